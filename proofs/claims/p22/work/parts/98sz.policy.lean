def plC (μ μ1 : mM) (z : Int) : Prop := (¬ μ1 23 18 = 0 → z = -10 - μ1 23 19 ∧ μ1 21 8 = μ 21 8) ∧ (μ1 23 18 = 0 → μ 21 8 = 12 → z = -3 ∧ μ1 21 8 = μ 21 8) ∧ (μ1 23 18 = 0 → ¬ μ 21 8 = 12 → z = μ 21 8 ∧ μ1 21 8 = μ 21 8 + 1)
theorem plC.full {μ μ1 : mM} (h0 : μ1 23 18 = 0) (h1 : μ1 21 8 = μ 21 8) (h2 : μ 21 8 = 12) : plC μ μ1 (-3) := ⟨fun h => absurd h0 h, fun _ _ => ⟨rfl, h1⟩, fun _ h => absurd h2 h⟩
theorem plC.bad {μ μ1 : mM} {z : Int} (h0 : ¬ μ1 23 18 = 0) (h1 : μ1 21 8 = μ 21 8) (h2 : z = -10 - μ1 23 19) : plC μ μ1 z := ⟨fun _ => ⟨h2, h1⟩, fun h => absurd h h0, fun h => absurd h h0⟩
theorem plC.ok {μ μ2 μ1 : mM} {n z : Int} (h0 : μ1 23 18 = 0) (h1 : μ2 21 8 = μ 21 8) (qn : μ2 21 8 = n) (hz : z = n ∧ n < 12) (h2 : μ1 21 8 = n + 1) : plC μ μ1 z := ⟨fun h => absurd h0 h, fun _ h => by omega, fun _ _ => by omega⟩
theorem RdC.of {μ μx μ1 : mM} {c : Int} (h : RdC μ μx c) (e8 : μ1 23 18 = μx 23 18) (e9 : μ1 23 19 = μx 23 19) : RdC μ μ1 c := by
  unfold RdC
  rw [e8, e9]; exact h
theorem bR.keepX {lf : List Nat} {w w1 : mW} {μ μ1 : mM} (hw : mWF w) (hX : mX lf w μ w1 μ1) (h1 : lf.elem 106001 = false) (h2 : lf.elem 107999 = false) : bR μ1 = bR μ := by
  have e1 : μ1 106 1 = μ 106 1 := hX.f (A_106 hw) h1 rfl
  have e2 : ∀ k, μ1 107 k = μ 107 k := fun k => hX.f (A_107 hw) h2 rfl
  funext k
  unfold bR byteF
  rw [e1, e2]
section MV39w
variable {l : Launch} {D : va_G} {c : Nat → ClassId} {H0 : Heap} {sa : Nat × Nat × (Nat → Int32)} {w : mW} {μ : mM}
theorem c_X11_policy_w (hcl : clP (gG l D c H0 sa)) (hw : mWF w) (hT : mT w μ) (hPC : PC w μ) : sC (gG l D c H0 sa) mX11_policy 18 6 2586 [.ref 0] (mk w μ) (qIx w plL μ (fun z w1 μ1 => (-2147483648 ≤ z ∧ z ≤ 2147483647) ∧ PC w1 μ1 ∧ ((w1 = w) ∨ (w1.1 = w.1 + 6 ∧ szW w1 ≤ szW w + 2586 ∧ w1.2.2.2 = (wCt w 2).2.2.2)) ∧ μ1 0 10 = 0 ∧ RdC μ μ1 (μ 21 8) ∧ plC μ μ1 z)) := by
  refine sC.of rfl (by decide) (le_t rfl) ?_
  refine sv_aload_n (pc := 0) dX11_policy_0 rfl rfl ?_
  refine gf_X11_5 (pc := 1) dX11_policy_1 wF_X11_42 (A_0 hw) hT ?_
  refine sv_aload_n (pc := 4) dX11_policy_4 rfl rfl ?_
  refine gf_X11_0 (pc := 5) dX11_policy_5 wF_X11_9 (A_0 hw) hT ?_
  refine sv_aload_n (pc := 8) dX11_policy_8 rfl rfl ?_
  refine gf_X11_10 (pc := 9) dX11_policy_9 wF_X11_76 (A_0 hw) hT fun ts qts hts => ?_
  refine sv_aload_n (pc := 12) dX11_policy_12 rfl rfl ?_
  refine gf_X11_4 (pc := 13) dX11_policy_13 wF_X11_35 (A_0 hw) hT ?_
  refine gf_X1_8 (pc := 16) dX11_policy_16 wF_X11_205 (A_21 hw) hT fun pn qpn hpn => ?_
  refine mr_cVV (pc := 19) (c_X6_read_v hw hT (A_1 hw) hts hpn.2 rfl qts.symm) (gOk _ _ _ _ _) dX11_policy_19 (tX6_read _ _ _ _ _) ⟨wV_X6_read, wL_X6_read⟩ wM_X11_208 (gCX6 _ _ _ _ _) rfl (A_23 hw) rfl ⟨le_t rfl, le_t rfl⟩ ⟨le_t rfl, le_t rfl⟩ rfl (le_t rfl) fun μ1 T1 F1 P1 => ?_
  obtain ⟨ft, rw_, cs, fp1, qf, qr, qc, qfp, hwf, hrd, -⟩ := P1
  rw [← qpn] at hrd
  have e21 : μ1 21 8 = μ 21 8 := F1.f (A_21 hw) rfl rfl
  refine sv_aload_n (pc := 22) dX11_policy_22 rfl rfl ?_
  refine mr_iconst (pc := 23) (z := 0) dX11_policy_23 ?_
  refine pf_X11_10 (pc := 24) dX11_policy_24 wF_X11_76 (A_0 hw) T1 (z := 0) (by decide) fun μ2 U2 T2 => ?_
  have k2 : ∀ a i, a ≠ 0 → μ2 a i = μ1 a i := fun a i ha => U2.2 a i (Or.inl ha)
  have F2 : mF plL w μ μ2 := (mF.up (mF.call (l := plL) mF.refl F1 rfl) (A_0 hw) U2 rfl)
  have hPC2 : PC w μ2 := hPC.keep hw (mF.up (mF.call (l := [10, 23008, 23009, 23010, 23011, 23012, 23013, 23014, 23015, 23016, 23017, 23018, 23019, 24999, 25999, 26999, 27999, 28999, 29999, 30999, 31999]) mF.refl F1 rfl) (A_0 hw) U2 rfl) rfl
  have X2 : mX plL w μ w μ2 := mX.fr mX.refl F2 (by decide)
  refine sv_aload_n (pc := 27) dX11_policy_27 rfl rfl ?_
  refine gf_X11_5 (pc := 28) dX11_policy_28 wF_X11_42 (A_0 hw) T2 ?_
  refine gk_X6_18 (pc := 31) dX11_policy_31 wF_X11_212 (A_23 hw) ((k2 23 18 (by decide)).trans qf) ?_
  have t18 : 0 ≤ μ1 23 18 ∧ μ1 23 18 ≤ 4 := T1 23 23 (A_23 hw) 18
  have t10 : 0 ≤ μ2 23 10 ∧ μ2 23 10 ≤ 30 := T2 23 23 (A_23 hw) 10
  have t11 : 0 ≤ μ2 23 11 ∧ μ2 23 11 ≤ 2000 := T2 23 23 (A_23 hw) 11
  have t12 : 0 ≤ μ2 23 12 ∧ μ2 23 12 ≤ 40 := T2 23 23 (A_23 hw) 12
  have t13 : 0 ≤ μ2 23 13 ∧ μ2 23 13 ≤ 250 := T2 23 23 (A_23 hw) 13
  refine mr_if_eq (pc := 34) (tgt := 48) dX11_policy_34 (by decide) ⟨by omega, by omega⟩ (fun e0 => ?_) (fun e0 => ?_)
  · refine sv_aload_n (pc := 48) dX11_policy_48 rfl rfl ?_
    refine gf_X11_4 (pc := 49) dX11_policy_49 wF_X11_35 (A_0 hw) T2 ?_
    refine gf_X1_8 (pc := 52) dX11_policy_52 wF_X11_205 (A_21 hw) T2 fun n qn hn => ?_
    refine mr_bipush (pc := 55) (z := 12) dX11_policy_55 (by decide) ?_
    refine mr_icmp_lt (pc := 57) (tgt := 63) dX11_policy_57 (by decide) ⟨by omega, by omega⟩ (by decide) (fun h1 => ?_) (fun h1 => ?_)
    · refine sv_aload_n (pc := 63) dX11_policy_63 rfl rfl ?_
      refine gf_X11_4 (pc := 64) dX11_policy_64 wF_X11_35 (A_0 hw) T2 ?_
      refine sv_aload_n (pc := 67) dX11_policy_67 rfl rfl ?_
      refine gf_X11_5 (pc := 68) dX11_policy_68 wF_X11_42 (A_0 hw) T2 ?_
      refine mr_cVRX (pc := 71) (c_X6_result hcl hw T2 ((k2 23 10 (by decide)).trans qr) ((k2 23 11 (by decide)).trans qc) rfl rfl) (gOk _ _ _ _ _) dX11_policy_71 (tX6_result _ _ _ _ _) ⟨wV_X6_result, wL_X6_result⟩ wM_X11_218 (gCX6 _ _ _ _ _) rfl (A_23 hw) rfl ⟨le_t rfl, le_t rfl⟩ ⟨le_t rfl, le_t rfl⟩ rfl (le_t rfl) fun b w3 μ3 hw3 T3 X3 P3 => ?_
      obtain ⟨rfl, rfl, rfl⟩ := P3
      have w192 := hw.2.1
      have q8 : mPol w μ2 rw_ 21 8 = n := (if_pos (by omega)).trans qn
      refine mr_cVIX (pc := 74) (c_X1_addPolicy hw3 T3 q8 (by omega) wPol.at0) (gOk _ _ _ _ _) dX11_policy_74 (tX1_addPolicy _ _ _ _ _) ⟨wV_X1_addPolicy, wL_X1_addPolicy⟩ wM_X11_222 (gCX1 _ _ _ _ _) rfl (A_21 hw3) rfl ⟨le_t rfl, le_t rfl⟩ ⟨le_t rfl, le_t rfl⟩ rfl (le_t rfl) fun z w4 μ4 hw4 T4 X4 P4 => ?_
      obtain ⟨rfl, rfl, q4, k4⟩ := P4
      have e418 : μ4 23 18 = μ1 23 18 := (k4 23 18 (Or.inl (by decide)) (Or.inl (by decide))).trans ((if_pos (by omega) : mPol w μ2 rw_ 23 18 = μ2 23 18).trans (k2 23 18 (by decide)))
      have e419 : μ4 23 19 = μ1 23 19 := (k4 23 19 (Or.inl (by decide)) (Or.inl (by decide))).trans ((if_pos (by omega) : mPol w μ2 rw_ 23 19 = μ2 23 19).trans (k2 23 19 (by decide)))
      have q84 : μ4 21 8 = z + 1 := by
        have h := (T4 21 21 (A_21 hw4) 8).1
        have g := (T2 21 21 (A_21 hw) 8).1
        have h1 : μ4 21 8 = (wCt (wPol w cs.toNat (μ2 23 12).toNat (μ2 23 13).toNat) 2).2.2.2 2 := h
        have g1 : μ2 21 8 = w.2.2.2 2 := g
        have e3 : (wCt (wPol w cs.toNat (μ2 23 12).toNat (μ2 23 13).toNat) 2).2.2.2 2 = w.2.2.2 2 + 1 := rfl
        omega
      have e27 : μ2 27 = μ1 27 := funext fun i => k2 27 i (by decide)
      have e11 : μ2 23 11 = cs := (k2 23 11 (by decide)).trans qc
      have hP4 : PC _ μ4 := PC.add (cs := cs) (np := μ2 23 12) (nw := μ2 23 13) hPC2 hw T2 (by omega) (by omega) (by omega) (by omega) (by omega) (by rw [e27]; exact hwf.resolve_left (fun h => h e0)) q4 k4
      exact mr_iretX (pc := 77) dX11_policy_77 rfl (le_t rfl) (le_t rfl) hw4 T4 ((X2.trans X3 rfl).trans X4 (by decide)) ⟨⟨by omega, by omega⟩, hP4, Or.inr ⟨rfl, by have := wPol.z (w := w) (cs := cs.toNat) (np := (μ2 23 12).toNat) (nw := (μ2 23 13).toNat); have e9 : szW (wCt (wPol w cs.toNat (μ2 23 12).toNat (μ2 23 13).toNat) 2) = szW (wPol w cs.toNat (μ2 23 12).toNat (μ2 23 13).toNat) := rfl; omega, rfl⟩, X4.f (A_0 hw3) rfl (X3.f (A_0 hw) rfl U2.1), hrd.of e418 e419, plC.ok (e418.trans (qf.trans e0)) ((k2 21 8 (by decide)).trans e21) qn (by omega) q84⟩
    · refine mr_bipush (pc := 60) (z := -3) dX11_policy_60 (by decide) ?_
      exact mr_iretX (pc := 62) dX11_policy_62 rfl (le_t rfl) (le_t rfl) hw T2 X2 ⟨by decide, hPC2, Or.inl rfl, U2.1, hrd.of (k2 23 18 (by decide)) (k2 23 19 (by decide)), plC.full ((k2 23 18 (by decide)).trans (qf.trans e0)) ((k2 21 8 (by decide)).trans e21) (by have h := (k2 21 8 (by decide)).trans e21; have g := hn.2.2; omega)⟩
  · refine mr_bipush (pc := 37) (z := -10) dX11_policy_37 (by decide) ?_
    refine sv_aload_n (pc := 39) dX11_policy_39 rfl rfl ?_
    refine gf_X11_5 (pc := 40) dX11_policy_40 wF_X11_42 (A_0 hw) T2 ?_
    refine gf_X6_19 (pc := 43) dX11_policy_43 wF_X11_215 (A_23 hw) T2 fun fp qfp2 hfp => ?_
    refine mr_isub (pc := 46) dX11_policy_46 ?_
    exact mr_iretX (pc := 47) dX11_policy_47 rfl (le_t rfl) (le_t rfl) hw T2 X2 ⟨⟨by omega, by omega⟩, hPC2, Or.inl rfl, U2.1, hrd.of (k2 23 18 (by decide)) (k2 23 19 (by decide)), plC.bad (by rw [k2 23 18 (by decide), qf]; exact e0) ((k2 21 8 (by decide)).trans e21) (by rw [qfp2])⟩
end MV39w
