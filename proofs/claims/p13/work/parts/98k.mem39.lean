/-! The class's policy. -/
theorem PC.keepX {l : List Nat} {w w1 : mW} {μ μ1 : mM} (h : PC w μ) (hw : mWF w) (hX : mX l w μ w1 μ1) (hc : w1.2.2.2 2 = w.2.2.2 2) (hl : pcFree l = true) (hT : mT w μ) : PC w1 μ1 := by
  simp only [pcFree, Bool.and_eq_true, Bool.not_eq_true'] at hl
  obtain ⟨l1, l2, l3, l4, l5, l6, l7, l8⟩ := hl
  intro p hp
  have e22 : μ1 22 p = μ 22 p := hX.f (A_22 hw) l1 rfl
  rw [e22]
  obtain ⟨hA, hA1, h1, h2, h3⟩ := h p (by rw [← hc]; exact hp)
  have f0 : μ1 (μ 22 p).toNat 0 = μ (μ 22 p).toNat 0 := hX.f hA l2 rfl
  have f1 : μ1 (μ 22 p).toNat 1 = μ (μ 22 p).toNat 1 := hX.f hA l3 rfl
  have f2 : μ1 (μ 22 p).toNat 2 = μ (μ 22 p).toNat 2 := hX.f hA l4 rfl
  have f3 : μ1 (μ 22 p).toNat 3 = μ (μ 22 p).toNat 3 := hX.f hA l5 rfl
  have f4 : μ1 (μ 22 p).toNat 4 = μ (μ 22 p).toNat 4 := hX.f hA l6 rfl
  have f5 : μ1 (μ 22 p).toNat 5 = μ (μ 22 p).toNat 5 := hX.f hA l7 rfl
  have fc : μ1 (μ (μ 22 p).toNat 1).toNat = μ (μ (μ 22 p).toNat 1).toNat := funext fun i => hX.f hA1 l8 rfl
  have len : ∀ {a s : Nat}, mAt w a s → w1.2.2.1 a = w.2.2.1 a := fun g => (hX.1.2.1 _ g.2.1).2
  have r2 := (hT _ 230 hA 2).2
  have r3 := (hT _ 230 hA 3).2
  have r4 := (hT _ 230 hA 4).2
  have r5 := (hT _ 230 hA 5).2
  exact ⟨hA.ext hX.1, by rw [f1]; exact hA1.ext hX.1, by rw [f0, f1, fc, len hA1]; exact h1, by rw [f2, f3, len r2, len r3]; exact h2, by rw [f4, f5, len r4, len r5]; exact h3⟩
section MV39
variable {l : Launch} {D : va_G} {c : Nat → ClassId} {H0 : Heap} {sa : Nat × Nat × (Nat → Int32)} {w : mW} {μ : mM}
theorem wCt.ext {w : mW} {k : Nat} : wE w (wCt w k) := ⟨Nat.le_refl _, fun _ _ => ⟨rfl, rfl⟩, fun _ h1 h2 => absurd h2 (Nat.not_lt.mpr h1)⟩
theorem c_X1_addPolicy (hw : mWF w) (hT : mT w μ) {n : Int} {b : Nat} (q : μ 21 8 = n) (hn : n ≤ 11) (hB : mAt w b 230) : sC (gG l D c H0 sa) mX1_addPolicy 1 0 0 [.ref 21, .ref b] (mk w μ) (qIx w [21008, 22999] μ (fun z w1 μ1 => z = n ∧ w1 = wCt w 2 ∧ μ1 22 n.toNat = (b : Int) ∧ (∀ a i, (a ≠ 22 ∨ i ≠ n.toNat) → (a ≠ 21 ∨ i ≠ 8) → μ1 a i = μ a i))) := by
  have h6 : μ 21 8 = w.2.2.2 2 ∧ 0 ≤ μ 21 8 ∧ μ 21 8 ≤ 12 := hT 21 21 (A_21 hw) 8
  refine sC.of rfl (by decide) (le_t rfl) ?_
  refine sv_aload_n (pc := 0) dX1_addPolicy_0 rfl rfl ?_
  refine gf_X1_1 (pc := 1) dX1_addPolicy_1 wF_X1_17 (A_21 hw) hT ?_
  refine sv_aload_n (pc := 4) dX1_addPolicy_4 rfl rfl ?_
  refine gk_X1_8 (pc := 5) dX1_addPolicy_5 wF_X1_21 (A_21 hw) q ?_
  refine sv_aload_n (pc := 8) dX1_addPolicy_8 rfl rfl ?_
  refine mr_aast (pc := 9) (kd := 7) (ci := 5) (T := (RX5, TX5, 6)) dX1_addPolicy_9 (gCX5 l D c H0 sa) rfl (A_22 hw) rfl ⟨by omega, by rw [(A_22 hw).2.2.2 rfl]; show n < 12; omega⟩ (Nat.le_trans (A_22 hw).2.2.1 (le_t rfl)) hB rfl fun μ2 hu2 => ?_
  have q2 : μ2 21 8 = n := (hu2.2 21 8 (Or.inl (by decide))).trans q
  refine sv_aload_n (pc := 10) dX1_addPolicy_10 rfl rfl ?_
  refine sv_dup (pc := 11) dX1_addPolicy_11 rfl ?_
  refine gk_X1_8 (pc := 12) dX1_addPolicy_12 wF_X1_21 (A_21 hw) q2 ?_
  refine mr_iconst (pc := 15) (z := 1) dX1_addPolicy_15 ?_
  refine mr_iadd (pc := 16) dX1_addPolicy_16 ?_
  refine mr_put (pc := 17) (g := gG l D c H0 sa) (kk := 0) (k := 8) dX1_addPolicy_17 (gCX1 l D c H0 sa) (lt_t rfl) wF_X1_21 rfl (A_21 hw) rfl (lt_t rfl) rfl (fun _ => rfl) (fun _ => rfl) (fun μ3 hu3 => ?_)
  have q3 : μ3 21 8 = n + 1 := hu3.1
  refine sv_aload_n (pc := 20) dX1_addPolicy_20 rfl rfl ?_
  refine gk_X1_8 (pc := 21) dX1_addPolicy_21 wF_X1_21 (A_21 hw) q3 ?_
  refine mr_iconst (pc := 24) (z := 1) dX1_addPolicy_24 ?_
  refine mr_isub (pc := 25) dX1_addPolicy_25 ?_
  have q4 : μ3 22 n.toNat = (b : Int) := (hu3.2 22 _ (Or.inl (by decide))).trans hu2.1
  have hT3 : mT (wCt w 2) μ3 := mT.ct (m := 12) ctOK_2 rfl rfl (fun _ => rfl) rfl hw hT (by omega) ⟨by omega, by omega⟩ hB q4 q3 (fun a i h1 h2 => (hu3.2 a i h2).trans (hu2.2 a i h1))
  refine mr_iretX (pc := 26) (w1 := wCt w 2) dX1_addPolicy_26 rfl (le_t rfl) (le_t rfl) hw.ct hT3 ⟨wCt.ext, fun a i ha hl => ?_⟩ ⟨by omega, rfl, q4, fun a i h1 h2 => (hu3.2 a i h2).trans (hu2.2 a i h1)⟩
  rw [hu3.2 a i ?_, hu2.2 a i ?_]
  · refine Classical.or_iff_not_imp_left.mpr fun h1 h2 => ?_
    have e : a = 22 := Classical.not_not.mp h1
    subst e
    rw [show mRg w 22 i = 22999 by simp only [mRg, (A_22 hw).1]; rfl] at hl
    cases hl
  · refine Classical.or_iff_not_imp_left.mpr fun h1 h2 => ?_
    have e : a = 21 := Classical.not_not.mp h1
    subst e
    subst h2
    rw [show mRg w 21 8 = 21008 by simp only [mRg, (A_21 hw).1]; rfl] at hl
    cases hl
/-- one policy more -/
theorem PC.add {r cs np nw n : Int} {μ2 : mM} (h : PC w μ) (hw : mWF w) (hT : mT w μ) (hc : cs ≤ 2000) (hp : np ≤ 40) (hwy : nw ≤ 250) (hn : w.2.2.2 2 = n) (hn0 : 0 ≤ n) (hwf : wfF (μ 27) r.toNat cs.toNat) (q : μ2 22 n.toNat = (w.1 : Int)) (hk : ∀ a i, (a ≠ 22 ∨ i ≠ n.toNat) → (a ≠ 21 ∨ i ≠ 8) → μ2 a i = mPol w μ r a i) : PC (wCt (wPol w cs.toNat np.toNat nw.toNat) 2) μ2 := by
  have w192 := hw.2.1
  have hP : PC (wPol w cs.toNat np.toNat nw.toNat) (mPol w μ r) := h.keepX (l := []) hw ⟨wPol.ext, fun a i ha _ => if_pos ha⟩ rfl rfl hT
  intro p hp2
  have hp2 : (p : Int) < w.2.2.2 2 + 1 := hp2
  by_cases e : p = n.toNat
  · subst e
    rw [q]
    show wfP _ μ2 w.1
    have k0 : ∀ a i, w.1 ≤ a → μ2 a i = mPol w μ r a i := fun a i ha => hk a i (Or.inl (by omega)) (Or.inl (by omega))
    have e0 : μ2 w.1 0 = r := (k0 w.1 0 (Nat.le_refl _)).trans mPol.at0
    have e1 : μ2 w.1 1 = ((w.1 + 1 : Nat) : Int) := (k0 w.1 1 (Nat.le_refl _)).trans mPol.at0
    have e2 : μ2 w.1 2 = ((w.1 + 2 : Nat) : Int) := (k0 w.1 2 (Nat.le_refl _)).trans mPol.at0
    have e3 : μ2 w.1 3 = ((w.1 + 3 : Nat) : Int) := (k0 w.1 3 (Nat.le_refl _)).trans mPol.at0
    have e4 : μ2 w.1 4 = ((w.1 + 4 : Nat) : Int) := (k0 w.1 4 (Nat.le_refl _)).trans mPol.at0
    have e5 : μ2 w.1 5 = ((w.1 + 5 : Nat) : Int) := (k0 w.1 5 (Nat.le_refl _)).trans mPol.at0
    have ec : μ2 (w.1 + 1) = μ 27 := funext fun i => (k0 (w.1 + 1) i (by omega)).trans (mPol.at (j := 0))
    refine ⟨wPol.at0, ?_, ?_, ?_, ?_⟩
    · rw [e1, Int.toNat_natCast]; exact wPol.at1 (by omega) (by omega) (by omega)
    · rw [e0, e1, Int.toNat_natCast, ec]
      show wfR (μ 27) ((wPol w cs.toNat np.toNat nw.toNat).2.2.1 (w.1 + 1)) 0 r.toNat
      rw [wPol.len]; exact hwf.fin
    · rw [e2, e3, Int.toNat_natCast, Int.toNat_natCast]
      exact (wPol.len (j := 2)).trans (wPol.len (j := 3)).symm
    · rw [e4, e5, Int.toNat_natCast, Int.toNat_natCast]
      exact (wPol.len (j := 4)).trans (wPol.len (j := 5)).symm
  · have hlt : (p : Int) < w.2.2.2 2 := by omega
    have g := hP p hlt
    have e22 : μ2 22 p = mPol w μ r 22 p := hk 22 p (Or.inr e) (Or.inl (by decide))
    rw [e22]
    have hb : ∀ {a s : Nat}, mAt (wPol w cs.toNat np.toNat nw.toNat) a s → 100 < s → ∀ i, μ2 a i = mPol w μ r a i := fun {a s} gA gs i => by
      refine hk a i (Or.inl fun e => ?_) (Or.inl fun e => ?_)
      · subst e; have g1 := gA.1; have g2 := (hw.ext (wPol.ext (cs := cs.toNat) (np := np.toNat) (nw := nw.toNat))).1 22 (by decide); rw [g1] at g2; have : s = 22 := g2; omega
      · subst e; have g1 := gA.1; have g2 := (hw.ext (wPol.ext (cs := cs.toNat) (np := np.toNat) (nw := nw.toNat))).1 21 (by decide); rw [g1] at g2; have : s = 21 := g2; omega
    obtain ⟨hA, hA1, h1, h2, h3⟩ := g
    have f := hb hA (by decide)
    have fc : μ2 (mPol w μ r (mPol w μ r 22 p).toNat 1).toNat = mPol w μ r (mPol w μ r (mPol w μ r 22 p).toNat 1).toNat := funext (hb hA1 (by decide))
    exact ⟨hA, by rw [f 1]; exact hA1, by rw [f 0, f 1, fc]; exact h1, by rw [f 2, f 3]; exact h2, by rw [f 4, f 5]; exact h3⟩
variable {M M' : sM} {R : Room} {Z : sZT} {pc d' C' S' : Nat} {lv : List (Nat × Value)} {st st0 av : List Value} {ce sl : Nat} {ll : List Nat}
theorem mr_cVRX {g : sG} {index ci a s : Nat} {T : vw_C} {ty : Nat → FieldType} {ks : List Nat} {P : Nat → mW → mM → Prop} (hct : sC g M' d' C' S' (.ref a :: av) (mk w μ) (qRx w ll μ P)) (ho : sOk g) (hd : decode M.2.1 pc = .ok (.invokevirtual index, 3)) (hm : sMt g M' av.length) (hi : Cond.instanceMethod M'.1 ∈ sg_ws g ∧ Cond.selects M'.1.cls M'.1 M'.1 ∈ sg_ws g) (hlk : Cond.methodLink M.1.cls index M'.1 ∈ sg_ws g) (hC : sCl g ci T ty) (hT1 : T.1 = M'.1.cls) (hA : mAt w a s) (hs : mTab s = .inl (ci, ks)) (hR : d' + 1 ≤ R.frames ∧ 60 * d' + M'.2.2.1 + 19 ≤ R.locals) (hce : ce + C' ≤ R.cells ∧ sl + S' ≤ R.slots) (hst : st0 = av.reverse ++ .ref a :: st) (hr8 : (st.map fun v => v.category).sum ≤ 8)
    (kt : ∀ b w1 μ1, mWF w1 → mT w1 μ1 → mX ll w μ w1 μ1 → P b w1 μ1 → sV g M R Z (pc + 3) lv (.ref b :: st) (mk w1 μ1) (ce + C') (sl + S')) : sV g M R Z pc lv st0 (mk w μ) ce sl :=
  sv_callV hct ho hd hm hi hlk hC hT1 hA.2.1 (mk_obj hA hs) hR hce hst hr8 (by
    rintro r hp' ⟨b, w1, μ1, rfl, rfl, h0, h1, h2, h3⟩
    exact kt b w1 μ1 h0 h1 h2 h3)
def plL : List Nat := [10, 21008, 22999, 23008, 23009, 23010, 23011, 23012, 23013, 23014, 23015, 23016, 23017, 23018, 23019, 24999, 25999, 26999, 27999, 28999, 29999, 30999, 31999]
theorem c_X11_policy (hcl : clP (gG l D c H0 sa)) (hw : mWF w) (hT : mT w μ) (hPC : PC w μ) : sC (gG l D c H0 sa) mX11_policy 18 6 2586 [.ref 0] (mk w μ) (qIx w plL μ (fun z w1 μ1 => (-2147483648 ≤ z ∧ z ≤ 2147483647) ∧ PC w1 μ1 ∧ ((w1 = w) ∨ (w1.1 = w.1 + 6 ∧ szW w1 ≤ szW w + 2586 ∧ w1.2.2.2 = (wCt w 2).2.2.2)))) := by
  refine sC.of rfl (by decide) (le_t rfl) ?_
  refine sv_aload_n (pc := 0) dX11_policy_0 rfl rfl ?_
  refine gf_X11_5 (pc := 1) dX11_policy_1 wF_X11_42 (A_0 hw) hT ?_
  refine sv_aload_n (pc := 4) dX11_policy_4 rfl rfl ?_
  refine gf_X11_0 (pc := 5) dX11_policy_5 wF_X11_9 (A_0 hw) hT ?_
  refine sv_aload_n (pc := 8) dX11_policy_8 rfl rfl ?_
  refine gf_X11_10 (pc := 9) dX11_policy_9 wF_X11_76 (A_0 hw) hT fun ts _ hts => ?_
  refine sv_aload_n (pc := 12) dX11_policy_12 rfl rfl ?_
  refine gf_X11_4 (pc := 13) dX11_policy_13 wF_X11_35 (A_0 hw) hT ?_
  refine gf_X1_8 (pc := 16) dX11_policy_16 wF_X11_205 (A_21 hw) hT fun pn _ hpn => ?_
  refine mr_cVV (pc := 19) (c_X6_read hw hT (A_1 hw) hts hpn.2) (gOk _ _ _ _ _) dX11_policy_19 (tX6_read _ _ _ _ _) ⟨wV_X6_read, wL_X6_read⟩ wM_X11_208 (gCX6 _ _ _ _ _) rfl (A_23 hw) rfl ⟨le_t rfl, le_t rfl⟩ ⟨le_t rfl, le_t rfl⟩ rfl (le_t rfl) fun μ1 T1 F1 P1 => ?_
  obtain ⟨ft, rw_, cs, qf, qr, qc, hwf, -⟩ := P1
  refine sv_aload_n (pc := 22) dX11_policy_22 rfl rfl ?_
  refine mr_iconst (pc := 23) (z := 0) dX11_policy_23 ?_
  refine pf_X11_10 (pc := 24) dX11_policy_24 wF_X11_76 (A_0 hw) T1 (z := 0) (by decide) fun μ2 U2 T2 => ?_
  have k2 : ∀ a i, a ≠ 0 → μ2 a i = μ1 a i := fun a i ha => U2.2 a i (Or.inl ha)
  have F2 : mF plL w μ μ2 := (mF.up (mF.call (l := plL) mF.refl F1 rfl) (A_0 hw) U2 rfl)
  have hPC2 : PC w μ2 := hPC.keep hw (mF.up (mF.call (l := [10, 23008, 23009, 23010, 23011, 23012, 23013, 23014, 23015, 23016, 23017, 23018, 23019, 24999, 25999, 26999, 27999, 28999, 29999, 30999, 31999]) mF.refl F1 rfl) (A_0 hw) U2 rfl) rfl
  have X2 : mX plL w μ w μ2 := mX.fr mX.refl F2 (by decide)
  refine sv_aload_n (pc := 27) dX11_policy_27 rfl rfl ?_
  refine gf_X11_5 (pc := 28) dX11_policy_28 wF_X11_42 (A_0 hw) T2 ?_
  refine gk_X6_18 (pc := 31) dX11_policy_31 wF_X11_212 (A_23 hw) ((k2 23 18 (by decide)).trans qf) ?_
  have t18 : 0 ≤ μ1 23 18 ∧ μ1 23 18 ≤ 4 := T1 23 23 (A_23 hw) 18
  have t10 : 0 ≤ μ2 23 10 ∧ μ2 23 10 ≤ 30 := T2 23 23 (A_23 hw) 10
  have t11 : 0 ≤ μ2 23 11 ∧ μ2 23 11 ≤ 2000 := T2 23 23 (A_23 hw) 11
  have t12 : 0 ≤ μ2 23 12 ∧ μ2 23 12 ≤ 40 := T2 23 23 (A_23 hw) 12
  have t13 : 0 ≤ μ2 23 13 ∧ μ2 23 13 ≤ 250 := T2 23 23 (A_23 hw) 13
  refine mr_if_eq (pc := 34) (tgt := 48) dX11_policy_34 (by decide) ⟨by omega, by omega⟩ (fun e0 => ?_) (fun _ => ?_)
  · refine sv_aload_n (pc := 48) dX11_policy_48 rfl rfl ?_
    refine gf_X11_4 (pc := 49) dX11_policy_49 wF_X11_35 (A_0 hw) T2 ?_
    refine gf_X1_8 (pc := 52) dX11_policy_52 wF_X11_205 (A_21 hw) T2 fun n qn hn => ?_
    refine mr_bipush (pc := 55) (z := 12) dX11_policy_55 (by decide) ?_
    refine mr_icmp_lt (pc := 57) (tgt := 63) dX11_policy_57 (by decide) ⟨by omega, by omega⟩ (by decide) (fun h1 => ?_) (fun _ => ?_)
    · refine sv_aload_n (pc := 63) dX11_policy_63 rfl rfl ?_
      refine gf_X11_4 (pc := 64) dX11_policy_64 wF_X11_35 (A_0 hw) T2 ?_
      refine sv_aload_n (pc := 67) dX11_policy_67 rfl rfl ?_
      refine gf_X11_5 (pc := 68) dX11_policy_68 wF_X11_42 (A_0 hw) T2 ?_
      refine mr_cVRX (pc := 71) (c_X6_result hcl hw T2 ((k2 23 10 (by decide)).trans qr) ((k2 23 11 (by decide)).trans qc) rfl rfl) (gOk _ _ _ _ _) dX11_policy_71 (tX6_result _ _ _ _ _) ⟨wV_X6_result, wL_X6_result⟩ wM_X11_218 (gCX6 _ _ _ _ _) rfl (A_23 hw) rfl ⟨le_t rfl, le_t rfl⟩ ⟨le_t rfl, le_t rfl⟩ rfl (le_t rfl) fun b w3 μ3 hw3 T3 X3 P3 => ?_
      obtain ⟨rfl, rfl, rfl⟩ := P3
      have w192 := hw.2.1
      have q8 : mPol w μ2 rw_ 21 8 = n := (if_pos (by omega)).trans qn
      refine mr_cVIX (pc := 74) (c_X1_addPolicy hw3 T3 q8 (by omega) wPol.at0) (gOk _ _ _ _ _) dX11_policy_74 (tX1_addPolicy _ _ _ _ _) ⟨wV_X1_addPolicy, wL_X1_addPolicy⟩ wM_X11_222 (gCX1 _ _ _ _ _) rfl (A_21 hw3) rfl ⟨le_t rfl, le_t rfl⟩ ⟨le_t rfl, le_t rfl⟩ rfl (le_t rfl) fun z w4 μ4 hw4 T4 X4 P4 => ?_
      obtain ⟨rfl, rfl, q4, k4⟩ := P4
      have e27 : μ2 27 = μ1 27 := funext fun i => k2 27 i (by decide)
      have e11 : μ2 23 11 = cs := (k2 23 11 (by decide)).trans qc
      have hP4 : PC _ μ4 := PC.add (cs := cs) (np := μ2 23 12) (nw := μ2 23 13) hPC2 hw T2 (by omega) (by omega) (by omega) (by omega) (by omega) (by rw [e27]; exact hwf.resolve_left (fun h => h e0)) q4 k4
      exact mr_iretX (pc := 77) dX11_policy_77 rfl (le_t rfl) (le_t rfl) hw4 T4 ((X2.trans X3 rfl).trans X4 (by decide)) ⟨⟨by omega, by omega⟩, hP4, Or.inr ⟨rfl, by have := wPol.z (w := w) (cs := cs.toNat) (np := (μ2 23 12).toNat) (nw := (μ2 23 13).toNat); have e9 : szW (wCt (wPol w cs.toNat (μ2 23 12).toNat (μ2 23 13).toNat) 2) = szW (wPol w cs.toNat (μ2 23 12).toNat (μ2 23 13).toNat) := rfl; omega, rfl⟩⟩
    · refine mr_bipush (pc := 60) (z := -3) dX11_policy_60 (by decide) ?_
      exact mr_iretX (pc := 62) dX11_policy_62 rfl (le_t rfl) (le_t rfl) hw T2 X2 ⟨by decide, hPC2, Or.inl rfl⟩
  · refine mr_bipush (pc := 37) (z := -10) dX11_policy_37 (by decide) ?_
    refine sv_aload_n (pc := 39) dX11_policy_39 rfl rfl ?_
    refine gf_X11_5 (pc := 40) dX11_policy_40 wF_X11_42 (A_0 hw) T2 ?_
    refine gf_X6_19 (pc := 43) dX11_policy_43 wF_X11_215 (A_23 hw) T2 fun fp _ hfp => ?_
    refine mr_isub (pc := 46) dX11_policy_46 ?_
    exact mr_iretX (pc := 47) dX11_policy_47 rfl (le_t rfl) (le_t rfl) hw T2 X2 ⟨⟨by omega, by omega⟩, hPC2, Or.inl rfl⟩
end MV39
