theorem dBeg (w : mW) (μ : mM) (p : Nat) : mBlk w μ BX0 (w.1 + 2) p = -1 := by
  unfold mBlk
  rw [if_neg (by omega), Nat.add_sub_cancel_left]
  rfl
section MV34w
variable {l : Launch} {D : va_G} {c : Nat → ClassId} {H0 : Heap} {sa : Nat × Nat × (Nat → Int32)} {M : sM} {R : Room} {Z : sZT} {pc : Nat} {lv : List (Nat × Value)} {st : List Value} {w : mW} {μ : mM} {ce sl : Nat}
theorem mr_newDomV {i1 i2 : Nat} (hd : decode M.2.1 pc = .ok (.new i1, 3)) (hd2 : decode M.2.1 (pc + 3) = .ok (.dup, 1)) (hd3 : decode M.2.1 (pc + 4) = .ok (.invokespecial i2, 3)) (hcl : Cond.classLink M.1.cls i1 RX0 ∈ lw_ok) (hlk : Cond.methodLink M.1.cls i2 yX0_init ∈ lw_ok) (hw : mWF w) (hT : mT w μ) (hR : 6 ≤ R.frames ∧ 321 ≤ R.locals) (hce : ce + 35 ≤ R.cells ∧ sl + 442 ≤ R.slots) (hr8 : (st.map fun v => v.category).sum ≤ 7)
    (kk : ∀ w1 μ1, mWF w1 → mT w1 μ1 → mX [] w μ w1 μ1 → mAt w1 w.1 210 → (∀ p, μ1 (w.1 + 2) p = -1) → w1.2.2.2 = w.2.2.2 → w1.1 = w.1 + 35 → szW w1 = szW w + 442 → sV (gG l D c H0 sa) M R Z (pc + 7) lv (.ref w.1 :: st) (mk w1 μ1) (ce + 35) (sl + 442)) : sV (gG l D c H0 sa) M R Z pc lv st (mk w μ) ce sl := by
  refine sv_new (ci := 0) (T := (RX0, TX0, 6)) (fs := zX0) hd (gCX0 l D c H0 sa) hcl wN_X0 wI_X0 zX0_ok (by omega) (by show sl + 6 ≤ R.slots; omega) ?_
  refine sv_dup (pc := pc + 3) hd2 rfl ?_
  have hct := sC.shift (l := l) (D := D) (c := c) (H0 := H0) (sa := sa) (k := w.1) (n2 := 1) (av2 := [.ref 0]) (f := sUp (mk w μ).2 w.1 (.inr (0, zX0))) (f2 := fun _ => .inr (0, zX0)) (fun j hj => by
    have e : j = 0 := by omega
    subst e
    exact (sUp_at _ _ _).trans rfl) (fun H1 => ctorX0 l D c H1 sa)
  refine sv_callI (pc := pc + 3 + 1) (M' := mX0_init) (d' := 5) (C' := 34) (S' := 436) (av := []) (st := .ref w.1 :: st) hct (gOk l D c H0 sa) hd3 (tX0_init l D c H0 sa) rfl rfl wV_X0_init hlk ⟨by omega, by show 60 * 5 + 2 + 19 ≤ R.locals; omega⟩ ⟨by omega, by show sl + 6 + 436 ≤ R.slots; omega⟩ rfl (Nat.add_le_add_left hr8 1) ?_
  rintro r hp' ⟨r2, n3, f3, ⟨rfl, e3, h3⟩, rfl, rfl⟩
  have e3 : n3 = 35 := e3
  subst e3
  refine sv_heapE (hp' := mk (wBlk w BX0) (mBlk w μ BX0)) rfl (mkBlk (fun j hj => sUp_ne _ _ (Nat.ne_of_lt hj)) (fun j hj => sEq.sh (by rw [show f3 j = tX0N j from h3 j hj]; exact BX0_eq j hj))) ?_
  exact kk _ _ (hw.blk BX0_b) (mT.blk (fun h => by cases h) BX0_b BX0_ok hT) (mBlk.x BX0_b) (wBlk.at (j := 0) (by decide)) (fun p => dBeg w μ p) rfl rfl (by rw [szW.blk BX0_b, BX0_z])
end MV34w
section MV35w
variable {l : Launch} {D : va_G} {c : Nat → ClassId} {H0 : Heap} {sa : Nat × Nat × (Nat → Int32)} {w : mW} {μ : mM} {d : Nat}
theorem c_X10_addDomain_v (hw : mWF w) (hT : mT w μ) {n : Int} (q : μ 6 15 = n) (hn : n ≤ 9) : sC (gG l D c H0 sa) mX10_addDomain 6 35 442 [.ref 6] (mk w μ) (qIx w [6015, 10999] μ (fun z w1 μ1 => z = n ∧ w1.2.2.2 = (wCt w 0).2.2.2 ∧ w1.1 = w.1 + 35 ∧ szW w1 = szW w + 442 ∧ μ1 6 15 = n + 1 ∧ μ1 10 n.toNat = (w.1 : Int) ∧ (∀ i : Nat, i ≠ n.toNat → μ1 10 i = μ 10 i) ∧ ∀ p, μ1 (w.1 + 2) p = -1)) := by
  have h6 : μ 6 15 = w.2.2.2 0 ∧ 0 ≤ μ 6 15 ∧ μ 6 15 ≤ 10 := hT 6 6 (A_6 hw) 15
  refine sC.of rfl (by decide) (le_t rfl) ?_
  refine sv_aload_n (pc := 0) dX10_addDomain_0 rfl rfl ?_
  refine gf_X10_3 (pc := 1) dX10_addDomain_1 wF_X10_23 (A_6 hw) hT ?_
  refine sv_aload_n (pc := 4) dX10_addDomain_4 rfl rfl ?_
  refine gk_X10_15 (pc := 5) dX10_addDomain_5 wF_X10_68 (A_6 hw) q ?_
  refine mr_newDomV (pc := 8) dX10_addDomain_8 dX10_addDomain_11 dX10_addDomain_12 wC_X10_21 wM_X10_71 hw hT ⟨le_t rfl, le_t rfl⟩ ⟨le_t rfl, le_t rfl⟩ (le_t rfl) fun w1 μ1 hw1 hT1 hX hB hv hc hsz hzz => ?_
  have q1 : μ1 6 15 = n := hX.f (A_6 hw) rfl q
  refine mr_aast (pc := 15) (kd := 5) (ci := 0) (T := (RX0, TX0, 6)) dX10_addDomain_15 (gCX0 l D c H0 sa) rfl (A_10 hw1) rfl ⟨by omega, by rw [(A_10 hw1).2.2.2 rfl]; show n < 10; omega⟩ (Nat.le_trans (A_10 hw1).2.2.1 (le_t rfl)) hB rfl fun μ2 hu2 => ?_
  have q2 : μ2 6 15 = n := (hu2.2 6 15 (Or.inl (by decide))).trans q1
  refine sv_aload_n (pc := 16) dX10_addDomain_16 rfl rfl ?_
  refine sv_dup (pc := 17) dX10_addDomain_17 rfl ?_
  refine gk_X10_15 (pc := 18) dX10_addDomain_18 wF_X10_68 (A_6 hw1) q2 ?_
  refine mr_iconst (pc := 21) (z := 1) dX10_addDomain_21 ?_
  refine mr_iadd (pc := 22) dX10_addDomain_22 ?_
  refine mr_put (pc := 23) (g := gG l D c H0 sa) (kk := 0) (k := 15) dX10_addDomain_23 (gCX10 l D c H0 sa) (lt_t rfl) wF_X10_68 rfl (A_6 hw1) rfl (lt_t rfl) rfl (fun _ => rfl) (fun _ => rfl) (fun μ3 hu3 => ?_)
  have q3 : μ3 6 15 = n + 1 := hu3.1
  refine sv_aload_n (pc := 26) dX10_addDomain_26 rfl rfl ?_
  refine gk_X10_15 (pc := 27) dX10_addDomain_27 wF_X10_68 (A_6 hw1) q3 ?_
  refine mr_iconst (pc := 30) (z := 1) dX10_addDomain_30 ?_
  refine mr_isub (pc := 31) dX10_addDomain_31 ?_
  have q4 : μ3 10 n.toNat = (w.1 : Int) := (hu3.2 10 _ (Or.inl (by decide))).trans hu2.1
  have hc0 : w1.2.2.2 0 = n := by rw [hc]; omega
  have hT3 : mT (wCt w1 0) μ3 := mT.ct (m := 10) ctOK_0 rfl rfl (fun _ => rfl) rfl hw1 hT1 hc0 ⟨by omega, by omega⟩ hB q4 q3 (fun a i h1 h2 => (hu3.2 a i h2).trans (hu2.2 a i h1))
  have v3 : ∀ i : Nat, i ≠ n.toNat → μ3 10 i = μ 10 i := fun i hi => (hu3.2 10 i (Or.inl (by decide))).trans ((hu2.2 10 i (Or.inr hi)).trans (hX.f (A_10 hw) rfl rfl))
  have n10 : w.1 + 2 ≠ 10 := by have := (A_10 hw).2.1; omega
  have n6 : w.1 + 2 ≠ 6 := by have := (A_10 hw).2.1; omega
  have v5 : ∀ p, μ3 (w.1 + 2) p = -1 := fun p => (hu3.2 (w.1 + 2) p (Or.inl n6)).trans ((hu2.2 (w.1 + 2) p (Or.inl n10)).trans (hv p))
  refine mr_iretX (pc := 32) (w1 := wCt w1 0) dX10_addDomain_32 rfl (le_t rfl) (le_t rfl) hw1.ct hT3 ⟨hX.1, fun a i ha hl => ?_⟩ ⟨by omega, ?_, hsz, hzz, q3, q4, v3, v5⟩
  · have g := hX.2 a i ha rfl
    rw [← g, hu3.2 a i ?_, hu2.2 a i ?_]
    · refine Classical.or_iff_not_imp_left.mpr fun h1 h2 => ?_
      have e : a = 10 := Classical.not_not.mp h1
      subst e
      rw [show mRg w 10 i = 10999 by simp only [mRg, (A_10 hw).1]; rfl] at hl
      cases hl
    · refine Classical.or_iff_not_imp_left.mpr fun h1 h2 => ?_
      have e : a = 6 := Classical.not_not.mp h1
      subst e
      subst h2
      rw [show mRg w 6 15 = 6015 by simp only [mRg, (A_6 hw).1]; rfl] at hl
      cases hl
  · show (fun j => if j = 0 then w1.2.2.2 j + 1 else w1.2.2.2 j) = _
    rw [hc]; rfl
end MV35w
section MV36w
variable {l : Launch} {D : va_G} {c : Nat → ClassId} {H0 : Heap} {sa : Nat × Nat × (Nat → Int32)} {w : mW} {μ : mM}
theorem c_X11_domain_v (hw : mWF w) (hT : mT w μ) {n : Int} (q : μ 6 15 = n) : sC (gG l D c H0 sa) mX11_domain 7 35 442 [.ref 0] (mk w μ) (qIx w [6015, 10999] μ (fun z w1 μ1 => (n = 10 ∧ z = -3 ∧ w1 = w ∧ μ1 = μ) ∨ (n ≤ 9 ∧ z = n ∧ w1.2.2.2 = (wCt w 0).2.2.2 ∧ w1.1 = w.1 + 35 ∧ szW w1 = szW w + 442 ∧ μ1 6 15 = n + 1 ∧ μ1 10 n.toNat = (w.1 : Int) ∧ (∀ i : Nat, i ≠ n.toNat → μ1 10 i = μ 10 i) ∧ ∀ p, μ1 (w.1 + 2) p = -1))) := by
  have h6 : μ 6 15 = w.2.2.2 0 ∧ 0 ≤ μ 6 15 ∧ μ 6 15 ≤ 10 := hT 6 6 (A_6 hw) 15
  refine sC.of rfl (by decide) (le_t rfl) ?_
  refine sv_aload_n (pc := 0) dX11_domain_0 rfl rfl ?_
  refine gf_X11_3 (pc := 1) dX11_domain_1 wF_X11_26 (A_0 hw) hT ?_
  refine gk_X10_15 (pc := 4) dX11_domain_4 wF_X11_98 (A_6 hw) q ?_
  refine mr_bipush (pc := 7) (z := 10) dX11_domain_7 (by decide) ?_
  refine mr_icmp_lt (pc := 9) (tgt := 15) dX11_domain_9 (by decide) ⟨by omega, by omega⟩ (by decide) (fun h1 => ?_) (fun h1 => ?_)
  · refine sv_aload_n (pc := 15) dX11_domain_15 rfl rfl ?_
    refine gf_X11_3 (pc := 16) dX11_domain_16 wF_X11_26 (A_0 hw) hT ?_
    refine mr_cVIX (pc := 19) (c_X10_addDomain_v hw hT q (by omega)) (gOk _ _ _ _ _) dX11_domain_19 (tX10_addDomain _ _ _ _ _) ⟨wV_X10_addDomain, wL_X10_addDomain⟩ wM_X11_101 (gCX10 _ _ _ _ _) rfl (A_6 hw) rfl ⟨le_t rfl, le_t rfl⟩ ⟨le_t rfl, le_t rfl⟩ rfl (le_t rfl) fun z w1 μ1 hw1 T1 X1 P1 => ?_
    exact mr_iretX (pc := 22) dX11_domain_22 rfl (le_t rfl) (le_t rfl) hw1 T1 X1 (Or.inr ⟨by omega, P1⟩)
  · refine mr_bipush (pc := 12) (z := -3) dX11_domain_12 (by decide) ?_
    exact mr_iretX (pc := 14) dX11_domain_14 rfl (le_t rfl) (le_t rfl) hw hT mX.refl (Or.inl ⟨by omega, rfl, rfl, rfl⟩)
end MV36w
