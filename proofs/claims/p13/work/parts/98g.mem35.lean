/-! The world's next domain, its next tie. -/
theorem ctOK_0 : ctOK 0 10 6 15 = true := by decide +kernel
theorem ctOK_1 : ctOK 1 11 6 16 = true := by decide +kernel
theorem ctOK_2 : ctOK 2 22 21 8 = true := by decide +kernel
theorem mWF.ct {w : mW} {k : Nat} (h : mWF w) : mWF (wCt w k) := h
section MV35
variable {l : Launch} {D : va_G} {c : Nat → ClassId} {H0 : Heap} {sa : Nat × Nat × (Nat → Int32)} {M : sM} {R : Room} {Z : sZT} {pc : Nat} {lv : List (Nat × Value)} {st : List Value} {w : mW} {μ : mM} {ce sl : Nat}
theorem mr_aast {a s kd ci b t : Nat} {ks : List Nat} {T : vw_C} {ty : Nat → FieldType} {cA : ClassId} {e : Int} (hd : decode M.2.1 pc = .ok (.aastore, 1)) (hC : sCl (gG l D c H0 sa) ci T ty) (ht : (gG l D c H0 sa).2.2.1[kd]? = some (cA, .object T.1)) (hA : mAt w a s) (hs : mTab s = .inr (kd, 2)) (hi : 0 ≤ e ∧ e < (w.2.2.1 a : Int)) (hn : w.2.2.1 a ≤ 2147483647) (hB : mAt w b t) (hbt : mTab t = .inl (ci, ks))
    (kt : ∀ μ1, mU μ a e.toNat (b : Int) μ1 → sV (gG l D c H0 sa) M R Z (pc + 1) lv st (mk w μ1) ce sl) : sV (gG l D c H0 sa) M R Z pc lv (.ref b :: iv e :: .ref a :: st) (mk w μ) ce sl :=
  sv_aastore hd hC ht hA.2.1 (mk_arr hA hs) (iv_in hi hn) hB.2.1 (mk_obj hB hbt) (mr_astH hA hs hi hn (rf_nat b).symm kt)
end MV35
section MV35b
variable {l : Launch} {D : va_G} {c : Nat → ClassId} {H0 : Heap} {sa : Nat × Nat × (Nat → Int32)} {w : mW} {μ : mM} {d : Nat}
theorem c_X10_addDomain (hw : mWF w) (hT : mT w μ) {n : Int} (q : μ 6 15 = n) (hn : n ≤ 9) : sC (gG l D c H0 sa) mX10_addDomain 6 35 442 [.ref 6] (mk w μ) (qIx w [6015, 10999] μ (fun z w1 μ1 => z = n ∧ w1.2.2.2 = (wCt w 0).2.2.2 ∧ w1.1 = w.1 + 35 ∧ szW w1 = szW w + 442 ∧ μ1 6 15 = n + 1)) := by
  have h6 : μ 6 15 = w.2.2.2 0 ∧ 0 ≤ μ 6 15 ∧ μ 6 15 ≤ 10 := hT 6 6 (A_6 hw) 15
  refine sC.of rfl (by decide) (le_t rfl) ?_
  refine sv_aload_n (pc := 0) dX10_addDomain_0 rfl rfl ?_
  refine gf_X10_3 (pc := 1) dX10_addDomain_1 wF_X10_23 (A_6 hw) hT ?_
  refine sv_aload_n (pc := 4) dX10_addDomain_4 rfl rfl ?_
  refine gk_X10_15 (pc := 5) dX10_addDomain_5 wF_X10_68 (A_6 hw) q ?_
  refine mr_newDom (pc := 8) dX10_addDomain_8 dX10_addDomain_11 dX10_addDomain_12 wC_X10_21 wM_X10_71 hw hT ⟨le_t rfl, le_t rfl⟩ ⟨le_t rfl, le_t rfl⟩ (le_t rfl) fun w1 μ1 hw1 hT1 hX hB hc hsz hzz => ?_
  have q1 : μ1 6 15 = n := hX.f (A_6 hw) rfl q
  refine mr_aast (pc := 15) (kd := 5) (ci := 0) (T := (RX0, TX0, 6)) dX10_addDomain_15 (gCX0 l D c H0 sa) rfl (A_10 hw1) rfl ⟨by omega, by rw [(A_10 hw1).2.2.2 rfl]; show n < 10; omega⟩ (Nat.le_trans (A_10 hw1).2.2.1 (le_t rfl)) hB rfl fun μ2 hu2 => ?_
  have q2 : μ2 6 15 = n := (hu2.2 6 15 (Or.inl (by decide))).trans q1
  refine sv_aload_n (pc := 16) dX10_addDomain_16 rfl rfl ?_
  refine sv_dup (pc := 17) dX10_addDomain_17 rfl ?_
  refine gk_X10_15 (pc := 18) dX10_addDomain_18 wF_X10_68 (A_6 hw1) q2 ?_
  refine mr_iconst (pc := 21) (z := 1) dX10_addDomain_21 ?_
  refine mr_iadd (pc := 22) dX10_addDomain_22 ?_
  refine mr_put (pc := 23) (g := gG l D c H0 sa) (kk := 0) (k := 15) dX10_addDomain_23 (gCX10 l D c H0 sa) (lt_t rfl) wF_X10_68 rfl (A_6 hw1) rfl (lt_t rfl) rfl (fun _ => rfl) (fun _ => rfl) (fun μ3 hu3 => ?_)
  have q3 : μ3 6 15 = n + 1 := hu3.1
  refine sv_aload_n (pc := 26) dX10_addDomain_26 rfl rfl ?_
  refine gk_X10_15 (pc := 27) dX10_addDomain_27 wF_X10_68 (A_6 hw1) q3 ?_
  refine mr_iconst (pc := 30) (z := 1) dX10_addDomain_30 ?_
  refine mr_isub (pc := 31) dX10_addDomain_31 ?_
  have q4 : μ3 10 n.toNat = (w.1 : Int) := (hu3.2 10 _ (Or.inl (by decide))).trans hu2.1
  have hc0 : w1.2.2.2 0 = n := by rw [hc]; omega
  have hT3 : mT (wCt w1 0) μ3 := mT.ct (m := 10) ctOK_0 rfl rfl (fun _ => rfl) rfl hw1 hT1 hc0 ⟨by omega, by omega⟩ hB q4 q3 (fun a i h1 h2 => (hu3.2 a i h2).trans (hu2.2 a i h1))
  refine mr_iretX (pc := 32) (w1 := wCt w1 0) dX10_addDomain_32 rfl (le_t rfl) (le_t rfl) hw1.ct hT3 ⟨hX.1, fun a i ha hl => ?_⟩ ⟨by omega, ?_, hsz, hzz, q3⟩
  · have g := hX.2 a i ha rfl
    rw [← g, hu3.2 a i ?_, hu2.2 a i ?_]
    · refine Classical.or_iff_not_imp_left.mpr fun h1 h2 => ?_
      have e : a = 10 := Classical.not_not.mp h1
      subst e
      rw [show mRg w 10 i = 10999 by simp only [mRg, (A_10 hw).1]; rfl] at hl
      cases hl
    · refine Classical.or_iff_not_imp_left.mpr fun h1 h2 => ?_
      have e : a = 6 := Classical.not_not.mp h1
      subst e
      subst h2
      rw [show mRg w 6 15 = 6015 by simp only [mRg, (A_6 hw).1]; rfl] at hl
      cases hl
  · show (fun j => if j = 0 then w1.2.2.2 j + 1 else w1.2.2.2 j) = _
    rw [hc]; rfl
theorem c_X10_addTie (hw : mWF w) (hT : mT w μ) {n x y z : Int} (q : μ 6 16 = n) (hn : n ≤ 19) (hx : 0 ≤ x ∧ x ≤ 9 ∧ x < w.2.2.2 0) (hy : 0 ≤ y ∧ y ≤ 9 ∧ y < w.2.2.2 0) (hz : 0 ≤ z ∧ z ≤ 2) : sC (gG l D c H0 sa) mX10_addTie 6 124 1653 [.ref 6, iv x, iv y, iv z] (mk w μ) (qIx w [6016, 11999] μ (fun r w1 μ1 => r = n ∧ w1.2.2.2 = (wCt w 1).2.2.2 ∧ w1.1 = w.1 + 124 ∧ szW w1 = szW w + 1653 ∧ μ1 6 16 = n + 1)) := by
  have h6 : μ 6 16 = w.2.2.2 1 ∧ 0 ≤ μ 6 16 ∧ μ 6 16 ≤ 20 := hT 6 6 (A_6 hw) 16
  refine sC.of rfl (by decide) (le_t rfl) ?_
  refine sv_aload_n (pc := 0) dX10_addTie_0 rfl rfl ?_
  refine gf_X10_4 (pc := 1) dX10_addTie_1 wF_X10_29 (A_6 hw) hT ?_
  refine sv_aload_n (pc := 4) dX10_addTie_4 rfl rfl ?_
  refine gk_X10_16 (pc := 5) dX10_addTie_5 wF_X10_72 (A_6 hw) q ?_
  refine mr_newTie (pc := 8) (x := x) (y := y) (z := z) dX10_addTie_8 dX10_addTie_11 dX10_addTie_12 dX10_addTie_13 dX10_addTie_14 dX10_addTie_15 rfl rfl rfl wC_X10_27 wM_X10_75 hw hT hx hy hz ⟨le_t rfl, le_t rfl⟩ ⟨le_t rfl, le_t rfl⟩ (le_t rfl) fun w1 μ1 hw1 hT1 hX hB hc hsz hzz => ?_
  have q1 : μ1 6 16 = n := hX.f (A_6 hw) rfl q
  refine mr_aast (pc := 18) (kd := 6) (ci := 9) (T := (RX9, TX9, 9)) dX10_addTie_18 (gCX9 l D c H0 sa) rfl (A_11 hw1) rfl ⟨by omega, by rw [(A_11 hw1).2.2.2 rfl]; show n < 20; omega⟩ (Nat.le_trans (A_11 hw1).2.2.1 (le_t rfl)) hB rfl fun μ2 hu2 => ?_
  have q2 : μ2 6 16 = n := (hu2.2 6 16 (Or.inl (by decide))).trans q1
  refine sv_aload_n (pc := 19) dX10_addTie_19 rfl rfl ?_
  refine sv_dup (pc := 20) dX10_addTie_20 rfl ?_
  refine gk_X10_16 (pc := 21) dX10_addTie_21 wF_X10_72 (A_6 hw1) q2 ?_
  refine mr_iconst (pc := 24) (z := 1) dX10_addTie_24 ?_
  refine mr_iadd (pc := 25) dX10_addTie_25 ?_
  refine mr_put (pc := 26) (g := gG l D c H0 sa) (kk := 0) (k := 16) dX10_addTie_26 (gCX10 l D c H0 sa) (lt_t rfl) wF_X10_72 rfl (A_6 hw1) rfl (lt_t rfl) rfl (fun _ => rfl) (fun _ => rfl) (fun μ3 hu3 => ?_)
  have q3 : μ3 6 16 = n + 1 := hu3.1
  refine sv_aload_n (pc := 29) dX10_addTie_29 rfl rfl ?_
  refine gk_X10_16 (pc := 30) dX10_addTie_30 wF_X10_72 (A_6 hw1) q3 ?_
  refine mr_iconst (pc := 33) (z := 1) dX10_addTie_33 ?_
  refine mr_isub (pc := 34) dX10_addTie_34 ?_
  have q4 : μ3 11 n.toNat = (w.1 : Int) := (hu3.2 11 _ (Or.inl (by decide))).trans hu2.1
  have hc0 : w1.2.2.2 1 = n := by rw [hc]; omega
  have hT3 : mT (wCt w1 1) μ3 := mT.ct (m := 20) ctOK_1 rfl rfl (fun _ => rfl) rfl hw1 hT1 hc0 ⟨by omega, by omega⟩ hB q4 q3 (fun a i h1 h2 => (hu3.2 a i h2).trans (hu2.2 a i h1))
  refine mr_iretX (pc := 35) (w1 := wCt w1 1) dX10_addTie_35 rfl (le_t rfl) (le_t rfl) hw1.ct hT3 ⟨hX.1, fun a i ha hl => ?_⟩ ⟨by omega, ?_, hsz, hzz, q3⟩
  · have g := hX.2 a i ha rfl
    rw [← g, hu3.2 a i ?_, hu2.2 a i ?_]
    · refine Classical.or_iff_not_imp_left.mpr fun h1 h2 => ?_
      have e : a = 11 := Classical.not_not.mp h1
      subst e
      rw [show mRg w 11 i = 11999 by simp only [mRg, (A_11 hw).1]; rfl] at hl
      cases hl
    · refine Classical.or_iff_not_imp_left.mpr fun h1 h2 => ?_
      have e : a = 6 := Classical.not_not.mp h1
      subst e
      subst h2
      rw [show mRg w 6 16 = 6016 by simp only [mRg, (A_6 hw).1]; rfl] at hl
      cases hl
  · show (fun j => if j = 1 then w1.2.2.2 j + 1 else w1.2.2.2 j) = _
    rw [hc]; rfl
end MV35b
