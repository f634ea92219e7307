/-! Frames of ties; the class's tie with its answer told. -/
theorem tcS.fr {lf : List Nat} {w : mW} {μ μ1 : mM} (hw : mWF w) (hT : mT w μ) (F : mF lf w μ μ1) (hl : ([11999, 220000, 220001, 220002].all fun r => !lf.elem r) = true) : tcS μ μ1 (μ 6 16) := fun i hi => by
  have hA := tcAt hw hT hi
  have e : μ1 11 i = μ 11 i := F.f (A_11 hw) (qA_no hl rfl) rfl
  unfold tc
  rw [e]
  exact ⟨F.f hA (qA_no hl rfl) rfl, F.f hA (qA_no hl rfl) rfl, F.f hA (qA_no hl rfl) rfl⟩
theorem tcS.frX {lf : List Nat} {w w1 : mW} {μ μ1 : mM} (hw : mWF w) (hT : mT w μ) (F : mX lf w μ w1 μ1) (hl : ([11999, 220000, 220001, 220002].all fun r => !lf.elem r) = true) : tcS μ μ1 (μ 6 16) := fun i hi => by
  have hA := tcAt hw hT hi
  have e : μ1 11 i = μ 11 i := F.f (A_11 hw) (qA_no hl rfl) rfl
  unfold tc
  rw [e]
  exact ⟨F.f hA (qA_no hl rfl) rfl, F.f hA (qA_no hl rfl) rfl, F.f hA (qA_no hl rfl) rfl⟩
theorem trS.fr {lf : List Nat} {w : mW} {μ μ1 : mM} {n : Int} (hw : mWF w) (F : mF lf w μ μ1) (hl : ([110999, 111999].all fun r => !lf.elem r) = true) : trS μ μ1 n := fun i _ =>
  ⟨F.f (A_110 hw) (qA_no hl rfl) rfl, F.f (A_110 hw) (qA_no hl rfl) rfl, F.f (A_111 hw) (qA_no hl rfl) rfl⟩
theorem trS.frX {lf : List Nat} {w w1 : mW} {μ μ1 : mM} {n : Int} (hw : mWF w) (F : mX lf w μ w1 μ1) (hl : ([110999, 111999].all fun r => !lf.elem r) = true) : trS μ μ1 n := fun i _ =>
  ⟨F.f (A_110 hw) (qA_no hl rfl) rfl, F.f (A_110 hw) (qA_no hl rfl) rfl, F.f (A_111 hw) (qA_no hl rfl) rfl⟩
theorem TQR.of {μ μ1 : mM} (h : TQR μ) (e1 : μ1 6 16 = μ 6 16) (e2 : μ1 106 6 = μ 106 6) (a : tcS μ μ1 (μ 6 16)) (b : trS μ μ1 (μ 6 16)) : TQR μ1 := by
  refine ⟨by rw [e1, e2]; exact h.1, fun i hi => ?_⟩
  rw [e1] at hi
  obtain ⟨a1, a2, a3⟩ := a i hi
  obtain ⟨b1, b2, b3⟩ := b i hi
  rw [a1, a2, a3, b1, b2, b3]; exact h.2 i hi
def tqL : List Nat := [6016, 106006, 11999, 220000, 220001, 220002, 110999, 111999]
theorem TQR.fr {lf : List Nat} {w : mW} {μ μ1 : mM} (h : TQR μ) (hw : mWF w) (hT : mT w μ) (F : mF lf w μ μ1) (hl : (tqL.all fun r => !lf.elem r) = true) : TQR μ1 :=
  h.of (F.f (A_6 hw) (qA_no hl rfl) rfl) (F.f (A_106 hw) (qA_no hl rfl) rfl) (tcS.fr hw hT F (qA_le hl rfl)) (trS.fr hw F (qA_le hl rfl))
theorem TQR.frX {lf : List Nat} {w w1 : mW} {μ μ1 : mM} (h : TQR μ) (hw : mWF w) (hT : mT w μ) (F : mX lf w μ w1 μ1) (hl : (tqL.all fun r => !lf.elem r) = true) : TQR μ1 :=
  h.of (F.f (A_6 hw) (qA_no hl rfl) rfl) (F.f (A_106 hw) (qA_no hl rfl) rfl) (tcS.frX hw hT F (qA_le hl rfl)) (trS.frX hw F (qA_le hl rfl))
section MV34v
variable {l : Launch} {D : va_G} {c : Nat → ClassId} {H0 : Heap} {sa : Nat × Nat × (Nat → Int32)} {M : sM} {R : Room} {Z : sZT} {pc : Nat} {lv : List (Nat × Value)} {st : List Value} {w : mW} {μ : mM} {ce sl : Nat}
theorem mr_newTieV {i1 i2 : Nat} {x y z : Int} {j1 j2 j3 : Fin 4} (hd : decode M.2.1 pc = .ok (.new i1, 3)) (hd2 : decode M.2.1 (pc + 3) = .ok (.dup, 1)) (hd4 : decode M.2.1 (pc + 4) = .ok (.iload_n j1, 1)) (hd5 : decode M.2.1 (pc + 5) = .ok (.iload_n j2, 1)) (hd6 : decode M.2.1 (pc + 6) = .ok (.iload_n j3, 1)) (hd3 : decode M.2.1 (pc + 7) = .ok (.invokespecial i2, 3)) (hg1 : sGet j1 lv = some (iv x)) (hg2 : sGet j2 lv = some (iv y)) (hg3 : sGet j3 lv = some (iv z)) (hcl : Cond.classLink M.1.cls i1 RX9 ∈ lw_ok) (hlk : Cond.methodLink M.1.cls i2 yX9_init ∈ lw_ok) (hw : mWF w) (hT : mT w μ) (hx : 0 ≤ x ∧ x ≤ 9 ∧ x < w.2.2.2 0) (hy : 0 ≤ y ∧ y ≤ 9 ∧ y < w.2.2.2 0) (hz : 0 ≤ z ∧ z ≤ 2) (hR : 6 ≤ R.frames ∧ 324 ≤ R.locals) (hce : ce + 124 ≤ R.cells ∧ sl + 1653 ≤ R.slots) (hr8 : (st.map fun v => v.category).sum ≤ 7)
    (kk : ∀ w1 μ1, mWF w1 → mT w1 μ1 → mX [] w μ w1 μ1 → mAt w1 w.1 220 → (μ1 w.1 0 = x ∧ μ1 w.1 1 = y ∧ μ1 w.1 2 = z) → w1.2.2.2 = w.2.2.2 → w1.1 = w.1 + 124 → szW w1 = szW w + 1653 → sV (gG l D c H0 sa) M R Z (pc + 10) lv (.ref w.1 :: st) (mk w1 μ1) (ce + 124) (sl + 1653)) : sV (gG l D c H0 sa) M R Z pc lv st (mk w μ) ce sl := by
  refine sv_new (ci := 9) (T := (RX9, TX9, 9)) (fs := zX9) hd (gCX9 l D c H0 sa) hcl wN_X9 wI_X9 zX9_ok (by omega) (by show sl + 9 ≤ R.slots; omega) ?_
  refine sv_dup (pc := pc + 3) hd2 rfl ?_
  refine sv_iload_n (pc := pc + 3 + 1) hd4 rfl hg1 ?_
  refine sv_iload_n (pc := pc + 3 + 1 + 1) hd5 rfl hg2 ?_
  refine sv_iload_n (pc := pc + 3 + 1 + 1 + 1) hd6 rfl hg3 ?_
  have hct := sC.shift (l := l) (D := D) (c := c) (H0 := H0) (sa := sa) (k := w.1) (n2 := 1) (av2 := [.ref 0, iv x, iv y, iv z]) (f := sUp (mk w μ).2 w.1 (.inr (9, zX9))) (f2 := fun _ => .inr (9, zX9)) (fun j hj => by
    have e : j = 0 := by omega
    subst e
    exact (sUp_at _ _ _).trans rfl) (fun H1 => ctorX9 l D c H1 sa (Int32.ofInt x) (Int32.ofInt y) (Int32.ofInt z))
  refine sv_callI (pc := pc + 3 + 1 + 1 + 1 + 1) (M' := mX9_init) (d' := 5) (C' := 123) (S' := 1644) (av := [iv x, iv y, iv z]) (st := .ref w.1 :: st) hct (gOk l D c H0 sa) hd3 (tX9_init l D c H0 sa) rfl rfl wV_X9_init hlk ⟨by omega, by show 60 * 5 + 5 + 19 ≤ R.locals; omega⟩ ⟨by omega, by show sl + 9 + 1644 ≤ R.slots; omega⟩ rfl (Nat.add_le_add_left hr8 1) ?_
  rintro r hp' ⟨r2, n3, f3, ⟨rfl, e3, h3⟩, rfl, rfl⟩
  have e3 : n3 = 124 := e3
  subst e3
  have h0 : 0 < w.2.2.2 0 := by omega
  have hT1 := mT.blk (fun _ => h0) BX9_b BX9_ok hT
  have hA : mAt (wBlk w BX9) w.1 220 := wBlk.at (j := 0) (by rw [BX9_n]; omega)
  have t1 : mT (wBlk w BX9) (mUp (mBlk w μ BX9) w.1 0 x) := mT.up (k := 0) hT1 hA hx mUp_ok
  have t2 : mT (wBlk w BX9) (mUp (mUp (mBlk w μ BX9) w.1 0 x) w.1 1 y) := mT.up (k := 1) t1 hA hy mUp_ok
  have t3 : mT (wBlk w BX9) (mUp (mUp (mUp (mBlk w μ BX9) w.1 0 x) w.1 1 y) w.1 2 z) := mT.up (k := 2) t2 hA hz mUp_ok
  have hb := mkBlk (w := w) (μ := μ) (B := BX9) (f := sUp (mk w μ).2 w.1 (.inr (9, zX9))) (f3 := tX9N 0 0 0) (fun j hj => sUp_ne _ _ (Nat.ne_of_lt hj)) (fun j hj => sEq.sh (BX9_eq j hj))
  have e0 : (mk (wBlk w BX9) (mBlk w μ BX9)).2 w.1 = .inr (9, [.int 0, .int 0, .int 0, .ref (w.1 + 1), .ref (w.1 + 2), .ref (w.1 + 3), .int 1, .int 1, .int 0]) := by
    have g := hb w.1 (by show w.1 < w.1 + 124; omega)
    have e1 : shH w.1 (sUp (mk w μ).2 w.1 (.inr (9, zX9))) (tX9N 0 0 0) w.1 = .inr (9, [.int 0, .int 0, .int 0, .ref (w.1 + 1), .ref (w.1 + 2), .ref (w.1 + 3), .int 1, .int 1, .int 0]) := by
      show (if w.1 < w.1 then _ else _) = _
      rw [if_neg (Nat.lt_irrefl _), Nat.sub_self]; rfl
    rw [e1] at g
    revert g
    rcases (mk (wBlk w BX9) (mBlk w μ BX9)).2 w.1 with q | q
    · intro g; exact g.elim
    · intro g
      have g : _ = q := g
      rw [← g]
  refine sv_heapE (hp' := mk (wBlk w BX9) (mUp (mUp (mUp (mBlk w μ BX9) w.1 0 x) w.1 1 y) w.1 2 z)) rfl (fun j hj => ?_) (kk _ _ (hw.blk BX9_b) t3 ?_ hA ⟨by simp [mUp], by simp [mUp], by simp [mUp]⟩ rfl rfl (by rw [szW.blk BX9_b, BX9_z]))
  · by_cases h : j = w.1
    · subst h
      have e1 : shH w.1 (sUp (mk w μ).2 w.1 (.inr (9, zX9))) f3 w.1 = .inr (9, [iv x, iv y, iv z, .ref (w.1 + 1), .ref (w.1 + 2), .ref (w.1 + 3), .int 1, .int 1, .int 0]) := by
        show (if w.1 < w.1 then _ else _) = _
        rw [if_neg (Nat.lt_irrefl _), Nat.sub_self, show f3 0 = _ from h3 0 (by show 0 < 124; omega)]; rfl
      show sEq (shH w.1 _ f3 w.1) _
      rw [e1, mk_set hA rfl (mk_set hA rfl (mk_set hA rfl e0))]
      exact (rfl : _ = _)
    · have g := hb j hj
      rw [mk_other h, mk_other h, mk_other h]
      have e : shH w.1 (sUp (mk w μ).2 w.1 (.inr (9, zX9))) f3 j = shH w.1 (sUp (mk w μ).2 w.1 (.inr (9, zX9))) (tX9N 0 0 0) j := by
        by_cases hj2 : j < w.1
        · exact (if_pos hj2).trans (if_pos hj2).symm
        · refine (if_neg hj2).trans (Eq.trans ?_ (if_neg hj2).symm)
          have hl : j - w.1 < 124 := by have : j < w.1 + 124 := hj; omega
          rw [show f3 (j - w.1) = _ from h3 (j - w.1) hl]
          obtain ⟨m, hm⟩ : ∃ m, j - w.1 = m + 1 := ⟨j - w.1 - 1, by omega⟩
          rw [hm] at hl ⊢
          exact congrArg (shE w.1) (tX9N_s _ _ _ m hl)
      show sEq (shH w.1 _ f3 j) _
      rw [e]; exact g
  · refine ⟨wBlk.ext BX9_b, fun a i ha _ => ?_⟩
    have ne : a ≠ w.1 := Nat.ne_of_lt ha
    show mUp _ w.1 2 z a i = μ a i
    simp only [mUp, ne, false_and, if_false]
    exact if_pos ha
end MV34v
section MV35v
variable {l : Launch} {D : va_G} {c : Nat → ClassId} {H0 : Heap} {sa : Nat × Nat × (Nat → Int32)} {w : mW} {μ : mM} {d : Nat}
theorem c_X10_addTie_v (hw : mWF w) (hT : mT w μ) {n x y z : Int} (q : μ 6 16 = n) (hn : n ≤ 19) (hx : 0 ≤ x ∧ x ≤ 9 ∧ x < w.2.2.2 0) (hy : 0 ≤ y ∧ y ≤ 9 ∧ y < w.2.2.2 0) (hz : 0 ≤ z ∧ z ≤ 2) : sC (gG l D c H0 sa) mX10_addTie 6 124 1653 [.ref 6, iv x, iv y, iv z] (mk w μ) (qIx w [6016, 11999] μ (fun r w1 μ1 => r = n ∧ w1.2.2.2 = (wCt w 1).2.2.2 ∧ w1.1 = w.1 + 124 ∧ szW w1 = szW w + 1653 ∧ μ1 6 16 = n + 1 ∧ (μ1 11 n.toNat = (w.1 : Int) ∧ μ1 w.1 0 = x ∧ μ1 w.1 1 = y ∧ μ1 w.1 2 = z) ∧ ∀ i : Nat, i ≠ n.toNat → μ1 11 i = μ 11 i)) := by
  have h6 : μ 6 16 = w.2.2.2 1 ∧ 0 ≤ μ 6 16 ∧ μ 6 16 ≤ 20 := hT 6 6 (A_6 hw) 16
  refine sC.of rfl (by decide) (le_t rfl) ?_
  refine sv_aload_n (pc := 0) dX10_addTie_0 rfl rfl ?_
  refine gf_X10_4 (pc := 1) dX10_addTie_1 wF_X10_29 (A_6 hw) hT ?_
  refine sv_aload_n (pc := 4) dX10_addTie_4 rfl rfl ?_
  refine gk_X10_16 (pc := 5) dX10_addTie_5 wF_X10_72 (A_6 hw) q ?_
  refine mr_newTieV (pc := 8) (x := x) (y := y) (z := z) dX10_addTie_8 dX10_addTie_11 dX10_addTie_12 dX10_addTie_13 dX10_addTie_14 dX10_addTie_15 rfl rfl rfl wC_X10_27 wM_X10_75 hw hT hx hy hz ⟨le_t rfl, le_t rfl⟩ ⟨le_t rfl, le_t rfl⟩ (le_t rfl) fun w1 μ1 hw1 hT1 hX hB hv hc hsz hzz => ?_
  have q1 : μ1 6 16 = n := hX.f (A_6 hw) rfl q
  refine mr_aast (pc := 18) (kd := 6) (ci := 9) (T := (RX9, TX9, 9)) dX10_addTie_18 (gCX9 l D c H0 sa) rfl (A_11 hw1) rfl ⟨by omega, by rw [(A_11 hw1).2.2.2 rfl]; show n < 20; omega⟩ (Nat.le_trans (A_11 hw1).2.2.1 (le_t rfl)) hB rfl fun μ2 hu2 => ?_
  have q2 : μ2 6 16 = n := (hu2.2 6 16 (Or.inl (by decide))).trans q1
  refine sv_aload_n (pc := 19) dX10_addTie_19 rfl rfl ?_
  refine sv_dup (pc := 20) dX10_addTie_20 rfl ?_
  refine gk_X10_16 (pc := 21) dX10_addTie_21 wF_X10_72 (A_6 hw1) q2 ?_
  refine mr_iconst (pc := 24) (z := 1) dX10_addTie_24 ?_
  refine mr_iadd (pc := 25) dX10_addTie_25 ?_
  refine mr_put (pc := 26) (g := gG l D c H0 sa) (kk := 0) (k := 16) dX10_addTie_26 (gCX10 l D c H0 sa) (lt_t rfl) wF_X10_72 rfl (A_6 hw1) rfl (lt_t rfl) rfl (fun _ => rfl) (fun _ => rfl) (fun μ3 hu3 => ?_)
  have q3 : μ3 6 16 = n + 1 := hu3.1
  refine sv_aload_n (pc := 29) dX10_addTie_29 rfl rfl ?_
  refine gk_X10_16 (pc := 30) dX10_addTie_30 wF_X10_72 (A_6 hw1) q3 ?_
  refine mr_iconst (pc := 33) (z := 1) dX10_addTie_33 ?_
  refine mr_isub (pc := 34) dX10_addTie_34 ?_
  have q4 : μ3 11 n.toNat = (w.1 : Int) := (hu3.2 11 _ (Or.inl (by decide))).trans hu2.1
  have hc0 : w1.2.2.2 1 = n := by rw [hc]; omega
  have hT3 : mT (wCt w1 1) μ3 := mT.ct (m := 20) ctOK_1 rfl rfl (fun _ => rfl) rfl hw1 hT1 hc0 ⟨by omega, by omega⟩ hB q4 q3 (fun a i h1 h2 => (hu3.2 a i h2).trans (hu2.2 a i h1))
  have n11 : w.1 ≠ 11 := by have := (A_11 hw).2.1; omega
  have n6 : w.1 ≠ 6 := by have := (A_11 hw).2.1; omega
  have v0 : μ3 w.1 0 = x := (hu3.2 w.1 0 (Or.inl n6)).trans ((hu2.2 w.1 0 (Or.inl n11)).trans hv.1)
  have v1 : μ3 w.1 1 = y := (hu3.2 w.1 1 (Or.inl n6)).trans ((hu2.2 w.1 1 (Or.inl n11)).trans hv.2.1)
  have v2 : μ3 w.1 2 = z := (hu3.2 w.1 2 (Or.inl n6)).trans ((hu2.2 w.1 2 (Or.inl n11)).trans hv.2.2)
  have v3 : ∀ i : Nat, i ≠ n.toNat → μ3 11 i = μ 11 i := fun i hi => (hu3.2 11 i (Or.inl (by decide))).trans ((hu2.2 11 i (Or.inr hi)).trans (hX.f (A_11 hw) rfl rfl))
  refine mr_iretX (pc := 35) (w1 := wCt w1 1) dX10_addTie_35 rfl (le_t rfl) (le_t rfl) hw1.ct hT3 ⟨hX.1, fun a i ha hl => ?_⟩ ⟨by omega, ?_, hsz, hzz, q3, ⟨q4, v0, v1, v2⟩, v3⟩
  · have g := hX.2 a i ha rfl
    rw [← g, hu3.2 a i ?_, hu2.2 a i ?_]
    · refine Classical.or_iff_not_imp_left.mpr fun h1 h2 => ?_
      have e : a = 11 := Classical.not_not.mp h1
      subst e
      rw [show mRg w 11 i = 11999 by simp only [mRg, (A_11 hw).1]; rfl] at hl
      cases hl
    · refine Classical.or_iff_not_imp_left.mpr fun h1 h2 => ?_
      have e : a = 6 := Classical.not_not.mp h1
      subst e
      subst h2
      rw [show mRg w 6 16 = 6016 by simp only [mRg, (A_6 hw).1]; rfl] at hl
      cases hl
  · show (fun j => if j = 1 then w1.2.2.2 j + 1 else w1.2.2.2 j) = _
    rw [hc]; rfl
end MV35v
section MV54
variable {l : Launch} {D : va_G} {c : Nat → ClassId} {H0 : Heap} {sa : Nat × Nat × (Nat → Int32)} {w : mW} {μ : mM}
theorem c_X11_tie_v (hw : mWF w) (hT : mT w μ) {p1 p2 p3 : Int} (hp1 : -2147483648 ≤ p1 ∧ p1 ≤ 2147483647) (hp2 : -2147483648 ≤ p2 ∧ p2 ≤ 2147483647) (hp3 : -2147483648 ≤ p3 ∧ p3 ≤ 2147483647) : sC (gG l D c H0 sa) mX11_tie 7 124 1653 [.ref 0, iv p1, iv p2, iv p3] (mk w μ) (qIx w [6016, 11999] μ (fun z w1 μ1 => (-2147483648 ≤ z ∧ z ≤ 2147483647) ∧ ((w1 = w ∧ μ1 = μ) ∨ (w1.2.2.2 = (wCt w 1).2.2.2 ∧ w1.1 = w.1 + 124 ∧ szW w1 = szW w + 1653)) ∧ tieA (noneQ (tc μ 0) (tc μ 1) (μ 6 16) p1 p2) (μ 6 15) (μ 6 16) p1 p2 p3 z ∧ tgC μ μ1 p1 p2 p3 z)) := by
  have h5 : μ 6 15 = w.2.2.2 0 ∧ 0 ≤ μ 6 15 ∧ μ 6 15 ≤ 10 := hT 6 6 (A_6 hw) 15
  have h6 : μ 6 16 = w.2.2.2 1 ∧ 0 ≤ μ 6 16 ∧ μ 6 16 ≤ 20 := hT 6 6 (A_6 hw) 16
  have same : ∀ {z : Int}, (-2147483648 ≤ z ∧ z ≤ 2147483647) → z < 0 → tieA (noneQ (tc μ 0) (tc μ 1) (μ 6 16) p1 p2) (μ 6 15) (μ 6 16) p1 p2 p3 z → (-2147483648 ≤ z ∧ z ≤ 2147483647) ∧ ((w = w ∧ μ = μ) ∨ (w.2.2.2 = (wCt w 1).2.2.2 ∧ w.1 = w.1 + 124 ∧ szW w = szW w + 1653)) ∧ tieA (noneQ (tc μ 0) (tc μ 1) (μ 6 16) p1 p2) (μ 6 15) (μ 6 16) p1 p2 p3 z ∧ tgC μ μ p1 p2 p3 z := fun h hz hA => ⟨h, Or.inl ⟨rfl, rfl⟩, hA, Or.inr ⟨hz, rfl⟩⟩
  refine sC.of rfl (by decide) (le_t rfl) ?_
  refine mr_lvE (lv' := [(0, .ref 0), (1, iv p1), (2, iv p2), (3, iv p3)]) rfl ?_
  have bad : tieB (μ 6 15) p1 p2 p3 → sV (gG l D c H0 sa) mX11_tie (sRm 7 124 1653) (sZ (gG l D c H0 sa) 124 1653 (qIx w [6016, 11999] μ (fun z w1 μ1 => (-2147483648 ≤ z ∧ z ≤ 2147483647) ∧ ((w1 = w ∧ μ1 = μ) ∨ (w1.2.2.2 = (wCt w 1).2.2.2 ∧ w1.1 = w.1 + 124 ∧ szW w1 = szW w + 1653)) ∧ tieA (noneQ (tc μ 0) (tc μ 1) (μ 6 16) p1 p2) (μ 6 15) (μ 6 16) p1 p2 p3 z ∧ tgC μ μ1 p1 p2 p3 z))) 30 [(0, .ref 0), (1, iv p1), (2, iv p2), (3, iv p3)] [] (mk w μ) 0 0 := fun hB => by
    refine mr_iconst (pc := 30) (z := -1) dX11_tie_30 ?_
    exact mr_iretX (pc := 31) dX11_tie_31 rfl (le_t rfl) (le_t rfl) hw hT mX.refl (same (by decide) (by decide) (Or.inl ⟨hB, rfl⟩))
  refine sv_aload_n (pc := 0) dX11_tie_0 rfl rfl ?_
  refine mr_iload_n (pc := 1) (z := p1) dX11_tie_1 rfl rfl ?_
  refine mr_cVP (pc := 2) (c_X11_isDomain hw hT hp1 rfl) (gOk _ _ _ _ _) dX11_tie_2 (tX11_isDomain _ _ _ _ _) ⟨wV_X11_isDomain, wL_X11_isDomain⟩ wM_X11_105 (gCX11 _ _ _ _ _) rfl (A_0 hw) rfl ⟨le_t rfl, le_t rfl⟩ ⟨le_t rfl, le_t rfl⟩ rfl (le_t rfl) fun z1 h1 => ?_
  obtain ⟨h1a, h1b, h1c, _⟩ := h1
  refine mr_if_eq (pc := 5) (tgt := 30) dX11_tie_5 (by decide) ⟨by omega, by omega⟩ (fun e1 => bad (by have := h1c e1; unfold tieB; omega)) (fun e1 => ?_)
  have g1 := h1b (by omega)
  refine sv_aload_n (pc := 8) dX11_tie_8 rfl rfl ?_
  refine mr_iload_n (pc := 9) (z := p2) dX11_tie_9 rfl rfl ?_
  refine mr_cVP (pc := 10) (c_X11_isDomain hw hT hp2 rfl) (gOk _ _ _ _ _) dX11_tie_10 (tX11_isDomain _ _ _ _ _) ⟨wV_X11_isDomain, wL_X11_isDomain⟩ wM_X11_105 (gCX11 _ _ _ _ _) rfl (A_0 hw) rfl ⟨le_t rfl, le_t rfl⟩ ⟨le_t rfl, le_t rfl⟩ rfl (le_t rfl) fun z2 h2 => ?_
  obtain ⟨h2a, h2b, h2c, _⟩ := h2
  refine mr_if_eq (pc := 13) (tgt := 30) dX11_tie_13 (by decide) ⟨by omega, by omega⟩ (fun e2 => bad (by have := h2c e2; unfold tieB; omega)) (fun e2 => ?_)
  have g2 := h2b (by omega)
  refine mr_iload_n (pc := 16) (z := p1) dX11_tie_16 rfl rfl ?_
  refine mr_iload_n (pc := 17) (z := p2) dX11_tie_17 rfl rfl ?_
  refine mr_icmp_eq (pc := 18) (tgt := 30) dX11_tie_18 (by decide) hp1 hp2 (fun e => bad (by unfold tieB; omega)) (fun e5 => ?_)
  refine mr_iload_n (pc := 21) (z := p3) dX11_tie_21 rfl rfl ?_
  refine mr_if_lt (pc := 22) (tgt := 30) dX11_tie_22 (by decide) hp3 (fun e => bad (by unfold tieB; omega)) (fun e3 => ?_)
  refine mr_iload_n (pc := 25) (z := p3) dX11_tie_25 rfl rfl ?_
  refine mr_iconst (pc := 26) (z := 2) dX11_tie_26 ?_
  refine mr_icmp_le (pc := 27) (tgt := 32) dX11_tie_27 (by decide) hp3 (by decide) (fun e4 => ?_) (fun e => bad (by unfold tieB; omega))
  have nb : ¬ tieB (μ 6 15) p1 p2 p3 := by unfold tieB; omega
  refine sv_aload_n (pc := 32) dX11_tie_32 rfl rfl ?_
  refine gf_X11_3 (pc := 33) dX11_tie_33 wF_X11_26 (A_0 hw) hT ?_
  refine mr_iload_n (pc := 36) (z := p1) dX11_tie_36 rfl rfl ?_
  refine mr_iload_n (pc := 37) (z := p2) dX11_tie_37 rfl rfl ?_
  refine mr_cVP (pc := 38) (c_X10_tieBetween_v hw hT hp1 hp2 rfl) (gOk _ _ _ _ _) dX11_tie_38 (tX10_tieBetween _ _ _ _ _) ⟨wV_X10_tieBetween, wL_X10_tieBetween⟩ wM_X11_109 (gCX10 _ _ _ _ _) rfl (A_6 hw) rfl ⟨le_t rfl, le_t rfl⟩ ⟨le_t rfl, le_t rfl⟩ rfl (le_t rfl) fun z3 h3 => ?_
  obtain ⟨h3a, h3b, h3c, _⟩ := h3
  refine mr_if_lt (pc := 41) (tgt := 47) dX11_tie_41 (by decide) ⟨by omega, by omega⟩ (fun e6 => ?_) (fun e6 => ?_)
  · have nn := h3c.not (by decide) e6
    refine sv_aload_n (pc := 47) dX11_tie_47 rfl rfl ?_
    refine gf_X11_3 (pc := 48) dX11_tie_48 wF_X11_26 (A_0 hw) hT ?_
    refine gk_X10_16 (pc := 51) dX11_tie_51 wF_X11_112 (A_6 hw) rfl ?_
    refine mr_bipush (pc := 54) (z := 20) dX11_tie_54 (by decide) ?_
    refine mr_icmp_lt (pc := 56) (tgt := 62) dX11_tie_56 (by decide) ⟨by omega, by omega⟩ (by decide) (fun h7 => ?_) (fun h7 => ?_)
    · refine sv_aload_n (pc := 62) dX11_tie_62 rfl rfl ?_
      refine gf_X11_3 (pc := 63) dX11_tie_63 wF_X11_26 (A_0 hw) hT ?_
      refine mr_iload_n (pc := 66) (z := p1) dX11_tie_66 rfl rfl ?_
      refine mr_iload_n (pc := 67) (z := p2) dX11_tie_67 rfl rfl ?_
      refine mr_iload_n (pc := 68) (z := p3) dX11_tie_68 rfl rfl ?_
      refine mr_cVIX (pc := 69) (c_X10_addTie_v hw hT rfl (by omega) (x := p1) (y := p2) (z := p3) ⟨g1.1, by omega, by omega⟩ ⟨g2.1, by omega, by omega⟩ ⟨e3, e4⟩) (gOk _ _ _ _ _) dX11_tie_69 (tX10_addTie _ _ _ _ _) ⟨wV_X10_addTie, wL_X10_addTie⟩ wM_X11_115 (gCX10 _ _ _ _ _) rfl (A_6 hw) rfl ⟨le_t rfl, le_t rfl⟩ ⟨le_t rfl, le_t rfl⟩ rfl (le_t rfl) fun z w1 μ1 hw1 T1 X1 P1 => ?_
      obtain ⟨k1, k2, k3, k4, k5, ⟨v0, v1, v2, v3⟩, v4⟩ := P1
      refine mr_iretX (pc := 72) dX11_tie_72 rfl (le_t rfl) (le_t rfl) hw1 T1 X1 ⟨by omega, Or.inr ⟨k2, k3, k4⟩, Or.inr ⟨nb, Or.inr ⟨nn, Or.inr ⟨h7, k1⟩⟩⟩, Or.inl ⟨by omega, k5, ⟨tcOf v0 v1, tcOf v0 v2, tcOf v0 v3⟩, fun i hi => ?_⟩⟩
      have hA := tcAt hw hT hi
      have e := v4 i (by omega)
      unfold tc
      rw [e]
      exact ⟨X1.f hA rfl rfl, X1.f hA rfl rfl, X1.f hA rfl rfl⟩
    · refine mr_bipush (pc := 59) (z := -3) dX11_tie_59 (by decide) ?_
      exact mr_iretX (pc := 61) dX11_tie_61 rfl (le_t rfl) (le_t rfl) hw hT mX.refl (same (by decide) (by decide) (Or.inr ⟨nb, Or.inr ⟨nn, Or.inl ⟨by omega, rfl⟩⟩⟩))
  · refine mr_bipush (pc := 44) (z := -2) dX11_tie_44 (by decide) ?_
    exact mr_iretX (pc := 46) dX11_tie_46 rfl (le_t rfl) (le_t rfl) hw hT mX.refl (same (by decide) (by decide) (Or.inr ⟨nb, Or.inl ⟨h3c.has (by omega), rfl⟩⟩))
end MV54
