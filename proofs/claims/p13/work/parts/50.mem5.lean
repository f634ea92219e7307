/-! The JDK's methods over memory. -/
theorem mF.cell {w : mW} {μ μ1 : mM} {a s : Nat} (h : ∀ b j, b ≠ a → μ1 b j = μ b j) (hA : mAt w a s) (hs : mArr s = true) : mF [1000 * s + 999] w μ μ1 := by
  intro b j hb
  refine h b j (fun e => ?_)
  subst e
  simp only [mRg, hA.1, hs, if_true] at hb
  simp at hb
def qJ1 (x y z : Int) : Prop := (-1 ≤ z ∧ z ≤ 1) ∧ (x < y → z = -1) ∧ (x = y → z = 0) ∧ (y < x → z = 1)
theorem c_J_cmp {l : Launch} {D : va_G} {c : Nat → ClassId} {H0 : Heap} {sa : Nat × Nat × (Nat → Int32)} {w : mW} {μ : mM} {x y : Int} (hx : -2147483648 ≤ x ∧ x ≤ 2147483647) (hy : -2147483648 ≤ y ∧ y ≤ 2147483647) : sC (gG l D c H0 sa) mJ_cmp 0 0 0 [iv x, iv y] (mk w μ) (qP w μ (qJ1 x y)) := by
  refine sC.weak (c_cmp l D c H0 sa (d := 0) (x := Int32.ofInt x) (y := Int32.ofInt y)) ?_
  rintro r hp' ⟨rfl, rfl⟩
  have h1 := iv_lt hx hy
  have h2 := iv_eq hx hy
  by_cases q : x < y
  · rw [if_pos (h1.mpr q)]
    exact ⟨-1, rfl, rfl, by decide, fun _ => rfl, fun _ => by omega, fun _ => by omega⟩
  · rw [if_neg (fun z => q (h1.mp z))]
    by_cases q2 : x = y
    · rw [if_pos (h2.mpr q2)]
      exact ⟨0, rfl, rfl, by decide, fun _ => by omega, fun _ => rfl, fun _ => by omega⟩
    · rw [if_neg (fun z => q2 (h2.mp z))]
      exact ⟨1, rfl, rfl, by decide, fun _ => by omega, fun _ => by omega, fun _ => rfl⟩
theorem iv_natE {e : Int} (h : 0 ≤ e ∧ e ≤ 2147483647) : (Int32.ofInt e).toNatClampNeg = e.toNat := by
  show (Int32.ofInt e).toInt.toNat = e.toNat
  rw [ivI (by omega)]
theorem iv_nn {e : Int} (h : 0 ≤ e ∧ e ≤ 2147483647) : ¬ Int32.ofInt e < 0 := by
  intro q
  have q : Int32.ofInt e < Int32.ofInt 0 := q
  rw [iv_lt (by omega) (by omega)] at q; omega
section MJ
variable {g : sG} {M : sM} {R : Room} {Z : sZT} {pc : Nat} {lv : List (Nat × Value)} {st : List Value} {hp : sHp} {w : mW} {μ : mM} {ce sl : Nat}
theorem mr_min {index : Nat} {x y : Int} (hd : decode M.2.1 pc = .ok (.invokestatic index, 3)) (hlk : Cond.methodLink M.1.cls index yJ_min ∈ sg_ws g) (hs : Cond.static yJ_min ∈ sg_ws g) (hi : Cond.initialized "java/lang/Math" ∈ sg_ws g) (hk : Cond.code yJ_min cJ_min 2 (some .int) ∈ sg_ws g) (hR : 1 ≤ R.frames ∧ 21 ≤ R.locals) (hc : ce ≤ R.cells ∧ sl ≤ R.slots) (hr8 : (st.map fun v => v.category).sum ≤ 8) (hx : -2147483648 ≤ x ∧ x ≤ 2147483647) (hy : -2147483648 ≤ y ∧ y ≤ 2147483647)
    (kk : ∀ z, ((z = x ∨ z = y) ∧ z ≤ x ∧ z ≤ y) → sV g M R Z (pc + 3) lv (iv z :: st) hp ce sl) : sV g M R Z pc lv (iv y :: iv x :: st) hp ce sl := by
  refine sv_min hd hlk hs hi hk hR hc hr8 rfl ?_
  have h1 := iv_lt hy hx
  by_cases q : y < x
  · rw [if_pos (h1.mpr q)]; exact kk y ⟨Or.inr rfl, by omega, by omega⟩
  · rw [if_neg (fun z => q (h1.mp z))]; exact kk x ⟨Or.inl rfl, by omega, by omega⟩
theorem mr_max {index : Nat} {x y : Int} (hd : decode M.2.1 pc = .ok (.invokestatic index, 3)) (hlk : Cond.methodLink M.1.cls index yJ_max ∈ sg_ws g) (hs : Cond.static yJ_max ∈ sg_ws g) (hi : Cond.initialized "java/lang/Math" ∈ sg_ws g) (hk : Cond.code yJ_max cJ_max 2 (some .int) ∈ sg_ws g) (hR : 1 ≤ R.frames ∧ 21 ≤ R.locals) (hc : ce ≤ R.cells ∧ sl ≤ R.slots) (hr8 : (st.map fun v => v.category).sum ≤ 8) (hx : -2147483648 ≤ x ∧ x ≤ 2147483647) (hy : -2147483648 ≤ y ∧ y ≤ 2147483647)
    (kk : ∀ z, ((z = x ∨ z = y) ∧ x ≤ z ∧ y ≤ z) → sV g M R Z (pc + 3) lv (iv z :: st) hp ce sl) : sV g M R Z pc lv (iv y :: iv x :: st) hp ce sl := by
  refine sv_max hd hlk hs hi hk hR hc hr8 rfl ?_
  have h1 := iv_lt hx hy
  by_cases q : x < y
  · rw [if_pos (h1.mpr q)]; exact kk y ⟨Or.inr rfl, by omega, by omega⟩
  · rw [if_neg (fun z => q (h1.mp z))]; exact kk x ⟨Or.inl rfl, by omega, by omega⟩
/-- memory behind a copy of n elements -/
def mCp (μ : mM) (a0 a sp dp n : Nat) : mM := fun b j => if b = a then (if dp ≤ j ∧ j < dp + n then μ a0 (sp + (j - dp)) else μ a j) else μ b j
def mQ (μ : mM) (a0 a : Nat) (sp dp n : Int) (μ1 : mM) : Prop := (∀ b j, b ≠ a → μ1 b j = μ b j) ∧ ∀ j : Nat, μ1 a j = if dp ≤ (j : Int) ∧ (j : Int) < dp + n then μ a0 (sp.toNat + (j - dp.toNat)) else μ a j
theorem mr_ac {index a0 a s0 s1 : Nat} {cA : ClassId} {sp dp n : Int} (hd : decode M.2.1 pc = .ok (.invokestatic index, 3)) (hlk : Cond.methodLink M.1.cls index arraycopyName ∈ sg_ws g) (hw1 : Cond.native arraycopyName ∈ sg_ws g) (hw2 : Cond.static arraycopyName ∈ sg_ws g) (hw3 : Cond.initialized "java/lang/System" ∈ sg_ws g) (ht : g.2.2.1[0]? = some (cA, .int)) (hA0 : mAt w a0 s0) (hs0 : mTab s0 = .inr (0, 0)) (hA : mAt w a s1) (hs1 : mTab s1 = .inr (0, 0)) (h1 : 0 ≤ sp) (h2 : 0 ≤ dp) (h3 : 0 ≤ n) (h4 : sp + n ≤ (w.2.2.1 a0 : Int)) (h5 : dp + n ≤ (w.2.2.1 a : Int)) (hb0 : w.2.2.1 a0 ≤ 2147483647) (hb : w.2.2.1 a ≤ 2147483647) (hfr : 1 ≤ R.frames) (hlo : nativeFrameWords "java/lang/System" "arraycopy" 5 + 19 ≤ R.locals) (hr8 : (st.map fun v => v.category).sum ≤ 8) (hT : mT w μ) (hty : ∀ i j : Nat, dp ≤ (j : Int) → (j : Int) < dp + n → tyP w a j (mTy s1 j) (μ a0 i))
    (kk : ∀ μ1, mQ μ a0 a sp dp n μ1 → mT w μ1 → sV g M R Z (pc + 3) lv st (mk w μ1) ce sl) : sV g M R Z pc lv (iv n :: iv dp :: .ref a :: iv sp :: .ref a0 :: st) (mk w μ) ce sl := by
  have e1 := iv_natE (e := sp) ⟨h1, by omega⟩
  have e2 := iv_natE (e := dp) ⟨h2, by omega⟩
  have e3 := iv_natE (e := n) ⟨h3, by omega⟩
  refine sv_copyI (hf := (mk w μ).2) (hn := (mk w μ).1) (q := fun i => Int32.ofInt (μ a0 i)) (q' := fun i => Int32.ofInt (μ a i)) hd hlk hw1 hw2 hw3 ht hA0.2.1 hA.2.1 (mk_arr hA0 hs0) (mk_arr hA hs1) (iv_nn ⟨h1, by omega⟩) (iv_nn ⟨h2, by omega⟩) (iv_nn ⟨h3, by omega⟩) (by rw [e1, e3]; omega) (by rw [e2, e3]; omega) hfr hlo hr8 ?_
  rw [e1, e2, e3]
  refine sv_heap (hp' := mk w (mCp μ a0 a sp.toNat dp.toNat n.toNat)) rfl (fun j _ => ?_) (kk _ ⟨fun b j hb => if_neg hb, fun j => ?_⟩ ?_)
  · show sUp (mk w μ).2 a _ j = (mk w (mCp μ a0 a sp.toNat dp.toNat n.toNat)).2 j
    by_cases h : j = a
    · subst h
      rw [sUp_at, mk_arr hA hs1]
      congr 3
      funext i
      simp only [sI, va_cpy, mv, iv, mCp, if_true]
      split <;> rfl
    · rw [sUp_ne _ _ h]
      have : mCp μ a0 a sp.toNat dp.toNat n.toNat j = μ j := by funext i; simp only [mCp, if_neg h]
      simp only [mk, this]
  · simp only [mCp, if_true]
    by_cases q : dp ≤ (j : Int) ∧ (j : Int) < dp + n
    · rw [if_pos q, if_pos (by omega)]
    · rw [if_neg q, if_neg (by omega)]
  · intro b t hB i
    by_cases h : b = a
    · subst h
      have hst : t = s1 := hB.1.symm.trans hA.1
      subst hst
      simp only [mCp, if_true]
      split
      next q => exact hty _ i (by omega) (by omega)
      next q => exact hT b t hB i
    · have : mCp μ a0 a sp.toNat dp.toNat n.toNat b i = μ b i := by simp only [mCp, if_neg h]
      rw [this]; exact hT b t hB i
/-- memory behind a fill -/
def mFl (μ : mM) (a n : Nat) (z : Int) : mM := fun b j => if b = a ∧ j < n then z else μ b j
theorem mT.fill {a s n : Nat} {z : Int} (hT : mT w μ) (hA : mAt w a s) (hz : ∀ j, tyP w a j (mTy s j) z) : mT w (mFl μ a n z) := by
  intro b t hB i
  by_cases h : b = a ∧ i < n
  · simp only [mFl, if_pos h]
    obtain ⟨rfl, -⟩ := h
    have hst : t = s := hB.1.symm.trans hA.1
    subst hst
    exact hz i
  · simp only [mFl, if_neg h]; exact hT b t hB i
def mQF (μ : mM) (a n : Nat) (z : Int) (μ1 : mM) : Prop := (∀ b j, b ≠ a → μ1 b j = μ b j) ∧ ∀ j : Nat, j < n → μ1 a j = z
theorem mr_heapF {a s kd n : Nat} {z : Int} {v : Value} (hA : mAt w a s) (hs : mTab s = .inr (kd, 0)) (hn : w.2.2.1 a = n) (hv : v = iv z) (k : sV g M R Z pc lv st (mk w (mFl μ a n z)) ce sl) : sV g M R Z pc lv st ((mk w μ).1, sUp (mk w μ).2 a (.inl (kd, n, sFill n v (fun i => mv 0 (μ a i))))) ce sl := by
  subst hv
  refine sv_heap (hp' := mk w (mFl μ a n z)) rfl (fun j _ => ?_) k
  show sUp (mk w μ).2 a _ j = (mk w (mFl μ a n z)).2 j
  by_cases h : j = a
  · subst h
    rw [sUp_at, mk_arr hA hs, hn]
    congr 3
    funext i
    simp only [sFill, mv, mFl, true_and]
    split <;> rfl
  · rw [sUp_ne _ _ h]
    have : mFl μ a n z j = μ j := by funext i; simp only [mFl, h, false_and, if_false]
    simp only [mk, this]
end MJ
section MJ2
variable {l : Launch} {D : va_G} {c : Nat → ClassId} {H0 : Heap} {sa : Nat × Nat × (Nat → Int32)} {M : sM} {R : Room} {Z : sZT} {pc : Nat} {lv : List (Nat × Value)} {st : List Value} {w : mW} {μ : mM} {ce sl : Nat}
theorem mr_fillI {index a s n : Nat} {z : Int} (hd : decode M.2.1 pc = .ok (.invokestatic index, 3)) (hlk : Cond.methodLink M.1.cls index yJ_fillI ∈ lw_ok) (hA : mAt w a s) (hs : mTab s = .inr (0, 0)) (hn : w.2.2.1 a = n) (hn2 : n < 2 ^ 31) (hT : mT w μ) (hz : ∀ j, tyP w a j (mTy s j) z) (hR : 1 ≤ R.frames ∧ 60 * 0 + 4 + 19 ≤ R.locals) (hce : ce ≤ R.cells ∧ sl ≤ R.slots) (hr8 : (st.map fun v => v.category).sum ≤ 8)
    (kk : ∀ μ1, mQF μ a n z μ1 → mT w μ1 → sV (gG l D c H0 sa) M R Z (pc + 3) lv st (mk w μ1) ce sl) : sV (gG l D c H0 sa) M R Z pc lv (iv z :: .ref a :: st) (mk w μ) ce sl := by
  refine sv_callS (c_fillI l D c H0 sa (d := 0) (f := fun i => mv 0 (μ a i)) hA.2.1 (by rw [mk_arr hA hs, hn]) hn2) (gOk _ _ _ _ _) hd (tJ_fillI _ _ _ _ _) wS_J_fillI hlk hR hce rfl hr8 ?_
  rintro r hp' ⟨rfl, rfl⟩
  exact mr_heapF hA hs hn rfl (kk _ ⟨fun b j hb => if_neg (fun q => hb q.1), fun j hj => if_pos ⟨rfl, hj⟩⟩ (hT.fill hA hz))
theorem mr_fillB {index a s n : Nat} {z : Int} (hd : decode M.2.1 pc = .ok (.invokestatic index, 3)) (hlk : Cond.methodLink M.1.cls index yJ_fillB ∈ lw_ok) (hA : mAt w a s) (hs : mTab s = .inr (2, 0)) (hn : w.2.2.1 a = n) (hn2 : n < 2 ^ 31) (hT : mT w μ) (hb : -128 ≤ z ∧ z ≤ 127) (hz : ∀ j, tyP w a j (mTy s j) z) (hR : 1 ≤ R.frames ∧ 60 * 0 + 4 + 19 ≤ R.locals) (hce : ce ≤ R.cells ∧ sl ≤ R.slots) (hr8 : (st.map fun v => v.category).sum ≤ 8)
    (kk : ∀ μ1, mQF μ a n z μ1 → mT w μ1 → sV (gG l D c H0 sa) M R Z (pc + 3) lv st (mk w μ1) ce sl) : sV (gG l D c H0 sa) M R Z pc lv (iv z :: .ref a :: st) (mk w μ) ce sl := by
  refine sv_callS (c_fillB l D c H0 sa (d := 0) (f := fun i => mv 0 (μ a i)) hA.2.1 (by rw [mk_arr hA hs, hn]) hn2) (gOk _ _ _ _ _) hd (tJ_fillB _ _ _ _ _) wS_J_fillB hlk hR hce rfl hr8 ?_
  rintro r hp' ⟨rfl, rfl⟩
  exact mr_heapF hA hs hn (by rw [narB hb]; rfl) (kk _ ⟨fun b j hb => if_neg (fun q => hb q.1), fun j hj => if_pos ⟨rfl, hj⟩⟩ (hT.fill hA hz))
end MJ2
