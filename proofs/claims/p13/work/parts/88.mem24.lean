/-! A copy whose numbers are known to be small only where they are read. -/
section MV24
variable {g : sG} {M : sM} {R : Room} {Z : sZT} {pc : Nat} {lv : List (Nat × Value)} {st : List Value} {hp : sHp} {w : mW} {μ : mM} {ce sl : Nat}
theorem mr_acR {index a0 a s0 s1 : Nat} {cA : ClassId} {sp dp n : Int} (hd : decode M.2.1 pc = .ok (.invokestatic index, 3)) (hlk : Cond.methodLink M.1.cls index arraycopyName ∈ sg_ws g) (hw1 : Cond.native arraycopyName ∈ sg_ws g) (hw2 : Cond.static arraycopyName ∈ sg_ws g) (hw3 : Cond.initialized "java/lang/System" ∈ sg_ws g) (ht : g.2.2.1[0]? = some (cA, .int)) (hA0 : mAt w a0 s0) (hs0 : mTab s0 = .inr (0, 0)) (hA : mAt w a s1) (hs1 : mTab s1 = .inr (0, 0)) (h1 : 0 ≤ sp) (h2 : 0 ≤ dp) (h3 : 0 ≤ n) (h4 : sp + n ≤ (w.2.2.1 a0 : Int)) (h5 : dp + n ≤ (w.2.2.1 a : Int)) (hb0 : w.2.2.1 a0 ≤ 2147483647) (hb : w.2.2.1 a ≤ 2147483647) (hfr : 1 ≤ R.frames) (hlo : nativeFrameWords "java/lang/System" "arraycopy" 5 + 19 ≤ R.locals) (hr8 : (st.map fun v => v.category).sum ≤ 8) (hT : mT w μ) (hty : ∀ i j : Nat, sp ≤ (i : Int) → (i : Int) < sp + n → dp ≤ (j : Int) → (j : Int) < dp + n → tyP w a j (mTy s1 j) (μ a0 i))
    (kk : ∀ μ1, mQ μ a0 a sp dp n μ1 → mT w μ1 → sV g M R Z (pc + 3) lv st (mk w μ1) ce sl) : sV g M R Z pc lv (iv n :: iv dp :: .ref a :: iv sp :: .ref a0 :: st) (mk w μ) ce sl := by
  have e1 := iv_natE (e := sp) ⟨h1, by omega⟩
  have e2 := iv_natE (e := dp) ⟨h2, by omega⟩
  have e3 := iv_natE (e := n) ⟨h3, by omega⟩
  refine sv_copyI (hf := (mk w μ).2) (hn := (mk w μ).1) (q := fun i => Int32.ofInt (μ a0 i)) (q' := fun i => Int32.ofInt (μ a i)) hd hlk hw1 hw2 hw3 ht hA0.2.1 hA.2.1 (mk_arr hA0 hs0) (mk_arr hA hs1) (iv_nn ⟨h1, by omega⟩) (iv_nn ⟨h2, by omega⟩) (iv_nn ⟨h3, by omega⟩) (by rw [e1, e3]; omega) (by rw [e2, e3]; omega) hfr hlo hr8 ?_
  rw [e1, e2, e3]
  refine sv_heap (hp' := mk w (mCp μ a0 a sp.toNat dp.toNat n.toNat)) rfl (fun j _ => ?_) (kk _ ⟨fun b j hb => if_neg hb, fun j => ?_⟩ ?_)
  · show sUp (mk w μ).2 a _ j = (mk w (mCp μ a0 a sp.toNat dp.toNat n.toNat)).2 j
    by_cases h : j = a
    · subst h
      rw [sUp_at, mk_arr hA hs1]
      congr 3
      funext i
      simp only [sI, va_cpy, mv, iv, mCp, if_true]
      split <;> rfl
    · rw [sUp_ne _ _ h]
      have : mCp μ a0 a sp.toNat dp.toNat n.toNat j = μ j := by funext i; simp only [mCp, if_neg h]
      simp only [mk, this]
  · simp only [mCp, if_true]
    by_cases q : dp ≤ (j : Int) ∧ (j : Int) < dp + n
    · rw [if_pos q, if_pos (by omega)]
    · rw [if_neg q, if_neg (by omega)]
  · intro b t hB i
    by_cases h : b = a
    · subst h
      have hst : t = s1 := hB.1.symm.trans hA.1
      subst hst
      simp only [mCp, if_true]
      split
      next q => exact hty _ i (by omega) (by omega) (by omega) (by omega)
      next q => exact hT b t hB i
    · have : mCp μ a0 a sp.toNat dp.toNat n.toNat b i = μ b i := by simp only [mCp, if_neg h]
      rw [this]; exact hT b t hB i
end MV24
