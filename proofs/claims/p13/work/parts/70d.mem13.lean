/-! Numbers that wrap, exactly. -/
section MV13
variable {g : sG} {M : sM} {R : Room} {Z : sZT} {pc : Nat} {lv : List (Nat × Value)} {st : List Value} {hp : sHp} {ce sl : Nat}
theorem wrap_mod (e : Int) : ((Int32.ofInt e).toInt - e) % 4294967296 = 0 := by
  rw [Int32.toInt_ofInt]
  have hs : Int32.size = 4294967296 := rfl
  simp only [Int.bmod, hs]
  split <;> omega
theorem mr_wrapF {e : Int} (k : ∀ z, (-2147483648 ≤ z ∧ z ≤ 2147483647) → (z - e) % 4294967296 = 0 → sV g M R Z pc lv (iv z :: st) hp ce sl) : sV g M R Z pc lv (iv e :: st) hp ce sl := by
  have h := k (Int32.ofInt e).toInt (r32i _) (wrap_mod e)
  simp only [iv, Int32.ofInt_toInt] at h ⊢
  exact h
end MV13
