/-! Words as numbers; what a policy's draft keeps. -/
theorem lCmp_eq {x y z : Int} (q : lCmp x y = z) (hx : -9223372036854775808 ≤ x ∧ x ≤ 9223372036854775807) (hy : -9223372036854775808 ≤ y ∧ y ≤ 9223372036854775807) (hz : z = 0) : x = y := by
  subst q
  unfold lCmp lg_cmp at hz
  split at hz
  · exact absurd hz (by decide)
  · split at hz
    · rename_i _ h
      have h2 := congrArg Int64.toInt h
      rw [jvI hx, jvI hy] at h2; exact h2
    · exact absurd hz (by decide)
theorem lShl8_fin : ∀ b : Fin 256, lShl ((b.val : Nat) : Int) 8 = ((b.val : Nat) : Int) * 256 := by decide +kernel
theorem lShl0_fin : ∀ b : Fin 256, lShl ((b.val : Nat) : Int) 0 = ((b.val : Nat) : Int) := by decide +kernel
theorem lOr_r {a b : Int} (k : Nat) (hk : k ≤ 62) (ha : 0 ≤ a ∧ a < 2 ^ k) (hb : 0 ≤ b ∧ b < 2 ^ k) : 0 ≤ lOr a b ∧ lOr a b < 2 ^ k := by
  have hp : (2 : Nat) ^ k ≤ 2 ^ 62 := Nat.pow_le_pow_right (by decide) hk
  have hc : ((2 ^ k : Nat) : Int) = (2 : Int) ^ k := by exact Int.natCast_pow 2 k
  have h1 : (BitVec.ofInt 64 b).toNat = b.toNat := by rw [BitVec.toNat_ofInt]; omega
  have h0 : (BitVec.ofInt 64 a).toNat = a.toNat := by rw [BitVec.toNat_ofInt]; omega
  have h2 : (Int64.ofInt a ||| Int64.ofInt b).toBitVec.toNat < 2 ^ k := by
    rw [Int64.toBitVec_or, BitVec.toNat_or, Int64.toBitVec_ofInt, Int64.toBitVec_ofInt, h1, h0]
    exact Nat.or_lt_two_pow (by omega) (by omega)
  have h3 : (Int64.ofInt a ||| Int64.ofInt b).toInt = ((Int64.ofInt a ||| Int64.ofInt b).toBitVec.toNat : Int) := BitVec.toInt_eq_toNat_of_lt (by omega)
  unfold lOr; omega
theorem word1 {b c s z : Int} (hb : 0 ≤ b ∧ b ≤ 255) (q0 : b = c) (q1 : lShl c 0 = s) (q2 : lOr 0 s = z) : 0 ≤ z ∧ z ≤ 255 := by
  subst q0; subst q1; subst q2
  have hs : ((b.toNat : Nat) : Int) = b := Int.toNat_of_nonneg hb.1
  have := lShl0_fin ⟨b.toNat, by omega⟩
  simp only [hs] at this
  rw [this]
  have := lOr_r (a := 0) (b := b) 8 (by decide) (by omega) (by omega)
  omega
theorem word2 {b c s v z : Int} (hv : 0 ≤ v ∧ v ≤ 255) (hb : 0 ≤ b ∧ b ≤ 255) (q0 : b = c) (q1 : lShl c 8 = s) (q2 : lOr v s = z) : 0 ≤ z ∧ z ≤ 65535 := by
  subst q0; subst q1; subst q2
  have hs : ((b.toNat : Nat) : Int) = b := Int.toNat_of_nonneg hb.1
  have := lShl8_fin ⟨b.toNat, by omega⟩
  simp only [hs] at this
  rw [this]
  have := lOr_r (a := v) (b := b * 256) 16 (by decide) (by omega) (by omega)
  omega
