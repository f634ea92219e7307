theorem cgr {μ : mM} {a : Nat} {e f z y : Int} (q : μ a e.toNat = z) (r : μ a f.toNat = y) (h : e = f) : z = y := by rw [← q, ← r, h]
theorem rMulP {x y a b c d e f : Int} (h : a ≤ x ∧ x ≤ b) (k : c ≤ y ∧ y ≤ d) (q : (decide (0 ≤ a) && decide (0 ≤ c)) && (decide (e ≤ a * c) && decide (b * d ≤ f)) = true) : e ≤ x * y ∧ x * y ≤ f := by
  simp only [Bool.and_eq_true, decide_eq_true_eq] at q
  have h1 : a * c ≤ x * y := Int.mul_le_mul h.1 k.1 q.1.2 (by omega)
  have h2 : x * y ≤ b * d := Int.mul_le_mul h.2 k.2 (by omega) (by omega)
  omega
theorem bShl_eq {x : Int} {k : Nat} (hk : k < 31) (h : 0 ≤ x) (h2 : x * 2 ^ k ≤ 2147483647) : bShl x (k : Int) = x * 2 ^ k := by
  have hp : (1 : Int) ≤ 2 ^ k := by
    have : (0 : Int) < 2 ^ k := Int.pow_pos (by decide)
    omega
  have hx : x ≤ 2147483647 := Int.le_trans (by have := Int.mul_le_mul_of_nonneg_left hp h; omega) h2
  have e1 : (Int32.ofInt (k : Int) &&& 31) = Int32.ofInt (k : Int) := by
    have : ∀ k, k < 31 → (Int32.ofInt ((k : Nat) : Int) &&& 31) = Int32.ofInt ((k : Nat) : Int) := by decide
    exact this k hk
  have e2 : (Int32.ofInt x <<< Int32.ofInt (k : Int)) = Int32.ofInt (x * 2 ^ k) := by
    have e3 : (Int32.ofInt (k : Int)).toBitVec.toNat = k := by
      rw [Int32.toBitVec_ofInt, BitVec.toNat_ofInt]; omega
    apply Int32.toBitVec_inj.mp
    rw [Int32.toBitVec_shiftLeft, Int32.toBitVec_ofInt, Int32.toBitVec_ofInt (x * 2 ^ k)]
    have e4 : ((Int32.ofInt (k : Int)).toBitVec.smod 32) = (Int32.ofInt (k : Int)).toBitVec := by
      have : ∀ k, k < 31 → ((Int32.ofInt ((k : Nat) : Int)).toBitVec.smod 32) = (Int32.ofInt ((k : Nat) : Int)).toBitVec := by decide
      exact this k hk
    rw [e4, BitVec.shiftLeft_eq', e3]
    apply BitVec.eq_of_toInt_eq
    rw [BitVec.toInt_shiftLeft, BitVec.toNat_ofInt, BitVec.toInt_ofInt]
    have e5 : (x % ((2 ^ 32 : Nat) : Int)).toNat = x.toNat := by rw [Int.emod_eq_of_lt h (by omega)]
    rw [e5, Nat.shiftLeft_eq, Int.natCast_mul, Int.toNat_of_nonneg h, Int.natCast_pow]
    rfl
  simp only [bShl, e1, e2]
  exact ivI ⟨by have := Int.mul_nonneg h (by omega : (0 : Int) ≤ 2 ^ k); omega, h2⟩
theorem rShl {x a b f : Int} {k : Nat} (h : a ≤ x ∧ x ≤ b) (q : (decide (0 ≤ a) && decide (k < 31)) && (decide (b * 2 ^ k ≤ f) && decide (f ≤ 2147483647)) = true) : 0 ≤ bShl x (k : Int) ∧ bShl x (k : Int) ≤ f := by
  simp only [Bool.and_eq_true, decide_eq_true_eq] at q
  have hp : (0 : Int) ≤ 2 ^ k := Int.le_of_lt (Int.pow_pos (by decide))
  have h1 : x * 2 ^ k ≤ b * 2 ^ k := Int.mul_le_mul_of_nonneg_right h.2 hp
  rw [bShl_eq q.1.2 (by omega) (by omega)]
  have := Int.mul_nonneg (show 0 ≤ x by omega) hp
  omega
theorem rOr {x y a b c d f : Int} (k : Nat) (h : a ≤ x ∧ x ≤ b) (l : c ≤ y ∧ y ≤ d) (q : (decide (0 ≤ a) && (decide (0 ≤ c) && decide (k ≤ 31))) && ((decide (b < 2 ^ k) && decide (d < 2 ^ k)) && decide (2 ^ k - 1 ≤ f)) = true) : 0 ≤ bOr x y ∧ bOr x y ≤ f := by
  simp only [Bool.and_eq_true, decide_eq_true_eq] at q
  obtain ⟨z, h1, h2, h3⟩ := iv_or (a := x) (b := y) k q.1.2.2 (by omega) (by omega)
  have hn : (2 : Nat) ^ k ≤ 2 ^ 31 := Nat.pow_le_pow_right (by decide) q.1.2.2
  have hc : ((2 ^ k : Nat) : Int) = (2 : Int) ^ k := by exact Int.natCast_pow 2 k
  have hp : (2 : Int) ^ k ≤ 2147483648 := by omega
  simp only [bOr, h1]
  rw [ivI (by omega)]
  omega
