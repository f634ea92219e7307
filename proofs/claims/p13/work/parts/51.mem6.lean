/-! A rule's figures: no figure twice, so six at most. -/
def pc7 (s : Int) : Int := s / 2 % 2 + s / 4 % 2 + s / 8 % 2 + s / 16 % 2 + s / 32 % 2 + s / 64 % 2
def sOK (s n : Int) : Prop := 0 ≤ s ∧ s ≤ 126 ∧ s % 2 = 0 ∧ pc7 s = n
theorem sOK.le {s n : Int} (h : sOK s n) : 0 ≤ n ∧ n ≤ 6 := by
  obtain ⟨h1, h2, h3, h4⟩ := h
  simp only [pc7] at h4
  omega
theorem sOK_fin : ∀ (s : Fin 127) (f : Fin 7), f.val ≠ 0 → s.val % 2 = 0 → bAnd (bShr ((s.val : Nat) : Int) ((f.val : Nat) : Int)) 1 ≠ 1 → (0 ≤ bOr ((s.val : Nat) : Int) (bShl 1 ((f.val : Nat) : Int)) ∧ bOr ((s.val : Nat) : Int) (bShl 1 ((f.val : Nat) : Int)) ≤ 126 ∧ bOr ((s.val : Nat) : Int) (bShl 1 ((f.val : Nat) : Int)) % 2 = 0 ∧ pc7 (bOr ((s.val : Nat) : Int) (bShl 1 ((f.val : Nat) : Int))) = pc7 ((s.val : Nat) : Int) + 1) := by decide +kernel
theorem sOK.add {s n f a b c d : Int} (h : sOK s n) (hf : 1 ≤ f ∧ f ≤ 6) (q1 : bShr s f = a) (q2 : bAnd a 1 = b) (hb : ¬ b = 1) (q3 : bShl 1 f = c) (q4 : bOr s c = d) : sOK d (n + 1) := by
  subst q1; subst q2; subst q3; subst q4
  obtain ⟨h1, h2, h3, h4⟩ := h
  have hs : ((s.toNat : Nat) : Int) = s := Int.toNat_of_nonneg h1
  have hf' : ((f.toNat : Nat) : Int) = f := Int.toNat_of_nonneg (by omega)
  have := sOK_fin ⟨s.toNat, by omega⟩ ⟨f.toNat, by omega⟩ (by show f.toNat ≠ 0; omega) (by show s.toNat % 2 = 0; omega)
  simp only [hs, hf'] at this
  obtain ⟨k1, k2, k3, k4⟩ := this hb
  exact ⟨k1, k2, k3, by rw [k4, h4]⟩
theorem sOK.zero : sOK 0 0 := ⟨by decide, by decide, by decide, by decide⟩
theorem bAnd1 {a b : Int} (q : bAnd a 1 = b) (h : b = 0) : ¬ b = 1 := by omega
def rOK (p l s : Int) : Prop := ∃ k : Nat, sOK s (k : Int) ∧ l * 10 ^ k ≤ p ∧ p < (l + 1) * 10 ^ k
theorem rOK.init {p : Int} : rOK p p 0 := ⟨0, sOK.zero, by simp, by simp; omega⟩
theorem rOK.step {p l s d m : Int} (h : rOK p l s) (ha : ∀ n, sOK s n → sOK d (n + 1)) (q : l / 10 = m) : rOK p m d := by
  obtain ⟨k, h1, h2, h3⟩ := h
  have ht : (0 : Int) < 10 ^ k := Int.pow_pos (by decide)
  refine ⟨k + 1, by have := ha _ h1; simpa using this, ?_, ?_⟩
  · rw [Int.pow_succ]
    have e : m * 10 ≤ l := by omega
    have := Int.mul_le_mul_of_nonneg_right e (Int.le_of_lt ht)
    have e2 : m * (10 ^ k * 10) = m * 10 * 10 ^ k := by rw [Int.mul_comm (10 ^ k) 10, Int.mul_assoc]
    omega
  · rw [Int.pow_succ]
    have e : l + 1 ≤ (m + 1) * 10 := by omega
    have := Int.mul_le_mul_of_nonneg_right e (Int.le_of_lt ht)
    have e2 : (m + 1) * (10 ^ k * 10) = (m + 1) * 10 * 10 ^ k := by rw [Int.mul_comm (10 ^ k) 10, Int.mul_assoc]
    omega
theorem rOK.done {p l s : Int} (h : rOK p l s) (hl : l ≤ 0) : p ≤ 999999 := by
  obtain ⟨k, h1, h2, h3⟩ := h
  have hk : k ≤ 6 := by have := h1.le; omega
  have ht : (0 : Int) < 10 ^ k := Int.pow_pos (by decide)
  have e : l + 1 ≤ 1 := by omega
  have := Int.mul_le_mul_of_nonneg_right e (Int.le_of_lt ht)
  have h6 : ∀ k : Nat, k < 7 → (10 : Int) ^ k ≤ 1000000 := by decide
  have := h6 k (by omega)
  omega
