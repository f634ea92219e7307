/-! Rows of changing length: more. -/
theorem lnQ {w : mW} {μ : mM} {a k1 k2 b1 b2 : Nat} {n1 n2 : Int} (q1 : μ a k1 = (b1 : Int)) (q2 : μ a k2 = (b2 : Int)) (h : w.2.2.1 (μ a k1).toNat = w.2.2.1 (μ a k2).toNat) (h1 : (w.2.2.1 b1 : Int) = n1) (h2 : (w.2.2.1 b2 : Int) = n2) : n2 = n1 := by
  rw [q1, q2] at h
  have h : w.2.2.1 b1 = w.2.2.1 b2 := h
  omega
theorem lnF {w : mW} {μ : mM} {a k c : Nat} {e n : Int} (q : μ a k = (c : Int)) (h : (w.2.2.1 c : Int) = n) (p : e < n) : e < (w.2.2.1 (μ a k).toNat : Int) := by
  rw [q]
  show e < (w.2.2.1 c : Int)
  omega
theorem lnL {w : mW} {c : Nat} {e n : Int} (h : (w.2.2.1 c : Int) = n) (p : e ≤ n) : e ≤ (w.2.2.1 c : Int) := by omega
theorem lnLt {w : mW} {c : Nat} {e n : Int} (h : (w.2.2.1 c : Int) = n) (p : e < (w.2.2.1 c : Int)) : e < n := by omega
theorem lnLe {w : mW} {c : Nat} {e n : Int} (h : (w.2.2.1 c : Int) = n) (p : e ≤ (w.2.2.1 c : Int)) : e ≤ n := by omega
theorem argB {μ0 μ : mM} {c : Nat} {f k i e z : Int} (h : ∀ i : Int, 0 ≤ i → i < k → 0 ≤ μ0 c (f + 2 * i + 1).toNat ∧ μ0 c (f + 2 * i + 1).toNat ≤ 1000000) (h0 : 0 ≤ i) (h1 : i < k) (he : e = f + 2 * i + 1) (hm : μ c e.toNat = μ0 c e.toNat) (q : μ c e.toNat = z) : 0 ≤ z ∧ z ≤ 1000000 := by
  subst he
  have := h i h0 h1
  rw [← hm, q] at this; exact this
theorem argC {μ0 μ : mM} {c : Nat} {f k g : Int} (h : ∀ i : Int, 0 ≤ i → i < k → 0 ≤ μ0 c (g + 2 * i + 1).toNat ∧ μ0 c (g + 2 * i + 1).toNat ≤ 1000000) (he : f = g) (hm : μ c = μ0 c) : ∀ i : Int, 0 ≤ i → i < k → 0 ≤ μ c (f + 2 * i + 1).toNat ∧ μ c (f + 2 * i + 1).toNat ≤ 1000000 := by
  subst he
  rw [hm]; exact h
theorem wfR.cg {m : Nat → Int} {len n : Nat} {a b : Int} (h : wfR m len a.toNat n) (e : b = a) : wfR m len b.toNat n := by rw [e]; exact h
