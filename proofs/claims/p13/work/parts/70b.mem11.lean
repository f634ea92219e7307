/-! Counting over a row. -/
def cnt (μ : mM) (a : Nat) : Nat → Int
  | 0 => 0
  | n + 1 => cnt μ a n + μ a n
theorem cnt_same {μ μ1 : mM} {a : Nat} : ∀ {n : Nat}, (∀ i, i < n → μ1 a i = μ a i) → cnt μ1 a n = cnt μ a n
  | 0, _ => rfl
  | n + 1, h => by
    simp only [cnt]
    rw [cnt_same (fun i hi => h i (Nat.lt_succ_of_lt hi)), h n (Nat.lt_succ_self n)]
theorem cnt_up {μ μ1 : mM} {a k : Nat} {z : Int} (hU : mU μ a k z μ1) : ∀ {n : Nat}, k < n → cnt μ1 a n = cnt μ a n + z - μ a k
  | 0, h => absurd h (Nat.not_lt_zero k)
  | n + 1, h => by
    simp only [cnt]
    by_cases hk : k = n
    · subst hk
      rw [cnt_same (fun i hi => hU.2 a i (Or.inr (Nat.ne_of_lt hi))), hU.1]
      omega
    · rw [cnt_up hU (by omega), hU.2 a n (Or.inr (Ne.symm hk))]
      omega
theorem cnt_rng {μ : mM} {a : Nat} (h : ∀ i, 0 ≤ μ a i ∧ μ a i ≤ 1) : ∀ n : Nat, 0 ≤ cnt μ a n ∧ cnt μ a n ≤ (n : Int)
  | 0 => ⟨Int.le_refl 0, Int.le_refl 0⟩
  | n + 1 => by
    have h1 := cnt_rng h n
    have h2 := h n
    simp only [cnt]
    omega
theorem cntU {μ μ1 : mM} {a n : Nat} {e z c o : Int} {m : Int} (hU : mU μ a e.toNat z μ1) (hi : 0 ≤ e ∧ e < m) (hm : (n : Int) = m) (qc : cnt μ a n = c) (qo : μ a e.toNat = o) : cnt μ1 a n = c + z - o := by
  rw [cnt_up hU (by omega), qc, qo]
theorem cntO {μ μ1 : mM} {a n b k : Nat} {z c : Int} (hU : mU μ b k z μ1) (hb : a ≠ b) (qc : cnt μ a n = c) : cnt μ1 a n = c := by
  rw [cnt_same (fun i _ => hU.2 a i (Or.inl hb)), qc]
theorem cntF {l : List Nat} {w : mW} {μ μ1 : mM} {a s n : Nat} {c : Int} (hF : mF l w μ μ1) (hA : mAt w a s) (hs : mArr s = true) (hl : l.elem (1000 * s + 999) = false) (qc : cnt μ a n = c) : cnt μ1 a n = c := by
  rw [cnt_same (fun i _ => hF a i (by simp only [mRg, hA.1, hs, if_true]; exact hl)), qc]
