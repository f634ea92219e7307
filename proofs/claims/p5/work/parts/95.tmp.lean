def hasLe (μ : mM) (n : Int) : Prop := ∀ i : Nat, 1 ≤ i → i < 7 → μ 101 i ≤ n
theorem hasLe.up {μ μ1 : mM} {n e z : Int} (h : hasLe μ n) (u : mU μ 101 e.toNat z μ1) (hz : z ≤ n) : hasLe μ1 n := fun i h1 hi => by
  by_cases hk : i = e.toNat
  · rw [hk, u.1]; exact hz
  · rw [u.2 101 i (Or.inr hk)]; exact h i h1 hi
theorem hasLe.at {μ : mM} {n e z : Int} (h : hasLe μ n) (he : 1 ≤ e ∧ e ≤ 6) (q : μ 101 e.toNat = z) : z ≤ n := by rw [← q]; exact h _ (by omega) (by omega)
theorem hasLe.le {μ : mM} {n m : Int} (h : hasLe μ n) (hm : n ≤ m) : hasLe μ m := fun i h1 hi => Int.le_trans (h i h1 hi) hm
theorem hasLe.keep {l : List Nat} {w : mW} {μ μ1 : mM} {n : Int} (h : hasLe μ n) (hw : mWF w) (hF : mF l w μ μ1) (hl : l.elem 101999 = false) : hasLe μ1 n := fun i h1 hi => by
  rw [hF.f (z := μ 101 i) (A_101 hw) hl rfl]; exact h i h1 hi
