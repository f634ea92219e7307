/-! How much lies in memory: cells and slots, counted. -/
def sumN (f : Nat → Nat) : Nat → Nat
  | 0 => 0
  | n + 1 => sumN f n + f n
theorem sumN_le {f g : Nat → Nat} : ∀ {n : Nat}, (∀ i, i < n → f i ≤ g i) → sumN f n ≤ sumN g n
  | 0, _ => Nat.le_refl _
  | n + 1, h => Nat.add_le_add (sumN_le fun i hi => h i (Nat.lt_succ_of_lt hi)) (h n (Nat.lt_succ_self n))
theorem sumN_eq {f g : Nat → Nat} : ∀ {n : Nat}, (∀ i, i < n → f i = g i) → sumN f n = sumN g n
  | 0, _ => rfl
  | n + 1, h => by
    show sumN f n + f n = sumN g n + g n
    rw [sumN_eq fun i hi => h i (Nat.lt_succ_of_lt hi), h n (Nat.lt_succ_self n)]
theorem sumN_add {f : Nat → Nat} (n : Nat) : ∀ k, sumN f (n + k) = sumN f n + sumN (fun i => f (n + i)) k
  | 0 => rfl
  | k + 1 => by
    show sumN f (n + k) + f (n + k) = sumN f n + (sumN (fun i => f (n + i)) k + f (n + k))
    rw [sumN_add n k]; omega
def szS (s n : Nat) : Nat := match mTab s with
  | .inl (_, ks) => ks.length
  | .inr _ => n
def szW (w : mW) : Nat := sumN (fun a => szS (w.2.1 a) (w.2.2.1 a)) w.1
theorem szW.ext {w w1 : mW} (h : wE w w1) : szW w1 = szW w + sumN (fun i => szS (w1.2.1 (w.1 + i)) (w1.2.2.1 (w.1 + i))) (w1.1 - w.1) := by
  have e : w1.1 = w.1 + (w1.1 - w.1) := by have := h.1; omega
  unfold szW
  rw [e, sumN_add]
  rw [← e]
  congr 1
  · exact sumN_eq fun i hi => by rw [(h.2.1 i hi).1, (h.2.1 i hi).2]
theorem szW.new {w w1 : mW} {s kd k : Nat} {x : Int} (h : wE w w1) (e : w1.1 = w.1 + 1) (hA : mAt w1 w.1 s) (hs : mTab s = .inr (kd, k)) (q : (w1.2.2.1 w.1 : Int) = x) : (szW w1 : Int) = szW w + x := by
  have := szW.ext h
  rw [e, show w.1 + 1 - w.1 = 1 by omega] at this
  have e1 : sumN (fun i => szS (w1.2.1 (w.1 + i)) (w1.2.2.1 (w.1 + i))) 1 = w1.2.2.1 w.1 := by
    show 0 + szS (w1.2.1 (w.1 + 0)) (w1.2.2.1 (w.1 + 0)) = w1.2.2.1 w.1
    rw [Nat.zero_add, Nat.add_zero, hA.1]
    unfold szS
    rw [hs]
  rw [e1] at this
  omega
/-- two rows more, each at least twice as long as the one before -/
theorem potM {w w1 w2 : mW} {bq : Nat} {n x y : Int} (h1 : wE w w1) (e1 : w1.1 = w.1 + 1) (A1 : mAt w1 w.1 102) (q1 : (w1.2.2.1 w.1 : Int) = x) (h2 : wE w1 w2) (e2 : w2.1 = w1.1 + 1) (A2 : mAt w2 w1.1 104) (q2 : (w2.2.2.1 w1.1 : Int) = x) (hn : (w.2.2.1 bq : Int) = n) (qy : y = ((w.1 : Nat) : Int)) (hx : 2 * n ≤ x ∧ n < x) : (szW w2 : Int) + 4 * (w.2.2.1 bq : Int) ≤ szW w + 4 * (w2.2.2.1 y.toNat : Int) ∧ (w2.1 : Int) + 2 * (w.2.2.1 bq : Int) ≤ (w.1 : Int) + 2 * (w2.2.2.1 y.toNat : Int) := by
  have s1 := szW.new h1 e1 A1 rfl q1
  have s2 := szW.new h2 e2 A2 rfl q2
  have ey : y.toNat = w.1 := by omega
  have l2 : w2.2.2.1 w.1 = w1.2.2.1 w.1 := (h2.2.1 w.1 (by omega)).2
  rw [ey, l2, q1, hn]
  omega
theorem potM0 {w : mW} {bq : Nat} {y : Int} (qy : y = (bq : Int)) : (szW w : Int) + 4 * (w.2.2.1 bq : Int) ≤ szW w + 4 * (w.2.2.1 y.toNat : Int) ∧ (w.1 : Int) + 2 * (w.2.2.1 bq : Int) ≤ (w.1 : Int) + 2 * (w.2.2.1 y.toNat : Int) := by
  have ey : y.toNat = bq := by omega
  rw [ey]; exact ⟨Int.le_refl _, Int.le_refl _⟩
theorem potQ {w w1 : mW} {bq b : Nat} {x y : Int} (h : (szW w1 : Int) + 4 * (w.2.2.1 bq : Int) ≤ szW w + 4 * (w1.2.2.1 x.toNat : Int) ∧ (w1.1 : Int) + 2 * (w.2.2.1 bq : Int) ≤ (w.1 : Int) + 2 * (w1.2.2.1 x.toNat : Int)) (q : x = (b : Int)) (q' : y = (b : Int)) : (szW w1 : Int) + 4 * (w.2.2.1 bq : Int) ≤ szW w + 4 * (w1.2.2.1 y.toNat : Int) ∧ (w1.1 : Int) + 2 * (w.2.2.1 bq : Int) ≤ (w.1 : Int) + 2 * (w1.2.2.1 y.toNat : Int) := by
  rw [q', ← q]; exact h
