/-! Nets: a figure changed; steps and sources. -/
theorem wgk.div {C : Nat → Int} {j : Nat} : ∀ k : Nat, j < k → k ≤ 6 → ∃ M : Int, wgk C k = wgk C j * (C (6 - j) + 1) * M
  | 0, h, _ => by omega
  | k + 1, h, h6 => by
    by_cases c : j = k
    · subst c
      exact ⟨1, by rw [Int.mul_one]; rfl⟩
    · obtain ⟨M, e⟩ := wgk.div (C := C) (j := j) k (by omega) (by omega)
      refine ⟨M * (C (6 - k) + 1), ?_⟩
      show wgk C k * (C (6 - k) + 1) = _
      rw [e, Int.mul_assoc]
theorem dgF.set {C : Nat → Int} {s a : Int} {p p' : Nat} (hC : ∀ p : Nat, 1 ≤ p → p ≤ 6 → 0 ≤ C p) (hp : 1 ≤ p ∧ p ≤ 6) (hp' : 1 ≤ p' ∧ p' ≤ 6) (ha : 0 ≤ a ∧ a ≤ C p) : dgF C (s + (a - dgF C s p) * wgk C (6 - p)) p' = if p' = p then a else dgF C s p' := by
  have w0 := wgk.pos hC (6 - p) (by omega)
  have hc := hC p hp.1 hp.2
  have e6 : 6 - (6 - p) = p := by omega
  have quo : (s + (a - dgF C s p) * wgk C (6 - p)) / wgk C (6 - p) = s / wgk C (6 - p) + (a - dgF C s p) := Int.add_mul_ediv_right _ _ (by omega)
  have hd : dgF C s p = s / wgk C (6 - p) % (C p + 1) := rfl
  have hm := Int.mul_ediv_add_emod (s / wgk C (6 - p)) (C p + 1)
  have dm := (Int.ediv_emod_unique (a := s / wgk C (6 - p) + (a - dgF C s p)) (b := C p + 1) (r := a) (q := s / wgk C (6 - p) / (C p + 1)) (by omega)).mpr ⟨by rw [hd]; omega, ha.1, by omega⟩
  by_cases c : p' = p
  · rw [if_pos c, c]
    show (s + (a - dgF C s p) * wgk C (6 - p)) / wgk C (6 - p) % (C p + 1) = a
    rw [quo]; exact dm.2
  · rw [if_neg c]
    by_cases c2 : p' < p
    · -- higher places
      have up : ∀ k : Nat, 6 - p < k → k ≤ 6 → (s + (a - dgF C s p) * wgk C (6 - p)) / wgk C k = s / wgk C k := by
        intro k
        induction k with
        | zero => intro x; omega
        | succ k ih =>
          intro x y
          rw [wgk.quo hC (by omega), wgk.quo hC (by omega)]
          by_cases g : k = 6 - p
          · rw [g, quo, e6]; exact dm.1
          · rw [ih (by omega) (by omega)]
      show _ / wgk C (6 - p') % (C p' + 1) = s / wgk C (6 - p') % (C p' + 1)
      rw [up (6 - p') (by omega) (by omega)]
    · -- lower places
      have w' := wgk.pos hC (6 - p') (by omega)
      obtain ⟨M, e⟩ := wgk.div (C := C) (j := 6 - p') (6 - p) (by omega) (by omega)
      have e' : 6 - (6 - p') = p' := by omega
      rw [e'] at e
      show (s + (a - dgF C s p) * wgk C (6 - p)) / wgk C (6 - p') % (C p' + 1) = s / wgk C (6 - p') % (C p' + 1)
      have e2 : (a - dgF C s p) * wgk C (6 - p) = ((a - dgF C s p) * M * (C p' + 1)) * wgk C (6 - p') := by
        have e3 : wgk C (6 - p') * (C p' + 1) * M = M * (C p' + 1) * wgk C (6 - p') := by
          rw [Int.mul_comm (wgk C (6 - p') * (C p' + 1)) M, Int.mul_comm (wgk C (6 - p')) (C p' + 1), ← Int.mul_assoc]
        rw [e, e3, ← Int.mul_assoc, ← Int.mul_assoc]
      rw [e2, Int.add_mul_ediv_right _ _ (by omega), Int.add_mul_emod_self_right]
theorem dgF.inN {C : Nat → Int} {s a : Int} {p : Nat} (hC : ∀ p : Nat, 1 ≤ p → p ≤ 6 → 0 ≤ C p) (hp : 1 ≤ p ∧ p ≤ 6) (ha : 0 ≤ a ∧ a ≤ C p) (hs : 0 ≤ s ∧ s < wgk C 6) : 0 ≤ s + (a - dgF C s p) * wgk C (6 - p) ∧ s + (a - dgF C s p) * wgk C (6 - p) < wgk C 6 := by
  have hc := hC p hp.1 hp.2
  have e6 : 6 - (6 - p) = p := by omega
  obtain ⟨M, e⟩ := wgk.div (C := C) (j := 6 - p) 6 (by omega) (Nat.le_refl 6)
  rw [e6] at e
  exact digT (wgk.pos hC (6 - p) (by omega)) (by omega) e hs rfl (by omega)
/-- what a place does hangs not on what it has -/
theorem actR.own {μ : mM} {h h' : Nat → Int} {p : Nat} {v : Int} (hN : NDQ μ) (h1 : 1 ≤ p) (h2 : p ≤ 6) (eh : ∀ q : Nat, 1 ≤ q → q ≤ 6 → q ≠ p → h q = h' q) (a : actR μ 95 97 96 7 h p v) : actR μ 95 97 96 7 h' p v := by
  have ep : ((p : Int)).toNat = p := rfl
  have es : ∀ c : Nat, (5 * (p : Int) + c).toNat = 5 * p + c := fun c => by omega
  have off : ∀ c : Nat, (c : Int) < μ 95 p → (offd μ 95 97 96 7 h (5 * p + c) ↔ offd μ 95 97 96 7 h' (5 * p + c)) := fun c hc => by
    obtain ⟨⟨n27, w1, w2, w3, w4⟩, _⟩ := hN p c h1 h2 hc
    have hq := w3 1 (by omega)
    have nq := w4 0 1 (by omega) (by omega)
    rw [Nat.add_zero, w1] at nq
    unfold offd
    by_cases g : μ 96 (7 * (5 * p + c) + 1) = 0
    · constructor
      · rintro (x | x)
        · exact Or.inl x
        · exact absurd g x.1
      · rintro (x | x)
        · exact Or.inl x
        · exact absurd g x.1
    · rw [eh (μ 96 (7 * (5 * p + c) + 1)).toNat (by omega) (by omega) (by omega)]
  obtain ⟨⟨a1, a2, a3⟩, a4⟩ := a
  rw [ep] at a2 a3
  have ev : ((v.toNat : Nat) : Int) = v := by omega
  refine ⟨⟨a1, by rw [ep]; exact a2, fun g => ?_⟩, fun c hc q => a4 c hc ?_⟩
  · rw [ep] at g
    have := a3 g
    rw [← ev, es] at this ⊢
    exact (off v.toNat (by omega)).mp this
  · rw [es] at q ⊢
    exact (off c (by omega)).mpr q
/-- sources of a state by the place p -/
theorem nxP.src {μ : mM} {p s t : Nat} (hN : NDQ μ) (hC : ∀ p : Nat, 1 ≤ p → p ≤ 6 → 0 ≤ μ 95 p) (hp : 1 ≤ p ∧ p ≤ 6) : nxP μ 95 97 96 7 p s t ↔ actR μ 95 97 96 7 (dgF (μ 95) (t : Int)) (p : Int) (dgF (μ 95) (t : Int) p) ∧ ∃ had : Int, (0 ≤ had ∧ had ≤ μ 95 p) ∧ (s : Int) = (t : Int) + (had - dgF (μ 95) (t : Int) p) * wgk (μ 95) (6 - p) := by
  have ep : ((p : Int)).toNat = p := rfl
  constructor
  · rintro ⟨a, ha, e⟩
    have ar : 0 ≤ a ∧ a ≤ μ 95 p := ⟨ha.1.1, by have := ha.1.2.1; rw [ep] at this; exact this⟩
    have dt : ∀ q : Nat, 1 ≤ q ∧ q ≤ 6 → dgF (μ 95) (t : Int) q = if q = p then a else dgF (μ 95) (s : Int) q := fun q hq => by rw [e]; exact dgF.set hC hp hq ar
    have dp := dt p hp
    rw [if_pos rfl] at dp
    refine ⟨?_, dgF (μ 95) (s : Int) p, dgF.rng (hC p hp.1 hp.2), ?_⟩
    · rw [dp]
      exact actR.own hN hp.1 hp.2 (fun q q1 q2 ne => by rw [dt q ⟨q1, q2⟩, if_neg ne]) ha
    · rw [dp, e]
      have : (dgF (μ 95) (s : Int) p - a) * wgk (μ 95) (6 - p) = - ((a - dgF (μ 95) (s : Int) p) * wgk (μ 95) (6 - p)) := by
        rw [← Int.neg_mul]; congr 1; omega
      omega
  · rintro ⟨ha, had, hr, e⟩
    have ds : ∀ q : Nat, 1 ≤ q ∧ q ≤ 6 → dgF (μ 95) (s : Int) q = if q = p then had else dgF (μ 95) (t : Int) q := fun q hq => by rw [e]; exact dgF.set hC hp hq hr
    have dp := ds p hp
    rw [if_pos rfl] at dp
    refine ⟨dgF (μ 95) (t : Int) p, actR.own hN hp.1 hp.2 (fun q q1 q2 ne => by rw [ds q ⟨q1, q2⟩, if_neg ne]) ha, ?_⟩
    rw [dp]
    have : (dgF (μ 95) (t : Int) p - had) * wgk (μ 95) (6 - p) = - ((had - dgF (μ 95) (t : Int) p) * wgk (μ 95) (6 - p)) := by
      rw [← Int.neg_mul]; congr 1; omega
    omega
