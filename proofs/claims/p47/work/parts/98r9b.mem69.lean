/-! Nets: what a place does; figures; states of rest, counted. -/
def sufW (μ : mM) (L V m s v : Nat) : Prop := μ L v = μ L s - 1 ∧ ∀ i : Nat, (i : Int) < μ L v → μ V (m * v + i) = μ V (m * s + (i + 1))
def offd (μ : mM) (C L V m : Nat) (h : Nat → Int) (s : Nat) : Prop := (μ V (m * s + 1) = 0 ∧ μ L s = 2) ∨ (¬ μ V (m * s + 1) = 0 ∧ ¬ h (μ V (m * s + 1)).toNat = μ C (μ V (m * s + 1)).toNat ∧ sufW μ L V m s (5 * μ V (m * s + 1) + h (μ V (m * s + 1)).toNat).toNat)
def actR (μ : mM) (C L V m : Nat) (h : Nat → Int) (p v : Int) : Prop := (0 ≤ v ∧ v ≤ μ C p.toNat ∧ (v < μ C p.toNat → offd μ C L V m h (5 * p + v).toNat)) ∧ ∀ c : Nat, (c : Int) < v → ¬ offd μ C L V m h (5 * p + c).toNat
def rstP (μ : mM) (C L V m : Nat) (h : Nat → Int) : Prop := ∀ p : Nat, 1 ≤ p → p ≤ 6 → actR μ C L V m h p (h p)
section NET
variable {μ : mM} {C L V m : Nat} {h : Nat → Int}
theorem actR.uniq {p v v' : Int} (a : actR μ C L V m h p v) (b : actR μ C L V m h p v') : v = v' := by
  have a1 := a.1.1
  have a2 := a.1.2.1
  have b1 := b.1.1
  have b2 := b.1.2.1
  by_cases c : v < v'
  · exfalso
    refine b.2 v.toNat (by omega) ?_
    rw [show (5 * p + (v.toNat : Int)).toNat = (5 * p + v).toNat by omega]
    exact a.1.2.2 (by omega)
  · by_cases c2 : v' < v
    · exfalso
      refine a.2 v'.toNat (by omega) ?_
      rw [show (5 * p + (v'.toNat : Int)).toNat = (5 * p + v').toNat by omega]
      exact b.1.2.2 (by omega)
    · omega
/-- none of the first k is offered -/
def acI (μ : mM) (C L V m : Nat) (h : Nat → Int) (p k : Int) : Prop := ∀ c : Nat, (c : Int) < k → ¬ offd μ C L V m h (5 * p + c).toNat
theorem acI.zero {p k : Int} (hk : k ≤ 0) : acI μ C L V m h p k := fun c hc => by omega
theorem acI.next {p k s : Int} (a : acI μ C L V m h p k) (h0 : 0 ≤ k) (hs : s = 5 * p + k) (no : ¬ offd μ C L V m h s.toNat) : acI μ C L V m h p (k + 1) := fun c hc => by
  by_cases e : (c : Int) < k
  · exact a c e
  · rw [show (5 * p + (c : Int)).toNat = s.toNat by omega]; exact no
theorem actR.hit {p k s n : Int} (a : acI μ C L V m h p k) (qn : μ C p.toNat = n) (h0 : 0 ≤ k ∧ k < n) (hs : s = 5 * p + k) (of : offd μ C L V m h s.toNat) : actR μ C L V m h p k := ⟨⟨h0.1, by rw [qn]; omega, fun _ => by rw [← hs]; exact of⟩, a⟩
theorem actR.miss {p k n z : Int} (a : acI μ C L V m h p k) (qn : μ C p.toNat = n) (h0 : 0 ≤ n ∧ n ≤ k) (hz : z = n) : actR μ C L V m h p z := ⟨⟨by omega, by rw [qn]; omega, fun q => by rw [qn] at q; omega⟩, fun c hc => a c (by omega)⟩
/-- a flag: the places below k do what they have -/
def rsI (μ : mM) (C L V m : Nat) (h : Nat → Int) (k f : Int) : Prop := (f = 1 → ∀ p : Nat, 1 ≤ p → (p : Int) < k → actR μ C L V m h p (h p)) ∧ (¬ f = 1 → ¬ rstP μ C L V m h)
theorem rsI.start {k f : Int} (hk : k ≤ 1) (hf : f = 1) : rsI μ C L V m h k f := ⟨fun _ p h1 h2 => by omega, fun g => absurd hf g⟩
theorem rsI.next {k f v x g : Int} (a : rsI μ C L V m h k f) (hf : f = 1) (hk : 1 ≤ k ∧ k ≤ 6) (b : actR μ C L V m h k v) (q : h k.toNat = x) (hg : (v = x ∧ g = 1) ∨ (¬ v = x ∧ ¬ g = 1)) : rsI μ C L V m h (k + 1) g := by
  have ek : ((k.toNat : Nat) : Int) = k := by omega
  refine ⟨fun g1 p h1 h2 => ?_, fun g1 r => ?_⟩
  · by_cases e : (p : Int) < k
    · exact a.1 hf p h1 e
    · have ep : p = k.toNat := by omega
      subst ep
      rw [q, ek]
      have : x = v := by omega
      rw [this]; exact b
  · have r1 := r k.toNat (by omega) (by omega)
    rw [q, ek] at r1
    have := b.uniq r1
    omega
theorem rsI.yes {k f : Int} (a : rsI μ C L V m h k f) (hf : f = 1) (hk : 7 ≤ k) : rstP μ C L V m h := fun p h1 h2 => a.1 hf p h1 (by omega)
end NET
/-! figures -/
def wgk (C : Nat → Int) : Nat → Int
  | 0 => 1
  | k + 1 => wgk C k * (C (6 - k) + 1)
def dgF (C : Nat → Int) (s : Int) (p : Nat) : Int := s / wgk C (6 - p) % (C p + 1)
def wgT (μ : mM) (a C : Nat) : Prop := ∀ p : Nat, 1 ≤ p → p ≤ 6 → μ a p = wgk (μ C) (6 - p)
theorem wgT.mk {μ : mM} {a v : Nat} {v1 v2 v3 v4 v5 v6 w1 w2 w3 w4 w5 w6 N : Int} (qv1 : μ v 1 = v1) (qv2 : μ v 2 = v2) (qv3 : μ v 3 = v3) (qv4 : μ v 4 = v4) (qv5 : μ v 5 = v5) (qv6 : μ v 6 = v6) (q1 : μ a 1 = w1) (q2 : μ a 2 = w2) (q3 : μ a 3 = w3) (q4 : μ a 4 = w4) (q5 : μ a 5 = w5) (q6 : μ a 6 = w6) (h6 : w6 = 1) (e6 : w5 = w6 * (v6 + 1)) (e5 : w4 = w5 * (v5 + 1)) (e4 : w3 = w4 * (v4 + 1)) (e3 : w2 = w3 * (v3 + 1)) (e2 : w1 = w2 * (v2 + 1)) (e1 : N = w1 * (v1 + 1)) : wgT μ a v ∧ N = wgk (μ v) 6 := by
  have k0 : wgk (μ v) 0 = w6 := h6.symm
  have k1 : wgk (μ v) 1 = w5 := by
    show wgk (μ v) 0 * (μ v 6 + 1) = w5
    rw [k0, qv6]; exact e6.symm
  have k2 : wgk (μ v) 2 = w4 := by
    show wgk (μ v) 1 * (μ v 5 + 1) = w4
    rw [k1, qv5]; exact e5.symm
  have k3 : wgk (μ v) 3 = w3 := by
    show wgk (μ v) 2 * (μ v 4 + 1) = w3
    rw [k2, qv4]; exact e4.symm
  have k4 : wgk (μ v) 4 = w2 := by
    show wgk (μ v) 3 * (μ v 3 + 1) = w2
    rw [k3, qv3]; exact e3.symm
  have k5 : wgk (μ v) 5 = w1 := by
    show wgk (μ v) 4 * (μ v 2 + 1) = w1
    rw [k4, qv2]; exact e2.symm
  have k6 : wgk (μ v) 6 = N := by
    show wgk (μ v) 5 * (μ v 1 + 1) = N
    rw [k5, qv1]; exact e1.symm
  refine ⟨fun p h1 h2 => ?_, k6.symm⟩
  have : p = 1 ∨ p = 2 ∨ p = 3 ∨ p = 4 ∨ p = 5 ∨ p = 6 := by omega
  rcases this with e | e | e | e | e | e <;> subst e
  · exact q1.trans k5.symm
  · exact q2.trans k4.symm
  · exact q3.trans k3.symm
  · exact q4.trans k2.symm
  · exact q5.trans k1.symm
  · exact q6.trans k0.symm
/-- the row of what the places have is the state's -/
def hasD (μ : mM) (H C : Nat) (s : Int) : Prop := ∀ p : Nat, 1 ≤ p → p ≤ 6 → μ H p = dgF (μ C) s p
theorem digs.hasD {μ : mM} {H a v : Nat} {s : Int} (g : digs μ H a v s) (w : wgT μ a v) : hasD μ H v s := fun p h1 h2 => by
  have d := g.at (p := (p : Int)) ⟨by omega, by omega⟩
  unfold dig at d
  have e : ((p : Int)).toNat = p := rfl
  rw [e, w p h1 h2] at d
  exact d
theorem dgF.rng {C : Nat → Int} {s : Int} {p : Nat} (hC : 0 ≤ C p) : 0 ≤ dgF C s p ∧ dgF C s p ≤ C p := by
  have h1 := Int.emod_nonneg (s / wgk C (6 - p)) (show C p + 1 ≠ 0 by omega)
  have h2 := Int.emod_lt_of_pos (s / wgk C (6 - p)) (show 0 < C p + 1 by omega)
  unfold dgF
  omega
theorem wgk.pos {C : Nat → Int} (hC : ∀ p : Nat, 1 ≤ p → p ≤ 6 → 0 ≤ C p) : ∀ k : Nat, k ≤ 6 → 0 < wgk C k
  | 0, _ => by show (0 : Int) < 1; decide
  | k + 1, hk => by
    have ih := wgk.pos hC k (by omega)
    have := hC (6 - k) (by omega) (by omega)
    exact Int.mul_pos ih (by omega)
theorem wgk.cg {C C' : Nat → Int} (e : ∀ p : Nat, 1 ≤ p → p ≤ 6 → C p = C' p) : ∀ k : Nat, k ≤ 6 → wgk C k = wgk C' k
  | 0, _ => rfl
  | k + 1, hk => by
    show wgk C k * (C (6 - k) + 1) = wgk C' k * (C' (6 - k) + 1)
    rw [wgk.cg e k (by omega), e (6 - k) (by omega) (by omega)]
theorem dgF.cg {C C' : Nat → Int} (e : ∀ p : Nat, 1 ≤ p → p ≤ 6 → C p = C' p) {s : Int} {p : Nat} (h1 : 1 ≤ p) (h2 : p ≤ 6) : dgF C s p = dgF C' s p := by
  unfold dgF
  rw [wgk.cg e (6 - p) (by omega), e p h1 h2]
theorem dmU {q b : Int} (hb : 0 < b) : (q % b = b - 1 → (q + 1) % b = 0 ∧ (q + 1) / b = q / b + 1) ∧ (¬ q % b = b - 1 → (q + 1) % b = q % b + 1 ∧ (q + 1) / b = q / b) := by
  have h := Int.mul_ediv_add_emod q b
  have r0 := Int.emod_nonneg q (show b ≠ 0 by omega)
  have r1 := Int.emod_lt_of_pos q hb
  refine ⟨fun e => ?_, fun e => ?_⟩
  · have g := (Int.ediv_emod_unique (a := q + 1) (b := b) (r := 0) (q := q / b + 1) hb).mpr ⟨by rw [Int.mul_add, Int.mul_one]; omega, by omega, hb⟩
    exact ⟨g.2, g.1⟩
  · have g := (Int.ediv_emod_unique (a := q + 1) (b := b) (r := q % b + 1) (q := q / b) hb).mpr ⟨by omega, by omega, by omega⟩
    exact ⟨g.2, g.1⟩
/-- counting up: places above t are the next state's, the others still this one's -/
def cuI (C f : Nat → Int) (s t : Int) : Prop := (1 ≤ t ∧ t ≤ 6) ∧ (∀ p : Nat, 1 ≤ p → (p : Int) ≤ t → f p = dgF C s p) ∧ (∀ p : Nat, t < (p : Int) → p ≤ 6 → f p = dgF C (s + 1) p) ∧ (s + 1) / wgk C (6 - t.toNat) = s / wgk C (6 - t.toNat) + 1
theorem cuI.start {C f : Nat → Int} {s t : Int} (h : ∀ p : Nat, 1 ≤ p → p ≤ 6 → f p = dgF C s p) (ht : t = 6) : cuI C f s t := by
  subst ht
  refine ⟨by decide, fun p h1 h2 => h p h1 (by omega), fun p h1 h2 => by omega, ?_⟩
  show (s + 1) / 1 = s / 1 + 1
  rw [Int.ediv_one, Int.ediv_one]
theorem wgk.quo {C : Nat → Int} (hC : ∀ p : Nat, 1 ≤ p → p ≤ 6 → 0 ≤ C p) {k : Nat} (hk : k ≤ 5) (s : Int) : s / wgk C (k + 1) = s / wgk C k / (C (6 - k) + 1) := by
  show s / (wgk C k * (C (6 - k) + 1)) = _
  exact (Int.ediv_ediv_of_nonneg (Int.le_of_lt (wgk.pos hC k (by omega)))).symm
theorem cuI.next {C f f' : Nat → Int} {s t v y : Int} (hC : ∀ p : Nat, 1 ≤ p → p ≤ 6 → 0 ≤ C p) (h : cuI C f s t) (ht : 1 < t) (qv : f t.toNat = v) (hv : v = C t.toNat) (e1 : f' t.toNat = y) (hy : y = 0) (e2 : ∀ i, i ≠ t.toNat → f' i = f i) : cuI C f' s (t - 1) := by
  obtain ⟨t6, h1, h2, h3⟩ := h
  have hc := hC t.toNat (by omega) (by omega)
  have d := h1 t.toNat (by omega) (by omega)
  rw [qv, hv] at d
  have dm := (dmU (q := s / wgk C (6 - t.toNat)) (b := C t.toNat + 1) (by omega)).1 (by unfold dgF at d; omega)
  have ek : 6 - (t - 1).toNat = (6 - t.toNat) + 1 := by omega
  have e6 : 6 - (6 - t.toNat) = t.toNat := by omega
  refine ⟨by omega, fun p g1 g2 => ?_, fun p g1 g2 => ?_, ?_⟩
  · rw [e2 p (by omega)]; exact h1 p g1 (by omega)
  · by_cases c : p = t.toNat
    · rw [c, e1, hy]
      unfold dgF
      rw [h3]; exact dm.1.symm
    · rw [e2 p c]; exact h2 p (by omega) g2
  · rw [ek, wgk.quo hC (by omega), wgk.quo hC (by omega), e6, h3]; exact dm.2
theorem cuI.fin {C f f' : Nat → Int} {s t v y : Int} (hC : ∀ p : Nat, 1 ≤ p → p ≤ 6 → 0 ≤ C p) (h : cuI C f s t) (hs : 0 ≤ s ∧ s + 1 < wgk C 6) (qv : f t.toNat = v) (hv : t = 1 ∨ ¬ v = C t.toNat) (e1 : f' t.toNat = y) (hy : y = v + 1) (e2 : ∀ i, i ≠ t.toNat → f' i = f i) : ∀ p : Nat, 1 ≤ p → p ≤ 6 → f' p = dgF C (s + 1) p := by
  obtain ⟨t6, h1, h2, h3⟩ := h
  have hc := hC t.toNat (by omega) (by omega)
  have d := h1 t.toNat (by omega) (by omega)
  rw [qv] at d
  have nv : ¬ v = C t.toNat := by
    rcases hv with e | e
    · subst e
      intro q
      have w5 := wgk.pos hC 5 (by decide)
      have e5 : 6 - (1 : Int).toNat = 5 := rfl
      have ec : (1 : Int).toNat = 1 := rfl
      rw [e5] at h3
      rw [ec] at q hc d
      have lt : (s + 1) / wgk C 5 < C 1 + 1 := by
        refine Int.ediv_lt_of_lt_mul w5 ?_
        have : wgk C 6 = wgk C 5 * (C 1 + 1) := rfl
        rw [this, Int.mul_comm] at hs
        exact hs.2
      have q0 : 0 ≤ s / wgk C 5 := Int.ediv_nonneg hs.1 (Int.le_of_lt w5)
      have em : s / wgk C 5 % (C 1 + 1) = s / wgk C 5 := Int.emod_eq_of_lt q0 (by omega)
      have d2 : v = s / wgk C 5 % (C 1 + 1) := d
      omega
    · exact e
  have dm := (dmU (q := s / wgk C (6 - t.toNat)) (b := C t.toNat + 1) (by omega)).2 (by unfold dgF at d; omega)
  -- quotients of the places below t are the same
  have low : ∀ k : Nat, 6 - t.toNat < k → k ≤ 6 → (s + 1) / wgk C k = s / wgk C k := by
    intro k
    induction k with
    | zero => intro a; omega
    | succ k ih =>
      intro a b
      rw [wgk.quo hC (by omega), wgk.quo hC (by omega)]
      by_cases c : k = 6 - t.toNat
      · rw [c, h3, show 6 - (6 - t.toNat) = t.toNat by omega]; exact dm.2
      · rw [ih (by omega) (by omega)]
  intro p g1 g2
  by_cases c : p = t.toNat
  · rw [c, e1, hy, d]
    unfold dgF
    rw [h3]; exact dm.1.symm
  · rw [e2 p c]
    by_cases c2 : (p : Int) < t
    · rw [h1 p g1 (by omega)]
      unfold dgF
      rw [low (6 - p) (by omega) (by omega)]
    · exact h2 p (by omega) g2
/-! rests counted -/
def RSt (μ : mM) (C L V m : Nat) (s : Nat) : Prop := rstP μ C L V m (dgF (μ C) (s : Int))
theorem cnP.up {P : Nat → Prop} {a : Nat} : ∀ b : Nat, a ≤ b → cnP P a ≤ cnP P b
  | 0, h => by
    have e : a = 0 := by omega
    rw [e]; exact Int.le_refl _
  | b + 1, h => by
    by_cases c : a = b + 1
    · rw [c]; exact Int.le_refl _
    · have ih := cnP.up (P := P) (a := a) b (by omega)
      by_cases q : P b
      · rw [cnP.yes q]; omega
      · rw [cnP.no q]; exact ih
theorem cnP.inj {P : Nat → Prop} {a b : Nat} (ha : P a) (hb : P b) (e : cnP P a = cnP P b) : a = b := by
  by_cases c : a < b
  · have := cnP.up (P := P) (a := a + 1) b (by omega)
    rw [cnP.yes ha] at this
    omega
  · by_cases c2 : b < a
    · have := cnP.up (P := P) (a := b + 1) a (by omega)
      rw [cnP.yes hb] at this
      omega
    · omega
theorem cnP.nn {P : Nat → Prop} (a : Nat) : 0 ≤ cnP P a := cnP.up (P := P) (a := 0) a (Nat.zero_le a)
/-- the answer of rest -/
def rtZ (P : Nat → Prop) (N : Nat) (C : Nat → Int) (i p z : Int) : Prop := ((i < 0 ∨ p < 1 ∨ 6 < p) ∧ z = -1) ∨ ((0 ≤ i ∧ 1 ≤ p ∧ p ≤ 6) ∧ ((cnP P N ≤ i ∧ z = -1) ∨ ∃ s : Nat, s < N ∧ P s ∧ cnP P s = i ∧ ((dgF C s p.toNat = C p.toNat ∧ z = -4) ∨ (¬ dgF C s p.toNat = C p.toNat ∧ z = dgF C s p.toNat))))
theorem rtZ.eq {P : Nat → Prop} {N : Nat} {C : Nat → Int} {i p z z' : Int} (h : rtZ P N C i p z) (k : rtZ P N C i p z') : z = z' := by
  rcases h with ⟨h1, h2⟩ | ⟨h1, h⟩ <;> rcases k with ⟨k1, k2⟩ | ⟨k1, k⟩
  · omega
  · clear k; omega
  · clear h; omega
  · have low : ∀ s : Nat, s < N → P s → cnP P s = i → ¬ cnP P N ≤ i := fun s a b c d => by
      have := cnP.up (P := P) (a := s + 1) N (by omega)
      rw [cnP.yes b] at this
      omega
    rcases h with ⟨a1, a2⟩ | ⟨s, a1, a2, a3, a4⟩ <;> rcases k with ⟨b1, b2⟩ | ⟨s', b1, b2, b3, b4⟩
    · omega
    · exact absurd a1 (low s' b1 b2 b3)
    · exact absurd b1 (low s a1 a2 a3)
    · have e := cnP.inj a2 b2 (by omega)
      subst e
      rcases a4 with ⟨c1, c2⟩ | ⟨c1, c2⟩ <;> rcases b4 with ⟨d1, d2⟩ | ⟨d1, d2⟩
      · omega
      · exact absurd c1 d1
      · exact absurd d1 c1
      · omega
/-! the wishes that stand: ways as told, no two alike -/
def wyV (μ : mM) (s : Nat) (p : Nat) : Prop := (2 ≤ μ 97 s ∧ μ 97 s ≤ 7) ∧ μ 96 (7 * s) = (p : Int) ∧ μ 96 (7 * s + (μ 97 s - 1).toNat) = 0 ∧ (∀ i : Nat, (i : Int) < μ 97 s → 0 ≤ μ 96 (7 * s + i) ∧ μ 96 (7 * s + i) ≤ 6) ∧ ∀ i j : Nat, i < j → (j : Int) < μ 97 s → μ 96 (7 * s + i) ≠ μ 96 (7 * s + j)
def alkW (μ : mM) (s t : Nat) : Prop := μ 97 s = μ 97 t ∧ ∀ i : Nat, (i : Int) < μ 97 s → μ 96 (7 * s + i) = μ 96 (7 * t + i)
def NDQ (μ : mM) : Prop := ∀ p c : Nat, 1 ≤ p → p ≤ 6 → (c : Int) < μ 95 p → wyV μ (5 * p + c) p ∧ ∀ c' : Nat, c' < c → ¬ alkW μ (5 * p + c') (5 * p + c)
def ndL : List Nat := [95999, 96999, 97999]
theorem NDQ.of {μ μ1 : mM} (h : NDQ μ) (e : ∀ i, μ1 95 i = μ 95 i ∧ μ1 96 i = μ 96 i ∧ μ1 97 i = μ 97 i) : NDQ μ1 := fun p c h1 h2 h3 => by
  rw [(e p).1] at h3
  obtain ⟨a, b⟩ := h p c h1 h2 h3
  have e6 : ∀ i, μ1 96 i = μ 96 i := fun i => (e i).2.1
  have e7 : ∀ i, μ1 97 i = μ 97 i := fun i => (e i).2.2
  refine ⟨?_, fun c' hc q => b c' hc ?_⟩
  · unfold wyV at a ⊢
    simp only [e6, e7]; exact a
  · unfold alkW at q ⊢
    simp only [e6, e7] at q; exact q
theorem NDQ.fr {lf : List Nat} {w : mW} {μ μ1 : mM} (h : NDQ μ) (hw : mWF w) (hT : mT w μ) (F : mF lf w μ μ1) (hl : (ndL.all fun r => !lf.elem r) = true) : NDQ μ1 := h.of fun _ => ⟨F.f (A_95 hw) (qA_no hl rfl) rfl, F.f (A_96 hw) (qA_no hl rfl) rfl, F.f (A_97 hw) (qA_no hl rfl) rfl⟩
theorem NDQ.frX {lf : List Nat} {w w1 : mW} {μ μ1 : mM} (h : NDQ μ) (hw : mWF w) (hT : mT w μ) (F : mX lf w μ w1 μ1) (hl : (ndL.all fun r => !lf.elem r) = true) : NDQ μ1 := h.of fun _ => ⟨F.f (A_95 hw) (qA_no hl rfl) rfl, F.f (A_96 hw) (qA_no hl rfl) rfl, F.f (A_97 hw) (qA_no hl rfl) rfl⟩
theorem NDQ.clear {μ μ1 : mM} {z : Int} (ha : foI μ μ1 95 7 z) : NDQ μ1 := fun p c h1 h2 h3 => by
  have e := ha.2 p
  rw [if_pos ⟨h1, by omega⟩] at e
  omega
/-- the second place of a wish, and which of its wishes would do -/
def fndS (μ : mM) (s : Nat) (z : Int) : Prop := (z = -1 ∧ ∀ c : Nat, (c : Int) < μ 95 (μ 96 (7 * s + 1)).toNat → ¬ sufW μ 97 96 7 s (5 * μ 96 (7 * s + 1) + c).toNat) ∨ ((0 ≤ z ∧ z < μ 95 (μ 96 (7 * s + 1)).toNat) ∧ sufW μ 97 96 7 s (5 * μ 96 (7 * s + 1) + z).toNat)
def ndS (μ : mM) (s : Nat) (q z : Int) : Prop := q = μ 96 (7 * s + 1) ∧ (¬ q = 0 → fndS μ s z)
theorem sufW.alk {μ : mM} {s v t : Nat} (h : sufW μ 97 96 7 s v) (k : sufW μ 97 96 7 s t) : alkW μ v t := ⟨by have := h.1; have := k.1; omega, fun i hi => (h.2 i hi).trans (k.2 i (by have := h.1; have := k.1; omega)).symm⟩
/-- the class's test is the told one -/
theorem ndS.off {μ : mM} {h : Nat → Int} {p c : Nat} {q z : Int} (hN : NDQ μ) (h1 : 1 ≤ p) (h2 : p ≤ 6) (hc : (c : Int) < μ 95 p) (hh : ∀ p : Nat, 1 ≤ p → p ≤ 6 → 0 ≤ h p ∧ h p ≤ μ 95 p) (a : ndS μ (5 * p + c) q z) : (q = 0 ∨ h q.toNat = z) ↔ offd μ 95 97 96 7 h (5 * p + c) := by
  obtain ⟨⟨n27, w1, w2, w3, w4⟩, _⟩ := hN p c h1 h2 hc
  obtain ⟨a1, a2⟩ := a
  unfold offd
  rw [← a1]
  have hq6 := w3 1 (by omega)
  rw [← a1] at hq6
  by_cases e : q = 0
  · have hl : μ 97 (5 * p + c) = 2 := by
      by_cases g : μ 97 (5 * p + c) = 2
      · exact g
      · exfalso
        have := w4 1 (μ 97 (5 * p + c) - 1).toNat (by omega) (by omega)
        rw [w2, ← a1] at this
        exact this e
    exact ⟨fun _ => Or.inl ⟨e, hl⟩, fun _ => Or.inl e⟩
  · have hq := hh q.toNat (by omega) (by omega)
    have f := a2 e
    unfold fndS at f
    rw [← a1] at f
    constructor
    · rintro (g | g)
      · exact absurd g e
      · rcases f with ⟨f1, _⟩ | ⟨f1, f2⟩
        · omega
        · exact Or.inr ⟨e, by omega, by rw [g]; exact f2⟩
    · rintro (g | ⟨_, g1, g2⟩)
      · exact absurd g.1 e
      · refine Or.inr ?_
        rcases f with ⟨_, f2⟩ | ⟨f1, f2⟩
        · exfalso
          refine f2 (h q.toNat).toNat (by omega) ?_
          rw [show (5 * q + ((h q.toNat).toNat : Int)).toNat = (5 * q + h q.toNat).toNat by omega]; exact g2
        · have al := g2.alk f2
          have al2 := f2.alk g2
          have e1 : (5 * q + h q.toNat).toNat = 5 * q.toNat + (h q.toNat).toNat := by omega
          have e2 : (5 * q + z).toNat = 5 * q.toNat + z.toNat := by omega
          rw [e1, e2] at al al2
          by_cases c1 : h q.toNat < z
          · exact absurd al ((hN q.toNat z.toNat (by omega) (by omega) (by omega)).2 (h q.toNat).toNat (by omega))
          · by_cases c2 : z < h q.toNat
            · exact absurd al2 ((hN q.toNat (h q.toNat).toNat (by omega) (by omega) (by omega)).2 z.toNat (by omega))
            · omega
/-- both sides' tables tell the same -/
theorem offd.eq {μ : mM} {h : Nat → Int} {p c : Nat} (hW : WSQ μ) (hN : NDQ μ) (h1 : 1 ≤ p) (h2 : p ≤ 6) (hc : (c : Int) < μ 95 p) (hh : ∀ p : Nat, 1 ≤ p → p ≤ 6 → 0 ≤ h p ∧ h p ≤ μ 95 p) : offd μ 95 97 96 7 h (5 * p + c) ↔ offd μ 184 185 186 8 h (5 * p + c) := by
  obtain ⟨⟨n27, w1, w2, w3, w4⟩, _⟩ := hN p c h1 h2 hc
  obtain ⟨_, _, t⟩ := hW p h2
  obtain ⟨t1, t2, t3⟩ := t c hc
  have e1 := t3 1 (by omega)
  have hq6 := w3 1 (by omega)
  unfold offd
  rw [← e1, ← t1]
  generalize hq : μ 96 (7 * (5 * p + c) + 1) = q at *
  by_cases e : q = 0
  · constructor
    · rintro (g | g)
      · exact Or.inl g
      · exact absurd e g.1
    · rintro (g | g)
      · exact Or.inl g
      · exact absurd e g.1
  · have hr := hh q.toNat (by omega) (by omega)
    obtain ⟨_, u2, u3⟩ := hW q.toNat (by omega)
    rw [← u2]
    have suf : ¬ h q.toNat = μ 95 q.toNat → (sufW μ 97 96 7 (5 * p + c) (5 * q + h q.toNat).toNat ↔ sufW μ 185 186 8 (5 * p + c) (5 * q + h q.toNat).toNat) := fun ne => by
      have ev : (5 * q + h q.toNat).toNat = 5 * q.toNat + (h q.toNat).toNat := by omega
      rw [ev]
      obtain ⟨x1, x2, x3⟩ := u3 (h q.toNat).toNat (by omega)
      unfold sufW
      rw [← x1, ← t1]
      constructor
      · rintro ⟨y1, y2⟩
        exact ⟨y1, fun i hi => by rw [← x3 i hi, ← t3 (i + 1) (by omega)]; exact y2 i hi⟩
      · rintro ⟨y1, y2⟩
        exact ⟨y1, fun i hi => by rw [x3 i hi, t3 (i + 1) (by omega)]; exact y2 i hi⟩
    constructor
    · rintro (g | ⟨g1, g2, g3⟩)
      · exact Or.inl g
      · exact Or.inr ⟨g1, g2, (suf g2).mp g3⟩
    · rintro (g | ⟨g1, g2, g3⟩)
      · exact Or.inl g
      · exact Or.inr ⟨g1, g2, (suf g2).mpr g3⟩
theorem actR.cg {μ : mM} {h : Nat → Int} {p : Nat} {v : Int} (hW : WSQ μ) (hN : NDQ μ) (h1 : 1 ≤ p) (h2 : p ≤ 6) (hh : ∀ p : Nat, 1 ≤ p → p ≤ 6 → 0 ≤ h p ∧ h p ≤ μ 95 p) : actR μ 95 97 96 7 h p v ↔ actR μ 184 185 186 8 h p v := by
  have ep : ((p : Int)).toNat = p := rfl
  have e95 : μ 95 p = μ 184 p := (hW p h2).2.1
  have es : ∀ c : Nat, (5 * (p : Int) + c).toNat = 5 * p + c := fun c => by omega
  have off : ∀ c : Nat, (c : Int) < μ 95 p → (offd μ 95 97 96 7 h (5 * (p : Int) + c).toNat ↔ offd μ 184 185 186 8 h (5 * (p : Int) + c).toNat) := fun c hc => by rw [es]; exact offd.eq hW hN h1 h2 hc hh
  unfold actR
  rw [ep, ← e95]
  constructor
  · rintro ⟨⟨a1, a2, a3⟩, a4⟩
    have ev : ((v.toNat : Nat) : Int) = v := by omega
    refine ⟨⟨a1, a2, fun g => ?_⟩, fun c hc q => a4 c hc ((off c (by omega)).mpr q)⟩
    have := (off v.toNat (by omega)).mp (by rw [ev]; exact a3 g)
    rw [ev] at this; exact this
  · rintro ⟨⟨a1, a2, a3⟩, a4⟩
    have ev : ((v.toNat : Nat) : Int) = v := by omega
    refine ⟨⟨a1, a2, fun g => ?_⟩, fun c hc q => a4 c hc ((off c (by omega)).mp q)⟩
    have := (off v.toNat (by omega)).mpr (by rw [ev]; exact a3 g)
    rw [ev] at this; exact this
theorem offd.h {μ : mM} {C L V m s : Nat} {h h' : Nat → Int} (hV : 0 ≤ μ V (m * s + 1) ∧ μ V (m * s + 1) ≤ 6) (eh : ∀ p : Nat, 1 ≤ p → p ≤ 6 → h p = h' p) : offd μ C L V m h s ↔ offd μ C L V m h' s := by
  unfold offd
  by_cases g : μ V (m * s + 1) = 0
  · constructor
    · rintro (x | x)
      · exact Or.inl x
      · exact absurd g x.1
    · rintro (x | x)
      · exact Or.inl x
      · exact absurd g x.1
  · rw [eh (μ V (m * s + 1)).toNat (by omega) (by omega)]
theorem actR.h {μ : mM} {C L V m : Nat} {h h' : Nat → Int} (hV : ∀ i, 0 ≤ μ V i ∧ μ V i ≤ 6) (eh : ∀ p : Nat, 1 ≤ p → p ≤ 6 → h p = h' p) {p v : Int} (a : actR μ C L V m h p v) : actR μ C L V m h' p v := ⟨⟨a.1.1, a.1.2.1, fun g => (offd.h (hV _) eh).mp (a.1.2.2 g)⟩, fun c hc q => a.2 c hc ((offd.h (hV _) eh).mpr q)⟩
theorem rstP.h {μ : mM} {C L V m : Nat} {h h' : Nat → Int} (hV : ∀ i, 0 ≤ μ V i ∧ μ V i ≤ 6) (eh : ∀ p : Nat, 1 ≤ p → p ≤ 6 → h p = h' p) : rstP μ C L V m h ↔ rstP μ C L V m h' := by
  constructor
  · intro r p h1 h2
    rw [← eh p h1 h2]; exact actR.h hV eh (r p h1 h2)
  · intro r p h1 h2
    rw [eh p h1 h2]; exact actR.h hV (fun p h1 h2 => (eh p h1 h2).symm) (r p h1 h2)
theorem RSt.eq {μ : mM} {s : Nat} (hW : WSQ μ) (hN : NDQ μ) (h96 : ∀ i, 0 ≤ μ 96 i ∧ μ 96 i ≤ 6) : RSt μ 95 97 96 7 s ↔ RSt μ 184 185 186 8 s := by
  have e : ∀ p : Nat, 1 ≤ p → p ≤ 6 → μ 95 p = μ 184 p := fun p _ h2 => (hW p h2).2.1
  have ed : ∀ p : Nat, 1 ≤ p → p ≤ 6 → dgF (μ 95) (s : Int) p = dgF (μ 184) (s : Int) p := fun p h1 h2 => dgF.cg e h1 h2
  have hh : ∀ p : Nat, 1 ≤ p → p ≤ 6 → 0 ≤ dgF (μ 184) (s : Int) p ∧ dgF (μ 184) (s : Int) p ≤ μ 95 p := fun p h1 h2 => by
    rw [e p h1 h2]
    exact dgF.rng (by rw [← e p h1 h2]; exact (hW p h2).1.1)
  have k : RSt μ 95 97 96 7 s ↔ rstP μ 95 97 96 7 (dgF (μ 184) (s : Int)) := rstP.h h96 ed
  rw [k]
  constructor
  · intro r p h1 h2
    exact (actR.cg hW hN h1 h2 hh).mp (r p h1 h2)
  · intro r p h1 h2
    exact (actR.cg hW hN h1 h2 hh).mpr (r p h1 h2)
theorem RSt.cg {μ μ1 : mM} {C L V m s : Nat} (e1 : μ1 C = μ C) (e2 : μ1 L = μ L) (e3 : μ1 V = μ V) : RSt μ1 C L V m s ↔ RSt μ C L V m s := by
  unfold RSt rstP actR offd sufW
  rw [e1, e2, e3]
/-- rows that a frame leaves alone -/
theorem rowB {lf : List Nat} {w : mW} {μ μ1 : mM} {a s : Nat} (hA : mAt w a s) (F : mF lf w μ μ1) (hl : lf.elem (1000 * s + 999) = false) (hm : mArr s = true) : μ1 a = μ a := funext fun i => F a i (by unfold mRg; rw [hA.1, hm]; exact hl)
theorem wgT.of {μ μ1 : mM} {a C : Nat} (h : wgT μ a C) (e1 : μ1 a = μ a) (e2 : μ1 C = μ C) : wgT μ1 a C := fun p h1 h2 => by rw [e1, e2]; exact h p h1 h2
/-- a state's answer: is it at rest -/
theorem rsZ {μ μ1 : mM} {C L V m H : Nat} {s : Int} {z k f : Int} (hs : 0 ≤ s) (hV : ∀ i, 0 ≤ μ1 V i ∧ μ1 V i ≤ 6) (hd : hasD μ1 H C s) (e1 : μ1 C = μ C) (e2 : μ1 L = μ L) (e3 : μ1 V = μ V) (h : rsI μ1 C L V m (μ1 H) k f) (hz : z = f) (hk : ¬ f = 1 ∨ 7 ≤ k) : (z = 1 ↔ RSt μ C L V m s.toNat) := by
  have es : ((s.toNat : Nat) : Int) = s := by omega
  have k1 : RSt μ1 C L V m s.toNat ↔ rstP μ1 C L V m (μ1 H) := by
    unfold RSt
    rw [es]
    exact rstP.h hV fun p h1 h2 => (hd p h1 h2).symm
  rw [← RSt.cg e1 e2 e3, k1, hz]
  constructor
  · intro g
    exact h.yes g (by omega)
  · intro g
    by_cases c : f = 1
    · exact c
    · exact absurd g (h.2 c)
/-- counting on -/
theorem cnP.step {P : Nat → Prop} {s n y z : Int} (h : n = cnP P s.toNat) (h0 : 0 ≤ s) (hz : z = 1 ↔ P s.toNat) (hy : (z = 1 ∧ y = n + 1) ∨ (¬ z = 1 ∧ y = n)) : y = cnP P (s + 1).toNat := by
  rw [show (s + 1).toNat = s.toNat + 1 by omega]
  rcases hy with ⟨a, b⟩ | ⟨a, b⟩
  · rw [cnP.yes (hz.mp a)]; omega
  · rw [cnP.no fun q => a (hz.mpr q)]; omega
/-- a wish laid down keeps this -/
theorem NDQ.wish {μ μ1 : mM} {n z : Int} (h : NDQ μ) (h2 : ∀ i, 0 ≤ μ 2 i) (h95 : ∀ p : Nat, p ≤ 6 → 0 ≤ μ 95 p ∧ μ 95 p ≤ 5) (ha : wiA μ μ1 95 97 96 7 2 n z) : NDQ μ1 := by
  rcases ha with ⟨_, _, e⟩ | ⟨a1, ⟨_, _, e⟩ | ⟨a2, ⟨_, _, e⟩ | ⟨a3, _, ⟨⟨o1, o2⟩, ⟨o3, o4⟩, ⟨o5, o6⟩⟩⟩⟩⟩
  · rw [e]; exact h
  · rw [e]; exact h
  · rw [e]; exact h
  · obtain ⟨n27, l0, l6, ld⟩ := a1
    have x0 := h2 0
    have x6 := l6 0 (by omega)
    generalize hx : μ 2 0 = x at *
    have hcr := h95 x.toNat (by omega)
    generalize hc : μ 95 x.toNat = c at *
    have e7 : ((7 : Nat) : Int) = 7 := rfl
    -- the new entry
    have new : ∀ i : Nat, (i : Int) < n → μ1 96 (7 * (5 * x.toNat + c.toNat) + i) = μ 2 i := fun i hi => by
      have := o5 i hi
      rw [show (((7 : Nat) : Int) * (5 * x + c) + (i : Int)).toNat = 7 * (5 * x.toNat + c.toNat) + i by omega] at this
      exact this
    have newL : μ1 97 (5 * x.toNat + c.toNat) = n := by
      rw [show 5 * x.toNat + c.toNat = (5 * x + c).toNat by omega]; exact o4
    -- entries that stood
    have old97 : ∀ p j : Nat, j < 5 → ¬ (p = x.toNat ∧ j = c.toNat) → μ1 97 (5 * p + j) = μ 97 (5 * p + j) := fun p j hj ne => o3 _ (by
      intro e
      apply ne
      omega)
    have old96 : ∀ p j i : Nat, j < 5 → i < 7 → ¬ (p = x.toNat ∧ j = c.toNat) → μ1 96 (7 * (5 * p + j) + i) = μ 96 (7 * (5 * p + j) + i) := fun p j i hj hi ne => o6 _ (by
      intro e
      apply ne
      omega)
    intro p j h1 h6 hj
    by_cases g : p = x.toNat ∧ j = c.toNat
    · obtain ⟨g1, g2⟩ := g
      subst g1
      subst g2
      refine ⟨⟨by rw [newL]; exact n27, ?_, ?_, fun i hi => ?_, fun i i' hi hi' => ?_⟩, fun c' hc' q => ?_⟩
      · have := new 0 (by omega)
        rw [Nat.add_zero, hx] at this
        rw [this]; omega
      · rw [newL, new _ (by omega)]; exact l0
      · rw [newL] at hi
        rw [new i hi]; exact ⟨h2 i, l6 i hi⟩
      · rw [newL] at hi'
        rw [new i (by omega), new i' hi']; exact ld i i' hi hi'
      · refine a2 c' (by omega) ?_
        rw [show (5 * x + (c' : Int)).toNat = 5 * x.toNat + c' by omega]
        obtain ⟨q1, q2⟩ := q
        rw [newL, old97 x.toNat c' (by omega) (by omega)] at q1
        refine ⟨q1, fun i hi => ?_⟩
        have := q2 i (by rw [old97 x.toNat c' (by omega) (by omega), q1]; exact hi)
        rw [new i hi, old96 x.toNat c' i (by omega) (by omega) (by omega)] at this
        exact this
    · have hj0 : (j : Int) < μ 95 p := by
        by_cases ep : p = x.toNat
        · rw [ep] at hj ⊢
          rw [o2] at hj
          rw [hc]
          omega
        · rw [o1 p (by omega)] at hj
          exact hj
      have hp := h95 p h6
      obtain ⟨⟨b1, b2, b3, b4, b5⟩, b6⟩ := h p j h1 h6 hj0
      have eL : μ1 97 (5 * p + j) = μ 97 (5 * p + j) := old97 p j (by omega) g
      have eV : ∀ i : Nat, i < 7 → μ1 96 (7 * (5 * p + j) + i) = μ 96 (7 * (5 * p + j) + i) := fun i hi => old96 p j i (by omega) hi g
      refine ⟨⟨by rw [eL]; exact b1, by have := eV 0 (by omega); rw [Nat.add_zero] at this; rw [this]; exact b2, by rw [eL, eV _ (by omega)]; exact b3, fun i hi => ?_, fun i i' hi hi' => ?_⟩, fun c' hc' q => b6 c' hc' ?_⟩
      · rw [eL] at hi
        rw [eV i (by omega)]; exact b4 i hi
      · rw [eL] at hi'
        rw [eV i (by omega), eV i' (by omega)]; exact b5 i i' hi hi'
      · obtain ⟨q1, q2⟩ := q
        have ne : ¬ (p = x.toNat ∧ c' = c.toNat) := by
          rintro ⟨r1, r2⟩
          subst r1
          rw [hc] at hj0
          omega
        rw [eL, old97 p c' (by omega) ne] at q1
        refine ⟨q1, fun i hi => ?_⟩
        have := q2 i (by rw [old97 p c' (by omega) ne]; exact hi)
        have i7 : i < 7 := by omega
        rw [eV i i7, old96 p c' i (by omega) i7 ne] at this
        exact this
/-- the reference's comparison of a wish's rest with another wish -/
def suI (μ : mM) (L V m s v : Nat) (k f : Int) : Prop := (f = 1 → μ L v = μ L s - 1 ∧ ∀ i : Nat, (i : Int) < k → μ V (m * v + i) = μ V (m * s + (i + 1))) ∧ (¬ f = 1 → ¬ sufW μ L V m s v)
theorem suI.start {μ : mM} {L V m : Nat} {v p k f lv ls : Int} (ql : μ L v.toNat = lv) (qs : μ L p.toNat = ls) (hk : k ≤ 0) (hf : (lv = ls - 1 ∧ f = 1) ∨ (¬ lv = ls - 1 ∧ ¬ f = 1)) : suI μ L V m p.toNat v.toNat k f := by
  refine ⟨fun g => ⟨by rw [ql, qs]; omega, fun i hi => by omega⟩, fun g w => ?_⟩
  have := w.1
  rw [ql, qs] at this
  omega
theorem suI.next {μ : mM} {L V m : Nat} {v p k f g n x y ex ey : Int} (h : suI μ L V m p.toNat v.toNat k f) (hf : f = 1) (qn : μ L v.toNat = n) (hk : 0 ≤ k ∧ k < n) (qx : μ V ex.toNat = x) (hx : 0 ≤ v ∧ ex = (m : Int) * v + k) (qy : μ V ey.toNat = y) (hy : 0 ≤ p ∧ ey = (m : Int) * p + k + 1) (hg : (x = y ∧ g = 1) ∨ (¬ x = y ∧ ¬ g = 1)) : suI μ L V m p.toNat v.toNat (k + 1) g := by
  obtain ⟨h1, h2⟩ := h.1 hf
  have e1 : m * v.toNat + k.toNat = ex.toNat := by
    have : (m : Int) * v = ((m * v.toNat : Nat) : Int) := by rw [Int.natCast_mul]; congr 1; omega
    omega
  have e2 : m * p.toNat + (k.toNat + 1) = ey.toNat := by
    have : (m : Int) * p = ((m * p.toNat : Nat) : Int) := by rw [Int.natCast_mul]; congr 1; omega
    omega
  refine ⟨fun g1 => ⟨h1, fun i hi => ?_⟩, fun g1 w => ?_⟩
  · by_cases c : (i : Int) < k
    · exact h2 i c
    · rw [show i = k.toNat by omega, e1, e2, qx, qy]; omega
  · have := w.2 k.toNat (by omega)
    rw [e1, e2, qx, qy] at this
    omega
section OFZ
variable {μ : mM} {C L V m : Nat} {h : Nat → Int} {p e q z : Int}
theorem offd.zero {l : Int} (qq : μ V e.toNat = q) (he : 0 ≤ p ∧ e = (m : Int) * p + 1) (hq : q = 0) (ql : μ L p.toNat = l) (hz : (l = 2 ∧ z = 1) ∨ (¬ l = 2 ∧ ¬ z = 1)) : (z = 1 ↔ offd μ C L V m h p.toNat) := by
  have e1 : m * p.toNat + 1 = e.toNat := by
    have : (m : Int) * p = ((m * p.toNat : Nat) : Int) := by rw [Int.natCast_mul]; congr 1; omega
    omega
  unfold offd
  rw [e1, qq, ql]
  constructor
  · intro g; exact Or.inl ⟨hq, by omega⟩
  · rintro (g | g)
    · omega
    · exact absurd hq g.1
theorem offd.all {x w : Int} (qq : μ V e.toNat = q) (he : 0 ≤ p ∧ e = (m : Int) * p + 1) (hq : ¬ q = 0) (qh : h q.toNat = x) (qw : μ C q.toNat = w) (hx : x = w) (hz : ¬ z = 1) : (z = 1 ↔ offd μ C L V m h p.toNat) := by
  have e1 : m * p.toNat + 1 = e.toNat := by
    have : (m : Int) * p = ((m * p.toNat : Nat) : Int) := by rw [Int.natCast_mul]; congr 1; omega
    omega
  unfold offd
  rw [e1, qq, qh, qw]
  constructor
  · intro g; exact absurd g hz
  · rintro (g | g)
    · exact absurd g.1 hq
    · exact absurd hx g.2.1
theorem offd.go {x w v k f n : Int} (qq : μ V e.toNat = q) (he : 0 ≤ p ∧ e = (m : Int) * p + 1) (hq : ¬ q = 0) (qh : h q.toNat = x) (qw : μ C q.toNat = w) (hx : ¬ x = w) (hv : v = 5 * q + x) (a : suI μ L V m p.toNat v.toNat k f) (hz : z = f) (qn : μ L v.toNat = n) (hk : ¬ f = 1 ∨ n ≤ k) : (z = 1 ↔ offd μ C L V m h p.toNat) := by
  have e1 : m * p.toNat + 1 = e.toNat := by
    have : (m : Int) * p = ((m * p.toNat : Nat) : Int) := by rw [Int.natCast_mul]; congr 1; omega
    omega
  unfold offd
  rw [e1, qq, qh, qw, ← hv, hz]
  constructor
  · intro g
    refine Or.inr ⟨hq, hx, (a.1 g).1, fun i hi => (a.1 g).2 i ?_⟩
    rw [qn] at hi
    omega
  · rintro (g | g)
    · exact absurd g.1 hq
    · by_cases c : f = 1
      · exact c
      · exact absurd g.2.2 (a.2 c)
end OFZ
theorem cnP.N {μ μ1 : mM} {C : Nat} {N : Int} (h : N = wgk (μ1 C) 6) (e : μ1 C = μ C) : N = wgk (μ C) 6 := by rw [← e]; exact h
theorem cnP.all {P : Nat → Prop} {μ μ1 : mM} {C : Nat} {n s N z : Int} (h : n = cnP P s.toNat) (hN : N = wgk (μ1 C) 6) (e : μ1 C = μ C) (hs : s = N) (hz : z = n) : z = cnP P (wgk (μ C) 6).toNat := by
  rw [hz, h, hs, hN, e]
theorem cnP.fin {P : Nat → Prop} {C : Nat → Int} {i l s N : Int} (h : i - l = cnP P s.toNat) (hN : N = wgk C 6) (hs : s = N) (hl : 0 ≤ l) : cnP P (wgk C 6).toNat ≤ i := by
  rw [← hN, ← hs, ← h]; omega
theorem rtZ.at {P : Nat → Prop} {μ μ1 : mM} {H C : Nat} {i l s N p z y x v : Int} (hP : y = 1 ↔ P s.toNat) (hy : y = 1) (h : i - l = cnP P s.toNat) (hl : l = 0) (hN : N = wgk (μ C) 6) (hs : 0 ≤ s ∧ s < N) (hd : hasD μ1 H C s) (e : μ1 C = μ C) (hp : 1 ≤ p ∧ p ≤ 6) (qx : μ1 H p.toNat = x) (qv : μ1 C p.toNat = v) (hz : (x = v ∧ z = -4) ∨ (¬ x = v ∧ z = x)) : ∃ s : Nat, s < (wgk (μ C) 6).toNat ∧ P s ∧ cnP P s = i ∧ ((dgF (μ C) s p.toNat = μ C p.toNat ∧ z = -4) ∨ (¬ dgF (μ C) s p.toNat = μ C p.toNat ∧ z = dgF (μ C) s p.toNat)) := by
  have es : ((s.toNat : Nat) : Int) = s := by omega
  have d := hd p.toNat (by omega) (by omega)
  rw [qx, e] at d
  rw [e] at qv
  refine ⟨s.toNat, by omega, hP.mp hy, by omega, ?_⟩
  rw [es, ← d, qv]; exact hz
