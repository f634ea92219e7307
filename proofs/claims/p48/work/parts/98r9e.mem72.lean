/-! Nets: states that can be come to, level by level; states from which a rest can be come to. -/
/-- one step by the place p -/
def nxP (μ : mM) (C L V m : Nat) (p s t : Nat) : Prop := ∃ a : Int, actR μ C L V m (dgF (μ C) (s : Int)) (p : Int) a ∧ (t : Int) = (s : Int) + (a - dgF (μ C) (s : Int) p) * wgk (μ C) (6 - p)
theorem cnP.add1 {P Q : Nat → Prop} {t : Nat} : ∀ {N : Nat}, t < N → (∀ s, Q s ↔ P s ∨ s = t) → ¬ P t → cnP Q N = cnP P N + 1 := by
  intro N
  induction N with
  | zero => intro h; omega
  | succ N ih =>
    intro ht hq hp
    by_cases c : t = N
    · subst c
      have e : cnP Q t = cnP P t := cnP.cg t fun s hs => by
        rw [hq s]
        exact ⟨fun g => g.elim id fun e => by omega, Or.inl⟩
      rw [cnP.yes ((hq t).mpr (Or.inr rfl)), cnP.no hp, e]
    · have e := ih (by omega) hq hp
      by_cases g : P N
      · rw [cnP.yes ((hq N).mpr (Or.inl g)), cnP.yes g, e]
      · have gq : ¬ Q N := fun x => ((hq N).mp x).elim g fun e => c e.symm
        rw [cnP.no gq, cnP.no g, e]
theorem cnP.split {P Q : Nat → Prop} : ∀ N : Nat, cnP P N = cnP (fun s => P s ∧ Q s) N + cnP (fun s => P s ∧ ¬ Q s) N
  | 0 => rfl
  | N + 1 => by
    have ih := cnP.split (P := P) (Q := Q) N
    by_cases a : P N
    · by_cases b : Q N
      · rw [cnP.yes a, cnP.yes (P := fun s => P s ∧ Q s) ⟨a, b⟩, cnP.no (P := fun s => P s ∧ ¬ Q s) (fun g => g.2 b), ih]; omega
      · rw [cnP.yes a, cnP.no (P := fun s => P s ∧ Q s) (fun g => b g.2), cnP.yes (P := fun s => P s ∧ ¬ Q s) ⟨a, b⟩, ih]; omega
    · rw [cnP.no a, cnP.no (P := fun s => P s ∧ Q s) (fun g => a g.1), cnP.no (P := fun s => P s ∧ ¬ Q s) (fun g => a g.1), ih]
section BFS
variable {E : Nat → Nat → Nat → Prop} {P : Nat → Prop} {r : Nat}
/-- steps by any place; back -/
def anyP (E : Nat → Nat → Nat → Prop) (s t : Nat) : Prop := ∃ p : Nat, 1 ≤ p ∧ p ≤ 6 ∧ E p s t
def bakP (E : Nat → Nat → Nat → Prop) (t s : Nat) : Prop := anyP E s t
def Rch (E : Nat → Nat → Nat → Prop) (r s : Nat) : Prop := ∃ n, lev (bakP E) r n s
theorem Rch.root : Rch E r r := ⟨0, rfl⟩
theorem Rch.step {s t : Nat} (h : Rch E r s) (e : anyP E s t) : Rch E r t := by
  obtain ⟨n, q⟩ := h
  exact ⟨n + 1, s, e, q⟩
def hpe (E : Nat → Nat → Nat → Prop) (P : Nat → Prop) : Nat → Nat → Prop
  | 0, s => P s
  | n + 1, s => ∃ t, anyP E s t ∧ hpe E P n t
def Hop (E : Nat → Nat → Nat → Prop) (P : Nat → Prop) (s : Nat) : Prop := ∃ n, hpe E P n s
theorem Hop.rest {s : Nat} (h : P s) : Hop E P s := ⟨0, h⟩
theorem Hop.step {s t : Nat} (e : anyP E s t) (h : Hop E P t) : Hop E P s := by
  obtain ⟨n, q⟩ := h
  exact ⟨n + 1, t, e, q⟩
/-- a queue: its entries and their levels -/
def quE (E : Nat → Nat → Nat → Prop) (r : Nat) (q lv : Nat → Int) (n N : Int) : Prop := (∀ j : Nat, (j : Int) < n → 0 ≤ q j ∧ q j < N) ∧ (∀ j k : Nat, j < k → (k : Int) < n → q j ≠ q k) ∧ (∀ j : Nat, (j : Int) < n → 0 ≤ lv j ∧ lev (bakP E) r (lv j).toNat (q j).toNat) ∧ (∀ j k : Nat, j ≤ k → (k : Int) < n → lv j ≤ lv k)
/-- the first i are done; the places below k of the next one are done -/
def bfJ (E : Nat → Nat → Nat → Prop) (r : Nat) (q lv : Nat → Int) (n i k N : Int) : Prop := quE E r q lv n N ∧ (1 ≤ n ∧ 0 ≤ i ∧ i ≤ n ∧ q 0 = (r : Int) ∧ lv 0 = 0) ∧ (i < n → ∀ j : Nat, (j : Int) < n → lv j ≤ lv i.toNat + 1) ∧ (∀ j : Nat, (j : Int) < i → ∀ t, anyP E (q j).toNat t → ∃ k : Nat, (k : Int) < n ∧ q k = (t : Int) ∧ lv k ≤ lv j + 1) ∧ (∀ p : Nat, 1 ≤ p → (p : Int) < k → ∀ t, E p (q i.toNat).toNat t → ∃ k : Nat, (k : Int) < n ∧ q k = (t : Int) ∧ lv k ≤ lv i.toNat + 1)
def inQ (q : Nat → Int) (n : Int) (s : Nat) : Prop := ∃ k : Nat, (k : Int) < n ∧ q k = (s : Int)
theorem bfJ.start {q lv : Nat → Int} {N : Int} (h0 : q 0 = (r : Int)) (h1 : lv 0 = 0) (hN : (r : Int) < N) : bfJ E r q lv 1 0 1 N := by
  have z : ∀ j : Nat, (j : Int) < 1 → j = 0 := fun j hj => by omega
  refine ⟨⟨fun j hj => ?_, fun j k a b => by omega, fun j hj => ?_, fun j k a b => ?_⟩, ⟨by omega, by omega, by omega, h0, h1⟩, fun _ j hj => ?_, fun j hj => by omega, fun p a b => by omega⟩
  · rw [z j hj, h0]; omega
  · rw [z j hj, h0, h1]
    exact ⟨Int.le_refl 0, rfl⟩
  · rw [z j (by omega), z k b]; exact Int.le_refl _
  · rw [z j hj]
    have e : ((0 : Int)).toNat = 0 := rfl
    rw [e]; omega
/-- a step to one that stands in the queue -/
theorem bfJ.old {q lv : Nat → Int} {n i k N : Int} (h : bfJ E r q lv n i k N) (hi : i < n) (ht : ∀ t, E k.toNat (q i.toNat).toNat t → inQ q n t) : bfJ E r q lv n i (k + 1) N := by
  obtain ⟨h1, h2, h3, h4, h5⟩ := h
  refine ⟨h1, h2, h3, h4, fun p a b t e => ?_⟩
  by_cases c : (p : Int) < k
  · exact h5 p a c t e
  · rw [show p = k.toNat by omega] at e
    obtain ⟨j, g1, g2⟩ := ht t e
    exact ⟨j, g1, g2, h3 hi j g1⟩
/-- a new one is put behind -/
theorem bfJ.new {q lv q' lv' : Nat → Int} {n i k N t : Int} (h : bfJ E r q lv n i k N) (hi : i < n) (hk : 1 ≤ k ∧ k ≤ 6) (ht : 0 ≤ t ∧ t < N) (he : E k.toNat (q i.toNat).toNat t.toNat) (hu : ∀ t', E k.toNat (q i.toNat).toNat t' → t' = t.toNat) (ni : ¬ inQ q n t.toNat) (q1 : q' n.toNat = t) (q2 : ∀ j : Nat, (j : Int) < n → q' j = q j) (l1 : lv' n.toNat = lv i.toNat + 1) (l2 : ∀ j : Nat, (j : Int) < n → lv' j = lv j) : bfJ E r q' lv' (n + 1) i (k + 1) N := by
  obtain ⟨⟨a1, a2, a3, a4⟩, ⟨b1, b2, b3, b4, b5⟩, h3, h4, h5⟩ := h
  have ei : (i.toNat : Int) = i := by omega
  have qi : q' i.toNat = q i.toNat := q2 _ (by omega)
  have li : lv' i.toNat = lv i.toNat := l2 _ (by omega)
  have en : ∀ j : Nat, (j : Int) < n + 1 → ¬ (j : Int) < n → j = n.toNat := fun j x y => by omega
  have inn : ∀ j : Nat, (j : Int) < n → q j ≠ t := fun j hj e => ni ⟨j, hj, by rw [e]; omega⟩
  refine ⟨⟨fun j hj => ?_, fun j j' hjj hj' => ?_, fun j hj => ?_, fun j j' hjj hj' => ?_⟩, ⟨by omega, b2, by omega, ?_, ?_⟩, fun _ j hj => ?_, fun j hj t' e => ?_, fun p x y t' e => ?_⟩
  · by_cases c : (j : Int) < n
    · rw [q2 j c]; exact a1 j c
    · rw [en j hj c, q1]; exact ht
  · by_cases c : (j' : Int) < n
    · rw [q2 j (by omega), q2 j' c]; exact a2 j j' hjj c
    · rw [en j' hj' c, q1, q2 j (by omega)]; exact inn j (by omega)
  · by_cases c : (j : Int) < n
    · rw [q2 j c, l2 j c]; exact a3 j c
    · rw [en j hj c, q1, l1]
      have g := a3 i.toNat (by omega)
      refine ⟨by omega, ?_⟩
      rw [show (lv i.toNat + 1).toNat = (lv i.toNat).toNat + 1 by omega]
      exact ⟨(q i.toNat).toNat, ⟨k.toNat, by omega, by omega, he⟩, g.2⟩
  · by_cases c : (j' : Int) < n
    · rw [l2 j (by omega), l2 j' c]; exact a4 j j' hjj c
    · rw [en j' hj' c, l1]
      by_cases c2 : (j : Int) < n
      · rw [l2 j c2]; exact h3 hi j c2
      · rw [show j = n.toNat by omega, l1]; exact Int.le_refl _
  · rw [q2 0 (by omega)]; exact b4
  · rw [l2 0 (by omega)]; exact b5
  · rw [li]
    by_cases c : (j : Int) < n
    · rw [l2 j c]; exact h3 hi j c
    · rw [en j hj c, l1]; exact Int.le_refl _
  · rw [q2 j (by omega)] at e
    obtain ⟨k', g1, g2, g3⟩ := h4 j hj t' e
    exact ⟨k', by omega, by rw [q2 k' g1]; exact g2, by rw [l2 k' g1, l2 j (by omega)]; exact g3⟩
  · rw [qi] at e
    rw [li]
    by_cases c : (p : Int) < k
    · obtain ⟨k', g1, g2, g3⟩ := h5 p x c t' e
      exact ⟨k', by omega, by rw [q2 k' g1]; exact g2, by rw [l2 k' g1]; exact g3⟩
    · rw [show p = k.toNat by omega] at e
      have := hu t' e
      exact ⟨n.toNat, by omega, by rw [q1, this]; omega, by rw [l1]; exact Int.le_refl _⟩
/-- the next one's turn -/
theorem bfJ.next {q lv : Nat → Int} {n i k N : Int} (h : bfJ E r q lv n i k N) (hi : i < n) (hk : 7 ≤ k) : bfJ E r q lv n (i + 1) 1 N := by
  obtain ⟨⟨a1, a2, a3, a4⟩, ⟨b1, b2, b3, b4, b5⟩, h3, h4, h5⟩ := h
  refine ⟨⟨a1, a2, a3, a4⟩, ⟨b1, by omega, by omega, b4, b5⟩, fun g j hj => ?_, fun j hj t e => ?_, fun p x y => by omega⟩
  · have := h3 hi j hj
    have := a4 i.toNat (i + 1).toNat (by omega) (by omega)
    omega
  · by_cases c : (j : Int) < i
    · exact h4 j c t e
    · rw [show j = i.toNat by omega] at e ⊢
      obtain ⟨p, p1, p2, p3⟩ := e
      exact h5 p p1 (by omega) t p3
/-- all is done: the queue holds what can be come to, at its level -/
theorem bfJ.all {q lv : Nat → Int} {n i k N : Int} (h : bfJ E r q lv n i k N) (hi : n ≤ i) : ∀ m s, lev (bakP E) r m s → ∃ k : Nat, (k : Int) < n ∧ q k = (s : Int) ∧ lv k ≤ (m : Int) := by
  obtain ⟨⟨a1, a2, a3, a4⟩, ⟨b1, b2, b3, b4, b5⟩, h3, h4, h5⟩ := h
  intro m
  induction m with
  | zero =>
    intro s hs
    have e : s = r := hs
    exact ⟨0, by omega, by rw [e]; exact b4, by omega⟩
  | succ m ih =>
    intro s hs
    obtain ⟨b, e, g⟩ := hs
    obtain ⟨j, g1, g2, g3⟩ := ih b g
    have eb : (q j).toNat = b := by omega
    obtain ⟨k', x1, x2, x3⟩ := h4 j (by omega) s (by rw [eb]; exact e)
    exact ⟨k', x1, x2, by omega⟩
theorem bfJ.rch {q lv : Nat → Int} {n i k N : Int} (h : bfJ E r q lv n i k N) (hi : n ≤ i) (s : Nat) : Rch E r s ↔ inQ q n s := by
  constructor
  · rintro ⟨m, g⟩
    obtain ⟨k', x1, x2, _⟩ := h.all hi m s g
    exact ⟨k', x1, x2⟩
  · rintro ⟨j, x1, x2⟩
    have := h.1.2.2.1 j x1
    exact ⟨(lv j).toNat, by rw [show s = (q j).toNat by omega]; exact this.2⟩
/-- what is met so far can be come to -/
theorem quE.rch {q lv : Nat → Int} {n N : Int} (h : quE E r q lv n N) {j : Nat} (hj : (j : Int) < n) : Rch E r (q j).toNat := ⟨(lv j).toNat, (h.2.2.1 j hj).2⟩
/-- a queue's entries counted as states -/
theorem cnQ {q : Nat → Int} {N : Nat} {Q : Nat → Prop} : ∀ n : Nat, (∀ j : Nat, j < n → 0 ≤ q j ∧ q j < (N : Int)) → (∀ j k : Nat, j < k → k < n → q j ≠ q k) → cnP (fun j => Q (q j).toNat) n = cnP (fun s => inQ q (n : Int) s ∧ Q s) N
  | 0, _, _ => by
    have h0 : cnP (fun j => Q (q j).toNat) 0 = 0 := rfl
    rw [h0]
    have h1 := cnP.cg (P := fun s => inQ q ((0 : Nat) : Int) s ∧ Q s) (Q := fun _ => False) N (fun s _ => ⟨fun g => by obtain ⟨⟨k, a, _⟩, _⟩ := g; omega, fun g => g.elim⟩)
    rw [h1]
    have h2 := cnP.far (P := fun _ => False) (m := 0) (fun _ h => h.elim) N (Nat.zero_le N)
    rw [h2]; rfl
  | n + 1, h1, h2 => by
    have ih := cnQ (q := q) (N := N) (Q := Q) n (fun j hj => h1 j (by omega)) (fun j k a b => h2 j k a (by omega))
    have hq := h1 n (by omega)
    have key : ∀ s : Nat, inQ q ((n + 1 : Nat) : Int) s ↔ inQ q (n : Int) s ∨ s = (q n).toNat := fun s => by
      constructor
      · rintro ⟨k, a, b⟩
        by_cases c : k = n
        · right; rw [c] at b; omega
        · left; exact ⟨k, by omega, b⟩
      · rintro (⟨k, a, b⟩ | e)
        · exact ⟨k, by omega, b⟩
        · exact ⟨n, by omega, by omega⟩
    have nin : ¬ inQ q (n : Int) (q n).toNat := by
      rintro ⟨k, a, b⟩
      exact h2 k n (by omega) (by omega) (by omega)
    by_cases c : Q (q n).toNat
    · rw [cnP.yes (P := fun j => Q (q j).toNat) c, ih]
      refine (cnP.add1 (t := (q n).toNat) (by omega) (fun s => ?_) (fun g => nin g.1)).symm
      rw [key s]
      constructor
      · rintro ⟨a | a, b⟩
        · exact Or.inl ⟨a, b⟩
        · exact Or.inr a
      · rintro (⟨a, b⟩ | a)
        · exact ⟨Or.inl a, b⟩
        · exact ⟨Or.inr a, by rw [a]; exact c⟩
    · rw [cnP.no (P := fun j => Q (q j).toNat) c, ih]
      refine cnP.cg N fun s _ => ?_
      rw [key s]
      constructor
      · rintro ⟨a, b⟩; exact ⟨Or.inl a, b⟩
      · rintro ⟨a | a, b⟩
        · exact ⟨a, b⟩
        · rw [a] at b; exact absurd b c
end BFS
