/-! Rings: paths of so many steps. -/
def edg (f g kd : Nat → Int) (n : Int) (a b : Nat) : Prop := ∃ t : Nat, (t : Int) < n ∧ kd t = 0 ∧ (f t).toNat = a ∧ (g t).toNat = b
def lev (E : Nat → Nat → Prop) (d : Nat) : Nat → Nat → Prop
  | 0, a => a = d
  | n + 1, a => ∃ b, E a b ∧ lev E d n b
/-- the least number of steps, none counted; the least of at least one step -/
def minl (E : Nat → Nat → Prop) (d n a : Nat) : Prop := lev E d n a ∧ ∀ m, m < n → ¬ lev E d m a
def minp (E : Nat → Nat → Prop) (d n a : Nat) : Prop := 1 ≤ n ∧ lev E d n a ∧ ∀ m, 1 ≤ m → m < n → ¬ lev E d m a
section LEV
variable {E : Nat → Nat → Prop} {d : Nat}
theorem minl.uniq {n m a : Nat} (h : minl E d n a) (k : minl E d m a) : n = m := by
  by_cases c : n < m
  · exact absurd h.1 (k.2 n c)
  · by_cases c2 : m < n
    · exact absurd k.1 (h.2 m c2)
    · omega
theorem lev.least {a : Nat} : ∀ n, lev E d n a → ∃ m, m ≤ n ∧ minl E d m a
  | n, h => by
    by_cases c : ∃ m, m < n ∧ lev E d m a
    · obtain ⟨m, hm, q⟩ := c
      obtain ⟨k, hk, r⟩ := lev.least m q
      exact ⟨k, by omega, r⟩
    · exact ⟨n, Nat.le_refl n, h, fun m hm q => c ⟨m, hm, q⟩⟩
theorem minl.step {n a : Nat} (h : minl E d (n + 1) a) : ∃ b, E a b ∧ minl E d n b := by
  obtain ⟨b, e, q⟩ := h.1
  exact ⟨b, e, q, fun m hm r => h.2 (m + 1) (by omega) ⟨b, e, r⟩⟩
theorem minl.zero : minl E d 0 d := ⟨rfl, fun m hm => by omega⟩
theorem minl.count {dm : Nat} (hd : d < dm) (hE : ∀ a b, E a b → a < dm) : ∀ n a, minl E d n a → (n : Int) + 1 ≤ cnP (fun x => ∃ i, i ≤ n ∧ minl E d i x) dm
  | 0, a, h => by
    have := cnP.lt (P := fun _ => False) (Q := fun x => ∃ i, i ≤ 0 ∧ minl E d i x) dm (fun _ h => h.elim) ⟨d, hd, ⟨0, Nat.le_refl 0, minl.zero⟩, id⟩
    have h0 := cnP.far (P := fun _ => False) (m := 0) (fun _ h => h.elim) dm (by omega)
    have h1 : cnP (fun _ => False) 0 = 0 := rfl
    rw [h0, h1] at this
    exact this
  | n + 1, a, h => by
    obtain ⟨b, _, q⟩ := h.step
    have ih := minl.count hd hE n b q
    have ha : a < dm := by obtain ⟨b, e, _⟩ := h.1; exact hE a b e
    have := cnP.lt (P := fun x => ∃ i, i ≤ n ∧ minl E d i x) (Q := fun x => ∃ i, i ≤ n + 1 ∧ minl E d i x) dm (fun x ⟨i, hi, r⟩ => ⟨i, by omega, r⟩) ⟨a, ha, ⟨n + 1, Nat.le_refl _, h⟩, fun ⟨i, hi, r⟩ => by have := r.uniq h; omega⟩
    omega
theorem minl.lt {dm n a : Nat} (hd : d < dm) (hE : ∀ a b, E a b → a < dm) (h : minl E d n a) : n < dm := by
  have h1 := minl.count hd hE n a h
  have h2 := (cnP.most (P := fun x => (∃ i, i ≤ n ∧ minl E d i x) ∧ x < dm) (m := dm) (fun x h => h.2) dm).1
  have h3 := cnP.cg (P := fun x => ∃ i, i ≤ n ∧ minl E d i x) (Q := fun x => (∃ i, i ≤ n ∧ minl E d i x) ∧ x < dm) dm (fun x hx => ⟨fun q => ⟨q, hx⟩, fun q => q.1⟩)
  omega
theorem minp.ne {n a : Nat} (ha : a ≠ d) : minp E d n a ↔ minl E d n a := by
  constructor
  · rintro ⟨h1, h2, h3⟩
    refine ⟨h2, fun m hm q => ?_⟩
    by_cases c : m = 0
    · subst c; exact ha q
    · exact h3 m (by omega) hm q
  · rintro ⟨h1, h2⟩
    refine ⟨?_, h1, fun m _ hm => h2 m hm⟩
    by_cases c : n = 0
    · subst c; exact absurd h1 ha
    · omega
theorem minp.self {n : Nat} (h : minp E d n d) : ∃ b, E d b ∧ minl E d (n - 1) b := by
  obtain ⟨h1, h2, h3⟩ := h
  obtain ⟨k, rfl⟩ : ∃ k, n = k + 1 := ⟨n - 1, by omega⟩
  obtain ⟨b, e, q⟩ := h2
  refine ⟨b, e, q, fun m hm r => ?_⟩
  exact h3 (m + 1) (by omega) (by omega) ⟨b, e, r⟩
theorem minp.le {dm n : Nat} (hd : d < dm) (hE : ∀ a b, E a b → a < dm) (h : minp E d n d) : n ≤ dm := by
  obtain ⟨b, _, q⟩ := minp.self h
  have := q.lt hd hE
  have := h.1
  omega
theorem minp.uniq {n m a : Nat} (h : minp E d n a) (k : minp E d m a) : n = m := by
  by_cases c : n < m
  · exact absurd h.2.1 (k.2.2 n h.1 c)
  · by_cases c2 : m < n
    · exact absurd k.2.1 (h.2.2 m k.1 c2)
    · omega
/-- a level is the next of a level below it -/
theorem minp.next {n a : Nat} (hn : 1 ≤ n) : minp E d (n + 1) a ↔ (∃ b, E a b ∧ (minp E d n b)) ∧ ∀ m, 1 ≤ m → m ≤ n → ¬ minp E d m a := by
  constructor
  · rintro ⟨h1, h2, h3⟩
    refine ⟨?_, fun m h4 h5 q => h3 m h4 (by omega) q.2.1⟩
    obtain ⟨b, e, q⟩ := h2
    exact ⟨b, e, hn, q, fun m h4 h5 r => h3 (m + 1) (by omega) (by omega) ⟨b, e, r⟩⟩
  · rintro ⟨⟨b, e, h1, h2, h3⟩, h4⟩
    refine ⟨by omega, ⟨b, e, h2⟩, fun m h5 h6 q => ?_⟩
    have : ∃ k, 1 ≤ k ∧ k ≤ m ∧ minp E d k a := by
      have go : ∀ m, 1 ≤ m → lev E d m a → ∃ k, 1 ≤ k ∧ k ≤ m ∧ minp E d k a := by
        intro m
        induction m using Nat.strongRecOn with
        | _ m ih =>
          intro hm hl
          by_cases c : ∃ j, 1 ≤ j ∧ j < m ∧ lev E d j a
          · obtain ⟨j, a1, a2, a3⟩ := c
            obtain ⟨k, b1, b2, b3⟩ := ih j a2 a1 a3
            exact ⟨k, b1, by omega, b3⟩
          · exact ⟨m, hm, Nat.le_refl m, hm, hl, fun j a1 a2 a3 => c ⟨j, a1, a2, a3⟩⟩
      exact go m h5 q
    obtain ⟨k, b1, b2, b3⟩ := this
    exact h4 k b1 (by omega) b3
end LEV
