/-! Ties of a pair are one; who provides whom. -/
def TUQ (f g : Nat → Int) (n : Int) : Prop := ∀ i j : Nat, i < j → (j : Int) < n → ¬ matQ f g j (f i) (g i)
theorem TUQ.zero {f g : Nat → Int} {n : Int} (h : n ≤ 0) : TUQ f g n := fun i j _ hj => by omega
theorem matQ.sym {f g : Nat → Int} {i : Nat} {x y : Int} (h : matQ f g i x y) : matQ f g i y x := h.elim (fun q => Or.inr ⟨q.1, q.2⟩) (fun q => Or.inl ⟨q.1, q.2⟩)
theorem TUQ.add {f g f' g' : Nat → Int} {n x y : Int} (h : TUQ f g n) (h0 : 0 ≤ n) (hn : noneQ f g n x y) (old : ∀ i : Nat, (i : Int) < n → f' i = f i ∧ g' i = g i) (qf : f' n.toNat = x) (qg : g' n.toNat = y) : TUQ f' g' (n + 1) := fun i j hij hj k => by
  have hi : (i : Int) < n := by omega
  by_cases c : (j : Int) < n
  · unfold matQ at k
    rw [(old i hi).1, (old i hi).2, (old j c).1, (old j c).2] at k
    exact h i j hij c k
  · have ej : j = n.toNat := by omega
    unfold matQ at k
    rw [ej, qf, qg, (old i hi).1, (old i hi).2] at k
    refine hn i hi ?_
    unfold matQ
    rcases k with ⟨a, b⟩ | ⟨a, b⟩
    · exact Or.inl ⟨a.symm, b.symm⟩
    · exact Or.inr ⟨b.symm, a.symm⟩
theorem TUQ.cg {f g f' g' : Nat → Int} {n : Int} (h : TUQ f g n) (e : ∀ i : Nat, (i : Int) < n → f' i = f i ∧ g' i = g i) : TUQ f' g' n := fun i j hij hj k => by
  unfold matQ at k
  rw [(e i (by omega)).1, (e i (by omega)).2, (e j hj).1, (e j hj).2] at k
  exact h i j hij hj k
/-- the reference's provides -/
theorem prov.yes {f g kd : Nat → Int} {n x y no t : Int} (q : fndQ f g n x y no t) (ht : 0 ≤ t) (hn : no < 0) (hk : kd t.toNat = 0) (hf : f t.toNat = x) : edg f g kd n x.toNat y.toNat := by
  rcases q with ⟨h, _⟩ | ⟨h1, h2, h3, _⟩
  · omega
  · refine ⟨t.toNat, by omega, hk, by rw [hf], ?_⟩
    rcases h3 with ⟨a, b⟩ | ⟨a, b⟩
    · rw [b]
    · rw [b, ← hf, a]
theorem prov.no {f g kd : Nat → Int} {n x y no t : Int} (u : TUQ f g n) (pos : ∀ i : Nat, (i : Int) < n → 0 ≤ f i ∧ 0 ≤ g i) (hx : 0 ≤ x) (hy : 0 ≤ y) (q : fndQ f g n x y no t) (hn : no < 0) (h : t < 0 ∨ (0 ≤ t ∧ (¬ kd t.toNat = 0 ∨ ¬ f t.toNat = x))) : ¬ edg f g kd n x.toNat y.toNat := by
  rintro ⟨s, s1, s2, s3, s4⟩
  obtain ⟨p1, p2⟩ := pos s s1
  have fs : f s = x := by omega
  have gs : g s = y := by omega
  have ms : matQ f g s x y := Or.inl ⟨fs, gs⟩
  rcases q with ⟨_, q2⟩ | ⟨q1, q2, q3, q4⟩
  · exact q2 s s1 ms
  · have e : s = t.toNat := by
      by_cases c : s < t.toNat
      · exact absurd ms (q4 s (by omega))
      · by_cases c2 : t.toNat < s
        · exfalso
          refine u t.toNat s c2 s1 ?_
          unfold matQ
          rw [fs, gs]
          rcases q3 with ⟨a, b⟩ | ⟨a, b⟩
          · exact Or.inl ⟨a.symm, b.symm⟩
          · exact Or.inr ⟨b.symm, a.symm⟩
        · omega
    subst e
    rcases h with h | ⟨_, h | h⟩
    · omega
    · exact h s2
    · exact h fs
