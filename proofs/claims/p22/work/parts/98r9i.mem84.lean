/-! The reference's reader: its token, where it stands. -/
section Rrf
variable {wr : Int → Int → Int → Prop} {mk : Int → Int} {B : Int → Int} {c : Int}
/-- the token in hand -/
def tyM (μ : mM) (t v : Int) : Prop := (t = -1 ∧ μ 106 35 = 0) ∨ (0 ≤ t ∧ t < 1000 ∧ μ 106 35 = 1 ∧ μ 106 36 = t) ∨ (t = -2 ∧ μ 106 35 = 2 ∧ μ 106 36 = v) ∨ (1000 ≤ t ∧ μ 106 35 = 3 ∧ μ 106 36 = t - 1000)
def RSt (wr : Int → Int → Int → Prop) (mk : Int → Int) (B : Int → Int) (c : Int) (μ : mM) (e : Int → Cfg) : Prop :=
  (μ 106 37 = 0 ∧ ∃ p t v q, TokX wr B p t v (μ 106 34) q ∧ ¬ t = -3 ∧ tyM μ t v ∧ μ 106 33 = q ∧ rcC wr mk B c (0, 0, 0, 0, 0, 0) (e p)) ∨
  (¬ μ 106 37 = 0 ∧ rcC wr mk B c (0, 0, 0, 0, 0, 0) (erC (μ 106 37) (μ 106 38)))
def tsK (μ μ1 : mM) : Prop := μ1 106 33 = μ 106 33 ∧ μ1 106 34 = μ 106 34 ∧ μ1 106 35 = μ 106 35 ∧ μ1 106 36 = μ 106 36 ∧ μ1 106 37 = μ 106 37 ∧ μ1 106 38 = μ 106 38
/-- the next token is read -/
def nxK (wr : Int → Int → Int → Prop) (B : Int → Int) (μ μ1 : mM) : Prop :=
  (¬ μ 106 37 = 0 ∧ μ1 106 37 = μ 106 37 ∧ μ1 106 38 = μ 106 38) ∨
  (μ 106 37 = 0 ∧ ∃ t v f q, TokX wr B (μ 106 33) t v f q ∧ ((¬ t = -3 ∧ μ1 106 37 = 0 ∧ tyM μ1 t v ∧ μ1 106 34 = f ∧ μ1 106 33 = q) ∨ (t = -3 ∧ μ1 106 37 = 1 ∧ μ1 106 38 = f)))
def wrK (μ μ1 : mM) (k : Int) : Prop := (¬ μ 106 37 = 0 ∧ μ1 106 37 = μ 106 37 ∧ μ1 106 38 = μ 106 38) ∨ (μ 106 37 = 0 ∧ μ1 106 37 = k ∧ μ1 106 38 = μ 106 34)
theorem tyM.of {μ μ1 : mM} {t v : Int} (h : tyM μ t v) (e5 : μ1 106 35 = μ 106 35) (e6 : μ1 106 36 = μ 106 36) : tyM μ1 t v := by
  unfold tyM
  rw [e5, e6]; exact h
theorem tyM.word {μ : mM} {t v : Int} (h : tyM μ t v) (w : Int) (hw : 0 ≤ w ∧ w < 1000) : t = w ↔ μ 106 35 = 1 ∧ μ 106 36 = w := by
  rcases h with ⟨a, b⟩ | ⟨a, b, d, e⟩ | ⟨a, b, d⟩ | ⟨a, b, d⟩ <;> constructor <;> intro x <;> omega
theorem tyM.sign {μ : mM} {t v : Int} (h : tyM μ t v) (s : Int) (hs : 0 ≤ s) : t = 1000 + s ↔ μ 106 35 = 3 ∧ μ 106 36 = s := by
  rcases h with ⟨a, b⟩ | ⟨a, b, d, e⟩ | ⟨a, b, d⟩ | ⟨a, b, d⟩ <;> constructor <;> intro x <;> omega
theorem tyM.num {μ : mM} {t v : Int} (h : tyM μ t v) : (t = -2 ↔ μ 106 35 = 2) ∧ (t = -2 → v = μ 106 36) := by
  rcases h with ⟨a, b⟩ | ⟨a, b, d, e⟩ | ⟨a, b, d⟩ | ⟨a, b, d⟩ <;> refine ⟨⟨fun x => ?_, fun x => ?_⟩, fun x => ?_⟩ <;> omega
theorem tyM.fin {μ : mM} {t v : Int} (h : tyM μ t v) : t = -1 ↔ μ 106 35 = 0 := by
  rcases h with ⟨a, b⟩ | ⟨a, b, d, e⟩ | ⟨a, b, d⟩ | ⟨a, b, d⟩ <;> constructor <;> intro x <;> omega
theorem RSt.same {μ μ1 : mM} {e : Int → Cfg} (h : RSt wr mk B c μ e) (s : tsK μ μ1) : RSt wr mk B c μ1 e := by
  obtain ⟨s1, s2, s3, s4, s5, s6⟩ := s
  rcases h with ⟨h1, p, t, v, q, h2, h3, h4, h5, h6⟩ | ⟨h1, h2⟩
  · exact Or.inl ⟨s5.trans h1, p, t, v, q, by rw [s2]; exact h2, h3, h4.of s3 s4, s1.trans h5, h6⟩
  · exact Or.inr ⟨by rw [s5]; exact h1, by rw [s5, s6]; exact h2⟩
/-- what the machine may come to -/
def okE (e : Int → Cfg) : Prop := ∃ s r m x y, (∀ q, e q = (s, q, r, m, x, y)) ∧ (0 ≤ s ∧ s ≤ 16) ∧ (s = 3 → 0 ≤ x)
theorem okE.of {s r m x y : Int} (hs : 0 ≤ s ∧ s ≤ 16) (hx : s = 3 → 0 ≤ x) : okE (fun q => (s, q, r, m, x, y)) := ⟨s, r, m, x, y, fun _ => rfl, hs, hx⟩
theorem okE.ne {e : Int → Cfg} (h : okE e) (p : Int) : ¬ (e p).1 = -1 := by
  obtain ⟨s, r, m, x, y, h1, h2, _⟩ := h
  rw [h1]
  intro g
  have g' : s = -1 := g
  omega
theorem okE.at {e : Int → Cfg} (h : okE e) (p : Int) : (e p).2.1 = p := by
  obtain ⟨s, r, m, x, y, h1, _, _⟩ := h
  rw [h1]
/-- a token is taken, the next one read -/
theorem RSt.next {μ μ1 : mM} {e e' : Int → Cfg} (h : RSt wr mk B c μ e) (n : nxK wr B μ μ1) (oe : okE e) (oe' : okE e') (st : ∀ p t v q, μ 106 37 = 0 → tyM μ t v → ¬ t = -3 → nxC mk c (e p) t v (μ 106 34) q = e' q) : RSt wr mk B c μ1 e' := by
  rcases h with ⟨h1, p, t, v, q, h2, h3, h4, h5, h6⟩ | ⟨h1, h2⟩
  · rcases n with ⟨n1, _, _⟩ | ⟨_, t', v', f', q', n2, n3⟩
    · exact absurd h1 n1
    · have g : rcC wr mk B c (0, 0, 0, 0, 0, 0) (e' q) := by
        rw [← st p t v q h1 h4 h3]
        exact h6.go ⟨oe.ne p, _, _, _, _, by rw [oe.at p]; exact h2, rfl⟩
      rw [h5] at n2
      rcases n3 with ⟨x1, x2, x3, x4, x5⟩ | ⟨x1, x2, x3⟩
      · exact Or.inl ⟨x2, q, t', v', q', by rw [x4]; exact n2, x1, x3, x5, g⟩
      · subst x1
        obtain ⟨s, r, m, x, y, y1, y2, y3⟩ := oe'
        rw [y1] at g
        exact Or.inr ⟨by rw [x2]; decide, by rw [x2, x3]; exact g.no y2 y3 n2⟩
  · rcases n with ⟨_, n2, n3⟩ | ⟨n1, _⟩
    · exact Or.inr ⟨by rw [n2]; exact h1, by rw [n2, n3]; exact h2⟩
    · exact absurd n1 h1
/-- the machine goes on at the same token -/
theorem RSt.stay {μ : mM} {e e' : Int → Cfg} (h : RSt wr mk B c μ e) (oe : okE e) (st : ∀ p t v q, μ 106 37 = 0 → tyM μ t v → ¬ t = -3 → nxC mk c (e p) t v (μ 106 34) q = e' p) : RSt wr mk B c μ e' := by
  rcases h with ⟨h1, p, t, v, q, h2, h3, h4, h5, h6⟩ | ⟨h1, h2⟩
  · refine Or.inl ⟨h1, p, t, v, q, h2, h3, h4, h5, ?_⟩
    rw [← st p t v q h1 h4 h3]
    exact h6.go ⟨oe.ne p, _, _, _, _, by rw [oe.at p]; exact h2, rfl⟩
  · exact Or.inr ⟨h1, h2⟩
/-- a fault -/
theorem RSt.wrong {μ μ1 : mM} {e e' : Int → Cfg} {k : Int} (h : RSt wr mk B c μ e) (n : wrK μ μ1 k) (hk : ¬ k = 0) (oe : okE e) (st : ∀ p t v q, μ 106 37 = 0 → tyM μ t v → ¬ t = -3 → nxC mk c (e p) t v (μ 106 34) q = faC k t (μ 106 34)) : RSt wr mk B c μ1 e' := by
  rcases h with ⟨h1, p, t, v, q, h2, h3, h4, h5, h6⟩ | ⟨h1, h2⟩
  · rcases n with ⟨n1, _, _⟩ | ⟨_, n2, n3⟩
    · exact absurd h1 n1
    · refine Or.inr ⟨by rw [n2]; exact hk, ?_⟩
      rw [n2, n3]
      have g : rcC wr mk B c (0, 0, 0, 0, 0, 0) (faC k t (μ 106 34)) := by
        rw [← st p t v q h1 h4 h3]
        exact h6.go ⟨oe.ne p, _, _, _, _, by rw [oe.at p]; exact h2, rfl⟩
      unfold faC at g
      rw [if_neg h3] at g
      exact g
  · rcases n with ⟨_, n2, n3⟩ | ⟨n1, _, _⟩
    · exact Or.inr ⟨by rw [n2]; exact h1, by rw [n2, n3]; exact h2⟩
    · exact absurd n1 h1
/-- behind a fault nothing is changed by what follows -/
theorem RSt.bad {μ : mM} {e e' : Int → Cfg} (h : RSt wr mk B c μ e) (hc : ¬ μ 106 37 = 0) : RSt wr mk B c μ e' := by
  rcases h with ⟨h1, _⟩ | ⟨h1, h2⟩
  · exact absurd h1 hc
  · exact Or.inr ⟨h1, h2⟩
theorem RSt.done {μ : mM} {r m : Int} (h : RSt wr mk B c μ (fun p => (0, p, r, m, 0, 0))) (ht : μ 106 37 = 0 → μ 106 35 = 0) : ∃ f, rcC wr mk B c (0, 0, 0, 0, 0, 0) (erC (μ 106 37) f) ∧ (¬ μ 106 37 = 0 → f = μ 106 38) := by
  rcases h with ⟨h1, p, t, v, q, h2, h3, h4, h5, h6⟩ | ⟨h1, h2⟩
  · have e := h4.fin.mpr (ht h1)
    subst e
    refine ⟨0, ?_, fun x => absurd h1 x⟩
    rw [h1]
    exact h6.go ⟨by show ¬ (0 : Int) = -1; decide, _, _, _, _, h2, rfl⟩
  · exact ⟨_, h2, fun _ => rfl⟩
end Rrf
