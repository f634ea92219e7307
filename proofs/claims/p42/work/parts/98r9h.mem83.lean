section
/-! The class's reader: its tokens, where it stands. -/
section Rdr
variable {wr : Int → Int → Int → Prop} {mk : Int → Int} {B : Int → Int} {c : Int}
def cT (μ : mM) : Int := μ 24 (μ 23 9).toNat
def cV (μ : mM) : Int := μ 25 (μ 23 9).toNat
def cP (μ : mM) : Int := μ 26 (μ 23 9).toNat
/-- the tokens from i on are those of the octets from p on -/
def sqN (wr : Int → Int → Int → Prop) (B : Int → Int) (μ : mM) : Nat → Int → Int → Prop
  | 0, i, p => i = μ 23 8 ∧ μ 24 i.toNat = -1 ∧ ∃ q, TokX wr B p (-1) 0 (μ 26 i.toNat) q
  | n + 1, i, p => i < μ 23 8 ∧ ¬ μ 24 i.toNat = -1 ∧ ∃ q, TokX wr B p (μ 24 i.toNat) (μ 25 i.toNat) (μ 26 i.toNat) q ∧ sqN wr B μ n (i + 1) q
def SqT (wr : Int → Int → Int → Prop) (B : Int → Int) (μ : mM) (i p : Int) : Prop := ∃ n, sqN wr B μ n i p
theorem sqN.of {μ μ1 : mM} (e4 : μ1 24 = μ 24) (e5 : μ1 25 = μ 25) (e6 : μ1 26 = μ 26) (e8 : μ1 23 8 = μ 23 8) : ∀ (n : Nat) (i p : Int), sqN wr B μ n i p → sqN wr B μ1 n i p
  | 0, i, p, h => by
    unfold sqN at h ⊢
    rw [e4, e6, e8]; exact h
  | n + 1, i, p, h => by
    unfold sqN at h ⊢
    rw [e4, e5, e6, e8]
    obtain ⟨h1, h2, q, h3, h4⟩ := h
    exact ⟨h1, h2, q, h3, sqN.of e4 e5 e6 e8 n _ _ h4⟩
theorem SqT.of {μ μ1 : mM} {i p : Int} (h : SqT wr B μ i p) (e4 : μ1 24 = μ 24) (e5 : μ1 25 = μ 25) (e6 : μ1 26 = μ 26) (e8 : μ1 23 8 = μ 23 8) : SqT wr B μ1 i p := by
  obtain ⟨n, h⟩ := h
  exact ⟨n, sqN.of e4 e5 e6 e8 n i p h⟩
theorem SqT.end {μ : mM} {i p : Int} (h : SqT wr B μ i p) (ht : μ 24 i.toNat = -1) : i = μ 23 8 ∧ ∃ q, TokX wr B p (-1) 0 (μ 26 i.toNat) q := by
  obtain ⟨n, h⟩ := h
  cases n with
  | zero => exact ⟨h.1, h.2.2⟩
  | succ n => exact absurd ht h.2.1
theorem SqT.tok {μ : mM} {i p : Int} (h : SqT wr B μ i p) (ht : ¬ μ 24 i.toNat = -1) : i < μ 23 8 ∧ ∃ q, TokX wr B p (μ 24 i.toNat) (μ 25 i.toNat) (μ 26 i.toNat) q ∧ SqT wr B μ (i + 1) q := by
  obtain ⟨n, h⟩ := h
  cases n with
  | zero => exact absurd h.2.1 ht
  | succ n =>
    obtain ⟨h1, _, q, h3, h4⟩ := h
    exact ⟨h1, q, h3, n, h4⟩
def CSt (wr : Int → Int → Int → Prop) (mk : Int → Int) (B : Int → Int) (c : Int) (μ : mM) (e : Int → Cfg) : Prop :=
  (μ 23 18 = 0 ∧ ∃ p, SqT wr B μ (μ 23 9) p ∧ rcC wr mk B c (0, 0, 0, 0, 0, 0) (e p)) ∨
  (¬ μ 23 18 = 0 ∧ μ 23 9 = μ 23 8 ∧ μ 24 (μ 23 8).toNat = -1 ∧ rcC wr mk B c (0, 0, 0, 0, 0, 0) (erC (μ 23 18) (μ 23 19)))
/-- the tables of tokens are the same -/
def tbK (μ μ1 : mM) : Prop := μ1 24 = μ 24 ∧ μ1 25 = μ 25 ∧ μ1 26 = μ 26 ∧ μ1 23 8 = μ 23 8
def flK (μ μ1 : mM) (k : Int) : Prop := μ1 23 9 = μ 23 8 ∧ ((¬ μ 23 18 = 0 ∧ μ1 23 18 = μ 23 18 ∧ μ1 23 19 = μ 23 19) ∨ (μ 23 18 = 0 ∧ μ1 23 18 = (if cT μ = -3 then 1 else k) ∧ μ1 23 19 = cP μ))
def mvK (μ μ1 : mM) : Prop := μ1 23 9 = μ 23 9 + 1 ∧ μ1 23 18 = μ 23 18 ∧ μ1 23 19 = μ 23 19
def smK (μ μ1 : mM) : Prop := μ1 23 9 = μ 23 9 ∧ μ1 23 18 = μ 23 18 ∧ μ1 23 19 = μ 23 19
theorem CSt.same {μ μ1 : mM} {e : Int → Cfg} (h : CSt wr mk B c μ e) (tb : tbK μ μ1) (s : smK μ μ1) : CSt wr mk B c μ1 e := by
  obtain ⟨t1, t2, t3, t4⟩ := tb
  obtain ⟨s1, s2, s3⟩ := s
  rcases h with ⟨h1, p, h2, h3⟩ | ⟨h1, h2, h3, h4⟩
  · refine Or.inl ⟨s2.trans h1, p, ?_, h3⟩
    rw [s1]
    exact h2.of t1 t2 t3 t4
  · refine Or.inr ⟨by rw [s2]; exact h1, by rw [s1, t4]; exact h2, by rw [t1, t4]; exact h3, by rw [s2, s3]; exact h4⟩
/-- a token is taken -/
theorem CSt.move {μ μ1 : mM} {e e' : Int → Cfg} (h : CSt wr mk B c μ e) (tb : tbK μ μ1) (s : mvK μ μ1) (ht : ¬ cT μ = -1) (hs : ∀ p, ¬ (e p).1 = -1 ∧ (e p).2.1 = p) (st : ∀ p q, nxC mk c (e p) (cT μ) (cV μ) (cP μ) q = e' q) : CSt wr mk B c μ1 e' := by
  obtain ⟨t1, t2, t3, t4⟩ := tb
  obtain ⟨s1, s2, s3⟩ := s
  rcases h with ⟨h1, p, h2, h3⟩ | ⟨h1, h2, h3, h4⟩
  · obtain ⟨_, q, g1, g2⟩ := h2.tok ht
    refine Or.inl ⟨s2.trans h1, q, ?_, ?_⟩
    · rw [s1]
      exact g2.of t1 t2 t3 t4
    · rw [← st p q]
      exact h3.go ⟨(hs p).1, _, _, _, _, by rw [(hs p).2]; exact g1, rfl⟩
  · refine absurd ?_ ht
    unfold cT
    rw [h2]; exact h3
/-- nothing is taken, the machine goes on at the same place -/
theorem CSt.stay {μ μ1 : mM} {e e' : Int → Cfg} (h : CSt wr mk B c μ e) (tb : tbK μ μ1) (s : smK μ μ1) (hs : ∀ p, ¬ (e p).1 = -1 ∧ (e p).2.1 = p) (st : ∀ p v q, nxC mk c (e p) (cT μ) v (cP μ) q = e' p) : CSt wr mk B c μ1 e' := by
  obtain ⟨t1, t2, t3, t4⟩ := tb
  obtain ⟨s1, s2, s3⟩ := s
  rcases h with ⟨h1, p, h2, h3⟩ | ⟨h1, h2, h3, h4⟩
  · refine Or.inl ⟨s2.trans h1, p, by rw [s1]; exact h2.of t1 t2 t3 t4, ?_⟩
    by_cases x : cT μ = -1
    · obtain ⟨_, q, g⟩ := h2.end x
      rw [← st p 0 q, x]
      exact h3.go ⟨(hs p).1, _, _, _, _, by rw [(hs p).2]; exact g, rfl⟩
    · obtain ⟨_, q, g1, _⟩ := h2.tok x
      rw [← st p (cV μ) q]
      exact h3.go ⟨(hs p).1, _, _, _, _, by rw [(hs p).2]; exact g1, rfl⟩
  · exact Or.inr ⟨by rw [s2]; exact h1, by rw [s1, t4]; exact h2, by rw [t1, t4]; exact h3, by rw [s2, s3]; exact h4⟩
/-- a fault -/
theorem CSt.fail {μ μ1 : mM} {e e' : Int → Cfg} {k : Int} (h : CSt wr mk B c μ e) (hend : μ 24 (μ 23 8).toNat = -1) (tb : tbK μ μ1) (s : flK μ μ1 k) (hk : ¬ k = 0) (hs : ∀ p, ¬ (e p).1 = -1 ∧ (e p).2.1 = p) (st : ∀ p v q, (¬ cT μ = -1 → v = cV μ) → nxC mk c (e p) (cT μ) v (cP μ) q = faC k (cT μ) (cP μ)) : CSt wr mk B c μ1 e' := by
  obtain ⟨t1, t2, t3, t4⟩ := tb
  obtain ⟨s1, s2⟩ := s
  have a9 : μ1 23 9 = μ1 23 8 := by rw [s1, t4]
  have aE : μ1 24 (μ1 23 8).toNat = -1 := by rw [t1, t4]; exact hend
  rcases h with ⟨h1, p, h2, h3⟩ | ⟨h1, h2, h3, h4⟩
  · rcases s2 with ⟨x, _, _⟩ | ⟨_, x1, x2⟩
    · exact absurd h1 x
    · refine Or.inr ⟨?_, a9, aE, ?_⟩
      · rw [x1]
        by_cases y : cT μ = -3
        · rw [if_pos y]; decide
        · rw [if_neg y]; exact hk
      · rw [x1, x2]
        show rcC wr mk B c (0, 0, 0, 0, 0, 0) (faC k (cT μ) (cP μ))
        by_cases x : cT μ = -1
        · obtain ⟨_, q, g⟩ := h2.end x
          have e1 := st p 0 q (fun y => absurd x y)
          rw [← e1, x]
          exact h3.go ⟨(hs p).1, _, _, _, _, by rw [(hs p).2]; exact g, rfl⟩
        · obtain ⟨_, q, g1, _⟩ := h2.tok x
          rw [← st p (cV μ) q (fun _ => rfl)]
          exact h3.go ⟨(hs p).1, _, _, _, _, by rw [(hs p).2]; exact g1, rfl⟩
  · rcases s2 with ⟨_, x1, x2⟩ | ⟨x, _, _⟩
    · exact Or.inr ⟨by rw [x1]; exact h1, a9, aE, by rw [x1, x2]; exact h4⟩
    · exact absurd x h1
/-- at the end the machine has ended as the class says -/
theorem CSt.done {μ : mM} {r m : Int} (h : CSt wr mk B c μ (fun p => (0, p, r, m, 0, 0))) (ht : cT μ = -1) : ∃ f, rcC wr mk B c (0, 0, 0, 0, 0, 0) (erC (μ 23 18) f) ∧ (¬ μ 23 18 = 0 → f = μ 23 19) := by
  rcases h with ⟨h1, p, h2, h3⟩ | ⟨h1, h2, h3, h4⟩
  · obtain ⟨_, q, g⟩ := h2.end ht
    refine ⟨0, ?_, fun x => absurd h1 x⟩
    rw [h1]
    exact h3.go ⟨by show ¬ (0 : Int) = -1; decide, _, _, _, _, g, rfl⟩
  · exact ⟨_, h4, fun _ => rfl⟩
end Rdr
end
section
/-! The reference's reader: its token, where it stands. -/
section Rrf
variable {wr : Int → Int → Int → Prop} {mk : Int → Int} {B : Int → Int} {c : Int}
/-- the token in hand -/
def tyM (μ : mM) (t v : Int) : Prop := (t = -1 ∧ μ 106 35 = 0) ∨ (0 ≤ t ∧ t < 1000 ∧ μ 106 35 = 1 ∧ μ 106 36 = t) ∨ (t = -2 ∧ μ 106 35 = 2 ∧ μ 106 36 = v) ∨ (1000 ≤ t ∧ μ 106 35 = 3 ∧ μ 106 36 = t - 1000)
def RSt (wr : Int → Int → Int → Prop) (mk : Int → Int) (B : Int → Int) (c : Int) (μ : mM) (e : Int → Cfg) : Prop :=
  (μ 106 37 = 0 ∧ ∃ p t v q, TokX wr B p t v (μ 106 34) q ∧ ¬ t = -3 ∧ tyM μ t v ∧ μ 106 33 = q ∧ rcC wr mk B c (0, 0, 0, 0, 0, 0) (e p)) ∨
  (¬ μ 106 37 = 0 ∧ rcC wr mk B c (0, 0, 0, 0, 0, 0) (erC (μ 106 37) (μ 106 38)))
def tsK (μ μ1 : mM) : Prop := μ1 106 33 = μ 106 33 ∧ μ1 106 34 = μ 106 34 ∧ μ1 106 35 = μ 106 35 ∧ μ1 106 36 = μ 106 36 ∧ μ1 106 37 = μ 106 37 ∧ μ1 106 38 = μ 106 38
/-- the next token is read -/
def nxK (wr : Int → Int → Int → Prop) (B : Int → Int) (μ μ1 : mM) : Prop :=
  (¬ μ 106 37 = 0 ∧ μ1 106 37 = μ 106 37 ∧ μ1 106 38 = μ 106 38) ∨
  (μ 106 37 = 0 ∧ ∃ t v f q, TokX wr B (μ 106 33) t v f q ∧ ((¬ t = -3 ∧ μ1 106 37 = 0 ∧ tyM μ1 t v ∧ μ1 106 34 = f ∧ μ1 106 33 = q) ∨ (t = -3 ∧ μ1 106 37 = 1 ∧ μ1 106 38 = f)))
def wrK (μ μ1 : mM) (k : Int) : Prop := (¬ μ 106 37 = 0 ∧ μ1 106 37 = μ 106 37 ∧ μ1 106 38 = μ 106 38) ∨ (μ 106 37 = 0 ∧ μ1 106 37 = k ∧ μ1 106 38 = μ 106 34)
theorem tyM.of {μ μ1 : mM} {t v : Int} (h : tyM μ t v) (e5 : μ1 106 35 = μ 106 35) (e6 : μ1 106 36 = μ 106 36) : tyM μ1 t v := by
  unfold tyM
  rw [e5, e6]; exact h
theorem tyM.word {μ : mM} {t v : Int} (h : tyM μ t v) (w : Int) (hw : 0 ≤ w ∧ w < 1000) : t = w ↔ μ 106 35 = 1 ∧ μ 106 36 = w := by
  rcases h with ⟨a, b⟩ | ⟨a, b, d, e⟩ | ⟨a, b, d⟩ | ⟨a, b, d⟩ <;> constructor <;> intro x <;> omega
theorem tyM.sign {μ : mM} {t v : Int} (h : tyM μ t v) (s : Int) (hs : 0 ≤ s) : t = 1000 + s ↔ μ 106 35 = 3 ∧ μ 106 36 = s := by
  rcases h with ⟨a, b⟩ | ⟨a, b, d, e⟩ | ⟨a, b, d⟩ | ⟨a, b, d⟩ <;> constructor <;> intro x <;> omega
theorem tyM.num {μ : mM} {t v : Int} (h : tyM μ t v) : (t = -2 ↔ μ 106 35 = 2) ∧ (t = -2 → v = μ 106 36) := by
  rcases h with ⟨a, b⟩ | ⟨a, b, d, e⟩ | ⟨a, b, d⟩ | ⟨a, b, d⟩ <;> refine ⟨⟨fun x => ?_, fun x => ?_⟩, fun x => ?_⟩ <;> omega
theorem tyM.fin {μ : mM} {t v : Int} (h : tyM μ t v) : t = -1 ↔ μ 106 35 = 0 := by
  rcases h with ⟨a, b⟩ | ⟨a, b, d, e⟩ | ⟨a, b, d⟩ | ⟨a, b, d⟩ <;> constructor <;> intro x <;> omega
theorem RSt.same {μ μ1 : mM} {e : Int → Cfg} (h : RSt wr mk B c μ e) (s : tsK μ μ1) : RSt wr mk B c μ1 e := by
  obtain ⟨s1, s2, s3, s4, s5, s6⟩ := s
  rcases h with ⟨h1, p, t, v, q, h2, h3, h4, h5, h6⟩ | ⟨h1, h2⟩
  · exact Or.inl ⟨s5.trans h1, p, t, v, q, by rw [s2]; exact h2, h3, h4.of s3 s4, s1.trans h5, h6⟩
  · exact Or.inr ⟨by rw [s5]; exact h1, by rw [s5, s6]; exact h2⟩
/-- what the machine may come to -/
def okE (e : Int → Cfg) : Prop := ∃ s r m x y, (∀ q, e q = (s, q, r, m, x, y)) ∧ (0 ≤ s ∧ s ≤ 16) ∧ (s = 3 → 0 ≤ x)
theorem okE.of {s r m x y : Int} (hs : 0 ≤ s ∧ s ≤ 16) (hx : s = 3 → 0 ≤ x) : okE (fun q => (s, q, r, m, x, y)) := ⟨s, r, m, x, y, fun _ => rfl, hs, hx⟩
theorem okE.ne {e : Int → Cfg} (h : okE e) (p : Int) : ¬ (e p).1 = -1 := by
  obtain ⟨s, r, m, x, y, h1, h2, _⟩ := h
  rw [h1]
  intro g
  have g' : s = -1 := g
  omega
theorem okE.at {e : Int → Cfg} (h : okE e) (p : Int) : (e p).2.1 = p := by
  obtain ⟨s, r, m, x, y, h1, _, _⟩ := h
  rw [h1]
/-- a token is taken, the next one read -/
theorem RSt.next {μ μ1 : mM} {e e' : Int → Cfg} (h : RSt wr mk B c μ e) (n : nxK wr B μ μ1) (oe : okE e) (oe' : okE e') (st : ∀ p t v q, μ 106 37 = 0 → tyM μ t v → ¬ t = -3 → nxC mk c (e p) t v (μ 106 34) q = e' q) : RSt wr mk B c μ1 e' := by
  rcases h with ⟨h1, p, t, v, q, h2, h3, h4, h5, h6⟩ | ⟨h1, h2⟩
  · rcases n with ⟨n1, _, _⟩ | ⟨_, t', v', f', q', n2, n3⟩
    · exact absurd h1 n1
    · have g : rcC wr mk B c (0, 0, 0, 0, 0, 0) (e' q) := by
        rw [← st p t v q h1 h4 h3]
        exact h6.go ⟨oe.ne p, _, _, _, _, by rw [oe.at p]; exact h2, rfl⟩
      rw [h5] at n2
      rcases n3 with ⟨x1, x2, x3, x4, x5⟩ | ⟨x1, x2, x3⟩
      · exact Or.inl ⟨x2, q, t', v', q', by rw [x4]; exact n2, x1, x3, x5, g⟩
      · subst x1
        obtain ⟨s, r, m, x, y, y1, y2, y3⟩ := oe'
        rw [y1] at g
        exact Or.inr ⟨by rw [x2]; decide, by rw [x2, x3]; exact g.no y2 y3 n2⟩
  · rcases n with ⟨_, n2, n3⟩ | ⟨n1, _⟩
    · exact Or.inr ⟨by rw [n2]; exact h1, by rw [n2, n3]; exact h2⟩
    · exact absurd n1 h1
/-- the machine goes on at the same token -/
theorem RSt.stay {μ : mM} {e e' : Int → Cfg} (h : RSt wr mk B c μ e) (oe : okE e) (st : ∀ p t v q, μ 106 37 = 0 → tyM μ t v → ¬ t = -3 → nxC mk c (e p) t v (μ 106 34) q = e' p) : RSt wr mk B c μ e' := by
  rcases h with ⟨h1, p, t, v, q, h2, h3, h4, h5, h6⟩ | ⟨h1, h2⟩
  · refine Or.inl ⟨h1, p, t, v, q, h2, h3, h4, h5, ?_⟩
    rw [← st p t v q h1 h4 h3]
    exact h6.go ⟨oe.ne p, _, _, _, _, by rw [oe.at p]; exact h2, rfl⟩
  · exact Or.inr ⟨h1, h2⟩
/-- a fault -/
theorem RSt.wrong {μ μ1 : mM} {e e' : Int → Cfg} {k : Int} (h : RSt wr mk B c μ e) (n : wrK μ μ1 k) (hk : ¬ k = 0) (oe : okE e) (st : ∀ p t v q, μ 106 37 = 0 → tyM μ t v → ¬ t = -3 → nxC mk c (e p) t v (μ 106 34) q = faC k t (μ 106 34)) : RSt wr mk B c μ1 e' := by
  rcases h with ⟨h1, p, t, v, q, h2, h3, h4, h5, h6⟩ | ⟨h1, h2⟩
  · rcases n with ⟨n1, _, _⟩ | ⟨_, n2, n3⟩
    · exact absurd h1 n1
    · refine Or.inr ⟨by rw [n2]; exact hk, ?_⟩
      rw [n2, n3]
      have g : rcC wr mk B c (0, 0, 0, 0, 0, 0) (faC k t (μ 106 34)) := by
        rw [← st p t v q h1 h4 h3]
        exact h6.go ⟨oe.ne p, _, _, _, _, by rw [oe.at p]; exact h2, rfl⟩
      unfold faC at g
      rw [if_neg h3] at g
      exact g
  · rcases n with ⟨_, n2, n3⟩ | ⟨n1, _, _⟩
    · exact Or.inr ⟨by rw [n2]; exact h1, by rw [n2, n3]; exact h2⟩
    · exact absurd n1 h1
/-- behind a fault nothing is changed by what follows -/
theorem RSt.bad {μ : mM} {e e' : Int → Cfg} (h : RSt wr mk B c μ e) (hc : ¬ μ 106 37 = 0) : RSt wr mk B c μ e' := by
  rcases h with ⟨h1, _⟩ | ⟨h1, h2⟩
  · exact absurd h1 hc
  · exact Or.inr ⟨h1, h2⟩
theorem RSt.done {μ : mM} {r m : Int} (h : RSt wr mk B c μ (fun p => (0, p, r, m, 0, 0))) (ht : μ 106 37 = 0 → μ 106 35 = 0) : ∃ f, rcC wr mk B c (0, 0, 0, 0, 0, 0) (erC (μ 106 37) f) ∧ (¬ μ 106 37 = 0 → f = μ 106 38) := by
  rcases h with ⟨h1, p, t, v, q, h2, h3, h4, h5, h6⟩ | ⟨h1, h2⟩
  · have e := h4.fin.mpr (ht h1)
    subst e
    refine ⟨0, ?_, fun x => absurd h1 x⟩
    rw [h1]
    exact h6.go ⟨by show ¬ (0 : Int) = -1; decide, _, _, _, _, h2, rfl⟩
  · exact ⟨_, h2, fun _ => rfl⟩
end Rrf
end
section
/-! The class's reader: its small calls, and what they are to the machine. -/
theorem flK.mk1 {μ μ1 : mM} {k E F P : Int} (q8 : μ 23 8 = E) (q9 : μ1 23 9 = E) (qf : μ 23 18 = F) (hF : ¬ F = 0) (qf1 : μ1 23 18 = F) (qp : μ 23 19 = P) (qp1 : μ1 23 19 = P) : flK μ μ1 k := ⟨q9.trans q8.symm, Or.inl ⟨by rw [qf]; exact hF, qf1.trans qf.symm, qp1.trans qp.symm⟩⟩
theorem flK.mk2 {μ μ1 : mM} {k E F A T X L : Int} (q8 : μ 23 8 = E) (q9 : μ1 23 9 = E) (qf : μ 23 18 = F) (hF : F = 0) (qa : μ 23 9 = A) (qt : μ 24 A.toNat = T) (qf1 : μ1 23 18 = X) (hX : (T = -3 ∧ X = 1) ∨ (¬ T = -3 ∧ X = k)) (ql : μ 26 A.toNat = L) (qp1 : μ1 23 19 = L) : flK μ μ1 k := by
  have eT : cT μ = T := by unfold cT; rw [qa]; exact qt
  have eP : cP μ = L := by unfold cP; rw [qa]; exact ql
  refine ⟨q9.trans q8.symm, Or.inr ⟨qf.trans hF, ?_, qp1.trans eP.symm⟩⟩
  rw [qf1, eT]
  rcases hX with ⟨a, b⟩ | ⟨a, b⟩
  · rw [if_pos a]; exact b
  · rw [if_neg a]; exact b
theorem mvK.mk {μ μ1 : mM} {A A1 F P : Int} (qa : μ 23 9 = A) (qa1 : μ1 23 9 = A1) (h : A1 = A + 1) (qf : μ 23 18 = F) (qf1 : μ1 23 18 = F) (qp : μ 23 19 = P) (qp1 : μ1 23 19 = P) : mvK μ μ1 := ⟨by rw [qa1, qa]; exact h, qf1.trans qf.symm, qp1.trans qp.symm⟩
theorem smK.mk {μ μ1 : mM} {A F P : Int} (qa : μ 23 9 = A) (qa1 : μ1 23 9 = A) (qf : μ 23 18 = F) (qf1 : μ1 23 18 = F) (qp : μ 23 19 = P) (qp1 : μ1 23 19 = P) : smK μ μ1 := ⟨qa1.trans qa.symm, qf1.trans qf.symm, qp1.trans qp.symm⟩
theorem smK.refl {μ : mM} : smK μ μ := ⟨rfl, rfl, rfl⟩
theorem tbK.refl {μ : mM} : tbK μ μ := ⟨rfl, rfl, rfl, rfl⟩
theorem cT.is {μ : mM} {A T : Int} (qa : μ 23 9 = A) (qt : μ 24 A.toNat = T) : cT μ = T := by unfold cT; rw [qa]; exact qt
theorem cV.is {μ : mM} {A T : Int} (qa : μ 23 9 = A) (qt : μ 25 A.toNat = T) : cV μ = T := by unfold cV; rw [qa]; exact qt
def stK (μ μ1 : mM) : Prop := μ 23 9 < μ 23 8 → mvK μ μ1
def tkK (μ μ1 : mM) (k z : Int) : Prop := (z = 1 ∧ cT μ = k ∧ stK μ μ1) ∨ (z = 0 ∧ ¬ cT μ = k ∧ smK μ μ1)
def exK (μ μ1 : mM) (k : Int) : Prop := (cT μ = k ∧ stK μ μ1) ∨ (¬ cT μ = k ∧ flK μ μ1 2)
def nbK (μ μ1 : mM) (a b z : Int) : Prop := (¬ cT μ = -2 ∧ flK μ μ1 2) ∨ (cT μ = -2 ∧ (cV μ < a ∨ b < cV μ) ∧ flK μ μ1 3) ∨ (cT μ = -2 ∧ (a ≤ cV μ ∧ cV μ ≤ b) ∧ z = cV μ ∧ stK μ μ1)
def onK (μ μ1 : mM) (a b z : Int) : Prop := ((cT μ < a ∨ b < cT μ) ∧ flK μ μ1 2) ∨ ((a ≤ cT μ ∧ cT μ ≤ b) ∧ z = cT μ ∧ stK μ μ1)
def reK (μ μ1 : mM) : Prop := ((cT μ = 1060 ∨ cT μ = 1061 ∨ cT μ = 1062) ∧ stK μ μ1) ∨ (¬ (cT μ = 1060 ∨ cT μ = 1061 ∨ cT μ = 1062) ∧ flK μ μ1 2)
theorem exK.of {μ μ' μ1 : mM} {k z : Int} (h : tkK μ μ' k z) (hz : (z = 1 ∧ μ1 = μ') ∨ (z = 0 ∧ flK μ' μ1 2)) (tb : tbK μ μ') : exK μ μ1 k := by
  rcases h with ⟨a, b, d⟩ | ⟨a, b, d⟩
  · rcases hz with ⟨_, e⟩ | ⟨e, _⟩
    · subst e; exact Or.inl ⟨b, d⟩
    · omega
  · rcases hz with ⟨e, _⟩ | ⟨_, e⟩
    · omega
    · refine Or.inr ⟨b, ?_⟩
      obtain ⟨t1, t2, t3, t4⟩ := tb
      obtain ⟨s1, s2, s3⟩ := d
      have eT : cT μ' = cT μ := by unfold cT; rw [t1, s1]
      have eP : cP μ' = cP μ := by unfold cP; rw [t3, s1]
      unfold flK at e ⊢
      rw [t4, s2, s3, eT, eP] at e
      exact e
section Rd2
variable {wr : Int → Int → Int → Prop} {mk : Int → Int} {B : Int → Int} {c : Int}
/-- a token in hand that is not the end: there is one behind it -/
theorem CSt.lt {μ : mM} {e : Int → Cfg} (h : CSt wr mk B c μ e) (ht : ¬ cT μ = -1) : μ 23 9 < μ 23 8 := by
  rcases h with ⟨_, p, h2, _⟩ | ⟨_, h2, h3, _⟩
  · exact (h2.tok ht).1
  · refine absurd ?_ ht
    unfold cT
    rw [h2]; exact h3
theorem CSt.mvs {μ μ1 : mM} {e e' : Int → Cfg} (h : CSt wr mk B c μ e) (tb : tbK μ μ1) (s : stK μ μ1) (ht : ¬ cT μ = -1) (hs : ∀ p, ¬ (e p).1 = -1 ∧ (e p).2.1 = p) (st : ∀ p q, nxC mk c (e p) (cT μ) (cV μ) (cP μ) q = e' q) : CSt wr mk B c μ1 e' := h.move tb (s (h.lt ht)) ht hs st
theorem CSt.num {μ μ1 : mM} {s s' r m a b z : Int} (h : CSt wr mk B c μ (fun p => (s, p, r, m, a, b))) (hss : (s = 2 ∧ s' = 5) ∨ (s = 7 ∧ s' = 8)) (hend : μ 24 (μ 23 8).toNat = -1) (tb : tbK μ μ1) (n : nbK μ μ1 a b z) : CSt wr mk B c μ1 (fun p => (s', p, r, m, 0, 0)) := by
  have nn : ∀ p t v f q, nxC mk c (s, p, r, m, a, b) t v f q = nNum s' r m a b t v f q := by
    intro p t v f q
    rcases hss with ⟨e1, e2⟩ | ⟨e1, e2⟩ <;> subst e1 <;> subst e2 <;> rfl
  have ns : ∀ p : Int, ¬ ((s, p, r, m, a, b) : Cfg).1 = -1 ∧ ((s, p, r, m, a, b) : Cfg).2.1 = p := by
    intro p
    refine ⟨fun g => ?_, rfl⟩
    have g' : s = -1 := g
    omega
  rcases n with ⟨n1, n2⟩ | ⟨n1, n2, n3⟩ | ⟨n1, n2, n3, n4⟩
  · refine h.fail hend tb n2 (by decide) ns (fun p v q _ => ?_)
    rw [nn]
    unfold nNum
    rw [if_pos n1]
  · refine h.fail hend tb n3 (by decide) ns (fun p v q hv => ?_)
    rw [nn]
    have ev := hv (by rw [n1]; decide)
    unfold nNum
    rw [if_neg (by rw [n1]; decide), if_pos (by rw [ev]; exact n2)]
  · refine h.mvs tb n4 (by rw [n1]; decide) ns (fun p q => ?_)
    rw [nn]
    unfold nNum
    rw [if_neg (by rw [n1]; decide), if_neg (by omega)]
theorem CSt.one {μ μ1 : mM} {r m a b z : Int} (h : CSt wr mk B c μ (fun p => (3, p, r, m, a, b))) (ha : 0 ≤ a) (hend : μ 24 (μ 23 8).toNat = -1) (tb : tbK μ μ1) (n : onK μ μ1 a b z) : CSt wr mk B c μ1 (fun p => (5, p, r, m, 0, 0)) := by
  have nn : ∀ p t v f q, nxC mk c (3, p, r, m, a, b) t v f q = n3 r m a b t f q := fun _ _ _ _ _ => rfl
  have ns : ∀ p : Int, ¬ ((3, p, r, m, a, b) : Cfg).1 = -1 ∧ ((3, p, r, m, a, b) : Cfg).2.1 = p := fun p => ⟨fun g => absurd (show (3 : Int) = -1 from g) (by decide), rfl⟩
  rcases n with ⟨n1, n2⟩ | ⟨n1, n2, n3'⟩
  · refine h.fail hend tb n2 (by decide) ns (fun p v q _ => ?_)
    rw [nn]
    unfold n3
    rw [if_pos n1]
  · refine h.mvs tb n3' (by omega) ns (fun p q => ?_)
    rw [nn]
    unfold n3
    rw [if_neg (by omega)]
theorem CSt.rel {μ μ1 : mM} {r m a b : Int} (h : CSt wr mk B c μ (fun p => (4, p, r, m, a, b))) (hend : μ 24 (μ 23 8).toNat = -1) (tb : tbK μ μ1) (n : reK μ μ1) : CSt wr mk B c μ1 (fun p => (2, p, r, m, 0, a)) := by
  have nn : ∀ p t v f q, nxC mk c (4, p, r, m, a, b) t v f q = n4 r m a t f q := fun _ _ _ _ _ => rfl
  have ns : ∀ p : Int, ¬ ((4, p, r, m, a, b) : Cfg).1 = -1 ∧ ((4, p, r, m, a, b) : Cfg).2.1 = p := fun p => ⟨fun g => absurd (show (4 : Int) = -1 from g) (by decide), rfl⟩
  rcases n with ⟨n1, n2⟩ | ⟨n1, n2⟩
  · refine h.mvs tb n2 (by omega) ns (fun p q => ?_)
    rw [nn]
    unfold n4
    rw [if_pos n1]
  · refine h.fail hend tb n2 (by decide) ns (fun p v q _ => ?_)
    rw [nn]
    unfold n4
    rw [if_neg n1]
/-- a sign or word that must be there: kk its token -/
theorem CSt.exp {μ μ1 : mM} {e e' : Int → Cfg} {kk : Int} (h : CSt wr mk B c μ e) (hend : μ 24 (μ 23 8).toNat = -1) (tb : tbK μ μ1) (n : exK μ μ1 kk) (h0 : ¬ kk = -1) (hs : ∀ p, ¬ (e p).1 = -1 ∧ (e p).2.1 = p) (yes : ∀ p v f q, nxC mk c (e p) kk v f q = e' q) (no : ∀ p t v f q, ¬ t = kk → t = cT μ → nxC mk c (e p) t v f q = faC 2 t f) : CSt wr mk B c μ1 e' := by
  rcases n with ⟨n1, n2⟩ | ⟨n1, n2⟩
  · exact h.mvs tb n2 (by rw [n1]; exact h0) hs (fun p q => by rw [n1]; exact yes p _ _ q)
  · exact h.fail hend tb n2 (by decide) hs (fun p v q _ => no p _ _ _ q n1 rfl)
end Rd2
end
section
/-! The words; where the class's reader stands, by memory alone. -/
def WL : List (List Int) := [[105, 102], [97, 110, 100], [116, 104, 101, 110], [110, 111, 116], [105, 110], [116, 111], [119, 97, 121], [97, 110, 121], [109, 97, 114, 107], [102, 114, 111, 109], [116, 105, 101], [108, 101, 110, 103, 116, 104], [119, 105, 115, 104], [99, 111, 115, 116], [111, 114, 105, 103, 105, 110], [114, 105, 103, 104, 116], [99, 117, 115, 116, 111, 109, 101, 114], [112, 114, 111, 118, 105, 100, 101, 114], [101, 113, 117, 97, 108], [107, 105, 110], [118, 97, 108, 105, 100], [117, 110, 107, 110, 111, 119, 110], [98, 97, 100], [108, 101, 116], [98, 97, 114], [97, 100, 100], [100, 114, 111, 112], [109, 111, 114, 101], [99, 97, 108, 108]]
def lenW (w : Nat) : Nat := (WL.getD w []).length
def chW (w j : Nat) : Int := (WL.getD w []).getD j 0
def wrM (B : Int → Int) (f n : Int) (w : Nat) : Prop := ((lenW w : Nat) : Int) = n ∧ ∀ j : Nat, j < lenW w → B (f + (j : Int)) = chW w j
def wrW (B : Int → Int) (f n t : Int) : Prop := (∃ w : Nat, w < 29 ∧ t = (w : Int) ∧ wrM B f n w) ∨ (t = -3 ∧ ∀ w : Nat, w < 29 → ¬ wrM B f n w)
theorem W_fin : ∀ w w' : Fin 29, w = w' ∨ lenW w.val ≠ lenW w'.val ∨ ∃ j : Fin 8, j.val < lenW w.val ∧ chW w.val j.val ≠ chW w'.val j.val := by decide +kernel
theorem wrM.uniq {B : Int → Int} {f n : Int} {w w' : Nat} (hw : w < 29) (hw' : w' < 29) (h : wrM B f n w) (g : wrM B f n w') : w = w' := by
  rcases W_fin ⟨w, hw⟩ ⟨w', hw'⟩ with e | e | ⟨j, e1, e2⟩
  · exact congrArg Fin.val e
  · refine absurd ?_ e
    have h1 := h.1
    have g1 := g.1
    show lenW w = lenW w'
    omega
  · refine absurd ?_ e2
    have e1' : j.val < lenW w := e1
    have h1 := h.1
    have g1 := g.1
    exact ((h.2 j.val e1').symm.trans (g.2 j.val (by omega)) : chW w j.val = chW w' j.val)
theorem wrW.uniq {B : Int → Int} (f n x y : Int) (h : wrW B f n x) (g : wrW B f n y) : x = y := by
  rcases h with ⟨w, h1, h2, h3⟩ | ⟨h1, h2⟩ <;> rcases g with ⟨w', g1, g2, g3⟩ | ⟨g1, g2⟩
  · have e := h3.uniq h1 g1 g3
    rw [h2, g2, e]
  · exact absurd h3 (g2 w h1)
  · exact absurd g3 (h2 w' g1)
  · rw [h1, g1]
/-- where the class's reader stands -/
def CSc (μ : mM) (e : Int → Cfg) : Prop := CSt (wrW (bC 1 μ)) mskF (bC 1 μ) (μ 23 14) μ e
def tbC (μ μ1 : mM) : Prop := tbK μ μ1 ∧ μ1 1 = μ 1 ∧ μ1 0 10 = μ 0 10 ∧ μ1 23 14 = μ 23 14
theorem CSc.in {μ μ1 : mM} {e : Int → Cfg} (tb : tbC μ μ1) (h : CSt (wrW (bC 1 μ)) mskF (bC 1 μ) (μ 23 14) μ1 e) : CSc μ1 e := by
  obtain ⟨_, t1, t2, t3⟩ := tb
  unfold CSc
  rw [bC.of t1 t2, t3]; exact h
theorem CSc.same {μ μ1 : mM} {e : Int → Cfg} (h : CSc μ e) (tb : tbC μ μ1) (s : smK μ μ1) : CSc μ1 e := CSc.in tb (CSt.same h tb.1 s)
theorem CSc.mvs {μ μ1 : mM} {e e' : Int → Cfg} (h : CSc μ e) (tb : tbC μ μ1) (s : stK μ μ1) (ht : ¬ cT μ = -1) (hs : ∀ p, ¬ (e p).1 = -1 ∧ (e p).2.1 = p) (st : ∀ p q, nxC mskF (μ 23 14) (e p) (cT μ) (cV μ) (cP μ) q = e' q) : CSc μ1 e' := CSc.in tb (CSt.mvs h tb.1 s ht hs st)
theorem CSc.stay {μ μ1 : mM} {e e' : Int → Cfg} (h : CSc μ e) (tb : tbC μ μ1) (s : smK μ μ1) (hs : ∀ p, ¬ (e p).1 = -1 ∧ (e p).2.1 = p) (st : ∀ p v q, nxC mskF (μ 23 14) (e p) (cT μ) v (cP μ) q = e' p) : CSc μ1 e' := CSc.in tb (CSt.stay h tb.1 s hs st)
theorem CSc.fail {μ μ1 : mM} {e e' : Int → Cfg} {k : Int} (h : CSc μ e) (hend : μ 24 (μ 23 8).toNat = -1) (tb : tbC μ μ1) (s : flK μ μ1 k) (hk : ¬ k = 0) (hs : ∀ p, ¬ (e p).1 = -1 ∧ (e p).2.1 = p) (st : ∀ p v q, (¬ cT μ = -1 → v = cV μ) → nxC mskF (μ 23 14) (e p) (cT μ) v (cP μ) q = faC k (cT μ) (cP μ)) : CSc μ1 e' := CSc.in tb (CSt.fail h hend tb.1 s hk hs st)
theorem CSc.num {μ μ1 : mM} {s s' r m a b z : Int} (h : CSc μ (fun p => (s, p, r, m, a, b))) (hss : (s = 2 ∧ s' = 5) ∨ (s = 7 ∧ s' = 8)) (hend : μ 24 (μ 23 8).toNat = -1) (tb : tbC μ μ1) (n : nbK μ μ1 a b z) : CSc μ1 (fun p => (s', p, r, m, 0, 0)) := CSc.in tb (CSt.num h hss hend tb.1 n)
theorem CSc.one {μ μ1 : mM} {r m a b z : Int} (h : CSc μ (fun p => (3, p, r, m, a, b))) (ha : 0 ≤ a) (hend : μ 24 (μ 23 8).toNat = -1) (tb : tbC μ μ1) (n : onK μ μ1 a b z) : CSc μ1 (fun p => (5, p, r, m, 0, 0)) := CSc.in tb (CSt.one h ha hend tb.1 n)
theorem CSc.rel {μ μ1 : mM} {r m a b : Int} (h : CSc μ (fun p => (4, p, r, m, a, b))) (hend : μ 24 (μ 23 8).toNat = -1) (tb : tbC μ μ1) (n : reK μ μ1) : CSc μ1 (fun p => (2, p, r, m, 0, a)) := CSc.in tb (CSt.rel h hend tb.1 n)
theorem CSc.exp {μ μ1 : mM} {e e' : Int → Cfg} {kk : Int} (h : CSc μ e) (hend : μ 24 (μ 23 8).toNat = -1) (tb : tbC μ μ1) (n : exK μ μ1 kk) (h0 : ¬ kk = -1) (hs : ∀ p, ¬ (e p).1 = -1 ∧ (e p).2.1 = p) (yes : ∀ p v f q, nxC mskF (μ 23 14) (e p) kk v f q = e' q) (no : ∀ p t v f q, ¬ t = kk → t = cT μ → nxC mskF (μ 23 14) (e p) t v f q = faC 2 t f) : CSc μ1 e' := CSc.in tb (CSt.exp h hend tb.1 n h0 hs yes no)
theorem hendOf {μ μ1 : mM} (h : μ 24 (μ 23 8).toNat = -1) (tb : tbC μ μ1) : μ1 24 (μ1 23 8).toNat = -1 := by rw [tb.1.1, tb.1.2.2.2]; exact h
abbrev tbL : List Nat := [24999, 25999, 26999, 23008, 1999, 10, 23014]
theorem tbC.fr {lf : List Nat} {w : mW} {μ μ1 : mM} (hw : mWF w) (F : mF lf w μ μ1) (hl : (tbL.all fun r => !lf.elem r) = true) : tbC μ μ1 := ⟨⟨rowB (A_24 hw) F (qA_no hl rfl) rfl, rowB (A_25 hw) F (qA_no hl rfl) rfl, rowB (A_26 hw) F (qA_no hl rfl) rfl, F.f (A_23 hw) (qA_no hl rfl) rfl⟩, rowB (A_1 hw) F (qA_no hl rfl) rfl, F.f (A_0 hw) (qA_no hl rfl) rfl, F.f (A_23 hw) (qA_no hl rfl) rfl⟩
theorem smK.fr {lf : List Nat} {w : mW} {μ μ1 : mM} (hw : mWF w) (F : mF lf w μ μ1) (hl : (([23009, 23018, 23019] : List Nat).all fun r => !lf.elem r) = true) : smK μ μ1 := ⟨F.f (A_23 hw) (qA_no hl rfl) rfl, F.f (A_23 hw) (qA_no hl rfl) rfl, F.f (A_23 hw) (qA_no hl rfl) rfl⟩
theorem tkK.y {μ μ1 : mM} {k z : Int} (h : tkK μ μ1 k z) (hz : z = 1) : cT μ = k ∧ stK μ μ1 := by
  rcases h with ⟨_, a, b⟩ | ⟨a, _, _⟩
  · exact ⟨a, b⟩
  · omega
theorem tkK.n {μ μ1 : mM} {k z : Int} (h : tkK μ μ1 k z) (hz : z = 0) : ¬ cT μ = k ∧ smK μ μ1 := by
  rcases h with ⟨a, _, _⟩ | ⟨_, a, b⟩
  · omega
  · exact ⟨a, b⟩
theorem tkK.nt {μ μ1 : mM} {k z : Int} (h : tkK μ μ1 k z) (hz : z = 0) (tb : tbC μ μ1) : ¬ cT μ1 = k := by
  have g := h.n hz
  have e : cT μ1 = cT μ := by unfold cT; rw [tb.1.1, g.2.1]
  rw [e]; exact g.1
end
section
/-! The class's reader: what each call is to the machine. -/
theorem nsE {s r m x y : Int} (h : ¬ s = -1) : ∀ p : Int, ¬ ((s, p, r, m, x, y) : Cfg).1 = -1 ∧ ((s, p, r, m, x, y) : Cfg).2.1 = p := fun _ => ⟨h, rfl⟩
theorem CSc.bad {μ : mM} {e e' : Int → Cfg} (h : CSc μ e) (hf : ¬ μ 23 18 = 0) : CSc μ e' := by
  rcases h with ⟨h1, _⟩ | h1
  · exact absurd h1 hf
  · exact Or.inr h1
theorem CSc.cg {μ : mM} {s r m x y r' m' x' y' : Int} (h : CSc μ (fun p => (s, p, r, m, x, y))) (er : r = r') (em : m = m') (ex : x = x') (ey : y = y') : CSc μ (fun p => (s, p, r', m', x', y')) := by
  subst er; subst em; subst ex; subst ey; exact h
/-- a number of an address -/
theorem CSc.h9 {μ μ1 : mM} {r m x y z : Int} (h : CSc μ (fun p => (9, p, r, m, x, y))) (hend : μ 24 (μ 23 8).toNat = -1) (tb : tbC μ μ1) (n : nbK μ μ1 0 255 z) : CSc μ1 (fun p => if x = 3 then (11, p, r, m, bOr (bShl y 8) z, 0) else (10, p, r, m, x, bOr (bShl y 8) z)) := by
  have nn : ∀ p t v f q, nxC mskF (μ 23 14) (9, p, r, m, x, y) t v f q = n9 r m x y t v f q := fun _ _ _ _ _ => rfl
  rcases n with ⟨n1, n2⟩ | ⟨n1, n2, n3⟩ | ⟨n1, n2, n3, n4⟩
  · refine h.fail hend tb n2 (by decide) (nsE (by decide)) (fun p v q _ => ?_)
    rw [nn]
    unfold n9
    rw [if_pos n1]
  · refine h.fail hend tb n3 (by decide) (nsE (by decide)) (fun p v q hv => ?_)
    have ev := hv (by rw [n1]; decide)
    rw [nn]
    unfold n9
    rw [if_neg (by rw [n1]; decide), if_pos (by rw [ev]; exact n2)]
  · refine h.mvs tb n4 (by rw [n1]; decide) (nsE (by decide)) (fun p q => ?_)
    rw [nn]
    unfold n9
    rw [if_neg (by rw [n1]; decide), if_neg (by omega), n3]
theorem CSc.h9a {μ μ1 : mM} {r m z : Int} (h : CSc μ (fun p => (9, p, r, m, 0, 0))) (hend : μ 24 (μ 23 8).toNat = -1) (tb : tbC μ μ1) (n : nbK μ μ1 0 255 z) : CSc μ1 (fun p => (10, p, r, m, 0, z)) := by
  have nn : ∀ p t v f q, nxC mskF (μ 23 14) (9, p, r, m, 0, 0) t v f q = n9 r m 0 0 t v f q := fun _ _ _ _ _ => rfl
  rcases n with ⟨n1, n2⟩ | ⟨n1, n2, n3⟩ | ⟨n1, n2, n3, n4⟩
  · refine h.fail hend tb n2 (by decide) (nsE (by decide)) (fun p v q _ => ?_)
    rw [nn]
    unfold n9
    rw [if_pos n1]
  · refine h.fail hend tb n3 (by decide) (nsE (by decide)) (fun p v q hv => ?_)
    have ev := hv (by rw [n1]; decide)
    rw [nn]
    unfold n9
    rw [if_neg (by rw [n1]; decide), if_pos (by rw [ev]; exact n2)]
  · have g := h.h9 hend tb (z := z) (Or.inr (Or.inr ⟨n1, n2, n3, n4⟩))
    rw [or0 (by rw [n3]; exact n2)] at g
    exact g
theorem CSc.h9b {μ μ1 : mM} {r m x y z : Int} (h : CSc μ (fun p => (9, p, r, m, x, y))) (hend : μ 24 (μ 23 8).toNat = -1) (tb : tbC μ μ1) (n : nbK μ μ1 0 255 z) {a b : Int} (e1 : bShl y 8 = a) (e2 : bOr a z = b) : CSc μ1 (fun p => if x = 3 then (11, p, r, m, b, 0) else (10, p, r, m, x, b)) := by
  have g := h.h9 hend tb n
  rw [e1, e2] at g
  exact g
theorem CSc.h10 {μ : mM} {r m x y : Int} (h : CSc μ (fun p => if x = 3 then (11, p, r, m, y, 0) else (10, p, r, m, x, y))) (hx : ¬ x = 3) : CSc μ (fun p => (10, p, r, m, x, y)) := by
  have e : (fun p : Int => if x = 3 then ((11, p, r, m, y, 0) : Cfg) else (10, p, r, m, x, y)) = fun p => (10, p, r, m, x, y) := funext fun p => if_neg hx
  rw [e] at h; exact h
theorem CSc.h11 {μ : mM} {r m x y : Int} (h : CSc μ (fun p => if x = 3 then (11, p, r, m, y, 0) else (10, p, r, m, x, y))) (hx : x = 3) : CSc μ (fun p => (11, p, r, m, y, 0)) := by
  have e : (fun p : Int => if x = 3 then ((11, p, r, m, y, 0) : Cfg) else (10, p, r, m, x, y)) = fun p => (11, p, r, m, y, 0) := funext fun p => if_pos hx
  rw [e] at h; exact h
theorem CSc.in10 {μ : mM} {r m x y : Int} (h : CSc μ (fun p => (10, p, r, m, x, y))) (hx : ¬ x = 3) : CSc μ (fun p => if x = 3 then (11, p, r, m, y, 0) else (10, p, r, m, x, y)) := by
  have e : (fun p : Int => if x = 3 then ((11, p, r, m, y, 0) : Cfg) else (10, p, r, m, x, y)) = fun p => (10, p, r, m, x, y) := funext fun p => if_neg hx
  rw [e]; exact h
theorem CSc.dot {μ μ1 : mM} {r m x y : Int} (h : CSc μ (fun p => (10, p, r, m, x, y))) (hend : μ 24 (μ 23 8).toNat = -1) (tb : tbC μ μ1) (n : exK μ μ1 1046) : CSc μ1 (fun p => (9, p, r, m, x + 1, y)) := by
  refine h.exp hend tb n (by decide) (nsE (by decide)) (fun p v f q => rfl) (fun p t v f q ht _ => ?_)
  show n10 r m x y t f q = _
  unfold n10
  rw [if_neg ht]
theorem CSc.slash {μ μ1 : mM} {r m x y : Int} (h : CSc μ (fun p => (11, p, r, m, x, y))) (hend : μ 24 (μ 23 8).toNat = -1) (tb : tbC μ μ1) (n : exK μ μ1 1047) : CSc μ1 (fun p => (12, p, r, m, x, 0)) := by
  refine h.exp hend tb n (by decide) (nsE (by decide)) (fun p v f q => rfl) (fun p t v f q ht _ => ?_)
  show n11 r m x t f q = _
  unfold n11
  rw [if_neg ht]
theorem CSc.mkF {μ μ1 : mM} {e' : Int → Cfg} {r m x y : Int} (h : CSc μ (fun p => (12, p, r, m, x, y))) (hend : μ 24 (μ 23 8).toNat = -1) (tb : tbC μ μ1) (n : flK μ μ1 3) (ht : cT μ = -2) (hv : 0 ≤ cV μ ∧ cV μ ≤ 32) (hm : ¬ bAnd x (bXor (mskF (cV μ)) (-1)) = 0) : CSc μ1 e' := by
  refine h.fail hend tb n (by decide) (nsE (by decide)) (fun p v q g => ?_)
  have ev := g (by rw [ht]; decide)
  show n12 mskF r m x (cT μ) v (cP μ) q = _
  unfold n12
  rw [if_pos ⟨ht, by rw [ev]; exact hv.1, by rw [ev]; exact hv.2, by rw [ev]; exact hm⟩]
theorem CSc.len {μ μ1 : mM} {r m x y z : Int} (h : CSc μ (fun p => (12, p, r, m, x, y))) (hend : μ 24 (μ 23 8).toNat = -1) (tb : tbC μ μ1) (n : nbK μ μ1 0 32 z) (hm : cT μ = -2 → 0 ≤ cV μ ∧ cV μ ≤ 32 → bAnd x (bXor (mskF (cV μ)) (-1)) = 0) : CSc μ1 (fun p => (13, p, r, m, z, 0)) := by
  have nn : ∀ p t v f q, nxC mskF (μ 23 14) (12, p, r, m, x, y) t v f q = n12 mskF r m x t v f q := fun _ _ _ _ _ => rfl
  rcases n with ⟨n1, n2⟩ | ⟨n1, n2, n3⟩ | ⟨n1, n2, n3, n4⟩
  · refine h.fail hend tb n2 (by decide) (nsE (by decide)) (fun p v q _ => ?_)
    rw [nn]
    unfold n12
    rw [if_neg (fun g => n1 g.1), if_pos n1]
  · refine h.fail hend tb n3 (by decide) (nsE (by decide)) (fun p v q hv => ?_)
    have ev := hv (by rw [n1]; decide)
    rw [nn]
    unfold n12
    rw [if_neg (fun g => by have g2 := g.2.1; have g3 := g.2.2.1; rw [ev] at g2 g3; omega), if_neg (by rw [n1]; decide), if_pos (by rw [ev]; exact n2)]
  · refine h.mvs tb n4 (by rw [n1]; decide) (nsE (by decide)) (fun p q => ?_)
    rw [nn]
    unfold n12
    rw [if_neg (fun g => g.2.2.2 (hm n1 n2)), if_neg (by rw [n1]; decide), if_neg (by omega), n3]
theorem CSc.to {μ μ1 : mM} {r m x y : Int} (h : CSc μ (fun p => (13, p, r, m, x, y))) (tb : tbC μ μ1) (ht : cT μ = 5) (s : stK μ μ1) : CSc μ1 (fun p => (2, p, r, m, x, 32)) := by
  refine h.mvs tb s (by rw [ht]; decide) (nsE (by decide)) (fun p q => ?_)
  rw [ht]; rfl
theorem CSc.noto {μ μ1 : mM} {r m x y : Int} (h : CSc μ (fun p => (13, p, r, m, x, y))) (tb : tbC μ μ1) (ht : ¬ cT μ = 5) (s : smK μ μ1) : CSc μ1 (fun p => (5, p, r, m, 0, 0)) := by
  refine h.stay tb s (nsE (by decide)) (fun p v q => ?_)
  show n13 p r m x (cT μ) q = _
  unfold n13
  rw [if_neg ht]
theorem CSc.opn {μ μ1 : mM} {r m x y : Int} (h : CSc μ (fun p => (14, p, r, m, x, y))) (hend : μ 24 (μ 23 8).toNat = -1) (tb : tbC μ μ1) (n : exK μ μ1 1040) : CSc μ1 (fun p => (15, p, r, m, 1, 0)) := by
  refine h.exp hend tb n (by decide) (nsE (by decide)) (fun p v f q => rfl) (fun p t v f q ht _ => ?_)
  show n14 r m t f q = _
  unfold n14
  rw [if_neg ht]
/-- the token in hand begins no piece and is no bar -/
def ntP (μ : mM) : Prop := ¬ cT μ = -2 ∧ ¬ cT μ = 7 ∧ ¬ cT μ = 1040 ∧ ¬ cT μ = 1124
theorem n15.no {r m x t v f q : Int} (h : ¬ t = -2 ∧ ¬ t = 7 ∧ ¬ t = 1040 ∧ ¬ t = 1124) (ht : ¬ t = 1041) : n15 r m x t v f q = faC 2 t f := by
  unfold n15
  rw [if_neg (by omega), if_neg h.2.2.1, if_neg h.2.2.2, if_neg ht]
theorem CSc.cls {μ μ1 : mM} {r m y : Int} (h : CSc μ (fun p => (15, p, r, m, 1, y))) (hend : μ 24 (μ 23 8).toNat = -1) (nt : ntP μ) (tb : tbC μ μ1) (n : exK μ μ1 1041) : CSc μ1 (fun p => (5, p, r, m, 0, 0)) := by
  refine h.exp hend tb n (by decide) (nsE (by decide)) (fun p v f q => rfl) (fun p t v f q ht e => ?_)
  show n15 r m 1 t v f q = _
  exact n15.no (by rw [e]; exact nt) ht
theorem CSc.gF {μ μ1 : mM} {e' : Int → Cfg} {r m x y : Int} (h : CSc μ (fun p => (15, p, r, m, x, y))) (hend : μ 24 (μ 23 8).toNat = -1) (tb : tbC μ μ1) (n : flK μ μ1 4) (ht : cT μ = 1040) (hx : 6 ≤ x) : CSc μ1 e' := by
  refine h.fail hend tb n (by decide) (nsE (by decide)) (fun p v q _ => ?_)
  show n15 r m x (cT μ) v (cP μ) q = _
  unfold n15
  rw [if_neg (by omega), if_pos ht, if_pos hx]
theorem CSc.gO {μ μ1 : mM} {r m x y : Int} (h : CSc μ (fun p => (15, p, r, m, x, y))) (tb : tbC μ μ1) (s : stK μ μ1) (ht : cT μ = 1040) (hx : x < 6) {x' : Int} (e : x + 1 = x') : CSc μ1 (fun p => (15, p, r, m, x', 0)) := by
  subst e
  refine h.mvs tb s (by rw [ht]; decide) (nsE (by decide)) (fun p q => ?_)
  show n15 r m x (cT μ) (cV μ) (cP μ) q = _
  unfold n15
  rw [if_neg (by omega), if_pos ht, if_neg (by omega)]
theorem CSc.gE {μ μ1 : mM} {r m x y : Int} (h : CSc μ (fun p => (15, p, r, m, x, y))) (tb : tbC μ μ1) (s : stK μ μ1) (ht : cT μ = 1041) (hx : 2 ≤ x) {x' : Int} (e : x - 1 = x') : CSc μ1 (fun p => (16, p, r, m, x', 0)) := by
  subst e
  refine h.mvs tb s (by rw [ht]; decide) (nsE (by decide)) (fun p q => ?_)
  show n15 r m x (cT μ) (cV μ) (cP μ) q = _
  unfold n15
  rw [if_neg (by omega), if_neg (by omega), if_neg (by omega), if_pos ht, if_neg (by omega)]
theorem CSc.gB {μ μ1 : mM} {e' : Int → Cfg} {r m x y : Int} (h : CSc μ (fun p => (15, p, r, m, x, y))) (hend : μ 24 (μ 23 8).toNat = -1) (tb : tbC μ μ1) (n : flK μ μ1 2) (nt : ntP μ) (ht : ¬ cT μ = 1041) : CSc μ1 e' := by
  refine h.fail hend tb n (by decide) (nsE (by decide)) (fun p v q _ => ?_)
  show n15 r m x (cT μ) v (cP μ) q = _
  exact n15.no nt ht
theorem CSc.p3 {μ μ1 : mM} {e' : Int → Cfg} {r m x y : Int} (h : CSc μ (fun p => (15, p, r, m, x, y))) (hend : μ 24 (μ 23 8).toNat = -1) (tb : tbC μ μ1) (n : flK μ μ1 3) (ht : cT μ = -2) (hv : 1000000 < cV μ) : CSc μ1 e' := by
  refine h.fail hend tb n (by decide) (nsE (by decide)) (fun p v q g => ?_)
  have ev := g (by rw [ht]; decide)
  show n15 r m x (cT μ) v (cP μ) q = _
  unfold n15
  rw [if_pos (Or.inl ht), if_pos ⟨ht, by rw [ev]; exact hv⟩]
theorem CSc.p4 {μ μ1 : mM} {e' : Int → Cfg} {r m x y : Int} (h : CSc μ (fun p => (15, p, r, m, x, y))) (hend : μ 24 (μ 23 8).toNat = -1) (tb : tbC μ μ1) (n : flK μ μ1 4) (ht : (cT μ = -2 ∧ cV μ ≤ 1000000) ∨ cT μ = 7) (hm : 40 ≤ m) : CSc μ1 e' := by
  refine h.fail hend tb n (by decide) (nsE (by decide)) (fun p v q g => ?_)
  have hk : ¬ (cT μ = -2 ∧ 1000000 < v) := fun k => by
    have ev := g (by omega)
    omega
  show n15 r m x (cT μ) v (cP μ) q = _
  unfold n15
  rw [if_pos (by omega), if_neg hk, if_pos hm]
theorem CSc.pl {μ μ1 : mM} {r m x y : Int} (h : CSc μ (fun p => (15, p, r, m, x, y))) (tb : tbC μ μ1) (s : stK μ μ1) (ht : (cT μ = -2 ∧ cV μ ≤ 1000000) ∨ cT μ = 7) (hm : m < 40) {m' : Int} (em : m + 1 = m') : CSc μ1 (fun p => (16, p, r, m', x, 0)) := by
  subst em
  refine h.mvs tb s (by omega) (nsE (by decide)) (fun p q => ?_)
  show n15 r m x (cT μ) (cV μ) (cP μ) q = _
  unfold n15
  rw [if_pos (by omega), if_neg (by omega), if_neg (by omega)]
theorem CSc.rep {μ μ1 : mM} {r m x y : Int} (h : CSc μ (fun p => (16, p, r, m, x, y))) (tb : tbC μ μ1) (s : stK μ μ1) (ht : cT μ = 1042 ∨ cT μ = 1043 ∨ cT μ = 1063) : CSc μ1 (fun p => (15, p, r, m, x, 0)) := by
  refine h.mvs tb s (by omega) (nsE (by decide)) (fun p q => ?_)
  show n16 p r m x (cT μ) q = _
  unfold n16
  rw [if_pos ht]
theorem CSc.norep {μ μ1 : mM} {r m x y : Int} (h : CSc μ (fun p => (16, p, r, m, x, y))) (tb : tbC μ μ1) (s : smK μ μ1) (ht : ¬ (cT μ = 1042 ∨ cT μ = 1043 ∨ cT μ = 1063)) : CSc μ1 (fun p => (15, p, r, m, x, 0)) := by
  refine h.stay tb s (nsE (by decide)) (fun p v q => ?_)
  show n16 p r m x (cT μ) q = _
  unfold n16
  rw [if_neg ht]
theorem CSc.bar {μ μ1 : mM} {r m x y : Int} (h : CSc μ (fun p => (15, p, r, m, x, y))) (tb : tbC μ μ1) (s : stK μ μ1) (ht : cT μ = 1124) : CSc μ1 (fun p => (15, p, r, m, x, 0)) := by
  refine h.mvs tb s (by rw [ht]; decide) (nsE (by decide)) (fun p q => ?_)
  rw [ht]; rfl
/-- a row begins -/
theorem CSc.r2 {μ μ1 : mM} {e' : Int → Cfg} {r m x y : Int} (h : CSc μ (fun p => (0, p, r, m, x, y))) (hend : μ 24 (μ 23 8).toNat = -1) (tb : tbC μ μ1) (n : flK μ μ1 2) (ht : ¬ cT μ = -1 ∧ ¬ (cT μ = 0 ∨ isAc (cT μ))) : CSc μ1 e' := by
  refine h.fail hend tb n (by decide) (nsE (by decide)) (fun p v q _ => ?_)
  show n0 p r m (cT μ) (cP μ) q = _
  unfold n0
  rw [if_neg ht.1, if_pos ht.2]
theorem CSc.r4 {μ μ1 : mM} {e' : Int → Cfg} {r m x y : Int} (h : CSc μ (fun p => (0, p, r, m, x, y))) (hend : μ 24 (μ 23 8).toNat = -1) (tb : tbC μ μ1) (n : flK μ μ1 4) (ht : ¬ cT μ = -1 ∧ (cT μ = 0 ∨ isAc (cT μ))) (hr : 30 ≤ r) : CSc μ1 e' := by
  refine h.fail hend tb n (by decide) (nsE (by decide)) (fun p v q _ => ?_)
  show n0 p r m (cT μ) (cP μ) q = _
  unfold n0
  rw [if_neg ht.1, if_neg (fun g => g ht.2), if_pos hr]
theorem CSc.rI {μ μ1 : mM} {r m x y : Int} (h : CSc μ (fun p => (0, p, r, m, x, y))) (tb : tbC μ μ1) (s : stK μ μ1) (ht : cT μ = 0) (hr : r < 30) {r' : Int} (e : r + 1 = r') : CSc μ1 (fun p => (1, p, r', m, 0, 0)) := by
  subst e
  refine h.mvs tb s (by rw [ht]; decide) (nsE (by decide)) (fun p q => ?_)
  show n0 p r m (cT μ) (cP μ) q = _
  unfold n0
  rw [if_neg (by rw [ht]; decide), if_neg (fun g => g (Or.inl ht)), if_neg (by omega), if_pos ht]
theorem CSc.rA {μ μ1 : mM} {r m x y : Int} (h : CSc μ (fun p => (0, p, r, m, x, y))) (tb : tbC μ μ1) (s : smK μ μ1) (ht : ¬ cT μ = 0 ∧ isAc (cT μ)) (hr : r < 30) {r' : Int} (e : r + 1 = r') : CSc μ1 (fun p => (6, p, r', m, 0, 0)) := by
  subst e
  refine h.stay tb s (nsE (by decide)) (fun p v q => ?_)
  show n0 p r m (cT μ) (cP μ) q = _
  unfold n0
  rw [if_neg (by have := ht.2; unfold isAc at this; omega), if_neg (fun g => g (Or.inr ht.2)), if_neg (by omega), if_neg ht.1]
theorem CSc.and1 {μ μ1 : mM} {r m x y : Int} (h : CSc μ (fun p => (5, p, r, m, x, y))) (tb : tbC μ μ1) (s : stK μ μ1) (ht : cT μ = 1) : CSc μ1 (fun p => (1, p, r, m, 0, 0)) := by
  refine h.mvs tb s (by rw [ht]; decide) (nsE (by decide)) (fun p q => ?_)
  rw [ht]; rfl
theorem CSc.then1 {μ μ1 : mM} {r m x y : Int} (h : CSc μ (fun p => (5, p, r, m, x, y))) (hend : μ 24 (μ 23 8).toNat = -1) (nt : ¬ cT μ = 1) (tb : tbC μ μ1) (n : exK μ μ1 2) : CSc μ1 (fun p => (6, p, r, m, 0, 0)) := by
  refine h.exp hend tb n (by decide) (nsE (by decide)) (fun p v f q => rfl) (fun p t v f q ht e => ?_)
  show n5 r m t f q = _
  unfold n5
  rw [if_neg (by rw [e]; exact nt), if_neg ht]
theorem CSc.com {μ μ1 : mM} {r m x y : Int} (h : CSc μ (fun p => (8, p, r, m, x, y))) (tb : tbC μ μ1) (s : stK μ μ1) (ht : cT μ = 1044) : CSc μ1 (fun p => (6, p, r, m, 0, 0)) := by
  refine h.mvs tb s (by rw [ht]; decide) (nsE (by decide)) (fun p q => ?_)
  rw [ht]; rfl
theorem CSc.semi {μ μ1 : mM} {r m x y : Int} (h : CSc μ (fun p => (8, p, r, m, x, y))) (hend : μ 24 (μ 23 8).toNat = -1) (nt : ¬ cT μ = 1044) (tb : tbC μ μ1) (n : exK μ μ1 1059) : CSc μ1 (fun p => (0, p, r, m, 0, 0)) := by
  refine h.exp hend tb n (by decide) (nsE (by decide)) (fun p v f q => rfl) (fun p t v f q ht e => ?_)
  show n8 r m t f q = _
  unfold n8
  rw [if_neg (by rw [e]; exact nt), if_neg ht]
/-- behind a fault the token in hand is the end -/
theorem CSc.cTe {μ : mM} {e : Int → Cfg} (h : CSc μ e) (hf : ¬ μ 23 18 = 0) : cT μ = -1 := by
  rcases h with ⟨h1, _⟩ | ⟨_, h2, h3, _⟩
  · exact absurd h1 hf
  · unfold cT; rw [h2]; exact h3
theorem ntP.e {μ : mM} (h : cT μ = -1) : ntP μ := by unfold ntP; omega
theorem ntP.sm {μ μ1 : mM} (h : ¬ cT μ = -2 ∧ ¬ cT μ = 7 ∧ ¬ cT μ = 1040) (k : ¬ cT μ1 = 1124) (tb : tbC μ μ1) (s : smK μ μ1) : ntP μ1 := by
  have e : cT μ1 = cT μ := by unfold cT; rw [tb.1.1, s.1]
  rw [e] at k
  unfold ntP
  rw [e]
  exact ⟨h.1, h.2.1, h.2.2, k⟩
theorem ntP.fr {μ μ1 : mM} (h : ntP μ) (tb : tbC μ μ1) (s : smK μ μ1) : ntP μ1 := by
  have e : cT μ1 = cT μ := by unfold cT; rw [tb.1.1, s.1]
  unfold ntP at h ⊢
  rw [e]; exact h
theorem cT.sm {μ μ1 : mM} {k : Int} (h : ¬ cT μ = k) (tb : tbC μ μ1) (s : smK μ μ1) : ¬ cT μ1 = k := by
  have e : cT μ1 = cT μ := by unfold cT; rw [tb.1.1, s.1]
  rw [e]; exact h
theorem decN.nn {B : Int → Int} {p : Int} : ∀ n : Nat, (∀ i, p ≤ i → i < p + (n : Int) → isF (B i)) → 0 ≤ decN B p n
  | 0, _ => Int.le_refl 0
  | n + 1, h => by
    have h1 := decN.nn n (fun i a b => h i a (by omega))
    have h2 := h (p + (n : Int)) (by omega) (by omega)
    unfold isF at h2
    show 0 ≤ 10 * decN B p n + (B (p + (n : Int)) - 48)
    omega
theorem TokX.v0 {B : Int → Int} {p v f q : Int} (h : TokX (wrW B) B p (-2) v f q) : 0 ≤ v := by
  obtain ⟨_, h⟩ := h
  rcases h with ⟨_, h, _⟩ | ⟨_, _, h, _⟩ | ⟨_, h2, h⟩ | ⟨h1, h, _⟩
  · omega
  · rcases h with ⟨w, _, h, _⟩ | ⟨h, _⟩ <;> omega
  · rcases h with ⟨_, h, _⟩ | ⟨h1, _, h⟩
    · omega
    · rw [h]
      refine decN.nn _ (fun i a b => h2.2.1 i a ?_)
      have := h2.1
      omega
  · have := h1.1; omega
theorem CSc.v0 {μ : mM} {e : Int → Cfg} (h : CSc μ e) (ht : cT μ = -2) : 0 ≤ cV μ := by
  rcases h with ⟨_, p, h2, _⟩ | ⟨_, h2, h3, _⟩
  · obtain ⟨_, q, g, _⟩ := h2.tok (by rw [show μ 24 (μ 23 9).toNat = -2 from ht]; decide)
    rw [show μ 24 (μ 23 9).toNat = -2 from ht] at g
    exact g.v0
  · rw [show cT μ = -1 from by unfold cT; rw [h2]; exact h3] at ht
    exact absurd ht (by decide)
theorem tbC.refl {μ : mM} : tbC μ μ := ⟨tbK.refl, rfl, rfl, rfl⟩
theorem CSc.barT {μ μ1 : mM} {r m x y z : Int} (h : CSc μ (fun p => (15, p, r, m, x, y))) (hy : y = 0) (tb : tbC μ μ1) (tk : tkK μ μ1 1124 z) : CSc μ1 (fun p => (15, p, r, m, x, 0)) := by
  subst hy
  rcases tk with ⟨_, a, b⟩ | ⟨_, _, b⟩
  · exact h.bar tb b a
  · exact h.same tb b
theorem ntT {μ μ1 : mM} {z : Int} (h : ¬ cT μ = -2 ∧ ¬ cT μ = 7 ∧ ¬ cT μ = 1040) (tk : tkK μ μ1 1124 z) (tb : tbC μ μ1) : z = 1 ∨ ntP μ1 := by
  rcases tk with ⟨a, _, _⟩ | ⟨_, a, b⟩
  · exact Or.inl a
  · exact Or.inr (ntP.sm h (cT.sm a tb b) tb b)
theorem CSc.notT {μ μ1 : mM} {r m z : Int} (h : CSc μ (fun p => (1, p, r, m, 0, 0))) (tb : tbC μ μ1) (tk : tkK μ μ1 3 z) : CSc μ1 (fun p => (1, p, r, m, 0, 0)) := by
  rcases tk with ⟨_, a, b⟩ | ⟨_, _, b⟩
  · refine h.mvs tb b (by rw [a]; decide) (nsE (by decide)) (fun p q => ?_)
    rw [a]; rfl
  · exact h.same tb b
theorem CSc.t2 {μ μ1 : mM} {e' : Int → Cfg} {r m x y : Int} (h : CSc μ (fun p => (1, p, r, m, x, y))) (hend : μ 24 (μ 23 8).toNat = -1) (tb : tbC μ μ1) (n : flK μ μ1 2) (h3 : ¬ cT μ = 3) (ht : ¬ isTs (cT μ)) : CSc μ1 e' := by
  refine h.fail hend tb n (by decide) (nsE (by decide)) (fun p v q _ => ?_)
  show n1 r m (cT μ) (cP μ) q = _
  unfold n1
  rw [if_neg h3, if_pos ht]
def rwA (μ : mM) (r m z : Int) : Prop := (z = 1 ∧ CSc μ (fun p => (1, p, r, m, 0, 0))) ∨ (z = 0 ∧ CSc μ (fun p => (5, p, r, m, 0, 0)) ∧ ¬ cT μ = 1)
def rwC (μ : mM) (r m z : Int) : Prop := (z = 1 ∧ CSc μ (fun p => (6, p, r, m, 0, 0))) ∨ (z = 0 ∧ CSc μ (fun p => (8, p, r, m, 0, 0)) ∧ ¬ cT μ = 1044)
theorem rwA.tk {μ μ1 : mM} {r m z : Int} (h : CSc μ (fun p => (5, p, r, m, 0, 0))) (tb : tbC μ μ1) (tk : tkK μ μ1 1 z) : rwA μ1 r m z := by
  rcases tk with ⟨e, a, b⟩ | ⟨e, a, b⟩
  · exact Or.inl ⟨e, h.and1 tb b a⟩
  · exact Or.inr ⟨e, h.same tb b, cT.sm a tb b⟩
theorem rwC.tk {μ μ1 : mM} {r m z : Int} (h : CSc μ (fun p => (8, p, r, m, 0, 0))) (tb : tbC μ μ1) (tk : tkK μ μ1 1044 z) : rwC μ1 r m z := by
  rcases tk with ⟨e, a, b⟩ | ⟨e, a, b⟩
  · exact Or.inl ⟨e, h.com tb b a⟩
  · exact Or.inr ⟨e, h.same tb b, cT.sm a tb b⟩
theorem rwA.one {μ : mM} {r m z : Int} (h : rwA μ r m z) (hz : z = 1) : CSc μ (fun p => (1, p, r, m, 0, 0)) := by
  rcases h with h | h
  · exact h.2
  · have := h.1; omega
theorem rwA.zero {μ : mM} {r m z : Int} (h : rwA μ r m z) (hz : z = 0) : CSc μ (fun p => (5, p, r, m, 0, 0)) ∧ ¬ cT μ = 1 := by
  rcases h with h | h
  · have := h.1; omega
  · exact h.2
theorem rwA.any {μ : mM} {e' : Int → Cfg} {r m z : Int} (h : rwA μ r m z) (hf : ¬ μ 23 18 = 0) : CSc μ e' := by
  rcases h with h | h
  · exact h.2.bad hf
  · exact h.2.1.bad hf
theorem rwC.one {μ : mM} {r m z : Int} (h : rwC μ r m z) (hz : z = 1) : CSc μ (fun p => (6, p, r, m, 0, 0)) := by
  rcases h with h | h
  · exact h.2
  · have := h.1; omega
theorem rwC.zero {μ : mM} {r m z : Int} (h : rwC μ r m z) (hz : z = 0) : CSc μ (fun p => (8, p, r, m, 0, 0)) ∧ ¬ cT μ = 1044 := by
  rcases h with h | h
  · have := h.1; omega
  · exact h.2
theorem rwC.any {μ : mM} {e' : Int → Cfg} {r m z : Int} (h : rwC μ r m z) (hf : ¬ μ 23 18 = 0) : CSc μ e' := by
  rcases h with h | h
  · exact h.2.bad hf
  · exact h.2.1.bad hf
end
section
/-! The class's reader: the text into tokens. -/
def bgW : Nat → Nat
  | 0 => 0
  | w + 1 => bgW w + lenW w + 1
theorem wsT : ∀ W : Fin 29, (∀ j : Fin 8, j.val < lenW W.val → wsZ ((bgW W.val + j.val : Nat) : Int) = chW W.val j.val ∧ ¬ chW W.val j.val = 32) ∧ wsZ ((bgW W.val + lenW W.val : Nat) : Int) = 32 ∧ lenW W.val ≤ 8 ∧ bgW W.val + lenW W.val ≤ 146 := by decide +kernel
theorem wsU {W : Nat} (hW : W < 29) : (∀ j : Nat, j < lenW W → wsZ ((bgW W + j : Nat) : Int) = chW W j ∧ ¬ chW W j = 32) ∧ wsZ ((bgW W + lenW W : Nat) : Int) = 32 ∧ lenW W ≤ 8 ∧ bgW W + lenW W ≤ 146 := by
  have t := wsT ⟨W, hW⟩
  exact ⟨fun j hj => t.1 ⟨j, Nat.lt_of_lt_of_le hj t.2.2.1⟩ hj, t.2.1, t.2.2.1, t.2.2.2⟩
theorem bgW29 : bgW 29 = 147 := by decide +kernel
/-- the words before the w-th are not it; of the w-th (from b on) what stands before i is, if s is 1 -/
def wdI (B : Int → Int) (f n w b s i : Int) : Prop := ∃ W : Nat, W ≤ 29 ∧ w = (W : Int) ∧ b = (bgW W : Int) ∧ b ≤ i ∧ i ≤ b + (lenW W : Int) ∧ (∀ w' : Nat, w' < W → ¬ wrM B f n w') ∧ (s = 1 ↔ (i - b ≤ n ∧ ∀ j : Nat, (j : Int) < i - b → B (f + (j : Int)) = chW W j))
theorem wdI.zero {B : Int → Int} {f n : Int} (hn : 0 ≤ n) : wdI B f n 0 0 1 0 := ⟨0, by decide, rfl, rfl, Int.le_refl 0, by omega, fun w' h => absurd h (Nat.not_lt_zero _), ⟨fun _ => ⟨by omega, fun j hj => by omega⟩, fun _ => rfl⟩⟩
theorem wdI.chr {B : Int → Int} {f n w b s i z s' : Int} (h : wdI B f n w b s i) (hi : i < 147) (hz : z = wsZ i) (hne : ¬ z = 32) (hs : (s' = 1 ∧ s = 1 ∧ i - b < n ∧ B (f + i - b) = z) ∨ (s' = 0 ∧ ¬ (s = 1 ∧ i - b < n ∧ B (f + i - b) = z))) : wdI B f n w b s' (i + 1) := by
  obtain ⟨W, h1, h2, h3, h4, h5, h6, h7⟩ := h
  have hW : W < 29 := by
    rcases Nat.lt_or_ge W 29 with g | g
    · exact g
    · have e : W = 29 := by omega
      rw [e, bgW29] at h3
      omega
  obtain ⟨t1, t2, t3, t4⟩ := wsU hW
  have hlt : i < b + (lenW W : Int) := by
    rcases Int.lt_or_eq_of_le h5 with g | g
    · exact g
    · exfalso
      apply hne
      have e1 : i = ((bgW W + lenW W : Nat) : Int) := by omega
      rw [hz, e1]; exact t2
  have hj : (i - b).toNat < lenW W := by omega
  have e0 : i = ((bgW W + (i - b).toNat : Nat) : Int) := by omega
  have ez : z = chW W (i - b).toNat := by
    rw [hz]
    have g := (t1 (i - b).toNat hj).1
    rw [← g, ← e0]
  have ex : f + i - b = f + (((i - b).toNat : Nat) : Int) := by omega
  rw [ex] at hs
  refine ⟨W, h1, h2, h3, by omega, by omega, h6, ?_⟩
  constructor
  · intro q
    rcases hs with ⟨_, a, b1, c⟩ | ⟨a, _⟩
    · have g := h7.mp a
      refine ⟨by omega, fun j hj2 => ?_⟩
      by_cases e : j = (i - b).toNat
      · rw [e, c]; exact ez
      · exact g.2 j (by omega)
    · omega
  · intro q
    rcases hs with ⟨a, _⟩ | ⟨_, a⟩
    · exact a
    · exfalso
      apply a
      refine ⟨h7.mpr ⟨by omega, fun j hj2 => q.2 j (by omega)⟩, by omega, ?_⟩
      rw [q.2 (i - b).toNat (by omega)]; exact ez.symm
theorem wdI.spc {B : Int → Int} {f n w b s i z : Int} (h : wdI B f n w b s i) (hi : i < 147) (hz : z = wsZ i) (h32 : z = 32) : ∃ W : Nat, W < 29 ∧ w = (W : Int) ∧ b = (bgW W : Int) ∧ i = b + (lenW W : Int) ∧ (∀ w' : Nat, w' < W → ¬ wrM B f n w') ∧ (s = 1 ↔ (i - b ≤ n ∧ ∀ j : Nat, (j : Int) < i - b → B (f + (j : Int)) = chW W j)) := by
  obtain ⟨W, h1, h2, h3, h4, h5, h6, h7⟩ := h
  have hW : W < 29 := by
    rcases Nat.lt_or_ge W 29 with g | g
    · exact g
    · have e : W = 29 := by omega
      rw [e, bgW29] at h3
      omega
  obtain ⟨t1, t2, t3, t4⟩ := wsU hW
  refine ⟨W, hW, h2, h3, ?_, h6, h7⟩
  rcases Int.lt_or_eq_of_le h5 with g | g
  · exfalso
    have hj : (i - b).toNat < lenW W := by omega
    have e0 : i = ((bgW W + (i - b).toNat : Nat) : Int) := by omega
    have k := t1 (i - b).toNat hj
    apply k.2
    rw [← k.1, ← e0, ← hz]; exact h32
  · exact g
theorem wdI.nxt {B : Int → Int} {f n w b s i z : Int} (h : wdI B f n w b s i) (hi : i < 147) (hz : z = wsZ i) (h32 : z = 32) (hs : ¬ (s = 1 ∧ i - b = n)) (hn : 0 ≤ n) : wdI B f n (w + 1) (i + 1) 1 (i + 1) := by
  obtain ⟨W, h1, h2, h3, h4, h6, h7⟩ := h.spc hi hz h32
  have e : bgW (W + 1) = bgW W + lenW W + 1 := rfl
  refine ⟨W + 1, by omega, by omega, by rw [e]; omega, by omega, by omega, fun w' hw' => ?_, ⟨fun _ => ⟨by omega, fun j hj => by omega⟩, fun _ => rfl⟩⟩
  by_cases q : w' = W
  · subst q
    intro k
    apply hs
    have k1 := k.1
    exact ⟨h7.mpr ⟨by omega, fun j hj => k.2 j (by omega)⟩, by omega⟩
  · exact h6 w' (by omega)
theorem wdI.hit {B : Int → Int} {f n w b s i z : Int} (h : wdI B f n w b s i) (hi : i < 147) (hz : z = wsZ i) (h32 : z = 32) (hs : s = 1) (he : i - b = n) : wrW B f n w := by
  obtain ⟨W, h1, h2, h3, h4, h6, h7⟩ := h.spc hi hz h32
  have g := h7.mp hs
  exact Or.inl ⟨W, h1, h2, by omega, fun j hj => g.2 j (by omega)⟩
theorem wdI.fin {B : Int → Int} {f n w b s i : Int} (h : wdI B f n w b s i) (hi : 147 ≤ i) : wrW B f n (-3) := by
  obtain ⟨W, h1, h2, h3, h4, h5, h6, h7⟩ := h
  refine Or.inr ⟨rfl, fun w' hw' => h6 w' ?_⟩
  rcases Nat.lt_or_ge W 29 with g | g
  · have t := (wsU g).2.2.2
    omega
  · omega
/-- a token is put -/
def ptK (μ μ1 : mM) (e k v f : Int) : Prop := μ1 23 8 = e + 1 ∧ μ1 24 e.toNat = k ∧ μ1 25 e.toNat = v ∧ μ1 26 e.toNat = f ∧ ∀ i : Nat, i ≠ e.toNat → μ1 24 i = μ 24 i ∧ μ1 25 i = μ 25 i ∧ μ1 26 i = μ 26 i
theorem ptK.mk {μ μa μb μc μ1 : mM} {e k v f x : Int} (u1 : mU μ 24 e.toNat k μa) (u2 : mU μa 25 e.toNat v μb) (u3 : mU μb 26 e.toNat f μc) (u4 : mU μc 23 8 x μ1) (hx : x = e + 1) : ptK μ μ1 e k v f := by
  have d1 : ∀ a i, a ≠ 23 → μ1 a i = μc a i := fun a i h => u4.2 a i (Or.inl h)
  refine ⟨u4.1.trans hx, ?_, ?_, ?_, fun i hi => ⟨?_, ?_, ?_⟩⟩
  · rw [d1 _ _ (by decide), u3.2 _ _ (Or.inl (by decide)), u2.2 _ _ (Or.inl (by decide))]; exact u1.1
  · rw [d1 _ _ (by decide), u3.2 _ _ (Or.inl (by decide))]; exact u2.1
  · rw [d1 _ _ (by decide)]; exact u3.1
  · rw [d1 _ _ (by decide), u3.2 _ _ (Or.inl (by decide)), u2.2 _ _ (Or.inl (by decide))]; exact u1.2 _ _ (Or.inr hi)
  · rw [d1 _ _ (by decide), u3.2 _ _ (Or.inl (by decide)), u2.2 _ _ (Or.inr hi)]; exact u1.2 _ _ (Or.inl (by decide))
  · rw [d1 _ _ (by decide), u3.2 _ _ (Or.inr hi), u2.2 _ _ (Or.inl (by decide))]; exact u1.2 _ _ (Or.inl (by decide))
theorem decN.le {B : Int → Int} {p : Int} : ∀ n : Nat, (∀ i, p ≤ i → i < p + (n : Int) → isF (B i)) → decN B p n + 1 ≤ 10 ^ n
  | 0, _ => by simp [decN]
  | n + 1, h => by
    have h1 := decN.le n (fun i a b => h i a (by omega))
    have h2 := h (p + (n : Int)) (by omega) (by omega)
    unfold isF at h2
    show 10 * decN B p n + (B (p + (n : Int)) - 48) + 1 ≤ 10 ^ (n + 1)
    rw [Int.pow_succ]
    omega
/-- a number's figures so far -/
def nmI (B : Int → Int) (f i x : Int) : Prop := f ≤ i ∧ x = decN B f (i - f).toNat
theorem nmI.zero {B : Int → Int} {f : Int} : nmI B f f 0 := ⟨Int.le_refl f, by rw [Int.sub_self]; rfl⟩
theorem nmI.next {B : Int → Int} {f i x v y : Int} (h : nmI B f i x) (hv : B i = v) (hy : y = x * 10 + v - 48) : nmI B f (i + 1) y := by
  refine ⟨by have := h.1; omega, ?_⟩
  have e : (i + 1 - f).toNat = (i - f).toNat + 1 := by have := h.1; omega
  have e2 : f + (((i - f).toNat : Nat) : Int) = i := by have := h.1; omega
  rw [e]
  show y = 10 * decN B f (i - f).toNat + (B (f + (((i - f).toNat : Nat) : Int)) - 48)
  rw [e2, ← h.2, hv, hy]
  omega
theorem nmI.le {B : Int → Int} {f i x q : Int} (h : nmI B f i x) (hF : ∀ j, f ≤ j → j < q → isF (B j)) (hi : i ≤ q) (h8 : i - f ≤ 8) : 0 ≤ x ∧ x ≤ 99999999 := by
  have g : ∀ j, f ≤ j → j < f + (((i - f).toNat : Nat) : Int) → isF (B j) := fun j a b => hF j a (by have := h.1; omega)
  have k1 := decN.nn _ g
  have k2 := decN.le _ g
  have k3 : (10 : Int) ^ (i - f).toNat ≤ 100000000 := by
    have z : ∀ m : Fin 9, (10 : Int) ^ m.val ≤ 100000000 := by decide +kernel
    exact z ⟨(i - f).toNat, by omega⟩
  rw [h.2]
  omega
def nuK (B : Int → Int) (μ μ1 : mM) (e f q : Int) : Prop := (9 < q - f ∧ ptK μ μ1 e (-3) 0 f) ∨ (q - f ≤ 9 ∧ ptK μ μ1 e (-2) (decN B f (q - f).toNat) f)
theorem ptK.cg {μ μ1 : mM} {e k v v' f : Int} (h : ptK μ μ1 e k v f) (e1 : v = v') : ptK μ μ1 e k v' f := by subst e1; exact h
/-- the tokens so far -/
def sgN (wr : Int → Int → Int → Prop) (B : Int → Int) (μ : mM) : Nat → Int → Prop
  | 0, p => p = 0
  | n + 1, p => ∃ p0, sgN wr B μ n p0 ∧ ¬ μ 24 n = -1 ∧ TokX wr B p0 (μ 24 n) (μ 25 n) (μ 26 n) p
theorem sgN.of {wr : Int → Int → Int → Prop} {B : Int → Int} {μ μ1 : mM} : ∀ (n : Nat) (p : Int), sgN wr B μ n p → (∀ i : Nat, i < n → μ1 24 i = μ 24 i ∧ μ1 25 i = μ 25 i ∧ μ1 26 i = μ 26 i) → sgN wr B μ1 n p
  | 0, _, h, _ => h
  | n + 1, p, ⟨p0, h1, h2, h3⟩, e => by
    obtain ⟨a, b, c⟩ := e n (Nat.lt_succ_self n)
    exact ⟨p0, sgN.of n p0 h1 (fun i hi => e i (Nat.lt_succ_of_lt hi)), by rw [a]; exact h2, by rw [a, b, c]; exact h3⟩
theorem sgN.to {wr : Int → Int → Int → Prop} {B : Int → Int} {μ : mM} : ∀ (n m : Nat) (p : Int), (n : Int) ≤ μ 23 8 → sgN wr B μ n p → sqN wr B μ m (n : Int) p → SqT wr B μ 0 0
  | 0, m, p, _, h, k => by
    have e : p = 0 := h
    subst e
    exact ⟨m, k⟩
  | n + 1, m, p, hn, ⟨p0, h1, h2, h3⟩, k => by
    refine sgN.to n (m + 1) p0 (by omega) h1 ⟨by omega, ?_, p, ?_, ?_⟩
    · rw [Int.toNat_natCast]; exact h2
    · rw [Int.toNat_natCast]; exact h3
    · rw [show (n : Int) + 1 = ((n + 1 : Nat) : Int) from by omega]; exact k
def spI (B : Int → Int) (μ : mM) (e L : Int) : Prop := 0 ≤ e ∧ ∃ p, sgN (wrW B) B μ e.toNat p ∧ p ≤ L ∧ ∀ i, p ≤ i → i < L → isB (B i)
theorem spI.zero {B : Int → Int} {μ : mM} : spI B μ 0 0 := ⟨Int.le_refl 0, 0, rfl, Int.le_refl 0, fun i a b => by omega⟩
theorem spI.blank {B : Int → Int} {μ : mM} {e L : Int} (h : spI B μ e L) (hb : isB (B L)) : spI B μ e (L + 1) := by
  obtain ⟨h0, p, h1, h2, h3⟩ := h
  refine ⟨h0, p, h1, by omega, fun i a b => ?_⟩
  by_cases q : i = L
  · subst q; exact hb
  · exact h3 i a (by omega)
theorem spI.tok {B : Int → Int} {μ μ1 : mM} {e L k v q : Int} (h : spI B μ e L) (pk : ptK μ μ1 e k v L) (hb : ¬ isB (B L)) (hk : ¬ k = -1)
    (hx : (B L < 0 ∧ k = -1 ∧ v = 0 ∧ q = L) ∨ (isL (B L) ∧ runX isL B L q ∧ wrW B L (q - L) k ∧ v = 0) ∨ (isF (B L) ∧ runX isF B L q ∧ ((9 < q - L ∧ k = -3 ∧ v = 0) ∨ (q - L ≤ 9 ∧ k = -2 ∧ v = decN B L (q - L).toNat))) ∨ ((¬ B L < 0 ∧ ¬ isL (B L) ∧ ¬ isF (B L)) ∧ k = 1000 + B L ∧ v = 0 ∧ q = L + 1)) : spI B μ1 (e + 1) q := by
  obtain ⟨h0, p, h1, h2, h3⟩ := h
  obtain ⟨p1, p2, p3, p4, p5⟩ := pk
  refine ⟨by omega, q, ?_, Int.le_refl q, fun i a b => by omega⟩
  have en : (e + 1).toNat = e.toNat + 1 := by omega
  rw [en]
  refine ⟨p, sgN.of _ _ h1 (fun i hi => p5 i (by omega)), by rw [p2]; exact hk, ?_⟩
  rw [p2, p3, p4]
  exact ⟨⟨h2, h3, hb⟩, hx⟩
theorem spI.num {B : Int → Int} {μ μ1 : mM} {e L q : Int} (h : spI B μ e L) (nu : nuK B μ μ1 e L q) (hf : isF (B L)) (hr : runX isF B L q) : spI B μ1 (e + 1) q := by
  have nb : ¬ isB (B L) := fun g => by unfold isB at g; unfold isF at hf; omega
  rcases nu with ⟨a, b⟩ | ⟨a, b⟩
  · exact h.tok b nb (by decide) (Or.inr (Or.inr (Or.inl ⟨hf, hr, Or.inl ⟨a, rfl, rfl⟩⟩)))
  · exact h.tok b nb (by decide) (Or.inr (Or.inr (Or.inl ⟨hf, hr, Or.inr ⟨a, rfl, rfl⟩⟩)))
theorem spI.word {B : Int → Int} {μ μ1 : mM} {e L q k : Int} (h : spI B μ e L) (pk : ptK μ μ1 e k 0 L) (hl : isL (B L)) (hr : runX isL B L q) (hw : wrW B L (q - L) k) : spI B μ1 (e + 1) q := by
  have nb : ¬ isB (B L) := fun g => by unfold isB at g; unfold isL at hl; omega
  refine h.tok pk nb ?_ (Or.inr (Or.inl ⟨hl, hr, hw, rfl⟩))
  rcases hw with ⟨w, _, a, _⟩ | ⟨a, _⟩ <;> omega
theorem spI.sign {B : Int → Int} {μ μ1 : mM} {e L k : Int} (h : spI B μ e L) (pk : ptK μ μ1 e k 0 L) (hk : k = 1000 + B L) (h0 : ¬ B L < 0) (hl : ¬ isL (B L)) (hf : ¬ isF (B L)) (hb : ¬ isB (B L)) : spI B μ1 (e + 1) (L + 1) := h.tok pk hb (by omega) (Or.inr (Or.inr (Or.inr ⟨⟨h0, hl, hf⟩, hk, rfl, rfl⟩)))
theorem spI.fin {B : Int → Int} {μ μa μb : mM} {e L : Int} (h : spI B μ e L) (q8 : μ 23 8 = e) (hB : B L = -1) (u1 : mU μ 24 e.toNat (-1) μa) (u2 : mU μa 26 e.toNat L μb) : SqT (wrW B) B μb 0 0 := by
  obtain ⟨h0, p, h1, h2, h3⟩ := h
  have e8 : μb 23 8 = e := by rw [u2.2 _ _ (Or.inl (by decide)), u1.2 _ _ (Or.inl (by decide))]; exact q8
  have e4 : μb 24 e.toNat = -1 := by rw [u2.2 _ _ (Or.inl (by decide))]; exact u1.1
  have ee : ((e.toNat : Nat) : Int) = e := Int.toNat_of_nonneg h0
  refine sgN.to e.toNat 0 p (by rw [e8]; omega) (sgN.of _ _ h1 (fun i hi => ⟨?_, ?_, ?_⟩)) ?_
  · rw [u2.2 _ _ (Or.inl (by decide))]; exact u1.2 _ _ (Or.inr (by omega))
  · rw [u2.2 _ _ (Or.inl (by decide))]; exact u1.2 _ _ (Or.inl (by decide))
  · rw [u2.2 _ _ (Or.inr (by omega))]; exact u1.2 _ _ (Or.inl (by decide))
  · rw [ee]
    refine ⟨e8.symm, e4, L, ?_⟩
    rw [u2.1]
    exact ⟨⟨h2, h3, fun g => by unfold isB at g; omega⟩, Or.inl ⟨by omega, rfl, rfl, rfl⟩⟩
theorem SqT.cgB {B B' : Int → Int} {μ : mM} {i p : Int} (h : SqT (wrW B) B μ i p) (e : B' = B) : SqT (wrW B') B' μ i p := by subst e; exact h
/-- all from f up to i are of the kind C -/
def alX (C : Int → Prop) (B : Int → Int) (f i : Int) : Prop := f ≤ i ∧ ∀ j, f ≤ j → j < i → C (B j)
theorem alX.one {C : Int → Prop} {B : Int → Int} {f : Int} (h : C (B f)) : alX C B f (f + 1) := ⟨by omega, fun j a b => by
  have e : j = f := by omega
  rw [e]; exact h⟩
theorem alX.next {C : Int → Prop} {B : Int → Int} {f i : Int} (h : alX C B f i) (hc : C (B i)) : alX C B f (i + 1) := ⟨by have := h.1; omega, fun j a b => by
  by_cases e : j = i
  · rw [e]; exact hc
  · exact h.2 j a (by omega)⟩
theorem alX.run {C : Int → Prop} {B : Int → Int} {f i : Int} (h : alX C B f i) (hc : ¬ C (B i)) : runX C B f i := ⟨h.1, h.2, hc⟩
theorem bC.end {b : Nat} {μ : mM} {k n : Int} (q : μ 0 10 = n) (h : n ≤ k) : bC b μ k = -1 := by
  unfold bC
  rw [if_neg (by omega)]
theorem isL.no {x : Int} (h : x < 97 ∨ 122 < x) : ¬ isL x := fun g => by unfold isL at g; omega
theorem isF.no {x : Int} (h : x < 48 ∨ 57 < x) : ¬ isF x := fun g => by unfold isF at g; omega
theorem isB.no {x : Int} (h : ¬ x = 32 ∧ ¬ x = 10) : ¬ isB x := fun g => by unfold isB at g; omega
theorem CSc.init {μ μ' : mM} (sq : SqT (wrW (bC 1 μ)) (bC 1 μ) μ 0 0) (tb : tbC μ μ') (h9 : μ' 23 9 = 0) (h18 : μ' 23 18 = 0) {r m : Int} (hr : r = 0) (hm : m = 0) : CSc μ' (fun p => (0, p, r, m, 0, 0)) := by
  subst hr; subst hm
  exact CSc.in tb (Or.inl ⟨h18, 0, by rw [h9]; exact sq.of tb.1.1 tb.1.2.1 tb.1.2.2.1 tb.1.2.2.2, rcC.refl⟩)
def RdC (μ μ1 : mM) (c : Int) : Prop := ∃ f, rcC (wrW (bC 1 μ)) mskF (bC 1 μ) c (0, 0, 0, 0, 0, 0) (erC (μ1 23 18) f) ∧ (¬ μ1 23 18 = 0 → f = μ1 23 19)
theorem RdC.mk {μ μ1 : mM} {r m c : Int} (h : CSc μ1 (fun p => (0, p, r, m, 0, 0))) (ht : cT μ1 = -1) (e1 : μ1 1 = μ 1) (e0 : μ1 0 10 = μ 0 10) (ec : μ1 23 14 = c) : RdC μ μ1 c := by
  have g := CSt.done h ht
  rw [bC.of e1 e0, ec] at g
  exact g
theorem nuK.cgB {B B' : Int → Int} {μ μ1 : mM} {e f q : Int} (h : nuK B μ μ1 e f q) (e1 : B' = B) : nuK B' μ μ1 e f q := by subst e1; exact h
theorem wrW.cgB {B B' : Int → Int} {f n k : Int} (h : wrW B f n k) (e : B' = B) : wrW B' f n k := by subst e; exact h
end
section
/-! The reference's reader: its tokens. Letters packed into a number. -/
def pkH (B : Int → Int) (f : Int) : Nat → Int
  | 0 => 0
  | n + 1 => B f + 256 * pkH B (f + 1) n
theorem pkH.snoc {B : Int → Int} : ∀ (n : Nat) (f : Int), pkH B f (n + 1) = pkH B f n + B (f + (n : Int)) * 256 ^ n
  | 0, f => by
    show B f + 256 * 0 = 0 + B (f + ((0 : Nat) : Int)) * 256 ^ 0
    rw [show f + ((0 : Nat) : Int) = f by omega, Int.pow_zero]
    omega
  | n + 1, f => by
    have h := pkH.snoc (B := B) n (f + 1)
    show B f + 256 * pkH B (f + 1) (n + 1) = (B f + 256 * pkH B (f + 1) n) + B (f + ((n + 1 : Nat) : Int)) * 256 ^ (n + 1)
    rw [h, show f + 1 + (n : Int) = f + ((n + 1 : Nat) : Int) by omega, Int.pow_succ]
    generalize B (f + ((n + 1 : Nat) : Int)) = x
    generalize pkH B (f + 1) n = y
    have e : 256 * (x * 256 ^ n) = x * (256 ^ n * 256) := by rw [Int.mul_comm 256 (x * 256 ^ n), Int.mul_assoc]
    rw [Int.mul_add, e]
    exact (Int.add_assoc _ _ _).symm
theorem pkH.rng {B : Int → Int} : ∀ (n : Nat) (f : Int), (∀ j, f ≤ j → j < f + (n : Int) → 0 ≤ B j ∧ B j ≤ 255) → 0 ≤ pkH B f n ∧ pkH B f n + 1 ≤ 256 ^ n
  | 0, _, _ => by simp [pkH]
  | n + 1, f, h => by
    have h1 := pkH.rng (B := B) n (f + 1) (fun j a b => h j (by omega) (by omega))
    have h2 := h f (by omega) (by omega)
    show 0 ≤ B f + 256 * pkH B (f + 1) n ∧ B f + 256 * pkH B (f + 1) n + 1 ≤ 256 ^ (n + 1)
    rw [Int.pow_succ]
    omega
theorem pkH.inj {B C : Int → Int} : ∀ (n m : Nat) (f g : Int), pkH B f n = pkH C g m → (∀ j, f ≤ j → j < f + (n : Int) → 1 ≤ B j ∧ B j ≤ 255) → (∀ j, g ≤ j → j < g + (m : Int) → 1 ≤ C j ∧ C j ≤ 255) → n = m ∧ ∀ j : Nat, j < n → B (f + (j : Int)) = C (g + (j : Int))
  | 0, 0, _, _, _, _, _ => ⟨rfl, fun j hj => absurd hj (Nat.not_lt_zero j)⟩
  | 0, m + 1, f, g, h, _, hC => by
    exfalso
    have h2 := hC g (by omega) (by omega)
    have h3 := (pkH.rng (B := C) m (g + 1) (fun j a b => by have := hC j (by omega) (by omega); omega)).1
    have h4 : (0 : Int) = C g + 256 * pkH C (g + 1) m := h
    omega
  | n + 1, 0, f, g, h, hB, _ => by
    exfalso
    have h2 := hB f (by omega) (by omega)
    have h3 := (pkH.rng (B := B) n (f + 1) (fun j a b => by have := hB j (by omega) (by omega); omega)).1
    have h4 : B f + 256 * pkH B (f + 1) n = (0 : Int) := h
    omega
  | n + 1, m + 1, f, g, h, hB, hC => by
    have a1 := hB f (by omega) (by omega)
    have a2 := hC g (by omega) (by omega)
    have h4 : B f + 256 * pkH B (f + 1) n = C g + 256 * pkH C (g + 1) m := h
    have e1 : B f = C g := by omega
    have e2 : pkH B (f + 1) n = pkH C (g + 1) m := by omega
    obtain ⟨k1, k2⟩ := pkH.inj n m (f + 1) (g + 1) e2 (fun j a b => hB j (by omega) (by omega)) (fun j a b => hC j (by omega) (by omega))
    refine ⟨by omega, fun j hj => ?_⟩
    cases j with
    | zero =>
      rw [show f + ((0 : Nat) : Int) = f by omega, show g + ((0 : Nat) : Int) = g by omega]; exact e1
    | succ j =>
      have k3 := k2 j (by omega)
      rw [show f + ((j + 1 : Nat) : Int) = f + 1 + (j : Int) by omega, show g + ((j + 1 : Nat) : Int) = g + 1 + (j : Int) by omega]; exact k3
def KWl : List Int := [26217, 6581857, 1852139636, 7630702, 28265, 28532, 7954807, 7958113, 1802658157, 1836020326, 6646132, 114849160783212, 1752394103, 1953722211, 121398985585263, 499967814002, 8243115018434082147, 8243105097092919920, 465491554661, 7235947, 431265440118, 31093567915781749, 6578530, 7628140, 7496034, 6579297, 1886351972, 1701998445, 1819042147]
def KW (w : Nat) : Int := KWl.getD w 0
theorem KW.is : ∀ w : Fin 29, KW w.val = pkH (fun j => chW w.val j.toNat) 0 (lenW w.val) ∧ (∀ j : Fin 8, j.val < lenW w.val → 1 ≤ chW w.val j.val ∧ chW w.val j.val ≤ 255) ∧ lenW w.val ≤ 8 ∧ 2 ≤ lenW w.val ∧ (3 ≤ lenW w.val ∨ w.val = 0 ∨ w.val = 4 ∨ w.val = 5) := by decide +kernel
/-- which word a number packs -/
def wnK (x z : Int) : Prop := (∃ w : Nat, w < 29 ∧ z = (w : Int) ∧ x = KW w) ∨ (z = -1 ∧ ∀ w : Nat, w < 29 → ¬ x = KW w)
theorem wnK.wr {B : Int → Int} {f n x z : Int} (h : wnK x z) (hn : 0 ≤ n ∧ n ≤ 8) (hx : x = pkH B f n.toNat) (hL : ∀ j, f ≤ j → j < f + n → isL (B j)) : (0 ≤ z → wrW B f n z ∧ 2 ≤ n ∧ (3 ≤ n ∨ z = 0 ∨ z = 4 ∨ z = 5)) ∧ (z < 0 → wrW B f n (-3)) := by
  have hB : ∀ j, f ≤ j → j < f + ((n.toNat : Nat) : Int) → 1 ≤ B j ∧ B j ≤ 255 := fun j a b => by
    have g := hL j a (by omega)
    unfold isL at g
    omega
  have hC : ∀ w : Nat, (hw : w < 29) → ∀ j : Int, 0 ≤ j → j < 0 + ((lenW w : Nat) : Int) → 1 ≤ chW w j.toNat ∧ chW w j.toNat ≤ 255 := fun w hw j a b => by
    have g := KW.is ⟨w, hw⟩
    have l8 : lenW w ≤ 8 := g.2.2.1
    exact g.2.1 ⟨j.toNat, by omega⟩ (show j.toNat < lenW w by omega)
  constructor
  · intro hz
    rcases h with ⟨w, hw, e, k⟩ | ⟨e, _⟩
    · have g := KW.is ⟨w, hw⟩
      have g1 : KW w = pkH (fun j => chW w j.toNat) 0 (lenW w) := g.1
      obtain ⟨i1, i2⟩ := pkH.inj n.toNat (lenW w) f 0 (by rw [← hx, k, g1]) hB (hC w hw)
      have g4 : 2 ≤ lenW w := g.2.2.2.1
      have g5 : 3 ≤ lenW w ∨ w = 0 ∨ w = 4 ∨ w = 5 := g.2.2.2.2
      refine ⟨Or.inl ⟨w, hw, e, by omega, fun j hj => ?_⟩, by omega, by omega⟩
      have i3 := i2 j (by omega)
      rw [i3]
      show chW w ((0 : Int) + (j : Int)).toNat = chW w j
      rw [show ((0 : Int) + (j : Int)).toNat = j by omega]
    · omega
  · intro hz
    rcases h with ⟨w, _, e, _⟩ | ⟨_, k⟩
    · omega
    · refine Or.inr ⟨rfl, fun w hw m => k w hw ?_⟩
      have g1 : KW w = pkH (fun j => chW w j.toNat) 0 (lenW w) := (KW.is ⟨w, hw⟩).1
      have m1 := m.1
      have en : n.toNat = lenW w := by omega
      rw [hx, g1, en]
      have cg : ∀ (q : Nat) (a b : Int), (∀ j : Nat, j < q → B (a + (j : Int)) = chW w (b + (j : Int)).toNat) → pkH B a q = pkH (fun j => chW w j.toNat) b q := by
        intro q
        induction q with
        | zero => intro a b _; rfl
        | succ q ih =>
          intro a b hh
          show B a + 256 * pkH B (a + 1) q = chW w b.toNat + 256 * pkH (fun j => chW w j.toNat) (b + 1) q
          have h0 := hh 0 (by omega)
          rw [show a + ((0 : Nat) : Int) = a by omega, show b + ((0 : Nat) : Int) = b by omega] at h0
          rw [h0, ih (a + 1) (b + 1) (fun j hj => by
            have h1 := hh (j + 1) (by omega)
            rw [show a + ((j + 1 : Nat) : Int) = a + 1 + (j : Int) by omega, show b + ((j + 1 : Nat) : Int) = b + 1 + (j : Int) by omega] at h1
            exact h1)]
      refine cg _ _ _ (fun j hj => ?_)
      rw [show ((0 : Int) + (j : Int)).toNat = j by omega]
      exact m.2 j hj
theorem wrW.long {B : Int → Int} {f n : Int} (h : 8 < n) : wrW B f n (-3) := Or.inr ⟨rfl, fun w hw m => by
  have m1 := m.1
  have g : lenW w ≤ 8 := (KW.is ⟨w, hw⟩).2.2.1
  omega⟩
theorem lShlW : ∀ (n : Fin 8) (b : Fin 128), lShl ((b.val : Nat) : Int) (8 * ((n.val : Nat) : Int)) = ((b.val : Nat) : Int) * 256 ^ n.val := by decide +kernel
theorem lOr_nat {x y : Nat} (hx : x < 9223372036854775808) (hy : y < 9223372036854775808) : lOr (x : Int) (y : Int) = ((x ||| y : Nat) : Int) := by
  have hp : x ||| y < 2 ^ 63 := Nat.or_lt_two_pow (by omega) (by omega)
  have h1 : (BitVec.ofInt 64 (y : Int)).toNat = y := by rw [BitVec.toNat_ofInt]; omega
  have h0 : (BitVec.ofInt 64 (x : Int)).toNat = x := by rw [BitVec.toNat_ofInt]; omega
  have h2 : (Int64.ofInt (x : Int) ||| Int64.ofInt (y : Int)).toBitVec.toNat = x ||| y := by
    rw [Int64.toBitVec_or, BitVec.toNat_or, Int64.toBitVec_ofInt, Int64.toBitVec_ofInt, h1, h0]
  have h3 : (Int64.ofInt (x : Int) ||| Int64.ofInt (y : Int)).toInt = ((Int64.ofInt (x : Int) ||| Int64.ofInt (y : Int)).toBitVec.toNat : Int) := BitVec.toInt_eq_toNat_of_lt (by omega)
  unfold lOr
  rw [h3, h2]
theorem lOr_add {x y k : Nat} (hx : x < 2 ^ k) (hs : 2 ^ k * y + x < 9223372036854775808) : lOr (x : Int) ((2 ^ k * y : Nat) : Int) = ((2 ^ k * y + x : Nat) : Int) := by
  have e := Nat.two_pow_add_eq_or_of_lt hx y
  generalize 2 ^ k * y = Y at hs e ⊢
  rw [lOr_nat (by omega) (by omega), Nat.or_comm, ← e]
theorem pkH.next {B : Int → Int} {f n x b c s z e : Int} (hn : 0 ≤ n ∧ n < 8) (hx : x = pkH B f n.toNat) (hL : ∀ j, f ≤ j → j < f + n → isL (B j)) (hb : B (f + n) = b) (hl : 97 ≤ b ∧ b ≤ 122) (q0 : b = c) (he : e = 8 * n) (q1 : lShl c e = s) (q2 : lOr x s = z) : z = pkH B f (n + 1).toNat := by
  subst q0; subst he
  have hr := pkH.rng (B := B) n.toNat f (fun j a d => by
    have g := hL j a (by omega)
    unfold isL at g
    omega)
  rw [← hx] at hr
  have hnn : ((n.toNat : Nat) : Int) = n := Int.toNat_of_nonneg hn.1
  have hbb : ((b.toNat : Nat) : Int) = b := Int.toNat_of_nonneg (by omega)
  have g := lShlW ⟨n.toNat, by omega⟩ ⟨b.toNat, by omega⟩
  have g : lShl b (8 * n) = b * 256 ^ n.toNat := by
    have g' : lShl ((b.toNat : Nat) : Int) (8 * ((n.toNat : Nat) : Int)) = ((b.toNat : Nat) : Int) * 256 ^ n.toNat := g
    rw [hbb, hnn] at g'; exact g'
  have en : (n + 1).toNat = n.toNat + 1 := by omega
  rw [en, pkH.snoc, hnn, hb, ← hx, ← q2, ← q1, g]
  have p8 : (256 : Int) ^ n.toNat = ((2 ^ (8 * n.toNat) : Nat) : Int) := by
    rw [Nat.pow_mul]
    exact (Int.natCast_pow 256 n.toNat).symm
  have p56 : (2 : Nat) ^ (8 * n.toNat) ≤ 2 ^ 56 := Nat.pow_le_pow_right (by decide) (by omega)
  rw [p8] at hr ⊢
  have hxx : ((x.toNat : Nat) : Int) = x := Int.toNat_of_nonneg hr.1
  have hlt : x.toNat < 2 ^ (8 * n.toNat) := by omega
  have hm : 2 ^ (8 * n.toNat) * b.toNat ≤ 2 ^ 56 * 122 := Nat.mul_le_mul p56 (by omega)
  have hs : 2 ^ (8 * n.toNat) * b.toNat + x.toNat < 9223372036854775808 := by omega
  have k := lOr_add (x := x.toNat) (y := b.toNat) (k := 8 * n.toNat) hlt hs
  rw [hxx] at k
  have ec : ((2 ^ (8 * n.toNat) * b.toNat : Nat) : Int) = b * ((2 ^ (8 * n.toNat) : Nat) : Int) := by
    rw [Int.natCast_mul, hbb, Int.mul_comm]
  rw [ec] at k
  rw [k, Int.natCast_add, ec, hxx, Int.add_comm]
theorem lCmp_ne {x y z : Int} (q : lCmp x y = z) (hz : ¬ z = 0) : ¬ x = y := fun e => by
  subst e
  apply hz
  rw [← q]
  unfold lCmp lg_cmp
  split
  · rename_i h
    exact absurd (Int64.lt_iff_toInt_lt.mp h) (Int.lt_irrefl _)
  · split
    · rfl
    · rename_i h
      exact absurd rfl h
/-- where the reference's reader stands, by memory alone -/
def RSc (μ : mM) (e : Int → Cfg) : Prop := RSt (wrW (bR μ)) mskF (bR μ) (μ 106 39) μ e
def tbR (μ μ1 : mM) : Prop := bR μ1 = bR μ ∧ μ1 106 39 = μ 106 39
theorem tbR.refl {μ : mM} : tbR μ μ := ⟨rfl, rfl⟩
theorem tbR.fr {lf : List Nat} {w : mW} {μ μ1 : mM} (hw : mWF w) (F : mF lf w μ μ1) (h1 : tpFree lf = true) (h2 : lf.elem 106039 = false) : tbR μ μ1 := ⟨bR.keep hw F h1, F.f (A_106 hw) h2 rfl⟩
abbrev tsL : List Nat := [106033, 106034, 106035, 106036, 106037, 106038]
theorem tsK.fr {lf : List Nat} {w : mW} {μ μ1 : mM} (hw : mWF w) (F : mF lf w μ μ1) (hl : (tsL.all fun r => !lf.elem r) = true) : tsK μ μ1 := ⟨F.f (A_106 hw) (qA_no hl rfl) rfl, F.f (A_106 hw) (qA_no hl rfl) rfl, F.f (A_106 hw) (qA_no hl rfl) rfl, F.f (A_106 hw) (qA_no hl rfl) rfl, F.f (A_106 hw) (qA_no hl rfl) rfl, F.f (A_106 hw) (qA_no hl rfl) rfl⟩
theorem RSc.in {μ μ1 : mM} {e : Int → Cfg} (tb : tbR μ μ1) (h : RSt (wrW (bR μ)) mskF (bR μ) (μ 106 39) μ1 e) : RSc μ1 e := by
  unfold RSc
  rw [tb.1, tb.2]; exact h
def nxR (μ μ1 : mM) : Prop := nxK (wrW (bR μ)) (bR μ) μ μ1
theorem RSc.same {μ μ1 : mM} {e : Int → Cfg} (h : RSc μ e) (tb : tbR μ μ1) (s : tsK μ μ1) : RSc μ1 e := RSc.in tb (RSt.same h s)
theorem RSc.next {μ μ1 : mM} {e e' : Int → Cfg} (h : RSc μ e) (tb : tbR μ μ1) (n : nxR μ μ1) (oe : okE e) (oe' : okE e') (st : ∀ p t v q, μ 106 37 = 0 → tyM μ t v → ¬ t = -3 → nxC mskF (μ 106 39) (e p) t v (μ 106 34) q = e' q) : RSc μ1 e' := RSc.in tb (RSt.next h n oe oe' st)
theorem RSc.stay {μ : mM} {e e' : Int → Cfg} (h : RSc μ e) (oe : okE e) (st : ∀ p t v q, μ 106 37 = 0 → tyM μ t v → ¬ t = -3 → nxC mskF (μ 106 39) (e p) t v (μ 106 34) q = e' p) : RSc μ e' := RSt.stay h oe st
theorem RSc.wrong {μ μ1 : mM} {e e' : Int → Cfg} {k : Int} (h : RSc μ e) (tb : tbR μ μ1) (n : wrK μ μ1 k) (hk : ¬ k = 0) (oe : okE e) (st : ∀ p t v q, μ 106 37 = 0 → tyM μ t v → ¬ t = -3 → nxC mskF (μ 106 39) (e p) t v (μ 106 34) q = faC k t (μ 106 34)) : RSc μ1 e' := RSc.in tb (RSt.wrong h n hk oe st)
theorem RSc.bad {μ : mM} {e e' : Int → Cfg} (h : RSc μ e) (hc : ¬ μ 106 37 = 0) : RSc μ e' := RSt.bad h hc
theorem RSc.cg {μ : mM} {s r m x y r' m' x' y' : Int} (h : RSc μ (fun p => (s, p, r, m, x, y))) (er : r = r') (em : m = m') (ex : x = x') (ey : y = y') : RSc μ (fun p => (s, p, r', m', x', y')) := by
  subst er; subst em; subst ex; subst ey; exact h
/-- the letters or figures of the token so far -/
def nxI (B : Int → Int) (f ty n W F : Int) : Prop := (ty = 1 ∧ alX isL B f (f + n) ∧ (n ≤ 8 → W = pkH B f n.toNat)) ∨ (ty = 2 ∧ alX isF B f (f + n) ∧ (n ≤ 9 → F = decN B f n.toNat))
theorem nxI.zero {B : Int → Int} {f ty n : Int} (h : ty = 1 ∨ ty = 2) (hn : n = 0) : nxI B f ty n 0 0 := by
  subst hn
  have a : ∀ C : Int → Prop, alX C B f (f + 0) := fun C => ⟨by omega, fun j x y => by omega⟩
  rcases h with h | h
  · exact Or.inl ⟨h, a _, fun _ => rfl⟩
  · exact Or.inr ⟨h, a _, fun _ => rfl⟩
theorem nxI.let {B : Int → Int} {f ty n W F b W' F' g : Int} (h : nxI B f ty n W F) (ht : ty = 1) (hg : g = f + n) (hb : B g = b) (hl : 97 ≤ b ∧ b ≤ 122) (hw : n < 8 → (n ≤ 8 → W = pkH B f n.toNat) → (∀ j, f ≤ j → j < f + n → isL (B j)) → W' = pkH B f (n + 1).toNat) : nxI B f ty (n + 1) W' F' := by
  subst hg
  rcases h with ⟨_, a, c⟩ | ⟨e, _⟩
  · refine Or.inl ⟨ht, ?_, fun h9 => hw (by omega) c a.2⟩
    have k := a.next (show isL (B (f + n)) by rw [hb]; exact hl)
    rw [show f + n + 1 = f + (n + 1) by omega] at k; exact k
  · omega
theorem nxI.fig {B : Int → Int} {f ty n W F b W' F' g : Int} (h : nxI B f ty n W F) (ht : ty = 2) (h0 : 0 ≤ n) (hg : g = f + n) (hb : B g = b) (hl : 48 ≤ b ∧ b ≤ 57) (hF : n < 9 → F' = 10 * F + b - 48) : nxI B f ty (n + 1) W' F' := by
  subst hg
  rcases h with ⟨e, _⟩ | ⟨_, a, c⟩
  · omega
  · refine Or.inr ⟨ht, ?_, fun h9 => ?_⟩
    · have k := a.next (show isF (B (f + n)) by rw [hb]; exact hl)
      rw [show f + n + 1 = f + (n + 1) by omega] at k; exact k
    · have e : (n + 1).toNat = n.toNat + 1 := by omega
      rw [e]
      show F' = 10 * decN B f n.toNat + (B (f + ((n.toNat : Nat) : Int)) - 48)
      rw [show f + ((n.toNat : Nat) : Int) = f + n by omega, hb, ← c (by omega), hF (by omega)]
      omega
theorem nxI.le {B : Int → Int} {f ty n W F : Int} (h : nxI B f ty n W F) (ht : ty = 2) (hn : 0 ≤ n ∧ n ≤ 8) : 0 ≤ F ∧ F ≤ 99999999 := by
  rcases h with ⟨e, _⟩ | ⟨_, a, c⟩
  · omega
  · have g : ∀ j, f ≤ j → j < f + ((n.toNat : Nat) : Int) → isF (B j) := fun j x y => a.2 j x (by omega)
    have k1 := decN.nn _ g
    have k2 := decN.le _ g
    have k3 : (10 : Int) ^ n.toNat ≤ 100000000 := by
      have z : ∀ m : Fin 9, (10 : Int) ^ m.val ≤ 100000000 := by decide +kernel
      exact z ⟨n.toNat, by omega⟩
    rw [c (by omega)]
    omega
/-- a token is read -/
theorem nxK.mk {wr : Int → Int → Int → Prop} {B : Int → Int} {μ μ1 : mM} (h0 : μ 106 37 = 0) {p t v f q : Int} (hp : μ 106 33 = p) (tk : TokX wr B p t v f q) (ht : ¬ t = -3) (h1 : μ1 106 37 = 0) (ty : tyM μ1 t v) (hf : μ1 106 34 = f) (hq : μ1 106 33 = q) : nxK wr B μ μ1 := Or.inr ⟨h0, t, v, f, q, by rw [hp]; exact tk, Or.inl ⟨ht, h1, ty, hf, hq⟩⟩
theorem nxK.no {wr : Int → Int → Int → Prop} {B : Int → Int} {μ μ1 : mM} (h0 : μ 106 37 = 0) {p v f q : Int} (hp : μ 106 33 = p) (tk : TokX wr B p (-3) v f q) (h1 : μ1 106 37 = 1) (hf : μ1 106 38 = f) : nxK wr B μ μ1 := Or.inr ⟨h0, -3, v, f, q, by rw [hp]; exact tk, Or.inr ⟨rfl, h1, hf⟩⟩
theorem bR.neg {μ : mM} {k : Int} (h : 0 ≤ k) (hs : μ 106 1 ≤ k) : bR μ k = -1 := by
  unfold bR byteF
  rw [if_pos h, if_neg (by omega)]
theorem alX.zero {C : Int → Prop} {B : Int → Int} {f : Int} : alX C B f f := ⟨Int.le_refl f, fun j a b => by omega⟩
theorem TokX.en {wr : Int → Int → Int → Prop} {B : Int → Int} {p f : Int} (h0 : runX isB B p f) (hb : B f < 0) : TokX wr B p (-1) 0 f f := ⟨h0, Or.inl ⟨hb, rfl, rfl, rfl⟩⟩
theorem TokX.sg {wr : Int → Int → Int → Prop} {B : Int → Int} {p f q b : Int} (h0 : runX isB B p f) (hb : B f = b) (h1 : ¬ b < 0) (hl : b < 97 ∨ 122 < b) (hf : b < 48 ∨ 57 < b) (hq : q = f + 1) : TokX wr B p (1000 + b) 0 f q := by
  subst hb
  exact ⟨h0, Or.inr (Or.inr (Or.inr ⟨⟨h1, isL.no hl, isF.no hf⟩, rfl, rfl, hq⟩))⟩
theorem TokX.wd {B : Int → Int} {p f q n t b : Int} (h0 : runX isB B p f) (hb : B f = b) (hl : 97 ≤ b ∧ b ≤ 122) (h1 : runX isL B f q) (hw : wrW B f n t) (hn : q - f = n) : TokX (wrW B) B p t 0 f q := by
  subst hb; subst hn
  exact ⟨h0, Or.inr (Or.inl ⟨hl, h1, hw, rfl⟩)⟩
theorem TokX.nm {wr : Int → Int → Int → Prop} {B : Int → Int} {p f q n F b : Int} (h0 : runX isB B p f) (hb : B f = b) (hf : 48 ≤ b ∧ b ≤ 57) (h1 : runX isF B f q) (hn : q - f = n) (h9 : n ≤ 9) (hF : F = decN B f n.toNat) : TokX wr B p (-2) F f q := by
  subst hb; subst hn
  exact ⟨h0, Or.inr (Or.inr (Or.inl ⟨hf, h1, Or.inr ⟨h9, rfl, hF⟩⟩))⟩
theorem TokX.nl {wr : Int → Int → Int → Prop} {B : Int → Int} {p f q n b : Int} (h0 : runX isB B p f) (hb : B f = b) (hf : 48 ≤ b ∧ b ≤ 57) (h1 : runX isF B f q) (hn : q - f = n) (h9 : 9 < n) : TokX wr B p (-3) 0 f q := by
  subst hb; subst hn
  exact ⟨h0, Or.inr (Or.inr (Or.inl ⟨hf, h1, Or.inl ⟨h9, rfl, rfl⟩⟩))⟩
theorem nxI.L {B : Int → Int} {f ty n W F q b : Int} (h : nxI B f ty n W F) (ht : ty = 1) (hq : q = f + n) (hb : B q = b) (hl : b < 97 ∨ 122 < b) : runX isL B f q ∧ (n ≤ 8 → W = pkH B f n.toNat) := by
  subst hq
  rcases h with ⟨_, a, c⟩ | ⟨e, _⟩
  · exact ⟨a.run (by rw [hb]; exact isL.no hl), c⟩
  · omega
theorem nxI.G {B : Int → Int} {f ty n W F q b : Int} (h : nxI B f ty n W F) (ht : ty = 2) (hq : q = f + n) (hb : B q = b) (hl : b < 48 ∨ 57 < b) : runX isF B f q ∧ (n ≤ 9 → F = decN B f n.toNat) := by
  subst hq
  rcases h with ⟨e, _⟩ | ⟨_, a, c⟩
  · omega
  · exact ⟨a.run (by rw [hb]; exact isF.no hl), c⟩
theorem wrK.z {μ μ1 : mM} {k : Int} (h : wrK μ μ1 k) (hc : μ 106 37 = 0) : μ1 106 37 = k ∧ μ1 106 38 = μ 106 34 := by
  rcases h with ⟨a, _⟩ | ⟨_, a⟩
  · exact absurd hc a
  · exact a
theorem runX.isLle {B : Int → Int} {f q : Int} (h : runX isL B f q) : ∀ j, f ≤ j → j < q → isL (B j) := h.2.1
theorem wn29 {x : Int} (h0 : ¬ x = KW 0) (h1 : ¬ x = KW 1) (h2 : ¬ x = KW 2) (h3 : ¬ x = KW 3) (h4 : ¬ x = KW 4) (h5 : ¬ x = KW 5) (h6 : ¬ x = KW 6) (h7 : ¬ x = KW 7) (h8 : ¬ x = KW 8) (h9 : ¬ x = KW 9) (h10 : ¬ x = KW 10) (h11 : ¬ x = KW 11) (h12 : ¬ x = KW 12) (h13 : ¬ x = KW 13) (h14 : ¬ x = KW 14) (h15 : ¬ x = KW 15) (h16 : ¬ x = KW 16) (h17 : ¬ x = KW 17) (h18 : ¬ x = KW 18) (h19 : ¬ x = KW 19) (h20 : ¬ x = KW 20) (h21 : ¬ x = KW 21) (h22 : ¬ x = KW 22) (h23 : ¬ x = KW 23) (h24 : ¬ x = KW 24) (h25 : ¬ x = KW 25) (h26 : ¬ x = KW 26) (h27 : ¬ x = KW 27) (h28 : ¬ x = KW 28) : ∀ w : Nat, w < 29 → ¬ x = KW w := by
  intro w hw
  have z : w = 0 ∨ w = 1 ∨ w = 2 ∨ w = 3 ∨ w = 4 ∨ w = 5 ∨ w = 6 ∨ w = 7 ∨ w = 8 ∨ w = 9 ∨ w = 10 ∨ w = 11 ∨ w = 12 ∨ w = 13 ∨ w = 14 ∨ w = 15 ∨ w = 16 ∨ w = 17 ∨ w = 18 ∨ w = 19 ∨ w = 20 ∨ w = 21 ∨ w = 22 ∨ w = 23 ∨ w = 24 ∨ w = 25 ∨ w = 26 ∨ w = 27 ∨ w = 28 := by omega
  rcases z with e | e | e | e | e | e | e | e | e | e | e | e | e | e | e | e | e | e | e | e | e | e | e | e | e | e | e | e | e <;> subst e
  · exact h0
  · exact h1
  · exact h2
  · exact h3
  · exact h4
  · exact h5
  · exact h6
  · exact h7
  · exact h8
  · exact h9
  · exact h10
  · exact h11
  · exact h12
  · exact h13
  · exact h14
  · exact h15
  · exact h16
  · exact h17
  · exact h18
  · exact h19
  · exact h20
  · exact h21
  · exact h22
  · exact h23
  · exact h24
  · exact h25
  · exact h26
  · exact h27
  · exact h28
theorem runX.pos {C : Int → Prop} {B : Int → Int} {f q : Int} (h : runX C B f q) (hf : C (B f)) : f + 1 ≤ q := by
  rcases Int.lt_or_eq_of_le h.1 with g | g
  · omega
  · subst g
    exact absurd hf h.2.2
end
