/-! The class's reader: its tokens, where it stands. -/
section Rdr
variable {wr : Int → Int → Int → Prop} {mk : Int → Int} {B : Int → Int} {c : Int}
def cT (μ : mM) : Int := μ 24 (μ 23 9).toNat
def cV (μ : mM) : Int := μ 25 (μ 23 9).toNat
def cP (μ : mM) : Int := μ 26 (μ 23 9).toNat
/-- the tokens from i on are those of the octets from p on -/
def sqN (wr : Int → Int → Int → Prop) (B : Int → Int) (μ : mM) : Nat → Int → Int → Prop
  | 0, i, p => i = μ 23 8 ∧ μ 24 i.toNat = -1 ∧ ∃ q, TokX wr B p (-1) 0 (μ 26 i.toNat) q
  | n + 1, i, p => i < μ 23 8 ∧ ¬ μ 24 i.toNat = -1 ∧ ∃ q, TokX wr B p (μ 24 i.toNat) (μ 25 i.toNat) (μ 26 i.toNat) q ∧ sqN wr B μ n (i + 1) q
def SqT (wr : Int → Int → Int → Prop) (B : Int → Int) (μ : mM) (i p : Int) : Prop := ∃ n, sqN wr B μ n i p
theorem sqN.of {μ μ1 : mM} (e4 : μ1 24 = μ 24) (e5 : μ1 25 = μ 25) (e6 : μ1 26 = μ 26) (e8 : μ1 23 8 = μ 23 8) : ∀ (n : Nat) (i p : Int), sqN wr B μ n i p → sqN wr B μ1 n i p
  | 0, i, p, h => by
    unfold sqN at h ⊢
    rw [e4, e6, e8]; exact h
  | n + 1, i, p, h => by
    unfold sqN at h ⊢
    rw [e4, e5, e6, e8]
    obtain ⟨h1, h2, q, h3, h4⟩ := h
    exact ⟨h1, h2, q, h3, sqN.of e4 e5 e6 e8 n _ _ h4⟩
theorem SqT.of {μ μ1 : mM} {i p : Int} (h : SqT wr B μ i p) (e4 : μ1 24 = μ 24) (e5 : μ1 25 = μ 25) (e6 : μ1 26 = μ 26) (e8 : μ1 23 8 = μ 23 8) : SqT wr B μ1 i p := by
  obtain ⟨n, h⟩ := h
  exact ⟨n, sqN.of e4 e5 e6 e8 n i p h⟩
theorem SqT.end {μ : mM} {i p : Int} (h : SqT wr B μ i p) (ht : μ 24 i.toNat = -1) : i = μ 23 8 ∧ ∃ q, TokX wr B p (-1) 0 (μ 26 i.toNat) q := by
  obtain ⟨n, h⟩ := h
  cases n with
  | zero => exact ⟨h.1, h.2.2⟩
  | succ n => exact absurd ht h.2.1
theorem SqT.tok {μ : mM} {i p : Int} (h : SqT wr B μ i p) (ht : ¬ μ 24 i.toNat = -1) : i < μ 23 8 ∧ ∃ q, TokX wr B p (μ 24 i.toNat) (μ 25 i.toNat) (μ 26 i.toNat) q ∧ SqT wr B μ (i + 1) q := by
  obtain ⟨n, h⟩ := h
  cases n with
  | zero => exact absurd h.2.1 ht
  | succ n =>
    obtain ⟨h1, _, q, h3, h4⟩ := h
    exact ⟨h1, q, h3, n, h4⟩
def CSt (wr : Int → Int → Int → Prop) (mk : Int → Int) (B : Int → Int) (c : Int) (μ : mM) (e : Int → Cfg) : Prop :=
  (μ 23 18 = 0 ∧ ∃ p, SqT wr B μ (μ 23 9) p ∧ rcC wr mk B c (0, 0, 0, 0, 0, 0) (e p)) ∨
  (¬ μ 23 18 = 0 ∧ μ 23 9 = μ 23 8 ∧ μ 24 (μ 23 8).toNat = -1 ∧ rcC wr mk B c (0, 0, 0, 0, 0, 0) (erC (μ 23 18) (μ 23 19)))
/-- the tables of tokens are the same -/
def tbK (μ μ1 : mM) : Prop := μ1 24 = μ 24 ∧ μ1 25 = μ 25 ∧ μ1 26 = μ 26 ∧ μ1 23 8 = μ 23 8
def flK (μ μ1 : mM) (k : Int) : Prop := μ1 23 9 = μ 23 8 ∧ ((¬ μ 23 18 = 0 ∧ μ1 23 18 = μ 23 18 ∧ μ1 23 19 = μ 23 19) ∨ (μ 23 18 = 0 ∧ μ1 23 18 = (if cT μ = -3 then 1 else k) ∧ μ1 23 19 = cP μ))
def mvK (μ μ1 : mM) : Prop := μ1 23 9 = μ 23 9 + 1 ∧ μ1 23 18 = μ 23 18 ∧ μ1 23 19 = μ 23 19
def smK (μ μ1 : mM) : Prop := μ1 23 9 = μ 23 9 ∧ μ1 23 18 = μ 23 18 ∧ μ1 23 19 = μ 23 19
theorem CSt.same {μ μ1 : mM} {e : Int → Cfg} (h : CSt wr mk B c μ e) (tb : tbK μ μ1) (s : smK μ μ1) : CSt wr mk B c μ1 e := by
  obtain ⟨t1, t2, t3, t4⟩ := tb
  obtain ⟨s1, s2, s3⟩ := s
  rcases h with ⟨h1, p, h2, h3⟩ | ⟨h1, h2, h3, h4⟩
  · refine Or.inl ⟨s2.trans h1, p, ?_, h3⟩
    rw [s1]
    exact h2.of t1 t2 t3 t4
  · refine Or.inr ⟨by rw [s2]; exact h1, by rw [s1, t4]; exact h2, by rw [t1, t4]; exact h3, by rw [s2, s3]; exact h4⟩
/-- a token is taken -/
theorem CSt.move {μ μ1 : mM} {e e' : Int → Cfg} (h : CSt wr mk B c μ e) (tb : tbK μ μ1) (s : mvK μ μ1) (ht : ¬ cT μ = -1) (hs : ∀ p, ¬ (e p).1 = -1 ∧ (e p).2.1 = p) (st : ∀ p q, nxC mk c (e p) (cT μ) (cV μ) (cP μ) q = e' q) : CSt wr mk B c μ1 e' := by
  obtain ⟨t1, t2, t3, t4⟩ := tb
  obtain ⟨s1, s2, s3⟩ := s
  rcases h with ⟨h1, p, h2, h3⟩ | ⟨h1, h2, h3, h4⟩
  · obtain ⟨_, q, g1, g2⟩ := h2.tok ht
    refine Or.inl ⟨s2.trans h1, q, ?_, ?_⟩
    · rw [s1]
      exact g2.of t1 t2 t3 t4
    · rw [← st p q]
      exact h3.go ⟨(hs p).1, _, _, _, _, by rw [(hs p).2]; exact g1, rfl⟩
  · refine absurd ?_ ht
    unfold cT
    rw [h2]; exact h3
/-- nothing is taken, the machine goes on at the same place -/
theorem CSt.stay {μ μ1 : mM} {e e' : Int → Cfg} (h : CSt wr mk B c μ e) (tb : tbK μ μ1) (s : smK μ μ1) (hs : ∀ p, ¬ (e p).1 = -1 ∧ (e p).2.1 = p) (st : ∀ p v q, nxC mk c (e p) (cT μ) v (cP μ) q = e' p) : CSt wr mk B c μ1 e' := by
  obtain ⟨t1, t2, t3, t4⟩ := tb
  obtain ⟨s1, s2, s3⟩ := s
  rcases h with ⟨h1, p, h2, h3⟩ | ⟨h1, h2, h3, h4⟩
  · refine Or.inl ⟨s2.trans h1, p, by rw [s1]; exact h2.of t1 t2 t3 t4, ?_⟩
    by_cases x : cT μ = -1
    · obtain ⟨_, q, g⟩ := h2.end x
      rw [← st p 0 q, x]
      exact h3.go ⟨(hs p).1, _, _, _, _, by rw [(hs p).2]; exact g, rfl⟩
    · obtain ⟨_, q, g1, _⟩ := h2.tok x
      rw [← st p (cV μ) q]
      exact h3.go ⟨(hs p).1, _, _, _, _, by rw [(hs p).2]; exact g1, rfl⟩
  · exact Or.inr ⟨by rw [s2]; exact h1, by rw [s1, t4]; exact h2, by rw [t1, t4]; exact h3, by rw [s2, s3]; exact h4⟩
/-- a fault -/
theorem CSt.fail {μ μ1 : mM} {e e' : Int → Cfg} {k : Int} (h : CSt wr mk B c μ e) (hend : μ 24 (μ 23 8).toNat = -1) (tb : tbK μ μ1) (s : flK μ μ1 k) (hk : ¬ k = 0) (hs : ∀ p, ¬ (e p).1 = -1 ∧ (e p).2.1 = p) (st : ∀ p v q, (¬ cT μ = -1 → v = cV μ) → nxC mk c (e p) (cT μ) v (cP μ) q = faC k (cT μ) (cP μ)) : CSt wr mk B c μ1 e' := by
  obtain ⟨t1, t2, t3, t4⟩ := tb
  obtain ⟨s1, s2⟩ := s
  have a9 : μ1 23 9 = μ1 23 8 := by rw [s1, t4]
  have aE : μ1 24 (μ1 23 8).toNat = -1 := by rw [t1, t4]; exact hend
  rcases h with ⟨h1, p, h2, h3⟩ | ⟨h1, h2, h3, h4⟩
  · rcases s2 with ⟨x, _, _⟩ | ⟨_, x1, x2⟩
    · exact absurd h1 x
    · refine Or.inr ⟨?_, a9, aE, ?_⟩
      · rw [x1]
        by_cases y : cT μ = -3
        · rw [if_pos y]; decide
        · rw [if_neg y]; exact hk
      · rw [x1, x2]
        show rcC wr mk B c (0, 0, 0, 0, 0, 0) (faC k (cT μ) (cP μ))
        by_cases x : cT μ = -1
        · obtain ⟨_, q, g⟩ := h2.end x
          have e1 := st p 0 q (fun y => absurd x y)
          rw [← e1, x]
          exact h3.go ⟨(hs p).1, _, _, _, _, by rw [(hs p).2]; exact g, rfl⟩
        · obtain ⟨_, q, g1, _⟩ := h2.tok x
          rw [← st p (cV μ) q (fun _ => rfl)]
          exact h3.go ⟨(hs p).1, _, _, _, _, by rw [(hs p).2]; exact g1, rfl⟩
  · rcases s2 with ⟨_, x1, x2⟩ | ⟨x, _, _⟩
    · exact Or.inr ⟨by rw [x1]; exact h1, a9, aE, by rw [x1, x2]; exact h4⟩
    · exact absurd x h1
/-- at the end the machine has ended as the class says -/
theorem CSt.done {μ : mM} {r m : Int} (h : CSt wr mk B c μ (fun p => (0, p, r, m, 0, 0))) (ht : cT μ = -1) : ∃ f, rcC wr mk B c (0, 0, 0, 0, 0, 0) (erC (μ 23 18) f) ∧ (¬ μ 23 18 = 0 → f = μ 23 19) := by
  rcases h with ⟨h1, p, h2, h3⟩ | ⟨h1, h2, h3, h4⟩
  · obtain ⟨_, q, g⟩ := h2.end ht
    refine ⟨0, ?_, fun x => absurd h1 x⟩
    rw [h1]
    exact h3.go ⟨by show ¬ (0 : Int) = -1; decide, _, _, _, _, g, rfl⟩
  · exact ⟨_, h4, fun _ => rfl⟩
end Rdr
