/-! Messages: what the octets of a tape say, as numbers. B: the octet at a place. -/
def hdA (B : Int → Int) (k : Int) : Int := if bAnd (B k) 16 = 0 then 3 else 4
def prA (B : Int → Int) (k : Int) : Int := bOr (bShl (B k) 8) (B (k + 1))
def szA (B : Int → Int) (k : Int) : Int := if bAnd (B k) 16 = 0 then B (k + 2) else prA B (k + 2)
def tlA (B : Int → Int) (e k : Int) : Prop := e < k + hdA B k ∨ e < k + hdA B k + szA B k
def nxA (B : Int → Int) (k : Int) : Int := k + hdA B k + szA B k
/-- the way from k on is right, m numbers before it -/
def wyN (B : Int → Int) (e : Int) : Nat → Int → Int → Prop
  | 0, k, m => e ≤ k ∧ m ≤ 20
  | n + 1, k, m => (e ≤ k ∧ m ≤ 20) ∨ (k < e ∧ k + 2 ≤ e ∧ (B k = 1 ∨ B k = 2) ∧ 1 ≤ B (k + 1) ∧ k + 2 + 4 * B (k + 1) ≤ e ∧ wyN B e n (k + 2 + 4 * B (k + 1)) (m + B (k + 1)))
def wyX (B : Int → Int) (e k m : Int) : Prop := ∃ n, wyN B e n k m
theorem wyX.done {B : Int → Int} {e k m : Int} (h : e ≤ k) : wyX B e k m ↔ m ≤ 20 := by
  constructor
  · rintro ⟨n, g⟩
    cases n with
    | zero => exact g.2
    | succ n =>
      rcases g with g | g
      · exact g.2
      · have := g.1; omega
  · intro g; exact ⟨0, h, g⟩
theorem wyX.step {B : Int → Int} {e k m : Int} (h : k < e) : wyX B e k m ↔ (k + 2 ≤ e ∧ (B k = 1 ∨ B k = 2) ∧ 1 ≤ B (k + 1) ∧ k + 2 + 4 * B (k + 1) ≤ e ∧ wyX B e (k + 2 + 4 * B (k + 1)) (m + B (k + 1))) := by
  constructor
  · rintro ⟨n, g⟩
    cases n with
    | zero => have := g.1; omega
    | succ n =>
      rcases g with g | ⟨_, g1, g2, g3, g4, g5⟩
      · have := g.1; omega
      · exact ⟨g1, g2, g3, g4, n, g5⟩
  · rintro ⟨g1, g2, g3, g4, n, g5⟩
    exact ⟨n + 1, Or.inr ⟨h, g1, g2, g3, g4, g5⟩⟩
theorem wyN.le {B : Int → Int} {e : Int} : ∀ (n : Nat) (k m : Int), wyN B e n k m → m ≤ 20
  | 0, _, _, h => h.2
  | n + 1, k, m, h => by
    rcases h with h | ⟨_, _, _, h3, _, h5⟩
    · exact h.2
    · have := wyN.le n _ _ h5
      omega
theorem wyX.le {B : Int → Int} {e k m : Int} (h : wyX B e k m) : m ≤ 20 := by
  obtain ⟨n, h⟩ := h
  exact wyN.le n k m h
/-- the prefixes from k on have a fault -/
def pfN (B : Int → Int) (e : Int) : Nat → Int → Prop
  | 0, _ => False
  | n + 1, k => k < e ∧ (32 < B k ∨ e < k + 1 + (B k + 7) / 8 ∨ pfN B e n (k + 1 + (B k + 7) / 8))
def pfX (B : Int → Int) (e k : Int) : Prop := ∃ n, pfN B e n k
theorem pfX.done {B : Int → Int} {e k : Int} (h : e ≤ k) : ¬ pfX B e k := by
  rintro ⟨n, g⟩
  cases n with
  | zero => exact g
  | succ n => have := g.1; omega
theorem pfX.step {B : Int → Int} {e k : Int} (h : k < e) : pfX B e k ↔ (32 < B k ∨ e < k + 1 + (B k + 7) / 8 ∨ pfX B e (k + 1 + (B k + 7) / 8)) := by
  constructor
  · rintro ⟨n, g⟩
    cases n with
    | zero => exact g.elim
    | succ n =>
      rcases g.2 with g | g | g
      · exact Or.inl g
      · exact Or.inr (Or.inl g)
      · exact Or.inr (Or.inr ⟨n, g⟩)
  · rintro (g | g | ⟨n, g⟩)
    · exact ⟨1, h, Or.inl g⟩
    · exact ⟨1, h, Or.inr (Or.inl g)⟩
    · exact ⟨n + 1, h, Or.inr (Or.inr g)⟩
/-- the attribute at k is right -/
def okA (B : Int → Int) (k : Int) : Prop :=
  (B (k + 1) = 1 ∧ bAnd (B k) 207 = 64 ∧ szA B k = 1 ∧ B (k + hdA B k) ≤ 2) ∨
  (B (k + 1) = 2 ∧ bAnd (B k) 207 = 64 ∧ wyX B (nxA B k) (k + hdA B k) 0) ∨
  (B (k + 1) = 4 ∧ bAnd (B k) 207 = 128 ∧ szA B k = 4) ∨
  (B (k + 1) = 8 ∧ bAnd (B k) 207 = 192 ∧ szA B k % 4 = 0) ∨
  ((¬ B (k + 1) = 1 ∧ ¬ B (k + 1) = 2 ∧ ¬ B (k + 1) = 4 ∧ ¬ B (k + 1) = 8) ∧ ¬ bAnd (B k) 128 = 0)
/-- the first place of a fault is kept -/
def ntA (f k f' : Int) : Prop := (f = -99999999 ∧ f' = k) ∨ (¬ f = -99999999 ∧ f' = f)
theorem ntA.uniq {f k a b : Int} (h : ntA f k a) (g : ntA f k b) : a = b := by
  rcases h with ⟨h1, h2⟩ | ⟨h1, h2⟩ <;> rcases g with ⟨g1, g2⟩ | ⟨g1, g2⟩
  · rw [h2, g2]
  · exact absurd h1 g1
  · exact absurd g1 h1
  · rw [h2, g2]
/-- types seen; the origin, the way are there; the first fault of kind 2, of kind 3 -/
abbrev AS : Type := (Nat → Int) × Int × Int × Int × Int
def stA (B : Int → Int) (k : Int) (s s1 : AS) : Prop :=
  (¬ s.1 (B (k + 1)).toNat = 0 ∧ s1.1 = s.1 ∧ s1.2.1 = s.2.1 ∧ s1.2.2.1 = s.2.2.1 ∧ s1.2.2.2.1 = s.2.2.2.1 ∧ ntA s.2.2.2.2 k s1.2.2.2.2) ∨
  (s.1 (B (k + 1)).toNat = 0 ∧ (s1.1 = fun j => if j = (B (k + 1)).toNat then 1 else s.1 j) ∧
    ((B (k + 1) = 1 ∧ okA B k ∧ s1.2.1 = 1) ∨ (¬ (B (k + 1) = 1 ∧ okA B k) ∧ s1.2.1 = s.2.1)) ∧
    ((B (k + 1) = 2 ∧ okA B k ∧ s1.2.2.1 = 1) ∨ (¬ (B (k + 1) = 2 ∧ okA B k) ∧ s1.2.2.1 = s.2.2.1)) ∧
    ((okA B k ∧ s1.2.2.2.1 = s.2.2.2.1) ∨ (¬ okA B k ∧ ntA s.2.2.2.1 k s1.2.2.2.1)) ∧ s1.2.2.2.2 = s.2.2.2.2)
theorem AS.ext {a b : AS} (h1 : a.1 = b.1) (h2 : a.2.1 = b.2.1) (h3 : a.2.2.1 = b.2.2.1) (h4 : a.2.2.2.1 = b.2.2.2.1) (h5 : a.2.2.2.2 = b.2.2.2.2) : a = b := by
  obtain ⟨a1, a2, a3, a4, a5⟩ := a
  obtain ⟨b1, b2, b3, b4, b5⟩ := b
  simp only at h1 h2 h3 h4 h5
  rw [h1, h2, h3, h4, h5]
theorem stA.uniq {B : Int → Int} {k : Int} {s a b : AS} (h : stA B k s a) (g : stA B k s b) : a = b := by
  rcases h with ⟨h0, h1, h2, h3, h4, h5⟩ | ⟨h0, h1, h2, h3, h4, h5⟩ <;> rcases g with ⟨g0, g1, g2, g3, g4, g5⟩ | ⟨g0, g1, g2, g3, g4, g5⟩
  · exact AS.ext (h1.trans g1.symm) (h2.trans g2.symm) (h3.trans g3.symm) (h4.trans g4.symm) (h5.uniq g5)
  · exact absurd g0 h0
  · exact absurd h0 g0
  · refine AS.ext (h1.trans g1.symm) ?_ ?_ ?_ (h5.trans g5.symm)
    · rcases h2 with ⟨x1, x2, x3⟩ | ⟨x1, x2⟩ <;> rcases g2 with ⟨y1, y2, y3⟩ | ⟨y1, y2⟩
      · rw [x3, y3]
      · exact absurd ⟨x1, x2⟩ y1
      · exact absurd ⟨y1, y2⟩ x1
      · rw [x2, y2]
    · rcases h3 with ⟨x1, x2, x3⟩ | ⟨x1, x2⟩ <;> rcases g3 with ⟨y1, y2, y3⟩ | ⟨y1, y2⟩
      · rw [x3, y3]
      · exact absurd ⟨x1, x2⟩ y1
      · exact absurd ⟨y1, y2⟩ x1
      · rw [x2, y2]
    · rcases h4 with ⟨x1, x2⟩ | ⟨x1, x2⟩ <;> rcases g4 with ⟨y1, y2⟩ | ⟨y1, y2⟩
      · rw [x2, y2]
      · exact absurd x1 y1
      · exact absurd y1 x1
      · exact x2.uniq y2
/-- all attributes from k on -/
def atN (B : Int → Int) (e : Int) : Nat → Int → AS → AS → Prop
  | 0, k, s, r => e ≤ k ∧ r = s
  | n + 1, k, s, r => (e ≤ k ∧ r = s) ∨ (k < e ∧ ((tlA B e k ∧ ∃ f, ntA s.2.2.2.1 k f ∧ r = (s.1, s.2.1, s.2.2.1, f, s.2.2.2.2)) ∨ (¬ tlA B e k ∧ ∃ s1, stA B k s s1 ∧ atN B e n (nxA B k) s1 r)))
def atX (B : Int → Int) (e k : Int) (s r : AS) : Prop := ∃ n, atN B e n k s r
theorem atN.uniq {B : Int → Int} {e : Int} : ∀ (n m : Nat) (k : Int) (s a b : AS), atN B e n k s a → atN B e m k s b → a = b := by
  intro n
  induction n with
  | zero =>
    intro m k s a b h g
    cases m with
    | zero => rw [h.2, g.2]
    | succ m =>
      rcases g with g | g
      · rw [h.2, g.2]
      · have h1 := h.1; have g1 := g.1; omega
  | succ n ih =>
    intro m k s a b h g
    cases m with
    | zero =>
      rcases h with h | h
      · rw [h.2, g.2]
      · have h1 := h.1; have g1 := g.1; omega
    | succ m =>
      rcases h with h | ⟨h1, h⟩ <;> rcases g with g | ⟨g1, g⟩
      · rw [h.2, g.2]
      · have := h.1; omega
      · have := g.1; omega
      · rcases h with ⟨h2, f, h3, h4⟩ | ⟨h2, s1, h3, h4⟩ <;> rcases g with ⟨g2, f', g3, g4⟩ | ⟨g2, s2, g3, g4⟩
        · rw [h4, g4, h3.uniq g3]
        · exact absurd h2 g2
        · exact absurd g2 h2
        · have e := h3.uniq g3
          subst e
          exact ih m _ _ _ _ h4 g4
theorem atX.uniq {B : Int → Int} {e k : Int} {s a b : AS} (h : atX B e k s a) (g : atX B e k s b) : a = b := by
  obtain ⟨n, h⟩ := h
  obtain ⟨m, g⟩ := g
  exact atN.uniq n m k s a b h g
theorem atX.done {B : Int → Int} {e k : Int} {s : AS} (h : e ≤ k) : atX B e k s s := ⟨0, h, rfl⟩
theorem atX.bad {B : Int → Int} {e k f : Int} {s : AS} (h : k < e) (t : tlA B e k) (g : ntA s.2.2.2.1 k f) : atX B e k s (s.1, s.2.1, s.2.2.1, f, s.2.2.2.2) := ⟨1, Or.inr ⟨h, Or.inl ⟨t, f, g, rfl⟩⟩⟩
theorem atX.step {B : Int → Int} {e k : Int} {s s1 r : AS} (h : k < e) (t : ¬ tlA B e k) (g : stA B k s s1) (x : atX B e (nxA B k) s1 r) : atX B e k s r := by
  obtain ⟨n, x⟩ := x
  exact ⟨n + 1, Or.inr ⟨h, Or.inr ⟨t, s1, g, x⟩⟩⟩
/-- the kind of a message of n octets -/
def bdA (B : Int → Int) (n : Int) : Prop := n < 2 ∨ n < 2 + prA B 0
def bdB (B : Int → Int) (n b : Int) : Prop := n < b + 2 ∨ n < b + 2 + prA B b
def kdZ (B : Int → Int) (n z : Int) : Prop :=
  (bdA B n ∧ z = 1) ∨ (¬ bdA B n ∧ (((bdB B n (2 + prA B 0) ∨ pfX B (2 + prA B 0) 2 ∨ pfX B n (2 + prA B 0 + 2 + prA B (2 + prA B 0))) ∧ z = 1) ∨
    (¬ (bdB B n (2 + prA B 0) ∨ pfX B (2 + prA B 0) 2 ∨ pfX B n (2 + prA B 0 + 2 + prA B (2 + prA B 0))) ∧ ∃ r : AS, atX B (2 + prA B 0 + 2 + prA B (2 + prA B 0)) (2 + prA B 0 + 2) (fun _ => 0, 0, 0, -99999999, -99999999) r ∧
      (((¬ r.2.2.2.1 = -99999999 ∨ (2 + prA B 0 + 2 + prA B (2 + prA B 0) < n ∧ ¬ (r.2.1 = 1 ∧ r.2.2.1 = 1))) ∧ z = 2) ∨
       (¬ (¬ r.2.2.2.1 = -99999999 ∨ (2 + prA B 0 + 2 + prA B (2 + prA B 0) < n ∧ ¬ (r.2.1 = 1 ∧ r.2.2.1 = 1))) ∧ ((¬ r.2.2.2.2 = -99999999 ∧ z = 3) ∨ (r.2.2.2.2 = -99999999 ∧ z = 0)))))))
theorem kdZ.eq {B : Int → Int} {n z z' : Int} (h : kdZ B n z) (g : kdZ B n z') : z = z' := by
  rcases h with ⟨h1, h2⟩ | ⟨h1, h⟩ <;> rcases g with ⟨g1, g2⟩ | ⟨g1, g⟩
  · rw [h2, g2]
  · exact absurd h1 g1
  · exact absurd g1 h1
  · rcases h with ⟨h3, h4⟩ | ⟨h3, r, h4, h⟩ <;> rcases g with ⟨g3, g4⟩ | ⟨g3, r', g4, g⟩
    · rw [h4, g4]
    · exact absurd h3 g3
    · exact absurd g3 h3
    · have e := h4.uniq g4
      subst e
      rcases h with ⟨h5, h6⟩ | ⟨h5, h⟩ <;> rcases g with ⟨g5, g6⟩ | ⟨g5, g⟩
      · rw [h6, g6]
      · exact absurd h5 g5
      · exact absurd g5 h5
      · rcases h with ⟨h7, h8⟩ | ⟨h7, h8⟩ <;> rcases g with ⟨g7, g8⟩ | ⟨g7, g8⟩
        · rw [h8, g8]
        · exact absurd g7 h7
        · exact absurd h7 g7
        · rw [h8, g8]
