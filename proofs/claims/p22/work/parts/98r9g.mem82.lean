/-! The reader of policies, as one machine over octets. B: the octet at a place (below 0: behind the end). -/
def isB (b : Int) : Prop := b = 32 ∨ b = 10
def isL (b : Int) : Prop := 97 ≤ b ∧ b ≤ 122
def isF (b : Int) : Prop := 48 ≤ b ∧ b ≤ 57
/-- from p on all are of the kind C, up to q, where none is -/
def runX (C : Int → Prop) (B : Int → Int) (p q : Int) : Prop := p ≤ q ∧ (∀ i, p ≤ i → i < q → C (B i)) ∧ ¬ C (B q)
theorem runX.uniq {C : Int → Prop} {B : Int → Int} {p a b : Int} (h : runX C B p a) (g : runX C B p b) : a = b := by
  rcases Int.lt_trichotomy a b with c | c | c
  · exact absurd (g.2.1 a h.1 c) h.2.2
  · exact c
  · exact absurd (h.2.1 b g.1 c) g.2.2
/-- the number that the figures from p up to p + n say -/
def decN (B : Int → Int) (p : Int) : Nat → Int
  | 0 => 0
  | n + 1 => 10 * decN B p n + (B (p + (n : Int)) - 48)
/-- W: the words one behind another, a blank behind each; the word from b up to i, the w-th -/
def wdAt (W : Int → Int) (b i w : Int) : Prop := 0 ≤ b ∧ b < i ∧ W i = 32 ∧ (∀ j, b ≤ j → j < i → ¬ W j = 32) ∧ ∃ m : Nat, m ≤ 200 ∧ w = (m : Int) ∧ ∃ s : Nat → Int, s 0 = 0 ∧ s m = b ∧ ∀ k : Nat, k < m → s k < s (k + 1) ∧ W (s (k + 1) - 1) = 32 ∧ ∀ j, s k ≤ j → j < s (k + 1) - 1 → ¬ W j = 32
abbrev Cfg : Type := Int × Int × Int × Int × Int × Int
/-- a token: its kind (-1 the end, -2 a number, -3 no word, 1000 + c a sign, else a word), its number, its place, what is behind it. wr: which word the letters are -/
def TokX (wr : Int → Int → Int → Prop) (B : Int → Int) (p t v f q : Int) : Prop :=
  runX isB B p f ∧
  ((B f < 0 ∧ t = -1 ∧ v = 0 ∧ q = f) ∨
   (isL (B f) ∧ runX isL B f q ∧ wr f (q - f) t ∧ v = 0) ∨
   (isF (B f) ∧ runX isF B f q ∧ ((9 < q - f ∧ t = -3 ∧ v = 0) ∨ (q - f ≤ 9 ∧ t = -2 ∧ v = decN B f (q - f).toNat))) ∨
   ((¬ B f < 0 ∧ ¬ isL (B f) ∧ ¬ isF (B f)) ∧ t = 1000 + B f ∧ v = 0 ∧ q = f + 1))
theorem TokX.uniq {wr : Int → Int → Int → Prop} {B : Int → Int} {p t v f q t' v' f' q' : Int} (hw : ∀ a n x y, wr a n x → wr a n y → x = y) (h : TokX wr B p t v f q) (g : TokX wr B p t' v' f' q') : t = t' ∧ v = v' ∧ f = f' ∧ q = q' := by
  obtain ⟨h0, h⟩ := h
  obtain ⟨g0, g⟩ := g
  have e := h0.uniq g0
  subst e
  have nL : ∀ b : Int, isL b → ¬ isF b := fun b x y => by unfold isL at x; unfold isF at y; omega
  have p1 : ∀ b : Int, isL b → ¬ b < 0 := fun b x y => by unfold isL at x; omega
  have p2 : ∀ b : Int, isF b → ¬ b < 0 := fun b x y => by unfold isF at x; omega
  rcases h with ⟨a1, a2, a3, a4⟩ | ⟨a1, a2, a3, a4⟩ | ⟨a1, a2, a3⟩ | ⟨a1, a2, a3, a4⟩ <;> rcases g with ⟨b1, b2, b3, b4⟩ | ⟨b1, b2, b3, b4⟩ | ⟨b1, b2, b3⟩ | ⟨b1, b2, b3, b4⟩
  · exact ⟨a2.trans b2.symm, a3.trans b3.symm, rfl, a4.trans b4.symm⟩
  · exact absurd a1 (p1 _ b1)
  · exact absurd a1 (p2 _ b1)
  · exact absurd a1 b1.1
  · exact absurd b1 (p1 _ a1)
  · have e := a2.uniq b2
    subst e
    exact ⟨hw _ _ _ _ a3 b3, a4.trans b4.symm, rfl, rfl⟩
  · exact absurd b1 (nL _ a1)
  · exact absurd a1 b1.2.1
  · exact absurd b1 (p2 _ a1)
  · exact absurd a1 (nL _ b1)
  · have e := a2.uniq b2
    subst e
    rcases a3 with ⟨x1, x2, x3⟩ | ⟨x1, x2, x3⟩ <;> rcases b3 with ⟨y1, y2, y3⟩ | ⟨y1, y2, y3⟩
    · exact ⟨x2.trans y2.symm, x3.trans y3.symm, rfl, rfl⟩
    · omega
    · omega
    · exact ⟨x2.trans y2.symm, x3.trans y3.symm, rfl, rfl⟩
  · exact absurd a1 b1.2.2
  · exact absurd b1 a1.1
  · exact absurd b1 a1.2.1
  · exact absurd b1 a1.2.2
  · exact ⟨a2.trans b2.symm, a3.trans b3.symm, rfl, a4.trans b4.symm⟩
/-- the end: (-1, kind, place) -/
def erC (k f : Int) : Cfg := (-1, k, f, 0, 0, 0)
def faC (k t f : Int) : Cfg := erC (if t = -3 then 1 else k) f
abbrev isAc (t : Int) : Prop := t = 12 ∨ t = 13 ∨ (23 ≤ t ∧ t ≤ 28)
abbrev isTs (t : Int) : Prop := t = 4 ∨ t = 6 ∨ (8 ≤ t ∧ t ≤ 15)
def n0 (p r m t f q : Int) : Cfg := if t = -1 then erC 0 0 else if ¬ (t = 0 ∨ isAc t) then faC 2 t f else if 30 ≤ r then faC 4 t f else if t = 0 then (1, q, r + 1, m, 0, 0) else (6, p, r + 1, m, 0, 0)
def n1 (r m t f q : Int) : Cfg := if t = 3 then (1, q, r, m, 0, 0) else if ¬ isTs t then faC 2 t f else if t = 4 then (9, q, r, m, 0, 0) else if t = 6 then (14, q, r, m, 0, 0) else if t = 8 then (2, q, r, m, 0, 65535) else if t = 9 then (2, q, r, m, 0, 9) else if t = 14 then (2, q, r, m, 0, 2) else if t = 10 then (3, q, r, m, 16, 19) else if t = 15 then (3, q, r, m, 20, 22) else if t = 12 then (4, q, r, m, 1000, 0) else (4, q, r, m, 1000000, 0)
def nNum (s r m x y t v f q : Int) : Cfg := if ¬ t = -2 then faC 2 t f else if v < x ∨ y < v then faC 3 t f else (s, q, r, m, 0, 0)
def n3 (r m x y t f q : Int) : Cfg := if t < x ∨ y < t then faC 2 t f else (5, q, r, m, 0, 0)
def n4 (r m x t f q : Int) : Cfg := if t = 1060 ∨ t = 1061 ∨ t = 1062 then (2, q, r, m, 0, x) else faC 2 t f
def n5 (r m t f q : Int) : Cfg := if t = 1 then (1, q, r, m, 0, 0) else if t = 2 then (6, q, r, m, 0, 0) else faC 2 t f
def n6 (c r m t f q : Int) : Cfg := if ¬ isAc t then faC 2 t f else if t = 25 ∨ t = 26 then (7, q, r, m, 0, 65535) else if t = 12 then (7, q, r, m, 0, 1000) else if t = 13 then (7, q, r, m, 0, 1000000) else if t = 27 then (7, q, r, m, 1, 9) else if t = 28 then (7, q, r, m, 0, c - 1) else (8, q, r, m, 0, 0)
def n8 (r m t f q : Int) : Cfg := if t = 1044 then (6, q, r, m, 0, 0) else if t = 1059 then (0, q, r, m, 0, 0) else faC 2 t f
def n9 (r m x y t v f q : Int) : Cfg := if ¬ t = -2 then faC 2 t f else if v < 0 ∨ 255 < v then faC 3 t f else if x = 3 then (11, q, r, m, bOr (bShl y 8) v, 0) else (10, q, r, m, x, bOr (bShl y 8) v)
def n10 (r m x y t f q : Int) : Cfg := if t = 1046 then (9, q, r, m, x + 1, y) else faC 2 t f
def n11 (r m x t f q : Int) : Cfg := if t = 1047 then (12, q, r, m, x, 0) else faC 2 t f
def n12 (mk : Int → Int) (r m x t v f q : Int) : Cfg := if t = -2 ∧ 0 ≤ v ∧ v ≤ 32 ∧ ¬ bAnd x (bXor (mk v) (-1)) = 0 then faC 3 t f else if ¬ t = -2 then faC 2 t f else if v < 0 ∨ 32 < v then faC 3 t f else (13, q, r, m, v, 0)
def n13 (p r m x t q : Int) : Cfg := if t = 5 then (2, q, r, m, x, 32) else (5, p, r, m, 0, 0)
def n14 (r m t f q : Int) : Cfg := if t = 1040 then (15, q, r, m, 1, 0) else faC 2 t f
def n15 (r m x t v f q : Int) : Cfg := if t = -2 ∨ t = 7 then (if t = -2 ∧ 1000000 < v then faC 3 t f else if 40 ≤ m then faC 4 t f else (16, q, r, m + 1, x, 0)) else if t = 1040 then (if 6 ≤ x then faC 4 t f else (15, q, r, m, x + 1, 0)) else if t = 1124 then (15, q, r, m, x, 0) else if t = 1041 then (if x = 1 then (5, q, r, m, 0, 0) else (16, q, r, m, x - 1, 0)) else faC 2 t f
def n16 (p r m x t q : Int) : Cfg := if t = 1042 ∨ t = 1043 ∨ t = 1063 then (15, q, r, m, x, 0) else (15, p, r, m, x, 0)
/-- what follows -/
def nxC (mk : Int → Int) (c : Int) (a : Cfg) (t v f q : Int) : Cfg :=
  if a.1 = 0 then n0 a.2.1 a.2.2.1 a.2.2.2.1 t f q
  else if a.1 = 1 then n1 a.2.2.1 a.2.2.2.1 t f q
  else if a.1 = 2 then nNum 5 a.2.2.1 a.2.2.2.1 a.2.2.2.2.1 a.2.2.2.2.2 t v f q
  else if a.1 = 3 then n3 a.2.2.1 a.2.2.2.1 a.2.2.2.2.1 a.2.2.2.2.2 t f q
  else if a.1 = 4 then n4 a.2.2.1 a.2.2.2.1 a.2.2.2.2.1 t f q
  else if a.1 = 5 then n5 a.2.2.1 a.2.2.2.1 t f q
  else if a.1 = 6 then n6 c a.2.2.1 a.2.2.2.1 t f q
  else if a.1 = 7 then nNum 8 a.2.2.1 a.2.2.2.1 a.2.2.2.2.1 a.2.2.2.2.2 t v f q
  else if a.1 = 8 then n8 a.2.2.1 a.2.2.2.1 t f q
  else if a.1 = 9 then n9 a.2.2.1 a.2.2.2.1 a.2.2.2.2.1 a.2.2.2.2.2 t v f q
  else if a.1 = 10 then n10 a.2.2.1 a.2.2.2.1 a.2.2.2.2.1 a.2.2.2.2.2 t f q
  else if a.1 = 11 then n11 a.2.2.1 a.2.2.2.1 a.2.2.2.2.1 t f q
  else if a.1 = 12 then n12 mk a.2.2.1 a.2.2.2.1 a.2.2.2.2.1 t v f q
  else if a.1 = 13 then n13 a.2.1 a.2.2.1 a.2.2.2.1 a.2.2.2.2.1 t q
  else if a.1 = 14 then n14 a.2.2.1 a.2.2.2.1 t f q
  else if a.1 = 15 then n15 a.2.2.1 a.2.2.2.1 a.2.2.2.2.1 t v f q
  else n16 a.2.1 a.2.2.1 a.2.2.2.1 a.2.2.2.2.1 t q
section Mch
variable {wr : Int → Int → Int → Prop} {mk : Int → Int} {B : Int → Int} {c : Int}
def stC (wr : Int → Int → Int → Prop) (mk : Int → Int) (B : Int → Int) (c : Int) (a b : Cfg) : Prop := ¬ a.1 = -1 ∧ ∃ t v f q, TokX wr B a.2.1 t v f q ∧ b = nxC mk c a t v f q
theorem stC.uniq (hw : ∀ a n x y, wr a n x → wr a n y → x = y) {a b b' : Cfg} (h : stC wr mk B c a b) (g : stC wr mk B c a b') : b = b' := by
  obtain ⟨_, t, v, f, q, h1, h2⟩ := h
  obtain ⟨_, t', v', f', q', g1, g2⟩ := g
  obtain ⟨e1, e2, e3, e4⟩ := h1.uniq hw g1
  rw [h2, g2, e1, e2, e3, e4]
def rcN (wr : Int → Int → Int → Prop) (mk : Int → Int) (B : Int → Int) (c : Int) : Nat → Cfg → Cfg → Prop
  | 0, a, b => a = b
  | n + 1, a, b => ∃ x, rcN wr mk B c n a x ∧ stC wr mk B c x b
def rcC (wr : Int → Int → Int → Prop) (mk : Int → Int) (B : Int → Int) (c : Int) (a b : Cfg) : Prop := ∃ n, rcN wr mk B c n a b
theorem rcC.refl {a : Cfg} : rcC wr mk B c a a := ⟨0, rfl⟩
theorem rcC.go {a b d : Cfg} (h : rcC wr mk B c a b) (g : stC wr mk B c b d) : rcC wr mk B c a d := by
  obtain ⟨n, h⟩ := h
  exact ⟨n + 1, b, h, g⟩
theorem rcN.uniq (hw : ∀ a n x y, wr a n x → wr a n y → x = y) : ∀ (n : Nat) {a b b' : Cfg}, rcN wr mk B c n a b → rcN wr mk B c n a b' → b = b'
  | 0, _, _, _, h, g => h.symm.trans g
  | n + 1, _, _, _, ⟨x, h1, h2⟩, ⟨y, g1, g2⟩ => by
    have e := rcN.uniq hw n h1 g1
    subst e
    exact h2.uniq hw g2
/-- what is reached in fewer steps leads there -/
theorem rcN.pre : ∀ (n k : Nat) {a b : Cfg}, rcN wr mk B c (n + k) a b → ∃ x, rcN wr mk B c n a x ∧ rcN wr mk B c k x b
  | n, 0, _, b, h => ⟨b, h, rfl⟩
  | n, k + 1, _, _, ⟨x, h1, h2⟩ => by
    obtain ⟨y, g1, g2⟩ := rcN.pre n k h1
    exact ⟨y, g1, x, g2, h2⟩
theorem rcN.end : ∀ (k : Nat) {k0 f0 : Int} {b : Cfg}, rcN wr mk B c k (erC k0 f0) b → b = erC k0 f0
  | 0, _, _, _, h => h.symm
  | k + 1, _, _, _, ⟨x, h1, h2⟩ => by
    have e := rcN.end k h1
    subst e
    exact absurd rfl h2.1
theorem rcC.fin (hw : ∀ a n x y, wr a n x → wr a n y → x = y) {a : Cfg} {k f k' f' : Int} (h : rcC wr mk B c a (erC k f)) (g : rcC wr mk B c a (erC k' f')) : k = k' ∧ f = f' := by
  obtain ⟨n, h⟩ := h
  obtain ⟨m, g⟩ := g
  have e : erC k f = erC k' f' := by
    rcases Nat.le_total n m with l | l
    · obtain ⟨d, rfl⟩ := Nat.exists_eq_add_of_le l
      obtain ⟨x, x1, x2⟩ := rcN.pre n d g
      have e := rcN.uniq hw n h x1
      subst e
      exact (rcN.end d x2).symm
    · obtain ⟨d, rfl⟩ := Nat.exists_eq_add_of_le l
      obtain ⟨x, x1, x2⟩ := rcN.pre m d h
      have e := rcN.uniq hw m g x1
      subst e
      exact rcN.end d x2
  exact ⟨congrArg (fun z : Cfg => z.2.1) e, congrArg (fun z : Cfg => z.2.2.1) e⟩
theorem rcC.st {a : Cfg} {s p r m x y t v f q : Int} (h : rcC wr mk B c a (s, p, r, m, x, y)) (hs : ¬ s = -1) (k : TokX wr B p t v f q) : rcC wr mk B c a (nxC mk c (s, p, r, m, x, y) t v f q) := h.go ⟨hs, t, v, f, q, k, rfl⟩
/-- at a token that is no word the machine ends -/
theorem rcC.no {a : Cfg} {s p r m x y v f q : Int} (h : rcC wr mk B c a (s, p, r, m, x, y)) (hs : 0 ≤ s ∧ s ≤ 16) (hx : s = 3 → 0 ≤ x) (k : TokX wr B p (-3) v f q) : rcC wr mk B c a (erC 1 f) := by
  have two : ∀ {s' x' y' : Int}, s' = 5 ∨ s' = 15 → rcC wr mk B c a (s', p, r, m, x', y') → rcC wr mk B c a (erC 1 f) := by
    intro s' x' y' e g
    rcases e with e | e <;> subst e
    · exact g.st (by decide) k
    · exact g.st (by decide) k
  have z : s = 0 ∨ s = 1 ∨ s = 2 ∨ s = 3 ∨ s = 4 ∨ s = 5 ∨ s = 6 ∨ s = 7 ∨ s = 8 ∨ s = 9 ∨ s = 10 ∨ s = 11 ∨ s = 12 ∨ s = 13 ∨ s = 14 ∨ s = 15 ∨ s = 16 := by omega
  rcases z with e | e | e | e | e | e | e | e | e | e | e | e | e | e | e | e | e <;> subst e
  · exact h.st (by decide) k
  · exact h.st (by decide) k
  · exact h.st (by decide) k
  · have g := h.st (by decide) k
    have e : nxC mk c (3, p, r, m, x, y) (-3) v f q = erC 1 f := by
      show n3 r m x y (-3) f q = erC 1 f
      unfold n3
      rw [if_pos (Or.inl (by have := hx rfl; omega))]
      rfl
    rw [e] at g; exact g
  · exact h.st (by decide) k
  · exact h.st (by decide) k
  · exact h.st (by decide) k
  · exact h.st (by decide) k
  · exact h.st (by decide) k
  · exact h.st (by decide) k
  · exact h.st (by decide) k
  · exact h.st (by decide) k
  · exact h.st (by decide) k
  · exact two (Or.inl rfl) (h.st (by decide) k)
  · exact h.st (by decide) k
  · exact h.st (by decide) k
  · exact two (Or.inr rfl) (h.st (by decide) k)
end Mch
