/-! Tables of prefixes: searched, grown; the answers of prefix on both sides. -/
def mskF (l : Int) : Int := if l = 0 then 0 else bShl (-1) (32 - l)
theorem mskF.zero {l : Int} (h : l = 0) : 0 = mskF l := (if_pos h).symm
theorem mskF.pos {l z : Int} (h : ¬ l = 0) (q : bShl (-1) (32 - l) = z) : z = mskF l := by unfold mskF; rw [if_neg h, q]
def badP (x l : Int) : Prop := l < 0 ∨ 32 < l ∨ ¬ bAnd x (bXor (mskF l) (-1)) = 0
theorem andMk {x l m y z : Int} (hm : m = mskF l) (h1 : bXor m (-1) = y) (h2 : bAnd x y = z) : bAnd x (bXor (mskF l) (-1)) = z := by rw [← hm, h1, h2]
theorem badP.r {x l : Int} (h : l < 0 ∨ 32 < l) : badP x l := h.elim Or.inl fun h => Or.inr (Or.inl h)
theorem badP.a {x l z : Int} (h : bAnd x (bXor (mskF l) (-1)) = z) (hz : ¬ z = 0) : badP x l := Or.inr (Or.inr (by rw [h]; exact hz))
theorem badP.n {x l z : Int} (hl : 0 ≤ l ∧ l ≤ 32) (h : bAnd x (bXor (mskF l) (-1)) = z) (hz : z = 0) : ¬ badP x l := fun b => by
  rcases b with b | b | b
  · omega
  · omega
  · exact b (h.trans hz)
def hasP (μ : mM) (a b : Nat) (n x y : Int) : Prop := ∃ i : Nat, (i : Int) < n ∧ μ a i = x ∧ μ b i = y
def noneP (μ : mM) (a b : Nat) (n x y : Int) : Prop := ∀ i : Nat, (i : Int) < n → ¬ (μ a i = x ∧ μ b i = y)
theorem noneP.zero {μ : mM} {a b : Nat} {n x y : Int} (h : n ≤ 0) : noneP μ a b n x y := fun i q => by omega
theorem noneP.succ {μ : mM} {a b : Nat} {n x y u v : Int} (h : noneP μ a b n x y) (h0 : 0 ≤ n) (qa : μ a n.toNat = u) (hne : ¬ u = x) : noneP μ a b (n + 1) x y := fun i q k => by
  by_cases e : i = n.toNat
  · rw [e, qa] at k; exact hne k.1
  · exact h i (by omega) k
theorem noneP.succ2 {μ : mM} {a b : Nat} {n x y u v : Int} (h : noneP μ a b n x y) (h0 : 0 ≤ n) (qb : μ b n.toNat = v) (hne : ¬ v = y) : noneP μ a b (n + 1) x y := fun i q k => by
  by_cases e : i = n.toNat
  · rw [e, qb] at k; exact hne k.2
  · exact h i (by omega) k
theorem noneP.no {μ : mM} {a b : Nat} {n m x y : Int} (h : noneP μ a b n x y) (hm : m ≤ n) : ¬ hasP μ a b m x y := fun ⟨i, q, k⟩ => h i (by omega) k
theorem hasP.of {μ : mM} {a b : Nat} {n x y u v i : Int} (h0 : 0 ≤ i ∧ i < n) (qa : μ a i.toNat = u) (qb : μ b i.toNat = v) (hx : u = x) (hy : v = y) : hasP μ a b n x y := ⟨i.toNat, by omega, by rw [qa, hx], by rw [qb, hy]⟩
/-- the answer of prefix -/
def preA (A : Prop) (n x l z : Int) : Prop := (badP x l ∧ z = -1) ∨ (¬ badP x l ∧ ((A ∧ z = -2) ∨ (¬ A ∧ ((10 ≤ n ∧ z = -3) ∨ (n < 10 ∧ z = n)))))
theorem preA.eq {A B : Prop} {n x l z y : Int} (h : preA A n x l z) (k : preA B n x l y) (e : A ↔ B) : z = y := by
  rcases h with ⟨h1, h2⟩ | ⟨h1, h2⟩ <;> rcases k with ⟨k1, k2⟩ | ⟨k1, k2⟩
  · omega
  · exact absurd h1 k1
  · exact absurd k1 h1
  · rcases h2 with ⟨a, h2⟩ | ⟨a, h2⟩ <;> rcases k2 with ⟨b, k2⟩ | ⟨b, k2⟩
    · omega
    · exact absurd (e.mp a) b
    · exact absurd (e.mpr b) a
    · omega
def adT (μ μ1 : mM) (a b : Nat) (n x y : Int) : Prop := μ1 a n.toNat = x ∧ μ1 b n.toNat = y ∧ ∀ i : Nat, (i : Int) < n → μ1 a i = μ a i ∧ μ1 b i = μ b i
theorem adT.two {μ μa μb : mM} {a b : Nat} {n x y : Int} (u1 : mU μ a n.toNat x μa) (u2 : mU μa b n.toNat y μb) (hab : a ≠ b) : adT μ μb a b n x y :=
  ⟨(u2.2 a _ (Or.inl hab)).trans u1.1, u2.1, fun i h => ⟨(u2.2 a i (Or.inl hab)).trans (u1.2 a i (Or.inr (by omega))), (u2.2 b i (Or.inr (by omega))).trans (u1.2 b i (Or.inl hab.symm))⟩⟩
theorem adT.oth {μ μ1 μ2 : mM} {a b c k : Nat} {n x y z : Int} (h : adT μ μ1 a b n x y) (u : mU μ1 c k z μ2) (ha : a ≠ c) (hb : b ≠ c) : adT μ μ2 a b n x y :=
  ⟨(u.2 a _ (Or.inl ha)).trans h.1, (u.2 b _ (Or.inl hb)).trans h.2.1, fun i q => ⟨(u.2 a i (Or.inl ha)).trans (h.2.2 i q).1, (u.2 b i (Or.inl hb)).trans (h.2.2 i q).2⟩⟩
def adQ (μ μ1 : mM) (c k a b : Nat) (x y z : Int) : Prop := (0 ≤ z ∧ μ1 c k = μ c k + 1 ∧ adT μ μ1 a b (μ c k) x y) ∨ (z < 0 ∧ μ1 = μ)
theorem adQ.add {μ μ1 : mM} {c k a b : Nat} {x y z n m : Int} (q : μ c k = n) (hz : 0 ≤ z) (q1 : μ1 c k = m) (hm : m = n + 1) (h : adT μ μ1 a b n x y) : adQ μ μ1 c k a b x y z := Or.inl ⟨hz, by rw [q1, q, hm], by rw [q]; exact h⟩
/-! Rules by their figures. -/
def rlK (s l : Int) : Prop := if h : l ≤ 0 then True else (1 ≤ l % 10 ∧ l % 10 ≤ 6 ∧ bAnd (bShr s (l % 10)) 1 = 0) ∧ rlK (bOr s (bShl 1 (l % 10))) (l / 10)
termination_by l.toNat
decreasing_by omega
theorem rlK.zero {s l : Int} (h : l ≤ 0) : rlK s l := by unfold rlK; rw [dif_pos h]; trivial
theorem rlK.pos {s l : Int} (h : 0 < l) : rlK s l ↔ (1 ≤ l % 10 ∧ l % 10 ≤ 6 ∧ bAnd (bShr s (l % 10)) 1 = 0) ∧ rlK (bOr s (bShl 1 (l % 10))) (l / 10) := by
  rw [rlK, dif_neg (by omega)]
theorem rlK.step {s l f a b e s' l' : Int} {P : Prop} (k : P ↔ rlK s l) (h : 0 < l) (hf : l % 10 = f) (h1 : 1 ≤ f ∧ f ≤ 6) (q1 : bShr s f = a) (q2 : bAnd a 1 = b) (hb : b = 0) (q3 : bShl 1 f = e) (q4 : bOr s e = s') (hl : l / 10 = l') : P ↔ rlK s' l' := by
  rw [k, rlK.pos h, hf, q1, q2, q3, q4, hl]
  exact ⟨fun x => x.2, fun x => ⟨⟨h1.1, h1.2, hb⟩, x⟩⟩
theorem rlK.bad {s l f : Int} {P : Prop} (k : P ↔ rlK s l) (h : 0 < l) (hf : l % 10 = f) (h1 : f < 1 ∨ 6 < f) : ¬ P := by
  rw [k, rlK.pos h, hf]
  intro x; omega
theorem rlK.bad2 {s l f a b : Int} {P : Prop} (k : P ↔ rlK s l) (h : 0 < l) (hf : l % 10 = f) (q1 : bShr s f = a) (q2 : bAnd a 1 = b) (hb : ¬ b = 0) : ¬ P := by
  rw [k, rlK.pos h, hf, q1, q2]
  intro x; exact hb x.1.2.2
def rlA (dm p1 p2 z : Int) : Prop := ((p1 < 0 ∨ dm ≤ p1 ∨ ¬ (0 ≤ p2 ∧ rlK 0 p2)) ∧ z = -1) ∨ ((0 ≤ p1 ∧ p1 < dm ∧ 0 ≤ p2 ∧ rlK 0 p2) ∧ z = 0)
theorem rlA.eq {dm p1 p2 z y : Int} (h : rlA dm p1 p2 z) (k : rlA dm p1 p2 y) : z = y := by
  rcases h with ⟨h1, h2⟩ | ⟨h1, h2⟩ <;> rcases k with ⟨k1, k2⟩ | ⟨k1, k2⟩
  · omega
  · exfalso
    rcases h1 with h1 | h1 | h1
    · omega
    · omega
    · exact h1 k1.2.2
  · exfalso
    rcases k1 with k1 | k1 | k1
    · omega
    · omega
    · exact k1 h1.2.2
  · omega
/-! Rows of rights. -/
def tabS (μ μ1 : mM) (a : Nat) (n : Int) : Prop := ∀ i : Nat, (i : Int) < n → μ1 a i = μ a i
theorem tabS.refl {μ : mM} {a : Nat} {n : Int} : tabS μ μ a n := fun _ _ => rfl
theorem tabS.up {μ μ1 μ2 : mM} {a : Nat} {n e z : Int} (h : tabS μ μ1 a n) (u : mU μ1 a e.toNat z μ2) (he : n ≤ e) : tabS μ μ2 a n := fun i q => (u.2 a i (Or.inr (by omega))).trans (h i q)
theorem tabS.oth {μ μ1 μ2 : mM} {a b k : Nat} {n z : Int} (h : tabS μ μ1 a n) (u : mU μ1 b k z μ2) (hb : Nat.beq a b = false) : tabS μ μ2 a n := fun i q => (u.2 a i (Or.inl (fun e => by rw [e, Nat.beq_refl] at hb; cases hb))).trans (h i q)
theorem tabS.fr {w : mW} {μ μ1 μ2 : mM} {lf : List Nat} {a : Nat} {n : Int} (h : tabS μ μ1 a n) (F : mF lf w μ1 μ2) (hA : mAt w a a) (hl : lf.elem (1000 * a + 999) = false) (hm : mArr a = true) : tabS μ μ2 a n := fun i q => by
  refine (F a i ?_).trans (h i q)
  unfold mRg; rw [hA.1, hm]; exact hl
def rgT (μ μ1 : mM) (a b : Nat) (n x s z : Int) : Prop := (0 ≤ z ∧ tabS μ μ1 a n ∧ tabS μ μ1 b n ∧ μ1 a n.toNat = x ∧ μ1 b n.toNat = s) ∨ (z < 0 ∧ μ1 = μ)
def skT (μ μ1 : mM) (a b : Nat) (n r d no z : Int) : Prop := ((r < 0 ∨ n ≤ r ∨ d < μ a r.toNat) ∧ z = -1 ∧ μ1 = μ) ∨ ((0 ≤ r ∧ r < n ∧ μ a r.toNat ≤ d) ∧ ((¬ μ b r.toNat = no ∧ z = -2 ∧ μ1 = μ) ∨ (μ b r.toNat = no ∧ z = 0 ∧ tabS μ μ1 a n ∧ one μ μ1 b r ∧ μ1 b r.toNat = d)))
def skR (a b : Int) : Prop := (a = -1 ∧ b = -99999999) ∨ (a = b ∧ 0 ≤ a)
theorem rgEq {a1 a2 a3 a4 a5 a6 n dm ln q n' dm' ln' q' z o z' o' : Int}
    (h0 : a1 < 0 ∨ n ≤ a1 ∨ a3 < 0 ∨ dm ≤ a3 ∨ a2 < ln ∨ 32 < a2 ∨ a4 < 0 ∨ a5 ≤ a4 ∨ a6 < 0 → z = -1 ∧ o = q) (h1 : 0 ≤ a1 → a1 < n → 0 ≤ a3 → a3 < dm → ln ≤ a2 → a2 ≤ 32 → 0 ≤ a4 → a4 < a5 → 0 ≤ a6 → q = 30 → z = -3 ∧ o = q) (h2 : 0 ≤ a1 → a1 < n → 0 ≤ a3 → a3 < dm → ln ≤ a2 → a2 ≤ 32 → 0 ≤ a4 → a4 < a5 → 0 ≤ a6 → q < 30 → z = q ∧ o = q + 1)
    (k0 : a1 < 0 ∨ n' ≤ a1 ∨ a3 < 0 ∨ dm' ≤ a3 ∨ a2 < ln' ∨ 32 < a2 ∨ a4 < 0 ∨ a5 ≤ a4 ∨ a6 < 0 → z' = -1 ∧ o' = q') (k1 : 0 ≤ a1 → a1 < n' → 0 ≤ a3 → a3 < dm' → ln' ≤ a2 → a2 ≤ 32 → 0 ≤ a4 → a4 < a5 → 0 ≤ a6 → q' = 30 → z' = -3 ∧ o' = q') (k2 : 0 ≤ a1 → a1 < n' → 0 ≤ a3 → a3 < dm' → ln' ≤ a2 → a2 ≤ 32 → 0 ≤ a4 → a4 < a5 → 0 ≤ a6 → q' < 30 → z' = q' ∧ o' = q' + 1)
    (en : n' = n) (ed : dm' = dm) (eq : q' = q) (el : 0 ≤ a1 → a1 < n → ln' = ln) (hq : 0 ≤ q ∧ q ≤ 30) : z = z' ∧ o = o' ∧ ((0 ≤ z ∧ o' = q + 1 ∧ 0 ≤ a6 ∧ z = q) ∨ (z < 0 ∧ o' = q)) := by
  subst en ed eq
  by_cases hr : 0 ≤ a1 ∧ a1 < n'
  · have e := el hr.1 hr.2
    subst e
    by_cases hB : a1 < 0 ∨ n' ≤ a1 ∨ a3 < 0 ∨ dm' ≤ a3 ∨ a2 < ln' ∨ 32 < a2 ∨ a4 < 0 ∨ a5 ≤ a4 ∨ a6 < 0
    · have x := h0 hB
      have y := k0 hB
      clear h0 h1 h2 k0 k1 k2 el hB
      omega
    · have g : 0 ≤ a3 ∧ a3 < dm' ∧ ln' ≤ a2 ∧ a2 ≤ 32 ∧ 0 ≤ a4 ∧ a4 < a5 ∧ 0 ≤ a6 := by clear h0 h1 h2 k0 k1 k2 el; omega
      obtain ⟨g1, g2, g3, g4, g5, g6, g7⟩ := g
      by_cases h30 : q' = 30
      · have x := h1 hr.1 hr.2 g1 g2 g3 g4 g5 g6 g7 h30
        have y := k1 hr.1 hr.2 g1 g2 g3 g4 g5 g6 g7 h30
        clear h0 h1 h2 k0 k1 k2 el hB
        omega
      · have x := h2 hr.1 hr.2 g1 g2 g3 g4 g5 g6 g7 (by omega)
        have y := k2 hr.1 hr.2 g1 g2 g3 g4 g5 g6 g7 (by omega)
        clear h0 h1 h2 k0 k1 k2 el hB
        have := hr.1
        omega
  · have hB : a1 < 0 ∨ n' ≤ a1 := by clear h0 h1 h2 k0 k1 k2 el; omega
    have x := h0 (hB.elim Or.inl fun h => Or.inr (Or.inl h))
    have y := k0 (hB.elim Or.inl fun h => Or.inr (Or.inl h))
    clear h0 h1 h2 k0 k1 k2 el hB
    omega
