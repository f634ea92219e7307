section
/-! Tables of prefixes: searched, grown; the answers of prefix on both sides. -/
def mskF (l : Int) : Int := if l = 0 then 0 else bShl (-1) (32 - l)
theorem mskF.zero {l : Int} (h : l = 0) : 0 = mskF l := (if_pos h).symm
theorem mskF.pos {l z : Int} (h : ¬ l = 0) (q : bShl (-1) (32 - l) = z) : z = mskF l := by unfold mskF; rw [if_neg h, q]
def badP (x l : Int) : Prop := l < 0 ∨ 32 < l ∨ ¬ bAnd x (bXor (mskF l) (-1)) = 0
theorem andMk {x l m y z : Int} (hm : m = mskF l) (h1 : bXor m (-1) = y) (h2 : bAnd x y = z) : bAnd x (bXor (mskF l) (-1)) = z := by rw [← hm, h1, h2]
theorem badP.r {x l : Int} (h : l < 0 ∨ 32 < l) : badP x l := h.elim Or.inl fun h => Or.inr (Or.inl h)
theorem badP.a {x l z : Int} (h : bAnd x (bXor (mskF l) (-1)) = z) (hz : ¬ z = 0) : badP x l := Or.inr (Or.inr (by rw [h]; exact hz))
theorem badP.n {x l z : Int} (hl : 0 ≤ l ∧ l ≤ 32) (h : bAnd x (bXor (mskF l) (-1)) = z) (hz : z = 0) : ¬ badP x l := fun b => by
  rcases b with b | b | b
  · omega
  · omega
  · exact b (h.trans hz)
def hasP (μ : mM) (a b : Nat) (n x y : Int) : Prop := ∃ i : Nat, (i : Int) < n ∧ μ a i = x ∧ μ b i = y
def noneP (μ : mM) (a b : Nat) (n x y : Int) : Prop := ∀ i : Nat, (i : Int) < n → ¬ (μ a i = x ∧ μ b i = y)
theorem noneP.zero {μ : mM} {a b : Nat} {n x y : Int} (h : n ≤ 0) : noneP μ a b n x y := fun i q => by omega
theorem noneP.succ {μ : mM} {a b : Nat} {n x y u v : Int} (h : noneP μ a b n x y) (h0 : 0 ≤ n) (qa : μ a n.toNat = u) (hne : ¬ u = x) : noneP μ a b (n + 1) x y := fun i q k => by
  by_cases e : i = n.toNat
  · rw [e, qa] at k; exact hne k.1
  · exact h i (by omega) k
theorem noneP.succ2 {μ : mM} {a b : Nat} {n x y u v : Int} (h : noneP μ a b n x y) (h0 : 0 ≤ n) (qb : μ b n.toNat = v) (hne : ¬ v = y) : noneP μ a b (n + 1) x y := fun i q k => by
  by_cases e : i = n.toNat
  · rw [e, qb] at k; exact hne k.2
  · exact h i (by omega) k
theorem noneP.no {μ : mM} {a b : Nat} {n m x y : Int} (h : noneP μ a b n x y) (hm : m ≤ n) : ¬ hasP μ a b m x y := fun ⟨i, q, k⟩ => h i (by omega) k
theorem hasP.of {μ : mM} {a b : Nat} {n x y u v i : Int} (h0 : 0 ≤ i ∧ i < n) (qa : μ a i.toNat = u) (qb : μ b i.toNat = v) (hx : u = x) (hy : v = y) : hasP μ a b n x y := ⟨i.toNat, by omega, by rw [qa, hx], by rw [qb, hy]⟩
/-- the answer of prefix -/
def preA (A : Prop) (n x l z : Int) : Prop := (badP x l ∧ z = -1) ∨ (¬ badP x l ∧ ((A ∧ z = -2) ∨ (¬ A ∧ ((10 ≤ n ∧ z = -3) ∨ (n < 10 ∧ z = n)))))
theorem preA.eq {A B : Prop} {n x l z y : Int} (h : preA A n x l z) (k : preA B n x l y) (e : A ↔ B) : z = y := by
  rcases h with ⟨h1, h2⟩ | ⟨h1, h2⟩ <;> rcases k with ⟨k1, k2⟩ | ⟨k1, k2⟩
  · omega
  · exact absurd h1 k1
  · exact absurd k1 h1
  · rcases h2 with ⟨a, h2⟩ | ⟨a, h2⟩ <;> rcases k2 with ⟨b, k2⟩ | ⟨b, k2⟩
    · omega
    · exact absurd (e.mp a) b
    · exact absurd (e.mpr b) a
    · omega
def adT (μ μ1 : mM) (a b : Nat) (n x y : Int) : Prop := μ1 a n.toNat = x ∧ μ1 b n.toNat = y ∧ ∀ i : Nat, (i : Int) < n → μ1 a i = μ a i ∧ μ1 b i = μ b i
theorem adT.two {μ μa μb : mM} {a b : Nat} {n x y : Int} (u1 : mU μ a n.toNat x μa) (u2 : mU μa b n.toNat y μb) (hab : a ≠ b) : adT μ μb a b n x y :=
  ⟨(u2.2 a _ (Or.inl hab)).trans u1.1, u2.1, fun i h => ⟨(u2.2 a i (Or.inl hab)).trans (u1.2 a i (Or.inr (by omega))), (u2.2 b i (Or.inr (by omega))).trans (u1.2 b i (Or.inl hab.symm))⟩⟩
theorem adT.oth {μ μ1 μ2 : mM} {a b c k : Nat} {n x y z : Int} (h : adT μ μ1 a b n x y) (u : mU μ1 c k z μ2) (ha : a ≠ c) (hb : b ≠ c) : adT μ μ2 a b n x y :=
  ⟨(u.2 a _ (Or.inl ha)).trans h.1, (u.2 b _ (Or.inl hb)).trans h.2.1, fun i q => ⟨(u.2 a i (Or.inl ha)).trans (h.2.2 i q).1, (u.2 b i (Or.inl hb)).trans (h.2.2 i q).2⟩⟩
def adQ (μ μ1 : mM) (c k a b : Nat) (x y z : Int) : Prop := (0 ≤ z ∧ μ1 c k = μ c k + 1 ∧ adT μ μ1 a b (μ c k) x y) ∨ (z < 0 ∧ μ1 = μ)
theorem adQ.add {μ μ1 : mM} {c k a b : Nat} {x y z n m : Int} (q : μ c k = n) (hz : 0 ≤ z) (q1 : μ1 c k = m) (hm : m = n + 1) (h : adT μ μ1 a b n x y) : adQ μ μ1 c k a b x y z := Or.inl ⟨hz, by rw [q1, q, hm], by rw [q]; exact h⟩
/-! Rules by their figures. -/
def rlK (s l : Int) : Prop := if h : l ≤ 0 then True else (1 ≤ l % 10 ∧ l % 10 ≤ 6 ∧ bAnd (bShr s (l % 10)) 1 = 0) ∧ rlK (bOr s (bShl 1 (l % 10))) (l / 10)
termination_by l.toNat
decreasing_by omega
theorem rlK.zero {s l : Int} (h : l ≤ 0) : rlK s l := by unfold rlK; rw [dif_pos h]; trivial
theorem rlK.pos {s l : Int} (h : 0 < l) : rlK s l ↔ (1 ≤ l % 10 ∧ l % 10 ≤ 6 ∧ bAnd (bShr s (l % 10)) 1 = 0) ∧ rlK (bOr s (bShl 1 (l % 10))) (l / 10) := by
  rw [rlK, dif_neg (by omega)]
theorem rlK.step {s l f a b e s' l' : Int} {P : Prop} (k : P ↔ rlK s l) (h : 0 < l) (hf : l % 10 = f) (h1 : 1 ≤ f ∧ f ≤ 6) (q1 : bShr s f = a) (q2 : bAnd a 1 = b) (hb : b = 0) (q3 : bShl 1 f = e) (q4 : bOr s e = s') (hl : l / 10 = l') : P ↔ rlK s' l' := by
  rw [k, rlK.pos h, hf, q1, q2, q3, q4, hl]
  exact ⟨fun x => x.2, fun x => ⟨⟨h1.1, h1.2, hb⟩, x⟩⟩
theorem rlK.bad {s l f : Int} {P : Prop} (k : P ↔ rlK s l) (h : 0 < l) (hf : l % 10 = f) (h1 : f < 1 ∨ 6 < f) : ¬ P := by
  rw [k, rlK.pos h, hf]
  intro x; omega
theorem rlK.bad2 {s l f a b : Int} {P : Prop} (k : P ↔ rlK s l) (h : 0 < l) (hf : l % 10 = f) (q1 : bShr s f = a) (q2 : bAnd a 1 = b) (hb : ¬ b = 0) : ¬ P := by
  rw [k, rlK.pos h, hf, q1, q2]
  intro x; exact hb x.1.2.2
def rlA (dm p1 p2 z : Int) : Prop := ((p1 < 0 ∨ dm ≤ p1 ∨ ¬ (0 ≤ p2 ∧ rlK 0 p2)) ∧ z = -1) ∨ ((0 ≤ p1 ∧ p1 < dm ∧ 0 ≤ p2 ∧ rlK 0 p2) ∧ z = 0)
theorem rlA.eq {dm p1 p2 z y : Int} (h : rlA dm p1 p2 z) (k : rlA dm p1 p2 y) : z = y := by
  rcases h with ⟨h1, h2⟩ | ⟨h1, h2⟩ <;> rcases k with ⟨k1, k2⟩ | ⟨k1, k2⟩
  · omega
  · exfalso
    rcases h1 with h1 | h1 | h1
    · omega
    · omega
    · exact h1 k1.2.2
  · exfalso
    rcases k1 with k1 | k1 | k1
    · omega
    · omega
    · exact k1 h1.2.2
  · omega
/-! Rows of rights. -/
def tabS (μ μ1 : mM) (a : Nat) (n : Int) : Prop := ∀ i : Nat, (i : Int) < n → μ1 a i = μ a i
theorem tabS.refl {μ : mM} {a : Nat} {n : Int} : tabS μ μ a n := fun _ _ => rfl
theorem tabS.up {μ μ1 μ2 : mM} {a : Nat} {n e z : Int} (h : tabS μ μ1 a n) (u : mU μ1 a e.toNat z μ2) (he : n ≤ e) : tabS μ μ2 a n := fun i q => (u.2 a i (Or.inr (by omega))).trans (h i q)
theorem tabS.oth {μ μ1 μ2 : mM} {a b k : Nat} {n z : Int} (h : tabS μ μ1 a n) (u : mU μ1 b k z μ2) (hb : Nat.beq a b = false) : tabS μ μ2 a n := fun i q => (u.2 a i (Or.inl (fun e => by rw [e, Nat.beq_refl] at hb; cases hb))).trans (h i q)
theorem tabS.fr {w : mW} {μ μ1 μ2 : mM} {lf : List Nat} {a : Nat} {n : Int} (h : tabS μ μ1 a n) (F : mF lf w μ1 μ2) (hA : mAt w a a) (hl : lf.elem (1000 * a + 999) = false) (hm : mArr a = true) : tabS μ μ2 a n := fun i q => by
  refine (F a i ?_).trans (h i q)
  unfold mRg; rw [hA.1, hm]; exact hl
def rgT (μ μ1 : mM) (a b : Nat) (n x s z : Int) : Prop := (0 ≤ z ∧ tabS μ μ1 a n ∧ tabS μ μ1 b n ∧ μ1 a n.toNat = x ∧ μ1 b n.toNat = s) ∨ (z < 0 ∧ μ1 = μ)
def skT (μ μ1 : mM) (a b : Nat) (n r d no z : Int) : Prop := ((r < 0 ∨ n ≤ r ∨ d < μ a r.toNat) ∧ z = -1 ∧ μ1 = μ) ∨ ((0 ≤ r ∧ r < n ∧ μ a r.toNat ≤ d) ∧ ((¬ μ b r.toNat = no ∧ z = -2 ∧ μ1 = μ) ∨ (μ b r.toNat = no ∧ z = 0 ∧ tabS μ μ1 a n ∧ one μ μ1 b r ∧ μ1 b r.toNat = d)))
def skR (a b : Int) : Prop := (a = -1 ∧ b = -99999999) ∨ (a = b ∧ 0 ≤ a)
theorem rgEq {a1 a2 a3 a4 a5 a6 n dm ln q n' dm' ln' q' z o z' o' : Int}
    (h0 : a1 < 0 ∨ n ≤ a1 ∨ a3 < 0 ∨ dm ≤ a3 ∨ a2 < ln ∨ 32 < a2 ∨ a4 < 0 ∨ a5 ≤ a4 ∨ a6 < 0 → z = -1 ∧ o = q) (h1 : 0 ≤ a1 → a1 < n → 0 ≤ a3 → a3 < dm → ln ≤ a2 → a2 ≤ 32 → 0 ≤ a4 → a4 < a5 → 0 ≤ a6 → q = 30 → z = -3 ∧ o = q) (h2 : 0 ≤ a1 → a1 < n → 0 ≤ a3 → a3 < dm → ln ≤ a2 → a2 ≤ 32 → 0 ≤ a4 → a4 < a5 → 0 ≤ a6 → q < 30 → z = q ∧ o = q + 1)
    (k0 : a1 < 0 ∨ n' ≤ a1 ∨ a3 < 0 ∨ dm' ≤ a3 ∨ a2 < ln' ∨ 32 < a2 ∨ a4 < 0 ∨ a5 ≤ a4 ∨ a6 < 0 → z' = -1 ∧ o' = q') (k1 : 0 ≤ a1 → a1 < n' → 0 ≤ a3 → a3 < dm' → ln' ≤ a2 → a2 ≤ 32 → 0 ≤ a4 → a4 < a5 → 0 ≤ a6 → q' = 30 → z' = -3 ∧ o' = q') (k2 : 0 ≤ a1 → a1 < n' → 0 ≤ a3 → a3 < dm' → ln' ≤ a2 → a2 ≤ 32 → 0 ≤ a4 → a4 < a5 → 0 ≤ a6 → q' < 30 → z' = q' ∧ o' = q' + 1)
    (en : n' = n) (ed : dm' = dm) (eq : q' = q) (el : 0 ≤ a1 → a1 < n → ln' = ln) (hq : 0 ≤ q ∧ q ≤ 30) : z = z' ∧ o = o' ∧ ((0 ≤ z ∧ o' = q + 1 ∧ 0 ≤ a6 ∧ z = q) ∨ (z < 0 ∧ o' = q)) := by
  subst en ed eq
  by_cases hr : 0 ≤ a1 ∧ a1 < n'
  · have e := el hr.1 hr.2
    subst e
    by_cases hB : a1 < 0 ∨ n' ≤ a1 ∨ a3 < 0 ∨ dm' ≤ a3 ∨ a2 < ln' ∨ 32 < a2 ∨ a4 < 0 ∨ a5 ≤ a4 ∨ a6 < 0
    · have x := h0 hB
      have y := k0 hB
      clear h0 h1 h2 k0 k1 k2 el hB
      omega
    · have g : 0 ≤ a3 ∧ a3 < dm' ∧ ln' ≤ a2 ∧ a2 ≤ 32 ∧ 0 ≤ a4 ∧ a4 < a5 ∧ 0 ≤ a6 := by clear h0 h1 h2 k0 k1 k2 el; omega
      obtain ⟨g1, g2, g3, g4, g5, g6, g7⟩ := g
      by_cases h30 : q' = 30
      · have x := h1 hr.1 hr.2 g1 g2 g3 g4 g5 g6 g7 h30
        have y := k1 hr.1 hr.2 g1 g2 g3 g4 g5 g6 g7 h30
        clear h0 h1 h2 k0 k1 k2 el hB
        omega
      · have x := h2 hr.1 hr.2 g1 g2 g3 g4 g5 g6 g7 (by omega)
        have y := k2 hr.1 hr.2 g1 g2 g3 g4 g5 g6 g7 (by omega)
        clear h0 h1 h2 k0 k1 k2 el hB
        have := hr.1
        omega
  · have hB : a1 < 0 ∨ n' ≤ a1 := by clear h0 h1 h2 k0 k1 k2 el; omega
    have x := h0 (hB.elim Or.inl fun h => Or.inr (Or.inl h))
    have y := k0 (hB.elim Or.inl fun h => Or.inr (Or.inl h))
    clear h0 h1 h2 k0 k1 k2 el hB
    omega
end
section
/-! Lists of regions that a frame leaves alone. -/
theorem qA_no {q lf : List Nat} {r : Nat} (h : (q.all fun r => !lf.elem r) = true) (hr : q.elem r = true) : lf.elem r = false := by
  have := List.all_eq_true.mp h r (List.elem_iff.mp hr)
  simpa using this
theorem qA_le {q q' lf : List Nat} (h : (q.all fun r => !lf.elem r) = true) (hs : (q'.all fun r => q.elem r) = true) : (q'.all fun r => !lf.elem r) = true := by
  refine List.all_eq_true.mpr fun r hr => ?_
  exact List.all_eq_true.mp h r (List.elem_iff.mp (List.all_eq_true.mp hs r hr))
theorem tcAt {w : mW} {μ : mM} (hw : mWF w) (hT : mT w μ) {i : Nat} (hi : (i : Int) < μ 6 16) : mAt w (μ 11 i).toNat 220 := by
  have h6 : μ 6 16 = w.2.2.2 1 ∧ 0 ≤ μ 6 16 ∧ μ 6 16 ≤ 20 := hT 6 6 (A_6 hw) 16
  have h : ((i : Int) < w.2.2.2 1 → 0 ≤ μ 11 i ∧ mAt w (μ 11 i).toNat 220) ∧ (¬ (i : Int) < w.2.2.2 1 → μ 11 i = -1) := hT 11 11 (A_11 hw) i
  exact (h.1 (by omega)).2
end
section
/-! Ties: searched and grown on both sides. -/
def tc (μ : mM) (j i : Nat) : Int := μ (μ 11 i).toNat j
def tr (μ : mM) (j i : Nat) : Int := μ 110 (2 * i + j)
theorem tcOf {μ : mM} {i b j : Nat} {u : Int} (q : μ 11 i = (b : Int)) (qa : μ b j = u) : tc μ j i = u := by unfold tc; rw [q]; exact qa
theorem trOf {μ : mM} {t e u : Int} (j : Nat) (q : μ 110 e.toNat = u) (he : e = 2 * t + (j : Int)) (h0 : 0 ≤ t) : tr μ j t.toNat = u := by
  unfold tr
  rw [show 2 * t.toNat + j = e.toNat by omega]
  exact q
def matQ (f g : Nat → Int) (i : Nat) (x y : Int) : Prop := (f i = x ∧ g i = y) ∨ (f i = y ∧ g i = x)
def noneQ (f g : Nat → Int) (n x y : Int) : Prop := ∀ i : Nat, (i : Int) < n → ¬ matQ f g i x y
theorem noneQ.zero {f g : Nat → Int} {n x y : Int} (h : n ≤ 0) : noneQ f g n x y := fun i q => by omega
theorem noneQ.succ {f g : Nat → Int} {n x y u v : Int} (h : noneQ f g n x y) (h0 : 0 ≤ n) (qa : f n.toNat = u) (qb : g n.toNat = v) (hne : ¬ ((u = x ∧ v = y) ∨ (u = y ∧ v = x))) : noneQ f g (n + 1) x y := fun i q k => by
  by_cases e : i = n.toNat
  · unfold matQ at k; rw [e, qa, qb] at k; exact hne k
  · exact h i (by omega) k
theorem noneQ.succ1 {f g : Nat → Int} {n x y u : Int} (h : noneQ f g n x y) (h0 : 0 ≤ n) (qa : f n.toNat = u) (hne : ¬ u = x ∧ ¬ u = y) : noneQ f g (n + 1) x y := fun i q k => by
  by_cases e : i = n.toNat
  · unfold matQ at k; rw [e, qa] at k
    rcases k with k | k
    · exact hne.1 k.1
    · exact hne.2 k.1
  · exact h i (by omega) k
theorem noneQ.cg {f g f' g' : Nat → Int} {n x y : Int} (h : noneQ f g n x y) (e : ∀ i : Nat, (i : Int) < n → f' i = f i ∧ g' i = g i) : noneQ f' g' n x y := fun i q k => h i q (by
  unfold matQ at k ⊢; rw [(e i q).1, (e i q).2] at k; exact k)
/-- a search's answer: the first that fits, or no -/
def fndQ (f g : Nat → Int) (n x y no z : Int) : Prop := (z = no ∧ noneQ f g n x y) ∨ (0 ≤ z ∧ z < n ∧ matQ f g z.toNat x y ∧ noneQ f g z x y)
theorem fndQ.hit {f g : Nat → Int} {n x y no z u v : Int} (h0 : 0 ≤ z ∧ z < n) (qa : f z.toNat = u) (qb : g z.toNat = v) (hm : (u = x ∧ v = y) ∨ (u = y ∧ v = x)) (hn : noneQ f g z x y) : fndQ f g n x y no z := Or.inr ⟨h0.1, h0.2, by unfold matQ; rw [qa, qb]; exact hm, hn⟩
theorem fndQ.miss {f g : Nat → Int} {n k x y no : Int} (hn : noneQ f g k x y) (hk : n ≤ k) : fndQ f g n x y no no := Or.inl ⟨rfl, fun i q => hn i (by omega)⟩
theorem fndQ.has {f g : Nat → Int} {n x y no z : Int} (h : fndQ f g n x y no z) (hz : ¬ z = no) : ¬ noneQ f g n x y := fun k => by
  rcases h with h | ⟨h1, h2, h3, _⟩
  · exact hz h.1
  · exact k z.toNat (by omega) h3
theorem fndQ.not {f g : Nat → Int} {n x y no z : Int} (h : fndQ f g n x y no z) (hn : no < 0) (hz : z < 0) : noneQ f g n x y := by
  rcases h with h | ⟨h1, _⟩
  · exact h.2
  · omega
theorem fndQ.eq {f g f' g' : Nat → Int} {n x y a b z z' : Int} (h : fndQ f g n x y a z) (k : fndQ f' g' n x y b z') (e : ∀ i : Nat, (i : Int) < n → f' i = f i ∧ g' i = g i) : (z = z' ∧ 0 ≤ z ∧ z < n ∧ matQ f g z.toNat x y) ∨ (z = a ∧ z' = b) := by
  rcases h with ⟨h1, h2⟩ | ⟨h1, h2, h3, h4⟩ <;> rcases k with ⟨k1, k2⟩ | ⟨k1, k2, k3, k4⟩
  · exact Or.inr ⟨h1, k1⟩
  · exact absurd k3 (h2.cg e z'.toNat (by omega))
  · refine absurd ?_ (k2 z.toNat (by omega))
    unfold matQ; rw [(e z.toNat (by omega)).1, (e z.toNat (by omega)).2]; exact h3
  · refine Or.inl ⟨?_, h1, h2, h3⟩
    by_cases c : z < z'
    · refine absurd ?_ (k4 z.toNat (by omega))
      unfold matQ; rw [(e z.toNat (by omega)).1, (e z.toNat (by omega)).2]; exact h3
    · by_cases c2 : z' < z
      · exact absurd k3 (noneQ.cg (fun i q => h4 i q) (fun i q => e i (by omega)) z'.toNat (by omega))
      · omega
/-- the answer of tie -/
def tieB (dm x y k : Int) : Prop := x < 0 ∨ dm ≤ x ∨ y < 0 ∨ dm ≤ y ∨ x = y ∨ k < 0 ∨ 2 < k
def tieA (A : Prop) (dm n x y k z : Int) : Prop := (tieB dm x y k ∧ z = -1) ∨ (¬ tieB dm x y k ∧ ((¬ A ∧ z = -2) ∨ (A ∧ ((20 ≤ n ∧ z = -3) ∨ (n < 20 ∧ z = n)))))
theorem tieA.eq {A B : Prop} {dm n x y k z z' : Int} (h : tieA A dm n x y k z) (q : tieA B dm n x y k z') (e : A ↔ B) : z = z' := by
  rcases h with ⟨h1, h2⟩ | ⟨h1, h2⟩ <;> rcases q with ⟨k1, k2⟩ | ⟨k1, k2⟩
  · omega
  · exact absurd h1 k1
  · exact absurd k1 h1
  · rcases h2 with ⟨a, h2⟩ | ⟨a, h2⟩ <;> rcases k2 with ⟨b, k2⟩ | ⟨b, k2⟩
    · omega
    · exact absurd (e.mpr b) a
    · exact absurd (e.mp a) b
    · omega
/-- what tie did: the class, the reference -/
def tgC (μ μ1 : mM) (x y k z : Int) : Prop := (0 ≤ z ∧ μ1 6 16 = μ 6 16 + 1 ∧ (tc μ1 0 (μ 6 16).toNat = x ∧ tc μ1 1 (μ 6 16).toNat = y ∧ tc μ1 2 (μ 6 16).toNat = k) ∧ ∀ i : Nat, (i : Int) < μ 6 16 → tc μ1 0 i = tc μ 0 i ∧ tc μ1 1 i = tc μ 1 i ∧ tc μ1 2 i = tc μ 2 i) ∨ (z < 0 ∧ μ1 = μ)
def tgR (μ μ1 : mM) (x y k z : Int) : Prop := (0 ≤ z ∧ μ1 106 6 = μ 106 6 + 1 ∧ (tr μ1 0 (μ 106 6).toNat = x ∧ tr μ1 1 (μ 106 6).toNat = y ∧ μ1 111 (μ 106 6).toNat = k) ∧ ∀ i : Nat, (i : Int) < μ 106 6 → tr μ1 0 i = tr μ 0 i ∧ tr μ1 1 i = tr μ 1 i ∧ μ1 111 i = μ 111 i) ∨ (z < 0 ∧ μ1 = μ)
/-- the ties of both sides -/
def TQR (μ : mM) : Prop := μ 6 16 = μ 106 6 ∧ ∀ i : Nat, (i : Int) < μ 6 16 → tc μ 0 i = tr μ 0 i ∧ tc μ 1 i = tr μ 1 i ∧ tc μ 2 i = μ 111 i
/-- ties below n are left alone -/
def tcS (μ μ1 : mM) (n : Int) : Prop := ∀ i : Nat, (i : Int) < n → tc μ1 0 i = tc μ 0 i ∧ tc μ1 1 i = tc μ 1 i ∧ tc μ1 2 i = tc μ 2 i
def trS (μ μ1 : mM) (n : Int) : Prop := ∀ i : Nat, (i : Int) < n → tr μ1 0 i = tr μ 0 i ∧ tr μ1 1 i = tr μ 1 i ∧ μ1 111 i = μ 111 i
theorem TQR.pre {μ μa μb : mM} {dm x y k z z' : Int} (h : TQR μ) (ha : tieA (noneQ (tc μ 0) (tc μ 1) (μ 6 16) x y) dm (μ 6 16) x y k z) (qa : tgC μ μa x y k z) (eA : μa 106 6 = μ 106 6 ∧ trS μ μa (μ 106 6)) (hb : tieA (noneQ (tr μa 0) (tr μa 1) (μa 106 6) x y) dm (μa 106 6) x y k z') (qb : tgR μa μb x y k z') (eB : μb 6 16 = μa 6 16 ∧ tcS μa μb (μa 6 16)) : z = z' ∧ TQR μb := by
  obtain ⟨q1, q2⟩ := h
  obtain ⟨a1, a2⟩ := eA
  obtain ⟨b1, b2⟩ := eB
  rw [q1] at ha
  rw [a1] at hb
  have e : noneQ (tc μ 0) (tc μ 1) (μ 106 6) x y ↔ noneQ (tr μa 0) (tr μa 1) (μ 106 6) x y := by
    constructor
    · exact fun h => h.cg fun i hi => ⟨by rw [(a2 i hi).1, (q2 i (by omega)).1], by rw [(a2 i hi).2.1, (q2 i (by omega)).2.1]⟩
    · exact fun h => h.cg fun i hi => ⟨by rw [(a2 i hi).1, (q2 i (by omega)).1], by rw [(a2 i hi).2.1, (q2 i (by omega)).2.1]⟩
  have hz := ha.eq hb e
  refine ⟨hz, ?_⟩
  rcases qa with ⟨z0, c1, ⟨d1, d2, d3⟩, d4⟩ | ⟨z0, rfl⟩ <;> rcases qb with ⟨y0, c2, ⟨f1, f2, f3⟩, f4⟩ | ⟨y0, rfl⟩
  · refine ⟨by rw [b1, c1, c2, a1, q1], fun i hi => ?_⟩
    rw [b1, c1] at hi
    obtain ⟨g1, g2, g3⟩ := b2 i (by rw [c1]; exact hi)
    rw [g1, g2, g3]
    rw [q1] at d1 d2 d3 d4 hi
    rw [a1] at f1 f2 f3 f4
    by_cases e : (i : Int) = μ 106 6
    · have ei : i = (μ 106 6).toNat := by omega
      rw [ei, d1, d2, d3, f1, f2, f3]; exact ⟨rfl, rfl, rfl⟩
    · have hl : (i : Int) < μ 106 6 := by omega
      have h1 := d4 i hl
      have h2 := f4 i hl
      have h3 := q2 i (by omega)
      have h4 := a2 i hl
      rw [h1.1, h1.2.1, h1.2.2, h2.1, h2.2.1, h2.2.2, h4.1, h4.2.1, h4.2.2]; exact h3
  · omega
  · omega
  · refine ⟨by rw [a1]; exact q1, fun i hi => ?_⟩
    have h4 := a2 i (by omega)
    rw [h4.1, h4.2.1, h4.2.2]; exact q2 i hi
theorem TI.trS {μ μa μb : mM} {t z : Int} (ti : TI μ μa t) (u : mU μa 106 6 z μb) : trS μ μb t := fun i hi =>
  ⟨(u.2 110 _ (Or.inl (by decide))).trans (ti 110 _ (by omega)), (u.2 110 _ (Or.inl (by decide))).trans (ti 110 _ (by omega)), (u.2 111 _ (Or.inl (by decide))).trans (ti 111 _ (by omega))⟩
theorem tgR.add {μ μ1 : mM} {x y k z n m a b d e0 e1 : Int} (q : μ 106 6 = n) (hz : 0 ≤ z) (q1 : μ1 106 6 = m) (hm : m = n + 1) (qa : μ1 110 e0.toNat = a) (qb : μ1 110 e1.toNat = b) (qd : μ1 111 n.toNat = d) (h : 0 ≤ n ∧ e0 = 2 * n ∧ e1 = 2 * n + 1 ∧ a = x ∧ b = y ∧ d = k) (s : trS μ μ1 n) : tgR μ μ1 x y k z := by
  obtain ⟨h0, h1, h2, rfl, rfl, rfl⟩ := h
  refine Or.inl ⟨hz, by rw [q1, q, hm], ?_, ?_⟩
  · rw [q]; exact ⟨trOf 0 qa (by omega) h0, trOf 1 qb (by omega) h0, qd⟩
  · rw [q]; exact s
end
section
/-! Messages: what the octets of a tape say, as numbers. B: the octet at a place. -/
def hdA (B : Int → Int) (k : Int) : Int := if bAnd (B k) 16 = 0 then 3 else 4
def prA (B : Int → Int) (k : Int) : Int := bOr (bShl (B k) 8) (B (k + 1))
def szA (B : Int → Int) (k : Int) : Int := if bAnd (B k) 16 = 0 then B (k + 2) else prA B (k + 2)
def tlA (B : Int → Int) (e k : Int) : Prop := e < k + hdA B k ∨ e < k + hdA B k + szA B k
def nxA (B : Int → Int) (k : Int) : Int := k + hdA B k + szA B k
/-- the way from k on is right, m numbers before it -/
def wyN (B : Int → Int) (e : Int) : Nat → Int → Int → Prop
  | 0, k, m => e ≤ k ∧ m ≤ 20
  | n + 1, k, m => (e ≤ k ∧ m ≤ 20) ∨ (k < e ∧ k + 2 ≤ e ∧ (B k = 1 ∨ B k = 2) ∧ 1 ≤ B (k + 1) ∧ k + 2 + 4 * B (k + 1) ≤ e ∧ wyN B e n (k + 2 + 4 * B (k + 1)) (m + B (k + 1)))
def wyX (B : Int → Int) (e k m : Int) : Prop := ∃ n, wyN B e n k m
theorem wyX.done {B : Int → Int} {e k m : Int} (h : e ≤ k) : wyX B e k m ↔ m ≤ 20 := by
  constructor
  · rintro ⟨n, g⟩
    cases n with
    | zero => exact g.2
    | succ n =>
      rcases g with g | g
      · exact g.2
      · have := g.1; omega
  · intro g; exact ⟨0, h, g⟩
theorem wyX.step {B : Int → Int} {e k m : Int} (h : k < e) : wyX B e k m ↔ (k + 2 ≤ e ∧ (B k = 1 ∨ B k = 2) ∧ 1 ≤ B (k + 1) ∧ k + 2 + 4 * B (k + 1) ≤ e ∧ wyX B e (k + 2 + 4 * B (k + 1)) (m + B (k + 1))) := by
  constructor
  · rintro ⟨n, g⟩
    cases n with
    | zero => have := g.1; omega
    | succ n =>
      rcases g with g | ⟨_, g1, g2, g3, g4, g5⟩
      · have := g.1; omega
      · exact ⟨g1, g2, g3, g4, n, g5⟩
  · rintro ⟨g1, g2, g3, g4, n, g5⟩
    exact ⟨n + 1, Or.inr ⟨h, g1, g2, g3, g4, g5⟩⟩
theorem wyN.le {B : Int → Int} {e : Int} : ∀ (n : Nat) (k m : Int), wyN B e n k m → m ≤ 20
  | 0, _, _, h => h.2
  | n + 1, k, m, h => by
    rcases h with h | ⟨_, _, _, h3, _, h5⟩
    · exact h.2
    · have := wyN.le n _ _ h5
      omega
theorem wyX.le {B : Int → Int} {e k m : Int} (h : wyX B e k m) : m ≤ 20 := by
  obtain ⟨n, h⟩ := h
  exact wyN.le n k m h
/-- the prefixes from k on have a fault -/
def pfN (B : Int → Int) (e : Int) : Nat → Int → Prop
  | 0, _ => False
  | n + 1, k => k < e ∧ (32 < B k ∨ e < k + 1 + (B k + 7) / 8 ∨ pfN B e n (k + 1 + (B k + 7) / 8))
def pfX (B : Int → Int) (e k : Int) : Prop := ∃ n, pfN B e n k
theorem pfX.done {B : Int → Int} {e k : Int} (h : e ≤ k) : ¬ pfX B e k := by
  rintro ⟨n, g⟩
  cases n with
  | zero => exact g
  | succ n => have := g.1; omega
theorem pfX.step {B : Int → Int} {e k : Int} (h : k < e) : pfX B e k ↔ (32 < B k ∨ e < k + 1 + (B k + 7) / 8 ∨ pfX B e (k + 1 + (B k + 7) / 8)) := by
  constructor
  · rintro ⟨n, g⟩
    cases n with
    | zero => exact g.elim
    | succ n =>
      rcases g.2 with g | g | g
      · exact Or.inl g
      · exact Or.inr (Or.inl g)
      · exact Or.inr (Or.inr ⟨n, g⟩)
  · rintro (g | g | ⟨n, g⟩)
    · exact ⟨1, h, Or.inl g⟩
    · exact ⟨1, h, Or.inr (Or.inl g)⟩
    · exact ⟨n + 1, h, Or.inr (Or.inr g)⟩
/-- the attribute at k is right -/
def okA (B : Int → Int) (k : Int) : Prop :=
  (B (k + 1) = 1 ∧ bAnd (B k) 207 = 64 ∧ szA B k = 1 ∧ B (k + hdA B k) ≤ 2) ∨
  (B (k + 1) = 2 ∧ bAnd (B k) 207 = 64 ∧ wyX B (nxA B k) (k + hdA B k) 0) ∨
  (B (k + 1) = 4 ∧ bAnd (B k) 207 = 128 ∧ szA B k = 4) ∨
  (B (k + 1) = 8 ∧ bAnd (B k) 207 = 192 ∧ szA B k % 4 = 0) ∨
  ((¬ B (k + 1) = 1 ∧ ¬ B (k + 1) = 2 ∧ ¬ B (k + 1) = 4 ∧ ¬ B (k + 1) = 8) ∧ ¬ bAnd (B k) 128 = 0)
/-- the first place of a fault is kept -/
def ntA (f k f' : Int) : Prop := (f = -99999999 ∧ f' = k) ∨ (¬ f = -99999999 ∧ f' = f)
theorem ntA.uniq {f k a b : Int} (h : ntA f k a) (g : ntA f k b) : a = b := by
  rcases h with ⟨h1, h2⟩ | ⟨h1, h2⟩ <;> rcases g with ⟨g1, g2⟩ | ⟨g1, g2⟩
  · rw [h2, g2]
  · exact absurd h1 g1
  · exact absurd g1 h1
  · rw [h2, g2]
/-- types seen; the origin, the way are there; the first fault of kind 2, of kind 3 -/
abbrev AS : Type := (Nat → Int) × Int × Int × Int × Int
def stA (B : Int → Int) (k : Int) (s s1 : AS) : Prop :=
  (¬ s.1 (B (k + 1)).toNat = 0 ∧ s1.1 = s.1 ∧ s1.2.1 = s.2.1 ∧ s1.2.2.1 = s.2.2.1 ∧ s1.2.2.2.1 = s.2.2.2.1 ∧ ntA s.2.2.2.2 k s1.2.2.2.2) ∨
  (s.1 (B (k + 1)).toNat = 0 ∧ (s1.1 = fun j => if j = (B (k + 1)).toNat then 1 else s.1 j) ∧
    ((B (k + 1) = 1 ∧ okA B k ∧ s1.2.1 = 1) ∨ (¬ (B (k + 1) = 1 ∧ okA B k) ∧ s1.2.1 = s.2.1)) ∧
    ((B (k + 1) = 2 ∧ okA B k ∧ s1.2.2.1 = 1) ∨ (¬ (B (k + 1) = 2 ∧ okA B k) ∧ s1.2.2.1 = s.2.2.1)) ∧
    ((okA B k ∧ s1.2.2.2.1 = s.2.2.2.1) ∨ (¬ okA B k ∧ ntA s.2.2.2.1 k s1.2.2.2.1)) ∧ s1.2.2.2.2 = s.2.2.2.2)
theorem AS.ext {a b : AS} (h1 : a.1 = b.1) (h2 : a.2.1 = b.2.1) (h3 : a.2.2.1 = b.2.2.1) (h4 : a.2.2.2.1 = b.2.2.2.1) (h5 : a.2.2.2.2 = b.2.2.2.2) : a = b := by
  obtain ⟨a1, a2, a3, a4, a5⟩ := a
  obtain ⟨b1, b2, b3, b4, b5⟩ := b
  simp only at h1 h2 h3 h4 h5
  rw [h1, h2, h3, h4, h5]
theorem stA.uniq {B : Int → Int} {k : Int} {s a b : AS} (h : stA B k s a) (g : stA B k s b) : a = b := by
  rcases h with ⟨h0, h1, h2, h3, h4, h5⟩ | ⟨h0, h1, h2, h3, h4, h5⟩ <;> rcases g with ⟨g0, g1, g2, g3, g4, g5⟩ | ⟨g0, g1, g2, g3, g4, g5⟩
  · exact AS.ext (h1.trans g1.symm) (h2.trans g2.symm) (h3.trans g3.symm) (h4.trans g4.symm) (h5.uniq g5)
  · exact absurd g0 h0
  · exact absurd h0 g0
  · refine AS.ext (h1.trans g1.symm) ?_ ?_ ?_ (h5.trans g5.symm)
    · rcases h2 with ⟨x1, x2, x3⟩ | ⟨x1, x2⟩ <;> rcases g2 with ⟨y1, y2, y3⟩ | ⟨y1, y2⟩
      · rw [x3, y3]
      · exact absurd ⟨x1, x2⟩ y1
      · exact absurd ⟨y1, y2⟩ x1
      · rw [x2, y2]
    · rcases h3 with ⟨x1, x2, x3⟩ | ⟨x1, x2⟩ <;> rcases g3 with ⟨y1, y2, y3⟩ | ⟨y1, y2⟩
      · rw [x3, y3]
      · exact absurd ⟨x1, x2⟩ y1
      · exact absurd ⟨y1, y2⟩ x1
      · rw [x2, y2]
    · rcases h4 with ⟨x1, x2⟩ | ⟨x1, x2⟩ <;> rcases g4 with ⟨y1, y2⟩ | ⟨y1, y2⟩
      · rw [x2, y2]
      · exact absurd x1 y1
      · exact absurd y1 x1
      · exact x2.uniq y2
/-- all attributes from k on -/
def atN (B : Int → Int) (e : Int) : Nat → Int → AS → AS → Prop
  | 0, k, s, r => e ≤ k ∧ r = s
  | n + 1, k, s, r => (e ≤ k ∧ r = s) ∨ (k < e ∧ ((tlA B e k ∧ ∃ f, ntA s.2.2.2.1 k f ∧ r = (s.1, s.2.1, s.2.2.1, f, s.2.2.2.2)) ∨ (¬ tlA B e k ∧ ∃ s1, stA B k s s1 ∧ atN B e n (nxA B k) s1 r)))
def atX (B : Int → Int) (e k : Int) (s r : AS) : Prop := ∃ n, atN B e n k s r
theorem atN.uniq {B : Int → Int} {e : Int} : ∀ (n m : Nat) (k : Int) (s a b : AS), atN B e n k s a → atN B e m k s b → a = b := by
  intro n
  induction n with
  | zero =>
    intro m k s a b h g
    cases m with
    | zero => rw [h.2, g.2]
    | succ m =>
      rcases g with g | g
      · rw [h.2, g.2]
      · have h1 := h.1; have g1 := g.1; omega
  | succ n ih =>
    intro m k s a b h g
    cases m with
    | zero =>
      rcases h with h | h
      · rw [h.2, g.2]
      · have h1 := h.1; have g1 := g.1; omega
    | succ m =>
      rcases h with h | ⟨h1, h⟩ <;> rcases g with g | ⟨g1, g⟩
      · rw [h.2, g.2]
      · have := h.1; omega
      · have := g.1; omega
      · rcases h with ⟨h2, f, h3, h4⟩ | ⟨h2, s1, h3, h4⟩ <;> rcases g with ⟨g2, f', g3, g4⟩ | ⟨g2, s2, g3, g4⟩
        · rw [h4, g4, h3.uniq g3]
        · exact absurd h2 g2
        · exact absurd g2 h2
        · have e := h3.uniq g3
          subst e
          exact ih m _ _ _ _ h4 g4
theorem atX.uniq {B : Int → Int} {e k : Int} {s a b : AS} (h : atX B e k s a) (g : atX B e k s b) : a = b := by
  obtain ⟨n, h⟩ := h
  obtain ⟨m, g⟩ := g
  exact atN.uniq n m k s a b h g
theorem atX.done {B : Int → Int} {e k : Int} {s : AS} (h : e ≤ k) : atX B e k s s := ⟨0, h, rfl⟩
theorem atX.bad {B : Int → Int} {e k f : Int} {s : AS} (h : k < e) (t : tlA B e k) (g : ntA s.2.2.2.1 k f) : atX B e k s (s.1, s.2.1, s.2.2.1, f, s.2.2.2.2) := ⟨1, Or.inr ⟨h, Or.inl ⟨t, f, g, rfl⟩⟩⟩
theorem atX.step {B : Int → Int} {e k : Int} {s s1 r : AS} (h : k < e) (t : ¬ tlA B e k) (g : stA B k s s1) (x : atX B e (nxA B k) s1 r) : atX B e k s r := by
  obtain ⟨n, x⟩ := x
  exact ⟨n + 1, Or.inr ⟨h, Or.inr ⟨t, s1, g, x⟩⟩⟩
/-- the kind of a message of n octets -/
def bdA (B : Int → Int) (n : Int) : Prop := n < 2 ∨ n < 2 + prA B 0
def bdB (B : Int → Int) (n b : Int) : Prop := n < b + 2 ∨ n < b + 2 + prA B b
def kdZ (B : Int → Int) (n z : Int) : Prop :=
  (bdA B n ∧ z = 1) ∨ (¬ bdA B n ∧ (((bdB B n (2 + prA B 0) ∨ pfX B (2 + prA B 0) 2 ∨ pfX B n (2 + prA B 0 + 2 + prA B (2 + prA B 0))) ∧ z = 1) ∨
    (¬ (bdB B n (2 + prA B 0) ∨ pfX B (2 + prA B 0) 2 ∨ pfX B n (2 + prA B 0 + 2 + prA B (2 + prA B 0))) ∧ ∃ r : AS, atX B (2 + prA B 0 + 2 + prA B (2 + prA B 0)) (2 + prA B 0 + 2) (fun _ => 0, 0, 0, -99999999, -99999999) r ∧
      (((¬ r.2.2.2.1 = -99999999 ∨ (2 + prA B 0 + 2 + prA B (2 + prA B 0) < n ∧ ¬ (r.2.1 = 1 ∧ r.2.2.1 = 1))) ∧ z = 2) ∨
       (¬ (¬ r.2.2.2.1 = -99999999 ∨ (2 + prA B 0 + 2 + prA B (2 + prA B 0) < n ∧ ¬ (r.2.1 = 1 ∧ r.2.2.1 = 1))) ∧ ((¬ r.2.2.2.2 = -99999999 ∧ z = 3) ∨ (r.2.2.2.2 = -99999999 ∧ z = 0)))))))
theorem kdZ.eq {B : Int → Int} {n z z' : Int} (h : kdZ B n z) (g : kdZ B n z') : z = z' := by
  rcases h with ⟨h1, h2⟩ | ⟨h1, h⟩ <;> rcases g with ⟨g1, g2⟩ | ⟨g1, g⟩
  · rw [h2, g2]
  · exact absurd h1 g1
  · exact absurd g1 h1
  · rcases h with ⟨h3, h4⟩ | ⟨h3, r, h4, h⟩ <;> rcases g with ⟨g3, g4⟩ | ⟨g3, r', g4, g⟩
    · rw [h4, g4]
    · exact absurd h3 g3
    · exact absurd g3 h3
    · have e := h4.uniq g4
      subst e
      rcases h with ⟨h5, h6⟩ | ⟨h5, h⟩ <;> rcases g with ⟨g5, g6⟩ | ⟨g5, g⟩
      · rw [h6, g6]
      · exact absurd h5 g5
      · exact absurd g5 h5
      · rcases h with ⟨h7, h8⟩ | ⟨h7, h8⟩ <;> rcases g with ⟨g7, g8⟩ | ⟨g7, g8⟩
        · rw [h8, g8]
        · exact absurd g7 h7
        · exact absurd h7 g7
        · rw [h8, g8]
end
section
/-! Messages: the class's octets, its faults, what a loop does. -/
theorem rowB {lf : List Nat} {w : mW} {μ μ1 : mM} {a s : Nat} (hA : mAt w a s) (F : mF lf w μ μ1) (hl : lf.elem (1000 * s + 999) = false) (hm : mArr s = true) : μ1 a = μ a := funext fun i => F a i (by unfold mRg; rw [hA.1, hm]; exact hl)
def bC (b : Nat) (μ : mM) (k : Int) : Int := if k < μ 0 10 then (if 0 ≤ k then μ b k.toNat else 0) else -1
theorem bC.at {b : Nat} {μ μ1 : mM} {k z : Int} (e : μ1 b = μ b) (h0 : 0 ≤ k) (h1 : k < μ 0 10) (q : μ1 b k.toNat = z) : bC b μ k = z := by
  unfold bC
  rw [if_pos h1, if_pos h0, ← e]; exact q
theorem bC.of {b : Nat} {μ μ1 : mM} (e : μ1 b = μ b) (e0 : μ1 0 10 = μ 0 10) : bC b μ1 = bC b μ := by
  funext k
  unfold bC
  rw [e, e0]
/-- a fault is noted -/
def ntR (μ μ1 : mM) (a : Nat) (p k : Int) : Prop := ntA (μ a p.toNat) k (μ1 a p.toNat) ∧ ∀ i : Nat, i ≠ p.toNat → μ1 a i = μ a i
theorem ntR.put {μ μ1 : mM} {a : Nat} {p k x : Int} (q : μ a p.toNat = x) (hx : x = -99999999) (u : mU μ a p.toNat k μ1) : ntR μ μ1 a p k := ⟨Or.inl ⟨q.trans hx, u.1⟩, fun i hi => u.2 a i (Or.inr hi)⟩
theorem ntR.keep {μ : mM} {a : Nat} {p k x : Int} (q : μ a p.toNat = x) (hx : ¬ x = -99999999) : ntR μ μ a p k := ⟨Or.inr ⟨fun e => hx (q.symm.trans e), rfl⟩, fun _ _ => rfl⟩
/-- afterwards there is a fault -/
theorem ntA.is {f k f' : Int} (h : ntA f k f') (hk : 0 ≤ k) : ¬ f' = -99999999 := by
  rcases h with ⟨_, e⟩ | ⟨g, e⟩
  · omega
  · rw [e]; exact g
theorem pfX.go {B : Int → Int} {e k k' b n : Int} (h : k < e) (q : B k = b) (hn : n = (b + 7) / 8) (h1 : b ≤ 32) (h2 : k + 1 + n ≤ e) (hk : k' = k + 1 + n) : pfX B e k ↔ pfX B e k' := by
  rw [pfX.step h, q, hk, hn]
  rw [hn] at h2
  constructor
  · rintro (g | g | g)
    · omega
    · omega
    · exact g
  · intro g; exact Or.inr (Or.inr g)
theorem pfX.hit {B : Int → Int} {e k b n : Int} (h : k < e) (q : B k = b) (hn : n = (b + 7) / 8) (h1 : 32 < b ∨ e < k + 1 + n) : pfX B e k := by
  rw [pfX.step h, q]
  rcases h1 with g | g
  · exact Or.inl g
  · rw [hn] at g; exact Or.inr (Or.inl g)
theorem wyX.go {B : Int → Int} {e k m a c k' m' : Int} (h : k < e) (q1 : B k = a) (q2 : B (k + 1) = c) (h1 : k + 2 ≤ e) (ha : 1 ≤ a ∧ a ≤ 2) (hc : 1 ≤ c) (h2 : k + 2 + 4 * c ≤ e) (hk : k' = k + 2 + 4 * c) (hm : m' = m + c) : wyX B e k m ↔ wyX B e k' m' := by
  rw [wyX.step h, q1, q2, hk, hm]
  constructor
  · rintro ⟨_, _, _, _, g⟩; exact g
  · intro g; exact ⟨h1, by omega, hc, h2, g⟩
theorem wyX.not0 {B : Int → Int} {e k m : Int} (h : k < e) (h1 : e < k + 2) : ¬ wyX B e k m := fun g => by
  have := ((wyX.step h).mp g).1
  omega
theorem wyX.not {B : Int → Int} {e k m a c : Int} (h : k < e) (q1 : B k = a) (q2 : B (k + 1) = c) (hb : a < 1 ∨ 2 < a ∨ c < 1 ∨ e < k + 2 + 4 * c ∨ 20 < m + c) : ¬ wyX B e k m := fun g => by
  obtain ⟨g1, g2, g3, g4, g5⟩ := (wyX.step h).mp g
  have := g5.le
  rw [q1] at g2
  rw [q2] at g3 g4 this
  omega
/-- a row of flags, as far as there are types -/
def sn (r : Nat → Int) : Nat → Int := fun j => if j < 256 then r j else 0
theorem sn.up {μ μ1 : mM} {a : Nat} {t x : Int} (ht : 0 ≤ t ∧ t < 256) (u : mU μ a t.toNat x μ1) (hx : x = 1) : sn (μ1 a) = fun j => if j = t.toNat then 1 else sn (μ a) j := by
  funext j
  unfold sn
  by_cases c : j = t.toNat
  · subst c
    rw [if_pos (by omega), if_pos rfl, u.1, hx]
  · rw [if_neg c, u.2 a j (Or.inr c)]
theorem sn.at {r : Nat → Int} {t z : Int} (ht : 0 ≤ t ∧ t < 256) (q : r t.toNat = z) : sn r t.toNat = z := by
  unfold sn
  rw [if_pos (by omega)]; exact q
theorem sn.zero {r : Nat → Int} (h : ∀ j : Nat, j < 256 → r j = 0) : sn r = fun _ => 0 := by
  funext j
  unfold sn
  by_cases c : j < 256
  · rw [if_pos c]; exact h j c
  · rw [if_neg c]
def sMC (μ : mM) : AS := (sn (μ 77), μ 76 7, μ 76 8, μ 80 2, μ 80 3)
def prC (o : Nat) (μ : mM) (k : Int) : Int := bOr (bShl (μ o k.toNat) 8) (μ o (k + 1).toNat)
theorem prC.mk {o : Nat} {μ : mM} {k e a s b z : Int} (q1 : μ o k.toNat = a) (q2 : bShl a 8 = s) (he : e = k + 1) (q3 : μ o e.toNat = b) (q4 : bOr s b = z) : z = prC o μ k := by
  subst he
  unfold prC
  rw [q1, q2, q3, q4]
theorem prC.pr {o : Nat} {μ μ1 : mM} {k z : Int} (e : μ1 o = μ o) (h0 : 0 ≤ k) (h1 : k + 1 < μ 0 10) (hz : z = prC o μ1 k) : prA (bC o μ) k = z := by
  unfold prA
  rw [bC.at (μ := μ) rfl h0 (by omega) rfl, bC.at (μ := μ) rfl (by omega) h1 rfl, hz]
  unfold prC
  rw [e]
/-- what reading prefixes does -/
def pfR (o : Nat) (μ μ1 : mM) (e k z : Int) : Prop := (¬ pfX (bC o μ) e k ∧ μ1 80 = μ 80 ∧ (0 < z ↔ k < e)) ∨ (pfX (bC o μ) e k ∧ ∃ p, 0 ≤ p ∧ ntR μ μ1 80 1 p)
theorem pfR.none {o : Nat} {μ μ1 : mM} {e k k' z : Int} (h : pfX (bC o μ) e k ↔ pfX (bC o μ) e k') (hk : e ≤ k') (e8 : μ1 80 = μ 80) (hz : 0 < z ↔ k < e) : pfR o μ μ1 e k z := Or.inl ⟨fun g => pfX.done hk (h.mp g), e8, hz⟩
theorem pfR.hit {o : Nat} {μ μ0 μ1 : mM} {e k k' p z : Int} (h : pfX (bC o μ) e k ↔ pfX (bC o μ) e k') (g : pfX (bC o μ) e k') (hp : 0 ≤ p) (e8 : μ0 80 = μ 80) (n : ntR μ0 μ1 80 1 p) : pfR o μ μ1 e k z := Or.inr ⟨h.mpr g, p, hp, by unfold ntR at n ⊢; rw [← e8]; exact n⟩
end
section
/-! Messages: one attribute of the class, all of them. -/
theorem ntR.of {μ μ0 μ1 : mM} {a : Nat} {p k : Int} (n : ntR μ0 μ1 a p k) (e : μ0 a = μ a) : ntR μ μ1 a p k := by
  unfold ntR at n ⊢
  rw [← e]; exact n
/-- a type unseen has nothing there -/
def oz (μ : mM) : Prop := (μ 77 1 = 0 → μ 76 7 = 0) ∧ (μ 77 2 = 0 → μ 76 8 = 0)
def o77 (μ μ1 : mM) (t : Int) : Prop := μ1 77 t.toNat = 1 ∧ ∀ j : Nat, j ≠ t.toNat → μ1 77 j = μ 77 j
theorem o77.mk {μ μ' μ1 : mM} {t : Int} (u : mU μ 77 t.toNat 1 μ') (e : μ1 77 = μ' 77) : o77 μ μ1 t := by
  unfold o77
  rw [e]
  exact ⟨u.1, fun j hj => u.2 77 j (Or.inr hj)⟩
theorem o77.snE {μ μ1 : mM} {t : Int} (h : o77 μ μ1 t) (ht : 0 ≤ t ∧ t < 256) : sn (μ1 77) = fun j => if j = t.toNat then 1 else sn (μ 77) j := by
  funext j
  unfold sn
  by_cases c : j = t.toNat
  · subst c
    rw [if_pos (by omega), if_pos rfl, h.1]
  · rw [if_neg c, h.2 j c]
theorem oz.same {μ μ1 : mM} {o v : Int} (h : oz μ) (e : μ1 77 = μ 77) (qo : μ 76 7 = o) (qo1 : μ1 76 7 = o) (qv : μ 76 8 = v) (qv1 : μ1 76 8 = v) : oz μ1 := by
  unfold oz
  rw [e, qo1, qv1, ← qo, ← qv]
  exact h
theorem oz.up {μ μ1 : mM} {t o o1 v v1 : Int} (h : oz μ) (ht : 0 ≤ t) (u : o77 μ μ1 t) (qo : μ 76 7 = o) (qo1 : μ1 76 7 = o1) (qv : μ 76 8 = v) (qv1 : μ1 76 8 = v1) (ho : t = 1 ∨ o1 = o) (hv : t = 2 ∨ v1 = v) : oz μ1 := by
  constructor
  · intro g
    by_cases c : (1 : Nat) = t.toNat
    · have := u.1
      rw [← c, g] at this
      exact absurd this (by decide)
    · rcases ho with e | e
      · omega
      · rw [qo1, e, ← qo]
        exact h.1 ((u.2 1 c).symm.trans g)
  · intro g
    by_cases c : (2 : Nat) = t.toNat
    · have := u.1
      rw [← c, g] at this
      exact absurd this (by decide)
    · rcases hv with e | e
      · omega
      · rw [qv1, e, ← qv]
        exact h.2 ((u.2 2 c).symm.trans g)
theorem stA.seen {B : Int → Int} {μ μ1 : mM} {k t x o v : Int} (qB : B (k + 1) = t) (ht : 0 ≤ t ∧ t < 256) (q : μ 77 t.toNat = x) (hx : ¬ x = 0) (e : μ1 77 = μ 77) (qo : μ 76 7 = o) (qo1 : μ1 76 7 = o) (qv : μ 76 8 = v) (qv1 : μ1 76 8 = v) (n : ntR μ μ1 80 3 k) : stA B k (sMC μ) (sMC μ1) := by
  refine Or.inl ⟨?_, ?_, ?_, ?_, ?_, ?_⟩
  · show ¬ sn (μ 77) (B (k + 1)).toNat = 0
    rw [qB, sn.at ht q]; exact hx
  · show sn (μ1 77) = sn (μ 77)
    rw [e]
  · show μ1 76 7 = μ 76 7
    rw [qo, qo1]
  · show μ1 76 8 = μ 76 8
    rw [qv, qv1]
  · show μ1 80 2 = μ 80 2
    exact n.2 2 (by decide)
  · exact n.1
theorem stA.new {B : Int → Int} {μ μ1 : mM} {k t x o o1 v v1 : Int} (qB : B (k + 1) = t) (ht : 0 ≤ t ∧ t < 256) (q : μ 77 t.toNat = x) (hx : x = 0) (u : o77 μ μ1 t) (qo : μ 76 7 = o) (qo1 : μ1 76 7 = o1) (qv : μ 76 8 = v) (qv1 : μ1 76 8 = v1) (ho : (t = 1 ∧ okA B k ∧ o1 = 1) ∨ (¬ (t = 1 ∧ okA B k) ∧ o1 = o)) (hv : (t = 2 ∧ okA B k ∧ v1 = 1) ∨ (¬ (t = 2 ∧ okA B k) ∧ v1 = v)) (hf : (okA B k ∧ μ1 80 = μ 80) ∨ (¬ okA B k ∧ ntR μ μ1 80 2 k)) : stA B k (sMC μ) (sMC μ1) := by
  subst qB qo qo1 qv qv1
  refine Or.inr ⟨?_, ?_, ?_, ?_, ?_, ?_⟩
  · show sn (μ 77) (B (k + 1)).toNat = 0
    rw [sn.at ht q]; exact hx
  · exact u.snE ht
  · exact ho
  · exact hv
  · rcases hf with ⟨a, b⟩ | ⟨a, b⟩
    · exact Or.inl ⟨a, by show μ1 80 2 = μ 80 2; rw [b]⟩
    · exact Or.inr ⟨a, b.1⟩
  · rcases hf with ⟨a, b⟩ | ⟨a, b⟩
    · show μ1 80 3 = μ 80 3
      rw [b]
    · exact b.2 3 (by decide)
/-- a right attribute of type 1, of type 2, of another; a wrong one -/
theorem stA.k1 {B : Int → Int} {μ μ1 : mM} {k t x o o1 v : Int} (qB : B (k + 1) = t) (ht : t = 1) (q : μ 77 t.toNat = x) (hx : x = 0) (u : o77 μ μ1 t) (qo : μ 76 7 = o) (qo1 : μ1 76 7 = o1) (qv : μ 76 8 = v) (qv1 : μ1 76 8 = v) (a : okA B k) (h1 : o1 = 1) (e : μ1 80 = μ 80) : stA B k (sMC μ) (sMC μ1) :=
  stA.new qB (by omega) q hx u qo qo1 qv qv1 (Or.inl ⟨ht, a, h1⟩) (Or.inr ⟨fun g => absurd g.1 (by omega), rfl⟩) (Or.inl ⟨a, e⟩)
theorem stA.n1 {B : Int → Int} {μ μ1 : mM} {k t x o o1 v : Int} (h : oz μ) (qB : B (k + 1) = t) (ht : t = 1) (q : μ 77 t.toNat = x) (hx : x = 0) (u : o77 μ μ1 t) (qo : μ 76 7 = o) (qo1 : μ1 76 7 = o1) (qv : μ 76 8 = v) (qv1 : μ1 76 8 = v) (a : ¬ okA B k) (h1 : o1 = 0) (n : ntR μ μ1 80 2 k) : stA B k (sMC μ) (sMC μ1) :=
  stA.new qB (by omega) q hx u qo qo1 qv qv1 (Or.inr ⟨fun g => a g.2, by
    subst ht
    have g : μ 77 1 = 0 := q.trans hx
    rw [h1, ← qo, h.1 g]⟩) (Or.inr ⟨fun g => a g.2, rfl⟩) (Or.inr ⟨a, n⟩)
theorem stA.k2 {B : Int → Int} {μ μ1 : mM} {k t x o v v1 : Int} (qB : B (k + 1) = t) (ht : t = 2) (q : μ 77 t.toNat = x) (hx : x = 0) (u : o77 μ μ1 t) (qo : μ 76 7 = o) (qo1 : μ1 76 7 = o) (qv : μ 76 8 = v) (qv1 : μ1 76 8 = v1) (a : okA B k) (h1 : v1 = 1) (e : μ1 80 = μ 80) : stA B k (sMC μ) (sMC μ1) :=
  stA.new qB (by omega) q hx u qo qo1 qv qv1 (Or.inr ⟨fun g => absurd g.1 (by omega), rfl⟩) (Or.inl ⟨ht, a, h1⟩) (Or.inl ⟨a, e⟩)
theorem stA.n2 {B : Int → Int} {μ μ1 : mM} {k t x o v v1 : Int} (h : oz μ) (qB : B (k + 1) = t) (ht : t = 2) (q : μ 77 t.toNat = x) (hx : x = 0) (u : o77 μ μ1 t) (qo : μ 76 7 = o) (qo1 : μ1 76 7 = o) (qv : μ 76 8 = v) (qv1 : μ1 76 8 = v1) (a : ¬ okA B k) (h1 : v1 = 0) (n : ntR μ μ1 80 2 k) : stA B k (sMC μ) (sMC μ1) :=
  stA.new qB (by omega) q hx u qo qo1 qv qv1 (Or.inr ⟨fun g => a g.2, rfl⟩) (Or.inr ⟨fun g => a g.2, by
    subst ht
    have g : μ 77 2 = 0 := q.trans hx
    rw [h1, ← qv, h.2 g]⟩) (Or.inr ⟨a, n⟩)
theorem stA.kx {B : Int → Int} {μ μ1 : mM} {k t x o v : Int} (qB : B (k + 1) = t) (ht : 0 ≤ t ∧ t < 256) (t1 : ¬ t = 1 ∧ ¬ t = 2) (q : μ 77 t.toNat = x) (hx : x = 0) (u : o77 μ μ1 t) (qo : μ 76 7 = o) (qo1 : μ1 76 7 = o) (qv : μ 76 8 = v) (qv1 : μ1 76 8 = v) (a : okA B k) (e : μ1 80 = μ 80) : stA B k (sMC μ) (sMC μ1) :=
  stA.new qB ht q hx u qo qo1 qv qv1 (Or.inr ⟨fun g => t1.1 g.1, rfl⟩) (Or.inr ⟨fun g => t1.2 g.1, rfl⟩) (Or.inl ⟨a, e⟩)
theorem stA.nx {B : Int → Int} {μ μ1 : mM} {k t x o v : Int} (qB : B (k + 1) = t) (ht : 0 ≤ t ∧ t < 256) (t1 : ¬ t = 1 ∧ ¬ t = 2) (q : μ 77 t.toNat = x) (hx : x = 0) (u : o77 μ μ1 t) (qo : μ 76 7 = o) (qo1 : μ1 76 7 = o) (qv : μ 76 8 = v) (qv1 : μ1 76 8 = v) (a : ¬ okA B k) (n : ntR μ μ1 80 2 k) : stA B k (sMC μ) (sMC μ1) :=
  stA.new qB ht q hx u qo qo1 qv qv1 (Or.inr ⟨fun g => t1.1 g.1, rfl⟩) (Or.inr ⟨fun g => t1.2 g.1, rfl⟩) (Or.inr ⟨a, n⟩)
/-- when an attribute is right -/
theorem okA.no {B : Int → Int} {k b f t : Int} (q0 : B k = b) (qf : bAnd b 207 = f) (q1 : B (k + 1) = t) (h : (t = 1 ∧ ¬ f = 64) ∨ (t = 2 ∧ ¬ f = 64) ∨ (t = 4 ∧ ¬ f = 128) ∨ (t = 8 ∧ ¬ f = 192)) : ¬ okA B k := by
  unfold okA
  rw [q0, q1, qf]
  rintro (⟨a, b, _⟩ | ⟨a, b, _⟩ | ⟨a, b, _⟩ | ⟨a, b, _⟩ | ⟨⟨a, b, c, d⟩, _⟩) <;> omega
theorem okA.i1 {B : Int → Int} {k b f t z c n : Int} (q0 : B k = b) (qf : bAnd b 207 = f) (q1 : B (k + 1) = t) (ht : t = 1) (hf : f = 64) (hc : c = k + hdA B k) (hn : n = szA B k) (r : z = 1 ↔ n = 1 ∧ B c ≤ 2) : okA B k ↔ z = 1 := by
  rw [r, hn, hc]
  constructor
  · unfold okA
    rw [q0, q1, qf]
    rintro (⟨_, _, a, b⟩ | ⟨a, _⟩ | ⟨a, _⟩ | ⟨a, _⟩ | ⟨⟨a, _⟩, _⟩)
    · exact ⟨a, b⟩
    · omega
    · omega
    · omega
    · exact absurd ht a
  · rintro ⟨a, b⟩
    exact Or.inl ⟨q1.trans ht, by rw [q0, qf]; exact hf, a, b⟩
theorem okA.i2 {B : Int → Int} {k b f t z c n : Int} (q0 : B k = b) (qf : bAnd b 207 = f) (q1 : B (k + 1) = t) (ht : t = 2) (hf : f = 64) (hc : c = k + hdA B k) (hn : n = szA B k) (r : z = 1 ↔ wyX B (c + n) c 0) : okA B k ↔ z = 1 := by
  rw [r, hn, hc]
  constructor
  · unfold okA nxA
    rw [q0, q1, qf]
    rintro (⟨a, _⟩ | ⟨_, _, a⟩ | ⟨a, _⟩ | ⟨a, _⟩ | ⟨⟨_, a, _⟩, _⟩)
    · omega
    · exact a
    · omega
    · omega
    · exact absurd ht a
  · intro a
    exact Or.inr (Or.inl ⟨q1.trans ht, by rw [q0, qf]; exact hf, a⟩)
theorem okA.y4 {B : Int → Int} {k b f t n : Int} (q0 : B k = b) (qf : bAnd b 207 = f) (q1 : B (k + 1) = t) (hn : n = szA B k) (h : (t = 4 ∧ f = 128 ∧ n = 4) ∨ (t = 8 ∧ f = 192 ∧ n % 4 = 0)) : okA B k := by
  rcases h with ⟨a, b, c⟩ | ⟨a, b, c⟩
  · exact Or.inr (Or.inr (Or.inl ⟨q1.trans a, by rw [q0, qf]; exact b, hn.symm.trans c⟩))
  · exact Or.inr (Or.inr (Or.inr (Or.inl ⟨q1.trans a, by rw [q0, qf]; exact b, by rw [← hn]; exact c⟩)))
theorem okA.n4 {B : Int → Int} {k t n : Int} (q1 : B (k + 1) = t) (hn : n = szA B k) (h : (t = 4 ∧ ¬ n = 4) ∨ (t = 8 ∧ ¬ n % 4 = 0)) : ¬ okA B k := by
  unfold okA
  rw [q1, ← hn]
  rintro (⟨a, b, _⟩ | ⟨a, b, _⟩ | ⟨a, b, _⟩ | ⟨a, b, _⟩ | ⟨⟨a, b, c, d⟩, _⟩) <;> omega
theorem okA.o {B : Int → Int} {k b g t : Int} (q0 : B k = b) (qg : bAnd b 128 = g) (q1 : B (k + 1) = t) (ht : ¬ t = 1 ∧ ¬ t = 2 ∧ ¬ t = 4 ∧ ¬ t = 8) : okA B k ↔ ¬ g = 0 := by
  constructor
  · unfold okA
    rw [q0, q1, qg]
    rintro (⟨a, _⟩ | ⟨a, _⟩ | ⟨a, _⟩ | ⟨a, _⟩ | ⟨_, a⟩)
    · exact absurd a ht.1
    · exact absurd a ht.2.1
    · exact absurd a ht.2.2.1
    · exact absurd a ht.2.2.2
    · exact a
  · intro a
    exact Or.inr (Or.inr (Or.inr (Or.inr ⟨by rw [q1]; exact ht, by rw [q0, qg]; exact a⟩)))
/-- the head and the size of the attribute at k -/
theorem hdA.is {B : Int → Int} {k b f c : Int} (q : B k = b) (qf : bAnd b 16 = f) (hc : (f = 0 ∧ c = k + 3) ∨ (¬ f = 0 ∧ c = k + 4)) : c = k + hdA B k := by
  unfold hdA
  rw [q, qf]
  rcases hc with ⟨a, b⟩ | ⟨a, b⟩
  · rw [if_pos a]; exact b
  · rw [if_neg a]; exact b
theorem szA.is1 {B : Int → Int} {k b f n e : Int} (q : B k = b) (qf : bAnd b 16 = f) (hf : f = 0) (he : e = k + 2) (qn : B e = n) : n = szA B k := by
  subst he
  unfold szA
  rw [q, qf, if_pos hf]; exact qn.symm
theorem szA.is2 {B : Int → Int} {k b f n e : Int} (q : B k = b) (qf : bAnd b 16 = f) (hf : ¬ f = 0) (he : e = k + 2) (qn : prA B e = n) : n = szA B k := by
  subst he
  unfold szA
  rw [q, qf, if_neg hf]; exact qn.symm
theorem tlA.i1 {B : Int → Int} {e k c : Int} (hc : c = k + hdA B k) (h : e < c) : tlA B e k := Or.inl (by rw [← hc]; exact h)
theorem tlA.i2 {B : Int → Int} {e k c n : Int} (hc : c = k + hdA B k) (hn : n = szA B k) (h : e < c + n) : tlA B e k := Or.inr (by rw [← hc, ← hn]; exact h)
theorem tlA.no {B : Int → Int} {e k c n : Int} (hc : c = k + hdA B k) (hn : n = szA B k) (h : c + n ≤ e) (h0 : 0 ≤ n) : ¬ tlA B e k := by
  unfold tlA
  rw [← hc, ← hn]
  omega
theorem atX.bad' {B : Int → Int} {μ μ1 : mM} {e k o v : Int} (h : k < e) (t : tlA B e k) (e7 : μ1 77 = μ 77) (qo : μ 76 7 = o) (qo1 : μ1 76 7 = o) (qv : μ 76 8 = v) (qv1 : μ1 76 8 = v) (n : ntR μ μ1 80 2 k) : atX B e k (sMC μ) (sMC μ1) := by
  have g := atX.bad (s := sMC μ) h t n.1
  have q : sMC μ1 = ((sMC μ).1, (sMC μ).2.1, (sMC μ).2.2.1, μ1 80 (2 : Int).toNat, (sMC μ).2.2.2.2) := by
    refine AS.ext ?_ ?_ ?_ ?_ ?_
    · show sn (μ1 77) = sn (μ 77)
      rw [e7]
    · show μ1 76 7 = μ 76 7
      rw [qo, qo1]
    · show μ1 76 8 = μ 76 8
      rw [qv, qv1]
    · rfl
    · show μ1 80 3 = μ 80 3
      exact n.2 3 (by decide)
  rw [q]; exact g
theorem atX.next {B : Int → Int} {e k k' c n : Int} {s0 s s1 : AS} {k0 : Int} (h : ∀ r, atX B e k s r → atX B e k0 s0 r) (hk : k < e) (hc : c = k + hdA B k) (hn : n = szA B k) (hl : c + n ≤ e) (h0 : 0 ≤ n) (g : stA B k s s1) (hk' : k' = c + n) : ∀ r, atX B e k' s1 r → atX B e k0 s0 r := fun r x => h r (atX.step hk (tlA.no hc hn hl h0) g (by
  have e' : nxA B k = k' := by unfold nxA; rw [hk', ← hc, ← hn]
  rw [e']; exact x))
theorem sMC.of {μ μ1 : mM} {o v : Int} (e7 : μ1 77 = μ 77) (qo : μ 76 7 = o) (qo1 : μ1 76 7 = o) (qv : μ 76 8 = v) (qv1 : μ1 76 8 = v) (e8 : μ1 80 = μ 80) : sMC μ1 = sMC μ := by
  refine AS.ext ?_ ?_ ?_ ?_ ?_
  · show sn (μ1 77) = sn (μ 77)
    rw [e7]
  · show μ1 76 7 = μ 76 7
    rw [qo, qo1]
  · show μ1 76 8 = μ 76 8
    rw [qv, qv1]
  · show μ1 80 2 = μ 80 2
    rw [e8]
  · show μ1 80 3 = μ 80 3
    rw [e8]
end
section
/-! Messages: the parts of the class's message, its kind. -/
theorem ntA.keep {f k f' : Int} (h : ntA f k f') (hf : ¬ f = -99999999) : f' = f := by
  rcases h with ⟨a, _⟩ | ⟨_, b⟩
  · exact absurd a hf
  · exact b
def pfG (B : Int → Int) (μ μ1 : mM) (e k z : Int) : Prop := (¬ pfX B e k ∧ μ1 80 = μ 80 ∧ (0 < z ↔ k < e)) ∨ (pfX B e k ∧ ∃ p, 0 ≤ p ∧ ntR μ μ1 80 1 p)
theorem pfG.of {o : Nat} {B : Int → Int} {μ μ1 : mM} {e k z : Int} (h : pfR o μ μ1 e k z) (eB : bC o μ = B) : pfG B μ μ1 e k z := by
  unfold pfR at h
  rw [eB] at h
  exact h
/-- where a first fault of kind 1 was, there is one -/
theorem pfG.kept {B : Int → Int} {μ μ1 : mM} {e k z : Int} (h : pfG B μ μ1 e k z) (hf : ¬ μ 80 1 = -99999999) : ¬ μ1 80 1 = -99999999 := by
  rcases h with ⟨_, e, _⟩ | ⟨_, p, _, n⟩
  · rw [e]; exact hf
  · have g : μ1 80 1 = μ 80 1 := n.1.keep hf
    rw [g]; exact hf
def rdX (B : Int → Int) (n : Int) : Prop := bdB B n (2 + prA B 0) ∨ pfX B (2 + prA B 0) 2 ∨ pfX B n (2 + prA B 0 + 2 + prA B (2 + prA B 0))
def rdY (B : Int → Int) (n : Int) (r : AS) : Prop := ¬ r.2.2.2.1 = -99999999 ∨ (2 + prA B 0 + 2 + prA B (2 + prA B 0) < n ∧ ¬ (r.2.1 = 1 ∧ r.2.2.1 = 1))
def rdP (B : Int → Int) (s : AS) (f1 f2 f3 n : Int) : Prop :=
  (¬ f1 = -99999999 ∧ (bdA B n ∨ rdX B n)) ∨
  (f1 = -99999999 ∧ ¬ bdA B n ∧ ¬ rdX B n ∧ ∃ r : AS, atX B (2 + prA B 0 + 2 + prA B (2 + prA B 0)) (2 + prA B 0 + 2) s r ∧ (f2 = -99999999 ↔ ¬ rdY B n r) ∧ f3 = r.2.2.2.2)
theorem rdP.bad {B : Int → Int} {s : AS} {μ μ1 : mM} {a : Nat} {f2 f3 n k : Int} (h : bdA B n ∨ rdX B n) (g : ntR μ μ1 a 1 k) (hk : 0 ≤ k) : rdP B s (μ1 a 1) f2 f3 n := Or.inl ⟨g.1.is hk, h⟩
theorem bdA.l {B : Int → Int} {n : Int} (h : n < 2) : bdA B n := Or.inl h
theorem bdA.r {B : Int → Int} {n z : Int} (q : prA B 0 = z) (h : n < 2 + z) : bdA B n := Or.inr (by rw [q]; exact h)
theorem bdA.no {B : Int → Int} {n z : Int} (q : prA B 0 = z) (h2 : 2 ≤ n) (h : 2 + z ≤ n) : ¬ bdA B n := by
  unfold bdA
  rw [q]
  omega
theorem rdX.l {B : Int → Int} {n z b : Int} (q : prA B 0 = z) (hb : b = 2 + z) (h : n < b + 2) : rdX B n := Or.inl (Or.inl (by rw [q, ← hb]; exact h))
theorem rdX.r {B : Int → Int} {n z b z2 : Int} (q : prA B 0 = z) (hb : b = 2 + z) (q2 : prA B b = z2) (h : n < b + 2 + z2) : rdX B n := Or.inl (Or.inr (by rw [q, ← hb, q2]; exact h))
theorem rdP.fin {B : Int → Int} {μ μ3 μ5 μ6 μ7 μ1 : mM} {n z b wd z2 c an o v ho hv : Int} (h2 : 2 ≤ n) (q : prA B 0 = z) (hb : b = 2 + z) (hbn : b ≤ n)
    (k0 : μ 80 1 = -99999999) (p1 : pfG B μ μ3 b 2 wd) (e5 : μ5 80 = μ3 80) (e7 : μ5 77 = μ 77) (qo : μ 76 7 = o) (qo5 : μ5 76 7 = o) (qv : μ 76 8 = v) (qv5 : μ5 76 8 = v)
    (q2 : prA B b = z2) (hc : c = b + 2 + z2) (z20 : 0 ≤ z2) (hcn : c ≤ n) (c0 : 0 ≤ c) (ax : atX B c (b + 2) (sMC μ5) (sMC μ6)) (k1 : μ6 80 1 = μ5 80 1)
    (p2 : pfG B μ6 μ7 n c an) (qho : μ6 76 7 = ho) (qhv : μ6 76 8 = hv) (rho : 0 ≤ ho ∧ ho ≤ 1) (rhv : 0 ≤ hv ∧ hv ≤ 1)
    (hn : ((an ≤ 0 ∨ (¬ ho = 0 ∧ ¬ hv = 0)) ∧ μ1 80 = μ7 80) ∨ ((0 < an ∧ (ho = 0 ∨ hv = 0)) ∧ ntR μ7 μ1 80 2 c)) : rdP B (sMC μ) (μ1 80 1) (μ1 80 2) (μ1 80 3) n := by
  have m1 : μ1 80 1 = μ7 80 1 := by
    rcases hn with ⟨_, e⟩ | ⟨_, e⟩
    · rw [e]
    · exact e.2 1 (by decide)
  have m3 : μ1 80 3 = μ7 80 3 := by
    rcases hn with ⟨_, e⟩ | ⟨_, e⟩
    · rw [e]
    · exact e.2 3 (by decide)
  have eb : 2 + prA B 0 = b := by rw [q, hb]
  have ec : 2 + prA B 0 + 2 + prA B (2 + prA B 0) = c := by rw [eb, q2, hc]
  rcases p1 with ⟨p1n, e8, _⟩ | ⟨p1y, p, hp, nt⟩
  · rcases p2 with ⟨p2n, e8', hz⟩ | ⟨p2y, p, hp, nt⟩
    · refine Or.inr ⟨?_, bdA.no q h2 (by omega), ?_, sMC μ6, ?_, ?_, ?_⟩
      · rw [m1, e8', k1, e5, e8]; exact k0
      · unfold rdX bdB
        rw [ec, eb]
        rintro (g | g | g)
        · omega
        · exact p1n g
        · exact p2n g
      · have es : sMC μ5 = sMC μ := sMC.of e7 qo qo5 qv qv5 (e5.trans e8)
        rw [ec, eb, ← es]; exact ax
      · unfold rdY
        rw [ec]
        show μ1 80 2 = -99999999 ↔ ¬ (¬ μ6 80 2 = -99999999 ∨ (c < n ∧ ¬ (μ6 76 7 = 1 ∧ μ6 76 8 = 1)))
        rw [qho, qhv]
        have m2 : μ7 80 2 = μ6 80 2 := by rw [e8']
        rcases hn with ⟨a, e⟩ | ⟨a, e⟩
        · rw [e, m2]
          have g : ¬ (c < n ∧ ¬ (ho = 1 ∧ hv = 1)) := by
            rintro ⟨g1, g2⟩
            have := hz.mpr g1
            omega
          constructor
          · rintro x (y | y)
            · exact y x
            · exact g y
          · intro x
            by_cases y : μ6 80 2 = -99999999
            · exact y
            · exact absurd (Or.inl y) x
        · have y : ¬ μ1 80 2 = -99999999 := e.1.is c0
          constructor
          · intro x; exact absurd x y
          · intro x
            refine absurd (Or.inr ⟨hz.mp a.1, ?_⟩) x
            omega
      · rw [m3, e8']; rfl
    · refine Or.inl ⟨?_, Or.inr (Or.inr (Or.inr ?_))⟩
      · rw [m1]; exact nt.1.is hp
      · rw [ec]; exact p2y
  · refine Or.inl ⟨?_, Or.inr (Or.inr (Or.inl ?_))⟩
    · rw [m1]
      refine p2.kept ?_
      rw [k1, e5]
      exact nt.1.is hp
    · rw [eb]; exact p1y
theorem sMC.zero {μ : mM} (h : ∀ j : Nat, j < 256 → μ 77 j = 0) (h7 : μ 76 7 = 0) (h8 : μ 76 8 = 0) (f2 : μ 80 2 = -99999999) (f3 : μ 80 3 = -99999999) : sMC μ = (fun _ => 0, 0, 0, -99999999, -99999999) := by
  refine AS.ext ?_ ?_ ?_ ?_ ?_
  · exact sn.zero h
  · exact h7
  · exact h8
  · exact f2
  · exact f3
theorem oz.zero {μ : mM} (h7 : μ 76 7 = 0) (h8 : μ 76 8 = 0) : oz μ := ⟨fun _ => h7, fun _ => h8⟩
theorem kdZ.of {B : Int → Int} {s : AS} {n z g1 g2 g3 f1 f2 f3 : Int} (h : rdP B s g1 g2 g3 n) (hs : s = (fun _ => 0, 0, 0, -99999999, -99999999)) (q1 : g1 = f1) (q2 : g2 = f2) (q3 : g3 = f3)
    (hz : (¬ f1 = -99999999 ∧ z = 1) ∨ (f1 = -99999999 ∧ ((¬ f2 = -99999999 ∧ z = 2) ∨ (f2 = -99999999 ∧ ((¬ f3 = -99999999 ∧ z = 3) ∨ (f3 = -99999999 ∧ z = 0)))))) : kdZ B n z := by
  subst hs q1 q2 q3
  rcases h with ⟨a, b⟩ | ⟨a, b, c, r, x, y, w⟩
  · have hz1 : z = 1 := by
      rcases hz with ⟨_, e⟩ | ⟨e, _⟩
      · exact e
      · exact absurd e a
    by_cases g : bdA B n
    · exact Or.inl ⟨g, hz1⟩
    · refine Or.inr ⟨g, Or.inl ⟨?_, hz1⟩⟩
      rcases b with b | b
      · exact absurd b g
      · exact b
  · rcases hz with ⟨e, _⟩ | ⟨_, hz⟩
    · exact absurd a e
    · refine Or.inr ⟨b, Or.inr ⟨c, r, x, ?_⟩⟩
      rcases hz with ⟨e, e2⟩ | ⟨e, hz⟩
      · refine Or.inl ⟨?_, e2⟩
        by_cases g : rdY B n r
        · exact g
        · exact absurd (y.mpr g) e
      · refine Or.inr ⟨y.mp e, ?_⟩
        rw [w] at hz
        exact hz
end
section
/-! Messages: the reference's octets, its attributes. -/
def bR (μ : mM) (k : Int) : Int := if 0 ≤ k then byteF μ k else 0
theorem bR.at {μ : mM} {k z : Int} (h : 0 ≤ k) (q : byteF μ k = z) : bR μ k = z := by
  unfold bR
  rw [if_pos h]; exact q
theorem bR.keep {l : List Nat} {w : mW} {μ μ1 : mM} (hw : mWF w) (hF : mF l w μ μ1) (hl : tpFree l = true) : bR μ1 = bR μ := by
  funext k
  unfold bR
  rw [byteF.keep hw hF hl]
theorem bR.get {l : List Nat} {w : mW} {μ μ1 : mM} {k z : Int} (hw : mWF w) (hF : mF l w μ μ1) (hl : tpFree l = true) (h : 0 ≤ k) (q : byteF μ1 k = z) : bR μ k = z := bR.at h ((byteF.keep hw hF hl).symm.trans q)
theorem byteF.rng {μ : mM} {k : Int} (h : k < μ 106 1) : 0 ≤ byteF μ k ∧ byteF μ k ≤ 255 := by
  unfold byteF
  rw [if_pos h]
  exact rAndR (rR (x := 255)) rfl
theorem or0_fin : ∀ b : Fin 256, bOr (bShl 0 8) ((b.val : Nat) : Int) = ((b.val : Nat) : Int) := by decide +kernel
theorem and49_fin : ∀ b : Fin 256, bAnd ((b.val : Nat) : Int) 207 = bAnd ((b.val : Nat) : Int) (-49) := by decide +kernel
theorem or0 {b : Int} (h : 0 ≤ b ∧ b ≤ 255) : bOr (bShl 0 8) b = b := by
  have e : ((b.toNat : Nat) : Int) = b := Int.toNat_of_nonneg h.1
  have g : bOr (bShl 0 8) ((b.toNat : Nat) : Int) = ((b.toNat : Nat) : Int) := or0_fin ⟨b.toNat, by omega⟩
  rw [e] at g; exact g
theorem and49 {b f : Int} (h : 0 ≤ b ∧ b ≤ 255) (q : bAnd b (-49) = f) : bAnd b 207 = f := by
  have e : ((b.toNat : Nat) : Int) = b := Int.toNat_of_nonneg h.1
  have g : bAnd ((b.toNat : Nat) : Int) 207 = bAnd ((b.toNat : Nat) : Int) (-49) := and49_fin ⟨b.toNat, by omega⟩
  rw [e] at g; exact g.trans q
theorem numF.one {μ : mM} {k n z : Int} (h0 : 0 ≤ k) (hk : k < μ 106 1) (h : numF μ k n = z) (hn : n = 1) : bR μ k = z := by
  subst hn
  have e : numF μ k 1 = bOr (bShl 0 8) (byteF μ (k + ((0 : Nat) : Int))) := rfl
  have e2 : k + ((0 : Nat) : Int) = k := by omega
  rw [e, e2, or0 (byteF.rng hk)] at h
  exact bR.at h0 h
theorem numF.two {μ : mM} {k n z : Int} (h0 : 0 ≤ k) (hk : k < μ 106 1) (h : numF μ k n = z) (hn : n = 2) : prA (bR μ) k = z := by
  subst hn
  have e : numF μ k 2 = bOr (bShl (bOr (bShl 0 8) (byteF μ (k + ((0 : Nat) : Int)))) 8) (byteF μ (k + ((1 : Nat) : Int))) := rfl
  have e2 : k + ((0 : Nat) : Int) = k := by omega
  have e3 : k + ((1 : Nat) : Int) = k + 1 := rfl
  rw [e, e2, e3, or0 (byteF.rng hk)] at h
  unfold prA
  rw [bR.at h0 rfl, bR.at (k := k + 1) (by omega) rfl]
  exact h
theorem wyX.notA {B : Int → Int} {e k m a : Int} (h : k < e) (q1 : B k = a) (ha : a < 1 ∨ 2 < a) : ¬ wyX B e k m := fun g => by
  obtain ⟨_, g2, _⟩ := (wyX.step h).mp g
  rw [q1] at g2
  omega
theorem wyX.notC {B : Int → Int} {e k m c : Int} (h : k < e) (q2 : B (k + 1) = c) (hc : c < 1 ∨ e < k + 2 + 4 * c) : ¬ wyX B e k m := fun g => by
  obtain ⟨_, _, g3, g4, _⟩ := (wyX.step h).mp g
  rw [q2] at g3 g4
  omega
def pfH (B : Int → Int) (μ μ1 : mM) (e k : Int) : Prop := (¬ pfX B e k ∧ μ1 172 = μ 172) ∨ (pfX B e k ∧ ∃ p, 0 ≤ p ∧ ntR μ μ1 172 1 p)
theorem pfH.none {B : Int → Int} {μ μ1 : mM} {e k k' : Int} (h : pfX B e k ↔ pfX B e k') (hk : e ≤ k') (e8 : μ1 172 = μ 172) : pfH B μ μ1 e k := Or.inl ⟨fun g => pfX.done hk (h.mp g), e8⟩
theorem pfH.hit {B : Int → Int} {μ μ0 μ1 : mM} {e k k' p : Int} (h : pfX B e k ↔ pfX B e k') (g : pfX B e k') (hp : 0 ≤ p) (e8 : μ0 172 = μ 172) (n : ntR μ0 μ1 172 1 p) : pfH B μ μ1 e k := Or.inr ⟨h.mpr g, p, hp, n.of e8⟩
theorem pfH.of {B B' : Int → Int} {μ μ1 : mM} {e k : Int} (h : pfH B' μ μ1 e k) (eB : B' = B) : pfH B μ μ1 e k := by rw [← eB]; exact h
theorem pfH.kept {B : Int → Int} {μ μ1 : mM} {e k : Int} (h : pfH B μ μ1 e k) (hf : ¬ μ 172 1 = -99999999) : ¬ μ1 172 1 = -99999999 := by
  rcases h with ⟨_, e⟩ | ⟨_, p, _, n⟩
  · rw [e]; exact hf
  · have g : μ1 172 1 = μ 172 1 := n.1.keep hf
    rw [g]; exact hf
def sMR (μ : mM) : AS := (sn (μ 171), μ 106 98, μ 106 99, μ 172 2, μ 172 3)
def o71 (μ μ1 : mM) (t : Int) : Prop := μ1 171 t.toNat = 1 ∧ ∀ j : Nat, j ≠ t.toNat → μ1 171 j = μ 171 j
theorem o71.mk {μ μ' μ1 : mM} {t x : Int} (u : mU μ 171 t.toNat x μ') (hx : x = 1) (e : μ1 171 = μ' 171) : o71 μ μ1 t := by
  unfold o71
  rw [e]
  exact ⟨u.1.trans hx, fun j hj => u.2 171 j (Or.inr hj)⟩
theorem o71.snE {μ μ1 : mM} {t : Int} (h : o71 μ μ1 t) (ht : 0 ≤ t ∧ t < 256) : sn (μ1 171) = fun j => if j = t.toNat then 1 else sn (μ 171) j := by
  funext j
  unfold sn
  by_cases c : j = t.toNat
  · subst c
    rw [if_pos (by omega), if_pos rfl, h.1]
  · rw [if_neg c, h.2 j c]
theorem stR.seen {B : Int → Int} {μ μ1 : mM} {k t x o v : Int} (qB : B (k + 1) = t) (ht : 0 ≤ t ∧ t < 256) (q : μ 171 t.toNat = x) (hx : ¬ x = 0) (e : μ1 171 = μ 171) (qo : μ 106 98 = o) (qo1 : μ1 106 98 = o) (qv : μ 106 99 = v) (qv1 : μ1 106 99 = v) (n : ntR μ μ1 172 3 k) : stA B k (sMR μ) (sMR μ1) := by
  refine Or.inl ⟨?_, ?_, ?_, ?_, ?_, ?_⟩
  · show ¬ sn (μ 171) (B (k + 1)).toNat = 0
    rw [qB, sn.at ht q]; exact hx
  · show sn (μ1 171) = sn (μ 171)
    rw [e]
  · show μ1 106 98 = μ 106 98
    rw [qo, qo1]
  · show μ1 106 99 = μ 106 99
    rw [qv, qv1]
  · show μ1 172 2 = μ 172 2
    exact n.2 2 (by decide)
  · exact n.1
theorem stR.new {B : Int → Int} {μ μ1 : mM} {k t x o o1 v v1 : Int} (qB : B (k + 1) = t) (ht : 0 ≤ t ∧ t < 256) (q : μ 171 t.toNat = x) (hx : x = 0) (u : o71 μ μ1 t) (qo : μ 106 98 = o) (qo1 : μ1 106 98 = o1) (qv : μ 106 99 = v) (qv1 : μ1 106 99 = v1) (ho : (t = 1 ∧ okA B k ∧ o1 = 1) ∨ (¬ (t = 1 ∧ okA B k) ∧ o1 = o)) (hv : (t = 2 ∧ okA B k ∧ v1 = 1) ∨ (¬ (t = 2 ∧ okA B k) ∧ v1 = v)) (hf : (okA B k ∧ μ1 172 = μ 172) ∨ (¬ okA B k ∧ ntR μ μ1 172 2 k)) : stA B k (sMR μ) (sMR μ1) := by
  subst qB qo qo1 qv qv1
  refine Or.inr ⟨?_, ?_, ?_, ?_, ?_, ?_⟩
  · show sn (μ 171) (B (k + 1)).toNat = 0
    rw [sn.at ht q]; exact hx
  · exact u.snE ht
  · exact ho
  · exact hv
  · rcases hf with ⟨a, b⟩ | ⟨a, b⟩
    · exact Or.inl ⟨a, by show μ1 172 2 = μ 172 2; rw [b]⟩
    · exact Or.inr ⟨a, b.1⟩
  · rcases hf with ⟨a, b⟩ | ⟨a, b⟩
    · show μ1 172 3 = μ 172 3
      rw [b]
    · exact b.2 3 (by decide)
theorem stR.ok {B : Int → Int} {μ μ1 : mM} {k t x o o1 v v1 : Int} (qB : B (k + 1) = t) (ht : 0 ≤ t ∧ t < 256) (q : μ 171 t.toNat = x) (hx : x = 0) (u : o71 μ μ1 t) (qo : μ 106 98 = o) (qo1 : μ1 106 98 = o1) (qv : μ 106 99 = v) (qv1 : μ1 106 99 = v1) (a : okA B k) (ho : (t = 1 ∧ o1 = 1) ∨ (¬ t = 1 ∧ o1 = o)) (hv : (t = 2 ∧ v1 = 1) ∨ (¬ t = 2 ∧ v1 = v)) (e : μ1 172 = μ 172) : stA B k (sMR μ) (sMR μ1) :=
  stR.new qB ht q hx u qo qo1 qv qv1 (ho.elim (fun g => Or.inl ⟨g.1, a, g.2⟩) (fun g => Or.inr ⟨fun c => g.1 c.1, g.2⟩)) (hv.elim (fun g => Or.inl ⟨g.1, a, g.2⟩) (fun g => Or.inr ⟨fun c => g.1 c.1, g.2⟩)) (Or.inl ⟨a, e⟩)
theorem stR.no {B : Int → Int} {μ μ1 : mM} {k t x o o1 v v1 : Int} (qB : B (k + 1) = t) (ht : 0 ≤ t ∧ t < 256) (q : μ 171 t.toNat = x) (hx : x = 0) (u : o71 μ μ1 t) (qo : μ 106 98 = o) (qo1 : μ1 106 98 = o1) (qv : μ 106 99 = v) (qv1 : μ1 106 99 = v1) (a : ¬ okA B k) (ho : o1 = o) (hv : v1 = v) (n : ntR μ μ1 172 2 k) : stA B k (sMR μ) (sMR μ1) :=
  stR.new qB ht q hx u qo qo1 qv qv1 (Or.inr ⟨fun c => a c.2, ho⟩) (Or.inr ⟨fun c => a c.2, hv⟩) (Or.inr ⟨a, n⟩)
theorem atX.badR {B : Int → Int} {μ μ1 : mM} {e k o v : Int} (h : k < e) (t : tlA B e k) (e7 : μ1 171 = μ 171) (qo : μ 106 98 = o) (qo1 : μ1 106 98 = o) (qv : μ 106 99 = v) (qv1 : μ1 106 99 = v) (n : ntR μ μ1 172 2 k) : atX B e k (sMR μ) (sMR μ1) := by
  have g := atX.bad (s := sMR μ) h t n.1
  have q : sMR μ1 = ((sMR μ).1, (sMR μ).2.1, (sMR μ).2.2.1, μ1 172 (2 : Int).toNat, (sMR μ).2.2.2.2) := by
    refine AS.ext ?_ ?_ ?_ ?_ ?_
    · show sn (μ1 171) = sn (μ 171)
      rw [e7]
    · show μ1 106 98 = μ 106 98
      rw [qo, qo1]
    · show μ1 106 99 = μ 106 99
      rw [qv, qv1]
    · rfl
    · show μ1 172 3 = μ 172 3
      exact n.2 3 (by decide)
  rw [q]; exact g
theorem sMR.of {μ μ1 : mM} {o v : Int} (e7 : μ1 171 = μ 171) (qo : μ 106 98 = o) (qo1 : μ1 106 98 = o) (qv : μ 106 99 = v) (qv1 : μ1 106 99 = v) (e8 : μ1 172 = μ 172) : sMR μ1 = sMR μ := by
  refine AS.ext ?_ ?_ ?_ ?_ ?_
  · show sn (μ1 171) = sn (μ 171)
    rw [e7]
  · show μ1 106 98 = μ 106 98
    rw [qo, qo1]
  · show μ1 106 99 = μ 106 99
    rw [qv, qv1]
  · show μ1 172 2 = μ 172 2
    rw [e8]
  · show μ1 172 3 = μ 172 3
    rw [e8]
theorem sMR.zero {μ : mM} (h : ∀ j : Nat, j < 256 → μ 171 j = 0) (h7 : μ 106 98 = 0) (h8 : μ 106 99 = 0) (f2 : μ 172 2 = -99999999) (f3 : μ 172 3 = -99999999) : sMR μ = (fun _ => 0, 0, 0, -99999999, -99999999) := by
  refine AS.ext ?_ ?_ ?_ ?_ ?_
  · exact sn.zero h
  · exact h7
  · exact h8
  · exact f2
  · exact f3
theorem rdP.finR {B : Int → Int} {μ μ3 μ6 μ7 μ1 : mM} {n z b z2 c o v ho hv : Int} (h2 : 2 ≤ n) (q : prA B 0 = z) (hb : b = 2 + z) (hbn : b ≤ n)
    (k0 : μ 172 1 = -99999999) (p1 : pfH B μ μ3 b 2) (e7 : μ3 171 = μ 171) (qo : μ 106 98 = o) (qo5 : μ3 106 98 = o) (qv : μ 106 99 = v) (qv5 : μ3 106 99 = v)
    (q2 : prA B b = z2) (hc : c = b + 2 + z2) (z20 : 0 ≤ z2) (hcn : c ≤ n) (c0 : 0 ≤ c) (ax : atX B c (b + 2) (sMR μ3) (sMR μ6)) (k1 : μ6 172 1 = μ3 172 1)
    (p2 : pfH B μ6 μ7 n c) (qho : μ6 106 98 = ho) (qhv : μ6 106 99 = hv) (rho : 0 ≤ ho ∧ ho ≤ 1) (rhv : 0 ≤ hv ∧ hv ≤ 1)
    (hn : ((n ≤ c ∨ (¬ ho = 0 ∧ ¬ hv = 0)) ∧ μ1 172 = μ7 172) ∨ ((c < n ∧ (ho = 0 ∨ hv = 0)) ∧ ntR μ7 μ1 172 2 c)) : rdP B (sMR μ) (μ1 172 1) (μ1 172 2) (μ1 172 3) n := by
  have m1 : μ1 172 1 = μ7 172 1 := by
    rcases hn with ⟨_, e⟩ | ⟨_, e⟩
    · rw [e]
    · exact e.2 1 (by decide)
  have m3 : μ1 172 3 = μ7 172 3 := by
    rcases hn with ⟨_, e⟩ | ⟨_, e⟩
    · rw [e]
    · exact e.2 3 (by decide)
  have eb : 2 + prA B 0 = b := by rw [q, hb]
  have ec : 2 + prA B 0 + 2 + prA B (2 + prA B 0) = c := by rw [eb, q2, hc]
  rcases p1 with ⟨p1n, e8⟩ | ⟨p1y, p, hp, nt⟩
  · rcases p2 with ⟨p2n, e8'⟩ | ⟨p2y, p, hp, nt⟩
    · refine Or.inr ⟨?_, bdA.no q h2 (by omega), ?_, sMR μ6, ?_, ?_, ?_⟩
      · rw [m1, e8', k1, e8]; exact k0
      · unfold rdX bdB
        rw [ec, eb]
        rintro (g | g | g)
        · omega
        · exact p1n g
        · exact p2n g
      · have es : sMR μ3 = sMR μ := sMR.of e7 qo qo5 qv qv5 e8
        rw [ec, eb, ← es]; exact ax
      · unfold rdY
        rw [ec]
        show μ1 172 2 = -99999999 ↔ ¬ (¬ μ6 172 2 = -99999999 ∨ (c < n ∧ ¬ (μ6 106 98 = 1 ∧ μ6 106 99 = 1)))
        rw [qho, qhv]
        have m2 : μ7 172 2 = μ6 172 2 := by rw [e8']
        rcases hn with ⟨a, e⟩ | ⟨a, e⟩
        · rw [e, m2]
          have g : ¬ (c < n ∧ ¬ (ho = 1 ∧ hv = 1)) := by
            rintro ⟨g1, g2⟩
            omega
          constructor
          · rintro x (y | y)
            · exact y x
            · exact g y
          · intro x
            by_cases y : μ6 172 2 = -99999999
            · exact y
            · exact absurd (Or.inl y) x
        · have y : ¬ μ1 172 2 = -99999999 := e.1.is c0
          constructor
          · intro x; exact absurd x y
          · intro x
            refine absurd (Or.inr ⟨a.1, ?_⟩) x
            omega
      · rw [m3, e8']; rfl
    · refine Or.inl ⟨?_, Or.inr (Or.inr (Or.inr ?_))⟩
      · rw [m1]; exact nt.1.is hp
      · rw [ec]; exact p2y
  · refine Or.inl ⟨?_, Or.inr (Or.inr (Or.inl ?_))⟩
    · rw [m1]
      refine p2.kept ?_
      rw [k1]
      exact nt.1.is hp
    · rw [eb]; exact p1y
theorem rowAll.next {μ μ1 : mM} {a : Nat} {k x c : Int} (h : ∀ j : Nat, (j : Int) < k → μ a j = c) (h0 : 0 ≤ k) (u : mU μ a k.toNat x μ1) (hx : x = c) : ∀ j : Nat, (j : Int) < k + 1 → μ1 a j = c := fun j hj => by
  by_cases e : j = k.toNat
  · rw [e, u.1]; exact hx
  · rw [u.2 a j (Or.inr e)]
    exact h j (by omega)
/-- both tapes say the same -/
def TPQ (μ : mM) : Prop := μ 106 1 = μ 0 10 ∧ ∀ k : Nat, (k : Int) < μ 0 10 → μ 1 k = bAnd (μ 107 k) 255
theorem TPQ.eq {μ : mM} (h : TPQ μ) (h0 : 0 ≤ μ 0 10) : bC 1 μ = bR μ := by
  funext k
  unfold bC bR byteF
  rw [h.1]
  by_cases d : 0 ≤ k
  · by_cases c : k < μ 0 10
    · rw [if_pos c, if_pos d, if_pos d, if_pos c]
      exact h.2 k.toNat (by omega)
    · rw [if_neg c, if_pos d, if_neg c]
  · rw [if_pos (show k < μ 0 10 from by omega), if_neg d, if_neg d]
end
section
/-! Both tapes say the same: what feed lays down. -/
def TPE (μ : mM) : Prop := ∀ k : Nat, (k : Int) < μ 0 10 → μ 1 k = bAnd (μ 107 k) 255
abbrev tpL : List Nat := [10, 1999, 107999]
theorem TPE.of {μ μ1 : mM} (h : TPE μ) (e0 : μ1 0 10 = μ 0 10) (e1 : ∀ i, μ1 1 i = μ 1 i) (e2 : ∀ i, μ1 107 i = μ 107 i) : TPE μ1 := fun k hk => by
  rw [e0] at hk
  rw [e1, e2]; exact h k hk
theorem TPE.fr {lf : List Nat} {w : mW} {μ μ1 : mM} (h : TPE μ) (hw : mWF w) (hT : mT w μ) (F : mF lf w μ μ1) (hl : (tpL.all fun r => !lf.elem r) = true) : TPE μ1 := h.of (F.f (A_0 hw) (qA_no hl rfl) rfl) (fun _ => F.f (A_1 hw) (qA_no hl rfl) rfl) (fun _ => F.f (A_107 hw) (qA_no hl rfl) rfl)
theorem TPE.frX {lf : List Nat} {w w1 : mW} {μ μ1 : mM} (h : TPE μ) (hw : mWF w) (hT : mT w μ) (F : mX lf w μ w1 μ1) (hl : (tpL.all fun r => !lf.elem r) = true) : TPE μ1 := h.of (F.f (A_0 hw) (qA_no hl rfl) rfl) (fun _ => F.f (A_1 hw) (qA_no hl rfl) rfl) (fun _ => F.f (A_107 hw) (qA_no hl rfl) rfl)
theorem TPE.zero {μ : mM} (h : μ 0 10 = 0) : TPE μ := fun k hk => by omega
theorem TPE.cut {μ μ1 : mM} (h : TPE μ) (e0 : μ1 0 10 ≤ μ 0 10) (e1 : ∀ i, μ1 1 i = μ 1 i) (e2 : ∀ i, μ1 107 i = μ 107 i) : TPE μ1 := fun k hk => by
  rw [e1, e2]; exact h k (by omega)
theorem TPE.tpq {μ : mM} (h : TPE μ) (e : μ 0 10 = μ 106 1) : TPQ μ := ⟨e.symm, h⟩
/-- an octet of a number, shifted with or without its sign -/
theorem sh_bv (v : BitVec 32) (s : Nat) (hs : s ≤ 24) : (((v.sshiftRight s).signExtend 8).signExtend 32) &&& 255#32 = (v >>> s) &&& 255#32 := by
  apply BitVec.eq_of_getLsbD_eq
  intro i hi
  have h255 : (255#32).getLsbD i = decide (i < 8) := by
    have : ∀ i : Fin 32, (255#32).getLsbD i.val = decide (i.val < 8) := by decide
    exact this ⟨i, hi⟩
  rw [BitVec.getLsbD_and, BitVec.getLsbD_and, h255]
  by_cases c : i < 8
  · have h1 : s + i < 32 := by omega
    have h2 : ¬ 32 ≤ i := by omega
    have h3 : i < 32 := hi
    simp only [BitVec.getLsbD_signExtend, BitVec.getLsbD_sshiftRight, BitVec.getLsbD_ushiftRight, c, h1, h2, h3, decide_true, decide_false, Bool.true_and, Bool.and_true, if_true, Bool.not_false]
  · simp only [c, decide_false, Bool.and_false]
theorem sh_i {x b : Int32} {c : UInt32} {s : Nat} (hs : s ≤ 24) (hb : (b.toBitVec.smod 32).toNat = s) (hc : (c.toBitVec % 32).toNat = s) : ((x >>> b).toInt8.toInt32 &&& Int32.ofInt 255) = ((x.toUInt32 >>> c).toInt32 &&& Int32.ofInt 255) := by
  apply Int32.toBitVec_inj.mp
  have e : (Int32.ofInt 255).toBitVec = 255#32 := by decide
  have l : ((x >>> b).toInt8.toInt32).toBitVec = ((x >>> b).toBitVec.signExtend 8).signExtend 32 := rfl
  have r : ((x.toUInt32 >>> c).toInt32).toBitVec = (x.toUInt32 >>> c).toBitVec := rfl
  have l2 : (x >>> b).toBitVec = x.toBitVec.sshiftRight s := by
    rw [Int32.toBitVec_shiftRight, BitVec.sshiftRight', hb]
  have r2 : (x.toUInt32 >>> c).toBitVec = x.toBitVec >>> s := by
    rw [UInt32.toBitVec_shiftRight, BitVec.ushiftRight_eq', hc]
    rfl
  rw [Int32.toBitVec_and, Int32.toBitVec_and, e, l, r, l2, r2]
  exact sh_bv _ s hs
theorem shB {a s z y : Int} (hs : s = 0 ∨ s = 8 ∨ s = 16 ∨ s = 24) (qz : bShr a s = z) (qy : bByte z = y) : bAnd y 255 = bAnd (bUsh a s) 255 := by
  subst qz qy
  unfold bAnd bByte bShr bUsh
  rw [Int32.ofInt_toInt, Int32.ofInt_toInt, Int32.ofInt_toInt]
  congr 1
  rcases hs with e | e | e | e <;> subst e
  · exact sh_i (s := 0) (by decide) (by decide) (by decide)
  · exact sh_i (s := 8) (by decide) (by decide) (by decide)
  · exact sh_i (s := 16) (by decide) (by decide) (by decide)
  · exact sh_i (s := 24) (by decide) (by decide) (by decide)
def fdS (a b c d e : Int) (k : Nat) : Int := if k < 4 then a else if k < 8 then b else if k < 12 then c else if k < 16 then d else e
def fdV (a b c d e : Int) (k : Nat) : Int := bAnd (bUsh (fdS a b c d e k) (24 - 8 * ((k % 4 : Nat) : Int))) 255
def fdN (μ0 μ : mM) (t0 t a : Int) : Prop := (∀ i : Nat, (i : Int) < t0 → μ 1 i = μ0 1 i) ∧ ∀ j : Nat, (j : Int) < t - t0 → μ 1 (t0 + (j : Int)).toNat = bAnd (bUsh a (24 - 8 * (j : Int))) 255
theorem fdN.start {μ : mM} {t a : Int} : fdN μ μ t t a := ⟨fun _ _ => rfl, fun j hj => by omega⟩
theorem fdN.next {μ0 μ μ' μ1 : mM} {t0 t sh z y a t' : Int} (h : fdN μ0 μ t0 t a) (ht : 0 ≤ t0 ∧ t0 ≤ t) (qz : bUsh a sh = z) (qy : bAnd z 255 = y) (hsh : sh = 24 - 8 * (t - t0)) (u : mU μ 1 t.toNat y μ') (e : μ1 1 = μ' 1) (ht' : t' = t + 1) : fdN μ0 μ1 t0 t' a := by
  subst ht'
  unfold fdN
  rw [e]
  refine ⟨fun i hi => ?_, fun j hj => ?_⟩
  · rw [u.2 1 i (Or.inr (by omega))]
    exact h.1 i hi
  · by_cases c : (j : Int) = t - t0
    · have ei : (t0 + (j : Int)).toNat = t.toNat := by omega
      rw [ei, u.1, ← qy, ← qz, hsh, c]
    · rw [u.2 1 _ (Or.inr (by omega))]
      exact h.2 j (by omega)
theorem fdN.fin {μ0 μ : mM} {t0 t t' a : Int} (h : fdN μ0 μ t0 t a) (e : t' = t) : fdN μ0 μ t0 t' a := by rw [e]; exact h
def fdC (μ μ1 : mM) (q a b c d e : Int) : Prop := (∀ i : Nat, (i : Int) < q → μ1 1 i = μ 1 i) ∧ ∀ j : Nat, j < 20 → μ1 1 (q + (j : Int)).toNat = fdV a b c d e j
theorem fdC.mk {μ μ1 μ2 μ3 μ4 μ5 : mM} {q t1 t2 t3 t4 a b c d e : Int} (q0 : 0 ≤ q) (h1 : fdN μ μ1 q (q + 4) a) (e1 : t1 = q + 4) (h2 : fdN μ1 μ2 t1 (t1 + 4) b) (e2 : t2 = q + 8) (h3 : fdN μ2 μ3 t2 (t2 + 4) c) (e3 : t3 = q + 12) (h4 : fdN μ3 μ4 t3 (t3 + 4) d) (e4 : t4 = q + 16) (h5 : fdN μ4 μ5 t4 (t4 + 4) e) : fdC μ μ5 q a b c d e := by
  have D : ∀ i : Nat, (i : Int) < q + 16 → μ5 1 i = μ4 1 i := fun i hi => h5.1 i (by omega)
  have C : ∀ i : Nat, (i : Int) < q + 12 → μ5 1 i = μ3 1 i := fun i hi => (D i (by omega)).trans (h4.1 i (by omega))
  have B : ∀ i : Nat, (i : Int) < q + 8 → μ5 1 i = μ2 1 i := fun i hi => (C i (by omega)).trans (h3.1 i (by omega))
  have A : ∀ i : Nat, (i : Int) < q + 4 → μ5 1 i = μ1 1 i := fun i hi => (B i (by omega)).trans (h2.1 i (by omega))
  refine ⟨fun i hi => (A i (by omega)).trans (h1.1 i hi), fun j hj => ?_⟩
  unfold fdV fdS
  by_cases c1 : j < 4
  · have g := h1.2 j (by omega)
    have em : j % 4 = j := by omega
    rw [if_pos c1, A _ (by omega), g, em]
  · by_cases c2 : j < 8
    · have g := h2.2 (j - 4) (by omega)
      have ei : (t1 + ((j - 4 : Nat) : Int)).toNat = (q + (j : Int)).toNat := by omega
      have em : j % 4 = j - 4 := by omega
      rw [ei] at g
      rw [if_neg c1, if_pos c2, B _ (by omega), g, em]
    · by_cases c3 : j < 12
      · have g := h3.2 (j - 8) (by omega)
        have ei : (t2 + ((j - 8 : Nat) : Int)).toNat = (q + (j : Int)).toNat := by omega
        have em : j % 4 = j - 8 := by omega
        rw [ei] at g
        rw [if_neg c1, if_neg c2, if_pos c3, C _ (by omega), g, em]
      · by_cases c4 : j < 16
        · have g := h4.2 (j - 12) (by omega)
          have ei : (t3 + ((j - 12 : Nat) : Int)).toNat = (q + (j : Int)).toNat := by omega
          have em : j % 4 = j - 12 := by omega
          rw [ei] at g
          rw [if_neg c1, if_neg c2, if_neg c3, if_pos c4, D _ (by omega), g, em]
        · have g := h5.2 (j - 16) (by omega)
          have ei : (t4 + ((j - 16 : Nat) : Int)).toNat = (q + (j : Int)).toNat := by omega
          have em : j % 4 = j - 16 := by omega
          rw [ei] at g
          rw [if_neg c1, if_neg c2, if_neg c3, if_neg c4, g, em]
def fdR (μ μ1 : mM) (q k a b c d e : Int) : Prop := (∀ i : Nat, (i : Int) < q → μ1 107 i = μ 107 i) ∧ ∀ j : Nat, (j : Int) < k → bAnd (μ1 107 (q + (j : Int)).toNat) 255 = fdV a b c d e j
theorem fdR.start {μ : mM} {q k a b c d e : Int} (h : k ≤ 0) : fdR μ μ q k a b c d e := ⟨fun _ _ => rfl, fun j hj => by omega⟩
theorem fdR.next {μ0 μ μ1 : mM} {q k a b c d e x s z y i : Int} (h : fdR μ0 μ q k a b c d e) (q0 : 0 ≤ q) (k0 : 0 ≤ k) (hs : s = 0 ∨ s = 8 ∨ s = 16 ∨ s = 24) (qz : bShr x s = z) (qy : bByte z = y) (hsk : s = 24 - 8 * (k % 4)) (hx : x = fdS a b c d e k.toNat) (u : mU μ 107 i.toNat y μ1) (hi : i = q + k) : fdR μ0 μ1 q (k + 1) a b c d e := by
  subst hi
  refine ⟨fun i hi => ?_, fun j hj => ?_⟩
  · rw [u.2 107 i (Or.inr (by omega))]
    exact h.1 i hi
  · by_cases c' : (j : Int) = k
    · have ej : j = k.toNat := by omega
      have em : ((j % 4 : Nat) : Int) = k % 4 := by omega
      rw [c', u.1, shB hs qz qy]
      unfold fdV
      rw [em, ← hsk, ej, ← hx]
    · rw [u.2 107 _ (Or.inr (by omega))]
      exact h.2 j (by omega)
theorem fdR.of {μ0 μ μ1 : mM} {q k a b c d e : Int} (h : fdR μ0 μ q k a b c d e) (r : μ1 107 = μ 107) (hk : 20 ≤ k) : fdR μ0 μ1 q 20 a b c d e := by
  unfold fdR
  rw [r]
  exact ⟨h.1, fun j hj => h.2 j (by omega)⟩
theorem fdS.is {a b c d e x k : Int} (h0 : 0 ≤ k) (h : (k < 4 ∧ x = a) ∨ (4 ≤ k ∧ k < 8 ∧ x = b) ∨ (8 ≤ k ∧ k < 12 ∧ x = c) ∨ (12 ≤ k ∧ k < 16 ∧ x = d) ∨ (16 ≤ k ∧ x = e)) : x = fdS a b c d e k.toNat := by
  unfold fdS
  rcases h with ⟨h1, e⟩ | ⟨h1, h2, e⟩ | ⟨h1, h2, e⟩ | ⟨h1, h2, e⟩ | ⟨h1, e⟩
  · rw [if_pos (by omega)]; exact e
  · rw [if_neg (by omega), if_pos (by omega)]; exact e
  · rw [if_neg (by omega), if_neg (by omega), if_pos (by omega)]; exact e
  · rw [if_neg (by omega), if_neg (by omega), if_neg (by omega), if_pos (by omega)]; exact e
  · rw [if_neg (by omega), if_neg (by omega), if_neg (by omega), if_neg (by omega)]; exact e
theorem TPE.feed {μ ma mb : mM} {q z a b c d e : Int} (h : TPE μ) (hq : μ 0 10 = q) (q0 : 0 ≤ q) (pa : (z < 0 ∧ ma 1 = μ 1) ∨ (0 ≤ z ∧ fdC μ ma q a b c d e)) (r7 : ∀ i, ma 107 i = μ 107 i) (pb : (z < 0 ∧ mb 107 = ma 107) ∨ (0 ≤ z ∧ fdR ma mb q 20 a b c d e)) (r1 : ∀ i, mb 1 i = ma 1 i) (h1 : z < 0 → mb 0 10 = q) (h2 : 0 ≤ z → mb 0 10 = q + 20) : TPE mb := fun k hk => by
  rw [r1]
  rcases pa with ⟨s1, e1⟩ | ⟨s1, f1⟩ <;> rcases pb with ⟨s2, e2⟩ | ⟨s2, f2⟩
  · have g := h1 s1
    rw [e1, e2, r7]
    exact h k (by omega)
  · omega
  · omega
  · have g := h2 s1
    by_cases c' : (k : Int) < q
    · rw [f1.1 k c', f2.1 k c', r7]
      exact h k (by omega)
    · have x1 := f1.2 (k - q.toNat) (by omega)
      have x2 := f2.2 (k - q.toNat) (by omega)
      have ek : (q + ((k - q.toNat : Nat) : Int)).toNat = k := by omega
      rw [ek] at x1 x2
      rw [x1, x2]
end
section
/-! The reader of policies, as one machine over octets. B: the octet at a place (below 0: behind the end). -/
def isB (b : Int) : Prop := b = 32 ∨ b = 10
def isL (b : Int) : Prop := 97 ≤ b ∧ b ≤ 122
def isF (b : Int) : Prop := 48 ≤ b ∧ b ≤ 57
/-- from p on all are of the kind C, up to q, where none is -/
def runX (C : Int → Prop) (B : Int → Int) (p q : Int) : Prop := p ≤ q ∧ (∀ i, p ≤ i → i < q → C (B i)) ∧ ¬ C (B q)
theorem runX.uniq {C : Int → Prop} {B : Int → Int} {p a b : Int} (h : runX C B p a) (g : runX C B p b) : a = b := by
  rcases Int.lt_trichotomy a b with c | c | c
  · exact absurd (g.2.1 a h.1 c) h.2.2
  · exact c
  · exact absurd (h.2.1 b g.1 c) g.2.2
/-- the number that the figures from p up to p + n say -/
def decN (B : Int → Int) (p : Int) : Nat → Int
  | 0 => 0
  | n + 1 => 10 * decN B p n + (B (p + (n : Int)) - 48)
/-- W: the words one behind another, a blank behind each; the word from b up to i, the w-th -/
def wdAt (W : Int → Int) (b i w : Int) : Prop := 0 ≤ b ∧ b < i ∧ W i = 32 ∧ (∀ j, b ≤ j → j < i → ¬ W j = 32) ∧ ∃ m : Nat, m ≤ 200 ∧ w = (m : Int) ∧ ∃ s : Nat → Int, s 0 = 0 ∧ s m = b ∧ ∀ k : Nat, k < m → s k < s (k + 1) ∧ W (s (k + 1) - 1) = 32 ∧ ∀ j, s k ≤ j → j < s (k + 1) - 1 → ¬ W j = 32
abbrev Cfg : Type := Int × Int × Int × Int × Int × Int
/-- a token: its kind (-1 the end, -2 a number, -3 no word, 1000 + c a sign, else a word), its number, its place, what is behind it. wr: which word the letters are -/
def TokX (wr : Int → Int → Int → Prop) (B : Int → Int) (p t v f q : Int) : Prop :=
  runX isB B p f ∧
  ((B f < 0 ∧ t = -1 ∧ v = 0 ∧ q = f) ∨
   (isL (B f) ∧ runX isL B f q ∧ wr f (q - f) t ∧ v = 0) ∨
   (isF (B f) ∧ runX isF B f q ∧ ((9 < q - f ∧ t = -3 ∧ v = 0) ∨ (q - f ≤ 9 ∧ t = -2 ∧ v = decN B f (q - f).toNat))) ∨
   ((¬ B f < 0 ∧ ¬ isL (B f) ∧ ¬ isF (B f)) ∧ t = 1000 + B f ∧ v = 0 ∧ q = f + 1))
theorem TokX.uniq {wr : Int → Int → Int → Prop} {B : Int → Int} {p t v f q t' v' f' q' : Int} (hw : ∀ a n x y, wr a n x → wr a n y → x = y) (h : TokX wr B p t v f q) (g : TokX wr B p t' v' f' q') : t = t' ∧ v = v' ∧ f = f' ∧ q = q' := by
  obtain ⟨h0, h⟩ := h
  obtain ⟨g0, g⟩ := g
  have e := h0.uniq g0
  subst e
  have nL : ∀ b : Int, isL b → ¬ isF b := fun b x y => by unfold isL at x; unfold isF at y; omega
  have p1 : ∀ b : Int, isL b → ¬ b < 0 := fun b x y => by unfold isL at x; omega
  have p2 : ∀ b : Int, isF b → ¬ b < 0 := fun b x y => by unfold isF at x; omega
  rcases h with ⟨a1, a2, a3, a4⟩ | ⟨a1, a2, a3, a4⟩ | ⟨a1, a2, a3⟩ | ⟨a1, a2, a3, a4⟩ <;> rcases g with ⟨b1, b2, b3, b4⟩ | ⟨b1, b2, b3, b4⟩ | ⟨b1, b2, b3⟩ | ⟨b1, b2, b3, b4⟩
  · exact ⟨a2.trans b2.symm, a3.trans b3.symm, rfl, a4.trans b4.symm⟩
  · exact absurd a1 (p1 _ b1)
  · exact absurd a1 (p2 _ b1)
  · exact absurd a1 b1.1
  · exact absurd b1 (p1 _ a1)
  · have e := a2.uniq b2
    subst e
    exact ⟨hw _ _ _ _ a3 b3, a4.trans b4.symm, rfl, rfl⟩
  · exact absurd b1 (nL _ a1)
  · exact absurd a1 b1.2.1
  · exact absurd b1 (p2 _ a1)
  · exact absurd a1 (nL _ b1)
  · have e := a2.uniq b2
    subst e
    rcases a3 with ⟨x1, x2, x3⟩ | ⟨x1, x2, x3⟩ <;> rcases b3 with ⟨y1, y2, y3⟩ | ⟨y1, y2, y3⟩
    · exact ⟨x2.trans y2.symm, x3.trans y3.symm, rfl, rfl⟩
    · omega
    · omega
    · exact ⟨x2.trans y2.symm, x3.trans y3.symm, rfl, rfl⟩
  · exact absurd a1 b1.2.2
  · exact absurd b1 a1.1
  · exact absurd b1 a1.2.1
  · exact absurd b1 a1.2.2
  · exact ⟨a2.trans b2.symm, a3.trans b3.symm, rfl, a4.trans b4.symm⟩
/-- the end: (-1, kind, place) -/
def erC (k f : Int) : Cfg := (-1, k, f, 0, 0, 0)
def faC (k t f : Int) : Cfg := erC (if t = -3 then 1 else k) f
abbrev isAc (t : Int) : Prop := t = 12 ∨ t = 13 ∨ (23 ≤ t ∧ t ≤ 28)
abbrev isTs (t : Int) : Prop := t = 4 ∨ t = 6 ∨ (8 ≤ t ∧ t ≤ 15)
def n0 (p r m t f q : Int) : Cfg := if t = -1 then erC 0 0 else if ¬ (t = 0 ∨ isAc t) then faC 2 t f else if 30 ≤ r then faC 4 t f else if t = 0 then (1, q, r + 1, m, 0, 0) else (6, p, r + 1, m, 0, 0)
def n1 (r m t f q : Int) : Cfg := if t = 3 then (1, q, r, m, 0, 0) else if ¬ isTs t then faC 2 t f else if t = 4 then (9, q, r, m, 0, 0) else if t = 6 then (14, q, r, m, 0, 0) else if t = 8 then (2, q, r, m, 0, 65535) else if t = 9 then (2, q, r, m, 0, 9) else if t = 14 then (2, q, r, m, 0, 2) else if t = 10 then (3, q, r, m, 16, 19) else if t = 15 then (3, q, r, m, 20, 22) else if t = 12 then (4, q, r, m, 1000, 0) else (4, q, r, m, 1000000, 0)
def nNum (s r m x y t v f q : Int) : Cfg := if ¬ t = -2 then faC 2 t f else if v < x ∨ y < v then faC 3 t f else (s, q, r, m, 0, 0)
def n3 (r m x y t f q : Int) : Cfg := if t < x ∨ y < t then faC 2 t f else (5, q, r, m, 0, 0)
def n4 (r m x t f q : Int) : Cfg := if t = 1060 ∨ t = 1061 ∨ t = 1062 then (2, q, r, m, 0, x) else faC 2 t f
def n5 (r m t f q : Int) : Cfg := if t = 1 then (1, q, r, m, 0, 0) else if t = 2 then (6, q, r, m, 0, 0) else faC 2 t f
def n6 (c r m t f q : Int) : Cfg := if ¬ isAc t then faC 2 t f else if t = 25 ∨ t = 26 then (7, q, r, m, 0, 65535) else if t = 12 then (7, q, r, m, 0, 1000) else if t = 13 then (7, q, r, m, 0, 1000000) else if t = 27 then (7, q, r, m, 1, 9) else if t = 28 then (7, q, r, m, 0, c - 1) else (8, q, r, m, 0, 0)
def n8 (r m t f q : Int) : Cfg := if t = 1044 then (6, q, r, m, 0, 0) else if t = 1059 then (0, q, r, m, 0, 0) else faC 2 t f
def n9 (r m x y t v f q : Int) : Cfg := if ¬ t = -2 then faC 2 t f else if v < 0 ∨ 255 < v then faC 3 t f else if x = 3 then (11, q, r, m, bOr (bShl y 8) v, 0) else (10, q, r, m, x, bOr (bShl y 8) v)
def n10 (r m x y t f q : Int) : Cfg := if t = 1046 then (9, q, r, m, x + 1, y) else faC 2 t f
def n11 (r m x t f q : Int) : Cfg := if t = 1047 then (12, q, r, m, x, 0) else faC 2 t f
def n12 (mk : Int → Int) (r m x t v f q : Int) : Cfg := if t = -2 ∧ 0 ≤ v ∧ v ≤ 32 ∧ ¬ bAnd x (bXor (mk v) (-1)) = 0 then faC 3 t f else if ¬ t = -2 then faC 2 t f else if v < 0 ∨ 32 < v then faC 3 t f else (13, q, r, m, v, 0)
def n13 (p r m x t q : Int) : Cfg := if t = 5 then (2, q, r, m, x, 32) else (5, p, r, m, 0, 0)
def n14 (r m t f q : Int) : Cfg := if t = 1040 then (15, q, r, m, 1, 0) else faC 2 t f
def n15 (r m x t v f q : Int) : Cfg := if t = -2 ∨ t = 7 then (if t = -2 ∧ 1000000 < v then faC 3 t f else if 40 ≤ m then faC 4 t f else (16, q, r, m + 1, x, 0)) else if t = 1040 then (if 6 ≤ x then faC 4 t f else (15, q, r, m, x + 1, 0)) else if t = 1124 then (15, q, r, m, x, 0) else if t = 1041 then (if x = 1 then (5, q, r, m, 0, 0) else (16, q, r, m, x - 1, 0)) else faC 2 t f
def n16 (p r m x t q : Int) : Cfg := if t = 1042 ∨ t = 1043 ∨ t = 1063 then (15, q, r, m, x, 0) else (15, p, r, m, x, 0)
/-- what follows -/
def nxC (mk : Int → Int) (c : Int) (a : Cfg) (t v f q : Int) : Cfg :=
  if a.1 = 0 then n0 a.2.1 a.2.2.1 a.2.2.2.1 t f q
  else if a.1 = 1 then n1 a.2.2.1 a.2.2.2.1 t f q
  else if a.1 = 2 then nNum 5 a.2.2.1 a.2.2.2.1 a.2.2.2.2.1 a.2.2.2.2.2 t v f q
  else if a.1 = 3 then n3 a.2.2.1 a.2.2.2.1 a.2.2.2.2.1 a.2.2.2.2.2 t f q
  else if a.1 = 4 then n4 a.2.2.1 a.2.2.2.1 a.2.2.2.2.1 t f q
  else if a.1 = 5 then n5 a.2.2.1 a.2.2.2.1 t f q
  else if a.1 = 6 then n6 c a.2.2.1 a.2.2.2.1 t f q
  else if a.1 = 7 then nNum 8 a.2.2.1 a.2.2.2.1 a.2.2.2.2.1 a.2.2.2.2.2 t v f q
  else if a.1 = 8 then n8 a.2.2.1 a.2.2.2.1 t f q
  else if a.1 = 9 then n9 a.2.2.1 a.2.2.2.1 a.2.2.2.2.1 a.2.2.2.2.2 t v f q
  else if a.1 = 10 then n10 a.2.2.1 a.2.2.2.1 a.2.2.2.2.1 a.2.2.2.2.2 t f q
  else if a.1 = 11 then n11 a.2.2.1 a.2.2.2.1 a.2.2.2.2.1 t f q
  else if a.1 = 12 then n12 mk a.2.2.1 a.2.2.2.1 a.2.2.2.2.1 t v f q
  else if a.1 = 13 then n13 a.2.1 a.2.2.1 a.2.2.2.1 a.2.2.2.2.1 t q
  else if a.1 = 14 then n14 a.2.2.1 a.2.2.2.1 t f q
  else if a.1 = 15 then n15 a.2.2.1 a.2.2.2.1 a.2.2.2.2.1 t v f q
  else n16 a.2.1 a.2.2.1 a.2.2.2.1 a.2.2.2.2.1 t q
section Mch
variable {wr : Int → Int → Int → Prop} {mk : Int → Int} {B : Int → Int} {c : Int}
def stC (wr : Int → Int → Int → Prop) (mk : Int → Int) (B : Int → Int) (c : Int) (a b : Cfg) : Prop := ¬ a.1 = -1 ∧ ∃ t v f q, TokX wr B a.2.1 t v f q ∧ b = nxC mk c a t v f q
theorem stC.uniq (hw : ∀ a n x y, wr a n x → wr a n y → x = y) {a b b' : Cfg} (h : stC wr mk B c a b) (g : stC wr mk B c a b') : b = b' := by
  obtain ⟨_, t, v, f, q, h1, h2⟩ := h
  obtain ⟨_, t', v', f', q', g1, g2⟩ := g
  obtain ⟨e1, e2, e3, e4⟩ := h1.uniq hw g1
  rw [h2, g2, e1, e2, e3, e4]
def rcN (wr : Int → Int → Int → Prop) (mk : Int → Int) (B : Int → Int) (c : Int) : Nat → Cfg → Cfg → Prop
  | 0, a, b => a = b
  | n + 1, a, b => ∃ x, rcN wr mk B c n a x ∧ stC wr mk B c x b
def rcC (wr : Int → Int → Int → Prop) (mk : Int → Int) (B : Int → Int) (c : Int) (a b : Cfg) : Prop := ∃ n, rcN wr mk B c n a b
theorem rcC.refl {a : Cfg} : rcC wr mk B c a a := ⟨0, rfl⟩
theorem rcC.go {a b d : Cfg} (h : rcC wr mk B c a b) (g : stC wr mk B c b d) : rcC wr mk B c a d := by
  obtain ⟨n, h⟩ := h
  exact ⟨n + 1, b, h, g⟩
theorem rcN.uniq (hw : ∀ a n x y, wr a n x → wr a n y → x = y) : ∀ (n : Nat) {a b b' : Cfg}, rcN wr mk B c n a b → rcN wr mk B c n a b' → b = b'
  | 0, _, _, _, h, g => h.symm.trans g
  | n + 1, _, _, _, ⟨x, h1, h2⟩, ⟨y, g1, g2⟩ => by
    have e := rcN.uniq hw n h1 g1
    subst e
    exact h2.uniq hw g2
/-- what is reached in fewer steps leads there -/
theorem rcN.pre : ∀ (n k : Nat) {a b : Cfg}, rcN wr mk B c (n + k) a b → ∃ x, rcN wr mk B c n a x ∧ rcN wr mk B c k x b
  | n, 0, _, b, h => ⟨b, h, rfl⟩
  | n, k + 1, _, _, ⟨x, h1, h2⟩ => by
    obtain ⟨y, g1, g2⟩ := rcN.pre n k h1
    exact ⟨y, g1, x, g2, h2⟩
theorem rcN.end : ∀ (k : Nat) {k0 f0 : Int} {b : Cfg}, rcN wr mk B c k (erC k0 f0) b → b = erC k0 f0
  | 0, _, _, _, h => h.symm
  | k + 1, _, _, _, ⟨x, h1, h2⟩ => by
    have e := rcN.end k h1
    subst e
    exact absurd rfl h2.1
theorem rcC.fin (hw : ∀ a n x y, wr a n x → wr a n y → x = y) {a : Cfg} {k f k' f' : Int} (h : rcC wr mk B c a (erC k f)) (g : rcC wr mk B c a (erC k' f')) : k = k' ∧ f = f' := by
  obtain ⟨n, h⟩ := h
  obtain ⟨m, g⟩ := g
  have e : erC k f = erC k' f' := by
    rcases Nat.le_total n m with l | l
    · obtain ⟨d, rfl⟩ := Nat.exists_eq_add_of_le l
      obtain ⟨x, x1, x2⟩ := rcN.pre n d g
      have e := rcN.uniq hw n h x1
      subst e
      exact (rcN.end d x2).symm
    · obtain ⟨d, rfl⟩ := Nat.exists_eq_add_of_le l
      obtain ⟨x, x1, x2⟩ := rcN.pre m d h
      have e := rcN.uniq hw m g x1
      subst e
      exact rcN.end d x2
  exact ⟨congrArg (fun z : Cfg => z.2.1) e, congrArg (fun z : Cfg => z.2.2.1) e⟩
theorem rcC.st {a : Cfg} {s p r m x y t v f q : Int} (h : rcC wr mk B c a (s, p, r, m, x, y)) (hs : ¬ s = -1) (k : TokX wr B p t v f q) : rcC wr mk B c a (nxC mk c (s, p, r, m, x, y) t v f q) := h.go ⟨hs, t, v, f, q, k, rfl⟩
/-- at a token that is no word the machine ends -/
theorem rcC.no {a : Cfg} {s p r m x y v f q : Int} (h : rcC wr mk B c a (s, p, r, m, x, y)) (hs : 0 ≤ s ∧ s ≤ 16) (hx : s = 3 → 0 ≤ x) (k : TokX wr B p (-3) v f q) : rcC wr mk B c a (erC 1 f) := by
  have two : ∀ {s' x' y' : Int}, s' = 5 ∨ s' = 15 → rcC wr mk B c a (s', p, r, m, x', y') → rcC wr mk B c a (erC 1 f) := by
    intro s' x' y' e g
    rcases e with e | e <;> subst e
    · exact g.st (by decide) k
    · exact g.st (by decide) k
  have z : s = 0 ∨ s = 1 ∨ s = 2 ∨ s = 3 ∨ s = 4 ∨ s = 5 ∨ s = 6 ∨ s = 7 ∨ s = 8 ∨ s = 9 ∨ s = 10 ∨ s = 11 ∨ s = 12 ∨ s = 13 ∨ s = 14 ∨ s = 15 ∨ s = 16 := by omega
  rcases z with e | e | e | e | e | e | e | e | e | e | e | e | e | e | e | e | e <;> subst e
  · exact h.st (by decide) k
  · exact h.st (by decide) k
  · exact h.st (by decide) k
  · have g := h.st (by decide) k
    have e : nxC mk c (3, p, r, m, x, y) (-3) v f q = erC 1 f := by
      show n3 r m x y (-3) f q = erC 1 f
      unfold n3
      rw [if_pos (Or.inl (by have := hx rfl; omega))]
      rfl
    rw [e] at g; exact g
  · exact h.st (by decide) k
  · exact h.st (by decide) k
  · exact h.st (by decide) k
  · exact h.st (by decide) k
  · exact h.st (by decide) k
  · exact h.st (by decide) k
  · exact h.st (by decide) k
  · exact h.st (by decide) k
  · exact h.st (by decide) k
  · exact two (Or.inl rfl) (h.st (by decide) k)
  · exact h.st (by decide) k
  · exact h.st (by decide) k
  · exact two (Or.inr rfl) (h.st (by decide) k)
end Mch
end
