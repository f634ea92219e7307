/-! Ties: searched and grown on both sides. -/
def tc (μ : mM) (j i : Nat) : Int := μ (μ 11 i).toNat j
def tr (μ : mM) (j i : Nat) : Int := μ 110 (2 * i + j)
theorem tcOf {μ : mM} {i b j : Nat} {u : Int} (q : μ 11 i = (b : Int)) (qa : μ b j = u) : tc μ j i = u := by unfold tc; rw [q]; exact qa
theorem trOf {μ : mM} {t e u : Int} (j : Nat) (q : μ 110 e.toNat = u) (he : e = 2 * t + (j : Int)) (h0 : 0 ≤ t) : tr μ j t.toNat = u := by
  unfold tr
  rw [show 2 * t.toNat + j = e.toNat by omega]
  exact q
def matQ (f g : Nat → Int) (i : Nat) (x y : Int) : Prop := (f i = x ∧ g i = y) ∨ (f i = y ∧ g i = x)
def noneQ (f g : Nat → Int) (n x y : Int) : Prop := ∀ i : Nat, (i : Int) < n → ¬ matQ f g i x y
theorem noneQ.zero {f g : Nat → Int} {n x y : Int} (h : n ≤ 0) : noneQ f g n x y := fun i q => by omega
theorem noneQ.succ {f g : Nat → Int} {n x y u v : Int} (h : noneQ f g n x y) (h0 : 0 ≤ n) (qa : f n.toNat = u) (qb : g n.toNat = v) (hne : ¬ ((u = x ∧ v = y) ∨ (u = y ∧ v = x))) : noneQ f g (n + 1) x y := fun i q k => by
  by_cases e : i = n.toNat
  · unfold matQ at k; rw [e, qa, qb] at k; exact hne k
  · exact h i (by omega) k
theorem noneQ.succ1 {f g : Nat → Int} {n x y u : Int} (h : noneQ f g n x y) (h0 : 0 ≤ n) (qa : f n.toNat = u) (hne : ¬ u = x ∧ ¬ u = y) : noneQ f g (n + 1) x y := fun i q k => by
  by_cases e : i = n.toNat
  · unfold matQ at k; rw [e, qa] at k
    rcases k with k | k
    · exact hne.1 k.1
    · exact hne.2 k.1
  · exact h i (by omega) k
theorem noneQ.cg {f g f' g' : Nat → Int} {n x y : Int} (h : noneQ f g n x y) (e : ∀ i : Nat, (i : Int) < n → f' i = f i ∧ g' i = g i) : noneQ f' g' n x y := fun i q k => h i q (by
  unfold matQ at k ⊢; rw [(e i q).1, (e i q).2] at k; exact k)
/-- a search's answer: the first that fits, or no -/
def fndQ (f g : Nat → Int) (n x y no z : Int) : Prop := (z = no ∧ noneQ f g n x y) ∨ (0 ≤ z ∧ z < n ∧ matQ f g z.toNat x y ∧ noneQ f g z x y)
theorem fndQ.hit {f g : Nat → Int} {n x y no z u v : Int} (h0 : 0 ≤ z ∧ z < n) (qa : f z.toNat = u) (qb : g z.toNat = v) (hm : (u = x ∧ v = y) ∨ (u = y ∧ v = x)) (hn : noneQ f g z x y) : fndQ f g n x y no z := Or.inr ⟨h0.1, h0.2, by unfold matQ; rw [qa, qb]; exact hm, hn⟩
theorem fndQ.miss {f g : Nat → Int} {n k x y no : Int} (hn : noneQ f g k x y) (hk : n ≤ k) : fndQ f g n x y no no := Or.inl ⟨rfl, fun i q => hn i (by omega)⟩
theorem fndQ.has {f g : Nat → Int} {n x y no z : Int} (h : fndQ f g n x y no z) (hz : ¬ z = no) : ¬ noneQ f g n x y := fun k => by
  rcases h with h | ⟨h1, h2, h3, _⟩
  · exact hz h.1
  · exact k z.toNat (by omega) h3
theorem fndQ.not {f g : Nat → Int} {n x y no z : Int} (h : fndQ f g n x y no z) (hn : no < 0) (hz : z < 0) : noneQ f g n x y := by
  rcases h with h | ⟨h1, _⟩
  · exact h.2
  · omega
theorem fndQ.eq {f g f' g' : Nat → Int} {n x y a b z z' : Int} (h : fndQ f g n x y a z) (k : fndQ f' g' n x y b z') (e : ∀ i : Nat, (i : Int) < n → f' i = f i ∧ g' i = g i) : (z = z' ∧ 0 ≤ z ∧ z < n ∧ matQ f g z.toNat x y) ∨ (z = a ∧ z' = b) := by
  rcases h with ⟨h1, h2⟩ | ⟨h1, h2, h3, h4⟩ <;> rcases k with ⟨k1, k2⟩ | ⟨k1, k2, k3, k4⟩
  · exact Or.inr ⟨h1, k1⟩
  · exact absurd k3 (h2.cg e z'.toNat (by omega))
  · refine absurd ?_ (k2 z.toNat (by omega))
    unfold matQ; rw [(e z.toNat (by omega)).1, (e z.toNat (by omega)).2]; exact h3
  · refine Or.inl ⟨?_, h1, h2, h3⟩
    by_cases c : z < z'
    · refine absurd ?_ (k4 z.toNat (by omega))
      unfold matQ; rw [(e z.toNat (by omega)).1, (e z.toNat (by omega)).2]; exact h3
    · by_cases c2 : z' < z
      · exact absurd k3 (noneQ.cg (fun i q => h4 i q) (fun i q => e i (by omega)) z'.toNat (by omega))
      · omega
/-- the answer of tie -/
def tieB (dm x y k : Int) : Prop := x < 0 ∨ dm ≤ x ∨ y < 0 ∨ dm ≤ y ∨ x = y ∨ k < 0 ∨ 2 < k
def tieA (A : Prop) (dm n x y k z : Int) : Prop := (tieB dm x y k ∧ z = -1) ∨ (¬ tieB dm x y k ∧ ((¬ A ∧ z = -2) ∨ (A ∧ ((20 ≤ n ∧ z = -3) ∨ (n < 20 ∧ z = n)))))
theorem tieA.eq {A B : Prop} {dm n x y k z z' : Int} (h : tieA A dm n x y k z) (q : tieA B dm n x y k z') (e : A ↔ B) : z = z' := by
  rcases h with ⟨h1, h2⟩ | ⟨h1, h2⟩ <;> rcases q with ⟨k1, k2⟩ | ⟨k1, k2⟩
  · omega
  · exact absurd h1 k1
  · exact absurd k1 h1
  · rcases h2 with ⟨a, h2⟩ | ⟨a, h2⟩ <;> rcases k2 with ⟨b, k2⟩ | ⟨b, k2⟩
    · omega
    · exact absurd (e.mpr b) a
    · exact absurd (e.mp a) b
    · omega
/-- what tie did: the class, the reference -/
def tgC (μ μ1 : mM) (x y k z : Int) : Prop := (0 ≤ z ∧ μ1 6 16 = μ 6 16 + 1 ∧ (tc μ1 0 (μ 6 16).toNat = x ∧ tc μ1 1 (μ 6 16).toNat = y ∧ tc μ1 2 (μ 6 16).toNat = k) ∧ ∀ i : Nat, (i : Int) < μ 6 16 → tc μ1 0 i = tc μ 0 i ∧ tc μ1 1 i = tc μ 1 i ∧ tc μ1 2 i = tc μ 2 i) ∨ (z < 0 ∧ μ1 = μ)
def tgR (μ μ1 : mM) (x y k z : Int) : Prop := (0 ≤ z ∧ μ1 106 6 = μ 106 6 + 1 ∧ (tr μ1 0 (μ 106 6).toNat = x ∧ tr μ1 1 (μ 106 6).toNat = y ∧ μ1 111 (μ 106 6).toNat = k) ∧ ∀ i : Nat, (i : Int) < μ 106 6 → tr μ1 0 i = tr μ 0 i ∧ tr μ1 1 i = tr μ 1 i ∧ μ1 111 i = μ 111 i) ∨ (z < 0 ∧ μ1 = μ)
/-- the ties of both sides -/
def TQR (μ : mM) : Prop := μ 6 16 = μ 106 6 ∧ ∀ i : Nat, (i : Int) < μ 6 16 → tc μ 0 i = tr μ 0 i ∧ tc μ 1 i = tr μ 1 i ∧ tc μ 2 i = μ 111 i
/-- ties below n are left alone -/
def tcS (μ μ1 : mM) (n : Int) : Prop := ∀ i : Nat, (i : Int) < n → tc μ1 0 i = tc μ 0 i ∧ tc μ1 1 i = tc μ 1 i ∧ tc μ1 2 i = tc μ 2 i
def trS (μ μ1 : mM) (n : Int) : Prop := ∀ i : Nat, (i : Int) < n → tr μ1 0 i = tr μ 0 i ∧ tr μ1 1 i = tr μ 1 i ∧ μ1 111 i = μ 111 i
theorem TQR.pre {μ μa μb : mM} {dm x y k z z' : Int} (h : TQR μ) (ha : tieA (noneQ (tc μ 0) (tc μ 1) (μ 6 16) x y) dm (μ 6 16) x y k z) (qa : tgC μ μa x y k z) (eA : μa 106 6 = μ 106 6 ∧ trS μ μa (μ 106 6)) (hb : tieA (noneQ (tr μa 0) (tr μa 1) (μa 106 6) x y) dm (μa 106 6) x y k z') (qb : tgR μa μb x y k z') (eB : μb 6 16 = μa 6 16 ∧ tcS μa μb (μa 6 16)) : z = z' ∧ TQR μb := by
  obtain ⟨q1, q2⟩ := h
  obtain ⟨a1, a2⟩ := eA
  obtain ⟨b1, b2⟩ := eB
  rw [q1] at ha
  rw [a1] at hb
  have e : noneQ (tc μ 0) (tc μ 1) (μ 106 6) x y ↔ noneQ (tr μa 0) (tr μa 1) (μ 106 6) x y := by
    constructor
    · exact fun h => h.cg fun i hi => ⟨by rw [(a2 i hi).1, (q2 i (by omega)).1], by rw [(a2 i hi).2.1, (q2 i (by omega)).2.1]⟩
    · exact fun h => h.cg fun i hi => ⟨by rw [(a2 i hi).1, (q2 i (by omega)).1], by rw [(a2 i hi).2.1, (q2 i (by omega)).2.1]⟩
  have hz := ha.eq hb e
  refine ⟨hz, ?_⟩
  rcases qa with ⟨z0, c1, ⟨d1, d2, d3⟩, d4⟩ | ⟨z0, rfl⟩ <;> rcases qb with ⟨y0, c2, ⟨f1, f2, f3⟩, f4⟩ | ⟨y0, rfl⟩
  · refine ⟨by rw [b1, c1, c2, a1, q1], fun i hi => ?_⟩
    rw [b1, c1] at hi
    obtain ⟨g1, g2, g3⟩ := b2 i (by rw [c1]; exact hi)
    rw [g1, g2, g3]
    rw [q1] at d1 d2 d3 d4 hi
    rw [a1] at f1 f2 f3 f4
    by_cases e : (i : Int) = μ 106 6
    · have ei : i = (μ 106 6).toNat := by omega
      rw [ei, d1, d2, d3, f1, f2, f3]; exact ⟨rfl, rfl, rfl⟩
    · have hl : (i : Int) < μ 106 6 := by omega
      have h1 := d4 i hl
      have h2 := f4 i hl
      have h3 := q2 i (by omega)
      have h4 := a2 i hl
      rw [h1.1, h1.2.1, h1.2.2, h2.1, h2.2.1, h2.2.2, h4.1, h4.2.1, h4.2.2]; exact h3
  · omega
  · omega
  · refine ⟨by rw [a1]; exact q1, fun i hi => ?_⟩
    have h4 := a2 i (by omega)
    rw [h4.1, h4.2.1, h4.2.2]; exact q2 i hi
theorem TI.trS {μ μa μb : mM} {t z : Int} (ti : TI μ μa t) (u : mU μa 106 6 z μb) : trS μ μb t := fun i hi =>
  ⟨(u.2 110 _ (Or.inl (by decide))).trans (ti 110 _ (by omega)), (u.2 110 _ (Or.inl (by decide))).trans (ti 110 _ (by omega)), (u.2 111 _ (Or.inl (by decide))).trans (ti 111 _ (by omega))⟩
theorem tgR.add {μ μ1 : mM} {x y k z n m a b d e0 e1 : Int} (q : μ 106 6 = n) (hz : 0 ≤ z) (q1 : μ1 106 6 = m) (hm : m = n + 1) (qa : μ1 110 e0.toNat = a) (qb : μ1 110 e1.toNat = b) (qd : μ1 111 n.toNat = d) (h : 0 ≤ n ∧ e0 = 2 * n ∧ e1 = 2 * n + 1 ∧ a = x ∧ b = y ∧ d = k) (s : trS μ μ1 n) : tgR μ μ1 x y k z := by
  obtain ⟨h0, h1, h2, rfl, rfl, rfl⟩ := h
  refine Or.inl ⟨hz, by rw [q1, q, hm], ?_, ?_⟩
  · rw [q]; exact ⟨trOf 0 qa (by omega) h0, trOf 1 qb (by omega) h0, qd⟩
  · rw [q]; exact s
