/-! Wishes: the way in hand as a wish; found; laid down; forgotten. -/
def wiP (μ : mM) (a : Nat) (n : Int) : Prop := (2 ≤ n ∧ n ≤ 7) ∧ μ a (n - 1).toNat = 0 ∧ (∀ i : Nat, (i : Int) < n → μ a i ≤ 6) ∧ ∀ i j : Nat, i < j → (j : Int) < n → μ a i ≠ μ a j
/-- what the class has met below k -/
def imI (μ : mM) (k x : Int) : Prop := (0 ≤ x ∧ x < 1024) ∧ (∀ v : Nat, bB x v ↔ ∃ j : Nat, (j : Int) < k ∧ (μ 2 j).toNat = v) ∧ (∀ i : Nat, (i : Int) < k → 0 ≤ μ 2 i ∧ μ 2 i ≤ 6) ∧ ∀ i j : Nat, i < j → (j : Int) < k → μ 2 i ≠ μ 2 j
theorem imI.zero {μ : mM} : imI μ 0 0 := ⟨by decide, fun v => ⟨fun h => by unfold bB at h; simp at h, fun ⟨j, h, _⟩ => by omega⟩, fun i h => by omega, fun i j _ h => by omega⟩
theorem imI.next {μ : mM} {k x v u b y x' : Int} (h : imI μ k x) (h0 : 0 ≤ k) (q : μ 2 k.toNat = v) (hv : 0 ≤ v ∧ v ≤ 6) (q1 : bShr x v = u) (q2 : bAnd u 1 = b) (hb : b = 0) (q3 : bShl 1 v = y) (q4 : bOr x y = x') : imI μ (k + 1) x' := by
  obtain ⟨a1, a2, a3, a4⟩ := h
  obtain ⟨p1, p2⟩ := bB.put a1 (b := v) ⟨hv.1, by omega⟩ q3 q4
  have nb : ¬ bB x v.toNat := by
    rcases bB.get a1 ⟨hv.1, by omega⟩ q1 q2 with ⟨_, e⟩ | ⟨e, _⟩
    · omega
    · exact e
  refine ⟨p1, fun z => ?_, fun i hi => ?_, fun i j hij hj => ?_⟩
  · rw [p2 z, a2 z]
    constructor
    · rintro (⟨j, e1, e2⟩ | e)
      · exact ⟨j, by omega, e2⟩
      · exact ⟨k.toNat, by omega, by rw [q]; exact e.symm⟩
    · rintro ⟨j, e1, e2⟩
      by_cases c : (j : Int) < k
      · exact Or.inl ⟨j, c, e2⟩
      · have ej : j = k.toNat := by omega
        rw [ej, q] at e2
        exact Or.inr e2.symm
  · by_cases c : (i : Int) < k
    · exact a3 i c
    · rw [show i = k.toNat by omega, q]; exact hv
  · by_cases c : (j : Int) < k
    · exact a4 i j hij c
    · have ej : j = k.toNat := by omega
      rw [ej, q]
      intro e
      exact nb ((a2 _).mpr ⟨i, by omega, by rw [e]⟩)
theorem imI.yes {μ : mM} {k x n : Int} (h : imI μ k x) (hk : n ≤ k) (hn : 2 ≤ n ∧ n ≤ 7) (e : Int) (q : μ 2 e.toNat = 0) (he : e = n - 1) : wiP μ 2 n := ⟨hn, by rw [← he]; exact q, fun i hi => (h.2.2.1 i (by omega)).2, fun i j a b => h.2.2.2 i j a (by omega)⟩
theorem imI.big {μ : mM} {n k v : Int} (hk : 0 ≤ k ∧ k < n) (q : μ 2 k.toNat = v) (hv : 7 ≤ v) : ¬ wiP μ 2 n := fun h => by
  have := h.2.2.1 k.toNat (by omega)
  omega
theorem imI.twice {μ : mM} {n k x v u b : Int} (h : imI μ k x) (hk : 0 ≤ k ∧ k < n) (q : μ 2 k.toNat = v) (hv : 0 ≤ v ∧ v ≤ 6) (q1 : bShr x v = u) (q2 : bAnd u 1 = b) (hb : ¬ b = 0) : ¬ wiP μ 2 n := fun g => by
  rcases bB.get h.1 ⟨hv.1, by omega⟩ q1 q2 with ⟨e, _⟩ | ⟨_, e⟩
  · obtain ⟨j, e1, e2⟩ := (h.2.1 _).mp e
    have h3 := h.2.2.1 j e1
    exact g.2.2.2 j k.toNat (by omega) (by omega) (by omega)
  · exact hb e
theorem wiP.len {μ : mM} {a : Nat} {n : Int} (h : n < 2 ∨ 7 < n) : ¬ wiP μ a n := fun g => by have := g.1; omega
theorem wiP.last {μ : mM} {a : Nat} {n e v : Int} (q : μ a e.toNat = v) (he : e = n - 1) (hv : ¬ v = 0) : ¬ wiP μ a n := fun g => by
  have := g.2.1
  rw [← he, q] at this; exact hv this
theorem wiP.cg {μ ν : mM} {a b : Nat} {n : Int} (e : ∀ i : Nat, (i : Int) < n → μ a i = ν b i) : wiP μ a n ↔ wiP ν b n := by
  constructor
  · rintro ⟨h1, h2, h3, h4⟩
    exact ⟨h1, by rw [← e _ (by omega)]; exact h2, fun i hi => by rw [← e i hi]; exact h3 i hi, fun i j x y => by rw [← e i (by omega), ← e j y]; exact h4 i j x y⟩
  · rintro ⟨h1, h2, h3, h4⟩
    exact ⟨h1, by rw [e _ (by omega)]; exact h2, fun i hi => by rw [e i hi]; exact h3 i hi, fun i j x y => by rw [e i (by omega), e j y]; exact h4 i j x y⟩
/-- the wish in slot s is the first n of the row b -/
def mtW (μ : mM) (L W m b s : Nat) (n : Int) : Prop := μ L s = n ∧ ∀ i : Nat, (i : Int) < n → μ W (m * s + i) = μ b i
/-- a flag: the first k are the same -/
def mtI (μ : mM) (L W m b s : Nat) (n k f : Int) : Prop := (f = 1 → μ L s = n ∧ ∀ i : Nat, (i : Int) < k → μ W (m * s + i) = μ b i) ∧ (¬ f = 1 → ¬ mtW μ L W m b s n)
theorem mtI.start {μ : mM} {L W m b : Nat} {n f s l k : Int} (q : μ L s.toNat = l) (hk : k ≤ 0) (hf : (l = n ∧ f = 1) ∨ (¬ l = n ∧ f = 0)) : mtI μ L W m b s.toNat n k f := by
  refine ⟨fun h => ⟨by rw [q]; omega, fun i hi => by omega⟩, fun h g => ?_⟩
  have := g.1
  omega
theorem mtI.next {μ : mM} {L W m b : Nat} {n k f s e d u v g : Int} (h : mtI μ L W m b s.toNat n k f) (hf : f = 1) (hk : 0 ≤ k ∧ k < n) (q1 : μ W e.toNat = u) (he : 0 ≤ s ∧ e = (m : Int) * s + k) (q2 : μ b d.toNat = v) (hd : d = k) (hg : (u = v ∧ g = 1) ∨ (¬ u = v ∧ g = 0)) : mtI μ L W m b s.toNat n (k + 1) g := by
  obtain ⟨h1, h2⟩ := h.1 hf
  have ee : m * s.toNat + k.toNat = e.toNat := by
    have : (m : Int) * s = ((m * s.toNat : Nat) : Int) := by rw [Int.natCast_mul]; congr 1; omega
    omega
  have ek : k.toNat = d.toNat := by omega
  refine ⟨fun hg1 => ⟨h1, fun i hi => ?_⟩, fun hg1 w => ?_⟩
  · by_cases c : (i : Int) < k
    · exact h2 i c
    · rw [show i = k.toNat by omega, ee, q1, ek, q2]; omega
  · have := w.2 k.toNat (by omega)
    rw [ee, q1, ek, q2] at this
    omega
theorem mtI.yes {μ : mM} {L W m b s : Nat} {n k f : Int} (h : mtI μ L W m b s n k f) (hf : f = 1) (hk : n ≤ k) : mtW μ L W m b s n := ⟨(h.1 hf).1, fun i hi => (h.1 hf).2 i (by omega)⟩
/-- none of the first k wishes of place p fits -/
def noW (μ : mM) (L W m b : Nat) (p n k : Int) : Prop := ∀ j : Nat, (j : Int) < k → ¬ mtW μ L W m b (5 * p + j).toNat n
theorem noW.zero {μ : mM} {L W m b : Nat} {p n k : Int} (h : k ≤ 0) : noW μ L W m b p n k := fun j hj => by omega
theorem noW.next {μ : mM} {L W m b : Nat} {p n k s : Int} (h : noW μ L W m b p n k) (h0 : 0 ≤ k) (hs : s = 5 * p + k) (g : ¬ mtW μ L W m b s.toNat n) : noW μ L W m b p n (k + 1) := fun j hj => by
  by_cases c : (j : Int) < k
  · exact h j c
  · rw [show (5 * p + (j : Int)).toNat = s.toNat by omega]; exact g
def hasW (μ : mM) (L W m b : Nat) (p n k : Int) : Prop := ¬ noW μ L W m b p n k
theorem hasW.of {μ : mM} {L W m b : Nat} {p n k j s : Int} (hj : 0 ≤ j ∧ j < k) (hs : s = 5 * p + j) (g : mtW μ L W m b s.toNat n) : hasW μ L W m b p n k := fun h => h j.toNat (by omega) (by rw [show (5 * p + (j.toNat : Int)).toNat = s.toNat by omega]; exact g)
theorem noW.le {μ : mM} {L W m b : Nat} {p n k k' : Int} (h : noW μ L W m b p n k) (hk : k' ≤ k) : noW μ L W m b p n k' := fun j hj => h j (by omega)
/-- rows behind a copy -/
def cpT (μ μ1 : mM) (W b : Nat) (e n : Int) : Prop := (∀ i : Nat, (i : Int) < n → μ1 W (e + i).toNat = μ b i) ∧ ∀ j : Nat, ¬ (e ≤ (j : Int) ∧ (j : Int) < e + n) → μ1 W j = μ W j
theorem cpT.ac {μ μ1 : mM} {W b : Nat} {sp e n : Int} (q : mQ μ b W sp e n μ1) (hs : sp = 0) (he : 0 ≤ e) : cpT μ μ1 W b e n := by
  refine ⟨fun i hi => ?_, fun j hj => ?_⟩
  · rw [q.2, if_pos (by omega)]
    congr 1
    omega
  · rw [q.2, if_neg hj]
theorem cpT.zero {μ : mM} {W b : Nat} {e n : Int} (hn : n ≤ 0) : cpT μ μ W b e n := ⟨fun i hi => by omega, fun _ _ => rfl⟩
theorem cpT.next {μ μ1 μ2 : mM} {W b : Nat} {e n d v : Int} (h : cpT μ μ1 W b e n) (h0 : 0 ≤ n ∧ 0 ≤ e) (hb : μ b n.toNat = v) (u : mU μ1 W d.toNat v μ2) (hd : d = e + n) : cpT μ μ2 W b e (n + 1) := by
  refine ⟨fun i hi => ?_, fun j hj => ?_⟩
  · by_cases c : (i : Int) < n
    · rw [u.2 W _ (Or.inr (by omega))]; exact h.1 i c
    · have ei : i = n.toNat := by omega
      rw [ei, hb, show (e + (n.toNat : Int)).toNat = d.toNat by omega]; exact u.1
  · rw [u.2 W j (Or.inr (by omega))]; exact h.2 j (by omega)
theorem cpT.oth {μ μ1 μ2 : mM} {W b c k : Nat} {e n z : Int} (h : cpT μ μ1 W b e n) (u : mU μ1 c k z μ2) (hb : Nat.beq W c = false) : cpT μ μ2 W b e n := by
  have ne : W ≠ c := fun e => by rw [e, Nat.beq_refl] at hb; cases hb
  exact ⟨fun i hi => (u.2 W _ (Or.inl ne)).trans (h.1 i hi), fun j hj => (u.2 W j (Or.inl ne)).trans (h.2 j hj)⟩
theorem cpT.fr {w : mW} {μ μ1 μ2 : mM} {lf : List Nat} {W b : Nat} {e n : Int} (h : cpT μ μ1 W b e n) (F : mF lf w μ1 μ2) (hA : mAt w W W) (hl : lf.elem (1000 * W + 999) = false) (hm : mArr W = true) : cpT μ μ2 W b e n := by
  have g : ∀ j, μ2 W j = μ1 W j := fun j => F W j (by unfold mRg; rw [hA.1, hm]; exact hl)
  exact ⟨fun i hi => (g _).trans (h.1 i hi), fun j hj => (g j).trans (h.2 j hj)⟩
theorem cpT.b0 {μ0 μ μ1 : mM} {W b : Nat} {e n : Int} (h : cpT μ μ1 W b e n) (eb : ∀ i, μ b i = μ0 b i) (eW : ∀ i, μ W i = μ0 W i) : cpT μ0 μ1 W b e n := ⟨fun i hi => (h.1 i hi).trans (eb i), fun j hj => (h.2 j hj).trans (eW j)⟩
/-- a wish laid down: the c-th of place p, n long -/
def awT (μ μ1 : mM) (C L W m b : Nat) (p n c : Int) : Prop := (one μ μ1 C p ∧ μ1 C p.toNat = c + 1) ∧ (one μ μ1 L (5 * p + c) ∧ μ1 L (5 * p + c).toNat = n) ∧ cpT μ μ1 W b ((m : Int) * (5 * p + c)) n
theorem awT.of {μ μ1 : mM} {C L W m b : Nat} {p n c v s l e n' : Int} (oC : one μ μ1 C p) (qC : μ1 C p.toNat = v) (oL : one μ μ1 L s) (qL : μ1 L s.toNat = l) (cp : cpT μ μ1 W b e n') (h : v = c + 1 ∧ s = 5 * p + c ∧ l = n ∧ n' = n) (he : e = (m : Int) * s) : awT μ μ1 C L W m b p n c := by
  obtain ⟨rfl, rfl, rfl, rfl⟩ := h
  subst he
  exact ⟨⟨oC, qC⟩, ⟨oL, qL⟩, cp⟩
/-- what wish answers and does -/
def wiA (μ μ1 : mM) (C L W m b : Nat) (n z : Int) : Prop := (¬ wiP μ b n ∧ z = -1 ∧ μ1 = μ) ∨ (wiP μ b n ∧ ((hasW μ L W m b (μ b 0) n (μ C (μ b 0).toNat) ∧ z = -2 ∧ μ1 = μ) ∨ (noW μ L W m b (μ b 0) n (μ C (μ b 0).toNat) ∧ ((5 ≤ μ C (μ b 0).toNat ∧ z = -3 ∧ μ1 = μ) ∨ (μ C (μ b 0).toNat < 5 ∧ z = μ C (μ b 0).toNat + 1 ∧ awT μ μ1 C L W m b (μ b 0) n (μ C (μ b 0).toNat))))))
/-- wishes of both sides -/
def WSQ (μ : mM) : Prop := ∀ p : Nat, p ≤ 6 → (0 ≤ μ 95 p ∧ μ 95 p ≤ 5) ∧ μ 95 p = μ 184 p ∧ ∀ c : Nat, (c : Int) < μ 95 p → μ 97 (5 * p + c) = μ 185 (5 * p + c) ∧ μ 97 (5 * p + c) ≤ 7 ∧ ∀ i : Nat, (i : Int) < μ 97 (5 * p + c) → μ 96 (7 * (5 * p + c) + i) = μ 186 (8 * (5 * p + c) + i)
theorem mtW_eq {μ : mM} {s : Nat} {n : Int} (hW : ∀ i : Nat, (i : Int) < n → μ 2 i = μ 118 i) (h1 : μ 97 s = μ 185 s) (h2 : ∀ i : Nat, (i : Int) < μ 97 s → μ 96 (7 * s + i) = μ 186 (8 * s + i)) : mtW μ 97 96 7 2 s n ↔ mtW μ 185 186 8 118 s n := by
  constructor
  · rintro ⟨a, b⟩
    exact ⟨by rw [← h1]; exact a, fun i hi => by rw [← h2 i (by omega), ← hW i hi]; exact b i hi⟩
  · rintro ⟨a, b⟩
    rw [← h1] at a
    exact ⟨a, fun i hi => by rw [h2 i (by omega), hW i hi]; exact b i hi⟩
section WIA
variable {μ μ1 : mM} {C L W m b : Nat} {n x c z : Int}
theorem wiA.bad (h : ¬ wiP μ b n) : wiA μ μ C L W m b n (-1) := Or.inl ⟨h, rfl, rfl⟩
theorem wiA.has (hp : wiP μ b n) (qx : μ b ((0 : Int).toNat) = x) (qc : μ C x.toNat = c) (h : hasW μ L W m b x n c) : wiA μ μ C L W m b n (-2) := by
  have qx : μ b 0 = x := qx
  refine Or.inr ⟨hp, Or.inl ⟨?_, rfl, rfl⟩⟩
  rw [qx, qc]; exact h
theorem wiA.full (hp : wiP μ b n) (qx : μ b ((0 : Int).toNat) = x) (qc : μ C x.toNat = c) (h : noW μ L W m b x n c) (hc : 5 ≤ c) : wiA μ μ C L W m b n (-3) := by
  have qx : μ b 0 = x := qx
  refine Or.inr ⟨hp, Or.inr ⟨?_, Or.inl ⟨?_, rfl, rfl⟩⟩⟩
  · rw [qx, qc]; exact h
  · rw [qx, qc]; exact hc
theorem wiA.add (hp : wiP μ b n) (qx : μ b ((0 : Int).toNat) = x) (qc : μ C x.toNat = c) (h : noW μ L W m b x n c) (hc : c < 5) (aw : awT μ μ1 C L W m b x n c) (hz : z = c + 1) : wiA μ μ1 C L W m b n z := by
  have qx : μ b 0 = x := qx
  refine Or.inr ⟨hp, Or.inr ⟨?_, Or.inr ⟨?_, ?_, ?_⟩⟩⟩
  · rw [qx, qc]; exact h
  · rw [qx, qc]; exact hc
  · rw [qx, qc]; exact hz
  · rw [qx, qc]; exact aw
end WIA
/-- forgotten: what was wished below k, and the row of counts -/
def sumW (μ : mM) (a : Nat) : Nat → Int
  | 0 => 0
  | k + 1 => sumW μ a k + (if 1 ≤ k then μ a k else 0)
def foI (μ μ1 : mM) (a : Nat) (k z : Int) : Prop := z = sumW μ a k.toNat ∧ ∀ i : Nat, μ1 a i = if 1 ≤ i ∧ (i : Int) < k then 0 else μ a i
theorem foI.start {μ : mM} {a : Nat} : foI μ μ a 1 0 := ⟨rfl, fun i => by rw [if_neg (by omega)]⟩
theorem foI.next {μ μ1 μ2 : mM} {a : Nat} {k z v z' : Int} (h : foI μ μ1 a k z) (hk : 1 ≤ k) (q : μ1 a k.toNat = v) (hz : z' = z + v) (u : mU μ1 a k.toNat 0 μ2) : foI μ μ2 a (k + 1) z' := by
  obtain ⟨h1, h2⟩ := h
  have hv : μ a k.toNat = v := by
    rw [← q, h2 k.toNat, if_neg (by omega)]
  refine ⟨?_, fun i => ?_⟩
  · rw [show (k + 1).toNat = k.toNat + 1 by omega]
    show z' = sumW μ a k.toNat + (if 1 ≤ k.toNat then μ a k.toNat else 0)
    rw [if_pos (by omega), hv, ← h1, hz]
  · by_cases c : i = k.toNat
    · rw [if_pos (by omega), c]; exact u.1
    · rw [u.2 a i (Or.inr c), h2 i]
      by_cases c2 : 1 ≤ i ∧ (i : Int) < k
      · rw [if_pos c2, if_pos (by omega)]
      · rw [if_neg c2, if_neg (by omega)]
theorem foI.oth {μ μ1 μ2 : mM} {a c j : Nat} {k z x : Int} (h : foI μ μ1 a k z) (u : mU μ1 c j x μ2) (hb : Nat.beq a c = false) : foI μ μ2 a k z := ⟨h.1, fun i => (u.2 a i (Or.inl (fun e => by rw [e, Nat.beq_refl] at hb; cases hb))).trans (h.2 i)⟩
theorem foI.fr {w : mW} {μ μ1 μ2 : mM} {lf : List Nat} {a : Nat} {k z : Int} (h : foI μ μ1 a k z) (F : mF lf w μ1 μ2) (hA : mAt w a a) (hl : lf.elem (1000 * a + 999) = false) (hm : mArr a = true) : foI μ μ2 a k z := ⟨h.1, fun i => (F a i (by unfold mRg; rw [hA.1, hm]; exact hl)).trans (h.2 i)⟩
theorem foI.k7 {μ μ1 : mM} {a : Nat} {k z : Int} (h : foI μ μ1 a k z) (hk : k = 7) : foI μ μ1 a 7 z := by rw [← hk]; exact h
theorem wiP.first {μ : mM} {a : Nat} {n : Int} (q : μ a ((0 : Int).toNat) = 0) : ¬ wiP μ a n := fun g => by
  have q : μ a 0 = 0 := q
  exact g.2.2.2 0 (n - 1).toNat (by have := g.1; omega) (by have := g.1; omega) (by rw [q, g.2.1])
/-- the reference's test of the way: right so far; right so far within a step -/
def rtG (μ : mM) (n k : Int) : Prop := (2 ≤ n ∧ n ≤ 7) ∧ μ 118 (n - 1).toNat = 0 ∧ (∀ i : Nat, (i : Int) < k → μ 118 i ≤ 6) ∧ ∀ i j : Nat, i < j → (j : Int) < k → μ 118 i ≠ μ 118 j
def rtI (μ : mM) (n k f : Int) : Prop := (f = 1 → rtG μ n k) ∧ (¬ f = 1 → ¬ wiP μ 118 n)
def rjI (μ : mM) (n k j g : Int) : Prop := (g = 1 → rtG μ n k ∧ μ 118 k.toNat ≤ 6 ∧ ∀ t : Nat, (t : Int) < j → μ 118 t ≠ μ 118 k.toNat) ∧ (¬ g = 1 → ¬ wiP μ 118 n)
theorem rtI.one {μ : mM} {n k e : Int} (hn : 2 ≤ n ∧ n ≤ 7) (q : μ 118 e.toNat = 0) (he : e = n - 1) (hk : k ≤ 0) : rtI μ n k 1 := ⟨fun _ => ⟨hn, by rw [← he]; exact q, fun i hi => by omega, fun i j _ hj => by omega⟩, fun h => absurd rfl h⟩
theorem rtI.none {μ : mM} {n k : Int} (h : ¬ wiP μ 118 n) : rtI μ n k 0 := ⟨fun h => absurd h (by decide), fun _ => h⟩
theorem rjI.start {μ : mM} {n k f v g j : Int} (h : rtI μ n k f) (hf : f = 1) (hk : 0 ≤ k ∧ k < n) (q : μ 118 k.toNat = v) (hj : j ≤ 0) (hg : (v ≤ 6 ∧ g = 1) ∨ (6 < v ∧ g = 0)) : rjI μ n k j g := by
  refine ⟨fun h1 => ⟨h.1 hf, by rw [q]; omega, fun t ht => by omega⟩, fun h1 w => ?_⟩
  have := w.2.2.1 k.toNat (by omega)
  omega
theorem rjI.next {μ : mM} {n k j g u v g' : Int} (h : rjI μ n k j g) (hj : 0 ≤ j ∧ j < k) (hk : k < n) (q1 : μ 118 k.toNat = u) (q2 : μ 118 j.toNat = v) (hg : (g = 1 ∧ ¬ u = v ∧ g' = 1) ∨ (g = 1 ∧ u = v ∧ g' = 0)) : rjI μ n k (j + 1) g' := by
  refine ⟨fun h1 => ?_, fun h1 w => ?_⟩
  · obtain ⟨a, b, c⟩ := h.1 (by omega)
    refine ⟨a, b, fun t ht => ?_⟩
    by_cases e : (t : Int) < j
    · exact c t e
    · rw [show t = j.toNat by omega, q1, q2]; omega
  · exact w.2.2.2 j.toNat k.toNat (by omega) (by omega) (by rw [q1, q2]; omega)
theorem rjI.skip {μ : mM} {n k j g g' : Int} (h : rjI μ n k j g) (hg : ¬ g = 1) (hg' : ¬ g' = 1) : rjI μ n k (j + 1) g' := ⟨fun h1 => absurd h1 hg', fun _ => h.2 hg⟩
theorem rtI.next {μ : mM} {n k j g : Int} (h : rjI μ n k j g) (hj : k ≤ j) (hk : 0 ≤ k) : rtI μ n (k + 1) g := by
  refine ⟨fun h1 => ?_, h.2⟩
  obtain ⟨⟨a1, a2, a3, a4⟩, b, c⟩ := h.1 h1
  refine ⟨a1, a2, fun i hi => ?_, fun i i' hi hi' => ?_⟩
  · by_cases e : (i : Int) < k
    · exact a3 i e
    · rw [show i = k.toNat by omega]; exact b
  · by_cases e : (i' : Int) < k
    · exact a4 i i' hi e
    · rw [show i' = k.toNat by omega]; exact c i (by omega)
theorem rtI.yes {μ : mM} {n k f : Int} (h : rtI μ n k f) (hf : f = 1) (hk : n ≤ k) : wiP μ 118 n := by
  obtain ⟨a1, a2, a3, a4⟩ := h.1 hf
  exact ⟨a1, a2, fun i hi => a3 i (by omega), fun i j x y => a4 i j x (by omega)⟩
