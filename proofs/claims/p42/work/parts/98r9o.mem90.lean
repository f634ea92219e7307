/-! The reference's reader: what each call is to the machine. -/
theorem tyM.sg {μ : mM} {t v : Int} (h : tyM μ t v) (c k : Int) (hc : 0 ≤ c) (hk : k = 1000 + c) : t = k ↔ μ 106 35 = 3 ∧ μ 106 36 = c := by
  subst hk
  exact h.sign c hc
theorem okE2 {s r m x y : Int} (hs : 0 ≤ s ∧ s ≤ 16) (h3 : ¬ s = 3) : okE (fun q => (s, q, r, m, x, y)) := okE.of hs (fun h => absurd h h3)
theorem wrK.nx {μ μa μ1 : mM} {k : Int} (h : wrK μ μa k) (hk : ¬ k = 0) (n : nxR μa μ1) : wrK μ μ1 k := by
  have hc : ¬ μa 106 37 = 0 := by
    rcases h with ⟨a, b, _⟩ | ⟨_, b, _⟩
    · rw [b]; exact a
    · rw [b]; exact hk
  rcases n with ⟨_, n1, n2⟩ | ⟨n1, _⟩
  · rcases h with ⟨a, b, d⟩ | ⟨a, b, d⟩
    · exact Or.inl ⟨a, n1.trans b, n2.trans d⟩
    · exact Or.inr ⟨a, n1.trans b, n2.trans d⟩
  · exact absurd n1 hc
def sgK (μ μ1 : mM) (c : Int) : Prop := ((μ 106 35 = 3 ∧ μ 106 36 = c) ∧ nxR μ μ1) ∨ (¬ (μ 106 37 = 0 ∧ μ 106 35 = 3 ∧ μ 106 36 = c) ∧ wrK μ μ1 2)
def wiK (μ μ1 : mM) (a b z : Int) : Prop := (μ 106 35 = 2 ∧ (a ≤ μ 106 36 ∧ μ 106 36 ≤ b) ∧ z = μ 106 36 ∧ nxR μ μ1) ∨ (¬ μ 106 35 = 2 ∧ wrK μ μ1 2) ∨ (μ 106 35 = 2 ∧ (μ 106 36 < a ∨ b < μ 106 36) ∧ wrK μ μ1 3)
theorem RSc.num {μ μ1 : mM} {s s' r m a b z : Int} (h : RSc μ (fun p => (s, p, r, m, a, b))) (hss : (s = 2 ∧ s' = 5) ∨ (s = 7 ∧ s' = 8)) (tb : tbR μ μ1) (n : wiK μ μ1 a b z) : RSc μ1 (fun p => (s', p, r, m, 0, 0)) := by
  have nn : ∀ p t v f q, nxC mskF (μ 106 39) (s, p, r, m, a, b) t v f q = nNum s' r m a b t v f q := by
    intro p t v f q
    rcases hss with ⟨e1, e2⟩ | ⟨e1, e2⟩ <;> subst e1 <;> subst e2 <;> rfl
  have o1 : okE (fun q => (s, q, r, m, a, b)) := okE2 (by omega) (by omega)
  have o2 : okE (fun q => (s', q, r, m, 0, 0)) := okE2 (by omega) (by omega)
  rcases n with ⟨n1, n2, _, n4⟩ | ⟨n1, n2⟩ | ⟨n1, n2, n3⟩
  · refine h.next tb n4 o1 o2 (fun p t v q _ ty _ => ?_)
    have t2 := ty.num.1.mpr n1
    have v2 := ty.num.2 t2
    rw [nn]
    unfold nNum
    rw [if_neg (fun g => g t2), if_neg (by omega)]
  · refine h.wrong tb n2 (by decide) o1 (fun p t v q _ ty _ => ?_)
    rw [nn]
    unfold nNum
    rw [if_pos (fun g => n1 (ty.num.1.mp g))]
  · refine h.wrong tb n3 (by decide) o1 (fun p t v q _ ty _ => ?_)
    have t2 := ty.num.1.mpr n1
    have v2 := ty.num.2 t2
    rw [nn]
    unfold nNum
    rw [if_neg (fun g => g t2), if_pos (by omega)]
theorem RSc.h9 {μ μ1 : mM} {r m x y z : Int} (h : RSc μ (fun p => (9, p, r, m, x, y))) (tb : tbR μ μ1) (n : wiK μ μ1 0 255 z) : RSc μ1 (fun p => if x = 3 then (11, p, r, m, bOr (bShl y 8) z, 0) else (10, p, r, m, x, bOr (bShl y 8) z)) := by
  have nn : ∀ p t v f q, nxC mskF (μ 106 39) (9, p, r, m, x, y) t v f q = n9 r m x y t v f q := fun _ _ _ _ _ => rfl
  have o1 : okE (fun q => (9, q, r, m, x, y)) := okE2 (by decide) (by decide)
  have o2 : okE (fun p => if x = 3 then ((11, p, r, m, bOr (bShl y 8) z, 0) : Cfg) else (10, p, r, m, x, bOr (bShl y 8) z)) := by
    by_cases e : x = 3
    · rw [show (fun p : Int => if x = 3 then ((11, p, r, m, bOr (bShl y 8) z, 0) : Cfg) else (10, p, r, m, x, bOr (bShl y 8) z)) = fun p => (11, p, r, m, bOr (bShl y 8) z, 0) from funext fun p => if_pos e]
      exact okE2 (by decide) (by decide)
    · rw [show (fun p : Int => if x = 3 then ((11, p, r, m, bOr (bShl y 8) z, 0) : Cfg) else (10, p, r, m, x, bOr (bShl y 8) z)) = fun p => (10, p, r, m, x, bOr (bShl y 8) z) from funext fun p => if_neg e]
      exact okE2 (by decide) (by decide)
  rcases n with ⟨n1, n2, n3, n4⟩ | ⟨n1, n2⟩ | ⟨n1, n2, n3⟩
  · refine h.next tb n4 o1 o2 (fun p t v q _ ty _ => ?_)
    have t2 := ty.num.1.mpr n1
    have v2 := ty.num.2 t2
    rw [nn]
    unfold n9
    rw [if_neg (fun g => g t2), if_neg (by omega), v2, n3]
  · refine h.wrong tb n2 (by decide) o1 (fun p t v q _ ty _ => ?_)
    rw [nn]
    unfold n9
    rw [if_pos (fun g => n1 (ty.num.1.mp g))]
  · refine h.wrong tb n3 (by decide) o1 (fun p t v q _ ty _ => ?_)
    have t2 := ty.num.1.mpr n1
    have v2 := ty.num.2 t2
    rw [nn]
    unfold n9
    rw [if_neg (fun g => g t2), if_pos (by omega)]
theorem RSc.h9b {μ μ1 : mM} {r m x y z : Int} (h : RSc μ (fun p => (9, p, r, m, x, y))) (tb : tbR μ μ1) (n : wiK μ μ1 0 255 z) {a b : Int} (e1 : bShl y 8 = a) (e2 : bOr a z = b) : RSc μ1 (fun p => if x = 3 then (11, p, r, m, b, 0) else (10, p, r, m, x, b)) := by
  have g := h.h9 tb n
  rw [e1, e2] at g
  exact g
theorem RSc.h10 {μ : mM} {r m x y : Int} (h : RSc μ (fun p => if x = 3 then (11, p, r, m, y, 0) else (10, p, r, m, x, y))) (hx : ¬ x = 3) : RSc μ (fun p => (10, p, r, m, x, y)) := by
  rw [show (fun p : Int => if x = 3 then ((11, p, r, m, y, 0) : Cfg) else (10, p, r, m, x, y)) = fun p => (10, p, r, m, x, y) from funext fun p => if_neg hx] at h
  exact h
theorem RSc.h11 {μ : mM} {r m x y : Int} (h : RSc μ (fun p => if x = 3 then (11, p, r, m, y, 0) else (10, p, r, m, x, y))) (hx : x = 3) : RSc μ (fun p => (11, p, r, m, y, 0)) := by
  rw [show (fun p : Int => if x = 3 then ((11, p, r, m, y, 0) : Cfg) else (10, p, r, m, x, y)) = fun p => (11, p, r, m, y, 0) from funext fun p => if_pos hx] at h
  exact h
/-- a sign that must be there -/
theorem RSc.sgn {μ μ1 : mM} {e e' : Int → Cfg} {c : Int} (h : RSc μ e) (tb : tbR μ μ1) (n : sgK μ μ1 c) (hc : 0 ≤ c) (o1 : okE e) (o2 : okE e') (yes : ∀ p v f q, nxC mskF (μ 106 39) (e p) (1000 + c) v f q = e' q) (no : ∀ p t v f q, ¬ t = 1000 + c → (∃ v', tyM μ t v') → nxC mskF (μ 106 39) (e p) t v f q = faC 2 t f) : RSc μ1 e' := by
  rcases n with ⟨n1, n2⟩ | ⟨n1, n2⟩
  · refine h.next tb n2 o1 o2 (fun p t v q _ ty _ => ?_)
    rw [(ty.sign c hc).mpr n1]
    exact yes p v _ q
  · refine h.wrong tb n2 (by decide) o1 (fun p t v q h0 ty _ => ?_)
    exact no p t v _ q (fun g => n1 ⟨h0, (ty.sign c hc).mp g⟩) ⟨v, ty⟩
theorem RSc.dot {μ μ1 : mM} {r m x y : Int} (h : RSc μ (fun p => (10, p, r, m, x, y))) (tb : tbR μ μ1) (n : sgK μ μ1 46) : RSc μ1 (fun p => (9, p, r, m, x + 1, y)) := by
  refine h.sgn tb n (by decide) (okE2 (by decide) (by decide)) (okE2 (by decide) (by decide)) (fun p v f q => rfl) (fun p t v f q ht _ => ?_)
  show n10 r m x y t f q = _
  unfold n10
  rw [if_neg (by omega)]
theorem RSc.slash {μ μ1 : mM} {r m x y : Int} (h : RSc μ (fun p => (11, p, r, m, x, y))) (tb : tbR μ μ1) (n : sgK μ μ1 47) : RSc μ1 (fun p => (12, p, r, m, x, 0)) := by
  refine h.sgn tb n (by decide) (okE2 (by decide) (by decide)) (okE2 (by decide) (by decide)) (fun p v f q => rfl) (fun p t v f q ht _ => ?_)
  show n11 r m x t f q = _
  unfold n11
  rw [if_neg (by omega)]
theorem RSc.mkF {μ μ1 : mM} {e' : Int → Cfg} {r m x y : Int} (h : RSc μ (fun p => (12, p, r, m, x, y))) (tb : tbR μ μ1) (n : wrK μ μ1 3) (ht : μ 106 35 = 2) (hv : 0 ≤ μ 106 36 ∧ μ 106 36 ≤ 32) (hm : ¬ bAnd x (bXor (mskF (μ 106 36)) (-1)) = 0) : RSc μ1 e' := by
  refine h.wrong tb n (by decide) (okE2 (by decide) (by decide)) (fun p t v q _ ty _ => ?_)
  have t2 := ty.num.1.mpr ht
  have v2 := ty.num.2 t2
  show n12 mskF r m x t v (μ 106 34) q = _
  unfold n12
  rw [if_pos ⟨t2, by rw [v2]; exact hv.1, by rw [v2]; exact hv.2, by rw [v2]; exact hm⟩]
theorem RSc.len {μ μ1 : mM} {r m x y z : Int} (h : RSc μ (fun p => (12, p, r, m, x, y))) (tb : tbR μ μ1) (n : wiK μ μ1 0 32 z) (hm : μ 106 37 = 0 → μ 106 35 = 2 → 0 ≤ μ 106 36 ∧ μ 106 36 ≤ 32 → bAnd x (bXor (mskF (μ 106 36)) (-1)) = 0) : RSc μ1 (fun p => (13, p, r, m, z, 0)) := by
  have nn : ∀ p t v f q, nxC mskF (μ 106 39) (12, p, r, m, x, y) t v f q = n12 mskF r m x t v f q := fun _ _ _ _ _ => rfl
  have o1 : okE (fun q => (12, q, r, m, x, y)) := okE2 (by decide) (by decide)
  rcases n with ⟨n1, n2, n3, n4⟩ | ⟨n1, n2⟩ | ⟨n1, n2, n3⟩
  · refine h.next tb n4 o1 (okE2 (by decide) (by decide)) (fun p t v q hc ty _ => ?_)
    have t2 := ty.num.1.mpr n1
    have v2 := ty.num.2 t2
    rw [nn]
    unfold n12
    rw [if_neg (fun g => g.2.2.2 (by rw [v2]; exact hm hc n1 n2)), if_neg (fun g => g t2), if_neg (by omega), v2, n3]
  · refine h.wrong tb n2 (by decide) o1 (fun p t v q _ ty _ => ?_)
    have t2 : ¬ t = -2 := fun g => n1 (ty.num.1.mp g)
    rw [nn]
    unfold n12
    rw [if_neg (fun g => t2 g.1), if_pos t2]
  · refine h.wrong tb n3 (by decide) o1 (fun p t v q _ ty _ => ?_)
    have t2 := ty.num.1.mpr n1
    have v2 := ty.num.2 t2
    rw [nn]
    unfold n12
    rw [if_neg (fun g => by have g2 := g.2.1; have g3 := g.2.2.1; omega), if_neg (fun g => g t2), if_pos (by omega)]
/-- a word is in hand and taken, or it is not -/
theorem RSc.wdT {μ μ1 : mM} {e e' : Int → Cfg} {w : Int} (h : RSc μ e) (tb : tbR μ μ1) (ht : μ 106 35 = 1 ∧ μ 106 36 = w) (hw : 0 ≤ w ∧ w < 1000) (n : nxR μ μ1) (o1 : okE e) (o2 : okE e') (st : ∀ p v f q, nxC mskF (μ 106 39) (e p) w v f q = e' q) : RSc μ1 e' := by
  refine h.next tb n o1 o2 (fun p t v q _ ty _ => ?_)
  rw [(ty.word w hw).mpr ht]
  exact st p v _ q
theorem RSc.sgT {μ μ1 : mM} {e e' : Int → Cfg} {c : Int} (h : RSc μ e) (tb : tbR μ μ1) (ht : μ 106 35 = 3 ∧ μ 106 36 = c) (hc : 0 ≤ c) (n : nxR μ μ1) (o1 : okE e) (o2 : okE e') (st : ∀ p v f q, nxC mskF (μ 106 39) (e p) (1000 + c) v f q = e' q) : RSc μ1 e' := by
  refine h.next tb n o1 o2 (fun p t v q _ ty _ => ?_)
  rw [(ty.sign c hc).mpr ht]
  exact st p v _ q
theorem RSc.noto {μ : mM} {r m x y : Int} (h : RSc μ (fun p => (13, p, r, m, x, y))) (ht : ¬ (μ 106 37 = 0 ∧ μ 106 35 = 1 ∧ μ 106 36 = 5)) : RSc μ (fun p => (5, p, r, m, 0, 0)) := by
  refine h.stay (okE2 (by decide) (by decide)) (fun p t v q hc ty _ => ?_)
  show n13 p r m x t q = _
  unfold n13
  rw [if_neg (fun g => ht ⟨hc, (ty.word 5 (by decide)).mp g⟩)]
theorem RSc.oneB {μ μ1 : mM} {e' : Int → Cfg} {r m a b : Int} (h : RSc μ (fun p => (3, p, r, m, a, b))) (tb : tbR μ μ1) (n : wrK μ μ1 2) (ha : 0 ≤ a ∧ b < 1000) (ht : ¬ (μ 106 35 = 1 ∧ a ≤ μ 106 36 ∧ μ 106 36 ≤ b)) : RSc μ1 e' := by
  refine h.wrong tb n (by decide) (okE.of (by decide) (fun _ => ha.1)) (fun p t v q _ ty _ => ?_)
  show n3 r m a b t (μ 106 34) q = _
  unfold n3
  rw [if_pos ?_]
  rcases ty with ⟨a1, b1⟩ | ⟨a1, b1, d1, e1⟩ | ⟨a1, b1, d1⟩ | ⟨a1, b1, d1⟩
  · omega
  · by_cases g : t < a
    · exact Or.inl g
    · by_cases g2 : b < t
      · exact Or.inr g2
      · exact absurd ⟨d1, by omega, by omega⟩ ht
  · omega
  · omega
theorem RSc.oneN {μ μ1 : mM} {r m a b : Int} (h : RSc μ (fun p => (3, p, r, m, a, b))) (tb : tbR μ μ1) (n : nxR μ μ1) (ha : 0 ≤ a ∧ b < 1000) (ht : μ 106 35 = 1 ∧ a ≤ μ 106 36 ∧ μ 106 36 ≤ b) : RSc μ1 (fun p => (5, p, r, m, 0, 0)) := by
  refine h.next tb n (okE.of (by decide) (fun _ => ha.1)) (okE2 (by decide) (by decide)) (fun p t v q _ ty _ => ?_)
  have e := (ty.word (μ 106 36) (by omega)).mpr ⟨ht.1, rfl⟩
  show n3 r m a b t (μ 106 34) q = _
  unfold n3
  rw [if_neg (by omega)]
theorem RSc.relB {μ μ1 : mM} {e' : Int → Cfg} {r m a b : Int} (h : RSc μ (fun p => (4, p, r, m, a, b))) (tb : tbR μ μ1) (n : wrK μ μ1 2) (ht : ¬ (μ 106 37 = 0 ∧ μ 106 35 = 3 ∧ (μ 106 36 = 60 ∨ μ 106 36 = 61 ∨ μ 106 36 = 62))) : RSc μ1 e' := by
  refine h.wrong tb n (by decide) (okE2 (by decide) (by decide)) (fun p t v q hc ty _ => ?_)
  show n4 r m a t (μ 106 34) q = _
  unfold n4
  rw [if_neg ?_]
  intro g
  apply ht
  rcases g with g | g | g
  · have k := (ty.sg 60 1060 (by decide) (by decide)).mp g; exact ⟨hc, k.1, Or.inl k.2⟩
  · have k := (ty.sg 61 1061 (by decide) (by decide)).mp g; exact ⟨hc, k.1, Or.inr (Or.inl k.2)⟩
  · have k := (ty.sg 62 1062 (by decide) (by decide)).mp g; exact ⟨hc, k.1, Or.inr (Or.inr k.2)⟩
theorem RSc.relN {μ μ1 : mM} {r m a b : Int} (h : RSc μ (fun p => (4, p, r, m, a, b))) (tb : tbR μ μ1) (n : nxR μ μ1) (ht : μ 106 35 = 3 ∧ (μ 106 36 = 60 ∨ μ 106 36 = 61 ∨ μ 106 36 = 62)) : RSc μ1 (fun p => (2, p, r, m, 0, a)) := by
  refine h.next tb n (okE2 (by decide) (by decide)) (okE2 (by decide) (by decide)) (fun p t v q _ ty _ => ?_)
  show n4 r m a t (μ 106 34) q = _
  unfold n4
  rw [if_pos ?_]
  rcases ht.2 with g | g | g
  · exact Or.inl ((ty.sg 60 1060 (by decide) (by decide)).mpr ⟨ht.1, g⟩)
  · exact Or.inr (Or.inl ((ty.sg 61 1061 (by decide) (by decide)).mpr ⟨ht.1, g⟩))
  · exact Or.inr (Or.inr ((ty.sg 62 1062 (by decide) (by decide)).mpr ⟨ht.1, g⟩))
theorem RSc.opB {μ μ1 : mM} {e' : Int → Cfg} {r m x y : Int} (h : RSc μ (fun p => (14, p, r, m, x, y))) (tb : tbR μ μ1) (n : wrK μ μ1 2) (ht : ¬ (μ 106 37 = 0 ∧ μ 106 35 = 3 ∧ μ 106 36 = 40)) : RSc μ1 e' := by
  refine h.wrong tb n (by decide) (okE2 (by decide) (by decide)) (fun p t v q hc ty _ => ?_)
  show n14 r m t (μ 106 34) q = _
  unfold n14
  rw [if_neg (fun g => ht ⟨hc, (ty.sg 40 1040 (by decide) (by decide)).mp g⟩)]
/-- a piece of a way: a number or any -/
def anyR (μ : mM) : Prop := μ 106 35 = 2 ∨ (μ 106 35 = 1 ∧ μ 106 36 = 7)
theorem anyR.t {μ : mM} {t v : Int} (h : anyR μ) (ty : tyM μ t v) : (t = -2 ∧ v = μ 106 36 ∧ μ 106 35 = 2) ∨ (t = 7 ∧ ¬ μ 106 35 = 2) := by
  rcases h with h | h
  · have t2 := ty.num.1.mpr h
    exact Or.inl ⟨t2, ty.num.2 t2, h⟩
  · exact Or.inr ⟨(ty.word 7 (by decide)).mpr h, by omega⟩
theorem RSc.p3 {μ μ1 : mM} {e' : Int → Cfg} {r m x y : Int} (h : RSc μ (fun p => (15, p, r, m, x, y))) (tb : tbR μ μ1) (n : wrK μ μ1 3) (ht : μ 106 35 = 2) (hv : 1000000 < μ 106 36) : RSc μ1 e' := by
  refine h.wrong tb n (by decide) (okE2 (by decide) (by decide)) (fun p t v q _ ty _ => ?_)
  have t2 := ty.num.1.mpr ht
  have v2 := ty.num.2 t2
  show n15 r m x t v (μ 106 34) q = _
  unfold n15
  rw [if_pos (Or.inl t2), if_pos ⟨t2, by omega⟩]
theorem RSc.p4 {μ μ1 : mM} {e' : Int → Cfg} {r m x y : Int} (h : RSc μ (fun p => (15, p, r, m, x, y))) (tb : tbR μ μ1) (n : wrK μ μ1 4) (ht : anyR μ) (hv : μ 106 35 = 2 → μ 106 36 ≤ 1000000) (hm : 40 ≤ m) : RSc μ1 e' := by
  refine h.wrong tb n (by decide) (okE2 (by decide) (by decide)) (fun p t v q _ ty _ => ?_)
  have k := ht.t ty
  show n15 r m x t v (μ 106 34) q = _
  unfold n15
  rw [if_pos (by omega), if_neg (by omega), if_pos hm]
theorem RSc.pl {μ μ1 : mM} {r m x y : Int} (h : RSc μ (fun p => (15, p, r, m, x, y))) (tb : tbR μ μ1) (n : nxR μ μ1) (ht : anyR μ) (hv : μ 106 35 = 2 → μ 106 36 ≤ 1000000) (hm : m < 40) {m' : Int} (em : m + 1 = m') : RSc μ1 (fun p => (16, p, r, m', x, 0)) := by
  subst em
  refine h.next tb n (okE2 (by decide) (by decide)) (okE2 (by decide) (by decide)) (fun p t v q _ ty _ => ?_)
  have k := ht.t ty
  show n15 r m x t v (μ 106 34) q = _
  unfold n15
  rw [if_pos (by omega), if_neg (by omega), if_neg (by omega)]
theorem RSc.gF {μ μ1 : mM} {e' : Int → Cfg} {r m x y : Int} (h : RSc μ (fun p => (15, p, r, m, x, y))) (tb : tbR μ μ1) (n : wrK μ μ1 4) (ht : μ 106 35 = 3 ∧ μ 106 36 = 40) (hx : 6 ≤ x) : RSc μ1 e' := by
  refine h.wrong tb n (by decide) (okE2 (by decide) (by decide)) (fun p t v q _ ty _ => ?_)
  have t2 := (ty.sg 40 1040 (by decide) (by decide)).mpr ht
  show n15 r m x t v (μ 106 34) q = _
  unfold n15
  rw [if_neg (by omega), if_pos t2, if_pos hx]
theorem RSc.gO {μ μ1 : mM} {r m x y : Int} (h : RSc μ (fun p => (15, p, r, m, x, y))) (tb : tbR μ μ1) (n : nxR μ μ1) (ht : μ 106 35 = 3 ∧ μ 106 36 = 40) (hx : x < 6) {x' : Int} (e : x + 1 = x') : RSc μ1 (fun p => (15, p, r, m, x', 0)) := by
  subst e
  refine h.next tb n (okE2 (by decide) (by decide)) (okE2 (by decide) (by decide)) (fun p t v q _ ty _ => ?_)
  have t2 := (ty.sg 40 1040 (by decide) (by decide)).mpr ht
  show n15 r m x t v (μ 106 34) q = _
  unfold n15
  rw [if_neg (by omega), if_pos t2, if_neg (by omega)]
theorem RSc.bar {μ μ1 : mM} {r m x y : Int} (h : RSc μ (fun p => (15, p, r, m, x, y))) (tb : tbR μ μ1) (n : nxR μ μ1) (ht : μ 106 35 = 3 ∧ μ 106 36 = 124) : RSc μ1 (fun p => (15, p, r, m, x, 0)) := h.sgT tb ht (by decide) n (okE2 (by decide) (by decide)) (okE2 (by decide) (by decide)) (fun _ _ _ _ => rfl)
theorem RSc.gE {μ μ1 : mM} {r m x y : Int} (h : RSc μ (fun p => (15, p, r, m, x, y))) (tb : tbR μ μ1) (n : nxR μ μ1) (ht : μ 106 35 = 3 ∧ μ 106 36 = 41) (hx : 2 ≤ x) {x' : Int} (e : x - 1 = x') : RSc μ1 (fun p => (16, p, r, m, x', 0)) := by
  subst e
  refine h.next tb n (okE2 (by decide) (by decide)) (okE2 (by decide) (by decide)) (fun p t v q _ ty _ => ?_)
  have t2 := (ty.sg 41 1041 (by decide) (by decide)).mpr ht
  show n15 r m x t v (μ 106 34) q = _
  unfold n15
  rw [if_neg (by omega), if_neg (by omega), if_neg (by omega), if_pos t2, if_neg (by omega)]
theorem RSc.gZ {μ μ1 : mM} {r m x y : Int} (h : RSc μ (fun p => (15, p, r, m, x, y))) (tb : tbR μ μ1) (n : nxR μ μ1) (ht : μ 106 35 = 3 ∧ μ 106 36 = 41) (hx : x = 1) : RSc μ1 (fun p => (5, p, r, m, 0, 0)) := by
  refine h.next tb n (okE2 (by decide) (by decide)) (okE2 (by decide) (by decide)) (fun p t v q _ ty _ => ?_)
  have t2 := (ty.sg 41 1041 (by decide) (by decide)).mpr ht
  show n15 r m x t v (μ 106 34) q = _
  unfold n15
  rw [if_neg (by omega), if_neg (by omega), if_neg (by omega), if_pos t2, if_pos hx]
theorem RSc.gB {μ μ1 : mM} {e' : Int → Cfg} {r m x y : Int} (h : RSc μ (fun p => (15, p, r, m, x, y))) (tb : tbR μ μ1) (n : wrK μ μ1 2) (h2 : ¬ μ 106 35 = 2) (h7 : ¬ (μ 106 35 = 1 ∧ μ 106 36 = 7)) (h3 : ¬ (μ 106 35 = 3 ∧ (μ 106 36 = 40 ∨ μ 106 36 = 124 ∨ μ 106 36 = 41))) : RSc μ1 e' := by
  refine h.wrong tb n (by decide) (okE2 (by decide) (by decide)) (fun p t v q _ ty _ => ?_)
  have a2 : ¬ t = -2 := fun g => h2 (ty.num.1.mp g)
  have a7 : ¬ t = 7 := fun g => h7 ((ty.word 7 (by decide)).mp g)
  have a4 : ¬ t = 1040 := fun g => by have k := (ty.sg 40 1040 (by decide) (by decide)).mp g; exact h3 ⟨k.1, Or.inl k.2⟩
  have a5 : ¬ t = 1124 := fun g => by have k := (ty.sg 124 1124 (by decide) (by decide)).mp g; exact h3 ⟨k.1, Or.inr (Or.inl k.2)⟩
  have a6 : ¬ t = 1041 := fun g => by have k := (ty.sg 41 1041 (by decide) (by decide)).mp g; exact h3 ⟨k.1, Or.inr (Or.inr k.2)⟩
  show n15 r m x t v (μ 106 34) q = _
  exact n15.no ⟨a2, a7, a4, a5⟩ a6
theorem RSc.rep {μ μ1 : mM} {r m x y : Int} (h : RSc μ (fun p => (16, p, r, m, x, y))) (tb : tbR μ μ1) (n : nxR μ μ1) (ht : μ 106 35 = 3 ∧ (μ 106 36 = 42 ∨ μ 106 36 = 43 ∨ μ 106 36 = 63)) : RSc μ1 (fun p => (15, p, r, m, x, 0)) := by
  refine h.next tb n (okE2 (by decide) (by decide)) (okE2 (by decide) (by decide)) (fun p t v q _ ty _ => ?_)
  show n16 p r m x t q = _
  unfold n16
  rw [if_pos ?_]
  rcases ht.2 with g | g | g
  · exact Or.inl ((ty.sg 42 1042 (by decide) (by decide)).mpr ⟨ht.1, g⟩)
  · exact Or.inr (Or.inl ((ty.sg 43 1043 (by decide) (by decide)).mpr ⟨ht.1, g⟩))
  · exact Or.inr (Or.inr ((ty.sg 63 1063 (by decide) (by decide)).mpr ⟨ht.1, g⟩))
theorem RSc.norep {μ : mM} {r m x y : Int} (h : RSc μ (fun p => (16, p, r, m, x, y))) (ht : ¬ (μ 106 37 = 0 ∧ μ 106 35 = 3 ∧ (μ 106 36 = 42 ∨ μ 106 36 = 43 ∨ μ 106 36 = 63))) : RSc μ (fun p => (15, p, r, m, x, 0)) := by
  refine h.stay (okE2 (by decide) (by decide)) (fun p t v q hc ty _ => ?_)
  show n16 p r m x t q = _
  unfold n16
  rw [if_neg ?_]
  intro g
  apply ht
  rcases g with g | g | g
  · have k := (ty.sg 42 1042 (by decide) (by decide)).mp g; exact ⟨hc, k.1, Or.inl k.2⟩
  · have k := (ty.sg 43 1043 (by decide) (by decide)).mp g; exact ⟨hc, k.1, Or.inr (Or.inl k.2)⟩
  · have k := (ty.sg 63 1063 (by decide) (by decide)).mp g; exact ⟨hc, k.1, Or.inr (Or.inr k.2)⟩
theorem tyM.wd {μ : mM} {t v : Int} (ty : tyM μ t v) (h0 : 0 ≤ t) (h1 : t < 1000) : μ 106 35 = 1 ∧ μ 106 36 = t := (ty.word t ⟨h0, h1⟩).mp rfl
theorem RSc.t2 {μ μ1 : mM} {e' : Int → Cfg} {r m x y : Int} (h : RSc μ (fun p => (1, p, r, m, x, y))) (tb : tbR μ μ1) (n : wrK μ μ1 2) (h3 : ¬ (μ 106 37 = 0 ∧ μ 106 35 = 1 ∧ μ 106 36 = 3)) (ht : ¬ (μ 106 35 = 1 ∧ (μ 106 36 = 4 ∨ μ 106 36 = 6 ∨ (8 ≤ μ 106 36 ∧ μ 106 36 ≤ 15)))) : RSc μ1 e' := by
  refine h.wrong tb n (by decide) (okE2 (by decide) (by decide)) (fun p t v q hc ty _ => ?_)
  show n1 r m t (μ 106 34) q = _
  unfold n1
  rw [if_neg (fun g => h3 ⟨hc, (ty.word 3 (by decide)).mp g⟩), if_pos ?_]
  intro g
  apply ht
  have k := ty.wd (by rcases g with g | g | g <;> omega) (by rcases g with g | g | g <;> omega)
  exact ⟨k.1, by rw [k.2]; exact g⟩
theorem RSc.a2 {μ μ1 : mM} {e' : Int → Cfg} {r m x y : Int} (h : RSc μ (fun p => (6, p, r, m, x, y))) (tb : tbR μ μ1) (n : wrK μ μ1 2) (ht : ¬ (μ 106 35 = 1 ∧ (μ 106 36 = 12 ∨ μ 106 36 = 13 ∨ (23 ≤ μ 106 36 ∧ μ 106 36 ≤ 28)))) : RSc μ1 e' := by
  refine h.wrong tb n (by decide) (okE2 (by decide) (by decide)) (fun p t v q hc ty _ => ?_)
  show n6 (μ 106 39) r m t (μ 106 34) q = _
  unfold n6
  rw [if_pos ?_]
  intro g
  apply ht
  have k := ty.wd (by rcases g with g | g | g <;> omega) (by rcases g with g | g | g <;> omega)
  exact ⟨k.1, by rw [k.2]; exact g⟩
theorem RSc.r2 {μ μ1 : mM} {e' : Int → Cfg} {r m x y : Int} (h : RSc μ (fun p => (0, p, r, m, x, y))) (tb : tbR μ μ1) (n : wrK μ μ1 2) (h0 : ¬ μ 106 35 = 0) (ht : ¬ (μ 106 35 = 1 ∧ (μ 106 36 = 0 ∨ μ 106 36 = 12 ∨ μ 106 36 = 13 ∨ (23 ≤ μ 106 36 ∧ μ 106 36 ≤ 28)))) : RSc μ1 e' := by
  refine h.wrong tb n (by decide) (okE2 (by decide) (by decide)) (fun p t v q hc ty _ => ?_)
  show n0 p r m t (μ 106 34) q = _
  unfold n0
  rw [if_neg (fun g => h0 (ty.fin.mp g)), if_pos ?_]
  intro g
  apply ht
  have k := ty.wd (by rcases g with g | g | g | g <;> omega) (by rcases g with g | g | g | g <;> omega)
  exact ⟨k.1, by rw [k.2]; exact g⟩
theorem RSc.r4 {μ μ1 : mM} {e' : Int → Cfg} {r m x y : Int} (h : RSc μ (fun p => (0, p, r, m, x, y))) (tb : tbR μ μ1) (n : wrK μ μ1 4) (ht : μ 106 35 = 1 ∧ (μ 106 36 = 0 ∨ μ 106 36 = 12 ∨ μ 106 36 = 13 ∨ (23 ≤ μ 106 36 ∧ μ 106 36 ≤ 28))) (hr : 30 ≤ r) : RSc μ1 e' := by
  refine h.wrong tb n (by decide) (okE2 (by decide) (by decide)) (fun p t v q hc ty _ => ?_)
  have k := (ty.word (μ 106 36) (by omega)).mpr ⟨ht.1, rfl⟩
  show n0 p r m t (μ 106 34) q = _
  unfold n0
  rw [if_neg (by omega), if_neg (fun g => g (by rw [k]; exact ht.2)), if_pos hr]
theorem RSc.rI {μ μ1 : mM} {r m x y : Int} (h : RSc μ (fun p => (0, p, r, m, x, y))) (tb : tbR μ μ1) (n : nxR μ μ1) (ht : μ 106 35 = 1 ∧ μ 106 36 = 0) (hr : r < 30) {r' : Int} (e : r + 1 = r') : RSc μ1 (fun p => (1, p, r', m, 0, 0)) := by
  subst e
  refine h.next tb n (okE2 (by decide) (by decide)) (okE2 (by decide) (by decide)) (fun p t v q _ ty _ => ?_)
  have k := (ty.word 0 (by decide)).mpr ht
  show n0 p r m t (μ 106 34) q = _
  unfold n0
  rw [if_neg (by omega), if_neg (fun g => g (Or.inl k)), if_neg (by omega), if_pos k]
theorem RSc.rA {μ : mM} {r m x y : Int} (h : RSc μ (fun p => (0, p, r, m, x, y))) (ht : μ 106 35 = 1 ∧ (μ 106 36 = 12 ∨ μ 106 36 = 13 ∨ (23 ≤ μ 106 36 ∧ μ 106 36 ≤ 28))) (hr : r < 30) {r' : Int} (e : r + 1 = r') : RSc μ (fun p => (6, p, r', m, 0, 0)) := by
  subst e
  refine h.stay (okE2 (by decide) (by decide)) (fun p t v q _ ty _ => ?_)
  have k := (ty.word (μ 106 36) (by omega)).mpr ⟨ht.1, rfl⟩
  show n0 p r m t (μ 106 34) q = _
  unfold n0
  rw [if_neg (by omega), if_neg (fun g => g (Or.inr (by rw [k]; exact ht.2))), if_neg (by omega), if_neg (by omega)]
theorem RSc.thB {μ μ1 : mM} {e' : Int → Cfg} {r m x y : Int} (h : RSc μ (fun p => (5, p, r, m, x, y))) (tb : tbR μ μ1) (n : wrK μ μ1 2) (h1 : ¬ (μ 106 37 = 0 ∧ μ 106 35 = 1 ∧ μ 106 36 = 1)) (h2 : ¬ (μ 106 37 = 0 ∧ μ 106 35 = 1 ∧ μ 106 36 = 2)) : RSc μ1 e' := by
  refine h.wrong tb n (by decide) (okE2 (by decide) (by decide)) (fun p t v q hc ty _ => ?_)
  show n5 r m t (μ 106 34) q = _
  unfold n5
  rw [if_neg (fun g => h1 ⟨hc, (ty.word 1 (by decide)).mp g⟩), if_neg (fun g => h2 ⟨hc, (ty.word 2 (by decide)).mp g⟩)]
theorem RSc.semi {μ μ1 : mM} {r m x y : Int} (h : RSc μ (fun p => (8, p, r, m, x, y))) (tb : tbR μ μ1) (n : sgK μ μ1 59) (nt : ¬ (μ 106 37 = 0 ∧ μ 106 35 = 3 ∧ μ 106 36 = 44)) : RSc μ1 (fun p => (0, p, r, m, 0, 0)) := by
  rcases n with ⟨n1, n2⟩ | ⟨n1, n2⟩
  · exact h.sgT tb n1 (by decide) n2 (okE2 (by decide) (by decide)) (okE2 (by decide) (by decide)) (fun _ _ _ _ => rfl)
  · refine h.wrong tb n2 (by decide) (okE2 (by decide) (by decide)) (fun p t v q hc ty _ => ?_)
    show n8 r m t (μ 106 34) q = _
    unfold n8
    rw [if_neg (fun g => nt ⟨hc, (ty.sg 44 1044 (by decide) (by decide)).mp g⟩), if_neg (fun g => n1 ⟨hc, (ty.sg 59 1059 (by decide) (by decide)).mp g⟩)]
theorem RSc.init {μ μ1 : mM} (h33 : μ 106 33 = 0) (h37 : μ 106 37 = 0) (tb : tbR μ μ1) (n : nxR μ μ1) {r m : Int} (hr : r = 0) (hm : m = 0) : RSc μ1 (fun p => (0, p, r, m, 0, 0)) := by
  subst hr; subst hm
  refine RSc.in tb ?_
  rcases n with ⟨a, _⟩ | ⟨_, t, v, f, q, tk, k⟩
  · exact absurd h37 a
  · rw [h33] at tk
    rcases k with ⟨x1, x2, x3, x4, x5⟩ | ⟨x1, x2, x3⟩
    · exact Or.inl ⟨x2, 0, t, v, q, by rw [x4]; exact tk, x1, x3, x5, rcC.refl⟩
    · subst x1
      have g : rcC (wrW (bR μ)) mskF (bR μ) (μ 106 39) (0, 0, 0, 0, 0, 0) (0, 0, 0, 0, 0, 0) := rcC.refl
      exact Or.inr ⟨by rw [x2]; decide, by rw [x2, x3]; exact g.no (by decide) (fun h => absurd h (by decide)) tk⟩
def RdR (μ μ1 : mM) (c : Int) : Prop := ∃ f, rcC (wrW (bR μ)) mskF (bR μ) c (0, 0, 0, 0, 0, 0) (erC (μ1 106 37) f) ∧ (¬ μ1 106 37 = 0 → f = μ1 106 38)
theorem RdR.mk {μ μ1 : mM} {r m c : Int} (h : RSc μ1 (fun p => (0, p, r, m, 0, 0))) (ht : μ1 106 37 = 0 → μ1 106 35 = 0) (e1 : bR μ1 = bR μ) (ec : μ1 106 39 = c) : RdR μ μ1 c := by
  have g := RSt.done h ht
  rw [e1, ec] at g
  exact g
theorem rd_same {μ ν μ1 ν1 : mM} {c : Int} (h : RdC μ μ1 c) (k : RdR ν ν1 c) (e : bC 1 μ = bR ν) : μ1 23 18 = ν1 106 37 ∧ (¬ μ1 23 18 = 0 → μ1 23 19 = ν1 106 38) := by
  obtain ⟨f, h1, h2⟩ := h
  obtain ⟨g, k1, k2⟩ := k
  rw [e] at h1
  obtain ⟨a, b⟩ := rcC.fin (fun a n x y => wrW.uniq a n x y) h1 k1
  refine ⟨a, fun q => ?_⟩
  rw [← h2 q, b, k2 (by rw [← a]; exact q)]
theorem RSc.nxB {μ μ1 : mM} {e e' : Int → Cfg} (h : RSc μ e) (tb : tbR μ μ1) (n : nxR μ μ1) (hc : ¬ μ 106 37 = 0) : RSc μ1 e' := by
  refine RSc.in tb ?_
  rcases h with ⟨h1, _⟩ | ⟨h1, h2⟩
  · exact absurd h1 hc
  · rcases n with ⟨_, n2, n3⟩ | ⟨n1, _⟩
    · exact Or.inr ⟨by rw [n2]; exact h1, by rw [n2, n3]; exact h2⟩
    · exact absurd n1 hc
theorem RSc.wrB {μ μ1 : mM} {e e' : Int → Cfg} {k : Int} (h : RSc μ e) (tb : tbR μ μ1) (n : wrK μ μ1 k) (hc : ¬ μ 106 37 = 0) : RSc μ1 e' := by
  refine RSc.in tb ?_
  rcases h with ⟨h1, _⟩ | ⟨h1, h2⟩
  · exact absurd h1 hc
  · rcases n with ⟨_, n2, n3⟩ | ⟨n1, _⟩
    · exact Or.inr ⟨by rw [n2]; exact h1, by rw [n2, n3]; exact h2⟩
    · exact absurd n1 hc
theorem RSc.i4 {μ : mM} {r m x y : Int} (h : RSc μ (fun p => if x = 4 then (11, p, r, m, y, 0) else (9, p, r, m, x, y))) (hx : ¬ x = 4) : RSc μ (fun p => (9, p, r, m, x, y)) := by
  rw [show (fun p : Int => if x = 4 then ((11, p, r, m, y, 0) : Cfg) else (9, p, r, m, x, y)) = fun p => (9, p, r, m, x, y) from funext fun p => if_neg hx] at h
  exact h
theorem RSc.i5 {μ : mM} {r m x y : Int} (h : RSc μ (fun p => if x = 4 then (11, p, r, m, y, 0) else (9, p, r, m, x, y))) (hx : x = 4) : RSc μ (fun p => (11, p, r, m, y, 0)) := by
  rw [show (fun p : Int => if x = 4 then ((11, p, r, m, y, 0) : Cfg) else (9, p, r, m, x, y)) = fun p => (11, p, r, m, y, 0) from funext fun p => if_pos hx] at h
  exact h
theorem RSc.o4 {μ : mM} {r m x y : Int} (h : RSc μ (fun p => (9, p, r, m, x, y))) (hx : ¬ x = 4) : RSc μ (fun p => if x = 4 then (11, p, r, m, y, 0) else (9, p, r, m, x, y)) := by
  rw [show (fun p : Int => if x = 4 then ((11, p, r, m, y, 0) : Cfg) else (9, p, r, m, x, y)) = fun p => (9, p, r, m, x, y) from funext fun p => if_neg hx]
  exact h
theorem RSc.o5 {μ : mM} {r m x y : Int} (h : RSc μ (fun p => (11, p, r, m, y, 0))) (hx : x = 4) : RSc μ (fun p => if x = 4 then (11, p, r, m, y, 0) else (9, p, r, m, x, y)) := by
  rw [show (fun p : Int => if x = 4 then ((11, p, r, m, y, 0) : Cfg) else (9, p, r, m, x, y)) = fun p => (11, p, r, m, y, 0) from funext fun p => if_pos hx]
  exact h
/-- a way is read: levels -/
def wyS (μ : mM) (r m l : Int) : Prop := (l = 0 ∧ RSc μ (fun p => (5, p, r, m, 0, 0))) ∨ (¬ l = 0 ∧ RSc μ (fun p => (15, p, r, m, l, 0)))
theorem wyS.pos {μ : mM} {r m l : Int} (h : wyS μ r m l) (hl : ¬ l = 0) : RSc μ (fun p => (15, p, r, m, l, 0)) := by
  rcases h with h | h
  · exact absurd h.1 hl
  · exact h.2
theorem wyS.zero {μ : mM} {r m l : Int} (h : wyS μ r m l) (hl : l = 0) : RSc μ (fun p => (5, p, r, m, 0, 0)) := by
  rcases h with h | h
  · exact h.2
  · exact absurd hl h.1
theorem wyS.any {μ : mM} {e' : Int → Cfg} {r m l : Int} (h : wyS μ r m l) (hc : ¬ μ 106 37 = 0) : RSc μ e' := by
  rcases h with h | h
  · exact h.2.bad hc
  · exact h.2.bad hc
theorem wyS.of {μ : mM} {e : Int → Cfg} {r m l : Int} (h : RSc μ e) (hc : ¬ μ 106 37 = 0) : wyS μ r m l := by
  by_cases q : l = 0
  · exact Or.inl ⟨q, h.bad hc⟩
  · exact Or.inr ⟨q, h.bad hc⟩
/-- a bracket is closed -/
def gcS (μ : mM) (r m l : Int) : Prop := (l = 0 ∧ RSc μ (fun p => (5, p, r, m, 0, 0))) ∨ (¬ l = 0 ∧ RSc μ (fun p => (16, p, r, m, l, 0)))
theorem gcS.mk {μ μ1 : mM} {r m x y l : Int} (h : RSc μ (fun p => (15, p, r, m, x, y))) (tb : tbR μ μ1) (n : nxR μ μ1) (ht : μ 106 35 = 3 ∧ μ 106 36 = 41) (hx : 1 ≤ x) (hl : l = x - 1) : gcS μ1 r m l := by
  by_cases q : x = 1
  · exact Or.inl ⟨by omega, h.gZ tb n ht q⟩
  · exact Or.inr ⟨by omega, h.gE tb n ht (by omega) hl.symm⟩
theorem gcS.pos {μ : mM} {r m l : Int} (h : gcS μ r m l) (hl : ¬ l = 0) : RSc μ (fun p => (16, p, r, m, l, 0)) := by
  rcases h with h | h
  · exact absurd h.1 hl
  · exact h.2
theorem gcS.zero {μ : mM} {r m l : Int} (h : gcS μ r m l) (hl : l = 0) : RSc μ (fun p => (5, p, r, m, 0, 0)) := by
  rcases h with h | h
  · exact h.2
  · exact absurd hl h.1
theorem RSc.ts11 {μ μ1 : mM} {r m N : Int} (h : RSc μ (fun p => (1, p, r, m, 0, 0))) (tb : tbR μ μ1) (n : nxR μ μ1) (ht : μ 106 35 = 1 ∧ μ 106 36 = N) (hN : N = 11 ∨ N = 13) : RSc μ1 (fun p => (4, p, r, m, 1000000, 0)) := by
  rcases hN with e | e <;> subst e
  · exact h.wdT tb ht (by decide) n (okE2 (by decide) (by decide)) (okE2 (by decide) (by decide)) (fun _ _ _ _ => rfl)
  · exact h.wdT tb ht (by decide) n (okE2 (by decide) (by decide)) (okE2 (by decide) (by decide)) (fun _ _ _ _ => rfl)
theorem RSc.ac8 {μ μ1 : mM} {r m N : Int} (h : RSc μ (fun p => (6, p, r, m, 0, 0))) (tb : tbR μ μ1) (n : nxR μ μ1) (ht : μ 106 35 = 1 ∧ μ 106 36 = N) (hN : N = 23 ∨ N = 24) : RSc μ1 (fun p => (8, p, r, m, 0, 0)) := by
  rcases hN with e | e <;> subst e
  · exact h.wdT tb ht (by decide) n (okE2 (by decide) (by decide)) (okE2 (by decide) (by decide)) (fun _ _ _ _ => rfl)
  · exact h.wdT tb ht (by decide) n (okE2 (by decide) (by decide)) (okE2 (by decide) (by decide)) (fun _ _ _ _ => rfl)
theorem RSc.acC {μ μ1 : mM} {r m c : Int} (h : RSc μ (fun p => (6, p, r, m, 0, 0))) (tb : tbR μ μ1) (n : nxR μ μ1) (ht : μ 106 35 = 1 ∧ μ 106 36 = 28) (hc : μ 106 39 - 1 = c) : RSc μ1 (fun p => (7, p, r, m, 0, c)) := by
  subst hc
  exact h.wdT tb ht (by decide) n (okE2 (by decide) (by decide)) (okE2 (by decide) (by decide)) (fun _ _ _ _ => rfl)
theorem gcS.any {μ : mM} {e' : Int → Cfg} {r m l : Int} (h : gcS μ r m l) (hc : ¬ μ 106 37 = 0) : RSc μ e' := by
  rcases h with h | h
  · exact h.2.bad hc
  · exact h.2.bad hc
theorem RSc.v0 {μ : mM} {e : Int → Cfg} (h : RSc μ e) (hc : μ 106 37 = 0) (ht : μ 106 35 = 2) : 0 ≤ μ 106 36 := by
  rcases h with ⟨_, p, t, v, q, h2, _, h4, _⟩ | ⟨h1, _⟩
  · have t2 := h4.num.1.mpr ht
    have v2 := h4.num.2 t2
    rw [t2] at h2
    have k := h2.v0
    rw [v2] at k; exact k
  · exact absurd hc h1
theorem RdR.of {μ μx μ1 : mM} {c : Int} (h : RdR μ μx c) (e7 : μ1 106 37 = μx 106 37) (e8 : μ1 106 38 = μx 106 38) : RdR μ μ1 c := by
  unfold RdR
  rw [e7, e8]; exact h
