/-! A draft of a policy: its acts and rows, while nothing is wrong. -/
def offL (μ : mM) (a : Nat) (L : List Nat) (μ1 : mM) : Prop := ∀ k, k ∉ L → μ1 a k = μ a k
theorem offL.refl {μ : mM} {a : Nat} {L : List Nat} : offL μ a L μ := fun _ _ => rfl
theorem offL.up {μ μ1 μ2 : mM} {a k : Nat} {L : List Nat} {z : Int} (h : offL μ a L μ1) (hU : mU μ1 a k z μ2) (hk : k ∈ L) : offL μ a L μ2 := fun j hj => (hU.2 a j (Or.inr (fun e => hj (e ▸ hk)))).trans (h j hj)
theorem offL.upO {μ μ1 μ2 : mM} {a b k : Nat} {L : List Nat} {z : Int} (h : offL μ a L μ1) (hU : mU μ1 b k z μ2) (hb : a ≠ b) : offL μ a L μ2 := fun j hj => (hU.2 a j (Or.inl hb)).trans (h j hj)
theorem offL.fr {l : List Nat} {w : mW} {μ μ1 μ2 : mM} {a s : Nat} {L : List Nat} (h : offL μ a L μ1) (hF : mF l w μ1 μ2) (hA : mAt w a s) (hl : ∀ j, l.elem (1000 * s + (if mArr s then 999 else j)) = false) : offL μ a L μ2 := fun j hj => (hF.f (z := μ1 a j) hA (hl j) rfl).trans (h j hj)
def AC (μ : mM) : Prop := μ 106 37 = 0 → ∀ c : Nat, (c : Int) < μ 131 (μ 106 58).toNat → μ 140 (300 * (μ 106 58).toNat + c) = 28 → 0 ≤ μ 141 (300 * (μ 106 58).toNat + c) ∧ μ 141 (300 * (μ 106 58).toNat + c) < μ 106 39
theorem AC.bad {μ : mM} {c : Int} (q : μ 106 37 = c) (h : ¬ c = 0) : AC μ := fun e => absurd (q ▸ e) h
def acFree (l : List Nat) : Bool := !(l.elem 131999) && (!(l.elem 140999) && (!(l.elem 141999) && (!(l.elem 106058) && !(l.elem 106039))))
theorem AC.keep {l : List Nat} {w : mW} {μ μ1 : mM} {c : Int} (h : AC μ) (hw : mWF w) (hF : mF l w μ μ1) (hl : acFree l = true) (q : μ 106 37 = c) (hc : c = 0) : AC μ1 := by
  simp only [acFree, Bool.and_eq_true, Bool.not_eq_true'] at hl
  obtain ⟨l1, l2, l3, l4, l5⟩ := hl
  have e1 : μ1 131 = μ 131 := funext fun i => hF.f (A_131 hw) l1 rfl
  have e2 : μ1 140 = μ 140 := funext fun i => hF.f (A_140 hw) l2 rfl
  have e3 : μ1 141 = μ 141 := funext fun i => hF.f (A_141 hw) l3 rfl
  have e4 : μ1 106 58 = μ 106 58 := hF.f (A_106 hw) l4 rfl
  have e5 : μ1 106 39 = μ 106 39 := hF.f (A_106 hw) l5 rfl
  have := h (q.trans hc)
  intro _
  rw [e1, e2, e3, e4, e5]; exact this
theorem AC.init {μ : mM} {d z : Int} (q : μ 106 58 = d) (qa : μ 131 d.toNat = z) (hz : z = 0) : AC μ := by
  intro _ c hc
  rw [q, qa] at hc; omega
theorem AC.act {μ μ1 : mM} {k d a b c v x n : Int} (h : AC μ) (q : μ 106 37 = k) (hk : k = 0) (qd : μ 106 58 = d) (qd1 : μ1 106 58 = d) (hd : 0 ≤ d) (qn : μ 106 39 = n) (qn1 : μ1 106 39 = n) (qa : μ 131 d.toNat = a) (ha : 0 ≤ a) (qa1 : μ1 131 d.toNat = b) (hb : b = a + 1) (hc : c = 300 * d + a) (o0 : offL μ 140 [c.toNat] μ1) (o1 : offL μ 141 [c.toNat] μ1) (qw : μ1 140 c.toNat = v) (qx : μ1 141 c.toNat = x) (hv : ¬ v = 28 ∨ (0 ≤ x ∧ x < n)) : AC μ1 := by
  intro _ j hj hw
  rw [qd1] at hj hw ⊢
  rw [qn1]
  rw [qa1] at hj
  have h1 := h (q.trans hk) j
  rw [qd, qn, qa] at h1
  by_cases he : (j : Int) = a
  · have e : 300 * d.toNat + j = c.toNat := by omega
    rw [e, qw] at hw
    rw [e, qx]
    exact hv.resolve_left (fun g => g hw)
  · have e : 300 * d.toNat + j ∉ [c.toNat] := by
      intro g
      rcases List.mem_cons.mp g with g | g
      · omega
      · cases g
    rw [o0 _ e] at hw
    rw [o1 _ e]
    exact h1 (by omega) hw
def RW (μ : mM) : Prop := μ 106 37 = 0 → ∀ r : Nat, (r : Int) < μ 127 (μ 106 58).toNat → μ 129 (31 * (μ 106 58).toNat + r) ≤ μ 129 (31 * (μ 106 58).toNat + r + 1) ∧ μ 129 (31 * (μ 106 58).toNat + r + 1) ≤ μ 131 (μ 106 58).toNat
theorem RW.bad {μ : mM} {c : Int} (q : μ 106 37 = c) (h : ¬ c = 0) : RW μ := fun e => absurd (q ▸ e) h
def rwFree (l : List Nat) : Bool := !(l.elem 127999) && (!(l.elem 129999) && (!(l.elem 131999) && !(l.elem 106058)))
theorem RW.keep {l : List Nat} {w : mW} {μ μ1 : mM} {c : Int} (h : RW μ) (hw : mWF w) (hF : mF l w μ μ1) (hl : rwFree l = true) (q : μ 106 37 = c) (hc : c = 0) : RW μ1 := by
  simp only [rwFree, Bool.and_eq_true, Bool.not_eq_true'] at hl
  obtain ⟨l1, l2, l3, l4⟩ := hl
  have e1 : μ1 127 = μ 127 := funext fun i => hF.f (A_127 hw) l1 rfl
  have e2 : μ1 129 = μ 129 := funext fun i => hF.f (A_129 hw) l2 rfl
  have e3 : μ1 131 = μ 131 := funext fun i => hF.f (A_131 hw) l3 rfl
  have e4 : μ1 106 58 = μ 106 58 := hF.f (A_106 hw) l4 rfl
  have := h (q.trans hc)
  intro _
  rw [e1, e2, e3, e4]; exact this
theorem RW.init {μ : mM} {d z : Int} (q : μ 106 58 = d) (qa : μ 127 d.toNat = z) (hz : z = 0) : RW μ := by
  intro _ c hc
  rw [q, qa] at hc; omega
theorem RW.row {μ μ1 : mM} {k d n m a b x y r e : Int} (h : RW μ) (q : μ 106 37 = k) (hk : k = 0) (qd : μ 106 58 = d) (qd1 : μ1 106 58 = d) (hd : 0 ≤ d) (qr : μ 127 d.toNat = n) (hn : 0 ≤ n) (qr1 : μ1 127 d.toNat = m) (hm : m = n + 1) (qa : μ 131 d.toNat = a) (qa1 : μ1 131 d.toNat = b) (hab : a ≤ b) (hr : r = 31 * d + n) (he : e = r + 1) (q1 : μ1 129 r.toNat = x) (hx : x = a) (q2 : μ1 129 e.toNat = y) (hy : y = b) (o : offL μ 129 [r.toNat, e.toNat] μ1) : RW μ1 := by
  intro _ j hj
  rw [qd1] at hj ⊢
  rw [qr1] at hj
  rw [qa1]
  have h1 := h (q.trans hk)
  rw [qd] at h1
  have hoff : ∀ i : Nat, (i : Int) < r → μ1 129 i = μ 129 i := fun i hi => o i (by
    intro g
    rcases List.mem_cons.mp g with g | g
    · omega
    · rcases List.mem_cons.mp g with g | g
      · omega
      · cases g)
  by_cases hjn : (j : Int) = n
  · have e1 : 31 * d.toNat + j = r.toNat := by omega
    have e2 : r.toNat + 1 = e.toNat := by omega
    rw [e1, e2, q1, q2, hx, hy]
    exact ⟨hab, Int.le_refl b⟩
  · have h2 := h1 j (by rw [qr]; omega)
    rw [qa] at h2
    rw [hoff (31 * d.toNat + j) (by omega)]
    by_cases hj1 : (j : Int) + 1 = n
    · have e1 : 31 * d.toNat + j + 1 = r.toNat := by omega
      rw [e1, q1, hx]
      omega
    · rw [hoff (31 * d.toNat + j + 1) (by omega)]
      omega
theorem PK.up127 {μ μ1 : mM} {e z n : Int} (h : PK μ) (hU : mU μ 127 e.toNat z μ1) (q : μ1 106 39 = n) (he : 0 ≤ e ∧ n ≤ e) : PK μ1 := by
  have e0 : μ 106 39 = n := (hU.2 106 39 (Or.inl (by decide))).symm.trans q
  refine ⟨fun i hi ht => ?_, fun p hp => ?_⟩
  · rw [hU.2 115 i (Or.inl (by decide)), hU.2 106 39 (Or.inl (by decide))]; exact h.1 i hi (by rw [← hU.2 106 6 (Or.inl (by decide))]; exact ht)
  · rw [q] at hp
    have := h.2 p (by rw [e0]; exact hp)
    unfold polT at this ⊢
    rw [hU.2 127 p (Or.inr (by omega)), hU.2 131 p (Or.inl (by decide))]
    have f1 : μ1 129 = μ 129 := funext fun i => hU.2 129 i (Or.inl (by decide))
    have f2 : μ1 140 = μ 140 := funext fun i => hU.2 140 i (Or.inl (by decide))
    have f3 : μ1 141 = μ 141 := funext fun i => hU.2 141 i (Or.inl (by decide))
    rw [f1, f2, f3]; exact this
theorem PK.up131 {μ μ1 : mM} {e z n : Int} (h : PK μ) (hU : mU μ 131 e.toNat z μ1) (q : μ1 106 39 = n) (he : 0 ≤ e ∧ n ≤ e) : PK μ1 := by
  have e0 : μ 106 39 = n := (hU.2 106 39 (Or.inl (by decide))).symm.trans q
  refine ⟨fun i hi ht => ?_, fun p hp => ?_⟩
  · rw [hU.2 115 i (Or.inl (by decide)), hU.2 106 39 (Or.inl (by decide))]; exact h.1 i hi (by rw [← hU.2 106 6 (Or.inl (by decide))]; exact ht)
  · rw [q] at hp
    have := h.2 p (by rw [e0]; exact hp)
    unfold polT at this ⊢
    rw [hU.2 131 p (Or.inr (by omega)), hU.2 127 p (Or.inl (by decide))]
    have f1 : μ1 129 = μ 129 := funext fun i => hU.2 129 i (Or.inl (by decide))
    have f2 : μ1 140 = μ 140 := funext fun i => hU.2 140 i (Or.inl (by decide))
    have f3 : μ1 141 = μ 141 := funext fun i => hU.2 141 i (Or.inl (by decide))
    rw [f1, f2, f3]; exact this
theorem PK.up129 {w : mW} {μ μ1 : mM} {e z n : Int} (h : PK μ) (hw : mWF w) (hT : mT w μ1) (hU : mU μ 129 e.toNat z μ1) (q : μ1 106 39 = n) (he : 0 ≤ e ∧ 31 * n ≤ e) : PK μ1 := by
  have e0 : μ 106 39 = n := (hU.2 106 39 (Or.inl (by decide))).symm.trans q
  refine ⟨fun i hi ht => ?_, fun p hp => ?_⟩
  · rw [hU.2 115 i (Or.inl (by decide)), hU.2 106 39 (Or.inl (by decide))]; exact h.1 i hi (by rw [← hU.2 106 6 (Or.inl (by decide))]; exact ht)
  · rw [q] at hp
    have := h.2 p (by rw [e0]; exact hp)
    have t : 0 ≤ μ1 127 p ∧ μ1 127 p ≤ 30 := hT 127 127 (A_127 hw) p
    refine ⟨fun r hr => ?_, fun c hc hw => ?_⟩
    · have g := this.1 r (by rw [← hU.2 127 p (Or.inl (by decide))]; exact hr)
      rw [hU.2 129 (31 * p + r) (Or.inr (by omega)), hU.2 129 (31 * p + r + 1) (Or.inr (by omega)), hU.2 131 p (Or.inl (by decide))]
      exact g
    · rw [hU.2 131 p (Or.inl (by decide))] at hc
      rw [hU.2 140 _ (Or.inl (by decide))] at hw
      rw [hU.2 141 _ (Or.inl (by decide))]
      exact this.2 c hc hw
theorem PK.up140 {w : mW} {μ μ1 : mM} {e z n : Int} (h : PK μ) (hw : mWF w) (hT : mT w μ1) (hU : mU μ 140 e.toNat z μ1) (q : μ1 106 39 = n) (he : 0 ≤ e ∧ 300 * n ≤ e) : PK μ1 := by
  have e0 : μ 106 39 = n := (hU.2 106 39 (Or.inl (by decide))).symm.trans q
  refine ⟨fun i hi ht => ?_, fun p hp => ?_⟩
  · rw [hU.2 115 i (Or.inl (by decide)), hU.2 106 39 (Or.inl (by decide))]; exact h.1 i hi (by rw [← hU.2 106 6 (Or.inl (by decide))]; exact ht)
  · rw [q] at hp
    have := h.2 p (by rw [e0]; exact hp)
    have t : 0 ≤ μ1 131 p ∧ μ1 131 p ≤ 300 := hT 131 131 (A_131 hw) p
    refine ⟨fun r hr => ?_, fun c hc hw => ?_⟩
    · rw [hU.2 129 _ (Or.inl (by decide)), hU.2 129 _ (Or.inl (by decide)), hU.2 131 p (Or.inl (by decide))]
      exact this.1 r (by rw [← hU.2 127 p (Or.inl (by decide))]; exact hr)
    · rw [hU.2 140 _ (Or.inr (by omega))] at hw
      rw [hU.2 141 _ (Or.inl (by decide))]
      exact this.2 c (by rw [← hU.2 131 p (Or.inl (by decide))]; exact hc) hw
theorem PK.up141 {w : mW} {μ μ1 : mM} {e z n : Int} (h : PK μ) (hw : mWF w) (hT : mT w μ1) (hU : mU μ 141 e.toNat z μ1) (q : μ1 106 39 = n) (he : 0 ≤ e ∧ 300 * n ≤ e) : PK μ1 := by
  have e0 : μ 106 39 = n := (hU.2 106 39 (Or.inl (by decide))).symm.trans q
  refine ⟨fun i hi ht => ?_, fun p hp => ?_⟩
  · rw [hU.2 115 i (Or.inl (by decide)), hU.2 106 39 (Or.inl (by decide))]; exact h.1 i hi (by rw [← hU.2 106 6 (Or.inl (by decide))]; exact ht)
  · rw [q] at hp
    have := h.2 p (by rw [e0]; exact hp)
    have t : 0 ≤ μ1 131 p ∧ μ1 131 p ≤ 300 := hT 131 131 (A_131 hw) p
    refine ⟨fun r hr => ?_, fun c hc hw => ?_⟩
    · rw [hU.2 129 _ (Or.inl (by decide)), hU.2 129 _ (Or.inl (by decide)), hU.2 131 p (Or.inl (by decide))]
      exact this.1 r (by rw [← hU.2 127 p (Or.inl (by decide))]; exact hr)
    · rw [hU.2 140 _ (Or.inl (by decide))] at hw
      rw [hU.2 141 _ (Or.inr (by omega))]
      exact this.2 c (by rw [← hU.2 131 p (Or.inl (by decide))]; exact hc) hw
/-- a draft without a fault becomes a policy -/
theorem PK.new {μ μ1 : mM} {k d n z : Int} (h : PK μ) (hA : AC μ) (hR : RW μ) (q : μ 106 37 = k) (hk : k = 0) (qd : μ 106 58 = d) (qn : μ 106 39 = n) (hd : d = n) (hn : 0 ≤ n) (hU : mU μ 106 39 z μ1) (hz : z = n + 1) : PK μ1 := by
  have f : ∀ a j, a ≠ 106 → μ1 a j = μ a j := fun a j ha => hU.2 a j (Or.inl ha)
  refine ⟨fun i hi ht => ?_, fun p hp => ?_⟩
  · rw [f 115 i (by decide), hU.1]
    have := h.1 i hi (by rw [← hU.2 106 6 (Or.inr (by decide))]; exact ht)
    rw [qn] at this
    rcases this with g | g
    · exact Or.inl g
    · exact Or.inr ⟨g.1, by omega⟩
  · rw [hU.1] at hp
    unfold polT
    have f1 : μ1 127 = μ 127 := funext fun i => f 127 i (by decide)
    have f2 : μ1 129 = μ 129 := funext fun i => f 129 i (by decide)
    have f3 : μ1 131 = μ 131 := funext fun i => f 131 i (by decide)
    have f4 : μ1 140 = μ 140 := funext fun i => f 140 i (by decide)
    have f5 : μ1 141 = μ 141 := funext fun i => f 141 i (by decide)
    rw [f1, f2, f3, f4, f5]
    by_cases hpn : (p : Int) = n
    · have e : (μ 106 58).toNat = p := by rw [qd]; omega
      have a1 := hA (q.trans hk)
      have r1 := hR (q.trans hk)
      rw [e] at a1 r1
      refine ⟨r1, fun c hc hw => ?_⟩
      have := a1 c hc hw
      rw [qn] at this
      omega
    · exact h.2 p (by rw [qn]; omega)
