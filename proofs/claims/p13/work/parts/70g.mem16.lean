/-! Going through a policy: what stands at the levels. -/
theorem PK.act {μ : mM} {p n r R e v A : Int} (h : PK μ) (hp : 0 ≤ p ∧ p < n) (qn : μ 106 39 = n) (hr : 0 ≤ r ∧ r < R) (qR : μ 127 p.toNat = R) (he : e = 31 * p + r + 1) (qv : μ 129 e.toNat = v) (qA : μ 131 p.toNat = A) : v ≤ A := by
  have h1 := (h.2 p.toNat (by rw [qn]; omega)).1 r.toNat (by rw [qR]; omega)
  have e1 : 31 * p.toNat + r.toNat + 1 = e.toNat := by omega
  rw [e1, qv, qA] at h1; exact h1.2
theorem PK.call {μ : mM} {p n a A c y x : Int} (h : PK μ) (hp : 0 ≤ p ∧ p < n) (qn : μ 106 39 = n) (ha : 0 ≤ a ∧ a < A) (qA : μ 131 p.toNat = A) (hc : c = 300 * p + a) (qw : μ 140 c.toNat = y) (hy : y = 28) (qx : μ 141 c.toNat = x) : 0 ≤ x ∧ x < p := by
  have h1 := (h.2 p.toNat (by rw [qn]; omega)).2 a.toNat (by rw [qA]; omega)
  have e1 : 300 * p.toNat + a.toNat = c.toNat := by omega
  rw [e1, qw, qx] at h1
  have := h1 hy
  omega
def lvOK (μ : mM) (d : Int) : Prop := ∀ i : Nat, (i : Int) < d → 0 ≤ μ 151 i ∧ μ 151 i < μ 106 39 ∧ μ 151 i + (i : Int) ≤ 11 ∧ μ 152 i < μ 127 (μ 151 i).toNat ∧ (0 ≤ μ 152 i → μ 153 i ≤ μ 129 (31 * (μ 151 i).toNat + (μ 152 i).toNat + 1))
theorem lvOK.zero {μ : mM} : lvOK μ 0 := fun i h => by omega
def lvFree (l : List Nat) : Bool := !(l.elem 106039) && (!(l.elem 127999) && (!(l.elem 129999) && (!(l.elem 151999) && (!(l.elem 152999) && !(l.elem 153999)))))
theorem lvOK.keep {l : List Nat} {w : mW} {μ μ1 : mM} {d : Int} (h : lvOK μ d) (hw : mWF w) (hF : mF l w μ μ1) (hl : lvFree l = true) : lvOK μ1 d := by
  simp only [lvFree, Bool.and_eq_true, Bool.not_eq_true'] at hl
  obtain ⟨l1, l2, l3, l4, l5, l6⟩ := hl
  have e1 : μ1 106 39 = μ 106 39 := hF.f (A_106 hw) l1 rfl
  have e2 : μ1 127 = μ 127 := funext fun i => hF.f (A_127 hw) l2 rfl
  have e3 : μ1 129 = μ 129 := funext fun i => hF.f (A_129 hw) l3 rfl
  have e4 : μ1 151 = μ 151 := funext fun i => hF.f (A_151 hw) l4 rfl
  have e5 : μ1 152 = μ 152 := funext fun i => hF.f (A_152 hw) l5 rfl
  have e6 : μ1 153 = μ 153 := funext fun i => hF.f (A_153 hw) l6 rfl
  unfold lvOK at h ⊢
  rw [e1, e2, e3, e4, e5, e6]; exact h
theorem lvOK.pred {μ : mM} {d k : Int} (h : lvOK μ d) (hk : k ≤ d) : lvOK μ k := fun i hi => h i (by omega)
theorem lvOK.p {μ : mM} {d l p n : Int} (h : lvOK μ d) (h0 : 0 ≤ l ∧ l < d) (q : μ 151 l.toNat = p) (qn : μ 106 39 = n) : 0 ≤ p ∧ p < n ∧ p + l ≤ 11 := by
  have := h l.toNat (by omega)
  rw [q, qn] at this
  omega
theorem lvOK.r {μ : mM} {d l p r R : Int} (h : lvOK μ d) (h0 : 0 ≤ l ∧ l < d) (q : μ 151 l.toNat = p) (qr : μ 152 l.toNat = r) (qR : μ 127 p.toNat = R) : r < R := by
  have := h l.toNat (by omega)
  rw [q, qr, qR] at this
  exact this.2.2.2.1
theorem lvOK.a {μ : mM} {d l p r a e v : Int} (h : lvOK μ d) (h0 : 0 ≤ l ∧ l < d) (q : μ 151 l.toNat = p) (qr : μ 152 l.toNat = r) (qa : μ 153 l.toNat = a) (hp : 0 ≤ p) (hr : 0 ≤ r) (he : e = 31 * p + r + 1) (qv : μ 129 e.toNat = v) : a ≤ v := by
  have := (h l.toNat (by omega)).2.2.2.2
  rw [q, qr, qa] at this
  have e1 : 31 * p.toNat + r.toNat + 1 = e.toNat := by omega
  rw [e1, qv] at this
  exact this hr
theorem lvOK.push {μ μ1 μ2 μ3 : mM} {d x n y R : Int} (h : lvOK μ d) (h0 : 0 ≤ d) (u1 : mU μ 151 d.toNat x μ1) (u2 : mU μ1 152 d.toNat (-1) μ2) (u3 : mU μ2 153 d.toNat y μ3) (qn : μ3 106 39 = n) (hx : 0 ≤ x ∧ x < n ∧ x + d ≤ 11) (qR : μ3 127 x.toNat = R) (hR : 0 ≤ R) : lvOK μ3 (d + 1) := by
  have f : ∀ a k, a ≠ 151 → a ≠ 152 → a ≠ 153 → μ3 a k = μ a k := fun a k h1 h2 h3 => by rw [u3.2 a k (Or.inl h3), u2.2 a k (Or.inl h2), u1.2 a k (Or.inl h1)]
  intro i hi
  by_cases hk : i = d.toNat
  · subst hk
    have e1 : μ3 151 d.toNat = x := by rw [u3.2 151 _ (Or.inl (by decide)), u2.2 151 _ (Or.inl (by decide)), u1.1]
    have e2 : μ3 152 d.toNat = -1 := by rw [u3.2 152 _ (Or.inl (by decide)), u2.1]
    rw [e1, e2, qn, qR]
    refine ⟨hx.1, hx.2.1, by omega, by omega, fun q => by omega⟩
  · have e1 : μ3 151 i = μ 151 i := by rw [u3.2 151 _ (Or.inl (by decide)), u2.2 151 _ (Or.inl (by decide)), u1.2 151 i (Or.inr hk)]
    have e2 : μ3 152 i = μ 152 i := by rw [u3.2 152 _ (Or.inl (by decide)), u2.2 152 i (Or.inr hk), u1.2 152 i (Or.inl (by decide))]
    have e3 : μ3 153 i = μ 153 i := by rw [u3.2 153 i (Or.inr hk), u2.2 153 i (Or.inl (by decide)), u1.2 153 i (Or.inl (by decide))]
    rw [e1, e2, e3, f 106 39 (by decide) (by decide) (by decide)]
    rw [f 127 _ (by decide) (by decide) (by decide), f 129 _ (by decide) (by decide) (by decide)]
    exact h i (by omega)
theorem lvOK.act {μ μ1 : mM} {d l p r b e v : Int} (h : lvOK μ d) (h0 : 0 ≤ l ∧ l < d) (u : mU μ 153 l.toNat b μ1) (q : μ1 151 l.toNat = p) (qr : μ1 152 l.toNat = r) (hp : 0 ≤ p) (hr : 0 ≤ r) (he : e = 31 * p + r + 1) (qv : μ1 129 e.toNat = v) (hb : b ≤ v) : lvOK μ1 d := by
  intro i hi
  have f : ∀ a k, a ≠ 153 → μ1 a k = μ a k := fun a k h1 => u.2 a k (Or.inl h1)
  have g := h i hi
  by_cases hk : i = l.toNat
  · subst hk
    have e1 : 31 * p.toNat + r.toNat + 1 = e.toNat := by omega
    rw [f 106 39 (by decide), f 127 _ (by decide), f 151 _ (by decide), f 152 _ (by decide)]
    refine ⟨g.1, g.2.1, g.2.2.1, g.2.2.2.1, fun _ => ?_⟩
    rw [u.1]
    rw [f 151 _ (by decide)] at q
    rw [f 152 _ (by decide)] at qr
    rw [q, qr, e1, qv]; exact hb
  · rw [f 106 39 (by decide), f 127 _ (by decide), f 151 _ (by decide), f 152 _ (by decide), u.2 153 i (Or.inr hk), f 129 _ (by decide)]
    exact g
theorem lvOK.row {μ μ1 μ2 : mM} {d l p n r R b e : Int} (h : lvOK μ d) (hk : PK μ2) (h0 : 0 ≤ l ∧ l < d) (u1 : mU μ 152 l.toNat r μ1) (u2 : mU μ1 153 l.toNat b μ2) (q : μ2 151 l.toNat = p) (hp : 0 ≤ p ∧ p < n) (qn : μ2 106 39 = n) (hr : 0 ≤ r ∧ r < R) (qR : μ2 127 p.toNat = R) (he : e = 31 * p + r) (qb : μ2 129 e.toNat = b) : lvOK μ2 d := by
  intro i hi
  have f : ∀ a k, a ≠ 152 → a ≠ 153 → μ2 a k = μ a k := fun a k h1 h2 => by rw [u2.2 a k (Or.inl h2), u1.2 a k (Or.inl h1)]
  have g := h i hi
  by_cases hk2 : i = l.toNat
  · subst hk2
    have e1 : 31 * p.toNat + r.toNat = e.toNat := by omega
    have e2 : μ2 152 l.toNat = r := by rw [u2.2 152 _ (Or.inl (by decide)), u1.1]
    have e3 : μ2 153 l.toNat = b := u2.1
    have g1 := ((hk.2 p.toNat (by rw [qn]; omega)).1 r.toNat (by rw [qR]; omega)).1
    rw [e1, qb] at g1
    rw [q, e2, e3, qR, qn]
    refine ⟨hp.1, hp.2, ?_, hr.2, fun _ => by rw [e1]; exact g1⟩
    have g2 := g.2.2.1
    rw [← f 151 _ (by decide) (by decide), q] at g2
    exact g2
  · have e2 : μ2 152 i = μ 152 i := by rw [u2.2 152 _ (Or.inl (by decide)), u1.2 152 i (Or.inr hk2)]
    have e3 : μ2 153 i = μ 153 i := by rw [u2.2 153 i (Or.inr hk2), u1.2 153 i (Or.inl (by decide))]
    rw [e2, e3, f 106 39 (by decide) (by decide), f 127 _ (by decide) (by decide), f 151 _ (by decide) (by decide), f 129 _ (by decide) (by decide)]
    exact g
theorem topE {μ : mM} {d l R z : Int} (h : d = 0 ∨ μ 152 (d - 1).toNat = R) (hd : ¬ d = 0) (hl : l = d - 1) (q : μ 152 l.toNat = z) : z = R := by
  have := h.resolve_left hd
  rw [← hl, q] at this; exact this
