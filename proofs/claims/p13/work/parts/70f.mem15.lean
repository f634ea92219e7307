/-! The reference picks: what is left, what is hit, what wins. -/
def bestOK (μ : mM) (n z : Int) : Prop := (z = -99999999 ∨ μ 165 z.toNat = 1) ∧ (z = -99999999 → noneEq μ 165 n 1)
theorem bestOK.zero {μ : mM} : bestOK μ 0 (-99999999) := ⟨Or.inl rfl, fun _ => noneEq.zero⟩
theorem bestOK.put {μ : mM} {t v : Int} (q : μ 165 t.toNat = v) (hv : v = 1) (h0 : 0 ≤ t) : bestOK μ (t + 1) t := ⟨Or.inr (by rw [q]; exact hv), fun h => by omega⟩
theorem bestOK.not {μ : mM} {t v z : Int} (h : bestOK μ t z) (q : μ 165 t.toNat = v) (hc : ¬ v = 1 ∨ ¬ z = -99999999) : bestOK μ (t + 1) z :=
  ⟨h.1, fun hz => (h.2 hz).succ q (hc.resolve_right (fun k => k hz))⟩
def wOK (μ : mM) (z : Int) : Prop := z = -99999999 ∨ 0 ≤ μ 126 (160 + 40 * z).toNat
theorem wOK.keep {l : List Nat} {w : mW} {μ μ1 : mM} {z : Int} (h : wOK μ z) (hw : mWF w) (hF : mF l w μ μ1) (hl : l.elem 126999 = false) : wOK μ1 z := by
  have e : μ1 126 (160 + 40 * z).toNat = μ 126 (160 + 40 * z).toNat := hF.f (A_126 hw) hl rfl
  unfold wOK at h ⊢; rw [e]; exact h
theorem wOK.of {μ : mM} {z f x : Int} (hf : f = 160 + 40 * z) (q : μ 126 f.toNat = x) (hx : 0 ≤ x) : wOK μ z := Or.inr (by rw [← hf, q]; exact hx)
def leftOK (μ : mM) (n : Int) : Prop := ∀ i : Int, 0 ≤ i → i < n → μ 165 i.toNat = 1 → 0 ≤ μ 126 (160 + 40 * i).toNat
theorem leftOK.zero {μ : mM} : leftOK μ 0 := fun i h0 h1 => by omega
theorem leftOK.put {μ μ1 : mM} {n v f x : Int} (h : leftOK μ n) (h0 : 0 ≤ n) (hU : mU μ 165 n.toNat v μ1) (hf : f = 160 + 40 * n) (q : μ1 126 f.toNat = x) (hv : ¬ v = 1 ∨ 0 ≤ x) : leftOK μ1 (n + 1) := by
  intro i hi hin h1
  by_cases he : i = n
  · subst he
    rw [hU.1] at h1
    rw [← hf, q]; exact hv.resolve_left (fun k => k h1)
  · rw [hU.2 165 i.toNat (Or.inr (by omega))] at h1
    rw [hU.2 126 _ (Or.inl (by decide))]
    exact h i hi (by omega) h1
theorem leftOK.best {μ : mM} {n z : Int} (h : leftOK μ n) (hb : bestOK μ n z) (hz : z < n) (h0 : z = -99999999 ∨ (0 ≤ z ∧ z ≤ 19)) : wOK μ z := by
  rcases h0 with h0 | h0
  · exact Or.inl h0
  · exact Or.inr (h z h0.1 hz (hb.1.resolve_left (by omega)))
def hit (μ : mM) (n v : Int) : Prop := ∃ i : Int, 0 ≤ i ∧ i < n ∧ 0 ≤ μ 126 (160 + 40 * i).toNat ∧ 0 < μ 126 (164 + 40 * i).toNat ∧ μ 126 (166 + 40 * i).toNat = v
theorem hit.new {μ : mM} {t v f g k x y : Int} (h0 : 0 ≤ t) (hf : f = 160 + 40 * t) (qf : μ 126 f.toNat = x) (hx : 0 ≤ x) (hg : g = 164 + 40 * t) (qg : μ 126 g.toNat = y) (hy : 0 < y) (hk : k = 166 + 40 * t) (qk : μ 126 k.toNat = v) : hit μ (t + 1) v :=
  ⟨t, h0, by omega, by rw [← hf, qf]; exact hx, by rw [← hg, qg]; exact hy, by rw [← hk, qk]⟩
theorem hit.or {μ : mM} {n m v b : Int} (h : b = 0 ∨ hit μ n v) (hm : n ≤ m) : b = 0 ∨ hit μ m v := by
  rcases h with h | ⟨i, h0, h1, h2⟩
  · exact Or.inl h
  · exact Or.inr ⟨i, h0, by omega, h2⟩
theorem hit.keep {l : List Nat} {w : mW} {μ μ1 : mM} {n v : Int} (h : hit μ n v) (hw : mWF w) (hF : mF l w μ μ1) (hl : l.elem 126999 = false) : hit μ1 n v := by
  have e : ∀ i, μ1 126 i = μ 126 i := fun i => hF.f (A_126 hw) hl rfl
  unfold hit at h ⊢; simp only [e]; exact h
def lft (μ : mM) (v n : Int) : Prop := leftOK μ n ∧ ∀ i : Int, 0 ≤ i → i < n → 0 ≤ μ 126 (160 + 40 * i).toNat → 0 < μ 126 (164 + 40 * i).toNat → μ 126 (166 + 40 * i).toNat = v → μ 165 i.toNat = 1
theorem lft.zero {μ : mM} {v : Int} : lft μ v 0 := ⟨leftOK.zero, fun i h0 h1 => by omega⟩
theorem lft.put {μ μ1 : mM} {v n b : Int} (h : lft μ v n) (h0 : 0 ≤ n) (hU : mU μ 165 n.toNat b μ1) (h1 : ¬ b = 1 ∨ 0 ≤ μ1 126 (160 + 40 * n).toNat) (h2 : b = 1 ∨ ¬ (0 ≤ μ1 126 (160 + 40 * n).toNat ∧ 0 < μ1 126 (164 + 40 * n).toNat ∧ μ1 126 (166 + 40 * n).toNat = v)) : lft μ1 v (n + 1) := by
  refine ⟨h.1.put h0 hU rfl rfl h1, fun i hi hin a1 a2 a3 => ?_⟩
  by_cases he : i = n
  · subst he
    rw [hU.1]; exact h2.resolve_right (fun k => k ⟨a1, a2, a3⟩)
  · rw [hU.2 165 i.toNat (Or.inr (by omega))]
    rw [hU.2 126 _ (Or.inl (by decide))] at a1 a2 a3
    exact h.2 i hi (by omega) a1 a2 a3
theorem lft.p1 {μ μ1 : mM} {v n b f x : Int} (h : lft μ v n) (h0 : 0 ≤ n) (hU : mU μ 165 n.toNat b μ1) (hb : b = 1) (hf : f = 160 + 40 * n) (q : μ1 126 f.toNat = x) (hx : 0 ≤ x) : lft μ1 v (n + 1) :=
  h.put h0 hU (Or.inr (by rw [← hf, q]; exact hx)) (Or.inl hb)
theorem lft.z1 {μ μ1 : mM} {v n b f x : Int} (h : lft μ v n) (h0 : 0 ≤ n) (hU : mU μ 165 n.toNat b μ1) (hb : ¬ b = 1) (hf : f = 160 + 40 * n) (q : μ1 126 f.toNat = x) (hx : x < 0) : lft μ1 v (n + 1) :=
  h.put h0 hU (Or.inl hb) (Or.inr (fun k => by have := k.1; rw [← hf, q] at this; omega))
theorem lft.z2 {μ μ1 : mM} {v n b f x : Int} (h : lft μ v n) (h0 : 0 ≤ n) (hU : mU μ 165 n.toNat b μ1) (hb : ¬ b = 1) (hf : f = 164 + 40 * n) (q : μ1 126 f.toNat = x) (hx : x ≤ 0) : lft μ1 v (n + 1) :=
  h.put h0 hU (Or.inl hb) (Or.inr (fun k => by have := k.2.1; rw [← hf, q] at this; omega))
theorem lft.z3 {μ μ1 : mM} {v n b f x : Int} (h : lft μ v n) (h0 : 0 ≤ n) (hU : mU μ 165 n.toNat b μ1) (hb : ¬ b = 1) (hf : f = 166 + 40 * n) (q : μ1 126 f.toNat = x) (hx : ¬ x = v) : lft μ1 v (n + 1) :=
  h.put h0 hU (Or.inl hb) (Or.inr (fun k => by have := k.2.2; rw [← hf, q] at this; exact hx this))
theorem lft.some {μ : mM} {v n k z : Int} (hl : lft μ v k) (hk : n ≤ k) (hh : hit μ n v) (hb : bestOK μ n z) (hz : z < n) (h0 : z = -99999999 ∨ (0 ≤ z ∧ z ≤ 19)) : 0 ≤ z ∧ wOK μ z := by
  obtain ⟨i, i0, i1, i2, i3, i4⟩ := hh
  have hi := hl.2 i i0 (by omega) i2 i3 i4
  rcases h0 with h0 | h0
  · exact absurd hi (hb.2 h0 i i0 i1)
  · refine ⟨h0.1, leftOK.best (n := n) (fun j j0 j1 => hl.1 j j0 (by omega)) hb hz (Or.inr h0)⟩
