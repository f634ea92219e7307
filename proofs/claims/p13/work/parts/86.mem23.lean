/-! The class's reader: what stands in the code row. -/
def preL (μ : mM) (n : Int) (μ1 : mM) : Prop := ∀ k : Nat, (k : Int) < n → μ1 27 k = μ 27 k
theorem preL.refl {μ : mM} {n : Int} : preL μ n μ := fun _ _ => rfl
theorem preL.trans {μ μ1 μ2 : mM} {n m : Int} (h : preL μ n μ1) (g : preL μ1 m μ2) (hm : n ≤ m) : preL μ n μ2 := fun k hk => (g k (by omega)).trans (h k hk)
theorem preL.fr {l : List Nat} {w : mW} {μ μ1 μ2 : mM} {n : Int} (h : preL μ n μ1) (hw : mWF w) (hF : mF l w μ1 μ2) (hl : l.elem 27999 = false) : preL μ n μ2 := fun k hk => (hF.f (z := μ1 27 k) (A_27 hw) hl rfl).trans (h k hk)
theorem preL.up {μ μ1 μ2 : mM} {n e z : Int} (h : preL μ n μ1) (u : mU μ1 27 e.toNat z μ2) (he : 0 ≤ e ∧ n ≤ e) : preL μ n μ2 := fun k hk => (u.2 27 k (Or.inr (by omega))).trans (h k hk)
theorem preL.upO {μ μ1 μ2 : mM} {n z : Int} {a k : Nat} (h : preL μ n μ1) (u : mU μ1 a k z μ2) (ha : 27 ≠ a) : preL μ n μ2 := fun j hj => (u.2 27 j (Or.inl ha)).trans (h j hj)
theorem preL.f {μ μ1 : mM} {n e z : Int} (h : preL μ n μ1) (he : 0 ≤ e ∧ e < n) (q : μ 27 e.toNat = z) : μ1 27 e.toNat = z := (h e.toNat (by omega)).trans q
theorem preL.le {μ μ1 : mM} {n m : Int} (h : preL μ n μ1) (hm : m ≤ n) : preL μ m μ1 := fun k hk => h k (by omega)
def argA (μ : mM) (b k : Int) : Prop := ∀ i : Int, 0 ≤ i → i < k → 0 ≤ μ 27 (b + 2 * i + 1).toNat ∧ μ 27 (b + 2 * i + 1).toNat ≤ 1000000
theorem argA.zero {μ : mM} {b : Int} : argA μ b 0 := fun i h0 h1 => by omega
theorem argA.pre {μ μ1 : mM} {b k n : Int} (h : argA μ b k) (g : preL μ n μ1) (hb : 0 ≤ b) (hn : b + 2 * k ≤ n) : argA μ1 b k := fun i h0 h1 => by
  rw [g _ (by omega)]; exact h i h0 h1
theorem argA.succ {μ : mM} {b k e z : Int} (h : argA μ b k) (he : e = b + 2 * k + 1) (q : μ 27 e.toNat = z) (hz : 0 ≤ z ∧ z ≤ 1000000) : argA μ b (k + 1) := fun i h0 h1 => by
  by_cases hk : i = k
  · rw [hk, ← he, q]; exact hz
  · exact h i h0 (by omega)
theorem argA.up {μ μ1 : mM} {b k e z : Int} (h : argA μ b k) (u : mU μ 27 e.toNat z μ1) (he : 0 ≤ e ∧ e < b) : argA μ1 b k := fun i h0 h1 => by
  rw [u.2 27 _ (Or.inr (by omega))]; exact h i h0 h1
theorem argA.fr {l : List Nat} {w : mW} {μ μ1 : mM} {b k : Int} (h : argA μ b k) (hw : mWF w) (hF : mF l w μ μ1) (hl : l.elem 27999 = false) : argA μ1 b k := fun i h0 h1 => by
  rw [hF.f (z := μ 27 (b + 2 * i + 1).toNat) (A_27 hw) hl rfl]; exact h i h0 h1
def wfF (f : Nat → Int) : Nat → Nat → Prop
  | 0, c => c = 0
  | n + 1, c => ∃ h, wfF f n h ∧ 0 ≤ f h ∧ 0 ≤ f (h + 1) ∧ c = h + 2 + 5 * (f h).toNat + 2 * (f (h + 1)).toNat ∧ ∀ i, i < (f (h + 1)).toNat → 0 ≤ f (h + 2 + 5 * (f h).toNat + 2 * i + 1) ∧ f (h + 2 + 5 * (f h).toNat + 2 * i + 1) ≤ 1000000
theorem wfF.cong {f g : Nat → Int} : ∀ {n c : Nat}, wfF f n c → (∀ k, k < c → g k = f k) → wfF g n c
  | 0, _, h, _ => h
  | n + 1, c, ⟨h, h1, h2, h3, h4, h5⟩, e => by
    have e0 : g h = f h := e h (by omega)
    have e1 : g (h + 1) = f (h + 1) := e (h + 1) (by omega)
    refine ⟨h, wfF.cong h1 (fun k hk => e k (by omega)), by rw [e0]; exact h2, by rw [e1]; exact h3, by rw [e0, e1]; exact h4, fun i hi => ?_⟩
    rw [e1] at hi
    rw [e0, e (h + 2 + 5 * (f h).toNat + 2 * i + 1) (by omega)]
    exact h5 i hi
theorem wfF.toR {f : Nat → Int} {len : Nat} : ∀ {n c m : Nat}, wfF f n c → wfR f len c m → wfR f len 0 (n + m)
  | 0, c, m, h, g => by
    have h : c = 0 := h
    subst h; rw [Nat.zero_add]; exact g
  | n + 1, c, m, ⟨h, h1, h2, h3, h4, h5⟩, g => by
    have hc : c ≤ len := by
      cases m with
      | zero => exact g
      | succ m => have := g.1; omega
    have := wfF.toR (len := len) (m := m + 1) h1 (show wfR f len h (m + 1) from ⟨by omega, h2, h3, by omega, h5, by rw [← h4]; exact g⟩)
    have e : n + 1 + m = n + (m + 1) := by omega
    rw [e]; exact this
theorem wfF.fin {f : Nat → Int} {n c : Nat} (h : wfF f n c) : wfR f c 0 n := by
  have := wfF.toR (len := c) (m := 0) h (Nat.le_refl c)
  rw [Nat.add_zero] at this; exact this
theorem wfF.row {μ μ1 : mM} {n h t k c m : Int} (g : wfF (μ 27) n.toNat h.toNat) (hn : 0 ≤ n) (hh : 0 ≤ h) (p : preL μ h μ1) (e : Int) (he : e = h + 1) (qt : μ1 27 h.toNat = t) (qk : μ1 27 e.toNat = k) (ht : 0 ≤ t) (hk : 0 ≤ k) (b : Int) (hb : b = h + 2 + 5 * t) (ha : argA μ1 b k) (hc : c = b + 2 * k) (hm : m = n + 1) : wfF (μ1 27) m.toNat c.toNat := by
  have e1 : m.toNat = n.toNat + 1 := by omega
  have e2 : h.toNat + 1 = e.toNat := by omega
  rw [e1]
  refine ⟨h.toNat, g.cong (fun j hj => p j (by omega)), by rw [qt]; exact ht, by rw [e2, qk]; exact hk, by rw [e2, qt, qk]; omega, fun i hi => ?_⟩
  rw [e2, qk] at hi
  have := ha i (by omega) (by omega)
  have e3 : (b + 2 * (i : Int) + 1).toNat = h.toNat + 2 + 5 * t.toNat + 2 * i + 1 := by omega
  rw [e3] at this
  rw [qt]; exact this
theorem wfF.zero {f : Nat → Int} {n c : Int} (hn : n = 0) (hc : c = 0) : wfF f n.toNat c.toNat := by subst hn; subst hc; exact rfl
theorem wfF.cg {f : Nat → Int} {n c n' c' : Int} (h : wfF f n.toNat c.toNat) (hn : n' = n) (hc : c' = c) : wfF f n'.toNat c'.toNat := by rw [hn, hc]; exact h
theorem argV {μ : mM} {e x c : Int} (h : 2000 ≤ e ∨ μ 27 e.toNat = x) (he : 1990 ≤ c ∨ e = c + 1) (hx : 0 ≤ x ∧ x ≤ 1000000) : 1990 ≤ c ∨ (0 ≤ μ 27 (c + 1).toNat ∧ μ 27 (c + 1).toNat ≤ 1000000) := by
  rcases he with he | he
  · exact Or.inl he
  · rcases h with h | h
    · exact Or.inl (by omega)
    · rw [← he, h]; exact Or.inr hx
