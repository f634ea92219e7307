/-! What the reference keeps of its routes and policies. -/
def G1 (μ : mM) : Prop := (μ 106 70 = 0 ∨ 0 ≤ μ 126 0) ∧ ∀ k : Nat, k < 100 → μ 161 k = -99999999 ∨ 0 ≤ μ 126 (1200 + 40 * k)
theorem G1.keep {l : List Nat} {w : mW} {μ μ1 : mM} {rs : List (Int × Int)} (h : G1 μ) (hw : mWF w) (hF : mF l w μ μ1) (hl1 : l.elem 106070 = false) (hl2 : l.elem 161999 = false) (hG : mG rs μ μ1) (hrs : ∀ r ∈ rs, (1 ≤ r.1 ∧ r.2 ≤ 1200) ∨ 5200 ≤ r.1) : G1 μ1 := by
  have e1 : μ1 106 70 = μ 106 70 := hF.f (A_106 hw) hl1 rfl
  have e2 : ∀ k, μ1 161 k = μ 161 k := fun k => hF.f (A_161 hw) hl2 rfl
  have e3 : μ1 126 0 = μ 126 0 := hG 0 (fun r hr => by rcases hrs r hr with q | q <;> omega)
  have e4 : ∀ k : Nat, k < 100 → μ1 126 (1200 + 40 * k) = μ 126 (1200 + 40 * k) := fun k hk => hG _ (fun r hr => by rcases hrs r hr with q | q <;> omega)
  refine ⟨by rw [e1, e3]; exact h.1, fun k hk => ?_⟩
  rw [e2, e4 k hk]; exact h.2 k hk
theorem G1.at {μ : mM} {e z x : Int} {f : Int} (h : G1 μ) (h0 : 0 ≤ e ∧ e ≤ 99) (q : μ 161 e.toNat = z) (hf : f = 1200 + 40 * e) (r : μ 126 f.toNat = x) : z = -99999999 ∨ 0 ≤ x := by
  have := h.2 e.toNat (by omega)
  have e1 : 1200 + 40 * e.toNat = f.toNat := by omega
  rw [q, e1, r] at this; exact this
theorem G1.hand {μ : mM} {z x : Int} (h : G1 μ) (q : μ 106 70 = z) (r : μ 126 (0 : Int).toNat = x) : z = 0 ∨ 0 ≤ x := by
  have := h.1
  have e : (0 : Int).toNat = 0 := rfl
  rw [e] at r
  rw [q, r] at this; exact this
/-- a route was put into the hand -/
theorem G1.take {l : List Nat} {w : mW} {μ μ1 : mM} {rs : List (Int × Int)} {x : Int} (h : G1 μ) (hw : mWF w) (hF : mF l w μ μ1) (hl2 : l.elem 161999 = false) (hG : mG rs μ μ1) (hrs : ∀ r ∈ rs, r.2 ≤ 1200 ∨ 5200 ≤ r.1) (hx : μ1 126 (0 : Int).toNat = x) (hp : 0 ≤ x) : G1 μ1 := by
  have e2 : ∀ k, μ1 161 k = μ 161 k := fun k => hF.f (A_161 hw) hl2 rfl
  have e4 : ∀ k : Nat, k < 100 → μ1 126 (1200 + 40 * k) = μ 126 (1200 + 40 * k) := fun k hk => hG _ (fun r hr => by rcases hrs r hr with q | q <;> omega)
  refine ⟨Or.inr (by have e : (0 : Int).toNat = 0 := rfl; rw [e] at hx; omega), fun k hk => ?_⟩
  rw [e2, e4 k hk]; exact h.2 k hk
/-- a route was picked -/
theorem G1.look {w : mW} {μ μ1 μ2 : mM} {e f t x : Int} (h : G1 μ) (hw : mWF w) (h0 : 0 ≤ e ∧ e ≤ 99) (hU : mU μ 161 e.toNat t μ1) (hF : mF [126999] w μ1 μ2) (hf : f = 1200 + 40 * e) (hG : mG [(f, f + 40)] μ1 μ2) (hx : μ2 126 f.toNat = x) (ht : t = -99999999 ∨ 0 ≤ x) : G1 μ2 := by
  have a1 : μ2 106 70 = μ 106 70 := (hF.f (A_106 hw) rfl rfl).trans (hU.2 106 70 (Or.inl (by decide)))
  have a2 : ∀ i : Nat, ((i : Int) < f ∨ f + 40 ≤ (i : Int)) → μ2 126 i = μ 126 i := fun i hi => (hG i (fun r hr => by
    rcases List.mem_cons.mp hr with rfl | hr
    · exact hi
    · cases hr)).trans (hU.2 126 i (Or.inl (by decide)))
  refine ⟨by rw [a1, a2 0 (by left; omega)]; exact h.1, fun k hk => ?_⟩
  have a3 : μ2 161 k = μ1 161 k := hF.f (A_161 hw) rfl rfl
  by_cases hke : (k : Int) = e
  · have : e.toNat = k := by omega
    rw [a3, ← this, hU.1]
    have e2 : 1200 + 40 * e.toNat = f.toNat := by omega
    rw [e2, hx]; exact ht
  · rw [a3, hU.2 161 k (Or.inr (fun q => hke (by omega))), a2 (1200 + 40 * k) (by omega)]
    exact h.2 k hk
def polT (μ : mM) (p : Nat) : Prop := (∀ r : Nat, (r : Int) < μ 127 p → μ 129 (31 * p + r) ≤ μ 129 (31 * p + r + 1) ∧ μ 129 (31 * p + r + 1) ≤ μ 131 p) ∧ ∀ c : Nat, (c : Int) < μ 131 p → μ 140 (300 * p + c) = 28 → 0 ≤ μ 141 (300 * p + c) ∧ μ 141 (300 * p + c) < (p : Int)
def PK (μ : mM) : Prop := (∀ i : Nat, i < 80 → (i : Int) < 4 * μ 106 6 → μ 115 i = -99999999 ∨ (0 ≤ μ 115 i ∧ μ 115 i < μ 106 39)) ∧ ∀ p : Nat, (p : Int) < μ 106 39 → polT μ p
def pkFree (l : List Nat) : Bool := !(l.elem 115999) && (!(l.elem 106006) && (!(l.elem 106039) && (!(l.elem 127999) && (!(l.elem 129999) && (!(l.elem 131999) && (!(l.elem 140999) && !(l.elem 141999)))))))
theorem PK.keep {l : List Nat} {w : mW} {μ μ1 : mM} (h : PK μ) (hw : mWF w) (hF : mF l w μ μ1) (hl : pkFree l = true) : PK μ1 := by
  simp only [pkFree, Bool.and_eq_true, Bool.not_eq_true'] at hl
  obtain ⟨l1, l8, l2, l3, l4, l5, l6, l7⟩ := hl
  have e8 : μ1 106 6 = μ 106 6 := hF.f (A_106 hw) l8 rfl
  have e1 : μ1 115 = μ 115 := funext fun i => hF.f (A_115 hw) l1 rfl
  have e2 : μ1 106 39 = μ 106 39 := hF.f (A_106 hw) l2 rfl
  have e3 : μ1 127 = μ 127 := funext fun i => hF.f (A_127 hw) l3 rfl
  have e4 : μ1 129 = μ 129 := funext fun i => hF.f (A_129 hw) l4 rfl
  have e5 : μ1 131 = μ 131 := funext fun i => hF.f (A_131 hw) l5 rfl
  have e6 : μ1 140 = μ 140 := funext fun i => hF.f (A_140 hw) l6 rfl
  have e7 : μ1 141 = μ 141 := funext fun i => hF.f (A_141 hw) l7 rfl
  unfold PK polT at h ⊢
  rw [e1, e2, e3, e4, e5, e6, e7, e8]; exact h
theorem PK.pol {μ : mM} {e z n t : Int} (h : PK μ) (h0 : 0 ≤ e ∧ e < 80) (q : μ 115 e.toNat = z) (r : μ 106 39 = n) (qt : μ 106 6 = t) (ht : e < 4 * t) : z = -99999999 ∨ (0 ≤ z ∧ z < n) := by
  have := h.1 e.toNat (by omega) (by omega)
  rw [q, r] at this; exact this
theorem pk_use {μ : mM} {z e x : Int} (h : z = -99999999 ∨ 0 ≤ μ 126 (160 + 40 * z).toNat) (hn : ¬ z = -99999999) (he : 160 + 40 * z = e) (q : μ 126 e.toNat = x) : 0 ≤ x := by
  have := h.resolve_left hn
  rw [he, q] at this; exact this
theorem PK.use {μ μ1 : mM} {e z n : Int} (h : PK μ) (hU : mU μ 115 e.toNat z μ1) (q : μ 106 39 = n) (hz : z = -99999999 ∨ (0 ≤ z ∧ z < n)) : PK μ1 := by
  have e2 : μ1 106 39 = μ 106 39 := hU.2 106 39 (Or.inl (by decide))
  have e3 : μ1 127 = μ 127 := funext fun i => hU.2 127 i (Or.inl (by decide))
  have e4 : μ1 129 = μ 129 := funext fun i => hU.2 129 i (Or.inl (by decide))
  have e5 : μ1 131 = μ 131 := funext fun i => hU.2 131 i (Or.inl (by decide))
  have e6 : μ1 140 = μ 140 := funext fun i => hU.2 140 i (Or.inl (by decide))
  have e7 : μ1 141 = μ 141 := funext fun i => hU.2 141 i (Or.inl (by decide))
  have e8 : μ1 106 6 = μ 106 6 := hU.2 106 6 (Or.inl (by decide))
  refine ⟨fun i hi ht => ?_, ?_⟩
  · by_cases hk : i = e.toNat
    · rw [hk, hU.1, e2, q]; exact hz
    · rw [hU.2 115 i (Or.inr hk), e2]; exact h.1 i hi (by rw [← e8]; exact ht)
  · have := h.2
    unfold polT at this ⊢
    rw [e2, e3, e4, e5, e6, e7]; exact this
/-- the new tie's four entries -/
def pnT (μ : mM) (t L : Int) : Prop := ∀ k : Int, 0 ≤ k → k < L → μ 115 (4 * t + k).toNat = -99999999
theorem pnT.zero {μ : mM} {t L : Int} (h : L = 0) : pnT μ t L := fun k h0 h1 => by omega
theorem pnT.succ {μ μ1 : mM} {t L e z L1 : Int} (h : pnT μ t L) (hU : mU μ 115 e.toNat z μ1) (he : e = 4 * t + L) (h0 : 0 ≤ t ∧ 0 ≤ L) (hz : z = -99999999) (hL : L1 = L + 1) : pnT μ1 t L1 := fun k k0 k1 => by
  by_cases hk : k = L
  · rw [hk, ← he, hU.1, hz]
  · rw [hU.2 115 _ (Or.inr (by omega))]; exact h k k0 (by omega)
theorem PK.grow {μ μ1 : mM} {t z L : Int} (h : PK μ) (q : μ 106 6 = t) (hU : mU μ 106 6 z μ1) (hz : z = t + 1) (ht : 0 ≤ t) (hn : pnT μ t L) (hL : L = 4) : PK μ1 := by
  have f : ∀ a j, a ≠ 106 → μ1 a j = μ a j := fun a j ha => hU.2 a j (Or.inl ha)
  have e2 : μ1 106 39 = μ 106 39 := hU.2 106 39 (Or.inr (by decide))
  refine ⟨fun i hi hi2 => ?_, fun p hp => ?_⟩
  · rw [f 115 i (by decide), e2]
    by_cases g : (i : Int) < 4 * t
    · exact h.1 i hi (by rw [q]; exact g)
    · left
      have := hn ((i : Int) - 4 * t) (by omega) (by rw [hU.1] at hi2; omega)
      rw [show (4 * t + ((i : Int) - 4 * t)).toNat = i by omega] at this
      exact this
  · rw [e2] at hp
    have := h.2 p hp
    unfold polT at this ⊢
    have f1 : μ1 127 = μ 127 := funext fun i => f 127 i (by decide)
    have f2 : μ1 129 = μ 129 := funext fun i => f 129 i (by decide)
    have f3 : μ1 131 = μ 131 := funext fun i => f 131 i (by decide)
    have f4 : μ1 140 = μ 140 := funext fun i => f 140 i (by decide)
    have f5 : μ1 141 = μ 141 := funext fun i => f 141 i (by decide)
    rw [f1, f2, f3, f4, f5]; exact this
