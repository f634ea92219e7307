/-! Policies of the class as they must be kept: rows one behind another in their code. -/
def wfR (m : Nat → Int) (len : Nat) : Nat → Nat → Prop
  | at_, 0 => at_ ≤ len
  | at_, n + 1 => at_ + 1 < len ∧ 0 ≤ m at_ ∧ 0 ≤ m (at_ + 1) ∧ at_ + 2 + 5 * (m at_).toNat + 2 * (m (at_ + 1)).toNat ≤ len ∧ (∀ i, i < (m (at_ + 1)).toNat → 0 ≤ m (at_ + 2 + 5 * (m at_).toNat + 2 * i + 1) ∧ m (at_ + 2 + 5 * (m at_).toNat + 2 * i + 1) ≤ 1000000) ∧ wfR m len (at_ + 2 + 5 * (m at_).toNat + 2 * (m (at_ + 1)).toNat) n
/-- the policy at address b -/
def wfP (w : mW) (μ : mM) (b : Nat) : Prop := mAt w b 230 ∧ mAt w (μ b 1).toNat 231 ∧ wfR (μ (μ b 1).toNat) (w.2.2.1 (μ b 1).toNat) 0 (μ b 0).toNat ∧ w.2.2.1 (μ b 2).toNat = w.2.2.1 (μ b 3).toNat ∧ w.2.2.1 (μ b 4).toNat = w.2.2.1 (μ b 5).toNat
def PC (w : mW) (μ : mM) : Prop := ∀ p : Nat, (p : Int) < w.2.2.2 2 → wfP w μ (μ 22 p).toNat
def pcFree (l : List Nat) : Bool := !(l.elem 22999) && (!(l.elem 230000) && (!(l.elem 230001) && (!(l.elem 230002) && (!(l.elem 230003) && (!(l.elem 230004) && (!(l.elem 230005) && !(l.elem 231999)))))))
theorem PC.keep {l : List Nat} {w : mW} {μ μ1 : mM} (h : PC w μ) (hw : mWF w) (hF : mF l w μ μ1) (hl : pcFree l = true) : PC w μ1 := by
  simp only [pcFree, Bool.and_eq_true, Bool.not_eq_true'] at hl
  obtain ⟨l1, l2, l3, l4, l5, l6, l7, l8⟩ := hl
  intro p hp
  have e22 : μ1 22 p = μ 22 p := hF.f (A_22 hw) l1 rfl
  rw [e22]
  obtain ⟨hA, hA1, h1, h2, h3⟩ := h p hp
  have f0 : μ1 (μ 22 p).toNat 0 = μ (μ 22 p).toNat 0 := hF.f hA l2 rfl
  have f1 : μ1 (μ 22 p).toNat 1 = μ (μ 22 p).toNat 1 := hF.f hA l3 rfl
  have f2 : μ1 (μ 22 p).toNat 2 = μ (μ 22 p).toNat 2 := hF.f hA l4 rfl
  have f3 : μ1 (μ 22 p).toNat 3 = μ (μ 22 p).toNat 3 := hF.f hA l5 rfl
  have f4 : μ1 (μ 22 p).toNat 4 = μ (μ 22 p).toNat 4 := hF.f hA l6 rfl
  have f5 : μ1 (μ 22 p).toNat 5 = μ (μ 22 p).toNat 5 := hF.f hA l7 rfl
  have fc : μ1 (μ (μ 22 p).toNat 1).toNat = μ (μ (μ 22 p).toNat 1).toNat := funext fun i => hF.f hA1 l8 rfl
  refine ⟨hA, by rw [f1]; exact hA1, by rw [f0, f1, fc]; exact h1, by rw [f2, f3]; exact h2, by rw [f4, f5]; exact h3⟩
def OC (μ : mM) : Prop := 0 ≤ μ 76 4
theorem OC.keep {l : List Nat} {w : mW} {μ μ1 : mM} (h : OC μ) (hw : mWF w) (hF : mF l w μ μ1) (hl : l.elem 76004 = false) : OC μ1 := by
  have e : μ1 76 4 = μ 76 4 := hF.f (A_76 hw) hl rfl
  simp only [OC, e]; exact h
def RT (μ : mM) : Prop := 0 ≤ μ 21 2
theorem RT.keep {l : List Nat} {w : mW} {μ μ1 : mM} (h : RT μ) (hw : mWF w) (hF : mF l w μ μ1) (hl : l.elem 21002 = false) : RT μ1 := by
  have e : μ1 21 2 = μ 21 2 := hF.f (A_21 hw) hl rfl
  simp only [RT, e]; exact h
