/-! Small facts for the class. -/
theorem wG_XI_265 : Cond.constant "java/lang/Integer" 265 1431655765 ∈ lw_ok := lw_i4 185 rfl rfl
theorem wG_XI_266 : Cond.constant "java/lang/Integer" 266 858993459 ∈ lw_ok := lw_i4 186 rfl rfl
theorem wG_XI_267 : Cond.constant "java/lang/Integer" 267 252645135 ∈ lw_ok := lw_i4 187 rfl rfl
theorem tieEnd {μ : mM} {z p : Int} {c : Nat} (h : z < 0 ∨ ∃ b : Nat, μ 11 z.toNat = (b : Int) ∧ (μ b 0 = p ∨ μ b 1 = p)) (hz : ¬ z < 0) (q : μ 11 z.toNat = (c : Int)) : μ c 0 = p ∨ μ c 1 = p := by
  obtain ⟨b, h1, h2⟩ := h.resolve_left hz
  have e : b = c := by rw [h1] at q; omega
  rw [← e]; exact h2
