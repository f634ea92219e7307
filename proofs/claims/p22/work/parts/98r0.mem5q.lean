/-! Lists of regions that a frame leaves alone. -/
theorem qA_no {q lf : List Nat} {r : Nat} (h : (q.all fun r => !lf.elem r) = true) (hr : q.elem r = true) : lf.elem r = false := by
  have := List.all_eq_true.mp h r (List.elem_iff.mp hr)
  simpa using this
theorem qA_le {q q' lf : List Nat} (h : (q.all fun r => !lf.elem r) = true) (hs : (q'.all fun r => q.elem r) = true) : (q'.all fun r => !lf.elem r) = true := by
  refine List.all_eq_true.mpr fun r hr => ?_
  exact List.all_eq_true.mp h r (List.elem_iff.mp (List.all_eq_true.mp hs r hr))
theorem tcAt {w : mW} {μ : mM} (hw : mWF w) (hT : mT w μ) {i : Nat} (hi : (i : Int) < μ 6 16) : mAt w (μ 11 i).toNat 220 := by
  have h6 : μ 6 16 = w.2.2.2 1 ∧ 0 ≤ μ 6 16 ∧ μ 6 16 ≤ 20 := hT 6 6 (A_6 hw) 16
  have h : ((i : Int) < w.2.2.2 1 → 0 ≤ μ 11 i ∧ mAt w (μ 11 i).toNat 220) ∧ (¬ (i : Int) < w.2.2.2 1 → μ 11 i = -1) := hT 11 11 (A_11 hw) i
  exact (h.1 (by omega)).2
