/-! All that stands between the calls, of the reference. -/
section UIT
variable {l : Launch} {D : va_G} {c : Nat → ClassId} {H0 : Heap} {sa : Nat × Nat × (Nat → Int32)} {w : mW} {μ μ1 : mM}
def UI (l : Launch) (D : va_G) (c : Nat → ClassId) (H0 : Heap) (sa : Nat × Nat × (Nat → Int32)) (μ : mM) : Prop := JC l D c H0 sa μ ∧ RP μ ∧ EP μ ∧ HP μ ∧ UP l D c H0 sa μ ∧ TE μ ∧ RR μ
def uiA (a : Nat) : Bool := (Nat.ble 108 a && Nat.ble a 112) || (Nat.beq a 115 || ((Nat.ble 119 a && Nat.ble a 129) || ((Nat.ble 132 a && Nat.ble a 144) || (Nat.beq a 157 || (Nat.beq a 159 || Nat.beq a 161)))))
def uiI (i : Nat) : Bool := Nat.beq i 2 || (Nat.beq i 5 || (Nat.beq i 6 || (Nat.beq i 17 || (Nat.beq i 18 || ((Nat.ble 26 i && Nat.ble i 31) || Nat.beq i 39)))))
theorem UI.eq (h : UI l D c H0 sa μ) (e1 : ∀ i : Nat, uiI i = true → μ1 106 i = μ 106 i) (e2 : ∀ a i : Nat, uiA a = true → μ1 a i = μ a i) : UI l D c H0 sa μ1 := by
  obtain ⟨h1, h2, h3, h4, h5, h6, h7⟩ := h
  have eA : ∀ a i : Nat, ((108 ≤ a ∧ a ≤ 112) ∨ a = 115 ∨ (119 ≤ a ∧ a ≤ 129) ∨ (132 ≤ a ∧ a ≤ 144) ∨ a = 157 ∨ a = 159 ∨ a = 161) → μ1 a i = μ a i := fun a i k => e2 a i (by
    simp only [uiA, Bool.or_eq_true, Bool.and_eq_true, Nat.ble_eq, Nat.beq_eq]; exact k)
  have a2 := e1 2 rfl
  have a5 := e1 5 rfl
  have a6 := e1 6 rfl
  have a17 := e1 17 rfl
  have a18 := e1 18 rfl
  have a39 := e1 39 rfl
  have aJ : ∀ i : Nat, 26 ≤ i → i ≤ 31 → μ1 106 i = μ 106 i := fun i x y => e1 i (by
    simp only [uiI, Bool.or_eq_true, Bool.and_eq_true, Nat.ble_eq, Nat.beq_eq]; omega)
  have sj : ∀ p : Int, agr (SJ μ p) μ μ1 := fun p a i s => by
    rcases s with ⟨rfl, rfl⟩ | ⟨s1, s2, -⟩ | ⟨s1, -⟩
    · exact a18
    · exact eA a i (by omega)
    · exact eA a i (by omega)
  refine ⟨h1.of (Int.le_of_eq a2.symm) aJ fun _ _ => sj _, fun r x y => ?_, fun s x y q => ?_, fun s x y q => ?_, fun d p x y x' y' _ q t ta tb tq => ?_, fun i x => ?_, fun i x => ?_⟩
  · rw [eA 126 _ (by omega), a2]; exact h2 r x y
  · rw [eA 157 _ (by omega), eA 159 _ (by omega)] at q
    rw [a2, eA 112 _ (by omega)]; exact h3 s x y q
  · rw [eA 126 _ (by omega)] at q
    rw [a2, a6, eA 112 _ (by omega)]; exact h4 s x y q
  · rw [a5] at y
    rw [a2] at y'
    rw [eA 161 _ (by omega)] at q
    rw [a6] at tb
    rw [eA 110 _ (by omega), eA 110 _ (by omega)] at tq
    refine (h5 d p x y x' y' id q t ta tb tq).keep ta x' (fun a i s => ?_) (Int.le_of_eq a39.symm)
    rcases s with ⟨rfl, -⟩ | ⟨rfl, -⟩ | ⟨rfl, -⟩ | ⟨rfl, -⟩ | ⟨rfl, -⟩ | ⟨s, -⟩ | ⟨s, -⟩ | ⟨s, -⟩ | ⟨s, -⟩ | ⟨rfl, rfl⟩ | s
    · exact eA _ i (by omega)
    · exact eA _ i (by omega)
    · exact eA _ i (by omega)
    · exact eA _ i (by omega)
    · exact eA _ i (by omega)
    · exact eA _ i (by omega)
    · exact eA _ i (by omega)
    · exact eA _ i (by omega)
    · exact eA _ i (by omega)
    · exact a17
    · exact sj _ a i s
  · rw [a6] at x
    rw [eA 110 _ (by omega), a5]; exact h6 i x
  · rw [a18] at x
    rw [eA 119 _ (by omega), a2]; exact h7 i x
theorem UI.sm (h : UI l D c H0 sa μ) (s : sM_ μ μ1) : UI l D c H0 sa μ1 := by
  refine h.eq (fun i k => s.1 i ?_) (fun a i k => ?_)
  · simp only [uiI, Bool.or_eq_true, Bool.and_eq_true, Nat.ble_eq, Nat.beq_eq] at k; omega
  · simp only [uiA, Bool.or_eq_true, Bool.and_eq_true, Nat.ble_eq, Nat.beq_eq] at k
    rw [s.2 a (by omega) (by omega)]
theorem sM_.ofF {lf : List Nat} (hw : mWF w) (F : mF lf w μ μ1) (h : isC lf = true) : sM_ μ μ1 := sM_.of hw (mX.fr (l := lf) mX.refl F (List.all_eq_true.mpr fun x hx => List.elem_iff.mpr hx)) h
/-- a step of the reference that touches nothing of it -/
def uiF (lf : List Nat) : Bool := lf.all fun x => !(Nat.ble 106000 x && Nat.blt x 107000 && uiI (x - 106000)) && !(uiA (x / 1000))
theorem UI.fr {lf : List Nat} (h : UI l D c H0 sa μ) (hw : mWF w) (F : mF lf w μ μ1) (hl : uiF lf = true) : UI l D c H0 sa μ1 := by
  have hall : ((List.range 192).all fun a => !(uiA a) || (Nat.beq (mSh0 a) a && mArr a)) = true := by decide +kernel
  have no : ∀ x : Nat, (Nat.ble 106000 x && Nat.blt x 107000 && uiI (x - 106000)) = true ∨ uiA (x / 1000) = true → lf.elem x = false := fun x hx => by
    cases hq : lf.elem x with
    | false => rfl
    | true =>
      have g := List.all_eq_true.mp hl x (List.elem_iff.mp hq)
      simp only [Bool.and_eq_true, Bool.not_eq_true'] at g
      rcases hx with hx | hx
      · rw [g.1] at hx; cases hx
      · rw [g.2] at hx; cases hx
  refine h.eq (fun i k => ?_) (fun a i k => ?_)
  · refine F 106 i ?_
    have e : mRg w 106 i = 106000 + i := by simp only [mRg, (A_106 hw).1]; rfl
    rw [e]
    have hi : i < 1000 := by simp only [uiI, Bool.or_eq_true, Bool.and_eq_true, Nat.ble_eq, Nat.beq_eq] at k; omega
    refine no _ (Or.inl ?_)
    rw [show 106000 + i - 106000 = i by omega, k, Nat.ble_eq_true_of_le (by omega), show Nat.blt (106000 + i) 107000 = true from Nat.ble_eq_true_of_le (by omega)]; rfl
  · have ha : a < 192 := by simp only [uiA, Bool.or_eq_true, Bool.and_eq_true, Nat.ble_eq, Nat.beq_eq] at k; omega
    have g := List.all_eq_true.mp hall a (List.mem_range.mpr ha)
    rw [k] at g
    simp only [Bool.not_true, Bool.false_or, Bool.and_eq_true] at g
    have es : w.2.1 a = a := (hw.1 a ha).trans (Nat.eq_of_beq_eq_true g.1)
    refine F a i ?_
    unfold mRg; rw [es, g.2]
    refine no _ (Or.inr ?_)
    show uiA ((1000 * a + 999) / 1000) = true
    rw [show (1000 * a + 999) / 1000 = a by omega]; exact k
theorem UI.dom (h : UI l D c H0 sa μ) (hw : mWF w) (hT1 : mT w μ1) (F : mF [106005] w μ μ1) (hd : μ 106 5 ≤ μ1 106 5) : UI l D c H0 sa μ1 := by
  obtain ⟨h1, h2, h3, h4, h5, h6, h7⟩ := h
  exact ⟨h1.keepJ hw F rfl, h2.keep (rs := []) hw F rfl (fun i _ => F.f (A_126 hw) rfl rfl) (fun _ h => absurd h List.not_mem_nil), h3.keep hw F rfl, h4.keep (rs := []) hw F rfl (fun i _ => F.f (A_126 hw) rfl rfl) (fun _ h => absurd h List.not_mem_nil), h5.dom h6 hw hT1 F hd, h6.dom hw F hd, h7.keep hw F rfl rfl rfl⟩
end UIT
