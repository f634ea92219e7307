/-! What was not picked has no candidate: for the prefixes below n. -/
section UPS
variable {l : Launch} {D : va_G} {c : Nat → ClassId} {H0 : Heap} {sa : Nat × Nat × (Nat → Int32)} {w : mW} {μ μ1 : mM}
def UPd (l : Launch) (D : va_G) (c : Nat → ClassId) (H0 : Heap) (sa : Nat × Nat × (Nat → Int32)) (μ : mM) (d n : Int) : Prop := ∀ p : Int, 0 ≤ p → p < n → μ 161 (10 * d + p).toNat = -99999999 → NA l D c H0 sa μ d p
theorem UPd.zero {d : Int} : UPd l D c H0 sa μ d 0 := fun p a b => by omega
theorem UPd.step {lf : List Nat} {rs : List (Int × Int)} {d n : Int} (h : UPd l D c H0 sa μ d n) (hd : 0 ≤ d ∧ d ≤ 9) (hn : 0 ≤ n ∧ n ≤ 9) (hw : mWF w) (hT : mT w μ) (F : mF lf w μ μ1) (hl : (SCr.all fun r => !lf.elem r) = true) (h6 : lf.elem 106006 = false) (h39 : lf.elem 106039 = false) (G : mG rs μ μ1) (hr : ∀ r ∈ rs, r.2 ≤ 5200 ∨ 21200 ≤ r.1) (pt : PT μ μ1 (10 * d + n).toNat) (na : μ1 161 (10 * d + n).toNat = -99999999 → NA l D c H0 sa μ1 d n) : UPd l D c H0 sa μ1 d (n + 1) := fun p a b q => by
  by_cases e : p = n
  · subst e; exact na q
  · rw [pt _ (by omega)] at q
    exact (h p a (by omega) q).fr ⟨a, by omega⟩ hw hT F hl h6 h39 G hr
/-- pickedTie stands but for the slots of d -/
def PD (μ μ1 : mM) (d : Int) : Prop := ∀ j : Nat, ((j : Int) < 10 * d ∨ 10 * d + 10 ≤ (j : Int)) → μ1 161 j = μ 161 j
theorem PD.refl {d : Int} : PD μ μ d := fun _ _ => rfl
theorem PD.step {μ2 : mM} {d n : Int} (h : PD μ μ1 d) (hd : 0 ≤ d) (hn : 0 ≤ n ∧ n ≤ 9) (pt : PT μ1 μ2 (10 * d + n).toNat) : PD μ μ2 d := fun j q => (pt j (by omega)).trans (h j q)
end UPS
