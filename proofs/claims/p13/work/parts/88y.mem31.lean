/-! The String of the words, as numbers. -/
section STRM
variable {l : Launch} {D : va_G} {c : Nat → ClassId} {H0 : Heap} {sa : Nat × Nat × (Nat → Int32)} {M : sM} {R : Room} {Z : sZT} {pc : Nat} {lv : List (Nat × Value)} {st : List Value} {hp : sHp} {ce sl : Nat}
theorem mr_strlen (hd : decode M.2.1 pc = .ok (.ldc 105, 2)) (hd2 : decode M.2.1 (pc + 2) = .ok (.invokevirtual 107, 3)) (hM : M.1.cls = RX6) (hR : 4 ≤ R.frames ∧ 200 ≤ R.locals) (hf : ce ≤ R.cells ∧ sl ≤ R.slots) (hr8 : (st.map fun v => v.category).sum ≤ 8)
    (kk : sV (gG l D c H0 sa) M R Z (pc + 5) lv (iv 147 :: st) hp ce sl) : sV (gG l D c H0 sa) M R Z pc lv st hp ce sl := by
  refine sv_ldcS hM hd ?_
  refine sv_callVS (pc := pc + 2) (M' := mJ_slen) (d' := 3) (C' := 0) (S' := 0) (av := []) (st := st) (c_slen (Nat.le_refl _)) (gOk l D c H0 sa) hd2 (tJ_slen l D c H0 sa) ⟨wV_String_length___I, wL_String_length___I⟩ (by rw [hM]; exact wM_X6_107) rfl ⟨hR.1, hR.2⟩ hf rfl hr8 ?_
  rintro r hp' ⟨rfl, rfl⟩
  exact kk
theorem mr_strchr {i : Nat} {x : Int} (hd : decode M.2.1 pc = .ok (.ldc 105, 2)) (hdi : decode M.2.1 (pc + 2) = .ok (.iload i, 2)) (hd2 : decode M.2.1 (pc + 4) = .ok (.invokevirtual 113, 3)) (hM : M.1.cls = RX6) (hg : sGet i lv = some (iv x)) (hx : 0 ≤ x ∧ x ≤ 146) (hR : 8 ≤ R.frames ∧ 441 ≤ R.locals) (hf : ce ≤ R.cells ∧ sl ≤ R.slots) (hr8 : (st.map fun v => v.category).sum ≤ 8)
    (kk : ∀ z : Int, 0 ≤ z ∧ z ≤ 255 → sV (gG l D c H0 sa) M R Z (pc + 7) lv (iv z :: st) hp ce sl) : sV (gG l D c H0 sa) M R Z pc lv st hp ce sl := by
  refine sv_ldcS hM hd ?_
  refine sv_iload (pc := pc + 2) hdi hg ?_
  have h0 : ¬ Int32.ofInt x < 0 := fun q => by
    have q : Int32.ofInt x < Int32.ofInt 0 := q
    rw [iv_lt (by omega) (by omega)] at q; omega
  have h1 : Int32.ofInt x < 147 := by
    have : Int32.ofInt x < Int32.ofInt 147 := (iv_lt (by omega) (by omega)).mpr (by omega)
    exact this
  refine sv_callVS (pc := pc + 2 + 2) (M' := mJ_schr) (d' := 7) (C' := 0) (S' := 0) (av := [iv x]) (st := st) (c_schr (Nat.le_refl _) h0 h1) (gOk l D c H0 sa) hd2 (tJ_schr l D c H0 sa) ⟨wV_String_charAt__I_C, wL_String_charAt__I_C⟩ (by rw [hM]; exact wM_X6_113) rfl ⟨hR.1, hR.2⟩ hf rfl hr8 ?_
  rintro r hp' ⟨⟨z, hz, rfl⟩, rfl⟩
  have e : Value.int (nI z) = iv (z : Int) := by
    show Value.int (Int32.ofNat z) = Value.int (Int32.ofInt (z : Int))
    exact congrArg Value.int Int32.ofInt_eq_ofNat.symm
  show sV (gG l D c H0 sa) M R Z (pc + 7) lv (.int (nI z) :: st) hp' ce sl
  rw [e]
  exact kk _ ⟨by omega, by omega⟩
end STRM
