/-! The law's room reckoned anew from the heap as it stands. -/
theorem sumL {f : Nat → Nat} (l : List Cell) (h : ∀ i c, l[i]? = some c → c.slots.size ≤ f i) : ∀ n, n ≤ l.length → ((l.take n).map fun x => x.slots.size).sum ≤ sumN f n
  | 0, _ => by simp [sumN]
  | n + 1, hn => by
    have ih := sumL l h n (by omega)
    have hl : n < l.length := by omega
    rw [List.take_add_one, List.getElem?_eq_getElem hl]
    simp only [List.map_append, List.sum_append, Option.toList_some, List.map_cons, List.map_nil, List.sum_cons, List.sum_nil]
    have := h n _ (List.getElem?_eq_getElem hl)
    show _ ≤ sumN f n + f n
    omega
def szE (x : sE) : Nat := match x with
  | .inl (_, n, _) => n
  | .inr (ci, _) => match vwCl[ci]? with
    | some r => r.2.2
    | none => 0
section TIGHT
variable {l : Launch} {D : va_G} {c : Nat → ClassId} {H0 : Heap} {sa : Nat × Nat × (Nat → Int32)} {M : sM} {R : Room} {Z : sZT} {pc : Nat} {lv : List (Nat × Value)} {st : List Value} {hp : sHp} {ce sl ce' sl' : Nat}
theorem sR.sum {H : Heap} (r : sR (gG l D c H0 sa) hp H) : ((H.toList.drop H0.size).map fun x => x.slots.size).sum ≤ sumN (fun i => szE (hp.2 i)) hp.1 := by
  have hz : H.size = H0.size + hp.1 := r.1
  have hl : (H.toList.drop H0.size).length = hp.1 := by simp; omega
  have := sumL (f := fun i => szE (hp.2 i)) (H.toList.drop H0.size) (fun i x hx => by
    have hi : i < hp.1 := by
      have := (List.getElem?_eq_some_iff.mp hx).1
      omega
    rw [List.getElem?_drop] at hx
    have hx : H[H0.size + i]? = some x := by simpa using hx
    have h := r.2.1 i hi
    revert h
    rcases hp.2 i with ⟨kd, n, f⟩ | ⟨ci, fs⟩
    · rintro ⟨cA, ty, -, h2⟩
      have e : x = arrV cA n (fun j => rv (sg_r (gG l D c H0 sa)) (f j)) := Option.some.inj (hx.symm.trans h2)
      rw [e, arrV_size]; exact Nat.le_refl _
    · rintro ⟨r', h1, -, cell, h3, h4⟩
      have e : x = cell := Option.some.inj (hx.symm.trans h3)
      have h1 : vwCl[ci]? = some r' := h1
      rw [e]
      show _ ≤ (match vwCl[ci]? with | some r => r.2.2 | none => 0)
      rw [h1]; exact h4) hp.1 (by omega)
  rw [← hl, List.take_length] at this
  rw [hl] at this
  exact this
theorem sv_tight (hL : M.1.cls = "DomainHouseLaw") (h1 : hp.1 ≤ ce') (h2 : sumN (fun i => szE (hp.2 i)) hp.1 ≤ sl') (k : sV (gG l D c H0 sa) M R Z pc lv st hp ce' sl') : sV (gG l D c H0 sa) M R Z pc lv st hp ce sl := by
  intro p e s m args below meth cc H locs ls X r hl h
  have hb : s.heap.size = H0.size := (X.2.2.2.2.2.2.2.2.1 hL).1
  have hz : H.size = H0.size + hp.1 := r.1
  intro T hT X1
  have hsum := r.sum
  obtain ⟨s1, s2, s3, s4, s5, s6⟩ := X1.same
  have eT : (T.setVm s.vm).heap = H := hT
  have X2 : Stand p l e R s m args below meth cc T locs ce' sl' := { X1 with same := ⟨s1, s2, by rw [eT, hz, hb]; omega, s4, by rw [eT, hb]; exact Nat.le_trans hsum h2, s6⟩ }
  exact k p e s m args below meth cc H locs ls X r hl h T hT X2
end TIGHT
