theorem dJ_cmp_0 : decode cJ_cmp 0 = .ok (.iload_n 0, 1) := by decide +kernel
theorem dJ_cmp_1 : decode cJ_cmp 1 = .ok (.iload_n 1, 1) := by decide +kernel
theorem dJ_cmp_2 : decode cJ_cmp 2 = .ok (.if_icmp .ge 7, 3) := by decide +kernel
theorem dJ_cmp_5 : decode cJ_cmp 5 = .ok (.iconst (-1), 1) := by decide +kernel
theorem dJ_cmp_6 : decode cJ_cmp 6 = .ok (.goto 13, 3) := by decide +kernel
theorem dJ_cmp_9 : decode cJ_cmp 9 = .ok (.iload_n 0, 1) := by decide +kernel
theorem dJ_cmp_10 : decode cJ_cmp 10 = .ok (.iload_n 1, 1) := by decide +kernel
theorem dJ_cmp_11 : decode cJ_cmp 11 = .ok (.if_icmp .ne 7, 3) := by decide +kernel
theorem dJ_cmp_14 : decode cJ_cmp 14 = .ok (.iconst 0, 1) := by decide +kernel
theorem dJ_cmp_15 : decode cJ_cmp 15 = .ok (.goto 4, 3) := by decide +kernel
theorem dJ_cmp_18 : decode cJ_cmp 18 = .ok (.iconst 1, 1) := by decide +kernel
theorem dJ_cmp_19 : decode cJ_cmp 19 = .ok (.ireturn, 1) := by decide +kernel
theorem dJ_copyI_0 : decode cJ_copyI 0 = .ok (.iload_n 1, 1) := by decide +kernel
theorem dJ_copyI_1 : decode cJ_copyI 1 = .ok (.aload_n 0, 1) := by decide +kernel
theorem dJ_copyI_2 : decode cJ_copyI 2 = .ok (.arraylength, 1) := by decide +kernel
theorem dJ_copyI_3 : decode cJ_copyI 3 = .ok (.if_icmp .ne 11, 3) := by decide +kernel
theorem dJ_copyI_14 : decode cJ_copyI 14 = .ok (.iload_n 1, 1) := by decide +kernel
theorem dJ_copyI_15 : decode cJ_copyI 15 = .ok (.newarray .int, 2) := by decide +kernel
theorem dJ_copyI_17 : decode cJ_copyI 17 = .ok (.astore_n 2, 1) := by decide +kernel
theorem dJ_copyI_18 : decode cJ_copyI 18 = .ok (.aload_n 0, 1) := by decide +kernel
theorem dJ_copyI_19 : decode cJ_copyI 19 = .ok (.iconst 0, 1) := by decide +kernel
theorem dJ_copyI_20 : decode cJ_copyI 20 = .ok (.aload_n 2, 1) := by decide +kernel
theorem dJ_copyI_21 : decode cJ_copyI 21 = .ok (.iconst 0, 1) := by decide +kernel
theorem dJ_copyI_22 : decode cJ_copyI 22 = .ok (.aload_n 0, 1) := by decide +kernel
theorem dJ_copyI_23 : decode cJ_copyI 23 = .ok (.arraylength, 1) := by decide +kernel
theorem dJ_copyI_24 : decode cJ_copyI 24 = .ok (.iload_n 1, 1) := by decide +kernel
theorem dJ_copyI_25 : decode cJ_copyI 25 = .ok (.invokestatic 304, 3) := by decide +kernel
theorem dJ_copyI_28 : decode cJ_copyI 28 = .ok (.invokestatic 150, 3) := by decide +kernel
theorem dJ_copyI_31 : decode cJ_copyI 31 = .ok (.aload_n 2, 1) := by decide +kernel
theorem dJ_copyI_32 : decode cJ_copyI 32 = .ok (.areturn, 1) := by decide +kernel
theorem dJ_copyJ_0 : decode cJ_copyJ 0 = .ok (.iload_n 1, 1) := by decide +kernel
theorem dJ_copyJ_1 : decode cJ_copyJ 1 = .ok (.aload_n 0, 1) := by decide +kernel
theorem dJ_copyJ_2 : decode cJ_copyJ 2 = .ok (.arraylength, 1) := by decide +kernel
theorem dJ_copyJ_3 : decode cJ_copyJ 3 = .ok (.if_icmp .ne 11, 3) := by decide +kernel
theorem dJ_copyJ_14 : decode cJ_copyJ 14 = .ok (.iload_n 1, 1) := by decide +kernel
theorem dJ_copyJ_15 : decode cJ_copyJ 15 = .ok (.newarray .long, 2) := by decide +kernel
theorem dJ_copyJ_17 : decode cJ_copyJ 17 = .ok (.astore_n 2, 1) := by decide +kernel
theorem dJ_copyJ_18 : decode cJ_copyJ 18 = .ok (.aload_n 0, 1) := by decide +kernel
theorem dJ_copyJ_19 : decode cJ_copyJ 19 = .ok (.iconst 0, 1) := by decide +kernel
theorem dJ_copyJ_20 : decode cJ_copyJ 20 = .ok (.aload_n 2, 1) := by decide +kernel
theorem dJ_copyJ_21 : decode cJ_copyJ 21 = .ok (.iconst 0, 1) := by decide +kernel
theorem dJ_copyJ_22 : decode cJ_copyJ 22 = .ok (.aload_n 0, 1) := by decide +kernel
theorem dJ_copyJ_23 : decode cJ_copyJ 23 = .ok (.arraylength, 1) := by decide +kernel
theorem dJ_copyJ_24 : decode cJ_copyJ 24 = .ok (.iload_n 1, 1) := by decide +kernel
theorem dJ_copyJ_25 : decode cJ_copyJ 25 = .ok (.invokestatic 304, 3) := by decide +kernel
theorem dJ_copyJ_28 : decode cJ_copyJ 28 = .ok (.invokestatic 150, 3) := by decide +kernel
theorem dJ_copyJ_31 : decode cJ_copyJ 31 = .ok (.aload_n 2, 1) := by decide +kernel
theorem dJ_copyJ_32 : decode cJ_copyJ 32 = .ok (.areturn, 1) := by decide +kernel
theorem wM_J_304 : Cond.methodLink "java/util/Arrays" 304 yJ_min ∈ lw_ok := lw_i5 203 rfl rfl
theorem wM_J_150 : Cond.methodLink "java/util/Arrays" 150 arraycopyName ∈ lw_ok := lw_i5 204 rfl rfl
theorem wS_J_ac : Cond.static arraycopyName ∈ lw_ok := lw_i4 27 rfl rfl
theorem wN_J_ac : Cond.native arraycopyName ∈ lw_ok := lw_i4 28 rfl rfl
theorem wI_J_math : Cond.initialized "java/lang/Math" ∈ lw_ok := lw_i1 16 rfl rfl
theorem wI_J_sys : Cond.initialized "java/lang/System" ∈ lw_ok := lw_i1 14 rfl rfl
section CPYI
variable {g : sG} {M : sM} {R : Room} {Z : sZT} {pc : Nat} {lv : List (Nat × Value)} {st : List Value} {ce sl hn : Nat} {hf : Nat → sE}
theorem sv_copyI {index a0 a n0 n1 : Nat} {cA : ClassId} {q q' : Nat → Int32} {sp dp n : Int32} (hd : decode M.2.1 pc = .ok (.invokestatic index, 3)) (hlk : Cond.methodLink M.1.cls index arraycopyName ∈ sg_ws g) (hw1 : Cond.native arraycopyName ∈ sg_ws g) (hw2 : Cond.static arraycopyName ∈ sg_ws g) (hw3 : Cond.initialized "java/lang/System" ∈ sg_ws g) (ht : g.2.2.1[0]? = some (cA, .int)) (ha0 : a0 < hn) (ha : a < hn) (he0 : hf a0 = .inl (0, n0, sI q)) (he : hf a = .inl (0, n1, sI q')) (h1 : ¬ sp < 0) (h2 : ¬ dp < 0) (h3 : ¬ n < 0) (h4 : sp.toNatClampNeg + n.toNatClampNeg ≤ n0) (h5 : dp.toNatClampNeg + n.toNatClampNeg ≤ n1) (hfr : 1 ≤ R.frames) (hlo : nativeFrameWords "java/lang/System" "arraycopy" 5 + 19 ≤ R.locals) (hr8 : (st.map fun v => v.category).sum ≤ 8)
    (kk : sV g M R Z (pc + 3) lv st (hn, sUp hf a (.inl (0, n1, sI (va_cpy q q' sp.toNatClampNeg dp.toNatClampNeg n.toNatClampNeg)))) ce sl) : sV g M R Z pc lv (.int n :: .int dp :: .ref a :: .int sp :: .ref a0 :: st) (hn, hf) ce sl := by
  intro p e s m args below meth c H locs ls X r hl h
  obtain ⟨hx, hb, hr, hml, hown, hts, hK, hlk2, hlw, hnm⟩ := id X
  obtain ⟨hc0, -⟩ := sArr (hp := (hn, hf)) r hK ha0 he0 ht
  obtain ⟨hc1, -⟩ := sArr (hp := (hn, hf)) r hK ha he ht
  have nn : ∀ z : Int32, ¬ z < 0 → z.toInt = (z.toNatClampNeg : Int) := by
    intro z hz
    have hz0 : (0 : Int) ≤ z.toInt := by
      have := Int32.not_lt.mp hz
      simpa using Int32.le_iff_toInt_le.mp this
    show z.toInt = ((z.toInt.toNat : Nat) : Int)
    omega
  intro T hT X1
  obtain ⟨-, k0, hk0, cm0, hkk0⟩ := (hK.1.2 0 _ ht).1 n0 (fun j => .int (q j))
  have h8 := lv_room (m := m) (pc := pc) (ls := ls) (rest := (Value.int n :: .int dp :: .ref a :: .int sp :: .ref a0 :: st).map (rv (sg_r g))) (sRoom (b := sg_r g) hr8)
  obtain ⟨vm', X', step⟩ := X1.arraycopy hx hown (hts _ hlk) (hts _ hw1) (hts _ hw2) (hts _ hw3) (src := sg_b g + a0) (dst := sg_b g + a) (cs := arrV cA n0 (fun j => .int (q j))) (cd := arrV cA n1 (fun j => .int (q' j))) (srcPos := sp) (destPos := dp) (n := n) (by rw [hT]; exact hc0) (by rw [hT]; exact hc1)
    (fun _ h => by cases h) (fun _ h => by cases h) (fun h => by cases h) (fun h => by cases h) hk0 hk0 hkk0 hkk0 rfl h1 h2 h3
    (by rw [nn sp h1, nn n h3, arrV_size]; omega)
    (by rw [nn dp h2, nn n h3, arrV_size]; omega)
    (fun vm₁ _ i hi => by
      have e : (arrV cA n0 (fun j => .int (q j))).slots.getD (sp.toNatClampNeg + i) .null = .int (q (sp.toNatClampNeg + i)) := by
        rw [Array.getD_eq_getD_getElem?, arrV_read _ _ (by omega)]
        rfl
      refine ⟨?_, ?_⟩
      · rw [e]; rfl
      · rw [e]; exact trivial)
    (g := F0 m pc ls ((Value.int n :: .int dp :: .ref a :: .int sp :: .ref a0 :: st).map (rv (sg_r g)))) rfl (by rw [hml]; exact h.1) (rest := st.map (rv (sg_r g))) rfl (by rw [hb]; exact hd) hfr (by omega)
  have e1 : copied (arrV cA n0 (fun j => .int (q j))) (arrV cA n1 (fun j => .int (q' j))) sp dp n = arrV cA n1 (fun j => .int (va_cpy q q' sp.toNatClampNeg dp.toNatClampNeg n.toNatClampNeg j)) := va_copied (fun z => .int z) cA cA q q' h4
  rw [e1] at X' step
  have hlt : sg_b g + a < H.size := (Array.getElem?_eq_some_iff.mp hc1).1
  have hheap : ((T.setVm vm').setCell (sg_b g + a) (arrV cA n1 (fun j => .int (va_cpy q q' sp.toNatClampNeg dp.toNatClampNeg n.toNatClampNeg j)))).heap = H.setIfInBounds (sg_b g + a) (arrV cA n1 (fun j => .int (va_cpy q q' sp.toNatClampNeg dp.toNatClampNeg n.toNatClampNeg j))) := by rw [← hT]; rfl
  have hR : sR g (hn, sUp hf a (.inl (0, n1, sI (va_cpy q q' sp.toNatClampNeg dp.toNatClampNeg n.toNatClampNeg)))) (H.setIfInBounds (sg_b g + a) (arrV cA n1 (fun j => .int (va_cpy q q' sp.toNatClampNeg dp.toNatClampNeg n.toNatClampNeg j)))) :=
    sR.put (hp := (hn, hf)) r (by simp) (fun z hz => by simp [Array.getElem?_setIfInBounds, Ne.symm hz]) ⟨cA, .int, ht, by simp [Array.getElem?_setIfInBounds, hlt]; rfl⟩
  obtain ⟨t, a1, b1⟩ := kk p e s m args below meth c _ _ ls X hR (fun z hz => by
    rcases List.mem_append.mp hz with hz | hz
    · exact hl z hz
    · obtain ⟨y, -, hy⟩ := List.mem_map.mp hz
      rw [← hy]; exact Nat.le_add_right _ _) h _ hheap X'
  exact ⟨t, step t a1, b1⟩
end CPYI
section CPYJ
variable {g : sG} {M : sM} {R : Room} {Z : sZT} {pc : Nat} {lv : List (Nat × Value)} {st : List Value} {ce sl hn : Nat} {hf : Nat → sE}
theorem sv_copyJ {index a0 a n0 n1 : Nat} {cA : ClassId} {q q' : Nat → Int64} {sp dp n : Int32} (hd : decode M.2.1 pc = .ok (.invokestatic index, 3)) (hlk : Cond.methodLink M.1.cls index arraycopyName ∈ sg_ws g) (hw1 : Cond.native arraycopyName ∈ sg_ws g) (hw2 : Cond.static arraycopyName ∈ sg_ws g) (hw3 : Cond.initialized "java/lang/System" ∈ sg_ws g) (ht : g.2.2.1[1]? = some (cA, .long)) (ha0 : a0 < hn) (ha : a < hn) (he0 : hf a0 = .inl (1, n0, sJ q)) (he : hf a = .inl (1, n1, sJ q')) (h1 : ¬ sp < 0) (h2 : ¬ dp < 0) (h3 : ¬ n < 0) (h4 : sp.toNatClampNeg + n.toNatClampNeg ≤ n0) (h5 : dp.toNatClampNeg + n.toNatClampNeg ≤ n1) (hfr : 1 ≤ R.frames) (hlo : nativeFrameWords "java/lang/System" "arraycopy" 5 + 19 ≤ R.locals) (hr8 : (st.map fun v => v.category).sum ≤ 8)
    (kk : sV g M R Z (pc + 3) lv st (hn, sUp hf a (.inl (1, n1, sJ (va_cpy q q' sp.toNatClampNeg dp.toNatClampNeg n.toNatClampNeg)))) ce sl) : sV g M R Z pc lv (.int n :: .int dp :: .ref a :: .int sp :: .ref a0 :: st) (hn, hf) ce sl := by
  intro p e s m args below meth c H locs ls X r hl h
  obtain ⟨hx, hb, hr, hml, hown, hts, hK, hlk2, hlw, hnm⟩ := id X
  obtain ⟨hc0, -⟩ := sArr (hp := (hn, hf)) r hK ha0 he0 ht
  obtain ⟨hc1, -⟩ := sArr (hp := (hn, hf)) r hK ha he ht
  have nn : ∀ z : Int32, ¬ z < 0 → z.toInt = (z.toNatClampNeg : Int) := by
    intro z hz
    have hz0 : (0 : Int) ≤ z.toInt := by
      have := Int32.not_lt.mp hz
      simpa using Int32.le_iff_toInt_le.mp this
    show z.toInt = ((z.toInt.toNat : Nat) : Int)
    omega
  intro T hT X1
  obtain ⟨-, k0, hk0, cm0, hkk0⟩ := (hK.1.2 1 _ ht).1 n0 (fun j => .long (q j))
  have h8 := lv_room (m := m) (pc := pc) (ls := ls) (rest := (Value.int n :: .int dp :: .ref a :: .int sp :: .ref a0 :: st).map (rv (sg_r g))) (sRoom (b := sg_r g) hr8)
  obtain ⟨vm', X', step⟩ := X1.arraycopy hx hown (hts _ hlk) (hts _ hw1) (hts _ hw2) (hts _ hw3) (src := sg_b g + a0) (dst := sg_b g + a) (cs := arrV cA n0 (fun j => .long (q j))) (cd := arrV cA n1 (fun j => .long (q' j))) (srcPos := sp) (destPos := dp) (n := n) (by rw [hT]; exact hc0) (by rw [hT]; exact hc1)
    (fun _ h => by cases h) (fun _ h => by cases h) (fun h => by cases h) (fun h => by cases h) hk0 hk0 hkk0 hkk0 rfl h1 h2 h3
    (by rw [nn sp h1, nn n h3, arrV_size]; omega)
    (by rw [nn dp h2, nn n h3, arrV_size]; omega)
    (fun vm₁ _ i hi => by
      have e : (arrV cA n0 (fun j => .long (q j))).slots.getD (sp.toNatClampNeg + i) .null = .long (q (sp.toNatClampNeg + i)) := by
        rw [Array.getD_eq_getD_getElem?, arrV_read _ _ (by omega)]
        rfl
      refine ⟨?_, ?_⟩
      · rw [e]; rfl
      · rw [e]; exact trivial)
    (g := F0 m pc ls ((Value.int n :: .int dp :: .ref a :: .int sp :: .ref a0 :: st).map (rv (sg_r g)))) rfl (by rw [hml]; exact h.1) (rest := st.map (rv (sg_r g))) rfl (by rw [hb]; exact hd) hfr (by omega)
  have e1 : copied (arrV cA n0 (fun j => .long (q j))) (arrV cA n1 (fun j => .long (q' j))) sp dp n = arrV cA n1 (fun j => .long (va_cpy q q' sp.toNatClampNeg dp.toNatClampNeg n.toNatClampNeg j)) := va_copied (fun z => .long z) cA cA q q' h4
  rw [e1] at X' step
  have hlt : sg_b g + a < H.size := (Array.getElem?_eq_some_iff.mp hc1).1
  have hheap : ((T.setVm vm').setCell (sg_b g + a) (arrV cA n1 (fun j => .long (va_cpy q q' sp.toNatClampNeg dp.toNatClampNeg n.toNatClampNeg j)))).heap = H.setIfInBounds (sg_b g + a) (arrV cA n1 (fun j => .long (va_cpy q q' sp.toNatClampNeg dp.toNatClampNeg n.toNatClampNeg j))) := by rw [← hT]; rfl
  have hR : sR g (hn, sUp hf a (.inl (1, n1, sJ (va_cpy q q' sp.toNatClampNeg dp.toNatClampNeg n.toNatClampNeg)))) (H.setIfInBounds (sg_b g + a) (arrV cA n1 (fun j => .long (va_cpy q q' sp.toNatClampNeg dp.toNatClampNeg n.toNatClampNeg j)))) :=
    sR.put (hp := (hn, hf)) r (by simp) (fun z hz => by simp [Array.getElem?_setIfInBounds, Ne.symm hz]) ⟨cA, .long, ht, by simp [Array.getElem?_setIfInBounds, hlt]; rfl⟩
  obtain ⟨t, a1, b1⟩ := kk p e s m args below meth c _ _ ls X hR (fun z hz => by
    rcases List.mem_append.mp hz with hz | hz
    · exact hl z hz
    · obtain ⟨y, -, hy⟩ := List.mem_map.mp hz
      rw [← hy]; exact Nat.le_add_right _ _) h _ hheap X'
  exact ⟨t, step t a1, b1⟩
end CPYJ
section MMX
variable {g : sG} {M : sM} {R : Room} {Z : sZT} {pc : Nat} {lv : List (Nat × Value)} {st : List Value} {hp : sHp} {ce sl : Nat}
theorem sv_min {index : Nat} {x y v : Int32} (hd : decode M.2.1 pc = .ok (.invokestatic index, 3)) (hlk : Cond.methodLink M.1.cls index yJ_min ∈ sg_ws g) (hs : Cond.static yJ_min ∈ sg_ws g) (hi : Cond.initialized "java/lang/Math" ∈ sg_ws g) (hk : Cond.code yJ_min cJ_min 2 (some .int) ∈ sg_ws g) (hR : 1 ≤ R.frames ∧ 21 ≤ R.locals) (hc : ce ≤ R.cells ∧ sl ≤ R.slots) (hr8 : (st.map fun v => v.category).sum ≤ 8) (hv : (if y < x then y else x) = v) (kk : sV g M R Z (pc + 3) lv (.int v :: st) hp ce sl) : sV g M R Z pc lv (.int y :: .int x :: st) hp ce sl := by
  subst hv
  intro p e s m args below meth c H locs ls X r hl h
  obtain ⟨hx, hb, hr, hml, hown, hts, hK, hlk2, hlw, hnm⟩ := id X
  have h8 := sRoom (b := sg_r g) hr8
  have := hR.2
  exact va_mmin hx hb (by rw [hml]; exact h.1.symm) hown (hts _ hlk) (hts _ hs) (hts _ hi) (hts _ hk) hR.1 (by omega) hc.1 hc.2 hd (kk p e s m args below meth c H locs ls X r hl h)
theorem sv_max {index : Nat} {x y v : Int32} (hd : decode M.2.1 pc = .ok (.invokestatic index, 3)) (hlk : Cond.methodLink M.1.cls index yJ_max ∈ sg_ws g) (hs : Cond.static yJ_max ∈ sg_ws g) (hi : Cond.initialized "java/lang/Math" ∈ sg_ws g) (hk : Cond.code yJ_max cJ_max 2 (some .int) ∈ sg_ws g) (hR : 1 ≤ R.frames ∧ 21 ≤ R.locals) (hc : ce ≤ R.cells ∧ sl ≤ R.slots) (hr8 : (st.map fun v => v.category).sum ≤ 8) (hv : (if x < y then y else x) = v) (kk : sV g M R Z (pc + 3) lv (.int v :: st) hp ce sl) : sV g M R Z pc lv (.int y :: .int x :: st) hp ce sl := by
  subst hv
  intro p e s m args below meth c H locs ls X r hl h
  obtain ⟨hx, hb, hr, hml, hown, hts, hK, hlk2, hlw, hnm⟩ := id X
  have h8 := sRoom (b := sg_r g) hr8
  have := hR.2
  exact va_mmax hx hb (by rw [hml]; exact h.1.symm) hown (hts _ hlk) (hts _ hs) (hts _ hi) (hts _ hk) hR.1 (by omega) hc.1 hc.2 hd (kk p e s m args below meth c H locs ls X r hl h)
end MMX
section JDK2
variable {g : sG} {M : sM} {R : Room} {pc : Nat} {lv : List (Nat × Value)} {hp : sHp} {ce sl : Nat}
theorem sv_aretA {C S a : Nat} {Q : Option Value → sHp → Prop} {t0 : FieldType} (hd : decode M.2.1 pc = .ok (.areturn, 1)) (hret : M.2.2.2 = some (.array t0)) (hc : ce ≤ C) (hs : sl ≤ S) (hq : Q (some (.ref a)) hp) : sV g M R (sZ g C S Q) pc lv [.ref a] hp ce sl := by
  intro p e s m args below meth c H locs ls X r hl h
  obtain ⟨hx, hb, hr, hml, hown, hts, hK, hlk, hlw, hnm⟩ := id X
  exact W.widen hc hs (W.aret (v := .ref (sg_b g + a)) hx hb (hr.trans hret) (Or.inr ⟨_, rfl⟩) (Or.inr ⟨_, rfl⟩) (fun t ht hW => ⟨some (.ref a), hp, rfl, hq, by rw [ht]; exact r, hK.warm hW⟩) hl hd hlk)
end JDK2
section JDK3
variable (l : Launch) (D : va_G) (c : Nat → ClassId) (H0 : Heap) (sa : Nat × Nat × (Nat → Int32))
theorem c_cmp {d : Nat} {x y : Int32} {hp : sHp} : sC (gG l D c H0 sa) mJ_cmp d 0 0 [.int x, .int y] hp (fun r hp' => r = some (.int (if x < y then -1 else if x = y then 0 else 1)) ∧ hp' = hp) := by
  refine sC.of rfl (by decide) (le_t rfl) ?_
  refine sv_iload_n (pc := 0) dJ_cmp_0 rfl rfl ?_
  refine sv_iload_n (pc := 1) dJ_cmp_1 rfl rfl ?_
  refine sv_icmp_ge (pc := 2) (tgt := 9) dJ_cmp_2 (by decide) (fun h => ?_) (fun h => ?_)
  · refine sv_iload_n (pc := 9) dJ_cmp_9 rfl rfl ?_
    refine sv_iload_n (pc := 10) dJ_cmp_10 rfl rfl ?_
    refine sv_icmp_ne (pc := 11) (tgt := 18) dJ_cmp_11 (by decide) (fun h2 => ?_) (fun h2 => ?_)
    · refine sv_iconst (pc := 18) (v := 1) dJ_cmp_18 (by decide) ?_
      exact sv_iret (pc := 19) dJ_cmp_19 rfl (Nat.le_refl _) (Nat.le_refl _) ⟨by rw [if_neg (Int32.not_lt.mpr h), if_neg h2], rfl⟩
    · refine sv_iconst (pc := 14) (v := 0) dJ_cmp_14 (by decide) ?_
      refine sv_goto (pc := 15) (tgt := 19) dJ_cmp_15 (by decide) ?_
      exact sv_iret (pc := 19) dJ_cmp_19 rfl (Nat.le_refl _) (Nat.le_refl _) ⟨by rw [if_neg (Int32.not_lt.mpr h), if_pos h2], rfl⟩
  · refine sv_iconst (pc := 5) (v := -1) dJ_cmp_5 (by decide) ?_
    refine sv_goto (pc := 6) (tgt := 19) dJ_cmp_6 (by decide) ?_
    exact sv_iret (pc := 19) dJ_cmp_19 rfl (Nat.le_refl _) (Nat.le_refl _) ⟨by rw [if_pos (Int32.not_le.mp h)], rfl⟩
theorem c_copyI {d a n : Nat} {q : Nat → Int32} {x : Int32} {N hn : Nat} {hf : Nat → sE} (hd : 2 ≤ d) (ha : a < hn) (he : hf a = .inl (0, n, sI q)) (hx : x = nI N) (hN : N < n) (hn31 : n < 2 ^ 26) : sC (gG l D c H0 sa) mJ_copyI d 1 N [.ref a, .int x] (hn, hf) (fun r hp' => r = some (.ref hn) ∧ hp' = (hn + 1, sUp (sUp hf hn (.inl (0, N, fun _ => .int 0))) hn (.inl (0, N, sI (va_cpy q (fun _ => 0) 0 0 N))))) := by
  subst hx
  have hcl : (nI N).toNatClampNeg = N := nI_clamp (by omega)
  have hpo : ¬ nI N < 0 := nI_pos (by omega)
  refine sC.of rfl (by decide) (le_t rfl) ?_
  refine sv_iload_n (pc := 0) dJ_copyI_0 rfl rfl ?_
  refine sv_aload_n (pc := 1) dJ_copyI_1 rfl rfl ?_
  refine sv_arraylength (pc := 2) (kd := 0) (n := n) (f := sI q) (cA := c 0) (ty := .int) (v := nI n) dJ_copyI_2 rfl ha he rfl ?_
  refine sv_icmp_ne (pc := 3) (tgt := 14) dJ_copyI_3 (by decide) (fun _ => ?_) (fun h => absurd ((nI_eq (by omega) (by omega)).mp h) (by omega))
  refine sv_iload_n (pc := 14) dJ_copyI_14 rfl rfl ?_
  refine sv_newarray (pc := 15) (kd := 0) (cA := c 0) (N := N) (v := .int 0) dJ_copyI_15 rfl wA_int rfl (fun U => sI_Cond_int U _) hpo hcl (by show N * 4 ≤ _; omega) (fun _ => rfl) (Nat.le_refl _) (by show 0 + N ≤ N; omega) ?_
  refine sv_astore_n (pc := 17) dJ_copyI_17 rfl (by decide) ?_
  refine sv_aload_n (pc := 18) dJ_copyI_18 rfl rfl ?_
  refine sv_iconst (pc := 19) (v := 0) dJ_copyI_19 (by decide) ?_
  refine sv_aload_n (pc := 20) dJ_copyI_20 rfl rfl ?_
  refine sv_iconst (pc := 21) (v := 0) dJ_copyI_21 (by decide) ?_
  refine sv_aload_n (pc := 22) dJ_copyI_22 rfl rfl ?_
  have hne : a ≠ hn := by omega
  refine sv_arraylength (pc := 23) (kd := 0) (n := n) (f := sI q) (cA := c 0) (ty := .int) (v := nI n) dJ_copyI_23 rfl (show a < hn + 1 by omega) (by show sUp hf hn _ a = _; rw [sUp_ne _ _ hne]; exact he) rfl ?_
  refine sv_iload_n (pc := 24) dJ_copyI_24 rfl rfl ?_
  refine sv_min (pc := 25) (v := nI N) dJ_copyI_25 wM_J_304 wS_J_min wI_J_math wK_J_min ⟨by show 1 ≤ d; omega, by show 21 ≤ 60 * d; omega⟩ ⟨Nat.le_refl _, by show 0 + N ≤ N; omega⟩ (le_t rfl) (by rw [if_pos ((nI_ltI (by omega) (by omega)).mpr hN)]) ?_
  have hnf : nativeFrameWords "java/lang/System" "arraycopy" 5 + 19 ≤ 120 := by decide +kernel
  refine sv_copyI (pc := 28) (cA := c 0) (q := q) (q' := fun _ => 0) (n0 := n) (n1 := N) (a0 := a) (a := hn) dJ_copyI_28 wM_J_150 wN_J_ac wS_J_ac wI_J_sys rfl (by omega) (by omega) (by rw [sUp_ne _ _ hne]; exact he) (sUp_at _ _ _) (by decide) (by decide) hpo (by rw [hcl]; show 0 + N ≤ n; omega) (by rw [hcl]; show 0 + N ≤ N; omega) (by show 1 ≤ d; omega) (show _ ≤ 60 * d by omega) (le_t rfl) ?_
  rw [hcl]
  refine sv_aload_n (pc := 31) dJ_copyI_31 rfl rfl ?_
  exact sv_aretA (pc := 32) dJ_copyI_32 rfl (Nat.le_refl _) (by show 0 + N ≤ N; omega) ⟨rfl, rfl⟩
theorem c_copyJ {d a n : Nat} {q : Nat → Int64} {x : Int32} {N hn : Nat} {hf : Nat → sE} (hd : 2 ≤ d) (ha : a < hn) (he : hf a = .inl (1, n, sJ q)) (hx : x = nI N) (hN : N < n) (hn31 : n < 2 ^ 26) : sC (gG l D c H0 sa) mJ_copyJ d 1 N [.ref a, .int x] (hn, hf) (fun r hp' => r = some (.ref hn) ∧ hp' = (hn + 1, sUp (sUp hf hn (.inl (1, N, fun _ => .long 0))) hn (.inl (1, N, sJ (va_cpy q (fun _ => 0) 0 0 N))))) := by
  subst hx
  have hcl : (nI N).toNatClampNeg = N := nI_clamp (by omega)
  have hpo : ¬ nI N < 0 := nI_pos (by omega)
  refine sC.of rfl (by decide) (le_t rfl) ?_
  refine sv_iload_n (pc := 0) dJ_copyJ_0 rfl rfl ?_
  refine sv_aload_n (pc := 1) dJ_copyJ_1 rfl rfl ?_
  refine sv_arraylength (pc := 2) (kd := 1) (n := n) (f := sJ q) (cA := c 1) (ty := .long) (v := nI n) dJ_copyJ_2 rfl ha he rfl ?_
  refine sv_icmp_ne (pc := 3) (tgt := 14) dJ_copyJ_3 (by decide) (fun _ => ?_) (fun h => absurd ((nI_eq (by omega) (by omega)).mp h) (by omega))
  refine sv_iload_n (pc := 14) dJ_copyJ_14 rfl rfl ?_
  refine sv_newarray (pc := 15) (kd := 1) (cA := c 1) (N := N) (v := .long 0) dJ_copyJ_15 rfl wA_long rfl (fun U => sI_Cond_long U _) hpo hcl (by show N * 8 ≤ _; omega) (fun _ => rfl) (Nat.le_refl _) (by show 0 + N ≤ N; omega) ?_
  refine sv_astore_n (pc := 17) dJ_copyJ_17 rfl (by decide) ?_
  refine sv_aload_n (pc := 18) dJ_copyJ_18 rfl rfl ?_
  refine sv_iconst (pc := 19) (v := 0) dJ_copyJ_19 (by decide) ?_
  refine sv_aload_n (pc := 20) dJ_copyJ_20 rfl rfl ?_
  refine sv_iconst (pc := 21) (v := 0) dJ_copyJ_21 (by decide) ?_
  refine sv_aload_n (pc := 22) dJ_copyJ_22 rfl rfl ?_
  have hne : a ≠ hn := by omega
  refine sv_arraylength (pc := 23) (kd := 1) (n := n) (f := sJ q) (cA := c 1) (ty := .long) (v := nI n) dJ_copyJ_23 rfl (show a < hn + 1 by omega) (by show sUp hf hn _ a = _; rw [sUp_ne _ _ hne]; exact he) rfl ?_
  refine sv_iload_n (pc := 24) dJ_copyJ_24 rfl rfl ?_
  refine sv_min (pc := 25) (v := nI N) dJ_copyJ_25 wM_J_304 wS_J_min wI_J_math wK_J_min ⟨by show 1 ≤ d; omega, by show 21 ≤ 60 * d; omega⟩ ⟨Nat.le_refl _, by show 0 + N ≤ N; omega⟩ (le_t rfl) (by rw [if_pos ((nI_ltI (by omega) (by omega)).mpr hN)]) ?_
  have hnf : nativeFrameWords "java/lang/System" "arraycopy" 5 + 19 ≤ 120 := by decide +kernel
  refine sv_copyJ (pc := 28) (cA := c 1) (q := q) (q' := fun _ => 0) (n0 := n) (n1 := N) (a0 := a) (a := hn) dJ_copyJ_28 wM_J_150 wN_J_ac wS_J_ac wI_J_sys rfl (by omega) (by omega) (by rw [sUp_ne _ _ hne]; exact he) (sUp_at _ _ _) (by decide) (by decide) hpo (by rw [hcl]; show 0 + N ≤ n; omega) (by rw [hcl]; show 0 + N ≤ N; omega) (by show 1 ≤ d; omega) (show _ ≤ 60 * d by omega) (le_t rfl) ?_
  rw [hcl]
  refine sv_aload_n (pc := 31) dJ_copyJ_31 rfl rfl ?_
  exact sv_aretA (pc := 32) dJ_copyJ_32 rfl (Nat.le_refl _) (by show 0 + N ≤ N; omega) ⟨rfl, rfl⟩
theorem c_fillB_loop {d a n : Nat} {f : Nat → Value} {v : Int32} {hp : sHp} (ha : a < hp.1) (hn : n < 2 ^ 31) : ∀ (k i : Nat), i + k = n → ∀ (lv : List (Nat × Value)), sGet 0 lv = some (.ref a) → sGet 1 lv = some (.int v) → sGet 2 lv = some (.int (nI i)) → sGet 3 lv = some (.int (nI n)) →
    sV (gG l D c H0 sa) mJ_fillB (sRm d 0 0) (sZ (gG l D c H0 sa) 0 0 (fun r hp' => r = none ∧ hp' = (hp.1, sUp hp.2 a (.inl (2, n, sFill n (.int (vp_nar .byte v)) f))))) 5 lv [] (hp.1, sUp hp.2 a (.inl (2, n, sFill i (.int (vp_nar .byte v)) f))) 0 0 := by
  intro k
  induction k with
  | zero =>
    intro i hi lv h0 h1 h2 h3
    have : i = n := by omega
    subst this
    refine sv_iload_n dJ_fillB_5 rfl h2 ?_
    refine sv_iload_n dJ_fillB_6 rfl h3 ?_
    refine sv_icmp_ge (tgt := 20) dJ_fillB_7 (by decide) (fun _ => ?_) (fun h => absurd (Int32.le_refl _) h)
    exact sv_vret dJ_fillB_20 rfl (Nat.le_refl _) (Nat.le_refl _) ⟨rfl, rfl⟩
  | succ k ih =>
    intro i hi lv h0 h1 h2 h3
    have hin : i < n := by omega
    refine sv_iload_n dJ_fillB_5 rfl h2 ?_
    refine sv_iload_n dJ_fillB_6 rfl h3 ?_
    refine sv_icmp_ge (tgt := 20) dJ_fillB_7 (by decide) (fun h => absurd h (nI_ge hin hn)) (fun _ => ?_)
    refine sv_aload_n dJ_fillB_10 rfl h0 ?_
    refine sv_iload_n dJ_fillB_11 rfl h2 ?_
    refine sv_iload_n dJ_fillB_12 rfl h1 ?_
    refine sv_bastore (kd := 2) (cA := c 2) (n := n) (f := sFill i (.int (vp_nar .byte v)) f) dJ_fillB_13 rfl ha (sUp_at _ _ _) (vp_in_nI hin hn) ?_
    rw [nI_clamp (show i < 2 ^ 31 by omega), sFill_up]
    refine sv_iincK (k := 1) dJ_fillB_14 (by decide) h2 (by decide) ?_
    refine sv_goto (tgt := 5) dJ_fillB_17 (by decide) ?_
    show sV _ _ _ _ _ _ _ (hp.1, sUp (sUp hp.2 a (.inl (2, n, sFill i (.int (vp_nar .byte v)) f))) a (.inl (2, n, sFill (i + 1) (.int (vp_nar .byte v)) f))) _ _
    rw [sUp_sUp, nI_1]
    exact ih (i + 1) (by omega) _ (sGet_keep h0 (by decide)) (sGet_keep h1 (by decide)) sGet_new (sGet_keep h3 (by decide))
theorem c_fillB {d a n : Nat} {f : Nat → Value} {v : Int32} {hp : sHp} (ha : a < hp.1) (he : hp.2 a = .inl (2, n, f)) (hn : n < 2 ^ 31) : sC (gG l D c H0 sa) mJ_fillB d 0 0 [.ref a, .int v] hp (fun r hp' => r = none ∧ hp' = (hp.1, sUp hp.2 a (.inl (2, n, sFill n (.int (vp_nar .byte v)) f)))) := by
  refine sC.of rfl (by decide) (le_t rfl) ?_
  refine sv_iconst (v := 0) dJ_fillB_0 (by decide) ?_
  refine sv_istore_n dJ_fillB_1 rfl (by decide) ?_
  refine sv_aload_n dJ_fillB_2 rfl rfl ?_
  refine sv_arraylength (cA := c 2) (ty := .byte) dJ_fillB_3 rfl ha he rfl ?_
  refine sv_istore_n dJ_fillB_4 rfl (by decide) ?_
  refine sv_heap (hp' := (hp.1, sUp hp.2 a (.inl (2, n, sFill 0 (.int (vp_nar .byte v)) f)))) rfl (fun j _ => ?_) (c_fillB_loop l D c H0 sa ha hn n 0 (by omega) _ rfl rfl rfl rfl)
  show hp.2 j = sUp hp.2 a _ j
  rw [sFill_0]
  by_cases h : j = a
  · subst h; rw [sUp_at]; exact he
  · rw [sUp_ne _ _ h]
end JDK3
