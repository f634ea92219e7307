/-! The String of the words: its length, its signs. -/
section STRJ
variable {g : sG} {M M' : sM} {R : Room} {Z : sZT} {d' C' S' : Nat} {Q' : Option Value → sHp → Prop} {pc : Nat} {lv : List (Nat × Value)} {st st0 av : List Value} {hp : sHp} {ce sl : Nat}
theorem sStg.heap {H : Heap} {q : Nat} {cell : Cell} (r : sR g hp H) (h : g.2.2.2.1[q]? = some cell) : H[q]? = some cell := by rw [r.2.2 _ (Array.getElem?_eq_some_iff.mp h).1]; exact h
theorem sv_i2c {x v : Int32} (hd : decode M.2.1 pc = .ok (.i2c, 1)) (hv : (x.toUInt32 % 65536).toInt32 = v) (k : sV g M R Z (pc + 1) lv (.int v :: st) hp ce sl) : sV g M R Z (pc) lv (.int x :: st) hp ce sl := fun p e s m args below meth c H locs ls X r hl h => lv_i2c X.1 X.2.1 hd hv (k p e s m args below meth c H locs ls X r hl h)
theorem sv_ldcS (hM : M.1.cls = "DomainHouse$Reader") (hd : decode M.2.1 pc = .ok (.ldc 105, 2)) (k : sV g M R Z (pc + 2) lv (.retAddr (sg_q g + 1) :: st) hp ce sl) : sV g M R Z pc lv st hp ce sl := by
  intro p e s m args below meth c H locs ls X r hl h
  obtain ⟨⟨tx, hz⟩, -⟩ := X.2.2.2.2.2.2.1.2.2.2
  exact va_ldcS X.1 X.2.1 (by rw [← hM]; exact X.2.2.2.2.1) hz hd (k p e s m args below meth c H locs ls X r hl h)
theorem sv_getSv {index : Nat} (hd : decode M.2.1 pc = .ok (.getfield index, 3)) (hlk : Cond.fieldLink M.1.cls index "java/lang/String" "value" "[B" ∈ sg_ws g) (k : sV g M R Z (pc + 3) lv (.retAddr (sg_v g + 1) :: st) hp ce sl) : sV g M R Z pc lv (.retAddr (sg_q g + 1) :: st) hp ce sl := by
  intro p e s m args below meth c H locs ls X r hl h
  obtain ⟨-, -, -, ⟨cf, kf, fi, f, cell, h1, h2, h3, h4, h5, h6⟩, -⟩ := X.2.2.2.2.2.2.1.2.2.2
  exact W.getf X.1 X.2.1 X.2.2.2.2.1 (X.2.2.2.2.2.1 _ hlk) h1 h2 (sStg.heap r h3) h4 (v := .ref (sg_v g)) h5 rfl rfl hd (k p e s m args below meth c H locs ls X r hl h)
theorem sv_getSc {index : Nat} (hd : decode M.2.1 pc = .ok (.getfield index, 3)) (hlk : Cond.fieldLink M.1.cls index "java/lang/String" "coder" "B" ∈ sg_ws g) (k : sV g M R Z (pc + 3) lv (.int 0 :: st) hp ce sl) : sV g M R Z pc lv (.retAddr (sg_q g + 1) :: st) hp ce sl := by
  intro p e s m args below meth c H locs ls X r hl h
  obtain ⟨-, -, ⟨cf, kf, fi, f, cell, h1, h2, h3, h4, h5, h6⟩, -⟩ := X.2.2.2.2.2.2.1.2.2.2
  exact W.getf X.1 X.2.1 X.2.2.2.2.1 (X.2.2.2.2.2.1 _ hlk) h1 h2 (sStg.heap r h3) h4 (v := .int 0) h5 rfl rfl hd (k p e s m args below meth c H locs ls X r hl h)
theorem sv_lenS (hd : decode M.2.1 pc = .ok (.arraylength, 1)) (k : sV g M R Z (pc + 1) lv (.int 147 :: st) hp ce sl) : sV g M R Z pc lv (.retAddr (sg_v g + 1) :: st) hp ce sl := by
  intro p e s m args below meth c H locs ls X r hl h
  obtain ⟨-, -, -, -, ⟨f, cell, h1, h2, h3, h4, h5, h6, h7⟩, -⟩ := X.2.2.2.2.2.2.1.2.2.2
  exact W.alen (n := 147) X.1 X.2.1 (sStg.heap r h1) h2 (by rw [h5]; rfl) rfl rfl hd (k p e s m args below meth c H locs ls X r hl h)
theorem sv_balS {i : Int32} (hd : decode M.2.1 pc = .ok (.baload, 1)) (hin : vp_in i 147) (k : ∀ x : Int32, sV g M R Z (pc + 1) lv (.int x :: st) hp ce sl) : sV g M R Z pc lv (.int i :: .retAddr (sg_v g + 1) :: st) hp ce sl := by
  intro p e s m args below meth c H locs ls X r hl h
  obtain ⟨-, -, -, -, ⟨f, cell, h1, h2, h3, h4, h5, h6, h7⟩, -⟩ := X.2.2.2.2.2.2.1.2.2.2
  have hlt : i.toNatClampNeg < 147 := Nat.not_le.mp fun q => hin (Or.inr q)
  exact W.bald (v := .int (f i.toNatClampNeg)) X.1 X.2.1 (sStg.heap r h1) h2 h3 (fun q => hin (q.imp id (fun z => by omega))) (h6 _ hlt) rfl rfl hd (k _ p e s m args below meth c H locs ls X r hl h)
theorem sv_gstC {index : Nat} (hd : decode M.2.1 pc = .ok (.getstatic index, 3)) (hlk : Cond.fieldLink M.1.cls index "java/lang/String" "COMPACT_STRINGS" "Z" ∈ sg_ws g) (k : sV g M R Z (pc + 3) lv (.int 1 :: st) hp ce sl) : sV g M R Z pc lv st hp ce sl := by
  intro p e s m args below meth c H locs ls X r hl h
  obtain ⟨-, -, -, -, -, ⟨cf, kf, fi, f, a, cell, h1, h2, h3, h4, h5, h6, h7, h8⟩, -⟩ := X.2.2.2.2.2.2.1.2.2.2
  exact W.gets X.1 X.2.1 X.2.2.2.2.1 (X.2.2.2.2.2.1 _ hlk) h1 h2 h3 h4 (sStg.heap r h5) (fun e => by rw [e] at h6; cases h6) h7 rfl hd (k p e s m args below meth c H locs ls X r hl h)
theorem sv_gstF {index : Nat} (hd : decode M.2.1 pc = .ok (.getstatic index, 3)) (hlk : Cond.fieldLink M.1.cls index "jdk/internal/util/Preconditions" "SIOOBE_FORMATTER" "Ljava/util/function/BiFunction;" ∈ sg_ws g) (k : sV g M R Z (pc + 3) lv (sg_f g :: st) hp ce sl) : sV g M R Z pc lv st hp ce sl := by
  intro p e s m args below meth c H locs ls X r hl h
  obtain ⟨-, -, -, -, -, -, ⟨cf, kf, fi, f, a, cell, h1, h2, h3, h4, h5, h6, h7, h8⟩, -⟩ := X.2.2.2.2.2.2.1.2.2.2
  exact W.gets X.1 X.2.1 X.2.2.2.2.1 (X.2.2.2.2.2.1 _ hlk) h1 h2 h3 h4 (sStg.heap r h5) (fun e => by rw [e] at h6; cases h6) h7 rfl hd (k p e s m args below meth c H locs ls X r hl h)
theorem sv_callVS {index : Nat} (hct : sC g M' d' C' S' (.retAddr (sg_q g + 1) :: av) hp Q') (ho : sOk g) (hd : decode M.2.1 pc = .ok (.invokevirtual index, 3)) (hm : sMt g M' av.length) (hi : Cond.instanceMethod M'.1 ∈ sg_ws g ∧ Cond.selects M'.1.cls M'.1 M'.1 ∈ sg_ws g) (hlk : Cond.methodLink M.1.cls index M'.1 ∈ sg_ws g) (hT : "java/lang/String" = M'.1.cls) (hR : d' + 1 ≤ R.frames ∧ 60 * d' + M'.2.2.1 + 19 ≤ R.locals) (hf : ce + C' ≤ R.cells ∧ sl + S' ≤ R.slots) (hs : st0 = av.reverse ++ .retAddr (sg_q g + 1) :: st) (hr8 : (st.map fun v => v.category).sum ≤ 8)
    (kk : ∀ (r : Option Value) (hp' : sHp), Q' r hp' → sV g M R Z (pc + 3) lv (r.toList ++ st) hp' (ce + C') (sl + S')) : sV g M R Z pc lv st0 hp ce sl := by
  subst hs
  intro p e s m args below meth c H locs ls X r hl h
  obtain ⟨hx, hb, hr, hml, hown, hts, hK, hlk2, hlw, hnm⟩ := id X
  obtain ⟨-, ⟨cell, h1, h2, h3, -⟩, -⟩ := hK.2.2.2
  have hrun := va_runV (g := F0 m pc ls ((av.reverse ++ .retAddr (sg_q g + 1) :: st).map (rv (sg_r g)))) (b := sg_q g) (As := av.map (rv (sg_r g))) (rest := st.map (rv (sg_r g))) (H := H) (locs := locs) (cells := ce) (slots := sl) (below := below) (meth := meth) (e := e) ⟨hx, hb, hml, hown, hts⟩ hct
    (⟨callB_of av.length hts (sGood ho hm.1) rfl rfl rfl (hts _ hm.2.1) (hts _ hlk) hm.2.2 ⟨hR.1, by show 8 + (M'.2.2.1 + 11) + 60 * d' ≤ R.locals; omega⟩, hts _ hi.1, hts _ hi.2⟩ : CallW R s args M.1.cls M'.1.cls index M'.1 M'.2.1 M'.2.2.1 M'.2.2.2 (sWs g M') (sRm d' C' S') C' S' av.length)
    ⟨sBlind, ⟨cell, sStg.heap r h1, h2, by rw [← hT]; exact h3⟩, fun U hU hW => ⟨rfl, by rw [hU]; exact r, hK.warm hW⟩⟩ rfl (by simp) h.1 (by simp [rv, rvF]) (lv_room (sRoom hr8)) hd hf
  exact sGo hrun X hl h kk
end STRJ
def yJ_slen : MethodName := ⟨"java/lang/String", "length", "()I"⟩
abbrev cJ_slen : ByteArray := prog_18_method_54_code
abbrev mJ_slen : sM := (yJ_slen, cJ_slen, 1, (some .int))
theorem wK_J_slen : Cond.code yJ_slen cJ_slen 1 (some .int) ∈ lw_ok := lw_i5 40 rfl rfl
theorem tJ_slen (l : Launch) (D : va_G) (c : Nat → ClassId) (H0 : Heap) (sa : Nat × Nat × (Nat → Int32)) : sMt (gG l D c H0 sa) mJ_slen 0 := ⟨wK_J_slen, lw_i1 17 rfl rfl, by decide +kernel⟩
def yJ_scod : MethodName := ⟨"java/lang/String", "coder", "()B"⟩
abbrev cJ_scod : ByteArray := prog_18_method_152_code
abbrev mJ_scod : sM := (yJ_scod, cJ_scod, 1, (some .byte))
theorem wK_J_scod : Cond.code yJ_scod cJ_scod 1 (some .byte) ∈ lw_ok := lw_i5 44 rfl rfl
theorem tJ_scod (l : Launch) (D : va_G) (c : Nat → ClassId) (H0 : Heap) (sa : Nat × Nat × (Nat → Int32)) : sMt (gG l D c H0 sa) mJ_scod 0 := ⟨wK_J_scod, lw_i1 17 rfl rfl, by decide +kernel⟩
def yJ_schr : MethodName := ⟨"java/lang/String", "charAt", "(I)C"⟩
abbrev cJ_schr : ByteArray := prog_18_method_56_code
abbrev mJ_schr : sM := (yJ_schr, cJ_schr, 2, (some .char))
theorem wK_J_schr : Cond.code yJ_schr cJ_schr 2 (some .char) ∈ lw_ok := lw_i5 50 rfl rfl
theorem tJ_schr (l : Launch) (D : va_G) (c : Nat → ClassId) (H0 : Heap) (sa : Nat × Nat × (Nat → Int32)) : sMt (gG l D c H0 sa) mJ_schr 1 := ⟨wK_J_schr, lw_i1 17 rfl rfl, by decide +kernel⟩
def yJ_slat : MethodName := ⟨"java/lang/String", "isLatin1", "()Z"⟩
abbrev cJ_slat : ByteArray := prog_18_method_154_code
abbrev mJ_slat : sM := (yJ_slat, cJ_slat, 1, (some .boolean))
theorem wK_J_slat : Cond.code yJ_slat cJ_slat 1 (some .boolean) ∈ lw_ok := lw_i5 54 rfl rfl
theorem tJ_slat (l : Launch) (D : va_G) (c : Nat → ClassId) (H0 : Heap) (sa : Nat × Nat × (Nat → Int32)) : sMt (gG l D c H0 sa) mJ_slat 0 := ⟨wK_J_slat, lw_i1 17 rfl rfl, by decide +kernel⟩
def yJ_lchr : MethodName := ⟨"java/lang/StringLatin1", "charAt", "([BI)C"⟩
abbrev cJ_lchr : ByteArray := prog_19_method_2_code
abbrev mJ_lchr : sM := (yJ_lchr, cJ_lchr, 2, (some .char))
theorem wK_J_lchr : Cond.code yJ_lchr cJ_lchr 2 (some .char) ∈ lw_ok := lw_i5 57 rfl rfl
theorem tJ_lchr (l : Launch) (D : va_G) (c : Nat → ClassId) (H0 : Heap) (sa : Nat × Nat × (Nat → Int32)) : sMt (gG l D c H0 sa) mJ_lchr 2 := ⟨wK_J_lchr, lw_i1 18 rfl rfl, by decide +kernel⟩
def yJ_schk : MethodName := ⟨"java/lang/String", "checkIndex", "(II)V"⟩
abbrev cJ_schk : ByteArray := prog_18_method_155_code
abbrev mJ_schk : sM := (yJ_schk, cJ_schk, 2, none)
theorem wK_J_schk : Cond.code yJ_schk cJ_schk 2 none ∈ lw_ok := lw_i5 60 rfl rfl
theorem tJ_schk (l : Launch) (D : va_G) (c : Nat → ClassId) (H0 : Heap) (sa : Nat × Nat × (Nat → Int32)) : sMt (gG l D c H0 sa) mJ_schk 2 := ⟨wK_J_schk, lw_i1 17 rfl rfl, by decide +kernel⟩
def yJ_pchk : MethodName := ⟨"jdk/internal/util/Preconditions", "checkIndex", "(IILjava/util/function/BiFunction;)I"⟩
abbrev cJ_pchk : ByteArray := prog_23_method_11_code
abbrev mJ_pchk : sM := (yJ_pchk, cJ_pchk, 3, (some .int))
theorem wK_J_pchk : Cond.code yJ_pchk cJ_pchk 3 (some .int) ∈ lw_ok := lw_i5 65 rfl rfl
theorem tJ_pchk (l : Launch) (D : va_G) (c : Nat → ClassId) (H0 : Heap) (sa : Nat × Nat × (Nat → Int32)) : sMt (gG l D c H0 sa) mJ_pchk 3 := ⟨wK_J_pchk, lw_i1 19 rfl rfl, by decide +kernel⟩
theorem wF_J_38 : Cond.fieldLink "java/lang/String" 38 "java/lang/String" "COMPACT_STRINGS" "Z" ∈ lw_ok := lw_i5 45 rfl rfl
theorem wF_J_1053 : Cond.fieldLink "java/lang/String" 1053 "jdk/internal/util/Preconditions" "SIOOBE_FORMATTER" "Ljava/util/function/BiFunction;" ∈ lw_ok := lw_i5 61 rfl rfl
theorem wF_J_9 : Cond.fieldLink "java/lang/String" 9 "java/lang/String" "value" "[B" ∈ lw_ok := lw_i11 190 rfl rfl
theorem wF_J_15 : Cond.fieldLink "java/lang/String" 15 "java/lang/String" "coder" "B" ∈ lw_ok := lw_i11 191 rfl rfl
theorem dJ_slen_0 : decode cJ_slen 0 = .ok (.aload_n 0, 1) := by decide +kernel
theorem dJ_slen_1 : decode cJ_slen 1 = .ok (.getfield 9, 3) := by decide +kernel
theorem dJ_slen_4 : decode cJ_slen 4 = .ok (.arraylength, 1) := by decide +kernel
theorem dJ_slen_5 : decode cJ_slen 5 = .ok (.aload_n 0, 1) := by decide +kernel
theorem dJ_slen_6 : decode cJ_slen 6 = .ok (.invokevirtual 335, 3) := by decide +kernel
theorem dJ_slen_9 : decode cJ_slen 9 = .ok (.ishr, 1) := by decide +kernel
theorem dJ_slen_10 : decode cJ_slen 10 = .ok (.ireturn, 1) := by decide +kernel
theorem dJ_scod_0 : decode cJ_scod 0 = .ok (.getstatic 38, 3) := by decide +kernel
theorem dJ_scod_3 : decode cJ_scod 3 = .ok (.ifCond .eq 10, 3) := by decide +kernel
theorem dJ_scod_6 : decode cJ_scod 6 = .ok (.aload_n 0, 1) := by decide +kernel
theorem dJ_scod_7 : decode cJ_scod 7 = .ok (.getfield 15, 3) := by decide +kernel
theorem dJ_scod_10 : decode cJ_scod 10 = .ok (.goto 4, 3) := by decide +kernel
theorem dJ_scod_14 : decode cJ_scod 14 = .ok (.ireturn, 1) := by decide +kernel
theorem dJ_schr_0 : decode cJ_schr 0 = .ok (.aload_n 0, 1) := by decide +kernel
theorem dJ_schr_1 : decode cJ_schr 1 = .ok (.invokevirtual 492, 3) := by decide +kernel
theorem dJ_schr_4 : decode cJ_schr 4 = .ok (.ifCond .eq 12, 3) := by decide +kernel
theorem dJ_schr_7 : decode cJ_schr 7 = .ok (.aload_n 0, 1) := by decide +kernel
theorem dJ_schr_8 : decode cJ_schr 8 = .ok (.getfield 9, 3) := by decide +kernel
theorem dJ_schr_11 : decode cJ_schr 11 = .ok (.iload_n 1, 1) := by decide +kernel
theorem dJ_schr_12 : decode cJ_schr 12 = .ok (.invokestatic 495, 3) := by decide +kernel
theorem dJ_schr_15 : decode cJ_schr 15 = .ok (.ireturn, 1) := by decide +kernel
theorem dJ_slat_0 : decode cJ_slat 0 = .ok (.getstatic 38, 3) := by decide +kernel
theorem dJ_slat_3 : decode cJ_slat 3 = .ok (.ifCond .eq 14, 3) := by decide +kernel
theorem dJ_slat_6 : decode cJ_slat 6 = .ok (.aload_n 0, 1) := by decide +kernel
theorem dJ_slat_7 : decode cJ_slat 7 = .ok (.getfield 15, 3) := by decide +kernel
theorem dJ_slat_10 : decode cJ_slat 10 = .ok (.ifCond .ne 7, 3) := by decide +kernel
theorem dJ_slat_13 : decode cJ_slat 13 = .ok (.iconst 1, 1) := by decide +kernel
theorem dJ_slat_14 : decode cJ_slat 14 = .ok (.goto 4, 3) := by decide +kernel
theorem dJ_slat_18 : decode cJ_slat 18 = .ok (.ireturn, 1) := by decide +kernel
theorem dJ_lchr_0 : decode cJ_lchr 0 = .ok (.iload_n 1, 1) := by decide +kernel
theorem dJ_lchr_1 : decode cJ_lchr 1 = .ok (.aload_n 0, 1) := by decide +kernel
theorem dJ_lchr_2 : decode cJ_lchr 2 = .ok (.arraylength, 1) := by decide +kernel
theorem dJ_lchr_3 : decode cJ_lchr 3 = .ok (.invokestatic 9, 3) := by decide +kernel
theorem dJ_lchr_6 : decode cJ_lchr 6 = .ok (.aload_n 0, 1) := by decide +kernel
theorem dJ_lchr_7 : decode cJ_lchr 7 = .ok (.iload_n 1, 1) := by decide +kernel
theorem dJ_lchr_8 : decode cJ_lchr 8 = .ok (.baload, 1) := by decide +kernel
theorem dJ_lchr_9 : decode cJ_lchr 9 = .ok (.sipush 255, 3) := by decide +kernel
theorem dJ_lchr_12 : decode cJ_lchr 12 = .ok (.iand, 1) := by decide +kernel
theorem dJ_lchr_13 : decode cJ_lchr 13 = .ok (.i2c, 1) := by decide +kernel
theorem dJ_lchr_14 : decode cJ_lchr 14 = .ok (.ireturn, 1) := by decide +kernel
theorem dJ_schk_0 : decode cJ_schk 0 = .ok (.iload_n 0, 1) := by decide +kernel
theorem dJ_schk_1 : decode cJ_schk 1 = .ok (.iload_n 1, 1) := by decide +kernel
theorem dJ_schk_2 : decode cJ_schk 2 = .ok (.getstatic 1053, 3) := by decide +kernel
theorem dJ_schk_5 : decode cJ_schk 5 = .ok (.invokestatic 1059, 3) := by decide +kernel
theorem dJ_schk_8 : decode cJ_schk 8 = .ok (.pop, 1) := by decide +kernel
theorem dJ_schk_9 : decode cJ_schk 9 = .ok (.return_, 1) := by decide +kernel
theorem dJ_pchk_0 : decode cJ_pchk 0 = .ok (.iload_n 0, 1) := by decide +kernel
theorem dJ_pchk_1 : decode cJ_pchk 1 = .ok (.ifCond .lt 8, 3) := by decide +kernel
theorem dJ_pchk_4 : decode cJ_pchk 4 = .ok (.iload_n 0, 1) := by decide +kernel
theorem dJ_pchk_5 : decode cJ_pchk 5 = .ok (.iload_n 1, 1) := by decide +kernel
theorem dJ_pchk_6 : decode cJ_pchk 6 = .ok (.if_icmp .lt 10, 3) := by decide +kernel
theorem dJ_pchk_16 : decode cJ_pchk 16 = .ok (.iload_n 0, 1) := by decide +kernel
theorem dJ_pchk_17 : decode cJ_pchk 17 = .ok (.ireturn, 1) := by decide +kernel
theorem str_c (z : Nat) (hz : z < 256) : ((nI z).toUInt32 % 65536).toInt32 = nI z := by
  have h : ∀ z : Fin 256, ((nI z.val).toUInt32 % 65536).toInt32 = nI z.val := by decide +kernel
  exact h ⟨z, hz⟩
section STRC
variable {l : Launch} {D : va_G} {c : Nat → ClassId} {H0 : Heap} {sa : Nat × Nat × (Nat → Int32)} {hp : sHp} {d : Nat}
theorem c_pchk {x y : Int32} {f : Nat} (hd : 1 ≤ d) (h0 : ¬ x < 0) (h1 : x < y) : sC (gG l D c H0 sa) mJ_pchk d 0 0 [.int x, .int y, sg_fk f] hp (fun r hp' => r = some (.int x) ∧ hp' = hp) := by
  refine sC.of rfl (by decide) (by cases f <;> exact le_t rfl) ?_
  have e : lv_args 0 [Value.int x, .int y, sg_fk f] = [(0, .int x), (1, .int y), (2, sg_fk f)] := rfl
  rw [e]
  refine sv_iload_n (pc := 0) dJ_pchk_0 rfl rfl ?_
  refine sv_if_lt (pc := 1) (tgt := 9) dJ_pchk_1 (by decide) (fun h => absurd h h0) (fun _ => ?_)
  refine sv_iload_n (pc := 4) dJ_pchk_4 rfl rfl ?_
  refine sv_iload_n (pc := 5) dJ_pchk_5 rfl rfl ?_
  refine sv_icmp_lt (pc := 6) (tgt := 16) dJ_pchk_6 (by decide) (fun _ => ?_) (fun h => absurd h1 h)
  refine sv_iload_n (pc := 16) dJ_pchk_16 rfl rfl ?_
  exact sv_iret (pc := 17) dJ_pchk_17 rfl (Nat.le_refl _) (Nat.le_refl _) ⟨rfl, rfl⟩
theorem c_schk {x y : Int32} (hd : 3 ≤ d) (h0 : ¬ x < 0) (h1 : x < y) : sC (gG l D c H0 sa) mJ_schk d 0 0 [.int x, .int y] hp (fun r hp' => r = none ∧ hp' = hp) := by
  refine sC.of rfl (by decide) (le_t rfl) ?_
  refine sv_iload_n (pc := 0) dJ_schk_0 rfl rfl ?_
  refine sv_iload_n (pc := 1) dJ_schk_1 rfl rfl ?_
  refine sv_gstF (pc := 2) dJ_schk_2 wF_J_1053 ?_
  refine sv_callS (pc := 5) (d' := 1) (av := [.int x, .int y, sg_fk _]) (st := []) (c_pchk (Nat.le_refl _) h0 h1) (gOk l D c H0 sa) dJ_schk_5 (tJ_pchk l D c H0 sa) wS_Preconditions_checkIndex__IILjava_util_function_BiFunction__I wM_String_1059 ⟨by show 1 + 1 ≤ d; omega, by show 60 * 1 + 3 + 19 ≤ 60 * d; omega⟩ ⟨Nat.le_refl _, Nat.le_refl _⟩ rfl (le_t rfl) ?_
  rintro r hp' ⟨rfl, rfl⟩
  refine sv_pop (pc := 8) (st := []) dJ_schk_8 rfl ?_
  exact sv_vret (pc := 9) dJ_schk_9 rfl (Nat.le_refl _) (Nat.le_refl _) ⟨rfl, rfl⟩
theorem c_lchr {x : Int32} (hd : 5 ≤ d) (h0 : ¬ x < 0) (h1 : x < 147) : sC (gG l D c H0 sa) mJ_lchr d 0 0 [.retAddr (sg_v (gG l D c H0 sa) + 1), .int x] hp (fun r hp' => (∃ z : Nat, z < 256 ∧ r = some (.int (nI z))) ∧ hp' = hp) := by
  refine sC.of rfl (by decide) (le_t rfl) ?_
  refine sv_iload_n (pc := 0) dJ_lchr_0 rfl rfl ?_
  refine sv_aload_nS (pc := 1) dJ_lchr_1 rfl rfl ?_
  refine sv_lenS (pc := 2) dJ_lchr_2 ?_
  refine sv_callS (pc := 3) (d' := 3) (av := [.int x, .int 147]) (st := []) (c_schk (Nat.le_refl _) h0 h1) (gOk l D c H0 sa) dJ_lchr_3 (tJ_schk l D c H0 sa) wS_String_checkIndex__II_V wM_StringLatin1_9 ⟨by show 3 + 1 ≤ d; omega, by show 60 * 3 + 2 + 19 ≤ 60 * d; omega⟩ ⟨Nat.le_refl _, Nat.le_refl _⟩ rfl (le_t rfl) ?_
  rintro r hp' ⟨rfl, rfl⟩
  refine sv_aload_nS (pc := 6) (st := []) dJ_lchr_6 rfl rfl ?_
  refine sv_iload_n (pc := 7) dJ_lchr_7 rfl rfl ?_
  have hx : x.toNatClampNeg < 147 := by
    have a : ¬ x.toInt < 0 := fun z => h0 (Int32.lt_iff_toInt_lt.mpr z)
    have b : x.toInt < 147 := Int32.lt_iff_toInt_lt.mp h1
    show x.toInt.toNat < 147
    omega
  refine sv_balS (pc := 8) dJ_lchr_8 (fun q => q.elim h0 (fun z => absurd hx (by omega))) (fun b => ?_)
  refine sv_sipush (pc := 9) (v := 255) dJ_lchr_9 (by decide) ?_
  refine sv_iand (pc := 12) dJ_lchr_12 ?_
  obtain ⟨z, hz, ez⟩ := pk_andE b (m := 255) 8 (by decide)
  rw [ez]
  refine sv_i2c (pc := 13) (v := nI z) dJ_lchr_13 (str_c z (by omega)) ?_
  exact sv_zret (pc := 14) (ty := .char) dJ_lchr_14 rfl (pk_charN (q := z) (by omega)).1 (Nat.le_refl _) (Nat.le_refl _) ⟨⟨z, hz, rfl⟩, rfl⟩
theorem c_scod (hd : 1 ≤ d) : sC (gG l D c H0 sa) mJ_scod d 0 0 [.retAddr (sg_q (gG l D c H0 sa) + 1)] hp (fun r hp' => r = some (.int 0) ∧ hp' = hp) := by
  refine sC.of rfl (by decide) (le_t rfl) ?_
  refine sv_gstC (pc := 0) dJ_scod_0 wF_J_38 ?_
  refine sv_if_eq (pc := 3) (tgt := 13) dJ_scod_3 (by decide) (fun h => absurd h (by decide)) (fun _ => ?_)
  refine sv_aload_nS (pc := 6) dJ_scod_6 rfl rfl ?_
  refine sv_getSc (pc := 7) dJ_scod_7 wF_J_15 ?_
  refine sv_goto (pc := 10) (tgt := 14) dJ_scod_10 (by decide) ?_
  exact sv_zret (pc := 14) (ty := .byte) dJ_scod_14 rfl rfl (Nat.le_refl _) (Nat.le_refl _) ⟨rfl, rfl⟩
theorem c_slat (hd : 1 ≤ d) : sC (gG l D c H0 sa) mJ_slat d 0 0 [.retAddr (sg_q (gG l D c H0 sa) + 1)] hp (fun r hp' => r = some (.int 1) ∧ hp' = hp) := by
  refine sC.of rfl (by decide) (le_t rfl) ?_
  refine sv_gstC (pc := 0) dJ_slat_0 wF_J_38 ?_
  refine sv_if_eq (pc := 3) (tgt := 17) dJ_slat_3 (by decide) (fun h => absurd h (by decide)) (fun _ => ?_)
  refine sv_aload_nS (pc := 6) dJ_slat_6 rfl rfl ?_
  refine sv_getSc (pc := 7) dJ_slat_7 wF_J_15 ?_
  refine sv_if_ne (pc := 10) (tgt := 17) dJ_slat_10 (by decide) (fun h => absurd rfl h) (fun _ => ?_)
  refine sv_iconst (pc := 13) (v := 1) dJ_slat_13 (by decide) ?_
  refine sv_goto (pc := 14) (tgt := 18) dJ_slat_14 (by decide) ?_
  exact sv_zret (pc := 18) (ty := .boolean) dJ_slat_18 rfl rfl (Nat.le_refl _) (Nat.le_refl _) ⟨rfl, rfl⟩
theorem c_slen (hd : 3 ≤ d) : sC (gG l D c H0 sa) mJ_slen d 0 0 [.retAddr (sg_q (gG l D c H0 sa) + 1)] hp (fun r hp' => r = some (.int 147) ∧ hp' = hp) := by
  refine sC.of rfl (by decide) (le_t rfl) ?_
  refine sv_aload_nS (pc := 0) dJ_slen_0 rfl rfl ?_
  refine sv_getSv (pc := 1) dJ_slen_1 wF_J_9 ?_
  refine sv_lenS (pc := 4) dJ_slen_4 ?_
  refine sv_aload_nS (pc := 5) dJ_slen_5 rfl rfl ?_
  refine sv_callVS (pc := 6) (d' := 1) (av := []) (st := [.int 147]) (c_scod (Nat.le_refl _)) (gOk l D c H0 sa) dJ_slen_6 (tJ_scod l D c H0 sa) ⟨wV_String_coder___B, wL_String_coder___B⟩ wM_String_335 rfl ⟨by show 1 + 1 ≤ d; omega, by show 60 * 1 + 1 + 19 ≤ 60 * d; omega⟩ ⟨Nat.le_refl _, Nat.le_refl _⟩ rfl (le_t rfl) ?_
  rintro r hp' ⟨rfl, rfl⟩
  refine sv_ishr (pc := 9) (st := []) dJ_slen_9 ?_
  exact sv_iret (pc := 10) dJ_slen_10 rfl (Nat.le_refl _) (Nat.le_refl _) ⟨by decide, rfl⟩
theorem c_schr {x : Int32} (hd : 7 ≤ d) (h0 : ¬ x < 0) (h1 : x < 147) : sC (gG l D c H0 sa) mJ_schr d 0 0 [.retAddr (sg_q (gG l D c H0 sa) + 1), .int x] hp (fun r hp' => (∃ z : Nat, z < 256 ∧ r = some (.int (nI z))) ∧ hp' = hp) := by
  refine sC.of rfl (by decide) (le_t rfl) ?_
  refine sv_aload_nS (pc := 0) dJ_schr_0 rfl rfl ?_
  refine sv_callVS (pc := 1) (d' := 1) (av := []) (st := []) (c_slat (Nat.le_refl _)) (gOk l D c H0 sa) dJ_schr_1 (tJ_slat l D c H0 sa) ⟨wV_String_isLatin1___Z, wL_String_isLatin1___Z⟩ wM_String_492 rfl ⟨by show 1 + 1 ≤ d; omega, by show 60 * 1 + 1 + 19 ≤ 60 * d; omega⟩ ⟨Nat.le_refl _, Nat.le_refl _⟩ rfl (le_t rfl) ?_
  rintro r hp' ⟨rfl, rfl⟩
  refine sv_if_eq (pc := 4) (tgt := 16) (st := []) dJ_schr_4 (by decide) (fun h => absurd h (by decide)) (fun _ => ?_)
  refine sv_aload_nS (pc := 7) dJ_schr_7 rfl rfl ?_
  refine sv_getSv (pc := 8) dJ_schr_8 wF_J_9 ?_
  refine sv_iload_n (pc := 11) dJ_schr_11 rfl rfl ?_
  refine sv_callS (pc := 12) (d' := 5) (av := [.retAddr _, .int x]) (st := []) (c_lchr (Nat.le_refl _) h0 h1) (gOk l D c H0 sa) dJ_schr_12 (tJ_lchr l D c H0 sa) wS_StringLatin1_charAt___BI_C wM_String_495 ⟨by show 5 + 1 ≤ d; omega, by show 60 * 5 + 2 + 19 ≤ 60 * d; omega⟩ ⟨Nat.le_refl _, Nat.le_refl _⟩ rfl (le_t rfl) ?_
  rintro r hp' ⟨⟨z, hz, rfl⟩, rfl⟩
  exact sv_zret (pc := 15) (ty := .char) dJ_schr_15 rfl (pk_charN (q := z) (by omega)).1 (Nat.le_refl _) (Nat.le_refl _) ⟨⟨z, hz, rfl⟩, rfl⟩
end STRC
