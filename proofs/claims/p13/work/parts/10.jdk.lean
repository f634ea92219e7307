def yJ_fillI : MethodName := ⟨"java/util/Arrays", "fill", "([II)V"⟩
abbrev cJ_fillI : ByteArray := prog_22_method_103_code
abbrev mJ_fillI : sM := (yJ_fillI, cJ_fillI, 4, none)
theorem wK_J_fillI : Cond.code yJ_fillI cJ_fillI 4 none ∈ lw_ok := lw_i2 79 rfl rfl
theorem wS_J_fillI : Cond.static yJ_fillI ∈ lw_ok := lw_i2 78 rfl rfl
theorem tJ_fillI (l : Launch) (D : va_G) (c : Nat → ClassId) (H0 : Heap) (sa : Nat × Nat × (Nat → Int32)) : sMt (gG l D c H0 sa) mJ_fillI 2 := ⟨wK_J_fillI, lw_i1 7 rfl rfl, by decide +kernel⟩
def yJ_fillB : MethodName := ⟨"java/util/Arrays", "fill", "([BB)V"⟩
abbrev cJ_fillB : ByteArray := prog_22_method_109_code
abbrev mJ_fillB : sM := (yJ_fillB, cJ_fillB, 4, none)
theorem wK_J_fillB : Cond.code yJ_fillB cJ_fillB 4 none ∈ lw_ok := lw_i7 181 rfl rfl
theorem wS_J_fillB : Cond.static yJ_fillB ∈ lw_ok := lw_i7 180 rfl rfl
theorem tJ_fillB (l : Launch) (D : va_G) (c : Nat → ClassId) (H0 : Heap) (sa : Nat × Nat × (Nat → Int32)) : sMt (gG l D c H0 sa) mJ_fillB 2 := ⟨wK_J_fillB, lw_i1 7 rfl rfl, by decide +kernel⟩
def yJ_copyI : MethodName := ⟨"java/util/Arrays", "copyOf", "([II)[I"⟩
abbrev cJ_copyI : ByteArray := prog_22_method_123_code
abbrev mJ_copyI : sM := (yJ_copyI, cJ_copyI, 3, (some (Jvm.ClassFile.FieldType.array Jvm.ClassFile.FieldType.int)))
theorem wK_J_copyI : Cond.code yJ_copyI cJ_copyI 3 (some (Jvm.ClassFile.FieldType.array Jvm.ClassFile.FieldType.int)) ∈ lw_ok := lw_i5 195 rfl rfl
theorem wS_J_copyI : Cond.static yJ_copyI ∈ lw_ok := lw_i5 194 rfl rfl
theorem tJ_copyI (l : Launch) (D : va_G) (c : Nat → ClassId) (H0 : Heap) (sa : Nat × Nat × (Nat → Int32)) : sMt (gG l D c H0 sa) mJ_copyI 2 := ⟨wK_J_copyI, lw_i1 7 rfl rfl, by decide +kernel⟩
def yJ_copyJ : MethodName := ⟨"java/util/Arrays", "copyOf", "([JI)[J"⟩
abbrev cJ_copyJ : ByteArray := prog_22_method_124_code
abbrev mJ_copyJ : sM := (yJ_copyJ, cJ_copyJ, 3, (some (Jvm.ClassFile.FieldType.array Jvm.ClassFile.FieldType.long)))
theorem wK_J_copyJ : Cond.code yJ_copyJ cJ_copyJ 3 (some (Jvm.ClassFile.FieldType.array Jvm.ClassFile.FieldType.long)) ∈ lw_ok := lw_i5 207 rfl rfl
theorem wS_J_copyJ : Cond.static yJ_copyJ ∈ lw_ok := lw_i5 206 rfl rfl
theorem tJ_copyJ (l : Launch) (D : va_G) (c : Nat → ClassId) (H0 : Heap) (sa : Nat × Nat × (Nat → Int32)) : sMt (gG l D c H0 sa) mJ_copyJ 2 := ⟨wK_J_copyJ, lw_i1 7 rfl rfl, by decide +kernel⟩
def yJ_min : MethodName := ⟨"java/lang/Math", "min", "(II)I"⟩
abbrev cJ_min : ByteArray := prog_17_method_69_code
abbrev mJ_min : sM := (yJ_min, cJ_min, 2, (some Jvm.ClassFile.FieldType.int))
theorem wK_J_min : Cond.code yJ_min cJ_min 2 (some Jvm.ClassFile.FieldType.int) ∈ lw_ok := lw_i4 203 rfl rfl
theorem wS_J_min : Cond.static yJ_min ∈ lw_ok := lw_i4 202 rfl rfl
theorem tJ_min (l : Launch) (D : va_G) (c : Nat → ClassId) (H0 : Heap) (sa : Nat × Nat × (Nat → Int32)) : sMt (gG l D c H0 sa) mJ_min 2 := ⟨wK_J_min, lw_i1 16 rfl rfl, by decide +kernel⟩
def yJ_max : MethodName := ⟨"java/lang/Math", "max", "(II)I"⟩
abbrev cJ_max : ByteArray := prog_17_method_65_code
abbrev mJ_max : sM := (yJ_max, cJ_max, 2, (some Jvm.ClassFile.FieldType.int))
theorem wK_J_max : Cond.code yJ_max cJ_max 2 (some Jvm.ClassFile.FieldType.int) ∈ lw_ok := lw_i7 178 rfl rfl
theorem wS_J_max : Cond.static yJ_max ∈ lw_ok := lw_i7 177 rfl rfl
theorem tJ_max (l : Launch) (D : va_G) (c : Nat → ClassId) (H0 : Heap) (sa : Nat × Nat × (Nat → Int32)) : sMt (gG l D c H0 sa) mJ_max 2 := ⟨wK_J_max, lw_i1 16 rfl rfl, by decide +kernel⟩
def yJ_cmp : MethodName := ⟨"java/lang/Integer", "compare", "(II)I"⟩
abbrev cJ_cmp : ByteArray := prog_16_method_40_code
abbrev mJ_cmp : sM := (yJ_cmp, cJ_cmp, 2, (some Jvm.ClassFile.FieldType.int))
theorem wK_J_cmp : Cond.code yJ_cmp cJ_cmp 2 (some Jvm.ClassFile.FieldType.int) ∈ lw_ok := lw_i4 61 rfl rfl
theorem wS_J_cmp : Cond.static yJ_cmp ∈ lw_ok := lw_i4 60 rfl rfl
theorem tJ_cmp (l : Launch) (D : va_G) (c : Nat → ClassId) (H0 : Heap) (sa : Nat × Nat × (Nat → Int32)) : sMt (gG l D c H0 sa) mJ_cmp 2 := ⟨wK_J_cmp, lw_i1 15 rfl rfl, by decide +kernel⟩
def yJ_bits : MethodName := ⟨"java/lang/Integer", "bitCount", "(I)I"⟩
abbrev cJ_bits : ByteArray := prog_16_method_49_code
abbrev mJ_bits : sM := (yJ_bits, cJ_bits, 1, (some Jvm.ClassFile.FieldType.int))
theorem wK_J_bits : Cond.code yJ_bits cJ_bits 1 (some Jvm.ClassFile.FieldType.int) ∈ lw_ok := lw_i4 184 rfl rfl
theorem wS_J_bits : Cond.static yJ_bits ∈ lw_ok := lw_i4 183 rfl rfl
theorem tJ_bits (l : Launch) (D : va_G) (c : Nat → ClassId) (H0 : Heap) (sa : Nat × Nat × (Nat → Int32)) : sMt (gG l D c H0 sa) mJ_bits 1 := ⟨wK_J_bits, lw_i1 15 rfl rfl, by decide +kernel⟩
theorem dJ_fillI_0 : decode cJ_fillI 0 = .ok (.iconst 0, 1) := by decide +kernel
theorem dJ_fillI_1 : decode cJ_fillI 1 = .ok (.istore_n 2, 1) := by decide +kernel
theorem dJ_fillI_2 : decode cJ_fillI 2 = .ok (.aload_n 0, 1) := by decide +kernel
theorem dJ_fillI_3 : decode cJ_fillI 3 = .ok (.arraylength, 1) := by decide +kernel
theorem dJ_fillI_4 : decode cJ_fillI 4 = .ok (.istore_n 3, 1) := by decide +kernel
theorem dJ_fillI_5 : decode cJ_fillI 5 = .ok (.iload_n 2, 1) := by decide +kernel
theorem dJ_fillI_6 : decode cJ_fillI 6 = .ok (.iload_n 3, 1) := by decide +kernel
theorem dJ_fillI_7 : decode cJ_fillI 7 = .ok (.if_icmp .ge 13, 3) := by decide +kernel
theorem dJ_fillI_10 : decode cJ_fillI 10 = .ok (.aload_n 0, 1) := by decide +kernel
theorem dJ_fillI_11 : decode cJ_fillI 11 = .ok (.iload_n 2, 1) := by decide +kernel
theorem dJ_fillI_12 : decode cJ_fillI 12 = .ok (.iload_n 1, 1) := by decide +kernel
theorem dJ_fillI_13 : decode cJ_fillI 13 = .ok (.iastore, 1) := by decide +kernel
theorem dJ_fillI_14 : decode cJ_fillI 14 = .ok (.iinc 2 1, 3) := by decide +kernel
theorem dJ_fillI_17 : decode cJ_fillI 17 = .ok (.goto (-12), 3) := by decide +kernel
theorem dJ_fillI_20 : decode cJ_fillI 20 = .ok (.return_, 1) := by decide +kernel
theorem dJ_fillB_0 : decode cJ_fillB 0 = .ok (.iconst 0, 1) := by decide +kernel
theorem dJ_fillB_1 : decode cJ_fillB 1 = .ok (.istore_n 2, 1) := by decide +kernel
theorem dJ_fillB_2 : decode cJ_fillB 2 = .ok (.aload_n 0, 1) := by decide +kernel
theorem dJ_fillB_3 : decode cJ_fillB 3 = .ok (.arraylength, 1) := by decide +kernel
theorem dJ_fillB_4 : decode cJ_fillB 4 = .ok (.istore_n 3, 1) := by decide +kernel
theorem dJ_fillB_5 : decode cJ_fillB 5 = .ok (.iload_n 2, 1) := by decide +kernel
theorem dJ_fillB_6 : decode cJ_fillB 6 = .ok (.iload_n 3, 1) := by decide +kernel
theorem dJ_fillB_7 : decode cJ_fillB 7 = .ok (.if_icmp .ge 13, 3) := by decide +kernel
theorem dJ_fillB_10 : decode cJ_fillB 10 = .ok (.aload_n 0, 1) := by decide +kernel
theorem dJ_fillB_11 : decode cJ_fillB 11 = .ok (.iload_n 2, 1) := by decide +kernel
theorem dJ_fillB_12 : decode cJ_fillB 12 = .ok (.iload_n 1, 1) := by decide +kernel
theorem dJ_fillB_13 : decode cJ_fillB 13 = .ok (.bastore, 1) := by decide +kernel
theorem dJ_fillB_14 : decode cJ_fillB 14 = .ok (.iinc 2 1, 3) := by decide +kernel
theorem dJ_fillB_17 : decode cJ_fillB 17 = .ok (.goto (-12), 3) := by decide +kernel
theorem dJ_fillB_20 : decode cJ_fillB 20 = .ok (.return_, 1) := by decide +kernel
theorem sUp_sUp (f : Nat → sE) (a : Nat) (x y : sE) : sUp (sUp f a x) a y = sUp f a y := by funext j; simp only [sUp]; split <;> rfl
theorem sUp_at (f : Nat → sE) (a : Nat) (x : sE) : sUp f a x a = x := by simp only [sUp, if_true]
theorem sUp_ne (f : Nat → sE) {a b : Nat} (x : sE) (h : b ≠ a) : sUp f a x b = f b := by simp only [sUp, if_neg h]
def sFill (n : Nat) (v : Value) (f : Nat → Value) : Nat → Value := fun j => if j < n then v else f j
theorem sFill_up (i : Nat) (v : Value) (f : Nat → Value) : updV (sFill i v f) i v = sFill (i + 1) v f := by
  funext j
  simp only [updV, sFill]
  by_cases h : j = i
  · subst h; simp
  · by_cases h2 : j < i
    · rw [if_neg h, if_pos h2, if_pos (by omega)]
    · rw [if_neg h, if_neg h2, if_neg (by omega)]
theorem sFill_0 (v : Value) (f : Nat → Value) : sFill 0 v f = f := by funext j; simp [sFill]
section JDK
variable (l : Launch) (D : va_G) (c : Nat → ClassId) (H0 : Heap) (sa : Nat × Nat × (Nat → Int32))
set_option maxHeartbeats 4000000 in
theorem c_fillI_loop {d a n : Nat} {f : Nat → Value} {v : Int32} {hp : sHp} (ha : a < hp.1) (hn : n < 2 ^ 31) : ∀ (k i : Nat), i + k = n → ∀ (lv : List (Nat × Value)), sGet 0 lv = some (.ref a) → sGet 1 lv = some (.int v) → sGet 2 lv = some (.int (nI i)) → sGet 3 lv = some (.int (nI n)) →
    sV (gG l D c H0 sa) mJ_fillI (sRm d 0 0) (sZ (gG l D c H0 sa) 0 0 (fun r hp' => r = none ∧ hp' = (hp.1, sUp hp.2 a (.inl (0, n, sFill n (.int v) f))))) 5 lv [] (hp.1, sUp hp.2 a (.inl (0, n, sFill i (.int v) f))) 0 0 := by
  intro k
  induction k with
  | zero =>
    intro i hi lv h0 h1 h2 h3
    have : i = n := by omega
    subst this
    refine sv_iload_n dJ_fillI_5 rfl h2 ?_
    refine sv_iload_n dJ_fillI_6 rfl h3 ?_
    refine sv_icmp_ge (tgt := 20) dJ_fillI_7 (by decide) (fun _ => ?_) (fun h => absurd (Int32.le_refl _) h)
    exact sv_vret dJ_fillI_20 rfl (Nat.le_refl _) (Nat.le_refl _) ⟨rfl, rfl⟩
  | succ k ih =>
    intro i hi lv h0 h1 h2 h3
    have hin : i < n := by omega
    refine sv_iload_n dJ_fillI_5 rfl h2 ?_
    refine sv_iload_n dJ_fillI_6 rfl h3 ?_
    refine sv_icmp_ge (tgt := 20) dJ_fillI_7 (by decide) (fun h => absurd h (nI_ge hin hn)) (fun _ => ?_)
    refine sv_aload_n dJ_fillI_10 rfl h0 ?_
    refine sv_iload_n dJ_fillI_11 rfl h2 ?_
    refine sv_iload_n dJ_fillI_12 rfl h1 ?_
    refine sv_iastore (kd := 0) (cA := c 0) (n := n) (f := sFill i (.int v) f) dJ_fillI_13 rfl ha (sUp_at _ _ _) (vp_in_nI hin hn) ?_
    rw [nI_clamp (show i < 2 ^ 31 by omega), sFill_up]
    refine sv_iincK (k := 1) dJ_fillI_14 (by decide) h2 (by decide) ?_
    refine sv_goto (tgt := 5) dJ_fillI_17 (by decide) ?_
    show sV _ _ _ _ _ _ _ (hp.1, sUp (sUp hp.2 a (.inl (0, n, sFill i (.int v) f))) a (.inl (0, n, sFill (i + 1) (.int v) f))) _ _
    rw [sUp_sUp, nI_1]
    exact ih (i + 1) (by omega) _ (sGet_keep h0 (by decide)) (sGet_keep h1 (by decide)) sGet_new (sGet_keep h3 (by decide))
theorem c_fillI {d a n : Nat} {f : Nat → Value} {v : Int32} {hp : sHp} (ha : a < hp.1) (he : hp.2 a = .inl (0, n, f)) (hn : n < 2 ^ 31) : sC (gG l D c H0 sa) mJ_fillI d 0 0 [.ref a, .int v] hp (fun r hp' => r = none ∧ hp' = (hp.1, sUp hp.2 a (.inl (0, n, sFill n (.int v) f)))) := by
  refine sC.of rfl (by decide) (le_t rfl) ?_
  refine sv_iconst (v := 0) dJ_fillI_0 (by decide) ?_
  refine sv_istore_n dJ_fillI_1 rfl (by decide) ?_
  refine sv_aload_n dJ_fillI_2 rfl rfl ?_
  refine sv_arraylength (cA := c 0) (ty := .int) dJ_fillI_3 rfl ha he rfl ?_
  refine sv_istore_n dJ_fillI_4 rfl (by decide) ?_
  refine sv_heap (hp' := (hp.1, sUp hp.2 a (.inl (0, n, sFill 0 (.int v) f)))) rfl (fun j _ => ?_) (c_fillI_loop l D c H0 sa ha hn n 0 (by omega) _ rfl rfl rfl rfl)
  show hp.2 j = sUp hp.2 a _ j
  rw [sFill_0]
  by_cases h : j = a
  · subst h; rw [sUp_at]; exact he
  · rw [sUp_ne _ _ h]
end JDK
