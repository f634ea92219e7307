/-! An array's clone; a row copied into one as long or shorter. -/
theorem wM_J_316 : Cond.methodLink "java/util/Arrays" 316 ⟨"[I", "clone", "()Ljava/lang/Object;"⟩ ∈ lw_ok := lw_i5 196 rfl rfl
theorem wX_J_I : Cond.sameMethod "[I" "java/lang/Object" "clone" "()Ljava/lang/Object;" ∈ lw_ok := lw_i5 197 rfl rfl
theorem wN_J_cl : Cond.native ⟨"java/lang/Object", "clone", "()Ljava/lang/Object;"⟩ ∈ lw_ok := lw_i5 198 rfl rfl
theorem wV_J_cl : Cond.instanceMethod ⟨"java/lang/Object", "clone", "()Ljava/lang/Object;"⟩ ∈ lw_ok := lw_i5 199 rfl rfl
theorem wL_J_I : Cond.selects "[I" ⟨"[I", "clone", "()Ljava/lang/Object;"⟩ ⟨"java/lang/Object", "clone", "()Ljava/lang/Object;"⟩ ∈ lw_ok := lw_i5 200 rfl rfl
theorem wM_J_319 : Cond.methodLink "java/util/Arrays" 319 ⟨"[J", "clone", "()Ljava/lang/Object;"⟩ ∈ lw_ok := lw_i5 208 rfl rfl
theorem wX_J_J : Cond.sameMethod "[J" "java/lang/Object" "clone" "()Ljava/lang/Object;" ∈ lw_ok := lw_i5 209 rfl rfl
theorem wL_J_J : Cond.selects "[J" ⟨"[J", "clone", "()Ljava/lang/Object;"⟩ ⟨"java/lang/Object", "clone", "()Ljava/lang/Object;"⟩ ∈ lw_ok := lw_i5 210 rfl rfl
theorem wC_J_317 : Cond.classLink "java/util/Arrays" 317 "[I" ∈ lw_ok := lw_i5 202 rfl rfl
theorem wC_J_320 : Cond.classLink "java/util/Arrays" 320 "[J" ∈ lw_ok := lw_i5 212 rfl rfl
theorem dJ_copyI_6 : decode cJ_copyI 6 = .ok (.aload_n 0, 1) := by decide +kernel
theorem dJ_copyI_7 : decode cJ_copyI 7 = .ok (.invokevirtual 316, 3) := by decide +kernel
theorem dJ_copyI_10 : decode cJ_copyI 10 = .ok (.checkcast 317, 3) := by decide +kernel
theorem dJ_copyI_13 : decode cJ_copyI 13 = .ok (.areturn, 1) := by decide +kernel
theorem dJ_copyJ_6 : decode cJ_copyJ 6 = .ok (.aload_n 0, 1) := by decide +kernel
theorem dJ_copyJ_7 : decode cJ_copyJ 7 = .ok (.invokevirtual 319, 3) := by decide +kernel
theorem dJ_copyJ_10 : decode cJ_copyJ 10 = .ok (.checkcast 320, 3) := by decide +kernel
theorem dJ_copyJ_13 : decode cJ_copyJ 13 = .ok (.areturn, 1) := by decide +kernel
/-- what the state must tell of the classes of rows: they may be cloned -/
def clP (g : sG) : Prop := ∀ U : State, sK g U → va_Nw (.castable "[I" "java/lang/Cloneable") U ∧ va_Nw (.castable "[J" "java/lang/Cloneable") U
theorem clP_ok {g : sG} : clP g := fun _ h => h.2.2.2.2.2.2.2.2.2.2
section CLN
variable {g : sG} {M : sM} {R : Room} {Z : sZT} {pc : Nat} {lv : List (Nat × Value)} {st : List Value} {hp : sHp} {ce sl a n kd : Nat} {cA : ClassId} {ty : FieldType} {f : Nat → Value}
theorem sv_clone {index : Nat} {ad : String} (hd : decode M.2.1 pc = .ok (.invokevirtual index, 3)) (hlk : Cond.methodLink M.1.cls index ⟨ad, "clone", "()Ljava/lang/Object;"⟩ ∈ sg_ws g) (hsame : Cond.sameMethod ad "java/lang/Object" "clone" "()Ljava/lang/Object;" ∈ sg_ws g) (hnat : Cond.native ⟨"java/lang/Object", "clone", "()Ljava/lang/Object;"⟩ ∈ sg_ws g) (hinst : Cond.instanceMethod ⟨"java/lang/Object", "clone", "()Ljava/lang/Object;"⟩ ∈ sg_ws g) (hsel : Cond.selects ad ⟨ad, "clone", "()Ljava/lang/Object;"⟩ ⟨"java/lang/Object", "clone", "()Ljava/lang/Object;"⟩ ∈ sg_ws g) (hcast : ∀ U, sK g U → va_Nw (.castable ad "java/lang/Cloneable") U) (ht : g.2.2.1[kd]? = some (cA, ty)) (hra : ∀ U : State, va_RA U cA ty → U.vm.findClass ad = some cA) (ha : a < hp.1) (he : hp.2 a = .inl (kd, n, f)) (hfit : ∀ i, i < n → fits ty (rv (sg_r g) (f i)) = true) (hfr : 1 ≤ R.frames) (hlo : (st.map fun v => v.category).sum + 14 ≤ R.locals) (hc1 : ce + 1 ≤ R.cells) (hs1 : sl + n ≤ R.slots)
    (kk : sV g M R Z (pc + 3) lv (.ref hp.1 :: st) (hp.1 + 1, sUp hp.2 hp.1 (.inl (kd, n, f))) (ce + 1) (sl + n)) : sV g M R Z pc lv (.ref a :: st) hp ce sl := by
  intro p e s m args below meth c H locs ls X r hl h
  obtain ⟨hx, hb, hr, hml, hown, hts, hK, hlk2, hlw, hnm⟩ := id X
  obtain ⟨h1, h2⟩ := sArr r hK ha he ht
  obtain ⟨c0, t0, f1, f2, f3⟩ := Cond.castable_spec (va_Nw.use (A := args) rfl (hcast s hK))
  have hfc : s.vm.findClass ad = some cA := hra s (hK.1.2 kd _ ht).2
  have e0 : c0 = cA := Option.some.inj (f1.symm.trans hfc)
  subst e0
  intro T hT X1
  have hcellT : T.heap[sg_b g + a]? = some (arrV c0 n (fun j => rv (sg_r g) (f j))) := by rw [hT]; exact h1
  obtain ⟨-, kA, hkA, comp, hkind⟩ := State.isArrayOf_alike X1.warmed.alike ((hK.1.2 kd _ ht).1 0 (fun _ => .null))
  obtain ⟨-, kS, hkS, compS, hkindS⟩ := (hK.1.2 kd _ ht).1 0 (fun _ => .null)
  have hcat : ((st.map (rv (sg_r g))).map fun v => v.category).sum = (st.map fun v => v.category).sum := by
    rw [List.map_map]
    have : ((fun v : Value => v.category) ∘ rv (sg_r g)) = fun v => v.category := by funext v; exact rv_cat _ v
    rw [this]
  obtain ⟨vm', X', st'⟩ := X1.cloneArray hx hown (hts _ hlk) (hts _ hsame) (hts _ hnat) (hts _ hinst) (hts _ hsel) (a := sg_b g + a) (cell := arrV c0 n (fun j => rv (sg_r g) (f j))) hcellT (fun k h => by cases h) (fun h => by cases h) hfc f2 f3
    (fun i v hv => by
      have hk' : T.vm.classes[c0]? = some kA := hkA
      have := va_fit hfit i v hv
      simpa [State.fitsSlot, State.slotType?, hk', hkind, arrV] using this)
    (g := F0 m pc ls (.ref (sg_b g + a) :: st.map (rv (sg_r g)))) rfl (by rw [hml]; exact h.1) rfl (by rw [hb]; exact hd) hfr (by show 2 * 0 + _ + 14 ≤ _; rw [hcat]; omega) hc1 (by rw [arrV_size]; exact hs1) (hloader := Vm.clonesLoader_of_array hkS hkindS)
  have hz := r.1
  have hcellE : ({ cls := (arrV c0 n (fun j => rv (sg_r g) (f j))).cls, slots := (arrV c0 n (fun j => rv (sg_r g) (f j))).slots } : Cell) = arrV c0 n (fun j => rv (sg_r g) (f j)) := rfl
  rw [hcellE, arrV_size] at X'
  have hR : sR g (hp.1 + 1, sUp hp.2 hp.1 (.inl (kd, n, f))) (H.push (arrV c0 n (fun j => rv (sg_r g) (f j)))) := by
    refine r.push (by simp) (fun q hq => ?_) ⟨c0, _, ht, ?_⟩
    · rw [Array.getElem?_push, if_neg (Nat.ne_of_lt hq)]
    · rw [← hz]; simp
  obtain ⟨t, b1, b2⟩ := kk p e s m args below meth c _ locs ls X hR hl h ((T.setVm vm').pushCell (arrV c0 n (fun j => rv (sg_r g) (f j)))) (by rw [← hT]; rfl) X'
  refine ⟨t, st' t ?_, b2⟩
  rw [hcellE]
  have e9 : (Value.ref hp.1 :: st).map (rv (sg_r g)) = .ref T.heap.size :: st.map (rv (sg_r g)) := by rw [hT, hz]; rfl
  rw [e9] at b1
  exact b1
theorem sv_castA {index : Nat} {nm : String} (hd : decode M.2.1 pc = .ok (.checkcast index, 3)) (hlk : Cond.classLink M.1.cls index nm ∈ sg_ws g) (ht : g.2.2.1[kd]? = some (cA, ty)) (hra : ∀ U : State, va_RA U cA ty → U.vm.findClass nm = some cA) (ha : a < hp.1) (he : hp.2 a = .inl (kd, n, f)) (kk : sV g M R Z (pc + 3) lv (.ref a :: st) hp ce sl) : sV g M R Z pc lv (.ref a :: st) hp ce sl := by
  intro p e s m args below meth c H locs ls X r hl h
  obtain ⟨hx, hb, hr, hml, hown, hts, hK, hlk2, hlw, hnm⟩ := id X
  obtain ⟨h1, h2⟩ := sArr r hK ha he ht
  intro T hT X1
  obtain ⟨vm', X', st'⟩ := X1.checkcastYes hx hown (hts _ hlk) (a := sg_b g + a) (cell := arrV cA n (fun j => rv (sg_r g) (f j))) (by rw [hT]; exact h1) rfl (hra s (hK.1.2 kd _ ht).2) (va_asg _ _) (g := F0 m pc ls (.ref (sg_b g + a) :: st.map (rv (sg_r g)))) rfl rfl (by rw [hb]; exact hd)
  obtain ⟨t, a1, b1⟩ := kk p e s m args below meth c H locs ls X r hl h (T.setVm vm') hT X'
  exact ⟨t, st' t a1, b1⟩
end CLN
section CPY2
variable {l : Launch} {D : va_G} {c : Nat → ClassId} {H0 : Heap} {sa : Nat × Nat × (Nat → Int32)}
theorem sUp_twice (hf : Nat → sE) (a : Nat) (x y : sE) : sUp (sUp hf a x) a y = sUp hf a y := by
  funext j
  by_cases h : j = a
  · subst h; rw [sUp_at, sUp_at]
  · rw [sUp_ne _ _ h, sUp_ne _ _ h, sUp_ne _ _ h]
theorem c_cpI {d a n : Nat} {q : Nat → Int32} {x : Int32} {N hn : Nat} {hf : Nat → sE} (hcl : clP (gG l D c H0 sa)) (hd : 2 ≤ d) (ha : a < hn) (he : hf a = .inl (0, n, sI q)) (hx : x = nI N) (hN : N ≤ n) (hn31 : n < 2 ^ 26) : sC (gG l D c H0 sa) mJ_copyI d 1 N [.ref a, .int x] (hn, hf) (fun r hp' => r = some (.ref hn) ∧ ∃ f', (∀ i, i < N → f' i = sI q i) ∧ hp' = (hn + 1, sUp hf hn (.inl (0, N, f')))) := by
  by_cases hlt : N < n
  · refine (c_copyI l D c H0 sa hd ha he hx hlt hn31).weak fun r hp' h => ⟨h.1, _, fun i hi => ?_, h.2.trans (by rw [sUp_twice])⟩
    simp only [sI, va_cpy]
    rw [if_pos (by omega)]
    congr 2; omega
  · have e : N = n := by omega
    subst e
    subst hx
    refine sC.of rfl (by decide) (le_t rfl) ?_
    refine sv_iload_n (pc := 0) dJ_copyI_0 rfl rfl ?_
    refine sv_aload_n (pc := 1) dJ_copyI_1 rfl rfl ?_
    refine sv_arraylength (pc := 2) (kd := 0) (n := N) (f := sI q) (cA := c 0) (ty := .int) (v := nI N) dJ_copyI_2 rfl ha he rfl ?_
    refine sv_icmp_ne (pc := 3) (tgt := 14) dJ_copyI_3 (by decide) (fun h => absurd rfl h) (fun _ => ?_)
    refine sv_aload_n (pc := 6) dJ_copyI_6 rfl rfl ?_
    refine sv_clone (pc := 7) (ad := "[I") (kd := 0) (cA := c 0) (ty := .int) (n := N) (f := sI q) dJ_copyI_7 wM_J_316 wX_J_I wN_J_cl wV_J_cl wL_J_I (fun U h => (hcl U h).1) rfl (fun U h => va_nm_int h) ha he (fun _ _ => rfl) (by show 1 ≤ d; omega) (by show 0 + 14 ≤ 60 * d; omega) (Nat.le_refl _) (by show 0 + N ≤ N; omega) ?_
    refine sv_castA (pc := 10) (kd := 0) (cA := c 0) (ty := .int) (nm := "[I") dJ_copyI_10 wC_J_317 rfl (fun U h => va_nm_int h) (Nat.lt_succ_self _) (sUp_at _ _ _) ?_
    exact sv_aretA (pc := 13) dJ_copyI_13 rfl (Nat.le_refl _) (by show 0 + N ≤ N; omega) ⟨rfl, _, fun _ _ => rfl, rfl⟩
theorem c_cpJ {d a n : Nat} {q : Nat → Int64} {x : Int32} {N hn : Nat} {hf : Nat → sE} (hcl : clP (gG l D c H0 sa)) (hd : 2 ≤ d) (ha : a < hn) (he : hf a = .inl (1, n, sJ q)) (hx : x = nI N) (hN : N ≤ n) (hn31 : n < 2 ^ 26) : sC (gG l D c H0 sa) mJ_copyJ d 1 N [.ref a, .int x] (hn, hf) (fun r hp' => r = some (.ref hn) ∧ ∃ f', (∀ i, i < N → f' i = sJ q i) ∧ hp' = (hn + 1, sUp hf hn (.inl (1, N, f')))) := by
  by_cases hlt : N < n
  · refine (c_copyJ l D c H0 sa hd ha he hx hlt hn31).weak fun r hp' h => ⟨h.1, _, fun i hi => ?_, h.2.trans (by rw [sUp_twice])⟩
    simp only [sJ, va_cpy]
    rw [if_pos (by omega)]
    congr 2; omega
  · have e : N = n := by omega
    subst e
    subst hx
    refine sC.of rfl (by decide) (le_t rfl) ?_
    refine sv_iload_n (pc := 0) dJ_copyJ_0 rfl rfl ?_
    refine sv_aload_n (pc := 1) dJ_copyJ_1 rfl rfl ?_
    refine sv_arraylength (pc := 2) (kd := 1) (n := N) (f := sJ q) (cA := c 1) (ty := .long) (v := nI N) dJ_copyJ_2 rfl ha he rfl ?_
    refine sv_icmp_ne (pc := 3) (tgt := 14) dJ_copyJ_3 (by decide) (fun h => absurd rfl h) (fun _ => ?_)
    refine sv_aload_n (pc := 6) dJ_copyJ_6 rfl rfl ?_
    refine sv_clone (pc := 7) (ad := "[J") (kd := 1) (cA := c 1) (ty := .long) (n := N) (f := sJ q) dJ_copyJ_7 wM_J_319 wX_J_J wN_J_cl wV_J_cl wL_J_J (fun U h => (hcl U h).2) rfl (fun U h => va_nm_long h) ha he (fun _ _ => rfl) (by show 1 ≤ d; omega) (by show 0 + 14 ≤ 60 * d; omega) (Nat.le_refl _) (by show 0 + N ≤ N; omega) ?_
    refine sv_castA (pc := 10) (kd := 1) (cA := c 1) (ty := .long) (nm := "[J") dJ_copyJ_10 wC_J_320 rfl (fun U h => va_nm_long h) (Nat.lt_succ_self _) (sUp_at _ _ _) ?_
    exact sv_aretA (pc := 13) dJ_copyJ_13 rfl (Nat.le_refl _) (by show 0 + N ≤ N; omega) ⟨rfl, _, fun _ _ => rfl, rfl⟩
end CPY2
