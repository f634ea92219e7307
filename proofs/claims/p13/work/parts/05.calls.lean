/-! The layer's rules: calls. -/
/-- all words are good ones -/
def sOk (g : sG) : Prop := ∀ w ∈ sg_ws g, (w.onTables && w.keeps) = true ∨ ∃ ty, w = .arrayClass ty
/-- a method that can be called: its code and its class's state are among the words; n parameters -/
def sMt (g : sG) (M : sM) (n : Nat) : Prop := Cond.code M.1 M.2.1 M.2.2.1 M.2.2.2 ∈ sg_ws g ∧ Cond.initialized M.1.cls ∈ sg_ws g ∧ (M.1.cls ≠ "java/lang/invoke/MethodHandle" ∧ M.1.cls ≠ "java/lang/invoke/VarHandle" ∧ (parseMethodDescriptor M.1.desc).map (fun d => d.parameters.length) = some n)
theorem sGood {g : sG} {M' : sM} (ho : sOk g) (hc : Cond.code M'.1 M'.2.1 M'.2.2.1 M'.2.2.2 ∈ sg_ws g) : GoodIn (sg_ws g) (sWs g M') := by
  intro w hw
  rcases List.mem_cons.mp hw with rfl | hw
  · exact ⟨hc, ho _ hc⟩
  · exact ⟨hw, ho _ hw⟩
section SVC
variable {g : sG} {M M' : sM} {R : Room} {Z : sZT} {d' C' S' : Nat} {Q' : Option Value → sHp → Prop} {pc : Nat} {lv : List (Nat × Value)} {st st0 av : List Value} {hp : sHp} {ce sl : Nat}
theorem sBlind : FrameBlind (fun (a : Array Value) (U : State) => a = (av.map (rv (sg_r g))).toArray ∧ sR g hp U.heap ∧ sK g U) := fun a U g2 mk q => ⟨q.1, q.2.1, sK.same (u := U) (U := U.calling g2 mk a) rfl q.2.2⟩
theorem sGo {p : Program} {e : Env} {s : State} {m : MethodId} {args : Array Value} {below : List Frame} {meth : Method} {c : Code} {H : Heap} {locs : List Loc} {ls : Array Slot} {a : Array Value}
    (hr : va_Run p g.1 e R s m args below meth c H locs ce sl C' S' (F0 m pc ls (st0.map (rv (sg_r g)))) (st.map (rv (sg_r g))) (sQ g Q' a) (fun q => sg_b g ≤ q)) (X : sX g M p s m args meth c) (hl : ∀ q ∈ locs, sg_b g ≤ q.base) (h : sHas (sg_r g) ls M.2.2.1 lv)
    (kk : ∀ (r : Option Value) (hp' : sHp), Q' r hp' → sV g M R Z (pc + 3) lv (r.toList ++ st) hp' (ce + C') (sl + S')) : W p g.1 e R s m args below meth c H locs ce sl (Z below args s) (F0 m pc ls (st0.map (rv (sg_r g)))) := by
  intro T hT X1
  obtain ⟨v, st₀, t, T', L, h0, X', hL, e1, e2, ⟨r, hp', hv, hq, hR, hK⟩, stp⟩ := hr T hT X1
  cases hv
  obtain ⟨t2, a1, b1⟩ := kk r hp' hq p e s m args below meth c T'.heap (locs ++ L) ls X (by rw [e1]; exact hR) (fun q hq => by
    rcases List.mem_append.mp hq with h | h
    · exact hl q h
    · exact hL q h) h T' rfl X'
  refine ⟨t2, stp t2 ?_, b1⟩
  have he : ((r.map (rv (sg_r g))).toList ++ st.map (rv (sg_r g))) = (r.toList ++ st).map (rv (sg_r g)) := by cases r <;> rfl
  rw [he]
  exact a1
theorem sRoom {st : List Value} {b : Nat × Nat} (h : (st.map fun v => v.category).sum ≤ 8) : ((st.map (rv b)).map fun v => v.category).sum ≤ 8 := by
  rw [List.map_map]
  have : ((fun v : Value => v.category) ∘ rv b) = fun v => v.category := by funext v; exact rv_cat b v
  rw [this]; exact h
theorem sv_callV {index ci a : Nat} {T : vw_C} {ty : Nat → FieldType} {fs : List Value} (hct : sC g M' d' C' S' (.ref a :: av) hp Q') (ho : sOk g) (hd : decode M.2.1 pc = .ok (.invokevirtual index, 3)) (hm : sMt g M' av.length) (hi : Cond.instanceMethod M'.1 ∈ sg_ws g ∧ Cond.selects M'.1.cls M'.1 M'.1 ∈ sg_ws g) (hlk : Cond.methodLink M.1.cls index M'.1 ∈ sg_ws g) (hC : sCl g ci T ty) (hT : T.1 = M'.1.cls) (ha : a < hp.1) (he : hp.2 a = .inr (ci, fs)) (hR : d' + 1 ≤ R.frames ∧ 60 * d' + M'.2.2.1 + 19 ≤ R.locals) (hf : ce + C' ≤ R.cells ∧ sl + S' ≤ R.slots) (hs : st0 = av.reverse ++ .ref a :: st) (hr8 : (st.map fun v => v.category).sum ≤ 8)
    (kk : ∀ (r : Option Value) (hp' : sHp), Q' r hp' → sV g M R Z (pc + 3) lv (r.toList ++ st) hp' (ce + C') (sl + S')) : sV g M R Z pc lv st0 hp ce sl := by
  subst hs
  intro p e s m args below meth c H locs ls X r hl h
  obtain ⟨hx, hb, hr, hml, hown, hts, hK, hlk2, hlw, hnm⟩ := id X
  have h0 := r.2.1 a ha
  rw [he] at h0
  obtain ⟨r', h1, ⟨cell, q1, q2, q3, q4⟩, -⟩ := h0
  have hr' : r' = T := Option.some.inj (h1.symm.trans hC.1)
  subst hr'
  have hrun := va_runV (g := F0 m pc ls ((av.reverse ++ .ref a :: st).map (rv (sg_r g)))) (b := sg_b g + a) (As := av.map (rv (sg_r g))) (rest := st.map (rv (sg_r g))) (H := H) (locs := locs) (cells := ce) (slots := sl) (below := below) (meth := meth) (e := e) ⟨hx, hb, hml, hown, hts⟩ hct
    (⟨callB_of av.length hts (sGood ho hm.1) rfl rfl rfl (hts _ hm.2.1) (hts _ hlk) hm.2.2 ⟨hR.1, by show 8 + (M'.2.2.1 + 11) + 60 * d' ≤ R.locals; omega⟩, hts _ hi.1, hts _ hi.2⟩ : CallW R s args M.1.cls M'.1.cls index M'.1 M'.2.1 M'.2.2.1 M'.2.2.2 (sWs g M') (sRm d' C' S') C' S' av.length)
    ⟨sBlind, ⟨cell, q1, by rw [q3]; rfl, by rw [q2, ← hT]; exact (hK.1.1 ci _ hC.1).2.1⟩, fun U hU hW => ⟨rfl, by rw [hU]; exact r, hK.warm hW⟩⟩ rfl (by simp) h.1 (by simp [rv]) (lv_room (sRoom hr8)) hd hf
  exact sGo hrun X hl h kk
theorem sv_callS {index : Nat} (hct : sC g M' d' C' S' av hp Q') (ho : sOk g) (hd : decode M.2.1 pc = .ok (.invokestatic index, 3)) (hm : sMt g M' av.length) (hi : Cond.static M'.1 ∈ sg_ws g) (hlk : Cond.methodLink M.1.cls index M'.1 ∈ sg_ws g) (hR : d' + 1 ≤ R.frames ∧ 60 * d' + M'.2.2.1 + 19 ≤ R.locals) (hf : ce + C' ≤ R.cells ∧ sl + S' ≤ R.slots) (hs : st0 = av.reverse ++ st) (hr8 : (st.map fun v => v.category).sum ≤ 8)
    (kk : ∀ (r : Option Value) (hp' : sHp), Q' r hp' → sV g M R Z (pc + 3) lv (r.toList ++ st) hp' (ce + C') (sl + S')) : sV g M R Z pc lv st0 hp ce sl := by
  subst hs
  intro p e s m args below meth c H locs ls X r hl h
  obtain ⟨hx, hb, hr, hml, hown, hts, hK, hlk2, hlw, hnm⟩ := id X
  have hrun := va_runS (g := F0 m pc ls ((av.reverse ++ st).map (rv (sg_r g)))) (As := av.map (rv (sg_r g))) (rest := st.map (rv (sg_r g))) (H := H) (locs := locs) (cells := ce) (slots := sl) (below := below) (meth := meth) (e := e) ⟨hx, hb, hml, hown, hts⟩ hct
    (⟨callB_of av.length hts (sGood ho hm.1) rfl rfl rfl (hts _ hm.2.1) (hts _ hlk) hm.2.2 ⟨hR.1, by show 8 + (M'.2.2.1 + 11) + 60 * d' ≤ R.locals; omega⟩, hts _ hi⟩ : CallB R s args M.1.cls index M'.1 M'.2.1 M'.2.2.1 M'.2.2.2 (sWs g M') (sRm d' C' S') C' S' av.length ∧ (Cond.static M'.1).before args s = true)
    ⟨sBlind, fun U hU hW => ⟨rfl, by rw [hU]; exact r, hK.warm hW⟩⟩ rfl (by simp) h.1 (by simp) (lv_room (sRoom hr8)) hd hf
  exact sGo hrun X hl h kk
theorem sv_callI {index a : Nat} (hct : sC g M' d' C' S' (.ref a :: av) hp Q') (ho : sOk g) (hd : decode M.2.1 pc = .ok (.invokespecial index, 3)) (hm : sMt g M' av.length) (hret : M'.2.2.2 = none) (hy1 : M'.1.name = "<init>") (hi : Cond.instanceMethod M'.1 ∈ sg_ws g) (hlk : Cond.methodLink M.1.cls index M'.1 ∈ sg_ws g) (hR : d' + 1 ≤ R.frames ∧ 60 * d' + M'.2.2.1 + 19 ≤ R.locals) (hf : ce + C' ≤ R.cells ∧ sl + S' ≤ R.slots) (hs : st0 = av.reverse ++ .ref a :: st) (hr8 : (st.map fun v => v.category).sum ≤ 8)
    (kk : ∀ (r : Option Value) (hp' : sHp), Q' r hp' → sV g M R Z (pc + 3) lv (r.toList ++ st) hp' (ce + C') (sl + S')) : sV g M R Z pc lv st0 hp ce sl := by
  subst hs
  intro p e s m args below meth c H locs ls X r hl h
  obtain ⟨hx, hb, hr, hml, hown, hts, hK, hlk2, hlw, hnm⟩ := id X
  have hcode : Cond.code M'.1 M'.2.1 M'.2.2.1 none ∈ sg_ws g := by rw [← hret]; exact hm.1
  have hw : sWs g M' = Cond.code M'.1 M'.2.1 M'.2.2.1 none :: sg_ws g := by rw [← hret]; rfl
  have hrun := va_runI (g := F0 m pc ls ((av.reverse ++ .ref a :: st).map (rv (sg_r g)))) (b := sg_b g + a) (As := av.map (rv (sg_r g))) (rest := st.map (rv (sg_r g))) (H := H) (locs := locs) (cells := ce) (slots := sl) (below := below) (meth := meth) (e := e) ⟨hx, hb, hml, hown, hts⟩ hct
    (⟨callB_of av.length hts (sGood ho hm.1) hw rfl rfl (hts _ hm.2.1) (hts _ hlk) hm.2.2 ⟨hR.1, by show 8 + (M'.2.2.1 + 11) + 60 * d' ≤ R.locals; omega⟩, hy1, hts _ hi⟩ : CallB R s args M.1.cls index M'.1 M'.2.1 M'.2.2.1 none (sWs g M') (sRm d' C' S') C' S' av.length ∧ M'.1.name = "<init>" ∧ (Cond.instanceMethod M'.1).before args s = true)
    ⟨sBlind, fun U hU hW => ⟨rfl, by rw [hU]; exact r, hK.warm hW⟩⟩ rfl (by simp) h.1 (by simp [rv]) (lv_room (sRoom hr8)) hd hf
  exact sGo hrun X hl h kk
theorem sv_objinit {index a : Nat} (hd : decode M.2.1 pc = .ok (.invokespecial index, 3)) (hlk : Cond.methodLink M.1.cls index objectInit ∈ sg_ws g) (hi : Cond.instanceMethod objectInit ∈ sg_ws g) (hc : Cond.code objectInit ⟨#[0xb1]⟩ 1 none ∈ sg_ws g) (hd1 : 1 ≤ R.frames ∧ 20 ≤ R.locals) (hr8 : (st.map fun v => v.category).sum ≤ 8)
    (kk : sV g M R Z (pc + 3) lv st hp ce sl) : sV g M R Z pc lv (.ref a :: st) hp ce sl := by
  intro p e s m args below meth c H locs ls X r hl h
  obtain ⟨hx, hb, hr, hml, hown, hts, hK, hlk2, hlw, hnm⟩ := id X
  refine W.objInit hx hb hown (hts _ hlk) (hts _ hi) (hts _ hc) rfl (by rw [hml]; exact h.1) rfl hd hd1.1 ?_ (kk p e s m args below meth c H locs ls X r hl h)
  have h8 := lv_room (m := m) (pc := pc) (ls := ls) (rest := (Value.ref a :: st).map (rv (sg_r g))) (sRoom (b := sg_r g) hr8)
  have := hd1.2
  omega
end SVC
