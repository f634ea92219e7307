/-! The layer's rules: arrays, new cells, returns, calls. -/
def sI (q : Nat → Int32) : Nat → Value := fun j => .int (q j)
def sJ (q : Nat → Int64) : Nat → Value := fun j => .long (q j)
def sP (q : Nat → Option Nat) : Nat → Value := fun j => va_rf (q j)
def sUpP (q : Nat → Option Nat) (k : Nat) (x : Option Nat) : Nat → Option Nat := fun j => if j = k then x else q j
theorem sI_up (q : Nat → Int32) (k : Nat) (x : Int32) : updV (sI q) k (.int x) = sI (upd q k x) := by
  funext j; simp only [updV, sI, upd]; split <;> rfl
theorem sJ_up (q : Nat → Int64) (k : Nat) (x : Int64) : updV (sJ q) k (.long x) = sJ (vp_updL q k x) := by
  funext j; simp only [updV, sJ, vp_updL]; split <;> rfl
theorem sP_up (q : Nat → Option Nat) (k : Nat) (x : Nat) : updV (sP q) k (.ref x) = sP (sUpP q k (some x)) := by
  funext j; simp only [updV, sP, sUpP]; split <;> rfl
theorem rv_up (b : Nat × Nat) (f : Nat → Value) (k : Nat) (v : Value) : (fun j => rv b (updV f k v j)) = updV (fun j => rv b (f j)) k (rv b v) := by
  funext j; simp only [updV]; split <;> rfl
section SVA
variable {g : sG} {M : sM} {R : Room} {Z : sZT} {pc : Nat} {lv : List (Nat × Value)} {st : List Value} {hp : sHp} {ce sl : Nat}
variable {a kd n : Nat} {cA : ClassId} {f : Nat → Value} {i : Int32}
theorem sArr {H : Heap} {s : State} {ty : FieldType} (r : sR g hp H) (hK : sK g s) (ha : a < hp.1) (he : hp.2 a = .inl (kd, n, f)) (ht : g.2.2.1[kd]? = some (cA, ty)) : H[sg_b g + a]? = some (arrV cA n (fun j => rv (sg_r g) (f j))) ∧ s.isArrayOf (arrV cA n (fun j => rv (sg_r g) (f j))) ty := by
  have h0 := r.2.1 a ha
  rw [he] at h0
  obtain ⟨cA', ty', h1, h2⟩ := h0
  cases ht.symm.trans h1
  exact ⟨h2, (hK.1.2 kd _ ht).1 n _⟩
theorem sIn (hin : vp_in i n) {z : Nat → Value} : ¬ (i < 0 ∨ (arrV cA n z).slots.size ≤ i.toNatClampNeg) := by rw [arrV_size]; exact hin
theorem sInL (hin : vp_in i n) : i.toNatClampNeg < n := Nat.not_le.mp fun q => hin (Or.inr q)
theorem sv_iaload {v : Value} (hd : decode M.2.1 pc = .ok (.iaload, 1)) (ht : g.2.2.1[kd]? = some (cA, .int)) (ha : a < hp.1) (he : hp.2 a = .inl (kd, n, f)) (hin : vp_in i n) (hv : f i.toNatClampNeg = v)
    (kk : sV g M R Z (pc + 1) lv (v :: st) hp ce sl) : sV g M R Z pc lv (.int i :: .ref a :: st) hp ce sl := by
  intro p e s m args below meth c H locs ls X r hl h
  obtain ⟨h1, h2⟩ := sArr r X.2.2.2.2.2.2.1 ha he ht
  exact W.iald (v := rv (sg_r g) v) X.1 X.2.1 h1 h2 (fun q => by cases q) (sIn hin) (by rw [arrV_read _ _ (sInL hin), ← hv]) rfl rfl hd (kk p e s m args below meth c H locs ls X r hl h)
theorem sv_baload {v : Value} (hd : decode M.2.1 pc = .ok (.baload, 1)) (ht : g.2.2.1[kd]? = some (cA, .byte)) (ha : a < hp.1) (he : hp.2 a = .inl (kd, n, f)) (hin : vp_in i n) (hv : f i.toNatClampNeg = v)
    (kk : sV g M R Z (pc + 1) lv (v :: st) hp ce sl) : sV g M R Z pc lv (.int i :: .ref a :: st) hp ce sl := by
  intro p e s m args below meth c H locs ls X r hl h
  obtain ⟨h1, h2⟩ := sArr r X.2.2.2.2.2.2.1 ha he ht
  exact W.bald (v := rv (sg_r g) v) X.1 X.2.1 h1 h2 (fun q => by cases q) (sIn hin) (by rw [arrV_read _ _ (sInL hin), ← hv]) rfl rfl hd (kk p e s m args below meth c H locs ls X r hl h)
theorem sv_zaload {v : Value} (hd : decode M.2.1 pc = .ok (.baload, 1)) (ht : g.2.2.1[kd]? = some (cA, .boolean)) (ha : a < hp.1) (he : hp.2 a = .inl (kd, n, f)) (hin : vp_in i n) (hv : f i.toNatClampNeg = v)
    (kk : sV g M R Z (pc + 1) lv (v :: st) hp ce sl) : sV g M R Z pc lv (.int i :: .ref a :: st) hp ce sl := by
  intro p e s m args below meth c H locs ls X r hl h
  obtain ⟨h1, h2⟩ := sArr r X.2.2.2.2.2.2.1 ha he ht
  exact W.zald (v := rv (sg_r g) v) X.1 X.2.1 h1 h2 (fun q => by cases q) (sIn hin) (by rw [arrV_read _ _ (sInL hin), ← hv]) rfl rfl hd (kk p e s m args below meth c H locs ls X r hl h)
theorem sv_laload {v : Value} (hd : decode M.2.1 pc = .ok (.laload, 1)) (ht : g.2.2.1[kd]? = some (cA, .long)) (ha : a < hp.1) (he : hp.2 a = .inl (kd, n, f)) (hin : vp_in i n) (hv : f i.toNatClampNeg = v)
    (kk : sV g M R Z (pc + 1) lv (v :: st) hp ce sl) : sV g M R Z pc lv (.int i :: .ref a :: st) hp ce sl := by
  intro p e s m args below meth c H locs ls X r hl h
  obtain ⟨h1, h2⟩ := sArr r X.2.2.2.2.2.2.1 ha he ht
  exact W.lald (v := rv (sg_r g) v) X.1 X.2.1 h1 h2 (fun q => by cases q) (sIn hin) (by rw [arrV_read _ _ (sInL hin), ← hv]) rfl rfl hd (kk p e s m args below meth c H locs ls X r hl h)
theorem sv_aaload {v : Value} {C0 : String} (hd : decode M.2.1 pc = .ok (.aaload, 1)) (ht : g.2.2.1[kd]? = some (cA, .object C0)) (ha : a < hp.1) (he : hp.2 a = .inl (kd, n, f)) (hin : vp_in i n) (hv : f i.toNatClampNeg = v)
    (kk : sV g M R Z (pc + 1) lv (v :: st) hp ce sl) : sV g M R Z pc lv (.int i :: .ref a :: st) hp ce sl := by
  intro p e s m args below meth c H locs ls X r hl h
  obtain ⟨h1, h2⟩ := sArr r X.2.2.2.2.2.2.1 ha he ht
  exact W.aald (v := rv (sg_r g) v) X.1 X.2.1 h1 h2 rfl (fun q => by cases q) (sIn hin) (by rw [arrV_read _ _ (sInL hin), ← hv]) rfl rfl hd (kk p e s m args below meth c H locs ls X r hl h)
theorem sv_arraylength {ty : FieldType} {v : Int32} (hd : decode M.2.1 pc = .ok (.arraylength, 1)) (ht : g.2.2.1[kd]? = some (cA, ty)) (ha : a < hp.1) (he : hp.2 a = .inl (kd, n, f)) (hv : Int32.ofNat n = v)
    (kk : sV g M R Z (pc + 1) lv (.int v :: st) hp ce sl) : sV g M R Z pc lv (.ref a :: st) hp ce sl := by
  intro p e s m args below meth c H locs ls X r hl h
  obtain ⟨h1, h2⟩ := sArr r X.2.2.2.2.2.2.1 ha he ht
  exact W.alen (n := v) X.1 X.2.1 h1 h2 (by rw [arrV_size, ← hv]) rfl rfl hd (kk p e s m args below meth c H locs ls X r hl h)
theorem sv_iastore {x : Int32} (hd : decode M.2.1 pc = .ok (.iastore, 1)) (ht : g.2.2.1[kd]? = some (cA, .int)) (ha : a < hp.1) (he : hp.2 a = .inl (kd, n, f)) (hin : vp_in i n)
    (kk : sV g M R Z (pc + 1) lv st (hp.1, sUp hp.2 a (.inl (kd, n, updV f i.toNatClampNeg (.int x)))) ce sl) : sV g M R Z pc lv (.int x :: .int i :: .ref a :: st) hp ce sl := by
  intro p e s m args below meth c H locs ls X r hl h
  obtain ⟨h1, h2⟩ := sArr r X.2.2.2.2.2.2.1 ha he ht
  refine W.iast X.1 X.2.1 h1 h2 (fun q => by cases q) (sIn hin) rfl rfl hd fun H1 e1 z oq => ?_
  refine kk p e s m args below meth c H1 _ ls X (r.put z oq ⟨cA, .int, ht, ?_⟩) (fun q hq => ?_) h
  · rw [e1, rv_up, arrV_store]
    rfl
  · rcases List.mem_append.mp hq with hq | hq
    · exact hl q hq
    · rw [List.mem_singleton.mp hq]; exact Nat.le_add_right _ _
theorem sv_bastore {x : Int32} (hd : decode M.2.1 pc = .ok (.bastore, 1)) (ht : g.2.2.1[kd]? = some (cA, .byte)) (ha : a < hp.1) (he : hp.2 a = .inl (kd, n, f)) (hin : vp_in i n)
    (kk : sV g M R Z (pc + 1) lv st (hp.1, sUp hp.2 a (.inl (kd, n, updV f i.toNatClampNeg (.int (vp_nar .byte x))))) ce sl) : sV g M R Z pc lv (.int x :: .int i :: .ref a :: st) hp ce sl := by
  intro p e s m args below meth c H locs ls X r hl h
  obtain ⟨h1, h2⟩ := sArr r X.2.2.2.2.2.2.1 ha he ht
  refine W.bast X.1 X.2.1 h1 h2 (fun q => by cases q) (sIn hin) rfl rfl hd fun H1 e1 z oq => ?_
  refine kk p e s m args below meth c H1 _ ls X (r.put z oq ⟨cA, .byte, ht, ?_⟩) (fun q hq => ?_) h
  · rw [e1, rv_up, arrV_store]
    rfl
  · rcases List.mem_append.mp hq with hq | hq
    · exact hl q hq
    · rw [List.mem_singleton.mp hq]; exact Nat.le_add_right _ _
theorem sv_zastore {x : Int32} (hd : decode M.2.1 pc = .ok (.bastore, 1)) (ht : g.2.2.1[kd]? = some (cA, .boolean)) (ha : a < hp.1) (he : hp.2 a = .inl (kd, n, f)) (hin : vp_in i n)
    (kk : sV g M R Z (pc + 1) lv st (hp.1, sUp hp.2 a (.inl (kd, n, updV f i.toNatClampNeg (.int (vp_nar .boolean x))))) ce sl) : sV g M R Z pc lv (.int x :: .int i :: .ref a :: st) hp ce sl := by
  intro p e s m args below meth c H locs ls X r hl h
  obtain ⟨h1, h2⟩ := sArr r X.2.2.2.2.2.2.1 ha he ht
  refine W.zast X.1 X.2.1 h1 h2 (fun q => by cases q) (sIn hin) rfl rfl hd fun H1 e1 z oq => ?_
  refine kk p e s m args below meth c H1 _ ls X (r.put z oq ⟨cA, .boolean, ht, ?_⟩) (fun q hq => ?_) h
  · rw [e1, rv_up, arrV_store]
    rfl
  · rcases List.mem_append.mp hq with hq | hq
    · exact hl q hq
    · rw [List.mem_singleton.mp hq]; exact Nat.le_add_right _ _
theorem sv_lastore {x : Int64} (hd : decode M.2.1 pc = .ok (.lastore, 1)) (ht : g.2.2.1[kd]? = some (cA, .long)) (ha : a < hp.1) (he : hp.2 a = .inl (kd, n, f)) (hin : vp_in i n)
    (kk : sV g M R Z (pc + 1) lv st (hp.1, sUp hp.2 a (.inl (kd, n, updV f i.toNatClampNeg (.long x)))) ce sl) : sV g M R Z pc lv (.long x :: .int i :: .ref a :: st) hp ce sl := by
  intro p e s m args below meth c H locs ls X r hl h
  obtain ⟨h1, h2⟩ := sArr r X.2.2.2.2.2.2.1 ha he ht
  refine W.last X.1 X.2.1 h1 h2 (fun q => by cases q) (sIn hin) rfl rfl hd fun H1 e1 z oq => ?_
  refine kk p e s m args below meth c H1 _ ls X (r.put z oq ⟨cA, .long, ht, ?_⟩) (fun q hq => ?_) h
  · rw [e1, rv_up, arrV_store]
    rfl
  · rcases List.mem_append.mp hq with hq | hq
    · exact hl q hq
    · rw [List.mem_singleton.mp hq]; exact Nat.le_add_right _ _
theorem sv_aastore {v ci : Nat} {T : vw_C} {ty : Nat → FieldType} {fs : List Value} (hd : decode M.2.1 pc = .ok (.aastore, 1)) (hC : sCl g ci T ty) (ht : g.2.2.1[kd]? = some (cA, .object T.1)) (ha : a < hp.1) (he : hp.2 a = .inl (kd, n, f)) (hin : vp_in i n) (hv : v < hp.1) (hev : hp.2 v = .inr (ci, fs))
    (kk : sV g M R Z (pc + 1) lv st (hp.1, sUp hp.2 a (.inl (kd, n, updV f i.toNatClampNeg (.ref v)))) ce sl) : sV g M R Z pc lv (.ref v :: .int i :: .ref a :: st) hp ce sl := by
  intro p e s m args below meth c H locs ls X r hl h
  have hK : sK g s := X.2.2.2.2.2.2.1
  obtain ⟨h1, h2⟩ := sArr r hK ha he ht
  have h0 := r.2.1 v hv
  rw [hev] at h0
  obtain ⟨r', hr', ⟨cellV, g1, g2, g3, -⟩, -⟩ := h0
  have hcls := (hK.1.1 ci T hC.1).2
  obtain ⟨kA, comp, k1, k2, k3, -⟩ := (hK.1.2 kd _ ht).2
  have hcomp : comp = g.2.1.1 ci := Option.some.inj (k3.symm.trans hcls.1)
  subst hcomp
  obtain ⟨kC, hkC, -⟩ := id hcls.2
  refine W.aast X.1 X.2.1 h1 (fun q h => by cases h) (fun h => by cases h) k1 k2 rfl hkC ⟨fun q => hin (Or.inl q), by rw [arrV_size]; exact sInL hin⟩ g1 (fun q h => by rw [g3] at h; cases h) (by rw [g2]; exact hkC) (by rw [g2]; exact va_assign hcls) rfl rfl hd fun H1 e1 z oq => ?_
  refine kk p e s m args below meth c H1 _ ls X (r.put z oq ⟨cA, _, ht, ?_⟩) (fun q hq => ?_) h
  · rw [e1, rv_up, arrV_store]
    rfl
  · rcases List.mem_append.mp hq with hq | hq
    · exact hl q hq
    · rw [List.mem_singleton.mp hq]; exact Nat.le_add_right _ _
theorem sv_new {index ci : Nat} {T : vw_C} {ty : Nat → FieldType} {fs : List Value} (hd : decode M.2.1 pc = .ok (.new index, 3)) (hC : sCl g ci T ty) (hcl : Cond.classLink M.1.cls index T.1 ∈ sg_ws g) (hinst : Cond.instantiable T.1 T.2.2 ∈ sg_ws g) (hini : Cond.initialized T.1 ∈ sg_ws g) (hfs : ∀ b j, j < T.2.2 → defaultValue (ty j) = rv b (vp_V fs j)) (hc1 : ce + 1 ≤ R.cells) (hs1 : sl + T.2.2 ≤ R.slots)
    (kk : sV g M R Z (pc + 3) lv (.ref hp.1 :: st) (hp.1 + 1, sUp hp.2 hp.1 (.inr (ci, fs))) (ce + 1) (sl + T.2.2)) : sV g M R Z pc lv st hp ce sl := by
  intro p e s m args below meth c H locs ls X r hl h
  obtain ⟨hx, hb, hr, hml, hown, hts, hK, hlk, hlw, hnm⟩ := id X
  have hKn := hK.1.1 ci _ hC.1
  refine W.newcK hx hb hown (hts _ hcl) (hts _ hinst) (hts _ hini) rfl hd hc1 hs1 hKn.2.1 rfl fun H1 kC hkC e1 z1 o1 => ?_
  have hz := r.1
  have hR : sR g (hp.1 + 1, sUp hp.2 hp.1 (.inr (ci, fs))) H1 := r.push z1 o1 ⟨T, hC.1, (u_born ty hts hC.2.1 hKn hkC (by rw [← hz]; exact e1) hC.2.2.1).to (hfs (sg_r g)), _, by rw [← hz]; exact e1, by
    obtain ⟨c1, k1, g1, g2, -, -, -, g3⟩ := Cond.instantiable_spec (hts _ hinst)
    have e8 : c1 = g.2.1.1 ci := Option.some.inj (g1.symm.trans hKn.2.1)
    subst e8
    have e9 : k1 = kC := Option.some.inj (g2.symm.trans hkC)
    subst e9
    show (Array.map defaultValue k1.instanceTypes).size ≤ T.2.2
    rw [Array.size_map, g3]; exact Nat.le_refl _⟩
  have := kk p e s m args below meth c H1 locs ls X hR hl h
  rw [show (Value.ref hp.1 :: st).map (rv (sg_r g)) = .ref (sg_b g + hp.1) :: st.map (rv (sg_r g)) from rfl, ← hz] at this
  exact this
theorem sv_newarray {atype : ArrayType} {x : Int32} {ty : FieldType} {N : Nat} {v : Value} (hd : decode M.2.1 pc = .ok (.newarray atype, 2)) (hty : newarray.typeOf atype = ty) (hw : Cond.arrayClass ty ∈ sg_ws g) (ht : g.2.2.1[kd]? = some (cA, ty)) (hra : ∀ U : State, va_RA U cA ty → U.vm.findClass ("[" ++ ty.toString) = some cA) (hn : ¬ x < 0) (hN : x.toNatClampNeg = N) (hby : N * componentBytes ty ≤ 536870912) (hv : ∀ b, defaultValue ty = rv b v) (hc1 : ce + 1 ≤ R.cells) (hs1 : sl + N ≤ R.slots)
    (kk : sV g M R Z (pc + 2) lv (.ref hp.1 :: st) (hp.1 + 1, sUp hp.2 hp.1 (.inl (kd, N, fun _ => v))) (ce + 1) (sl + N)) : sV g M R Z pc lv (.int x :: st) hp ce sl := by
  subst hty
  intro p e s m args below meth c H locs ls X r hl h
  obtain ⟨hx, hb, hr, hml, hown, hts, hK, hlk, hlw, hnm⟩ := id X
  refine va_newaK hx hb (hts _ hw) rfl hd rfl hn hN hby hc1 hs1 rfl fun H1 cA' e1 z1 o1 hAr hNm => ?_
  have hcc : cA' = cA := Option.some.inj (hNm.symm.trans (hra s (hK.1.2 kd _ ht).2))
  subst hcc
  have hz := r.1
  have hR : sR g (hp.1 + 1, sUp hp.2 hp.1 (.inl (kd, N, fun _ => v))) H1 := r.push z1 o1 ⟨cA', _, ht, by rw [← hz, e1, hv (sg_r g)]⟩
  have := kk p e s m args below meth c H1 locs ls X hR hl h
  rw [show (Value.ref hp.1 :: st).map (rv (sg_r g)) = .ref (sg_b g + hp.1) :: st.map (rv (sg_r g)) from rfl, ← hz] at this
  exact this
theorem sv_anewarray {index : Nat} {x : Int32} {C0 : String} {N : Nat} (hd : decode M.2.1 pc = .ok (.anewarray index, 3)) (hcl : Cond.classLink M.1.cls index C0 ∈ sg_ws g) (ht : g.2.2.1[kd]? = some (cA, .object C0)) (hn : ¬ x < 0) (hN : x.toNatClampNeg = N) (hby : N * 4 ≤ 536870912) (hc1 : ce + 1 ≤ R.cells) (hs1 : sl + N ≤ R.slots)
    (kk : sV g M R Z (pc + 3) lv (.ref hp.1 :: st) (hp.1 + 1, sUp hp.2 hp.1 (.inl (kd, N, fun _ => .null))) (ce + 1) (sl + N)) : sV g M R Z pc lv (.int x :: st) hp ce sl := by
  subst hN
  intro p e s m args below meth c H locs ls X r hl h
  obtain ⟨hx, hb, hr, hml, hown, hts, hK, hlk, hlw, hnm⟩ := id X
  refine W.anew hx hb hown (hts _ hcl) (va_AO.use (hK.2.1 kd _ _ ht)) rfl hd rfl hn hby hc1 hs1 fun cA' kA comp h1 h2 h3 h4 => ?_
  obtain ⟨-, kA2, comp2, g1, g2, g3, g4⟩ := hK.1.2 kd _ ht
  have hcc : cA' = cA := Option.some.inj (h1.symm.trans g4)
  subst hcc
  have hz := r.1
  have hR : sR g (hp.1 + 1, sUp hp.2 hp.1 (.inl (kd, x.toNatClampNeg, fun _ => .null))) (H.push { cls := cA', slots := Array.replicate x.toNatClampNeg .null, vm := .none }) := by
    refine r.push (by simp) (fun q hq => ?_) ⟨cA', _, ht, ?_⟩
    · rw [Array.getElem?_push, if_neg (Nat.ne_of_lt hq)]
    · rw [← hz, arrV_new]
      simp
      rfl
  have := kk p e s m args below meth c _ locs ls X hR hl h
  rw [show (Value.ref hp.1 :: st).map (rv (sg_r g)) = .ref (sg_b g + hp.1) :: st.map (rv (sg_r g)) from rfl, ← hz] at this
  exact this
/-! the script -/
theorem sv_sld (hd : decode M.2.1 pc = .ok (.iaload, 1)) (hin : vp_in i (sg_L g)) (kk : sV g M R Z (pc + 1) lv (.int (sg_xs g i.toNatClampNeg) :: st) hp ce sl) : sV g M R Z pc lv (.int i :: .retAddr 0 :: st) hp ce sl := by
  intro p e s m args below meth c H locs ls X r hl h
  obtain ⟨scr, h1, h2, h3, h4, h5⟩ := X.2.2.2.2.2.2.1.2.2.1
  have hlt : i.toNatClampNeg < sg_L g := Nat.not_le.mp fun q => hin (Or.inr q)
  exact W.iald (v := .int (sg_xs g i.toNatClampNeg)) X.1 X.2.1 (by show H[(sg_r g).2]? = some scr; rw [r.2.2 _ (Array.getElem?_eq_some_iff.mp h1).1]; exact h1) h2 h3 (by rw [h4]; exact hin) (h5 _ hlt) rfl rfl hd (kk p e s m args below meth c H locs ls X r hl h)
theorem sv_slen (hd : decode M.2.1 pc = .ok (.arraylength, 1)) (kk : sV g M R Z (pc + 1) lv (.int (Int32.ofNat (sg_L g)) :: st) hp ce sl) : sV g M R Z pc lv (.retAddr 0 :: st) hp ce sl := by
  intro p e s m args below meth c H locs ls X r hl h
  obtain ⟨scr, h1, h2, h3, h4, h5⟩ := X.2.2.2.2.2.2.1.2.2.1
  exact W.alen (n := Int32.ofNat (sg_L g)) X.1 X.2.1 (by show H[(sg_r g).2]? = some scr; rw [r.2.2 _ (Array.getElem?_eq_some_iff.mp h1).1]; exact h1) h2 (by rw [h4] <;> rfl) rfl rfl hd (kk p e s m args below meth c H locs ls X r hl h)
/-! returns -/
theorem sv_iret {C S : Nat} {Q : Option Value → sHp → Prop} {v : Int32} (hd : decode M.2.1 pc = .ok (.ireturn, 1)) (hret : M.2.2.2 = some .int) (hc : ce ≤ C) (hs : sl ≤ S) (hq : Q (some (.int v)) hp) : sV g M R (sZ g C S Q) pc lv [.int v] hp ce sl := by
  intro p e s m args below meth c H locs ls X r hl h
  obtain ⟨hx, hb, hr, hml, hown, hts, hK, hlk, hlw, hnm⟩ := id X
  exact W.widen hc hs (W.iret (v := v) hx hb (hr.trans hret) (fun t ht hW => ⟨some (.int v), hp, rfl, hq, by rw [ht]; exact r, hK.warm hW⟩) hl hd hlk)
theorem sv_zret {C S : Nat} {Q : Option Value → sHp → Prop} {v : Int32} {ty : FieldType} (hd : decode M.2.1 pc = .ok (.ireturn, 1)) (hret : M.2.2.2 = some ty) (hn : narrow ty (.int v) = .int v) (hc : ce ≤ C) (hs : sl ≤ S) (hq : Q (some (.int v)) hp) : sV g M R (sZ g C S Q) pc lv [.int v] hp ce sl := by
  intro p e s m args below meth c H locs ls X r hl h
  obtain ⟨hx, hb, hr, hml, hown, hts, hK, hlk, hlw, hnm⟩ := id X
  exact W.widen hc hs (W.zret (v := v) hx hb (hr.trans hret) hn (fun t ht hW => ⟨some (.int v), hp, rfl, hq, by rw [ht]; exact r, hK.warm hW⟩) hl hd hlk)
theorem sv_lret {C S : Nat} {Q : Option Value → sHp → Prop} {v : Int64} (hd : decode M.2.1 pc = .ok (.lreturn, 1)) (hret : M.2.2.2 = some .long) (hc : ce ≤ C) (hs : sl ≤ S) (hq : Q (some (.long v)) hp) : sV g M R (sZ g C S Q) pc lv [.long v] hp ce sl := by
  intro p e s m args below meth c H locs ls X r hl h
  obtain ⟨hx, hb, hr, hml, hown, hts, hK, hlk, hlw, hnm⟩ := id X
  exact W.widen hc hs (W.lret (v := v) hx hb (hr.trans hret) (fun t ht hW => ⟨some (.long v), hp, rfl, hq, by rw [ht]; exact r, hK.warm hW⟩) hl hd hlk)
theorem sv_vret {C S : Nat} {Q : Option Value → sHp → Prop} (hd : decode M.2.1 pc = .ok (.return_, 1)) (hret : M.2.2.2 = none) (hc : ce ≤ C) (hs : sl ≤ S) (hq : Q none hp) : sV g M R (sZ g C S Q) pc lv [] hp ce sl := by
  intro p e s m args below meth c H locs ls X r hl h
  obtain ⟨hx, hb, hr, hml, hown, hts, hK, hlk, hlw, hnm⟩ := id X
  exact W.widen hc hs (W.vret hx hb (hr.trans hret) (fun t ht hW => ⟨none, hp, rfl, hq, by rw [ht]; exact r, hK.warm hW⟩) hl hd hlk)
theorem sv_aret {C S : Nat} {Q : Option Value → sHp → Prop} {a : Nat} {C0 : String} (hd : decode M.2.1 pc = .ok (.areturn, 1)) (hret : M.2.2.2 = some (.object C0)) (hc : ce ≤ C) (hs : sl ≤ S) (hq : Q (some (.ref a)) hp) : sV g M R (sZ g C S Q) pc lv [.ref a] hp ce sl := by
  intro p e s m args below meth c H locs ls X r hl h
  obtain ⟨hx, hb, hr, hml, hown, hts, hK, hlk, hlw, hnm⟩ := id X
  exact W.widen hc hs (W.aret (v := .ref (sg_b g + a)) hx hb (hr.trans hret) (Or.inl ⟨_, rfl⟩) (Or.inr ⟨_, rfl⟩) (fun t ht hW => ⟨some (.ref a), hp, rfl, hq, by rw [ht]; exact r, hK.warm hW⟩) hl hd hlk)
end SVA
