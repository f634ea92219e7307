/-! The layer's rules that read and write the heap, make cells, return and call. -/
theorem sAt.kept {g : sG} {i : Nat} {x : sE} {H H1 : Heap} (h : sAt g i x H) (hq : H1[sg_b g + i]? = H[sg_b g + i]?) : sAt g i x H1 := by
  obtain ⟨k, n, f⟩ | ⟨ci, fs⟩ := x
  · obtain ⟨cA, ty, h1, h2⟩ := h
    exact ⟨cA, ty, h1, hq.trans h2⟩
  · obtain ⟨r, h1, h2, cell, h3, h4⟩ := h
    exact ⟨r, h1, h2.kept hq, cell, hq.trans h3, h4⟩
theorem sR.put {g : sG} {hp : sHp} {H H1 : Heap} {a : Nat} {x : sE} (h : sR g hp H) (z : H1.size = H.size) (o : ∀ q, q ≠ sg_b g + a → H1[q]? = H[q]?) (hx : sAt g a x H1) : sR g (hp.1, sUp hp.2 a x) H1 := by
  refine ⟨z.trans h.1, fun i hi => ?_, fun q hq => (o q (by omega)).trans (h.2.2 q hq)⟩
  by_cases hia : i = a
  · subst hia
    simp only [sUp, if_true]
    exact hx
  · simp only [sUp, if_neg hia]
    exact (h.2.1 i hi).kept (o _ (by omega))
theorem sR.push {g : sG} {hp : sHp} {H H1 : Heap} {x : sE} (h : sR g hp H) (z : H1.size = H.size + 1) (o : ∀ q, q < H.size → H1[q]? = H[q]?) (hx : sAt g hp.1 x H1) : sR g (hp.1 + 1, sUp hp.2 hp.1 x) H1 := by
  have hz := h.1
  refine ⟨by show H1.size = sg_b g + (hp.1 + 1); omega, fun i hi => ?_, fun q hq => (o q (by omega)).trans (h.2.2 q hq)⟩
  by_cases hia : i = hp.1
  · subst hia
    simp only [sUp, if_true]
    exact hx
  · simp only [sUp, if_neg hia]
    have hi' : i < hp.1 + 1 := hi
    exact (h.2.1 i (by omega)).kept (o _ (by omega))
/-- a class's tables stand among the words -/
def sCl (g : sG) (ci : Nat) (T : vw_C) (ty : Nat → FieldType) : Prop := (sg_cl g)[ci]? = some T ∧ (∀ w ∈ u_ws T.1 T.2.1 T.2.2, w ∈ sg_ws g) ∧ (∀ k, k < T.2.2 → parseFieldDescriptor (T.2.1 k).2.2.1 = some (ty k)) ∧ ∀ a, a < T.2.2 → ∀ b, b < T.2.2 → a ≠ b → (T.2.1 a).2.1 ≠ (T.2.1 b).2.1
abbrev sFl (T : vw_C) (own : String) (index k : Nat) : Cond := Cond.fieldLink own index (T.2.1 k).1 (T.2.1 k).2.1 (T.2.1 k).2.2.1
theorem vp_V_set {fs : List Value} {k : Nat} (hk : k < fs.length) (v : Value) (j : Nat) : vp_V (fs.set k v) j = if j = k then v else vp_V fs j := by
  rw [← vp_updV_set hk v j]
  rfl
section SVH
variable {g : sG} {M : sM} {R : Room} {Z : sZT} {pc : Nat} {lv : List (Nat × Value)} {st : List Value} {hp : sHp} {ce sl : Nat}
theorem sv_getfield {index ci a : Nat} {T : vw_C} {ty : Nat → FieldType} {fs : List Value} {v : Value} (hd : decode M.2.1 pc = .ok (.getfield index, 3)) (hC : sCl g ci T ty) (k : Nat) (hk : k < T.2.2) (hw : sFl T M.1.cls index k ∈ sg_ws g) (ha : a < hp.1) (he : hp.2 a = .inr (ci, fs)) (hv : vp_V fs k = v)
    (kk : sV g M R Z (pc + 3) lv (v :: st) hp ce sl) : sV g M R Z pc lv (.ref a :: st) hp ce sl := by
  intro p e s m args below meth c H locs ls X r hl h
  obtain ⟨hx, hb, hr, hml, hown, hts, hK, hlk, hlw, hnm⟩ := id X
  have h0 := r.2.1 a ha
  rw [he] at h0
  obtain ⟨r', h1, ⟨cell, q1, q2, q3, q4⟩, cell2, q5, q6⟩ := h0
  have hr : r' = T := Option.some.inj (h1.symm.trans hC.1)
  subst hr
  obtain ⟨hS, hfc, kC, hkC, hkind⟩ := hK.1.1 ci _ hC.1
  obtain ⟨cf, kf, fi, f, hi, hsl⟩ := hS k hk
  refine W.getf hx hb hown (hts _ hw) hi (u_facts hfc hkC (u_lays hts hC.2.1 hk) hi).1 q1 (by rw [q3]; exact fun h => by cases h) (v := rv (sg_r g) v) ?_ rfl rfl hd (kk p e s m args below meth c H locs ls X r hl h)
  rw [hsl, q4 k hk, ← hv]
theorem sv_apart {s : State} {args : Array Value} {ci : Nat} {T : vw_C} {ty : Nat → FieldType} (hts : ∀ w ∈ sg_ws g, w.before args s = true) (hC : sCl g ci T ty) (hK : sK g s) : ∀ x y, x < T.2.2 → y < T.2.2 → x ≠ y → (g.2.1.2 ci) x ≠ (g.2.1.2 ci) y := by
  intro x y hx hy hne
  obtain ⟨hS, -⟩ := hK.1.1 ci _ hC.1
  obtain ⟨_, _, _, fa, hia, ea⟩ := hS x hx
  obtain ⟨_, _, _, fb, hib, eb⟩ := hS y hy
  rw [← ea, ← eb]
  refine u_apart (u_lays hts hC.2.1 hx) (u_lays hts hC.2.1 hy) hia hib ?_
  rw [(State.fieldFound?_type hia (hC.2.2.1 x hx)).1, (State.fieldFound?_type hib (hC.2.2.1 y hy)).1]
  exact hC.2.2.2 x hx y hy hne
theorem sv_putfield {index ci a : Nat} {T : vw_C} {ty : Nat → FieldType} {fs : List Value} {v : Value} (hd : decode M.2.1 pc = .ok (.putfield index, 3)) (hC : sCl g ci T ty) (k : Nat) (hk : k < T.2.2) (hw : sFl T M.1.cls index k ∈ sg_ws g) (hfin : (T.2.1 k).2.2.2 = false) (ha : a < hp.1) (he : hp.2 a = .inr (ci, fs)) (hn : ∀ b, narrow (ty k) (rv b v) = rv b v) (hft : ∀ b, fits (ty k) (rv b v) = true) (hlen : k < fs.length)
    (kk : sV g M R Z (pc + 3) lv st (hp.1, sUp hp.2 a (.inr (ci, fs.set k v))) ce sl) : sV g M R Z pc lv (v :: .ref a :: st) hp ce sl := by
  intro p e s m args below meth c H locs ls X r hl h
  obtain ⟨hx, hb, hr, hml, hown, hts, hK, hlk, hlw, hnm⟩ := id X
  have hap := sv_apart hts hC hK
  have h0 := r.2.1 a ha
  rw [he] at h0
  obtain ⟨r', h1, ⟨cell, q1, q2, q3, q4⟩, cell2, q5, q6⟩ := h0
  have hr : r' = T := Option.some.inj (h1.symm.trans hC.1)
  subst hr
  obtain ⟨hS, hfc, kC, hkC, hkind⟩ := hK.1.1 ci _ hC.1
  obtain ⟨cf, kf, fi, f, hi, hsl⟩ := hS k hk
  have hlay := hts _ (hC.2.1 _ (u_in_lay hk))
  unfold u_lay at hlay
  rw [if_neg (by rw [hfin]; decide)] at hlay
  have hst := (u_facts hfc hkC (u_lays hts hC.2.1 hk) hi).1
  have h6 := u_store hfc hkC hkind hlay hi (hC.2.2.1 k hk) (hn (sg_r g)) (hft (sg_r g))
  refine W.putK hx hb (f := f) ⟨hown, hts _ hw, ⟨_, _, _, hi⟩, hst⟩ (by rw [q2]; exact h6) q1 q3 (by rw [hsl]; exact k2_hasslot (q4 k hk)) rfl rfl hd fun H' e1 e2 e3 => ?_
  rw [hsl] at e1 ⊢
  refine kk p e s m args below meth c H' _ ls X (r.put e2 e3 ⟨_, hC.1, t_OB.to (V := updV (fun j => rv (sg_r g) (vp_V fs j)) k (rv (sg_r g) v)) ⟨_, e1, q2, q3, t_set q4 hap hk _⟩ (fun j _ => ?_), _, e1, by
    have e9 : cell2 = cell := Option.some.inj (q5.symm.trans q1)
    subst e9
    simpa [Cell.setSlot] using q6⟩) (fun q hq => ?_) h
  · rw [vp_V_set hlen]
    simp only [updV]
    split <;> rfl
  · rcases List.mem_append.mp hq with hq | hq
    · exact hl q hq
    · rw [List.mem_singleton.mp hq]; exact Nat.le_add_right _ _
theorem sv_putfinal {index ci a : Nat} {T : vw_C} {ty : Nat → FieldType} {fs : List Value} {v : Value} (hd : decode M.2.1 pc = .ok (.putfield index, 3)) (hC : sCl g ci T ty) (k : Nat) (hk : k < T.2.2) (hw : sFl T M.1.cls index k ∈ sg_ws g) (hfin : (T.2.1 k).2.2.2 = true) (hini : M.1.name = "<init>") (hdecl : (T.2.1 k).1 = M.1.cls) (ha : a < hp.1) (he : hp.2 a = .inr (ci, fs)) (hn : ∀ b, narrow (ty k) (rv b v) = rv b v) (hft : ∀ b, fits (ty k) (rv b v) = true) (hlen : k < fs.length)
    (kk : sV g M R Z (pc + 3) lv st (hp.1, sUp hp.2 a (.inr (ci, fs.set k v))) ce sl) : sV g M R Z pc lv (v :: .ref a :: st) hp ce sl := by
  intro p e s m args below meth c H locs ls X r hl h
  obtain ⟨hx, hb, hr, hml, hown, hts, hK, hlk, hlw, hnm⟩ := id X
  have hap := sv_apart hts hC hK
  have h0 := r.2.1 a ha
  rw [he] at h0
  obtain ⟨r', h1, ⟨cell, q1, q2, q3, q4⟩, cell2, q5, q6⟩ := h0
  have hr : r' = T := Option.some.inj (h1.symm.trans hC.1)
  subst hr
  obtain ⟨hS, hfc, kC, hkC, hkind⟩ := hK.1.1 ci _ hC.1
  obtain ⟨cf, kf, fi, f, hi, hsl⟩ := hS k hk
  have hlay := hts _ (hC.2.1 _ (u_in_lay hk))
  unfold u_lay at hlay
  rw [if_pos hfin] at hlay
  have hst := (u_facts hfc hkC (u_lays hts hC.2.1 hk) hi).1
  have hcf : m.cls = cf := by
    obtain ⟨_, _, c', _, _, _, -, -, hf', -, -, -, hown2, -⟩ := Cond.laysFinal_spec hlay
    have e1 : c' = cf := by have := hi.symm.trans hf'; simp at this; exact this.1.symm
    rw [hdecl] at hown2
    rw [← e1]; exact Option.some.inj (hown.symm.trans hown2)
  have h6 := u_fits hfc hkC hkind (Or.inr hlay) hi (hC.2.2.1 k hk) (hn (sg_r g)) (hft (sg_r g))
  refine W.putFinK hx hb hown (hts _ hw) hi hst hcf (hnm.trans hini) (by rw [q2]; exact h6) q1 q3 (by rw [hsl]; exact k2_hasslot (q4 k hk)) rfl rfl hd fun H' e1 e2 e3 => ?_
  rw [hsl] at e1 ⊢
  refine kk p e s m args below meth c H' _ ls X (r.put e2 e3 ⟨_, hC.1, t_OB.to (V := updV (fun j => rv (sg_r g) (vp_V fs j)) k (rv (sg_r g) v)) ⟨_, e1, q2, q3, t_set q4 hap hk _⟩ (fun j _ => ?_), _, e1, by
    have e9 : cell2 = cell := Option.some.inj (q5.symm.trans q1)
    subst e9
    simpa [Cell.setSlot] using q6⟩) (fun q hq => ?_) h
  · rw [vp_V_set hlen]
    simp only [updV]
    split <;> rfl
  · rcases List.mem_append.mp hq with hq | hq
    · exact hl q hq
    · rw [List.mem_singleton.mp hq]; exact Nat.le_add_right _ _
end SVH
