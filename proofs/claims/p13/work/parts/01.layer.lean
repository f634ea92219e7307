/-! The layer: a whole heap above the start as one function, addresses counted from the start's size; sV: the machine at a place of a method, in these words. -/
abbrev sE : Type := (Nat × Nat × (Nat → Value)) ⊕ (Nat × List Value)
abbrev sHp : Type := Nat × (Nat → sE)
/-- launch, numbers of classes and fields, array kinds, the heap at the start, the classes' tables, the words, the script's address (in these words: retAddr) -/
abbrev sG : Type := Launch × va_G × List (ClassId × FieldType) × Heap × List vw_C × List Cond × Nat × Nat × (Nat → Int32)
abbrev sM : Type := MethodName × ByteArray × Nat × Option FieldType
abbrev sg_b (g : sG) : Nat := g.2.2.2.1.size
abbrev sg_ws (g : sG) : List Cond := g.2.2.2.2.2.1
abbrev sg_r (g : sG) : Nat × Nat := (g.2.2.2.1.size, g.2.2.2.2.2.2.1)
abbrev sg_L (g : sG) : Nat := g.2.2.2.2.2.2.2.1
abbrev sg_xs (g : sG) : Nat → Int32 := g.2.2.2.2.2.2.2.2
abbrev sg_cl (g : sG) : List vw_C := g.2.2.2.2.1
/-- addresses that are no cell of ours: 0 the script, a + 1 the address a itself -/
def rvF (b : Nat) : Nat → Nat
  | 0 => b
  | a + 1 => a
def rv (b : Nat × Nat) (v : Value) : Value := match v with
  | .ref a => .ref (b.1 + a)
  | .retAddr x => .ref (rvF b.2 x)
  | w => w
def sUp (f : Nat → sE) (a : Nat) (x : sE) : Nat → sE := fun j => if j = a then x else f j
def sAt (g : sG) (i : Nat) (x : sE) (H : Heap) : Prop := match x with
  | .inl (k, n, f) => ∃ (cA : ClassId) (ty : FieldType), g.2.2.1[k]? = some (cA, ty) ∧ H[sg_b g + i]? = some (arrV cA n (fun j => rv (sg_r g) (f j)))
  | .inr (ci, fs) => ∃ r : vw_C, (sg_cl g)[ci]? = some r ∧ t_OB (sg_b g + i) (g.2.1.1 ci) r.2.2 (g.2.1.2 ci) H (fun k => rv (sg_r g) (vp_V fs k)) ∧ ∃ cell : Cell, H[sg_b g + i]? = some cell ∧ cell.slots.size ≤ r.2.2
def sR (g : sG) (hp : sHp) (H : Heap) : Prop := H.size = sg_b g + hp.1 ∧ (∀ i, i < hp.1 → sAt g i (hp.2 i) H) ∧ ∀ q, q < sg_b g → H[q]? = g.2.2.2.1[q]?
/-- the String of the words: its address, its bytes' and a static's, kept among the numbers of fields (row 1000) -/
abbrev sg_q (g : sG) : Nat := g.2.1.2 1000 0
abbrev sg_v (g : sG) : Nat := g.2.1.2 1000 1
/-- a static that may be null: 0, or its address and one more -/
def sg_fk : Nat → Value
  | 0 => .null
  | k + 1 => .retAddr (k + 1)
abbrev sg_f (g : sG) : Value := sg_fk (g.2.1.2 1000 2)
abbrev sg_z (g : sG) : Nat := g.2.1.2 1000 3
abbrev sg_y (g : sG) : Nat := g.2.1.2 1000 4
def sStg (g : sG) (U : State) : Prop := (∃ tx : String, vk_R "DomainHouse$Reader" 105 tx (sg_q g) U) ∧ va_O "java/lang/String" (sg_q g) (fun x => x ≠ sg_q g) U g.2.2.2.1 ∧ va_OF "java/lang/String" "coder" "B" (.int 0) (sg_q g) (fun x => x ≠ sg_q g) U g.2.2.2.1 ∧ va_OF "java/lang/String" "value" "[B" (.ref (sg_v g)) (sg_q g) (fun x => x ≠ sg_q g) U g.2.2.2.1 ∧ (∃ f : Nat → Int32, va_T .byte (sg_v g) 147 (fun j => .int (f j)) (fun x => x ≠ sg_v g) U g.2.2.2.1) ∧ va_Z "java/lang/String" "COMPACT_STRINGS" "Z" (.int 1) (fun x => x ≠ sg_z g) U g.2.2.2.1 ∧ va_Z "jdk/internal/util/Preconditions" "SIOOBE_FORMATTER" "Ljava/util/function/BiFunction;" (rv (sg_r g) (sg_f g)) (fun x => x ≠ sg_y g) U g.2.2.2.1 ∧ va_Nw (.castable "[I" "java/lang/Cloneable") U ∧ va_Nw (.castable "[J" "java/lang/Cloneable") U
def sK (g : sG) (U : State) : Prop := va_K g.2.1 (sg_cl g) g.2.2.1 U ∧ (∀ (k : Nat) (cA : ClassId) (C : String), g.2.2.1[k]? = some (cA, .object C) → va_AO C U) ∧ va_X (sg_r g).2 (sg_L g) (sg_xs g) U g.2.2.2.1 ∧ sStg g U
def sQ (g : sG) (Q : Option Value → sHp → Prop) : Array Value → State → Outcome → State → Prop := fun _ _ o t => ∃ (r : Option Value) (hp : sHp), o = .returned (r.map (rv (sg_r g))) ∧ Q r hp ∧ sR g hp t.heap ∧ sK g t
def sRm (d C S : Nat) : Room := { frames := d, cells := C, slots := S, locals := 60 * d }
def sWs (g : sG) (M : sM) : List Cond := Cond.code M.1 M.2.1 M.2.2.1 M.2.2.2 :: sg_ws g
def sX (g : sG) (M : sM) (p : Program) (s : State) (m : MethodId) (args : Array Value) (meth : Method) (c : Code) : Prop :=
  p.tables.exec = Jvm.exec ∧ c.code = M.2.1 ∧ meth.sig.returnType = M.2.2.2 ∧ c.maxLocals = M.2.2.1 ∧ s.vm.findClass M.1.cls = some m.cls ∧ (∀ w ∈ sg_ws g, w.before args s = true) ∧ sK g s ∧ meth.locks = false ∧ (M.1.cls = "DomainHouseLaw" → s.heap.size = sg_b g ∧ args = #[Value.ref (sg_r g).2]) ∧ meth.name = M.1.name
def sHas (b : Nat × Nat) (ls : Array Slot) (nL : Nat) (lv : List (Nat × Value)) : Prop := lv_has ls nL (lv.map fun q => (q.1, rv b q.2))
abbrev sZT : Type := List Frame → Array Value → State → State → Prop
def sZ (g : sG) (C S : Nat) (Q : Option Value → sHp → Prop) : sZT := fun below args s => MQ below (sQ g Q) args s C S (fun q => sg_b g ≤ q)
def sV (g : sG) (M : sM) (R : Room) (Z : sZT) (pc : Nat) (lv : List (Nat × Value)) (st : List Value) (hp : sHp) (ce sl : Nat) : Prop :=
  ∀ (p : Program) (e : Env) (s : State) (m : MethodId) (args : Array Value) (below : List Frame) (meth : Method) (c : Code) (H : Heap) (locs : List Loc) (ls : Array Slot),
    sX g M p s m args meth c → sR g hp H → (∀ q ∈ locs, sg_b g ≤ q.base) → sHas (sg_r g) ls M.2.2.1 lv →
    W p g.1 e R s m args below meth c H locs ce sl (Z below args s) (F0 m pc ls (st.map (rv (sg_r g))))
/-- a method's contract: at these arguments and this heap it returns, with Q of answer and heap -/
def sC (g : sG) (M : sM) (d C S : Nat) (av : List Value) (hp : sHp) (Q : Option Value → sHp → Prop) : Prop :=
  Met g.1 M.1 (sWs g M) (sRm d C S) (fun a U => a = (av.map (rv (sg_r g))).toArray ∧ sR g hp U.heap ∧ sK g U) (sQ g Q) C S (fun q => sg_b g ≤ q)
theorem sStg.moved {g : sG} {u U : State} (h : u.vm.Alike U.vm) (hv : ∀ tx q, vk_R "DomainHouse$Reader" 105 tx q u → vk_R "DomainHouse$Reader" 105 tx q U) (hc : ∀ C T, va_Nw (.castable C T) u → va_Nw (.castable C T) U) (k : sStg g u) : sStg g U :=
  ⟨k.1.elim fun tx q => ⟨tx, hv _ _ q⟩, k.2.1.moved h, k.2.2.1.moved h, k.2.2.2.1.moved h, k.2.2.2.2.1.elim fun f q => ⟨f, q.moved h⟩, k.2.2.2.2.2.1.moved h, k.2.2.2.2.2.2.1.moved h, hc _ _ k.2.2.2.2.2.2.2.1, hc _ _ k.2.2.2.2.2.2.2.2⟩
theorem sK.warm {g : sG} {u U : State} (h : u.WarmedH U.vm) (k : sK g u) : sK g U := ⟨va_K.moved h.alike k.1, fun i cA C hq => va_AO.moved h.alike (k.2.1 i cA C hq), va_X.moved h.alike k.2.2.1, sStg.moved h.alike (fun _ _ q => q.warm h) (fun _ _ q => q.warmC h) k.2.2.2⟩
theorem sK.same {g : sG} {u U : State} (e : U.vm = u.vm) (k : sK g u) : sK g U := have h : u.vm.Alike U.vm := e ▸ Vm.Alike.refl u.vm; ⟨va_K.moved h k.1, fun i cA C hq => va_AO.moved h (k.2.1 i cA C hq), va_X.moved h k.2.2.1, sStg.moved h (fun _ _ q => q.same e) (fun _ _ q => va_tabs rfl e.symm q) k.2.2.2⟩
/-! locals by name -/
def sGet (i : Nat) : List (Nat × Value) → Option Value
  | [] => none
  | q :: l => if q.1 = i then some q.2 else sGet i l
theorem sGet_mem {i : Nat} {v : Value} : ∀ {l : List (Nat × Value)}, sGet i l = some v → (i, v) ∈ l
  | [], h => by simp [sGet] at h
  | q :: l, h => by
    simp only [sGet] at h
    split at h
    next e => cases h; subst e; exact List.mem_cons_self
    next => exact List.mem_cons_of_mem _ (sGet_mem h)
theorem sHas.get {b : Nat × Nat} {nL i : Nat} {ls : Array Slot} {lv : List (Nat × Value)} {v : Value} (h : sHas b ls nL lv) (hk : sGet i lv = some v) : ls[i]? = some (.val (rv b v)) :=
  h.2.2 (i, rv b v) (List.mem_map.mpr ⟨(i, v), sGet_mem hk, rfl⟩)
def sSet (i : Nat) (v : Value) (lv : List (Nat × Value)) : List (Nat × Value) := (i, v) :: lv.filter (fun q => !(q.1 == i) && !(q.1 + 1 == i && q.2.category == 2))
def sSetL (i : Nat) (v : Value) (lv : List (Nat × Value)) : List (Nat × Value) := (i, v) :: lv.filter (fun q => !(q.1 == i) && (!(q.1 == i + 1) && !(q.1 + 1 == i && q.2.category == 2)))
theorem sGet_new {i : Nat} {v : Value} {lv : List (Nat × Value)} : sGet i (sSet i v lv) = some v := by simp [sGet, sSet]
theorem sGet_filter {j : Nat} {w : Value} {p : Nat × Value → Bool} (hp : p (j, w) = true) : ∀ {lv : List (Nat × Value)}, sGet j lv = some w → sGet j (lv.filter p) = some w
  | [], h => by simp [sGet] at h
  | q :: l, h => by
    simp only [sGet] at h
    split at h
    next e =>
      cases h
      obtain ⟨a, b⟩ := q
      have e : a = j := e
      subst e
      simp [List.filter, hp, sGet]
    next e =>
      simp only [List.filter]
      split
      · simp only [sGet, if_neg e]; exact sGet_filter hp h
      · exact sGet_filter hp h
theorem sGet_keep {i j : Nat} {v w : Value} {lv : List (Nat × Value)} (h : sGet j lv = some w) (hne : j ≠ i) (hc : w.category = 1 := by rfl) : sGet j (sSet i v lv) = some w := by
  simp only [sSet, sGet, if_neg (Ne.symm hne)]
  exact sGet_filter (by simp [hne, hc]) h
theorem rv_cat (b : Nat × Nat) (v : Value) : (rv b v).category = v.category := by cases v <;> rfl
theorem sSet_map (b : Nat × Nat) (i : Nat) (v : Value) (lv : List (Nat × Value)) : (i, rv b v) :: (lv.map fun q => (q.1, rv b q.2)).filter (fun q => !(q.1 == i) && !(q.1 + 1 == i && q.2.category == 2)) = (sSet i v lv).map fun q => (q.1, rv b q.2) := by
  simp only [sSet, List.map_cons, List.filter_map, Function.comp_def, rv_cat]
theorem sSetL_map (b : Nat × Nat) (i : Nat) (v : Value) (lv : List (Nat × Value)) : (i, rv b v) :: (lv.map fun q => (q.1, rv b q.2)).filter (fun q => !(q.1 == i) && (!(q.1 == i + 1) && !(q.1 + 1 == i && q.2.category == 2))) = (sSetL i v lv).map fun q => (q.1, rv b q.2) := by
  simp only [sSetL, List.map_cons, List.filter_map, Function.comp_def, rv_cat]
/-! a method's contract out of its walk -/
theorem sArgs_map (b : Nat × Nat) : ∀ (i : Nat) (vs : List Value), lv_args i (vs.map (rv b)) = (lv_args i vs).map fun q => (q.1, rv b q.2)
  | _, [] => rfl
  | i, v :: vs => by simp only [List.map_cons, lv_args, rv_cat, sArgs_map b _ vs]
theorem sSl_len (b : Nat × Nat) (vs : List Value) : (lg_sl (vs.map (rv b))).length = (lg_sl vs).length := by
  induction vs with
  | nil => rfl
  | cons v vs ih =>
    simp only [lg_sl, List.map_cons, List.flatMap_cons, List.length_append, rv_cat] at ih ⊢
    rw [ih]
    split <;> rfl
theorem sC.of {g : sG} {M : sM} {d C S : Nat} {av : List Value} {hp : sHp} {Q : Option Value → sHp → Prop} (hy : plainName M.1.cls = true) (hL : M.1.cls ≠ "DomainHouseLaw") (hn : (lg_sl av).length ≤ M.2.2.1)
    (h : sV g M (sRm d C S) (sZ g C S Q) 0 (lv_args 0 av) [] hp 0 0) : sC g M d C S av hp Q := by
  refine Met.ofW (cc := M.2.1) (maxL := M.2.2.1) (ret := M.2.2.2) hy rfl ?_
  intro p e s m args below meth c s₁ B hml hv
  obtain ⟨rfl, hR, hK⟩ := hv
  have hts := atoms_spec (ws := sWs g M) B.pre
  have hl := lv_entry (av.map (rv (sg_r g))) (n := M.2.2.1) (by rw [sSl_len]; exact hn)
  rw [sArgs_map] at hl
  have hnm := name_of_methodNamed B.named B.method
  rw [lg_entry_eq]
  exact h p e s m _ below meth c s.heap [] _ ⟨B.exec, B.bytes, B.returns, hml, findClass_of_methodNamed B.named, fun w hw => hts w (List.mem_cons_of_mem _ hw), hK, B.notSynchronized, fun h => absurd h hL, hnm.1⟩ hR (fun _ h => by cases h) hl
theorem sC.weak {g : sG} {M : sM} {d C S : Nat} {av : List Value} {hp : sHp} {Q Q' : Option Value → sHp → Prop} (h : sC g M d C S av hp Q) (hq : ∀ r hp', Q r hp' → Q' r hp') : sC g M d C S av hp Q' := by
  intro p e ha hc hk s m args below hf h1 h2 h3
  obtain ⟨t, o, a1, a2, a3, ⟨⟨r, hp', b1, b2, b3⟩, a4⟩⟩ := h p e ha hc hk s m args below hf h1 h2 h3
  exact ⟨t, o, a1, a2, a3, ⟨⟨r, hp', b1, hq _ _ b2, b3⟩, a4⟩⟩
