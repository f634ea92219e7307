section
/-! The layer: a whole heap above the start as one function, addresses counted from the start's size; sV: the machine at a place of a method, in these words. -/
abbrev sE : Type := (Nat × Nat × (Nat → Value)) ⊕ (Nat × List Value)
abbrev sHp : Type := Nat × (Nat → sE)
/-- launch, numbers of classes and fields, array kinds, the heap at the start, the classes' tables, the words -/
abbrev sG : Type := Launch × va_G × List (ClassId × FieldType) × Heap × List vw_C × List Cond
abbrev sM : Type := MethodName × ByteArray × Nat × Option FieldType
abbrev sg_b (g : sG) : Nat := g.2.2.2.1.size
abbrev sg_ws (g : sG) : List Cond := g.2.2.2.2.2
abbrev sg_cl (g : sG) : List vw_C := g.2.2.2.2.1
def rv (b : Nat) (v : Value) : Value := match v with
  | .ref a => .ref (b + a)
  | w => w
def sUp (f : Nat → sE) (a : Nat) (x : sE) : Nat → sE := fun j => if j = a then x else f j
def sAt (g : sG) (i : Nat) (x : sE) (H : Heap) : Prop := match x with
  | .inl (k, n, f) => ∃ (cA : ClassId) (ty : FieldType), g.2.2.1[k]? = some (cA, ty) ∧ H[sg_b g + i]? = some (arrV cA n (fun j => rv (sg_b g) (f j)))
  | .inr (ci, fs) => ∃ r : vw_C, (sg_cl g)[ci]? = some r ∧ t_OB (sg_b g + i) (g.2.1.1 ci) r.2.2 (g.2.1.2 ci) H (fun k => rv (sg_b g) (vp_V fs k))
def sR (g : sG) (hp : sHp) (H : Heap) : Prop := H.size = sg_b g + hp.1 ∧ (∀ i, i < hp.1 → sAt g i (hp.2 i) H) ∧ ∀ q, q < sg_b g → H[q]? = g.2.2.2.1[q]?
def sK (g : sG) (U : State) : Prop := va_K g.2.1 (sg_cl g) g.2.2.1 U
def sQ (g : sG) (Q : Option Value → sHp → Prop) : Array Value → State → Outcome → State → Prop := fun _ _ o t => ∃ (r : Option Value) (hp : sHp), o = .returned (r.map (rv (sg_b g))) ∧ Q r hp ∧ sR g hp t.heap ∧ sK g t
def sRm (d C S : Nat) : Room := { frames := d, cells := C, slots := S, locals := 60 * d }
def sWs (g : sG) (M : sM) : List Cond := Cond.code M.1 M.2.1 M.2.2.1 M.2.2.2 :: sg_ws g
def sX (g : sG) (M : sM) (p : Program) (s : State) (m : MethodId) (args : Array Value) (meth : Method) (c : Code) : Prop :=
  p.tables.exec = Jvm.exec ∧ c.code = M.2.1 ∧ meth.sig.returnType = M.2.2.2 ∧ c.maxLocals = M.2.2.1 ∧ s.vm.findClass M.1.cls = some m.cls ∧ (∀ w ∈ sg_ws g, w.before args s = true) ∧ sK g s ∧ meth.locks = false ∧ meth.name = M.1.name
def sHas (b : Nat) (ls : Array Slot) (nL : Nat) (lv : List (Nat × Value)) : Prop := lv_has ls nL (lv.map fun q => (q.1, rv b q.2))
def sV (g : sG) (M : sM) (d C S : Nat) (Q : Option Value → sHp → Prop) (pc : Nat) (lv : List (Nat × Value)) (st : List Value) (hp : sHp) (ce sl : Nat) : Prop :=
  ∀ (p : Program) (e : Env) (s : State) (m : MethodId) (args : Array Value) (below : List Frame) (meth : Method) (c : Code) (H : Heap) (locs : List Loc) (ls : Array Slot),
    sX g M p s m args meth c → sR g hp H → (∀ q ∈ locs, sg_b g ≤ q.base) → sHas (sg_b g) ls M.2.2.1 lv →
    W p g.1 e (sRm d C S) s m args below meth c H locs ce sl (MQ below (sQ g Q) args s C S (fun q => sg_b g ≤ q)) (F0 m pc ls (st.map (rv (sg_b g))))
/-- a method's contract: at these arguments and this heap it returns, with Q of answer and heap -/
def sC (g : sG) (M : sM) (d C S : Nat) (av : List Value) (hp : sHp) (Q : Option Value → sHp → Prop) : Prop :=
  Met g.1 M.1 (sWs g M) (sRm d C S) (fun a U => a = (av.map (rv (sg_b g))).toArray ∧ sR g hp U.heap ∧ sK g U) (sQ g Q) C S (fun q => sg_b g ≤ q)
theorem sK.moved {g : sG} {u U : State} (h : u.vm.Alike U.vm) (k : sK g u) : sK g U := va_K.moved h k
/-! locals by name -/
def sGet (i : Nat) : List (Nat × Value) → Option Value
  | [] => none
  | q :: l => if q.1 = i then some q.2 else sGet i l
theorem sGet_mem {i : Nat} {v : Value} : ∀ {l : List (Nat × Value)}, sGet i l = some v → (i, v) ∈ l
  | [], h => by simp [sGet] at h
  | q :: l, h => by
    simp only [sGet] at h
    split at h
    next e => cases h; subst e; exact List.mem_cons_self
    next => exact List.mem_cons_of_mem _ (sGet_mem h)
theorem sHas.get {b nL i : Nat} {ls : Array Slot} {lv : List (Nat × Value)} {v : Value} (h : sHas b ls nL lv) (hk : sGet i lv = some v) : ls[i]? = some (.val (rv b v)) :=
  h.2.2 (i, rv b v) (List.mem_map.mpr ⟨(i, v), sGet_mem hk, rfl⟩)
def sSet (i : Nat) (v : Value) (lv : List (Nat × Value)) : List (Nat × Value) := (i, v) :: lv.filter (fun q => !(q.1 == i) && !(q.1 + 1 == i && q.2.category == 2))
def sSetL (i : Nat) (v : Value) (lv : List (Nat × Value)) : List (Nat × Value) := (i, v) :: lv.filter (fun q => !(q.1 == i) && (!(q.1 == i + 1) && !(q.1 + 1 == i && q.2.category == 2)))
theorem rv_cat (b : Nat) (v : Value) : (rv b v).category = v.category := by cases v <;> rfl
theorem sSet_map (b i : Nat) (v : Value) (lv : List (Nat × Value)) : (i, rv b v) :: (lv.map fun q => (q.1, rv b q.2)).filter (fun q => !(q.1 == i) && !(q.1 + 1 == i && q.2.category == 2)) = (sSet i v lv).map fun q => (q.1, rv b q.2) := by
  simp only [sSet, List.map_cons, List.filter_map, Function.comp_def, rv_cat]
theorem sSetL_map (b i : Nat) (v : Value) (lv : List (Nat × Value)) : (i, rv b v) :: (lv.map fun q => (q.1, rv b q.2)).filter (fun q => !(q.1 == i) && (!(q.1 == i + 1) && !(q.1 + 1 == i && q.2.category == 2))) = (sSetL i v lv).map fun q => (q.1, rv b q.2) := by
  simp only [sSetL, List.map_cons, List.filter_map, Function.comp_def, rv_cat]
/-! a method's contract out of its walk -/
theorem sArgs_map (b : Nat) : ∀ (i : Nat) (vs : List Value), lv_args i (vs.map (rv b)) = (lv_args i vs).map fun q => (q.1, rv b q.2)
  | _, [] => rfl
  | i, v :: vs => by simp only [List.map_cons, lv_args, rv_cat, sArgs_map b _ vs]
theorem sSl_len (b : Nat) (vs : List Value) : (lg_sl (vs.map (rv b))).length = (lg_sl vs).length := by
  induction vs with
  | nil => rfl
  | cons v vs ih =>
    simp only [lg_sl, List.map_cons, List.flatMap_cons, List.length_append, rv_cat] at ih ⊢
    rw [ih]
    split <;> rfl
theorem sC.of {g : sG} {M : sM} {d C S : Nat} {av : List Value} {hp : sHp} {Q : Option Value → sHp → Prop} (hy : plainName M.1.cls = true) (hn : (lg_sl av).length ≤ M.2.2.1)
    (h : sV g M d C S Q 0 (lv_args 0 av) [] hp 0 0) : sC g M d C S av hp Q := by
  refine Met.ofW (cc := M.2.1) (maxL := M.2.2.1) (ret := M.2.2.2) hy rfl ?_
  intro p e s m args below meth c s₁ B hml hv
  obtain ⟨rfl, hR, hK⟩ := hv
  have hts := atoms_spec (ws := sWs g M) B.pre
  have hl := lv_entry (av.map (rv (sg_b g))) (n := M.2.2.1) (by rw [sSl_len]; exact hn)
  rw [sArgs_map] at hl
  have hnm := name_of_methodNamed B.named B.method
  rw [lg_entry_eq]
  exact h p e s m _ below meth c s.heap [] _ ⟨B.exec, B.bytes, B.returns, hml, findClass_of_methodNamed B.named, fun w hw => hts w (List.mem_cons_of_mem _ hw), hK, B.notSynchronized, hnm.1⟩ hR (fun _ h => by cases h) hl
theorem sC.weak {g : sG} {M : sM} {d C S : Nat} {av : List Value} {hp : sHp} {Q Q' : Option Value → sHp → Prop} (h : sC g M d C S av hp Q) (hq : ∀ r hp', Q r hp' → Q' r hp') : sC g M d C S av hp Q' := by
  intro p e ha hc hk s m args below hf h1 h2 h3
  obtain ⟨t, o, a1, a2, a3, ⟨⟨r, hp', b1, b2, b3⟩, a4⟩⟩ := h p e ha hc hk s m args below hf h1 h2 h3
  exact ⟨t, o, a1, a2, a3, ⟨⟨r, hp', b1, hq _ _ b2, b3⟩, a4⟩⟩
end
section
section SVR
variable {g : sG} {M : sM} {d C S : Nat} {Q : Option Value → sHp → Prop} {pc : Nat} {lv : List (Nat × Value)} {st : List Value} {hp : sHp} {ce sl : Nat}
theorem sv_iconst {n : Int} {v : Int32} (hd : decode M.2.1 pc = .ok (.iconst n, 1)) (hv : Int32.ofInt n = v) (k : sV g M d C S Q (pc + 1) lv (.int v :: st) hp ce sl) : sV g M d C S Q (pc) lv (st) hp ce sl := fun p e s m args below meth c H locs ls X r hl h => lv_iconst X.1 X.2.1 hd hv (k p e s m args below meth c H locs ls X r hl h)
theorem sv_bipush {n : Int} {v : Int32} (hd : decode M.2.1 pc = .ok (.bipush n, 2)) (hv : (Int8.ofInt n).toInt32 = v) (k : sV g M d C S Q (pc + 2) lv (.int v :: st) hp ce sl) : sV g M d C S Q (pc) lv (st) hp ce sl := fun p e s m args below meth c H locs ls X r hl h => lv_bipush X.1 X.2.1 hd hv (k p e s m args below meth c H locs ls X r hl h)
theorem sv_sipush {n : Int} {v : Int32} (hd : decode M.2.1 pc = .ok (.sipush n, 3)) (hv : (Int16.ofInt n).toInt32 = v) (k : sV g M d C S Q (pc + 3) lv (.int v :: st) hp ce sl) : sV g M d C S Q (pc) lv (st) hp ce sl := fun p e s m args below meth c H locs ls X r hl h => lv_sipush X.1 X.2.1 hd hv (k p e s m args below meth c H locs ls X r hl h)
theorem sv_lconst {n : Fin 2} {v : Int64} (hd : decode M.2.1 pc = .ok (.lconst n, 1)) (hv : Int64.ofNat (n : Nat) = v) (k : sV g M d C S Q (pc + 1) lv (.long v :: st) hp ce sl) : sV g M d C S Q (pc) lv (st) hp ce sl := fun p e s m args below meth c H locs ls X r hl h => lv_lconst X.1 X.2.1 hd hv (k p e s m args below meth c H locs ls X r hl h)
theorem sv_iload_n {q : Fin 4} {i : Nat} {x : Int32} (hd : decode M.2.1 pc = .ok (.iload_n q, 1)) (hi : (q : Nat) = i) (hg : sGet i lv = some (.int x)) (k : sV g M d C S Q (pc + 1) lv (.int x :: st) hp ce sl) : sV g M d C S Q (pc) lv (st) hp ce sl := fun p e s m args below meth c H locs ls X r hl h => lv_iload_n X.1 X.2.1 hd hi (h.get hg) (k p e s m args below meth c H locs ls X r hl h)
theorem sv_iload {i : Nat} {x : Int32} (hd : decode M.2.1 pc = .ok (.iload i, 2)) (hg : sGet i lv = some (.int x)) (k : sV g M d C S Q (pc + 2) lv (.int x :: st) hp ce sl) : sV g M d C S Q (pc) lv (st) hp ce sl := fun p e s m args below meth c H locs ls X r hl h => lv_iload X.1 X.2.1 hd (h.get hg) (k p e s m args below meth c H locs ls X r hl h)
theorem sv_istore_n {q : Fin 4} {i : Nat} {x : Int32} (hd : decode M.2.1 pc = .ok (.istore_n q, 1)) (hi : (q : Nat) = i) (hn : i < M.2.2.1) (k : sV g M d C S Q (pc + 1) (sSet i (.int x) lv) (st) hp ce sl) : sV g M d C S Q (pc) lv (.int x :: st) hp ce sl := fun p e s m args below meth c H locs ls X r hl h => lv_istore_n X.1 X.2.1 hd hi h hn (sSet_map (sg_b g) i (.int x) lv) (fun ls h => (k p e s m args below meth c H locs ls X r hl h))
theorem sv_istore {i : Nat} {x : Int32} (hd : decode M.2.1 pc = .ok (.istore i, 2)) (hn : i < M.2.2.1) (k : sV g M d C S Q (pc + 2) (sSet i (.int x) lv) (st) hp ce sl) : sV g M d C S Q (pc) lv (.int x :: st) hp ce sl := fun p e s m args below meth c H locs ls X r hl h => lv_istore X.1 X.2.1 hd h hn (sSet_map (sg_b g) i (.int x) lv) (fun ls h => (k p e s m args below meth c H locs ls X r hl h))
theorem sv_lload_n {q : Fin 4} {i : Nat} {x : Int64} (hd : decode M.2.1 pc = .ok (.lload_n q, 1)) (hi : (q : Nat) = i) (hg : sGet i lv = some (.long x)) (k : sV g M d C S Q (pc + 1) lv (.long x :: st) hp ce sl) : sV g M d C S Q (pc) lv (st) hp ce sl := fun p e s m args below meth c H locs ls X r hl h => lv_lload_n X.1 X.2.1 hd hi (h.get hg) (k p e s m args below meth c H locs ls X r hl h)
theorem sv_lload {i : Nat} {x : Int64} (hd : decode M.2.1 pc = .ok (.lload i, 2)) (hg : sGet i lv = some (.long x)) (k : sV g M d C S Q (pc + 2) lv (.long x :: st) hp ce sl) : sV g M d C S Q (pc) lv (st) hp ce sl := fun p e s m args below meth c H locs ls X r hl h => lv_lload X.1 X.2.1 hd (h.get hg) (k p e s m args below meth c H locs ls X r hl h)
theorem sv_lstore_n {q : Fin 4} {i : Nat} {x : Int64} (hd : decode M.2.1 pc = .ok (.lstore_n q, 1)) (hi : (q : Nat) = i) (hn : i + 1 < M.2.2.1) (k : sV g M d C S Q (pc + 1) (sSetL i (.long x) lv) (st) hp ce sl) : sV g M d C S Q (pc) lv (.long x :: st) hp ce sl := fun p e s m args below meth c H locs ls X r hl h => lv_lstore_n X.1 X.2.1 hd hi h hn (sSetL_map (sg_b g) i (.long x) lv) (fun ls h => (k p e s m args below meth c H locs ls X r hl h))
theorem sv_lstore {i : Nat} {x : Int64} (hd : decode M.2.1 pc = .ok (.lstore i, 2)) (hn : i + 1 < M.2.2.1) (k : sV g M d C S Q (pc + 2) (sSetL i (.long x) lv) (st) hp ce sl) : sV g M d C S Q (pc) lv (.long x :: st) hp ce sl := fun p e s m args below meth c H locs ls X r hl h => lv_lstore X.1 X.2.1 hd h hn (sSetL_map (sg_b g) i (.long x) lv) (fun ls h => (k p e s m args below meth c H locs ls X r hl h))
theorem sv_aload_n {q : Fin 4} {i : Nat} {x : Nat} (hd : decode M.2.1 pc = .ok (.aload_n q, 1)) (hi : (q : Nat) = i) (hg : sGet i lv = some (.ref x)) (k : sV g M d C S Q (pc + 1) lv (.ref x :: st) hp ce sl) : sV g M d C S Q (pc) lv (st) hp ce sl := fun p e s m args below meth c H locs ls X r hl h => lv_aload_n X.1 X.2.1 hd hi (h.get hg) (k p e s m args below meth c H locs ls X r hl h)
theorem sv_aload {i : Nat} {x : Nat} (hd : decode M.2.1 pc = .ok (.aload i, 2)) (hg : sGet i lv = some (.ref x)) (k : sV g M d C S Q (pc + 2) lv (.ref x :: st) hp ce sl) : sV g M d C S Q (pc) lv (st) hp ce sl := fun p e s m args below meth c H locs ls X r hl h => lv_aload X.1 X.2.1 hd (h.get hg) (k p e s m args below meth c H locs ls X r hl h)
theorem sv_astore_n {q : Fin 4} {i : Nat} {x : Nat} (hd : decode M.2.1 pc = .ok (.astore_n q, 1)) (hi : (q : Nat) = i) (hn : i < M.2.2.1) (k : sV g M d C S Q (pc + 1) (sSet i (.ref x) lv) (st) hp ce sl) : sV g M d C S Q (pc) lv (.ref x :: st) hp ce sl := fun p e s m args below meth c H locs ls X r hl h => lv_astore_n X.1 X.2.1 hd hi h hn (sSet_map (sg_b g) i (.ref x) lv) (fun ls h => (k p e s m args below meth c H locs ls X r hl h))
theorem sv_astore {i : Nat} {x : Nat} (hd : decode M.2.1 pc = .ok (.astore i, 2)) (hn : i < M.2.2.1) (k : sV g M d C S Q (pc + 2) (sSet i (.ref x) lv) (st) hp ce sl) : sV g M d C S Q (pc) lv (.ref x :: st) hp ce sl := fun p e s m args below meth c H locs ls X r hl h => lv_astore X.1 X.2.1 hd h hn (sSet_map (sg_b g) i (.ref x) lv) (fun ls h => (k p e s m args below meth c H locs ls X r hl h))
theorem sv_iinc {i : Nat} {n : Int} {x v : Int32} (hd : decode M.2.1 pc = .ok (.iinc i n, 3)) (hg : sGet i lv = some (.int x)) (hv : x + Int32.ofInt n = v) (hn : i < M.2.2.1) (k : sV g M d C S Q (pc + 3) (sSet i (.int v) lv) (st) hp ce sl) : sV g M d C S Q (pc) lv (st) hp ce sl := fun p e s m args below meth c H locs ls X r hl h =>  (by
  obtain ⟨j, hj⟩ := List.getElem?_of_mem (List.mem_map.mpr ⟨(i, Value.int x), sGet_mem hg, rfl⟩ : (i, rv (sg_b g) (.int x)) ∈ lv.map fun q => (q.1, rv (sg_b g) q.2))
  exact lv_iinc X.1 X.2.1 hd h hj hv hn (sSet_map (sg_b g) i (.int v) lv) (fun ls h => (k p e s m args below meth c H locs ls X r hl h)))
theorem sv_iadd {x y : Int32} (hd : decode M.2.1 pc = .ok (.iadd, 1)) (k : sV g M d C S Q (pc + 1) lv (.int (x + y) :: st) hp ce sl) : sV g M d C S Q (pc) lv (.int y :: .int x :: st) hp ce sl := fun p e s m args below meth c H locs ls X r hl h => lv_iadd X.1 X.2.1 hd (k p e s m args below meth c H locs ls X r hl h)
theorem sv_isub {x y : Int32} (hd : decode M.2.1 pc = .ok (.isub, 1)) (k : sV g M d C S Q (pc + 1) lv (.int (x - y) :: st) hp ce sl) : sV g M d C S Q (pc) lv (.int y :: .int x :: st) hp ce sl := fun p e s m args below meth c H locs ls X r hl h => lv_isub X.1 X.2.1 hd (k p e s m args below meth c H locs ls X r hl h)
theorem sv_imul {x y : Int32} (hd : decode M.2.1 pc = .ok (.imul, 1)) (k : sV g M d C S Q (pc + 1) lv (.int (x * y) :: st) hp ce sl) : sV g M d C S Q (pc) lv (.int y :: .int x :: st) hp ce sl := fun p e s m args below meth c H locs ls X r hl h => lv_imul X.1 X.2.1 hd (k p e s m args below meth c H locs ls X r hl h)
theorem sv_iand {x y : Int32} (hd : decode M.2.1 pc = .ok (.iand, 1)) (k : sV g M d C S Q (pc + 1) lv (.int (x &&& y) :: st) hp ce sl) : sV g M d C S Q (pc) lv (.int y :: .int x :: st) hp ce sl := fun p e s m args below meth c H locs ls X r hl h => lv_iand X.1 X.2.1 hd (k p e s m args below meth c H locs ls X r hl h)
theorem sv_ior {x y : Int32} (hd : decode M.2.1 pc = .ok (.ior, 1)) (k : sV g M d C S Q (pc + 1) lv (.int (x ||| y) :: st) hp ce sl) : sV g M d C S Q (pc) lv (.int y :: .int x :: st) hp ce sl := fun p e s m args below meth c H locs ls X r hl h => lv_ior X.1 X.2.1 hd (k p e s m args below meth c H locs ls X r hl h)
theorem sv_ixor {x y : Int32} (hd : decode M.2.1 pc = .ok (.ixor, 1)) (k : sV g M d C S Q (pc + 1) lv (.int (x ^^^ y) :: st) hp ce sl) : sV g M d C S Q (pc) lv (.int y :: .int x :: st) hp ce sl := fun p e s m args below meth c H locs ls X r hl h => lv_ixor X.1 X.2.1 hd (k p e s m args below meth c H locs ls X r hl h)
theorem sv_ishl {x y : Int32} (hd : decode M.2.1 pc = .ok (.ishl, 1)) (k : sV g M d C S Q (pc + 1) lv (.int (x <<< (y &&& 31)) :: st) hp ce sl) : sV g M d C S Q (pc) lv (.int y :: .int x :: st) hp ce sl := fun p e s m args below meth c H locs ls X r hl h => lv_ishl X.1 X.2.1 hd (k p e s m args below meth c H locs ls X r hl h)
theorem sv_ishr {x y : Int32} (hd : decode M.2.1 pc = .ok (.ishr, 1)) (k : sV g M d C S Q (pc + 1) lv (.int (x >>> (y &&& 31)) :: st) hp ce sl) : sV g M d C S Q (pc) lv (.int y :: .int x :: st) hp ce sl := fun p e s m args below meth c H locs ls X r hl h => lv_ishr X.1 X.2.1 hd (k p e s m args below meth c H locs ls X r hl h)
theorem sv_ineg {x : Int32} (hd : decode M.2.1 pc = .ok (.ineg, 1)) (k : sV g M d C S Q (pc + 1) lv (.int (-x) :: st) hp ce sl) : sV g M d C S Q (pc) lv (.int x :: st) hp ce sl := fun p e s m args below meth c H locs ls X r hl h => lv_ineg X.1 X.2.1 hd (k p e s m args below meth c H locs ls X r hl h)
theorem sv_idiv {x y : Int32} (hd : decode M.2.1 pc = .ok (.idiv, 1)) (hne : ¬ y = 0) (k : sV g M d C S Q (pc + 1) lv (.int (x / y) :: st) hp ce sl) : sV g M d C S Q (pc) lv (.int y :: .int x :: st) hp ce sl := fun p e s m args below meth c H locs ls X r hl h => lv_idiv X.1 X.2.1 hd hne (k p e s m args below meth c H locs ls X r hl h)
theorem sv_irem {x y : Int32} (hd : decode M.2.1 pc = .ok (.irem, 1)) (hne : ¬ y = 0) (k : sV g M d C S Q (pc + 1) lv (.int (x - x / y * y) :: st) hp ce sl) : sV g M d C S Q (pc) lv (.int y :: .int x :: st) hp ce sl := fun p e s m args below meth c H locs ls X r hl h => lv_irem X.1 X.2.1 hd hne (k p e s m args below meth c H locs ls X r hl h)
theorem sv_ladd {x y : Int64} (hd : decode M.2.1 pc = .ok (.ladd, 1)) (k : sV g M d C S Q (pc + 1) lv (.long (x + y) :: st) hp ce sl) : sV g M d C S Q (pc) lv (.long y :: .long x :: st) hp ce sl := fun p e s m args below meth c H locs ls X r hl h => lv_ladd X.1 X.2.1 hd (k p e s m args below meth c H locs ls X r hl h)
theorem sv_lsub {x y : Int64} (hd : decode M.2.1 pc = .ok (.lsub, 1)) (k : sV g M d C S Q (pc + 1) lv (.long (x - y) :: st) hp ce sl) : sV g M d C S Q (pc) lv (.long y :: .long x :: st) hp ce sl := fun p e s m args below meth c H locs ls X r hl h => lv_lsub X.1 X.2.1 hd (k p e s m args below meth c H locs ls X r hl h)
theorem sv_land {x y : Int64} (hd : decode M.2.1 pc = .ok (.land, 1)) (k : sV g M d C S Q (pc + 1) lv (.long (x &&& y) :: st) hp ce sl) : sV g M d C S Q (pc) lv (.long y :: .long x :: st) hp ce sl := fun p e s m args below meth c H locs ls X r hl h => lv_land X.1 X.2.1 hd (k p e s m args below meth c H locs ls X r hl h)
theorem sv_lor {x y : Int64} (hd : decode M.2.1 pc = .ok (.lor, 1)) (k : sV g M d C S Q (pc + 1) lv (.long (x ||| y) :: st) hp ce sl) : sV g M d C S Q (pc) lv (.long y :: .long x :: st) hp ce sl := fun p e s m args below meth c H locs ls X r hl h => lv_lor X.1 X.2.1 hd (k p e s m args below meth c H locs ls X r hl h)
theorem sv_iushr {x y v : Int32} (hd : decode M.2.1 pc = .ok (.iushr, 1)) (hv : (x.toUInt32 >>> (y.toUInt32 &&& Int32.toUInt32 31)).toInt32 = v) (k : sV g M d C S Q (pc + 1) lv (.int v :: st) hp ce sl) : sV g M d C S Q (pc) lv (.int y :: .int x :: st) hp ce sl := fun p e s m args below meth c H locs ls X r hl h => lv_iushr X.1 X.2.1 hd hv (k p e s m args below meth c H locs ls X r hl h)
theorem sv_lushr {x v : Int64} {y : Int32} (hd : decode M.2.1 pc = .ok (.lushr, 1)) (hv : (x.toUInt64 >>> (y.toInt64.toUInt64 &&& Int64.toUInt64 63)).toInt64 = v) (k : sV g M d C S Q (pc + 1) lv (.long v :: st) hp ce sl) : sV g M d C S Q (pc) lv (.int y :: .long x :: st) hp ce sl := fun p e s m args below meth c H locs ls X r hl h => lv_lushr X.1 X.2.1 hd hv (k p e s m args below meth c H locs ls X r hl h)
theorem sv_lshl {x v : Int64} {y : Int32} (hd : decode M.2.1 pc = .ok (.lshl, 1)) (hv : x <<< (y.toInt64 &&& 63) = v) (k : sV g M d C S Q (pc + 1) lv (.long v :: st) hp ce sl) : sV g M d C S Q (pc) lv (.int y :: .long x :: st) hp ce sl := fun p e s m args below meth c H locs ls X r hl h => lv_lshl X.1 X.2.1 hd hv (k p e s m args below meth c H locs ls X r hl h)
theorem sv_lshr {x v : Int64} {y : Int32} (hd : decode M.2.1 pc = .ok (.lshr, 1)) (hv : x >>> (y.toInt64 &&& 63) = v) (k : sV g M d C S Q (pc + 1) lv (.long v :: st) hp ce sl) : sV g M d C S Q (pc) lv (.int y :: .long x :: st) hp ce sl := fun p e s m args below meth c H locs ls X r hl h => lv_lshr X.1 X.2.1 hd hv (k p e s m args below meth c H locs ls X r hl h)
theorem sv_i2l {x : Int32} {v : Int64} (hd : decode M.2.1 pc = .ok (.i2l, 1)) (hv : x.toInt64 = v) (k : sV g M d C S Q (pc + 1) lv (.long v :: st) hp ce sl) : sV g M d C S Q (pc) lv (.int x :: st) hp ce sl := fun p e s m args below meth c H locs ls X r hl h => lv_i2l X.1 X.2.1 hd hv (k p e s m args below meth c H locs ls X r hl h)
theorem sv_l2i {x : Int64} {v : Int32} (hd : decode M.2.1 pc = .ok (.l2i, 1)) (hv : x.toInt32 = v) (k : sV g M d C S Q (pc + 1) lv (.int v :: st) hp ce sl) : sV g M d C S Q (pc) lv (.long x :: st) hp ce sl := fun p e s m args below meth c H locs ls X r hl h => lv_l2i X.1 X.2.1 hd hv (k p e s m args below meth c H locs ls X r hl h)
theorem sv_i2b {x v : Int32} (hd : decode M.2.1 pc = .ok (.i2b, 1)) (hv : x.toInt8.toInt32 = v) (k : sV g M d C S Q (pc + 1) lv (.int v :: st) hp ce sl) : sV g M d C S Q (pc) lv (.int x :: st) hp ce sl := fun p e s m args below meth c H locs ls X r hl h => lv_i2b X.1 X.2.1 hd hv (k p e s m args below meth c H locs ls X r hl h)
theorem sv_lcmp {x y : Int64} (hd : decode M.2.1 pc = .ok (.lcmp, 1)) (k : sV g M d C S Q (pc + 1) lv (.int (lg_cmp x y) :: st) hp ce sl) : sV g M d C S Q (pc) lv (.long y :: .long x :: st) hp ce sl := fun p e s m args below meth c H locs ls X r hl h => W.lcmp X.1 X.2.1 hd (k p e s m args below meth c H locs ls X r hl h)
theorem sv_dup {x : Value} (hd : decode M.2.1 pc = .ok (.dup, 1)) (hc : x.category = 1) (k : sV g M d C S Q (pc + 1) lv (x :: x :: st) hp ce sl) : sV g M d C S Q (pc) lv (x :: st) hp ce sl := fun p e s m args below meth c H locs ls X r hl h => lv_dup X.1 X.2.1 hd ((rv_cat _ _).trans hc) (k p e s m args below meth c H locs ls X r hl h)
theorem sv_pop {x : Value} (hd : decode M.2.1 pc = .ok (.pop, 1)) (hc : x.category = 1) (k : sV g M d C S Q (pc + 1) lv (st) hp ce sl) : sV g M d C S Q (pc) lv (x :: st) hp ce sl := fun p e s m args below meth c H locs ls X r hl h => lv_pop X.1 X.2.1 hd ((rv_cat _ _).trans hc) (k p e s m args below meth c H locs ls X r hl h)
theorem sv_dup2 {x y : Value} (hd : decode M.2.1 pc = .ok (.dup2, 1)) (hc : x.category = 1) (hc2 : y.category = 1) (k : sV g M d C S Q (pc + 1) lv (x :: y :: x :: y :: st) hp ce sl) : sV g M d C S Q (pc) lv (x :: y :: st) hp ce sl := fun p e s m args below meth c H locs ls X r hl h => lv_dup2_11 X.1 X.2.1 hd ((rv_cat _ _).trans hc) ((rv_cat _ _).trans hc2) (k p e s m args below meth c H locs ls X r hl h)
theorem sv_if_eq {x : Int32} {off : Int} {tgt : Nat} (hd : decode M.2.1 pc = .ok (.ifCond .eq off, 3)) (ht : (pc : Int) + off = (tgt : Int)) (kt : x = 0 → sV g M d C S Q (tgt) lv (st) hp ce sl) (kf : ¬ (x = 0) → sV g M d C S Q (pc + 3) lv (st) hp ce sl) : sV g M d C S Q (pc) lv (.int x :: st) hp ce sl := fun p e s m args below meth c H locs ls X r hl h => lv_if_eq X.1 X.2.1 hd ht (fun z => kt z p e s m args below meth c H locs ls X r hl h) (fun z => kf z p e s m args below meth c H locs ls X r hl h)
theorem sv_icmp_eq {x y : Int32} {off : Int} {tgt : Nat} (hd : decode M.2.1 pc = .ok (.if_icmp .eq off, 3)) (ht : (pc : Int) + off = (tgt : Int)) (kt : x = y → sV g M d C S Q (tgt) lv (st) hp ce sl) (kf : ¬ (x = y) → sV g M d C S Q (pc + 3) lv (st) hp ce sl) : sV g M d C S Q (pc) lv (.int y :: .int x :: st) hp ce sl := fun p e s m args below meth c H locs ls X r hl h => lv_icmp_eq X.1 X.2.1 hd ht (fun z => kt z p e s m args below meth c H locs ls X r hl h) (fun z => kf z p e s m args below meth c H locs ls X r hl h)
theorem sv_if_ne {x : Int32} {off : Int} {tgt : Nat} (hd : decode M.2.1 pc = .ok (.ifCond .ne off, 3)) (ht : (pc : Int) + off = (tgt : Int)) (kt : ¬ x = 0 → sV g M d C S Q (tgt) lv (st) hp ce sl) (kf : x = 0 → sV g M d C S Q (pc + 3) lv (st) hp ce sl) : sV g M d C S Q (pc) lv (.int x :: st) hp ce sl := fun p e s m args below meth c H locs ls X r hl h => lv_if_ne X.1 X.2.1 hd ht (fun z => kt z p e s m args below meth c H locs ls X r hl h) (fun z => kf z p e s m args below meth c H locs ls X r hl h)
theorem sv_icmp_ne {x y : Int32} {off : Int} {tgt : Nat} (hd : decode M.2.1 pc = .ok (.if_icmp .ne off, 3)) (ht : (pc : Int) + off = (tgt : Int)) (kt : ¬ x = y → sV g M d C S Q (tgt) lv (st) hp ce sl) (kf : x = y → sV g M d C S Q (pc + 3) lv (st) hp ce sl) : sV g M d C S Q (pc) lv (.int y :: .int x :: st) hp ce sl := fun p e s m args below meth c H locs ls X r hl h => lv_icmp_ne X.1 X.2.1 hd ht (fun z => kt z p e s m args below meth c H locs ls X r hl h) (fun z => kf z p e s m args below meth c H locs ls X r hl h)
theorem sv_if_lt {x : Int32} {off : Int} {tgt : Nat} (hd : decode M.2.1 pc = .ok (.ifCond .lt off, 3)) (ht : (pc : Int) + off = (tgt : Int)) (kt : x < 0 → sV g M d C S Q (tgt) lv (st) hp ce sl) (kf : ¬ (x < 0) → sV g M d C S Q (pc + 3) lv (st) hp ce sl) : sV g M d C S Q (pc) lv (.int x :: st) hp ce sl := fun p e s m args below meth c H locs ls X r hl h => lv_if_lt X.1 X.2.1 hd ht (fun z => kt z p e s m args below meth c H locs ls X r hl h) (fun z => kf z p e s m args below meth c H locs ls X r hl h)
theorem sv_icmp_lt {x y : Int32} {off : Int} {tgt : Nat} (hd : decode M.2.1 pc = .ok (.if_icmp .lt off, 3)) (ht : (pc : Int) + off = (tgt : Int)) (kt : x < y → sV g M d C S Q (tgt) lv (st) hp ce sl) (kf : ¬ (x < y) → sV g M d C S Q (pc + 3) lv (st) hp ce sl) : sV g M d C S Q (pc) lv (.int y :: .int x :: st) hp ce sl := fun p e s m args below meth c H locs ls X r hl h => lv_icmp_lt X.1 X.2.1 hd ht (fun z => kt z p e s m args below meth c H locs ls X r hl h) (fun z => kf z p e s m args below meth c H locs ls X r hl h)
theorem sv_if_ge {x : Int32} {off : Int} {tgt : Nat} (hd : decode M.2.1 pc = .ok (.ifCond .ge off, 3)) (ht : (pc : Int) + off = (tgt : Int)) (kt : 0 ≤ x → sV g M d C S Q (tgt) lv (st) hp ce sl) (kf : ¬ (0 ≤ x) → sV g M d C S Q (pc + 3) lv (st) hp ce sl) : sV g M d C S Q (pc) lv (.int x :: st) hp ce sl := fun p e s m args below meth c H locs ls X r hl h => lv_if_ge X.1 X.2.1 hd ht (fun z => kt z p e s m args below meth c H locs ls X r hl h) (fun z => kf z p e s m args below meth c H locs ls X r hl h)
theorem sv_icmp_ge {x y : Int32} {off : Int} {tgt : Nat} (hd : decode M.2.1 pc = .ok (.if_icmp .ge off, 3)) (ht : (pc : Int) + off = (tgt : Int)) (kt : y ≤ x → sV g M d C S Q (tgt) lv (st) hp ce sl) (kf : ¬ (y ≤ x) → sV g M d C S Q (pc + 3) lv (st) hp ce sl) : sV g M d C S Q (pc) lv (.int y :: .int x :: st) hp ce sl := fun p e s m args below meth c H locs ls X r hl h => lv_icmp_ge X.1 X.2.1 hd ht (fun z => kt z p e s m args below meth c H locs ls X r hl h) (fun z => kf z p e s m args below meth c H locs ls X r hl h)
theorem sv_if_gt {x : Int32} {off : Int} {tgt : Nat} (hd : decode M.2.1 pc = .ok (.ifCond .gt off, 3)) (ht : (pc : Int) + off = (tgt : Int)) (kt : 0 < x → sV g M d C S Q (tgt) lv (st) hp ce sl) (kf : ¬ (0 < x) → sV g M d C S Q (pc + 3) lv (st) hp ce sl) : sV g M d C S Q (pc) lv (.int x :: st) hp ce sl := fun p e s m args below meth c H locs ls X r hl h => lv_if_gt X.1 X.2.1 hd ht (fun z => kt z p e s m args below meth c H locs ls X r hl h) (fun z => kf z p e s m args below meth c H locs ls X r hl h)
theorem sv_icmp_gt {x y : Int32} {off : Int} {tgt : Nat} (hd : decode M.2.1 pc = .ok (.if_icmp .gt off, 3)) (ht : (pc : Int) + off = (tgt : Int)) (kt : y < x → sV g M d C S Q (tgt) lv (st) hp ce sl) (kf : ¬ (y < x) → sV g M d C S Q (pc + 3) lv (st) hp ce sl) : sV g M d C S Q (pc) lv (.int y :: .int x :: st) hp ce sl := fun p e s m args below meth c H locs ls X r hl h => lv_icmp_gt X.1 X.2.1 hd ht (fun z => kt z p e s m args below meth c H locs ls X r hl h) (fun z => kf z p e s m args below meth c H locs ls X r hl h)
theorem sv_if_le {x : Int32} {off : Int} {tgt : Nat} (hd : decode M.2.1 pc = .ok (.ifCond .le off, 3)) (ht : (pc : Int) + off = (tgt : Int)) (kt : x ≤ 0 → sV g M d C S Q (tgt) lv (st) hp ce sl) (kf : ¬ (x ≤ 0) → sV g M d C S Q (pc + 3) lv (st) hp ce sl) : sV g M d C S Q (pc) lv (.int x :: st) hp ce sl := fun p e s m args below meth c H locs ls X r hl h => lv_if_le X.1 X.2.1 hd ht (fun z => kt z p e s m args below meth c H locs ls X r hl h) (fun z => kf z p e s m args below meth c H locs ls X r hl h)
theorem sv_icmp_le {x y : Int32} {off : Int} {tgt : Nat} (hd : decode M.2.1 pc = .ok (.if_icmp .le off, 3)) (ht : (pc : Int) + off = (tgt : Int)) (kt : x ≤ y → sV g M d C S Q (tgt) lv (st) hp ce sl) (kf : ¬ (x ≤ y) → sV g M d C S Q (pc + 3) lv (st) hp ce sl) : sV g M d C S Q (pc) lv (.int y :: .int x :: st) hp ce sl := fun p e s m args below meth c H locs ls X r hl h => lv_icmp_le X.1 X.2.1 hd ht (fun z => kt z p e s m args below meth c H locs ls X r hl h) (fun z => kf z p e s m args below meth c H locs ls X r hl h)
theorem sv_goto {off : Int} {tgt : Nat} (hd : decode M.2.1 pc = .ok (.goto off, 3)) (ht : (pc : Int) + off = (tgt : Int)) (k : sV g M d C S Q (tgt) lv (st) hp ce sl) : sV g M d C S Q (pc) lv (st) hp ce sl := fun p e s m args below meth c H locs ls X r hl h => lv_goto X.1 X.2.1 hd ht (k p e s m args below meth c H locs ls X r hl h)
theorem sv_tableIn {dflt lo hi : Int} {offs : Array Int} {len : Nat} {x : Int32} {off : Int} {tgt : Nat} (hd : decode M.2.1 pc = .ok (.tableswitch dflt lo hi offs, len)) (h1 : ¬ x.toInt < lo) (h2 : ¬ hi < x.toInt) (ho : offs[(x.toInt - lo).toNat]? = some off) (ht : (pc : Int) + off = (tgt : Int)) (k : sV g M d C S Q (tgt) lv (st) hp ce sl) : sV g M d C S Q (pc) lv (.int x :: st) hp ce sl := fun p e s m args below meth c H locs ls X r hl h => lv_tableIn X.1 X.2.1 hd h1 h2 ho ht (k p e s m args below meth c H locs ls X r hl h)
theorem sv_tableOut {dflt lo hi : Int} {offs : Array Int} {len : Nat} {x : Int32} {tgt : Nat} (hd : decode M.2.1 pc = .ok (.tableswitch dflt lo hi offs, len)) (ho : x.toInt < lo ∨ hi < x.toInt) (ht : (pc : Int) + dflt = (tgt : Int)) (k : sV g M d C S Q (tgt) lv (st) hp ce sl) : sV g M d C S Q (pc) lv (.int x :: st) hp ce sl := fun p e s m args below meth c H locs ls X r hl h => lv_tableOut X.1 X.2.1 hd ho ht (k p e s m args below meth c H locs ls X r hl h)
theorem sv_ldc {index : Nat} {v : Int32} (hd : decode M.2.1 pc = .ok (.ldc index, 2)) (hw : Cond.constant M.1.cls index v ∈ sg_ws g) (k : sV g M d C S Q (pc + 2) lv (.int v :: st) hp ce sl) : sV g M d C S Q (pc) lv (st) hp ce sl := fun p e s m args below meth c H locs ls X r hl h => lv_ldc X.1 X.2.1 X.2.2.2.2.1 (X.2.2.2.2.2.1 _ hw) hd (k p e s m args below meth c H locs ls X r hl h)
theorem sv_ldcw {index : Nat} {v : Int32} (hd : decode M.2.1 pc = .ok (.ldc_w index, 3)) (hw : Cond.constant M.1.cls index v ∈ sg_ws g) (k : sV g M d C S Q (pc + 3) lv (.int v :: st) hp ce sl) : sV g M d C S Q (pc) lv (st) hp ce sl := fun p e s m args below meth c H locs ls X r hl h => lv_ldcw X.1 X.2.1 X.2.2.2.2.1 (X.2.2.2.2.2.1 _ hw) hd (k p e s m args below meth c H locs ls X r hl h)
theorem sv_ldc2 {index : Nat} {v : Int64} (hd : decode M.2.1 pc = .ok (.ldc2_w index, 3)) (hw : Cond.constantLong M.1.cls index v ∈ sg_ws g) (k : sV g M d C S Q (pc + 3) lv (.long v :: st) hp ce sl) : sV g M d C S Q (pc) lv (st) hp ce sl := fun p e s m args below meth c H locs ls X r hl h => lv_ldc2 X.1 X.2.1 X.2.2.2.2.1 (X.2.2.2.2.2.1 _ hw) hd (k p e s m args below meth c H locs ls X r hl h)
end SVR
end
section
/-! The layer's rules that read and write the heap, make cells, return and call. -/
theorem sAt.kept {g : sG} {i : Nat} {x : sE} {H H1 : Heap} (h : sAt g i x H) (hq : H1[sg_b g + i]? = H[sg_b g + i]?) : sAt g i x H1 := by
  obtain ⟨k, n, f⟩ | ⟨ci, fs⟩ := x
  · obtain ⟨cA, ty, h1, h2⟩ := h
    exact ⟨cA, ty, h1, hq.trans h2⟩
  · obtain ⟨r, h1, h2⟩ := h
    exact ⟨r, h1, h2.kept hq⟩
theorem sR.put {g : sG} {hp : sHp} {H H1 : Heap} {a : Nat} {x : sE} (h : sR g hp H) (z : H1.size = H.size) (o : ∀ q, q ≠ sg_b g + a → H1[q]? = H[q]?) (hx : sAt g a x H1) : sR g (hp.1, sUp hp.2 a x) H1 := by
  refine ⟨z.trans h.1, fun i hi => ?_, fun q hq => (o q (by omega)).trans (h.2.2 q hq)⟩
  by_cases hia : i = a
  · subst hia
    simp only [sUp, if_true]
    exact hx
  · simp only [sUp, if_neg hia]
    exact (h.2.1 i hi).kept (o _ (by omega))
theorem sR.push {g : sG} {hp : sHp} {H H1 : Heap} {x : sE} (h : sR g hp H) (z : H1.size = H.size + 1) (o : ∀ q, q < H.size → H1[q]? = H[q]?) (hx : sAt g hp.1 x H1) : sR g (hp.1 + 1, sUp hp.2 hp.1 x) H1 := by
  have hz := h.1
  refine ⟨by show H1.size = sg_b g + (hp.1 + 1); omega, fun i hi => ?_, fun q hq => (o q (by omega)).trans (h.2.2 q hq)⟩
  by_cases hia : i = hp.1
  · subst hia
    simp only [sUp, if_true]
    exact hx
  · simp only [sUp, if_neg hia]
    have hi' : i < hp.1 + 1 := hi
    exact (h.2.1 i (by omega)).kept (o _ (by omega))
/-- a class's tables stand among the words -/
def sCl (g : sG) (ci : Nat) (T : vw_C) (ty : Nat → FieldType) : Prop := (sg_cl g)[ci]? = some T ∧ (∀ w ∈ u_ws T.1 T.2.1 T.2.2, w ∈ sg_ws g) ∧ (∀ k, k < T.2.2 → parseFieldDescriptor (T.2.1 k).2.2.1 = some (ty k)) ∧ ∀ a, a < T.2.2 → ∀ b, b < T.2.2 → a ≠ b → (T.2.1 a).2.1 ≠ (T.2.1 b).2.1
abbrev sFl (T : vw_C) (own : String) (index k : Nat) : Cond := Cond.fieldLink own index (T.2.1 k).1 (T.2.1 k).2.1 (T.2.1 k).2.2.1
theorem vp_V_set {fs : List Value} {k : Nat} (hk : k < fs.length) (v : Value) (j : Nat) : vp_V (fs.set k v) j = if j = k then v else vp_V fs j := by
  rw [← vp_updV_set hk v j]
  rfl
section SVH
variable {g : sG} {M : sM} {d C S : Nat} {Q : Option Value → sHp → Prop} {pc : Nat} {lv : List (Nat × Value)} {st : List Value} {hp : sHp} {ce sl : Nat}
theorem sv_getfield {index ci a : Nat} {T : vw_C} {ty : Nat → FieldType} {fs : List Value} {v : Value} (hd : decode M.2.1 pc = .ok (.getfield index, 3)) (hC : sCl g ci T ty) (k : Nat) (hk : k < T.2.2) (hw : sFl T M.1.cls index k ∈ sg_ws g) (ha : a < hp.1) (he : hp.2 a = .inr (ci, fs)) (hv : vp_V fs k = v)
    (kk : sV g M d C S Q (pc + 3) lv (v :: st) hp ce sl) : sV g M d C S Q pc lv (.ref a :: st) hp ce sl := by
  intro p e s m args below meth c H locs ls X r hl h
  obtain ⟨hx, hb, hr, hml, hown, hts, hK, hlk, hnm⟩ := id X
  have h0 := r.2.1 a ha
  rw [he] at h0
  obtain ⟨r', h1, cell, q1, q2, q3, q4⟩ := h0
  have hr : r' = T := Option.some.inj (h1.symm.trans hC.1)
  subst hr
  obtain ⟨hS, hfc, kC, hkC, hkind⟩ := hK.1 ci _ hC.1
  obtain ⟨cf, kf, fi, f, hi, hsl⟩ := hS k hk
  refine W.getf hx hb hown (hts _ hw) hi (u_facts hfc hkC (u_lays hts hC.2.1 hk) hi).1 q1 (by rw [q3]; exact fun h => by cases h) (v := rv (sg_b g) v) ?_ rfl rfl hd (kk p e s m args below meth c H locs ls X r hl h)
  rw [hsl, q4 k hk, ← hv]
theorem sv_apart {s : State} {args : Array Value} {ci : Nat} {T : vw_C} {ty : Nat → FieldType} (hts : ∀ w ∈ sg_ws g, w.before args s = true) (hC : sCl g ci T ty) (hK : sK g s) : ∀ x y, x < T.2.2 → y < T.2.2 → x ≠ y → (g.2.1.2 ci) x ≠ (g.2.1.2 ci) y := by
  intro x y hx hy hne
  obtain ⟨hS, -⟩ := hK.1 ci _ hC.1
  obtain ⟨_, _, _, fa, hia, ea⟩ := hS x hx
  obtain ⟨_, _, _, fb, hib, eb⟩ := hS y hy
  rw [← ea, ← eb]
  refine u_apart (u_lays hts hC.2.1 hx) (u_lays hts hC.2.1 hy) hia hib ?_
  rw [(State.fieldFound?_type hia (hC.2.2.1 x hx)).1, (State.fieldFound?_type hib (hC.2.2.1 y hy)).1]
  exact hC.2.2.2 x hx y hy hne
theorem sv_putfield {index ci a : Nat} {T : vw_C} {ty : Nat → FieldType} {fs : List Value} {v : Value} (hd : decode M.2.1 pc = .ok (.putfield index, 3)) (hC : sCl g ci T ty) (k : Nat) (hk : k < T.2.2) (hw : sFl T M.1.cls index k ∈ sg_ws g) (hfin : (T.2.1 k).2.2.2 = false) (ha : a < hp.1) (he : hp.2 a = .inr (ci, fs)) (hn : ∀ b, narrow (ty k) (rv b v) = rv b v) (hft : ∀ b, fits (ty k) (rv b v) = true) (hlen : k < fs.length)
    (kk : sV g M d C S Q (pc + 3) lv st (hp.1, sUp hp.2 a (.inr (ci, fs.set k v))) ce sl) : sV g M d C S Q pc lv (v :: .ref a :: st) hp ce sl := by
  intro p e s m args below meth c H locs ls X r hl h
  obtain ⟨hx, hb, hr, hml, hown, hts, hK, hlk, hnm⟩ := id X
  have hap := sv_apart hts hC hK
  have h0 := r.2.1 a ha
  rw [he] at h0
  obtain ⟨r', h1, cell, q1, q2, q3, q4⟩ := h0
  have hr : r' = T := Option.some.inj (h1.symm.trans hC.1)
  subst hr
  obtain ⟨hS, hfc, kC, hkC, hkind⟩ := hK.1 ci _ hC.1
  obtain ⟨cf, kf, fi, f, hi, hsl⟩ := hS k hk
  have hlay := hts _ (hC.2.1 _ (u_in_lay hk))
  unfold u_lay at hlay
  rw [if_neg (by rw [hfin]; decide)] at hlay
  have hst := (u_facts hfc hkC (u_lays hts hC.2.1 hk) hi).1
  have h6 := u_store hfc hkC hkind hlay hi (hC.2.2.1 k hk) (hn (sg_b g)) (hft (sg_b g))
  refine W.putK hx hb (f := f) ⟨hown, hts _ hw, ⟨_, _, _, hi⟩, hst⟩ (by rw [q2]; exact h6) q1 q3 (by rw [hsl]; exact k2_hasslot (q4 k hk)) rfl rfl hd fun H' e1 e2 e3 => ?_
  rw [hsl] at e1 ⊢
  refine kk p e s m args below meth c H' _ ls X (r.put e2 e3 ⟨_, hC.1, t_OB.to (V := updV (fun j => rv (sg_b g) (vp_V fs j)) k (rv (sg_b g) v)) ⟨_, e1, q2, q3, t_set q4 hap hk _⟩ (fun j _ => ?_)⟩) (fun q hq => ?_) h
  · rw [vp_V_set hlen]
    simp only [updV]
    split <;> rfl
  · rcases List.mem_append.mp hq with hq | hq
    · exact hl q hq
    · rw [List.mem_singleton.mp hq]; exact Nat.le_add_right _ _
theorem sv_putfinal {index ci a : Nat} {T : vw_C} {ty : Nat → FieldType} {fs : List Value} {v : Value} (hd : decode M.2.1 pc = .ok (.putfield index, 3)) (hC : sCl g ci T ty) (k : Nat) (hk : k < T.2.2) (hw : sFl T M.1.cls index k ∈ sg_ws g) (hfin : (T.2.1 k).2.2.2 = true) (hini : M.1.name = "<init>") (hdecl : (T.2.1 k).1 = M.1.cls) (ha : a < hp.1) (he : hp.2 a = .inr (ci, fs)) (hn : ∀ b, narrow (ty k) (rv b v) = rv b v) (hft : ∀ b, fits (ty k) (rv b v) = true) (hlen : k < fs.length)
    (kk : sV g M d C S Q (pc + 3) lv st (hp.1, sUp hp.2 a (.inr (ci, fs.set k v))) ce sl) : sV g M d C S Q pc lv (v :: .ref a :: st) hp ce sl := by
  intro p e s m args below meth c H locs ls X r hl h
  obtain ⟨hx, hb, hr, hml, hown, hts, hK, hlk, hnm⟩ := id X
  have hap := sv_apart hts hC hK
  have h0 := r.2.1 a ha
  rw [he] at h0
  obtain ⟨r', h1, cell, q1, q2, q3, q4⟩ := h0
  have hr : r' = T := Option.some.inj (h1.symm.trans hC.1)
  subst hr
  obtain ⟨hS, hfc, kC, hkC, hkind⟩ := hK.1 ci _ hC.1
  obtain ⟨cf, kf, fi, f, hi, hsl⟩ := hS k hk
  have hlay := hts _ (hC.2.1 _ (u_in_lay hk))
  unfold u_lay at hlay
  rw [if_pos hfin] at hlay
  have hst := (u_facts hfc hkC (u_lays hts hC.2.1 hk) hi).1
  have hcf : m.cls = cf := by
    obtain ⟨_, _, c', _, _, _, -, -, hf', -, -, -, hown2, -⟩ := Cond.laysFinal_spec hlay
    have e1 : c' = cf := by have := hi.symm.trans hf'; simp at this; exact this.1.symm
    rw [hdecl] at hown2
    rw [← e1]; exact Option.some.inj (hown.symm.trans hown2)
  have h6 := u_fits hfc hkC hkind (Or.inr hlay) hi (hC.2.2.1 k hk) (hn (sg_b g)) (hft (sg_b g))
  refine W.putFinK hx hb hown (hts _ hw) hi hst hcf (hnm.trans hini) (by rw [q2]; exact h6) q1 q3 (by rw [hsl]; exact k2_hasslot (q4 k hk)) rfl rfl hd fun H' e1 e2 e3 => ?_
  rw [hsl] at e1 ⊢
  refine kk p e s m args below meth c H' _ ls X (r.put e2 e3 ⟨_, hC.1, t_OB.to (V := updV (fun j => rv (sg_b g) (vp_V fs j)) k (rv (sg_b g) v)) ⟨_, e1, q2, q3, t_set q4 hap hk _⟩ (fun j _ => ?_)⟩) (fun q hq => ?_) h
  · rw [vp_V_set hlen]
    simp only [updV]
    split <;> rfl
  · rcases List.mem_append.mp hq with hq | hq
    · exact hl q hq
    · rw [List.mem_singleton.mp hq]; exact Nat.le_add_right _ _
end SVH
end
section
/-! The layer's rules: arrays, new cells, returns, calls. -/
def sI (q : Nat → Int32) : Nat → Value := fun j => .int (q j)
def sJ (q : Nat → Int64) : Nat → Value := fun j => .long (q j)
def sP (q : Nat → Option Nat) : Nat → Value := fun j => va_rf (q j)
def sUpP (q : Nat → Option Nat) (k : Nat) (x : Option Nat) : Nat → Option Nat := fun j => if j = k then x else q j
theorem sI_up (q : Nat → Int32) (k : Nat) (x : Int32) : updV (sI q) k (.int x) = sI (upd q k x) := by
  funext j; simp only [updV, sI, upd]; split <;> rfl
theorem sJ_up (q : Nat → Int64) (k : Nat) (x : Int64) : updV (sJ q) k (.long x) = sJ (vp_updL q k x) := by
  funext j; simp only [updV, sJ, vp_updL]; split <;> rfl
theorem sP_up (q : Nat → Option Nat) (k : Nat) (x : Nat) : updV (sP q) k (.ref x) = sP (sUpP q k (some x)) := by
  funext j; simp only [updV, sP, sUpP]; split <;> rfl
theorem rv_up (b : Nat) (f : Nat → Value) (k : Nat) (v : Value) : (fun j => rv b (updV f k v j)) = updV (fun j => rv b (f j)) k (rv b v) := by
  funext j; simp only [updV]; split <;> rfl
section SVA
variable {g : sG} {M : sM} {d C S : Nat} {Q : Option Value → sHp → Prop} {pc : Nat} {lv : List (Nat × Value)} {st : List Value} {hp : sHp} {ce sl : Nat}
variable {a kd n : Nat} {cA : ClassId} {f : Nat → Value} {i : Int32}
theorem sArr {H : Heap} {s : State} {ty : FieldType} (r : sR g hp H) (hK : sK g s) (ha : a < hp.1) (he : hp.2 a = .inl (kd, n, f)) (ht : g.2.2.1[kd]? = some (cA, ty)) : H[sg_b g + a]? = some (arrV cA n (fun j => rv (sg_b g) (f j))) ∧ s.isArrayOf (arrV cA n (fun j => rv (sg_b g) (f j))) ty := by
  have h0 := r.2.1 a ha
  rw [he] at h0
  obtain ⟨cA', ty', h1, h2⟩ := h0
  cases ht.symm.trans h1
  exact ⟨h2, (hK.2 kd _ ht).1 n _⟩
theorem sIn (hin : vp_in i n) {z : Nat → Value} : ¬ (i < 0 ∨ (arrV cA n z).slots.size ≤ i.toNatClampNeg) := by rw [arrV_size]; exact hin
theorem sInL (hin : vp_in i n) : i.toNatClampNeg < n := Nat.not_le.mp fun q => hin (Or.inr q)
theorem sv_iaload {v : Value} (hd : decode M.2.1 pc = .ok (.iaload, 1)) (ht : g.2.2.1[kd]? = some (cA, .int)) (ha : a < hp.1) (he : hp.2 a = .inl (kd, n, f)) (hin : vp_in i n) (hv : f i.toNatClampNeg = v)
    (kk : sV g M d C S Q (pc + 1) lv (v :: st) hp ce sl) : sV g M d C S Q pc lv (.int i :: .ref a :: st) hp ce sl := by
  intro p e s m args below meth c H locs ls X r hl h
  obtain ⟨h1, h2⟩ := sArr r X.2.2.2.2.2.2.1 ha he ht
  exact W.iald (v := rv (sg_b g) v) X.1 X.2.1 h1 h2 (fun q => by cases q) (sIn hin) (by rw [arrV_read _ _ (sInL hin), ← hv]) rfl rfl hd (kk p e s m args below meth c H locs ls X r hl h)
theorem sv_baload {v : Value} (hd : decode M.2.1 pc = .ok (.baload, 1)) (ht : g.2.2.1[kd]? = some (cA, .byte)) (ha : a < hp.1) (he : hp.2 a = .inl (kd, n, f)) (hin : vp_in i n) (hv : f i.toNatClampNeg = v)
    (kk : sV g M d C S Q (pc + 1) lv (v :: st) hp ce sl) : sV g M d C S Q pc lv (.int i :: .ref a :: st) hp ce sl := by
  intro p e s m args below meth c H locs ls X r hl h
  obtain ⟨h1, h2⟩ := sArr r X.2.2.2.2.2.2.1 ha he ht
  exact W.bald (v := rv (sg_b g) v) X.1 X.2.1 h1 h2 (fun q => by cases q) (sIn hin) (by rw [arrV_read _ _ (sInL hin), ← hv]) rfl rfl hd (kk p e s m args below meth c H locs ls X r hl h)
theorem sv_zaload {v : Value} (hd : decode M.2.1 pc = .ok (.baload, 1)) (ht : g.2.2.1[kd]? = some (cA, .boolean)) (ha : a < hp.1) (he : hp.2 a = .inl (kd, n, f)) (hin : vp_in i n) (hv : f i.toNatClampNeg = v)
    (kk : sV g M d C S Q (pc + 1) lv (v :: st) hp ce sl) : sV g M d C S Q pc lv (.int i :: .ref a :: st) hp ce sl := by
  intro p e s m args below meth c H locs ls X r hl h
  obtain ⟨h1, h2⟩ := sArr r X.2.2.2.2.2.2.1 ha he ht
  exact W.zald (v := rv (sg_b g) v) X.1 X.2.1 h1 h2 (fun q => by cases q) (sIn hin) (by rw [arrV_read _ _ (sInL hin), ← hv]) rfl rfl hd (kk p e s m args below meth c H locs ls X r hl h)
theorem sv_laload {v : Value} (hd : decode M.2.1 pc = .ok (.laload, 1)) (ht : g.2.2.1[kd]? = some (cA, .long)) (ha : a < hp.1) (he : hp.2 a = .inl (kd, n, f)) (hin : vp_in i n) (hv : f i.toNatClampNeg = v)
    (kk : sV g M d C S Q (pc + 1) lv (v :: st) hp ce sl) : sV g M d C S Q pc lv (.int i :: .ref a :: st) hp ce sl := by
  intro p e s m args below meth c H locs ls X r hl h
  obtain ⟨h1, h2⟩ := sArr r X.2.2.2.2.2.2.1 ha he ht
  exact W.lald (v := rv (sg_b g) v) X.1 X.2.1 h1 h2 (fun q => by cases q) (sIn hin) (by rw [arrV_read _ _ (sInL hin), ← hv]) rfl rfl hd (kk p e s m args below meth c H locs ls X r hl h)
theorem sv_aaload {v : Value} {C0 : String} (hd : decode M.2.1 pc = .ok (.aaload, 1)) (ht : g.2.2.1[kd]? = some (cA, .object C0)) (ha : a < hp.1) (he : hp.2 a = .inl (kd, n, f)) (hin : vp_in i n) (hv : f i.toNatClampNeg = v)
    (kk : sV g M d C S Q (pc + 1) lv (v :: st) hp ce sl) : sV g M d C S Q pc lv (.int i :: .ref a :: st) hp ce sl := by
  intro p e s m args below meth c H locs ls X r hl h
  obtain ⟨h1, h2⟩ := sArr r X.2.2.2.2.2.2.1 ha he ht
  exact W.aald (v := rv (sg_b g) v) X.1 X.2.1 h1 h2 rfl (fun q => by cases q) (sIn hin) (by rw [arrV_read _ _ (sInL hin), ← hv]) rfl rfl hd (kk p e s m args below meth c H locs ls X r hl h)
theorem sv_arraylength {ty : FieldType} {v : Int32} (hd : decode M.2.1 pc = .ok (.arraylength, 1)) (ht : g.2.2.1[kd]? = some (cA, ty)) (ha : a < hp.1) (he : hp.2 a = .inl (kd, n, f)) (hv : Int32.ofNat n = v)
    (kk : sV g M d C S Q (pc + 1) lv (.int v :: st) hp ce sl) : sV g M d C S Q pc lv (.ref a :: st) hp ce sl := by
  intro p e s m args below meth c H locs ls X r hl h
  obtain ⟨h1, h2⟩ := sArr r X.2.2.2.2.2.2.1 ha he ht
  exact W.alen (n := v) X.1 X.2.1 h1 h2 (by rw [arrV_size, ← hv]) rfl rfl hd (kk p e s m args below meth c H locs ls X r hl h)
theorem sv_iastore {x : Int32} (hd : decode M.2.1 pc = .ok (.iastore, 1)) (ht : g.2.2.1[kd]? = some (cA, .int)) (ha : a < hp.1) (he : hp.2 a = .inl (kd, n, f)) (hin : vp_in i n)
    (kk : sV g M d C S Q (pc + 1) lv st (hp.1, sUp hp.2 a (.inl (kd, n, updV f i.toNatClampNeg (.int x)))) ce sl) : sV g M d C S Q pc lv (.int x :: .int i :: .ref a :: st) hp ce sl := by
  intro p e s m args below meth c H locs ls X r hl h
  obtain ⟨h1, h2⟩ := sArr r X.2.2.2.2.2.2.1 ha he ht
  refine W.iast X.1 X.2.1 h1 h2 (fun q => by cases q) (sIn hin) rfl rfl hd fun H1 e1 z oq => ?_
  refine kk p e s m args below meth c H1 _ ls X (r.put z oq ⟨cA, .int, ht, ?_⟩) (fun q hq => ?_) h
  · rw [e1, rv_up, arrV_store]
    rfl
  · rcases List.mem_append.mp hq with hq | hq
    · exact hl q hq
    · rw [List.mem_singleton.mp hq]; exact Nat.le_add_right _ _
theorem sv_bastore {x : Int32} (hd : decode M.2.1 pc = .ok (.bastore, 1)) (ht : g.2.2.1[kd]? = some (cA, .byte)) (ha : a < hp.1) (he : hp.2 a = .inl (kd, n, f)) (hin : vp_in i n)
    (kk : sV g M d C S Q (pc + 1) lv st (hp.1, sUp hp.2 a (.inl (kd, n, updV f i.toNatClampNeg (.int (vp_nar .byte x))))) ce sl) : sV g M d C S Q pc lv (.int x :: .int i :: .ref a :: st) hp ce sl := by
  intro p e s m args below meth c H locs ls X r hl h
  obtain ⟨h1, h2⟩ := sArr r X.2.2.2.2.2.2.1 ha he ht
  refine W.bast X.1 X.2.1 h1 h2 (fun q => by cases q) (sIn hin) rfl rfl hd fun H1 e1 z oq => ?_
  refine kk p e s m args below meth c H1 _ ls X (r.put z oq ⟨cA, .byte, ht, ?_⟩) (fun q hq => ?_) h
  · rw [e1, rv_up, arrV_store]
    rfl
  · rcases List.mem_append.mp hq with hq | hq
    · exact hl q hq
    · rw [List.mem_singleton.mp hq]; exact Nat.le_add_right _ _
theorem sv_zastore {x : Int32} (hd : decode M.2.1 pc = .ok (.bastore, 1)) (ht : g.2.2.1[kd]? = some (cA, .boolean)) (ha : a < hp.1) (he : hp.2 a = .inl (kd, n, f)) (hin : vp_in i n)
    (kk : sV g M d C S Q (pc + 1) lv st (hp.1, sUp hp.2 a (.inl (kd, n, updV f i.toNatClampNeg (.int (vp_nar .boolean x))))) ce sl) : sV g M d C S Q pc lv (.int x :: .int i :: .ref a :: st) hp ce sl := by
  intro p e s m args below meth c H locs ls X r hl h
  obtain ⟨h1, h2⟩ := sArr r X.2.2.2.2.2.2.1 ha he ht
  refine W.zast X.1 X.2.1 h1 h2 (fun q => by cases q) (sIn hin) rfl rfl hd fun H1 e1 z oq => ?_
  refine kk p e s m args below meth c H1 _ ls X (r.put z oq ⟨cA, .boolean, ht, ?_⟩) (fun q hq => ?_) h
  · rw [e1, rv_up, arrV_store]
    rfl
  · rcases List.mem_append.mp hq with hq | hq
    · exact hl q hq
    · rw [List.mem_singleton.mp hq]; exact Nat.le_add_right _ _
theorem sv_lastore {x : Int64} (hd : decode M.2.1 pc = .ok (.lastore, 1)) (ht : g.2.2.1[kd]? = some (cA, .long)) (ha : a < hp.1) (he : hp.2 a = .inl (kd, n, f)) (hin : vp_in i n)
    (kk : sV g M d C S Q (pc + 1) lv st (hp.1, sUp hp.2 a (.inl (kd, n, updV f i.toNatClampNeg (.long x)))) ce sl) : sV g M d C S Q pc lv (.long x :: .int i :: .ref a :: st) hp ce sl := by
  intro p e s m args below meth c H locs ls X r hl h
  obtain ⟨h1, h2⟩ := sArr r X.2.2.2.2.2.2.1 ha he ht
  refine W.last X.1 X.2.1 h1 h2 (fun q => by cases q) (sIn hin) rfl rfl hd fun H1 e1 z oq => ?_
  refine kk p e s m args below meth c H1 _ ls X (r.put z oq ⟨cA, .long, ht, ?_⟩) (fun q hq => ?_) h
  · rw [e1, rv_up, arrV_store]
    rfl
  · rcases List.mem_append.mp hq with hq | hq
    · exact hl q hq
    · rw [List.mem_singleton.mp hq]; exact Nat.le_add_right _ _
theorem sv_new {index ci : Nat} {T : vw_C} {ty : Nat → FieldType} {fs : List Value} (hd : decode M.2.1 pc = .ok (.new index, 3)) (hC : sCl g ci T ty) (hcl : Cond.classLink M.1.cls index T.1 ∈ sg_ws g) (hinst : Cond.instantiable T.1 T.2.2 ∈ sg_ws g) (hini : Cond.initialized T.1 ∈ sg_ws g) (hfs : ∀ b j, j < T.2.2 → defaultValue (ty j) = rv b (vp_V fs j)) (hc1 : ce + 1 ≤ C) (hs1 : sl + T.2.2 ≤ S)
    (kk : sV g M d C S Q (pc + 3) lv (.ref hp.1 :: st) (hp.1 + 1, sUp hp.2 hp.1 (.inr (ci, fs))) (ce + 1) (sl + T.2.2)) : sV g M d C S Q pc lv st hp ce sl := by
  intro p e s m args below meth c H locs ls X r hl h
  obtain ⟨hx, hb, hr, hml, hown, hts, hK, hlk, hnm⟩ := id X
  have hKn := hK.1 ci _ hC.1
  refine W.newcK hx hb hown (hts _ hcl) (hts _ hinst) (hts _ hini) rfl hd hc1 hs1 hKn.2.1 rfl fun H1 kC hkC e1 z1 o1 => ?_
  have hz := r.1
  have hR : sR g (hp.1 + 1, sUp hp.2 hp.1 (.inr (ci, fs))) H1 := r.push z1 o1 ⟨T, hC.1, (u_born ty hts hC.2.1 hKn hkC (by rw [← hz]; exact e1) hC.2.2.1).to (hfs (sg_b g))⟩
  have := kk p e s m args below meth c H1 locs ls X hR hl h
  rw [show (Value.ref hp.1 :: st).map (rv (sg_b g)) = .ref (sg_b g + hp.1) :: st.map (rv (sg_b g)) from rfl, ← hz] at this
  exact this
theorem sv_newarray {atype : ArrayType} {x : Int32} {ty : FieldType} {N : Nat} {v : Value} (hd : decode M.2.1 pc = .ok (.newarray atype, 2)) (hty : newarray.typeOf atype = ty) (hw : Cond.arrayClass ty ∈ sg_ws g) (ht : g.2.2.1[kd]? = some (cA, ty)) (hra : ∀ U : State, va_RA U cA ty → U.vm.findClass ("[" ++ ty.toString) = some cA) (hn : ¬ x < 0) (hN : x.toNatClampNeg = N) (hby : N * componentBytes ty ≤ 536870912) (hv : ∀ b, defaultValue ty = rv b v) (hc1 : ce + 1 ≤ C) (hs1 : sl + N ≤ S)
    (kk : sV g M d C S Q (pc + 2) lv (.ref hp.1 :: st) (hp.1 + 1, sUp hp.2 hp.1 (.inl (kd, N, fun _ => v))) (ce + 1) (sl + N)) : sV g M d C S Q pc lv (.int x :: st) hp ce sl := by
  subst hty
  intro p e s m args below meth c H locs ls X r hl h
  obtain ⟨hx, hb, hr, hml, hown, hts, hK, hlk, hnm⟩ := id X
  refine va_newaK hx hb (hts _ hw) rfl hd rfl hn hN hby hc1 hs1 rfl fun H1 cA' e1 z1 o1 hAr hNm => ?_
  have hcc : cA' = cA := Option.some.inj (hNm.symm.trans (hra s (hK.2 kd _ ht).2))
  subst hcc
  have hz := r.1
  have hR : sR g (hp.1 + 1, sUp hp.2 hp.1 (.inl (kd, N, fun _ => v))) H1 := r.push z1 o1 ⟨cA', _, ht, by rw [← hz, e1, hv (sg_b g)]⟩
  have := kk p e s m args below meth c H1 locs ls X hR hl h
  rw [show (Value.ref hp.1 :: st).map (rv (sg_b g)) = .ref (sg_b g + hp.1) :: st.map (rv (sg_b g)) from rfl, ← hz] at this
  exact this
theorem sv_anewarray {index : Nat} {x : Int32} {C0 : String} {N : Nat} (hd : decode M.2.1 pc = .ok (.anewarray index, 3)) (hcl : Cond.classLink M.1.cls index C0 ∈ sg_ws g) (hov : Cond.arrayOver (.object C0) ∈ sg_ws g) (ht : g.2.2.1[kd]? = some (cA, .object C0)) (hn : ¬ x < 0) (hN : x.toNatClampNeg = N) (hby : N * 4 ≤ 536870912) (hc1 : ce + 1 ≤ C) (hs1 : sl + N ≤ S)
    (kk : sV g M d C S Q (pc + 3) lv (.ref hp.1 :: st) (hp.1 + 1, sUp hp.2 hp.1 (.inl (kd, N, fun _ => .null))) (ce + 1) (sl + N)) : sV g M d C S Q pc lv (.int x :: st) hp ce sl := by
  subst hN
  intro p e s m args below meth c H locs ls X r hl h
  obtain ⟨hx, hb, hr, hml, hown, hts, hK, hlk, hnm⟩ := id X
  refine W.anew hx hb hown (hts _ hcl) (hts _ hov) rfl hd rfl hn hby hc1 hs1 fun cA' kA comp h1 h2 h3 h4 => ?_
  obtain ⟨-, kA2, comp2, g1, g2, g3, g4⟩ := hK.2 kd _ ht
  have hcc : cA' = cA := Option.some.inj (h1.symm.trans g4)
  subst hcc
  have hz := r.1
  have hR : sR g (hp.1 + 1, sUp hp.2 hp.1 (.inl (kd, x.toNatClampNeg, fun _ => .null))) (H.push { cls := cA', slots := Array.replicate x.toNatClampNeg .null, vm := .none }) := by
    refine r.push (by simp) (fun q hq => ?_) ⟨cA', _, ht, ?_⟩
    · rw [Array.getElem?_push, if_neg (Nat.ne_of_lt hq)]
    · rw [← hz, arrV_new]
      simp
      rfl
  have := kk p e s m args below meth c _ locs ls X hR hl h
  rw [show (Value.ref hp.1 :: st).map (rv (sg_b g)) = .ref (sg_b g + hp.1) :: st.map (rv (sg_b g)) from rfl, ← hz] at this
  exact this
/-! returns -/
theorem sv_iret {v : Int32} (hd : decode M.2.1 pc = .ok (.ireturn, 1)) (hret : M.2.2.2 = some .int) (hc : ce ≤ C) (hs : sl ≤ S) (hq : Q (some (.int v)) hp) : sV g M d C S Q pc lv [.int v] hp ce sl := by
  intro p e s m args below meth c H locs ls X r hl h
  obtain ⟨hx, hb, hr, hml, hown, hts, hK, hlk, hnm⟩ := id X
  exact W.widen hc hs (W.iret (v := v) hx hb (hr.trans hret) (fun t ht hW => ⟨some (.int v), hp, rfl, hq, by rw [ht]; exact r, hK.moved hW.alike⟩) hl hd hlk)
theorem sv_zret {v : Int32} {ty : FieldType} (hd : decode M.2.1 pc = .ok (.ireturn, 1)) (hret : M.2.2.2 = some ty) (hn : narrow ty (.int v) = .int v) (hc : ce ≤ C) (hs : sl ≤ S) (hq : Q (some (.int v)) hp) : sV g M d C S Q pc lv [.int v] hp ce sl := by
  intro p e s m args below meth c H locs ls X r hl h
  obtain ⟨hx, hb, hr, hml, hown, hts, hK, hlk, hnm⟩ := id X
  exact W.widen hc hs (W.zret (v := v) hx hb (hr.trans hret) hn (fun t ht hW => ⟨some (.int v), hp, rfl, hq, by rw [ht]; exact r, hK.moved hW.alike⟩) hl hd hlk)
theorem sv_lret {v : Int64} (hd : decode M.2.1 pc = .ok (.lreturn, 1)) (hret : M.2.2.2 = some .long) (hc : ce ≤ C) (hs : sl ≤ S) (hq : Q (some (.long v)) hp) : sV g M d C S Q pc lv [.long v] hp ce sl := by
  intro p e s m args below meth c H locs ls X r hl h
  obtain ⟨hx, hb, hr, hml, hown, hts, hK, hlk, hnm⟩ := id X
  exact W.widen hc hs (W.lret (v := v) hx hb (hr.trans hret) (fun t ht hW => ⟨some (.long v), hp, rfl, hq, by rw [ht]; exact r, hK.moved hW.alike⟩) hl hd hlk)
theorem sv_vret (hd : decode M.2.1 pc = .ok (.return_, 1)) (hret : M.2.2.2 = none) (hc : ce ≤ C) (hs : sl ≤ S) (hq : Q none hp) : sV g M d C S Q pc lv [] hp ce sl := by
  intro p e s m args below meth c H locs ls X r hl h
  obtain ⟨hx, hb, hr, hml, hown, hts, hK, hlk, hnm⟩ := id X
  exact W.widen hc hs (W.vret hx hb (hr.trans hret) (fun t ht hW => ⟨none, hp, rfl, hq, by rw [ht]; exact r, hK.moved hW.alike⟩) hl hd hlk)
theorem sv_aret {a : Nat} {C0 : String} (hd : decode M.2.1 pc = .ok (.areturn, 1)) (hret : M.2.2.2 = some (.object C0)) (hc : ce ≤ C) (hs : sl ≤ S) (hq : Q (some (.ref a)) hp) : sV g M d C S Q pc lv [.ref a] hp ce sl := by
  intro p e s m args below meth c H locs ls X r hl h
  obtain ⟨hx, hb, hr, hml, hown, hts, hK, hlk, hnm⟩ := id X
  exact W.widen hc hs (W.aret (v := .ref (sg_b g + a)) hx hb (hr.trans hret) (Or.inl ⟨_, rfl⟩) (Or.inr ⟨_, rfl⟩) (fun t ht hW => ⟨some (.ref a), hp, rfl, hq, by rw [ht]; exact r, hK.moved hW.alike⟩) hl hd hlk)
end SVA
end
section
/-! The layer's rules: calls. -/
/-- all words are good ones -/
def sOk (g : sG) : Prop := ∀ w ∈ sg_ws g, (w.onTables && w.keeps) = true ∨ ∃ ty, w = .arrayClass ty
/-- a method that can be called: its code and its class's state are among the words; n parameters -/
def sMt (g : sG) (M : sM) (n : Nat) : Prop := Cond.code M.1 M.2.1 M.2.2.1 M.2.2.2 ∈ sg_ws g ∧ Cond.initialized M.1.cls ∈ sg_ws g ∧ (M.1.cls ≠ "java/lang/invoke/MethodHandle" ∧ M.1.cls ≠ "java/lang/invoke/VarHandle" ∧ (parseMethodDescriptor M.1.desc).map (fun d => d.parameters.length) = some n)
theorem sGood {g : sG} {M' : sM} (ho : sOk g) (hc : Cond.code M'.1 M'.2.1 M'.2.2.1 M'.2.2.2 ∈ sg_ws g) : GoodIn (sg_ws g) (sWs g M') := by
  intro w hw
  rcases List.mem_cons.mp hw with rfl | hw
  · exact ⟨hc, ho _ hc⟩
  · exact ⟨hw, ho _ hw⟩
section SVC
variable {g : sG} {M M' : sM} {d C S d' C' S' : Nat} {Q Q' : Option Value → sHp → Prop} {pc : Nat} {lv : List (Nat × Value)} {st st0 av : List Value} {hp : sHp} {ce sl : Nat}
theorem sBlind : FrameBlind (fun (a : Array Value) (U : State) => a = (av.map (rv (sg_b g))).toArray ∧ sR g hp U.heap ∧ sK g U) := fun a U g2 mk q => ⟨q.1, q.2.1, sK.moved (u := U) (U := U.calling g2 mk a) (Vm.Alike.refl U.vm) q.2.2⟩
theorem sGo {p : Program} {e : Env} {s : State} {m : MethodId} {args : Array Value} {below : List Frame} {meth : Method} {c : Code} {H : Heap} {locs : List Loc} {ls : Array Slot} {a : Array Value}
    (hr : va_Run p g.1 e (sRm d C S) s m args below meth c H locs ce sl C' S' (F0 m pc ls (st0.map (rv (sg_b g)))) (st.map (rv (sg_b g))) (sQ g Q' a) (fun q => sg_b g ≤ q)) (X : sX g M p s m args meth c) (hl : ∀ q ∈ locs, sg_b g ≤ q.base) (h : sHas (sg_b g) ls M.2.2.1 lv)
    (kk : ∀ (r : Option Value) (hp' : sHp), Q' r hp' → sV g M d C S Q (pc + 3) lv (r.toList ++ st) hp' (ce + C') (sl + S')) : W p g.1 e (sRm d C S) s m args below meth c H locs ce sl (MQ below (sQ g Q) args s C S (fun q => sg_b g ≤ q)) (F0 m pc ls (st0.map (rv (sg_b g)))) := by
  intro T hT X1
  obtain ⟨v, st₀, t, T', L, h0, X', hL, e1, e2, ⟨r, hp', hv, hq, hR, hK⟩, stp⟩ := hr T hT X1
  cases hv
  obtain ⟨t2, a1, b1⟩ := kk r hp' hq p e s m args below meth c T'.heap (locs ++ L) ls X (by rw [e1]; exact hR) (fun q hq => by
    rcases List.mem_append.mp hq with h | h
    · exact hl q h
    · exact hL q h) h T' rfl X'
  refine ⟨t2, stp t2 ?_, b1⟩
  have he : ((r.map (rv (sg_b g))).toList ++ st.map (rv (sg_b g))) = (r.toList ++ st).map (rv (sg_b g)) := by cases r <;> rfl
  rw [he]
  exact a1
theorem sRoom {st : List Value} {b : Nat} (h : (st.map fun v => v.category).sum ≤ 8) : ((st.map (rv b)).map fun v => v.category).sum ≤ 8 := by
  rw [List.map_map]
  have : ((fun v : Value => v.category) ∘ rv b) = fun v => v.category := by funext v; exact rv_cat b v
  rw [this]; exact h
theorem sv_callV {index ci a : Nat} {T : vw_C} {ty : Nat → FieldType} {fs : List Value} (hct : sC g M' d' C' S' (.ref a :: av) hp Q') (ho : sOk g) (hd : decode M.2.1 pc = .ok (.invokevirtual index, 3)) (hm : sMt g M' av.length) (hi : Cond.instanceMethod M'.1 ∈ sg_ws g ∧ Cond.selects M'.1.cls M'.1 M'.1 ∈ sg_ws g) (hlk : Cond.methodLink M.1.cls index M'.1 ∈ sg_ws g) (hC : sCl g ci T ty) (hT : T.1 = M'.1.cls) (ha : a < hp.1) (he : hp.2 a = .inr (ci, fs)) (hR : d' + 1 ≤ d ∧ M'.2.2.1 ≤ 40) (hf : ce + C' ≤ C ∧ sl + S' ≤ S) (hs : st0 = av.reverse ++ .ref a :: st) (hr8 : (st.map fun v => v.category).sum ≤ 8)
    (kk : ∀ (r : Option Value) (hp' : sHp), Q' r hp' → sV g M d C S Q (pc + 3) lv (r.toList ++ st) hp' (ce + C') (sl + S')) : sV g M d C S Q pc lv st0 hp ce sl := by
  subst hs
  intro p e s m args below meth c H locs ls X r hl h
  obtain ⟨hx, hb, hr, hml, hown, hts, hK, hlk2, hnm⟩ := id X
  have h0 := r.2.1 a ha
  rw [he] at h0
  obtain ⟨r', h1, cell, q1, q2, q3, q4⟩ := h0
  have hr' : r' = T := Option.some.inj (h1.symm.trans hC.1)
  subst hr'
  have hrun := va_runV (g := F0 m pc ls ((av.reverse ++ .ref a :: st).map (rv (sg_b g)))) (b := sg_b g + a) (As := av.map (rv (sg_b g))) (rest := st.map (rv (sg_b g))) (H := H) (locs := locs) (cells := ce) (slots := sl) (below := below) (meth := meth) (e := e) ⟨hx, hb, hml, hown, hts⟩ hct
    (⟨callB_of av.length hts (sGood ho hm.1) rfl rfl rfl (hts _ hm.2.1) (hts _ hlk) hm.2.2 ⟨hR.1, by show 8 + (M'.2.2.1 + 11) + 60 * d' ≤ 60 * d; omega⟩, hts _ hi.1, hts _ hi.2⟩ : CallW (sRm d C S) s args M.1.cls M'.1.cls index M'.1 M'.2.1 M'.2.2.1 M'.2.2.2 (sWs g M') (sRm d' C' S') C' S' av.length)
    ⟨sBlind, ⟨cell, q1, by rw [q3]; rfl, by rw [q2, ← hT]; exact (hK.1 ci _ hC.1).2.1⟩, fun U hU hW => ⟨rfl, by rw [hU]; exact r, hK.moved hW.alike⟩⟩ rfl (by simp) h.1 (by simp [rv]) (lv_room (sRoom hr8)) hd hf
  exact sGo hrun X hl h kk
theorem sv_callS {index : Nat} (hct : sC g M' d' C' S' av hp Q') (ho : sOk g) (hd : decode M.2.1 pc = .ok (.invokestatic index, 3)) (hm : sMt g M' av.length) (hi : Cond.static M'.1 ∈ sg_ws g) (hlk : Cond.methodLink M.1.cls index M'.1 ∈ sg_ws g) (hR : d' + 1 ≤ d ∧ M'.2.2.1 ≤ 40) (hf : ce + C' ≤ C ∧ sl + S' ≤ S) (hs : st0 = av.reverse ++ st) (hr8 : (st.map fun v => v.category).sum ≤ 8)
    (kk : ∀ (r : Option Value) (hp' : sHp), Q' r hp' → sV g M d C S Q (pc + 3) lv (r.toList ++ st) hp' (ce + C') (sl + S')) : sV g M d C S Q pc lv st0 hp ce sl := by
  subst hs
  intro p e s m args below meth c H locs ls X r hl h
  obtain ⟨hx, hb, hr, hml, hown, hts, hK, hlk2, hnm⟩ := id X
  have hrun := va_runS (g := F0 m pc ls ((av.reverse ++ st).map (rv (sg_b g)))) (As := av.map (rv (sg_b g))) (rest := st.map (rv (sg_b g))) (H := H) (locs := locs) (cells := ce) (slots := sl) (below := below) (meth := meth) (e := e) ⟨hx, hb, hml, hown, hts⟩ hct
    (⟨callB_of av.length hts (sGood ho hm.1) rfl rfl rfl (hts _ hm.2.1) (hts _ hlk) hm.2.2 ⟨hR.1, by show 8 + (M'.2.2.1 + 11) + 60 * d' ≤ 60 * d; omega⟩, hts _ hi⟩ : CallB (sRm d C S) s args M.1.cls index M'.1 M'.2.1 M'.2.2.1 M'.2.2.2 (sWs g M') (sRm d' C' S') C' S' av.length ∧ (Cond.static M'.1).before args s = true)
    ⟨sBlind, fun U hU hW => ⟨rfl, by rw [hU]; exact r, hK.moved hW.alike⟩⟩ rfl (by simp) h.1 (by simp) (lv_room (sRoom hr8)) hd hf
  exact sGo hrun X hl h kk
theorem sv_callI {index a : Nat} (hct : sC g M' d' C' S' (.ref a :: av) hp Q') (ho : sOk g) (hd : decode M.2.1 pc = .ok (.invokespecial index, 3)) (hm : sMt g M' av.length) (hret : M'.2.2.2 = none) (hy1 : M'.1.name = "<init>") (hi : Cond.instanceMethod M'.1 ∈ sg_ws g) (hlk : Cond.methodLink M.1.cls index M'.1 ∈ sg_ws g) (hR : d' + 1 ≤ d ∧ M'.2.2.1 ≤ 40) (hf : ce + C' ≤ C ∧ sl + S' ≤ S) (hs : st0 = av.reverse ++ .ref a :: st) (hr8 : (st.map fun v => v.category).sum ≤ 8)
    (kk : ∀ (r : Option Value) (hp' : sHp), Q' r hp' → sV g M d C S Q (pc + 3) lv (r.toList ++ st) hp' (ce + C') (sl + S')) : sV g M d C S Q pc lv st0 hp ce sl := by
  subst hs
  intro p e s m args below meth c H locs ls X r hl h
  obtain ⟨hx, hb, hr, hml, hown, hts, hK, hlk2, hnm⟩ := id X
  have hcode : Cond.code M'.1 M'.2.1 M'.2.2.1 none ∈ sg_ws g := by rw [← hret]; exact hm.1
  have hw : sWs g M' = Cond.code M'.1 M'.2.1 M'.2.2.1 none :: sg_ws g := by rw [← hret]; rfl
  have hrun := va_runI (g := F0 m pc ls ((av.reverse ++ .ref a :: st).map (rv (sg_b g)))) (b := sg_b g + a) (As := av.map (rv (sg_b g))) (rest := st.map (rv (sg_b g))) (H := H) (locs := locs) (cells := ce) (slots := sl) (below := below) (meth := meth) (e := e) ⟨hx, hb, hml, hown, hts⟩ hct
    (⟨callB_of av.length hts (sGood ho hm.1) hw rfl rfl (hts _ hm.2.1) (hts _ hlk) hm.2.2 ⟨hR.1, by show 8 + (M'.2.2.1 + 11) + 60 * d' ≤ 60 * d; omega⟩, hy1, hts _ hi⟩ : CallB (sRm d C S) s args M.1.cls index M'.1 M'.2.1 M'.2.2.1 none (sWs g M') (sRm d' C' S') C' S' av.length ∧ M'.1.name = "<init>" ∧ (Cond.instanceMethod M'.1).before args s = true)
    ⟨sBlind, fun U hU hW => ⟨rfl, by rw [hU]; exact r, hK.moved hW.alike⟩⟩ rfl (by simp) h.1 (by simp [rv]) (lv_room (sRoom hr8)) hd hf
  exact sGo hrun X hl h kk
theorem sv_objinit {index a : Nat} (hd : decode M.2.1 pc = .ok (.invokespecial index, 3)) (hlk : Cond.methodLink M.1.cls index objectInit ∈ sg_ws g) (hi : Cond.instanceMethod objectInit ∈ sg_ws g) (hc : Cond.code objectInit ⟨#[0xb1]⟩ 1 none ∈ sg_ws g) (hd1 : 1 ≤ d) (hr8 : (st.map fun v => v.category).sum ≤ 8)
    (kk : sV g M d C S Q (pc + 3) lv st hp ce sl) : sV g M d C S Q pc lv (.ref a :: st) hp ce sl := by
  intro p e s m args below meth c H locs ls X r hl h
  obtain ⟨hx, hb, hr, hml, hown, hts, hK, hlk2, hnm⟩ := id X
  refine W.objInit hx hb hown (hts _ hlk) (hts _ hi) (hts _ hc) rfl (by rw [hml]; exact h.1) rfl hd hd1 ?_ (kk p e s m args below meth c H locs ls X r hl h)
  have h8 := lv_room (m := m) (pc := pc) (ls := ls) (rest := (Value.ref a :: st).map (rv (sg_b g))) (sRoom (b := sg_b g) hr8)
  show _ + 12 ≤ 60 * d
  omega
end SVC
end
