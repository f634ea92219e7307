section
section SVK
variable {g : sG} {M : sM} {R : Room} {Z : sZT} {pc : Nat} {lv : List (Nat × Value)} {st : List Value} {hp : sHp} {ce sl hn : Nat} {hf : Nat → sE}
theorem lt_t {a n : Nat} (h : Nat.ble (a + 1) n = true) : a < n := Nat.le_of_ble_eq_true h
theorem le_t {a n : Nat} (h : Nat.ble a n = true) : a ≤ n := Nat.le_of_ble_eq_true h
theorem vp_in_k {i : Int32} {k n : Nat} (hk : i.toNatClampNeg = k) (h0 : ¬ i < 0) (hn : Nat.ble (k + 1) n = true) : vp_in i n := fun h => h.elim h0 (fun q => by rw [hk] at q; exact absurd (lt_t hn) (Nat.not_lt.mpr q))
theorem sv_heap {hp' : sHp} (h1 : hp.1 = hp'.1) (h2 : ∀ j, j < hp'.1 → hp.2 j = hp'.2 j) (k : sV g M R Z pc lv st hp' ce sl) : sV g M R Z pc lv st hp ce sl := by
  intro p e s m args below meth c H locs ls X r hl h
  exact k p e s m args below meth c H locs ls X ⟨by rw [← h1]; exact r.1, fun i hi => by rw [← h2 i hi]; exact r.2.1 i (by rw [h1]; exact hi), r.2.2⟩ hl h
theorem sv_lv {lv' : List (Nat × Value)} (h : ∀ q ∈ lv', q ∈ lv) (k : sV g M R Z pc lv' st hp ce sl) : sV g M R Z pc lv st hp ce sl := by
  intro p e s m args below meth c H locs ls X r hl hh
  refine k p e s m args below meth c H locs ls X r hl ⟨hh.1, hh.2.1, fun q hq => ?_⟩
  obtain ⟨x, hx, rfl⟩ := List.mem_map.mp hq
  exact hh.2.2 _ (List.mem_map.mpr ⟨x, h x hx, rfl⟩)
theorem sv_wide {ce' sl' : Nat} (h1 : ce ≤ ce') (h2 : sl ≤ sl') (k : sV g M R Z pc lv st hp ce' sl') : sV g M R Z pc lv st hp ce sl := fun p e s m args below meth c H locs ls X r hl h => W.widen h1 h2 (k p e s m args below meth c H locs ls X r hl h)

theorem sw_getfield {index ci a : Nat} {T : vw_C} {ty : Nat → FieldType} {fs : List Value} {v : Value} (hd : decode M.2.1 pc = .ok (.getfield index, 3)) (hC : sCl g ci T ty) (k : Nat) (hk : k < T.2.2) (hw : sFl T M.1.cls index k ∈ sg_ws g) (ha : Nat.ble (a + 1) hn = true) (he : hf a = .inr (ci, fs)) (hv : vp_V fs k = v) (kk : sV g M R Z (pc + 3) lv (v :: st) (hn, hf) ce sl) : sV g M R Z pc lv (.ref a :: st) (hn, hf) ce sl := sv_getfield hd hC k hk hw (lt_t ha) he hv kk
theorem sw_putfield {index ci a : Nat} {T : vw_C} {ty : Nat → FieldType} {fs : List Value} {v : Value} (hd : decode M.2.1 pc = .ok (.putfield index, 3)) (hC : sCl g ci T ty) (k : Nat) (hk : k < T.2.2) (hw : sFl T M.1.cls index k ∈ sg_ws g) (hfin : (T.2.1 k).2.2.2 = false) (ha : Nat.ble (a + 1) hn = true) (he : hf a = .inr (ci, fs)) (hna : ∀ b, narrow (ty k) (rv b v) = rv b v) (hft : ∀ b, fits (ty k) (rv b v) = true) (hlen : Nat.ble (k + 1) fs.length = true) (kk : sV g M R Z (pc + 3) lv st (hn, sUp hf a (.inr (ci, fs.set k v))) ce sl) : sV g M R Z pc lv (v :: .ref a :: st) (hn, hf) ce sl := sv_putfield hd hC k hk hw hfin (lt_t ha) he hna hft (lt_t hlen) kk
theorem sw_putfinal {index ci a : Nat} {T : vw_C} {ty : Nat → FieldType} {fs : List Value} {v : Value} (hd : decode M.2.1 pc = .ok (.putfield index, 3)) (hC : sCl g ci T ty) (k : Nat) (hk : k < T.2.2) (hw : sFl T M.1.cls index k ∈ sg_ws g) (hfin : (T.2.1 k).2.2.2 = true) (hini : M.1.name = "<init>") (hdecl : (T.2.1 k).1 = M.1.cls) (ha : Nat.ble (a + 1) hn = true) (he : hf a = .inr (ci, fs)) (hna : ∀ b, narrow (ty k) (rv b v) = rv b v) (hft : ∀ b, fits (ty k) (rv b v) = true) (hlen : Nat.ble (k + 1) fs.length = true) (kk : sV g M R Z (pc + 3) lv st (hn, sUp hf a (.inr (ci, fs.set k v))) ce sl) : sV g M R Z pc lv (v :: .ref a :: st) (hn, hf) ce sl := sv_putfinal hd hC k hk hw hfin hini hdecl (lt_t ha) he hna hft (lt_t hlen) kk
theorem sw_iadd {x y v : Int32} (hd : decode M.2.1 pc = .ok (.iadd, 1)) (hv : x + y = v) (k : sV g M R Z (pc + 1) lv (.int v :: st) hp ce sl) : sV g M R Z (pc) lv (.int y :: .int x :: st) hp ce sl := sv_iadd hd (by rw [hv]; exact k)
theorem sw_isub {x y v : Int32} (hd : decode M.2.1 pc = .ok (.isub, 1)) (hv : x - y = v) (k : sV g M R Z (pc + 1) lv (.int v :: st) hp ce sl) : sV g M R Z (pc) lv (.int y :: .int x :: st) hp ce sl := sv_isub hd (by rw [hv]; exact k)
theorem sw_imul {x y v : Int32} (hd : decode M.2.1 pc = .ok (.imul, 1)) (hv : x * y = v) (k : sV g M R Z (pc + 1) lv (.int v :: st) hp ce sl) : sV g M R Z (pc) lv (.int y :: .int x :: st) hp ce sl := sv_imul hd (by rw [hv]; exact k)
theorem sw_iand {x y v : Int32} (hd : decode M.2.1 pc = .ok (.iand, 1)) (hv : x &&& y = v) (k : sV g M R Z (pc + 1) lv (.int v :: st) hp ce sl) : sV g M R Z (pc) lv (.int y :: .int x :: st) hp ce sl := sv_iand hd (by rw [hv]; exact k)
theorem sw_ior {x y v : Int32} (hd : decode M.2.1 pc = .ok (.ior, 1)) (hv : x ||| y = v) (k : sV g M R Z (pc + 1) lv (.int v :: st) hp ce sl) : sV g M R Z (pc) lv (.int y :: .int x :: st) hp ce sl := sv_ior hd (by rw [hv]; exact k)
theorem sw_ixor {x y v : Int32} (hd : decode M.2.1 pc = .ok (.ixor, 1)) (hv : x ^^^ y = v) (k : sV g M R Z (pc + 1) lv (.int v :: st) hp ce sl) : sV g M R Z (pc) lv (.int y :: .int x :: st) hp ce sl := sv_ixor hd (by rw [hv]; exact k)
theorem sw_ishl {x y v : Int32} (hd : decode M.2.1 pc = .ok (.ishl, 1)) (hv : x <<< (y &&& 31) = v) (k : sV g M R Z (pc + 1) lv (.int v :: st) hp ce sl) : sV g M R Z (pc) lv (.int y :: .int x :: st) hp ce sl := sv_ishl hd (by rw [hv]; exact k)
theorem sw_ishr {x y v : Int32} (hd : decode M.2.1 pc = .ok (.ishr, 1)) (hv : x >>> (y &&& 31) = v) (k : sV g M R Z (pc + 1) lv (.int v :: st) hp ce sl) : sV g M R Z (pc) lv (.int y :: .int x :: st) hp ce sl := sv_ishr hd (by rw [hv]; exact k)
theorem sw_idiv {x y v : Int32} (hd : decode M.2.1 pc = .ok (.idiv, 1)) (hne : ¬ y = 0) (hv : x / y = v) (k : sV g M R Z (pc + 1) lv (.int v :: st) hp ce sl) : sV g M R Z (pc) lv (.int y :: .int x :: st) hp ce sl := sv_idiv hd hne (by rw [hv]; exact k)
theorem sw_irem {x y v : Int32} (hd : decode M.2.1 pc = .ok (.irem, 1)) (hne : ¬ y = 0) (hv : x - x / y * y = v) (k : sV g M R Z (pc + 1) lv (.int v :: st) hp ce sl) : sV g M R Z (pc) lv (.int y :: .int x :: st) hp ce sl := sv_irem hd hne (by rw [hv]; exact k)
theorem sw_ineg {x v : Int32} (hd : decode M.2.1 pc = .ok (.ineg, 1)) (hv : -x = v) (k : sV g M R Z (pc + 1) lv (.int v :: st) hp ce sl) : sV g M R Z (pc) lv (.int x :: st) hp ce sl := sv_ineg hd (by rw [hv]; exact k)
theorem sw_ladd {x y v : Int64} (hd : decode M.2.1 pc = .ok (.ladd, 1)) (hv : x + y = v) (k : sV g M R Z (pc + 1) lv (.long v :: st) hp ce sl) : sV g M R Z (pc) lv (.long y :: .long x :: st) hp ce sl := sv_ladd hd (by rw [hv]; exact k)
theorem sw_lsub {x y v : Int64} (hd : decode M.2.1 pc = .ok (.lsub, 1)) (hv : x - y = v) (k : sV g M R Z (pc + 1) lv (.long v :: st) hp ce sl) : sV g M R Z (pc) lv (.long y :: .long x :: st) hp ce sl := sv_lsub hd (by rw [hv]; exact k)
theorem sw_land {x y v : Int64} (hd : decode M.2.1 pc = .ok (.land, 1)) (hv : x &&& y = v) (k : sV g M R Z (pc + 1) lv (.long v :: st) hp ce sl) : sV g M R Z (pc) lv (.long y :: .long x :: st) hp ce sl := sv_land hd (by rw [hv]; exact k)
theorem sw_lor {x y v : Int64} (hd : decode M.2.1 pc = .ok (.lor, 1)) (hv : x ||| y = v) (k : sV g M R Z (pc + 1) lv (.long v :: st) hp ce sl) : sV g M R Z (pc) lv (.long y :: .long x :: st) hp ce sl := sv_lor hd (by rw [hv]; exact k)
theorem sw_lcmp {x y : Int64} {v : Int32} (hd : decode M.2.1 pc = .ok (.lcmp, 1)) (hv : lg_cmp x y = v) (k : sV g M R Z (pc + 1) lv (.int v :: st) hp ce sl) : sV g M R Z (pc) lv (.long y :: .long x :: st) hp ce sl := sv_lcmp hd (by rw [hv]; exact k)
theorem sw_iinc {i : Nat} {n : Int} {x v : Int32} (hd : decode M.2.1 pc = .ok (.iinc i n, 3)) (hg : sGet i lv = some (.int x)) (hn : i < M.2.2.1) (hv : x + Int32.ofInt n = v) (k : sV g M R Z (pc + 3) (sSet i (.int v) lv) st hp ce sl) : sV g M R Z (pc) lv (st) hp ce sl := sv_iinc hd hg hv hn k
theorem sw_iaload {a kd n k : Nat} {cA : ClassId} {f : Nat → Value} {i : Int32} {v : Value} (hd : decode M.2.1 pc = .ok (.iaload, 1)) (ht : g.2.2.1[kd]? = some (cA, .int)) (ha : Nat.ble (a + 1) hn = true) (he : hf a = .inl (kd, n, f)) (hk : i.toNatClampNeg = k) (h0 : ¬ i < 0) (hkn : Nat.ble (k + 1) n = true) (hv : f k = v) (kk : sV g M R Z (pc + 1) lv (v :: st) (hn, hf) ce sl) : sV g M R Z (pc) lv (.int i :: .ref a :: st) (hn, hf) ce sl := sv_iaload hd ht (lt_t ha) he (vp_in_k hk h0 hkn) (by rw [hk]; exact hv) kk
theorem sw_baload {a kd n k : Nat} {cA : ClassId} {f : Nat → Value} {i : Int32} {v : Value} (hd : decode M.2.1 pc = .ok (.baload, 1)) (ht : g.2.2.1[kd]? = some (cA, .byte)) (ha : Nat.ble (a + 1) hn = true) (he : hf a = .inl (kd, n, f)) (hk : i.toNatClampNeg = k) (h0 : ¬ i < 0) (hkn : Nat.ble (k + 1) n = true) (hv : f k = v) (kk : sV g M R Z (pc + 1) lv (v :: st) (hn, hf) ce sl) : sV g M R Z (pc) lv (.int i :: .ref a :: st) (hn, hf) ce sl := sv_baload hd ht (lt_t ha) he (vp_in_k hk h0 hkn) (by rw [hk]; exact hv) kk
theorem sw_zaload {a kd n k : Nat} {cA : ClassId} {f : Nat → Value} {i : Int32} {v : Value} (hd : decode M.2.1 pc = .ok (.baload, 1)) (ht : g.2.2.1[kd]? = some (cA, .boolean)) (ha : Nat.ble (a + 1) hn = true) (he : hf a = .inl (kd, n, f)) (hk : i.toNatClampNeg = k) (h0 : ¬ i < 0) (hkn : Nat.ble (k + 1) n = true) (hv : f k = v) (kk : sV g M R Z (pc + 1) lv (v :: st) (hn, hf) ce sl) : sV g M R Z (pc) lv (.int i :: .ref a :: st) (hn, hf) ce sl := sv_zaload hd ht (lt_t ha) he (vp_in_k hk h0 hkn) (by rw [hk]; exact hv) kk
theorem sw_laload {a kd n k : Nat} {cA : ClassId} {f : Nat → Value} {i : Int32} {v : Value} (hd : decode M.2.1 pc = .ok (.laload, 1)) (ht : g.2.2.1[kd]? = some (cA, .long)) (ha : Nat.ble (a + 1) hn = true) (he : hf a = .inl (kd, n, f)) (hk : i.toNatClampNeg = k) (h0 : ¬ i < 0) (hkn : Nat.ble (k + 1) n = true) (hv : f k = v) (kk : sV g M R Z (pc + 1) lv (v :: st) (hn, hf) ce sl) : sV g M R Z (pc) lv (.int i :: .ref a :: st) (hn, hf) ce sl := sv_laload hd ht (lt_t ha) he (vp_in_k hk h0 hkn) (by rw [hk]; exact hv) kk
theorem sw_aaload {a kd n k : Nat} {cA : ClassId} {C0 : String} {f : Nat → Value} {i : Int32} {v : Value} (hd : decode M.2.1 pc = .ok (.aaload, 1)) (ht : g.2.2.1[kd]? = some (cA, .object C0)) (ha : Nat.ble (a + 1) hn = true) (he : hf a = .inl (kd, n, f)) (hk : i.toNatClampNeg = k) (h0 : ¬ i < 0) (hkn : Nat.ble (k + 1) n = true) (hv : f k = v) (kk : sV g M R Z (pc + 1) lv (v :: st) (hn, hf) ce sl) : sV g M R Z (pc) lv (.int i :: .ref a :: st) (hn, hf) ce sl := sv_aaload hd ht (lt_t ha) he (vp_in_k hk h0 hkn) (by rw [hk]; exact hv) kk
theorem sw_iastore {a kd n k : Nat} {cA : ClassId} {f : Nat → Value} {i : Int32} {x : Int32} {v : Value} (hd : decode M.2.1 pc = .ok (.iastore, 1)) (ht : g.2.2.1[kd]? = some (cA, .int)) (ha : Nat.ble (a + 1) hn = true) (he : hf a = .inl (kd, n, f)) (hk : i.toNatClampNeg = k) (h0 : ¬ i < 0) (hkn : Nat.ble (k + 1) n = true) (hv : .int x = v) (kk : sV g M R Z (pc + 1) lv (st) (hn, sUp hf a (.inl (kd, n, updV f k v))) ce sl) : sV g M R Z (pc) lv (.int x :: .int i :: .ref a :: st) (hn, hf) ce sl := sv_iastore hd ht (lt_t ha) he (vp_in_k hk h0 hkn) (by rw [hk, hv]; exact kk)
theorem sw_bastore {a kd n k : Nat} {cA : ClassId} {f : Nat → Value} {i : Int32} {x : Int32} {v : Value} (hd : decode M.2.1 pc = .ok (.bastore, 1)) (ht : g.2.2.1[kd]? = some (cA, .byte)) (ha : Nat.ble (a + 1) hn = true) (he : hf a = .inl (kd, n, f)) (hk : i.toNatClampNeg = k) (h0 : ¬ i < 0) (hkn : Nat.ble (k + 1) n = true) (hv : .int (vp_nar .byte x) = v) (kk : sV g M R Z (pc + 1) lv (st) (hn, sUp hf a (.inl (kd, n, updV f k v))) ce sl) : sV g M R Z (pc) lv (.int x :: .int i :: .ref a :: st) (hn, hf) ce sl := sv_bastore hd ht (lt_t ha) he (vp_in_k hk h0 hkn) (by rw [hk, hv]; exact kk)
theorem sw_zastore {a kd n k : Nat} {cA : ClassId} {f : Nat → Value} {i : Int32} {x : Int32} {v : Value} (hd : decode M.2.1 pc = .ok (.bastore, 1)) (ht : g.2.2.1[kd]? = some (cA, .boolean)) (ha : Nat.ble (a + 1) hn = true) (he : hf a = .inl (kd, n, f)) (hk : i.toNatClampNeg = k) (h0 : ¬ i < 0) (hkn : Nat.ble (k + 1) n = true) (hv : .int (vp_nar .boolean x) = v) (kk : sV g M R Z (pc + 1) lv (st) (hn, sUp hf a (.inl (kd, n, updV f k v))) ce sl) : sV g M R Z (pc) lv (.int x :: .int i :: .ref a :: st) (hn, hf) ce sl := sv_zastore hd ht (lt_t ha) he (vp_in_k hk h0 hkn) (by rw [hk, hv]; exact kk)
theorem sw_lastore {a kd n k : Nat} {cA : ClassId} {f : Nat → Value} {i : Int32} {x : Int64} {v : Value} (hd : decode M.2.1 pc = .ok (.lastore, 1)) (ht : g.2.2.1[kd]? = some (cA, .long)) (ha : Nat.ble (a + 1) hn = true) (he : hf a = .inl (kd, n, f)) (hk : i.toNatClampNeg = k) (h0 : ¬ i < 0) (hkn : Nat.ble (k + 1) n = true) (hv : .long x = v) (kk : sV g M R Z (pc + 1) lv (st) (hn, sUp hf a (.inl (kd, n, updV f k v))) ce sl) : sV g M R Z (pc) lv (.long x :: .int i :: .ref a :: st) (hn, hf) ce sl := sv_lastore hd ht (lt_t ha) he (vp_in_k hk h0 hkn) (by rw [hk, hv]; exact kk)
theorem sw_aastore {a kd n k v ci : Nat} {T : vw_C} {ty : Nat → FieldType} {fs : List Value} {cA : ClassId} {f : Nat → Value} {i : Int32} (hd : decode M.2.1 pc = .ok (.aastore, 1)) (hC : sCl g ci T ty) (ht : g.2.2.1[kd]? = some (cA, .object T.1)) (ha : Nat.ble (a + 1) hn = true) (he : hf a = .inl (kd, n, f)) (hk : i.toNatClampNeg = k) (h0 : ¬ i < 0) (hkn : Nat.ble (k + 1) n = true) (hv : Nat.ble (v + 1) hn = true) (hev : hf v = .inr (ci, fs)) (kk : sV g M R Z (pc + 1) lv (st) (hn, sUp hf a (.inl (kd, n, updV f k (.ref v)))) ce sl) : sV g M R Z (pc) lv (.ref v :: .int i :: .ref a :: st) (hn, hf) ce sl := sv_aastore hd hC ht (lt_t ha) he (vp_in_k hk h0 hkn) (lt_t hv) hev (by rw [hk]; exact kk)
theorem sw_new {index ci a n1 ce1 sl1 : Nat} {T : vw_C} {ty : Nat → FieldType} {fs : List Value} (hd : decode M.2.1 pc = .ok (.new index, 3)) (hC : sCl g ci T ty) (hcl : Cond.classLink M.1.cls index T.1 ∈ sg_ws g) (hinst : Cond.instantiable T.1 T.2.2 ∈ sg_ws g) (hini : Cond.initialized T.1 ∈ sg_ws g) (hfs : ∀ b j, j < T.2.2 → defaultValue (ty j) = rv b (vp_V fs j)) (ha : hn = a) (hn1 : a + 1 = n1) (h1 : ce + 1 = ce1) (h2 : sl + T.2.2 = sl1) (hc1 : Nat.ble ce1 R.cells = true) (hs1 : Nat.ble sl1 R.slots = true)
    (kk : sV g M R Z (pc + 3) lv (.ref a :: st) (n1, sUp hf a (.inr (ci, fs))) ce1 sl1) : sV g M R Z (pc) lv (st) (hn, hf) ce sl := by
  subst ha; subst hn1; subst h1; subst h2
  exact sv_new hd hC hcl hinst hini hfs (le_t hc1) (le_t hs1) kk
theorem sw_newarray {kd a n1 N ce1 sl1 : Nat} {cA : ClassId} {atype : ArrayType} {x : Int32} {ty : FieldType} {v : Value} (hd : decode M.2.1 pc = .ok (.newarray atype, 2)) (hty : newarray.typeOf atype = ty) (hw : Cond.arrayClass ty ∈ sg_ws g) (ht : g.2.2.1[kd]? = some (cA, ty)) (hra : ∀ U : State, va_RA U cA ty → U.vm.findClass ("[" ++ ty.toString) = some cA) (hn0 : ¬ x < 0) (hN : x.toNatClampNeg = N) (hby : Nat.ble (N * componentBytes ty) 536870912 = true) (hv : ∀ b, defaultValue ty = rv b v) (ha : hn = a) (hn1 : a + 1 = n1) (h1 : ce + 1 = ce1) (h2 : sl + N = sl1) (hc1 : Nat.ble ce1 R.cells = true) (hs1 : Nat.ble sl1 R.slots = true)
    (kk : sV g M R Z (pc + 2) lv (.ref a :: st) (n1, sUp hf a (.inl (kd, N, fun _ => v))) ce1 sl1) : sV g M R Z (pc) lv (.int x :: st) (hn, hf) ce sl := by
  subst ha; subst hn1; subst h1; subst h2
  exact sv_newarray hd hty hw ht hra hn0 hN (le_t hby) hv (le_t hc1) (le_t hs1) kk
theorem sw_anewarray {index kd a n1 N ce1 sl1 : Nat} {cA : ClassId} {x : Int32} {C0 : String} (hd : decode M.2.1 pc = .ok (.anewarray index, 3)) (hcl : Cond.classLink M.1.cls index C0 ∈ sg_ws g) (ht : g.2.2.1[kd]? = some (cA, .object C0)) (hn0 : ¬ x < 0) (hN : x.toNatClampNeg = N) (hby : Nat.ble (N * 4) 536870912 = true) (ha : hn = a) (hn1 : a + 1 = n1) (h1 : ce + 1 = ce1) (h2 : sl + N = sl1) (hc1 : Nat.ble ce1 R.cells = true) (hs1 : Nat.ble sl1 R.slots = true)
    (kk : sV g M R Z (pc + 3) lv (.ref a :: st) (n1, sUp hf a (.inl (kd, N, fun _ => .null))) ce1 sl1) : sV g M R Z (pc) lv (.int x :: st) (hn, hf) ce sl := by
  subst ha; subst hn1; subst h1; subst h2
  exact sv_anewarray hd hcl ht hn0 hN (le_t hby) (le_t hc1) (le_t hs1) kk
theorem sw_sld {k : Nat} {i v : Int32} (hd : decode M.2.1 pc = .ok (.iaload, 1)) (hk : i.toNatClampNeg = k) (h0 : ¬ i < 0) (hkn : Nat.ble (k + 1) (sg_L g) = true) (hv : sg_xs g k = v) (kk : sV g M R Z (pc + 1) lv (.int v :: st) hp ce sl) : sV g M R Z (pc) lv (.int i :: .retAddr 0 :: st) hp ce sl := sv_sld hd (vp_in_k hk h0 hkn) (by rw [hk, hv]; exact kk)
end SVK
theorem sI_Cond_int (U : State) (cA : ClassId) : va_RA U cA .int → U.vm.findClass ("[" ++ FieldType.int.toString) = some cA := id
theorem sI_Cond_long (U : State) (cA : ClassId) : va_RA U cA .long → U.vm.findClass ("[" ++ FieldType.long.toString) = some cA := id
theorem sI_Cond_byte (U : State) (cA : ClassId) : va_RA U cA .byte → U.vm.findClass ("[" ++ FieldType.byte.toString) = some cA := id
theorem sI_Cond_boolean (U : State) (cA : ClassId) : va_RA U cA .boolean → U.vm.findClass ("[" ++ FieldType.boolean.toString) = some cA := id
section SGm
variable (l : Launch) (D : va_G) (c : Nat → ClassId) (H0 : Heap) (sa : Nat × Nat × (Nat → Int32))
theorem tX0_init : sMt (gG l D c H0 sa) mX0_init 0 := ⟨wK_X0_init, wI_X0, by decide +kernel⟩
theorem tX0_goBy : sMt (gG l D c H0 sa) mX0_goBy 2 := ⟨wK_X0_goBy, wI_X0, by decide +kernel⟩
theorem tX0_firstUnlikeStep : sMt (gG l D c H0 sa) mX0_firstUnlikeStep 2 := ⟨wK_X0_firstUnlikeStep, wI_X0, by decide +kernel⟩
theorem tX0_prefers : sMt (gG l D c H0 sa) mX0_prefers 2 := ⟨wK_X0_prefers, wI_X0, by decide +kernel⟩
theorem tX0_compareAt : sMt (gG l D c H0 sa) mX0_compareAt 3 := ⟨wK_X0_compareAt, wI_X0, by decide +kernel⟩
theorem tX1_init : sMt (gG l D c H0 sa) mX1_init 1 := ⟨wK_X1_init, wI_X1, by decide +kernel⟩
theorem tX1_addPolicy : sMt (gG l D c H0 sa) mX1_addPolicy 1 := ⟨wK_X1_addPolicy, wI_X1, by decide +kernel⟩
theorem tX1_lets : sMt (gG l D c H0 sa) mX1_lets 4 := ⟨wK_X1_lets, wI_X1, by decide +kernel⟩
theorem tX1_goThrough : sMt (gG l D c H0 sa) mX1_goThrough 2 := ⟨wK_X1_goThrough, wI_X1, by decide +kernel⟩
theorem tX1_isSo : sMt (gG l D c H0 sa) mX1_isSo 2 := ⟨wK_X1_isSo, wI_X1, by decide +kernel⟩
theorem tX1_doActs : sMt (gG l D c H0 sa) mX1_doActs 4 := ⟨wK_X1_doActs, wI_X1, by decide +kernel⟩
theorem tX2_init : sMt (gG l D c H0 sa) mX2_init 1 := ⟨wK_X2_init, wI_X2, by decide +kernel⟩
theorem tX2_tieFor : sMt (gG l D c H0 sa) mX2_tieFor 2 := ⟨wK_X2_tieFor, wI_X2, by decide +kernel⟩
theorem tX2_partnerFor : sMt (gG l D c H0 sa) mX2_partnerFor 2 := ⟨wK_X2_partnerFor, wI_X2, by decide +kernel⟩
theorem tX2_travel : sMt (gG l D c H0 sa) mX2_travel 2 := ⟨wK_X2_travel, wI_X2, by decide +kernel⟩
theorem tX2_send : sMt (gG l D c H0 sa) mX2_send 2 := ⟨wK_X2_send, wI_X2, by decide +kernel⟩
theorem tX2_addDemand : sMt (gG l D c H0 sa) mX2_addDemand 3 := ⟨wK_X2_addDemand, wI_X2, by decide +kernel⟩
theorem tX2_unitsOver : sMt (gG l D c H0 sa) mX2_unitsOver 2 := ⟨wK_X2_unitsOver, wI_X2, by decide +kernel⟩
theorem tX2_unitsThat : sMt (gG l D c H0 sa) mX2_unitsThat 1 := ⟨wK_X2_unitsThat, wI_X2, by decide +kernel⟩
theorem tX2_leastTable : sMt (gG l D c H0 sa) mX2_leastTable 1 := ⟨wK_X2_leastTable, wI_X2, by decide +kernel⟩
theorem tX2_leastBelow : sMt (gG l D c H0 sa) mX2_leastBelow 3 := ⟨wK_X2_leastBelow, wI_X2, by decide +kernel⟩
theorem tX2_isSplit : sMt (gG l D c H0 sa) mX2_isSplit 3 := ⟨wK_X2_isSplit, wI_X2, by decide +kernel⟩
theorem tX2_aimBit : sMt (gG l D c H0 sa) mX2_aimBit 1 := ⟨wK_X2_aimBit, wI_X2, by decide +kernel⟩
theorem tX2_unlikeAddresses : sMt (gG l D c H0 sa) mX2_unlikeAddresses 2 := ⟨wK_X2_unlikeAddresses, wI_X2, by decide +kernel⟩
theorem tX2_layBorders : sMt (gG l D c H0 sa) mX2_layBorders 0 := ⟨wK_X2_layBorders, wI_X2, by decide +kernel⟩
theorem tX2_insertBorder : sMt (gG l D c H0 sa) mX2_insertBorder 2 := ⟨wK_X2_insertBorder, wI_X2, by decide +kernel⟩
theorem tX3_init : sMt (gG l D c H0 sa) mX3_init 0 := ⟨wK_X3_init, wI_X3, by decide +kernel⟩
theorem tX3_read : sMt (gG l D c H0 sa) mX3_read 2 := ⟨wK_X3_read, wI_X3, by decide +kernel⟩
theorem tX3_forget : sMt (gG l D c H0 sa) mX3_forget 0 := ⟨wK_X3_forget, wI_X3, by decide +kernel⟩
theorem tX3_readParts : sMt (gG l D c H0 sa) mX3_readParts 1 := ⟨wK_X3_readParts, wI_X3, by decide +kernel⟩
theorem tX3_note : sMt (gG l D c H0 sa) mX3_note 2 := ⟨wK_X3_note, wI_X3, by decide +kernel⟩
theorem tX3_pairAt : sMt (gG l D c H0 sa) mX3_pairAt 1 := ⟨wK_X3_pairAt, wI_X3, by decide +kernel⟩
theorem tX3_fourAt : sMt (gG l D c H0 sa) mX3_fourAt 1 := ⟨wK_X3_fourAt, wI_X3, by decide +kernel⟩
theorem tX3_readPrefixes : sMt (gG l D c H0 sa) mX3_readPrefixes 3 := ⟨wK_X3_readPrefixes, wI_X3, by decide +kernel⟩
theorem tX3_readAttributes : sMt (gG l D c H0 sa) mX3_readAttributes 2 := ⟨wK_X3_readAttributes, wI_X3, by decide +kernel⟩
theorem tX3_readAttribute : sMt (gG l D c H0 sa) mX3_readAttribute 3 := ⟨wK_X3_readAttribute, wI_X3, by decide +kernel⟩
theorem tX3_carry : sMt (gG l D c H0 sa) mX3_carry 2 := ⟨wK_X3_carry, wI_X3, by decide +kernel⟩
theorem tX3_readOrigin : sMt (gG l D c H0 sa) mX3_readOrigin 2 := ⟨wK_X3_readOrigin, wI_X3, by decide +kernel⟩
theorem tX3_readCost : sMt (gG l D c H0 sa) mX3_readCost 2 := ⟨wK_X3_readCost, wI_X3, by decide +kernel⟩
theorem tX3_readMarks : sMt (gG l D c H0 sa) mX3_readMarks 2 := ⟨wK_X3_readMarks, wI_X3, by decide +kernel⟩
theorem tX3_keepMark : sMt (gG l D c H0 sa) mX3_keepMark 1 := ⟨wK_X3_keepMark, wI_X3, by decide +kernel⟩
theorem tX3_readWay : sMt (gG l D c H0 sa) mX3_readWay 2 := ⟨wK_X3_readWay, wI_X3, by decide +kernel⟩
theorem tX3_sortWithoutSign : sMt (gG l D c H0 sa) mX3_sortWithoutSign 3 := ⟨wK_X3_sortWithoutSign, wI_X3, by decide +kernel⟩
theorem tX3_told : sMt (gG l D c H0 sa) mX3_told 1 := ⟨wK_X3_told, wI_X3, by decide +kernel⟩
theorem tX3_placeTold : sMt (gG l D c H0 sa) mX3_placeTold 0 := ⟨wK_X3_placeTold, wI_X3, by decide +kernel⟩
theorem tX3_toldInAll : sMt (gG l D c H0 sa) mX3_toldInAll 1 := ⟨wK_X3_toldInAll, wI_X3, by decide +kernel⟩
theorem tX3_toldOfRow : sMt (gG l D c H0 sa) mX3_toldOfRow 1 := ⟨wK_X3_toldOfRow, wI_X3, by decide +kernel⟩
theorem tX3_putDown : sMt (gG l D c H0 sa) mX3_putDown 3 := ⟨wK_X3_putDown, wI_X3, by decide +kernel⟩
theorem tX3_putAttributes : sMt (gG l D c H0 sa) mX3_putAttributes 1 := ⟨wK_X3_putAttributes, wI_X3, by decide +kernel⟩
theorem tX3_putHead : sMt (gG l D c H0 sa) mX3_putHead 3 := ⟨wK_X3_putHead, wI_X3, by decide +kernel⟩
theorem tX3_putPrefix : sMt (gG l D c H0 sa) mX3_putPrefix 2 := ⟨wK_X3_putPrefix, wI_X3, by decide +kernel⟩
theorem tX3_putNumber : sMt (gG l D c H0 sa) mX3_putNumber 2 := ⟨wK_X3_putNumber, wI_X3, by decide +kernel⟩
theorem tX4_init : sMt (gG l D c H0 sa) mX4_init 0 := ⟨wK_X4_init, wI_X4, by decide +kernel⟩
theorem tX4_isWish : sMt (gG l D c H0 sa) mX4_isWish 2 := ⟨wK_X4_isWish, wI_X4, by decide +kernel⟩
theorem tX4_find : sMt (gG l D c H0 sa) mX4_find 3 := ⟨wK_X4_find, wI_X4, by decide +kernel⟩
theorem tX4_addWish : sMt (gG l D c H0 sa) mX4_addWish 2 := ⟨wK_X4_addWish, wI_X4, by decide +kernel⟩
theorem tX4_forget : sMt (gG l D c H0 sa) mX4_forget 0 := ⟨wK_X4_forget, wI_X4, by decide +kernel⟩
theorem tX4_prepare : sMt (gG l D c H0 sa) mX4_prepare 0 := ⟨wK_X4_prepare, wI_X4, by decide +kernel⟩
theorem tX4_need : sMt (gG l D c H0 sa) mX4_need 1 := ⟨wK_X4_need, wI_X4, by decide +kernel⟩
theorem tX4_actOf : sMt (gG l D c H0 sa) mX4_actOf 1 := ⟨wK_X4_actOf, wI_X4, by decide +kernel⟩
theorem tX4_isRest : sMt (gG l D c H0 sa) mX4_isRest 0 := ⟨wK_X4_isRest, wI_X4, by decide +kernel⟩
theorem tX4_unfold : sMt (gG l D c H0 sa) mX4_unfold 1 := ⟨wK_X4_unfold, wI_X4, by decide +kernel⟩
theorem tX4_figure : sMt (gG l D c H0 sa) mX4_figure 2 := ⟨wK_X4_figure, wI_X4, by decide +kernel⟩
theorem tX4_countUp : sMt (gG l D c H0 sa) mX4_countUp 0 := ⟨wK_X4_countUp, wI_X4, by decide +kernel⟩
theorem tX4_findRests : sMt (gG l D c H0 sa) mX4_findRests 0 := ⟨wK_X4_findRests, wI_X4, by decide +kernel⟩
theorem tX4_keepRest : sMt (gG l D c H0 sa) mX4_keepRest 1 := ⟨wK_X4_keepRest, wI_X4, by decide +kernel⟩
theorem tX4_wayInRest : sMt (gG l D c H0 sa) mX4_wayInRest 2 := ⟨wK_X4_wayInRest, wI_X4, by decide +kernel⟩
theorem tX4_explore : sMt (gG l D c H0 sa) mX4_explore 0 := ⟨wK_X4_explore, wI_X4, by decide +kernel⟩
theorem tX4_makeRoom : sMt (gG l D c H0 sa) mX4_makeRoom 0 := ⟨wK_X4_makeRoom, wI_X4, by decide +kernel⟩
theorem tX4_spread : sMt (gG l D c H0 sa) mX4_spread 0 := ⟨wK_X4_spread, wI_X4, by decide +kernel⟩
theorem tX4_addNeighbours : sMt (gG l D c H0 sa) mX4_addNeighbours 2 := ⟨wK_X4_addNeighbours, wI_X4, by decide +kernel⟩
theorem tX4_leadBack : sMt (gG l D c H0 sa) mX4_leadBack 0 := ⟨wK_X4_leadBack, wI_X4, by decide +kernel⟩
theorem tX4_addSources : sMt (gG l D c H0 sa) mX4_addSources 2 := ⟨wK_X4_addSources, wI_X4, by decide +kernel⟩
theorem tX5_init : sMt (gG l D c H0 sa) mX5_init 6 := ⟨wK_X5_init, wI_X5, by decide +kernel⟩
theorem tX5_tells : sMt (gG l D c H0 sa) mX5_tells 3 := ⟨wK_X5_tells, wI_X5, by decide +kernel⟩
theorem tX6_init : sMt (gG l D c H0 sa) mX6_init 0 := ⟨wK_X6_init, wI_X6, by decide +kernel⟩
theorem tX6_read : sMt (gG l D c H0 sa) mX6_read 3 := ⟨wK_X6_read, wI_X6, by decide +kernel⟩
theorem tX6_result : sMt (gG l D c H0 sa) mX6_result 0 := ⟨wK_X6_result, wI_X6, by decide +kernel⟩
theorem tX6_split : sMt (gG l D c H0 sa) mX6_split 2 := ⟨wK_X6_split, wI_X6, by decide +kernel⟩
theorem tX6_isLetter : sMt (gG l D c H0 sa) mX6_isLetter 1 := ⟨wK_X6_isLetter, wI_X6, by decide +kernel⟩
theorem tX6_isFigure : sMt (gG l D c H0 sa) mX6_isFigure 1 := ⟨wK_X6_isFigure, wI_X6, by decide +kernel⟩
theorem tX6_putNumber : sMt (gG l D c H0 sa) mX6_putNumber 3 := ⟨wK_X6_putNumber, wI_X6, by decide +kernel⟩
theorem tX6_putToken : sMt (gG l D c H0 sa) mX6_putToken 3 := ⟨wK_X6_putToken, wI_X6, by decide +kernel⟩
theorem tX6_wordAt : sMt (gG l D c H0 sa) mX6_wordAt 3 := ⟨wK_X6_wordAt, wI_X6, by decide +kernel⟩
theorem tX6_fail : sMt (gG l D c H0 sa) mX6_fail 1 := ⟨wK_X6_fail, wI_X6, by decide +kernel⟩
theorem tX6_step : sMt (gG l D c H0 sa) mX6_step 0 := ⟨wK_X6_step, wI_X6, by decide +kernel⟩
theorem tX6_take : sMt (gG l D c H0 sa) mX6_take 1 := ⟨wK_X6_take, wI_X6, by decide +kernel⟩
theorem tX6_expect : sMt (gG l D c H0 sa) mX6_expect 1 := ⟨wK_X6_expect, wI_X6, by decide +kernel⟩
theorem tX6_number : sMt (gG l D c H0 sa) mX6_number 2 := ⟨wK_X6_number, wI_X6, by decide +kernel⟩
theorem tX6_readRow : sMt (gG l D c H0 sa) mX6_readRow 0 := ⟨wK_X6_readRow, wI_X6, by decide +kernel⟩
theorem tX6_isAct : sMt (gG l D c H0 sa) mX6_isAct 1 := ⟨wK_X6_isAct, wI_X6, by decide +kernel⟩
theorem tX6_readAct : sMt (gG l D c H0 sa) mX6_readAct 0 := ⟨wK_X6_readAct, wI_X6, by decide +kernel⟩
theorem tX6_readTest : sMt (gG l D c H0 sa) mX6_readTest 0 := ⟨wK_X6_readTest, wI_X6, by decide +kernel⟩
theorem tX6_isTest : sMt (gG l D c H0 sa) mX6_isTest 1 := ⟨wK_X6_isTest, wI_X6, by decide +kernel⟩
theorem tX6_oneOf : sMt (gG l D c H0 sa) mX6_oneOf 2 := ⟨wK_X6_oneOf, wI_X6, by decide +kernel⟩
theorem tX6_verdictOf : sMt (gG l D c H0 sa) mX6_verdictOf 1 := ⟨wK_X6_verdictOf, wI_X6, by decide +kernel⟩
theorem tX6_relation : sMt (gG l D c H0 sa) mX6_relation 0 := ⟨wK_X6_relation, wI_X6, by decide +kernel⟩
theorem tX6_readHeldIn : sMt (gG l D c H0 sa) mX6_readHeldIn 1 := ⟨wK_X6_readHeldIn, wI_X6, by decide +kernel⟩
theorem tX6_readWay : sMt (gG l D c H0 sa) mX6_readWay 1 := ⟨wK_X6_readWay, wI_X6, by decide +kernel⟩
theorem tX6_readBranches : sMt (gG l D c H0 sa) mX6_readBranches 1 := ⟨wK_X6_readBranches, wI_X6, by decide +kernel⟩
theorem tX6_beginsPiece : sMt (gG l D c H0 sa) mX6_beginsPiece 1 := ⟨wK_X6_beginsPiece, wI_X6, by decide +kernel⟩
theorem tX6_readGroup : sMt (gG l D c H0 sa) mX6_readGroup 1 := ⟨wK_X6_readGroup, wI_X6, by decide +kernel⟩
theorem tX6_readPlace : sMt (gG l D c H0 sa) mX6_readPlace 0 := ⟨wK_X6_readPlace, wI_X6, by decide +kernel⟩
theorem tX6_readRepeat : sMt (gG l D c H0 sa) mX6_readRepeat 0 := ⟨wK_X6_readRepeat, wI_X6, by decide +kernel⟩
theorem tX6_join : sMt (gG l D c H0 sa) mX6_join 2 := ⟨wK_X6_join, wI_X6, by decide +kernel⟩
theorem tX6_putTest : sMt (gG l D c H0 sa) mX6_putTest 5 := ⟨wK_X6_putTest, wI_X6, by decide +kernel⟩
theorem tX6_put : sMt (gG l D c H0 sa) mX6_put 1 := ⟨wK_X6_put, wI_X6, by decide +kernel⟩
theorem tX7_init : sMt (gG l D c H0 sa) mX7_init 0 := ⟨wK_X7_init, wI_X7, by decide +kernel⟩
theorem tX7_begin : sMt (gG l D c H0 sa) mX7_begin 2 := ⟨wK_X7_begin, wI_X7, by decide +kernel⟩
theorem tX7_become : sMt (gG l D c H0 sa) mX7_become 1 := ⟨wK_X7_become, wI_X7, by decide +kernel⟩
theorem tX7_vanish : sMt (gG l D c H0 sa) mX7_vanish 0 := ⟨wK_X7_vanish, wI_X7, by decide +kernel⟩
theorem tX7_isAlike : sMt (gG l D c H0 sa) mX7_isAlike 1 := ⟨wK_X7_isAlike, wI_X7, by decide +kernel⟩
theorem tX7_passes : sMt (gG l D c H0 sa) mX7_passes 1 := ⟨wK_X7_passes, wI_X7, by decide +kernel⟩
theorem tX7_sharesFirst : sMt (gG l D c H0 sa) mX7_sharesFirst 1 := ⟨wK_X7_sharesFirst, wI_X7, by decide +kernel⟩
theorem tX7_putInFront : sMt (gG l D c H0 sa) mX7_putInFront 2 := ⟨wK_X7_putInFront, wI_X7, by decide +kernel⟩
theorem tX7_hasMark : sMt (gG l D c H0 sa) mX7_hasMark 1 := ⟨wK_X7_hasMark, wI_X7, by decide +kernel⟩
theorem tX7_addMark : sMt (gG l D c H0 sa) mX7_addMark 1 := ⟨wK_X7_addMark, wI_X7, by decide +kernel⟩
theorem tX7_dropMark : sMt (gG l D c H0 sa) mX7_dropMark 1 := ⟨wK_X7_dropMark, wI_X7, by decide +kernel⟩
theorem tX8_init : sMt (gG l D c H0 sa) mX8_init 2 := ⟨wK_X8_init, wI_X8, by decide +kernel⟩
theorem tX8_slotOf : sMt (gG l D c H0 sa) mX8_slotOf 4 := ⟨wK_X8_slotOf, wI_X8, by decide +kernel⟩
theorem tX8_schedule : sMt (gG l D c H0 sa) mX8_schedule 2 := ⟨wK_X8_schedule, wI_X8, by decide +kernel⟩
theorem tX8_cancel : sMt (gG l D c H0 sa) mX8_cancel 1 := ⟨wK_X8_cancel, wI_X8, by decide +kernel⟩
theorem tX8_doNext : sMt (gG l D c H0 sa) mX8_doNext 1 := ⟨wK_X8_doNext, wI_X8, by decide +kernel⟩
theorem tX8_passTo : sMt (gG l D c H0 sa) mX8_passTo 1 := ⟨wK_X8_passTo, wI_X8, by decide +kernel⟩
theorem tX8_handOver : sMt (gG l D c H0 sa) mX8_handOver 3 := ⟨wK_X8_handOver, wI_X8, by decide +kernel⟩
theorem tX8_takeIn : sMt (gG l D c H0 sa) mX8_takeIn 3 := ⟨wK_X8_takeIn, wI_X8, by decide +kernel⟩
theorem tX8_silence : sMt (gG l D c H0 sa) mX8_silence 1 := ⟨wK_X8_silence, wI_X8, by decide +kernel⟩
theorem tX8_tellAllAnew : sMt (gG l D c H0 sa) mX8_tellAllAnew 0 := ⟨wK_X8_tellAllAnew, wI_X8, by decide +kernel⟩
theorem tX8_lookAtAll : sMt (gG l D c H0 sa) mX8_lookAtAll 1 := ⟨wK_X8_lookAtAll, wI_X8, by decide +kernel⟩
theorem tX8_sayAll : sMt (gG l D c H0 sa) mX8_sayAll 2 := ⟨wK_X8_sayAll, wI_X8, by decide +kernel⟩
theorem tX8_look : sMt (gG l D c H0 sa) mX8_look 2 := ⟨wK_X8_look, wI_X8, by decide +kernel⟩
theorem tX8_gather : sMt (gG l D c H0 sa) mX8_gather 2 := ⟨wK_X8_gather, wI_X8, by decide +kernel⟩
theorem tX8_pickPlain : sMt (gG l D c H0 sa) mX8_pickPlain 1 := ⟨wK_X8_pickPlain, wI_X8, by decide +kernel⟩
theorem tX8_pickGrouped : sMt (gG l D c H0 sa) mX8_pickGrouped 1 := ⟨wK_X8_pickGrouped, wI_X8, by decide +kernel⟩
theorem tX8_lastStanding : sMt (gG l D c H0 sa) mX8_lastStanding 2 := ⟨wK_X8_lastStanding, wI_X8, by decide +kernel⟩
theorem tX8_isFirstOfGroup : sMt (gG l D c H0 sa) mX8_isFirstOfGroup 1 := ⟨wK_X8_isFirstOfGroup, wI_X8, by decide +kernel⟩
theorem tX8_bestOfGroup : sMt (gG l D c H0 sa) mX8_bestOfGroup 2 := ⟨wK_X8_bestOfGroup, wI_X8, by decide +kernel⟩
theorem tX8_insertWinner : sMt (gG l D c H0 sa) mX8_insertWinner 2 := ⟨wK_X8_insertWinner, wI_X8, by decide +kernel⟩
theorem tX8_groupOrder : sMt (gG l D c H0 sa) mX8_groupOrder 1 := ⟨wK_X8_groupOrder, wI_X8, by decide +kernel⟩
theorem tX8_say : sMt (gG l D c H0 sa) mX8_say 3 := ⟨wK_X8_say, wI_X8, by decide +kernel⟩
theorem tX8_compose : sMt (gG l D c H0 sa) mX8_compose 4 := ⟨wK_X8_compose, wI_X8, by decide +kernel⟩
theorem tX8_reason : sMt (gG l D c H0 sa) mX8_reason 3 := ⟨wK_X8_reason, wI_X8, by decide +kernel⟩
theorem tX8_candidateOver : sMt (gG l D c H0 sa) mX8_candidateOver 1 := ⟨wK_X8_candidateOver, wI_X8, by decide +kernel⟩
theorem tX8_threeInRing : sMt (gG l D c H0 sa) mX8_threeInRing 3 := ⟨wK_X8_threeInRing, wI_X8, by decide +kernel⟩
theorem tX9_init : sMt (gG l D c H0 sa) mX9_init 3 := ⟨wK_X9_init, wI_X9, by decide +kernel⟩
theorem tX9_placeOf : sMt (gG l D c H0 sa) mX9_placeOf 2 := ⟨wK_X9_placeOf, wI_X9, by decide +kernel⟩
theorem tX9_end : sMt (gG l D c H0 sa) mX9_end 1 := ⟨wK_X9_end, wI_X9, by decide +kernel⟩
theorem tX9_sideOf : sMt (gG l D c H0 sa) mX9_sideOf 1 := ⟨wK_X9_sideOf, wI_X9, by decide +kernel⟩
theorem tX9_partnerRole : sMt (gG l D c H0 sa) mX9_partnerRole 1 := ⟨wK_X9_partnerRole, wI_X9, by decide +kernel⟩
theorem tX10_init : sMt (gG l D c H0 sa) mX10_init 0 := ⟨wK_X10_init, wI_X10, by decide +kernel⟩
theorem tX10_maskOf : sMt (gG l D c H0 sa) mX10_maskOf 1 := ⟨wK_X10_maskOf, wI_X10, by decide +kernel⟩
theorem tX10_addPrefix : sMt (gG l D c H0 sa) mX10_addPrefix 2 := ⟨wK_X10_addPrefix, wI_X10, by decide +kernel⟩
theorem tX10_findPrefix : sMt (gG l D c H0 sa) mX10_findPrefix 2 := ⟨wK_X10_findPrefix, wI_X10, by decide +kernel⟩
theorem tX10_addDomain : sMt (gG l D c H0 sa) mX10_addDomain 0 := ⟨wK_X10_addDomain, wI_X10, by decide +kernel⟩
theorem tX10_addTie : sMt (gG l D c H0 sa) mX10_addTie 3 := ⟨wK_X10_addTie, wI_X10, by decide +kernel⟩
theorem tX10_tieBetween : sMt (gG l D c H0 sa) mX10_tieBetween 2 := ⟨wK_X10_tieBetween, wI_X10, by decide +kernel⟩
theorem tX10_coneOf : sMt (gG l D c H0 sa) mX10_coneOf 1 := ⟨wK_X10_coneOf, wI_X10, by decide +kernel⟩
theorem tX10_findRing : sMt (gG l D c H0 sa) mX10_findRing 0 := ⟨wK_X10_findRing, wI_X10, by decide +kernel⟩
theorem tX10_shortestRing : sMt (gG l D c H0 sa) mX10_shortestRing 1 := ⟨wK_X10_shortestRing, wI_X10, by decide +kernel⟩
theorem tX10_fillRing : sMt (gG l D c H0 sa) mX10_fillRing 2 := ⟨wK_X10_fillRing, wI_X10, by decide +kernel⟩
theorem tX10_leastCustomer : sMt (gG l D c H0 sa) mX10_leastCustomer 2 := ⟨wK_X10_leastCustomer, wI_X10, by decide +kernel⟩
theorem tX10_firstWrongStep : sMt (gG l D c H0 sa) mX10_firstWrongStep 2 := ⟨wK_X10_firstWrongStep, wI_X10, by decide +kernel⟩
theorem tX10_addRight : sMt (gG l D c H0 sa) mX10_addRight 6 := ⟨wK_X10_addRight, wI_X10, by decide +kernel⟩
theorem tX10_verdictOn : sMt (gG l D c H0 sa) mX10_verdictOn 4 := ⟨wK_X10_verdictOn, wI_X10, by decide +kernel⟩
theorem tX11_init : sMt (gG l D c H0 sa) mX11_init 0 := ⟨wK_X11_init, wI_X11, by decide +kernel⟩
theorem tX11_feed : sMt (gG l D c H0 sa) mX11_feed 5 := ⟨wK_X11_feed, wI_X11, by decide +kernel⟩
theorem tX11_feedNumber : sMt (gG l D c H0 sa) mX11_feedNumber 1 := ⟨wK_X11_feedNumber, wI_X11, by decide +kernel⟩
theorem tX11_cut : sMt (gG l D c H0 sa) mX11_cut 1 := ⟨wK_X11_cut, wI_X11, by decide +kernel⟩
theorem tX11_prefix : sMt (gG l D c H0 sa) mX11_prefix 2 := ⟨wK_X11_prefix, wI_X11, by decide +kernel⟩
theorem tX11_domain : sMt (gG l D c H0 sa) mX11_domain 0 := ⟨wK_X11_domain, wI_X11, by decide +kernel⟩
theorem tX11_tie : sMt (gG l D c H0 sa) mX11_tie 3 := ⟨wK_X11_tie, wI_X11, by decide +kernel⟩
theorem tX11_pace : sMt (gG l D c H0 sa) mX11_pace 3 := ⟨wK_X11_pace, wI_X11, by decide +kernel⟩
theorem tX11_raise : sMt (gG l D c H0 sa) mX11_raise 2 := ⟨wK_X11_raise, wI_X11, by decide +kernel⟩
theorem tX11_cone : sMt (gG l D c H0 sa) mX11_cone 2 := ⟨wK_X11_cone, wI_X11, by decide +kernel⟩
theorem tX11_ring : sMt (gG l D c H0 sa) mX11_ring 1 := ⟨wK_X11_ring, wI_X11, by decide +kernel⟩
theorem tX11_walk : sMt (gG l D c H0 sa) mX11_walk 1 := ⟨wK_X11_walk, wI_X11, by decide +kernel⟩
theorem tX11_letWay : sMt (gG l D c H0 sa) mX11_letWay 0 := ⟨wK_X11_letWay, wI_X11, by decide +kernel⟩
theorem tX11_today : sMt (gG l D c H0 sa) mX11_today 1 := ⟨wK_X11_today, wI_X11, by decide +kernel⟩
theorem tX11_right : sMt (gG l D c H0 sa) mX11_right 6 := ⟨wK_X11_right, wI_X11, by decide +kernel⟩
theorem tX11_strike : sMt (gG l D c H0 sa) mX11_strike 2 := ⟨wK_X11_strike, wI_X11, by decide +kernel⟩
theorem tX11_verdict : sMt (gG l D c H0 sa) mX11_verdict 4 := ⟨wK_X11_verdict, wI_X11, by decide +kernel⟩
theorem tX11_policy : sMt (gG l D c H0 sa) mX11_policy 0 := ⟨wK_X11_policy, wI_X11, by decide +kernel⟩
theorem tX11_fault : sMt (gG l D c H0 sa) mX11_fault 0 := ⟨wK_X11_fault, wI_X11, by decide +kernel⟩
theorem tX11_route : sMt (gG l D c H0 sa) mX11_route 4 := ⟨wK_X11_route, wI_X11, by decide +kernel⟩
theorem tX11_judge : sMt (gG l D c H0 sa) mX11_judge 3 := ⟨wK_X11_judge, wI_X11, by decide +kernel⟩
theorem tX11_hand : sMt (gG l D c H0 sa) mX11_hand 1 := ⟨wK_X11_hand, wI_X11, by decide +kernel⟩
theorem tX11_rowInHand : sMt (gG l D c H0 sa) mX11_rowInHand 1 := ⟨wK_X11_rowInHand, wI_X11, by decide +kernel⟩
theorem tX11_use : sMt (gG l D c H0 sa) mX11_use 4 := ⟨wK_X11_use, wI_X11, by decide +kernel⟩
theorem tX11_rule : sMt (gG l D c H0 sa) mX11_rule 3 := ⟨wK_X11_rule, wI_X11, by decide +kernel⟩
theorem tX11_isRule : sMt (gG l D c H0 sa) mX11_isRule 1 := ⟨wK_X11_isRule, wI_X11, by decide +kernel⟩
theorem tX11_announce : sMt (gG l D c H0 sa) mX11_announce 3 := ⟨wK_X11_announce, wI_X11, by decide +kernel⟩
theorem tX11_withdraw : sMt (gG l D c H0 sa) mX11_withdraw 2 := ⟨wK_X11_withdraw, wI_X11, by decide +kernel⟩
theorem tX11_go : sMt (gG l D c H0 sa) mX11_go 1 := ⟨wK_X11_go, wI_X11, by decide +kernel⟩
theorem tX11_until : sMt (gG l D c H0 sa) mX11_until 1 := ⟨wK_X11_until, wI_X11, by decide +kernel⟩
theorem tX11_picked : sMt (gG l D c H0 sa) mX11_picked 2 := ⟨wK_X11_picked, wI_X11, by decide +kernel⟩
theorem tX11_heard : sMt (gG l D c H0 sa) mX11_heard 4 := ⟨wK_X11_heard, wI_X11, by decide +kernel⟩
theorem tX11_why : sMt (gG l D c H0 sa) mX11_why 3 := ⟨wK_X11_why, wI_X11, by decide +kernel⟩
theorem tX11_three : sMt (gG l D c H0 sa) mX11_three 3 := ⟨wK_X11_three, wI_X11, by decide +kernel⟩
theorem tX11_message : sMt (gG l D c H0 sa) mX11_message 0 := ⟨wK_X11_message, wI_X11, by decide +kernel⟩
theorem tX11_part : sMt (gG l D c H0 sa) mX11_part 1 := ⟨wK_X11_part, wI_X11, by decide +kernel⟩
theorem tX11_hear : sMt (gG l D c H0 sa) mX11_hear 2 := ⟨wK_X11_hear, wI_X11, by decide +kernel⟩
theorem tX11_write : sMt (gG l D c H0 sa) mX11_write 3 := ⟨wK_X11_write, wI_X11, by decide +kernel⟩
theorem tX11_octet : sMt (gG l D c H0 sa) mX11_octet 1 := ⟨wK_X11_octet, wI_X11, by decide +kernel⟩
theorem tX11_letter : sMt (gG l D c H0 sa) mX11_letter 2 := ⟨wK_X11_letter, wI_X11, by decide +kernel⟩
theorem tX11_led : sMt (gG l D c H0 sa) mX11_led 1 := ⟨wK_X11_led, wI_X11, by decide +kernel⟩
theorem tX11_demand : sMt (gG l D c H0 sa) mX11_demand 3 := ⟨wK_X11_demand, wI_X11, by decide +kernel⟩
theorem tX11_load : sMt (gG l D c H0 sa) mX11_load 2 := ⟨wK_X11_load, wI_X11, by decide +kernel⟩
theorem tX11_units : sMt (gG l D c H0 sa) mX11_units 1 := ⟨wK_X11_units, wI_X11, by decide +kernel⟩
theorem tX11_least : sMt (gG l D c H0 sa) mX11_least 1 := ⟨wK_X11_least, wI_X11, by decide +kernel⟩
theorem tX11_differ : sMt (gG l D c H0 sa) mX11_differ 2 := ⟨wK_X11_differ, wI_X11, by decide +kernel⟩
theorem tX11_clear : sMt (gG l D c H0 sa) mX11_clear 0 := ⟨wK_X11_clear, wI_X11, by decide +kernel⟩
theorem tX11_wish : sMt (gG l D c H0 sa) mX11_wish 0 := ⟨wK_X11_wish, wI_X11, by decide +kernel⟩
theorem tX11_rests : sMt (gG l D c H0 sa) mX11_rests 0 := ⟨wK_X11_rests, wI_X11, by decide +kernel⟩
theorem tX11_rest : sMt (gG l D c H0 sa) mX11_rest 2 := ⟨wK_X11_rest, wI_X11, by decide +kernel⟩
theorem tX11_tries : sMt (gG l D c H0 sa) mX11_tries 1 := ⟨wK_X11_tries, wI_X11, by decide +kernel⟩
theorem tX11_count : sMt (gG l D c H0 sa) mX11_count 1 := ⟨wK_X11_count, wI_X11, by decide +kernel⟩
theorem tX11_isDomain : sMt (gG l D c H0 sa) mX11_isDomain 1 := ⟨wK_X11_isDomain, wI_X11, by decide +kernel⟩
theorem tX11_isPrefix : sMt (gG l D c H0 sa) mX11_isPrefix 1 := ⟨wK_X11_isPrefix, wI_X11, by decide +kernel⟩
theorem tX11_isTie : sMt (gG l D c H0 sa) mX11_isTie 1 := ⟨wK_X11_isTie, wI_X11, by decide +kernel⟩
theorem tX11_isEither : sMt (gG l D c H0 sa) mX11_isEither 1 := ⟨wK_X11_isEither, wI_X11, by decide +kernel⟩
theorem tX12_in : sMt (gG l D c H0 sa) mX12_in 3 := ⟨wK_X12_in, wI_X12, by decide +kernel⟩
theorem tX12_feed : sMt (gG l D c H0 sa) mX12_feed 5 := ⟨wK_X12_feed, wI_X12, by decide +kernel⟩
theorem tX12_cut : sMt (gG l D c H0 sa) mX12_cut 1 := ⟨wK_X12_cut, wI_X12, by decide +kernel⟩
theorem tX12_mask : sMt (gG l D c H0 sa) mX12_mask 1 := ⟨wK_X12_mask, wI_X12, by decide +kernel⟩
theorem tX12_holds : sMt (gG l D c H0 sa) mX12_holds 3 := ⟨wK_X12_holds, wI_X12, by decide +kernel⟩
theorem tX12_isPrefix : sMt (gG l D c H0 sa) mX12_isPrefix 1 := ⟨wK_X12_isPrefix, wI_X12, by decide +kernel⟩
theorem tX12_prefixOf : sMt (gG l D c H0 sa) mX12_prefixOf 2 := ⟨wK_X12_prefixOf, wI_X12, by decide +kernel⟩
theorem tX12_prefix : sMt (gG l D c H0 sa) mX12_prefix 2 := ⟨wK_X12_prefix, wI_X12, by decide +kernel⟩
theorem tX12_isDomain : sMt (gG l D c H0 sa) mX12_isDomain 1 := ⟨wK_X12_isDomain, wI_X12, by decide +kernel⟩
theorem tX12_isTie : sMt (gG l D c H0 sa) mX12_isTie 1 := ⟨wK_X12_isTie, wI_X12, by decide +kernel⟩
theorem tX12_tieOf : sMt (gG l D c H0 sa) mX12_tieOf 2 := ⟨wK_X12_tieOf, wI_X12, by decide +kernel⟩
theorem tX12_provides : sMt (gG l D c H0 sa) mX12_provides 2 := ⟨wK_X12_provides, wI_X12, by decide +kernel⟩
theorem tX12_domain : sMt (gG l D c H0 sa) mX12_domain 0 := ⟨wK_X12_domain, wI_X12, by decide +kernel⟩
theorem tX12_tie : sMt (gG l D c H0 sa) mX12_tie 3 := ⟨wK_X12_tie, wI_X12, by decide +kernel⟩
theorem tX12_pace : sMt (gG l D c H0 sa) mX12_pace 3 := ⟨wK_X12_pace, wI_X12, by decide +kernel⟩
theorem tX12_cone : sMt (gG l D c H0 sa) mX12_cone 2 := ⟨wK_X12_cone, wI_X12, by decide +kernel⟩
theorem tX12_ring : sMt (gG l D c H0 sa) mX12_ring 1 := ⟨wK_X12_ring, wI_X12, by decide +kernel⟩
theorem tX12_walk : sMt (gG l D c H0 sa) mX12_walk 1 := ⟨wK_X12_walk, wI_X12, by decide +kernel⟩
theorem tX12_letWay : sMt (gG l D c H0 sa) mX12_letWay 0 := ⟨wK_X12_letWay, wI_X12, by decide +kernel⟩
theorem tX12_today : sMt (gG l D c H0 sa) mX12_today 1 := ⟨wK_X12_today, wI_X12, by decide +kernel⟩
theorem tX12_right : sMt (gG l D c H0 sa) mX12_right 6 := ⟨wK_X12_right, wI_X12, by decide +kernel⟩
theorem tX12_strike : sMt (gG l D c H0 sa) mX12_strike 2 := ⟨wK_X12_strike, wI_X12, by decide +kernel⟩
theorem tX12_judged : sMt (gG l D c H0 sa) mX12_judged 4 := ⟨wK_X12_judged, wI_X12, by decide +kernel⟩
theorem tX12_judgedAnew : sMt (gG l D c H0 sa) mX12_judgedAnew 4 := ⟨wK_X12_judgedAnew, wI_X12, by decide +kernel⟩
theorem tX12_verdict : sMt (gG l D c H0 sa) mX12_verdict 4 := ⟨wK_X12_verdict, wI_X12, by decide +kernel⟩
theorem tX12_copy : sMt (gG l D c H0 sa) mX12_copy 2 := ⟨wK_X12_copy, wI_X12, by decide +kernel⟩
theorem tX12_nothing : sMt (gG l D c H0 sa) mX12_nothing 1 := ⟨wK_X12_nothing, wI_X12, by decide +kernel⟩
theorem tX12_isThere : sMt (gG l D c H0 sa) mX12_isThere 1 := ⟨wK_X12_isThere, wI_X12, by decide +kernel⟩
theorem tX12_same : sMt (gG l D c H0 sa) mX12_same 2 := ⟨wK_X12_same, wI_X12, by decide +kernel⟩
theorem tX12_marked : sMt (gG l D c H0 sa) mX12_marked 2 := ⟨wK_X12_marked, wI_X12, by decide +kernel⟩
theorem tX12_addMark : sMt (gG l D c H0 sa) mX12_addMark 2 := ⟨wK_X12_addMark, wI_X12, by decide +kernel⟩
theorem tX12_dropMark : sMt (gG l D c H0 sa) mX12_dropMark 2 := ⟨wK_X12_dropMark, wI_X12, by decide +kernel⟩
theorem tX12_front : sMt (gG l D c H0 sa) mX12_front 2 := ⟨wK_X12_front, wI_X12, by decide +kernel⟩
theorem tX12_isIn : sMt (gG l D c H0 sa) mX12_isIn 2 := ⟨wK_X12_isIn, wI_X12, by decide +kernel⟩
theorem tX12_wordOf : sMt (gG l D c H0 sa) mX12_wordOf 1 := ⟨wK_X12_wordOf, wI_X12, by decide +kernel⟩
theorem tX12_wrong : sMt (gG l D c H0 sa) mX12_wrong 1 := ⟨wK_X12_wrong, wI_X12, by decide +kernel⟩
theorem tX12_byteAt : sMt (gG l D c H0 sa) mX12_byteAt 1 := ⟨wK_X12_byteAt, wI_X12, by decide +kernel⟩
theorem tX12_next : sMt (gG l D c H0 sa) mX12_next 0 := ⟨wK_X12_next, wI_X12, by decide +kernel⟩
theorem tX12_isSign : sMt (gG l D c H0 sa) mX12_isSign 1 := ⟨wK_X12_isSign, wI_X12, by decide +kernel⟩
theorem tX12_isWord : sMt (gG l D c H0 sa) mX12_isWord 1 := ⟨wK_X12_isWord, wI_X12, by decide +kernel⟩
theorem tX12_sign : sMt (gG l D c H0 sa) mX12_sign 1 := ⟨wK_X12_sign, wI_X12, by decide +kernel⟩
theorem tX12_within : sMt (gG l D c H0 sa) mX12_within 2 := ⟨wK_X12_within, wI_X12, by decide +kernel⟩
theorem tX12_openLevel : sMt (gG l D c H0 sa) mX12_openLevel 0 := ⟨wK_X12_openLevel, wI_X12, by decide +kernel⟩
theorem tX12_freshRow : sMt (gG l D c H0 sa) mX12_freshRow 0 := ⟨wK_X12_freshRow, wI_X12, by decide +kernel⟩
theorem tX12_endRow : sMt (gG l D c H0 sa) mX12_endRow 0 := ⟨wK_X12_endRow, wI_X12, by decide +kernel⟩
theorem tX12_follows : sMt (gG l D c H0 sa) mX12_follows 2 := ⟨wK_X12_follows, wI_X12, by decide +kernel⟩
theorem tX12_piece : sMt (gG l D c H0 sa) mX12_piece 3 := ⟨wK_X12_piece, wI_X12, by decide +kernel⟩
theorem tX12_wayTest : sMt (gG l D c H0 sa) mX12_wayTest 1 := ⟨wK_X12_wayTest, wI_X12, by decide +kernel⟩
theorem tX12_addressRead : sMt (gG l D c H0 sa) mX12_addressRead 0 := ⟨wK_X12_addressRead, wI_X12, by decide +kernel⟩
theorem tX12_test : sMt (gG l D c H0 sa) mX12_test 0 := ⟨wK_X12_test, wI_X12, by decide +kernel⟩
theorem tX12_actRead : sMt (gG l D c H0 sa) mX12_actRead 0 := ⟨wK_X12_actRead, wI_X12, by decide +kernel⟩
theorem tX12_rowRead : sMt (gG l D c H0 sa) mX12_rowRead 0 := ⟨wK_X12_rowRead, wI_X12, by decide +kernel⟩
theorem tX12_policy : sMt (gG l D c H0 sa) mX12_policy 0 := ⟨wK_X12_policy, wI_X12, by decide +kernel⟩
theorem tX12_fault : sMt (gG l D c H0 sa) mX12_fault 0 := ⟨wK_X12_fault, wI_X12, by decide +kernel⟩
theorem tX12_waysMatch : sMt (gG l D c H0 sa) mX12_waysMatch 3 := ⟨wK_X12_waysMatch, wI_X12, by decide +kernel⟩
theorem tX12_tieWord : sMt (gG l D c H0 sa) mX12_tieWord 2 := ⟨wK_X12_tieWord, wI_X12, by decide +kernel⟩
theorem tX12_related : sMt (gG l D c H0 sa) mX12_related 3 := ⟨wK_X12_related, wI_X12, by decide +kernel⟩
theorem tX12_isSo : sMt (gG l D c H0 sa) mX12_isSo 5 := ⟨wK_X12_isSo, wI_X12, by decide +kernel⟩
theorem tX12_through : sMt (gG l D c H0 sa) mX12_through 4 := ⟨wK_X12_through, wI_X12, by decide +kernel⟩
theorem tX12_route : sMt (gG l D c H0 sa) mX12_route 4 := ⟨wK_X12_route, wI_X12, by decide +kernel⟩
theorem tX12_judge : sMt (gG l D c H0 sa) mX12_judge 3 := ⟨wK_X12_judge, wI_X12, by decide +kernel⟩
theorem tX12_hand : sMt (gG l D c H0 sa) mX12_hand 1 := ⟨wK_X12_hand, wI_X12, by decide +kernel⟩
theorem tX12_init : sMt (gG l D c H0 sa) mX12_init 0 := ⟨wK_X12_init, wI_X12, by decide +kernel⟩
theorem tX12_slot : sMt (gG l D c H0 sa) mX12_slot 3 := ⟨wK_X12_slot, wI_X12, by decide +kernel⟩
theorem tX12_sideOf : sMt (gG l D c H0 sa) mX12_sideOf 2 := ⟨wK_X12_sideOf, wI_X12, by decide +kernel⟩
theorem tX12_isAt : sMt (gG l D c H0 sa) mX12_isAt 2 := ⟨wK_X12_isAt, wI_X12, by decide +kernel⟩
theorem tX12_partnerOf : sMt (gG l D c H0 sa) mX12_partnerOf 2 := ⟨wK_X12_partnerOf, wI_X12, by decide +kernel⟩
theorem tX12_unlike : sMt (gG l D c H0 sa) mX12_unlike 6 := ⟨wK_X12_unlike, wI_X12, by decide +kernel⟩
theorem tX12_beats : sMt (gG l D c H0 sa) mX12_beats 4 := ⟨wK_X12_beats, wI_X12, by decide +kernel⟩
theorem tX12_candidate : sMt (gG l D c H0 sa) mX12_candidate 3 := ⟨wK_X12_candidate, wI_X12, by decide +kernel⟩
theorem tX12_candidates : sMt (gG l D c H0 sa) mX12_candidates 2 := ⟨wK_X12_candidates, wI_X12, by decide +kernel⟩
theorem tX12_best : sMt (gG l D c H0 sa) mX12_best 2 := ⟨wK_X12_best, wI_X12, by decide +kernel⟩
theorem tX12_isBelow : sMt (gG l D c H0 sa) mX12_isBelow 2 := ⟨wK_X12_isBelow, wI_X12, by decide +kernel⟩
theorem tX12_pick : sMt (gG l D c H0 sa) mX12_pick 2 := ⟨wK_X12_pick, wI_X12, by decide +kernel⟩
theorem tX12_look : sMt (gG l D c H0 sa) mX12_look 2 := ⟨wK_X12_look, wI_X12, by decide +kernel⟩
theorem tX12_say : sMt (gG l D c H0 sa) mX12_say 3 := ⟨wK_X12_say, wI_X12, by decide +kernel⟩
theorem tX12_lookAll : sMt (gG l D c H0 sa) mX12_lookAll 1 := ⟨wK_X12_lookAll, wI_X12, by decide +kernel⟩
theorem tX12_sayAll : sMt (gG l D c H0 sa) mX12_sayAll 2 := ⟨wK_X12_sayAll, wI_X12, by decide +kernel⟩
theorem tX12_rethink : sMt (gG l D c H0 sa) mX12_rethink 0 := ⟨wK_X12_rethink, wI_X12, by decide +kernel⟩
theorem tX12_raise : sMt (gG l D c H0 sa) mX12_raise 2 := ⟨wK_X12_raise, wI_X12, by decide +kernel⟩
theorem tX12_use : sMt (gG l D c H0 sa) mX12_use 4 := ⟨wK_X12_use, wI_X12, by decide +kernel⟩
theorem tX12_rule : sMt (gG l D c H0 sa) mX12_rule 3 := ⟨wK_X12_rule, wI_X12, by decide +kernel⟩
theorem tX12_announce : sMt (gG l D c H0 sa) mX12_announce 3 := ⟨wK_X12_announce, wI_X12, by decide +kernel⟩
theorem tX12_withdraw : sMt (gG l D c H0 sa) mX12_withdraw 2 := ⟨wK_X12_withdraw, wI_X12, by decide +kernel⟩
theorem tX12_nextEvent : sMt (gG l D c H0 sa) mX12_nextEvent 0 := ⟨wK_X12_nextEvent, wI_X12, by decide +kernel⟩
theorem tX12_eventAt : sMt (gG l D c H0 sa) mX12_eventAt 1 := ⟨wK_X12_eventAt, wI_X12, by decide +kernel⟩
theorem tX12_doEvent : sMt (gG l D c H0 sa) mX12_doEvent 1 := ⟨wK_X12_doEvent, wI_X12, by decide +kernel⟩
theorem tX12_go : sMt (gG l D c H0 sa) mX12_go 1 := ⟨wK_X12_go, wI_X12, by decide +kernel⟩
theorem tX12_until : sMt (gG l D c H0 sa) mX12_until 1 := ⟨wK_X12_until, wI_X12, by decide +kernel⟩
theorem tX12_picked : sMt (gG l D c H0 sa) mX12_picked 2 := ⟨wK_X12_picked, wI_X12, by decide +kernel⟩
theorem tX12_heard : sMt (gG l D c H0 sa) mX12_heard 4 := ⟨wK_X12_heard, wI_X12, by decide +kernel⟩
theorem tX12_why : sMt (gG l D c H0 sa) mX12_why 3 := ⟨wK_X12_why, wI_X12, by decide +kernel⟩
theorem tX12_three : sMt (gG l D c H0 sa) mX12_three 3 := ⟨wK_X12_three, wI_X12, by decide +kernel⟩
theorem tX12_fails : sMt (gG l D c H0 sa) mX12_fails 2 := ⟨wK_X12_fails, wI_X12, by decide +kernel⟩
theorem tX12_number : sMt (gG l D c H0 sa) mX12_number 2 := ⟨wK_X12_number, wI_X12, by decide +kernel⟩
theorem tX12_partOf : sMt (gG l D c H0 sa) mX12_partOf 3 := ⟨wK_X12_partOf, wI_X12, by decide +kernel⟩
theorem tX12_originRight : sMt (gG l D c H0 sa) mX12_originRight 2 := ⟨wK_X12_originRight, wI_X12, by decide +kernel⟩
theorem tX12_wayRight : sMt (gG l D c H0 sa) mX12_wayRight 2 := ⟨wK_X12_wayRight, wI_X12, by decide +kernel⟩
theorem tX12_costRight : sMt (gG l D c H0 sa) mX12_costRight 2 := ⟨wK_X12_costRight, wI_X12, by decide +kernel⟩
theorem tX12_marksRight : sMt (gG l D c H0 sa) mX12_marksRight 2 := ⟨wK_X12_marksRight, wI_X12, by decide +kernel⟩
theorem tX12_attributes : sMt (gG l D c H0 sa) mX12_attributes 2 := ⟨wK_X12_attributes, wI_X12, by decide +kernel⟩
theorem tX12_message : sMt (gG l D c H0 sa) mX12_message 0 := ⟨wK_X12_message, wI_X12, by decide +kernel⟩
theorem tX12_part : sMt (gG l D c H0 sa) mX12_part 1 := ⟨wK_X12_part, wI_X12, by decide +kernel⟩
theorem tX12_hear : sMt (gG l D c H0 sa) mX12_hear 2 := ⟨wK_X12_hear, wI_X12, by decide +kernel⟩
theorem tX12_octet1 : sMt (gG l D c H0 sa) mX12_octet1 1 := ⟨wK_X12_octet1, wI_X12, by decide +kernel⟩
theorem tX12_octet4 : sMt (gG l D c H0 sa) mX12_octet4 1 := ⟨wK_X12_octet4, wI_X12, by decide +kernel⟩
theorem tX12_prefixOut : sMt (gG l D c H0 sa) mX12_prefixOut 1 := ⟨wK_X12_prefixOut, wI_X12, by decide +kernel⟩
theorem tX12_write : sMt (gG l D c H0 sa) mX12_write 3 := ⟨wK_X12_write, wI_X12, by decide +kernel⟩
theorem tX12_octet : sMt (gG l D c H0 sa) mX12_octet 1 := ⟨wK_X12_octet, wI_X12, by decide +kernel⟩
theorem tX12_sends : sMt (gG l D c H0 sa) mX12_sends 2 := ⟨wK_X12_sends, wI_X12, by decide +kernel⟩
theorem tX12_goes : sMt (gG l D c H0 sa) mX12_goes 2 := ⟨wK_X12_goes, wI_X12, by decide +kernel⟩
theorem tX12_letter : sMt (gG l D c H0 sa) mX12_letter 2 := ⟨wK_X12_letter, wI_X12, by decide +kernel⟩
theorem tX12_led : sMt (gG l D c H0 sa) mX12_led 1 := ⟨wK_X12_led, wI_X12, by decide +kernel⟩
theorem tX12_demand : sMt (gG l D c H0 sa) mX12_demand 3 := ⟨wK_X12_demand, wI_X12, by decide +kernel⟩
theorem tX12_load : sMt (gG l D c H0 sa) mX12_load 2 := ⟨wK_X12_load, wI_X12, by decide +kernel⟩
theorem tX12_units : sMt (gG l D c H0 sa) mX12_units 1 := ⟨wK_X12_units, wI_X12, by decide +kernel⟩
theorem tX12_nodeOf : sMt (gG l D c H0 sa) mX12_nodeOf 2 := ⟨wK_X12_nodeOf, wI_X12, by decide +kernel⟩
theorem tX12_aim : sMt (gG l D c H0 sa) mX12_aim 1 := ⟨wK_X12_aim, wI_X12, by decide +kernel⟩
theorem tX12_costOf : sMt (gG l D c H0 sa) mX12_costOf 4 := ⟨wK_X12_costOf, wI_X12, by decide +kernel⟩
theorem tX12_least : sMt (gG l D c H0 sa) mX12_least 1 := ⟨wK_X12_least, wI_X12, by decide +kernel⟩
theorem tX12_differ : sMt (gG l D c H0 sa) mX12_differ 2 := ⟨wK_X12_differ, wI_X12, by decide +kernel⟩
theorem tX12_clear : sMt (gG l D c H0 sa) mX12_clear 0 := ⟨wK_X12_clear, wI_X12, by decide +kernel⟩
theorem tX12_isWished : sMt (gG l D c H0 sa) mX12_isWished 2 := ⟨wK_X12_isWished, wI_X12, by decide +kernel⟩
theorem tX12_wish : sMt (gG l D c H0 sa) mX12_wish 0 := ⟨wK_X12_wish, wI_X12, by decide +kernel⟩
theorem tX12_states : sMt (gG l D c H0 sa) mX12_states 0 := ⟨wK_X12_states, wI_X12, by decide +kernel⟩
theorem tX12_open : sMt (gG l D c H0 sa) mX12_open 1 := ⟨wK_X12_open, wI_X12, by decide +kernel⟩
theorem tX12_isOffered : sMt (gG l D c H0 sa) mX12_isOffered 1 := ⟨wK_X12_isOffered, wI_X12, by decide +kernel⟩
theorem tX12_acted : sMt (gG l D c H0 sa) mX12_acted 1 := ⟨wK_X12_acted, wI_X12, by decide +kernel⟩
theorem tX12_isRest : sMt (gG l D c H0 sa) mX12_isRest 1 := ⟨wK_X12_isRest, wI_X12, by decide +kernel⟩
theorem tX12_rests : sMt (gG l D c H0 sa) mX12_rests 0 := ⟨wK_X12_rests, wI_X12, by decide +kernel⟩
theorem tX12_rest : sMt (gG l D c H0 sa) mX12_rest 2 := ⟨wK_X12_rest, wI_X12, by decide +kernel⟩
theorem tX12_tries : sMt (gG l D c H0 sa) mX12_tries 1 := ⟨wK_X12_tries, wI_X12, by decide +kernel⟩
theorem tX12_count : sMt (gG l D c H0 sa) mX12_count 1 := ⟨wK_X12_count, wI_X12, by decide +kernel⟩
abbrev zX0 : List Value := [.null, .null, .null, .null, .int 0, .int 0]
theorem zX0_ok (b : Nat × Nat) : ∀ j, j < 6 → defaultValue (tyX0 j) = rv b (vp_V zX0 j)
  | 0, _ => rfl
  | 1, _ => rfl
  | 2, _ => rfl
  | 3, _ => rfl
  | 4, _ => rfl
  | 5, _ => rfl
  | n + 6, h => absurd h (by omega)
abbrev zX1 : List Value := [.null, .null, .null, .int 0, .int 0, .int 0, .int 0, .int 0, .int 0]
theorem zX1_ok (b : Nat × Nat) : ∀ j, j < 9 → defaultValue (tyX1 j) = rv b (vp_V zX1 j)
  | 0, _ => rfl
  | 1, _ => rfl
  | 2, _ => rfl
  | 3, _ => rfl
  | 4, _ => rfl
  | 5, _ => rfl
  | 6, _ => rfl
  | 7, _ => rfl
  | 8, _ => rfl
  | n + 9, h => absurd h (by omega)
abbrev zX2 : List Value := [.null, .null, .null, .null, .null, .null, .int 0, .int 0, .null, .int 0, .int 0]
theorem zX2_ok (b : Nat × Nat) : ∀ j, j < 11 → defaultValue (tyX2 j) = rv b (vp_V zX2 j)
  | 0, _ => rfl
  | 1, _ => rfl
  | 2, _ => rfl
  | 3, _ => rfl
  | 4, _ => rfl
  | 5, _ => rfl
  | 6, _ => rfl
  | 7, _ => rfl
  | 8, _ => rfl
  | 9, _ => rfl
  | 10, _ => rfl
  | n + 11, h => absurd h (by omega)
abbrev zX3 : List Value := [.null, .null, .null, .null, .null, .int 0, .int 0, .int 0, .int 0, .null, .null, .null, .null, .int 0, .int 0, .int 0, .int 0]
theorem zX3_ok (b : Nat × Nat) : ∀ j, j < 17 → defaultValue (tyX3 j) = rv b (vp_V zX3 j)
  | 0, _ => rfl
  | 1, _ => rfl
  | 2, _ => rfl
  | 3, _ => rfl
  | 4, _ => rfl
  | 5, _ => rfl
  | 6, _ => rfl
  | 7, _ => rfl
  | 8, _ => rfl
  | 9, _ => rfl
  | 10, _ => rfl
  | 11, _ => rfl
  | 12, _ => rfl
  | 13, _ => rfl
  | 14, _ => rfl
  | 15, _ => rfl
  | 16, _ => rfl
  | n + 17, h => absurd h (by omega)
abbrev zX4 : List Value := [.null, .null, .null, .null, .null, .null, .null, .null, .null, .int 0, .int 0, .int 0, .null, .null, .int 0]
theorem zX4_ok (b : Nat × Nat) : ∀ j, j < 15 → defaultValue (tyX4 j) = rv b (vp_V zX4 j)
  | 0, _ => rfl
  | 1, _ => rfl
  | 2, _ => rfl
  | 3, _ => rfl
  | 4, _ => rfl
  | 5, _ => rfl
  | 6, _ => rfl
  | 7, _ => rfl
  | 8, _ => rfl
  | 9, _ => rfl
  | 10, _ => rfl
  | 11, _ => rfl
  | 12, _ => rfl
  | 13, _ => rfl
  | 14, _ => rfl
  | n + 15, h => absurd h (by omega)
abbrev zX5 : List Value := [.int 0, .null, .null, .null, .null, .null]
theorem zX5_ok (b : Nat × Nat) : ∀ j, j < 6 → defaultValue (tyX5 j) = rv b (vp_V zX5 j)
  | 0, _ => rfl
  | 1, _ => rfl
  | 2, _ => rfl
  | 3, _ => rfl
  | 4, _ => rfl
  | 5, _ => rfl
  | n + 6, h => absurd h (by omega)
abbrev zX6 : List Value := [.null, .null, .null, .null, .null, .null, .null, .null, .int 0, .int 0, .int 0, .int 0, .int 0, .int 0, .int 0, .int 0, .long 0, .long 0, .int 0, .int 0]
theorem zX6_ok (b : Nat × Nat) : ∀ j, j < 20 → defaultValue (tyX6 j) = rv b (vp_V zX6 j)
  | 0, _ => rfl
  | 1, _ => rfl
  | 2, _ => rfl
  | 3, _ => rfl
  | 4, _ => rfl
  | 5, _ => rfl
  | 6, _ => rfl
  | 7, _ => rfl
  | 8, _ => rfl
  | 9, _ => rfl
  | 10, _ => rfl
  | 11, _ => rfl
  | 12, _ => rfl
  | 13, _ => rfl
  | 14, _ => rfl
  | 15, _ => rfl
  | 16, _ => rfl
  | 17, _ => rfl
  | 18, _ => rfl
  | 19, _ => rfl
  | n + 20, h => absurd h (by omega)
abbrev zX7 : List Value := [.null, .null, .int 0, .int 0, .int 0, .int 0, .int 0, .int 0, .int 0, .int 0, .int 0, .int 0]
theorem zX7_ok (b : Nat × Nat) : ∀ j, j < 12 → defaultValue (tyX7 j) = rv b (vp_V zX7 j)
  | 0, _ => rfl
  | 1, _ => rfl
  | 2, _ => rfl
  | 3, _ => rfl
  | 4, _ => rfl
  | 5, _ => rfl
  | 6, _ => rfl
  | 7, _ => rfl
  | 8, _ => rfl
  | 9, _ => rfl
  | 10, _ => rfl
  | 11, _ => rfl
  | n + 12, h => absurd h (by omega)
abbrev zX8 : List Value := [.null, .null, .null, .null, .null, .null, .null, .null, .null, .int 0, .int 0, .int 0, .int 0]
theorem zX8_ok (b : Nat × Nat) : ∀ j, j < 13 → defaultValue (tyX8 j) = rv b (vp_V zX8 j)
  | 0, _ => rfl
  | 1, _ => rfl
  | 2, _ => rfl
  | 3, _ => rfl
  | 4, _ => rfl
  | 5, _ => rfl
  | 6, _ => rfl
  | 7, _ => rfl
  | 8, _ => rfl
  | 9, _ => rfl
  | 10, _ => rfl
  | 11, _ => rfl
  | 12, _ => rfl
  | n + 13, h => absurd h (by omega)
abbrev zX9 : List Value := [.int 0, .int 0, .int 0, .null, .null, .null, .int 0, .int 0, .int 0]
theorem zX9_ok (b : Nat × Nat) : ∀ j, j < 9 → defaultValue (tyX9 j) = rv b (vp_V zX9 j)
  | 0, _ => rfl
  | 1, _ => rfl
  | 2, _ => rfl
  | 3, _ => rfl
  | 4, _ => rfl
  | 5, _ => rfl
  | 6, _ => rfl
  | 7, _ => rfl
  | 8, _ => rfl
  | n + 9, h => absurd h (by omega)
abbrev zX10 : List Value := [.null, .null, .null, .null, .null, .null, .null, .null, .null, .null, .null, .null, .null, .null, .int 0, .int 0, .int 0, .int 0, .int 0]
theorem zX10_ok (b : Nat × Nat) : ∀ j, j < 19 → defaultValue (tyX10 j) = rv b (vp_V zX10 j)
  | 0, _ => rfl
  | 1, _ => rfl
  | 2, _ => rfl
  | 3, _ => rfl
  | 4, _ => rfl
  | 5, _ => rfl
  | 6, _ => rfl
  | 7, _ => rfl
  | 8, _ => rfl
  | 9, _ => rfl
  | 10, _ => rfl
  | 11, _ => rfl
  | 12, _ => rfl
  | 13, _ => rfl
  | 14, _ => rfl
  | 15, _ => rfl
  | 16, _ => rfl
  | 17, _ => rfl
  | 18, _ => rfl
  | n + 19, h => absurd h (by omega)
abbrev zX11 : List Value := [.null, .null, .null, .null, .null, .null, .null, .null, .null, .null, .int 0, .int 0]
theorem zX11_ok (b : Nat × Nat) : ∀ j, j < 12 → defaultValue (tyX11 j) = rv b (vp_V zX11 j)
  | 0, _ => rfl
  | 1, _ => rfl
  | 2, _ => rfl
  | 3, _ => rfl
  | 4, _ => rfl
  | 5, _ => rfl
  | 6, _ => rfl
  | 7, _ => rfl
  | 8, _ => rfl
  | 9, _ => rfl
  | 10, _ => rfl
  | 11, _ => rfl
  | n + 12, h => absurd h (by omega)
abbrev zX12 : List Value := [.null, .int 0, .int 0, .null, .null, .int 0, .int 0, .null, .null, .null, .null, .null, .null, .null, .null, .int 0, .null, .int 0, .int 0, .null, .null, .null, .null, .null, .null, .null, .int 0, .int 0, .int 0, .int 0, .int 0, .int 0, .null, .int 0, .int 0, .int 0, .int 0, .int 0, .int 0, .int 0, .null, .null, .null, .null, .null, .null, .null, .null, .null, .null, .null, .null, .null, .null, .null, .null, .null, .null, .int 0, .int 0, .null, .null, .null, .null, .null, .null, .int 0, .null, .null, .null, .int 0, .int 0, .int 0, .int 0, .null, .null, .null, .null, .null, .null, .null, .null, .null, .null, .null, .null, .null, .null, .int 0, .null, .null, .int 0, .null, .int 0, .null, .null, .int 0, .int 0, .int 0, .int 0, .null, .int 0, .int 0, .null, .int 0, .null, .int 0, .null, .int 0, .int 0, .null, .null, .null, .null, .null, .null, .int 0, .null, .null, .null, .null, .null, .null, .null, .null, .null]
theorem zX12_ok (b : Nat × Nat) : ∀ j, j < 126 → defaultValue (tyX12 j) = rv b (vp_V zX12 j)
  | 0, _ => rfl
  | 1, _ => rfl
  | 2, _ => rfl
  | 3, _ => rfl
  | 4, _ => rfl
  | 5, _ => rfl
  | 6, _ => rfl
  | 7, _ => rfl
  | 8, _ => rfl
  | 9, _ => rfl
  | 10, _ => rfl
  | 11, _ => rfl
  | 12, _ => rfl
  | 13, _ => rfl
  | 14, _ => rfl
  | 15, _ => rfl
  | 16, _ => rfl
  | 17, _ => rfl
  | 18, _ => rfl
  | 19, _ => rfl
  | 20, _ => rfl
  | 21, _ => rfl
  | 22, _ => rfl
  | 23, _ => rfl
  | 24, _ => rfl
  | 25, _ => rfl
  | 26, _ => rfl
  | 27, _ => rfl
  | 28, _ => rfl
  | 29, _ => rfl
  | 30, _ => rfl
  | 31, _ => rfl
  | 32, _ => rfl
  | 33, _ => rfl
  | 34, _ => rfl
  | 35, _ => rfl
  | 36, _ => rfl
  | 37, _ => rfl
  | 38, _ => rfl
  | 39, _ => rfl
  | 40, _ => rfl
  | 41, _ => rfl
  | 42, _ => rfl
  | 43, _ => rfl
  | 44, _ => rfl
  | 45, _ => rfl
  | 46, _ => rfl
  | 47, _ => rfl
  | 48, _ => rfl
  | 49, _ => rfl
  | 50, _ => rfl
  | 51, _ => rfl
  | 52, _ => rfl
  | 53, _ => rfl
  | 54, _ => rfl
  | 55, _ => rfl
  | 56, _ => rfl
  | 57, _ => rfl
  | 58, _ => rfl
  | 59, _ => rfl
  | 60, _ => rfl
  | 61, _ => rfl
  | 62, _ => rfl
  | 63, _ => rfl
  | 64, _ => rfl
  | 65, _ => rfl
  | 66, _ => rfl
  | 67, _ => rfl
  | 68, _ => rfl
  | 69, _ => rfl
  | 70, _ => rfl
  | 71, _ => rfl
  | 72, _ => rfl
  | 73, _ => rfl
  | 74, _ => rfl
  | 75, _ => rfl
  | 76, _ => rfl
  | 77, _ => rfl
  | 78, _ => rfl
  | 79, _ => rfl
  | 80, _ => rfl
  | 81, _ => rfl
  | 82, _ => rfl
  | 83, _ => rfl
  | 84, _ => rfl
  | 85, _ => rfl
  | 86, _ => rfl
  | 87, _ => rfl
  | 88, _ => rfl
  | 89, _ => rfl
  | 90, _ => rfl
  | 91, _ => rfl
  | 92, _ => rfl
  | 93, _ => rfl
  | 94, _ => rfl
  | 95, _ => rfl
  | 96, _ => rfl
  | 97, _ => rfl
  | 98, _ => rfl
  | 99, _ => rfl
  | 100, _ => rfl
  | 101, _ => rfl
  | 102, _ => rfl
  | 103, _ => rfl
  | 104, _ => rfl
  | 105, _ => rfl
  | 106, _ => rfl
  | 107, _ => rfl
  | 108, _ => rfl
  | 109, _ => rfl
  | 110, _ => rfl
  | 111, _ => rfl
  | 112, _ => rfl
  | 113, _ => rfl
  | 114, _ => rfl
  | 115, _ => rfl
  | 116, _ => rfl
  | 117, _ => rfl
  | 118, _ => rfl
  | 119, _ => rfl
  | 120, _ => rfl
  | 121, _ => rfl
  | 122, _ => rfl
  | 123, _ => rfl
  | 124, _ => rfl
  | 125, _ => rfl
  | n + 126, h => absurd h (by omega)
end SGm
end
section
def yJ_fillI : MethodName := ⟨"java/util/Arrays", "fill", "([II)V"⟩
abbrev cJ_fillI : ByteArray := prog_22_method_103_code
abbrev mJ_fillI : sM := (yJ_fillI, cJ_fillI, 4, none)
theorem wK_J_fillI : Cond.code yJ_fillI cJ_fillI 4 none ∈ lw_ok := lw_i2 79 rfl rfl
theorem wS_J_fillI : Cond.static yJ_fillI ∈ lw_ok := lw_i2 78 rfl rfl
theorem tJ_fillI (l : Launch) (D : va_G) (c : Nat → ClassId) (H0 : Heap) (sa : Nat × Nat × (Nat → Int32)) : sMt (gG l D c H0 sa) mJ_fillI 2 := ⟨wK_J_fillI, lw_i1 7 rfl rfl, by decide +kernel⟩
def yJ_fillB : MethodName := ⟨"java/util/Arrays", "fill", "([BB)V"⟩
abbrev cJ_fillB : ByteArray := prog_22_method_109_code
abbrev mJ_fillB : sM := (yJ_fillB, cJ_fillB, 4, none)
theorem wK_J_fillB : Cond.code yJ_fillB cJ_fillB 4 none ∈ lw_ok := lw_i7 181 rfl rfl
theorem wS_J_fillB : Cond.static yJ_fillB ∈ lw_ok := lw_i7 180 rfl rfl
theorem tJ_fillB (l : Launch) (D : va_G) (c : Nat → ClassId) (H0 : Heap) (sa : Nat × Nat × (Nat → Int32)) : sMt (gG l D c H0 sa) mJ_fillB 2 := ⟨wK_J_fillB, lw_i1 7 rfl rfl, by decide +kernel⟩
def yJ_copyI : MethodName := ⟨"java/util/Arrays", "copyOf", "([II)[I"⟩
abbrev cJ_copyI : ByteArray := prog_22_method_123_code
abbrev mJ_copyI : sM := (yJ_copyI, cJ_copyI, 3, (some (Jvm.ClassFile.FieldType.array Jvm.ClassFile.FieldType.int)))
theorem wK_J_copyI : Cond.code yJ_copyI cJ_copyI 3 (some (Jvm.ClassFile.FieldType.array Jvm.ClassFile.FieldType.int)) ∈ lw_ok := lw_i5 195 rfl rfl
theorem wS_J_copyI : Cond.static yJ_copyI ∈ lw_ok := lw_i5 194 rfl rfl
theorem tJ_copyI (l : Launch) (D : va_G) (c : Nat → ClassId) (H0 : Heap) (sa : Nat × Nat × (Nat → Int32)) : sMt (gG l D c H0 sa) mJ_copyI 2 := ⟨wK_J_copyI, lw_i1 7 rfl rfl, by decide +kernel⟩
def yJ_copyJ : MethodName := ⟨"java/util/Arrays", "copyOf", "([JI)[J"⟩
abbrev cJ_copyJ : ByteArray := prog_22_method_124_code
abbrev mJ_copyJ : sM := (yJ_copyJ, cJ_copyJ, 3, (some (Jvm.ClassFile.FieldType.array Jvm.ClassFile.FieldType.long)))
theorem wK_J_copyJ : Cond.code yJ_copyJ cJ_copyJ 3 (some (Jvm.ClassFile.FieldType.array Jvm.ClassFile.FieldType.long)) ∈ lw_ok := lw_i5 207 rfl rfl
theorem wS_J_copyJ : Cond.static yJ_copyJ ∈ lw_ok := lw_i5 206 rfl rfl
theorem tJ_copyJ (l : Launch) (D : va_G) (c : Nat → ClassId) (H0 : Heap) (sa : Nat × Nat × (Nat → Int32)) : sMt (gG l D c H0 sa) mJ_copyJ 2 := ⟨wK_J_copyJ, lw_i1 7 rfl rfl, by decide +kernel⟩
def yJ_min : MethodName := ⟨"java/lang/Math", "min", "(II)I"⟩
abbrev cJ_min : ByteArray := prog_17_method_69_code
abbrev mJ_min : sM := (yJ_min, cJ_min, 2, (some Jvm.ClassFile.FieldType.int))
theorem wK_J_min : Cond.code yJ_min cJ_min 2 (some Jvm.ClassFile.FieldType.int) ∈ lw_ok := lw_i4 203 rfl rfl
theorem wS_J_min : Cond.static yJ_min ∈ lw_ok := lw_i4 202 rfl rfl
theorem tJ_min (l : Launch) (D : va_G) (c : Nat → ClassId) (H0 : Heap) (sa : Nat × Nat × (Nat → Int32)) : sMt (gG l D c H0 sa) mJ_min 2 := ⟨wK_J_min, lw_i1 16 rfl rfl, by decide +kernel⟩
def yJ_max : MethodName := ⟨"java/lang/Math", "max", "(II)I"⟩
abbrev cJ_max : ByteArray := prog_17_method_65_code
abbrev mJ_max : sM := (yJ_max, cJ_max, 2, (some Jvm.ClassFile.FieldType.int))
theorem wK_J_max : Cond.code yJ_max cJ_max 2 (some Jvm.ClassFile.FieldType.int) ∈ lw_ok := lw_i7 178 rfl rfl
theorem wS_J_max : Cond.static yJ_max ∈ lw_ok := lw_i7 177 rfl rfl
theorem tJ_max (l : Launch) (D : va_G) (c : Nat → ClassId) (H0 : Heap) (sa : Nat × Nat × (Nat → Int32)) : sMt (gG l D c H0 sa) mJ_max 2 := ⟨wK_J_max, lw_i1 16 rfl rfl, by decide +kernel⟩
def yJ_cmp : MethodName := ⟨"java/lang/Integer", "compare", "(II)I"⟩
abbrev cJ_cmp : ByteArray := prog_16_method_40_code
abbrev mJ_cmp : sM := (yJ_cmp, cJ_cmp, 2, (some Jvm.ClassFile.FieldType.int))
theorem wK_J_cmp : Cond.code yJ_cmp cJ_cmp 2 (some Jvm.ClassFile.FieldType.int) ∈ lw_ok := lw_i4 61 rfl rfl
theorem wS_J_cmp : Cond.static yJ_cmp ∈ lw_ok := lw_i4 60 rfl rfl
theorem tJ_cmp (l : Launch) (D : va_G) (c : Nat → ClassId) (H0 : Heap) (sa : Nat × Nat × (Nat → Int32)) : sMt (gG l D c H0 sa) mJ_cmp 2 := ⟨wK_J_cmp, lw_i1 15 rfl rfl, by decide +kernel⟩
def yJ_bits : MethodName := ⟨"java/lang/Integer", "bitCount", "(I)I"⟩
abbrev cJ_bits : ByteArray := prog_16_method_49_code
abbrev mJ_bits : sM := (yJ_bits, cJ_bits, 1, (some Jvm.ClassFile.FieldType.int))
theorem wK_J_bits : Cond.code yJ_bits cJ_bits 1 (some Jvm.ClassFile.FieldType.int) ∈ lw_ok := lw_i4 184 rfl rfl
theorem wS_J_bits : Cond.static yJ_bits ∈ lw_ok := lw_i4 183 rfl rfl
theorem tJ_bits (l : Launch) (D : va_G) (c : Nat → ClassId) (H0 : Heap) (sa : Nat × Nat × (Nat → Int32)) : sMt (gG l D c H0 sa) mJ_bits 1 := ⟨wK_J_bits, lw_i1 15 rfl rfl, by decide +kernel⟩
theorem dJ_fillI_0 : decode cJ_fillI 0 = .ok (.iconst 0, 1) := by decide +kernel
theorem dJ_fillI_1 : decode cJ_fillI 1 = .ok (.istore_n 2, 1) := by decide +kernel
theorem dJ_fillI_2 : decode cJ_fillI 2 = .ok (.aload_n 0, 1) := by decide +kernel
theorem dJ_fillI_3 : decode cJ_fillI 3 = .ok (.arraylength, 1) := by decide +kernel
theorem dJ_fillI_4 : decode cJ_fillI 4 = .ok (.istore_n 3, 1) := by decide +kernel
theorem dJ_fillI_5 : decode cJ_fillI 5 = .ok (.iload_n 2, 1) := by decide +kernel
theorem dJ_fillI_6 : decode cJ_fillI 6 = .ok (.iload_n 3, 1) := by decide +kernel
theorem dJ_fillI_7 : decode cJ_fillI 7 = .ok (.if_icmp .ge 13, 3) := by decide +kernel
theorem dJ_fillI_10 : decode cJ_fillI 10 = .ok (.aload_n 0, 1) := by decide +kernel
theorem dJ_fillI_11 : decode cJ_fillI 11 = .ok (.iload_n 2, 1) := by decide +kernel
theorem dJ_fillI_12 : decode cJ_fillI 12 = .ok (.iload_n 1, 1) := by decide +kernel
theorem dJ_fillI_13 : decode cJ_fillI 13 = .ok (.iastore, 1) := by decide +kernel
theorem dJ_fillI_14 : decode cJ_fillI 14 = .ok (.iinc 2 1, 3) := by decide +kernel
theorem dJ_fillI_17 : decode cJ_fillI 17 = .ok (.goto (-12), 3) := by decide +kernel
theorem dJ_fillI_20 : decode cJ_fillI 20 = .ok (.return_, 1) := by decide +kernel
theorem dJ_fillB_0 : decode cJ_fillB 0 = .ok (.iconst 0, 1) := by decide +kernel
theorem dJ_fillB_1 : decode cJ_fillB 1 = .ok (.istore_n 2, 1) := by decide +kernel
theorem dJ_fillB_2 : decode cJ_fillB 2 = .ok (.aload_n 0, 1) := by decide +kernel
theorem dJ_fillB_3 : decode cJ_fillB 3 = .ok (.arraylength, 1) := by decide +kernel
theorem dJ_fillB_4 : decode cJ_fillB 4 = .ok (.istore_n 3, 1) := by decide +kernel
theorem dJ_fillB_5 : decode cJ_fillB 5 = .ok (.iload_n 2, 1) := by decide +kernel
theorem dJ_fillB_6 : decode cJ_fillB 6 = .ok (.iload_n 3, 1) := by decide +kernel
theorem dJ_fillB_7 : decode cJ_fillB 7 = .ok (.if_icmp .ge 13, 3) := by decide +kernel
theorem dJ_fillB_10 : decode cJ_fillB 10 = .ok (.aload_n 0, 1) := by decide +kernel
theorem dJ_fillB_11 : decode cJ_fillB 11 = .ok (.iload_n 2, 1) := by decide +kernel
theorem dJ_fillB_12 : decode cJ_fillB 12 = .ok (.iload_n 1, 1) := by decide +kernel
theorem dJ_fillB_13 : decode cJ_fillB 13 = .ok (.bastore, 1) := by decide +kernel
theorem dJ_fillB_14 : decode cJ_fillB 14 = .ok (.iinc 2 1, 3) := by decide +kernel
theorem dJ_fillB_17 : decode cJ_fillB 17 = .ok (.goto (-12), 3) := by decide +kernel
theorem dJ_fillB_20 : decode cJ_fillB 20 = .ok (.return_, 1) := by decide +kernel
theorem sUp_sUp (f : Nat → sE) (a : Nat) (x y : sE) : sUp (sUp f a x) a y = sUp f a y := by funext j; simp only [sUp]; split <;> rfl
theorem sUp_at (f : Nat → sE) (a : Nat) (x : sE) : sUp f a x a = x := by simp only [sUp, if_true]
theorem sUp_ne (f : Nat → sE) {a b : Nat} (x : sE) (h : b ≠ a) : sUp f a x b = f b := by simp only [sUp, if_neg h]
def sFill (n : Nat) (v : Value) (f : Nat → Value) : Nat → Value := fun j => if j < n then v else f j
theorem sFill_up (i : Nat) (v : Value) (f : Nat → Value) : updV (sFill i v f) i v = sFill (i + 1) v f := by
  funext j
  simp only [updV, sFill]
  by_cases h : j = i
  · subst h; simp
  · by_cases h2 : j < i
    · rw [if_neg h, if_pos h2, if_pos (by omega)]
    · rw [if_neg h, if_neg h2, if_neg (by omega)]
theorem sFill_0 (v : Value) (f : Nat → Value) : sFill 0 v f = f := by funext j; simp [sFill]
section JDK
variable (l : Launch) (D : va_G) (c : Nat → ClassId) (H0 : Heap) (sa : Nat × Nat × (Nat → Int32))
set_option maxHeartbeats 4000000 in
theorem c_fillI_loop {d a n : Nat} {f : Nat → Value} {v : Int32} {hp : sHp} (ha : a < hp.1) (hn : n < 2 ^ 31) : ∀ (k i : Nat), i + k = n → ∀ (lv : List (Nat × Value)), sGet 0 lv = some (.ref a) → sGet 1 lv = some (.int v) → sGet 2 lv = some (.int (nI i)) → sGet 3 lv = some (.int (nI n)) →
    sV (gG l D c H0 sa) mJ_fillI (sRm d 0 0) (sZ (gG l D c H0 sa) 0 0 (fun r hp' => r = none ∧ hp' = (hp.1, sUp hp.2 a (.inl (0, n, sFill n (.int v) f))))) 5 lv [] (hp.1, sUp hp.2 a (.inl (0, n, sFill i (.int v) f))) 0 0 := by
  intro k
  induction k with
  | zero =>
    intro i hi lv h0 h1 h2 h3
    have : i = n := by omega
    subst this
    refine sv_iload_n dJ_fillI_5 rfl h2 ?_
    refine sv_iload_n dJ_fillI_6 rfl h3 ?_
    refine sv_icmp_ge (tgt := 20) dJ_fillI_7 (by decide) (fun _ => ?_) (fun h => absurd (Int32.le_refl _) h)
    exact sv_vret dJ_fillI_20 rfl (Nat.le_refl _) (Nat.le_refl _) ⟨rfl, rfl⟩
  | succ k ih =>
    intro i hi lv h0 h1 h2 h3
    have hin : i < n := by omega
    refine sv_iload_n dJ_fillI_5 rfl h2 ?_
    refine sv_iload_n dJ_fillI_6 rfl h3 ?_
    refine sv_icmp_ge (tgt := 20) dJ_fillI_7 (by decide) (fun h => absurd h (nI_ge hin hn)) (fun _ => ?_)
    refine sv_aload_n dJ_fillI_10 rfl h0 ?_
    refine sv_iload_n dJ_fillI_11 rfl h2 ?_
    refine sv_iload_n dJ_fillI_12 rfl h1 ?_
    refine sv_iastore (kd := 0) (cA := c 0) (n := n) (f := sFill i (.int v) f) dJ_fillI_13 rfl ha (sUp_at _ _ _) (vp_in_nI hin hn) ?_
    rw [nI_clamp (show i < 2 ^ 31 by omega), sFill_up]
    refine sv_iincK (k := 1) dJ_fillI_14 (by decide) h2 (by decide) ?_
    refine sv_goto (tgt := 5) dJ_fillI_17 (by decide) ?_
    show sV _ _ _ _ _ _ _ (hp.1, sUp (sUp hp.2 a (.inl (0, n, sFill i (.int v) f))) a (.inl (0, n, sFill (i + 1) (.int v) f))) _ _
    rw [sUp_sUp, nI_1]
    exact ih (i + 1) (by omega) _ (sGet_keep h0 (by decide)) (sGet_keep h1 (by decide)) sGet_new (sGet_keep h3 (by decide))
theorem c_fillI {d a n : Nat} {f : Nat → Value} {v : Int32} {hp : sHp} (ha : a < hp.1) (he : hp.2 a = .inl (0, n, f)) (hn : n < 2 ^ 31) : sC (gG l D c H0 sa) mJ_fillI d 0 0 [.ref a, .int v] hp (fun r hp' => r = none ∧ hp' = (hp.1, sUp hp.2 a (.inl (0, n, sFill n (.int v) f)))) := by
  refine sC.of rfl (by decide) (le_t rfl) ?_
  refine sv_iconst (v := 0) dJ_fillI_0 (by decide) ?_
  refine sv_istore_n dJ_fillI_1 rfl (by decide) ?_
  refine sv_aload_n dJ_fillI_2 rfl rfl ?_
  refine sv_arraylength (cA := c 0) (ty := .int) dJ_fillI_3 rfl ha he rfl ?_
  refine sv_istore_n dJ_fillI_4 rfl (by decide) ?_
  refine sv_heap (hp' := (hp.1, sUp hp.2 a (.inl (0, n, sFill 0 (.int v) f)))) rfl (fun j _ => ?_) (c_fillI_loop l D c H0 sa ha hn n 0 (by omega) _ rfl rfl rfl rfl)
  show hp.2 j = sUp hp.2 a _ j
  rw [sFill_0]
  by_cases h : j = a
  · subst h; rw [sUp_at]; exact he
  · rw [sUp_ne _ _ h]
end JDK
end
section
theorem dJ_cmp_0 : decode cJ_cmp 0 = .ok (.iload_n 0, 1) := by decide +kernel
theorem dJ_cmp_1 : decode cJ_cmp 1 = .ok (.iload_n 1, 1) := by decide +kernel
theorem dJ_cmp_2 : decode cJ_cmp 2 = .ok (.if_icmp .ge 7, 3) := by decide +kernel
theorem dJ_cmp_5 : decode cJ_cmp 5 = .ok (.iconst (-1), 1) := by decide +kernel
theorem dJ_cmp_6 : decode cJ_cmp 6 = .ok (.goto 13, 3) := by decide +kernel
theorem dJ_cmp_9 : decode cJ_cmp 9 = .ok (.iload_n 0, 1) := by decide +kernel
theorem dJ_cmp_10 : decode cJ_cmp 10 = .ok (.iload_n 1, 1) := by decide +kernel
theorem dJ_cmp_11 : decode cJ_cmp 11 = .ok (.if_icmp .ne 7, 3) := by decide +kernel
theorem dJ_cmp_14 : decode cJ_cmp 14 = .ok (.iconst 0, 1) := by decide +kernel
theorem dJ_cmp_15 : decode cJ_cmp 15 = .ok (.goto 4, 3) := by decide +kernel
theorem dJ_cmp_18 : decode cJ_cmp 18 = .ok (.iconst 1, 1) := by decide +kernel
theorem dJ_cmp_19 : decode cJ_cmp 19 = .ok (.ireturn, 1) := by decide +kernel
theorem dJ_copyI_0 : decode cJ_copyI 0 = .ok (.iload_n 1, 1) := by decide +kernel
theorem dJ_copyI_1 : decode cJ_copyI 1 = .ok (.aload_n 0, 1) := by decide +kernel
theorem dJ_copyI_2 : decode cJ_copyI 2 = .ok (.arraylength, 1) := by decide +kernel
theorem dJ_copyI_3 : decode cJ_copyI 3 = .ok (.if_icmp .ne 11, 3) := by decide +kernel
theorem dJ_copyI_14 : decode cJ_copyI 14 = .ok (.iload_n 1, 1) := by decide +kernel
theorem dJ_copyI_15 : decode cJ_copyI 15 = .ok (.newarray .int, 2) := by decide +kernel
theorem dJ_copyI_17 : decode cJ_copyI 17 = .ok (.astore_n 2, 1) := by decide +kernel
theorem dJ_copyI_18 : decode cJ_copyI 18 = .ok (.aload_n 0, 1) := by decide +kernel
theorem dJ_copyI_19 : decode cJ_copyI 19 = .ok (.iconst 0, 1) := by decide +kernel
theorem dJ_copyI_20 : decode cJ_copyI 20 = .ok (.aload_n 2, 1) := by decide +kernel
theorem dJ_copyI_21 : decode cJ_copyI 21 = .ok (.iconst 0, 1) := by decide +kernel
theorem dJ_copyI_22 : decode cJ_copyI 22 = .ok (.aload_n 0, 1) := by decide +kernel
theorem dJ_copyI_23 : decode cJ_copyI 23 = .ok (.arraylength, 1) := by decide +kernel
theorem dJ_copyI_24 : decode cJ_copyI 24 = .ok (.iload_n 1, 1) := by decide +kernel
theorem dJ_copyI_25 : decode cJ_copyI 25 = .ok (.invokestatic 304, 3) := by decide +kernel
theorem dJ_copyI_28 : decode cJ_copyI 28 = .ok (.invokestatic 150, 3) := by decide +kernel
theorem dJ_copyI_31 : decode cJ_copyI 31 = .ok (.aload_n 2, 1) := by decide +kernel
theorem dJ_copyI_32 : decode cJ_copyI 32 = .ok (.areturn, 1) := by decide +kernel
theorem dJ_copyJ_0 : decode cJ_copyJ 0 = .ok (.iload_n 1, 1) := by decide +kernel
theorem dJ_copyJ_1 : decode cJ_copyJ 1 = .ok (.aload_n 0, 1) := by decide +kernel
theorem dJ_copyJ_2 : decode cJ_copyJ 2 = .ok (.arraylength, 1) := by decide +kernel
theorem dJ_copyJ_3 : decode cJ_copyJ 3 = .ok (.if_icmp .ne 11, 3) := by decide +kernel
theorem dJ_copyJ_14 : decode cJ_copyJ 14 = .ok (.iload_n 1, 1) := by decide +kernel
theorem dJ_copyJ_15 : decode cJ_copyJ 15 = .ok (.newarray .long, 2) := by decide +kernel
theorem dJ_copyJ_17 : decode cJ_copyJ 17 = .ok (.astore_n 2, 1) := by decide +kernel
theorem dJ_copyJ_18 : decode cJ_copyJ 18 = .ok (.aload_n 0, 1) := by decide +kernel
theorem dJ_copyJ_19 : decode cJ_copyJ 19 = .ok (.iconst 0, 1) := by decide +kernel
theorem dJ_copyJ_20 : decode cJ_copyJ 20 = .ok (.aload_n 2, 1) := by decide +kernel
theorem dJ_copyJ_21 : decode cJ_copyJ 21 = .ok (.iconst 0, 1) := by decide +kernel
theorem dJ_copyJ_22 : decode cJ_copyJ 22 = .ok (.aload_n 0, 1) := by decide +kernel
theorem dJ_copyJ_23 : decode cJ_copyJ 23 = .ok (.arraylength, 1) := by decide +kernel
theorem dJ_copyJ_24 : decode cJ_copyJ 24 = .ok (.iload_n 1, 1) := by decide +kernel
theorem dJ_copyJ_25 : decode cJ_copyJ 25 = .ok (.invokestatic 304, 3) := by decide +kernel
theorem dJ_copyJ_28 : decode cJ_copyJ 28 = .ok (.invokestatic 150, 3) := by decide +kernel
theorem dJ_copyJ_31 : decode cJ_copyJ 31 = .ok (.aload_n 2, 1) := by decide +kernel
theorem dJ_copyJ_32 : decode cJ_copyJ 32 = .ok (.areturn, 1) := by decide +kernel
theorem wM_J_304 : Cond.methodLink "java/util/Arrays" 304 yJ_min ∈ lw_ok := lw_i5 203 rfl rfl
theorem wM_J_150 : Cond.methodLink "java/util/Arrays" 150 arraycopyName ∈ lw_ok := lw_i5 204 rfl rfl
theorem wS_J_ac : Cond.static arraycopyName ∈ lw_ok := lw_i4 27 rfl rfl
theorem wN_J_ac : Cond.native arraycopyName ∈ lw_ok := lw_i4 28 rfl rfl
theorem wI_J_math : Cond.initialized "java/lang/Math" ∈ lw_ok := lw_i1 16 rfl rfl
theorem wI_J_sys : Cond.initialized "java/lang/System" ∈ lw_ok := lw_i1 14 rfl rfl
section CPYI
variable {g : sG} {M : sM} {R : Room} {Z : sZT} {pc : Nat} {lv : List (Nat × Value)} {st : List Value} {ce sl hn : Nat} {hf : Nat → sE}
theorem sv_copyI {index a0 a n0 n1 : Nat} {cA : ClassId} {q q' : Nat → Int32} {sp dp n : Int32} (hd : decode M.2.1 pc = .ok (.invokestatic index, 3)) (hlk : Cond.methodLink M.1.cls index arraycopyName ∈ sg_ws g) (hw1 : Cond.native arraycopyName ∈ sg_ws g) (hw2 : Cond.static arraycopyName ∈ sg_ws g) (hw3 : Cond.initialized "java/lang/System" ∈ sg_ws g) (ht : g.2.2.1[0]? = some (cA, .int)) (ha0 : a0 < hn) (ha : a < hn) (he0 : hf a0 = .inl (0, n0, sI q)) (he : hf a = .inl (0, n1, sI q')) (h1 : ¬ sp < 0) (h2 : ¬ dp < 0) (h3 : ¬ n < 0) (h4 : sp.toNatClampNeg + n.toNatClampNeg ≤ n0) (h5 : dp.toNatClampNeg + n.toNatClampNeg ≤ n1) (hfr : 1 ≤ R.frames) (hlo : nativeFrameWords "java/lang/System" "arraycopy" 5 + 19 ≤ R.locals) (hr8 : (st.map fun v => v.category).sum ≤ 8)
    (kk : sV g M R Z (pc + 3) lv st (hn, sUp hf a (.inl (0, n1, sI (va_cpy q q' sp.toNatClampNeg dp.toNatClampNeg n.toNatClampNeg)))) ce sl) : sV g M R Z pc lv (.int n :: .int dp :: .ref a :: .int sp :: .ref a0 :: st) (hn, hf) ce sl := by
  intro p e s m args below meth c H locs ls X r hl h
  obtain ⟨hx, hb, hr, hml, hown, hts, hK, hlk2, hlw, hnm⟩ := id X
  obtain ⟨hc0, -⟩ := sArr (hp := (hn, hf)) r hK ha0 he0 ht
  obtain ⟨hc1, -⟩ := sArr (hp := (hn, hf)) r hK ha he ht
  have nn : ∀ z : Int32, ¬ z < 0 → z.toInt = (z.toNatClampNeg : Int) := by
    intro z hz
    have hz0 : (0 : Int) ≤ z.toInt := by
      have := Int32.not_lt.mp hz
      simpa using Int32.le_iff_toInt_le.mp this
    show z.toInt = ((z.toInt.toNat : Nat) : Int)
    omega
  intro T hT X1
  obtain ⟨-, k0, hk0, cm0, hkk0⟩ := (hK.1.2 0 _ ht).1 n0 (fun j => .int (q j))
  have h8 := lv_room (m := m) (pc := pc) (ls := ls) (rest := (Value.int n :: .int dp :: .ref a :: .int sp :: .ref a0 :: st).map (rv (sg_r g))) (sRoom (b := sg_r g) hr8)
  obtain ⟨vm', X', step⟩ := X1.arraycopy hx hown (hts _ hlk) (hts _ hw1) (hts _ hw2) (hts _ hw3) (src := sg_b g + a0) (dst := sg_b g + a) (cs := arrV cA n0 (fun j => .int (q j))) (cd := arrV cA n1 (fun j => .int (q' j))) (srcPos := sp) (destPos := dp) (n := n) (by rw [hT]; exact hc0) (by rw [hT]; exact hc1)
    (fun _ h => by cases h) (fun _ h => by cases h) (fun h => by cases h) (fun h => by cases h) hk0 hk0 hkk0 hkk0 rfl h1 h2 h3
    (by rw [nn sp h1, nn n h3, arrV_size]; omega)
    (by rw [nn dp h2, nn n h3, arrV_size]; omega)
    (fun vm₁ _ i hi => by
      have e : (arrV cA n0 (fun j => .int (q j))).slots.getD (sp.toNatClampNeg + i) .null = .int (q (sp.toNatClampNeg + i)) := by
        rw [Array.getD_eq_getD_getElem?, arrV_read _ _ (by omega)]
        rfl
      refine ⟨?_, ?_⟩
      · rw [e]; rfl
      · rw [e]; exact trivial)
    (g := F0 m pc ls ((Value.int n :: .int dp :: .ref a :: .int sp :: .ref a0 :: st).map (rv (sg_r g)))) rfl (by rw [hml]; exact h.1) (rest := st.map (rv (sg_r g))) rfl (by rw [hb]; exact hd) hfr (by omega)
  have e1 : copied (arrV cA n0 (fun j => .int (q j))) (arrV cA n1 (fun j => .int (q' j))) sp dp n = arrV cA n1 (fun j => .int (va_cpy q q' sp.toNatClampNeg dp.toNatClampNeg n.toNatClampNeg j)) := va_copied (fun z => .int z) cA cA q q' h4
  rw [e1] at X' step
  have hlt : sg_b g + a < H.size := (Array.getElem?_eq_some_iff.mp hc1).1
  have hheap : ((T.setVm vm').setCell (sg_b g + a) (arrV cA n1 (fun j => .int (va_cpy q q' sp.toNatClampNeg dp.toNatClampNeg n.toNatClampNeg j)))).heap = H.setIfInBounds (sg_b g + a) (arrV cA n1 (fun j => .int (va_cpy q q' sp.toNatClampNeg dp.toNatClampNeg n.toNatClampNeg j))) := by rw [← hT]; rfl
  have hR : sR g (hn, sUp hf a (.inl (0, n1, sI (va_cpy q q' sp.toNatClampNeg dp.toNatClampNeg n.toNatClampNeg)))) (H.setIfInBounds (sg_b g + a) (arrV cA n1 (fun j => .int (va_cpy q q' sp.toNatClampNeg dp.toNatClampNeg n.toNatClampNeg j)))) :=
    sR.put (hp := (hn, hf)) r (by simp) (fun z hz => by simp [Array.getElem?_setIfInBounds, Ne.symm hz]) ⟨cA, .int, ht, by simp [Array.getElem?_setIfInBounds, hlt]; rfl⟩
  obtain ⟨t, a1, b1⟩ := kk p e s m args below meth c _ _ ls X hR (fun z hz => by
    rcases List.mem_append.mp hz with hz | hz
    · exact hl z hz
    · obtain ⟨y, -, hy⟩ := List.mem_map.mp hz
      rw [← hy]; exact Nat.le_add_right _ _) h _ hheap X'
  exact ⟨t, step t a1, b1⟩
end CPYI
section CPYJ
variable {g : sG} {M : sM} {R : Room} {Z : sZT} {pc : Nat} {lv : List (Nat × Value)} {st : List Value} {ce sl hn : Nat} {hf : Nat → sE}
theorem sv_copyJ {index a0 a n0 n1 : Nat} {cA : ClassId} {q q' : Nat → Int64} {sp dp n : Int32} (hd : decode M.2.1 pc = .ok (.invokestatic index, 3)) (hlk : Cond.methodLink M.1.cls index arraycopyName ∈ sg_ws g) (hw1 : Cond.native arraycopyName ∈ sg_ws g) (hw2 : Cond.static arraycopyName ∈ sg_ws g) (hw3 : Cond.initialized "java/lang/System" ∈ sg_ws g) (ht : g.2.2.1[1]? = some (cA, .long)) (ha0 : a0 < hn) (ha : a < hn) (he0 : hf a0 = .inl (1, n0, sJ q)) (he : hf a = .inl (1, n1, sJ q')) (h1 : ¬ sp < 0) (h2 : ¬ dp < 0) (h3 : ¬ n < 0) (h4 : sp.toNatClampNeg + n.toNatClampNeg ≤ n0) (h5 : dp.toNatClampNeg + n.toNatClampNeg ≤ n1) (hfr : 1 ≤ R.frames) (hlo : nativeFrameWords "java/lang/System" "arraycopy" 5 + 19 ≤ R.locals) (hr8 : (st.map fun v => v.category).sum ≤ 8)
    (kk : sV g M R Z (pc + 3) lv st (hn, sUp hf a (.inl (1, n1, sJ (va_cpy q q' sp.toNatClampNeg dp.toNatClampNeg n.toNatClampNeg)))) ce sl) : sV g M R Z pc lv (.int n :: .int dp :: .ref a :: .int sp :: .ref a0 :: st) (hn, hf) ce sl := by
  intro p e s m args below meth c H locs ls X r hl h
  obtain ⟨hx, hb, hr, hml, hown, hts, hK, hlk2, hlw, hnm⟩ := id X
  obtain ⟨hc0, -⟩ := sArr (hp := (hn, hf)) r hK ha0 he0 ht
  obtain ⟨hc1, -⟩ := sArr (hp := (hn, hf)) r hK ha he ht
  have nn : ∀ z : Int32, ¬ z < 0 → z.toInt = (z.toNatClampNeg : Int) := by
    intro z hz
    have hz0 : (0 : Int) ≤ z.toInt := by
      have := Int32.not_lt.mp hz
      simpa using Int32.le_iff_toInt_le.mp this
    show z.toInt = ((z.toInt.toNat : Nat) : Int)
    omega
  intro T hT X1
  obtain ⟨-, k0, hk0, cm0, hkk0⟩ := (hK.1.2 1 _ ht).1 n0 (fun j => .long (q j))
  have h8 := lv_room (m := m) (pc := pc) (ls := ls) (rest := (Value.int n :: .int dp :: .ref a :: .int sp :: .ref a0 :: st).map (rv (sg_r g))) (sRoom (b := sg_r g) hr8)
  obtain ⟨vm', X', step⟩ := X1.arraycopy hx hown (hts _ hlk) (hts _ hw1) (hts _ hw2) (hts _ hw3) (src := sg_b g + a0) (dst := sg_b g + a) (cs := arrV cA n0 (fun j => .long (q j))) (cd := arrV cA n1 (fun j => .long (q' j))) (srcPos := sp) (destPos := dp) (n := n) (by rw [hT]; exact hc0) (by rw [hT]; exact hc1)
    (fun _ h => by cases h) (fun _ h => by cases h) (fun h => by cases h) (fun h => by cases h) hk0 hk0 hkk0 hkk0 rfl h1 h2 h3
    (by rw [nn sp h1, nn n h3, arrV_size]; omega)
    (by rw [nn dp h2, nn n h3, arrV_size]; omega)
    (fun vm₁ _ i hi => by
      have e : (arrV cA n0 (fun j => .long (q j))).slots.getD (sp.toNatClampNeg + i) .null = .long (q (sp.toNatClampNeg + i)) := by
        rw [Array.getD_eq_getD_getElem?, arrV_read _ _ (by omega)]
        rfl
      refine ⟨?_, ?_⟩
      · rw [e]; rfl
      · rw [e]; exact trivial)
    (g := F0 m pc ls ((Value.int n :: .int dp :: .ref a :: .int sp :: .ref a0 :: st).map (rv (sg_r g)))) rfl (by rw [hml]; exact h.1) (rest := st.map (rv (sg_r g))) rfl (by rw [hb]; exact hd) hfr (by omega)
  have e1 : copied (arrV cA n0 (fun j => .long (q j))) (arrV cA n1 (fun j => .long (q' j))) sp dp n = arrV cA n1 (fun j => .long (va_cpy q q' sp.toNatClampNeg dp.toNatClampNeg n.toNatClampNeg j)) := va_copied (fun z => .long z) cA cA q q' h4
  rw [e1] at X' step
  have hlt : sg_b g + a < H.size := (Array.getElem?_eq_some_iff.mp hc1).1
  have hheap : ((T.setVm vm').setCell (sg_b g + a) (arrV cA n1 (fun j => .long (va_cpy q q' sp.toNatClampNeg dp.toNatClampNeg n.toNatClampNeg j)))).heap = H.setIfInBounds (sg_b g + a) (arrV cA n1 (fun j => .long (va_cpy q q' sp.toNatClampNeg dp.toNatClampNeg n.toNatClampNeg j))) := by rw [← hT]; rfl
  have hR : sR g (hn, sUp hf a (.inl (1, n1, sJ (va_cpy q q' sp.toNatClampNeg dp.toNatClampNeg n.toNatClampNeg)))) (H.setIfInBounds (sg_b g + a) (arrV cA n1 (fun j => .long (va_cpy q q' sp.toNatClampNeg dp.toNatClampNeg n.toNatClampNeg j)))) :=
    sR.put (hp := (hn, hf)) r (by simp) (fun z hz => by simp [Array.getElem?_setIfInBounds, Ne.symm hz]) ⟨cA, .long, ht, by simp [Array.getElem?_setIfInBounds, hlt]; rfl⟩
  obtain ⟨t, a1, b1⟩ := kk p e s m args below meth c _ _ ls X hR (fun z hz => by
    rcases List.mem_append.mp hz with hz | hz
    · exact hl z hz
    · obtain ⟨y, -, hy⟩ := List.mem_map.mp hz
      rw [← hy]; exact Nat.le_add_right _ _) h _ hheap X'
  exact ⟨t, step t a1, b1⟩
end CPYJ
section MMX
variable {g : sG} {M : sM} {R : Room} {Z : sZT} {pc : Nat} {lv : List (Nat × Value)} {st : List Value} {hp : sHp} {ce sl : Nat}
theorem sv_min {index : Nat} {x y v : Int32} (hd : decode M.2.1 pc = .ok (.invokestatic index, 3)) (hlk : Cond.methodLink M.1.cls index yJ_min ∈ sg_ws g) (hs : Cond.static yJ_min ∈ sg_ws g) (hi : Cond.initialized "java/lang/Math" ∈ sg_ws g) (hk : Cond.code yJ_min cJ_min 2 (some .int) ∈ sg_ws g) (hR : 1 ≤ R.frames ∧ 21 ≤ R.locals) (hc : ce ≤ R.cells ∧ sl ≤ R.slots) (hr8 : (st.map fun v => v.category).sum ≤ 8) (hv : (if y < x then y else x) = v) (kk : sV g M R Z (pc + 3) lv (.int v :: st) hp ce sl) : sV g M R Z pc lv (.int y :: .int x :: st) hp ce sl := by
  subst hv
  intro p e s m args below meth c H locs ls X r hl h
  obtain ⟨hx, hb, hr, hml, hown, hts, hK, hlk2, hlw, hnm⟩ := id X
  have h8 := sRoom (b := sg_r g) hr8
  have := hR.2
  exact va_mmin hx hb (by rw [hml]; exact h.1.symm) hown (hts _ hlk) (hts _ hs) (hts _ hi) (hts _ hk) hR.1 (by omega) hc.1 hc.2 hd (kk p e s m args below meth c H locs ls X r hl h)
theorem sv_max {index : Nat} {x y v : Int32} (hd : decode M.2.1 pc = .ok (.invokestatic index, 3)) (hlk : Cond.methodLink M.1.cls index yJ_max ∈ sg_ws g) (hs : Cond.static yJ_max ∈ sg_ws g) (hi : Cond.initialized "java/lang/Math" ∈ sg_ws g) (hk : Cond.code yJ_max cJ_max 2 (some .int) ∈ sg_ws g) (hR : 1 ≤ R.frames ∧ 21 ≤ R.locals) (hc : ce ≤ R.cells ∧ sl ≤ R.slots) (hr8 : (st.map fun v => v.category).sum ≤ 8) (hv : (if x < y then y else x) = v) (kk : sV g M R Z (pc + 3) lv (.int v :: st) hp ce sl) : sV g M R Z pc lv (.int y :: .int x :: st) hp ce sl := by
  subst hv
  intro p e s m args below meth c H locs ls X r hl h
  obtain ⟨hx, hb, hr, hml, hown, hts, hK, hlk2, hlw, hnm⟩ := id X
  have h8 := sRoom (b := sg_r g) hr8
  have := hR.2
  exact va_mmax hx hb (by rw [hml]; exact h.1.symm) hown (hts _ hlk) (hts _ hs) (hts _ hi) (hts _ hk) hR.1 (by omega) hc.1 hc.2 hd (kk p e s m args below meth c H locs ls X r hl h)
end MMX
section JDK2
variable {g : sG} {M : sM} {R : Room} {pc : Nat} {lv : List (Nat × Value)} {hp : sHp} {ce sl : Nat}
theorem sv_aretA {C S a : Nat} {Q : Option Value → sHp → Prop} {t0 : FieldType} (hd : decode M.2.1 pc = .ok (.areturn, 1)) (hret : M.2.2.2 = some (.array t0)) (hc : ce ≤ C) (hs : sl ≤ S) (hq : Q (some (.ref a)) hp) : sV g M R (sZ g C S Q) pc lv [.ref a] hp ce sl := by
  intro p e s m args below meth c H locs ls X r hl h
  obtain ⟨hx, hb, hr, hml, hown, hts, hK, hlk, hlw, hnm⟩ := id X
  exact W.widen hc hs (W.aret (v := .ref (sg_b g + a)) hx hb (hr.trans hret) (Or.inr ⟨_, rfl⟩) (Or.inr ⟨_, rfl⟩) (fun t ht hW => ⟨some (.ref a), hp, rfl, hq, by rw [ht]; exact r, hK.warm hW⟩) hl hd hlk)
end JDK2
section JDK3
variable (l : Launch) (D : va_G) (c : Nat → ClassId) (H0 : Heap) (sa : Nat × Nat × (Nat → Int32))
theorem c_cmp {d : Nat} {x y : Int32} {hp : sHp} : sC (gG l D c H0 sa) mJ_cmp d 0 0 [.int x, .int y] hp (fun r hp' => r = some (.int (if x < y then -1 else if x = y then 0 else 1)) ∧ hp' = hp) := by
  refine sC.of rfl (by decide) (le_t rfl) ?_
  refine sv_iload_n (pc := 0) dJ_cmp_0 rfl rfl ?_
  refine sv_iload_n (pc := 1) dJ_cmp_1 rfl rfl ?_
  refine sv_icmp_ge (pc := 2) (tgt := 9) dJ_cmp_2 (by decide) (fun h => ?_) (fun h => ?_)
  · refine sv_iload_n (pc := 9) dJ_cmp_9 rfl rfl ?_
    refine sv_iload_n (pc := 10) dJ_cmp_10 rfl rfl ?_
    refine sv_icmp_ne (pc := 11) (tgt := 18) dJ_cmp_11 (by decide) (fun h2 => ?_) (fun h2 => ?_)
    · refine sv_iconst (pc := 18) (v := 1) dJ_cmp_18 (by decide) ?_
      exact sv_iret (pc := 19) dJ_cmp_19 rfl (Nat.le_refl _) (Nat.le_refl _) ⟨by rw [if_neg (Int32.not_lt.mpr h), if_neg h2], rfl⟩
    · refine sv_iconst (pc := 14) (v := 0) dJ_cmp_14 (by decide) ?_
      refine sv_goto (pc := 15) (tgt := 19) dJ_cmp_15 (by decide) ?_
      exact sv_iret (pc := 19) dJ_cmp_19 rfl (Nat.le_refl _) (Nat.le_refl _) ⟨by rw [if_neg (Int32.not_lt.mpr h), if_pos h2], rfl⟩
  · refine sv_iconst (pc := 5) (v := -1) dJ_cmp_5 (by decide) ?_
    refine sv_goto (pc := 6) (tgt := 19) dJ_cmp_6 (by decide) ?_
    exact sv_iret (pc := 19) dJ_cmp_19 rfl (Nat.le_refl _) (Nat.le_refl _) ⟨by rw [if_pos (Int32.not_le.mp h)], rfl⟩
theorem c_copyI {d a n : Nat} {q : Nat → Int32} {x : Int32} {N hn : Nat} {hf : Nat → sE} (hd : 2 ≤ d) (ha : a < hn) (he : hf a = .inl (0, n, sI q)) (hx : x = nI N) (hN : N < n) (hn31 : n < 2 ^ 26) : sC (gG l D c H0 sa) mJ_copyI d 1 N [.ref a, .int x] (hn, hf) (fun r hp' => r = some (.ref hn) ∧ hp' = (hn + 1, sUp (sUp hf hn (.inl (0, N, fun _ => .int 0))) hn (.inl (0, N, sI (va_cpy q (fun _ => 0) 0 0 N))))) := by
  subst hx
  have hcl : (nI N).toNatClampNeg = N := nI_clamp (by omega)
  have hpo : ¬ nI N < 0 := nI_pos (by omega)
  refine sC.of rfl (by decide) (le_t rfl) ?_
  refine sv_iload_n (pc := 0) dJ_copyI_0 rfl rfl ?_
  refine sv_aload_n (pc := 1) dJ_copyI_1 rfl rfl ?_
  refine sv_arraylength (pc := 2) (kd := 0) (n := n) (f := sI q) (cA := c 0) (ty := .int) (v := nI n) dJ_copyI_2 rfl ha he rfl ?_
  refine sv_icmp_ne (pc := 3) (tgt := 14) dJ_copyI_3 (by decide) (fun _ => ?_) (fun h => absurd ((nI_eq (by omega) (by omega)).mp h) (by omega))
  refine sv_iload_n (pc := 14) dJ_copyI_14 rfl rfl ?_
  refine sv_newarray (pc := 15) (kd := 0) (cA := c 0) (N := N) (v := .int 0) dJ_copyI_15 rfl wA_int rfl (fun U => sI_Cond_int U _) hpo hcl (by show N * 4 ≤ _; omega) (fun _ => rfl) (Nat.le_refl _) (by show 0 + N ≤ N; omega) ?_
  refine sv_astore_n (pc := 17) dJ_copyI_17 rfl (by decide) ?_
  refine sv_aload_n (pc := 18) dJ_copyI_18 rfl rfl ?_
  refine sv_iconst (pc := 19) (v := 0) dJ_copyI_19 (by decide) ?_
  refine sv_aload_n (pc := 20) dJ_copyI_20 rfl rfl ?_
  refine sv_iconst (pc := 21) (v := 0) dJ_copyI_21 (by decide) ?_
  refine sv_aload_n (pc := 22) dJ_copyI_22 rfl rfl ?_
  have hne : a ≠ hn := by omega
  refine sv_arraylength (pc := 23) (kd := 0) (n := n) (f := sI q) (cA := c 0) (ty := .int) (v := nI n) dJ_copyI_23 rfl (show a < hn + 1 by omega) (by show sUp hf hn _ a = _; rw [sUp_ne _ _ hne]; exact he) rfl ?_
  refine sv_iload_n (pc := 24) dJ_copyI_24 rfl rfl ?_
  refine sv_min (pc := 25) (v := nI N) dJ_copyI_25 wM_J_304 wS_J_min wI_J_math wK_J_min ⟨by show 1 ≤ d; omega, by show 21 ≤ 60 * d; omega⟩ ⟨Nat.le_refl _, by show 0 + N ≤ N; omega⟩ (le_t rfl) (by rw [if_pos ((nI_ltI (by omega) (by omega)).mpr hN)]) ?_
  have hnf : nativeFrameWords "java/lang/System" "arraycopy" 5 + 19 ≤ 120 := by decide +kernel
  refine sv_copyI (pc := 28) (cA := c 0) (q := q) (q' := fun _ => 0) (n0 := n) (n1 := N) (a0 := a) (a := hn) dJ_copyI_28 wM_J_150 wN_J_ac wS_J_ac wI_J_sys rfl (by omega) (by omega) (by rw [sUp_ne _ _ hne]; exact he) (sUp_at _ _ _) (by decide) (by decide) hpo (by rw [hcl]; show 0 + N ≤ n; omega) (by rw [hcl]; show 0 + N ≤ N; omega) (by show 1 ≤ d; omega) (show _ ≤ 60 * d by omega) (le_t rfl) ?_
  rw [hcl]
  refine sv_aload_n (pc := 31) dJ_copyI_31 rfl rfl ?_
  exact sv_aretA (pc := 32) dJ_copyI_32 rfl (Nat.le_refl _) (by show 0 + N ≤ N; omega) ⟨rfl, rfl⟩
theorem c_copyJ {d a n : Nat} {q : Nat → Int64} {x : Int32} {N hn : Nat} {hf : Nat → sE} (hd : 2 ≤ d) (ha : a < hn) (he : hf a = .inl (1, n, sJ q)) (hx : x = nI N) (hN : N < n) (hn31 : n < 2 ^ 26) : sC (gG l D c H0 sa) mJ_copyJ d 1 N [.ref a, .int x] (hn, hf) (fun r hp' => r = some (.ref hn) ∧ hp' = (hn + 1, sUp (sUp hf hn (.inl (1, N, fun _ => .long 0))) hn (.inl (1, N, sJ (va_cpy q (fun _ => 0) 0 0 N))))) := by
  subst hx
  have hcl : (nI N).toNatClampNeg = N := nI_clamp (by omega)
  have hpo : ¬ nI N < 0 := nI_pos (by omega)
  refine sC.of rfl (by decide) (le_t rfl) ?_
  refine sv_iload_n (pc := 0) dJ_copyJ_0 rfl rfl ?_
  refine sv_aload_n (pc := 1) dJ_copyJ_1 rfl rfl ?_
  refine sv_arraylength (pc := 2) (kd := 1) (n := n) (f := sJ q) (cA := c 1) (ty := .long) (v := nI n) dJ_copyJ_2 rfl ha he rfl ?_
  refine sv_icmp_ne (pc := 3) (tgt := 14) dJ_copyJ_3 (by decide) (fun _ => ?_) (fun h => absurd ((nI_eq (by omega) (by omega)).mp h) (by omega))
  refine sv_iload_n (pc := 14) dJ_copyJ_14 rfl rfl ?_
  refine sv_newarray (pc := 15) (kd := 1) (cA := c 1) (N := N) (v := .long 0) dJ_copyJ_15 rfl wA_long rfl (fun U => sI_Cond_long U _) hpo hcl (by show N * 8 ≤ _; omega) (fun _ => rfl) (Nat.le_refl _) (by show 0 + N ≤ N; omega) ?_
  refine sv_astore_n (pc := 17) dJ_copyJ_17 rfl (by decide) ?_
  refine sv_aload_n (pc := 18) dJ_copyJ_18 rfl rfl ?_
  refine sv_iconst (pc := 19) (v := 0) dJ_copyJ_19 (by decide) ?_
  refine sv_aload_n (pc := 20) dJ_copyJ_20 rfl rfl ?_
  refine sv_iconst (pc := 21) (v := 0) dJ_copyJ_21 (by decide) ?_
  refine sv_aload_n (pc := 22) dJ_copyJ_22 rfl rfl ?_
  have hne : a ≠ hn := by omega
  refine sv_arraylength (pc := 23) (kd := 1) (n := n) (f := sJ q) (cA := c 1) (ty := .long) (v := nI n) dJ_copyJ_23 rfl (show a < hn + 1 by omega) (by show sUp hf hn _ a = _; rw [sUp_ne _ _ hne]; exact he) rfl ?_
  refine sv_iload_n (pc := 24) dJ_copyJ_24 rfl rfl ?_
  refine sv_min (pc := 25) (v := nI N) dJ_copyJ_25 wM_J_304 wS_J_min wI_J_math wK_J_min ⟨by show 1 ≤ d; omega, by show 21 ≤ 60 * d; omega⟩ ⟨Nat.le_refl _, by show 0 + N ≤ N; omega⟩ (le_t rfl) (by rw [if_pos ((nI_ltI (by omega) (by omega)).mpr hN)]) ?_
  have hnf : nativeFrameWords "java/lang/System" "arraycopy" 5 + 19 ≤ 120 := by decide +kernel
  refine sv_copyJ (pc := 28) (cA := c 1) (q := q) (q' := fun _ => 0) (n0 := n) (n1 := N) (a0 := a) (a := hn) dJ_copyJ_28 wM_J_150 wN_J_ac wS_J_ac wI_J_sys rfl (by omega) (by omega) (by rw [sUp_ne _ _ hne]; exact he) (sUp_at _ _ _) (by decide) (by decide) hpo (by rw [hcl]; show 0 + N ≤ n; omega) (by rw [hcl]; show 0 + N ≤ N; omega) (by show 1 ≤ d; omega) (show _ ≤ 60 * d by omega) (le_t rfl) ?_
  rw [hcl]
  refine sv_aload_n (pc := 31) dJ_copyJ_31 rfl rfl ?_
  exact sv_aretA (pc := 32) dJ_copyJ_32 rfl (Nat.le_refl _) (by show 0 + N ≤ N; omega) ⟨rfl, rfl⟩
theorem c_fillB_loop {d a n : Nat} {f : Nat → Value} {v : Int32} {hp : sHp} (ha : a < hp.1) (hn : n < 2 ^ 31) : ∀ (k i : Nat), i + k = n → ∀ (lv : List (Nat × Value)), sGet 0 lv = some (.ref a) → sGet 1 lv = some (.int v) → sGet 2 lv = some (.int (nI i)) → sGet 3 lv = some (.int (nI n)) →
    sV (gG l D c H0 sa) mJ_fillB (sRm d 0 0) (sZ (gG l D c H0 sa) 0 0 (fun r hp' => r = none ∧ hp' = (hp.1, sUp hp.2 a (.inl (2, n, sFill n (.int (vp_nar .byte v)) f))))) 5 lv [] (hp.1, sUp hp.2 a (.inl (2, n, sFill i (.int (vp_nar .byte v)) f))) 0 0 := by
  intro k
  induction k with
  | zero =>
    intro i hi lv h0 h1 h2 h3
    have : i = n := by omega
    subst this
    refine sv_iload_n dJ_fillB_5 rfl h2 ?_
    refine sv_iload_n dJ_fillB_6 rfl h3 ?_
    refine sv_icmp_ge (tgt := 20) dJ_fillB_7 (by decide) (fun _ => ?_) (fun h => absurd (Int32.le_refl _) h)
    exact sv_vret dJ_fillB_20 rfl (Nat.le_refl _) (Nat.le_refl _) ⟨rfl, rfl⟩
  | succ k ih =>
    intro i hi lv h0 h1 h2 h3
    have hin : i < n := by omega
    refine sv_iload_n dJ_fillB_5 rfl h2 ?_
    refine sv_iload_n dJ_fillB_6 rfl h3 ?_
    refine sv_icmp_ge (tgt := 20) dJ_fillB_7 (by decide) (fun h => absurd h (nI_ge hin hn)) (fun _ => ?_)
    refine sv_aload_n dJ_fillB_10 rfl h0 ?_
    refine sv_iload_n dJ_fillB_11 rfl h2 ?_
    refine sv_iload_n dJ_fillB_12 rfl h1 ?_
    refine sv_bastore (kd := 2) (cA := c 2) (n := n) (f := sFill i (.int (vp_nar .byte v)) f) dJ_fillB_13 rfl ha (sUp_at _ _ _) (vp_in_nI hin hn) ?_
    rw [nI_clamp (show i < 2 ^ 31 by omega), sFill_up]
    refine sv_iincK (k := 1) dJ_fillB_14 (by decide) h2 (by decide) ?_
    refine sv_goto (tgt := 5) dJ_fillB_17 (by decide) ?_
    show sV _ _ _ _ _ _ _ (hp.1, sUp (sUp hp.2 a (.inl (2, n, sFill i (.int (vp_nar .byte v)) f))) a (.inl (2, n, sFill (i + 1) (.int (vp_nar .byte v)) f))) _ _
    rw [sUp_sUp, nI_1]
    exact ih (i + 1) (by omega) _ (sGet_keep h0 (by decide)) (sGet_keep h1 (by decide)) sGet_new (sGet_keep h3 (by decide))
theorem c_fillB {d a n : Nat} {f : Nat → Value} {v : Int32} {hp : sHp} (ha : a < hp.1) (he : hp.2 a = .inl (2, n, f)) (hn : n < 2 ^ 31) : sC (gG l D c H0 sa) mJ_fillB d 0 0 [.ref a, .int v] hp (fun r hp' => r = none ∧ hp' = (hp.1, sUp hp.2 a (.inl (2, n, sFill n (.int (vp_nar .byte v)) f)))) := by
  refine sC.of rfl (by decide) (le_t rfl) ?_
  refine sv_iconst (v := 0) dJ_fillB_0 (by decide) ?_
  refine sv_istore_n dJ_fillB_1 rfl (by decide) ?_
  refine sv_aload_n dJ_fillB_2 rfl rfl ?_
  refine sv_arraylength (cA := c 2) (ty := .byte) dJ_fillB_3 rfl ha he rfl ?_
  refine sv_istore_n dJ_fillB_4 rfl (by decide) ?_
  refine sv_heap (hp' := (hp.1, sUp hp.2 a (.inl (2, n, sFill 0 (.int (vp_nar .byte v)) f)))) rfl (fun j _ => ?_) (c_fillB_loop l D c H0 sa ha hn n 0 (by omega) _ rfl rfl rfl rfl)
  show hp.2 j = sUp hp.2 a _ j
  rw [sFill_0]
  by_cases h : j = a
  · subst h; rw [sUp_at]; exact he
  · rw [sUp_ne _ _ h]
end JDK3
end
section
/-! The String of the words: its length, its signs. -/
section STRJ
variable {g : sG} {M M' : sM} {R : Room} {Z : sZT} {d' C' S' : Nat} {Q' : Option Value → sHp → Prop} {pc : Nat} {lv : List (Nat × Value)} {st st0 av : List Value} {hp : sHp} {ce sl : Nat}
theorem sStg.heap {H : Heap} {q : Nat} {cell : Cell} (r : sR g hp H) (h : g.2.2.2.1[q]? = some cell) : H[q]? = some cell := by rw [r.2.2 _ (Array.getElem?_eq_some_iff.mp h).1]; exact h
theorem sv_i2c {x v : Int32} (hd : decode M.2.1 pc = .ok (.i2c, 1)) (hv : (x.toUInt32 % 65536).toInt32 = v) (k : sV g M R Z (pc + 1) lv (.int v :: st) hp ce sl) : sV g M R Z (pc) lv (.int x :: st) hp ce sl := fun p e s m args below meth c H locs ls X r hl h => lv_i2c X.1 X.2.1 hd hv (k p e s m args below meth c H locs ls X r hl h)
theorem sv_ldcS (hM : M.1.cls = "DomainHouse$Reader") (hd : decode M.2.1 pc = .ok (.ldc 105, 2)) (k : sV g M R Z (pc + 2) lv (.retAddr (sg_q g + 1) :: st) hp ce sl) : sV g M R Z pc lv st hp ce sl := by
  intro p e s m args below meth c H locs ls X r hl h
  obtain ⟨⟨tx, hz⟩, -⟩ := X.2.2.2.2.2.2.1.2.2.2
  exact va_ldcS X.1 X.2.1 (by rw [← hM]; exact X.2.2.2.2.1) hz hd (k p e s m args below meth c H locs ls X r hl h)
theorem sv_getSv {index : Nat} (hd : decode M.2.1 pc = .ok (.getfield index, 3)) (hlk : Cond.fieldLink M.1.cls index "java/lang/String" "value" "[B" ∈ sg_ws g) (k : sV g M R Z (pc + 3) lv (.retAddr (sg_v g + 1) :: st) hp ce sl) : sV g M R Z pc lv (.retAddr (sg_q g + 1) :: st) hp ce sl := by
  intro p e s m args below meth c H locs ls X r hl h
  obtain ⟨-, -, -, ⟨cf, kf, fi, f, cell, h1, h2, h3, h4, h5, h6⟩, -⟩ := X.2.2.2.2.2.2.1.2.2.2
  exact W.getf X.1 X.2.1 X.2.2.2.2.1 (X.2.2.2.2.2.1 _ hlk) h1 h2 (sStg.heap r h3) h4 (v := .ref (sg_v g)) h5 rfl rfl hd (k p e s m args below meth c H locs ls X r hl h)
theorem sv_getSc {index : Nat} (hd : decode M.2.1 pc = .ok (.getfield index, 3)) (hlk : Cond.fieldLink M.1.cls index "java/lang/String" "coder" "B" ∈ sg_ws g) (k : sV g M R Z (pc + 3) lv (.int 0 :: st) hp ce sl) : sV g M R Z pc lv (.retAddr (sg_q g + 1) :: st) hp ce sl := by
  intro p e s m args below meth c H locs ls X r hl h
  obtain ⟨-, -, ⟨cf, kf, fi, f, cell, h1, h2, h3, h4, h5, h6⟩, -⟩ := X.2.2.2.2.2.2.1.2.2.2
  exact W.getf X.1 X.2.1 X.2.2.2.2.1 (X.2.2.2.2.2.1 _ hlk) h1 h2 (sStg.heap r h3) h4 (v := .int 0) h5 rfl rfl hd (k p e s m args below meth c H locs ls X r hl h)
theorem sv_lenS (hd : decode M.2.1 pc = .ok (.arraylength, 1)) (k : sV g M R Z (pc + 1) lv (.int 147 :: st) hp ce sl) : sV g M R Z pc lv (.retAddr (sg_v g + 1) :: st) hp ce sl := by
  intro p e s m args below meth c H locs ls X r hl h
  obtain ⟨-, -, -, -, ⟨cell, h1, h2, h3, h4, h5, h6, h7⟩, -⟩ := X.2.2.2.2.2.2.1.2.2.2
  exact W.alen (n := 147) X.1 X.2.1 (sStg.heap r h1) h2 (by rw [h5]; rfl) rfl rfl hd (k p e s m args below meth c H locs ls X r hl h)
theorem sv_balS {i : Int32} (hd : decode M.2.1 pc = .ok (.baload, 1)) (hin : vp_in i 147) (k : sV g M R Z (pc + 1) lv (.int (wsF i.toNatClampNeg) :: st) hp ce sl) : sV g M R Z pc lv (.int i :: .retAddr (sg_v g + 1) :: st) hp ce sl := by
  intro p e s m args below meth c H locs ls X r hl h
  obtain ⟨-, -, -, -, ⟨cell, h1, h2, h3, h4, h5, h6, h7⟩, -⟩ := X.2.2.2.2.2.2.1.2.2.2
  have hlt : i.toNatClampNeg < 147 := Nat.not_le.mp fun q => hin (Or.inr q)
  exact W.bald (v := .int (wsF i.toNatClampNeg)) X.1 X.2.1 (sStg.heap r h1) h2 h3 (fun q => hin (q.imp id (fun z => by omega))) (h6 _ hlt) rfl rfl hd (k p e s m args below meth c H locs ls X r hl h)
theorem sv_gstC {index : Nat} (hd : decode M.2.1 pc = .ok (.getstatic index, 3)) (hlk : Cond.fieldLink M.1.cls index "java/lang/String" "COMPACT_STRINGS" "Z" ∈ sg_ws g) (k : sV g M R Z (pc + 3) lv (.int 1 :: st) hp ce sl) : sV g M R Z pc lv st hp ce sl := by
  intro p e s m args below meth c H locs ls X r hl h
  obtain ⟨-, -, -, -, -, ⟨cf, kf, fi, f, a, cell, h1, h2, h3, h4, h5, h6, h7, h8⟩, -⟩ := X.2.2.2.2.2.2.1.2.2.2
  exact W.gets X.1 X.2.1 X.2.2.2.2.1 (X.2.2.2.2.2.1 _ hlk) h1 h2 h3 h4 (sStg.heap r h5) (fun e => by rw [e] at h6; cases h6) h7 rfl hd (k p e s m args below meth c H locs ls X r hl h)
theorem sv_gstF {index : Nat} (hd : decode M.2.1 pc = .ok (.getstatic index, 3)) (hlk : Cond.fieldLink M.1.cls index "jdk/internal/util/Preconditions" "SIOOBE_FORMATTER" "Ljava/util/function/BiFunction;" ∈ sg_ws g) (k : sV g M R Z (pc + 3) lv (sg_f g :: st) hp ce sl) : sV g M R Z pc lv st hp ce sl := by
  intro p e s m args below meth c H locs ls X r hl h
  obtain ⟨-, -, -, -, -, -, ⟨cf, kf, fi, f, a, cell, h1, h2, h3, h4, h5, h6, h7, h8⟩, -⟩ := X.2.2.2.2.2.2.1.2.2.2
  exact W.gets X.1 X.2.1 X.2.2.2.2.1 (X.2.2.2.2.2.1 _ hlk) h1 h2 h3 h4 (sStg.heap r h5) (fun e => by rw [e] at h6; cases h6) h7 rfl hd (k p e s m args below meth c H locs ls X r hl h)
theorem sv_callVS {index : Nat} (hct : sC g M' d' C' S' (.retAddr (sg_q g + 1) :: av) hp Q') (ho : sOk g) (hd : decode M.2.1 pc = .ok (.invokevirtual index, 3)) (hm : sMt g M' av.length) (hi : Cond.instanceMethod M'.1 ∈ sg_ws g ∧ Cond.selects M'.1.cls M'.1 M'.1 ∈ sg_ws g) (hlk : Cond.methodLink M.1.cls index M'.1 ∈ sg_ws g) (hT : "java/lang/String" = M'.1.cls) (hR : d' + 1 ≤ R.frames ∧ 60 * d' + M'.2.2.1 + 19 ≤ R.locals) (hf : ce + C' ≤ R.cells ∧ sl + S' ≤ R.slots) (hs : st0 = av.reverse ++ .retAddr (sg_q g + 1) :: st) (hr8 : (st.map fun v => v.category).sum ≤ 8)
    (kk : ∀ (r : Option Value) (hp' : sHp), Q' r hp' → sV g M R Z (pc + 3) lv (r.toList ++ st) hp' (ce + C') (sl + S')) : sV g M R Z pc lv st0 hp ce sl := by
  subst hs
  intro p e s m args below meth c H locs ls X r hl h
  obtain ⟨hx, hb, hr, hml, hown, hts, hK, hlk2, hlw, hnm⟩ := id X
  obtain ⟨-, ⟨cell, h1, h2, h3, -⟩, -⟩ := hK.2.2.2
  have hrun := va_runV (g := F0 m pc ls ((av.reverse ++ .retAddr (sg_q g + 1) :: st).map (rv (sg_r g)))) (b := sg_q g) (As := av.map (rv (sg_r g))) (rest := st.map (rv (sg_r g))) (H := H) (locs := locs) (cells := ce) (slots := sl) (below := below) (meth := meth) (e := e) ⟨hx, hb, hml, hown, hts⟩ hct
    (⟨callB_of av.length hts (sGood ho hm.1) rfl rfl rfl (hts _ hm.2.1) (hts _ hlk) hm.2.2 ⟨hR.1, by show 8 + (M'.2.2.1 + 11) + 60 * d' ≤ R.locals; omega⟩, hts _ hi.1, hts _ hi.2⟩ : CallW R s args M.1.cls M'.1.cls index M'.1 M'.2.1 M'.2.2.1 M'.2.2.2 (sWs g M') (sRm d' C' S') C' S' av.length)
    ⟨sBlind, ⟨cell, sStg.heap r h1, h2, by rw [← hT]; exact h3⟩, fun U hU hW => ⟨rfl, by rw [hU]; exact r, hK.warm hW⟩⟩ rfl (by simp) h.1 (by simp [rv, rvF]) (lv_room (sRoom hr8)) hd hf
  exact sGo hrun X hl h kk
end STRJ
def yJ_slen : MethodName := ⟨"java/lang/String", "length", "()I"⟩
abbrev cJ_slen : ByteArray := prog_18_method_54_code
abbrev mJ_slen : sM := (yJ_slen, cJ_slen, 1, (some .int))
theorem wK_J_slen : Cond.code yJ_slen cJ_slen 1 (some .int) ∈ lw_ok := lw_i5 40 rfl rfl
theorem tJ_slen (l : Launch) (D : va_G) (c : Nat → ClassId) (H0 : Heap) (sa : Nat × Nat × (Nat → Int32)) : sMt (gG l D c H0 sa) mJ_slen 0 := ⟨wK_J_slen, lw_i1 17 rfl rfl, by decide +kernel⟩
def yJ_scod : MethodName := ⟨"java/lang/String", "coder", "()B"⟩
abbrev cJ_scod : ByteArray := prog_18_method_152_code
abbrev mJ_scod : sM := (yJ_scod, cJ_scod, 1, (some .byte))
theorem wK_J_scod : Cond.code yJ_scod cJ_scod 1 (some .byte) ∈ lw_ok := lw_i5 44 rfl rfl
theorem tJ_scod (l : Launch) (D : va_G) (c : Nat → ClassId) (H0 : Heap) (sa : Nat × Nat × (Nat → Int32)) : sMt (gG l D c H0 sa) mJ_scod 0 := ⟨wK_J_scod, lw_i1 17 rfl rfl, by decide +kernel⟩
def yJ_schr : MethodName := ⟨"java/lang/String", "charAt", "(I)C"⟩
abbrev cJ_schr : ByteArray := prog_18_method_56_code
abbrev mJ_schr : sM := (yJ_schr, cJ_schr, 2, (some .char))
theorem wK_J_schr : Cond.code yJ_schr cJ_schr 2 (some .char) ∈ lw_ok := lw_i5 50 rfl rfl
theorem tJ_schr (l : Launch) (D : va_G) (c : Nat → ClassId) (H0 : Heap) (sa : Nat × Nat × (Nat → Int32)) : sMt (gG l D c H0 sa) mJ_schr 1 := ⟨wK_J_schr, lw_i1 17 rfl rfl, by decide +kernel⟩
def yJ_slat : MethodName := ⟨"java/lang/String", "isLatin1", "()Z"⟩
abbrev cJ_slat : ByteArray := prog_18_method_154_code
abbrev mJ_slat : sM := (yJ_slat, cJ_slat, 1, (some .boolean))
theorem wK_J_slat : Cond.code yJ_slat cJ_slat 1 (some .boolean) ∈ lw_ok := lw_i5 54 rfl rfl
theorem tJ_slat (l : Launch) (D : va_G) (c : Nat → ClassId) (H0 : Heap) (sa : Nat × Nat × (Nat → Int32)) : sMt (gG l D c H0 sa) mJ_slat 0 := ⟨wK_J_slat, lw_i1 17 rfl rfl, by decide +kernel⟩
def yJ_lchr : MethodName := ⟨"java/lang/StringLatin1", "charAt", "([BI)C"⟩
abbrev cJ_lchr : ByteArray := prog_19_method_2_code
abbrev mJ_lchr : sM := (yJ_lchr, cJ_lchr, 2, (some .char))
theorem wK_J_lchr : Cond.code yJ_lchr cJ_lchr 2 (some .char) ∈ lw_ok := lw_i5 57 rfl rfl
theorem tJ_lchr (l : Launch) (D : va_G) (c : Nat → ClassId) (H0 : Heap) (sa : Nat × Nat × (Nat → Int32)) : sMt (gG l D c H0 sa) mJ_lchr 2 := ⟨wK_J_lchr, lw_i1 18 rfl rfl, by decide +kernel⟩
def yJ_schk : MethodName := ⟨"java/lang/String", "checkIndex", "(II)V"⟩
abbrev cJ_schk : ByteArray := prog_18_method_155_code
abbrev mJ_schk : sM := (yJ_schk, cJ_schk, 2, none)
theorem wK_J_schk : Cond.code yJ_schk cJ_schk 2 none ∈ lw_ok := lw_i5 60 rfl rfl
theorem tJ_schk (l : Launch) (D : va_G) (c : Nat → ClassId) (H0 : Heap) (sa : Nat × Nat × (Nat → Int32)) : sMt (gG l D c H0 sa) mJ_schk 2 := ⟨wK_J_schk, lw_i1 17 rfl rfl, by decide +kernel⟩
def yJ_pchk : MethodName := ⟨"jdk/internal/util/Preconditions", "checkIndex", "(IILjava/util/function/BiFunction;)I"⟩
abbrev cJ_pchk : ByteArray := prog_23_method_11_code
abbrev mJ_pchk : sM := (yJ_pchk, cJ_pchk, 3, (some .int))
theorem wK_J_pchk : Cond.code yJ_pchk cJ_pchk 3 (some .int) ∈ lw_ok := lw_i5 65 rfl rfl
theorem tJ_pchk (l : Launch) (D : va_G) (c : Nat → ClassId) (H0 : Heap) (sa : Nat × Nat × (Nat → Int32)) : sMt (gG l D c H0 sa) mJ_pchk 3 := ⟨wK_J_pchk, lw_i1 19 rfl rfl, by decide +kernel⟩
theorem wF_J_38 : Cond.fieldLink "java/lang/String" 38 "java/lang/String" "COMPACT_STRINGS" "Z" ∈ lw_ok := lw_i5 45 rfl rfl
theorem wF_J_1053 : Cond.fieldLink "java/lang/String" 1053 "jdk/internal/util/Preconditions" "SIOOBE_FORMATTER" "Ljava/util/function/BiFunction;" ∈ lw_ok := lw_i5 61 rfl rfl
theorem wF_J_9 : Cond.fieldLink "java/lang/String" 9 "java/lang/String" "value" "[B" ∈ lw_ok := lw_i11 190 rfl rfl
theorem wF_J_15 : Cond.fieldLink "java/lang/String" 15 "java/lang/String" "coder" "B" ∈ lw_ok := lw_i11 191 rfl rfl
theorem dJ_slen_0 : decode cJ_slen 0 = .ok (.aload_n 0, 1) := by decide +kernel
theorem dJ_slen_1 : decode cJ_slen 1 = .ok (.getfield 9, 3) := by decide +kernel
theorem dJ_slen_4 : decode cJ_slen 4 = .ok (.arraylength, 1) := by decide +kernel
theorem dJ_slen_5 : decode cJ_slen 5 = .ok (.aload_n 0, 1) := by decide +kernel
theorem dJ_slen_6 : decode cJ_slen 6 = .ok (.invokevirtual 335, 3) := by decide +kernel
theorem dJ_slen_9 : decode cJ_slen 9 = .ok (.ishr, 1) := by decide +kernel
theorem dJ_slen_10 : decode cJ_slen 10 = .ok (.ireturn, 1) := by decide +kernel
theorem dJ_scod_0 : decode cJ_scod 0 = .ok (.getstatic 38, 3) := by decide +kernel
theorem dJ_scod_3 : decode cJ_scod 3 = .ok (.ifCond .eq 10, 3) := by decide +kernel
theorem dJ_scod_6 : decode cJ_scod 6 = .ok (.aload_n 0, 1) := by decide +kernel
theorem dJ_scod_7 : decode cJ_scod 7 = .ok (.getfield 15, 3) := by decide +kernel
theorem dJ_scod_10 : decode cJ_scod 10 = .ok (.goto 4, 3) := by decide +kernel
theorem dJ_scod_14 : decode cJ_scod 14 = .ok (.ireturn, 1) := by decide +kernel
theorem dJ_schr_0 : decode cJ_schr 0 = .ok (.aload_n 0, 1) := by decide +kernel
theorem dJ_schr_1 : decode cJ_schr 1 = .ok (.invokevirtual 492, 3) := by decide +kernel
theorem dJ_schr_4 : decode cJ_schr 4 = .ok (.ifCond .eq 12, 3) := by decide +kernel
theorem dJ_schr_7 : decode cJ_schr 7 = .ok (.aload_n 0, 1) := by decide +kernel
theorem dJ_schr_8 : decode cJ_schr 8 = .ok (.getfield 9, 3) := by decide +kernel
theorem dJ_schr_11 : decode cJ_schr 11 = .ok (.iload_n 1, 1) := by decide +kernel
theorem dJ_schr_12 : decode cJ_schr 12 = .ok (.invokestatic 495, 3) := by decide +kernel
theorem dJ_schr_15 : decode cJ_schr 15 = .ok (.ireturn, 1) := by decide +kernel
theorem dJ_slat_0 : decode cJ_slat 0 = .ok (.getstatic 38, 3) := by decide +kernel
theorem dJ_slat_3 : decode cJ_slat 3 = .ok (.ifCond .eq 14, 3) := by decide +kernel
theorem dJ_slat_6 : decode cJ_slat 6 = .ok (.aload_n 0, 1) := by decide +kernel
theorem dJ_slat_7 : decode cJ_slat 7 = .ok (.getfield 15, 3) := by decide +kernel
theorem dJ_slat_10 : decode cJ_slat 10 = .ok (.ifCond .ne 7, 3) := by decide +kernel
theorem dJ_slat_13 : decode cJ_slat 13 = .ok (.iconst 1, 1) := by decide +kernel
theorem dJ_slat_14 : decode cJ_slat 14 = .ok (.goto 4, 3) := by decide +kernel
theorem dJ_slat_18 : decode cJ_slat 18 = .ok (.ireturn, 1) := by decide +kernel
theorem dJ_lchr_0 : decode cJ_lchr 0 = .ok (.iload_n 1, 1) := by decide +kernel
theorem dJ_lchr_1 : decode cJ_lchr 1 = .ok (.aload_n 0, 1) := by decide +kernel
theorem dJ_lchr_2 : decode cJ_lchr 2 = .ok (.arraylength, 1) := by decide +kernel
theorem dJ_lchr_3 : decode cJ_lchr 3 = .ok (.invokestatic 9, 3) := by decide +kernel
theorem dJ_lchr_6 : decode cJ_lchr 6 = .ok (.aload_n 0, 1) := by decide +kernel
theorem dJ_lchr_7 : decode cJ_lchr 7 = .ok (.iload_n 1, 1) := by decide +kernel
theorem dJ_lchr_8 : decode cJ_lchr 8 = .ok (.baload, 1) := by decide +kernel
theorem dJ_lchr_9 : decode cJ_lchr 9 = .ok (.sipush 255, 3) := by decide +kernel
theorem dJ_lchr_12 : decode cJ_lchr 12 = .ok (.iand, 1) := by decide +kernel
theorem dJ_lchr_13 : decode cJ_lchr 13 = .ok (.i2c, 1) := by decide +kernel
theorem dJ_lchr_14 : decode cJ_lchr 14 = .ok (.ireturn, 1) := by decide +kernel
theorem dJ_schk_0 : decode cJ_schk 0 = .ok (.iload_n 0, 1) := by decide +kernel
theorem dJ_schk_1 : decode cJ_schk 1 = .ok (.iload_n 1, 1) := by decide +kernel
theorem dJ_schk_2 : decode cJ_schk 2 = .ok (.getstatic 1053, 3) := by decide +kernel
theorem dJ_schk_5 : decode cJ_schk 5 = .ok (.invokestatic 1059, 3) := by decide +kernel
theorem dJ_schk_8 : decode cJ_schk 8 = .ok (.pop, 1) := by decide +kernel
theorem dJ_schk_9 : decode cJ_schk 9 = .ok (.return_, 1) := by decide +kernel
theorem dJ_pchk_0 : decode cJ_pchk 0 = .ok (.iload_n 0, 1) := by decide +kernel
theorem dJ_pchk_1 : decode cJ_pchk 1 = .ok (.ifCond .lt 8, 3) := by decide +kernel
theorem dJ_pchk_4 : decode cJ_pchk 4 = .ok (.iload_n 0, 1) := by decide +kernel
theorem dJ_pchk_5 : decode cJ_pchk 5 = .ok (.iload_n 1, 1) := by decide +kernel
theorem dJ_pchk_6 : decode cJ_pchk 6 = .ok (.if_icmp .lt 10, 3) := by decide +kernel
theorem dJ_pchk_16 : decode cJ_pchk 16 = .ok (.iload_n 0, 1) := by decide +kernel
theorem dJ_pchk_17 : decode cJ_pchk 17 = .ok (.ireturn, 1) := by decide +kernel
theorem str_c (z : Nat) (hz : z < 256) : ((nI z).toUInt32 % 65536).toInt32 = nI z := by
  have h : ∀ z : Fin 256, ((nI z.val).toUInt32 % 65536).toInt32 = nI z.val := by decide +kernel
  exact h ⟨z, hz⟩
section STRC
variable {l : Launch} {D : va_G} {c : Nat → ClassId} {H0 : Heap} {sa : Nat × Nat × (Nat → Int32)} {hp : sHp} {d : Nat}
theorem c_pchk {x y : Int32} {f : Nat} (hd : 1 ≤ d) (h0 : ¬ x < 0) (h1 : x < y) : sC (gG l D c H0 sa) mJ_pchk d 0 0 [.int x, .int y, sg_fk f] hp (fun r hp' => r = some (.int x) ∧ hp' = hp) := by
  refine sC.of rfl (by decide) (by cases f <;> exact le_t rfl) ?_
  have e : lv_args 0 [Value.int x, .int y, sg_fk f] = [(0, .int x), (1, .int y), (2, sg_fk f)] := rfl
  rw [e]
  refine sv_iload_n (pc := 0) dJ_pchk_0 rfl rfl ?_
  refine sv_if_lt (pc := 1) (tgt := 9) dJ_pchk_1 (by decide) (fun h => absurd h h0) (fun _ => ?_)
  refine sv_iload_n (pc := 4) dJ_pchk_4 rfl rfl ?_
  refine sv_iload_n (pc := 5) dJ_pchk_5 rfl rfl ?_
  refine sv_icmp_lt (pc := 6) (tgt := 16) dJ_pchk_6 (by decide) (fun _ => ?_) (fun h => absurd h1 h)
  refine sv_iload_n (pc := 16) dJ_pchk_16 rfl rfl ?_
  exact sv_iret (pc := 17) dJ_pchk_17 rfl (Nat.le_refl _) (Nat.le_refl _) ⟨rfl, rfl⟩
theorem c_schk {x y : Int32} (hd : 3 ≤ d) (h0 : ¬ x < 0) (h1 : x < y) : sC (gG l D c H0 sa) mJ_schk d 0 0 [.int x, .int y] hp (fun r hp' => r = none ∧ hp' = hp) := by
  refine sC.of rfl (by decide) (le_t rfl) ?_
  refine sv_iload_n (pc := 0) dJ_schk_0 rfl rfl ?_
  refine sv_iload_n (pc := 1) dJ_schk_1 rfl rfl ?_
  refine sv_gstF (pc := 2) dJ_schk_2 wF_J_1053 ?_
  refine sv_callS (pc := 5) (d' := 1) (av := [.int x, .int y, sg_fk _]) (st := []) (c_pchk (Nat.le_refl _) h0 h1) (gOk l D c H0 sa) dJ_schk_5 (tJ_pchk l D c H0 sa) wS_Preconditions_checkIndex__IILjava_util_function_BiFunction__I wM_String_1059 ⟨by show 1 + 1 ≤ d; omega, by show 60 * 1 + 3 + 19 ≤ 60 * d; omega⟩ ⟨Nat.le_refl _, Nat.le_refl _⟩ rfl (le_t rfl) ?_
  rintro r hp' ⟨rfl, rfl⟩
  refine sv_pop (pc := 8) (st := []) dJ_schk_8 rfl ?_
  exact sv_vret (pc := 9) dJ_schk_9 rfl (Nat.le_refl _) (Nat.le_refl _) ⟨rfl, rfl⟩
theorem ws_and : ∀ j : Fin 147, wsF j.val &&& 255 = nI (wsN.getD j.val 0) ∧ wsN.getD j.val 0 < 256 := by decide +kernel
theorem c_lchr {x : Int32} (hd : 5 ≤ d) (h0 : ¬ x < 0) (h1 : x < 147) : sC (gG l D c H0 sa) mJ_lchr d 0 0 [.retAddr (sg_v (gG l D c H0 sa) + 1), .int x] hp (fun r hp' => r = some (.int (nI (wsN.getD x.toNatClampNeg 0))) ∧ hp' = hp) := by
  refine sC.of rfl (by decide) (le_t rfl) ?_
  refine sv_iload_n (pc := 0) dJ_lchr_0 rfl rfl ?_
  refine sv_aload_nS (pc := 1) dJ_lchr_1 rfl rfl ?_
  refine sv_lenS (pc := 2) dJ_lchr_2 ?_
  refine sv_callS (pc := 3) (d' := 3) (av := [.int x, .int 147]) (st := []) (c_schk (Nat.le_refl _) h0 h1) (gOk l D c H0 sa) dJ_lchr_3 (tJ_schk l D c H0 sa) wS_String_checkIndex__II_V wM_StringLatin1_9 ⟨by show 3 + 1 ≤ d; omega, by show 60 * 3 + 2 + 19 ≤ 60 * d; omega⟩ ⟨Nat.le_refl _, Nat.le_refl _⟩ rfl (le_t rfl) ?_
  rintro r hp' ⟨rfl, rfl⟩
  refine sv_aload_nS (pc := 6) (st := []) dJ_lchr_6 rfl rfl ?_
  refine sv_iload_n (pc := 7) dJ_lchr_7 rfl rfl ?_
  have hx : x.toNatClampNeg < 147 := by
    have a : ¬ x.toInt < 0 := fun z => h0 (Int32.lt_iff_toInt_lt.mpr z)
    have b : x.toInt < 147 := Int32.lt_iff_toInt_lt.mp h1
    show x.toInt.toNat < 147
    omega
  refine sv_balS (pc := 8) dJ_lchr_8 (fun q => q.elim h0 (fun z => absurd hx (by omega))) ?_
  refine sv_sipush (pc := 9) (v := 255) dJ_lchr_9 (by decide) ?_
  refine sv_iand (pc := 12) dJ_lchr_12 ?_
  obtain ⟨z, hz, ez⟩ := pk_andE (wsF x.toNatClampNeg) (m := 255) 8 (by decide)
  rw [ez]
  have en : nI z = nI (wsN.getD x.toNatClampNeg 0) := by
    rw [← ez]; exact (ws_and ⟨x.toNatClampNeg, hx⟩).1
  rw [en]
  have hz := (ws_and ⟨x.toNatClampNeg, hx⟩).2
  generalize wsN.getD x.toNatClampNeg 0 = z at hz ⊢
  refine sv_i2c (pc := 13) (v := nI z) dJ_lchr_13 (str_c z (by omega)) ?_
  exact sv_zret (pc := 14) (ty := .char) dJ_lchr_14 rfl (pk_charN (q := z) (by omega)).1 (Nat.le_refl _) (Nat.le_refl _) ⟨rfl, rfl⟩
theorem c_scod (hd : 1 ≤ d) : sC (gG l D c H0 sa) mJ_scod d 0 0 [.retAddr (sg_q (gG l D c H0 sa) + 1)] hp (fun r hp' => r = some (.int 0) ∧ hp' = hp) := by
  refine sC.of rfl (by decide) (le_t rfl) ?_
  refine sv_gstC (pc := 0) dJ_scod_0 wF_J_38 ?_
  refine sv_if_eq (pc := 3) (tgt := 13) dJ_scod_3 (by decide) (fun h => absurd h (by decide)) (fun _ => ?_)
  refine sv_aload_nS (pc := 6) dJ_scod_6 rfl rfl ?_
  refine sv_getSc (pc := 7) dJ_scod_7 wF_J_15 ?_
  refine sv_goto (pc := 10) (tgt := 14) dJ_scod_10 (by decide) ?_
  exact sv_zret (pc := 14) (ty := .byte) dJ_scod_14 rfl rfl (Nat.le_refl _) (Nat.le_refl _) ⟨rfl, rfl⟩
theorem c_slat (hd : 1 ≤ d) : sC (gG l D c H0 sa) mJ_slat d 0 0 [.retAddr (sg_q (gG l D c H0 sa) + 1)] hp (fun r hp' => r = some (.int 1) ∧ hp' = hp) := by
  refine sC.of rfl (by decide) (le_t rfl) ?_
  refine sv_gstC (pc := 0) dJ_slat_0 wF_J_38 ?_
  refine sv_if_eq (pc := 3) (tgt := 17) dJ_slat_3 (by decide) (fun h => absurd h (by decide)) (fun _ => ?_)
  refine sv_aload_nS (pc := 6) dJ_slat_6 rfl rfl ?_
  refine sv_getSc (pc := 7) dJ_slat_7 wF_J_15 ?_
  refine sv_if_ne (pc := 10) (tgt := 17) dJ_slat_10 (by decide) (fun h => absurd rfl h) (fun _ => ?_)
  refine sv_iconst (pc := 13) (v := 1) dJ_slat_13 (by decide) ?_
  refine sv_goto (pc := 14) (tgt := 18) dJ_slat_14 (by decide) ?_
  exact sv_zret (pc := 18) (ty := .boolean) dJ_slat_18 rfl rfl (Nat.le_refl _) (Nat.le_refl _) ⟨rfl, rfl⟩
theorem c_slen (hd : 3 ≤ d) : sC (gG l D c H0 sa) mJ_slen d 0 0 [.retAddr (sg_q (gG l D c H0 sa) + 1)] hp (fun r hp' => r = some (.int 147) ∧ hp' = hp) := by
  refine sC.of rfl (by decide) (le_t rfl) ?_
  refine sv_aload_nS (pc := 0) dJ_slen_0 rfl rfl ?_
  refine sv_getSv (pc := 1) dJ_slen_1 wF_J_9 ?_
  refine sv_lenS (pc := 4) dJ_slen_4 ?_
  refine sv_aload_nS (pc := 5) dJ_slen_5 rfl rfl ?_
  refine sv_callVS (pc := 6) (d' := 1) (av := []) (st := [.int 147]) (c_scod (Nat.le_refl _)) (gOk l D c H0 sa) dJ_slen_6 (tJ_scod l D c H0 sa) ⟨wV_String_coder___B, wL_String_coder___B⟩ wM_String_335 rfl ⟨by show 1 + 1 ≤ d; omega, by show 60 * 1 + 1 + 19 ≤ 60 * d; omega⟩ ⟨Nat.le_refl _, Nat.le_refl _⟩ rfl (le_t rfl) ?_
  rintro r hp' ⟨rfl, rfl⟩
  refine sv_ishr (pc := 9) (st := []) dJ_slen_9 ?_
  exact sv_iret (pc := 10) dJ_slen_10 rfl (Nat.le_refl _) (Nat.le_refl _) ⟨by decide, rfl⟩
theorem c_schr {x : Int32} (hd : 7 ≤ d) (h0 : ¬ x < 0) (h1 : x < 147) : sC (gG l D c H0 sa) mJ_schr d 0 0 [.retAddr (sg_q (gG l D c H0 sa) + 1), .int x] hp (fun r hp' => r = some (.int (nI (wsN.getD x.toNatClampNeg 0))) ∧ hp' = hp) := by
  refine sC.of rfl (by decide) (le_t rfl) ?_
  refine sv_aload_nS (pc := 0) dJ_schr_0 rfl rfl ?_
  refine sv_callVS (pc := 1) (d' := 1) (av := []) (st := []) (c_slat (Nat.le_refl _)) (gOk l D c H0 sa) dJ_schr_1 (tJ_slat l D c H0 sa) ⟨wV_String_isLatin1___Z, wL_String_isLatin1___Z⟩ wM_String_492 rfl ⟨by show 1 + 1 ≤ d; omega, by show 60 * 1 + 1 + 19 ≤ 60 * d; omega⟩ ⟨Nat.le_refl _, Nat.le_refl _⟩ rfl (le_t rfl) ?_
  rintro r hp' ⟨rfl, rfl⟩
  refine sv_if_eq (pc := 4) (tgt := 16) (st := []) dJ_schr_4 (by decide) (fun h => absurd h (by decide)) (fun _ => ?_)
  refine sv_aload_nS (pc := 7) dJ_schr_7 rfl rfl ?_
  refine sv_getSv (pc := 8) dJ_schr_8 wF_J_9 ?_
  refine sv_iload_n (pc := 11) dJ_schr_11 rfl rfl ?_
  refine sv_callS (pc := 12) (d' := 5) (av := [.retAddr _, .int x]) (st := []) (c_lchr (Nat.le_refl _) h0 h1) (gOk l D c H0 sa) dJ_schr_12 (tJ_lchr l D c H0 sa) wS_StringLatin1_charAt___BI_C wM_String_495 ⟨by show 5 + 1 ≤ d; omega, by show 60 * 5 + 2 + 19 ≤ 60 * d; omega⟩ ⟨Nat.le_refl _, Nat.le_refl _⟩ rfl (le_t rfl) ?_
  rintro r hp' ⟨rfl, rfl⟩
  have hx : x.toNatClampNeg < 147 := by
    have a : ¬ x.toInt < 0 := fun z => h0 (Int32.lt_iff_toInt_lt.mpr z)
    have b : x.toInt < 147 := Int32.lt_iff_toInt_lt.mp h1
    show x.toInt.toNat < 147
    omega
  have hz := (ws_and ⟨x.toNatClampNeg, hx⟩).2
  exact sv_zret (pc := 15) (ty := .char) dJ_schr_15 rfl (pk_charN (q := wsN.getD x.toNatClampNeg 0) (Nat.lt_trans hz (by decide))).1 (Nat.le_refl _) (Nat.le_refl _) ⟨rfl, rfl⟩
end STRC
end
section
abbrev mSh : Type := (Nat × List Nat) ⊕ (Nat × Nat)
def mTabL : List mSh := [.inl (11, [2, 2, 2, 2, 2, 2, 2, 2, 2, 2, 0, 0]),
  .inr (0, 0),
  .inr (0, 0),
  .inr (0, 0),
  .inr (0, 0),
  .inr (0, 0),
  .inl (10, [2, 2, 2, 2, 2, 2, 2, 2, 2, 2, 2, 2, 2, 2, 0, 0, 0, 0, 0]),
  .inr (0, 0),
  .inr (0, 0),
  .inr (0, 0),
  .inr (5, 2),
  .inr (6, 2),
  .inr (0, 0),
  .inr (0, 0),
  .inr (0, 0),
  .inr (0, 0),
  .inr (0, 0),
  .inr (0, 0),
  .inr (0, 0),
  .inr (0, 0),
  .inr (0, 0),
  .inl (1, [2, 2, 2, 0, 0, 0, 0, 0, 0]),
  .inr (7, 2),
  .inl (6, [2, 2, 2, 2, 2, 2, 2, 2, 0, 0, 0, 0, 0, 0, 0, 0, 1, 1, 0, 0]),
  .inr (0, 0),
  .inr (0, 0),
  .inr (0, 0),
  .inr (0, 0),
  .inr (0, 0),
  .inr (1, 1),
  .inr (1, 1),
  .inr (1, 1),
  .inl (8, [2, 2, 2, 2, 2, 2, 2, 2, 2, 0, 0, 0, 0]),
  .inr (0, 0),
  .inr (0, 0),
  .inr (4, 2),
  .inr (0, 0),
  .inr (0, 0),
  .inr (0, 0),
  .inr (0, 0),
  .inr (0, 0),
  .inr (0, 0),
  .inr (0, 0),
  .inr (0, 0),
  .inr (0, 0),
  .inr (0, 0),
  .inr (0, 0),
  .inr (0, 0),
  .inr (0, 0),
  .inr (0, 0),
  .inr (0, 0),
  .inr (0, 0),
  .inr (0, 0),
  .inr (0, 0),
  .inr (0, 0),
  .inr (0, 0),
  .inr (0, 0),
  .inr (0, 0),
  .inr (0, 0),
  .inr (0, 0),
  .inr (0, 0),
  .inr (0, 0),
  .inr (0, 0),
  .inr (0, 0),
  .inr (0, 0),
  .inr (0, 0),
  .inr (0, 0),
  .inr (0, 0),
  .inr (0, 0),
  .inr (0, 0),
  .inr (0, 0),
  .inr (0, 0),
  .inr (0, 0),
  .inr (0, 0),
  .inr (0, 0),
  .inr (0, 0),
  .inl (3, [2, 2, 2, 2, 2, 0, 0, 0, 0, 2, 2, 2, 2, 0, 0, 0, 0]),
  .inr (0, 0),
  .inr (0, 0),
  .inr (0, 0),
  .inr (0, 0),
  .inr (0, 0),
  .inr (0, 0),
  .inr (0, 0),
  .inr (0, 0),
  .inr (0, 0),
  .inr (0, 0),
  .inl (2, [2, 2, 2, 2, 2, 2, 0, 0, 2, 0, 0]),
  .inr (0, 0),
  .inr (0, 0),
  .inr (0, 0),
  .inr (0, 0),
  .inr (0, 0),
  .inr (1, 1),
  .inl (4, [2, 2, 2, 2, 2, 2, 2, 2, 2, 0, 0, 0, 2, 2, 0]),
  .inr (0, 0),
  .inr (0, 0),
  .inr (0, 0),
  .inr (0, 0),
  .inr (0, 0),
  .inr (0, 0),
  .inr (0, 0),
  .inr (0, 0),
  .inr (0, 0),
  .inr (2, 0),
  .inr (0, 0),
  .inl (12, [2, 0, 0, 2, 2, 0, 0, 2, 2, 2, 2, 2, 2, 2, 2, 0, 2, 0, 0, 2, 2, 2, 2, 2, 2, 2, 0, 0, 0, 0, 0, 0, 2, 0, 0, 0, 0, 0, 0, 0, 2, 2, 2, 2, 2, 2, 2, 2, 2, 2, 2, 2, 2, 2, 2, 2, 2, 2, 0, 0, 2, 2, 2, 2, 2, 2, 0, 2, 2, 2, 0, 0, 0, 0, 2, 2, 2, 2, 2, 2, 2, 2, 2, 2, 2, 2, 2, 2, 0, 2, 2, 0, 2, 0, 2, 2, 0, 0, 0, 0, 2, 0, 0, 2, 0, 2, 0, 2, 0, 0, 2, 2, 2, 2, 2, 2, 0, 2, 2, 2, 2, 2, 2, 2, 2, 2]),
  .inr (2, 0),
  .inr (0, 0),
  .inr (0, 0),
  .inr (0, 0),
  .inr (0, 0),
  .inr (3, 0),
  .inr (0, 0),
  .inr (0, 0),
  .inr (0, 0),
  .inr (3, 0),
  .inr (0, 0),
  .inr (0, 0),
  .inr (0, 0),
  .inr (0, 0),
  .inr (0, 0),
  .inr (0, 0),
  .inr (0, 0),
  .inr (0, 0),
  .inr (0, 0),
  .inr (0, 0),
  .inr (0, 0),
  .inr (0, 0),
  .inr (0, 0),
  .inr (0, 0),
  .inr (0, 0),
  .inr (0, 0),
  .inr (3, 0),
  .inr (0, 0),
  .inr (0, 0),
  .inr (0, 0),
  .inr (1, 1),
  .inr (1, 1),
  .inr (3, 0),
  .inr (0, 0),
  .inr (0, 0),
  .inr (0, 0),
  .inr (0, 0),
  .inr (1, 1),
  .inr (1, 1),
  .inr (1, 1),
  .inr (3, 0),
  .inr (1, 1),
  .inr (1, 1),
  .inr (3, 0),
  .inr (0, 0),
  .inr (0, 0),
  .inr (0, 0),
  .inr (0, 0),
  .inr (3, 0),
  .inr (0, 0),
  .inr (0, 0),
  .inr (0, 0),
  .inr (0, 0),
  .inr (0, 0),
  .inr (0, 0),
  .inr (0, 0),
  .inr (0, 0),
  .inr (3, 0),
  .inr (3, 0),
  .inr (0, 0),
  .inr (0, 0),
  .inr (0, 0),
  .inr (0, 0),
  .inr (0, 0),
  .inr (3, 0),
  .inr (0, 0),
  .inr (0, 0),
  .inr (0, 0),
  .inr (0, 0),
  .inr (0, 0),
  .inr (0, 0),
  .inr (0, 0),
  .inr (0, 0),
  .inr (0, 0),
  .inr (0, 0),
  .inr (0, 0),
  .inr (1, 1),
  .inr (0, 0),
  .inr (0, 0),
  .inr (0, 0),
  .inr (0, 0),
  .inr (0, 0),
  .inr (0, 0),
  .inr (0, 0),
  .inr (3, 0),
  .inr (0, 0),
  .inr (0, 0),
  .inr (0, 0),
  .inr (0, 0),
  .inr (0, 0),
  .inr (0, 0),
  .inr (0, 0),
  .inr (0, 0),
  .inl (7, [2, 2, 0, 0, 0, 0, 0, 0, 0, 0, 0, 0]),
  .inr (0, 0),
  .inr (0, 0),
  .inr (0, 0),
  .inr (0, 0),
  .inr (0, 0),
  .inr (0, 0),
  .inr (0, 0),
  .inr (0, 0),
  .inr (0, 0),
  .inl (0, [2, 2, 2, 2, 0, 0]),
  .inr (0, 0),
  .inr (0, 0),
  .inr (0, 0),
  .inr (4, 2),
  .inr (0, 0),
  .inr (0, 0),
  .inr (0, 0),
  .inr (0, 0),
  .inr (0, 0),
  .inl (9, [0, 0, 0, 2, 2, 2, 0, 0, 0]),
  .inr (0, 0),
  .inr (4, 2),
  .inr (4, 2),
  .inr (0, 0),
  .inr (0, 0),
  .inr (0, 0),
  .inr (0, 0),
  .inr (0, 0),
  .inr (0, 0),
  .inl (5, [0, 2, 2, 2, 2, 2]),
  .inr (0, 0),
  .inr (0, 0),
  .inr (1, 1),
  .inr (1, 1),
  .inr (1, 1),
  .inr (0, 0),
  .inr (0, 0),
  .inr (0, 0),
  .inr (0, 0)]
def mTab (s : Nat) : mSh := mTabL.getD s (.inr (0, 0))
def mTyL : List (List (Nat × Int × Int)) := [[(4, 1, 1), (4, 2, 2), (4, 3, 200), (4, 6, 6), (4, 21, 21), (4, 23, 23), (4, 32, 32), (4, 76, 76), (4, 87, 87), (4, 94, 94), (0, 0, 1000), (0, 0, 20)],
  [(0, 0, 255)],
  [(0, 0, 9)],
  [],
  [],
  [],
  [(4, 7, 7), (4, 8, 8), (4, 9, 9), (4, 10, 10), (4, 11, 11), (4, 12, 12), (4, 13, 13), (4, 14, 14), (4, 15, 15), (4, 16, 16), (4, 17, 17), (4, 18, 18), (4, 19, 19), (4, 20, 20), (0, 0, 10), (9, 0, 10), (9, 1, 20), (0, 0, 30), (0, 0, 2147483647)],
  [(0, (-2147483648), 2147483647)],
  [(0, 0, 32)],
  [(0, (-2147483648), 2147483647)],
  [(8, 0, 210)],
  [(8, 1, 220)],
  [(0, 0, 10)],
  [(0, 0, 11)],
  [(0, 0, 9)],
  [(0, (-2147483648), 2147483647)],
  [(0, (-2147483648), 2147483647)],
  [(0, (-2147483648), 2147483647)],
  [(0, (-2147483648), 2147483647)],
  [(0, (-2147483648), 2147483647)],
  [(0, (-2147483648), 2147483647)],
  [(4, 6, 6), (4, 22, 22), (3, 200, 0), (0, (-2147483648), 2147483647), (0, (-2147483648), 2147483647), (0, (-2147483648), 2147483647), (0, 0, 500), (0, 0, 2), (9, 2, 12)],
  [(8, 2, 230)],
  [(4, 24, 24), (4, 25, 25), (4, 26, 26), (4, 27, 27), (4, 28, 28), (4, 29, 29), (4, 30, 30), (4, 31, 31), (0, 0, 1000), (0, 0, 1000), (0, 0, 30), (0, 0, 2000), (0, 0, 40), (0, 0, 250), (0, (-2147483648), 2147483647), (0, 0, 1), (0, (-9223372036854775808), 9223372036854775807), (0, (-9223372036854775808), 9223372036854775807), (0, 0, 4), (0, 0, 1000)],
  [(0, (-2147483648), 2147483647)],
  [(0, (-2147483648), 2147483647)],
  [(0, 0, 1000)],
  [(0, (-2147483648), 2147483647)],
  [(0, (-2147483648), 2147483647)],
  [(0, (-9223372036854775808), 9223372036854775807)],
  [(0, (-9223372036854775808), 9223372036854775807)],
  [(0, (-9223372036854775808), 9223372036854775807)],
  [(4, 6, 6), (4, 21, 21), (4, 33, 33), (4, 34, 34), (4, 35, 35), (4, 66, 66), (4, 67, 200), (4, 70, 200), (4, 73, 200), (12, 1, 10), (12, 1, 800), (0, (-1), 2000000000), (0, (-2147483648), 2147483647)],
  [(13, 1, 799)],
  [(0, (-1), 2000001000)],
  [(2, 200, 0)],
  [],
  [],
  [],
  [],
  [],
  [],
  [],
  [],
  [],
  [],
  [],
  [],
  [],
  [],
  [],
  [],
  [],
  [],
  [],
  [],
  [],
  [],
  [],
  [],
  [],
  [],
  [],
  [],
  [],
  [],
  [(0, 0, 9)],
  [],
  [],
  [],
  [],
  [],
  [],
  [],
  [],
  [],
  [(4, 77, 77), (4, 78, 78), (4, 79, 79), (4, 80, 80), (3, 1, 0), (0, 0, 256), (0, 0, 8), (0, 0, 1), (0, 0, 1), (4, 81, 200), (4, 84, 84), (4, 85, 85), (4, 86, 86), (0, 0, 1000), (0, 0, 1000), (0, 0, 256), (0, 0, 1)],
  [(0, 0, 1)],
  [(0, (-2147483648), 2147483647)],
  [(0, (-2147483648), 2147483647)],
  [(0, (-2147483648), 2147483647)],
  [],
  [],
  [],
  [(0, (-2147483648), 2147483647)],
  [(0, (-2147483648), 2147483647)],
  [(0, (-2147483648), 2147483647)],
  [(4, 6, 6), (4, 88, 88), (4, 90, 90), (4, 91, 91), (4, 92, 92), (4, 93, 93), (0, 0, 11), (0, (-2147483648), 2147483647), (4, 89, 89), (0, 0, 11), (12, 0, 16)],
  [(10, 0, 9)],
  [(0, (-2147483648), 2147483647)],
  [(10, 0, 9)],
  [(0, (-2147483648), 2147483647)],
  [(0, (-2147483648), 2147483647)],
  [(0, (-9223372036854775808), 9223372036854775807)],
  [(4, 96, 96), (4, 97, 97), (4, 98, 98), (4, 99, 99), (4, 100, 100), (4, 101, 101), (2, 102, 0), (2, 103, 0), (2, 104, 0), (0, 0, 46656), (0, 0, 1), (0, 0, 1), (4, 95, 95), (4, 105, 105), (0, 0, 46656)],
  [(0, 0, 5)],
  [(0, 0, 6)],
  [(0, 0, 7)],
  [(0, 0, 6)],
  [(0, (-1), 5)],
  [(0, 0, 46656)],
  [(0, 0, 46656)],
  [(0, 0, 46655)],
  [(0, 0, 46655)],
  [(0, (-128), 127)],
  [(0, (-2147483648), 2147483647)],
  [(4, 107, 107), (0, 0, 1000), (0, 0, 10), (4, 108, 108), (4, 109, 109), (0, 0, 10), (0, 0, 20), (4, 110, 110), (4, 111, 111), (4, 112, 112), (4, 113, 113), (4, 114, 114), (4, 115, 115), (4, 116, 116), (4, 117, 117), (0, 0, 20), (4, 118, 118), (0, 0, 2147483647), (0, 0, 30), (4, 119, 119), (4, 120, 120), (4, 121, 121), (4, 122, 122), (4, 123, 123), (4, 124, 124), (4, 125, 125), (0, 0, 1), (0, (-2147483648), 2147483647), (0, (-2147483648), 2147483647), (0, (-2147483648), 2147483647), (0, (-2147483648), 2147483647), (0, 0, 2), (4, 126, 126), (0, 0, 1000), (0, 0, 1000), (0, 0, 3), (0, (-2147483648), 2147483647), (0, 0, 4), (0, 0, 1000), (0, 0, 12), (4, 127, 127), (4, 128, 128), (4, 129, 129), (4, 130, 130), (4, 131, 131), (4, 132, 132), (4, 133, 133), (4, 134, 134), (4, 135, 135), (4, 136, 136), (4, 137, 137), (4, 138, 138), (4, 139, 139), (4, 140, 140), (4, 141, 141), (4, 142, 142), (4, 143, 143), (4, 144, 144), (0, 0, 12), (0, 0, 6), (4, 145, 145), (4, 146, 146), (4, 147, 147), (4, 148, 148), (4, 149, 149), (4, 150, 150), (0, 0, 4), (4, 151, 151), (4, 152, 152), (4, 153, 153), (0, 0, 1), (0, 0, 2000000000), (0, (-2147483648), 2147483647), (0, (-2147483648), 2147483647), (4, 154, 154), (4, 155, 155), (4, 156, 156), (4, 157, 157), (4, 158, 158), (4, 159, 159), (4, 160, 160), (4, 161, 161), (4, 162, 162), (4, 163, 163), (4, 164, 164), (4, 165, 165), (4, 166, 166), (4, 167, 167), (0, 0, 1000), (4, 168, 168), (4, 169, 169), (0, 0, 1000), (4, 170, 170), (0, 0, 400), (4, 171, 171), (4, 172, 172), (0, 0, 1), (0, 0, 1), (0, 0, 1), (0, 0, 1), (4, 173, 173), (0, 0, 8), (0, 0, 3), (4, 174, 174), (0, 0, 300), (4, 175, 175), (0, 0, 12), (4, 176, 176), (0, 0, 12), (0, 0, 16), (4, 177, 177), (4, 178, 178), (4, 179, 179), (4, 180, 180), (4, 181, 181), (4, 182, 182), (0, 0, 400), (4, 183, 183), (4, 184, 184), (4, 185, 185), (4, 186, 186), (4, 187, 187), (4, 188, 188), (4, 189, 189), (4, 190, 190), (4, 191, 191)],
  [(0, (-128), 127)],
  [(0, (-2147483648), 2147483647)],
  [(0, 0, 32)],
  [(0, 0, 9)],
  [(0, 0, 2)],
  [(0, 0, 1)],
  [(0, 0, 1000)],
  [(0, 0, 1000)],
  [(5, 0, 11)],
  [(0, 0, 1)],
  [(5, 0, 10)],
  [(0, 0, 9)],
  [(0, 0, 9)],
  [(0, (-2147483648), 2147483647)],
  [(0, (-2147483648), 2147483647)],
  [(0, (-2147483648), 2147483647)],
  [(0, (-2147483648), 2147483647)],
  [(0, (-2147483648), 2147483647)],
  [(0, (-2147483648), 2147483647)],
  [(7, 0, 0)],
  [(0, 0, 30)],
  [(0, 0, 300)],
  [(0, 0, 300)],
  [(0, 0, 300)],
  [(0, 0, 300)],
  [(0, (-2147483648), 2147483647)],
  [(0, 0, 1)],
  [(0, (-2147483648), 2147483647)],
  [(0, (-2147483648), 2147483647)],
  [(0, (-2147483648), 2147483647)],
  [(0, (-9223372036854775808), 9223372036854775807)],
  [(0, (-9223372036854775808), 9223372036854775807)],
  [(0, 0, 1)],
  [(0, (-2147483648), 2147483647)],
  [(0, (-2147483648), 2147483647)],
  [(0, 0, 40)],
  [(0, (-2147483648), 2147483647)],
  [(0, (-9223372036854775808), 9223372036854775807)],
  [(0, (-9223372036854775808), 9223372036854775807)],
  [(0, (-9223372036854775808), 9223372036854775807)],
  [(0, 0, 1)],
  [(0, (-9223372036854775808), 9223372036854775807)],
  [(0, (-9223372036854775808), 9223372036854775807)],
  [(0, 0, 1)],
  [(0, 0, 11)],
  [(0, (-1), 30)],
  [(0, 0, 300)],
  [(0, 0, 2000000000)],
  [(0, 0, 1)],
  [(0, 0, 2000000000)],
  [(0, (-1), 2000001000)],
  [(0, (-2147483648), 2147483647)],
  [(0, (-1), 2000001000)],
  [(0, (-2147483648), 2147483647)],
  [(6, 0, 19)],
  [(0, (-1), 2)],
  [(0, 0, 9)],
  [(0, 0, 1)],
  [(0, 0, 1)],
  [(0, (-2147483648), 2147483647)],
  [(0, (-2147483648), 2147483647)],
  [(0, (-2147483648), 2147483647)],
  [(0, (-2147483648), 2147483647)],
  [(0, (-2147483648), 2147483647)],
  [(0, 0, 1)],
  [(0, (-2147483648), 2147483647)],
  [(0, (-2147483648), 2147483647)],
  [(0, (-2147483648), 2147483647)],
  [(0, 0, 9)],
  [(0, (-2147483648), 2147483647)],
  [(0, 0, 9)],
  [(0, (-2147483648), 2147483647)],
  [(0, (-2147483648), 2147483647)],
  [(0, (-2147483648), 2147483647)],
  [(0, (-2147483648), 2147483647)],
  [(0, (-2147483648), 2147483647)],
  [(0, (-9223372036854775808), 9223372036854775807)],
  [(0, 0, 5)],
  [(0, 0, 7)],
  [(0, 0, 6)],
  [(0, 0, 46656)],
  [(0, 0, 5)],
  [(0, (-2147483648), 2147483647)],
  [(0, 0, 46655)],
  [(0, 0, 1)],
  [],
  [],
  [],
  [],
  [],
  [],
  [],
  [],
  [(1, 1, 201), (1, 2, 202), (0, 0, 1), (0, 0, 9), (0, (-2147483648), 2147483647), (0, (-2147483648), 2147483647), (0, (-2147483648), 2147483647), (0, 0, 20), (0, 0, 8), (0, (-1), 2000000000), (10, 1, 19), (0, (-2147483648), 2147483647)],
  [(0, (-2147483648), 2147483647)],
  [(0, (-2147483648), 2147483647)],
  [],
  [],
  [],
  [],
  [],
  [],
  [],
  [(1, 1, 211), (1, 2, 212), (1, 3, 213), (1, 4, 214), (0, 0, 6), (0, 0, 1)],
  [(0, 0, 9)],
  [(0, (-1), 2)],
  [(14, 1, 19)],
  [(2, 200, 0)],
  [],
  [],
  [],
  [],
  [],
  [(11, 0, 9), (11, 0, 9), (0, 0, 2), (1, 1, 221), (1, 2, 222), (1, 3, 223), (0, 0, 1), (0, 0, 1000), (0, 0, 1000)],
  [(5, 0, 11)],
  [(2, 200, 0)],
  [(2, 200, 0)],
  [],
  [],
  [],
  [],
  [],
  [],
  [(0, 0, 30), (2, 231, 0), (2, 232, 0), (2, 233, 0), (2, 234, 0), (2, 235, 0)],
  [(0, (-2147483648), 2147483647)],
  [(0, (-2147483648), 2147483647)],
  [(0, (-9223372036854775808), 9223372036854775807)],
  [(0, (-9223372036854775808), 9223372036854775807)],
  [(0, (-9223372036854775808), 9223372036854775807)],
  [],
  [],
  [],
  []]
def mLenL : List Nat := [0, 1000, 20, 0, 0, 0, 0, 10, 10, 10, 10, 20, 10, 10, 30, 30, 30, 30, 30, 30, 30, 0, 12, 0, 1001, 1001, 1001, 2000, 40, 40, 250, 250, 0, 800, 800, 10, 0, 0, 0, 0, 0, 0, 0, 0, 0, 0, 0, 0, 0, 0, 0, 0, 0, 0, 0, 0, 0, 0, 0, 0, 0, 0, 0, 0, 0, 0, 10, 0, 0, 0, 0, 0, 0, 0, 0, 0, 0, 256, 256, 8, 4, 0, 0, 0, 1000, 1000, 256, 0, 11, 11, 16, 16, 16, 20, 0, 7, 245, 35, 35, 35, 7, 7, 93312, 93312, 93312, 4, 0, 1000, 10, 10, 40, 20, 20, 20, 20, 80, 10, 10, 20, 30, 30, 30, 30, 30, 30, 30, 84000, 13, 403, 403, 13, 13, 3900, 3900, 3900, 3900, 3900, 3900, 3900, 3900, 3900, 3900, 13, 533, 533, 10, 10, 10, 10, 10, 10, 14, 14, 14, 400, 400, 400, 400, 400, 400, 400, 100, 100, 60, 10, 20, 1000, 1000, 1000, 1000, 400, 256, 4, 8, 300, 12, 12, 16, 16, 16, 400, 400, 8800, 24, 7, 35, 280, 8, 7, 46656, 46656, 46656, 0, 0, 0, 0, 0, 0, 0, 0, 0, 20, 8, 0, 0, 0, 0, 0, 0, 0, 0, 6, 10, 10, 10, 0, 0, 0, 0, 0, 0, 4, 20, 20, 0, 0, 0, 0, 0, 0, 0, 2000, 40, 40, 250, 250, 0, 0, 0, 0]
def mLen (s : Nat) : Nat := mLenL.getD s 0
def mVar (s : Nat) : Bool := [102, 103, 104, 231, 232, 233, 234, 235].elem s
def mSh0L : List Nat := [0, 1, 2, 200, 201, 202, 6, 7, 8, 9, 10, 11, 12, 13, 14, 15, 16, 17, 18, 19, 20, 21, 22, 23, 24, 25, 26, 27, 28, 29, 30, 31, 32, 33, 34, 35, 200, 201, 202, 200, 201, 202, 200, 201, 202, 200, 201, 202, 200, 201, 202, 200, 201, 202, 200, 201, 202, 200, 201, 202, 200, 201, 202, 200, 201, 202, 66, 200, 201, 202, 200, 201, 202, 200, 201, 202, 76, 77, 78, 79, 80, 200, 201, 202, 84, 85, 86, 87, 88, 89, 90, 91, 92, 93, 94, 95, 96, 97, 98, 99, 100, 101, 102, 103, 104, 105, 106, 107, 108, 109, 110, 111, 112, 113, 114, 115, 116, 117, 118, 119, 120, 121, 122, 123, 124, 125, 126, 127, 128, 129, 130, 131, 132, 133, 134, 135, 136, 137, 138, 139, 140, 141, 142, 143, 144, 145, 146, 147, 148, 149, 150, 151, 152, 153, 154, 155, 156, 157, 158, 159, 160, 161, 162, 163, 164, 165, 166, 167, 168, 169, 170, 171, 172, 173, 174, 175, 176, 177, 178, 179, 180, 181, 182, 183, 184, 185, 186, 187, 188, 189, 190, 191]
def mSh0 (a : Nat) : Nat := mSh0L.getD a 999
end
section
/-! Memory: every slot of the heap a number (mM), the cells' kinds by shape (mW); types (mT) and frames (mF). mTab, mLen, mVar, mTyL stand in the part ahead. -/
abbrev mW : Type := Nat × (Nat → Nat) × (Nat → Nat) × (Nat → Int)
abbrev mM : Type := Nat → Nat → Int
def iv (z : Int) : Value := .int (Int32.ofInt z)
def jv (z : Int) : Value := .long (Int64.ofInt z)
def rf (z : Int) : Value := if z < 0 then .null else .ref z.toNat
def mv (k : Nat) (z : Int) : Value := match k with
  | 0 => iv z
  | 1 => jv z
  | _ => rf z
def mCell (sh : mSh) (n : Nat) (m : Nat → Int) : sE := match sh with
  | .inl (ci, ks) => .inr (ci, (List.range ks.length).map fun k => mv (ks.getD k 0) (m k))
  | .inr (kd, k) => .inl (kd, n, fun i => mv k (m i))
def mk (w : mW) (μ : mM) : sHp := (w.1, fun a => mCell (mTab (w.2.1 a)) (w.2.2.1 a) (μ a))
def mAt (w : mW) (a s : Nat) : Prop := w.2.1 a = s ∧ a < w.1 ∧ w.2.2.1 a ≤ mLen s ∧ (mVar s = false → w.2.2.1 a = mLen s)
def mUp (μ : mM) (a k : Nat) (z : Int) : mM := fun b j => if b = a ∧ j = k then z else μ b j
def mU (μ : mM) (a k : Nat) (z : Int) (μ1 : mM) : Prop := μ1 a k = z ∧ ∀ b j, (b ≠ a ∨ j ≠ k) → μ1 b j = μ b j
theorem mUp_ok {μ : mM} {a k : Nat} {z : Int} : mU μ a k z (mUp μ a k z) := ⟨if_pos ⟨rfl, rfl⟩, fun _ _ h => if_neg (fun q => h.elim (fun x => x q.1) (fun x => x q.2))⟩
theorem mRgV (f : Nat → Value) {n k : Nat} (h : k < n) : vp_V ((List.range n).map f) k = f k := by
  simp [vp_V, List.getD, List.getElem?_map, List.getElem?_range h]
theorem mRgS (f : Nat → Value) (n k : Nat) (v : Value) : ((List.range n).map f).set k v = (List.range n).map (fun j => if j = k then v else f j) := by
  apply List.ext_getElem
  · simp
  · intro i h1 h2
    simp only [List.getElem_set, List.getElem_map, List.getElem_range]
    by_cases h : k = i
    · subst h; simp
    · rw [if_neg h, if_neg (Ne.symm h)]
theorem mk_obj {w : mW} {μ : mM} {a s ci : Nat} {ks : List Nat} (hA : mAt w a s) (hs : mTab s = .inl (ci, ks)) : (mk w μ).2 a = .inr (ci, (List.range ks.length).map fun k => mv (ks.getD k 0) (μ a k)) := by
  simp only [mk, hA.1, hs, mCell]
theorem mk_arr {w : mW} {μ : mM} {a s kd k : Nat} (hA : mAt w a s) (hs : mTab s = .inr (kd, k)) : (mk w μ).2 a = .inl (kd, w.2.2.1 a, fun i => mv k (μ a i)) := by
  simp only [mk, hA.1, hs, mCell]
theorem mk_other {w : mW} {μ : mM} {a b k : Nat} {z : Int} (h : b ≠ a) : (mk w (mUp μ a k z)).2 b = (mk w μ).2 b := by
  have : mUp μ a k z b = μ b := by funext j; simp only [mUp, h, false_and, if_false]
  simp only [mk, this]
/-! types -/
def tyP (w : mW) (a i : Nat) (d : Nat × Int × Int) (z : Int) : Prop := match d.1 with
  | 0 => d.2.1 ≤ z ∧ z ≤ d.2.2
  | 1 => z = a + d.2.1 ∧ mAt w (a + d.2.1.toNat) d.2.2.toNat
  | 2 => 0 ≤ z ∧ mAt w z.toNat d.2.1.toNat
  | 3 => z = -1 ∨ (0 ≤ z ∧ mAt w z.toNat d.2.1.toNat)
  | 4 => z = d.2.1 ∧ mAt w d.2.1.toNat d.2.2.toNat
  | 5 => z = -99999999 ∨ (d.2.1 ≤ z ∧ z ≤ d.2.2)
  | 6 => z = -99999999 ∨ z = -4 ∨ (d.2.1 ≤ z ∧ z ≤ d.2.2)
  | 7 => (-2147483648 ≤ z ∧ z ≤ 2147483647) ∧ (i % 40 = 0 → -1 ≤ z ∧ z ≤ 9) ∧ (i % 40 = 4 → 0 ≤ z ∧ z ≤ 20) ∧ (i % 40 = 5 → 0 ≤ z ∧ z ≤ 8)
  | 8 => ((i : Int) < w.2.2.2 d.2.1.toNat → 0 ≤ z ∧ mAt w z.toNat d.2.2.toNat) ∧ (¬ (i : Int) < w.2.2.2 d.2.1.toNat → z = -1)
  | 9 => z = w.2.2.2 d.2.1.toNat ∧ 0 ≤ z ∧ z ≤ d.2.2
  | 10 => 0 ≤ z ∧ z ≤ d.2.2 ∧ (z = 0 ∨ z < w.2.2.2 d.2.1.toNat)
  | 11 => 0 ≤ z ∧ z ≤ d.2.2 ∧ z < w.2.2.2 d.2.1.toNat
  | 12 => 0 ≤ z ∧ z ≤ d.2.2 ∧ (z = 0 ∨ 0 < w.2.2.2 d.2.1.toNat)
  | 13 => 0 ≤ z ∧ z ≤ d.2.2 ∧ (z = 0 ∨ z < 40 * w.2.2.2 d.2.1.toNat)
  | _ => (z = -99999999 ∨ z = -4 ∨ (0 ≤ z ∧ z ≤ d.2.2)) ∧ (0 ≤ z → z < w.2.2.2 d.2.1.toNat)
def mArr (s : Nat) : Bool := match mTab s with
  | .inr _ => true
  | .inl _ => false
def mTy (s i : Nat) : Nat × Int × Int := (mTyL.getD s []).getD (if mArr s then 0 else i) (0, 0, 0)
def mT (w : mW) (μ : mM) : Prop := ∀ a s, mAt w a s → ∀ i, tyP w a i (mTy s i) (μ a i)
theorem mT.up {w : mW} {μ μ1 : mM} {a s k : Nat} {z : Int} (h : mT w μ) (hA : mAt w a s) (hz : tyP w a k (mTy s k) z) (hu : mU μ a k z μ1) : mT w μ1 := by
  intro b t hB i
  by_cases hb : b = a ∧ i = k
  · obtain ⟨rfl, rfl⟩ := hb
    have hst : t = s := hB.1.symm.trans hA.1
    subst hst
    rw [hu.1]; exact hz
  · have hne : b ≠ a ∨ i ≠ k := by
      rcases Classical.em (b = a) with h1 | h1
      · exact Or.inr (fun h2 => hb ⟨h1, h2⟩)
      · exact Or.inl h1
    rw [hu.2 b i hne]
    exact h b t hB i
/-! frames -/
def mRg (w : mW) (a i : Nat) : Nat := 1000 * w.2.1 a + (if mArr (w.2.1 a) then 999 else i)
def mF (l : List Nat) (w : mW) (μ μ1 : mM) : Prop := ∀ a i, l.elem (mRg w a i) = false → μ1 a i = μ a i
theorem mF.refl {l : List Nat} {w : mW} {μ : mM} : mF l w μ μ := fun _ _ _ => rfl
theorem mF.up {l : List Nat} {w : mW} {μ μ1 μ2 : mM} {a s k : Nat} {z : Int} (h : mF l w μ μ1) (hA : mAt w a s) (hu : mU μ1 a k z μ2) (hl : l.elem (1000 * s + (if mArr s then 999 else k)) = true) : mF l w μ μ2 := by
  intro b i hb
  rw [← h b i hb]
  refine hu.2 b i ?_
  by_cases h1 : b = a
  · refine Or.inr (fun h2 => ?_)
    subst h1 h2
    simp only [mRg, hA.1] at hb
    rw [hl] at hb; cases hb
  · exact Or.inl h1
theorem mF.call {l l' : List Nat} {w : mW} {μ μ1 μ2 : mM} (h : mF l w μ μ1) (h' : mF l' w μ1 μ2) (hs : (l'.all fun x => l.elem x) = true) : mF l w μ μ2 := by
  intro b i hb
  rw [← h b i hb]
  refine h' b i ?_
  cases hq : l'.elem (mRg w b i) with
  | false => rfl
  | true =>
    have := (List.all_eq_true.mp hs) _ (List.elem_iff.mp hq)
    rw [hb] at this; cases this
/-- a field that the frame leaves alone -/
theorem mF.f {l : List Nat} {w : mW} {μ μ1 : mM} {a s k : Nat} {z : Int} (h : mF l w μ μ1) (hA : mAt w a s) (hl : l.elem (1000 * s + (if mArr s then 999 else k)) = false) (q : μ a k = z) : μ1 a k = z := by
  rw [← q]; exact h a k (by simp only [mRg, hA.1]; exact hl)
theorem mU.f {μ μ1 : mM} {a k b j : Nat} {z x : Int} (h : mU μ a k z μ1) (hn : b ≠ a ∨ j ≠ k) (q : μ b j = x) : μ1 b j = x := (h.2 b j hn).trans q
/-- cells of different shapes are different -/
theorem mAt.ne {w : mW} {a b s t : Nat} (hA : mAt w a s) (hB : mAt w b t) (h : Nat.beq s t = false) : b ≠ a := by
  intro e; subst e
  have : t = s := hB.1.symm.trans hA.1
  subst this
  rw [Nat.beq_refl] at h; cases h
/-! numbers -/
theorem ivI {x : Int} (h : -2147483648 ≤ x ∧ x ≤ 2147483647) : (Int32.ofInt x).toInt = x := Int32.toInt_ofInt_of_le (by omega) (by omega)
theorem jvI {x : Int} (h : -9223372036854775808 ≤ x ∧ x ≤ 9223372036854775807) : (Int64.ofInt x).toInt = x := Int64.toInt_ofInt_of_le (by omega) (by omega)
theorem iv_lt {a b : Int} (ha : -2147483648 ≤ a ∧ a ≤ 2147483647) (hb : -2147483648 ≤ b ∧ b ≤ 2147483647) : Int32.ofInt a < Int32.ofInt b ↔ a < b := by rw [Int32.lt_iff_toInt_lt, ivI ha, ivI hb]
theorem iv_le {a b : Int} (ha : -2147483648 ≤ a ∧ a ≤ 2147483647) (hb : -2147483648 ≤ b ∧ b ≤ 2147483647) : Int32.ofInt a ≤ Int32.ofInt b ↔ a ≤ b := by rw [Int32.le_iff_toInt_le, ivI ha, ivI hb]
theorem iv_eq {a b : Int} (ha : -2147483648 ≤ a ∧ a ≤ 2147483647) (hb : -2147483648 ≤ b ∧ b ≤ 2147483647) : Int32.ofInt a = Int32.ofInt b ↔ a = b := by rw [← Int32.toInt_inj, ivI ha, ivI hb]
theorem iv_any (x : Int32) : ∃ z : Int, x = Int32.ofInt z ∧ -2147483648 ≤ z ∧ z ≤ 2147483647 := ⟨x.toInt, (Int32.ofInt_toInt x).symm, by have := x.le_toInt; omega, by have := x.toInt_lt; omega⟩
theorem jv_any (x : Int64) : ∃ z : Int, x = Int64.ofInt z ∧ -9223372036854775808 ≤ z ∧ z ≤ 9223372036854775807 := ⟨x.toInt, (Int64.ofInt_toInt x).symm, by have := x.le_toInt; omega, by have := x.toInt_lt; omega⟩
theorem iv_and {a b : Int} (hb : 0 ≤ b ∧ b ≤ 2147483647) : ∃ z : Int, Int32.ofInt a &&& Int32.ofInt b = Int32.ofInt z ∧ 0 ≤ z ∧ z ≤ b := by
  have h1 : (BitVec.ofInt 32 b).toNat = b.toNat := by rw [BitVec.toNat_ofInt]; omega
  have h2 : (Int32.ofInt a &&& Int32.ofInt b).toBitVec.toNat ≤ b.toNat := by
    rw [Int32.toBitVec_and, BitVec.toNat_and, Int32.toBitVec_ofInt, Int32.toBitVec_ofInt, h1]
    exact Nat.and_le_right
  have h3 : (Int32.ofInt a &&& Int32.ofInt b).toInt = ((Int32.ofInt a &&& Int32.ofInt b).toBitVec.toNat : Int) := BitVec.toInt_eq_toNat_of_lt (by omega)
  exact ⟨(Int32.ofInt a &&& Int32.ofInt b).toInt, (Int32.ofInt_toInt _).symm, by omega, by omega⟩
theorem iv_or {a b : Int} (k : Nat) (hk : k ≤ 31) (ha : 0 ≤ a ∧ a < 2 ^ k) (hb : 0 ≤ b ∧ b < 2 ^ k) : ∃ z : Int, Int32.ofInt a ||| Int32.ofInt b = Int32.ofInt z ∧ 0 ≤ z ∧ z < 2 ^ k := by
  have hp : (2 : Nat) ^ k ≤ 2 ^ 31 := Nat.pow_le_pow_right (by decide) hk
  have hc : ((2 ^ k : Nat) : Int) = (2 : Int) ^ k := by exact Int.natCast_pow 2 k
  have h1 : (BitVec.ofInt 32 b).toNat = b.toNat := by rw [BitVec.toNat_ofInt]; omega
  have h0 : (BitVec.ofInt 32 a).toNat = a.toNat := by rw [BitVec.toNat_ofInt]; omega
  have h2 : (Int32.ofInt a ||| Int32.ofInt b).toBitVec.toNat < 2 ^ k := by
    rw [Int32.toBitVec_or, BitVec.toNat_or, Int32.toBitVec_ofInt, Int32.toBitVec_ofInt, h1, h0]
    exact Nat.or_lt_two_pow (by omega) (by omega)
  have h3 : (Int32.ofInt a ||| Int32.ofInt b).toInt = ((Int32.ofInt a ||| Int32.ofInt b).toBitVec.toNat : Int) := BitVec.toInt_eq_toNat_of_lt (by omega)
  exact ⟨(Int32.ofInt a ||| Int32.ofInt b).toInt, (Int32.ofInt_toInt _).symm, by omega, by omega⟩
theorem iv_nat {e : Int} {n : Nat} (h : 0 ≤ e ∧ e < (n : Int)) (hn : n ≤ 2147483647) : (Int32.ofInt e).toNatClampNeg = e.toNat := by
  show (Int32.ofInt e).toInt.toNat = e.toNat
  rw [ivI (by omega)]
theorem iv_in {e : Int} {n : Nat} (h : 0 ≤ e ∧ e < (n : Int)) (hn : n ≤ 2147483647) : vp_in (Int32.ofInt e) n := by
  intro q
  rcases q with q | q
  · have : Int32.ofInt e < Int32.ofInt 0 := q
    rw [iv_lt (by omega) (by omega)] at this; omega
  · rw [iv_nat h hn] at q; omega
theorem iv_cmp (a b : Int) : Int32.ofInt a + Int32.ofInt b = Int32.ofInt (a + b) := (Int32.ofInt_add a b).symm
/-! ranges: proofs out of proofs -/
theorem rR {x : Int} : x ≤ x ∧ x ≤ x := ⟨Int.le_refl x, Int.le_refl x⟩
theorem rW {x a b c d : Int} (h : a ≤ x ∧ x ≤ b) (q : decide (c ≤ a) && decide (b ≤ d) = true) : c ≤ x ∧ x ≤ d := by
  simp only [Bool.and_eq_true, decide_eq_true_eq] at q; omega
theorem rAdd {x y a b c d e f : Int} (h : a ≤ x ∧ x ≤ b) (k : c ≤ y ∧ y ≤ d) (q : decide (e ≤ a + c) && decide (b + d ≤ f) = true) : e ≤ x + y ∧ x + y ≤ f := by
  simp only [Bool.and_eq_true, decide_eq_true_eq] at q; omega
theorem rSub {x y a b c d e f : Int} (h : a ≤ x ∧ x ≤ b) (k : c ≤ y ∧ y ≤ d) (q : decide (e ≤ a - d) && decide (b - c ≤ f) = true) : e ≤ x - y ∧ x - y ≤ f := by
  simp only [Bool.and_eq_true, decide_eq_true_eq] at q; omega
theorem rMulL {x a b n e f : Int} (h : a ≤ x ∧ x ≤ b) (q : decide (0 ≤ n) && (decide (e ≤ n * a) && decide (n * b ≤ f)) = true) : e ≤ n * x ∧ n * x ≤ f := by
  simp only [Bool.and_eq_true, decide_eq_true_eq] at q
  have h1 := Int.mul_le_mul_of_nonneg_left h.1 q.1
  have h2 := Int.mul_le_mul_of_nonneg_left h.2 q.1
  omega
theorem rMulR {x a b n e f : Int} (h : a ≤ x ∧ x ≤ b) (q : decide (0 ≤ n) && (decide (e ≤ n * a) && decide (n * b ≤ f)) = true) : e ≤ x * n ∧ x * n ≤ f := by
  rw [Int.mul_comm]; exact rMulL h q
theorem rLt {x y a b c d e : Int} (h : a ≤ x ∧ x ≤ b) (k : c ≤ y ∧ y ≤ d) (l : x < y) (q : decide (d - 1 ≤ e) = true) : a ≤ x ∧ x ≤ e := by
  simp only [decide_eq_true_eq] at q; omega
theorem rLe {x y a b c d : Int} (h : a ≤ x ∧ x ≤ b) (k : c ≤ y ∧ y ≤ d) (l : x ≤ y) : a ≤ x ∧ x ≤ d := by omega
theorem rGt {x y a b c d e : Int} (h : a ≤ x ∧ x ≤ b) (k : c ≤ y ∧ y ≤ d) (l : y < x) (q : decide (e ≤ c + 1) = true) : e ≤ x ∧ x ≤ b := by
  simp only [decide_eq_true_eq] at q; omega
theorem rGe {x y a b c d : Int} (h : a ≤ x ∧ x ≤ b) (k : c ≤ y ∧ y ≤ d) (l : y ≤ x) : c ≤ x ∧ x ≤ b := by omega
theorem rEq {x y c d : Int} (k : c ≤ y ∧ y ≤ d) (l : x = y) : c ≤ x ∧ x ≤ d := by omega
theorem rIx {x a b n : Int} (h : a ≤ x ∧ x ≤ b) (q : decide (0 ≤ a) && decide (b < n) = true) : 0 ≤ x ∧ x < n := by
  simp only [Bool.and_eq_true, decide_eq_true_eq] at q; omega
theorem r32 {x a b : Int} (h : a ≤ x ∧ x ≤ b) (q : decide (-2147483648 ≤ a) && decide (b ≤ 2147483647) = true) : -2147483648 ≤ x ∧ x ≤ 2147483647 := by
  simp only [Bool.and_eq_true, decide_eq_true_eq] at q; omega
end
section
/-! Rules over memory: values are numbers. -/
def bAnd (x y : Int) : Int := (Int32.ofInt x &&& Int32.ofInt y).toInt
def bOr (x y : Int) : Int := (Int32.ofInt x ||| Int32.ofInt y).toInt
def bXor (x y : Int) : Int := (Int32.ofInt x ^^^ Int32.ofInt y).toInt
def bShl (x y : Int) : Int := (Int32.ofInt x <<< (Int32.ofInt y &&& 31)).toInt
def bShr (x y : Int) : Int := (Int32.ofInt x >>> (Int32.ofInt y &&& 31)).toInt
def bUsh (x y : Int) : Int := (((Int32.ofInt x).toUInt32 >>> ((Int32.ofInt y).toUInt32 &&& Int32.toUInt32 31)).toInt32).toInt
def bByte (x : Int) : Int := ((Int32.ofInt x).toInt8.toInt32).toInt
def lAnd (x y : Int) : Int := (Int64.ofInt x &&& Int64.ofInt y).toInt
def lOr (x y : Int) : Int := (Int64.ofInt x ||| Int64.ofInt y).toInt
def lAdd (x y : Int) : Int := (Int64.ofInt x + Int64.ofInt y).toInt
def lSub (x y : Int) : Int := (Int64.ofInt x - Int64.ofInt y).toInt
def lShl (x y : Int) : Int := (Int64.ofInt x <<< ((Int32.ofInt y).toInt64 &&& 63)).toInt
def lShr (x y : Int) : Int := (Int64.ofInt x >>> ((Int32.ofInt y).toInt64 &&& 63)).toInt
def lUsh (x y : Int) : Int := (((Int64.ofInt x).toUInt64 >>> ((Int32.ofInt y).toInt64.toUInt64 &&& Int64.toUInt64 63)).toInt64).toInt
def lInt (x : Int) : Int := ((Int64.ofInt x).toInt32).toInt
def lCmp (x y : Int) : Int := (lg_cmp (Int64.ofInt x) (Int64.ofInt y)).toInt
theorem r32i (x : Int32) : -2147483648 ≤ x.toInt ∧ x.toInt ≤ 2147483647 := ⟨by have := x.le_toInt; omega, by have := x.toInt_lt; omega⟩
theorem r64i (x : Int64) : -9223372036854775808 ≤ x.toInt ∧ x.toInt ≤ 9223372036854775807 := ⟨by have := x.le_toInt; omega, by have := x.toInt_lt; omega⟩
theorem rAndR {x y c d : Int} (h : c ≤ y ∧ y ≤ d) (q : decide (0 ≤ c) && decide (d ≤ 2147483647) = true) : 0 ≤ bAnd x y ∧ bAnd x y ≤ d := by
  simp only [Bool.and_eq_true, decide_eq_true_eq] at q
  obtain ⟨z, h1, h2, h3⟩ := iv_and (a := x) (b := y) (by omega)
  simp only [bAnd, h1]; rw [ivI (by omega)]; omega
theorem rAndL {x y c d : Int} (h : c ≤ x ∧ x ≤ d) (q : decide (0 ≤ c) && decide (d ≤ 2147483647) = true) : 0 ≤ bAnd x y ∧ bAnd x y ≤ d := by
  have : bAnd x y = bAnd y x := by simp only [bAnd, Int32.and_comm]
  rw [this]; exact rAndR h q
theorem rDiv {x a b n e f : Int} (h : a ≤ x ∧ x ≤ b) (q : (decide (0 ≤ a) && decide (0 < n)) && (decide (e ≤ a / n) && decide (b / n ≤ f)) = true) : e ≤ x / n ∧ x / n ≤ f := by
  simp only [Bool.and_eq_true, decide_eq_true_eq] at q
  have h1 := Int.ediv_le_ediv q.1.2 h.1
  have h2 := Int.ediv_le_ediv q.1.2 h.2
  omega
theorem rMod {x a b n f : Int} (h : a ≤ x ∧ x ≤ b) (q : decide (0 < n) && decide (n - 1 ≤ f) = true) : 0 ≤ x % n ∧ x % n ≤ f := by
  simp only [Bool.and_eq_true, decide_eq_true_eq] at q
  have h1 := Int.emod_nonneg x (show n ≠ 0 by omega)
  have h2 := Int.emod_lt_of_pos x q.1
  omega
theorem lg_cmp_r (x y : Int64) : -1 ≤ (lg_cmp x y).toInt ∧ (lg_cmp x y).toInt ≤ 1 := by
  unfold lg_cmp
  split
  · decide
  · split <;> decide
section MV
variable {g : sG} {M : sM} {R : Room} {Z : sZT} {pc : Nat} {lv lv' : List (Nat × Value)} {st : List Value} {hp : sHp} {w : mW} {μ : mM} {ce sl : Nat}
theorem mr_lvE (h : lv = lv') (k : sV g M R Z pc lv' st hp ce sl) : sV g M R Z pc lv st hp ce sl := by subst h; exact k
theorem mr_lvS (h : ∀ q ∈ lv', sGet q.1 lv = some q.2) (k : sV g M R Z pc lv' st hp ce sl) : sV g M R Z pc lv st hp ce sl := sv_lv (fun q hq => sGet_mem (h q hq)) k
theorem mr_iconst {z : Int} (hd : decode M.2.1 pc = .ok (.iconst z, 1)) (k : sV g M R Z (pc + 1) lv (iv z :: st) hp ce sl) : sV g M R Z pc lv st hp ce sl := sv_iconst hd rfl k
theorem mr_bipush {z : Int} (hd : decode M.2.1 pc = .ok (.bipush z, 2)) (hv : (Int8.ofInt z).toInt32 = Int32.ofInt z) (k : sV g M R Z (pc + 2) lv (iv z :: st) hp ce sl) : sV g M R Z pc lv st hp ce sl := sv_bipush hd hv k
theorem mr_sipush {z : Int} (hd : decode M.2.1 pc = .ok (.sipush z, 3)) (hv : (Int16.ofInt z).toInt32 = Int32.ofInt z) (k : sV g M R Z (pc + 3) lv (iv z :: st) hp ce sl) : sV g M R Z pc lv st hp ce sl := sv_sipush hd hv k
theorem mr_ldc {index : Nat} {v : Int32} {z : Int} (hd : decode M.2.1 pc = .ok (.ldc index, 2)) (hw : Cond.constant M.1.cls index v ∈ sg_ws g) (hv : v = Int32.ofInt z) (k : sV g M R Z (pc + 2) lv (iv z :: st) hp ce sl) : sV g M R Z pc lv st hp ce sl := by subst hv; exact sv_ldc hd hw k
theorem mr_ldcw {index : Nat} {v : Int32} {z : Int} (hd : decode M.2.1 pc = .ok (.ldc_w index, 3)) (hw : Cond.constant M.1.cls index v ∈ sg_ws g) (hv : v = Int32.ofInt z) (k : sV g M R Z (pc + 3) lv (iv z :: st) hp ce sl) : sV g M R Z pc lv st hp ce sl := by subst hv; exact sv_ldcw hd hw k
theorem mr_ldc2 {index : Nat} {v : Int64} {z : Int} (hd : decode M.2.1 pc = .ok (.ldc2_w index, 3)) (hw : Cond.constantLong M.1.cls index v ∈ sg_ws g) (hv : v = Int64.ofInt z) (k : sV g M R Z (pc + 3) lv (jv z :: st) hp ce sl) : sV g M R Z pc lv st hp ce sl := by subst hv; exact sv_ldc2 hd hw k
theorem mr_lconst {n : Fin 2} {z : Int} (hd : decode M.2.1 pc = .ok (.lconst n, 1)) (hv : Int64.ofNat (n : Nat) = Int64.ofInt z) (k : sV g M R Z (pc + 1) lv (jv z :: st) hp ce sl) : sV g M R Z pc lv st hp ce sl := sv_lconst hd hv k
theorem mr_iload_n {q : Fin 4} {i : Nat} {z : Int} (hd : decode M.2.1 pc = .ok (.iload_n q, 1)) (hi : (q : Nat) = i) (hg : sGet i lv = some (iv z)) (k : sV g M R Z (pc + 1) lv (iv z :: st) hp ce sl) : sV g M R Z pc lv st hp ce sl := sv_iload_n hd hi hg k
theorem mr_iload {i : Nat} {z : Int} (hd : decode M.2.1 pc = .ok (.iload i, 2)) (hg : sGet i lv = some (iv z)) (k : sV g M R Z (pc + 2) lv (iv z :: st) hp ce sl) : sV g M R Z pc lv st hp ce sl := sv_iload hd hg k
theorem mr_lload_n {q : Fin 4} {i : Nat} {z : Int} (hd : decode M.2.1 pc = .ok (.lload_n q, 1)) (hi : (q : Nat) = i) (hg : sGet i lv = some (jv z)) (k : sV g M R Z (pc + 1) lv (jv z :: st) hp ce sl) : sV g M R Z pc lv st hp ce sl := sv_lload_n hd hi hg k
theorem mr_lload {i : Nat} {z : Int} (hd : decode M.2.1 pc = .ok (.lload i, 2)) (hg : sGet i lv = some (jv z)) (k : sV g M R Z (pc + 2) lv (jv z :: st) hp ce sl) : sV g M R Z pc lv st hp ce sl := sv_lload hd hg k
theorem mr_istore_n {q : Fin 4} {i : Nat} {z : Int} (hd : decode M.2.1 pc = .ok (.istore_n q, 1)) (hi : (q : Nat) = i) (hn : i < M.2.2.1) (hl : sSet i (iv z) lv = lv') (k : sV g M R Z (pc + 1) lv' st hp ce sl) : sV g M R Z pc lv (iv z :: st) hp ce sl := sv_istore_n hd hi hn (by subst hl; exact k)
theorem mr_istore {i : Nat} {z : Int} (hd : decode M.2.1 pc = .ok (.istore i, 2)) (hn : i < M.2.2.1) (hl : sSet i (iv z) lv = lv') (k : sV g M R Z (pc + 2) lv' st hp ce sl) : sV g M R Z pc lv (iv z :: st) hp ce sl := sv_istore hd hn (by subst hl; exact k)
theorem mr_lstore_n {q : Fin 4} {i : Nat} {z : Int} (hd : decode M.2.1 pc = .ok (.lstore_n q, 1)) (hi : (q : Nat) = i) (hn : i + 1 < M.2.2.1) (hl : sSetL i (jv z) lv = lv') (k : sV g M R Z (pc + 1) lv' st hp ce sl) : sV g M R Z pc lv (jv z :: st) hp ce sl := sv_lstore_n hd hi hn (by subst hl; exact k)
theorem mr_lstore {i : Nat} {z : Int} (hd : decode M.2.1 pc = .ok (.lstore i, 2)) (hn : i + 1 < M.2.2.1) (hl : sSetL i (jv z) lv = lv') (k : sV g M R Z (pc + 2) lv' st hp ce sl) : sV g M R Z pc lv (jv z :: st) hp ce sl := sv_lstore hd hn (by subst hl; exact k)
theorem mr_astore_n {q : Fin 4} {i a : Nat} (hd : decode M.2.1 pc = .ok (.astore_n q, 1)) (hi : (q : Nat) = i) (hn : i < M.2.2.1) (hl : sSet i (.ref a) lv = lv') (k : sV g M R Z (pc + 1) lv' st hp ce sl) : sV g M R Z pc lv (.ref a :: st) hp ce sl := sv_astore_n hd hi hn (by subst hl; exact k)
theorem mr_astore {i a : Nat} (hd : decode M.2.1 pc = .ok (.astore i, 2)) (hn : i < M.2.2.1) (hl : sSet i (.ref a) lv = lv') (k : sV g M R Z (pc + 2) lv' st hp ce sl) : sV g M R Z pc lv (.ref a :: st) hp ce sl := sv_astore hd hn (by subst hl; exact k)
theorem mr_iinc {i : Nat} {n z : Int} (hd : decode M.2.1 pc = .ok (.iinc i n, 3)) (hg : sGet i lv = some (iv z)) (hn : i < M.2.2.1) (hl : sSet i (iv (z + n)) lv = lv') (k : sV g M R Z (pc + 3) lv' st hp ce sl) : sV g M R Z pc lv st hp ce sl := sv_iinc hd hg rfl hn (by rw [← Int32.ofInt_add]; subst hl; exact k)
theorem mr_iadd {x y : Int} (hd : decode M.2.1 pc = .ok (.iadd, 1)) (k : sV g M R Z (pc + 1) lv (iv (x + y) :: st) hp ce sl) : sV g M R Z pc lv (iv y :: iv x :: st) hp ce sl := sv_iadd hd (by rw [← Int32.ofInt_add]; exact k)
theorem mr_isub {x y : Int} (hd : decode M.2.1 pc = .ok (.isub, 1)) (k : sV g M R Z (pc + 1) lv (iv (x - y) :: st) hp ce sl) : sV g M R Z pc lv (iv y :: iv x :: st) hp ce sl := sv_isub hd (by rw [← Int32.ofInt_sub]; exact k)
theorem mr_imul {x y : Int} (hd : decode M.2.1 pc = .ok (.imul, 1)) (k : sV g M R Z (pc + 1) lv (iv (x * y) :: st) hp ce sl) : sV g M R Z pc lv (iv y :: iv x :: st) hp ce sl := sv_imul hd (by rw [← Int32.ofInt_mul]; exact k)
theorem mr_ineg {x : Int} (hd : decode M.2.1 pc = .ok (.ineg, 1)) (k : sV g M R Z (pc + 1) lv (iv (-x) :: st) hp ce sl) : sV g M R Z pc lv (iv x :: st) hp ce sl := sv_ineg hd (by rw [← Int32.ofInt_neg]; exact k)
theorem mr_cast {x : Int} (h : -2147483648 ≤ x ∧ x ≤ 2147483647) (v : Int32) (q : v.toInt = x) : (Value.int v) = iv x := by
  subst q; simp only [iv, Int32.ofInt_toInt]
theorem mr_iand {x y : Int} (hd : decode M.2.1 pc = .ok (.iand, 1)) (k : sV g M R Z (pc + 1) lv (iv (bAnd x y) :: st) hp ce sl) : sV g M R Z pc lv (iv y :: iv x :: st) hp ce sl := sv_iand hd (by simp only [bAnd, iv, Int32.ofInt_toInt] at k; exact k)
theorem mr_ior {x y : Int} (hd : decode M.2.1 pc = .ok (.ior, 1)) (k : sV g M R Z (pc + 1) lv (iv (bOr x y) :: st) hp ce sl) : sV g M R Z pc lv (iv y :: iv x :: st) hp ce sl := sv_ior hd (by simp only [bOr, iv, Int32.ofInt_toInt] at k; exact k)
theorem mr_ixor {x y : Int} (hd : decode M.2.1 pc = .ok (.ixor, 1)) (k : sV g M R Z (pc + 1) lv (iv (bXor x y) :: st) hp ce sl) : sV g M R Z pc lv (iv y :: iv x :: st) hp ce sl := sv_ixor hd (by simp only [bXor, iv, Int32.ofInt_toInt] at k; exact k)
theorem mr_ishl {x y : Int} (hd : decode M.2.1 pc = .ok (.ishl, 1)) (k : sV g M R Z (pc + 1) lv (iv (bShl x y) :: st) hp ce sl) : sV g M R Z pc lv (iv y :: iv x :: st) hp ce sl := sv_ishl hd (by simp only [bShl, iv, Int32.ofInt_toInt] at k; exact k)
theorem mr_ishr {x y : Int} (hd : decode M.2.1 pc = .ok (.ishr, 1)) (k : sV g M R Z (pc + 1) lv (iv (bShr x y) :: st) hp ce sl) : sV g M R Z pc lv (iv y :: iv x :: st) hp ce sl := sv_ishr hd (by simp only [bShr, iv, Int32.ofInt_toInt] at k; exact k)
theorem mr_iushr {x y : Int} (hd : decode M.2.1 pc = .ok (.iushr, 1)) (k : sV g M R Z (pc + 1) lv (iv (bUsh x y) :: st) hp ce sl) : sV g M R Z pc lv (iv y :: iv x :: st) hp ce sl := sv_iushr hd rfl (by simp only [bUsh, iv, Int32.ofInt_toInt] at k; exact k)
theorem mr_i2b {x : Int} (hd : decode M.2.1 pc = .ok (.i2b, 1)) (k : sV g M R Z (pc + 1) lv (iv (bByte x) :: st) hp ce sl) : sV g M R Z pc lv (iv x :: st) hp ce sl := sv_i2b hd rfl (by simp only [bByte, iv, Int32.ofInt_toInt] at k; exact k)
theorem mr_idiv {x y : Int} (hd : decode M.2.1 pc = .ok (.idiv, 1)) (hx : 0 ≤ x ∧ x ≤ 2147483647) (hy : 0 < y ∧ y ≤ 2147483647) (k : sV g M R Z (pc + 1) lv (iv (x / y) :: st) hp ce sl) : sV g M R Z pc lv (iv y :: iv x :: st) hp ce sl := by
  have e : Int32.ofInt x / Int32.ofInt y = Int32.ofInt (x / y) := by
    rw [← Int.tdiv_eq_ediv_of_nonneg hx.1]
    exact (Int32.ofInt_tdiv (by show -2147483648 ≤ x; omega) (by show x ≤ 2147483647; omega) (by show -2147483648 ≤ y; omega) (by show y ≤ 2147483647; omega)).symm
  refine sv_idiv hd (fun q => ?_) (by rw [e]; exact k)
  have : Int32.ofInt y = Int32.ofInt 0 := q
  rw [iv_eq (by omega) (by omega)] at this; omega
theorem mr_irem {x y : Int} (hd : decode M.2.1 pc = .ok (.irem, 1)) (hx : 0 ≤ x ∧ x ≤ 2147483647) (hy : 0 < y ∧ y ≤ 2147483647) (k : sV g M R Z (pc + 1) lv (iv (x % y) :: st) hp ce sl) : sV g M R Z pc lv (iv y :: iv x :: st) hp ce sl := by
  have e : Int32.ofInt x / Int32.ofInt y = Int32.ofInt (x / y) := by
    rw [← Int.tdiv_eq_ediv_of_nonneg hx.1]
    exact (Int32.ofInt_tdiv (by show -2147483648 ≤ x; omega) (by show x ≤ 2147483647; omega) (by show -2147483648 ≤ y; omega) (by show y ≤ 2147483647; omega)).symm
  refine sv_irem hd (fun q => ?_) ?_
  · have : Int32.ofInt y = Int32.ofInt 0 := q
    rw [iv_eq (by omega) (by omega)] at this; omega
  · rw [e, ← Int32.ofInt_mul, ← Int32.ofInt_sub]
    rw [show x - x / y * y = x % y by have := Int.emod_add_mul_ediv x y; rw [Int.mul_comm] at this; omega]
    exact k
theorem mr_land {x y : Int} (hd : decode M.2.1 pc = .ok (.land, 1)) (k : sV g M R Z (pc + 1) lv (jv (lAnd x y) :: st) hp ce sl) : sV g M R Z pc lv (jv y :: jv x :: st) hp ce sl := sv_land hd (by simp only [lAnd, jv, Int64.ofInt_toInt] at k; exact k)
theorem mr_lor {x y : Int} (hd : decode M.2.1 pc = .ok (.lor, 1)) (k : sV g M R Z (pc + 1) lv (jv (lOr x y) :: st) hp ce sl) : sV g M R Z pc lv (jv y :: jv x :: st) hp ce sl := sv_lor hd (by simp only [lOr, jv, Int64.ofInt_toInt] at k; exact k)
theorem mr_ladd {x y : Int} (hd : decode M.2.1 pc = .ok (.ladd, 1)) (k : sV g M R Z (pc + 1) lv (jv (lAdd x y) :: st) hp ce sl) : sV g M R Z pc lv (jv y :: jv x :: st) hp ce sl := sv_ladd hd (by simp only [lAdd, jv, Int64.ofInt_toInt] at k; exact k)
theorem mr_lsub {x y : Int} (hd : decode M.2.1 pc = .ok (.lsub, 1)) (k : sV g M R Z (pc + 1) lv (jv (lSub x y) :: st) hp ce sl) : sV g M R Z pc lv (jv y :: jv x :: st) hp ce sl := sv_lsub hd (by simp only [lSub, jv, Int64.ofInt_toInt] at k; exact k)
theorem mr_lshl {x y : Int} (hd : decode M.2.1 pc = .ok (.lshl, 1)) (k : sV g M R Z (pc + 1) lv (jv (lShl x y) :: st) hp ce sl) : sV g M R Z pc lv (iv y :: jv x :: st) hp ce sl := sv_lshl hd rfl (by simp only [lShl, jv, Int64.ofInt_toInt] at k; exact k)
theorem mr_lshr {x y : Int} (hd : decode M.2.1 pc = .ok (.lshr, 1)) (k : sV g M R Z (pc + 1) lv (jv (lShr x y) :: st) hp ce sl) : sV g M R Z pc lv (iv y :: jv x :: st) hp ce sl := sv_lshr hd rfl (by simp only [lShr, jv, Int64.ofInt_toInt] at k; exact k)
theorem mr_lushr {x y : Int} (hd : decode M.2.1 pc = .ok (.lushr, 1)) (k : sV g M R Z (pc + 1) lv (jv (lUsh x y) :: st) hp ce sl) : sV g M R Z pc lv (iv y :: jv x :: st) hp ce sl := sv_lushr hd rfl (by simp only [lUsh, jv, Int64.ofInt_toInt] at k; exact k)
theorem mr_i2l {x : Int} (hd : decode M.2.1 pc = .ok (.i2l, 1)) (hx : -2147483648 ≤ x ∧ x ≤ 2147483647) (k : sV g M R Z (pc + 1) lv (jv x :: st) hp ce sl) : sV g M R Z pc lv (iv x :: st) hp ce sl := sv_i2l hd (v := Int64.ofInt x) (Int64.toInt_inj.mp (by rw [Int32.toInt_toInt64, ivI hx, jvI (by omega)])) k
theorem mr_l2i {x : Int} (hd : decode M.2.1 pc = .ok (.l2i, 1)) (k : sV g M R Z (pc + 1) lv (iv (lInt x) :: st) hp ce sl) : sV g M R Z pc lv (jv x :: st) hp ce sl := sv_l2i hd rfl (by simp only [lInt, iv, Int32.ofInt_toInt] at k; exact k)
theorem mr_lcmp {x y : Int} (hd : decode M.2.1 pc = .ok (.lcmp, 1)) (k : sV g M R Z (pc + 1) lv (iv (lCmp x y) :: st) hp ce sl) : sV g M R Z pc lv (jv y :: jv x :: st) hp ce sl := sv_lcmp hd (by simp only [lCmp, iv, Int32.ofInt_toInt] at k; exact k)
theorem mr_icmp_lt {x y off : Int} {tgt : Nat} (hd : decode M.2.1 pc = .ok (.if_icmp .lt off, 3)) (ht : (pc : Int) + off = (tgt : Int)) (hx : -2147483648 ≤ x ∧ x ≤ 2147483647) (hy : -2147483648 ≤ y ∧ y ≤ 2147483647) (kt : x < y → sV g M R Z tgt lv st hp ce sl) (kf : y ≤ x → sV g M R Z (pc + 3) lv st hp ce sl) : sV g M R Z pc lv (iv y :: iv x :: st) hp ce sl := sv_icmp_lt hd ht (fun h => kt ((iv_lt hx hy).mp h)) (fun h => kf (Int.not_lt.mp fun q => h ((iv_lt hx hy).mpr q)))
theorem mr_icmp_ge {x y off : Int} {tgt : Nat} (hd : decode M.2.1 pc = .ok (.if_icmp .ge off, 3)) (ht : (pc : Int) + off = (tgt : Int)) (hx : -2147483648 ≤ x ∧ x ≤ 2147483647) (hy : -2147483648 ≤ y ∧ y ≤ 2147483647) (kt : y ≤ x → sV g M R Z tgt lv st hp ce sl) (kf : x < y → sV g M R Z (pc + 3) lv st hp ce sl) : sV g M R Z pc lv (iv y :: iv x :: st) hp ce sl := sv_icmp_ge hd ht (fun h => kt ((iv_le hy hx).mp h)) (fun h => kf (Int.not_le.mp fun q => h ((iv_le hy hx).mpr q)))
theorem mr_icmp_gt {x y off : Int} {tgt : Nat} (hd : decode M.2.1 pc = .ok (.if_icmp .gt off, 3)) (ht : (pc : Int) + off = (tgt : Int)) (hx : -2147483648 ≤ x ∧ x ≤ 2147483647) (hy : -2147483648 ≤ y ∧ y ≤ 2147483647) (kt : y < x → sV g M R Z tgt lv st hp ce sl) (kf : x ≤ y → sV g M R Z (pc + 3) lv st hp ce sl) : sV g M R Z pc lv (iv y :: iv x :: st) hp ce sl := sv_icmp_gt hd ht (fun h => kt ((iv_lt hy hx).mp h)) (fun h => kf (Int.not_lt.mp fun q => h ((iv_lt hy hx).mpr q)))
theorem mr_icmp_le {x y off : Int} {tgt : Nat} (hd : decode M.2.1 pc = .ok (.if_icmp .le off, 3)) (ht : (pc : Int) + off = (tgt : Int)) (hx : -2147483648 ≤ x ∧ x ≤ 2147483647) (hy : -2147483648 ≤ y ∧ y ≤ 2147483647) (kt : x ≤ y → sV g M R Z tgt lv st hp ce sl) (kf : y < x → sV g M R Z (pc + 3) lv st hp ce sl) : sV g M R Z pc lv (iv y :: iv x :: st) hp ce sl := sv_icmp_le hd ht (fun h => kt ((iv_le hx hy).mp h)) (fun h => kf (Int.not_le.mp fun q => h ((iv_le hx hy).mpr q)))
theorem mr_icmp_eq {x y off : Int} {tgt : Nat} (hd : decode M.2.1 pc = .ok (.if_icmp .eq off, 3)) (ht : (pc : Int) + off = (tgt : Int)) (hx : -2147483648 ≤ x ∧ x ≤ 2147483647) (hy : -2147483648 ≤ y ∧ y ≤ 2147483647) (kt : x = y → sV g M R Z tgt lv st hp ce sl) (kf : ¬ x = y → sV g M R Z (pc + 3) lv st hp ce sl) : sV g M R Z pc lv (iv y :: iv x :: st) hp ce sl := sv_icmp_eq hd ht (fun h => kt ((iv_eq hx hy).mp h)) (fun h => kf (fun q => h ((iv_eq hx hy).mpr q)))
theorem mr_icmp_ne {x y off : Int} {tgt : Nat} (hd : decode M.2.1 pc = .ok (.if_icmp .ne off, 3)) (ht : (pc : Int) + off = (tgt : Int)) (hx : -2147483648 ≤ x ∧ x ≤ 2147483647) (hy : -2147483648 ≤ y ∧ y ≤ 2147483647) (kt : ¬ x = y → sV g M R Z tgt lv st hp ce sl) (kf : x = y → sV g M R Z (pc + 3) lv st hp ce sl) : sV g M R Z pc lv (iv y :: iv x :: st) hp ce sl := sv_icmp_ne hd ht (fun h => kt (fun q => h ((iv_eq hx hy).mpr q))) (fun h => kf ((iv_eq hx hy).mp h))
theorem z32 : (-2147483648 : Int) ≤ 0 ∧ (0 : Int) ≤ 2147483647 := by decide
theorem mr_if_lt {x off : Int} {tgt : Nat} (hd : decode M.2.1 pc = .ok (.ifCond .lt off, 3)) (ht : (pc : Int) + off = (tgt : Int)) (hx : -2147483648 ≤ x ∧ x ≤ 2147483647) (kt : x < 0 → sV g M R Z tgt lv st hp ce sl) (kf : 0 ≤ x → sV g M R Z (pc + 3) lv st hp ce sl) : sV g M R Z pc lv (iv x :: st) hp ce sl := sv_if_lt hd ht (fun h => kt ((iv_lt hx z32).mp h)) (fun h => kf (Int.not_lt.mp fun q => h ((iv_lt hx z32).mpr q)))
theorem mr_if_ge {x off : Int} {tgt : Nat} (hd : decode M.2.1 pc = .ok (.ifCond .ge off, 3)) (ht : (pc : Int) + off = (tgt : Int)) (hx : -2147483648 ≤ x ∧ x ≤ 2147483647) (kt : 0 ≤ x → sV g M R Z tgt lv st hp ce sl) (kf : x < 0 → sV g M R Z (pc + 3) lv st hp ce sl) : sV g M R Z pc lv (iv x :: st) hp ce sl := sv_if_ge hd ht (fun h => kt ((iv_le z32 hx).mp h)) (fun h => kf (Int.not_le.mp fun q => h ((iv_le z32 hx).mpr q)))
theorem mr_if_gt {x off : Int} {tgt : Nat} (hd : decode M.2.1 pc = .ok (.ifCond .gt off, 3)) (ht : (pc : Int) + off = (tgt : Int)) (hx : -2147483648 ≤ x ∧ x ≤ 2147483647) (kt : 0 < x → sV g M R Z tgt lv st hp ce sl) (kf : x ≤ 0 → sV g M R Z (pc + 3) lv st hp ce sl) : sV g M R Z pc lv (iv x :: st) hp ce sl := sv_if_gt hd ht (fun h => kt ((iv_lt z32 hx).mp h)) (fun h => kf (Int.not_lt.mp fun q => h ((iv_lt z32 hx).mpr q)))
theorem mr_if_le {x off : Int} {tgt : Nat} (hd : decode M.2.1 pc = .ok (.ifCond .le off, 3)) (ht : (pc : Int) + off = (tgt : Int)) (hx : -2147483648 ≤ x ∧ x ≤ 2147483647) (kt : x ≤ 0 → sV g M R Z tgt lv st hp ce sl) (kf : 0 < x → sV g M R Z (pc + 3) lv st hp ce sl) : sV g M R Z pc lv (iv x :: st) hp ce sl := sv_if_le hd ht (fun h => kt ((iv_le hx z32).mp h)) (fun h => kf (Int.not_le.mp fun q => h ((iv_le hx z32).mpr q)))
theorem mr_if_eq {x off : Int} {tgt : Nat} (hd : decode M.2.1 pc = .ok (.ifCond .eq off, 3)) (ht : (pc : Int) + off = (tgt : Int)) (hx : -2147483648 ≤ x ∧ x ≤ 2147483647) (kt : x = 0 → sV g M R Z tgt lv st hp ce sl) (kf : ¬ x = 0 → sV g M R Z (pc + 3) lv st hp ce sl) : sV g M R Z pc lv (iv x :: st) hp ce sl := sv_if_eq hd ht (fun h => kt ((iv_eq hx z32).mp h)) (fun h => kf (fun q => h ((iv_eq hx z32).mpr q)))
theorem mr_if_ne {x off : Int} {tgt : Nat} (hd : decode M.2.1 pc = .ok (.ifCond .ne off, 3)) (ht : (pc : Int) + off = (tgt : Int)) (hx : -2147483648 ≤ x ∧ x ≤ 2147483647) (kt : ¬ x = 0 → sV g M R Z tgt lv st hp ce sl) (kf : x = 0 → sV g M R Z (pc + 3) lv st hp ce sl) : sV g M R Z pc lv (iv x :: st) hp ce sl := sv_if_ne hd ht (fun h => kt (fun q => h ((iv_eq hx z32).mpr q))) (fun h => kf ((iv_eq hx z32).mp h))
theorem mr_tableIn {dflt lo hi : Int} {offs : Array Int} {len : Nat} {x v off : Int} {tgt : Nat} (hd : decode M.2.1 pc = .ok (.tableswitch dflt lo hi offs, len)) (hx : x = v) (hv : decide (-2147483648 ≤ v) && (decide (v ≤ 2147483647) && (decide (lo ≤ v) && decide (v ≤ hi))) = true) (ho : offs[(v - lo).toNat]? = some off) (ht : (pc : Int) + off = (tgt : Int)) (k : sV g M R Z tgt lv st hp ce sl) : sV g M R Z pc lv (iv x :: st) hp ce sl := by
  subst hx
  simp only [Bool.and_eq_true, decide_eq_true_eq] at hv
  have e := ivI (x := x) (by omega)
  exact sv_tableIn hd (by rw [e]; omega) (by rw [e]; omega) (by rw [e]; exact ho) ht k
theorem mr_tableOut {dflt lo hi : Int} {offs : Array Int} {len : Nat} {x : Int} {tgt : Nat} (hd : decode M.2.1 pc = .ok (.tableswitch dflt lo hi offs, len)) (hx : -2147483648 ≤ x ∧ x ≤ 2147483647) (ho : x < lo ∨ hi < x) (ht : (pc : Int) + dflt = (tgt : Int)) (k : sV g M R Z tgt lv st hp ce sl) : sV g M R Z pc lv (iv x :: st) hp ce sl := by
  have e := ivI hx
  exact sv_tableOut hd (by rw [e]; exact ho) ht k
/-! cells -/
theorem rf_nat (b : Nat) : rf (b : Int) = .ref b := by
  simp only [rf]; rw [if_neg (by omega)]; rfl
theorem rf_pos {z : Int} (h : 0 ≤ z) : rf z = .ref z.toNat := by simp only [rf]; rw [if_neg (by omega)]
theorem mr_get {index ci a s k kk : Nat} {T : vw_C} {ty : Nat → FieldType} {ks : List Nat} {z : Int} (hd : decode M.2.1 pc = .ok (.getfield index, 3)) (hC : sCl g ci T ty) (hk : k < T.2.2) (hw : sFl T M.1.cls index k ∈ sg_ws g) (hA : mAt w a s) (hs : mTab s = .inl (ci, ks)) (hl : k < ks.length) (hkk : ks.getD k 0 = kk) (q : μ a k = z)
    (kt : sV g M R Z (pc + 3) lv (mv kk z :: st) (mk w μ) ce sl) : sV g M R Z pc lv (.ref a :: st) (mk w μ) ce sl :=
  sv_getfield hd hC k hk hw hA.2.1 (mk_obj hA hs) (by rw [mRgV _ hl, hkk, q]) kt
theorem mr_put {index ci a s k kk : Nat} {T : vw_C} {ty : Nat → FieldType} {ks : List Nat} {z : Int} (hd : decode M.2.1 pc = .ok (.putfield index, 3)) (hC : sCl g ci T ty) (hk : k < T.2.2) (hw : sFl T M.1.cls index k ∈ sg_ws g) (hfin : (T.2.1 k).2.2.2 = false) (hA : mAt w a s) (hs : mTab s = .inl (ci, ks)) (hl : k < ks.length) (hkk : ks.getD k 0 = kk) (hn : ∀ b, narrow (ty k) (rv b (mv kk z)) = rv b (mv kk z)) (hft : ∀ b, fits (ty k) (rv b (mv kk z)) = true)
    (kt : ∀ μ1, mU μ a k z μ1 → sV g M R Z (pc + 3) lv st (mk w μ1) ce sl) : sV g M R Z pc lv (mv kk z :: .ref a :: st) (mk w μ) ce sl := by
  refine sv_putfield hd hC k hk hw hfin hA.2.1 (mk_obj hA hs) hn hft (by simp; exact hl) ?_
  refine sv_heap (hp' := mk w (mUp μ a k z)) rfl (fun j _ => ?_) (kt _ mUp_ok)
  show sUp (mk w μ).2 a _ j = (mk w (mUp μ a k z)).2 j
  by_cases h : j = a
  · subst h
    rw [sUp_at, mk_obj hA hs, mRgS]
    congr 2
    apply List.map_congr_left
    intro i _
    simp only [mUp, true_and]
    split
    next e => subst e; rw [hkk]
    next => rfl
  · rw [sUp_ne _ _ h, mk_other h]
theorem mr_aget {a s kd n : Nat} {e : Int} (hA : mAt w a s) (hs : mTab s = .inr (kd, n)) (hi : 0 ≤ e ∧ e < (w.2.2.1 a : Int)) (hn : w.2.2.1 a ≤ 2147483647) : vp_in (Int32.ofInt e) (w.2.2.1 a) ∧ ∀ z, μ a e.toNat = z → mv n (μ a (Int32.ofInt e).toNatClampNeg) = mv n z := ⟨iv_in hi hn, fun z q => by rw [iv_nat hi hn, q]⟩
theorem mr_iald {a s kd : Nat} {cA : ClassId} {e z : Int} (hd : decode M.2.1 pc = .ok (.iaload, 1)) (ht : g.2.2.1[kd]? = some (cA, .int)) (hA : mAt w a s) (hs : mTab s = .inr (kd, 0)) (hi : 0 ≤ e ∧ e < (w.2.2.1 a : Int)) (hn : w.2.2.1 a ≤ 2147483647) (q : μ a e.toNat = z)
    (kt : sV g M R Z (pc + 1) lv (iv z :: st) (mk w μ) ce sl) : sV g M R Z pc lv (iv e :: .ref a :: st) (mk w μ) ce sl :=
  sv_iaload hd ht hA.2.1 (mk_arr hA hs) (iv_in hi hn) ((mr_aget hA hs hi hn).2 z q) kt
theorem mr_bald {a s kd : Nat} {cA : ClassId} {e z : Int} (hd : decode M.2.1 pc = .ok (.baload, 1)) (ht : g.2.2.1[kd]? = some (cA, .byte)) (hA : mAt w a s) (hs : mTab s = .inr (kd, 0)) (hi : 0 ≤ e ∧ e < (w.2.2.1 a : Int)) (hn : w.2.2.1 a ≤ 2147483647) (q : μ a e.toNat = z)
    (kt : sV g M R Z (pc + 1) lv (iv z :: st) (mk w μ) ce sl) : sV g M R Z pc lv (iv e :: .ref a :: st) (mk w μ) ce sl :=
  sv_baload hd ht hA.2.1 (mk_arr hA hs) (iv_in hi hn) ((mr_aget hA hs hi hn).2 z q) kt
theorem mr_zald {a s kd : Nat} {cA : ClassId} {e z : Int} (hd : decode M.2.1 pc = .ok (.baload, 1)) (ht : g.2.2.1[kd]? = some (cA, .boolean)) (hA : mAt w a s) (hs : mTab s = .inr (kd, 0)) (hi : 0 ≤ e ∧ e < (w.2.2.1 a : Int)) (hn : w.2.2.1 a ≤ 2147483647) (q : μ a e.toNat = z)
    (kt : sV g M R Z (pc + 1) lv (iv z :: st) (mk w μ) ce sl) : sV g M R Z pc lv (iv e :: .ref a :: st) (mk w μ) ce sl :=
  sv_zaload hd ht hA.2.1 (mk_arr hA hs) (iv_in hi hn) ((mr_aget hA hs hi hn).2 z q) kt
theorem mr_lald {a s kd : Nat} {cA : ClassId} {e z : Int} (hd : decode M.2.1 pc = .ok (.laload, 1)) (ht : g.2.2.1[kd]? = some (cA, .long)) (hA : mAt w a s) (hs : mTab s = .inr (kd, 1)) (hi : 0 ≤ e ∧ e < (w.2.2.1 a : Int)) (hn : w.2.2.1 a ≤ 2147483647) (q : μ a e.toNat = z)
    (kt : sV g M R Z (pc + 1) lv (jv z :: st) (mk w μ) ce sl) : sV g M R Z pc lv (iv e :: .ref a :: st) (mk w μ) ce sl :=
  sv_laload hd ht hA.2.1 (mk_arr hA hs) (iv_in hi hn) ((mr_aget hA hs hi hn).2 z q) kt
theorem mr_aald {a s kd : Nat} {cA : ClassId} {C0 : String} {e : Int} {b : Nat} (hd : decode M.2.1 pc = .ok (.aaload, 1)) (ht : g.2.2.1[kd]? = some (cA, .object C0)) (hA : mAt w a s) (hs : mTab s = .inr (kd, 2)) (hi : 0 ≤ e ∧ e < (w.2.2.1 a : Int)) (hn : w.2.2.1 a ≤ 2147483647) (q : μ a e.toNat = (b : Int))
    (kt : sV g M R Z (pc + 1) lv (.ref b :: st) (mk w μ) ce sl) : sV g M R Z pc lv (iv e :: .ref a :: st) (mk w μ) ce sl :=
  sv_aaload hd ht hA.2.1 (mk_arr hA hs) (iv_in hi hn) (((mr_aget hA hs hi hn).2 _ q).trans (rf_nat b)) kt
theorem mr_astH {a s kd n : Nat} {e z : Int} {v : Value} (hA : mAt w a s) (hs : mTab s = .inr (kd, n)) (hi : 0 ≤ e ∧ e < (w.2.2.1 a : Int)) (hn : w.2.2.1 a ≤ 2147483647) (hv : v = mv n z)
    (kt : ∀ μ1, mU μ a e.toNat z μ1 → sV g M R Z (pc + 1) lv st (mk w μ1) ce sl) : sV g M R Z (pc + 1) lv st ((mk w μ).1, sUp (mk w μ).2 a (.inl (kd, w.2.2.1 a, updV (fun i => mv n (μ a i)) (Int32.ofInt e).toNatClampNeg v))) ce sl := by
  refine sv_heap (hp' := mk w (mUp μ a e.toNat z)) rfl (fun j _ => ?_) (kt _ mUp_ok)
  show sUp (mk w μ).2 a _ j = (mk w (mUp μ a e.toNat z)).2 j
  by_cases h : j = a
  · subst h
    rw [sUp_at, mk_arr hA hs, iv_nat hi hn, hv]
    congr 3
    funext i
    simp only [updV, mUp, true_and]
    split <;> rfl
  · rw [sUp_ne _ _ h, mk_other h]
theorem mr_iast {a s kd : Nat} {cA : ClassId} {e z : Int} (hd : decode M.2.1 pc = .ok (.iastore, 1)) (ht : g.2.2.1[kd]? = some (cA, .int)) (hA : mAt w a s) (hs : mTab s = .inr (kd, 0)) (hi : 0 ≤ e ∧ e < (w.2.2.1 a : Int)) (hn : w.2.2.1 a ≤ 2147483647)
    (kt : ∀ μ1, mU μ a e.toNat z μ1 → sV g M R Z (pc + 1) lv st (mk w μ1) ce sl) : sV g M R Z pc lv (iv z :: iv e :: .ref a :: st) (mk w μ) ce sl :=
  sv_iastore hd ht hA.2.1 (mk_arr hA hs) (iv_in hi hn) (mr_astH hA hs hi hn rfl kt)
theorem mr_last {a s kd : Nat} {cA : ClassId} {e z : Int} (hd : decode M.2.1 pc = .ok (.lastore, 1)) (ht : g.2.2.1[kd]? = some (cA, .long)) (hA : mAt w a s) (hs : mTab s = .inr (kd, 1)) (hi : 0 ≤ e ∧ e < (w.2.2.1 a : Int)) (hn : w.2.2.1 a ≤ 2147483647)
    (kt : ∀ μ1, mU μ a e.toNat z μ1 → sV g M R Z (pc + 1) lv st (mk w μ1) ce sl) : sV g M R Z pc lv (jv z :: iv e :: .ref a :: st) (mk w μ) ce sl :=
  sv_lastore hd ht hA.2.1 (mk_arr hA hs) (iv_in hi hn) (mr_astH hA hs hi hn rfl kt)
theorem nar01 {z : Int} (h : 0 ≤ z ∧ z ≤ 1) : vp_nar .boolean (Int32.ofInt z) = Int32.ofInt z := by
  have : z = 0 ∨ z = 1 := by omega
  rcases this with rfl | rfl <;> decide
theorem nar01v {z : Int} (h : 0 ≤ z ∧ z ≤ 1) (b : Nat × Nat) : narrow .boolean (rv b (iv z)) = rv b (iv z) := by
  have : z = 0 ∨ z = 1 := by omega
  rcases this with rfl | rfl <;> rfl
theorem nar01i {z : Int} (h : 0 ≤ z ∧ z ≤ 1) : narrow .boolean (.int (Int32.ofInt z)) = .int (Int32.ofInt z) := by
  have : z = 0 ∨ z = 1 := by omega
  rcases this with rfl | rfl <;> rfl
theorem mr_zast {a s kd : Nat} {cA : ClassId} {e z : Int} (hd : decode M.2.1 pc = .ok (.bastore, 1)) (ht : g.2.2.1[kd]? = some (cA, .boolean)) (hA : mAt w a s) (hs : mTab s = .inr (kd, 0)) (hi : 0 ≤ e ∧ e < (w.2.2.1 a : Int)) (hn : w.2.2.1 a ≤ 2147483647) (hz : 0 ≤ z ∧ z ≤ 1)
    (kt : ∀ μ1, mU μ a e.toNat z μ1 → sV g M R Z (pc + 1) lv st (mk w μ1) ce sl) : sV g M R Z pc lv (iv z :: iv e :: .ref a :: st) (mk w μ) ce sl :=
  sv_zastore hd ht hA.2.1 (mk_arr hA hs) (iv_in hi hn) (mr_astH hA hs hi hn (by rw [nar01 hz]; rfl) kt)
/-! results, returns, calls -/
end MV
def qI (w : mW) (l : List Nat) (μ : mM) (P : Int → mM → Prop) : Option Value → sHp → Prop := fun r hp => ∃ z μ1, r = some (iv z) ∧ hp = mk w μ1 ∧ mT w μ1 ∧ mF l w μ μ1 ∧ P z μ1
def qJ (w : mW) (l : List Nat) (μ : mM) (P : Int → mM → Prop) : Option Value → sHp → Prop := fun r hp => ∃ z μ1, r = some (jv z) ∧ hp = mk w μ1 ∧ mT w μ1 ∧ mF l w μ μ1 ∧ P z μ1
def qV (w : mW) (l : List Nat) (μ : mM) (P : mM → Prop) : Option Value → sHp → Prop := fun r hp => ∃ μ1, r = none ∧ hp = mk w μ1 ∧ mT w μ1 ∧ mF l w μ μ1 ∧ P μ1
section MC
variable {g : sG} {M M' : sM} {R : Room} {Z : sZT} {d' d C S : Nat} {pc : Nat} {lv : List (Nat × Value)} {st st0 av : List Value} {w : mW} {μ μ1 : mM} {l : List Nat} {ce sl : Nat}
theorem mr_iret {z : Int} {P : Int → mM → Prop} (hd : decode M.2.1 pc = .ok (.ireturn, 1)) (hret : M.2.2.2 = some .int) (hc : ce ≤ C) (hs : sl ≤ S) (hT : mT w μ1) (hF : mF l w μ μ1) (hP : P z μ1) : sV g M R (sZ g C S (qI w l μ P)) pc lv [iv z] (mk w μ1) ce sl := sv_iret hd hret hc hs ⟨z, μ1, rfl, rfl, hT, hF, hP⟩
theorem mr_zret {z : Int} {P : Int → mM → Prop} (hd : decode M.2.1 pc = .ok (.ireturn, 1)) (hret : M.2.2.2 = some .boolean) (hz : 0 ≤ z ∧ z ≤ 1) (hc : ce ≤ C) (hs : sl ≤ S) (hT : mT w μ1) (hF : mF l w μ μ1) (hP : P z μ1) : sV g M R (sZ g C S (qI w l μ P)) pc lv [iv z] (mk w μ1) ce sl := sv_zret hd hret (nar01i hz) hc hs ⟨z, μ1, rfl, rfl, hT, hF, hP⟩
theorem mr_lret {z : Int} {P : Int → mM → Prop} (hd : decode M.2.1 pc = .ok (.lreturn, 1)) (hret : M.2.2.2 = some .long) (hc : ce ≤ C) (hs : sl ≤ S) (hT : mT w μ1) (hF : mF l w μ μ1) (hP : P z μ1) : sV g M R (sZ g C S (qJ w l μ P)) pc lv [jv z] (mk w μ1) ce sl := sv_lret hd hret hc hs ⟨z, μ1, rfl, rfl, hT, hF, hP⟩
theorem mr_vret {P : mM → Prop} (hd : decode M.2.1 pc = .ok (.return_, 1)) (hret : M.2.2.2 = none) (hc : ce ≤ C) (hs : sl ≤ S) (hT : mT w μ1) (hF : mF l w μ μ1) (hP : P μ1) : sV g M R (sZ g C S (qV w l μ P)) pc lv [] (mk w μ1) ce sl := sv_vret hd hret hc hs ⟨μ1, rfl, rfl, hT, hF, hP⟩
theorem mr_cVI {index ci a s : Nat} {T : vw_C} {ty : Nat → FieldType} {ks : List Nat} {P : Int → mM → Prop} (hct : sC g M' d' 0 0 (.ref a :: av) (mk w μ) (qI w l μ P)) (ho : sOk g) (hd : decode M.2.1 pc = .ok (.invokevirtual index, 3)) (hm : sMt g M' av.length) (hi : Cond.instanceMethod M'.1 ∈ sg_ws g ∧ Cond.selects M'.1.cls M'.1 M'.1 ∈ sg_ws g) (hlk : Cond.methodLink M.1.cls index M'.1 ∈ sg_ws g) (hC : sCl g ci T ty) (hT1 : T.1 = M'.1.cls) (hA : mAt w a s) (hs : mTab s = .inl (ci, ks)) (hR : d' + 1 ≤ R.frames ∧ 60 * d' + M'.2.2.1 + 19 ≤ R.locals) (hce : ce ≤ R.cells ∧ sl ≤ R.slots) (hst : st0 = av.reverse ++ .ref a :: st) (hr8 : (st.map fun v => v.category).sum ≤ 8)
    (kt : ∀ z μ1, mT w μ1 → mF l w μ μ1 → P z μ1 → sV g M R Z (pc + 3) lv (iv z :: st) (mk w μ1) ce sl) : sV g M R Z pc lv st0 (mk w μ) ce sl :=
  sv_callV hct ho hd hm hi hlk hC hT1 hA.2.1 (mk_obj hA hs) hR hce hst hr8 (by
    rintro r hp' ⟨z, μ1, rfl, rfl, h1, h2, h3⟩
    exact kt z μ1 h1 h2 h3)
theorem mr_cVJ {index ci a s : Nat} {T : vw_C} {ty : Nat → FieldType} {ks : List Nat} {P : Int → mM → Prop} (hct : sC g M' d' 0 0 (.ref a :: av) (mk w μ) (qJ w l μ P)) (ho : sOk g) (hd : decode M.2.1 pc = .ok (.invokevirtual index, 3)) (hm : sMt g M' av.length) (hi : Cond.instanceMethod M'.1 ∈ sg_ws g ∧ Cond.selects M'.1.cls M'.1 M'.1 ∈ sg_ws g) (hlk : Cond.methodLink M.1.cls index M'.1 ∈ sg_ws g) (hC : sCl g ci T ty) (hT1 : T.1 = M'.1.cls) (hA : mAt w a s) (hs : mTab s = .inl (ci, ks)) (hR : d' + 1 ≤ R.frames ∧ 60 * d' + M'.2.2.1 + 19 ≤ R.locals) (hce : ce ≤ R.cells ∧ sl ≤ R.slots) (hst : st0 = av.reverse ++ .ref a :: st) (hr8 : (st.map fun v => v.category).sum ≤ 8)
    (kt : ∀ z μ1, mT w μ1 → mF l w μ μ1 → P z μ1 → sV g M R Z (pc + 3) lv (jv z :: st) (mk w μ1) ce sl) : sV g M R Z pc lv st0 (mk w μ) ce sl :=
  sv_callV hct ho hd hm hi hlk hC hT1 hA.2.1 (mk_obj hA hs) hR hce hst hr8 (by
    rintro r hp' ⟨z, μ1, rfl, rfl, h1, h2, h3⟩
    exact kt z μ1 h1 h2 h3)
theorem mr_cVV {index ci a s : Nat} {T : vw_C} {ty : Nat → FieldType} {ks : List Nat} {P : mM → Prop} (hct : sC g M' d' 0 0 (.ref a :: av) (mk w μ) (qV w l μ P)) (ho : sOk g) (hd : decode M.2.1 pc = .ok (.invokevirtual index, 3)) (hm : sMt g M' av.length) (hi : Cond.instanceMethod M'.1 ∈ sg_ws g ∧ Cond.selects M'.1.cls M'.1 M'.1 ∈ sg_ws g) (hlk : Cond.methodLink M.1.cls index M'.1 ∈ sg_ws g) (hC : sCl g ci T ty) (hT1 : T.1 = M'.1.cls) (hA : mAt w a s) (hs : mTab s = .inl (ci, ks)) (hR : d' + 1 ≤ R.frames ∧ 60 * d' + M'.2.2.1 + 19 ≤ R.locals) (hce : ce ≤ R.cells ∧ sl ≤ R.slots) (hst : st0 = av.reverse ++ .ref a :: st) (hr8 : (st.map fun v => v.category).sum ≤ 8)
    (kt : ∀ μ1, mT w μ1 → mF l w μ μ1 → P μ1 → sV g M R Z (pc + 3) lv st (mk w μ1) ce sl) : sV g M R Z pc lv st0 (mk w μ) ce sl :=
  sv_callV hct ho hd hm hi hlk hC hT1 hA.2.1 (mk_obj hA hs) hR hce hst hr8 (by
    rintro r hp' ⟨μ1, rfl, rfl, h1, h2, h3⟩
    exact kt μ1 h1 h2 h3)
theorem mr_cSI {index : Nat} {P : Int → mM → Prop} (hct : sC g M' d' 0 0 av (mk w μ) (qI w l μ P)) (ho : sOk g) (hd : decode M.2.1 pc = .ok (.invokestatic index, 3)) (hm : sMt g M' av.length) (hi : Cond.static M'.1 ∈ sg_ws g) (hlk : Cond.methodLink M.1.cls index M'.1 ∈ sg_ws g) (hR : d' + 1 ≤ R.frames ∧ 60 * d' + M'.2.2.1 + 19 ≤ R.locals) (hce : ce ≤ R.cells ∧ sl ≤ R.slots) (hst : st0 = av.reverse ++ st) (hr8 : (st.map fun v => v.category).sum ≤ 8)
    (kt : ∀ z μ1, mT w μ1 → mF l w μ μ1 → P z μ1 → sV g M R Z (pc + 3) lv (iv z :: st) (mk w μ1) ce sl) : sV g M R Z pc lv st0 (mk w μ) ce sl :=
  sv_callS hct ho hd hm hi hlk hR hce hst hr8 (by
    rintro r hp' ⟨z, μ1, rfl, rfl, h1, h2, h3⟩
    exact kt z μ1 h1 h2 h3)
theorem mr_cSV {index : Nat} {P : mM → Prop} (hct : sC g M' d' 0 0 av (mk w μ) (qV w l μ P)) (ho : sOk g) (hd : decode M.2.1 pc = .ok (.invokestatic index, 3)) (hm : sMt g M' av.length) (hi : Cond.static M'.1 ∈ sg_ws g) (hlk : Cond.methodLink M.1.cls index M'.1 ∈ sg_ws g) (hR : d' + 1 ≤ R.frames ∧ 60 * d' + M'.2.2.1 + 19 ≤ R.locals) (hce : ce ≤ R.cells ∧ sl ≤ R.slots) (hst : st0 = av.reverse ++ st) (hr8 : (st.map fun v => v.category).sum ≤ 8)
    (kt : ∀ μ1, mT w μ1 → mF l w μ μ1 → P μ1 → sV g M R Z (pc + 3) lv st (mk w μ1) ce sl) : sV g M R Z pc lv st0 (mk w μ) ce sl :=
  sv_callS hct ho hd hm hi hlk hR hce hst hr8 (by
    rintro r hp' ⟨μ1, rfl, rfl, h1, h2, h3⟩
    exact kt μ1 h1 h2 h3)
end MC
end
section
/-! Rules over memory, second row. -/
section MV3
variable {g : sG} {M : sM} {R : Room} {Z : sZT} {pc : Nat} {lv : List (Nat × Value)} {st : List Value} {hp : sHp} {w : mW} {μ : mM} {ce sl : Nat}
theorem mr_wrap {e : Int} (k : ∀ z, (-2147483648 ≤ z ∧ z ≤ 2147483647) → sV g M R Z pc lv (iv z :: st) hp ce sl) : sV g M R Z pc lv (iv e :: st) hp ce sl := by
  have h := k (Int32.ofInt e).toInt (r32i _)
  simp only [iv, Int32.ofInt_toInt] at h ⊢
  exact h
theorem mr_gen {e : Int} {P : Int → Prop} (h : P e) (k : ∀ z, e = z → P z → sV g M R Z pc lv (iv z :: st) hp ce sl) : sV g M R Z pc lv (iv e :: st) hp ce sl := k e rfl h
theorem mr_genL {e : Int} (h : -9223372036854775808 ≤ e ∧ e ≤ 9223372036854775807) (k : ∀ z, e = z → (-9223372036854775808 ≤ z ∧ z ≤ 9223372036854775807) → sV g M R Z pc lv (jv z :: st) hp ce sl) : sV g M R Z pc lv (jv e :: st) hp ce sl := k e rfl h
theorem mr_iincW {i : Nat} {n z : Int} (hd : decode M.2.1 pc = .ok (.iinc i n, 3)) (hg : sGet i lv = some (iv z)) (hn : i < M.2.2.1) (k : ∀ z', (-2147483648 ≤ z' ∧ z' ≤ 2147483647) → sV g M R Z (pc + 3) (sSet i (iv z') lv) st hp ce sl) : sV g M R Z pc lv st hp ce sl := by
  have h := k (Int32.ofInt z + Int32.ofInt n).toInt (r32i _)
  simp only [iv, Int32.ofInt_toInt] at h
  exact sv_iinc hd hg rfl hn h
theorem mr_negS {x : Int} (k : sV g M R Z pc lv (iv (0 - x) :: st) hp ce sl) : sV g M R Z pc lv (iv (-x) :: st) hp ce sl := by
  rw [← Int.zero_sub]; exact k
theorem narB {z : Int} (h : -128 ≤ z ∧ z ≤ 127) : vp_nar .byte (Int32.ofInt z) = Int32.ofInt z := by
  show (Int32.ofInt z).toInt8.toInt32 = Int32.ofInt z
  rw [← Int32.toInt_inj, Int8.toInt_toInt32, Int32.toInt_toInt8, ivI (by omega)]
  simp only [Int.bmod]
  split <;> omega
theorem mr_bast {a s kd : Nat} {cA : ClassId} {e z : Int} (hd : decode M.2.1 pc = .ok (.bastore, 1)) (ht : g.2.2.1[kd]? = some (cA, .byte)) (hA : mAt w a s) (hs : mTab s = .inr (kd, 0)) (hi : 0 ≤ e ∧ e < (w.2.2.1 a : Int)) (hn : w.2.2.1 a ≤ 2147483647) (hz : -128 ≤ z ∧ z ≤ 127)
    (kt : ∀ μ1, mU μ a e.toNat z μ1 → sV g M R Z (pc + 1) lv st (mk w μ1) ce sl) : sV g M R Z pc lv (iv z :: iv e :: .ref a :: st) (mk w μ) ce sl :=
  sv_bastore hd ht hA.2.1 (mk_arr hA hs) (iv_in hi hn) (mr_astH hA hs hi hn (by rw [narB hz]; rfl) kt)
end MV3
theorem rByte (x : Int) : -128 ≤ bByte x ∧ bByte x ≤ 127 := by
  simp only [bByte, Int8.toInt_toInt32]
  have h1 := (Int32.ofInt x).toInt8.le_toInt
  have h2 := (Int32.ofInt x).toInt8.toInt_lt
  omega
theorem rModV {x y c d f : Int} (k : c ≤ y ∧ y ≤ d) (hy : 0 < y ∧ y ≤ 2147483647) (q : decide (d - 1 ≤ f) = true) : 0 ≤ x % y ∧ x % y ≤ f := by
  simp only [decide_eq_true_eq] at q
  have h1 := Int.emod_nonneg x (show y ≠ 0 by omega)
  have h2 := Int.emod_lt_of_pos x hy.1
  omega
theorem rDivV {x y a b f : Int} (h : a ≤ x ∧ x ≤ b) (hy : 0 < y ∧ y ≤ 2147483647) (q : decide (0 ≤ a) && decide (b ≤ f) = true) : 0 ≤ x / y ∧ x / y ≤ f := by
  simp only [Bool.and_eq_true, decide_eq_true_eq] at q
  have h1 : 0 ≤ x / y := Int.ediv_nonneg (by omega) (by omega)
  have h2 : x / y ≤ x := Int.ediv_le_self y (by omega)
  omega
theorem r3264 {x : Int} (h : -2147483648 ≤ x ∧ x ≤ 2147483647) : -9223372036854775808 ≤ x ∧ x ≤ 9223372036854775807 := by omega
theorem nS {a : Int} {n : Nat} (h : a < ((n + 1 : Nat) : Int)) : a < (n : Int) + 1 := by omega
/-! the reference's table of routes: which rows may have changed -/
def mG (rs : List (Int × Int)) (μ μ1 : mM) : Prop := ∀ i : Nat, (∀ r ∈ rs, (i : Int) < r.1 ∨ r.2 ≤ (i : Int)) → μ1 126 i = μ 126 i
theorem mG.refl {rs : List (Int × Int)} {μ : mM} : mG rs μ μ := fun _ _ => rfl
theorem mG.up {rs : List (Int × Int)} {μ μ1 μ2 : mM} {e z lo hi : Int} (h : mG rs μ μ1) (hu : mU μ1 126 e.toNat z μ2) (hm : (lo, hi) ∈ rs) (he : 0 ≤ e ∧ lo ≤ e ∧ e < hi) : mG rs μ μ2 := by
  intro i hi'
  rw [← h i hi']
  refine hu.2 126 i (Or.inr (fun q => ?_))
  have h2 : (i : Int) < lo ∨ hi ≤ (i : Int) := hi' _ hm
  subst q
  have := Int.toNat_of_nonneg he.1
  omega
theorem mG.upO {rs : List (Int × Int)} {μ μ1 μ2 : mM} {a k : Nat} {z : Int} (h : mG rs μ μ1) (hu : mU μ1 a k z μ2) (ha : Nat.beq a 126 = false) : mG rs μ μ2 := by
  intro i hi'
  rw [← h i hi']
  refine hu.2 126 i (Or.inl (fun q => ?_))
  rw [← q] at ha
  cases ha
theorem mG.fr {rs : List (Int × Int)} {l : List Nat} {w : mW} {μ μ1 μ2 : mM} (h : mG rs μ μ1) (hF : mF l w μ1 μ2) (hA : mAt w 126 126) (hl : l.elem 126999 = false) : mG rs μ μ2 := by
  intro i hi'
  rw [← h i hi']
  exact hF 126 i (by simp only [mRg, hA.1]; exact hl)
theorem mG.call {rs rs' : List (Int × Int)} {μ μ1 μ2 : mM} (h : mG rs μ μ1) (h' : mG rs' μ1 μ2) (hs : ∀ r' ∈ rs', ∃ r ∈ rs, r.1 ≤ r'.1 ∧ r'.2 ≤ r.2) : mG rs μ μ2 := by
  intro i hi'
  rw [← h i hi']
  refine h' i (fun r' hr' => ?_)
  obtain ⟨r, hr, h1, h2⟩ := hs r' hr'
  have := hi' r hr
  omega
theorem mG.f {rs : List (Int × Int)} {μ μ1 : mM} {e z : Int} (h : mG rs μ μ1) (he : 0 ≤ e) (ho : ∀ r ∈ rs, e < r.1 ∨ r.2 ≤ e) (q : μ 126 e.toNat = z) : μ1 126 e.toNat = z := by
  rw [← q]
  exact h e.toNat (fun r hr => by have := ho r hr; have := Int.toNat_of_nonneg he; omega)
theorem rt7 {w : mW} {μ : mM} {a : Nat} {e z : Int} (hT : mT w μ) (hA : mAt w a 126) (he : 0 ≤ e) (q : μ a e.toNat = z) : (-2147483648 ≤ z ∧ z ≤ 2147483647) ∧ (e % 40 = 0 → -1 ≤ z ∧ z ≤ 9) ∧ (e % 40 = 4 → 0 ≤ z ∧ z ≤ 20) ∧ (e % 40 = 5 → 0 ≤ z ∧ z ≤ 8) := by
  have h := hT a 126 hA e.toNat
  rw [q] at h
  have h : (-2147483648 ≤ z ∧ z ≤ 2147483647) ∧ (e.toNat % 40 = 0 → -1 ≤ z ∧ z ≤ 9) ∧ (e.toNat % 40 = 4 → 0 ≤ z ∧ z ≤ 20) ∧ (e.toNat % 40 = 5 → 0 ≤ z ∧ z ≤ 8) := h
  have e1 : ((e.toNat : Nat) : Int) = e := Int.toNat_of_nonneg he
  exact ⟨h.1, fun q => h.2.1 (by omega), fun q => h.2.2.1 (by omega), fun q => h.2.2.2 (by omega)⟩
theorem eqIx {μ : mM} {a : Nat} {e f z : Int} (h : e = f) (q : μ a f.toNat = z) : μ a e.toNat = z := by rw [h]; exact q
theorem fit01 {z : Int} (h : 0 ≤ z ∧ z ≤ 1) (b : Nat × Nat) : fits .boolean (rv b (iv z)) = true := by
  have : z = 0 ∨ z = 1 := by omega
  rcases this with rfl | rfl <;> rfl
/-! methods that change nothing -/
def qP (w : mW) (μ : mM) (P : Int → Prop) : Option Value → sHp → Prop := fun r hp => ∃ z, r = some (iv z) ∧ hp = mk w μ ∧ P z
section MP
variable {g : sG} {M M' : sM} {R : Room} {Z : sZT} {d' d C S : Nat} {pc : Nat} {lv : List (Nat × Value)} {st st0 av : List Value} {w : mW} {μ : mM} {ce sl : Nat}
theorem mr_iretP {z : Int} {P : Int → Prop} (hd : decode M.2.1 pc = .ok (.ireturn, 1)) (hret : M.2.2.2 = some .int) (hc : ce ≤ C) (hs : sl ≤ S) (hP : P z) : sV g M R (sZ g C S (qP w μ P)) pc lv [iv z] (mk w μ) ce sl := sv_iret hd hret hc hs ⟨z, rfl, rfl, hP⟩
theorem mr_zretP {z : Int} {P : Int → Prop} (hd : decode M.2.1 pc = .ok (.ireturn, 1)) (hret : M.2.2.2 = some .boolean) (hz : 0 ≤ z ∧ z ≤ 1) (hc : ce ≤ C) (hs : sl ≤ S) (hP : P z) : sV g M R (sZ g C S (qP w μ P)) pc lv [iv z] (mk w μ) ce sl := sv_zret hd hret (nar01i hz) hc hs ⟨z, rfl, rfl, hP⟩
theorem mr_cVP {index ci a s : Nat} {T : vw_C} {ty : Nat → FieldType} {ks : List Nat} {P : Int → Prop} (hct : sC g M' d' 0 0 (.ref a :: av) (mk w μ) (qP w μ P)) (ho : sOk g) (hd : decode M.2.1 pc = .ok (.invokevirtual index, 3)) (hm : sMt g M' av.length) (hi : Cond.instanceMethod M'.1 ∈ sg_ws g ∧ Cond.selects M'.1.cls M'.1 M'.1 ∈ sg_ws g) (hlk : Cond.methodLink M.1.cls index M'.1 ∈ sg_ws g) (hC : sCl g ci T ty) (hT1 : T.1 = M'.1.cls) (hA : mAt w a s) (hs : mTab s = .inl (ci, ks)) (hR : d' + 1 ≤ R.frames ∧ 60 * d' + M'.2.2.1 + 19 ≤ R.locals) (hce : ce ≤ R.cells ∧ sl ≤ R.slots) (hst : st0 = av.reverse ++ .ref a :: st) (hr8 : (st.map fun v => v.category).sum ≤ 8)
    (kt : ∀ z, P z → sV g M R Z (pc + 3) lv (iv z :: st) (mk w μ) ce sl) : sV g M R Z pc lv st0 (mk w μ) ce sl :=
  sv_callV hct ho hd hm hi hlk hC hT1 hA.2.1 (mk_obj hA hs) hR hce hst hr8 (by
    rintro r hp' ⟨z, rfl, rfl, h3⟩
    exact kt z h3)
theorem mr_cSP {index : Nat} {P : Int → Prop} (hct : sC g M' d' 0 0 av (mk w μ) (qP w μ P)) (ho : sOk g) (hd : decode M.2.1 pc = .ok (.invokestatic index, 3)) (hm : sMt g M' av.length) (hi : Cond.static M'.1 ∈ sg_ws g) (hlk : Cond.methodLink M.1.cls index M'.1 ∈ sg_ws g) (hR : d' + 1 ≤ R.frames ∧ 60 * d' + M'.2.2.1 + 19 ≤ R.locals) (hce : ce ≤ R.cells ∧ sl ≤ R.slots) (hst : st0 = av.reverse ++ st) (hr8 : (st.map fun v => v.category).sum ≤ 8)
    (kt : ∀ z, P z → sV g M R Z (pc + 3) lv (iv z :: st) (mk w μ) ce sl) : sV g M R Z pc lv st0 (mk w μ) ce sl :=
  sv_callS hct ho hd hm hi hlk hR hce hst hr8 (by
    rintro r hp' ⟨z, rfl, rfl, h3⟩
    exact kt z h3)
end MP
end
section
theorem cgr {μ : mM} {a : Nat} {e f z y : Int} (q : μ a e.toNat = z) (r : μ a f.toNat = y) (h : e = f) : z = y := by rw [← q, ← r, h]
theorem rMulP {x y a b c d e f : Int} (h : a ≤ x ∧ x ≤ b) (k : c ≤ y ∧ y ≤ d) (q : (decide (0 ≤ a) && decide (0 ≤ c)) && (decide (e ≤ a * c) && decide (b * d ≤ f)) = true) : e ≤ x * y ∧ x * y ≤ f := by
  simp only [Bool.and_eq_true, decide_eq_true_eq] at q
  have h1 : a * c ≤ x * y := Int.mul_le_mul h.1 k.1 q.1.2 (by omega)
  have h2 : x * y ≤ b * d := Int.mul_le_mul h.2 k.2 (by omega) (by omega)
  omega
theorem bShl_eq {x : Int} {k : Nat} (hk : k < 31) (h : 0 ≤ x) (h2 : x * 2 ^ k ≤ 2147483647) : bShl x (k : Int) = x * 2 ^ k := by
  have hp : (1 : Int) ≤ 2 ^ k := by
    have : (0 : Int) < 2 ^ k := Int.pow_pos (by decide)
    omega
  have hx : x ≤ 2147483647 := Int.le_trans (by have := Int.mul_le_mul_of_nonneg_left hp h; omega) h2
  have e1 : (Int32.ofInt (k : Int) &&& 31) = Int32.ofInt (k : Int) := by
    have : ∀ k, k < 31 → (Int32.ofInt ((k : Nat) : Int) &&& 31) = Int32.ofInt ((k : Nat) : Int) := by decide
    exact this k hk
  have e2 : (Int32.ofInt x <<< Int32.ofInt (k : Int)) = Int32.ofInt (x * 2 ^ k) := by
    have e3 : (Int32.ofInt (k : Int)).toBitVec.toNat = k := by
      rw [Int32.toBitVec_ofInt, BitVec.toNat_ofInt]; omega
    apply Int32.toBitVec_inj.mp
    rw [Int32.toBitVec_shiftLeft, Int32.toBitVec_ofInt, Int32.toBitVec_ofInt (x * 2 ^ k)]
    have e4 : ((Int32.ofInt (k : Int)).toBitVec.smod 32) = (Int32.ofInt (k : Int)).toBitVec := by
      have : ∀ k, k < 31 → ((Int32.ofInt ((k : Nat) : Int)).toBitVec.smod 32) = (Int32.ofInt ((k : Nat) : Int)).toBitVec := by decide
      exact this k hk
    rw [e4, BitVec.shiftLeft_eq', e3]
    apply BitVec.eq_of_toInt_eq
    rw [BitVec.toInt_shiftLeft, BitVec.toNat_ofInt, BitVec.toInt_ofInt]
    have e5 : (x % ((2 ^ 32 : Nat) : Int)).toNat = x.toNat := by rw [Int.emod_eq_of_lt h (by omega)]
    rw [e5, Nat.shiftLeft_eq, Int.natCast_mul, Int.toNat_of_nonneg h, Int.natCast_pow]
    rfl
  simp only [bShl, e1, e2]
  exact ivI ⟨by have := Int.mul_nonneg h (by omega : (0 : Int) ≤ 2 ^ k); omega, h2⟩
theorem rShl {x a b f : Int} {k : Nat} (h : a ≤ x ∧ x ≤ b) (q : (decide (0 ≤ a) && decide (k < 31)) && (decide (b * 2 ^ k ≤ f) && decide (f ≤ 2147483647)) = true) : 0 ≤ bShl x (k : Int) ∧ bShl x (k : Int) ≤ f := by
  simp only [Bool.and_eq_true, decide_eq_true_eq] at q
  have hp : (0 : Int) ≤ 2 ^ k := Int.le_of_lt (Int.pow_pos (by decide))
  have h1 : x * 2 ^ k ≤ b * 2 ^ k := Int.mul_le_mul_of_nonneg_right h.2 hp
  rw [bShl_eq q.1.2 (by omega) (by omega)]
  have := Int.mul_nonneg (show 0 ≤ x by omega) hp
  omega
theorem rOr {x y a b c d f : Int} (k : Nat) (h : a ≤ x ∧ x ≤ b) (l : c ≤ y ∧ y ≤ d) (q : (decide (0 ≤ a) && (decide (0 ≤ c) && decide (k ≤ 31))) && ((decide (b < 2 ^ k) && decide (d < 2 ^ k)) && decide (2 ^ k - 1 ≤ f)) = true) : 0 ≤ bOr x y ∧ bOr x y ≤ f := by
  simp only [Bool.and_eq_true, decide_eq_true_eq] at q
  obtain ⟨z, h1, h2, h3⟩ := iv_or (a := x) (b := y) k q.1.2.2 (by omega) (by omega)
  have hn : (2 : Nat) ^ k ≤ 2 ^ 31 := Nat.pow_le_pow_right (by decide) q.1.2.2
  have hc : ((2 ^ k : Nat) : Int) = (2 : Int) ^ k := by exact Int.natCast_pow 2 k
  have hp : (2 : Int) ^ k ≤ 2147483648 := by omega
  simp only [bOr, h1]
  rw [ivI (by omega)]
  omega
end
