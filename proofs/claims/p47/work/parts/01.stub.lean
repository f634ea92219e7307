section
/-! A counter goes up by one: a row gets its next entry. -/
def wCt (w : mW) (k : Nat) : mW := (w.1, w.2.1, w.2.2.1, fun j => if j = k then w.2.2.2 j + 1 else w.2.2.2 j)
theorem wCt.at {w : mW} {k : Nat} : (wCt w k).2.2.2 k = w.2.2.2 k + 1 := sorry
theorem wCt.ne {w : mW} {k j : Nat} (h : j ≠ k) : (wCt w k).2.2.2 j = w.2.2.2 j := sorry
theorem wCt.le {w : mW} {k j : Nat} : w.2.2.2 j ≤ (wCt w k).2.2.2 j := sorry
theorem tyP.ct {w : mW} {k a i : Nat} {d : Nat × Int × Int} {z : Int} (h8 : d.1 = 8 → d.2.1.toNat ≠ k) (h9 : d.1 = 9 → d.2.1.toNat ≠ k) (t : tyP w a i d z) : tyP (wCt w k) a i d z := sorry
theorem mTy_all {p : Nat → Nat → Nat × Int × Int → Bool} (h : ((List.range 240).all fun s => (List.range (mTyL.getD s []).length).all fun i => p s i ((mTyL.getD s []).getD i (0, 0, 0))) = true) (s i : Nat) : mTy s i = (0, 0, 0) ∨ p s (if mArr s then 0 else i) (mTy s i) = true := sorry
/-- which entries hang on which counter -/
def ctT (k rs os f : Nat) (s i : Nat) (d : Nat × Int × Int) : Bool := (!(Nat.beq d.1 8 && Nat.beq d.2.1.toNat k) || Nat.beq s rs) && (!(Nat.beq d.1 9 && Nat.beq d.2.1.toNat k) || (Nat.beq s os && Nat.beq i f))
def ctOK (k rs os f : Nat) : Bool := ((List.range 240).all fun s => (List.range (mTyL.getD s []).length).all fun i => ctT k rs os f s i ((mTyL.getD s []).getD i (0, 0, 0))) && ((List.range 192).all fun a => !(Nat.beq (mSh0 a) rs) || Nat.beq a rs) && ((List.range 192).all fun a => !(Nat.beq (mSh0 a) os) || Nat.beq a os) && Nat.ble rs 100 && Nat.ble os 100 && mArr rs && !(mArr os)
theorem mT.ct {w : mW} {μ μ2 : mM} {k rs os f es b : Nat} {n m : Int} (hok : ctOK k rs os f = true) (hrs : mSh0 rs = rs) (hos : mSh0 os = os) (hr : ∀ i, mTy rs i = (8, (k : Int), (es : Int))) (ho : mTy os f = (9, (k : Int), m)) (hw : mWF w) (hT : mT w μ) (hn : w.2.2.2 k = n) (hn0 : 0 ≤ n ∧ n + 1 ≤ m) (hb : mAt w b es)
    (q1 : μ2 rs n.toNat = (b : Int)) (q2 : μ2 os f = n + 1) (q3 : ∀ a i, (a ≠ rs ∨ i ≠ n.toNat) → (a ≠ os ∨ i ≠ f) → μ2 a i = μ a i) : mT (wCt w k) μ2 := sorry
/-! new objects of the class, with all that they bring -/
theorem sEq.sh {k : Nat} {x y : sE} (h : sEq x y) : sEq (shE k x) (shE k y) := sorry
theorem BX0_b : bBig BX0 = true := sorry
theorem BX9_b : bBig BX9 = true := sorry
/-- how much a block brings -/
def bZ (B : mB) : Nat := sumN (fun i => szS (bS B i) (mLen (bS B i))) B.length
theorem szW.blk {w : mW} {B : mB} (hb : bBig B = true) : szW (wBlk w B) = szW w + bZ B := sorry
theorem BX0_z : bZ BX0 = 442 := sorry
theorem BX9_z : bZ BX9 = 1653 := sorry
theorem mk_set {w : mW} {μ : mM} {a s ci k : Nat} {ks : List Nat} {z : Int} {L : List Value} (hA : mAt w a s) (hs : mTab s = .inl (ci, ks)) (e : (mk w μ).2 a = .inr (ci, L)) : (mk w (mUp μ a k z)).2 a = .inr (ci, L.set k (mv (ks.getD k 0) z)) := sorry
section MV34
variable {l : Launch} {D : va_G} {c : Nat → ClassId} {H0 : Heap} {sa : Nat × Nat × (Nat → Int32)} {M : sM} {R : Room} {Z : sZT} {pc : Nat} {lv : List (Nat × Value)} {st : List Value} {w : mW} {μ : mM} {ce sl : Nat}
theorem mr_newDom {i1 i2 : Nat} (hd : decode M.2.1 pc = .ok (.new i1, 3)) (hd2 : decode M.2.1 (pc + 3) = .ok (.dup, 1)) (hd3 : decode M.2.1 (pc + 4) = .ok (.invokespecial i2, 3)) (hcl : Cond.classLink M.1.cls i1 RX0 ∈ lw_ok) (hlk : Cond.methodLink M.1.cls i2 yX0_init ∈ lw_ok) (hw : mWF w) (hT : mT w μ) (hR : 6 ≤ R.frames ∧ 321 ≤ R.locals) (hce : ce + 35 ≤ R.cells ∧ sl + 442 ≤ R.slots) (hr8 : (st.map fun v => v.category).sum ≤ 7)
    (kk : ∀ w1 μ1, mWF w1 → mT w1 μ1 → mX [] w μ w1 μ1 → mAt w1 w.1 210 → w1.2.2.2 = w.2.2.2 → w1.1 = w.1 + 35 → szW w1 = szW w + 442 → sV (gG l D c H0 sa) M R Z (pc + 7) lv (.ref w.1 :: st) (mk w1 μ1) (ce + 35) (sl + 442)) : sV (gG l D c H0 sa) M R Z pc lv st (mk w μ) ce sl := sorry
theorem mr_newTie {i1 i2 : Nat} {x y z : Int} {j1 j2 j3 : Fin 4} (hd : decode M.2.1 pc = .ok (.new i1, 3)) (hd2 : decode M.2.1 (pc + 3) = .ok (.dup, 1)) (hd4 : decode M.2.1 (pc + 4) = .ok (.iload_n j1, 1)) (hd5 : decode M.2.1 (pc + 5) = .ok (.iload_n j2, 1)) (hd6 : decode M.2.1 (pc + 6) = .ok (.iload_n j3, 1)) (hd3 : decode M.2.1 (pc + 7) = .ok (.invokespecial i2, 3)) (hg1 : sGet j1 lv = some (iv x)) (hg2 : sGet j2 lv = some (iv y)) (hg3 : sGet j3 lv = some (iv z)) (hcl : Cond.classLink M.1.cls i1 RX9 ∈ lw_ok) (hlk : Cond.methodLink M.1.cls i2 yX9_init ∈ lw_ok) (hw : mWF w) (hT : mT w μ) (hx : 0 ≤ x ∧ x ≤ 9 ∧ x < w.2.2.2 0) (hy : 0 ≤ y ∧ y ≤ 9 ∧ y < w.2.2.2 0) (hz : 0 ≤ z ∧ z ≤ 2) (hR : 6 ≤ R.frames ∧ 324 ≤ R.locals) (hce : ce + 124 ≤ R.cells ∧ sl + 1653 ≤ R.slots) (hr8 : (st.map fun v => v.category).sum ≤ 7)
    (kk : ∀ w1 μ1, mWF w1 → mT w1 μ1 → mX [] w μ w1 μ1 → mAt w1 w.1 220 → w1.2.2.2 = w.2.2.2 → w1.1 = w.1 + 124 → szW w1 = szW w + 1653 → sV (gG l D c H0 sa) M R Z (pc + 10) lv (.ref w.1 :: st) (mk w1 μ1) (ce + 124) (sl + 1653)) : sV (gG l D c H0 sa) M R Z pc lv st (mk w μ) ce sl := sorry
end MV34

end
section
/-! The world's next domain, its next tie. -/
theorem ctOK_0 : ctOK 0 10 6 15 = true := sorry
theorem ctOK_1 : ctOK 1 11 6 16 = true := sorry
theorem ctOK_2 : ctOK 2 22 21 8 = true := sorry
theorem mWF.ct {w : mW} {k : Nat} (h : mWF w) : mWF (wCt w k) := sorry
section MV35
variable {l : Launch} {D : va_G} {c : Nat → ClassId} {H0 : Heap} {sa : Nat × Nat × (Nat → Int32)} {M : sM} {R : Room} {Z : sZT} {pc : Nat} {lv : List (Nat × Value)} {st : List Value} {w : mW} {μ : mM} {ce sl : Nat}
theorem mr_aast {a s kd ci b t : Nat} {ks : List Nat} {T : vw_C} {ty : Nat → FieldType} {cA : ClassId} {e : Int} (hd : decode M.2.1 pc = .ok (.aastore, 1)) (hC : sCl (gG l D c H0 sa) ci T ty) (ht : (gG l D c H0 sa).2.2.1[kd]? = some (cA, .object T.1)) (hA : mAt w a s) (hs : mTab s = .inr (kd, 2)) (hi : 0 ≤ e ∧ e < (w.2.2.1 a : Int)) (hn : w.2.2.1 a ≤ 2147483647) (hB : mAt w b t) (hbt : mTab t = .inl (ci, ks))
    (kt : ∀ μ1, mU μ a e.toNat (b : Int) μ1 → sV (gG l D c H0 sa) M R Z (pc + 1) lv st (mk w μ1) ce sl) : sV (gG l D c H0 sa) M R Z pc lv (.ref b :: iv e :: .ref a :: st) (mk w μ) ce sl := sorry
end MV35
section MV35b
variable {l : Launch} {D : va_G} {c : Nat → ClassId} {H0 : Heap} {sa : Nat × Nat × (Nat → Int32)} {w : mW} {μ : mM} {d : Nat}
theorem c_X10_addDomain (hw : mWF w) (hT : mT w μ) {n : Int} (q : μ 6 15 = n) (hn : n ≤ 9) : sC (gG l D c H0 sa) mX10_addDomain 6 35 442 [.ref 6] (mk w μ) (qIx w [6015, 10999] μ (fun z w1 μ1 => z = n ∧ w1.2.2.2 = (wCt w 0).2.2.2 ∧ w1.1 = w.1 + 35 ∧ szW w1 = szW w + 442 ∧ μ1 6 15 = n + 1)) := sorry
theorem c_X10_addTie (hw : mWF w) (hT : mT w μ) {n x y z : Int} (q : μ 6 16 = n) (hn : n ≤ 19) (hx : 0 ≤ x ∧ x ≤ 9 ∧ x < w.2.2.2 0) (hy : 0 ≤ y ∧ y ≤ 9 ∧ y < w.2.2.2 0) (hz : 0 ≤ z ∧ z ≤ 2) : sC (gG l D c H0 sa) mX10_addTie 6 124 1653 [.ref 6, iv x, iv y, iv z] (mk w μ) (qIx w [6016, 11999] μ (fun r w1 μ1 => r = n ∧ w1.2.2.2 = (wCt w 1).2.2.2 ∧ w1.1 = w.1 + 124 ∧ szW w1 = szW w + 1653 ∧ μ1 6 16 = n + 1)) := sorry
end MV35b

end
section
/-! The class's domain and tie. -/
section MV36
variable {l : Launch} {D : va_G} {c : Nat → ClassId} {H0 : Heap} {sa : Nat × Nat × (Nat → Int32)} {w : mW} {μ : mM}
theorem mX.le {l l' : List Nat} {w w1 : mW} {μ μ1 : mM} (h : mX l w μ w1 μ1) (hs : (l.all fun x => l'.elem x) = true) : mX l' w μ w1 μ1 := sorry
theorem c_X11_domain (hw : mWF w) (hT : mT w μ) {n : Int} (q : μ 6 15 = n) : sC (gG l D c H0 sa) mX11_domain 7 35 442 [.ref 0] (mk w μ) (qIx w [6015, 10999] μ (fun z w1 μ1 => (n = 10 ∧ z = -3 ∧ w1 = w ∧ μ1 = μ) ∨ (n ≤ 9 ∧ z = n ∧ w1.2.2.2 = (wCt w 0).2.2.2 ∧ w1.1 = w.1 + 35 ∧ szW w1 = szW w + 442 ∧ μ1 6 15 = n + 1))) := sorry
theorem c_X11_tie (hw : mWF w) (hT : mT w μ) {p1 p2 p3 : Int} (hp1 : -2147483648 ≤ p1 ∧ p1 ≤ 2147483647) (hp2 : -2147483648 ≤ p2 ∧ p2 ≤ 2147483647) (hp3 : -2147483648 ≤ p3 ∧ p3 ≤ 2147483647) : sC (gG l D c H0 sa) mX11_tie 7 124 1653 [.ref 0, iv p1, iv p2, iv p3] (mk w μ) (qIx w [6016, 11999] μ (fun z w1 μ1 => (-2147483648 ≤ z ∧ z ≤ 2147483647) ∧ ((w1 = w ∧ μ1 = μ) ∨ (w1.2.2.2 = (wCt w 1).2.2.2 ∧ w1.1 = w.1 + 124 ∧ szW w1 = szW w + 1653)))) := sorry
end MV36

end
section
/-! An array's clone; a row copied into one as long or shorter. -/
theorem wM_J_316 : Cond.methodLink "java/util/Arrays" 316 ⟨"[I", "clone", "()Ljava/lang/Object;"⟩ ∈ lw_ok := sorry
theorem wX_J_I : Cond.sameMethod "[I" "java/lang/Object" "clone" "()Ljava/lang/Object;" ∈ lw_ok := sorry
theorem wN_J_cl : Cond.native ⟨"java/lang/Object", "clone", "()Ljava/lang/Object;"⟩ ∈ lw_ok := sorry
theorem wV_J_cl : Cond.instanceMethod ⟨"java/lang/Object", "clone", "()Ljava/lang/Object;"⟩ ∈ lw_ok := sorry
theorem wL_J_I : Cond.selects "[I" ⟨"[I", "clone", "()Ljava/lang/Object;"⟩ ⟨"java/lang/Object", "clone", "()Ljava/lang/Object;"⟩ ∈ lw_ok := sorry
theorem wM_J_319 : Cond.methodLink "java/util/Arrays" 319 ⟨"[J", "clone", "()Ljava/lang/Object;"⟩ ∈ lw_ok := sorry
theorem wX_J_J : Cond.sameMethod "[J" "java/lang/Object" "clone" "()Ljava/lang/Object;" ∈ lw_ok := sorry
theorem wL_J_J : Cond.selects "[J" ⟨"[J", "clone", "()Ljava/lang/Object;"⟩ ⟨"java/lang/Object", "clone", "()Ljava/lang/Object;"⟩ ∈ lw_ok := sorry
theorem wC_J_317 : Cond.classLink "java/util/Arrays" 317 "[I" ∈ lw_ok := sorry
theorem wC_J_320 : Cond.classLink "java/util/Arrays" 320 "[J" ∈ lw_ok := sorry
theorem dJ_copyI_6 : decode cJ_copyI 6 = .ok (.aload_n 0, 1) := sorry
theorem dJ_copyI_7 : decode cJ_copyI 7 = .ok (.invokevirtual 316, 3) := sorry
theorem dJ_copyI_10 : decode cJ_copyI 10 = .ok (.checkcast 317, 3) := sorry
theorem dJ_copyI_13 : decode cJ_copyI 13 = .ok (.areturn, 1) := sorry
theorem dJ_copyJ_6 : decode cJ_copyJ 6 = .ok (.aload_n 0, 1) := sorry
theorem dJ_copyJ_7 : decode cJ_copyJ 7 = .ok (.invokevirtual 319, 3) := sorry
theorem dJ_copyJ_10 : decode cJ_copyJ 10 = .ok (.checkcast 320, 3) := sorry
theorem dJ_copyJ_13 : decode cJ_copyJ 13 = .ok (.areturn, 1) := sorry
/-- what the state must tell of the classes of rows: they may be cloned -/
def clP (g : sG) : Prop := ∀ U : State, sK g U → va_Nw (.castable "[I" "java/lang/Cloneable") U ∧ va_Nw (.castable "[J" "java/lang/Cloneable") U
theorem clP_ok {g : sG} : clP g := sorry
section CLN
variable {g : sG} {M : sM} {R : Room} {Z : sZT} {pc : Nat} {lv : List (Nat × Value)} {st : List Value} {hp : sHp} {ce sl a n kd : Nat} {cA : ClassId} {ty : FieldType} {f : Nat → Value}
theorem sv_clone {index : Nat} {ad : String} (hd : decode M.2.1 pc = .ok (.invokevirtual index, 3)) (hlk : Cond.methodLink M.1.cls index ⟨ad, "clone", "()Ljava/lang/Object;"⟩ ∈ sg_ws g) (hsame : Cond.sameMethod ad "java/lang/Object" "clone" "()Ljava/lang/Object;" ∈ sg_ws g) (hnat : Cond.native ⟨"java/lang/Object", "clone", "()Ljava/lang/Object;"⟩ ∈ sg_ws g) (hinst : Cond.instanceMethod ⟨"java/lang/Object", "clone", "()Ljava/lang/Object;"⟩ ∈ sg_ws g) (hsel : Cond.selects ad ⟨ad, "clone", "()Ljava/lang/Object;"⟩ ⟨"java/lang/Object", "clone", "()Ljava/lang/Object;"⟩ ∈ sg_ws g) (hcast : ∀ U, sK g U → va_Nw (.castable ad "java/lang/Cloneable") U) (ht : g.2.2.1[kd]? = some (cA, ty)) (hra : ∀ U : State, va_RA U cA ty → U.vm.findClass ad = some cA) (ha : a < hp.1) (he : hp.2 a = .inl (kd, n, f)) (hfit : ∀ i, i < n → fits ty (rv (sg_r g) (f i)) = true) (hfr : 1 ≤ R.frames) (hlo : (st.map fun v => v.category).sum + 14 ≤ R.locals) (hc1 : ce + 1 ≤ R.cells) (hs1 : sl + n ≤ R.slots)
    (kk : sV g M R Z (pc + 3) lv (.ref hp.1 :: st) (hp.1 + 1, sUp hp.2 hp.1 (.inl (kd, n, f))) (ce + 1) (sl + n)) : sV g M R Z pc lv (.ref a :: st) hp ce sl := sorry
theorem sv_castA {index : Nat} {nm : String} (hd : decode M.2.1 pc = .ok (.checkcast index, 3)) (hlk : Cond.classLink M.1.cls index nm ∈ sg_ws g) (ht : g.2.2.1[kd]? = some (cA, ty)) (hra : ∀ U : State, va_RA U cA ty → U.vm.findClass nm = some cA) (ha : a < hp.1) (he : hp.2 a = .inl (kd, n, f)) (kk : sV g M R Z (pc + 3) lv (.ref a :: st) hp ce sl) : sV g M R Z pc lv (.ref a :: st) hp ce sl := sorry
end CLN
section CPY2
variable {l : Launch} {D : va_G} {c : Nat → ClassId} {H0 : Heap} {sa : Nat × Nat × (Nat → Int32)}
theorem sUp_twice (hf : Nat → sE) (a : Nat) (x y : sE) : sUp (sUp hf a x) a y = sUp hf a y := sorry
theorem c_cpI {d a n : Nat} {q : Nat → Int32} {x : Int32} {N hn : Nat} {hf : Nat → sE} (hcl : clP (gG l D c H0 sa)) (hd : 2 ≤ d) (ha : a < hn) (he : hf a = .inl (0, n, sI q)) (hx : x = nI N) (hN : N ≤ n) (hn31 : n < 2 ^ 26) : sC (gG l D c H0 sa) mJ_copyI d 1 N [.ref a, .int x] (hn, hf) (fun r hp' => r = some (.ref hn) ∧ ∃ f', (∀ i, i < N → f' i = sI q i) ∧ hp' = (hn + 1, sUp hf hn (.inl (0, N, f')))) := sorry
theorem c_cpJ {d a n : Nat} {q : Nat → Int64} {x : Int32} {N hn : Nat} {hf : Nat → sE} (hcl : clP (gG l D c H0 sa)) (hd : 2 ≤ d) (ha : a < hn) (he : hf a = .inl (1, n, sJ q)) (hx : x = nI N) (hN : N ≤ n) (hn31 : n < 2 ^ 26) : sC (gG l D c H0 sa) mJ_copyJ d 1 N [.ref a, .int x] (hn, hf) (fun r hp' => r = some (.ref hn) ∧ ∃ f', (∀ i, i < N → f' i = sJ q i) ∧ hp' = (hn + 1, sUp hf hn (.inl (1, N, f')))) := sorry
end CPY2

end
section
/-! The class's policies: the reader's result as a new policy, the next place in the court's row. -/
/-- a new policy's six cells -/
def wPol (w : mW) (cs np nw : Nat) : mW := (w.1 + 6, fun a => if a < w.1 then w.2.1 a else 230 + (a - w.1), fun a => if a < w.1 then w.2.2.1 a else (match a - w.1 with
  | 0 => 0
  | 1 => cs
  | 2 => np
  | 3 => np
  | 4 => nw
  | 5 => nw
  | _ => 0), w.2.2.2)
def mPol (w : mW) (μ : mM) (rows : Int) : mM := fun a i => if a < w.1 then μ a i else (match a - w.1 with
  | 0 => (match i with
    | 0 => rows
    | 1 => ((w.1 + 1 : Nat) : Int)
    | 2 => ((w.1 + 2 : Nat) : Int)
    | 3 => ((w.1 + 3 : Nat) : Int)
    | 4 => ((w.1 + 4 : Nat) : Int)
    | 5 => ((w.1 + 5 : Nat) : Int)
    | _ => 0)
  | j + 1 => μ (27 + j) i)
section POLW
variable {w : mW} {μ : mM} {cs np nw : Nat} {rows : Int}
theorem wPol.ext : wE w (wPol w cs np nw) := sorry
theorem wPol.sh {j : Nat} : (wPol w cs np nw).2.1 (w.1 + j) = 230 + j := sorry
theorem wPol.at0 : mAt (wPol w cs np nw) w.1 230 := sorry
theorem wPol.len {j : Nat} : (wPol w cs np nw).2.2.1 (w.1 + j) = (match j with
  | 0 => 0
  | 1 => cs
  | 2 => np
  | 3 => np
  | 4 => nw
  | 5 => nw
  | _ => 0) := sorry
theorem wPol.z : szW (wPol w cs np nw) = szW w + (6 + cs + np + np + nw + nw) := sorry
theorem mPol.at {j i : Nat} : mPol w μ rows (w.1 + (j + 1)) i = μ (27 + j) i := sorry
theorem mPol.at0 {i : Nat} : mPol w μ rows w.1 i = (match i with
    | 0 => rows
    | 1 => ((w.1 + 1 : Nat) : Int)
    | 2 => ((w.1 + 2 : Nat) : Int)
    | 3 => ((w.1 + 3 : Nat) : Int)
    | 4 => ((w.1 + 4 : Nat) : Int)
    | 5 => ((w.1 + 5 : Nat) : Int)
    | _ => 0) := sorry
theorem wPol.at1 (h1 : cs ≤ 2000) (h2 : np ≤ 40) (h3 : nw ≤ 250) : mAt (wPol w cs np nw) (w.1 + 1) 231 := sorry
theorem wPol.at2 (h1 : cs ≤ 2000) (h2 : np ≤ 40) (h3 : nw ≤ 250) : mAt (wPol w cs np nw) (w.1 + 2) 232 := sorry
theorem wPol.at3 (h1 : cs ≤ 2000) (h2 : np ≤ 40) (h3 : nw ≤ 250) : mAt (wPol w cs np nw) (w.1 + 3) 233 := sorry
theorem wPol.at4 (h1 : cs ≤ 2000) (h2 : np ≤ 40) (h3 : nw ≤ 250) : mAt (wPol w cs np nw) (w.1 + 4) 234 := sorry
theorem wPol.at5 (h1 : cs ≤ 2000) (h2 : np ≤ 40) (h3 : nw ≤ 250) : mAt (wPol w cs np nw) (w.1 + 5) 235 := sorry
theorem mT.pol (h1 : cs ≤ 2000) (h2 : np ≤ 40) (h3 : nw ≤ 250) (hw : mWF w) (hT : mT w μ) (hr : 0 ≤ rows ∧ rows ≤ 30) : mT (wPol w cs np nw) (mPol w μ rows) := sorry
end POLW
section POLC
variable {l : Launch} {D : va_G} {c : Nat → ClassId} {H0 : Heap} {sa : Nat × Nat × (Nat → Int32)}
theorem c_X5_init {hp : sHp} {o c1 c2 c3 c4 c5 : Nat} {r : Int} (ho : o < hp.1) (he : hp.2 o = .inr (5, zX5)) : sC (gG l D c H0 sa) mX5_init 2 0 0 [.ref o, iv r, .ref c1, .ref c2, .ref c3, .ref c4, .ref c5] hp (fun q hp' => q = none ∧ hp' = (hp.1, sUp hp.2 o (.inr (5, [iv r, .ref c1, .ref c2, .ref c3, .ref c4, .ref c5])))) := sorry
variable {M : sM} {R : Room} {Z : sZT} {pc : Nat} {lv : List (Nat × Value)} {st : List Value} {w : mW} {μ : mM} {ce sl : Nat} {hp : sHp}
/-- a field of a cell that stands as memory has it -/
theorem mr_getH {index ci a s k kk : Nat} {T : vw_C} {ty : Nat → FieldType} {ks : List Nat} {z : Int} (hE : hp.2 a = (mk w μ).2 a) (ha : a < hp.1) (hd : decode M.2.1 pc = .ok (.getfield index, 3)) (hC : sCl (gG l D c H0 sa) ci T ty) (hk : k < T.2.2) (hw : sFl T M.1.cls index k ∈ lw_ok) (hA : mAt w a s) (hs : mTab s = .inl (ci, ks)) (hl : k < ks.length) (hkk : ks.getD k 0 = kk) (q : μ a k = z)
    (kt : sV (gG l D c H0 sa) M R Z (pc + 3) lv (mv kk z :: st) hp ce sl) : sV (gG l D c H0 sa) M R Z pc lv (.ref a :: st) hp ce sl := sorry
theorem nIofInt {x : Int} (h : 0 ≤ x) : Int32.ofInt x = nI x.toNat := sorry
/-- one copy of a row of the reader, at a heap whose old cells are memory's -/
theorem mr_cpI {index a s : Nat} {x : Int} (hcl : clP (gG l D c H0 sa)) (hd : decode M.2.1 pc = .ok (.invokestatic index, 3)) (hlk : Cond.methodLink M.1.cls index yJ_copyI ∈ lw_ok) (hE : ∀ j, j < w.1 → hp.2 j = (mk w μ).2 j) (hsz : w.1 ≤ hp.1) (hA : mAt w a s) (hs : mTab s = .inr (0, 0)) (hx : 0 ≤ x ∧ x ≤ (w.2.2.1 a : Int)) (hL : mLen s ≤ 100000) (hR : 3 ≤ R.frames ∧ 142 ≤ R.locals) (hc1 : ce + 1 ≤ R.cells) (hs1 : sl + x.toNat ≤ R.slots) (hr8 : (st.map fun v => v.category).sum ≤ 8)
    (kk : ∀ f', (∀ i, i < x.toNat → f' i = iv (μ a i)) → sV (gG l D c H0 sa) M R Z (pc + 3) lv (.ref hp.1 :: st) (hp.1 + 1, sUp hp.2 hp.1 (.inl (0, x.toNat, f'))) (ce + 1) (sl + x.toNat)) : sV (gG l D c H0 sa) M R Z pc lv (iv x :: .ref a :: st) hp ce sl := sorry
theorem mr_cpJ {index a s : Nat} {x : Int} (hcl : clP (gG l D c H0 sa)) (hd : decode M.2.1 pc = .ok (.invokestatic index, 3)) (hlk : Cond.methodLink M.1.cls index yJ_copyJ ∈ lw_ok) (hE : ∀ j, j < w.1 → hp.2 j = (mk w μ).2 j) (hsz : w.1 ≤ hp.1) (hA : mAt w a s) (hs : mTab s = .inr (1, 1)) (hx : 0 ≤ x ∧ x ≤ (w.2.2.1 a : Int)) (hL : mLen s ≤ 100000) (hR : 3 ≤ R.frames ∧ 142 ≤ R.locals) (hc1 : ce + 1 ≤ R.cells) (hs1 : sl + x.toNat ≤ R.slots) (hr8 : (st.map fun v => v.category).sum ≤ 8)
    (kk : ∀ f', (∀ i, i < x.toNat → f' i = jv (μ a i)) → sV (gG l D c H0 sa) M R Z (pc + 3) lv (.ref hp.1 :: st) (hp.1 + 1, sUp hp.2 hp.1 (.inl (1, x.toNat, f'))) (ce + 1) (sl + x.toNat)) : sV (gG l D c H0 sa) M R Z pc lv (iv x :: .ref a :: st) hp ce sl := sorry
theorem keepE {w : mW} {μ : mM} {f : Nat → sE} {a : Nat} {x : sE} (h : ∀ j, j < w.1 → f j = (mk w μ).2 j) (ha : w.1 ≤ a) : ∀ j, j < w.1 → sUp f a x j = (mk w μ).2 j := sorry
set_option maxRecDepth 4000 in
theorem c_X6_result (hcl : clP (gG l D c H0 sa)) (hw : mWF w) (hT : mT w μ) {r cs np nw : Int} (q10 : μ 23 10 = r) (q11 : μ 23 11 = cs) (q12 : μ 23 12 = np) (q13 : μ 23 13 = nw) : sC (gG l D c H0 sa) mX6_result 4 6 2586 [.ref 23] (mk w μ) (qRx w [] μ (fun b w1 μ1 => b = w.1 ∧ w1 = wPol w cs.toNat np.toNat nw.toNat ∧ μ1 = mPol w μ r)) := sorry
end POLC

end
section
/-! The class's policy. -/
theorem PC.keepX {l : List Nat} {w w1 : mW} {μ μ1 : mM} (h : PC w μ) (hw : mWF w) (hX : mX l w μ w1 μ1) (hc : w1.2.2.2 2 = w.2.2.2 2) (hl : pcFree l = true) (hT : mT w μ) : PC w1 μ1 := sorry
section MV39
variable {l : Launch} {D : va_G} {c : Nat → ClassId} {H0 : Heap} {sa : Nat × Nat × (Nat → Int32)} {w : mW} {μ : mM}
theorem wCt.ext {w : mW} {k : Nat} : wE w (wCt w k) := sorry
theorem c_X1_addPolicy (hw : mWF w) (hT : mT w μ) {n : Int} {b : Nat} (q : μ 21 8 = n) (hn : n ≤ 11) (hB : mAt w b 230) : sC (gG l D c H0 sa) mX1_addPolicy 1 0 0 [.ref 21, .ref b] (mk w μ) (qIx w [21008, 22999] μ (fun z w1 μ1 => z = n ∧ w1 = wCt w 2 ∧ μ1 22 n.toNat = (b : Int) ∧ (∀ a i, (a ≠ 22 ∨ i ≠ n.toNat) → (a ≠ 21 ∨ i ≠ 8) → μ1 a i = μ a i))) := sorry
/-- one policy more -/
theorem PC.add {r cs np nw n : Int} {μ2 : mM} (h : PC w μ) (hw : mWF w) (hT : mT w μ) (hc : cs ≤ 2000) (hp : np ≤ 40) (hwy : nw ≤ 250) (hn : w.2.2.2 2 = n) (hn0 : 0 ≤ n) (hwf : wfF (μ 27) r.toNat cs.toNat) (q : μ2 22 n.toNat = (w.1 : Int)) (hk : ∀ a i, (a ≠ 22 ∨ i ≠ n.toNat) → (a ≠ 21 ∨ i ≠ 8) → μ2 a i = mPol w μ r a i) : PC (wCt (wPol w cs.toNat np.toNat nw.toNat) 2) μ2 := sorry
variable {M M' : sM} {R : Room} {Z : sZT} {pc d' C' S' : Nat} {lv : List (Nat × Value)} {st st0 av : List Value} {ce sl : Nat} {ll : List Nat}
theorem mr_cVRX {g : sG} {index ci a s : Nat} {T : vw_C} {ty : Nat → FieldType} {ks : List Nat} {P : Nat → mW → mM → Prop} (hct : sC g M' d' C' S' (.ref a :: av) (mk w μ) (qRx w ll μ P)) (ho : sOk g) (hd : decode M.2.1 pc = .ok (.invokevirtual index, 3)) (hm : sMt g M' av.length) (hi : Cond.instanceMethod M'.1 ∈ sg_ws g ∧ Cond.selects M'.1.cls M'.1 M'.1 ∈ sg_ws g) (hlk : Cond.methodLink M.1.cls index M'.1 ∈ sg_ws g) (hC : sCl g ci T ty) (hT1 : T.1 = M'.1.cls) (hA : mAt w a s) (hs : mTab s = .inl (ci, ks)) (hR : d' + 1 ≤ R.frames ∧ 60 * d' + M'.2.2.1 + 19 ≤ R.locals) (hce : ce + C' ≤ R.cells ∧ sl + S' ≤ R.slots) (hst : st0 = av.reverse ++ .ref a :: st) (hr8 : (st.map fun v => v.category).sum ≤ 8)
    (kt : ∀ b w1 μ1, mWF w1 → mT w1 μ1 → mX ll w μ w1 μ1 → P b w1 μ1 → sV g M R Z (pc + 3) lv (.ref b :: st) (mk w1 μ1) (ce + C') (sl + S')) : sV g M R Z pc lv st0 (mk w μ) ce sl := sorry
def plL : List Nat := [10, 21008, 22999, 23008, 23009, 23010, 23011, 23012, 23013, 23014, 23015, 23016, 23017, 23018, 23019, 24999, 25999, 26999, 27999, 28999, 29999, 30999, 31999]
theorem c_X11_policy (hcl : clP (gG l D c H0 sa)) (hw : mWF w) (hT : mT w μ) (hPC : PC w μ) : sC (gG l D c H0 sa) mX11_policy 18 6 2586 [.ref 0] (mk w μ) (qIx w plL μ (fun z w1 μ1 => (-2147483648 ≤ z ∧ z ≤ 2147483647) ∧ PC w1 μ1 ∧ ((w1 = w) ∨ (w1.1 = w.1 + 6 ∧ szW w1 ≤ szW w + 2586 ∧ w1.2.2.2 = (wCt w 2).2.2.2)))) := sorry
end MV39

end
section
/-! The law's room reckoned anew from the heap as it stands. -/
theorem sumL {f : Nat → Nat} (l : List Cell) (h : ∀ i c, l[i]? = some c → c.slots.size ≤ f i) : ∀ n, n ≤ l.length → ((l.take n).map fun x => x.slots.size).sum ≤ sumN f n := sorry
def szE (x : sE) : Nat := match x with
  | .inl (_, n, _) => n
  | .inr (ci, _) => match vwCl[ci]? with
    | some r => r.2.2
    | none => 0
section TIGHT
variable {l : Launch} {D : va_G} {c : Nat → ClassId} {H0 : Heap} {sa : Nat × Nat × (Nat → Int32)} {M : sM} {R : Room} {Z : sZT} {pc : Nat} {lv : List (Nat × Value)} {st : List Value} {hp : sHp} {ce sl ce' sl' : Nat}
theorem sR.sum {H : Heap} (r : sR (gG l D c H0 sa) hp H) : ((H.toList.drop H0.size).map fun x => x.slots.size).sum ≤ sumN (fun i => szE (hp.2 i)) hp.1 := sorry
theorem sv_tight (hL : M.1.cls = "DomainHouseLaw") (h1 : hp.1 ≤ ce') (h2 : sumN (fun i => szE (hp.2 i)) hp.1 ≤ sl') (k : sV (gG l D c H0 sa) M R Z pc lv st hp ce' sl') : sV (gG l D c H0 sa) M R Z pc lv st hp ce sl := sorry
end TIGHT

end
section
/-! The law's invariant. -/
abbrev cL_law : ByteArray := code
abbrev mL : sM := (x, code, maxLocals, ret)
theorem szE_mk (s n : Nat) (m : Nat → Int) : szE (mCell (mTab s) n m) = szS s n := sorry
theorem szW_mk (w : mW) (μ : mM) : sumN (fun i => szE ((mk w μ).2 i)) w.1 = szW w := sorry
def WAp (μ : mM) : Prop := μ 76 13 + μ 76 14 ≤ 1000
def TQ (w : mW) (μ : mM) : Prop := w.2.2.1 (μ 94 6).toNat = w.2.2.1 (μ 94 8).toNat
def DQ (w : mW) (μ : mM) : Prop := μ 106 5 = w.2.2.2 0
def RM (w : mW) (μ : mM) : Prop := (w.1 : Int) ≤ 192 + 35 * w.2.2.2 0 + 124 * w.2.2.2 1 + 6 * w.2.2.2 2 + (w.2.2.1 (μ 94 7).toNat : Int) + 2 * (w.2.2.1 (μ 94 6).toNat : Int) ∧ (szW w : Int) ≤ 300000 + 442 * w.2.2.2 0 + 1653 * w.2.2.2 1 + 2586 * w.2.2.2 2 + 2 * (w.2.2.1 (μ 94 7).toNat : Int) + 4 * (w.2.2.1 (μ 94 6).toNat : Int)
def J (w : mW) (μ : mM) : Prop := mWF w ∧ mT w μ ∧ PC w μ ∧ WAp μ ∧ rlP w μ ∧ TQ w μ ∧ (G1 μ ∧ EV μ ∧ PK μ) ∧ DQ w μ ∧ RM w μ
theorem J.c0 {w : mW} {μ : mM} (hw : mWF w) (hT : mT w μ) : μ 6 15 = w.2.2.2 0 ∧ 0 ≤ μ 6 15 ∧ μ 6 15 ≤ 10 := sorry
theorem J.c1 {w : mW} {μ : mM} (hw : mWF w) (hT : mT w μ) : μ 6 16 = w.2.2.2 1 ∧ 0 ≤ μ 6 16 ∧ μ 6 16 ≤ 20 := sorry
theorem J.c2 {w : mW} {μ : mM} (hw : mWF w) (hT : mT w μ) : μ 21 8 = w.2.2.2 2 ∧ 0 ≤ μ 21 8 ∧ μ 21 8 ≤ 12 := sorry
theorem J.lr {w : mW} {μ : mM} (hw : mWF w) (hT : mT w μ) : mAt w (μ 94 7).toNat 103 := sorry
theorem J.lq {w : mW} {μ : mM} (hw : mWF w) (hT : mT w μ) : mAt w (μ 94 6).toNat 102 := sorry
theorem J.lf {w : mW} {μ : mM} (hw : mWF w) (hT : mT w μ) : mAt w (μ 94 8).toNat 104 := sorry
/-- how much room is taken -/
theorem J.bd {w : mW} {μ : mM} (h : J w μ) : w.1 ≤ 290000 ∧ szW w ≤ 1000000 := sorry
/-- frames of the class, frames of the reference -/
def isC (l : List Nat) : Bool := l.all fun x => Nat.blt x 106000 || Nat.ble 192000 x
def isM (l : List Nat) : Bool := l.all fun x => Nat.ble 106000 x && Nat.blt x 192000
theorem isC.no {l : List Nat} (h : isC l = true) {x : Nat} (h1 : 106000 ≤ x) (h2 : x < 192000) : l.elem x = false := sorry
theorem isM.no {l : List Nat} (h : isM l = true) {x : Nat} (h1 : x < 106000 ∨ 192000 ≤ x) : l.elem x = false := sorry
/-- the reference's cells are as they were -/
def sM_ (μ μ1 : mM) : Prop := (∀ i, i < 1000 → μ1 106 i = μ 106 i) ∧ ∀ a, 107 ≤ a → a < 192 → μ1 a = μ a
theorem sM_.of {l : List Nat} {w w1 : mW} {μ μ1 : mM} (hw : mWF w) (hX : mX l w μ w1 μ1) (hl : isC l = true) : sM_ μ μ1 := sorry
theorem G1.sm {μ μ1 : mM} (h : G1 μ) (s : sM_ μ μ1) : G1 μ1 := sorry
theorem EV.sm {μ μ1 : mM} (h : EV μ) (s : sM_ μ μ1) : EV μ1 := sorry
theorem PK.sm {μ μ1 : mM} (h : PK μ) (s : sM_ μ μ1) : PK μ1 := sorry
/-- a step of the class that makes nothing -/
def jcF (l : List Nat) : Bool := isC l && (pcFree l && (!(l.elem 94007) && (!(l.elem 94014) && (!(l.elem 94006) && !(l.elem 94008)))))
theorem J.cls {l : List Nat} {w : mW} {μ μ1 : mM} (h : J w μ) (hT1 : mT w μ1) (hF : mF l w μ μ1) (hl : jcF l = true) (hWA : WAp μ1) : J w μ1 := sorry
theorem WAp.f {l : List Nat} {w : mW} {μ μ1 : mM} (h : WAp μ) (hw : mWF w) (hF : mF l w μ μ1) (h1 : l.elem 76013 = false) (h2 : l.elem 76014 = false) : WAp μ1 := sorry
/-- a step of the reference -/
theorem J.mod {l : List Nat} {w : mW} {μ μ1 : mM} (h : J w μ) (hT1 : mT w μ1) (hF : mF l w μ μ1) (hl : isM l = true) (hl2 : pcFree l = true) (hG : G1 μ1) (hE : EV μ1) (hP : PK μ1) (hD : μ1 106 5 = μ 106 5) : J w μ1 := sorry
theorem G1.fr {l : List Nat} {w : mW} {μ μ1 : mM} (h : G1 μ) (hw : mWF w) (hF : mF l w μ μ1) (h1 : l.elem 106070 = false) (h2 : l.elem 126999 = false) (h3 : l.elem 161999 = false) : G1 μ1 := sorry
/-- a step of the class that makes cells -/
theorem J.grow {l : List Nat} {w w1 : mW} {μ μ1 : mM} (h : J w μ) (hw1 : mWF w1) (hT1 : mT w1 μ1) (hX : mX l w μ w1 μ1) (hl : isC l = true) (h1 : l.elem 76013 = false) (h2 : l.elem 76014 = false) (hPC : PC w1 μ1) (hrl : rlP w1 μ1) (hTQ : TQ w1 μ1) (hD : μ1 106 5 = w1.2.2.2 0) (hR : RM w1 μ1) : J w1 μ1 := sorry
/-- the counters behind a step that leaves the fields that tell them -/
theorem cntX_same {l : List Nat} {w w1 : mW} {μ μ1 : mM} (hw : mWF w) (hT : mT w μ) (hw1 : mWF w1) (hT1 : mT w1 μ1) (hX : mX l w μ w1 μ1) (h1 : l.elem 6015 = false) (h2 : l.elem 6016 = false) (h3 : l.elem 21008 = false) : w1.2.2.2 0 = w.2.2.2 0 ∧ w1.2.2.2 1 = w.2.2.2 1 ∧ w1.2.2.2 2 = w.2.2.2 2 := sorry
theorem len_same {l : List Nat} {w w1 : mW} {μ μ1 : mM} {k s : Nat} (hX : mX l w μ w1 μ1) (hA : mAt w (μ 94 k).toNat s) (e : μ1 94 k = μ 94 k) : w1.2.2.1 (μ1 94 k).toNat = w.2.2.1 (μ 94 k).toNat := sorry
/-! steps of the class that make cells -/
theorem J.dom {w w1 : mW} {μ μ1 : mM} (h : J w μ) (hw1 : mWF w1) (hT1 : mT w1 μ1) (hX : mX [6015, 10999] w μ w1 μ1) (hc : w1.2.2.2 = (wCt w 0).2.2.2) (h1 : w1.1 = w.1 + 35) (h2 : szW w1 = szW w + 442) : mWF w1 ∧ mT w1 μ1 ∧ PC w1 μ1 ∧ WAp μ1 ∧ rlP w1 μ1 ∧ TQ w1 μ1 ∧ (G1 μ1 ∧ EV μ1 ∧ PK μ1) ∧ μ1 106 5 + 1 = w1.2.2.2 0 ∧ RM w1 μ1 := sorry
theorem J.tie {w w1 : mW} {μ μ1 : mM} (h : J w μ) (hw1 : mWF w1) (hT1 : mT w1 μ1) (hX : mX [6016, 11999] w μ w1 μ1) (hp : (w1 = w ∧ μ1 = μ) ∨ (w1.2.2.2 = (wCt w 1).2.2.2 ∧ w1.1 = w.1 + 124 ∧ szW w1 = szW w + 1653)) : J w1 μ1 := sorry
theorem J.pol {w w1 : mW} {μ μ1 : mM} (h : J w μ) (hw1 : mWF w1) (hT1 : mT w1 μ1) (hX : mX plL w μ w1 μ1) (hPC : PC w1 μ1) (hp : w1 = w ∨ (w1.1 = w.1 + 6 ∧ szW w1 ≤ szW w + 2586 ∧ w1.2.2.2 = (wCt w 2).2.2.2)) : J w1 μ1 := sorry
theorem J.rst {w w1 : mW} {μ μ1 : mM} {b : Nat} (h : J w μ) (hw1 : mWF w1) (hT1 : mT w1 μ1) (hX : mX frL w μ w1 μ1) (q7 : μ 94 7 = (b : Int)) (hp : rlQ w (w.2.2.1 b) w1 μ1) : J w1 μ1 := sorry
theorem J.try {w w1 : mW} {μ μ1 : mM} {bq : Nat} (h : J w μ) (hw1 : mWF w1) (hT1 : mT w1 μ1) (hX : mX [94006, 94008, 94009, 94011, 98999, 99999, 100999, 101999, 102999, 104999, 105999] w μ w1 μ1) (q6 : μ 94 6 = (bq : Int)) (hp : w1.2.2.1 (μ1 94 6).toNat = w1.2.2.1 (μ1 94 8).toNat) (pm : (szW w1 : Int) + 4 * (w.2.2.1 bq : Int) ≤ szW w + 4 * (w1.2.2.1 (μ1 94 6).toNat : Int) ∧ (w1.1 : Int) + 2 * (w.2.2.1 bq : Int) ≤ (w.1 : Int) + 2 * (w1.2.2.1 (μ1 94 6).toNat : Int)) : J w1 μ1 := sorry
/-! the law's own steps -/
section LAWR
variable {l : Launch} {D : va_G} {c : Nat → ClassId} {H0 : Heap} {sa : Nat × Nat × (Nat → Int32)} {M : sM} {R : Room} {Z : sZT} {pc : Nat} {lv : List (Nat × Value)} {st : List Value} {hp : sHp} {ce sl : Nat}
theorem sv_pop2L {z : Int64} (hd : decode M.2.1 pc = .ok (.pop2, 1)) (k : sV (gG l D c H0 sa) M R Z (pc + 1) lv st hp ce sl) : sV (gG l D c H0 sa) M R Z pc lv (.long z :: st) hp ce sl := sorry
theorem la_ld {e : Int} (hd : decode M.2.1 pc = .ok (.iaload, 1)) (he : 0 ≤ e ∧ e < (sa.2.1 : Int)) (hs : sa.2.1 ≤ 3584) (kk : ∀ z : Int, (-2147483648 ≤ z ∧ z ≤ 2147483647) → sV (gG l D c H0 sa) M R Z (pc + 1) lv (iv z :: st) hp ce sl) : sV (gG l D c H0 sa) M R Z pc lv (iv e :: .retAddr 0 :: st) hp ce sl := sorry
theorem la_arg {j L : Int} (hd0 : decode M.2.1 pc = .ok (.aload_n 0, 1)) (hd1 : decode M.2.1 (pc + 1) = .ok (.iload_n 3, 1)) (hd2 : decode M.2.1 (pc + 2) = .ok (.iconst j, 1)) (hd3 : decode M.2.1 (pc + 3) = .ok (.iadd, 1)) (hd4 : decode M.2.1 (pc + 4) = .ok (.iaload, 1)) (hg0 : sGet 0 lv = some (.retAddr 0)) (hg3 : sGet 3 lv = some (iv L)) (hL : 0 ≤ L ∧ L + 7 ≤ (sa.2.1 : Int)) (hj : 0 ≤ j ∧ j ≤ 6) (hs : sa.2.1 ≤ 3584) (kk : ∀ z : Int, (-2147483648 ≤ z ∧ z ≤ 2147483647) → sV (gG l D c H0 sa) M R Z (pc + 5) lv (iv z :: st) hp ce sl) : sV (gG l D c H0 sa) M R Z pc lv st hp ce sl := sorry
theorem la_arg6 {L : Int} (hd0 : decode M.2.1 pc = .ok (.aload_n 0, 1)) (hd1 : decode M.2.1 (pc + 1) = .ok (.iload_n 3, 1)) (hd2 : decode M.2.1 (pc + 2) = .ok (.bipush 6, 2)) (hd3 : decode M.2.1 (pc + 4) = .ok (.iadd, 1)) (hd4 : decode M.2.1 (pc + 5) = .ok (.iaload, 1)) (hg0 : sGet 0 lv = some (.retAddr 0)) (hg3 : sGet 3 lv = some (iv L)) (hL : 0 ≤ L ∧ L + 7 ≤ (sa.2.1 : Int)) (hs : sa.2.1 ≤ 3584) (kk : ∀ z : Int, (-2147483648 ≤ z ∧ z ≤ 2147483647) → sV (gG l D c H0 sa) M R Z (pc + 6) lv (iv z :: st) hp ce sl) : sV (gG l D c H0 sa) M R Z pc lv st hp ce sl := sorry
/-- a boolean out of an int -/
theorem la_bool {x : Int} (hd : decode M.2.1 pc = .ok (.ifCond .eq 7, 3)) (hd1 : decode M.2.1 (pc + 3) = .ok (.iconst 1, 1)) (hd2 : decode M.2.1 (pc + 4) = .ok (.goto 4, 3)) (hd3 : decode M.2.1 (pc + 7) = .ok (.iconst 0, 1)) (hx : -2147483648 ≤ x ∧ x ≤ 2147483647) (kk : ∀ z : Int, (0 ≤ z ∧ z ≤ 1) → sV (gG l D c H0 sa) M R Z (pc + 8) lv (iv z :: st) hp ce sl) : sV (gG l D c H0 sa) M R Z pc lv (iv x :: st) hp ce sl := sorry
end LAWR

end
section
/-! no rows -/

end
section
set_option maxRecDepth 4000 in
set_option maxHeartbeats 4000000 in
theorem c_X12_domain_v {l : Launch} {D : va_G} {c : Nat → ClassId} {H0 : Heap} {sa : Nat × Nat × (Nat → Int32)} {w : mW} {μ : mM} (hw : mWF w) (hT : mT w μ) {f_d : Int} (q_f_d : μ 106 5 = f_d) : sC (gG l D c H0 sa) mX12_domain 1 0 0 [.ref 106] (mk w μ) (qI w [106005] μ (fun z μ1 => ∃ o_d : Int, μ1 106 5 = o_d ∧ ((-2147483648) ≤ z ∧ z ≤ 2147483647) ∧ (f_d = 10 → z = -3 ∧ o_d = f_d) ∧ (¬ f_d = 10 → z = f_d ∧ o_d = f_d + 1) ∧ True)) := sorry
end
section
/-! One walk for all memories that agree on what is read (S): the answer is the same for all of them.
K: what every such memory keeps in cell 106; W: what may be written. -/
def agr (S : Nat → Nat → Prop) (μ ν : mM) : Prop := ∀ a i, S a i → ν a i = μ a i
theorem agr.refl {S : Nat → Nat → Prop} {μ : mM} : agr S μ μ := sorry
theorem agr.mono {S S' : Nat → Nat → Prop} {μ ν : mM} (h : agr S μ ν) (hs : ∀ a i, S' a i → S a i) : agr S' μ ν := sorry
/-- a slot more -/
def Sins (S : Nat → Nat → Prop) (a k : Nat) : Nat → Nat → Prop := fun b j => S b j ∨ (b = a ∧ j = k)
theorem agr.ups {S : Nat → Nat → Prop} {μ ν μ1 ν1 : mM} {a k : Nat} {z : Int} (h : agr S μ ν) (u : mU μ a k z μ1) (v : mU ν a k z ν1) : agr (Sins S a k) μ1 ν1 := sorry
theorem agr.up {S : Nat → Nat → Prop} {μ ν μ1 ν1 : mM} {a k : Nat} {z : Int} (h : agr S μ ν) (u : mU μ a k z μ1) (v : mU ν a k z ν1) : agr S μ1 ν1 := sorry
theorem agr.cls {S : Nat → Nat → Prop} {μ ν : mM} (h : agr S μ ν) : agr S μ = agr S ν := sorry
theorem mU.eq {μ μ1 : mM} {a k : Nat} {z : Int} (h : mU μ a k z μ1) : μ1 = mUp μ a k z := sorry
theorem mUp.cell {μ : mM} {a k b : Nat} {z : Int} (h : b ≠ a) : mUp μ a k z b = μ b := sorry
def xqP (_w : mW) (μ : mM) (P : Int → Prop) : Option Value → mM → Prop := fun r m => ∃ z, r = some (iv z) ∧ m = μ ∧ P z
def xqI (w : mW) (lf : List Nat) (μ : mM) (P : Int → mM → Prop) : Option Value → mM → Prop := fun r m => ∃ z, r = some (iv z) ∧ mT w m ∧ mF lf w μ m ∧ P z m
def xqV (w : mW) (lf : List Nat) (μ : mM) (P : mM → Prop) : Option Value → mM → Prop := fun r m => r = none ∧ mT w m ∧ mF lf w μ m ∧ P m
/-- the machine at a place: all memories that agree with μ on S end with the same answer, and agree with the same memory on SE -/
def VS (l : Launch) (D : va_G) (c : Nat → ClassId) (H0 : Heap) (sa : Nat × Nat × (Nat → Int32)) (K : (Nat → Int) → (Nat → Int) → Prop) (W S SE : Nat → Nat → Prop) (M : sM) (R : Room) (Q : Option Value → mM → Prop) (pc : Nat) (lv : List (Nat × Value)) (st : List Value) (μ : mM) : Prop :=
  ∃ r μe, Q r μe ∧ ∀ w ν γ, mWF w → mT w ν → K γ (ν 106) → agr S μ ν → ∃ νe, (mT w νe ∧ K γ (νe 106) ∧ agr SE μe νe ∧ (∀ a i, ¬ W a i → νe a i = ν a i)) ∧ sV (gG l D c H0 sa) M R (sZ (gG l D c H0 sa) 0 0 (fun r' hp => r' = r ∧ hp = mk w νe)) pc lv st (mk w ν) 0 0
/-- a method -/
def VC (l : Launch) (D : va_G) (c : Nat → ClassId) (H0 : Heap) (sa : Nat × Nat × (Nat → Int32)) (K : (Nat → Int) → (Nat → Int) → Prop) (W S SE : Nat → Nat → Prop) (M : sM) (d : Nat) (av : List Value) (μ : mM) (Q : Option Value → mM → Prop) : Prop :=
  ∃ r μe, Q r μe ∧ ∀ w ν γ, mWF w → mT w ν → K γ (ν 106) → agr S μ ν → ∃ νe, (mT w νe ∧ K γ (νe 106) ∧ agr SE μe νe ∧ (∀ a i, ¬ W a i → νe a i = ν a i)) ∧ sC (gG l D c H0 sa) M d 0 0 av (mk w ν) (fun r' hp => r' = r ∧ hp = mk w νe)
section VXS
variable {l : Launch} {D : va_G} {c : Nat → ClassId} {H0 : Heap} {sa : Nat × Nat × (Nat → Int32)} {w : mW} {K : (Nat → Int) → (Nat → Int) → Prop} {W S S' SE : Nat → Nat → Prop} {Q : Option Value → mM → Prop} {M M' : sM} {R : Room} {d d' : Nat} {μ : mM} {pc pc' : Nat} {lv lv' : List (Nat × Value)} {st st' st0 av : List Value} {lf : List Nat}
theorem VC.of (hy : plainName M.1.cls = true) (hL : M.1.cls ≠ "DomainHouseLaw") (hn : (lg_sl av).length ≤ M.2.2.1) (h : VS l D c H0 sa K W S SE M (sRm d 0 0) Q 0 (lv_args 0 av) [] μ) : VC l D c H0 sa K W S SE M d av μ Q := sorry
theorem VS.lift (hr : ∀ (w : mW) (ν : mM) (Z : sZT), mWF w → mT w ν → (∃ γ, K γ (ν 106)) → agr S μ ν → sV (gG l D c H0 sa) M R Z pc' lv' st' (mk w ν) 0 0 → sV (gG l D c H0 sa) M R Z pc lv st (mk w ν) 0 0) (k : VS l D c H0 sa K W S SE M R Q pc' lv' st' μ) : VS l D c H0 sa K W S SE M R Q pc lv st μ := sorry
theorem VS.mono (hs : ∀ a i, S' a i → S a i) (k : VS l D c H0 sa K W S' SE M R Q pc lv st μ) : VS l D c H0 sa K W S SE M R Q pc lv st μ := sorry
/-- a store: what agreed agrees, and the slot too -/
theorem VS.put {a k : Nat} {z : Int} (hA : a ≠ 106) (hW : W a k) (hr : ∀ (w : mW) (ν : mM) (Z : sZT), mWF w → mT w ν → (∀ ν1, mU ν a k z ν1 → mT w ν1 → sV (gG l D c H0 sa) M R Z pc' lv' st' (mk w ν1) 0 0) → sV (gG l D c H0 sa) M R Z pc lv st (mk w ν) 0 0) (hz : ∀ (w : mW) (ν : mM), mWF w → mT w ν → mT w (mUp ν a k z)) (kt : VS l D c H0 sa K W (Sins S a k) SE M R Q pc' lv' st' (mUp μ a k z)) : VS l D c H0 sa K W S SE M R Q pc lv st μ := sorry
/-! returns -/
theorem xmr_iretP {z : Int} {P : Int → Prop} (hd : decode M.2.1 pc = .ok (.ireturn, 1)) (hret : M.2.2.2 = some .int) (_ : 0 ≤ 0) (_ : 0 ≤ 0) (hP : P z) (hs : ∀ a i, SE a i → S a i := by first | exact fun _ _ h => h | exact fun _ _ h => Or.inl h | exact fun _ _ h => Or.inl (Or.inl h)) : VS l D c H0 sa K W S SE M R (xqP w μ P) pc lv [iv z] μ := sorry
theorem xmr_zretP {z : Int} {P : Int → Prop} (hd : decode M.2.1 pc = .ok (.ireturn, 1)) (hret : M.2.2.2 = some .boolean) (hz : 0 ≤ z ∧ z ≤ 1) (_ : 0 ≤ 0) (_ : 0 ≤ 0) (hP : P z) (hs : ∀ a i, SE a i → S a i := by first | exact fun _ _ h => h | exact fun _ _ h => Or.inl h | exact fun _ _ h => Or.inl (Or.inl h)) : VS l D c H0 sa K W S SE M R (xqP w μ P) pc lv [iv z] μ := sorry
theorem xmr_iret {μ1 : mM} {z : Int} {P : Int → mM → Prop} (hd : decode M.2.1 pc = .ok (.ireturn, 1)) (hret : M.2.2.2 = some .int) (_ : 0 ≤ 0) (_ : 0 ≤ 0) (hT : mT w μ1) (hF : mF lf w μ μ1) (hP : P z μ1) (hs : ∀ a i, SE a i → S a i := by first | exact fun _ _ h => h | exact fun _ _ h => Or.inl h | exact fun _ _ h => Or.inl (Or.inl h)) : VS l D c H0 sa K W S SE M R (xqI w lf μ P) pc lv [iv z] μ1 := sorry
theorem xmr_zret {μ1 : mM} {z : Int} {P : Int → mM → Prop} (hd : decode M.2.1 pc = .ok (.ireturn, 1)) (hret : M.2.2.2 = some .boolean) (hz : 0 ≤ z ∧ z ≤ 1) (_ : 0 ≤ 0) (_ : 0 ≤ 0) (hT : mT w μ1) (hF : mF lf w μ μ1) (hP : P z μ1) (hs : ∀ a i, SE a i → S a i := by first | exact fun _ _ h => h | exact fun _ _ h => Or.inl h | exact fun _ _ h => Or.inl (Or.inl h)) : VS l D c H0 sa K W S SE M R (xqI w lf μ P) pc lv [iv z] μ1 := sorry
theorem xmr_vret {μ1 : mM} {P : mM → Prop} (hd : decode M.2.1 pc = .ok (.return_, 1)) (hret : M.2.2.2 = none) (_ : 0 ≤ 0) (_ : 0 ≤ 0) (hT : mT w μ1) (hF : mF lf w μ μ1) (hP : P μ1) (hs : ∀ a i, SE a i → S a i := by first | exact fun _ _ h => h | exact fun _ _ h => Or.inl h | exact fun _ _ h => Or.inl (Or.inl h)) : VS l D c H0 sa K W S SE M R (xqV w lf μ P) pc lv [] μ1 := sorry
/-! values -/
theorem xmr_gen {e : Int} {P : Int → Prop} (h : P e) (k : ∀ z, e = z → P z → VS l D c H0 sa K W S SE M R Q pc lv (iv z :: st) μ) : VS l D c H0 sa K W S SE M R Q pc lv (iv e :: st) μ := sorry
theorem xmr_genL {e : Int} (h : -9223372036854775808 ≤ e ∧ e ≤ 9223372036854775807) (k : ∀ z, e = z → (-9223372036854775808 ≤ z ∧ z ≤ 9223372036854775807) → VS l D c H0 sa K W S SE M R Q pc lv (jv z :: st) μ) : VS l D c H0 sa K W S SE M R Q pc lv (jv e :: st) μ := sorry
theorem xmr_wrap {e : Int} (k : ∀ z, (-2147483648 ≤ z ∧ z ≤ 2147483647) → VS l D c H0 sa K W S SE M R Q pc lv (iv z :: st) μ) : VS l D c H0 sa K W S SE M R Q pc lv (iv e :: st) μ := sorry
/-! calls -/
theorem VS.callV {S1 : Nat → Nat → Prop} {index ci : Nat} {T : vw_C} {ty : Nat → FieldType} {ks : List Nat} {Q' : Option Value → mM → Prop} (hct : VC l D c H0 sa K W S S1 M' d' (.ref 106 :: av) μ Q') (ho : sOk (gG l D c H0 sa)) (hd : decode M.2.1 pc = .ok (.invokevirtual index, 3)) (hm : sMt (gG l D c H0 sa) M' av.length) (hi : Cond.instanceMethod M'.1 ∈ sg_ws (gG l D c H0 sa) ∧ Cond.selects M'.1.cls M'.1 M'.1 ∈ sg_ws (gG l D c H0 sa)) (hlk : Cond.methodLink M.1.cls index M'.1 ∈ sg_ws (gG l D c H0 sa)) (hC : sCl (gG l D c H0 sa) ci T ty) (hT1 : T.1 = M'.1.cls) (hs : mTab 106 = .inl (ci, ks)) (hR : d' + 1 ≤ R.frames ∧ 60 * d' + M'.2.2.1 + 19 ≤ R.locals) (hst : st0 = av.reverse ++ .ref 106 :: st) (hr8 : (st.map fun v => v.category).sum ≤ 8)
    (kt : ∀ r μ1, Q' r μ1 → VS l D c H0 sa K W S1 SE M R Q (pc + 3) lv (r.toList ++ st) μ1) : VS l D c H0 sa K W S SE M R Q pc lv st0 μ := sorry
theorem VS.callS {S1 : Nat → Nat → Prop} {index : Nat} {Q' : Option Value → mM → Prop} (hct : VC l D c H0 sa K W S S1 M' d' av μ Q') (ho : sOk (gG l D c H0 sa)) (hd : decode M.2.1 pc = .ok (.invokestatic index, 3)) (hm : sMt (gG l D c H0 sa) M' av.length) (hi : Cond.static M'.1 ∈ sg_ws (gG l D c H0 sa)) (hlk : Cond.methodLink M.1.cls index M'.1 ∈ sg_ws (gG l D c H0 sa)) (hR : d' + 1 ≤ R.frames ∧ 60 * d' + M'.2.2.1 + 19 ≤ R.locals) (hst : st0 = av.reverse ++ st) (hr8 : (st.map fun v => v.category).sum ≤ 8)
    (kt : ∀ r μ1, Q' r μ1 → VS l D c H0 sa K W S1 SE M R Q (pc + 3) lv (r.toList ++ st) μ1) : VS l D c H0 sa K W S SE M R Q pc lv st0 μ := sorry
theorem xmr_cVP {S1 : Nat → Nat → Prop} {index ci : Nat} {T : vw_C} {ty : Nat → FieldType} {ks : List Nat} {P : Int → Prop} (hct : VC l D c H0 sa K W S S1 M' d' (.ref 106 :: av) μ (xqP w μ P)) (ho : sOk (gG l D c H0 sa)) (hd : decode M.2.1 pc = .ok (.invokevirtual index, 3)) (hm : sMt (gG l D c H0 sa) M' av.length) (hi : Cond.instanceMethod M'.1 ∈ sg_ws (gG l D c H0 sa) ∧ Cond.selects M'.1.cls M'.1 M'.1 ∈ sg_ws (gG l D c H0 sa)) (hlk : Cond.methodLink M.1.cls index M'.1 ∈ sg_ws (gG l D c H0 sa)) (hC : sCl (gG l D c H0 sa) ci T ty) (hT1 : T.1 = M'.1.cls) (_ : mAt w 106 106) (hs : mTab 106 = .inl (ci, ks)) (hR : d' + 1 ≤ R.frames ∧ 60 * d' + M'.2.2.1 + 19 ≤ R.locals) (_ : 0 ≤ R.cells ∧ 0 ≤ R.slots) (hst : st0 = av.reverse ++ .ref 106 :: st) (hr8 : (st.map fun v => v.category).sum ≤ 8)
    (kt : ∀ z, P z → VS l D c H0 sa K W S1 SE M R Q (pc + 3) lv (iv z :: st) μ) : VS l D c H0 sa K W S SE M R Q pc lv st0 μ := sorry
theorem xmr_cSP {S1 : Nat → Nat → Prop} {index : Nat} {P : Int → Prop} (hct : VC l D c H0 sa K W S S1 M' d' av μ (xqP w μ P)) (ho : sOk (gG l D c H0 sa)) (hd : decode M.2.1 pc = .ok (.invokestatic index, 3)) (hm : sMt (gG l D c H0 sa) M' av.length) (hi : Cond.static M'.1 ∈ sg_ws (gG l D c H0 sa)) (hlk : Cond.methodLink M.1.cls index M'.1 ∈ sg_ws (gG l D c H0 sa)) (hR : d' + 1 ≤ R.frames ∧ 60 * d' + M'.2.2.1 + 19 ≤ R.locals) (_ : 0 ≤ R.cells ∧ 0 ≤ R.slots) (hst : st0 = av.reverse ++ st) (hr8 : (st.map fun v => v.category).sum ≤ 8)
    (kt : ∀ z, P z → VS l D c H0 sa K W S1 SE M R Q (pc + 3) lv (iv z :: st) μ) : VS l D c H0 sa K W S SE M R Q pc lv st0 μ := sorry
theorem xmr_cVI {S1 : Nat → Nat → Prop} {index ci : Nat} {T : vw_C} {ty : Nat → FieldType} {ks : List Nat} {P : Int → mM → Prop} (hct : VC l D c H0 sa K W S S1 M' d' (.ref 106 :: av) μ (xqI w lf μ P)) (ho : sOk (gG l D c H0 sa)) (hd : decode M.2.1 pc = .ok (.invokevirtual index, 3)) (hm : sMt (gG l D c H0 sa) M' av.length) (hi : Cond.instanceMethod M'.1 ∈ sg_ws (gG l D c H0 sa) ∧ Cond.selects M'.1.cls M'.1 M'.1 ∈ sg_ws (gG l D c H0 sa)) (hlk : Cond.methodLink M.1.cls index M'.1 ∈ sg_ws (gG l D c H0 sa)) (hC : sCl (gG l D c H0 sa) ci T ty) (hT1 : T.1 = M'.1.cls) (_ : mAt w 106 106) (hs : mTab 106 = .inl (ci, ks)) (hR : d' + 1 ≤ R.frames ∧ 60 * d' + M'.2.2.1 + 19 ≤ R.locals) (_ : 0 ≤ R.cells ∧ 0 ≤ R.slots) (hst : st0 = av.reverse ++ .ref 106 :: st) (hr8 : (st.map fun v => v.category).sum ≤ 8)
    (kt : ∀ z μ1, mT w μ1 → mF lf w μ μ1 → P z μ1 → VS l D c H0 sa K W S1 SE M R Q (pc + 3) lv (iv z :: st) μ1) : VS l D c H0 sa K W S SE M R Q pc lv st0 μ := sorry
theorem xmr_cVV {S1 : Nat → Nat → Prop} {index ci : Nat} {T : vw_C} {ty : Nat → FieldType} {ks : List Nat} {P : mM → Prop} (hct : VC l D c H0 sa K W S S1 M' d' (.ref 106 :: av) μ (xqV w lf μ P)) (ho : sOk (gG l D c H0 sa)) (hd : decode M.2.1 pc = .ok (.invokevirtual index, 3)) (hm : sMt (gG l D c H0 sa) M' av.length) (hi : Cond.instanceMethod M'.1 ∈ sg_ws (gG l D c H0 sa) ∧ Cond.selects M'.1.cls M'.1 M'.1 ∈ sg_ws (gG l D c H0 sa)) (hlk : Cond.methodLink M.1.cls index M'.1 ∈ sg_ws (gG l D c H0 sa)) (hC : sCl (gG l D c H0 sa) ci T ty) (hT1 : T.1 = M'.1.cls) (_ : mAt w 106 106) (hs : mTab 106 = .inl (ci, ks)) (hR : d' + 1 ≤ R.frames ∧ 60 * d' + M'.2.2.1 + 19 ≤ R.locals) (_ : 0 ≤ R.cells ∧ 0 ≤ R.slots) (hst : st0 = av.reverse ++ .ref 106 :: st) (hr8 : (st.map fun v => v.category).sum ≤ 8)
    (kt : ∀ μ1, mT w μ1 → mF lf w μ μ1 → P μ1 → VS l D c H0 sa K W S1 SE M R Q (pc + 3) lv st μ1) : VS l D c H0 sa K W S SE M R Q pc lv st0 μ := sorry
end VXS
/-- a row of routes, its first n slots -/
def Srow (S : Nat → Nat → Prop) (r n : Int) : Nat → Nat → Prop := fun a i => S a i ∨ (a = 126 ∧ 40 * r ≤ (i : Int) ∧ (i : Int) < 40 * r + n)
theorem Srow.le {S : Nat → Nat → Prop} {r n m : Int} (h : m ≤ n) : ∀ a i, Srow S r m a i → Srow S r n a i := sorry
theorem Srow.ins {S : Nat → Nat → Prop} {r n : Int} (hr : 0 ≤ r) (hn : 0 ≤ n) : ∀ a i, Srow S r (n + 1) a i → Sins (Srow S r n) 126 ((40 * r + n).toNat) a i := sorry
/-- the levels of `through` below n -/
def Slev (S : Nat → Nat → Prop) (n : Int) : Nat → Nat → Prop := fun a i => S a i ∨ ((a = 151 ∨ a = 152 ∨ a = 153) ∧ (i : Int) < n)
theorem Slev.le {S : Nat → Nat → Prop} {n m : Int} (h : m ≤ n) : ∀ a i, Slev S m a i → Slev S n a i := sorry
theorem Slev.ins {S : Nat → Nat → Prop} {n : Int} (hn : 0 ≤ n) : ∀ a i, Slev S (n + 1) a i → Sins (Sins (Sins (Slev S n) 151 n.toNat) 152 n.toNat) 153 n.toNat a i := sorry
end
section
section VXR
variable {l : Launch} {D : va_G} {c : Nat → ClassId} {H0 : Heap} {sa : Nat × Nat × (Nat → Int32)} {w : mW} {K : (Nat → Int) → (Nat → Int) → Prop} {W S SE : Nat → Nat → Prop} {Q : Option Value → mM → Prop} {M : sM} {R : Room} {μ : mM} {pc : Nat} {lv lv' : List (Nat × Value)} {st : List Value}
theorem xmr_iload_n {q : Fin 4} {i : Nat} {z : Int} (hd : decode M.2.1 pc = .ok (.iload_n q, 1)) (hi : (q : Nat) = i) (hg : sGet i lv = some (iv z)) (k : VS l D c H0 sa K W S SE M R Q (pc + 1) lv (iv z :: st) μ) : VS l D c H0 sa K W S SE M R Q pc lv st μ := sorry
theorem xsv_aload_n {q : Fin 4} {i : Nat} {x : Nat} (hd : decode M.2.1 pc = .ok (.aload_n q, 1)) (hi : (q : Nat) = i) (hg : sGet i lv = some (.ref x)) (k : VS l D c H0 sa K W S SE M R Q (pc + 1) lv (.ref x :: st) μ) : VS l D c H0 sa K W S SE M R Q (pc) lv (st) μ := sorry
theorem xmr_iload {i : Nat} {z : Int} (hd : decode M.2.1 pc = .ok (.iload i, 2)) (hg : sGet i lv = some (iv z)) (k : VS l D c H0 sa K W S SE M R Q (pc + 2) lv (iv z :: st) μ) : VS l D c H0 sa K W S SE M R Q pc lv st μ := sorry
theorem xmr_iconst {z : Int} (hd : decode M.2.1 pc = .ok (.iconst z, 1)) (k : VS l D c H0 sa K W S SE M R Q (pc + 1) lv (iv z :: st) μ) : VS l D c H0 sa K W S SE M R Q pc lv st μ := sorry
theorem xmr_lvS (h : ∀ q ∈ lv', sGet q.1 lv = some q.2) (k : VS l D c H0 sa K W S SE M R Q pc lv' st μ) : VS l D c H0 sa K W S SE M R Q pc lv st μ := sorry
theorem xmr_bipush {z : Int} (hd : decode M.2.1 pc = .ok (.bipush z, 2)) (hv : (Int8.ofInt z).toInt32 = Int32.ofInt z) (k : VS l D c H0 sa K W S SE M R Q (pc + 2) lv (iv z :: st) μ) : VS l D c H0 sa K W S SE M R Q pc lv st μ := sorry
theorem xsv_goto {off : Int} {tgt : Nat} (hd : decode M.2.1 pc = .ok (.goto off, 3)) (ht : (pc : Int) + off = (tgt : Int)) (k : VS l D c H0 sa K W S SE M R Q (tgt) lv (st) μ) : VS l D c H0 sa K W S SE M R Q (pc) lv (st) μ := sorry
theorem xmr_iadd {x y : Int} (hd : decode M.2.1 pc = .ok (.iadd, 1)) (k : VS l D c H0 sa K W S SE M R Q (pc + 1) lv (iv (x + y) :: st) μ) : VS l D c H0 sa K W S SE M R Q pc lv (iv y :: iv x :: st) μ := sorry
theorem xmr_imul {x y : Int} (hd : decode M.2.1 pc = .ok (.imul, 1)) (k : VS l D c H0 sa K W S SE M R Q (pc + 1) lv (iv (x * y) :: st) μ) : VS l D c H0 sa K W S SE M R Q pc lv (iv y :: iv x :: st) μ := sorry
theorem xmr_istore {i : Nat} {z : Int} (hd : decode M.2.1 pc = .ok (.istore i, 2)) (hn : i < M.2.2.1) (hl : sSet i (iv z) lv = lv') (k : VS l D c H0 sa K W S SE M R Q (pc + 2) lv' st μ) : VS l D c H0 sa K W S SE M R Q pc lv (iv z :: st) μ := sorry
theorem xmr_iinc {i : Nat} {n z : Int} (hd : decode M.2.1 pc = .ok (.iinc i n, 3)) (hg : sGet i lv = some (iv z)) (hn : i < M.2.2.1) (hl : sSet i (iv (z + n)) lv = lv') (k : VS l D c H0 sa K W S SE M R Q (pc + 3) lv' st μ) : VS l D c H0 sa K W S SE M R Q pc lv st μ := sorry
theorem xmr_lvE (h : lv = lv') (k : VS l D c H0 sa K W S SE M R Q pc lv' st μ) : VS l D c H0 sa K W S SE M R Q pc lv st μ := sorry
theorem xmr_istore_n {q : Fin 4} {i : Nat} {z : Int} (hd : decode M.2.1 pc = .ok (.istore_n q, 1)) (hi : (q : Nat) = i) (hn : i < M.2.2.1) (hl : sSet i (iv z) lv = lv') (k : VS l D c H0 sa K W S SE M R Q (pc + 1) lv' st μ) : VS l D c H0 sa K W S SE M R Q pc lv (iv z :: st) μ := sorry
theorem xmr_lconst {n : Fin 2} {z : Int} (hd : decode M.2.1 pc = .ok (.lconst n, 1)) (hv : Int64.ofNat (n : Nat) = Int64.ofInt z) (k : VS l D c H0 sa K W S SE M R Q (pc + 1) lv (jv z :: st) μ) : VS l D c H0 sa K W S SE M R Q pc lv st μ := sorry
theorem xmr_lstore {i : Nat} {z : Int} (hd : decode M.2.1 pc = .ok (.lstore i, 2)) (hn : i + 1 < M.2.2.1) (hl : sSetL i (jv z) lv = lv') (k : VS l D c H0 sa K W S SE M R Q (pc + 2) lv' st μ) : VS l D c H0 sa K W S SE M R Q pc lv (jv z :: st) μ := sorry
theorem xmr_lload {i : Nat} {z : Int} (hd : decode M.2.1 pc = .ok (.lload i, 2)) (hg : sGet i lv = some (jv z)) (k : VS l D c H0 sa K W S SE M R Q (pc + 2) lv (jv z :: st) μ) : VS l D c H0 sa K W S SE M R Q pc lv st μ := sorry
theorem xmr_sipush {z : Int} (hd : decode M.2.1 pc = .ok (.sipush z, 3)) (hv : (Int16.ofInt z).toInt32 = Int32.ofInt z) (k : VS l D c H0 sa K W S SE M R Q (pc + 3) lv (iv z :: st) μ) : VS l D c H0 sa K W S SE M R Q pc lv st μ := sorry
theorem xmr_ldc {index : Nat} {v : Int32} {z : Int} (hd : decode M.2.1 pc = .ok (.ldc index, 2)) (hw : Cond.constant M.1.cls index v ∈ sg_ws (gG l D c H0 sa)) (hv : v = Int32.ofInt z) (k : VS l D c H0 sa K W S SE M R Q (pc + 2) lv (iv z :: st) μ) : VS l D c H0 sa K W S SE M R Q pc lv st μ := sorry
theorem xsv_dup2 {x y : Value} (hd : decode M.2.1 pc = .ok (.dup2, 1)) (hc : x.category = 1) (hc2 : y.category = 1) (k : VS l D c H0 sa K W S SE M R Q (pc + 1) lv (x :: y :: x :: y :: st) μ) : VS l D c H0 sa K W S SE M R Q (pc) lv (x :: y :: st) μ := sorry
theorem xmr_land {x y : Int} (hd : decode M.2.1 pc = .ok (.land, 1)) (k : VS l D c H0 sa K W S SE M R Q (pc + 1) lv (jv (lAnd x y) :: st) μ) : VS l D c H0 sa K W S SE M R Q pc lv (jv y :: jv x :: st) μ := sorry
theorem xmr_lcmp {x y : Int} (hd : decode M.2.1 pc = .ok (.lcmp, 1)) (k : VS l D c H0 sa K W S SE M R Q (pc + 1) lv (iv (lCmp x y) :: st) μ) : VS l D c H0 sa K W S SE M R Q pc lv (jv y :: jv x :: st) μ := sorry
theorem xmr_lor {x y : Int} (hd : decode M.2.1 pc = .ok (.lor, 1)) (k : VS l D c H0 sa K W S SE M R Q (pc + 1) lv (jv (lOr x y) :: st) μ) : VS l D c H0 sa K W S SE M R Q pc lv (jv y :: jv x :: st) μ := sorry
theorem xmr_lshr {x y : Int} (hd : decode M.2.1 pc = .ok (.lshr, 1)) (k : VS l D c H0 sa K W S SE M R Q (pc + 1) lv (jv (lShr x y) :: st) μ) : VS l D c H0 sa K W S SE M R Q pc lv (iv y :: jv x :: st) μ := sorry
theorem xmr_lshl {x y : Int} (hd : decode M.2.1 pc = .ok (.lshl, 1)) (k : VS l D c H0 sa K W S SE M R Q (pc + 1) lv (jv (lShl x y) :: st) μ) : VS l D c H0 sa K W S SE M R Q pc lv (iv y :: jv x :: st) μ := sorry
theorem xsv_pop {x : Value} (hd : decode M.2.1 pc = .ok (.pop, 1)) (hc : x.category = 1) (k : VS l D c H0 sa K W S SE M R Q (pc + 1) lv (st) μ) : VS l D c H0 sa K W S SE M R Q (pc) lv (x :: st) μ := sorry
theorem xmr_ixor {x y : Int} (hd : decode M.2.1 pc = .ok (.ixor, 1)) (k : VS l D c H0 sa K W S SE M R Q (pc + 1) lv (iv (bXor x y) :: st) μ) : VS l D c H0 sa K W S SE M R Q pc lv (iv y :: iv x :: st) μ := sorry
theorem xmr_iand {x y : Int} (hd : decode M.2.1 pc = .ok (.iand, 1)) (k : VS l D c H0 sa K W S SE M R Q (pc + 1) lv (iv (bAnd x y) :: st) μ) : VS l D c H0 sa K W S SE M R Q pc lv (iv y :: iv x :: st) μ := sorry
theorem xmr_ishl {x y : Int} (hd : decode M.2.1 pc = .ok (.ishl, 1)) (k : VS l D c H0 sa K W S SE M R Q (pc + 1) lv (iv (bShl x y) :: st) μ) : VS l D c H0 sa K W S SE M R Q pc lv (iv y :: iv x :: st) μ := sorry
theorem xmr_isub {x y : Int} (hd : decode M.2.1 pc = .ok (.isub, 1)) (k : VS l D c H0 sa K W S SE M R Q (pc + 1) lv (iv (x - y) :: st) μ) : VS l D c H0 sa K W S SE M R Q pc lv (iv y :: iv x :: st) μ := sorry
theorem xmr_icmp_ne {x y off : Int} {tgt : Nat} (hd : decode M.2.1 pc = .ok (.if_icmp .ne off, 3)) (ht : (pc : Int) + off = (tgt : Int)) (hx : -2147483648 ≤ x ∧ x ≤ 2147483647) (hy : -2147483648 ≤ y ∧ y ≤ 2147483647) (kt : ¬ x = y → VS l D c H0 sa K W S SE M R Q tgt lv st μ) (kf : x = y → VS l D c H0 sa K W S SE M R Q (pc + 3) lv st μ) : VS l D c H0 sa K W S SE M R Q pc lv (iv y :: iv x :: st) μ := sorry
theorem xmr_icmp_ge {x y off : Int} {tgt : Nat} (hd : decode M.2.1 pc = .ok (.if_icmp .ge off, 3)) (ht : (pc : Int) + off = (tgt : Int)) (hx : -2147483648 ≤ x ∧ x ≤ 2147483647) (hy : -2147483648 ≤ y ∧ y ≤ 2147483647) (kt : y ≤ x → VS l D c H0 sa K W S SE M R Q tgt lv st μ) (kf : x < y → VS l D c H0 sa K W S SE M R Q (pc + 3) lv st μ) : VS l D c H0 sa K W S SE M R Q pc lv (iv y :: iv x :: st) μ := sorry
theorem xmr_icmp_eq {x y off : Int} {tgt : Nat} (hd : decode M.2.1 pc = .ok (.if_icmp .eq off, 3)) (ht : (pc : Int) + off = (tgt : Int)) (hx : -2147483648 ≤ x ∧ x ≤ 2147483647) (hy : -2147483648 ≤ y ∧ y ≤ 2147483647) (kt : x = y → VS l D c H0 sa K W S SE M R Q tgt lv st μ) (kf : ¬ x = y → VS l D c H0 sa K W S SE M R Q (pc + 3) lv st μ) : VS l D c H0 sa K W S SE M R Q pc lv (iv y :: iv x :: st) μ := sorry
theorem xmr_icmp_gt {x y off : Int} {tgt : Nat} (hd : decode M.2.1 pc = .ok (.if_icmp .gt off, 3)) (ht : (pc : Int) + off = (tgt : Int)) (hx : -2147483648 ≤ x ∧ x ≤ 2147483647) (hy : -2147483648 ≤ y ∧ y ≤ 2147483647) (kt : y < x → VS l D c H0 sa K W S SE M R Q tgt lv st μ) (kf : x ≤ y → VS l D c H0 sa K W S SE M R Q (pc + 3) lv st μ) : VS l D c H0 sa K W S SE M R Q pc lv (iv y :: iv x :: st) μ := sorry
theorem xmr_icmp_le {x y off : Int} {tgt : Nat} (hd : decode M.2.1 pc = .ok (.if_icmp .le off, 3)) (ht : (pc : Int) + off = (tgt : Int)) (hx : -2147483648 ≤ x ∧ x ≤ 2147483647) (hy : -2147483648 ≤ y ∧ y ≤ 2147483647) (kt : x ≤ y → VS l D c H0 sa K W S SE M R Q tgt lv st μ) (kf : y < x → VS l D c H0 sa K W S SE M R Q (pc + 3) lv st μ) : VS l D c H0 sa K W S SE M R Q pc lv (iv y :: iv x :: st) μ := sorry
theorem xmr_icmp_lt {x y off : Int} {tgt : Nat} (hd : decode M.2.1 pc = .ok (.if_icmp .lt off, 3)) (ht : (pc : Int) + off = (tgt : Int)) (hx : -2147483648 ≤ x ∧ x ≤ 2147483647) (hy : -2147483648 ≤ y ∧ y ≤ 2147483647) (kt : x < y → VS l D c H0 sa K W S SE M R Q tgt lv st μ) (kf : y ≤ x → VS l D c H0 sa K W S SE M R Q (pc + 3) lv st μ) : VS l D c H0 sa K W S SE M R Q pc lv (iv y :: iv x :: st) μ := sorry
theorem xmr_if_ne {x off : Int} {tgt : Nat} (hd : decode M.2.1 pc = .ok (.ifCond .ne off, 3)) (ht : (pc : Int) + off = (tgt : Int)) (hx : -2147483648 ≤ x ∧ x ≤ 2147483647) (kt : ¬ x = 0 → VS l D c H0 sa K W S SE M R Q tgt lv st μ) (kf : x = 0 → VS l D c H0 sa K W S SE M R Q (pc + 3) lv st μ) : VS l D c H0 sa K W S SE M R Q pc lv (iv x :: st) μ := sorry
theorem xmr_if_eq {x off : Int} {tgt : Nat} (hd : decode M.2.1 pc = .ok (.ifCond .eq off, 3)) (ht : (pc : Int) + off = (tgt : Int)) (hx : -2147483648 ≤ x ∧ x ≤ 2147483647) (kt : x = 0 → VS l D c H0 sa K W S SE M R Q tgt lv st μ) (kf : ¬ x = 0 → VS l D c H0 sa K W S SE M R Q (pc + 3) lv st μ) : VS l D c H0 sa K W S SE M R Q pc lv (iv x :: st) μ := sorry
theorem xmr_if_le {x off : Int} {tgt : Nat} (hd : decode M.2.1 pc = .ok (.ifCond .le off, 3)) (ht : (pc : Int) + off = (tgt : Int)) (hx : -2147483648 ≤ x ∧ x ≤ 2147483647) (kt : x ≤ 0 → VS l D c H0 sa K W S SE M R Q tgt lv st μ) (kf : 0 < x → VS l D c H0 sa K W S SE M R Q (pc + 3) lv st μ) : VS l D c H0 sa K W S SE M R Q pc lv (iv x :: st) μ := sorry
theorem xmr_if_lt {x off : Int} {tgt : Nat} (hd : decode M.2.1 pc = .ok (.ifCond .lt off, 3)) (ht : (pc : Int) + off = (tgt : Int)) (hx : -2147483648 ≤ x ∧ x ≤ 2147483647) (kt : x < 0 → VS l D c H0 sa K W S SE M R Q tgt lv st μ) (kf : 0 ≤ x → VS l D c H0 sa K W S SE M R Q (pc + 3) lv st μ) : VS l D c H0 sa K W S SE M R Q pc lv (iv x :: st) μ := sorry
set_option maxRecDepth 20000 in
theorem xgf_X12_12 {index : Nat} (hd : decode M.2.1 pc = .ok (.getfield index, 3)) (hw : sFl (RX12, TX12, 126) M.1.cls index 12 ∈ lw_ok) (hA : mAt w 106 106) (hT : mT w μ) (kt : VS l D c H0 sa K W S SE M R Q (pc + 3) lv (.ref 115 :: st) μ) : VS l D c H0 sa K W S SE M R Q (pc) lv (.ref 106 :: st) μ := sorry
set_option maxRecDepth 20000 in
theorem xgf_X12_17 {index : Nat} (hd : decode M.2.1 pc = .ok (.getfield index, 3)) (hw : sFl (RX12, TX12, 126) M.1.cls index 17 ∈ lw_ok) (hA : mAt w 106 106) (hT : mT w μ) (kt : ∀ z, μ 106 17 = z → (0 ≤ z ∧ z ≤ 2147483647) → VS l D c H0 sa K W S SE M R Q (pc + 3) lv (iv z :: st) μ) (hS : S 106 17) : VS l D c H0 sa K W S SE M R Q (pc) lv (.ref 106 :: st) μ := sorry
set_option maxRecDepth 20000 in
theorem xgf_X12_18 {index : Nat} (hd : decode M.2.1 pc = .ok (.getfield index, 3)) (hw : sFl (RX12, TX12, 126) M.1.cls index 18 ∈ lw_ok) (hA : mAt w 106 106) (hT : mT w μ) (kt : ∀ z, μ 106 18 = z → (0 ≤ z ∧ z ≤ 30) → VS l D c H0 sa K W S SE M R Q (pc + 3) lv (iv z :: st) μ) (hS : S 106 18) : VS l D c H0 sa K W S SE M R Q (pc) lv (.ref 106 :: st) μ := sorry
set_option maxRecDepth 20000 in
theorem xgf_X12_19 {index : Nat} (hd : decode M.2.1 pc = .ok (.getfield index, 3)) (hw : sFl (RX12, TX12, 126) M.1.cls index 19 ∈ lw_ok) (hA : mAt w 106 106) (hT : mT w μ) (kt : VS l D c H0 sa K W S SE M R Q (pc + 3) lv (.ref 119 :: st) μ) : VS l D c H0 sa K W S SE M R Q (pc) lv (.ref 106 :: st) μ := sorry
set_option maxRecDepth 20000 in
theorem xgf_X12_20 {index : Nat} (hd : decode M.2.1 pc = .ok (.getfield index, 3)) (hw : sFl (RX12, TX12, 126) M.1.cls index 20 ∈ lw_ok) (hA : mAt w 106 106) (hT : mT w μ) (kt : VS l D c H0 sa K W S SE M R Q (pc + 3) lv (.ref 120 :: st) μ) : VS l D c H0 sa K W S SE M R Q (pc) lv (.ref 106 :: st) μ := sorry
set_option maxRecDepth 20000 in
theorem xgf_X12_21 {index : Nat} (hd : decode M.2.1 pc = .ok (.getfield index, 3)) (hw : sFl (RX12, TX12, 126) M.1.cls index 21 ∈ lw_ok) (hA : mAt w 106 106) (hT : mT w μ) (kt : VS l D c H0 sa K W S SE M R Q (pc + 3) lv (.ref 121 :: st) μ) : VS l D c H0 sa K W S SE M R Q (pc) lv (.ref 106 :: st) μ := sorry
set_option maxRecDepth 20000 in
theorem xgf_X12_22 {index : Nat} (hd : decode M.2.1 pc = .ok (.getfield index, 3)) (hw : sFl (RX12, TX12, 126) M.1.cls index 22 ∈ lw_ok) (hA : mAt w 106 106) (hT : mT w μ) (kt : VS l D c H0 sa K W S SE M R Q (pc + 3) lv (.ref 122 :: st) μ) : VS l D c H0 sa K W S SE M R Q (pc) lv (.ref 106 :: st) μ := sorry
set_option maxRecDepth 20000 in
theorem xgf_X12_23 {index : Nat} (hd : decode M.2.1 pc = .ok (.getfield index, 3)) (hw : sFl (RX12, TX12, 126) M.1.cls index 23 ∈ lw_ok) (hA : mAt w 106 106) (hT : mT w μ) (kt : VS l D c H0 sa K W S SE M R Q (pc + 3) lv (.ref 123 :: st) μ) : VS l D c H0 sa K W S SE M R Q (pc) lv (.ref 106 :: st) μ := sorry
set_option maxRecDepth 20000 in
theorem xgf_X12_24 {index : Nat} (hd : decode M.2.1 pc = .ok (.getfield index, 3)) (hw : sFl (RX12, TX12, 126) M.1.cls index 24 ∈ lw_ok) (hA : mAt w 106 106) (hT : mT w μ) (kt : VS l D c H0 sa K W S SE M R Q (pc + 3) lv (.ref 124 :: st) μ) : VS l D c H0 sa K W S SE M R Q (pc) lv (.ref 106 :: st) μ := sorry
set_option maxRecDepth 20000 in
theorem xgf_X12_25 {index : Nat} (hd : decode M.2.1 pc = .ok (.getfield index, 3)) (hw : sFl (RX12, TX12, 126) M.1.cls index 25 ∈ lw_ok) (hA : mAt w 106 106) (hT : mT w μ) (kt : VS l D c H0 sa K W S SE M R Q (pc + 3) lv (.ref 125 :: st) μ) : VS l D c H0 sa K W S SE M R Q (pc) lv (.ref 106 :: st) μ := sorry
set_option maxRecDepth 20000 in
theorem xgf_X12_3 {index : Nat} (hd : decode M.2.1 pc = .ok (.getfield index, 3)) (hw : sFl (RX12, TX12, 126) M.1.cls index 3 ∈ lw_ok) (hA : mAt w 106 106) (hT : mT w μ) (kt : VS l D c H0 sa K W S SE M R Q (pc + 3) lv (.ref 108 :: st) μ) : VS l D c H0 sa K W S SE M R Q (pc) lv (.ref 106 :: st) μ := sorry
set_option maxRecDepth 20000 in
theorem xgf_X12_32 {index : Nat} (hd : decode M.2.1 pc = .ok (.getfield index, 3)) (hw : sFl (RX12, TX12, 126) M.1.cls index 32 ∈ lw_ok) (hA : mAt w 106 106) (hT : mT w μ) (kt : VS l D c H0 sa K W S SE M R Q (pc + 3) lv (.ref 126 :: st) μ) : VS l D c H0 sa K W S SE M R Q (pc) lv (.ref 106 :: st) μ := sorry
set_option maxRecDepth 20000 in
theorem xgf_X12_4 {index : Nat} (hd : decode M.2.1 pc = .ok (.getfield index, 3)) (hw : sFl (RX12, TX12, 126) M.1.cls index 4 ∈ lw_ok) (hA : mAt w 106 106) (hT : mT w μ) (kt : VS l D c H0 sa K W S SE M R Q (pc + 3) lv (.ref 109 :: st) μ) : VS l D c H0 sa K W S SE M R Q (pc) lv (.ref 106 :: st) μ := sorry
set_option maxRecDepth 20000 in
theorem xgf_X12_40 {index : Nat} (hd : decode M.2.1 pc = .ok (.getfield index, 3)) (hw : sFl (RX12, TX12, 126) M.1.cls index 40 ∈ lw_ok) (hA : mAt w 106 106) (hT : mT w μ) (kt : VS l D c H0 sa K W S SE M R Q (pc + 3) lv (.ref 127 :: st) μ) : VS l D c H0 sa K W S SE M R Q (pc) lv (.ref 106 :: st) μ := sorry
set_option maxRecDepth 20000 in
theorem xgf_X12_41 {index : Nat} (hd : decode M.2.1 pc = .ok (.getfield index, 3)) (hw : sFl (RX12, TX12, 126) M.1.cls index 41 ∈ lw_ok) (hA : mAt w 106 106) (hT : mT w μ) (kt : VS l D c H0 sa K W S SE M R Q (pc + 3) lv (.ref 128 :: st) μ) : VS l D c H0 sa K W S SE M R Q (pc) lv (.ref 106 :: st) μ := sorry
set_option maxRecDepth 20000 in
theorem xgf_X12_42 {index : Nat} (hd : decode M.2.1 pc = .ok (.getfield index, 3)) (hw : sFl (RX12, TX12, 126) M.1.cls index 42 ∈ lw_ok) (hA : mAt w 106 106) (hT : mT w μ) (kt : VS l D c H0 sa K W S SE M R Q (pc + 3) lv (.ref 129 :: st) μ) : VS l D c H0 sa K W S SE M R Q (pc) lv (.ref 106 :: st) μ := sorry
set_option maxRecDepth 20000 in
theorem xgf_X12_45 {index : Nat} (hd : decode M.2.1 pc = .ok (.getfield index, 3)) (hw : sFl (RX12, TX12, 126) M.1.cls index 45 ∈ lw_ok) (hA : mAt w 106 106) (hT : mT w μ) (kt : VS l D c H0 sa K W S SE M R Q (pc + 3) lv (.ref 132 :: st) μ) : VS l D c H0 sa K W S SE M R Q (pc) lv (.ref 106 :: st) μ := sorry
set_option maxRecDepth 20000 in
theorem xgf_X12_46 {index : Nat} (hd : decode M.2.1 pc = .ok (.getfield index, 3)) (hw : sFl (RX12, TX12, 126) M.1.cls index 46 ∈ lw_ok) (hA : mAt w 106 106) (hT : mT w μ) (kt : VS l D c H0 sa K W S SE M R Q (pc + 3) lv (.ref 133 :: st) μ) : VS l D c H0 sa K W S SE M R Q (pc) lv (.ref 106 :: st) μ := sorry
set_option maxRecDepth 20000 in
theorem xgf_X12_47 {index : Nat} (hd : decode M.2.1 pc = .ok (.getfield index, 3)) (hw : sFl (RX12, TX12, 126) M.1.cls index 47 ∈ lw_ok) (hA : mAt w 106 106) (hT : mT w μ) (kt : VS l D c H0 sa K W S SE M R Q (pc + 3) lv (.ref 134 :: st) μ) : VS l D c H0 sa K W S SE M R Q (pc) lv (.ref 106 :: st) μ := sorry
set_option maxRecDepth 20000 in
theorem xgf_X12_48 {index : Nat} (hd : decode M.2.1 pc = .ok (.getfield index, 3)) (hw : sFl (RX12, TX12, 126) M.1.cls index 48 ∈ lw_ok) (hA : mAt w 106 106) (hT : mT w μ) (kt : VS l D c H0 sa K W S SE M R Q (pc + 3) lv (.ref 135 :: st) μ) : VS l D c H0 sa K W S SE M R Q (pc) lv (.ref 106 :: st) μ := sorry
set_option maxRecDepth 20000 in
theorem xgf_X12_49 {index : Nat} (hd : decode M.2.1 pc = .ok (.getfield index, 3)) (hw : sFl (RX12, TX12, 126) M.1.cls index 49 ∈ lw_ok) (hA : mAt w 106 106) (hT : mT w μ) (kt : VS l D c H0 sa K W S SE M R Q (pc + 3) lv (.ref 136 :: st) μ) : VS l D c H0 sa K W S SE M R Q (pc) lv (.ref 106 :: st) μ := sorry
set_option maxRecDepth 20000 in
theorem xgf_X12_50 {index : Nat} (hd : decode M.2.1 pc = .ok (.getfield index, 3)) (hw : sFl (RX12, TX12, 126) M.1.cls index 50 ∈ lw_ok) (hA : mAt w 106 106) (hT : mT w μ) (kt : VS l D c H0 sa K W S SE M R Q (pc + 3) lv (.ref 137 :: st) μ) : VS l D c H0 sa K W S SE M R Q (pc) lv (.ref 106 :: st) μ := sorry
set_option maxRecDepth 20000 in
theorem xgf_X12_51 {index : Nat} (hd : decode M.2.1 pc = .ok (.getfield index, 3)) (hw : sFl (RX12, TX12, 126) M.1.cls index 51 ∈ lw_ok) (hA : mAt w 106 106) (hT : mT w μ) (kt : VS l D c H0 sa K W S SE M R Q (pc + 3) lv (.ref 138 :: st) μ) : VS l D c H0 sa K W S SE M R Q (pc) lv (.ref 106 :: st) μ := sorry
set_option maxRecDepth 20000 in
theorem xgf_X12_52 {index : Nat} (hd : decode M.2.1 pc = .ok (.getfield index, 3)) (hw : sFl (RX12, TX12, 126) M.1.cls index 52 ∈ lw_ok) (hA : mAt w 106 106) (hT : mT w μ) (kt : VS l D c H0 sa K W S SE M R Q (pc + 3) lv (.ref 139 :: st) μ) : VS l D c H0 sa K W S SE M R Q (pc) lv (.ref 106 :: st) μ := sorry
set_option maxRecDepth 20000 in
theorem xgf_X12_53 {index : Nat} (hd : decode M.2.1 pc = .ok (.getfield index, 3)) (hw : sFl (RX12, TX12, 126) M.1.cls index 53 ∈ lw_ok) (hA : mAt w 106 106) (hT : mT w μ) (kt : VS l D c H0 sa K W S SE M R Q (pc + 3) lv (.ref 140 :: st) μ) : VS l D c H0 sa K W S SE M R Q (pc) lv (.ref 106 :: st) μ := sorry
set_option maxRecDepth 20000 in
theorem xgf_X12_54 {index : Nat} (hd : decode M.2.1 pc = .ok (.getfield index, 3)) (hw : sFl (RX12, TX12, 126) M.1.cls index 54 ∈ lw_ok) (hA : mAt w 106 106) (hT : mT w μ) (kt : VS l D c H0 sa K W S SE M R Q (pc + 3) lv (.ref 141 :: st) μ) : VS l D c H0 sa K W S SE M R Q (pc) lv (.ref 106 :: st) μ := sorry
set_option maxRecDepth 20000 in
theorem xgf_X12_55 {index : Nat} (hd : decode M.2.1 pc = .ok (.getfield index, 3)) (hw : sFl (RX12, TX12, 126) M.1.cls index 55 ∈ lw_ok) (hA : mAt w 106 106) (hT : mT w μ) (kt : VS l D c H0 sa K W S SE M R Q (pc + 3) lv (.ref 142 :: st) μ) : VS l D c H0 sa K W S SE M R Q (pc) lv (.ref 106 :: st) μ := sorry
set_option maxRecDepth 20000 in
theorem xgf_X12_56 {index : Nat} (hd : decode M.2.1 pc = .ok (.getfield index, 3)) (hw : sFl (RX12, TX12, 126) M.1.cls index 56 ∈ lw_ok) (hA : mAt w 106 106) (hT : mT w μ) (kt : VS l D c H0 sa K W S SE M R Q (pc + 3) lv (.ref 143 :: st) μ) : VS l D c H0 sa K W S SE M R Q (pc) lv (.ref 106 :: st) μ := sorry
set_option maxRecDepth 20000 in
theorem xgf_X12_57 {index : Nat} (hd : decode M.2.1 pc = .ok (.getfield index, 3)) (hw : sFl (RX12, TX12, 126) M.1.cls index 57 ∈ lw_ok) (hA : mAt w 106 106) (hT : mT w μ) (kt : VS l D c H0 sa K W S SE M R Q (pc + 3) lv (.ref 144 :: st) μ) : VS l D c H0 sa K W S SE M R Q (pc) lv (.ref 106 :: st) μ := sorry
set_option maxRecDepth 20000 in
theorem xgf_X12_67 {index : Nat} (hd : decode M.2.1 pc = .ok (.getfield index, 3)) (hw : sFl (RX12, TX12, 126) M.1.cls index 67 ∈ lw_ok) (hA : mAt w 106 106) (hT : mT w μ) (kt : VS l D c H0 sa K W S SE M R Q (pc + 3) lv (.ref 151 :: st) μ) : VS l D c H0 sa K W S SE M R Q (pc) lv (.ref 106 :: st) μ := sorry
set_option maxRecDepth 20000 in
theorem xgf_X12_68 {index : Nat} (hd : decode M.2.1 pc = .ok (.getfield index, 3)) (hw : sFl (RX12, TX12, 126) M.1.cls index 68 ∈ lw_ok) (hA : mAt w 106 106) (hT : mT w μ) (kt : VS l D c H0 sa K W S SE M R Q (pc + 3) lv (.ref 152 :: st) μ) : VS l D c H0 sa K W S SE M R Q (pc) lv (.ref 106 :: st) μ := sorry
set_option maxRecDepth 20000 in
theorem xgf_X12_69 {index : Nat} (hd : decode M.2.1 pc = .ok (.getfield index, 3)) (hw : sFl (RX12, TX12, 126) M.1.cls index 69 ∈ lw_ok) (hA : mAt w 106 106) (hT : mT w μ) (kt : VS l D c H0 sa K W S SE M R Q (pc + 3) lv (.ref 153 :: st) μ) : VS l D c H0 sa K W S SE M R Q (pc) lv (.ref 106 :: st) μ := sorry
set_option maxRecDepth 20000 in
theorem xgf_X12_7 {index : Nat} (hd : decode M.2.1 pc = .ok (.getfield index, 3)) (hw : sFl (RX12, TX12, 126) M.1.cls index 7 ∈ lw_ok) (hA : mAt w 106 106) (hT : mT w μ) (kt : VS l D c H0 sa K W S SE M R Q (pc + 3) lv (.ref 110 :: st) μ) : VS l D c H0 sa K W S SE M R Q (pc) lv (.ref 106 :: st) μ := sorry
set_option maxRecDepth 20000 in
theorem xgf_X12_8 {index : Nat} (hd : decode M.2.1 pc = .ok (.getfield index, 3)) (hw : sFl (RX12, TX12, 126) M.1.cls index 8 ∈ lw_ok) (hA : mAt w 106 106) (hT : mT w μ) (kt : VS l D c H0 sa K W S SE M R Q (pc + 3) lv (.ref 111 :: st) μ) : VS l D c H0 sa K W S SE M R Q (pc) lv (.ref 106 :: st) μ := sorry
set_option maxRecDepth 20000 in
theorem xgf_X12_9 {index : Nat} (hd : decode M.2.1 pc = .ok (.getfield index, 3)) (hw : sFl (RX12, TX12, 126) M.1.cls index 9 ∈ lw_ok) (hA : mAt w 106 106) (hT : mT w μ) (kt : VS l D c H0 sa K W S SE M R Q (pc + 3) lv (.ref 112 :: st) μ) : VS l D c H0 sa K W S SE M R Q (pc) lv (.ref 106 :: st) μ := sorry
set_option maxRecDepth 20000 in
theorem xgk_X12_17 {index : Nat} (hd : decode M.2.1 pc = .ok (.getfield index, 3)) (hw : sFl (RX12, TX12, 126) M.1.cls index 17 ∈ lw_ok) (hA : mAt w 106 106) {z : Int} (q : μ 106 17 = z) (kt : VS l D c H0 sa K W S SE M R Q (pc + 3) lv (iv z :: st) μ) (hS : S 106 17) : VS l D c H0 sa K W S SE M R Q (pc) lv (.ref 106 :: st) μ := sorry
theorem xla_108 {e : Int} (hd : decode M.2.1 pc = .ok (.iaload, 1)) (hA : mAt w 108 108) (hT : mT w μ) (hi : 0 ≤ e ∧ e < 10) (kt : ∀ z, μ 108 e.toNat = z → ((-2147483648) ≤ z ∧ z ≤ 2147483647) → VS l D c H0 sa K W S SE M R Q (pc + 1) lv (iv z :: st) μ) (hS : S 108 e.toNat) : VS l D c H0 sa K W S SE M R Q (pc) lv (iv e :: .ref 108 :: st) μ := sorry
theorem xla_109 {e : Int} (hd : decode M.2.1 pc = .ok (.iaload, 1)) (hA : mAt w 109 109) (hT : mT w μ) (hi : 0 ≤ e ∧ e < 10) (kt : ∀ z, μ 109 e.toNat = z → (0 ≤ z ∧ z ≤ 32) → VS l D c H0 sa K W S SE M R Q (pc + 1) lv (iv z :: st) μ) (hS : S 109 e.toNat) : VS l D c H0 sa K W S SE M R Q (pc) lv (iv e :: .ref 109 :: st) μ := sorry
theorem xla_110 {e : Int} (hd : decode M.2.1 pc = .ok (.iaload, 1)) (hA : mAt w 110 110) (hT : mT w μ) (hi : 0 ≤ e ∧ e < 40) (kt : ∀ z, μ 110 e.toNat = z → (0 ≤ z ∧ z ≤ 9) → VS l D c H0 sa K W S SE M R Q (pc + 1) lv (iv z :: st) μ) (hS : S 110 e.toNat) : VS l D c H0 sa K W S SE M R Q (pc) lv (iv e :: .ref 110 :: st) μ := sorry
theorem xla_111 {e : Int} (hd : decode M.2.1 pc = .ok (.iaload, 1)) (hA : mAt w 111 111) (hT : mT w μ) (hi : 0 ≤ e ∧ e < 20) (kt : ∀ z, μ 111 e.toNat = z → (0 ≤ z ∧ z ≤ 2) → VS l D c H0 sa K W S SE M R Q (pc + 1) lv (iv z :: st) μ) (hS : S 111 e.toNat) : VS l D c H0 sa K W S SE M R Q (pc) lv (iv e :: .ref 111 :: st) μ := sorry
theorem xla_112 {e : Int} (hd : decode M.2.1 pc = .ok (.baload, 1)) (hA : mAt w 112 112) (hT : mT w μ) (hi : 0 ≤ e ∧ e < 20) (kt : ∀ z, μ 112 e.toNat = z → (0 ≤ z ∧ z ≤ 1) → VS l D c H0 sa K W S SE M R Q (pc + 1) lv (iv z :: st) μ) (hS : S 112 e.toNat) : VS l D c H0 sa K W S SE M R Q (pc) lv (iv e :: .ref 112 :: st) μ := sorry
theorem xla_115 {e : Int} (hd : decode M.2.1 pc = .ok (.iaload, 1)) (hA : mAt w 115 115) (hT : mT w μ) (hi : 0 ≤ e ∧ e < 80) (kt : ∀ z, μ 115 e.toNat = z → (z = -99999999 ∨ (0 ≤ z ∧ z ≤ 11)) → VS l D c H0 sa K W S SE M R Q (pc + 1) lv (iv z :: st) μ) (hS : S 115 e.toNat) : VS l D c H0 sa K W S SE M R Q (pc) lv (iv e :: .ref 115 :: st) μ := sorry
theorem xla_119 {e : Int} (hd : decode M.2.1 pc = .ok (.iaload, 1)) (hA : mAt w 119 119) (hT : mT w μ) (hi : 0 ≤ e ∧ e < 30) (kt : ∀ z, μ 119 e.toNat = z → (0 ≤ z ∧ z ≤ 9) → VS l D c H0 sa K W S SE M R Q (pc + 1) lv (iv z :: st) μ) (hS : S 119 e.toNat) : VS l D c H0 sa K W S SE M R Q (pc) lv (iv e :: .ref 119 :: st) μ := sorry
theorem xla_120 {e : Int} (hd : decode M.2.1 pc = .ok (.iaload, 1)) (hA : mAt w 120 120) (hT : mT w μ) (hi : 0 ≤ e ∧ e < 30) (kt : ∀ z, μ 120 e.toNat = z → ((-2147483648) ≤ z ∧ z ≤ 2147483647) → VS l D c H0 sa K W S SE M R Q (pc + 1) lv (iv z :: st) μ) (hS : S 120 e.toNat) : VS l D c H0 sa K W S SE M R Q (pc) lv (iv e :: .ref 120 :: st) μ := sorry
theorem xla_121 {e : Int} (hd : decode M.2.1 pc = .ok (.iaload, 1)) (hA : mAt w 121 121) (hT : mT w μ) (hi : 0 ≤ e ∧ e < 30) (kt : ∀ z, μ 121 e.toNat = z → ((-2147483648) ≤ z ∧ z ≤ 2147483647) → VS l D c H0 sa K W S SE M R Q (pc + 1) lv (iv z :: st) μ) (hS : S 121 e.toNat) : VS l D c H0 sa K W S SE M R Q (pc) lv (iv e :: .ref 121 :: st) μ := sorry
theorem xla_122 {e : Int} (hd : decode M.2.1 pc = .ok (.iaload, 1)) (hA : mAt w 122 122) (hT : mT w μ) (hi : 0 ≤ e ∧ e < 30) (kt : ∀ z, μ 122 e.toNat = z → ((-2147483648) ≤ z ∧ z ≤ 2147483647) → VS l D c H0 sa K W S SE M R Q (pc + 1) lv (iv z :: st) μ) (hS : S 122 e.toNat) : VS l D c H0 sa K W S SE M R Q (pc) lv (iv e :: .ref 122 :: st) μ := sorry
theorem xla_123 {e : Int} (hd : decode M.2.1 pc = .ok (.iaload, 1)) (hA : mAt w 123 123) (hT : mT w μ) (hi : 0 ≤ e ∧ e < 30) (kt : ∀ z, μ 123 e.toNat = z → ((-2147483648) ≤ z ∧ z ≤ 2147483647) → VS l D c H0 sa K W S SE M R Q (pc + 1) lv (iv z :: st) μ) (hS : S 123 e.toNat) : VS l D c H0 sa K W S SE M R Q (pc) lv (iv e :: .ref 123 :: st) μ := sorry
theorem xla_124 {e : Int} (hd : decode M.2.1 pc = .ok (.iaload, 1)) (hA : mAt w 124 124) (hT : mT w μ) (hi : 0 ≤ e ∧ e < 30) (kt : ∀ z, μ 124 e.toNat = z → ((-2147483648) ≤ z ∧ z ≤ 2147483647) → VS l D c H0 sa K W S SE M R Q (pc + 1) lv (iv z :: st) μ) (hS : S 124 e.toNat) : VS l D c H0 sa K W S SE M R Q (pc) lv (iv e :: .ref 124 :: st) μ := sorry
theorem xla_125 {e : Int} (hd : decode M.2.1 pc = .ok (.iaload, 1)) (hA : mAt w 125 125) (hT : mT w μ) (hi : 0 ≤ e ∧ e < 30) (kt : ∀ z, μ 125 e.toNat = z → ((-2147483648) ≤ z ∧ z ≤ 2147483647) → VS l D c H0 sa K W S SE M R Q (pc + 1) lv (iv z :: st) μ) (hS : S 125 e.toNat) : VS l D c H0 sa K W S SE M R Q (pc) lv (iv e :: .ref 125 :: st) μ := sorry
theorem xla_126 {e : Int} (hd : decode M.2.1 pc = .ok (.iaload, 1)) (hA : mAt w 126 126) (hT : mT w μ) (hi : 0 ≤ e ∧ e < 84000) (kt : ∀ z, μ 126 e.toNat = z → ((-2147483648 ≤ z ∧ z ≤ 2147483647) ∧ (e % 40 = 0 → -1 ≤ z ∧ z ≤ 9) ∧ (e % 40 = 4 → 0 ≤ z ∧ z ≤ 20) ∧ (e % 40 = 5 → 0 ≤ z ∧ z ≤ 8)) → VS l D c H0 sa K W S SE M R Q (pc + 1) lv (iv z :: st) μ) (hS : S 126 e.toNat) : VS l D c H0 sa K W S SE M R Q (pc) lv (iv e :: .ref 126 :: st) μ := sorry
theorem xla_128 {e : Int} (hd : decode M.2.1 pc = .ok (.iaload, 1)) (hA : mAt w 128 128) (hT : mT w μ) (hi : 0 ≤ e ∧ e < 403) (kt : ∀ z, μ 128 e.toNat = z → (0 ≤ z ∧ z ≤ 300) → VS l D c H0 sa K W S SE M R Q (pc + 1) lv (iv z :: st) μ) (hS : S 128 e.toNat) : VS l D c H0 sa K W S SE M R Q (pc) lv (iv e :: .ref 128 :: st) μ := sorry
theorem xla_129 {e : Int} (hd : decode M.2.1 pc = .ok (.iaload, 1)) (hA : mAt w 129 129) (hT : mT w μ) (hi : 0 ≤ e ∧ e < 403) (kt : ∀ z, μ 129 e.toNat = z → (0 ≤ z ∧ z ≤ 300) → VS l D c H0 sa K W S SE M R Q (pc + 1) lv (iv z :: st) μ) (hS : S 129 e.toNat) : VS l D c H0 sa K W S SE M R Q (pc) lv (iv e :: .ref 129 :: st) μ := sorry
theorem xla_132 {e : Int} (hd : decode M.2.1 pc = .ok (.iaload, 1)) (hA : mAt w 132 132) (hT : mT w μ) (hi : 0 ≤ e ∧ e < 3900) (kt : ∀ z, μ 132 e.toNat = z → ((-2147483648) ≤ z ∧ z ≤ 2147483647) → VS l D c H0 sa K W S SE M R Q (pc + 1) lv (iv z :: st) μ) (hS : S 132 e.toNat) : VS l D c H0 sa K W S SE M R Q (pc) lv (iv e :: .ref 132 :: st) μ := sorry
theorem xla_133 {e : Int} (hd : decode M.2.1 pc = .ok (.baload, 1)) (hA : mAt w 133 133) (hT : mT w μ) (hi : 0 ≤ e ∧ e < 3900) (kt : ∀ z, μ 133 e.toNat = z → (0 ≤ z ∧ z ≤ 1) → VS l D c H0 sa K W S SE M R Q (pc + 1) lv (iv z :: st) μ) (hS : S 133 e.toNat) : VS l D c H0 sa K W S SE M R Q (pc) lv (iv e :: .ref 133 :: st) μ := sorry
theorem xla_134 {e : Int} (hd : decode M.2.1 pc = .ok (.iaload, 1)) (hA : mAt w 134 134) (hT : mT w μ) (hi : 0 ≤ e ∧ e < 3900) (kt : ∀ z, μ 134 e.toNat = z → ((-2147483648) ≤ z ∧ z ≤ 2147483647) → VS l D c H0 sa K W S SE M R Q (pc + 1) lv (iv z :: st) μ) (hS : S 134 e.toNat) : VS l D c H0 sa K W S SE M R Q (pc) lv (iv e :: .ref 134 :: st) μ := sorry
theorem xla_135 {e : Int} (hd : decode M.2.1 pc = .ok (.iaload, 1)) (hA : mAt w 135 135) (hT : mT w μ) (hi : 0 ≤ e ∧ e < 3900) (kt : ∀ z, μ 135 e.toNat = z → ((-2147483648) ≤ z ∧ z ≤ 2147483647) → VS l D c H0 sa K W S SE M R Q (pc + 1) lv (iv z :: st) μ) (hS : S 135 e.toNat) : VS l D c H0 sa K W S SE M R Q (pc) lv (iv e :: .ref 135 :: st) μ := sorry
theorem xla_136 {e : Int} (hd : decode M.2.1 pc = .ok (.iaload, 1)) (hA : mAt w 136 136) (hT : mT w μ) (hi : 0 ≤ e ∧ e < 3900) (kt : ∀ z, μ 136 e.toNat = z → ((-2147483648) ≤ z ∧ z ≤ 2147483647) → VS l D c H0 sa K W S SE M R Q (pc + 1) lv (iv z :: st) μ) (hS : S 136 e.toNat) : VS l D c H0 sa K W S SE M R Q (pc) lv (iv e :: .ref 136 :: st) μ := sorry
theorem xla_137 {e : Int} (hd : decode M.2.1 pc = .ok (.laload, 1)) (hA : mAt w 137 137) (hT : mT w μ) (hi : 0 ≤ e ∧ e < 3900) (kt : ∀ z, μ 137 e.toNat = z → ((-9223372036854775808) ≤ z ∧ z ≤ 9223372036854775807) → VS l D c H0 sa K W S SE M R Q (pc + 1) lv (jv z :: st) μ) (hS : S 137 e.toNat) : VS l D c H0 sa K W S SE M R Q (pc) lv (iv e :: .ref 137 :: st) μ := sorry
theorem xla_138 {e : Int} (hd : decode M.2.1 pc = .ok (.laload, 1)) (hA : mAt w 138 138) (hT : mT w μ) (hi : 0 ≤ e ∧ e < 3900) (kt : ∀ z, μ 138 e.toNat = z → ((-9223372036854775808) ≤ z ∧ z ≤ 9223372036854775807) → VS l D c H0 sa K W S SE M R Q (pc + 1) lv (jv z :: st) μ) (hS : S 138 e.toNat) : VS l D c H0 sa K W S SE M R Q (pc) lv (iv e :: .ref 138 :: st) μ := sorry
theorem xla_139 {e : Int} (hd : decode M.2.1 pc = .ok (.baload, 1)) (hA : mAt w 139 139) (hT : mT w μ) (hi : 0 ≤ e ∧ e < 3900) (kt : ∀ z, μ 139 e.toNat = z → (0 ≤ z ∧ z ≤ 1) → VS l D c H0 sa K W S SE M R Q (pc + 1) lv (iv z :: st) μ) (hS : S 139 e.toNat) : VS l D c H0 sa K W S SE M R Q (pc) lv (iv e :: .ref 139 :: st) μ := sorry
theorem xla_140 {e : Int} (hd : decode M.2.1 pc = .ok (.iaload, 1)) (hA : mAt w 140 140) (hT : mT w μ) (hi : 0 ≤ e ∧ e < 3900) (kt : ∀ z, μ 140 e.toNat = z → ((-2147483648) ≤ z ∧ z ≤ 2147483647) → VS l D c H0 sa K W S SE M R Q (pc + 1) lv (iv z :: st) μ) (hS : S 140 e.toNat) : VS l D c H0 sa K W S SE M R Q (pc) lv (iv e :: .ref 140 :: st) μ := sorry
theorem xla_141 {e : Int} (hd : decode M.2.1 pc = .ok (.iaload, 1)) (hA : mAt w 141 141) (hT : mT w μ) (hi : 0 ≤ e ∧ e < 3900) (kt : ∀ z, μ 141 e.toNat = z → ((-2147483648) ≤ z ∧ z ≤ 2147483647) → VS l D c H0 sa K W S SE M R Q (pc + 1) lv (iv z :: st) μ) (hS : S 141 e.toNat) : VS l D c H0 sa K W S SE M R Q (pc) lv (iv e :: .ref 141 :: st) μ := sorry
theorem xla_142 {e : Int} (hd : decode M.2.1 pc = .ok (.iaload, 1)) (hA : mAt w 142 142) (hT : mT w μ) (hi : 0 ≤ e ∧ e < 13) (kt : ∀ z, μ 142 e.toNat = z → (0 ≤ z ∧ z ≤ 40) → VS l D c H0 sa K W S SE M R Q (pc + 1) lv (iv z :: st) μ) (hS : S 142 e.toNat) : VS l D c H0 sa K W S SE M R Q (pc) lv (iv e :: .ref 142 :: st) μ := sorry
theorem xla_143 {e : Int} (hd : decode M.2.1 pc = .ok (.iaload, 1)) (hA : mAt w 143 143) (hT : mT w μ) (hi : 0 ≤ e ∧ e < 533) (kt : ∀ z, μ 143 e.toNat = z → ((-2147483648) ≤ z ∧ z ≤ 2147483647) → VS l D c H0 sa K W S SE M R Q (pc + 1) lv (iv z :: st) μ) (hS : S 143 e.toNat) : VS l D c H0 sa K W S SE M R Q (pc) lv (iv e :: .ref 143 :: st) μ := sorry
theorem xla_144 {e : Int} (hd : decode M.2.1 pc = .ok (.laload, 1)) (hA : mAt w 144 144) (hT : mT w μ) (hi : 0 ≤ e ∧ e < 533) (kt : ∀ z, μ 144 e.toNat = z → ((-9223372036854775808) ≤ z ∧ z ≤ 9223372036854775807) → VS l D c H0 sa K W S SE M R Q (pc + 1) lv (jv z :: st) μ) (hS : S 144 e.toNat) : VS l D c H0 sa K W S SE M R Q (pc) lv (iv e :: .ref 144 :: st) μ := sorry
theorem xla_151 {e : Int} (hd : decode M.2.1 pc = .ok (.iaload, 1)) (hA : mAt w 151 151) (hT : mT w μ) (hi : 0 ≤ e ∧ e < 14) (kt : ∀ z, μ 151 e.toNat = z → (0 ≤ z ∧ z ≤ 11) → VS l D c H0 sa K W S SE M R Q (pc + 1) lv (iv z :: st) μ) (hS : S 151 e.toNat) : VS l D c H0 sa K W S SE M R Q (pc) lv (iv e :: .ref 151 :: st) μ := sorry
theorem xla_152 {e : Int} (hd : decode M.2.1 pc = .ok (.iaload, 1)) (hA : mAt w 152 152) (hT : mT w μ) (hi : 0 ≤ e ∧ e < 14) (kt : ∀ z, μ 152 e.toNat = z → ((-1) ≤ z ∧ z ≤ 30) → VS l D c H0 sa K W S SE M R Q (pc + 1) lv (iv z :: st) μ) (hS : S 152 e.toNat) : VS l D c H0 sa K W S SE M R Q (pc) lv (iv e :: .ref 152 :: st) μ := sorry
theorem xla_153 {e : Int} (hd : decode M.2.1 pc = .ok (.iaload, 1)) (hA : mAt w 153 153) (hT : mT w μ) (hi : 0 ≤ e ∧ e < 14) (kt : ∀ z, μ 153 e.toNat = z → (0 ≤ z ∧ z ≤ 300) → VS l D c H0 sa K W S SE M R Q (pc + 1) lv (iv z :: st) μ) (hS : S 153 e.toNat) : VS l D c H0 sa K W S SE M R Q (pc) lv (iv e :: .ref 153 :: st) μ := sorry
theorem xlk_109 {e : Int} (hd : decode M.2.1 pc = .ok (.iaload, 1)) (hA : mAt w 109 109) (hi : 0 ≤ e ∧ e < 10) {z : Int} (q : μ 109 e.toNat = z) (kt : VS l D c H0 sa K W S SE M R Q (pc + 1) lv (iv z :: st) μ) (hS : S 109 e.toNat) : VS l D c H0 sa K W S SE M R Q (pc) lv (iv e :: .ref 109 :: st) μ := sorry
theorem xlk_110 {e : Int} (hd : decode M.2.1 pc = .ok (.iaload, 1)) (hA : mAt w 110 110) (hi : 0 ≤ e ∧ e < 40) {z : Int} (q : μ 110 e.toNat = z) (kt : VS l D c H0 sa K W S SE M R Q (pc + 1) lv (iv z :: st) μ) (hS : S 110 e.toNat) : VS l D c H0 sa K W S SE M R Q (pc) lv (iv e :: .ref 110 :: st) μ := sorry
theorem xlk_111 {e : Int} (hd : decode M.2.1 pc = .ok (.iaload, 1)) (hA : mAt w 111 111) (hi : 0 ≤ e ∧ e < 20) {z : Int} (q : μ 111 e.toNat = z) (kt : VS l D c H0 sa K W S SE M R Q (pc + 1) lv (iv z :: st) μ) (hS : S 111 e.toNat) : VS l D c H0 sa K W S SE M R Q (pc) lv (iv e :: .ref 111 :: st) μ := sorry
theorem xlk_125 {e : Int} (hd : decode M.2.1 pc = .ok (.iaload, 1)) (hA : mAt w 125 125) (hi : 0 ≤ e ∧ e < 30) {z : Int} (q : μ 125 e.toNat = z) (kt : VS l D c H0 sa K W S SE M R Q (pc + 1) lv (iv z :: st) μ) (hS : S 125 e.toNat) : VS l D c H0 sa K W S SE M R Q (pc) lv (iv e :: .ref 125 :: st) μ := sorry
theorem xlk_126 {e : Int} (hd : decode M.2.1 pc = .ok (.iaload, 1)) (hA : mAt w 126 126) (hi : 0 ≤ e ∧ e < 84000) {z : Int} (q : μ 126 e.toNat = z) (kt : VS l D c H0 sa K W S SE M R Q (pc + 1) lv (iv z :: st) μ) (hS : S 126 e.toNat) : VS l D c H0 sa K W S SE M R Q (pc) lv (iv e :: .ref 126 :: st) μ := sorry
theorem xlk_127 {e : Int} (hd : decode M.2.1 pc = .ok (.iaload, 1)) (hA : mAt w 127 127) (hi : 0 ≤ e ∧ e < 13) {z : Int} (q : μ 127 e.toNat = z) (kt : VS l D c H0 sa K W S SE M R Q (pc + 1) lv (iv z :: st) μ) (hS : S 127 e.toNat) : VS l D c H0 sa K W S SE M R Q (pc) lv (iv e :: .ref 127 :: st) μ := sorry
theorem xlk_132 {e : Int} (hd : decode M.2.1 pc = .ok (.iaload, 1)) (hA : mAt w 132 132) (hi : 0 ≤ e ∧ e < 3900) {z : Int} (q : μ 132 e.toNat = z) (kt : VS l D c H0 sa K W S SE M R Q (pc + 1) lv (iv z :: st) μ) (hS : S 132 e.toNat) : VS l D c H0 sa K W S SE M R Q (pc) lv (iv e :: .ref 132 :: st) μ := sorry
theorem xlk_135 {e : Int} (hd : decode M.2.1 pc = .ok (.iaload, 1)) (hA : mAt w 135 135) (hi : 0 ≤ e ∧ e < 3900) {z : Int} (q : μ 135 e.toNat = z) (kt : VS l D c H0 sa K W S SE M R Q (pc + 1) lv (iv z :: st) μ) (hS : S 135 e.toNat) : VS l D c H0 sa K W S SE M R Q (pc) lv (iv e :: .ref 135 :: st) μ := sorry
theorem xlk_141 {e : Int} (hd : decode M.2.1 pc = .ok (.iaload, 1)) (hA : mAt w 141 141) (hi : 0 ≤ e ∧ e < 3900) {z : Int} (q : μ 141 e.toNat = z) (kt : VS l D c H0 sa K W S SE M R Q (pc + 1) lv (iv z :: st) μ) (hS : S 141 e.toNat) : VS l D c H0 sa K W S SE M R Q (pc) lv (iv e :: .ref 141 :: st) μ := sorry
theorem xlk_142 {e : Int} (hd : decode M.2.1 pc = .ok (.iaload, 1)) (hA : mAt w 142 142) (hi : 0 ≤ e ∧ e < 13) {z : Int} (q : μ 142 e.toNat = z) (kt : VS l D c H0 sa K W S SE M R Q (pc + 1) lv (iv z :: st) μ) (hS : S 142 e.toNat) : VS l D c H0 sa K W S SE M R Q (pc) lv (iv e :: .ref 142 :: st) μ := sorry
theorem xlk_143 {e : Int} (hd : decode M.2.1 pc = .ok (.iaload, 1)) (hA : mAt w 143 143) (hi : 0 ≤ e ∧ e < 533) {z : Int} (q : μ 143 e.toNat = z) (kt : VS l D c H0 sa K W S SE M R Q (pc + 1) lv (iv z :: st) μ) (hS : S 143 e.toNat) : VS l D c H0 sa K W S SE M R Q (pc) lv (iv e :: .ref 143 :: st) μ := sorry
theorem xlk_153 {e : Int} (hd : decode M.2.1 pc = .ok (.iaload, 1)) (hA : mAt w 153 153) (hi : 0 ≤ e ∧ e < 14) {z : Int} (q : μ 153 e.toNat = z) (kt : VS l D c H0 sa K W S SE M R Q (pc + 1) lv (iv z :: st) μ) (hS : S 153 e.toNat) : VS l D c H0 sa K W S SE M R Q (pc) lv (iv e :: .ref 153 :: st) μ := sorry
theorem xss_126 {e z : Int} (hd : decode M.2.1 pc = .ok (.iastore, 1)) (hA : mAt w 126 126) (hT : mT w μ) (hi : 0 ≤ e ∧ e < 84000) (hz : ((-2147483648 ≤ z ∧ z ≤ 2147483647) ∧ (e % 40 = 0 → -1 ≤ z ∧ z ≤ 9) ∧ (e % 40 = 4 → 0 ≤ z ∧ z ≤ 20) ∧ (e % 40 = 5 → 0 ≤ z ∧ z ≤ 8))) (kt : ∀ μ1, mU μ 126 e.toNat z μ1 → mT w μ1 → VS l D c H0 sa K W S SE M R Q (pc + 1) lv (st) μ1) (hW : W 126 e.toNat) : VS l D c H0 sa K W S SE M R Q (pc) lv (iv z :: iv e :: .ref 126 :: st) μ := sorry
theorem xss_126i {e z : Int} (hd : decode M.2.1 pc = .ok (.iastore, 1)) (hA : mAt w 126 126) (hT : mT w μ) (hi : 0 ≤ e ∧ e < 84000) (hz : ((-2147483648 ≤ z ∧ z ≤ 2147483647) ∧ (e % 40 = 0 → -1 ≤ z ∧ z ≤ 9) ∧ (e % 40 = 4 → 0 ≤ z ∧ z ≤ 20) ∧ (e % 40 = 5 → 0 ≤ z ∧ z ≤ 8))) (kt : ∀ μ1, mU μ 126 e.toNat z μ1 → mT w μ1 → VS l D c H0 sa K W (Sins S 126 e.toNat) SE M R Q (pc + 1) lv (st) μ1) (hW : W 126 e.toNat) : VS l D c H0 sa K W S SE M R Q (pc) lv (iv z :: iv e :: .ref 126 :: st) μ := sorry
theorem xss_151i {e z : Int} (hd : decode M.2.1 pc = .ok (.iastore, 1)) (hA : mAt w 151 151) (hT : mT w μ) (hi : 0 ≤ e ∧ e < 14) (hz : (0 ≤ z ∧ z ≤ 11)) (kt : ∀ μ1, mU μ 151 e.toNat z μ1 → mT w μ1 → VS l D c H0 sa K W (Sins S 151 e.toNat) SE M R Q (pc + 1) lv (st) μ1) (hW : W 151 e.toNat) : VS l D c H0 sa K W S SE M R Q (pc) lv (iv z :: iv e :: .ref 151 :: st) μ := sorry
theorem xss_152 {e z : Int} (hd : decode M.2.1 pc = .ok (.iastore, 1)) (hA : mAt w 152 152) (hT : mT w μ) (hi : 0 ≤ e ∧ e < 14) (hz : ((-1) ≤ z ∧ z ≤ 30)) (kt : ∀ μ1, mU μ 152 e.toNat z μ1 → mT w μ1 → VS l D c H0 sa K W S SE M R Q (pc + 1) lv (st) μ1) (hW : W 152 e.toNat) : VS l D c H0 sa K W S SE M R Q (pc) lv (iv z :: iv e :: .ref 152 :: st) μ := sorry
theorem xss_152i {e z : Int} (hd : decode M.2.1 pc = .ok (.iastore, 1)) (hA : mAt w 152 152) (hT : mT w μ) (hi : 0 ≤ e ∧ e < 14) (hz : ((-1) ≤ z ∧ z ≤ 30)) (kt : ∀ μ1, mU μ 152 e.toNat z μ1 → mT w μ1 → VS l D c H0 sa K W (Sins S 152 e.toNat) SE M R Q (pc + 1) lv (st) μ1) (hW : W 152 e.toNat) : VS l D c H0 sa K W S SE M R Q (pc) lv (iv z :: iv e :: .ref 152 :: st) μ := sorry
theorem xss_153 {e z : Int} (hd : decode M.2.1 pc = .ok (.iastore, 1)) (hA : mAt w 153 153) (hT : mT w μ) (hi : 0 ≤ e ∧ e < 14) (hz : (0 ≤ z ∧ z ≤ 300)) (kt : ∀ μ1, mU μ 153 e.toNat z μ1 → mT w μ1 → VS l D c H0 sa K W S SE M R Q (pc + 1) lv (st) μ1) (hW : W 153 e.toNat) : VS l D c H0 sa K W S SE M R Q (pc) lv (iv z :: iv e :: .ref 153 :: st) μ := sorry
theorem xss_153i {e z : Int} (hd : decode M.2.1 pc = .ok (.iastore, 1)) (hA : mAt w 153 153) (hT : mT w μ) (hi : 0 ≤ e ∧ e < 14) (hz : (0 ≤ z ∧ z ≤ 300)) (kt : ∀ μ1, mU μ 153 e.toNat z μ1 → mT w μ1 → VS l D c H0 sa K W (Sins S 153 e.toNat) SE M R Q (pc + 1) lv (st) μ1) (hW : W 153 e.toNat) : VS l D c H0 sa K W S SE M R Q (pc) lv (iv z :: iv e :: .ref 153 :: st) μ := sorry
end VXR

end
section
set_option maxRecDepth 4000 in
set_option maxHeartbeats 4000000 in
theorem cx_X12_slot {l : Launch} {D : va_G} {c : Nat → ClassId} {H0 : Heap} {sa : Nat × Nat × (Nat → Int32)} {w : mW} {μ : mM} {K : (Nat → Int) → (Nat → Int) → Prop} {W S : Nat → Nat → Prop} (hw : mWF w) (hT : mT w μ) {p1 : Int} (hp1 : 0 ≤ p1 ∧ p1 ≤ 20) {p2 : Int} (hp2 : 0 ≤ p2 ∧ p2 ≤ 2) {p3 : Int} (hp3 : 0 ≤ p3 ∧ p3 ≤ 9) : VC l D c H0 sa K W S S mX12_slot 1 [iv p1, iv p2, iv p3] μ (xqP w μ (fun z => (0 ≤ z ∧ z ≤ 449) ∧ (z = 20 * p1 + 10 * p2 + p3) ∧ True)) := sorry
set_option maxRecDepth 4000 in
set_option maxHeartbeats 4000000 in
theorem cx_X12_sideOf {l : Launch} {D : va_G} {c : Nat → ClassId} {H0 : Heap} {sa : Nat × Nat × (Nat → Int32)} {w : mW} {μ : mM} {K : (Nat → Int) → (Nat → Int) → Prop} {W S : Nat → Nat → Prop} (hw : mWF w) (hT : mT w μ) {p1 : Int} (hp1 : 0 ≤ p1 ∧ p1 ≤ 19) {p2 : Int} (hp2 : (-2147483648) ≤ p2 ∧ p2 ≤ 2147483647) {f_e0 : Int} (q_f_e0 : μ 110 ((2 * p1).toNat) = f_e0) (h110 : ∀ i : Nat, (i : Int) ≤ 2 * p1 + 1 → S 110 i) : VC l D c H0 sa K W S S mX12_sideOf 1 [.ref 106, iv p1, iv p2] μ (xqP w μ (fun z => (0 ≤ z ∧ z ≤ 1) ∧ (z = 0 → f_e0 = p2) ∧ (z = 1 → ¬ f_e0 = p2) ∧ True)) := sorry
set_option maxRecDepth 4000 in
set_option maxHeartbeats 4000000 in
theorem cx_X12_partnerOf_pt {l : Launch} {D : va_G} {c : Nat → ClassId} {H0 : Heap} {sa : Nat × Nat × (Nat → Int32)} {w : mW} {μ : mM} {K : (Nat → Int) → (Nat → Int) → Prop} {W S : Nat → Nat → Prop} (hw : mWF w) (hT : mT w μ) {p1 : Int} (hp1 : 0 ≤ p1 ∧ p1 ≤ 19) {p2 : Int} (hp2 : (-2147483648) ≤ p2 ∧ p2 ≤ 2147483647) {f_e0 : Int} (q_f_e0 : μ 110 ((2 * p1).toNat) = f_e0) {f_e1 : Int} (q_f_e1 : μ 110 (((2 * p1) + 1).toNat) = f_e1) (h110 : ∀ i : Nat, (i : Int) ≤ 2 * p1 + 1 → S 110 i) : VC l D c H0 sa K W S S mX12_partnerOf 2 [.ref 106, iv p1, iv p2] μ (xqP w μ (fun z => (0 ≤ z ∧ z ≤ 9) ∧ ((f_e0 = p2 → z = f_e1) ∧ (¬ f_e0 = p2 → z = f_e0)) ∧ True)) := sorry
set_option maxRecDepth 4000 in
set_option maxHeartbeats 4000000 in
theorem cx_X12_isThere {l : Launch} {D : va_G} {c : Nat → ClassId} {H0 : Heap} {sa : Nat × Nat × (Nat → Int32)} {w : mW} {μ : mM} {K : (Nat → Int) → (Nat → Int) → Prop} {W S : Nat → Nat → Prop} (hw : mWF w) (hT : mT w μ) {p1 : Int} (hp1 : 0 ≤ p1 ∧ p1 ≤ 2099) {f_x : Int} (q_f_x : μ 126 ((40 * p1).toNat) = f_x) (hR : ∀ i : Nat, 40 * p1 ≤ (i : Int) → (i : Int) < 40 * p1 + 40 → S 126 i) : VC l D c H0 sa K W S S mX12_isThere 1 [.ref 106, iv p1] μ (xqP w μ (fun z => (0 ≤ z ∧ z ≤ 1) ∧ (z = 1 → 0 ≤ f_x) ∧ (z = 0 → f_x < 0) ∧ True)) := sorry
set_option maxRecDepth 4000 in
set_option maxHeartbeats 4000000 in
theorem cx_X12_isIn {l : Launch} {D : va_G} {c : Nat → ClassId} {H0 : Heap} {sa : Nat × Nat × (Nat → Int32)} {w : mW} {μ : mM} {K : (Nat → Int) → (Nat → Int) → Prop} {W S : Nat → Nat → Prop} (hw : mWF w) (hT : mT w μ) {p1 : Int} (hp1 : 0 ≤ p1 ∧ p1 ≤ 2099) {p2 : Int} (hp2 : (-2147483648) ≤ p2 ∧ p2 ≤ 2147483647) (hR : ∀ i : Nat, 40 * p1 ≤ (i : Int) → (i : Int) < 40 * p1 + 40 → S 126 i) : VC l D c H0 sa K W S S mX12_isIn 1 [.ref 106, iv p1, iv p2] μ (xqP w μ (fun z => (0 ≤ z ∧ z ≤ 1) ∧ True)) := sorry
set_option maxRecDepth 4000 in
set_option maxHeartbeats 4000000 in
theorem cx_X12_related {l : Launch} {D : va_G} {c : Nat → ClassId} {H0 : Heap} {sa : Nat × Nat × (Nat → Int32)} {w : mW} {μ : mM} {K : (Nat → Int) → (Nat → Int) → Prop} {W S : Nat → Nat → Prop} (hw : mWF w) (hT : mT w μ) {p1 : Int} (hp1 : (-2147483648) ≤ p1 ∧ p1 ≤ 2147483647) {p2 : Int} (hp2 : (-2147483648) ≤ p2 ∧ p2 ≤ 2147483647) {p3 : Int} (hp3 : (-2147483648) ≤ p3 ∧ p3 ≤ 2147483647) : VC l D c H0 sa K W S S mX12_related 1 [.ref 106, iv p1, iv p2, iv p3] μ (xqP w μ (fun z => (0 ≤ z ∧ z ≤ 1) ∧ True)) := sorry
set_option maxRecDepth 4000 in
set_option maxHeartbeats 4000000 in
theorem cx_X12_mask {l : Launch} {D : va_G} {c : Nat → ClassId} {H0 : Heap} {sa : Nat × Nat × (Nat → Int32)} {w : mW} {μ : mM} {K : (Nat → Int) → (Nat → Int) → Prop} {W S : Nat → Nat → Prop} (hw : mWF w) (hT : mT w μ) {p1 : Int} (hp1 : (-2147483648) ≤ p1 ∧ p1 ≤ 2147483647) : VC l D c H0 sa K W S S mX12_mask 1 [iv p1] μ (xqP w μ (fun z => ((-2147483648) ≤ z ∧ z ≤ 2147483647) ∧ True)) := sorry
set_option maxRecDepth 4000 in
set_option maxHeartbeats 4000000 in
theorem cx_X12_holds {l : Launch} {D : va_G} {c : Nat → ClassId} {H0 : Heap} {sa : Nat × Nat × (Nat → Int32)} {w : mW} {μ : mM} {K : (Nat → Int) → (Nat → Int) → Prop} {W S : Nat → Nat → Prop} (hw : mWF w) (hT : mT w μ) {p1 : Int} (hp1 : (-2147483648) ≤ p1 ∧ p1 ≤ 2147483647) {p2 : Int} (hp2 : (-2147483648) ≤ p2 ∧ p2 ≤ 2147483647) {p3 : Int} (hp3 : (-2147483648) ≤ p3 ∧ p3 ≤ 2147483647) : VC l D c H0 sa K W S S mX12_holds 2 [iv p1, iv p2, iv p3] μ (xqP w μ (fun z => (0 ≤ z ∧ z ≤ 1) ∧ True)) := sorry
set_option maxRecDepth 4000 in
set_option maxHeartbeats 4000000 in
theorem cx_X12_marked {l : Launch} {D : va_G} {c : Nat → ClassId} {H0 : Heap} {sa : Nat × Nat × (Nat → Int32)} {w : mW} {μ : mM} {K : (Nat → Int) → (Nat → Int) → Prop} {W S : Nat → Nat → Prop} (hw : mWF w) (hT : mT w μ) {p1 : Int} (hp1 : 0 ≤ p1 ∧ p1 ≤ 2099) {p2 : Int} (hp2 : (-2147483648) ≤ p2 ∧ p2 ≤ 2147483647) (hR : ∀ i : Nat, 40 * p1 ≤ (i : Int) → (i : Int) < 40 * p1 + 40 → S 126 i) : VC l D c H0 sa K W S S mX12_marked 1 [.ref 106, iv p1, iv p2] μ (xqP w μ (fun z => (0 ≤ z ∧ z ≤ 1) ∧ True)) := sorry
set_option maxRecDepth 4000 in
set_option maxHeartbeats 4000000 in
theorem cx_X12_addMark {l : Launch} {D : va_G} {c : Nat → ClassId} {H0 : Heap} {sa : Nat × Nat × (Nat → Int32)} {w : mW} {μ : mM} {K : (Nat → Int) → (Nat → Int) → Prop} {W S : Nat → Nat → Prop} (hw : mWF w) (hT : mT w μ) {p1 : Int} (hp1 : 0 ≤ p1 ∧ p1 ≤ 2099) {p2 : Int} (hp2 : (-2147483648) ≤ p2 ∧ p2 ≤ 2147483647) (hR : ∀ i : Nat, 40 * p1 ≤ (i : Int) → (i : Int) < 40 * p1 + 40 → S 126 i) (hW : ∀ i : Nat, 40 * p1 ≤ (i : Int) → (i : Int) < 40 * p1 + 40 → W 126 i) : VC l D c H0 sa K W S S mX12_addMark 2 [.ref 106, iv p1, iv p2] μ (xqV w [126999] μ (fun μ1 => mG [(((40 * p1) + 1), ((40 * p1) + 40))] μ μ1 ∧ True)) := sorry
set_option maxRecDepth 4000 in
set_option maxHeartbeats 4000000 in
theorem cx_X12_dropMark {l : Launch} {D : va_G} {c : Nat → ClassId} {H0 : Heap} {sa : Nat × Nat × (Nat → Int32)} {w : mW} {μ : mM} {K : (Nat → Int) → (Nat → Int) → Prop} {W S : Nat → Nat → Prop} (hw : mWF w) (hT : mT w μ) {p1 : Int} (hp1 : 0 ≤ p1 ∧ p1 ≤ 2099) {p2 : Int} (hp2 : (-2147483648) ≤ p2 ∧ p2 ≤ 2147483647) (hR : ∀ i : Nat, 40 * p1 ≤ (i : Int) → (i : Int) < 40 * p1 + 40 → S 126 i) (hW : ∀ i : Nat, 40 * p1 ≤ (i : Int) → (i : Int) < 40 * p1 + 40 → W 126 i) : VC l D c H0 sa K W S S mX12_dropMark 2 [.ref 106, iv p1, iv p2] μ (xqV w [126999] μ (fun μ1 => mG [(((40 * p1) + 1), ((40 * p1) + 40))] μ μ1 ∧ True)) := sorry
set_option maxRecDepth 4000 in
set_option maxHeartbeats 4000000 in
theorem cx_X12_front {l : Launch} {D : va_G} {c : Nat → ClassId} {H0 : Heap} {sa : Nat × Nat × (Nat → Int32)} {w : mW} {μ : mM} {K : (Nat → Int) → (Nat → Int) → Prop} {W S : Nat → Nat → Prop} (hw : mWF w) (hT : mT w μ) {p1 : Int} (hp1 : 0 ≤ p1 ∧ p1 ≤ 2099) {p2 : Int} (hp2 : (-2147483648) ≤ p2 ∧ p2 ≤ 2147483647) (hR : ∀ i : Nat, 40 * p1 ≤ (i : Int) → (i : Int) < 40 * p1 + 40 → S 126 i) (hW : ∀ i : Nat, 40 * p1 ≤ (i : Int) → (i : Int) < 40 * p1 + 40 → W 126 i) : VC l D c H0 sa K W S S mX12_front 1 [.ref 106, iv p1, iv p2] μ (xqI w [126999] μ (fun z μ1 => (0 ≤ z ∧ z ≤ 1) ∧ mG [(((40 * p1) + 1), ((40 * p1) + 40))] μ μ1 ∧ True)) := sorry
set_option maxRecDepth 4000 in
set_option maxHeartbeats 4000000 in
theorem cx_X12_nothing {l : Launch} {D : va_G} {c : Nat → ClassId} {H0 : Heap} {sa : Nat × Nat × (Nat → Int32)} {w : mW} {μ : mM} {K : (Nat → Int) → (Nat → Int) → Prop} {W S : Nat → Nat → Prop} (hw : mWF w) (hT : mT w μ) {p1 : Int} (hp1 : 0 ≤ p1 ∧ p1 ≤ 2099) (hW : ∀ i : Nat, 40 * p1 ≤ (i : Int) → (i : Int) < 40 * p1 + 40 → W 126 i) : VC l D c H0 sa K W S (Sins S 126 (40 * p1).toNat) mX12_nothing 1 [.ref 106, iv p1] μ (xqV w [126999] μ (fun μ1 => ∃ o_x : Int, μ1 126 ((40 * p1).toNat) = o_x ∧ mG [((40 * p1), ((40 * p1) + 1))] μ μ1 ∧ (o_x = -1) ∧ True)) := sorry
set_option maxRecDepth 4000 in
set_option maxHeartbeats 4000000 in
theorem cx_X12_waysMatch {l : Launch} {D : va_G} {c : Nat → ClassId} {H0 : Heap} {sa : Nat × Nat × (Nat → Int32)} {w : mW} {μ : mM} {K : (Nat → Int) → (Nat → Int) → Prop} {W S : Nat → Nat → Prop} (hw : mWF w) (hT : mT w μ) {p1 : Int} (hp1 : 0 ≤ p1 ∧ p1 ≤ 11) {p2 : Int} (hp2 : 0 ≤ p2 ∧ p2 ≤ 3899) {p3 : Int} (hp3 : 0 ≤ p3 ∧ p3 ≤ 2099) (hR : ∀ i : Nat, 40 * p3 ≤ (i : Int) → (i : Int) < 40 * p3 + 40 → S 126 i) (h137 : S 137 p2.toNat) (h138 : S 138 p2.toNat) (h139 : S 139 p2.toNat) (h142 : S 142 p1.toNat) (h143 : ∀ i : Nat, 41 * p1 ≤ (i : Int) → (i : Int) < 41 * p1 + 41 → S 143 i ∧ S 144 i) : VC l D c H0 sa K W S S mX12_waysMatch 1 [.ref 106, iv p1, iv p2, iv p3] μ (xqP w μ (fun z => (0 ≤ z ∧ z ≤ 1) ∧ True)) := sorry
set_option maxRecDepth 4000 in
set_option maxHeartbeats 4000000 in
theorem cx_X12_copy {l : Launch} {D : va_G} {c : Nat → ClassId} {H0 : Heap} {sa : Nat × Nat × (Nat → Int32)} {w : mW} {μ : mM} {K : (Nat → Int) → (Nat → Int) → Prop} {W S : Nat → Nat → Prop} (hw : mWF w) (hT : mT w μ) {p1 : Int} (hp1 : 0 ≤ p1 ∧ p1 ≤ 2099) {p2 : Int} (hp2 : 0 ≤ p2 ∧ p2 ≤ 2099) {f_x : Int} (q_f_x : μ 126 ((40 * p1).toNat) = f_x) (hq0 : p1 < p2 ∨ p2 < p1) (hR : ∀ i : Nat, 40 * p1 ≤ (i : Int) → (i : Int) < 40 * p1 + 40 → S 126 i) (hW : ∀ i : Nat, 40 * p2 ≤ (i : Int) → (i : Int) < 40 * p2 + 40 → W 126 i) : VC l D c H0 sa K W S (Srow S p2 40) mX12_copy 1 [.ref 106, iv p1, iv p2] μ (xqV w [126999] μ (fun μ1 => ∃ o_x : Int, μ1 126 ((40 * p2).toNat) = o_x ∧ mG [((40 * p2), ((40 * p2) + 40))] μ μ1 ∧ (o_x = f_x) ∧ True)) := sorry
set_option maxRecDepth 4000 in
set_option maxHeartbeats 4000000 in
theorem cx_X12_judgedAnew {l : Launch} {D : va_G} {c : Nat → ClassId} {H0 : Heap} {sa : Nat × Nat × (Nat → Int32)} {w : mW} {μ : mM} {K : (Nat → Int) → (Nat → Int) → Prop} {W S : Nat → Nat → Prop} (hw : mWF w) (hT : mT w μ) {p1 : Int} (hp1 : 0 ≤ p1 ∧ p1 ≤ 9) {p2 : Int} (hp2 : (-2147483648) ≤ p2 ∧ p2 ≤ 2147483647) {p3 : Int} (hp3 : (-2147483648) ≤ p3 ∧ p3 ≤ 2147483647) {p4 : Int} (hp4 : (-2147483648) ≤ p4 ∧ p4 ≤ 2147483647) (h18 : S 106 18) (hr : ∀ a i : Nat, 119 ≤ a → a ≤ 125 → (i : Int) < μ 106 18 → S a i) (hx : S 108 p1.toNat ∧ S 109 p1.toNat) (hxr : ∀ r : Int, 0 ≤ r → r < μ 106 18 → S 108 (μ 119 r.toNat).toNat ∧ S 109 (μ 119 r.toNat).toNat) : VC l D c H0 sa K W S S mX12_judgedAnew 3 [.ref 106, iv p1, iv p2, iv p3, iv p4] μ (xqP w μ (fun z => (0 ≤ z ∧ z ≤ 2) ∧ True)) := sorry
theorem xties {l : Launch} {D : va_G} {c : Nat → ClassId} {H0 : Heap} {sa : Nat × Nat × (Nat → Int32)} {K : (Nat → Int) → (Nat → Int) → Prop} {W S SE : Nat → Nat → Prop} {Q : Option Value → mM → Prop} {M : sM} {R : Room} {μ : mM} {pc : Nat} {lv : List (Nat × Value)} {st : List Value} {index tgt : Nat} {z off g : Int} (hd : decode M.2.1 pc = .ok (.getfield index, 3)) (hw : sFl (RX12, TX12, 126) M.1.cls index 6 ∈ lw_ok) (hd2 : decode M.2.1 (pc + 3) = .ok (.if_icmp .ge off, 3)) (ht : ((pc + 3 : Nat) : Int) + off = (tgt : Int)) (hz : -2147483648 ≤ z ∧ z ≤ 2147483647) (hg : z ≤ g) (hK : ∀ γ f, K γ f → g < f 6) (k : VS l D c H0 sa K W S SE M R Q (pc + 3 + 3) lv st μ) : VS l D c H0 sa K W S SE M R Q pc lv (.ref 106 :: iv z :: st) μ := sorry
set_option maxRecDepth 4000 in
set_option maxHeartbeats 4000000 in
theorem cx_X12_tieOf_hit {l : Launch} {D : va_G} {c : Nat → ClassId} {H0 : Heap} {sa : Nat × Nat × (Nat → Int32)} {w : mW} {μ : mM} {K : (Nat → Int) → (Nat → Int) → Prop} {W S : Nat → Nat → Prop} (hw : mWF w) (hT : mT w μ) {p1 : Int} (hp1 : (-2147483648) ≤ p1 ∧ p1 ≤ 2147483647) {p2 : Int} (hp2 : (-2147483648) ≤ p2 ∧ p2 ≤ 2147483647) {g1 : Int} (hg1 : 0 ≤ g1 ∧ g1 ≤ 19) {f_e0 : Int} (q_f_e0 : μ 110 ((2 * g1).toNat) = f_e0) {f_e1 : Int} (q_f_e1 : μ 110 (((2 * g1) + 1).toNat) = f_e1) {f_ties : Int} (q_f_ties : μ 106 6 = f_ties) (hq0 : g1 < f_ties) (hq1 : (f_e0 = p1 ∧ f_e1 = p2) ∨ (f_e0 = p2 ∧ f_e1 = p1)) (hK : ∀ γ f, K γ f → g1 < f 6) (h110 : ∀ i : Nat, (i : Int) ≤ 2 * g1 + 1 → S 110 i) : VC l D c H0 sa K W S S mX12_tieOf 1 [.ref 106, iv p1, iv p2] μ (xqP w μ (fun z => (0 ≤ z ∧ z ≤ 19) ∧ z ≤ g1)) := sorry
set_option maxRecDepth 4000 in
set_option maxHeartbeats 4000000 in
theorem cx_X12_tieWord {l : Launch} {D : va_G} {c : Nat → ClassId} {H0 : Heap} {sa : Nat × Nat × (Nat → Int32)} {w : mW} {μ : mM} {K : (Nat → Int) → (Nat → Int) → Prop} {W S : Nat → Nat → Prop} (hw : mWF w) (hT : mT w μ) {p1 : Int} (hp1 : (-2147483648) ≤ p1 ∧ p1 ≤ 2147483647) {p2 : Int} (hp2 : (-2147483648) ≤ p2 ∧ p2 ≤ 2147483647) {g1 : Int} (hg1 : 0 ≤ g1 ∧ g1 ≤ 19) {f_e0 : Int} (q_f_e0 : μ 110 ((2 * g1).toNat) = f_e0) {f_e1 : Int} (q_f_e1 : μ 110 (((2 * g1) + 1).toNat) = f_e1) {f_ties : Int} (q_f_ties : μ 106 6 = f_ties) (hq0 : g1 < f_ties) (hq1 : (f_e0 = p1 ∧ f_e1 = p2) ∨ (f_e0 = p2 ∧ f_e1 = p1)) (hK : ∀ γ f, K γ f → g1 < f 6) (h110 : ∀ i : Nat, (i : Int) ≤ 2 * g1 + 1 → S 110 i) (h111 : ∀ i : Nat, (i : Int) ≤ g1 → S 111 i) : VC l D c H0 sa K W S S mX12_tieWord 2 [.ref 106, iv p1, iv p2] μ (xqP w μ (fun z => (16 ≤ z ∧ z ≤ 19) ∧ True)) := sorry
set_option maxRecDepth 4000 in
set_option maxHeartbeats 4000000 in
theorem cx_X12_isSo {l : Launch} {D : va_G} {c : Nat → ClassId} {H0 : Heap} {sa : Nat × Nat × (Nat → Int32)} {w : mW} {μ : mM} {K : (Nat → Int) → (Nat → Int) → Prop} {W S : Nat → Nat → Prop} (hw : mWF w) (hT : mT w μ) {p1 : Int} (hp1 : 0 ≤ p1 ∧ p1 ≤ 11) {p2 : Int} (hp2 : 0 ≤ p2 ∧ p2 ≤ 3899) {p3 : Int} (hp3 : 0 ≤ p3 ∧ p3 ≤ 2099) {p4 : Int} (hp4 : (-2147483648) ≤ p4 ∧ p4 ≤ 2147483647) {p5 : Int} (hp5 : (-2147483648) ≤ p5 ∧ p5 ≤ 2147483647) {g1 : Int} (hg1 : 0 ≤ g1 ∧ g1 ≤ 19) {f_e0 : Int} (q_f_e0 : μ 110 ((2 * g1).toNat) = f_e0) {f_e1 : Int} (q_f_e1 : μ 110 (((2 * g1) + 1).toNat) = f_e1) {f_ties : Int} (q_f_ties : μ 106 6 = f_ties) {f_x : Int} (q_f_x : μ 126 ((40 * p3).toNat) = f_x) (hq0 : g1 < f_ties) (hq1 : (f_e0 = p4 ∧ f_e1 = p5) ∨ (f_e0 = p5 ∧ f_e1 = p4)) (hq2 : 0 ≤ f_x) (hR : ∀ i : Nat, 40 * p3 ≤ (i : Int) → (i : Int) < 40 * p3 + 40 → S 126 i) (hK : ∀ γ f, K γ f → g1 < f 6) (h110 : ∀ i : Nat, (i : Int) ≤ 2 * g1 + 1 → S 110 i) (h111 : ∀ i : Nat, (i : Int) ≤ g1 → S 111 i) (hP : ∀ a : Nat, 132 ≤ a → a ≤ 139 → S a p2.toNat) (h142 : S 142 p1.toNat) (h143 : ∀ i : Nat, 41 * p1 ≤ (i : Int) → (i : Int) < 41 * p1 + 41 → S 143 i ∧ S 144 i) (hx : S 108 f_x.toNat ∧ S 109 f_x.toNat) (h17 : S 106 17) (hJ : ∀ n z : Int, (-2147483648 ≤ n ∧ n ≤ 2147483647) → μ 106 17 = z → VC l D c H0 sa K W S S mX12_judged 4 [.ref 106, iv f_x, iv n, iv z, iv z] μ (xqI w [106026, 106027, 106028, 106029, 106030, 106031] μ (fun z _ => (0 ≤ z ∧ z ≤ 2) ∧ True))) : VC l D c H0 sa K W S S mX12_isSo 5 [.ref 106, iv p1, iv p2, iv p3, iv p4, iv p5] μ (xqI w [106026, 106027, 106028, 106029, 106030, 106031] μ (fun z μ1 => (0 ≤ z ∧ z ≤ 1) ∧ True)) := sorry
set_option maxRecDepth 4000 in
set_option maxHeartbeats 4000000 in
theorem cx_X12_through {l : Launch} {D : va_G} {c : Nat → ClassId} {H0 : Heap} {sa : Nat × Nat × (Nat → Int32)} {w : mW} {μ : mM} {K : (Nat → Int) → (Nat → Int) → Prop} {W S : Nat → Nat → Prop} (hw : mWF w) (hT : mT w μ) {p1 : Int} (hp1 : (-2147483648) ≤ p1 ∧ p1 ≤ 2147483647) {p2 : Int} (hp2 : 0 ≤ p2 ∧ p2 ≤ 2099) {p3 : Int} (hp3 : (-2147483648) ≤ p3 ∧ p3 ≤ 2147483647) {p4 : Int} (hp4 : (-2147483648) ≤ p4 ∧ p4 ≤ 2147483647) {g1 : Int} (hg1 : 0 ≤ g1 ∧ g1 ≤ 19) {f_e0 : Int} (q_f_e0 : μ 110 ((2 * g1).toNat) = f_e0) {f_e1 : Int} (q_f_e1 : μ 110 (((2 * g1) + 1).toNat) = f_e1) {f_ties : Int} (q_f_ties : μ 106 6 = f_ties) {f_x : Int} (q_f_x : μ 126 ((40 * p2).toNat) = f_x) {f_pol : Int} (q_f_pol : μ 106 39 = f_pol) (hq0 : g1 < f_ties) (hq1 : (f_e0 = p3 ∧ f_e1 = p4) ∨ (f_e0 = p4 ∧ f_e1 = p3)) (hq2 : 0 ≤ f_x) (hq3 : p1 = -99999999 ∨ (0 ≤ p1 ∧ p1 < f_pol)) (hIPK : PK μ) (hR : ∀ i : Nat, 40 * p2 ≤ (i : Int) → (i : Int) < 40 * p2 + 40 → S 126 i) (hW : ∀ i : Nat, 40 * p2 ≤ (i : Int) → (i : Int) < 40 * p2 + 40 → W 126 i) (hK : ∀ γ f, K γ f → g1 < f 6) (h110 : ∀ i : Nat, (i : Int) ≤ 2 * g1 + 1 → S 110 i) (h111 : ∀ i : Nat, (i : Int) ≤ g1 → S 111 i) (h127 : ∀ i : Nat, (i : Int) < f_pol → S 127 i ∧ S 142 i) (h128 : ∀ i : Nat, (i : Int) < 31 * f_pol → S 128 i ∧ S 129 i) (h132 : ∀ a i : Nat, 132 ≤ a → a ≤ 141 → (i : Int) < 300 * f_pol → S a i) (h143 : ∀ i : Nat, (i : Int) < 41 * f_pol → S 143 i ∧ S 144 i) (hx : S 108 f_x.toNat ∧ S 109 f_x.toNat) (h17 : S 106 17) (hG : ∀ a i : Nat, 151 ≤ a → a ≤ 153 → W a i) (hJ : ∀ (m : Int) (μ' : mM) (n z : Int), mT w μ' → mF [106026, 106027, 106028, 106029, 106030, 106031, 126999, 151999, 152999, 153999] w μ μ' → (-2147483648 ≤ n ∧ n ≤ 2147483647) → μ' 106 17 = z → VC l D c H0 sa K W (Slev S m) (Slev S m) mX12_judged 4 [.ref 106, iv f_x, iv n, iv z, iv z] μ' (xqI w [106026, 106027, 106028, 106029, 106030, 106031] μ' (fun z _ => (0 ≤ z ∧ z ≤ 2) ∧ True))) : VC l D c H0 sa K W S S mX12_through 6 [.ref 106, iv p1, iv p2, iv p3, iv p4] μ (xqI w [106026, 106027, 106028, 106029, 106030, 106031, 126999, 151999, 152999, 153999] μ (fun z μ1 => ∃ o_x : Int, μ1 126 ((40 * p2).toNat) = o_x ∧ (0 ≤ z ∧ z ≤ 1) ∧ mG [(((40 * p2) + 1), ((40 * p2) + 40))] μ μ1 ∧ (o_x = f_x) ∧ True)) := sorry
end
section
/-- the cache of judged behind it -/
def jE (μ : mM) (a b c d z : Int) : mM := if μ 106 26 ≠ 0 ∧ μ 106 27 = a ∧ μ 106 28 = b ∧ μ 106 29 = c ∧ μ 106 30 = d then μ else mUp (mUp (mUp (mUp (mUp (mUp μ 106 31 z) 106 27 a) 106 28 b) 106 29 c) 106 30 d) 106 26 1
theorem jE.hit {μ : mM} {a b c d z : Int} (h : μ 106 26 ≠ 0 ∧ μ 106 27 = a ∧ μ 106 28 = b ∧ μ 106 29 = c ∧ μ 106 30 = d) : jE μ a b c d z = μ := sorry
theorem jE.miss {μ m1 m2 m3 m4 m5 m6 : mM} {a b c d z : Int} (h : ¬ (μ 106 26 ≠ 0 ∧ μ 106 27 = a ∧ μ 106 28 = b ∧ μ 106 29 = c ∧ μ 106 30 = d)) (u1 : mU μ 106 31 z m1) (u2 : mU m1 106 27 a m2) (u3 : mU m2 106 28 b m3) (u4 : mU m3 106 29 c m4) (u5 : mU m4 106 30 d m5) (u6 : mU m5 106 26 1 m6) : m6 106 31 = z ∧ m6 = jE μ a b c d z := sorry
set_option maxRecDepth 4000 in
set_option maxHeartbeats 4000000 in
theorem c_X12_judged_f {l : Launch} {D : va_G} {c : Nat → ClassId} {H0 : Heap} {sa : Nat × Nat × (Nat → Int32)} {w : mW} {μ : mM} (hw : mWF w) (hT : mT w μ) {p1 : Int} (hp1 : 0 ≤ p1 ∧ p1 ≤ 9) {p2 : Int} (hp2 : (-2147483648) ≤ p2 ∧ p2 ≤ 2147483647) {p3 : Int} (hp3 : (-2147483648) ≤ p3 ∧ p3 ≤ 2147483647) {p4 : Int} (hp4 : (-2147483648) ≤ p4 ∧ p4 ≤ 2147483647) {z0 : Int} (hz0 : 0 ≤ z0 ∧ z0 ≤ 2) (hA : sC (gG l D c H0 sa) mX12_judgedAnew 3 0 0 [.ref 106, iv p1, iv p2, iv p3, iv p4] (mk w μ) (qP w μ (fun z => z = z0))) (hC : μ 106 26 ≠ 0 → μ 106 27 = p1 → μ 106 28 = p2 → μ 106 29 = p3 → μ 106 30 = p4 → μ 106 31 = z0) : sC (gG l D c H0 sa) mX12_judged 4 0 0 [.ref 106, iv p1, iv p2, iv p3, iv p4] (mk w μ) (qI w [106026, 106027, 106028, 106029, 106030, 106031] μ (fun z μ1 => z = z0 ∧ μ1 = jE μ p1 p2 p3 p4 z0)) := sorry
end
section
set_option maxRecDepth 4000 in
set_option maxHeartbeats 4000000 in
theorem cx_X12_candidate {l : Launch} {D : va_G} {c : Nat → ClassId} {H0 : Heap} {sa : Nat × Nat × (Nat → Int32)} {w : mW} {μ : mM} {K : (Nat → Int) → (Nat → Int) → Prop} {W S : Nat → Nat → Prop} (hw : mWF w) (hT : mT w μ) {p1 : Int} (hp1 : 0 ≤ p1 ∧ p1 ≤ 9) {p2 : Int} (hp2 : 0 ≤ p2 ∧ p2 ≤ 19) {p3 : Int} (hp3 : 0 ≤ p3 ∧ p3 ≤ 9) {f_e0 : Int} (q_f_e0 : μ 110 ((2 * p2).toNat) = f_e0) {f_e1 : Int} (q_f_e1 : μ 110 (((2 * p2) + 1).toNat) = f_e1) {f_ties : Int} (q_f_ties : μ 106 6 = f_ties) (hq0 : p2 < f_ties) (hq1 : f_e0 = p1 ∨ f_e1 = p1) (hIPK : PK μ) {sd : Int} (hsd : (f_e0 = p1 → sd = 0) ∧ (¬ f_e0 = p1 → sd = 1)) {x : Int} (q_x : μ 126 ((40 * (130 + ((2 * p2 + sd) * 10 + p3))).toNat) = x) {f_pol : Int} (q_pol : μ 106 39 = f_pol) (hH : ∀ i : Nat, 40 * (130 + ((2 * p2 + sd) * 10 + p3)) ≤ (i : Int) → (i : Int) < 40 * (130 + ((2 * p2 + sd) * 10 + p3)) + 40 → S 126 i) (hW : ∀ i : Nat, 40 * (4 + p2) ≤ (i : Int) → (i : Int) < 40 * (4 + p2) + 40 → W 126 i) (hK : ∀ γ f, K γ f → p2 < f 6) (h110 : ∀ i : Nat, (i : Int) ≤ 2 * p2 + 1 → S 110 i) (h111 : ∀ i : Nat, (i : Int) ≤ p2 → S 111 i) (h112 : S 112 p2.toNat) (h115 : S 115 (4 * p2 + 2 * sd).toNat) (h127 : ∀ i : Nat, (i : Int) < f_pol → S 127 i ∧ S 142 i) (h128 : ∀ i : Nat, (i : Int) < 31 * f_pol → S 128 i ∧ S 129 i) (h132 : ∀ a i : Nat, 132 ≤ a → a ≤ 141 → (i : Int) < 300 * f_pol → S a i) (h143 : ∀ i : Nat, (i : Int) < 41 * f_pol → S 143 i ∧ S 144 i) (hx : S 108 x.toNat ∧ S 109 x.toNat) (h17 : S 106 17) (hG : ∀ a i : Nat, 151 ≤ a → a ≤ 153 → W a i) (hN : ∀ i : Nat, 26 ≤ i → i ≤ 31 → ¬ S 106 i) (hJ : ∀ (S' : Nat → Nat → Prop) (μ' : mM) (n z : Int), (∀ a i, S a i → S' a i) → (∀ i : Nat, 26 ≤ i → i ≤ 31 → ¬ S' 106 i) → mT w μ' → mF [106026, 106027, 106028, 106029, 106030, 106031, 126999, 151999, 152999, 153999] w μ μ' → (-2147483648 ≤ n ∧ n ≤ 2147483647) → μ' 106 17 = z → (0 ≤ x ∧ x ≤ 9) → VC l D c H0 sa K W S' S' mX12_judged 4 [.ref 106, iv x, iv n, iv z, iv z] μ' (xqI w [106026, 106027, 106028, 106029, 106030, 106031] μ' (fun z _ => (0 ≤ z ∧ z ≤ 2) ∧ True))) : VC l D c H0 sa K W S (Sins S 126 (40 * (4 + p2)).toNat) mX12_candidate 7 [.ref 106, iv p1, iv p2, iv p3] μ (xqI w [106026, 106027, 106028, 106029, 106030, 106031, 126999, 151999, 152999, 153999] μ (fun z μ1 => ((-99999999) ≤ z ∧ z ≤ 10) ∧ mG [(((40 * p2) + 160), ((40 * p2) + 200))] μ μ1 ∧ (z = 0 → 0 ≤ μ1 126 (40 * (4 + p2)).toNat) ∧ (μ1 126 (40 * (4 + p2)).toNat < 0 ∨ μ1 126 (40 * (4 + p2)).toNat = x))) := sorry
end
section
/-! What judgedAnew reads; its answer, chosen for all memories that agree there; the cache that keeps it. -/
def SJ (μ : mM) (p : Int) : Nat → Nat → Prop := fun a i => (a = 106 ∧ i = 18) ∨ (119 ≤ a ∧ a ≤ 125 ∧ (i : Int) < μ 106 18) ∨ ((a = 108 ∨ a = 109) ∧ (i = p.toNat ∨ ∃ r : Int, 0 ≤ r ∧ r < μ 106 18 ∧ i = (μ 119 r.toNat).toNat))
theorem SJ.congr {μ ν : mM} {p : Int} (h : agr (SJ μ p) μ ν) : SJ ν p = SJ μ p := sorry
section JUD
variable {l : Launch} {D : va_G} {c : Nat → ClassId} {H0 : Heap} {sa : Nat × Nat × (Nat → Int32)} {w : mW} {μ ν : mM}
def JAp (l : Launch) (D : va_G) (c : Nat → ClassId) (H0 : Heap) (sa : Nat × Nat × (Nat → Int32)) (S : Nat → Nat → Prop) (A : mM → Prop) (p n d k z : Int) : Prop := (0 ≤ z ∧ z ≤ 2) ∧ ∀ w ν, mWF w → mT w ν → A ν → sC (gG l D c H0 sa) mX12_judgedAnew 3 0 0 [.ref 106, iv p, iv n, iv d, iv k] (mk w ν) (qP w ν (fun y => y = z))
/-- z is the answer of judgedAnew -/
def JAz (l : Launch) (D : va_G) (c : Nat → ClassId) (H0 : Heap) (sa : Nat × Nat × (Nat → Int32)) (μ : mM) (p n d k z : Int) : Prop := z = Classical.epsilon (JAp l D c H0 sa (SJ μ p) (agr (SJ μ p) μ) p n d k)
theorem JAz.congr {p n d k z : Int} (h : agr (SJ μ p) μ ν) : JAz l D c H0 sa ν p n d k z = JAz l D c H0 sa μ p n d k z := sorry
theorem JAz.spec {p n d k z : Int} (hw : mWF w) (hT : mT w μ) (hp : 0 ≤ p ∧ p ≤ 9) (hn : -2147483648 ≤ n ∧ n ≤ 2147483647) (hd : -2147483648 ≤ d ∧ d ≤ 2147483647) (hk : -2147483648 ≤ k ∧ k ≤ 2147483647) (h : JAz l D c H0 sa μ p n d k z) : JAp l D c H0 sa (SJ μ p) (agr (SJ μ p) μ) p n d k z := sorry
/-- the cache keeps an answer of judgedAnew -/
def JC (l : Launch) (D : va_G) (c : Nat → ClassId) (H0 : Heap) (sa : Nat × Nat × (Nat → Int32)) (μ : mM) : Prop := μ 106 26 ≠ 0 → (0 ≤ μ 106 27 ∧ μ 106 27 < μ 106 2) ∧ JAz l D c H0 sa μ (μ 106 27) (μ 106 28) (μ 106 29) (μ 106 30) (μ 106 31)
/-- what a walk of candidate keeps: the cache at the prefix x; more than g ties; the cache as it was, or at x -/
def KC (l : Launch) (D : va_G) (c : Nat → ClassId) (H0 : Heap) (sa : Nat × Nat × (Nat → Int32)) (μ : mM) (x g : Int) (γ f : Nat → Int) : Prop := (f 26 ≠ 0 → f 27 = x → JAz l D c H0 sa μ x (f 28) (f 29) (f 30) (f 31)) ∧ g < f 6 ∧ ((∀ i : Nat, 26 ≤ i → i ≤ 31 → f i = γ i) ∨ (0 ≤ x ∧ f 27 = x))
theorem jE.out {a b d e z : Int} {s i : Nat} (h : s ≠ 106 ∨ i < 26 ∨ 31 < i) : jE ν a b d e z s i = ν s i := sorry
theorem jE.ty {a b d e z : Int} (hw : mWF w) (hT : mT w ν) (ha : -2147483648 ≤ a ∧ a ≤ 2147483647) (hb : -2147483648 ≤ b ∧ b ≤ 2147483647) (hd : -2147483648 ≤ d ∧ d ≤ 2147483647) (he : -2147483648 ≤ e ∧ e ≤ 2147483647) (hz : 0 ≤ z ∧ z ≤ 2) : mT w (jE ν a b d e z) := sorry
theorem jE.cache {a b d e z : Int} (h : ν 106 26 ≠ 0 → ν 106 27 = a → ν 106 28 = b → ν 106 29 = d → ν 106 30 = e → ν 106 31 = z) : (jE ν a b d e z = ν ∧ ν 106 26 ≠ 0 ∧ ν 106 27 = a ∧ ν 106 28 = b ∧ ν 106 29 = d ∧ ν 106 30 = e ∧ ν 106 31 = z) ∨ (jE ν a b d e z 106 27 = a ∧ jE ν a b d e z 106 28 = b ∧ jE ν a b d e z 106 29 = d ∧ jE ν a b d e z 106 30 = e ∧ jE ν a b d e z 106 31 = z) := sorry
theorem cx_judged {W S' : Nat → Nat → Prop} {μ' : mM} {x g n z : Int} (hw : mWF w) (hT : mT w μ) (hT' : mT w μ') (hμ : agr (SJ μ x) μ μ') (hx : 0 ≤ x ∧ x ≤ 9) (hn : -2147483648 ≤ n ∧ n ≤ 2147483647) (hz : -2147483648 ≤ z ∧ z ≤ 2147483647) (hs : ∀ a i, SJ μ x a i → S' a i) (hN : ∀ i : Nat, 26 ≤ i → i ≤ 31 → ¬ S' 106 i) (hW : ∀ i : Nat, 26 ≤ i → i ≤ 31 → W 106 i) : VC l D c H0 sa (KC l D c H0 sa μ x g) W S' S' mX12_judged 4 [.ref 106, iv x, iv n, iv z, iv z] μ' (xqI w [106026, 106027, 106028, 106029, 106030, 106031] μ' (fun z _ => (0 ≤ z ∧ z ≤ 2) ∧ True)) := sorry
end JUD

end
section
/-! What candidate reads; 'candidate is not 0', for all memories that agree there. -/
def sdOf (μ : mM) (d t : Int) : Int := if μ 110 (2 * t).toNat = d then 0 else 1
def rwOf (μ : mM) (d t p : Int) : Int := 130 + ((2 * t + sdOf μ d t) * 10 + p)
def xOf (μ : mM) (d t p : Int) : Int := μ 126 (40 * rwOf μ d t p).toNat
def SC (μ : mM) (d t p : Int) : Nat → Nat → Prop := fun a i =>
  (a = 126 ∧ 40 * rwOf μ d t p ≤ (i : Int) ∧ (i : Int) < 40 * rwOf μ d t p + 40) ∨ (a = 110 ∧ (i : Int) ≤ 2 * t + 1) ∨ (a = 111 ∧ (i : Int) ≤ t) ∨ (a = 112 ∧ i = t.toNat) ∨ (a = 115 ∧ i = (4 * t + 2 * sdOf μ d t).toNat) ∨ ((a = 127 ∨ a = 142) ∧ (i : Int) < μ 106 39) ∨ ((a = 128 ∨ a = 129) ∧ (i : Int) < 31 * μ 106 39) ∨ ((132 ≤ a ∧ a ≤ 141) ∧ (i : Int) < 300 * μ 106 39) ∨ ((a = 143 ∨ a = 144) ∧ (i : Int) < 41 * μ 106 39) ∨ (a = 106 ∧ i = 17) ∨ SJ μ (xOf μ d t p) a i
def WC (t : Int) : Nat → Nat → Prop := fun a i => (a = 126 ∧ 40 * (4 + t) ≤ (i : Int) ∧ (i : Int) < 40 * (4 + t) + 40) ∨ (151 ≤ a ∧ a ≤ 153) ∨ (a = 106 ∧ 26 ≤ i ∧ i ≤ 31)
theorem SC.row {μ : mM} {d t p : Int} (i : Nat) (a : 40 * rwOf μ d t p ≤ (i : Int)) (b : (i : Int) < 40 * rwOf μ d t p + 40) : SC μ d t p 126 i := sorry
theorem SC.e {μ : mM} {d t p : Int} (i : Nat) (h : (i : Int) ≤ 2 * t + 1) : SC μ d t p 110 i := sorry
theorem SC.k {μ : mM} {d t p : Int} (i : Nat) (h : (i : Int) ≤ t) : SC μ d t p 111 i := sorry
theorem SC.u {μ : mM} {d t p : Int} : SC μ d t p 112 t.toNat := sorry
theorem SC.o {μ : mM} {d t p : Int} : SC μ d t p 115 (4 * t + 2 * sdOf μ d t).toNat := sorry
theorem SC.p1 {μ : mM} {d t p : Int} {a : Nat} (i : Nat) (ha : a = 127 ∨ a = 142) (h : (i : Int) < μ 106 39) : SC μ d t p a i := sorry
theorem SC.p2 {μ : mM} {d t p : Int} {a : Nat} (i : Nat) (ha : a = 128 ∨ a = 129) (h : (i : Int) < 31 * μ 106 39) : SC μ d t p a i := sorry
theorem SC.p3 {μ : mM} {d t p : Int} {a : Nat} (i : Nat) (ha : 132 ≤ a ∧ a ≤ 141) (h : (i : Int) < 300 * μ 106 39) : SC μ d t p a i := sorry
theorem SC.p4 {μ : mM} {d t p : Int} {a : Nat} (i : Nat) (ha : a = 143 ∨ a = 144) (h : (i : Int) < 41 * μ 106 39) : SC μ d t p a i := sorry
theorem SC.d {μ : mM} {d t p : Int} : SC μ d t p 106 17 := sorry
theorem SC.j {μ : mM} {d t p : Int} {a i : Nat} (h : SJ μ (xOf μ d t p) a i) : SC μ d t p a i := sorry
/-- what is read grows with the policies alone -/
theorem SC.sub {μ ν : mM} {d t p : Int} (ht : 0 ≤ t) (hp : 0 ≤ p) (h : agr (SC μ d t p) μ ν) (hl : μ 106 39 ≤ ν 106 39) : ∀ a i, SC μ d t p a i → SC ν d t p a i := sorry
theorem xOf.congr {μ ν : mM} {d t p : Int} (ht : 0 ≤ t) (hp : 0 ≤ p) (h : agr (SC μ d t p) μ ν) : xOf ν d t p = xOf μ d t p := sorry
section NZS
variable {l : Launch} {D : va_G} {c : Nat → ClassId} {H0 : Heap} {sa : Nat × Nat × (Nat → Int32)} {w : mW} {μ ν : mM}
/-- candidate's answer is z, and behind it stands what stood but for its scratch -/
def CA (l : Launch) (D : va_G) (c : Nat → ClassId) (H0 : Heap) (sa : Nat × Nat × (Nat → Int32)) (w : mW) (ν : mM) (d t p z : Int) (νe : mM) : Prop := (mT w νe ∧ JC l D c H0 sa νe ∧ (∀ a i, ¬ WC t a i → νe a i = ν a i)) ∧ sC (gG l D c H0 sa) mX12_candidate 7 0 0 [.ref 106, iv d, iv t, iv p] (mk w ν) (fun r hp => r = some (iv z) ∧ hp = mk w νe)
/-- candidate is not 0, in all memories that agree with μ on what it reads -/
def NZ (l : Launch) (D : va_G) (c : Nat → ClassId) (H0 : Heap) (sa : Nat × Nat × (Nat → Int32)) (μ : mM) (d t p : Int) : Prop := ∀ w ν, mWF w → mT w ν → JC l D c H0 sa ν → t < ν 106 6 → xOf μ d t p < ν 106 2 → agr (SC μ d t p) μ ν → ∃ z νe, z ≠ 0 ∧ (-99999999 ≤ z ∧ z ≤ 10) ∧ CA l D c H0 sa w ν d t p z νe ∧ (νe 126 (40 * (4 + t)).toNat < 0 ∨ νe 126 (40 * (4 + t)).toNat = xOf μ d t p)
theorem NZ.keep {d t p : Int} (ht : 0 ≤ t) (hp : 0 ≤ p) (h : NZ l D c H0 sa μ d t p) (ha : agr (SC μ d t p) μ ν) (hl : μ 106 39 ≤ ν 106 39) : NZ l D c H0 sa ν d t p := sorry
theorem JC.at {x g : Int} (h : JC l D c H0 sa ν) (hd : agr (SJ μ x) μ ν) (hg : g < ν 106 6) : KC l D c H0 sa μ x g (ν 106) (ν 106) := sorry
theorem JC.back {x g : Int} {νe : mM} (h : JC l D c H0 sa ν) (hf : ∀ p, agr (SJ ν p) ν νe) (hd : agr (SJ μ x) μ ν) (e2 : νe 106 2 = ν 106 2) (hx : x < ν 106 2) (k : KC l D c H0 sa μ x g (ν 106) (νe 106)) : JC l D c H0 sa νe := sorry
theorem WC.sj {t q : Int} {a i : Nat} (h : SJ ν q a i) : ¬ WC t a i := sorry
/-- one answer for all memories that agree; if it is 0, candidate's row is there -/
theorem cand_all {d t p e0 e1 ts : Int} (hw : mWF w) (hT : mT w μ) (hd : 0 ≤ d ∧ d ≤ 9) (ht : 0 ≤ t ∧ t ≤ 19) (hp : 0 ≤ p ∧ p ≤ 9) (q0 : μ 110 (2 * t).toNat = e0) (q1 : μ 110 (2 * t + 1).toNat = e1) (qt : μ 106 6 = ts) (h0 : t < ts) (h1 : e0 = d ∨ e1 = d) (hI : PK μ) : ∃ z, (-99999999 ≤ z ∧ z ≤ 10) ∧ ∀ w' ν, mWF w' → mT w' ν → JC l D c H0 sa ν → t < ν 106 6 → xOf μ d t p < ν 106 2 → agr (SC μ d t p) μ ν → ∃ νe, CA l D c H0 sa w' ν d t p z νe ∧ (z = 0 → 0 ≤ νe 126 (40 * (4 + t)).toNat) ∧ (νe 126 (40 * (4 + t)).toNat < 0 ∨ νe 126 (40 * (4 + t)).toNat = xOf μ d t p) := sorry
/-- nothing was heard: no candidate -/
theorem NZ.nothing {d t p : Int} (hw : mWF w) (hT : mT w μ) (hd : 0 ≤ d ∧ d ≤ 9) (ht : 0 ≤ t ∧ t < μ 106 6) (hp : 0 ≤ p ∧ p ≤ 9) (h1 : μ 110 (2 * t).toNat = d ∨ μ 110 (2 * t + 1).toNat = d) (hI : PK μ) (hx : xOf μ d t p < 0) : NZ l D c H0 sa μ d t p := sorry
end NZS

end
section
/-! What candidate reads stands where the frames say so. -/
def SCr : List Nat := [106017, 106018, 108999, 109999, 110999, 111999, 112999, 115999, 119999, 120999, 121999, 122999, 123999, 124999, 125999, 127999, 128999, 129999, 132999, 133999, 134999, 135999, 136999, 137999, 138999, 139999, 140999, 141999, 142999, 143999, 144999]
theorem SCr.no {lf : List Nat} {r : Nat} (h : (SCr.all fun r => !lf.elem r) = true) (hr : r ∈ SCr) : lf.elem r = false := sorry
theorem mF.arr {lf : List Nat} {w : mW} {μ μ1 : mM} (hw : mWF w) (F : mF lf w μ μ1) (h : (SCr.all fun r => !lf.elem r) = true) {a i : Nat} (ha : a = 108 ∨ a = 109 ∨ a = 110 ∨ a = 111 ∨ a = 112 ∨ a = 115 ∨ (119 ≤ a ∧ a ≤ 125) ∨ (127 ≤ a ∧ a ≤ 129) ∨ (132 ≤ a ∧ a ≤ 144)) : μ1 a i = μ a i := sorry
theorem SJ.fr {lf : List Nat} {w : mW} {μ μ1 : mM} {p : Int} (hw : mWF w) (F : mF lf w μ μ1) (h : (SCr.all fun r => !lf.elem r) = true) : agr (SJ μ p) μ μ1 := sorry
theorem SC.fr {lf : List Nat} {rs : List (Int × Int)} {w : mW} {μ μ1 : mM} {d t p : Int} (hw : mWF w) (F : mF lf w μ μ1) (h : (SCr.all fun r => !lf.elem r) = true) (G : mG rs μ μ1) (hr : ∀ r ∈ rs, r.2 ≤ 5200 ∨ 21200 ≤ r.1) (ht : 0 ≤ t ∧ t ≤ 19) (hp : 0 ≤ p ∧ p ≤ 9) : agr (SC μ d t p) μ μ1 := sorry
def CLF : List Nat := [106026, 106027, 106028, 106029, 106030, 106031, 126999, 151999, 152999, 153999]
theorem WC.mF {w : mW} {ν νe : mM} {t : Int} (hw : mWF w) (h : ∀ a i, ¬ WC t a i → νe a i = ν a i) : mF [106026, 106027, 106028, 106029, 106030, 106031, 126999, 151999, 152999, 153999] w ν νe := sorry
theorem WC.mG {ν νe : mM} {t : Int} (h : ∀ a i, ¬ WC t a i → νe a i = ν a i) : mG [(((40 * t) + 160), ((40 * t) + 200))] ν νe := sorry
/-- a route's prefix is there; the message's is 0 or none -/
def RP (μ : mM) : Prop := ∀ r : Int, 0 ≤ r → r ≤ 1399 → (r = 24 → μ 126 (40 * r).toNat ≤ 0) ∧ (¬ r = 24 → μ 126 (40 * r).toNat < μ 106 2)
theorem RP.keep {lf : List Nat} {w : mW} {μ μ1 : mM} {rs : List (Int × Int)} (h : RP μ) (hw : mWF w) (F : mF lf w μ μ1) (h2 : lf.elem 106002 = false) (G : mG rs μ μ1) (hr : ∀ r ∈ rs, 40 * ((r.2 - 1) / 40) < r.1) : RP μ1 := sorry
theorem RP.row {lf : List Nat} {w : mW} {μ μ1 : mM} {p hi z : Int} (h : RP μ) (hw : mWF w) (F : mF lf w μ μ1) (h2 : lf.elem 106002 = false) (hp : 0 ≤ p) (G : mG [(40 * p, hi)] μ μ1) (hh : hi ≤ 40 * p + 40) (q : μ1 126 (40 * p).toNat = z) (hz : (p = 24 → z ≤ 0) ∧ (¬ p = 24 → z < μ 106 2)) : RP μ1 := sorry
theorem RP.up {μ μ1 : mM} {e z n : Int} (h : RP μ) (hU : mU μ 126 e.toNat z μ1) (q : μ1 106 2 = n) (h0 : 0 ≤ e) (hz : ¬ e % 40 = 0 ∨ 56000 ≤ e ∨ (e = 960 ∧ z ≤ 0) ∨ (¬ e = 960 ∧ z < n)) : RP μ1 := sorry
theorem RP.grow {μ μ1 : mM} {z o : Int} (h : RP μ) (q : μ 106 2 = o) (hU : mU μ 106 2 z μ1) (hz : o ≤ z) : RP μ1 := sorry
theorem RP.at {μ : mM} {r e z n : Int} (h : RP μ) (h0 : 0 ≤ r ∧ r ≤ 1399) (he : e = 40 * r) (q : μ 126 e.toNat = z) (q2 : μ 106 2 = n) : (r = 24 → z ≤ 0) ∧ (¬ r = 24 → z < n) := sorry
section CNS
variable {l : Launch} {D : va_G} {c : Nat → ClassId} {H0 : Heap} {sa : Nat × Nat × (Nat → Int32)} {w : mW} {μ μ1 : mM}
theorem JC.keep {lf : List Nat} (h : JC l D c H0 sa μ) (hw : mWF w) (F : mF lf w μ μ1) (hl : (SCr.all fun r => !lf.elem r) = true) (hc : ([106002, 106026, 106027, 106028, 106029, 106030, 106031].all fun r => !lf.elem r) = true) : JC l D c H0 sa μ1 := sorry
set_option maxRecDepth 4000 in
theorem c_X12_candidate_u (hw : mWF w) (hT : mT w μ) {p1 : Int} (hp1 : 0 ≤ p1 ∧ p1 ≤ 9) {p2 : Int} (hp2 : 0 ≤ p2 ∧ p2 ≤ 19) {p3 : Int} (hp3 : 0 ≤ p3 ∧ p3 ≤ 9) {f_e0 : Int} (q_f_e0 : μ 110 ((2 * p2).toNat) = f_e0) {f_e1 : Int} (q_f_e1 : μ 110 (((2 * p2) + 1).toNat) = f_e1) {f_ties : Int} (q_f_ties : μ 106 6 = f_ties) (hq0 : p2 < f_ties) (hq1 : f_e0 = p1 ∨ f_e1 = p1) (hIJC : JC l D c H0 sa μ) (hIRP : RP μ) (hIPK : PK μ) : sC (gG l D c H0 sa) mX12_candidate 7 0 0 [.ref 106, iv p1, iv p2, iv p3] (mk w μ) (qI w [106026, 106027, 106028, 106029, 106030, 106031, 126999, 151999, 152999, 153999] μ (fun z μ1 => ((-99999999) ≤ z ∧ z ≤ 10) ∧ mG [(((40 * p2) + 160), ((40 * p2) + 200))] μ μ1 ∧ JC l D c H0 sa μ1 ∧ RP μ1 ∧ (μ1 126 (40 * (4 + p2)).toNat < 0 → NZ l D c H0 sa μ1 p1 p2 p3) ∧ True)) := sorry
/-- ties below n at d whose row of candidates is nothing have no candidate -/
def CN (l : Launch) (D : va_G) (c : Nat → ClassId) (H0 : Heap) (sa : Nat × Nat × (Nat → Int32)) (μ : mM) (d p n : Int) : Prop := ∀ t : Int, 0 ≤ t → t < n → (μ 110 (2 * t).toNat = d ∨ μ 110 (2 * t + 1).toNat = d) → μ 126 (40 * (4 + t)).toNat < 0 → NZ l D c H0 sa μ d t p
theorem CN.zero {d p : Int} : CN l D c H0 sa μ d p 0 := sorry
theorem CN.step {d p n : Int} {rs : List (Int × Int)} (h : CN l D c H0 sa μ d p n) (hn : 0 ≤ n ∧ n ≤ 19) (hp : 0 ≤ p ∧ p ≤ 9) (hw : mWF w) (F : mF [106026, 106027, 106028, 106029, 106030, 106031, 126999, 151999, 152999, 153999] w μ μ1) (G : mG rs μ μ1) (hr : ∀ r ∈ rs, 40 * (4 + n) ≤ r.1 ∧ r.2 ≤ 40 * (4 + n) + 40) (hN : (μ1 110 (2 * n).toNat = d ∨ μ1 110 (2 * n + 1).toNat = d) → μ1 126 (40 * (4 + n)).toNat < 0 → NZ l D c H0 sa μ1 d n p) : CN l D c H0 sa μ1 d p (n + 1) := sorry
end CNS

end
section
set_option maxRecDepth 4000 in
set_option maxHeartbeats 4000000 in
theorem c_X12_candidates_u {l : Launch} {D : va_G} {c : Nat → ClassId} {H0 : Heap} {sa : Nat × Nat × (Nat → Int32)} {w : mW} {μ : mM} (hw : mWF w) (hT : mT w μ) {p1 : Int} (hp1 : 0 ≤ p1 ∧ p1 ≤ 9) {p2 : Int} (hp2 : 0 ≤ p2 ∧ p2 ≤ 9) (hIJC : JC l D c H0 sa μ) (hIRP : RP μ) (hIPK : PK μ) : sC (gG l D c H0 sa) mX12_candidates 8 0 0 [.ref 106, iv p1, iv p2] (mk w μ) (qV w [106026, 106027, 106028, 106029, 106030, 106031, 126999, 151999, 152999, 153999] μ (fun μ1 => mG [(160, 960)] μ μ1 ∧ JC l D c H0 sa μ1 ∧ RP μ1 ∧ CN l D c H0 sa μ1 p1 p2 (μ1 106 6) ∧ True)) := sorry
end
section
/-! Nothing was picked: then no candidate is there. -/
def no0 (μ : mM) (n : Int) : Prop := ∀ i : Int, 0 ≤ i → i < n → 0 ≤ μ 126 (160 + 40 * i).toNat → 0 < μ 126 (164 + 40 * i).toNat
def noP (μ : mM) (n : Int) : Prop := ∀ i : Int, 0 ≤ i → i < n → 0 ≤ μ 126 (160 + 40 * i).toNat → μ 126 (164 + 40 * i).toNat ≤ 0
def allNo (μ : mM) (n : Int) : Prop := ∀ i : Int, 0 ≤ i → i < n → μ 126 (160 + 40 * i).toNat < 0
def leftC (μ : mM) (n : Int) : Prop := ∀ i : Int, 0 ≤ i → i < n → 0 ≤ μ 126 (160 + 40 * i).toNat → μ 165 i.toNat = 1
theorem no0.zero {μ : mM} : no0 μ 0 := sorry
theorem noP.zero {μ : mM} : noP μ 0 := sorry
theorem leftC.zero {μ : mM} : leftC μ 0 := sorry
theorem no0.put {μ : mM} {n f g x y : Int} (h : no0 μ n) (hf : f = 160 + 40 * n) (q : μ 126 f.toNat = x) (hg : g = 164 + 40 * n) (qg : μ 126 g.toNat = y) (hv : x < 0 ∨ 0 < y) : no0 μ (n + 1) := sorry
theorem noP.put {μ : mM} {n f g x y : Int} (h : noP μ n) (hf : f = 160 + 40 * n) (q : μ 126 f.toNat = x) (hg : g = 164 + 40 * n) (qg : μ 126 g.toNat = y) (hv : x < 0 ∨ y ≤ 0) : noP μ (n + 1) := sorry
theorem leftC.put {μ μ1 : mM} {n v f x : Int} (h : leftC μ n) (h0 : 0 ≤ n) (hU : mU μ 165 n.toNat v μ1) (hf : f = 160 + 40 * n) (q : μ1 126 f.toNat = x) (hv : v = 1 ∨ x < 0) : leftC μ1 (n + 1) := sorry
theorem no0.le {μ : mM} {n m : Int} (h : no0 μ n) (hm : m ≤ n) : no0 μ m := sorry
theorem noP.le {μ : mM} {n m : Int} (h : noP μ n) (hm : m ≤ n) : noP μ m := sorry
theorem leftC.le {μ : mM} {n m : Int} (h : leftC μ n) (hm : m ≤ n) : leftC μ m := sorry
theorem allNo.of {μ : mM} {n : Int} (h : no0 μ n) (k : noP μ n) : allNo μ n := sorry
theorem allNo.best {μ : mM} {n z : Int} (h : leftC μ n) (hb : bestOK μ n z) (hz : z = -99999999) : allNo μ n := sorry
end
section
/-! judged keeps its cache's invariant; what stands where nothing of it was touched. -/
section JUS
variable {l : Launch} {D : va_G} {c : Nat → ClassId} {H0 : Heap} {sa : Nat × Nat × (Nat → Int32)} {w : mW} {μ μ1 : mM}
theorem c_X12_judged_u (hw : mWF w) (hT : mT w μ) {p1 : Int} (hp1 : 0 ≤ p1 ∧ p1 ≤ 9) {p2 : Int} (hp2 : (-2147483648) ≤ p2 ∧ p2 ≤ 2147483647) {p3 : Int} (hp3 : (-2147483648) ≤ p3 ∧ p3 ≤ 2147483647) {p4 : Int} (hp4 : (-2147483648) ≤ p4 ∧ p4 ≤ 2147483647) {f_pre : Int} (q_f_pre : μ 106 2 = f_pre) (hq0 : p1 < f_pre) (hIJC : JC l D c H0 sa μ) : sC (gG l D c H0 sa) mX12_judged 4 0 0 [.ref 106, iv p1, iv p2, iv p3, iv p4] (mk w μ) (qI w [106026, 106027, 106028, 106029, 106030, 106031] μ (fun z μ1 => (0 ≤ z ∧ z ≤ 2) ∧ JC l D c H0 sa μ1 ∧ True)) := sorry
theorem CN.fr {lf : List Nat} {d p : Int} (h : CN l D c H0 sa μ d p (μ 106 6)) (hp : 0 ≤ p ∧ p ≤ 9) (hw : mWF w) (hT : mT w μ) (F : mF lf w μ μ1) (hl : (SCr.all fun r => !lf.elem r) = true) (h6 : lf.elem 106006 = false) (h39 : lf.elem 106039 = false) (h126 : lf.elem 126999 = false) : CN l D c H0 sa μ1 d p (μ1 106 6) := sorry
/-- nothing was picked: no candidate -/
def NA (l : Launch) (D : va_G) (c : Nat → ClassId) (H0 : Heap) (sa : Nat × Nat × (Nat → Int32)) (μ : mM) (d p : Int) : Prop := ∀ t : Int, 0 ≤ t → t < μ 106 6 → (μ 110 (2 * t).toNat = d ∨ μ 110 (2 * t + 1).toNat = d) → NZ l D c H0 sa μ d t p
theorem NA.of {d p n : Int} (h : CN l D c H0 sa μ d p (μ 106 6)) (hn : μ 106 6 = n) (k : allNo μ n) : NA l D c H0 sa μ d p := sorry
theorem NA.fr {lf : List Nat} {rs : List (Int × Int)} {d p : Int} (h : NA l D c H0 sa μ d p) (hp : 0 ≤ p ∧ p ≤ 9) (hw : mWF w) (hT : mT w μ) (F : mF lf w μ μ1) (hl : (SCr.all fun r => !lf.elem r) = true) (h6 : lf.elem 106006 = false) (h39 : lf.elem 106039 = false) (G : mG rs μ μ1) (hr : ∀ r ∈ rs, r.2 ≤ 5200 ∨ 21200 ≤ r.1) : NA l D c H0 sa μ1 d p := sorry
end JUS
/-- the slots of pickedTie but one stand -/
def PT (μ μ1 : mM) (k : Nat) : Prop := ∀ j : Nat, j ≠ k → μ1 161 j = μ 161 j
theorem PT.fr {lf : List Nat} {w : mW} {μ μ1 : mM} {k : Nat} (hw : mWF w) (F : mF lf w μ μ1) (hl : lf.elem 161999 = false) : PT μ μ1 k := sorry
theorem PT.up {μ μ1 : mM} {k : Nat} {z : Int} (u : mU μ 161 k z μ1) : PT μ μ1 k := sorry
theorem PT.trans {μ μ1 μ2 : mM} {k : Nat} (h : PT μ μ1 k) (h' : PT μ1 μ2 k) : PT μ μ2 k := sorry
end
section
/-! What was not picked has no candidate: for the prefixes below n. -/
section UPS
variable {l : Launch} {D : va_G} {c : Nat → ClassId} {H0 : Heap} {sa : Nat × Nat × (Nat → Int32)} {w : mW} {μ μ1 : mM}
def UPd (l : Launch) (D : va_G) (c : Nat → ClassId) (H0 : Heap) (sa : Nat × Nat × (Nat → Int32)) (μ : mM) (d n : Int) : Prop := ∀ p : Int, 0 ≤ p → p < n → μ 161 (10 * d + p).toNat = -99999999 → NA l D c H0 sa μ d p
theorem UPd.zero {d : Int} : UPd l D c H0 sa μ d 0 := sorry
theorem UPd.step {lf : List Nat} {rs : List (Int × Int)} {d n : Int} (h : UPd l D c H0 sa μ d n) (hd : 0 ≤ d ∧ d ≤ 9) (hn : 0 ≤ n ∧ n ≤ 9) (hw : mWF w) (hT : mT w μ) (F : mF lf w μ μ1) (hl : (SCr.all fun r => !lf.elem r) = true) (h6 : lf.elem 106006 = false) (h39 : lf.elem 106039 = false) (G : mG rs μ μ1) (hr : ∀ r ∈ rs, r.2 ≤ 5200 ∨ 21200 ≤ r.1) (pt : PT μ μ1 (10 * d + n).toNat) (na : μ1 161 (10 * d + n).toNat = -99999999 → NA l D c H0 sa μ1 d n) : UPd l D c H0 sa μ1 d (n + 1) := sorry
/-- pickedTie stands but for the slots of d -/
def PD (μ μ1 : mM) (d : Int) : Prop := ∀ j : Nat, ((j : Int) < 10 * d ∨ 10 * d + 10 ≤ (j : Int)) → μ1 161 j = μ 161 j
theorem PD.refl {d : Int} : PD μ μ d := sorry
theorem PD.step {μ2 : mM} {d n : Int} (h : PD μ μ1 d) (hd : 0 ≤ d) (hn : 0 ≤ n ∧ n ≤ 9) (pt : PT μ1 μ2 (10 * d + n).toNat) : PD μ μ2 d := sorry
end UPS

end
section
/-! What stands between the calls: routes' prefixes, events, what was heard; nothing picked, no candidate. -/
section UIS
variable {l : Launch} {D : va_G} {c : Nat → ClassId} {H0 : Heap} {sa : Nat × Nat × (Nat → Int32)} {w : mW} {μ μ1 : mM}
theorem mU.same {a k : Nat} {z : Int} (u : mU μ a k z μ1) (q : μ a k = z) : μ1 = μ := sorry
theorem F106 {lf : List Nat} {i : Nat} (hw : mWF w) (F : mF lf w μ μ1) (h : lf.elem (106000 + i) = false) : μ1 106 i = μ 106 i := sorry
theorem c_X12_copy_u (hw : mWF w) (hT : mT w μ) {p1 : Int} (hp1 : 0 ≤ p1 ∧ p1 ≤ 2099) {p2 : Int} (hp2 : 0 ≤ p2 ∧ p2 ≤ 2099) {f_x : Int} (q_f_x : μ 126 ((40 * p1).toNat) = f_x) {f_pre : Int} (q_f_pre : μ 106 2 = f_pre) (hq0 : p1 < p2 ∨ p2 < p1) (hq1 : p1 ≤ 1399) (hq2 : ¬ p2 = 24) (hq3 : ¬ p1 = 24 ∨ 0 < f_pre) (hIRP : RP μ) : sC (gG l D c H0 sa) mX12_copy 1 0 0 [.ref 106, iv p1, iv p2] (mk w μ) (qV w [126999] μ (fun μ1 => ∃ o_x : Int, μ1 126 ((40 * p2).toNat) = o_x ∧ mG [((40 * p2), ((40 * p2) + 40))] μ μ1 ∧ RP μ1 ∧ (o_x = f_x) ∧ True)) := sorry
theorem c_X12_nothing_u (hw : mWF w) (hT : mT w μ) {p1 : Int} (hp1 : 0 ≤ p1 ∧ p1 ≤ 2099) (hIRP : RP μ) : sC (gG l D c H0 sa) mX12_nothing 1 0 0 [.ref 106, iv p1] (mk w μ) (qV w [126999] μ (fun μ1 => ∃ o_x : Int, μ1 126 ((40 * p1).toNat) = o_x ∧ mG [((40 * p1), ((40 * p1) + 1))] μ μ1 ∧ RP μ1 ∧ (o_x = -1) ∧ True)) := sorry
/-! the cache of judged -/
def SJr : List Nat := [106002, 106018, 106026, 106027, 106028, 106029, 106030, 106031, 108999, 109999, 119999, 120999, 121999, 122999, 123999, 124999, 125999]
theorem SJr.no {lf : List Nat} {r : Nat} (h : (SJr.all fun r => !lf.elem r) = true) (hr : r ∈ SJr) : lf.elem r = false := sorry
theorem SJ.frJ {lf : List Nat} (hw : mWF w) (F : mF lf w μ μ1) (h : (SJr.all fun r => !lf.elem r) = true) {p : Int} : agr (SJ μ p) μ μ1 := sorry
theorem JC.of (h : JC l D c H0 sa μ) (e2 : μ 106 2 ≤ μ1 106 2) (e : ∀ i : Nat, 26 ≤ i → i ≤ 31 → μ1 106 i = μ 106 i) (hA : 0 ≤ μ 106 27 → μ 106 27 < μ 106 2 → agr (SJ μ (μ 106 27)) μ μ1) : JC l D c H0 sa μ1 := sorry
theorem JC.keepJ {lf : List Nat} (h : JC l D c H0 sa μ) (hw : mWF w) (F : mF lf w μ μ1) (hl : (SJr.all fun r => !lf.elem r) = true) : JC l D c H0 sa μ1 := sorry
theorem JC.zero (e : μ 106 26 = 0) : JC l D c H0 sa μ := sorry
theorem JC.sm (h : JC l D c H0 sa μ) (e1 : ∀ i : Nat, i < 1000 → μ1 106 i = μ 106 i) (e2 : ∀ a : Nat, 107 ≤ a → a < 192 → μ1 a = μ a) : JC l D c H0 sa μ1 := sorry
/-! events: of prefixes that are there, of ties that are up -/
def EP (μ : mM) : Prop := ∀ s : Int, 0 ≤ s → s ≤ 399 → (0 ≤ μ 157 s.toNat ∨ 0 ≤ μ 159 s.toNat) → s % 10 < μ 106 2 ∧ ¬ μ 112 (s / 20).toNat = 0
def epF (lf : List Nat) : Bool := !(lf.elem 106002) && (!(lf.elem 112999) && (!(lf.elem 157999) && !(lf.elem 159999)))
theorem EP.keep {lf : List Nat} (h : EP μ) (hw : mWF w) (F : mF lf w μ μ1) (hl : epF lf = true) : EP μ1 := sorry
theorem EP.neg1 {k : Nat} {z : Int} (h : EP μ) (u : mU μ 157 k z μ1) (hz : z < 0) : EP μ1 := sorry
theorem EP.neg2 {k : Nat} {z : Int} (h : EP μ) (u : mU μ 159 k z μ1) (hz : z < 0) : EP μ1 := sorry
theorem EP.up1 {e z n t v : Int} (h : EP μ) (u : mU μ 157 e.toNat z μ1) (h0 : 0 ≤ e) (qn : μ1 106 2 = n) (hn : e % 10 < n) (ht : e / 20 = t) (qt : μ1 112 t.toNat = v) (hv : ¬ v = 0) : EP μ1 := sorry
theorem EP.up2 {e z n t v : Int} (h : EP μ) (u : mU μ 159 e.toNat z μ1) (h0 : 0 ≤ e) (qn : μ1 106 2 = n) (hn : e % 10 < n) (ht : e / 20 = t) (qt : μ1 112 t.toNat = v) (hv : ¬ v = 0) : EP μ1 := sorry
theorem EP.tie {k : Nat} {z : Int} (h : EP μ) (u : mU μ 112 k z μ1) (hz : ¬ z = 0) : EP μ1 := sorry
theorem EP.grow {z o : Int} (h : EP μ) (q : μ 106 2 = o) (u : mU μ 106 2 z μ1) (hz : o ≤ z) : EP μ1 := sorry
theorem EP.at {s n t v : Int} (h : EP μ) (h0 : 0 ≤ s ∧ s ≤ 399) (hv : 0 ≤ μ 157 s.toNat ∨ 0 ≤ μ 159 s.toNat) (q : μ 106 2 = n) (ht : s / 20 = t) (qt : μ 112 t.toNat = v) : s % 10 < n ∧ ¬ v = 0 := sorry
theorem EP.ev {e s n t v : Int} (h : EP μ) (he : 0 ≤ e ∧ e ≤ 799) (hv : 0 ≤ evF μ e) (hs : e % 400 = s) (q : μ 106 2 = n) (ht : s / 20 = t) (qt : μ 112 t.toNat = v) : s % 10 < n ∧ ¬ v = 0 := sorry
/-! what was heard: from ties that are up, of prefixes that are there -/
def HP (μ : mM) : Prop := ∀ s : Int, 0 ≤ s → s ≤ 399 → 0 ≤ μ 126 (40 * (130 + s)).toNat → s < 20 * μ 106 6 ∧ s % 10 < μ 106 2 ∧ ¬ μ 112 (s / 20).toNat = 0
def hpF (lf : List Nat) : Bool := !(lf.elem 106002) && (!(lf.elem 106006) && !(lf.elem 112999))
theorem HP.keep {lf : List Nat} {rs : List (Int × Int)} (h : HP μ) (hw : mWF w) (F : mF lf w μ μ1) (hl : hpF lf = true) (G : mG rs μ μ1) (hr : ∀ r ∈ rs, r.2 ≤ 5200 ∨ 21200 ≤ r.1) : HP μ1 := sorry
theorem HP.row {lf : List Nat} {rs : List (Int × Int)} {e n m t v : Int} (h : HP μ) (hw : mWF w) (F : mF lf w μ μ1) (hl : hpF lf = true) (G : mG rs μ μ1) (hr : ∀ r ∈ rs, 40 * (130 + e) ≤ r.1 ∧ r.2 ≤ 40 * (130 + e) + 40) (q6 : μ 106 6 = n) (h6 : e < 20 * n) (q2 : μ 106 2 = m) (h2 : e % 10 < m) (ht : e / 20 = t) (qt : μ 112 t.toNat = v) (hv : ¬ v = 0) : HP μ1 := sorry
theorem HP.tie {k : Nat} {z : Int} (h : HP μ) (u : mU μ 112 k z μ1) (hz : ¬ z = 0) : HP μ1 := sorry
theorem HP.grow2 {z o : Int} (h : HP μ) (q : μ 106 2 = o) (u : mU μ 106 2 z μ1) (hz : o ≤ z) : HP μ1 := sorry
theorem HP.grow6 {z o : Int} (h : HP μ) (q : μ 106 6 = o) (u : mU μ 106 6 z μ1) (hz : o ≤ z) : HP μ1 := sorry
/-! ends of ties, prefixes of rights -/
def TE (μ : mM) : Prop := ∀ i : Nat, (i : Int) < 2 * μ 106 6 → μ 110 i < μ 106 5
def RR (μ : mM) : Prop := ∀ r : Nat, (r : Int) < μ 106 18 → μ 119 r < μ 106 2
theorem TE.keep {lf : List Nat} (h : TE μ) (hw : mWF w) (F : mF lf w μ μ1) (h1 : lf.elem 106005 = false) (h2 : lf.elem 106006 = false) (h3 : lf.elem 110999 = false) : TE μ1 := sorry
theorem RR.keep {lf : List Nat} (h : RR μ) (hw : mWF w) (F : mF lf w μ μ1) (h1 : lf.elem 106002 = false) (h2 : lf.elem 106018 = false) (h3 : lf.elem 119999 = false) : RR μ1 := sorry
def RRn (μ : mM) (n : Int) : Prop := ∀ r : Nat, (r : Int) < n → μ 119 r < μ 106 2
theorem RRn.put {e z n m : Int} (h : RR μ) (u : mU μ 119 e.toNat z μ1) (qn : μ1 106 18 = n) (he : e = n ∧ 0 ≤ e) (qm : μ1 106 2 = m) (hz : z < m) : RRn μ1 (n + 1) := sorry
theorem RRn.fin {lf : List Nat} {n : Int} (h : RRn μ n) (hw : mWF w) (F : mF lf w μ μ1) (h1 : lf.elem 106002 = false) (h3 : lf.elem 119999 = false) (hn : μ1 106 18 ≤ n) : RR μ1 := sorry
/-! nothing picked, no candidate -/
theorem SC.frR {lf : List Nat} {rs : List (Int × Int)} {d t p : Int} (hw : mWF w) (F : mF lf w μ μ1) (h : (SCr.all fun r => !lf.elem r) = true) (G : mG rs μ μ1) (hr : ∀ r ∈ rs, r.2 ≤ 40 * rwOf μ d t p ∨ 40 * rwOf μ d t p + 40 ≤ r.1) : agr (SC μ d t p) μ μ1 := sorry
theorem SC.up {a k : Nat} {z d t p : Int} (u : mU μ a k z μ1) (h : ¬ SC μ d t p a k) : agr (SC μ d t p) μ μ1 := sorry
def UPg (l : Launch) (D : va_G) (c : Nat → ClassId) (H0 : Heap) (sa : Nat × Nat × (Nat → Int32)) (μ : mM) (E : Int → Int → Prop) : Prop := ∀ d p : Int, 0 ≤ d → d < μ 106 5 → 0 ≤ p → p < μ 106 2 → ¬ E d p → μ 161 (10 * d + p).toNat = -99999999 → NA l D c H0 sa μ d p
def UP (l : Launch) (D : va_G) (c : Nat → ClassId) (H0 : Heap) (sa : Nat × Nat × (Nat → Int32)) (μ : mM) : Prop := UPg l D c H0 sa μ fun _ _ => False
theorem UP.weak {E : Int → Int → Prop} (h : UP l D c H0 sa μ) : UPg l D c H0 sa μ E := sorry
theorem mD {w : mW} {μ : mM} (hw : mWF w) (hT : mT w μ) : (0 ≤ μ 106 2 ∧ μ 106 2 ≤ 10) ∧ (0 ≤ μ 106 5 ∧ μ 106 5 ≤ 10) ∧ (0 ≤ μ 106 6 ∧ μ 106 6 ≤ 20) := sorry
def upF (lf : List Nat) : Bool := !(lf.elem 106002) && (!(lf.elem 106005) && !(lf.elem 161999))
theorem NA.frB {lf : List Nat} {rs : List (Int × Int)} {d p : Int} (h : NA l D c H0 sa μ d p) (hp : 0 ≤ p ∧ p ≤ 9) (hw : mWF w) (h20 : μ 106 6 ≤ 20) (F : mF lf w μ μ1) (hl : (SCr.all fun r => !lf.elem r) = true) (h6 : lf.elem 106006 = false) (h39 : lf.elem 106039 = false) (G : mG rs μ μ1) (hr : ∀ r ∈ rs, r.2 ≤ 5200 ∨ 21200 ≤ r.1) : NA l D c H0 sa μ1 d p := sorry
theorem UPg.fr {lf : List Nat} {rs : List (Int × Int)} {E : Int → Int → Prop} (h : UPg l D c H0 sa μ E) (hw : mWF w) (hT : mT w μ1) (hu : upF lf = true) (F : mF lf w μ μ1) (hl : (SCr.all fun r => !lf.elem r) = true) (h6 : lf.elem 106006 = false) (h39 : lf.elem 106039 = false) (G : mG rs μ μ1) (hr : ∀ r ∈ rs, r.2 ≤ 5200 ∨ 21200 ≤ r.1) : UPg l D c H0 sa μ1 E := sorry
theorem UPg.look {lf : List Nat} {rs : List (Int × Int)} {E : Int → Int → Prop} {d p : Int} (h : UPg l D c H0 sa μ E) (hE : ∀ d' p', E d' p' → d' = d ∧ p' = p) (hd : 0 ≤ d ∧ d ≤ 9) (hp : 0 ≤ p ∧ p ≤ 9) (hw : mWF w) (hT : mT w μ) (h2 : lf.elem 106002 = false) (h5 : lf.elem 106005 = false) (F : mF lf w μ μ1) (hl : (SCr.all fun r => !lf.elem r) = true) (h6 : lf.elem 106006 = false) (h39 : lf.elem 106039 = false) (G : mG rs μ μ1) (hr : ∀ r ∈ rs, r.2 ≤ 5200 ∨ 21200 ≤ r.1) (pt : PT μ μ1 (10 * d + p).toNat) (na : μ1 161 (10 * d + p).toNat = -99999999 → NA l D c H0 sa μ1 d p) : UP l D c H0 sa μ1 := sorry
theorem UPg.lookAll {lf : List Nat} {rs : List (Int × Int)} {E : Int → Int → Prop} {d n : Int} (h : UPg l D c H0 sa μ E) (hE : ∀ d' p', E d' p' → d' = d) (hd : 0 ≤ d ∧ d ≤ 9) (qn : μ 106 2 = n) (hw : mWF w) (hT : mT w μ) (h2 : lf.elem 106002 = false) (h5 : lf.elem 106005 = false) (F : mF lf w μ μ1) (hl : (SCr.all fun r => !lf.elem r) = true) (h6 : lf.elem 106006 = false) (h39 : lf.elem 106039 = false) (G : mG rs μ μ1) (hr : ∀ r ∈ rs, r.2 ≤ 5200 ∨ 21200 ≤ r.1) (pd : PD μ μ1 d) (up : UPd l D c H0 sa μ1 d n) : UP l D c H0 sa μ1 := sorry
/-- for the domains below n -/
def UPn (l : Launch) (D : va_G) (c : Nat → ClassId) (H0 : Heap) (sa : Nat × Nat × (Nat → Int32)) (μ : mM) (n m : Int) : Prop := ∀ d : Int, 0 ≤ d → d < n → UPd l D c H0 sa μ d m
theorem UPn.zero {m : Int} : UPn l D c H0 sa μ 0 m := sorry
theorem UPn.step {lf : List Nat} {rs : List (Int × Int)} {d n : Int} (h : UPn l D c H0 sa μ d n) (hn : n ≤ 10) (hd : 0 ≤ d) (hw : mWF w) (hT : mT w μ) (F : mF lf w μ μ1) (hl : (SCr.all fun r => !lf.elem r) = true) (h6 : lf.elem 106006 = false) (h39 : lf.elem 106039 = false) (G : mG rs μ μ1) (hr : ∀ r ∈ rs, r.2 ≤ 5200 ∨ 21200 ≤ r.1) (pd : PD μ μ1 d) (up : UPd l D c H0 sa μ1 d n) : UPn l D c H0 sa μ1 (d + 1) n := sorry
theorem UPn.up {d n : Int} (h : UPn l D c H0 sa μ d n) (hd : μ 106 5 ≤ d) (hn : μ 106 2 ≤ n) : UP l D c H0 sa μ := sorry
/-- a row of what was heard changes -/
theorem UP.hear {lf : List Nat} {rs : List (Int × Int)} {t sd p s : Int} (h : UP l D c H0 sa μ) (hw : mWF w) (hT : mT w μ) (hu : upF lf = true) (F : mF lf w μ μ1) (hl : (SCr.all fun r => !lf.elem r) = true) (h6 : lf.elem 106006 = false) (h39 : lf.elem 106039 = false) (G : mG rs μ μ1) (hr : ∀ r ∈ rs, 40 * (130 + s) ≤ r.1 ∧ r.2 ≤ 40 * (130 + s) + 40) (hs : s = (2 * t + sd) * 10 + p) (ht : 0 ≤ t) (hp : 0 ≤ p ∧ p ≤ 9) (hsd : sd = 0 ∨ sd = 1) : UPg l D c H0 sa μ1 fun d' p' => d' = μ 110 (2 * t + sd).toNat ∧ p' = p := sorry
/-- a tie's policy changes -/
theorem UP.use {e z t sd way d : Int} (h : UP l D c H0 sa μ) (u : mU μ 115 e.toNat z μ1) (he : e = 4 * t + 2 * sd + way) (ht : 0 ≤ t) (hsd : sd = 0 ∨ sd = 1) (hway : way = 0 ∨ way = 1) (qd' : μ1 110 (2 * t + sd).toNat = d) : UPg l D c H0 sa μ1 fun d' _ => way = 0 ∧ d' = d := sorry
theorem UPg.none {E : Int → Int → Prop} (h : UPg l D c H0 sa μ E) (hE : ∀ d p, ¬ E d p) : UP l D c H0 sa μ := sorry
/-! but for one tie -/
def UPx (l : Launch) (D : va_G) (c : Nat → ClassId) (H0 : Heap) (sa : Nat × Nat × (Nat → Int32)) (μ : mM) (t : Int) : Prop := ∀ d p : Int, 0 ≤ d → d < μ 106 5 → 0 ≤ p → p < μ 106 2 → μ 161 (10 * d + p).toNat = -99999999 → ∀ t' : Int, 0 ≤ t' → t' < μ 106 6 → ¬ t' = t → (μ 110 (2 * t').toNat = d ∨ μ 110 (2 * t' + 1).toNat = d) → NZ l D c H0 sa μ d t' p
theorem UP.x {t : Int} (h : UP l D c H0 sa μ) : UPx l D c H0 sa μ t := sorry
theorem UPx.tie {t z : Int} (h : UPx l D c H0 sa μ t) (u : mU μ 112 t.toNat z μ1) (ht : 0 ≤ t) : UPx l D c H0 sa μ1 t := sorry
theorem UPx.fr {lf : List Nat} {rs : List (Int × Int)} {t : Int} (h : UPx l D c H0 sa μ t) (hw : mWF w) (hT : mT w μ1) (ht : 0 ≤ t) (hu : upF lf = true) (F : mF lf w μ μ1) (hl : (SCr.all fun r => !lf.elem r) = true) (h6 : lf.elem 106006 = false) (h39 : lf.elem 106039 = false) (G : mG rs μ μ1) (hr : ∀ r ∈ rs, r.2 ≤ 5200 ∨ 21200 ≤ r.1 ∨ (40 * (130 + 20 * t) ≤ r.1 ∧ r.2 ≤ 40 * (130 + 20 * t) + 800)) : UPx l D c H0 sa μ1 t := sorry
theorem UPx.all {t : Int} (h : UPx l D c H0 sa μ t) (hw : mWF w) (hT : mT w μ) (hI : PK μ) (hn : ∀ s : Int, 20 * t ≤ s → s < 20 * t + 20 → μ 126 (40 * (130 + s)).toNat < 0) : UP l D c H0 sa μ := sorry
/-! a tie falls -/
def RD (μ : mM) (t n : Int) : Prop := (∀ s : Int, 0 ≤ s → s ≤ 399 → ¬ s / 20 = t → (0 ≤ μ 157 s.toNat ∨ 0 ≤ μ 159 s.toNat → s % 10 < μ 106 2 ∧ ¬ μ 112 (s / 20).toNat = 0) ∧ (0 ≤ μ 126 (40 * (130 + s)).toNat → s < 20 * μ 106 6 ∧ s % 10 < μ 106 2 ∧ ¬ μ 112 (s / 20).toNat = 0)) ∧ ∀ s : Int, 20 * t ≤ s → s < n → μ 157 s.toNat < 0 ∧ μ 159 s.toNat < 0 ∧ μ 126 (40 * (130 + s)).toNat < 0
theorem RD.begin {t z : Int} (h : EP μ) (k : HP μ) (ht : 0 ≤ t) (u : mU μ 112 t.toNat z μ1) : RD μ1 t (20 * t) := sorry
def one (μ μ1 : mM) (a : Nat) (k : Int) : Prop := ∀ j : Nat, ¬ (j : Int) = k → μ1 a j = μ a j
theorem one.refl {a : Nat} {k : Int} : one μ μ a k := sorry
theorem one.up {μ2 : mM} {a : Nat} {k z : Int} (h : one μ μ1 a k) (h0 : 0 ≤ k) (u : mU μ1 a k.toNat z μ2) : one μ μ2 a k := sorry
theorem one.oth {μ2 : mM} {a b i : Nat} {k z : Int} (h : one μ μ1 a k) (u : mU μ1 b i z μ2) (hb : Nat.beq a b = false) : one μ μ2 a k := sorry
theorem one.fr {μ2 : mM} {lf : List Nat} {a : Nat} {k : Int} (h : one μ μ1 a k) (F : mF lf w μ1 μ2) (hA : mAt w a a) (hl : lf.elem (1000 * a + 999) = false) (hm : mArr a = true) : one μ μ2 a k := sorry
theorem RD.eq {t n m : Int} (h : RD μ t n) (e : n = m) : RD μ t m := sorry
theorem RD.step {lf : List Nat} {rs : List (Int × Int)} {t n x y v : Int} (h : RD μ t n) (hw : mWF w) (F : mF lf w μ μ1) (hl : hpF lf = true) (h0 : 0 ≤ t ∧ t ≤ 19) (hn : 20 * t ≤ n ∧ n < 20 * t + 20) (G : mG rs μ μ1) (hr : ∀ r ∈ rs, r.2 ≤ 5200 ∨ 21200 ≤ r.1 ∨ (40 * (130 + n) ≤ r.1 ∧ r.2 ≤ 40 * (130 + n) + 40)) (o1 : one μ μ1 157 n) (o2 : one μ μ1 159 n) (q1 : μ1 157 n.toNat = x) (hx : x < 0) (q2 : μ1 159 n.toNat = y) (hy : y < 0) (q3 : μ1 126 (40 * (130 + n)).toNat = v) (hv : v < 0) : RD μ1 t (n + 1) := sorry
theorem RD.ep {t n : Int} (h : RD μ t n) (hn : 20 * t + 20 ≤ n) : EP μ := sorry
theorem RD.hp {t n : Int} (h : RD μ t n) (hn : 20 * t + 20 ≤ n) : HP μ := sorry
theorem RD.no {t n : Int} (h : RD μ t n) (hn : 20 * t + 20 ≤ n) : ∀ s : Int, 20 * t ≤ s → s < 20 * t + 20 → μ 126 (40 * (130 + s)).toNat < 0 := sorry
/-- a tie that is down comes up: nothing was heard of it -/
theorem UP.rise {t z : Int} (h : UP l D c H0 sa μ) (k : HP μ) (hw : mWF w) (hT1 : mT w μ1) (hI : PK μ1) (ht : 0 ≤ t ∧ t ≤ 19) (u : mU μ 112 t.toNat z μ1) (hz : μ 112 t.toNat = 0 ∨ μ 112 t.toNat = z) : UP l D c H0 sa μ1 := sorry
/-! a new prefix -/
section PXS
variable {μa μb μc : mM} {n x y z : Int}
theorem PX.jc (h : JC l D c H0 sa μ) (rr : RR μ) (hw : mWF w) (hT : mT w μ) (q : μ 106 2 = n) (u1 : mU μ 108 n.toNat x μa) (u2 : mU μa 109 n.toNat y μb) (u3 : mU μb 106 2 z μc) (hz : n ≤ z) : JC l D c H0 sa μc := sorry
theorem PX.up (h : UP l D c H0 sa μ) (hp : HP μ) (rp : RP μ) (rr : RR μ) (hw : mWF w) (hT : mT w μ) (hTc : mT w μc) (pk : PK μc) (q : μ 106 2 = n) (u1 : mU μ 108 n.toNat x μa) (u2 : mU μa 109 n.toNat y μb) (u3 : mU μb 106 2 z μc) (hz : z = n + 1) : UP l D c H0 sa μc := sorry
theorem RR.grow {o : Int} (h : RR μ) (q : μ 106 2 = o) (u : mU μ 106 2 z μ1) (hz : o ≤ z) : RR μ1 := sorry
theorem RR.oth {a k : Nat} (h : RR μ) (u : mU μ a k z μ1) (ha : a = 108 ∨ a = 109) : RR μ1 := sorry
end PXS
/-! a new tie -/
def TI (μ μ1 : mM) (t : Int) : Prop := ∀ a i : Nat, ¬ ((a = 110 ∧ 2 * t ≤ (i : Int)) ∨ (a = 111 ∧ t ≤ (i : Int)) ∨ (a = 112 ∧ t ≤ (i : Int)) ∨ a = 113 ∨ a = 114 ∨ (a = 115 ∧ 4 * t ≤ (i : Int))) → μ1 a i = μ a i
theorem TI.refl {t : Int} : TI μ μ t := sorry
theorem TI.up {μ2 : mM} {a k : Nat} {z t : Int} (h : TI μ μ1 t) (u : mU μ1 a k z μ2) (hk : (a = 110 ∧ 2 * t ≤ (k : Int)) ∨ (a = 111 ∧ t ≤ (k : Int)) ∨ (a = 112 ∧ t ≤ (k : Int)) ∨ a = 113 ∨ a = 114 ∨ (a = 115 ∧ 4 * t ≤ (k : Int))) : TI μ μ2 t := sorry
section TIS
variable {μa : mM} {t z : Int}
theorem TI.hp (h : HP μ) (ti : TI μ μa t) (q : μ 106 6 = t) (u : mU μa 106 6 z μ1) (hz : z = t + 1) : HP μ1 := sorry
theorem TI.ep (h : EP μ) (ev : EV μ) (ti : TI μ μa t) (q : μ 106 6 = t) (u : mU μa 106 6 z μ1) : EP μ1 := sorry
theorem TI.te {x y n : Int} (h : TE μ) (ti : TI μ μa t) (q : μ 106 6 = t) (ht : 0 ≤ t) (u : mU μa 106 6 z μ1) (hz : z = t + 1) (q0 : μ1 110 (2 * t).toNat = x) (q1 : μ1 110 (2 * t + 1).toNat = y) (qn : μ1 106 5 = n) (hx : x < n ∧ y < n) : TE μ1 := sorry
theorem TI.upx (h : UP l D c H0 sa μ) (hp : HP μ) (ti : TI μ μa t) (hw : mWF w) (hT1 : mT w μ1) (pk : PK μ1) (q : μ 106 6 = t) (ht : 0 ≤ t) (u : mU μa 106 6 z μ1) (hz : z = t + 1) : UP l D c H0 sa μ1 := sorry
end TIS
/-- a new domain -/
theorem UP.dom (h : UP l D c H0 sa μ) (te : TE μ) (hw : mWF w) (hT1 : mT w μ1) (F : mF [106005] w μ μ1) (hd : μ 106 5 ≤ μ1 106 5) : UP l D c H0 sa μ1 := sorry
theorem TE.dom (te : TE μ) (hw : mWF w) (F : mF [106005] w μ μ1) (hd : μ 106 5 ≤ μ1 106 5) : TE μ1 := sorry
/-- tables of policies: above those that are there -/
theorem UP.tab {a k : Nat} {z n : Int} (h : UP l D c H0 sa μ) (u : mU μ a k z μ1) (q : μ1 106 39 = n) (ha : 127 ≤ a ∧ a ≤ 150) (hk : ((a = 127 ∨ a = 142) → n ≤ (k : Int)) ∧ ((a = 128 ∨ a = 129) → 31 * n ≤ (k : Int)) ∧ (132 ≤ a ∧ a ≤ 141 → 300 * n ≤ (k : Int)) ∧ ((a = 143 ∨ a = 144) → 41 * n ≤ (k : Int))) : UP l D c H0 sa μ1 := sorry
theorem UP.pol {z n : Int} (h : UP l D c H0 sa μ) (q : μ 106 39 = n) (u : mU μ 106 39 z μ1) (hz : n ≤ z) : UP l D c H0 sa μ1 := sorry
theorem UP.tabE {a : Nat} {e z n : Int} (h : UP l D c H0 sa μ) (u : mU μ a e.toNat z μ1) (q : μ1 106 39 = n) (ha : 127 ≤ a ∧ a ≤ 150) (he : 0 ≤ e) (hk : ((a = 127 ∨ a = 142) → n ≤ e) ∧ ((a = 128 ∨ a = 129) → 31 * n ≤ e) ∧ (132 ≤ a ∧ a ≤ 141 → 300 * n ≤ e) ∧ ((a = 143 ∨ a = 144) → 41 * n ≤ e)) : UP l D c H0 sa μ1 := sorry
/-! why -/
theorem UP.nz {t p d n m v e0 e1 k : Int} (h : UP l D c H0 sa μ) (te : TE μ) (ht : 0 ≤ t) (q6 : μ 106 6 = n) (htn : t < n) (q0 : μ 110 (2 * t).toNat = e0) (q1 : μ 110 (2 * t + 1).toNat = e1) (he : e0 = d ∨ e1 = d) (hd : 0 ≤ d) (hp : 0 ≤ p) (q2 : μ 106 2 = m) (hpm : p < m) (qk : μ 161 k.toNat = v) (hk : k = 10 * d + p) (hv : v = -99999999) : NZ l D c H0 sa μ d t p := sorry
set_option maxRecDepth 4000 in
theorem c_X12_candidate_z (hw : mWF w) (hT : mT w μ) {p1 : Int} (hp1 : 0 ≤ p1 ∧ p1 ≤ 9) {p2 : Int} (hp2 : 0 ≤ p2 ∧ p2 ≤ 19) {p3 : Int} (hp3 : 0 ≤ p3 ∧ p3 ≤ 9) {f_e0 : Int} (q_f_e0 : μ 110 ((2 * p2).toNat) = f_e0) {f_e1 : Int} (q_f_e1 : μ 110 (((2 * p2) + 1).toNat) = f_e1) {f_ties : Int} (q_f_ties : μ 106 6 = f_ties) (hq0 : p2 < f_ties) (hq1 : f_e0 = p1 ∨ f_e1 = p1) (hIJC : JC l D c H0 sa μ) (hIRP : RP μ) (hIPK : PK μ) (hnz : NZ l D c H0 sa μ p1 p2 p3) : sC (gG l D c H0 sa) mX12_candidate 7 0 0 [.ref 106, iv p1, iv p2, iv p3] (mk w μ) (qI w [106026, 106027, 106028, 106029, 106030, 106031, 126999, 151999, 152999, 153999] μ (fun z μ1 => ((-99999999) ≤ z ∧ z ≤ 10) ∧ mG [(((40 * p2) + 160), ((40 * p2) + 200))] μ μ1 ∧ JC l D c H0 sa μ1 ∧ RP μ1 ∧ (¬ z = 0) ∧ True)) := sorry
end UIS

end
section
/-! All that stands between the calls, of the reference. -/
section UIT
variable {l : Launch} {D : va_G} {c : Nat → ClassId} {H0 : Heap} {sa : Nat × Nat × (Nat → Int32)} {w : mW} {μ μ1 : mM}
def UI (l : Launch) (D : va_G) (c : Nat → ClassId) (H0 : Heap) (sa : Nat × Nat × (Nat → Int32)) (μ : mM) : Prop := JC l D c H0 sa μ ∧ RP μ ∧ EP μ ∧ HP μ ∧ UP l D c H0 sa μ ∧ TE μ ∧ RR μ
def uiA (a : Nat) : Bool := (Nat.ble 108 a && Nat.ble a 112) || (Nat.beq a 115 || ((Nat.ble 119 a && Nat.ble a 129) || ((Nat.ble 132 a && Nat.ble a 144) || (Nat.beq a 157 || (Nat.beq a 159 || Nat.beq a 161)))))
def uiI (i : Nat) : Bool := Nat.beq i 2 || (Nat.beq i 5 || (Nat.beq i 6 || (Nat.beq i 17 || (Nat.beq i 18 || ((Nat.ble 26 i && Nat.ble i 31) || Nat.beq i 39)))))
theorem UI.eq (h : UI l D c H0 sa μ) (e1 : ∀ i : Nat, uiI i = true → μ1 106 i = μ 106 i) (e2 : ∀ a i : Nat, uiA a = true → μ1 a i = μ a i) : UI l D c H0 sa μ1 := sorry
theorem UI.sm (h : UI l D c H0 sa μ) (s : sM_ μ μ1) : UI l D c H0 sa μ1 := sorry
theorem sM_.ofF {lf : List Nat} (hw : mWF w) (F : mF lf w μ μ1) (h : isC lf = true) : sM_ μ μ1 := sorry
/-- a step of the reference that touches nothing of it -/
def uiF (lf : List Nat) : Bool := lf.all fun x => !(Nat.ble 106000 x && Nat.blt x 107000 && uiI (x - 106000)) && !(uiA (x / 1000))
theorem UI.fr {lf : List Nat} (h : UI l D c H0 sa μ) (hw : mWF w) (F : mF lf w μ μ1) (hl : uiF lf = true) : UI l D c H0 sa μ1 := sorry
theorem UI.dom (h : UI l D c H0 sa μ) (hw : mWF w) (hT1 : mT w μ1) (F : mF [106005] w μ μ1) (hd : μ 106 5 ≤ μ1 106 5) : UI l D c H0 sa μ1 := sorry
end UIT

end
section
theorem dX12_why_0 : decode cX12_why 0 = .ok (.aload_n 0, 1) := sorry
theorem dX12_why_1 : decode cX12_why 1 = .ok (.iload_n 1, 1) := sorry
theorem dX12_why_2 : decode cX12_why 2 = .ok (.invokevirtual 66, 3) := sorry
theorem dX12_why_5 : decode cX12_why 5 = .ok (.ifCond .eq 20, 3) := sorry
theorem dX12_why_8 : decode cX12_why 8 = .ok (.iload_n 2, 1) := sorry
theorem dX12_why_9 : decode cX12_why 9 = .ok (.iconst 0, 1) := sorry
theorem dX12_why_10 : decode cX12_why 10 = .ok (.iconst 1, 1) := sorry
theorem dX12_why_11 : decode cX12_why 11 = .ok (.invokestatic 18, 3) := sorry
theorem dX12_why_14 : decode cX12_why 14 = .ok (.ifCond .eq 11, 3) := sorry
theorem dX12_why_17 : decode cX12_why 17 = .ok (.aload_n 0, 1) := sorry
theorem dX12_why_18 : decode cX12_why 18 = .ok (.iload_n 3, 1) := sorry
theorem dX12_why_19 : decode cX12_why 19 = .ok (.invokevirtual 92, 3) := sorry
theorem dX12_why_22 : decode cX12_why 22 = .ok (.ifCond .ne 5, 3) := sorry
theorem dX12_why_25 : decode cX12_why 25 = .ok (.iconst (-1), 1) := sorry
theorem dX12_why_26 : decode cX12_why 26 = .ok (.ireturn, 1) := sorry
theorem dX12_why_27 : decode cX12_why 27 = .ok (.aload_n 0, 1) := sorry
theorem dX12_why_28 : decode cX12_why 28 = .ok (.getfield 40, 3) := sorry
theorem dX12_why_31 : decode cX12_why 31 = .ok (.iconst 2, 1) := sorry
theorem dX12_why_32 : decode cX12_why 32 = .ok (.iload_n 1, 1) := sorry
theorem dX12_why_33 : decode cX12_why 33 = .ok (.imul, 1) := sorry
theorem dX12_why_34 : decode cX12_why 34 = .ok (.iload_n 2, 1) := sorry
theorem dX12_why_35 : decode cX12_why 35 = .ok (.iadd, 1) := sorry
theorem dX12_why_36 : decode cX12_why 36 = .ok (.iaload, 1) := sorry
theorem dX12_why_37 : decode cX12_why 37 = .ok (.istore 4, 2) := sorry
theorem dX12_why_39 : decode cX12_why 39 = .ok (.aload_n 0, 1) := sorry
theorem dX12_why_40 : decode cX12_why 40 = .ok (.sipush 130, 3) := sorry
theorem dX12_why_43 : decode cX12_why 43 = .ok (.iload_n 1, 1) := sorry
theorem dX12_why_44 : decode cX12_why 44 = .ok (.iload_n 2, 1) := sorry
theorem dX12_why_45 : decode cX12_why 45 = .ok (.iload_n 3, 1) := sorry
theorem dX12_why_46 : decode cX12_why 46 = .ok (.invokestatic 545, 3) := sorry
theorem dX12_why_49 : decode cX12_why 49 = .ok (.iadd, 1) := sorry
theorem dX12_why_50 : decode cX12_why 50 = .ok (.invokevirtual 151, 3) := sorry
theorem dX12_why_53 : decode cX12_why 53 = .ok (.ifCond .ne 6, 3) := sorry
theorem dX12_why_56 : decode cX12_why 56 = .ok (.ldc 29, 2) := sorry
theorem dX12_why_58 : decode cX12_why 58 = .ok (.ireturn, 1) := sorry
theorem dX12_why_59 : decode cX12_why 59 = .ok (.bipush 10, 2) := sorry
theorem dX12_why_61 : decode cX12_why 61 = .ok (.iload 4, 2) := sorry
theorem dX12_why_63 : decode cX12_why 63 = .ok (.imul, 1) := sorry
theorem dX12_why_64 : decode cX12_why 64 = .ok (.iload_n 3, 1) := sorry
theorem dX12_why_65 : decode cX12_why 65 = .ok (.iadd, 1) := sorry
theorem dX12_why_66 : decode cX12_why 66 = .ok (.istore 5, 2) := sorry
theorem dX12_why_68 : decode cX12_why 68 = .ok (.aload_n 0, 1) := sorry
theorem dX12_why_69 : decode cX12_why 69 = .ok (.getfield 445, 3) := sorry
theorem dX12_why_72 : decode cX12_why 72 = .ok (.iload 5, 2) := sorry
theorem dX12_why_74 : decode cX12_why 74 = .ok (.iaload, 1) := sorry
theorem dX12_why_75 : decode cX12_why 75 = .ok (.iload_n 1, 1) := sorry
theorem dX12_why_76 : decode cX12_why 76 = .ok (.if_icmp .ne 5, 3) := sorry
theorem dX12_why_79 : decode cX12_why 79 = .ok (.iconst 0, 1) := sorry
theorem dX12_why_80 : decode cX12_why 80 = .ok (.ireturn, 1) := sorry
theorem dX12_why_81 : decode cX12_why 81 = .ok (.aload_n 0, 1) := sorry
theorem dX12_why_82 : decode cX12_why 82 = .ok (.getfield 445, 3) := sorry
theorem dX12_why_85 : decode cX12_why 85 = .ok (.iload 5, 2) := sorry
theorem dX12_why_87 : decode cX12_why 87 = .ok (.iaload, 1) := sorry
theorem dX12_why_88 : decode cX12_why 88 = .ok (.bipush (-4), 2) := sorry
theorem dX12_why_90 : decode cX12_why 90 = .ok (.if_icmp .ne 6, 3) := sorry
theorem dX12_why_93 : decode cX12_why 93 = .ok (.bipush 8, 2) := sorry
theorem dX12_why_95 : decode cX12_why 95 = .ok (.ireturn, 1) := sorry
theorem dX12_why_96 : decode cX12_why 96 = .ok (.aload_n 0, 1) := sorry
theorem dX12_why_97 : decode cX12_why 97 = .ok (.iload 4, 2) := sorry
theorem dX12_why_99 : decode cX12_why 99 = .ok (.iload_n 1, 1) := sorry
theorem dX12_why_100 : decode cX12_why 100 = .ok (.iload_n 3, 1) := sorry
theorem dX12_why_101 : decode cX12_why 101 = .ok (.invokevirtual 565, 3) := sorry
theorem dX12_why_104 : decode cX12_why 104 = .ok (.istore 6, 2) := sorry
theorem dX12_why_106 : decode cX12_why 106 = .ok (.iload 6, 2) := sorry
theorem dX12_why_108 : decode cX12_why 108 = .ok (.ifCond .eq 6, 3) := sorry
theorem dX12_why_111 : decode cX12_why 111 = .ok (.iload 6, 2) := sorry
theorem dX12_why_113 : decode cX12_why 113 = .ok (.ireturn, 1) := sorry
theorem dX12_why_114 : decode cX12_why 114 = .ok (.aload_n 0, 1) := sorry
theorem dX12_why_115 : decode cX12_why 115 = .ok (.getfield 445, 3) := sorry
theorem dX12_why_118 : decode cX12_why 118 = .ok (.iload 5, 2) := sorry
theorem dX12_why_120 : decode cX12_why 120 = .ok (.iaload, 1) := sorry
theorem dX12_why_121 : decode cX12_why 121 = .ok (.istore 7, 2) := sorry
theorem dX12_why_123 : decode cX12_why 123 = .ok (.aload_n 0, 1) := sorry
theorem dX12_why_124 : decode cX12_why 124 = .ok (.iload 4, 2) := sorry
theorem dX12_why_126 : decode cX12_why 126 = .ok (.iconst 4, 1) := sorry
theorem dX12_why_127 : decode cX12_why 127 = .ok (.iload_n 1, 1) := sorry
theorem dX12_why_128 : decode cX12_why 128 = .ok (.iadd, 1) := sorry
theorem dX12_why_129 : decode cX12_why 129 = .ok (.iload_n 1, 1) := sorry
theorem dX12_why_130 : decode cX12_why 130 = .ok (.bipush 30, 2) := sorry
theorem dX12_why_132 : decode cX12_why 132 = .ok (.iload 5, 2) := sorry
theorem dX12_why_134 : decode cX12_why 134 = .ok (.iadd, 1) := sorry
theorem dX12_why_135 : decode cX12_why 135 = .ok (.iload 7, 2) := sorry
theorem dX12_why_137 : decode cX12_why 137 = .ok (.iload_n 3, 1) := sorry
theorem dX12_why_138 : decode cX12_why 138 = .ok (.invokevirtual 549, 3) := sorry
theorem dX12_why_141 : decode cX12_why 141 = .ok (.istore 8, 2) := sorry
theorem dX12_why_143 : decode cX12_why 143 = .ok (.iload 8, 2) := sorry
theorem dX12_why_145 : decode cX12_why 145 = .ok (.ifCond .ne 8, 3) := sorry
theorem dX12_why_148 : decode cX12_why 148 = .ok (.bipush 7, 2) := sorry
theorem dX12_why_150 : decode cX12_why 150 = .ok (.goto 16, 3) := sorry
theorem dX12_why_153 : decode cX12_why 153 = .ok (.iload 8, 2) := sorry
theorem dX12_why_155 : decode cX12_why 155 = .ok (.ifCond .ge 9, 3) := sorry
theorem dX12_why_158 : decode cX12_why 158 = .ok (.iload 8, 2) := sorry
theorem dX12_why_160 : decode cX12_why 160 = .ok (.ineg, 1) := sorry
theorem dX12_why_161 : decode cX12_why 161 = .ok (.goto 5, 3) := sorry
theorem dX12_why_164 : decode cX12_why 164 = .ok (.iload 8, 2) := sorry
theorem dX12_why_166 : decode cX12_why 166 = .ok (.ireturn, 1) := sorry
end
section
set_option maxRecDepth 4000 in
set_option maxHeartbeats 4000000 in
theorem c_X12_isSo_u {l : Launch} {D : va_G} {c : Nat → ClassId} {H0 : Heap} {sa : Nat × Nat × (Nat → Int32)} {w : mW} {μ : mM} (hw : mWF w) (hT : mT w μ) {p1 : Int} (hp1 : 0 ≤ p1 ∧ p1 ≤ 11) {p2 : Int} (hp2 : 0 ≤ p2 ∧ p2 ≤ 3899) {p3 : Int} (hp3 : 0 ≤ p3 ∧ p3 ≤ 2099) {p4 : Int} (hp4 : (-2147483648) ≤ p4 ∧ p4 ≤ 2147483647) {p5 : Int} (hp5 : (-2147483648) ≤ p5 ∧ p5 ≤ 2147483647) {g1 : Int} (hg1 : 0 ≤ g1 ∧ g1 ≤ 19) {f_e0 : Int} (q_f_e0 : μ 110 ((2 * g1).toNat) = f_e0) {f_e1 : Int} (q_f_e1 : μ 110 (((2 * g1) + 1).toNat) = f_e1) {f_ties : Int} (q_f_ties : μ 106 6 = f_ties) {f_x : Int} (q_f_x : μ 126 ((40 * p3).toNat) = f_x) {f_pre : Int} (q_f_pre : μ 106 2 = f_pre) (hq0 : g1 < f_ties) (hq1 : (f_e0 = p4 ∧ f_e1 = p5) ∨ (f_e0 = p5 ∧ f_e1 = p4)) (hq2 : 0 ≤ f_x) (hq3 : f_x < f_pre) (hIJC : JC l D c H0 sa μ) : sC (gG l D c H0 sa) mX12_isSo 5 0 0 [.ref 106, iv p1, iv p2, iv p3, iv p4, iv p5] (mk w μ) (qI w [106026, 106027, 106028, 106029, 106030, 106031] μ (fun z μ1 => (0 ≤ z ∧ z ≤ 1) ∧ JC l D c H0 sa μ1 ∧ True)) := sorry
set_option maxRecDepth 4000 in
set_option maxHeartbeats 4000000 in
theorem c_X12_through_u {l : Launch} {D : va_G} {c : Nat → ClassId} {H0 : Heap} {sa : Nat × Nat × (Nat → Int32)} {w : mW} {μ : mM} (hw : mWF w) (hT : mT w μ) {p1 : Int} (hp1 : (-2147483648) ≤ p1 ∧ p1 ≤ 2147483647) {p2 : Int} (hp2 : 0 ≤ p2 ∧ p2 ≤ 2099) {p3 : Int} (hp3 : (-2147483648) ≤ p3 ∧ p3 ≤ 2147483647) {p4 : Int} (hp4 : (-2147483648) ≤ p4 ∧ p4 ≤ 2147483647) {g1 : Int} (hg1 : 0 ≤ g1 ∧ g1 ≤ 19) {f_e0 : Int} (q_f_e0 : μ 110 ((2 * g1).toNat) = f_e0) {f_e1 : Int} (q_f_e1 : μ 110 (((2 * g1) + 1).toNat) = f_e1) {f_ties : Int} (q_f_ties : μ 106 6 = f_ties) {f_x : Int} (q_f_x : μ 126 ((40 * p2).toNat) = f_x) {f_pol : Int} (q_f_pol : μ 106 39 = f_pol) {f_pre : Int} (q_f_pre : μ 106 2 = f_pre) (hq0 : g1 < f_ties) (hq1 : (f_e0 = p3 ∧ f_e1 = p4) ∨ (f_e0 = p4 ∧ f_e1 = p3)) (hq2 : 0 ≤ f_x) (hq3 : p1 = -99999999 ∨ (0 ≤ p1 ∧ p1 < f_pol)) (hq4 : f_x < f_pre) (hIJC : JC l D c H0 sa μ) (hIPK : PK μ) : sC (gG l D c H0 sa) mX12_through 6 0 0 [.ref 106, iv p1, iv p2, iv p3, iv p4] (mk w μ) (qI w [106026, 106027, 106028, 106029, 106030, 106031, 126999, 151999, 152999, 153999] μ (fun z μ1 => ∃ o_x : Int, μ1 126 ((40 * p2).toNat) = o_x ∧ (0 ≤ z ∧ z ≤ 1) ∧ mG [(((40 * p2) + 1), ((40 * p2) + 40))] μ μ1 ∧ JC l D c H0 sa μ1 ∧ (o_x = f_x) ∧ True)) := sorry
set_option maxRecDepth 4000 in
set_option maxHeartbeats 4000000 in
theorem c_X12_say_u {l : Launch} {D : va_G} {c : Nat → ClassId} {H0 : Heap} {sa : Nat × Nat × (Nat → Int32)} {w : mW} {μ : mM} (hw : mWF w) (hT : mT w μ) {p1 : Int} (hp1 : 0 ≤ p1 ∧ p1 ≤ 9) {p2 : Int} (hp2 : 0 ≤ p2 ∧ p2 ≤ 19) {p3 : Int} (hp3 : 0 ≤ p3 ∧ p3 ≤ 9) {f_e0 : Int} (q_f_e0 : μ 110 ((2 * p2).toNat) = f_e0) {f_e1 : Int} (q_f_e1 : μ 110 (((2 * p2) + 1).toNat) = f_e1) {f_ties : Int} (q_f_ties : μ 106 6 = f_ties) {f_pre : Int} (q_f_pre : μ 106 2 = f_pre) {f_up : Int} (q_f_up : μ 112 (p2.toNat) = f_up) (hq0 : p2 < f_ties) (hq1 : f_e0 = p1 ∨ f_e1 = p1) (hq2 : p3 < f_pre) (hq3 : 0 < f_up) (hIJC : JC l D c H0 sa μ) (hIRP : RP μ) (hIEP : EP μ) (hIG1 : G1 μ) (hIEV : EV μ) (hIPK : PK μ) : sC (gG l D c H0 sa) mX12_say 7 0 0 [.ref 106, iv p1, iv p2, iv p3] (mk w μ) (qV w [106026, 106027, 106028, 106029, 106030, 106031, 106072, 126999, 151999, 152999, 153999, 155999, 156999, 157999, 158999, 159999, 160999] μ (fun μ1 => mG [(80, 120), (21200, 53200)] μ μ1 ∧ JC l D c H0 sa μ1 ∧ RP μ1 ∧ EP μ1 ∧ G1 μ1 ∧ EV μ1 ∧ True)) := sorry
end
section
set_option maxRecDepth 4000 in
set_option maxHeartbeats 4000000 in
theorem c_X12_sayAll_u {l : Launch} {D : va_G} {c : Nat → ClassId} {H0 : Heap} {sa : Nat × Nat × (Nat → Int32)} {w : mW} {μ : mM} (hw : mWF w) (hT : mT w μ) {p1 : Int} (hp1 : 0 ≤ p1 ∧ p1 ≤ 9) {p2 : Int} (hp2 : 0 ≤ p2 ∧ p2 ≤ 19) {f_e0 : Int} (q_f_e0 : μ 110 ((2 * p2).toNat) = f_e0) {f_e1 : Int} (q_f_e1 : μ 110 (((2 * p2) + 1).toNat) = f_e1) {f_ties : Int} (q_f_ties : μ 106 6 = f_ties) (hq0 : p2 < f_ties) (hq1 : f_e0 = p1 ∨ f_e1 = p1) (hIJC : JC l D c H0 sa μ) (hIRP : RP μ) (hIEP : EP μ) (hIG1 : G1 μ) (hIEV : EV μ) (hIPK : PK μ) : sC (gG l D c H0 sa) mX12_sayAll 8 0 0 [.ref 106, iv p1, iv p2] (mk w μ) (qV w [106026, 106027, 106028, 106029, 106030, 106031, 106072, 126999, 151999, 152999, 153999, 155999, 156999, 157999, 158999, 159999, 160999] μ (fun μ1 => mG [(80, 120), (21200, 53200)] μ μ1 ∧ JC l D c H0 sa μ1 ∧ RP μ1 ∧ EP μ1 ∧ G1 μ1 ∧ EV μ1 ∧ True)) := sorry
set_option maxRecDepth 4000 in
set_option maxHeartbeats 4000000 in
theorem c_X12_pick_u {l : Launch} {D : va_G} {c : Nat → ClassId} {H0 : Heap} {sa : Nat × Nat × (Nat → Int32)} {w : mW} {μ : mM} (hw : mWF w) (hT : mT w μ) {p1 : Int} (hp1 : 0 ≤ p1 ∧ p1 ≤ 9) {p2 : Int} (hp2 : 0 ≤ p2 ∧ p2 ≤ 9) {f_ties : Int} (q_f_ties : μ 106 6 = f_ties) (hIJC : JC l D c H0 sa μ) (hIRP : RP μ) (hIPK : PK μ) : sC (gG l D c H0 sa) mX12_pick 9 0 0 [.ref 106, iv p1, iv p2] (mk w μ) (qI w [106026, 106027, 106028, 106029, 106030, 106031, 126999, 151999, 152999, 153999, 165999] μ (fun z μ1 => ((-99999999) ≤ z ∧ z ≤ 19) ∧ mG [(160, 960)] μ μ1 ∧ JC l D c H0 sa μ1 ∧ RP μ1 ∧ (z = -99999999 ∨ (0 ≤ z ∧ z ≤ 19)) ∧ (z = -99999999 ∨ 0 ≤ μ1 126 (160 + 40 * z).toNat) ∧ (z = -99999999 → NA l D c H0 sa μ1 p1 p2) ∧ True)) := sorry
set_option maxRecDepth 4000 in
set_option maxHeartbeats 4000000 in
theorem c_X12_look_u {l : Launch} {D : va_G} {c : Nat → ClassId} {H0 : Heap} {sa : Nat × Nat × (Nat → Int32)} {w : mW} {μ : mM} (hw : mWF w) (hT : mT w μ) {p1 : Int} (hp1 : 0 ≤ p1 ∧ p1 ≤ 9) {p2 : Int} (hp2 : 0 ≤ p2 ∧ p2 ≤ 9) {f_pre : Int} (q_f_pre : μ 106 2 = f_pre) (hq0 : p2 < f_pre) (hIJC : JC l D c H0 sa μ) (hIRP : RP μ) (hIEP : EP μ) (hIG1 : G1 μ) (hIEV : EV μ) (hIPK : PK μ) : sC (gG l D c H0 sa) mX12_look 10 0 0 [.ref 106, iv p1, iv p2] (mk w μ) (qV w [106026, 106027, 106028, 106029, 106030, 106031, 106072, 126999, 151999, 152999, 153999, 155999, 156999, 157999, 158999, 159999, 160999, 161999, 165999] μ (fun μ1 => mG [(80, 960), ((40 * (30 + ((10 * p1) + p2))), ((40 * (30 + ((10 * p1) + p2))) + 40)), (21200, 53200)] μ μ1 ∧ JC l D c H0 sa μ1 ∧ RP μ1 ∧ EP μ1 ∧ G1 μ1 ∧ EV μ1 ∧ (μ1 161 (10 * p1 + p2).toNat = -99999999 → NA l D c H0 sa μ1 p1 p2) ∧ (PT μ μ1 (10 * p1 + p2).toNat) ∧ True)) := sorry
set_option maxRecDepth 4000 in
set_option maxHeartbeats 4000000 in
theorem c_X12_lookAll_u {l : Launch} {D : va_G} {c : Nat → ClassId} {H0 : Heap} {sa : Nat × Nat × (Nat → Int32)} {w : mW} {μ : mM} (hw : mWF w) (hT : mT w μ) {p1 : Int} (hp1 : 0 ≤ p1 ∧ p1 ≤ 9) {f_pre : Int} (q_f_pre : μ 106 2 = f_pre) (hIJC : JC l D c H0 sa μ) (hIRP : RP μ) (hIEP : EP μ) (hIG1 : G1 μ) (hIEV : EV μ) (hIPK : PK μ) : sC (gG l D c H0 sa) mX12_lookAll 11 0 0 [.ref 106, iv p1] (mk w μ) (qV w [106026, 106027, 106028, 106029, 106030, 106031, 106072, 126999, 151999, 152999, 153999, 155999, 156999, 157999, 158999, 159999, 160999, 161999, 165999] μ (fun μ1 => mG [(80, 960), (((400 * p1) + 1200), ((400 * p1) + 1600)), (21200, 53200)] μ μ1 ∧ JC l D c H0 sa μ1 ∧ RP μ1 ∧ EP μ1 ∧ G1 μ1 ∧ EV μ1 ∧ (UPd l D c H0 sa μ1 p1 f_pre) ∧ (PD μ μ1 p1) ∧ True)) := sorry
end
section
set_option maxRecDepth 4000 in
set_option maxHeartbeats 4000000 in
theorem c_X12_rethink_u {l : Launch} {D : va_G} {c : Nat → ClassId} {H0 : Heap} {sa : Nat × Nat × (Nat → Int32)} {w : mW} {μ : mM} (hw : mWF w) (hT : mT w μ) {f_pre : Int} (q_f_pre : μ 106 2 = f_pre) (hIJC : JC l D c H0 sa μ) (hIRP : RP μ) (hIEP : EP μ) (hIG1 : G1 μ) (hIEV : EV μ) (hIPK : PK μ) : sC (gG l D c H0 sa) mX12_rethink 12 0 0 [.ref 106] (mk w μ) (qV w [106026, 106027, 106028, 106029, 106030, 106031, 106072, 126999, 151999, 152999, 153999, 155999, 156999, 157999, 158999, 159999, 160999, 161999, 165999] μ (fun μ1 => mG [(80, 5200), (21200, 53200)] μ μ1 ∧ JC l D c H0 sa μ1 ∧ RP μ1 ∧ EP μ1 ∧ G1 μ1 ∧ EV μ1 ∧ (UP l D c H0 sa μ1) ∧ True)) := sorry
set_option maxRecDepth 4000 in
set_option maxHeartbeats 4000000 in
theorem c_X12_today_u {l : Launch} {D : va_G} {c : Nat → ClassId} {H0 : Heap} {sa : Nat × Nat × (Nat → Int32)} {w : mW} {μ : mM} (hw : mWF w) (hT : mT w μ) {p1 : Int} (hp1 : (-2147483648) ≤ p1 ∧ p1 ≤ 2147483647) (hIJC : JC l D c H0 sa μ) (hIRP : RP μ) (hIEP : EP μ) (hIHP : HP μ) (hIUP : UP l D c H0 sa μ) (hIG1 : G1 μ) (hIEV : EV μ) (hIPK : PK μ) : sC (gG l D c H0 sa) mX12_today 13 0 0 [.ref 106, iv p1] (mk w μ) (qI w [106017, 106026, 106027, 106028, 106029, 106030, 106031, 106072, 126999, 151999, 152999, 153999, 155999, 156999, 157999, 158999, 159999, 160999, 161999, 165999] μ (fun z μ1 => ((-2147483648) ≤ z ∧ z ≤ 2147483647) ∧ JC l D c H0 sa μ1 ∧ RP μ1 ∧ EP μ1 ∧ HP μ1 ∧ UP l D c H0 sa μ1 ∧ G1 μ1 ∧ EV μ1 ∧ True)) := sorry
set_option maxRecDepth 4000 in
set_option maxHeartbeats 4000000 in
theorem c_X12_strike_u {l : Launch} {D : va_G} {c : Nat → ClassId} {H0 : Heap} {sa : Nat × Nat × (Nat → Int32)} {w : mW} {μ : mM} (hw : mWF w) (hT : mT w μ) {p1 : Int} (hp1 : (-2147483648) ≤ p1 ∧ p1 ≤ 2147483647) {p2 : Int} (hp2 : (-2147483648) ≤ p2 ∧ p2 ≤ 2147483647) (hIJC : JC l D c H0 sa μ) (hIRP : RP μ) (hIEP : EP μ) (hIHP : HP μ) (hIUP : UP l D c H0 sa μ) (hIG1 : G1 μ) (hIEV : EV μ) (hIPK : PK μ) : sC (gG l D c H0 sa) mX12_strike 13 0 0 [.ref 106, iv p1, iv p2] (mk w μ) (qI w [106026, 106027, 106028, 106029, 106030, 106031, 106072, 125999, 126999, 151999, 152999, 153999, 155999, 156999, 157999, 158999, 159999, 160999, 161999, 165999] μ (fun z μ1 => ((-2147483648) ≤ z ∧ z ≤ 2147483647) ∧ JC l D c H0 sa μ1 ∧ RP μ1 ∧ EP μ1 ∧ HP μ1 ∧ UP l D c H0 sa μ1 ∧ G1 μ1 ∧ EV μ1 ∧ True)) := sorry
set_option maxRecDepth 4000 in
set_option maxHeartbeats 4000000 in
theorem c_X12_announce_u {l : Launch} {D : va_G} {c : Nat → ClassId} {H0 : Heap} {sa : Nat × Nat × (Nat → Int32)} {w : mW} {μ : mM} (hw : mWF w) (hT : mT w μ) {p1 : Int} (hp1 : (-2147483648) ≤ p1 ∧ p1 ≤ 2147483647) {p2 : Int} (hp2 : (-2147483648) ≤ p2 ∧ p2 ≤ 2147483647) {p3 : Int} (hp3 : (-2147483648) ≤ p3 ∧ p3 ≤ 2147483647) (hIJC : JC l D c H0 sa μ) (hIRP : RP μ) (hIEP : EP μ) (hIHP : HP μ) (hIUP : UP l D c H0 sa μ) (hIG1 : G1 μ) (hIEV : EV μ) (hIPK : PK μ) : sC (gG l D c H0 sa) mX12_announce 11 0 0 [.ref 106, iv p1, iv p2, iv p3] (mk w μ) (qI w [106026, 106027, 106028, 106029, 106030, 106031, 106072, 126999, 151999, 152999, 153999, 155999, 156999, 157999, 158999, 159999, 160999, 161999, 162999, 165999] μ (fun z μ1 => ((-2147483648) ≤ z ∧ z ≤ 2147483647) ∧ JC l D c H0 sa μ1 ∧ RP μ1 ∧ EP μ1 ∧ HP μ1 ∧ UP l D c H0 sa μ1 ∧ G1 μ1 ∧ EV μ1 ∧ True)) := sorry
set_option maxRecDepth 4000 in
set_option maxHeartbeats 4000000 in
theorem c_X12_withdraw_u {l : Launch} {D : va_G} {c : Nat → ClassId} {H0 : Heap} {sa : Nat × Nat × (Nat → Int32)} {w : mW} {μ : mM} (hw : mWF w) (hT : mT w μ) {p1 : Int} (hp1 : (-2147483648) ≤ p1 ∧ p1 ≤ 2147483647) {p2 : Int} (hp2 : (-2147483648) ≤ p2 ∧ p2 ≤ 2147483647) (hIJC : JC l D c H0 sa μ) (hIRP : RP μ) (hIEP : EP μ) (hIHP : HP μ) (hIUP : UP l D c H0 sa μ) (hIG1 : G1 μ) (hIEV : EV μ) (hIPK : PK μ) : sC (gG l D c H0 sa) mX12_withdraw 11 0 0 [.ref 106, iv p1, iv p2] (mk w μ) (qI w [106026, 106027, 106028, 106029, 106030, 106031, 106072, 126999, 151999, 152999, 153999, 155999, 156999, 157999, 158999, 159999, 160999, 161999, 162999, 165999] μ (fun z μ1 => ((-2147483648) ≤ z ∧ z ≤ 2147483647) ∧ JC l D c H0 sa μ1 ∧ RP μ1 ∧ EP μ1 ∧ HP μ1 ∧ UP l D c H0 sa μ1 ∧ G1 μ1 ∧ EV μ1 ∧ True)) := sorry
set_option maxRecDepth 4000 in
set_option maxHeartbeats 4000000 in
theorem c_X12_rule_u {l : Launch} {D : va_G} {c : Nat → ClassId} {H0 : Heap} {sa : Nat × Nat × (Nat → Int32)} {w : mW} {μ : mM} (hw : mWF w) (hT : mT w μ) {p1 : Int} (hp1 : (-2147483648) ≤ p1 ∧ p1 ≤ 2147483647) {p2 : Int} (hp2 : (-2147483648) ≤ p2 ∧ p2 ≤ 2147483647) {p3 : Int} (hp3 : 0 ≤ p3 ∧ p3 ≤ 1) (hIJC : JC l D c H0 sa μ) (hIRP : RP μ) (hIEP : EP μ) (hIHP : HP μ) (hIUP : UP l D c H0 sa μ) (hIG1 : G1 μ) (hIEV : EV μ) (hIPK : PK μ) : sC (gG l D c H0 sa) mX12_rule 12 0 0 [.ref 106, iv p1, iv p2, iv p3] (mk w μ) (qI w [106026, 106027, 106028, 106029, 106030, 106031, 106072, 126999, 151999, 152999, 153999, 155999, 156999, 157999, 158999, 159999, 160999, 161999, 163999, 164999, 165999] μ (fun z μ1 => ((-2147483648) ≤ z ∧ z ≤ 2147483647) ∧ JC l D c H0 sa μ1 ∧ RP μ1 ∧ EP μ1 ∧ HP μ1 ∧ UP l D c H0 sa μ1 ∧ G1 μ1 ∧ EV μ1 ∧ True)) := sorry
set_option maxRecDepth 4000 in
set_option maxHeartbeats 4000000 in
theorem c_X12_raise_u {l : Launch} {D : va_G} {c : Nat → ClassId} {H0 : Heap} {sa : Nat × Nat × (Nat → Int32)} {w : mW} {μ : mM} (hw : mWF w) (hT : mT w μ) {p1 : Int} (hp1 : (-2147483648) ≤ p1 ∧ p1 ≤ 2147483647) {p2 : Int} (hp2 : 0 ≤ p2 ∧ p2 ≤ 1) (hIJC : JC l D c H0 sa μ) (hIRP : RP μ) (hIEP : EP μ) (hIHP : HP μ) (hIUP : UP l D c H0 sa μ) (hIG1 : G1 μ) (hIEV : EV μ) (hIPK : PK μ) : sC (gG l D c H0 sa) mX12_raise 12 0 0 [.ref 106, iv p1, iv p2] (mk w μ) (qI w [106026, 106027, 106028, 106029, 106030, 106031, 106072, 112999, 126999, 151999, 152999, 153999, 155999, 156999, 157999, 158999, 159999, 160999, 161999, 165999] μ (fun z μ1 => ((-2147483648) ≤ z ∧ z ≤ 2147483647) ∧ JC l D c H0 sa μ1 ∧ RP μ1 ∧ EP μ1 ∧ HP μ1 ∧ UP l D c H0 sa μ1 ∧ G1 μ1 ∧ EV μ1 ∧ True)) := sorry
set_option maxRecDepth 4000 in
set_option maxHeartbeats 4000000 in
theorem c_X12_use_u {l : Launch} {D : va_G} {c : Nat → ClassId} {H0 : Heap} {sa : Nat × Nat × (Nat → Int32)} {w : mW} {μ : mM} (hw : mWF w) (hT : mT w μ) {p1 : Int} (hp1 : (-2147483648) ≤ p1 ∧ p1 ≤ 2147483647) {p2 : Int} (hp2 : (-2147483648) ≤ p2 ∧ p2 ≤ 2147483647) {p3 : Int} (hp3 : (-2147483648) ≤ p3 ∧ p3 ≤ 2147483647) {p4 : Int} (hp4 : (-2147483648) ≤ p4 ∧ p4 ≤ 2147483647) (hIJC : JC l D c H0 sa μ) (hIRP : RP μ) (hIEP : EP μ) (hIHP : HP μ) (hIUP : UP l D c H0 sa μ) (hIG1 : G1 μ) (hIEV : EV μ) (hIPK : PK μ) : sC (gG l D c H0 sa) mX12_use 12 0 0 [.ref 106, iv p1, iv p2, iv p3, iv p4] (mk w μ) (qI w [106026, 106027, 106028, 106029, 106030, 106031, 106072, 115999, 126999, 151999, 152999, 153999, 155999, 156999, 157999, 158999, 159999, 160999, 161999, 165999] μ (fun z μ1 => ((-2147483648) ≤ z ∧ z ≤ 2147483647) ∧ JC l D c H0 sa μ1 ∧ RP μ1 ∧ EP μ1 ∧ HP μ1 ∧ UP l D c H0 sa μ1 ∧ G1 μ1 ∧ EV μ1 ∧ PK μ1 ∧ True)) := sorry
set_option maxRecDepth 4000 in
set_option maxHeartbeats 4000000 in
theorem c_X12_right_u {l : Launch} {D : va_G} {c : Nat → ClassId} {H0 : Heap} {sa : Nat × Nat × (Nat → Int32)} {w : mW} {μ : mM} (hw : mWF w) (hT : mT w μ) {p1 : Int} (hp1 : (-2147483648) ≤ p1 ∧ p1 ≤ 2147483647) {p2 : Int} (hp2 : (-2147483648) ≤ p2 ∧ p2 ≤ 2147483647) {p3 : Int} (hp3 : (-2147483648) ≤ p3 ∧ p3 ≤ 2147483647) {p4 : Int} (hp4 : (-2147483648) ≤ p4 ∧ p4 ≤ 2147483647) {p5 : Int} (hp5 : (-2147483648) ≤ p5 ∧ p5 ≤ 2147483647) {p6 : Int} (hp6 : (-2147483648) ≤ p6 ∧ p6 ≤ 2147483647) (hIJC : JC l D c H0 sa μ) (hIRP : RP μ) (hIEP : EP μ) (hIHP : HP μ) (hIUP : UP l D c H0 sa μ) (hIRR : RR μ) (hIG1 : G1 μ) (hIEV : EV μ) (hIPK : PK μ) : sC (gG l D c H0 sa) mX12_right 13 0 0 [.ref 106, iv p1, iv p2, iv p3, iv p4, iv p5, iv p6] (mk w μ) (qI w [106018, 106026, 106027, 106028, 106029, 106030, 106031, 106072, 119999, 120999, 121999, 122999, 123999, 124999, 125999, 126999, 151999, 152999, 153999, 155999, 156999, 157999, 158999, 159999, 160999, 161999, 165999] μ (fun z μ1 => ((-2147483648) ≤ z ∧ z ≤ 2147483647) ∧ JC l D c H0 sa μ1 ∧ RP μ1 ∧ EP μ1 ∧ HP μ1 ∧ UP l D c H0 sa μ1 ∧ RR μ1 ∧ G1 μ1 ∧ EV μ1 ∧ True)) := sorry
set_option maxRecDepth 4000 in
set_option maxHeartbeats 4000000 in
theorem c_X12_doEvent_u {l : Launch} {D : va_G} {c : Nat → ClassId} {H0 : Heap} {sa : Nat × Nat × (Nat → Int32)} {w : mW} {μ : mM} (hw : mWF w) (hT : mT w μ) {p1 : Int} (hp1 : 0 ≤ p1 ∧ p1 ≤ 799) {f_ties : Int} (q_f_ties : μ 106 6 = f_ties) {f_pre : Int} (q_f_pre : μ 106 2 = f_pre) (hIJC : JC l D c H0 sa μ) (hIRP : RP μ) (hIEP : EP μ) (hIHP : HP μ) (hIUP : UP l D c H0 sa μ) (hIG1 : G1 μ) (hIEV : EV μ) (hIPK : PK μ) (hev : 0 ≤ evF μ p1 ∧ evF μ p1 ≤ 2000000000) : sC (gG l D c H0 sa) mX12_doEvent 11 0 0 [.ref 106, iv p1] (mk w μ) (qV w [106026, 106027, 106028, 106029, 106030, 106031, 106071, 106072, 106073, 126999, 151999, 152999, 153999, 154999, 155999, 156999, 157999, 158999, 159999, 160999, 161999, 165999] μ (fun μ1 => JC l D c H0 sa μ1 ∧ RP μ1 ∧ EP μ1 ∧ HP μ1 ∧ UP l D c H0 sa μ1 ∧ G1 μ1 ∧ EV μ1 ∧ True)) := sorry
set_option maxRecDepth 4000 in
set_option maxHeartbeats 4000000 in
theorem c_X12_go_u {l : Launch} {D : va_G} {c : Nat → ClassId} {H0 : Heap} {sa : Nat × Nat × (Nat → Int32)} {w : mW} {μ : mM} (hw : mWF w) (hT : mT w μ) {p1 : Int} (hp1 : (-2147483648) ≤ p1 ∧ p1 ≤ 2147483647) (hIJC : JC l D c H0 sa μ) (hIRP : RP μ) (hIEP : EP μ) (hIHP : HP μ) (hIUP : UP l D c H0 sa μ) (hIG1 : G1 μ) (hIEV : EV μ) (hIPK : PK μ) : sC (gG l D c H0 sa) mX12_go 12 0 0 [.ref 106, iv p1] (mk w μ) (qI w [106026, 106027, 106028, 106029, 106030, 106031, 106071, 106072, 106073, 126999, 151999, 152999, 153999, 154999, 155999, 156999, 157999, 158999, 159999, 160999, 161999, 165999] μ (fun z μ1 => ((-2147483648) ≤ z ∧ z ≤ 2147483647) ∧ JC l D c H0 sa μ1 ∧ RP μ1 ∧ EP μ1 ∧ HP μ1 ∧ UP l D c H0 sa μ1 ∧ G1 μ1 ∧ EV μ1 ∧ True)) := sorry
end
section
set_option maxRecDepth 4000 in
set_option maxHeartbeats 4000000 in
theorem c_X12_until_u {l : Launch} {D : va_G} {c : Nat → ClassId} {H0 : Heap} {sa : Nat × Nat × (Nat → Int32)} {w : mW} {μ : mM} (hw : mWF w) (hT : mT w μ) {p1 : Int} (hp1 : (-2147483648) ≤ p1 ∧ p1 ≤ 2147483647) (hIJC : JC l D c H0 sa μ) (hIRP : RP μ) (hIEP : EP μ) (hIHP : HP μ) (hIUP : UP l D c H0 sa μ) (hIG1 : G1 μ) (hIEV : EV μ) (hIPK : PK μ) : sC (gG l D c H0 sa) mX12_until 12 0 0 [.ref 106, iv p1] (mk w μ) (qI w [106026, 106027, 106028, 106029, 106030, 106031, 106071, 106072, 106073, 126999, 151999, 152999, 153999, 154999, 155999, 156999, 157999, 158999, 159999, 160999, 161999, 165999] μ (fun z μ1 => ((-2147483648) ≤ z ∧ z ≤ 2147483647) ∧ JC l D c H0 sa μ1 ∧ RP μ1 ∧ EP μ1 ∧ HP μ1 ∧ UP l D c H0 sa μ1 ∧ G1 μ1 ∧ EV μ1 ∧ True)) := sorry
set_option maxRecDepth 4000 in
set_option maxHeartbeats 4000000 in
theorem c_X12_prefixOf_u {l : Launch} {D : va_G} {c : Nat → ClassId} {H0 : Heap} {sa : Nat × Nat × (Nat → Int32)} {w : mW} {μ : mM} (hw : mWF w) (hT : mT w μ) {p1 : Int} (hp1 : (-2147483648) ≤ p1 ∧ p1 ≤ 2147483647) {p2 : Int} (hp2 : (-2147483648) ≤ p2 ∧ p2 ≤ 2147483647) {f_pre : Int} (q_f_pre : μ 106 2 = f_pre) : sC (gG l D c H0 sa) mX12_prefixOf 1 0 0 [.ref 106, iv p1, iv p2] (mk w μ) (qP w μ (fun z => ((-99999999) ≤ z ∧ z ≤ 9) ∧ (z = -99999999 ∨ (0 ≤ z ∧ z ≤ 9)) ∧ (z < f_pre) ∧ True)) := sorry
set_option maxRecDepth 4000 in
set_option maxHeartbeats 4000000 in
theorem c_X12_hear_u {l : Launch} {D : va_G} {c : Nat → ClassId} {H0 : Heap} {sa : Nat × Nat × (Nat → Int32)} {w : mW} {μ : mM} (hw : mWF w) (hT : mT w μ) {p1 : Int} (hp1 : (-2147483648) ≤ p1 ∧ p1 ≤ 2147483647) {p2 : Int} (hp2 : (-2147483648) ≤ p2 ∧ p2 ≤ 2147483647) {f_pre : Int} (q_f_pre : μ 106 2 = f_pre) (hIJC : JC l D c H0 sa μ) (hIRP : RP μ) (hIEP : EP μ) (hIHP : HP μ) (hIUP : UP l D c H0 sa μ) (hIG1 : G1 μ) (hIEV : EV μ) (hIPK : PK μ) : sC (gG l D c H0 sa) mX12_hear 11 0 0 [.ref 106, iv p1, iv p2] (mk w μ) (qI w [106026, 106027, 106028, 106029, 106030, 106031, 106072, 126999, 151999, 152999, 153999, 154999, 155999, 156999, 157999, 158999, 159999, 160999, 161999, 165999] μ (fun z μ1 => ((-2147483648) ≤ z ∧ z ≤ 2147483647) ∧ JC l D c H0 sa μ1 ∧ RP μ1 ∧ EP μ1 ∧ HP μ1 ∧ UP l D c H0 sa μ1 ∧ G1 μ1 ∧ EV μ1 ∧ True)) := sorry
set_option maxRecDepth 4000 in
set_option maxHeartbeats 4000000 in
theorem c_X12_judge_u {l : Launch} {D : va_G} {c : Nat → ClassId} {H0 : Heap} {sa : Nat × Nat × (Nat → Int32)} {w : mW} {μ : mM} (hw : mWF w) (hT : mT w μ) {p1 : Int} (hp1 : (-2147483648) ≤ p1 ∧ p1 ≤ 2147483647) {p2 : Int} (hp2 : (-2147483648) ≤ p2 ∧ p2 ≤ 2147483647) {p3 : Int} (hp3 : (-2147483648) ≤ p3 ∧ p3 ≤ 2147483647) (hIJC : JC l D c H0 sa μ) (hIRP : RP μ) (hIEP : EP μ) (hIHP : HP μ) (hIUP : UP l D c H0 sa μ) (hIG1 : G1 μ) (hIEV : EV μ) (hIPK : PK μ) : sC (gG l D c H0 sa) mX12_judge 7 0 0 [.ref 106, iv p1, iv p2, iv p3] (mk w μ) (qI w [106026, 106027, 106028, 106029, 106030, 106031, 126999, 151999, 152999, 153999] μ (fun z μ1 => ((-2147483648) ≤ z ∧ z ≤ 2147483647) ∧ JC l D c H0 sa μ1 ∧ RP μ1 ∧ EP μ1 ∧ HP μ1 ∧ UP l D c H0 sa μ1 ∧ G1 μ1 ∧ EV μ1 ∧ True)) := sorry
set_option maxRecDepth 4000 in
set_option maxHeartbeats 4000000 in
theorem c_X12_three_u {l : Launch} {D : va_G} {c : Nat → ClassId} {H0 : Heap} {sa : Nat × Nat × (Nat → Int32)} {w : mW} {μ : mM} (hw : mWF w) (hT : mT w μ) {p1 : Int} (hp1 : (-2147483648) ≤ p1 ∧ p1 ≤ 2147483647) {p2 : Int} (hp2 : (-2147483648) ≤ p2 ∧ p2 ≤ 2147483647) {p3 : Int} (hp3 : (-2147483648) ≤ p3 ∧ p3 ≤ 2147483647) (hIJC : JC l D c H0 sa μ) (hIRP : RP μ) (hIEP : EP μ) (hIHP : HP μ) (hIUP : UP l D c H0 sa μ) (hIG1 : G1 μ) (hIEV : EV μ) (hIPK : PK μ) : sC (gG l D c H0 sa) mX12_three 9 0 0 [.ref 106, iv p1, iv p2, iv p3] (mk w μ) (qI w [106026, 106027, 106028, 106029, 106030, 106031, 126999, 151999, 152999, 153999] μ (fun z μ1 => ((-2147483648) ≤ z ∧ z ≤ 2147483647) ∧ JC l D c H0 sa μ1 ∧ RP μ1 ∧ EP μ1 ∧ HP μ1 ∧ UP l D c H0 sa μ1 ∧ G1 μ1 ∧ EV μ1 ∧ True)) := sorry
set_option maxRecDepth 4000 in
set_option maxHeartbeats 4000000 in
theorem c_X12_picked_u {l : Launch} {D : va_G} {c : Nat → ClassId} {H0 : Heap} {sa : Nat × Nat × (Nat → Int32)} {w : mW} {μ : mM} (hw : mWF w) (hT : mT w μ) {p1 : Int} (hp1 : (-2147483648) ≤ p1 ∧ p1 ≤ 2147483647) {p2 : Int} (hp2 : (-2147483648) ≤ p2 ∧ p2 ≤ 2147483647) (hIJC : JC l D c H0 sa μ) (hIRP : RP μ) (hIEP : EP μ) (hIHP : HP μ) (hIUP : UP l D c H0 sa μ) (hIG1 : G1 μ) : sC (gG l D c H0 sa) mX12_picked 3 0 0 [.ref 106, iv p1, iv p2] (mk w μ) (qI w [106070, 126999] μ (fun z μ1 => ((-2147483648) ≤ z ∧ z ≤ 2147483647) ∧ JC l D c H0 sa μ1 ∧ RP μ1 ∧ EP μ1 ∧ HP μ1 ∧ UP l D c H0 sa μ1 ∧ G1 μ1 ∧ True)) := sorry
set_option maxRecDepth 4000 in
set_option maxHeartbeats 4000000 in
theorem c_X12_heard_u {l : Launch} {D : va_G} {c : Nat → ClassId} {H0 : Heap} {sa : Nat × Nat × (Nat → Int32)} {w : mW} {μ : mM} (hw : mWF w) (hT : mT w μ) {p1 : Int} (hp1 : (-2147483648) ≤ p1 ∧ p1 ≤ 2147483647) {p2 : Int} (hp2 : (-2147483648) ≤ p2 ∧ p2 ≤ 2147483647) {p3 : Int} (hp3 : (-2147483648) ≤ p3 ∧ p3 ≤ 2147483647) {p4 : Int} (hp4 : (-2147483648) ≤ p4 ∧ p4 ≤ 2147483647) (hIJC : JC l D c H0 sa μ) (hIRP : RP μ) (hIEP : EP μ) (hIHP : HP μ) (hIUP : UP l D c H0 sa μ) (hIG1 : G1 μ) : sC (gG l D c H0 sa) mX12_heard 3 0 0 [.ref 106, iv p1, iv p2, iv p3, iv p4] (mk w μ) (qI w [106070, 126999] μ (fun z μ1 => ((-2147483648) ≤ z ∧ z ≤ 2147483647) ∧ JC l D c H0 sa μ1 ∧ RP μ1 ∧ EP μ1 ∧ HP μ1 ∧ UP l D c H0 sa μ1 ∧ G1 μ1 ∧ True)) := sorry
set_option maxRecDepth 4000 in
set_option maxHeartbeats 4000000 in
theorem c_X12_route_u {l : Launch} {D : va_G} {c : Nat → ClassId} {H0 : Heap} {sa : Nat × Nat × (Nat → Int32)} {w : mW} {μ : mM} (hw : mWF w) (hT : mT w μ) {p1 : Int} (hp1 : (-2147483648) ≤ p1 ∧ p1 ≤ 2147483647) {p2 : Int} (hp2 : (-2147483648) ≤ p2 ∧ p2 ≤ 2147483647) {p3 : Int} (hp3 : (-2147483648) ≤ p3 ∧ p3 ≤ 2147483647) {p4 : Int} (hp4 : (-2147483648) ≤ p4 ∧ p4 ≤ 2147483647) (hIJC : JC l D c H0 sa μ) (hIRP : RP μ) (hIEP : EP μ) (hIHP : HP μ) (hIUP : UP l D c H0 sa μ) (hIG1 : G1 μ) : sC (gG l D c H0 sa) mX12_route 3 0 0 [.ref 106, iv p1, iv p2, iv p3, iv p4] (mk w μ) (qI w [106070, 126999] μ (fun z μ1 => ((-2147483648) ≤ z ∧ z ≤ 2147483647) ∧ mG [(0, 40)] μ μ1 ∧ JC l D c H0 sa μ1 ∧ RP μ1 ∧ EP μ1 ∧ HP μ1 ∧ UP l D c H0 sa μ1 ∧ G1 μ1 ∧ True)) := sorry
end
section
set_option maxRecDepth 4000 in
set_option maxHeartbeats 4000000 in
theorem c_X12_verdict_u {l : Launch} {D : va_G} {c : Nat → ClassId} {H0 : Heap} {sa : Nat × Nat × (Nat → Int32)} {w : mW} {μ : mM} (hw : mWF w) (hT : mT w μ) {p1 : Int} (hp1 : (-2147483648) ≤ p1 ∧ p1 ≤ 2147483647) {p2 : Int} (hp2 : (-2147483648) ≤ p2 ∧ p2 ≤ 2147483647) {p3 : Int} (hp3 : (-2147483648) ≤ p3 ∧ p3 ≤ 2147483647) {p4 : Int} (hp4 : (-2147483648) ≤ p4 ∧ p4 ≤ 2147483647) (hIJC : JC l D c H0 sa μ) (hIRP : RP μ) (hIEP : EP μ) (hIHP : HP μ) (hIUP : UP l D c H0 sa μ) : sC (gG l D c H0 sa) mX12_verdict 5 0 0 [.ref 106, iv p1, iv p2, iv p3, iv p4] (mk w μ) (qI w [106026, 106027, 106028, 106029, 106030, 106031] μ (fun z μ1 => ((-2147483648) ≤ z ∧ z ≤ 2147483647) ∧ JC l D c H0 sa μ1 ∧ RP μ1 ∧ EP μ1 ∧ HP μ1 ∧ UP l D c H0 sa μ1 ∧ True)) := sorry
set_option maxRecDepth 4000 in
set_option maxHeartbeats 4000000 in
theorem c_X12_attributes_u {l : Launch} {D : va_G} {c : Nat → ClassId} {H0 : Heap} {sa : Nat × Nat × (Nat → Int32)} {w : mW} {μ : mM} (hw : mWF w) (hT : mT w μ) {p1 : Int} (hp1 : 0 ≤ p1 ∧ p1 ≤ 1002) {p2 : Int} (hp2 : 0 ≤ p2 ∧ p2 ≤ 1000) {f_size : Int} (q_f_size : μ 106 1 = f_size) {f_c0 : Int} (q_f_c0 : μ 106 93 = f_c0) (hq0 : p2 ≤ f_size) (hq1 : 3 * f_c0 ≤ p1) : sC (gG l D c H0 sa) mX12_attributes 4 0 0 [.ref 106, iv p1, iv p2] (mk w μ) (qV w [106093, 106098, 106099, 106101, 126999, 170999, 171999, 172999, 173999] μ (fun μ1 => mG [(961, 1000)] μ μ1 ∧ True)) := sorry
set_option maxRecDepth 4000 in
set_option maxHeartbeats 4000000 in
theorem c_X12_message_u {l : Launch} {D : va_G} {c : Nat → ClassId} {H0 : Heap} {sa : Nat × Nat × (Nat → Int32)} {w : mW} {μ : mM} (hw : mWF w) (hT : mT w μ) (hIJC : JC l D c H0 sa μ) (hIRP : RP μ) (hIEP : EP μ) (hIHP : HP μ) (hIUP : UP l D c H0 sa μ) (hIG1 : G1 μ) : sC (gG l D c H0 sa) mX12_message 5 0 0 [.ref 106] (mk w μ) (qI w [106001, 106088, 106091, 106093, 106096, 106097, 106098, 106099, 106101, 106102, 126999, 166999, 167999, 168999, 169999, 170999, 171999, 172999, 173999] μ (fun z μ1 => ((-2147483648) ≤ z ∧ z ≤ 2147483647) ∧ mG [(960, 1000)] μ μ1 ∧ JC l D c H0 sa μ1 ∧ RP μ1 ∧ EP μ1 ∧ HP μ1 ∧ UP l D c H0 sa μ1 ∧ G1 μ1 ∧ True)) := sorry
set_option maxRecDepth 4000 in
set_option maxHeartbeats 4000000 in
theorem c_X12_prefix_u {l : Launch} {D : va_G} {c : Nat → ClassId} {H0 : Heap} {sa : Nat × Nat × (Nat → Int32)} {w : mW} {μ : mM} (hw : mWF w) (hT : mT w μ) {p1 : Int} (hp1 : (-2147483648) ≤ p1 ∧ p1 ≤ 2147483647) {p2 : Int} (hp2 : (-2147483648) ≤ p2 ∧ p2 ≤ 2147483647) (hIJC : JC l D c H0 sa μ) (hIRP : RP μ) (hIEP : EP μ) (hIHP : HP μ) (hIUP : UP l D c H0 sa μ) (hIRR : RR μ) (hIG1 : G1 μ) (hIEV : EV μ) (hIPK : PK μ) : sC (gG l D c H0 sa) mX12_prefix 2 0 0 [.ref 106, iv p1, iv p2] (mk w μ) (qI w [106002, 108999, 109999] μ (fun z μ1 => ((-2147483648) ≤ z ∧ z ≤ 2147483647) ∧ JC l D c H0 sa μ1 ∧ RP μ1 ∧ EP μ1 ∧ HP μ1 ∧ UP l D c H0 sa μ1 ∧ RR μ1 ∧ G1 μ1 ∧ EV μ1 ∧ PK μ1 ∧ True)) := sorry
set_option maxRecDepth 4000 in
set_option maxHeartbeats 4000000 in
theorem c_X12_tie_u {l : Launch} {D : va_G} {c : Nat → ClassId} {H0 : Heap} {sa : Nat × Nat × (Nat → Int32)} {w : mW} {μ : mM} (hw : mWF w) (hT : mT w μ) {p1 : Int} (hp1 : (-2147483648) ≤ p1 ∧ p1 ≤ 2147483647) {p2 : Int} (hp2 : (-2147483648) ≤ p2 ∧ p2 ≤ 2147483647) {p3 : Int} (hp3 : (-2147483648) ≤ p3 ∧ p3 ≤ 2147483647) {f_t : Int} (q_f_t : μ 106 6 = f_t) (hIJC : JC l D c H0 sa μ) (hIRP : RP μ) (hIEP : EP μ) (hIHP : HP μ) (hIUP : UP l D c H0 sa μ) (hITE : TE μ) (hIPK : PK μ) (hIEV : EV μ) : sC (gG l D c H0 sa) mX12_tie 3 0 0 [.ref 106, iv p1, iv p2, iv p3] (mk w μ) (qI w [106006, 110999, 111999, 112999, 113999, 114999, 115999] μ (fun z μ1 => ((-2147483648) ≤ z ∧ z ≤ 2147483647) ∧ JC l D c H0 sa μ1 ∧ RP μ1 ∧ EP μ1 ∧ HP μ1 ∧ UP l D c H0 sa μ1 ∧ TE μ1 ∧ PK μ1 ∧ EV μ1 ∧ True)) := sorry
set_option maxRecDepth 4000 in
set_option maxHeartbeats 4000000 in
theorem c_X12_follows_u {l : Launch} {D : va_G} {c : Nat → ClassId} {H0 : Heap} {sa : Nat × Nat × (Nat → Int32)} {w : mW} {μ : mM} (hw : mWF w) (hT : mT w μ) {p1 : Int} (hp1 : (-9223372036854775808) ≤ p1 ∧ p1 ≤ 9223372036854775807) {p2 : Int} (hp2 : (-9223372036854775808) ≤ p2 ∧ p2 ≤ 9223372036854775807) {f_pol : Int} (q_f_pol : μ 106 39 = f_pol) {f_draft : Int} (q_f_draft : μ 106 58 = f_draft) (hq0 : f_pol ≤ f_draft) (hIUP : UP l D c H0 sa μ) : sC (gG l D c H0 sa) mX12_follows 1 0 0 [.ref 106, jv p1, jv p2] (mk w μ) (qV w [144999] μ (fun μ1 => UP l D c H0 sa μ1 ∧ True)) := sorry
set_option maxRecDepth 4000 in
set_option maxHeartbeats 4000000 in
theorem c_X12_piece_u {l : Launch} {D : va_G} {c : Nat → ClassId} {H0 : Heap} {sa : Nat × Nat × (Nat → Int32)} {w : mW} {μ : mM} (hw : mWF w) (hT : mT w μ) {p1 : Int} (hp1 : (-9223372036854775808) ≤ p1 ∧ p1 ≤ 9223372036854775807) {p2 : Int} (hp2 : (-9223372036854775808) ≤ p2 ∧ p2 ≤ 9223372036854775807) {p3 : Int} (hp3 : 0 ≤ p3 ∧ p3 ≤ 1) {f_code : Int} (q_f_code : μ 106 37 = f_code) {f_at : Int} (q_f_at : μ 106 33 = f_at) {f_from : Int} (q_f_from : μ 106 34 = f_from) {f_type : Int} (q_f_type : μ 106 35 = f_type) {f_number : Int} (q_f_number : μ 106 36 = f_number) {f_levels : Int} (q_f_levels : μ 106 59 = f_levels) {f_pol : Int} (q_f_pol : μ 106 39 = f_pol) {f_draft : Int} (q_f_draft : μ 106 58 = f_draft) (hq0 : f_code = 0 → f_from ≤ f_at) (hq1 : f_code = 0 → f_type = 0 ∨ f_from + 1 ≤ f_at) (hq2 : f_code = 0 → f_type = 1 → f_from + 2 ≤ f_at) (hq3 : f_code = 0 → f_type = 1 → f_number = 0 ∨ f_number = 4 ∨ f_number = 5 ∨ f_from + 3 ≤ f_at) (hq4 : 1 ≤ f_levels) (hq5 : f_pol ≤ f_draft) (hIUP : UP l D c H0 sa μ) : sC (gG l D c H0 sa) mX12_piece 3 0 0 [.ref 106, jv p1, jv p2, iv p3] (mk w μ) (qV w [106033, 106034, 106035, 106036, 106037, 106038, 144999, 148999, 149999, 150999] μ (fun μ1 => ∃ o_code o_at o_from o_type o_number : Int, μ1 106 37 = o_code ∧ μ1 106 33 = o_at ∧ μ1 106 34 = o_from ∧ μ1 106 35 = o_type ∧ μ1 106 36 = o_number ∧ UP l D c H0 sa μ1 ∧ (o_code = 0 → o_from ≤ o_at) ∧ (o_code = 0 → o_type = 0 ∨ o_from + 1 ≤ o_at) ∧ (o_code = 0 → o_type = 1 → o_from + 2 ≤ o_at) ∧ (o_code = 0 → o_type = 1 → o_number = 0 ∨ o_number = 4 ∨ o_number = 5 ∨ o_from + 3 ≤ o_at) ∧ (o_code = 0 → f_code = 0) ∧ (o_code = 0 → f_from + 0 ≤ o_from) ∧ (f_code = 0 ∨ 1 ≤ o_code) ∧ True)) := sorry
end
section
set_option maxRecDepth 4000 in
set_option maxHeartbeats 4000000 in
theorem c_X12_wayTest_u {l : Launch} {D : va_G} {c : Nat → ClassId} {H0 : Heap} {sa : Nat × Nat × (Nat → Int32)} {w : mW} {μ : mM} (hw : mWF w) (hT : mT w μ) {p1 : Int} (hp1 : 0 ≤ p1 ∧ p1 ≤ 3899) {f_code : Int} (q_f_code : μ 106 37 = f_code) {f_at : Int} (q_f_at : μ 106 33 = f_at) {f_from : Int} (q_f_from : μ 106 34 = f_from) {f_type : Int} (q_f_type : μ 106 35 = f_type) {f_number : Int} (q_f_number : μ 106 36 = f_number) {f_pol : Int} (q_f_pol : μ 106 39 = f_pol) {f_draft : Int} (q_f_draft : μ 106 58 = f_draft) (hq0 : f_code = 0 → f_from ≤ f_at) (hq1 : f_code = 0 → f_type = 0 ∨ f_from + 1 ≤ f_at) (hq2 : f_code = 0 → f_type = 1 → f_from + 2 ≤ f_at) (hq3 : f_code = 0 → f_type = 1 → f_number = 0 ∨ f_number = 4 ∨ f_number = 5 ∨ f_from + 3 ≤ f_at) (hq4 : f_pol ≤ f_draft) (hq5 : 300 * f_pol ≤ p1) (hIUP : UP l D c H0 sa μ) : sC (gG l D c H0 sa) mX12_wayTest 4 0 0 [.ref 106, iv p1] (mk w μ) (qV w [106033, 106034, 106035, 106036, 106037, 106038, 106059, 137999, 138999, 139999, 142999, 143999, 144999, 145999, 146999, 147999, 148999, 149999, 150999] μ (fun μ1 => ∃ o_code o_at o_from o_type o_number : Int, μ1 106 37 = o_code ∧ μ1 106 33 = o_at ∧ μ1 106 34 = o_from ∧ μ1 106 35 = o_type ∧ μ1 106 36 = o_number ∧ UP l D c H0 sa μ1 ∧ (o_code = 0 → o_from ≤ o_at) ∧ (o_code = 0 → o_type = 0 ∨ o_from + 1 ≤ o_at) ∧ (o_code = 0 → o_type = 1 → o_from + 2 ≤ o_at) ∧ (o_code = 0 → o_type = 1 → o_number = 0 ∨ o_number = 4 ∨ o_number = 5 ∨ o_from + 3 ≤ o_at) ∧ (o_code = 0 → f_code = 0) ∧ (o_code = 0 → f_from + 1 ≤ o_from) ∧ (f_code = 0 ∨ 1 ≤ o_code) ∧ True)) := sorry
end
section
set_option maxRecDepth 4000 in
set_option maxHeartbeats 4000000 in
theorem c_X12_test_u {l : Launch} {D : va_G} {c : Nat → ClassId} {H0 : Heap} {sa : Nat × Nat × (Nat → Int32)} {w : mW} {μ : mM} (hw : mWF w) (hT : mT w μ) {f_code : Int} (q_f_code : μ 106 37 = f_code) {f_at : Int} (q_f_at : μ 106 33 = f_at) {f_from : Int} (q_f_from : μ 106 34 = f_from) {f_type : Int} (q_f_type : μ 106 35 = f_type) {f_number : Int} (q_f_number : μ 106 36 = f_number) {f_draft : Int} (q_f_draft : μ 106 58 = f_draft) {f_tests : Int} (q_f_tests : μ 130 (f_draft.toNat) = f_tests) {f_acts : Int} (q_f_acts : μ 131 (f_draft.toNat) = f_acts) {f_pol : Int} (q_f_pol : μ 106 39 = f_pol) (hq0 : f_code = 0 → f_from ≤ f_at) (hq1 : f_code = 0 → f_type = 0 ∨ f_from + 1 ≤ f_at) (hq2 : f_code = 0 → f_type = 1 → f_from + 2 ≤ f_at) (hq3 : f_code = 0 → f_type = 1 → f_number = 0 ∨ f_number = 4 ∨ f_number = 5 ∨ f_from + 3 ≤ f_at) (hq4 : f_code = 0 → 4 * (f_tests + f_acts) ≤ f_from) (hq5 : f_pol ≤ f_draft) (hIUP : UP l D c H0 sa μ) : sC (gG l D c H0 sa) mX12_test 5 0 0 [.ref 106] (mk w μ) (qV w [106033, 106034, 106035, 106036, 106037, 106038, 106059, 130999, 132999, 133999, 134999, 135999, 136999, 137999, 138999, 139999, 142999, 143999, 144999, 145999, 146999, 147999, 148999, 149999, 150999] μ (fun μ1 => ∃ o_code o_at o_from o_type o_number o_tests : Int, μ1 106 37 = o_code ∧ μ1 106 33 = o_at ∧ μ1 106 34 = o_from ∧ μ1 106 35 = o_type ∧ μ1 106 36 = o_number ∧ μ1 130 (f_draft.toNat) = o_tests ∧ UP l D c H0 sa μ1 ∧ (o_code = 0 → o_from ≤ o_at) ∧ (o_code = 0 → o_type = 0 ∨ o_from + 1 ≤ o_at) ∧ (o_code = 0 → o_type = 1 → o_from + 2 ≤ o_at) ∧ (o_code = 0 → o_type = 1 → o_number = 0 ∨ o_number = 4 ∨ o_number = 5 ∨ o_from + 3 ≤ o_at) ∧ (o_code = 0 → f_code = 0) ∧ (o_code = 0 → f_from + 1 ≤ o_from) ∧ (f_code = 0 ∨ 1 ≤ o_code) ∧ (o_code = 0 → 4 * (o_tests + f_acts) ≤ o_from) ∧ True)) := sorry
end
section
set_option maxRecDepth 4000 in
set_option maxHeartbeats 4000000 in
theorem c_X12_actRead_u {l : Launch} {D : va_G} {c : Nat → ClassId} {H0 : Heap} {sa : Nat × Nat × (Nat → Int32)} {w : mW} {μ : mM} (hw : mWF w) (hT : mT w μ) {f_code : Int} (q_f_code : μ 106 37 = f_code) {f_at : Int} (q_f_at : μ 106 33 = f_at) {f_from : Int} (q_f_from : μ 106 34 = f_from) {f_type : Int} (q_f_type : μ 106 35 = f_type) {f_number : Int} (q_f_number : μ 106 36 = f_number) {f_draft : Int} (q_f_draft : μ 106 58 = f_draft) {f_tests : Int} (q_f_tests : μ 130 (f_draft.toNat) = f_tests) {f_acts : Int} (q_f_acts : μ 131 (f_draft.toNat) = f_acts) {f_pol : Int} (q_f_pol : μ 106 39 = f_pol) (hq0 : f_code = 0 → f_from ≤ f_at) (hq1 : f_code = 0 → f_type = 0 ∨ f_from + 1 ≤ f_at) (hq2 : f_code = 0 → f_type = 1 → f_from + 2 ≤ f_at) (hq3 : f_code = 0 → f_type = 1 → f_number = 0 ∨ f_number = 4 ∨ f_number = 5 ∨ f_from + 3 ≤ f_at) (hq4 : f_code = 0 → 4 * (f_tests + f_acts) ≤ f_from) (hq5 : f_pol ≤ f_draft) (hIUP : UP l D c H0 sa μ) (hIPK : PK μ) (hIAC : AC μ) : sC (gG l D c H0 sa) mX12_actRead 4 0 0 [.ref 106] (mk w μ) (qV w [106033, 106034, 106035, 106036, 106037, 106038, 131999, 140999, 141999] μ (fun μ1 => ∃ o_code o_at o_from o_type o_number o_acts : Int, μ1 106 37 = o_code ∧ μ1 106 33 = o_at ∧ μ1 106 34 = o_from ∧ μ1 106 35 = o_type ∧ μ1 106 36 = o_number ∧ μ1 131 (f_draft.toNat) = o_acts ∧ UP l D c H0 sa μ1 ∧ PK μ1 ∧ AC μ1 ∧ (o_code = 0 → o_from ≤ o_at) ∧ (o_code = 0 → o_type = 0 ∨ o_from + 1 ≤ o_at) ∧ (o_code = 0 → o_type = 1 → o_from + 2 ≤ o_at) ∧ (o_code = 0 → o_type = 1 → o_number = 0 ∨ o_number = 4 ∨ o_number = 5 ∨ o_from + 3 ≤ o_at) ∧ (o_code = 0 → f_code = 0) ∧ (o_code = 0 → f_from + 3 ≤ o_from) ∧ (f_code = 0 ∨ 1 ≤ o_code) ∧ (o_code = 0 → 4 * (f_tests + o_acts) ≤ o_from + 1) ∧ (f_acts ≤ o_acts) ∧ True)) := sorry
set_option maxRecDepth 4000 in
set_option maxHeartbeats 4000000 in
theorem c_X12_rowRead_u {l : Launch} {D : va_G} {c : Nat → ClassId} {H0 : Heap} {sa : Nat × Nat × (Nat → Int32)} {w : mW} {μ : mM} (hw : mWF w) (hT : mT w μ) {f_code : Int} (q_f_code : μ 106 37 = f_code) {f_at : Int} (q_f_at : μ 106 33 = f_at) {f_from : Int} (q_f_from : μ 106 34 = f_from) {f_type : Int} (q_f_type : μ 106 35 = f_type) {f_number : Int} (q_f_number : μ 106 36 = f_number) {f_draft : Int} (q_f_draft : μ 106 58 = f_draft) {f_tests : Int} (q_f_tests : μ 130 (f_draft.toNat) = f_tests) {f_acts : Int} (q_f_acts : μ 131 (f_draft.toNat) = f_acts) {f_pol : Int} (q_f_pol : μ 106 39 = f_pol) {f_prows : Int} (q_f_prows : μ 127 (f_draft.toNat) = f_prows) (hq0 : f_code = 0 → f_from ≤ f_at) (hq1 : f_code = 0 → f_type = 0 ∨ f_from + 1 ≤ f_at) (hq2 : f_code = 0 → f_type = 1 → f_from + 2 ≤ f_at) (hq3 : f_code = 0 → f_type = 1 → f_number = 0 ∨ f_number = 4 ∨ f_number = 5 ∨ f_from + 3 ≤ f_at) (hq4 : f_code = 0 → 4 * (f_tests + f_acts) ≤ f_from) (hq5 : f_pol ≤ f_draft) (hIUP : UP l D c H0 sa μ) (hIPK : PK μ) (hIAC : AC μ) (hIRW : RW μ) : sC (gG l D c H0 sa) mX12_rowRead 6 0 0 [.ref 106] (mk w μ) (qV w [106033, 106034, 106035, 106036, 106037, 106038, 106059, 127999, 128999, 129999, 130999, 131999, 132999, 133999, 134999, 135999, 136999, 137999, 138999, 139999, 140999, 141999, 142999, 143999, 144999, 145999, 146999, 147999, 148999, 149999, 150999] μ (fun μ1 => ∃ o_code o_at o_from o_type o_number o_tests o_acts : Int, μ1 106 37 = o_code ∧ μ1 106 33 = o_at ∧ μ1 106 34 = o_from ∧ μ1 106 35 = o_type ∧ μ1 106 36 = o_number ∧ μ1 130 (f_draft.toNat) = o_tests ∧ μ1 131 (f_draft.toNat) = o_acts ∧ UP l D c H0 sa μ1 ∧ PK μ1 ∧ AC μ1 ∧ RW μ1 ∧ (o_code = 0 → o_from ≤ o_at) ∧ (o_code = 0 → o_type = 0 ∨ o_from + 1 ≤ o_at) ∧ (o_code = 0 → o_type = 1 → o_from + 2 ≤ o_at) ∧ (o_code = 0 → o_type = 1 → o_number = 0 ∨ o_number = 4 ∨ o_number = 5 ∨ o_from + 3 ≤ o_at) ∧ (o_code = 0 → f_code = 0) ∧ (o_code = 0 → f_from + 1 ≤ o_from) ∧ (f_code = 0 ∨ 1 ≤ o_code) ∧ (o_code = 0 → 4 * (o_tests + o_acts) ≤ o_from) ∧ True)) := sorry
end
section
set_option maxRecDepth 4000 in
set_option maxHeartbeats 4000000 in
theorem c_X12_policy_u {l : Launch} {D : va_G} {c : Nat → ClassId} {H0 : Heap} {sa : Nat × Nat × (Nat → Int32)} {w : mW} {μ : mM} (hw : mWF w) (hT : mT w μ) (hIJC : JC l D c H0 sa μ) (hIRP : RP μ) (hIEP : EP μ) (hIHP : HP μ) (hIUP : UP l D c H0 sa μ) (hIG1 : G1 μ) (hIEV : EV μ) (hIPK : PK μ) : sC (gG l D c H0 sa) mX12_policy 7 0 0 [.ref 106] (mk w μ) (qI w [106001, 106033, 106034, 106035, 106036, 106037, 106038, 106039, 106058, 106059, 106066, 127999, 128999, 129999, 130999, 131999, 132999, 133999, 134999, 135999, 136999, 137999, 138999, 139999, 140999, 141999, 142999, 143999, 144999, 145999, 146999, 147999, 148999, 149999, 150999] μ (fun z μ1 => ((-2147483648) ≤ z ∧ z ≤ 2147483647) ∧ JC l D c H0 sa μ1 ∧ RP μ1 ∧ EP μ1 ∧ HP μ1 ∧ UP l D c H0 sa μ1 ∧ G1 μ1 ∧ EV μ1 ∧ PK μ1 ∧ True)) := sorry
set_option maxRecDepth 4000 in
set_option maxHeartbeats 4000000 in
theorem c_X12_why_u {l : Launch} {D : va_G} {c : Nat → ClassId} {H0 : Heap} {sa : Nat × Nat × (Nat → Int32)} {w : mW} {μ : mM} (hw : mWF w) (hT : mT w μ) {p1 : Int} (hp1 : (-2147483648) ≤ p1 ∧ p1 ≤ 2147483647) {p2 : Int} (hp2 : (-2147483648) ≤ p2 ∧ p2 ≤ 2147483647) {p3 : Int} (hp3 : (-2147483648) ≤ p3 ∧ p3 ≤ 2147483647) (hIJC : JC l D c H0 sa μ) (hIRP : RP μ) (hIEP : EP μ) (hIHP : HP μ) (hIUP : UP l D c H0 sa μ) (hIG1 : G1 μ) (hIEV : EV μ) (hIPK : PK μ) (hITE : TE μ) : sC (gG l D c H0 sa) mX12_why 8 0 0 [.ref 106, iv p1, iv p2, iv p3] (mk w μ) (qI w [106026, 106027, 106028, 106029, 106030, 106031, 126999, 151999, 152999, 153999] μ (fun z μ1 => ((-2147483648) ≤ z ∧ z ≤ 2147483647) ∧ JC l D c H0 sa μ1 ∧ RP μ1 ∧ EP μ1 ∧ HP μ1 ∧ UP l D c H0 sa μ1 ∧ G1 μ1 ∧ EV μ1 ∧ True)) := sorry
end
