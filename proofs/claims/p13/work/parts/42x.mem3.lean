/-! Rules over memory, second row. -/
section MV3
variable {g : sG} {M : sM} {R : Room} {Z : sZT} {pc : Nat} {lv : List (Nat × Value)} {st : List Value} {hp : sHp} {w : mW} {μ : mM} {ce sl : Nat}
theorem mr_wrap {e : Int} (k : ∀ z, (-2147483648 ≤ z ∧ z ≤ 2147483647) → sV g M R Z pc lv (iv z :: st) hp ce sl) : sV g M R Z pc lv (iv e :: st) hp ce sl := by
  have h := k (Int32.ofInt e).toInt (r32i _)
  simp only [iv, Int32.ofInt_toInt] at h ⊢
  exact h
theorem mr_gen {e : Int} {P : Int → Prop} (h : P e) (k : ∀ z, e = z → P z → sV g M R Z pc lv (iv z :: st) hp ce sl) : sV g M R Z pc lv (iv e :: st) hp ce sl := k e rfl h
theorem mr_genL {e : Int} (h : -9223372036854775808 ≤ e ∧ e ≤ 9223372036854775807) (k : ∀ z, e = z → (-9223372036854775808 ≤ z ∧ z ≤ 9223372036854775807) → sV g M R Z pc lv (jv z :: st) hp ce sl) : sV g M R Z pc lv (jv e :: st) hp ce sl := k e rfl h
theorem mr_iincW {i : Nat} {n z : Int} (hd : decode M.2.1 pc = .ok (.iinc i n, 3)) (hg : sGet i lv = some (iv z)) (hn : i < M.2.2.1) (k : ∀ z', (-2147483648 ≤ z' ∧ z' ≤ 2147483647) → sV g M R Z (pc + 3) (sSet i (iv z') lv) st hp ce sl) : sV g M R Z pc lv st hp ce sl := by
  have h := k (Int32.ofInt z + Int32.ofInt n).toInt (r32i _)
  simp only [iv, Int32.ofInt_toInt] at h
  exact sv_iinc hd hg rfl hn h
theorem mr_negS {x : Int} (k : sV g M R Z pc lv (iv (0 - x) :: st) hp ce sl) : sV g M R Z pc lv (iv (-x) :: st) hp ce sl := by
  rw [← Int.zero_sub]; exact k
theorem narB {z : Int} (h : -128 ≤ z ∧ z ≤ 127) : vp_nar .byte (Int32.ofInt z) = Int32.ofInt z := by
  show (Int32.ofInt z).toInt8.toInt32 = Int32.ofInt z
  rw [← Int32.toInt_inj, Int8.toInt_toInt32, Int32.toInt_toInt8, ivI (by omega)]
  simp only [Int.bmod]
  split <;> omega
theorem mr_bast {a s kd : Nat} {cA : ClassId} {e z : Int} (hd : decode M.2.1 pc = .ok (.bastore, 1)) (ht : g.2.2.1[kd]? = some (cA, .byte)) (hA : mAt w a s) (hs : mTab s = .inr (kd, 0)) (hi : 0 ≤ e ∧ e < (w.2.2.1 a : Int)) (hn : w.2.2.1 a ≤ 2147483647) (hz : -128 ≤ z ∧ z ≤ 127)
    (kt : ∀ μ1, mU μ a e.toNat z μ1 → sV g M R Z (pc + 1) lv st (mk w μ1) ce sl) : sV g M R Z pc lv (iv z :: iv e :: .ref a :: st) (mk w μ) ce sl :=
  sv_bastore hd ht hA.2.1 (mk_arr hA hs) (iv_in hi hn) (mr_astH hA hs hi hn (by rw [narB hz]; rfl) kt)
end MV3
theorem rByte (x : Int) : -128 ≤ bByte x ∧ bByte x ≤ 127 := by
  simp only [bByte, Int8.toInt_toInt32]
  have h1 := (Int32.ofInt x).toInt8.le_toInt
  have h2 := (Int32.ofInt x).toInt8.toInt_lt
  omega
theorem rModV {x y c d f : Int} (k : c ≤ y ∧ y ≤ d) (hy : 0 < y ∧ y ≤ 2147483647) (q : decide (d - 1 ≤ f) = true) : 0 ≤ x % y ∧ x % y ≤ f := by
  simp only [decide_eq_true_eq] at q
  have h1 := Int.emod_nonneg x (show y ≠ 0 by omega)
  have h2 := Int.emod_lt_of_pos x hy.1
  omega
theorem rDivV {x y a b f : Int} (h : a ≤ x ∧ x ≤ b) (hy : 0 < y ∧ y ≤ 2147483647) (q : decide (0 ≤ a) && decide (b ≤ f) = true) : 0 ≤ x / y ∧ x / y ≤ f := by
  simp only [Bool.and_eq_true, decide_eq_true_eq] at q
  have h1 : 0 ≤ x / y := Int.ediv_nonneg (by omega) (by omega)
  have h2 : x / y ≤ x := Int.ediv_le_self y (by omega)
  omega
theorem r3264 {x : Int} (h : -2147483648 ≤ x ∧ x ≤ 2147483647) : -9223372036854775808 ≤ x ∧ x ≤ 9223372036854775807 := by omega
theorem nS {a : Int} {n : Nat} (h : a < ((n + 1 : Nat) : Int)) : a < (n : Int) + 1 := by omega
/-! the reference's table of routes: which rows may have changed -/
def mG (rs : List (Int × Int)) (μ μ1 : mM) : Prop := ∀ i : Nat, (∀ r ∈ rs, (i : Int) < r.1 ∨ r.2 ≤ (i : Int)) → μ1 126 i = μ 126 i
theorem mG.refl {rs : List (Int × Int)} {μ : mM} : mG rs μ μ := fun _ _ => rfl
theorem mG.up {rs : List (Int × Int)} {μ μ1 μ2 : mM} {e z lo hi : Int} (h : mG rs μ μ1) (hu : mU μ1 126 e.toNat z μ2) (hm : (lo, hi) ∈ rs) (he : 0 ≤ e ∧ lo ≤ e ∧ e < hi) : mG rs μ μ2 := by
  intro i hi'
  rw [← h i hi']
  refine hu.2 126 i (Or.inr (fun q => ?_))
  have h2 : (i : Int) < lo ∨ hi ≤ (i : Int) := hi' _ hm
  subst q
  have := Int.toNat_of_nonneg he.1
  omega
theorem mG.upO {rs : List (Int × Int)} {μ μ1 μ2 : mM} {a k : Nat} {z : Int} (h : mG rs μ μ1) (hu : mU μ1 a k z μ2) (ha : Nat.beq a 126 = false) : mG rs μ μ2 := by
  intro i hi'
  rw [← h i hi']
  refine hu.2 126 i (Or.inl (fun q => ?_))
  rw [← q] at ha
  cases ha
theorem mG.fr {rs : List (Int × Int)} {l : List Nat} {w : mW} {μ μ1 μ2 : mM} (h : mG rs μ μ1) (hF : mF l w μ1 μ2) (hA : mAt w 126 126) (hl : l.elem 126999 = false) : mG rs μ μ2 := by
  intro i hi'
  rw [← h i hi']
  exact hF 126 i (by simp only [mRg, hA.1]; exact hl)
theorem mG.call {rs rs' : List (Int × Int)} {μ μ1 μ2 : mM} (h : mG rs μ μ1) (h' : mG rs' μ1 μ2) (hs : ∀ r' ∈ rs', ∃ r ∈ rs, r.1 ≤ r'.1 ∧ r'.2 ≤ r.2) : mG rs μ μ2 := by
  intro i hi'
  rw [← h i hi']
  refine h' i (fun r' hr' => ?_)
  obtain ⟨r, hr, h1, h2⟩ := hs r' hr'
  have := hi' r hr
  omega
theorem mG.f {rs : List (Int × Int)} {μ μ1 : mM} {e z : Int} (h : mG rs μ μ1) (he : 0 ≤ e) (ho : ∀ r ∈ rs, e < r.1 ∨ r.2 ≤ e) (q : μ 126 e.toNat = z) : μ1 126 e.toNat = z := by
  rw [← q]
  exact h e.toNat (fun r hr => by have := ho r hr; have := Int.toNat_of_nonneg he; omega)
theorem rt7 {w : mW} {μ : mM} {a : Nat} {e z : Int} (hT : mT w μ) (hA : mAt w a 126) (he : 0 ≤ e) (q : μ a e.toNat = z) : (-2147483648 ≤ z ∧ z ≤ 2147483647) ∧ (e % 40 = 0 → -1 ≤ z ∧ z ≤ 9) ∧ (e % 40 = 4 → 0 ≤ z ∧ z ≤ 20) ∧ (e % 40 = 5 → 0 ≤ z ∧ z ≤ 8) := by
  have h := hT a 126 hA e.toNat
  rw [q] at h
  have h : (-2147483648 ≤ z ∧ z ≤ 2147483647) ∧ (e.toNat % 40 = 0 → -1 ≤ z ∧ z ≤ 9) ∧ (e.toNat % 40 = 4 → 0 ≤ z ∧ z ≤ 20) ∧ (e.toNat % 40 = 5 → 0 ≤ z ∧ z ≤ 8) := h
  have e1 : ((e.toNat : Nat) : Int) = e := Int.toNat_of_nonneg he
  exact ⟨h.1, fun q => h.2.1 (by omega), fun q => h.2.2.1 (by omega), fun q => h.2.2.2 (by omega)⟩
theorem eqIx {μ : mM} {a : Nat} {e f z : Int} (h : e = f) (q : μ a f.toNat = z) : μ a e.toNat = z := by rw [h]; exact q
theorem fit01 {z : Int} (h : 0 ≤ z ∧ z ≤ 1) (b : Nat × Nat) : fits .boolean (rv b (iv z)) = true := by
  have : z = 0 ∨ z = 1 := by omega
  rcases this with rfl | rfl <;> rfl
/-! methods that change nothing -/
def qP (w : mW) (μ : mM) (P : Int → Prop) : Option Value → sHp → Prop := fun r hp => ∃ z, r = some (iv z) ∧ hp = mk w μ ∧ P z
section MP
variable {g : sG} {M M' : sM} {R : Room} {Z : sZT} {d' d C S : Nat} {pc : Nat} {lv : List (Nat × Value)} {st st0 av : List Value} {w : mW} {μ : mM} {ce sl : Nat}
theorem mr_iretP {z : Int} {P : Int → Prop} (hd : decode M.2.1 pc = .ok (.ireturn, 1)) (hret : M.2.2.2 = some .int) (hc : ce ≤ C) (hs : sl ≤ S) (hP : P z) : sV g M R (sZ g C S (qP w μ P)) pc lv [iv z] (mk w μ) ce sl := sv_iret hd hret hc hs ⟨z, rfl, rfl, hP⟩
theorem mr_zretP {z : Int} {P : Int → Prop} (hd : decode M.2.1 pc = .ok (.ireturn, 1)) (hret : M.2.2.2 = some .boolean) (hz : 0 ≤ z ∧ z ≤ 1) (hc : ce ≤ C) (hs : sl ≤ S) (hP : P z) : sV g M R (sZ g C S (qP w μ P)) pc lv [iv z] (mk w μ) ce sl := sv_zret hd hret (nar01i hz) hc hs ⟨z, rfl, rfl, hP⟩
theorem mr_cVP {index ci a s : Nat} {T : vw_C} {ty : Nat → FieldType} {ks : List Nat} {P : Int → Prop} (hct : sC g M' d' 0 0 (.ref a :: av) (mk w μ) (qP w μ P)) (ho : sOk g) (hd : decode M.2.1 pc = .ok (.invokevirtual index, 3)) (hm : sMt g M' av.length) (hi : Cond.instanceMethod M'.1 ∈ sg_ws g ∧ Cond.selects M'.1.cls M'.1 M'.1 ∈ sg_ws g) (hlk : Cond.methodLink M.1.cls index M'.1 ∈ sg_ws g) (hC : sCl g ci T ty) (hT1 : T.1 = M'.1.cls) (hA : mAt w a s) (hs : mTab s = .inl (ci, ks)) (hR : d' + 1 ≤ R.frames ∧ 60 * d' + M'.2.2.1 + 19 ≤ R.locals) (hce : ce ≤ R.cells ∧ sl ≤ R.slots) (hst : st0 = av.reverse ++ .ref a :: st) (hr8 : (st.map fun v => v.category).sum ≤ 8)
    (kt : ∀ z, P z → sV g M R Z (pc + 3) lv (iv z :: st) (mk w μ) ce sl) : sV g M R Z pc lv st0 (mk w μ) ce sl :=
  sv_callV hct ho hd hm hi hlk hC hT1 hA.2.1 (mk_obj hA hs) hR hce hst hr8 (by
    rintro r hp' ⟨z, rfl, rfl, h3⟩
    exact kt z h3)
theorem mr_cSP {index : Nat} {P : Int → Prop} (hct : sC g M' d' 0 0 av (mk w μ) (qP w μ P)) (ho : sOk g) (hd : decode M.2.1 pc = .ok (.invokestatic index, 3)) (hm : sMt g M' av.length) (hi : Cond.static M'.1 ∈ sg_ws g) (hlk : Cond.methodLink M.1.cls index M'.1 ∈ sg_ws g) (hR : d' + 1 ≤ R.frames ∧ 60 * d' + M'.2.2.1 + 19 ≤ R.locals) (hce : ce ≤ R.cells ∧ sl ≤ R.slots) (hst : st0 = av.reverse ++ st) (hr8 : (st.map fun v => v.category).sum ≤ 8)
    (kt : ∀ z, P z → sV g M R Z (pc + 3) lv (iv z :: st) (mk w μ) ce sl) : sV g M R Z pc lv st0 (mk w μ) ce sl :=
  sv_callS hct ho hd hm hi hlk hR hce hst hr8 (by
    rintro r hp' ⟨z, rfl, rfl, h3⟩
    exact kt z h3)
end MP
