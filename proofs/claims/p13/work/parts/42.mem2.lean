/-! Rules over memory: values are numbers. -/
def bAnd (x y : Int) : Int := (Int32.ofInt x &&& Int32.ofInt y).toInt
def bOr (x y : Int) : Int := (Int32.ofInt x ||| Int32.ofInt y).toInt
def bXor (x y : Int) : Int := (Int32.ofInt x ^^^ Int32.ofInt y).toInt
def bShl (x y : Int) : Int := (Int32.ofInt x <<< (Int32.ofInt y &&& 31)).toInt
def bShr (x y : Int) : Int := (Int32.ofInt x >>> (Int32.ofInt y &&& 31)).toInt
def bUsh (x y : Int) : Int := (((Int32.ofInt x).toUInt32 >>> ((Int32.ofInt y).toUInt32 &&& Int32.toUInt32 31)).toInt32).toInt
def bByte (x : Int) : Int := ((Int32.ofInt x).toInt8.toInt32).toInt
def lAnd (x y : Int) : Int := (Int64.ofInt x &&& Int64.ofInt y).toInt
def lOr (x y : Int) : Int := (Int64.ofInt x ||| Int64.ofInt y).toInt
def lAdd (x y : Int) : Int := (Int64.ofInt x + Int64.ofInt y).toInt
def lSub (x y : Int) : Int := (Int64.ofInt x - Int64.ofInt y).toInt
def lShl (x y : Int) : Int := (Int64.ofInt x <<< ((Int32.ofInt y).toInt64 &&& 63)).toInt
def lShr (x y : Int) : Int := (Int64.ofInt x >>> ((Int32.ofInt y).toInt64 &&& 63)).toInt
def lUsh (x y : Int) : Int := (((Int64.ofInt x).toUInt64 >>> ((Int32.ofInt y).toInt64.toUInt64 &&& Int64.toUInt64 63)).toInt64).toInt
def lInt (x : Int) : Int := ((Int64.ofInt x).toInt32).toInt
def lCmp (x y : Int) : Int := (lg_cmp (Int64.ofInt x) (Int64.ofInt y)).toInt
theorem r32i (x : Int32) : -2147483648 ≤ x.toInt ∧ x.toInt ≤ 2147483647 := ⟨by have := x.le_toInt; omega, by have := x.toInt_lt; omega⟩
theorem r64i (x : Int64) : -9223372036854775808 ≤ x.toInt ∧ x.toInt ≤ 9223372036854775807 := ⟨by have := x.le_toInt; omega, by have := x.toInt_lt; omega⟩
theorem rAndR {x y c d : Int} (h : c ≤ y ∧ y ≤ d) (q : decide (0 ≤ c) && decide (d ≤ 2147483647) = true) : 0 ≤ bAnd x y ∧ bAnd x y ≤ d := by
  simp only [Bool.and_eq_true, decide_eq_true_eq] at q
  obtain ⟨z, h1, h2, h3⟩ := iv_and (a := x) (b := y) (by omega)
  simp only [bAnd, h1]; rw [ivI (by omega)]; omega
theorem rAndL {x y c d : Int} (h : c ≤ x ∧ x ≤ d) (q : decide (0 ≤ c) && decide (d ≤ 2147483647) = true) : 0 ≤ bAnd x y ∧ bAnd x y ≤ d := by
  have : bAnd x y = bAnd y x := by simp only [bAnd, Int32.and_comm]
  rw [this]; exact rAndR h q
theorem rDiv {x a b n e f : Int} (h : a ≤ x ∧ x ≤ b) (q : (decide (0 ≤ a) && decide (0 < n)) && (decide (e ≤ a / n) && decide (b / n ≤ f)) = true) : e ≤ x / n ∧ x / n ≤ f := by
  simp only [Bool.and_eq_true, decide_eq_true_eq] at q
  have h1 := Int.ediv_le_ediv q.1.2 h.1
  have h2 := Int.ediv_le_ediv q.1.2 h.2
  omega
theorem rMod {x a b n f : Int} (h : a ≤ x ∧ x ≤ b) (q : decide (0 < n) && decide (n - 1 ≤ f) = true) : 0 ≤ x % n ∧ x % n ≤ f := by
  simp only [Bool.and_eq_true, decide_eq_true_eq] at q
  have h1 := Int.emod_nonneg x (show n ≠ 0 by omega)
  have h2 := Int.emod_lt_of_pos x q.1
  omega
theorem lg_cmp_r (x y : Int64) : -1 ≤ (lg_cmp x y).toInt ∧ (lg_cmp x y).toInt ≤ 1 := by
  unfold lg_cmp
  split
  · decide
  · split <;> decide
section MV
variable {g : sG} {M : sM} {R : Room} {Z : sZT} {pc : Nat} {lv lv' : List (Nat × Value)} {st : List Value} {hp : sHp} {w : mW} {μ : mM} {ce sl : Nat}
theorem mr_lvE (h : lv = lv') (k : sV g M R Z pc lv' st hp ce sl) : sV g M R Z pc lv st hp ce sl := by subst h; exact k
theorem mr_lvS (h : ∀ q ∈ lv', sGet q.1 lv = some q.2) (k : sV g M R Z pc lv' st hp ce sl) : sV g M R Z pc lv st hp ce sl := sv_lv (fun q hq => sGet_mem (h q hq)) k
theorem mr_iconst {z : Int} (hd : decode M.2.1 pc = .ok (.iconst z, 1)) (k : sV g M R Z (pc + 1) lv (iv z :: st) hp ce sl) : sV g M R Z pc lv st hp ce sl := sv_iconst hd rfl k
theorem mr_bipush {z : Int} (hd : decode M.2.1 pc = .ok (.bipush z, 2)) (hv : (Int8.ofInt z).toInt32 = Int32.ofInt z) (k : sV g M R Z (pc + 2) lv (iv z :: st) hp ce sl) : sV g M R Z pc lv st hp ce sl := sv_bipush hd hv k
theorem mr_sipush {z : Int} (hd : decode M.2.1 pc = .ok (.sipush z, 3)) (hv : (Int16.ofInt z).toInt32 = Int32.ofInt z) (k : sV g M R Z (pc + 3) lv (iv z :: st) hp ce sl) : sV g M R Z pc lv st hp ce sl := sv_sipush hd hv k
theorem mr_ldc {index : Nat} {v : Int32} {z : Int} (hd : decode M.2.1 pc = .ok (.ldc index, 2)) (hw : Cond.constant M.1.cls index v ∈ sg_ws g) (hv : v = Int32.ofInt z) (k : sV g M R Z (pc + 2) lv (iv z :: st) hp ce sl) : sV g M R Z pc lv st hp ce sl := by subst hv; exact sv_ldc hd hw k
theorem mr_ldcw {index : Nat} {v : Int32} {z : Int} (hd : decode M.2.1 pc = .ok (.ldc_w index, 3)) (hw : Cond.constant M.1.cls index v ∈ sg_ws g) (hv : v = Int32.ofInt z) (k : sV g M R Z (pc + 3) lv (iv z :: st) hp ce sl) : sV g M R Z pc lv st hp ce sl := by subst hv; exact sv_ldcw hd hw k
theorem mr_ldc2 {index : Nat} {v : Int64} {z : Int} (hd : decode M.2.1 pc = .ok (.ldc2_w index, 3)) (hw : Cond.constantLong M.1.cls index v ∈ sg_ws g) (hv : v = Int64.ofInt z) (k : sV g M R Z (pc + 3) lv (jv z :: st) hp ce sl) : sV g M R Z pc lv st hp ce sl := by subst hv; exact sv_ldc2 hd hw k
theorem mr_lconst {n : Fin 2} {z : Int} (hd : decode M.2.1 pc = .ok (.lconst n, 1)) (hv : Int64.ofNat (n : Nat) = Int64.ofInt z) (k : sV g M R Z (pc + 1) lv (jv z :: st) hp ce sl) : sV g M R Z pc lv st hp ce sl := sv_lconst hd hv k
theorem mr_iload_n {q : Fin 4} {i : Nat} {z : Int} (hd : decode M.2.1 pc = .ok (.iload_n q, 1)) (hi : (q : Nat) = i) (hg : sGet i lv = some (iv z)) (k : sV g M R Z (pc + 1) lv (iv z :: st) hp ce sl) : sV g M R Z pc lv st hp ce sl := sv_iload_n hd hi hg k
theorem mr_iload {i : Nat} {z : Int} (hd : decode M.2.1 pc = .ok (.iload i, 2)) (hg : sGet i lv = some (iv z)) (k : sV g M R Z (pc + 2) lv (iv z :: st) hp ce sl) : sV g M R Z pc lv st hp ce sl := sv_iload hd hg k
theorem mr_lload_n {q : Fin 4} {i : Nat} {z : Int} (hd : decode M.2.1 pc = .ok (.lload_n q, 1)) (hi : (q : Nat) = i) (hg : sGet i lv = some (jv z)) (k : sV g M R Z (pc + 1) lv (jv z :: st) hp ce sl) : sV g M R Z pc lv st hp ce sl := sv_lload_n hd hi hg k
theorem mr_lload {i : Nat} {z : Int} (hd : decode M.2.1 pc = .ok (.lload i, 2)) (hg : sGet i lv = some (jv z)) (k : sV g M R Z (pc + 2) lv (jv z :: st) hp ce sl) : sV g M R Z pc lv st hp ce sl := sv_lload hd hg k
theorem mr_istore_n {q : Fin 4} {i : Nat} {z : Int} (hd : decode M.2.1 pc = .ok (.istore_n q, 1)) (hi : (q : Nat) = i) (hn : i < M.2.2.1) (hl : sSet i (iv z) lv = lv') (k : sV g M R Z (pc + 1) lv' st hp ce sl) : sV g M R Z pc lv (iv z :: st) hp ce sl := sv_istore_n hd hi hn (by subst hl; exact k)
theorem mr_istore {i : Nat} {z : Int} (hd : decode M.2.1 pc = .ok (.istore i, 2)) (hn : i < M.2.2.1) (hl : sSet i (iv z) lv = lv') (k : sV g M R Z (pc + 2) lv' st hp ce sl) : sV g M R Z pc lv (iv z :: st) hp ce sl := sv_istore hd hn (by subst hl; exact k)
theorem mr_lstore_n {q : Fin 4} {i : Nat} {z : Int} (hd : decode M.2.1 pc = .ok (.lstore_n q, 1)) (hi : (q : Nat) = i) (hn : i + 1 < M.2.2.1) (hl : sSetL i (jv z) lv = lv') (k : sV g M R Z (pc + 1) lv' st hp ce sl) : sV g M R Z pc lv (jv z :: st) hp ce sl := sv_lstore_n hd hi hn (by subst hl; exact k)
theorem mr_lstore {i : Nat} {z : Int} (hd : decode M.2.1 pc = .ok (.lstore i, 2)) (hn : i + 1 < M.2.2.1) (hl : sSetL i (jv z) lv = lv') (k : sV g M R Z (pc + 2) lv' st hp ce sl) : sV g M R Z pc lv (jv z :: st) hp ce sl := sv_lstore hd hn (by subst hl; exact k)
theorem mr_astore_n {q : Fin 4} {i a : Nat} (hd : decode M.2.1 pc = .ok (.astore_n q, 1)) (hi : (q : Nat) = i) (hn : i < M.2.2.1) (hl : sSet i (.ref a) lv = lv') (k : sV g M R Z (pc + 1) lv' st hp ce sl) : sV g M R Z pc lv (.ref a :: st) hp ce sl := sv_astore_n hd hi hn (by subst hl; exact k)
theorem mr_astore {i a : Nat} (hd : decode M.2.1 pc = .ok (.astore i, 2)) (hn : i < M.2.2.1) (hl : sSet i (.ref a) lv = lv') (k : sV g M R Z (pc + 2) lv' st hp ce sl) : sV g M R Z pc lv (.ref a :: st) hp ce sl := sv_astore hd hn (by subst hl; exact k)
theorem mr_iinc {i : Nat} {n z : Int} (hd : decode M.2.1 pc = .ok (.iinc i n, 3)) (hg : sGet i lv = some (iv z)) (hn : i < M.2.2.1) (hl : sSet i (iv (z + n)) lv = lv') (k : sV g M R Z (pc + 3) lv' st hp ce sl) : sV g M R Z pc lv st hp ce sl := sv_iinc hd hg rfl hn (by rw [← Int32.ofInt_add]; subst hl; exact k)
theorem mr_iadd {x y : Int} (hd : decode M.2.1 pc = .ok (.iadd, 1)) (k : sV g M R Z (pc + 1) lv (iv (x + y) :: st) hp ce sl) : sV g M R Z pc lv (iv y :: iv x :: st) hp ce sl := sv_iadd hd (by rw [← Int32.ofInt_add]; exact k)
theorem mr_isub {x y : Int} (hd : decode M.2.1 pc = .ok (.isub, 1)) (k : sV g M R Z (pc + 1) lv (iv (x - y) :: st) hp ce sl) : sV g M R Z pc lv (iv y :: iv x :: st) hp ce sl := sv_isub hd (by rw [← Int32.ofInt_sub]; exact k)
theorem mr_imul {x y : Int} (hd : decode M.2.1 pc = .ok (.imul, 1)) (k : sV g M R Z (pc + 1) lv (iv (x * y) :: st) hp ce sl) : sV g M R Z pc lv (iv y :: iv x :: st) hp ce sl := sv_imul hd (by rw [← Int32.ofInt_mul]; exact k)
theorem mr_ineg {x : Int} (hd : decode M.2.1 pc = .ok (.ineg, 1)) (k : sV g M R Z (pc + 1) lv (iv (-x) :: st) hp ce sl) : sV g M R Z pc lv (iv x :: st) hp ce sl := sv_ineg hd (by rw [← Int32.ofInt_neg]; exact k)
theorem mr_cast {x : Int} (h : -2147483648 ≤ x ∧ x ≤ 2147483647) (v : Int32) (q : v.toInt = x) : (Value.int v) = iv x := by
  subst q; simp only [iv, Int32.ofInt_toInt]
theorem mr_iand {x y : Int} (hd : decode M.2.1 pc = .ok (.iand, 1)) (k : sV g M R Z (pc + 1) lv (iv (bAnd x y) :: st) hp ce sl) : sV g M R Z pc lv (iv y :: iv x :: st) hp ce sl := sv_iand hd (by simp only [bAnd, iv, Int32.ofInt_toInt] at k; exact k)
theorem mr_ior {x y : Int} (hd : decode M.2.1 pc = .ok (.ior, 1)) (k : sV g M R Z (pc + 1) lv (iv (bOr x y) :: st) hp ce sl) : sV g M R Z pc lv (iv y :: iv x :: st) hp ce sl := sv_ior hd (by simp only [bOr, iv, Int32.ofInt_toInt] at k; exact k)
theorem mr_ixor {x y : Int} (hd : decode M.2.1 pc = .ok (.ixor, 1)) (k : sV g M R Z (pc + 1) lv (iv (bXor x y) :: st) hp ce sl) : sV g M R Z pc lv (iv y :: iv x :: st) hp ce sl := sv_ixor hd (by simp only [bXor, iv, Int32.ofInt_toInt] at k; exact k)
theorem mr_ishl {x y : Int} (hd : decode M.2.1 pc = .ok (.ishl, 1)) (k : sV g M R Z (pc + 1) lv (iv (bShl x y) :: st) hp ce sl) : sV g M R Z pc lv (iv y :: iv x :: st) hp ce sl := sv_ishl hd (by simp only [bShl, iv, Int32.ofInt_toInt] at k; exact k)
theorem mr_ishr {x y : Int} (hd : decode M.2.1 pc = .ok (.ishr, 1)) (k : sV g M R Z (pc + 1) lv (iv (bShr x y) :: st) hp ce sl) : sV g M R Z pc lv (iv y :: iv x :: st) hp ce sl := sv_ishr hd (by simp only [bShr, iv, Int32.ofInt_toInt] at k; exact k)
theorem mr_iushr {x y : Int} (hd : decode M.2.1 pc = .ok (.iushr, 1)) (k : sV g M R Z (pc + 1) lv (iv (bUsh x y) :: st) hp ce sl) : sV g M R Z pc lv (iv y :: iv x :: st) hp ce sl := sv_iushr hd rfl (by simp only [bUsh, iv, Int32.ofInt_toInt] at k; exact k)
theorem mr_i2b {x : Int} (hd : decode M.2.1 pc = .ok (.i2b, 1)) (k : sV g M R Z (pc + 1) lv (iv (bByte x) :: st) hp ce sl) : sV g M R Z pc lv (iv x :: st) hp ce sl := sv_i2b hd rfl (by simp only [bByte, iv, Int32.ofInt_toInt] at k; exact k)
theorem mr_idiv {x y : Int} (hd : decode M.2.1 pc = .ok (.idiv, 1)) (hx : 0 ≤ x ∧ x ≤ 2147483647) (hy : 0 < y ∧ y ≤ 2147483647) (k : sV g M R Z (pc + 1) lv (iv (x / y) :: st) hp ce sl) : sV g M R Z pc lv (iv y :: iv x :: st) hp ce sl := by
  have e : Int32.ofInt x / Int32.ofInt y = Int32.ofInt (x / y) := by
    rw [← Int.tdiv_eq_ediv_of_nonneg hx.1]
    exact (Int32.ofInt_tdiv (by show -2147483648 ≤ x; omega) (by show x ≤ 2147483647; omega) (by show -2147483648 ≤ y; omega) (by show y ≤ 2147483647; omega)).symm
  refine sv_idiv hd (fun q => ?_) (by rw [e]; exact k)
  have : Int32.ofInt y = Int32.ofInt 0 := q
  rw [iv_eq (by omega) (by omega)] at this; omega
theorem mr_irem {x y : Int} (hd : decode M.2.1 pc = .ok (.irem, 1)) (hx : 0 ≤ x ∧ x ≤ 2147483647) (hy : 0 < y ∧ y ≤ 2147483647) (k : sV g M R Z (pc + 1) lv (iv (x % y) :: st) hp ce sl) : sV g M R Z pc lv (iv y :: iv x :: st) hp ce sl := by
  have e : Int32.ofInt x / Int32.ofInt y = Int32.ofInt (x / y) := by
    rw [← Int.tdiv_eq_ediv_of_nonneg hx.1]
    exact (Int32.ofInt_tdiv (by show -2147483648 ≤ x; omega) (by show x ≤ 2147483647; omega) (by show -2147483648 ≤ y; omega) (by show y ≤ 2147483647; omega)).symm
  refine sv_irem hd (fun q => ?_) ?_
  · have : Int32.ofInt y = Int32.ofInt 0 := q
    rw [iv_eq (by omega) (by omega)] at this; omega
  · rw [e, ← Int32.ofInt_mul, ← Int32.ofInt_sub]
    rw [show x - x / y * y = x % y by have := Int.emod_add_mul_ediv x y; rw [Int.mul_comm] at this; omega]
    exact k
theorem mr_land {x y : Int} (hd : decode M.2.1 pc = .ok (.land, 1)) (k : sV g M R Z (pc + 1) lv (jv (lAnd x y) :: st) hp ce sl) : sV g M R Z pc lv (jv y :: jv x :: st) hp ce sl := sv_land hd (by simp only [lAnd, jv, Int64.ofInt_toInt] at k; exact k)
theorem mr_lor {x y : Int} (hd : decode M.2.1 pc = .ok (.lor, 1)) (k : sV g M R Z (pc + 1) lv (jv (lOr x y) :: st) hp ce sl) : sV g M R Z pc lv (jv y :: jv x :: st) hp ce sl := sv_lor hd (by simp only [lOr, jv, Int64.ofInt_toInt] at k; exact k)
theorem mr_ladd {x y : Int} (hd : decode M.2.1 pc = .ok (.ladd, 1)) (k : sV g M R Z (pc + 1) lv (jv (lAdd x y) :: st) hp ce sl) : sV g M R Z pc lv (jv y :: jv x :: st) hp ce sl := sv_ladd hd (by simp only [lAdd, jv, Int64.ofInt_toInt] at k; exact k)
theorem mr_lsub {x y : Int} (hd : decode M.2.1 pc = .ok (.lsub, 1)) (k : sV g M R Z (pc + 1) lv (jv (lSub x y) :: st) hp ce sl) : sV g M R Z pc lv (jv y :: jv x :: st) hp ce sl := sv_lsub hd (by simp only [lSub, jv, Int64.ofInt_toInt] at k; exact k)
theorem mr_lshl {x y : Int} (hd : decode M.2.1 pc = .ok (.lshl, 1)) (k : sV g M R Z (pc + 1) lv (jv (lShl x y) :: st) hp ce sl) : sV g M R Z pc lv (iv y :: jv x :: st) hp ce sl := sv_lshl hd rfl (by simp only [lShl, jv, Int64.ofInt_toInt] at k; exact k)
theorem mr_lshr {x y : Int} (hd : decode M.2.1 pc = .ok (.lshr, 1)) (k : sV g M R Z (pc + 1) lv (jv (lShr x y) :: st) hp ce sl) : sV g M R Z pc lv (iv y :: jv x :: st) hp ce sl := sv_lshr hd rfl (by simp only [lShr, jv, Int64.ofInt_toInt] at k; exact k)
theorem mr_lushr {x y : Int} (hd : decode M.2.1 pc = .ok (.lushr, 1)) (k : sV g M R Z (pc + 1) lv (jv (lUsh x y) :: st) hp ce sl) : sV g M R Z pc lv (iv y :: jv x :: st) hp ce sl := sv_lushr hd rfl (by simp only [lUsh, jv, Int64.ofInt_toInt] at k; exact k)
theorem mr_i2l {x : Int} (hd : decode M.2.1 pc = .ok (.i2l, 1)) (hx : -2147483648 ≤ x ∧ x ≤ 2147483647) (k : sV g M R Z (pc + 1) lv (jv x :: st) hp ce sl) : sV g M R Z pc lv (iv x :: st) hp ce sl := sv_i2l hd (v := Int64.ofInt x) (Int64.toInt_inj.mp (by rw [Int32.toInt_toInt64, ivI hx, jvI (by omega)])) k
theorem mr_l2i {x : Int} (hd : decode M.2.1 pc = .ok (.l2i, 1)) (k : sV g M R Z (pc + 1) lv (iv (lInt x) :: st) hp ce sl) : sV g M R Z pc lv (jv x :: st) hp ce sl := sv_l2i hd rfl (by simp only [lInt, iv, Int32.ofInt_toInt] at k; exact k)
theorem mr_lcmp {x y : Int} (hd : decode M.2.1 pc = .ok (.lcmp, 1)) (k : sV g M R Z (pc + 1) lv (iv (lCmp x y) :: st) hp ce sl) : sV g M R Z pc lv (jv y :: jv x :: st) hp ce sl := sv_lcmp hd (by simp only [lCmp, iv, Int32.ofInt_toInt] at k; exact k)
theorem mr_icmp_lt {x y off : Int} {tgt : Nat} (hd : decode M.2.1 pc = .ok (.if_icmp .lt off, 3)) (ht : (pc : Int) + off = (tgt : Int)) (hx : -2147483648 ≤ x ∧ x ≤ 2147483647) (hy : -2147483648 ≤ y ∧ y ≤ 2147483647) (kt : x < y → sV g M R Z tgt lv st hp ce sl) (kf : y ≤ x → sV g M R Z (pc + 3) lv st hp ce sl) : sV g M R Z pc lv (iv y :: iv x :: st) hp ce sl := sv_icmp_lt hd ht (fun h => kt ((iv_lt hx hy).mp h)) (fun h => kf (Int.not_lt.mp fun q => h ((iv_lt hx hy).mpr q)))
theorem mr_icmp_ge {x y off : Int} {tgt : Nat} (hd : decode M.2.1 pc = .ok (.if_icmp .ge off, 3)) (ht : (pc : Int) + off = (tgt : Int)) (hx : -2147483648 ≤ x ∧ x ≤ 2147483647) (hy : -2147483648 ≤ y ∧ y ≤ 2147483647) (kt : y ≤ x → sV g M R Z tgt lv st hp ce sl) (kf : x < y → sV g M R Z (pc + 3) lv st hp ce sl) : sV g M R Z pc lv (iv y :: iv x :: st) hp ce sl := sv_icmp_ge hd ht (fun h => kt ((iv_le hy hx).mp h)) (fun h => kf (Int.not_le.mp fun q => h ((iv_le hy hx).mpr q)))
theorem mr_icmp_gt {x y off : Int} {tgt : Nat} (hd : decode M.2.1 pc = .ok (.if_icmp .gt off, 3)) (ht : (pc : Int) + off = (tgt : Int)) (hx : -2147483648 ≤ x ∧ x ≤ 2147483647) (hy : -2147483648 ≤ y ∧ y ≤ 2147483647) (kt : y < x → sV g M R Z tgt lv st hp ce sl) (kf : x ≤ y → sV g M R Z (pc + 3) lv st hp ce sl) : sV g M R Z pc lv (iv y :: iv x :: st) hp ce sl := sv_icmp_gt hd ht (fun h => kt ((iv_lt hy hx).mp h)) (fun h => kf (Int.not_lt.mp fun q => h ((iv_lt hy hx).mpr q)))
theorem mr_icmp_le {x y off : Int} {tgt : Nat} (hd : decode M.2.1 pc = .ok (.if_icmp .le off, 3)) (ht : (pc : Int) + off = (tgt : Int)) (hx : -2147483648 ≤ x ∧ x ≤ 2147483647) (hy : -2147483648 ≤ y ∧ y ≤ 2147483647) (kt : x ≤ y → sV g M R Z tgt lv st hp ce sl) (kf : y < x → sV g M R Z (pc + 3) lv st hp ce sl) : sV g M R Z pc lv (iv y :: iv x :: st) hp ce sl := sv_icmp_le hd ht (fun h => kt ((iv_le hx hy).mp h)) (fun h => kf (Int.not_le.mp fun q => h ((iv_le hx hy).mpr q)))
theorem mr_icmp_eq {x y off : Int} {tgt : Nat} (hd : decode M.2.1 pc = .ok (.if_icmp .eq off, 3)) (ht : (pc : Int) + off = (tgt : Int)) (hx : -2147483648 ≤ x ∧ x ≤ 2147483647) (hy : -2147483648 ≤ y ∧ y ≤ 2147483647) (kt : x = y → sV g M R Z tgt lv st hp ce sl) (kf : ¬ x = y → sV g M R Z (pc + 3) lv st hp ce sl) : sV g M R Z pc lv (iv y :: iv x :: st) hp ce sl := sv_icmp_eq hd ht (fun h => kt ((iv_eq hx hy).mp h)) (fun h => kf (fun q => h ((iv_eq hx hy).mpr q)))
theorem mr_icmp_ne {x y off : Int} {tgt : Nat} (hd : decode M.2.1 pc = .ok (.if_icmp .ne off, 3)) (ht : (pc : Int) + off = (tgt : Int)) (hx : -2147483648 ≤ x ∧ x ≤ 2147483647) (hy : -2147483648 ≤ y ∧ y ≤ 2147483647) (kt : ¬ x = y → sV g M R Z tgt lv st hp ce sl) (kf : x = y → sV g M R Z (pc + 3) lv st hp ce sl) : sV g M R Z pc lv (iv y :: iv x :: st) hp ce sl := sv_icmp_ne hd ht (fun h => kt (fun q => h ((iv_eq hx hy).mpr q))) (fun h => kf ((iv_eq hx hy).mp h))
theorem z32 : (-2147483648 : Int) ≤ 0 ∧ (0 : Int) ≤ 2147483647 := by decide
theorem mr_if_lt {x off : Int} {tgt : Nat} (hd : decode M.2.1 pc = .ok (.ifCond .lt off, 3)) (ht : (pc : Int) + off = (tgt : Int)) (hx : -2147483648 ≤ x ∧ x ≤ 2147483647) (kt : x < 0 → sV g M R Z tgt lv st hp ce sl) (kf : 0 ≤ x → sV g M R Z (pc + 3) lv st hp ce sl) : sV g M R Z pc lv (iv x :: st) hp ce sl := sv_if_lt hd ht (fun h => kt ((iv_lt hx z32).mp h)) (fun h => kf (Int.not_lt.mp fun q => h ((iv_lt hx z32).mpr q)))
theorem mr_if_ge {x off : Int} {tgt : Nat} (hd : decode M.2.1 pc = .ok (.ifCond .ge off, 3)) (ht : (pc : Int) + off = (tgt : Int)) (hx : -2147483648 ≤ x ∧ x ≤ 2147483647) (kt : 0 ≤ x → sV g M R Z tgt lv st hp ce sl) (kf : x < 0 → sV g M R Z (pc + 3) lv st hp ce sl) : sV g M R Z pc lv (iv x :: st) hp ce sl := sv_if_ge hd ht (fun h => kt ((iv_le z32 hx).mp h)) (fun h => kf (Int.not_le.mp fun q => h ((iv_le z32 hx).mpr q)))
theorem mr_if_gt {x off : Int} {tgt : Nat} (hd : decode M.2.1 pc = .ok (.ifCond .gt off, 3)) (ht : (pc : Int) + off = (tgt : Int)) (hx : -2147483648 ≤ x ∧ x ≤ 2147483647) (kt : 0 < x → sV g M R Z tgt lv st hp ce sl) (kf : x ≤ 0 → sV g M R Z (pc + 3) lv st hp ce sl) : sV g M R Z pc lv (iv x :: st) hp ce sl := sv_if_gt hd ht (fun h => kt ((iv_lt z32 hx).mp h)) (fun h => kf (Int.not_lt.mp fun q => h ((iv_lt z32 hx).mpr q)))
theorem mr_if_le {x off : Int} {tgt : Nat} (hd : decode M.2.1 pc = .ok (.ifCond .le off, 3)) (ht : (pc : Int) + off = (tgt : Int)) (hx : -2147483648 ≤ x ∧ x ≤ 2147483647) (kt : x ≤ 0 → sV g M R Z tgt lv st hp ce sl) (kf : 0 < x → sV g M R Z (pc + 3) lv st hp ce sl) : sV g M R Z pc lv (iv x :: st) hp ce sl := sv_if_le hd ht (fun h => kt ((iv_le hx z32).mp h)) (fun h => kf (Int.not_le.mp fun q => h ((iv_le hx z32).mpr q)))
theorem mr_if_eq {x off : Int} {tgt : Nat} (hd : decode M.2.1 pc = .ok (.ifCond .eq off, 3)) (ht : (pc : Int) + off = (tgt : Int)) (hx : -2147483648 ≤ x ∧ x ≤ 2147483647) (kt : x = 0 → sV g M R Z tgt lv st hp ce sl) (kf : ¬ x = 0 → sV g M R Z (pc + 3) lv st hp ce sl) : sV g M R Z pc lv (iv x :: st) hp ce sl := sv_if_eq hd ht (fun h => kt ((iv_eq hx z32).mp h)) (fun h => kf (fun q => h ((iv_eq hx z32).mpr q)))
theorem mr_if_ne {x off : Int} {tgt : Nat} (hd : decode M.2.1 pc = .ok (.ifCond .ne off, 3)) (ht : (pc : Int) + off = (tgt : Int)) (hx : -2147483648 ≤ x ∧ x ≤ 2147483647) (kt : ¬ x = 0 → sV g M R Z tgt lv st hp ce sl) (kf : x = 0 → sV g M R Z (pc + 3) lv st hp ce sl) : sV g M R Z pc lv (iv x :: st) hp ce sl := sv_if_ne hd ht (fun h => kt (fun q => h ((iv_eq hx z32).mpr q))) (fun h => kf ((iv_eq hx z32).mp h))
theorem mr_tableIn {dflt lo hi : Int} {offs : Array Int} {len : Nat} {x v off : Int} {tgt : Nat} (hd : decode M.2.1 pc = .ok (.tableswitch dflt lo hi offs, len)) (hx : x = v) (hv : decide (-2147483648 ≤ v) && (decide (v ≤ 2147483647) && (decide (lo ≤ v) && decide (v ≤ hi))) = true) (ho : offs[(v - lo).toNat]? = some off) (ht : (pc : Int) + off = (tgt : Int)) (k : sV g M R Z tgt lv st hp ce sl) : sV g M R Z pc lv (iv x :: st) hp ce sl := by
  subst hx
  simp only [Bool.and_eq_true, decide_eq_true_eq] at hv
  have e := ivI (x := x) (by omega)
  exact sv_tableIn hd (by rw [e]; omega) (by rw [e]; omega) (by rw [e]; exact ho) ht k
theorem mr_tableOut {dflt lo hi : Int} {offs : Array Int} {len : Nat} {x : Int} {tgt : Nat} (hd : decode M.2.1 pc = .ok (.tableswitch dflt lo hi offs, len)) (hx : -2147483648 ≤ x ∧ x ≤ 2147483647) (ho : x < lo ∨ hi < x) (ht : (pc : Int) + dflt = (tgt : Int)) (k : sV g M R Z tgt lv st hp ce sl) : sV g M R Z pc lv (iv x :: st) hp ce sl := by
  have e := ivI hx
  exact sv_tableOut hd (by rw [e]; exact ho) ht k
/-! cells -/
theorem rf_nat (b : Nat) : rf (b : Int) = .ref b := by
  simp only [rf]; rw [if_neg (by omega)]; rfl
theorem rf_pos {z : Int} (h : 0 ≤ z) : rf z = .ref z.toNat := by simp only [rf]; rw [if_neg (by omega)]
theorem mr_get {index ci a s k kk : Nat} {T : vw_C} {ty : Nat → FieldType} {ks : List Nat} {z : Int} (hd : decode M.2.1 pc = .ok (.getfield index, 3)) (hC : sCl g ci T ty) (hk : k < T.2.2) (hw : sFl T M.1.cls index k ∈ sg_ws g) (hA : mAt w a s) (hs : mTab s = .inl (ci, ks)) (hl : k < ks.length) (hkk : ks.getD k 0 = kk) (q : μ a k = z)
    (kt : sV g M R Z (pc + 3) lv (mv kk z :: st) (mk w μ) ce sl) : sV g M R Z pc lv (.ref a :: st) (mk w μ) ce sl :=
  sv_getfield hd hC k hk hw hA.2.1 (mk_obj hA hs) (by rw [mRgV _ hl, hkk, q]) kt
theorem mr_put {index ci a s k kk : Nat} {T : vw_C} {ty : Nat → FieldType} {ks : List Nat} {z : Int} (hd : decode M.2.1 pc = .ok (.putfield index, 3)) (hC : sCl g ci T ty) (hk : k < T.2.2) (hw : sFl T M.1.cls index k ∈ sg_ws g) (hfin : (T.2.1 k).2.2.2 = false) (hA : mAt w a s) (hs : mTab s = .inl (ci, ks)) (hl : k < ks.length) (hkk : ks.getD k 0 = kk) (hn : ∀ b, narrow (ty k) (rv b (mv kk z)) = rv b (mv kk z)) (hft : ∀ b, fits (ty k) (rv b (mv kk z)) = true)
    (kt : ∀ μ1, mU μ a k z μ1 → sV g M R Z (pc + 3) lv st (mk w μ1) ce sl) : sV g M R Z pc lv (mv kk z :: .ref a :: st) (mk w μ) ce sl := by
  refine sv_putfield hd hC k hk hw hfin hA.2.1 (mk_obj hA hs) hn hft (by simp; exact hl) ?_
  refine sv_heap (hp' := mk w (mUp μ a k z)) rfl (fun j _ => ?_) (kt _ mUp_ok)
  show sUp (mk w μ).2 a _ j = (mk w (mUp μ a k z)).2 j
  by_cases h : j = a
  · subst h
    rw [sUp_at, mk_obj hA hs, mRgS]
    congr 2
    apply List.map_congr_left
    intro i _
    simp only [mUp, true_and]
    split
    next e => subst e; rw [hkk]
    next => rfl
  · rw [sUp_ne _ _ h, mk_other h]
theorem mr_aget {a s kd n : Nat} {e : Int} (hA : mAt w a s) (hs : mTab s = .inr (kd, n)) (hi : 0 ≤ e ∧ e < (w.2.2.1 a : Int)) (hn : w.2.2.1 a ≤ 2147483647) : vp_in (Int32.ofInt e) (w.2.2.1 a) ∧ ∀ z, μ a e.toNat = z → mv n (μ a (Int32.ofInt e).toNatClampNeg) = mv n z := ⟨iv_in hi hn, fun z q => by rw [iv_nat hi hn, q]⟩
theorem mr_iald {a s kd : Nat} {cA : ClassId} {e z : Int} (hd : decode M.2.1 pc = .ok (.iaload, 1)) (ht : g.2.2.1[kd]? = some (cA, .int)) (hA : mAt w a s) (hs : mTab s = .inr (kd, 0)) (hi : 0 ≤ e ∧ e < (w.2.2.1 a : Int)) (hn : w.2.2.1 a ≤ 2147483647) (q : μ a e.toNat = z)
    (kt : sV g M R Z (pc + 1) lv (iv z :: st) (mk w μ) ce sl) : sV g M R Z pc lv (iv e :: .ref a :: st) (mk w μ) ce sl :=
  sv_iaload hd ht hA.2.1 (mk_arr hA hs) (iv_in hi hn) ((mr_aget hA hs hi hn).2 z q) kt
theorem mr_bald {a s kd : Nat} {cA : ClassId} {e z : Int} (hd : decode M.2.1 pc = .ok (.baload, 1)) (ht : g.2.2.1[kd]? = some (cA, .byte)) (hA : mAt w a s) (hs : mTab s = .inr (kd, 0)) (hi : 0 ≤ e ∧ e < (w.2.2.1 a : Int)) (hn : w.2.2.1 a ≤ 2147483647) (q : μ a e.toNat = z)
    (kt : sV g M R Z (pc + 1) lv (iv z :: st) (mk w μ) ce sl) : sV g M R Z pc lv (iv e :: .ref a :: st) (mk w μ) ce sl :=
  sv_baload hd ht hA.2.1 (mk_arr hA hs) (iv_in hi hn) ((mr_aget hA hs hi hn).2 z q) kt
theorem mr_zald {a s kd : Nat} {cA : ClassId} {e z : Int} (hd : decode M.2.1 pc = .ok (.baload, 1)) (ht : g.2.2.1[kd]? = some (cA, .boolean)) (hA : mAt w a s) (hs : mTab s = .inr (kd, 0)) (hi : 0 ≤ e ∧ e < (w.2.2.1 a : Int)) (hn : w.2.2.1 a ≤ 2147483647) (q : μ a e.toNat = z)
    (kt : sV g M R Z (pc + 1) lv (iv z :: st) (mk w μ) ce sl) : sV g M R Z pc lv (iv e :: .ref a :: st) (mk w μ) ce sl :=
  sv_zaload hd ht hA.2.1 (mk_arr hA hs) (iv_in hi hn) ((mr_aget hA hs hi hn).2 z q) kt
theorem mr_lald {a s kd : Nat} {cA : ClassId} {e z : Int} (hd : decode M.2.1 pc = .ok (.laload, 1)) (ht : g.2.2.1[kd]? = some (cA, .long)) (hA : mAt w a s) (hs : mTab s = .inr (kd, 1)) (hi : 0 ≤ e ∧ e < (w.2.2.1 a : Int)) (hn : w.2.2.1 a ≤ 2147483647) (q : μ a e.toNat = z)
    (kt : sV g M R Z (pc + 1) lv (jv z :: st) (mk w μ) ce sl) : sV g M R Z pc lv (iv e :: .ref a :: st) (mk w μ) ce sl :=
  sv_laload hd ht hA.2.1 (mk_arr hA hs) (iv_in hi hn) ((mr_aget hA hs hi hn).2 z q) kt
theorem mr_aald {a s kd : Nat} {cA : ClassId} {C0 : String} {e : Int} {b : Nat} (hd : decode M.2.1 pc = .ok (.aaload, 1)) (ht : g.2.2.1[kd]? = some (cA, .object C0)) (hA : mAt w a s) (hs : mTab s = .inr (kd, 2)) (hi : 0 ≤ e ∧ e < (w.2.2.1 a : Int)) (hn : w.2.2.1 a ≤ 2147483647) (q : μ a e.toNat = (b : Int))
    (kt : sV g M R Z (pc + 1) lv (.ref b :: st) (mk w μ) ce sl) : sV g M R Z pc lv (iv e :: .ref a :: st) (mk w μ) ce sl :=
  sv_aaload hd ht hA.2.1 (mk_arr hA hs) (iv_in hi hn) (((mr_aget hA hs hi hn).2 _ q).trans (rf_nat b)) kt
theorem mr_astH {a s kd n : Nat} {e z : Int} {v : Value} (hA : mAt w a s) (hs : mTab s = .inr (kd, n)) (hi : 0 ≤ e ∧ e < (w.2.2.1 a : Int)) (hn : w.2.2.1 a ≤ 2147483647) (hv : v = mv n z)
    (kt : ∀ μ1, mU μ a e.toNat z μ1 → sV g M R Z (pc + 1) lv st (mk w μ1) ce sl) : sV g M R Z (pc + 1) lv st ((mk w μ).1, sUp (mk w μ).2 a (.inl (kd, w.2.2.1 a, updV (fun i => mv n (μ a i)) (Int32.ofInt e).toNatClampNeg v))) ce sl := by
  refine sv_heap (hp' := mk w (mUp μ a e.toNat z)) rfl (fun j _ => ?_) (kt _ mUp_ok)
  show sUp (mk w μ).2 a _ j = (mk w (mUp μ a e.toNat z)).2 j
  by_cases h : j = a
  · subst h
    rw [sUp_at, mk_arr hA hs, iv_nat hi hn, hv]
    congr 3
    funext i
    simp only [updV, mUp, true_and]
    split <;> rfl
  · rw [sUp_ne _ _ h, mk_other h]
theorem mr_iast {a s kd : Nat} {cA : ClassId} {e z : Int} (hd : decode M.2.1 pc = .ok (.iastore, 1)) (ht : g.2.2.1[kd]? = some (cA, .int)) (hA : mAt w a s) (hs : mTab s = .inr (kd, 0)) (hi : 0 ≤ e ∧ e < (w.2.2.1 a : Int)) (hn : w.2.2.1 a ≤ 2147483647)
    (kt : ∀ μ1, mU μ a e.toNat z μ1 → sV g M R Z (pc + 1) lv st (mk w μ1) ce sl) : sV g M R Z pc lv (iv z :: iv e :: .ref a :: st) (mk w μ) ce sl :=
  sv_iastore hd ht hA.2.1 (mk_arr hA hs) (iv_in hi hn) (mr_astH hA hs hi hn rfl kt)
theorem mr_last {a s kd : Nat} {cA : ClassId} {e z : Int} (hd : decode M.2.1 pc = .ok (.lastore, 1)) (ht : g.2.2.1[kd]? = some (cA, .long)) (hA : mAt w a s) (hs : mTab s = .inr (kd, 1)) (hi : 0 ≤ e ∧ e < (w.2.2.1 a : Int)) (hn : w.2.2.1 a ≤ 2147483647)
    (kt : ∀ μ1, mU μ a e.toNat z μ1 → sV g M R Z (pc + 1) lv st (mk w μ1) ce sl) : sV g M R Z pc lv (jv z :: iv e :: .ref a :: st) (mk w μ) ce sl :=
  sv_lastore hd ht hA.2.1 (mk_arr hA hs) (iv_in hi hn) (mr_astH hA hs hi hn rfl kt)
theorem nar01 {z : Int} (h : 0 ≤ z ∧ z ≤ 1) : vp_nar .boolean (Int32.ofInt z) = Int32.ofInt z := by
  have : z = 0 ∨ z = 1 := by omega
  rcases this with rfl | rfl <;> decide
theorem nar01v {z : Int} (h : 0 ≤ z ∧ z ≤ 1) (b : Nat × Nat) : narrow .boolean (rv b (iv z)) = rv b (iv z) := by
  have : z = 0 ∨ z = 1 := by omega
  rcases this with rfl | rfl <;> rfl
theorem nar01i {z : Int} (h : 0 ≤ z ∧ z ≤ 1) : narrow .boolean (.int (Int32.ofInt z)) = .int (Int32.ofInt z) := by
  have : z = 0 ∨ z = 1 := by omega
  rcases this with rfl | rfl <;> rfl
theorem mr_zast {a s kd : Nat} {cA : ClassId} {e z : Int} (hd : decode M.2.1 pc = .ok (.bastore, 1)) (ht : g.2.2.1[kd]? = some (cA, .boolean)) (hA : mAt w a s) (hs : mTab s = .inr (kd, 0)) (hi : 0 ≤ e ∧ e < (w.2.2.1 a : Int)) (hn : w.2.2.1 a ≤ 2147483647) (hz : 0 ≤ z ∧ z ≤ 1)
    (kt : ∀ μ1, mU μ a e.toNat z μ1 → sV g M R Z (pc + 1) lv st (mk w μ1) ce sl) : sV g M R Z pc lv (iv z :: iv e :: .ref a :: st) (mk w μ) ce sl :=
  sv_zastore hd ht hA.2.1 (mk_arr hA hs) (iv_in hi hn) (mr_astH hA hs hi hn (by rw [nar01 hz]; rfl) kt)
/-! results, returns, calls -/
end MV
def qI (w : mW) (l : List Nat) (μ : mM) (P : Int → mM → Prop) : Option Value → sHp → Prop := fun r hp => ∃ z μ1, r = some (iv z) ∧ hp = mk w μ1 ∧ mT w μ1 ∧ mF l w μ μ1 ∧ P z μ1
def qJ (w : mW) (l : List Nat) (μ : mM) (P : Int → mM → Prop) : Option Value → sHp → Prop := fun r hp => ∃ z μ1, r = some (jv z) ∧ hp = mk w μ1 ∧ mT w μ1 ∧ mF l w μ μ1 ∧ P z μ1
def qV (w : mW) (l : List Nat) (μ : mM) (P : mM → Prop) : Option Value → sHp → Prop := fun r hp => ∃ μ1, r = none ∧ hp = mk w μ1 ∧ mT w μ1 ∧ mF l w μ μ1 ∧ P μ1
section MC
variable {g : sG} {M M' : sM} {R : Room} {Z : sZT} {d' d C S : Nat} {pc : Nat} {lv : List (Nat × Value)} {st st0 av : List Value} {w : mW} {μ μ1 : mM} {l : List Nat} {ce sl : Nat}
theorem mr_iret {z : Int} {P : Int → mM → Prop} (hd : decode M.2.1 pc = .ok (.ireturn, 1)) (hret : M.2.2.2 = some .int) (hc : ce ≤ C) (hs : sl ≤ S) (hT : mT w μ1) (hF : mF l w μ μ1) (hP : P z μ1) : sV g M R (sZ g C S (qI w l μ P)) pc lv [iv z] (mk w μ1) ce sl := sv_iret hd hret hc hs ⟨z, μ1, rfl, rfl, hT, hF, hP⟩
theorem mr_zret {z : Int} {P : Int → mM → Prop} (hd : decode M.2.1 pc = .ok (.ireturn, 1)) (hret : M.2.2.2 = some .boolean) (hz : 0 ≤ z ∧ z ≤ 1) (hc : ce ≤ C) (hs : sl ≤ S) (hT : mT w μ1) (hF : mF l w μ μ1) (hP : P z μ1) : sV g M R (sZ g C S (qI w l μ P)) pc lv [iv z] (mk w μ1) ce sl := sv_zret hd hret (nar01i hz) hc hs ⟨z, μ1, rfl, rfl, hT, hF, hP⟩
theorem mr_lret {z : Int} {P : Int → mM → Prop} (hd : decode M.2.1 pc = .ok (.lreturn, 1)) (hret : M.2.2.2 = some .long) (hc : ce ≤ C) (hs : sl ≤ S) (hT : mT w μ1) (hF : mF l w μ μ1) (hP : P z μ1) : sV g M R (sZ g C S (qJ w l μ P)) pc lv [jv z] (mk w μ1) ce sl := sv_lret hd hret hc hs ⟨z, μ1, rfl, rfl, hT, hF, hP⟩
theorem mr_vret {P : mM → Prop} (hd : decode M.2.1 pc = .ok (.return_, 1)) (hret : M.2.2.2 = none) (hc : ce ≤ C) (hs : sl ≤ S) (hT : mT w μ1) (hF : mF l w μ μ1) (hP : P μ1) : sV g M R (sZ g C S (qV w l μ P)) pc lv [] (mk w μ1) ce sl := sv_vret hd hret hc hs ⟨μ1, rfl, rfl, hT, hF, hP⟩
theorem mr_cVI {index ci a s : Nat} {T : vw_C} {ty : Nat → FieldType} {ks : List Nat} {P : Int → mM → Prop} (hct : sC g M' d' 0 0 (.ref a :: av) (mk w μ) (qI w l μ P)) (ho : sOk g) (hd : decode M.2.1 pc = .ok (.invokevirtual index, 3)) (hm : sMt g M' av.length) (hi : Cond.instanceMethod M'.1 ∈ sg_ws g ∧ Cond.selects M'.1.cls M'.1 M'.1 ∈ sg_ws g) (hlk : Cond.methodLink M.1.cls index M'.1 ∈ sg_ws g) (hC : sCl g ci T ty) (hT1 : T.1 = M'.1.cls) (hA : mAt w a s) (hs : mTab s = .inl (ci, ks)) (hR : d' + 1 ≤ R.frames ∧ 60 * d' + M'.2.2.1 + 19 ≤ R.locals) (hce : ce ≤ R.cells ∧ sl ≤ R.slots) (hst : st0 = av.reverse ++ .ref a :: st) (hr8 : (st.map fun v => v.category).sum ≤ 8)
    (kt : ∀ z μ1, mT w μ1 → mF l w μ μ1 → P z μ1 → sV g M R Z (pc + 3) lv (iv z :: st) (mk w μ1) ce sl) : sV g M R Z pc lv st0 (mk w μ) ce sl :=
  sv_callV hct ho hd hm hi hlk hC hT1 hA.2.1 (mk_obj hA hs) hR hce hst hr8 (by
    rintro r hp' ⟨z, μ1, rfl, rfl, h1, h2, h3⟩
    exact kt z μ1 h1 h2 h3)
theorem mr_cVJ {index ci a s : Nat} {T : vw_C} {ty : Nat → FieldType} {ks : List Nat} {P : Int → mM → Prop} (hct : sC g M' d' 0 0 (.ref a :: av) (mk w μ) (qJ w l μ P)) (ho : sOk g) (hd : decode M.2.1 pc = .ok (.invokevirtual index, 3)) (hm : sMt g M' av.length) (hi : Cond.instanceMethod M'.1 ∈ sg_ws g ∧ Cond.selects M'.1.cls M'.1 M'.1 ∈ sg_ws g) (hlk : Cond.methodLink M.1.cls index M'.1 ∈ sg_ws g) (hC : sCl g ci T ty) (hT1 : T.1 = M'.1.cls) (hA : mAt w a s) (hs : mTab s = .inl (ci, ks)) (hR : d' + 1 ≤ R.frames ∧ 60 * d' + M'.2.2.1 + 19 ≤ R.locals) (hce : ce ≤ R.cells ∧ sl ≤ R.slots) (hst : st0 = av.reverse ++ .ref a :: st) (hr8 : (st.map fun v => v.category).sum ≤ 8)
    (kt : ∀ z μ1, mT w μ1 → mF l w μ μ1 → P z μ1 → sV g M R Z (pc + 3) lv (jv z :: st) (mk w μ1) ce sl) : sV g M R Z pc lv st0 (mk w μ) ce sl :=
  sv_callV hct ho hd hm hi hlk hC hT1 hA.2.1 (mk_obj hA hs) hR hce hst hr8 (by
    rintro r hp' ⟨z, μ1, rfl, rfl, h1, h2, h3⟩
    exact kt z μ1 h1 h2 h3)
theorem mr_cVV {index ci a s : Nat} {T : vw_C} {ty : Nat → FieldType} {ks : List Nat} {P : mM → Prop} (hct : sC g M' d' 0 0 (.ref a :: av) (mk w μ) (qV w l μ P)) (ho : sOk g) (hd : decode M.2.1 pc = .ok (.invokevirtual index, 3)) (hm : sMt g M' av.length) (hi : Cond.instanceMethod M'.1 ∈ sg_ws g ∧ Cond.selects M'.1.cls M'.1 M'.1 ∈ sg_ws g) (hlk : Cond.methodLink M.1.cls index M'.1 ∈ sg_ws g) (hC : sCl g ci T ty) (hT1 : T.1 = M'.1.cls) (hA : mAt w a s) (hs : mTab s = .inl (ci, ks)) (hR : d' + 1 ≤ R.frames ∧ 60 * d' + M'.2.2.1 + 19 ≤ R.locals) (hce : ce ≤ R.cells ∧ sl ≤ R.slots) (hst : st0 = av.reverse ++ .ref a :: st) (hr8 : (st.map fun v => v.category).sum ≤ 8)
    (kt : ∀ μ1, mT w μ1 → mF l w μ μ1 → P μ1 → sV g M R Z (pc + 3) lv st (mk w μ1) ce sl) : sV g M R Z pc lv st0 (mk w μ) ce sl :=
  sv_callV hct ho hd hm hi hlk hC hT1 hA.2.1 (mk_obj hA hs) hR hce hst hr8 (by
    rintro r hp' ⟨μ1, rfl, rfl, h1, h2, h3⟩
    exact kt μ1 h1 h2 h3)
theorem mr_cSI {index : Nat} {P : Int → mM → Prop} (hct : sC g M' d' 0 0 av (mk w μ) (qI w l μ P)) (ho : sOk g) (hd : decode M.2.1 pc = .ok (.invokestatic index, 3)) (hm : sMt g M' av.length) (hi : Cond.static M'.1 ∈ sg_ws g) (hlk : Cond.methodLink M.1.cls index M'.1 ∈ sg_ws g) (hR : d' + 1 ≤ R.frames ∧ 60 * d' + M'.2.2.1 + 19 ≤ R.locals) (hce : ce ≤ R.cells ∧ sl ≤ R.slots) (hst : st0 = av.reverse ++ st) (hr8 : (st.map fun v => v.category).sum ≤ 8)
    (kt : ∀ z μ1, mT w μ1 → mF l w μ μ1 → P z μ1 → sV g M R Z (pc + 3) lv (iv z :: st) (mk w μ1) ce sl) : sV g M R Z pc lv st0 (mk w μ) ce sl :=
  sv_callS hct ho hd hm hi hlk hR hce hst hr8 (by
    rintro r hp' ⟨z, μ1, rfl, rfl, h1, h2, h3⟩
    exact kt z μ1 h1 h2 h3)
theorem mr_cSV {index : Nat} {P : mM → Prop} (hct : sC g M' d' 0 0 av (mk w μ) (qV w l μ P)) (ho : sOk g) (hd : decode M.2.1 pc = .ok (.invokestatic index, 3)) (hm : sMt g M' av.length) (hi : Cond.static M'.1 ∈ sg_ws g) (hlk : Cond.methodLink M.1.cls index M'.1 ∈ sg_ws g) (hR : d' + 1 ≤ R.frames ∧ 60 * d' + M'.2.2.1 + 19 ≤ R.locals) (hce : ce ≤ R.cells ∧ sl ≤ R.slots) (hst : st0 = av.reverse ++ st) (hr8 : (st.map fun v => v.category).sum ≤ 8)
    (kt : ∀ μ1, mT w μ1 → mF l w μ μ1 → P μ1 → sV g M R Z (pc + 3) lv st (mk w μ1) ce sl) : sV g M R Z pc lv st0 (mk w μ) ce sl :=
  sv_callS hct ho hd hm hi hlk hR hce hst hr8 (by
    rintro r hp' ⟨μ1, rfl, rfl, h1, h2, h3⟩
    exact kt μ1 h1 h2 h3)
end MC
