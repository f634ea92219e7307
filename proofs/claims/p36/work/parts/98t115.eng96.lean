section
/-! Messages written: octets as a list. -/
theorem bv_ush {b : BitVec 32} {n : Nat} (hn : n ≤ 24) : (b >>> n) &&& 255#32 = (b.sshiftRight n) &&& 255#32 := by
  apply BitVec.eq_of_getLsbD_eq
  intro i hi
  rw [BitVec.getLsbD_and, BitVec.getLsbD_and, BitVec.getLsbD_ushiftRight, BitVec.getLsbD_sshiftRight]
  by_cases c : i < 8
  · have e : decide (32 ≤ i) = false := decide_eq_false (by omega)
    rw [if_pos (by omega), e]
    simp
  · have e : (255#32).getLsbD i = false := by
      rw [BitVec.getLsbD_ofNat, Nat.testBit_lt_two_pow (Nat.lt_of_lt_of_le (show 255 < 2 ^ 8 by decide) (Nat.pow_le_pow_right (by decide) (by omega)))]
      simp
    rw [e, Bool.and_false, Bool.and_false]
theorem i32_ush {a e : Int32} {c : UInt32} {n : Nat} (hn : n ≤ 24) (hc : (c.toBitVec % 32).toNat = n) (he : (e.toBitVec.smod 32).toNat = n) : (a.toUInt32 >>> c).toInt32 &&& Int32.ofInt 255 = (a >>> e) &&& Int32.ofInt 255 := by
  apply Int32.toBitVec_inj.mp
  have e255 : (Int32.ofInt 255).toBitVec = 255#32 := by decide
  rw [Int32.toBitVec_and, Int32.toBitVec_and, UInt32.toBitVec_toInt32, UInt32.toBitVec_shiftRight, Int32.toBitVec_toUInt32, Int32.toBitVec_shiftRight, BitVec.ushiftRight_eq', BitVec.sshiftRight_eq', hc, he, e255]
  exact bv_ush hn
theorem us_eq {v s : Int} {n : Nat} (hn : n ≤ 24) (hc : (((Int32.ofInt s).toUInt32 &&& Int32.toUInt32 31).toBitVec % 32).toNat = n) (he : ((Int32.ofInt s &&& 31).toBitVec.smod 32).toNat = n) : bAnd (bUsh v s) 255 = bAnd (bShr v s) 255 := by
  unfold bAnd bUsh bShr
  rw [Int32.ofInt_toInt, Int32.ofInt_toInt]
  congr 1
  exact i32_ush hn hc he
theorem us_0 {v : Int} : bAnd (bUsh v 0) 255 = bAnd (bShr v 0) 255 := us_eq (n := 0) (by decide) (by decide) (by decide)
theorem us_8 {v : Int} : bAnd (bUsh v 8) 255 = bAnd (bShr v 8) 255 := us_eq (n := 8) (by decide) (by decide) (by decide)
theorem us_16 {v : Int} : bAnd (bUsh v 16) 255 = bAnd (bShr v 16) 255 := us_eq (n := 16) (by decide) (by decide) (by decide)
theorem us_24 {v : Int} : bAnd (bUsh v 24) 255 = bAnd (bShr v 24) 255 := us_eq (n := 24) (by decide) (by decide) (by decide)
theorem us_at {v s : Int} (h : s = 0 ∨ s = 8 ∨ s = 16 ∨ s = 24) : bAnd (bUsh v s) 255 = bAnd (bShr v s) 255 := by
  rcases h with h | h | h | h
  · rw [h]; exact us_0
  · rw [h]; exact us_8
  · rw [h]; exact us_16
  · rw [h]; exact us_24
theorem shr_0 {v : Int} : bAnd (bShr v 0) 255 = bAnd v 255 := by
  unfold bAnd bShr
  rw [Int32.ofInt_toInt, show Int32.ofInt 0 &&& 31 = 0 from by decide, Int32.shiftRight_zero]
/-- the n lowest octets of a number, the highest first -/
def pbN (v : Int) : Nat → List Int
  | 0 => []
  | n + 1 => bAnd (bUsh v (8 * (n : Int))) 255 :: pbN v n
theorem pbN.len {v : Int} : ∀ n, (pbN v n).length = n
  | 0 => rfl
  | n + 1 => by
    show (pbN v n).length + 1 = n + 1
    rw [pbN.len n]
theorem pbN.one {v : Int} : pbN v 1 = [bAnd v 255] := by
  show [bAnd (bUsh v (8 * ((0 : Nat) : Int))) 255] = _
  rw [show (8 : Int) * ((0 : Nat) : Int) = 0 from rfl, us_0, shr_0]
theorem ln_of {l l' : List Int} {v : Int} {n : Nat} (e : l' = l ++ pbN v n) : l'.length = l.length + n := by
  rw [e, List.length_append, pbN.len]
def wrC (m : mM) (l : List Int) : Prop := m 76 15 = (l.length : Int) ∧ rowL (m 86) l.length = l
def wrR (m : mM) (l : List Int) : Prop := m 106 104 = (l.length : Int) ∧ rowL (m 174) l.length = l
def frW (μ m : mM) : Prop := ∀ b i, ¬ (b = 76 ∧ i = 15) → ¬ b = 86 → m b i = μ b i
def frOct (μ m : mM) : Prop := ∀ b i, ¬ (b = 106 ∧ i = 104) → ¬ b = 174 → m b i = μ b i
theorem frW.refl {μ : mM} : frW μ μ := fun _ _ _ _ => rfl
theorem frOct.refl {μ : mM} : frOct μ μ := fun _ _ _ _ => rfl
theorem frW.trans {μ m n : mM} (h : frW μ m) (k : frW m n) : frW μ n := fun b i q1 q2 => (k b i q1 q2).trans (h b i q1 q2)
theorem frOct.trans {μ m n : mM} (h : frOct μ m) (k : frOct m n) : frOct μ n := fun b i q1 q2 => (k b i q1 q2).trans (h b i q1 q2)
theorem wrC.put {m : mM} {l : List Int} {b : Int} (h : wrC m l) : wrC (mUp (mUp m 86 (l.length : Int).toNat b) 76 15 ((l.length : Int) + 1)) (l ++ [b]) := by
  have e : (l ++ [b]).length = l.length + 1 := by
    rw [List.length_append]
    rfl
  refine ⟨by rw [mUp.yes ⟨rfl, rfl⟩, e]; omega, ?_⟩
  rw [e, rowL.succ, rowL.ext (f := m 86) (fun i hi => by rw [mUp.no (by omega), mUp.no (by omega)]), h.2, mUp.no (by omega), mUp.yes ⟨rfl, by omega⟩]
theorem wrR.put {m : mM} {l : List Int} {b : Int} (h : wrR m l) : wrR (mUp (mUp m 174 (l.length : Int).toNat b) 106 104 ((l.length : Int) + 1)) (l ++ [b]) := by
  have e : (l ++ [b]).length = l.length + 1 := by
    rw [List.length_append]
    rfl
  refine ⟨by rw [mUp.yes ⟨rfl, rfl⟩, e]; omega, ?_⟩
  rw [e, rowL.succ, rowL.ext (f := m 174) (fun i hi => by rw [mUp.no (by omega), mUp.no (by omega)]), h.2, mUp.no (by omega), mUp.yes ⟨rfl, by omega⟩]
/-- further numbers of four octets -/
def flT (l : List Int) (f : Nat → Int) : Nat → List Int
  | 0 => l
  | n + 1 => flT l f n ++ pbN (f n) 4
theorem flT.len {l : List Int} {f : Nat → Int} : ∀ n, (flT l f n).length = l.length + 4 * n
  | 0 => rfl
  | n + 1 => by
    show (flT l f n ++ pbN (f n) 4).length = _
    rw [List.length_append, pbN.len, flT.len n]
    omega
theorem flT.cg {l : List Int} {f g : Nat → Int} : ∀ n, (∀ i, i < n → f i = g i) → flT l f n = flT l g n
  | 0, _ => rfl
  | n + 1, h => by
    show flT l f n ++ pbN (f n) 4 = flT l g n ++ pbN (g n) 4
    rw [flT.cg n fun i hi => h i (by omega), h n (by omega)]
theorem flT.app {l : List Int} {f : Nat → Int} : ∀ n, flT l f n = l ++ flT [] f n
  | 0 => (List.append_nil l).symm
  | n + 1 => by
    show flT l f n ++ pbN (f n) 4 = l ++ (flT [] f n ++ pbN (f n) 4)
    rw [flT.app n, List.append_assoc]
def hdL (l : List Int) (a b c : Int) : List Int := l ++ pbN a 1 ++ pbN b 1 ++ pbN c 1
theorem hdL.len {l : List Int} {a b c : Int} : (hdL l a b c).length = l.length + 3 := by
  unfold hdL
  rw [List.length_append, List.length_append, List.length_append, pbN.len, pbN.len, pbN.len]
theorem hdL.app {l : List Int} {a b c : Int} : hdL l a b c = l ++ hdL [] a b c := by
  unfold hdL
  simp [List.append_assoc]
/-- the first number of a list; of one that ends: 0 -/
def nthI (l : List Int) (i : Nat) : Int := (l[i]?).getD 0
theorem rw_at {f : Nat → Int} {l : List Int} {i : Nat} (h : rowL f l.length = l) (hi : i < l.length) : f i = nthI l i := by
  have g : (rowL f l.length)[i]? = some (f i) := rowL.get hi
  rw [h] at g
  unfold nthI
  rw [g]
  rfl
def a5L (l : List Int) (r : Rt) : List Int := hdL (hdL l 64 1 1 ++ pbN r.2.2.1 1) 64 2 (2 + 4 * ((wOf r).length : Int)) ++ pbN 2 1 ++ pbN ((wOf r).length : Int) 1
def a6L (l : List Int) (r : Rt) : List Int := flT (a5L l r) (nthI (wOf r)) (wOf r).length
def a7L (l : List Int) (r : Rt) : List Int := if r.2.2.2.1 = 0 then a6L l r else hdL (a6L l r) 128 4 4 ++ pbN r.2.2.2.1 4
def a8L (l : List Int) (r : Rt) : List Int := if (mOf r).length = 0 then a7L l r else hdL (a7L l r) 192 8 (4 * ((mOf r).length : Int))
def a9L (l : List Int) (r : Rt) : List Int := flT (a8L l r) (nthI (mOf r)) (mOf r).length
theorem a5L.app {l : List Int} {r : Rt} : a5L l r = l ++ a5L [] r := by
  unfold a5L
  rw [hdL.app (l := l), hdL.app (l := l ++ hdL [] 64 1 1 ++ pbN r.2.2.1 1), hdL.app (l := hdL [] 64 1 1 ++ pbN r.2.2.1 1)]
  simp [List.append_assoc]
theorem a6L.app {l : List Int} {r : Rt} : a6L l r = l ++ a6L [] r := by
  unfold a6L
  rw [flT.app, a5L.app, flT.app (l := a5L [] r), List.append_assoc]
theorem a7L.app {l : List Int} {r : Rt} : a7L l r = l ++ a7L [] r := by
  unfold a7L
  by_cases c : r.2.2.2.1 = 0
  · rw [if_pos c, if_pos c]; exact a6L.app
  · rw [if_neg c, if_neg c, hdL.app, a6L.app, hdL.app (l := a6L [] r)]
    simp [List.append_assoc]
theorem a8L.app {l : List Int} {r : Rt} : a8L l r = l ++ a8L [] r := by
  unfold a8L
  by_cases c : (mOf r).length = 0
  · rw [if_pos c, if_pos c]; exact a7L.app
  · rw [if_neg c, if_neg c, hdL.app, a7L.app, hdL.app (l := a7L [] r)]
    simp [List.append_assoc]
theorem a9L.app {l : List Int} {r : Rt} : a9L l r = l ++ a9L [] r := by
  unfold a9L
  rw [flT.app, a8L.app, flT.app (l := a8L [] r), List.append_assoc]
theorem a9L.len {l : List Int} {r : Rt} : (a9L l r).length = l.length + 9 + 4 * (wOf r).length + (if r.2.2.2.1 = 0 then 0 else 7) + (if (mOf r).length = 0 then 0 else 3 + 4 * (mOf r).length) := by
  have h5 : (a5L l r).length = l.length + 9 := by
    unfold a5L
    rw [List.length_append, List.length_append, hdL.len, List.length_append, hdL.len, pbN.len, pbN.len, pbN.len]
  have h6 : (a6L l r).length = l.length + 9 + 4 * (wOf r).length := by
    unfold a6L
    rw [flT.len, h5]
  have h7 : (a7L l r).length = l.length + 9 + 4 * (wOf r).length + (if r.2.2.2.1 = 0 then 0 else 7) := by
    unfold a7L
    by_cases c : r.2.2.2.1 = 0
    · rw [if_pos c, if_pos c, h6]
      rfl
    · rw [if_neg c, if_neg c, List.length_append, hdL.len, pbN.len, h6]
  have h8 : (a8L l r).length = l.length + 9 + 4 * (wOf r).length + (if r.2.2.2.1 = 0 then 0 else 7) + (if (mOf r).length = 0 then 0 else 3) := by
    unfold a8L
    by_cases c : (mOf r).length = 0
    · rw [if_pos c, if_pos c, h7]
      rfl
    · rw [if_neg c, if_neg c, hdL.len, h7]
  unfold a9L
  rw [flT.len, h8]
  by_cases c : (mOf r).length = 0
  · rw [if_pos c, if_pos c, c]
  · rw [if_neg c, if_neg c]
    omega
/-- octets of an address -/
def pxT (l : List Int) (a : Int) : Nat → List Int
  | 0 => l
  | n + 1 => pxT l a n ++ pbN (bUsh a (24 - 8 * (n : Int))) 1
theorem pxT.len {l : List Int} {a : Int} : ∀ n, (pxT l a n).length = l.length + n
  | 0 => rfl
  | n + 1 => by
    show (pxT l a n ++ pbN (bUsh a (24 - 8 * (n : Int))) 1).length = _
    rw [List.length_append, pbN.len, pxT.len n]
    omega
def pxL (l : List Int) (a n : Int) : List Int := pxT (l ++ pbN n 1) a ((n + 7) / 8).toNat
theorem pxL.len {l : List Int} {a n : Int} : (pxL l a n).length = l.length + 1 + ((n + 7) / 8).toNat := by
  unfold pxL
  rw [pxT.len, List.length_append, pbN.len]
def hd4 (n : Nat) : List Int := [0, 0, bAnd (bShr (n : Int) 8) 255, bAnd (n : Int) 255]
/-- the message -/
def wrL (o : Option Rt) (a n : Int) : List Int := match o with
  | none => pxL (pbN (1 + (n + 7) / 8) 2) a n ++ pbN 0 2
  | some r => pxL (hd4 (a9L [] r).length ++ a9L [] r) a n
section WrC
variable {w : mW} {μ : mM} {l : List Int}
theorem X3_put_s {v p : Int} {n : Nat} {Q : mM → Prop} (hp : p = (n : Int)) (h4 : n ≤ 4) (h : wrC μ l) (hl : l.length + n ≤ 256) (k : ∀ (m : mM) (l' : List Int), l' = l ++ pbN v n → wrC m l' → frW μ m → Q m) : WP_X3_putNumber_W w μ v p Q := by
  subst hp
  refine loopF.im (fun i m => ∃ (j : Nat) (l' : List Int), i = (j : Int) - 1 ∧ j ≤ n ∧ l' ++ pbN v j = l ++ pbN v n ∧ wrC m l' ∧ l'.length + j ≤ 256 ∧ frW μ m) (fun i => (i + 1).toNat) ⟨n, l, rfl, Nat.le_refl _, rfl, h, hl, frW.refl⟩ (by omega) ?_
  rintro rc i m ⟨j, l', rfl, hj, hb, hw', hl', f⟩ ih i' m' e ri T F
  cases e
  refine ⟨fun c => ?_, fun c z ez rz => ⟨fun c2 => ?_, fun c2 z1 e1 z2 e2 m1 u1 T1 m2 u2 T2 => ?_⟩⟩
  · have ej : j = 0 := by omega
    subst ej
    exact k m l' ((List.append_nil l').symm.trans hb) hw' f
  · have := hw'.1
    omega
  · obtain ⟨j', rfl⟩ : ∃ q : Nat, j = q + 1 := ⟨j - 1, by omega⟩
    obtain rfl := u1.is
    obtain rfl := u2.is
    rw [hw'.1] at ez
    subst ez
    have eb : z2 = bAnd (bUsh v (8 * (j' : Int))) 255 := by
      rw [← e2, ← e1, show ((j' + 1 : Nat) : Int) - 1 = (j' : Int) by omega]
    refine ih _ _ ⟨j', l' ++ [z2], by omega, by omega, ?_, hw'.put, ?_, f.trans fun b i q1 q2 => ?_⟩ (by omega)
    · rw [List.append_assoc, eb]
      exact hb
    · rw [List.length_append]
      show l'.length + 1 + j' ≤ 256
      omega
    · rw [mUp.no (by omega), mUp.no (by omega)]
theorem X3_head_s {a b c : Int} {Q : mM → Prop} (h : wrC μ l) (hl : l.length + 3 ≤ 256) (k : ∀ (m : mM) (l' : List Int), l' = hdL l a b c → l'.length = l.length + 3 → wrC m l' → frW μ m → Q m) : WP_X3_putHead_W w μ a b c Q := by
  refine X3_put_s (n := 1) rfl (by decide) h (by omega) fun m1 l1 e1 w1 f1 _ _ => ?_
  have n1 := ln_of e1
  refine X3_put_s (n := 1) rfl (by decide) w1 (by omega) fun m2 l2 e2 w2 f2 _ _ => ?_
  have n2 := ln_of e2
  refine X3_put_s (n := 1) rfl (by decide) w2 (by omega) fun m3 l3 e3 w3 f3 _ _ => ?_
  have n3 := ln_of e3
  refine k m3 l3 ?_ (by omega) w3 ((f1.trans f2).trans f3)
  rw [e3, e2, e1]
  rfl
theorem X3_prefix_s {a n : Int} {Q : mM → Prop} (hn : 0 ≤ n ∧ n ≤ 32) (h : wrC μ l) (hl : l.length + 5 ≤ 256) (k : ∀ (m : mM) (l' : List Int), l' = pxL l a n → wrC m l' → frW μ m → Q m) : WP_X3_putPrefix_W w μ a n Q := by
  refine X3_put_s (n := 1) rfl (by decide) h (by omega) fun m1 l1 e1 w1 f1 T1 F1 z5 e5 => ?_
  have n1 := ln_of e1
  refine loopF.im (fun i m => ∃ l', 0 ≤ i ∧ i ≤ z5 ∧ l' = pxT l1 a i.toNat ∧ wrC m l' ∧ frW μ m) (fun i => (5 - i).toNat) ⟨l1, by omega, by omega, rfl, w1, f1⟩ (by omega) ?_
  rintro rc i m ⟨l', i0, i1, el, hw', f⟩ ih i' m' e ri T F
  cases e
  have nl : l'.length = l1.length + i.toNat := by
    rw [el, pxT.len]
  refine ⟨fun c => k m l' ?_ hw' f, fun c z ez => ?_⟩
  · rw [el, e1]
    unfold pxL
    rw [e5, show i.toNat = z5.toNat by omega]
  · refine X3_put_s (n := 1) rfl (by decide) hw' (by omega) fun m2 l2 e2 w2 f2 _ _ => ih _ _ ⟨l2, by omega, by omega, ?_, w2, f.trans f2⟩ (by omega)
    rw [e2, el, show (i + 1).toNat = i.toNat + 1 by omega, ← ez]
    show _ = pxT l1 a i.toNat ++ pbN (bUsh a (24 - 8 * ((i.toNat : Nat) : Int))) 1
    rw [show ((i.toNat : Nat) : Int) = i by omega]
theorem X3_attr_s {a : Nat} {r : Rt} {Q : mM → Prop} (ha : 192 ≤ a) (hr : rtC μ a = some r) (hW : (wOf r).length ≤ 20) (hM : (mOf r).length ≤ 8) (t7 : 0 ≤ μ a 7) (t8 : 0 ≤ μ a 8) (h : wrC μ l) (hl : l.length ≤ 10) (k : ∀ (m : mM), wrC m (a9L l r) → frW μ m → Q m) : WP_X3_putAttributes_W w μ a Q := by
  obtain ⟨_, er⟩ := rtC.get hr
  have eo : r.2.2.1 = μ a 5 := by rw [er]
  have ec : r.2.2.2.1 = μ a 6 := by rw [er]
  have ew : rowL (μ (a + 1)) (μ a 7).toNat = wOf r := by rw [er]
  have em : rowL (μ (a + 2)) (μ a 8).toNat = mOf r := by rw [er]
  have nw : (wOf r).length = (μ a 7).toNat := by rw [← ew, rowL.len]
  have nm : (mOf r).length = (μ a 8).toNat := by rw [← em, rowL.len]
  rw [← nw] at ew
  rw [← nm] at em
  refine X3_head_s h (by omega) fun m1 l1 e1 n1 w1 f1 _ _ z5 ez5 _ => ?_
  rw [f1 a 5 (by omega) (by omega), ← eo] at ez5
  subst ez5
  refine X3_put_s (n := 1) rfl (by decide) w1 (by omega) fun m2 l2 e2 w2 f2 _ _ z12 ez12 rz12 => ?_
  have n2 := ln_of e2
  have g2 := f1.trans f2
  rw [g2 a 7 (by omega) (by omega)] at ez12
  have e12 : z12 = ((wOf r).length : Int) := by omega
  subst e12
  refine X3_head_s w2 (by omega) fun m3 l3 e3 n3 w3 f3 _ _ => ?_
  refine X3_put_s (n := 1) rfl (by decide) w3 (by omega) fun m4 l4 e4 w4 f4 _ _ => ?_
  have n4 := ln_of e4
  refine X3_put_s (n := 1) rfl (by decide) w4 (by omega) fun m5 l5 e5 w5 f5 _ _ => ?_
  have n5 := ln_of e5
  have g5 := ((g2.trans f3).trans f4).trans f5
  have E5 : l5 = a5L l r := by
    rw [e5, e4, e3, e2, e1]
    rfl
  refine loopF.im (fun i m => ∃ l', 0 ≤ i ∧ i ≤ ((wOf r).length : Int) ∧ l' = flT l5 (nthI (wOf r)) i.toNat ∧ wrC m l' ∧ frW μ m) (fun i => (21 - i).toNat) ⟨l5, by omega, by omega, rfl, w5, g5⟩ (by omega) ?_
  rintro rc i m ⟨l', i0, i1, el, hw', f⟩ ih i' m' e ri T F
  cases e
  have nl : l'.length = l5.length + 4 * i.toNat := by
    rw [el, flT.len]
  refine ⟨fun c z ez rz => ?_, fun c z ez rz => ?_⟩
  rotate_left 1
  · rw [f (a + 1) _ (by omega) (by omega), rw_at ew (by omega)] at ez
    refine X3_put_s (n := 4) rfl (by decide) hw' (by omega) fun m2 l2 e2 w2 f2 _ _ => ih _ _ ⟨l2, by omega, by omega, ?_, w2, f.trans f2⟩ (by omega)
    rw [e2, el, show (i + 1).toNat = i.toNat + 1 by omega, ← ez]
    rfl
  have E6 : l' = a6L l r := by
    rw [el, show i.toNat = (wOf r).length by omega, E5]
    rfl
  rw [f a 6 (by omega) (by omega), ← ec] at ez
  subst ez
  have J2 : ∀ (m7 : mM) (l7 : List Int), l7 = a7L l r → l7.length ≤ 110 → wrC m7 l7 → frW μ m7 → WJ_X3_putAttributes_W_2 w a Q m m7 := by
    intro m7 l7 E7 n7 w7 f7 _ _ z8 ez8 rz8
    rw [f7 a 8 (by omega) (by omega)] at ez8
    have J3 : ∀ (m8 : mM) (l8 : List Int), l8 = a8L l r → l8.length ≤ 113 → wrC m8 l8 → frW μ m8 → WJ_X3_putAttributes_W_3 w a Q m7 z8 m8 := by
      intro m8 l8 E8 n8 w8 f8 _ _
      refine loopF.im (fun i m => ∃ l', 0 ≤ i ∧ i ≤ ((mOf r).length : Int) ∧ l' = flT l8 (nthI (mOf r)) i.toNat ∧ wrC m l' ∧ frW μ m) (fun i => (9 - i).toNat) ⟨l8, by omega, by omega, rfl, w8, f8⟩ (by omega) ?_
      rintro rc i m ⟨l', i0, i1, el, hw', f⟩ ih i' m' e ri T F
      cases e
      have nl : l'.length = l8.length + 4 * i.toNat := by
        rw [el, flT.len]
      refine ⟨fun c => ?_, fun c z ez rz => ?_⟩
      · have E9 : l' = a9L l r := by
          rw [el, show i.toNat = (mOf r).length by omega, E8]
          rfl
        rw [E9] at hw'
        exact k m hw' f
      · rw [f (a + 2) _ (by omega) (by omega), rw_at em (by omega)] at ez
        refine X3_put_s (n := 4) rfl (by decide) hw' (by omega) fun m2 l2 e2 w2 f2 _ _ => ih _ _ ⟨l2, by omega, by omega, ?_, w2, f.trans f2⟩ (by omega)
        rw [e2, el, show (i + 1).toNat = i.toNat + 1 by omega, ← ez]
        rfl
    refine ⟨fun c => J3 m7 l7 ?_ (by omega) w7 f7, fun c => X3_head_s w7 (by omega) fun m8 l8 e8 n8 w8 f8 _ _ => J3 m8 l8 ?_ (by omega) w8 (f7.trans f8)⟩
    · rw [E7]
      exact (if_pos (by omega)).symm
    · rw [e8, E7]
      have ez : z8 = ((mOf r).length : Int) := by omega
      rw [ez]
      exact (if_neg (by omega)).symm
  refine ⟨fun c => J2 m l' ?_ (by omega) hw' f, fun c => X3_head_s hw' (by omega) fun m6 l6 e6 n6 w6 f6 _ _ => X3_put_s (n := 4) rfl (by decide) w6 (by omega) fun m7 l7 e7 w7 f7 _ _ => J2 m7 l7 ?_ ?_ w7 ((f.trans f6).trans f7)⟩
  · rw [E6]
    exact (if_pos c).symm
  · rw [e7, e6, E6]
    exact (if_neg c).symm
  · have n7 := ln_of e7
    omega
theorem shr_f8 : ∀ n : Fin 256, bShr ((n.val : Nat) : Int) 8 = bAnd (bShr ((n.val : Nat) : Int) 8) 255 := by decide +kernel
theorem X3_down_s {a : Nat} {o : Option Rt} {ad n : Int} {Q : Int → mM → Prop} (hw : mWF w) (hA : mAt w a 200) (ha : 192 ≤ a) (hr : rtC μ a = o) (hO : ∀ r, o = some r → (wOf r).length ≤ 20 ∧ (mOf r).length ≤ 8) (t7 : 0 ≤ μ a 7) (t8 : 0 ≤ μ a 8) (hn : 0 ≤ n ∧ n ≤ 32) (k : ∀ (z : Int) (m : mM), z = ((wrL o ad n).length : Int) → wrC m (wrL o ad n) → Q z m) : WP_X3_putDown_W w μ a ad n Q := by
  intro m1 u1 T1 z4 e4 z7 e7 r7
  obtain rfl := u1.is
  have w1 : wrC (mUp μ 76 15 0) [] := ⟨mUp.yes ⟨rfl, rfl⟩, rfl⟩
  have f1 : frW μ (mUp μ 76 15 0) := fun b i q1 q2 => mUp.no q1
  have e7' : μ a 2 = z7 := by
    rw [← e7, mUp.no (by omega)]
  refine ⟨fun c => ?_, fun c => ?_⟩
  · obtain ⟨r, eo⟩ : ∃ r, o = some r := ⟨_, hr.symm.trans (rtC.the (by rw [e7']; exact c))⟩
    subst eo
    obtain ⟨hW, hM⟩ := hO r rfl
    refine X3_put_s (n := 4) rfl (by decide) w1 (by decide) fun m2 l2 e2 w2 f2 _ _ => ?_
    have g2 := f1.trans f2
    have n2 := ln_of e2
    have n2 : l2.length = 4 := n2
    have hr2 : rtC m2 a = some r := by
      rw [← hr]
      exact rtC.of (fun i => g2 a i (by omega) (by omega)) (fun i => g2 (a + 1) i (by omega) (by omega)) (fun i => g2 (a + 2) i (by omega) (by omega))
    refine X3_attr_s ha hr2 hW hM (by rw [g2 a 7 (by omega) (by omega)]; exact t7) (by rw [g2 a 8 (by omega) (by omega)]; exact t8) w2 (by omega) fun m3 w3 f3 _ _ z20 e20 r20 z23 e23 m4 u4 T4 z29 e29 m5 u5 T5 => ?_
    obtain rfl := u4.is
    obtain rfl := u5.is
    have ln9 := a9L.len (l := l2) (r := r)
    have ln0 := a9L.len (l := []) (r := r)
    have ap := a9L.app (l := l2) (r := r)
    have c7 : (if r.2.2.2.1 = 0 then 0 else 7) ≤ 7 := by split <;> omega
    have c3 : (if (mOf r).length = 0 then 0 else 3 + 4 * (mOf r).length) ≤ 35 := by split <;> omega
    have ln0 : (a9L [] r).length = 9 + 4 * (wOf r).length + (if r.2.2.2.1 = 0 then 0 else 7) + (if (mOf r).length = 0 then 0 else 3 + 4 * (mOf r).length) := by
      rw [ln0]
      show 0 + 9 + _ + _ + _ = _
      omega
    have len9 : (a9L l2 r).length = 4 + (a9L [] r).length := by
      rw [ap, List.length_append, n2]
    rw [w3.1] at e20
    have ez : z20 - 4 = ((a9L [] r).length : Int) := by omega
    rw [ez] at e23 e29
    have sf := shr_f8 ⟨(a9L [] r).length, by omega⟩
    have sf : bShr ((a9L [] r).length : Int) 8 = bAnd (bShr ((a9L [] r).length : Int) 8) 255 := sf
    have w5 : wrC (mUp (mUp m3 86 (2 : Int).toNat z23) 86 (3 : Int).toNat z29) (hd4 (a9L [] r).length ++ a9L [] r) := by
      have ll : (hd4 (a9L [] r).length ++ a9L [] r).length = 4 + (a9L [] r).length := by
        rw [List.length_append]
        rfl
      refine ⟨by rw [mUp.no (by omega), mUp.no (by omega), w3.1]; omega, ?_⟩
      rw [ll, rowL.add]
      have h9 : rowL (m3 86) (4 + (a9L [] r).length) = l2 ++ a9L [] r := by
        rw [← len9, w3.2, ap]
      have h0 : l2 = [0, 0, 0, 0] := by
        rw [e2]
        decide +kernel
      rw [rowL.add, h0] at h9
      have h4 : rowL (m3 86) 4 = [m3 86 0, m3 86 1, m3 86 2, m3 86 3] := rfl
      rw [h4] at h9
      have i1 := List.append_inj h9 rfl
      have q0 : m3 86 0 = 0 := by
        have g := i1.1
        injection g
      have q1 : m3 86 1 = 0 := by
        have g := i1.1
        injection g with g1 g2
        injection g2
      have r4 : rowL (mUp (mUp m3 86 (2 : Int).toNat z23) 86 (3 : Int).toNat z29 86) 4 = hd4 (a9L [] r).length := by
        show [mUp (mUp m3 86 (2 : Int).toNat z23) 86 (3 : Int).toNat z29 86 0, mUp (mUp m3 86 (2 : Int).toNat z23) 86 (3 : Int).toNat z29 86 1, mUp (mUp m3 86 (2 : Int).toNat z23) 86 (3 : Int).toNat z29 86 2, mUp (mUp m3 86 (2 : Int).toNat z23) 86 (3 : Int).toNat z29 86 3] = _
        have p0 : mUp (mUp m3 86 (2 : Int).toNat z23) 86 (3 : Int).toNat z29 86 0 = 0 := by
          rw [mUp.no (by decide), mUp.no (by decide)]; exact q0
        have p1 : mUp (mUp m3 86 (2 : Int).toNat z23) 86 (3 : Int).toNat z29 86 1 = 0 := by
          rw [mUp.no (by decide), mUp.no (by decide)]; exact q1
        have p2 : mUp (mUp m3 86 (2 : Int).toNat z23) 86 (3 : Int).toNat z29 86 2 = z23 := by
          rw [mUp.no (by decide)]
          exact mUp.yes ⟨rfl, rfl⟩
        have p3 : mUp (mUp m3 86 (2 : Int).toNat z23) 86 (3 : Int).toNat z29 86 3 = z29 := mUp.yes ⟨rfl, rfl⟩
        rw [p0, p1, p2, p3, ← e23, ← e29, sf]
        rfl
      rw [r4]
      congr 1
      refine Eq.trans (rowL.ext (f := fun i => m3 86 (4 + i)) fun i hi => ?_) i1.2
      rw [mUp.no (by omega), mUp.no (by omega)]
    have ll : (hd4 (a9L [] r).length ++ a9L [] r).length = 4 + (a9L [] r).length := by
      rw [List.length_append]
      rfl
    refine X3_prefix_s hn w5 (by omega) fun m6 l6 e6 w6 f6 _ _ z39 e39 r39 => ?_
    have e6 : l6 = wrL (some r) ad n := e6
    rw [e6] at w6
    exact k z39 m6 (e39.symm.trans w6.1) w6
  · have eo : o = none := hr.symm.trans (rtC.nil (e7'.trans c))
    subst eo
    refine X3_put_s (n := 2) rfl (by decide) w1 (by decide) fun m2 l2 e2 w2 f2 _ _ => ?_
    have n2 : l2.length = 2 := ln_of e2
    refine X3_prefix_s hn w2 (by omega) fun m3 l3 e3 w3 f3 _ _ => ?_
    have n3 := pxL.len (l := l2) (a := ad) (n := n)
    rw [← e3] at n3
    refine X3_put_s (n := 2) rfl (by decide) w3 (by omega) fun m4 l4 e5 w4 f4 _ _ z55 e55 r55 => ?_
    have e6 : l4 = wrL none ad n := by
      rw [e5, e3, e2, ← e4]
      rfl
    rw [e6] at w4
    exact k z55 m4 (e55.symm.trans w4.1) w4
end WrC
end
section
/-! Messages written: the reference; both answers. -/
section WrR
variable {w : mW} {μ : mM} {l : List Int}
theorem X12_oct1_s {v : Int} {Q : mM → Prop} (h : wrR μ l) (k : ∀ (m : mM) (l' : List Int), l' = l ++ pbN v 1 → wrR m l' → frOct μ m → Q m) : WP_X12_octet1_W w μ v Q := by
  intro f ef rf z e m1 u1 T1 m2 u2 T2
  obtain rfl := u1.is
  obtain rfl := u2.is
  rw [h.1] at ef
  subst ef
  refine k _ (l ++ [z]) ?_ h.put (fun b i q1 q2 => by rw [mUp.no (by omega), mUp.no (by omega)])
  rw [pbN.one, e]
theorem X12_oct4_s {v : Int} {Q : mM → Prop} (h : wrR μ l) (k : ∀ (m : mM) (l' : List Int), l' = l ++ pbN v 4 → wrR m l' → frOct μ m → Q m) : WP_X12_octet4_W w μ v Q := by
  intro f ef rf
  refine loopF.im (fun i m => ∃ (j : Nat) (l' : List Int), i = 8 * (j : Int) - 8 ∧ j ≤ 4 ∧ l' ++ pbN v j = l ++ pbN v 4 ∧ wrR m l' ∧ frOct μ m) (fun i => (i + 8).toNat) ⟨4, l, by omega, Nat.le_refl _, rfl, h, frOct.refl⟩ (by omega) ?_
  rintro rc i m ⟨j, l', rfl, hj, hb, hw', f'⟩ ih i' m' e ri T F g eg rg
  cases e
  refine ⟨fun c => ?_, fun c z ez => ?_⟩
  · have ej : j = 0 := by omega
    subst ej
    exact k m l' ((List.append_nil l').symm.trans hb) hw' f'
  · obtain ⟨j', rfl⟩ : ∃ q : Nat, j = q + 1 := ⟨j - 1, by omega⟩
    refine X12_oct1_s hw' fun m2 l2 e2 w2 f2 _ _ z2 _ => ih _ _ ⟨j', l2, by omega, by omega, ?_, w2, f'.trans f2⟩ (by omega)
    have es : 8 * ((j' + 1 : Nat) : Int) - 8 = 8 * (j' : Int) := by omega
    rw [e2, pbN.one, ← ez, es, ← us_at (by omega), List.append_assoc]
    exact hb
theorem X12_prefixOut_s {p : Nat} {a n : Int} {Q : mM → Prop} (ea : μ 108 p = a) (en : μ 109 p = n) (hn : 0 ≤ n ∧ n ≤ 32) (h : wrR μ l) (k : ∀ (m : mM) (l' : List Int), l' = pxL l a n → wrR m l' → frOct μ m → Q m) : WP_X12_prefixOut_W w μ (p : Int) Q := by
  intro f ef rf z ez rz
  have ez : μ 109 p = z := ez
  rw [en] at ez
  subst ez
  refine X12_oct1_s h fun m1 l1 e1 w1 f1 _ _ z2 _ => ?_
  refine loopF.im (fun i m => ∃ l', 0 ≤ i ∧ i ≤ (n + 7) / 8 ∧ l' = pxT l1 a i.toNat ∧ wrR m l' ∧ frOct μ m) (fun i => (5 - i).toNat) ⟨l1, by omega, by omega, rfl, w1, f1⟩ (by omega) ?_
  rintro rc i m ⟨l', i0, i1, el, hw', f'⟩ ih i' m' e ri T F g eg rg z3 e3
  cases e
  refine ⟨fun c => k m l' ?_ hw' f', fun c z4 e4 r4 z5 e5 => ?_⟩
  · rw [el, e1]
    unfold pxL
    rw [show i.toNat = ((n + 7) / 8).toNat by omega]
  · have e4 : m 108 p = z4 := e4
    rw [f' 108 p (by omega) (by omega), ea] at e4
    subst e4
    refine X12_oct1_s hw' fun m2 l2 e2 w2 f2 _ _ z6 _ => ih _ _ ⟨l2, by omega, by omega, ?_, w2, f'.trans f2⟩ (by omega)
    rw [e2, el, show (i + 1).toNat = i.toNat + 1 by omega]
    show _ = pxT l1 a i.toNat ++ pbN (bUsh a (24 - 8 * ((i.toNat : Nat) : Int))) 1
    rw [show ((i.toNat : Nat) : Int) = i by omega, pbN.one, pbN.one, ← e5, us_at (by omega)]
theorem hd4.eq {n : Nat} {a b : Int} (ha : a = bShr (n : Int) 8) (hb : b = (n : Int)) : [] ++ pbN 0 1 ++ pbN 0 1 ++ pbN a 1 ++ pbN b 1 = hd4 n := by
  rw [pbN.one, pbN.one, pbN.one, ha, hb]
  have e : bAnd 0 255 = 0 := by decide
  rw [e]
  rfl
end WrR
def inW (y : S2) (t s p : Int) : Prop := (0 ≤ t ∧ t < (eT (xE (yX y)) : Int)) ∧ (0 ≤ s ∧ s ≤ 1) ∧ (0 ≤ p ∧ p < (eP (xE (yX y)) : Int))
def wrO (y : S2) (t s p : Int) : List Int := wrL (sSd (xS (yX y)) (slt t.toNat s.toNat p.toNat)).1 (jA (xJ (yX y)) p.toNat) (jL (xJ (yX y)) p.toNat)
def wrQ (y : S2) (t s p z : Int) : Prop := (¬ inW y t s p ∧ z = -1) ∨ (inW y t s p ∧ z = ((wrO y t s p).length : Int))
theorem wrQ.eq {y : S2} {t s p z z' : Int} (h : wrQ y t s p z) (h' : wrQ y t s p z') : z = z' := by
  rcases h with ⟨a, b⟩ | ⟨a, b⟩ <;> rcases h' with ⟨c, e⟩ | ⟨c, e⟩
  · omega
  · exact absurd c a
  · exact absurd a c
  · rw [b, e]
def WRx (μ : mM) : Prop := μ 76 15 = μ 106 104 ∧ ∀ i : Nat, (i : Int) < μ 76 15 → μ 86 i = μ 174 i
abbrev wxL : List Nat := [76015, 86999, 106104, 174999]
theorem WRx.fr {w w1 : mW} {μ m : mM} {lf : List Nat} (h : WRx μ) (hw : mWF w) (X : mX lf w μ w1 m) (hl : (wxL.all fun r => !lf.elem r) = true) : WRx m := by
  have a : m 76 15 = μ 76 15 := X.f (A_76 hw) (qA_no hl rfl) rfl
  have b : m 106 104 = μ 106 104 := X.f (A_106 hw) (qA_no hl rfl) rfl
  have c : ∀ i, m 86 i = μ 86 i := fun i => X.f (A_86 hw) (qA_no hl rfl) rfl
  have d : ∀ i, m 174 i = μ 174 i := fun i => X.f (A_174 hw) (qA_no hl rfl) rfl
  refine ⟨by rw [a, b]; exact h.1, fun i hi => ?_⟩
  rw [a] at hi
  rw [c, d]
  exact h.2 i hi
section WrA
variable {w : mW} {μ m : mM} {y : S2}
theorem C_writeA {t0 s0 p0 : Int} (hw : mWF w) (hT : mT w μ) (h : K2C w μ y) (k : K2X y) : WP_X11_write_W w μ t0 s0 p0 (fun z m => wrQ y t0 s0 p0 z ∧ ((¬ inW y t0 s0 p0 ∧ m = μ) ∨ (inW y t0 s0 p0 ∧ wrC m (wrO y t0 s0 p0)))) := by
  have ev := h.1.env hw hT k.1
  have st := h.1.2.2.2.2.1
  have tb := h.1.2.1.2.1
  have pf := k.2.2.1
  have p10 := pf.1
  intro n en rn
  have no : ¬ inW y t0 s0 p0 → wrQ y t0 s0 p0 (-1) ∧ ((¬ inW y t0 s0 p0 ∧ μ = μ) ∨ (inW y t0 s0 p0 ∧ wrC μ (wrO y t0 s0 p0))) := fun g => ⟨Or.inl ⟨g, rfl⟩, Or.inl ⟨g, rfl⟩⟩
  refine X11_isTie_s ev fun z hz rz => ⟨fun q => no fun g => ?_, fun q => X11_isEither_s fun z2 hz2 rz2 => ⟨fun q2 => no fun g => ?_, fun q2 n3 en3 rn3 => X11_isPrefix_s ev fun z3 hz3 rz3 => ⟨fun q3 => ?_, fun q3 => no fun g => ?_⟩⟩⟩
  · have := hz.mpr g.1
    omega
  · have := hz2.mpr g.2.1
    omega
  rotate_left 1
  · have := hz3.mpr g.2.2
    omega
  have ht := hz.mp (by omega)
  have hs := hz2.mp (by omega)
  have hp := hz3.mp (by omega)
  have g : inW y t0 s0 p0 := ⟨ht, hs, hp⟩
  obtain ⟨t, rfl⟩ : ∃ n : Nat, t0 = (n : Int) := ⟨t0.toNat, by omega⟩
  obtain ⟨s, rfl⟩ : ∃ n : Nat, s0 = (n : Int) := ⟨s0.toNat, by omega⟩
  obtain ⟨p, rfl⟩ : ∃ n : Nat, p0 = (n : Int) := ⟨p0.toNat, by omega⟩
  have ht' : t < eT (xE (yX y)) := by omega
  intro b1 eb1 A1 rz9 b10 eb10 A10 z52 e52 r52 z55 e55 r55
  have eb : tbA μ t = b1 := by
    have e : μ 11 t = (b1 : Int) := eb1
    show (μ 11 t).toNat = b1
    omega
  obtain ⟨_, big, l3⟩ := ev.2.2.2.1.1 t ht'
  rw [eb] at big
  have e10 : b10 = b1 + 7 + 6 * (10 * s + p) := by
    have g := (l3 (10 * s + p) (by omega)).2
    rw [eb, show 10 * s + p = ((s : Int) * 10 + (p : Int)).toNat by omega] at g
    have e2 : μ (b1 + 3) ((s : Int) * 10 + (p : Int)).toNat = (b10 : Int) := eb10
    rw [e2] at g
    omega
  subst e10
  have rh : rtC μ (b1 + 7 + 6 * (10 * s + p)) = (sSd (xS (yX y)) (slt t s p)).1 := by
    have g := (st.1 t (10 * s + p) ht' (by omega)).2.2.1
    have e : sdA μ t (10 * s + p) = b1 + 7 + 6 * (10 * s + p) := by
      show tbA μ t + 7 + 6 * (10 * s + p) = _
      rw [eb]
    rw [e, show 20 * t + (10 * s + p) = slt t s p by
      unfold slt
      omega] at g
    exact g
  have e52 : jA (xJ (yX y)) p = z52 := (tb p (by omega)).1.symm.trans e52
  have e55 : jL (xJ (yX y)) p = z55 := (tb p (by omega)).2.symm.trans e55
  subst e52
  subst e55
  have hO : ∀ r, (sSd (xS (yX y)) (slt t s p)).1 = some r → (wOf r).length ≤ 20 ∧ (mOf r).length ≤ 8 := fun r e => by
    have q := k.1.1.2.1 (slt t s p) r e
    exact ⟨q.2.2.1, q.2.2.2.1⟩
  have t7 : 0 ≤ μ (b1 + 7 + 6 * (10 * s + p)) 7 ∧ μ (b1 + 7 + 6 * (10 * s + p)) 7 ≤ 20 := hT _ 200 A10 7
  have t8 : 0 ≤ μ (b1 + 7 + 6 * (10 * s + p)) 8 ∧ μ (b1 + 7 + 6 * (10 * s + p)) 8 ≤ 8 := hT _ 200 A10 8
  exact X3_down_s hw A10 (by omega) rh hO t7.1 t8.1 (pf.2 p (by omega)).1 fun z m ez wz _ _ _ => ⟨Or.inr ⟨g, ez⟩, Or.inr ⟨g, wz⟩⟩
theorem R_writeA {t0 s0 p0 : Int} (hw : mWF w) (hT : mT w μ) (h : K2R μ y) (k : K2X y) (hsd : sdN (xS (yX y))) : WP_X12_write_W w μ t0 s0 p0 (fun z m => wrQ y t0 s0 p0 z ∧ ((¬ inW y t0 s0 p0 ∧ m = μ) ∨ (inW y t0 s0 p0 ∧ wrR m (wrO y t0 s0 p0)))) := by
  have ev := h.1.env (w := w) hw k.1
  have st := h.1.2.2.2.2.1
  have tb := h.1.2.1.2.1
  have pf := k.2.2.1
  have p10 := pf.1
  intro n en rn
  have no : ¬ inW y t0 s0 p0 → wrQ y t0 s0 p0 (-1) ∧ ((¬ inW y t0 s0 p0 ∧ μ = μ) ∨ (inW y t0 s0 p0 ∧ wrR μ (wrO y t0 s0 p0))) := fun g => ⟨Or.inl ⟨g, rfl⟩, Or.inl ⟨g, rfl⟩⟩
  refine X12_isTie_s ev fun z hz rz => ⟨fun q => no fun g => ?_, fun q => X12_in_s fun z2 hz2 rz2 => ⟨fun q2 => no fun g => ?_, fun q2 n3 en3 rn3 => X12_isPrefix_s ev fun z3 hz3 rz3 => ⟨fun q3 => ?_, fun q3 => no fun g => ?_⟩⟩⟩
  · have := hz.mpr g.1
    omega
  · have := hz2.mpr g.2.1
    omega
  rotate_left 1
  · have := hz3.mpr g.2.2
    omega
  have ht := hz.mp (by omega)
  have hs := hz2.mp (by omega)
  have hp := hz3.mp (by omega)
  have g : inW y t0 s0 p0 := ⟨ht, hs, hp⟩
  obtain ⟨t, rfl⟩ : ∃ n : Nat, t0 = (n : Int) := ⟨t0.toNat, by omega⟩
  obtain ⟨s, rfl⟩ : ∃ n : Nat, s0 = (n : Int) := ⟨s0.toNat, by omega⟩
  obtain ⟨p, rfl⟩ : ∃ n : Nat, p0 = (n : Int) := ⟨p0.toNat, by omega⟩
  have ht' : t < eT (xE (yX y)) := by omega
  have sl : (2 * (t : Int) + (s : Int)) * 10 + (p : Int) = ((slt t s p : Nat) : Int) := by
    unfold slt
    omega
  have rh : rtR μ (530 + ((slt t s p : Nat) : Int)) = (sSd (xS (yX y)) (slt t s p)).1 := (st.1 (slt t s p) (Or.inl (by
    unfold slt
    omega))).2.2.1
  have ea : μ 108 p = jA (xJ (yX y)) p := (tb p (by omega)).1
  have el : μ 109 p = jL (xJ (yX y)) p := (tb p (by omega)).2
  have hn := (pf.2 p (by omega)).1
  have fin : ∀ (z : Int) (m : mM) (l : List Int), l = wrO y (t : Int) (s : Int) (p : Int) → wrR m l → m 106 104 = z → wrQ y (t : Int) (s : Int) (p : Int) z ∧ ((¬ inW y (t : Int) (s : Int) (p : Int) ∧ m = μ) ∨ (inW y (t : Int) (s : Int) (p : Int) ∧ wrR m (wrO y (t : Int) (s : Int) (p : Int)))) := fun z m l e hl hz => by
    rw [e] at hl
    exact ⟨Or.inr ⟨g, hz.symm.trans hl.1⟩, Or.inr ⟨g, hl⟩⟩
  show (0 ≤ (2 * (t : Int) + (s : Int)) * 10 + (p : Int) ∧ (2 * (t : Int) + (s : Int)) * 10 + (p : Int) ≤ 449) → _
  rw [sl]
  generalize eq : ((slt t s p : Nat) : Int) = q at rh
  intro rq m1 u1 T1 z49 e49 r49
  obtain rfl := u1.is
  have w1 : wrR (mUp μ 106 104 0) [] := ⟨mUp.yes ⟨rfl, rfl⟩, rfl⟩
  have f1 : frOct μ (mUp μ 106 104 0) := fun b i q1 q2 => mUp.no q1
  have c126 : ∀ (m : mM), frOct μ m → ∀ i, m 126 i = μ 126 i := fun m f i => f 126 i (by omega) (by omega)
  rw [c126 _ f1] at e49
  refine ⟨fun c => ?_, fun c => ?_⟩
  rotate_left 1
  · have en : (sSd (xS (yX y)) (slt t s p)).1 = none := rh.symm.trans (rtR.nil (by rw [e49]; exact c))
    refine X12_oct1_s w1 fun m2 l2 e2 w2 f2 _ _ z2 _ z3 ez3 rz3 z4 ez4 => ?_
    have g2 := f1.trans f2
    have ez3 : m2 109 p = z3 := ez3
    rw [g2 109 p (by omega) (by omega), el] at ez3
    subst ez3
    refine X12_oct1_s w2 fun m3 l3 e3 w3 f3 _ _ z5 _ => ?_
    have g3 := g2.trans f3
    refine X12_prefixOut_s ((g3 108 p (by omega) (by omega)).trans ea) ((g3 109 p (by omega) (by omega)).trans el) hn w3 fun m4 l4 e4 w4 f4 _ _ z6 ez6 => ?_
    refine X12_oct1_s w4 fun m5 l5 e5 w5 f5 _ _ z7 _ => ?_
    refine X12_oct1_s w5 fun m6 l6 e6 w6 f6 _ _ z8 _ => ?_
    have n5 := ln_of e5
    have n6 := ln_of e6
    have h4 := w4.1
    have h6 := w6.1
    refine fin _ m6 l6 ?_ w6 (by omega)
    have fb : ∀ x : Fin 5, pbN (1 + ((x.val : Nat) : Int)) 2 = [0, bAnd (1 + ((x.val : Nat) : Int)) 255] := by decide +kernel
    have fb2 := fb ⟨z4.toNat, by omega⟩
    have fb2 : pbN (1 + ((z4.toNat : Nat) : Int)) 2 = [0, bAnd (1 + ((z4.toNat : Nat) : Int)) 255] := fb2
    rw [show ((z4.toNat : Nat) : Int) = z4 by omega] at fb2
    have l3e : l3 = pbN (1 + z4) 2 := by
      rw [e3, e2, fb2, pbN.one, pbN.one]
      have e : bAnd 0 255 = 0 := by decide
      rw [e]
      rfl
    have z2e : pbN 0 2 = [0, 0] := by decide +kernel
    have z1e : pbN 0 1 = [0] := by decide +kernel
    have ew : wrO y (t : Int) (s : Int) (p : Int) = pxL (pbN (1 + (jL (xJ (yX y)) p + 7) / 8) 2) (jA (xJ (yX y)) p) (jL (xJ (yX y)) p) ++ pbN 0 2 := by
      unfold wrO
      rw [Int.toNat_natCast, Int.toNat_natCast, Int.toNat_natCast, en]
      rfl
    rw [ew, e6, e5, e4, l3e, ← ez4, z2e, z1e, List.append_assoc]
    rfl
  obtain ⟨r, er⟩ : ∃ r, (sSd (xS (yX y)) (slt t s p)).1 = some r := ⟨_, rh.symm.trans (rtR.the (by rw [e49]; omega))⟩
  obtain ⟨_, es⟩ := rtR.get (rh.trans er)
  have kr := k.1.1.2.1 (slt t s p) r er
  have hW := kr.2.2.1
  have hM := kr.2.2.2.1
  have n0 := hsd (slt t s p) r er
  obtain ⟨⟨_, _⟩, ⟨_, _⟩, ⟨cr1, cr2⟩⟩ := kr.2.2.2.2
  have eo : r.2.2.1 = μ 126 (40 * (530 + q) + 2).toNat := by rw [es]
  have ec : r.2.2.2.1 = μ 126 (40 * (530 + q) + 3).toNat := by rw [es]
  have ew : rowL (fun k => μ 126 (40 * (530 + q) + 6 + (k : Int)).toNat) (μ 126 (40 * (530 + q) + 4).toNat).toNat = wOf r := by rw [es]
  have em : rowL (fun k => μ 126 (40 * (530 + q) + 26 + (k : Int)).toNat) (μ 126 (40 * (530 + q) + 5).toNat).toNat = mOf r := by rw [es]
  have nw : (wOf r).length = (μ 126 (40 * (530 + q) + 4).toNat).toNat := by rw [← ew, rowL.len]
  have nm : (mOf r).length = (μ 126 (40 * (530 + q) + 5).toNat).toNat := by rw [← em, rowL.len]
  rw [← nw] at ew
  rw [← nm] at em
  have w0 : 0 < (wOf r).length := by
    cases e : wOf r with
    | nil => exact absurd e n0
    | cons a b => exact Nat.succ_pos _
  have eL : wrO y (t : Int) (s : Int) (p : Int) = pxL (hd4 (a9L [] r).length ++ a9L [] r) (jA (xJ (yX y)) p) (jL (xJ (yX y)) p) := by
    unfold wrO
    rw [Int.toNat_natCast, Int.toNat_natCast, Int.toNat_natCast, er]
    rfl
  intro z55 e55 r55 z59 e59 r59
  rw [c126 _ f1] at e55 e59
  have b55 := r55.2.2.1 (by omega)
  have b59 := r59.2.2.2 (by omega)
  have k55 : z55 = ((wOf r).length : Int) := by omega
  have k59 : z59 = ((mOf r).length : Int) := by omega
  refine ⟨fun c55 => ?_, fun c55 => absurd c55 (by omega)⟩
  intro _ z69 e69 r69
  rw [c126 _ f1, ← ec] at e69
  subst e69
  have ln0 := a9L.len (l := []) (r := r)
  have J5 : ∀ (m0 m7 : mM) (l7 : List Int), l7 = a7L (hd4 (a9L [] r).length) r → wrR m7 l7 → frOct μ m7 → WJ_X12_write_W_5 w (p : Int) (fun z m => wrQ y (t : Int) (s : Int) (p : Int) z ∧ ((¬ inW y (t : Int) (s : Int) (p : Int) ∧ m = μ) ∨ (inW y (t : Int) (s : Int) (p : Int) ∧ wrR m (wrO y (t : Int) (s : Int) (p : Int))))) q z59 m0 m7 := by
    intro m0 m7 l7 e7 w7 f7 _ _ z1 ez1 rz1
    refine ⟨fun c1 => ?_, fun c1 => ?_⟩
    · refine X12_prefixOut_s ((f7 108 p (by omega) (by omega)).trans ea) ((f7 109 p (by omega) (by omega)).trans el) hn w7 fun m8 l8 e8 w8 f8 _ _ z2 ez2 => fin z2 m8 l8 ?_ w8 ez2
      have m0' : (mOf r).length = 0 := by omega
      rw [eL, e8, e7, ← a9L.app]
      have a8 : a8L (hd4 (a9L [] r).length) r = a7L (hd4 (a9L [] r).length) r := if_pos m0'
      have a9 : a9L (hd4 (a9L [] r).length) r = a8L (hd4 (a9L [] r).length) r := by
        show flT _ _ (mOf r).length = _
        rw [m0']
        rfl
      rw [a9, a8]
    · refine X12_oct1_s w7 fun m8 l8 e8 w8 f8 _ _ _ _ => X12_oct1_s w8 fun m9 l9 e9 w9 f9 _ _ _ _ => X12_oct1_s w9 fun m10 l10 e10 w10 f10 _ _ _ _ => ?_
      have g10 := ((f7.trans f8).trans f9).trans f10
      have e11 : l10 = a8L (hd4 (a9L [] r).length) r := by
        rw [e10, e9, e8, e7, k59]
        exact (if_neg (show ¬ (mOf r).length = 0 by omega)).symm
      refine loopF.im (fun i m => ∃ l', 0 ≤ i ∧ i ≤ ((mOf r).length : Int) ∧ l' = flT l10 (nthI (mOf r)) i.toNat ∧ wrR m l' ∧ frOct μ m) (fun i => (9 - i).toNat) ⟨l10, by omega, by omega, rfl, w10, g10⟩ (by omega) ?_
      rintro rc i m ⟨l', i0, i1, el', hw', f'⟩ ih i' m' e ri T F g' eg rg
      cases e
      refine ⟨fun c2 => ?_, fun c2 z2 ez2 rz2 => ?_⟩
      · refine X12_prefixOut_s ((f' 108 p (by omega) (by omega)).trans ea) ((f' 109 p (by omega) (by omega)).trans el) hn hw' fun m8 l8 e8 w8 f8 _ _ z2 ez2 => fin z2 m8 l8 ?_ w8 ez2
        rw [eL, e8, el', show i.toNat = (mOf r).length by omega, e11, ← a9L.app]
        rfl
      · rw [c126 _ f'] at ez2
        have q1 := rw_at em (show i.toNat < (mOf r).length by omega)
        have q1 : μ 126 (40 * (530 + q) + 26 + ((i.toNat : Nat) : Int)).toNat = nthI (mOf r) i.toNat := q1
        rw [show ((i.toNat : Nat) : Int) = i by omega, ez2] at q1
        refine X12_oct4_s hw' fun m2 l2 e2 w2 f2 _ _ _ _ => ih _ _ ⟨l2, by omega, by omega, ?_, w2, f'.trans f2⟩ (by omega)
        rw [e2, el', show (i + 1).toNat = i.toNat + 1 by omega, q1]
        rfl
  have J4 : ∀ (m0 m6 : mM) (l6 : List Int), l6 = a6L (hd4 (a9L [] r).length) r → wrR m6 l6 → frOct μ m6 → WJ_X12_write_W_4 w (p : Int) (fun z m => wrQ y (t : Int) (s : Int) (p : Int) z ∧ ((¬ inW y (t : Int) (s : Int) (p : Int) ∧ m = μ) ∨ (inW y (t : Int) (s : Int) (p : Int) ∧ wrR m (wrO y (t : Int) (s : Int) (p : Int))))) q z59 r.2.2.2.1 m0 m6 := by
    intro m0 m6 l6 e6 w6 f6 _ _ z1 ez1 rz1
    refine ⟨fun c1 => J5 _ m6 l6 ?_ w6 f6, fun c1 => ?_⟩
    · rw [e6]
      exact (if_pos (show r.2.2.2.1 = 0 by omega)).symm
    · refine X12_oct1_s w6 fun m8 l8 e8 w8 f8 _ _ _ _ => X12_oct1_s w8 fun m9 l9 e9 w9 f9 _ _ _ _ => X12_oct1_s w9 fun m10 l10 e10 w10 f10 _ _ _ _ => X12_oct4_s w10 fun m11 l11 e11 w11 f11 _ _ _ _ => J5 _ m11 l11 ?_ w11 ((((f6.trans f8).trans f9).trans f10).trans f11)
      rw [e11, e10, e9, e8, e6]
      exact (if_neg (show ¬ r.2.2.2.1 = 0 by omega)).symm
  have J3 : ∀ z74 z80 : Int, z74 = (if r.2.2.2.1 = 0 then 0 else 7) → z80 = (if (mOf r).length = 0 then 0 else 3 + 4 * ((mOf r).length : Int)) → WJ_X12_write_W_3 w (p : Int) (fun z m => wrQ y (t : Int) (s : Int) (p : Int) z ∧ ((¬ inW y (t : Int) (s : Int) (p : Int) ∧ m = μ) ∨ (inW y (t : Int) (s : Int) (p : Int) ∧ wrR m (wrO y (t : Int) (s : Int) (p : Int))))) q (mUp μ 106 104 0) z55 z59 (2 + 4 * z55) r.2.2.2.1 z74 z80 := by
    intro z74 z80 e74 e80 _
    have al : 7 + (2 + 4 * z55) + z74 + z80 = ((a9L [] r).length : Int) := by
      rw [ln0, e74, e80, k55]
      have q1 : ((if r.2.2.2.1 = 0 then 0 else 7 : Nat) : Int) = (if r.2.2.2.1 = 0 then 0 else 7 : Int) := by split <;> rfl
      have q2 : ((if (mOf r).length = 0 then 0 else 3 + 4 * (mOf r).length : Nat) : Int) = (if (mOf r).length = 0 then 0 else 3 + 4 * ((mOf r).length : Int) : Int) := by split <;> omega
      rw [← q1, ← q2]
      show _ = ((0 + 9 + 4 * (wOf r).length + _ + _ : Nat) : Int)
      omega
    refine X12_oct1_s w1 fun m2 l2 e2 w2 f2 _ _ _ _ => X12_oct1_s w2 fun m3 l3 e3 w3 f3 _ _ _ _ z102 e102 => X12_oct1_s w3 fun m4 l4 e4 w4 f4 _ _ _ _ => X12_oct1_s w4 fun m5 l5 e5 w5 f5 _ _ _ _ => ?_
    rw [al] at e102
    have H : l5 = hd4 (a9L [] r).length := by
      rw [e5, e4, e3, e2]
      exact hd4.eq e102.symm al
    have g5 := (((f1.trans f2).trans f3).trans f4).trans f5
    refine X12_oct1_s w5 fun m6 l6 e6 w6 f6 _ _ _ _ => X12_oct1_s w6 fun m7 l7 e7 w7 f7 _ _ _ _ => X12_oct1_s w7 fun m8 l8 e8 w8 f8 _ _ _ _ z150 e150 r150 => ?_
    have g8 := ((g5.trans f6).trans f7).trans f8
    rw [c126 _ g8, ← eo] at e150
    subst e150
    refine X12_oct1_s w8 fun m9 l9 e9 w9 f9 _ _ _ _ => X12_oct1_s w9 fun m10 l10 e10 w10 f10 _ _ _ _ => X12_oct1_s w10 fun m11 l11 e11 w11 f11 _ _ _ _ => X12_oct1_s w11 fun m12 l12 e12 w12 f12 _ _ _ _ => ?_
    have g12 := (((g8.trans f9).trans f10).trans f11).trans f12
    refine ⟨fun c1 => absurd c1 (by omega), fun c1 => X12_oct1_s w12 fun m13 l13 e13 w13 f13 _ _ _ _ => X12_oct1_s w13 fun m14 l14 e14 w14 f14 _ _ _ _ => ?_⟩
    have g14 := (g12.trans f13).trans f14
    have E5 : l14 = a5L (hd4 (a9L [] r).length) r := by
      rw [e14, e13, e12, e11, e10, e9, e8, e7, e6, H, k55]
      rfl
    refine loopF.im (fun i m => ∃ l', 0 ≤ i ∧ i ≤ ((wOf r).length : Int) ∧ l' = flT l14 (nthI (wOf r)) i.toNat ∧ wrR m l' ∧ frOct μ m) (fun i => (21 - i).toNat) ⟨l14, by omega, by omega, rfl, w14, g14⟩ (by omega) ?_
    rintro rc i m ⟨l', i0, i1, el', hw', f'⟩ ih i' m' e ri T F g' eg rg
    cases e
    refine ⟨fun c2 => J4 _ m l' ?_ hw' f', fun c2 z2 ez2 rz2 => ?_⟩
    · rw [el', show i.toNat = (wOf r).length by omega, E5]
      rfl
    · rw [c126 _ f'] at ez2
      have q1 := rw_at ew (show i.toNat < (wOf r).length by omega)
      have q1 : μ 126 (40 * (530 + q) + 6 + ((i.toNat : Nat) : Int)).toNat = nthI (wOf r) i.toNat := q1
      rw [show ((i.toNat : Nat) : Int) = i by omega, ez2] at q1
      refine X12_oct4_s hw' fun m2 l2 e2 w2 f2 _ _ _ _ => ih _ _ ⟨l2, by omega, by omega, ?_, w2, f'.trans f2⟩ (by omega)
      rw [e2, el', show (i + 1).toNat = i.toNat + 1 by omega, q1]
      rfl
  have J2 : ∀ z74 : Int, z74 = (if r.2.2.2.1 = 0 then 0 else 7) → WJ_X12_write_W_2 w (p : Int) (fun z m => wrQ y (t : Int) (s : Int) (p : Int) z ∧ ((¬ inW y (t : Int) (s : Int) (p : Int) ∧ m = μ) ∨ (inW y (t : Int) (s : Int) (p : Int) ∧ wrR m (wrO y (t : Int) (s : Int) (p : Int))))) q (mUp μ 106 104 0) z55 z59 (2 + 4 * z55) r.2.2.2.1 z74 := by
    intro z74 e74 _
    refine ⟨fun c1 => J3 z74 0 e74 (if_pos (show (mOf r).length = 0 by omega)).symm, fun c1 => J3 z74 _ e74 ?_⟩
    rw [if_neg (show ¬ (mOf r).length = 0 by omega), k59]
  exact ⟨fun c1 => J2 0 (if_pos (show r.2.2.2.1 = 0 by omega)).symm, fun c1 => J2 7 (if_neg (show ¬ r.2.2.2.1 = 0 by omega)).symm⟩
/-- the class writes, then the reference -/
theorem WRx.wr {t s p : Int} {m2 : mM} (hm : WRx μ) (f104 : m 106 104 = μ 106 104) (f174 : ∀ i, m 174 i = μ 174 i) (g15 : m2 76 15 = m 76 15) (g86 : ∀ i, m2 86 i = m 86 i)
    (p1 : (¬ inW y t s p ∧ m = μ) ∨ (inW y t s p ∧ wrC m (wrO y t s p))) (q1 : (¬ inW y t s p ∧ m2 = m) ∨ (inW y t s p ∧ wrR m2 (wrO y t s p))) : WRx m2 := by
  rcases p1 with ⟨a, rfl⟩ | ⟨a, p1, p2⟩
  · rcases q1 with ⟨_, rfl⟩ | ⟨b, _⟩
    · exact hm
    · exact absurd b a
  · rcases q1 with ⟨b, _⟩ | ⟨_, q1, q2⟩
    · exact absurd a b
    · refine ⟨by omega, fun i hi => ?_⟩
      rw [g86]
      exact rowL.at (p2.trans q2.symm) (by omega)
theorem C_octetA {i : Int} : WP_X11_octet_W w μ i (fun z _ => z = if 0 ≤ i ∧ i < μ 76 15 then μ 86 i.toNat else -99999999) := by
  refine ⟨fun c => (if_neg (by omega)).symm, fun c v ev rv => ⟨fun c2 z ez rz => ?_, fun c2 => (if_neg (by omega)).symm⟩⟩
  rw [if_pos (by omega)]
  exact ez.symm
theorem R_octetA {i : Int} : WP_X12_octet_W w μ i (fun z _ => z = if 0 ≤ i ∧ i < μ 106 104 then μ 174 i.toNat else -99999999) := by
  intro v ev rv
  refine X12_in_s fun z hz rz => ⟨fun c => (if_neg fun g => ?_).symm, fun c x ex rx => ?_⟩
  · have := hz.mpr (by omega)
    omega
  · have := hz.mp (by omega)
    rw [if_pos (by omega)]
    exact ex.symm
theorem oct_eq {i z z' : Int} (h : WRx μ) (a : z = if 0 ≤ i ∧ i < μ 76 15 then μ 86 i.toNat else -99999999) (b : z' = if 0 ≤ i ∧ i < μ 106 104 then μ 174 i.toNat else -99999999) : z = z' := by
  rw [a, b, h.1]
  by_cases c : 0 ≤ i ∧ i < μ 106 104
  · rw [if_pos c, if_pos c]
    exact h.2 i.toNat (by
      have := h.1
      omega)
  · rw [if_neg c, if_neg c]
end WrA
end
section
/-! The law's relation with what was written beside it. -/
abbrev K6 (w : mW) (μ : mM) (L : Int) : Prop := K5 w μ L ∧ WRx μ
theorem K6.zero {w : mW} {μ : mM} (h : K5 w μ 0) (a : μ 76 15 = 0) (b : μ 106 104 = 0) : K6 w μ 0 := ⟨h, a.trans b.symm, fun i hi => by
  rw [a] at hi
  omega⟩
end
