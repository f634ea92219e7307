/-! Memory: every slot of the heap a number (mM), the cells' kinds by shape (mW); types (mT) and frames (mF). mTab, mLen, mVar, mTyL stand in the part ahead. -/
abbrev mW : Type := Nat × (Nat → Nat) × (Nat → Nat) × (Nat → Int)
abbrev mM : Type := Nat → Nat → Int
def iv (z : Int) : Value := .int (Int32.ofInt z)
def jv (z : Int) : Value := .long (Int64.ofInt z)
def rf (z : Int) : Value := if z < 0 then .null else .ref z.toNat
def mv (k : Nat) (z : Int) : Value := match k with
  | 0 => iv z
  | 1 => jv z
  | _ => rf z
def mCell (sh : mSh) (n : Nat) (m : Nat → Int) : sE := match sh with
  | .inl (ci, ks) => .inr (ci, (List.range ks.length).map fun k => mv (ks.getD k 0) (m k))
  | .inr (kd, k) => .inl (kd, n, fun i => mv k (m i))
def mk (w : mW) (μ : mM) : sHp := (w.1, fun a => mCell (mTab (w.2.1 a)) (w.2.2.1 a) (μ a))
def mAt (w : mW) (a s : Nat) : Prop := w.2.1 a = s ∧ a < w.1 ∧ w.2.2.1 a ≤ mLen s ∧ (mVar s = false → w.2.2.1 a = mLen s)
def mUp (μ : mM) (a k : Nat) (z : Int) : mM := fun b j => if b = a ∧ j = k then z else μ b j
def mU (μ : mM) (a k : Nat) (z : Int) (μ1 : mM) : Prop := μ1 a k = z ∧ ∀ b j, (b ≠ a ∨ j ≠ k) → μ1 b j = μ b j
theorem mUp_ok {μ : mM} {a k : Nat} {z : Int} : mU μ a k z (mUp μ a k z) := ⟨if_pos ⟨rfl, rfl⟩, fun _ _ h => if_neg (fun q => h.elim (fun x => x q.1) (fun x => x q.2))⟩
theorem mRgV (f : Nat → Value) {n k : Nat} (h : k < n) : vp_V ((List.range n).map f) k = f k := by
  simp [vp_V, List.getD, List.getElem?_map, List.getElem?_range h]
theorem mRgS (f : Nat → Value) (n k : Nat) (v : Value) : ((List.range n).map f).set k v = (List.range n).map (fun j => if j = k then v else f j) := by
  apply List.ext_getElem
  · simp
  · intro i h1 h2
    simp only [List.getElem_set, List.getElem_map, List.getElem_range]
    by_cases h : k = i
    · subst h; simp
    · rw [if_neg h, if_neg (Ne.symm h)]
theorem mk_obj {w : mW} {μ : mM} {a s ci : Nat} {ks : List Nat} (hA : mAt w a s) (hs : mTab s = .inl (ci, ks)) : (mk w μ).2 a = .inr (ci, (List.range ks.length).map fun k => mv (ks.getD k 0) (μ a k)) := by
  simp only [mk, hA.1, hs, mCell]
theorem mk_arr {w : mW} {μ : mM} {a s kd k : Nat} (hA : mAt w a s) (hs : mTab s = .inr (kd, k)) : (mk w μ).2 a = .inl (kd, w.2.2.1 a, fun i => mv k (μ a i)) := by
  simp only [mk, hA.1, hs, mCell]
theorem mk_other {w : mW} {μ : mM} {a b k : Nat} {z : Int} (h : b ≠ a) : (mk w (mUp μ a k z)).2 b = (mk w μ).2 b := by
  have : mUp μ a k z b = μ b := by funext j; simp only [mUp, h, false_and, if_false]
  simp only [mk, this]
/-! types -/
def tyP (w : mW) (a i : Nat) (d : Nat × Int × Int) (z : Int) : Prop := match d.1 with
  | 0 => d.2.1 ≤ z ∧ z ≤ d.2.2
  | 1 => z = a + d.2.1 ∧ mAt w (a + d.2.1.toNat) d.2.2.toNat
  | 2 => 0 ≤ z ∧ mAt w z.toNat d.2.1.toNat
  | 3 => z = -1 ∨ (0 ≤ z ∧ mAt w z.toNat d.2.1.toNat)
  | 4 => z = d.2.1 ∧ mAt w d.2.1.toNat d.2.2.toNat
  | 5 => z = -99999999 ∨ (d.2.1 ≤ z ∧ z ≤ d.2.2)
  | 6 => z = -99999999 ∨ z = -4 ∨ (d.2.1 ≤ z ∧ z ≤ d.2.2)
  | 7 => (-2147483648 ≤ z ∧ z ≤ 2147483647) ∧ (i % 40 = 0 → -1 ≤ z ∧ z ≤ 9) ∧ (i % 40 = 4 → 0 ≤ z ∧ z ≤ 20) ∧ (i % 40 = 5 → 0 ≤ z ∧ z ≤ 8)
  | 8 => ((i : Int) < w.2.2.2 d.2.1.toNat → 0 ≤ z ∧ mAt w z.toNat d.2.2.toNat) ∧ (¬ (i : Int) < w.2.2.2 d.2.1.toNat → z = -1)
  | 9 => z = w.2.2.2 d.2.1.toNat ∧ 0 ≤ z ∧ z ≤ d.2.2
  | 10 => 0 ≤ z ∧ z ≤ d.2.2 ∧ (z = 0 ∨ z < w.2.2.2 d.2.1.toNat)
  | 11 => 0 ≤ z ∧ z ≤ d.2.2 ∧ z < w.2.2.2 d.2.1.toNat
  | 12 => 0 ≤ z ∧ z ≤ d.2.2 ∧ (z = 0 ∨ 0 < w.2.2.2 d.2.1.toNat)
  | 13 => 0 ≤ z ∧ z ≤ d.2.2 ∧ (z = 0 ∨ z < 40 * w.2.2.2 d.2.1.toNat)
  | _ => (z = -99999999 ∨ z = -4 ∨ (0 ≤ z ∧ z ≤ d.2.2)) ∧ (0 ≤ z → z < w.2.2.2 d.2.1.toNat)
def mArr (s : Nat) : Bool := match mTab s with
  | .inr _ => true
  | .inl _ => false
def mTy (s i : Nat) : Nat × Int × Int := (mTyL.getD s []).getD (if mArr s then 0 else i) (0, 0, 0)
def mT (w : mW) (μ : mM) : Prop := ∀ a s, mAt w a s → ∀ i, tyP w a i (mTy s i) (μ a i)
theorem mT.up {w : mW} {μ μ1 : mM} {a s k : Nat} {z : Int} (h : mT w μ) (hA : mAt w a s) (hz : tyP w a k (mTy s k) z) (hu : mU μ a k z μ1) : mT w μ1 := by
  intro b t hB i
  by_cases hb : b = a ∧ i = k
  · obtain ⟨rfl, rfl⟩ := hb
    have hst : t = s := hB.1.symm.trans hA.1
    subst hst
    rw [hu.1]; exact hz
  · have hne : b ≠ a ∨ i ≠ k := by
      rcases Classical.em (b = a) with h1 | h1
      · exact Or.inr (fun h2 => hb ⟨h1, h2⟩)
      · exact Or.inl h1
    rw [hu.2 b i hne]
    exact h b t hB i
/-! frames -/
def mRg (w : mW) (a i : Nat) : Nat := 1000 * w.2.1 a + (if mArr (w.2.1 a) then 999 else i)
def mF (l : List Nat) (w : mW) (μ μ1 : mM) : Prop := ∀ a i, l.elem (mRg w a i) = false → μ1 a i = μ a i
theorem mF.refl {l : List Nat} {w : mW} {μ : mM} : mF l w μ μ := fun _ _ _ => rfl
theorem mF.up {l : List Nat} {w : mW} {μ μ1 μ2 : mM} {a s k : Nat} {z : Int} (h : mF l w μ μ1) (hA : mAt w a s) (hu : mU μ1 a k z μ2) (hl : l.elem (1000 * s + (if mArr s then 999 else k)) = true) : mF l w μ μ2 := by
  intro b i hb
  rw [← h b i hb]
  refine hu.2 b i ?_
  by_cases h1 : b = a
  · refine Or.inr (fun h2 => ?_)
    subst h1 h2
    simp only [mRg, hA.1] at hb
    rw [hl] at hb; cases hb
  · exact Or.inl h1
theorem mF.call {l l' : List Nat} {w : mW} {μ μ1 μ2 : mM} (h : mF l w μ μ1) (h' : mF l' w μ1 μ2) (hs : (l'.all fun x => l.elem x) = true) : mF l w μ μ2 := by
  intro b i hb
  rw [← h b i hb]
  refine h' b i ?_
  cases hq : l'.elem (mRg w b i) with
  | false => rfl
  | true =>
    have := (List.all_eq_true.mp hs) _ (List.elem_iff.mp hq)
    rw [hb] at this; cases this
/-- a field that the frame leaves alone -/
theorem mF.f {l : List Nat} {w : mW} {μ μ1 : mM} {a s k : Nat} {z : Int} (h : mF l w μ μ1) (hA : mAt w a s) (hl : l.elem (1000 * s + (if mArr s then 999 else k)) = false) (q : μ a k = z) : μ1 a k = z := by
  rw [← q]; exact h a k (by simp only [mRg, hA.1]; exact hl)
theorem mU.f {μ μ1 : mM} {a k b j : Nat} {z x : Int} (h : mU μ a k z μ1) (hn : b ≠ a ∨ j ≠ k) (q : μ b j = x) : μ1 b j = x := (h.2 b j hn).trans q
/-- cells of different shapes are different -/
theorem mAt.ne {w : mW} {a b s t : Nat} (hA : mAt w a s) (hB : mAt w b t) (h : Nat.beq s t = false) : b ≠ a := by
  intro e; subst e
  have : t = s := hB.1.symm.trans hA.1
  subst this
  rw [Nat.beq_refl] at h; cases h
/-! numbers -/
theorem ivI {x : Int} (h : -2147483648 ≤ x ∧ x ≤ 2147483647) : (Int32.ofInt x).toInt = x := Int32.toInt_ofInt_of_le (by omega) (by omega)
theorem jvI {x : Int} (h : -9223372036854775808 ≤ x ∧ x ≤ 9223372036854775807) : (Int64.ofInt x).toInt = x := Int64.toInt_ofInt_of_le (by omega) (by omega)
theorem iv_lt {a b : Int} (ha : -2147483648 ≤ a ∧ a ≤ 2147483647) (hb : -2147483648 ≤ b ∧ b ≤ 2147483647) : Int32.ofInt a < Int32.ofInt b ↔ a < b := by rw [Int32.lt_iff_toInt_lt, ivI ha, ivI hb]
theorem iv_le {a b : Int} (ha : -2147483648 ≤ a ∧ a ≤ 2147483647) (hb : -2147483648 ≤ b ∧ b ≤ 2147483647) : Int32.ofInt a ≤ Int32.ofInt b ↔ a ≤ b := by rw [Int32.le_iff_toInt_le, ivI ha, ivI hb]
theorem iv_eq {a b : Int} (ha : -2147483648 ≤ a ∧ a ≤ 2147483647) (hb : -2147483648 ≤ b ∧ b ≤ 2147483647) : Int32.ofInt a = Int32.ofInt b ↔ a = b := by rw [← Int32.toInt_inj, ivI ha, ivI hb]
theorem iv_any (x : Int32) : ∃ z : Int, x = Int32.ofInt z ∧ -2147483648 ≤ z ∧ z ≤ 2147483647 := ⟨x.toInt, (Int32.ofInt_toInt x).symm, by have := x.le_toInt; omega, by have := x.toInt_lt; omega⟩
theorem jv_any (x : Int64) : ∃ z : Int, x = Int64.ofInt z ∧ -9223372036854775808 ≤ z ∧ z ≤ 9223372036854775807 := ⟨x.toInt, (Int64.ofInt_toInt x).symm, by have := x.le_toInt; omega, by have := x.toInt_lt; omega⟩
theorem iv_and {a b : Int} (hb : 0 ≤ b ∧ b ≤ 2147483647) : ∃ z : Int, Int32.ofInt a &&& Int32.ofInt b = Int32.ofInt z ∧ 0 ≤ z ∧ z ≤ b := by
  have h1 : (BitVec.ofInt 32 b).toNat = b.toNat := by rw [BitVec.toNat_ofInt]; omega
  have h2 : (Int32.ofInt a &&& Int32.ofInt b).toBitVec.toNat ≤ b.toNat := by
    rw [Int32.toBitVec_and, BitVec.toNat_and, Int32.toBitVec_ofInt, Int32.toBitVec_ofInt, h1]
    exact Nat.and_le_right
  have h3 : (Int32.ofInt a &&& Int32.ofInt b).toInt = ((Int32.ofInt a &&& Int32.ofInt b).toBitVec.toNat : Int) := BitVec.toInt_eq_toNat_of_lt (by omega)
  exact ⟨(Int32.ofInt a &&& Int32.ofInt b).toInt, (Int32.ofInt_toInt _).symm, by omega, by omega⟩
theorem iv_or {a b : Int} (k : Nat) (hk : k ≤ 31) (ha : 0 ≤ a ∧ a < 2 ^ k) (hb : 0 ≤ b ∧ b < 2 ^ k) : ∃ z : Int, Int32.ofInt a ||| Int32.ofInt b = Int32.ofInt z ∧ 0 ≤ z ∧ z < 2 ^ k := by
  have hp : (2 : Nat) ^ k ≤ 2 ^ 31 := Nat.pow_le_pow_right (by decide) hk
  have hc : ((2 ^ k : Nat) : Int) = (2 : Int) ^ k := by exact Int.natCast_pow 2 k
  have h1 : (BitVec.ofInt 32 b).toNat = b.toNat := by rw [BitVec.toNat_ofInt]; omega
  have h0 : (BitVec.ofInt 32 a).toNat = a.toNat := by rw [BitVec.toNat_ofInt]; omega
  have h2 : (Int32.ofInt a ||| Int32.ofInt b).toBitVec.toNat < 2 ^ k := by
    rw [Int32.toBitVec_or, BitVec.toNat_or, Int32.toBitVec_ofInt, Int32.toBitVec_ofInt, h1, h0]
    exact Nat.or_lt_two_pow (by omega) (by omega)
  have h3 : (Int32.ofInt a ||| Int32.ofInt b).toInt = ((Int32.ofInt a ||| Int32.ofInt b).toBitVec.toNat : Int) := BitVec.toInt_eq_toNat_of_lt (by omega)
  exact ⟨(Int32.ofInt a ||| Int32.ofInt b).toInt, (Int32.ofInt_toInt _).symm, by omega, by omega⟩
theorem iv_nat {e : Int} {n : Nat} (h : 0 ≤ e ∧ e < (n : Int)) (hn : n ≤ 2147483647) : (Int32.ofInt e).toNatClampNeg = e.toNat := by
  show (Int32.ofInt e).toInt.toNat = e.toNat
  rw [ivI (by omega)]
theorem iv_in {e : Int} {n : Nat} (h : 0 ≤ e ∧ e < (n : Int)) (hn : n ≤ 2147483647) : vp_in (Int32.ofInt e) n := by
  intro q
  rcases q with q | q
  · have : Int32.ofInt e < Int32.ofInt 0 := q
    rw [iv_lt (by omega) (by omega)] at this; omega
  · rw [iv_nat h hn] at q; omega
theorem iv_cmp (a b : Int) : Int32.ofInt a + Int32.ofInt b = Int32.ofInt (a + b) := (Int32.ofInt_add a b).symm
/-! ranges: proofs out of proofs -/
theorem rR {x : Int} : x ≤ x ∧ x ≤ x := ⟨Int.le_refl x, Int.le_refl x⟩
theorem rW {x a b c d : Int} (h : a ≤ x ∧ x ≤ b) (q : decide (c ≤ a) && decide (b ≤ d) = true) : c ≤ x ∧ x ≤ d := by
  simp only [Bool.and_eq_true, decide_eq_true_eq] at q; omega
theorem rAdd {x y a b c d e f : Int} (h : a ≤ x ∧ x ≤ b) (k : c ≤ y ∧ y ≤ d) (q : decide (e ≤ a + c) && decide (b + d ≤ f) = true) : e ≤ x + y ∧ x + y ≤ f := by
  simp only [Bool.and_eq_true, decide_eq_true_eq] at q; omega
theorem rSub {x y a b c d e f : Int} (h : a ≤ x ∧ x ≤ b) (k : c ≤ y ∧ y ≤ d) (q : decide (e ≤ a - d) && decide (b - c ≤ f) = true) : e ≤ x - y ∧ x - y ≤ f := by
  simp only [Bool.and_eq_true, decide_eq_true_eq] at q; omega
theorem rMulL {x a b n e f : Int} (h : a ≤ x ∧ x ≤ b) (q : decide (0 ≤ n) && (decide (e ≤ n * a) && decide (n * b ≤ f)) = true) : e ≤ n * x ∧ n * x ≤ f := by
  simp only [Bool.and_eq_true, decide_eq_true_eq] at q
  have h1 := Int.mul_le_mul_of_nonneg_left h.1 q.1
  have h2 := Int.mul_le_mul_of_nonneg_left h.2 q.1
  omega
theorem rMulR {x a b n e f : Int} (h : a ≤ x ∧ x ≤ b) (q : decide (0 ≤ n) && (decide (e ≤ n * a) && decide (n * b ≤ f)) = true) : e ≤ x * n ∧ x * n ≤ f := by
  rw [Int.mul_comm]; exact rMulL h q
theorem rLt {x y a b c d e : Int} (h : a ≤ x ∧ x ≤ b) (k : c ≤ y ∧ y ≤ d) (l : x < y) (q : decide (d - 1 ≤ e) = true) : a ≤ x ∧ x ≤ e := by
  simp only [decide_eq_true_eq] at q; omega
theorem rLe {x y a b c d : Int} (h : a ≤ x ∧ x ≤ b) (k : c ≤ y ∧ y ≤ d) (l : x ≤ y) : a ≤ x ∧ x ≤ d := by omega
theorem rGt {x y a b c d e : Int} (h : a ≤ x ∧ x ≤ b) (k : c ≤ y ∧ y ≤ d) (l : y < x) (q : decide (e ≤ c + 1) = true) : e ≤ x ∧ x ≤ b := by
  simp only [decide_eq_true_eq] at q; omega
theorem rGe {x y a b c d : Int} (h : a ≤ x ∧ x ≤ b) (k : c ≤ y ∧ y ≤ d) (l : y ≤ x) : c ≤ x ∧ x ≤ b := by omega
theorem rEq {x y c d : Int} (k : c ≤ y ∧ y ≤ d) (l : x = y) : c ≤ x ∧ x ≤ d := by omega
theorem rIx {x a b n : Int} (h : a ≤ x ∧ x ≤ b) (q : decide (0 ≤ a) && decide (b < n) = true) : 0 ≤ x ∧ x < n := by
  simp only [Bool.and_eq_true, decide_eq_true_eq] at q; omega
theorem r32 {x a b : Int} (h : a ≤ x ∧ x ≤ b) (q : decide (-2147483648 ≤ a) && decide (b ≤ 2147483647) = true) : -2147483648 ≤ x ∧ x ≤ 2147483647 := by
  simp only [Bool.and_eq_true, decide_eq_true_eq] at q; omega
