/-! Bytes of the reference's tape. -/
def byteF (μ : mM) (k : Int) : Int := if k < μ 106 1 then bAnd (μ 107 k.toNat) 255 else -1
def tpFree (l : List Nat) : Bool := !(l.elem 107999) && !(l.elem 106001)
theorem byteF.keep {l : List Nat} {w : mW} {μ μ1 : mM} {k : Int} (hw : mWF w) (hF : mF l w μ μ1) (hl : tpFree l = true) : byteF μ1 k = byteF μ k := by
  simp only [tpFree, Bool.and_eq_true, Bool.not_eq_true'] at hl
  have e1 : μ1 106 1 = μ 106 1 := hF.f (A_106 hw) hl.2 rfl
  have e2 : μ1 107 k.toNat = μ 107 k.toNat := hF.f (A_107 hw) hl.1 rfl
  simp only [byteF, e1, e2]
theorem byteF.in {μ : mM} {k n a z : Int} (q : μ 106 1 = n) (h : k < n) (q1 : μ 107 k.toNat = a) (q2 : bAnd a 255 = z) : z = byteF μ k := by
  simp only [byteF, q, if_pos h, q1, q2]
theorem byteF.out {μ : mM} {k n : Int} (q : μ 106 1 = n) (h : n ≤ k) : -1 = byteF μ k := by
  simp only [byteF, q]
  rw [if_neg (by omega)]
def numN (μ : mM) (a : Int) : Nat → Int
  | 0 => 0
  | n + 1 => bOr (bShl (numN μ a n) 8) (byteF μ (a + n))
def numF (μ : mM) (a n : Int) : Int := numN μ a n.toNat
theorem numN.keep {l : List Nat} {w : mW} {μ μ1 : mM} {a : Int} (hw : mWF w) (hF : mF l w μ μ1) (hl : tpFree l = true) : ∀ n, numN μ1 a n = numN μ a n
  | 0 => rfl
  | n + 1 => by simp only [numN, numN.keep hw hF hl n, byteF.keep hw hF hl]
theorem numF.keep {l : List Nat} {w : mW} {μ μ1 : mM} {a n : Int} (hw : mWF w) (hF : mF l w μ μ1) (hl : tpFree l = true) : numF μ1 a n = numF μ a n := numN.keep hw hF hl _
theorem numF.zero {μ : mM} {a : Int} : numF μ a 0 = 0 := rfl
theorem numF.succ {μ : mM} {a n v s b v' e : Int} (h : numF μ a n = v) (h0 : 0 ≤ n) (q1 : bShl v 8 = s) (he : e = a + n) (q2 : b = byteF μ e) (q3 : bOr s b = v') : numF μ a (n + 1) = v' := by
  have e1 : (n + 1).toNat = n.toNat + 1 := by omega
  have e2 : ((n.toNat : Nat) : Int) = n := Int.toNat_of_nonneg h0
  simp only [numF, e1, numN, e2]
  rw [show numN μ a n.toNat = v from h, q1, ← he, ← q2, q3]
theorem numF.fin {μ : mM} {a k v p : Int} (h : numF μ a k = v) (e : p = k) : v = numF μ a p := by rw [e]; exact h.symm
