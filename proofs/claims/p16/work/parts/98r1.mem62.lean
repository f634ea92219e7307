/-! The verdict: the class's rows, and both sides. -/
def vrA (B : Prop) (v z : Int) : Prop := (B ∧ z = -1) ∨ (¬ B ∧ z = v)
theorem vrA.eq {B : Prop} {v v' z z' : Int} (h : vrA B v z) (k : vrA B v' z') (e : ¬ B → v = v') : z = z' := by
  rcases h with ⟨a, b⟩ | ⟨a, b⟩ <;> rcases k with ⟨c, d⟩ | ⟨c, d⟩
  · omega
  · exact absurd a c
  · exact absurd c a
  · rw [b, d, e a]
def apC (μ : mM) (p d k : Int) (r : Nat) : Prop := (μ 17 r ≤ d ∧ d < μ 18 r ∧ μ 19 r ≤ k ∧ (μ 20 r = -1 ∨ k < μ 20 r) ∧ μ 8 (μ 14 r).toNat ≤ μ 8 p.toNat) ∧ bAnd (μ 7 p.toNat) (μ 9 (μ 14 r).toNat) = μ 7 (μ 14 r).toNat
def okC (μ : mM) (p n : Int) (r : Nat) : Prop := μ 16 r = n ∧ μ 8 p.toNat ≤ μ 15 r
noncomputable def vC (μ : mM) (p n d k : Int) : Int := vdF (apC μ p d k) (okC μ p n) (μ 6 17).toNat
section APC
variable {μ : mM} {p d k a b c s t lr lp ar aq mk n x y z : Int} {r : Nat}
theorem apC.yes (q1 : μ 17 r = a) (q2 : μ 18 r = b) (q3 : μ 19 r = c) (q4 : μ 20 r = s) (q5 : μ 14 r = t) (q6 : μ 8 t.toNat = lr) (q7 : μ 8 p.toNat = lp) (q8 : μ 7 t.toNat = ar) (q9 : μ 7 p.toNat = aq) (q10 : μ 9 t.toNat = mk) (h : a ≤ d ∧ d < b ∧ c ≤ k ∧ (s = -1 ∨ k < s) ∧ lr ≤ lp) (qz : bAnd aq mk = z) (hz : z = ar) : apC μ p d k r := by
  unfold apC; rw [q1, q2, q3, q4, q5, q6, q7, q8, q9, q10]; exact ⟨h, qz.trans hz⟩
theorem apC.no1 (q1 : μ 17 r = a) (q2 : μ 18 r = b) (q3 : μ 19 r = c) (q4 : μ 20 r = s) (q5 : μ 14 r = t) (q6 : μ 8 t.toNat = lr) (q7 : μ 8 p.toNat = lp) (h : ¬ (a ≤ d ∧ d < b ∧ c ≤ k ∧ (s = -1 ∨ k < s) ∧ lr ≤ lp)) : ¬ apC μ p d k r := by
  unfold apC; rw [q1, q2, q3, q4, q5, q6, q7]; exact fun g => h g.1
theorem apC.no2 (q5 : μ 14 r = t) (q8 : μ 7 t.toNat = ar) (q9 : μ 7 p.toNat = aq) (q10 : μ 9 t.toNat = mk) (qz : bAnd aq mk = z) (hz : ¬ z = ar) : ¬ apC μ p d k r := by
  unfold apC; rw [q5, q8, q9, q10]; exact fun g => hz (qz.symm.trans g.2)
theorem okC.no (q1 : μ 16 r = x) (q2 : μ 8 p.toNat = lp) (q3 : μ 15 r = y) {v : Int} (h : ¬ (x = n ∧ lp ≤ y)) (hv : v = 0 ∨ v = 2) : (okC μ p n r ∧ (0 : Int) = 1) ∨ (¬ okC μ p n r ∧ ((v = 2 ∧ (0 : Int) = 0) ∨ (¬ v = 2 ∧ (0 : Int) = v))) := by
  unfold okC; rw [q1, q2, q3]
  exact Or.inr ⟨h, by omega⟩
theorem okC.yes (q1 : μ 16 r = x) (q2 : μ 8 p.toNat = lp) (q3 : μ 15 r = y) (h : x = n ∧ lp ≤ y) : okC μ p n r := by
  unfold okC; rw [q1, q2, q3]; exact h
end APC
/-! bits -/
theorem bvCover (a x m : BitVec 32) (h : a &&& (m ^^^ BitVec.allOnes 32) = 0#32) : (x &&& m) = a ↔ ((a ^^^ x) &&& m) = 0#32 := by
  have hb : ∀ i, i < 32 → (a.getLsbD i && !(m.getLsbD i)) = false := fun i hi => by
    have := congrArg (fun v => BitVec.getLsbD v i) h
    simp only [BitVec.getLsbD_and, BitVec.getLsbD_xor, BitVec.getLsbD_allOnes, hi, decide_true, Bool.xor_true, BitVec.getLsbD_zero] at this
    exact this
  constructor
  · intro e
    apply BitVec.eq_of_getLsbD_eq
    intro i hi
    have := congrArg (fun v => BitVec.getLsbD v i) e
    simp only [BitVec.getLsbD_and] at this
    simp only [BitVec.getLsbD_and, BitVec.getLsbD_xor, BitVec.getLsbD_zero]
    rw [← this]
    cases x.getLsbD i <;> cases m.getLsbD i <;> rfl
  · intro e
    apply BitVec.eq_of_getLsbD_eq
    intro i hi
    have h1 := congrArg (fun v => BitVec.getLsbD v i) e
    simp only [BitVec.getLsbD_and, BitVec.getLsbD_xor, BitVec.getLsbD_zero] at h1
    have h2 := hb i hi
    simp only [BitVec.getLsbD_and]
    revert h1 h2
    cases a.getLsbD i <;> cases x.getLsbD i <;> cases m.getLsbD i <;> decide
theorem bCover {ar aq m : Int} (ha : -2147483648 ≤ ar ∧ ar ≤ 2147483647) (h : bAnd ar (bXor m (-1)) = 0) : bAnd aq m = ar ↔ bAnd (bXor ar aq) m = 0 := by
  have z0 : ∀ v : Int32, v.toInt = 0 ↔ v.toBitVec = 0#32 := fun v => by
    constructor
    · intro e
      have : v = 0 := Int32.toInt_inj.mp e
      rw [this]; rfl
    · intro e
      have : v = 0 := Int32.toBitVec_inj.mp e
      rw [this]; rfl
  unfold bAnd bXor at *
  rw [Int32.ofInt_toInt] at h
  rw [Int32.ofInt_toInt]
  have h := (z0 _).mp h
  rw [z0]
  rw [Int32.toBitVec_and, Int32.toBitVec_xor] at h
  rw [Int32.toBitVec_and, Int32.toBitVec_xor]
  have em : (Int32.ofInt (-1)).toBitVec = BitVec.allOnes 32 := by decide
  rw [em] at h
  rw [← bvCover _ _ _ h, ← Int32.toBitVec_and]
  constructor
  · intro e
    have : Int32.ofInt aq &&& Int32.ofInt m = Int32.ofInt ar := by
      apply Int32.toInt_inj.mp
      rw [e, ivI ha]
    rw [this]
  · intro e
    have : Int32.ofInt aq &&& Int32.ofInt m = Int32.ofInt ar := Int32.toBitVec_inj.mp e
    rw [this, ivI ha]
