/-! Both tapes say the same: what feed lays down. -/
def TPE (μ : mM) : Prop := ∀ k : Nat, (k : Int) < μ 0 10 → μ 1 k = bAnd (μ 107 k) 255
abbrev tpL : List Nat := [10, 1999, 107999]
theorem TPE.of {μ μ1 : mM} (h : TPE μ) (e0 : μ1 0 10 = μ 0 10) (e1 : ∀ i, μ1 1 i = μ 1 i) (e2 : ∀ i, μ1 107 i = μ 107 i) : TPE μ1 := fun k hk => by
  rw [e0] at hk
  rw [e1, e2]; exact h k hk
theorem TPE.fr {lf : List Nat} {w : mW} {μ μ1 : mM} (h : TPE μ) (hw : mWF w) (hT : mT w μ) (F : mF lf w μ μ1) (hl : (tpL.all fun r => !lf.elem r) = true) : TPE μ1 := h.of (F.f (A_0 hw) (qA_no hl rfl) rfl) (fun _ => F.f (A_1 hw) (qA_no hl rfl) rfl) (fun _ => F.f (A_107 hw) (qA_no hl rfl) rfl)
theorem TPE.frX {lf : List Nat} {w w1 : mW} {μ μ1 : mM} (h : TPE μ) (hw : mWF w) (hT : mT w μ) (F : mX lf w μ w1 μ1) (hl : (tpL.all fun r => !lf.elem r) = true) : TPE μ1 := h.of (F.f (A_0 hw) (qA_no hl rfl) rfl) (fun _ => F.f (A_1 hw) (qA_no hl rfl) rfl) (fun _ => F.f (A_107 hw) (qA_no hl rfl) rfl)
theorem TPE.zero {μ : mM} (h : μ 0 10 = 0) : TPE μ := fun k hk => by omega
theorem TPE.cut {μ μ1 : mM} (h : TPE μ) (e0 : μ1 0 10 ≤ μ 0 10) (e1 : ∀ i, μ1 1 i = μ 1 i) (e2 : ∀ i, μ1 107 i = μ 107 i) : TPE μ1 := fun k hk => by
  rw [e1, e2]; exact h k (by omega)
theorem TPE.tpq {μ : mM} (h : TPE μ) (e : μ 0 10 = μ 106 1) : TPQ μ := ⟨e.symm, h⟩
/-- an octet of a number, shifted with or without its sign -/
theorem sh_bv (v : BitVec 32) (s : Nat) (hs : s ≤ 24) : (((v.sshiftRight s).signExtend 8).signExtend 32) &&& 255#32 = (v >>> s) &&& 255#32 := by
  apply BitVec.eq_of_getLsbD_eq
  intro i hi
  have h255 : (255#32).getLsbD i = decide (i < 8) := by
    have : ∀ i : Fin 32, (255#32).getLsbD i.val = decide (i.val < 8) := by decide
    exact this ⟨i, hi⟩
  rw [BitVec.getLsbD_and, BitVec.getLsbD_and, h255]
  by_cases c : i < 8
  · have h1 : s + i < 32 := by omega
    have h2 : ¬ 32 ≤ i := by omega
    have h3 : i < 32 := hi
    simp only [BitVec.getLsbD_signExtend, BitVec.getLsbD_sshiftRight, BitVec.getLsbD_ushiftRight, c, h1, h2, h3, decide_true, decide_false, Bool.true_and, Bool.and_true, if_true, Bool.not_false]
  · simp only [c, decide_false, Bool.and_false]
theorem sh_i {x b : Int32} {c : UInt32} {s : Nat} (hs : s ≤ 24) (hb : (b.toBitVec.smod 32).toNat = s) (hc : (c.toBitVec % 32).toNat = s) : ((x >>> b).toInt8.toInt32 &&& Int32.ofInt 255) = ((x.toUInt32 >>> c).toInt32 &&& Int32.ofInt 255) := by
  apply Int32.toBitVec_inj.mp
  have e : (Int32.ofInt 255).toBitVec = 255#32 := by decide
  have l : ((x >>> b).toInt8.toInt32).toBitVec = ((x >>> b).toBitVec.signExtend 8).signExtend 32 := rfl
  have r : ((x.toUInt32 >>> c).toInt32).toBitVec = (x.toUInt32 >>> c).toBitVec := rfl
  have l2 : (x >>> b).toBitVec = x.toBitVec.sshiftRight s := by
    rw [Int32.toBitVec_shiftRight, BitVec.sshiftRight', hb]
  have r2 : (x.toUInt32 >>> c).toBitVec = x.toBitVec >>> s := by
    rw [UInt32.toBitVec_shiftRight, BitVec.ushiftRight_eq', hc]
    rfl
  rw [Int32.toBitVec_and, Int32.toBitVec_and, e, l, r, l2, r2]
  exact sh_bv _ s hs
theorem shB {a s z y : Int} (hs : s = 0 ∨ s = 8 ∨ s = 16 ∨ s = 24) (qz : bShr a s = z) (qy : bByte z = y) : bAnd y 255 = bAnd (bUsh a s) 255 := by
  subst qz qy
  unfold bAnd bByte bShr bUsh
  rw [Int32.ofInt_toInt, Int32.ofInt_toInt, Int32.ofInt_toInt]
  congr 1
  rcases hs with e | e | e | e <;> subst e
  · exact sh_i (s := 0) (by decide) (by decide) (by decide)
  · exact sh_i (s := 8) (by decide) (by decide) (by decide)
  · exact sh_i (s := 16) (by decide) (by decide) (by decide)
  · exact sh_i (s := 24) (by decide) (by decide) (by decide)
def fdS (a b c d e : Int) (k : Nat) : Int := if k < 4 then a else if k < 8 then b else if k < 12 then c else if k < 16 then d else e
def fdV (a b c d e : Int) (k : Nat) : Int := bAnd (bUsh (fdS a b c d e k) (24 - 8 * ((k % 4 : Nat) : Int))) 255
def fdN (μ0 μ : mM) (t0 t a : Int) : Prop := (∀ i : Nat, (i : Int) < t0 → μ 1 i = μ0 1 i) ∧ ∀ j : Nat, (j : Int) < t - t0 → μ 1 (t0 + (j : Int)).toNat = bAnd (bUsh a (24 - 8 * (j : Int))) 255
theorem fdN.start {μ : mM} {t a : Int} : fdN μ μ t t a := ⟨fun _ _ => rfl, fun j hj => by omega⟩
theorem fdN.next {μ0 μ μ' μ1 : mM} {t0 t sh z y a t' : Int} (h : fdN μ0 μ t0 t a) (ht : 0 ≤ t0 ∧ t0 ≤ t) (qz : bUsh a sh = z) (qy : bAnd z 255 = y) (hsh : sh = 24 - 8 * (t - t0)) (u : mU μ 1 t.toNat y μ') (e : μ1 1 = μ' 1) (ht' : t' = t + 1) : fdN μ0 μ1 t0 t' a := by
  subst ht'
  unfold fdN
  rw [e]
  refine ⟨fun i hi => ?_, fun j hj => ?_⟩
  · rw [u.2 1 i (Or.inr (by omega))]
    exact h.1 i hi
  · by_cases c : (j : Int) = t - t0
    · have ei : (t0 + (j : Int)).toNat = t.toNat := by omega
      rw [ei, u.1, ← qy, ← qz, hsh, c]
    · rw [u.2 1 _ (Or.inr (by omega))]
      exact h.2 j (by omega)
theorem fdN.fin {μ0 μ : mM} {t0 t t' a : Int} (h : fdN μ0 μ t0 t a) (e : t' = t) : fdN μ0 μ t0 t' a := by rw [e]; exact h
def fdC (μ μ1 : mM) (q a b c d e : Int) : Prop := (∀ i : Nat, (i : Int) < q → μ1 1 i = μ 1 i) ∧ ∀ j : Nat, j < 20 → μ1 1 (q + (j : Int)).toNat = fdV a b c d e j
theorem fdC.mk {μ μ1 μ2 μ3 μ4 μ5 : mM} {q t1 t2 t3 t4 a b c d e : Int} (q0 : 0 ≤ q) (h1 : fdN μ μ1 q (q + 4) a) (e1 : t1 = q + 4) (h2 : fdN μ1 μ2 t1 (t1 + 4) b) (e2 : t2 = q + 8) (h3 : fdN μ2 μ3 t2 (t2 + 4) c) (e3 : t3 = q + 12) (h4 : fdN μ3 μ4 t3 (t3 + 4) d) (e4 : t4 = q + 16) (h5 : fdN μ4 μ5 t4 (t4 + 4) e) : fdC μ μ5 q a b c d e := by
  have D : ∀ i : Nat, (i : Int) < q + 16 → μ5 1 i = μ4 1 i := fun i hi => h5.1 i (by omega)
  have C : ∀ i : Nat, (i : Int) < q + 12 → μ5 1 i = μ3 1 i := fun i hi => (D i (by omega)).trans (h4.1 i (by omega))
  have B : ∀ i : Nat, (i : Int) < q + 8 → μ5 1 i = μ2 1 i := fun i hi => (C i (by omega)).trans (h3.1 i (by omega))
  have A : ∀ i : Nat, (i : Int) < q + 4 → μ5 1 i = μ1 1 i := fun i hi => (B i (by omega)).trans (h2.1 i (by omega))
  refine ⟨fun i hi => (A i (by omega)).trans (h1.1 i hi), fun j hj => ?_⟩
  unfold fdV fdS
  by_cases c1 : j < 4
  · have g := h1.2 j (by omega)
    have em : j % 4 = j := by omega
    rw [if_pos c1, A _ (by omega), g, em]
  · by_cases c2 : j < 8
    · have g := h2.2 (j - 4) (by omega)
      have ei : (t1 + ((j - 4 : Nat) : Int)).toNat = (q + (j : Int)).toNat := by omega
      have em : j % 4 = j - 4 := by omega
      rw [ei] at g
      rw [if_neg c1, if_pos c2, B _ (by omega), g, em]
    · by_cases c3 : j < 12
      · have g := h3.2 (j - 8) (by omega)
        have ei : (t2 + ((j - 8 : Nat) : Int)).toNat = (q + (j : Int)).toNat := by omega
        have em : j % 4 = j - 8 := by omega
        rw [ei] at g
        rw [if_neg c1, if_neg c2, if_pos c3, C _ (by omega), g, em]
      · by_cases c4 : j < 16
        · have g := h4.2 (j - 12) (by omega)
          have ei : (t3 + ((j - 12 : Nat) : Int)).toNat = (q + (j : Int)).toNat := by omega
          have em : j % 4 = j - 12 := by omega
          rw [ei] at g
          rw [if_neg c1, if_neg c2, if_neg c3, if_pos c4, D _ (by omega), g, em]
        · have g := h5.2 (j - 16) (by omega)
          have ei : (t4 + ((j - 16 : Nat) : Int)).toNat = (q + (j : Int)).toNat := by omega
          have em : j % 4 = j - 16 := by omega
          rw [ei] at g
          rw [if_neg c1, if_neg c2, if_neg c3, if_neg c4, g, em]
def fdR (μ μ1 : mM) (q k a b c d e : Int) : Prop := (∀ i : Nat, (i : Int) < q → μ1 107 i = μ 107 i) ∧ ∀ j : Nat, (j : Int) < k → bAnd (μ1 107 (q + (j : Int)).toNat) 255 = fdV a b c d e j
theorem fdR.start {μ : mM} {q k a b c d e : Int} (h : k ≤ 0) : fdR μ μ q k a b c d e := ⟨fun _ _ => rfl, fun j hj => by omega⟩
theorem fdR.next {μ0 μ μ1 : mM} {q k a b c d e x s z y i : Int} (h : fdR μ0 μ q k a b c d e) (q0 : 0 ≤ q) (k0 : 0 ≤ k) (hs : s = 0 ∨ s = 8 ∨ s = 16 ∨ s = 24) (qz : bShr x s = z) (qy : bByte z = y) (hsk : s = 24 - 8 * (k % 4)) (hx : x = fdS a b c d e k.toNat) (u : mU μ 107 i.toNat y μ1) (hi : i = q + k) : fdR μ0 μ1 q (k + 1) a b c d e := by
  subst hi
  refine ⟨fun i hi => ?_, fun j hj => ?_⟩
  · rw [u.2 107 i (Or.inr (by omega))]
    exact h.1 i hi
  · by_cases c' : (j : Int) = k
    · have ej : j = k.toNat := by omega
      have em : ((j % 4 : Nat) : Int) = k % 4 := by omega
      rw [c', u.1, shB hs qz qy]
      unfold fdV
      rw [em, ← hsk, ej, ← hx]
    · rw [u.2 107 _ (Or.inr (by omega))]
      exact h.2 j (by omega)
theorem fdR.of {μ0 μ μ1 : mM} {q k a b c d e : Int} (h : fdR μ0 μ q k a b c d e) (r : μ1 107 = μ 107) (hk : 20 ≤ k) : fdR μ0 μ1 q 20 a b c d e := by
  unfold fdR
  rw [r]
  exact ⟨h.1, fun j hj => h.2 j (by omega)⟩
theorem fdS.is {a b c d e x k : Int} (h0 : 0 ≤ k) (h : (k < 4 ∧ x = a) ∨ (4 ≤ k ∧ k < 8 ∧ x = b) ∨ (8 ≤ k ∧ k < 12 ∧ x = c) ∨ (12 ≤ k ∧ k < 16 ∧ x = d) ∨ (16 ≤ k ∧ x = e)) : x = fdS a b c d e k.toNat := by
  unfold fdS
  rcases h with ⟨h1, e⟩ | ⟨h1, h2, e⟩ | ⟨h1, h2, e⟩ | ⟨h1, h2, e⟩ | ⟨h1, e⟩
  · rw [if_pos (by omega)]; exact e
  · rw [if_neg (by omega), if_pos (by omega)]; exact e
  · rw [if_neg (by omega), if_neg (by omega), if_pos (by omega)]; exact e
  · rw [if_neg (by omega), if_neg (by omega), if_neg (by omega), if_pos (by omega)]; exact e
  · rw [if_neg (by omega), if_neg (by omega), if_neg (by omega), if_neg (by omega)]; exact e
theorem TPE.feed {μ ma mb : mM} {q z a b c d e : Int} (h : TPE μ) (hq : μ 0 10 = q) (q0 : 0 ≤ q) (pa : (z < 0 ∧ ma 1 = μ 1) ∨ (0 ≤ z ∧ fdC μ ma q a b c d e)) (r7 : ∀ i, ma 107 i = μ 107 i) (pb : (z < 0 ∧ mb 107 = ma 107) ∨ (0 ≤ z ∧ fdR ma mb q 20 a b c d e)) (r1 : ∀ i, mb 1 i = ma 1 i) (h1 : z < 0 → mb 0 10 = q) (h2 : 0 ≤ z → mb 0 10 = q + 20) : TPE mb := fun k hk => by
  rw [r1]
  rcases pa with ⟨s1, e1⟩ | ⟨s1, f1⟩ <;> rcases pb with ⟨s2, e2⟩ | ⟨s2, f2⟩
  · have g := h1 s1
    rw [e1, e2, r7]
    exact h k (by omega)
  · omega
  · omega
  · have g := h2 s1
    by_cases c' : (k : Int) < q
    · rw [f1.1 k c', f2.1 k c', r7]
      exact h k (by omega)
    · have x1 := f1.2 (k - q.toNat) (by omega)
      have x2 := f2.2 (k - q.toNat) (by omega)
      have ek : (q + ((k - q.toNat : Nat) : Int)).toNat = k := by omega
      rw [ek] at x1 x2
      rw [x1, x2]
