/-! least: how large; the reference. -/
/-- how many of the first m prefixes lie below an address with n bits left -/
noncomputable def udN (A : Nat → Int) (n : Nat) (x : Int) : Nat → Nat
  | 0 => 0
  | m + 1 => udN A n x m + cIf (bAnd (A m) (mskF (32 - (n : Int))) = x) 1 0
theorem udN.le {A : Nat → Int} {n : Nat} {x : Int} : ∀ m, udN A n x m ≤ m
  | 0 => Nat.le_refl _
  | m + 1 => by
    have ih := udN.le (A := A) (n := n) (x := x) m
    show udN A n x m + cIf (bAnd (A m) (mskF (32 - (n : Int))) = x) 1 0 ≤ m + 1
    by_cases c : bAnd (A m) (mskF (32 - (n : Int))) = x
    · rw [cIf.pos c]; omega
    · rw [cIf.neg c]; omega
theorem udN.pos {A : Nat → Int} {n : Nat} {x : Int} : ∀ {m p : Nat}, p < m → bAnd (A p) (mskF (32 - (n : Int))) = x → 1 ≤ udN A n x m
  | 0, p, hp, _ => absurd hp (Nat.not_lt_zero p)
  | m + 1, p, hp, h => by
    show 1 ≤ udN A n x m + cIf (bAnd (A m) (mskF (32 - (n : Int))) = x) 1 0
    by_cases c : p = m
    · subst c
      rw [cIf.pos h]; omega
    · have := udN.pos (A := A) (n := n) (x := x) (m := m) (p := p) (by omega) h
      omega
theorem udN.add {A : Nat → Int} {n n' : Nat} {x x1 x2 : Int} (h1 : ∀ p, bAnd (A p) (mskF (32 - (n : Int))) = x1 → bAnd (A p) (mskF (32 - (n' : Int))) = x) (h2 : ∀ p, bAnd (A p) (mskF (32 - (n : Int))) = x2 → bAnd (A p) (mskF (32 - (n' : Int))) = x) (ne : ¬ x1 = x2) : ∀ m, udN A n x1 m + udN A n x2 m ≤ udN A n' x m
  | 0 => Nat.le_refl _
  | m + 1 => by
    have ih := udN.add h1 h2 ne m
    show (udN A n x1 m + cIf (bAnd (A m) (mskF (32 - (n : Int))) = x1) 1 0) + (udN A n x2 m + cIf (bAnd (A m) (mskF (32 - (n : Int))) = x2) 1 0) ≤ udN A n' x m + cIf (bAnd (A m) (mskF (32 - (n' : Int))) = x) 1 0
    by_cases c1 : bAnd (A m) (mskF (32 - (n : Int))) = x1
    · have c2 : ¬ bAnd (A m) (mskF (32 - (n : Int))) = x2 := fun e => ne (c1.symm.trans e)
      rw [cIf.pos c1, cIf.neg c2, cIf.pos (h1 m c1)]
      omega
    · rw [cIf.neg c1]
      by_cases c2 : bAnd (A m) (mskF (32 - (n : Int))) = x2
      · rw [cIf.pos c2, cIf.pos (h2 m c2)]
        omega
      · rw [cIf.neg c2]
        omega
theorem bit_fin : ∀ n : Fin 32, (Int32.ofInt (bShl 1 ((n.val : Nat) : Int))).toBitVec = 1#32 <<< n.val := by decide +kernel
theorem bv_shl {k i : Nat} : (BitVec.allOnes 32 <<< k).getLsbD i = (decide (i < 32) && !decide (i < k)) := by
  rw [BitVec.getLsbD_shiftLeft, BitVec.getLsbD_allOnes]
  by_cases c1 : i < 32
  · by_cases c2 : i < k
    · simp [c1, c2]
    · have c3 : i - k < 32 := by omega
      simp [c1, c2, c3]
  · simp [c1]
theorem bv_one {k i : Nat} : (1#32 <<< k).getLsbD i = (decide (i < 32) && decide (i = k)) := by
  rw [BitVec.getLsbD_shiftLeft]
  by_cases c1 : i < 32
  · by_cases c2 : i < k
    · have c3 : ¬ i = k := by omega
      simp [c1, c2, c3]
    · by_cases c3 : i = k
      · subst c3
        simp [c1, BitVec.getLsbD_one]
      · have c4 : ¬ i - k = 0 := by omega
        simp [c1, c2, c3, c4, BitVec.getLsbD_one]
  · simp [c1]
section Und
variable {n : Nat} {x q a : Int}
theorem toB {a b : Int} : (Int32.ofInt (bAnd a b)).toBitVec = (Int32.ofInt a).toBitVec &&& (Int32.ofInt b).toBitVec := by
  unfold bAnd
  rw [Int32.ofInt_toInt, Int32.toBitVec_and]
theorem toO {a b : Int} : (Int32.ofInt (bOr a b)).toBitVec = (Int32.ofInt a).toBitVec ||| (Int32.ofInt b).toBitVec := by
  unfold bOr
  rw [Int32.ofInt_toInt, Int32.toBitVec_or]
theorem ofB {a b c d : Int} (h : (Int32.ofInt a).toBitVec &&& (Int32.ofInt b).toBitVec = (Int32.ofInt c).toBitVec &&& (Int32.ofInt d).toBitVec) : bAnd a b = bAnd c d := by
  unfold bAnd
  congr 1
  apply Int32.toBitVec_inj.mp
  rw [Int32.toBitVec_and, Int32.toBitVec_and]
  exact h
theorem mskB (hn : n ≤ 32) : (Int32.ofInt (mskF (32 - (n : Int)))).toBitVec = BitVec.allOnes 32 <<< n := by
  have m := msk_fin ⟨32 - n, by omega⟩
  have m : (Int32.ofInt (mskF (((32 - n : Nat)) : Int))).toBitVec = BitVec.allOnes 32 <<< (32 - (32 - n)) := m
  rw [show (((32 - n : Nat)) : Int) = 32 - (n : Int) by omega, show 32 - (32 - n) = n by omega] at m
  exact m
/-- both halves of a part lie in it, and are two -/
theorem halves (hn : n ≤ 31) (hx : x = bAnd q (mskF (31 - (n : Int)))) : (∀ a, bAnd a (mskF (32 - (n : Int))) = x → bAnd a (mskF (32 - ((n + 1 : Nat) : Int))) = x) ∧ (∀ a, bAnd a (mskF (32 - (n : Int))) = bOr x (bShl 1 (n : Int)) → bAnd a (mskF (32 - ((n + 1 : Nat) : Int))) = x) ∧ ¬ x = bOr x (bShl 1 (n : Int)) := by
  have e1 : (31 : Int) - (n : Int) = 32 - ((n + 1 : Nat) : Int) := by omega
  rw [e1] at hx
  have m0 := mskB (n := n) (by omega)
  have m1 := mskB (n := n + 1) (by omega)
  have b1 := bit_fin ⟨n, by omega⟩
  have b1 : (Int32.ofInt (bShl 1 (n : Int))).toBitVec = 1#32 <<< n := b1
  have xb : (Int32.ofInt x).toBitVec = (Int32.ofInt q).toBitVec &&& (BitVec.allOnes 32 <<< (n + 1)) := by
    rw [hx, toB, m1]
  refine ⟨fun a h => ?_, fun a h => ?_, fun h => ?_⟩
  · rw [hx]
    apply ofB
    have h := congrArg (fun z => (Int32.ofInt z).toBitVec) h
    have h : (Int32.ofInt (bAnd a (mskF (32 - (n : Int))))).toBitVec = (Int32.ofInt x).toBitVec := h
    rw [toB, m0, xb] at h
    rw [m1]
    apply BitVec.eq_of_getLsbD_eq
    intro i hi
    have g := congrArg (fun v => BitVec.getLsbD v i) h
    simp only [BitVec.getLsbD_and, bv_shl] at g
    simp only [BitVec.getLsbD_and, bv_shl]
    by_cases c : i < n + 1
    · simp [c]
    · have c2 : ¬ i < n := by omega
      simp [hi, c, c2] at g
      simp [hi, c, g]
  · rw [hx]
    apply ofB
    have h := congrArg (fun z => (Int32.ofInt z).toBitVec) h
    have h : (Int32.ofInt (bAnd a (mskF (32 - (n : Int))))).toBitVec = (Int32.ofInt (bOr x (bShl 1 (n : Int)))).toBitVec := h
    rw [toB, m0, toO, b1, xb] at h
    rw [m1]
    apply BitVec.eq_of_getLsbD_eq
    intro i hi
    have g := congrArg (fun v => BitVec.getLsbD v i) h
    simp only [BitVec.getLsbD_and, BitVec.getLsbD_or, bv_shl, bv_one] at g
    simp only [BitVec.getLsbD_and, bv_shl]
    by_cases c : i < n + 1
    · simp [c]
    · have c2 : ¬ i < n := by omega
      have c3 : ¬ i = n := by omega
      simp [hi, c, c2, c3] at g
      simp [hi, c, g]
  · have h := congrArg (fun z => (Int32.ofInt z).toBitVec) h
    have h : (Int32.ofInt x).toBitVec = (Int32.ofInt (bOr x (bShl 1 (n : Int)))).toBitVec := h
    rw [toO, b1, xb] at h
    have g := congrArg (fun v => BitVec.getLsbD v n) h
    simp only [BitVec.getLsbD_and, BitVec.getLsbD_or, bv_shl, bv_one] at g
    have c : n < 32 := by omega
    simp [c] at g
end Und
theorem lsN.bnd {y : S2} {d : Nat} : ∀ (n : Nat) (x : Int), n ≤ 32 → 0 ≤ (lsN (tA y d) (splP y d) n x).1 ∧ (lsN (tA y d) (splP y d) n x).1 ≤ ((n * udN (jA (xJ (yX y))) n x (eP (xE (yX y))) : Nat) : Int)
  | 0, x, _ => by
    show (0 : Int) ≤ 0 ∧ (0 : Int) ≤ _
    omega
  | n + 1, x, hn => by
    obtain ⟨a1, a2⟩ := lsN.bnd (y := y) (d := d) n x (by omega)
    obtain ⟨b1, b2⟩ := lsN.bnd (y := y) (d := d) n (bOr x (bShl 1 (n : Int))) (by omega)
    by_cases h : splP y d x (31 - (n : Int))
    · obtain ⟨p, hp, _, _, hx⟩ := id h
      obtain ⟨h1, h2, h3⟩ := halves (n := n) (by omega) hx.symm
      have u1 := udN.add (A := jA (xJ (yX y))) (n := n) (n' := n + 1) (fun p => h1 _) (fun p => h2 _) h3 (eP (xE (yX y)))
      have u2 : 1 ≤ udN (jA (xJ (yX y))) (n + 1) x (eP (xE (yX y))) := udN.pos hp (by
        rw [← hx]
        have e1 : (31 : Int) - (n : Int) = 32 - ((n + 1 : Nat) : Int) := by omega
        rw [e1])
      have u3 := Nat.mul_le_mul_left n u1
      rw [Nat.mul_add] at u3
      have u4 : (n + 1) * udN (jA (xJ (yX y))) (n + 1) x (eP (xE (yX y))) = n * udN (jA (xJ (yX y))) (n + 1) x (eP (xE (yX y))) + udN (jA (xJ (yX y))) (n + 1) x (eP (xE (yX y))) := Nat.succ_mul _ _
      by_cases g : ∃ a, (lsN (tA y d) (splP y d) n x).2 a ∧ (lsN (tA y d) (splP y d) n (bOr x (bShl 1 (n : Int)))).2 a
      · rw [lsN.both h g]
        show 0 ≤ (lsN (tA y d) (splP y d) n x).1 + (lsN (tA y d) (splP y d) n (bOr x (bShl 1 (n : Int)))).1 ∧ (lsN (tA y d) (splP y d) n x).1 + (lsN (tA y d) (splP y d) n (bOr x (bShl 1 (n : Int)))).1 ≤ _
        rw [u4]
        omega
      · rw [lsN.any h g]
        show 0 ≤ (lsN (tA y d) (splP y d) n x).1 + (lsN (tA y d) (splP y d) n (bOr x (bShl 1 (n : Int)))).1 + 1 ∧ (lsN (tA y d) (splP y d) n x).1 + (lsN (tA y d) (splP y d) n (bOr x (bShl 1 (n : Int)))).1 + 1 ≤ _
        rw [u4]
        omega
    · rw [lsN.leaf h]
      show (0 : Int) ≤ 0 ∧ (0 : Int) ≤ _
      omega
theorem cst.rng {y : S2} {d n : Nat} {x a : Int} (k : K2X y) (hn : n ≤ 32) : 0 ≤ cst (tA y d) (splP y d) n x a ∧ cst (tA y d) (splP y d) n x a ≤ 321 := by
  obtain ⟨a1, a2⟩ := lsN.bnd (y := y) (d := d) n x hn
  have p10 := k.2.2.1.1
  have u := udN.le (A := jA (xJ (yX y))) (n := n) (x := x) (eP (xE (yX y)))
  have m := Nat.mul_le_mul hn (Nat.le_trans u p10)
  by_cases c : (lsN (tA y d) (splP y d) n x).2 a
  · rw [cst.in c]; omega
  · rw [cst.out c]; omega
section LeR
variable {w : mW} {μ : mM} {y : S2} {d : Nat}
/-- the parts that are reckoned -/
def ndT (y : S2) (d : Nat) (m : mM) (N : Nat) : Prop := m 106 116 = (N : Int) ∧ ∀ k, k < N → ∃ n : Nat, n ≤ 31 ∧ m 181 k = 31 - (n : Int) ∧ ∀ a : Nat, a < 22 → m 182 (22 * k + a) = cst (tA y d) (splP y d) (n + 1) (m 180 k) (a : Int)
/-- all that are split and lie deeper are there -/
def ndC (y : S2) (d : Nat) (m : mM) (N : Nat) (D : Int) : Prop := ∀ n : Nat, n ≤ 31 → D < 31 - (n : Int) → ∀ x, splP y d x (31 - (n : Int)) → ∃ k, k < N ∧ m 180 k = x ∧ m 181 k = 31 - (n : Int)
theorem X12_nodeOf_s {x l : Int} {N : Nat} {Q : Int → mM → Prop} (e : μ 106 116 = (N : Int)) (hN : N ≤ 400) (hq : ∀ z : Int, ((z = -99999999 ∧ ∀ k, k < N → ¬ (μ 180 k = x ∧ μ 181 k = l)) ∨ (∃ k : Nat, z = (k : Int) ∧ k < N ∧ μ 180 k = x ∧ μ 181 k = l)) → Q z μ) : WP_X12_nodeOf_W w μ x l Q := by
  refine loopF.i (fun i => 0 ≤ i ∧ i ≤ (N : Int) ∧ ∀ k : Nat, (k : Int) < i → ¬ (μ 180 k = x ∧ μ 181 k = l)) (fun i => (401 - i).toNat) ⟨by omega, by omega, fun k hk => absurd hk (by omega)⟩ (by omega) ?_
  rintro rc i ⟨i0, i1, hi⟩ ih i' e' ri n en rn
  cases e'
  rw [e] at en
  subst en
  obtain ⟨iN, rfl⟩ : ∃ n : Nat, i = (n : Int) := ⟨i.toNat, by omega⟩
  have nx : (iN : Int) < (N : Int) → ¬ (μ 180 iN = x ∧ μ 181 iN = l) → rc ((iN : Int) + 1) := fun cN g => ih _ ⟨by omega, by omega, fun k hk => by
    by_cases c : (k : Int) < (iN : Int)
    · exact hi k c
    · rw [show k = iN by omega]; exact g⟩ (by omega)
  refine ⟨fun c => hq _ (Or.inl ⟨rfl, fun k hk => hi k (by omega)⟩), fun c z ez rz => ⟨fun c2 => nx c fun g => c2 (ez.symm.trans g.1), fun c2 z2 ez2 rz2 => ⟨fun c3 => nx c fun g => c3 (ez2.symm.trans g.2), fun c3 => hq _ (Or.inr ⟨iN, rfl, by omega, ez.trans c2, ez2.trans c3⟩)⟩⟩⟩
theorem X12_costOf_s {x l a : Int} {n N : Nat} {Q : Int → mM → Prop} (hw : mWF w) (hT : mT w μ) (h : K2R μ y) (k : K2X y) (u : upI (xE (yX y)) (xS (yX y))) (hd : d < eD (xE (yX y))) (ha : 0 ≤ a ∧ a ≤ 21) (hn : n ≤ 32) (el : l = 32 - (n : Int)) (nt : ndT y d μ N) (nc : ndC y d μ N (l - 1)) (hq : Q (cst (tA y d) (splP y d) n x a) μ) : WP_X12_costOf_W w μ (d : Int) x l a Q := by
  have N4 : 0 ≤ μ 106 116 ∧ μ 106 116 ≤ 400 := hT 106 106 (A_106 hw) 116
  have nt0 := nt.1
  refine X12_nodeOf_s nt.1 (by omega) fun z hz rz => ⟨fun c => ?_, fun c z22 e22 r22 => ?_⟩
  · have no : ∀ j, j < N → ¬ (μ 180 j = x ∧ μ 181 j = l) := by
      rcases hz with ⟨_, g⟩ | ⟨j, e, _⟩
      · exact g
      · omega
    have E : lsN (tA y d) (splP y d) n x = (0, fun a => a = tA y d x) := by
      cases n with
      | zero => rfl
      | succ n =>
        refine lsN.leaf fun g => ?_
        obtain ⟨j, j1, j2, j3⟩ := nc n (by omega) (by omega) x g
        exact no j j1 ⟨j2, by omega⟩
    have e0 : a = tA y d x → cst (tA y d) (splP y d) n x a = 0 := fun g => by
      unfold cst
      rw [E]
      exact (Int.zero_add _).trans (cIf.pos g)
    have e1 : ¬ a = tA y d x → cst (tA y d) (splP y d) n x a = 1 := fun g => by
      unfold cst
      rw [E]
      exact (Int.zero_add _).trans (cIf.neg g)
    refine X12_sends_s hw h k hd fun _ => ?_
    have fin : ∀ z17 : Int, z17 = tA y d x → ((-2147483648 ≤ z17 ∧ z17 ≤ 2147483647) → ((¬ z17 = a) → Q 1 μ) ∧ ((z17 = a) → Q 0 μ)) := fun z17 g _ => ⟨fun c2 => by
      rw [e1 fun q => c2 (g.trans q.symm)] at hq
      exact hq, fun c2 => by
      rw [e0 (c2.symm.trans g)] at hq
      exact hq⟩
    refine ⟨fun c2 => ⟨fun c3 => fin _ ?_, fun c3 => fin _ ?_⟩, fun c2 => fin _ ?_⟩
    · unfold tA aimI
      rw [if_neg c2, if_neg c3]
    · unfold tA aimI
      rw [if_neg c2, if_pos c3]
    · unfold tA aimI
      rw [if_pos c2]
  · rcases hz with ⟨g, _⟩ | ⟨j, e, j1, j2, j3⟩
    · exact absurd g c
    · obtain ⟨n', n1, n2, n3⟩ := nt.2 j j1
      have en : n = n' + 1 := by omega
      have v := n3 a.toNat (by omega)
      rw [show (22 * z + a).toNat = 22 * j + a.toNat by omega, v, j2, show ((a.toNat : Nat) : Int) = a by omega] at e22
      rw [en] at hq
      rw [← e22]
      exact hq
/-- a table is the same where nothing of it has changed -/
theorem ndT.cg {m : mM} {N : Nat} (h : ndT y d μ N) (e0 : m 106 116 = μ 106 116) (e1 : ∀ k, k < N → m 180 k = μ 180 k ∧ m 181 k = μ 181 k) (e2 : ∀ i, i < 22 * N → m 182 i = μ 182 i) : ndT y d m N := ⟨e0.trans h.1, fun k hk => by
  obtain ⟨n, n1, n2, n3⟩ := h.2 k hk
  obtain ⟨a1, a2⟩ := e1 k hk
  refine ⟨n, n1, a2.trans n2, fun a ha => ?_⟩
  rw [e2 _ (by omega), a1]
  exact n3 a ha⟩
theorem ndC.cg {m : mM} {N N' : Nat} {D : Int} (h : ndC y d μ N D) (hN : N ≤ N') (e1 : ∀ k, k < N → m 180 k = μ 180 k ∧ m 181 k = μ 181 k) : ndC y d m N' D := fun n n1 n2 x hx => by
  obtain ⟨k, k1, k2, k3⟩ := h n n1 n2 x hx
  obtain ⟨a1, a2⟩ := e1 k k1
  exact ⟨k, by omega, a1.trans k2, a2.trans k3⟩
abbrev leL : List Nat := [106116, 180999, 181999, 182999]
theorem R_leastA {d0 : Int} (hw : mWF w) (hT : mT w μ) (h : K2R μ y) (k : K2X y) (u : upI (xE (yX y)) (xS (yX y))) : WP_X12_least_W w μ d0 (fun z _ => leQ y d0 z) := by
  have ev := h.1.env (w := w) hw k.1
  have p10 := k.2.2.1.1
  intro n0 en0 rn0
  refine X12_isDomain_s ev fun z hz rz => ⟨fun q => ?_, fun q => Or.inl ⟨fun g => ?_, rfl⟩⟩
  rotate_left 1
  · have := hz.mpr g
    omega
  have g : inD y d0 := hz.mp (by omega)
  obtain ⟨g0, g1⟩ := hz.mp (show z = 1 by omega)
  obtain ⟨d, rfl⟩ : ∃ n : Nat, d0 = (n : Int) := ⟨d0.toNat, by omega⟩
  have hd : d < eD (xE (yX y)) := by omega
  have hT0 := tA.rng u k hd
  intro m1 u1 T1
  obtain rfl := u1.is
  have F1 : mF leL w μ (mUp μ 106 116 0) := mF.refl.up (A_106 hw) mUp_ok rfl
  refine loopF.im (fun D m => -1 ≤ D ∧ D ≤ 31 ∧ ∃ N : Nat, ndT y d m N ∧ ndC y d m N D) (fun D => (D + 1).toNat) ⟨by omega, by omega, 0, ⟨mUp.yes ⟨rfl, rfl⟩, fun k hk => absurd hk (Nat.not_lt_zero _)⟩, fun n n1 n2 => absurd n2 (by omega)⟩ (by omega) ?_
  rintro rc D m ⟨D0, D1, N, nt, nc⟩ ih D' m' e rD T F fn efn rfn
  cases e
  have F0 : mF leL w μ m := F1.call F rfl
  have K : K2R m y := h.fr hw hT (mX.ofF F0) rfl
  refine ⟨fun c => ?_, fun c => ?_⟩
  · refine X12_costOf_s (n := 32) hw T K k u hd (by omega) (by decide) (by omega) nt (by
      rw [show (0 : Int) - 1 = D by omega]
      exact nc) fun _ => Or.inr ⟨g, ?_⟩
    rw [Int.toNat_natCast]
    omega
  obtain ⟨n, hn, eD⟩ : ∃ n : Nat, n ≤ 31 ∧ D = 31 - (n : Int) := ⟨(31 - D).toNat, by omega, by omega⟩
  refine loopF.im (fun p m => 0 ≤ p ∧ p ≤ (eP (xE (yX y)) : Int) ∧ ∃ N : Nat, ndT y d m N ∧ ndC y d m N D ∧ ∀ q : Nat, (q : Int) < p → ¬ (sPk (xS (yX y)) (10 * d + q)).1 = -99999999 → D < jL (xJ (yX y)) q → ∃ k, k < N ∧ m 180 k = bAnd (jA (xJ (yX y)) q) (mskF D) ∧ m 181 k = D) (fun p => (11 - p).toNat) ⟨by omega, by omega, N, nt, nc, fun q hq => absurd hq (by omega)⟩ (by omega) ?_
  rintro r2 p m2 ⟨p0, p1, N2, nt2, nc2, hc2⟩ ih2 p' m2' e2 rp T2 F2 fe efe rfe n3 en3 rn3
  cases e2
  have F02 : mF leL w μ m2 := F0.call F2 rfl
  have K2 : K2R m2 y := h.fr hw hT (mX.ofF F02) rfl
  have ev2 := K2.1.env (w := w) hw k.1
  have st2 := K2.1.2.2.2.2.1
  have tb2 := K2.1.2.1.2.1
  rw [ev2.2.1] at en3
  subst en3
  rw [nt2.1] at efe
  subst efe
  refine ⟨fun c2 => ih _ _ ⟨by omega, by omega, N2, nt2, fun n' n1 n2 x hx => ?_⟩ (by omega), fun c2 z1 e1 r1 => ?_⟩
  · by_cases cD : D < 31 - (n' : Int)
    · exact nc2 n' n1 cD x hx
    · obtain ⟨q, hq, h1, h2, h3⟩ := hx
      have eq : 31 - (n' : Int) = D := by omega
      rw [eq] at h2 h3 ⊢
      obtain ⟨k1, k2, k3, k4⟩ := hc2 q (by omega) h1 h2
      exact ⟨k1, k2, k3.trans h3, k4⟩
  obtain ⟨pn, rfl⟩ : ∃ n : Nat, p = (n : Int) := ⟨p.toNat, by omega⟩
  rw [show (10 * (d : Int) + (pn : Int)).toNat = 10 * d + pn by omega, (st2.2.1 (10 * d + pn) (Or.inl (by omega))).1] at e1
  have nx : (¬ (sPk (xS (yX y)) (10 * d + pn)).1 = -99999999 → D < jL (xJ (yX y)) pn → ∃ k, k < N2 ∧ m2 180 k = bAnd (jA (xJ (yX y)) pn) (mskF D) ∧ m2 181 k = D) → r2 ((pn : Int) + 1, m2) := fun gq => ih2 _ _ ⟨by omega, by omega, N2, nt2, nc2, fun q hq h1 h2 => by
    by_cases c : (q : Int) < (pn : Int)
    · exact hc2 q c h1 h2
    · have eq : q = pn := by omega
      subst eq
      exact gq h1 h2⟩ (by omega)
  refine ⟨fun c3 => nx fun g1 => absurd (e1.trans c3) g1, fun c3 z2 ez2 r2' => ?_⟩
  rw [Int.toNat_natCast, (tb2 pn (by omega)).2] at ez2
  subst ez2
  refine ⟨fun c4 z4 e4 r4 => ?_, fun c4 => nx fun _ g2 => absurd g2 (by omega)⟩
  rw [Int.toNat_natCast, (tb2 pn (by omega)).1] at e4
  subst e4
  refine X12_mask_s (by omega) fun _ x ex => ?_
  have N4 : 0 ≤ m2 106 116 ∧ m2 106 116 ≤ 400 := T2 106 106 (A_106 hw) 116
  have nt20 := nt2.1
  refine X12_nodeOf_s nt2.1 (by omega) fun z5 h5 r5 => ⟨fun c5 z6 e6 x' ex' => ?_, fun c5 => nx fun _ _ => ?_⟩
  rotate_left 1
  · rcases h5 with ⟨q, _⟩ | ⟨k1, _, k2, k3, k4⟩
    · exact absurd q c5
    · exact ⟨k1, k2, k3.trans ex.symm, k4⟩
  have ex' : x' = bOr x (bShl 1 (n : Int)) := by
    rw [← ex', ← e6, show 31 - D = (n : Int) by omega]
  have sp : splP y d x (31 - (n : Int)) := ⟨pn, by omega, fun q => c3 (e1.symm.trans q), by omega, by
    rw [← eD]
    exact ex⟩
  obtain ⟨s, es⟩ : ∃ s : Int → Int, (fun b => cst (tA y d) (splP y d) n x b + cst (tA y d) (splP y d) n (bOr x (bShl 1 (n : Int))) b) = s := ⟨_, rfl⟩
  have sv : ∀ b, s b = cst (tA y d) (splP y d) n x b + cst (tA y d) (splP y d) n (bOr x (bShl 1 (n : Int))) b := fun b => (congrFun es b).symm
  have sr : ∀ b, 0 ≤ s b ∧ s b ≤ 642 := fun b => by
    have r1 := cst.rng (d := d) (n := n) (x := x) (a := b) k (by omega)
    have r2 := cst.rng (d := d) (n := n) (x := bOr x (bShl 1 (n : Int))) (a := b) k (by omega)
    rw [sv]
    omega
  refine loopF.iim (fun l a m => 0 ≤ a ∧ a ≤ 22 ∧ (∀ b : Nat, (b : Int) < a → m 182 (22 * N2 + b) = s (b : Int)) ∧ (∀ i, i < 22 * N2 → m 182 i = m2 182 i) ∧ ((a = 0 ∧ l = -99999999) ∨ (0 < a ∧ (∀ b : Nat, (b : Int) < a → l ≤ s (b : Int)) ∧ ∃ b : Nat, (b : Int) < a ∧ l = s (b : Int)))) (fun _ a => (23 - a).toNat) ⟨by omega, by omega, fun b hb => absurd hb (by omega), fun _ _ => rfl, Or.inl ⟨rfl, rfl⟩⟩ (by omega) ?_
  rintro r3 l a m3 ⟨a0, a1, hv, ho, hl⟩ ih3 l' a' m3' e3 rl ra T3 F3
  cases e3
  have F03 : mF leL w μ m3 := F02.call F3 rfl
  have K3' : K2R m3 y := h.fr hw hT (mX.ofF F03) rfl
  have f180 : ∀ i, m3 180 i = m2 180 i := fun i => F3.f (A_180 hw) rfl rfl
  have f181 : ∀ i, m3 181 i = m2 181 i := fun i => F3.f (A_181 hw) rfl rfl
  have f116 : m3 106 116 = m2 106 116 := F3.f (A_106 hw) rfl rfl
  have nt3 : ndT y d m3 N2 := nt2.cg f116 (fun k _ => ⟨f180 k, f181 k⟩) ho
  have nc3 : ndC y d m3 N2 D := nc2.cg (Nat.le_refl _) fun k _ => ⟨f180 k, f181 k⟩
  refine ⟨fun c6 => ?_, fun c6 => ?_⟩
  rotate_left 1
  · obtain ⟨aN, rfl⟩ : ∃ n : Nat, a = (n : Int) := ⟨a.toNat, by omega⟩
    have ncD : ndC y d m3 N2 (D + 1 - 1) := by
      rw [show D + 1 - 1 = D by omega]
      exact nc3
    refine X12_costOf_s (n := n) hw T3 K3' k u hd (by omega) (by omega) (by omega) nt3 ncD fun _ => X12_costOf_s (n := n) hw T3 K3' k u hd (by omega) (by omega) (by omega) nt3 ncD fun _ z9 r9 e9 m4 u4 T4 => ?_
    obtain rfl := u4.is
    rw [ex', ← sv] at e9
    have sa := sr (aN : Int)
    have e9 : z9 = s (aN : Int) := by omega
    subst e9
    rw [show (22 * (N2 : Int) + (aN : Int)).toNat = 22 * N2 + aN by omega]
    have hv' : ∀ b : Nat, (b : Int) < (aN : Int) + 1 → mUp m3 182 (22 * N2 + aN) (s (aN : Int)) 182 (22 * N2 + b) = s (b : Int) := fun b hb => by
      by_cases c : b = aN
      · rw [mUp.yes ⟨rfl, by omega⟩, c]
      · rw [mUp.no (by omega)]
        exact hv b (by omega)
    have ho' : ∀ i, i < 22 * N2 → mUp m3 182 (22 * N2 + aN) (s (aN : Int)) 182 i = m2 182 i := fun i hi => by
      rw [mUp.no (by omega)]
      exact ho i hi
    have nl : ¬ l = -99999999 → 0 < (aN : Int) ∧ (∀ b : Nat, (b : Int) < (aN : Int) → l ≤ s (b : Int)) ∧ ∃ b : Nat, (b : Int) < (aN : Int) ∧ l = s (b : Int) := fun q => hl.resolve_left fun q2 => q q2.2
    refine ⟨fun c7 => ih3 _ _ _ ⟨by omega, by omega, hv', ho', Or.inr ⟨by omega, fun b hb => ?_, aN, by omega, rfl⟩⟩ (by omega), fun c7 => ⟨fun c8 => ih3 _ _ _ ⟨by omega, by omega, hv', ho', Or.inr ⟨by omega, fun b hb => ?_, ?_⟩⟩ (by omega), fun c8 => ih3 _ _ _ ⟨by omega, by omega, hv', ho', Or.inr ⟨by omega, fun b hb => ?_, aN, by omega, rfl⟩⟩ (by omega)⟩⟩
    · rcases hl with ⟨q1, _⟩ | ⟨_, _, b', _, q2⟩
      · rw [show b = aN by omega]
        exact Int.le_refl _
      · have := sr (b' : Int)
        omega
    · obtain ⟨_, q2, _⟩ := nl c7
      by_cases c : b = aN
      · rw [c]; exact c8
      · exact q2 b (by omega)
    · obtain ⟨_, _, b', q3, q4⟩ := nl c7
      exact ⟨b', by omega, q4⟩
    · obtain ⟨_, q2, _⟩ := nl c7
      by_cases c : b = aN
      · rw [c]; exact Int.le_refl _
      · have := q2 b (by omega)
        omega
  have a22 : a = 22 := by omega
  subst a22
  obtain ⟨_, hl1, b0, hb0, hl2⟩ : 0 < (22 : Int) ∧ (∀ b : Nat, (b : Int) < 22 → l ≤ s (b : Int)) ∧ ∃ b : Nat, (b : Int) < 22 ∧ l = s (b : Int) := hl.resolve_left fun q => absurd q.1 (by decide)
  have lr := sr (b0 : Int)
  have cs : ∀ b : Int, cst (tA y d) (splP y d) (n + 1) x b = if l + 1 < s b then l + 1 else s b := fun b => by
    rw [sv]
    refine cst.split hT0 sp (fun b h0 h1 => ?_) ⟨(b0 : Int), ?_⟩
    · have := hl1 b.toNat (by omega)
      rw [show ((b.toNat : Nat) : Int) = b by omega, sv] at this
      exact this
    · rw [hl2, sv]
  refine loopF.im (fun a m => 0 ≤ a ∧ a ≤ 22 ∧ (∀ b : Nat, (b : Int) < a → m 182 (22 * N2 + b) = if l + 1 < s (b : Int) then l + 1 else s (b : Int)) ∧ (∀ b : Nat, b < 22 → a ≤ (b : Int) → m 182 (22 * N2 + b) = s (b : Int)) ∧ (∀ i, i < 22 * N2 → m 182 i = m2 182 i)) (fun a => (23 - a).toNat) ⟨by omega, by omega, fun b hb => absurd hb (by omega), fun b hb _ => hv b (by omega), ho⟩ (by omega) ?_
  rintro r4 a m4 ⟨a0', a1', hv1, hv2, ho4⟩ ih4 a' m4' e4 ra4 T4 F4
  cases e4
  refine ⟨fun c6 m5 u5 T5 m6 u6 T6 m7 u7 T7 => ?_, fun c6 z7 e7 r7 z8 r8 e8 => ?_⟩
  · obtain rfl := u5.is
    obtain rfl := u6.is
    obtain rfl := u7.is
    rw [Int.toNat_natCast]
    have g180 : ∀ i, m4 180 i = m2 180 i := fun i => (F4.f (A_180 hw) rfl rfl).trans (f180 i)
    have g181 : ∀ i, m4 181 i = m2 181 i := fun i => (F4.f (A_181 hw) rfl rfl).trans (f181 i)
    have w180 : ∀ i, mUp (mUp (mUp m4 180 N2 x) 181 N2 D) 106 116 ((N2 : Int) + 1) 180 i = if i = N2 then x else m2 180 i := fun i => by
      by_cases c : i = N2
      · rw [if_pos c, mUp.no (by omega), mUp.no (by omega), mUp.yes ⟨rfl, c⟩]
      · rw [if_neg c, mUp.no (by omega), mUp.no (by omega), mUp.no (by omega), g180]
    have w181 : ∀ i, mUp (mUp (mUp m4 180 N2 x) 181 N2 D) 106 116 ((N2 : Int) + 1) 181 i = if i = N2 then D else m2 181 i := fun i => by
      by_cases c : i = N2
      · rw [if_pos c, mUp.no (by omega), mUp.yes ⟨rfl, c⟩]
      · rw [if_neg c, mUp.no (by omega), mUp.no (by omega), mUp.no (by omega), g181]
    have w182 : ∀ i, mUp (mUp (mUp m4 180 N2 x) 181 N2 D) 106 116 ((N2 : Int) + 1) 182 i = m4 182 i := fun i => by
      rw [mUp.no (by omega), mUp.no (by omega), mUp.no (by omega)]
    have e12 : ∀ j, j < N2 → mUp (mUp (mUp m4 180 N2 x) 181 N2 D) 106 116 ((N2 : Int) + 1) 180 j = m2 180 j ∧ mUp (mUp (mUp m4 180 N2 x) 181 N2 D) 106 116 ((N2 : Int) + 1) 181 j = m2 181 j := fun j hj => by
      rw [w180, w181, if_neg (by omega), if_neg (by omega)]
      exact ⟨rfl, rfl⟩
    refine ih2 _ _ ⟨by omega, by omega, N2 + 1, ⟨?_, fun j hj => ?_⟩, nc2.cg (by omega) e12, fun q hq h1 h2 => ?_⟩ (by omega)
    · exact (mUp.yes ⟨rfl, rfl⟩).trans (by omega)
    · by_cases c : j = N2
      · subst c
        refine ⟨n, hn, ?_, fun b hb => ?_⟩
        · rw [w181, if_pos rfl]
          exact eD
        · rw [w182, w180, if_pos rfl, cs, hv1 b (by omega)]
      · obtain ⟨n', q1, q2, q3⟩ := nt2.2 j (by omega)
        obtain ⟨v1, v2⟩ := e12 j (by omega)
        refine ⟨n', q1, v2.trans q2, fun b hb => ?_⟩
        rw [w182, v1, ho4 _ (by omega)]
        exact q3 b hb
    · by_cases c : (q : Int) < (pn : Int)
      · obtain ⟨k1, k2, k3, k4⟩ := hc2 q c h1 h2
        obtain ⟨v1, v2⟩ := e12 k1 k2
        exact ⟨k1, by omega, v1.trans k3, v2.trans k4⟩
      · have eq : q = pn := by omega
        subst eq
        refine ⟨N2, by omega, ?_, ?_⟩
        · rw [w180, if_pos rfl]
          exact ex.symm
        · rw [w181, if_pos rfl]
  obtain ⟨aN, rfl⟩ : ∃ n : Nat, a = (n : Int) := ⟨a.toNat, by omega⟩
  rw [show (22 * (N2 : Int) + (aN : Int)).toNat = 22 * N2 + aN by omega, hv2 aN (by omega) (by omega)] at e7
  subst e7
  have e8 : z8 = l + 1 := by omega
  have sa := sr (aN : Int)
  refine ⟨fun c7 => ih4 _ _ ⟨by omega, by omega, fun b hb => ?_, fun b hb hb2 => hv2 b hb (by omega), ho4⟩ (by omega), fun c7 z9 r9 e9 m5 u5 T5 => ?_⟩
  · by_cases c : b = aN
    · subst c
      rw [if_neg (by omega)]
      exact hv2 b (by omega) (Int.le_refl _)
    · exact hv1 b (by omega)
  · obtain rfl := u5.is
    have e9 : z9 = l + 1 := by omega
    subst e9
    rw [show (22 * (N2 : Int) + (aN : Int)).toNat = 22 * N2 + aN by omega]
    refine ih4 _ _ ⟨by omega, by omega, fun b hb => ?_, fun b hb hb2 => ?_, fun i hi => ?_⟩ (by omega)
    · by_cases c : b = aN
      · subst c
        rw [mUp.yes ⟨rfl, rfl⟩, if_pos (by omega)]
      · rw [mUp.no (by omega)]
        exact hv1 b (by omega)
    · rw [mUp.no (by omega)]
      exact hv2 b hb (by omega)
    · rw [mUp.no (by omega)]
      exact ho4 i hi
end LeR
