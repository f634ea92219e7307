/-! Rights by all their rows; prefixes with their masks. -/
def rowT (μ μ1 : mM) (a : Nat) (n x : Int) : Prop := tabS μ μ1 a n ∧ μ1 a n.toNat = x
theorem rowT.fr {w : mW} {μ μ1 μ2 : mM} {lf : List Nat} {a : Nat} {n x : Int} (h : rowT μ μ1 a n x) (F : mF lf w μ1 μ2) (hA : mAt w a a) (hl : lf.elem (1000 * a + 999) = false) (hm : mArr a = true) : rowT μ μ2 a n x := ⟨h.1.fr F hA hl hm, (F a _ (by unfold mRg; rw [hA.1, hm]; exact hl)).trans h.2⟩
def RQ5 (μ : mM) : Prop := ∀ r : Nat, (r : Int) < μ 106 18 → μ 14 r = μ 119 r ∧ μ 15 r = μ 120 r ∧ μ 16 r = μ 121 r ∧ μ 17 r = μ 122 r ∧ μ 18 r = μ 123 r
theorem row_eq {μ μa μb : mM} {a b : Nat} {n x z : Int} {r : Nat} (h : (r : Int) < n → μ a r = μ b r) (hr : (r : Int) < n + 1) (A : rowT μ μa a n x) (ea : μa b r = μ b r) (B : rowT μa μb b n x) (eb : μb a r = μa a r) : μb a r = μb b r := by
  by_cases c : (r : Int) < n
  · rw [eb, A.1 r c, B.1 r c, ea]; exact h c
  · have e : r = n.toNat := by omega
    rw [eb, e, A.2, B.2]
theorem RQ5.right {μ μa μb : mM} {n z y p1 p2 p3 p4 p5 : Int} (h : RQ5 μ) (hn : μ 106 18 = n) (A1 : 0 ≤ z → rowT μ μa 14 n p1) (A2 : 0 ≤ z → rowT μ μa 15 n p2) (A3 : 0 ≤ z → rowT μ μa 16 n p3) (A4 : 0 ≤ z → rowT μ μa 17 n p4) (A5 : 0 ≤ z → rowT μ μa 18 n p5) (zA : z < 0 → μa = μ) (eA : ∀ i, μa 119 i = μ 119 i ∧ μa 120 i = μ 120 i ∧ μa 121 i = μ 121 i ∧ μa 122 i = μ 122 i ∧ μa 123 i = μ 123 i) (B1 : 0 ≤ y → rowT μa μb 119 n p1) (B2 : 0 ≤ y → rowT μa μb 120 n p2) (B3 : 0 ≤ y → rowT μa μb 121 n p3) (B4 : 0 ≤ y → rowT μa μb 122 n p4) (B5 : 0 ≤ y → rowT μa μb 123 n p5) (zB : y < 0 → μb = μa) (eB : ∀ i, μb 14 i = μa 14 i ∧ μb 15 i = μa 15 i ∧ μb 16 i = μa 16 i ∧ μb 17 i = μa 17 i ∧ μb 18 i = μa 18 i) (hzy : z = y) (hc : 0 ≤ y → μb 106 18 = n + 1) : RQ5 μb := by
  subst hzy
  by_cases c : z < 0
  · rw [zB c, zA c]; exact h
  · have c : 0 ≤ z := by omega
    intro r hr
    rw [hc c] at hr
    have h' := fun q : (r : Int) < n => h r (by omega)
    obtain ⟨a1, a2, a3, a4, a5⟩ := eA r
    obtain ⟨b1, b2, b3, b4, b5⟩ := eB r
    exact ⟨row_eq (z := z) (fun q => (h' q).1) hr (A1 c) a1 (B1 c) b1, row_eq (z := z) (fun q => (h' q).2.1) hr (A2 c) a2 (B2 c) b2, row_eq (z := z) (fun q => (h' q).2.2.1) hr (A3 c) a3 (B3 c) b3, row_eq (z := z) (fun q => (h' q).2.2.2.1) hr (A4 c) a4 (B4 c) b4, row_eq (z := z) (fun q => (h' q).2.2.2.2) hr (A5 c) a5 (B5 c) b5⟩
def rqL : List Nat := [106018, 14999, 15999, 16999, 17999, 18999, 119999, 120999, 121999, 122999, 123999]
theorem RQ5.of {μ μ1 : mM} (h : RQ5 μ) (e : μ1 106 18 = μ 106 18) (eA : ∀ i, μ1 14 i = μ 14 i ∧ μ1 15 i = μ 15 i ∧ μ1 16 i = μ 16 i ∧ μ1 17 i = μ 17 i ∧ μ1 18 i = μ 18 i) (eB : ∀ i, μ1 119 i = μ 119 i ∧ μ1 120 i = μ 120 i ∧ μ1 121 i = μ 121 i ∧ μ1 122 i = μ 122 i ∧ μ1 123 i = μ 123 i) : RQ5 μ1 := fun r hr => by
  rw [e] at hr
  obtain ⟨a1, a2, a3, a4, a5⟩ := eA r
  obtain ⟨b1, b2, b3, b4, b5⟩ := eB r
  rw [a1, a2, a3, a4, a5, b1, b2, b3, b4, b5]; exact h r hr
theorem RQ5.fr {lf : List Nat} {w : mW} {μ μ1 : mM} (h : RQ5 μ) (hw : mWF w) (hT : mT w μ) (F : mF lf w μ μ1) (hl : (rqL.all fun r => !lf.elem r) = true) : RQ5 μ1 :=
  h.of (F.f (A_106 hw) (qA_no hl rfl) rfl) (fun _ => ⟨F.f (A_14 hw) (qA_no hl rfl) rfl, F.f (A_15 hw) (qA_no hl rfl) rfl, F.f (A_16 hw) (qA_no hl rfl) rfl, F.f (A_17 hw) (qA_no hl rfl) rfl, F.f (A_18 hw) (qA_no hl rfl) rfl⟩) (fun _ => ⟨F.f (A_119 hw) (qA_no hl rfl) rfl, F.f (A_120 hw) (qA_no hl rfl) rfl, F.f (A_121 hw) (qA_no hl rfl) rfl, F.f (A_122 hw) (qA_no hl rfl) rfl, F.f (A_123 hw) (qA_no hl rfl) rfl⟩)
theorem RQ5.frX {lf : List Nat} {w w1 : mW} {μ μ1 : mM} (h : RQ5 μ) (hw : mWF w) (hT : mT w μ) (F : mX lf w μ w1 μ1) (hl : (rqL.all fun r => !lf.elem r) = true) : RQ5 μ1 :=
  h.of (F.f (A_106 hw) (qA_no hl rfl) rfl) (fun _ => ⟨F.f (A_14 hw) (qA_no hl rfl) rfl, F.f (A_15 hw) (qA_no hl rfl) rfl, F.f (A_16 hw) (qA_no hl rfl) rfl, F.f (A_17 hw) (qA_no hl rfl) rfl, F.f (A_18 hw) (qA_no hl rfl) rfl⟩) (fun _ => ⟨F.f (A_119 hw) (qA_no hl rfl) rfl, F.f (A_120 hw) (qA_no hl rfl) rfl, F.f (A_121 hw) (qA_no hl rfl) rfl, F.f (A_122 hw) (qA_no hl rfl) rfl, F.f (A_123 hw) (qA_no hl rfl) rfl⟩)
/-- masks of the class's prefixes -/
def MKQ (μ : mM) : Prop := ∀ i : Nat, (i : Int) < μ 6 14 → μ 9 i = mskF (μ 8 i) ∧ bAnd (μ 7 i) (bXor (mskF (μ 8 i)) (-1)) = 0
theorem MKQ.pre {μ μa : mM} {A : Prop} {x l z : Int} (h : MKQ μ) (ha : preA A (μ 6 14) x l z) (qa : adQ μ μa 6 14 7 8 x l z) (mk : 0 ≤ z → rowT μ μa 9 (μ 6 14) (mskF l)) : MKQ μa := by
  rcases qa with ⟨z0, c1, d1, d2, d3⟩ | ⟨_, rfl⟩
  · have nb : ¬ badP x l := by
      rcases ha with ⟨_, e⟩ | ⟨nb, _⟩
      · omega
      · exact nb
    intro i hi
    rw [c1] at hi
    by_cases c : (i : Int) < μ 6 14
    · rw [(mk z0).1 i c, (d3 i c).1, (d3 i c).2]; exact h i c
    · have ei : i = (μ 6 14).toNat := by omega
      rw [ei, (mk z0).2, d1, d2]
      refine ⟨rfl, ?_⟩
      apply Classical.byContradiction
      intro n
      exact nb (Or.inr (Or.inr n))
  · exact h
def mkL : List Nat := [6014, 7999, 8999, 9999]
theorem MKQ.of {μ μ1 : mM} (h : MKQ μ) (e : μ1 6 14 = μ 6 14) (eA : ∀ i, μ1 7 i = μ 7 i ∧ μ1 8 i = μ 8 i ∧ μ1 9 i = μ 9 i) : MKQ μ1 := fun i hi => by
  rw [e] at hi
  obtain ⟨a, b, c⟩ := eA i
  rw [a, b, c]; exact h i hi
theorem MKQ.fr {lf : List Nat} {w : mW} {μ μ1 : mM} (h : MKQ μ) (hw : mWF w) (hT : mT w μ) (F : mF lf w μ μ1) (hl : (mkL.all fun r => !lf.elem r) = true) : MKQ μ1 :=
  h.of (F.f (A_6 hw) (qA_no hl rfl) rfl) (fun _ => ⟨F.f (A_7 hw) (qA_no hl rfl) rfl, F.f (A_8 hw) (qA_no hl rfl) rfl, F.f (A_9 hw) (qA_no hl rfl) rfl⟩)
theorem MKQ.frX {lf : List Nat} {w w1 : mW} {μ μ1 : mM} (h : MKQ μ) (hw : mWF w) (hT : mT w μ) (F : mX lf w μ w1 μ1) (hl : (mkL.all fun r => !lf.elem r) = true) : MKQ μ1 :=
  h.of (F.f (A_6 hw) (qA_no hl rfl) rfl) (fun _ => ⟨F.f (A_7 hw) (qA_no hl rfl) rfl, F.f (A_8 hw) (qA_no hl rfl) rfl, F.f (A_9 hw) (qA_no hl rfl) rfl⟩)
theorem vd_eq {w : mW} {μ : mM} {p n d k : Int} (hw : mWF w) (hT : mT w μ) (hP : μ 6 14 = μ 106 2 ∧ ∀ i : Nat, (i : Int) < μ 106 2 → μ 7 i = μ 108 i ∧ μ 8 i = μ 109 i) (hR : μ 6 17 = μ 106 18) (hS : ∀ r : Nat, (r : Int) < μ 106 18 → μ 19 r = μ 124 r ∧ 0 ≤ μ 124 r ∧ skR (μ 20 r) (μ 125 r)) (hM : MKQ μ) (h5 : RQ5 μ) (hRR : RR μ) (hp : 0 ≤ p ∧ p < μ 106 2) : vC μ p n d k = vR μ p n d k := by
  unfold vC vR
  rw [hR]
  refine vdF.cg _ fun r hr => ?_
  have hr : (r : Int) < μ 106 18 := by omega
  obtain ⟨a1, a2, a3, a4, a5⟩ := h5 r hr
  obtain ⟨s1, s2, s3⟩ := hS r hr
  have t0 : 0 ≤ μ 119 r := (hT 119 119 (A_119 hw) r).1
  have t1 : μ 119 r < μ 106 2 := hRR r hr
  obtain ⟨b1, b2⟩ := hP.2 (μ 119 r).toNat (by omega)
  obtain ⟨c1, c2⟩ := hP.2 p.toNat (by omega)
  obtain ⟨m1, m2⟩ := hM (μ 119 r).toNat (by omega)
  have rA : -2147483648 ≤ μ 108 (μ 119 r).toNat ∧ μ 108 (μ 119 r).toNat ≤ 2147483647 := hT 108 108 (A_108 hw) (μ 119 r).toNat
  unfold apC apR okC okR
  rw [a1, a2, a3, a4, a5, s1, b1, b2, c1, c2, m1, b2]
  rw [b1, b2] at m2
  rw [bCover rA m2]
  unfold skR at s3
  refine ⟨?_, Iff.rfl⟩
  have e : (μ 20 r = -1 ∨ k < μ 20 r) ↔ (μ 125 r = -99999999 ∨ k < μ 125 r) := by omega
  rw [e]
