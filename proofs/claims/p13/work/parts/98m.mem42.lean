/-! The law's invariant. -/
abbrev cL_law : ByteArray := code
abbrev mL : sM := (x, code, maxLocals, ret)
theorem szE_mk (s n : Nat) (m : Nat → Int) : szE (mCell (mTab s) n m) = szS s n := by
  have hall : (mTabL.all fun sh => match sh with
      | .inl (ci, ks) => (match vwCl[ci]? with
        | some r => Nat.beq r.2.2 ks.length
        | none => false)
      | .inr _ => true) = true := by decide +kernel
  unfold szS
  have h : mTab s ∈ mTabL ∨ mTab s = .inr (0, 0) := by
    unfold mTab
    rw [List.getD_eq_getElem?_getD]
    rcases hg : mTabL[s]? with _ | v
    · exact Or.inr rfl
    · exact Or.inl (List.mem_of_getElem? hg)
  rcases h with h | h
  · have g := List.all_eq_true.mp hall _ h
    revert g
    rcases mTab s with ⟨ci, ks⟩ | ⟨kd, k⟩
    · intro g
      have g : (match vwCl[ci]? with
        | some r => Nat.beq r.2.2 ks.length
        | none => false) = true := g
      show (match vwCl[ci]? with | some r => r.2.2 | none => 0) = ks.length
      rcases hv : vwCl[ci]? with _ | r
      · rw [hv] at g; cases g
      · rw [hv] at g; exact Nat.eq_of_beq_eq_true g
    · intro _; rfl
  · rw [h]; rfl
theorem szW_mk (w : mW) (μ : mM) : sumN (fun i => szE ((mk w μ).2 i)) w.1 = szW w := sumN_eq fun i _ => szE_mk _ _ _
def WAp (μ : mM) : Prop := μ 76 13 + μ 76 14 ≤ 1000
def TQ (w : mW) (μ : mM) : Prop := w.2.2.1 (μ 94 6).toNat = w.2.2.1 (μ 94 8).toNat
def DQ (w : mW) (μ : mM) : Prop := μ 106 5 = w.2.2.2 0
def RM (w : mW) (μ : mM) : Prop := (w.1 : Int) ≤ 192 + 35 * w.2.2.2 0 + 124 * w.2.2.2 1 + 6 * w.2.2.2 2 + (w.2.2.1 (μ 94 7).toNat : Int) + 2 * (w.2.2.1 (μ 94 6).toNat : Int) ∧ (szW w : Int) ≤ 300000 + 442 * w.2.2.2 0 + 1653 * w.2.2.2 1 + 2586 * w.2.2.2 2 + 2 * (w.2.2.1 (μ 94 7).toNat : Int) + 4 * (w.2.2.1 (μ 94 6).toNat : Int)
def J (w : mW) (μ : mM) : Prop := mWF w ∧ mT w μ ∧ PC w μ ∧ WAp μ ∧ rlP w μ ∧ TQ w μ ∧ (G1 μ ∧ EV μ ∧ PK μ) ∧ DQ w μ ∧ RM w μ
theorem J.c0 {w : mW} {μ : mM} (hw : mWF w) (hT : mT w μ) : μ 6 15 = w.2.2.2 0 ∧ 0 ≤ μ 6 15 ∧ μ 6 15 ≤ 10 := hT 6 6 (A_6 hw) 15
theorem J.c1 {w : mW} {μ : mM} (hw : mWF w) (hT : mT w μ) : μ 6 16 = w.2.2.2 1 ∧ 0 ≤ μ 6 16 ∧ μ 6 16 ≤ 20 := hT 6 6 (A_6 hw) 16
theorem J.c2 {w : mW} {μ : mM} (hw : mWF w) (hT : mT w μ) : μ 21 8 = w.2.2.2 2 ∧ 0 ≤ μ 21 8 ∧ μ 21 8 ≤ 12 := hT 21 21 (A_21 hw) 8
theorem J.lr {w : mW} {μ : mM} (hw : mWF w) (hT : mT w μ) : mAt w (μ 94 7).toNat 103 := (hT 94 94 (A_94 hw) 7).2
theorem J.lq {w : mW} {μ : mM} (hw : mWF w) (hT : mT w μ) : mAt w (μ 94 6).toNat 102 := (hT 94 94 (A_94 hw) 6).2
theorem J.lf {w : mW} {μ : mM} (hw : mWF w) (hT : mT w μ) : mAt w (μ 94 8).toNat 104 := (hT 94 94 (A_94 hw) 8).2
/-- how much room is taken -/
theorem J.bd {w : mW} {μ : mM} (h : J w μ) : w.1 ≤ 290000 ∧ szW w ≤ 1000000 := by
  obtain ⟨hw, hT, -, -, -, -, -, -, hR⟩ := h
  have a0 := J.c0 hw hT
  have a1 := J.c1 hw hT
  have a2 := J.c2 hw hT
  have b1 : w.2.2.1 (μ 94 7).toNat ≤ 93312 := (J.lr hw hT).2.2.1
  have b2 : w.2.2.1 (μ 94 6).toNat ≤ 93312 := (J.lq hw hT).2.2.1
  obtain ⟨r1, r2⟩ := hR
  omega
/-- frames of the class, frames of the reference -/
def isC (l : List Nat) : Bool := l.all fun x => Nat.blt x 106000 || Nat.ble 192000 x
def isM (l : List Nat) : Bool := l.all fun x => Nat.ble 106000 x && Nat.blt x 192000
theorem isC.no {l : List Nat} (h : isC l = true) {x : Nat} (h1 : 106000 ≤ x) (h2 : x < 192000) : l.elem x = false := by
  cases hq : l.elem x with
  | false => rfl
  | true =>
    have := List.all_eq_true.mp h x (List.elem_iff.mp hq)
    simp only [Bool.or_eq_true] at this
    rcases this with g | g
    · have := Nat.le_of_ble_eq_true g; omega
    · have := Nat.le_of_ble_eq_true g; omega
theorem isM.no {l : List Nat} (h : isM l = true) {x : Nat} (h1 : x < 106000 ∨ 192000 ≤ x) : l.elem x = false := by
  cases hq : l.elem x with
  | false => rfl
  | true =>
    have := List.all_eq_true.mp h x (List.elem_iff.mp hq)
    simp only [Bool.and_eq_true] at this
    have g1 := Nat.le_of_ble_eq_true this.1
    have g2 : x < 192000 := Nat.le_of_ble_eq_true this.2
    omega
/-- the reference's cells are as they were -/
def sM_ (μ μ1 : mM) : Prop := (∀ i, i < 1000 → μ1 106 i = μ 106 i) ∧ ∀ a, 107 ≤ a → a < 192 → μ1 a = μ a
theorem sM_.of {l : List Nat} {w w1 : mW} {μ μ1 : mM} (hw : mWF w) (hX : mX l w μ w1 μ1) (hl : isC l = true) : sM_ μ μ1 := by
  have hall : ((List.range 192).all fun a => !(Nat.ble 106 a) || (Nat.beq (mSh0 a) a && (!(Nat.ble 107 a) || mArr a))) = true := by decide +kernel
  have hsh : ∀ a, 106 ≤ a → a < 192 → mSh0 a = a ∧ (107 ≤ a → mArr a = true) := fun a h1 h2 => by
    have g := List.all_eq_true.mp hall a (List.mem_range.mpr h2)
    rw [Nat.ble_eq_true_of_le h1] at g
    simp only [Bool.not_true, Bool.false_or, Bool.and_eq_true, Bool.or_eq_true] at g
    refine ⟨Nat.eq_of_beq_eq_true g.1, fun h3 => ?_⟩
    rcases g.2 with q | q
    · rw [Nat.ble_eq_true_of_le h3] at q; cases q
    · exact q
  have w192 := hw.2.1
  refine ⟨fun i hi => hX.2 106 i (by omega) ?_, fun a h1 h2 => funext fun i => hX.2 a i (by omega) ?_⟩
  · have e : w.2.1 106 = 106 := hw.1 106 (by decide)
    refine isC.no hl ?_ ?_
    · unfold mRg; rw [e, show mArr 106 = false from rfl]; show 106000 ≤ 106000 + i; omega
    · unfold mRg; rw [e, show mArr 106 = false from rfl]; show 106000 + i < 192000; omega
  · have g := hsh a (by omega) h2
    have e : w.2.1 a = a := (hw.1 a h2).trans g.1
    refine isC.no hl ?_ ?_
    · unfold mRg; rw [e, g.2 h1]; show 106000 ≤ 1000 * a + 999; omega
    · unfold mRg; rw [e, g.2 h1]; show 1000 * a + 999 < 192000; omega
theorem G1.sm {μ μ1 : mM} (h : G1 μ) (s : sM_ μ μ1) : G1 μ1 := by
  unfold G1 at h ⊢
  rw [s.1 70 (by decide), s.2 126 (by decide) (by decide), s.2 161 (by decide) (by decide)]
  exact h
theorem EV.sm {μ μ1 : mM} (h : EV μ) (s : sM_ μ μ1) : EV μ1 := by
  unfold EV at h ⊢
  rw [s.1 6 (by decide), s.2 157 (by decide) (by decide), s.2 159 (by decide) (by decide)]
  exact h
theorem PK.sm {μ μ1 : mM} (h : PK μ) (s : sM_ μ μ1) : PK μ1 := by
  unfold PK polT at h ⊢
  rw [s.1 6 (by decide), s.1 39 (by decide), s.2 115 (by decide) (by decide), s.2 127 (by decide) (by decide), s.2 129 (by decide) (by decide), s.2 131 (by decide) (by decide), s.2 140 (by decide) (by decide), s.2 141 (by decide) (by decide)]
  exact h
/-- a step of the class that makes nothing -/
def jcF (l : List Nat) : Bool := isC l && (pcFree l && (!(l.elem 94007) && (!(l.elem 94014) && (!(l.elem 94006) && !(l.elem 94008)))))
theorem J.cls {l : List Nat} {w : mW} {μ μ1 : mM} (h : J w μ) (hT1 : mT w μ1) (hF : mF l w μ μ1) (hl : jcF l = true) (hWA : WAp μ1) : J w μ1 := by
  obtain ⟨hw, hT, hPC, -, hrl, hTQ, ⟨hG, hE, hPK⟩, hD, hR⟩ := h
  simp only [jcF, Bool.and_eq_true, Bool.not_eq_true'] at hl
  obtain ⟨l1, l2, l3, l4, l5, l6⟩ := hl
  have s := sM_.of hw (mX.fr (l := l) mX.refl hF (List.all_eq_true.mpr fun x hx => List.elem_iff.mpr hx)) l1
  have e7 : μ1 94 7 = μ 94 7 := hF.f (A_94 hw) l3 rfl
  have e14 : μ1 94 14 = μ 94 14 := hF.f (A_94 hw) l4 rfl
  have e6 : μ1 94 6 = μ 94 6 := hF.f (A_94 hw) l5 rfl
  have e8 : μ1 94 8 = μ 94 8 := hF.f (A_94 hw) l6 rfl
  refine ⟨hw, hT1, hPC.keep hw hF l2, hWA, ?_, ?_, ⟨hG.sm s, hE.sm s, hPK.sm s⟩, ?_, ?_⟩
  · unfold rlP; rw [e7, e14]; exact hrl
  · unfold TQ; rw [e6, e8]; exact hTQ
  · unfold DQ; rw [s.1 5 (by decide)]; exact hD
  · unfold RM; rw [e7, e6]; exact hR
theorem WAp.f {l : List Nat} {w : mW} {μ μ1 : mM} (h : WAp μ) (hw : mWF w) (hF : mF l w μ μ1) (h1 : l.elem 76013 = false) (h2 : l.elem 76014 = false) : WAp μ1 := by
  have e1 : μ1 76 13 = μ 76 13 := hF.f (A_76 hw) h1 rfl
  have e2 : μ1 76 14 = μ 76 14 := hF.f (A_76 hw) h2 rfl
  unfold WAp; rw [e1, e2]; exact h
/-- a step of the reference -/
theorem J.mod {l : List Nat} {w : mW} {μ μ1 : mM} (h : J w μ) (hT1 : mT w μ1) (hF : mF l w μ μ1) (hl : isM l = true) (hl2 : pcFree l = true) (hG : G1 μ1) (hE : EV μ1) (hP : PK μ1) (hD : μ1 106 5 = μ 106 5) : J w μ1 := by
  obtain ⟨hw, hT, hPC, hWA, hrl, hTQ, -, hDQ, hR⟩ := h
  have e7 : μ1 94 7 = μ 94 7 := hF.f (A_94 hw) (isM.no hl (Or.inl (by decide))) rfl
  have e14 : μ1 94 14 = μ 94 14 := hF.f (A_94 hw) (isM.no hl (Or.inl (by decide))) rfl
  have e6 : μ1 94 6 = μ 94 6 := hF.f (A_94 hw) (isM.no hl (Or.inl (by decide))) rfl
  have e8 : μ1 94 8 = μ 94 8 := hF.f (A_94 hw) (isM.no hl (Or.inl (by decide))) rfl
  refine ⟨hw, hT1, hPC.keep hw hF hl2, hWA.f hw hF (isM.no hl (Or.inl (by decide))) (isM.no hl (Or.inl (by decide))), ?_, ?_, ⟨hG, hE, hP⟩, ?_, ?_⟩
  · unfold rlP; rw [e7, e14]; exact hrl
  · unfold TQ; rw [e6, e8]; exact hTQ
  · unfold DQ; rw [hD]; exact hDQ
  · unfold RM; rw [e7, e6]; exact hR
theorem G1.fr {l : List Nat} {w : mW} {μ μ1 : mM} (h : G1 μ) (hw : mWF w) (hF : mF l w μ μ1) (h1 : l.elem 106070 = false) (h2 : l.elem 126999 = false) (h3 : l.elem 161999 = false) : G1 μ1 := by
  have e1 : μ1 106 70 = μ 106 70 := hF.f (A_106 hw) h1 rfl
  have e2 : μ1 126 = μ 126 := funext fun i => hF.f (A_126 hw) h2 rfl
  have e3 : μ1 161 = μ 161 := funext fun i => hF.f (A_161 hw) h3 rfl
  unfold G1 at h ⊢
  rw [e1, e2, e3]; exact h
/-- a step of the class that makes cells -/
theorem J.grow {l : List Nat} {w w1 : mW} {μ μ1 : mM} (h : J w μ) (hw1 : mWF w1) (hT1 : mT w1 μ1) (hX : mX l w μ w1 μ1) (hl : isC l = true) (h1 : l.elem 76013 = false) (h2 : l.elem 76014 = false) (hPC : PC w1 μ1) (hrl : rlP w1 μ1) (hTQ : TQ w1 μ1) (hD : μ1 106 5 = w1.2.2.2 0) (hR : RM w1 μ1) : J w1 μ1 := by
  obtain ⟨hw, hT, -, hWA, -, -, ⟨hG, hE, hPK⟩, -, -⟩ := h
  have s := sM_.of hw hX hl
  have e1 : μ1 76 13 = μ 76 13 := hX.f (A_76 hw) h1 rfl
  have e2 : μ1 76 14 = μ 76 14 := hX.f (A_76 hw) h2 rfl
  exact ⟨hw1, hT1, hPC, by unfold WAp; rw [e1, e2]; exact hWA, hrl, hTQ, ⟨hG.sm s, hE.sm s, hPK.sm s⟩, hD, hR⟩
/-- the counters behind a step that leaves the fields that tell them -/
theorem cntX_same {l : List Nat} {w w1 : mW} {μ μ1 : mM} (hw : mWF w) (hT : mT w μ) (hw1 : mWF w1) (hT1 : mT w1 μ1) (hX : mX l w μ w1 μ1) (h1 : l.elem 6015 = false) (h2 : l.elem 6016 = false) (h3 : l.elem 21008 = false) : w1.2.2.2 0 = w.2.2.2 0 ∧ w1.2.2.2 1 = w.2.2.2 1 ∧ w1.2.2.2 2 = w.2.2.2 2 := by
  have e1 : μ1 6 15 = μ 6 15 := hX.f (A_6 hw) h1 rfl
  have e2 : μ1 6 16 = μ 6 16 := hX.f (A_6 hw) h2 rfl
  have e3 : μ1 21 8 = μ 21 8 := hX.f (A_21 hw) h3 rfl
  have a0 := J.c0 hw hT
  have a1 := J.c1 hw hT
  have a2 := J.c2 hw hT
  have b0 := J.c0 hw1 hT1
  have b1 := J.c1 hw1 hT1
  have b2 := J.c2 hw1 hT1
  omega
theorem len_same {l : List Nat} {w w1 : mW} {μ μ1 : mM} {k s : Nat} (hX : mX l w μ w1 μ1) (hA : mAt w (μ 94 k).toNat s) (e : μ1 94 k = μ 94 k) : w1.2.2.1 (μ1 94 k).toNat = w.2.2.1 (μ 94 k).toNat := by
  rw [e]; exact (hX.1.2.1 _ hA.2.1).2
/-! steps of the class that make cells -/
theorem J.dom {w w1 : mW} {μ μ1 : mM} (h : J w μ) (hw1 : mWF w1) (hT1 : mT w1 μ1) (hX : mX [6015, 10999] w μ w1 μ1) (hc : w1.2.2.2 = (wCt w 0).2.2.2) (h1 : w1.1 = w.1 + 35) (h2 : szW w1 = szW w + 442) : mWF w1 ∧ mT w1 μ1 ∧ PC w1 μ1 ∧ WAp μ1 ∧ rlP w1 μ1 ∧ TQ w1 μ1 ∧ (G1 μ1 ∧ EV μ1 ∧ PK μ1) ∧ μ1 106 5 + 1 = w1.2.2.2 0 ∧ RM w1 μ1 := by
  obtain ⟨hw, hT, hPC, hWA, hrl, hTQ, ⟨hG, hE, hPK⟩, hD, hR⟩ := h
  have s := sM_.of hw hX rfl
  have c0 : w1.2.2.2 0 = w.2.2.2 0 + 1 := by rw [hc]; rfl
  have c1 : w1.2.2.2 1 = w.2.2.2 1 := by rw [hc]; rfl
  have c2 : w1.2.2.2 2 = w.2.2.2 2 := by rw [hc]; rfl
  have e7 : μ1 94 7 = μ 94 7 := hX.f (A_94 hw) rfl rfl
  have e14 : μ1 94 14 = μ 94 14 := hX.f (A_94 hw) rfl rfl
  have e6 : μ1 94 6 = μ 94 6 := hX.f (A_94 hw) rfl rfl
  have e8 : μ1 94 8 = μ 94 8 := hX.f (A_94 hw) rfl rfl
  have k7 := len_same hX (J.lr hw hT) e7
  have k6 := len_same hX (J.lq hw hT) e6
  have k8 := len_same hX (J.lf hw hT) e8
  have w13 : μ1 76 13 = μ 76 13 := hX.f (A_76 hw) rfl rfl
  have w14 : μ1 76 14 = μ 76 14 := hX.f (A_76 hw) rfl rfl
  refine ⟨hw1, hT1, hPC.keepX hw hX c2 rfl hT, by unfold WAp; rw [w13, w14]; exact hWA, ?_, ?_, ⟨hG.sm s, hE.sm s, hPK.sm s⟩, ?_, ?_⟩
  · unfold rlP; rw [k7, e14]; exact hrl
  · unfold TQ; rw [k6, k8]; exact hTQ
  · unfold DQ at hD; rw [s.1 5 (by decide), hD, c0]
  · unfold RM at hR ⊢; rw [k7, k6, c0, c1, c2, h1, h2]; omega
theorem J.tie {w w1 : mW} {μ μ1 : mM} (h : J w μ) (hw1 : mWF w1) (hT1 : mT w1 μ1) (hX : mX [6016, 11999] w μ w1 μ1) (hp : (w1 = w ∧ μ1 = μ) ∨ (w1.2.2.2 = (wCt w 1).2.2.2 ∧ w1.1 = w.1 + 124 ∧ szW w1 = szW w + 1653)) : J w1 μ1 := by
  rcases hp with ⟨rfl, rfl⟩ | ⟨hc, h1, h2⟩
  · exact h
  · obtain ⟨hw, hT, hPC, hWA, hrl, hTQ, -, hD, hR⟩ := id h
    have s := sM_.of hw hX rfl
    have c0 : w1.2.2.2 0 = w.2.2.2 0 := by rw [hc]; rfl
    have c1 : w1.2.2.2 1 = w.2.2.2 1 + 1 := by rw [hc]; rfl
    have c2 : w1.2.2.2 2 = w.2.2.2 2 := by rw [hc]; rfl
    have e7 : μ1 94 7 = μ 94 7 := hX.f (A_94 hw) rfl rfl
    have e14 : μ1 94 14 = μ 94 14 := hX.f (A_94 hw) rfl rfl
    have e6 : μ1 94 6 = μ 94 6 := hX.f (A_94 hw) rfl rfl
    have e8 : μ1 94 8 = μ 94 8 := hX.f (A_94 hw) rfl rfl
    have k7 := len_same hX (J.lr hw hT) e7
    have k6 := len_same hX (J.lq hw hT) e6
    have k8 := len_same hX (J.lf hw hT) e8
    refine h.grow hw1 hT1 hX rfl rfl rfl (hPC.keepX hw hX c2 rfl hT) ?_ ?_ ?_ ?_
    · unfold rlP; rw [k7, e14]; exact hrl
    · unfold TQ; rw [k6, k8]; exact hTQ
    · unfold DQ at hD; rw [s.1 5 (by decide), hD, c0]
    · unfold RM at hR ⊢; rw [k7, k6, c0, c1, c2, h1, h2]; omega
theorem J.pol {w w1 : mW} {μ μ1 : mM} (h : J w μ) (hw1 : mWF w1) (hT1 : mT w1 μ1) (hX : mX plL w μ w1 μ1) (hPC : PC w1 μ1) (hp : w1 = w ∨ (w1.1 = w.1 + 6 ∧ szW w1 ≤ szW w + 2586 ∧ w1.2.2.2 = (wCt w 2).2.2.2)) : J w1 μ1 := by
  obtain ⟨hw, hT, -, hWA, hrl, hTQ, -, hD, hR⟩ := id h
  have s := sM_.of hw hX rfl
  have e7 : μ1 94 7 = μ 94 7 := hX.f (A_94 hw) rfl rfl
  have e14 : μ1 94 14 = μ 94 14 := hX.f (A_94 hw) rfl rfl
  have e6 : μ1 94 6 = μ 94 6 := hX.f (A_94 hw) rfl rfl
  have e8 : μ1 94 8 = μ 94 8 := hX.f (A_94 hw) rfl rfl
  have k7 := len_same hX (J.lr hw hT) e7
  have k6 := len_same hX (J.lq hw hT) e6
  have k8 := len_same hX (J.lf hw hT) e8
  have cc : w1.2.2.2 0 = w.2.2.2 0 ∧ w1.2.2.2 1 = w.2.2.2 1 ∧ ((w1.1 = w.1 ∧ szW w1 = szW w ∧ w1.2.2.2 2 = w.2.2.2 2) ∨ (w1.1 = w.1 + 6 ∧ szW w1 ≤ szW w + 2586 ∧ w1.2.2.2 2 = w.2.2.2 2 + 1)) := by
    rcases hp with rfl | ⟨h1, h2, hc⟩
    · exact ⟨rfl, rfl, Or.inl ⟨rfl, rfl, rfl⟩⟩
    · exact ⟨by rw [hc]; rfl, by rw [hc]; rfl, Or.inr ⟨h1, h2, by rw [hc]; rfl⟩⟩
  obtain ⟨c0, c1, c2⟩ := cc
  refine h.grow hw1 hT1 hX rfl rfl rfl hPC ?_ ?_ ?_ ?_
  · unfold rlP; rw [k7, e14]; exact hrl
  · unfold TQ; rw [k6, k8]; exact hTQ
  · unfold DQ at hD; rw [s.1 5 (by decide), hD, c0]
  · unfold RM at hR ⊢; rw [k7, k6, c0, c1]; omega
theorem J.rst {w w1 : mW} {μ μ1 : mM} {b : Nat} (h : J w μ) (hw1 : mWF w1) (hT1 : mT w1 μ1) (hX : mX frL w μ w1 μ1) (q7 : μ 94 7 = (b : Int)) (hp : rlQ w (w.2.2.1 b) w1 μ1) : J w1 μ1 := by
  obtain ⟨hw, hT, hPC, hWA, hrl, hTQ, -, hD, hR⟩ := id h
  have s := sM_.of hw hX rfl
  obtain ⟨c0, c1, c2⟩ := cntX_same hw hT hw1 hT1 hX rfl rfl rfl
  have e6 : μ1 94 6 = μ 94 6 := hX.f (A_94 hw) rfl rfl
  have e8 : μ1 94 8 = μ 94 8 := hX.f (A_94 hw) rfl rfl
  have k6 := len_same hX (J.lq hw hT) e6
  have k8 := len_same hX (J.lf hw hT) e8
  obtain ⟨p1, p2, p3⟩ := hp
  have eb : (μ 94 7).toNat = b := by omega
  refine h.grow hw1 hT1 hX rfl rfl rfl (hPC.keepX hw hX c2 rfl hT) p1 ?_ ?_ ?_
  · unfold TQ; rw [k6, k8]; exact hTQ
  · unfold DQ at hD; rw [s.1 5 (by decide), hD, c0]
  · unfold RM at hR ⊢; rw [k6, c0, c1, c2]; rw [eb] at hR; omega
theorem J.try {w w1 : mW} {μ μ1 : mM} {bq : Nat} (h : J w μ) (hw1 : mWF w1) (hT1 : mT w1 μ1) (hX : mX [94006, 94008, 94009, 94011, 98999, 99999, 100999, 101999, 102999, 104999, 105999] w μ w1 μ1) (q6 : μ 94 6 = (bq : Int)) (hp : w1.2.2.1 (μ1 94 6).toNat = w1.2.2.1 (μ1 94 8).toNat) (pm : (szW w1 : Int) + 4 * (w.2.2.1 bq : Int) ≤ szW w + 4 * (w1.2.2.1 (μ1 94 6).toNat : Int) ∧ (w1.1 : Int) + 2 * (w.2.2.1 bq : Int) ≤ (w.1 : Int) + 2 * (w1.2.2.1 (μ1 94 6).toNat : Int)) : J w1 μ1 := by
  obtain ⟨hw, hT, hPC, hWA, hrl, hTQ, -, hD, hR⟩ := id h
  have s := sM_.of hw hX rfl
  obtain ⟨c0, c1, c2⟩ := cntX_same hw hT hw1 hT1 hX rfl rfl rfl
  have e7 : μ1 94 7 = μ 94 7 := hX.f (A_94 hw) rfl rfl
  have e14 : μ1 94 14 = μ 94 14 := hX.f (A_94 hw) rfl rfl
  have k7 := len_same hX (J.lr hw hT) e7
  have eb : (μ 94 6).toNat = bq := by omega
  obtain ⟨p2, p3⟩ := pm
  refine h.grow hw1 hT1 hX rfl rfl rfl (hPC.keepX hw hX c2 rfl hT) ?_ hp ?_ ?_
  · unfold rlP; rw [k7, e14]; exact hrl
  · unfold DQ at hD; rw [s.1 5 (by decide), hD, c0]
  · unfold RM at hR ⊢; rw [k7, c0, c1, c2]; rw [eb] at hR; omega
/-! the law's own steps -/
section LAWR
variable {l : Launch} {D : va_G} {c : Nat → ClassId} {H0 : Heap} {sa : Nat × Nat × (Nat → Int32)} {M : sM} {R : Room} {Z : sZT} {pc : Nat} {lv : List (Nat × Value)} {st : List Value} {hp : sHp} {ce sl : Nat}
theorem sv_pop2L {z : Int64} (hd : decode M.2.1 pc = .ok (.pop2, 1)) (k : sV (gG l D c H0 sa) M R Z (pc + 1) lv st hp ce sl) : sV (gG l D c H0 sa) M R Z pc lv (.long z :: st) hp ce sl := fun p e s m args below meth cc H locs ls X r hl h => lv_pop2_2 X.1 X.2.1 hd rfl (k p e s m args below meth cc H locs ls X r hl h)
theorem la_ld {e : Int} (hd : decode M.2.1 pc = .ok (.iaload, 1)) (he : 0 ≤ e ∧ e < (sa.2.1 : Int)) (hs : sa.2.1 ≤ 3584) (kk : ∀ z : Int, (-2147483648 ≤ z ∧ z ≤ 2147483647) → sV (gG l D c H0 sa) M R Z (pc + 1) lv (iv z :: st) hp ce sl) : sV (gG l D c H0 sa) M R Z pc lv (iv e :: .retAddr 0 :: st) hp ce sl := by
  refine sv_sld hd (iv_in (n := sa.2.1) he (by omega)) ?_
  have e1 : ∀ v : Int32, Value.int v = iv v.toInt := fun v => by
    show Value.int v = Value.int (Int32.ofInt v.toInt)
    rw [Int32.ofInt_toInt]
  rw [e1]
  have b1 := Int32.le_toInt (sg_xs (gG l D c H0 sa) (Int32.ofInt e).toNatClampNeg)
  have b2 := Int32.toInt_lt (sg_xs (gG l D c H0 sa) (Int32.ofInt e).toNatClampNeg)
  exact kk _ ⟨by omega, by omega⟩
theorem la_arg {j L : Int} (hd0 : decode M.2.1 pc = .ok (.aload_n 0, 1)) (hd1 : decode M.2.1 (pc + 1) = .ok (.iload_n 3, 1)) (hd2 : decode M.2.1 (pc + 2) = .ok (.iconst j, 1)) (hd3 : decode M.2.1 (pc + 3) = .ok (.iadd, 1)) (hd4 : decode M.2.1 (pc + 4) = .ok (.iaload, 1)) (hg0 : sGet 0 lv = some (.retAddr 0)) (hg3 : sGet 3 lv = some (iv L)) (hL : 0 ≤ L ∧ L + 7 ≤ (sa.2.1 : Int)) (hj : 0 ≤ j ∧ j ≤ 6) (hs : sa.2.1 ≤ 3584) (kk : ∀ z : Int, (-2147483648 ≤ z ∧ z ≤ 2147483647) → sV (gG l D c H0 sa) M R Z (pc + 5) lv (iv z :: st) hp ce sl) : sV (gG l D c H0 sa) M R Z pc lv st hp ce sl := by
  refine sv_aload_nS hd0 rfl hg0 ?_
  refine mr_iload_n (pc := pc + 1) hd1 rfl hg3 ?_
  refine mr_iconst (pc := pc + 1 + 1) hd2 ?_
  refine mr_iadd (pc := pc + 1 + 1 + 1) hd3 ?_
  exact la_ld (pc := pc + 1 + 1 + 1 + 1) hd4 ⟨by omega, by omega⟩ hs kk
theorem la_arg6 {L : Int} (hd0 : decode M.2.1 pc = .ok (.aload_n 0, 1)) (hd1 : decode M.2.1 (pc + 1) = .ok (.iload_n 3, 1)) (hd2 : decode M.2.1 (pc + 2) = .ok (.bipush 6, 2)) (hd3 : decode M.2.1 (pc + 4) = .ok (.iadd, 1)) (hd4 : decode M.2.1 (pc + 5) = .ok (.iaload, 1)) (hg0 : sGet 0 lv = some (.retAddr 0)) (hg3 : sGet 3 lv = some (iv L)) (hL : 0 ≤ L ∧ L + 7 ≤ (sa.2.1 : Int)) (hs : sa.2.1 ≤ 3584) (kk : ∀ z : Int, (-2147483648 ≤ z ∧ z ≤ 2147483647) → sV (gG l D c H0 sa) M R Z (pc + 6) lv (iv z :: st) hp ce sl) : sV (gG l D c H0 sa) M R Z pc lv st hp ce sl := by
  refine sv_aload_nS hd0 rfl hg0 ?_
  refine mr_iload_n (pc := pc + 1) hd1 rfl hg3 ?_
  refine mr_bipush (pc := pc + 1 + 1) hd2 (by decide) ?_
  refine mr_iadd (pc := pc + 1 + 1 + 2) hd3 ?_
  exact la_ld (pc := pc + 1 + 1 + 2 + 1) hd4 ⟨by omega, by omega⟩ hs kk
/-- a boolean out of an int -/
theorem la_bool {x : Int} (hd : decode M.2.1 pc = .ok (.ifCond .eq 7, 3)) (hd1 : decode M.2.1 (pc + 3) = .ok (.iconst 1, 1)) (hd2 : decode M.2.1 (pc + 4) = .ok (.goto 4, 3)) (hd3 : decode M.2.1 (pc + 7) = .ok (.iconst 0, 1)) (hx : -2147483648 ≤ x ∧ x ≤ 2147483647) (kk : ∀ z : Int, (0 ≤ z ∧ z ≤ 1) → sV (gG l D c H0 sa) M R Z (pc + 8) lv (iv z :: st) hp ce sl) : sV (gG l D c H0 sa) M R Z pc lv (iv x :: st) hp ce sl := by
  refine mr_if_eq (tgt := pc + 7) hd (by omega) hx (fun _ => ?_) (fun _ => ?_)
  · refine mr_iconst (pc := pc + 7) hd3 ?_
    exact kk 0 (by decide)
  · refine mr_iconst (pc := pc + 3) hd1 ?_
    refine sv_goto (pc := pc + 3 + 1) (tgt := pc + 8) hd2 (by omega) ?_
    exact kk 1 (by decide)
end LAWR
