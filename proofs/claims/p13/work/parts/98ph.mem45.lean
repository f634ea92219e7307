/-! What candidate reads; 'candidate is not 0', for all memories that agree there. -/
def sdOf (μ : mM) (d t : Int) : Int := if μ 110 (2 * t).toNat = d then 0 else 1
def rwOf (μ : mM) (d t p : Int) : Int := 130 + ((2 * t + sdOf μ d t) * 10 + p)
def xOf (μ : mM) (d t p : Int) : Int := μ 126 (40 * rwOf μ d t p).toNat
def SC (μ : mM) (d t p : Int) : Nat → Nat → Prop := fun a i =>
  (a = 126 ∧ 40 * rwOf μ d t p ≤ (i : Int) ∧ (i : Int) < 40 * rwOf μ d t p + 40) ∨ (a = 110 ∧ (i : Int) ≤ 2 * t + 1) ∨ (a = 111 ∧ (i : Int) ≤ t) ∨ (a = 112 ∧ i = t.toNat) ∨ (a = 115 ∧ i = (4 * t + 2 * sdOf μ d t).toNat) ∨ ((a = 127 ∨ a = 142) ∧ (i : Int) < μ 106 39) ∨ ((a = 128 ∨ a = 129) ∧ (i : Int) < 31 * μ 106 39) ∨ ((132 ≤ a ∧ a ≤ 141) ∧ (i : Int) < 300 * μ 106 39) ∨ ((a = 143 ∨ a = 144) ∧ (i : Int) < 41 * μ 106 39) ∨ (a = 106 ∧ i = 17) ∨ SJ μ (xOf μ d t p) a i
def WC (t : Int) : Nat → Nat → Prop := fun a i => (a = 126 ∧ 40 * (4 + t) ≤ (i : Int) ∧ (i : Int) < 40 * (4 + t) + 40) ∨ (151 ≤ a ∧ a ≤ 153) ∨ (a = 106 ∧ 26 ≤ i ∧ i ≤ 31)
theorem SC.row {μ : mM} {d t p : Int} (i : Nat) (a : 40 * rwOf μ d t p ≤ (i : Int)) (b : (i : Int) < 40 * rwOf μ d t p + 40) : SC μ d t p 126 i := Or.inl ⟨rfl, a, b⟩
theorem SC.e {μ : mM} {d t p : Int} (i : Nat) (h : (i : Int) ≤ 2 * t + 1) : SC μ d t p 110 i := Or.inr (Or.inl ⟨rfl, h⟩)
theorem SC.k {μ : mM} {d t p : Int} (i : Nat) (h : (i : Int) ≤ t) : SC μ d t p 111 i := Or.inr (Or.inr (Or.inl ⟨rfl, h⟩))
theorem SC.u {μ : mM} {d t p : Int} : SC μ d t p 112 t.toNat := Or.inr (Or.inr (Or.inr (Or.inl ⟨rfl, rfl⟩)))
theorem SC.o {μ : mM} {d t p : Int} : SC μ d t p 115 (4 * t + 2 * sdOf μ d t).toNat := Or.inr (Or.inr (Or.inr (Or.inr (Or.inl ⟨rfl, rfl⟩))))
theorem SC.p1 {μ : mM} {d t p : Int} {a : Nat} (i : Nat) (ha : a = 127 ∨ a = 142) (h : (i : Int) < μ 106 39) : SC μ d t p a i := Or.inr (Or.inr (Or.inr (Or.inr (Or.inr (Or.inl ⟨ha, h⟩)))))
theorem SC.p2 {μ : mM} {d t p : Int} {a : Nat} (i : Nat) (ha : a = 128 ∨ a = 129) (h : (i : Int) < 31 * μ 106 39) : SC μ d t p a i := Or.inr (Or.inr (Or.inr (Or.inr (Or.inr (Or.inr (Or.inl ⟨ha, h⟩))))))
theorem SC.p3 {μ : mM} {d t p : Int} {a : Nat} (i : Nat) (ha : 132 ≤ a ∧ a ≤ 141) (h : (i : Int) < 300 * μ 106 39) : SC μ d t p a i := Or.inr (Or.inr (Or.inr (Or.inr (Or.inr (Or.inr (Or.inr (Or.inl ⟨ha, h⟩)))))))
theorem SC.p4 {μ : mM} {d t p : Int} {a : Nat} (i : Nat) (ha : a = 143 ∨ a = 144) (h : (i : Int) < 41 * μ 106 39) : SC μ d t p a i := Or.inr (Or.inr (Or.inr (Or.inr (Or.inr (Or.inr (Or.inr (Or.inr (Or.inl ⟨ha, h⟩))))))))
theorem SC.d {μ : mM} {d t p : Int} : SC μ d t p 106 17 := Or.inr (Or.inr (Or.inr (Or.inr (Or.inr (Or.inr (Or.inr (Or.inr (Or.inr (Or.inl ⟨rfl, rfl⟩)))))))))
theorem SC.j {μ : mM} {d t p : Int} {a i : Nat} (h : SJ μ (xOf μ d t p) a i) : SC μ d t p a i := Or.inr (Or.inr (Or.inr (Or.inr (Or.inr (Or.inr (Or.inr (Or.inr (Or.inr (Or.inr h)))))))))
/-- what is read grows with the policies alone -/
theorem SC.sub {μ ν : mM} {d t p : Int} (ht : 0 ≤ t) (hp : 0 ≤ p) (h : agr (SC μ d t p) μ ν) (hl : μ 106 39 ≤ ν 106 39) : ∀ a i, SC μ d t p a i → SC ν d t p a i := by
  have e0 : ν 110 (2 * t).toNat = μ 110 (2 * t).toNat := h _ _ (SC.e _ (by omega))
  have e1 : sdOf ν d t = sdOf μ d t := by unfold sdOf; rw [e0]
  have s0 : 0 ≤ sdOf μ d t := by unfold sdOf; split <;> decide
  have e2 : rwOf ν d t p = rwOf μ d t p := by unfold rwOf; rw [e1]
  have r0 : 0 ≤ rwOf μ d t p := by unfold rwOf; omega
  have e3 : xOf ν d t p = xOf μ d t p := by
    unfold xOf; rw [e2]
    exact h _ _ (SC.row _ (by omega) (by omega))
  have e4 : SJ ν (xOf μ d t p) = SJ μ (xOf μ d t p) := SJ.congr (h.mono fun a i q => SC.j q)
  intro a i q
  rcases q with ⟨rfl, q⟩ | ⟨rfl, q⟩ | ⟨rfl, q⟩ | ⟨rfl, q⟩ | ⟨rfl, q⟩ | ⟨q1, q⟩ | ⟨q1, q⟩ | ⟨q1, q⟩ | ⟨q1, q⟩ | ⟨rfl, q⟩ | q
  · exact SC.row _ (by rw [e2]; exact q.1) (by rw [e2]; exact q.2)
  · exact SC.e _ q
  · exact SC.k _ q
  · rw [q]; exact SC.u
  · rw [q, ← e1]; exact SC.o
  · exact SC.p1 _ q1 (by omega)
  · exact SC.p2 _ q1 (by omega)
  · exact SC.p3 _ q1 (by omega)
  · exact SC.p4 _ q1 (by omega)
  · rw [q]; exact SC.d
  · exact SC.j (by rw [e3, e4]; exact q)
theorem xOf.congr {μ ν : mM} {d t p : Int} (ht : 0 ≤ t) (hp : 0 ≤ p) (h : agr (SC μ d t p) μ ν) : xOf ν d t p = xOf μ d t p := by
  have e0 : ν 110 (2 * t).toNat = μ 110 (2 * t).toNat := h _ _ (SC.e _ (by omega))
  have e1 : sdOf ν d t = sdOf μ d t := by unfold sdOf; rw [e0]
  have s0 : 0 ≤ sdOf μ d t := by unfold sdOf; split <;> decide
  have e2 : rwOf ν d t p = rwOf μ d t p := by unfold rwOf; rw [e1]
  have r0 : 0 ≤ rwOf μ d t p := by unfold rwOf; omega
  unfold xOf; rw [e2]
  exact h _ _ (SC.row _ (by omega) (by omega))
section NZS
variable {l : Launch} {D : va_G} {c : Nat → ClassId} {H0 : Heap} {sa : Nat × Nat × (Nat → Int32)} {w : mW} {μ ν : mM}
/-- candidate's answer is z, and behind it stands what stood but for its scratch -/
def CA (l : Launch) (D : va_G) (c : Nat → ClassId) (H0 : Heap) (sa : Nat × Nat × (Nat → Int32)) (w : mW) (ν : mM) (d t p z : Int) (νe : mM) : Prop := (mT w νe ∧ JC l D c H0 sa νe ∧ (∀ a i, ¬ WC t a i → νe a i = ν a i)) ∧ sC (gG l D c H0 sa) mX12_candidate 7 0 0 [.ref 106, iv d, iv t, iv p] (mk w ν) (fun r hp => r = some (iv z) ∧ hp = mk w νe)
/-- candidate is not 0, in all memories that agree with μ on what it reads -/
def NZ (l : Launch) (D : va_G) (c : Nat → ClassId) (H0 : Heap) (sa : Nat × Nat × (Nat → Int32)) (μ : mM) (d t p : Int) : Prop := ∀ w ν, mWF w → mT w ν → JC l D c H0 sa ν → t < ν 106 6 → xOf μ d t p < ν 106 2 → agr (SC μ d t p) μ ν → ∃ z νe, z ≠ 0 ∧ (-99999999 ≤ z ∧ z ≤ 10) ∧ CA l D c H0 sa w ν d t p z νe ∧ (νe 126 (40 * (4 + t)).toNat < 0 ∨ νe 126 (40 * (4 + t)).toNat = xOf μ d t p)
theorem NZ.keep {d t p : Int} (ht : 0 ≤ t) (hp : 0 ≤ p) (h : NZ l D c H0 sa μ d t p) (ha : agr (SC μ d t p) μ ν) (hl : μ 106 39 ≤ ν 106 39) : NZ l D c H0 sa ν d t p := fun w ν' x T j q hx dd =>
  xOf.congr ht hp ha ▸ h w ν' x T j q (by rw [← xOf.congr ht hp ha]; exact hx) fun a i s => (dd a i (SC.sub ht hp ha hl a i s)).trans (ha a i s)
theorem JC.at {x g : Int} (h : JC l D c H0 sa ν) (hd : agr (SJ μ x) μ ν) (hg : g < ν 106 6) : KC l D c H0 sa μ x g (ν 106) (ν 106) :=
  ⟨fun a b => by have h := (h a).2; rw [b, JAz.congr hd] at h; exact h, hg, Or.inl fun _ _ _ => rfl⟩
theorem JC.back {x g : Int} {νe : mM} (h : JC l D c H0 sa ν) (hf : ∀ p, agr (SJ ν p) ν νe) (hd : agr (SJ μ x) μ ν) (e2 : νe 106 2 = ν 106 2) (hx : x < ν 106 2) (k : KC l D c H0 sa μ x g (ν 106) (νe 106)) : JC l D c H0 sa νe := fun a => by
  rcases k.2.2 with q | ⟨q0, q⟩
  · have h := h (by rw [← q 26 (by decide) (by decide)]; exact a)
    rw [← q 27 (by decide) (by decide), ← q 28 (by decide) (by decide), ← q 29 (by decide) (by decide), ← q 30 (by decide) (by decide), ← q 31 (by decide) (by decide)] at h
    rw [JAz.congr (hf _), e2]
    exact h
  · have h := k.1 a q
    rw [q, JAz.congr (hf x), JAz.congr hd, e2]
    exact ⟨⟨q0, hx⟩, h⟩
theorem WC.sj {t q : Int} {a i : Nat} (h : SJ ν q a i) : ¬ WC t a i := by
  intro k
  rcases h with ⟨h1, h2⟩ | ⟨h1, h2, -⟩ | ⟨h1, -⟩ <;> rcases k with ⟨k1, -⟩ | ⟨k1, k2⟩ | ⟨k1, k2, k3⟩ <;> omega
/-- one answer for all memories that agree; if it is 0, candidate's row is there -/
theorem cand_all {d t p e0 e1 ts : Int} (hw : mWF w) (hT : mT w μ) (hd : 0 ≤ d ∧ d ≤ 9) (ht : 0 ≤ t ∧ t ≤ 19) (hp : 0 ≤ p ∧ p ≤ 9) (q0 : μ 110 (2 * t).toNat = e0) (q1 : μ 110 (2 * t + 1).toNat = e1) (qt : μ 106 6 = ts) (h0 : t < ts) (h1 : e0 = d ∨ e1 = d) (hI : PK μ) : ∃ z, (-99999999 ≤ z ∧ z ≤ 10) ∧ ∀ w' ν, mWF w' → mT w' ν → JC l D c H0 sa ν → t < ν 106 6 → xOf μ d t p < ν 106 2 → agr (SC μ d t p) μ ν → ∃ νe, CA l D c H0 sa w' ν d t p z νe ∧ (z = 0 → 0 ≤ νe 126 (40 * (4 + t)).toNat) ∧ (νe 126 (40 * (4 + t)).toNat < 0 ∨ νe 126 (40 * (4 + t)).toNat = xOf μ d t p) := by
  have s0 : 0 ≤ sdOf μ d t ∧ sdOf μ d t ≤ 1 := by unfold sdOf; split <;> decide
  have r0 : 0 ≤ rwOf μ d t p := by unfold rwOf; omega
  have hx0 : xOf μ d t p = μ 126 (40 * rwOf μ d t p).toNat := rfl
  obtain ⟨r, μe, ⟨z, rfl, -, -, hz, -, hz0, hzx⟩, hh⟩ := cx_X12_candidate (l := l) (D := D) (c := c) (H0 := H0) (sa := sa) (K := KC l D c H0 sa μ (xOf μ d t p) t) (W := WC t) (S := SC μ d t p) hw hT hd ht hp q0 q1 qt h0 h1 hI
    (sd := sdOf μ d t) (by unfold sdOf; rw [q0]; exact ⟨fun h => if_pos h, fun h => if_neg h⟩) (x := xOf μ d t p) rfl (f_pol := μ 106 39) rfl SC.row (fun i a b => Or.inl ⟨rfl, a, b⟩) (fun γ f k => k.2.1) SC.e SC.k SC.u SC.o
    (fun i a => ⟨SC.p1 _ (Or.inl rfl) a, SC.p1 _ (Or.inr rfl) a⟩) (fun i a => ⟨SC.p2 _ (Or.inl rfl) a, SC.p2 _ (Or.inr rfl) a⟩) (fun a i x y z => SC.p3 _ ⟨x, y⟩ z) (fun i a => ⟨SC.p4 _ (Or.inl rfl) a, SC.p4 _ (Or.inr rfl) a⟩)
    ⟨SC.j (Or.inr (Or.inr ⟨Or.inl rfl, Or.inl rfl⟩)), SC.j (Or.inr (Or.inr ⟨Or.inr rfl, Or.inl rfl⟩))⟩ SC.d (fun a i x y => Or.inr (Or.inl ⟨x, y⟩))
    (fun i a b q => by
      rcases q with ⟨q, -⟩ | ⟨q, -⟩ | ⟨q, -⟩ | ⟨q, -⟩ | ⟨q, -⟩ | ⟨q, -⟩ | ⟨q, -⟩ | ⟨q, -⟩ | ⟨q, -⟩ | ⟨-, q⟩ | ⟨-, q⟩ | ⟨q, q', -⟩ | ⟨q, -⟩ <;> omega)
    (fun S' μ' n z hs hN T F hn q hx => cx_judged hw hT T (fun a i s => by
      refine F a i ?_
      rcases s with ⟨rfl, rfl⟩ | ⟨s1, s2, -⟩ | ⟨s1, -⟩
      · rw [show mRg w 106 18 = _ from by simp only [mRg, (A_106 hw).1]; rfl]; rfl
      · have : a = 119 ∨ a = 120 ∨ a = 121 ∨ a = 122 ∨ a = 123 ∨ a = 124 ∨ a = 125 := by omega
        rcases this with rfl | rfl | rfl | rfl | rfl | rfl | rfl
        · simp only [mRg, (A_119 hw).1]; rfl
        · simp only [mRg, (A_120 hw).1]; rfl
        · simp only [mRg, (A_121 hw).1]; rfl
        · simp only [mRg, (A_122 hw).1]; rfl
        · simp only [mRg, (A_123 hw).1]; rfl
        · simp only [mRg, (A_124 hw).1]; rfl
        · simp only [mRg, (A_125 hw).1]; rfl
      · rcases s1 with rfl | rfl
        · simp only [mRg, (A_108 hw).1]; rfl
        · simp only [mRg, (A_109 hw).1]; rfl) hx hn (by rw [← q]; have h := T 106 106 (A_106 hw) 17; exact ⟨Int.le_trans (by decide) h.1, Int.le_trans h.2 (by decide)⟩) (fun a i s => hs a i (SC.j s)) hN (fun i a b => Or.inr (Or.inr ⟨rfl, a, b⟩)))
  refine ⟨z, hz, fun w' ν x T j q hx2 dd => ?_⟩
  have dJ : agr (SJ μ (xOf μ d t p)) μ ν := dd.mono fun a i s => SC.j s
  obtain ⟨νe, ⟨g1, g2, g3, g4⟩, g5⟩ := hh w' ν (ν 106) x T (j.at dJ q) dd
  exact ⟨νe, ⟨⟨g1, j.back (fun p' a i s => g4 a i (WC.sj s)) dJ (g4 106 2 fun k => by rcases k with ⟨k, -⟩ | ⟨k, -⟩ | ⟨-, k, -⟩ <;> omega) hx2 g2, g4⟩, g5⟩, fun e => by rw [g3 126 _ (Or.inr ⟨rfl, rfl⟩)]; exact hz0 e, by rw [g3 126 _ (Or.inr ⟨rfl, rfl⟩)]; exact hzx⟩
/-- nothing was heard: no candidate -/
theorem NZ.nothing {d t p : Int} (hw : mWF w) (hT : mT w μ) (hd : 0 ≤ d ∧ d ≤ 9) (ht : 0 ≤ t ∧ t < μ 106 6) (hp : 0 ≤ p ∧ p ≤ 9) (h1 : μ 110 (2 * t).toNat = d ∨ μ 110 (2 * t + 1).toNat = d) (hI : PK μ) (hx : xOf μ d t p < 0) : NZ l D c H0 sa μ d t p := by
  have h20 : μ 106 6 ≤ 20 := (hT 106 106 (A_106 hw) 6).2
  obtain ⟨z, hz, h⟩ := cand_all (l := l) (D := D) (c := c) (H0 := H0) (sa := sa) hw hT hd ⟨ht.1, by omega⟩ hp rfl rfl rfl ht.2 h1 hI
  intro w' ν x T j q hx2 dd
  obtain ⟨νe, k, g1, g2⟩ := h w' ν x T j q hx2 dd
  refine ⟨z, νe, fun e => ?_, hz, k, g2⟩
  have := g1 e
  omega
end NZS
