/-! The class's rests: found, kept, told. -/
theorem rowX {lf : List Nat} {w w1 : mW} {μ μ1 : mM} {a s : Nat} (hA : mAt w a s) (X : mX lf w μ w1 μ1) (hl : lf.elem (1000 * s + 999) = false) (hm : mArr s = true) : μ1 a = μ a := funext fun i => X.2 a i hA.2.1 (by unfold mRg; rw [hA.1, hm]; exact hl)
def rwE (μ0 μ : mM) : Prop := μ 95 = μ0 95 ∧ μ 96 = μ0 96 ∧ μ 97 = μ0 97
theorem rwE.fr {lf : List Nat} {w : mW} {μ0 μ μ1 : mM} (h : rwE μ0 μ) (hw : mWF w) (F : mF lf w μ μ1) (hl : (ndL.all fun r => !lf.elem r) = true) : rwE μ0 μ1 := ⟨(rowB (A_95 hw) F (qA_no hl rfl) rfl).trans h.1, (rowB (A_96 hw) F (qA_no hl rfl) rfl).trans h.2.1, (rowB (A_97 hw) F (qA_no hl rfl) rfl).trans h.2.2⟩
theorem rwE.frX {lf : List Nat} {w w1 : mW} {μ0 μ μ1 : mM} (h : rwE μ0 μ) (hw : mWF w) (F : mX lf w μ w1 μ1) (hl : (ndL.all fun r => !lf.elem r) = true) : rwE μ0 μ1 := ⟨(rowX (A_95 hw) F (qA_no hl rfl) rfl).trans h.1, (rowX (A_96 hw) F (qA_no hl rfl) rfl).trans h.2.1, (rowX (A_97 hw) F (qA_no hl rfl) rfl).trans h.2.2⟩
theorem rwE.nd {μ0 μ : mM} (h : rwE μ0 μ) (k : NDQ μ0) : NDQ μ := k.of fun i => ⟨by rw [h.1], by rw [h.2.1], by rw [h.2.2]⟩
/-- at the head of the rests' loop; behind the test -/
def frI (μ0 : mM) (S L rc : Int) (b : Nat) (μ : mM) : Prop := rwE μ0 μ ∧ wgT μ 100 95 ∧ ndA μ ∧ (L < S → hasD μ 101 95 L) ∧ rkI (RSt μ0 95 97 96 7) (μ b) rc L
def frJ (μ0 : mM) (L rc : Int) (b : Nat) (μ : mM) : Prop := rwE μ0 μ ∧ wgT μ 100 95 ∧ ndA μ ∧ hasD μ 101 95 L ∧ rkI (RSt μ0 95 97 96 7) (μ b) rc (L + 1)
theorem hasD.b {w : mW} {μ : mM} {s : Int} (h : hasD μ 101 95 s) (hw : mWF w) (hT : mT w μ) : hasB μ := fun p h1 h2 => by
  rw [h p h1 h2]
  exact dgF.rng (hT 95 95 (A_95 hw) p).1
theorem frI.is {w : mW} {μ0 μ : mM} {S L rc z : Int} {b : Nat} (h : frI μ0 S L rc b μ) (hw : mWF w) (hT : mT w μ) (hL : 0 ≤ L ∧ L < S) (hz : z = 1 ↔ rstP μ 95 97 96 7 (μ 101)) : z = 1 ↔ RSt μ0 95 97 96 7 L.toNat := by
  obtain ⟨⟨e5, e6, e7⟩, _, _, hd, _⟩ := h
  have hd := hd hL.2
  have es : ((L.toNat : Nat) : Int) = L := by omega
  rw [hz, ← RSt.cg e5 e7 e6]
  unfold RSt
  rw [es]
  exact rstP.h (fun i => hT 96 96 (A_96 hw) i) hd
theorem frJ.no {μ0 μ : mM} {S L rc : Int} {b : Nat} (h : frI μ0 S L rc b μ) (hL : 0 ≤ L ∧ L < S) (hn : ¬ RSt μ0 95 97 96 7 L.toNat) : frJ μ0 L rc b μ := ⟨h.1, h.2.1, h.2.2.1, h.2.2.2.1 hL.2, h.2.2.2.2.no hL.1 hn⟩
theorem frJ.yes {w : mW} {μ0 μ μ1 : mM} {S L rc rc' : Int} {b : Nat} (h : frI μ0 S L rc b μ) (hw : mWF w) (F : mF [94014, 103999] w μ μ1) (hL : 0 ≤ L ∧ L < S) (r0 : 0 ≤ rc) (hp : RSt μ0 95 97 96 7 L.toNat) (k : one μ μ1 b rc ∧ μ1 b rc.toNat = L ∧ μ1 94 7 = (b : Int)) (hr : rc' = rc + 1) : frJ μ0 L rc' b μ1 := by
  subst hr
  obtain ⟨h1, h2, h3, h4, h5⟩ := h
  have r := h1.fr hw F rfl
  have e5 : μ1 95 = μ 95 := rowB (A_95 hw) F rfl rfl
  refine ⟨r, h2.of (rowB (A_100 hw) F rfl rfl) e5, h3.of e5 (rowB (A_96 hw) F rfl rfl) (rowB (A_97 hw) F rfl rfl) (rowB (A_98 hw) F rfl rfl) (rowB (A_99 hw) F rfl rfl), ?_, ?_⟩
  · intro p a1 a2
    rw [rowB (A_101 hw) F rfl rfl, e5]; exact h4 hL.2 p a1 a2
  · exact h5.yes hL.1 r0 hp k.2.1 fun j hj => k.1 j (by omega)
theorem frJ.yesX {w w1 : mW} {μ0 μ μ1 : mM} {S L rc rc' n : Int} {b b1 : Nat} (h : frI μ0 S L rc b μ) (hw : mWF w) (F : mX [94007, 94014, 103999] w μ w1 μ1) (hL : 0 ≤ L ∧ L < S) (r0 : 0 ≤ rc) (hn : (w.2.2.1 b : Int) = n) (hr1 : rc ≤ n) (hp : RSt μ0 95 97 96 7 L.toNat) (k : (∀ j : Nat, (j : Int) < (w.2.2.1 b : Int) → (j : Int) < rc → μ1 w.1 j = μ b j) ∧ μ1 w.1 rc.toNat = L ∧ μ1 94 7 = (w.1 : Int)) (q : μ1 94 7 = (b1 : Int)) (hr : rc' = rc + 1) : frJ μ0 L rc' b1 μ1 := by
  subst hr
  obtain ⟨h1, h2, h3, h4, h5⟩ := h
  have eb : b1 = w.1 := by rw [k.2.2] at q; omega
  subst eb
  have r := h1.frX hw F rfl
  have e5 : μ1 95 = μ 95 := rowX (A_95 hw) F rfl rfl
  refine ⟨r, h2.of (rowX (A_100 hw) F rfl rfl) e5, h3.of e5 (rowX (A_96 hw) F rfl rfl) (rowX (A_97 hw) F rfl rfl) (rowX (A_98 hw) F rfl rfl) (rowX (A_99 hw) F rfl rfl), ?_, ?_⟩
  · intro p a1 a2
    rw [rowX (A_101 hw) F rfl rfl, e5]; exact h4 hL.2 p a1 a2
  · exact h5.yes hL.1 r0 hp k.2.1 fun j hj => k.1 j (by omega) hj
theorem frJ.next {w : mW} {μ0 μ μ1 : mM} {S L rc : Int} {b : Nat} (h : frJ μ0 L rc b μ) (hS : S = wgk (μ0 95) 6) (hw : mWF w) (hA : mAt w b 103) (F : mF [101999] w μ μ1) (k : L + 1 < wgk (μ 95) 6 → hasD μ1 101 95 (L + 1)) : frI μ0 S (L + 1) rc b μ1 := by
  obtain ⟨h1, h2, h3, h4, h5⟩ := h
  have e5 : μ1 95 = μ 95 := rowB (A_95 hw) F rfl rfl
  refine ⟨h1.fr hw F rfl, h2.of (rowB (A_100 hw) F rfl rfl) e5, h3.of e5 (rowB (A_96 hw) F rfl rfl) (rowB (A_97 hw) F rfl rfl) (rowB (A_98 hw) F rfl rfl) (rowB (A_99 hw) F rfl rfl), fun g => k ?_, ?_⟩
  · rw [h1.1, ← hS]; exact g
  · rw [rowB hA F rfl rfl]; exact h5
theorem RSt.ext {μ μ1 : mM} (h : rwE μ μ1) : RSt μ1 95 97 96 7 = RSt μ 95 97 96 7 := funext fun s => propext (RSt.cg h.1 h.2.2 h.2.1)
def NRV (μ1 : mM) : Prop := NRQ μ1 ∧ μ1 94 10 = 1
theorem frI.fin {w : mW} {μ0 μ μ1 : mM} {S L rc : Int} {b : Nat} (h : frI μ0 S L rc b μ) (hS : S = wgk (μ0 95) 6) (hL : L = S) (hw : mWF w) (hA : mAt w b 103) (u : mU μ 94 10 1 μ1) (q7 : μ 94 7 = (b : Int)) (q14 : μ 94 14 = rc) : NRV μ1 ∧ rwE μ0 μ1 := by
  obtain ⟨h1, h2, h3, h4, h5⟩ := h
  have F : mF [94010] w μ μ1 := mF.up mF.refl (A_94 hw) u rfl
  have r := h1.fr hw F rfl
  have e5 : μ1 95 = μ 95 := rowB (A_95 hw) F rfl rfl
  refine ⟨⟨fun _ => ⟨h2.of (rowB (A_100 hw) F rfl rfl) e5, ?_⟩, u.1⟩, r⟩
  have a7 : μ1 94 7 = (b : Int) := (u.2 94 7 (Or.inr (by decide))).trans q7
  have a14 : μ1 94 14 = rc := (u.2 94 14 (Or.inr (by decide))).trans q14
  have eb : ((b : Int)).toNat = b := rfl
  rw [a7, a14, eb, rowB hA F rfl rfl, RSt.ext r, e5, h1.1, ← hS, ← hL]
  exact h5
theorem NRQ.of {w : mW} {μ μ1 : mM} {b : Nat} (h : NRQ μ) (q7 : μ 94 7 = (b : Int)) (r : rwE μ μ1) (e10 : μ1 94 10 = μ 94 10) (e7 : μ1 94 7 = μ 94 7) (e14 : μ1 94 14 = μ 94 14) (eb : μ1 b = μ b) (ew : wgT μ 100 95 → wgT μ1 100 95) : NRQ μ1 := fun g => by
  rw [e10] at g
  obtain ⟨a, k⟩ := h g
  refine ⟨ew a, ?_⟩
  have e : ((b : Int)).toNat = b := rfl
  rw [e7, q7, e, eb, e14, RSt.ext r, r.1]
  rw [q7, e] at k
  exact k
def nrL : List Nat := [94007, 94010, 94014, 95999, 96999, 97999, 100999, 103999]
set_option maxRecDepth 4000 in
theorem NRQ.fr {lf : List Nat} {w : mW} {μ μ1 : mM} (h : NRQ μ) (hw : mWF w) (hT : mT w μ) (F : mF lf w μ μ1) (hl : (nrL.all fun r => !lf.elem r) = true) : NRQ μ1 := by
  obtain ⟨b, q7, hA⟩ := refE (hT 94 94 (A_94 hw) 7)
  have r : rwE μ μ1 := rwE.fr ⟨rfl, rfl, rfl⟩ hw F (qA_le hl rfl)
  exact NRQ.of (w := w) h q7 r (F.f (A_94 hw) (qA_no hl rfl) rfl) (F.f (A_94 hw) (qA_no hl rfl) rfl) (F.f (A_94 hw) (qA_no hl rfl) rfl) (rowB hA F (qA_no hl rfl) rfl) (fun g => g.of (rowB (A_100 hw) F (qA_no hl rfl) rfl) r.1)
set_option maxRecDepth 4000 in
theorem NRQ.frX {lf : List Nat} {w w1 : mW} {μ μ1 : mM} (h : NRQ μ) (hw : mWF w) (hT : mT w μ) (F : mX lf w μ w1 μ1) (hl : (nrL.all fun r => !lf.elem r) = true) : NRQ μ1 := by
  obtain ⟨b, q7, hA⟩ := refE (hT 94 94 (A_94 hw) 7)
  have r : rwE μ μ1 := rwE.frX ⟨rfl, rfl, rfl⟩ hw F (qA_le hl rfl)
  exact NRQ.of (w := w) h q7 r (F.f (A_94 hw) (qA_no hl rfl) rfl) (F.f (A_94 hw) (qA_no hl rfl) rfl) (F.f (A_94 hw) (qA_no hl rfl) rfl) (rowX hA F (qA_no hl rfl) rfl) (fun g => g.of (rowX (A_100 hw) F (qA_no hl rfl) rfl) r.1)
set_option maxRecDepth 4000 in
/-- tries: the weights may be reckoned anew -/
theorem NRQ.tr {lf : List Nat} {w w1 : mW} {μ μ1 : mM} (h : NRQ μ) (hw : mWF w) (hT : mT w μ) (F : mX lf w μ w1 μ1) (hl : (([94007, 94010, 94014, 95999, 96999, 97999, 103999] : List Nat).all fun r => !lf.elem r) = true) (k : wgT μ1 100 95 ∨ μ1 100 = μ 100) : NRQ μ1 := by
  obtain ⟨b, q7, hA⟩ := refE (hT 94 94 (A_94 hw) 7)
  have r : rwE μ μ1 := rwE.frX ⟨rfl, rfl, rfl⟩ hw F (qA_le hl rfl)
  refine NRQ.of (w := w) h q7 r (F.f (A_94 hw) (qA_no hl rfl) rfl) (F.f (A_94 hw) (qA_no hl rfl) rfl) (F.f (A_94 hw) (qA_no hl rfl) rfl) (rowX hA F (qA_no hl rfl) rfl) (fun g => ?_)
  rcases k with k | k
  · exact k
  · exact g.of k r.1
theorem NRQ.off {μ1 : mM} {z : Int} (h : μ1 94 10 = z) (hz : z = 0) : NRQ μ1 := fun g => by rw [h, hz] at g; exact absurd g (by decide)
theorem rkI.rt {μ : mM} {P : Nat → Prop} {f : Nat → Int} {rc N i p z : Int} (h : rkI P f rc N) (hi : 0 ≤ i ∧ i < rc) (hp : 1 ≤ p ∧ p ≤ 6) (k : wiZ_ μ (f i.toNat) p z) : rtZ P N.toNat (μ 95) i p z := by
  obtain ⟨a, b, c, d⟩ := h.2 i.toNat (by omega)
  have es : (((f i.toNat).toNat : Nat) : Int) = f i.toNat := by omega
  refine Or.inr ⟨⟨hi.1, hp.1, hp.2⟩, Or.inr ⟨(f i.toNat).toNat, by omega, c, by omega, ?_⟩⟩
  rw [es]; exact k
theorem rkI.bad {P : Nat → Prop} {f C : Nat → Int} {rc N i p : Int} (h : rkI P f rc N) (hi : i < 0 ∨ rc ≤ i ∨ p < 1 ∨ 7 ≤ p) : rtZ P N.toNat C i p (-1) := by
  by_cases g : i < 0 ∨ p < 1 ∨ 6 < p
  · exact Or.inl ⟨g, rfl⟩
  · refine Or.inr ⟨by omega, Or.inl ⟨?_, rfl⟩⟩
    rw [← h.1]; omega
theorem NRQ.wish {μ μ1 : mM} {n z k : Int} (h : NRQ μ) (h95 : ∀ p : Nat, 0 ≤ μ 95 p) (ha : wiA μ μ1 95 97 96 7 2 n z) (q : μ1 94 10 = k) (hk : z ≤ 0 ∨ k = 0) : NRQ μ1 := by
  rcases ha with ⟨_, _, e⟩ | ⟨a1, ⟨_, _, e⟩ | ⟨a2, ⟨_, _, e⟩ | ⟨a3, a4, _⟩⟩⟩
  · rw [e]; exact h
  · rw [e]; exact h
  · rw [e]; exact h
  · have := h95 (μ 2 0).toNat
    exact NRQ.off q (by omega)
theorem netP {μ : mM} (hW : WSQ μ) (hN : NDQ μ) (h96 : ∀ i, 0 ≤ μ 96 i ∧ μ 96 i ≤ 6) : RSt μ 95 97 96 7 = RSt μ 184 185 186 8 := funext fun s => propext (RSt.eq hW hN h96)
theorem netW {μ : mM} (hW : WSQ μ) : wgk (μ 95) 6 = wgk (μ 184) 6 := wgk.cg (fun p _ h2 => (hW p h2).2.1) 6 (Nat.le_refl 6)
theorem netR {μ μ1 : mM} {z z' : Int} (hW : WSQ μ1) (hN : NDQ μ1) (h96 : ∀ i, 0 ≤ μ1 96 i ∧ μ1 96 i ≤ 6) (r : rwE μ μ1) (h : z = cnP (RSt μ 95 97 96 7) (wgk (μ 95) 6).toNat) (k : z' = cnP (RSt μ1 184 185 186 8) (wgk (μ1 184) 6).toNat) : z = z' := by
  rw [h, k, ← netP hW hN h96, ← netW hW, RSt.ext r, r.1]
theorem rtZ.cg {P : Nat → Prop} {N : Nat} {C C' : Nat → Int} {i p z : Int} (e : ∀ p : Nat, 1 ≤ p → p ≤ 6 → C p = C' p) (h : rtZ P N C i p z) : rtZ P N C' i p z := by
  rcases h with h | ⟨h1, h | ⟨s, a, b, c, d⟩⟩
  · exact Or.inl h
  · exact Or.inr ⟨h1, Or.inl h⟩
  · refine Or.inr ⟨h1, Or.inr ⟨s, a, b, c, ?_⟩⟩
    rw [← dgF.cg e (by omega) (by omega), ← e p.toNat (by omega) (by omega)]; exact d
theorem netT {μ μ1 : mM} {i p z z' : Int} (hW : WSQ μ1) (hN : NDQ μ1) (h96 : ∀ i, 0 ≤ μ1 96 i ∧ μ1 96 i ≤ 6) (r : rwE μ μ1) (h : rtZ (RSt μ 95 97 96 7) (wgk (μ 95) 6).toNat (μ 95) i p z) (k : rtZ (RSt μ1 184 185 186 8) (wgk (μ1 184) 6).toNat (μ1 184) i p z') : z = z' := by
  rw [← netP hW hN h96, ← netW hW, RSt.ext r, r.1] at k
  exact rtZ.eq h (rtZ.cg (fun p _ h2 => by rw [← r.1]; exact (hW p h2).2.1.symm) k)
