/-! What candidate reads stands where the frames say so. -/
def SCr : List Nat := [106017, 106018, 108999, 109999, 110999, 111999, 112999, 115999, 119999, 120999, 121999, 122999, 123999, 124999, 125999, 127999, 128999, 129999, 132999, 133999, 134999, 135999, 136999, 137999, 138999, 139999, 140999, 141999, 142999, 143999, 144999]
theorem SCr.no {lf : List Nat} {r : Nat} (h : (SCr.all fun r => !lf.elem r) = true) (hr : r ∈ SCr) : lf.elem r = false := by
  have := List.all_eq_true.mp h r hr
  simpa using this
theorem mF.arr {lf : List Nat} {w : mW} {μ μ1 : mM} (hw : mWF w) (F : mF lf w μ μ1) (h : (SCr.all fun r => !lf.elem r) = true) {a i : Nat} (ha : a = 108 ∨ a = 109 ∨ a = 110 ∨ a = 111 ∨ a = 112 ∨ a = 115 ∨ (119 ≤ a ∧ a ≤ 125) ∨ (127 ≤ a ∧ a ≤ 129) ∨ (132 ≤ a ∧ a ≤ 144)) : μ1 a i = μ a i := by
  refine F a i ?_
  have hh : a = 108 ∨ a = 109 ∨ a = 110 ∨ a = 111 ∨ a = 112 ∨ a = 115 ∨ a = 119 ∨ a = 120 ∨ a = 121 ∨ a = 122 ∨ a = 123 ∨ a = 124 ∨ a = 125 ∨ a = 127 ∨ a = 128 ∨ a = 129 ∨ a = 132 ∨ a = 133 ∨ a = 134 ∨ a = 135 ∨ a = 136 ∨ a = 137 ∨ a = 138 ∨ a = 139 ∨ a = 140 ∨ a = 141 ∨ a = 142 ∨ a = 143 ∨ a = 144 := by omega
  rcases hh with rfl | rfl | rfl | rfl | rfl | rfl | rfl | rfl | rfl | rfl | rfl | rfl | rfl | rfl | rfl | rfl | rfl | rfl | rfl | rfl | rfl | rfl | rfl | rfl | rfl | rfl | rfl | rfl | rfl
  · simp only [mRg, (A_108 hw).1]; exact SCr.no h (r := 108999) (by decide)
  · simp only [mRg, (A_109 hw).1]; exact SCr.no h (r := 109999) (by decide)
  · simp only [mRg, (A_110 hw).1]; exact SCr.no h (r := 110999) (by decide)
  · simp only [mRg, (A_111 hw).1]; exact SCr.no h (r := 111999) (by decide)
  · simp only [mRg, (A_112 hw).1]; exact SCr.no h (r := 112999) (by decide)
  · simp only [mRg, (A_115 hw).1]; exact SCr.no h (r := 115999) (by decide)
  · simp only [mRg, (A_119 hw).1]; exact SCr.no h (r := 119999) (by decide)
  · simp only [mRg, (A_120 hw).1]; exact SCr.no h (r := 120999) (by decide)
  · simp only [mRg, (A_121 hw).1]; exact SCr.no h (r := 121999) (by decide)
  · simp only [mRg, (A_122 hw).1]; exact SCr.no h (r := 122999) (by decide)
  · simp only [mRg, (A_123 hw).1]; exact SCr.no h (r := 123999) (by decide)
  · simp only [mRg, (A_124 hw).1]; exact SCr.no h (r := 124999) (by decide)
  · simp only [mRg, (A_125 hw).1]; exact SCr.no h (r := 125999) (by decide)
  · simp only [mRg, (A_127 hw).1]; exact SCr.no h (r := 127999) (by decide)
  · simp only [mRg, (A_128 hw).1]; exact SCr.no h (r := 128999) (by decide)
  · simp only [mRg, (A_129 hw).1]; exact SCr.no h (r := 129999) (by decide)
  · simp only [mRg, (A_132 hw).1]; exact SCr.no h (r := 132999) (by decide)
  · simp only [mRg, (A_133 hw).1]; exact SCr.no h (r := 133999) (by decide)
  · simp only [mRg, (A_134 hw).1]; exact SCr.no h (r := 134999) (by decide)
  · simp only [mRg, (A_135 hw).1]; exact SCr.no h (r := 135999) (by decide)
  · simp only [mRg, (A_136 hw).1]; exact SCr.no h (r := 136999) (by decide)
  · simp only [mRg, (A_137 hw).1]; exact SCr.no h (r := 137999) (by decide)
  · simp only [mRg, (A_138 hw).1]; exact SCr.no h (r := 138999) (by decide)
  · simp only [mRg, (A_139 hw).1]; exact SCr.no h (r := 139999) (by decide)
  · simp only [mRg, (A_140 hw).1]; exact SCr.no h (r := 140999) (by decide)
  · simp only [mRg, (A_141 hw).1]; exact SCr.no h (r := 141999) (by decide)
  · simp only [mRg, (A_142 hw).1]; exact SCr.no h (r := 142999) (by decide)
  · simp only [mRg, (A_143 hw).1]; exact SCr.no h (r := 143999) (by decide)
  · simp only [mRg, (A_144 hw).1]; exact SCr.no h (r := 144999) (by decide)
theorem SJ.fr {lf : List Nat} {w : mW} {μ μ1 : mM} {p : Int} (hw : mWF w) (F : mF lf w μ μ1) (h : (SCr.all fun r => !lf.elem r) = true) : agr (SJ μ p) μ μ1 := fun a i s => by
  rcases s with ⟨rfl, rfl⟩ | ⟨s1, s2, -⟩ | ⟨s1, -⟩
  · refine F 106 18 ?_
    simp only [mRg, (A_106 hw).1]; exact SCr.no h (by decide)
  · exact F.arr hw h (by omega)
  · exact F.arr hw h (by omega)
theorem SC.fr {lf : List Nat} {rs : List (Int × Int)} {w : mW} {μ μ1 : mM} {d t p : Int} (hw : mWF w) (F : mF lf w μ μ1) (h : (SCr.all fun r => !lf.elem r) = true) (G : mG rs μ μ1) (hr : ∀ r ∈ rs, r.2 ≤ 5200 ∨ 21200 ≤ r.1) (ht : 0 ≤ t ∧ t ≤ 19) (hp : 0 ≤ p ∧ p ≤ 9) : agr (SC μ d t p) μ μ1 := fun a i s => by
  have s0 : 0 ≤ sdOf μ d t ∧ sdOf μ d t ≤ 1 := by unfold sdOf; split <;> decide
  have r0 : 130 ≤ rwOf μ d t p ∧ rwOf μ d t p ≤ 529 := by unfold rwOf; omega
  rcases s with ⟨rfl, s⟩ | ⟨s, -⟩ | ⟨s, -⟩ | ⟨s, -⟩ | ⟨s, -⟩ | ⟨s, -⟩ | ⟨s, -⟩ | ⟨s, -⟩ | ⟨s, -⟩ | ⟨rfl, rfl⟩ | s
  · exact G i fun r hr' => by have := hr r hr'; omega
  · exact F.arr hw h (by omega)
  · exact F.arr hw h (by omega)
  · exact F.arr hw h (by omega)
  · exact F.arr hw h (by omega)
  · exact F.arr hw h (by omega)
  · exact F.arr hw h (by omega)
  · exact F.arr hw h (by omega)
  · exact F.arr hw h (by omega)
  · refine F 106 17 ?_
    simp only [mRg, (A_106 hw).1]; exact SCr.no h (by decide)
  · exact SJ.fr hw F h a i s
def CLF : List Nat := [106026, 106027, 106028, 106029, 106030, 106031, 126999, 151999, 152999, 153999]
theorem WC.mF {w : mW} {ν νe : mM} {t : Int} (hw : mWF w) (h : ∀ a i, ¬ WC t a i → νe a i = ν a i) : mF [106026, 106027, 106028, 106029, 106030, 106031, 126999, 151999, 152999, 153999] w ν νe := fun a i hl => by
  refine h a i fun k => ?_
  rcases k with ⟨rfl, -⟩ | ⟨k1, k2⟩ | ⟨rfl, k1, k2⟩
  · simp only [mRg, (A_126 hw).1] at hl; exact absurd (show List.elem 126999 ([106026, 106027, 106028, 106029, 106030, 106031, 126999, 151999, 152999, 153999] : List Nat) = false from hl) (by decide)
  · have : a = 151 ∨ a = 152 ∨ a = 153 := by omega
    rcases this with rfl | rfl | rfl
    · simp only [mRg, (A_151 hw).1] at hl; exact absurd (show List.elem 151999 ([106026, 106027, 106028, 106029, 106030, 106031, 126999, 151999, 152999, 153999] : List Nat) = false from hl) (by decide)
    · simp only [mRg, (A_152 hw).1] at hl; exact absurd (show List.elem 152999 ([106026, 106027, 106028, 106029, 106030, 106031, 126999, 151999, 152999, 153999] : List Nat) = false from hl) (by decide)
    · simp only [mRg, (A_153 hw).1] at hl; exact absurd (show List.elem 153999 ([106026, 106027, 106028, 106029, 106030, 106031, 126999, 151999, 152999, 153999] : List Nat) = false from hl) (by decide)
  · have : i = 26 ∨ i = 27 ∨ i = 28 ∨ i = 29 ∨ i = 30 ∨ i = 31 := by omega
    rcases this with rfl | rfl | rfl | rfl | rfl | rfl <;> (simp only [mRg, (A_106 hw).1] at hl; exact absurd hl (by decide))
theorem WC.mG {ν νe : mM} {t : Int} (h : ∀ a i, ¬ WC t a i → νe a i = ν a i) : mG [(((40 * t) + 160), ((40 * t) + 200))] ν νe := fun i hi => by
  refine h 126 i fun k => ?_
  have q : (i : Int) < 40 * t + 160 ∨ 40 * t + 200 ≤ (i : Int) := hi _ List.mem_cons_self
  rcases k with ⟨-, k⟩ | ⟨k1, k2⟩ | ⟨k, -⟩ <;> omega
/-- a route's prefix is there; the message's is 0 or none -/
def RP (μ : mM) : Prop := ∀ r : Int, 0 ≤ r → r ≤ 1399 → (r = 24 → μ 126 (40 * r).toNat ≤ 0) ∧ (¬ r = 24 → μ 126 (40 * r).toNat < μ 106 2)
theorem RP.keep {lf : List Nat} {w : mW} {μ μ1 : mM} {rs : List (Int × Int)} (h : RP μ) (hw : mWF w) (F : mF lf w μ μ1) (h2 : lf.elem 106002 = false) (G : mG rs μ μ1) (hr : ∀ r ∈ rs, 40 * ((r.2 - 1) / 40) < r.1) : RP μ1 := fun r a b => by
  have e2 : μ1 106 2 = μ 106 2 := F 106 2 (by simp only [mRg, (A_106 hw).1]; exact h2)
  have e : μ1 126 (40 * r).toNat = μ 126 (40 * r).toNat := G _ fun q hq => by have := hr q hq; omega
  rw [e, e2]; exact h r a b
theorem RP.row {lf : List Nat} {w : mW} {μ μ1 : mM} {p hi z : Int} (h : RP μ) (hw : mWF w) (F : mF lf w μ μ1) (h2 : lf.elem 106002 = false) (hp : 0 ≤ p) (G : mG [(40 * p, hi)] μ μ1) (hh : hi ≤ 40 * p + 40) (q : μ1 126 (40 * p).toNat = z) (hz : (p = 24 → z ≤ 0) ∧ (¬ p = 24 → z < μ 106 2)) : RP μ1 := fun r a b => by
  have e2 : μ1 106 2 = μ 106 2 := F 106 2 (by simp only [mRg, (A_106 hw).1]; exact h2)
  rw [e2]
  by_cases e : r = p
  · rw [e, q]; exact hz
  · rw [G _ (List.forall_mem_cons.mpr ⟨show ((40 * r).toNat : Int) < 40 * p ∨ hi ≤ ((40 * r).toNat : Int) by omega, fun _ h => absurd h List.not_mem_nil⟩)]
    exact h r a b
theorem RP.up {μ μ1 : mM} {e z n : Int} (h : RP μ) (hU : mU μ 126 e.toNat z μ1) (q : μ1 106 2 = n) (h0 : 0 ≤ e) (hz : ¬ e % 40 = 0 ∨ 56000 ≤ e ∨ (e = 960 ∧ z ≤ 0) ∨ (¬ e = 960 ∧ z < n)) : RP μ1 := fun r a b => by
  have e2 : μ 106 2 = n := (hU.2 106 2 (Or.inl (by decide))).symm.trans q
  rw [q]
  by_cases e1 : 40 * r = e
  · rw [e1, hU.1]; omega
  · rw [hU.2 126 _ (Or.inr (by omega)), ← e2]; exact h r a b
theorem RP.grow {μ μ1 : mM} {z o : Int} (h : RP μ) (q : μ 106 2 = o) (hU : mU μ 106 2 z μ1) (hz : o ≤ z) : RP μ1 := fun r a b => by
  have := h r a b
  rw [hU.1, hU.2 126 _ (Or.inl (by decide))]
  exact ⟨this.1, fun n => by have := this.2 n; omega⟩
theorem RP.at {μ : mM} {r e z n : Int} (h : RP μ) (h0 : 0 ≤ r ∧ r ≤ 1399) (he : e = 40 * r) (q : μ 126 e.toNat = z) (q2 : μ 106 2 = n) : (r = 24 → z ≤ 0) ∧ (¬ r = 24 → z < n) := by
  have := h r h0.1 h0.2
  rw [← he, q, q2] at this; exact this
section CNS
variable {l : Launch} {D : va_G} {c : Nat → ClassId} {H0 : Heap} {sa : Nat × Nat × (Nat → Int32)} {w : mW} {μ μ1 : mM}
theorem JC.keep {lf : List Nat} (h : JC l D c H0 sa μ) (hw : mWF w) (F : mF lf w μ μ1) (hl : (SCr.all fun r => !lf.elem r) = true) (hc : ([106002, 106026, 106027, 106028, 106029, 106030, 106031].all fun r => !lf.elem r) = true) : JC l D c H0 sa μ1 := by
  have e : ∀ i : Nat, 26 ≤ i → i ≤ 31 → μ1 106 i = μ 106 i := fun i a b => by
    refine F 106 i ?_
    have hh : i = 26 ∨ i = 27 ∨ i = 28 ∨ i = 29 ∨ i = 30 ∨ i = 31 := by omega
    have no : ∀ r ∈ [106002, 106026, 106027, 106028, 106029, 106030, 106031], lf.elem r = false := fun r hr => by simpa using List.all_eq_true.mp hc r hr
    rcases hh with rfl | rfl | rfl | rfl | rfl | rfl <;> (simp only [mRg, (A_106 hw).1]; exact no _ (by decide))
  have e2 : μ1 106 2 = μ 106 2 := by
    have no : lf.elem 106002 = false := by simpa using List.all_eq_true.mp hc 106002 (by decide)
    refine F 106 2 ?_
    simp only [mRg, (A_106 hw).1]; exact no
  intro a
  have k := h (by rw [← e 26 (by decide) (by decide)]; exact a)
  rw [← e 27 (by decide) (by decide), ← e 28 (by decide) (by decide), ← e 29 (by decide) (by decide), ← e 30 (by decide) (by decide), ← e 31 (by decide) (by decide), ← e2] at k
  rw [JAz.congr (SJ.fr hw F hl)]
  exact k
set_option maxRecDepth 4000 in
theorem c_X12_candidate_u (hw : mWF w) (hT : mT w μ) {p1 : Int} (hp1 : 0 ≤ p1 ∧ p1 ≤ 9) {p2 : Int} (hp2 : 0 ≤ p2 ∧ p2 ≤ 19) {p3 : Int} (hp3 : 0 ≤ p3 ∧ p3 ≤ 9) {f_e0 : Int} (q_f_e0 : μ 110 ((2 * p2).toNat) = f_e0) {f_e1 : Int} (q_f_e1 : μ 110 (((2 * p2) + 1).toNat) = f_e1) {f_ties : Int} (q_f_ties : μ 106 6 = f_ties) (hq0 : p2 < f_ties) (hq1 : f_e0 = p1 ∨ f_e1 = p1) (hIJC : JC l D c H0 sa μ) (hIRP : RP μ) (hIPK : PK μ) : sC (gG l D c H0 sa) mX12_candidate 7 0 0 [.ref 106, iv p1, iv p2, iv p3] (mk w μ) (qI w [106026, 106027, 106028, 106029, 106030, 106031, 126999, 151999, 152999, 153999] μ (fun z μ1 => ((-99999999) ≤ z ∧ z ≤ 10) ∧ mG [(((40 * p2) + 160), ((40 * p2) + 200))] μ μ1 ∧ JC l D c H0 sa μ1 ∧ RP μ1 ∧ (μ1 126 (40 * (4 + p2)).toNat < 0 → NZ l D c H0 sa μ1 p1 p2 p3) ∧ True)) := by
  obtain ⟨z, hz, h⟩ := cand_all (l := l) (D := D) (c := c) (H0 := H0) (sa := sa) hw hT hp1 hp2 hp3 q_f_e0 q_f_e1 q_f_ties hq0 hq1 hIPK
  have s0 : 0 ≤ sdOf μ p1 p2 ∧ sdOf μ p1 p2 ≤ 1 := by unfold sdOf; split <;> decide
  have hx2 : xOf μ p1 p2 p3 < μ 106 2 := (hIRP (rwOf μ p1 p2 p3) (by unfold rwOf; omega) (by unfold rwOf; omega)).2 (by unfold rwOf; omega)
  obtain ⟨νe, ⟨⟨g1, g2, g3⟩, g4⟩, g5, g6⟩ := h w μ hw hT hIJC (by rw [q_f_ties]; exact hq0) hx2 agr.refl
  refine g4.weak ?_
  rintro r hp' ⟨rfl, rfl⟩
  have g7 : RP νe := RP.row hIRP hw (WC.mF hw g3) rfl (p := 4 + p2) (by omega) (by rw [show (40 * (4 + p2)) = 40 * p2 + 160 by omega]; exact WC.mG g3) (by omega) rfl (by
    have h2 : 0 ≤ μ 106 2 := (hT 106 106 (A_106 hw) 2).1
    refine ⟨fun e => by omega, fun _ => ?_⟩
    rcases g6 with g6 | g6
    · omega
    · rw [g6]; exact hx2)
  refine ⟨z, νe, rfl, rfl, g1, WC.mF hw g3, hz, WC.mG g3, g2, g7, fun hn => ?_, trivial⟩
  have hz0 : z ≠ 0 := fun e => absurd (g5 e) (by omega)
  have nz : NZ l D c H0 sa μ p1 p2 p3 := fun w' ν x T j q hx dd => by
    obtain ⟨νe', k, -, k2⟩ := h w' ν x T j q hx dd
    exact ⟨z, νe', hz0, hz, k, k2⟩
  refine nz.keep hp2.1 hp3.1 (SC.fr hw (WC.mF hw g3) rfl (WC.mG g3) (List.forall_mem_cons.mpr ⟨Or.inl (show 40 * p2 + 200 ≤ 5200 by omega), fun _ h => absurd h List.not_mem_nil⟩) hp2 hp3) (Int.le_of_eq ?_)
  refine (g3 106 39 fun k => ?_).symm
  rcases k with ⟨k, -⟩ | ⟨k, -⟩ | ⟨-, -, k⟩ <;> omega
/-- ties below n at d whose row of candidates is nothing have no candidate -/
def CN (l : Launch) (D : va_G) (c : Nat → ClassId) (H0 : Heap) (sa : Nat × Nat × (Nat → Int32)) (μ : mM) (d p n : Int) : Prop := ∀ t : Int, 0 ≤ t → t < n → (μ 110 (2 * t).toNat = d ∨ μ 110 (2 * t + 1).toNat = d) → μ 126 (40 * (4 + t)).toNat < 0 → NZ l D c H0 sa μ d t p
theorem CN.zero {d p : Int} : CN l D c H0 sa μ d p 0 := fun t a b => by omega
theorem CN.step {d p n : Int} {rs : List (Int × Int)} (h : CN l D c H0 sa μ d p n) (hn : 0 ≤ n ∧ n ≤ 19) (hp : 0 ≤ p ∧ p ≤ 9) (hw : mWF w) (F : mF [106026, 106027, 106028, 106029, 106030, 106031, 126999, 151999, 152999, 153999] w μ μ1) (G : mG rs μ μ1) (hr : ∀ r ∈ rs, 40 * (4 + n) ≤ r.1 ∧ r.2 ≤ 40 * (4 + n) + 40) (hN : (μ1 110 (2 * n).toNat = d ∨ μ1 110 (2 * n + 1).toNat = d) → μ1 126 (40 * (4 + n)).toNat < 0 → NZ l D c H0 sa μ1 d n p) : CN l D c H0 sa μ1 d p (n + 1) := fun t a b q z => by
  by_cases e : t = n
  · subst e; exact hN q z
  · have e1 : ∀ i, μ1 110 i = μ 110 i := fun i => F.arr hw rfl (by omega)
    rw [e1, e1] at q
    have e2 : μ1 126 (40 * (4 + t)).toNat = μ 126 (40 * (4 + t)).toNat := G _ fun r hr' => by have := hr r hr'; omega
    rw [e2] at z
    refine (h t a (by omega) q z).keep a hp.1 (SC.fr hw F rfl G (fun r hr' => by have := hr r hr'; omega) ⟨a, by omega⟩ hp) (Int.le_of_eq ?_)
    refine (F 106 39 ?_).symm
    simp only [mRg, (A_106 hw).1]; rfl
end CNS
