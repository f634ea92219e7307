section
/-! judged keeps its cache's invariant; what stands where nothing of it was touched. -/
section JUS
variable {l : Launch} {D : va_G} {c : Nat → ClassId} {H0 : Heap} {sa : Nat × Nat × (Nat → Int32)} {w : mW} {μ μ1 : mM}
theorem CN.fr {lf : List Nat} {d p : Int} (h : CN l D c H0 sa μ d p (μ 106 6)) (hp : 0 ≤ p ∧ p ≤ 9) (hw : mWF w) (hT : mT w μ) (F : mF lf w μ μ1) (hl : (SCr.all fun r => !lf.elem r) = true) (h6 : lf.elem 106006 = false) (h39 : lf.elem 106039 = false) (h126 : lf.elem 126999 = false) : CN l D c H0 sa μ1 d p (μ1 106 6) := fun t a b q z => by
  have e6 : μ1 106 6 = μ 106 6 := F 106 6 (by simp only [mRg, (A_106 hw).1]; exact h6)
  have e39 : μ1 106 39 = μ 106 39 := F 106 39 (by simp only [mRg, (A_106 hw).1]; exact h39)
  have e126 : ∀ i, μ1 126 i = μ 126 i := fun i => F 126 i (by simp only [mRg, (A_126 hw).1]; exact h126)
  have e1 : ∀ i, μ1 110 i = μ 110 i := fun i => F.arr hw hl (by omega)
  rw [e1, e1] at q
  rw [e126] at z
  rw [e6] at b
  have h20 : μ 106 6 ≤ 20 := (hT 106 106 (A_106 hw) 6).2
  exact (h t a b q z).keep a hp.1 (SC.fr (rs := []) hw F hl (fun i _ => e126 i) (fun _ h => absurd h List.not_mem_nil) ⟨a, by omega⟩ hp) (Int.le_of_eq e39.symm)
/-- nothing was picked: no candidate -/
def NA (l : Launch) (D : va_G) (c : Nat → ClassId) (H0 : Heap) (sa : Nat × Nat × (Nat → Int32)) (μ : mM) (d p : Int) : Prop := ∀ t : Int, 0 ≤ t → t < μ 106 6 → (μ 110 (2 * t).toNat = d ∨ μ 110 (2 * t + 1).toNat = d) → NZ l D c H0 sa μ d t p
theorem NA.of {d p n : Int} (h : CN l D c H0 sa μ d p (μ 106 6)) (hn : μ 106 6 = n) (k : allNo μ n) : NA l D c H0 sa μ d p := fun t a b q =>
  h t a b q (by rw [show 40 * (4 + t) = 160 + 40 * t by omega]; exact k t a (by omega))
theorem NA.fr {lf : List Nat} {rs : List (Int × Int)} {d p : Int} (h : NA l D c H0 sa μ d p) (hp : 0 ≤ p ∧ p ≤ 9) (hw : mWF w) (hT : mT w μ) (F : mF lf w μ μ1) (hl : (SCr.all fun r => !lf.elem r) = true) (h6 : lf.elem 106006 = false) (h39 : lf.elem 106039 = false) (G : mG rs μ μ1) (hr : ∀ r ∈ rs, r.2 ≤ 5200 ∨ 21200 ≤ r.1) : NA l D c H0 sa μ1 d p := fun t a b q => by
  have e6 : μ1 106 6 = μ 106 6 := F 106 6 (by simp only [mRg, (A_106 hw).1]; exact h6)
  have e39 : μ1 106 39 = μ 106 39 := F 106 39 (by simp only [mRg, (A_106 hw).1]; exact h39)
  have e1 : ∀ i, μ1 110 i = μ 110 i := fun i => F.arr hw hl (by omega)
  rw [e1, e1] at q
  rw [e6] at b
  have h20 : μ 106 6 ≤ 20 := (hT 106 106 (A_106 hw) 6).2
  exact (h t a b q).keep a hp.1 (SC.fr hw F hl G hr ⟨a, by omega⟩ hp) (Int.le_of_eq e39.symm)
end JUS
/-- the slots of pickedTie but one stand -/
def PT (μ μ1 : mM) (k : Nat) : Prop := ∀ j : Nat, j ≠ k → μ1 161 j = μ 161 j
theorem PT.fr {lf : List Nat} {w : mW} {μ μ1 : mM} {k : Nat} (hw : mWF w) (F : mF lf w μ μ1) (hl : lf.elem 161999 = false) : PT μ μ1 k := fun j _ => F 161 j (by simp only [mRg, (A_161 hw).1]; exact hl)
theorem PT.up {μ μ1 : mM} {k : Nat} {z : Int} (u : mU μ 161 k z μ1) : PT μ μ1 k := fun j h => u.2 161 j (Or.inr h)
theorem PT.trans {μ μ1 μ2 : mM} {k : Nat} (h : PT μ μ1 k) (h' : PT μ1 μ2 k) : PT μ μ2 k := fun j q => (h' j q).trans (h j q)
end
section
/-! What was not picked has no candidate: for the prefixes below n. -/
section UPS
variable {l : Launch} {D : va_G} {c : Nat → ClassId} {H0 : Heap} {sa : Nat × Nat × (Nat → Int32)} {w : mW} {μ μ1 : mM}
def UPd (l : Launch) (D : va_G) (c : Nat → ClassId) (H0 : Heap) (sa : Nat × Nat × (Nat → Int32)) (μ : mM) (d n : Int) : Prop := ∀ p : Int, 0 ≤ p → p < n → μ 161 (10 * d + p).toNat = -99999999 → NA l D c H0 sa μ d p
theorem UPd.zero {d : Int} : UPd l D c H0 sa μ d 0 := fun p a b => by omega
theorem UPd.step {lf : List Nat} {rs : List (Int × Int)} {d n : Int} (h : UPd l D c H0 sa μ d n) (hd : 0 ≤ d ∧ d ≤ 9) (hn : 0 ≤ n ∧ n ≤ 9) (hw : mWF w) (hT : mT w μ) (F : mF lf w μ μ1) (hl : (SCr.all fun r => !lf.elem r) = true) (h6 : lf.elem 106006 = false) (h39 : lf.elem 106039 = false) (G : mG rs μ μ1) (hr : ∀ r ∈ rs, r.2 ≤ 5200 ∨ 21200 ≤ r.1) (pt : PT μ μ1 (10 * d + n).toNat) (na : μ1 161 (10 * d + n).toNat = -99999999 → NA l D c H0 sa μ1 d n) : UPd l D c H0 sa μ1 d (n + 1) := fun p a b q => by
  by_cases e : p = n
  · subst e; exact na q
  · rw [pt _ (by omega)] at q
    exact (h p a (by omega) q).fr ⟨a, by omega⟩ hw hT F hl h6 h39 G hr
/-- pickedTie stands but for the slots of d -/
def PD (μ μ1 : mM) (d : Int) : Prop := ∀ j : Nat, ((j : Int) < 10 * d ∨ 10 * d + 10 ≤ (j : Int)) → μ1 161 j = μ 161 j
theorem PD.refl {d : Int} : PD μ μ d := fun _ _ => rfl
theorem PD.step {μ2 : mM} {d n : Int} (h : PD μ μ1 d) (hd : 0 ≤ d) (hn : 0 ≤ n ∧ n ≤ 9) (pt : PT μ1 μ2 (10 * d + n).toNat) : PD μ μ2 d := fun j q => (pt j (by omega)).trans (h j q)
end UPS
end
section
/-! What stands between the calls: routes' prefixes, events, what was heard; nothing picked, no candidate. -/
section UIS
variable {l : Launch} {D : va_G} {c : Nat → ClassId} {H0 : Heap} {sa : Nat × Nat × (Nat → Int32)} {w : mW} {μ μ1 : mM}
theorem mU.same {a k : Nat} {z : Int} (u : mU μ a k z μ1) (q : μ a k = z) : μ1 = μ := funext fun b => funext fun i => by
  by_cases e : b = a ∧ i = k
  · rw [e.1, e.2, u.1, q]
  · exact u.2 b i (by omega)
theorem F106 {lf : List Nat} {i : Nat} (hw : mWF w) (F : mF lf w μ μ1) (h : lf.elem (106000 + i) = false) : μ1 106 i = μ 106 i := F 106 i (by simp only [mRg, (A_106 hw).1]; exact h)
/-! the cache of judged -/
def SJr : List Nat := [106002, 106018, 106026, 106027, 106028, 106029, 106030, 106031, 108999, 109999, 119999, 120999, 121999, 122999, 123999, 124999, 125999]
theorem SJr.no {lf : List Nat} {r : Nat} (h : (SJr.all fun r => !lf.elem r) = true) (hr : r ∈ SJr) : lf.elem r = false := by
  have := List.all_eq_true.mp h r hr
  simpa using this
theorem SJ.frJ {lf : List Nat} (hw : mWF w) (F : mF lf w μ μ1) (h : (SJr.all fun r => !lf.elem r) = true) {p : Int} : agr (SJ μ p) μ μ1 := fun a i s => by
  refine F a i ?_
  rcases s with ⟨rfl, rfl⟩ | ⟨s1, s2, -⟩ | ⟨s1, -⟩
  · simp only [mRg, (A_106 hw).1]; exact SJr.no h (r := 106018) (by decide)
  · have hh : a = 119 ∨ a = 120 ∨ a = 121 ∨ a = 122 ∨ a = 123 ∨ a = 124 ∨ a = 125 := by omega
    rcases hh with rfl | rfl | rfl | rfl | rfl | rfl | rfl
    · simp only [mRg, (A_119 hw).1]; exact SJr.no h (r := 119999) (by decide)
    · simp only [mRg, (A_120 hw).1]; exact SJr.no h (r := 120999) (by decide)
    · simp only [mRg, (A_121 hw).1]; exact SJr.no h (r := 121999) (by decide)
    · simp only [mRg, (A_122 hw).1]; exact SJr.no h (r := 122999) (by decide)
    · simp only [mRg, (A_123 hw).1]; exact SJr.no h (r := 123999) (by decide)
    · simp only [mRg, (A_124 hw).1]; exact SJr.no h (r := 124999) (by decide)
    · simp only [mRg, (A_125 hw).1]; exact SJr.no h (r := 125999) (by decide)
  · rcases s1 with rfl | rfl
    · simp only [mRg, (A_108 hw).1]; exact SJr.no h (r := 108999) (by decide)
    · simp only [mRg, (A_109 hw).1]; exact SJr.no h (r := 109999) (by decide)
theorem JC.of (h : JC l D c H0 sa μ) (e2 : μ 106 2 ≤ μ1 106 2) (e : ∀ i : Nat, 26 ≤ i → i ≤ 31 → μ1 106 i = μ 106 i) (hA : 0 ≤ μ 106 27 → μ 106 27 < μ 106 2 → agr (SJ μ (μ 106 27)) μ μ1) : JC l D c H0 sa μ1 := fun a => by
  have k := h (by rw [← e 26 (by decide) (by decide)]; exact a)
  rw [e 27 (by decide) (by decide), e 28 (by decide) (by decide), e 29 (by decide) (by decide), e 30 (by decide) (by decide), e 31 (by decide) (by decide), JAz.congr (hA k.1.1 k.1.2)]
  exact ⟨⟨k.1.1, Int.lt_of_lt_of_le k.1.2 e2⟩, k.2⟩
theorem JC.keepJ {lf : List Nat} (h : JC l D c H0 sa μ) (hw : mWF w) (F : mF lf w μ μ1) (hl : (SJr.all fun r => !lf.elem r) = true) : JC l D c H0 sa μ1 := by
  have e : ∀ i : Nat, 26 ≤ i → i ≤ 31 → μ1 106 i = μ 106 i := fun i a b => by
    refine F106 hw F ?_
    have hh : i = 26 ∨ i = 27 ∨ i = 28 ∨ i = 29 ∨ i = 30 ∨ i = 31 := by omega
    rcases hh with rfl | rfl | rfl | rfl | rfl | rfl <;> exact SJr.no hl (by decide)
  exact h.of (Int.le_of_eq (F106 hw F (SJr.no hl (r := 106002) (by decide))).symm) e fun _ _ => SJ.frJ hw F hl
theorem JC.zero (e : μ 106 26 = 0) : JC l D c H0 sa μ := fun h => absurd e h
theorem JC.sm (h : JC l D c H0 sa μ) (e1 : ∀ i : Nat, i < 1000 → μ1 106 i = μ 106 i) (e2 : ∀ a : Nat, 107 ≤ a → a < 192 → μ1 a = μ a) : JC l D c H0 sa μ1 :=
  h.of (Int.le_of_eq (e1 2 (by decide)).symm) (fun i _ b => e1 i (by omega)) fun _ _ a i s => by
    rcases s with ⟨rfl, rfl⟩ | ⟨s1, s2, -⟩ | ⟨s1, -⟩
    · exact e1 18 (by decide)
    · rw [e2 a (by omega) (by omega)]
    · rw [e2 a (by omega) (by omega)]
/-! events: of prefixes that are there, of ties that are up -/
def EP (μ : mM) : Prop := ∀ s : Int, 0 ≤ s → s ≤ 399 → (0 ≤ μ 157 s.toNat ∨ 0 ≤ μ 159 s.toNat) → s % 10 < μ 106 2 ∧ ¬ μ 112 (s / 20).toNat = 0
def epF (lf : List Nat) : Bool := !(lf.elem 106002) && (!(lf.elem 112999) && (!(lf.elem 157999) && !(lf.elem 159999)))
theorem EP.keep {lf : List Nat} (h : EP μ) (hw : mWF w) (F : mF lf w μ μ1) (hl : epF lf = true) : EP μ1 := by
  simp only [epF, Bool.and_eq_true, Bool.not_eq_true'] at hl
  intro s a b q
  have e1 : ∀ i, μ1 157 i = μ 157 i := fun i => F.f (A_157 hw) hl.2.2.1 rfl
  have e2 : ∀ i, μ1 159 i = μ 159 i := fun i => F.f (A_159 hw) hl.2.2.2 rfl
  have e3 : ∀ i, μ1 112 i = μ 112 i := fun i => F.f (A_112 hw) hl.2.1 rfl
  rw [e1, e2] at q
  rw [e3, F106 hw F hl.1]; exact h s a b q
theorem EP.neg1 {k : Nat} {z : Int} (h : EP μ) (u : mU μ 157 k z μ1) (hz : z < 0) : EP μ1 := fun s a b q => by
  rw [u.2 106 2 (Or.inl (by decide)), u.2 112 _ (Or.inl (by decide))]
  rw [u.2 159 _ (Or.inl (by decide))] at q
  by_cases e : s.toNat = k
  · rw [e, u.1] at q
    rw [← e] at q
    exact h s a b (Or.inr (q.resolve_left (by omega)))
  · rw [u.2 157 _ (Or.inr e)] at q; exact h s a b q
theorem EP.neg2 {k : Nat} {z : Int} (h : EP μ) (u : mU μ 159 k z μ1) (hz : z < 0) : EP μ1 := fun s a b q => by
  rw [u.2 106 2 (Or.inl (by decide)), u.2 112 _ (Or.inl (by decide))]
  rw [u.2 157 _ (Or.inl (by decide))] at q
  by_cases e : s.toNat = k
  · rw [e, u.1] at q
    rw [← e] at q
    exact h s a b (Or.inl (q.resolve_right (by omega)))
  · rw [u.2 159 _ (Or.inr e)] at q; exact h s a b q
theorem EP.up1 {e z n t v : Int} (h : EP μ) (u : mU μ 157 e.toNat z μ1) (h0 : 0 ≤ e) (qn : μ1 106 2 = n) (hn : e % 10 < n) (ht : e / 20 = t) (qt : μ1 112 t.toNat = v) (hv : ¬ v = 0) : EP μ1 := fun s a b q => by
  by_cases e1 : s = e
  · rw [e1, ht, qt, qn]; exact ⟨hn, hv⟩
  · rw [u.2 157 _ (Or.inr (by omega)), u.2 159 _ (Or.inl (by decide))] at q
    rw [u.2 106 2 (Or.inl (by decide)), u.2 112 _ (Or.inl (by decide))]; exact h s a b q
theorem EP.up2 {e z n t v : Int} (h : EP μ) (u : mU μ 159 e.toNat z μ1) (h0 : 0 ≤ e) (qn : μ1 106 2 = n) (hn : e % 10 < n) (ht : e / 20 = t) (qt : μ1 112 t.toNat = v) (hv : ¬ v = 0) : EP μ1 := fun s a b q => by
  by_cases e1 : s = e
  · rw [e1, ht, qt, qn]; exact ⟨hn, hv⟩
  · rw [u.2 159 _ (Or.inr (by omega)), u.2 157 _ (Or.inl (by decide))] at q
    rw [u.2 106 2 (Or.inl (by decide)), u.2 112 _ (Or.inl (by decide))]; exact h s a b q
theorem EP.tie {k : Nat} {z : Int} (h : EP μ) (u : mU μ 112 k z μ1) (hz : ¬ z = 0) : EP μ1 := fun s a b q => by
  rw [u.2 157 _ (Or.inl (by decide)), u.2 159 _ (Or.inl (by decide))] at q
  rw [u.2 106 2 (Or.inl (by decide))]
  refine ⟨(h s a b q).1, ?_⟩
  by_cases e : (s / 20).toNat = k
  · rw [e, u.1]; exact hz
  · rw [u.2 112 _ (Or.inr e)]; exact (h s a b q).2
theorem EP.grow {z o : Int} (h : EP μ) (q : μ 106 2 = o) (u : mU μ 106 2 z μ1) (hz : o ≤ z) : EP μ1 := fun s a b k => by
  rw [u.2 157 _ (Or.inl (by decide)), u.2 159 _ (Or.inl (by decide))] at k
  rw [u.1, u.2 112 _ (Or.inl (by decide))]
  have := h s a b k
  exact ⟨by omega, this.2⟩
theorem EP.at {s n t v : Int} (h : EP μ) (h0 : 0 ≤ s ∧ s ≤ 399) (hv : 0 ≤ μ 157 s.toNat ∨ 0 ≤ μ 159 s.toNat) (q : μ 106 2 = n) (ht : s / 20 = t) (qt : μ 112 t.toNat = v) : s % 10 < n ∧ ¬ v = 0 := by
  have := h s h0.1 h0.2 hv
  rw [ht, qt, q] at this; exact this
theorem EP.ev {e s n t v : Int} (h : EP μ) (he : 0 ≤ e ∧ e ≤ 799) (hv : 0 ≤ evF μ e) (hs : e % 400 = s) (q : μ 106 2 = n) (ht : s / 20 = t) (qt : μ 112 t.toNat = v) : s % 10 < n ∧ ¬ v = 0 := by
  refine EP.at h ⟨by omega, by omega⟩ ?_ q ht qt
  by_cases hl : e < 400
  · rw [evF, if_pos hl] at hv
    rw [show s = e by omega]; exact Or.inl hv
  · rw [evF, if_neg hl] at hv
    rw [show s = e - 400 by omega]; exact Or.inr hv
/-! what was heard: from ties that are up, of prefixes that are there -/
def HP (μ : mM) : Prop := ∀ s : Int, 0 ≤ s → s ≤ 399 → 0 ≤ μ 126 (40 * (130 + s)).toNat → s < 20 * μ 106 6 ∧ s % 10 < μ 106 2 ∧ ¬ μ 112 (s / 20).toNat = 0
def hpF (lf : List Nat) : Bool := !(lf.elem 106002) && (!(lf.elem 106006) && !(lf.elem 112999))
theorem HP.keep {lf : List Nat} {rs : List (Int × Int)} (h : HP μ) (hw : mWF w) (F : mF lf w μ μ1) (hl : hpF lf = true) (G : mG rs μ μ1) (hr : ∀ r ∈ rs, r.2 ≤ 5200 ∨ 21200 ≤ r.1) : HP μ1 := by
  simp only [hpF, Bool.and_eq_true, Bool.not_eq_true'] at hl
  intro s a b q
  have e3 : ∀ i, μ1 112 i = μ 112 i := fun i => F.f (A_112 hw) hl.2.2 rfl
  rw [G _ fun r hr' => by have := hr r hr'; omega] at q
  rw [e3, F106 hw F (i := 2) hl.1, F106 hw F (i := 6) hl.2.1]; exact h s a b q
theorem HP.row {lf : List Nat} {rs : List (Int × Int)} {e n m t v : Int} (h : HP μ) (hw : mWF w) (F : mF lf w μ μ1) (hl : hpF lf = true) (G : mG rs μ μ1) (hr : ∀ r ∈ rs, 40 * (130 + e) ≤ r.1 ∧ r.2 ≤ 40 * (130 + e) + 40) (q6 : μ 106 6 = n) (h6 : e < 20 * n) (q2 : μ 106 2 = m) (h2 : e % 10 < m) (ht : e / 20 = t) (qt : μ 112 t.toNat = v) (hv : ¬ v = 0) : HP μ1 := by
  simp only [hpF, Bool.and_eq_true, Bool.not_eq_true'] at hl
  intro s a b q
  have e3 : ∀ i, μ1 112 i = μ 112 i := fun i => F.f (A_112 hw) hl.2.2 rfl
  rw [e3, F106 hw F (i := 2) hl.1, F106 hw F (i := 6) hl.2.1]
  by_cases e1 : s = e
  · rw [e1, q6, q2, ht, qt]; exact ⟨h6, h2, hv⟩
  · rw [G _ fun r hr' => by have := hr r hr'; omega] at q
    exact h s a b q
theorem HP.tie {k : Nat} {z : Int} (h : HP μ) (u : mU μ 112 k z μ1) (hz : ¬ z = 0) : HP μ1 := fun s a b q => by
  rw [u.2 126 _ (Or.inl (by decide))] at q
  rw [u.2 106 2 (Or.inl (by decide)), u.2 106 6 (Or.inl (by decide))]
  refine ⟨(h s a b q).1, (h s a b q).2.1, ?_⟩
  by_cases e : (s / 20).toNat = k
  · rw [e, u.1]; exact hz
  · rw [u.2 112 _ (Or.inr e)]; exact (h s a b q).2.2
theorem HP.grow2 {z o : Int} (h : HP μ) (q : μ 106 2 = o) (u : mU μ 106 2 z μ1) (hz : o ≤ z) : HP μ1 := fun s a b k => by
  rw [u.2 126 _ (Or.inl (by decide))] at k
  rw [u.1, u.2 112 _ (Or.inl (by decide)), u.2 106 6 (Or.inr (by decide))]
  have := h s a b k
  exact ⟨this.1, by omega, this.2.2⟩
theorem HP.grow6 {z o : Int} (h : HP μ) (q : μ 106 6 = o) (u : mU μ 106 6 z μ1) (hz : o ≤ z) : HP μ1 := fun s a b k => by
  rw [u.2 126 _ (Or.inl (by decide))] at k
  rw [u.1, u.2 112 _ (Or.inl (by decide)), u.2 106 2 (Or.inr (by decide))]
  have := h s a b k
  exact ⟨by omega, this.2.1, this.2.2⟩
/-! ends of ties, prefixes of rights -/
def TE (μ : mM) : Prop := ∀ i : Nat, (i : Int) < 2 * μ 106 6 → μ 110 i < μ 106 5
def RR (μ : mM) : Prop := ∀ r : Nat, (r : Int) < μ 106 18 → μ 119 r < μ 106 2
theorem TE.keep {lf : List Nat} (h : TE μ) (hw : mWF w) (F : mF lf w μ μ1) (h1 : lf.elem 106005 = false) (h2 : lf.elem 106006 = false) (h3 : lf.elem 110999 = false) : TE μ1 := fun i a => by
  rw [F106 hw F h2] at a
  rw [F106 hw F h1, show μ1 110 i = μ 110 i from F.f (A_110 hw) h3 rfl]; exact h i a
theorem RR.keep {lf : List Nat} (h : RR μ) (hw : mWF w) (F : mF lf w μ μ1) (h1 : lf.elem 106002 = false) (h2 : lf.elem 106018 = false) (h3 : lf.elem 119999 = false) : RR μ1 := fun i a => by
  rw [F106 hw F h2] at a
  rw [F106 hw F h1, show μ1 119 i = μ 119 i from F.f (A_119 hw) h3 rfl]; exact h i a
def RRn (μ : mM) (n : Int) : Prop := ∀ r : Nat, (r : Int) < n → μ 119 r < μ 106 2
theorem RRn.put {e z n m : Int} (h : RR μ) (u : mU μ 119 e.toNat z μ1) (qn : μ1 106 18 = n) (he : e = n ∧ 0 ≤ e) (qm : μ1 106 2 = m) (hz : z < m) : RRn μ1 (n + 1) := fun r a => by
  by_cases k : r = e.toNat
  · rw [k, u.1, qm]; exact hz
  · rw [u.2 119 r (Or.inr k), u.2 106 2 (Or.inl (by decide))]
    exact h r (by rw [← u.2 106 18 (Or.inl (by decide)), qn]; omega)
theorem RRn.fin {lf : List Nat} {n : Int} (h : RRn μ n) (hw : mWF w) (F : mF lf w μ μ1) (h1 : lf.elem 106002 = false) (h3 : lf.elem 119999 = false) (hn : μ1 106 18 ≤ n) : RR μ1 := fun i a => by
  rw [F106 hw F h1, show μ1 119 i = μ 119 i from F.f (A_119 hw) h3 rfl]; exact h i (by omega)
/-! nothing picked, no candidate -/
theorem SC.frR {lf : List Nat} {rs : List (Int × Int)} {d t p : Int} (hw : mWF w) (F : mF lf w μ μ1) (h : (SCr.all fun r => !lf.elem r) = true) (G : mG rs μ μ1) (hr : ∀ r ∈ rs, r.2 ≤ 40 * rwOf μ d t p ∨ 40 * rwOf μ d t p + 40 ≤ r.1) : agr (SC μ d t p) μ μ1 := fun a i s => by
  rcases s with ⟨rfl, s1, s2⟩ | ⟨rfl, -⟩ | ⟨rfl, -⟩ | ⟨rfl, -⟩ | ⟨rfl, -⟩ | ⟨s, -⟩ | ⟨s, -⟩ | ⟨s, -⟩ | ⟨s, -⟩ | ⟨rfl, rfl⟩ | s
  · exact G i fun r hr' => by have := hr r hr'; omega
  · exact F.arr hw h (by omega)
  · exact F.arr hw h (by omega)
  · exact F.arr hw h (by omega)
  · exact F.arr hw h (by omega)
  · exact F.arr hw h (by omega)
  · exact F.arr hw h (by omega)
  · exact F.arr hw h (by omega)
  · exact F.arr hw h (by omega)
  · refine F 106 17 ?_
    simp only [mRg, (A_106 hw).1]; exact SCr.no h (by decide)
  · exact SJ.fr hw F h a i s
theorem SC.up {a k : Nat} {z d t p : Int} (u : mU μ a k z μ1) (h : ¬ SC μ d t p a k) : agr (SC μ d t p) μ μ1 := fun b i s => by
  refine u.2 b i ?_
  by_cases e : b = a
  · right; intro e'; rw [e, e'] at s; exact h s
  · exact Or.inl e
def UPg (l : Launch) (D : va_G) (c : Nat → ClassId) (H0 : Heap) (sa : Nat × Nat × (Nat → Int32)) (μ : mM) (E : Int → Int → Prop) : Prop := ∀ d p : Int, 0 ≤ d → d < μ 106 5 → 0 ≤ p → p < μ 106 2 → ¬ E d p → μ 161 (10 * d + p).toNat = -99999999 → NA l D c H0 sa μ d p
def UP (l : Launch) (D : va_G) (c : Nat → ClassId) (H0 : Heap) (sa : Nat × Nat × (Nat → Int32)) (μ : mM) : Prop := UPg l D c H0 sa μ fun _ _ => False
theorem UP.weak {E : Int → Int → Prop} (h : UP l D c H0 sa μ) : UPg l D c H0 sa μ E := fun d p a b x y _ q => h d p a b x y id q
theorem mD {w : mW} {μ : mM} (hw : mWF w) (hT : mT w μ) : (0 ≤ μ 106 2 ∧ μ 106 2 ≤ 10) ∧ (0 ≤ μ 106 5 ∧ μ 106 5 ≤ 10) ∧ (0 ≤ μ 106 6 ∧ μ 106 6 ≤ 20) := ⟨hT 106 106 (A_106 hw) 2, hT 106 106 (A_106 hw) 5, hT 106 106 (A_106 hw) 6⟩
def upF (lf : List Nat) : Bool := !(lf.elem 106002) && (!(lf.elem 106005) && !(lf.elem 161999))
theorem NA.frB {lf : List Nat} {rs : List (Int × Int)} {d p : Int} (h : NA l D c H0 sa μ d p) (hp : 0 ≤ p ∧ p ≤ 9) (hw : mWF w) (h20 : μ 106 6 ≤ 20) (F : mF lf w μ μ1) (hl : (SCr.all fun r => !lf.elem r) = true) (h6 : lf.elem 106006 = false) (h39 : lf.elem 106039 = false) (G : mG rs μ μ1) (hr : ∀ r ∈ rs, r.2 ≤ 5200 ∨ 21200 ≤ r.1) : NA l D c H0 sa μ1 d p := fun t a b q => by
  have e1 : ∀ i, μ1 110 i = μ 110 i := fun i => F.arr hw hl (by omega)
  rw [e1, e1] at q
  rw [F106 hw F h6] at b
  exact (h t a b q).keep a hp.1 (SC.fr hw F hl G hr ⟨a, by omega⟩ hp) (Int.le_of_eq (F106 hw F h39).symm)
theorem UPg.fr {lf : List Nat} {rs : List (Int × Int)} {E : Int → Int → Prop} (h : UPg l D c H0 sa μ E) (hw : mWF w) (hT : mT w μ1) (hu : upF lf = true) (F : mF lf w μ μ1) (hl : (SCr.all fun r => !lf.elem r) = true) (h6 : lf.elem 106006 = false) (h39 : lf.elem 106039 = false) (G : mG rs μ μ1) (hr : ∀ r ∈ rs, r.2 ≤ 5200 ∨ 21200 ≤ r.1) : UPg l D c H0 sa μ1 E := by
  simp only [upF, Bool.and_eq_true, Bool.not_eq_true'] at hu
  intro d p a b x y e q
  rw [F106 hw F hu.2.1] at b
  rw [F106 hw F hu.1] at y
  rw [show μ1 161 (10 * d + p).toNat = μ 161 (10 * d + p).toNat from F.f (A_161 hw) hu.2.2 rfl] at q
  have hm := mD hw hT
  rw [F106 hw F (i := 6) h6, F106 hw F (i := 2) hu.1] at hm
  exact (h d p a b x y e q).frB ⟨x, by omega⟩ hw (by omega) F hl h6 h39 G hr
theorem UPg.look {lf : List Nat} {rs : List (Int × Int)} {E : Int → Int → Prop} {d p : Int} (h : UPg l D c H0 sa μ E) (hE : ∀ d' p', E d' p' → d' = d ∧ p' = p) (hd : 0 ≤ d ∧ d ≤ 9) (hp : 0 ≤ p ∧ p ≤ 9) (hw : mWF w) (hT : mT w μ) (h2 : lf.elem 106002 = false) (h5 : lf.elem 106005 = false) (F : mF lf w μ μ1) (hl : (SCr.all fun r => !lf.elem r) = true) (h6 : lf.elem 106006 = false) (h39 : lf.elem 106039 = false) (G : mG rs μ μ1) (hr : ∀ r ∈ rs, r.2 ≤ 5200 ∨ 21200 ≤ r.1) (pt : PT μ μ1 (10 * d + p).toNat) (na : μ1 161 (10 * d + p).toNat = -99999999 → NA l D c H0 sa μ1 d p) : UP l D c H0 sa μ1 := fun d' p' a b x y _ q => by
  have hm := mD hw hT
  rw [F106 hw F h5] at b
  rw [F106 hw F h2] at y
  by_cases e : d' = d ∧ p' = p
  · rw [e.1, e.2] at q ⊢; exact na q
  · rw [pt _ (by omega)] at q
    exact (h d' p' a b x y (fun k => e (hE _ _ k)) q).fr ⟨x, by omega⟩ hw hT F hl h6 h39 G hr
theorem UPg.lookAll {lf : List Nat} {rs : List (Int × Int)} {E : Int → Int → Prop} {d n : Int} (h : UPg l D c H0 sa μ E) (hE : ∀ d' p', E d' p' → d' = d) (hd : 0 ≤ d ∧ d ≤ 9) (qn : μ 106 2 = n) (hw : mWF w) (hT : mT w μ) (h2 : lf.elem 106002 = false) (h5 : lf.elem 106005 = false) (F : mF lf w μ μ1) (hl : (SCr.all fun r => !lf.elem r) = true) (h6 : lf.elem 106006 = false) (h39 : lf.elem 106039 = false) (G : mG rs μ μ1) (hr : ∀ r ∈ rs, r.2 ≤ 5200 ∨ 21200 ≤ r.1) (pd : PD μ μ1 d) (up : UPd l D c H0 sa μ1 d n) : UP l D c H0 sa μ1 := fun d' p' a b x y _ q => by
  have hm := mD hw hT
  rw [F106 hw F h5] at b
  rw [F106 hw F h2] at y
  by_cases e : d' = d
  · rw [e] at q ⊢; exact up p' x (by omega) q
  · rw [pd _ (by omega)] at q
    exact (h d' p' a b x y (fun k => e (hE _ _ k)) q).fr ⟨x, by omega⟩ hw hT F hl h6 h39 G hr
/-- for the domains below n -/
def UPn (l : Launch) (D : va_G) (c : Nat → ClassId) (H0 : Heap) (sa : Nat × Nat × (Nat → Int32)) (μ : mM) (n m : Int) : Prop := ∀ d : Int, 0 ≤ d → d < n → UPd l D c H0 sa μ d m
theorem UPn.zero {m : Int} : UPn l D c H0 sa μ 0 m := fun d a b => by omega
theorem UPn.step {lf : List Nat} {rs : List (Int × Int)} {d n : Int} (h : UPn l D c H0 sa μ d n) (hn : n ≤ 10) (hd : 0 ≤ d) (hw : mWF w) (hT : mT w μ) (F : mF lf w μ μ1) (hl : (SCr.all fun r => !lf.elem r) = true) (h6 : lf.elem 106006 = false) (h39 : lf.elem 106039 = false) (G : mG rs μ μ1) (hr : ∀ r ∈ rs, r.2 ≤ 5200 ∨ 21200 ≤ r.1) (pd : PD μ μ1 d) (up : UPd l D c H0 sa μ1 d n) : UPn l D c H0 sa μ1 (d + 1) n := fun d' a b p x y q => by
  by_cases e : d' = d
  · rw [e] at q ⊢; exact up p x y q
  · rw [pd _ (by omega)] at q
    exact (h d' a (by omega) p x y q).fr ⟨x, by omega⟩ hw hT F hl h6 h39 G hr
theorem UPn.up {d n : Int} (h : UPn l D c H0 sa μ d n) (hd : μ 106 5 ≤ d) (hn : μ 106 2 ≤ n) : UP l D c H0 sa μ := fun d' p a b x y _ q => h d' a (by omega) p x (by omega) q
/-- a row of what was heard changes -/
theorem UP.hear {lf : List Nat} {rs : List (Int × Int)} {t sd p s : Int} (h : UP l D c H0 sa μ) (hw : mWF w) (hT : mT w μ) (hu : upF lf = true) (F : mF lf w μ μ1) (hl : (SCr.all fun r => !lf.elem r) = true) (h6 : lf.elem 106006 = false) (h39 : lf.elem 106039 = false) (G : mG rs μ μ1) (hr : ∀ r ∈ rs, 40 * (130 + s) ≤ r.1 ∧ r.2 ≤ 40 * (130 + s) + 40) (hs : s = (2 * t + sd) * 10 + p) (ht : 0 ≤ t) (hp : 0 ≤ p ∧ p ≤ 9) (hsd : sd = 0 ∨ sd = 1) : UPg l D c H0 sa μ1 fun d' p' => d' = μ 110 (2 * t + sd).toNat ∧ p' = p := by
  simp only [upF, Bool.and_eq_true, Bool.not_eq_true'] at hu
  intro d' p' a b x y ne q t' ta tb tq
  have hm := mD hw hT
  rw [F106 hw F hu.2.1] at b
  rw [F106 hw F hu.1] at y
  rw [show μ1 161 (10 * d' + p').toNat = μ 161 (10 * d' + p').toNat from F.f (A_161 hw) hu.2.2 rfl] at q
  rw [F106 hw F h6] at tb
  have e1 : ∀ i, μ1 110 i = μ 110 i := fun i => F.arr hw hl (by omega)
  rw [e1, e1] at tq
  refine (h d' p' a b x y id q t' ta tb tq).keep ta x (SC.frR hw F hl G fun r hr' => ?_) (Int.le_of_eq (F106 hw F h39).symm)
  have k := hr r hr'
  have ns : ¬ rwOf μ d' t' p' = 130 + s := by
    intro ee
    unfold rwOf sdOf at ee
    split at ee
    · rename_i e0
      have e2 : t' = t ∧ sd = 0 ∧ p' = p := by omega
      obtain ⟨rfl, rfl, rfl⟩ := e2
      exact ne ⟨by rw [show 2 * t' + 0 = 2 * t' by omega]; exact e0.symm, rfl⟩
    · rename_i e0
      have e2 : t' = t ∧ sd = 1 ∧ p' = p := by omega
      obtain ⟨rfl, rfl, rfl⟩ := e2
      exact ne ⟨(tq.resolve_left e0).symm, rfl⟩
  omega
/-- a tie's policy changes -/
theorem UP.use {e z t sd way d : Int} (h : UP l D c H0 sa μ) (u : mU μ 115 e.toNat z μ1) (he : e = 4 * t + 2 * sd + way) (ht : 0 ≤ t) (hsd : sd = 0 ∨ sd = 1) (hway : way = 0 ∨ way = 1) (qd' : μ1 110 (2 * t + sd).toNat = d) : UPg l D c H0 sa μ1 fun d' _ => way = 0 ∧ d' = d := by
  have qd : μ 110 (2 * t + sd).toNat = d := (u.2 110 _ (Or.inl (by decide))).symm.trans qd'
  intro d' p' a b x y ne q t' ta tb tq
  rw [u.2 106 _ (Or.inl (by decide))] at b y tb
  rw [u.2 161 _ (Or.inl (by decide))] at q
  rw [u.2 110 _ (Or.inl (by decide)), u.2 110 _ (Or.inl (by decide))] at tq
  refine (h d' p' a b x y id q t' ta tb tq).keep ta x (SC.up u ?_) (Int.le_of_eq (u.2 106 39 (Or.inl (by decide))).symm)
  intro k
  have hh : e.toNat = (4 * t' + 2 * sdOf μ d' t').toNat := by
    rcases k with ⟨k, -⟩ | ⟨k, -⟩ | ⟨k, -⟩ | ⟨k, -⟩ | ⟨-, k⟩ | ⟨k, -⟩ | ⟨k, -⟩ | ⟨k, -⟩ | ⟨k, -⟩ | ⟨k, -⟩ | ⟨k, -⟩ | ⟨k, k', -⟩ | ⟨k, -⟩
    all_goals first | exact k | omega
  unfold sdOf at hh
  split at hh
  · rename_i e0
    have e2 : t' = t ∧ sd = 0 ∧ way = 0 := by omega
    obtain ⟨rfl, rfl, rfl⟩ := e2
    exact ne ⟨rfl, by rw [show 2 * t' + 0 = 2 * t' by omega] at qd; rw [← e0, qd]⟩
  · rename_i e0
    have e2 : t' = t ∧ sd = 1 ∧ way = 0 := by omega
    obtain ⟨rfl, rfl, rfl⟩ := e2
    exact ne ⟨rfl, by rw [← qd]; exact (tq.resolve_left e0).symm⟩
theorem UPg.none {E : Int → Int → Prop} (h : UPg l D c H0 sa μ E) (hE : ∀ d p, ¬ E d p) : UP l D c H0 sa μ := fun d p a b x y _ q => h d p a b x y (hE d p) q
/-! but for one tie -/
def UPx (l : Launch) (D : va_G) (c : Nat → ClassId) (H0 : Heap) (sa : Nat × Nat × (Nat → Int32)) (μ : mM) (t : Int) : Prop := ∀ d p : Int, 0 ≤ d → d < μ 106 5 → 0 ≤ p → p < μ 106 2 → μ 161 (10 * d + p).toNat = -99999999 → ∀ t' : Int, 0 ≤ t' → t' < μ 106 6 → ¬ t' = t → (μ 110 (2 * t').toNat = d ∨ μ 110 (2 * t' + 1).toNat = d) → NZ l D c H0 sa μ d t' p
theorem UP.x {t : Int} (h : UP l D c H0 sa μ) : UPx l D c H0 sa μ t := fun d p a b x y q t' ta tb _ tq => h d p a b x y id q t' ta tb tq
theorem UPx.tie {t z : Int} (h : UPx l D c H0 sa μ t) (u : mU μ 112 t.toNat z μ1) (ht : 0 ≤ t) : UPx l D c H0 sa μ1 t := fun d p a b x y q t' ta tb tn tq => by
  rw [u.2 106 _ (Or.inl (by decide))] at b y tb
  rw [u.2 161 _ (Or.inl (by decide))] at q
  rw [u.2 110 _ (Or.inl (by decide)), u.2 110 _ (Or.inl (by decide))] at tq
  refine (h d p a b x y q t' ta tb tn tq).keep ta x (SC.up u ?_) (Int.le_of_eq (u.2 106 39 (Or.inl (by decide))).symm)
  intro k
  rcases k with ⟨k, -⟩ | ⟨k, -⟩ | ⟨k, -⟩ | ⟨-, k⟩ | ⟨k, -⟩ | ⟨k, -⟩ | ⟨k, -⟩ | ⟨k, -⟩ | ⟨k, -⟩ | ⟨k, -⟩ | ⟨k, -⟩ | ⟨k, k', -⟩ | ⟨k, -⟩ <;> omega
theorem UPx.fr {lf : List Nat} {rs : List (Int × Int)} {t : Int} (h : UPx l D c H0 sa μ t) (hw : mWF w) (hT : mT w μ1) (ht : 0 ≤ t) (hu : upF lf = true) (F : mF lf w μ μ1) (hl : (SCr.all fun r => !lf.elem r) = true) (h6 : lf.elem 106006 = false) (h39 : lf.elem 106039 = false) (G : mG rs μ μ1) (hr : ∀ r ∈ rs, r.2 ≤ 5200 ∨ 21200 ≤ r.1 ∨ (40 * (130 + 20 * t) ≤ r.1 ∧ r.2 ≤ 40 * (130 + 20 * t) + 800)) : UPx l D c H0 sa μ1 t := by
  simp only [upF, Bool.and_eq_true, Bool.not_eq_true'] at hu
  intro d p a b x y q t' ta tb tn tq
  have hm := mD hw hT
  rw [F106 hw F (i := 6) h6, F106 hw F (i := 2) hu.1] at hm
  rw [F106 hw F hu.2.1] at b
  rw [F106 hw F hu.1] at y
  rw [show μ1 161 (10 * d + p).toNat = μ 161 (10 * d + p).toNat from F.f (A_161 hw) hu.2.2 rfl] at q
  rw [F106 hw F h6] at tb
  have e1 : ∀ i, μ1 110 i = μ 110 i := fun i => F.arr hw hl (by omega)
  rw [e1, e1] at tq
  refine (h d p a b x y q t' ta tb tn tq).keep ta x (SC.frR hw F hl G fun r hr' => ?_) (Int.le_of_eq (F106 hw F h39).symm)
  have k := hr r hr'
  have s0 : 0 ≤ sdOf μ d t' ∧ sdOf μ d t' ≤ 1 := by unfold sdOf; split <;> decide
  unfold rwOf
  omega
theorem UPx.all {t : Int} (h : UPx l D c H0 sa μ t) (hw : mWF w) (hT : mT w μ) (hI : PK μ) (hn : ∀ s : Int, 20 * t ≤ s → s < 20 * t + 20 → μ 126 (40 * (130 + s)).toNat < 0) : UP l D c H0 sa μ := fun d p a b x y _ q t' ta tb tq => by
  have hm := mD hw hT
  by_cases e : t' = t
  · have s0 : 0 ≤ sdOf μ d t' ∧ sdOf μ d t' ≤ 1 := by unfold sdOf; split <;> decide
    refine NZ.nothing hw hT ⟨a, by omega⟩ ⟨ta, tb⟩ ⟨x, by omega⟩ tq hI ?_
    unfold xOf rwOf
    exact hn _ (by omega) (by omega)
  · exact h d p a b x y q t' ta tb e tq
/-! a tie falls -/
def RD (μ : mM) (t n : Int) : Prop := (∀ s : Int, 0 ≤ s → s ≤ 399 → ¬ s / 20 = t → (0 ≤ μ 157 s.toNat ∨ 0 ≤ μ 159 s.toNat → s % 10 < μ 106 2 ∧ ¬ μ 112 (s / 20).toNat = 0) ∧ (0 ≤ μ 126 (40 * (130 + s)).toNat → s < 20 * μ 106 6 ∧ s % 10 < μ 106 2 ∧ ¬ μ 112 (s / 20).toNat = 0)) ∧ ∀ s : Int, 20 * t ≤ s → s < n → μ 157 s.toNat < 0 ∧ μ 159 s.toNat < 0 ∧ μ 126 (40 * (130 + s)).toNat < 0
theorem RD.begin {t z : Int} (h : EP μ) (k : HP μ) (ht : 0 ≤ t) (u : mU μ 112 t.toNat z μ1) : RD μ1 t (20 * t) := by
  refine ⟨fun s a b n => ?_, fun s a b => by omega⟩
  rw [u.2 157 _ (Or.inl (by decide)), u.2 159 _ (Or.inl (by decide)), u.2 126 _ (Or.inl (by decide)), u.2 106 2 (Or.inl (by decide)), u.2 106 6 (Or.inl (by decide)), u.2 112 _ (Or.inr (by omega))]
  exact ⟨h s a b, k s a b⟩
def one (μ μ1 : mM) (a : Nat) (k : Int) : Prop := ∀ j : Nat, ¬ (j : Int) = k → μ1 a j = μ a j
theorem one.refl {a : Nat} {k : Int} : one μ μ a k := fun _ _ => rfl
theorem one.up {μ2 : mM} {a : Nat} {k z : Int} (h : one μ μ1 a k) (h0 : 0 ≤ k) (u : mU μ1 a k.toNat z μ2) : one μ μ2 a k := fun j q => (u.2 a j (Or.inr (by omega))).trans (h j q)
theorem one.oth {μ2 : mM} {a b i : Nat} {k z : Int} (h : one μ μ1 a k) (u : mU μ1 b i z μ2) (hb : Nat.beq a b = false) : one μ μ2 a k := fun j q => (u.2 a j (Or.inl (fun e => by rw [e, Nat.beq_refl] at hb; cases hb))).trans (h j q)
theorem one.fr {μ2 : mM} {lf : List Nat} {a : Nat} {k : Int} (h : one μ μ1 a k) (F : mF lf w μ1 μ2) (hA : mAt w a a) (hl : lf.elem (1000 * a + 999) = false) (hm : mArr a = true) : one μ μ2 a k := fun j q => by
  refine (F a j ?_).trans (h j q)
  unfold mRg; rw [hA.1, hm]; exact hl
theorem RD.eq {t n m : Int} (h : RD μ t n) (e : n = m) : RD μ t m := by rw [← e]; exact h
theorem RD.step {lf : List Nat} {rs : List (Int × Int)} {t n x y v : Int} (h : RD μ t n) (hw : mWF w) (F : mF lf w μ μ1) (hl : hpF lf = true) (h0 : 0 ≤ t ∧ t ≤ 19) (hn : 20 * t ≤ n ∧ n < 20 * t + 20) (G : mG rs μ μ1) (hr : ∀ r ∈ rs, r.2 ≤ 5200 ∨ 21200 ≤ r.1 ∨ (40 * (130 + n) ≤ r.1 ∧ r.2 ≤ 40 * (130 + n) + 40)) (o1 : one μ μ1 157 n) (o2 : one μ μ1 159 n) (q1 : μ1 157 n.toNat = x) (hx : x < 0) (q2 : μ1 159 n.toNat = y) (hy : y < 0) (q3 : μ1 126 (40 * (130 + n)).toNat = v) (hv : v < 0) : RD μ1 t (n + 1) := by
  simp only [hpF, Bool.and_eq_true, Bool.not_eq_true'] at hl
  have e3 : ∀ i, μ1 112 i = μ 112 i := fun i => F.f (A_112 hw) hl.2.2 rfl
  refine ⟨fun s a b ne => ?_, fun s a b => ?_⟩
  · rw [o1 _ (by omega), o2 _ (by omega), G _ fun r hr' => by have := hr r hr'; omega, F106 hw F hl.1, F106 hw F hl.2.1, e3]
    exact h.1 s a b ne
  · by_cases e : s = n
    · rw [e, q1, q2, q3]; exact ⟨hx, hy, hv⟩
    · rw [o1 _ (by omega), o2 _ (by omega), G _ fun r hr' => by have := hr r hr'; omega]
      exact h.2 s a (by omega)
theorem RD.ep {t n : Int} (h : RD μ t n) (hn : 20 * t + 20 ≤ n) : EP μ := fun s a b q => by
  by_cases e : s / 20 = t
  · have := h.2 s (by omega) (by omega)
    omega
  · exact (h.1 s a b e).1 q
theorem RD.hp {t n : Int} (h : RD μ t n) (hn : 20 * t + 20 ≤ n) : HP μ := fun s a b q => by
  by_cases e : s / 20 = t
  · have := h.2 s (by omega) (by omega)
    omega
  · exact (h.1 s a b e).2 q
theorem RD.no {t n : Int} (h : RD μ t n) (hn : 20 * t + 20 ≤ n) : ∀ s : Int, 20 * t ≤ s → s < 20 * t + 20 → μ 126 (40 * (130 + s)).toNat < 0 := fun s a b => (h.2 s a (by omega)).2.2
/-- a tie that is down comes up: nothing was heard of it -/
theorem UP.rise {t z : Int} (h : UP l D c H0 sa μ) (k : HP μ) (hw : mWF w) (hT1 : mT w μ1) (hI : PK μ1) (ht : 0 ≤ t ∧ t ≤ 19) (u : mU μ 112 t.toNat z μ1) (hz : μ 112 t.toNat = 0 ∨ μ 112 t.toNat = z) : UP l D c H0 sa μ1 := by
  rcases hz with q | q
  · refine (h.x.tie u ht.1).all hw hT1 hI fun s a b => ?_
    rw [u.2 126 _ (Or.inl (by decide))]
    refine Int.not_le.mp fun x => ?_
    have := (k s (by omega) (by omega) x).2.2
    rw [show s / 20 = t by omega] at this
    exact this q
  · rw [u.same q]; exact h
/-! a new prefix -/
section PXS
variable {μa μb μc : mM} {n x y z : Int}
theorem PX.jc (h : JC l D c H0 sa μ) (rr : RR μ) (hw : mWF w) (hT : mT w μ) (q : μ 106 2 = n) (u1 : mU μ 108 n.toNat x μa) (u2 : mU μa 109 n.toNat y μb) (u3 : mU μb 106 2 z μc) (hz : n ≤ z) : JC l D c H0 sa μc := by
  have hn : 0 ≤ n := by rw [← q]; exact (mD hw hT).1.1
  have e : ∀ a i : Nat, ¬ (a = 106 ∧ i = 2) → ¬ (a = 108 ∧ i = n.toNat) → ¬ (a = 109 ∧ i = n.toNat) → μc a i = μ a i := fun a i k1 k2 k3 => by
    rw [u3.2 a i (by omega), u2.2 a i (by omega), u1.2 a i (by omega)]
  refine h.of (by rw [u3.1, q]; exact hz) (fun i _ _ => e 106 i (by omega) (by omega) (by omega)) fun p0 p1 a i s => ?_
  rcases s with ⟨rfl, rfl⟩ | ⟨s1, s2, -⟩ | ⟨s1, s2 | ⟨r, r0, r1, s2⟩⟩
  · exact e _ _ (by omega) (by omega) (by omega)
  · exact e _ _ (by omega) (by omega) (by omega)
  · exact e _ _ (by omega) (by omega) (by omega)
  · have h1 := rr r.toNat (by omega)
    have h2 : 0 ≤ μ 119 r.toNat := (hT 119 119 (A_119 hw) r.toNat).1
    exact e _ _ (by omega) (by omega) (by omega)
theorem PX.up (h : UP l D c H0 sa μ) (hp : HP μ) (rp : RP μ) (rr : RR μ) (hw : mWF w) (hT : mT w μ) (hTc : mT w μc) (pk : PK μc) (q : μ 106 2 = n) (u1 : mU μ 108 n.toNat x μa) (u2 : mU μa 109 n.toNat y μb) (u3 : mU μb 106 2 z μc) (hz : z = n + 1) : UP l D c H0 sa μc := fun d p a b x' y' _ k t ta tb tq => by
  have hm := mD hw hT
  have hmc := mD hw hTc
  have e : ∀ a i : Nat, ¬ (a = 106 ∧ i = 2) → ¬ (a = 108 ∧ i = n.toNat) → ¬ (a = 109 ∧ i = n.toNat) → μc a i = μ a i := fun a i k1 k2 k3 => by
    rw [u3.2 a i (by omega), u2.2 a i (by omega), u1.2 a i (by omega)]
  have e' : ∀ a i : Nat, ¬ a = 106 → ¬ a = 108 → ¬ a = 109 → μc a i = μ a i := fun a i k1 k2 k3 => e a i (by omega) (by omega) (by omega)
  have e6 : μc 106 6 = μ 106 6 := e _ _ (by omega) (by omega) (by omega)
  have s0 : 0 ≤ sdOf μ d t ∧ sdOf μ d t ≤ 1 := by unfold sdOf; split <;> decide
  rw [e 106 5 (by omega) (by omega) (by omega)] at b
  have hz' : μc 106 2 = n + 1 := by rw [u3.1, hz]
  rw [hz'] at y' hmc
  rw [e' 161 _ (by decide) (by decide) (by decide)] at k
  by_cases hpn : p = n
  · refine NZ.nothing hw hTc ⟨a, by omega⟩ ⟨ta, tb⟩ ⟨x', by omega⟩ tq pk ?_
    have s1 : 0 ≤ sdOf μc d t ∧ sdOf μc d t ≤ 1 := by unfold sdOf; split <;> decide
    unfold xOf rwOf
    rw [e' 126 _ (by decide) (by decide) (by decide)]
    refine Int.not_le.mp fun g => ?_
    have := (hp ((2 * t + sdOf μc d t) * 10 + p) (by omega) (by omega) g).2.1
    omega
  · rw [e' 110 _ (by decide) (by decide) (by decide), e' 110 _ (by decide) (by decide) (by decide)] at tq
    rw [e6] at tb
    have hx : xOf μ d t p < n := by
      have := (rp (rwOf μ d t p) (by unfold rwOf; omega) (by unfold rwOf; omega)).2 (by unfold rwOf; omega)
      rw [q] at this; exact this
    refine (h d p a b x' (by omega) id k t ta tb tq).keep ta x' (fun a' i s => ?_) (Int.le_of_eq (e 106 39 (by omega) (by omega) (by omega)).symm)
    rcases s with ⟨rfl, -⟩ | ⟨rfl, -⟩ | ⟨rfl, -⟩ | ⟨rfl, -⟩ | ⟨rfl, -⟩ | ⟨s, -⟩ | ⟨s, -⟩ | ⟨s, -⟩ | ⟨s, -⟩ | ⟨rfl, rfl⟩ | ⟨rfl, rfl⟩ | ⟨s1, s2, -⟩ | ⟨s1, s2 | ⟨r, r0, r1, s2⟩⟩
    · exact e' _ _ (by decide) (by decide) (by decide)
    · exact e' _ _ (by decide) (by decide) (by decide)
    · exact e' _ _ (by decide) (by decide) (by decide)
    · exact e' _ _ (by decide) (by decide) (by decide)
    · exact e' _ _ (by decide) (by decide) (by decide)
    · exact e' _ _ (by omega) (by omega) (by omega)
    · exact e' _ _ (by omega) (by omega) (by omega)
    · exact e' _ _ (by omega) (by omega) (by omega)
    · exact e' _ _ (by omega) (by omega) (by omega)
    · exact e _ _ (by omega) (by omega) (by omega)
    · exact e _ _ (by omega) (by omega) (by omega)
    · exact e' _ _ (by omega) (by omega) (by omega)
    · exact e _ _ (by omega) (by omega) (by omega)
    · have h1 := rr r.toNat (by omega)
      have h2 : 0 ≤ μ 119 r.toNat := (hT 119 119 (A_119 hw) r.toNat).1
      exact e _ _ (by omega) (by omega) (by omega)
theorem RR.grow {o : Int} (h : RR μ) (q : μ 106 2 = o) (u : mU μ 106 2 z μ1) (hz : o ≤ z) : RR μ1 := fun r a => by
  rw [u.2 106 18 (Or.inr (by decide))] at a
  rw [u.1, u.2 119 _ (Or.inl (by decide))]
  have := h r a; omega
theorem RR.oth {a k : Nat} (h : RR μ) (u : mU μ a k z μ1) (ha : a = 108 ∨ a = 109) : RR μ1 := fun r b => by
  rw [u.2 106 18 (Or.inl (by omega))] at b
  rw [u.2 106 2 (Or.inl (by omega)), u.2 119 _ (Or.inl (by omega))]; exact h r b
end PXS
/-! a new tie -/
def TI (μ μ1 : mM) (t : Int) : Prop := ∀ a i : Nat, ¬ ((a = 110 ∧ 2 * t ≤ (i : Int)) ∨ (a = 111 ∧ t ≤ (i : Int)) ∨ (a = 112 ∧ t ≤ (i : Int)) ∨ a = 113 ∨ a = 114 ∨ (a = 115 ∧ 4 * t ≤ (i : Int))) → μ1 a i = μ a i
theorem TI.refl {t : Int} : TI μ μ t := fun _ _ _ => rfl
theorem TI.up {μ2 : mM} {a k : Nat} {z t : Int} (h : TI μ μ1 t) (u : mU μ1 a k z μ2) (hk : (a = 110 ∧ 2 * t ≤ (k : Int)) ∨ (a = 111 ∧ t ≤ (k : Int)) ∨ (a = 112 ∧ t ≤ (k : Int)) ∨ a = 113 ∨ a = 114 ∨ (a = 115 ∧ 4 * t ≤ (k : Int))) : TI μ μ2 t := fun b i n => by
  rw [u.2 b i (by omega)]; exact h b i n
section TIS
variable {μa : mM} {t z : Int}
theorem TI.hp (h : HP μ) (ti : TI μ μa t) (q : μ 106 6 = t) (u : mU μa 106 6 z μ1) (hz : z = t + 1) : HP μ1 := fun s a b k => by
  have e : ∀ a i : Nat, ¬ a = 106 → ¬ ((a = 110 ∧ 2 * t ≤ (i : Int)) ∨ (a = 111 ∧ t ≤ (i : Int)) ∨ (a = 112 ∧ t ≤ (i : Int)) ∨ a = 113 ∨ a = 114 ∨ (a = 115 ∧ 4 * t ≤ (i : Int))) → μ1 a i = μ a i := fun a i n m => by rw [u.2 a i (Or.inl n)]; exact ti a i m
  rw [e 126 _ (by decide) (by omega)] at k
  have g := h s a b k
  rw [q] at g
  rw [u.1, u.2 106 2 (Or.inr (by decide)), ti 106 2 (by omega), e 112 _ (by decide) (by omega)]
  exact ⟨by omega, g.2⟩
theorem TI.ep (h : EP μ) (ev : EV μ) (ti : TI μ μa t) (q : μ 106 6 = t) (u : mU μa 106 6 z μ1) : EP μ1 := fun s a b k => by
  have e : ∀ a i : Nat, ¬ a = 106 → ¬ ((a = 110 ∧ 2 * t ≤ (i : Int)) ∨ (a = 111 ∧ t ≤ (i : Int)) ∨ (a = 112 ∧ t ≤ (i : Int)) ∨ a = 113 ∨ a = 114 ∨ (a = 115 ∧ 4 * t ≤ (i : Int))) → μ1 a i = μ a i := fun a i n m => by rw [u.2 a i (Or.inl n)]; exact ti a i m
  rw [e 157 _ (by decide) (by omega), e 159 _ (by decide) (by omega)] at k
  have g := h s a b k
  have g2 := ev s.toNat (by omega) k
  rw [q] at g2
  rw [u.2 106 2 (Or.inr (by decide)), ti 106 2 (by omega), e 112 _ (by decide) (by omega)]
  exact g
theorem TI.te {x y n : Int} (h : TE μ) (ti : TI μ μa t) (q : μ 106 6 = t) (ht : 0 ≤ t) (u : mU μa 106 6 z μ1) (hz : z = t + 1) (q0 : μ1 110 (2 * t).toNat = x) (q1 : μ1 110 (2 * t + 1).toNat = y) (qn : μ1 106 5 = n) (hx : x < n ∧ y < n) : TE μ1 := fun i a => by
  rw [u.1, hz] at a
  by_cases e0 : (i : Int) = 2 * t
  · rw [show i = (2 * t).toNat by omega, q0, qn]; exact hx.1
  · by_cases e1 : (i : Int) = 2 * t + 1
    · rw [show i = (2 * t + 1).toNat by omega, q1, qn]; exact hx.2
    · rw [u.2 110 i (Or.inl (by decide)), ti 110 i (by omega), u.2 106 5 (Or.inr (by decide)), ti 106 5 (by omega)]
      exact h i (by rw [q]; omega)
theorem TI.upx (h : UP l D c H0 sa μ) (hp : HP μ) (ti : TI μ μa t) (hw : mWF w) (hT1 : mT w μ1) (pk : PK μ1) (q : μ 106 6 = t) (ht : 0 ≤ t) (u : mU μa 106 6 z μ1) (hz : z = t + 1) : UP l D c H0 sa μ1 := fun d p a b x y _ k t' ta tb tq => by
  have hm := mD hw hT1
  have e : ∀ a i : Nat, ¬ (a = 106 ∧ i = 6) → ¬ ((a = 110 ∧ 2 * t ≤ (i : Int)) ∨ (a = 111 ∧ t ≤ (i : Int)) ∨ (a = 112 ∧ t ≤ (i : Int)) ∨ a = 113 ∨ a = 114 ∨ (a = 115 ∧ 4 * t ≤ (i : Int))) → μ1 a i = μ a i := fun a i n m => by rw [u.2 a i (by omega)]; exact ti a i m
  by_cases e1 : t' = t
  · refine NZ.nothing hw hT1 ⟨a, by omega⟩ ⟨ta, tb⟩ ⟨x, by omega⟩ tq pk ?_
    have s1 : 0 ≤ sdOf μ1 d t' ∧ sdOf μ1 d t' ≤ 1 := by unfold sdOf; split <;> decide
    unfold xOf rwOf
    rw [e 126 _ (by omega) (by omega)]
    refine Int.not_le.mp fun g => ?_
    have := (hp ((2 * t' + sdOf μ1 d t') * 10 + p) (by omega) (by omega) g).1
    omega
  · rw [u.1, hz] at tb
    rw [e 110 _ (by omega) (by omega), e 110 _ (by omega) (by omega)] at tq
    rw [e 161 _ (by omega) (by omega)] at k
    rw [e 106 5 (by omega) (by omega)] at b
    rw [e 106 2 (by omega) (by omega)] at y
    have s0 : 0 ≤ sdOf μ d t' ∧ sdOf μ d t' ≤ 1 := by unfold sdOf; split <;> decide
    refine (h d p a b x y id k t' ta (by omega) tq).keep ta x (fun a' i s => ?_) (Int.le_of_eq (e 106 39 (by omega) (by omega)).symm)
    rcases s with ⟨rfl, -⟩ | ⟨rfl, s⟩ | ⟨rfl, s⟩ | ⟨rfl, s⟩ | ⟨rfl, s⟩ | ⟨s, -⟩ | ⟨s, -⟩ | ⟨s, -⟩ | ⟨s, -⟩ | ⟨rfl, rfl⟩ | ⟨rfl, rfl⟩ | ⟨s1, s2, -⟩ | ⟨s1, -⟩
    all_goals exact e _ _ (by omega) (by omega)
end TIS
/-- a new domain -/
theorem UP.dom (h : UP l D c H0 sa μ) (te : TE μ) (hw : mWF w) (hT1 : mT w μ1) (F : mF [106005] w μ μ1) (hd : μ 106 5 ≤ μ1 106 5) : UP l D c H0 sa μ1 := fun d p a b x y _ k => by
  have hm := mD hw hT1
  have e6 : μ1 106 6 = μ 106 6 := F106 hw F rfl
  rw [F106 hw F (i := 2) rfl] at y
  rw [show μ1 161 (10 * d + p).toNat = μ 161 (10 * d + p).toNat from F.f (A_161 hw) rfl rfl] at k
  by_cases e : d < μ 106 5
  · have e2 : μ1 106 2 = μ 106 2 := F106 hw F rfl
    exact (h d p a e x y id k).frB (rs := []) ⟨x, by omega⟩ hw (by omega) F rfl rfl rfl (fun i _ => F.f (A_126 hw) rfl rfl) (fun _ h => absurd h List.not_mem_nil)
  · intro t ta tb tq
    rw [e6] at tb
    have e1 : ∀ i, μ1 110 i = μ 110 i := fun i => F.f (A_110 hw) rfl rfl
    rw [e1, e1] at tq
    have g0 := te (2 * t).toNat (by omega)
    have g1 := te (2 * t + 1).toNat (by omega)
    omega
theorem TE.dom (te : TE μ) (hw : mWF w) (F : mF [106005] w μ μ1) (hd : μ 106 5 ≤ μ1 106 5) : TE μ1 := fun i a => by
  have e6 : μ1 106 6 = μ 106 6 := F106 hw F rfl
  rw [e6] at a
  rw [show μ1 110 i = μ 110 i from F.f (A_110 hw) rfl rfl]
  have := te i a; omega
/-- tables of policies: above those that are there -/
theorem UP.tab {a k : Nat} {z n : Int} (h : UP l D c H0 sa μ) (u : mU μ a k z μ1) (q : μ1 106 39 = n) (ha : 127 ≤ a ∧ a ≤ 150) (hk : ((a = 127 ∨ a = 142) → n ≤ (k : Int)) ∧ ((a = 128 ∨ a = 129) → 31 * n ≤ (k : Int)) ∧ (132 ≤ a ∧ a ≤ 141 → 300 * n ≤ (k : Int)) ∧ ((a = 143 ∨ a = 144) → 41 * n ≤ (k : Int))) : UP l D c H0 sa μ1 := fun d p x b y y' _ g t ta tb tq => by
  have e39 : μ 106 39 = n := (u.2 106 39 (Or.inl (by omega))).symm.trans q
  rw [u.2 106 _ (Or.inl (by omega))] at b y' tb
  rw [u.2 161 _ (Or.inl (by omega))] at g
  rw [u.2 110 _ (Or.inl (by omega)), u.2 110 _ (Or.inl (by omega))] at tq
  refine (h d p x b y y' id g t ta tb tq).keep ta y (SC.up u ?_) (Int.le_of_eq (e39.trans q.symm))
  intro s
  rcases s with ⟨s, -⟩ | ⟨s, -⟩ | ⟨s, -⟩ | ⟨s, -⟩ | ⟨s, -⟩ | ⟨s, s'⟩ | ⟨s, s'⟩ | ⟨s, s'⟩ | ⟨s, s'⟩ | ⟨s, -⟩ | ⟨s, -⟩ | ⟨s, s', -⟩ | ⟨s, -⟩
  all_goals first | omega | (rw [e39] at s'; omega)
theorem UP.pol {z n : Int} (h : UP l D c H0 sa μ) (q : μ 106 39 = n) (u : mU μ 106 39 z μ1) (hz : n ≤ z) : UP l D c H0 sa μ1 := fun d p x b y y' _ g t ta tb tq => by
  rw [u.2 106 5 (Or.inr (by decide))] at b
  rw [u.2 106 2 (Or.inr (by decide))] at y'
  rw [u.2 106 6 (Or.inr (by decide))] at tb
  rw [u.2 161 _ (Or.inl (by decide))] at g
  rw [u.2 110 _ (Or.inl (by decide)), u.2 110 _ (Or.inl (by decide))] at tq
  refine (h d p x b y y' id g t ta tb tq).keep ta y (SC.up u ?_) (by rw [q, u.1]; exact hz)
  intro s
  rcases s with ⟨s, -⟩ | ⟨s, -⟩ | ⟨s, -⟩ | ⟨s, -⟩ | ⟨s, -⟩ | ⟨s, s'⟩ | ⟨s, s'⟩ | ⟨s, s'⟩ | ⟨s, s'⟩ | ⟨-, s⟩ | ⟨-, s⟩ | ⟨s, s', -⟩ | ⟨s, -⟩ <;> omega
theorem UP.tabE {a : Nat} {e z n : Int} (h : UP l D c H0 sa μ) (u : mU μ a e.toNat z μ1) (q : μ1 106 39 = n) (ha : 127 ≤ a ∧ a ≤ 150) (he : 0 ≤ e) (hk : ((a = 127 ∨ a = 142) → n ≤ e) ∧ ((a = 128 ∨ a = 129) → 31 * n ≤ e) ∧ (132 ≤ a ∧ a ≤ 141 → 300 * n ≤ e) ∧ ((a = 143 ∨ a = 144) → 41 * n ≤ e)) : UP l D c H0 sa μ1 :=
  h.tab u q ha ⟨fun k => by have := hk.1 k; omega, fun k => by have := hk.2.1 k; omega, fun k => by have := hk.2.2.1 k; omega, fun k => by have := hk.2.2.2 k; omega⟩
/-! why -/
theorem UP.nz {t p d n m v e0 e1 k : Int} (h : UP l D c H0 sa μ) (te : TE μ) (ht : 0 ≤ t) (q6 : μ 106 6 = n) (htn : t < n) (q0 : μ 110 (2 * t).toNat = e0) (q1 : μ 110 (2 * t + 1).toNat = e1) (he : e0 = d ∨ e1 = d) (hd : 0 ≤ d) (hp : 0 ≤ p) (q2 : μ 106 2 = m) (hpm : p < m) (qk : μ 161 k.toNat = v) (hk : k = 10 * d + p) (hv : v = -99999999) : NZ l D c H0 sa μ d t p := by
  have g0 := te (2 * t).toNat (by omega)
  have g1 := te (2 * t + 1).toNat (by omega)
  rw [q0] at g0
  rw [q1] at g1
  refine h d p hd (by omega) hp (by omega) id (by rw [← hk, qk]; exact hv) t ht (by omega) ?_
  rw [q0, q1]; exact he
end UIS
end
section
/-! All that stands between the calls, of the reference. -/
section UIT
variable {l : Launch} {D : va_G} {c : Nat → ClassId} {H0 : Heap} {sa : Nat × Nat × (Nat → Int32)} {w : mW} {μ μ1 : mM}
def UI (l : Launch) (D : va_G) (c : Nat → ClassId) (H0 : Heap) (sa : Nat × Nat × (Nat → Int32)) (μ : mM) : Prop := JC l D c H0 sa μ ∧ RP μ ∧ EP μ ∧ HP μ ∧ UP l D c H0 sa μ ∧ TE μ ∧ RR μ
def uiA (a : Nat) : Bool := (Nat.ble 108 a && Nat.ble a 112) || (Nat.beq a 115 || ((Nat.ble 119 a && Nat.ble a 129) || ((Nat.ble 132 a && Nat.ble a 144) || (Nat.beq a 157 || (Nat.beq a 159 || Nat.beq a 161)))))
def uiI (i : Nat) : Bool := Nat.beq i 2 || (Nat.beq i 5 || (Nat.beq i 6 || (Nat.beq i 17 || (Nat.beq i 18 || ((Nat.ble 26 i && Nat.ble i 31) || Nat.beq i 39)))))
theorem UI.eq (h : UI l D c H0 sa μ) (e1 : ∀ i : Nat, uiI i = true → μ1 106 i = μ 106 i) (e2 : ∀ a i : Nat, uiA a = true → μ1 a i = μ a i) : UI l D c H0 sa μ1 := by
  obtain ⟨h1, h2, h3, h4, h5, h6, h7⟩ := h
  have eA : ∀ a i : Nat, ((108 ≤ a ∧ a ≤ 112) ∨ a = 115 ∨ (119 ≤ a ∧ a ≤ 129) ∨ (132 ≤ a ∧ a ≤ 144) ∨ a = 157 ∨ a = 159 ∨ a = 161) → μ1 a i = μ a i := fun a i k => e2 a i (by
    simp only [uiA, Bool.or_eq_true, Bool.and_eq_true, Nat.ble_eq, Nat.beq_eq]; exact k)
  have a2 := e1 2 rfl
  have a5 := e1 5 rfl
  have a6 := e1 6 rfl
  have a17 := e1 17 rfl
  have a18 := e1 18 rfl
  have a39 := e1 39 rfl
  have aJ : ∀ i : Nat, 26 ≤ i → i ≤ 31 → μ1 106 i = μ 106 i := fun i x y => e1 i (by
    simp only [uiI, Bool.or_eq_true, Bool.and_eq_true, Nat.ble_eq, Nat.beq_eq]; omega)
  have sj : ∀ p : Int, agr (SJ μ p) μ μ1 := fun p a i s => by
    rcases s with ⟨rfl, rfl⟩ | ⟨s1, s2, -⟩ | ⟨s1, -⟩
    · exact a18
    · exact eA a i (by omega)
    · exact eA a i (by omega)
  refine ⟨h1.of (Int.le_of_eq a2.symm) aJ fun _ _ => sj _, fun r x y => ?_, fun s x y q => ?_, fun s x y q => ?_, fun d p x y x' y' _ q t ta tb tq => ?_, fun i x => ?_, fun i x => ?_⟩
  · rw [eA 126 _ (by omega), a2]; exact h2 r x y
  · rw [eA 157 _ (by omega), eA 159 _ (by omega)] at q
    rw [a2, eA 112 _ (by omega)]; exact h3 s x y q
  · rw [eA 126 _ (by omega)] at q
    rw [a2, a6, eA 112 _ (by omega)]; exact h4 s x y q
  · rw [a5] at y
    rw [a2] at y'
    rw [eA 161 _ (by omega)] at q
    rw [a6] at tb
    rw [eA 110 _ (by omega), eA 110 _ (by omega)] at tq
    refine (h5 d p x y x' y' id q t ta tb tq).keep ta x' (fun a i s => ?_) (Int.le_of_eq a39.symm)
    rcases s with ⟨rfl, -⟩ | ⟨rfl, -⟩ | ⟨rfl, -⟩ | ⟨rfl, -⟩ | ⟨rfl, -⟩ | ⟨s, -⟩ | ⟨s, -⟩ | ⟨s, -⟩ | ⟨s, -⟩ | ⟨rfl, rfl⟩ | s
    · exact eA _ i (by omega)
    · exact eA _ i (by omega)
    · exact eA _ i (by omega)
    · exact eA _ i (by omega)
    · exact eA _ i (by omega)
    · exact eA _ i (by omega)
    · exact eA _ i (by omega)
    · exact eA _ i (by omega)
    · exact eA _ i (by omega)
    · exact a17
    · exact sj _ a i s
  · rw [a6] at x
    rw [eA 110 _ (by omega), a5]; exact h6 i x
  · rw [a18] at x
    rw [eA 119 _ (by omega), a2]; exact h7 i x
theorem UI.sm (h : UI l D c H0 sa μ) (s : sM_ μ μ1) : UI l D c H0 sa μ1 := by
  refine h.eq (fun i k => s.1 i ?_) (fun a i k => ?_)
  · simp only [uiI, Bool.or_eq_true, Bool.and_eq_true, Nat.ble_eq, Nat.beq_eq] at k; omega
  · simp only [uiA, Bool.or_eq_true, Bool.and_eq_true, Nat.ble_eq, Nat.beq_eq] at k
    rw [s.2 a (by omega) (by omega)]
theorem sM_.ofF {lf : List Nat} (hw : mWF w) (F : mF lf w μ μ1) (h : isC lf = true) : sM_ μ μ1 := sM_.of hw (mX.fr (l := lf) mX.refl F (List.all_eq_true.mpr fun x hx => List.elem_iff.mpr hx)) h
/-- a step of the reference that touches nothing of it -/
def uiF (lf : List Nat) : Bool := lf.all fun x => !(Nat.ble 106000 x && Nat.blt x 107000 && uiI (x - 106000)) && !(uiA (x / 1000))
theorem UI.fr {lf : List Nat} (h : UI l D c H0 sa μ) (hw : mWF w) (F : mF lf w μ μ1) (hl : uiF lf = true) : UI l D c H0 sa μ1 := by
  have hall : ((List.range 192).all fun a => !(uiA a) || (Nat.beq (mSh0 a) a && mArr a)) = true := by decide +kernel
  have no : ∀ x : Nat, (Nat.ble 106000 x && Nat.blt x 107000 && uiI (x - 106000)) = true ∨ uiA (x / 1000) = true → lf.elem x = false := fun x hx => by
    cases hq : lf.elem x with
    | false => rfl
    | true =>
      have g := List.all_eq_true.mp hl x (List.elem_iff.mp hq)
      simp only [Bool.and_eq_true, Bool.not_eq_true'] at g
      rcases hx with hx | hx
      · rw [g.1] at hx; cases hx
      · rw [g.2] at hx; cases hx
  refine h.eq (fun i k => ?_) (fun a i k => ?_)
  · refine F 106 i ?_
    have e : mRg w 106 i = 106000 + i := by simp only [mRg, (A_106 hw).1]; rfl
    rw [e]
    have hi : i < 1000 := by simp only [uiI, Bool.or_eq_true, Bool.and_eq_true, Nat.ble_eq, Nat.beq_eq] at k; omega
    refine no _ (Or.inl ?_)
    rw [show 106000 + i - 106000 = i by omega, k, Nat.ble_eq_true_of_le (by omega), show Nat.blt (106000 + i) 107000 = true from Nat.ble_eq_true_of_le (by omega)]; rfl
  · have ha : a < 192 := by simp only [uiA, Bool.or_eq_true, Bool.and_eq_true, Nat.ble_eq, Nat.beq_eq] at k; omega
    have g := List.all_eq_true.mp hall a (List.mem_range.mpr ha)
    rw [k] at g
    simp only [Bool.not_true, Bool.false_or, Bool.and_eq_true] at g
    have es : w.2.1 a = a := (hw.1 a ha).trans (Nat.eq_of_beq_eq_true g.1)
    refine F a i ?_
    unfold mRg; rw [es, g.2]
    refine no _ (Or.inr ?_)
    show uiA ((1000 * a + 999) / 1000) = true
    rw [show (1000 * a + 999) / 1000 = a by omega]; exact k
theorem UI.dom (h : UI l D c H0 sa μ) (hw : mWF w) (hT1 : mT w μ1) (F : mF [106005] w μ μ1) (hd : μ 106 5 ≤ μ1 106 5) : UI l D c H0 sa μ1 := by
  obtain ⟨h1, h2, h3, h4, h5, h6, h7⟩ := h
  exact ⟨h1.keepJ hw F rfl, h2.keep (rs := []) hw F rfl (fun i _ => F.f (A_126 hw) rfl rfl) (fun _ h => absurd h List.not_mem_nil), h3.keep hw F rfl, h4.keep (rs := []) hw F rfl (fun i _ => F.f (A_126 hw) rfl rfl) (fun _ h => absurd h List.not_mem_nil), h5.dom h6 hw hT1 F hd, h6.dom hw F hd, h7.keep hw F rfl rfl rfl⟩
end UIT
end
section
theorem dX12_why_0 : decode cX12_why 0 = .ok (.aload_n 0, 1) := dc0 dO_42 (by decide +kernel)
theorem dX12_why_1 : decode cX12_why 1 = .ok (.iload_n 1, 1) := dc0 dO_27 (by decide +kernel)
theorem dX12_why_2 : decode cX12_why 2 = .ok (.invokevirtual 66, 3) := dcU2 dO_182 (by decide +kernel)
theorem dX12_why_5 : decode cX12_why 5 = .ok (.ifCond .eq 20, 3) := dcS2 dO_153 (by decide +kernel)
theorem dX12_why_8 : decode cX12_why 8 = .ok (.iload_n 2, 1) := dc0 dO_28 (by decide +kernel)
theorem dX12_why_9 : decode cX12_why 9 = .ok (.iconst 0, 1) := dc0 dO_3 (by decide +kernel)
theorem dX12_why_10 : decode cX12_why 10 = .ok (.iconst 1, 1) := dc0 dO_4 (by decide +kernel)
theorem dX12_why_11 : decode cX12_why 11 = .ok (.invokestatic 18, 3) := dcU2 dO_184 (by decide +kernel)
theorem dX12_why_14 : decode cX12_why 14 = .ok (.ifCond .eq 11, 3) := dcS2 dO_153 (by decide +kernel)
theorem dX12_why_17 : decode cX12_why 17 = .ok (.aload_n 0, 1) := dc0 dO_42 (by decide +kernel)
theorem dX12_why_18 : decode cX12_why 18 = .ok (.iload_n 3, 1) := dc0 dO_29 (by decide +kernel)
theorem dX12_why_19 : decode cX12_why 19 = .ok (.invokevirtual 92, 3) := dcU2 dO_182 (by decide +kernel)
theorem dX12_why_22 : decode cX12_why 22 = .ok (.ifCond .ne 5, 3) := dcS2 dO_154 (by decide +kernel)
theorem dX12_why_25 : decode cX12_why 25 = .ok (.iconst (-1), 1) := dc0 dO_2 (by decide +kernel)
theorem dX12_why_26 : decode cX12_why 26 = .ok (.ireturn, 1) := dc0 dO_172 (by decide +kernel)
theorem dX12_why_27 : decode cX12_why 27 = .ok (.aload_n 0, 1) := dc0 dO_42 (by decide +kernel)
theorem dX12_why_28 : decode cX12_why 28 = .ok (.getfield 40, 3) := dcU2 dO_180 (by decide +kernel)
theorem dX12_why_31 : decode cX12_why 31 = .ok (.iconst 2, 1) := dc0 dO_5 (by decide +kernel)
theorem dX12_why_32 : decode cX12_why 32 = .ok (.iload_n 1, 1) := dc0 dO_27 (by decide +kernel)
theorem dX12_why_33 : decode cX12_why 33 = .ok (.imul, 1) := dc0 dO_104 (by decide +kernel)
theorem dX12_why_34 : decode cX12_why 34 = .ok (.iload_n 2, 1) := dc0 dO_28 (by decide +kernel)
theorem dX12_why_35 : decode cX12_why 35 = .ok (.iadd, 1) := dc0 dO_96 (by decide +kernel)
theorem dX12_why_36 : decode cX12_why 36 = .ok (.iaload, 1) := dc0 dO_46 (by decide +kernel)
theorem dX12_why_37 : decode cX12_why 37 = .ok (.istore 4, 2) := dcU1 dO_54 (by decide +kernel)
theorem dX12_why_39 : decode cX12_why 39 = .ok (.aload_n 0, 1) := dc0 dO_42 (by decide +kernel)
theorem dX12_why_40 : decode cX12_why 40 = .ok (.sipush 130, 3) := dcS2 dO_17 (by decide +kernel)
theorem dX12_why_43 : decode cX12_why 43 = .ok (.iload_n 1, 1) := dc0 dO_27 (by decide +kernel)
theorem dX12_why_44 : decode cX12_why 44 = .ok (.iload_n 2, 1) := dc0 dO_28 (by decide +kernel)
theorem dX12_why_45 : decode cX12_why 45 = .ok (.iload_n 3, 1) := dc0 dO_29 (by decide +kernel)
theorem dX12_why_46 : decode cX12_why 46 = .ok (.invokestatic 545, 3) := dcU2 dO_184 (by decide +kernel)
theorem dX12_why_49 : decode cX12_why 49 = .ok (.iadd, 1) := dc0 dO_96 (by decide +kernel)
theorem dX12_why_50 : decode cX12_why 50 = .ok (.invokevirtual 151, 3) := dcU2 dO_182 (by decide +kernel)
theorem dX12_why_53 : decode cX12_why 53 = .ok (.ifCond .ne 6, 3) := dcS2 dO_154 (by decide +kernel)
theorem dX12_why_56 : decode cX12_why 56 = .ok (.ldc 29, 2) := dcU1 dO_18 (by decide +kernel)
theorem dX12_why_58 : decode cX12_why 58 = .ok (.ireturn, 1) := dc0 dO_172 (by decide +kernel)
theorem dX12_why_59 : decode cX12_why 59 = .ok (.bipush 10, 2) := dcS1 dO_16 (by decide +kernel)
theorem dX12_why_61 : decode cX12_why 61 = .ok (.iload 4, 2) := dcU1 dO_21 (by decide +kernel)
theorem dX12_why_63 : decode cX12_why 63 = .ok (.imul, 1) := dc0 dO_104 (by decide +kernel)
theorem dX12_why_64 : decode cX12_why 64 = .ok (.iload_n 3, 1) := dc0 dO_29 (by decide +kernel)
theorem dX12_why_65 : decode cX12_why 65 = .ok (.iadd, 1) := dc0 dO_96 (by decide +kernel)
theorem dX12_why_66 : decode cX12_why 66 = .ok (.istore 5, 2) := dcU1 dO_54 (by decide +kernel)
theorem dX12_why_68 : decode cX12_why 68 = .ok (.aload_n 0, 1) := dc0 dO_42 (by decide +kernel)
theorem dX12_why_69 : decode cX12_why 69 = .ok (.getfield 445, 3) := dcU2 dO_180 (by decide +kernel)
theorem dX12_why_72 : decode cX12_why 72 = .ok (.iload 5, 2) := dcU1 dO_21 (by decide +kernel)
theorem dX12_why_74 : decode cX12_why 74 = .ok (.iaload, 1) := dc0 dO_46 (by decide +kernel)
theorem dX12_why_75 : decode cX12_why 75 = .ok (.iload_n 1, 1) := dc0 dO_27 (by decide +kernel)
theorem dX12_why_76 : decode cX12_why 76 = .ok (.if_icmp .ne 5, 3) := dcS2 dO_160 (by decide +kernel)
theorem dX12_why_79 : decode cX12_why 79 = .ok (.iconst 0, 1) := dc0 dO_3 (by decide +kernel)
theorem dX12_why_80 : decode cX12_why 80 = .ok (.ireturn, 1) := dc0 dO_172 (by decide +kernel)
theorem dX12_why_81 : decode cX12_why 81 = .ok (.aload_n 0, 1) := dc0 dO_42 (by decide +kernel)
theorem dX12_why_82 : decode cX12_why 82 = .ok (.getfield 445, 3) := dcU2 dO_180 (by decide +kernel)
theorem dX12_why_85 : decode cX12_why 85 = .ok (.iload 5, 2) := dcU1 dO_21 (by decide +kernel)
theorem dX12_why_87 : decode cX12_why 87 = .ok (.iaload, 1) := dc0 dO_46 (by decide +kernel)
theorem dX12_why_88 : decode cX12_why 88 = .ok (.bipush (-4), 2) := dcS1 dO_16 (by decide +kernel)
theorem dX12_why_90 : decode cX12_why 90 = .ok (.if_icmp .ne 6, 3) := dcS2 dO_160 (by decide +kernel)
theorem dX12_why_93 : decode cX12_why 93 = .ok (.bipush 8, 2) := dcS1 dO_16 (by decide +kernel)
theorem dX12_why_95 : decode cX12_why 95 = .ok (.ireturn, 1) := dc0 dO_172 (by decide +kernel)
theorem dX12_why_96 : decode cX12_why 96 = .ok (.aload_n 0, 1) := dc0 dO_42 (by decide +kernel)
theorem dX12_why_97 : decode cX12_why 97 = .ok (.iload 4, 2) := dcU1 dO_21 (by decide +kernel)
theorem dX12_why_99 : decode cX12_why 99 = .ok (.iload_n 1, 1) := dc0 dO_27 (by decide +kernel)
theorem dX12_why_100 : decode cX12_why 100 = .ok (.iload_n 3, 1) := dc0 dO_29 (by decide +kernel)
theorem dX12_why_101 : decode cX12_why 101 = .ok (.invokevirtual 565, 3) := dcU2 dO_182 (by decide +kernel)
theorem dX12_why_104 : decode cX12_why 104 = .ok (.istore 6, 2) := dcU1 dO_54 (by decide +kernel)
theorem dX12_why_106 : decode cX12_why 106 = .ok (.iload 6, 2) := dcU1 dO_21 (by decide +kernel)
theorem dX12_why_108 : decode cX12_why 108 = .ok (.ifCond .eq 6, 3) := dcS2 dO_153 (by decide +kernel)
theorem dX12_why_111 : decode cX12_why 111 = .ok (.iload 6, 2) := dcU1 dO_21 (by decide +kernel)
theorem dX12_why_113 : decode cX12_why 113 = .ok (.ireturn, 1) := dc0 dO_172 (by decide +kernel)
theorem dX12_why_114 : decode cX12_why 114 = .ok (.aload_n 0, 1) := dc0 dO_42 (by decide +kernel)
theorem dX12_why_115 : decode cX12_why 115 = .ok (.getfield 445, 3) := dcU2 dO_180 (by decide +kernel)
theorem dX12_why_118 : decode cX12_why 118 = .ok (.iload 5, 2) := dcU1 dO_21 (by decide +kernel)
theorem dX12_why_120 : decode cX12_why 120 = .ok (.iaload, 1) := dc0 dO_46 (by decide +kernel)
theorem dX12_why_121 : decode cX12_why 121 = .ok (.istore 7, 2) := dcU1 dO_54 (by decide +kernel)
theorem dX12_why_123 : decode cX12_why 123 = .ok (.aload_n 0, 1) := dc0 dO_42 (by decide +kernel)
theorem dX12_why_124 : decode cX12_why 124 = .ok (.iload 4, 2) := dcU1 dO_21 (by decide +kernel)
theorem dX12_why_126 : decode cX12_why 126 = .ok (.iconst 4, 1) := dc0 dO_7 (by decide +kernel)
theorem dX12_why_127 : decode cX12_why 127 = .ok (.iload_n 1, 1) := dc0 dO_27 (by decide +kernel)
theorem sfx_cX12_why_128 : (cX12_why.data.toList.drop 128).take 67 = [96, 27, 16, 30, 21, 5, 96, 21, 7, 29, 182, 2, 37, 54, 8, 21, 8, 154, 0, 8, 16, 7, 167, 0, 16, 21, 8, 156, 0, 9, 21, 8, 116, 167, 0, 5, 21, 8, 172] := by decide +kernel
theorem dX12_why_128 : decode cX12_why 128 = .ok (.iadd, 1) := dc0 dO_96 (rdB.ch sfx_cX12_why_128 0 rfl (by decide +kernel))
theorem dX12_why_129 : decode cX12_why 129 = .ok (.iload_n 1, 1) := dc0 dO_27 (rdB.ch sfx_cX12_why_128 1 rfl (by decide +kernel))
theorem dX12_why_130 : decode cX12_why 130 = .ok (.bipush 30, 2) := dcS1 dO_16 (rdS1.ch sfx_cX12_why_128 2 rfl (by decide +kernel))
theorem dX12_why_132 : decode cX12_why 132 = .ok (.iload 5, 2) := dcU1 dO_21 (rdU1.ch sfx_cX12_why_128 4 rfl (by decide +kernel))
theorem dX12_why_134 : decode cX12_why 134 = .ok (.iadd, 1) := dc0 dO_96 (rdB.ch sfx_cX12_why_128 6 rfl (by decide +kernel))
theorem dX12_why_135 : decode cX12_why 135 = .ok (.iload 7, 2) := dcU1 dO_21 (rdU1.ch sfx_cX12_why_128 7 rfl (by decide +kernel))
theorem dX12_why_137 : decode cX12_why 137 = .ok (.iload_n 3, 1) := dc0 dO_29 (rdB.ch sfx_cX12_why_128 9 rfl (by decide +kernel))
theorem dX12_why_138 : decode cX12_why 138 = .ok (.invokevirtual 549, 3) := dcU2 dO_182 (rdU2.ch sfx_cX12_why_128 10 rfl (by decide +kernel))
theorem dX12_why_141 : decode cX12_why 141 = .ok (.istore 8, 2) := dcU1 dO_54 (rdU1.ch sfx_cX12_why_128 13 rfl (by decide +kernel))
theorem dX12_why_143 : decode cX12_why 143 = .ok (.iload 8, 2) := dcU1 dO_21 (rdU1.ch sfx_cX12_why_128 15 rfl (by decide +kernel))
theorem dX12_why_145 : decode cX12_why 145 = .ok (.ifCond .ne 8, 3) := dcS2 dO_154 (rdS2.ch sfx_cX12_why_128 17 rfl (by decide +kernel))
theorem dX12_why_148 : decode cX12_why 148 = .ok (.bipush 7, 2) := dcS1 dO_16 (rdS1.ch sfx_cX12_why_128 20 rfl (by decide +kernel))
theorem dX12_why_150 : decode cX12_why 150 = .ok (.goto 16, 3) := dcS2 dO_167 (rdS2.ch sfx_cX12_why_128 22 rfl (by decide +kernel))
theorem dX12_why_153 : decode cX12_why 153 = .ok (.iload 8, 2) := dcU1 dO_21 (rdU1.ch sfx_cX12_why_128 25 rfl (by decide +kernel))
theorem dX12_why_155 : decode cX12_why 155 = .ok (.ifCond .ge 9, 3) := dcS2 dO_156 (rdS2.ch sfx_cX12_why_128 27 rfl (by decide +kernel))
theorem dX12_why_158 : decode cX12_why 158 = .ok (.iload 8, 2) := dcU1 dO_21 (rdU1.ch sfx_cX12_why_128 30 rfl (by decide +kernel))
theorem dX12_why_160 : decode cX12_why 160 = .ok (.ineg, 1) := dc0 dO_116 (rdB.ch sfx_cX12_why_128 32 rfl (by decide +kernel))
theorem dX12_why_161 : decode cX12_why 161 = .ok (.goto 5, 3) := dcS2 dO_167 (rdS2.ch sfx_cX12_why_128 33 rfl (by decide +kernel))
theorem dX12_why_164 : decode cX12_why 164 = .ok (.iload 8, 2) := dcU1 dO_21 (rdU1.ch sfx_cX12_why_128 36 rfl (by decide +kernel))
theorem dX12_why_166 : decode cX12_why 166 = .ok (.ireturn, 1) := dc0 dO_172 (rdB.ch sfx_cX12_why_128 38 rfl (by decide +kernel))
end
section
/-! no rows -/
end
section
/-! no rows -/
end
section
/-! no rows -/
end
section
/-! no rows -/
end
section
/-! no rows -/
end
section
/-! no rows -/
end
section
/-! no rows -/
end
section
/-! no rows -/
end
