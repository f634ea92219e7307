section
/-! What stands between the calls: routes' prefixes, events, what was heard; nothing picked, no candidate. -/
section UIS
variable {l : Launch} {D : va_G} {c : Nat → ClassId} {H0 : Heap} {sa : Nat × Nat × (Nat → Int32)} {w : mW} {μ μ1 : mM}
theorem mU.same {a k : Nat} {z : Int} (u : mU μ a k z μ1) (q : μ a k = z) : μ1 = μ := funext fun b => funext fun i => by
  by_cases e : b = a ∧ i = k
  · rw [e.1, e.2, u.1, q]
  · exact u.2 b i (by omega)
theorem F106 {lf : List Nat} {i : Nat} (hw : mWF w) (F : mF lf w μ μ1) (h : lf.elem (106000 + i) = false) : μ1 106 i = μ 106 i := F 106 i (by simp only [mRg, (A_106 hw).1]; exact h)
theorem c_X12_copy_u (hw : mWF w) (hT : mT w μ) {p1 : Int} (hp1 : 0 ≤ p1 ∧ p1 ≤ 2099) {p2 : Int} (hp2 : 0 ≤ p2 ∧ p2 ≤ 2099) {f_x : Int} (q_f_x : μ 126 ((40 * p1).toNat) = f_x) {f_pre : Int} (q_f_pre : μ 106 2 = f_pre) (hq0 : p1 < p2 ∨ p2 < p1) (hq1 : p1 ≤ 1399) (hq2 : ¬ p2 = 24) (hq3 : ¬ p1 = 24 ∨ 0 < f_pre) (hIRP : RP μ) : sC (gG l D c H0 sa) mX12_copy 1 0 0 [.ref 106, iv p1, iv p2] (mk w μ) (qV w [126999] μ (fun μ1 => ∃ o_x : Int, μ1 126 ((40 * p2).toNat) = o_x ∧ mG [((40 * p2), ((40 * p2) + 40))] μ μ1 ∧ RP μ1 ∧ (o_x = f_x) ∧ True)) := by
  refine (c_X12_copy hw hT hp1 hp2 q_f_x hq0).weak ?_
  rintro r hp' ⟨μ1, rfl, rfl, T, F, o_x, q, G, e, -⟩
  refine ⟨μ1, rfl, rfl, T, F, o_x, q, G, RP.row hIRP hw F rfl hp2.1 G (Int.le_refl _) q ⟨fun h => absurd h hq2, fun _ => ?_⟩, e, trivial⟩
  have h := hIRP p1 hp1.1 hq1
  rw [q_f_x] at h
  rw [q_f_pre] at h ⊢
  omega
theorem c_X12_nothing_u (hw : mWF w) (hT : mT w μ) {p1 : Int} (hp1 : 0 ≤ p1 ∧ p1 ≤ 2099) (hIRP : RP μ) : sC (gG l D c H0 sa) mX12_nothing 1 0 0 [.ref 106, iv p1] (mk w μ) (qV w [126999] μ (fun μ1 => ∃ o_x : Int, μ1 126 ((40 * p1).toNat) = o_x ∧ mG [((40 * p1), ((40 * p1) + 1))] μ μ1 ∧ RP μ1 ∧ (o_x = -1) ∧ True)) := by
  refine (c_X12_nothing hw hT hp1).weak ?_
  rintro r hp' ⟨μ1, rfl, rfl, T, F, o_x, q, G, e, -⟩
  have h2 : 0 ≤ μ 106 2 := (hT 106 106 (A_106 hw) 2).1
  exact ⟨μ1, rfl, rfl, T, F, o_x, q, G, RP.row hIRP hw F rfl hp1.1 G (by omega) q ⟨fun _ => by omega, fun _ => by omega⟩, e, trivial⟩
/-! the cache of judged -/
def SJr : List Nat := [106002, 106018, 106026, 106027, 106028, 106029, 106030, 106031, 108999, 109999, 119999, 120999, 121999, 122999, 123999, 124999, 125999]
theorem SJr.no {lf : List Nat} {r : Nat} (h : (SJr.all fun r => !lf.elem r) = true) (hr : r ∈ SJr) : lf.elem r = false := by
  have := List.all_eq_true.mp h r hr
  simpa using this
theorem SJ.frJ {lf : List Nat} (hw : mWF w) (F : mF lf w μ μ1) (h : (SJr.all fun r => !lf.elem r) = true) {p : Int} : agr (SJ μ p) μ μ1 := fun a i s => by
  refine F a i ?_
  rcases s with ⟨rfl, rfl⟩ | ⟨s1, s2, -⟩ | ⟨s1, -⟩
  · simp only [mRg, (A_106 hw).1]; exact SJr.no h (r := 106018) (by decide)
  · have hh : a = 119 ∨ a = 120 ∨ a = 121 ∨ a = 122 ∨ a = 123 ∨ a = 124 ∨ a = 125 := by omega
    rcases hh with rfl | rfl | rfl | rfl | rfl | rfl | rfl
    · simp only [mRg, (A_119 hw).1]; exact SJr.no h (r := 119999) (by decide)
    · simp only [mRg, (A_120 hw).1]; exact SJr.no h (r := 120999) (by decide)
    · simp only [mRg, (A_121 hw).1]; exact SJr.no h (r := 121999) (by decide)
    · simp only [mRg, (A_122 hw).1]; exact SJr.no h (r := 122999) (by decide)
    · simp only [mRg, (A_123 hw).1]; exact SJr.no h (r := 123999) (by decide)
    · simp only [mRg, (A_124 hw).1]; exact SJr.no h (r := 124999) (by decide)
    · simp only [mRg, (A_125 hw).1]; exact SJr.no h (r := 125999) (by decide)
  · rcases s1 with rfl | rfl
    · simp only [mRg, (A_108 hw).1]; exact SJr.no h (r := 108999) (by decide)
    · simp only [mRg, (A_109 hw).1]; exact SJr.no h (r := 109999) (by decide)
theorem JC.of (h : JC l D c H0 sa μ) (e2 : μ 106 2 ≤ μ1 106 2) (e : ∀ i : Nat, 26 ≤ i → i ≤ 31 → μ1 106 i = μ 106 i) (hA : 0 ≤ μ 106 27 → μ 106 27 < μ 106 2 → agr (SJ μ (μ 106 27)) μ μ1) : JC l D c H0 sa μ1 := fun a => by
  have k := h (by rw [← e 26 (by decide) (by decide)]; exact a)
  rw [e 27 (by decide) (by decide), e 28 (by decide) (by decide), e 29 (by decide) (by decide), e 30 (by decide) (by decide), e 31 (by decide) (by decide), JAz.congr (hA k.1.1 k.1.2)]
  exact ⟨⟨k.1.1, Int.lt_of_lt_of_le k.1.2 e2⟩, k.2⟩
theorem JC.keepJ {lf : List Nat} (h : JC l D c H0 sa μ) (hw : mWF w) (F : mF lf w μ μ1) (hl : (SJr.all fun r => !lf.elem r) = true) : JC l D c H0 sa μ1 := by
  have e : ∀ i : Nat, 26 ≤ i → i ≤ 31 → μ1 106 i = μ 106 i := fun i a b => by
    refine F106 hw F ?_
    have hh : i = 26 ∨ i = 27 ∨ i = 28 ∨ i = 29 ∨ i = 30 ∨ i = 31 := by omega
    rcases hh with rfl | rfl | rfl | rfl | rfl | rfl <;> exact SJr.no hl (by decide)
  exact h.of (Int.le_of_eq (F106 hw F (SJr.no hl (r := 106002) (by decide))).symm) e fun _ _ => SJ.frJ hw F hl
theorem JC.zero (e : μ 106 26 = 0) : JC l D c H0 sa μ := fun h => absurd e h
theorem JC.sm (h : JC l D c H0 sa μ) (e1 : ∀ i : Nat, i < 1000 → μ1 106 i = μ 106 i) (e2 : ∀ a : Nat, 107 ≤ a → a < 192 → μ1 a = μ a) : JC l D c H0 sa μ1 :=
  h.of (Int.le_of_eq (e1 2 (by decide)).symm) (fun i _ b => e1 i (by omega)) fun _ _ a i s => by
    rcases s with ⟨rfl, rfl⟩ | ⟨s1, s2, -⟩ | ⟨s1, -⟩
    · exact e1 18 (by decide)
    · rw [e2 a (by omega) (by omega)]
    · rw [e2 a (by omega) (by omega)]
/-! events: of prefixes that are there, of ties that are up -/
def EP (μ : mM) : Prop := ∀ s : Int, 0 ≤ s → s ≤ 399 → (0 ≤ μ 157 s.toNat ∨ 0 ≤ μ 159 s.toNat) → s % 10 < μ 106 2 ∧ ¬ μ 112 (s / 20).toNat = 0
def epF (lf : List Nat) : Bool := !(lf.elem 106002) && (!(lf.elem 112999) && (!(lf.elem 157999) && !(lf.elem 159999)))
theorem EP.keep {lf : List Nat} (h : EP μ) (hw : mWF w) (F : mF lf w μ μ1) (hl : epF lf = true) : EP μ1 := by
  simp only [epF, Bool.and_eq_true, Bool.not_eq_true'] at hl
  intro s a b q
  have e1 : ∀ i, μ1 157 i = μ 157 i := fun i => F.f (A_157 hw) hl.2.2.1 rfl
  have e2 : ∀ i, μ1 159 i = μ 159 i := fun i => F.f (A_159 hw) hl.2.2.2 rfl
  have e3 : ∀ i, μ1 112 i = μ 112 i := fun i => F.f (A_112 hw) hl.2.1 rfl
  rw [e1, e2] at q
  rw [e3, F106 hw F hl.1]; exact h s a b q
theorem EP.neg1 {k : Nat} {z : Int} (h : EP μ) (u : mU μ 157 k z μ1) (hz : z < 0) : EP μ1 := fun s a b q => by
  rw [u.2 106 2 (Or.inl (by decide)), u.2 112 _ (Or.inl (by decide))]
  rw [u.2 159 _ (Or.inl (by decide))] at q
  by_cases e : s.toNat = k
  · rw [e, u.1] at q
    rw [← e] at q
    exact h s a b (Or.inr (q.resolve_left (by omega)))
  · rw [u.2 157 _ (Or.inr e)] at q; exact h s a b q
theorem EP.neg2 {k : Nat} {z : Int} (h : EP μ) (u : mU μ 159 k z μ1) (hz : z < 0) : EP μ1 := fun s a b q => by
  rw [u.2 106 2 (Or.inl (by decide)), u.2 112 _ (Or.inl (by decide))]
  rw [u.2 157 _ (Or.inl (by decide))] at q
  by_cases e : s.toNat = k
  · rw [e, u.1] at q
    rw [← e] at q
    exact h s a b (Or.inl (q.resolve_right (by omega)))
  · rw [u.2 159 _ (Or.inr e)] at q; exact h s a b q
theorem EP.up1 {e z n t v : Int} (h : EP μ) (u : mU μ 157 e.toNat z μ1) (h0 : 0 ≤ e) (qn : μ1 106 2 = n) (hn : e % 10 < n) (ht : e / 20 = t) (qt : μ1 112 t.toNat = v) (hv : ¬ v = 0) : EP μ1 := fun s a b q => by
  by_cases e1 : s = e
  · rw [e1, ht, qt, qn]; exact ⟨hn, hv⟩
  · rw [u.2 157 _ (Or.inr (by omega)), u.2 159 _ (Or.inl (by decide))] at q
    rw [u.2 106 2 (Or.inl (by decide)), u.2 112 _ (Or.inl (by decide))]; exact h s a b q
theorem EP.up2 {e z n t v : Int} (h : EP μ) (u : mU μ 159 e.toNat z μ1) (h0 : 0 ≤ e) (qn : μ1 106 2 = n) (hn : e % 10 < n) (ht : e / 20 = t) (qt : μ1 112 t.toNat = v) (hv : ¬ v = 0) : EP μ1 := fun s a b q => by
  by_cases e1 : s = e
  · rw [e1, ht, qt, qn]; exact ⟨hn, hv⟩
  · rw [u.2 159 _ (Or.inr (by omega)), u.2 157 _ (Or.inl (by decide))] at q
    rw [u.2 106 2 (Or.inl (by decide)), u.2 112 _ (Or.inl (by decide))]; exact h s a b q
theorem EP.tie {k : Nat} {z : Int} (h : EP μ) (u : mU μ 112 k z μ1) (hz : ¬ z = 0) : EP μ1 := fun s a b q => by
  rw [u.2 157 _ (Or.inl (by decide)), u.2 159 _ (Or.inl (by decide))] at q
  rw [u.2 106 2 (Or.inl (by decide))]
  refine ⟨(h s a b q).1, ?_⟩
  by_cases e : (s / 20).toNat = k
  · rw [e, u.1]; exact hz
  · rw [u.2 112 _ (Or.inr e)]; exact (h s a b q).2
theorem EP.grow {z o : Int} (h : EP μ) (q : μ 106 2 = o) (u : mU μ 106 2 z μ1) (hz : o ≤ z) : EP μ1 := fun s a b k => by
  rw [u.2 157 _ (Or.inl (by decide)), u.2 159 _ (Or.inl (by decide))] at k
  rw [u.1, u.2 112 _ (Or.inl (by decide))]
  have := h s a b k
  exact ⟨by omega, this.2⟩
theorem EP.at {s n t v : Int} (h : EP μ) (h0 : 0 ≤ s ∧ s ≤ 399) (hv : 0 ≤ μ 157 s.toNat ∨ 0 ≤ μ 159 s.toNat) (q : μ 106 2 = n) (ht : s / 20 = t) (qt : μ 112 t.toNat = v) : s % 10 < n ∧ ¬ v = 0 := by
  have := h s h0.1 h0.2 hv
  rw [ht, qt, q] at this; exact this
theorem EP.ev {e s n t v : Int} (h : EP μ) (he : 0 ≤ e ∧ e ≤ 799) (hv : 0 ≤ evF μ e) (hs : e % 400 = s) (q : μ 106 2 = n) (ht : s / 20 = t) (qt : μ 112 t.toNat = v) : s % 10 < n ∧ ¬ v = 0 := by
  refine EP.at h ⟨by omega, by omega⟩ ?_ q ht qt
  by_cases hl : e < 400
  · rw [evF, if_pos hl] at hv
    rw [show s = e by omega]; exact Or.inl hv
  · rw [evF, if_neg hl] at hv
    rw [show s = e - 400 by omega]; exact Or.inr hv
/-! what was heard: from ties that are up, of prefixes that are there -/
def HP (μ : mM) : Prop := ∀ s : Int, 0 ≤ s → s ≤ 399 → 0 ≤ μ 126 (40 * (130 + s)).toNat → s < 20 * μ 106 6 ∧ s % 10 < μ 106 2 ∧ ¬ μ 112 (s / 20).toNat = 0
def hpF (lf : List Nat) : Bool := !(lf.elem 106002) && (!(lf.elem 106006) && !(lf.elem 112999))
theorem HP.keep {lf : List Nat} {rs : List (Int × Int)} (h : HP μ) (hw : mWF w) (F : mF lf w μ μ1) (hl : hpF lf = true) (G : mG rs μ μ1) (hr : ∀ r ∈ rs, r.2 ≤ 5200 ∨ 21200 ≤ r.1) : HP μ1 := by
  simp only [hpF, Bool.and_eq_true, Bool.not_eq_true'] at hl
  intro s a b q
  have e3 : ∀ i, μ1 112 i = μ 112 i := fun i => F.f (A_112 hw) hl.2.2 rfl
  rw [G _ fun r hr' => by have := hr r hr'; omega] at q
  rw [e3, F106 hw F (i := 2) hl.1, F106 hw F (i := 6) hl.2.1]; exact h s a b q
theorem HP.row {lf : List Nat} {rs : List (Int × Int)} {e n m t v : Int} (h : HP μ) (hw : mWF w) (F : mF lf w μ μ1) (hl : hpF lf = true) (G : mG rs μ μ1) (hr : ∀ r ∈ rs, 40 * (130 + e) ≤ r.1 ∧ r.2 ≤ 40 * (130 + e) + 40) (q6 : μ 106 6 = n) (h6 : e < 20 * n) (q2 : μ 106 2 = m) (h2 : e % 10 < m) (ht : e / 20 = t) (qt : μ 112 t.toNat = v) (hv : ¬ v = 0) : HP μ1 := by
  simp only [hpF, Bool.and_eq_true, Bool.not_eq_true'] at hl
  intro s a b q
  have e3 : ∀ i, μ1 112 i = μ 112 i := fun i => F.f (A_112 hw) hl.2.2 rfl
  rw [e3, F106 hw F (i := 2) hl.1, F106 hw F (i := 6) hl.2.1]
  by_cases e1 : s = e
  · rw [e1, q6, q2, ht, qt]; exact ⟨h6, h2, hv⟩
  · rw [G _ fun r hr' => by have := hr r hr'; omega] at q
    exact h s a b q
theorem HP.tie {k : Nat} {z : Int} (h : HP μ) (u : mU μ 112 k z μ1) (hz : ¬ z = 0) : HP μ1 := fun s a b q => by
  rw [u.2 126 _ (Or.inl (by decide))] at q
  rw [u.2 106 2 (Or.inl (by decide)), u.2 106 6 (Or.inl (by decide))]
  refine ⟨(h s a b q).1, (h s a b q).2.1, ?_⟩
  by_cases e : (s / 20).toNat = k
  · rw [e, u.1]; exact hz
  · rw [u.2 112 _ (Or.inr e)]; exact (h s a b q).2.2
theorem HP.grow2 {z o : Int} (h : HP μ) (q : μ 106 2 = o) (u : mU μ 106 2 z μ1) (hz : o ≤ z) : HP μ1 := fun s a b k => by
  rw [u.2 126 _ (Or.inl (by decide))] at k
  rw [u.1, u.2 112 _ (Or.inl (by decide)), u.2 106 6 (Or.inr (by decide))]
  have := h s a b k
  exact ⟨this.1, by omega, this.2.2⟩
theorem HP.grow6 {z o : Int} (h : HP μ) (q : μ 106 6 = o) (u : mU μ 106 6 z μ1) (hz : o ≤ z) : HP μ1 := fun s a b k => by
  rw [u.2 126 _ (Or.inl (by decide))] at k
  rw [u.1, u.2 112 _ (Or.inl (by decide)), u.2 106 2 (Or.inr (by decide))]
  have := h s a b k
  exact ⟨by omega, this.2.1, this.2.2⟩
/-! ends of ties, prefixes of rights -/
def TE (μ : mM) : Prop := ∀ i : Nat, (i : Int) < 2 * μ 106 6 → μ 110 i < μ 106 5
def RR (μ : mM) : Prop := ∀ r : Nat, (r : Int) < μ 106 18 → μ 119 r < μ 106 2
theorem TE.keep {lf : List Nat} (h : TE μ) (hw : mWF w) (F : mF lf w μ μ1) (h1 : lf.elem 106005 = false) (h2 : lf.elem 106006 = false) (h3 : lf.elem 110999 = false) : TE μ1 := fun i a => by
  rw [F106 hw F h2] at a
  rw [F106 hw F h1, show μ1 110 i = μ 110 i from F.f (A_110 hw) h3 rfl]; exact h i a
theorem RR.keep {lf : List Nat} (h : RR μ) (hw : mWF w) (F : mF lf w μ μ1) (h1 : lf.elem 106002 = false) (h2 : lf.elem 106018 = false) (h3 : lf.elem 119999 = false) : RR μ1 := fun i a => by
  rw [F106 hw F h2] at a
  rw [F106 hw F h1, show μ1 119 i = μ 119 i from F.f (A_119 hw) h3 rfl]; exact h i a
def RRn (μ : mM) (n : Int) : Prop := ∀ r : Nat, (r : Int) < n → μ 119 r < μ 106 2
theorem RRn.put {e z n m : Int} (h : RR μ) (u : mU μ 119 e.toNat z μ1) (qn : μ1 106 18 = n) (he : e = n ∧ 0 ≤ e) (qm : μ1 106 2 = m) (hz : z < m) : RRn μ1 (n + 1) := fun r a => by
  by_cases k : r = e.toNat
  · rw [k, u.1, qm]; exact hz
  · rw [u.2 119 r (Or.inr k), u.2 106 2 (Or.inl (by decide))]
    exact h r (by rw [← u.2 106 18 (Or.inl (by decide)), qn]; omega)
theorem RRn.fin {lf : List Nat} {n : Int} (h : RRn μ n) (hw : mWF w) (F : mF lf w μ μ1) (h1 : lf.elem 106002 = false) (h3 : lf.elem 119999 = false) (hn : μ1 106 18 ≤ n) : RR μ1 := fun i a => by
  rw [F106 hw F h1, show μ1 119 i = μ 119 i from F.f (A_119 hw) h3 rfl]; exact h i (by omega)
/-! nothing picked, no candidate -/
theorem SC.frR {lf : List Nat} {rs : List (Int × Int)} {d t p : Int} (hw : mWF w) (F : mF lf w μ μ1) (h : (SCr.all fun r => !lf.elem r) = true) (G : mG rs μ μ1) (hr : ∀ r ∈ rs, r.2 ≤ 40 * rwOf μ d t p ∨ 40 * rwOf μ d t p + 40 ≤ r.1) : agr (SC μ d t p) μ μ1 := fun a i s => by
  rcases s with ⟨rfl, s1, s2⟩ | ⟨rfl, -⟩ | ⟨rfl, -⟩ | ⟨rfl, -⟩ | ⟨rfl, -⟩ | ⟨s, -⟩ | ⟨s, -⟩ | ⟨s, -⟩ | ⟨s, -⟩ | ⟨rfl, rfl⟩ | s
  · exact G i fun r hr' => by have := hr r hr'; omega
  · exact F.arr hw h (by omega)
  · exact F.arr hw h (by omega)
  · exact F.arr hw h (by omega)
  · exact F.arr hw h (by omega)
  · exact F.arr hw h (by omega)
  · exact F.arr hw h (by omega)
  · exact F.arr hw h (by omega)
  · exact F.arr hw h (by omega)
  · refine F 106 17 ?_
    simp only [mRg, (A_106 hw).1]; exact SCr.no h (by decide)
  · exact SJ.fr hw F h a i s
theorem SC.up {a k : Nat} {z d t p : Int} (u : mU μ a k z μ1) (h : ¬ SC μ d t p a k) : agr (SC μ d t p) μ μ1 := fun b i s => by
  refine u.2 b i ?_
  by_cases e : b = a
  · right; intro e'; rw [e, e'] at s; exact h s
  · exact Or.inl e
def UPg (l : Launch) (D : va_G) (c : Nat → ClassId) (H0 : Heap) (sa : Nat × Nat × (Nat → Int32)) (μ : mM) (E : Int → Int → Prop) : Prop := ∀ d p : Int, 0 ≤ d → d < μ 106 5 → 0 ≤ p → p < μ 106 2 → ¬ E d p → μ 161 (10 * d + p).toNat = -99999999 → NA l D c H0 sa μ d p
def UP (l : Launch) (D : va_G) (c : Nat → ClassId) (H0 : Heap) (sa : Nat × Nat × (Nat → Int32)) (μ : mM) : Prop := UPg l D c H0 sa μ fun _ _ => False
theorem UP.weak {E : Int → Int → Prop} (h : UP l D c H0 sa μ) : UPg l D c H0 sa μ E := fun d p a b x y _ q => h d p a b x y id q
theorem mD {w : mW} {μ : mM} (hw : mWF w) (hT : mT w μ) : (0 ≤ μ 106 2 ∧ μ 106 2 ≤ 10) ∧ (0 ≤ μ 106 5 ∧ μ 106 5 ≤ 10) ∧ (0 ≤ μ 106 6 ∧ μ 106 6 ≤ 20) := ⟨hT 106 106 (A_106 hw) 2, hT 106 106 (A_106 hw) 5, hT 106 106 (A_106 hw) 6⟩
def upF (lf : List Nat) : Bool := !(lf.elem 106002) && (!(lf.elem 106005) && !(lf.elem 161999))
theorem NA.frB {lf : List Nat} {rs : List (Int × Int)} {d p : Int} (h : NA l D c H0 sa μ d p) (hp : 0 ≤ p ∧ p ≤ 9) (hw : mWF w) (h20 : μ 106 6 ≤ 20) (F : mF lf w μ μ1) (hl : (SCr.all fun r => !lf.elem r) = true) (h6 : lf.elem 106006 = false) (h39 : lf.elem 106039 = false) (G : mG rs μ μ1) (hr : ∀ r ∈ rs, r.2 ≤ 5200 ∨ 21200 ≤ r.1) : NA l D c H0 sa μ1 d p := fun t a b q => by
  have e1 : ∀ i, μ1 110 i = μ 110 i := fun i => F.arr hw hl (by omega)
  rw [e1, e1] at q
  rw [F106 hw F h6] at b
  exact (h t a b q).keep a hp.1 (SC.fr hw F hl G hr ⟨a, by omega⟩ hp) (Int.le_of_eq (F106 hw F h39).symm)
theorem UPg.fr {lf : List Nat} {rs : List (Int × Int)} {E : Int → Int → Prop} (h : UPg l D c H0 sa μ E) (hw : mWF w) (hT : mT w μ1) (hu : upF lf = true) (F : mF lf w μ μ1) (hl : (SCr.all fun r => !lf.elem r) = true) (h6 : lf.elem 106006 = false) (h39 : lf.elem 106039 = false) (G : mG rs μ μ1) (hr : ∀ r ∈ rs, r.2 ≤ 5200 ∨ 21200 ≤ r.1) : UPg l D c H0 sa μ1 E := by
  simp only [upF, Bool.and_eq_true, Bool.not_eq_true'] at hu
  intro d p a b x y e q
  rw [F106 hw F hu.2.1] at b
  rw [F106 hw F hu.1] at y
  rw [show μ1 161 (10 * d + p).toNat = μ 161 (10 * d + p).toNat from F.f (A_161 hw) hu.2.2 rfl] at q
  have hm := mD hw hT
  rw [F106 hw F (i := 6) h6, F106 hw F (i := 2) hu.1] at hm
  exact (h d p a b x y e q).frB ⟨x, by omega⟩ hw (by omega) F hl h6 h39 G hr
theorem UPg.look {lf : List Nat} {rs : List (Int × Int)} {E : Int → Int → Prop} {d p : Int} (h : UPg l D c H0 sa μ E) (hE : ∀ d' p', E d' p' → d' = d ∧ p' = p) (hd : 0 ≤ d ∧ d ≤ 9) (hp : 0 ≤ p ∧ p ≤ 9) (hw : mWF w) (hT : mT w μ) (h2 : lf.elem 106002 = false) (h5 : lf.elem 106005 = false) (F : mF lf w μ μ1) (hl : (SCr.all fun r => !lf.elem r) = true) (h6 : lf.elem 106006 = false) (h39 : lf.elem 106039 = false) (G : mG rs μ μ1) (hr : ∀ r ∈ rs, r.2 ≤ 5200 ∨ 21200 ≤ r.1) (pt : PT μ μ1 (10 * d + p).toNat) (na : μ1 161 (10 * d + p).toNat = -99999999 → NA l D c H0 sa μ1 d p) : UP l D c H0 sa μ1 := fun d' p' a b x y _ q => by
  have hm := mD hw hT
  rw [F106 hw F h5] at b
  rw [F106 hw F h2] at y
  by_cases e : d' = d ∧ p' = p
  · rw [e.1, e.2] at q ⊢; exact na q
  · rw [pt _ (by omega)] at q
    exact (h d' p' a b x y (fun k => e (hE _ _ k)) q).fr ⟨x, by omega⟩ hw hT F hl h6 h39 G hr
theorem UPg.lookAll {lf : List Nat} {rs : List (Int × Int)} {E : Int → Int → Prop} {d n : Int} (h : UPg l D c H0 sa μ E) (hE : ∀ d' p', E d' p' → d' = d) (hd : 0 ≤ d ∧ d ≤ 9) (qn : μ 106 2 = n) (hw : mWF w) (hT : mT w μ) (h2 : lf.elem 106002 = false) (h5 : lf.elem 106005 = false) (F : mF lf w μ μ1) (hl : (SCr.all fun r => !lf.elem r) = true) (h6 : lf.elem 106006 = false) (h39 : lf.elem 106039 = false) (G : mG rs μ μ1) (hr : ∀ r ∈ rs, r.2 ≤ 5200 ∨ 21200 ≤ r.1) (pd : PD μ μ1 d) (up : UPd l D c H0 sa μ1 d n) : UP l D c H0 sa μ1 := fun d' p' a b x y _ q => by
  have hm := mD hw hT
  rw [F106 hw F h5] at b
  rw [F106 hw F h2] at y
  by_cases e : d' = d
  · rw [e] at q ⊢; exact up p' x (by omega) q
  · rw [pd _ (by omega)] at q
    exact (h d' p' a b x y (fun k => e (hE _ _ k)) q).fr ⟨x, by omega⟩ hw hT F hl h6 h39 G hr
/-- for the domains below n -/
def UPn (l : Launch) (D : va_G) (c : Nat → ClassId) (H0 : Heap) (sa : Nat × Nat × (Nat → Int32)) (μ : mM) (n m : Int) : Prop := ∀ d : Int, 0 ≤ d → d < n → UPd l D c H0 sa μ d m
theorem UPn.zero {m : Int} : UPn l D c H0 sa μ 0 m := fun d a b => by omega
theorem UPn.step {lf : List Nat} {rs : List (Int × Int)} {d n : Int} (h : UPn l D c H0 sa μ d n) (hn : n ≤ 10) (hd : 0 ≤ d) (hw : mWF w) (hT : mT w μ) (F : mF lf w μ μ1) (hl : (SCr.all fun r => !lf.elem r) = true) (h6 : lf.elem 106006 = false) (h39 : lf.elem 106039 = false) (G : mG rs μ μ1) (hr : ∀ r ∈ rs, r.2 ≤ 5200 ∨ 21200 ≤ r.1) (pd : PD μ μ1 d) (up : UPd l D c H0 sa μ1 d n) : UPn l D c H0 sa μ1 (d + 1) n := fun d' a b p x y q => by
  by_cases e : d' = d
  · rw [e] at q ⊢; exact up p x y q
  · rw [pd _ (by omega)] at q
    exact (h d' a (by omega) p x y q).fr ⟨x, by omega⟩ hw hT F hl h6 h39 G hr
theorem UPn.up {d n : Int} (h : UPn l D c H0 sa μ d n) (hd : μ 106 5 ≤ d) (hn : μ 106 2 ≤ n) : UP l D c H0 sa μ := fun d' p a b x y _ q => h d' a (by omega) p x (by omega) q
/-- a row of what was heard changes -/
theorem UP.hear {lf : List Nat} {rs : List (Int × Int)} {t sd p s : Int} (h : UP l D c H0 sa μ) (hw : mWF w) (hT : mT w μ) (hu : upF lf = true) (F : mF lf w μ μ1) (hl : (SCr.all fun r => !lf.elem r) = true) (h6 : lf.elem 106006 = false) (h39 : lf.elem 106039 = false) (G : mG rs μ μ1) (hr : ∀ r ∈ rs, 40 * (130 + s) ≤ r.1 ∧ r.2 ≤ 40 * (130 + s) + 40) (hs : s = (2 * t + sd) * 10 + p) (ht : 0 ≤ t) (hp : 0 ≤ p ∧ p ≤ 9) (hsd : sd = 0 ∨ sd = 1) : UPg l D c H0 sa μ1 fun d' p' => d' = μ 110 (2 * t + sd).toNat ∧ p' = p := by
  simp only [upF, Bool.and_eq_true, Bool.not_eq_true'] at hu
  intro d' p' a b x y ne q t' ta tb tq
  have hm := mD hw hT
  rw [F106 hw F hu.2.1] at b
  rw [F106 hw F hu.1] at y
  rw [show μ1 161 (10 * d' + p').toNat = μ 161 (10 * d' + p').toNat from F.f (A_161 hw) hu.2.2 rfl] at q
  rw [F106 hw F h6] at tb
  have e1 : ∀ i, μ1 110 i = μ 110 i := fun i => F.arr hw hl (by omega)
  rw [e1, e1] at tq
  refine (h d' p' a b x y id q t' ta tb tq).keep ta x (SC.frR hw F hl G fun r hr' => ?_) (Int.le_of_eq (F106 hw F h39).symm)
  have k := hr r hr'
  have ns : ¬ rwOf μ d' t' p' = 130 + s := by
    intro ee
    unfold rwOf sdOf at ee
    split at ee
    · rename_i e0
      have e2 : t' = t ∧ sd = 0 ∧ p' = p := by omega
      obtain ⟨rfl, rfl, rfl⟩ := e2
      exact ne ⟨by rw [show 2 * t' + 0 = 2 * t' by omega]; exact e0.symm, rfl⟩
    · rename_i e0
      have e2 : t' = t ∧ sd = 1 ∧ p' = p := by omega
      obtain ⟨rfl, rfl, rfl⟩ := e2
      exact ne ⟨(tq.resolve_left e0).symm, rfl⟩
  omega
/-- a tie's policy changes -/
theorem UP.use {e z t sd way d : Int} (h : UP l D c H0 sa μ) (u : mU μ 115 e.toNat z μ1) (he : e = 4 * t + 2 * sd + way) (ht : 0 ≤ t) (hsd : sd = 0 ∨ sd = 1) (hway : way = 0 ∨ way = 1) (qd' : μ1 110 (2 * t + sd).toNat = d) : UPg l D c H0 sa μ1 fun d' _ => way = 0 ∧ d' = d := by
  have qd : μ 110 (2 * t + sd).toNat = d := (u.2 110 _ (Or.inl (by decide))).symm.trans qd'
  intro d' p' a b x y ne q t' ta tb tq
  rw [u.2 106 _ (Or.inl (by decide))] at b y tb
  rw [u.2 161 _ (Or.inl (by decide))] at q
  rw [u.2 110 _ (Or.inl (by decide)), u.2 110 _ (Or.inl (by decide))] at tq
  refine (h d' p' a b x y id q t' ta tb tq).keep ta x (SC.up u ?_) (Int.le_of_eq (u.2 106 39 (Or.inl (by decide))).symm)
  intro k
  have hh : e.toNat = (4 * t' + 2 * sdOf μ d' t').toNat := by
    rcases k with ⟨k, -⟩ | ⟨k, -⟩ | ⟨k, -⟩ | ⟨k, -⟩ | ⟨-, k⟩ | ⟨k, -⟩ | ⟨k, -⟩ | ⟨k, -⟩ | ⟨k, -⟩ | ⟨k, -⟩ | ⟨k, -⟩ | ⟨k, k', -⟩ | ⟨k, -⟩
    all_goals first | exact k | omega
  unfold sdOf at hh
  split at hh
  · rename_i e0
    have e2 : t' = t ∧ sd = 0 ∧ way = 0 := by omega
    obtain ⟨rfl, rfl, rfl⟩ := e2
    exact ne ⟨rfl, by rw [show 2 * t' + 0 = 2 * t' by omega] at qd; rw [← e0, qd]⟩
  · rename_i e0
    have e2 : t' = t ∧ sd = 1 ∧ way = 0 := by omega
    obtain ⟨rfl, rfl, rfl⟩ := e2
    exact ne ⟨rfl, by rw [← qd]; exact (tq.resolve_left e0).symm⟩
theorem UPg.none {E : Int → Int → Prop} (h : UPg l D c H0 sa μ E) (hE : ∀ d p, ¬ E d p) : UP l D c H0 sa μ := fun d p a b x y _ q => h d p a b x y (hE d p) q
/-! but for one tie -/
def UPx (l : Launch) (D : va_G) (c : Nat → ClassId) (H0 : Heap) (sa : Nat × Nat × (Nat → Int32)) (μ : mM) (t : Int) : Prop := ∀ d p : Int, 0 ≤ d → d < μ 106 5 → 0 ≤ p → p < μ 106 2 → μ 161 (10 * d + p).toNat = -99999999 → ∀ t' : Int, 0 ≤ t' → t' < μ 106 6 → ¬ t' = t → (μ 110 (2 * t').toNat = d ∨ μ 110 (2 * t' + 1).toNat = d) → NZ l D c H0 sa μ d t' p
theorem UP.x {t : Int} (h : UP l D c H0 sa μ) : UPx l D c H0 sa μ t := fun d p a b x y q t' ta tb _ tq => h d p a b x y id q t' ta tb tq
theorem UPx.tie {t z : Int} (h : UPx l D c H0 sa μ t) (u : mU μ 112 t.toNat z μ1) (ht : 0 ≤ t) : UPx l D c H0 sa μ1 t := fun d p a b x y q t' ta tb tn tq => by
  rw [u.2 106 _ (Or.inl (by decide))] at b y tb
  rw [u.2 161 _ (Or.inl (by decide))] at q
  rw [u.2 110 _ (Or.inl (by decide)), u.2 110 _ (Or.inl (by decide))] at tq
  refine (h d p a b x y q t' ta tb tn tq).keep ta x (SC.up u ?_) (Int.le_of_eq (u.2 106 39 (Or.inl (by decide))).symm)
  intro k
  rcases k with ⟨k, -⟩ | ⟨k, -⟩ | ⟨k, -⟩ | ⟨-, k⟩ | ⟨k, -⟩ | ⟨k, -⟩ | ⟨k, -⟩ | ⟨k, -⟩ | ⟨k, -⟩ | ⟨k, -⟩ | ⟨k, -⟩ | ⟨k, k', -⟩ | ⟨k, -⟩ <;> omega
theorem UPx.fr {lf : List Nat} {rs : List (Int × Int)} {t : Int} (h : UPx l D c H0 sa μ t) (hw : mWF w) (hT : mT w μ1) (ht : 0 ≤ t) (hu : upF lf = true) (F : mF lf w μ μ1) (hl : (SCr.all fun r => !lf.elem r) = true) (h6 : lf.elem 106006 = false) (h39 : lf.elem 106039 = false) (G : mG rs μ μ1) (hr : ∀ r ∈ rs, r.2 ≤ 5200 ∨ 21200 ≤ r.1 ∨ (40 * (130 + 20 * t) ≤ r.1 ∧ r.2 ≤ 40 * (130 + 20 * t) + 800)) : UPx l D c H0 sa μ1 t := by
  simp only [upF, Bool.and_eq_true, Bool.not_eq_true'] at hu
  intro d p a b x y q t' ta tb tn tq
  have hm := mD hw hT
  rw [F106 hw F (i := 6) h6, F106 hw F (i := 2) hu.1] at hm
  rw [F106 hw F hu.2.1] at b
  rw [F106 hw F hu.1] at y
  rw [show μ1 161 (10 * d + p).toNat = μ 161 (10 * d + p).toNat from F.f (A_161 hw) hu.2.2 rfl] at q
  rw [F106 hw F h6] at tb
  have e1 : ∀ i, μ1 110 i = μ 110 i := fun i => F.arr hw hl (by omega)
  rw [e1, e1] at tq
  refine (h d p a b x y q t' ta tb tn tq).keep ta x (SC.frR hw F hl G fun r hr' => ?_) (Int.le_of_eq (F106 hw F h39).symm)
  have k := hr r hr'
  have s0 : 0 ≤ sdOf μ d t' ∧ sdOf μ d t' ≤ 1 := by unfold sdOf; split <;> decide
  unfold rwOf
  omega
theorem UPx.all {t : Int} (h : UPx l D c H0 sa μ t) (hw : mWF w) (hT : mT w μ) (hI : PK μ) (hn : ∀ s : Int, 20 * t ≤ s → s < 20 * t + 20 → μ 126 (40 * (130 + s)).toNat < 0) : UP l D c H0 sa μ := fun d p a b x y _ q t' ta tb tq => by
  have hm := mD hw hT
  by_cases e : t' = t
  · have s0 : 0 ≤ sdOf μ d t' ∧ sdOf μ d t' ≤ 1 := by unfold sdOf; split <;> decide
    refine NZ.nothing hw hT ⟨a, by omega⟩ ⟨ta, tb⟩ ⟨x, by omega⟩ tq hI ?_
    unfold xOf rwOf
    exact hn _ (by omega) (by omega)
  · exact h d p a b x y q t' ta tb e tq
/-! a tie falls -/
def RD (μ : mM) (t n : Int) : Prop := (∀ s : Int, 0 ≤ s → s ≤ 399 → ¬ s / 20 = t → (0 ≤ μ 157 s.toNat ∨ 0 ≤ μ 159 s.toNat → s % 10 < μ 106 2 ∧ ¬ μ 112 (s / 20).toNat = 0) ∧ (0 ≤ μ 126 (40 * (130 + s)).toNat → s < 20 * μ 106 6 ∧ s % 10 < μ 106 2 ∧ ¬ μ 112 (s / 20).toNat = 0)) ∧ ∀ s : Int, 20 * t ≤ s → s < n → μ 157 s.toNat < 0 ∧ μ 159 s.toNat < 0 ∧ μ 126 (40 * (130 + s)).toNat < 0
theorem RD.begin {t z : Int} (h : EP μ) (k : HP μ) (ht : 0 ≤ t) (u : mU μ 112 t.toNat z μ1) : RD μ1 t (20 * t) := by
  refine ⟨fun s a b n => ?_, fun s a b => by omega⟩
  rw [u.2 157 _ (Or.inl (by decide)), u.2 159 _ (Or.inl (by decide)), u.2 126 _ (Or.inl (by decide)), u.2 106 2 (Or.inl (by decide)), u.2 106 6 (Or.inl (by decide)), u.2 112 _ (Or.inr (by omega))]
  exact ⟨h s a b, k s a b⟩
def one (μ μ1 : mM) (a : Nat) (k : Int) : Prop := ∀ j : Nat, ¬ (j : Int) = k → μ1 a j = μ a j
theorem one.refl {a : Nat} {k : Int} : one μ μ a k := fun _ _ => rfl
theorem one.up {μ2 : mM} {a : Nat} {k z : Int} (h : one μ μ1 a k) (h0 : 0 ≤ k) (u : mU μ1 a k.toNat z μ2) : one μ μ2 a k := fun j q => (u.2 a j (Or.inr (by omega))).trans (h j q)
theorem one.oth {μ2 : mM} {a b i : Nat} {k z : Int} (h : one μ μ1 a k) (u : mU μ1 b i z μ2) (hb : Nat.beq a b = false) : one μ μ2 a k := fun j q => (u.2 a j (Or.inl (fun e => by rw [e, Nat.beq_refl] at hb; cases hb))).trans (h j q)
theorem one.fr {μ2 : mM} {lf : List Nat} {a : Nat} {k : Int} (h : one μ μ1 a k) (F : mF lf w μ1 μ2) (hA : mAt w a a) (hl : lf.elem (1000 * a + 999) = false) (hm : mArr a = true) : one μ μ2 a k := fun j q => by
  refine (F a j ?_).trans (h j q)
  unfold mRg; rw [hA.1, hm]; exact hl
theorem RD.eq {t n m : Int} (h : RD μ t n) (e : n = m) : RD μ t m := by rw [← e]; exact h
theorem RD.step {lf : List Nat} {rs : List (Int × Int)} {t n x y v : Int} (h : RD μ t n) (hw : mWF w) (F : mF lf w μ μ1) (hl : hpF lf = true) (h0 : 0 ≤ t ∧ t ≤ 19) (hn : 20 * t ≤ n ∧ n < 20 * t + 20) (G : mG rs μ μ1) (hr : ∀ r ∈ rs, r.2 ≤ 5200 ∨ 21200 ≤ r.1 ∨ (40 * (130 + n) ≤ r.1 ∧ r.2 ≤ 40 * (130 + n) + 40)) (o1 : one μ μ1 157 n) (o2 : one μ μ1 159 n) (q1 : μ1 157 n.toNat = x) (hx : x < 0) (q2 : μ1 159 n.toNat = y) (hy : y < 0) (q3 : μ1 126 (40 * (130 + n)).toNat = v) (hv : v < 0) : RD μ1 t (n + 1) := by
  simp only [hpF, Bool.and_eq_true, Bool.not_eq_true'] at hl
  have e3 : ∀ i, μ1 112 i = μ 112 i := fun i => F.f (A_112 hw) hl.2.2 rfl
  refine ⟨fun s a b ne => ?_, fun s a b => ?_⟩
  · rw [o1 _ (by omega), o2 _ (by omega), G _ fun r hr' => by have := hr r hr'; omega, F106 hw F hl.1, F106 hw F hl.2.1, e3]
    exact h.1 s a b ne
  · by_cases e : s = n
    · rw [e, q1, q2, q3]; exact ⟨hx, hy, hv⟩
    · rw [o1 _ (by omega), o2 _ (by omega), G _ fun r hr' => by have := hr r hr'; omega]
      exact h.2 s a (by omega)
theorem RD.ep {t n : Int} (h : RD μ t n) (hn : 20 * t + 20 ≤ n) : EP μ := fun s a b q => by
  by_cases e : s / 20 = t
  · have := h.2 s (by omega) (by omega)
    omega
  · exact (h.1 s a b e).1 q
theorem RD.hp {t n : Int} (h : RD μ t n) (hn : 20 * t + 20 ≤ n) : HP μ := fun s a b q => by
  by_cases e : s / 20 = t
  · have := h.2 s (by omega) (by omega)
    omega
  · exact (h.1 s a b e).2 q
theorem RD.no {t n : Int} (h : RD μ t n) (hn : 20 * t + 20 ≤ n) : ∀ s : Int, 20 * t ≤ s → s < 20 * t + 20 → μ 126 (40 * (130 + s)).toNat < 0 := fun s a b => (h.2 s a (by omega)).2.2
/-- a tie that is down comes up: nothing was heard of it -/
theorem UP.rise {t z : Int} (h : UP l D c H0 sa μ) (k : HP μ) (hw : mWF w) (hT1 : mT w μ1) (hI : PK μ1) (ht : 0 ≤ t ∧ t ≤ 19) (u : mU μ 112 t.toNat z μ1) (hz : μ 112 t.toNat = 0 ∨ μ 112 t.toNat = z) : UP l D c H0 sa μ1 := by
  rcases hz with q | q
  · refine (h.x.tie u ht.1).all hw hT1 hI fun s a b => ?_
    rw [u.2 126 _ (Or.inl (by decide))]
    refine Int.not_le.mp fun x => ?_
    have := (k s (by omega) (by omega) x).2.2
    rw [show s / 20 = t by omega] at this
    exact this q
  · rw [u.same q]; exact h
/-! a new prefix -/
section PXS
variable {μa μb μc : mM} {n x y z : Int}
theorem PX.jc (h : JC l D c H0 sa μ) (rr : RR μ) (hw : mWF w) (hT : mT w μ) (q : μ 106 2 = n) (u1 : mU μ 108 n.toNat x μa) (u2 : mU μa 109 n.toNat y μb) (u3 : mU μb 106 2 z μc) (hz : n ≤ z) : JC l D c H0 sa μc := by
  have hn : 0 ≤ n := by rw [← q]; exact (mD hw hT).1.1
  have e : ∀ a i : Nat, ¬ (a = 106 ∧ i = 2) → ¬ (a = 108 ∧ i = n.toNat) → ¬ (a = 109 ∧ i = n.toNat) → μc a i = μ a i := fun a i k1 k2 k3 => by
    rw [u3.2 a i (by omega), u2.2 a i (by omega), u1.2 a i (by omega)]
  refine h.of (by rw [u3.1, q]; exact hz) (fun i _ _ => e 106 i (by omega) (by omega) (by omega)) fun p0 p1 a i s => ?_
  rcases s with ⟨rfl, rfl⟩ | ⟨s1, s2, -⟩ | ⟨s1, s2 | ⟨r, r0, r1, s2⟩⟩
  · exact e _ _ (by omega) (by omega) (by omega)
  · exact e _ _ (by omega) (by omega) (by omega)
  · exact e _ _ (by omega) (by omega) (by omega)
  · have h1 := rr r.toNat (by omega)
    have h2 : 0 ≤ μ 119 r.toNat := (hT 119 119 (A_119 hw) r.toNat).1
    exact e _ _ (by omega) (by omega) (by omega)
theorem PX.up (h : UP l D c H0 sa μ) (hp : HP μ) (rp : RP μ) (rr : RR μ) (hw : mWF w) (hT : mT w μ) (hTc : mT w μc) (pk : PK μc) (q : μ 106 2 = n) (u1 : mU μ 108 n.toNat x μa) (u2 : mU μa 109 n.toNat y μb) (u3 : mU μb 106 2 z μc) (hz : z = n + 1) : UP l D c H0 sa μc := fun d p a b x' y' _ k t ta tb tq => by
  have hm := mD hw hT
  have hmc := mD hw hTc
  have e : ∀ a i : Nat, ¬ (a = 106 ∧ i = 2) → ¬ (a = 108 ∧ i = n.toNat) → ¬ (a = 109 ∧ i = n.toNat) → μc a i = μ a i := fun a i k1 k2 k3 => by
    rw [u3.2 a i (by omega), u2.2 a i (by omega), u1.2 a i (by omega)]
  have e' : ∀ a i : Nat, ¬ a = 106 → ¬ a = 108 → ¬ a = 109 → μc a i = μ a i := fun a i k1 k2 k3 => e a i (by omega) (by omega) (by omega)
  have e6 : μc 106 6 = μ 106 6 := e _ _ (by omega) (by omega) (by omega)
  have s0 : 0 ≤ sdOf μ d t ∧ sdOf μ d t ≤ 1 := by unfold sdOf; split <;> decide
  rw [e 106 5 (by omega) (by omega) (by omega)] at b
  have hz' : μc 106 2 = n + 1 := by rw [u3.1, hz]
  rw [hz'] at y' hmc
  rw [e' 161 _ (by decide) (by decide) (by decide)] at k
  by_cases hpn : p = n
  · refine NZ.nothing hw hTc ⟨a, by omega⟩ ⟨ta, tb⟩ ⟨x', by omega⟩ tq pk ?_
    have s1 : 0 ≤ sdOf μc d t ∧ sdOf μc d t ≤ 1 := by unfold sdOf; split <;> decide
    unfold xOf rwOf
    rw [e' 126 _ (by decide) (by decide) (by decide)]
    refine Int.not_le.mp fun g => ?_
    have := (hp ((2 * t + sdOf μc d t) * 10 + p) (by omega) (by omega) g).2.1
    omega
  · rw [e' 110 _ (by decide) (by decide) (by decide), e' 110 _ (by decide) (by decide) (by decide)] at tq
    rw [e6] at tb
    have hx : xOf μ d t p < n := by
      have := (rp (rwOf μ d t p) (by unfold rwOf; omega) (by unfold rwOf; omega)).2 (by unfold rwOf; omega)
      rw [q] at this; exact this
    refine (h d p a b x' (by omega) id k t ta tb tq).keep ta x' (fun a' i s => ?_) (Int.le_of_eq (e 106 39 (by omega) (by omega) (by omega)).symm)
    rcases s with ⟨rfl, -⟩ | ⟨rfl, -⟩ | ⟨rfl, -⟩ | ⟨rfl, -⟩ | ⟨rfl, -⟩ | ⟨s, -⟩ | ⟨s, -⟩ | ⟨s, -⟩ | ⟨s, -⟩ | ⟨rfl, rfl⟩ | ⟨rfl, rfl⟩ | ⟨s1, s2, -⟩ | ⟨s1, s2 | ⟨r, r0, r1, s2⟩⟩
    · exact e' _ _ (by decide) (by decide) (by decide)
    · exact e' _ _ (by decide) (by decide) (by decide)
    · exact e' _ _ (by decide) (by decide) (by decide)
    · exact e' _ _ (by decide) (by decide) (by decide)
    · exact e' _ _ (by decide) (by decide) (by decide)
    · exact e' _ _ (by omega) (by omega) (by omega)
    · exact e' _ _ (by omega) (by omega) (by omega)
    · exact e' _ _ (by omega) (by omega) (by omega)
    · exact e' _ _ (by omega) (by omega) (by omega)
    · exact e _ _ (by omega) (by omega) (by omega)
    · exact e _ _ (by omega) (by omega) (by omega)
    · exact e' _ _ (by omega) (by omega) (by omega)
    · exact e _ _ (by omega) (by omega) (by omega)
    · have h1 := rr r.toNat (by omega)
      have h2 : 0 ≤ μ 119 r.toNat := (hT 119 119 (A_119 hw) r.toNat).1
      exact e _ _ (by omega) (by omega) (by omega)
theorem RR.grow {o : Int} (h : RR μ) (q : μ 106 2 = o) (u : mU μ 106 2 z μ1) (hz : o ≤ z) : RR μ1 := fun r a => by
  rw [u.2 106 18 (Or.inr (by decide))] at a
  rw [u.1, u.2 119 _ (Or.inl (by decide))]
  have := h r a; omega
theorem RR.oth {a k : Nat} (h : RR μ) (u : mU μ a k z μ1) (ha : a = 108 ∨ a = 109) : RR μ1 := fun r b => by
  rw [u.2 106 18 (Or.inl (by omega))] at b
  rw [u.2 106 2 (Or.inl (by omega)), u.2 119 _ (Or.inl (by omega))]; exact h r b
end PXS
/-! a new tie -/
def TI (μ μ1 : mM) (t : Int) : Prop := ∀ a i : Nat, ¬ ((a = 110 ∧ 2 * t ≤ (i : Int)) ∨ (a = 111 ∧ t ≤ (i : Int)) ∨ (a = 112 ∧ t ≤ (i : Int)) ∨ a = 113 ∨ a = 114 ∨ (a = 115 ∧ 4 * t ≤ (i : Int))) → μ1 a i = μ a i
theorem TI.refl {t : Int} : TI μ μ t := fun _ _ _ => rfl
theorem TI.up {μ2 : mM} {a k : Nat} {z t : Int} (h : TI μ μ1 t) (u : mU μ1 a k z μ2) (hk : (a = 110 ∧ 2 * t ≤ (k : Int)) ∨ (a = 111 ∧ t ≤ (k : Int)) ∨ (a = 112 ∧ t ≤ (k : Int)) ∨ a = 113 ∨ a = 114 ∨ (a = 115 ∧ 4 * t ≤ (k : Int))) : TI μ μ2 t := fun b i n => by
  rw [u.2 b i (by omega)]; exact h b i n
section TIS
variable {μa : mM} {t z : Int}
theorem TI.hp (h : HP μ) (ti : TI μ μa t) (q : μ 106 6 = t) (u : mU μa 106 6 z μ1) (hz : z = t + 1) : HP μ1 := fun s a b k => by
  have e : ∀ a i : Nat, ¬ a = 106 → ¬ ((a = 110 ∧ 2 * t ≤ (i : Int)) ∨ (a = 111 ∧ t ≤ (i : Int)) ∨ (a = 112 ∧ t ≤ (i : Int)) ∨ a = 113 ∨ a = 114 ∨ (a = 115 ∧ 4 * t ≤ (i : Int))) → μ1 a i = μ a i := fun a i n m => by rw [u.2 a i (Or.inl n)]; exact ti a i m
  rw [e 126 _ (by decide) (by omega)] at k
  have g := h s a b k
  rw [q] at g
  rw [u.1, u.2 106 2 (Or.inr (by decide)), ti 106 2 (by omega), e 112 _ (by decide) (by omega)]
  exact ⟨by omega, g.2⟩
theorem TI.ep (h : EP μ) (ev : EV μ) (ti : TI μ μa t) (q : μ 106 6 = t) (u : mU μa 106 6 z μ1) : EP μ1 := fun s a b k => by
  have e : ∀ a i : Nat, ¬ a = 106 → ¬ ((a = 110 ∧ 2 * t ≤ (i : Int)) ∨ (a = 111 ∧ t ≤ (i : Int)) ∨ (a = 112 ∧ t ≤ (i : Int)) ∨ a = 113 ∨ a = 114 ∨ (a = 115 ∧ 4 * t ≤ (i : Int))) → μ1 a i = μ a i := fun a i n m => by rw [u.2 a i (Or.inl n)]; exact ti a i m
  rw [e 157 _ (by decide) (by omega), e 159 _ (by decide) (by omega)] at k
  have g := h s a b k
  have g2 := ev s.toNat (by omega) k
  rw [q] at g2
  rw [u.2 106 2 (Or.inr (by decide)), ti 106 2 (by omega), e 112 _ (by decide) (by omega)]
  exact g
theorem TI.te {x y n : Int} (h : TE μ) (ti : TI μ μa t) (q : μ 106 6 = t) (ht : 0 ≤ t) (u : mU μa 106 6 z μ1) (hz : z = t + 1) (q0 : μ1 110 (2 * t).toNat = x) (q1 : μ1 110 (2 * t + 1).toNat = y) (qn : μ1 106 5 = n) (hx : x < n ∧ y < n) : TE μ1 := fun i a => by
  rw [u.1, hz] at a
  by_cases e0 : (i : Int) = 2 * t
  · rw [show i = (2 * t).toNat by omega, q0, qn]; exact hx.1
  · by_cases e1 : (i : Int) = 2 * t + 1
    · rw [show i = (2 * t + 1).toNat by omega, q1, qn]; exact hx.2
    · rw [u.2 110 i (Or.inl (by decide)), ti 110 i (by omega), u.2 106 5 (Or.inr (by decide)), ti 106 5 (by omega)]
      exact h i (by rw [q]; omega)
theorem TI.upx (h : UP l D c H0 sa μ) (hp : HP μ) (ti : TI μ μa t) (hw : mWF w) (hT1 : mT w μ1) (pk : PK μ1) (q : μ 106 6 = t) (ht : 0 ≤ t) (u : mU μa 106 6 z μ1) (hz : z = t + 1) : UP l D c H0 sa μ1 := fun d p a b x y _ k t' ta tb tq => by
  have hm := mD hw hT1
  have e : ∀ a i : Nat, ¬ (a = 106 ∧ i = 6) → ¬ ((a = 110 ∧ 2 * t ≤ (i : Int)) ∨ (a = 111 ∧ t ≤ (i : Int)) ∨ (a = 112 ∧ t ≤ (i : Int)) ∨ a = 113 ∨ a = 114 ∨ (a = 115 ∧ 4 * t ≤ (i : Int))) → μ1 a i = μ a i := fun a i n m => by rw [u.2 a i (by omega)]; exact ti a i m
  by_cases e1 : t' = t
  · refine NZ.nothing hw hT1 ⟨a, by omega⟩ ⟨ta, tb⟩ ⟨x, by omega⟩ tq pk ?_
    have s1 : 0 ≤ sdOf μ1 d t' ∧ sdOf μ1 d t' ≤ 1 := by unfold sdOf; split <;> decide
    unfold xOf rwOf
    rw [e 126 _ (by omega) (by omega)]
    refine Int.not_le.mp fun g => ?_
    have := (hp ((2 * t' + sdOf μ1 d t') * 10 + p) (by omega) (by omega) g).1
    omega
  · rw [u.1, hz] at tb
    rw [e 110 _ (by omega) (by omega), e 110 _ (by omega) (by omega)] at tq
    rw [e 161 _ (by omega) (by omega)] at k
    rw [e 106 5 (by omega) (by omega)] at b
    rw [e 106 2 (by omega) (by omega)] at y
    have s0 : 0 ≤ sdOf μ d t' ∧ sdOf μ d t' ≤ 1 := by unfold sdOf; split <;> decide
    refine (h d p a b x y id k t' ta (by omega) tq).keep ta x (fun a' i s => ?_) (Int.le_of_eq (e 106 39 (by omega) (by omega)).symm)
    rcases s with ⟨rfl, -⟩ | ⟨rfl, s⟩ | ⟨rfl, s⟩ | ⟨rfl, s⟩ | ⟨rfl, s⟩ | ⟨s, -⟩ | ⟨s, -⟩ | ⟨s, -⟩ | ⟨s, -⟩ | ⟨rfl, rfl⟩ | ⟨rfl, rfl⟩ | ⟨s1, s2, -⟩ | ⟨s1, -⟩
    all_goals exact e _ _ (by omega) (by omega)
end TIS
/-- a new domain -/
theorem UP.dom (h : UP l D c H0 sa μ) (te : TE μ) (hw : mWF w) (hT1 : mT w μ1) (F : mF [106005] w μ μ1) (hd : μ 106 5 ≤ μ1 106 5) : UP l D c H0 sa μ1 := fun d p a b x y _ k => by
  have hm := mD hw hT1
  have e6 : μ1 106 6 = μ 106 6 := F106 hw F rfl
  rw [F106 hw F (i := 2) rfl] at y
  rw [show μ1 161 (10 * d + p).toNat = μ 161 (10 * d + p).toNat from F.f (A_161 hw) rfl rfl] at k
  by_cases e : d < μ 106 5
  · have e2 : μ1 106 2 = μ 106 2 := F106 hw F rfl
    exact (h d p a e x y id k).frB (rs := []) ⟨x, by omega⟩ hw (by omega) F rfl rfl rfl (fun i _ => F.f (A_126 hw) rfl rfl) (fun _ h => absurd h List.not_mem_nil)
  · intro t ta tb tq
    rw [e6] at tb
    have e1 : ∀ i, μ1 110 i = μ 110 i := fun i => F.f (A_110 hw) rfl rfl
    rw [e1, e1] at tq
    have g0 := te (2 * t).toNat (by omega)
    have g1 := te (2 * t + 1).toNat (by omega)
    omega
theorem TE.dom (te : TE μ) (hw : mWF w) (F : mF [106005] w μ μ1) (hd : μ 106 5 ≤ μ1 106 5) : TE μ1 := fun i a => by
  have e6 : μ1 106 6 = μ 106 6 := F106 hw F rfl
  rw [e6] at a
  rw [show μ1 110 i = μ 110 i from F.f (A_110 hw) rfl rfl]
  have := te i a; omega
/-- tables of policies: above those that are there -/
theorem UP.tab {a k : Nat} {z n : Int} (h : UP l D c H0 sa μ) (u : mU μ a k z μ1) (q : μ1 106 39 = n) (ha : 127 ≤ a ∧ a ≤ 150) (hk : ((a = 127 ∨ a = 142) → n ≤ (k : Int)) ∧ ((a = 128 ∨ a = 129) → 31 * n ≤ (k : Int)) ∧ (132 ≤ a ∧ a ≤ 141 → 300 * n ≤ (k : Int)) ∧ ((a = 143 ∨ a = 144) → 41 * n ≤ (k : Int))) : UP l D c H0 sa μ1 := fun d p x b y y' _ g t ta tb tq => by
  have e39 : μ 106 39 = n := (u.2 106 39 (Or.inl (by omega))).symm.trans q
  rw [u.2 106 _ (Or.inl (by omega))] at b y' tb
  rw [u.2 161 _ (Or.inl (by omega))] at g
  rw [u.2 110 _ (Or.inl (by omega)), u.2 110 _ (Or.inl (by omega))] at tq
  refine (h d p x b y y' id g t ta tb tq).keep ta y (SC.up u ?_) (Int.le_of_eq (e39.trans q.symm))
  intro s
  rcases s with ⟨s, -⟩ | ⟨s, -⟩ | ⟨s, -⟩ | ⟨s, -⟩ | ⟨s, -⟩ | ⟨s, s'⟩ | ⟨s, s'⟩ | ⟨s, s'⟩ | ⟨s, s'⟩ | ⟨s, -⟩ | ⟨s, -⟩ | ⟨s, s', -⟩ | ⟨s, -⟩
  all_goals first | omega | (rw [e39] at s'; omega)
theorem UP.pol {z n : Int} (h : UP l D c H0 sa μ) (q : μ 106 39 = n) (u : mU μ 106 39 z μ1) (hz : n ≤ z) : UP l D c H0 sa μ1 := fun d p x b y y' _ g t ta tb tq => by
  rw [u.2 106 5 (Or.inr (by decide))] at b
  rw [u.2 106 2 (Or.inr (by decide))] at y'
  rw [u.2 106 6 (Or.inr (by decide))] at tb
  rw [u.2 161 _ (Or.inl (by decide))] at g
  rw [u.2 110 _ (Or.inl (by decide)), u.2 110 _ (Or.inl (by decide))] at tq
  refine (h d p x b y y' id g t ta tb tq).keep ta y (SC.up u ?_) (by rw [q, u.1]; exact hz)
  intro s
  rcases s with ⟨s, -⟩ | ⟨s, -⟩ | ⟨s, -⟩ | ⟨s, -⟩ | ⟨s, -⟩ | ⟨s, s'⟩ | ⟨s, s'⟩ | ⟨s, s'⟩ | ⟨s, s'⟩ | ⟨-, s⟩ | ⟨-, s⟩ | ⟨s, s', -⟩ | ⟨s, -⟩ <;> omega
theorem UP.tabE {a : Nat} {e z n : Int} (h : UP l D c H0 sa μ) (u : mU μ a e.toNat z μ1) (q : μ1 106 39 = n) (ha : 127 ≤ a ∧ a ≤ 150) (he : 0 ≤ e) (hk : ((a = 127 ∨ a = 142) → n ≤ e) ∧ ((a = 128 ∨ a = 129) → 31 * n ≤ e) ∧ (132 ≤ a ∧ a ≤ 141 → 300 * n ≤ e) ∧ ((a = 143 ∨ a = 144) → 41 * n ≤ e)) : UP l D c H0 sa μ1 :=
  h.tab u q ha ⟨fun k => by have := hk.1 k; omega, fun k => by have := hk.2.1 k; omega, fun k => by have := hk.2.2.1 k; omega, fun k => by have := hk.2.2.2 k; omega⟩
/-! why -/
theorem UP.nz {t p d n m v e0 e1 k : Int} (h : UP l D c H0 sa μ) (te : TE μ) (ht : 0 ≤ t) (q6 : μ 106 6 = n) (htn : t < n) (q0 : μ 110 (2 * t).toNat = e0) (q1 : μ 110 (2 * t + 1).toNat = e1) (he : e0 = d ∨ e1 = d) (hd : 0 ≤ d) (hp : 0 ≤ p) (q2 : μ 106 2 = m) (hpm : p < m) (qk : μ 161 k.toNat = v) (hk : k = 10 * d + p) (hv : v = -99999999) : NZ l D c H0 sa μ d t p := by
  have g0 := te (2 * t).toNat (by omega)
  have g1 := te (2 * t + 1).toNat (by omega)
  rw [q0] at g0
  rw [q1] at g1
  refine h d p hd (by omega) hp (by omega) id (by rw [← hk, qk]; exact hv) t ht (by omega) ?_
  rw [q0, q1]; exact he
set_option maxRecDepth 4000 in
theorem c_X12_candidate_z (hw : mWF w) (hT : mT w μ) {p1 : Int} (hp1 : 0 ≤ p1 ∧ p1 ≤ 9) {p2 : Int} (hp2 : 0 ≤ p2 ∧ p2 ≤ 19) {p3 : Int} (hp3 : 0 ≤ p3 ∧ p3 ≤ 9) {f_e0 : Int} (q_f_e0 : μ 110 ((2 * p2).toNat) = f_e0) {f_e1 : Int} (q_f_e1 : μ 110 (((2 * p2) + 1).toNat) = f_e1) {f_ties : Int} (q_f_ties : μ 106 6 = f_ties) (hq0 : p2 < f_ties) (hq1 : f_e0 = p1 ∨ f_e1 = p1) (hIJC : JC l D c H0 sa μ) (hIRP : RP μ) (hIPK : PK μ) (hnz : NZ l D c H0 sa μ p1 p2 p3) : sC (gG l D c H0 sa) mX12_candidate 7 0 0 [.ref 106, iv p1, iv p2, iv p3] (mk w μ) (qI w [106026, 106027, 106028, 106029, 106030, 106031, 126999, 151999, 152999, 153999] μ (fun z μ1 => ((-99999999) ≤ z ∧ z ≤ 10) ∧ mG [(((40 * p2) + 160), ((40 * p2) + 200))] μ μ1 ∧ JC l D c H0 sa μ1 ∧ RP μ1 ∧ (¬ z = 0) ∧ True)) := by
  have s0 : 0 ≤ sdOf μ p1 p2 ∧ sdOf μ p1 p2 ≤ 1 := by unfold sdOf; split <;> decide
  have hx2 : xOf μ p1 p2 p3 < μ 106 2 := (hIRP (rwOf μ p1 p2 p3) (by unfold rwOf; omega) (by unfold rwOf; omega)).2 (by unfold rwOf; omega)
  obtain ⟨z, νe, hz0, hz, ⟨⟨g1, g2, g3⟩, g4⟩, g6⟩ := hnz w μ hw hT hIJC (by rw [q_f_ties]; exact hq0) hx2 agr.refl
  refine g4.weak ?_
  rintro r hp' ⟨rfl, rfl⟩
  have g7 : RP νe := RP.row hIRP hw (WC.mF hw g3) rfl (p := 4 + p2) (by omega) (by rw [show (40 * (4 + p2)) = 40 * p2 + 160 by omega]; exact WC.mG g3) (by omega) rfl (by
    have h2 : 0 ≤ μ 106 2 := (hT 106 106 (A_106 hw) 2).1
    refine ⟨fun e => by omega, fun _ => ?_⟩
    rcases g6 with g6 | g6
    · omega
    · rw [g6]; exact hx2)
  exact ⟨z, νe, rfl, rfl, g1, WC.mF hw g3, hz, WC.mG g3, g2, g7, hz0, trivial⟩
end UIS
end
section
/-! All that stands between the calls, of the reference. -/
section UIT
variable {l : Launch} {D : va_G} {c : Nat → ClassId} {H0 : Heap} {sa : Nat × Nat × (Nat → Int32)} {w : mW} {μ μ1 : mM}
def UI (l : Launch) (D : va_G) (c : Nat → ClassId) (H0 : Heap) (sa : Nat × Nat × (Nat → Int32)) (μ : mM) : Prop := JC l D c H0 sa μ ∧ RP μ ∧ EP μ ∧ HP μ ∧ UP l D c H0 sa μ ∧ TE μ ∧ RR μ
def uiA (a : Nat) : Bool := (Nat.ble 108 a && Nat.ble a 112) || (Nat.beq a 115 || ((Nat.ble 119 a && Nat.ble a 129) || ((Nat.ble 132 a && Nat.ble a 144) || (Nat.beq a 157 || (Nat.beq a 159 || Nat.beq a 161)))))
def uiI (i : Nat) : Bool := Nat.beq i 2 || (Nat.beq i 5 || (Nat.beq i 6 || (Nat.beq i 17 || (Nat.beq i 18 || ((Nat.ble 26 i && Nat.ble i 31) || Nat.beq i 39)))))
theorem UI.eq (h : UI l D c H0 sa μ) (e1 : ∀ i : Nat, uiI i = true → μ1 106 i = μ 106 i) (e2 : ∀ a i : Nat, uiA a = true → μ1 a i = μ a i) : UI l D c H0 sa μ1 := by
  obtain ⟨h1, h2, h3, h4, h5, h6, h7⟩ := h
  have eA : ∀ a i : Nat, ((108 ≤ a ∧ a ≤ 112) ∨ a = 115 ∨ (119 ≤ a ∧ a ≤ 129) ∨ (132 ≤ a ∧ a ≤ 144) ∨ a = 157 ∨ a = 159 ∨ a = 161) → μ1 a i = μ a i := fun a i k => e2 a i (by
    simp only [uiA, Bool.or_eq_true, Bool.and_eq_true, Nat.ble_eq, Nat.beq_eq]; exact k)
  have a2 := e1 2 rfl
  have a5 := e1 5 rfl
  have a6 := e1 6 rfl
  have a17 := e1 17 rfl
  have a18 := e1 18 rfl
  have a39 := e1 39 rfl
  have aJ : ∀ i : Nat, 26 ≤ i → i ≤ 31 → μ1 106 i = μ 106 i := fun i x y => e1 i (by
    simp only [uiI, Bool.or_eq_true, Bool.and_eq_true, Nat.ble_eq, Nat.beq_eq]; omega)
  have sj : ∀ p : Int, agr (SJ μ p) μ μ1 := fun p a i s => by
    rcases s with ⟨rfl, rfl⟩ | ⟨s1, s2, -⟩ | ⟨s1, -⟩
    · exact a18
    · exact eA a i (by omega)
    · exact eA a i (by omega)
  refine ⟨h1.of (Int.le_of_eq a2.symm) aJ fun _ _ => sj _, fun r x y => ?_, fun s x y q => ?_, fun s x y q => ?_, fun d p x y x' y' _ q t ta tb tq => ?_, fun i x => ?_, fun i x => ?_⟩
  · rw [eA 126 _ (by omega), a2]; exact h2 r x y
  · rw [eA 157 _ (by omega), eA 159 _ (by omega)] at q
    rw [a2, eA 112 _ (by omega)]; exact h3 s x y q
  · rw [eA 126 _ (by omega)] at q
    rw [a2, a6, eA 112 _ (by omega)]; exact h4 s x y q
  · rw [a5] at y
    rw [a2] at y'
    rw [eA 161 _ (by omega)] at q
    rw [a6] at tb
    rw [eA 110 _ (by omega), eA 110 _ (by omega)] at tq
    refine (h5 d p x y x' y' id q t ta tb tq).keep ta x' (fun a i s => ?_) (Int.le_of_eq a39.symm)
    rcases s with ⟨rfl, -⟩ | ⟨rfl, -⟩ | ⟨rfl, -⟩ | ⟨rfl, -⟩ | ⟨rfl, -⟩ | ⟨s, -⟩ | ⟨s, -⟩ | ⟨s, -⟩ | ⟨s, -⟩ | ⟨rfl, rfl⟩ | s
    · exact eA _ i (by omega)
    · exact eA _ i (by omega)
    · exact eA _ i (by omega)
    · exact eA _ i (by omega)
    · exact eA _ i (by omega)
    · exact eA _ i (by omega)
    · exact eA _ i (by omega)
    · exact eA _ i (by omega)
    · exact eA _ i (by omega)
    · exact a17
    · exact sj _ a i s
  · rw [a6] at x
    rw [eA 110 _ (by omega), a5]; exact h6 i x
  · rw [a18] at x
    rw [eA 119 _ (by omega), a2]; exact h7 i x
theorem UI.sm (h : UI l D c H0 sa μ) (s : sM_ μ μ1) : UI l D c H0 sa μ1 := by
  refine h.eq (fun i k => s.1 i ?_) (fun a i k => ?_)
  · simp only [uiI, Bool.or_eq_true, Bool.and_eq_true, Nat.ble_eq, Nat.beq_eq] at k; omega
  · simp only [uiA, Bool.or_eq_true, Bool.and_eq_true, Nat.ble_eq, Nat.beq_eq] at k
    rw [s.2 a (by omega) (by omega)]
theorem sM_.ofF {lf : List Nat} (hw : mWF w) (F : mF lf w μ μ1) (h : isC lf = true) : sM_ μ μ1 := sM_.of hw (mX.fr (l := lf) mX.refl F (List.all_eq_true.mpr fun x hx => List.elem_iff.mpr hx)) h
/-- a step of the reference that touches nothing of it -/
def uiF (lf : List Nat) : Bool := lf.all fun x => !(Nat.ble 106000 x && Nat.blt x 107000 && uiI (x - 106000)) && !(uiA (x / 1000))
theorem UI.fr {lf : List Nat} (h : UI l D c H0 sa μ) (hw : mWF w) (F : mF lf w μ μ1) (hl : uiF lf = true) : UI l D c H0 sa μ1 := by
  have hall : ((List.range 192).all fun a => !(uiA a) || (Nat.beq (mSh0 a) a && mArr a)) = true := by decide +kernel
  have no : ∀ x : Nat, (Nat.ble 106000 x && Nat.blt x 107000 && uiI (x - 106000)) = true ∨ uiA (x / 1000) = true → lf.elem x = false := fun x hx => by
    cases hq : lf.elem x with
    | false => rfl
    | true =>
      have g := List.all_eq_true.mp hl x (List.elem_iff.mp hq)
      simp only [Bool.and_eq_true, Bool.not_eq_true'] at g
      rcases hx with hx | hx
      · rw [g.1] at hx; cases hx
      · rw [g.2] at hx; cases hx
  refine h.eq (fun i k => ?_) (fun a i k => ?_)
  · refine F 106 i ?_
    have e : mRg w 106 i = 106000 + i := by simp only [mRg, (A_106 hw).1]; rfl
    rw [e]
    have hi : i < 1000 := by simp only [uiI, Bool.or_eq_true, Bool.and_eq_true, Nat.ble_eq, Nat.beq_eq] at k; omega
    refine no _ (Or.inl ?_)
    rw [show 106000 + i - 106000 = i by omega, k, Nat.ble_eq_true_of_le (by omega), show Nat.blt (106000 + i) 107000 = true from Nat.ble_eq_true_of_le (by omega)]; rfl
  · have ha : a < 192 := by simp only [uiA, Bool.or_eq_true, Bool.and_eq_true, Nat.ble_eq, Nat.beq_eq] at k; omega
    have g := List.all_eq_true.mp hall a (List.mem_range.mpr ha)
    rw [k] at g
    simp only [Bool.not_true, Bool.false_or, Bool.and_eq_true] at g
    have es : w.2.1 a = a := (hw.1 a ha).trans (Nat.eq_of_beq_eq_true g.1)
    refine F a i ?_
    unfold mRg; rw [es, g.2]
    refine no _ (Or.inr ?_)
    show uiA ((1000 * a + 999) / 1000) = true
    rw [show (1000 * a + 999) / 1000 = a by omega]; exact k
theorem UI.dom (h : UI l D c H0 sa μ) (hw : mWF w) (hT1 : mT w μ1) (F : mF [106005] w μ μ1) (hd : μ 106 5 ≤ μ1 106 5) : UI l D c H0 sa μ1 := by
  obtain ⟨h1, h2, h3, h4, h5, h6, h7⟩ := h
  exact ⟨h1.keepJ hw F rfl, h2.keep (rs := []) hw F rfl (fun i _ => F.f (A_126 hw) rfl rfl) (fun _ h => absurd h List.not_mem_nil), h3.keep hw F rfl, h4.keep (rs := []) hw F rfl (fun i _ => F.f (A_126 hw) rfl rfl) (fun _ h => absurd h List.not_mem_nil), h5.dom h6 hw hT1 F hd, h6.dom hw F hd, h7.keep hw F rfl rfl rfl⟩
end UIT
end
section
theorem dX12_why_0 : decode cX12_why 0 = .ok (.aload_n 0, 1) := dc0 dO_42 (by decide +kernel)
theorem dX12_why_1 : decode cX12_why 1 = .ok (.iload_n 1, 1) := dc0 dO_27 (by decide +kernel)
theorem dX12_why_2 : decode cX12_why 2 = .ok (.invokevirtual 66, 3) := dcU2 dO_182 (by decide +kernel)
theorem dX12_why_5 : decode cX12_why 5 = .ok (.ifCond .eq 20, 3) := dcS2 dO_153 (by decide +kernel)
theorem dX12_why_8 : decode cX12_why 8 = .ok (.iload_n 2, 1) := dc0 dO_28 (by decide +kernel)
theorem dX12_why_9 : decode cX12_why 9 = .ok (.iconst 0, 1) := dc0 dO_3 (by decide +kernel)
theorem dX12_why_10 : decode cX12_why 10 = .ok (.iconst 1, 1) := dc0 dO_4 (by decide +kernel)
theorem dX12_why_11 : decode cX12_why 11 = .ok (.invokestatic 18, 3) := dcU2 dO_184 (by decide +kernel)
theorem dX12_why_14 : decode cX12_why 14 = .ok (.ifCond .eq 11, 3) := dcS2 dO_153 (by decide +kernel)
theorem dX12_why_17 : decode cX12_why 17 = .ok (.aload_n 0, 1) := dc0 dO_42 (by decide +kernel)
theorem dX12_why_18 : decode cX12_why 18 = .ok (.iload_n 3, 1) := dc0 dO_29 (by decide +kernel)
theorem dX12_why_19 : decode cX12_why 19 = .ok (.invokevirtual 92, 3) := dcU2 dO_182 (by decide +kernel)
theorem dX12_why_22 : decode cX12_why 22 = .ok (.ifCond .ne 5, 3) := dcS2 dO_154 (by decide +kernel)
theorem dX12_why_25 : decode cX12_why 25 = .ok (.iconst (-1), 1) := dc0 dO_2 (by decide +kernel)
theorem dX12_why_26 : decode cX12_why 26 = .ok (.ireturn, 1) := dc0 dO_172 (by decide +kernel)
theorem dX12_why_27 : decode cX12_why 27 = .ok (.aload_n 0, 1) := dc0 dO_42 (by decide +kernel)
theorem dX12_why_28 : decode cX12_why 28 = .ok (.getfield 40, 3) := dcU2 dO_180 (by decide +kernel)
theorem dX12_why_31 : decode cX12_why 31 = .ok (.iconst 2, 1) := dc0 dO_5 (by decide +kernel)
theorem dX12_why_32 : decode cX12_why 32 = .ok (.iload_n 1, 1) := dc0 dO_27 (by decide +kernel)
theorem dX12_why_33 : decode cX12_why 33 = .ok (.imul, 1) := dc0 dO_104 (by decide +kernel)
theorem dX12_why_34 : decode cX12_why 34 = .ok (.iload_n 2, 1) := dc0 dO_28 (by decide +kernel)
theorem dX12_why_35 : decode cX12_why 35 = .ok (.iadd, 1) := dc0 dO_96 (by decide +kernel)
theorem dX12_why_36 : decode cX12_why 36 = .ok (.iaload, 1) := dc0 dO_46 (by decide +kernel)
theorem dX12_why_37 : decode cX12_why 37 = .ok (.istore 4, 2) := dcU1 dO_54 (by decide +kernel)
theorem dX12_why_39 : decode cX12_why 39 = .ok (.aload_n 0, 1) := dc0 dO_42 (by decide +kernel)
theorem dX12_why_40 : decode cX12_why 40 = .ok (.sipush 130, 3) := dcS2 dO_17 (by decide +kernel)
theorem dX12_why_43 : decode cX12_why 43 = .ok (.iload_n 1, 1) := dc0 dO_27 (by decide +kernel)
theorem dX12_why_44 : decode cX12_why 44 = .ok (.iload_n 2, 1) := dc0 dO_28 (by decide +kernel)
theorem dX12_why_45 : decode cX12_why 45 = .ok (.iload_n 3, 1) := dc0 dO_29 (by decide +kernel)
theorem dX12_why_46 : decode cX12_why 46 = .ok (.invokestatic 545, 3) := dcU2 dO_184 (by decide +kernel)
theorem dX12_why_49 : decode cX12_why 49 = .ok (.iadd, 1) := dc0 dO_96 (by decide +kernel)
theorem dX12_why_50 : decode cX12_why 50 = .ok (.invokevirtual 151, 3) := dcU2 dO_182 (by decide +kernel)
theorem dX12_why_53 : decode cX12_why 53 = .ok (.ifCond .ne 6, 3) := dcS2 dO_154 (by decide +kernel)
theorem dX12_why_56 : decode cX12_why 56 = .ok (.ldc 29, 2) := dcU1 dO_18 (by decide +kernel)
theorem dX12_why_58 : decode cX12_why 58 = .ok (.ireturn, 1) := dc0 dO_172 (by decide +kernel)
theorem dX12_why_59 : decode cX12_why 59 = .ok (.bipush 10, 2) := dcS1 dO_16 (by decide +kernel)
theorem dX12_why_61 : decode cX12_why 61 = .ok (.iload 4, 2) := dcU1 dO_21 (by decide +kernel)
theorem dX12_why_63 : decode cX12_why 63 = .ok (.imul, 1) := dc0 dO_104 (by decide +kernel)
theorem dX12_why_64 : decode cX12_why 64 = .ok (.iload_n 3, 1) := dc0 dO_29 (by decide +kernel)
theorem dX12_why_65 : decode cX12_why 65 = .ok (.iadd, 1) := dc0 dO_96 (by decide +kernel)
theorem dX12_why_66 : decode cX12_why 66 = .ok (.istore 5, 2) := dcU1 dO_54 (by decide +kernel)
theorem dX12_why_68 : decode cX12_why 68 = .ok (.aload_n 0, 1) := dc0 dO_42 (by decide +kernel)
theorem dX12_why_69 : decode cX12_why 69 = .ok (.getfield 445, 3) := dcU2 dO_180 (by decide +kernel)
theorem dX12_why_72 : decode cX12_why 72 = .ok (.iload 5, 2) := dcU1 dO_21 (by decide +kernel)
theorem dX12_why_74 : decode cX12_why 74 = .ok (.iaload, 1) := dc0 dO_46 (by decide +kernel)
theorem dX12_why_75 : decode cX12_why 75 = .ok (.iload_n 1, 1) := dc0 dO_27 (by decide +kernel)
theorem dX12_why_76 : decode cX12_why 76 = .ok (.if_icmp .ne 5, 3) := dcS2 dO_160 (by decide +kernel)
theorem dX12_why_79 : decode cX12_why 79 = .ok (.iconst 0, 1) := dc0 dO_3 (by decide +kernel)
theorem dX12_why_80 : decode cX12_why 80 = .ok (.ireturn, 1) := dc0 dO_172 (by decide +kernel)
theorem dX12_why_81 : decode cX12_why 81 = .ok (.aload_n 0, 1) := dc0 dO_42 (by decide +kernel)
theorem dX12_why_82 : decode cX12_why 82 = .ok (.getfield 445, 3) := dcU2 dO_180 (by decide +kernel)
theorem dX12_why_85 : decode cX12_why 85 = .ok (.iload 5, 2) := dcU1 dO_21 (by decide +kernel)
theorem dX12_why_87 : decode cX12_why 87 = .ok (.iaload, 1) := dc0 dO_46 (by decide +kernel)
theorem dX12_why_88 : decode cX12_why 88 = .ok (.bipush (-4), 2) := dcS1 dO_16 (by decide +kernel)
theorem dX12_why_90 : decode cX12_why 90 = .ok (.if_icmp .ne 6, 3) := dcS2 dO_160 (by decide +kernel)
theorem dX12_why_93 : decode cX12_why 93 = .ok (.bipush 8, 2) := dcS1 dO_16 (by decide +kernel)
theorem dX12_why_95 : decode cX12_why 95 = .ok (.ireturn, 1) := dc0 dO_172 (by decide +kernel)
theorem dX12_why_96 : decode cX12_why 96 = .ok (.aload_n 0, 1) := dc0 dO_42 (by decide +kernel)
theorem dX12_why_97 : decode cX12_why 97 = .ok (.iload 4, 2) := dcU1 dO_21 (by decide +kernel)
theorem dX12_why_99 : decode cX12_why 99 = .ok (.iload_n 1, 1) := dc0 dO_27 (by decide +kernel)
theorem dX12_why_100 : decode cX12_why 100 = .ok (.iload_n 3, 1) := dc0 dO_29 (by decide +kernel)
theorem dX12_why_101 : decode cX12_why 101 = .ok (.invokevirtual 565, 3) := dcU2 dO_182 (by decide +kernel)
theorem dX12_why_104 : decode cX12_why 104 = .ok (.istore 6, 2) := dcU1 dO_54 (by decide +kernel)
theorem dX12_why_106 : decode cX12_why 106 = .ok (.iload 6, 2) := dcU1 dO_21 (by decide +kernel)
theorem dX12_why_108 : decode cX12_why 108 = .ok (.ifCond .eq 6, 3) := dcS2 dO_153 (by decide +kernel)
theorem dX12_why_111 : decode cX12_why 111 = .ok (.iload 6, 2) := dcU1 dO_21 (by decide +kernel)
theorem dX12_why_113 : decode cX12_why 113 = .ok (.ireturn, 1) := dc0 dO_172 (by decide +kernel)
theorem dX12_why_114 : decode cX12_why 114 = .ok (.aload_n 0, 1) := dc0 dO_42 (by decide +kernel)
theorem dX12_why_115 : decode cX12_why 115 = .ok (.getfield 445, 3) := dcU2 dO_180 (by decide +kernel)
theorem dX12_why_118 : decode cX12_why 118 = .ok (.iload 5, 2) := dcU1 dO_21 (by decide +kernel)
theorem dX12_why_120 : decode cX12_why 120 = .ok (.iaload, 1) := dc0 dO_46 (by decide +kernel)
theorem dX12_why_121 : decode cX12_why 121 = .ok (.istore 7, 2) := dcU1 dO_54 (by decide +kernel)
theorem dX12_why_123 : decode cX12_why 123 = .ok (.aload_n 0, 1) := dc0 dO_42 (by decide +kernel)
theorem dX12_why_124 : decode cX12_why 124 = .ok (.iload 4, 2) := dcU1 dO_21 (by decide +kernel)
theorem dX12_why_126 : decode cX12_why 126 = .ok (.iconst 4, 1) := dc0 dO_7 (by decide +kernel)
theorem dX12_why_127 : decode cX12_why 127 = .ok (.iload_n 1, 1) := dc0 dO_27 (by decide +kernel)
theorem sfx_cX12_why_128 : (cX12_why.data.toList.drop 128).take 67 = [96, 27, 16, 30, 21, 5, 96, 21, 7, 29, 182, 2, 37, 54, 8, 21, 8, 154, 0, 8, 16, 7, 167, 0, 16, 21, 8, 156, 0, 9, 21, 8, 116, 167, 0, 5, 21, 8, 172] := by decide +kernel
theorem dX12_why_128 : decode cX12_why 128 = .ok (.iadd, 1) := dc0 dO_96 (rdB.ch sfx_cX12_why_128 0 rfl (by decide +kernel))
theorem dX12_why_129 : decode cX12_why 129 = .ok (.iload_n 1, 1) := dc0 dO_27 (rdB.ch sfx_cX12_why_128 1 rfl (by decide +kernel))
theorem dX12_why_130 : decode cX12_why 130 = .ok (.bipush 30, 2) := dcS1 dO_16 (rdS1.ch sfx_cX12_why_128 2 rfl (by decide +kernel))
theorem dX12_why_132 : decode cX12_why 132 = .ok (.iload 5, 2) := dcU1 dO_21 (rdU1.ch sfx_cX12_why_128 4 rfl (by decide +kernel))
theorem dX12_why_134 : decode cX12_why 134 = .ok (.iadd, 1) := dc0 dO_96 (rdB.ch sfx_cX12_why_128 6 rfl (by decide +kernel))
theorem dX12_why_135 : decode cX12_why 135 = .ok (.iload 7, 2) := dcU1 dO_21 (rdU1.ch sfx_cX12_why_128 7 rfl (by decide +kernel))
theorem dX12_why_137 : decode cX12_why 137 = .ok (.iload_n 3, 1) := dc0 dO_29 (rdB.ch sfx_cX12_why_128 9 rfl (by decide +kernel))
theorem dX12_why_138 : decode cX12_why 138 = .ok (.invokevirtual 549, 3) := dcU2 dO_182 (rdU2.ch sfx_cX12_why_128 10 rfl (by decide +kernel))
theorem dX12_why_141 : decode cX12_why 141 = .ok (.istore 8, 2) := dcU1 dO_54 (rdU1.ch sfx_cX12_why_128 13 rfl (by decide +kernel))
theorem dX12_why_143 : decode cX12_why 143 = .ok (.iload 8, 2) := dcU1 dO_21 (rdU1.ch sfx_cX12_why_128 15 rfl (by decide +kernel))
theorem dX12_why_145 : decode cX12_why 145 = .ok (.ifCond .ne 8, 3) := dcS2 dO_154 (rdS2.ch sfx_cX12_why_128 17 rfl (by decide +kernel))
theorem dX12_why_148 : decode cX12_why 148 = .ok (.bipush 7, 2) := dcS1 dO_16 (rdS1.ch sfx_cX12_why_128 20 rfl (by decide +kernel))
theorem dX12_why_150 : decode cX12_why 150 = .ok (.goto 16, 3) := dcS2 dO_167 (rdS2.ch sfx_cX12_why_128 22 rfl (by decide +kernel))
theorem dX12_why_153 : decode cX12_why 153 = .ok (.iload 8, 2) := dcU1 dO_21 (rdU1.ch sfx_cX12_why_128 25 rfl (by decide +kernel))
theorem dX12_why_155 : decode cX12_why 155 = .ok (.ifCond .ge 9, 3) := dcS2 dO_156 (rdS2.ch sfx_cX12_why_128 27 rfl (by decide +kernel))
theorem dX12_why_158 : decode cX12_why 158 = .ok (.iload 8, 2) := dcU1 dO_21 (rdU1.ch sfx_cX12_why_128 30 rfl (by decide +kernel))
theorem dX12_why_160 : decode cX12_why 160 = .ok (.ineg, 1) := dc0 dO_116 (rdB.ch sfx_cX12_why_128 32 rfl (by decide +kernel))
theorem dX12_why_161 : decode cX12_why 161 = .ok (.goto 5, 3) := dcS2 dO_167 (rdS2.ch sfx_cX12_why_128 33 rfl (by decide +kernel))
theorem dX12_why_164 : decode cX12_why 164 = .ok (.iload 8, 2) := dcU1 dO_21 (rdU1.ch sfx_cX12_why_128 36 rfl (by decide +kernel))
theorem dX12_why_166 : decode cX12_why 166 = .ok (.ireturn, 1) := dc0 dO_172 (rdB.ch sfx_cX12_why_128 38 rfl (by decide +kernel))
end
section
theorem vc_X12_isSo_u_7 {f_pre f_x : Int} (h0 : 0 ≤ f_x) (h1 : f_x < f_pre) (h2 : 1 ≤ f_pre ∧ f_pre ≤ 10) (h3 : 0 ≤ f_x ∧ f_x ≤ 9) : f_x < f_pre := by omega
set_option maxRecDepth 4000 in
set_option maxHeartbeats 4000000 in
theorem c_X12_isSo_u {l : Launch} {D : va_G} {c : Nat → ClassId} {H0 : Heap} {sa : Nat × Nat × (Nat → Int32)} {w : mW} {μ : mM} (hw : mWF w) (hT : mT w μ) {p1 : Int} (hp1 : 0 ≤ p1 ∧ p1 ≤ 11) {p2 : Int} (hp2 : 0 ≤ p2 ∧ p2 ≤ 3899) {p3 : Int} (hp3 : 0 ≤ p3 ∧ p3 ≤ 2099) {p4 : Int} (hp4 : (-2147483648) ≤ p4 ∧ p4 ≤ 2147483647) {p5 : Int} (hp5 : (-2147483648) ≤ p5 ∧ p5 ≤ 2147483647) {g1 : Int} (hg1 : 0 ≤ g1 ∧ g1 ≤ 19) {f_e0 : Int} (q_f_e0 : μ 110 ((2 * g1).toNat) = f_e0) {f_e1 : Int} (q_f_e1 : μ 110 (((2 * g1) + 1).toNat) = f_e1) {f_ties : Int} (q_f_ties : μ 106 6 = f_ties) {f_x : Int} (q_f_x : μ 126 ((40 * p3).toNat) = f_x) {f_pre : Int} (q_f_pre : μ 106 2 = f_pre) (hq0 : g1 < f_ties) (hq1 : (f_e0 = p4 ∧ f_e1 = p5) ∨ (f_e0 = p5 ∧ f_e1 = p4)) (hq2 : 0 ≤ f_x) (hq3 : f_x < f_pre) (hIJC : JC l D c H0 sa μ) : sC (gG l D c H0 sa) mX12_isSo 5 0 0 [.ref 106, iv p1, iv p2, iv p3, iv p4, iv p5] (mk w μ) (qI w [106026, 106027, 106028, 106029, 106030, 106031] μ (fun z μ1 => (0 ≤ z ∧ z ≤ 1) ∧ JC l D c H0 sa μ1 ∧ True)) := by
  refine sC.of rfl (by decide) (le_t rfl) ?_
  have ht_f_e0 : (0 ≤ f_e0 ∧ f_e0 ≤ 9) := by rw [← q_f_e0]; exact hT 110 110 (A_110 hw) ((2 * g1).toNat)
  have ht_f_e1 : (0 ≤ f_e1 ∧ f_e1 ≤ 9) := by rw [← q_f_e1]; exact hT 110 110 (A_110 hw) (((2 * g1) + 1).toNat)
  have ht_f_ties : (0 ≤ f_ties ∧ f_ties ≤ 20) := by rw [← q_f_ties]; exact hT 106 106 (A_106 hw) 6
  have ht_f_x := rt7 hT (A_126 hw) (vc_X12_copy_1 hp3) q_f_x
  have h1 : (-1) ≤ f_x ∧ f_x ≤ 9 := ht_f_x.2.1 (vc_X12_copy_2 hp3)
  have ht_f_pre : (0 ≤ f_pre ∧ f_pre ≤ 10) := by rw [← q_f_pre]; exact hT 106 106 (A_106 hw) 2
  have h2 : 1 ≤ f_ties ∧ f_ties ≤ 20 := (vc_X3_putAttributes_11 hq0 ht_f_ties hg1)
  have h3 : 0 ≤ f_x ∧ f_x ≤ 9 := (vc_X12_isThere_6 hq2 h1)
  have h4 : 1 ≤ f_pre ∧ f_pre ≤ 10 := (vc_X11_isPrefix_8 hq3 hq2 ht_f_pre h3)
  refine mr_lvE (lv' := [(0, .ref 106), (1, iv p1), (2, iv p2), (3, iv p3), (4, iv p4), (5, iv p5)]) rfl ?_
  refine sv_aload_n (pc := 0) dX12_isSo_0 rfl rfl ?_
  refine gf_X12_32 (pc := 1) dX12_isSo_1 wF_X12_148 (A_106 hw) hT ?_
  refine mr_bipush (pc := 4) (z := 40) dX12_isSo_4 (by decide) ?_
  refine mr_iload_n (pc := 6) (z := p3) dX12_isSo_6 rfl rfl ?_
  refine mr_imul (pc := 7) (x := 40) (y := p3) dX12_isSo_7 ?_
  refine lk_126 (pc := 8) dX12_isSo_8 (A_126 hw) (rIx (n := 84000) (rMulL (n := 40) (e := 0) (f := 83960) hp3 rfl) rfl) q_f_x ?_
  refine mr_istore (pc := 9) (lv' := [(6, iv f_x), (0, .ref 106), (1, iv p1), (2, iv p2), (3, iv p3), (4, iv p4), (5, iv p5)]) dX12_isSo_9 (by decide) rfl ?_
  refine sv_aload_n (pc := 11) dX12_isSo_11 rfl rfl ?_
  refine gf_X12_32 (pc := 12) dX12_isSo_12 wF_X12_148 (A_106 hw) hT ?_
  refine mr_bipush (pc := 15) (z := 40) dX12_isSo_15 (by decide) ?_
  refine mr_iload_n (pc := 17) (z := p3) dX12_isSo_17 rfl rfl ?_
  refine mr_imul (pc := 18) (x := 40) (y := p3) dX12_isSo_18 ?_
  refine mr_iconst (pc := 19) (z := 4) dX12_isSo_19 ?_
  refine mr_iadd (pc := 20) (x := (40 * p3)) (y := 4) dX12_isSo_20 ?_
  refine la_126 (pc := 21) dX12_isSo_21 (A_126 hw) hT (rIx (n := 84000) (rAdd (e := 4) (f := 83964) (rMulL (n := 40) (e := 0) (f := 83960) hp3 rfl) (rR (x := 4)) rfl) rfl) fun z443 q444 h445 => ?_
  have h446 : 0 ≤ z443 ∧ z443 ≤ 20 := h445.2.2.1 (vc_X12_same_33 hp3)
  refine mr_istore (pc := 22) (lv' := [(8, iv z443), (6, iv f_x), (0, .ref 106), (1, iv p1), (2, iv p2), (3, iv p3), (4, iv p4), (5, iv p5)]) dX12_isSo_22 (by decide) rfl ?_
  refine sv_aload_n (pc := 24) dX12_isSo_24 rfl rfl ?_
  refine gf_X12_45 (pc := 25) dX12_isSo_25 wF_X12_323 (A_106 hw) hT ?_
  refine mr_iload_n (pc := 28) (z := p2) dX12_isSo_28 rfl rfl ?_
  refine la_132 (pc := 29) dX12_isSo_29 (A_132 hw) hT (rIx (n := 3900) hp2 rfl) fun z447 q448 h449 => ?_
  refine mr_iconst (pc := 30) (z := 4) dX12_isSo_30 ?_
  have J586 : ∀ (z579 : Int) (μ581 : mM), (mT w μ581) → (mF [106026, 106027, 106028, 106029, 106030, 106031] w μ μ581) → ((0 ≤ z579 ∧ z579 ≤ 1)) → (JC l D c H0 sa μ581) → sV (gG l D c H0 sa) mX12_isSo (sRm 5 0 0) (sZ (gG l D c H0 sa) 0 0 (qI w [106026, 106027, 106028, 106029, 106030, 106031] μ (fun z μ1 => (0 ≤ z ∧ z ≤ 1) ∧ JC l D c H0 sa μ1 ∧ True))) 462 [(0, .ref 106), (2, iv p2), (7, iv z579)] [] (mk w μ581) 0 0 := by
    intro z579 μ581 T582 F583 h580 I585
    refine mr_iload (pc := 462) (z := z579) dX12_isSo_462 rfl ?_
    refine sv_aload_n (pc := 464) dX12_isSo_464 rfl rfl ?_
    refine gf_X12_46 (pc := 465) dX12_isSo_465 wF_X12_326 (A_106 hw) T582 ?_
    refine mr_iload_n (pc := 468) (z := p2) dX12_isSo_468 rfl rfl ?_
    refine la_133 (pc := 469) dX12_isSo_469 (A_133 hw) T582 (rIx (n := 3900) hp2 rfl) fun z587 q588 h589 => ?_
    refine mr_icmp_eq (pc := 470) (tgt := 477) dX12_isSo_470 (by decide) (r32 h580 rfl) (r32 h589 rfl) (fun h590 => ?_) (fun h590 => ?_)
    · refine mr_iconst (pc := 477) (z := 0) dX12_isSo_477 ?_
      exact mr_zret dX12_isSo_478 rfl (rW (c := 0) (d := 1) (rR (x := 0)) rfl) (le_t rfl) (le_t rfl) T582 (mF.call mF.refl F583 rfl) ⟨(rW (c := 0) (d := 1) (rR (x := 0)) rfl), I585, trivial⟩
    refine mr_iconst (pc := 473) (z := 1) dX12_isSo_473 ?_
    refine sv_goto (pc := 474) (tgt := 478) dX12_isSo_474 (by decide) ?_
    exact mr_zret dX12_isSo_478 rfl (rW (c := 0) (d := 1) (rR (x := 1)) rfl) (le_t rfl) (le_t rfl) T582 (mF.call mF.refl F583 rfl) ⟨(rW (c := 0) (d := 1) (rR (x := 1)) rfl), I585, trivial⟩
  refine mr_icmp_ne (pc := 31) (tgt := 101) dX12_isSo_31 (by decide) h449 (r32 (rR (x := 4)) rfl) (fun h591 => ?_) (fun h591 => ?_)
  · refine sv_aload_n (pc := 101) dX12_isSo_101 rfl rfl ?_
    refine gf_X12_45 (pc := 102) dX12_isSo_102 wF_X12_323 (A_106 hw) hT ?_
    refine mr_iload_n (pc := 105) (z := p2) dX12_isSo_105 rfl rfl ?_
    refine lk_132 (pc := 106) dX12_isSo_106 (A_132 hw) (rIx (n := 3900) hp2 rfl) q448 ?_
    refine mr_bipush (pc := 107) (z := 6) dX12_isSo_107 (by decide) ?_
    refine mr_icmp_ne (pc := 109) (tgt := 124) dX12_isSo_109 (by decide) h449 (r32 (rR (x := 6)) rfl) (fun h592 => ?_) (fun h592 => ?_)
    · refine sv_aload_n (pc := 124) dX12_isSo_124 rfl rfl ?_
      refine gf_X12_45 (pc := 125) dX12_isSo_125 wF_X12_323 (A_106 hw) hT ?_
      refine mr_iload_n (pc := 128) (z := p2) dX12_isSo_128 rfl rfl ?_
      refine lk_132 (pc := 129) dX12_isSo_129 (A_132 hw) (rIx (n := 3900) hp2 rfl) q448 ?_
      refine mr_bipush (pc := 130) (z := 8) dX12_isSo_130 (by decide) ?_
      refine mr_icmp_ne (pc := 132) (tgt := 151) dX12_isSo_132 (by decide) h449 (r32 (rR (x := 8)) rfl) (fun h593 => ?_) (fun h593 => ?_)
      · refine sv_aload_n (pc := 151) dX12_isSo_151 rfl rfl ?_
        refine gf_X12_45 (pc := 152) dX12_isSo_152 wF_X12_323 (A_106 hw) hT ?_
        refine mr_iload_n (pc := 155) (z := p2) dX12_isSo_155 rfl rfl ?_
        refine lk_132 (pc := 156) dX12_isSo_156 (A_132 hw) (rIx (n := 3900) hp2 rfl) q448 ?_
        refine mr_bipush (pc := 157) (z := 9) dX12_isSo_157 (by decide) ?_
        refine mr_icmp_ne (pc := 159) (tgt := 183) dX12_isSo_159 (by decide) h449 (r32 (rR (x := 9)) rfl) (fun h594 => ?_) (fun h594 => ?_)
        · refine sv_aload_n (pc := 183) dX12_isSo_183 rfl rfl ?_
          refine gf_X12_45 (pc := 184) dX12_isSo_184 wF_X12_323 (A_106 hw) hT ?_
          refine mr_iload_n (pc := 187) (z := p2) dX12_isSo_187 rfl rfl ?_
          refine lk_132 (pc := 188) dX12_isSo_188 (A_132 hw) (rIx (n := 3900) hp2 rfl) q448 ?_
          refine mr_bipush (pc := 189) (z := 10) dX12_isSo_189 (by decide) ?_
          refine mr_icmp_ne (pc := 191) (tgt := 221) dX12_isSo_191 (by decide) h449 (r32 (rR (x := 10)) rfl) (fun h595 => ?_) (fun h595 => ?_)
          · refine sv_aload_n (pc := 221) dX12_isSo_221 rfl rfl ?_
            refine gf_X12_45 (pc := 222) dX12_isSo_222 wF_X12_323 (A_106 hw) hT ?_
            refine mr_iload_n (pc := 225) (z := p2) dX12_isSo_225 rfl rfl ?_
            refine lk_132 (pc := 226) dX12_isSo_226 (A_132 hw) (rIx (n := 3900) hp2 rfl) q448 ?_
            refine mr_bipush (pc := 227) (z := 11) dX12_isSo_227 (by decide) ?_
            refine mr_icmp_ne (pc := 229) (tgt := 255) dX12_isSo_229 (by decide) h449 (r32 (rR (x := 11)) rfl) (fun h596 => ?_) (fun h596 => ?_)
            · refine sv_aload_n (pc := 255) dX12_isSo_255 rfl rfl ?_
              refine gf_X12_45 (pc := 256) dX12_isSo_256 wF_X12_323 (A_106 hw) hT ?_
              refine mr_iload_n (pc := 259) (z := p2) dX12_isSo_259 rfl rfl ?_
              refine lk_132 (pc := 260) dX12_isSo_260 (A_132 hw) (rIx (n := 3900) hp2 rfl) q448 ?_
              refine mr_bipush (pc := 261) (z := 12) dX12_isSo_261 (by decide) ?_
              refine mr_icmp_ne (pc := 263) (tgt := 298) dX12_isSo_263 (by decide) h449 (r32 (rR (x := 12)) rfl) (fun h597 => ?_) (fun h597 => ?_)
              · refine sv_aload_n (pc := 298) dX12_isSo_298 rfl rfl ?_
                refine gf_X12_45 (pc := 299) dX12_isSo_299 wF_X12_323 (A_106 hw) hT ?_
                refine mr_iload_n (pc := 302) (z := p2) dX12_isSo_302 rfl rfl ?_
                refine lk_132 (pc := 303) dX12_isSo_303 (A_132 hw) (rIx (n := 3900) hp2 rfl) q448 ?_
                refine mr_bipush (pc := 304) (z := 13) dX12_isSo_304 (by decide) ?_
                refine mr_icmp_ne (pc := 306) (tgt := 341) dX12_isSo_306 (by decide) h449 (r32 (rR (x := 13)) rfl) (fun h598 => ?_) (fun h598 => ?_)
                · refine sv_aload_n (pc := 341) dX12_isSo_341 rfl rfl ?_
                  refine gf_X12_45 (pc := 342) dX12_isSo_342 wF_X12_323 (A_106 hw) hT ?_
                  refine mr_iload_n (pc := 345) (z := p2) dX12_isSo_345 rfl rfl ?_
                  refine lk_132 (pc := 346) dX12_isSo_346 (A_132 hw) (rIx (n := 3900) hp2 rfl) q448 ?_
                  refine mr_bipush (pc := 347) (z := 14) dX12_isSo_347 (by decide) ?_
                  refine mr_icmp_ne (pc := 349) (tgt := 382) dX12_isSo_349 (by decide) h449 (r32 (rR (x := 14)) rfl) (fun h599 => ?_) (fun h599 => ?_)
                  · refine sv_aload_n (pc := 382) dX12_isSo_382 rfl rfl ?_
                    refine mr_iload (pc := 383) (z := f_x) dX12_isSo_383 rfl ?_
                    refine mr_iload (pc := 385) (z := z443) dX12_isSo_385 rfl ?_
                    have J607 : ∀ (z605 : Int), (((-2147483648) ≤ z605 ∧ z605 ≤ 2147483647)) → sV (gG l D c H0 sa) mX12_isSo (sRm 5 0 0) (sZ (gG l D c H0 sa) 0 0 (qI w [106026, 106027, 106028, 106029, 106030, 106031] μ (fun z μ1 => (0 ≤ z ∧ z ≤ 1) ∧ JC l D c H0 sa μ1 ∧ True))) 409 [(0, .ref 106), (2, iv p2)] [iv z605, iv f_x, .ref 106] (mk w μ) 0 0 := by
                      intro z605 h606
                      refine sv_aload_n (pc := 409) dX12_isSo_409 rfl rfl ?_
                      refine gf_X12_17 (pc := 410) dX12_isSo_410 wF_X12_85 (A_106 hw) hT fun z608 q609 h610 => ?_
                      refine sv_aload_n (pc := 413) dX12_isSo_413 rfl rfl ?_
                      refine gk_X12_17 (pc := 414) dX12_isSo_414 wF_X12_85 (A_106 hw) q609 ?_
                      refine mr_cVI (pc := 417) (c_X12_judged_u hw hT h3 h606 (rW (c := (-2147483648)) (d := 2147483647) h610 rfl) (rW (c := (-2147483648)) (d := 2147483647) h610 rfl) q_f_pre (vc_X12_isSo_u_7 hq2 hq3 h4 h3) hIJC) (gOk _ _ _ _ _) dX12_isSo_417 (tX12_judged _ _ _ _ _) ⟨wV_X12_judged, wL_X12_judged⟩ wM_X12_145 (gCX12 _ _ _ _ _) rfl (A_106 hw) rfl ⟨le_t rfl, le_t rfl⟩ ⟨le_t rfl, le_t rfl⟩ rfl (le_t rfl) fun z615 μ611 T612 F613 h614 => ?_
                      refine mr_istore (pc := 420) (lv' := [(9, iv z615), (0, .ref 106), (2, iv p2)]) dX12_isSo_420 (by decide) rfl ?_
                      refine sv_aload_n (pc := 422) dX12_isSo_422 rfl rfl ?_
                      refine gf_X12_47 (pc := 423) dX12_isSo_423 wF_X12_329 (A_106 hw) T612 ?_
                      refine mr_iload_n (pc := 426) (z := p2) dX12_isSo_426 rfl rfl ?_
                      refine la_134 (pc := 427) dX12_isSo_427 (A_134 hw) T612 (rIx (n := 3900) hp2 rfl) fun z616 q617 h618 => ?_
                      refine mr_iload (pc := 428) (z := z615) dX12_isSo_428 rfl ?_
                      refine mr_iconst (pc := 430) (z := 1) dX12_isSo_430 ?_
                      refine mr_icmp_ne (pc := 431) (tgt := 439) dX12_isSo_431 (by decide) (r32 h614.1 rfl) (r32 (rR (x := 1)) rfl) (fun h622 => ?_) (fun h622 => ?_)
                      · refine mr_iload (pc := 439) (z := z615) dX12_isSo_439 rfl ?_
                        refine mr_iconst (pc := 441) (z := 2) dX12_isSo_441 ?_
                        refine mr_icmp_ne (pc := 442) (tgt := 450) dX12_isSo_442 (by decide) (r32 h614.1 rfl) (r32 (rR (x := 2)) rfl) (fun h625 => ?_) (fun h625 => ?_)
                        · have h626 : 0 ≤ z615 ∧ z615 ≤ 1 := (vc_X9_partnerRole_1 h625 h622 h614.1)
                          refine mr_bipush (pc := 450) (z := 22) dX12_isSo_450 (by decide) ?_
                          refine mr_icmp_ne (pc := 452) (tgt := 459) dX12_isSo_452 (by decide) h618 (r32 (rR (x := 22)) rfl) (fun h628 => ?_) (fun h628 => ?_)
                          · refine mr_iconst (pc := 459) (z := 0) dX12_isSo_459 ?_
                            refine mr_istore (pc := 460) (lv' := [(7, iv 0), (9, iv z615), (0, .ref 106), (2, iv p2)]) dX12_isSo_460 (by decide) rfl ?_
                            refine mr_lvS (lv' := [(0, .ref 106), (2, iv p2), (7, iv 0)]) (List.forall_mem_cons.mpr ⟨rfl, List.forall_mem_cons.mpr ⟨rfl, List.forall_mem_cons.mpr ⟨rfl, fun _ h => absurd h List.not_mem_nil⟩⟩⟩) ?_
                            exact J586 0 μ611 T612 (mF.call mF.refl F613 rfl) (rW (c := 0) (d := 1) (rR (x := 0)) rfl) h614.2.1
                          have h629 : 22 ≤ z616 ∧ z616 ≤ 22 := (vc_X12_isSo_7 h628 h618)
                          refine mr_iconst (pc := 455) (z := 1) dX12_isSo_455 ?_
                          refine sv_goto (pc := 456) (tgt := 460) dX12_isSo_456 (by decide) ?_
                          refine mr_istore (pc := 460) (lv' := [(7, iv 1), (9, iv z615), (0, .ref 106), (2, iv p2)]) dX12_isSo_460 (by decide) rfl ?_
                          refine mr_lvS (lv' := [(0, .ref 106), (2, iv p2), (7, iv 1)]) (List.forall_mem_cons.mpr ⟨rfl, List.forall_mem_cons.mpr ⟨rfl, List.forall_mem_cons.mpr ⟨rfl, fun _ h => absurd h List.not_mem_nil⟩⟩⟩) ?_
                          exact J586 1 μ611 T612 (mF.call mF.refl F613 rfl) (rW (c := 0) (d := 1) (rR (x := 1)) rfl) h614.2.1
                        have h630 : 2 ≤ z615 ∧ z615 ≤ 2 := (vc_X9_partnerRole_3 h625 h622 h614.1)
                        refine mr_bipush (pc := 445) (z := 21) dX12_isSo_445 (by decide) ?_
                        refine sv_goto (pc := 447) (tgt := 452) dX12_isSo_447 (by decide) ?_
                        refine mr_icmp_ne (pc := 452) (tgt := 459) dX12_isSo_452 (by decide) h618 (r32 (rR (x := 21)) rfl) (fun h632 => ?_) (fun h632 => ?_)
                        · refine mr_iconst (pc := 459) (z := 0) dX12_isSo_459 ?_
                          refine mr_istore (pc := 460) (lv' := [(7, iv 0), (9, iv z615), (0, .ref 106), (2, iv p2)]) dX12_isSo_460 (by decide) rfl ?_
                          refine mr_lvS (lv' := [(0, .ref 106), (2, iv p2), (7, iv 0)]) (List.forall_mem_cons.mpr ⟨rfl, List.forall_mem_cons.mpr ⟨rfl, List.forall_mem_cons.mpr ⟨rfl, fun _ h => absurd h List.not_mem_nil⟩⟩⟩) ?_
                          exact J586 0 μ611 T612 (mF.call mF.refl F613 rfl) (rW (c := 0) (d := 1) (rR (x := 0)) rfl) h614.2.1
                        have h633 : 21 ≤ z616 ∧ z616 ≤ 21 := (vc_X12_isSo_9 h632 h618)
                        refine mr_iconst (pc := 455) (z := 1) dX12_isSo_455 ?_
                        refine sv_goto (pc := 456) (tgt := 460) dX12_isSo_456 (by decide) ?_
                        refine mr_istore (pc := 460) (lv' := [(7, iv 1), (9, iv z615), (0, .ref 106), (2, iv p2)]) dX12_isSo_460 (by decide) rfl ?_
                        refine mr_lvS (lv' := [(0, .ref 106), (2, iv p2), (7, iv 1)]) (List.forall_mem_cons.mpr ⟨rfl, List.forall_mem_cons.mpr ⟨rfl, List.forall_mem_cons.mpr ⟨rfl, fun _ h => absurd h List.not_mem_nil⟩⟩⟩) ?_
                        exact J586 1 μ611 T612 (mF.call mF.refl F613 rfl) (rW (c := 0) (d := 1) (rR (x := 1)) rfl) h614.2.1
                      have h634 : 1 ≤ z615 ∧ z615 ≤ 1 := (vc_X9_partnerRole_4 h622 h614.1)
                      refine mr_bipush (pc := 434) (z := 20) dX12_isSo_434 (by decide) ?_
                      refine sv_goto (pc := 436) (tgt := 452) dX12_isSo_436 (by decide) ?_
                      refine mr_icmp_ne (pc := 452) (tgt := 459) dX12_isSo_452 (by decide) h618 (r32 (rR (x := 20)) rfl) (fun h636 => ?_) (fun h636 => ?_)
                      · refine mr_iconst (pc := 459) (z := 0) dX12_isSo_459 ?_
                        refine mr_istore (pc := 460) (lv' := [(7, iv 0), (9, iv z615), (0, .ref 106), (2, iv p2)]) dX12_isSo_460 (by decide) rfl ?_
                        refine mr_lvS (lv' := [(0, .ref 106), (2, iv p2), (7, iv 0)]) (List.forall_mem_cons.mpr ⟨rfl, List.forall_mem_cons.mpr ⟨rfl, List.forall_mem_cons.mpr ⟨rfl, fun _ h => absurd h List.not_mem_nil⟩⟩⟩) ?_
                        exact J586 0 μ611 T612 (mF.call mF.refl F613 rfl) (rW (c := 0) (d := 1) (rR (x := 0)) rfl) h614.2.1
                      have h637 : 20 ≤ z616 ∧ z616 ≤ 20 := (vc_X6_verdictOf_2 h636 h618)
                      refine mr_iconst (pc := 455) (z := 1) dX12_isSo_455 ?_
                      refine sv_goto (pc := 456) (tgt := 460) dX12_isSo_456 (by decide) ?_
                      refine mr_istore (pc := 460) (lv' := [(7, iv 1), (9, iv z615), (0, .ref 106), (2, iv p2)]) dX12_isSo_460 (by decide) rfl ?_
                      refine mr_lvS (lv' := [(0, .ref 106), (2, iv p2), (7, iv 1)]) (List.forall_mem_cons.mpr ⟨rfl, List.forall_mem_cons.mpr ⟨rfl, List.forall_mem_cons.mpr ⟨rfl, fun _ h => absurd h List.not_mem_nil⟩⟩⟩) ?_
                      exact J586 1 μ611 T612 (mF.call mF.refl F613 rfl) (rW (c := 0) (d := 1) (rR (x := 1)) rfl) h614.2.1
                    refine mr_if_ne (pc := 387) (tgt := 395) dX12_isSo_387 (by decide) (r32 h446 rfl) (fun h638 => ?_) (fun h638 => ?_)
                    · have h639 : 1 ≤ z443 ∧ z443 ≤ 20 := (vc_X12_waysMatch_2 h638 h446)
                      refine sv_aload_n (pc := 395) dX12_isSo_395 rfl rfl ?_
                      refine gf_X12_32 (pc := 396) dX12_isSo_396 wF_X12_148 (A_106 hw) hT ?_
                      refine mr_bipush (pc := 399) (z := 40) dX12_isSo_399 (by decide) ?_
                      refine mr_iload_n (pc := 401) (z := p3) dX12_isSo_401 rfl rfl ?_
                      refine mr_imul (pc := 402) (x := 40) (y := p3) dX12_isSo_402 ?_
                      refine mr_iconst (pc := 403) (z := 5) dX12_isSo_403 ?_
                      refine mr_iadd (pc := 404) (x := (40 * p3)) (y := 5) dX12_isSo_404 ?_
                      refine mr_iload (pc := 405) (z := z443) dX12_isSo_405 rfl ?_
                      refine mr_iadd (pc := 407) (x := ((40 * p3) + 5)) (y := z443) dX12_isSo_407 ?_
                      refine la_126 (pc := 408) dX12_isSo_408 (A_126 hw) hT (rIx (n := 84000) (rAdd (e := 6) (f := 83985) (rAdd (e := 5) (f := 83965) (rMulL (n := 40) (e := 0) (f := 83960) hp3 rfl) (rR (x := 5)) rfl) h639 rfl) rfl) fun z640 q641 h642 => ?_
                      refine mr_lvS (lv' := [(0, .ref 106), (2, iv p2)]) (List.forall_mem_cons.mpr ⟨rfl, List.forall_mem_cons.mpr ⟨rfl, fun _ h => absurd h List.not_mem_nil⟩⟩) ?_
                      exact J607 z640 h642.1
                    have h643 : 0 ≤ z443 ∧ z443 ≤ 0 := (vc_X12_waysMatch_23 h638 h446)
                    refine mr_iload (pc := 390) (z := p4) dX12_isSo_390 rfl ?_
                    refine sv_goto (pc := 392) (tgt := 409) dX12_isSo_392 (by decide) ?_
                    refine mr_lvS (lv' := [(0, .ref 106), (2, iv p2)]) (List.forall_mem_cons.mpr ⟨rfl, List.forall_mem_cons.mpr ⟨rfl, fun _ h => absurd h List.not_mem_nil⟩⟩) ?_
                    exact J607 p4 hp4
                  have h644 : 14 ≤ z447 ∧ z447 ≤ 14 := (vc_X12_isSo_14 h599 h592 h593 h594 h595 h596 h597 h598 h449)
                  refine sv_aload_n (pc := 352) dX12_isSo_352 rfl rfl ?_
                  refine gf_X12_32 (pc := 353) dX12_isSo_353 wF_X12_148 (A_106 hw) hT ?_
                  refine mr_bipush (pc := 356) (z := 40) dX12_isSo_356 (by decide) ?_
                  refine mr_iload_n (pc := 358) (z := p3) dX12_isSo_358 rfl rfl ?_
                  refine mr_imul (pc := 359) (x := 40) (y := p3) dX12_isSo_359 ?_
                  refine mr_iconst (pc := 360) (z := 2) dX12_isSo_360 ?_
                  refine mr_iadd (pc := 361) (x := (40 * p3)) (y := 2) dX12_isSo_361 ?_
                  refine la_126 (pc := 362) dX12_isSo_362 (A_126 hw) hT (rIx (n := 84000) (rAdd (e := 2) (f := 83962) (rMulL (n := 40) (e := 0) (f := 83960) hp3 rfl) (rR (x := 2)) rfl) rfl) fun z645 q646 h647 => ?_
                  refine sv_aload_n (pc := 363) dX12_isSo_363 rfl rfl ?_
                  refine gf_X12_47 (pc := 364) dX12_isSo_364 wF_X12_329 (A_106 hw) hT ?_
                  refine mr_iload_n (pc := 367) (z := p2) dX12_isSo_367 rfl rfl ?_
                  refine la_134 (pc := 368) dX12_isSo_368 (A_134 hw) hT (rIx (n := 3900) hp2 rfl) fun z648 q649 h650 => ?_
                  refine mr_icmp_ne (pc := 369) (tgt := 376) dX12_isSo_369 (by decide) h647.1 h650 (fun h651 => ?_) (fun h651 => ?_)
                  · refine mr_iconst (pc := 376) (z := 0) dX12_isSo_376 ?_
                    refine mr_istore (pc := 377) (lv' := [(7, iv 0), (8, iv z443), (6, iv f_x), (0, .ref 106), (1, iv p1), (2, iv p2), (3, iv p3), (4, iv p4), (5, iv p5)]) dX12_isSo_377 (by decide) rfl ?_
                    refine sv_goto (pc := 379) (tgt := 462) dX12_isSo_379 (by decide) ?_
                    refine mr_lvS (lv' := [(0, .ref 106), (2, iv p2), (7, iv 0)]) (List.forall_mem_cons.mpr ⟨rfl, List.forall_mem_cons.mpr ⟨rfl, List.forall_mem_cons.mpr ⟨rfl, fun _ h => absurd h List.not_mem_nil⟩⟩⟩) ?_
                    exact J586 0 μ hT mF.refl (rW (c := 0) (d := 1) (rR (x := 0)) rfl) hIJC
                  refine mr_iconst (pc := 372) (z := 1) dX12_isSo_372 ?_
                  refine sv_goto (pc := 373) (tgt := 377) dX12_isSo_373 (by decide) ?_
                  refine mr_istore (pc := 377) (lv' := [(7, iv 1), (8, iv z443), (6, iv f_x), (0, .ref 106), (1, iv p1), (2, iv p2), (3, iv p3), (4, iv p4), (5, iv p5)]) dX12_isSo_377 (by decide) rfl ?_
                  refine sv_goto (pc := 379) (tgt := 462) dX12_isSo_379 (by decide) ?_
                  refine mr_lvS (lv' := [(0, .ref 106), (2, iv p2), (7, iv 1)]) (List.forall_mem_cons.mpr ⟨rfl, List.forall_mem_cons.mpr ⟨rfl, List.forall_mem_cons.mpr ⟨rfl, fun _ h => absurd h List.not_mem_nil⟩⟩⟩) ?_
                  exact J586 1 μ hT mF.refl (rW (c := 0) (d := 1) (rR (x := 1)) rfl) hIJC
                have h652 : 13 ≤ z447 ∧ z447 ≤ 13 := (vc_X12_isSo_15 h598 h591 h592 h593 h594 h595 h596 h597 h449)
                refine sv_aload_n (pc := 309) dX12_isSo_309 rfl rfl ?_
                refine sv_aload_n (pc := 310) dX12_isSo_310 rfl rfl ?_
                refine gf_X12_32 (pc := 311) dX12_isSo_311 wF_X12_148 (A_106 hw) hT ?_
                refine mr_bipush (pc := 314) (z := 40) dX12_isSo_314 (by decide) ?_
                refine mr_iload_n (pc := 316) (z := p3) dX12_isSo_316 rfl rfl ?_
                refine mr_imul (pc := 317) (x := 40) (y := p3) dX12_isSo_317 ?_
                refine mr_iconst (pc := 318) (z := 3) dX12_isSo_318 ?_
                refine mr_iadd (pc := 319) (x := (40 * p3)) (y := 3) dX12_isSo_319 ?_
                refine la_126 (pc := 320) dX12_isSo_320 (A_126 hw) hT (rIx (n := 84000) (rAdd (e := 3) (f := 83963) (rMulL (n := 40) (e := 0) (f := 83960) hp3 rfl) (rR (x := 3)) rfl) rfl) fun z653 q654 h655 => ?_
                refine sv_aload_n (pc := 321) dX12_isSo_321 rfl rfl ?_
                refine gf_X12_48 (pc := 322) dX12_isSo_322 wF_X12_336 (A_106 hw) hT ?_
                refine mr_iload_n (pc := 325) (z := p2) dX12_isSo_325 rfl rfl ?_
                refine la_135 (pc := 326) dX12_isSo_326 (A_135 hw) hT (rIx (n := 3900) hp2 rfl) fun z656 q657 h658 => ?_
                refine sv_aload_n (pc := 327) dX12_isSo_327 rfl rfl ?_
                refine gf_X12_47 (pc := 328) dX12_isSo_328 wF_X12_329 (A_106 hw) hT ?_
                refine mr_iload_n (pc := 331) (z := p2) dX12_isSo_331 rfl rfl ?_
                refine la_134 (pc := 332) dX12_isSo_332 (A_134 hw) hT (rIx (n := 3900) hp2 rfl) fun z659 q660 h661 => ?_
                refine mr_cVP (pc := 333) (c_X12_related hw hT h655.1 h658 h661) (gOk _ _ _ _ _) dX12_isSo_333 (tX12_related _ _ _ _ _) ⟨wV_X12_related, wL_X12_related⟩ wM_X12_385 (gCX12 _ _ _ _ _) rfl (A_106 hw) rfl ⟨le_t rfl, le_t rfl⟩ ⟨le_t rfl, le_t rfl⟩ rfl (le_t rfl) fun z666 h665 => ?_
                refine mr_istore (pc := 336) (lv' := [(7, iv z666), (8, iv z443), (6, iv f_x), (0, .ref 106), (1, iv p1), (2, iv p2), (3, iv p3), (4, iv p4), (5, iv p5)]) dX12_isSo_336 (by decide) rfl ?_
                refine sv_goto (pc := 338) (tgt := 462) dX12_isSo_338 (by decide) ?_
                refine mr_lvS (lv' := [(0, .ref 106), (2, iv p2), (7, iv z666)]) (List.forall_mem_cons.mpr ⟨rfl, List.forall_mem_cons.mpr ⟨rfl, List.forall_mem_cons.mpr ⟨rfl, fun _ h => absurd h List.not_mem_nil⟩⟩⟩) ?_
                exact J586 z666 μ hT mF.refl h665.1 hIJC
              have h667 : 12 ≤ z447 ∧ z447 ≤ 12 := (vc_X12_isSo_16 h597 h591 h592 h593 h594 h595 h596 h449)
              refine sv_aload_n (pc := 266) dX12_isSo_266 rfl rfl ?_
              refine sv_aload_n (pc := 267) dX12_isSo_267 rfl rfl ?_
              refine gf_X12_32 (pc := 268) dX12_isSo_268 wF_X12_148 (A_106 hw) hT ?_
              refine mr_bipush (pc := 271) (z := 40) dX12_isSo_271 (by decide) ?_
              refine mr_iload_n (pc := 273) (z := p3) dX12_isSo_273 rfl rfl ?_
              refine mr_imul (pc := 274) (x := 40) (y := p3) dX12_isSo_274 ?_
              refine mr_iconst (pc := 275) (z := 1) dX12_isSo_275 ?_
              refine mr_iadd (pc := 276) (x := (40 * p3)) (y := 1) dX12_isSo_276 ?_
              refine la_126 (pc := 277) dX12_isSo_277 (A_126 hw) hT (rIx (n := 84000) (rAdd (e := 1) (f := 83961) (rMulL (n := 40) (e := 0) (f := 83960) hp3 rfl) (rR (x := 1)) rfl) rfl) fun z668 q669 h670 => ?_
              refine sv_aload_n (pc := 278) dX12_isSo_278 rfl rfl ?_
              refine gf_X12_48 (pc := 279) dX12_isSo_279 wF_X12_336 (A_106 hw) hT ?_
              refine mr_iload_n (pc := 282) (z := p2) dX12_isSo_282 rfl rfl ?_
              refine la_135 (pc := 283) dX12_isSo_283 (A_135 hw) hT (rIx (n := 3900) hp2 rfl) fun z671 q672 h673 => ?_
              refine sv_aload_n (pc := 284) dX12_isSo_284 rfl rfl ?_
              refine gf_X12_47 (pc := 285) dX12_isSo_285 wF_X12_329 (A_106 hw) hT ?_
              refine mr_iload_n (pc := 288) (z := p2) dX12_isSo_288 rfl rfl ?_
              refine la_134 (pc := 289) dX12_isSo_289 (A_134 hw) hT (rIx (n := 3900) hp2 rfl) fun z674 q675 h676 => ?_
              refine mr_cVP (pc := 290) (c_X12_related hw hT h670.1 h673 h676) (gOk _ _ _ _ _) dX12_isSo_290 (tX12_related _ _ _ _ _) ⟨wV_X12_related, wL_X12_related⟩ wM_X12_385 (gCX12 _ _ _ _ _) rfl (A_106 hw) rfl ⟨le_t rfl, le_t rfl⟩ ⟨le_t rfl, le_t rfl⟩ rfl (le_t rfl) fun z681 h680 => ?_
              refine mr_istore (pc := 293) (lv' := [(7, iv z681), (8, iv z443), (6, iv f_x), (0, .ref 106), (1, iv p1), (2, iv p2), (3, iv p3), (4, iv p4), (5, iv p5)]) dX12_isSo_293 (by decide) rfl ?_
              refine sv_goto (pc := 295) (tgt := 462) dX12_isSo_295 (by decide) ?_
              refine mr_lvS (lv' := [(0, .ref 106), (2, iv p2), (7, iv z681)]) (List.forall_mem_cons.mpr ⟨rfl, List.forall_mem_cons.mpr ⟨rfl, List.forall_mem_cons.mpr ⟨rfl, fun _ h => absurd h List.not_mem_nil⟩⟩⟩) ?_
              exact J586 z681 μ hT mF.refl h680.1 hIJC
            have h682 : 11 ≤ z447 ∧ z447 ≤ 11 := (vc_X12_isSo_17 h596 h591 h592 h593 h594 h595 h449)
            refine sv_aload_n (pc := 232) dX12_isSo_232 rfl rfl ?_
            refine mr_iload (pc := 233) (z := z443) dX12_isSo_233 rfl ?_
            refine sv_aload_n (pc := 235) dX12_isSo_235 rfl rfl ?_
            refine gf_X12_48 (pc := 236) dX12_isSo_236 wF_X12_336 (A_106 hw) hT ?_
            refine mr_iload_n (pc := 239) (z := p2) dX12_isSo_239 rfl rfl ?_
            refine la_135 (pc := 240) dX12_isSo_240 (A_135 hw) hT (rIx (n := 3900) hp2 rfl) fun z683 q684 h685 => ?_
            refine sv_aload_n (pc := 241) dX12_isSo_241 rfl rfl ?_
            refine gf_X12_47 (pc := 242) dX12_isSo_242 wF_X12_329 (A_106 hw) hT ?_
            refine mr_iload_n (pc := 245) (z := p2) dX12_isSo_245 rfl rfl ?_
            refine la_134 (pc := 246) dX12_isSo_246 (A_134 hw) hT (rIx (n := 3900) hp2 rfl) fun z686 q687 h688 => ?_
            refine mr_cVP (pc := 247) (c_X12_related hw hT (rW (c := (-2147483648)) (d := 2147483647) h446 rfl) h685 h688) (gOk _ _ _ _ _) dX12_isSo_247 (tX12_related _ _ _ _ _) ⟨wV_X12_related, wL_X12_related⟩ wM_X12_385 (gCX12 _ _ _ _ _) rfl (A_106 hw) rfl ⟨le_t rfl, le_t rfl⟩ ⟨le_t rfl, le_t rfl⟩ rfl (le_t rfl) fun z693 h692 => ?_
            refine mr_istore (pc := 250) (lv' := [(7, iv z693), (8, iv z443), (6, iv f_x), (0, .ref 106), (1, iv p1), (2, iv p2), (3, iv p3), (4, iv p4), (5, iv p5)]) dX12_isSo_250 (by decide) rfl ?_
            refine sv_goto (pc := 252) (tgt := 462) dX12_isSo_252 (by decide) ?_
            refine mr_lvS (lv' := [(0, .ref 106), (2, iv p2), (7, iv z693)]) (List.forall_mem_cons.mpr ⟨rfl, List.forall_mem_cons.mpr ⟨rfl, List.forall_mem_cons.mpr ⟨rfl, fun _ h => absurd h List.not_mem_nil⟩⟩⟩) ?_
            exact J586 z693 μ hT mF.refl h692.1 hIJC
          have h694 : 10 ≤ z447 ∧ z447 ≤ 10 := (vc_X12_isSo_18 h595 h591 h592 h593 h594 h449)
          refine sv_aload_n (pc := 194) dX12_isSo_194 rfl rfl ?_
          refine mr_iload (pc := 195) (z := p4) dX12_isSo_195 rfl ?_
          refine mr_iload (pc := 197) (z := p5) dX12_isSo_197 rfl ?_
          refine mr_cVP (pc := 199) (c_X12_tieWord hw hT hp4 hp5 hg1 q_f_e0 q_f_e1 q_f_ties (vc_X12_tieWord_2 hq0 h2 hg1) (vc_X12_tieWord_3 hq1 ht_f_e0 ht_f_e1 hp4 hp5)) (gOk _ _ _ _ _) dX12_isSo_199 (tX12_tieWord _ _ _ _ _) ⟨wV_X12_tieWord, wL_X12_tieWord⟩ wM_X12_382 (gCX12 _ _ _ _ _) rfl (A_106 hw) rfl ⟨le_t rfl, le_t rfl⟩ ⟨le_t rfl, le_t rfl⟩ rfl (le_t rfl) fun z699 h698 => ?_
          refine sv_aload_n (pc := 202) dX12_isSo_202 rfl rfl ?_
          refine gf_X12_47 (pc := 203) dX12_isSo_203 wF_X12_329 (A_106 hw) hT ?_
          refine mr_iload_n (pc := 206) (z := p2) dX12_isSo_206 rfl rfl ?_
          refine la_134 (pc := 207) dX12_isSo_207 (A_134 hw) hT (rIx (n := 3900) hp2 rfl) fun z700 q701 h702 => ?_
          refine mr_icmp_ne (pc := 208) (tgt := 215) dX12_isSo_208 (by decide) (r32 h698.1 rfl) h702 (fun h704 => ?_) (fun h704 => ?_)
          · refine mr_iconst (pc := 215) (z := 0) dX12_isSo_215 ?_
            refine mr_istore (pc := 216) (lv' := [(7, iv 0), (8, iv z443), (6, iv f_x), (0, .ref 106), (1, iv p1), (2, iv p2), (3, iv p3), (4, iv p4), (5, iv p5)]) dX12_isSo_216 (by decide) rfl ?_
            refine sv_goto (pc := 218) (tgt := 462) dX12_isSo_218 (by decide) ?_
            refine mr_lvS (lv' := [(0, .ref 106), (2, iv p2), (7, iv 0)]) (List.forall_mem_cons.mpr ⟨rfl, List.forall_mem_cons.mpr ⟨rfl, List.forall_mem_cons.mpr ⟨rfl, fun _ h => absurd h List.not_mem_nil⟩⟩⟩) ?_
            exact J586 0 μ hT mF.refl (rW (c := 0) (d := 1) (rR (x := 0)) rfl) hIJC
          have h705 : 16 ≤ z700 ∧ z700 ≤ 19 := (vc_X12_isSo_21 h704 h698.1 h702)
          refine mr_iconst (pc := 211) (z := 1) dX12_isSo_211 ?_
          refine sv_goto (pc := 212) (tgt := 216) dX12_isSo_212 (by decide) ?_
          refine mr_istore (pc := 216) (lv' := [(7, iv 1), (8, iv z443), (6, iv f_x), (0, .ref 106), (1, iv p1), (2, iv p2), (3, iv p3), (4, iv p4), (5, iv p5)]) dX12_isSo_216 (by decide) rfl ?_
          refine sv_goto (pc := 218) (tgt := 462) dX12_isSo_218 (by decide) ?_
          refine mr_lvS (lv' := [(0, .ref 106), (2, iv p2), (7, iv 1)]) (List.forall_mem_cons.mpr ⟨rfl, List.forall_mem_cons.mpr ⟨rfl, List.forall_mem_cons.mpr ⟨rfl, fun _ h => absurd h List.not_mem_nil⟩⟩⟩) ?_
          exact J586 1 μ hT mF.refl (rW (c := 0) (d := 1) (rR (x := 1)) rfl) hIJC
        have h706 : 9 ≤ z447 ∧ z447 ≤ 9 := (vc_X12_isSo_22 h594 h591 h592 h593 h449)
        refine mr_iload (pc := 162) (z := p5) dX12_isSo_162 rfl ?_
        refine sv_aload_n (pc := 164) dX12_isSo_164 rfl rfl ?_
        refine gf_X12_47 (pc := 165) dX12_isSo_165 wF_X12_329 (A_106 hw) hT ?_
        refine mr_iload_n (pc := 168) (z := p2) dX12_isSo_168 rfl rfl ?_
        refine la_134 (pc := 169) dX12_isSo_169 (A_134 hw) hT (rIx (n := 3900) hp2 rfl) fun z707 q708 h709 => ?_
        refine mr_icmp_ne (pc := 170) (tgt := 177) dX12_isSo_170 (by decide) hp5 h709 (fun h710 => ?_) (fun h710 => ?_)
        · refine mr_iconst (pc := 177) (z := 0) dX12_isSo_177 ?_
          refine mr_istore (pc := 178) (lv' := [(7, iv 0), (8, iv z443), (6, iv f_x), (0, .ref 106), (1, iv p1), (2, iv p2), (3, iv p3), (4, iv p4), (5, iv p5)]) dX12_isSo_178 (by decide) rfl ?_
          refine sv_goto (pc := 180) (tgt := 462) dX12_isSo_180 (by decide) ?_
          refine mr_lvS (lv' := [(0, .ref 106), (2, iv p2), (7, iv 0)]) (List.forall_mem_cons.mpr ⟨rfl, List.forall_mem_cons.mpr ⟨rfl, List.forall_mem_cons.mpr ⟨rfl, fun _ h => absurd h List.not_mem_nil⟩⟩⟩) ?_
          exact J586 0 μ hT mF.refl (rW (c := 0) (d := 1) (rR (x := 0)) rfl) hIJC
        refine mr_iconst (pc := 173) (z := 1) dX12_isSo_173 ?_
        refine sv_goto (pc := 174) (tgt := 178) dX12_isSo_174 (by decide) ?_
        refine mr_istore (pc := 178) (lv' := [(7, iv 1), (8, iv z443), (6, iv f_x), (0, .ref 106), (1, iv p1), (2, iv p2), (3, iv p3), (4, iv p4), (5, iv p5)]) dX12_isSo_178 (by decide) rfl ?_
        refine sv_goto (pc := 180) (tgt := 462) dX12_isSo_180 (by decide) ?_
        refine mr_lvS (lv' := [(0, .ref 106), (2, iv p2), (7, iv 1)]) (List.forall_mem_cons.mpr ⟨rfl, List.forall_mem_cons.mpr ⟨rfl, List.forall_mem_cons.mpr ⟨rfl, fun _ h => absurd h List.not_mem_nil⟩⟩⟩) ?_
        exact J586 1 μ hT mF.refl (rW (c := 0) (d := 1) (rR (x := 1)) rfl) hIJC
      have h711 : 8 ≤ z447 ∧ z447 ≤ 8 := (vc_X12_isSo_23 h593 h591 h592 h449)
      refine sv_aload_n (pc := 135) dX12_isSo_135 rfl rfl ?_
      refine mr_iload_n (pc := 136) (z := p3) dX12_isSo_136 rfl rfl ?_
      refine sv_aload_n (pc := 137) dX12_isSo_137 rfl rfl ?_
      refine gf_X12_47 (pc := 138) dX12_isSo_138 wF_X12_329 (A_106 hw) hT ?_
      refine mr_iload_n (pc := 141) (z := p2) dX12_isSo_141 rfl rfl ?_
      refine la_134 (pc := 142) dX12_isSo_142 (A_134 hw) hT (rIx (n := 3900) hp2 rfl) fun z712 q713 h714 => ?_
      refine mr_cVP (pc := 143) (c_X12_marked hw hT hp3 h714) (gOk _ _ _ _ _) dX12_isSo_143 (tX12_marked _ _ _ _ _) ⟨wV_X12_marked, wL_X12_marked⟩ wM_X12_154 (gCX12 _ _ _ _ _) rfl (A_106 hw) rfl ⟨le_t rfl, le_t rfl⟩ ⟨le_t rfl, le_t rfl⟩ rfl (le_t rfl) fun z719 h718 => ?_
      refine mr_istore (pc := 146) (lv' := [(7, iv z719), (8, iv z443), (6, iv f_x), (0, .ref 106), (1, iv p1), (2, iv p2), (3, iv p3), (4, iv p4), (5, iv p5)]) dX12_isSo_146 (by decide) rfl ?_
      refine sv_goto (pc := 148) (tgt := 462) dX12_isSo_148 (by decide) ?_
      refine mr_lvS (lv' := [(0, .ref 106), (2, iv p2), (7, iv z719)]) (List.forall_mem_cons.mpr ⟨rfl, List.forall_mem_cons.mpr ⟨rfl, List.forall_mem_cons.mpr ⟨rfl, fun _ h => absurd h List.not_mem_nil⟩⟩⟩) ?_
      exact J586 z719 μ hT mF.refl h718.1 hIJC
    have h720 : 6 ≤ z447 ∧ z447 ≤ 6 := (vc_X12_isSo_24 h592 h591 h449)
    refine sv_aload_n (pc := 112) dX12_isSo_112 rfl rfl ?_
    refine mr_iload_n (pc := 113) (z := p1) dX12_isSo_113 rfl rfl ?_
    refine mr_iload_n (pc := 114) (z := p2) dX12_isSo_114 rfl rfl ?_
    refine mr_iload_n (pc := 115) (z := p3) dX12_isSo_115 rfl rfl ?_
    refine mr_cVP (pc := 116) (c_X12_waysMatch hw hT hp1 hp2 hp3) (gOk _ _ _ _ _) dX12_isSo_116 (tX12_waysMatch _ _ _ _ _) ⟨wV_X12_waysMatch, wL_X12_waysMatch⟩ wM_X12_379 (gCX12 _ _ _ _ _) rfl (A_106 hw) rfl ⟨le_t rfl, le_t rfl⟩ ⟨le_t rfl, le_t rfl⟩ rfl (le_t rfl) fun z725 h724 => ?_
    refine mr_istore (pc := 119) (lv' := [(7, iv z725), (8, iv z443), (6, iv f_x), (0, .ref 106), (1, iv p1), (2, iv p2), (3, iv p3), (4, iv p4), (5, iv p5)]) dX12_isSo_119 (by decide) rfl ?_
    refine sv_goto (pc := 121) (tgt := 462) dX12_isSo_121 (by decide) ?_
    refine mr_lvS (lv' := [(0, .ref 106), (2, iv p2), (7, iv z725)]) (List.forall_mem_cons.mpr ⟨rfl, List.forall_mem_cons.mpr ⟨rfl, List.forall_mem_cons.mpr ⟨rfl, fun _ h => absurd h List.not_mem_nil⟩⟩⟩) ?_
    exact J586 z725 μ hT mF.refl h724.1 hIJC
  have h726 : 4 ≤ z447 ∧ z447 ≤ 4 := (vc_X1_isSo_5 h591 h449)
  refine sv_aload_n (pc := 34) dX12_isSo_34 rfl rfl ?_
  refine gf_X12_4 (pc := 35) dX12_isSo_35 wF_X12_26 (A_106 hw) hT ?_
  refine mr_iload (pc := 38) (z := f_x) dX12_isSo_38 rfl ?_
  refine la_109 (pc := 40) dX12_isSo_40 (A_109 hw) hT (rIx (n := 10) h3 rfl) fun z727 q728 h729 => ?_
  refine sv_aload_n (pc := 41) dX12_isSo_41 rfl rfl ?_
  refine gf_X12_48 (pc := 42) dX12_isSo_42 wF_X12_336 (A_106 hw) hT ?_
  refine mr_iload_n (pc := 45) (z := p2) dX12_isSo_45 rfl rfl ?_
  refine la_135 (pc := 46) dX12_isSo_46 (A_135 hw) hT (rIx (n := 3900) hp2 rfl) fun z730 q731 h732 => ?_
  refine mr_icmp_lt (pc := 47) (tgt := 95) dX12_isSo_47 (by decide) (r32 h729 rfl) h732 (fun h753 => ?_) (fun h753 => ?_)
  · have h754 : 1 ≤ z730 ∧ z730 ≤ 2147483647 := (vc_X12_isSo_26 h753 h729 h732)
    refine mr_iconst (pc := 95) (z := 0) dX12_isSo_95 ?_
    refine mr_istore (pc := 96) (lv' := [(7, iv 0), (8, iv z443), (6, iv f_x), (0, .ref 106), (1, iv p1), (2, iv p2), (3, iv p3), (4, iv p4), (5, iv p5)]) dX12_isSo_96 (by decide) rfl ?_
    refine sv_goto (pc := 98) (tgt := 462) dX12_isSo_98 (by decide) ?_
    refine mr_lvS (lv' := [(0, .ref 106), (2, iv p2), (7, iv 0)]) (List.forall_mem_cons.mpr ⟨rfl, List.forall_mem_cons.mpr ⟨rfl, List.forall_mem_cons.mpr ⟨rfl, fun _ h => absurd h List.not_mem_nil⟩⟩⟩) ?_
    exact J586 0 μ hT mF.refl (rW (c := 0) (d := 1) (rR (x := 0)) rfl) hIJC
  have h755 : (-2147483648) ≤ z730 ∧ z730 ≤ 32 := (vc_X12_isSo_27 h753 h729 h732)
  refine sv_aload_n (pc := 50) dX12_isSo_50 rfl rfl ?_
  refine gf_X12_47 (pc := 51) dX12_isSo_51 wF_X12_329 (A_106 hw) hT ?_
  refine mr_iload_n (pc := 54) (z := p2) dX12_isSo_54 rfl rfl ?_
  refine la_134 (pc := 55) dX12_isSo_55 (A_134 hw) hT (rIx (n := 3900) hp2 rfl) fun z756 q757 h758 => ?_
  refine sv_aload_n (pc := 56) dX12_isSo_56 rfl rfl ?_
  refine gf_X12_48 (pc := 57) dX12_isSo_57 wF_X12_336 (A_106 hw) hT ?_
  refine mr_iload_n (pc := 60) (z := p2) dX12_isSo_60 rfl rfl ?_
  refine lk_135 (pc := 61) dX12_isSo_61 (A_135 hw) (rIx (n := 3900) hp2 rfl) q731 ?_
  refine sv_aload_n (pc := 62) dX12_isSo_62 rfl rfl ?_
  refine gf_X12_3 (pc := 63) dX12_isSo_63 wF_X12_22 (A_106 hw) hT ?_
  refine mr_iload (pc := 66) (z := f_x) dX12_isSo_66 rfl ?_
  refine la_108 (pc := 68) dX12_isSo_68 (A_108 hw) hT (rIx (n := 10) h3 rfl) fun z759 q760 h761 => ?_
  refine mr_cSP (pc := 69) (c_X12_holds hw hT h758 (rW (c := (-2147483648)) (d := 2147483647) h755 rfl) h761) (gOk _ _ _ _ _) dX12_isSo_69 (tX12_holds _ _ _ _ _) wS_X12_holds wM_X12_142 ⟨le_t rfl, le_t rfl⟩ ⟨le_t rfl, le_t rfl⟩ rfl (le_t rfl) fun z766 h765 => ?_
  refine mr_if_eq (pc := 72) (tgt := 95) dX12_isSo_72 (by decide) (r32 h765.1 rfl) (fun h774 => ?_) (fun h774 => ?_)
  · have h775 : 0 ≤ z766 ∧ z766 ≤ 0 := (vc_X12_ring_22 h774 h765.1)
    refine mr_iconst (pc := 95) (z := 0) dX12_isSo_95 ?_
    refine mr_istore (pc := 96) (lv' := [(7, iv 0), (8, iv z443), (6, iv f_x), (0, .ref 106), (1, iv p1), (2, iv p2), (3, iv p3), (4, iv p4), (5, iv p5)]) dX12_isSo_96 (by decide) rfl ?_
    refine sv_goto (pc := 98) (tgt := 462) dX12_isSo_98 (by decide) ?_
    refine mr_lvS (lv' := [(0, .ref 106), (2, iv p2), (7, iv 0)]) (List.forall_mem_cons.mpr ⟨rfl, List.forall_mem_cons.mpr ⟨rfl, List.forall_mem_cons.mpr ⟨rfl, fun _ h => absurd h List.not_mem_nil⟩⟩⟩) ?_
    exact J586 0 μ hT mF.refl (rW (c := 0) (d := 1) (rR (x := 0)) rfl) hIJC
  have h776 : 1 ≤ z766 ∧ z766 ≤ 1 := (vc_X12_ring_24 h774 h765.1)
  refine sv_aload_n (pc := 75) dX12_isSo_75 rfl rfl ?_
  refine gf_X12_4 (pc := 76) dX12_isSo_76 wF_X12_26 (A_106 hw) hT ?_
  refine mr_iload (pc := 79) (z := f_x) dX12_isSo_79 rfl ?_
  refine lk_109 (pc := 81) dX12_isSo_81 (A_109 hw) (rIx (n := 10) h3 rfl) q728 ?_
  refine sv_aload_n (pc := 82) dX12_isSo_82 rfl rfl ?_
  refine gf_X12_49 (pc := 83) dX12_isSo_83 wF_X12_339 (A_106 hw) hT ?_
  refine mr_iload_n (pc := 86) (z := p2) dX12_isSo_86 rfl rfl ?_
  refine la_136 (pc := 87) dX12_isSo_87 (A_136 hw) hT (rIx (n := 3900) hp2 rfl) fun z777 q778 h779 => ?_
  refine mr_icmp_gt (pc := 88) (tgt := 95) dX12_isSo_88 (by decide) (r32 h729 rfl) h779 (fun h782 => ?_) (fun h782 => ?_)
  · have h783 : (-2147483648) ≤ z777 ∧ z777 ≤ 31 := (vc_X12_isSo_30 h782 h753 h729 h755 h779)
    refine mr_iconst (pc := 95) (z := 0) dX12_isSo_95 ?_
    refine mr_istore (pc := 96) (lv' := [(7, iv 0), (8, iv z443), (6, iv f_x), (0, .ref 106), (1, iv p1), (2, iv p2), (3, iv p3), (4, iv p4), (5, iv p5)]) dX12_isSo_96 (by decide) rfl ?_
    refine sv_goto (pc := 98) (tgt := 462) dX12_isSo_98 (by decide) ?_
    refine mr_lvS (lv' := [(0, .ref 106), (2, iv p2), (7, iv 0)]) (List.forall_mem_cons.mpr ⟨rfl, List.forall_mem_cons.mpr ⟨rfl, List.forall_mem_cons.mpr ⟨rfl, fun _ h => absurd h List.not_mem_nil⟩⟩⟩) ?_
    exact J586 0 μ hT mF.refl (rW (c := 0) (d := 1) (rR (x := 0)) rfl) hIJC
  have h784 : 0 ≤ z777 ∧ z777 ≤ 2147483647 := (vc_X12_isSo_31 h782 h753 h729 h755 h779)
  refine mr_iconst (pc := 91) (z := 1) dX12_isSo_91 ?_
  refine sv_goto (pc := 92) (tgt := 96) dX12_isSo_92 (by decide) ?_
  refine mr_istore (pc := 96) (lv' := [(7, iv 1), (8, iv z443), (6, iv f_x), (0, .ref 106), (1, iv p1), (2, iv p2), (3, iv p3), (4, iv p4), (5, iv p5)]) dX12_isSo_96 (by decide) rfl ?_
  refine sv_goto (pc := 98) (tgt := 462) dX12_isSo_98 (by decide) ?_
  refine mr_lvS (lv' := [(0, .ref 106), (2, iv p2), (7, iv 1)]) (List.forall_mem_cons.mpr ⟨rfl, List.forall_mem_cons.mpr ⟨rfl, List.forall_mem_cons.mpr ⟨rfl, fun _ h => absurd h List.not_mem_nil⟩⟩⟩) ?_
  exact J586 1 μ hT mF.refl (rW (c := 0) (d := 1) (rR (x := 1)) rfl) hIJC
theorem vc_X12_through_u_13 {f_pre f_x f_y : Int} (h0 : 0 ≤ f_x) (h1 : f_x < f_pre) (h2 : f_y = f_x) (h3 : 1 ≤ f_pre ∧ f_pre ≤ 10) (h4 : 0 ≤ f_x ∧ f_x ≤ 9) (h5 : (-1) ≤ f_y ∧ f_y ≤ 9) : f_y = f_x := by omega
theorem vc_X12_through_u_54 {f_pre f_x f_y : Int} (h0 : f_y = f_x) (h1 : 0 ≤ f_x) (h2 : f_x < f_pre) (h3 : 1 ≤ f_pre ∧ f_pre ≤ 10) (h4 : 0 ≤ f_x ∧ f_x ≤ 9) (h5 : (-1) ≤ f_y ∧ f_y ≤ 9) : 0 ≤ f_y := by omega
theorem vc_X12_through_u_55 {f_pre f_x f_y : Int} (h0 : f_x < f_pre) (h1 : f_y = f_x) (h2 : 0 ≤ f_x) (h3 : 1 ≤ f_pre ∧ f_pre ≤ 10) (h4 : 0 ≤ f_x ∧ f_x ≤ 9) (h5 : (-1) ≤ f_y ∧ f_y ≤ 9) : f_y < f_pre := by omega
theorem vc_X12_through_u_76 {f_pol z32216 z32238 z34194 : Int} (h0 : 0 ≤ z34194 ∧ z34194 < z32238) (h1 : 0 ≤ z32238 ∧ z32238 < f_pol ∧ z32238 + (z32216 - 1) ≤ 11) (h2 : 0 ≤ f_pol ∧ f_pol ≤ 12) (h3 : 1 ≤ z32216 ∧ z32216 ≤ 12) (h4 : 0 ≤ z32238 ∧ z32238 ≤ 11) (h5 : 0 ≤ z34194 ∧ z34194 ≤ 10) : 1 ≤ z32238 ∧ z32238 ≤ 11 := by omega
theorem vc_X12_through_u_77 {f_pol p1 z32216 z32238 z34194 : Int} (h0 : 0 < z32216) (h1 : 0 ≤ z32238 ∧ z32238 < f_pol ∧ z32238 + (z32216 - 1) ≤ 11) (h2 : p1 = -99999999 ∨ (0 ≤ p1 ∧ p1 < f_pol)) (h3 : 0 ≤ z34194 ∧ z34194 < z32238) (h4 : 0 ≤ f_pol ∧ f_pol ≤ 12) (h5 : (-2147483648) ≤ p1 ∧ p1 ≤ 2147483647) (h6 : 1 ≤ z32216 ∧ z32216 ≤ 12) (h7 : 1 ≤ z32238 ∧ z32238 ≤ 11) (h8 : 0 ≤ z34194 ∧ z34194 ≤ 10) : 0 ≤ z32216 := by omega
theorem vc_X12_through_u_78 {f_pol p1 z32216 z32238 z34194 : Int} (h0 : p1 = -99999999 ∨ (0 ≤ p1 ∧ p1 < f_pol)) (h1 : 0 < z32216) (h2 : 0 ≤ z32238 ∧ z32238 < f_pol ∧ z32238 + (z32216 - 1) ≤ 11) (h3 : 0 ≤ z34194 ∧ z34194 < z32238) (h4 : ¬ p1 = (-99999999)) (h5 : 0 ≤ f_pol ∧ f_pol ≤ 12) (h6 : (-2147483648) ≤ p1 ∧ p1 ≤ 2147483647) (h7 : 1 ≤ z32216 ∧ z32216 ≤ 12) (h8 : 1 ≤ z32238 ∧ z32238 ≤ 11) (h9 : 0 ≤ z34194 ∧ z34194 ≤ 10) : 0 ≤ z34194 ∧ z34194 < f_pol ∧ z34194 + z32216 ≤ 11 := by omega
theorem vc_X12_through_u_81 {f_pol p1 z32216 z32238 z34194 : Int} (h0 : 0 < z32216) (h1 : 0 ≤ z32238 ∧ z32238 < f_pol ∧ z32238 + (z32216 - 1) ≤ 11) (h2 : p1 = -99999999 ∨ (0 ≤ p1 ∧ p1 < f_pol)) (h3 : 0 ≤ z34194 ∧ z34194 < z32238) (h4 : 0 ≤ f_pol ∧ f_pol ≤ 12) (h5 : (-2147483648) ≤ p1 ∧ p1 ≤ 2147483647) (h6 : 1 ≤ z32216 ∧ z32216 ≤ 12) (h7 : 1 ≤ z32238 ∧ z32238 ≤ 11) (h8 : 0 ≤ z34194 ∧ z34194 ≤ 10) : 0 ≤ (z32216 + 1) ∧ (z32216 + 1) ≤ 12 := by omega
theorem vc_X12_through_u_82 {N f_R f_pol p1 z32215 z32216 z32238 z32242 z32245 z34194 : Int} (h0 : (((100 * (501 - z32215)) + (34 * z32216)) - f_R) < N + 1) (h1 : 0 < z32216) (h2 : 0 ≤ z32238 ∧ z32238 < f_pol ∧ z32238 + (z32216 - 1) ≤ 11) (h3 : z32242 < z32245 ∧ z32242 = f_R) (h4 : (z32215 + 1) ≤ 500) (h5 : p1 = -99999999 ∨ (0 ≤ p1 ∧ p1 < f_pol)) (h6 : z32242 < z32245) (h7 : 0 ≤ z32242) (h8 : 0 ≤ z34194 ∧ z34194 < z32238) (h9 : (-1) ≤ f_R ∧ f_R ≤ 30) (h10 : 0 ≤ f_pol ∧ f_pol ≤ 12) (h11 : (-2147483648) ≤ p1 ∧ p1 ≤ 2147483647) (h12 : 0 ≤ z32215 ∧ z32215 ≤ 499) (h13 : 1 ≤ z32216 ∧ z32216 ≤ 12) (h14 : 1 ≤ z32238 ∧ z32238 ≤ 11) (h15 : 0 ≤ z32242 ∧ z32242 ≤ 29) (h16 : 0 ≤ z32245 ∧ z32245 ≤ 30) (h17 : 0 ≤ z34194 ∧ z34194 ≤ 10) : (((100 * (501 - (z32215 + 1))) + (34 * (z32216 + 1))) - (-1)) < N := by omega
theorem vc_X12_through_u_83 {f_pol p1 z32216 z32238 z34194 : Int} (h0 : 0 < z32216) (h1 : 0 ≤ z32238 ∧ z32238 < f_pol ∧ z32238 + (z32216 - 1) ≤ 11) (h2 : p1 = -99999999 ∨ (0 ≤ p1 ∧ p1 < f_pol)) (h3 : 0 ≤ z34194 ∧ z34194 < z32238) (h4 : 0 ≤ f_pol ∧ f_pol ≤ 12) (h5 : (-2147483648) ≤ p1 ∧ p1 ≤ 2147483647) (h6 : 1 ≤ z32216 ∧ z32216 ≤ 12) (h7 : 1 ≤ z32238 ∧ z32238 ≤ 11) (h8 : 0 ≤ z34194 ∧ z34194 ≤ 10) : (z32216 + 1) ≤ (z32216 + 1) := by omega
theorem vc_X12_through_u_137 {f_pre f_x : Int} (h0 : 0 ≤ f_x) (h1 : f_x < f_pre) (h2 : 1 ≤ f_pre ∧ f_pre ≤ 10) (h3 : 0 ≤ f_x ∧ f_x ≤ 9) : f_x = f_x := by omega
set_option maxRecDepth 4000 in
set_option maxHeartbeats 4000000 in
theorem c_X12_through_u {l : Launch} {D : va_G} {c : Nat → ClassId} {H0 : Heap} {sa : Nat × Nat × (Nat → Int32)} {w : mW} {μ : mM} (hw : mWF w) (hT : mT w μ) {p1 : Int} (hp1 : (-2147483648) ≤ p1 ∧ p1 ≤ 2147483647) {p2 : Int} (hp2 : 0 ≤ p2 ∧ p2 ≤ 2099) {p3 : Int} (hp3 : (-2147483648) ≤ p3 ∧ p3 ≤ 2147483647) {p4 : Int} (hp4 : (-2147483648) ≤ p4 ∧ p4 ≤ 2147483647) {g1 : Int} (hg1 : 0 ≤ g1 ∧ g1 ≤ 19) {f_e0 : Int} (q_f_e0 : μ 110 ((2 * g1).toNat) = f_e0) {f_e1 : Int} (q_f_e1 : μ 110 (((2 * g1) + 1).toNat) = f_e1) {f_ties : Int} (q_f_ties : μ 106 6 = f_ties) {f_x : Int} (q_f_x : μ 126 ((40 * p2).toNat) = f_x) {f_pol : Int} (q_f_pol : μ 106 39 = f_pol) {f_pre : Int} (q_f_pre : μ 106 2 = f_pre) (hq0 : g1 < f_ties) (hq1 : (f_e0 = p3 ∧ f_e1 = p4) ∨ (f_e0 = p4 ∧ f_e1 = p3)) (hq2 : 0 ≤ f_x) (hq3 : p1 = -99999999 ∨ (0 ≤ p1 ∧ p1 < f_pol)) (hq4 : f_x < f_pre) (hIJC : JC l D c H0 sa μ) (hIPK : PK μ) : sC (gG l D c H0 sa) mX12_through 6 0 0 [.ref 106, iv p1, iv p2, iv p3, iv p4] (mk w μ) (qI w [106026, 106027, 106028, 106029, 106030, 106031, 126999, 151999, 152999, 153999] μ (fun z μ1 => ∃ o_x : Int, μ1 126 ((40 * p2).toNat) = o_x ∧ (0 ≤ z ∧ z ≤ 1) ∧ mG [(((40 * p2) + 1), ((40 * p2) + 40))] μ μ1 ∧ JC l D c H0 sa μ1 ∧ (o_x = f_x) ∧ True)) := by
  refine sC.of rfl (by decide) (le_t rfl) ?_
  have ht_f_e0 : (0 ≤ f_e0 ∧ f_e0 ≤ 9) := by rw [← q_f_e0]; exact hT 110 110 (A_110 hw) ((2 * g1).toNat)
  have ht_f_e1 : (0 ≤ f_e1 ∧ f_e1 ≤ 9) := by rw [← q_f_e1]; exact hT 110 110 (A_110 hw) (((2 * g1) + 1).toNat)
  have ht_f_ties : (0 ≤ f_ties ∧ f_ties ≤ 20) := by rw [← q_f_ties]; exact hT 106 106 (A_106 hw) 6
  have ht_f_x := rt7 hT (A_126 hw) (vc_X12_copy_1 hp2) q_f_x
  have h1 : (-1) ≤ f_x ∧ f_x ≤ 9 := ht_f_x.2.1 (vc_X12_copy_2 hp2)
  have ht_f_pol : (0 ≤ f_pol ∧ f_pol ≤ 12) := by rw [← q_f_pol]; exact hT 106 106 (A_106 hw) 39
  have ht_f_pre : (0 ≤ f_pre ∧ f_pre ≤ 10) := by rw [← q_f_pre]; exact hT 106 106 (A_106 hw) 2
  have h2 : 1 ≤ f_ties ∧ f_ties ≤ 20 := (vc_X3_putAttributes_11 hq0 ht_f_ties hg1)
  have h3 : 0 ≤ f_x ∧ f_x ≤ 9 := (vc_X12_isThere_6 hq2 h1)
  have h4 : 1 ≤ f_pre ∧ f_pre ≤ 10 := (vc_X11_isPrefix_8 hq4 hq2 ht_f_pre h3)
  refine mr_lvE (lv' := [(0, .ref 106), (1, iv p1), (2, iv p2), (3, iv p3), (4, iv p4)]) rfl ?_
  refine mr_iload_n (pc := 0) (z := p1) dX12_through_0 rfl rfl ?_
  refine mr_ldc (pc := 1) (z := (-99999999)) dX12_through_1 wG_X12_29 (by decide) ?_
  refine mr_icmp_ne (pc := 3) (tgt := 8) dX12_through_3 (by decide) hp1 (r32 (rR (x := (-99999999))) rfl) (fun h17805 => ?_) (fun h17805 => ?_)
  · refine mr_iconst (pc := 8) (z := 1) dX12_through_8 ?_
    refine mr_istore (pc := 9) (lv' := [(5, iv 1), (0, .ref 106), (1, iv p1), (2, iv p2), (3, iv p3), (4, iv p4)]) dX12_through_9 (by decide) rfl ?_
    refine mr_iconst (pc := 11) (z := 0) dX12_through_11 ?_
    refine mr_istore (pc := 12) (lv' := [(6, iv 0), (5, iv 1), (0, .ref 106), (1, iv p1), (2, iv p2), (3, iv p3), (4, iv p4)]) dX12_through_12 (by decide) rfl ?_
    refine sv_aload_n (pc := 14) dX12_through_14 rfl rfl ?_
    refine gf_X12_67 (pc := 15) dX12_through_15 wF_X12_388 (A_106 hw) hT ?_
    refine mr_iconst (pc := 18) (z := 0) dX12_through_18 ?_
    refine mr_iload_n (pc := 19) (z := p1) dX12_through_19 rfl rfl ?_
    refine ss_151 (pc := 20) dX12_through_20 (A_151 hw) hT (rIx (n := 14) (rR (x := 0)) rfl) (vc_X12_through_5 hq3 h17805 ht_f_pol hp1) fun μ17806 u17807 T17808 => ?_
    refine sv_aload_n (pc := 21) dX12_through_21 rfl rfl ?_
    refine gf_X12_68 (pc := 22) dX12_through_22 wF_X12_391 (A_106 hw) T17808 ?_
    refine mr_iconst (pc := 25) (z := 0) dX12_through_25 ?_
    refine mr_iconst (pc := 26) (z := (-1)) dX12_through_26 ?_
    refine ss_152 (pc := 27) dX12_through_27 (A_152 hw) T17808 (rIx (n := 14) (rR (x := 0)) rfl) (rW (c := (-1)) (d := 30) (rR (x := (-1))) rfl) fun μ17809 u17810 T17811 => ?_
    refine sv_aload_n (pc := 28) dX12_through_28 rfl rfl ?_
    refine gf_X12_69 (pc := 29) dX12_through_29 wF_X12_394 (A_106 hw) T17811 ?_
    refine mr_iconst (pc := 32) (z := 0) dX12_through_32 ?_
    refine mr_iconst (pc := 33) (z := 0) dX12_through_33 ?_
    refine ss_153 (pc := 34) dX12_through_34 (A_153 hw) T17811 (rIx (n := 14) (rR (x := 0)) rfl) (rW (c := 0) (d := 300) (rR (x := 0)) rfl) fun μ17812 u17813 T17814 => ?_
    obtain ⟨z17815, q17816⟩ : ∃ z, μ17812 127 (p1.toNat) = z := ⟨_, rfl⟩
    have h17817 : (0 ≤ z17815 ∧ z17815 ≤ 30) := by rw [← q17816]; exact T17814 127 127 (A_127 hw) (p1.toNat)
    have I17818 : lvOK μ17812 ((0 : Int) + 1) := lvOK.push lvOK.zero vc_X12_through_6 u17807 u17810 u17813 (u17813.f (Or.inl (mAt.ne (A_153 hw) (A_106 hw) rfl)) (u17810.f (Or.inl (mAt.ne (A_152 hw) (A_106 hw) rfl)) (u17807.f (Or.inl (mAt.ne (A_151 hw) (A_106 hw) rfl)) q_f_pol))) (vc_X12_through_7 hq3 h17805 ht_f_pol hp1) q17816 (vc_X12_through_8 h17817)
    have L32218 : ∀ (nL32218 : Nat) (z32216 z32215 f_R : Int) (μ32217 : mM) (f_y : Int), mT w μ32217 → mF [106026, 106027, 106028, 106029, 106030, 106031, 126999, 151999, 152999, 153999] w μ17812 μ32217 → mG [(((40 * p2) + 1), ((40 * p2) + 40))] μ17812 μ32217 → μ32217 126 ((40 * p2).toNat) = f_y → (0 ≤ z32216 ∧ z32216 ≤ 12) → (0 ≤ z32215 ∧ z32215 ≤ 500) → ((-1) ≤ f_R ∧ f_R ≤ 30) → (f_y = f_x) → JC l D c H0 sa μ32217 → PK μ32217 → lvOK μ32217 z32216 → (z32216 = 0 ∨ μ32217 152 (z32216 - 1).toNat = f_R) → (((100 * (501 - z32215)) + (34 * z32216)) - f_R) < (nL32218 : Int) → sV (gG l D c H0 sa) mX12_through (sRm 6 0 0) (sZ (gG l D c H0 sa) 0 0 (qI w [106026, 106027, 106028, 106029, 106030, 106031, 126999, 151999, 152999, 153999] μ (fun z μ1 => ∃ o_x : Int, μ1 126 ((40 * p2).toNat) = o_x ∧ (0 ≤ z ∧ z ≤ 1) ∧ mG [(((40 * p2) + 1), ((40 * p2) + 40))] μ μ1 ∧ JC l D c H0 sa μ1 ∧ (o_x = f_x) ∧ True))) 35 [(0, .ref 106), (2, iv p2), (3, iv p3), (4, iv p4), (5, iv z32216), (6, iv z32215)] [] (mk w μ32217) 0 0 := by
      intro nL32218
      induction nL32218 with
      | zero => intro z32216 z32215 f_R μ32217 f_y T32222 F32223 G32224 q32231 h32219 h32220 h32221 h32225 I32226 I32227 R32228 R32229 h32230; exact ((vc_X12_through_9 h32230 h32221 h32220 h32219)).elim
      | succ nL32218 ih32232 =>
        intro z32216 z32215 f_R μ32217 f_y T32222 F32223 G32224 q32231 h32219 h32220 h32221 h32225 I32226 I32227 R32228 R32229 h32230
        have h32233 := rt7 T32222 (A_126 hw) (vc_X12_copy_1 hp2) q32231
        have h32234 : (-1) ≤ f_y ∧ f_y ≤ 9 := h32233.2.1 (vc_X12_copy_2 hp2)
        refine mr_iload (pc := 35) (z := z32216) dX12_through_35 rfl ?_
        refine mr_if_le (pc := 37) (tgt := 529) dX12_through_37 (by decide) (r32 h32219 rfl) (fun h32235 => ?_) (fun h32235 => ?_)
        · have h32236 : 0 ≤ z32216 ∧ z32216 ≤ 0 := (vc_X12_through_10 h32235 h32219)
          refine mr_iconst (pc := 529) (z := 1) dX12_through_529 ?_
          exact mr_zret dX12_through_530 rfl (rW (c := 0) (d := 1) (rR (x := 1)) rfl) (le_t rfl) (le_t rfl) T32222 (mF.call (mF.up (mF.up (mF.up mF.refl (A_151 hw) u17807 rfl) (A_152 hw) u17810 rfl) (A_153 hw) u17813 rfl) F32223 rfl) ⟨f_y, q32231, (rW (c := 0) (d := 1) (rR (x := 1)) rfl), (mG.call (mG.upO (mG.upO (mG.upO mG.refl u17807 rfl) u17810 rfl) u17813 rfl) G32224 (List.forall_mem_cons.mpr ⟨⟨_, List.mem_cons_self, (vc_X12_dropMark_5 hp2)⟩, (fun _ h => absurd h List.not_mem_nil)⟩)), I32226, (vc_X12_through_u_13 hq2 hq4 h32225 h4 h3 h32234), trivial⟩
        have h32237 : 1 ≤ z32216 ∧ z32216 ≤ 12 := (vc_X12_through_13 h32235 h32219)
        refine mr_iload (pc := 40) (z := z32216) dX12_through_40 rfl ?_
        refine mr_iconst (pc := 42) (z := 1) dX12_through_42 ?_
        refine mr_isub (pc := 43) (x := z32216) (y := 1) dX12_through_43 ?_
        refine mr_istore (pc := 44) (lv' := [(7, iv (z32216 - 1)), (0, .ref 106), (2, iv p2), (3, iv p3), (4, iv p4), (5, iv z32216), (6, iv z32215)]) dX12_through_44 (by decide) rfl ?_
        refine sv_aload_n (pc := 46) dX12_through_46 rfl rfl ?_
        refine gf_X12_67 (pc := 47) dX12_through_47 wF_X12_388 (A_106 hw) T32222 ?_
        refine mr_iload (pc := 50) (z := (z32216 - 1)) dX12_through_50 rfl ?_
        refine la_151 (pc := 52) dX12_through_52 (A_151 hw) T32222 (rIx (n := 14) (rSub (e := 0) (f := 11) h32237 (rR (x := 1)) rfl) rfl) fun z32238 q32239 h32240 => ?_
        have h32241 : 0 ≤ z32238 ∧ z32238 < f_pol ∧ z32238 + (z32216 - 1) ≤ 11 := lvOK.p R32228 (vc_X12_through_14 h32235 h32237) q32239 (F32223.f (A_106 hw) rfl (u17813.f (Or.inl (mAt.ne (A_153 hw) (A_106 hw) rfl)) (u17810.f (Or.inl (mAt.ne (A_152 hw) (A_106 hw) rfl)) (u17807.f (Or.inl (mAt.ne (A_151 hw) (A_106 hw) rfl)) q_f_pol))))
        refine mr_istore (pc := 53) (lv' := [(8, iv z32238), (7, iv (z32216 - 1)), (0, .ref 106), (2, iv p2), (3, iv p3), (4, iv p4), (5, iv z32216), (6, iv z32215)]) dX12_through_53 (by decide) rfl ?_
        refine sv_aload_n (pc := 55) dX12_through_55 rfl rfl ?_
        refine gf_X12_68 (pc := 56) dX12_through_56 wF_X12_391 (A_106 hw) T32222 ?_
        refine mr_iload (pc := 59) (z := (z32216 - 1)) dX12_through_59 rfl ?_
        refine la_152 (pc := 61) dX12_through_61 (A_152 hw) T32222 (rIx (n := 14) (rSub (e := 0) (f := 11) h32237 (rR (x := 1)) rfl) rfl) fun z32242 q32243 h32244 => ?_
        obtain ⟨z32245, q32246⟩ : ∃ z, μ32217 127 (z32238.toNat) = z := ⟨_, rfl⟩
        have h32247 : (0 ≤ z32245 ∧ z32245 ≤ 30) := by rw [← q32246]; exact T32222 127 127 (A_127 hw) (z32238.toNat)
        obtain ⟨z32248, q32249⟩ : ∃ z, μ32217 131 (z32238.toNat) = z := ⟨_, rfl⟩
        have h32250 : (0 ≤ z32248 ∧ z32248 ≤ 300) := by rw [← q32249]; exact T32222 131 131 (A_131 hw) (z32238.toNat)
        have h32251 : z32242 < z32245 ∧ z32242 = f_R := ⟨lvOK.r R32228 (vc_X12_through_15 h32235 h32241 hq3 ht_f_pol hp1 h32237 h32240) q32239 q32243 q32246, topE R32229 (vc_X12_through_16 h32235 h32241 hq3 ht_f_pol hp1 h32237 h32240) (vc_X12_through_17 h32235 h32241 hq3 ht_f_pol hp1 h32237 h32240) q32243⟩
        have h32252 : (-1) ≤ z32242 ∧ z32242 ≤ 29 := (vc_X12_through_18 h32251.1 h32251 h32221 h32244 h32247)
        refine mr_istore (pc := 62) (lv' := [(9, iv z32242), (8, iv z32238), (7, iv (z32216 - 1)), (0, .ref 106), (2, iv p2), (3, iv p3), (4, iv p4), (5, iv z32216), (6, iv z32215)]) dX12_through_62 (by decide) rfl ?_
        refine mr_iload (pc := 64) (z := z32242) dX12_through_64 rfl ?_
        refine mr_if_lt (pc := 66) (tgt := 94) dX12_through_66 (by decide) (r32 h32252 rfl) (fun h32253 => ?_) (fun h32253 => ?_)
        · have h32254 : (-1) ≤ z32242 ∧ z32242 ≤ (-1) := (vc_X12_through_19 h32253 h32251 h32251.1 h32221 h32252 h32247)
          refine mr_iinc (pc := 94) (lv' := [(9, iv (z32242 + 1)), (8, iv z32238), (7, iv (z32216 - 1)), (0, .ref 106), (2, iv p2), (3, iv p3), (4, iv p4), (5, iv z32216), (6, iv z32215)]) dX12_through_94 rfl (by decide) rfl ?_
          refine mr_iconst (pc := 97) (z := 0) dX12_through_97 ?_
          refine mr_istore (pc := 98) (lv' := [(10, iv 0), (9, iv (z32242 + 1)), (8, iv z32238), (7, iv (z32216 - 1)), (0, .ref 106), (2, iv p2), (3, iv p3), (4, iv p4), (5, iv z32216), (6, iv z32215)]) dX12_through_98 (by decide) rfl ?_
          have L33925 : ∀ (nL33925 : Nat) (z33923 z33922 : Int) (μ33924 : mM), mT w μ33924 → mF [106026, 106027, 106028, 106029, 106030, 106031] w μ32217 μ33924 → (0 ≤ z33923 ∧ z33923 ≤ 30) → (0 ≤ z33922 ∧ z33922 ≤ 1) → (z33922 = 0 ∨ z33923 < z32245) → (f_R < z33923) → JC l D c H0 sa μ33924 → PK μ33924 → (70 - ((2 * z33923) + z33922)) < (nL33925 : Int) → sV (gG l D c H0 sa) mX12_through (sRm 6 0 0) (sZ (gG l D c H0 sa) 0 0 (qI w [106026, 106027, 106028, 106029, 106030, 106031, 126999, 151999, 152999, 153999] μ (fun z μ1 => ∃ o_x : Int, μ1 126 ((40 * p2).toNat) = o_x ∧ (0 ≤ z ∧ z ≤ 1) ∧ mG [(((40 * p2) + 1), ((40 * p2) + 40))] μ μ1 ∧ JC l D c H0 sa μ1 ∧ (o_x = f_x) ∧ True))) 100 [(0, .ref 106), (2, iv p2), (3, iv p3), (4, iv p4), (5, iv z32216), (6, iv z32215), (7, iv (z32216 - 1)), (8, iv z32238), (9, iv z33923), (10, iv z33922)] [] (mk w μ33924) 0 0 := by
            intro nL33925
            induction nL33925 with
            | zero => intro z33923 z33922 μ33924 T33928 F33929 h33926 h33927 h33931 h33932 I33933 I33934 h33935; exact ((vc_X12_through_20 h33935 h33931 h33932 h32251 h32251.1 h32221 h32254 h32247 h33927 h33926)).elim
            | succ nL33925 ih33936 =>
              intro z33923 z33922 μ33924 T33928 F33929 h33926 h33927 h33931 h33932 I33933 I33934 h33935
              refine mr_iload (pc := 100) (z := z33923) dX12_through_100 rfl ?_
              refine sv_aload_n (pc := 102) dX12_through_102 rfl rfl ?_
              refine gf_X12_40 (pc := 103) dX12_through_103 wF_X12_358 (A_106 hw) T33928 ?_
              refine mr_iload (pc := 106) (z := z32238) dX12_through_106 rfl ?_
              refine lk_127 (pc := 108) dX12_through_108 (A_127 hw) (rIx (n := 13) h32240 rfl) (F33929.f (A_127 hw) rfl q32246) ?_
              have J33978 : sV (gG l D c H0 sa) mX12_through (sRm 6 0 0) (sZ (gG l D c H0 sa) 0 0 (qI w [106026, 106027, 106028, 106029, 106030, 106031, 126999, 151999, 152999, 153999] μ (fun z μ1 => ∃ o_x : Int, μ1 126 ((40 * p2).toNat) = o_x ∧ (0 ≤ z ∧ z ≤ 1) ∧ mG [(((40 * p2) + 1), ((40 * p2) + 40))] μ μ1 ∧ JC l D c H0 sa μ1 ∧ (o_x = f_x) ∧ True))) 198 [(0, .ref 106), (2, iv p2), (3, iv p3), (4, iv p4), (5, iv z32216), (6, iv z32215), (7, iv (z32216 - 1)), (8, iv z32238), (9, iv z33923), (10, iv z33922)] [] (mk w μ33924) 0 0 := by
                refine mr_iload (pc := 198) (z := z33922) dX12_through_198 rfl ?_
                refine mr_if_ne (pc := 200) (tgt := 209) dX12_through_200 (by decide) (r32 h33927 rfl) (fun h33979 => ?_) (fun h33979 => ?_)
                · have h33980 : 1 ≤ z33922 ∧ z33922 ≤ 1 := (vc_X12_through_21 h33979 h33931 h32247 h33927 h33926)
                  refine sv_aload_n (pc := 209) dX12_through_209 rfl rfl ?_
                  refine gf_X12_68 (pc := 210) dX12_through_210 wF_X12_391 (A_106 hw) T33928 ?_
                  refine mr_iload (pc := 213) (z := (z32216 - 1)) dX12_through_213 rfl ?_
                  refine mr_iload (pc := 215) (z := z33923) dX12_through_215 rfl ?_
                  refine ss_152 (pc := 217) dX12_through_217 (A_152 hw) T33928 (rIx (n := 14) (rSub (e := 0) (f := 11) h32237 (rR (x := 1)) rfl) rfl) (rW (c := (-1)) (d := 30) h33926 rfl) fun μ33981 u33982 T33983 => ?_
                  refine sv_aload_n (pc := 218) dX12_through_218 rfl rfl ?_
                  refine gf_X12_69 (pc := 219) dX12_through_219 wF_X12_394 (A_106 hw) T33983 ?_
                  refine mr_iload (pc := 222) (z := (z32216 - 1)) dX12_through_222 rfl ?_
                  refine sv_aload_n (pc := 224) dX12_through_224 rfl rfl ?_
                  refine gf_X12_42 (pc := 225) dX12_through_225 wF_X12_364 (A_106 hw) T33983 ?_
                  refine mr_bipush (pc := 228) (z := 31) dX12_through_228 (by decide) ?_
                  refine mr_iload (pc := 230) (z := z32238) dX12_through_230 rfl ?_
                  refine mr_imul (pc := 232) (x := 31) (y := z32238) dX12_through_232 ?_
                  refine mr_iload (pc := 233) (z := z33923) dX12_through_233 rfl ?_
                  refine mr_iadd (pc := 235) (x := (31 * z32238)) (y := z33923) dX12_through_235 ?_
                  refine la_129 (pc := 236) dX12_through_236 (A_129 hw) T33983 (rIx (n := 403) (rAdd (e := 0) (f := 371) (rMulL (n := 31) (e := 0) (f := 341) h32240 rfl) h33926 rfl) rfl) fun z33984 q33985 h33986 => ?_
                  refine ss_153 (pc := 237) dX12_through_237 (A_153 hw) T33983 (rIx (n := 14) (rSub (e := 0) (f := 11) h32237 (rR (x := 1)) rfl) rfl) h33986 fun μ33987 u33988 T33989 => ?_
                  have I33990 : lvOK μ33987 z32216 := lvOK.row (lvOK.keep R32228 hw ((mF.call mF.refl F33929 rfl) : mF [106026, 106027, 106028, 106029, 106030, 106031] w μ32217 _) rfl) (PK.keep I33934 hw ((mF.up (mF.up mF.refl (A_152 hw) u33982 rfl) (A_153 hw) u33988 rfl) : mF [152999, 153999] w μ33924 μ33987) rfl) (vc_X12_through_15 h32235 h32241 hq3 ht_f_pol hp1 h32237 h32240) u33982 u33988 (u33988.f (Or.inl (mAt.ne (A_153 hw) (A_151 hw) rfl)) (u33982.f (Or.inl (mAt.ne (A_152 hw) (A_151 hw) rfl)) (F33929.f (A_151 hw) rfl q32239))) (vc_X12_through_22 hq3 h32241 h17805 h32235 ht_f_pol hp1 h32237 h32240) (u33988.f (Or.inl (mAt.ne (A_153 hw) (A_106 hw) rfl)) (u33982.f (Or.inl (mAt.ne (A_152 hw) (A_106 hw) rfl)) (F33929.f (A_106 hw) rfl (F32223.f (A_106 hw) rfl (u17813.f (Or.inl (mAt.ne (A_153 hw) (A_106 hw) rfl)) (u17810.f (Or.inl (mAt.ne (A_152 hw) (A_106 hw) rfl)) (u17807.f (Or.inl (mAt.ne (A_151 hw) (A_106 hw) rfl)) q_f_pol))))))) (vc_X12_through_23 h32251 h32251.1 h33931 h33932 h32253 h33979 h32221 h32254 h32247 h33980 h33926) (u33988.f (Or.inl (mAt.ne (A_153 hw) (A_127 hw) rfl)) (u33982.f (Or.inl (mAt.ne (A_152 hw) (A_127 hw) rfl)) (F33929.f (A_127 hw) rfl q32246))) (vc_X12_through_24 h32241 h33931 h33932 hq3 h32235 h32251 h32251.1 h33979 h32221 ht_f_pol hp1 h32237 h32240 h32254 h32247 h33980 h33926) (u33988.f (Or.inl (mAt.ne (A_153 hw) (A_129 hw) rfl)) q33985)
                  refine sv_goto (pc := 238) (tgt := 35) dX12_through_238 (by decide) ?_
                  refine mr_lvS (lv' := [(0, .ref 106), (2, iv p2), (3, iv p3), (4, iv p4), (5, iv z32216), (6, iv z32215)]) (List.forall_mem_cons.mpr ⟨rfl, List.forall_mem_cons.mpr ⟨rfl, List.forall_mem_cons.mpr ⟨rfl, List.forall_mem_cons.mpr ⟨rfl, List.forall_mem_cons.mpr ⟨rfl, List.forall_mem_cons.mpr ⟨rfl, fun _ h => absurd h List.not_mem_nil⟩⟩⟩⟩⟩⟩) ?_
                  exact ih32232 z32216 z32215 z33923 μ33987 f_y T33989 (mF.up (mF.up (mF.call (mF.call mF.refl F32223 rfl) F33929 rfl) (A_152 hw) u33982 rfl) (A_153 hw) u33988 rfl) (mG.upO (mG.upO (mG.fr (mG.call mG.refl G32224 (List.forall_mem_cons.mpr ⟨⟨_, List.mem_cons_self, (vc_X12_dropMark_5 hp2)⟩, (fun _ h => absurd h List.not_mem_nil)⟩)) F33929 (A_126 hw) rfl) u33982 rfl) u33988 rfl) (u33988.f (Or.inl (mAt.ne (A_153 hw) (A_126 hw) rfl)) (u33982.f (Or.inl (mAt.ne (A_152 hw) (A_126 hw) rfl)) (F33929.f (A_126 hw) rfl q32231))) (rW (c := 0) (d := 12) h32237 rfl) h32220 (rW (c := (-1)) (d := 30) h33926 rfl) (vc_X12_through_u_13 hq2 hq4 h32225 h4 h3 h32234) (JC.keepJ I33933 hw ((mF.up (mF.up mF.refl (A_152 hw) u33982 rfl) (A_153 hw) u33988 rfl) : mF [152999, 153999] w μ33924 μ33987) rfl) (PK.keep I33934 hw ((mF.up (mF.up mF.refl (A_152 hw) u33982 rfl) (A_153 hw) u33988 rfl) : mF [152999, 153999] w μ33924 μ33987) rfl) (lvOK.pred I33990 (vc_X12_through_26 h32235 h32241 hq3 ht_f_pol hp1 h32237 h32240)) (Or.inr (u33988.f (Or.inl (mAt.ne (A_153 hw) (A_152 hw) rfl)) u33982.1)) (vc_X12_through_25 (nS h32230) h32235 h32241 h32251 h33931 h33932 hq3 h32251.1 h32253 h33979 h32221 ht_f_pol hp1 h32220 h32237 h32240 h32254 h32247 h33980 h33926)
                have h33991 : 0 ≤ z33922 ∧ z33922 ≤ 0 := (vc_X12_through_27 h33979 h33931 h32247 h33927 h33926)
                refine mr_iinc (pc := 203) (lv' := [(5, iv (z32216 + (-1))), (0, .ref 106), (2, iv p2), (3, iv p3), (4, iv p4), (6, iv z32215), (7, iv (z32216 - 1)), (8, iv z32238), (9, iv z33923), (10, iv z33922)]) dX12_through_203 rfl (by decide) rfl ?_
                by_cases h33992 : (z32216 + (-1)) = 0
                · have h33993 : 1 ≤ z32216 ∧ z32216 ≤ 1 := (vc_X12_through_28 h33992 h32235 h32241 ht_f_pol h32237 h32240)
                  refine sv_goto (pc := 206) (tgt := 35) dX12_through_206 (by decide) ?_
                  refine mr_lvS (lv' := [(0, .ref 106), (2, iv p2), (3, iv p3), (4, iv p4), (5, iv (z32216 + (-1))), (6, iv z32215)]) (List.forall_mem_cons.mpr ⟨rfl, List.forall_mem_cons.mpr ⟨rfl, List.forall_mem_cons.mpr ⟨rfl, List.forall_mem_cons.mpr ⟨rfl, List.forall_mem_cons.mpr ⟨rfl, List.forall_mem_cons.mpr ⟨rfl, fun _ h => absurd h List.not_mem_nil⟩⟩⟩⟩⟩⟩) ?_
                  exact ih32232 (z32216 + (-1)) z32215 0 μ33924 f_y T33928 (mF.call (mF.call mF.refl F32223 rfl) F33929 rfl) (mG.fr (mG.call mG.refl G32224 (List.forall_mem_cons.mpr ⟨⟨_, List.mem_cons_self, (vc_X12_dropMark_5 hp2)⟩, (fun _ h => absurd h List.not_mem_nil)⟩)) F33929 (A_126 hw) rfl) (F33929.f (A_126 hw) rfl q32231) (rW (c := 0) (d := 12) (rAdd (e := 0) (f := 0) h33993 (rR (x := (-1))) rfl) rfl) h32220 (rW (c := (-1)) (d := 30) (rR (x := 0)) rfl) (vc_X12_through_u_13 hq2 hq4 h32225 h4 h3 h32234) I33933 I33934 (lvOK.pred (lvOK.keep R32228 hw ((mF.call mF.refl F33929 rfl) : mF [106026, 106027, 106028, 106029, 106030, 106031] w μ32217 μ33924) rfl) (vc_X12_through_30 h32235 h32241 h33992 hq3 ht_f_pol hp1 h33993 h32240)) (Or.inl (vc_X12_through_31 h32235 h32241 h33992 hq3 ht_f_pol hp1 h33993 h32240)) (vc_X12_through_29 (nS h32230) h32235 h32241 h32251 h33932 h33992 hq3 h32251.1 h32253 h33931 h32221 ht_f_pol hp1 h32220 h33993 h32240 h32254 h32247 h33991 h33926)
                have h33994 : 2 ≤ z32216 ∧ z32216 ≤ 12 := (vc_X12_through_32 h33992 h32235 h32241 ht_f_pol h32237 h32240)
                refine sv_goto (pc := 206) (tgt := 35) dX12_through_206 (by decide) ?_
                obtain ⟨z33995, q33996⟩ : ∃ z, μ33924 152 (((z32216 + (-1)) - 1).toNat) = z := ⟨_, rfl⟩
                have h33997 : ((-1) ≤ z33995 ∧ z33995 ≤ 30) := by rw [← q33996]; exact T33928 152 152 (A_152 hw) (((z32216 + (-1)) - 1).toNat)
                refine mr_lvS (lv' := [(0, .ref 106), (2, iv p2), (3, iv p3), (4, iv p4), (5, iv (z32216 + (-1))), (6, iv z32215)]) (List.forall_mem_cons.mpr ⟨rfl, List.forall_mem_cons.mpr ⟨rfl, List.forall_mem_cons.mpr ⟨rfl, List.forall_mem_cons.mpr ⟨rfl, List.forall_mem_cons.mpr ⟨rfl, List.forall_mem_cons.mpr ⟨rfl, fun _ h => absurd h List.not_mem_nil⟩⟩⟩⟩⟩⟩) ?_
                exact ih32232 (z32216 + (-1)) z32215 z33995 μ33924 f_y T33928 (mF.call (mF.call mF.refl F32223 rfl) F33929 rfl) (mG.fr (mG.call mG.refl G32224 (List.forall_mem_cons.mpr ⟨⟨_, List.mem_cons_self, (vc_X12_dropMark_5 hp2)⟩, (fun _ h => absurd h List.not_mem_nil)⟩)) F33929 (A_126 hw) rfl) (F33929.f (A_126 hw) rfl q32231) (rW (c := 0) (d := 12) (rAdd (e := 1) (f := 11) h33994 (rR (x := (-1))) rfl) rfl) h32220 h33997 (vc_X12_through_u_13 hq2 hq4 h32225 h4 h3 h32234) I33933 I33934 (lvOK.pred (lvOK.keep R32228 hw ((mF.call mF.refl F33929 rfl) : mF [106026, 106027, 106028, 106029, 106030, 106031] w μ32217 μ33924) rfl) (vc_X12_through_34 h32235 h32241 h33992 hq3 ht_f_pol hp1 h33994 h32240)) (Or.inr q33996) (vc_X12_through_33 (nS h32230) h32235 h32241 h32251 h33932 h33992 hq3 h32251.1 h32253 h33931 h32221 ht_f_pol hp1 h32220 h33994 h32240 h32254 h32247 h33991 h33926 h33997)
              refine mr_icmp_ge (pc := 109) (tgt := 198) dX12_through_109 (by decide) (r32 h33926 rfl) (r32 h32247 rfl) (fun h33998 => ?_) (fun h33998 => ?_)
              · exact J33978 
              have h33999 : 0 ≤ z33923 ∧ z33923 ≤ 29 := (vc_X12_through_35 h33998 h32251 h32251.1 h33931 h33932 h32221 h32254 h32247 h33927 h33926)
              have h34000 : 1 ≤ z32245 ∧ z32245 ≤ 30 := (vc_X12_through_36 h33998 h32251 h32251.1 h33931 h33932 h32221 h32254 h32247 h33927 h33999)
              refine mr_iload (pc := 112) (z := z33922) dX12_through_112 rfl ?_
              refine mr_if_ne (pc := 114) (tgt := 198) dX12_through_114 (by decide) (r32 h33927 rfl) (fun h34001 => ?_) (fun h34001 => ?_)
              · have h34002 : 1 ≤ z33922 ∧ z33922 ≤ 1 := (vc_X12_through_37 h34001 h33931 h34000 h33927 h33999)
                exact J33978 
              have h34003 : 0 ≤ z33922 ∧ z33922 ≤ 0 := (vc_X12_through_38 h34001 h33931 h34000 h33927 h33999)
              refine mr_iconst (pc := 117) (z := 1) dX12_through_117 ?_
              refine mr_istore (pc := 118) (lv' := [(10, iv 1), (0, .ref 106), (2, iv p2), (3, iv p3), (4, iv p4), (5, iv z32216), (6, iv z32215), (7, iv (z32216 - 1)), (8, iv z32238), (9, iv z33923)]) dX12_through_118 (by decide) rfl ?_
              refine sv_aload_n (pc := 120) dX12_through_120 rfl rfl ?_
              refine gf_X12_41 (pc := 121) dX12_through_121 wF_X12_361 (A_106 hw) T33928 ?_
              refine mr_bipush (pc := 124) (z := 31) dX12_through_124 (by decide) ?_
              refine mr_iload (pc := 126) (z := z32238) dX12_through_126 rfl ?_
              refine mr_imul (pc := 128) (x := 31) (y := z32238) dX12_through_128 ?_
              refine mr_iload (pc := 129) (z := z33923) dX12_through_129 rfl ?_
              refine mr_iadd (pc := 131) (x := (31 * z32238)) (y := z33923) dX12_through_131 ?_
              refine la_128 (pc := 132) dX12_through_132 (A_128 hw) T33928 (rIx (n := 403) (rAdd (e := 0) (f := 370) (rMulL (n := 31) (e := 0) (f := 341) h32240 rfl) h33999 rfl) rfl) fun z34004 q34005 h34006 => ?_
              refine mr_istore (pc := 133) (lv' := [(11, iv z34004), (10, iv 1), (0, .ref 106), (2, iv p2), (3, iv p3), (4, iv p4), (5, iv z32216), (6, iv z32215), (7, iv (z32216 - 1)), (8, iv z32238), (9, iv z33923)]) dX12_through_133 (by decide) rfl ?_
              have L34057 : ∀ (nL34057 : Nat) (z34055 z34054 : Int) (μ34056 : mM), mT w μ34056 → mF [106026, 106027, 106028, 106029, 106030, 106031] w μ33924 μ34056 → (0 ≤ z34055 ∧ z34055 ≤ 1) → (0 ≤ z34054 ∧ z34054 ≤ 300) → JC l D c H0 sa μ34056 → PK μ34056 → (301 - z34054) < (nL34057 : Int) → sV (gG l D c H0 sa) mX12_through (sRm 6 0 0) (sZ (gG l D c H0 sa) 0 0 (qI w [106026, 106027, 106028, 106029, 106030, 106031, 126999, 151999, 152999, 153999] μ (fun z μ1 => ∃ o_x : Int, μ1 126 ((40 * p2).toNat) = o_x ∧ (0 ≤ z ∧ z ≤ 1) ∧ mG [(((40 * p2) + 1), ((40 * p2) + 40))] μ μ1 ∧ JC l D c H0 sa μ1 ∧ (o_x = f_x) ∧ True))) 135 [(0, .ref 106), (2, iv p2), (3, iv p3), (4, iv p4), (5, iv z32216), (6, iv z32215), (7, iv (z32216 - 1)), (8, iv z32238), (9, iv z33923), (10, iv z34055), (11, iv z34054)] [] (mk w μ34056) 0 0 := by
                intro nL34057
                induction nL34057 with
                | zero => intro z34055 z34054 μ34056 T34060 F34061 h34058 h34059 I34063 I34064 h34065; exact ((vc_X12_through_39 h34065 h34059)).elim
                | succ nL34057 ih34066 =>
                  intro z34055 z34054 μ34056 T34060 F34061 h34058 h34059 I34063 I34064 h34065
                  refine mr_iload (pc := 135) (z := z34054) dX12_through_135 rfl ?_
                  refine sv_aload_n (pc := 137) dX12_through_137 rfl rfl ?_
                  refine gf_X12_41 (pc := 138) dX12_through_138 wF_X12_361 (A_106 hw) T34060 ?_
                  refine mr_bipush (pc := 141) (z := 31) dX12_through_141 (by decide) ?_
                  refine mr_iload (pc := 143) (z := z32238) dX12_through_143 rfl ?_
                  refine mr_imul (pc := 145) (x := 31) (y := z32238) dX12_through_145 ?_
                  refine mr_iload (pc := 146) (z := z33923) dX12_through_146 rfl ?_
                  refine mr_iadd (pc := 148) (x := (31 * z32238)) (y := z33923) dX12_through_148 ?_
                  refine mr_iconst (pc := 149) (z := 1) dX12_through_149 ?_
                  refine mr_iadd (pc := 150) (x := ((31 * z32238) + z33923)) (y := 1) dX12_through_150 ?_
                  refine la_128 (pc := 151) dX12_through_151 (A_128 hw) T34060 (rIx (n := 403) (rAdd (e := 1) (f := 371) (rAdd (e := 0) (f := 370) (rMulL (n := 31) (e := 0) (f := 341) h32240 rfl) h33999 rfl) (rR (x := 1)) rfl) rfl) fun z34067 q34068 h34069 => ?_
                  refine mr_icmp_ge (pc := 152) (tgt := 187) dX12_through_152 (by decide) (r32 h34059 rfl) (r32 h34069 rfl) (fun h34079 => ?_) (fun h34079 => ?_)
                  · refine mr_iload (pc := 187) (z := z34055) dX12_through_187 rfl ?_
                    refine mr_if_ne (pc := 189) (tgt := 100) dX12_through_189 (by decide) (r32 h34058 rfl) (fun h34080 => ?_) (fun h34080 => ?_)
                    · have h34081 : 1 ≤ z34055 ∧ z34055 ≤ 1 := (vc_X12_ring_24 h34080 h34058)
                      refine mr_lvS (lv' := [(0, .ref 106), (2, iv p2), (3, iv p3), (4, iv p4), (5, iv z32216), (6, iv z32215), (7, iv (z32216 - 1)), (8, iv z32238), (9, iv z33923), (10, iv z34055)]) (List.forall_mem_cons.mpr ⟨rfl, List.forall_mem_cons.mpr ⟨rfl, List.forall_mem_cons.mpr ⟨rfl, List.forall_mem_cons.mpr ⟨rfl, List.forall_mem_cons.mpr ⟨rfl, List.forall_mem_cons.mpr ⟨rfl, List.forall_mem_cons.mpr ⟨rfl, List.forall_mem_cons.mpr ⟨rfl, List.forall_mem_cons.mpr ⟨rfl, List.forall_mem_cons.mpr ⟨rfl, fun _ h => absurd h List.not_mem_nil⟩⟩⟩⟩⟩⟩⟩⟩⟩⟩) ?_
                      exact ih33936 z33923 z34055 μ34056 T34060 (mF.call (mF.call mF.refl F33929 rfl) F34061 rfl) (rW (c := 0) (d := 30) h33999 rfl) (rW (c := 0) (d := 1) h34081 rfl) (vc_X12_through_41 h32251 h32251.1 h33931 h33932 h33998 h34080 h32253 h34001 h32221 h32254 h34000 h34003 h33999 h34081) (vc_X12_through_42 h32251 h33931 h33932 h33998 h32251.1 h32253 h34001 h32221 h32254 h34000 h34003 h33999) I34063 I34064 (vc_X12_through_43 (nS h33935) h33931 h33932 h33998 h34001 h34080 h32251 h32251.1 h32221 h32254 h34000 h34003 h33999 h34081)
                    have h34082 : 0 ≤ z34055 ∧ z34055 ≤ 0 := (vc_X12_ring_22 h34080 h34058)
                    refine mr_iinc (pc := 192) (lv' := [(9, iv (z33923 + 1)), (0, .ref 106), (2, iv p2), (3, iv p3), (4, iv p4), (5, iv z32216), (6, iv z32215), (7, iv (z32216 - 1)), (8, iv z32238), (10, iv z34055), (11, iv z34054)]) dX12_through_192 rfl (by decide) rfl ?_
                    refine sv_goto (pc := 195) (tgt := 100) dX12_through_195 (by decide) ?_
                    refine mr_lvS (lv' := [(0, .ref 106), (2, iv p2), (3, iv p3), (4, iv p4), (5, iv z32216), (6, iv z32215), (7, iv (z32216 - 1)), (8, iv z32238), (9, iv (z33923 + 1)), (10, iv z34055)]) (List.forall_mem_cons.mpr ⟨rfl, List.forall_mem_cons.mpr ⟨rfl, List.forall_mem_cons.mpr ⟨rfl, List.forall_mem_cons.mpr ⟨rfl, List.forall_mem_cons.mpr ⟨rfl, List.forall_mem_cons.mpr ⟨rfl, List.forall_mem_cons.mpr ⟨rfl, List.forall_mem_cons.mpr ⟨rfl, List.forall_mem_cons.mpr ⟨rfl, List.forall_mem_cons.mpr ⟨rfl, fun _ h => absurd h List.not_mem_nil⟩⟩⟩⟩⟩⟩⟩⟩⟩⟩) ?_
                    exact ih33936 (z33923 + 1) z34055 μ34056 T34060 (mF.call (mF.call mF.refl F33929 rfl) F34061 rfl) (rW (c := 0) (d := 30) (rAdd (e := 1) (f := 30) h33999 (rR (x := 1)) rfl) rfl) (rW (c := 0) (d := 1) h34082 rfl) (vc_X12_through_45 h32251 h32251.1 h33931 h33932 h33998 h34080 h32253 h34001 h32221 h32254 h34000 h34003 h33999 h34082) (vc_X12_through_46 h32251 h33931 h33932 h33998 h32251.1 h32253 h34001 h32221 h32254 h34000 h34003 h33999) I34063 I34064 (vc_X12_through_47 (nS h33935) h33931 h33932 h33998 h34001 h34080 h32251 h32251.1 h32221 h32254 h34000 h34003 h33999 h34082)
                  have h34083 : 0 ≤ z34054 ∧ z34054 ≤ 299 := (vc_X12_through_48 h34079 h34059 h34069)
                  have h34084 : 1 ≤ z34067 ∧ z34067 ≤ 300 := (vc_X12_through_49 h34079 h34083 h34069)
                  refine mr_iload (pc := 155) (z := z34055) dX12_through_155 rfl ?_
                  refine mr_if_eq (pc := 157) (tgt := 187) dX12_through_157 (by decide) (r32 h34058 rfl) (fun h34092 => ?_) (fun h34092 => ?_)
                  · have h34093 : 0 ≤ z34055 ∧ z34055 ≤ 0 := (vc_X12_ring_22 h34092 h34058)
                    refine mr_iload (pc := 187) (z := z34055) dX12_through_187 rfl ?_
                    refine mr_if_ne (pc := 189) (tgt := 100) dX12_through_189 (by decide) (r32 h34093 rfl) (fun h => ((vc_X10_firstWrongStep_7 h h34093)).elim) (fun _ => ?_)
                    refine mr_iinc (pc := 192) (lv' := [(9, iv (z33923 + 1)), (0, .ref 106), (2, iv p2), (3, iv p3), (4, iv p4), (5, iv z32216), (6, iv z32215), (7, iv (z32216 - 1)), (8, iv z32238), (10, iv z34055), (11, iv z34054)]) dX12_through_192 rfl (by decide) rfl ?_
                    refine sv_goto (pc := 195) (tgt := 100) dX12_through_195 (by decide) ?_
                    refine mr_lvS (lv' := [(0, .ref 106), (2, iv p2), (3, iv p3), (4, iv p4), (5, iv z32216), (6, iv z32215), (7, iv (z32216 - 1)), (8, iv z32238), (9, iv (z33923 + 1)), (10, iv z34055)]) (List.forall_mem_cons.mpr ⟨rfl, List.forall_mem_cons.mpr ⟨rfl, List.forall_mem_cons.mpr ⟨rfl, List.forall_mem_cons.mpr ⟨rfl, List.forall_mem_cons.mpr ⟨rfl, List.forall_mem_cons.mpr ⟨rfl, List.forall_mem_cons.mpr ⟨rfl, List.forall_mem_cons.mpr ⟨rfl, List.forall_mem_cons.mpr ⟨rfl, List.forall_mem_cons.mpr ⟨rfl, fun _ h => absurd h List.not_mem_nil⟩⟩⟩⟩⟩⟩⟩⟩⟩⟩) ?_
                    exact ih33936 (z33923 + 1) z34055 μ34056 T34060 (mF.call (mF.call mF.refl F33929 rfl) F34061 rfl) (rW (c := 0) (d := 30) (rAdd (e := 1) (f := 30) h33999 (rR (x := 1)) rfl) rfl) (rW (c := 0) (d := 1) h34093 rfl) (vc_X12_through_45 h32251 h32251.1 h33931 h33932 h33998 h34092 h32253 h34001 h32221 h32254 h34000 h34003 h33999 h34093) (vc_X12_through_46 h32251 h33931 h33932 h33998 h32251.1 h32253 h34001 h32221 h32254 h34000 h34003 h33999) I34063 I34064 (vc_X12_through_47 (nS h33935) h33931 h33932 h33998 h34001 h34092 h32251 h32251.1 h32221 h32254 h34000 h34003 h33999 h34093)
                  have h34094 : 1 ≤ z34055 ∧ z34055 ≤ 1 := (vc_X12_ring_24 h34092 h34058)
                  refine sv_aload_n (pc := 160) dX12_through_160 rfl rfl ?_
                  refine mr_iload (pc := 161) (z := z32238) dX12_through_161 rfl ?_
                  refine mr_sipush (pc := 163) (z := 300) dX12_through_163 (by decide) ?_
                  refine mr_iload (pc := 166) (z := z32238) dX12_through_166 rfl ?_
                  refine mr_imul (pc := 168) (x := 300) (y := z32238) dX12_through_168 ?_
                  refine mr_iload (pc := 169) (z := z34054) dX12_through_169 rfl ?_
                  refine mr_iadd (pc := 171) (x := (300 * z32238)) (y := z34054) dX12_through_171 ?_
                  refine mr_iload_n (pc := 172) (z := p2) dX12_through_172 rfl rfl ?_
                  refine mr_iload_n (pc := 173) (z := p3) dX12_through_173 rfl rfl ?_
                  refine mr_iload (pc := 174) (z := p4) dX12_through_174 rfl ?_
                  refine mr_cVI (pc := 176) (c_X12_isSo_u hw T34060 h32240 (rW (c := 0) (d := 3899) (rAdd (e := 0) (f := 3599) (rMulL (n := 300) (e := 0) (f := 3300) h32240 rfl) h34083 rfl) rfl) hp2 hp3 hp4 hg1 (F34061.f (A_110 hw) rfl (F33929.f (A_110 hw) rfl (F32223.f (A_110 hw) rfl (u17813.f (Or.inl (mAt.ne (A_153 hw) (A_110 hw) rfl)) (u17810.f (Or.inl (mAt.ne (A_152 hw) (A_110 hw) rfl)) (u17807.f (Or.inl (mAt.ne (A_151 hw) (A_110 hw) rfl)) q_f_e0)))))) (F34061.f (A_110 hw) rfl (F33929.f (A_110 hw) rfl (F32223.f (A_110 hw) rfl (u17813.f (Or.inl (mAt.ne (A_153 hw) (A_110 hw) rfl)) (u17810.f (Or.inl (mAt.ne (A_152 hw) (A_110 hw) rfl)) (u17807.f (Or.inl (mAt.ne (A_151 hw) (A_110 hw) rfl)) q_f_e1)))))) (F34061.f (A_106 hw) rfl (F33929.f (A_106 hw) rfl (F32223.f (A_106 hw) rfl (u17813.f (Or.inl (mAt.ne (A_153 hw) (A_106 hw) rfl)) (u17810.f (Or.inl (mAt.ne (A_152 hw) (A_106 hw) rfl)) (u17807.f (Or.inl (mAt.ne (A_151 hw) (A_106 hw) rfl)) q_f_ties)))))) (F34061.f (A_126 hw) rfl (F33929.f (A_126 hw) rfl q32231)) (F34061.f (A_106 hw) rfl (F33929.f (A_106 hw) rfl (F32223.f (A_106 hw) rfl (u17813.f (Or.inl (mAt.ne (A_153 hw) (A_106 hw) rfl)) (u17810.f (Or.inl (mAt.ne (A_152 hw) (A_106 hw) rfl)) (u17807.f (Or.inl (mAt.ne (A_151 hw) (A_106 hw) rfl)) q_f_pre)))))) (vc_X12_tieWord_2 hq0 h2 hg1) (vc_X12_tieWord_3 hq1 ht_f_e0 ht_f_e1 hp3 hp4) (vc_X12_through_u_54 h32225 hq2 hq4 h4 h3 h32234) (vc_X12_through_u_55 hq4 h32225 hq2 h4 h3 h32234) I34063) (gOk _ _ _ _ _) dX12_through_176 (tX12_isSo _ _ _ _ _) ⟨wV_X12_isSo, wL_X12_isSo⟩ wM_X12_397 (gCX12 _ _ _ _ _) rfl (A_106 hw) rfl ⟨le_t rfl, le_t rfl⟩ ⟨le_t rfl, le_t rfl⟩ rfl (le_t rfl) fun z34099 μ34095 T34096 F34097 h34098 => ?_
                  refine mr_istore (pc := 179) (lv' := [(10, iv z34099), (0, .ref 106), (2, iv p2), (3, iv p3), (4, iv p4), (5, iv z32216), (6, iv z32215), (7, iv (z32216 - 1)), (8, iv z32238), (9, iv z33923), (11, iv z34054)]) dX12_through_179 (by decide) rfl ?_
                  refine mr_iinc (pc := 181) (lv' := [(11, iv (z34054 + 1)), (10, iv z34099), (0, .ref 106), (2, iv p2), (3, iv p3), (4, iv p4), (5, iv z32216), (6, iv z32215), (7, iv (z32216 - 1)), (8, iv z32238), (9, iv z33923)]) dX12_through_181 rfl (by decide) rfl ?_
                  refine sv_goto (pc := 184) (tgt := 135) dX12_through_184 (by decide) ?_
                  refine mr_lvS (lv' := [(0, .ref 106), (2, iv p2), (3, iv p3), (4, iv p4), (5, iv z32216), (6, iv z32215), (7, iv (z32216 - 1)), (8, iv z32238), (9, iv z33923), (10, iv z34099), (11, iv (z34054 + 1))]) (List.forall_mem_cons.mpr ⟨rfl, List.forall_mem_cons.mpr ⟨rfl, List.forall_mem_cons.mpr ⟨rfl, List.forall_mem_cons.mpr ⟨rfl, List.forall_mem_cons.mpr ⟨rfl, List.forall_mem_cons.mpr ⟨rfl, List.forall_mem_cons.mpr ⟨rfl, List.forall_mem_cons.mpr ⟨rfl, List.forall_mem_cons.mpr ⟨rfl, List.forall_mem_cons.mpr ⟨rfl, List.forall_mem_cons.mpr ⟨rfl, fun _ h => absurd h List.not_mem_nil⟩⟩⟩⟩⟩⟩⟩⟩⟩⟩⟩) ?_
                  exact ih34066 z34099 (z34054 + 1) μ34095 T34096 (mF.call (mF.call mF.refl F34061 rfl) F34097 rfl) h34098.1 (rW (c := 0) (d := 300) (rAdd (e := 1) (f := 300) h34083 (rR (x := 1)) rfl) rfl) h34098.2.1 (PK.keep I34064 hw ((mF.call mF.refl F34097 rfl) : mF [106026, 106027, 106028, 106029, 106030, 106031] w μ34056 μ34095) rfl) (vc_X12_through_54 (nS h34065) h34079 h34083 h34084)
              refine mr_lvS (lv' := [(0, .ref 106), (2, iv p2), (3, iv p3), (4, iv p4), (5, iv z32216), (6, iv z32215), (7, iv (z32216 - 1)), (8, iv z32238), (9, iv z33923), (10, iv 1), (11, iv z34004)]) (List.forall_mem_cons.mpr ⟨rfl, List.forall_mem_cons.mpr ⟨rfl, List.forall_mem_cons.mpr ⟨rfl, List.forall_mem_cons.mpr ⟨rfl, List.forall_mem_cons.mpr ⟨rfl, List.forall_mem_cons.mpr ⟨rfl, List.forall_mem_cons.mpr ⟨rfl, List.forall_mem_cons.mpr ⟨rfl, List.forall_mem_cons.mpr ⟨rfl, List.forall_mem_cons.mpr ⟨rfl, List.forall_mem_cons.mpr ⟨rfl, fun _ h => absurd h List.not_mem_nil⟩⟩⟩⟩⟩⟩⟩⟩⟩⟩⟩) ?_
              exact L34057 302 1 z34004 μ33924 T33928 mF.refl (rW (c := 0) (d := 1) (rR (x := 1)) rfl) h34006 I33933 I33934 (vc_X12_through_55 h34006)
          refine mr_lvS (lv' := [(0, .ref 106), (2, iv p2), (3, iv p3), (4, iv p4), (5, iv z32216), (6, iv z32215), (7, iv (z32216 - 1)), (8, iv z32238), (9, iv (z32242 + 1)), (10, iv 0)]) (List.forall_mem_cons.mpr ⟨rfl, List.forall_mem_cons.mpr ⟨rfl, List.forall_mem_cons.mpr ⟨rfl, List.forall_mem_cons.mpr ⟨rfl, List.forall_mem_cons.mpr ⟨rfl, List.forall_mem_cons.mpr ⟨rfl, List.forall_mem_cons.mpr ⟨rfl, List.forall_mem_cons.mpr ⟨rfl, List.forall_mem_cons.mpr ⟨rfl, List.forall_mem_cons.mpr ⟨rfl, fun _ h => absurd h List.not_mem_nil⟩⟩⟩⟩⟩⟩⟩⟩⟩⟩) ?_
          exact L33925 71 (z32242 + 1) 0 μ32217 T32222 mF.refl (rW (c := 0) (d := 30) (rAdd (e := 0) (f := 0) h32254 (rR (x := 1)) rfl) rfl) (rW (c := 0) (d := 1) (rR (x := 0)) rfl) (vc_X12_through_56 h32251 h32251.1 h32253 h32221 h32254 h32247) (vc_X12_through_57 h32251 h32251.1 h32253 h32221 h32254 h32247) I32226 I32227 (vc_X12_through_58 h32251 h32251.1 h32253 h32221 h32254 h32247)
        have h34100 : 0 ≤ z32242 ∧ z32242 ≤ 29 := (vc_X12_through_59 h32253 h32251 h32251.1 h32221 h32252 h32247)
        refine sv_aload_n (pc := 69) dX12_through_69 rfl rfl ?_
        refine gf_X12_69 (pc := 70) dX12_through_70 wF_X12_394 (A_106 hw) T32222 ?_
        refine mr_iload (pc := 73) (z := (z32216 - 1)) dX12_through_73 rfl ?_
        refine la_153 (pc := 75) dX12_through_75 (A_153 hw) T32222 (rIx (n := 14) (rSub (e := 0) (f := 11) h32237 (rR (x := 1)) rfl) rfl) fun z34101 q34102 h34103 => ?_
        refine sv_aload_n (pc := 76) dX12_through_76 rfl rfl ?_
        refine gf_X12_42 (pc := 77) dX12_through_77 wF_X12_364 (A_106 hw) T32222 ?_
        refine mr_bipush (pc := 80) (z := 31) dX12_through_80 (by decide) ?_
        refine mr_iload (pc := 82) (z := z32238) dX12_through_82 rfl ?_
        refine mr_imul (pc := 84) (x := 31) (y := z32238) dX12_through_84 ?_
        refine mr_iload (pc := 85) (z := z32242) dX12_through_85 rfl ?_
        refine mr_iadd (pc := 87) (x := (31 * z32238)) (y := z32242) dX12_through_87 ?_
        refine mr_iconst (pc := 88) (z := 1) dX12_through_88 ?_
        refine mr_iadd (pc := 89) (x := ((31 * z32238) + z32242)) (y := 1) dX12_through_89 ?_
        refine la_129 (pc := 90) dX12_through_90 (A_129 hw) T32222 (rIx (n := 403) (rAdd (e := 1) (f := 371) (rAdd (e := 0) (f := 370) (rMulL (n := 31) (e := 0) (f := 341) h32240 rfl) h34100 rfl) (rR (x := 1)) rfl) rfl) fun z34104 q34105 h34106 => ?_
        have h34107 : z34101 ≤ z34104 ∧ z34104 ≤ z32248 := ⟨lvOK.a R32228 (vc_X12_through_15 h32235 h32241 hq3 ht_f_pol hp1 h32237 h32240) q32239 q32243 q34102 (vc_X12_through_61 h32241 hq3 h32235 ht_f_pol hp1 h32237 h32240) (vc_X12_through_62 h32251 h32251.1 h32253 h32221 h34100 h32247) (vc_X12_through_60 h32241 h32251 h32251.1 h32253 hq3 h32235 h32221 ht_f_pol hp1 h32237 h32240 h34100 h32247) q34105, PK.act I32227 (vc_X12_through_22 hq3 h32241 h17805 h32235 ht_f_pol hp1 h32237 h32240) (F32223.f (A_106 hw) rfl (u17813.f (Or.inl (mAt.ne (A_153 hw) (A_106 hw) rfl)) (u17810.f (Or.inl (mAt.ne (A_152 hw) (A_106 hw) rfl)) (u17807.f (Or.inl (mAt.ne (A_151 hw) (A_106 hw) rfl)) q_f_pol)))) (vc_X12_through_63 h32251 h32251.1 h32253 h32221 h34100 h32247) q32246 (vc_X12_through_60 h32241 h32251 h32251.1 h32253 hq3 h32235 h32221 ht_f_pol hp1 h32237 h32240 h34100 h32247) q34105 q32249⟩
        refine mr_icmp_ne (pc := 91) (tgt := 241) dX12_through_91 (by decide) (r32 h34103 rfl) (r32 h34106 rfl) (fun h34108 => ?_) (fun h34108 => ?_)
        · refine mr_sipush (pc := 241) (z := 300) dX12_through_241 (by decide) ?_
          refine mr_iload (pc := 244) (z := z32238) dX12_through_244 rfl ?_
          refine mr_imul (pc := 246) (x := 300) (y := z32238) dX12_through_246 ?_
          refine sv_aload_n (pc := 247) dX12_through_247 rfl rfl ?_
          refine gf_X12_69 (pc := 248) dX12_through_248 wF_X12_394 (A_106 hw) T32222 ?_
          refine mr_iload (pc := 251) (z := (z32216 - 1)) dX12_through_251 rfl ?_
          refine lk_153 (pc := 253) dX12_through_253 (A_153 hw) (rIx (n := 14) (rSub (e := 0) (f := 11) h32237 (rR (x := 1)) rfl) rfl) q34102 ?_
          refine mr_iadd (pc := 254) (x := (300 * z32238)) (y := z34101) dX12_through_254 ?_
          refine mr_istore (pc := 255) (lv' := [(10, iv ((300 * z32238) + z34101)), (9, iv z32242), (8, iv z32238), (7, iv (z32216 - 1)), (0, .ref 106), (2, iv p2), (3, iv p3), (4, iv p4), (5, iv z32216), (6, iv z32215)]) dX12_through_255 (by decide) rfl ?_
          refine sv_aload_n (pc := 257) dX12_through_257 rfl rfl ?_
          refine gf_X12_69 (pc := 258) dX12_through_258 wF_X12_394 (A_106 hw) T32222 ?_
          refine mr_iload (pc := 261) (z := (z32216 - 1)) dX12_through_261 rfl ?_
          refine sv_dup2 (pc := 263) dX12_through_263 rfl rfl ?_
          refine lk_153 (pc := 264) dX12_through_264 (A_153 hw) (rIx (n := 14) (rSub (e := 0) (f := 11) h32237 (rR (x := 1)) rfl) rfl) q34102 ?_
          refine mr_iconst (pc := 265) (z := 1) dX12_through_265 ?_
          refine mr_iadd (pc := 266) (x := z34101) (y := 1) dX12_through_266 ?_
          refine ss_153 (pc := 267) dX12_through_267 (A_153 hw) T32222 (rIx (n := 14) (rSub (e := 0) (f := 11) h32237 (rR (x := 1)) rfl) rfl) (vc_X12_through_64 h34107 h34108 h32250 h34103 h34106) fun μ34109 u34110 T34111 => ?_
          have I34112 : lvOK μ34109 z32216 := lvOK.act R32228 (vc_X12_through_15 h32235 h32241 hq3 ht_f_pol hp1 h32237 h32240) u34110 (u34110.f (Or.inl (mAt.ne (A_153 hw) (A_151 hw) rfl)) q32239) (u34110.f (Or.inl (mAt.ne (A_153 hw) (A_152 hw) rfl)) q32243) (vc_X12_through_61 h32241 hq3 h32235 ht_f_pol hp1 h32237 h32240) (vc_X12_through_62 h32251 h32251.1 h32253 h32221 h34100 h32247) (vc_X12_through_60 h32241 h32251 h32251.1 h32253 hq3 h32235 h32221 ht_f_pol hp1 h32237 h32240 h34100 h32247) (u34110.f (Or.inl (mAt.ne (A_153 hw) (A_129 hw) rfl)) q34105) (vc_X12_through_65 h34107 h34108 h32250 h34103 h34106)
          refine mr_iinc (pc := 268) (lv' := [(6, iv (z32215 + 1)), (10, iv ((300 * z32238) + z34101)), (9, iv z32242), (8, iv z32238), (7, iv (z32216 - 1)), (0, .ref 106), (2, iv p2), (3, iv p3), (4, iv p4), (5, iv z32216)]) dX12_through_268 rfl (by decide) rfl ?_
          refine mr_iload (pc := 271) (z := (z32215 + 1)) dX12_through_271 rfl ?_
          refine mr_sipush (pc := 273) (z := 500) dX12_through_273 (by decide) ?_
          refine mr_icmp_le (pc := 276) (tgt := 281) dX12_through_276 (by decide) (r32 (rAdd (e := 1) (f := 501) h32220 (rR (x := 1)) rfl) rfl) (r32 (rR (x := 500)) rfl) (fun h34113 => ?_) (fun h34113 => ?_)
          · have h34114 : 0 ≤ z32215 ∧ z32215 ≤ 499 := (vc_X12_through_66 h34113 h32220)
            refine sv_aload_n (pc := 281) dX12_through_281 rfl rfl ?_
            refine gf_X12_53 (pc := 282) dX12_through_282 wF_X12_349 (A_106 hw) T34111 ?_
            refine mr_iload (pc := 285) (z := ((300 * z32238) + z34101)) dX12_through_285 rfl ?_
            refine la_140 (pc := 287) dX12_through_287 (A_140 hw) T34111 (rIx (n := 3900) (rAdd (e := 0) (f := 3600) (rMulL (n := 300) (e := 0) (f := 3300) h32240 rfl) h34103 rfl) rfl) fun z34115 q34116 h34117 => ?_
            refine mr_istore (pc := 288) (lv' := [(11, iv z34115), (6, iv (z32215 + 1)), (10, iv ((300 * z32238) + z34101)), (9, iv z32242), (8, iv z32238), (7, iv (z32216 - 1)), (0, .ref 106), (2, iv p2), (3, iv p3), (4, iv p4), (5, iv z32216)]) dX12_through_288 (by decide) rfl ?_
            refine mr_iload (pc := 290) (z := z34115) dX12_through_290 rfl ?_
            refine mr_bipush (pc := 292) (z := 23) dX12_through_292 (by decide) ?_
            refine mr_icmp_ne (pc := 294) (tgt := 299) dX12_through_294 (by decide) h34117 (r32 (rR (x := 23)) rfl) (fun h34118 => ?_) (fun h34118 => ?_)
            · refine mr_iload (pc := 299) (z := z34115) dX12_through_299 rfl ?_
              refine mr_bipush (pc := 301) (z := 24) dX12_through_301 (by decide) ?_
              refine mr_icmp_ne (pc := 303) (tgt := 308) dX12_through_303 (by decide) h34117 (r32 (rR (x := 24)) rfl) (fun h34119 => ?_) (fun h34119 => ?_)
              · refine mr_iload (pc := 308) (z := z34115) dX12_through_308 rfl ?_
                refine mr_bipush (pc := 310) (z := 25) dX12_through_310 (by decide) ?_
                have J34134 : ∀ (μ34128 : mM), (mT w μ34128) → (mF [126999] w μ34109 μ34128) → (mG [(((40 * p2) + 1), ((40 * p2) + 40))] μ34109 μ34128) → (JC l D c H0 sa μ34128) → (PK μ34128) → sV (gG l D c H0 sa) mX12_through (sRm 6 0 0) (sZ (gG l D c H0 sa) 0 0 (qI w [106026, 106027, 106028, 106029, 106030, 106031, 126999, 151999, 152999, 153999] μ (fun z μ1 => ∃ o_x : Int, μ1 126 ((40 * p2).toNat) = o_x ∧ (0 ≤ z ∧ z ≤ 1) ∧ mG [(((40 * p2) + 1), ((40 * p2) + 40))] μ μ1 ∧ JC l D c H0 sa μ1 ∧ (o_x = f_x) ∧ True))) 327 [(0, .ref 106), (2, iv p2), (3, iv p3), (4, iv p4), (5, iv z32216), (6, iv (z32215 + 1)), (10, iv ((300 * z32238) + z34101)), (11, iv z34115)] [] (mk w μ34128) 0 0 := by
                  intro μ34128 T34129 F34130 G34131 I34132 I34133
                  refine mr_iload (pc := 327) (z := z34115) dX12_through_327 rfl ?_
                  refine mr_bipush (pc := 329) (z := 26) dX12_through_329 (by decide) ?_
                  have J34149 : ∀ (μ34143 : mM), (mT w μ34143) → (mF [126999] w μ34128 μ34143) → (mG [(((40 * p2) + 1), ((40 * p2) + 40))] μ34128 μ34143) → (JC l D c H0 sa μ34143) → (PK μ34143) → sV (gG l D c H0 sa) mX12_through (sRm 6 0 0) (sZ (gG l D c H0 sa) 0 0 (qI w [106026, 106027, 106028, 106029, 106030, 106031, 126999, 151999, 152999, 153999] μ (fun z μ1 => ∃ o_x : Int, μ1 126 ((40 * p2).toNat) = o_x ∧ (0 ≤ z ∧ z ≤ 1) ∧ mG [(((40 * p2) + 1), ((40 * p2) + 40))] μ μ1 ∧ JC l D c H0 sa μ1 ∧ (o_x = f_x) ∧ True))) 346 [(0, .ref 106), (2, iv p2), (3, iv p3), (4, iv p4), (5, iv z32216), (6, iv (z32215 + 1)), (10, iv ((300 * z32238) + z34101)), (11, iv z34115)] [] (mk w μ34143) 0 0 := by
                    intro μ34143 T34144 F34145 G34146 I34147 I34148
                    refine mr_iload (pc := 346) (z := z34115) dX12_through_346 rfl ?_
                    refine mr_bipush (pc := 348) (z := 12) dX12_through_348 (by decide) ?_
                    have J34163 : ∀ (μ34157 : mM), (mT w μ34157) → (mF [126999] w μ34143 μ34157) → (mG [(((40 * p2) + 1), ((40 * p2) + 40))] μ34143 μ34157) → (JC l D c H0 sa μ34157) → (PK μ34157) → sV (gG l D c H0 sa) mX12_through (sRm 6 0 0) (sZ (gG l D c H0 sa) 0 0 (qI w [106026, 106027, 106028, 106029, 106030, 106031, 126999, 151999, 152999, 153999] μ (fun z μ1 => ∃ o_x : Int, μ1 126 ((40 * p2).toNat) = o_x ∧ (0 ≤ z ∧ z ≤ 1) ∧ mG [(((40 * p2) + 1), ((40 * p2) + 40))] μ μ1 ∧ JC l D c H0 sa μ1 ∧ (o_x = f_x) ∧ True))) 371 [(0, .ref 106), (2, iv p2), (3, iv p3), (4, iv p4), (5, iv z32216), (6, iv (z32215 + 1)), (10, iv ((300 * z32238) + z34101)), (11, iv z34115)] [] (mk w μ34157) 0 0 := by
                      intro μ34157 T34158 F34159 G34160 I34161 I34162
                      refine mr_iload (pc := 371) (z := z34115) dX12_through_371 rfl ?_
                      refine mr_bipush (pc := 373) (z := 13) dX12_through_373 (by decide) ?_
                      have J34177 : ∀ (μ34171 : mM), (mT w μ34171) → (mF [126999] w μ34157 μ34171) → (mG [(((40 * p2) + 1), ((40 * p2) + 40))] μ34157 μ34171) → (JC l D c H0 sa μ34171) → (PK μ34171) → sV (gG l D c H0 sa) mX12_through (sRm 6 0 0) (sZ (gG l D c H0 sa) 0 0 (qI w [106026, 106027, 106028, 106029, 106030, 106031, 126999, 151999, 152999, 153999] μ (fun z μ1 => ∃ o_x : Int, μ1 126 ((40 * p2).toNat) = o_x ∧ (0 ≤ z ∧ z ≤ 1) ∧ mG [(((40 * p2) + 1), ((40 * p2) + 40))] μ μ1 ∧ JC l D c H0 sa μ1 ∧ (o_x = f_x) ∧ True))) 396 [(0, .ref 106), (2, iv p2), (3, iv p3), (4, iv p4), (5, iv z32216), (6, iv (z32215 + 1)), (10, iv ((300 * z32238) + z34101)), (11, iv z34115)] [] (mk w μ34171) 0 0 := by
                        intro μ34171 T34172 F34173 G34174 I34175 I34176
                        refine mr_iload (pc := 396) (z := z34115) dX12_through_396 rfl ?_
                        refine mr_bipush (pc := 398) (z := 27) dX12_through_398 (by decide) ?_
                        refine mr_icmp_ne (pc := 400) (tgt := 486) dX12_through_400 (by decide) h34117 (r32 (rR (x := 27)) rfl) (fun h34178 => ?_) (fun h34178 => ?_)
                        · refine mr_iload (pc := 486) (z := z34115) dX12_through_486 rfl ?_
                          refine mr_bipush (pc := 488) (z := 28) dX12_through_488 (by decide) ?_
                          refine mr_icmp_ne (pc := 490) (tgt := 526) dX12_through_490 (by decide) h34117 (r32 (rR (x := 28)) rfl) (fun h34192 => ?_) (fun h34192 => ?_)
                          · refine sv_goto (pc := 526) (tgt := 35) dX12_through_526 (by decide) ?_
                            refine mr_lvS (lv' := [(0, .ref 106), (2, iv p2), (3, iv p3), (4, iv p4), (5, iv z32216), (6, iv (z32215 + 1))]) (List.forall_mem_cons.mpr ⟨rfl, List.forall_mem_cons.mpr ⟨rfl, List.forall_mem_cons.mpr ⟨rfl, List.forall_mem_cons.mpr ⟨rfl, List.forall_mem_cons.mpr ⟨rfl, List.forall_mem_cons.mpr ⟨rfl, fun _ h => absurd h List.not_mem_nil⟩⟩⟩⟩⟩⟩) ?_
                            exact ih32232 z32216 (z32215 + 1) z32242 μ34171 f_y T34172 (mF.call (mF.call (mF.call (mF.call (mF.up (mF.call mF.refl F32223 rfl) (A_153 hw) u34110 rfl) F34130 rfl) F34145 rfl) F34159 rfl) F34173 rfl) (mG.call (mG.call (mG.call (mG.call (mG.upO (mG.call mG.refl G32224 (List.forall_mem_cons.mpr ⟨⟨_, List.mem_cons_self, (vc_X12_dropMark_5 hp2)⟩, (fun _ h => absurd h List.not_mem_nil)⟩)) u34110 rfl) G34131 (List.forall_mem_cons.mpr ⟨⟨_, List.mem_cons_self, (vc_X12_dropMark_5 hp2)⟩, (fun _ h => absurd h List.not_mem_nil)⟩)) G34146 (List.forall_mem_cons.mpr ⟨⟨_, List.mem_cons_self, (vc_X12_dropMark_5 hp2)⟩, (fun _ h => absurd h List.not_mem_nil)⟩)) G34160 (List.forall_mem_cons.mpr ⟨⟨_, List.mem_cons_self, (vc_X12_dropMark_5 hp2)⟩, (fun _ h => absurd h List.not_mem_nil)⟩)) G34174 (List.forall_mem_cons.mpr ⟨⟨_, List.mem_cons_self, (vc_X12_dropMark_5 hp2)⟩, (fun _ h => absurd h List.not_mem_nil)⟩)) (G34174.f (vc_X12_copy_1 hp2) (List.forall_mem_cons.mpr ⟨(vc_X12_through_67 hp2), (fun _ h => absurd h List.not_mem_nil)⟩) (G34160.f (vc_X12_copy_1 hp2) (List.forall_mem_cons.mpr ⟨(vc_X12_through_67 hp2), (fun _ h => absurd h List.not_mem_nil)⟩) (G34146.f (vc_X12_copy_1 hp2) (List.forall_mem_cons.mpr ⟨(vc_X12_through_67 hp2), (fun _ h => absurd h List.not_mem_nil)⟩) (G34131.f (vc_X12_copy_1 hp2) (List.forall_mem_cons.mpr ⟨(vc_X12_through_67 hp2), (fun _ h => absurd h List.not_mem_nil)⟩) (u34110.f (Or.inl (mAt.ne (A_153 hw) (A_126 hw) rfl)) q32231))))) (rW (c := 0) (d := 12) h32237 rfl) (rW (c := 0) (d := 500) (rAdd (e := 1) (f := 500) h34114 (rR (x := 1)) rfl) rfl) (rW (c := (-1)) (d := 30) h34100 rfl) (vc_X12_through_u_13 hq2 hq4 h32225 h4 h3 h32234) I34175 I34176 (lvOK.pred (lvOK.keep I34112 hw ((mF.call (mF.call (mF.call (mF.call mF.refl F34130 rfl) F34145 rfl) F34159 rfl) F34173 rfl) : mF [126999] w μ34109 μ34171) rfl) (vc_X12_through_26 h32235 h32241 hq3 ht_f_pol hp1 h32237 h32240)) (Or.inr (F34173.f (A_152 hw) rfl (F34159.f (A_152 hw) rfl (F34145.f (A_152 hw) rfl (F34130.f (A_152 hw) rfl (u34110.f (Or.inl (mAt.ne (A_153 hw) (A_152 hw) rfl)) q32243)))))) (vc_X12_through_68 (nS h32230) h32235 h32241 h32251 h32251.1 h32253 h34113 hq3 h32221 ht_f_pol hp1 h34114 h32237 h32240 h34100 h32247)
                          have h34193 : 28 ≤ z34115 ∧ z34115 ≤ 28 := (vc_X12_through_69 h34192 h34118 h34119 h34178 h34117)
                          refine sv_aload_n (pc := 493) dX12_through_493 rfl rfl ?_
                          refine gf_X12_67 (pc := 494) dX12_through_494 wF_X12_388 (A_106 hw) T34172 ?_
                          refine mr_iload (pc := 497) (z := z32216) dX12_through_497 rfl ?_
                          refine sv_aload_n (pc := 499) dX12_through_499 rfl rfl ?_
                          refine gf_X12_54 (pc := 500) dX12_through_500 wF_X12_352 (A_106 hw) T34172 ?_
                          refine mr_iload (pc := 503) (z := ((300 * z32238) + z34101)) dX12_through_503 rfl ?_
                          refine la_141 (pc := 505) dX12_through_505 (A_141 hw) T34172 (rIx (n := 3900) (rAdd (e := 0) (f := 3600) (rMulL (n := 300) (e := 0) (f := 3300) h32240 rfl) h34103 rfl) rfl) fun z34194 q34195 h34196 => ?_
                          have h34197 : 0 ≤ z34194 ∧ z34194 < z32238 := PK.call I34176 (vc_X12_through_22 hq3 h32241 h17805 h32235 ht_f_pol hp1 h32237 h32240) (F34173.f (A_106 hw) rfl (F34159.f (A_106 hw) rfl (F34145.f (A_106 hw) rfl (F34130.f (A_106 hw) rfl (u34110.f (Or.inl (mAt.ne (A_153 hw) (A_106 hw) rfl)) (F32223.f (A_106 hw) rfl (u17813.f (Or.inl (mAt.ne (A_153 hw) (A_106 hw) rfl)) (u17810.f (Or.inl (mAt.ne (A_152 hw) (A_106 hw) rfl)) (u17807.f (Or.inl (mAt.ne (A_151 hw) (A_106 hw) rfl)) q_f_pol))))))))) (a := (((300 * z32238) + z34101) - (300 * z32238))) (vc_X12_through_70 h32241 h34107 h34108 hq3 h32235 ht_f_pol hp1 h32237 h32240 h32250 h34103 h34106) (F34173.f (A_131 hw) rfl (F34159.f (A_131 hw) rfl (F34145.f (A_131 hw) rfl (F34130.f (A_131 hw) rfl (u34110.f (Or.inl (mAt.ne (A_153 hw) (A_131 hw) rfl)) q32249))))) (vc_X12_through_71 h32241 h34107 h34108 hq3 h32235 ht_f_pol hp1 h32237 h32240 h32250 h34103 h34106) (F34173.f (A_140 hw) rfl (F34159.f (A_140 hw) rfl (F34145.f (A_140 hw) rfl (F34130.f (A_140 hw) rfl q34116)))) (vc_X12_through_72 h34118 h34119 h34178 h34192 h34193) q34195
                          have h34198 : 0 ≤ z34194 ∧ z34194 ≤ 10 := (vc_X12_through_73 h34197 h32241 ht_f_pol h32237 h32240 h34196)
                          have h34199 : 1 ≤ z32238 ∧ z32238 ≤ 11 := (vc_X12_through_u_76 h34197 h32241 ht_f_pol h32237 h32240 h34198)
                          refine ss_151 (pc := 506) dX12_through_506 (A_151 hw) T34172 (rIx (n := 14) h32237 rfl) (rW (c := 0) (d := 11) h34198 rfl) fun μ34200 u34201 T34202 => ?_
                          refine sv_aload_n (pc := 507) dX12_through_507 rfl rfl ?_
                          refine gf_X12_68 (pc := 508) dX12_through_508 wF_X12_391 (A_106 hw) T34202 ?_
                          refine mr_iload (pc := 511) (z := z32216) dX12_through_511 rfl ?_
                          refine mr_iconst (pc := 513) (z := (-1)) dX12_through_513 ?_
                          refine ss_152 (pc := 514) dX12_through_514 (A_152 hw) T34202 (rIx (n := 14) h32237 rfl) (rW (c := (-1)) (d := 30) (rR (x := (-1))) rfl) fun μ34203 u34204 T34205 => ?_
                          refine sv_aload_n (pc := 515) dX12_through_515 rfl rfl ?_
                          refine gf_X12_69 (pc := 516) dX12_through_516 wF_X12_394 (A_106 hw) T34205 ?_
                          refine mr_iload (pc := 519) (z := z32216) dX12_through_519 rfl ?_
                          refine mr_iconst (pc := 521) (z := 0) dX12_through_521 ?_
                          refine ss_153 (pc := 522) dX12_through_522 (A_153 hw) T34205 (rIx (n := 14) h32237 rfl) (rW (c := 0) (d := 300) (rR (x := 0)) rfl) fun μ34206 u34207 T34208 => ?_
                          obtain ⟨z34209, q34210⟩ : ∃ z, μ34206 127 (z34194.toNat) = z := ⟨_, rfl⟩
                          have h34211 : (0 ≤ z34209 ∧ z34209 ≤ 30) := by rw [← q34210]; exact T34208 127 127 (A_127 hw) (z34194.toNat)
                          have I34212 : lvOK μ34206 (z32216 + 1) := lvOK.push (lvOK.keep I34112 hw ((mF.call (mF.call (mF.call (mF.call mF.refl F34130 rfl) F34145 rfl) F34159 rfl) F34173 rfl) : mF [126999] w μ34109 _) rfl) (vc_X12_through_u_77 h32235 h32241 hq3 h34197 ht_f_pol hp1 h32237 h34199 h34198) u34201 u34204 u34207 (u34207.f (Or.inl (mAt.ne (A_153 hw) (A_106 hw) rfl)) (u34204.f (Or.inl (mAt.ne (A_152 hw) (A_106 hw) rfl)) (u34201.f (Or.inl (mAt.ne (A_151 hw) (A_106 hw) rfl)) (F34173.f (A_106 hw) rfl (F34159.f (A_106 hw) rfl (F34145.f (A_106 hw) rfl (F34130.f (A_106 hw) rfl (u34110.f (Or.inl (mAt.ne (A_153 hw) (A_106 hw) rfl)) (F32223.f (A_106 hw) rfl (u17813.f (Or.inl (mAt.ne (A_153 hw) (A_106 hw) rfl)) (u17810.f (Or.inl (mAt.ne (A_152 hw) (A_106 hw) rfl)) (u17807.f (Or.inl (mAt.ne (A_151 hw) (A_106 hw) rfl)) q_f_pol)))))))))))) (vc_X12_through_u_78 hq3 h32235 h32241 h34197 h17805 ht_f_pol hp1 h32237 h34199 h34198) q34210 (vc_X12_through_8 h34211)
                          refine mr_iinc (pc := 523) (lv' := [(5, iv (z32216 + 1)), (0, .ref 106), (2, iv p2), (3, iv p3), (4, iv p4), (6, iv (z32215 + 1)), (10, iv ((300 * z32238) + z34101)), (11, iv z34115)]) dX12_through_523 rfl (by decide) rfl ?_
                          refine sv_goto (pc := 526) (tgt := 35) dX12_through_526 (by decide) ?_
                          refine mr_lvS (lv' := [(0, .ref 106), (2, iv p2), (3, iv p3), (4, iv p4), (5, iv (z32216 + 1)), (6, iv (z32215 + 1))]) (List.forall_mem_cons.mpr ⟨rfl, List.forall_mem_cons.mpr ⟨rfl, List.forall_mem_cons.mpr ⟨rfl, List.forall_mem_cons.mpr ⟨rfl, List.forall_mem_cons.mpr ⟨rfl, List.forall_mem_cons.mpr ⟨rfl, fun _ h => absurd h List.not_mem_nil⟩⟩⟩⟩⟩⟩) ?_
                          exact ih32232 (z32216 + 1) (z32215 + 1) (-1) μ34206 f_y T34208 (mF.up (mF.up (mF.up (mF.call (mF.call (mF.call (mF.call (mF.up (mF.call mF.refl F32223 rfl) (A_153 hw) u34110 rfl) F34130 rfl) F34145 rfl) F34159 rfl) F34173 rfl) (A_151 hw) u34201 rfl) (A_152 hw) u34204 rfl) (A_153 hw) u34207 rfl) (mG.upO (mG.upO (mG.upO (mG.call (mG.call (mG.call (mG.call (mG.upO (mG.call mG.refl G32224 (List.forall_mem_cons.mpr ⟨⟨_, List.mem_cons_self, (vc_X12_dropMark_5 hp2)⟩, (fun _ h => absurd h List.not_mem_nil)⟩)) u34110 rfl) G34131 (List.forall_mem_cons.mpr ⟨⟨_, List.mem_cons_self, (vc_X12_dropMark_5 hp2)⟩, (fun _ h => absurd h List.not_mem_nil)⟩)) G34146 (List.forall_mem_cons.mpr ⟨⟨_, List.mem_cons_self, (vc_X12_dropMark_5 hp2)⟩, (fun _ h => absurd h List.not_mem_nil)⟩)) G34160 (List.forall_mem_cons.mpr ⟨⟨_, List.mem_cons_self, (vc_X12_dropMark_5 hp2)⟩, (fun _ h => absurd h List.not_mem_nil)⟩)) G34174 (List.forall_mem_cons.mpr ⟨⟨_, List.mem_cons_self, (vc_X12_dropMark_5 hp2)⟩, (fun _ h => absurd h List.not_mem_nil)⟩)) u34201 rfl) u34204 rfl) u34207 rfl) (u34207.f (Or.inl (mAt.ne (A_153 hw) (A_126 hw) rfl)) (u34204.f (Or.inl (mAt.ne (A_152 hw) (A_126 hw) rfl)) (u34201.f (Or.inl (mAt.ne (A_151 hw) (A_126 hw) rfl)) (G34174.f (vc_X12_copy_1 hp2) (List.forall_mem_cons.mpr ⟨(vc_X12_through_67 hp2), (fun _ h => absurd h List.not_mem_nil)⟩) (G34160.f (vc_X12_copy_1 hp2) (List.forall_mem_cons.mpr ⟨(vc_X12_through_67 hp2), (fun _ h => absurd h List.not_mem_nil)⟩) (G34146.f (vc_X12_copy_1 hp2) (List.forall_mem_cons.mpr ⟨(vc_X12_through_67 hp2), (fun _ h => absurd h List.not_mem_nil)⟩) (G34131.f (vc_X12_copy_1 hp2) (List.forall_mem_cons.mpr ⟨(vc_X12_through_67 hp2), (fun _ h => absurd h List.not_mem_nil)⟩) (u34110.f (Or.inl (mAt.ne (A_153 hw) (A_126 hw) rfl)) q32231)))))))) (vc_X12_through_u_81 h32235 h32241 hq3 h34197 ht_f_pol hp1 h32237 h34199 h34198) (rW (c := 0) (d := 500) (rAdd (e := 1) (f := 500) h34114 (rR (x := 1)) rfl) rfl) (rW (c := (-1)) (d := 30) (rR (x := (-1))) rfl) (vc_X12_through_u_13 hq2 hq4 h32225 h4 h3 h32234) (JC.keepJ I34175 hw ((mF.up (mF.up (mF.up mF.refl (A_151 hw) u34201 rfl) (A_152 hw) u34204 rfl) (A_153 hw) u34207 rfl) : mF [151999, 152999, 153999] w μ34171 μ34206) rfl) (PK.keep I34176 hw ((mF.up (mF.up (mF.up mF.refl (A_151 hw) u34201 rfl) (A_152 hw) u34204 rfl) (A_153 hw) u34207 rfl) : mF [151999, 152999, 153999] w μ34171 μ34206) rfl) (lvOK.pred I34212 (vc_X12_through_u_83 h32235 h32241 hq3 h34197 ht_f_pol hp1 h32237 h34199 h34198)) (Or.inr (eqIx (vc_X12_through_77 h32237) (u34207.f (Or.inl (mAt.ne (A_153 hw) (A_152 hw) rfl)) u34204.1))) (vc_X12_through_u_82 (nS h32230) h32235 h32241 h32251 h34113 hq3 h32251.1 h32253 h34197 h32221 ht_f_pol hp1 h34114 h32237 h34199 h34100 h32247 h34198)
                        have h34213 : 27 ≤ z34115 ∧ z34115 ≤ 27 := (vc_X12_through_81 h34178 h34118 h34119 h34117)
                        refine sv_aload_n (pc := 403) dX12_through_403 rfl rfl ?_
                        refine gf_X12_32 (pc := 404) dX12_through_404 wF_X12_148 (A_106 hw) T34172 ?_
                        refine mr_bipush (pc := 407) (z := 40) dX12_through_407 (by decide) ?_
                        refine mr_iload_n (pc := 409) (z := p2) dX12_through_409 rfl rfl ?_
                        refine mr_imul (pc := 410) (x := 40) (y := p2) dX12_through_410 ?_
                        refine mr_iconst (pc := 411) (z := 4) dX12_through_411 ?_
                        refine mr_iadd (pc := 412) (x := (40 * p2)) (y := 4) dX12_through_412 ?_
                        refine la_126 (pc := 413) dX12_through_413 (A_126 hw) T34172 (rIx (n := 84000) (rAdd (e := 4) (f := 83964) (rMulL (n := 40) (e := 0) (f := 83960) hp2 rfl) (rR (x := 4)) rfl) rfl) fun z34214 q34215 h34216 => ?_
                        have h34217 : 0 ≤ z34214 ∧ z34214 ≤ 20 := h34216.2.2.1 (vc_X12_same_33 hp2)
                        refine mr_if_le (pc := 414) (tgt := 486) dX12_through_414 (by decide) (r32 h34217 rfl) (fun h34218 => ?_) (fun h34218 => ?_)
                        · have h34219 : 0 ≤ z34214 ∧ z34214 ≤ 0 := (vc_X12_unlike_21 h34218 h34217)
                          refine mr_iload (pc := 486) (z := z34115) dX12_through_486 rfl ?_
                          refine mr_bipush (pc := 488) (z := 28) dX12_through_488 (by decide) ?_
                          refine mr_icmp_ne (pc := 490) (tgt := 526) dX12_through_490 (by decide) (r32 h34213 rfl) (r32 (rR (x := 28)) rfl) (fun _ => ?_) (fun h => ((vc_X12_through_84 h h34213)).elim)
                          refine sv_goto (pc := 526) (tgt := 35) dX12_through_526 (by decide) ?_
                          refine mr_lvS (lv' := [(0, .ref 106), (2, iv p2), (3, iv p3), (4, iv p4), (5, iv z32216), (6, iv (z32215 + 1))]) (List.forall_mem_cons.mpr ⟨rfl, List.forall_mem_cons.mpr ⟨rfl, List.forall_mem_cons.mpr ⟨rfl, List.forall_mem_cons.mpr ⟨rfl, List.forall_mem_cons.mpr ⟨rfl, List.forall_mem_cons.mpr ⟨rfl, fun _ h => absurd h List.not_mem_nil⟩⟩⟩⟩⟩⟩) ?_
                          exact ih32232 z32216 (z32215 + 1) z32242 μ34171 f_y T34172 (mF.call (mF.call (mF.call (mF.call (mF.up (mF.call mF.refl F32223 rfl) (A_153 hw) u34110 rfl) F34130 rfl) F34145 rfl) F34159 rfl) F34173 rfl) (mG.call (mG.call (mG.call (mG.call (mG.upO (mG.call mG.refl G32224 (List.forall_mem_cons.mpr ⟨⟨_, List.mem_cons_self, (vc_X12_dropMark_5 hp2)⟩, (fun _ h => absurd h List.not_mem_nil)⟩)) u34110 rfl) G34131 (List.forall_mem_cons.mpr ⟨⟨_, List.mem_cons_self, (vc_X12_dropMark_5 hp2)⟩, (fun _ h => absurd h List.not_mem_nil)⟩)) G34146 (List.forall_mem_cons.mpr ⟨⟨_, List.mem_cons_self, (vc_X12_dropMark_5 hp2)⟩, (fun _ h => absurd h List.not_mem_nil)⟩)) G34160 (List.forall_mem_cons.mpr ⟨⟨_, List.mem_cons_self, (vc_X12_dropMark_5 hp2)⟩, (fun _ h => absurd h List.not_mem_nil)⟩)) G34174 (List.forall_mem_cons.mpr ⟨⟨_, List.mem_cons_self, (vc_X12_dropMark_5 hp2)⟩, (fun _ h => absurd h List.not_mem_nil)⟩)) (G34174.f (vc_X12_copy_1 hp2) (List.forall_mem_cons.mpr ⟨(vc_X12_through_67 hp2), (fun _ h => absurd h List.not_mem_nil)⟩) (G34160.f (vc_X12_copy_1 hp2) (List.forall_mem_cons.mpr ⟨(vc_X12_through_67 hp2), (fun _ h => absurd h List.not_mem_nil)⟩) (G34146.f (vc_X12_copy_1 hp2) (List.forall_mem_cons.mpr ⟨(vc_X12_through_67 hp2), (fun _ h => absurd h List.not_mem_nil)⟩) (G34131.f (vc_X12_copy_1 hp2) (List.forall_mem_cons.mpr ⟨(vc_X12_through_67 hp2), (fun _ h => absurd h List.not_mem_nil)⟩) (u34110.f (Or.inl (mAt.ne (A_153 hw) (A_126 hw) rfl)) q32231))))) (rW (c := 0) (d := 12) h32237 rfl) (rW (c := 0) (d := 500) (rAdd (e := 1) (f := 500) h34114 (rR (x := 1)) rfl) rfl) (rW (c := (-1)) (d := 30) h34100 rfl) (vc_X12_through_u_13 hq2 hq4 h32225 h4 h3 h32234) I34175 I34176 (lvOK.pred (lvOK.keep I34112 hw ((mF.call (mF.call (mF.call (mF.call mF.refl F34130 rfl) F34145 rfl) F34159 rfl) F34173 rfl) : mF [126999] w μ34109 μ34171) rfl) (vc_X12_through_26 h32235 h32241 hq3 ht_f_pol hp1 h32237 h32240)) (Or.inr (F34173.f (A_152 hw) rfl (F34159.f (A_152 hw) rfl (F34145.f (A_152 hw) rfl (F34130.f (A_152 hw) rfl (u34110.f (Or.inl (mAt.ne (A_153 hw) (A_152 hw) rfl)) q32243)))))) (vc_X12_through_68 (nS h32230) h32235 h32241 h32251 h32251.1 h32253 h34113 hq3 h32221 ht_f_pol hp1 h34114 h32237 h32240 h34100 h32247)
                        have h34220 : 1 ≤ z34214 ∧ z34214 ≤ 20 := (vc_X12_unlike_22 h34218 h34217)
                        refine sv_aload_n (pc := 417) dX12_through_417 rfl rfl ?_
                        refine gf_X12_32 (pc := 418) dX12_through_418 wF_X12_148 (A_106 hw) T34172 ?_
                        refine mr_bipush (pc := 421) (z := 40) dX12_through_421 (by decide) ?_
                        refine mr_iload_n (pc := 423) (z := p2) dX12_through_423 rfl rfl ?_
                        refine mr_imul (pc := 424) (x := 40) (y := p2) dX12_through_424 ?_
                        refine mr_bipush (pc := 425) (z := 6) dX12_through_425 (by decide) ?_
                        refine mr_iadd (pc := 427) (x := (40 * p2)) (y := 6) dX12_through_427 ?_
                        refine la_126 (pc := 428) dX12_through_428 (A_126 hw) T34172 (rIx (n := 84000) (rAdd (e := 6) (f := 83966) (rMulL (n := 40) (e := 0) (f := 83960) hp2 rfl) (rR (x := 6)) rfl) rfl) fun z34221 q34222 h34223 => ?_
                        refine mr_istore (pc := 429) (lv' := [(12, iv z34221), (0, .ref 106), (2, iv p2), (3, iv p3), (4, iv p4), (5, iv z32216), (6, iv (z32215 + 1)), (10, iv ((300 * z32238) + z34101)), (11, iv z34115)]) dX12_through_429 (by decide) rfl ?_
                        refine sv_aload_n (pc := 431) dX12_through_431 rfl rfl ?_
                        refine gf_X12_32 (pc := 432) dX12_through_432 wF_X12_148 (A_106 hw) T34172 ?_
                        refine mr_bipush (pc := 435) (z := 40) dX12_through_435 (by decide) ?_
                        refine mr_iload_n (pc := 437) (z := p2) dX12_through_437 rfl rfl ?_
                        refine mr_imul (pc := 438) (x := 40) (y := p2) dX12_through_438 ?_
                        refine mr_iconst (pc := 439) (z := 4) dX12_through_439 ?_
                        refine mr_iadd (pc := 440) (x := (40 * p2)) (y := 4) dX12_through_440 ?_
                        refine lk_126 (pc := 441) dX12_through_441 (A_126 hw) (rIx (n := 84000) (rAdd (e := 4) (f := 83964) (rMulL (n := 40) (e := 0) (f := 83960) hp2 rfl) (rR (x := 4)) rfl) rfl) q34215 ?_
                        refine sv_aload_n (pc := 442) dX12_through_442 rfl rfl ?_
                        refine gf_X12_54 (pc := 443) dX12_through_443 wF_X12_352 (A_106 hw) T34172 ?_
                        refine mr_iload (pc := 446) (z := ((300 * z32238) + z34101)) dX12_through_446 rfl ?_
                        refine la_141 (pc := 448) dX12_through_448 (A_141 hw) T34172 (rIx (n := 3900) (rAdd (e := 0) (f := 3600) (rMulL (n := 300) (e := 0) (f := 3300) h32240 rfl) h34103 rfl) rfl) fun z34224 q34225 h34226 => ?_
                        refine mr_iadd (pc := 449) (x := z34214) (y := z34224) dX12_through_449 ?_
                        refine mr_wrap fun z34227 h34228 => ?_
                        refine mr_bipush (pc := 450) (z := 20) dX12_through_450 (by decide) ?_
                        refine mr_icmp_le (pc := 452) (tgt := 457) dX12_through_452 (by decide) h34228 (r32 (rR (x := 20)) rfl) (fun h34229 => ?_) (fun h34229 => ?_)
                        · have h34230 : (-2147483648) ≤ z34227 ∧ z34227 ≤ 20 := (vc_X12_through_86 h34229 h34228)
                          refine mr_iconst (pc := 457) (z := 0) dX12_through_457 ?_
                          refine mr_istore (pc := 458) (lv' := [(13, iv 0), (12, iv z34221), (0, .ref 106), (2, iv p2), (3, iv p3), (4, iv p4), (5, iv z32216), (6, iv (z32215 + 1)), (10, iv ((300 * z32238) + z34101)), (11, iv z34115)]) dX12_through_458 (by decide) rfl ?_
                          have L34593 : ∀ (nL34593 : Nat) (z34591 : Int) (μ34592 : mM), mT w μ34592 → mF [126999] w μ34171 μ34592 → mG [(((40 * p2) + 1), ((40 * p2) + 40))] μ34171 μ34592 → (0 ≤ z34591 ∧ z34591 ≤ 2147483647) → JC l D c H0 sa μ34592 → PK μ34592 → ((z34224 - z34591) + 4294967296) < (nL34593 : Int) → sV (gG l D c H0 sa) mX12_through (sRm 6 0 0) (sZ (gG l D c H0 sa) 0 0 (qI w [106026, 106027, 106028, 106029, 106030, 106031, 126999, 151999, 152999, 153999] μ (fun z μ1 => ∃ o_x : Int, μ1 126 ((40 * p2).toNat) = o_x ∧ (0 ≤ z ∧ z ≤ 1) ∧ mG [(((40 * p2) + 1), ((40 * p2) + 40))] μ μ1 ∧ JC l D c H0 sa μ1 ∧ (o_x = f_x) ∧ True))) 460 [(0, .ref 106), (2, iv p2), (3, iv p3), (4, iv p4), (5, iv z32216), (6, iv (z32215 + 1)), (10, iv ((300 * z32238) + z34101)), (11, iv z34115), (12, iv z34221), (13, iv z34591)] [] (mk w μ34592) 0 0 := by
                            intro nL34593
                            induction nL34593 with
                            | zero => intro z34591 μ34592 T34595 F34596 G34597 h34594 I34598 I34599 h34600; exact ((vc_X12_through_87 h34600 h34226 h34594)).elim
                            | succ nL34593 ih34601 =>
                              intro z34591 μ34592 T34595 F34596 G34597 h34594 I34598 I34599 h34600
                              refine mr_iload (pc := 460) (z := z34591) dX12_through_460 rfl ?_
                              refine sv_aload_n (pc := 462) dX12_through_462 rfl rfl ?_
                              refine gf_X12_54 (pc := 463) dX12_through_463 wF_X12_352 (A_106 hw) T34595 ?_
                              refine mr_iload (pc := 466) (z := ((300 * z32238) + z34101)) dX12_through_466 rfl ?_
                              refine lk_141 (pc := 468) dX12_through_468 (A_141 hw) (rIx (n := 3900) (rAdd (e := 0) (f := 3600) (rMulL (n := 300) (e := 0) (f := 3300) h32240 rfl) h34103 rfl) rfl) (F34596.f (A_141 hw) rfl q34225) ?_
                              refine mr_icmp_ge (pc := 469) (tgt := 486) dX12_through_469 (by decide) (r32 h34594 rfl) h34226 (fun h34609 => ?_) (fun h34609 => ?_)
                              · refine mr_iload (pc := 486) (z := z34115) dX12_through_486 rfl ?_
                                refine mr_bipush (pc := 488) (z := 28) dX12_through_488 (by decide) ?_
                                refine mr_icmp_ne (pc := 490) (tgt := 526) dX12_through_490 (by decide) (r32 h34213 rfl) (r32 (rR (x := 28)) rfl) (fun _ => ?_) (fun h => ((vc_X12_through_84 h h34213)).elim)
                                refine sv_goto (pc := 526) (tgt := 35) dX12_through_526 (by decide) ?_
                                refine mr_lvS (lv' := [(0, .ref 106), (2, iv p2), (3, iv p3), (4, iv p4), (5, iv z32216), (6, iv (z32215 + 1))]) (List.forall_mem_cons.mpr ⟨rfl, List.forall_mem_cons.mpr ⟨rfl, List.forall_mem_cons.mpr ⟨rfl, List.forall_mem_cons.mpr ⟨rfl, List.forall_mem_cons.mpr ⟨rfl, List.forall_mem_cons.mpr ⟨rfl, fun _ h => absurd h List.not_mem_nil⟩⟩⟩⟩⟩⟩) ?_
                                exact ih32232 z32216 (z32215 + 1) z32242 μ34592 f_y T34595 (mF.call (mF.call (mF.call (mF.call (mF.call (mF.up (mF.call mF.refl F32223 rfl) (A_153 hw) u34110 rfl) F34130 rfl) F34145 rfl) F34159 rfl) F34173 rfl) F34596 rfl) (mG.call (mG.call (mG.call (mG.call (mG.call (mG.upO (mG.call mG.refl G32224 (List.forall_mem_cons.mpr ⟨⟨_, List.mem_cons_self, (vc_X12_dropMark_5 hp2)⟩, (fun _ h => absurd h List.not_mem_nil)⟩)) u34110 rfl) G34131 (List.forall_mem_cons.mpr ⟨⟨_, List.mem_cons_self, (vc_X12_dropMark_5 hp2)⟩, (fun _ h => absurd h List.not_mem_nil)⟩)) G34146 (List.forall_mem_cons.mpr ⟨⟨_, List.mem_cons_self, (vc_X12_dropMark_5 hp2)⟩, (fun _ h => absurd h List.not_mem_nil)⟩)) G34160 (List.forall_mem_cons.mpr ⟨⟨_, List.mem_cons_self, (vc_X12_dropMark_5 hp2)⟩, (fun _ h => absurd h List.not_mem_nil)⟩)) G34174 (List.forall_mem_cons.mpr ⟨⟨_, List.mem_cons_self, (vc_X12_dropMark_5 hp2)⟩, (fun _ h => absurd h List.not_mem_nil)⟩)) G34597 (List.forall_mem_cons.mpr ⟨⟨_, List.mem_cons_self, (vc_X12_dropMark_5 hp2)⟩, (fun _ h => absurd h List.not_mem_nil)⟩)) (G34597.f (vc_X12_copy_1 hp2) (List.forall_mem_cons.mpr ⟨(vc_X12_through_67 hp2), (fun _ h => absurd h List.not_mem_nil)⟩) (G34174.f (vc_X12_copy_1 hp2) (List.forall_mem_cons.mpr ⟨(vc_X12_through_67 hp2), (fun _ h => absurd h List.not_mem_nil)⟩) (G34160.f (vc_X12_copy_1 hp2) (List.forall_mem_cons.mpr ⟨(vc_X12_through_67 hp2), (fun _ h => absurd h List.not_mem_nil)⟩) (G34146.f (vc_X12_copy_1 hp2) (List.forall_mem_cons.mpr ⟨(vc_X12_through_67 hp2), (fun _ h => absurd h List.not_mem_nil)⟩) (G34131.f (vc_X12_copy_1 hp2) (List.forall_mem_cons.mpr ⟨(vc_X12_through_67 hp2), (fun _ h => absurd h List.not_mem_nil)⟩) (u34110.f (Or.inl (mAt.ne (A_153 hw) (A_126 hw) rfl)) q32231)))))) (rW (c := 0) (d := 12) h32237 rfl) (rW (c := 0) (d := 500) (rAdd (e := 1) (f := 500) h34114 (rR (x := 1)) rfl) rfl) (rW (c := (-1)) (d := 30) h34100 rfl) (vc_X12_through_u_13 hq2 hq4 h32225 h4 h3 h32234) I34598 I34599 (lvOK.pred (lvOK.keep I34112 hw ((mF.call (mF.call (mF.call (mF.call (mF.call mF.refl F34130 rfl) F34145 rfl) F34159 rfl) F34173 rfl) F34596 rfl) : mF [126999] w μ34109 μ34592) rfl) (vc_X12_through_26 h32235 h32241 hq3 ht_f_pol hp1 h32237 h32240)) (Or.inr (F34596.f (A_152 hw) rfl (F34173.f (A_152 hw) rfl (F34159.f (A_152 hw) rfl (F34145.f (A_152 hw) rfl (F34130.f (A_152 hw) rfl (u34110.f (Or.inl (mAt.ne (A_153 hw) (A_152 hw) rfl)) q32243))))))) (vc_X12_through_68 (nS h32230) h32235 h32241 h32251 h32251.1 h32253 h34113 hq3 h32221 ht_f_pol hp1 h34114 h32237 h32240 h34100 h32247)
                              have h34610 : 0 ≤ z34591 ∧ z34591 ≤ 2147483646 := (vc_X12_through_88 h34609 h34226 h34594)
                              have h34611 : 1 ≤ z34224 ∧ z34224 ≤ 2147483647 := (vc_X12_through_89 h34609 h34226 h34610)
                              refine sv_aload_n (pc := 472) dX12_through_472 rfl rfl ?_
                              refine mr_iload_n (pc := 473) (z := p2) dX12_through_473 rfl rfl ?_
                              refine mr_iload (pc := 474) (z := z34221) dX12_through_474 rfl ?_
                              refine mr_cVI (pc := 476) (c_X12_front hw T34595 hp2 h34223.1) (gOk _ _ _ _ _) dX12_through_476 (tX12_front _ _ _ _ _) ⟨wV_X12_front, wL_X12_front⟩ wM_X12_408 (gCX12 _ _ _ _ _) rfl (A_106 hw) rfl ⟨le_t rfl, le_t rfl⟩ ⟨le_t rfl, le_t rfl⟩ rfl (le_t rfl) fun z34616 μ34612 T34613 F34614 h34615 => ?_
                              refine sv_pop (pc := 479) dX12_through_479 rfl ?_
                              refine mr_iinc (pc := 480) (lv' := [(13, iv (z34591 + 1)), (0, .ref 106), (2, iv p2), (3, iv p3), (4, iv p4), (5, iv z32216), (6, iv (z32215 + 1)), (10, iv ((300 * z32238) + z34101)), (11, iv z34115), (12, iv z34221)]) dX12_through_480 rfl (by decide) rfl ?_
                              refine sv_goto (pc := 483) (tgt := 460) dX12_through_483 (by decide) ?_
                              refine mr_lvS (lv' := [(0, .ref 106), (2, iv p2), (3, iv p3), (4, iv p4), (5, iv z32216), (6, iv (z32215 + 1)), (10, iv ((300 * z32238) + z34101)), (11, iv z34115), (12, iv z34221), (13, iv (z34591 + 1))]) (List.forall_mem_cons.mpr ⟨rfl, List.forall_mem_cons.mpr ⟨rfl, List.forall_mem_cons.mpr ⟨rfl, List.forall_mem_cons.mpr ⟨rfl, List.forall_mem_cons.mpr ⟨rfl, List.forall_mem_cons.mpr ⟨rfl, List.forall_mem_cons.mpr ⟨rfl, List.forall_mem_cons.mpr ⟨rfl, List.forall_mem_cons.mpr ⟨rfl, List.forall_mem_cons.mpr ⟨rfl, fun _ h => absurd h List.not_mem_nil⟩⟩⟩⟩⟩⟩⟩⟩⟩⟩) ?_
                              exact ih34601 (z34591 + 1) μ34612 T34613 (mF.call (mF.call mF.refl F34596 rfl) F34614 rfl) (mG.call (mG.call mG.refl G34597 (List.forall_mem_cons.mpr ⟨⟨_, List.mem_cons_self, (vc_X12_dropMark_5 hp2)⟩, (fun _ h => absurd h List.not_mem_nil)⟩)) h34615.2.1 (List.forall_mem_cons.mpr ⟨⟨_, List.mem_cons_self, (vc_X12_dropMark_5 hp2)⟩, (fun _ h => absurd h List.not_mem_nil)⟩)) (rW (c := 0) (d := 2147483647) (rAdd (e := 1) (f := 2147483647) h34610 (rR (x := 1)) rfl) rfl) (JC.keepJ I34598 hw ((mF.call mF.refl F34614 rfl) : mF [126999] w μ34592 μ34612) rfl) (PK.keep I34599 hw ((mF.call mF.refl F34614 rfl) : mF [126999] w μ34592 μ34612) rfl) (vc_X12_through_90 (nS h34600) h34609 h34611 h34610)
                          refine mr_lvS (lv' := [(0, .ref 106), (2, iv p2), (3, iv p3), (4, iv p4), (5, iv z32216), (6, iv (z32215 + 1)), (10, iv ((300 * z32238) + z34101)), (11, iv z34115), (12, iv z34221), (13, iv 0)]) (List.forall_mem_cons.mpr ⟨rfl, List.forall_mem_cons.mpr ⟨rfl, List.forall_mem_cons.mpr ⟨rfl, List.forall_mem_cons.mpr ⟨rfl, List.forall_mem_cons.mpr ⟨rfl, List.forall_mem_cons.mpr ⟨rfl, List.forall_mem_cons.mpr ⟨rfl, List.forall_mem_cons.mpr ⟨rfl, List.forall_mem_cons.mpr ⟨rfl, List.forall_mem_cons.mpr ⟨rfl, fun _ h => absurd h List.not_mem_nil⟩⟩⟩⟩⟩⟩⟩⟩⟩⟩) ?_
                          exact L34593 6442450944 0 μ34171 T34172 mF.refl mG.refl (rW (c := 0) (d := 2147483647) (rR (x := 0)) rfl) I34175 I34176 (vc_X12_through_91 h34226)
                        have h34617 : 21 ≤ z34227 ∧ z34227 ≤ 2147483647 := (vc_X12_through_92 h34229 h34228)
                        refine mr_iconst (pc := 455) (z := 0) dX12_through_455 ?_
                        exact mr_zret dX12_through_456 rfl (rW (c := 0) (d := 1) (rR (x := 0)) rfl) (le_t rfl) (le_t rfl) T34172 (mF.call (mF.call (mF.call (mF.call (mF.up (mF.call (mF.up (mF.up (mF.up mF.refl (A_151 hw) u17807 rfl) (A_152 hw) u17810 rfl) (A_153 hw) u17813 rfl) F32223 rfl) (A_153 hw) u34110 rfl) F34130 rfl) F34145 rfl) F34159 rfl) F34173 rfl) ⟨f_y, (G34174.f (vc_X12_copy_1 hp2) (List.forall_mem_cons.mpr ⟨(vc_X12_through_67 hp2), (fun _ h => absurd h List.not_mem_nil)⟩) (G34160.f (vc_X12_copy_1 hp2) (List.forall_mem_cons.mpr ⟨(vc_X12_through_67 hp2), (fun _ h => absurd h List.not_mem_nil)⟩) (G34146.f (vc_X12_copy_1 hp2) (List.forall_mem_cons.mpr ⟨(vc_X12_through_67 hp2), (fun _ h => absurd h List.not_mem_nil)⟩) (G34131.f (vc_X12_copy_1 hp2) (List.forall_mem_cons.mpr ⟨(vc_X12_through_67 hp2), (fun _ h => absurd h List.not_mem_nil)⟩) (u34110.f (Or.inl (mAt.ne (A_153 hw) (A_126 hw) rfl)) q32231))))), (rW (c := 0) (d := 1) (rR (x := 0)) rfl), (mG.call (mG.call (mG.call (mG.call (mG.upO (mG.call (mG.upO (mG.upO (mG.upO mG.refl u17807 rfl) u17810 rfl) u17813 rfl) G32224 (List.forall_mem_cons.mpr ⟨⟨_, List.mem_cons_self, (vc_X12_dropMark_5 hp2)⟩, (fun _ h => absurd h List.not_mem_nil)⟩)) u34110 rfl) G34131 (List.forall_mem_cons.mpr ⟨⟨_, List.mem_cons_self, (vc_X12_dropMark_5 hp2)⟩, (fun _ h => absurd h List.not_mem_nil)⟩)) G34146 (List.forall_mem_cons.mpr ⟨⟨_, List.mem_cons_self, (vc_X12_dropMark_5 hp2)⟩, (fun _ h => absurd h List.not_mem_nil)⟩)) G34160 (List.forall_mem_cons.mpr ⟨⟨_, List.mem_cons_self, (vc_X12_dropMark_5 hp2)⟩, (fun _ h => absurd h List.not_mem_nil)⟩)) G34174 (List.forall_mem_cons.mpr ⟨⟨_, List.mem_cons_self, (vc_X12_dropMark_5 hp2)⟩, (fun _ h => absurd h List.not_mem_nil)⟩)), I34175, (vc_X12_through_u_13 hq2 hq4 h32225 h4 h3 h32234), trivial⟩
                      refine mr_icmp_ne (pc := 375) (tgt := 396) dX12_through_375 (by decide) h34117 (r32 (rR (x := 13)) rfl) (fun h34618 => ?_) (fun h34618 => ?_)
                      · exact J34177 μ34157 T34158 mF.refl mG.refl I34161 I34162
                      have h34619 : 13 ≤ z34115 ∧ z34115 ≤ 13 := (vc_X12_through_93 h34618 h34118 h34119 h34117)
                      refine sv_aload_n (pc := 378) dX12_through_378 rfl rfl ?_
                      refine gf_X12_32 (pc := 379) dX12_through_379 wF_X12_148 (A_106 hw) T34158 ?_
                      refine mr_bipush (pc := 382) (z := 40) dX12_through_382 (by decide) ?_
                      refine mr_iload_n (pc := 384) (z := p2) dX12_through_384 rfl rfl ?_
                      refine mr_imul (pc := 385) (x := 40) (y := p2) dX12_through_385 ?_
                      refine mr_iconst (pc := 386) (z := 3) dX12_through_386 ?_
                      refine mr_iadd (pc := 387) (x := (40 * p2)) (y := 3) dX12_through_387 ?_
                      refine sv_aload_n (pc := 388) dX12_through_388 rfl rfl ?_
                      refine gf_X12_54 (pc := 389) dX12_through_389 wF_X12_352 (A_106 hw) T34158 ?_
                      refine mr_iload (pc := 392) (z := ((300 * z32238) + z34101)) dX12_through_392 rfl ?_
                      refine la_141 (pc := 394) dX12_through_394 (A_141 hw) T34158 (rIx (n := 3900) (rAdd (e := 0) (f := 3600) (rMulL (n := 300) (e := 0) (f := 3300) h32240 rfl) h34103 rfl) rfl) fun z34620 q34621 h34622 => ?_
                      refine ss_126 (pc := 395) dX12_through_395 (A_126 hw) T34158 (rIx (n := 84000) (rAdd (e := 3) (f := 83963) (rMulL (n := 40) (e := 0) (f := 83960) hp2 rfl) (rR (x := 3)) rfl) rfl) (vc_X12_through_94 hp2 h34622) fun μ34623 u34624 T34625 => ?_
                      exact J34177 μ34623 T34625 (mF.up mF.refl (A_126 hw) u34624 rfl) (mG.up mG.refl u34624 List.mem_cons_self (vc_X12_through_95 hp2)) (JC.keepJ I34161 hw ((mF.up mF.refl (A_126 hw) u34624 rfl) : mF [126999] w μ34157 μ34623) rfl) (PK.keep I34162 hw ((mF.up mF.refl (A_126 hw) u34624 rfl) : mF [126999] w μ34157 μ34623) rfl)
                    refine mr_icmp_ne (pc := 350) (tgt := 371) dX12_through_350 (by decide) h34117 (r32 (rR (x := 12)) rfl) (fun h34626 => ?_) (fun h34626 => ?_)
                    · exact J34163 μ34143 T34144 mF.refl mG.refl I34147 I34148
                    have h34627 : 12 ≤ z34115 ∧ z34115 ≤ 12 := (vc_X12_through_96 h34626 h34118 h34119 h34117)
                    refine sv_aload_n (pc := 353) dX12_through_353 rfl rfl ?_
                    refine gf_X12_32 (pc := 354) dX12_through_354 wF_X12_148 (A_106 hw) T34144 ?_
                    refine mr_bipush (pc := 357) (z := 40) dX12_through_357 (by decide) ?_
                    refine mr_iload_n (pc := 359) (z := p2) dX12_through_359 rfl rfl ?_
                    refine mr_imul (pc := 360) (x := 40) (y := p2) dX12_through_360 ?_
                    refine mr_iconst (pc := 361) (z := 1) dX12_through_361 ?_
                    refine mr_iadd (pc := 362) (x := (40 * p2)) (y := 1) dX12_through_362 ?_
                    refine sv_aload_n (pc := 363) dX12_through_363 rfl rfl ?_
                    refine gf_X12_54 (pc := 364) dX12_through_364 wF_X12_352 (A_106 hw) T34144 ?_
                    refine mr_iload (pc := 367) (z := ((300 * z32238) + z34101)) dX12_through_367 rfl ?_
                    refine la_141 (pc := 369) dX12_through_369 (A_141 hw) T34144 (rIx (n := 3900) (rAdd (e := 0) (f := 3600) (rMulL (n := 300) (e := 0) (f := 3300) h32240 rfl) h34103 rfl) rfl) fun z34628 q34629 h34630 => ?_
                    refine ss_126 (pc := 370) dX12_through_370 (A_126 hw) T34144 (rIx (n := 84000) (rAdd (e := 1) (f := 83961) (rMulL (n := 40) (e := 0) (f := 83960) hp2 rfl) (rR (x := 1)) rfl) rfl) (vc_X12_through_97 hp2 h34630) fun μ34631 u34632 T34633 => ?_
                    exact J34163 μ34631 T34633 (mF.up mF.refl (A_126 hw) u34632 rfl) (mG.up mG.refl u34632 List.mem_cons_self (vc_X12_through_98 hp2)) (JC.keepJ I34147 hw ((mF.up mF.refl (A_126 hw) u34632 rfl) : mF [126999] w μ34143 μ34631) rfl) (PK.keep I34148 hw ((mF.up mF.refl (A_126 hw) u34632 rfl) : mF [126999] w μ34143 μ34631) rfl)
                  refine mr_icmp_ne (pc := 331) (tgt := 346) dX12_through_331 (by decide) h34117 (r32 (rR (x := 26)) rfl) (fun h34634 => ?_) (fun h34634 => ?_)
                  · exact J34149 μ34128 T34129 mF.refl mG.refl I34132 I34133
                  have h34635 : 26 ≤ z34115 ∧ z34115 ≤ 26 := (vc_X12_through_99 h34634 h34118 h34119 h34117)
                  refine sv_aload_n (pc := 334) dX12_through_334 rfl rfl ?_
                  refine mr_iload_n (pc := 335) (z := p2) dX12_through_335 rfl rfl ?_
                  refine sv_aload_n (pc := 336) dX12_through_336 rfl rfl ?_
                  refine gf_X12_54 (pc := 337) dX12_through_337 wF_X12_352 (A_106 hw) T34129 ?_
                  refine mr_iload (pc := 340) (z := ((300 * z32238) + z34101)) dX12_through_340 rfl ?_
                  refine la_141 (pc := 342) dX12_through_342 (A_141 hw) T34129 (rIx (n := 3900) (rAdd (e := 0) (f := 3600) (rMulL (n := 300) (e := 0) (f := 3300) h32240 rfl) h34103 rfl) rfl) fun z34636 q34637 h34638 => ?_
                  refine mr_cVV (pc := 343) (c_X12_dropMark hw T34129 hp2 h34638) (gOk _ _ _ _ _) dX12_through_343 (tX12_dropMark _ _ _ _ _) ⟨wV_X12_dropMark, wL_X12_dropMark⟩ wM_X12_405 (gCX12 _ _ _ _ _) rfl (A_106 hw) rfl ⟨le_t rfl, le_t rfl⟩ ⟨le_t rfl, le_t rfl⟩ rfl (le_t rfl) fun μ34639 T34640 F34641 h34642 => ?_
                  exact J34149 μ34639 T34640 (mF.call mF.refl F34641 rfl) (mG.call mG.refl h34642.1 (List.forall_mem_cons.mpr ⟨⟨_, List.mem_cons_self, (vc_X12_dropMark_5 hp2)⟩, (fun _ h => absurd h List.not_mem_nil)⟩)) (JC.keepJ I34132 hw ((mF.call mF.refl F34641 rfl) : mF [126999] w μ34128 μ34639) rfl) (PK.keep I34133 hw ((mF.call mF.refl F34641 rfl) : mF [126999] w μ34128 μ34639) rfl)
                refine mr_icmp_ne (pc := 312) (tgt := 327) dX12_through_312 (by decide) h34117 (r32 (rR (x := 25)) rfl) (fun h34643 => ?_) (fun h34643 => ?_)
                · refine mr_lvS (lv' := [(0, .ref 106), (2, iv p2), (3, iv p3), (4, iv p4), (5, iv z32216), (6, iv (z32215 + 1)), (10, iv ((300 * z32238) + z34101)), (11, iv z34115)]) (List.forall_mem_cons.mpr ⟨rfl, List.forall_mem_cons.mpr ⟨rfl, List.forall_mem_cons.mpr ⟨rfl, List.forall_mem_cons.mpr ⟨rfl, List.forall_mem_cons.mpr ⟨rfl, List.forall_mem_cons.mpr ⟨rfl, List.forall_mem_cons.mpr ⟨rfl, List.forall_mem_cons.mpr ⟨rfl, fun _ h => absurd h List.not_mem_nil⟩⟩⟩⟩⟩⟩⟩⟩) ?_
                  exact J34134 μ34109 T34111 mF.refl mG.refl (JC.keepJ I32226 hw ((mF.up mF.refl (A_153 hw) u34110 rfl) : mF [153999] w μ32217 μ34109) rfl) (PK.keep I32227 hw ((mF.up mF.refl (A_153 hw) u34110 rfl) : mF [153999] w μ32217 μ34109) rfl)
                have h34644 : 25 ≤ z34115 ∧ z34115 ≤ 25 := (vc_X12_through_100 h34643 h34118 h34119 h34117)
                refine sv_aload_n (pc := 315) dX12_through_315 rfl rfl ?_
                refine mr_iload_n (pc := 316) (z := p2) dX12_through_316 rfl rfl ?_
                refine sv_aload_n (pc := 317) dX12_through_317 rfl rfl ?_
                refine gf_X12_54 (pc := 318) dX12_through_318 wF_X12_352 (A_106 hw) T34111 ?_
                refine mr_iload (pc := 321) (z := ((300 * z32238) + z34101)) dX12_through_321 rfl ?_
                refine la_141 (pc := 323) dX12_through_323 (A_141 hw) T34111 (rIx (n := 3900) (rAdd (e := 0) (f := 3600) (rMulL (n := 300) (e := 0) (f := 3300) h32240 rfl) h34103 rfl) rfl) fun z34645 q34646 h34647 => ?_
                refine mr_cVV (pc := 324) (c_X12_addMark hw T34111 hp2 h34647) (gOk _ _ _ _ _) dX12_through_324 (tX12_addMark _ _ _ _ _) ⟨wV_X12_addMark, wL_X12_addMark⟩ wM_X12_401 (gCX12 _ _ _ _ _) rfl (A_106 hw) rfl ⟨le_t rfl, le_t rfl⟩ ⟨le_t rfl, le_t rfl⟩ rfl (le_t rfl) fun μ34648 T34649 F34650 h34651 => ?_
                refine mr_lvS (lv' := [(0, .ref 106), (2, iv p2), (3, iv p3), (4, iv p4), (5, iv z32216), (6, iv (z32215 + 1)), (10, iv ((300 * z32238) + z34101)), (11, iv z34115)]) (List.forall_mem_cons.mpr ⟨rfl, List.forall_mem_cons.mpr ⟨rfl, List.forall_mem_cons.mpr ⟨rfl, List.forall_mem_cons.mpr ⟨rfl, List.forall_mem_cons.mpr ⟨rfl, List.forall_mem_cons.mpr ⟨rfl, List.forall_mem_cons.mpr ⟨rfl, List.forall_mem_cons.mpr ⟨rfl, fun _ h => absurd h List.not_mem_nil⟩⟩⟩⟩⟩⟩⟩⟩) ?_
                exact J34134 μ34648 T34649 (mF.call mF.refl F34650 rfl) (mG.call mG.refl h34651.1 (List.forall_mem_cons.mpr ⟨⟨_, List.mem_cons_self, (vc_X12_dropMark_5 hp2)⟩, (fun _ h => absurd h List.not_mem_nil)⟩)) (JC.keepJ I32226 hw ((mF.call (mF.up mF.refl (A_153 hw) u34110 rfl) F34650 rfl) : mF [126999, 153999] w μ32217 μ34648) rfl) (PK.keep I32227 hw ((mF.call (mF.up mF.refl (A_153 hw) u34110 rfl) F34650 rfl) : mF [126999, 153999] w μ32217 μ34648) rfl)
              have h34652 : 24 ≤ z34115 ∧ z34115 ≤ 24 := (vc_X12_through_101 h34119 h34118 h34117)
              refine mr_iconst (pc := 306) (z := 0) dX12_through_306 ?_
              exact mr_zret dX12_through_307 rfl (rW (c := 0) (d := 1) (rR (x := 0)) rfl) (le_t rfl) (le_t rfl) T34111 (mF.up (mF.call (mF.up (mF.up (mF.up mF.refl (A_151 hw) u17807 rfl) (A_152 hw) u17810 rfl) (A_153 hw) u17813 rfl) F32223 rfl) (A_153 hw) u34110 rfl) ⟨f_y, (u34110.f (Or.inl (mAt.ne (A_153 hw) (A_126 hw) rfl)) q32231), (rW (c := 0) (d := 1) (rR (x := 0)) rfl), (mG.upO (mG.call (mG.upO (mG.upO (mG.upO mG.refl u17807 rfl) u17810 rfl) u17813 rfl) G32224 (List.forall_mem_cons.mpr ⟨⟨_, List.mem_cons_self, (vc_X12_dropMark_5 hp2)⟩, (fun _ h => absurd h List.not_mem_nil)⟩)) u34110 rfl), (JC.keepJ I32226 hw ((mF.up mF.refl (A_153 hw) u34110 rfl) : mF [153999] w μ32217 μ34109) rfl), (vc_X12_through_u_13 hq2 hq4 h32225 h4 h3 h32234), trivial⟩
            have h34653 : 23 ≤ z34115 ∧ z34115 ≤ 23 := (vc_X12_through_102 h34118 h34117)
            refine mr_iconst (pc := 297) (z := 1) dX12_through_297 ?_
            exact mr_zret dX12_through_298 rfl (rW (c := 0) (d := 1) (rR (x := 1)) rfl) (le_t rfl) (le_t rfl) T34111 (mF.up (mF.call (mF.up (mF.up (mF.up mF.refl (A_151 hw) u17807 rfl) (A_152 hw) u17810 rfl) (A_153 hw) u17813 rfl) F32223 rfl) (A_153 hw) u34110 rfl) ⟨f_y, (u34110.f (Or.inl (mAt.ne (A_153 hw) (A_126 hw) rfl)) q32231), (rW (c := 0) (d := 1) (rR (x := 1)) rfl), (mG.upO (mG.call (mG.upO (mG.upO (mG.upO mG.refl u17807 rfl) u17810 rfl) u17813 rfl) G32224 (List.forall_mem_cons.mpr ⟨⟨_, List.mem_cons_self, (vc_X12_dropMark_5 hp2)⟩, (fun _ h => absurd h List.not_mem_nil)⟩)) u34110 rfl), (JC.keepJ I32226 hw ((mF.up mF.refl (A_153 hw) u34110 rfl) : mF [153999] w μ32217 μ34109) rfl), (vc_X12_through_u_13 hq2 hq4 h32225 h4 h3 h32234), trivial⟩
          have h34654 : 500 ≤ z32215 ∧ z32215 ≤ 500 := (vc_X12_through_103 h34113 h32220)
          refine mr_iconst (pc := 279) (z := 0) dX12_through_279 ?_
          exact mr_zret dX12_through_280 rfl (rW (c := 0) (d := 1) (rR (x := 0)) rfl) (le_t rfl) (le_t rfl) T34111 (mF.up (mF.call (mF.up (mF.up (mF.up mF.refl (A_151 hw) u17807 rfl) (A_152 hw) u17810 rfl) (A_153 hw) u17813 rfl) F32223 rfl) (A_153 hw) u34110 rfl) ⟨f_y, (u34110.f (Or.inl (mAt.ne (A_153 hw) (A_126 hw) rfl)) q32231), (rW (c := 0) (d := 1) (rR (x := 0)) rfl), (mG.upO (mG.call (mG.upO (mG.upO (mG.upO mG.refl u17807 rfl) u17810 rfl) u17813 rfl) G32224 (List.forall_mem_cons.mpr ⟨⟨_, List.mem_cons_self, (vc_X12_dropMark_5 hp2)⟩, (fun _ h => absurd h List.not_mem_nil)⟩)) u34110 rfl), (JC.keepJ I32226 hw ((mF.up mF.refl (A_153 hw) u34110 rfl) : mF [153999] w μ32217 μ34109) rfl), (vc_X12_through_u_13 hq2 hq4 h32225 h4 h3 h32234), trivial⟩
        refine mr_iinc (pc := 94) (lv' := [(9, iv (z32242 + 1)), (8, iv z32238), (7, iv (z32216 - 1)), (0, .ref 106), (2, iv p2), (3, iv p3), (4, iv p4), (5, iv z32216), (6, iv z32215)]) dX12_through_94 rfl (by decide) rfl ?_
        refine mr_iconst (pc := 97) (z := 0) dX12_through_97 ?_
        refine mr_istore (pc := 98) (lv' := [(10, iv 0), (9, iv (z32242 + 1)), (8, iv z32238), (7, iv (z32216 - 1)), (0, .ref 106), (2, iv p2), (3, iv p3), (4, iv p4), (5, iv z32216), (6, iv z32215)]) dX12_through_98 (by decide) rfl ?_
        have L34825 : ∀ (nL34825 : Nat) (z34823 z34822 : Int) (μ34824 : mM), mT w μ34824 → mF [106026, 106027, 106028, 106029, 106030, 106031] w μ32217 μ34824 → (1 ≤ z34823 ∧ z34823 ≤ 30) → (0 ≤ z34822 ∧ z34822 ≤ 1) → (z34822 = 0 ∨ z34823 < z32245) → (f_R < z34823) → JC l D c H0 sa μ34824 → PK μ34824 → (70 - ((2 * z34823) + z34822)) < (nL34825 : Int) → sV (gG l D c H0 sa) mX12_through (sRm 6 0 0) (sZ (gG l D c H0 sa) 0 0 (qI w [106026, 106027, 106028, 106029, 106030, 106031, 126999, 151999, 152999, 153999] μ (fun z μ1 => ∃ o_x : Int, μ1 126 ((40 * p2).toNat) = o_x ∧ (0 ≤ z ∧ z ≤ 1) ∧ mG [(((40 * p2) + 1), ((40 * p2) + 40))] μ μ1 ∧ JC l D c H0 sa μ1 ∧ (o_x = f_x) ∧ True))) 100 [(0, .ref 106), (2, iv p2), (3, iv p3), (4, iv p4), (5, iv z32216), (6, iv z32215), (7, iv (z32216 - 1)), (8, iv z32238), (9, iv z34823), (10, iv z34822)] [] (mk w μ34824) 0 0 := by
          intro nL34825
          induction nL34825 with
          | zero => intro z34823 z34822 μ34824 T34828 F34829 h34826 h34827 h34831 h34832 I34833 I34834 h34835; exact ((vc_X12_through_104 h34835 h34831 h34832 h32251 h32251.1 h32221 h34100 h32247 h34827 h34826)).elim
          | succ nL34825 ih34836 =>
            intro z34823 z34822 μ34824 T34828 F34829 h34826 h34827 h34831 h34832 I34833 I34834 h34835
            refine mr_iload (pc := 100) (z := z34823) dX12_through_100 rfl ?_
            refine sv_aload_n (pc := 102) dX12_through_102 rfl rfl ?_
            refine gf_X12_40 (pc := 103) dX12_through_103 wF_X12_358 (A_106 hw) T34828 ?_
            refine mr_iload (pc := 106) (z := z32238) dX12_through_106 rfl ?_
            refine lk_127 (pc := 108) dX12_through_108 (A_127 hw) (rIx (n := 13) h32240 rfl) (F34829.f (A_127 hw) rfl q32246) ?_
            have J34878 : sV (gG l D c H0 sa) mX12_through (sRm 6 0 0) (sZ (gG l D c H0 sa) 0 0 (qI w [106026, 106027, 106028, 106029, 106030, 106031, 126999, 151999, 152999, 153999] μ (fun z μ1 => ∃ o_x : Int, μ1 126 ((40 * p2).toNat) = o_x ∧ (0 ≤ z ∧ z ≤ 1) ∧ mG [(((40 * p2) + 1), ((40 * p2) + 40))] μ μ1 ∧ JC l D c H0 sa μ1 ∧ (o_x = f_x) ∧ True))) 198 [(0, .ref 106), (2, iv p2), (3, iv p3), (4, iv p4), (5, iv z32216), (6, iv z32215), (7, iv (z32216 - 1)), (8, iv z32238), (9, iv z34823), (10, iv z34822)] [] (mk w μ34824) 0 0 := by
              refine mr_iload (pc := 198) (z := z34822) dX12_through_198 rfl ?_
              refine mr_if_ne (pc := 200) (tgt := 209) dX12_through_200 (by decide) (r32 h34827 rfl) (fun h34879 => ?_) (fun h34879 => ?_)
              · have h34880 : 1 ≤ z34822 ∧ z34822 ≤ 1 := (vc_X12_through_105 h34879 h34831 h32247 h34827 h34826)
                refine sv_aload_n (pc := 209) dX12_through_209 rfl rfl ?_
                refine gf_X12_68 (pc := 210) dX12_through_210 wF_X12_391 (A_106 hw) T34828 ?_
                refine mr_iload (pc := 213) (z := (z32216 - 1)) dX12_through_213 rfl ?_
                refine mr_iload (pc := 215) (z := z34823) dX12_through_215 rfl ?_
                refine ss_152 (pc := 217) dX12_through_217 (A_152 hw) T34828 (rIx (n := 14) (rSub (e := 0) (f := 11) h32237 (rR (x := 1)) rfl) rfl) (rW (c := (-1)) (d := 30) h34826 rfl) fun μ34881 u34882 T34883 => ?_
                refine sv_aload_n (pc := 218) dX12_through_218 rfl rfl ?_
                refine gf_X12_69 (pc := 219) dX12_through_219 wF_X12_394 (A_106 hw) T34883 ?_
                refine mr_iload (pc := 222) (z := (z32216 - 1)) dX12_through_222 rfl ?_
                refine sv_aload_n (pc := 224) dX12_through_224 rfl rfl ?_
                refine gf_X12_42 (pc := 225) dX12_through_225 wF_X12_364 (A_106 hw) T34883 ?_
                refine mr_bipush (pc := 228) (z := 31) dX12_through_228 (by decide) ?_
                refine mr_iload (pc := 230) (z := z32238) dX12_through_230 rfl ?_
                refine mr_imul (pc := 232) (x := 31) (y := z32238) dX12_through_232 ?_
                refine mr_iload (pc := 233) (z := z34823) dX12_through_233 rfl ?_
                refine mr_iadd (pc := 235) (x := (31 * z32238)) (y := z34823) dX12_through_235 ?_
                refine la_129 (pc := 236) dX12_through_236 (A_129 hw) T34883 (rIx (n := 403) (rAdd (e := 1) (f := 371) (rMulL (n := 31) (e := 0) (f := 341) h32240 rfl) h34826 rfl) rfl) fun z34884 q34885 h34886 => ?_
                refine ss_153 (pc := 237) dX12_through_237 (A_153 hw) T34883 (rIx (n := 14) (rSub (e := 0) (f := 11) h32237 (rR (x := 1)) rfl) rfl) h34886 fun μ34887 u34888 T34889 => ?_
                have I34890 : lvOK μ34887 z32216 := lvOK.row (lvOK.keep R32228 hw ((mF.call mF.refl F34829 rfl) : mF [106026, 106027, 106028, 106029, 106030, 106031] w μ32217 _) rfl) (PK.keep I34834 hw ((mF.up (mF.up mF.refl (A_152 hw) u34882 rfl) (A_153 hw) u34888 rfl) : mF [152999, 153999] w μ34824 μ34887) rfl) (vc_X12_through_15 h32235 h32241 hq3 ht_f_pol hp1 h32237 h32240) u34882 u34888 (u34888.f (Or.inl (mAt.ne (A_153 hw) (A_151 hw) rfl)) (u34882.f (Or.inl (mAt.ne (A_152 hw) (A_151 hw) rfl)) (F34829.f (A_151 hw) rfl q32239))) (vc_X12_through_22 hq3 h32241 h17805 h32235 ht_f_pol hp1 h32237 h32240) (u34888.f (Or.inl (mAt.ne (A_153 hw) (A_106 hw) rfl)) (u34882.f (Or.inl (mAt.ne (A_152 hw) (A_106 hw) rfl)) (F34829.f (A_106 hw) rfl (F32223.f (A_106 hw) rfl (u17813.f (Or.inl (mAt.ne (A_153 hw) (A_106 hw) rfl)) (u17810.f (Or.inl (mAt.ne (A_152 hw) (A_106 hw) rfl)) (u17807.f (Or.inl (mAt.ne (A_151 hw) (A_106 hw) rfl)) q_f_pol))))))) (vc_X12_through_106 h32251 h32251.1 h34831 h34832 h32253 h34879 h32221 h34100 h32247 h34880 h34826) (u34888.f (Or.inl (mAt.ne (A_153 hw) (A_127 hw) rfl)) (u34882.f (Or.inl (mAt.ne (A_152 hw) (A_127 hw) rfl)) (F34829.f (A_127 hw) rfl q32246))) (vc_X12_through_107 h32241 h34831 h34832 hq3 h32235 h32251 h32251.1 h34879 h32221 ht_f_pol hp1 h32237 h32240 h34100 h32247 h34880 h34826) (u34888.f (Or.inl (mAt.ne (A_153 hw) (A_129 hw) rfl)) q34885)
                refine sv_goto (pc := 238) (tgt := 35) dX12_through_238 (by decide) ?_
                refine mr_lvS (lv' := [(0, .ref 106), (2, iv p2), (3, iv p3), (4, iv p4), (5, iv z32216), (6, iv z32215)]) (List.forall_mem_cons.mpr ⟨rfl, List.forall_mem_cons.mpr ⟨rfl, List.forall_mem_cons.mpr ⟨rfl, List.forall_mem_cons.mpr ⟨rfl, List.forall_mem_cons.mpr ⟨rfl, List.forall_mem_cons.mpr ⟨rfl, fun _ h => absurd h List.not_mem_nil⟩⟩⟩⟩⟩⟩) ?_
                exact ih32232 z32216 z32215 z34823 μ34887 f_y T34889 (mF.up (mF.up (mF.call (mF.call mF.refl F32223 rfl) F34829 rfl) (A_152 hw) u34882 rfl) (A_153 hw) u34888 rfl) (mG.upO (mG.upO (mG.fr (mG.call mG.refl G32224 (List.forall_mem_cons.mpr ⟨⟨_, List.mem_cons_self, (vc_X12_dropMark_5 hp2)⟩, (fun _ h => absurd h List.not_mem_nil)⟩)) F34829 (A_126 hw) rfl) u34882 rfl) u34888 rfl) (u34888.f (Or.inl (mAt.ne (A_153 hw) (A_126 hw) rfl)) (u34882.f (Or.inl (mAt.ne (A_152 hw) (A_126 hw) rfl)) (F34829.f (A_126 hw) rfl q32231))) (rW (c := 0) (d := 12) h32237 rfl) h32220 (rW (c := (-1)) (d := 30) h34826 rfl) (vc_X12_through_u_13 hq2 hq4 h32225 h4 h3 h32234) (JC.keepJ I34833 hw ((mF.up (mF.up mF.refl (A_152 hw) u34882 rfl) (A_153 hw) u34888 rfl) : mF [152999, 153999] w μ34824 μ34887) rfl) (PK.keep I34834 hw ((mF.up (mF.up mF.refl (A_152 hw) u34882 rfl) (A_153 hw) u34888 rfl) : mF [152999, 153999] w μ34824 μ34887) rfl) (lvOK.pred I34890 (vc_X12_through_26 h32235 h32241 hq3 ht_f_pol hp1 h32237 h32240)) (Or.inr (u34888.f (Or.inl (mAt.ne (A_153 hw) (A_152 hw) rfl)) u34882.1)) (vc_X12_through_108 (nS h32230) h32235 h32241 h32251 h34831 h34832 hq3 h32251.1 h32253 h34879 h32221 ht_f_pol hp1 h32220 h32237 h32240 h34100 h32247 h34880 h34826)
              have h34891 : 0 ≤ z34822 ∧ z34822 ≤ 0 := (vc_X12_through_109 h34879 h34831 h32247 h34827 h34826)
              refine mr_iinc (pc := 203) (lv' := [(5, iv (z32216 + (-1))), (0, .ref 106), (2, iv p2), (3, iv p3), (4, iv p4), (6, iv z32215), (7, iv (z32216 - 1)), (8, iv z32238), (9, iv z34823), (10, iv z34822)]) dX12_through_203 rfl (by decide) rfl ?_
              by_cases h34892 : (z32216 + (-1)) = 0
              · have h34893 : 1 ≤ z32216 ∧ z32216 ≤ 1 := (vc_X12_through_28 h34892 h32235 h32241 ht_f_pol h32237 h32240)
                refine sv_goto (pc := 206) (tgt := 35) dX12_through_206 (by decide) ?_
                refine mr_lvS (lv' := [(0, .ref 106), (2, iv p2), (3, iv p3), (4, iv p4), (5, iv (z32216 + (-1))), (6, iv z32215)]) (List.forall_mem_cons.mpr ⟨rfl, List.forall_mem_cons.mpr ⟨rfl, List.forall_mem_cons.mpr ⟨rfl, List.forall_mem_cons.mpr ⟨rfl, List.forall_mem_cons.mpr ⟨rfl, List.forall_mem_cons.mpr ⟨rfl, fun _ h => absurd h List.not_mem_nil⟩⟩⟩⟩⟩⟩) ?_
                exact ih32232 (z32216 + (-1)) z32215 0 μ34824 f_y T34828 (mF.call (mF.call mF.refl F32223 rfl) F34829 rfl) (mG.fr (mG.call mG.refl G32224 (List.forall_mem_cons.mpr ⟨⟨_, List.mem_cons_self, (vc_X12_dropMark_5 hp2)⟩, (fun _ h => absurd h List.not_mem_nil)⟩)) F34829 (A_126 hw) rfl) (F34829.f (A_126 hw) rfl q32231) (rW (c := 0) (d := 12) (rAdd (e := 0) (f := 0) h34893 (rR (x := (-1))) rfl) rfl) h32220 (rW (c := (-1)) (d := 30) (rR (x := 0)) rfl) (vc_X12_through_u_13 hq2 hq4 h32225 h4 h3 h32234) I34833 I34834 (lvOK.pred (lvOK.keep R32228 hw ((mF.call mF.refl F34829 rfl) : mF [106026, 106027, 106028, 106029, 106030, 106031] w μ32217 μ34824) rfl) (vc_X12_through_30 h32235 h32241 h34892 hq3 ht_f_pol hp1 h34893 h32240)) (Or.inl (vc_X12_through_31 h32235 h32241 h34892 hq3 ht_f_pol hp1 h34893 h32240)) (vc_X12_through_110 (nS h32230) h32235 h32241 h32251 h34832 h34892 hq3 h32251.1 h32253 h34831 h32221 ht_f_pol hp1 h32220 h34893 h32240 h34100 h32247 h34891 h34826)
              have h34894 : 2 ≤ z32216 ∧ z32216 ≤ 12 := (vc_X12_through_32 h34892 h32235 h32241 ht_f_pol h32237 h32240)
              refine sv_goto (pc := 206) (tgt := 35) dX12_through_206 (by decide) ?_
              obtain ⟨z34895, q34896⟩ : ∃ z, μ34824 152 (((z32216 + (-1)) - 1).toNat) = z := ⟨_, rfl⟩
              have h34897 : ((-1) ≤ z34895 ∧ z34895 ≤ 30) := by rw [← q34896]; exact T34828 152 152 (A_152 hw) (((z32216 + (-1)) - 1).toNat)
              refine mr_lvS (lv' := [(0, .ref 106), (2, iv p2), (3, iv p3), (4, iv p4), (5, iv (z32216 + (-1))), (6, iv z32215)]) (List.forall_mem_cons.mpr ⟨rfl, List.forall_mem_cons.mpr ⟨rfl, List.forall_mem_cons.mpr ⟨rfl, List.forall_mem_cons.mpr ⟨rfl, List.forall_mem_cons.mpr ⟨rfl, List.forall_mem_cons.mpr ⟨rfl, fun _ h => absurd h List.not_mem_nil⟩⟩⟩⟩⟩⟩) ?_
              exact ih32232 (z32216 + (-1)) z32215 z34895 μ34824 f_y T34828 (mF.call (mF.call mF.refl F32223 rfl) F34829 rfl) (mG.fr (mG.call mG.refl G32224 (List.forall_mem_cons.mpr ⟨⟨_, List.mem_cons_self, (vc_X12_dropMark_5 hp2)⟩, (fun _ h => absurd h List.not_mem_nil)⟩)) F34829 (A_126 hw) rfl) (F34829.f (A_126 hw) rfl q32231) (rW (c := 0) (d := 12) (rAdd (e := 1) (f := 11) h34894 (rR (x := (-1))) rfl) rfl) h32220 h34897 (vc_X12_through_u_13 hq2 hq4 h32225 h4 h3 h32234) I34833 I34834 (lvOK.pred (lvOK.keep R32228 hw ((mF.call mF.refl F34829 rfl) : mF [106026, 106027, 106028, 106029, 106030, 106031] w μ32217 μ34824) rfl) (vc_X12_through_34 h32235 h32241 h34892 hq3 ht_f_pol hp1 h34894 h32240)) (Or.inr q34896) (vc_X12_through_111 (nS h32230) h32235 h32241 h32251 h34832 h34892 hq3 h32251.1 h32253 h34831 h32221 ht_f_pol hp1 h32220 h34894 h32240 h34100 h32247 h34891 h34826 h34897)
            refine mr_icmp_ge (pc := 109) (tgt := 198) dX12_through_109 (by decide) (r32 h34826 rfl) (r32 h32247 rfl) (fun h34898 => ?_) (fun h34898 => ?_)
            · exact J34878 
            have h34899 : 1 ≤ z34823 ∧ z34823 ≤ 29 := (vc_X12_through_112 h34898 h32251 h32251.1 h34831 h34832 h32221 h34100 h32247 h34827 h34826)
            have h34900 : 2 ≤ z32245 ∧ z32245 ≤ 30 := (vc_X12_through_113 h34898 h32251 h32251.1 h34831 h34832 h32221 h34100 h32247 h34827 h34899)
            refine mr_iload (pc := 112) (z := z34822) dX12_through_112 rfl ?_
            refine mr_if_ne (pc := 114) (tgt := 198) dX12_through_114 (by decide) (r32 h34827 rfl) (fun h34901 => ?_) (fun h34901 => ?_)
            · have h34902 : 1 ≤ z34822 ∧ z34822 ≤ 1 := (vc_X12_through_114 h34901 h34831 h34900 h34827 h34899)
              exact J34878 
            have h34903 : 0 ≤ z34822 ∧ z34822 ≤ 0 := (vc_X12_through_115 h34901 h34831 h34900 h34827 h34899)
            refine mr_iconst (pc := 117) (z := 1) dX12_through_117 ?_
            refine mr_istore (pc := 118) (lv' := [(10, iv 1), (0, .ref 106), (2, iv p2), (3, iv p3), (4, iv p4), (5, iv z32216), (6, iv z32215), (7, iv (z32216 - 1)), (8, iv z32238), (9, iv z34823)]) dX12_through_118 (by decide) rfl ?_
            refine sv_aload_n (pc := 120) dX12_through_120 rfl rfl ?_
            refine gf_X12_41 (pc := 121) dX12_through_121 wF_X12_361 (A_106 hw) T34828 ?_
            refine mr_bipush (pc := 124) (z := 31) dX12_through_124 (by decide) ?_
            refine mr_iload (pc := 126) (z := z32238) dX12_through_126 rfl ?_
            refine mr_imul (pc := 128) (x := 31) (y := z32238) dX12_through_128 ?_
            refine mr_iload (pc := 129) (z := z34823) dX12_through_129 rfl ?_
            refine mr_iadd (pc := 131) (x := (31 * z32238)) (y := z34823) dX12_through_131 ?_
            refine la_128 (pc := 132) dX12_through_132 (A_128 hw) T34828 (rIx (n := 403) (rAdd (e := 1) (f := 370) (rMulL (n := 31) (e := 0) (f := 341) h32240 rfl) h34899 rfl) rfl) fun z34904 q34905 h34906 => ?_
            refine mr_istore (pc := 133) (lv' := [(11, iv z34904), (10, iv 1), (0, .ref 106), (2, iv p2), (3, iv p3), (4, iv p4), (5, iv z32216), (6, iv z32215), (7, iv (z32216 - 1)), (8, iv z32238), (9, iv z34823)]) dX12_through_133 (by decide) rfl ?_
            have L34957 : ∀ (nL34957 : Nat) (z34955 z34954 : Int) (μ34956 : mM), mT w μ34956 → mF [106026, 106027, 106028, 106029, 106030, 106031] w μ34824 μ34956 → (0 ≤ z34955 ∧ z34955 ≤ 1) → (0 ≤ z34954 ∧ z34954 ≤ 300) → JC l D c H0 sa μ34956 → PK μ34956 → (301 - z34954) < (nL34957 : Int) → sV (gG l D c H0 sa) mX12_through (sRm 6 0 0) (sZ (gG l D c H0 sa) 0 0 (qI w [106026, 106027, 106028, 106029, 106030, 106031, 126999, 151999, 152999, 153999] μ (fun z μ1 => ∃ o_x : Int, μ1 126 ((40 * p2).toNat) = o_x ∧ (0 ≤ z ∧ z ≤ 1) ∧ mG [(((40 * p2) + 1), ((40 * p2) + 40))] μ μ1 ∧ JC l D c H0 sa μ1 ∧ (o_x = f_x) ∧ True))) 135 [(0, .ref 106), (2, iv p2), (3, iv p3), (4, iv p4), (5, iv z32216), (6, iv z32215), (7, iv (z32216 - 1)), (8, iv z32238), (9, iv z34823), (10, iv z34955), (11, iv z34954)] [] (mk w μ34956) 0 0 := by
              intro nL34957
              induction nL34957 with
              | zero => intro z34955 z34954 μ34956 T34960 F34961 h34958 h34959 I34963 I34964 h34965; exact ((vc_X12_through_39 h34965 h34959)).elim
              | succ nL34957 ih34966 =>
                intro z34955 z34954 μ34956 T34960 F34961 h34958 h34959 I34963 I34964 h34965
                refine mr_iload (pc := 135) (z := z34954) dX12_through_135 rfl ?_
                refine sv_aload_n (pc := 137) dX12_through_137 rfl rfl ?_
                refine gf_X12_41 (pc := 138) dX12_through_138 wF_X12_361 (A_106 hw) T34960 ?_
                refine mr_bipush (pc := 141) (z := 31) dX12_through_141 (by decide) ?_
                refine mr_iload (pc := 143) (z := z32238) dX12_through_143 rfl ?_
                refine mr_imul (pc := 145) (x := 31) (y := z32238) dX12_through_145 ?_
                refine mr_iload (pc := 146) (z := z34823) dX12_through_146 rfl ?_
                refine mr_iadd (pc := 148) (x := (31 * z32238)) (y := z34823) dX12_through_148 ?_
                refine mr_iconst (pc := 149) (z := 1) dX12_through_149 ?_
                refine mr_iadd (pc := 150) (x := ((31 * z32238) + z34823)) (y := 1) dX12_through_150 ?_
                refine la_128 (pc := 151) dX12_through_151 (A_128 hw) T34960 (rIx (n := 403) (rAdd (e := 2) (f := 371) (rAdd (e := 1) (f := 370) (rMulL (n := 31) (e := 0) (f := 341) h32240 rfl) h34899 rfl) (rR (x := 1)) rfl) rfl) fun z34967 q34968 h34969 => ?_
                refine mr_icmp_ge (pc := 152) (tgt := 187) dX12_through_152 (by decide) (r32 h34959 rfl) (r32 h34969 rfl) (fun h34979 => ?_) (fun h34979 => ?_)
                · refine mr_iload (pc := 187) (z := z34955) dX12_through_187 rfl ?_
                  refine mr_if_ne (pc := 189) (tgt := 100) dX12_through_189 (by decide) (r32 h34958 rfl) (fun h34980 => ?_) (fun h34980 => ?_)
                  · have h34981 : 1 ≤ z34955 ∧ z34955 ≤ 1 := (vc_X12_ring_24 h34980 h34958)
                    refine mr_lvS (lv' := [(0, .ref 106), (2, iv p2), (3, iv p3), (4, iv p4), (5, iv z32216), (6, iv z32215), (7, iv (z32216 - 1)), (8, iv z32238), (9, iv z34823), (10, iv z34955)]) (List.forall_mem_cons.mpr ⟨rfl, List.forall_mem_cons.mpr ⟨rfl, List.forall_mem_cons.mpr ⟨rfl, List.forall_mem_cons.mpr ⟨rfl, List.forall_mem_cons.mpr ⟨rfl, List.forall_mem_cons.mpr ⟨rfl, List.forall_mem_cons.mpr ⟨rfl, List.forall_mem_cons.mpr ⟨rfl, List.forall_mem_cons.mpr ⟨rfl, List.forall_mem_cons.mpr ⟨rfl, fun _ h => absurd h List.not_mem_nil⟩⟩⟩⟩⟩⟩⟩⟩⟩⟩) ?_
                    exact ih34836 z34823 z34955 μ34956 T34960 (mF.call (mF.call mF.refl F34829 rfl) F34961 rfl) (rW (c := 1) (d := 30) h34899 rfl) (rW (c := 0) (d := 1) h34981 rfl) (vc_X12_through_118 h32251 h32251.1 h34831 h34832 h34898 h34980 h32253 h34901 h32221 h34100 h34900 h34903 h34899 h34981) (vc_X12_through_119 h32251 h34831 h34832 h34898 h32251.1 h32253 h34901 h32221 h34100 h34900 h34903 h34899) I34963 I34964 (vc_X12_through_120 (nS h34835) h34831 h34832 h34898 h34901 h34980 h32251 h32251.1 h32221 h34100 h34900 h34903 h34899 h34981)
                  have h34982 : 0 ≤ z34955 ∧ z34955 ≤ 0 := (vc_X12_ring_22 h34980 h34958)
                  refine mr_iinc (pc := 192) (lv' := [(9, iv (z34823 + 1)), (0, .ref 106), (2, iv p2), (3, iv p3), (4, iv p4), (5, iv z32216), (6, iv z32215), (7, iv (z32216 - 1)), (8, iv z32238), (10, iv z34955), (11, iv z34954)]) dX12_through_192 rfl (by decide) rfl ?_
                  refine sv_goto (pc := 195) (tgt := 100) dX12_through_195 (by decide) ?_
                  refine mr_lvS (lv' := [(0, .ref 106), (2, iv p2), (3, iv p3), (4, iv p4), (5, iv z32216), (6, iv z32215), (7, iv (z32216 - 1)), (8, iv z32238), (9, iv (z34823 + 1)), (10, iv z34955)]) (List.forall_mem_cons.mpr ⟨rfl, List.forall_mem_cons.mpr ⟨rfl, List.forall_mem_cons.mpr ⟨rfl, List.forall_mem_cons.mpr ⟨rfl, List.forall_mem_cons.mpr ⟨rfl, List.forall_mem_cons.mpr ⟨rfl, List.forall_mem_cons.mpr ⟨rfl, List.forall_mem_cons.mpr ⟨rfl, List.forall_mem_cons.mpr ⟨rfl, List.forall_mem_cons.mpr ⟨rfl, fun _ h => absurd h List.not_mem_nil⟩⟩⟩⟩⟩⟩⟩⟩⟩⟩) ?_
                  exact ih34836 (z34823 + 1) z34955 μ34956 T34960 (mF.call (mF.call mF.refl F34829 rfl) F34961 rfl) (rW (c := 1) (d := 30) (rAdd (e := 2) (f := 30) h34899 (rR (x := 1)) rfl) rfl) (rW (c := 0) (d := 1) h34982 rfl) (vc_X12_through_122 h32251 h32251.1 h34831 h34832 h34898 h34980 h32253 h34901 h32221 h34100 h34900 h34903 h34899 h34982) (vc_X12_through_123 h32251 h34831 h34832 h34898 h32251.1 h32253 h34901 h32221 h34100 h34900 h34903 h34899) I34963 I34964 (vc_X12_through_124 (nS h34835) h34831 h34832 h34898 h34901 h34980 h32251 h32251.1 h32221 h34100 h34900 h34903 h34899 h34982)
                have h34983 : 0 ≤ z34954 ∧ z34954 ≤ 299 := (vc_X12_through_48 h34979 h34959 h34969)
                have h34984 : 1 ≤ z34967 ∧ z34967 ≤ 300 := (vc_X12_through_49 h34979 h34983 h34969)
                refine mr_iload (pc := 155) (z := z34955) dX12_through_155 rfl ?_
                refine mr_if_eq (pc := 157) (tgt := 187) dX12_through_157 (by decide) (r32 h34958 rfl) (fun h34992 => ?_) (fun h34992 => ?_)
                · have h34993 : 0 ≤ z34955 ∧ z34955 ≤ 0 := (vc_X12_ring_22 h34992 h34958)
                  refine mr_iload (pc := 187) (z := z34955) dX12_through_187 rfl ?_
                  refine mr_if_ne (pc := 189) (tgt := 100) dX12_through_189 (by decide) (r32 h34993 rfl) (fun h => ((vc_X10_firstWrongStep_7 h h34993)).elim) (fun _ => ?_)
                  refine mr_iinc (pc := 192) (lv' := [(9, iv (z34823 + 1)), (0, .ref 106), (2, iv p2), (3, iv p3), (4, iv p4), (5, iv z32216), (6, iv z32215), (7, iv (z32216 - 1)), (8, iv z32238), (10, iv z34955), (11, iv z34954)]) dX12_through_192 rfl (by decide) rfl ?_
                  refine sv_goto (pc := 195) (tgt := 100) dX12_through_195 (by decide) ?_
                  refine mr_lvS (lv' := [(0, .ref 106), (2, iv p2), (3, iv p3), (4, iv p4), (5, iv z32216), (6, iv z32215), (7, iv (z32216 - 1)), (8, iv z32238), (9, iv (z34823 + 1)), (10, iv z34955)]) (List.forall_mem_cons.mpr ⟨rfl, List.forall_mem_cons.mpr ⟨rfl, List.forall_mem_cons.mpr ⟨rfl, List.forall_mem_cons.mpr ⟨rfl, List.forall_mem_cons.mpr ⟨rfl, List.forall_mem_cons.mpr ⟨rfl, List.forall_mem_cons.mpr ⟨rfl, List.forall_mem_cons.mpr ⟨rfl, List.forall_mem_cons.mpr ⟨rfl, List.forall_mem_cons.mpr ⟨rfl, fun _ h => absurd h List.not_mem_nil⟩⟩⟩⟩⟩⟩⟩⟩⟩⟩) ?_
                  exact ih34836 (z34823 + 1) z34955 μ34956 T34960 (mF.call (mF.call mF.refl F34829 rfl) F34961 rfl) (rW (c := 1) (d := 30) (rAdd (e := 2) (f := 30) h34899 (rR (x := 1)) rfl) rfl) (rW (c := 0) (d := 1) h34993 rfl) (vc_X12_through_122 h32251 h32251.1 h34831 h34832 h34898 h34992 h32253 h34901 h32221 h34100 h34900 h34903 h34899 h34993) (vc_X12_through_123 h32251 h34831 h34832 h34898 h32251.1 h32253 h34901 h32221 h34100 h34900 h34903 h34899) I34963 I34964 (vc_X12_through_124 (nS h34835) h34831 h34832 h34898 h34901 h34992 h32251 h32251.1 h32221 h34100 h34900 h34903 h34899 h34993)
                have h34994 : 1 ≤ z34955 ∧ z34955 ≤ 1 := (vc_X12_ring_24 h34992 h34958)
                refine sv_aload_n (pc := 160) dX12_through_160 rfl rfl ?_
                refine mr_iload (pc := 161) (z := z32238) dX12_through_161 rfl ?_
                refine mr_sipush (pc := 163) (z := 300) dX12_through_163 (by decide) ?_
                refine mr_iload (pc := 166) (z := z32238) dX12_through_166 rfl ?_
                refine mr_imul (pc := 168) (x := 300) (y := z32238) dX12_through_168 ?_
                refine mr_iload (pc := 169) (z := z34954) dX12_through_169 rfl ?_
                refine mr_iadd (pc := 171) (x := (300 * z32238)) (y := z34954) dX12_through_171 ?_
                refine mr_iload_n (pc := 172) (z := p2) dX12_through_172 rfl rfl ?_
                refine mr_iload_n (pc := 173) (z := p3) dX12_through_173 rfl rfl ?_
                refine mr_iload (pc := 174) (z := p4) dX12_through_174 rfl ?_
                refine mr_cVI (pc := 176) (c_X12_isSo_u hw T34960 h32240 (rW (c := 0) (d := 3899) (rAdd (e := 0) (f := 3599) (rMulL (n := 300) (e := 0) (f := 3300) h32240 rfl) h34983 rfl) rfl) hp2 hp3 hp4 hg1 (F34961.f (A_110 hw) rfl (F34829.f (A_110 hw) rfl (F32223.f (A_110 hw) rfl (u17813.f (Or.inl (mAt.ne (A_153 hw) (A_110 hw) rfl)) (u17810.f (Or.inl (mAt.ne (A_152 hw) (A_110 hw) rfl)) (u17807.f (Or.inl (mAt.ne (A_151 hw) (A_110 hw) rfl)) q_f_e0)))))) (F34961.f (A_110 hw) rfl (F34829.f (A_110 hw) rfl (F32223.f (A_110 hw) rfl (u17813.f (Or.inl (mAt.ne (A_153 hw) (A_110 hw) rfl)) (u17810.f (Or.inl (mAt.ne (A_152 hw) (A_110 hw) rfl)) (u17807.f (Or.inl (mAt.ne (A_151 hw) (A_110 hw) rfl)) q_f_e1)))))) (F34961.f (A_106 hw) rfl (F34829.f (A_106 hw) rfl (F32223.f (A_106 hw) rfl (u17813.f (Or.inl (mAt.ne (A_153 hw) (A_106 hw) rfl)) (u17810.f (Or.inl (mAt.ne (A_152 hw) (A_106 hw) rfl)) (u17807.f (Or.inl (mAt.ne (A_151 hw) (A_106 hw) rfl)) q_f_ties)))))) (F34961.f (A_126 hw) rfl (F34829.f (A_126 hw) rfl q32231)) (F34961.f (A_106 hw) rfl (F34829.f (A_106 hw) rfl (F32223.f (A_106 hw) rfl (u17813.f (Or.inl (mAt.ne (A_153 hw) (A_106 hw) rfl)) (u17810.f (Or.inl (mAt.ne (A_152 hw) (A_106 hw) rfl)) (u17807.f (Or.inl (mAt.ne (A_151 hw) (A_106 hw) rfl)) q_f_pre)))))) (vc_X12_tieWord_2 hq0 h2 hg1) (vc_X12_tieWord_3 hq1 ht_f_e0 ht_f_e1 hp3 hp4) (vc_X12_through_u_54 h32225 hq2 hq4 h4 h3 h32234) (vc_X12_through_u_55 hq4 h32225 hq2 h4 h3 h32234) I34963) (gOk _ _ _ _ _) dX12_through_176 (tX12_isSo _ _ _ _ _) ⟨wV_X12_isSo, wL_X12_isSo⟩ wM_X12_397 (gCX12 _ _ _ _ _) rfl (A_106 hw) rfl ⟨le_t rfl, le_t rfl⟩ ⟨le_t rfl, le_t rfl⟩ rfl (le_t rfl) fun z34999 μ34995 T34996 F34997 h34998 => ?_
                refine mr_istore (pc := 179) (lv' := [(10, iv z34999), (0, .ref 106), (2, iv p2), (3, iv p3), (4, iv p4), (5, iv z32216), (6, iv z32215), (7, iv (z32216 - 1)), (8, iv z32238), (9, iv z34823), (11, iv z34954)]) dX12_through_179 (by decide) rfl ?_
                refine mr_iinc (pc := 181) (lv' := [(11, iv (z34954 + 1)), (10, iv z34999), (0, .ref 106), (2, iv p2), (3, iv p3), (4, iv p4), (5, iv z32216), (6, iv z32215), (7, iv (z32216 - 1)), (8, iv z32238), (9, iv z34823)]) dX12_through_181 rfl (by decide) rfl ?_
                refine sv_goto (pc := 184) (tgt := 135) dX12_through_184 (by decide) ?_
                refine mr_lvS (lv' := [(0, .ref 106), (2, iv p2), (3, iv p3), (4, iv p4), (5, iv z32216), (6, iv z32215), (7, iv (z32216 - 1)), (8, iv z32238), (9, iv z34823), (10, iv z34999), (11, iv (z34954 + 1))]) (List.forall_mem_cons.mpr ⟨rfl, List.forall_mem_cons.mpr ⟨rfl, List.forall_mem_cons.mpr ⟨rfl, List.forall_mem_cons.mpr ⟨rfl, List.forall_mem_cons.mpr ⟨rfl, List.forall_mem_cons.mpr ⟨rfl, List.forall_mem_cons.mpr ⟨rfl, List.forall_mem_cons.mpr ⟨rfl, List.forall_mem_cons.mpr ⟨rfl, List.forall_mem_cons.mpr ⟨rfl, List.forall_mem_cons.mpr ⟨rfl, fun _ h => absurd h List.not_mem_nil⟩⟩⟩⟩⟩⟩⟩⟩⟩⟩⟩) ?_
                exact ih34966 z34999 (z34954 + 1) μ34995 T34996 (mF.call (mF.call mF.refl F34961 rfl) F34997 rfl) h34998.1 (rW (c := 0) (d := 300) (rAdd (e := 1) (f := 300) h34983 (rR (x := 1)) rfl) rfl) h34998.2.1 (PK.keep I34964 hw ((mF.call mF.refl F34997 rfl) : mF [106026, 106027, 106028, 106029, 106030, 106031] w μ34956 μ34995) rfl) (vc_X12_through_54 (nS h34965) h34979 h34983 h34984)
            refine mr_lvS (lv' := [(0, .ref 106), (2, iv p2), (3, iv p3), (4, iv p4), (5, iv z32216), (6, iv z32215), (7, iv (z32216 - 1)), (8, iv z32238), (9, iv z34823), (10, iv 1), (11, iv z34904)]) (List.forall_mem_cons.mpr ⟨rfl, List.forall_mem_cons.mpr ⟨rfl, List.forall_mem_cons.mpr ⟨rfl, List.forall_mem_cons.mpr ⟨rfl, List.forall_mem_cons.mpr ⟨rfl, List.forall_mem_cons.mpr ⟨rfl, List.forall_mem_cons.mpr ⟨rfl, List.forall_mem_cons.mpr ⟨rfl, List.forall_mem_cons.mpr ⟨rfl, List.forall_mem_cons.mpr ⟨rfl, List.forall_mem_cons.mpr ⟨rfl, fun _ h => absurd h List.not_mem_nil⟩⟩⟩⟩⟩⟩⟩⟩⟩⟩⟩) ?_
            exact L34957 302 1 z34904 μ34824 T34828 mF.refl (rW (c := 0) (d := 1) (rR (x := 1)) rfl) h34906 I34833 I34834 (vc_X12_through_55 h34906)
        refine mr_lvS (lv' := [(0, .ref 106), (2, iv p2), (3, iv p3), (4, iv p4), (5, iv z32216), (6, iv z32215), (7, iv (z32216 - 1)), (8, iv z32238), (9, iv (z32242 + 1)), (10, iv 0)]) (List.forall_mem_cons.mpr ⟨rfl, List.forall_mem_cons.mpr ⟨rfl, List.forall_mem_cons.mpr ⟨rfl, List.forall_mem_cons.mpr ⟨rfl, List.forall_mem_cons.mpr ⟨rfl, List.forall_mem_cons.mpr ⟨rfl, List.forall_mem_cons.mpr ⟨rfl, List.forall_mem_cons.mpr ⟨rfl, List.forall_mem_cons.mpr ⟨rfl, List.forall_mem_cons.mpr ⟨rfl, fun _ h => absurd h List.not_mem_nil⟩⟩⟩⟩⟩⟩⟩⟩⟩⟩) ?_
        exact L34825 69 (z32242 + 1) 0 μ32217 T32222 mF.refl (rAdd (e := 1) (f := 30) h34100 (rR (x := 1)) rfl) (rW (c := 0) (d := 1) (rR (x := 0)) rfl) (vc_X12_through_130 h32251 h32251.1 h32253 h32221 h34100 h32247) (vc_X12_through_131 h32251 h32251.1 h32253 h32221 h34100 h32247) I32226 I32227 (vc_X12_through_132 h32251 h32251.1 h32253 h32221 h34100 h32247)
    refine mr_lvS (lv' := [(0, .ref 106), (2, iv p2), (3, iv p3), (4, iv p4), (5, iv 1), (6, iv 0)]) (List.forall_mem_cons.mpr ⟨rfl, List.forall_mem_cons.mpr ⟨rfl, List.forall_mem_cons.mpr ⟨rfl, List.forall_mem_cons.mpr ⟨rfl, List.forall_mem_cons.mpr ⟨rfl, List.forall_mem_cons.mpr ⟨rfl, fun _ h => absurd h List.not_mem_nil⟩⟩⟩⟩⟩⟩) ?_
    exact L32218 50136 1 0 (-1) μ17812 f_x T17814 mF.refl mG.refl (u17813.f (Or.inl (mAt.ne (A_153 hw) (A_126 hw) rfl)) (u17810.f (Or.inl (mAt.ne (A_152 hw) (A_126 hw) rfl)) (u17807.f (Or.inl (mAt.ne (A_151 hw) (A_126 hw) rfl)) q_f_x))) (rW (c := 0) (d := 12) (rR (x := 1)) rfl) (rW (c := 0) (d := 500) (rR (x := 0)) rfl) (rW (c := (-1)) (d := 30) (rR (x := (-1))) rfl) (vc_X12_through_u_137 hq2 hq4 h4 h3) (JC.keepJ hIJC hw ((mF.up (mF.up (mF.up mF.refl (A_151 hw) u17807 rfl) (A_152 hw) u17810 rfl) (A_153 hw) u17813 rfl) : mF [151999, 152999, 153999] w μ μ17812) rfl) (PK.keep hIPK hw ((mF.up (mF.up (mF.up mF.refl (A_151 hw) u17807 rfl) (A_152 hw) u17810 rfl) (A_153 hw) u17813 rfl) : mF [151999, 152999, 153999] w μ μ17812) rfl) (lvOK.pred I17818 vc_X12_through_136) (Or.inr (eqIx vc_X12_through_133 (u17813.f (Or.inl (mAt.ne (A_153 hw) (A_152 hw) rfl)) u17810.1))) vc_X12_through_135
  have h35000 : (-99999999) ≤ p1 ∧ p1 ≤ (-99999999) := (vc_X12_through_137 h17805 hq3 ht_f_pol hp1)
  refine mr_iconst (pc := 6) (z := 1) dX12_through_6 ?_
  exact mr_zret dX12_through_7 rfl (rW (c := 0) (d := 1) (rR (x := 1)) rfl) (le_t rfl) (le_t rfl) hT mF.refl ⟨f_x, q_f_x, (rW (c := 0) (d := 1) (rR (x := 1)) rfl), mG.refl, hIJC, (vc_X12_through_u_137 hq2 hq4 h4 h3), trivial⟩
theorem vc_X12_say_u_2 {f_pre p3 : Int} (h0 : p3 < f_pre) (h1 : 0 ≤ f_pre ∧ f_pre ≤ 10) (h2 : 0 ≤ p3 ∧ p3 ≤ 9) : 1 ≤ f_pre ∧ f_pre ≤ 10 := by omega
theorem vc_X12_say_u_3 {f_up : Int} (h0 : 0 < f_up) (h1 : 0 ≤ f_up ∧ f_up ≤ 1) : 1 ≤ f_up ∧ f_up ≤ 1 := by omega
theorem vc_X12_say_u_4 {f_e0 f_pre f_ties p1 p2 p3 z767 z772 : Int} (h0 : z772 = (((20 * p2) + (10 * z767)) + p3)) (h1 : p2 < f_ties) (h2 : p3 < f_pre) (h3 : (z767 = 0 → f_e0 = p1)) (h4 : (z767 = 1 → ¬ f_e0 = p1)) (h5 : 0 ≤ f_e0 ∧ f_e0 ≤ 9) (h6 : 1 ≤ f_pre ∧ f_pre ≤ 10) (h7 : 1 ≤ f_ties ∧ f_ties ≤ 20) (h8 : 0 ≤ p1 ∧ p1 ≤ 9) (h9 : 0 ≤ p2 ∧ p2 ≤ 19) (h10 : 0 ≤ p3 ∧ p3 ≤ 9) (h11 : 0 ≤ z767 ∧ z767 ≤ 1) (h12 : 0 ≤ z772 ∧ z772 ≤ 449) : 0 ≤ z772 ∧ z772 ≤ 399 := by omega
theorem vc_X12_say_u_5  : (0 : Int) ≤ ((40 : Int) * (2 : Int)) := by omega
theorem vc_X12_say_u_6  : (((40 : Int) * (2 : Int)) : Int) % (40 : Int) = (0 : Int) := by omega
theorem vc_X12_say_u_9 {f_e0 f_e1 f_pre f_ties p1 p2 p3 z767 z772 : Int} (h0 : f_e0 = p1 ∨ f_e1 = p1) (h1 : p3 < f_pre) (h2 : (z767 = 0 → f_e0 = p1)) (h3 : (z767 = 1 → ¬ f_e0 = p1)) (h4 : z772 = (((20 * p2) + (10 * z767)) + p3)) (h5 : p2 < f_ties) (h6 : 0 ≤ f_e0 ∧ f_e0 ≤ 9) (h7 : 0 ≤ f_e1 ∧ f_e1 ≤ 9) (h8 : 1 ≤ f_pre ∧ f_pre ≤ 10) (h9 : 1 ≤ f_ties ∧ f_ties ≤ 20) (h10 : 0 ≤ p1 ∧ p1 ≤ 9) (h11 : 0 ≤ p2 ∧ p2 ≤ 19) (h12 : 0 ≤ p3 ∧ p3 ≤ 9) (h13 : 0 ≤ z767 ∧ z767 ≤ 1) (h14 : 0 ≤ z772 ∧ z772 ≤ 399) : 0 ≤ (40 * (30 + ((10 * p1) + p3))) := by omega
theorem vc_X12_say_u_10 {f_e0 f_e1 f_pre f_ties p1 p2 p3 z767 z772 : Int} (h0 : f_e0 = p1 ∨ f_e1 = p1) (h1 : p3 < f_pre) (h2 : (z767 = 0 → f_e0 = p1)) (h3 : (z767 = 1 → ¬ f_e0 = p1)) (h4 : z772 = (((20 * p2) + (10 * z767)) + p3)) (h5 : p2 < f_ties) (h6 : 0 ≤ f_e0 ∧ f_e0 ≤ 9) (h7 : 0 ≤ f_e1 ∧ f_e1 ≤ 9) (h8 : 1 ≤ f_pre ∧ f_pre ≤ 10) (h9 : 1 ≤ f_ties ∧ f_ties ≤ 20) (h10 : 0 ≤ p1 ∧ p1 ≤ 9) (h11 : 0 ≤ p2 ∧ p2 ≤ 19) (h12 : 0 ≤ p3 ∧ p3 ≤ 9) (h13 : 0 ≤ z767 ∧ z767 ≤ 1) (h14 : 0 ≤ z772 ∧ z772 ≤ 399) : (40 * (30 + ((10 * p1) + p3))) % 40 = 0 := by omega
theorem vc_X12_say_u_11  : ((40 : Int) * (2 : Int)) ≤ ((40 : Int) * (2 : Int)) ∧ (((40 : Int) * (2 : Int)) + (1 : Int)) ≤ (((40 : Int) * (2 : Int)) + (1 : Int)) := by omega
theorem vc_X12_say_u_12  : ((1 : Int) ≤ (((40 : Int) * (2 : Int)) : Int) ∧ ((((40 : Int) * (2 : Int)) + (1 : Int)) : Int) ≤ (1200 : Int)) ∨ (5200 : Int) ≤ (((40 : Int) * (2 : Int)) : Int) := by omega
theorem vc_X12_say_u_13 {f_e0 f_e1 f_pre f_ties p1 p2 p3 z767 z772 : Int} (h0 : f_e0 = p1 ∨ f_e1 = p1) (h1 : p3 < f_pre) (h2 : (z767 = 0 → f_e0 = p1)) (h3 : (z767 = 1 → ¬ f_e0 = p1)) (h4 : z772 = (((20 * p2) + (10 * z767)) + p3)) (h5 : p2 < f_ties) (h6 : 0 ≤ f_e0 ∧ f_e0 ≤ 9) (h7 : 0 ≤ f_e1 ∧ f_e1 ≤ 9) (h8 : 1 ≤ f_pre ∧ f_pre ≤ 10) (h9 : 1 ≤ f_ties ∧ f_ties ≤ 20) (h10 : 0 ≤ p1 ∧ p1 ≤ 9) (h11 : 0 ≤ p2 ∧ p2 ≤ 19) (h12 : 0 ≤ p3 ∧ p3 ≤ 9) (h13 : 0 ≤ z767 ∧ z767 ≤ 1) (h14 : 0 ≤ z772 ∧ z772 ≤ 399) : (40 * (30 + ((10 * p1) + p3))) = 1200 + 40 * ((10 * p1) + p3) := by omega
theorem vc_X12_say_u_16 {f_e0 f_pre f_ties p1 p2 p3 z767 z772 : Int} (h0 : z772 = (((20 * p2) + (10 * z767)) + p3)) (h1 : p2 < f_ties) (h2 : p3 < f_pre) (h3 : (z767 = 0 → f_e0 = p1)) (h4 : (z767 = 1 → ¬ f_e0 = p1)) (h5 : 0 ≤ f_e0 ∧ f_e0 ≤ 9) (h6 : 1 ≤ f_pre ∧ f_pre ≤ 10) (h7 : 1 ≤ f_ties ∧ f_ties ≤ 20) (h8 : 0 ≤ p1 ∧ p1 ≤ 9) (h9 : 0 ≤ p2 ∧ p2 ≤ 19) (h10 : 0 ≤ p3 ∧ p3 ≤ 9) (h11 : 0 ≤ z767 ∧ z767 ≤ 1) (h12 : 0 ≤ z772 ∧ z772 ≤ 399) : (2 : Int) < (530 + z772) ∨ (530 + z772) < (2 : Int) := by omega
theorem vc_X12_say_u_17  : ((2 : Int) : Int) ≤ (1399 : Int) := by omega
theorem vc_X12_say_u_18 {f_e0 f_pre f_ties p1 p2 p3 z767 z772 : Int} (h0 : z772 = (((20 * p2) + (10 * z767)) + p3)) (h1 : p2 < f_ties) (h2 : p3 < f_pre) (h3 : (z767 = 0 → f_e0 = p1)) (h4 : (z767 = 1 → ¬ f_e0 = p1)) (h5 : 0 ≤ f_e0 ∧ f_e0 ≤ 9) (h6 : 1 ≤ f_pre ∧ f_pre ≤ 10) (h7 : 1 ≤ f_ties ∧ f_ties ≤ 20) (h8 : 0 ≤ p1 ∧ p1 ≤ 9) (h9 : 0 ≤ p2 ∧ p2 ≤ 19) (h10 : 0 ≤ p3 ∧ p3 ≤ 9) (h11 : 0 ≤ z767 ∧ z767 ≤ 1) (h12 : 0 ≤ z772 ∧ z772 ≤ 399) : ¬ (530 + z772) = 24 := by omega
theorem vc_X12_say_u_19 {f_pre p2 p3 z767 z772 : Int} (h0 : p3 < f_pre) (h1 : z772 = (((20 * p2) + (10 * z767)) + p3)) (h2 : 1 ≤ f_pre ∧ f_pre ≤ 10) (h3 : 0 ≤ p2 ∧ p2 ≤ 19) (h4 : 0 ≤ p3 ∧ p3 ≤ 9) (h5 : 0 ≤ z767 ∧ z767 ≤ 1) (h6 : 0 ≤ z772 ∧ z772 ≤ 399) : ¬ (2 : Int) = 24 ∨ 0 < f_pre := by omega
theorem vc_X12_say_u_20 {f_e0 f_pre f_ties p1 p2 p3 z767 z772 : Int} (h0 : z772 = (((20 * p2) + (10 * z767)) + p3)) (h1 : p2 < f_ties) (h2 : p3 < f_pre) (h3 : (z767 = 0 → f_e0 = p1)) (h4 : (z767 = 1 → ¬ f_e0 = p1)) (h5 : 0 ≤ f_e0 ∧ f_e0 ≤ 9) (h6 : 1 ≤ f_pre ∧ f_pre ≤ 10) (h7 : 1 ≤ f_ties ∧ f_ties ≤ 20) (h8 : 0 ≤ p1 ∧ p1 ≤ 9) (h9 : 0 ≤ p2 ∧ p2 ≤ 19) (h10 : 0 ≤ p3 ∧ p3 ≤ 9) (h11 : 0 ≤ z767 ∧ z767 ≤ 1) (h12 : 0 ≤ z772 ∧ z772 ≤ 399) : 0 ≤ (40 * (530 + z772)) := by omega
theorem vc_X12_say_u_21 {f_e0 f_pre f_ties p1 p2 p3 z767 z772 : Int} (h0 : z772 = (((20 * p2) + (10 * z767)) + p3)) (h1 : p2 < f_ties) (h2 : p3 < f_pre) (h3 : (z767 = 0 → f_e0 = p1)) (h4 : (z767 = 1 → ¬ f_e0 = p1)) (h5 : 0 ≤ f_e0 ∧ f_e0 ≤ 9) (h6 : 1 ≤ f_pre ∧ f_pre ≤ 10) (h7 : 1 ≤ f_ties ∧ f_ties ≤ 20) (h8 : 0 ≤ p1 ∧ p1 ≤ 9) (h9 : 0 ≤ p2 ∧ p2 ≤ 19) (h10 : 0 ≤ p3 ∧ p3 ≤ 9) (h11 : 0 ≤ z767 ∧ z767 ≤ 1) (h12 : 0 ≤ z772 ∧ z772 ≤ 399) : (40 * (530 + z772)) % 40 = 0 := by omega
theorem vc_X12_say_u_22 {f_e0 f_pre f_ties p1 p2 p3 z767 z772 : Int} (h0 : z772 = (((20 * p2) + (10 * z767)) + p3)) (h1 : p2 < f_ties) (h2 : p3 < f_pre) (h3 : (z767 = 0 → f_e0 = p1)) (h4 : (z767 = 1 → ¬ f_e0 = p1)) (h5 : 0 ≤ f_e0 ∧ f_e0 ≤ 9) (h6 : 1 ≤ f_pre ∧ f_pre ≤ 10) (h7 : 1 ≤ f_ties ∧ f_ties ≤ 20) (h8 : 0 ≤ p1 ∧ p1 ≤ 9) (h9 : 0 ≤ p2 ∧ p2 ≤ 19) (h10 : 0 ≤ p3 ∧ p3 ≤ 9) (h11 : 0 ≤ z767 ∧ z767 ≤ 1) (h12 : 0 ≤ z772 ∧ z772 ≤ 399) : (40 * 2) < (40 * (530 + z772)) ∨ ((40 * (530 + z772)) + 40) ≤ (40 * 2) := by omega
theorem vc_X12_say_u_23 {f_e0 f_pre f_ties p1 p2 p3 z767 z772 : Int} (h0 : z772 = (((20 * p2) + (10 * z767)) + p3)) (h1 : p2 < f_ties) (h2 : p3 < f_pre) (h3 : (z767 = 0 → f_e0 = p1)) (h4 : (z767 = 1 → ¬ f_e0 = p1)) (h5 : 0 ≤ f_e0 ∧ f_e0 ≤ 9) (h6 : 1 ≤ f_pre ∧ f_pre ≤ 10) (h7 : 1 ≤ f_ties ∧ f_ties ≤ 20) (h8 : 0 ≤ p1 ∧ p1 ≤ 9) (h9 : 0 ≤ p2 ∧ p2 ≤ 19) (h10 : 0 ≤ p3 ∧ p3 ≤ 9) (h11 : 0 ≤ z767 ∧ z767 ≤ 1) (h12 : 0 ≤ z772 ∧ z772 ≤ 399) : (2 : Int) < (930 + z772) ∨ (930 + z772) < (2 : Int) := by omega
theorem vc_X12_say_u_24 {f_e0 f_pre f_ties p1 p2 p3 z767 z772 : Int} (h0 : z772 = (((20 * p2) + (10 * z767)) + p3)) (h1 : p2 < f_ties) (h2 : p3 < f_pre) (h3 : (z767 = 0 → f_e0 = p1)) (h4 : (z767 = 1 → ¬ f_e0 = p1)) (h5 : 0 ≤ f_e0 ∧ f_e0 ≤ 9) (h6 : 1 ≤ f_pre ∧ f_pre ≤ 10) (h7 : 1 ≤ f_ties ∧ f_ties ≤ 20) (h8 : 0 ≤ p1 ∧ p1 ≤ 9) (h9 : 0 ≤ p2 ∧ p2 ≤ 19) (h10 : 0 ≤ p3 ∧ p3 ≤ 9) (h11 : 0 ≤ z767 ∧ z767 ≤ 1) (h12 : 0 ≤ z772 ∧ z772 ≤ 399) : ¬ (930 + z772) = 24 := by omega
theorem vc_X12_say_u_25 {f_e0 f_pre f_ties p1 p2 p3 z767 z772 : Int} (h0 : z772 = (((20 * p2) + (10 * z767)) + p3)) (h1 : p2 < f_ties) (h2 : p3 < f_pre) (h3 : (z767 = 0 → f_e0 = p1)) (h4 : (z767 = 1 → ¬ f_e0 = p1)) (h5 : 0 ≤ f_e0 ∧ f_e0 ≤ 9) (h6 : 1 ≤ f_pre ∧ f_pre ≤ 10) (h7 : 1 ≤ f_ties ∧ f_ties ≤ 20) (h8 : 0 ≤ p1 ∧ p1 ≤ 9) (h9 : 0 ≤ p2 ∧ p2 ≤ 19) (h10 : 0 ≤ p3 ∧ p3 ≤ 9) (h11 : 0 ≤ z767 ∧ z767 ≤ 1) (h12 : 0 ≤ z772 ∧ z772 ≤ 399) : 0 ≤ (40 * (930 + z772)) := by omega
theorem vc_X12_say_u_26 {f_e0 f_pre f_ties p1 p2 p3 z767 z772 : Int} (h0 : z772 = (((20 * p2) + (10 * z767)) + p3)) (h1 : p2 < f_ties) (h2 : p3 < f_pre) (h3 : (z767 = 0 → f_e0 = p1)) (h4 : (z767 = 1 → ¬ f_e0 = p1)) (h5 : 0 ≤ f_e0 ∧ f_e0 ≤ 9) (h6 : 1 ≤ f_pre ∧ f_pre ≤ 10) (h7 : 1 ≤ f_ties ∧ f_ties ≤ 20) (h8 : 0 ≤ p1 ∧ p1 ≤ 9) (h9 : 0 ≤ p2 ∧ p2 ≤ 19) (h10 : 0 ≤ p3 ∧ p3 ≤ 9) (h11 : 0 ≤ z767 ∧ z767 ≤ 1) (h12 : 0 ≤ z772 ∧ z772 ≤ 399) : (40 * (930 + z772)) % 40 = 0 := by omega
theorem vc_X12_say_u_27 {f_e0 f_pre f_ties p1 p2 p3 z767 z772 : Int} (h0 : z772 = (((20 * p2) + (10 * z767)) + p3)) (h1 : p2 < f_ties) (h2 : p3 < f_pre) (h3 : (z767 = 0 → f_e0 = p1)) (h4 : (z767 = 1 → ¬ f_e0 = p1)) (h5 : 0 ≤ f_e0 ∧ f_e0 ≤ 9) (h6 : 1 ≤ f_pre ∧ f_pre ≤ 10) (h7 : 1 ≤ f_ties ∧ f_ties ≤ 20) (h8 : 0 ≤ p1 ∧ p1 ≤ 9) (h9 : 0 ≤ p2 ∧ p2 ≤ 19) (h10 : 0 ≤ p3 ∧ p3 ≤ 9) (h11 : 0 ≤ z767 ∧ z767 ≤ 1) (h12 : 0 ≤ z772 ∧ z772 ≤ 399) : 0 ≤ z772 := by omega
theorem vc_X12_say_u_28 {f_e0 f_pre f_ties p1 p2 p3 z767 z772 : Int} (h0 : p3 < f_pre) (h1 : z772 = (((20 * p2) + (10 * z767)) + p3)) (h2 : p2 < f_ties) (h3 : (z767 = 0 → f_e0 = p1)) (h4 : (z767 = 1 → ¬ f_e0 = p1)) (h5 : 0 ≤ f_e0 ∧ f_e0 ≤ 9) (h6 : 1 ≤ f_pre ∧ f_pre ≤ 10) (h7 : 1 ≤ f_ties ∧ f_ties ≤ 20) (h8 : 0 ≤ p1 ∧ p1 ≤ 9) (h9 : 0 ≤ p2 ∧ p2 ≤ 19) (h10 : 0 ≤ p3 ∧ p3 ≤ 9) (h11 : 0 ≤ z767 ∧ z767 ≤ 1) (h12 : 0 ≤ z772 ∧ z772 ≤ 399) : z772 % 10 < f_pre := by omega
theorem vc_X12_say_u_29 {f_e0 f_pre f_ties p1 p2 p3 z767 z772 : Int} (h0 : p2 < f_ties) (h1 : z772 = (((20 * p2) + (10 * z767)) + p3)) (h2 : p3 < f_pre) (h3 : (z767 = 0 → f_e0 = p1)) (h4 : (z767 = 1 → ¬ f_e0 = p1)) (h5 : 0 ≤ f_e0 ∧ f_e0 ≤ 9) (h6 : 1 ≤ f_pre ∧ f_pre ≤ 10) (h7 : 1 ≤ f_ties ∧ f_ties ≤ 20) (h8 : 0 ≤ p1 ∧ p1 ≤ 9) (h9 : 0 ≤ p2 ∧ p2 ≤ 19) (h10 : 0 ≤ p3 ∧ p3 ≤ 9) (h11 : 0 ≤ z767 ∧ z767 ≤ 1) (h12 : 0 ≤ z772 ∧ z772 ≤ 399) : z772 / 20 = p2 := by omega
theorem vc_X12_say_u_30 {f_up : Int} (h0 : 0 < f_up) (h1 : 1 ≤ f_up ∧ f_up ≤ 1) : ¬ f_up = 0 := by omega
theorem vc_X12_say_u_31 {f_e0 f_pre f_ties p1 p2 p3 z767 z772 z910 z926 : Int} (h0 : p2 < f_ties) (h1 : z772 = (((20 * p2) + (10 * z767)) + p3)) (h2 : p3 < f_pre) (h3 : (z767 = 0 → f_e0 = p1)) (h4 : (z767 = 1 → ¬ f_e0 = p1)) (h5 : 0 ≤ f_e0 ∧ f_e0 ≤ 9) (h6 : 1 ≤ f_pre ∧ f_pre ≤ 10) (h7 : 1 ≤ f_ties ∧ f_ties ≤ 20) (h8 : 0 ≤ p1 ∧ p1 ≤ 9) (h9 : 0 ≤ p2 ∧ p2 ≤ 19) (h10 : 0 ≤ p3 ∧ p3 ≤ 9) (h11 : 0 ≤ z767 ∧ z767 ≤ 1) (h12 : 0 ≤ z772 ∧ z772 ≤ 399) (h13 : 0 ≤ z910 ∧ z910 ≤ 2000000000) (h14 : 0 ≤ z926 ∧ z926 ≤ 1000) : (z910 + z926) < 0 ∨ z772 < 20 * f_ties := by omega
theorem vc_X12_say_u_32  : (80 : Int) ≤ ((40 : Int) * (2 : Int)) ∧ (((40 : Int) * (2 : Int)) + (1 : Int)) ≤ (120 : Int) := by omega
theorem vc_X12_say_u_33  : (80 : Int) ≤ (80 : Int) ∧ (120 : Int) ≤ (120 : Int) := by omega
theorem vc_X12_say_u_34  : (21200 : Int) ≤ (21200 : Int) ∧ (53200 : Int) ≤ (53200 : Int) := by omega
theorem vc_X12_say_u_35 {f_e0 f_pre f_ties p1 p2 p3 z767 z772 : Int} (h0 : z772 = (((20 * p2) + (10 * z767)) + p3)) (h1 : p2 < f_ties) (h2 : p3 < f_pre) (h3 : (z767 = 0 → f_e0 = p1)) (h4 : (z767 = 1 → ¬ f_e0 = p1)) (h5 : 0 ≤ f_e0 ∧ f_e0 ≤ 9) (h6 : 1 ≤ f_pre ∧ f_pre ≤ 10) (h7 : 1 ≤ f_ties ∧ f_ties ≤ 20) (h8 : 0 ≤ p1 ∧ p1 ≤ 9) (h9 : 0 ≤ p2 ∧ p2 ≤ 19) (h10 : 0 ≤ p3 ∧ p3 ≤ 9) (h11 : 0 ≤ z767 ∧ z767 ≤ 1) (h12 : 0 ≤ z772 ∧ z772 ≤ 399) : 21200 ≤ (40 * (530 + z772)) ∧ ((40 * (530 + z772)) + 40) ≤ 53200 := by omega
theorem vc_X12_say_u_36 {f_e0 f_pre f_ties p1 p2 p3 z767 z772 : Int} (h0 : z772 = (((20 * p2) + (10 * z767)) + p3)) (h1 : p2 < f_ties) (h2 : p3 < f_pre) (h3 : (z767 = 0 → f_e0 = p1)) (h4 : (z767 = 1 → ¬ f_e0 = p1)) (h5 : 0 ≤ f_e0 ∧ f_e0 ≤ 9) (h6 : 1 ≤ f_pre ∧ f_pre ≤ 10) (h7 : 1 ≤ f_ties ∧ f_ties ≤ 20) (h8 : 0 ≤ p1 ∧ p1 ≤ 9) (h9 : 0 ≤ p2 ∧ p2 ≤ 19) (h10 : 0 ≤ p3 ∧ p3 ≤ 9) (h11 : 0 ≤ z767 ∧ z767 ≤ 1) (h12 : 0 ≤ z772 ∧ z772 ≤ 399) : 21200 ≤ (40 * (930 + z772)) ∧ ((40 * (930 + z772)) + 40) ≤ 53200 := by omega
theorem vc_X12_say_u_37 {f_e0 f_pre f_ties p1 p2 p3 z767 z772 : Int} (h0 : z772 = (((20 * p2) + (10 * z767)) + p3)) (h1 : p2 < f_ties) (h2 : p3 < f_pre) (h3 : (z767 = 0 → f_e0 = p1)) (h4 : (z767 = 1 → ¬ f_e0 = p1)) (h5 : 0 ≤ f_e0 ∧ f_e0 ≤ 9) (h6 : 1 ≤ f_pre ∧ f_pre ≤ 10) (h7 : 1 ≤ f_ties ∧ f_ties ≤ 20) (h8 : 0 ≤ p1 ∧ p1 ≤ 9) (h9 : 0 ≤ p2 ∧ p2 ≤ 19) (h10 : 0 ≤ p3 ∧ p3 ≤ 9) (h11 : 0 ≤ z767 ∧ z767 ≤ 1) (h12 : 0 ≤ z772 ∧ z772 ≤ 399) : (40 * (530 + z772)) ≤ (40 * (530 + z772)) ∧ ((40 * (530 + z772)) + 40) ≤ ((40 * (530 + z772)) + 40) := by omega
theorem vc_X12_say_u_38 {f_e0 f_pre f_ties p1 p2 p3 z767 z772 : Int} (h0 : z772 = (((20 * p2) + (10 * z767)) + p3)) (h1 : p2 < f_ties) (h2 : p3 < f_pre) (h3 : (z767 = 0 → f_e0 = p1)) (h4 : (z767 = 1 → ¬ f_e0 = p1)) (h5 : 0 ≤ f_e0 ∧ f_e0 ≤ 9) (h6 : 1 ≤ f_pre ∧ f_pre ≤ 10) (h7 : 1 ≤ f_ties ∧ f_ties ≤ 20) (h8 : 0 ≤ p1 ∧ p1 ≤ 9) (h9 : 0 ≤ p2 ∧ p2 ≤ 19) (h10 : 0 ≤ p3 ∧ p3 ≤ 9) (h11 : 0 ≤ z767 ∧ z767 ≤ 1) (h12 : 0 ≤ z772 ∧ z772 ≤ 399) : (40 * (930 + z772)) ≤ (40 * (930 + z772)) ∧ ((40 * (930 + z772)) + 40) ≤ ((40 * (930 + z772)) + 40) := by omega
theorem vc_X12_say_u_39 {f_e0 f_pre f_ties p1 p2 p3 z767 z772 : Int} (h0 : z772 = (((20 * p2) + (10 * z767)) + p3)) (h1 : p2 < f_ties) (h2 : p3 < f_pre) (h3 : (z767 = 0 → f_e0 = p1)) (h4 : (z767 = 1 → ¬ f_e0 = p1)) (h5 : 0 ≤ f_e0 ∧ f_e0 ≤ 9) (h6 : 1 ≤ f_pre ∧ f_pre ≤ 10) (h7 : 1 ≤ f_ties ∧ f_ties ≤ 20) (h8 : 0 ≤ p1 ∧ p1 ≤ 9) (h9 : 0 ≤ p2 ∧ p2 ≤ 19) (h10 : 0 ≤ p3 ∧ p3 ≤ 9) (h11 : 0 ≤ z767 ∧ z767 ≤ 1) (h12 : 0 ≤ z772 ∧ z772 ≤ 399) : (1 ≤ (40 * (930 + z772)) ∧ ((40 * (930 + z772)) + 40) ≤ 1200) ∨ 5200 ≤ (40 * (930 + z772)) := by omega
theorem vc_X12_say_u_40 {f_e0 f_pre f_ties p1 p2 p3 z767 z772 : Int} (h0 : z772 = (((20 * p2) + (10 * z767)) + p3)) (h1 : p2 < f_ties) (h2 : p3 < f_pre) (h3 : (z767 = 0 → f_e0 = p1)) (h4 : (z767 = 1 → ¬ f_e0 = p1)) (h5 : 0 ≤ f_e0 ∧ f_e0 ≤ 9) (h6 : 1 ≤ f_pre ∧ f_pre ≤ 10) (h7 : 1 ≤ f_ties ∧ f_ties ≤ 20) (h8 : 0 ≤ p1 ∧ p1 ≤ 9) (h9 : 0 ≤ p2 ∧ p2 ≤ 19) (h10 : 0 ≤ p3 ∧ p3 ≤ 9) (h11 : 0 ≤ z767 ∧ z767 ≤ 1) (h12 : 0 ≤ z772 ∧ z772 ≤ 399) : (1 ≤ (40 * (530 + z772)) ∧ ((40 * (530 + z772)) + 40) ≤ 1200) ∨ 5200 ≤ (40 * (530 + z772)) := by omega
theorem vc_X12_say_u_42 {f_e0 f_pre f_ties p1 p2 p3 z767 z772 z946 z949 z952 z986 : Int} (h0 : p2 < f_ties) (h1 : z772 = (((20 * p2) + (10 * z767)) + p3)) (h2 : (z949 + z952) ≤ z946) (h3 : p3 < f_pre) (h4 : (z767 = 0 → f_e0 = p1)) (h5 : (z767 = 1 → ¬ f_e0 = p1)) (h6 : 0 ≤ f_e0 ∧ f_e0 ≤ 9) (h7 : 1 ≤ f_pre ∧ f_pre ≤ 10) (h8 : 1 ≤ f_ties ∧ f_ties ≤ 20) (h9 : 0 ≤ p1 ∧ p1 ≤ 9) (h10 : 0 ≤ p2 ∧ p2 ≤ 19) (h11 : 0 ≤ p3 ∧ p3 ≤ 9) (h12 : 0 ≤ z767 ∧ z767 ≤ 1) (h13 : 0 ≤ z772 ∧ z772 ≤ 399) (h14 : 0 ≤ z946 ∧ z946 ≤ 2000000000) (h15 : 0 ≤ z949 ∧ z949 ≤ 2000000000) (h16 : 0 ≤ z952 ∧ z952 ≤ 1000) (h17 : 0 ≤ z986 ∧ z986 ≤ 1000) : (z946 + z986) < 0 ∨ z772 < 20 * f_ties := by omega
theorem vc_X12_say_u_45 {f_e0 f_pre f_ties p1 p2 p3 z767 z772 z946 z949 z952 : Int} (h0 : p2 < f_ties) (h1 : z772 = (((20 * p2) + (10 * z767)) + p3)) (h2 : z946 < (z949 + z952)) (h3 : p3 < f_pre) (h4 : (z767 = 0 → f_e0 = p1)) (h5 : (z767 = 1 → ¬ f_e0 = p1)) (h6 : 0 ≤ f_e0 ∧ f_e0 ≤ 9) (h7 : 1 ≤ f_pre ∧ f_pre ≤ 10) (h8 : 1 ≤ f_ties ∧ f_ties ≤ 20) (h9 : 0 ≤ p1 ∧ p1 ≤ 9) (h10 : 0 ≤ p2 ∧ p2 ≤ 19) (h11 : 0 ≤ p3 ∧ p3 ≤ 9) (h12 : 0 ≤ z767 ∧ z767 ≤ 1) (h13 : 0 ≤ z772 ∧ z772 ≤ 399) (h14 : 0 ≤ z946 ∧ z946 ≤ 2000000000) (h15 : 0 ≤ z949 ∧ z949 ≤ 2000000000) (h16 : 0 ≤ z952 ∧ z952 ≤ 1000) : (z949 + z952) < 0 ∨ z772 < 20 * f_ties := by omega
theorem vc_X12_say_u_47 {z785 z789 : Int} (h0 : z785 = (-99999999)) (h1 : z785 = -99999999 ∨ 0 ≤ z789) (h2 : (-99999999) ≤ z785 ∧ z785 ≤ 19) (h3 : z785 = -99999999 ∨ z785 = -4 ∨ (0 ≤ z785 ∧ z785 ≤ 19)) (h4 : (-1) ≤ z789 ∧ z789 ≤ 9) : (-99999999) ≤ z785 ∧ z785 ≤ (-99999999) := by omega
theorem vc_X12_say_u_48 {z785 z789 : Int} (h0 : ¬ z785 = (-99999999)) (h1 : z785 = -99999999 ∨ 0 ≤ z789) (h2 : (-99999999) ≤ z785 ∧ z785 ≤ 19) (h3 : z785 = -99999999 ∨ z785 = -4 ∨ (0 ≤ z785 ∧ z785 ≤ 19)) (h4 : (-1) ≤ z789 ∧ z789 ≤ 9) : (-4) ≤ z785 ∧ z785 ≤ 19 := by omega
theorem vc_X12_say_u_49 {f_ties p2 p3 z767 z772 z785 z789 : Int} (h0 : z785 = p2) (h1 : p2 < f_ties) (h2 : z772 = (((20 * p2) + (10 * z767)) + p3)) (h3 : z785 = -99999999 ∨ 0 ≤ z789) (h4 : ¬ z785 = (-99999999)) (h5 : 1 ≤ f_ties ∧ f_ties ≤ 20) (h6 : 0 ≤ p2 ∧ p2 ≤ 19) (h7 : 0 ≤ p3 ∧ p3 ≤ 9) (h8 : 0 ≤ z767 ∧ z767 ≤ 1) (h9 : 0 ≤ z772 ∧ z772 ≤ 399) (h10 : (-4) ≤ z785 ∧ z785 ≤ 19) (h11 : z785 = -99999999 ∨ z785 = -4 ∨ (0 ≤ z785 ∧ z785 ≤ 19)) (h12 : (-1) ≤ z789 ∧ z789 ≤ 9) : 0 ≤ z785 ∧ z785 ≤ 19 := by omega
theorem vc_X12_say_u_50 {f_e0 f_e1 f_pre f_ties p1 p2 p3 z767 z772 z785 : Int} (h0 : f_e0 = p1 ∨ f_e1 = p1) (h1 : p3 < f_pre) (h2 : (z767 = 0 → f_e0 = p1)) (h3 : (z767 = 1 → ¬ f_e0 = p1)) (h4 : z772 = (((20 * p2) + (10 * z767)) + p3)) (h5 : p2 < f_ties) (h6 : ¬ z785 = p2) (h7 : 0 ≤ f_e0 ∧ f_e0 ≤ 9) (h8 : 0 ≤ f_e1 ∧ f_e1 ≤ 9) (h9 : 1 ≤ f_pre ∧ f_pre ≤ 10) (h10 : 1 ≤ f_ties ∧ f_ties ≤ 20) (h11 : 0 ≤ p1 ∧ p1 ≤ 9) (h12 : 0 ≤ p2 ∧ p2 ≤ 19) (h13 : 0 ≤ p3 ∧ p3 ≤ 9) (h14 : 0 ≤ z767 ∧ z767 ≤ 1) (h15 : 0 ≤ z772 ∧ z772 ≤ 399) (h16 : (-4) ≤ z785 ∧ z785 ≤ 19) (h17 : z785 = -99999999 ∨ z785 = -4 ∨ (0 ≤ z785 ∧ z785 ≤ 19)) : (30 + ((10 * p1) + p3)) < (2 : Int) ∨ (2 : Int) < (30 + ((10 * p1) + p3)) := by omega
theorem vc_X12_say_u_51 {f_e0 f_e1 f_pre f_ties p1 p2 p3 z767 z772 z785 : Int} (h0 : f_e0 = p1 ∨ f_e1 = p1) (h1 : p3 < f_pre) (h2 : (z767 = 0 → f_e0 = p1)) (h3 : (z767 = 1 → ¬ f_e0 = p1)) (h4 : z772 = (((20 * p2) + (10 * z767)) + p3)) (h5 : p2 < f_ties) (h6 : ¬ z785 = p2) (h7 : 0 ≤ f_e0 ∧ f_e0 ≤ 9) (h8 : 0 ≤ f_e1 ∧ f_e1 ≤ 9) (h9 : 1 ≤ f_pre ∧ f_pre ≤ 10) (h10 : 1 ≤ f_ties ∧ f_ties ≤ 20) (h11 : 0 ≤ p1 ∧ p1 ≤ 9) (h12 : 0 ≤ p2 ∧ p2 ≤ 19) (h13 : 0 ≤ p3 ∧ p3 ≤ 9) (h14 : 0 ≤ z767 ∧ z767 ≤ 1) (h15 : 0 ≤ z772 ∧ z772 ≤ 399) (h16 : (-4) ≤ z785 ∧ z785 ≤ 19) (h17 : z785 = -99999999 ∨ z785 = -4 ∨ (0 ≤ z785 ∧ z785 ≤ 19)) : (30 + ((10 * p1) + p3)) ≤ 1399 := by omega
theorem vc_X12_say_u_52  : ¬ ((2 : Int) : Int) = (24 : Int) := by omega
theorem vc_X12_say_u_53 {f_e0 f_e1 f_pre f_ties p1 p2 p3 z767 z772 z785 : Int} (h0 : f_e0 = p1 ∨ f_e1 = p1) (h1 : p3 < f_pre) (h2 : (z767 = 0 → f_e0 = p1)) (h3 : (z767 = 1 → ¬ f_e0 = p1)) (h4 : z772 = (((20 * p2) + (10 * z767)) + p3)) (h5 : p2 < f_ties) (h6 : ¬ z785 = p2) (h7 : 0 ≤ f_e0 ∧ f_e0 ≤ 9) (h8 : 0 ≤ f_e1 ∧ f_e1 ≤ 9) (h9 : 1 ≤ f_pre ∧ f_pre ≤ 10) (h10 : 1 ≤ f_ties ∧ f_ties ≤ 20) (h11 : 0 ≤ p1 ∧ p1 ≤ 9) (h12 : 0 ≤ p2 ∧ p2 ≤ 19) (h13 : 0 ≤ p3 ∧ p3 ≤ 9) (h14 : 0 ≤ z767 ∧ z767 ≤ 1) (h15 : 0 ≤ z772 ∧ z772 ≤ 399) (h16 : (-4) ≤ z785 ∧ z785 ≤ 19) (h17 : z785 = -99999999 ∨ z785 = -4 ∨ (0 ≤ z785 ∧ z785 ≤ 19)) : ¬ (30 + ((10 * p1) + p3)) = 24 ∨ 0 < f_pre := by omega
theorem vc_X12_say_u_54  : (-(2147483648 : Int) ≤ ((100 : Int) : Int) ∧ ((100 : Int) : Int) ≤ (2147483647 : Int)) ∧ (((81 : Int) : Int) % (40 : Int) = (0 : Int) → -(1 : Int) ≤ ((100 : Int) : Int) ∧ ((100 : Int) : Int) ≤ (9 : Int)) ∧ (((81 : Int) : Int) % (40 : Int) = (4 : Int) → (0 : Int) ≤ ((100 : Int) : Int) ∧ ((100 : Int) : Int) ≤ (20 : Int)) ∧ (((81 : Int) : Int) % (40 : Int) = (5 : Int) → (0 : Int) ≤ ((100 : Int) : Int) ∧ ((100 : Int) : Int) ≤ (8 : Int)) := by omega
theorem vc_X12_say_u_55  : (0 : Int) ≤ ((81 : Int) : Int) := by omega
theorem vc_X12_say_u_56 {f_pre p2 p3 z767 z772 : Int} (h0 : p3 < f_pre) (h1 : z772 = (((20 * p2) + (10 * z767)) + p3)) (h2 : 1 ≤ f_pre ∧ f_pre ≤ 10) (h3 : 0 ≤ p2 ∧ p2 ≤ 19) (h4 : 0 ≤ p3 ∧ p3 ≤ 9) (h5 : 0 ≤ z767 ∧ z767 ≤ 1) (h6 : 0 ≤ z772 ∧ z772 ≤ 399) : ¬ (81 : Int) % 40 = 0 ∨ 56000 ≤ (81 : Int) ∨ ((81 : Int) = 960 ∧ (100 : Int) ≤ 0) ∨ (¬ (81 : Int) = 960 ∧ (100 : Int) < f_pre) := by omega
theorem vc_X12_say_u_58  : (80 : Int) ≤ ((40 : Int) * (2 : Int)) ∧ (((40 : Int) * (2 : Int)) + (40 : Int)) ≤ (120 : Int) := by omega
theorem vc_X12_say_u_59  : (0 : Int) ≤ (81 : Int) ∧ (80 : Int) ≤ (81 : Int) ∧ (81 : Int) < (120 : Int) := by omega
theorem vc_X12_say_u_60  : (80 : Int) ≤ (((40 : Int) * (2 : Int)) + (1 : Int)) ∧ (((40 : Int) * (2 : Int)) + (40 : Int)) ≤ (120 : Int) := by omega
theorem vc_X12_say_u_61  : (0 : Int) ≤ (81 : Int) ∧ (81 : Int) ≤ (81 : Int) ∧ (81 : Int) < ((81 : Int) + (1 : Int)) := by omega
theorem vc_X12_say_u_62  : ((1 : Int) ≤ ((81 : Int) : Int) ∧ (((81 : Int) + (1 : Int)) : Int) ≤ (1200 : Int)) ∨ (5200 : Int) ≤ ((81 : Int) : Int) := by omega
theorem vc_X12_say_u_66  : (((40 : Int) * (2 : Int)) + (1 : Int)) ≤ (((40 : Int) * (2 : Int)) + (1 : Int)) ∧ (((40 : Int) * (2 : Int)) + (40 : Int)) ≤ (((40 : Int) * (2 : Int)) + (40 : Int)) := by omega
theorem vc_X12_say_u_67  : (40 : Int) * ((((((40 : Int) * (2 : Int)) + (40 : Int)) : Int) - (1 : Int)) / (40 : Int)) < ((((40 : Int) * (2 : Int)) + (1 : Int)) : Int) := by omega
theorem vc_X12_say_u_68  : ((40 : Int) * (2 : Int)) ≤ ((40 : Int) * (2 : Int)) ∧ (((40 : Int) * (2 : Int)) + (40 : Int)) ≤ (((40 : Int) * (2 : Int)) + (40 : Int)) := by omega
theorem vc_X12_say_u_69  : (0 : Int) ≤ (81 : Int) ∧ ((40 : Int) * (2 : Int)) ≤ (81 : Int) ∧ (81 : Int) < (((40 : Int) * (2 : Int)) + (40 : Int)) := by omega
theorem vc_X12_say_u_70  : ((40 : Int) * (2 : Int)) ≤ (((40 : Int) * (2 : Int)) + (1 : Int)) ∧ (((40 : Int) * (2 : Int)) + (40 : Int)) ≤ (((40 : Int) * (2 : Int)) + (40 : Int)) := by omega
theorem vc_X12_say_u_71  : ((1 : Int) ≤ ((((40 : Int) * (2 : Int)) + (1 : Int)) : Int) ∧ ((((40 : Int) * (2 : Int)) + (40 : Int)) : Int) ≤ (1200 : Int)) ∨ (5200 : Int) ≤ ((((40 : Int) * (2 : Int)) + (1 : Int)) : Int) := by omega
theorem vc_X12_say_u_72  : ((1 : Int) ≤ (((40 : Int) * (2 : Int)) : Int) ∧ ((((40 : Int) * (2 : Int)) + (40 : Int)) : Int) ≤ (1200 : Int)) ∨ (5200 : Int) ≤ (((40 : Int) * (2 : Int)) : Int) := by omega
theorem vc_X12_say_u_75 {f_e0 f_e1 f_pre f_ties p1 p2 p3 z767 z772 z785 z789 : Int} (h0 : p2 < f_ties) (h1 : (z767 = 0 → f_e0 = p1)) (h2 : (z767 = 1 → ¬ f_e0 = p1)) (h3 : z772 = (((20 * p2) + (10 * z767)) + p3)) (h4 : ¬ z785 = p2) (h5 : f_e0 = p1 ∨ f_e1 = p1) (h6 : p3 < f_pre) (h7 : z785 = -99999999 ∨ 0 ≤ z789) (h8 : ¬ z785 = (-99999999)) (h9 : 0 ≤ f_e0 ∧ f_e0 ≤ 9) (h10 : 0 ≤ f_e1 ∧ f_e1 ≤ 9) (h11 : 1 ≤ f_pre ∧ f_pre ≤ 10) (h12 : 1 ≤ f_ties ∧ f_ties ≤ 20) (h13 : 0 ≤ p1 ∧ p1 ≤ 9) (h14 : 0 ≤ p2 ∧ p2 ≤ 19) (h15 : 0 ≤ p3 ∧ p3 ≤ 9) (h16 : 0 ≤ z767 ∧ z767 ≤ 1) (h17 : 0 ≤ z772 ∧ z772 ≤ 399) (h18 : (-4) ≤ z785 ∧ z785 ≤ 19) (h19 : z785 = -99999999 ∨ z785 = -4 ∨ (0 ≤ z785 ∧ z785 ≤ 19)) (h20 : (-1) ≤ z789 ∧ z789 ≤ 9) : (((4 * p2) + (2 * z767)) + 1) < 4 * f_ties := by omega
theorem vc_X12_say_u_76  : ((40 * 2) : Int).toNat ≠ (81 : Int).toNat := by omega
theorem vc_X12_say_u_77  : ((40 : Int) * (2 : Int)) < (((40 : Int) * (2 : Int)) + (1 : Int)) ∨ (((40 : Int) * (2 : Int)) + (40 : Int)) ≤ ((40 : Int) * (2 : Int)) := by omega
theorem vc_X12_say_u_78  : (0 : Int) ≤ ((2 : Int) : Int) ∧ ((2 : Int) : Int) ≤ (1399 : Int) := by omega
theorem vc_X12_say_u_79  : (((40 : Int) * (2 : Int)) : Int) = (40 : Int) * ((2 : Int) : Int) := by omega
theorem vc_X12_say_u_80 {f_e0 f_pre f_ties p1 p2 p3 z767 z772 z785 z789 : Int} (h0 : p2 < f_ties) (h1 : z772 = (((20 * p2) + (10 * z767)) + p3)) (h2 : ¬ z785 = p2) (h3 : p3 < f_pre) (h4 : (z767 = 0 → f_e0 = p1)) (h5 : (z767 = 1 → ¬ f_e0 = p1)) (h6 : z785 = -99999999 ∨ 0 ≤ z789) (h7 : ¬ z785 = (-99999999)) (h8 : 0 ≤ f_e0 ∧ f_e0 ≤ 9) (h9 : 1 ≤ f_pre ∧ f_pre ≤ 10) (h10 : 1 ≤ f_ties ∧ f_ties ≤ 20) (h11 : 0 ≤ p1 ∧ p1 ≤ 9) (h12 : 0 ≤ p2 ∧ p2 ≤ 19) (h13 : 0 ≤ p3 ∧ p3 ≤ 9) (h14 : 0 ≤ z767 ∧ z767 ≤ 1) (h15 : 0 ≤ z772 ∧ z772 ≤ 399) (h16 : (-4) ≤ z785 ∧ z785 ≤ 19) (h17 : z785 = -99999999 ∨ z785 = -4 ∨ (0 ≤ z785 ∧ z785 ≤ 19)) (h18 : (-1) ≤ z789 ∧ z789 ≤ 9) : p2 < f_ties := by omega
theorem vc_X12_say_u_81 {f_e0 f_e1 p1 p2 p3 z1141 z767 z772 : Int} (h0 : f_e0 = p1 ∨ f_e1 = p1) (h1 : (z767 = 0 → f_e0 = p1)) (h2 : (z767 = 1 → ¬ f_e0 = p1)) (h3 : (f_e0 = p1 → z1141 = f_e1) ∧ (¬ f_e0 = p1 → z1141 = f_e0)) (h4 : z772 = (((20 * p2) + (10 * z767)) + p3)) (h5 : 0 ≤ f_e0 ∧ f_e0 ≤ 9) (h6 : 0 ≤ f_e1 ∧ f_e1 ≤ 9) (h7 : 0 ≤ p1 ∧ p1 ≤ 9) (h8 : 0 ≤ p2 ∧ p2 ≤ 19) (h9 : 0 ≤ p3 ∧ p3 ≤ 9) (h10 : 0 ≤ z1141 ∧ z1141 ≤ 9) (h11 : 0 ≤ z767 ∧ z767 ≤ 1) (h12 : 0 ≤ z772 ∧ z772 ≤ 399) : (f_e0 = p1 ∧ f_e1 = z1141) ∨ (f_e0 = z1141 ∧ f_e1 = p1) := by omega
theorem vc_X12_say_u_82 {f_pre p2 p3 z1053 z785 z789 : Int} (h0 : z785 = -99999999 ∨ 0 ≤ z789) (h1 : z1053 = z789) (h2 : z789 < f_pre) (h3 : p3 < f_pre) (h4 : ¬ z785 = (-99999999)) (h5 : ¬ z785 = p2) (h6 : 1 ≤ f_pre ∧ f_pre ≤ 10) (h7 : 0 ≤ p2 ∧ p2 ≤ 19) (h8 : 0 ≤ p3 ∧ p3 ≤ 9) (h9 : (-1) ≤ z1053 ∧ z1053 ≤ 9) (h10 : (-4) ≤ z785 ∧ z785 ≤ 19) (h11 : z785 = -99999999 ∨ z785 = -4 ∨ (0 ≤ z785 ∧ z785 ≤ 19)) (h12 : (-1) ≤ z789 ∧ z789 ≤ 9) : 0 ≤ z789 := by omega
theorem vc_X12_say_u_84 {f_pre p2 p3 z1053 z767 z772 z785 z789 : Int} (h0 : p3 < f_pre) (h1 : z785 = -99999999 ∨ 0 ≤ z789) (h2 : z1053 = z789) (h3 : z789 < f_pre) (h4 : z772 = (((20 * p2) + (10 * z767)) + p3)) (h5 : ¬ z785 = (-99999999)) (h6 : ¬ z785 = p2) (h7 : 1 ≤ f_pre ∧ f_pre ≤ 10) (h8 : 0 ≤ p2 ∧ p2 ≤ 19) (h9 : 0 ≤ p3 ∧ p3 ≤ 9) (h10 : (-1) ≤ z1053 ∧ z1053 ≤ 9) (h11 : 0 ≤ z767 ∧ z767 ≤ 1) (h12 : 0 ≤ z772 ∧ z772 ≤ 399) (h13 : (-4) ≤ z785 ∧ z785 ≤ 19) (h14 : z785 = -99999999 ∨ z785 = -4 ∨ (0 ≤ z785 ∧ z785 ≤ 19)) (h15 : (-1) ≤ z789 ∧ z789 ≤ 9) : z789 < f_pre := by omega
set_option maxRecDepth 4000 in
set_option maxHeartbeats 4000000 in
theorem c_X12_say_u {l : Launch} {D : va_G} {c : Nat → ClassId} {H0 : Heap} {sa : Nat × Nat × (Nat → Int32)} {w : mW} {μ : mM} (hw : mWF w) (hT : mT w μ) {p1 : Int} (hp1 : 0 ≤ p1 ∧ p1 ≤ 9) {p2 : Int} (hp2 : 0 ≤ p2 ∧ p2 ≤ 19) {p3 : Int} (hp3 : 0 ≤ p3 ∧ p3 ≤ 9) {f_e0 : Int} (q_f_e0 : μ 110 ((2 * p2).toNat) = f_e0) {f_e1 : Int} (q_f_e1 : μ 110 (((2 * p2) + 1).toNat) = f_e1) {f_ties : Int} (q_f_ties : μ 106 6 = f_ties) {f_pre : Int} (q_f_pre : μ 106 2 = f_pre) {f_up : Int} (q_f_up : μ 112 (p2.toNat) = f_up) (hq0 : p2 < f_ties) (hq1 : f_e0 = p1 ∨ f_e1 = p1) (hq2 : p3 < f_pre) (hq3 : 0 < f_up) (hIJC : JC l D c H0 sa μ) (hIRP : RP μ) (hIEP : EP μ) (hIG1 : G1 μ) (hIEV : EV μ) (hIPK : PK μ) : sC (gG l D c H0 sa) mX12_say 7 0 0 [.ref 106, iv p1, iv p2, iv p3] (mk w μ) (qV w [106026, 106027, 106028, 106029, 106030, 106031, 106072, 126999, 151999, 152999, 153999, 155999, 156999, 157999, 158999, 159999, 160999] μ (fun μ1 => mG [(80, 120), (21200, 53200)] μ μ1 ∧ JC l D c H0 sa μ1 ∧ RP μ1 ∧ EP μ1 ∧ G1 μ1 ∧ EV μ1 ∧ True)) := by
  refine sC.of rfl (by decide) (le_t rfl) ?_
  have ht_f_e0 : (0 ≤ f_e0 ∧ f_e0 ≤ 9) := by rw [← q_f_e0]; exact hT 110 110 (A_110 hw) ((2 * p2).toNat)
  have ht_f_e1 : (0 ≤ f_e1 ∧ f_e1 ≤ 9) := by rw [← q_f_e1]; exact hT 110 110 (A_110 hw) (((2 * p2) + 1).toNat)
  have ht_f_ties : (0 ≤ f_ties ∧ f_ties ≤ 20) := by rw [← q_f_ties]; exact hT 106 106 (A_106 hw) 6
  have ht_f_pre : (0 ≤ f_pre ∧ f_pre ≤ 10) := by rw [← q_f_pre]; exact hT 106 106 (A_106 hw) 2
  have ht_f_up : (0 ≤ f_up ∧ f_up ≤ 1) := by rw [← q_f_up]; exact hT 112 112 (A_112 hw) (p2.toNat)
  have h1 : 1 ≤ f_ties ∧ f_ties ≤ 20 := (vc_X3_putAttributes_11 hq0 ht_f_ties hp2)
  have h2 : 1 ≤ f_pre ∧ f_pre ≤ 10 := (vc_X12_say_u_2 hq2 ht_f_pre hp3)
  have h3 : 1 ≤ f_up ∧ f_up ≤ 1 := (vc_X12_say_u_3 hq3 ht_f_up)
  refine mr_lvE (lv' := [(0, .ref 106), (1, iv p1), (2, iv p2), (3, iv p3)]) rfl ?_
  refine sv_aload_n (pc := 0) dX12_say_0 rfl rfl ?_
  refine mr_iload_n (pc := 1) (z := p2) dX12_say_1 rfl rfl ?_
  refine mr_iload_n (pc := 2) (z := p1) dX12_say_2 rfl rfl ?_
  refine mr_cVP (pc := 3) (c_X12_sideOf hw hT hp2 (rW (c := (-2147483648)) (d := 2147483647) hp1 rfl) q_f_e0) (gOk _ _ _ _ _) dX12_say_3 (tX12_sideOf _ _ _ _ _) ⟨wV_X12_sideOf, wL_X12_sideOf⟩ wM_X12_542 (gCX12 _ _ _ _ _) rfl (A_106 hw) rfl ⟨le_t rfl, le_t rfl⟩ ⟨le_t rfl, le_t rfl⟩ rfl (le_t rfl) fun z767 h766 => ?_
  refine mr_istore (pc := 6) (lv' := [(4, iv z767), (0, .ref 106), (1, iv p1), (2, iv p2), (3, iv p3)]) dX12_say_6 (by decide) rfl ?_
  refine mr_iload_n (pc := 8) (z := p2) dX12_say_8 rfl rfl ?_
  refine mr_iload (pc := 9) (z := z767) dX12_say_9 rfl ?_
  refine mr_iload_n (pc := 11) (z := p3) dX12_say_11 rfl rfl ?_
  refine mr_cSP (pc := 12) (c_X12_slot hw hT (rW (c := 0) (d := 20) hp2 rfl) (rW (c := 0) (d := 2) h766.1 rfl) hp3) (gOk _ _ _ _ _) dX12_say_12 (tX12_slot _ _ _ _ _) wS_X12_slot wM_X12_545 ⟨le_t rfl, le_t rfl⟩ ⟨le_t rfl, le_t rfl⟩ rfl (le_t rfl) fun z772 h771 => ?_
  have h773 : 0 ≤ z772 ∧ z772 ≤ 399 := (vc_X12_say_u_4 h771.2.1 hq0 hq2 h766.2.1 h766.2.2.1 ht_f_e0 h2 h1 hp1 hp2 hp3 h766.1 h771.1)
  refine mr_istore (pc := 15) (lv' := [(5, iv z772), (4, iv z767), (0, .ref 106), (1, iv p1), (2, iv p2), (3, iv p3)]) dX12_say_15 (by decide) rfl ?_
  refine mr_bipush (pc := 17) (z := 10) dX12_say_17 (by decide) ?_
  refine mr_iload_n (pc := 19) (z := p1) dX12_say_19 rfl rfl ?_
  refine mr_imul (pc := 20) (x := 10) (y := p1) dX12_say_20 ?_
  refine mr_iload_n (pc := 21) (z := p3) dX12_say_21 rfl rfl ?_
  refine mr_iadd (pc := 22) (x := (10 * p1)) (y := p3) dX12_say_22 ?_
  refine mr_istore (pc := 23) (lv' := [(6, iv ((10 * p1) + p3)), (5, iv z772), (4, iv z767), (0, .ref 106), (1, iv p1), (2, iv p2), (3, iv p3)]) dX12_say_23 (by decide) rfl ?_
  refine sv_aload_n (pc := 25) dX12_say_25 rfl rfl ?_
  refine mr_iconst (pc := 26) (z := 2) dX12_say_26 ?_
  refine mr_cVV (pc := 27) (c_X12_nothing_u hw hT (rW (c := 0) (d := 2099) (rR (x := 2)) rfl) hIRP) (gOk _ _ _ _ _) dX12_say_27 (tX12_nothing _ _ _ _ _) ⟨wV_X12_nothing, wL_X12_nothing⟩ wM_X12_539 (gCX12 _ _ _ _ _) rfl (A_106 hw) rfl ⟨le_t rfl, le_t rfl⟩ ⟨le_t rfl, le_t rfl⟩ rfl (le_t rfl) fun μ774 T775 F776 h777 => ?_
  obtain ⟨z778, q779, h780⟩ := h777
  have h781 := rt7 T775 (A_126 hw) vc_X12_say_u_5 q779
  have h782 : (-1) ≤ z778 ∧ z778 ≤ 9 := h781.2.1 vc_X12_say_u_6
  have q783 : μ774 126 (((40 * 2) : Int).toNat) = (-1) := q779.trans h780.2.2.1
  have h784 : (-1) ≤ z778 ∧ z778 ≤ (-1) := (vc_X12_candidate_4 h780.2.2.1 h782)
  refine sv_aload_n (pc := 30) dX12_say_30 rfl rfl ?_
  refine gf_X12_81 (pc := 31) dX12_say_31 wF_X12_445 (A_106 hw) T775 ?_
  refine mr_iload (pc := 34) (z := ((10 * p1) + p3)) dX12_say_34 rfl ?_
  refine la_161 (pc := 36) dX12_say_36 (A_161 hw) T775 (rIx (n := 100) (rAdd (e := 0) (f := 99) (rMulL (n := 10) (e := 0) (f := 90) hp1 rfl) hp3 rfl) rfl) fun z785 q786 h787 => ?_
  have h788 : (-99999999) ≤ z785 ∧ z785 ≤ 19 := (vc_X12_sends_3 h787)
  obtain ⟨z789, q790⟩ : ∃ z, μ774 126 ((40 * (30 + ((10 * p1) + p3))).toNat) = z := ⟨_, rfl⟩
  have h791 := rt7 T775 (A_126 hw) (vc_X12_say_u_9 hq1 hq2 h766.2.1 h766.2.2.1 h771.2.1 hq0 ht_f_e0 ht_f_e1 h2 h1 hp1 hp2 hp3 h766.1 h773) q790
  have h792 : (-1) ≤ z789 ∧ z789 ≤ 9 := h791.2.1 (vc_X12_say_u_10 hq1 hq2 h766.2.1 h766.2.2.1 h771.2.1 hq0 ht_f_e0 ht_f_e1 h2 h1 hp1 hp2 hp3 h766.1 h773)
  have h793 : z785 = -99999999 ∨ 0 ≤ z789 := G1.at (G1.keep hIG1 hw ((mF.call mF.refl F776 rfl) : mF [126999] w μ μ774) rfl rfl ((mG.call mG.refl h780.1 (List.forall_mem_cons.mpr ⟨⟨_, List.mem_cons_self, vc_X12_say_u_11⟩, (fun _ h => absurd h List.not_mem_nil)⟩)) : mG [((40 * 2), ((40 * 2) + 1))] μ μ774) (List.forall_mem_cons.mpr ⟨vc_X12_say_u_12, (fun _ h => absurd h List.not_mem_nil)⟩)) (rAdd (e := 0) (f := 99) (rMulL (n := 10) (e := 0) (f := 90) hp1 rfl) hp3 rfl) q786 (vc_X12_say_u_13 hq1 hq2 h766.2.1 h766.2.2.1 h771.2.1 hq0 ht_f_e0 ht_f_e1 h2 h1 hp1 hp2 hp3 h766.1 h773) q790
  refine mr_ldc (pc := 37) (z := (-99999999)) dX12_say_37 wG_X12_29 (by decide) ?_
  have J880 : ∀ (μ870 : mM), (mT w μ870) → (mF [106026, 106027, 106028, 106029, 106030, 106031, 126999, 151999, 152999, 153999] w μ774 μ870) → (mG [(80, 120), (21200, 53200)] μ774 μ870) → (JC l D c H0 sa μ870) → (RP μ870) → (EP μ870) → (G1 μ870) → (EV μ870) → (PK μ870) → sV (gG l D c H0 sa) mX12_say (sRm 7 0 0) (sZ (gG l D c H0 sa) 0 0 (qV w [106026, 106027, 106028, 106029, 106030, 106031, 106072, 126999, 151999, 152999, 153999, 155999, 156999, 157999, 158999, 159999, 160999] μ (fun μ1 => mG [(80, 120), (21200, 53200)] μ μ1 ∧ JC l D c H0 sa μ1 ∧ RP μ1 ∧ EP μ1 ∧ G1 μ1 ∧ EV μ1 ∧ True))) 137 [(0, .ref 106), (2, iv p2), (5, iv z772)] [] (mk w μ870) 0 0 := by
    intro μ870 T871 F872 G873 I874 I875 I876 I877 I878 I879
    refine sv_aload_n (pc := 137) dX12_say_137 rfl rfl ?_
    refine mr_iconst (pc := 138) (z := 2) dX12_say_138 ?_
    refine mr_sipush (pc := 139) (z := 530) dX12_say_139 (by decide) ?_
    refine mr_iload (pc := 142) (z := z772) dX12_say_142 rfl ?_
    refine mr_iadd (pc := 144) (x := 530) (y := z772) dX12_say_144 ?_
    refine mr_cVP (pc := 145) (c_X12_same hw T871 (rW (c := 0) (d := 2099) (rR (x := 2)) rfl) (rW (c := 0) (d := 2099) (rAdd (e := 530) (f := 929) (rR (x := 530)) h773 rfl) rfl)) (gOk _ _ _ _ _) dX12_say_145 (tX12_same _ _ _ _ _) ⟨wV_X12_same, wL_X12_same⟩ wM_X12_584 (gCX12 _ _ _ _ _) rfl (A_106 hw) rfl ⟨le_t rfl, le_t rfl⟩ ⟨le_t rfl, le_t rfl⟩ rfl (le_t rfl) fun z885 h884 => ?_
    refine mr_if_eq (pc := 148) (tgt := 152) dX12_say_148 (by decide) (r32 h884.1 rfl) (fun h886 => ?_) (fun h886 => ?_)
    · have h887 : 0 ≤ z885 ∧ z885 ≤ 0 := (vc_X12_ring_22 h886 h884.1)
      refine sv_aload_n (pc := 152) dX12_say_152 rfl rfl ?_
      refine gf_X12_75 (pc := 153) dX12_say_153 wF_X12_427 (A_106 hw) T871 ?_
      refine mr_iload (pc := 156) (z := z772) dX12_say_156 rfl ?_
      refine la_155 (pc := 158) dX12_say_158 (A_155 hw) T871 (rIx (n := 400) h773 rfl) fun z888 q889 h890 => ?_
      refine mr_if_eq (pc := 159) (tgt := 236) dX12_say_159 (by decide) (r32 h890 rfl) (fun h891 => ?_) (fun h891 => ?_)
      · have h892 : 0 ≤ z888 ∧ z888 ≤ 0 := (vc_X12_ring_22 h891 h890)
        refine sv_aload_n (pc := 236) dX12_say_236 rfl rfl ?_
        refine mr_iconst (pc := 237) (z := 2) dX12_say_237 ?_
        refine mr_sipush (pc := 238) (z := 530) dX12_say_238 (by decide) ?_
        refine mr_iload (pc := 241) (z := z772) dX12_say_241 rfl ?_
        refine mr_iadd (pc := 243) (x := 530) (y := z772) dX12_say_243 ?_
        obtain ⟨z893, q894⟩ : ∃ z, μ870 126 (((40 * 2) : Int).toNat) = z := ⟨_, rfl⟩
        have h895 := rt7 T871 (A_126 hw) vc_X12_say_u_5 q894
        have h896 : (-1) ≤ z893 ∧ z893 ≤ 9 := h895.2.1 vc_X12_say_u_6
        refine mr_cVV (pc := 244) (c_X12_copy_u hw T871 (rW (c := 0) (d := 2099) (rR (x := 2)) rfl) (rW (c := 0) (d := 2099) (rAdd (e := 530) (f := 929) (rR (x := 530)) h773 rfl) rfl) q894 (F872.f (A_106 hw) rfl (F776.f (A_106 hw) rfl q_f_pre)) (vc_X12_say_u_16 h771.2.1 hq0 hq2 h766.2.1 h766.2.2.1 ht_f_e0 h2 h1 hp1 hp2 hp3 h766.1 h773) vc_X12_say_u_17 (vc_X12_say_u_18 h771.2.1 hq0 hq2 h766.2.1 h766.2.2.1 ht_f_e0 h2 h1 hp1 hp2 hp3 h766.1 h773) (vc_X12_say_u_19 hq2 h771.2.1 h2 hp2 hp3 h766.1 h773) I875) (gOk _ _ _ _ _) dX12_say_244 (tX12_copy _ _ _ _ _) ⟨wV_X12_copy, wL_X12_copy⟩ wM_X12_559 (gCX12 _ _ _ _ _) rfl (A_106 hw) rfl ⟨le_t rfl, le_t rfl⟩ ⟨le_t rfl, le_t rfl⟩ rfl (le_t rfl) fun μ897 T898 F899 h900 => ?_
        obtain ⟨z901, q902, h903⟩ := h900
        have h904 := rt7 T898 (A_126 hw) (vc_X12_say_u_20 h771.2.1 hq0 hq2 h766.2.1 h766.2.2.1 ht_f_e0 h2 h1 hp1 hp2 hp3 h766.1 h773) q902
        have h905 : (-1) ≤ z901 ∧ z901 ≤ 9 := h904.2.1 (vc_X12_say_u_21 h771.2.1 hq0 hq2 h766.2.1 h766.2.2.1 ht_f_e0 h2 h1 hp1 hp2 hp3 h766.1 h773)
        have q906 : μ897 126 ((40 * (530 + z772)).toNat) = z893 := q902.trans h903.2.2.1
        refine sv_aload_n (pc := 247) dX12_say_247 rfl rfl ?_
        refine gf_X12_75 (pc := 248) dX12_say_248 wF_X12_427 (A_106 hw) T898 ?_
        refine mr_iload (pc := 251) (z := z772) dX12_say_251 rfl ?_
        refine mr_iconst (pc := 253) (z := 1) dX12_say_253 ?_
        refine ss_155 (pc := 254) dX12_say_254 (A_155 hw) T898 (rIx (n := 400) h773 rfl) (rW (c := 0) (d := 1) (rR (x := 1)) rfl) fun μ907 u908 T909 => ?_
        refine sv_aload_n (pc := 255) dX12_say_255 rfl rfl ?_
        refine gf_X12_76 (pc := 256) dX12_say_256 wF_X12_430 (A_106 hw) T909 ?_
        refine mr_iload (pc := 259) (z := z772) dX12_say_259 rfl ?_
        refine sv_aload_n (pc := 261) dX12_say_261 rfl rfl ?_
        refine gf_X12_71 (pc := 262) dX12_say_262 wF_X12_591 (A_106 hw) T909 fun z910 q911 h912 => ?_
        refine ss_156 (pc := 265) dX12_say_265 (A_156 hw) T909 (rIx (n := 400) h773 rfl) h912 fun μ913 u914 T915 => ?_
        refine sv_aload_n (pc := 266) dX12_say_266 rfl rfl ?_
        refine mr_iconst (pc := 267) (z := 2) dX12_say_267 ?_
        refine mr_sipush (pc := 268) (z := 930) dX12_say_268 (by decide) ?_
        refine mr_iload (pc := 271) (z := z772) dX12_say_271 rfl ?_
        refine mr_iadd (pc := 273) (x := 930) (y := z772) dX12_say_273 ?_
        refine mr_cVV (pc := 274) (c_X12_copy_u hw T915 (rW (c := 0) (d := 2099) (rR (x := 2)) rfl) (rW (c := 0) (d := 2099) (rAdd (e := 930) (f := 1329) (rR (x := 930)) h773 rfl) rfl) (u914.f (Or.inl (mAt.ne (A_156 hw) (A_126 hw) rfl)) (u908.f (Or.inl (mAt.ne (A_155 hw) (A_126 hw) rfl)) (h903.1.f vc_X12_say_u_5 (List.forall_mem_cons.mpr ⟨(vc_X12_say_u_22 h771.2.1 hq0 hq2 h766.2.1 h766.2.2.1 ht_f_e0 h2 h1 hp1 hp2 hp3 h766.1 h773), (fun _ h => absurd h List.not_mem_nil)⟩) q894))) (u914.f (Or.inl (mAt.ne (A_156 hw) (A_106 hw) rfl)) (u908.f (Or.inl (mAt.ne (A_155 hw) (A_106 hw) rfl)) (F899.f (A_106 hw) rfl (F872.f (A_106 hw) rfl (F776.f (A_106 hw) rfl q_f_pre))))) (vc_X12_say_u_23 h771.2.1 hq0 hq2 h766.2.1 h766.2.2.1 ht_f_e0 h2 h1 hp1 hp2 hp3 h766.1 h773) vc_X12_say_u_17 (vc_X12_say_u_24 h771.2.1 hq0 hq2 h766.2.1 h766.2.2.1 ht_f_e0 h2 h1 hp1 hp2 hp3 h766.1 h773) (vc_X12_say_u_19 hq2 h771.2.1 h2 hp2 hp3 h766.1 h773) (RP.keep h903.2.1 hw ((mF.up (mF.up mF.refl (A_155 hw) u908 rfl) (A_156 hw) u914 rfl) : mF [155999, 156999] w μ897 μ913) rfl ((mG.upO (mG.upO mG.refl u908 rfl) u914 rfl) : mG [] μ897 μ913) (fun _ h => absurd h List.not_mem_nil))) (gOk _ _ _ _ _) dX12_say_274 (tX12_copy _ _ _ _ _) ⟨wV_X12_copy, wL_X12_copy⟩ wM_X12_559 (gCX12 _ _ _ _ _) rfl (A_106 hw) rfl ⟨le_t rfl, le_t rfl⟩ ⟨le_t rfl, le_t rfl⟩ rfl (le_t rfl) fun μ916 T917 F918 h919 => ?_
        obtain ⟨z920, q921, h922⟩ := h919
        have h923 := rt7 T917 (A_126 hw) (vc_X12_say_u_25 h771.2.1 hq0 hq2 h766.2.1 h766.2.2.1 ht_f_e0 h2 h1 hp1 hp2 hp3 h766.1 h773) q921
        have h924 : (-1) ≤ z920 ∧ z920 ≤ 9 := h923.2.1 (vc_X12_say_u_26 h771.2.1 hq0 hq2 h766.2.1 h766.2.2.1 ht_f_e0 h2 h1 hp1 hp2 hp3 h766.1 h773)
        have q925 : μ916 126 ((40 * (930 + z772)).toNat) = z893 := q921.trans h922.2.2.1
        refine sv_aload_n (pc := 277) dX12_say_277 rfl rfl ?_
        refine gf_X12_77 (pc := 278) dX12_say_278 wF_X12_433 (A_106 hw) T917 ?_
        refine mr_iload (pc := 281) (z := z772) dX12_say_281 rfl ?_
        refine sv_aload_n (pc := 283) dX12_say_283 rfl rfl ?_
        refine gk_X12_71 (pc := 284) dX12_say_284 wF_X12_591 (A_106 hw) (F918.f (A_106 hw) rfl (u914.f (Or.inl (mAt.ne (A_156 hw) (A_106 hw) rfl)) q911)) ?_
        refine sv_aload_n (pc := 287) dX12_say_287 rfl rfl ?_
        refine gf_X12_10 (pc := 288) dX12_say_288 wF_X12_57 (A_106 hw) T917 ?_
        refine mr_iload_n (pc := 291) (z := p2) dX12_say_291 rfl rfl ?_
        refine la_113 (pc := 292) dX12_say_292 (A_113 hw) T917 (rIx (n := 20) hp2 rfl) fun z926 q927 h928 => ?_
        refine mr_iadd (pc := 293) (x := z910) (y := z926) dX12_say_293 ?_
        refine ss_157 (pc := 294) dX12_say_294 (A_157 hw) T917 (rIx (n := 400) h773 rfl) (rW (c := (-1)) (d := 2000001000) (rAdd (e := 0) (f := 2000001000) h912 h928 rfl) rfl) fun μ929 u930 T931 => ?_
        have I932 : EP μ929 := EP.up1 (EP.keep I876 hw ((mF.call (mF.up (mF.up (mF.call mF.refl F899 rfl) (A_155 hw) u908 rfl) (A_156 hw) u914 rfl) F918 rfl) : mF [126999, 155999, 156999] w μ870 μ916) rfl) u930 (vc_X12_say_u_27 h771.2.1 hq0 hq2 h766.2.1 h766.2.2.1 ht_f_e0 h2 h1 hp1 hp2 hp3 h766.1 h773) (u930.f (Or.inl (mAt.ne (A_157 hw) (A_106 hw) rfl)) (F918.f (A_106 hw) rfl (u914.f (Or.inl (mAt.ne (A_156 hw) (A_106 hw) rfl)) (u908.f (Or.inl (mAt.ne (A_155 hw) (A_106 hw) rfl)) (F899.f (A_106 hw) rfl (F872.f (A_106 hw) rfl (F776.f (A_106 hw) rfl q_f_pre))))))) (vc_X12_say_u_28 hq2 h771.2.1 hq0 h766.2.1 h766.2.2.1 ht_f_e0 h2 h1 hp1 hp2 hp3 h766.1 h773) (vc_X12_say_u_29 hq0 h771.2.1 hq2 h766.2.1 h766.2.2.1 ht_f_e0 h2 h1 hp1 hp2 hp3 h766.1 h773) (u930.f (Or.inl (mAt.ne (A_157 hw) (A_112 hw) rfl)) (F918.f (A_112 hw) rfl (u914.f (Or.inl (mAt.ne (A_156 hw) (A_112 hw) rfl)) (u908.f (Or.inl (mAt.ne (A_155 hw) (A_112 hw) rfl)) (F899.f (A_112 hw) rfl (F872.f (A_112 hw) rfl (F776.f (A_112 hw) rfl q_f_up))))))) (vc_X12_say_u_30 hq3 h3)
        have I933 : EV μ929 := EV.up1 (EV.keep I878 hw ((mF.call (mF.up (mF.up (mF.call mF.refl F899 rfl) (A_155 hw) u908 rfl) (A_156 hw) u914 rfl) F918 rfl) : mF [126999, 155999, 156999] w μ870 μ916) rfl) u930 (u930.f (Or.inl (mAt.ne (A_157 hw) (A_106 hw) rfl)) (F918.f (A_106 hw) rfl (u914.f (Or.inl (mAt.ne (A_156 hw) (A_106 hw) rfl)) (u908.f (Or.inl (mAt.ne (A_155 hw) (A_106 hw) rfl)) (F899.f (A_106 hw) rfl (F872.f (A_106 hw) rfl (F776.f (A_106 hw) rfl q_f_ties))))))) (vc_X12_say_u_27 h771.2.1 hq0 hq2 h766.2.1 h766.2.2.1 ht_f_e0 h2 h1 hp1 hp2 hp3 h766.1 h773) (vc_X12_say_u_31 hq0 h771.2.1 hq2 h766.2.1 h766.2.2.1 ht_f_e0 h2 h1 hp1 hp2 hp3 h766.1 h773 h912 h928)
        refine sv_aload_n (pc := 295) dX12_say_295 rfl rfl ?_
        refine gf_X12_78 (pc := 296) dX12_say_296 wF_X12_436 (A_106 hw) T931 ?_
        refine mr_iload (pc := 299) (z := z772) dX12_say_299 rfl ?_
        refine sv_aload_n (pc := 301) dX12_say_301 rfl rfl ?_
        refine gf_X12_72 (pc := 302) dX12_say_302 wF_X12_594 (A_106 hw) T931 fun z934 q935 h936 => ?_
        refine ss_158 (pc := 305) dX12_say_305 (A_158 hw) T931 (rIx (n := 400) h773 rfl) h936 fun μ937 u938 T939 => ?_
        refine sv_aload_n (pc := 306) dX12_say_306 rfl rfl ?_
        refine sv_dup (pc := 307) dX12_say_307 rfl ?_
        refine gk_X12_72 (pc := 308) dX12_say_308 wF_X12_594 (A_106 hw) (u938.f (Or.inl (mAt.ne (A_158 hw) (A_106 hw) rfl)) q935) ?_
        refine mr_iconst (pc := 311) (z := 1) dX12_say_311 ?_
        refine mr_iadd (pc := 312) (x := z934) (y := 1) dX12_say_312 ?_
        refine mr_wrap fun z940 h941 => ?_
        refine pf_X12_72 (pc := 313) dX12_say_313 wF_X12_594 (A_106 hw) T939 h941 fun μ942 u943 T944 => ?_
        exact mr_vret dX12_say_316 rfl (le_t rfl) (le_t rfl) T944 (mF.up (mF.up (mF.up (mF.call (mF.up (mF.up (mF.call (mF.call (mF.call mF.refl F776 rfl) F872 rfl) F899 rfl) (A_155 hw) u908 rfl) (A_156 hw) u914 rfl) F918 rfl) (A_157 hw) u930 rfl) (A_158 hw) u938 rfl) (A_106 hw) u943 rfl) ⟨(mG.upO (mG.upO (mG.upO (mG.call (mG.upO (mG.upO (mG.call (mG.call (mG.call mG.refl h780.1 (List.forall_mem_cons.mpr ⟨⟨_, List.mem_cons_self, vc_X12_say_u_32⟩, (fun _ h => absurd h List.not_mem_nil)⟩)) G873 (List.forall_mem_cons.mpr ⟨⟨_, List.mem_cons_self, vc_X12_say_u_33⟩, (List.forall_mem_cons.mpr ⟨⟨_, (List.mem_cons_of_mem _ List.mem_cons_self), vc_X12_say_u_34⟩, (fun _ h => absurd h List.not_mem_nil)⟩)⟩)) h903.1 (List.forall_mem_cons.mpr ⟨⟨_, (List.mem_cons_of_mem _ List.mem_cons_self), (vc_X12_say_u_35 h771.2.1 hq0 hq2 h766.2.1 h766.2.2.1 ht_f_e0 h2 h1 hp1 hp2 hp3 h766.1 h773)⟩, (fun _ h => absurd h List.not_mem_nil)⟩)) u908 rfl) u914 rfl) h922.1 (List.forall_mem_cons.mpr ⟨⟨_, (List.mem_cons_of_mem _ List.mem_cons_self), (vc_X12_say_u_36 h771.2.1 hq0 hq2 h766.2.1 h766.2.2.1 ht_f_e0 h2 h1 hp1 hp2 hp3 h766.1 h773)⟩, (fun _ h => absurd h List.not_mem_nil)⟩)) u930 rfl) u938 rfl) u943 rfl), (JC.keepJ I874 hw ((mF.up (mF.up (mF.up (mF.call (mF.up (mF.up (mF.call mF.refl F899 rfl) (A_155 hw) u908 rfl) (A_156 hw) u914 rfl) F918 rfl) (A_157 hw) u930 rfl) (A_158 hw) u938 rfl) (A_106 hw) u943 rfl) : mF [106072, 126999, 155999, 156999, 157999, 158999] w μ870 μ942) rfl), (RP.keep h922.2.1 hw ((mF.up (mF.up (mF.up mF.refl (A_157 hw) u930 rfl) (A_158 hw) u938 rfl) (A_106 hw) u943 rfl) : mF [106072, 157999, 158999] w μ916 μ942) rfl ((mG.upO (mG.upO (mG.upO mG.refl u930 rfl) u938 rfl) u943 rfl) : mG [] μ916 μ942) (fun _ h => absurd h List.not_mem_nil)), (EP.keep I932 hw ((mF.up (mF.up mF.refl (A_158 hw) u938 rfl) (A_106 hw) u943 rfl) : mF [106072, 158999] w μ929 μ942) rfl), (G1.keep I877 hw ((mF.up (mF.up (mF.up (mF.call (mF.up (mF.up (mF.call mF.refl F899 rfl) (A_155 hw) u908 rfl) (A_156 hw) u914 rfl) F918 rfl) (A_157 hw) u930 rfl) (A_158 hw) u938 rfl) (A_106 hw) u943 rfl) : mF [106072, 126999, 155999, 156999, 157999, 158999] w μ870 μ942) rfl rfl ((mG.upO (mG.upO (mG.upO (mG.call (mG.upO (mG.upO (mG.call mG.refl h903.1 (List.forall_mem_cons.mpr ⟨⟨_, List.mem_cons_self, (vc_X12_say_u_37 h771.2.1 hq0 hq2 h766.2.1 h766.2.2.1 ht_f_e0 h2 h1 hp1 hp2 hp3 h766.1 h773)⟩, (fun _ h => absurd h List.not_mem_nil)⟩)) u908 rfl) u914 rfl) h922.1 (List.forall_mem_cons.mpr ⟨⟨_, (List.mem_cons_of_mem _ List.mem_cons_self), (vc_X12_say_u_38 h771.2.1 hq0 hq2 h766.2.1 h766.2.2.1 ht_f_e0 h2 h1 hp1 hp2 hp3 h766.1 h773)⟩, (fun _ h => absurd h List.not_mem_nil)⟩)) u930 rfl) u938 rfl) u943 rfl) : mG [((40 * (530 + z772)), ((40 * (530 + z772)) + 40)), ((40 * (930 + z772)), ((40 * (930 + z772)) + 40))] μ870 μ942) (List.forall_mem_cons.mpr ⟨(vc_X12_say_u_40 h771.2.1 hq0 hq2 h766.2.1 h766.2.2.1 ht_f_e0 h2 h1 hp1 hp2 hp3 h766.1 h773), (List.forall_mem_cons.mpr ⟨(vc_X12_say_u_39 h771.2.1 hq0 hq2 h766.2.1 h766.2.2.1 ht_f_e0 h2 h1 hp1 hp2 hp3 h766.1 h773), (fun _ h => absurd h List.not_mem_nil)⟩)⟩)), (EV.keep I933 hw ((mF.up (mF.up mF.refl (A_158 hw) u938 rfl) (A_106 hw) u943 rfl) : mF [106072, 158999] w μ929 μ942) rfl), trivial⟩
      have h945 : 1 ≤ z888 ∧ z888 ≤ 1 := (vc_X12_ring_24 h891 h890)
      refine sv_aload_n (pc := 162) dX12_say_162 rfl rfl ?_
      refine gf_X12_71 (pc := 163) dX12_say_163 wF_X12_591 (A_106 hw) T871 fun z946 q947 h948 => ?_
      refine sv_aload_n (pc := 166) dX12_say_166 rfl rfl ?_
      refine gf_X12_76 (pc := 167) dX12_say_167 wF_X12_430 (A_106 hw) T871 ?_
      refine mr_iload (pc := 170) (z := z772) dX12_say_170 rfl ?_
      refine la_156 (pc := 172) dX12_say_172 (A_156 hw) T871 (rIx (n := 400) h773 rfl) fun z949 q950 h951 => ?_
      refine sv_aload_n (pc := 173) dX12_say_173 rfl rfl ?_
      refine gf_X12_11 (pc := 174) dX12_say_174 wF_X12_60 (A_106 hw) T871 ?_
      refine mr_iload_n (pc := 177) (z := p2) dX12_say_177 rfl rfl ?_
      refine la_114 (pc := 178) dX12_say_178 (A_114 hw) T871 (rIx (n := 20) hp2 rfl) fun z952 q953 h954 => ?_
      refine mr_iadd (pc := 179) (x := z949) (y := z952) dX12_say_179 ?_
      refine mr_icmp_ge (pc := 180) (tgt := 236) dX12_say_180 (by decide) (r32 h948 rfl) (r32 (rAdd (e := 0) (f := 2000001000) h951 h954 rfl) rfl) (fun h955 => ?_) (fun h955 => ?_)
      · refine sv_aload_n (pc := 236) dX12_say_236 rfl rfl ?_
        refine mr_iconst (pc := 237) (z := 2) dX12_say_237 ?_
        refine mr_sipush (pc := 238) (z := 530) dX12_say_238 (by decide) ?_
        refine mr_iload (pc := 241) (z := z772) dX12_say_241 rfl ?_
        refine mr_iadd (pc := 243) (x := 530) (y := z772) dX12_say_243 ?_
        obtain ⟨z956, q957⟩ : ∃ z, μ870 126 (((40 * 2) : Int).toNat) = z := ⟨_, rfl⟩
        have h958 := rt7 T871 (A_126 hw) vc_X12_say_u_5 q957
        have h959 : (-1) ≤ z956 ∧ z956 ≤ 9 := h958.2.1 vc_X12_say_u_6
        refine mr_cVV (pc := 244) (c_X12_copy_u hw T871 (rW (c := 0) (d := 2099) (rR (x := 2)) rfl) (rW (c := 0) (d := 2099) (rAdd (e := 530) (f := 929) (rR (x := 530)) h773 rfl) rfl) q957 (F872.f (A_106 hw) rfl (F776.f (A_106 hw) rfl q_f_pre)) (vc_X12_say_u_16 h771.2.1 hq0 hq2 h766.2.1 h766.2.2.1 ht_f_e0 h2 h1 hp1 hp2 hp3 h766.1 h773) vc_X12_say_u_17 (vc_X12_say_u_18 h771.2.1 hq0 hq2 h766.2.1 h766.2.2.1 ht_f_e0 h2 h1 hp1 hp2 hp3 h766.1 h773) (vc_X12_say_u_19 hq2 h771.2.1 h2 hp2 hp3 h766.1 h773) I875) (gOk _ _ _ _ _) dX12_say_244 (tX12_copy _ _ _ _ _) ⟨wV_X12_copy, wL_X12_copy⟩ wM_X12_559 (gCX12 _ _ _ _ _) rfl (A_106 hw) rfl ⟨le_t rfl, le_t rfl⟩ ⟨le_t rfl, le_t rfl⟩ rfl (le_t rfl) fun μ960 T961 F962 h963 => ?_
        obtain ⟨z964, q965, h966⟩ := h963
        have h967 := rt7 T961 (A_126 hw) (vc_X12_say_u_20 h771.2.1 hq0 hq2 h766.2.1 h766.2.2.1 ht_f_e0 h2 h1 hp1 hp2 hp3 h766.1 h773) q965
        have h968 : (-1) ≤ z964 ∧ z964 ≤ 9 := h967.2.1 (vc_X12_say_u_21 h771.2.1 hq0 hq2 h766.2.1 h766.2.2.1 ht_f_e0 h2 h1 hp1 hp2 hp3 h766.1 h773)
        have q969 : μ960 126 ((40 * (530 + z772)).toNat) = z956 := q965.trans h966.2.2.1
        refine sv_aload_n (pc := 247) dX12_say_247 rfl rfl ?_
        refine gf_X12_75 (pc := 248) dX12_say_248 wF_X12_427 (A_106 hw) T961 ?_
        refine mr_iload (pc := 251) (z := z772) dX12_say_251 rfl ?_
        refine mr_iconst (pc := 253) (z := 1) dX12_say_253 ?_
        refine ss_155 (pc := 254) dX12_say_254 (A_155 hw) T961 (rIx (n := 400) h773 rfl) (rW (c := 0) (d := 1) (rR (x := 1)) rfl) fun μ970 u971 T972 => ?_
        refine sv_aload_n (pc := 255) dX12_say_255 rfl rfl ?_
        refine gf_X12_76 (pc := 256) dX12_say_256 wF_X12_430 (A_106 hw) T972 ?_
        refine mr_iload (pc := 259) (z := z772) dX12_say_259 rfl ?_
        refine sv_aload_n (pc := 261) dX12_say_261 rfl rfl ?_
        refine gk_X12_71 (pc := 262) dX12_say_262 wF_X12_591 (A_106 hw) (u971.f (Or.inl (mAt.ne (A_155 hw) (A_106 hw) rfl)) (F962.f (A_106 hw) rfl q947)) ?_
        refine ss_156 (pc := 265) dX12_say_265 (A_156 hw) T972 (rIx (n := 400) h773 rfl) h948 fun μ973 u974 T975 => ?_
        refine sv_aload_n (pc := 266) dX12_say_266 rfl rfl ?_
        refine mr_iconst (pc := 267) (z := 2) dX12_say_267 ?_
        refine mr_sipush (pc := 268) (z := 930) dX12_say_268 (by decide) ?_
        refine mr_iload (pc := 271) (z := z772) dX12_say_271 rfl ?_
        refine mr_iadd (pc := 273) (x := 930) (y := z772) dX12_say_273 ?_
        refine mr_cVV (pc := 274) (c_X12_copy_u hw T975 (rW (c := 0) (d := 2099) (rR (x := 2)) rfl) (rW (c := 0) (d := 2099) (rAdd (e := 930) (f := 1329) (rR (x := 930)) h773 rfl) rfl) (u974.f (Or.inl (mAt.ne (A_156 hw) (A_126 hw) rfl)) (u971.f (Or.inl (mAt.ne (A_155 hw) (A_126 hw) rfl)) (h966.1.f vc_X12_say_u_5 (List.forall_mem_cons.mpr ⟨(vc_X12_say_u_22 h771.2.1 hq0 hq2 h766.2.1 h766.2.2.1 ht_f_e0 h2 h1 hp1 hp2 hp3 h766.1 h773), (fun _ h => absurd h List.not_mem_nil)⟩) q957))) (u974.f (Or.inl (mAt.ne (A_156 hw) (A_106 hw) rfl)) (u971.f (Or.inl (mAt.ne (A_155 hw) (A_106 hw) rfl)) (F962.f (A_106 hw) rfl (F872.f (A_106 hw) rfl (F776.f (A_106 hw) rfl q_f_pre))))) (vc_X12_say_u_23 h771.2.1 hq0 hq2 h766.2.1 h766.2.2.1 ht_f_e0 h2 h1 hp1 hp2 hp3 h766.1 h773) vc_X12_say_u_17 (vc_X12_say_u_24 h771.2.1 hq0 hq2 h766.2.1 h766.2.2.1 ht_f_e0 h2 h1 hp1 hp2 hp3 h766.1 h773) (vc_X12_say_u_19 hq2 h771.2.1 h2 hp2 hp3 h766.1 h773) (RP.keep h966.2.1 hw ((mF.up (mF.up mF.refl (A_155 hw) u971 rfl) (A_156 hw) u974 rfl) : mF [155999, 156999] w μ960 μ973) rfl ((mG.upO (mG.upO mG.refl u971 rfl) u974 rfl) : mG [] μ960 μ973) (fun _ h => absurd h List.not_mem_nil))) (gOk _ _ _ _ _) dX12_say_274 (tX12_copy _ _ _ _ _) ⟨wV_X12_copy, wL_X12_copy⟩ wM_X12_559 (gCX12 _ _ _ _ _) rfl (A_106 hw) rfl ⟨le_t rfl, le_t rfl⟩ ⟨le_t rfl, le_t rfl⟩ rfl (le_t rfl) fun μ976 T977 F978 h979 => ?_
        obtain ⟨z980, q981, h982⟩ := h979
        have h983 := rt7 T977 (A_126 hw) (vc_X12_say_u_25 h771.2.1 hq0 hq2 h766.2.1 h766.2.2.1 ht_f_e0 h2 h1 hp1 hp2 hp3 h766.1 h773) q981
        have h984 : (-1) ≤ z980 ∧ z980 ≤ 9 := h983.2.1 (vc_X12_say_u_26 h771.2.1 hq0 hq2 h766.2.1 h766.2.2.1 ht_f_e0 h2 h1 hp1 hp2 hp3 h766.1 h773)
        have q985 : μ976 126 ((40 * (930 + z772)).toNat) = z956 := q981.trans h982.2.2.1
        refine sv_aload_n (pc := 277) dX12_say_277 rfl rfl ?_
        refine gf_X12_77 (pc := 278) dX12_say_278 wF_X12_433 (A_106 hw) T977 ?_
        refine mr_iload (pc := 281) (z := z772) dX12_say_281 rfl ?_
        refine sv_aload_n (pc := 283) dX12_say_283 rfl rfl ?_
        refine gk_X12_71 (pc := 284) dX12_say_284 wF_X12_591 (A_106 hw) (F978.f (A_106 hw) rfl (u974.f (Or.inl (mAt.ne (A_156 hw) (A_106 hw) rfl)) (u971.f (Or.inl (mAt.ne (A_155 hw) (A_106 hw) rfl)) (F962.f (A_106 hw) rfl q947)))) ?_
        refine sv_aload_n (pc := 287) dX12_say_287 rfl rfl ?_
        refine gf_X12_10 (pc := 288) dX12_say_288 wF_X12_57 (A_106 hw) T977 ?_
        refine mr_iload_n (pc := 291) (z := p2) dX12_say_291 rfl rfl ?_
        refine la_113 (pc := 292) dX12_say_292 (A_113 hw) T977 (rIx (n := 20) hp2 rfl) fun z986 q987 h988 => ?_
        refine mr_iadd (pc := 293) (x := z946) (y := z986) dX12_say_293 ?_
        refine ss_157 (pc := 294) dX12_say_294 (A_157 hw) T977 (rIx (n := 400) h773 rfl) (rW (c := (-1)) (d := 2000001000) (rAdd (e := 0) (f := 2000001000) h948 h988 rfl) rfl) fun μ989 u990 T991 => ?_
        have I992 : EP μ989 := EP.up1 (EP.keep I876 hw ((mF.call (mF.up (mF.up (mF.call mF.refl F962 rfl) (A_155 hw) u971 rfl) (A_156 hw) u974 rfl) F978 rfl) : mF [126999, 155999, 156999] w μ870 μ976) rfl) u990 (vc_X12_say_u_27 h771.2.1 hq0 hq2 h766.2.1 h766.2.2.1 ht_f_e0 h2 h1 hp1 hp2 hp3 h766.1 h773) (u990.f (Or.inl (mAt.ne (A_157 hw) (A_106 hw) rfl)) (F978.f (A_106 hw) rfl (u974.f (Or.inl (mAt.ne (A_156 hw) (A_106 hw) rfl)) (u971.f (Or.inl (mAt.ne (A_155 hw) (A_106 hw) rfl)) (F962.f (A_106 hw) rfl (F872.f (A_106 hw) rfl (F776.f (A_106 hw) rfl q_f_pre))))))) (vc_X12_say_u_28 hq2 h771.2.1 hq0 h766.2.1 h766.2.2.1 ht_f_e0 h2 h1 hp1 hp2 hp3 h766.1 h773) (vc_X12_say_u_29 hq0 h771.2.1 hq2 h766.2.1 h766.2.2.1 ht_f_e0 h2 h1 hp1 hp2 hp3 h766.1 h773) (u990.f (Or.inl (mAt.ne (A_157 hw) (A_112 hw) rfl)) (F978.f (A_112 hw) rfl (u974.f (Or.inl (mAt.ne (A_156 hw) (A_112 hw) rfl)) (u971.f (Or.inl (mAt.ne (A_155 hw) (A_112 hw) rfl)) (F962.f (A_112 hw) rfl (F872.f (A_112 hw) rfl (F776.f (A_112 hw) rfl q_f_up))))))) (vc_X12_say_u_30 hq3 h3)
        have I993 : EV μ989 := EV.up1 (EV.keep I878 hw ((mF.call (mF.up (mF.up (mF.call mF.refl F962 rfl) (A_155 hw) u971 rfl) (A_156 hw) u974 rfl) F978 rfl) : mF [126999, 155999, 156999] w μ870 μ976) rfl) u990 (u990.f (Or.inl (mAt.ne (A_157 hw) (A_106 hw) rfl)) (F978.f (A_106 hw) rfl (u974.f (Or.inl (mAt.ne (A_156 hw) (A_106 hw) rfl)) (u971.f (Or.inl (mAt.ne (A_155 hw) (A_106 hw) rfl)) (F962.f (A_106 hw) rfl (F872.f (A_106 hw) rfl (F776.f (A_106 hw) rfl q_f_ties))))))) (vc_X12_say_u_27 h771.2.1 hq0 hq2 h766.2.1 h766.2.2.1 ht_f_e0 h2 h1 hp1 hp2 hp3 h766.1 h773) (vc_X12_say_u_42 hq0 h771.2.1 h955 hq2 h766.2.1 h766.2.2.1 ht_f_e0 h2 h1 hp1 hp2 hp3 h766.1 h773 h948 h951 h954 h988)
        refine sv_aload_n (pc := 295) dX12_say_295 rfl rfl ?_
        refine gf_X12_78 (pc := 296) dX12_say_296 wF_X12_436 (A_106 hw) T991 ?_
        refine mr_iload (pc := 299) (z := z772) dX12_say_299 rfl ?_
        refine sv_aload_n (pc := 301) dX12_say_301 rfl rfl ?_
        refine gf_X12_72 (pc := 302) dX12_say_302 wF_X12_594 (A_106 hw) T991 fun z994 q995 h996 => ?_
        refine ss_158 (pc := 305) dX12_say_305 (A_158 hw) T991 (rIx (n := 400) h773 rfl) h996 fun μ997 u998 T999 => ?_
        refine sv_aload_n (pc := 306) dX12_say_306 rfl rfl ?_
        refine sv_dup (pc := 307) dX12_say_307 rfl ?_
        refine gk_X12_72 (pc := 308) dX12_say_308 wF_X12_594 (A_106 hw) (u998.f (Or.inl (mAt.ne (A_158 hw) (A_106 hw) rfl)) q995) ?_
        refine mr_iconst (pc := 311) (z := 1) dX12_say_311 ?_
        refine mr_iadd (pc := 312) (x := z994) (y := 1) dX12_say_312 ?_
        refine mr_wrap fun z1000 h1001 => ?_
        refine pf_X12_72 (pc := 313) dX12_say_313 wF_X12_594 (A_106 hw) T999 h1001 fun μ1002 u1003 T1004 => ?_
        exact mr_vret dX12_say_316 rfl (le_t rfl) (le_t rfl) T1004 (mF.up (mF.up (mF.up (mF.call (mF.up (mF.up (mF.call (mF.call (mF.call mF.refl F776 rfl) F872 rfl) F962 rfl) (A_155 hw) u971 rfl) (A_156 hw) u974 rfl) F978 rfl) (A_157 hw) u990 rfl) (A_158 hw) u998 rfl) (A_106 hw) u1003 rfl) ⟨(mG.upO (mG.upO (mG.upO (mG.call (mG.upO (mG.upO (mG.call (mG.call (mG.call mG.refl h780.1 (List.forall_mem_cons.mpr ⟨⟨_, List.mem_cons_self, vc_X12_say_u_32⟩, (fun _ h => absurd h List.not_mem_nil)⟩)) G873 (List.forall_mem_cons.mpr ⟨⟨_, List.mem_cons_self, vc_X12_say_u_33⟩, (List.forall_mem_cons.mpr ⟨⟨_, (List.mem_cons_of_mem _ List.mem_cons_self), vc_X12_say_u_34⟩, (fun _ h => absurd h List.not_mem_nil)⟩)⟩)) h966.1 (List.forall_mem_cons.mpr ⟨⟨_, (List.mem_cons_of_mem _ List.mem_cons_self), (vc_X12_say_u_35 h771.2.1 hq0 hq2 h766.2.1 h766.2.2.1 ht_f_e0 h2 h1 hp1 hp2 hp3 h766.1 h773)⟩, (fun _ h => absurd h List.not_mem_nil)⟩)) u971 rfl) u974 rfl) h982.1 (List.forall_mem_cons.mpr ⟨⟨_, (List.mem_cons_of_mem _ List.mem_cons_self), (vc_X12_say_u_36 h771.2.1 hq0 hq2 h766.2.1 h766.2.2.1 ht_f_e0 h2 h1 hp1 hp2 hp3 h766.1 h773)⟩, (fun _ h => absurd h List.not_mem_nil)⟩)) u990 rfl) u998 rfl) u1003 rfl), (JC.keepJ I874 hw ((mF.up (mF.up (mF.up (mF.call (mF.up (mF.up (mF.call mF.refl F962 rfl) (A_155 hw) u971 rfl) (A_156 hw) u974 rfl) F978 rfl) (A_157 hw) u990 rfl) (A_158 hw) u998 rfl) (A_106 hw) u1003 rfl) : mF [106072, 126999, 155999, 156999, 157999, 158999] w μ870 μ1002) rfl), (RP.keep h982.2.1 hw ((mF.up (mF.up (mF.up mF.refl (A_157 hw) u990 rfl) (A_158 hw) u998 rfl) (A_106 hw) u1003 rfl) : mF [106072, 157999, 158999] w μ976 μ1002) rfl ((mG.upO (mG.upO (mG.upO mG.refl u990 rfl) u998 rfl) u1003 rfl) : mG [] μ976 μ1002) (fun _ h => absurd h List.not_mem_nil)), (EP.keep I992 hw ((mF.up (mF.up mF.refl (A_158 hw) u998 rfl) (A_106 hw) u1003 rfl) : mF [106072, 158999] w μ989 μ1002) rfl), (G1.keep I877 hw ((mF.up (mF.up (mF.up (mF.call (mF.up (mF.up (mF.call mF.refl F962 rfl) (A_155 hw) u971 rfl) (A_156 hw) u974 rfl) F978 rfl) (A_157 hw) u990 rfl) (A_158 hw) u998 rfl) (A_106 hw) u1003 rfl) : mF [106072, 126999, 155999, 156999, 157999, 158999] w μ870 μ1002) rfl rfl ((mG.upO (mG.upO (mG.upO (mG.call (mG.upO (mG.upO (mG.call mG.refl h966.1 (List.forall_mem_cons.mpr ⟨⟨_, List.mem_cons_self, (vc_X12_say_u_37 h771.2.1 hq0 hq2 h766.2.1 h766.2.2.1 ht_f_e0 h2 h1 hp1 hp2 hp3 h766.1 h773)⟩, (fun _ h => absurd h List.not_mem_nil)⟩)) u971 rfl) u974 rfl) h982.1 (List.forall_mem_cons.mpr ⟨⟨_, (List.mem_cons_of_mem _ List.mem_cons_self), (vc_X12_say_u_38 h771.2.1 hq0 hq2 h766.2.1 h766.2.2.1 ht_f_e0 h2 h1 hp1 hp2 hp3 h766.1 h773)⟩, (fun _ h => absurd h List.not_mem_nil)⟩)) u990 rfl) u998 rfl) u1003 rfl) : mG [((40 * (530 + z772)), ((40 * (530 + z772)) + 40)), ((40 * (930 + z772)), ((40 * (930 + z772)) + 40))] μ870 μ1002) (List.forall_mem_cons.mpr ⟨(vc_X12_say_u_40 h771.2.1 hq0 hq2 h766.2.1 h766.2.2.1 ht_f_e0 h2 h1 hp1 hp2 hp3 h766.1 h773), (List.forall_mem_cons.mpr ⟨(vc_X12_say_u_39 h771.2.1 hq0 hq2 h766.2.1 h766.2.2.1 ht_f_e0 h2 h1 hp1 hp2 hp3 h766.1 h773), (fun _ h => absurd h List.not_mem_nil)⟩)⟩)), (EV.keep I993 hw ((mF.up (mF.up mF.refl (A_158 hw) u998 rfl) (A_106 hw) u1003 rfl) : mF [106072, 158999] w μ989 μ1002) rfl), trivial⟩
      refine sv_aload_n (pc := 183) dX12_say_183 rfl rfl ?_
      refine gf_X12_79 (pc := 184) dX12_say_184 wF_X12_439 (A_106 hw) T871 ?_
      refine mr_iload (pc := 187) (z := z772) dX12_say_187 rfl ?_
      refine la_159 (pc := 189) dX12_say_189 (A_159 hw) T871 (rIx (n := 400) h773 rfl) fun z1005 q1006 h1007 => ?_
      refine mr_if_ge (pc := 190) (tgt := 235) dX12_say_190 (by decide) (r32 h1007 rfl) (fun h1024 => ?_) (fun h1024 => ?_)
      · have h1025 : 0 ≤ z1005 ∧ z1005 ≤ 2000001000 := (vc_X12_count_19 h1024 h1007)
        exact mr_vret dX12_say_235 rfl (le_t rfl) (le_t rfl) T871 (mF.call (mF.call mF.refl F776 rfl) F872 rfl) ⟨(mG.call (mG.call mG.refl h780.1 (List.forall_mem_cons.mpr ⟨⟨_, List.mem_cons_self, vc_X12_say_u_32⟩, (fun _ h => absurd h List.not_mem_nil)⟩)) G873 (List.forall_mem_cons.mpr ⟨⟨_, List.mem_cons_self, vc_X12_say_u_33⟩, (List.forall_mem_cons.mpr ⟨⟨_, (List.mem_cons_of_mem _ List.mem_cons_self), vc_X12_say_u_34⟩, (fun _ h => absurd h List.not_mem_nil)⟩)⟩)), I874, I875, I876, I877, I878, trivial⟩
      have h1026 : (-1) ≤ z1005 ∧ z1005 ≤ (-1) := (vc_X12_count_17 h1024 h1007)
      refine sv_aload_n (pc := 193) dX12_say_193 rfl rfl ?_
      refine gf_X12_79 (pc := 194) dX12_say_194 wF_X12_439 (A_106 hw) T871 ?_
      refine mr_iload (pc := 197) (z := z772) dX12_say_197 rfl ?_
      refine sv_aload_n (pc := 199) dX12_say_199 rfl rfl ?_
      refine gf_X12_76 (pc := 200) dX12_say_200 wF_X12_430 (A_106 hw) T871 ?_
      refine mr_iload (pc := 203) (z := z772) dX12_say_203 rfl ?_
      refine lk_156 (pc := 205) dX12_say_205 (A_156 hw) (rIx (n := 400) h773 rfl) q950 ?_
      refine sv_aload_n (pc := 206) dX12_say_206 rfl rfl ?_
      refine gf_X12_11 (pc := 207) dX12_say_207 wF_X12_60 (A_106 hw) T871 ?_
      refine mr_iload_n (pc := 210) (z := p2) dX12_say_210 rfl rfl ?_
      refine lk_114 (pc := 211) dX12_say_211 (A_114 hw) (rIx (n := 20) hp2 rfl) q953 ?_
      refine mr_iadd (pc := 212) (x := z949) (y := z952) dX12_say_212 ?_
      refine ss_159 (pc := 213) dX12_say_213 (A_159 hw) T871 (rIx (n := 400) h773 rfl) (rW (c := (-1)) (d := 2000001000) (rAdd (e := 0) (f := 2000001000) h951 h954 rfl) rfl) fun μ1027 u1028 T1029 => ?_
      have I1030 : EP μ1027 := EP.up2 I876 u1028 (vc_X12_say_u_27 h771.2.1 hq0 hq2 h766.2.1 h766.2.2.1 ht_f_e0 h2 h1 hp1 hp2 hp3 h766.1 h773) (u1028.f (Or.inl (mAt.ne (A_159 hw) (A_106 hw) rfl)) (F872.f (A_106 hw) rfl (F776.f (A_106 hw) rfl q_f_pre))) (vc_X12_say_u_28 hq2 h771.2.1 hq0 h766.2.1 h766.2.2.1 ht_f_e0 h2 h1 hp1 hp2 hp3 h766.1 h773) (vc_X12_say_u_29 hq0 h771.2.1 hq2 h766.2.1 h766.2.2.1 ht_f_e0 h2 h1 hp1 hp2 hp3 h766.1 h773) (u1028.f (Or.inl (mAt.ne (A_159 hw) (A_112 hw) rfl)) (F872.f (A_112 hw) rfl (F776.f (A_112 hw) rfl q_f_up))) (vc_X12_say_u_30 hq3 h3)
      have I1031 : EV μ1027 := EV.up2 I878 u1028 (u1028.f (Or.inl (mAt.ne (A_159 hw) (A_106 hw) rfl)) (F872.f (A_106 hw) rfl (F776.f (A_106 hw) rfl q_f_ties))) (vc_X12_say_u_27 h771.2.1 hq0 hq2 h766.2.1 h766.2.2.1 ht_f_e0 h2 h1 hp1 hp2 hp3 h766.1 h773) (vc_X12_say_u_45 hq0 h771.2.1 h955 hq2 h766.2.1 h766.2.2.1 ht_f_e0 h2 h1 hp1 hp2 hp3 h766.1 h773 h948 h951 h954)
      refine sv_aload_n (pc := 214) dX12_say_214 rfl rfl ?_
      refine gf_X12_80 (pc := 215) dX12_say_215 wF_X12_442 (A_106 hw) T1029 ?_
      refine mr_iload (pc := 218) (z := z772) dX12_say_218 rfl ?_
      refine sv_aload_n (pc := 220) dX12_say_220 rfl rfl ?_
      refine gf_X12_72 (pc := 221) dX12_say_221 wF_X12_594 (A_106 hw) T1029 fun z1032 q1033 h1034 => ?_
      refine ss_160 (pc := 224) dX12_say_224 (A_160 hw) T1029 (rIx (n := 400) h773 rfl) h1034 fun μ1035 u1036 T1037 => ?_
      refine sv_aload_n (pc := 225) dX12_say_225 rfl rfl ?_
      refine sv_dup (pc := 226) dX12_say_226 rfl ?_
      refine gk_X12_72 (pc := 227) dX12_say_227 wF_X12_594 (A_106 hw) (u1036.f (Or.inl (mAt.ne (A_160 hw) (A_106 hw) rfl)) q1033) ?_
      refine mr_iconst (pc := 230) (z := 1) dX12_say_230 ?_
      refine mr_iadd (pc := 231) (x := z1032) (y := 1) dX12_say_231 ?_
      refine mr_wrap fun z1038 h1039 => ?_
      refine pf_X12_72 (pc := 232) dX12_say_232 wF_X12_594 (A_106 hw) T1037 h1039 fun μ1040 u1041 T1042 => ?_
      exact mr_vret dX12_say_235 rfl (le_t rfl) (le_t rfl) T1042 (mF.up (mF.up (mF.up (mF.call (mF.call mF.refl F776 rfl) F872 rfl) (A_159 hw) u1028 rfl) (A_160 hw) u1036 rfl) (A_106 hw) u1041 rfl) ⟨(mG.upO (mG.upO (mG.upO (mG.call (mG.call mG.refl h780.1 (List.forall_mem_cons.mpr ⟨⟨_, List.mem_cons_self, vc_X12_say_u_32⟩, (fun _ h => absurd h List.not_mem_nil)⟩)) G873 (List.forall_mem_cons.mpr ⟨⟨_, List.mem_cons_self, vc_X12_say_u_33⟩, (List.forall_mem_cons.mpr ⟨⟨_, (List.mem_cons_of_mem _ List.mem_cons_self), vc_X12_say_u_34⟩, (fun _ h => absurd h List.not_mem_nil)⟩)⟩)) u1028 rfl) u1036 rfl) u1041 rfl), (JC.keepJ I874 hw ((mF.up (mF.up (mF.up mF.refl (A_159 hw) u1028 rfl) (A_160 hw) u1036 rfl) (A_106 hw) u1041 rfl) : mF [106072, 159999, 160999] w μ870 μ1040) rfl), (RP.keep I875 hw ((mF.up (mF.up (mF.up mF.refl (A_159 hw) u1028 rfl) (A_160 hw) u1036 rfl) (A_106 hw) u1041 rfl) : mF [106072, 159999, 160999] w μ870 μ1040) rfl ((mG.upO (mG.upO (mG.upO mG.refl u1028 rfl) u1036 rfl) u1041 rfl) : mG [] μ870 μ1040) (fun _ h => absurd h List.not_mem_nil)), (EP.keep I1030 hw ((mF.up (mF.up mF.refl (A_160 hw) u1036 rfl) (A_106 hw) u1041 rfl) : mF [106072, 160999] w μ1027 μ1040) rfl), (G1.keep I877 hw ((mF.up (mF.up (mF.up mF.refl (A_159 hw) u1028 rfl) (A_160 hw) u1036 rfl) (A_106 hw) u1041 rfl) : mF [106072, 159999, 160999] w μ870 μ1040) rfl rfl ((mG.upO (mG.upO (mG.upO mG.refl u1028 rfl) u1036 rfl) u1041 rfl) : mG [] μ870 μ1040) (fun _ h => absurd h List.not_mem_nil)), (EV.keep I1031 hw ((mF.up (mF.up mF.refl (A_160 hw) u1036 rfl) (A_106 hw) u1041 rfl) : mF [106072, 160999] w μ1027 μ1040) rfl), trivial⟩
    have h1043 : 1 ≤ z885 ∧ z885 ≤ 1 := (vc_X12_ring_24 h886 h884.1)
    exact mr_vret dX12_say_151 rfl (le_t rfl) (le_t rfl) T871 (mF.call (mF.call mF.refl F776 rfl) F872 rfl) ⟨(mG.call (mG.call mG.refl h780.1 (List.forall_mem_cons.mpr ⟨⟨_, List.mem_cons_self, vc_X12_say_u_32⟩, (fun _ h => absurd h List.not_mem_nil)⟩)) G873 (List.forall_mem_cons.mpr ⟨⟨_, List.mem_cons_self, vc_X12_say_u_33⟩, (List.forall_mem_cons.mpr ⟨⟨_, (List.mem_cons_of_mem _ List.mem_cons_self), vc_X12_say_u_34⟩, (fun _ h => absurd h List.not_mem_nil)⟩)⟩)), I874, I875, I876, I877, I878, trivial⟩
  refine mr_icmp_eq (pc := 39) (tgt := 137) dX12_say_39 (by decide) (r32 h788 rfl) (r32 (rR (x := (-99999999))) rfl) (fun h1044 => ?_) (fun h1044 => ?_)
  · have h1045 : (-99999999) ≤ z785 ∧ z785 ≤ (-99999999) := (vc_X12_say_u_47 h1044 h793 h788 h787 h792)
    refine mr_lvS (lv' := [(0, .ref 106), (2, iv p2), (5, iv z772)]) (List.forall_mem_cons.mpr ⟨rfl, List.forall_mem_cons.mpr ⟨rfl, List.forall_mem_cons.mpr ⟨rfl, fun _ h => absurd h List.not_mem_nil⟩⟩⟩) ?_
    exact J880 μ774 T775 mF.refl mG.refl (JC.keepJ hIJC hw ((mF.call mF.refl F776 rfl) : mF [126999] w μ μ774) rfl) h780.2.1 (EP.keep hIEP hw ((mF.call mF.refl F776 rfl) : mF [126999] w μ μ774) rfl) (G1.keep hIG1 hw ((mF.call mF.refl F776 rfl) : mF [126999] w μ μ774) rfl rfl ((mG.call mG.refl h780.1 (List.forall_mem_cons.mpr ⟨⟨_, List.mem_cons_self, vc_X12_say_u_11⟩, (fun _ h => absurd h List.not_mem_nil)⟩)) : mG [((40 * 2), ((40 * 2) + 1))] μ μ774) (List.forall_mem_cons.mpr ⟨vc_X12_say_u_12, (fun _ h => absurd h List.not_mem_nil)⟩)) (EV.keep hIEV hw ((mF.call mF.refl F776 rfl) : mF [126999] w μ μ774) rfl) (PK.keep hIPK hw ((mF.call mF.refl F776 rfl) : mF [126999] w μ μ774) rfl)
  have h1046 : (-4) ≤ z785 ∧ z785 ≤ 19 := (vc_X12_say_u_48 h1044 h793 h788 h787 h792)
  refine sv_aload_n (pc := 42) dX12_say_42 rfl rfl ?_
  refine gf_X12_81 (pc := 43) dX12_say_43 wF_X12_445 (A_106 hw) T775 ?_
  refine mr_iload (pc := 46) (z := ((10 * p1) + p3)) dX12_say_46 rfl ?_
  refine lk_161 (pc := 48) dX12_say_48 (A_161 hw) (rIx (n := 100) (rAdd (e := 0) (f := 99) (rMulL (n := 10) (e := 0) (f := 90) hp1 rfl) hp3 rfl) rfl) q786 ?_
  refine mr_iload_n (pc := 49) (z := p2) dX12_say_49 rfl rfl ?_
  refine mr_icmp_eq (pc := 50) (tgt := 137) dX12_say_50 (by decide) (r32 h1046 rfl) (r32 hp2 rfl) (fun h1047 => ?_) (fun h1047 => ?_)
  · have h1048 : 0 ≤ z785 ∧ z785 ≤ 19 := (vc_X12_say_u_49 h1047 hq0 h771.2.1 h793 h1044 h1 hp2 hp3 h766.1 h773 h1046 h787 h792)
    refine mr_lvS (lv' := [(0, .ref 106), (2, iv p2), (5, iv z772)]) (List.forall_mem_cons.mpr ⟨rfl, List.forall_mem_cons.mpr ⟨rfl, List.forall_mem_cons.mpr ⟨rfl, fun _ h => absurd h List.not_mem_nil⟩⟩⟩) ?_
    exact J880 μ774 T775 mF.refl mG.refl (JC.keepJ hIJC hw ((mF.call mF.refl F776 rfl) : mF [126999] w μ μ774) rfl) h780.2.1 (EP.keep hIEP hw ((mF.call mF.refl F776 rfl) : mF [126999] w μ μ774) rfl) (G1.keep hIG1 hw ((mF.call mF.refl F776 rfl) : mF [126999] w μ μ774) rfl rfl ((mG.call mG.refl h780.1 (List.forall_mem_cons.mpr ⟨⟨_, List.mem_cons_self, vc_X12_say_u_11⟩, (fun _ h => absurd h List.not_mem_nil)⟩)) : mG [((40 * 2), ((40 * 2) + 1))] μ μ774) (List.forall_mem_cons.mpr ⟨vc_X12_say_u_12, (fun _ h => absurd h List.not_mem_nil)⟩)) (EV.keep hIEV hw ((mF.call mF.refl F776 rfl) : mF [126999] w μ μ774) rfl) (PK.keep hIPK hw ((mF.call mF.refl F776 rfl) : mF [126999] w μ μ774) rfl)
  refine sv_aload_n (pc := 53) dX12_say_53 rfl rfl ?_
  refine mr_bipush (pc := 54) (z := 30) dX12_say_54 (by decide) ?_
  refine mr_iload (pc := 56) (z := ((10 * p1) + p3)) dX12_say_56 rfl ?_
  refine mr_iadd (pc := 58) (x := 30) (y := ((10 * p1) + p3)) dX12_say_58 ?_
  refine mr_iconst (pc := 59) (z := 2) dX12_say_59 ?_
  refine mr_cVV (pc := 60) (c_X12_copy_u hw T775 (rW (c := 0) (d := 2099) (rAdd (e := 30) (f := 129) (rR (x := 30)) (rAdd (e := 0) (f := 99) (rMulL (n := 10) (e := 0) (f := 90) hp1 rfl) hp3 rfl) rfl) rfl) (rW (c := 0) (d := 2099) (rR (x := 2)) rfl) q790 (F776.f (A_106 hw) rfl q_f_pre) (vc_X12_say_u_50 hq1 hq2 h766.2.1 h766.2.2.1 h771.2.1 hq0 h1047 ht_f_e0 ht_f_e1 h2 h1 hp1 hp2 hp3 h766.1 h773 h1046 h787) (vc_X12_say_u_51 hq1 hq2 h766.2.1 h766.2.2.1 h771.2.1 hq0 h1047 ht_f_e0 ht_f_e1 h2 h1 hp1 hp2 hp3 h766.1 h773 h1046 h787) vc_X12_say_u_52 (vc_X12_say_u_53 hq1 hq2 h766.2.1 h766.2.2.1 h771.2.1 hq0 h1047 ht_f_e0 ht_f_e1 h2 h1 hp1 hp2 hp3 h766.1 h773 h1046 h787) h780.2.1) (gOk _ _ _ _ _) dX12_say_60 (tX12_copy _ _ _ _ _) ⟨wV_X12_copy, wL_X12_copy⟩ wM_X12_559 (gCX12 _ _ _ _ _) rfl (A_106 hw) rfl ⟨le_t rfl, le_t rfl⟩ ⟨le_t rfl, le_t rfl⟩ rfl (le_t rfl) fun μ1049 T1050 F1051 h1052 => ?_
  obtain ⟨z1053, q1054, h1055⟩ := h1052
  have h1056 := rt7 T1050 (A_126 hw) vc_X12_say_u_5 q1054
  have h1057 : (-1) ≤ z1053 ∧ z1053 ≤ 9 := h1056.2.1 vc_X12_say_u_6
  have q1058 : μ1049 126 (((40 * 2) : Int).toNat) = z789 := q1054.trans h1055.2.2.1
  refine sv_aload_n (pc := 63) dX12_say_63 rfl rfl ?_
  refine gf_X12_32 (pc := 64) dX12_say_64 wF_X12_148 (A_106 hw) T1050 ?_
  refine mr_bipush (pc := 67) (z := 81) dX12_say_67 (by decide) ?_
  refine mr_bipush (pc := 69) (z := 100) dX12_say_69 (by decide) ?_
  refine ss_126 (pc := 71) dX12_say_71 (A_126 hw) T1050 (rIx (n := 84000) (rR (x := 81)) rfl) vc_X12_say_u_54 fun μ1059 u1060 T1061 => ?_
  have I1062 : RP μ1059 := RP.up h1055.2.1 u1060 (u1060.f (Or.inl (mAt.ne (A_126 hw) (A_106 hw) rfl)) (F1051.f (A_106 hw) rfl (F776.f (A_106 hw) rfl q_f_pre))) vc_X12_say_u_55 (vc_X12_say_u_56 hq2 h771.2.1 h2 hp2 hp3 h766.1 h773)
  refine sv_aload_n (pc := 72) dX12_say_72 rfl rfl ?_
  refine mr_iconst (pc := 73) (z := 2) dX12_say_73 ?_
  refine mr_iload_n (pc := 74) (z := p1) dX12_say_74 rfl rfl ?_
  refine mr_cVI (pc := 75) (c_X12_front hw T1061 (rW (c := 0) (d := 2099) (rR (x := 2)) rfl) (rW (c := (-2147483648)) (d := 2147483647) hp1 rfl)) (gOk _ _ _ _ _) dX12_say_75 (tX12_front _ _ _ _ _) ⟨wV_X12_front, wL_X12_front⟩ wM_X12_408 (gCX12 _ _ _ _ _) rfl (A_106 hw) rfl ⟨le_t rfl, le_t rfl⟩ ⟨le_t rfl, le_t rfl⟩ rfl (le_t rfl) fun z1067 μ1063 T1064 F1065 h1066 => ?_
  have J1107 : ∀ (z1095 : Int) (μ1097 : mM), (mT w μ1097) → (mF [106026, 106027, 106028, 106029, 106030, 106031, 126999, 151999, 152999, 153999] w μ1063 μ1097) → (mG [(80, 120), (21200, 53200)] μ1063 μ1097) → ((0 ≤ z1095 ∧ z1095 ≤ 1)) → (JC l D c H0 sa μ1097) → (RP μ1097) → (EP μ1097) → (G1 μ1097) → (EV μ1097) → (PK μ1097) → sV (gG l D c H0 sa) mX12_say (sRm 7 0 0) (sZ (gG l D c H0 sa) 0 0 (qV w [106026, 106027, 106028, 106029, 106030, 106031, 106072, 126999, 151999, 152999, 153999, 155999, 156999, 157999, 158999, 159999, 160999] μ (fun μ1 => mG [(80, 120), (21200, 53200)] μ μ1 ∧ JC l D c H0 sa μ1 ∧ RP μ1 ∧ EP μ1 ∧ G1 μ1 ∧ EV μ1 ∧ True))) 116 [(0, .ref 106), (2, iv p2), (5, iv z772)] [iv z1095] (mk w μ1097) 0 0 := by
    intro z1095 μ1097 T1098 F1099 G1100 h1096 I1101 I1102 I1103 I1104 I1105 I1106
    refine mr_istore (pc := 116) (lv' := [(7, iv z1095), (0, .ref 106), (2, iv p2), (5, iv z772)]) dX12_say_116 (by decide) rfl ?_
    refine sv_aload_n (pc := 118) dX12_say_118 rfl rfl ?_
    refine gf_X12_32 (pc := 119) dX12_say_119 wF_X12_148 (A_106 hw) T1098 ?_
    refine mr_bipush (pc := 122) (z := 81) dX12_say_122 (by decide) ?_
    refine mr_bipush (pc := 124) (z := 100) dX12_say_124 (by decide) ?_
    refine ss_126 (pc := 126) dX12_say_126 (A_126 hw) T1098 (rIx (n := 84000) (rR (x := 81)) rfl) vc_X12_say_u_54 fun μ1108 u1109 T1110 => ?_
    have I1111 : RP μ1108 := RP.up I1102 u1109 (u1109.f (Or.inl (mAt.ne (A_126 hw) (A_106 hw) rfl)) (F1099.f (A_106 hw) rfl (F1065.f (A_106 hw) rfl (u1060.f (Or.inl (mAt.ne (A_126 hw) (A_106 hw) rfl)) (F1051.f (A_106 hw) rfl (F776.f (A_106 hw) rfl q_f_pre)))))) vc_X12_say_u_55 (vc_X12_say_u_56 hq2 h771.2.1 h2 hp2 hp3 h766.1 h773)
    refine mr_iload (pc := 127) (z := z1095) dX12_say_127 rfl ?_
    refine mr_if_ne (pc := 129) (tgt := 137) dX12_say_129 (by decide) (r32 h1096 rfl) (fun h1112 => ?_) (fun h1112 => ?_)
    · have h1113 : 1 ≤ z1095 ∧ z1095 ≤ 1 := (vc_X12_ring_24 h1112 h1096)
      refine mr_lvS (lv' := [(0, .ref 106), (2, iv p2), (5, iv z772)]) (List.forall_mem_cons.mpr ⟨rfl, List.forall_mem_cons.mpr ⟨rfl, List.forall_mem_cons.mpr ⟨rfl, fun _ h => absurd h List.not_mem_nil⟩⟩⟩) ?_
      exact J880 μ1108 T1110 (mF.up (mF.call (mF.call (mF.up (mF.call mF.refl F1051 rfl) (A_126 hw) u1060 rfl) F1065 rfl) F1099 rfl) (A_126 hw) u1109 rfl) (mG.up (mG.call (mG.call (mG.up (mG.call mG.refl h1055.1 (List.forall_mem_cons.mpr ⟨⟨_, List.mem_cons_self, vc_X12_say_u_58⟩, (fun _ h => absurd h List.not_mem_nil)⟩)) u1060 List.mem_cons_self vc_X12_say_u_59) h1066.2.1 (List.forall_mem_cons.mpr ⟨⟨_, List.mem_cons_self, vc_X12_say_u_60⟩, (fun _ h => absurd h List.not_mem_nil)⟩)) G1100 (List.forall_mem_cons.mpr ⟨⟨_, List.mem_cons_self, vc_X12_say_u_33⟩, (List.forall_mem_cons.mpr ⟨⟨_, (List.mem_cons_of_mem _ List.mem_cons_self), vc_X12_say_u_34⟩, (fun _ h => absurd h List.not_mem_nil)⟩)⟩)) u1109 List.mem_cons_self vc_X12_say_u_59) (JC.keepJ I1101 hw ((mF.up mF.refl (A_126 hw) u1109 rfl) : mF [126999] w μ1097 μ1108) rfl) I1111 (EP.keep I1103 hw ((mF.up mF.refl (A_126 hw) u1109 rfl) : mF [126999] w μ1097 μ1108) rfl) (G1.keep I1104 hw ((mF.up mF.refl (A_126 hw) u1109 rfl) : mF [126999] w μ1097 μ1108) rfl rfl ((mG.up mG.refl u1109 List.mem_cons_self vc_X12_say_u_61) : mG [(81, (81 + 1))] μ1097 μ1108) (List.forall_mem_cons.mpr ⟨vc_X12_say_u_62, (fun _ h => absurd h List.not_mem_nil)⟩)) (EV.keep I1105 hw ((mF.up mF.refl (A_126 hw) u1109 rfl) : mF [126999] w μ1097 μ1108) rfl) (PK.keep I1106 hw ((mF.up mF.refl (A_126 hw) u1109 rfl) : mF [126999] w μ1097 μ1108) rfl)
    have h1114 : 0 ≤ z1095 ∧ z1095 ≤ 0 := (vc_X12_ring_22 h1112 h1096)
    refine sv_aload_n (pc := 132) dX12_say_132 rfl rfl ?_
    refine mr_iconst (pc := 133) (z := 2) dX12_say_133 ?_
    refine mr_cVV (pc := 134) (c_X12_nothing_u hw T1110 (rW (c := 0) (d := 2099) (rR (x := 2)) rfl) I1111) (gOk _ _ _ _ _) dX12_say_134 (tX12_nothing _ _ _ _ _) ⟨wV_X12_nothing, wL_X12_nothing⟩ wM_X12_539 (gCX12 _ _ _ _ _) rfl (A_106 hw) rfl ⟨le_t rfl, le_t rfl⟩ ⟨le_t rfl, le_t rfl⟩ rfl (le_t rfl) fun μ1115 T1116 F1117 h1118 => ?_
    obtain ⟨z1119, q1120, h1121⟩ := h1118
    have h1122 := rt7 T1116 (A_126 hw) vc_X12_say_u_5 q1120
    have h1123 : (-1) ≤ z1119 ∧ z1119 ≤ 9 := h1122.2.1 vc_X12_say_u_6
    have q1124 : μ1115 126 (((40 * 2) : Int).toNat) = (-1) := q1120.trans h1121.2.2.1
    have h1125 : (-1) ≤ z1119 ∧ z1119 ≤ (-1) := (vc_X12_candidate_4 h1121.2.2.1 h1123)
    refine mr_lvS (lv' := [(0, .ref 106), (2, iv p2), (5, iv z772)]) (List.forall_mem_cons.mpr ⟨rfl, List.forall_mem_cons.mpr ⟨rfl, List.forall_mem_cons.mpr ⟨rfl, fun _ h => absurd h List.not_mem_nil⟩⟩⟩) ?_
    exact J880 μ1115 T1116 (mF.call (mF.up (mF.call (mF.call (mF.up (mF.call mF.refl F1051 rfl) (A_126 hw) u1060 rfl) F1065 rfl) F1099 rfl) (A_126 hw) u1109 rfl) F1117 rfl) (mG.call (mG.up (mG.call (mG.call (mG.up (mG.call mG.refl h1055.1 (List.forall_mem_cons.mpr ⟨⟨_, List.mem_cons_self, vc_X12_say_u_58⟩, (fun _ h => absurd h List.not_mem_nil)⟩)) u1060 List.mem_cons_self vc_X12_say_u_59) h1066.2.1 (List.forall_mem_cons.mpr ⟨⟨_, List.mem_cons_self, vc_X12_say_u_60⟩, (fun _ h => absurd h List.not_mem_nil)⟩)) G1100 (List.forall_mem_cons.mpr ⟨⟨_, List.mem_cons_self, vc_X12_say_u_33⟩, (List.forall_mem_cons.mpr ⟨⟨_, (List.mem_cons_of_mem _ List.mem_cons_self), vc_X12_say_u_34⟩, (fun _ h => absurd h List.not_mem_nil)⟩)⟩)) u1109 List.mem_cons_self vc_X12_say_u_59) h1121.1 (List.forall_mem_cons.mpr ⟨⟨_, List.mem_cons_self, vc_X12_say_u_32⟩, (fun _ h => absurd h List.not_mem_nil)⟩)) (JC.keepJ I1101 hw ((mF.call (mF.up mF.refl (A_126 hw) u1109 rfl) F1117 rfl) : mF [126999] w μ1097 μ1115) rfl) h1121.2.1 (EP.keep I1103 hw ((mF.call (mF.up mF.refl (A_126 hw) u1109 rfl) F1117 rfl) : mF [126999] w μ1097 μ1115) rfl) (G1.keep I1104 hw ((mF.call (mF.up mF.refl (A_126 hw) u1109 rfl) F1117 rfl) : mF [126999] w μ1097 μ1115) rfl rfl ((mG.call (mG.up mG.refl u1109 List.mem_cons_self vc_X12_say_u_61) h1121.1 (List.forall_mem_cons.mpr ⟨⟨_, (List.mem_cons_of_mem _ List.mem_cons_self), vc_X12_say_u_11⟩, (fun _ h => absurd h List.not_mem_nil)⟩)) : mG [(81, (81 + 1)), ((40 * 2), ((40 * 2) + 1))] μ1097 μ1115) (List.forall_mem_cons.mpr ⟨vc_X12_say_u_62, (List.forall_mem_cons.mpr ⟨vc_X12_say_u_12, (fun _ h => absurd h List.not_mem_nil)⟩)⟩)) (EV.keep I1105 hw ((mF.call (mF.up mF.refl (A_126 hw) u1109 rfl) F1117 rfl) : mF [126999] w μ1097 μ1115) rfl) (PK.keep I1106 hw ((mF.call (mF.up mF.refl (A_126 hw) u1109 rfl) F1117 rfl) : mF [126999] w μ1097 μ1115) rfl)
  refine mr_if_eq (pc := 78) (tgt := 115) dX12_say_78 (by decide) (r32 h1066.1 rfl) (fun h1126 => ?_) (fun h1126 => ?_)
  · have h1127 : 0 ≤ z1067 ∧ z1067 ≤ 0 := (vc_X12_ring_22 h1126 h1066.1)
    refine mr_iconst (pc := 115) (z := 0) dX12_say_115 ?_
    refine mr_lvS (lv' := [(0, .ref 106), (2, iv p2), (5, iv z772)]) (List.forall_mem_cons.mpr ⟨rfl, List.forall_mem_cons.mpr ⟨rfl, List.forall_mem_cons.mpr ⟨rfl, fun _ h => absurd h List.not_mem_nil⟩⟩⟩) ?_
    exact J1107 0 μ1063 T1064 mF.refl mG.refl (rW (c := 0) (d := 1) (rR (x := 0)) rfl) (JC.keepJ hIJC hw ((mF.call (mF.up (mF.call (mF.call mF.refl F776 rfl) F1051 rfl) (A_126 hw) u1060 rfl) F1065 rfl) : mF [126999] w μ μ1063) rfl) (RP.keep I1062 hw ((mF.call mF.refl F1065 rfl) : mF [126999] w μ1059 μ1063) rfl ((mG.call mG.refl h1066.2.1 (List.forall_mem_cons.mpr ⟨⟨_, List.mem_cons_self, vc_X12_say_u_66⟩, (fun _ h => absurd h List.not_mem_nil)⟩)) : mG [(((40 * 2) + 1), ((40 * 2) + 40))] μ1059 μ1063) (List.forall_mem_cons.mpr ⟨vc_X12_say_u_67, (fun _ h => absurd h List.not_mem_nil)⟩)) (EP.keep hIEP hw ((mF.call (mF.up (mF.call (mF.call mF.refl F776 rfl) F1051 rfl) (A_126 hw) u1060 rfl) F1065 rfl) : mF [126999] w μ μ1063) rfl) (G1.keep hIG1 hw ((mF.call (mF.up (mF.call (mF.call mF.refl F776 rfl) F1051 rfl) (A_126 hw) u1060 rfl) F1065 rfl) : mF [126999] w μ μ1063) rfl rfl ((mG.call (mG.up (mG.call (mG.call mG.refl h780.1 (List.forall_mem_cons.mpr ⟨⟨_, List.mem_cons_self, vc_X12_say_u_11⟩, (fun _ h => absurd h List.not_mem_nil)⟩)) h1055.1 (List.forall_mem_cons.mpr ⟨⟨_, (List.mem_cons_of_mem _ List.mem_cons_self), vc_X12_say_u_68⟩, (fun _ h => absurd h List.not_mem_nil)⟩)) u1060 (List.mem_cons_of_mem _ List.mem_cons_self) vc_X12_say_u_69) h1066.2.1 (List.forall_mem_cons.mpr ⟨⟨_, (List.mem_cons_of_mem _ List.mem_cons_self), vc_X12_say_u_70⟩, (fun _ h => absurd h List.not_mem_nil)⟩)) : mG [((40 * 2), ((40 * 2) + 1)), ((40 * 2), ((40 * 2) + 40)), (81, (81 + 1)), (((40 * 2) + 1), ((40 * 2) + 40))] μ μ1063) (List.forall_mem_cons.mpr ⟨vc_X12_say_u_12, (List.forall_mem_cons.mpr ⟨vc_X12_say_u_72, (List.forall_mem_cons.mpr ⟨vc_X12_say_u_62, (List.forall_mem_cons.mpr ⟨vc_X12_say_u_71, (fun _ h => absurd h List.not_mem_nil)⟩)⟩)⟩)⟩)) (EV.keep hIEV hw ((mF.call (mF.up (mF.call (mF.call mF.refl F776 rfl) F1051 rfl) (A_126 hw) u1060 rfl) F1065 rfl) : mF [126999] w μ μ1063) rfl) (PK.keep hIPK hw ((mF.call (mF.up (mF.call (mF.call mF.refl F776 rfl) F1051 rfl) (A_126 hw) u1060 rfl) F1065 rfl) : mF [126999] w μ μ1063) rfl)
  have h1128 : 1 ≤ z1067 ∧ z1067 ≤ 1 := (vc_X12_ring_24 h1126 h1066.1)
  refine sv_aload_n (pc := 81) dX12_say_81 rfl rfl ?_
  refine sv_aload_n (pc := 82) dX12_say_82 rfl rfl ?_
  refine gf_X12_12 (pc := 83) dX12_say_83 wF_X12_63 (A_106 hw) T1064 ?_
  refine mr_iconst (pc := 86) (z := 4) dX12_say_86 ?_
  refine mr_iload_n (pc := 87) (z := p2) dX12_say_87 rfl rfl ?_
  refine mr_imul (pc := 88) (x := 4) (y := p2) dX12_say_88 ?_
  refine mr_iconst (pc := 89) (z := 2) dX12_say_89 ?_
  refine mr_iload (pc := 90) (z := z767) dX12_say_90 rfl ?_
  refine mr_imul (pc := 92) (x := 2) (y := z767) dX12_say_92 ?_
  refine mr_iadd (pc := 93) (x := (4 * p2)) (y := (2 * z767)) dX12_say_93 ?_
  refine mr_iconst (pc := 94) (z := 1) dX12_say_94 ?_
  refine mr_iadd (pc := 95) (x := ((4 * p2) + (2 * z767))) (y := 1) dX12_say_95 ?_
  refine la_115 (pc := 96) dX12_say_96 (A_115 hw) T1064 (rIx (n := 80) (rAdd (e := 1) (f := 79) (rAdd (e := 0) (f := 78) (rMulL (n := 4) (e := 0) (f := 76) hp2 rfl) (rMulL (n := 2) (e := 0) (f := 2) h766.1 rfl) rfl) (rR (x := 1)) rfl) rfl) fun z1129 q1130 h1131 => ?_
  have h1132 : (-99999999) ≤ z1129 ∧ z1129 ≤ 11 := (vc_X8_say_18 h1131)
  obtain ⟨z1133, q1134⟩ : ∃ z, μ1063 106 39 = z := ⟨_, rfl⟩
  have h1135 : (0 ≤ z1133 ∧ z1133 ≤ 12) := by rw [← q1134]; exact T1064 106 106 (A_106 hw) 39
  have h1136 : z1129 = -99999999 ∨ (0 ≤ z1129 ∧ z1129 < z1133) := PK.pol (PK.keep hIPK hw ((mF.call (mF.up (mF.call (mF.call mF.refl F776 rfl) F1051 rfl) (A_126 hw) u1060 rfl) F1065 rfl) : mF [126999] w μ μ1063) rfl) (rIx (n := 80) (rAdd (e := 1) (f := 79) (rAdd (e := 0) (f := 78) (rMulL (n := 4) (e := 0) (f := 76) hp2 rfl) (rMulL (n := 2) (e := 0) (f := 2) h766.1 rfl) rfl) (rR (x := 1)) rfl) rfl) q1130 q1134 (F1065.f (A_106 hw) rfl (u1060.f (Or.inl (mAt.ne (A_126 hw) (A_106 hw) rfl)) (F1051.f (A_106 hw) rfl (F776.f (A_106 hw) rfl q_f_ties)))) (vc_X12_say_u_75 hq0 h766.2.1 h766.2.2.1 h771.2.1 h1047 hq1 hq2 h793 h1044 ht_f_e0 ht_f_e1 h2 h1 hp1 hp2 hp3 h766.1 h773 h1046 h787 h792)
  refine mr_iconst (pc := 97) (z := 2) dX12_say_97 ?_
  refine mr_iload_n (pc := 98) (z := p1) dX12_say_98 rfl rfl ?_
  refine sv_aload_n (pc := 99) dX12_say_99 rfl rfl ?_
  refine mr_iload_n (pc := 100) (z := p2) dX12_say_100 rfl rfl ?_
  refine mr_iload_n (pc := 101) (z := p1) dX12_say_101 rfl rfl ?_
  refine mr_cVP (pc := 102) (c_X12_partnerOf_pt hw T1064 hp2 (rW (c := (-2147483648)) (d := 2147483647) hp1 rfl) (F1065.f (A_110 hw) rfl (u1060.f (Or.inl (mAt.ne (A_126 hw) (A_110 hw) rfl)) (F1051.f (A_110 hw) rfl (F776.f (A_110 hw) rfl q_f_e0)))) (F1065.f (A_110 hw) rfl (u1060.f (Or.inl (mAt.ne (A_126 hw) (A_110 hw) rfl)) (F1051.f (A_110 hw) rfl (F776.f (A_110 hw) rfl q_f_e1))))) (gOk _ _ _ _ _) dX12_say_102 (tX12_partnerOf _ _ _ _ _) ⟨wV_X12_partnerOf, wL_X12_partnerOf⟩ wM_X12_553 (gCX12 _ _ _ _ _) rfl (A_106 hw) rfl ⟨le_t rfl, le_t rfl⟩ ⟨le_t rfl, le_t rfl⟩ rfl (le_t rfl) fun z1141 h1140 => ?_
  have h1142 : z789 < f_pre := (RP.at (r := (2 : Int)) (RP.keep I1062 hw ((mF.call mF.refl F1065 rfl) : mF [126999] w μ1059 μ1063) rfl ((mG.call mG.refl h1066.2.1 (List.forall_mem_cons.mpr ⟨⟨_, List.mem_cons_self, vc_X12_say_u_66⟩, (fun _ h => absurd h List.not_mem_nil)⟩)) : mG [(((40 * 2) + 1), ((40 * 2) + 40))] μ1059 μ1063) (List.forall_mem_cons.mpr ⟨vc_X12_say_u_67, (fun _ h => absurd h List.not_mem_nil)⟩)) vc_X12_say_u_78 vc_X12_say_u_79 (h1066.2.1.f vc_X12_say_u_5 (List.forall_mem_cons.mpr ⟨vc_X12_say_u_77, (fun _ h => absurd h List.not_mem_nil)⟩) (u1060.f (Or.inr vc_X12_say_u_76) q1058)) (F1065.f (A_106 hw) rfl (u1060.f (Or.inl (mAt.ne (A_126 hw) (A_106 hw) rfl)) (F1051.f (A_106 hw) rfl (F776.f (A_106 hw) rfl q_f_pre))))).2 vc_X12_say_u_52
  refine mr_cVI (pc := 105) (c_X12_through_u hw T1064 (rW (c := (-2147483648)) (d := 2147483647) h1132 rfl) (rW (c := 0) (d := 2099) (rR (x := 2)) rfl) (rW (c := (-2147483648)) (d := 2147483647) hp1 rfl) (rW (c := (-2147483648)) (d := 2147483647) h1140.1 rfl) hp2 (F1065.f (A_110 hw) rfl (u1060.f (Or.inl (mAt.ne (A_126 hw) (A_110 hw) rfl)) (F1051.f (A_110 hw) rfl (F776.f (A_110 hw) rfl q_f_e0)))) (F1065.f (A_110 hw) rfl (u1060.f (Or.inl (mAt.ne (A_126 hw) (A_110 hw) rfl)) (F1051.f (A_110 hw) rfl (F776.f (A_110 hw) rfl q_f_e1)))) (F1065.f (A_106 hw) rfl (u1060.f (Or.inl (mAt.ne (A_126 hw) (A_106 hw) rfl)) (F1051.f (A_106 hw) rfl (F776.f (A_106 hw) rfl q_f_ties)))) (h1066.2.1.f vc_X12_say_u_5 (List.forall_mem_cons.mpr ⟨vc_X12_say_u_77, (fun _ h => absurd h List.not_mem_nil)⟩) (u1060.f (Or.inr vc_X12_say_u_76) q1058)) q1134 (F1065.f (A_106 hw) rfl (u1060.f (Or.inl (mAt.ne (A_126 hw) (A_106 hw) rfl)) (F1051.f (A_106 hw) rfl (F776.f (A_106 hw) rfl q_f_pre)))) (vc_X12_say_u_80 hq0 h771.2.1 h1047 hq2 h766.2.1 h766.2.2.1 h793 h1044 ht_f_e0 h2 h1 hp1 hp2 hp3 h766.1 h773 h1046 h787 h792) (vc_X12_say_u_81 hq1 h766.2.1 h766.2.2.1 h1140.2.1 h771.2.1 ht_f_e0 ht_f_e1 hp1 hp2 hp3 h1140.1 h766.1 h773) (vc_X12_say_u_82 h793 h1055.2.2.1 h1142 hq2 h1044 h1047 h2 hp2 hp3 h1057 h1046 h787 h792) (vc_X12_candidate_24 h1136 h1132 h1131 h1135) (vc_X12_say_u_84 hq2 h793 h1055.2.2.1 h1142 h771.2.1 h1044 h1047 h2 hp2 hp3 h1057 h766.1 h773 h1046 h787 h792) (JC.keepJ hIJC hw ((mF.call (mF.up (mF.call (mF.call mF.refl F776 rfl) F1051 rfl) (A_126 hw) u1060 rfl) F1065 rfl) : mF [126999] w μ μ1063) rfl) (PK.keep hIPK hw ((mF.call (mF.up (mF.call (mF.call mF.refl F776 rfl) F1051 rfl) (A_126 hw) u1060 rfl) F1065 rfl) : mF [126999] w μ μ1063) rfl)) (gOk _ _ _ _ _) dX12_say_105 (tX12_through _ _ _ _ _) ⟨wV_X12_through, wL_X12_through⟩ wM_X12_414 (gCX12 _ _ _ _ _) rfl (A_106 hw) rfl ⟨le_t rfl, le_t rfl⟩ ⟨le_t rfl, le_t rfl⟩ rfl (le_t rfl) fun z1147 μ1143 T1144 F1145 h1146 => ?_
  obtain ⟨z1148, q1149, h1150⟩ := h1146
  have h1151 := rt7 T1144 (A_126 hw) vc_X12_say_u_5 q1149
  have h1152 : (-1) ≤ z1148 ∧ z1148 ≤ 9 := h1151.2.1 vc_X12_say_u_6
  have q1153 : μ1143 126 (((40 * 2) : Int).toNat) = z789 := q1149.trans h1150.2.2.2.1
  refine mr_if_eq (pc := 108) (tgt := 115) dX12_say_108 (by decide) (r32 h1150.1 rfl) (fun h1154 => ?_) (fun h1154 => ?_)
  · have h1155 : 0 ≤ z1147 ∧ z1147 ≤ 0 := (vc_X12_ring_22 h1154 h1150.1)
    refine mr_iconst (pc := 115) (z := 0) dX12_say_115 ?_
    refine mr_lvS (lv' := [(0, .ref 106), (2, iv p2), (5, iv z772)]) (List.forall_mem_cons.mpr ⟨rfl, List.forall_mem_cons.mpr ⟨rfl, List.forall_mem_cons.mpr ⟨rfl, fun _ h => absurd h List.not_mem_nil⟩⟩⟩) ?_
    exact J1107 0 μ1143 T1144 (mF.call mF.refl F1145 rfl) (mG.call mG.refl h1150.2.1 (List.forall_mem_cons.mpr ⟨⟨_, List.mem_cons_self, vc_X12_say_u_60⟩, (fun _ h => absurd h List.not_mem_nil)⟩)) (rW (c := 0) (d := 1) (rR (x := 0)) rfl) h1150.2.2.1 (RP.keep I1062 hw ((mF.call (mF.call mF.refl F1065 rfl) F1145 rfl) : mF [106026, 106027, 106028, 106029, 106030, 106031, 126999, 151999, 152999, 153999] w μ1059 μ1143) rfl ((mG.call (mG.call mG.refl h1066.2.1 (List.forall_mem_cons.mpr ⟨⟨_, List.mem_cons_self, vc_X12_say_u_66⟩, (fun _ h => absurd h List.not_mem_nil)⟩)) h1150.2.1 (List.forall_mem_cons.mpr ⟨⟨_, List.mem_cons_self, vc_X12_say_u_66⟩, (fun _ h => absurd h List.not_mem_nil)⟩)) : mG [(((40 * 2) + 1), ((40 * 2) + 40))] μ1059 μ1143) (List.forall_mem_cons.mpr ⟨vc_X12_say_u_67, (fun _ h => absurd h List.not_mem_nil)⟩)) (EP.keep hIEP hw ((mF.call (mF.call (mF.up (mF.call (mF.call mF.refl F776 rfl) F1051 rfl) (A_126 hw) u1060 rfl) F1065 rfl) F1145 rfl) : mF [106026, 106027, 106028, 106029, 106030, 106031, 126999, 151999, 152999, 153999] w μ μ1143) rfl) (G1.keep hIG1 hw ((mF.call (mF.call (mF.up (mF.call (mF.call mF.refl F776 rfl) F1051 rfl) (A_126 hw) u1060 rfl) F1065 rfl) F1145 rfl) : mF [106026, 106027, 106028, 106029, 106030, 106031, 126999, 151999, 152999, 153999] w μ μ1143) rfl rfl ((mG.call (mG.call (mG.up (mG.call (mG.call mG.refl h780.1 (List.forall_mem_cons.mpr ⟨⟨_, List.mem_cons_self, vc_X12_say_u_11⟩, (fun _ h => absurd h List.not_mem_nil)⟩)) h1055.1 (List.forall_mem_cons.mpr ⟨⟨_, (List.mem_cons_of_mem _ List.mem_cons_self), vc_X12_say_u_68⟩, (fun _ h => absurd h List.not_mem_nil)⟩)) u1060 (List.mem_cons_of_mem _ List.mem_cons_self) vc_X12_say_u_69) h1066.2.1 (List.forall_mem_cons.mpr ⟨⟨_, (List.mem_cons_of_mem _ List.mem_cons_self), vc_X12_say_u_70⟩, (fun _ h => absurd h List.not_mem_nil)⟩)) h1150.2.1 (List.forall_mem_cons.mpr ⟨⟨_, (List.mem_cons_of_mem _ List.mem_cons_self), vc_X12_say_u_70⟩, (fun _ h => absurd h List.not_mem_nil)⟩)) : mG [((40 * 2), ((40 * 2) + 1)), ((40 * 2), ((40 * 2) + 40)), (81, (81 + 1)), (((40 * 2) + 1), ((40 * 2) + 40))] μ μ1143) (List.forall_mem_cons.mpr ⟨vc_X12_say_u_12, (List.forall_mem_cons.mpr ⟨vc_X12_say_u_72, (List.forall_mem_cons.mpr ⟨vc_X12_say_u_62, (List.forall_mem_cons.mpr ⟨vc_X12_say_u_71, (fun _ h => absurd h List.not_mem_nil)⟩)⟩)⟩)⟩)) (EV.keep hIEV hw ((mF.call (mF.call (mF.up (mF.call (mF.call mF.refl F776 rfl) F1051 rfl) (A_126 hw) u1060 rfl) F1065 rfl) F1145 rfl) : mF [106026, 106027, 106028, 106029, 106030, 106031, 126999, 151999, 152999, 153999] w μ μ1143) rfl) (PK.keep hIPK hw ((mF.call (mF.call (mF.up (mF.call (mF.call mF.refl F776 rfl) F1051 rfl) (A_126 hw) u1060 rfl) F1065 rfl) F1145 rfl) : mF [106026, 106027, 106028, 106029, 106030, 106031, 126999, 151999, 152999, 153999] w μ μ1143) rfl)
  have h1156 : 1 ≤ z1147 ∧ z1147 ≤ 1 := (vc_X12_ring_24 h1154 h1150.1)
  refine mr_iconst (pc := 111) (z := 1) dX12_say_111 ?_
  refine sv_goto (pc := 112) (tgt := 116) dX12_say_112 (by decide) ?_
  refine mr_lvS (lv' := [(0, .ref 106), (2, iv p2), (5, iv z772)]) (List.forall_mem_cons.mpr ⟨rfl, List.forall_mem_cons.mpr ⟨rfl, List.forall_mem_cons.mpr ⟨rfl, fun _ h => absurd h List.not_mem_nil⟩⟩⟩) ?_
  exact J1107 1 μ1143 T1144 (mF.call mF.refl F1145 rfl) (mG.call mG.refl h1150.2.1 (List.forall_mem_cons.mpr ⟨⟨_, List.mem_cons_self, vc_X12_say_u_60⟩, (fun _ h => absurd h List.not_mem_nil)⟩)) (rW (c := 0) (d := 1) (rR (x := 1)) rfl) h1150.2.2.1 (RP.keep I1062 hw ((mF.call (mF.call mF.refl F1065 rfl) F1145 rfl) : mF [106026, 106027, 106028, 106029, 106030, 106031, 126999, 151999, 152999, 153999] w μ1059 μ1143) rfl ((mG.call (mG.call mG.refl h1066.2.1 (List.forall_mem_cons.mpr ⟨⟨_, List.mem_cons_self, vc_X12_say_u_66⟩, (fun _ h => absurd h List.not_mem_nil)⟩)) h1150.2.1 (List.forall_mem_cons.mpr ⟨⟨_, List.mem_cons_self, vc_X12_say_u_66⟩, (fun _ h => absurd h List.not_mem_nil)⟩)) : mG [(((40 * 2) + 1), ((40 * 2) + 40))] μ1059 μ1143) (List.forall_mem_cons.mpr ⟨vc_X12_say_u_67, (fun _ h => absurd h List.not_mem_nil)⟩)) (EP.keep hIEP hw ((mF.call (mF.call (mF.up (mF.call (mF.call mF.refl F776 rfl) F1051 rfl) (A_126 hw) u1060 rfl) F1065 rfl) F1145 rfl) : mF [106026, 106027, 106028, 106029, 106030, 106031, 126999, 151999, 152999, 153999] w μ μ1143) rfl) (G1.keep hIG1 hw ((mF.call (mF.call (mF.up (mF.call (mF.call mF.refl F776 rfl) F1051 rfl) (A_126 hw) u1060 rfl) F1065 rfl) F1145 rfl) : mF [106026, 106027, 106028, 106029, 106030, 106031, 126999, 151999, 152999, 153999] w μ μ1143) rfl rfl ((mG.call (mG.call (mG.up (mG.call (mG.call mG.refl h780.1 (List.forall_mem_cons.mpr ⟨⟨_, List.mem_cons_self, vc_X12_say_u_11⟩, (fun _ h => absurd h List.not_mem_nil)⟩)) h1055.1 (List.forall_mem_cons.mpr ⟨⟨_, (List.mem_cons_of_mem _ List.mem_cons_self), vc_X12_say_u_68⟩, (fun _ h => absurd h List.not_mem_nil)⟩)) u1060 (List.mem_cons_of_mem _ List.mem_cons_self) vc_X12_say_u_69) h1066.2.1 (List.forall_mem_cons.mpr ⟨⟨_, (List.mem_cons_of_mem _ List.mem_cons_self), vc_X12_say_u_70⟩, (fun _ h => absurd h List.not_mem_nil)⟩)) h1150.2.1 (List.forall_mem_cons.mpr ⟨⟨_, (List.mem_cons_of_mem _ List.mem_cons_self), vc_X12_say_u_70⟩, (fun _ h => absurd h List.not_mem_nil)⟩)) : mG [((40 * 2), ((40 * 2) + 1)), ((40 * 2), ((40 * 2) + 40)), (81, (81 + 1)), (((40 * 2) + 1), ((40 * 2) + 40))] μ μ1143) (List.forall_mem_cons.mpr ⟨vc_X12_say_u_12, (List.forall_mem_cons.mpr ⟨vc_X12_say_u_72, (List.forall_mem_cons.mpr ⟨vc_X12_say_u_62, (List.forall_mem_cons.mpr ⟨vc_X12_say_u_71, (fun _ h => absurd h List.not_mem_nil)⟩)⟩)⟩)⟩)) (EV.keep hIEV hw ((mF.call (mF.call (mF.up (mF.call (mF.call mF.refl F776 rfl) F1051 rfl) (A_126 hw) u1060 rfl) F1065 rfl) F1145 rfl) : mF [106026, 106027, 106028, 106029, 106030, 106031, 126999, 151999, 152999, 153999] w μ μ1143) rfl) (PK.keep hIPK hw ((mF.call (mF.call (mF.up (mF.call (mF.call mF.refl F776 rfl) F1051 rfl) (A_126 hw) u1060 rfl) F1065 rfl) F1145 rfl) : mF [106026, 106027, 106028, 106029, 106030, 106031, 126999, 151999, 152999, 153999] w μ μ1143) rfl)
end
