section
/-! Letters: answers; what was led; demands, loads, units. -/
/-- how a letter ends, the domains that it comes to -/
noncomputable def ltG (y : S2) (x d : Int) : Int × List Int := goL (nxtE (xE (yX y)) (xS (yX y)) (jA (xJ (yX y))) (jL (xJ (yX y))) x) 11 [] d
def inD (y : S2) (d : Int) : Prop := 0 ≤ d ∧ d < (eD (xE (yX y)) : Int)
/-- what letter answers -/
def ltQ (y : S2) (d x z : Int) : Prop := (¬ inD y d ∧ z = -1) ∨ (inD y d ∧ z = (ltG y x d).1)
theorem ltQ.eq {y : S2} {d x z z' : Int} (h : ltQ y d x z) (h' : ltQ y d x z') : z = z' := by
  rcases h with ⟨a, b⟩ | ⟨a, b⟩ <;> rcases h' with ⟨c, e⟩ | ⟨c, e⟩
  · omega
  · exact absurd c a
  · exact absurd a c
  · rw [b, e]
/-- what was led is the same -/
def LDx (μ : mM) : Prop := μ 87 9 = μ 106 108 ∧ ∀ i : Nat, (i : Int) < μ 87 9 → μ 89 i = μ 176 i
abbrev ldL : List Nat := [87009, 89999, 106108, 176999]
theorem LDx.fr {w w1 : mW} {μ m : mM} {lf : List Nat} (h : LDx μ) (hw : mWF w) (X : mX lf w μ w1 m) (hl : (ldL.all fun r => !lf.elem r) = true) : LDx m := by
  have a : m 87 9 = μ 87 9 := X.f (A_87 hw) (qA_no hl rfl) rfl
  have b : m 106 108 = μ 106 108 := X.f (A_106 hw) (qA_no hl rfl) rfl
  have c : ∀ i, m 89 i = μ 89 i := fun i => X.f (A_89 hw) (qA_no hl rfl) rfl
  have d : ∀ i, m 176 i = μ 176 i := fun i => X.f (A_176 hw) (qA_no hl rfl) rfl
  refine ⟨by rw [a, b]; exact h.1, fun i hi => ?_⟩
  rw [a] at hi
  rw [c, d]
  exact h.2 i hi
section LetC
variable {w : mW} {μ m : mM} {y : S2}
theorem C_letterA {d x : Int} (hw : mWF w) (hT : mT w μ) (h : K2C w μ y) (k : K2X y) (u : upI (xE (yX y)) (xS (yX y))) : WP_X11_letter_W w μ d x (fun z m => ltQ y d x z ∧ ((¬ inD y d ∧ m = μ) ∨ (inD y d ∧ m 87 9 = ((ltG y x d).2.length : Int) ∧ rowL (m 89) (ltG y x d).2.length = (ltG y x d).2))) := by
  have ev := h.1.env hw hT k.1
  intro n en rn
  refine X11_isDomain_s ev fun z hz rz => ⟨fun q => ?_, fun q => ?_⟩
  · have g : ¬ inD y d := fun g => by
      have := hz.mpr g
      omega
    exact ⟨Or.inl ⟨g, rfl⟩, Or.inl ⟨g, rfl⟩⟩
  · have g : inD y d := hz.mp (by omega)
    obtain ⟨g0, g1⟩ := hz.mp (show z = 1 by omega)
    obtain ⟨dn, rfl⟩ : ∃ n : Nat, d = (n : Int) := ⟨d.toNat, by omega⟩
    refine X2_travel_s hw hT h k u (by omega) fun m1 T1 F1 e6 er _ _ _ z6 ez6 rz6 m9 q9 T9 m13 u13 T13 => ?_
    obtain rfl := u13.is
    intro _ _ _
    have e6 : m1 87 6 = ((ltG y x (dn : Int)).2.length : Int) := e6
    have er : rowL (m1 88) (ltG y x (dn : Int)).2.length = (ltG y x (dn : Int)).2 := er
    refine ⟨Or.inr ⟨g, rfl⟩, Or.inr ⟨g, ?_, ?_⟩⟩
    · rw [mUp.yes ⟨rfl, rfl⟩]
      omega
    · refine (rowL.ext (f := m1 88) fun i hi => ?_).trans er
      rw [mUp.no (by omega), q9.2 i, if_pos (by omega), show (0 : Int).toNat + (i - (0 : Int).toNat) = i by omega]
theorem R_letterA {d x : Int} (hw : mWF w) (hT : mT w μ) (h : K2R μ y) (k : K2X y) (u : upI (xE (yX y)) (xS (yX y))) : WP_X12_letter_W w μ d x (fun z m => ltQ y d x z ∧ ((¬ inD y d ∧ m = μ) ∨ (inD y d ∧ m 106 108 = ((ltG y x d).2.length : Int) ∧ rowL (m 176) (ltG y x d).2.length = (ltG y x d).2))) := by
  have ev := h.1.env (w := w) hw k.1
  intro n en rn
  refine X12_isDomain_s ev fun z hz rz => ⟨fun q => ?_, fun q => ?_⟩
  rotate_left 1
  · have g : ¬ inD y d := fun g => by
      have := hz.mpr g
      omega
    exact ⟨Or.inl ⟨g, rfl⟩, Or.inl ⟨g, rfl⟩⟩
  · have g : inD y d := hz.mp (by omega)
    obtain ⟨g0, g1⟩ := hz.mp (show z = 1 by omega)
    obtain ⟨dn, rfl⟩ : ∃ n : Nat, d = (n : Int) := ⟨d.toNat, by omega⟩
    refine X12_goes_s hw hT h k u (by omega) fun m1 T1 F1 e6 er _ _ rz2 z19 ez rz19 m2 u2 T2 => ?_
    obtain rfl := u2.is
    have e6 : m1 106 106 = ((ltG y x (dn : Int)).2.length : Int) := e6
    have er : rowL (m1 175) (ltG y x (dn : Int)).2.length = (ltG y x (dn : Int)).2 := er
    refine loopF.im (fun i m => 0 ≤ i ∧ i ≤ z19 ∧ ∀ j : Nat, (j : Int) < i → m 176 j = m1 175 j) (fun i => (13 - i).toNat) ⟨by omega, by omega, fun j hj => absurd hj (by omega)⟩ (by omega) ?_
    rintro rc i m ⟨i0, i1, hi⟩ ih i' m' e ri T F
    cases e
    have e108 : m 106 108 = z19 := by
      have a : m 106 108 = mUp m1 106 108 z19 106 108 := F.f (A_106 hw) rfl rfl
      rw [a, mUp.yes ⟨rfl, rfl⟩]
    have e175 : ∀ j, m 175 j = m1 175 j := fun j => by
      have a : m 175 j = mUp m1 106 108 z19 175 j := F.f (A_175 hw) rfl rfl
      rw [a, mUp.no (by omega)]
    refine ⟨fun c => ⟨Or.inr ⟨g, rfl⟩, Or.inr ⟨g, by omega, (rowL.ext (f := m1 175) fun j hj => hi j (by omega)).trans er⟩⟩, fun c v ev1 rv m3 u3 T3 => ?_⟩
    obtain rfl := u3.is
    refine ih _ _ ⟨by omega, by omega, fun j hj => ?_⟩ (by omega)
    by_cases c2 : j = i.toNat
    · rw [mUp.yes ⟨rfl, c2⟩, ← ev1, e175, c2]
    · rw [mUp.no (by omega)]
      exact hi j (by omega)
/-- the class's letter, then the reference's -/
theorem LDx.let {d x : Int} {m2 : mM} (hm : LDx μ) (f108 : m 106 108 = μ 106 108) (f176 : ∀ i, m 176 i = μ 176 i) (g9 : m2 87 9 = m 87 9) (g89 : ∀ i, m2 89 i = m 89 i)
    (p : (¬ inD y d ∧ m = μ) ∨ (inD y d ∧ m 87 9 = ((ltG y x d).2.length : Int) ∧ rowL (m 89) (ltG y x d).2.length = (ltG y x d).2))
    (q : (¬ inD y d ∧ m2 = m) ∨ (inD y d ∧ m2 106 108 = ((ltG y x d).2.length : Int) ∧ rowL (m2 176) (ltG y x d).2.length = (ltG y x d).2)) : LDx m2 := by
  rcases p with ⟨a, rfl⟩ | ⟨a, p1, p2⟩
  · rcases q with ⟨_, rfl⟩ | ⟨b, _⟩
    · exact hm
    · exact absurd b a
  · rcases q with ⟨b, _⟩ | ⟨_, q1, q2⟩
    · exact absurd a b
    · refine ⟨by omega, fun i hi => ?_⟩
      rw [g89]
      exact rowL.at (p2.trans q2.symm) (by omega)
theorem C_ledA {i : Int} : WP_X11_led_W w μ i (fun z _ => z = if 0 ≤ i ∧ i < μ 87 9 then μ 89 i.toNat else -99999999) := by
  refine ⟨fun c => (if_neg (by omega)).symm, fun c v ev rv => ⟨fun c2 z ez rz => ?_, fun c2 => (if_neg (by omega)).symm⟩⟩
  rw [if_pos (by omega)]
  exact ez.symm
theorem R_ledA {i : Int} : WP_X12_led_W w μ i (fun z _ => z = if 0 ≤ i ∧ i < μ 106 108 then μ 176 i.toNat else -99999999) := by
  intro v ev rv
  refine X12_in_s fun z hz rz => ⟨fun c => (if_neg fun g => ?_).symm, fun c x ex rx => ?_⟩
  · have := hz.mpr (by omega)
    omega
  · have := hz.mp (by omega)
    rw [if_pos (by omega)]
    exact ex.symm
theorem led_eq {i z z' : Int} (h : LDx μ) (a : z = if 0 ≤ i ∧ i < μ 87 9 then μ 89 i.toNat else -99999999) (b : z' = if 0 ≤ i ∧ i < μ 106 108 then μ 176 i.toNat else -99999999) : z = z' := by
  rw [a, b, h.1]
  by_cases c : 0 ≤ i ∧ i < μ 106 108
  · rw [if_pos c, if_pos c]
    exact h.2 i.toNat (by
      have := h.1
      omega)
  · rw [if_neg c, if_neg c]
end LetC
/-! Demands. -/
def DMx (μ : mM) : Prop := μ 87 10 = μ 106 109 ∧ ∀ i : Nat, (i : Int) < μ 87 10 → μ 90 i = μ 177 i ∧ μ 91 i = μ 178 i ∧ μ 92 i = μ 179 i
abbrev dmL : List Nat := [87010, 90999, 91999, 92999, 106109, 177999, 178999, 179999]
theorem DMx.fr {w w1 : mW} {μ m : mM} {lf : List Nat} (h : DMx μ) (hw : mWF w) (X : mX lf w μ w1 m) (hl : (dmL.all fun r => !lf.elem r) = true) : DMx m := by
  have a : m 87 10 = μ 87 10 := X.f (A_87 hw) (qA_no hl rfl) rfl
  have b : m 106 109 = μ 106 109 := X.f (A_106 hw) (qA_no hl rfl) rfl
  have c1 : ∀ i, m 90 i = μ 90 i := fun i => X.f (A_90 hw) (qA_no hl rfl) rfl
  have c2 : ∀ i, m 91 i = μ 91 i := fun i => X.f (A_91 hw) (qA_no hl rfl) rfl
  have c3 : ∀ i, m 92 i = μ 92 i := fun i => X.f (A_92 hw) (qA_no hl rfl) rfl
  have d1 : ∀ i, m 177 i = μ 177 i := fun i => X.f (A_177 hw) (qA_no hl rfl) rfl
  have d2 : ∀ i, m 178 i = μ 178 i := fun i => X.f (A_178 hw) (qA_no hl rfl) rfl
  have d3 : ∀ i, m 179 i = μ 179 i := fun i => X.f (A_179 hw) (qA_no hl rfl) rfl
  refine ⟨by rw [a, b]; exact h.1, fun i hi => ?_⟩
  rw [a] at hi
  rw [c1, c2, c3, d1, d2, d3]
  exact h.2 i hi
/-- what demand answers -/
def dmQ (y : S2) (c d n z : Int) : Prop := (¬ (inD y d ∧ 1 ≤ n ∧ n ≤ 1000000) ∧ z = -1) ∨ ((inD y d ∧ 1 ≤ n ∧ n ≤ 1000000) ∧ ((16 ≤ c ∧ z = -3) ∨ (c < 16 ∧ z = c)))
section Dem
variable {w : mW} {μ m : mM} {y : S2}
theorem C_demandA {d a n : Int} (hw : mWF w) (hT : mT w μ) (h : K2C w μ y) (k : K2X y) : WP_X11_demand_W w μ d a n (fun z m => dmQ y (μ 87 10) d n z ∧ ((z < 0 ∧ m = μ) ∨ (0 ≤ z ∧ m 87 10 = μ 87 10 + 1 ∧ ∀ i, m 90 i = (if i = (μ 87 10).toNat then d else μ 90 i) ∧ m 91 i = (if i = (μ 87 10).toNat then a else μ 91 i) ∧ m 92 i = (if i = (μ 87 10).toNat then n else μ 92 i)))) := by
  have ev := h.1.env hw hT k.1
  have c0 : 0 ≤ μ 87 10 ∧ μ 87 10 ≤ 16 ∧ (μ 87 10 = 0 ∨ 0 < w.2.2.2 0) := hT 87 87 (A_87 hw) 10
  intro v ev1 rv
  refine X11_isDomain_s ev fun z hz rz => ⟨fun q => ?_, fun q => ⟨fun c => ?_, fun c => ⟨fun c2 v2 e2 r2 => ⟨fun c3 => ?_, fun c3 => ?_⟩, fun c2 => ?_⟩⟩⟩
  · exact ⟨Or.inl ⟨fun g => by
      have := hz.mpr g.1
      omega, rfl⟩, Or.inl ⟨by decide, rfl⟩⟩
  · exact ⟨Or.inl ⟨fun g => by omega, rfl⟩, Or.inl ⟨by decide, rfl⟩⟩
  · intro f ef rf m1 u1 T1 m2 u2 T2 m3 u3 T3 m4 u4 T4 _ _ _
    obtain rfl := u1.is
    obtain rfl := u2.is
    obtain rfl := u3.is
    obtain rfl := u4.is
    subst ef
    refine ⟨Or.inr ⟨⟨hz.mp (by omega), c, c2⟩, Or.inr ⟨by omega, by omega⟩⟩, Or.inr ⟨by omega, mUp.yes ⟨rfl, rfl⟩, fun i => ⟨?_, ?_, ?_⟩⟩⟩
    · by_cases e : i = (μ 87 10).toNat
      · rw [if_pos e, mUp.no (by omega), mUp.no (by omega), mUp.no (by omega), mUp.yes ⟨rfl, e⟩]
      · rw [if_neg e, mUp.no (by omega), mUp.no (by omega), mUp.no (by omega), mUp.no (by omega)]
    · by_cases e : i = (μ 87 10).toNat
      · rw [if_pos e, mUp.no (by omega), mUp.no (by omega), mUp.yes ⟨rfl, e⟩]
      · rw [if_neg e, mUp.no (by omega), mUp.no (by omega), mUp.no (by omega), mUp.no (by omega)]
    · by_cases e : i = (μ 87 10).toNat
      · rw [if_pos e, mUp.no (by omega), mUp.yes ⟨rfl, e⟩]
      · rw [if_neg e, mUp.no (by omega), mUp.no (by omega), mUp.no (by omega), mUp.no (by omega)]
  · exact ⟨Or.inr ⟨⟨hz.mp (by omega), c, c2⟩, Or.inl ⟨by omega, rfl⟩⟩, Or.inl ⟨by decide, rfl⟩⟩
  · exact ⟨Or.inl ⟨fun g => by omega, rfl⟩, Or.inl ⟨by decide, rfl⟩⟩
theorem R_demandA {d a n : Int} (hw : mWF w) (hT : mT w μ) (h : K2R μ y) (k : K2X y) : WP_X12_demand_W w μ d a n (fun z m => dmQ y (μ 106 109) d n z ∧ ((z < 0 ∧ m = μ) ∨ (0 ≤ z ∧ m 106 109 = μ 106 109 + 1 ∧ ∀ i, m 177 i = (if i = (μ 106 109).toNat then d else μ 177 i) ∧ m 178 i = (if i = (μ 106 109).toNat then a else μ 178 i) ∧ m 179 i = (if i = (μ 106 109).toNat then n else μ 179 i)))) := by
  have ev := h.1.env (w := w) hw k.1
  have c0 : 0 ≤ μ 106 109 ∧ μ 106 109 ≤ 16 := hT 106 106 (A_106 hw) 109
  intro v ev1 rv
  refine X12_isDomain_s ev fun z hz rz => ⟨fun q => ?_, fun q => X12_in_s fun z2 hz2 rz2 => ⟨fun c v2 e2 r2 => ⟨fun c3 => ?_, fun c3 => ?_⟩, fun c => ?_⟩⟩
  · exact ⟨Or.inl ⟨fun g => by
      have := hz.mpr g.1
      omega, rfl⟩, Or.inl ⟨by decide, rfl⟩⟩
  · intro m1 u1 T1 m2 u2 T2 m3 u3 T3 m4 u4 T4
    obtain rfl := u1.is
    obtain rfl := u2.is
    obtain rfl := u3.is
    obtain rfl := u4.is
    subst e2
    have c4 := hz2.mp (by omega)
    refine ⟨Or.inr ⟨⟨hz.mp (by omega), c4.1, c4.2⟩, Or.inr ⟨by omega, by omega⟩⟩, Or.inr ⟨by omega, mUp.yes ⟨rfl, rfl⟩, fun i => ⟨?_, ?_, ?_⟩⟩⟩
    · by_cases e : i = (μ 106 109).toNat
      · rw [if_pos e, mUp.no (by omega), mUp.no (by omega), mUp.no (by omega), mUp.yes ⟨rfl, e⟩]
      · rw [if_neg e, mUp.no (by omega), mUp.no (by omega), mUp.no (by omega), mUp.no (by omega)]
    · by_cases e : i = (μ 106 109).toNat
      · rw [if_pos e, mUp.no (by omega), mUp.no (by omega), mUp.yes ⟨rfl, e⟩]
      · rw [if_neg e, mUp.no (by omega), mUp.no (by omega), mUp.no (by omega), mUp.no (by omega)]
    · by_cases e : i = (μ 106 109).toNat
      · rw [if_pos e, mUp.no (by omega), mUp.yes ⟨rfl, e⟩]
      · rw [if_neg e, mUp.no (by omega), mUp.no (by omega), mUp.no (by omega), mUp.no (by omega)]
  · have c4 := hz2.mp (by omega)
    exact ⟨Or.inr ⟨⟨hz.mp (by omega), c4.1, c4.2⟩, Or.inl ⟨by omega, rfl⟩⟩, Or.inl ⟨by decide, rfl⟩⟩
  · exact ⟨Or.inl ⟨fun g => by
      have := hz2.mpr g.2
      omega, rfl⟩, Or.inl ⟨by decide, rfl⟩⟩
theorem dmQ.eq {c d n z z' : Int} (h : dmQ y c d n z) (h' : dmQ y c d n z') : z = z' := by
  rcases h with ⟨a, b⟩ | ⟨a, b⟩ <;> rcases h' with ⟨c, e⟩ | ⟨c, e⟩
  · omega
  · exact absurd c a
  · exact absurd a c
  · omega
/-- the class's demand, then the reference's -/
theorem DMx.dem {d a n z z' : Int} {m2 : mM} (hm : DMx μ) (c0 : 0 ≤ μ 87 10) (f9 : m 106 109 = μ 106 109) (f1 : ∀ i, m 177 i = μ 177 i) (f2 : ∀ i, m 178 i = μ 178 i) (f3 : ∀ i, m 179 i = μ 179 i) (g9 : m2 87 10 = m 87 10) (g1 : ∀ i, m2 90 i = m 90 i) (g2 : ∀ i, m2 91 i = m 91 i) (g3 : ∀ i, m2 92 i = m 92 i)
    (e : dmQ y (μ 87 10) d n z) (e' : dmQ y (m 106 109) d n z')
    (p : (z < 0 ∧ m = μ) ∨ (0 ≤ z ∧ m 87 10 = μ 87 10 + 1 ∧ ∀ i, m 90 i = (if i = (μ 87 10).toNat then d else μ 90 i) ∧ m 91 i = (if i = (μ 87 10).toNat then a else μ 91 i) ∧ m 92 i = (if i = (μ 87 10).toNat then n else μ 92 i)))
    (q : (z' < 0 ∧ m2 = m) ∨ (0 ≤ z' ∧ m2 106 109 = m 106 109 + 1 ∧ ∀ i, m2 177 i = (if i = (m 106 109).toNat then d else m 177 i) ∧ m2 178 i = (if i = (m 106 109).toNat then a else m 178 i) ∧ m2 179 i = (if i = (m 106 109).toNat then n else m 179 i))) : z = z' ∧ DMx m2 := by
  have h1 := hm.1
  rw [f9, ← h1] at e'
  have ez : z = z' := e.eq e'
  subst ez
  refine ⟨rfl, ?_⟩
  rcases p with ⟨a1, rfl⟩ | ⟨a1, p1, p2⟩
  · rcases q with ⟨_, rfl⟩ | ⟨b, _⟩
    · exact hm
    · omega
  · rcases q with ⟨b, _⟩ | ⟨_, q1, q2⟩
    · omega
    · refine ⟨by omega, fun i hi => ?_⟩
      rw [g9, p1] at hi
      obtain ⟨x1, x2, x3⟩ := p2 i
      obtain ⟨y1, y2, y3⟩ := q2 i
      rw [f9, ← h1] at y1 y2 y3
      rw [g1, g2, g3, x1, x2, x3, y1, y2, y3, f1, f2, f3]
      by_cases c : i = (μ 87 10).toNat
      · rw [if_pos c, if_pos c, if_pos c, if_pos c, if_pos c, if_pos c]
        exact ⟨rfl, rfl, rfl⟩
      · rw [if_neg c, if_neg c, if_neg c, if_neg c, if_neg c, if_neg c]
        exact hm.2 i (by omega)
/-- demands begin at domains that are there -/
theorem C_from (hw : mWF w) (hT : mT w μ) (h : K2C w μ y) : ∀ i : Nat, (i : Int) < μ 87 10 → 0 ≤ μ 90 i ∧ μ 90 i < (eD (xE (yX y)) : Int) := fun i hi => by
  have a : 0 ≤ μ 87 10 ∧ μ 87 10 ≤ 16 ∧ (μ 87 10 = 0 ∨ 0 < w.2.2.2 0) := hT 87 87 (A_87 hw) 10
  have b : 0 ≤ μ 90 i ∧ μ 90 i ≤ 9 ∧ (μ 90 i = 0 ∨ μ 90 i < w.2.2.2 0) := hT 90 90 (A_90 hw) i
  have c : μ 6 15 = w.2.2.2 0 ∧ 0 ≤ μ 6 15 ∧ μ 6 15 ≤ 10 := hT 6 6 (A_6 hw) 15
  have d : μ 6 15 = (eD (xE (yX y)) : Int) := h.1.1.2.2.1
  omega
theorem DMx.from (hw : mWF w) (hT : mT w μ) (h : K2C w μ y) (hm : DMx μ) : ∀ i : Nat, (i : Int) < μ 106 109 → 0 ≤ μ 177 i ∧ μ 177 i < (eD (xE (yX y)) : Int) := fun i hi => by
  have e := hm.1
  rw [← (hm.2 i (by omega)).1]
  exact C_from hw hT h i (by omega)
end Dem
/-! Units. -/
noncomputable def untN (g : Int → Int → Int × List Int) (f a u : Nat → Int) (o : Int) : Nat → Int
  | 0 => 0
  | n + 1 => untN g f a u o n + (if (g (a n) (f n)).1 = o then u n else 0)
theorem untN.cg {g : Int → Int → Int × List Int} {f a u f' a' u' : Nat → Int} {o : Int} : ∀ n : Nat, (∀ i, i < n → f i = f' i ∧ a i = a' i ∧ u i = u' i) → untN g f a u o n = untN g f' a' u' o n
  | 0, _ => rfl
  | n + 1, h => by
    obtain ⟨h1, h2, h3⟩ := h n (by omega)
    show untN g f a u o n + (if (g (a n) (f n)).1 = o then u n else 0) = untN g f' a' u' o n + (if (g (a' n) (f' n)).1 = o then u' n else 0)
    rw [untN.cg n fun i hi => h i (by omega), h1, h2, h3]
def prN (g : Nat → Int) (p q u : Int) : Nat → Int
  | 0 => 0
  | k + 1 => prN g p q u k + (if g k = p ∧ g (k + 1) = q then u else 0)
theorem prN.cg {g g' : Nat → Int} {p q u : Int} : ∀ n : Nat, (∀ i, i ≤ n → g i = g' i) → prN g p q u n = prN g' p q u n
  | 0, _ => rfl
  | n + 1, h => by
    show prN g p q u n + (if g n = p ∧ g (n + 1) = q then u else 0) = prN g' p q u n + (if g' n = p ∧ g' (n + 1) = q then u else 0)
    rw [prN.cg n fun i hi => h i (by omega), h n (by omega), h (n + 1) (by omega)]
noncomputable def prS (l : List Int) (p q u : Int) : Int := prN (fun k => (l[k]?).getD 0) p q u (l.length - 1)
noncomputable def lodN (g : Int → Int → Int × List Int) (f a u : Nat → Int) (p q : Int) : Nat → Int
  | 0 => 0
  | n + 1 => lodN g f a u p q n + prS (g (a n) (f n)).2 p q (u n)
theorem lodN.cg {g : Int → Int → Int × List Int} {f a u f' a' u' : Nat → Int} {p q : Int} : ∀ n : Nat, (∀ i, i < n → f i = f' i ∧ a i = a' i ∧ u i = u' i) → lodN g f a u p q n = lodN g f' a' u' p q n
  | 0, _ => rfl
  | n + 1, h => by
    obtain ⟨h1, h2, h3⟩ := h n (by omega)
    show lodN g f a u p q n + prS (g (a n) (f n)).2 p q (u n) = lodN g f' a' u' p q n + prS (g (a' n) (f' n)).2 p q (u' n)
    rw [lodN.cg n fun i hi => h i (by omega), h1, h2, h3]
def unQ (o U z : Int) : Prop := (¬ (0 ≤ o ∧ o ≤ 2) ∧ z = -1) ∨ ((0 ≤ o ∧ o ≤ 2) ∧ (z - U) % 4294967296 = 0)
theorem unQ.eq {o U z z' : Int} (h : unQ o U z) (h' : unQ o U z') (r : -2147483648 ≤ z ∧ z ≤ 2147483647) (r' : -2147483648 ≤ z' ∧ z' ≤ 2147483647) : z = z' := by
  rcases h with ⟨a, b⟩ | ⟨a, b⟩ <;> rcases h' with ⟨c, e⟩ | ⟨c, e⟩ <;> omega
def loQ (E : En) (t s U z : Int) : Prop := (¬ ((0 ≤ t ∧ t < (eT E : Int)) ∧ 0 ≤ s ∧ s ≤ 1) ∧ z = -1) ∨ (((0 ≤ t ∧ t < (eT E : Int)) ∧ 0 ≤ s ∧ s ≤ 1) ∧ (z - U) % 4294967296 = 0)
theorem loQ.eq {E : En} {t s U z z' : Int} (h : loQ E t s U z) (h' : loQ E t s U z') (r : -2147483648 ≤ z ∧ z ≤ 2147483647) (r' : -2147483648 ≤ z' ∧ z' ≤ 2147483647) : z = z' := by
  rcases h with ⟨a, b⟩ | ⟨a, b⟩ <;> rcases h' with ⟨c, e⟩ | ⟨c, e⟩ <;> omega
section Units
variable {w : mW} {μ m : mM} {y : S2}
theorem C_unitsA {o : Int} (hw : mWF w) (hT : mT w μ) (h : K2C w μ y) (k : K2X y) (u : upI (xE (yX y)) (xS (yX y))) : WP_X11_units_W w μ o (fun z m => unQ o (untN (ltG y) (μ 90) (μ 91) (μ 92) o (μ 87 10).toNat) z) := by
  have hf := C_from hw hT h
  refine ⟨fun c => Or.inl ⟨by omega, rfl⟩, fun c => ⟨fun c2 => ?_, fun c2 => Or.inl ⟨by omega, rfl⟩⟩⟩
  refine loopF.iim (fun z i m => 0 ≤ i ∧ (i = 0 ∨ i ≤ μ 87 10) ∧ mF [87006, 88999] w μ m ∧ (z - untN (ltG y) (μ 90) (μ 91) (μ 92) o i.toNat) % 4294967296 = 0) (fun _ i => (17 - i).toNat) ⟨by omega, Or.inl rfl, mF.refl, by
    show ((0 : Int) - 0) % 4294967296 = 0
    decide⟩ (by omega) ?_
  rintro rc z i m ⟨i0, i1, F0, hz⟩ ih z' i' m' e _ ri T F n en rn
  cases e
  have e10 : m 87 10 = μ 87 10 := F0.f (A_87 hw) rfl rfl
  rw [e10] at en
  subst en
  refine ⟨fun c3 _ _ _ => Or.inr ⟨⟨c, c2⟩, ?_⟩, fun c3 z1 e1 r1 z2 e2 r2 => ?_⟩
  · rw [show i.toNat = (μ 87 10).toNat by omega] at hz
    exact hz
  have c90 : ∀ j, m 90 j = μ 90 j := fun j => F0.f (A_90 hw) rfl rfl
  have c91 : ∀ j, m 91 j = μ 91 j := fun j => F0.f (A_91 hw) rfl rfl
  obtain ⟨iN, rfl⟩ : ∃ n : Nat, i = (n : Int) := ⟨i.toNat, by omega⟩
  rw [Int.toNat_natCast] at e1 e2 hz
  rw [c90] at e1
  rw [c91] at e2
  have hfi := hf iN (by omega)
  obtain ⟨dn, rfl⟩ : ∃ d : Nat, z1 = (d : Int) := ⟨z1.toNat, by omega⟩
  have K : K2C w m y := h.fr hw hT (mX.ofF F0) rfl
  have st : untN (ltG y) (μ 90) (μ 91) (μ 92) o (iN + 1) = untN (ltG y) (μ 90) (μ 91) (μ 92) o iN + (if (ltG y z2 (dn : Int)).1 = o then μ 92 iN else 0) := by
    rw [← e1, ← e2]
    rfl
  refine X2_travel_s hw T K k u (by omega) fun m2 T2 F2 _ _ _ _ _ => ⟨fun c4 => ih _ _ _ ⟨by omega, by omega, F0.call F2 rfl, ?_⟩ (by omega), fun c4 v ev rv z3 r3 e3 => ih _ _ _ ⟨by omega, by omega, F0.call F2 rfl, ?_⟩ (by omega)⟩
  · have c4 : ¬ (ltG y z2 (dn : Int)).1 = o := c4
    rw [show ((iN : Int) + 1).toNat = iN + 1 by omega, st, if_neg c4]
    omega
  · have c4 : (ltG y z2 (dn : Int)).1 = o := c4
    have e92 : m2 92 iN = μ 92 iN := (F0.call F2 rfl).f (A_92 hw) rfl rfl
    rw [Int.toNat_natCast, e92] at ev
    rw [show ((iN : Int) + 1).toNat = iN + 1 by omega, st, if_pos c4]
    omega
theorem R_unitsA {o : Int} (hw : mWF w) (hT : mT w μ) (h : K2R μ y) (k : K2X y) (u : upI (xE (yX y)) (xS (yX y))) (hf : ∀ i : Nat, (i : Int) < μ 106 109 → 0 ≤ μ 177 i ∧ μ 177 i < (eD (xE (yX y)) : Int)) : WP_X12_units_W w μ o (fun z m => unQ o (untN (ltG y) (μ 177) (μ 178) (μ 179) o (μ 106 109).toNat) z) := by
  refine X12_in_s fun zi hzi rzi => ⟨fun c => ?_, fun c => Or.inl ⟨fun g => ?_, rfl⟩⟩
  rotate_left 1
  · have := hzi.mpr g
    omega
  have c2 := hzi.mp (by omega)
  refine loopF.iim (fun z i m => 0 ≤ i ∧ (i = 0 ∨ i ≤ μ 106 109) ∧ mF [106106, 175999] w μ m ∧ (z - untN (ltG y) (μ 177) (μ 178) (μ 179) o i.toNat) % 4294967296 = 0) (fun _ i => (17 - i).toNat) ⟨by omega, Or.inl rfl, mF.refl, by
    show ((0 : Int) - 0) % 4294967296 = 0
    decide⟩ (by omega) ?_
  rintro rc z i m ⟨i0, i1, F0, hz⟩ ih z' i' m' e _ ri T F n en rn
  cases e
  have e10 : m 106 109 = μ 106 109 := F0.f (A_106 hw) rfl rfl
  rw [e10] at en
  subst en
  refine ⟨fun c3 => Or.inr ⟨c2, ?_⟩, fun c3 z1 e1 r1 z2 e2 r2 => ?_⟩
  · rw [show i.toNat = (μ 106 109).toNat by omega] at hz
    exact hz
  have c90 : ∀ j, m 177 j = μ 177 j := fun j => F0.f (A_177 hw) rfl rfl
  have c91 : ∀ j, m 178 j = μ 178 j := fun j => F0.f (A_178 hw) rfl rfl
  obtain ⟨iN, rfl⟩ : ∃ n : Nat, i = (n : Int) := ⟨i.toNat, by omega⟩
  rw [Int.toNat_natCast] at e1 e2 hz
  rw [c90] at e1
  rw [c91] at e2
  have hfi := hf iN (by omega)
  obtain ⟨dn, rfl⟩ : ∃ d : Nat, z1 = (d : Int) := ⟨z1.toNat, by omega⟩
  have K : K2R m y := h.fr hw hT (mX.ofF F0) rfl
  have st : untN (ltG y) (μ 177) (μ 178) (μ 179) o (iN + 1) = untN (ltG y) (μ 177) (μ 178) (μ 179) o iN + (if (ltG y z2 (dn : Int)).1 = o then μ 179 iN else 0) := by
    rw [← e1, ← e2]
    rfl
  refine X12_goes_s hw T K k u (by omega) fun m2 T2 F2 _ _ _ _ _ => ⟨fun c4 => ih _ _ _ ⟨by omega, by omega, F0.call F2 rfl, ?_⟩ (by omega), fun c4 v ev rv z3 r3 e3 => ih _ _ _ ⟨by omega, by omega, F0.call F2 rfl, ?_⟩ (by omega)⟩
  · have c4 : ¬ (ltG y z2 (dn : Int)).1 = o := c4
    rw [show ((iN : Int) + 1).toNat = iN + 1 by omega, st, if_neg c4]
    omega
  · have c4 : (ltG y z2 (dn : Int)).1 = o := c4
    have e92 : m2 179 iN = μ 179 iN := (F0.call F2 rfl).f (A_179 hw) rfl rfl
    rw [Int.toNat_natCast, e92] at ev
    rw [show ((iN : Int) + 1).toNat = iN + 1 by omega, st, if_pos c4]
    omega
theorem row_at {f : Nat → Int} {l : List Int} {i : Nat} (h : rowL f l.length = l) (hi : i < l.length) : f i = (l[i]?).getD 0 := by
  have g : (rowL f l.length)[i]? = some (f i) := rowL.get hi
  rw [h] at g
  rw [g]
  rfl
theorem goL.ne {nx : Int → Int} : ∀ (n : Nat) (l : List Int) (a : Int), 0 < (goL nx n l a).2.length
  | 0, l, a => by
    show 0 < (l ++ [a]).length
    rw [List.length_append]
    exact Nat.succ_pos _
  | n + 1, l, a => by
    have e : 0 < (l ++ [a]).length := by
      rw [List.length_append]
      exact Nat.succ_pos _
    by_cases c : a ∈ l
    · rw [goL.again c]; exact e
    · by_cases c2 : nx a = -4
      · rw [goL.own c c2]; exact e
      · by_cases c3 : nx a < 0
        · rw [goL.lost c c2 c3]; exact e
        · rw [goL.on c c3]; exact goL.ne n _ _
theorem C_loadA {t0 s0 : Int} (hw : mWF w) (hT : mT w μ) (h : K2C w μ y) (k : K2X y) (u : upI (xE (yX y)) (xS (yX y))) : WP_X11_load_W w μ t0 s0 (fun z m => loQ (xE (yX y)) t0 s0 (lodN (ltG y) (μ 90) (μ 91) (μ 92) (eN (xE (yX y)) t0.toNat s0.toNat) (eN (xE (yX y)) t0.toNat (1 - s0.toNat)) (μ 87 10).toNat) z) := by
  have ev := h.1.env hw hT k.1
  have hf := C_from hw hT h
  intro n0 en0 rn0
  refine X11_isTie_s ev fun z hz rz => ⟨fun q => Or.inl ⟨fun g => ?_, rfl⟩, fun q => X11_isEither_s fun z2 hz2 rz2 => ⟨fun q2 b eb Ab => ?_, fun q2 => Or.inl ⟨fun g => ?_, rfl⟩⟩⟩
  · have := hz.mpr g.1
    omega
  rotate_left 1
  · have := hz2.mpr g.2
    omega
  have ht := hz.mp (by omega)
  have hs := hz2.mp (by omega)
  obtain ⟨t, rfl⟩ : ∃ n : Nat, t0 = (n : Int) := ⟨t0.toNat, by omega⟩
  obtain ⟨s, rfl⟩ : ∃ n : Nat, s0 = (n : Int) := ⟨s0.toNat, by omega⟩
  rw [Int.toNat_natCast, Int.toNat_natCast]
  obtain ⟨a1, a2, _⟩ := ev.2.2.2.2.1 t (by omega)
  have eb' : tbA μ t = b := by
    have e : μ 11 t = (b : Int) := eb
    show (μ 11 t).toNat = b
    omega
  rw [eb'] at a1 a2
  refine X9_end_s ?_
  have e1 : (if (s : Int) = 0 then μ b 0 else μ b 1) = eN (xE (yX y)) t s := by
    rw [a1, a2]
    unfold eN
    by_cases c : s = 0
    · rw [if_pos c, if_pos (by omega)]
    · rw [if_neg c, if_neg (by omega)]
  rw [e1]
  intro _
  refine X9_end_s ?_
  have e2 : (if (1 : Int) - (s : Int) = 0 then μ b 0 else μ b 1) = eN (xE (yX y)) t (1 - s) := by
    rw [a1, a2]
    unfold eN
    by_cases c : s = 0
    · rw [if_neg (by omega), if_neg (by omega)]
    · rw [if_pos (by omega), if_pos (by omega)]
  rw [e2]
  intro _
  generalize eN (xE (yX y)) t s = P
  generalize eN (xE (yX y)) t (1 - s) = R
  refine loopF.iim (fun z i m => 0 ≤ i ∧ (i = 0 ∨ i ≤ μ 87 10) ∧ mF [87006, 88999] w μ m ∧ (z - lodN (ltG y) (μ 90) (μ 91) (μ 92) P R i.toNat) % 4294967296 = 0) (fun _ i => (17 - i).toNat) ⟨by omega, Or.inl rfl, mF.refl, by
    show ((0 : Int) - 0) % 4294967296 = 0
    decide⟩ (by omega) ?_
  rintro rc z i m ⟨i0, i1, F0, hz⟩ ih z' i' m' e _ ri T F n en rn
  cases e
  have e10 : m 87 10 = μ 87 10 := F0.f (A_87 hw) rfl rfl
  rw [e10] at en
  subst en
  refine ⟨fun c3 _ _ _ => Or.inr ⟨⟨ht, hs⟩, ?_⟩, fun c3 z1 e1 r1 z2 e2 r2 => ?_⟩
  · rw [show i.toNat = (μ 87 10).toNat by omega] at hz
    exact hz
  have c90 : ∀ j, m 90 j = μ 90 j := fun j => F0.f (A_90 hw) rfl rfl
  have c91 : ∀ j, m 91 j = μ 91 j := fun j => F0.f (A_91 hw) rfl rfl
  obtain ⟨iN, rfl⟩ : ∃ n : Nat, i = (n : Int) := ⟨i.toNat, by omega⟩
  rw [Int.toNat_natCast] at e1 e2 hz
  rw [c90] at e1
  rw [c91] at e2
  have hfi := hf iN (by omega)
  obtain ⟨dn, rfl⟩ : ∃ d : Nat, z1 = (d : Int) := ⟨z1.toNat, by omega⟩
  have K : K2C w m y := h.fr hw hT (mX.ofF F0) rfl
  have st : lodN (ltG y) (μ 90) (μ 91) (μ 92) P R (iN + 1) = lodN (ltG y) (μ 90) (μ 91) (μ 92) P R iN + prS (ltG y z2 (dn : Int)).2 P R (μ 92 iN) := by
    rw [← e1, ← e2]
    rfl
  refine X2_travel_s hw T K k u (by omega) fun m2 T2 F2 l6 lr _ _ _ => ?_
  have ln : 0 < (ltG y z2 (dn : Int)).2.length := goL.ne _ _ _
  have l6 : m2 87 6 = ((ltG y z2 (dn : Int)).2.length : Int) := l6
  have lr : rowL (m2 88) (ltG y z2 (dn : Int)).2.length = (ltG y z2 (dn : Int)).2 := lr
  have F3 : mF [87006, 88999] w μ m2 := F0.call F2 rfl
  have e92 : m2 92 iN = μ 92 iN := F3.f (A_92 hw) rfl rfl
  have ps : prS (ltG y z2 (dn : Int)).2 P R (μ 92 iN) = prN (m2 88) P R (μ 92 iN) ((ltG y z2 (dn : Int)).2.length - 1) := (prN.cg _ fun j hj => row_at lr (by omega)).symm
  refine loopF.ii (fun v j => 0 ≤ j ∧ j + 1 ≤ ((ltG y z2 (dn : Int)).2.length : Int) ∧ (v - (lodN (ltG y) (μ 90) (μ 91) (μ 92) P R iN + prN (m2 88) P R (μ 92 iN) j.toNat)) % 4294967296 = 0) (fun _ j => (11 - j).toNat) ⟨by omega, by omega, by
    show (z - (lodN (ltG y) (μ 90) (μ 91) (μ 92) P R iN + 0)) % 4294967296 = 0
    omega⟩ (by omega) ?_
  rintro r2 v j ⟨j0, j1, hv⟩ ih2 v' j' e3 _ rj nn enn rnn
  cases e3
  rw [l6] at enn
  subst enn
  refine ⟨fun c4 => ih _ _ _ ⟨by omega, by omega, F3, ?_⟩ (by omega), fun c4 x1 ex1 rx1 => ?_⟩
  · rw [show ((iN : Int) + 1).toNat = iN + 1 by omega, st, ps, show (ltG y z2 (dn : Int)).2.length - 1 = j.toNat by omega]
    exact hv
  have ps2 : prN (m2 88) P R (μ 92 iN) (j + 1).toNat = prN (m2 88) P R (μ 92 iN) j.toNat + (if m2 88 j.toNat = P ∧ m2 88 (j + 1).toNat = R then μ 92 iN else 0) := by
    rw [show (j + 1).toNat = j.toNat + 1 by omega]
    rfl
  refine ⟨fun c5 => ih2 _ _ ⟨by omega, by omega, ?_⟩ (by omega), fun c5 x2 ex2 rx2 => ⟨fun c6 => ih2 _ _ ⟨by omega, by omega, ?_⟩ (by omega), fun c6 x3 ex3 rx3 x4 rx4 ex4 => ih2 _ _ ⟨by omega, by omega, ?_⟩ (by omega)⟩⟩
  · rw [ps2, if_neg fun g => c5 (ex1.symm.trans g.1)]
    omega
  · rw [ps2, if_neg fun g => c6 (ex2.symm.trans g.2)]
    omega
  · rw [Int.toNat_natCast, e92] at ex3
    rw [ps2, if_pos ⟨ex1.trans c5, ex2.trans c6⟩]
    omega
theorem R_loadA {t0 s0 : Int} (hw : mWF w) (hT : mT w μ) (h : K2R μ y) (k : K2X y) (u : upI (xE (yX y)) (xS (yX y))) (hf : ∀ i : Nat, (i : Int) < μ 106 109 → 0 ≤ μ 177 i ∧ μ 177 i < (eD (xE (yX y)) : Int)) : WP_X12_load_W w μ t0 s0 (fun z m => loQ (xE (yX y)) t0 s0 (lodN (ltG y) (μ 177) (μ 178) (μ 179) (eN (xE (yX y)) t0.toNat s0.toNat) (eN (xE (yX y)) t0.toNat (1 - s0.toNat)) (μ 106 109).toNat) z) := by
  have ev := h.1.env (w := w) hw k.1
  intro n0 en0 rn0
  refine X12_isTie_s ev fun z hz rz => ⟨fun q => Or.inl ⟨fun g => ?_, rfl⟩, fun q => X12_in_s fun z2 hz2 rz2 => ⟨fun q2 => ?_, fun q2 => Or.inl ⟨fun g => ?_, rfl⟩⟩⟩
  · have := hz.mpr g.1
    omega
  rotate_left 1
  · have := hz2.mpr g.2
    omega
  have ht := hz.mp (by omega)
  have hs := hz2.mp (by omega)
  obtain ⟨t, rfl⟩ : ∃ n : Nat, t0 = (n : Int) := ⟨t0.toNat, by omega⟩
  obtain ⟨s, rfl⟩ : ∃ n : Nat, s0 = (n : Int) := ⟨s0.toNat, by omega⟩
  rw [Int.toNat_natCast, Int.toNat_natCast]
  obtain ⟨a1, a2, _⟩ := ev.2.2.2.1 t (by omega)
  have b1 : μ 110 (2 * (t : Int) + (s : Int)).toNat = eN (xE (yX y)) t s := by
    unfold eN
    by_cases c : s = 0
    · rw [if_pos c, show (2 * (t : Int) + (s : Int)).toNat = 2 * t by omega]; exact a1
    · rw [if_neg c, show (2 * (t : Int) + (s : Int)).toNat = 2 * t + 1 by omega]; exact a2
  have b2 : μ 110 (2 * (t : Int) + 1 - (s : Int)).toNat = eN (xE (yX y)) t (1 - s) := by
    unfold eN
    by_cases c : s = 0
    · rw [if_neg (by omega), show (2 * (t : Int) + 1 - (s : Int)).toNat = 2 * t + 1 by omega]; exact a2
    · rw [if_pos (by omega), show (2 * (t : Int) + 1 - (s : Int)).toNat = 2 * t by omega]; exact a1
  generalize eN (xE (yX y)) t s = P at b1 ⊢
  generalize eN (xE (yX y)) t (1 - s) = R at b2 ⊢
  refine loopF.iim (fun z i m => 0 ≤ i ∧ (i = 0 ∨ i ≤ μ 106 109) ∧ mF [106106, 175999] w μ m ∧ (z - lodN (ltG y) (μ 177) (μ 178) (μ 179) P R i.toNat) % 4294967296 = 0) (fun _ i => (17 - i).toNat) ⟨by omega, Or.inl rfl, mF.refl, by
    show ((0 : Int) - 0) % 4294967296 = 0
    decide⟩ (by omega) ?_
  rintro rc z i m ⟨i0, i1, F0, hz⟩ ih z' i' m' e _ ri T F n en rn
  cases e
  have e10 : m 106 109 = μ 106 109 := F0.f (A_106 hw) rfl rfl
  rw [e10] at en
  subst en
  refine ⟨fun c3 => Or.inr ⟨⟨ht, hs⟩, ?_⟩, fun c3 z1 e1 r1 z2 e2 r2 => ?_⟩
  · rw [show i.toNat = (μ 106 109).toNat by omega] at hz
    exact hz
  have c90 : ∀ j, m 177 j = μ 177 j := fun j => F0.f (A_177 hw) rfl rfl
  have c91 : ∀ j, m 178 j = μ 178 j := fun j => F0.f (A_178 hw) rfl rfl
  obtain ⟨iN, rfl⟩ : ∃ n : Nat, i = (n : Int) := ⟨i.toNat, by omega⟩
  rw [Int.toNat_natCast] at e1 e2 hz
  rw [c90] at e1
  rw [c91] at e2
  have hfi := hf iN (by omega)
  obtain ⟨dn, rfl⟩ : ∃ d : Nat, z1 = (d : Int) := ⟨z1.toNat, by omega⟩
  have K : K2R m y := h.fr hw hT (mX.ofF F0) rfl
  have st : lodN (ltG y) (μ 177) (μ 178) (μ 179) P R (iN + 1) = lodN (ltG y) (μ 177) (μ 178) (μ 179) P R iN + prS (ltG y z2 (dn : Int)).2 P R (μ 179 iN) := by
    rw [← e1, ← e2]
    rfl
  refine X12_goes_s hw T K k u (by omega) fun m2 T2 F2 l6 lr _ _ _ => ?_
  have ln : 0 < (ltG y z2 (dn : Int)).2.length := goL.ne _ _ _
  have l6 : m2 106 106 = ((ltG y z2 (dn : Int)).2.length : Int) := l6
  have lr : rowL (m2 175) (ltG y z2 (dn : Int)).2.length = (ltG y z2 (dn : Int)).2 := lr
  have F3 : mF [106106, 175999] w μ m2 := F0.call F2 rfl
  have e92 : m2 179 iN = μ 179 iN := F3.f (A_179 hw) rfl rfl
  have e110 : ∀ j, m2 110 j = μ 110 j := fun j => F3.f (A_110 hw) rfl rfl
  have ps : prS (ltG y z2 (dn : Int)).2 P R (μ 179 iN) = prN (m2 175) P R (μ 179 iN) ((ltG y z2 (dn : Int)).2.length - 1) := (prN.cg _ fun j hj => row_at lr (by omega)).symm
  refine loopF.ii (fun v j => 0 ≤ j ∧ j + 1 ≤ ((ltG y z2 (dn : Int)).2.length : Int) ∧ (v - (lodN (ltG y) (μ 177) (μ 178) (μ 179) P R iN + prN (m2 175) P R (μ 179 iN) j.toNat)) % 4294967296 = 0) (fun _ j => (12 - j).toNat) ⟨by omega, by omega, by
    show (z - (lodN (ltG y) (μ 177) (μ 178) (μ 179) P R iN + 0)) % 4294967296 = 0
    omega⟩ (by omega) ?_
  rintro r2 v j ⟨j0, j1, hv⟩ ih2 v' j' e3 _ rj nn enn rnn
  cases e3
  rw [l6] at enn
  subst enn
  refine ⟨fun c4 => ih _ _ _ ⟨by omega, by omega, F3, ?_⟩ (by omega), fun c4 x1 ex1 rx1 xa exa rxa => ?_⟩
  · rw [show ((iN : Int) + 1).toNat = iN + 1 by omega, st, ps, show (ltG y z2 (dn : Int)).2.length - 1 = j.toNat by omega]
    exact hv
  rw [e110, b1] at exa
  have ps2 : prN (m2 175) P R (μ 179 iN) (j + 1).toNat = prN (m2 175) P R (μ 179 iN) j.toNat + (if m2 175 j.toNat = P ∧ m2 175 (j + 1).toNat = R then μ 179 iN else 0) := by
    rw [show (j + 1).toNat = j.toNat + 1 by omega]
    rfl
  refine ⟨fun c5 => ih2 _ _ ⟨by omega, by omega, ?_⟩ (by omega), fun c5 x2 ex2 rx2 xb exb rxb => ?_⟩
  · rw [ps2, if_neg fun g => c5 (ex1.symm.trans (g.1.trans exa))]
    omega
  rw [e110, b2] at exb
  refine ⟨fun c6 => ih2 _ _ ⟨by omega, by omega, ?_⟩ (by omega), fun c6 x3 ex3 rx3 x4 rx4 ex4 => ih2 _ _ ⟨by omega, by omega, ?_⟩ (by omega)⟩
  · rw [ps2, if_neg fun g => c6 (ex2.symm.trans (g.2.trans exb))]
    omega
  · rw [Int.toNat_natCast, e92] at ex3
    rw [ps2, if_pos ⟨ex1.trans (c5.trans exa.symm), ex2.trans (c6.trans exb.symm)⟩]
    omega
end Units
section Law4
variable {μ m : mM}
theorem DMx.lod {g : Int → Int → Int × List Int} {p q : Int} (h : DMx m) (c0 : m 87 10 = μ 87 10) (e1 : ∀ i, m 90 i = μ 90 i) (e2 : ∀ i, m 91 i = μ 91 i) (e3 : ∀ i, m 92 i = μ 92 i) : lodN g (m 177) (m 178) (m 179) p q (m 106 109).toNat = lodN g (μ 90) (μ 91) (μ 92) p q (μ 87 10).toNat := by
  rw [← h.1, c0]
  refine lodN.cg _ fun i hi => ?_
  obtain ⟨a, b, c⟩ := h.2 i (by omega)
  exact ⟨a.symm.trans (e1 i), b.symm.trans (e2 i), c.symm.trans (e3 i)⟩
theorem DMx.unt {g : Int → Int → Int × List Int} {o : Int} (h : DMx m) (c0 : m 87 10 = μ 87 10) (e1 : ∀ i, m 90 i = μ 90 i) (e2 : ∀ i, m 91 i = μ 91 i) (e3 : ∀ i, m 92 i = μ 92 i) : untN g (m 177) (m 178) (m 179) o (m 106 109).toNat = untN g (μ 90) (μ 91) (μ 92) o (μ 87 10).toNat := by
  rw [← h.1, c0]
  refine untN.cg _ fun i hi => ?_
  obtain ⟨a, b, c⟩ := h.2 i (by omega)
  exact ⟨a.symm.trans (e1 i), b.symm.trans (e2 i), c.symm.trans (e3 i)⟩
end Law4
end
section
/-! differ: addresses as numbers. -/
theorem lAdd_eq {x y : Int} (h : -9223372036854775808 ≤ x + y ∧ x + y ≤ 9223372036854775807) : lAdd x y = x + y := by
  unfold lAdd
  rw [← Int64.ofInt_add]
  exact jvI h
theorem lSub_eq {x y : Int} (h : -9223372036854775808 ≤ x - y ∧ x - y ≤ 9223372036854775807) : lSub x y = x - y := by
  unfold lSub
  rw [← Int64.ofInt_sub]
  exact jvI h
theorem lInt_mod {x : Int} (h : -9223372036854775808 ≤ x ∧ x ≤ 9223372036854775807) : lInt x % 4294967296 = x % 4294967296 := by
  unfold lInt
  rw [Int64.toInt_toInt32, jvI h]
  have e := Int.bmod_emod (x := x) (m := 2 ^ 32)
  have p : ((2 ^ 32 : Nat) : Int) = 4294967296 := by decide
  rw [p] at e
  exact e
theorem sh_fin : ∀ l : Fin 33, lShl 1 (32 - ((l.val : Nat) : Int)) = ((2 ^ (32 - l.val) : Nat) : Int) := by decide +kernel
theorem msk_fin : ∀ l : Fin 33, (Int32.ofInt (mskF ((l.val : Nat) : Int))).toBitVec = BitVec.allOnes 32 <<< (32 - l.val) := by decide +kernel
theorem dv_iff {A X P : Nat} (hP : 0 < P) (hA : A % P = 0) : A / P = X / P ↔ (A ≤ X ∧ X < A + P) := by
  have e1 := Nat.div_add_mod A P
  have e2 := Nat.div_add_mod X P
  have r2 := Nat.mod_lt X hP
  rw [hA] at e1
  constructor
  · intro h
    rw [h] at e1
    omega
  · rintro ⟨h1, h2⟩
    rcases Nat.lt_trichotomy (A / P) (X / P) with l | l | l
    · have g := Nat.mul_le_mul_left P (Nat.succ_le_of_lt l)
      rw [Nat.mul_succ] at g
      omega
    · exact l
    · have g := Nat.mul_le_mul_left P (Nat.succ_le_of_lt l)
      rw [Nat.mul_succ] at g
      omega
theorem bv_top {a x : BitVec 32} {k : Nat} : (a ^^^ x) &&& (BitVec.allOnes 32 <<< k) = 0#32 ↔ a >>> k = x >>> k := by
  constructor
  · intro h
    apply BitVec.eq_of_getLsbD_eq
    intro i hi
    rw [BitVec.getLsbD_ushiftRight, BitVec.getLsbD_ushiftRight]
    by_cases c : k + i < 32
    · have g := congrArg (fun v => BitVec.getLsbD v (k + i)) h
      simp only [BitVec.getLsbD_and, BitVec.getLsbD_xor, BitVec.getLsbD_shiftLeft, BitVec.getLsbD_allOnes, BitVec.getLsbD_zero] at g
      have c1 : decide (k + i < 32) = true := decide_eq_true c
      have c2 : decide (k + i < k) = false := decide_eq_false (by omega)
      have c3 : decide (k + i - k < 32) = true := decide_eq_true (by omega)
      rw [c1, c2, c3] at g
      revert g
      cases a.getLsbD (k + i) <;> cases x.getLsbD (k + i) <;> decide
    · rw [BitVec.getLsbD_of_ge _ _ (by omega), BitVec.getLsbD_of_ge _ _ (by omega)]
  · intro h
    apply BitVec.eq_of_getLsbD_eq
    intro j hj
    simp only [BitVec.getLsbD_and, BitVec.getLsbD_xor, BitVec.getLsbD_shiftLeft, BitVec.getLsbD_allOnes, BitVec.getLsbD_zero]
    by_cases c : j < k
    · have c2 : decide (j < k) = true := decide_eq_true c
      rw [c2]
      simp
    · have g := congrArg (fun v => BitVec.getLsbD v (j - k)) h
      simp only [BitVec.getLsbD_ushiftRight] at g
      rw [show k + (j - k) = j by omega] at g
      rw [g]
      simp
theorem bv_low {a : BitVec 32} {k : Nat} (hk : k ≤ 32) (h : a &&& ((BitVec.allOnes 32 <<< k) ^^^ BitVec.allOnes 32) = 0#32) : a.toNat % 2 ^ k = 0 := by
  apply Nat.eq_of_testBit_eq
  intro j
  rw [Nat.testBit_mod_two_pow, Nat.zero_testBit]
  by_cases c : j < k
  · have g := congrArg (fun v => BitVec.getLsbD v j) h
    simp only [BitVec.getLsbD_and, BitVec.getLsbD_xor, BitVec.getLsbD_shiftLeft, BitVec.getLsbD_allOnes, BitVec.getLsbD_zero] at g
    have c1 : decide (j < 32) = true := decide_eq_true (by omega)
    have c2 : decide (j < k) = true := decide_eq_true c
    rw [c1, c2] at g
    have e : a.toNat.testBit j = a.getLsbD j := rfl
    rw [e]
    revert g
    cases a.getLsbD j <;> simp
  · have c2 : decide (j < k) = false := decide_eq_false c
    rw [c2]
    rfl
theorem i32z {v : Int32} : v.toInt = 0 ↔ v.toBitVec = 0#32 := by
  constructor
  · intro e
    have : v = 0 := Int32.toInt_inj.mp e
    rw [this]; rfl
  · intro e
    have : v = 0 := Int32.toBitVec_inj.mp e
    rw [this]; rfl
theorem nat_of {a : Int} : ((Int32.ofInt a).toBitVec.toNat : Int) = a % 4294967296 := by
  have n : (Int32.ofInt a).toBitVec.toNat = (a % ((2 ^ 32 : Nat) : Int)).toNat := BitVec.toNat_ofInt a
  have p : ((2 ^ 32 : Nat) : Int) = 4294967296 := by decide
  rw [p] at n
  rw [n]
  omega
/-- a prefix as numbers: from, until ahead of -/
def loP (A : Nat → Int) (p : Nat) : Int := A p % 4294967296
def hiP (A L : Nat → Int) (p : Nat) : Int := A p % 4294967296 + ((2 ^ (32 - (L p).toNat) : Nat) : Int)
theorem hld_iff {A L : Nat → Int} {n p : Nat} {x : Int} (pf : pfO A L n) (hp : p < n) : hldI (A p) (L p) x ↔ (loP A p ≤ x % 4294967296 ∧ x % 4294967296 < hiP A L p) := by
  obtain ⟨⟨l0, l1⟩, _, hb⟩ := pf.2 p hp
  have mk := msk_fin ⟨(L p).toNat, by omega⟩
  have mk : (Int32.ofInt (mskF (((L p).toNat : Nat) : Int))).toBitVec = BitVec.allOnes 32 <<< (32 - (L p).toNat) := mk
  rw [show (((L p).toNat : Nat) : Int) = L p by omega] at mk
  have al : (Int32.ofInt (A p)).toBitVec.toNat % 2 ^ (32 - (L p).toNat) = 0 := by
    refine bv_low (by omega) ?_
    unfold bAnd bXor at hb
    rw [Int32.ofInt_toInt] at hb
    have hb := i32z.mp hb
    rw [Int32.toBitVec_and, Int32.toBitVec_xor, mk] at hb
    have em : (Int32.ofInt (-1)).toBitVec = BitVec.allOnes 32 := by decide
    rw [em] at hb
    exact hb
  have top : hldI (A p) (L p) x ↔ (Int32.ofInt (A p)).toBitVec >>> (32 - (L p).toNat) = (Int32.ofInt x).toBitVec >>> (32 - (L p).toNat) := by
    rw [← bv_top]
    unfold hldI bAnd bXor
    rw [Int32.ofInt_toInt, i32z, Int32.toBitVec_and, Int32.toBitVec_xor, mk]
  have dv : (Int32.ofInt (A p)).toBitVec >>> (32 - (L p).toNat) = (Int32.ofInt x).toBitVec >>> (32 - (L p).toNat) ↔ (Int32.ofInt (A p)).toBitVec.toNat / 2 ^ (32 - (L p).toNat) = (Int32.ofInt x).toBitVec.toNat / 2 ^ (32 - (L p).toNat) := by
    constructor
    · intro h
      have g := congrArg BitVec.toNat h
      rw [BitVec.toNat_ushiftRight, BitVec.toNat_ushiftRight, Nat.shiftRight_eq_div_pow, Nat.shiftRight_eq_div_pow] at g
      exact g
    · intro h
      apply BitVec.eq_of_toNat_eq
      rw [BitVec.toNat_ushiftRight, BitVec.toNat_ushiftRight, Nat.shiftRight_eq_div_pow, Nat.shiftRight_eq_div_pow]
      exact h
  rw [top, dv, dv_iff (Nat.pow_pos (by decide)) al]
  have na := nat_of (a := A p)
  have nx := nat_of (a := x)
  unfold loP hiP
  rw [← na, ← nx]
  constructor
  · rintro ⟨h1, h2⟩
    exact ⟨by omega, by omega⟩
  · rintro ⟨h1, h2⟩
    exact ⟨by omega, by omega⟩
theorem sndN.void {P A L : Nat → Int} {x : Int} : ∀ n : Nat, (∀ p, p < n → ¬ hldI (A p) (L p) x) → sndN P A L x n = (-1, -99999999)
  | 0, _ => rfl
  | n + 1, h => by
    rw [sndN.nay fun q => h n (by omega) q.1]
    exact sndN.void n fun p hp => h p (by omega)
theorem nxtE.void {E : En} {S : Sn} {A L : Nat → Int} {x a : Int} (h : ∀ p, p < eP E → ¬ hldI (A p) (L p) x) : nxtE E S A L x a = -99999999 := by
  have e : tieE E S A L x a.toNat = -99999999 := by
    unfold tieE
    rw [sndN.void _ h]
  unfold nxtE
  rw [e]
  rfl
/-! Sorted rows of borders. -/
abbrev srtI (l : List Int) : Prop := l.Pairwise (fun a b => a ≤ b)
/-- the borders of the first n prefixes -/
def bdN (A L : Nat → Int) : Nat → List Int
  | 0 => []
  | n + 1 => hiP A L n :: loP A n :: bdN A L n
theorem bdN.len {A L : Nat → Int} : ∀ n, (bdN A L n).length = 2 * n
  | 0 => rfl
  | n + 1 => by
    show (bdN A L n).length + 1 + 1 = _
    rw [bdN.len n]
    omega
theorem bdN.rng {A L : Nat → Int} {N : Nat} (pf : pfO A L N) : ∀ n, n ≤ N → ∀ e ∈ bdN A L n, 0 ≤ e ∧ e ≤ 4294967296
  | 0, _, e, h => by cases h
  | n + 1, hn, e, h => by
    have ih := bdN.rng pf n (by omega)
    obtain ⟨⟨l0, l1⟩, _, hb⟩ := pf.2 n (by omega)
    have lo : 0 ≤ loP A n ∧ loP A n < 4294967296 := by
      unfold loP
      omega
    have hi : loP A n ≤ hiP A L n ∧ hiP A L n ≤ 4294967296 := by
      have mk := msk_fin ⟨(L n).toNat, by omega⟩
      have mk : (Int32.ofInt (mskF (((L n).toNat : Nat) : Int))).toBitVec = BitVec.allOnes 32 <<< (32 - (L n).toNat) := mk
      rw [show (((L n).toNat : Nat) : Int) = L n by omega] at mk
      have al : (Int32.ofInt (A n)).toBitVec.toNat % 2 ^ (32 - (L n).toNat) = 0 := by
        refine bv_low (by omega) ?_
        unfold bAnd bXor at hb
        rw [Int32.ofInt_toInt] at hb
        have hb := i32z.mp hb
        rw [Int32.toBitVec_and, Int32.toBitVec_xor, mk] at hb
        have em : (Int32.ofInt (-1)).toBitVec = BitVec.allOnes 32 := by decide
        rw [em] at hb
        exact hb
      have na := nat_of (a := A n)
      have lt : (Int32.ofInt (A n)).toBitVec.toNat < 2 ^ 32 := BitVec.isLt _
      have e1 := Nat.div_add_mod (Int32.ofInt (A n)).toBitVec.toNat (2 ^ (32 - (L n).toNat))
      rw [al] at e1
      have pw : 2 ^ (32 - (L n).toNat) * 2 ^ (L n).toNat = 2 ^ 32 := by
        rw [← Nat.pow_add, show 32 - (L n).toNat + (L n).toNat = 32 by omega]
      have q : (Int32.ofInt (A n)).toBitVec.toNat / 2 ^ (32 - (L n).toNat) < 2 ^ (L n).toNat := by
        refine Nat.div_lt_of_lt_mul ?_
        rw [pw]
        exact lt
      have q2 := Nat.mul_le_mul_left (2 ^ (32 - (L n).toNat)) (Nat.succ_le_of_lt q)
      rw [Nat.mul_succ, pw] at q2
      unfold hiP
      unfold loP
      rw [← na]
      omega
    rcases List.mem_cons.mp h with q | q
    · omega
    · rcases List.mem_cons.mp q with q | q
      · omega
      · exact ih e q
theorem bdN.mem {A L : Nat → Int} : ∀ {n p : Nat}, p < n → loP A p ∈ bdN A L n ∧ hiP A L p ∈ bdN A L n
  | n + 1, p, h => by
    by_cases c : p = n
    · subst c
      exact ⟨List.mem_cons_of_mem _ List.mem_cons_self, List.mem_cons_self⟩
    · obtain ⟨a, b⟩ := bdN.mem (A := A) (L := L) (n := n) (p := p) (by omega)
      exact ⟨List.mem_cons_of_mem _ (List.mem_cons_of_mem _ a), List.mem_cons_of_mem _ (List.mem_cons_of_mem _ b)⟩
/-- the sum of the gaps at whose beginning g holds -/
noncomputable def gpL (g : Int → Prop) : List Int → Int
  | [] => 0
  | [_] => 0
  | x :: y :: l => cIf (g x) (y - x) 0 + gpL g (y :: l)
theorem gpL.snoc {g : Int → Prop} {x M : Int} : ∀ l : List Int, gpL g (l ++ [x, M]) = gpL g (l ++ [x]) + cIf (g x) (M - x) 0
  | [] => by
    show cIf (g x) (M - x) 0 + gpL g [M] = gpL g [x] + cIf (g x) (M - x) 0
    show cIf (g x) (M - x) 0 + 0 = 0 + cIf (g x) (M - x) 0
    omega
  | [a] => by
    show cIf (g a) (x - a) 0 + (cIf (g x) (M - x) 0 + 0) = (cIf (g a) (x - a) 0 + 0) + cIf (g x) (M - x) 0
    omega
  | a :: b :: l => by
    have ih := gpL.snoc (g := g) (x := x) (M := M) (b :: l)
    show cIf (g a) (b - a) 0 + gpL g ((b :: l) ++ [x, M]) = (cIf (g a) (b - a) 0 + gpL g ((b :: l) ++ [x])) + cIf (g x) (M - x) 0
    rw [ih]
    omega
theorem gpL.ends {g : Int → Prop} {M : Int} {L : List Int} (h0 : ∀ e, L.head? = some e → ¬ g 0 ∨ e = 0) (h1 : ∀ e, L.getLast? = some e → ¬ g e ∨ e = M) (h2 : L = [] → ¬ g 0) : gpL g (0 :: (L ++ [M])) = gpL g L := by
  cases L with
  | nil =>
    show cIf (g 0) (M - 0) 0 + 0 = 0
    rw [cIf.neg (h2 rfl)]
    rfl
  | cons a l =>
    have s0 : gpL g (0 :: ((a :: l) ++ [M])) = cIf (g 0) (a - 0) 0 + gpL g ((a :: l) ++ [M]) := rfl
    have z0 : cIf (g 0) (a - 0) 0 = 0 := by
      rcases h0 a rfl with q | q
      · exact cIf.neg q
      · rw [q]
        exact cIfB (fun z : Int => z = 0) (by decide) rfl
    obtain ⟨i, e, ei⟩ : ∃ i e, a :: l = i ++ [e] := ⟨(a :: l).dropLast, (a :: l).getLast (by simp), (List.dropLast_concat_getLast (by simp)).symm⟩
    have z1 : cIf (g e) (M - e) 0 = 0 := by
      have le : (a :: l).getLast? = some e := by
        rw [ei]
        simp
      rcases h1 e le with q | q
      · exact cIf.neg q
      · rw [q]
        exact cIfB (fun z : Int => z = 0) (by omega) rfl
    have s1 : gpL g ((a :: l) ++ [M]) = gpL g (a :: l) := by
      rw [ei, List.append_assoc]
      show gpL g (i ++ [e, M]) = _
      rw [gpL.snoc, z1]
      omega
    rw [s0, z0, s1]
    omega
/-- both rows are one, but for the ends -/
theorem srt_one {L L' B : List Int} (h : srtI L) (h' : srtI L') (p : L.Perm B) (p' : L'.Perm (4294967296 :: 0 :: B)) (rg : ∀ e ∈ B, 0 ≤ e ∧ e ≤ 4294967296) : L' = 0 :: (L ++ [4294967296]) := by
  have rL : ∀ e ∈ L, 0 ≤ e ∧ e ≤ 4294967296 := fun e he => rg e (p.mem_iff.mp he)
  refine List.Perm.eq_of_pairwise (le := fun a b => a ≤ b) (fun a b _ _ x y => Int.le_antisymm x y) h' ?_ (p'.trans ?_)
  · refine List.pairwise_cons.mpr ⟨fun e he => ?_, List.pairwise_append.mpr ⟨h, List.pairwise_singleton _ _, fun a ha b hb => ?_⟩⟩
    · rcases List.mem_append.mp he with q | q
      · exact (rL e q).1
      · have q := List.mem_singleton.mp q
        omega
    · have q := List.mem_singleton.mp hb
      have := rL a ha
      omega
  · refine (List.Perm.swap 0 4294967296 B).trans (List.Perm.cons 0 ?_)
    refine (List.Perm.cons 4294967296 p.symm).trans ?_
    exact (List.perm_append_singleton 4294967296 L).symm
end
section
/-! least: the least tables. -/
def aimI (t : Int) : Int := if t = -4 then 20 else if t = -99999999 then 21 else t
def splP (y : S2) (d : Nat) (x len : Int) : Prop := ∃ p, p < eP (xE (yX y)) ∧ ¬ (sPk (xS (yX y)) (10 * d + p)).1 = -99999999 ∧ len < jL (xJ (yX y)) p ∧ bAnd (jA (xJ (yX y)) p) (mskF len) = x
/-- below an address, n bits are left: entries; the aims that, inherited, make them least -/
noncomputable def lsN (T : Int → Int) (P : Int → Int → Prop) : Nat → Int → Int × (Int → Prop)
  | 0, x => (0, fun a => a = T x)
  | n + 1, x => cIf (P x (31 - (n : Int))) (cIf (∃ a, (lsN T P n x).2 a ∧ (lsN T P n (bOr x (bShl 1 (n : Int)))).2 a) ((lsN T P n x).1 + (lsN T P n (bOr x (bShl 1 (n : Int)))).1, fun a => (lsN T P n x).2 a ∧ (lsN T P n (bOr x (bShl 1 (n : Int)))).2 a) ((lsN T P n x).1 + (lsN T P n (bOr x (bShl 1 (n : Int)))).1 + 1, fun a => (lsN T P n x).2 a ∨ (lsN T P n (bOr x (bShl 1 (n : Int)))).2 a)) (0, fun a => a = T x)
section Ls
variable {T : Int → Int} {P : Int → Int → Prop} {n : Nat} {x : Int}
theorem lsN.leaf (h : ¬ P x (31 - (n : Int))) : lsN T P (n + 1) x = (0, fun a => a = T x) := cIf.neg h
theorem lsN.both (h : P x (31 - (n : Int))) (g : ∃ a, (lsN T P n x).2 a ∧ (lsN T P n (bOr x (bShl 1 (n : Int)))).2 a) : lsN T P (n + 1) x = ((lsN T P n x).1 + (lsN T P n (bOr x (bShl 1 (n : Int)))).1, fun a => (lsN T P n x).2 a ∧ (lsN T P n (bOr x (bShl 1 (n : Int)))).2 a) := (cIf.pos h).trans (cIf.pos g)
theorem lsN.any (h : P x (31 - (n : Int))) (g : ¬ ∃ a, (lsN T P n x).2 a ∧ (lsN T P n (bOr x (bShl 1 (n : Int)))).2 a) : lsN T P (n + 1) x = ((lsN T P n x).1 + (lsN T P n (bOr x (bShl 1 (n : Int)))).1 + 1, fun a => (lsN T P n x).2 a ∨ (lsN T P n (bOr x (bShl 1 (n : Int)))).2 a) := (cIf.pos h).trans (cIf.neg g)
theorem lsN.ok (hT : ∀ x, 0 ≤ T x ∧ T x ≤ 21) : ∀ (n : Nat) (x : Int), (∃ a, (lsN T P n x).2 a) ∧ ∀ a, (lsN T P n x).2 a → 0 ≤ a ∧ a ≤ 21
  | 0, x => ⟨⟨T x, rfl⟩, fun a e => by
    have e : a = T x := e
    rw [e]; exact hT x⟩
  | n + 1, x => by
    obtain ⟨⟨a1, h1⟩, r1⟩ := lsN.ok hT n x
    obtain ⟨⟨a2, h2⟩, r2⟩ := lsN.ok hT n (bOr x (bShl 1 (n : Int)))
    by_cases h : P x (31 - (n : Int))
    · by_cases g : ∃ a, (lsN T P n x).2 a ∧ (lsN T P n (bOr x (bShl 1 (n : Int)))).2 a
      · rw [lsN.both h g]
        exact ⟨g, fun a e => r1 a e.1⟩
      · rw [lsN.any h g]
        exact ⟨⟨a1, Or.inl h1⟩, fun a e => e.elim (r1 a) (r2 a)⟩
    · rw [lsN.leaf h]
      exact ⟨⟨T x, rfl⟩, fun a e => by
        have e : a = T x := e
        rw [e]; exact hT x⟩
/-- what a part costs where an aim is inherited -/
noncomputable def cst (T : Int → Int) (P : Int → Int → Prop) (n : Nat) (x a : Int) : Int := (lsN T P n x).1 + cIf ((lsN T P n x).2 a) 0 1
theorem cst.in {a : Int} (h : (lsN T P n x).2 a) : cst T P n x a = (lsN T P n x).1 := by
  unfold cst
  rw [cIf.pos h]
  omega
theorem cst.out {a : Int} (h : ¬ (lsN T P n x).2 a) : cst T P n x a = (lsN T P n x).1 + 1 := by
  unfold cst
  rw [cIf.neg h]
theorem cst.split (hT : ∀ x, 0 ≤ T x ∧ T x ≤ 21) (h : P x (31 - (n : Int))) {m a : Int} (hm : ∀ b, 0 ≤ b → b ≤ 21 → m ≤ cst T P n x b + cst T P n (bOr x (bShl 1 (n : Int))) b) (he : ∃ b, m = cst T P n x b + cst T P n (bOr x (bShl 1 (n : Int))) b) : cst T P (n + 1) x a = if m + 1 < cst T P n x a + cst T P n (bOr x (bShl 1 (n : Int))) a then m + 1 else cst T P n x a + cst T P n (bOr x (bShl 1 (n : Int))) a := by
  obtain ⟨⟨a1, h1⟩, r1⟩ := lsN.ok (P := P) hT n x
  have val : ∀ b, ((lsN T P n x).2 b ∧ (lsN T P n (bOr x (bShl 1 (n : Int)))).2 b ∧ cst T P n x b + cst T P n (bOr x (bShl 1 (n : Int))) b = (lsN T P n x).1 + (lsN T P n (bOr x (bShl 1 (n : Int)))).1) ∨ (((lsN T P n x).2 b ∧ ¬ (lsN T P n (bOr x (bShl 1 (n : Int)))).2 b ∨ ¬ (lsN T P n x).2 b ∧ (lsN T P n (bOr x (bShl 1 (n : Int)))).2 b) ∧ cst T P n x b + cst T P n (bOr x (bShl 1 (n : Int))) b = (lsN T P n x).1 + (lsN T P n (bOr x (bShl 1 (n : Int)))).1 + 1) ∨ (¬ (lsN T P n x).2 b ∧ ¬ (lsN T P n (bOr x (bShl 1 (n : Int)))).2 b ∧ cst T P n x b + cst T P n (bOr x (bShl 1 (n : Int))) b = (lsN T P n x).1 + (lsN T P n (bOr x (bShl 1 (n : Int)))).1 + 2) := fun b => by
    by_cases c1 : (lsN T P n x).2 b
    · by_cases c2 : (lsN T P n (bOr x (bShl 1 (n : Int)))).2 b
      · exact Or.inl ⟨c1, c2, by rw [cst.in c1, cst.in c2]⟩
      · exact Or.inr (Or.inl ⟨Or.inl ⟨c1, c2⟩, by rw [cst.in c1, cst.out c2]; omega⟩)
    · by_cases c2 : (lsN T P n (bOr x (bShl 1 (n : Int)))).2 b
      · exact Or.inr (Or.inl ⟨Or.inr ⟨c1, c2⟩, by rw [cst.out c1, cst.in c2]; omega⟩)
      · exact Or.inr (Or.inr ⟨c1, c2, by rw [cst.out c1, cst.out c2]; omega⟩)
  obtain ⟨b0, hb0⟩ := he
  have v0 := val b0
  have va := val a
  by_cases g : ∃ a, (lsN T P n x).2 a ∧ (lsN T P n (bOr x (bShl 1 (n : Int)))).2 a
  · obtain ⟨a0, g1, g2⟩ := g
    have e1 := hm a0 (r1 a0 g1).1 (r1 a0 g1).2
    rw [cst.in g1, cst.in g2] at e1
    have em : m = (lsN T P n x).1 + (lsN T P n (bOr x (bShl 1 (n : Int)))).1 := by
      rcases v0 with ⟨_, _, v⟩ | ⟨_, v⟩ | ⟨_, _, v⟩ <;> omega
    have E := lsN.both (T := T) h ⟨a0, g1, g2⟩
    have ec : cst T P (n + 1) x a = (lsN T P n x).1 + (lsN T P n (bOr x (bShl 1 (n : Int)))).1 + cIf ((lsN T P n x).2 a ∧ (lsN T P n (bOr x (bShl 1 (n : Int)))).2 a) 0 1 := by
      unfold cst
      rw [E]
    rcases va with ⟨c1, c2, v⟩ | ⟨c, v⟩ | ⟨c1, c2, v⟩
    · rw [ec, cIf.pos ⟨c1, c2⟩, v, if_neg (by omega)]
      omega
    · rw [ec, cIf.neg (fun q => by rcases c with c | c; exact c.2 q.2; exact c.1 q.1), v, if_neg (by omega)]
    · rw [ec, cIf.neg (fun q => c1 q.1), v, if_pos (by omega)]
      omega
  · have e1 := hm a1 (r1 a1 h1).1 (r1 a1 h1).2
    rw [cst.in h1, cst.out (fun q => g ⟨a1, h1, q⟩)] at e1
    have em : m = (lsN T P n x).1 + (lsN T P n (bOr x (bShl 1 (n : Int)))).1 + 1 := by
      rcases v0 with ⟨w1, w2, _⟩ | ⟨_, v⟩ | ⟨_, _, v⟩
      · exact absurd ⟨b0, w1, w2⟩ g
      · omega
      · omega
    have E := lsN.any (T := T) h g
    have ec : cst T P (n + 1) x a = (lsN T P n x).1 + (lsN T P n (bOr x (bShl 1 (n : Int)))).1 + 1 + cIf ((lsN T P n x).2 a ∨ (lsN T P n (bOr x (bShl 1 (n : Int)))).2 a) 0 1 := by
      unfold cst
      rw [E]
    rcases va with ⟨c1, c2, _⟩ | ⟨c, v⟩ | ⟨c1, c2, v⟩
    · exact absurd ⟨a, c1, c2⟩ g
    · rw [ec, cIf.pos (by rcases c with c | c; exact Or.inl c.1; exact Or.inr c.2), v, if_neg (by omega)]
      omega
    · rw [ec, cIf.neg (fun q => q.elim c1 c2), v, if_neg (by omega)]
      omega
end Ls
/-! Sets of aims as bits. -/
theorem bAnd_nat {x y : Int} (hx : 0 ≤ x ∧ x < 4194304) (hy : 0 ≤ y ∧ y < 4194304) : bAnd x y = ((x.toNat &&& y.toNat : Nat) : Int) := by
  have nx := nat_of (a := x)
  have ny := nat_of (a := y)
  have ex : (Int32.ofInt x).toBitVec.toNat = x.toNat := by omega
  have ey : (Int32.ofInt y).toBitVec.toNat = y.toNat := by omega
  unfold bAnd
  have t : (Int32.ofInt x &&& Int32.ofInt y).toInt = (Int32.ofInt x &&& Int32.ofInt y).toBitVec.toInt := rfl
  have e : (Int32.ofInt x &&& Int32.ofInt y).toBitVec.toNat = x.toNat &&& y.toNat := by
    rw [Int32.toBitVec_and, BitVec.toNat_and, ex, ey]
  have lt : x.toNat &&& y.toNat < 2 ^ 22 := Nat.and_lt_two_pow _ (by omega)
  rw [t, BitVec.toInt_eq_toNat_of_lt (by rw [e]; omega), e]
theorem bOr_nat {x y : Int} (hx : 0 ≤ x ∧ x < 4194304) (hy : 0 ≤ y ∧ y < 4194304) : bOr x y = ((x.toNat ||| y.toNat : Nat) : Int) ∧ x.toNat ||| y.toNat < 4194304 := by
  have nx := nat_of (a := x)
  have ny := nat_of (a := y)
  have ex : (Int32.ofInt x).toBitVec.toNat = x.toNat := by omega
  have ey : (Int32.ofInt y).toBitVec.toNat = y.toNat := by omega
  have lt : x.toNat ||| y.toNat < 2 ^ 22 := Nat.or_lt_two_pow (by omega) (by omega)
  refine ⟨?_, by omega⟩
  unfold bOr
  have t : (Int32.ofInt x ||| Int32.ofInt y).toInt = (Int32.ofInt x ||| Int32.ofInt y).toBitVec.toInt := rfl
  have e : (Int32.ofInt x ||| Int32.ofInt y).toBitVec.toNat = x.toNat ||| y.toNat := by
    rw [Int32.toBitVec_or, BitVec.toNat_or, ex, ey]
  rw [t, BitVec.toInt_eq_toNat_of_lt (by rw [e]; omega), e]
/-- a number is the set X of aims -/
def aSet (z : Int) (X : Int → Prop) : Prop := 0 ≤ z ∧ z < 4194304 ∧ ∀ a : Nat, z.toNat.testBit a = true ↔ X (a : Int)
theorem aSet.one {t : Nat} {X : Int → Prop} (ht : t ≤ 21) (hX : ∀ a : Int, X a ↔ a = (t : Int)) : aSet (((2 ^ t : Nat)) : Int) X := by
  have lt : 2 ^ t < 2 ^ 22 := Nat.pow_lt_pow_right (by decide) (by omega)
  refine ⟨by have h2 := Nat.two_pow_pos t; omega, by omega, fun a => ?_⟩
  rw [Int.toNat_natCast, Nat.testBit_two_pow, decide_eq_true_iff, hX]
  omega
theorem aSet.and {z1 z2 z : Int} {X Y : Int → Prop} (h1 : aSet z1 X) (h2 : aSet z2 Y) (e : bAnd z1 z2 = z) : aSet z (fun a => X a ∧ Y a) := by
  have q := bAnd_nat ⟨h1.1, h1.2.1⟩ ⟨h2.1, h2.2.1⟩
  have b1 := h1.1
  have b2 := h1.2.1
  have lt : z1.toNat &&& z2.toNat ≤ z1.toNat := Nat.and_le_left
  rw [e] at q
  refine ⟨by omega, by omega, fun a => ?_⟩
  rw [q, Int.toNat_natCast, Nat.testBit_and, Bool.and_eq_true, h1.2.2, h2.2.2]
theorem aSet.or {z1 z2 z : Int} {X Y : Int → Prop} (h1 : aSet z1 X) (h2 : aSet z2 Y) (e : bOr z1 z2 = z) : aSet z (fun a => X a ∨ Y a) := by
  obtain ⟨q, lt⟩ := bOr_nat ⟨h1.1, h1.2.1⟩ ⟨h2.1, h2.2.1⟩
  rw [e] at q
  refine ⟨by omega, by omega, fun a => ?_⟩
  rw [q, Int.toNat_natCast, Nat.testBit_or, Bool.or_eq_true, h1.2.2, h2.2.2]
theorem aSet.zero {z : Int} {X : Int → Prop} (h : aSet z X) (hX : ∀ a, X a → 0 ≤ a) : z = 0 ↔ ¬ ∃ a, X a := by
  have b := h.1
  constructor
  · rintro e ⟨a, ha⟩
    have g := (h.2.2 a.toNat).mpr (by rw [show ((a.toNat : Nat) : Int) = a from Int.toNat_of_nonneg (hX a ha)]; exact ha)
    rw [e] at g
    simp at g
  · intro n
    have e : z.toNat = 0 := Nat.eq_of_testBit_eq fun a => by
      rw [Nat.zero_testBit]
      cases c : z.toNat.testBit a with
      | false => rfl
      | true => exact absurd ⟨(a : Int), (h.2.2 a).mp c⟩ n
    omega
theorem shl_20 : ∀ t : Fin 20, bShl 1 ((t.val : Nat) : Int) = ((2 ^ t.val : Nat) : Int) := by decide +kernel
noncomputable def tA (y : S2) (d : Nat) (x : Int) : Int := aimI (tieE (xE (yX y)) (xS (yX y)) (jA (xJ (yX y))) (jL (xJ (yX y))) x d)
section LeC
variable {w : mW} {μ : mM} {y : S2} {d : Nat}
theorem tA.rng (u : upI (xE (yX y)) (xS (yX y))) (k : K2X y) (hd : d < eD (xE (yX y))) (x : Int) : 0 ≤ tA y d x ∧ tA y d x ≤ 21 := by
  have t20 := k.1.2.1.1.2.2.1
  unfold tA aimI
  rcases tieE.rng (A := jA (xJ (yX y))) (L := jL (xJ (yX y))) (x := x) u hd with g | g | ⟨t, g, ht, _⟩
  · rw [g]; decide
  · rw [g]; decide
  · rw [g, if_neg (by omega), if_neg (by omega)]
    omega
theorem X2_isSplit_s {x l : Int} {Q : Int → mM → Prop} (hw : mWF w) (hT : mT w μ) (h : K2C w μ y) (k : K2X y) (hd : d < eD (xE (yX y))) (hl : 0 ≤ l ∧ l ≤ 32) (hq : ∀ z : Int, (z = 1 ↔ splP y d x l) → Q z μ) : WP_X2_isSplit_W w μ (d : Int) x l Q := by
  have ev := h.1.env hw hT k.1
  have st := h.1.2.2.2.2.1
  have tb := h.1.2.1.2.1
  have p10 := k.2.2.1.1
  refine X10_maskOf_s hl fun _ => ?_
  refine loopF.i (fun p => 0 ≤ p ∧ p ≤ (eP (xE (yX y)) : Int) ∧ ∀ q : Nat, (q : Int) < p → ¬ (¬ (sPk (xS (yX y)) (10 * d + q)).1 = -99999999 ∧ l < jL (xJ (yX y)) q ∧ bAnd (jA (xJ (yX y)) q) (mskF l) = x)) (fun p => (11 - p).toNat) ⟨by omega, by omega, fun q hq => absurd hq (by omega)⟩ (by omega) ?_
  rintro rc p ⟨p0, p1, hi⟩ ih p' e rp n en rn
  cases e
  rw [ev.2.1] at en
  subst en
  refine ⟨fun c => hq 0 ⟨fun e => absurd e (by decide), fun ⟨q, hq1, hq2⟩ => absurd hq2 (hi q (by omega))⟩, fun c z1 e1 r1 => ?_⟩
  obtain ⟨pn, rfl⟩ : ∃ n : Nat, p = (n : Int) := ⟨p.toNat, by omega⟩
  rw [Int.toNat_natCast, (tb pn (by omega)).2] at e1
  subst e1
  have nx : ¬ (¬ (sPk (xS (yX y)) (10 * d + pn)).1 = -99999999 ∧ l < jL (xJ (yX y)) pn ∧ bAnd (jA (xJ (yX y)) pn) (mskF l) = x) → rc ((pn : Int) + 1) := fun g => ih _ ⟨by omega, by omega, fun q hq => by
    by_cases c2 : (q : Int) < (pn : Int)
    · exact hi q c2
    · rw [show q = pn by omega]; exact g⟩ (by omega)
  have J : ∀ z : Int, ((z = 1 ∧ l < jL (xJ (yX y)) pn ∧ bAnd (jA (xJ (yX y)) pn) (mskF l) = x) ∨ (z = 0 ∧ ¬ (l < jL (xJ (yX y)) pn ∧ bAnd (jA (xJ (yX y)) pn) (mskF l) = x))) → WJ_X2_isSplit_W_2 w μ (d : Int) Q rc (pn : Int) z := by
    intro z hz rz
    refine ⟨fun c2 => nx fun g => ?_, fun c2 b eb Ab v ev1 rv => ?_⟩
    · rcases hz with ⟨a, _⟩ | ⟨_, b⟩
      · omega
      · exact b g.2
    have g2 : l < jL (xJ (yX y)) pn ∧ bAnd (jA (xJ (yX y)) pn) (mskF l) = x := by
      rcases hz with ⟨_, b⟩ | ⟨a, _⟩
      · exact b
      · exact absurd a c2
    have eb' : dbA μ d = b := by
      have e : μ 10 d = (b : Int) := eb
      show (μ 10 d).toNat = b
      omega
    have pk : μ (b + 3) pn = (sPk (xS (yX y)) (10 * d + pn)).1 := by
      rw [← eb']
      exact (st.2.1 d pn hd (by omega)).1
    rw [Int.toNat_natCast, pk] at ev1
    subst ev1
    exact ⟨fun c3 => nx fun g => g.1 c3, fun c3 => hq 1 ⟨fun _ => ⟨pn, by omega, c3, g2⟩, fun _ => rfl⟩⟩
  refine ⟨fun c2 => J 0 (Or.inr ⟨rfl, fun g => by omega⟩), fun c2 z2 e2 r2 z3 e3 => ?_⟩
  rw [Int.toNat_natCast, (tb pn (by omega)).1] at e2
  rw [← e2] at e3
  exact ⟨fun c3 => J 0 (Or.inr ⟨rfl, fun g => c3 (e3.symm.trans g.2)⟩), fun c3 => J 1 (Or.inl ⟨rfl, c2, e3.trans c3⟩)⟩
theorem X2_leaf_s {x : Int} {Q : Int → mM → Prop} (hw : mWF w) (hT : mT w μ) (h : K2C w μ y) (k : K2X y) (u : upI (xE (yX y)) (xS (yX y))) (hd : d < eD (xE (yX y))) (hq : ∀ z : Int, aSet z (fun a => a = tA y d x) → Q z μ) : WP_X2_tieFor_W w μ (d : Int) x (fun z5 _ => ((-99999999) ≤ z5 ∧ z5 ≤ 19) → WP_X2_aimBit_W w μ z5 (fun z10 _ => ((-2147483648) ≤ z10 ∧ z10 ≤ 2147483647) → Q z10 μ)) := by
  refine X2_tieFor_s hw hT h k hd fun rz => ?_
  have key : ∀ (v : Int) (t : Nat), tA y d x = (t : Int) → t ≤ 21 → v = ((2 ^ t : Nat) : Int) → Q v μ := fun v t e1 e2 e3 => hq v (by
    rw [e3]
    exact aSet.one e2 fun a => by rw [e1])
  rcases tieE.rng (A := jA (xJ (yX y))) (L := jL (xJ (yX y))) (x := x) u hd with g | g | ⟨t, g, ht, _⟩
  · have e : tA y d x = ((21 : Nat) : Int) := by
      unfold tA
      rw [g]
      rfl
    rw [g]
    exact ⟨fun _ => ⟨fun c => absurd c (by decide), fun _ _ => key _ 21 e (by decide) (by decide)⟩, fun c => absurd c (by decide)⟩
  · have e : tA y d x = ((20 : Nat) : Int) := by
      unfold tA
      rw [g]
      rfl
    rw [g]
    exact ⟨fun c => absurd rfl c, fun _ _ => key _ 20 e (by decide) (by decide)⟩
  · have t20 : t ≤ 19 := by omega
    have e : tA y d x = (t : Int) := by
      unfold tA aimI
      rw [g, if_neg (by omega), if_neg (by omega)]
    rw [g]
    refine ⟨fun _ => ⟨fun _ z ez _ => key z t e (by omega) ?_, fun c => absurd c (by omega)⟩, fun c => absurd c (by omega)⟩
    rw [← ez]
    exact shl_20 ⟨t, by omega⟩
/-- the contract of a depth -/
def LB (w : mW) (y : S2) (d n : Nat) (W : mM → Int → Int → (Int → mM → Prop) → Prop) : Prop := ∀ (μ : mM) (x l : Int) (Q : Int → mM → Prop), l = 32 - (n : Int) → mT w μ → K2C w μ y → (∀ (z : Int) (m : mM), mT w m → mF [87007] w μ m → aSet z (lsN (tA y d) (splP y d) n x).2 → (m 87 7 - (μ 87 7 + (lsN (tA y d) (splP y d) n x).1)) % 4294967296 = 0 → Q z m) → W μ x l Q
theorem LB.step {n : Nat} {W : mM → Int → Int → (Int → mM → Prop) → Prop} (hw : mWF w) (k : K2X y) (u : upI (xE (yX y)) (xS (yX y))) (hd : d < eD (xE (yX y))) (hn : n ≤ 31) (ih : LB w y d n W) : LB w y d (n + 1) (fun μ p2 p3 Q => WP_X2_isSplit_W w μ (d : Int) p2 p3 (fun z5 _ => (0 ≤ z5 ∧ z5 ≤ 1) → ((¬ z5 = 0) → W μ p2 (p3 + 1) (fun z12 μ8 => mT w μ8 → mF [87007] w μ μ8 → ((-2147483648) ≤ z12 ∧ z12 ≤ 2147483647) → ∀ z13 : Int, bShl (1 : Int) (31 - p3) = z13 → ∀ z16 : Int, bOr p2 z13 = z16 → W μ8 z16 (p3 + 1) (fun z23 μ19 => mT w μ19 → mF [87007] w μ8 μ19 → ((-2147483648) ≤ z23 ∧ z23 ≤ 2147483647) → ∀ z24 : Int, bAnd z12 z23 = z24 → ((z24 = 0) → ∀ z29 : Int, μ19 87 7 = z29 → ((-2147483648) ≤ z29 ∧ z29 ≤ 2147483647) → ∀ z32 : Int, (-2147483648 ≤ z32 ∧ z32 ≤ 2147483647) → (z32 - (z29 + 1)) % 4294967296 = 0 → ∀ μ35 : mM, mU μ19 87 (7) z32 μ35 → mT w μ35 → ∀ z38 : Int, bOr z12 z23 = z38 → Q z38 μ35) ∧ ((¬ z24 = 0) → ∀ z41 : Int, bAnd z12 z23 = z41 → Q z41 μ19)))) ∧ ((z5 = 0) → WP_X2_tieFor_W w μ (d : Int) p2 (fun z49 _ => ((-99999999) ≤ z49 ∧ z49 ≤ 19) → WP_X2_aimBit_W w μ z49 (fun z54 _ => ((-2147483648) ≤ z54 ∧ z54 ≤ 2147483647) → Q z54 μ))))) := by
  intro μ x l Q el T K hq
  have hT0 := tA.rng u k hd
  have el : l = 31 - (n : Int) := by omega
  refine X2_isSplit_s hw T K k hd (by omega) fun z5 h5 r5 => ⟨fun c5 => ?_, fun c5 => ?_⟩
  · have sp : splP y d x (31 - (n : Int)) := by
      rw [← el]
      exact h5.mp (by omega)
    refine ih μ x (l + 1) _ (by omega) T K fun z12 m8 T8 F8 s12 e12 _ _ _ z13 e13 z16 e16 => ?_
    have e16 : z16 = bOr x (bShl 1 (n : Int)) := by
      rw [← e16, ← e13, show 31 - l = (n : Int) by omega]
    have K8 : K2C w m8 y := K.fr hw T (mX.ofF F8) rfl
    refine ih m8 z16 (l + 1) _ (by omega) T8 K8 fun z23 m19 T19 F19 s23 e23 _ _ _ z24 e24 => ?_
    rw [e16] at s23 e23
    have r1 := (lsN.ok (P := splP y d) hT0 n x).2
    have zz := aSet.zero (s12.and s23 e24) fun a ha => (r1 a ha.1).1
    refine ⟨fun c24 z29 e29 r29 z32 r32 e32 m35 u35 T35 z38 e38 => ?_, fun c24 z41 e41 => ?_⟩
    · obtain rfl := u35.is
      have E := lsN.any (T := tA y d) sp (zz.mp c24)
      refine hq z38 _ T35 ((F8.call F19 rfl).up (A_87 hw) mUp_ok rfl) ?_ ?_
      · rw [E]
        exact s12.or s23 e38
      · rw [E, mUp.yes ⟨rfl, rfl⟩]
        show (z32 - (μ 87 7 + ((lsN (tA y d) (splP y d) n x).1 + (lsN (tA y d) (splP y d) n (bOr x (bShl 1 (n : Int)))).1 + 1))) % 4294967296 = 0
        omega
    · have E := lsN.both (T := tA y d) sp (Classical.byContradiction fun g => c24 (zz.mpr g))
      refine hq z41 m19 T19 (F8.call F19 rfl) ?_ ?_
      · rw [E]
        exact s12.and s23 e41
      · rw [E]
        show (m19 87 7 - (μ 87 7 + ((lsN (tA y d) (splP y d) n x).1 + (lsN (tA y d) (splP y d) n (bOr x (bShl 1 (n : Int)))).1))) % 4294967296 = 0
        omega
  · have E : lsN (tA y d) (splP y d) (n + 1) x = (0, fun a => a = tA y d x) := lsN.leaf fun g => by
      rw [← el] at g
      have := h5.mpr g
      omega
    refine X2_leaf_s hw T K k u hd fun z hz => hq z μ T mF.refl ?_ ?_
    · rw [E]
      exact hz
    · rw [E]
      show (μ 87 7 - (μ 87 7 + 0)) % 4294967296 = 0
      omega
theorem LB.n32 (hw : mWF w) (k : K2X y) (u : upI (xE (yX y)) (xS (yX y))) (hd : d < eD (xE (yX y))) : LB w y d 0 (fun μ x l Q => WP_X2_leastBelow_W32 w μ (d : Int) x l Q) := fun μ x l Q el T K hq => X2_leaf_s hw T K k u hd fun z hz => hq z μ T mF.refl hz (by
  show (μ 87 7 - (μ 87 7 + 0)) % 4294967296 = 0
  omega)
theorem LB.n31 (hw : mWF w) (k : K2X y) (u : upI (xE (yX y)) (xS (yX y))) (hd : d < eD (xE (yX y))) : LB w y d 1 (fun μ x l Q => WP_X2_leastBelow_W31 w μ (d : Int) x l Q) := LB.step hw k u hd (by decide) (LB.n32 hw k u hd)
theorem LB.n30 (hw : mWF w) (k : K2X y) (u : upI (xE (yX y)) (xS (yX y))) (hd : d < eD (xE (yX y))) : LB w y d 2 (fun μ x l Q => WP_X2_leastBelow_W30 w μ (d : Int) x l Q) := LB.step hw k u hd (by decide) (LB.n31 hw k u hd)
theorem LB.n29 (hw : mWF w) (k : K2X y) (u : upI (xE (yX y)) (xS (yX y))) (hd : d < eD (xE (yX y))) : LB w y d 3 (fun μ x l Q => WP_X2_leastBelow_W29 w μ (d : Int) x l Q) := LB.step hw k u hd (by decide) (LB.n30 hw k u hd)
theorem LB.n28 (hw : mWF w) (k : K2X y) (u : upI (xE (yX y)) (xS (yX y))) (hd : d < eD (xE (yX y))) : LB w y d 4 (fun μ x l Q => WP_X2_leastBelow_W28 w μ (d : Int) x l Q) := LB.step hw k u hd (by decide) (LB.n29 hw k u hd)
theorem LB.n27 (hw : mWF w) (k : K2X y) (u : upI (xE (yX y)) (xS (yX y))) (hd : d < eD (xE (yX y))) : LB w y d 5 (fun μ x l Q => WP_X2_leastBelow_W27 w μ (d : Int) x l Q) := LB.step hw k u hd (by decide) (LB.n28 hw k u hd)
theorem LB.n26 (hw : mWF w) (k : K2X y) (u : upI (xE (yX y)) (xS (yX y))) (hd : d < eD (xE (yX y))) : LB w y d 6 (fun μ x l Q => WP_X2_leastBelow_W26 w μ (d : Int) x l Q) := LB.step hw k u hd (by decide) (LB.n27 hw k u hd)
theorem LB.n25 (hw : mWF w) (k : K2X y) (u : upI (xE (yX y)) (xS (yX y))) (hd : d < eD (xE (yX y))) : LB w y d 7 (fun μ x l Q => WP_X2_leastBelow_W25 w μ (d : Int) x l Q) := LB.step hw k u hd (by decide) (LB.n26 hw k u hd)
theorem LB.n24 (hw : mWF w) (k : K2X y) (u : upI (xE (yX y)) (xS (yX y))) (hd : d < eD (xE (yX y))) : LB w y d 8 (fun μ x l Q => WP_X2_leastBelow_W24 w μ (d : Int) x l Q) := LB.step hw k u hd (by decide) (LB.n25 hw k u hd)
theorem LB.n23 (hw : mWF w) (k : K2X y) (u : upI (xE (yX y)) (xS (yX y))) (hd : d < eD (xE (yX y))) : LB w y d 9 (fun μ x l Q => WP_X2_leastBelow_W23 w μ (d : Int) x l Q) := LB.step hw k u hd (by decide) (LB.n24 hw k u hd)
theorem LB.n22 (hw : mWF w) (k : K2X y) (u : upI (xE (yX y)) (xS (yX y))) (hd : d < eD (xE (yX y))) : LB w y d 10 (fun μ x l Q => WP_X2_leastBelow_W22 w μ (d : Int) x l Q) := LB.step hw k u hd (by decide) (LB.n23 hw k u hd)
theorem LB.n21 (hw : mWF w) (k : K2X y) (u : upI (xE (yX y)) (xS (yX y))) (hd : d < eD (xE (yX y))) : LB w y d 11 (fun μ x l Q => WP_X2_leastBelow_W21 w μ (d : Int) x l Q) := LB.step hw k u hd (by decide) (LB.n22 hw k u hd)
theorem LB.n20 (hw : mWF w) (k : K2X y) (u : upI (xE (yX y)) (xS (yX y))) (hd : d < eD (xE (yX y))) : LB w y d 12 (fun μ x l Q => WP_X2_leastBelow_W20 w μ (d : Int) x l Q) := LB.step hw k u hd (by decide) (LB.n21 hw k u hd)
theorem LB.n19 (hw : mWF w) (k : K2X y) (u : upI (xE (yX y)) (xS (yX y))) (hd : d < eD (xE (yX y))) : LB w y d 13 (fun μ x l Q => WP_X2_leastBelow_W19 w μ (d : Int) x l Q) := LB.step hw k u hd (by decide) (LB.n20 hw k u hd)
theorem LB.n18 (hw : mWF w) (k : K2X y) (u : upI (xE (yX y)) (xS (yX y))) (hd : d < eD (xE (yX y))) : LB w y d 14 (fun μ x l Q => WP_X2_leastBelow_W18 w μ (d : Int) x l Q) := LB.step hw k u hd (by decide) (LB.n19 hw k u hd)
theorem LB.n17 (hw : mWF w) (k : K2X y) (u : upI (xE (yX y)) (xS (yX y))) (hd : d < eD (xE (yX y))) : LB w y d 15 (fun μ x l Q => WP_X2_leastBelow_W17 w μ (d : Int) x l Q) := LB.step hw k u hd (by decide) (LB.n18 hw k u hd)
theorem LB.n16 (hw : mWF w) (k : K2X y) (u : upI (xE (yX y)) (xS (yX y))) (hd : d < eD (xE (yX y))) : LB w y d 16 (fun μ x l Q => WP_X2_leastBelow_W16 w μ (d : Int) x l Q) := LB.step hw k u hd (by decide) (LB.n17 hw k u hd)
theorem LB.n15 (hw : mWF w) (k : K2X y) (u : upI (xE (yX y)) (xS (yX y))) (hd : d < eD (xE (yX y))) : LB w y d 17 (fun μ x l Q => WP_X2_leastBelow_W15 w μ (d : Int) x l Q) := LB.step hw k u hd (by decide) (LB.n16 hw k u hd)
theorem LB.n14 (hw : mWF w) (k : K2X y) (u : upI (xE (yX y)) (xS (yX y))) (hd : d < eD (xE (yX y))) : LB w y d 18 (fun μ x l Q => WP_X2_leastBelow_W14 w μ (d : Int) x l Q) := LB.step hw k u hd (by decide) (LB.n15 hw k u hd)
theorem LB.n13 (hw : mWF w) (k : K2X y) (u : upI (xE (yX y)) (xS (yX y))) (hd : d < eD (xE (yX y))) : LB w y d 19 (fun μ x l Q => WP_X2_leastBelow_W13 w μ (d : Int) x l Q) := LB.step hw k u hd (by decide) (LB.n14 hw k u hd)
theorem LB.n12 (hw : mWF w) (k : K2X y) (u : upI (xE (yX y)) (xS (yX y))) (hd : d < eD (xE (yX y))) : LB w y d 20 (fun μ x l Q => WP_X2_leastBelow_W12 w μ (d : Int) x l Q) := LB.step hw k u hd (by decide) (LB.n13 hw k u hd)
theorem LB.n11 (hw : mWF w) (k : K2X y) (u : upI (xE (yX y)) (xS (yX y))) (hd : d < eD (xE (yX y))) : LB w y d 21 (fun μ x l Q => WP_X2_leastBelow_W11 w μ (d : Int) x l Q) := LB.step hw k u hd (by decide) (LB.n12 hw k u hd)
theorem LB.n10 (hw : mWF w) (k : K2X y) (u : upI (xE (yX y)) (xS (yX y))) (hd : d < eD (xE (yX y))) : LB w y d 22 (fun μ x l Q => WP_X2_leastBelow_W10 w μ (d : Int) x l Q) := LB.step hw k u hd (by decide) (LB.n11 hw k u hd)
theorem LB.n9 (hw : mWF w) (k : K2X y) (u : upI (xE (yX y)) (xS (yX y))) (hd : d < eD (xE (yX y))) : LB w y d 23 (fun μ x l Q => WP_X2_leastBelow_W9 w μ (d : Int) x l Q) := LB.step hw k u hd (by decide) (LB.n10 hw k u hd)
theorem LB.n8 (hw : mWF w) (k : K2X y) (u : upI (xE (yX y)) (xS (yX y))) (hd : d < eD (xE (yX y))) : LB w y d 24 (fun μ x l Q => WP_X2_leastBelow_W8 w μ (d : Int) x l Q) := LB.step hw k u hd (by decide) (LB.n9 hw k u hd)
theorem LB.n7 (hw : mWF w) (k : K2X y) (u : upI (xE (yX y)) (xS (yX y))) (hd : d < eD (xE (yX y))) : LB w y d 25 (fun μ x l Q => WP_X2_leastBelow_W7 w μ (d : Int) x l Q) := LB.step hw k u hd (by decide) (LB.n8 hw k u hd)
theorem LB.n6 (hw : mWF w) (k : K2X y) (u : upI (xE (yX y)) (xS (yX y))) (hd : d < eD (xE (yX y))) : LB w y d 26 (fun μ x l Q => WP_X2_leastBelow_W6 w μ (d : Int) x l Q) := LB.step hw k u hd (by decide) (LB.n7 hw k u hd)
theorem LB.n5 (hw : mWF w) (k : K2X y) (u : upI (xE (yX y)) (xS (yX y))) (hd : d < eD (xE (yX y))) : LB w y d 27 (fun μ x l Q => WP_X2_leastBelow_W5 w μ (d : Int) x l Q) := LB.step hw k u hd (by decide) (LB.n6 hw k u hd)
theorem LB.n4 (hw : mWF w) (k : K2X y) (u : upI (xE (yX y)) (xS (yX y))) (hd : d < eD (xE (yX y))) : LB w y d 28 (fun μ x l Q => WP_X2_leastBelow_W4 w μ (d : Int) x l Q) := LB.step hw k u hd (by decide) (LB.n5 hw k u hd)
theorem LB.n3 (hw : mWF w) (k : K2X y) (u : upI (xE (yX y)) (xS (yX y))) (hd : d < eD (xE (yX y))) : LB w y d 29 (fun μ x l Q => WP_X2_leastBelow_W3 w μ (d : Int) x l Q) := LB.step hw k u hd (by decide) (LB.n4 hw k u hd)
theorem LB.n2 (hw : mWF w) (k : K2X y) (u : upI (xE (yX y)) (xS (yX y))) (hd : d < eD (xE (yX y))) : LB w y d 30 (fun μ x l Q => WP_X2_leastBelow_W2 w μ (d : Int) x l Q) := LB.step hw k u hd (by decide) (LB.n3 hw k u hd)
theorem LB.n1 (hw : mWF w) (k : K2X y) (u : upI (xE (yX y)) (xS (yX y))) (hd : d < eD (xE (yX y))) : LB w y d 31 (fun μ x l Q => WP_X2_leastBelow_W1 w μ (d : Int) x l Q) := LB.step hw k u hd (by decide) (LB.n2 hw k u hd)
theorem LB.n0 (hw : mWF w) (k : K2X y) (u : upI (xE (yX y)) (xS (yX y))) (hd : d < eD (xE (yX y))) : LB w y d 32 (fun μ x l Q => WP_X2_leastBelow_W0 w μ (d : Int) x l Q) := LB.step hw k u hd (by decide) (LB.n1 hw k u hd)
def leQ (y : S2) (d z : Int) : Prop := (¬ inD y d ∧ z = -1) ∨ (inD y d ∧ (z - cst (tA y d.toNat) (splP y d.toNat) 32 0 21) % 4294967296 = 0)
theorem leQ.eq {d z z' : Int} (h : leQ y d z) (h' : leQ y d z') (r : -2147483648 ≤ z ∧ z ≤ 2147483647) (r' : -2147483648 ≤ z' ∧ z' ≤ 2147483647) : z = z' := by
  rcases h with ⟨a, b⟩ | ⟨a, b⟩ <;> rcases h' with ⟨c, e⟩ | ⟨c, e⟩
  · omega
  · exact absurd c a
  · exact absurd a c
  · omega
theorem C_leastA {d : Int} (hw : mWF w) (hT : mT w μ) (h : K2C w μ y) (k : K2X y) (u : upI (xE (yX y)) (xS (yX y))) : WP_X11_least_W w μ d (fun z _ => leQ y d z) := by
  have ev := h.1.env hw hT k.1
  intro n en rn
  refine X11_isDomain_s ev fun z hz rz => ⟨fun q => Or.inl ⟨fun g => ?_, rfl⟩, fun q => ?_⟩
  · have := hz.mpr g
    omega
  have g : inD y d := hz.mp (by omega)
  obtain ⟨g0, g1⟩ := hz.mp (show z = 1 by omega)
  obtain ⟨dn, rfl⟩ : ∃ n : Nat, d = (n : Int) := ⟨d.toNat, by omega⟩
  intro m1 u1 T1
  obtain rfl := u1.is
  have F1 : mF [87007] w μ (mUp μ 87 7 0) := mF.refl.up (A_87 hw) mUp_ok rfl
  refine LB.n0 hw k u (by omega) (mUp μ 87 7 0) 0 0 _ (by omega) T1 (h.fr hw hT (mX.ofF F1) rfl) fun z8 m4 T4 F4 s8 e8 _ _ _ z9 e9 => ?_
  rw [mUp.yes ⟨rfl, rfl⟩] at e8
  have one : aSet 2097152 (fun a => a = 21) := aSet.one (t := 21) (by decide) fun a => Iff.rfl
  have zz := aSet.zero (s8.and one e9) fun a ha => by
    have := ha.2
    omega
  refine ⟨fun c z25 e25 r25 z28 r28 e28 _ _ _ => Or.inr ⟨g, ?_⟩, fun c z32 e32 r32 _ _ _ => Or.inr ⟨g, ?_⟩⟩
  · rw [Int.toNat_natCast, cst.out (fun q => (zz.mp c) ⟨21, q, rfl⟩)]
    omega
  · have i : (lsN (tA y dn) (splP y dn) 32 0).2 21 := Classical.byContradiction fun q => c (zz.mpr fun ⟨a, a1, a2⟩ => q (by
      have a2 : a = 21 := a2
      rw [a2] at a1
      exact a1))
    rw [Int.toNat_natCast, cst.in i]
    omega
end LeC
end
