section
/-! Letters: answers; what was led; demands, loads, units. -/
/-- how a letter ends, the domains that it comes to -/
noncomputable def ltG (y : S2) (x d : Int) : Int × List Int := goL (nxtE (xE (yX y)) (xS (yX y)) (jA (xJ (yX y))) (jL (xJ (yX y))) x) 11 [] d
def inD (y : S2) (d : Int) : Prop := 0 ≤ d ∧ d < (eD (xE (yX y)) : Int)
/-- what letter answers -/
def ltQ (y : S2) (d x z : Int) : Prop := (¬ inD y d ∧ z = -1) ∨ (inD y d ∧ z = (ltG y x d).1)
theorem ltQ.eq {y : S2} {d x z z' : Int} (h : ltQ y d x z) (h' : ltQ y d x z') : z = z' := by
  rcases h with ⟨a, b⟩ | ⟨a, b⟩ <;> rcases h' with ⟨c, e⟩ | ⟨c, e⟩
  · omega
  · exact absurd c a
  · exact absurd a c
  · rw [b, e]
/-- what was led is the same -/
def LDx (μ : mM) : Prop := μ 87 9 = μ 106 108 ∧ ∀ i : Nat, (i : Int) < μ 87 9 → μ 89 i = μ 176 i
abbrev ldL : List Nat := [87009, 89999, 106108, 176999]
theorem LDx.fr {w w1 : mW} {μ m : mM} {lf : List Nat} (h : LDx μ) (hw : mWF w) (X : mX lf w μ w1 m) (hl : (ldL.all fun r => !lf.elem r) = true) : LDx m := by
  have a : m 87 9 = μ 87 9 := X.f (A_87 hw) (qA_no hl rfl) rfl
  have b : m 106 108 = μ 106 108 := X.f (A_106 hw) (qA_no hl rfl) rfl
  have c : ∀ i, m 89 i = μ 89 i := fun i => X.f (A_89 hw) (qA_no hl rfl) rfl
  have d : ∀ i, m 176 i = μ 176 i := fun i => X.f (A_176 hw) (qA_no hl rfl) rfl
  refine ⟨by rw [a, b]; exact h.1, fun i hi => ?_⟩
  rw [a] at hi
  rw [c, d]
  exact h.2 i hi
section LetC
variable {w : mW} {μ m : mM} {y : S2}
theorem C_letterA {d x : Int} (hw : mWF w) (hT : mT w μ) (h : K2C w μ y) (k : K2X y) (u : upI (xE (yX y)) (xS (yX y))) : WP_X11_letter_W w μ d x (fun z m => ltQ y d x z ∧ ((¬ inD y d ∧ m = μ) ∨ (inD y d ∧ m 87 9 = ((ltG y x d).2.length : Int) ∧ rowL (m 89) (ltG y x d).2.length = (ltG y x d).2))) := by
  have ev := h.1.env hw hT k.1
  intro n en rn
  refine X11_isDomain_s ev fun z hz rz => ⟨fun q => ?_, fun q => ?_⟩
  · have g : ¬ inD y d := fun g => by
      have := hz.mpr g
      omega
    exact ⟨Or.inl ⟨g, rfl⟩, Or.inl ⟨g, rfl⟩⟩
  · have g : inD y d := hz.mp (by omega)
    obtain ⟨g0, g1⟩ := hz.mp (show z = 1 by omega)
    obtain ⟨dn, rfl⟩ : ∃ n : Nat, d = (n : Int) := ⟨d.toNat, by omega⟩
    refine X2_travel_s hw hT h k u (by omega) fun m1 T1 F1 e6 er _ _ _ z6 ez6 rz6 m9 q9 T9 m13 u13 T13 => ?_
    obtain rfl := u13.is
    intro _ _ _
    have e6 : m1 87 6 = ((ltG y x (dn : Int)).2.length : Int) := e6
    have er : rowL (m1 88) (ltG y x (dn : Int)).2.length = (ltG y x (dn : Int)).2 := er
    refine ⟨Or.inr ⟨g, rfl⟩, Or.inr ⟨g, ?_, ?_⟩⟩
    · rw [mUp.yes ⟨rfl, rfl⟩]
      omega
    · refine (rowL.ext (f := m1 88) fun i hi => ?_).trans er
      rw [mUp.no (by omega), q9.2 i, if_pos (by omega), show (0 : Int).toNat + (i - (0 : Int).toNat) = i by omega]
theorem R_letterA {d x : Int} (hw : mWF w) (hT : mT w μ) (h : K2R μ y) (k : K2X y) (u : upI (xE (yX y)) (xS (yX y))) : WP_X12_letter_W w μ d x (fun z m => ltQ y d x z ∧ ((¬ inD y d ∧ m = μ) ∨ (inD y d ∧ m 106 108 = ((ltG y x d).2.length : Int) ∧ rowL (m 176) (ltG y x d).2.length = (ltG y x d).2))) := by
  have ev := h.1.env (w := w) hw k.1
  intro n en rn
  refine X12_isDomain_s ev fun z hz rz => ⟨fun q => ?_, fun q => ?_⟩
  rotate_left 1
  · have g : ¬ inD y d := fun g => by
      have := hz.mpr g
      omega
    exact ⟨Or.inl ⟨g, rfl⟩, Or.inl ⟨g, rfl⟩⟩
  · have g : inD y d := hz.mp (by omega)
    obtain ⟨g0, g1⟩ := hz.mp (show z = 1 by omega)
    obtain ⟨dn, rfl⟩ : ∃ n : Nat, d = (n : Int) := ⟨d.toNat, by omega⟩
    refine X12_goes_s hw hT h k u (by omega) fun m1 T1 F1 e6 er _ _ rz2 z19 ez rz19 m2 u2 T2 => ?_
    obtain rfl := u2.is
    have e6 : m1 106 106 = ((ltG y x (dn : Int)).2.length : Int) := e6
    have er : rowL (m1 175) (ltG y x (dn : Int)).2.length = (ltG y x (dn : Int)).2 := er
    refine loopF.im (fun i m => 0 ≤ i ∧ i ≤ z19 ∧ ∀ j : Nat, (j : Int) < i → m 176 j = m1 175 j) (fun i => (13 - i).toNat) ⟨by omega, by omega, fun j hj => absurd hj (by omega)⟩ (by omega) ?_
    rintro rc i m ⟨i0, i1, hi⟩ ih i' m' e ri T F
    cases e
    have e108 : m 106 108 = z19 := by
      have a : m 106 108 = mUp m1 106 108 z19 106 108 := F.f (A_106 hw) rfl rfl
      rw [a, mUp.yes ⟨rfl, rfl⟩]
    have e175 : ∀ j, m 175 j = m1 175 j := fun j => by
      have a : m 175 j = mUp m1 106 108 z19 175 j := F.f (A_175 hw) rfl rfl
      rw [a, mUp.no (by omega)]
    refine ⟨fun c => ⟨Or.inr ⟨g, rfl⟩, Or.inr ⟨g, by omega, (rowL.ext (f := m1 175) fun j hj => hi j (by omega)).trans er⟩⟩, fun c v ev1 rv m3 u3 T3 => ?_⟩
    obtain rfl := u3.is
    refine ih _ _ ⟨by omega, by omega, fun j hj => ?_⟩ (by omega)
    by_cases c2 : j = i.toNat
    · rw [mUp.yes ⟨rfl, c2⟩, ← ev1, e175, c2]
    · rw [mUp.no (by omega)]
      exact hi j (by omega)
/-- the class's letter, then the reference's -/
theorem LDx.let {d x : Int} {m2 : mM} (hm : LDx μ) (f108 : m 106 108 = μ 106 108) (f176 : ∀ i, m 176 i = μ 176 i) (g9 : m2 87 9 = m 87 9) (g89 : ∀ i, m2 89 i = m 89 i)
    (p : (¬ inD y d ∧ m = μ) ∨ (inD y d ∧ m 87 9 = ((ltG y x d).2.length : Int) ∧ rowL (m 89) (ltG y x d).2.length = (ltG y x d).2))
    (q : (¬ inD y d ∧ m2 = m) ∨ (inD y d ∧ m2 106 108 = ((ltG y x d).2.length : Int) ∧ rowL (m2 176) (ltG y x d).2.length = (ltG y x d).2)) : LDx m2 := by
  rcases p with ⟨a, rfl⟩ | ⟨a, p1, p2⟩
  · rcases q with ⟨_, rfl⟩ | ⟨b, _⟩
    · exact hm
    · exact absurd b a
  · rcases q with ⟨b, _⟩ | ⟨_, q1, q2⟩
    · exact absurd a b
    · refine ⟨by omega, fun i hi => ?_⟩
      rw [g89]
      exact rowL.at (p2.trans q2.symm) (by omega)
theorem C_ledA {i : Int} : WP_X11_led_W w μ i (fun z _ => z = if 0 ≤ i ∧ i < μ 87 9 then μ 89 i.toNat else -99999999) := by
  refine ⟨fun c => (if_neg (by omega)).symm, fun c v ev rv => ⟨fun c2 z ez rz => ?_, fun c2 => (if_neg (by omega)).symm⟩⟩
  rw [if_pos (by omega)]
  exact ez.symm
theorem R_ledA {i : Int} : WP_X12_led_W w μ i (fun z _ => z = if 0 ≤ i ∧ i < μ 106 108 then μ 176 i.toNat else -99999999) := by
  intro v ev rv
  refine X12_in_s fun z hz rz => ⟨fun c => (if_neg fun g => ?_).symm, fun c x ex rx => ?_⟩
  · have := hz.mpr (by omega)
    omega
  · have := hz.mp (by omega)
    rw [if_pos (by omega)]
    exact ex.symm
theorem led_eq {i z z' : Int} (h : LDx μ) (a : z = if 0 ≤ i ∧ i < μ 87 9 then μ 89 i.toNat else -99999999) (b : z' = if 0 ≤ i ∧ i < μ 106 108 then μ 176 i.toNat else -99999999) : z = z' := by
  rw [a, b, h.1]
  by_cases c : 0 ≤ i ∧ i < μ 106 108
  · rw [if_pos c, if_pos c]
    exact h.2 i.toNat (by
      have := h.1
      omega)
  · rw [if_neg c, if_neg c]
end LetC
/-! Demands. -/
def DMx (μ : mM) : Prop := μ 87 10 = μ 106 109 ∧ ∀ i : Nat, (i : Int) < μ 87 10 → μ 90 i = μ 177 i ∧ μ 91 i = μ 178 i ∧ μ 92 i = μ 179 i
abbrev dmL : List Nat := [87010, 90999, 91999, 92999, 106109, 177999, 178999, 179999]
theorem DMx.fr {w w1 : mW} {μ m : mM} {lf : List Nat} (h : DMx μ) (hw : mWF w) (X : mX lf w μ w1 m) (hl : (dmL.all fun r => !lf.elem r) = true) : DMx m := by
  have a : m 87 10 = μ 87 10 := X.f (A_87 hw) (qA_no hl rfl) rfl
  have b : m 106 109 = μ 106 109 := X.f (A_106 hw) (qA_no hl rfl) rfl
  have c1 : ∀ i, m 90 i = μ 90 i := fun i => X.f (A_90 hw) (qA_no hl rfl) rfl
  have c2 : ∀ i, m 91 i = μ 91 i := fun i => X.f (A_91 hw) (qA_no hl rfl) rfl
  have c3 : ∀ i, m 92 i = μ 92 i := fun i => X.f (A_92 hw) (qA_no hl rfl) rfl
  have d1 : ∀ i, m 177 i = μ 177 i := fun i => X.f (A_177 hw) (qA_no hl rfl) rfl
  have d2 : ∀ i, m 178 i = μ 178 i := fun i => X.f (A_178 hw) (qA_no hl rfl) rfl
  have d3 : ∀ i, m 179 i = μ 179 i := fun i => X.f (A_179 hw) (qA_no hl rfl) rfl
  refine ⟨by rw [a, b]; exact h.1, fun i hi => ?_⟩
  rw [a] at hi
  rw [c1, c2, c3, d1, d2, d3]
  exact h.2 i hi
/-- what demand answers -/
def dmQ (y : S2) (c d n z : Int) : Prop := (¬ (inD y d ∧ 1 ≤ n ∧ n ≤ 1000000) ∧ z = -1) ∨ ((inD y d ∧ 1 ≤ n ∧ n ≤ 1000000) ∧ ((16 ≤ c ∧ z = -3) ∨ (c < 16 ∧ z = c)))
section Dem
variable {w : mW} {μ m : mM} {y : S2}
theorem C_demandA {d a n : Int} (hw : mWF w) (hT : mT w μ) (h : K2C w μ y) (k : K2X y) : WP_X11_demand_W w μ d a n (fun z m => dmQ y (μ 87 10) d n z ∧ ((z < 0 ∧ m = μ) ∨ (0 ≤ z ∧ m 87 10 = μ 87 10 + 1 ∧ ∀ i, m 90 i = (if i = (μ 87 10).toNat then d else μ 90 i) ∧ m 91 i = (if i = (μ 87 10).toNat then a else μ 91 i) ∧ m 92 i = (if i = (μ 87 10).toNat then n else μ 92 i)))) := by
  have ev := h.1.env hw hT k.1
  have c0 : 0 ≤ μ 87 10 ∧ μ 87 10 ≤ 16 ∧ (μ 87 10 = 0 ∨ 0 < w.2.2.2 0) := hT 87 87 (A_87 hw) 10
  intro v ev1 rv
  refine X11_isDomain_s ev fun z hz rz => ⟨fun q => ?_, fun q => ⟨fun c => ?_, fun c => ⟨fun c2 v2 e2 r2 => ⟨fun c3 => ?_, fun c3 => ?_⟩, fun c2 => ?_⟩⟩⟩
  · exact ⟨Or.inl ⟨fun g => by
      have := hz.mpr g.1
      omega, rfl⟩, Or.inl ⟨by decide, rfl⟩⟩
  · exact ⟨Or.inl ⟨fun g => by omega, rfl⟩, Or.inl ⟨by decide, rfl⟩⟩
  · intro f ef rf m1 u1 T1 m2 u2 T2 m3 u3 T3 m4 u4 T4 _ _ _
    obtain rfl := u1.is
    obtain rfl := u2.is
    obtain rfl := u3.is
    obtain rfl := u4.is
    subst ef
    refine ⟨Or.inr ⟨⟨hz.mp (by omega), c, c2⟩, Or.inr ⟨by omega, by omega⟩⟩, Or.inr ⟨by omega, mUp.yes ⟨rfl, rfl⟩, fun i => ⟨?_, ?_, ?_⟩⟩⟩
    · by_cases e : i = (μ 87 10).toNat
      · rw [if_pos e, mUp.no (by omega), mUp.no (by omega), mUp.no (by omega), mUp.yes ⟨rfl, e⟩]
      · rw [if_neg e, mUp.no (by omega), mUp.no (by omega), mUp.no (by omega), mUp.no (by omega)]
    · by_cases e : i = (μ 87 10).toNat
      · rw [if_pos e, mUp.no (by omega), mUp.no (by omega), mUp.yes ⟨rfl, e⟩]
      · rw [if_neg e, mUp.no (by omega), mUp.no (by omega), mUp.no (by omega), mUp.no (by omega)]
    · by_cases e : i = (μ 87 10).toNat
      · rw [if_pos e, mUp.no (by omega), mUp.yes ⟨rfl, e⟩]
      · rw [if_neg e, mUp.no (by omega), mUp.no (by omega), mUp.no (by omega), mUp.no (by omega)]
  · exact ⟨Or.inr ⟨⟨hz.mp (by omega), c, c2⟩, Or.inl ⟨by omega, rfl⟩⟩, Or.inl ⟨by decide, rfl⟩⟩
  · exact ⟨Or.inl ⟨fun g => by omega, rfl⟩, Or.inl ⟨by decide, rfl⟩⟩
theorem R_demandA {d a n : Int} (hw : mWF w) (hT : mT w μ) (h : K2R μ y) (k : K2X y) : WP_X12_demand_W w μ d a n (fun z m => dmQ y (μ 106 109) d n z ∧ ((z < 0 ∧ m = μ) ∨ (0 ≤ z ∧ m 106 109 = μ 106 109 + 1 ∧ ∀ i, m 177 i = (if i = (μ 106 109).toNat then d else μ 177 i) ∧ m 178 i = (if i = (μ 106 109).toNat then a else μ 178 i) ∧ m 179 i = (if i = (μ 106 109).toNat then n else μ 179 i)))) := by
  have ev := h.1.env (w := w) hw k.1
  have c0 : 0 ≤ μ 106 109 ∧ μ 106 109 ≤ 16 := hT 106 106 (A_106 hw) 109
  intro v ev1 rv
  refine X12_isDomain_s ev fun z hz rz => ⟨fun q => ?_, fun q => X12_in_s fun z2 hz2 rz2 => ⟨fun c v2 e2 r2 => ⟨fun c3 => ?_, fun c3 => ?_⟩, fun c => ?_⟩⟩
  · exact ⟨Or.inl ⟨fun g => by
      have := hz.mpr g.1
      omega, rfl⟩, Or.inl ⟨by decide, rfl⟩⟩
  · intro m1 u1 T1 m2 u2 T2 m3 u3 T3 m4 u4 T4
    obtain rfl := u1.is
    obtain rfl := u2.is
    obtain rfl := u3.is
    obtain rfl := u4.is
    subst e2
    have c4 := hz2.mp (by omega)
    refine ⟨Or.inr ⟨⟨hz.mp (by omega), c4.1, c4.2⟩, Or.inr ⟨by omega, by omega⟩⟩, Or.inr ⟨by omega, mUp.yes ⟨rfl, rfl⟩, fun i => ⟨?_, ?_, ?_⟩⟩⟩
    · by_cases e : i = (μ 106 109).toNat
      · rw [if_pos e, mUp.no (by omega), mUp.no (by omega), mUp.no (by omega), mUp.yes ⟨rfl, e⟩]
      · rw [if_neg e, mUp.no (by omega), mUp.no (by omega), mUp.no (by omega), mUp.no (by omega)]
    · by_cases e : i = (μ 106 109).toNat
      · rw [if_pos e, mUp.no (by omega), mUp.no (by omega), mUp.yes ⟨rfl, e⟩]
      · rw [if_neg e, mUp.no (by omega), mUp.no (by omega), mUp.no (by omega), mUp.no (by omega)]
    · by_cases e : i = (μ 106 109).toNat
      · rw [if_pos e, mUp.no (by omega), mUp.yes ⟨rfl, e⟩]
      · rw [if_neg e, mUp.no (by omega), mUp.no (by omega), mUp.no (by omega), mUp.no (by omega)]
  · have c4 := hz2.mp (by omega)
    exact ⟨Or.inr ⟨⟨hz.mp (by omega), c4.1, c4.2⟩, Or.inl ⟨by omega, rfl⟩⟩, Or.inl ⟨by decide, rfl⟩⟩
  · exact ⟨Or.inl ⟨fun g => by
      have := hz2.mpr g.2
      omega, rfl⟩, Or.inl ⟨by decide, rfl⟩⟩
theorem dmQ.eq {c d n z z' : Int} (h : dmQ y c d n z) (h' : dmQ y c d n z') : z = z' := by
  rcases h with ⟨a, b⟩ | ⟨a, b⟩ <;> rcases h' with ⟨c, e⟩ | ⟨c, e⟩
  · omega
  · exact absurd c a
  · exact absurd a c
  · omega
/-- the class's demand, then the reference's -/
theorem DMx.dem {d a n z z' : Int} {m2 : mM} (hm : DMx μ) (c0 : 0 ≤ μ 87 10) (f9 : m 106 109 = μ 106 109) (f1 : ∀ i, m 177 i = μ 177 i) (f2 : ∀ i, m 178 i = μ 178 i) (f3 : ∀ i, m 179 i = μ 179 i) (g9 : m2 87 10 = m 87 10) (g1 : ∀ i, m2 90 i = m 90 i) (g2 : ∀ i, m2 91 i = m 91 i) (g3 : ∀ i, m2 92 i = m 92 i)
    (e : dmQ y (μ 87 10) d n z) (e' : dmQ y (m 106 109) d n z')
    (p : (z < 0 ∧ m = μ) ∨ (0 ≤ z ∧ m 87 10 = μ 87 10 + 1 ∧ ∀ i, m 90 i = (if i = (μ 87 10).toNat then d else μ 90 i) ∧ m 91 i = (if i = (μ 87 10).toNat then a else μ 91 i) ∧ m 92 i = (if i = (μ 87 10).toNat then n else μ 92 i)))
    (q : (z' < 0 ∧ m2 = m) ∨ (0 ≤ z' ∧ m2 106 109 = m 106 109 + 1 ∧ ∀ i, m2 177 i = (if i = (m 106 109).toNat then d else m 177 i) ∧ m2 178 i = (if i = (m 106 109).toNat then a else m 178 i) ∧ m2 179 i = (if i = (m 106 109).toNat then n else m 179 i))) : z = z' ∧ DMx m2 := by
  have h1 := hm.1
  rw [f9, ← h1] at e'
  have ez : z = z' := e.eq e'
  subst ez
  refine ⟨rfl, ?_⟩
  rcases p with ⟨a1, rfl⟩ | ⟨a1, p1, p2⟩
  · rcases q with ⟨_, rfl⟩ | ⟨b, _⟩
    · exact hm
    · omega
  · rcases q with ⟨b, _⟩ | ⟨_, q1, q2⟩
    · omega
    · refine ⟨by omega, fun i hi => ?_⟩
      rw [g9, p1] at hi
      obtain ⟨x1, x2, x3⟩ := p2 i
      obtain ⟨y1, y2, y3⟩ := q2 i
      rw [f9, ← h1] at y1 y2 y3
      rw [g1, g2, g3, x1, x2, x3, y1, y2, y3, f1, f2, f3]
      by_cases c : i = (μ 87 10).toNat
      · rw [if_pos c, if_pos c, if_pos c, if_pos c, if_pos c, if_pos c]
        exact ⟨rfl, rfl, rfl⟩
      · rw [if_neg c, if_neg c, if_neg c, if_neg c, if_neg c, if_neg c]
        exact hm.2 i (by omega)
/-- demands begin at domains that are there -/
theorem C_from (hw : mWF w) (hT : mT w μ) (h : K2C w μ y) : ∀ i : Nat, (i : Int) < μ 87 10 → 0 ≤ μ 90 i ∧ μ 90 i < (eD (xE (yX y)) : Int) := fun i hi => by
  have a : 0 ≤ μ 87 10 ∧ μ 87 10 ≤ 16 ∧ (μ 87 10 = 0 ∨ 0 < w.2.2.2 0) := hT 87 87 (A_87 hw) 10
  have b : 0 ≤ μ 90 i ∧ μ 90 i ≤ 9 ∧ (μ 90 i = 0 ∨ μ 90 i < w.2.2.2 0) := hT 90 90 (A_90 hw) i
  have c : μ 6 15 = w.2.2.2 0 ∧ 0 ≤ μ 6 15 ∧ μ 6 15 ≤ 10 := hT 6 6 (A_6 hw) 15
  have d : μ 6 15 = (eD (xE (yX y)) : Int) := h.1.1.2.2.1
  omega
theorem DMx.from (hw : mWF w) (hT : mT w μ) (h : K2C w μ y) (hm : DMx μ) : ∀ i : Nat, (i : Int) < μ 106 109 → 0 ≤ μ 177 i ∧ μ 177 i < (eD (xE (yX y)) : Int) := fun i hi => by
  have e := hm.1
  rw [← (hm.2 i (by omega)).1]
  exact C_from hw hT h i (by omega)
end Dem
/-! Units. -/
noncomputable def untN (g : Int → Int → Int × List Int) (f a u : Nat → Int) (o : Int) : Nat → Int
  | 0 => 0
  | n + 1 => untN g f a u o n + (if (g (a n) (f n)).1 = o then u n else 0)
theorem untN.cg {g : Int → Int → Int × List Int} {f a u f' a' u' : Nat → Int} {o : Int} : ∀ n : Nat, (∀ i, i < n → f i = f' i ∧ a i = a' i ∧ u i = u' i) → untN g f a u o n = untN g f' a' u' o n
  | 0, _ => rfl
  | n + 1, h => by
    obtain ⟨h1, h2, h3⟩ := h n (by omega)
    show untN g f a u o n + (if (g (a n) (f n)).1 = o then u n else 0) = untN g f' a' u' o n + (if (g (a' n) (f' n)).1 = o then u' n else 0)
    rw [untN.cg n fun i hi => h i (by omega), h1, h2, h3]
def prN (g : Nat → Int) (p q u : Int) : Nat → Int
  | 0 => 0
  | k + 1 => prN g p q u k + (if g k = p ∧ g (k + 1) = q then u else 0)
theorem prN.cg {g g' : Nat → Int} {p q u : Int} : ∀ n : Nat, (∀ i, i ≤ n → g i = g' i) → prN g p q u n = prN g' p q u n
  | 0, _ => rfl
  | n + 1, h => by
    show prN g p q u n + (if g n = p ∧ g (n + 1) = q then u else 0) = prN g' p q u n + (if g' n = p ∧ g' (n + 1) = q then u else 0)
    rw [prN.cg n fun i hi => h i (by omega), h n (by omega), h (n + 1) (by omega)]
noncomputable def prS (l : List Int) (p q u : Int) : Int := prN (fun k => (l[k]?).getD 0) p q u (l.length - 1)
noncomputable def lodN (g : Int → Int → Int × List Int) (f a u : Nat → Int) (p q : Int) : Nat → Int
  | 0 => 0
  | n + 1 => lodN g f a u p q n + prS (g (a n) (f n)).2 p q (u n)
theorem lodN.cg {g : Int → Int → Int × List Int} {f a u f' a' u' : Nat → Int} {p q : Int} : ∀ n : Nat, (∀ i, i < n → f i = f' i ∧ a i = a' i ∧ u i = u' i) → lodN g f a u p q n = lodN g f' a' u' p q n
  | 0, _ => rfl
  | n + 1, h => by
    obtain ⟨h1, h2, h3⟩ := h n (by omega)
    show lodN g f a u p q n + prS (g (a n) (f n)).2 p q (u n) = lodN g f' a' u' p q n + prS (g (a' n) (f' n)).2 p q (u' n)
    rw [lodN.cg n fun i hi => h i (by omega), h1, h2, h3]
def unQ (o U z : Int) : Prop := (¬ (0 ≤ o ∧ o ≤ 2) ∧ z = -1) ∨ ((0 ≤ o ∧ o ≤ 2) ∧ (z - U) % 4294967296 = 0)
theorem unQ.eq {o U z z' : Int} (h : unQ o U z) (h' : unQ o U z') (r : -2147483648 ≤ z ∧ z ≤ 2147483647) (r' : -2147483648 ≤ z' ∧ z' ≤ 2147483647) : z = z' := by
  rcases h with ⟨a, b⟩ | ⟨a, b⟩ <;> rcases h' with ⟨c, e⟩ | ⟨c, e⟩ <;> omega
def loQ (E : En) (t s U z : Int) : Prop := (¬ ((0 ≤ t ∧ t < (eT E : Int)) ∧ 0 ≤ s ∧ s ≤ 1) ∧ z = -1) ∨ (((0 ≤ t ∧ t < (eT E : Int)) ∧ 0 ≤ s ∧ s ≤ 1) ∧ (z - U) % 4294967296 = 0)
theorem loQ.eq {E : En} {t s U z z' : Int} (h : loQ E t s U z) (h' : loQ E t s U z') (r : -2147483648 ≤ z ∧ z ≤ 2147483647) (r' : -2147483648 ≤ z' ∧ z' ≤ 2147483647) : z = z' := by
  rcases h with ⟨a, b⟩ | ⟨a, b⟩ <;> rcases h' with ⟨c, e⟩ | ⟨c, e⟩ <;> omega
section Units
variable {w : mW} {μ m : mM} {y : S2}
theorem C_unitsA {o : Int} (hw : mWF w) (hT : mT w μ) (h : K2C w μ y) (k : K2X y) (u : upI (xE (yX y)) (xS (yX y))) : WP_X11_units_W w μ o (fun z m => unQ o (untN (ltG y) (μ 90) (μ 91) (μ 92) o (μ 87 10).toNat) z) := by
  have hf := C_from hw hT h
  refine ⟨fun c => Or.inl ⟨by omega, rfl⟩, fun c => ⟨fun c2 => ?_, fun c2 => Or.inl ⟨by omega, rfl⟩⟩⟩
  refine loopF.iim (fun z i m => 0 ≤ i ∧ (i = 0 ∨ i ≤ μ 87 10) ∧ mF [87006, 88999] w μ m ∧ (z - untN (ltG y) (μ 90) (μ 91) (μ 92) o i.toNat) % 4294967296 = 0) (fun _ i => (17 - i).toNat) ⟨by omega, Or.inl rfl, mF.refl, by
    show ((0 : Int) - 0) % 4294967296 = 0
    decide⟩ (by omega) ?_
  rintro rc z i m ⟨i0, i1, F0, hz⟩ ih z' i' m' e _ ri T F n en rn
  cases e
  have e10 : m 87 10 = μ 87 10 := F0.f (A_87 hw) rfl rfl
  rw [e10] at en
  subst en
  refine ⟨fun c3 _ _ _ => Or.inr ⟨⟨c, c2⟩, ?_⟩, fun c3 z1 e1 r1 z2 e2 r2 => ?_⟩
  · rw [show i.toNat = (μ 87 10).toNat by omega] at hz
    exact hz
  have c90 : ∀ j, m 90 j = μ 90 j := fun j => F0.f (A_90 hw) rfl rfl
  have c91 : ∀ j, m 91 j = μ 91 j := fun j => F0.f (A_91 hw) rfl rfl
  obtain ⟨iN, rfl⟩ : ∃ n : Nat, i = (n : Int) := ⟨i.toNat, by omega⟩
  rw [Int.toNat_natCast] at e1 e2 hz
  rw [c90] at e1
  rw [c91] at e2
  have hfi := hf iN (by omega)
  obtain ⟨dn, rfl⟩ : ∃ d : Nat, z1 = (d : Int) := ⟨z1.toNat, by omega⟩
  have K : K2C w m y := h.fr hw hT (mX.ofF F0) rfl
  have st : untN (ltG y) (μ 90) (μ 91) (μ 92) o (iN + 1) = untN (ltG y) (μ 90) (μ 91) (μ 92) o iN + (if (ltG y z2 (dn : Int)).1 = o then μ 92 iN else 0) := by
    rw [← e1, ← e2]
    rfl
  refine X2_travel_s hw T K k u (by omega) fun m2 T2 F2 _ _ _ _ _ => ⟨fun c4 => ih _ _ _ ⟨by omega, by omega, F0.call F2 rfl, ?_⟩ (by omega), fun c4 v ev rv z3 r3 e3 => ih _ _ _ ⟨by omega, by omega, F0.call F2 rfl, ?_⟩ (by omega)⟩
  · have c4 : ¬ (ltG y z2 (dn : Int)).1 = o := c4
    rw [show ((iN : Int) + 1).toNat = iN + 1 by omega, st, if_neg c4]
    omega
  · have c4 : (ltG y z2 (dn : Int)).1 = o := c4
    have e92 : m2 92 iN = μ 92 iN := (F0.call F2 rfl).f (A_92 hw) rfl rfl
    rw [Int.toNat_natCast, e92] at ev
    rw [show ((iN : Int) + 1).toNat = iN + 1 by omega, st, if_pos c4]
    omega
theorem R_unitsA {o : Int} (hw : mWF w) (hT : mT w μ) (h : K2R μ y) (k : K2X y) (u : upI (xE (yX y)) (xS (yX y))) (hf : ∀ i : Nat, (i : Int) < μ 106 109 → 0 ≤ μ 177 i ∧ μ 177 i < (eD (xE (yX y)) : Int)) : WP_X12_units_W w μ o (fun z m => unQ o (untN (ltG y) (μ 177) (μ 178) (μ 179) o (μ 106 109).toNat) z) := by
  refine X12_in_s fun zi hzi rzi => ⟨fun c => ?_, fun c => Or.inl ⟨fun g => ?_, rfl⟩⟩
  rotate_left 1
  · have := hzi.mpr g
    omega
  have c2 := hzi.mp (by omega)
  refine loopF.iim (fun z i m => 0 ≤ i ∧ (i = 0 ∨ i ≤ μ 106 109) ∧ mF [106106, 175999] w μ m ∧ (z - untN (ltG y) (μ 177) (μ 178) (μ 179) o i.toNat) % 4294967296 = 0) (fun _ i => (17 - i).toNat) ⟨by omega, Or.inl rfl, mF.refl, by
    show ((0 : Int) - 0) % 4294967296 = 0
    decide⟩ (by omega) ?_
  rintro rc z i m ⟨i0, i1, F0, hz⟩ ih z' i' m' e _ ri T F n en rn
  cases e
  have e10 : m 106 109 = μ 106 109 := F0.f (A_106 hw) rfl rfl
  rw [e10] at en
  subst en
  refine ⟨fun c3 => Or.inr ⟨c2, ?_⟩, fun c3 z1 e1 r1 z2 e2 r2 => ?_⟩
  · rw [show i.toNat = (μ 106 109).toNat by omega] at hz
    exact hz
  have c90 : ∀ j, m 177 j = μ 177 j := fun j => F0.f (A_177 hw) rfl rfl
  have c91 : ∀ j, m 178 j = μ 178 j := fun j => F0.f (A_178 hw) rfl rfl
  obtain ⟨iN, rfl⟩ : ∃ n : Nat, i = (n : Int) := ⟨i.toNat, by omega⟩
  rw [Int.toNat_natCast] at e1 e2 hz
  rw [c90] at e1
  rw [c91] at e2
  have hfi := hf iN (by omega)
  obtain ⟨dn, rfl⟩ : ∃ d : Nat, z1 = (d : Int) := ⟨z1.toNat, by omega⟩
  have K : K2R m y := h.fr hw hT (mX.ofF F0) rfl
  have st : untN (ltG y) (μ 177) (μ 178) (μ 179) o (iN + 1) = untN (ltG y) (μ 177) (μ 178) (μ 179) o iN + (if (ltG y z2 (dn : Int)).1 = o then μ 179 iN else 0) := by
    rw [← e1, ← e2]
    rfl
  refine X12_goes_s hw T K k u (by omega) fun m2 T2 F2 _ _ _ _ _ => ⟨fun c4 => ih _ _ _ ⟨by omega, by omega, F0.call F2 rfl, ?_⟩ (by omega), fun c4 v ev rv z3 r3 e3 => ih _ _ _ ⟨by omega, by omega, F0.call F2 rfl, ?_⟩ (by omega)⟩
  · have c4 : ¬ (ltG y z2 (dn : Int)).1 = o := c4
    rw [show ((iN : Int) + 1).toNat = iN + 1 by omega, st, if_neg c4]
    omega
  · have c4 : (ltG y z2 (dn : Int)).1 = o := c4
    have e92 : m2 179 iN = μ 179 iN := (F0.call F2 rfl).f (A_179 hw) rfl rfl
    rw [Int.toNat_natCast, e92] at ev
    rw [show ((iN : Int) + 1).toNat = iN + 1 by omega, st, if_pos c4]
    omega
theorem row_at {f : Nat → Int} {l : List Int} {i : Nat} (h : rowL f l.length = l) (hi : i < l.length) : f i = (l[i]?).getD 0 := by
  have g : (rowL f l.length)[i]? = some (f i) := rowL.get hi
  rw [h] at g
  rw [g]
  rfl
theorem goL.ne {nx : Int → Int} : ∀ (n : Nat) (l : List Int) (a : Int), 0 < (goL nx n l a).2.length
  | 0, l, a => by
    show 0 < (l ++ [a]).length
    rw [List.length_append]
    exact Nat.succ_pos _
  | n + 1, l, a => by
    have e : 0 < (l ++ [a]).length := by
      rw [List.length_append]
      exact Nat.succ_pos _
    by_cases c : a ∈ l
    · rw [goL.again c]; exact e
    · by_cases c2 : nx a = -4
      · rw [goL.own c c2]; exact e
      · by_cases c3 : nx a < 0
        · rw [goL.lost c c2 c3]; exact e
        · rw [goL.on c c3]; exact goL.ne n _ _
theorem C_loadA {t0 s0 : Int} (hw : mWF w) (hT : mT w μ) (h : K2C w μ y) (k : K2X y) (u : upI (xE (yX y)) (xS (yX y))) : WP_X11_load_W w μ t0 s0 (fun z m => loQ (xE (yX y)) t0 s0 (lodN (ltG y) (μ 90) (μ 91) (μ 92) (eN (xE (yX y)) t0.toNat s0.toNat) (eN (xE (yX y)) t0.toNat (1 - s0.toNat)) (μ 87 10).toNat) z) := by
  have ev := h.1.env hw hT k.1
  have hf := C_from hw hT h
  intro n0 en0 rn0
  refine X11_isTie_s ev fun z hz rz => ⟨fun q => Or.inl ⟨fun g => ?_, rfl⟩, fun q => X11_isEither_s fun z2 hz2 rz2 => ⟨fun q2 b eb Ab => ?_, fun q2 => Or.inl ⟨fun g => ?_, rfl⟩⟩⟩
  · have := hz.mpr g.1
    omega
  rotate_left 1
  · have := hz2.mpr g.2
    omega
  have ht := hz.mp (by omega)
  have hs := hz2.mp (by omega)
  obtain ⟨t, rfl⟩ : ∃ n : Nat, t0 = (n : Int) := ⟨t0.toNat, by omega⟩
  obtain ⟨s, rfl⟩ : ∃ n : Nat, s0 = (n : Int) := ⟨s0.toNat, by omega⟩
  rw [Int.toNat_natCast, Int.toNat_natCast]
  obtain ⟨a1, a2, _⟩ := ev.2.2.2.2.1 t (by omega)
  have eb' : tbA μ t = b := by
    have e : μ 11 t = (b : Int) := eb
    show (μ 11 t).toNat = b
    omega
  rw [eb'] at a1 a2
  refine X9_end_s ?_
  have e1 : (if (s : Int) = 0 then μ b 0 else μ b 1) = eN (xE (yX y)) t s := by
    rw [a1, a2]
    unfold eN
    by_cases c : s = 0
    · rw [if_pos c, if_pos (by omega)]
    · rw [if_neg c, if_neg (by omega)]
  rw [e1]
  intro _
  refine X9_end_s ?_
  have e2 : (if (1 : Int) - (s : Int) = 0 then μ b 0 else μ b 1) = eN (xE (yX y)) t (1 - s) := by
    rw [a1, a2]
    unfold eN
    by_cases c : s = 0
    · rw [if_neg (by omega), if_neg (by omega)]
    · rw [if_pos (by omega), if_pos (by omega)]
  rw [e2]
  intro _
  generalize eN (xE (yX y)) t s = P
  generalize eN (xE (yX y)) t (1 - s) = R
  refine loopF.iim (fun z i m => 0 ≤ i ∧ (i = 0 ∨ i ≤ μ 87 10) ∧ mF [87006, 88999] w μ m ∧ (z - lodN (ltG y) (μ 90) (μ 91) (μ 92) P R i.toNat) % 4294967296 = 0) (fun _ i => (17 - i).toNat) ⟨by omega, Or.inl rfl, mF.refl, by
    show ((0 : Int) - 0) % 4294967296 = 0
    decide⟩ (by omega) ?_
  rintro rc z i m ⟨i0, i1, F0, hz⟩ ih z' i' m' e _ ri T F n en rn
  cases e
  have e10 : m 87 10 = μ 87 10 := F0.f (A_87 hw) rfl rfl
  rw [e10] at en
  subst en
  refine ⟨fun c3 _ _ _ => Or.inr ⟨⟨ht, hs⟩, ?_⟩, fun c3 z1 e1 r1 z2 e2 r2 => ?_⟩
  · rw [show i.toNat = (μ 87 10).toNat by omega] at hz
    exact hz
  have c90 : ∀ j, m 90 j = μ 90 j := fun j => F0.f (A_90 hw) rfl rfl
  have c91 : ∀ j, m 91 j = μ 91 j := fun j => F0.f (A_91 hw) rfl rfl
  obtain ⟨iN, rfl⟩ : ∃ n : Nat, i = (n : Int) := ⟨i.toNat, by omega⟩
  rw [Int.toNat_natCast] at e1 e2 hz
  rw [c90] at e1
  rw [c91] at e2
  have hfi := hf iN (by omega)
  obtain ⟨dn, rfl⟩ : ∃ d : Nat, z1 = (d : Int) := ⟨z1.toNat, by omega⟩
  have K : K2C w m y := h.fr hw hT (mX.ofF F0) rfl
  have st : lodN (ltG y) (μ 90) (μ 91) (μ 92) P R (iN + 1) = lodN (ltG y) (μ 90) (μ 91) (μ 92) P R iN + prS (ltG y z2 (dn : Int)).2 P R (μ 92 iN) := by
    rw [← e1, ← e2]
    rfl
  refine X2_travel_s hw T K k u (by omega) fun m2 T2 F2 l6 lr _ _ _ => ?_
  have ln : 0 < (ltG y z2 (dn : Int)).2.length := goL.ne _ _ _
  have l6 : m2 87 6 = ((ltG y z2 (dn : Int)).2.length : Int) := l6
  have lr : rowL (m2 88) (ltG y z2 (dn : Int)).2.length = (ltG y z2 (dn : Int)).2 := lr
  have F3 : mF [87006, 88999] w μ m2 := F0.call F2 rfl
  have e92 : m2 92 iN = μ 92 iN := F3.f (A_92 hw) rfl rfl
  have ps : prS (ltG y z2 (dn : Int)).2 P R (μ 92 iN) = prN (m2 88) P R (μ 92 iN) ((ltG y z2 (dn : Int)).2.length - 1) := (prN.cg _ fun j hj => row_at lr (by omega)).symm
  refine loopF.ii (fun v j => 0 ≤ j ∧ j + 1 ≤ ((ltG y z2 (dn : Int)).2.length : Int) ∧ (v - (lodN (ltG y) (μ 90) (μ 91) (μ 92) P R iN + prN (m2 88) P R (μ 92 iN) j.toNat)) % 4294967296 = 0) (fun _ j => (11 - j).toNat) ⟨by omega, by omega, by
    show (z - (lodN (ltG y) (μ 90) (μ 91) (μ 92) P R iN + 0)) % 4294967296 = 0
    omega⟩ (by omega) ?_
  rintro r2 v j ⟨j0, j1, hv⟩ ih2 v' j' e3 _ rj nn enn rnn
  cases e3
  rw [l6] at enn
  subst enn
  refine ⟨fun c4 => ih _ _ _ ⟨by omega, by omega, F3, ?_⟩ (by omega), fun c4 x1 ex1 rx1 => ?_⟩
  · rw [show ((iN : Int) + 1).toNat = iN + 1 by omega, st, ps, show (ltG y z2 (dn : Int)).2.length - 1 = j.toNat by omega]
    exact hv
  have ps2 : prN (m2 88) P R (μ 92 iN) (j + 1).toNat = prN (m2 88) P R (μ 92 iN) j.toNat + (if m2 88 j.toNat = P ∧ m2 88 (j + 1).toNat = R then μ 92 iN else 0) := by
    rw [show (j + 1).toNat = j.toNat + 1 by omega]
    rfl
  refine ⟨fun c5 => ih2 _ _ ⟨by omega, by omega, ?_⟩ (by omega), fun c5 x2 ex2 rx2 => ⟨fun c6 => ih2 _ _ ⟨by omega, by omega, ?_⟩ (by omega), fun c6 x3 ex3 rx3 x4 rx4 ex4 => ih2 _ _ ⟨by omega, by omega, ?_⟩ (by omega)⟩⟩
  · rw [ps2, if_neg fun g => c5 (ex1.symm.trans g.1)]
    omega
  · rw [ps2, if_neg fun g => c6 (ex2.symm.trans g.2)]
    omega
  · rw [Int.toNat_natCast, e92] at ex3
    rw [ps2, if_pos ⟨ex1.trans c5, ex2.trans c6⟩]
    omega
theorem R_loadA {t0 s0 : Int} (hw : mWF w) (hT : mT w μ) (h : K2R μ y) (k : K2X y) (u : upI (xE (yX y)) (xS (yX y))) (hf : ∀ i : Nat, (i : Int) < μ 106 109 → 0 ≤ μ 177 i ∧ μ 177 i < (eD (xE (yX y)) : Int)) : WP_X12_load_W w μ t0 s0 (fun z m => loQ (xE (yX y)) t0 s0 (lodN (ltG y) (μ 177) (μ 178) (μ 179) (eN (xE (yX y)) t0.toNat s0.toNat) (eN (xE (yX y)) t0.toNat (1 - s0.toNat)) (μ 106 109).toNat) z) := by
  have ev := h.1.env (w := w) hw k.1
  intro n0 en0 rn0
  refine X12_isTie_s ev fun z hz rz => ⟨fun q => Or.inl ⟨fun g => ?_, rfl⟩, fun q => X12_in_s fun z2 hz2 rz2 => ⟨fun q2 => ?_, fun q2 => Or.inl ⟨fun g => ?_, rfl⟩⟩⟩
  · have := hz.mpr g.1
    omega
  rotate_left 1
  · have := hz2.mpr g.2
    omega
  have ht := hz.mp (by omega)
  have hs := hz2.mp (by omega)
  obtain ⟨t, rfl⟩ : ∃ n : Nat, t0 = (n : Int) := ⟨t0.toNat, by omega⟩
  obtain ⟨s, rfl⟩ : ∃ n : Nat, s0 = (n : Int) := ⟨s0.toNat, by omega⟩
  rw [Int.toNat_natCast, Int.toNat_natCast]
  obtain ⟨a1, a2, _⟩ := ev.2.2.2.1 t (by omega)
  have b1 : μ 110 (2 * (t : Int) + (s : Int)).toNat = eN (xE (yX y)) t s := by
    unfold eN
    by_cases c : s = 0
    · rw [if_pos c, show (2 * (t : Int) + (s : Int)).toNat = 2 * t by omega]; exact a1
    · rw [if_neg c, show (2 * (t : Int) + (s : Int)).toNat = 2 * t + 1 by omega]; exact a2
  have b2 : μ 110 (2 * (t : Int) + 1 - (s : Int)).toNat = eN (xE (yX y)) t (1 - s) := by
    unfold eN
    by_cases c : s = 0
    · rw [if_neg (by omega), show (2 * (t : Int) + 1 - (s : Int)).toNat = 2 * t + 1 by omega]; exact a2
    · rw [if_pos (by omega), show (2 * (t : Int) + 1 - (s : Int)).toNat = 2 * t by omega]; exact a1
  generalize eN (xE (yX y)) t s = P at b1 ⊢
  generalize eN (xE (yX y)) t (1 - s) = R at b2 ⊢
  refine loopF.iim (fun z i m => 0 ≤ i ∧ (i = 0 ∨ i ≤ μ 106 109) ∧ mF [106106, 175999] w μ m ∧ (z - lodN (ltG y) (μ 177) (μ 178) (μ 179) P R i.toNat) % 4294967296 = 0) (fun _ i => (17 - i).toNat) ⟨by omega, Or.inl rfl, mF.refl, by
    show ((0 : Int) - 0) % 4294967296 = 0
    decide⟩ (by omega) ?_
  rintro rc z i m ⟨i0, i1, F0, hz⟩ ih z' i' m' e _ ri T F n en rn
  cases e
  have e10 : m 106 109 = μ 106 109 := F0.f (A_106 hw) rfl rfl
  rw [e10] at en
  subst en
  refine ⟨fun c3 => Or.inr ⟨⟨ht, hs⟩, ?_⟩, fun c3 z1 e1 r1 z2 e2 r2 => ?_⟩
  · rw [show i.toNat = (μ 106 109).toNat by omega] at hz
    exact hz
  have c90 : ∀ j, m 177 j = μ 177 j := fun j => F0.f (A_177 hw) rfl rfl
  have c91 : ∀ j, m 178 j = μ 178 j := fun j => F0.f (A_178 hw) rfl rfl
  obtain ⟨iN, rfl⟩ : ∃ n : Nat, i = (n : Int) := ⟨i.toNat, by omega⟩
  rw [Int.toNat_natCast] at e1 e2 hz
  rw [c90] at e1
  rw [c91] at e2
  have hfi := hf iN (by omega)
  obtain ⟨dn, rfl⟩ : ∃ d : Nat, z1 = (d : Int) := ⟨z1.toNat, by omega⟩
  have K : K2R m y := h.fr hw hT (mX.ofF F0) rfl
  have st : lodN (ltG y) (μ 177) (μ 178) (μ 179) P R (iN + 1) = lodN (ltG y) (μ 177) (μ 178) (μ 179) P R iN + prS (ltG y z2 (dn : Int)).2 P R (μ 179 iN) := by
    rw [← e1, ← e2]
    rfl
  refine X12_goes_s hw T K k u (by omega) fun m2 T2 F2 l6 lr _ _ _ => ?_
  have ln : 0 < (ltG y z2 (dn : Int)).2.length := goL.ne _ _ _
  have l6 : m2 106 106 = ((ltG y z2 (dn : Int)).2.length : Int) := l6
  have lr : rowL (m2 175) (ltG y z2 (dn : Int)).2.length = (ltG y z2 (dn : Int)).2 := lr
  have F3 : mF [106106, 175999] w μ m2 := F0.call F2 rfl
  have e92 : m2 179 iN = μ 179 iN := F3.f (A_179 hw) rfl rfl
  have e110 : ∀ j, m2 110 j = μ 110 j := fun j => F3.f (A_110 hw) rfl rfl
  have ps : prS (ltG y z2 (dn : Int)).2 P R (μ 179 iN) = prN (m2 175) P R (μ 179 iN) ((ltG y z2 (dn : Int)).2.length - 1) := (prN.cg _ fun j hj => row_at lr (by omega)).symm
  refine loopF.ii (fun v j => 0 ≤ j ∧ j + 1 ≤ ((ltG y z2 (dn : Int)).2.length : Int) ∧ (v - (lodN (ltG y) (μ 177) (μ 178) (μ 179) P R iN + prN (m2 175) P R (μ 179 iN) j.toNat)) % 4294967296 = 0) (fun _ j => (12 - j).toNat) ⟨by omega, by omega, by
    show (z - (lodN (ltG y) (μ 177) (μ 178) (μ 179) P R iN + 0)) % 4294967296 = 0
    omega⟩ (by omega) ?_
  rintro r2 v j ⟨j0, j1, hv⟩ ih2 v' j' e3 _ rj nn enn rnn
  cases e3
  rw [l6] at enn
  subst enn
  refine ⟨fun c4 => ih _ _ _ ⟨by omega, by omega, F3, ?_⟩ (by omega), fun c4 x1 ex1 rx1 xa exa rxa => ?_⟩
  · rw [show ((iN : Int) + 1).toNat = iN + 1 by omega, st, ps, show (ltG y z2 (dn : Int)).2.length - 1 = j.toNat by omega]
    exact hv
  rw [e110, b1] at exa
  have ps2 : prN (m2 175) P R (μ 179 iN) (j + 1).toNat = prN (m2 175) P R (μ 179 iN) j.toNat + (if m2 175 j.toNat = P ∧ m2 175 (j + 1).toNat = R then μ 179 iN else 0) := by
    rw [show (j + 1).toNat = j.toNat + 1 by omega]
    rfl
  refine ⟨fun c5 => ih2 _ _ ⟨by omega, by omega, ?_⟩ (by omega), fun c5 x2 ex2 rx2 xb exb rxb => ?_⟩
  · rw [ps2, if_neg fun g => c5 (ex1.symm.trans (g.1.trans exa))]
    omega
  rw [e110, b2] at exb
  refine ⟨fun c6 => ih2 _ _ ⟨by omega, by omega, ?_⟩ (by omega), fun c6 x3 ex3 rx3 x4 rx4 ex4 => ih2 _ _ ⟨by omega, by omega, ?_⟩ (by omega)⟩
  · rw [ps2, if_neg fun g => c6 (ex2.symm.trans (g.2.trans exb))]
    omega
  · rw [Int.toNat_natCast, e92] at ex3
    rw [ps2, if_pos ⟨ex1.trans (c5.trans exa.symm), ex2.trans (c6.trans exb.symm)⟩]
    omega
end Units
section Law4
variable {μ m : mM}
theorem DMx.lod {g : Int → Int → Int × List Int} {p q : Int} (h : DMx m) (c0 : m 87 10 = μ 87 10) (e1 : ∀ i, m 90 i = μ 90 i) (e2 : ∀ i, m 91 i = μ 91 i) (e3 : ∀ i, m 92 i = μ 92 i) : lodN g (m 177) (m 178) (m 179) p q (m 106 109).toNat = lodN g (μ 90) (μ 91) (μ 92) p q (μ 87 10).toNat := by
  rw [← h.1, c0]
  refine lodN.cg _ fun i hi => ?_
  obtain ⟨a, b, c⟩ := h.2 i (by omega)
  exact ⟨a.symm.trans (e1 i), b.symm.trans (e2 i), c.symm.trans (e3 i)⟩
theorem DMx.unt {g : Int → Int → Int × List Int} {o : Int} (h : DMx m) (c0 : m 87 10 = μ 87 10) (e1 : ∀ i, m 90 i = μ 90 i) (e2 : ∀ i, m 91 i = μ 91 i) (e3 : ∀ i, m 92 i = μ 92 i) : untN g (m 177) (m 178) (m 179) o (m 106 109).toNat = untN g (μ 90) (μ 91) (μ 92) o (μ 87 10).toNat := by
  rw [← h.1, c0]
  refine untN.cg _ fun i hi => ?_
  obtain ⟨a, b, c⟩ := h.2 i (by omega)
  exact ⟨a.symm.trans (e1 i), b.symm.trans (e2 i), c.symm.trans (e3 i)⟩
end Law4
end
section
/-! differ: addresses as numbers. -/
theorem lAdd_eq {x y : Int} (h : -9223372036854775808 ≤ x + y ∧ x + y ≤ 9223372036854775807) : lAdd x y = x + y := by
  unfold lAdd
  rw [← Int64.ofInt_add]
  exact jvI h
theorem lSub_eq {x y : Int} (h : -9223372036854775808 ≤ x - y ∧ x - y ≤ 9223372036854775807) : lSub x y = x - y := by
  unfold lSub
  rw [← Int64.ofInt_sub]
  exact jvI h
theorem lInt_mod {x : Int} (h : -9223372036854775808 ≤ x ∧ x ≤ 9223372036854775807) : lInt x % 4294967296 = x % 4294967296 := by
  unfold lInt
  rw [Int64.toInt_toInt32, jvI h]
  have e := Int.bmod_emod (x := x) (m := 2 ^ 32)
  have p : ((2 ^ 32 : Nat) : Int) = 4294967296 := by decide
  rw [p] at e
  exact e
theorem sh_fin : ∀ l : Fin 33, lShl 1 (32 - ((l.val : Nat) : Int)) = ((2 ^ (32 - l.val) : Nat) : Int) := by decide +kernel
theorem msk_fin : ∀ l : Fin 33, (Int32.ofInt (mskF ((l.val : Nat) : Int))).toBitVec = BitVec.allOnes 32 <<< (32 - l.val) := by decide +kernel
theorem dv_iff {A X P : Nat} (hP : 0 < P) (hA : A % P = 0) : A / P = X / P ↔ (A ≤ X ∧ X < A + P) := by
  have e1 := Nat.div_add_mod A P
  have e2 := Nat.div_add_mod X P
  have r2 := Nat.mod_lt X hP
  rw [hA] at e1
  constructor
  · intro h
    rw [h] at e1
    omega
  · rintro ⟨h1, h2⟩
    rcases Nat.lt_trichotomy (A / P) (X / P) with l | l | l
    · have g := Nat.mul_le_mul_left P (Nat.succ_le_of_lt l)
      rw [Nat.mul_succ] at g
      omega
    · exact l
    · have g := Nat.mul_le_mul_left P (Nat.succ_le_of_lt l)
      rw [Nat.mul_succ] at g
      omega
theorem bv_top {a x : BitVec 32} {k : Nat} : (a ^^^ x) &&& (BitVec.allOnes 32 <<< k) = 0#32 ↔ a >>> k = x >>> k := by
  constructor
  · intro h
    apply BitVec.eq_of_getLsbD_eq
    intro i hi
    rw [BitVec.getLsbD_ushiftRight, BitVec.getLsbD_ushiftRight]
    by_cases c : k + i < 32
    · have g := congrArg (fun v => BitVec.getLsbD v (k + i)) h
      simp only [BitVec.getLsbD_and, BitVec.getLsbD_xor, BitVec.getLsbD_shiftLeft, BitVec.getLsbD_allOnes, BitVec.getLsbD_zero] at g
      have c1 : decide (k + i < 32) = true := decide_eq_true c
      have c2 : decide (k + i < k) = false := decide_eq_false (by omega)
      have c3 : decide (k + i - k < 32) = true := decide_eq_true (by omega)
      rw [c1, c2, c3] at g
      revert g
      cases a.getLsbD (k + i) <;> cases x.getLsbD (k + i) <;> decide
    · rw [BitVec.getLsbD_of_ge _ _ (by omega), BitVec.getLsbD_of_ge _ _ (by omega)]
  · intro h
    apply BitVec.eq_of_getLsbD_eq
    intro j hj
    simp only [BitVec.getLsbD_and, BitVec.getLsbD_xor, BitVec.getLsbD_shiftLeft, BitVec.getLsbD_allOnes, BitVec.getLsbD_zero]
    by_cases c : j < k
    · have c2 : decide (j < k) = true := decide_eq_true c
      rw [c2]
      simp
    · have g := congrArg (fun v => BitVec.getLsbD v (j - k)) h
      simp only [BitVec.getLsbD_ushiftRight] at g
      rw [show k + (j - k) = j by omega] at g
      rw [g]
      simp
theorem bv_low {a : BitVec 32} {k : Nat} (hk : k ≤ 32) (h : a &&& ((BitVec.allOnes 32 <<< k) ^^^ BitVec.allOnes 32) = 0#32) : a.toNat % 2 ^ k = 0 := by
  apply Nat.eq_of_testBit_eq
  intro j
  rw [Nat.testBit_mod_two_pow, Nat.zero_testBit]
  by_cases c : j < k
  · have g := congrArg (fun v => BitVec.getLsbD v j) h
    simp only [BitVec.getLsbD_and, BitVec.getLsbD_xor, BitVec.getLsbD_shiftLeft, BitVec.getLsbD_allOnes, BitVec.getLsbD_zero] at g
    have c1 : decide (j < 32) = true := decide_eq_true (by omega)
    have c2 : decide (j < k) = true := decide_eq_true c
    rw [c1, c2] at g
    have e : a.toNat.testBit j = a.getLsbD j := rfl
    rw [e]
    revert g
    cases a.getLsbD j <;> simp
  · have c2 : decide (j < k) = false := decide_eq_false c
    rw [c2]
    rfl
theorem i32z {v : Int32} : v.toInt = 0 ↔ v.toBitVec = 0#32 := by
  constructor
  · intro e
    have : v = 0 := Int32.toInt_inj.mp e
    rw [this]; rfl
  · intro e
    have : v = 0 := Int32.toBitVec_inj.mp e
    rw [this]; rfl
theorem nat_of {a : Int} : ((Int32.ofInt a).toBitVec.toNat : Int) = a % 4294967296 := by
  have n : (Int32.ofInt a).toBitVec.toNat = (a % ((2 ^ 32 : Nat) : Int)).toNat := BitVec.toNat_ofInt a
  have p : ((2 ^ 32 : Nat) : Int) = 4294967296 := by decide
  rw [p] at n
  rw [n]
  omega
/-- a prefix as numbers: from, until ahead of -/
def loP (A : Nat → Int) (p : Nat) : Int := A p % 4294967296
def hiP (A L : Nat → Int) (p : Nat) : Int := A p % 4294967296 + ((2 ^ (32 - (L p).toNat) : Nat) : Int)
theorem hld_iff {A L : Nat → Int} {n p : Nat} {x : Int} (pf : pfO A L n) (hp : p < n) : hldI (A p) (L p) x ↔ (loP A p ≤ x % 4294967296 ∧ x % 4294967296 < hiP A L p) := by
  obtain ⟨⟨l0, l1⟩, _, hb⟩ := pf.2 p hp
  have mk := msk_fin ⟨(L p).toNat, by omega⟩
  have mk : (Int32.ofInt (mskF (((L p).toNat : Nat) : Int))).toBitVec = BitVec.allOnes 32 <<< (32 - (L p).toNat) := mk
  rw [show (((L p).toNat : Nat) : Int) = L p by omega] at mk
  have al : (Int32.ofInt (A p)).toBitVec.toNat % 2 ^ (32 - (L p).toNat) = 0 := by
    refine bv_low (by omega) ?_
    unfold bAnd bXor at hb
    rw [Int32.ofInt_toInt] at hb
    have hb := i32z.mp hb
    rw [Int32.toBitVec_and, Int32.toBitVec_xor, mk] at hb
    have em : (Int32.ofInt (-1)).toBitVec = BitVec.allOnes 32 := by decide
    rw [em] at hb
    exact hb
  have top : hldI (A p) (L p) x ↔ (Int32.ofInt (A p)).toBitVec >>> (32 - (L p).toNat) = (Int32.ofInt x).toBitVec >>> (32 - (L p).toNat) := by
    rw [← bv_top]
    unfold hldI bAnd bXor
    rw [Int32.ofInt_toInt, i32z, Int32.toBitVec_and, Int32.toBitVec_xor, mk]
  have dv : (Int32.ofInt (A p)).toBitVec >>> (32 - (L p).toNat) = (Int32.ofInt x).toBitVec >>> (32 - (L p).toNat) ↔ (Int32.ofInt (A p)).toBitVec.toNat / 2 ^ (32 - (L p).toNat) = (Int32.ofInt x).toBitVec.toNat / 2 ^ (32 - (L p).toNat) := by
    constructor
    · intro h
      have g := congrArg BitVec.toNat h
      rw [BitVec.toNat_ushiftRight, BitVec.toNat_ushiftRight, Nat.shiftRight_eq_div_pow, Nat.shiftRight_eq_div_pow] at g
      exact g
    · intro h
      apply BitVec.eq_of_toNat_eq
      rw [BitVec.toNat_ushiftRight, BitVec.toNat_ushiftRight, Nat.shiftRight_eq_div_pow, Nat.shiftRight_eq_div_pow]
      exact h
  rw [top, dv, dv_iff (Nat.pow_pos (by decide)) al]
  have na := nat_of (a := A p)
  have nx := nat_of (a := x)
  unfold loP hiP
  rw [← na, ← nx]
  constructor
  · rintro ⟨h1, h2⟩
    exact ⟨by omega, by omega⟩
  · rintro ⟨h1, h2⟩
    exact ⟨by omega, by omega⟩
theorem sndN.void {P A L : Nat → Int} {x : Int} : ∀ n : Nat, (∀ p, p < n → ¬ hldI (A p) (L p) x) → sndN P A L x n = (-1, -99999999)
  | 0, _ => rfl
  | n + 1, h => by
    rw [sndN.nay fun q => h n (by omega) q.1]
    exact sndN.void n fun p hp => h p (by omega)
theorem nxtE.void {E : En} {S : Sn} {A L : Nat → Int} {x a : Int} (h : ∀ p, p < eP E → ¬ hldI (A p) (L p) x) : nxtE E S A L x a = -99999999 := by
  have e : tieE E S A L x a.toNat = -99999999 := by
    unfold tieE
    rw [sndN.void _ h]
  unfold nxtE
  rw [e]
  rfl
/-! Sorted rows of borders. -/
abbrev srtI (l : List Int) : Prop := l.Pairwise (fun a b => a ≤ b)
/-- the borders of the first n prefixes -/
def bdN (A L : Nat → Int) : Nat → List Int
  | 0 => []
  | n + 1 => hiP A L n :: loP A n :: bdN A L n
theorem bdN.len {A L : Nat → Int} : ∀ n, (bdN A L n).length = 2 * n
  | 0 => rfl
  | n + 1 => by
    show (bdN A L n).length + 1 + 1 = _
    rw [bdN.len n]
    omega
theorem bdN.rng {A L : Nat → Int} {N : Nat} (pf : pfO A L N) : ∀ n, n ≤ N → ∀ e ∈ bdN A L n, 0 ≤ e ∧ e ≤ 4294967296
  | 0, _, e, h => by cases h
  | n + 1, hn, e, h => by
    have ih := bdN.rng pf n (by omega)
    obtain ⟨⟨l0, l1⟩, _, hb⟩ := pf.2 n (by omega)
    have lo : 0 ≤ loP A n ∧ loP A n < 4294967296 := by
      unfold loP
      omega
    have hi : loP A n ≤ hiP A L n ∧ hiP A L n ≤ 4294967296 := by
      have mk := msk_fin ⟨(L n).toNat, by omega⟩
      have mk : (Int32.ofInt (mskF (((L n).toNat : Nat) : Int))).toBitVec = BitVec.allOnes 32 <<< (32 - (L n).toNat) := mk
      rw [show (((L n).toNat : Nat) : Int) = L n by omega] at mk
      have al : (Int32.ofInt (A n)).toBitVec.toNat % 2 ^ (32 - (L n).toNat) = 0 := by
        refine bv_low (by omega) ?_
        unfold bAnd bXor at hb
        rw [Int32.ofInt_toInt] at hb
        have hb := i32z.mp hb
        rw [Int32.toBitVec_and, Int32.toBitVec_xor, mk] at hb
        have em : (Int32.ofInt (-1)).toBitVec = BitVec.allOnes 32 := by decide
        rw [em] at hb
        exact hb
      have na := nat_of (a := A n)
      have lt : (Int32.ofInt (A n)).toBitVec.toNat < 2 ^ 32 := BitVec.isLt _
      have e1 := Nat.div_add_mod (Int32.ofInt (A n)).toBitVec.toNat (2 ^ (32 - (L n).toNat))
      rw [al] at e1
      have pw : 2 ^ (32 - (L n).toNat) * 2 ^ (L n).toNat = 2 ^ 32 := by
        rw [← Nat.pow_add, show 32 - (L n).toNat + (L n).toNat = 32 by omega]
      have q : (Int32.ofInt (A n)).toBitVec.toNat / 2 ^ (32 - (L n).toNat) < 2 ^ (L n).toNat := by
        refine Nat.div_lt_of_lt_mul ?_
        rw [pw]
        exact lt
      have q2 := Nat.mul_le_mul_left (2 ^ (32 - (L n).toNat)) (Nat.succ_le_of_lt q)
      rw [Nat.mul_succ, pw] at q2
      unfold hiP
      unfold loP
      rw [← na]
      omega
    rcases List.mem_cons.mp h with q | q
    · omega
    · rcases List.mem_cons.mp q with q | q
      · omega
      · exact ih e q
theorem bdN.mem {A L : Nat → Int} : ∀ {n p : Nat}, p < n → loP A p ∈ bdN A L n ∧ hiP A L p ∈ bdN A L n
  | n + 1, p, h => by
    by_cases c : p = n
    · subst c
      exact ⟨List.mem_cons_of_mem _ List.mem_cons_self, List.mem_cons_self⟩
    · obtain ⟨a, b⟩ := bdN.mem (A := A) (L := L) (n := n) (p := p) (by omega)
      exact ⟨List.mem_cons_of_mem _ (List.mem_cons_of_mem _ a), List.mem_cons_of_mem _ (List.mem_cons_of_mem _ b)⟩
/-- the sum of the gaps at whose beginning g holds -/
noncomputable def gpL (g : Int → Prop) : List Int → Int
  | [] => 0
  | [_] => 0
  | x :: y :: l => cIf (g x) (y - x) 0 + gpL g (y :: l)
theorem gpL.snoc {g : Int → Prop} {x M : Int} : ∀ l : List Int, gpL g (l ++ [x, M]) = gpL g (l ++ [x]) + cIf (g x) (M - x) 0
  | [] => by
    show cIf (g x) (M - x) 0 + gpL g [M] = gpL g [x] + cIf (g x) (M - x) 0
    show cIf (g x) (M - x) 0 + 0 = 0 + cIf (g x) (M - x) 0
    omega
  | [a] => by
    show cIf (g a) (x - a) 0 + (cIf (g x) (M - x) 0 + 0) = (cIf (g a) (x - a) 0 + 0) + cIf (g x) (M - x) 0
    omega
  | a :: b :: l => by
    have ih := gpL.snoc (g := g) (x := x) (M := M) (b :: l)
    show cIf (g a) (b - a) 0 + gpL g ((b :: l) ++ [x, M]) = (cIf (g a) (b - a) 0 + gpL g ((b :: l) ++ [x])) + cIf (g x) (M - x) 0
    rw [ih]
    omega
theorem gpL.ends {g : Int → Prop} {M : Int} {L : List Int} (h0 : ∀ e, L.head? = some e → ¬ g 0 ∨ e = 0) (h1 : ∀ e, L.getLast? = some e → ¬ g e ∨ e = M) (h2 : L = [] → ¬ g 0) : gpL g (0 :: (L ++ [M])) = gpL g L := by
  cases L with
  | nil =>
    show cIf (g 0) (M - 0) 0 + 0 = 0
    rw [cIf.neg (h2 rfl)]
    rfl
  | cons a l =>
    have s0 : gpL g (0 :: ((a :: l) ++ [M])) = cIf (g 0) (a - 0) 0 + gpL g ((a :: l) ++ [M]) := rfl
    have z0 : cIf (g 0) (a - 0) 0 = 0 := by
      rcases h0 a rfl with q | q
      · exact cIf.neg q
      · rw [q]
        exact cIfB (fun z : Int => z = 0) (by decide) rfl
    obtain ⟨i, e, ei⟩ : ∃ i e, a :: l = i ++ [e] := ⟨(a :: l).dropLast, (a :: l).getLast (by simp), (List.dropLast_concat_getLast (by simp)).symm⟩
    have z1 : cIf (g e) (M - e) 0 = 0 := by
      have le : (a :: l).getLast? = some e := by
        rw [ei]
        simp
      rcases h1 e le with q | q
      · exact cIf.neg q
      · rw [q]
        exact cIfB (fun z : Int => z = 0) (by omega) rfl
    have s1 : gpL g ((a :: l) ++ [M]) = gpL g (a :: l) := by
      rw [ei, List.append_assoc]
      show gpL g (i ++ [e, M]) = _
      rw [gpL.snoc, z1]
      omega
    rw [s0, z0, s1]
    omega
/-- both rows are one, but for the ends -/
theorem srt_one {L L' B : List Int} (h : srtI L) (h' : srtI L') (p : L.Perm B) (p' : L'.Perm (4294967296 :: 0 :: B)) (rg : ∀ e ∈ B, 0 ≤ e ∧ e ≤ 4294967296) : L' = 0 :: (L ++ [4294967296]) := by
  have rL : ∀ e ∈ L, 0 ≤ e ∧ e ≤ 4294967296 := fun e he => rg e (p.mem_iff.mp he)
  refine List.Perm.eq_of_pairwise (le := fun a b => a ≤ b) (fun a b _ _ x y => Int.le_antisymm x y) h' ?_ (p'.trans ?_)
  · refine List.pairwise_cons.mpr ⟨fun e he => ?_, List.pairwise_append.mpr ⟨h, List.pairwise_singleton _ _, fun a ha b hb => ?_⟩⟩
    · rcases List.mem_append.mp he with q | q
      · exact (rL e q).1
      · have q := List.mem_singleton.mp q
        omega
    · have q := List.mem_singleton.mp hb
      have := rL a ha
      omega
  · refine (List.Perm.swap 0 4294967296 B).trans (List.Perm.cons 0 ?_)
    refine (List.Perm.cons 4294967296 p.symm).trans ?_
    exact (List.perm_append_singleton 4294967296 L).symm
end
section
/-! differ: both sides. -/
def frB (b0 : Nat) (μ m : mM) : Prop := ∀ b i, ¬ b = b0 → m b i = μ b i
theorem frB.refl {b0 : Nat} {μ : mM} : frB b0 μ μ := fun _ _ _ => rfl
theorem frB.trans {b0 : Nat} {μ m n : mM} (h : frB b0 μ m) (k : frB b0 m n) : frB b0 μ n := fun b i q => (k b i q).trans (h b i q)
theorem frB.up {b0 k : Nat} {z : Int} {μ m : mM} (h : frB b0 μ m) : frB b0 μ (mUp m b0 k z) := fun b i q => (mUp.no (by omega)).trans (h b i q)
/-- one number stands between two rows -/
theorem row_mid {f : Nat → Int} {i c : Nat} (h : i ≤ c) : rowL f (c + 1) = rowL f i ++ f i :: rowL (fun j => f (i + 1 + j)) (c - i) := by
  rw [show c + 1 = i + (c - i + 1) by omega, rowL.add, rowL.head]
  rw [show (fun j => f (i + (j + 1))) = (fun j => f (i + 1 + j)) from funext fun j => by rw [show i + (j + 1) = i + 1 + j by omega]]
  rfl
theorem row_hd {f : Nat → Int} {i c : Nat} (h : i < c) : rowL (fun j => f (i + j)) (c - i) = f i :: rowL (fun j => f (i + 1 + j)) (c - (i + 1)) := by
  rw [show c - i = (c - (i + 1)) + 1 by omega, rowL.head]
  rw [show (fun j => f (i + (j + 1))) = (fun j => f (i + 1 + j)) from funext fun j => by rw [show i + (j + 1) = i + 1 + j by omega]]
  rfl
theorem row_le {f : Nat → Int} {n i j : Nat} (h : srtI (rowL f n)) (hij : i < j) (hj : j < n) : f i ≤ f j := lst.pw (g := f) (n := n) h hij hj
theorem row_in {f : Nat → Int} {n i : Nat} (h : i < n) : f i ∈ rowL f n := rowL.mem.mpr ⟨i, h, rfl⟩
section SortC
variable {w : mW} {μ : mM}
theorem X2_insert_s {x : Int} {c : Nat} {Q : mM → Prop} (hx : 0 ≤ x ∧ x ≤ 4294967296) (hs : srtI (rowL (μ 93) c)) (hr : ∀ e ∈ rowL (μ 93) c, 0 ≤ e ∧ e ≤ 4294967296) (h19 : c ≤ 19) (k : ∀ m : mM, srtI (rowL (m 93) (c + 1)) → (rowL (m 93) (c + 1)).Perm (x :: rowL (μ 93) c) → frB 93 μ m → Q m) : WP_X2_insertBorder_W w μ x (c : Int) Q := by
  refine loopF.im (fun i m => 0 ≤ i ∧ i ≤ (c : Int) ∧ rowL (μ 93) c = rowL (m 93) i.toNat ++ rowL (fun j => m 93 (i.toNat + 1 + j)) (c - i.toNat) ∧ (∀ e ∈ rowL (fun j => m 93 (i.toNat + 1 + j)) (c - i.toNat), x < e) ∧ frB 93 μ m) (fun i => i.toNat) ⟨by omega, by omega, ?_, ?_, frB.refl⟩ (by omega) ?_
  · rw [Int.toNat_natCast, Nat.sub_self]
    exact (List.append_nil _).symm
  · rw [Int.toNat_natCast, Nat.sub_self]
    intro e he
    cases he
  rintro rc i m ⟨i0, i1, hl, h2, f⟩ ih i' m' e ri T F
  cases e
  obtain ⟨n, rfl⟩ : ∃ n : Nat, i = (n : Int) := ⟨i.toNat, by omega⟩
  rw [Int.toNat_natCast] at hl h2
  have hp := hs
  rw [hl] at hp
  obtain ⟨p1, p2, p3⟩ := List.pairwise_append.mp hp
  have fin : (∀ e ∈ rowL (m 93) n, e ≤ x) → Q (mUp m 93 n x) := fun g => by
    have er : rowL (mUp m 93 n x 93) (c + 1) = rowL (m 93) n ++ x :: rowL (fun j => m 93 (n + 1 + j)) (c - n) := by
      rw [row_mid (i := n) (by omega), mUp.yes ⟨rfl, rfl⟩, rowL.ext (f := m 93) (fun j hj => mUp.no (by omega)), rowL.ext (f := fun j => m 93 (n + 1 + j)) (fun j hj => mUp.no (by omega))]
    refine k _ ?_ ?_ f.up
    · rw [er]
      refine List.pairwise_append.mpr ⟨p1, List.pairwise_cons.mpr ⟨fun e he => Int.le_of_lt (h2 e he), p2⟩, fun a ha b hb => ?_⟩
      rcases List.mem_cons.mp hb with q | q
      · rw [q]; exact g a ha
      · exact p3 a ha b q
    · rw [er, hl]
      exact List.perm_middle
  refine ⟨fun c1 m1 u1 T1 => ?_, fun c1 z ez rz z2 e2 => ?_⟩
  · obtain rfl := u1.is
    rw [Int.toNat_natCast]
    have en : n = 0 := by omega
    subst en
    exact fin fun e he => by cases he
  · obtain ⟨n', rfl⟩ : ∃ q : Nat, n = q + 1 := ⟨n - 1, by omega⟩
    rw [show (((n' + 1 : Nat) : Int) - 1).toNat = n' by omega] at ez
    have hm : m 93 n' ∈ rowL (μ 93) c := by
      rw [hl]
      exact List.mem_append_left _ (row_in (by omega))
    have rm := hr _ hm
    rw [ez] at rm
    have cp := lCmp_pos e2 rz (by omega)
    refine ⟨fun c2 m1 u1 T1 => ?_, fun c2 m1 u1 T1 => ?_⟩
    · obtain rfl := u1.is
      rw [Int.toNat_natCast]
      refine fin fun e he => ?_
      rw [rowL.succ] at he p1
      obtain ⟨_, _, p4⟩ := List.pairwise_append.mp p1
      rcases List.mem_append.mp he with q | q
      · have q2 := p4 e q (m 93 n') (List.mem_singleton.mpr rfl)
        rw [ez] at q2
        have nc : ¬ x < z := fun g => by
          have := cp.mpr g
          omega
        omega
      · have q := List.mem_singleton.mp q
        rw [q, ez]
        have nc : ¬ x < z := fun g => by
          have := cp.mpr g
          omega
        omega
    · obtain rfl := u1.is
      rw [Int.toNat_natCast]
      have e1 : rowL (mUp m 93 (n' + 1) z 93) n' = rowL (m 93) n' := rowL.ext fun j hj => mUp.no (by omega)
      have e3 : rowL (fun j => mUp m 93 (n' + 1) z 93 (n' + 1 + j)) (c - n') = z :: rowL (fun j => m 93 (n' + 1 + 1 + j)) (c - (n' + 1)) := by
        have v1 : mUp m 93 (n' + 1) z 93 (n' + 1) = z := mUp.yes ⟨rfl, rfl⟩
        have g := row_hd (f := mUp m 93 (n' + 1) z 93) (i := n' + 1) (c := c + 1) (by omega)
        rw [show c + 1 - (n' + 1) = c - n' by omega, show c + 1 - (n' + 1 + 1) = c - (n' + 1) by omega, v1] at g
        rw [g, rowL.ext (f := fun j => m 93 (n' + 1 + 1 + j)) (fun j hj => mUp.no (by omega))]
      refine ih _ _ ⟨by omega, by omega, ?_, ?_, f.up⟩ (by omega)
      · rw [show (((n' + 1 : Nat) : Int) + -1).toNat = n' by omega, e1, e3, hl, rowL.succ, ez, List.append_assoc]
        rfl
      · rw [show (((n' + 1 : Nat) : Int) + -1).toNat = n' by omega, e3]
        intro e he
        rcases List.mem_cons.mp he with q | q
        · rw [q]; exact cp.mp c2
        · exact h2 e q
end SortC
/-- two domains send to unlike ones -/
def dG (y : S2) (a b e : Int) : Prop := ¬ nxtE (xE (yX y)) (xS (yX y)) (jA (xJ (yX y))) (jL (xJ (yX y))) (lInt e) a = nxtE (xE (yX y)) (xS (yX y)) (jA (xJ (yX y))) (jL (xJ (yX y))) (lInt e) b
def inDD (y : S2) (a b : Int) : Prop := (0 ≤ a ∧ a < (eD (xE (yX y)) : Int)) ∧ (0 ≤ b ∧ b < (eD (xE (yX y)) : Int))
def dfC (y : S2) (a b z : Int) : Prop := (¬ inDD y a b ∧ z = -1) ∨ (inDD y a b ∧ ∃ L : List Int, srtI L ∧ L.Perm (bdN (jA (xJ (yX y))) (jL (xJ (yX y))) (eP (xE (yX y)))) ∧ z = gpL (dG y a b) L)
def dfR (y : S2) (a b z : Int) : Prop := (¬ inDD y a b ∧ z = -1) ∨ (inDD y a b ∧ ∃ L : List Int, srtI L ∧ L.Perm (4294967296 :: 0 :: bdN (jA (xJ (yX y))) (jL (xJ (yX y))) (eP (xE (yX y)))) ∧ z = gpL (dG y a b) L)
theorem dG.void {y : S2} {a b e : Int} (h : ∀ p, p < eP (xE (yX y)) → ¬ hldI (jA (xJ (yX y)) p) (jL (xJ (yX y)) p) (lInt e)) : ¬ dG y a b e := fun g => g ((nxtE.void h).trans (nxtE.void h).symm)
theorem df_eq {y : S2} {a b z z' : Int} (k : K2X y) (h : dfC y a b z) (h' : dfR y a b z') : z = z' := by
  rcases h with ⟨c, e⟩ | ⟨c, L, s, p, e⟩ <;> rcases h' with ⟨c', e'⟩ | ⟨c', L', s', p', e'⟩
  · rw [e, e']
  · exact absurd c' c
  · exact absurd c c'
  · have pf := k.2.2.1
    have rg := bdN.rng pf (eP (xE (yX y))) (Nat.le_refl _)
    have one := srt_one s s' p p' rg
    have rL : ∀ q ∈ L, 0 ≤ q ∧ q ≤ 4294967296 := fun q hq => rg q (p.mem_iff.mp hq)
    have m0 : ∀ q, q < eP (xE (yX y)) → loP (jA (xJ (yX y))) q ∈ L ∧ hiP (jA (xJ (yX y))) (jL (xJ (yX y))) q ∈ L := fun q hq => ⟨p.mem_iff.mpr (bdN.mem hq).1, p.mem_iff.mpr (bdN.mem hq).2⟩
    have z0 : lInt 0 % 4294967296 = 0 := lInt_mod (by decide)
    rw [e, e', one]
    refine (gpL.ends (fun v hv => ?_) (fun v hv => ?_) fun hv => ?_).symm
    · by_cases c0 : v = 0
      · exact Or.inr c0
      · refine Or.inl (dG.void fun q hq g => c0 ?_)
        rw [hld_iff pf hq, z0] at g
        have lo : 0 ≤ loP (jA (xJ (yX y))) q := (rL _ (m0 q hq).1).1
        cases L with
        | nil => cases hv
        | cons x l =>
          have ex : x = v := Option.some.inj hv
          have vm := rL x List.mem_cons_self
          rcases List.mem_cons.mp (m0 q hq).1 with q1 | q1
          · omega
          · have := (List.pairwise_cons.mp s).1 _ q1
            omega
    · by_cases c0 : v = 4294967296
      · exact Or.inr c0
      · refine Or.inl (dG.void fun q hq g => ?_)
        have vm : v ∈ L := List.mem_of_getLast? hv
        have vr := rL v vm
        have vz : lInt v % 4294967296 = v := by
          rw [lInt_mod (by omega)]
          omega
        rw [hld_iff pf hq, vz] at g
        have hi := (m0 q hq).2
        obtain ⟨i, ei⟩ : ∃ i, L = i ++ [v] := by
          obtain ⟨i, ei⟩ := List.getLast?_eq_some_iff.mp hv
          exact ⟨i, ei⟩
        rw [ei] at hi s
        rcases List.mem_append.mp hi with q1 | q1
        · have := (List.pairwise_append.mp s).2.2 _ q1 v (List.mem_singleton.mpr rfl)
          omega
        · have q1 := List.mem_singleton.mp q1
          omega
    · refine dG.void fun q hq g => ?_
      have := (m0 q hq).1
      rw [hv] at this
      cases this
section DifC
variable {w : mW} {μ : mM} {y : S2}
theorem sh_eq {l z : Int} (h : 0 ≤ l ∧ l ≤ 32) (q : lShl 1 (32 - l) = z) : z = ((2 ^ (32 - l.toNat) : Nat) : Int) := by
  have s := sh_fin ⟨l.toNat, by omega⟩
  have s : lShl 1 (32 - ((l.toNat : Nat) : Int)) = ((2 ^ (32 - l.toNat) : Nat) : Int) := s
  rw [show ((l.toNat : Nat) : Int) = l by omega, q] at s
  exact s
theorem C_differA {a b : Int} (hw : mWF w) (hT : mT w μ) (h : K2C w μ y) (k : K2X y) (u : upI (xE (yX y)) (xS (yX y))) : WP_X11_differ_W w μ a b (fun z _ => dfC y a b z) := by
  have ev := h.1.env hw hT k.1
  have tb := h.1.2.1.2.1
  have pf := k.2.2.1
  have p10 := pf.1
  intro n en rn
  refine X11_isDomain_s ev fun z hz rz => ⟨fun q => Or.inl ⟨fun g => ?_, rfl⟩, fun q => X11_isDomain_s ev fun z2 hz2 rz2 => ⟨fun q2 => Or.inl ⟨fun g => ?_, rfl⟩, fun q2 => ?_⟩⟩
  · have := hz.mpr g.1
    omega
  · have := hz2.mpr g.2
    omega
  have ga := hz.mp (by omega)
  have gb := hz2.mp (by omega)
  have gg : inDD y a b := ⟨ga, gb⟩
  obtain ⟨an, rfl⟩ : ∃ n : Nat, a = (n : Int) := ⟨a.toNat, by omega⟩
  obtain ⟨bn, rfl⟩ : ∃ n : Nat, b = (n : Int) := ⟨b.toNat, by omega⟩
  have rg := fun p hp => bdN.rng pf (n := p) hp
  refine loopF.iim (fun c p m => 0 ≤ p ∧ p ≤ (eP (xE (yX y)) : Int) ∧ c = 2 * p ∧ srtI (rowL (m 93) c.toNat) ∧ (rowL (m 93) c.toNat).Perm (bdN (jA (xJ (yX y))) (jL (xJ (yX y))) p.toNat) ∧ frB 93 μ m) (fun _ p => (11 - p).toNat) ⟨by omega, by omega, rfl, List.Pairwise.nil, List.Perm.refl _, frB.refl⟩ (by omega) ?_
  rintro rc c p m ⟨p0, p1, ec, hs, hp, f⟩ ih c' p' m' e rc' rp T F n2 en2 rn2
  cases e
  rw [f 6 14 (by omega), ev.2.1] at en2
  subst en2
  refine ⟨fun c1 => ?_, fun c1 z1 e1 r1 z3 e3 z4 e4 => ?_⟩
  rotate_left 1
  · obtain ⟨pn, rfl⟩ : ∃ n : Nat, p = (n : Int) := ⟨p.toNat, by omega⟩
    rw [Int.toNat_natCast] at hp e1
    rw [f 7 pn (by omega), (tb pn (by omega)).1] at e1
    have lo : z4 = loP (jA (xJ (yX y))) pn := by
      have g := lAnd32 e4
      rw [g, ← e3, ← e1]
      rfl
    have bl := rg (pn + 1) (by omega)
    have rlo := bl (loP (jA (xJ (yX y))) pn) (List.mem_cons_of_mem _ List.mem_cons_self)
    have rhi := bl (hiP (jA (xJ (yX y))) (jL (xJ (yX y))) pn) List.mem_cons_self
    have ec2 : c.toNat = 2 * pn := by omega
    rw [ec2] at hs hp
    rw [show c = ((2 * pn : Nat) : Int) by omega]
    have rr : ∀ e ∈ rowL (m 93) (2 * pn), 0 ≤ e ∧ e ≤ 4294967296 := fun e he => rg pn (by omega) e (hp.mem_iff.mp he)
    rw [lo]
    refine X2_insert_s rlo hs rr (by omega) fun m1 s1 q1 f1 T1 F1 z5 e5 r5 z6 e6 z7 e7 => ?_
    rw [f1 8 _ (by omega), f 8 _ (by omega), Int.toNat_natCast, (tb pn (by omega)).2] at e5
    have g6 := sh_eq (z := z6) (pf.2 pn (by omega)).1 (by rw [e5]; exact e6)
    have hi : z7 = hiP (jA (xJ (yX y))) (jL (xJ (yX y))) pn := by
      have ee : loP (jA (xJ (yX y))) pn + z6 = hiP (jA (xJ (yX y))) (jL (xJ (yX y))) pn := by
        rw [g6]
        rfl
      rw [← e7, lAdd_eq (by omega)]
      exact ee
    rw [hi, show ((2 * pn : Nat) : Int) + 1 = ((2 * pn + 1 : Nat) : Int) by omega]
    refine X2_insert_s rhi s1 (fun e he => ?_) (by omega) fun m2 s2 q2 f2 T2 F2 => ?_
    · rcases List.mem_cons.mp (q1.mem_iff.mp he) with q | q
      · rw [q]; exact rlo
      · exact rr e q
    · refine ih _ _ _ ⟨by omega, by omega, by omega, ?_, ?_, (f.trans f1).trans f2⟩ (by omega)
      · rw [show (((2 * pn : Nat) : Int) + 2).toNat = 2 * pn + 1 + 1 by omega]
        exact s2
      · rw [show (((2 * pn : Nat) : Int) + 2).toNat = 2 * pn + 1 + 1 by omega, show ((pn : Int) + 1).toNat = pn + 1 by omega]
        exact q2.trans (List.Perm.cons _ (q1.trans (List.Perm.cons _ hp)))
  intro T1 F1 rc2
  have K : K2C w m y := h.fr hw hT (mX.ofF F1) rfl
  rw [show p.toNat = eP (xE (yX y)) by omega] at hp
  obtain ⟨cn, rfl⟩ : ∃ n : Nat, c = (n : Int) := ⟨c.toNat, by omega⟩
  rw [Int.toNat_natCast] at hs hp
  have rr : ∀ e ∈ rowL (m 93) cn, 0 ≤ e ∧ e ≤ 4294967296 := fun e he => rg _ (Nat.le_refl _) e (hp.mem_iff.mp he)
  refine loopF.ii (fun s i => 0 ≤ i ∧ (i = 0 ∨ i < (cn : Int)) ∧ 0 ≤ s ∧ (i = 0 → s = 0) ∧ (i < (cn : Int) → s ≤ m 93 i.toNat) ∧ s + gpL (dG y (an : Int) (bn : Int)) (rowL (fun j => m 93 (i.toNat + j)) (cn - i.toNat)) = gpL (dG y (an : Int) (bn : Int)) (rowL (m 93) cn)) (fun _ i => (20 - i).toNat) ⟨by omega, Or.inl rfl, by omega, fun _ => rfl, fun g => (rr _ (row_in (by omega))).1, ?_⟩ (by omega) ?_
  · show 0 + gpL (dG y (an : Int) (bn : Int)) (rowL (fun j => m 93 (0 + j)) (cn - 0)) = _
    rw [show (fun j => m 93 (0 + j)) = m 93 from funext fun j => by rw [Nat.zero_add], Nat.sub_zero]
    omega
  rintro r2 s i ⟨i0, i1, s0, si, sl, hs2⟩ ih2 s' i' e2 _ ri2
  cases e2
  obtain ⟨iN, rfl⟩ : ∃ n : Nat, i = (n : Int) := ⟨i.toNat, by omega⟩
  rw [Int.toNat_natCast] at hs2 sl
  refine ⟨fun c2 _ _ _ => Or.inr ⟨gg, rowL (m 93) cn, hs, hp, ?_⟩, fun c2 z1 e1 r1 z2 e2 => ?_⟩
  · have z0 : gpL (dG y (an : Int) (bn : Int)) (rowL (fun j => m 93 (iN + j)) (cn - iN)) = 0 := by
      by_cases c3 : iN < cn
      · rw [row_hd c3, show cn - (iN + 1) = 0 by omega]
        rfl
      · rw [show cn - iN = 0 by omega]
        rfl
    omega
  rw [Int.toNat_natCast] at e1
  have v0 := rr _ (row_in (f := m 93) (n := cn) (i := iN) (by omega))
  have v1 := rr _ (row_in (f := m 93) (n := cn) (i := iN + 1) (by omega))
  have vl := row_le hs (show iN < iN + 1 by omega) (show iN + 1 < cn by omega)
  have sl := sl (by omega)
  rw [row_hd (show iN < cn by omega), row_hd (show iN + 1 < cn by omega)] at hs2
  have hs2 : s + (cIf (dG y (an : Int) (bn : Int) (m 93 iN)) (m 93 (iN + 1) - m 93 iN) 0 + gpL (dG y (an : Int) (bn : Int)) (m 93 (iN + 1) :: rowL (fun j => m 93 (iN + 1 + 1 + j)) (cn - (iN + 1 + 1)))) = gpL (dG y (an : Int) (bn : Int)) (rowL (m 93) cn) := hs2
  rw [← row_hd (show iN + 1 < cn by omega)] at hs2
  refine X2_partnerFor_s hw T1 K k u (by omega) fun _ => X2_partnerFor_s hw T1 K k u (by omega) fun _ => ⟨fun c3 => ih2 _ _ ⟨by omega, by omega, by omega, fun g => absurd g (by omega), fun _ => ?_, ?_⟩ (by omega), fun c3 z5 e5 r5 z6 e6 z7 e7 => ih2 _ _ ⟨by omega, by omega, ?_, fun g => absurd g (by omega), fun _ => ?_, ?_⟩ (by omega)⟩
  · rw [show ((iN : Int) + 1).toNat = iN + 1 by omega]
    omega
  · rw [cIf.neg (fun g : dG y (an : Int) (bn : Int) (m 93 iN) => g (by rw [e1, e2]; exact c3))] at hs2
    rw [show ((iN : Int) + 1).toNat = iN + 1 by omega]
    omega
  all_goals rw [show ((iN : Int) + 1).toNat = iN + 1 by omega] at e5
  all_goals rw [← e5, ← e1, lSub_eq (by omega)] at e6
  all_goals rw [← e6, lAdd_eq (by omega)] at e7
  · omega
  · rw [show ((iN : Int) + 1).toNat = iN + 1 by omega]
    omega
  · rw [cIf.pos (show dG y (an : Int) (bn : Int) (m 93 iN) from fun g => c3 (by rw [e1, e2] at g; exact g))] at hs2
    rw [show ((iN : Int) + 1).toNat = iN + 1 by omega]
    omega
end DifC
end
section
/-! differ: the reference. -/
section DifR
variable {w : mW} {μ : mM} {y : S2}
theorem row_swap {f g : Nat → Int} {i n : Nat} (h : i + 1 < n) (h0 : g i = f (i + 1)) (h1 : g (i + 1) = f i) (h2 : ∀ j, ¬ j = i → ¬ j = i + 1 → g j = f j) : (rowL g n).Perm (rowL f n) := by
  have e : ∀ q : Nat → Int, rowL q n = rowL q i ++ q i :: q (i + 1) :: rowL (fun j => q (i + 1 + 1 + j)) (n - (i + 1 + 1)) := fun q => by
    have a := row_mid (f := q) (i := i) (c := n - 1) (by omega)
    rw [show n - 1 + 1 = n by omega] at a
    rw [a]
    have b := row_hd (f := q) (i := i + 1) (c := n) (by omega)
    rw [show n - 1 - i = n - (i + 1) by omega, b]
  rw [e g, e f, h0, h1, rowL.ext (f := f) (fun j hj => h2 j (by omega) (by omega)), rowL.ext (f := fun j => f (i + 1 + 1 + j)) (fun j hj => h2 _ (by omega) (by omega))]
  exact List.Perm.append_left _ (List.Perm.swap _ _ _)
theorem lCmp_neg {x y z : Int} (q : lCmp x y = z) (hx : -9223372036854775808 ≤ x ∧ x ≤ 9223372036854775807) (hy : -9223372036854775808 ≤ y ∧ y ≤ 9223372036854775807) : z < 0 ↔ x < y := by
  have a := lCmp_pos q hx hy
  have b := lCmp_iff q hx hy
  constructor
  · intro c
    have n1 : ¬ y < x := fun g => by
      have := a.mpr g
      omega
    have n2 : ¬ x = y := fun g => by
      have := b.mpr g
      omega
    omega
  · intro c
    have n1 : ¬ 0 < z := fun g => by
      have := a.mp g
      omega
    have n2 : ¬ z = 0 := fun g => by
      have := b.mp g
      omega
    omega
theorem R_differA {a b : Int} (hw : mWF w) (hT : mT w μ) (h : K2R μ y) (k : K2X y) (u : upI (xE (yX y)) (xS (yX y))) : WP_X12_differ_W w μ a b (fun z _ => dfR y a b z) := by
  have ev := h.1.env (w := w) hw k.1
  have tb := h.1.2.1.2.1
  have pf := k.2.2.1
  have p10 := pf.1
  have ti := k.1.2.1.1
  intro n en rn
  refine X12_isDomain_s ev fun z hz rz => ⟨fun q => Or.inl ⟨fun g => ?_, rfl⟩, fun q => X12_isDomain_s ev fun z2 hz2 rz2 => ⟨fun q2 => ?_, fun q2 => Or.inl ⟨fun g => ?_, rfl⟩⟩⟩
  · have := hz.mpr g.1
    omega
  rotate_left 1
  · have := hz2.mpr g.2
    omega
  have ga := hz.mp (by omega)
  have gb := hz2.mp (by omega)
  have gg : inDD y a b := ⟨ga, gb⟩
  obtain ⟨an, rfl⟩ : ∃ n : Nat, a = (n : Int) := ⟨a.toNat, by omega⟩
  obtain ⟨bn, rfl⟩ : ∃ n : Nat, b = (n : Int) := ⟨b.toNat, by omega⟩
  have rg := fun p hp => bdN.rng pf (n := p) hp
  obtain ⟨B, eB⟩ : ∃ B : Nat → List Int, (fun p => 4294967296 :: 0 :: bdN (jA (xJ (yX y))) (jL (xJ (yX y))) p) = B := ⟨_, rfl⟩
  have rB : ∀ p, p ≤ eP (xE (yX y)) → ∀ e ∈ B p, 0 ≤ e ∧ e ≤ 4294967296 := fun p hp e he => by
    rw [← eB] at he
    rcases List.mem_cons.mp he with q | q
    · omega
    · rcases List.mem_cons.mp q with q | q
      · omega
      · exact rg p hp e q
  intro m1 u1 T1 m2 u2 T2
  obtain rfl := u1.is
  obtain rfl := u2.is
  have f2 : frB 183 μ (mUp (mUp μ 183 (0 : Int).toNat 0) 183 (1 : Int).toNat 4294967296) := (frB.refl.up).up
  have r2 : rowL (mUp (mUp μ 183 (0 : Int).toNat 0) 183 (1 : Int).toNat 4294967296 183) 2 = [0, 4294967296] := by
    have e0 : mUp (mUp μ 183 (0 : Int).toNat 0) 183 (1 : Int).toNat 4294967296 183 0 = 0 := by
      rw [mUp.no (by decide)]
      exact mUp.yes ⟨rfl, rfl⟩
    have e1 : mUp (mUp μ 183 (0 : Int).toNat 0) 183 (1 : Int).toNat 4294967296 183 1 = 4294967296 := mUp.yes ⟨rfl, rfl⟩
    show [mUp (mUp μ 183 (0 : Int).toNat 0) 183 (1 : Int).toNat 4294967296 183 0, mUp (mUp μ 183 (0 : Int).toNat 0) 183 (1 : Int).toNat 4294967296 183 1] = _
    rw [e0, e1]
  refine loopF.iim (fun c p m => 0 ≤ p ∧ p ≤ (eP (xE (yX y)) : Int) ∧ c = 2 * p + 2 ∧ (rowL (m 183) c.toNat).Perm (B p.toNat) ∧ frB 183 μ m) (fun _ p => (11 - p).toNat) ⟨by omega, by omega, rfl, ?_, f2⟩ (by omega) ?_
  · show (rowL (mUp (mUp μ 183 (0 : Int).toNat 0) 183 (1 : Int).toNat 4294967296 183) 2).Perm (B 0)
    rw [r2, ← eB]
    exact List.Perm.swap _ _ _
  rintro rc c p m ⟨p0, p1, ec, hp, f⟩ ih c' p' m' e rc' rp T F n2 en2 rn2
  cases e
  rw [f 106 2 (by omega), ev.2.1] at en2
  subst en2
  refine ⟨fun c1 => ?_, fun c1 z1 e1 r1 z3 e3 z4 e4 m3 u3 T3 z5 e5 r5 z6 e6 z7 e7 m4 u4 T4 => ?_⟩
  rotate_left 1
  · obtain rfl := u3.is
    obtain rfl := u4.is
    obtain ⟨pn, rfl⟩ : ∃ n : Nat, p = (n : Int) := ⟨p.toNat, by omega⟩
    rw [Int.toNat_natCast] at hp e1 e5
    rw [f 108 pn (by omega), (tb pn (by omega)).1] at e1
    rw [mUp.no (by omega), f 109 pn (by omega), (tb pn (by omega)).2] at e5
    have lo : z4 = loP (jA (xJ (yX y))) pn := by
      have g := lAnd32 e4
      rw [g, ← e3, ← e1]
      rfl
    have bl := rg (pn + 1) (by omega)
    have rlo := bl (loP (jA (xJ (yX y))) pn) (List.mem_cons_of_mem _ List.mem_cons_self)
    have rhi := bl (hiP (jA (xJ (yX y))) (jL (xJ (yX y))) pn) List.mem_cons_self
    have g6 := sh_eq (z := z6) (pf.2 pn (by omega)).1 (by rw [e5]; exact e6)
    have hi : z7 = hiP (jA (xJ (yX y))) (jL (xJ (yX y))) pn := by
      have ee : loP (jA (xJ (yX y))) pn + z6 = hiP (jA (xJ (yX y))) (jL (xJ (yX y))) pn := by
        rw [g6]
        rfl
      rw [← e7, lo, lAdd_eq (by omega)]
      exact ee
    rw [lo, hi]
    refine ih _ _ _ ⟨by omega, by omega, by omega, ?_, (f.up).up⟩ (by omega)
    rw [show (c + 1 + 1).toNat = c.toNat + 1 + 1 by omega, show ((pn : Int) + 1).toNat = pn + 1 by omega, rowL.succ, rowL.succ, rowL.ext (f := m 183) (fun j hj => by rw [mUp.no (by omega), mUp.no (by omega)]), mUp.no (by omega), mUp.yes ⟨rfl, rfl⟩, mUp.yes ⟨rfl, by omega⟩]
    refine (List.perm_append_singleton _ _).trans (((List.perm_append_singleton _ _).trans (List.Perm.cons _ hp)).cons _ |>.trans ?_)
    rw [← eB]
    exact List.perm_append_comm_assoc [hiP (jA (xJ (yX y))) (jL (xJ (yX y))) pn, loP (jA (xJ (yX y))) pn] [4294967296, 0] (bdN (jA (xJ (yX y))) (jL (xJ (yX y))) pn)
  rw [show p.toNat = eP (xE (yX y)) by omega] at hp
  obtain ⟨cn, rfl⟩ : ∃ n : Nat, c = (n : Int) := ⟨c.toNat, by omega⟩
  rw [Int.toNat_natCast] at hp
  -- sorting
  refine loopF.im (fun q m => 1 ≤ q ∧ q ≤ (cn : Int) ∧ (rowL (m 183) cn).Perm (B (eP (xE (yX y)))) ∧ srtI (rowL (m 183) q.toNat) ∧ frB 183 μ m) (fun q => (22 - q).toNat) ⟨by omega, by omega, hp, List.pairwise_singleton _ _, f⟩ (by omega) ?_
  rintro r3 q m3 ⟨q1, q2, hp3, hs3, f3⟩ ih3 q' m3' e3 rq3 T3 F3
  cases e3
  have rr : ∀ e ∈ rowL (m3 183) cn, 0 ≤ e ∧ e ≤ 4294967296 := fun e he => rB _ (Nat.le_refl _) e (hp3.mem_iff.mp he)
  refine ⟨fun c2 => ?_, fun c2 => ?_⟩
  rotate_left 1
  · obtain ⟨qn, rfl⟩ : ∃ n : Nat, q = (n : Int) := ⟨q.toNat, by omega⟩
    rw [Int.toNat_natCast] at hs3
    refine loopF.im (fun i m => 0 ≤ i ∧ i ≤ (qn : Int) ∧ (rowL (m 183) cn).Perm (B (eP (xE (yX y)))) ∧ srtI (rowL (m 183) i.toNat ++ rowL (fun j => m 183 (i.toNat + 1 + j)) (qn - i.toNat)) ∧ (∀ e ∈ rowL (fun j => m 183 (i.toNat + 1 + j)) (qn - i.toNat), m 183 i.toNat ≤ e) ∧ frB 183 μ m) (fun i => i.toNat) ⟨by omega, by omega, hp3, ?_, ?_, f3⟩ (by omega) ?_
    · rw [Int.toNat_natCast, Nat.sub_self]
      show srtI (_ ++ [])
      rw [List.append_nil]
      exact hs3
    · rw [Int.toNat_natCast, Nat.sub_self]
      intro e he
      cases he
    rintro r4 i m4 ⟨i0, i1, hp4, hs4, h4, f4⟩ ih4 i' m4' e4 ri4 T4 F4
    cases e4
    obtain ⟨iN, rfl⟩ : ∃ n : Nat, i = (n : Int) := ⟨i.toNat, by omega⟩
    rw [Int.toNat_natCast] at hs4 h4
    obtain ⟨s1, s2, s3⟩ := List.pairwise_append.mp hs4
    have fin : (∀ e ∈ rowL (m4 183) iN, e ≤ m4 183 iN) → r3 ((qn : Int) + 1, m4) := fun g => by
      refine ih3 _ _ ⟨by omega, by omega, hp4, ?_, f4⟩ (by omega)
      rw [show ((qn : Int) + 1).toNat = qn + 1 by omega, row_mid (i := iN) (by omega)]
      refine List.pairwise_append.mpr ⟨s1, List.pairwise_cons.mpr ⟨h4, s2⟩, fun x hx z hz => ?_⟩
      rcases List.mem_cons.mp hz with v | v
      · rw [v]; exact g x hx
      · exact s3 x hx z v
    refine ⟨fun c3 => fin fun e he => ?_, fun c3 z1 e1 r1 z2 e2 r2 z3 e3 => ?_⟩
    · have en : iN = 0 := by omega
      subst en
      cases he
    obtain ⟨j', rfl⟩ : ∃ q : Nat, iN = q + 1 := ⟨iN - 1, by omega⟩
    rw [Int.toNat_natCast] at e1
    rw [show (((j' + 1 : Nat) : Int) - 1).toNat = j' by omega] at e2
    have cn3 := lCmp_neg e3 r1 r2
    refine ⟨fun c4 => fin fun e he => ?_, fun c4 m5 u5 T5 m6 u6 T6 => ?_⟩
    · have le : m4 183 j' ≤ m4 183 (j' + 1) := by
        rw [e1, e2]
        have nc : ¬ z1 < z2 := fun g => by
          have := cn3.mpr g
          omega
        omega
      rw [rowL.succ] at he s1
      rcases List.mem_append.mp he with v | v
      · have := (List.pairwise_append.mp s1).2.2 e v (m4 183 j') (List.mem_singleton.mpr rfl)
        omega
      · rw [List.mem_singleton.mp v]
        exact le
    · obtain rfl := u5.is
      obtain rfl := u6.is
      rw [Int.toNat_natCast, show (((j' + 1 : Nat) : Int) - 1).toNat = j' by omega]
      have lt := cn3.mp c4
      have v0 : mUp (mUp m4 183 (j' + 1) z2) 183 j' z1 183 j' = z1 := mUp.yes ⟨rfl, rfl⟩
      have v1 : mUp (mUp m4 183 (j' + 1) z2) 183 j' z1 183 (j' + 1) = z2 := by
        rw [mUp.no (by omega)]
        exact mUp.yes ⟨rfl, rfl⟩
      have v2 : ∀ j, ¬ j = j' → ¬ j = j' + 1 → mUp (mUp m4 183 (j' + 1) z2) 183 j' z1 183 j = m4 183 j := fun j a1 a2 => by rw [mUp.no (by omega), mUp.no (by omega)]
      have e5 : rowL (mUp (mUp m4 183 (j' + 1) z2) 183 j' z1 183) j' = rowL (m4 183) j' := rowL.ext fun j hj => v2 j (by omega) (by omega)
      have e6 : rowL (fun j => mUp (mUp m4 183 (j' + 1) z2) 183 j' z1 183 (j' + 1 + j)) (qn - j') = z2 :: rowL (fun j => m4 183 (j' + 1 + 1 + j)) (qn - (j' + 1)) := by
        have g := row_hd (f := mUp (mUp m4 183 (j' + 1) z2) 183 j' z1 183) (i := j' + 1) (c := qn + 1) (by omega)
        rw [show qn + 1 - (j' + 1) = qn - j' by omega, show qn + 1 - (j' + 1 + 1) = qn - (j' + 1) by omega, v1] at g
        rw [g, rowL.ext (f := fun j => m4 183 (j' + 1 + 1 + j)) (fun j hj => v2 _ (by omega) (by omega))]
      refine ih4 _ _ ⟨by omega, by omega, ?_, ?_, ?_, (f4.up).up⟩ (by omega)
      · exact (row_swap (by omega) (v0.trans e1.symm) (v1.trans e2.symm) v2).trans hp4
      · rw [show (((j' + 1 : Nat) : Int) + -1).toNat = j' by omega, e5, e6]
        rw [rowL.succ, e2, List.append_assoc] at hs4
        exact hs4
      · rw [show (((j' + 1 : Nat) : Int) + -1).toNat = j' by omega, e6, v0]
        intro e he
        rcases List.mem_cons.mp he with v | v
        · omega
        · have := h4 e v
          omega
  -- sums
  rw [show q.toNat = cn by omega] at hs3
  have F0 : mF [183999] w μ m3 := ((mF.refl.up (A_183 hw) mUp_ok rfl).up (A_183 hw) mUp_ok rfl).call F rfl |>.call F3 rfl
  have K : K2R m3 y := h.fr hw hT (mX.ofF F0) rfl
  refine loopF.ii (fun s i => 0 ≤ i ∧ (i = 0 ∨ i < (cn : Int)) ∧ 0 ≤ s ∧ (i = 0 → s = 0) ∧ (i < (cn : Int) → s ≤ m3 183 i.toNat) ∧ s + gpL (dG y (an : Int) (bn : Int)) (rowL (fun j => m3 183 (i.toNat + j)) (cn - i.toNat)) = gpL (dG y (an : Int) (bn : Int)) (rowL (m3 183) cn)) (fun _ i => (22 - i).toNat) ⟨by omega, Or.inl rfl, by omega, fun _ => rfl, fun g => (rr _ (row_in (by omega))).1, ?_⟩ (by omega) ?_
  · show 0 + gpL (dG y (an : Int) (bn : Int)) (rowL (fun j => m3 183 (0 + j)) (cn - 0)) = _
    rw [show (fun j => m3 183 (0 + j)) = m3 183 from funext fun j => by rw [Nat.zero_add], Nat.sub_zero]
    omega
  rintro r2 s i ⟨i0, i1, s0, si, sl, hs2⟩ ih2 s' i' e2 _ ri2
  cases e2
  obtain ⟨iN, rfl⟩ : ∃ n : Nat, i = (n : Int) := ⟨i.toNat, by omega⟩
  rw [Int.toNat_natCast] at hs2 sl
  refine ⟨fun c2 => Or.inr ⟨gg, rowL (m3 183) cn, hs3, ?_, ?_⟩, fun c2 z1 e1 r1 z2 e2 r2' z3 e3 => ?_⟩
  · rw [← eB] at hp3
    exact hp3
  · have z0 : gpL (dG y (an : Int) (bn : Int)) (rowL (fun j => m3 183 (iN + j)) (cn - iN)) = 0 := by
      by_cases c3 : iN < cn
      · rw [row_hd c3, show cn - (iN + 1) = 0 by omega]
        rfl
      · rw [show cn - iN = 0 by omega]
        rfl
    omega
  rw [Int.toNat_natCast] at e1
  rw [show ((iN : Int) + 1).toNat = iN + 1 by omega] at e2
  have v0 := rr _ (row_in (f := m3 183) (n := cn) (i := iN) (by omega))
  have v1 := rr _ (row_in (f := m3 183) (n := cn) (i := iN + 1) (by omega))
  have vl := row_le hs3 (show iN < iN + 1 by omega) (show iN + 1 < cn by omega)
  have sl := sl (by omega)
  rw [row_hd (show iN < cn by omega), row_hd (show iN + 1 < cn by omega)] at hs2
  have hs2 : s + (cIf (dG y (an : Int) (bn : Int) (m3 183 iN)) (m3 183 (iN + 1) - m3 183 iN) 0 + gpL (dG y (an : Int) (bn : Int)) (m3 183 (iN + 1) :: rowL (fun j => m3 183 (iN + 1 + 1 + j)) (cn - (iN + 1 + 1)))) = gpL (dG y (an : Int) (bn : Int)) (rowL (m3 183) cn) := hs2
  rw [← row_hd (show iN + 1 < cn by omega), e1, e2] at hs2
  rw [e1] at v0 vl sl
  rw [e2] at v1 vl
  have skip : ¬ dG y (an : Int) (bn : Int) z1 ∨ z2 = z1 → r2 (s, (iN : Int) + 1) := fun g => by
    have z0 : cIf (dG y (an : Int) (bn : Int) z1) (z2 - z1) 0 = 0 := by
      rcases g with g | g
      · exact cIf.neg g
      · rw [g]
        exact cIfB (fun z : Int => z = 0) (by omega) rfl
    rw [z0] at hs2
    refine ih2 _ _ ⟨by omega, by omega, by omega, fun g => absurd g (by omega), fun _ => ?_, ?_⟩ (by omega)
    · rw [show ((iN : Int) + 1).toNat = iN + 1 by omega, e2]
      omega
    · rw [show ((iN : Int) + 1).toNat = iN + 1 by omega]
      omega
  refine ⟨fun c3 z4 e4 => ?_, fun c3 => skip (Or.inr ((lCmp_iff e3 r1 r2').mp c3).symm)⟩
  have J : ∀ z : Int, ((z = 1 ∧ ¬ dG y (an : Int) (bn : Int) z1) ∨ (z = 0 ∧ dG y (an : Int) (bn : Int) z1)) → WJ_X12_differ_W_4 r2 s (iN : Int) z1 z2 z := by
    intro z hz rz
    refine ⟨fun nz => skip (Or.inl ?_), fun ez z6 e6 z7 e7 => ?_⟩
    · rcases hz with ⟨_, g⟩ | ⟨g, _⟩
      · exact g
      · exact absurd g nz
    · have g : dG y (an : Int) (bn : Int) z1 := by
        rcases hz with ⟨g, _⟩ | ⟨_, g⟩
        · omega
        · exact g
      rw [cIf.pos g] at hs2
      rw [lSub_eq (by omega)] at e6
      rw [← e6, lAdd_eq (by omega)] at e7
      refine ih2 _ _ ⟨by omega, by omega, by omega, fun g => absurd g (by omega), fun _ => ?_, ?_⟩ (by omega)
      · rw [show ((iN : Int) + 1).toNat = iN + 1 by omega, e2]
        omega
      · rw [show ((iN : Int) + 1).toNat = iN + 1 by omega]
        omega
  have evm := K.1.env (w := w) hw k.1
  -- where a domain sends, as a number
  have nx : ∀ d : Nat, d < eD (xE (yX y)) → ((tieE (xE (yX y)) (xS (yX y)) (jA (xJ (yX y))) (jL (xJ (yX y))) (lInt z1) d < 0 ∧ nxtE (xE (yX y)) (xS (yX y)) (jA (xJ (yX y))) (jL (xJ (yX y))) (lInt z1) (d : Int) = tieE (xE (yX y)) (xS (yX y)) (jA (xJ (yX y))) (jL (xJ (yX y))) (lInt z1) d) ∨ ∃ t : Nat, tieE (xE (yX y)) (xS (yX y)) (jA (xJ (yX y))) (jL (xJ (yX y))) (lInt z1) d = (t : Int) ∧ ptR m3 (t : Int) (d : Int) = nxtE (xE (yX y)) (xS (yX y)) (jA (xJ (yX y))) (jL (xJ (yX y))) (lInt z1) (d : Int) ∧ 0 ≤ nxtE (xE (yX y)) (xS (yX y)) (jA (xJ (yX y))) (jL (xJ (yX y))) (lInt z1) (d : Int)) := by
    intro d hd
    have en : nxtE (xE (yX y)) (xS (yX y)) (jA (xJ (yX y))) (jL (xJ (yX y))) (lInt z1) (d : Int) = if tieE (xE (yX y)) (xS (yX y)) (jA (xJ (yX y))) (jL (xJ (yX y))) (lInt z1) d < 0 then tieE (xE (yX y)) (xS (yX y)) (jA (xJ (yX y))) (jL (xJ (yX y))) (lInt z1) d else eN (xE (yX y)) (tieE (xE (yX y)) (xS (yX y)) (jA (xJ (yX y))) (jL (xJ (yX y))) (lInt z1) d).toNat (1 - (sdE (xE (yX y)) (d : Int) (tieE (xE (yX y)) (xS (yX y)) (jA (xJ (yX y))) (jL (xJ (yX y))) (lInt z1) d).toNat).toNat) := rfl
    rcases tieE.rng (A := jA (xJ (yX y))) (L := jL (xJ (yX y))) (x := lInt z1) u hd with g | g | ⟨t, g, ht, hs⟩
    · rw [g] at en ⊢
      exact Or.inl ⟨by decide, en⟩
    · rw [g] at en ⊢
      exact Or.inl ⟨by decide, en⟩
    · rw [g, if_neg (by omega), Int.toNat_natCast] at en
      obtain ⟨sd, e1', e2', e3'⟩ := sdE.side hs
      rw [e1', Int.toNat_natCast] at en
      obtain ⟨x1, x2, _⟩ := evm.2.2.2.1 t ht
      obtain ⟨bb, ebb, _⟩ := eN.nat ti (s := 1 - sd) ht
      refine Or.inr ⟨t, g, ?_, ?_⟩
      · rw [ptR.of x1 x2 (ti.1 t ht).1 e2' e3', en]
      · rw [en, ebb]
        omega
  subst e4
  refine X12_sends_s hw K k (by omega) fun rz5 z6 e6 => ?_
  subst e6
  refine X12_sends_s hw K k (by omega) fun rz7 => ?_
  have na := nx an (by omega)
  have nb := nx bn (by omega)
  have dg : ∀ x z : Int, nxtE (xE (yX y)) (xS (yX y)) (jA (xJ (yX y))) (jL (xJ (yX y))) (lInt z1) (an : Int) = x → nxtE (xE (yX y)) (xS (yX y)) (jA (xJ (yX y))) (jL (xJ (yX y))) (lInt z1) (bn : Int) = z → (dG y (an : Int) (bn : Int) z1 ↔ ¬ x = z) := fun x z ex ez => by
    rw [← ex, ← ez]
    exact Iff.rfl
  refine ⟨fun c4 => ?_, fun c4 => ⟨fun c5 => ?_, fun c5 => ?_⟩⟩
  · rcases na with ⟨_, ea⟩ | ⟨t, ea, _⟩
    · rcases nb with ⟨_, eb⟩ | ⟨t', eb, _, g0⟩
      · have d1 := dg _ _ ea eb
        exact ⟨fun c6 => J 0 (Or.inr ⟨rfl, d1.mpr c6⟩), fun c6 => J 1 (Or.inl ⟨rfl, fun g => d1.mp g c6⟩)⟩
      · have d1 := dg _ _ ea rfl
        refine ⟨fun c6 => J 0 (Or.inr ⟨rfl, d1.mpr (by omega)⟩), fun c6 => ?_⟩
        omega
    · omega
  · rcases na with ⟨_, _⟩ | ⟨t, ea, pa, ga0⟩
    · omega
    · rcases nb with ⟨_, _⟩ | ⟨t', eb, pb, gb0⟩
      · omega
      · rw [ea]
        refine X12_partnerOf_s ?_
        rw [pa]
        intro _
        rw [eb]
        refine X12_partnerOf_s ?_
        rw [pb]
        intro _
        exact ⟨fun c6 => J 0 (Or.inr ⟨rfl, c6⟩), fun c6 => J 1 (Or.inl ⟨rfl, fun g => g c6⟩)⟩
  · rcases na with ⟨_, _⟩ | ⟨t, ea, pa, ga0⟩
    · omega
    · rcases nb with ⟨_, eb⟩ | ⟨t', eb, pb, gb0⟩
      · have d1 := dg _ _ rfl eb
        exact J 0 (Or.inr ⟨rfl, d1.mpr (by omega)⟩)
      · omega
end DifR
end
