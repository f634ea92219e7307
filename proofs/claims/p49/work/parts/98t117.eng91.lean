section
/-! Letters: answers; what was led; demands, loads, units. -/
/-- how a letter ends, the domains that it comes to -/
noncomputable def ltG (y : S2) (x d : Int) : Int × List Int := goL (nxtE (xE (yX y)) (xS (yX y)) (jA (xJ (yX y))) (jL (xJ (yX y))) x) 11 [] d
def inD (y : S2) (d : Int) : Prop := 0 ≤ d ∧ d < (eD (xE (yX y)) : Int)
/-- what letter answers -/
def ltQ (y : S2) (d x z : Int) : Prop := (¬ inD y d ∧ z = -1) ∨ (inD y d ∧ z = (ltG y x d).1)
theorem ltQ.eq {y : S2} {d x z z' : Int} (h : ltQ y d x z) (h' : ltQ y d x z') : z = z' := by
  rcases h with ⟨a, b⟩ | ⟨a, b⟩ <;> rcases h' with ⟨c, e⟩ | ⟨c, e⟩
  · omega
  · exact absurd c a
  · exact absurd a c
  · rw [b, e]
/-- what was led is the same -/
def LDx (μ : mM) : Prop := μ 87 9 = μ 106 108 ∧ ∀ i : Nat, (i : Int) < μ 87 9 → μ 89 i = μ 176 i
abbrev ldL : List Nat := [87009, 89999, 106108, 176999]
theorem LDx.fr {w w1 : mW} {μ m : mM} {lf : List Nat} (h : LDx μ) (hw : mWF w) (X : mX lf w μ w1 m) (hl : (ldL.all fun r => !lf.elem r) = true) : LDx m := by
  have a : m 87 9 = μ 87 9 := X.f (A_87 hw) (qA_no hl rfl) rfl
  have b : m 106 108 = μ 106 108 := X.f (A_106 hw) (qA_no hl rfl) rfl
  have c : ∀ i, m 89 i = μ 89 i := fun i => X.f (A_89 hw) (qA_no hl rfl) rfl
  have d : ∀ i, m 176 i = μ 176 i := fun i => X.f (A_176 hw) (qA_no hl rfl) rfl
  refine ⟨by rw [a, b]; exact h.1, fun i hi => ?_⟩
  rw [a] at hi
  rw [c, d]
  exact h.2 i hi
section LetC
variable {w : mW} {μ m : mM} {y : S2}
theorem C_letterA {d x : Int} (hw : mWF w) (hT : mT w μ) (h : K2C w μ y) (k : K2X y) (u : upI (xE (yX y)) (xS (yX y))) : WP_X11_letter_W w μ d x (fun z m => ltQ y d x z ∧ ((¬ inD y d ∧ m = μ) ∨ (inD y d ∧ m 87 9 = ((ltG y x d).2.length : Int) ∧ rowL (m 89) (ltG y x d).2.length = (ltG y x d).2))) := by
  have ev := h.1.env hw hT k.1
  intro n en rn
  refine X11_isDomain_s ev fun z hz rz => ⟨fun q => ?_, fun q => ?_⟩
  · have g : ¬ inD y d := fun g => by
      have := hz.mpr g
      omega
    exact ⟨Or.inl ⟨g, rfl⟩, Or.inl ⟨g, rfl⟩⟩
  · have g : inD y d := hz.mp (by omega)
    obtain ⟨g0, g1⟩ := hz.mp (show z = 1 by omega)
    obtain ⟨dn, rfl⟩ : ∃ n : Nat, d = (n : Int) := ⟨d.toNat, by omega⟩
    refine X2_travel_s hw hT h k u (by omega) fun m1 T1 F1 e6 er _ _ _ z6 ez6 rz6 m9 q9 T9 m13 u13 T13 => ?_
    obtain rfl := u13.is
    intro _ _ _
    have e6 : m1 87 6 = ((ltG y x (dn : Int)).2.length : Int) := e6
    have er : rowL (m1 88) (ltG y x (dn : Int)).2.length = (ltG y x (dn : Int)).2 := er
    refine ⟨Or.inr ⟨g, rfl⟩, Or.inr ⟨g, ?_, ?_⟩⟩
    · rw [mUp.yes ⟨rfl, rfl⟩]
      omega
    · refine (rowL.ext (f := m1 88) fun i hi => ?_).trans er
      rw [mUp.no (by omega), q9.2 i, if_pos (by omega), show (0 : Int).toNat + (i - (0 : Int).toNat) = i by omega]
theorem R_letterA {d x : Int} (hw : mWF w) (hT : mT w μ) (h : K2R μ y) (k : K2X y) (u : upI (xE (yX y)) (xS (yX y))) : WP_X12_letter_W w μ d x (fun z m => ltQ y d x z ∧ ((¬ inD y d ∧ m = μ) ∨ (inD y d ∧ m 106 108 = ((ltG y x d).2.length : Int) ∧ rowL (m 176) (ltG y x d).2.length = (ltG y x d).2))) := by
  have ev := h.1.env (w := w) hw k.1
  intro n en rn
  refine X12_isDomain_s ev fun z hz rz => ⟨fun q => ?_, fun q => ?_⟩
  rotate_left 1
  · have g : ¬ inD y d := fun g => by
      have := hz.mpr g
      omega
    exact ⟨Or.inl ⟨g, rfl⟩, Or.inl ⟨g, rfl⟩⟩
  · have g : inD y d := hz.mp (by omega)
    obtain ⟨g0, g1⟩ := hz.mp (show z = 1 by omega)
    obtain ⟨dn, rfl⟩ : ∃ n : Nat, d = (n : Int) := ⟨d.toNat, by omega⟩
    refine X12_goes_s hw hT h k u (by omega) fun m1 T1 F1 e6 er _ _ rz2 z19 ez rz19 m2 u2 T2 => ?_
    obtain rfl := u2.is
    have e6 : m1 106 106 = ((ltG y x (dn : Int)).2.length : Int) := e6
    have er : rowL (m1 175) (ltG y x (dn : Int)).2.length = (ltG y x (dn : Int)).2 := er
    refine loopF.im (fun i m => 0 ≤ i ∧ i ≤ z19 ∧ ∀ j : Nat, (j : Int) < i → m 176 j = m1 175 j) (fun i => (13 - i).toNat) ⟨by omega, by omega, fun j hj => absurd hj (by omega)⟩ (by omega) ?_
    rintro rc i m ⟨i0, i1, hi⟩ ih i' m' e ri T F
    cases e
    have e108 : m 106 108 = z19 := by
      have a : m 106 108 = mUp m1 106 108 z19 106 108 := F.f (A_106 hw) rfl rfl
      rw [a, mUp.yes ⟨rfl, rfl⟩]
    have e175 : ∀ j, m 175 j = m1 175 j := fun j => by
      have a : m 175 j = mUp m1 106 108 z19 175 j := F.f (A_175 hw) rfl rfl
      rw [a, mUp.no (by omega)]
    refine ⟨fun c => ⟨Or.inr ⟨g, rfl⟩, Or.inr ⟨g, by omega, (rowL.ext (f := m1 175) fun j hj => hi j (by omega)).trans er⟩⟩, fun c v ev1 rv m3 u3 T3 => ?_⟩
    obtain rfl := u3.is
    refine ih _ _ ⟨by omega, by omega, fun j hj => ?_⟩ (by omega)
    by_cases c2 : j = i.toNat
    · rw [mUp.yes ⟨rfl, c2⟩, ← ev1, e175, c2]
    · rw [mUp.no (by omega)]
      exact hi j (by omega)
/-- the class's letter, then the reference's -/
theorem LDx.let {d x : Int} {m2 : mM} (hm : LDx μ) (f108 : m 106 108 = μ 106 108) (f176 : ∀ i, m 176 i = μ 176 i) (g9 : m2 87 9 = m 87 9) (g89 : ∀ i, m2 89 i = m 89 i)
    (p : (¬ inD y d ∧ m = μ) ∨ (inD y d ∧ m 87 9 = ((ltG y x d).2.length : Int) ∧ rowL (m 89) (ltG y x d).2.length = (ltG y x d).2))
    (q : (¬ inD y d ∧ m2 = m) ∨ (inD y d ∧ m2 106 108 = ((ltG y x d).2.length : Int) ∧ rowL (m2 176) (ltG y x d).2.length = (ltG y x d).2)) : LDx m2 := by
  rcases p with ⟨a, rfl⟩ | ⟨a, p1, p2⟩
  · rcases q with ⟨_, rfl⟩ | ⟨b, _⟩
    · exact hm
    · exact absurd b a
  · rcases q with ⟨b, _⟩ | ⟨_, q1, q2⟩
    · exact absurd a b
    · refine ⟨by omega, fun i hi => ?_⟩
      rw [g89]
      exact rowL.at (p2.trans q2.symm) (by omega)
theorem C_ledA {i : Int} : WP_X11_led_W w μ i (fun z _ => z = if 0 ≤ i ∧ i < μ 87 9 then μ 89 i.toNat else -99999999) := by
  refine ⟨fun c => (if_neg (by omega)).symm, fun c v ev rv => ⟨fun c2 z ez rz => ?_, fun c2 => (if_neg (by omega)).symm⟩⟩
  rw [if_pos (by omega)]
  exact ez.symm
theorem R_ledA {i : Int} : WP_X12_led_W w μ i (fun z _ => z = if 0 ≤ i ∧ i < μ 106 108 then μ 176 i.toNat else -99999999) := by
  intro v ev rv
  refine X12_in_s fun z hz rz => ⟨fun c => (if_neg fun g => ?_).symm, fun c x ex rx => ?_⟩
  · have := hz.mpr (by omega)
    omega
  · have := hz.mp (by omega)
    rw [if_pos (by omega)]
    exact ex.symm
theorem led_eq {i z z' : Int} (h : LDx μ) (a : z = if 0 ≤ i ∧ i < μ 87 9 then μ 89 i.toNat else -99999999) (b : z' = if 0 ≤ i ∧ i < μ 106 108 then μ 176 i.toNat else -99999999) : z = z' := by
  rw [a, b, h.1]
  by_cases c : 0 ≤ i ∧ i < μ 106 108
  · rw [if_pos c, if_pos c]
    exact h.2 i.toNat (by
      have := h.1
      omega)
  · rw [if_neg c, if_neg c]
end LetC
/-! Demands. -/
def DMx (μ : mM) : Prop := μ 87 10 = μ 106 109 ∧ ∀ i : Nat, (i : Int) < μ 87 10 → μ 90 i = μ 177 i ∧ μ 91 i = μ 178 i ∧ μ 92 i = μ 179 i
abbrev dmL : List Nat := [87010, 90999, 91999, 92999, 106109, 177999, 178999, 179999]
theorem DMx.fr {w w1 : mW} {μ m : mM} {lf : List Nat} (h : DMx μ) (hw : mWF w) (X : mX lf w μ w1 m) (hl : (dmL.all fun r => !lf.elem r) = true) : DMx m := by
  have a : m 87 10 = μ 87 10 := X.f (A_87 hw) (qA_no hl rfl) rfl
  have b : m 106 109 = μ 106 109 := X.f (A_106 hw) (qA_no hl rfl) rfl
  have c1 : ∀ i, m 90 i = μ 90 i := fun i => X.f (A_90 hw) (qA_no hl rfl) rfl
  have c2 : ∀ i, m 91 i = μ 91 i := fun i => X.f (A_91 hw) (qA_no hl rfl) rfl
  have c3 : ∀ i, m 92 i = μ 92 i := fun i => X.f (A_92 hw) (qA_no hl rfl) rfl
  have d1 : ∀ i, m 177 i = μ 177 i := fun i => X.f (A_177 hw) (qA_no hl rfl) rfl
  have d2 : ∀ i, m 178 i = μ 178 i := fun i => X.f (A_178 hw) (qA_no hl rfl) rfl
  have d3 : ∀ i, m 179 i = μ 179 i := fun i => X.f (A_179 hw) (qA_no hl rfl) rfl
  refine ⟨by rw [a, b]; exact h.1, fun i hi => ?_⟩
  rw [a] at hi
  rw [c1, c2, c3, d1, d2, d3]
  exact h.2 i hi
/-- what demand answers -/
def dmQ (y : S2) (c d n z : Int) : Prop := (¬ (inD y d ∧ 1 ≤ n ∧ n ≤ 1000000) ∧ z = -1) ∨ ((inD y d ∧ 1 ≤ n ∧ n ≤ 1000000) ∧ ((16 ≤ c ∧ z = -3) ∨ (c < 16 ∧ z = c)))
section Dem
variable {w : mW} {μ m : mM} {y : S2}
theorem C_demandA {d a n : Int} (hw : mWF w) (hT : mT w μ) (h : K2C w μ y) (k : K2X y) : WP_X11_demand_W w μ d a n (fun z m => dmQ y (μ 87 10) d n z ∧ ((z < 0 ∧ m = μ) ∨ (0 ≤ z ∧ m 87 10 = μ 87 10 + 1 ∧ ∀ i, m 90 i = (if i = (μ 87 10).toNat then d else μ 90 i) ∧ m 91 i = (if i = (μ 87 10).toNat then a else μ 91 i) ∧ m 92 i = (if i = (μ 87 10).toNat then n else μ 92 i)))) := by
  have ev := h.1.env hw hT k.1
  have c0 : 0 ≤ μ 87 10 ∧ μ 87 10 ≤ 16 ∧ (μ 87 10 = 0 ∨ 0 < w.2.2.2 0) := hT 87 87 (A_87 hw) 10
  intro v ev1 rv
  refine X11_isDomain_s ev fun z hz rz => ⟨fun q => ?_, fun q => ⟨fun c => ?_, fun c => ⟨fun c2 v2 e2 r2 => ⟨fun c3 => ?_, fun c3 => ?_⟩, fun c2 => ?_⟩⟩⟩
  · exact ⟨Or.inl ⟨fun g => by
      have := hz.mpr g.1
      omega, rfl⟩, Or.inl ⟨by decide, rfl⟩⟩
  · exact ⟨Or.inl ⟨fun g => by omega, rfl⟩, Or.inl ⟨by decide, rfl⟩⟩
  · intro f ef rf m1 u1 T1 m2 u2 T2 m3 u3 T3 m4 u4 T4 _ _ _
    obtain rfl := u1.is
    obtain rfl := u2.is
    obtain rfl := u3.is
    obtain rfl := u4.is
    subst ef
    refine ⟨Or.inr ⟨⟨hz.mp (by omega), c, c2⟩, Or.inr ⟨by omega, by omega⟩⟩, Or.inr ⟨by omega, mUp.yes ⟨rfl, rfl⟩, fun i => ⟨?_, ?_, ?_⟩⟩⟩
    · by_cases e : i = (μ 87 10).toNat
      · rw [if_pos e, mUp.no (by omega), mUp.no (by omega), mUp.no (by omega), mUp.yes ⟨rfl, e⟩]
      · rw [if_neg e, mUp.no (by omega), mUp.no (by omega), mUp.no (by omega), mUp.no (by omega)]
    · by_cases e : i = (μ 87 10).toNat
      · rw [if_pos e, mUp.no (by omega), mUp.no (by omega), mUp.yes ⟨rfl, e⟩]
      · rw [if_neg e, mUp.no (by omega), mUp.no (by omega), mUp.no (by omega), mUp.no (by omega)]
    · by_cases e : i = (μ 87 10).toNat
      · rw [if_pos e, mUp.no (by omega), mUp.yes ⟨rfl, e⟩]
      · rw [if_neg e, mUp.no (by omega), mUp.no (by omega), mUp.no (by omega), mUp.no (by omega)]
  · exact ⟨Or.inr ⟨⟨hz.mp (by omega), c, c2⟩, Or.inl ⟨by omega, rfl⟩⟩, Or.inl ⟨by decide, rfl⟩⟩
  · exact ⟨Or.inl ⟨fun g => by omega, rfl⟩, Or.inl ⟨by decide, rfl⟩⟩
theorem R_demandA {d a n : Int} (hw : mWF w) (hT : mT w μ) (h : K2R μ y) (k : K2X y) : WP_X12_demand_W w μ d a n (fun z m => dmQ y (μ 106 109) d n z ∧ ((z < 0 ∧ m = μ) ∨ (0 ≤ z ∧ m 106 109 = μ 106 109 + 1 ∧ ∀ i, m 177 i = (if i = (μ 106 109).toNat then d else μ 177 i) ∧ m 178 i = (if i = (μ 106 109).toNat then a else μ 178 i) ∧ m 179 i = (if i = (μ 106 109).toNat then n else μ 179 i)))) := by
  have ev := h.1.env (w := w) hw k.1
  have c0 : 0 ≤ μ 106 109 ∧ μ 106 109 ≤ 16 := hT 106 106 (A_106 hw) 109
  intro v ev1 rv
  refine X12_isDomain_s ev fun z hz rz => ⟨fun q => ?_, fun q => X12_in_s fun z2 hz2 rz2 => ⟨fun c v2 e2 r2 => ⟨fun c3 => ?_, fun c3 => ?_⟩, fun c => ?_⟩⟩
  · exact ⟨Or.inl ⟨fun g => by
      have := hz.mpr g.1
      omega, rfl⟩, Or.inl ⟨by decide, rfl⟩⟩
  · intro m1 u1 T1 m2 u2 T2 m3 u3 T3 m4 u4 T4
    obtain rfl := u1.is
    obtain rfl := u2.is
    obtain rfl := u3.is
    obtain rfl := u4.is
    subst e2
    have c4 := hz2.mp (by omega)
    refine ⟨Or.inr ⟨⟨hz.mp (by omega), c4.1, c4.2⟩, Or.inr ⟨by omega, by omega⟩⟩, Or.inr ⟨by omega, mUp.yes ⟨rfl, rfl⟩, fun i => ⟨?_, ?_, ?_⟩⟩⟩
    · by_cases e : i = (μ 106 109).toNat
      · rw [if_pos e, mUp.no (by omega), mUp.no (by omega), mUp.no (by omega), mUp.yes ⟨rfl, e⟩]
      · rw [if_neg e, mUp.no (by omega), mUp.no (by omega), mUp.no (by omega), mUp.no (by omega)]
    · by_cases e : i = (μ 106 109).toNat
      · rw [if_pos e, mUp.no (by omega), mUp.no (by omega), mUp.yes ⟨rfl, e⟩]
      · rw [if_neg e, mUp.no (by omega), mUp.no (by omega), mUp.no (by omega), mUp.no (by omega)]
    · by_cases e : i = (μ 106 109).toNat
      · rw [if_pos e, mUp.no (by omega), mUp.yes ⟨rfl, e⟩]
      · rw [if_neg e, mUp.no (by omega), mUp.no (by omega), mUp.no (by omega), mUp.no (by omega)]
  · have c4 := hz2.mp (by omega)
    exact ⟨Or.inr ⟨⟨hz.mp (by omega), c4.1, c4.2⟩, Or.inl ⟨by omega, rfl⟩⟩, Or.inl ⟨by decide, rfl⟩⟩
  · exact ⟨Or.inl ⟨fun g => by
      have := hz2.mpr g.2
      omega, rfl⟩, Or.inl ⟨by decide, rfl⟩⟩
theorem dmQ.eq {c d n z z' : Int} (h : dmQ y c d n z) (h' : dmQ y c d n z') : z = z' := by
  rcases h with ⟨a, b⟩ | ⟨a, b⟩ <;> rcases h' with ⟨c, e⟩ | ⟨c, e⟩
  · omega
  · exact absurd c a
  · exact absurd a c
  · omega
/-- the class's demand, then the reference's -/
theorem DMx.dem {d a n z z' : Int} {m2 : mM} (hm : DMx μ) (c0 : 0 ≤ μ 87 10) (f9 : m 106 109 = μ 106 109) (f1 : ∀ i, m 177 i = μ 177 i) (f2 : ∀ i, m 178 i = μ 178 i) (f3 : ∀ i, m 179 i = μ 179 i) (g9 : m2 87 10 = m 87 10) (g1 : ∀ i, m2 90 i = m 90 i) (g2 : ∀ i, m2 91 i = m 91 i) (g3 : ∀ i, m2 92 i = m 92 i)
    (e : dmQ y (μ 87 10) d n z) (e' : dmQ y (m 106 109) d n z')
    (p : (z < 0 ∧ m = μ) ∨ (0 ≤ z ∧ m 87 10 = μ 87 10 + 1 ∧ ∀ i, m 90 i = (if i = (μ 87 10).toNat then d else μ 90 i) ∧ m 91 i = (if i = (μ 87 10).toNat then a else μ 91 i) ∧ m 92 i = (if i = (μ 87 10).toNat then n else μ 92 i)))
    (q : (z' < 0 ∧ m2 = m) ∨ (0 ≤ z' ∧ m2 106 109 = m 106 109 + 1 ∧ ∀ i, m2 177 i = (if i = (m 106 109).toNat then d else m 177 i) ∧ m2 178 i = (if i = (m 106 109).toNat then a else m 178 i) ∧ m2 179 i = (if i = (m 106 109).toNat then n else m 179 i))) : z = z' ∧ DMx m2 := by
  have h1 := hm.1
  rw [f9, ← h1] at e'
  have ez : z = z' := e.eq e'
  subst ez
  refine ⟨rfl, ?_⟩
  rcases p with ⟨a1, rfl⟩ | ⟨a1, p1, p2⟩
  · rcases q with ⟨_, rfl⟩ | ⟨b, _⟩
    · exact hm
    · omega
  · rcases q with ⟨b, _⟩ | ⟨_, q1, q2⟩
    · omega
    · refine ⟨by omega, fun i hi => ?_⟩
      rw [g9, p1] at hi
      obtain ⟨x1, x2, x3⟩ := p2 i
      obtain ⟨y1, y2, y3⟩ := q2 i
      rw [f9, ← h1] at y1 y2 y3
      rw [g1, g2, g3, x1, x2, x3, y1, y2, y3, f1, f2, f3]
      by_cases c : i = (μ 87 10).toNat
      · rw [if_pos c, if_pos c, if_pos c, if_pos c, if_pos c, if_pos c]
        exact ⟨rfl, rfl, rfl⟩
      · rw [if_neg c, if_neg c, if_neg c, if_neg c, if_neg c, if_neg c]
        exact hm.2 i (by omega)
/-- demands begin at domains that are there -/
theorem C_from (hw : mWF w) (hT : mT w μ) (h : K2C w μ y) : ∀ i : Nat, (i : Int) < μ 87 10 → 0 ≤ μ 90 i ∧ μ 90 i < (eD (xE (yX y)) : Int) := fun i hi => by
  have a : 0 ≤ μ 87 10 ∧ μ 87 10 ≤ 16 ∧ (μ 87 10 = 0 ∨ 0 < w.2.2.2 0) := hT 87 87 (A_87 hw) 10
  have b : 0 ≤ μ 90 i ∧ μ 90 i ≤ 9 ∧ (μ 90 i = 0 ∨ μ 90 i < w.2.2.2 0) := hT 90 90 (A_90 hw) i
  have c : μ 6 15 = w.2.2.2 0 ∧ 0 ≤ μ 6 15 ∧ μ 6 15 ≤ 10 := hT 6 6 (A_6 hw) 15
  have d : μ 6 15 = (eD (xE (yX y)) : Int) := h.1.1.2.2.1
  omega
theorem DMx.from (hw : mWF w) (hT : mT w μ) (h : K2C w μ y) (hm : DMx μ) : ∀ i : Nat, (i : Int) < μ 106 109 → 0 ≤ μ 177 i ∧ μ 177 i < (eD (xE (yX y)) : Int) := fun i hi => by
  have e := hm.1
  rw [← (hm.2 i (by omega)).1]
  exact C_from hw hT h i (by omega)
end Dem
/-! Units. -/
noncomputable def untN (g : Int → Int → Int × List Int) (f a u : Nat → Int) (o : Int) : Nat → Int
  | 0 => 0
  | n + 1 => untN g f a u o n + (if (g (a n) (f n)).1 = o then u n else 0)
theorem untN.cg {g : Int → Int → Int × List Int} {f a u f' a' u' : Nat → Int} {o : Int} : ∀ n : Nat, (∀ i, i < n → f i = f' i ∧ a i = a' i ∧ u i = u' i) → untN g f a u o n = untN g f' a' u' o n
  | 0, _ => rfl
  | n + 1, h => by
    obtain ⟨h1, h2, h3⟩ := h n (by omega)
    show untN g f a u o n + (if (g (a n) (f n)).1 = o then u n else 0) = untN g f' a' u' o n + (if (g (a' n) (f' n)).1 = o then u' n else 0)
    rw [untN.cg n fun i hi => h i (by omega), h1, h2, h3]
def prN (g : Nat → Int) (p q u : Int) : Nat → Int
  | 0 => 0
  | k + 1 => prN g p q u k + (if g k = p ∧ g (k + 1) = q then u else 0)
theorem prN.cg {g g' : Nat → Int} {p q u : Int} : ∀ n : Nat, (∀ i, i ≤ n → g i = g' i) → prN g p q u n = prN g' p q u n
  | 0, _ => rfl
  | n + 1, h => by
    show prN g p q u n + (if g n = p ∧ g (n + 1) = q then u else 0) = prN g' p q u n + (if g' n = p ∧ g' (n + 1) = q then u else 0)
    rw [prN.cg n fun i hi => h i (by omega), h n (by omega), h (n + 1) (by omega)]
noncomputable def prS (l : List Int) (p q u : Int) : Int := prN (fun k => (l[k]?).getD 0) p q u (l.length - 1)
noncomputable def lodN (g : Int → Int → Int × List Int) (f a u : Nat → Int) (p q : Int) : Nat → Int
  | 0 => 0
  | n + 1 => lodN g f a u p q n + prS (g (a n) (f n)).2 p q (u n)
theorem lodN.cg {g : Int → Int → Int × List Int} {f a u f' a' u' : Nat → Int} {p q : Int} : ∀ n : Nat, (∀ i, i < n → f i = f' i ∧ a i = a' i ∧ u i = u' i) → lodN g f a u p q n = lodN g f' a' u' p q n
  | 0, _ => rfl
  | n + 1, h => by
    obtain ⟨h1, h2, h3⟩ := h n (by omega)
    show lodN g f a u p q n + prS (g (a n) (f n)).2 p q (u n) = lodN g f' a' u' p q n + prS (g (a' n) (f' n)).2 p q (u' n)
    rw [lodN.cg n fun i hi => h i (by omega), h1, h2, h3]
def unQ (o U z : Int) : Prop := (¬ (0 ≤ o ∧ o ≤ 2) ∧ z = -1) ∨ ((0 ≤ o ∧ o ≤ 2) ∧ (z - U) % 4294967296 = 0)
theorem unQ.eq {o U z z' : Int} (h : unQ o U z) (h' : unQ o U z') (r : -2147483648 ≤ z ∧ z ≤ 2147483647) (r' : -2147483648 ≤ z' ∧ z' ≤ 2147483647) : z = z' := by
  rcases h with ⟨a, b⟩ | ⟨a, b⟩ <;> rcases h' with ⟨c, e⟩ | ⟨c, e⟩ <;> omega
def loQ (E : En) (t s U z : Int) : Prop := (¬ ((0 ≤ t ∧ t < (eT E : Int)) ∧ 0 ≤ s ∧ s ≤ 1) ∧ z = -1) ∨ (((0 ≤ t ∧ t < (eT E : Int)) ∧ 0 ≤ s ∧ s ≤ 1) ∧ (z - U) % 4294967296 = 0)
theorem loQ.eq {E : En} {t s U z z' : Int} (h : loQ E t s U z) (h' : loQ E t s U z') (r : -2147483648 ≤ z ∧ z ≤ 2147483647) (r' : -2147483648 ≤ z' ∧ z' ≤ 2147483647) : z = z' := by
  rcases h with ⟨a, b⟩ | ⟨a, b⟩ <;> rcases h' with ⟨c, e⟩ | ⟨c, e⟩ <;> omega
section Units
variable {w : mW} {μ m : mM} {y : S2}
theorem C_unitsA {o : Int} (hw : mWF w) (hT : mT w μ) (h : K2C w μ y) (k : K2X y) (u : upI (xE (yX y)) (xS (yX y))) : WP_X11_units_W w μ o (fun z m => unQ o (untN (ltG y) (μ 90) (μ 91) (μ 92) o (μ 87 10).toNat) z) := by
  have hf := C_from hw hT h
  refine ⟨fun c => Or.inl ⟨by omega, rfl⟩, fun c => ⟨fun c2 => ?_, fun c2 => Or.inl ⟨by omega, rfl⟩⟩⟩
  refine loopF.iim (fun z i m => 0 ≤ i ∧ (i = 0 ∨ i ≤ μ 87 10) ∧ mF [87006, 88999] w μ m ∧ (z - untN (ltG y) (μ 90) (μ 91) (μ 92) o i.toNat) % 4294967296 = 0) (fun _ i => (17 - i).toNat) ⟨by omega, Or.inl rfl, mF.refl, by
    show ((0 : Int) - 0) % 4294967296 = 0
    decide⟩ (by omega) ?_
  rintro rc z i m ⟨i0, i1, F0, hz⟩ ih z' i' m' e _ ri T F n en rn
  cases e
  have e10 : m 87 10 = μ 87 10 := F0.f (A_87 hw) rfl rfl
  rw [e10] at en
  subst en
  refine ⟨fun c3 _ _ _ => Or.inr ⟨⟨c, c2⟩, ?_⟩, fun c3 z1 e1 r1 z2 e2 r2 => ?_⟩
  · rw [show i.toNat = (μ 87 10).toNat by omega] at hz
    exact hz
  have c90 : ∀ j, m 90 j = μ 90 j := fun j => F0.f (A_90 hw) rfl rfl
  have c91 : ∀ j, m 91 j = μ 91 j := fun j => F0.f (A_91 hw) rfl rfl
  obtain ⟨iN, rfl⟩ : ∃ n : Nat, i = (n : Int) := ⟨i.toNat, by omega⟩
  rw [Int.toNat_natCast] at e1 e2 hz
  rw [c90] at e1
  rw [c91] at e2
  have hfi := hf iN (by omega)
  obtain ⟨dn, rfl⟩ : ∃ d : Nat, z1 = (d : Int) := ⟨z1.toNat, by omega⟩
  have K : K2C w m y := h.fr hw hT (mX.ofF F0) rfl
  have st : untN (ltG y) (μ 90) (μ 91) (μ 92) o (iN + 1) = untN (ltG y) (μ 90) (μ 91) (μ 92) o iN + (if (ltG y z2 (dn : Int)).1 = o then μ 92 iN else 0) := by
    rw [← e1, ← e2]
    rfl
  refine X2_travel_s hw T K k u (by omega) fun m2 T2 F2 _ _ _ _ _ => ⟨fun c4 => ih _ _ _ ⟨by omega, by omega, F0.call F2 rfl, ?_⟩ (by omega), fun c4 v ev rv z3 r3 e3 => ih _ _ _ ⟨by omega, by omega, F0.call F2 rfl, ?_⟩ (by omega)⟩
  · have c4 : ¬ (ltG y z2 (dn : Int)).1 = o := c4
    rw [show ((iN : Int) + 1).toNat = iN + 1 by omega, st, if_neg c4]
    omega
  · have c4 : (ltG y z2 (dn : Int)).1 = o := c4
    have e92 : m2 92 iN = μ 92 iN := (F0.call F2 rfl).f (A_92 hw) rfl rfl
    rw [Int.toNat_natCast, e92] at ev
    rw [show ((iN : Int) + 1).toNat = iN + 1 by omega, st, if_pos c4]
    omega
theorem R_unitsA {o : Int} (hw : mWF w) (hT : mT w μ) (h : K2R μ y) (k : K2X y) (u : upI (xE (yX y)) (xS (yX y))) (hf : ∀ i : Nat, (i : Int) < μ 106 109 → 0 ≤ μ 177 i ∧ μ 177 i < (eD (xE (yX y)) : Int)) : WP_X12_units_W w μ o (fun z m => unQ o (untN (ltG y) (μ 177) (μ 178) (μ 179) o (μ 106 109).toNat) z) := by
  refine X12_in_s fun zi hzi rzi => ⟨fun c => ?_, fun c => Or.inl ⟨fun g => ?_, rfl⟩⟩
  rotate_left 1
  · have := hzi.mpr g
    omega
  have c2 := hzi.mp (by omega)
  refine loopF.iim (fun z i m => 0 ≤ i ∧ (i = 0 ∨ i ≤ μ 106 109) ∧ mF [106106, 175999] w μ m ∧ (z - untN (ltG y) (μ 177) (μ 178) (μ 179) o i.toNat) % 4294967296 = 0) (fun _ i => (17 - i).toNat) ⟨by omega, Or.inl rfl, mF.refl, by
    show ((0 : Int) - 0) % 4294967296 = 0
    decide⟩ (by omega) ?_
  rintro rc z i m ⟨i0, i1, F0, hz⟩ ih z' i' m' e _ ri T F n en rn
  cases e
  have e10 : m 106 109 = μ 106 109 := F0.f (A_106 hw) rfl rfl
  rw [e10] at en
  subst en
  refine ⟨fun c3 => Or.inr ⟨c2, ?_⟩, fun c3 z1 e1 r1 z2 e2 r2 => ?_⟩
  · rw [show i.toNat = (μ 106 109).toNat by omega] at hz
    exact hz
  have c90 : ∀ j, m 177 j = μ 177 j := fun j => F0.f (A_177 hw) rfl rfl
  have c91 : ∀ j, m 178 j = μ 178 j := fun j => F0.f (A_178 hw) rfl rfl
  obtain ⟨iN, rfl⟩ : ∃ n : Nat, i = (n : Int) := ⟨i.toNat, by omega⟩
  rw [Int.toNat_natCast] at e1 e2 hz
  rw [c90] at e1
  rw [c91] at e2
  have hfi := hf iN (by omega)
  obtain ⟨dn, rfl⟩ : ∃ d : Nat, z1 = (d : Int) := ⟨z1.toNat, by omega⟩
  have K : K2R m y := h.fr hw hT (mX.ofF F0) rfl
  have st : untN (ltG y) (μ 177) (μ 178) (μ 179) o (iN + 1) = untN (ltG y) (μ 177) (μ 178) (μ 179) o iN + (if (ltG y z2 (dn : Int)).1 = o then μ 179 iN else 0) := by
    rw [← e1, ← e2]
    rfl
  refine X12_goes_s hw T K k u (by omega) fun m2 T2 F2 _ _ _ _ _ => ⟨fun c4 => ih _ _ _ ⟨by omega, by omega, F0.call F2 rfl, ?_⟩ (by omega), fun c4 v ev rv z3 r3 e3 => ih _ _ _ ⟨by omega, by omega, F0.call F2 rfl, ?_⟩ (by omega)⟩
  · have c4 : ¬ (ltG y z2 (dn : Int)).1 = o := c4
    rw [show ((iN : Int) + 1).toNat = iN + 1 by omega, st, if_neg c4]
    omega
  · have c4 : (ltG y z2 (dn : Int)).1 = o := c4
    have e92 : m2 179 iN = μ 179 iN := (F0.call F2 rfl).f (A_179 hw) rfl rfl
    rw [Int.toNat_natCast, e92] at ev
    rw [show ((iN : Int) + 1).toNat = iN + 1 by omega, st, if_pos c4]
    omega
theorem row_at {f : Nat → Int} {l : List Int} {i : Nat} (h : rowL f l.length = l) (hi : i < l.length) : f i = (l[i]?).getD 0 := by
  have g : (rowL f l.length)[i]? = some (f i) := rowL.get hi
  rw [h] at g
  rw [g]
  rfl
theorem goL.ne {nx : Int → Int} : ∀ (n : Nat) (l : List Int) (a : Int), 0 < (goL nx n l a).2.length
  | 0, l, a => by
    show 0 < (l ++ [a]).length
    rw [List.length_append]
    exact Nat.succ_pos _
  | n + 1, l, a => by
    have e : 0 < (l ++ [a]).length := by
      rw [List.length_append]
      exact Nat.succ_pos _
    by_cases c : a ∈ l
    · rw [goL.again c]; exact e
    · by_cases c2 : nx a = -4
      · rw [goL.own c c2]; exact e
      · by_cases c3 : nx a < 0
        · rw [goL.lost c c2 c3]; exact e
        · rw [goL.on c c3]; exact goL.ne n _ _
theorem C_loadA {t0 s0 : Int} (hw : mWF w) (hT : mT w μ) (h : K2C w μ y) (k : K2X y) (u : upI (xE (yX y)) (xS (yX y))) : WP_X11_load_W w μ t0 s0 (fun z m => loQ (xE (yX y)) t0 s0 (lodN (ltG y) (μ 90) (μ 91) (μ 92) (eN (xE (yX y)) t0.toNat s0.toNat) (eN (xE (yX y)) t0.toNat (1 - s0.toNat)) (μ 87 10).toNat) z) := by
  have ev := h.1.env hw hT k.1
  have hf := C_from hw hT h
  intro n0 en0 rn0
  refine X11_isTie_s ev fun z hz rz => ⟨fun q => Or.inl ⟨fun g => ?_, rfl⟩, fun q => X11_isEither_s fun z2 hz2 rz2 => ⟨fun q2 b eb Ab => ?_, fun q2 => Or.inl ⟨fun g => ?_, rfl⟩⟩⟩
  · have := hz.mpr g.1
    omega
  rotate_left 1
  · have := hz2.mpr g.2
    omega
  have ht := hz.mp (by omega)
  have hs := hz2.mp (by omega)
  obtain ⟨t, rfl⟩ : ∃ n : Nat, t0 = (n : Int) := ⟨t0.toNat, by omega⟩
  obtain ⟨s, rfl⟩ : ∃ n : Nat, s0 = (n : Int) := ⟨s0.toNat, by omega⟩
  rw [Int.toNat_natCast, Int.toNat_natCast]
  obtain ⟨a1, a2, _⟩ := ev.2.2.2.2.1 t (by omega)
  have eb' : tbA μ t = b := by
    have e : μ 11 t = (b : Int) := eb
    show (μ 11 t).toNat = b
    omega
  rw [eb'] at a1 a2
  refine X9_end_s ?_
  have e1 : (if (s : Int) = 0 then μ b 0 else μ b 1) = eN (xE (yX y)) t s := by
    rw [a1, a2]
    unfold eN
    by_cases c : s = 0
    · rw [if_pos c, if_pos (by omega)]
    · rw [if_neg c, if_neg (by omega)]
  rw [e1]
  intro _
  refine X9_end_s ?_
  have e2 : (if (1 : Int) - (s : Int) = 0 then μ b 0 else μ b 1) = eN (xE (yX y)) t (1 - s) := by
    rw [a1, a2]
    unfold eN
    by_cases c : s = 0
    · rw [if_neg (by omega), if_neg (by omega)]
    · rw [if_pos (by omega), if_pos (by omega)]
  rw [e2]
  intro _
  generalize eN (xE (yX y)) t s = P
  generalize eN (xE (yX y)) t (1 - s) = R
  refine loopF.iim (fun z i m => 0 ≤ i ∧ (i = 0 ∨ i ≤ μ 87 10) ∧ mF [87006, 88999] w μ m ∧ (z - lodN (ltG y) (μ 90) (μ 91) (μ 92) P R i.toNat) % 4294967296 = 0) (fun _ i => (17 - i).toNat) ⟨by omega, Or.inl rfl, mF.refl, by
    show ((0 : Int) - 0) % 4294967296 = 0
    decide⟩ (by omega) ?_
  rintro rc z i m ⟨i0, i1, F0, hz⟩ ih z' i' m' e _ ri T F n en rn
  cases e
  have e10 : m 87 10 = μ 87 10 := F0.f (A_87 hw) rfl rfl
  rw [e10] at en
  subst en
  refine ⟨fun c3 _ _ _ => Or.inr ⟨⟨ht, hs⟩, ?_⟩, fun c3 z1 e1 r1 z2 e2 r2 => ?_⟩
  · rw [show i.toNat = (μ 87 10).toNat by omega] at hz
    exact hz
  have c90 : ∀ j, m 90 j = μ 90 j := fun j => F0.f (A_90 hw) rfl rfl
  have c91 : ∀ j, m 91 j = μ 91 j := fun j => F0.f (A_91 hw) rfl rfl
  obtain ⟨iN, rfl⟩ : ∃ n : Nat, i = (n : Int) := ⟨i.toNat, by omega⟩
  rw [Int.toNat_natCast] at e1 e2 hz
  rw [c90] at e1
  rw [c91] at e2
  have hfi := hf iN (by omega)
  obtain ⟨dn, rfl⟩ : ∃ d : Nat, z1 = (d : Int) := ⟨z1.toNat, by omega⟩
  have K : K2C w m y := h.fr hw hT (mX.ofF F0) rfl
  have st : lodN (ltG y) (μ 90) (μ 91) (μ 92) P R (iN + 1) = lodN (ltG y) (μ 90) (μ 91) (μ 92) P R iN + prS (ltG y z2 (dn : Int)).2 P R (μ 92 iN) := by
    rw [← e1, ← e2]
    rfl
  refine X2_travel_s hw T K k u (by omega) fun m2 T2 F2 l6 lr _ _ _ => ?_
  have ln : 0 < (ltG y z2 (dn : Int)).2.length := goL.ne _ _ _
  have l6 : m2 87 6 = ((ltG y z2 (dn : Int)).2.length : Int) := l6
  have lr : rowL (m2 88) (ltG y z2 (dn : Int)).2.length = (ltG y z2 (dn : Int)).2 := lr
  have F3 : mF [87006, 88999] w μ m2 := F0.call F2 rfl
  have e92 : m2 92 iN = μ 92 iN := F3.f (A_92 hw) rfl rfl
  have ps : prS (ltG y z2 (dn : Int)).2 P R (μ 92 iN) = prN (m2 88) P R (μ 92 iN) ((ltG y z2 (dn : Int)).2.length - 1) := (prN.cg _ fun j hj => row_at lr (by omega)).symm
  refine loopF.ii (fun v j => 0 ≤ j ∧ j + 1 ≤ ((ltG y z2 (dn : Int)).2.length : Int) ∧ (v - (lodN (ltG y) (μ 90) (μ 91) (μ 92) P R iN + prN (m2 88) P R (μ 92 iN) j.toNat)) % 4294967296 = 0) (fun _ j => (11 - j).toNat) ⟨by omega, by omega, by
    show (z - (lodN (ltG y) (μ 90) (μ 91) (μ 92) P R iN + 0)) % 4294967296 = 0
    omega⟩ (by omega) ?_
  rintro r2 v j ⟨j0, j1, hv⟩ ih2 v' j' e3 _ rj nn enn rnn
  cases e3
  rw [l6] at enn
  subst enn
  refine ⟨fun c4 => ih _ _ _ ⟨by omega, by omega, F3, ?_⟩ (by omega), fun c4 x1 ex1 rx1 => ?_⟩
  · rw [show ((iN : Int) + 1).toNat = iN + 1 by omega, st, ps, show (ltG y z2 (dn : Int)).2.length - 1 = j.toNat by omega]
    exact hv
  have ps2 : prN (m2 88) P R (μ 92 iN) (j + 1).toNat = prN (m2 88) P R (μ 92 iN) j.toNat + (if m2 88 j.toNat = P ∧ m2 88 (j + 1).toNat = R then μ 92 iN else 0) := by
    rw [show (j + 1).toNat = j.toNat + 1 by omega]
    rfl
  refine ⟨fun c5 => ih2 _ _ ⟨by omega, by omega, ?_⟩ (by omega), fun c5 x2 ex2 rx2 => ⟨fun c6 => ih2 _ _ ⟨by omega, by omega, ?_⟩ (by omega), fun c6 x3 ex3 rx3 x4 rx4 ex4 => ih2 _ _ ⟨by omega, by omega, ?_⟩ (by omega)⟩⟩
  · rw [ps2, if_neg fun g => c5 (ex1.symm.trans g.1)]
    omega
  · rw [ps2, if_neg fun g => c6 (ex2.symm.trans g.2)]
    omega
  · rw [Int.toNat_natCast, e92] at ex3
    rw [ps2, if_pos ⟨ex1.trans c5, ex2.trans c6⟩]
    omega
theorem R_loadA {t0 s0 : Int} (hw : mWF w) (hT : mT w μ) (h : K2R μ y) (k : K2X y) (u : upI (xE (yX y)) (xS (yX y))) (hf : ∀ i : Nat, (i : Int) < μ 106 109 → 0 ≤ μ 177 i ∧ μ 177 i < (eD (xE (yX y)) : Int)) : WP_X12_load_W w μ t0 s0 (fun z m => loQ (xE (yX y)) t0 s0 (lodN (ltG y) (μ 177) (μ 178) (μ 179) (eN (xE (yX y)) t0.toNat s0.toNat) (eN (xE (yX y)) t0.toNat (1 - s0.toNat)) (μ 106 109).toNat) z) := by
  have ev := h.1.env (w := w) hw k.1
  intro n0 en0 rn0
  refine X12_isTie_s ev fun z hz rz => ⟨fun q => Or.inl ⟨fun g => ?_, rfl⟩, fun q => X12_in_s fun z2 hz2 rz2 => ⟨fun q2 => ?_, fun q2 => Or.inl ⟨fun g => ?_, rfl⟩⟩⟩
  · have := hz.mpr g.1
    omega
  rotate_left 1
  · have := hz2.mpr g.2
    omega
  have ht := hz.mp (by omega)
  have hs := hz2.mp (by omega)
  obtain ⟨t, rfl⟩ : ∃ n : Nat, t0 = (n : Int) := ⟨t0.toNat, by omega⟩
  obtain ⟨s, rfl⟩ : ∃ n : Nat, s0 = (n : Int) := ⟨s0.toNat, by omega⟩
  rw [Int.toNat_natCast, Int.toNat_natCast]
  obtain ⟨a1, a2, _⟩ := ev.2.2.2.1 t (by omega)
  have b1 : μ 110 (2 * (t : Int) + (s : Int)).toNat = eN (xE (yX y)) t s := by
    unfold eN
    by_cases c : s = 0
    · rw [if_pos c, show (2 * (t : Int) + (s : Int)).toNat = 2 * t by omega]; exact a1
    · rw [if_neg c, show (2 * (t : Int) + (s : Int)).toNat = 2 * t + 1 by omega]; exact a2
  have b2 : μ 110 (2 * (t : Int) + 1 - (s : Int)).toNat = eN (xE (yX y)) t (1 - s) := by
    unfold eN
    by_cases c : s = 0
    · rw [if_neg (by omega), show (2 * (t : Int) + 1 - (s : Int)).toNat = 2 * t + 1 by omega]; exact a2
    · rw [if_pos (by omega), show (2 * (t : Int) + 1 - (s : Int)).toNat = 2 * t by omega]; exact a1
  generalize eN (xE (yX y)) t s = P at b1 ⊢
  generalize eN (xE (yX y)) t (1 - s) = R at b2 ⊢
  refine loopF.iim (fun z i m => 0 ≤ i ∧ (i = 0 ∨ i ≤ μ 106 109) ∧ mF [106106, 175999] w μ m ∧ (z - lodN (ltG y) (μ 177) (μ 178) (μ 179) P R i.toNat) % 4294967296 = 0) (fun _ i => (17 - i).toNat) ⟨by omega, Or.inl rfl, mF.refl, by
    show ((0 : Int) - 0) % 4294967296 = 0
    decide⟩ (by omega) ?_
  rintro rc z i m ⟨i0, i1, F0, hz⟩ ih z' i' m' e _ ri T F n en rn
  cases e
  have e10 : m 106 109 = μ 106 109 := F0.f (A_106 hw) rfl rfl
  rw [e10] at en
  subst en
  refine ⟨fun c3 => Or.inr ⟨⟨ht, hs⟩, ?_⟩, fun c3 z1 e1 r1 z2 e2 r2 => ?_⟩
  · rw [show i.toNat = (μ 106 109).toNat by omega] at hz
    exact hz
  have c90 : ∀ j, m 177 j = μ 177 j := fun j => F0.f (A_177 hw) rfl rfl
  have c91 : ∀ j, m 178 j = μ 178 j := fun j => F0.f (A_178 hw) rfl rfl
  obtain ⟨iN, rfl⟩ : ∃ n : Nat, i = (n : Int) := ⟨i.toNat, by omega⟩
  rw [Int.toNat_natCast] at e1 e2 hz
  rw [c90] at e1
  rw [c91] at e2
  have hfi := hf iN (by omega)
  obtain ⟨dn, rfl⟩ : ∃ d : Nat, z1 = (d : Int) := ⟨z1.toNat, by omega⟩
  have K : K2R m y := h.fr hw hT (mX.ofF F0) rfl
  have st : lodN (ltG y) (μ 177) (μ 178) (μ 179) P R (iN + 1) = lodN (ltG y) (μ 177) (μ 178) (μ 179) P R iN + prS (ltG y z2 (dn : Int)).2 P R (μ 179 iN) := by
    rw [← e1, ← e2]
    rfl
  refine X12_goes_s hw T K k u (by omega) fun m2 T2 F2 l6 lr _ _ _ => ?_
  have ln : 0 < (ltG y z2 (dn : Int)).2.length := goL.ne _ _ _
  have l6 : m2 106 106 = ((ltG y z2 (dn : Int)).2.length : Int) := l6
  have lr : rowL (m2 175) (ltG y z2 (dn : Int)).2.length = (ltG y z2 (dn : Int)).2 := lr
  have F3 : mF [106106, 175999] w μ m2 := F0.call F2 rfl
  have e92 : m2 179 iN = μ 179 iN := F3.f (A_179 hw) rfl rfl
  have e110 : ∀ j, m2 110 j = μ 110 j := fun j => F3.f (A_110 hw) rfl rfl
  have ps : prS (ltG y z2 (dn : Int)).2 P R (μ 179 iN) = prN (m2 175) P R (μ 179 iN) ((ltG y z2 (dn : Int)).2.length - 1) := (prN.cg _ fun j hj => row_at lr (by omega)).symm
  refine loopF.ii (fun v j => 0 ≤ j ∧ j + 1 ≤ ((ltG y z2 (dn : Int)).2.length : Int) ∧ (v - (lodN (ltG y) (μ 177) (μ 178) (μ 179) P R iN + prN (m2 175) P R (μ 179 iN) j.toNat)) % 4294967296 = 0) (fun _ j => (12 - j).toNat) ⟨by omega, by omega, by
    show (z - (lodN (ltG y) (μ 177) (μ 178) (μ 179) P R iN + 0)) % 4294967296 = 0
    omega⟩ (by omega) ?_
  rintro r2 v j ⟨j0, j1, hv⟩ ih2 v' j' e3 _ rj nn enn rnn
  cases e3
  rw [l6] at enn
  subst enn
  refine ⟨fun c4 => ih _ _ _ ⟨by omega, by omega, F3, ?_⟩ (by omega), fun c4 x1 ex1 rx1 xa exa rxa => ?_⟩
  · rw [show ((iN : Int) + 1).toNat = iN + 1 by omega, st, ps, show (ltG y z2 (dn : Int)).2.length - 1 = j.toNat by omega]
    exact hv
  rw [e110, b1] at exa
  have ps2 : prN (m2 175) P R (μ 179 iN) (j + 1).toNat = prN (m2 175) P R (μ 179 iN) j.toNat + (if m2 175 j.toNat = P ∧ m2 175 (j + 1).toNat = R then μ 179 iN else 0) := by
    rw [show (j + 1).toNat = j.toNat + 1 by omega]
    rfl
  refine ⟨fun c5 => ih2 _ _ ⟨by omega, by omega, ?_⟩ (by omega), fun c5 x2 ex2 rx2 xb exb rxb => ?_⟩
  · rw [ps2, if_neg fun g => c5 (ex1.symm.trans (g.1.trans exa))]
    omega
  rw [e110, b2] at exb
  refine ⟨fun c6 => ih2 _ _ ⟨by omega, by omega, ?_⟩ (by omega), fun c6 x3 ex3 rx3 x4 rx4 ex4 => ih2 _ _ ⟨by omega, by omega, ?_⟩ (by omega)⟩
  · rw [ps2, if_neg fun g => c6 (ex2.symm.trans (g.2.trans exb))]
    omega
  · rw [Int.toNat_natCast, e92] at ex3
    rw [ps2, if_pos ⟨ex1.trans (c5.trans exa.symm), ex2.trans (c6.trans exb.symm)⟩]
    omega
end Units
section Law4
variable {μ m : mM}
theorem DMx.lod {g : Int → Int → Int × List Int} {p q : Int} (h : DMx m) (c0 : m 87 10 = μ 87 10) (e1 : ∀ i, m 90 i = μ 90 i) (e2 : ∀ i, m 91 i = μ 91 i) (e3 : ∀ i, m 92 i = μ 92 i) : lodN g (m 177) (m 178) (m 179) p q (m 106 109).toNat = lodN g (μ 90) (μ 91) (μ 92) p q (μ 87 10).toNat := by
  rw [← h.1, c0]
  refine lodN.cg _ fun i hi => ?_
  obtain ⟨a, b, c⟩ := h.2 i (by omega)
  exact ⟨a.symm.trans (e1 i), b.symm.trans (e2 i), c.symm.trans (e3 i)⟩
theorem DMx.unt {g : Int → Int → Int × List Int} {o : Int} (h : DMx m) (c0 : m 87 10 = μ 87 10) (e1 : ∀ i, m 90 i = μ 90 i) (e2 : ∀ i, m 91 i = μ 91 i) (e3 : ∀ i, m 92 i = μ 92 i) : untN g (m 177) (m 178) (m 179) o (m 106 109).toNat = untN g (μ 90) (μ 91) (μ 92) o (μ 87 10).toNat := by
  rw [← h.1, c0]
  refine untN.cg _ fun i hi => ?_
  obtain ⟨a, b, c⟩ := h.2 i (by omega)
  exact ⟨a.symm.trans (e1 i), b.symm.trans (e2 i), c.symm.trans (e3 i)⟩
end Law4
end
section
/-! count: the answer. -/
/-- how many numbers below n stand in a list -/
def cnB (l : List Nat) : Nat → Nat
  | 0 => 0
  | n + 1 => cnB l n + (if n ∈ l then 1 else 0)
theorem cnB.cons {a : Nat} {l : List Nat} (h : ¬ a ∈ l) : ∀ n, cnB (a :: l) n = cnB l n + (if a < n then 1 else 0)
  | 0 => rfl
  | n + 1 => by
    have ih := cnB.cons h n
    show cnB (a :: l) n + (if n ∈ a :: l then 1 else 0) = cnB l n + (if n ∈ l then 1 else 0) + (if a < n + 1 then 1 else 0)
    rw [ih]
    by_cases e : n = a
    · subst e
      rw [if_pos (show n ∈ n :: l from List.mem_cons_self), if_neg h, if_neg (by omega), if_pos (by omega)]
    · by_cases c : n ∈ l
      · rw [if_pos (show n ∈ a :: l from List.mem_cons_of_mem _ c), if_pos c]
        by_cases d : a < n
        · rw [if_pos d, if_pos (by omega)]
        · rw [if_neg d, if_neg (by omega)]
      · rw [if_neg (show ¬ n ∈ a :: l from fun q => (List.mem_cons.mp q).elim e c), if_neg c]
        by_cases d : a < n
        · rw [if_pos d, if_pos (by omega)]
        · rw [if_neg d, if_neg (by omega)]
theorem cnB.zip : ∀ n, cnB [] n = 0
  | 0 => rfl
  | n + 1 => by
    show cnB [] n + (if n ∈ ([] : List Nat) then 1 else 0) = 0
    rw [cnB.zip n, if_neg (fun q => by cases q)]
theorem cnB.all {n : Nat} : ∀ {l : List Nat}, l.Nodup → (∀ x ∈ l, x < n) → cnB l n = l.length
  | [], _, _ => cnB.zip n
  | a :: l, h, hx => by
    obtain ⟨h1, h2⟩ := List.nodup_cons.mp h
    rw [cnB.cons h1, cnB.all h2 fun x hx' => hx x (List.mem_cons_of_mem _ hx'), if_pos (hx a List.mem_cons_self)]
    rfl
theorem cnB.le (l : List Nat) : ∀ n, cnB l n ≤ n
  | 0 => Nat.le_refl _
  | n + 1 => by
    have := cnB.le l n
    show cnB l n + (if n ∈ l then 1 else 0) ≤ n + 1
    by_cases c : n ∈ l
    · rw [if_pos c]; omega
    · rw [if_neg c]; omega
/-- what count answers -/
def ctQ (y : S2) (pl dm tp wy k z : Int) : Prop := (k = 0 ∧ z = (eP (xE (yX y)) : Int)) ∨ (k = 1 ∧ z = (eD (xE (yX y)) : Int)) ∨ (k = 2 ∧ z = (eT (xE (yX y)) : Int)) ∨ (k = 3 ∧ z = (gN (yR y) : Int)) ∨ (k = 4 ∧ z = pl) ∨ (k = 5 ∧ z = dm) ∨ (k = 6 ∧ z = tp) ∨ (k = 7 ∧ z = sCk (xS (yX y))) ∨ (k = 8 ∧ z = ((sQu (xS (yX y))).length : Int)) ∨ (k = 9 ∧ (z - sDn (xS (yX y))) % 4294967296 = 0 ∧ -2147483648 ≤ z ∧ z ≤ 2147483647) ∨ (k = 10 ∧ z = wy) ∨ (k = 11 ∧ z = yD y) ∨ (¬ (0 ≤ k ∧ k ≤ 11) ∧ z = -1)
theorem ctQ.eq {y : S2} {pl dm tp wy k z z' : Int} (h : ctQ y pl dm tp wy k z) (h' : ctQ y pl dm tp wy k z') : z = z' := by
  unfold ctQ at h h'
  rcases h with ⟨a, b⟩ | ⟨a, b⟩ | ⟨a, b⟩ | ⟨a, b⟩ | ⟨a, b⟩ | ⟨a, b⟩ | ⟨a, b⟩ | ⟨a, b⟩ | ⟨a, b⟩ | ⟨a, b⟩ | ⟨a, b⟩ | ⟨a, b⟩ | ⟨a, b⟩ <;> rcases h' with ⟨c, d⟩ | ⟨c, d⟩ | ⟨c, d⟩ | ⟨c, d⟩ | ⟨c, d⟩ | ⟨c, d⟩ | ⟨c, d⟩ | ⟨c, d⟩ | ⟨c, d⟩ | ⟨c, d⟩ | ⟨c, d⟩ | ⟨c, d⟩ | ⟨c, d⟩ <;> omega
section Cnt
variable {w : mW} {μ m : mM} {y : S2}
theorem ctQ.mk {pl dm tp wy k z : Int} (h0 : k = 0 → z = (eP (xE (yX y)) : Int)) (h1 : k = 1 → z = (eD (xE (yX y)) : Int)) (h2 : k = 2 → z = (eT (xE (yX y)) : Int)) (h3 : k = 3 → z = (gN (yR y) : Int)) (h4 : k = 4 → z = pl) (h5 : k = 5 → z = dm) (h6 : k = 6 → z = tp) (h7 : k = 7 → z = sCk (xS (yX y))) (h8 : k = 8 → z = ((sQu (xS (yX y))).length : Int)) (h9 : k = 9 → (z - sDn (xS (yX y))) % 4294967296 = 0 ∧ -2147483648 ≤ z ∧ z ≤ 2147483647) (h10 : k = 10 → z = wy) (h11 : k = 11 → z = yD y) (h12 : ¬ (0 ≤ k ∧ k ≤ 11) → z = -1) : ctQ y pl dm tp wy k z := by
  unfold ctQ
  by_cases c0 : k = 0
  · exact Or.inl ⟨c0, h0 c0⟩
  refine Or.inr ?_
  by_cases c1 : k = 1
  · exact Or.inl ⟨c1, h1 c1⟩
  refine Or.inr ?_
  by_cases c2 : k = 2
  · exact Or.inl ⟨c2, h2 c2⟩
  refine Or.inr ?_
  by_cases c3 : k = 3
  · exact Or.inl ⟨c3, h3 c3⟩
  refine Or.inr ?_
  by_cases c4 : k = 4
  · exact Or.inl ⟨c4, h4 c4⟩
  refine Or.inr ?_
  by_cases c5 : k = 5
  · exact Or.inl ⟨c5, h5 c5⟩
  refine Or.inr ?_
  by_cases c6 : k = 6
  · exact Or.inl ⟨c6, h6 c6⟩
  refine Or.inr ?_
  by_cases c7 : k = 7
  · exact Or.inl ⟨c7, h7 c7⟩
  refine Or.inr ?_
  by_cases c8 : k = 8
  · exact Or.inl ⟨c8, h8 c8⟩
  refine Or.inr ?_
  by_cases c9 : k = 9
  · exact Or.inl ⟨c9, h9 c9⟩
  refine Or.inr ?_
  by_cases c10 : k = 10
  · exact Or.inl ⟨c10, h10 c10⟩
  refine Or.inr ?_
  by_cases c11 : k = 11
  · exact Or.inl ⟨c11, h11 c11⟩
  exact Or.inr ⟨by omega, h12 (by omega)⟩
theorem C_countA {k0 : Int} (hw : mWF w) (hT : mT w μ) (h : K2C w μ y) (k : K2X y) : WP_X11_count_W w μ k0 (fun z _ => ctQ y (μ 21 8) (μ 87 10) (μ 0 10) (μ 0 11) k0 z) := by
  have ev := h.1.env hw hT k.1
  have st := h.1.2.2.2.2.1
  have e17 : μ 6 17 = (gN (yR y) : Int) := h.2.1.1
  have e18 : μ 6 18 = yD y := h.2.2.1
  have e10 : 0 ≤ μ 32 10 → μ 32 10 = ((sQu (xS (yX y))).length : Int) := fun g => by
    have q := congrArg List.length st.2.2.1
    have q2 : (evC μ).length = (μ 32 10).toNat := by
      unfold evC
      rw [List.length_map, List.length_range]
    omega
  have g1 := ev.1
  have g2 := ev.2.1
  have g3 := ev.2.2.1
  have g4 := st.2.2.2.2.1
  have g5 := st.2.2.2.2.2.1
  have mk : ∀ z : Int, (k0 = 0 → z = μ 6 14) → (k0 = 1 → z = μ 6 15) → (k0 = 2 → z = μ 6 16) → (k0 = 3 → z = μ 6 17) → (k0 = 4 → z = μ 21 8) → (k0 = 5 → z = μ 87 10) → (k0 = 6 → z = μ 0 10) → (k0 = 7 → z = μ 32 11) → (k0 = 8 → z = μ 32 10 ∧ 0 ≤ z) → (k0 = 9 → z = μ 32 12 ∧ -2147483648 ≤ z ∧ z ≤ 2147483647) → (k0 = 10 → z = μ 0 11) → (k0 = 11 → z = μ 6 18) → (¬ (0 ≤ k0 ∧ k0 ≤ 11) → z = -1) → ctQ y (μ 21 8) (μ 87 10) (μ 0 10) (μ 0 11) k0 z := fun z h0 h1 h2 h3 h4 h5 h6 h7 h8 h9 h10 h11 h12 => ctQ.mk (fun c => (h0 c).trans g2) (fun c => (h1 c).trans g3) (fun c => (h2 c).trans g1) (fun c => (h3 c).trans e17) h4 h5 h6 (fun c => (h7 c).trans g4) (fun c => by
    obtain ⟨a, b⟩ := h8 c
    rw [a]
    exact e10 (by omega)) (fun c => by
    obtain ⟨a, b⟩ := h9 c
    rw [a]
    rw [a] at b
    exact ⟨g5, b⟩) h10 (fun c => (h11 c).trans e18) h12
  refine ⟨fun c z e r => mk z ?_ ?_ ?_ ?_ ?_ ?_ ?_ ?_ ?_ ?_ ?_ ?_ ?_, fun n0 => ⟨fun c z e r => mk z ?_ ?_ ?_ ?_ ?_ ?_ ?_ ?_ ?_ ?_ ?_ ?_ ?_, fun n1 => ⟨fun c z e r => mk z ?_ ?_ ?_ ?_ ?_ ?_ ?_ ?_ ?_ ?_ ?_ ?_ ?_, fun n2 => ⟨fun c z e r => mk z ?_ ?_ ?_ ?_ ?_ ?_ ?_ ?_ ?_ ?_ ?_ ?_ ?_, fun n3 => ⟨fun c z e r => mk z ?_ ?_ ?_ ?_ ?_ ?_ ?_ ?_ ?_ ?_ ?_ ?_ ?_, fun n4 => ⟨fun c z e r => mk z ?_ ?_ ?_ ?_ ?_ ?_ ?_ ?_ ?_ ?_ ?_ ?_ ?_, fun n5 => ⟨fun c z e r => mk z ?_ ?_ ?_ ?_ ?_ ?_ ?_ ?_ ?_ ?_ ?_ ?_ ?_, fun n6 => ⟨fun c z e r => mk z ?_ ?_ ?_ ?_ ?_ ?_ ?_ ?_ ?_ ?_ ?_ ?_ ?_, fun n7 => ⟨fun c z e r => mk z ?_ ?_ ?_ ?_ ?_ ?_ ?_ ?_ ?_ ?_ ?_ ?_ ?_, fun n8 => ⟨fun c z e r => mk z ?_ ?_ ?_ ?_ ?_ ?_ ?_ ?_ ?_ ?_ ?_ ?_ ?_, fun n9 => ⟨fun c z e r => mk z ?_ ?_ ?_ ?_ ?_ ?_ ?_ ?_ ?_ ?_ ?_ ?_ ?_, fun n10 => ⟨fun c z e r => mk z ?_ ?_ ?_ ?_ ?_ ?_ ?_ ?_ ?_ ?_ ?_ ?_ ?_, fun n11 => mk (-1) ?_ ?_ ?_ ?_ ?_ ?_ ?_ ?_ ?_ ?_ ?_ ?_ ?_⟩⟩⟩⟩⟩⟩⟩⟩⟩⟩⟩⟩ <;> intro q <;> omega
theorem R_countA {k0 : Int} (hw : mWF w) (hT : mT w μ) (h : K2R μ y) (k : K2X y) : WP_X12_count_W w μ k0 (fun z _ => ctQ y (μ 106 39) (μ 106 109) (μ 106 1) (μ 106 15) k0 z) := by
  have ev := h.1.env (w := w) hw k.1
  have st := h.1.2.2.2.2.1
  have e17 : μ 106 18 = (gN (yR y) : Int) := h.2.1.1
  have e18 : μ 106 17 = yD y := h.2.2
  have qu := st.2.2.1
  have g1 := ev.1
  have g2 := ev.2.1
  have g3 := ev.2.2.1
  have g4 := st.2.2.2.1
  have g5 := st.2.2.2.2.1
  have nd := k.1.1.2.2.2.2.1
  have hin : ∀ e, e < 800 → (e ∈ (sQu (xS (yX y))).map (·.2) ↔ 0 ≤ atR μ e) := fun e he => by
    constructor
    · intro q
      obtain ⟨x, hx, ex⟩ := List.mem_map.mp q
      obtain ⟨_, a, b, _⟩ := qu.2.1 x hx
      rw [← ex, a]
      exact b
    · intro q
      exact List.mem_map.mpr ⟨_, qu.1 e he q, rfl⟩
  have e8 : cnB ((sQu (xS (yX y))).map (·.2)) 800 = (sQu (xS (yX y))).length := (cnB.all nd fun x hx => by
    obtain ⟨q, hq, e⟩ := List.mem_map.mp hx
    rw [← e]
    exact (qu.2.1 q hq).1).trans (List.length_map _)
  have mk : ∀ z : Int, (k0 = 0 → z = μ 106 2) → (k0 = 1 → z = μ 106 5) → (k0 = 2 → z = μ 106 6) → (k0 = 3 → z = μ 106 18) → (k0 = 4 → z = μ 106 39) → (k0 = 5 → z = μ 106 109) → (k0 = 6 → z = μ 106 1) → (k0 = 7 → z = μ 106 71) → (k0 = 8 → z = ((sQu (xS (yX y))).length : Int)) → (k0 = 9 → z = μ 106 73 ∧ -2147483648 ≤ z ∧ z ≤ 2147483647) → (k0 = 10 → z = μ 106 15) → (k0 = 11 → z = μ 106 17) → (¬ (0 ≤ k0 ∧ k0 ≤ 11) → z = -1) → ctQ y (μ 106 39) (μ 106 109) (μ 106 1) (μ 106 15) k0 z := fun z h0 h1 h2 h3 h4 h5 h6 h7 h8 h9 h10 h11 h12 => ctQ.mk (fun c => (h0 c).trans g2) (fun c => (h1 c).trans g3) (fun c => (h2 c).trans g1) (fun c => (h3 c).trans e17) h4 h5 h6 (fun c => (h7 c).trans g4) h8 (fun c => by
    obtain ⟨a, b⟩ := h9 c
    rw [a]
    rw [a] at b
    exact ⟨g5, b⟩) h10 (fun c => (h11 c).trans e18) h12
  have b0 : ∀ s : Nat, atR μ (2 * s) = μ 157 s := fun s => by
    unfold atR
    rw [if_pos (by omega), show 2 * s / 2 = s by omega]
  have b1 : ∀ s : Nat, atR μ (2 * s + 1) = μ 159 s := fun s => by
    unfold atR
    rw [if_neg (by omega), show (2 * s + 1) / 2 = s by omega]
  refine loopF.ii (fun z s => 0 ≤ s ∧ s ≤ 400 ∧ z = (cnB ((sQu (xS (yX y))).map (·.2)) (2 * s.toNat) : Int)) (fun _ s => (401 - s).toNat) ⟨by omega, by omega, rfl⟩ (by omega) ?_
  rintro rc z s ⟨s0, s1, hz⟩ ih z' s' e rz rs
  cases e
  have le := cnB.le ((sQu (xS (yX y))).map (·.2)) (2 * s.toNat)
  refine ⟨fun c => ?_, fun c v1 e1 r1 => ?_⟩
  · have z8 : z = ((sQu (xS (yX y))).length : Int) := by
      rw [hz, show 2 * s.toNat = 800 by omega, e8]
    refine ⟨fun c z e r => mk z ?_ ?_ ?_ ?_ ?_ ?_ ?_ ?_ ?_ ?_ ?_ ?_ ?_, fun n0 => ⟨fun c z e r => mk z ?_ ?_ ?_ ?_ ?_ ?_ ?_ ?_ ?_ ?_ ?_ ?_ ?_, fun n1 => ⟨fun c z e r => mk z ?_ ?_ ?_ ?_ ?_ ?_ ?_ ?_ ?_ ?_ ?_ ?_ ?_, fun n2 => ⟨fun c z e r => mk z ?_ ?_ ?_ ?_ ?_ ?_ ?_ ?_ ?_ ?_ ?_ ?_ ?_, fun n3 => ⟨fun c z e r => mk z ?_ ?_ ?_ ?_ ?_ ?_ ?_ ?_ ?_ ?_ ?_ ?_ ?_, fun n4 => ⟨fun c z e r => mk z ?_ ?_ ?_ ?_ ?_ ?_ ?_ ?_ ?_ ?_ ?_ ?_ ?_, fun n5 => ⟨fun c z e r => mk z ?_ ?_ ?_ ?_ ?_ ?_ ?_ ?_ ?_ ?_ ?_ ?_ ?_, fun n6 => ⟨fun c z e r => mk z ?_ ?_ ?_ ?_ ?_ ?_ ?_ ?_ ?_ ?_ ?_ ?_ ?_, fun n7 => ⟨fun c => mk z ?_ ?_ ?_ ?_ ?_ ?_ ?_ ?_ ?_ ?_ ?_ ?_ ?_, fun n8 => ⟨fun c z e r => mk z ?_ ?_ ?_ ?_ ?_ ?_ ?_ ?_ ?_ ?_ ?_ ?_ ?_, fun n9 => ⟨fun c z e r => mk z ?_ ?_ ?_ ?_ ?_ ?_ ?_ ?_ ?_ ?_ ?_ ?_ ?_, fun n10 => ⟨fun c z e r => mk z ?_ ?_ ?_ ?_ ?_ ?_ ?_ ?_ ?_ ?_ ?_ ?_ ?_, fun n11 => mk (-1) ?_ ?_ ?_ ?_ ?_ ?_ ?_ ?_ ?_ ?_ ?_ ?_ ?_⟩⟩⟩⟩⟩⟩⟩⟩⟩⟩⟩⟩ <;> intro q <;> omega
  have i0 := hin (2 * s.toNat) (by omega)
  have i1 := hin (2 * s.toNat + 1) (by omega)
  rw [b0, e1] at i0
  rw [b1] at i1
  have step : cnB ((sQu (xS (yX y))).map (·.2)) (2 * (s + 1).toNat) = cnB ((sQu (xS (yX y))).map (·.2)) (2 * s.toNat) + (if 2 * s.toNat ∈ (sQu (xS (yX y))).map (·.2) then 1 else 0) + (if 2 * s.toNat + 1 ∈ (sQu (xS (yX y))).map (·.2) then 1 else 0) := by
    rw [show 2 * (s + 1).toNat = 2 * s.toNat + 1 + 1 by omega]
    rfl
  have J : ∀ g : Int, ((g = 0 ∧ ¬ 2 * s.toNat ∈ (sQu (xS (yX y))).map (·.2)) ∨ (g = 1 ∧ 2 * s.toNat ∈ (sQu (xS (yX y))).map (·.2))) → WJ_X12_count_W_2 μ rc z s g := by
    intro g hg rg v2 e2 r2
    rw [e2] at i1
    have sg : (g : Int) = ((if 2 * s.toNat ∈ (sQu (xS (yX y))).map (·.2) then 1 else 0 : Nat) : Int) := by
      rcases hg with ⟨a, b⟩ | ⟨a, b⟩
      · rw [if_neg b, a]; rfl
      · rw [if_pos b, a]; rfl
    refine ⟨fun c2 z2 r3 e3 => ih _ _ ⟨by omega, by omega, ?_⟩ (by omega), fun c2 z2 r3 e3 => ih _ _ ⟨by omega, by omega, ?_⟩ (by omega)⟩
    · have i1n : ¬ 2 * s.toNat + 1 ∈ (sQu (xS (yX y))).map (·.2) := fun q => by
        have := i1.mp q
        omega
      rw [step, if_neg i1n]
      omega
    · rw [step, if_pos (i1.mpr c2)]
      omega
  refine ⟨fun c2 => J 0 (Or.inl ⟨rfl, fun q => ?_⟩), fun c2 => J 1 (Or.inr ⟨rfl, i0.mpr c2⟩)⟩
  have := i0.mp q
  omega
end Cnt
end
section
/-! The law's relation with demands beside it. -/
abbrev K4 (w : mW) (μ : mM) (L : Int) : Prop := K3 w μ L ∧ DMx μ
theorem K4.zero {w : mW} {μ : mM} (h : K3 w μ 0) (a : μ 87 10 = 0) (b : μ 106 109 = 0) : K4 w μ 0 := ⟨h, a.trans b.symm, fun i hi => by
  rw [a] at hi
  omega⟩
end
