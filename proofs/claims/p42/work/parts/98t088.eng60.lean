section
/-! A new tie. -/
section TieOf
variable {w : mW} {μ : mM} {E : En} {G : mM → Prop}
theorem X12_tieOf_s {a b : Int} {Q : Int → mM → Prop} (ev : envR w μ E G) (k0 : (∀ t, t < eT E → ¬ btw E a b t) → Q (-99999999) μ) (k1 : ∀ t, t < eT E → btw E a b t → Q (t : Int) μ) : WP_X12_tieOf_W w μ a b Q := by
  have e1 := ev.1
  refine loopF.i (fun z => 0 ≤ z ∧ z ≤ (eT E : Int) ∧ ∀ t : Nat, (t : Int) < z → ¬ btw E a b t) (fun z => (21 - z).toNat) ⟨by omega, by omega, fun t h => by omega⟩ (by omega) ?_
  rintro rc z ⟨z0, z1, hz⟩ ih z' e rz n en rn
  cases e
  refine ⟨fun c => k0 fun t ht => hz t (by omega), fun c u eu ru => ?_⟩
  obtain ⟨zN, hzN⟩ : ∃ zN : Nat, z = (zN : Int) := ⟨z.toNat, by omega⟩
  subst hzN
  have zt : zN < eT E := by omega
  obtain ⟨a1, a2, _⟩ := ev.2.2.2.1 zN zt
  rw [show (2 * (zN : Int)).toNat = 2 * zN by omega, a1] at eu
  have go : ¬ btw E a b zN → rc ((zN : Int) + 1) := fun h => ih _ ⟨by omega, by omega, fun t ht => by
    by_cases c2 : t = zN
    · rw [c2]; exact h
    · exact hz t (by omega)⟩ (by omega)
  have v2 : ∀ v, μ 110 (2 * (zN : Int) + 1).toNat = v → eB E zN = v := fun v e => by
    rw [show (2 * (zN : Int) + 1).toNat = 2 * zN + 1 by omega, a2] at e
    exact e
  exact ⟨fun c2 => ⟨fun c3 => go fun h => by rcases h with h | h <;> omega, fun c3 v ev' _ => ⟨fun c4 => go fun h => by have := v2 v ev'; rcases h with h | h <;> omega, fun c4 => k1 zN zt (Or.inr ⟨by omega, by have := v2 v ev'; omega⟩)⟩⟩, fun c2 v ev' _ => ⟨fun c3 => k1 zN zt (Or.inl ⟨by omega, by have := v2 v ev'; omega⟩), fun c3 => ⟨fun c4 => go fun h => by have := v2 v ev'; rcases h with h | h <;> omega, fun c4 => ⟨fun c5 => go fun h => by have := v2 v ev'; rcases h with h | h <;> omega, fun c5 => k1 zN zt (Or.inr ⟨by omega, by have := v2 v ev'; omega⟩)⟩⟩⟩⟩
end TieOf
def tieO (E : En) (a b k : Int) : Prop := (0 ≤ a ∧ a < (eD E : Int)) ∧ (0 ≤ b ∧ b < (eD E : Int)) ∧ ¬ a = b ∧ (0 ≤ k ∧ k ≤ 2)
def ti! (E : En) (f : Int → Int → Int → Rt → Bool × Rt) (a b : Int) : En := (eT E + 1, up1 (eA E) (eT E) a, up1 (eB E) (eT E) b, up1 (eU E) (eT E) 1, up1 (eL E) (eT E) 1, up1 (eG E) (eT E) 0, fun i => if 4 * eT E ≤ i then -99999999 else ePl E i, f, eOw E, eSt E, eGr E, eP E, eD E)
def jt! (J : Ju) (a b k : Int) : Ju := (jP J, jA J, jL J, jV J, fun d q => if d = a ∧ q = b then roK k 0 else if d = b ∧ q = a then roK k 1 else jR J d q)
noncomputable def tiX (x : St) (a b k : Int) : St := (ti! (xE x) (thJ (jt! (xJ x) a b k)) a b, jt! (xJ x) a b k, xS x, xH x)
noncomputable def tiY (y : S2) (a b k : Int) : S2 := (tiX (yX y) a b k, yR y, yD y)
noncomputable def tie! (y : S2) (a b k : Int) : Int × S2 := cIf (tieO (xE (yX y)) a b k) (cIf (∃ t, t < eT (xE (yX y)) ∧ btw (xE (yX y)) a b t) (-2, y) (if eT (xE (yX y)) = 20 then (-3, y) else ((eT (xE (yX y)) : Int), tiY y a b k))) (-1, y)
theorem tie!.is {y : S2} {a b k : Int} (h1 : tieO (xE (yX y)) a b k) (h2 : ∀ t, t < eT (xE (yX y)) → ¬ btw (xE (yX y)) a b t) (h3 : ¬ eT (xE (yX y)) = 20) : tie! y a b k = ((eT (xE (yX y)) : Int), tiY y a b k) := (cIf.pos h1).trans ((cIf.neg fun ⟨t, q1, q2⟩ => h2 t q1 q2).trans (if_neg h3))
theorem tie!.full {y : S2} {a b k : Int} (h1 : tieO (xE (yX y)) a b k) (h2 : ∀ t, t < eT (xE (yX y)) → ¬ btw (xE (yX y)) a b t) (h3 : eT (xE (yX y)) = 20) : tie! y a b k = (-3, y) := (cIf.pos h1).trans ((cIf.neg fun ⟨t, q1, q2⟩ => h2 t q1 q2).trans (if_pos h3))
theorem tie!.two {y : S2} {a b k : Int} {t : Nat} (h1 : tieO (xE (yX y)) a b k) (h2 : t < eT (xE (yX y))) (h3 : btw (xE (yX y)) a b t) : tie! y a b k = (-2, y) := (cIf.pos h1).trans (cIf.pos ⟨t, h2, h3⟩)
theorem ti!.N {E : En} {f : Int → Int → Int → Rt → Bool × Rt} {a b : Int} {t s : Nat} (h : ¬ t = eT E) : eN (ti! E f a b) t s = eN E t s := by
  unfold eN
  show (if s = 0 then up1 (eA E) (eT E) a t else up1 (eB E) (eT E) b t) = if s = 0 then eA E t else eB E t
  rw [up1.ne h, up1.ne h]
theorem ti!.N0 {E : En} {f : Int → Int → Int → Rt → Bool × Rt} {a b : Int} : eN (ti! E f a b) (eT E) 0 = a := up1.at
theorem ti!.N1 {E : En} {f : Int → Int → Int → Rt → Bool × Rt} {a b : Int} : eN (ti! E f a b) (eT E) 1 = b := up1.at
/-- roles: those of the older ties stay, the new one has its own -/
theorem jt!.old {E : En} {J : Ju} {f : Int → Int → Int → Rt → Bool × Rt} {a b k : Int} {t s : Nat} (h : ∀ t, t < eT E → ¬ btw E a b t) (ht : t < eT E) (hs : s < 2) : jR (jt! J a b k) (eN (ti! E f a b) t s) (eN (ti! E f a b) t (1 - s)) = jR J (eN E t s) (eN E t (1 - s)) := by
  rw [ti!.N (by omega), ti!.N (by omega)]
  have g := h t ht
  have q : ∀ u v : Int, (u = eN E t s ∧ v = eN E t (1 - s)) → ¬ (u = a ∧ v = b) ∧ ¬ (u = b ∧ v = a) := by
    rintro u v ⟨rfl, rfl⟩
    unfold eN btw at *
    have s01 : s = 0 ∨ s = 1 := by omega
    rcases s01 with e | e
    · subst e
      rw [if_pos rfl, if_neg (by decide)]
      exact ⟨fun q => g (Or.inl q), fun q => g (Or.inr q)⟩
    · subst e
      rw [if_neg (by decide), if_pos (by decide)]
      exact ⟨fun q => g (Or.inr ⟨q.2, q.1⟩), fun q => g (Or.inl ⟨q.2, q.1⟩)⟩
  obtain ⟨q1, q2⟩ := q _ _ ⟨rfl, rfl⟩
  exact (if_neg q1).trans (if_neg q2)
theorem jt!.new {E : En} {J : Ju} {f : Int → Int → Int → Rt → Bool × Rt} {a b k : Int} {s : Nat} (hab : ¬ a = b) (hs : s < 2) : jR (jt! J a b k) (eN (ti! E f a b) (eT E) s) (eN (ti! E f a b) (eT E) (1 - s)) = roK k s := by
  have s01 : s = 0 ∨ s = 1 := by omega
  rcases s01 with e | e
  · subst e
    show jR (jt! J a b k) (eN (ti! E f a b) (eT E) 0) (eN (ti! E f a b) (eT E) 1) = roK k 0
    rw [ti!.N0, ti!.N1]
    exact if_pos ⟨rfl, rfl⟩
  · subst e
    show jR (jt! J a b k) (eN (ti! E f a b) (eT E) 1) (eN (ti! E f a b) (eT E) 0) = roK k 1
    rw [ti!.N0, ti!.N1]
    exact (if_neg fun q => hab q.1.symm).trans (if_pos ⟨rfl, rfl⟩)
theorem KX.ti {x : St} {a b k : Int} (h : KX x) (ok : tieO (xE x) a b k) (no : ∀ t, t < eT (xE x) → ¬ btw (xE x) a b t) (h20 : ¬ eT (xE x) = 20) : KX (tiX x a b k) := by
  obtain ⟨⟨s1, s2, s3, s4, s5, s6, s7, s8, s9, s0⟩, ⟨⟨t1, t2, t3, t4, t5⟩, ⟨h1, h2⟩, pa, ow, ub⟩, jo, jn, hE, ⟨ho, hm, hs, hp⟩, md, up⟩ := h
  have jo' : jOk (jt! (xJ x) a b k) := jo
  have jn' : jNg (jt! (xJ x) a b k) := jn
  refine ⟨⟨s1, s2, s3, s4, s5, fun e he => ?_, s7, s8, s9, s0⟩, ⟨⟨fun t ht => ?_, fun t s ht hs hne => ?_, by show eT (xE x) + 1 ≤ 20; omega, t4, t5⟩, ⟨fun pl d q r p g => thJ.good jo' jn' g, h2⟩, fun t ht => ?_, ow, ub⟩, jo', jn', rfl, ⟨ho, hm, fun j hj => hs j (by have hj : 20 * (eT (xE x) + 1) ≤ j := hj; omega), hp⟩, md, fun t => ?_⟩
  · obtain ⟨a1, a2, a3⟩ := s6 e he
    refine ⟨by show e.2 < 40 * (eT (xE x) + 1); omega, a2, ?_⟩
    show ¬ up1 (eU (xE x)) (eT (xE x)) 1 (e.2 / 40) = 0
    rw [up1.ne (by omega)]
    exact a3
  · have ht : t < eT (xE x) + 1 := ht
    show ¬ up1 (eA (xE x)) (eT (xE x)) a t = up1 (eB (xE x)) (eT (xE x)) b t ∧ (0 ≤ up1 (eA (xE x)) (eT (xE x)) a t ∧ up1 (eA (xE x)) (eT (xE x)) a t < (eD (xE x) : Int)) ∧ (0 ≤ up1 (eB (xE x)) (eT (xE x)) b t ∧ up1 (eB (xE x)) (eT (xE x)) b t < (eD (xE x) : Int))
    by_cases c : t = eT (xE x)
    · rw [c, up1.at, up1.at]
      exact ⟨ok.2.2.1, ok.1, ok.2.1⟩
    · rw [up1.ne c, up1.ne c]
      exact t1 t (by omega)
  · have ht : t < eT (xE x) + 1 := ht
    have hs : s < eT (xE x) + 1 := hs
    show ¬ ((up1 (eA (xE x)) (eT (xE x)) a t = up1 (eA (xE x)) (eT (xE x)) a s ∧ up1 (eB (xE x)) (eT (xE x)) b t = up1 (eB (xE x)) (eT (xE x)) b s) ∨ (up1 (eA (xE x)) (eT (xE x)) a t = up1 (eB (xE x)) (eT (xE x)) b s ∧ up1 (eB (xE x)) (eT (xE x)) b t = up1 (eA (xE x)) (eT (xE x)) a s))
    by_cases c : t = eT (xE x)
    · have cs : ¬ s = eT (xE x) := fun q => hne (c.trans q.symm)
      rw [c, up1.at, up1.at, up1.ne cs, up1.ne cs]
      have g := no s (by omega)
      unfold btw at g
      intro q
      rcases q with q | q
      · exact g (Or.inl ⟨q.1.symm, q.2.symm⟩)
      · exact g (Or.inr ⟨q.2.symm, q.1.symm⟩)
    · rw [up1.ne c, up1.ne c]
      by_cases cs : s = eT (xE x)
      · rw [cs, up1.at, up1.at]
        have g := no t (by omega)
        unfold btw at g
        exact g
      · rw [up1.ne cs, up1.ne cs]
        exact t2 t s (by omega) (by omega) hne
  · have ht : t < eT (xE x) + 1 := ht
    show 0 ≤ up1 (eG (xE x)) (eT (xE x)) 0 t ∧ 0 ≤ up1 (eL (xE x)) (eT (xE x)) 1 t
    by_cases c : t = eT (xE x)
    · rw [c, up1.at, up1.at]; decide
    · rw [up1.ne c, up1.ne c]; exact pa t (by omega)
  · show up1 (eU (xE x)) (eT (xE x)) 1 t = 0 ∨ up1 (eU (xE x)) (eT (xE x)) 1 t = 1
    by_cases c : t = eT (xE x)
    · rw [c, up1.at]; exact Or.inr rfl
    · rw [up1.ne c]; exact up t
theorem snR.ti {m : mM} {E : En} {S : Sn} {f : Int → Int → Int → Rt → Bool × Rt} {a b : Int} (h : snR m E S) (hT : eT E < 20) : snR m (ti! E f a b) S := ⟨fun s hs => h.1 s (Or.inr (by
  have hs : s < 20 * (eT E + 1) ∨ s < 400 := hs
  omega)), h.2.1, h.2.2⟩
section Tie
variable {w : mW} {μ : mM} {y : S2}
theorem X_tie {a b k : Int} (h : K2X y) : k2S y (tie! y a b k).2 := by
  by_cases c : tieO (xE (yX y)) a b k
  · by_cases c2 : ∃ t, t < eT (xE (yX y)) ∧ btw (xE (yX y)) a b t
    · have e : tie! y a b k = (-2, y) := (cIf.pos c).trans (cIf.pos c2)
      rw [e]; exact k2S.refl h
    have no : ∀ t, t < eT (xE (yX y)) → ¬ btw (xE (yX y)) a b t := fun t q1 q2 => c2 ⟨t, q1, q2⟩
    by_cases c3 : eT (xE (yX y)) = 20
    · rw [tie!.full c no c3]; exact k2S.refl h
    · rw [tie!.is c no c3]
      exact ⟨⟨h.1.ti c no c3, h.2.1, h.2.2.1, h.2.2.2.1, h.2.2.2.2⟩, Int.le_refl _, by show sMd (xS (yX y)) ≤ sMd (xS (yX y)) + 50000; omega⟩
  · have e : tie! y a b k = (-1, y) := cIf.neg c
    rw [e]; exact k2S.refl h
theorem R_tie {a b k : Int} (hw : mWF w) (hT : mT w μ) (h : K2R μ y) (kx : K2X y) : WP_X12_tie_W w μ a b k (fun z m => z = (tie! y a b k).1 ∧ K2R m (tie! y a b k).2) := by
  have ev := h.1.env (w := w) hw kx.1
  have t20 := kx.1.2.1.1.2.2.1
  have bad : ¬ tieO (xE (yX y)) a b k → -1 = (tie! y a b k).1 ∧ K2R μ (tie! y a b k).2 := fun q => by
    have e : tie! y a b k = (-1, y) := cIf.neg q
    rw [e]; exact ⟨rfl, h⟩
  intro _ _ _
  refine X12_isDomain_s ev fun z hz rz => ⟨fun c => bad fun g => by have := hz.mpr g.1; omega, fun c => X12_isDomain_s ev fun z2 hz2 rz2 => ⟨fun c2 => bad fun g => by have := hz2.mpr g.2.1; omega, fun c2 => ⟨fun c3 => bad fun g => g.2.2.1 c3, fun c3 => X12_in_s fun z3 hz3 rz3 => ⟨fun c4 => X12_tieOf_s ev (fun no _ => ⟨fun _ n en rn => ⟨fun c5 m1 u1 _ m2 u2 _ m3 u3 _ m4 u4 _ m5 u5 _ m6 u6 _ => ?_, fun c5 => ?_⟩, fun g => absurd rfl g⟩) (fun t ht hb _ => ⟨fun g => absurd g (by omega), fun _ => ?_⟩), fun c4 => bad fun g => by have := hz3.mpr g.2.2.2; omega⟩⟩⟩⟩
  rotate_left 1
  · rw [tie!.full ⟨hz.mp (by omega), hz2.mp (by omega), c3, hz3.mp (by omega)⟩ no (by have := ev.1; omega)]
    exact ⟨rfl, h⟩
  · rw [tie!.two ⟨hz.mp (by omega), hz2.mp (by omega), c3, hz3.mp (by omega)⟩ ht hb]
    exact ⟨rfl, h⟩
  have eT' : n = (eT (xE (yX y)) : Int) := en.symm.trans ev.1
  subst eT'
  have ok : tieO (xE (yX y)) a b k := ⟨hz.mp (by omega), hz2.mp (by omega), c3, hz3.mp (by omega)⟩
  have n20 : ¬ eT (xE (yX y)) = 20 := by omega
  rw [tie!.is ok no n20]
  rw [show (2 * ((eT (xE (yX y)) : Nat) : Int)).toNat = 2 * eT (xE (yX y)) by omega] at u1
  rw [show (2 * ((eT (xE (yX y)) : Nat) : Int) + 1).toNat = 2 * eT (xE (yX y)) + 1 by omega] at u2
  rw [Int.toNat_natCast] at u3 u4 u5 u6
  have f6 : ∀ b' i, ¬ (b' = 110 ∧ 2 * eT (xE (yX y)) ≤ i ∧ i ≤ 2 * eT (xE (yX y)) + 1) → ¬ ((111 ≤ b' ∧ b' ≤ 114) ∧ i = eT (xE (yX y))) → m6 b' i = μ b' i := fun b' i q1 q2 => by
    rw [u6.is, mUp.no (by omega), u5.is, mUp.no (by omega), u4.is, mUp.no (by omega), u3.is, mUp.no (by omega), u2.is, mUp.no (by omega), u1.is, mUp.no (by omega)]
  have a0 : m6 110 (2 * eT (xE (yX y))) = a := by
    rw [u6.is, mUp.no (by omega), u5.is, mUp.no (by omega), u4.is, mUp.no (by omega), u3.is, mUp.no (by omega), u2.is, mUp.no (by omega), u1.is, mUp.yes ⟨rfl, rfl⟩]
  have a1 : m6 110 (2 * eT (xE (yX y)) + 1) = b := by
    rw [u6.is, mUp.no (by omega), u5.is, mUp.no (by omega), u4.is, mUp.no (by omega), u3.is, mUp.no (by omega), u2.is, mUp.yes ⟨rfl, rfl⟩]
  have a2 : m6 111 (eT (xE (yX y))) = k := by
    rw [u6.is, mUp.no (by omega), u5.is, mUp.no (by omega), u4.is, mUp.no (by omega), u3.is, mUp.yes ⟨rfl, rfl⟩]
  have a3 : m6 112 (eT (xE (yX y))) = 1 := by
    rw [u6.is, mUp.no (by omega), u5.is, mUp.no (by omega), u4.is, mUp.yes ⟨rfl, rfl⟩]
  have a4 : m6 113 (eT (xE (yX y))) = 1 := by
    rw [u6.is, mUp.no (by omega), u5.is, mUp.yes ⟨rfl, rfl⟩]
  have a5 : m6 114 (eT (xE (yX y))) = 0 := by
    rw [u6.is, mUp.yes ⟨rfl, rfl⟩]
  clear u1 u2 u3 u4 u5 u6
  refine loopF.im (fun i m => 0 ≤ i ∧ (∀ j : Nat, (j : Int) < i → m 115 (4 * eT (xE (yX y)) + j) = -99999999) ∧ ∀ b i, ¬ (b = 115 ∧ 4 * eT (xE (yX y)) ≤ i) → m b i = m6 b i) (fun i => (5 - i).toNat) ⟨Int.le_refl _, fun j hj => by omega, fun _ _ _ => rfl⟩ (by omega) ?_
  rintro rc i m ⟨i0, hj, fm⟩ ih i' m' ee ri T F
  cases ee
  refine ⟨fun ci m7 u7 _ => ?_, fun ci m7 u7 _ => ?_⟩
  rotate_left 1
  · rw [show (4 * ((eT (xE (yX y)) : Nat) : Int) + i).toNat = 4 * eT (xE (yX y)) + i.toNat by omega] at u7
    obtain rfl := u7.is
    refine ih _ _ ⟨by omega, fun j h2 => ?_, fun b i q => by rw [mUp.no (by omega)]; exact fm b i q⟩ (by omega)
    by_cases cj : (j : Int) = i
    · exact mUp.yes ⟨rfl, by omega⟩
    · rw [mUp.no (by omega)]; exact hj j (by omega)
  clear ih
  obtain rfl := u7.is
  have f : ∀ b' i, ¬ (b' = 110 ∧ 2 * eT (xE (yX y)) ≤ i ∧ i ≤ 2 * eT (xE (yX y)) + 1) → ¬ ((111 ≤ b' ∧ b' ≤ 114) ∧ i = eT (xE (yX y))) → ¬ (b' = 115 ∧ 4 * eT (xE (yX y)) ≤ i) → ¬ (b' = 106 ∧ i = 6) → mUp m 106 6 ((eT (xE (yX y)) : Int) + 1) b' i = μ b' i := fun b' i q1 q2 q3 q4 => by
    rw [mUp.no (by omega), fm b' i q3]
    exact f6 b' i q1 q2
  have nw : ∀ b' i, ¬ (b' = 115 ∧ 4 * eT (xE (yX y)) ≤ i) → ¬ (b' = 106 ∧ i = 6) → mUp m 106 6 ((eT (xE (yX y)) : Int) + 1) b' i = m6 b' i := fun b' i q3 q4 => by
    rw [mUp.no (by omega)]; exact fm b' i q3
  have n6 : mUp m 106 6 ((eT (xE (yX y)) : Int) + 1) 106 6 = (eT (xE (yX y)) : Int) + 1 := mUp.yes ⟨rfl, rfl⟩
  have p6 : ∀ j, j < 4 → mUp m 106 6 ((eT (xE (yX y)) : Int) + 1) 115 (4 * eT (xE (yX y)) + j) = -99999999 := fun j h4 => by
    rw [mUp.no (by omega)]; exact hj j (by omega)
  generalize mUp m 106 6 ((eT (xE (yX y)) : Int) + 1) = m8 at f nw n6 p6 ⊢
  have g : ∀ b', ¬ (110 ≤ b' ∧ b' ≤ 115) → ¬ b' = 106 → m8 b' = μ b' := fun b' q1 q2 => funext fun i => f b' i (by omega) (by omega) (by omega) (by omega)
  refine ⟨by show (eT (xE (yX y)) : Int) + 1 - 1 = (eT (xE (yX y)) : Int); omega, ?_, ?_, ?_⟩
  · obtain ⟨⟨h1, h2, h3, h4, h5⟩, jg, rl, pl, sn, hh, hg, hn⟩ := h.1
    have jg' : jgR m8 (jt! (xJ (yX y)) a b k) := by
      have q : jgR m8 (xJ (yX y)) := by
        obtain ⟨j1, j2, j3⟩ := jg
        refine ⟨fun p hp => ?_, fun i hi => ?_, fun u v u0 u9 => ?_⟩
        · rw [f 106 39 (by omega) (by omega) (by omega) (by omega)] at hp
          exact plR.cg (fun b q1 q2 => g b (by omega) (by omega)) (j1 p hp)
        · rw [g 108 (by omega) (by omega), g 109 (by omega) (by omega)]; exact j2 i hi
        · rw [f 106 17 (by omega) (by omega) (by omega) (by omega), vR.cg (μ := μ) (fun b i hb => f b i (by omega) (by omega) (by omega) (by omega)) (f 106 18 (by omega) (by omega) (by omega) (by omega))]
          exact j3 u v u0 u9
      exact q
    refine ⟨⟨n6, by rw [f _ _ (by omega) (by omega) (by omega) (by omega)]; exact h2, by rw [f _ _ (by omega) (by omega) (by omega) (by omega)]; exact h3, fun t ht => ?_, fun d hd => ?_⟩, jg', fun t s ht hs => ?_, fun t i ht hi => ?_, (snR.cg (E := xE (yX y)) sn hw hT fun b i hb => f b i (by omega) (by omega) (by omega) (by omega)).ti (by omega), hRf.of hw hT (fun b i hb => f b i (by omega) (by omega) (by omega) (by omega)) hh, hg.cg fun b i hb => f b i (by omega) (by omega) (by omega) (by omega), ?_⟩
    · have ht : t < eT (xE (yX y)) + 1 := ht
      show m8 110 (2 * t) = up1 (eA (xE (yX y))) (eT (xE (yX y))) a t ∧ m8 110 (2 * t + 1) = up1 (eB (xE (yX y))) (eT (xE (yX y))) b t ∧ m8 112 t = up1 (eU (xE (yX y))) (eT (xE (yX y))) 1 t ∧ m8 113 t = up1 (eL (xE (yX y))) (eT (xE (yX y))) 1 t ∧ m8 114 t = up1 (eG (xE (yX y))) (eT (xE (yX y))) 0 t ∧ ∀ i, i < 4 → m8 115 (4 * t + i) = if 4 * eT (xE (yX y)) ≤ 4 * t + i then -99999999 else ePl (xE (yX y)) (4 * t + i)
      by_cases c : t = eT (xE (yX y))
      · subst c
        rw [up1.at, up1.at, up1.at, up1.at, up1.at, nw _ _ (by omega) (by omega), nw _ _ (by omega) (by omega), nw _ _ (by omega) (by omega), nw _ _ (by omega) (by omega), nw _ _ (by omega) (by omega)]
        exact ⟨a0, a1, a3, a4, a5, fun i hi => by rw [if_pos (by omega)]; exact p6 i hi⟩
      · obtain ⟨b1, b2, b3, b4, b5, b6⟩ := h4 t (by omega)
        rw [up1.ne c, up1.ne c, up1.ne c, up1.ne c, up1.ne c, f _ _ (by omega) (by omega) (by omega) (by omega), f _ _ (by omega) (by omega) (by omega) (by omega), f _ _ (by omega) (by omega) (by omega) (by omega), f _ _ (by omega) (by omega) (by omega) (by omega), f _ _ (by omega) (by omega) (by omega) (by omega)]
        exact ⟨b1, b2, b3, b4, b5, fun i hi => by rw [if_neg (by omega), f _ _ (by omega) (by omega) (by omega) (by omega)]; exact b6 i hi⟩
    · rw [g 162 (by omega) (by omega), g 163 (by omega) (by omega), g 164 (by omega) (by omega)]; exact h5 d hd
    · have ht : t < eT (xE (yX y)) + 1 := ht
      show roK (m8 111 t) s = jR (jt! (xJ (yX y)) a b k) (eN (ti! (xE (yX y)) _ a b) t s) (eN (ti! (xE (yX y)) _ a b) t (1 - s))
      by_cases c : t = eT (xE (yX y))
      · subst c
        rw [nw _ _ (by omega) (by omega), a2, jt!.new ok.2.2.1 hs]
      · rw [f _ _ (by omega) (by omega) (by omega) (by omega), jt!.old no (by omega) hs]
        exact rl t s (by omega) hs
    · have ht : t < eT (xE (yX y)) + 1 := ht
      show plO (m8 106 39) (if 4 * eT (xE (yX y)) ≤ 4 * t + i then -99999999 else ePl (xE (yX y)) (4 * t + i))
      by_cases c : t = eT (xE (yX y))
      · rw [if_pos (by omega)]; exact Or.inl rfl
      · rw [if_neg (by omega), f _ _ (by omega) (by omega) (by omega) (by omega)]
        exact pl t i (by omega) hi
    · rw [f 106 70 (by omega) (by omega) (by omega) (by omega), rtR.cg (μ := μ) (s := 0) (hT.rb hw (by omega)).1.2 (hT.rb hw (by omega)).2.2 fun j hj => f _ _ (by omega) (by omega) (by omega) (by omega)]
      exact hn
  · refine ⟨by rw [f _ _ (by omega) (by omega) (by omega) (by omega)]; exact h.2.1.1, fun i hi => ?_⟩
    rw [g 119 (by omega) (by omega), g 120 (by omega) (by omega), g 121 (by omega) (by omega), g 122 (by omega) (by omega), g 123 (by omega) (by omega), g 124 (by omega) (by omega), g 125 (by omega) (by omega)]
    exact h.2.1.2 i hi
  · rw [f _ _ (by omega) (by omega) (by omega) (by omega)]; exact h.2.2
end Tie
end
section
/-! The class: a new domain, a new tie; the whole memory told. -/
section MV34e
variable {l : Launch} {D : va_G} {c : Nat → ClassId} {H0 : Heap} {sa : Nat × Nat × (Nat → Int32)} {M : sM} {R : Room} {Z : sZT} {pc : Nat} {lv : List (Nat × Value)} {st : List Value} {w : mW} {μ : mM} {ce sl : Nat}
theorem mr_newDomE {i1 i2 : Nat} (hd : decode M.2.1 pc = .ok (.new i1, 3)) (hd2 : decode M.2.1 (pc + 3) = .ok (.dup, 1)) (hd3 : decode M.2.1 (pc + 4) = .ok (.invokespecial i2, 3)) (hcl : Cond.classLink M.1.cls i1 RX0 ∈ lw_ok) (hlk : Cond.methodLink M.1.cls i2 yX0_init ∈ lw_ok) (hw : mWF w) (hT : mT w μ) (hR : 6 ≤ R.frames ∧ 321 ≤ R.locals) (hce : ce + 35 ≤ R.cells ∧ sl + 442 ≤ R.slots) (hr8 : (st.map fun v => v.category).sum ≤ 7)
    (kk : ∀ w1 μ1, mWF w1 → mT w1 μ1 → mX [] w μ w1 μ1 → mAt w1 w.1 210 → w1 = wBlk w BX0 → μ1 = mBlk w μ BX0 → w1.2.2.2 = w.2.2.2 → w1.1 = w.1 + 35 → szW w1 = szW w + 442 → sV (gG l D c H0 sa) M R Z (pc + 7) lv (.ref w.1 :: st) (mk w1 μ1) (ce + 35) (sl + 442)) : sV (gG l D c H0 sa) M R Z pc lv st (mk w μ) ce sl := by
  refine sv_new (ci := 0) (T := (RX0, TX0, 6)) (fs := zX0) hd (gCX0 l D c H0 sa) hcl wN_X0 wI_X0 zX0_ok (by omega) (by show sl + 6 ≤ R.slots; omega) ?_
  refine sv_dup (pc := pc + 3) hd2 rfl ?_
  have hct := sC.shift (l := l) (D := D) (c := c) (H0 := H0) (sa := sa) (k := w.1) (n2 := 1) (av2 := [.ref 0]) (f := sUp (mk w μ).2 w.1 (.inr (0, zX0))) (f2 := fun _ => .inr (0, zX0)) (fun j hj => by
    have e : j = 0 := by omega
    subst e
    exact (sUp_at _ _ _).trans rfl) (fun H1 => ctorX0 l D c H1 sa)
  refine sv_callI (pc := pc + 3 + 1) (M' := mX0_init) (d' := 5) (C' := 34) (S' := 436) (av := []) (st := .ref w.1 :: st) hct (gOk l D c H0 sa) hd3 (tX0_init l D c H0 sa) rfl rfl wV_X0_init hlk ⟨by omega, by show 60 * 5 + 2 + 19 ≤ R.locals; omega⟩ ⟨by omega, by show sl + 6 + 436 ≤ R.slots; omega⟩ rfl (Nat.add_le_add_left hr8 1) ?_
  rintro r hp' ⟨r2, n3, f3, ⟨rfl, e3, h3⟩, rfl, rfl⟩
  have e3 : n3 = 35 := e3
  subst e3
  refine sv_heapE (hp' := mk (wBlk w BX0) (mBlk w μ BX0)) rfl (mkBlk (fun j hj => sUp_ne _ _ (Nat.ne_of_lt hj)) (fun j hj => sEq.sh (by rw [show f3 j = tX0N j from h3 j hj]; exact BX0_eq j hj))) ?_
  exact kk _ _ (hw.blk BX0_b) (mT.blk (fun h => by cases h) BX0_b BX0_ok hT) (mBlk.x BX0_b) (wBlk.at (j := 0) (by decide)) rfl rfl rfl rfl (by rw [szW.blk BX0_b, BX0_z])
theorem mr_newTieE {i1 i2 : Nat} {x y z : Int} {j1 j2 j3 : Fin 4} (hd : decode M.2.1 pc = .ok (.new i1, 3)) (hd2 : decode M.2.1 (pc + 3) = .ok (.dup, 1)) (hd4 : decode M.2.1 (pc + 4) = .ok (.iload_n j1, 1)) (hd5 : decode M.2.1 (pc + 5) = .ok (.iload_n j2, 1)) (hd6 : decode M.2.1 (pc + 6) = .ok (.iload_n j3, 1)) (hd3 : decode M.2.1 (pc + 7) = .ok (.invokespecial i2, 3)) (hg1 : sGet j1 lv = some (iv x)) (hg2 : sGet j2 lv = some (iv y)) (hg3 : sGet j3 lv = some (iv z)) (hcl : Cond.classLink M.1.cls i1 RX9 ∈ lw_ok) (hlk : Cond.methodLink M.1.cls i2 yX9_init ∈ lw_ok) (hw : mWF w) (hT : mT w μ) (hx : 0 ≤ x ∧ x ≤ 9 ∧ x < w.2.2.2 0) (hy : 0 ≤ y ∧ y ≤ 9 ∧ y < w.2.2.2 0) (hz : 0 ≤ z ∧ z ≤ 2) (hR : 6 ≤ R.frames ∧ 324 ≤ R.locals) (hce : ce + 124 ≤ R.cells ∧ sl + 1653 ≤ R.slots) (hr8 : (st.map fun v => v.category).sum ≤ 7)
    (kk : ∀ w1 μ1, mWF w1 → mT w1 μ1 → mX [] w μ w1 μ1 → mAt w1 w.1 220 → w1 = wBlk w BX9 → μ1 = mUp (mUp (mUp (mBlk w μ BX9) w.1 0 x) w.1 1 y) w.1 2 z → w1.2.2.2 = w.2.2.2 → w1.1 = w.1 + 124 → szW w1 = szW w + 1653 → sV (gG l D c H0 sa) M R Z (pc + 10) lv (.ref w.1 :: st) (mk w1 μ1) (ce + 124) (sl + 1653)) : sV (gG l D c H0 sa) M R Z pc lv st (mk w μ) ce sl := by
  refine sv_new (ci := 9) (T := (RX9, TX9, 9)) (fs := zX9) hd (gCX9 l D c H0 sa) hcl wN_X9 wI_X9 zX9_ok (by omega) (by show sl + 9 ≤ R.slots; omega) ?_
  refine sv_dup (pc := pc + 3) hd2 rfl ?_
  refine sv_iload_n (pc := pc + 3 + 1) hd4 rfl hg1 ?_
  refine sv_iload_n (pc := pc + 3 + 1 + 1) hd5 rfl hg2 ?_
  refine sv_iload_n (pc := pc + 3 + 1 + 1 + 1) hd6 rfl hg3 ?_
  have hct := sC.shift (l := l) (D := D) (c := c) (H0 := H0) (sa := sa) (k := w.1) (n2 := 1) (av2 := [.ref 0, iv x, iv y, iv z]) (f := sUp (mk w μ).2 w.1 (.inr (9, zX9))) (f2 := fun _ => .inr (9, zX9)) (fun j hj => by
    have e : j = 0 := by omega
    subst e
    exact (sUp_at _ _ _).trans rfl) (fun H1 => ctorX9 l D c H1 sa (Int32.ofInt x) (Int32.ofInt y) (Int32.ofInt z))
  refine sv_callI (pc := pc + 3 + 1 + 1 + 1 + 1) (M' := mX9_init) (d' := 5) (C' := 123) (S' := 1644) (av := [iv x, iv y, iv z]) (st := .ref w.1 :: st) hct (gOk l D c H0 sa) hd3 (tX9_init l D c H0 sa) rfl rfl wV_X9_init hlk ⟨by omega, by show 60 * 5 + 5 + 19 ≤ R.locals; omega⟩ ⟨by omega, by show sl + 9 + 1644 ≤ R.slots; omega⟩ rfl (Nat.add_le_add_left hr8 1) ?_
  rintro r hp' ⟨r2, n3, f3, ⟨rfl, e3, h3⟩, rfl, rfl⟩
  have e3 : n3 = 124 := e3
  subst e3
  have h0 : 0 < w.2.2.2 0 := by omega
  have hT1 := mT.blk (fun _ => h0) BX9_b BX9_ok hT
  have hA : mAt (wBlk w BX9) w.1 220 := wBlk.at (j := 0) (by rw [BX9_n]; omega)
  have t1 : mT (wBlk w BX9) (mUp (mBlk w μ BX9) w.1 0 x) := mT.up (k := 0) hT1 hA hx mUp_ok
  have t2 : mT (wBlk w BX9) (mUp (mUp (mBlk w μ BX9) w.1 0 x) w.1 1 y) := mT.up (k := 1) t1 hA hy mUp_ok
  have t3 : mT (wBlk w BX9) (mUp (mUp (mUp (mBlk w μ BX9) w.1 0 x) w.1 1 y) w.1 2 z) := mT.up (k := 2) t2 hA hz mUp_ok
  have hb := mkBlk (w := w) (μ := μ) (B := BX9) (f := sUp (mk w μ).2 w.1 (.inr (9, zX9))) (f3 := tX9N 0 0 0) (fun j hj => sUp_ne _ _ (Nat.ne_of_lt hj)) (fun j hj => sEq.sh (BX9_eq j hj))
  have e0 : (mk (wBlk w BX9) (mBlk w μ BX9)).2 w.1 = .inr (9, [.int 0, .int 0, .int 0, .ref (w.1 + 1), .ref (w.1 + 2), .ref (w.1 + 3), .int 1, .int 1, .int 0]) := by
    have g := hb w.1 (by show w.1 < w.1 + 124; omega)
    have e1 : shH w.1 (sUp (mk w μ).2 w.1 (.inr (9, zX9))) (tX9N 0 0 0) w.1 = .inr (9, [.int 0, .int 0, .int 0, .ref (w.1 + 1), .ref (w.1 + 2), .ref (w.1 + 3), .int 1, .int 1, .int 0]) := by
      show (if w.1 < w.1 then _ else _) = _
      rw [if_neg (Nat.lt_irrefl _), Nat.sub_self]; rfl
    rw [e1] at g
    revert g
    rcases (mk (wBlk w BX9) (mBlk w μ BX9)).2 w.1 with q | q
    · intro g; exact g.elim
    · intro g
      have g : _ = q := g
      rw [← g]
  refine sv_heapE (hp' := mk (wBlk w BX9) (mUp (mUp (mUp (mBlk w μ BX9) w.1 0 x) w.1 1 y) w.1 2 z)) rfl (fun j hj => ?_) (kk _ _ (hw.blk BX9_b) t3 ?_ hA rfl rfl rfl rfl (by rw [szW.blk BX9_b, BX9_z]))
  · by_cases h : j = w.1
    · subst h
      have e1 : shH w.1 (sUp (mk w μ).2 w.1 (.inr (9, zX9))) f3 w.1 = .inr (9, [iv x, iv y, iv z, .ref (w.1 + 1), .ref (w.1 + 2), .ref (w.1 + 3), .int 1, .int 1, .int 0]) := by
        show (if w.1 < w.1 then _ else _) = _
        rw [if_neg (Nat.lt_irrefl _), Nat.sub_self, show f3 0 = _ from h3 0 (by show 0 < 124; omega)]; rfl
      show sEq (shH w.1 _ f3 w.1) _
      rw [e1, mk_set hA rfl (mk_set hA rfl (mk_set hA rfl e0))]
      exact (rfl : _ = _)
    · have g := hb j hj
      rw [mk_other h, mk_other h, mk_other h]
      have e : shH w.1 (sUp (mk w μ).2 w.1 (.inr (9, zX9))) f3 j = shH w.1 (sUp (mk w μ).2 w.1 (.inr (9, zX9))) (tX9N 0 0 0) j := by
        by_cases hj2 : j < w.1
        · exact (if_pos hj2).trans (if_pos hj2).symm
        · refine (if_neg hj2).trans (Eq.trans ?_ (if_neg hj2).symm)
          have hl : j - w.1 < 124 := by have : j < w.1 + 124 := hj; omega
          rw [show f3 (j - w.1) = _ from h3 (j - w.1) hl]
          obtain ⟨m, hm⟩ : ∃ m, j - w.1 = m + 1 := ⟨j - w.1 - 1, by omega⟩
          rw [hm] at hl ⊢
          exact congrArg (shE w.1) (tX9N_s _ _ _ m hl)
      show sEq (shH w.1 _ f3 j) _
      rw [e]; exact g
  · refine ⟨wBlk.ext BX9_b, fun a i ha _ => ?_⟩
    have ne : a ≠ w.1 := Nat.ne_of_lt ha
    show mUp _ w.1 2 z a i = μ a i
    simp only [mUp, ne, false_and, if_false]
    exact if_pos ha
end MV34e
section MV35e
variable {l : Launch} {D : va_G} {c : Nat → ClassId} {H0 : Heap} {sa : Nat × Nat × (Nat → Int32)} {w : mW} {μ : mM} {d : Nat}
theorem c_X10_addDomain_e (hw : mWF w) (hT : mT w μ) {n : Int} (q : μ 6 15 = n) (hn : n ≤ 9) : sC (gG l D c H0 sa) mX10_addDomain 6 35 442 [.ref 6] (mk w μ) (qIx w [6015, 10999] μ (fun z w1 μ1 => z = n ∧ w1.2.2.2 = (wCt w 0).2.2.2 ∧ w1.1 = w.1 + 35 ∧ szW w1 = szW w + 442 ∧ μ1 6 15 = n + 1 ∧ w1 = wCt (wBlk w BX0) 0 ∧ μ1 = mUp (mUp (mBlk w μ BX0) 10 n.toNat (w.1 : Int)) 6 15 (n + 1))) := by
  have h6 : μ 6 15 = w.2.2.2 0 ∧ 0 ≤ μ 6 15 ∧ μ 6 15 ≤ 10 := hT 6 6 (A_6 hw) 15
  refine sC.of rfl (by decide) (le_t rfl) ?_
  refine sv_aload_n (pc := 0) dX10_addDomain_0 rfl rfl ?_
  refine gf_X10_3 (pc := 1) dX10_addDomain_1 wF_X10_23 (A_6 hw) hT ?_
  refine sv_aload_n (pc := 4) dX10_addDomain_4 rfl rfl ?_
  refine gk_X10_15 (pc := 5) dX10_addDomain_5 wF_X10_68 (A_6 hw) q ?_
  refine mr_newDomE (pc := 8) dX10_addDomain_8 dX10_addDomain_11 dX10_addDomain_12 wC_X10_21 wM_X10_71 hw hT ⟨le_t rfl, le_t rfl⟩ ⟨le_t rfl, le_t rfl⟩ (le_t rfl) fun w1 μ1 hw1 hT1 hX hB he hv hc hsz hzz => ?_
  have q1 : μ1 6 15 = n := hX.f (A_6 hw) rfl q
  refine mr_aast (pc := 15) (kd := 5) (ci := 0) (T := (RX0, TX0, 6)) dX10_addDomain_15 (gCX0 l D c H0 sa) rfl (A_10 hw1) rfl ⟨by omega, by rw [(A_10 hw1).2.2.2 rfl]; show n < 10; omega⟩ (Nat.le_trans (A_10 hw1).2.2.1 (le_t rfl)) hB rfl fun μ2 hu2 => ?_
  have q2 : μ2 6 15 = n := (hu2.2 6 15 (Or.inl (by decide))).trans q1
  refine sv_aload_n (pc := 16) dX10_addDomain_16 rfl rfl ?_
  refine sv_dup (pc := 17) dX10_addDomain_17 rfl ?_
  refine gk_X10_15 (pc := 18) dX10_addDomain_18 wF_X10_68 (A_6 hw1) q2 ?_
  refine mr_iconst (pc := 21) (z := 1) dX10_addDomain_21 ?_
  refine mr_iadd (pc := 22) dX10_addDomain_22 ?_
  refine mr_put (pc := 23) (g := gG l D c H0 sa) (kk := 0) (k := 15) dX10_addDomain_23 (gCX10 l D c H0 sa) (lt_t rfl) wF_X10_68 rfl (A_6 hw1) rfl (lt_t rfl) rfl (fun _ => rfl) (fun _ => rfl) (fun μ3 hu3 => ?_)
  have q3 : μ3 6 15 = n + 1 := hu3.1
  refine sv_aload_n (pc := 26) dX10_addDomain_26 rfl rfl ?_
  refine gk_X10_15 (pc := 27) dX10_addDomain_27 wF_X10_68 (A_6 hw1) q3 ?_
  refine mr_iconst (pc := 30) (z := 1) dX10_addDomain_30 ?_
  refine mr_isub (pc := 31) dX10_addDomain_31 ?_
  have q4 : μ3 10 n.toNat = (w.1 : Int) := (hu3.2 10 _ (Or.inl (by decide))).trans hu2.1
  have hc0 : w1.2.2.2 0 = n := by rw [hc]; omega
  have hT3 : mT (wCt w1 0) μ3 := mT.ct (m := 10) ctOK_0 rfl rfl (fun _ => rfl) rfl hw1 hT1 hc0 ⟨by omega, by omega⟩ hB q4 q3 (fun a i h1 h2 => (hu3.2 a i h2).trans (hu2.2 a i h1))
  refine mr_iretX (pc := 32) (w1 := wCt w1 0) dX10_addDomain_32 rfl (le_t rfl) (le_t rfl) hw1.ct hT3 ⟨hX.1, fun a i ha hl => ?_⟩ ⟨by omega, ?_, hsz, hzz, q3, by rw [he], by rw [hu3.is, hu2.is, hv]⟩
  · have g := hX.2 a i ha rfl
    rw [← g, hu3.2 a i ?_, hu2.2 a i ?_]
    · refine Classical.or_iff_not_imp_left.mpr fun h1 h2 => ?_
      have e : a = 10 := Classical.not_not.mp h1
      subst e
      rw [show mRg w 10 i = 10999 by simp only [mRg, (A_10 hw).1]; rfl] at hl
      cases hl
    · refine Classical.or_iff_not_imp_left.mpr fun h1 h2 => ?_
      have e : a = 6 := Classical.not_not.mp h1
      subst e
      subst h2
      rw [show mRg w 6 15 = 6015 by simp only [mRg, (A_6 hw).1]; rfl] at hl
      cases hl
  · show (fun j => if j = 0 then w1.2.2.2 j + 1 else w1.2.2.2 j) = _
    rw [hc]; rfl
theorem c_X10_addTie_e (hw : mWF w) (hT : mT w μ) {n x y z : Int} (q : μ 6 16 = n) (hn : n ≤ 19) (hx : 0 ≤ x ∧ x ≤ 9 ∧ x < w.2.2.2 0) (hy : 0 ≤ y ∧ y ≤ 9 ∧ y < w.2.2.2 0) (hz : 0 ≤ z ∧ z ≤ 2) : sC (gG l D c H0 sa) mX10_addTie 6 124 1653 [.ref 6, iv x, iv y, iv z] (mk w μ) (qIx w [6016, 11999] μ (fun r w1 μ1 => r = n ∧ w1.2.2.2 = (wCt w 1).2.2.2 ∧ w1.1 = w.1 + 124 ∧ szW w1 = szW w + 1653 ∧ μ1 6 16 = n + 1 ∧ w1 = wCt (wBlk w BX9) 1 ∧ μ1 = mUp (mUp (mUp (mUp (mUp (mBlk w μ BX9) w.1 0 x) w.1 1 y) w.1 2 z) 11 n.toNat (w.1 : Int)) 6 16 (n + 1))) := by
  have h6 : μ 6 16 = w.2.2.2 1 ∧ 0 ≤ μ 6 16 ∧ μ 6 16 ≤ 20 := hT 6 6 (A_6 hw) 16
  refine sC.of rfl (by decide) (le_t rfl) ?_
  refine sv_aload_n (pc := 0) dX10_addTie_0 rfl rfl ?_
  refine gf_X10_4 (pc := 1) dX10_addTie_1 wF_X10_29 (A_6 hw) hT ?_
  refine sv_aload_n (pc := 4) dX10_addTie_4 rfl rfl ?_
  refine gk_X10_16 (pc := 5) dX10_addTie_5 wF_X10_72 (A_6 hw) q ?_
  refine mr_newTieE (pc := 8) (x := x) (y := y) (z := z) dX10_addTie_8 dX10_addTie_11 dX10_addTie_12 dX10_addTie_13 dX10_addTie_14 dX10_addTie_15 rfl rfl rfl wC_X10_27 wM_X10_75 hw hT hx hy hz ⟨le_t rfl, le_t rfl⟩ ⟨le_t rfl, le_t rfl⟩ (le_t rfl) fun w1 μ1 hw1 hT1 hX hB he hv hc hsz hzz => ?_
  have q1 : μ1 6 16 = n := hX.f (A_6 hw) rfl q
  refine mr_aast (pc := 18) (kd := 6) (ci := 9) (T := (RX9, TX9, 9)) dX10_addTie_18 (gCX9 l D c H0 sa) rfl (A_11 hw1) rfl ⟨by omega, by rw [(A_11 hw1).2.2.2 rfl]; show n < 20; omega⟩ (Nat.le_trans (A_11 hw1).2.2.1 (le_t rfl)) hB rfl fun μ2 hu2 => ?_
  have q2 : μ2 6 16 = n := (hu2.2 6 16 (Or.inl (by decide))).trans q1
  refine sv_aload_n (pc := 19) dX10_addTie_19 rfl rfl ?_
  refine sv_dup (pc := 20) dX10_addTie_20 rfl ?_
  refine gk_X10_16 (pc := 21) dX10_addTie_21 wF_X10_72 (A_6 hw1) q2 ?_
  refine mr_iconst (pc := 24) (z := 1) dX10_addTie_24 ?_
  refine mr_iadd (pc := 25) dX10_addTie_25 ?_
  refine mr_put (pc := 26) (g := gG l D c H0 sa) (kk := 0) (k := 16) dX10_addTie_26 (gCX10 l D c H0 sa) (lt_t rfl) wF_X10_72 rfl (A_6 hw1) rfl (lt_t rfl) rfl (fun _ => rfl) (fun _ => rfl) (fun μ3 hu3 => ?_)
  have q3 : μ3 6 16 = n + 1 := hu3.1
  refine sv_aload_n (pc := 29) dX10_addTie_29 rfl rfl ?_
  refine gk_X10_16 (pc := 30) dX10_addTie_30 wF_X10_72 (A_6 hw1) q3 ?_
  refine mr_iconst (pc := 33) (z := 1) dX10_addTie_33 ?_
  refine mr_isub (pc := 34) dX10_addTie_34 ?_
  have q4 : μ3 11 n.toNat = (w.1 : Int) := (hu3.2 11 _ (Or.inl (by decide))).trans hu2.1
  have hc0 : w1.2.2.2 1 = n := by rw [hc]; omega
  have hT3 : mT (wCt w1 1) μ3 := mT.ct (m := 20) ctOK_1 rfl rfl (fun _ => rfl) rfl hw1 hT1 hc0 ⟨by omega, by omega⟩ hB q4 q3 (fun a i h1 h2 => (hu3.2 a i h2).trans (hu2.2 a i h1))
  refine mr_iretX (pc := 35) (w1 := wCt w1 1) dX10_addTie_35 rfl (le_t rfl) (le_t rfl) hw1.ct hT3 ⟨hX.1, fun a i ha hl => ?_⟩ ⟨by omega, ?_, hsz, hzz, q3, by rw [he], by rw [hu3.is, hu2.is, hv]⟩
  · have g := hX.2 a i ha rfl
    rw [← g, hu3.2 a i ?_, hu2.2 a i ?_]
    · refine Classical.or_iff_not_imp_left.mpr fun h1 h2 => ?_
      have e : a = 11 := Classical.not_not.mp h1
      subst e
      rw [show mRg w 11 i = 11999 by simp only [mRg, (A_11 hw).1]; rfl] at hl
      cases hl
    · refine Classical.or_iff_not_imp_left.mpr fun h1 h2 => ?_
      have e : a = 6 := Classical.not_not.mp h1
      subst e
      subst h2
      rw [show mRg w 6 16 = 6016 by simp only [mRg, (A_6 hw).1]; rfl] at hl
      cases hl
  · show (fun j => if j = 1 then w1.2.2.2 j + 1 else w1.2.2.2 j) = _
    rw [hc]; rfl
end MV35e
section MV36e
variable {l : Launch} {D : va_G} {c : Nat → ClassId} {H0 : Heap} {sa : Nat × Nat × (Nat → Int32)} {w : mW} {μ : mM}
theorem c_X11_domain_e (hw : mWF w) (hT : mT w μ) {n : Int} (q : μ 6 15 = n) : sC (gG l D c H0 sa) mX11_domain 7 35 442 [.ref 0] (mk w μ) (qIx w [6015, 10999] μ (fun z w1 μ1 => (n = 10 ∧ z = -3 ∧ w1 = w ∧ μ1 = μ) ∨ (n ≤ 9 ∧ z = n ∧ w1.2.2.2 = (wCt w 0).2.2.2 ∧ w1.1 = w.1 + 35 ∧ szW w1 = szW w + 442 ∧ μ1 6 15 = n + 1 ∧ w1 = wCt (wBlk w BX0) 0 ∧ μ1 = mUp (mUp (mBlk w μ BX0) 10 n.toNat (w.1 : Int)) 6 15 (n + 1)))) := by
  have h6 : μ 6 15 = w.2.2.2 0 ∧ 0 ≤ μ 6 15 ∧ μ 6 15 ≤ 10 := hT 6 6 (A_6 hw) 15
  refine sC.of rfl (by decide) (le_t rfl) ?_
  refine sv_aload_n (pc := 0) dX11_domain_0 rfl rfl ?_
  refine gf_X11_3 (pc := 1) dX11_domain_1 wF_X11_26 (A_0 hw) hT ?_
  refine gk_X10_15 (pc := 4) dX11_domain_4 wF_X11_98 (A_6 hw) q ?_
  refine mr_bipush (pc := 7) (z := 10) dX11_domain_7 (by decide) ?_
  refine mr_icmp_lt (pc := 9) (tgt := 15) dX11_domain_9 (by decide) ⟨by omega, by omega⟩ (by decide) (fun h1 => ?_) (fun h1 => ?_)
  · refine sv_aload_n (pc := 15) dX11_domain_15 rfl rfl ?_
    refine gf_X11_3 (pc := 16) dX11_domain_16 wF_X11_26 (A_0 hw) hT ?_
    refine mr_cVIX (pc := 19) (c_X10_addDomain_e hw hT q (by omega)) (gOk _ _ _ _ _) dX11_domain_19 (tX10_addDomain _ _ _ _ _) ⟨wV_X10_addDomain, wL_X10_addDomain⟩ wM_X11_101 (gCX10 _ _ _ _ _) rfl (A_6 hw) rfl ⟨le_t rfl, le_t rfl⟩ ⟨le_t rfl, le_t rfl⟩ rfl (le_t rfl) fun z w1 μ1 hw1 T1 X1 P1 => ?_
    exact mr_iretX (pc := 22) dX11_domain_22 rfl (le_t rfl) (le_t rfl) hw1 T1 X1 (Or.inr ⟨by omega, P1⟩)
  · refine mr_bipush (pc := 12) (z := -3) dX11_domain_12 (by decide) ?_
    exact mr_iretX (pc := 14) dX11_domain_14 rfl (le_t rfl) (le_t rfl) hw hT mX.refl (Or.inl ⟨by omega, rfl, rfl, rfl⟩)
end MV36e
def teC (w : mW) (μ : mM) (w1 : mW) (μ1 : mM) (p1 p2 p3 z : Int) : Prop := (0 ≤ z ∧ w1 = wCt (wBlk w BX9) 1 ∧ μ1 = mUp (mUp (mUp (mUp (mUp (mBlk w μ BX9) w.1 0 p1) w.1 1 p2) w.1 2 p3) 11 (μ 6 16).toNat (w.1 : Int)) 6 16 (μ 6 16 + 1)) ∨ (z < 0 ∧ w1 = w ∧ μ1 = μ)
section MV54e
variable {l : Launch} {D : va_G} {c : Nat → ClassId} {H0 : Heap} {sa : Nat × Nat × (Nat → Int32)} {w : mW} {μ : mM}
theorem c_X11_tie_e (hw : mWF w) (hT : mT w μ) {p1 p2 p3 : Int} (hp1 : -2147483648 ≤ p1 ∧ p1 ≤ 2147483647) (hp2 : -2147483648 ≤ p2 ∧ p2 ≤ 2147483647) (hp3 : -2147483648 ≤ p3 ∧ p3 ≤ 2147483647) : sC (gG l D c H0 sa) mX11_tie 7 124 1653 [.ref 0, iv p1, iv p2, iv p3] (mk w μ) (qIx w [6016, 11999] μ (fun z w1 μ1 => (-2147483648 ≤ z ∧ z ≤ 2147483647) ∧ ((w1 = w ∧ μ1 = μ) ∨ (w1.2.2.2 = (wCt w 1).2.2.2 ∧ w1.1 = w.1 + 124 ∧ szW w1 = szW w + 1653)) ∧ tieA (noneQ (tc μ 0) (tc μ 1) (μ 6 16) p1 p2) (μ 6 15) (μ 6 16) p1 p2 p3 z ∧ teC w μ w1 μ1 p1 p2 p3 z)) := by
  have h5 : μ 6 15 = w.2.2.2 0 ∧ 0 ≤ μ 6 15 ∧ μ 6 15 ≤ 10 := hT 6 6 (A_6 hw) 15
  have h6 : μ 6 16 = w.2.2.2 1 ∧ 0 ≤ μ 6 16 ∧ μ 6 16 ≤ 20 := hT 6 6 (A_6 hw) 16
  have same : ∀ {z : Int}, (-2147483648 ≤ z ∧ z ≤ 2147483647) → z < 0 → tieA (noneQ (tc μ 0) (tc μ 1) (μ 6 16) p1 p2) (μ 6 15) (μ 6 16) p1 p2 p3 z → (-2147483648 ≤ z ∧ z ≤ 2147483647) ∧ ((w = w ∧ μ = μ) ∨ (w.2.2.2 = (wCt w 1).2.2.2 ∧ w.1 = w.1 + 124 ∧ szW w = szW w + 1653)) ∧ tieA (noneQ (tc μ 0) (tc μ 1) (μ 6 16) p1 p2) (μ 6 15) (μ 6 16) p1 p2 p3 z ∧ teC w μ w μ p1 p2 p3 z := fun h hz hA => ⟨h, Or.inl ⟨rfl, rfl⟩, hA, Or.inr ⟨hz, rfl, rfl⟩⟩
  refine sC.of rfl (by decide) (le_t rfl) ?_
  refine mr_lvE (lv' := [(0, .ref 0), (1, iv p1), (2, iv p2), (3, iv p3)]) rfl ?_
  have bad : tieB (μ 6 15) p1 p2 p3 → sV (gG l D c H0 sa) mX11_tie (sRm 7 124 1653) (sZ (gG l D c H0 sa) 124 1653 (qIx w [6016, 11999] μ (fun z w1 μ1 => (-2147483648 ≤ z ∧ z ≤ 2147483647) ∧ ((w1 = w ∧ μ1 = μ) ∨ (w1.2.2.2 = (wCt w 1).2.2.2 ∧ w1.1 = w.1 + 124 ∧ szW w1 = szW w + 1653)) ∧ tieA (noneQ (tc μ 0) (tc μ 1) (μ 6 16) p1 p2) (μ 6 15) (μ 6 16) p1 p2 p3 z ∧ teC w μ w1 μ1 p1 p2 p3 z))) 30 [(0, .ref 0), (1, iv p1), (2, iv p2), (3, iv p3)] [] (mk w μ) 0 0 := fun hB => by
    refine mr_iconst (pc := 30) (z := -1) dX11_tie_30 ?_
    exact mr_iretX (pc := 31) dX11_tie_31 rfl (le_t rfl) (le_t rfl) hw hT mX.refl (same (by decide) (by decide) (Or.inl ⟨hB, rfl⟩))
  refine sv_aload_n (pc := 0) dX11_tie_0 rfl rfl ?_
  refine mr_iload_n (pc := 1) (z := p1) dX11_tie_1 rfl rfl ?_
  refine mr_cVP (pc := 2) (c_X11_isDomain hw hT hp1 rfl) (gOk _ _ _ _ _) dX11_tie_2 (tX11_isDomain _ _ _ _ _) ⟨wV_X11_isDomain, wL_X11_isDomain⟩ wM_X11_105 (gCX11 _ _ _ _ _) rfl (A_0 hw) rfl ⟨le_t rfl, le_t rfl⟩ ⟨le_t rfl, le_t rfl⟩ rfl (le_t rfl) fun z1 h1 => ?_
  obtain ⟨h1a, h1b, h1c, _⟩ := h1
  refine mr_if_eq (pc := 5) (tgt := 30) dX11_tie_5 (by decide) ⟨by omega, by omega⟩ (fun e1 => bad (by have := h1c e1; unfold tieB; omega)) (fun e1 => ?_)
  have g1 := h1b (by omega)
  refine sv_aload_n (pc := 8) dX11_tie_8 rfl rfl ?_
  refine mr_iload_n (pc := 9) (z := p2) dX11_tie_9 rfl rfl ?_
  refine mr_cVP (pc := 10) (c_X11_isDomain hw hT hp2 rfl) (gOk _ _ _ _ _) dX11_tie_10 (tX11_isDomain _ _ _ _ _) ⟨wV_X11_isDomain, wL_X11_isDomain⟩ wM_X11_105 (gCX11 _ _ _ _ _) rfl (A_0 hw) rfl ⟨le_t rfl, le_t rfl⟩ ⟨le_t rfl, le_t rfl⟩ rfl (le_t rfl) fun z2 h2 => ?_
  obtain ⟨h2a, h2b, h2c, _⟩ := h2
  refine mr_if_eq (pc := 13) (tgt := 30) dX11_tie_13 (by decide) ⟨by omega, by omega⟩ (fun e2 => bad (by have := h2c e2; unfold tieB; omega)) (fun e2 => ?_)
  have g2 := h2b (by omega)
  refine mr_iload_n (pc := 16) (z := p1) dX11_tie_16 rfl rfl ?_
  refine mr_iload_n (pc := 17) (z := p2) dX11_tie_17 rfl rfl ?_
  refine mr_icmp_eq (pc := 18) (tgt := 30) dX11_tie_18 (by decide) hp1 hp2 (fun e => bad (by unfold tieB; omega)) (fun e5 => ?_)
  refine mr_iload_n (pc := 21) (z := p3) dX11_tie_21 rfl rfl ?_
  refine mr_if_lt (pc := 22) (tgt := 30) dX11_tie_22 (by decide) hp3 (fun e => bad (by unfold tieB; omega)) (fun e3 => ?_)
  refine mr_iload_n (pc := 25) (z := p3) dX11_tie_25 rfl rfl ?_
  refine mr_iconst (pc := 26) (z := 2) dX11_tie_26 ?_
  refine mr_icmp_le (pc := 27) (tgt := 32) dX11_tie_27 (by decide) hp3 (by decide) (fun e4 => ?_) (fun e => bad (by unfold tieB; omega))
  have nb : ¬ tieB (μ 6 15) p1 p2 p3 := by unfold tieB; omega
  refine sv_aload_n (pc := 32) dX11_tie_32 rfl rfl ?_
  refine gf_X11_3 (pc := 33) dX11_tie_33 wF_X11_26 (A_0 hw) hT ?_
  refine mr_iload_n (pc := 36) (z := p1) dX11_tie_36 rfl rfl ?_
  refine mr_iload_n (pc := 37) (z := p2) dX11_tie_37 rfl rfl ?_
  refine mr_cVP (pc := 38) (c_X10_tieBetween_v hw hT hp1 hp2 rfl) (gOk _ _ _ _ _) dX11_tie_38 (tX10_tieBetween _ _ _ _ _) ⟨wV_X10_tieBetween, wL_X10_tieBetween⟩ wM_X11_109 (gCX10 _ _ _ _ _) rfl (A_6 hw) rfl ⟨le_t rfl, le_t rfl⟩ ⟨le_t rfl, le_t rfl⟩ rfl (le_t rfl) fun z3 h3 => ?_
  obtain ⟨h3a, h3b, h3c, _⟩ := h3
  refine mr_if_lt (pc := 41) (tgt := 47) dX11_tie_41 (by decide) ⟨by omega, by omega⟩ (fun e6 => ?_) (fun e6 => ?_)
  · have nn := h3c.not (by decide) e6
    refine sv_aload_n (pc := 47) dX11_tie_47 rfl rfl ?_
    refine gf_X11_3 (pc := 48) dX11_tie_48 wF_X11_26 (A_0 hw) hT ?_
    refine gk_X10_16 (pc := 51) dX11_tie_51 wF_X11_112 (A_6 hw) rfl ?_
    refine mr_bipush (pc := 54) (z := 20) dX11_tie_54 (by decide) ?_
    refine mr_icmp_lt (pc := 56) (tgt := 62) dX11_tie_56 (by decide) ⟨by omega, by omega⟩ (by decide) (fun h7 => ?_) (fun h7 => ?_)
    · refine sv_aload_n (pc := 62) dX11_tie_62 rfl rfl ?_
      refine gf_X11_3 (pc := 63) dX11_tie_63 wF_X11_26 (A_0 hw) hT ?_
      refine mr_iload_n (pc := 66) (z := p1) dX11_tie_66 rfl rfl ?_
      refine mr_iload_n (pc := 67) (z := p2) dX11_tie_67 rfl rfl ?_
      refine mr_iload_n (pc := 68) (z := p3) dX11_tie_68 rfl rfl ?_
      refine mr_cVIX (pc := 69) (c_X10_addTie_e hw hT rfl (by omega) (x := p1) (y := p2) (z := p3) ⟨g1.1, by omega, by omega⟩ ⟨g2.1, by omega, by omega⟩ ⟨e3, e4⟩) (gOk _ _ _ _ _) dX11_tie_69 (tX10_addTie _ _ _ _ _) ⟨wV_X10_addTie, wL_X10_addTie⟩ wM_X11_115 (gCX10 _ _ _ _ _) rfl (A_6 hw) rfl ⟨le_t rfl, le_t rfl⟩ ⟨le_t rfl, le_t rfl⟩ rfl (le_t rfl) fun z w1 μ1 hw1 T1 X1 P1 => ?_
      obtain ⟨k1, k2, k3, k4, k5, k6, k7⟩ := P1
      exact mr_iretX (pc := 72) dX11_tie_72 rfl (le_t rfl) (le_t rfl) hw1 T1 X1 ⟨by omega, Or.inr ⟨k2, k3, k4⟩, Or.inr ⟨nb, Or.inr ⟨nn, Or.inr ⟨h7, k1⟩⟩⟩, Or.inl ⟨by omega, k6, k7⟩⟩
    · refine mr_bipush (pc := 59) (z := -3) dX11_tie_59 (by decide) ?_
      exact mr_iretX (pc := 61) dX11_tie_61 rfl (le_t rfl) (le_t rfl) hw hT mX.refl (same (by decide) (by decide) (Or.inr ⟨nb, Or.inr ⟨nn, Or.inl ⟨by omega, rfl⟩⟩⟩))
  · refine mr_bipush (pc := 44) (z := -2) dX11_tie_44 (by decide) ?_
    exact mr_iretX (pc := 46) dX11_tie_46 rfl (le_t rfl) (le_t rfl) hw hT mX.refl (same (by decide) (by decide) (Or.inr ⟨nb, Or.inl ⟨h3c.has (by omega), rfl⟩⟩))
end MV54e
end
section
/-! The class: a new domain, as a state. -/
theorem snC.cgD {μ m : mM} {E : En} {S : Sn} (h : snC μ E S) (h11 : ∀ i, i < eT E → m 11 i = μ 11 i) (h10 : ∀ i, i < eD E → m 10 i = μ 10 i) (ht : ∀ t b i, t < eT E → tbA μ t + 4 ≤ b → b < tbA μ t + 124 → m b i = μ b i) (hd : ∀ d b i, d < eD E → (b = dbA μ d + 3 ∨ (dbA μ d + 5 ≤ b ∧ b < dbA μ d + 35)) → m b i = μ b i)
    (h32 : ∀ i, 10 ≤ i → i ≤ 12 → m 32 i = μ 32 i) (h33 : ∀ i, m 33 i = μ 33 i) (h34 : ∀ i, m 34 i = μ 34 i) (h70 : ∀ b i, 70 ≤ b → b ≤ 72 → m b i = μ b i) : snC m E S := by
  obtain ⟨s1, s2, s3, s4, s5, s6, s7⟩ := h
  have tb : ∀ s, s < eT E → tbA m s = tbA μ s := fun s q => congrArg Int.toNat (h11 s q)
  have db : ∀ s, s < eD E → dbA m s = dbA μ s := fun s q => congrArg Int.toNat (h10 s q)
  refine ⟨fun t k ht' hk => ?_, fun d p hd' hp => ?_, ?_, fun i hi => ?_, ?_, ?_, ?_⟩
  · have rt : ∀ a, tbA μ t + 4 ≤ a → a + 2 < tbA μ t + 124 → rtC m a = rtC μ a := fun a a1 a2 => rtC.of (fun i => ht t _ i ht' (by omega) (by omega)) (fun i => ht t _ i ht' (by omega) (by omega)) (fun i => ht t _ i ht' (by omega) (by omega))
    show rtC m (tbA m t + 4 + 6 * k) = _ ∧ (_ → m (tbA m t + 4 + 6 * k) 9 = _) ∧ rtC m (tbA m t + 7 + 6 * k) = _ ∧ m (tbA m t + 7 + 6 * k) 9 = _
    rw [tb t ht', rt _ (by omega) (by omega), ht t (tbA μ t + 4 + 6 * k) 9 ht' (by omega) (by omega), rt _ (by omega) (by omega), ht t (tbA μ t + 7 + 6 * k) 9 ht' (by omega) (by omega)]
    exact s1 t k ht' hk
  · have rt : ∀ a, dbA μ d + 5 ≤ a → a + 2 < dbA μ d + 35 → rtC m a = rtC μ a := fun a a1 a2 => rtC.of (fun i => hd d _ i hd' (by omega)) (fun i => hd d _ i hd' (by omega)) (fun i => hd d _ i hd' (by omega))
    show m (dbA m d + 3) p = _ ∧ rtC m (dbA m d + 5 + 3 * p) = _
    rw [db d hd', hd d _ p hd' (Or.inl rfl), rt _ (by omega) (by omega)]
    exact s2 d p hd' hp
  · have e : evC m = evC μ := by
      rw [evC.eq, evC.eq, h32 10 (by omega) (by omega)]
      exact lst.ext fun i _ => by rw [h33, h34]
    rw [e]; exact s3
  · rw [h34]; exact s4 i hi
  · rw [h32 11 (by omega) (by omega)]; exact s5
  · rw [h32 12 (by omega) (by omega)]; exact s6
  · rw [rtC.of (μ := μ) (fun i => h70 _ i (by omega) (by omega)) (fun i => h70 _ i (by omega) (by omega)) (fun i => h70 _ i (by omega) (by omega))]
    exact s7
section Grow
variable {w w1 : mW} {μ m : mM} {x : St}
theorem mWF.big (hw : mWF w) : 192 ≤ w.1 := hw.2.1
/-- what policies say, in a world that has grown -/
theorem jgC.grow {J : Ju} (hw : mWF w) (h : jgC w μ J) (e : wE w w1) (f : ∀ a i, a < w.1 → ¬ (a = 6 ∧ (i = 15 ∨ i = 16)) → ¬ a = 10 → ¬ a = 11 → m a i = μ a i) : jgC w1 m J := by
  have big := mWF.big hw
  obtain ⟨h1, h2, h3⟩ := h
  refine ⟨fun p hp => ?_, fun i hi => ?_, fun x n h0 h9 => ?_⟩
  · rw [f 21 8 (by omega) (by omega) (by omega) (by omega)] at hp
    obtain ⟨b, eb, c, cp, cn, cf, cl, ⟨⟨A0, A1, A2, A3, A4, A5⟩, x1, x2, x3, x4, x5⟩, hl, hr, hm, hk⟩ := h1 p hp
    have low : ∀ a s, mAt w a s → 100 < s → m a = μ a := fun a s hA hs => funext fun i => by
      have n6 : ¬ a = 6 := fun q => by
        have g := hA.1
        rw [q, (A_6 hw).1] at g
        omega
      have n10 : ¬ a = 10 := fun q => by
        have g := hA.1
        rw [q, (A_10 hw).1] at g
        omega
      have n11 : ¬ a = 11 := fun q => by
        have g := hA.1
        rw [q, (A_11 hw).1] at g
        omega
      exact f a i hA.2.1 (by omega) n10 n11
    have e0 := low b 230 A0 (by decide)
    have e1 := low c 231 A1 (by decide)
    have e2 := low cp 232 A2 (by decide)
    have e3 := low cn 233 A3 (by decide)
    have e4 := low cf 234 A4 (by decide)
    have e5 := low cl 235 A5 (by decide)
    refine ⟨b, by rw [f 22 p (by omega) (by omega) (by omega) (by omega)]; exact eb, c, cp, cn, cf, cl, ⟨⟨A0.ext e, A1.ext e, A2.ext e, A3.ext e, A4.ext e, A5.ext e⟩, ?_⟩, ?_, ?_, ?_⟩
    · rw [e0]; exact ⟨x1, x2, x3, x4, x5⟩
    · rw [e0]; exact hl
    · rw [e1, e4, e5, (e.2.1 cf A4.2.1).2]; exact hr
    · refine ⟨by rw [(e.2.1 cp A2.2.1).2]; exact hm, fun k hk' => ?_⟩
      rw [e2, e3]; exact hk k hk'
  · rw [f 7 i (by omega) (by omega) (by omega) (by omega), f 8 i (by omega) (by omega) (by omega) (by omega)]; exact h2 i hi
  · rw [f 6 18 (by omega) (by omega) (by omega) (by omega), vC.cg (μ := μ) (fun b i hb => f b i (by omega) (by omega) (by omega) (by omega)) (f 6 17 (by omega) (by omega) (by omega) (by omega))]
    exact h3 x n h0 h9
/-- the blocks that are there end at or below the world's size -/
theorem KCl.tieB (hw : mWF w) (hT : mT w μ) (h : ev0C μ (xE x)) {t : Nat} (ht : t < eT (xE x)) : tbA μ t + 124 ≤ w.1 := by
  have h2 := KCl.at (x := x) hw hT h ht
  have h3 : mAt w (tbA μ t + 3) 223 := (hT (tbA μ t) 220 h2 5).2
  have h4 : 0 ≤ μ (tbA μ t + 3) 19 ∧ mAt w (μ (tbA μ t + 3) 19).toNat 200 := hT (tbA μ t + 3) 223 h3 19
  rw [((h.2.2.2.1.1 t ht).2.2 19 (by decide)).2, Int.toNat_natCast] at h4
  have h5 : mAt w (tbA μ t + 7 + 6 * 19 + 2) 202 := (hT (tbA μ t + 7 + 6 * 19) 200 h4.2 1).2
  have := h5.2.1
  omega
theorem KCl.domA (hw : mWF w) (hT : mT w μ) (h : ev0C μ (xE x)) {d : Nat} (hd : d < eD (xE x)) : mAt w (dbA μ d) 210 := by
  have g : (((d : Nat) : Int) < w.2.2.2 0 → 0 ≤ μ 10 d ∧ mAt w (μ 10 d).toNat 210) ∧ (¬ ((d : Nat) : Int) < w.2.2.2 0 → μ 10 d = -1) := hT 10 10 (A_10 hw) d
  have g0 : μ 6 15 = w.2.2.2 0 ∧ 0 ≤ μ 6 15 ∧ μ 6 15 ≤ 10 := hT 6 6 (A_6 hw) 15
  have e1 := h.2.2.1
  exact (g.1 (by omega)).2
theorem KCl.domB (hw : mWF w) (hT : mT w μ) (h : ev0C μ (xE x)) {d : Nat} (hd : d < eD (xE x)) : dbA μ d + 35 ≤ w.1 := by
  have h2 := KCl.domA (x := x) hw hT h hd
  have h3 : mAt w (dbA μ d + 4) 214 := (hT (dbA μ d) 210 h2 3).2
  have h4 : 0 ≤ μ (dbA μ d + 4) 9 ∧ mAt w (μ (dbA μ d + 4) 9).toNat 200 := hT (dbA μ d + 4) 214 h3 9
  rw [(h.2.2.2.1.2.1 d hd).2.2 9 (by decide), Int.toNat_natCast] at h4
  have h5 : mAt w (dbA μ d + 5 + 3 * 9 + 2) 202 := (hT (dbA μ d + 5 + 3 * 9) 200 h4.2 1).2
  have := h5.2.1
  omega
end Grow
/-! what a new domain's block holds -/
theorem BX0.refs : ∀ p : Fin 10, mKd (bS BX0 4) p.val = 2 ∧ bV BX0 4 p.val = ((5 + 3 * p.val : Nat) : Int) := by decide +kernel
theorem BX0.own : ∀ p : Fin 10, mKd (bS BX0 2) p.val = 0 ∧ bV BX0 2 p.val = -1 := by decide +kernel
theorem BX0.pick : ∀ p : Fin 10, mKd (bS BX0 3) p.val = 0 ∧ bV BX0 3 p.val = -99999999 := by decide +kernel
theorem BX0.rts : ∀ p : Fin 10, mKd (bS BX0 (5 + 3 * p.val)) 2 ≤ 1 ∧ bV BX0 (5 + 3 * p.val) 2 = 0 := by decide +kernel
theorem BX0.steps : ∀ i : Fin 5, mKd (bS BX0 1) i.val = 0 ∧ bV BX0 1 i.val = ((i.val + 1 : Nat) : Int) := by decide +kernel
theorem BX0.flds : (mKd (bS BX0 0) 4 ≤ 1 ∧ bV BX0 0 4 = 5) ∧ (mKd (bS BX0 0) 5 ≤ 1 ∧ bV BX0 0 5 = 0) := by decide +kernel
theorem shz.num {k kd : Nat} {z : Int} (h : kd ≤ 1) : shz k kd z = z := if_neg (by omega)
theorem shz.ref {k : Nat} {z : Int} (h : 0 ≤ z) : shz k 2 z = z + k := if_pos ⟨Nat.le_refl _, h⟩
theorem C_domain {w w1 : mW} {μ m : mM} {y : S2} {z n : Int} (hw : mWF w) (hT : mT w μ) (h : K2C w μ y) (k : K2X y) (en : μ 6 15 = n) (P : (n = 10 ∧ z = -3 ∧ w1 = w ∧ m = μ) ∨ (n ≤ 9 ∧ z = n ∧ w1 = wCt (wBlk w BX0) 0 ∧ m = mUp (mUp (mBlk w μ BX0) 10 n.toNat (w.1 : Int)) 6 15 (n + 1))) : z = (dom! y).1 ∧ K2C w1 m (dom! y).2 := by
  have big := mWF.big hw
  have eD' : μ 6 15 = (eD (xE (yX y)) : Int) := h.1.1.2.2.1
  rcases P with ⟨p1, p2, p3, p4⟩ | ⟨p1, p2, p3, p4⟩
  · have e : dom! y = (-3, y) := if_pos (by omega)
    rw [e, p2, p3, p4]; exact ⟨rfl, h⟩
  have e : dom! y = ((eD (xE (yX y)) : Int), dmY y) := if_neg (by omega)
  rw [e]
  have en' : n = (eD (xE (yX y)) : Int) := by omega
  subst en'
  rw [Int.toNat_natCast] at p4
  have f : ∀ a i, a < w.1 → ¬ (a = 6 ∧ i = 15) → ¬ (a = 10 ∧ i = eD (xE (yX y))) → m a i = μ a i := fun a i ha q1 q2 => by
    rw [p4, mUp.no (by omega), mUp.no (by omega)]
    exact if_pos ha
  have nb : ∀ j i, m (w.1 + j) i = shz w.1 (mKd (bS BX0 j) i) (bV BX0 j i) := fun j i => by
    rw [p4, mUp.no (by omega), mUp.no (by omega)]
    exact mBlk.at
  have nb0 : ∀ i, m w.1 i = shz w.1 (mKd (bS BX0 0) i) (bV BX0 0 i) := nb 0
  have m10 : m 10 (eD (xE (yX y))) = (w.1 : Int) := by rw [p4, mUp.no (by omega), mUp.yes ⟨rfl, rfl⟩]
  have m15 : m 6 15 = (eD (xE (yX y)) : Int) + 1 := by rw [p4, mUp.yes ⟨rfl, rfl⟩]
  have we : wE w w1 := by rw [p3]; exact wBlk.ext BX0_b
  have ub := k.1.2.1.2.2.2.2 (eD (xE (yX y))) (Nat.le_refl _)
  have us := k.1.2.2.2.2.2.1.2.2.2
  have jg : jgC w1 m (xJ (yX y)) := h.1.2.1.grow hw we fun a i ha q1 q2 q3 => f a i ha (by omega) (by omega)
  have tB := fun t ht => KCl.tieB (x := yX y) hw hT h.1.1 (t := t) ht
  have dB := fun d hd => KCl.domB (x := yX y) hw hT h.1.1 (d := d) hd
  have tb : ∀ t, tbA m t = tbA μ t := fun t => congrArg Int.toNat (f 11 t (by omega) (by omega) (by omega))
  have db : ∀ d, ¬ d = eD (xE (yX y)) → dbA m d = dbA μ d := fun d hd => congrArg Int.toNat (f 10 d (by omega) (by omega) (by omega))
  have dn : dbA m (eD (xE (yX y))) = w.1 := by
    show (m 10 (eD (xE (yX y)))).toNat = w.1
    rw [m10, Int.toNat_natCast]
  refine ⟨p2, ?_, ?_, ?_, ?_⟩
  · obtain ⟨⟨h1, h2, h3, ⟨l1, l2, l3, l4, l5, l6⟩, h5, h6⟩, _, rl, pl, sn, hh⟩ := h.1
    have ft : ∀ t j i, t < eT (xE (yX y)) → j < 124 → m (tbA μ t + j) i = μ (tbA μ t + j) i := fun t j i ht hj => f _ i (by have := tB t ht; omega) (by have := (l1 t ht).2.1; omega) (by have := (l1 t ht).2.1; omega)
    have fd : ∀ d j i, d < eD (xE (yX y)) → j < 35 → m (dbA μ d + j) i = μ (dbA μ d + j) i := fun d j i hd hj => f _ i (by have := dB d hd; omega) (by have := (l2 d hd).2.1; omega) (by have := (l2 d hd).2.1; omega)
    refine ⟨⟨by rw [f _ _ (by omega) (by omega) (by omega)]; exact h1, by rw [f _ _ (by omega) (by omega) (by omega)]; exact h2, m15, ⟨fun t ht => ?_, fun d hd => ?_, fun t s ht hs hne => ?_, fun d e hd he hne => ?_, fun t d ht hd => ?_, fun i hi => by rw [f _ _ (by omega) (by omega) (by omega)]; exact l6 i hi⟩, fun t ht => ?_, fun d hd => ?_⟩, jg, fun t s ht hs => ?_, fun t i ht hi => by rw [f _ _ (by omega) (by omega) (by omega)]; exact pl t i ht hi, ?_, hC.of (fun b i hb => f b i (by omega) (by omega) (by omega)) hh⟩
    · obtain ⟨a1, a2, a3⟩ := l1 t ht
      rw [tb]
      exact ⟨by rw [f 11 t (by omega) (by omega) (by omega)]; exact a1, a2, fun q hq => by rw [ft t 2 q ht (by omega), ft t 3 q ht (by omega)]; exact a3 q hq⟩
    · have hd : d < eD (xE (yX y)) + 1 := hd
      by_cases c : d = eD (xE (yX y))
      · subst c
        rw [dn, m10]
        refine ⟨rfl, big, fun p hp => ?_⟩
        obtain ⟨q1, q2⟩ := BX0.refs ⟨p, hp⟩
        have q1 : mKd (bS BX0 4) p = 2 := q1
        have q2 : bV BX0 4 p = ((5 + 3 * p : Nat) : Int) := q2
        rw [nb, q1, q2, shz.ref (by omega)]
        omega
      · obtain ⟨a1, a2, a3⟩ := l2 d (by omega)
        rw [db d c, f 10 d (by omega) (by omega) (by omega)]
        exact ⟨a1, a2, fun p hp => by rw [fd d 4 p (by omega) (by omega)]; exact a3 p hp⟩
    · rw [tb, tb]; exact l3 t s ht hs hne
    · have hd : d < eD (xE (yX y)) + 1 := hd
      have he : e < eD (xE (yX y)) + 1 := he
      by_cases c : d = eD (xE (yX y))
      · have ce : ¬ e = eD (xE (yX y)) := fun q => hne (c.trans q.symm)
        rw [c, dn, db e ce]
        exact Or.inr (dB e (by omega))
      · by_cases ce : e = eD (xE (yX y))
        · rw [ce, dn, db d c]
          exact Or.inl (dB d (by omega))
        · rw [db d c, db e ce]
          exact l4 d e (by omega) (by omega) hne
    · have hd : d < eD (xE (yX y)) + 1 := hd
      rw [tb]
      by_cases c : d = eD (xE (yX y))
      · rw [c, dn]
        exact Or.inl (tB t ht)
      · rw [db d c]; exact l5 t d ht (by omega)
    · have f0 : ∀ i, m (tbA μ t) i = μ (tbA μ t) i := fun i => ft t 0 i ht (by omega)
      obtain ⟨a1, a2, a3, a4, a5, a6⟩ := h5 t ht
      rw [tb, f0, f0, f0, f0, f0]
      exact ⟨a1, a2, a3, a4, a5, fun i hi => by rw [ft t 1 i ht (by omega)]; exact a6 i hi⟩
    · have hd : d < eD (xE (yX y)) + 1 := hd
      by_cases c : d = eD (xE (yX y))
      · subst c
        rw [dn]
        refine ⟨fun p hp => ?_, ?_, ?_⟩
        · obtain ⟨q1, q2⟩ := BX0.own ⟨p, hp⟩
          have q1 : mKd (bS BX0 2) p = 0 := q1
          have q2 : bV BX0 2 p = -1 := q2
          rw [nb, q1, q2, shz.num (by decide)]
          exact (ub.1 p hp).symm
        · show rowL (m (w.1 + 1)) (m w.1 4).toNat = eSt (xE (yX y)) (eD (xE (yX y)))
          rw [ub.2.1, nb0, shz.num BX0.flds.1.1, BX0.flds.1.2]
          have r : ∀ i : Nat, i < 5 → m (w.1 + 1) i = ((i + 1 : Nat) : Int) := fun i hi => by
            obtain ⟨q1, q2⟩ := BX0.steps ⟨i, hi⟩
            have q1 : mKd (bS BX0 1) i = 0 := q1
            have q2 : bV BX0 1 i = ((i + 1 : Nat) : Int) := q2
            rw [nb, q1, q2, shz.num (by decide)]
          exact (rowL.ext (f := fun i => ((i + 1 : Nat) : Int)) r).trans rfl
        · show m w.1 5 = eGr (xE (yX y)) (eD (xE (yX y)))
          rw [ub.2.2, nb0, shz.num BX0.flds.2.1, BX0.flds.2.2]
      · obtain ⟨a1, a2, a3⟩ := h6 d (by omega)
        have f0 : ∀ i, m (dbA μ d) i = μ (dbA μ d) i := fun i => fd d 0 i (by omega) (by omega)
        rw [db d c, f0, f0]
        refine ⟨fun p hp => by rw [fd d 2 p (by omega) (by omega)]; exact a1 p hp, ?_, a3⟩
        show rowL (m (dbA μ d + 1)) _ = eSt (xE (yX y)) d
        rw [rowL.ext (f := μ (dbA μ d + 1)) fun i _ => fd d 1 i (by omega) (by omega)]
        exact a2
    · have f0 : ∀ i, m (tbA μ t) i = μ (tbA μ t) i := fun i => ft t 0 i ht (by omega)
      show roK (m (tbA m t) 2) s = _
      rw [tb, f0]; exact rl t s ht hs
    · have sn' : snC m (xE (yX y)) (xS (yX y)) := snC.cgD (E := xE (yX y)) sn (fun i _ => f _ _ (by omega) (by omega) (by omega)) (fun i hi => f _ _ (by omega) (by omega) (by omega)) (fun t b i ht q1 q2 => f b i (by have := tB t ht; omega) (by have := (l1 t ht).2.1; omega) (by have := (l1 t ht).2.1; omega)) (fun d b i hd q1 => f b i (by have := dB d hd; omega) (by have := (l2 d hd).2.1; omega) (by have := (l2 d hd).2.1; omega)) (fun i _ _ => f _ _ (by omega) (by omega) (by omega)) (fun i => f _ _ (by omega) (by omega) (by omega)) (fun i => f _ _ (by omega) (by omega) (by omega)) (fun b i _ _ => f _ _ (by omega) (by omega) (by omega))
      refine ⟨sn'.1, fun d p hd hp => ?_, sn'.2.2⟩
      have hd : d < eD (xE (yX y)) + 1 := hd
      by_cases c : d = eD (xE (yX y))
      · subst c
        show m (dbA m (eD (xE (yX y))) + 3) p = (sPk (xS (yX y)) (10 * eD (xE (yX y)) + p)).1 ∧ rtC m (dbA m (eD (xE (yX y))) + 5 + 3 * p) = (sPk (xS (yX y)) (10 * eD (xE (yX y)) + p)).2
        rw [dn, us (10 * eD (xE (yX y)) + p) (by omega)]
        obtain ⟨q1, q2⟩ := BX0.pick ⟨p, hp⟩
        have q1 : mKd (bS BX0 3) p = 0 := q1
        have q2 : bV BX0 3 p = -99999999 := q2
        obtain ⟨q3, q4⟩ := BX0.rts ⟨p, hp⟩
        have q3 : mKd (bS BX0 (5 + 3 * p)) 2 ≤ 1 := q3
        have q4 : bV BX0 (5 + 3 * p) 2 = 0 := q4
        refine ⟨by rw [nb, q1, q2, shz.num (by decide)], rtC.nil ?_⟩
        rw [show w.1 + 5 + 3 * p = w.1 + (5 + 3 * p) by omega, nb, shz.num q3, q4]
      · exact sn'.2.1 d p (by omega) hp
  · refine ⟨by rw [f _ _ (by omega) (by omega) (by omega)]; exact h.2.1.1, fun i hi => ?_⟩
    rw [f 14 i (by omega) (by omega) (by omega), f 15 i (by omega) (by omega) (by omega), f 16 i (by omega) (by omega) (by omega), f 17 i (by omega) (by omega) (by omega), f 18 i (by omega) (by omega) (by omega), f 19 i (by omega) (by omega) (by omega), f 20 i (by omega) (by omega) (by omega)]
    exact h.2.1.2 i hi
  · rw [f _ _ (by omega) (by omega) (by omega)]; exact h.2.2.1
  · intro i hi
    rw [f _ _ (by omega) (by omega) (by omega)]; exact h.2.2.2 i hi
end
section
/-! The class: a new tie, as a state (behind eng61: teC, tieA). -/
theorem BX9.hr : ∀ p : Fin 20, mKd (bS BX9 2) p.val = 2 ∧ bV BX9 2 p.val = ((4 + 6 * p.val : Nat) : Int) := by decide +kernel
theorem BX9.sd : ∀ p : Fin 20, mKd (bS BX9 3) p.val = 2 ∧ bV BX9 3 p.val = ((7 + 6 * p.val : Nat) : Int) := by decide +kernel
theorem BX9.pls : ∀ p : Fin 4, mKd (bS BX9 1) p.val = 0 ∧ bV BX9 1 p.val = -99999999 := by decide +kernel
theorem BX9.hrR : ∀ p : Fin 20, mKd (bS BX9 (4 + 6 * p.val)) 2 ≤ 1 ∧ bV BX9 (4 + 6 * p.val) 2 = 0 := by decide +kernel
theorem BX9.sdR : ∀ p : Fin 20, (mKd (bS BX9 (7 + 6 * p.val)) 2 ≤ 1 ∧ bV BX9 (7 + 6 * p.val) 2 = 0) ∧ (mKd (bS BX9 (7 + 6 * p.val)) 9 ≤ 1 ∧ bV BX9 (7 + 6 * p.val) 9 = -1) := by decide +kernel
theorem BX9.flds : (mKd (bS BX9 0) 6 ≤ 1 ∧ bV BX9 0 6 = 1) ∧ (mKd (bS BX9 0) 7 ≤ 1 ∧ bV BX9 0 7 = 1) ∧ (mKd (bS BX9 0) 8 ≤ 1 ∧ bV BX9 0 8 = 0) := by decide +kernel
theorem C_tie {w w1 : mW} {μ m : mM} {y : S2} {z a b k : Int} (hw : mWF w) (hT : mT w μ) (h : K2C w μ y) (kx : K2X y) (A : tieA (noneQ (tc μ 0) (tc μ 1) (μ 6 16) a b) (μ 6 15) (μ 6 16) a b k z) (P : teC w μ w1 m a b k z) : z = (tie! y a b k).1 ∧ K2C w1 m (tie! y a b k).2 := by
  have big := mWF.big hw
  have t20 := kx.1.2.1.1.2.2.1
  have eD' : μ 6 15 = (eD (xE (yX y)) : Int) := h.1.1.2.2.1
  have eT' : μ 6 16 = (eT (xE (yX y)) : Int) := h.1.1.1
  have nn : noneQ (tc μ 0) (tc μ 1) (μ 6 16) a b ↔ ∀ t, t < eT (xE (yX y)) → ¬ btw (xE (yX y)) a b t := by
    have q : ∀ t, t < eT (xE (yX y)) → (matQ (tc μ 0) (tc μ 1) t a b ↔ btw (xE (yX y)) a b t) := fun t ht => by
      obtain ⟨a1, a2, _⟩ := h.1.1.2.2.2.2.1 t ht
      unfold matQ btw tc
      rw [show (μ 11 t).toNat = tbA μ t from rfl, a1, a2]
    exact ⟨fun g t ht hb => g t (by omega) ((q t ht).mpr hb), fun g i hi hb => g i (by omega) ((q i (by omega)).mp hb)⟩
  have same : z < 0 → w1 = w ∧ m = μ := fun hz => by
    rcases P with ⟨q, _⟩ | ⟨_, q⟩
    · omega
    · exact q
  rcases A with ⟨c1, c2⟩ | ⟨c1, c2⟩
  · obtain ⟨e1, e2⟩ := same (by omega)
    have e : tie! y a b k = (-1, y) := cIf.neg fun g => by unfold tieB at c1; have g1 := g.1; have g2 := g.2.1; have g3 := g.2.2.1; have g4 := g.2.2.2; omega
    rw [e, c2, e1, e2]; exact ⟨rfl, h⟩
  have ok : tieO (xE (yX y)) a b k := by
    unfold tieB at c1
    exact ⟨by omega, by omega, by omega, by omega⟩
  rcases c2 with ⟨c2, c3⟩ | ⟨c2, c3⟩
  · obtain ⟨e1, e2⟩ := same (by omega)
    have ex : ∃ t, t < eT (xE (yX y)) ∧ btw (xE (yX y)) a b t := by
      apply Classical.byContradiction
      intro q
      exact c2 (nn.mpr fun t ht hb => q ⟨t, ht, hb⟩)
    have e : tie! y a b k = (-2, y) := (cIf.pos ok).trans (cIf.pos ex)
    rw [e, c3, e1, e2]; exact ⟨rfl, h⟩
  have no := nn.mp c2
  rcases c3 with ⟨c3, c4⟩ | ⟨c3, c4⟩
  · obtain ⟨e1, e2⟩ := same (by omega)
    rw [tie!.full ok no (by omega), c4, e1, e2]; exact ⟨rfl, h⟩
  rw [tie!.is ok no (by omega)]
  have P : w1 = wCt (wBlk w BX9) 1 ∧ m = mUp (mUp (mUp (mUp (mUp (mBlk w μ BX9) w.1 0 a) w.1 1 b) w.1 2 k) 11 (μ 6 16).toNat (w.1 : Int)) 6 16 (μ 6 16 + 1) := by
    rcases P with ⟨_, q⟩ | ⟨q, _⟩
    · exact q
    · omega
  obtain ⟨p3, p4⟩ := P
  rw [eT', Int.toNat_natCast] at p4
  have f : ∀ c i, c < w.1 → ¬ (c = 6 ∧ i = 16) → ¬ (c = 11 ∧ i = eT (xE (yX y))) → m c i = μ c i := fun c i hc q1 q2 => by
    rw [p4, mUp.no (by omega), mUp.no (by omega), mUp.no (by omega), mUp.no (by omega), mUp.no (by omega)]
    exact if_pos hc
  have nb : ∀ j i, ¬ (j = 0 ∧ i ≤ 2) → m (w.1 + j) i = shz w.1 (mKd (bS BX9 j) i) (bV BX9 j i) := fun j i q => by
    rw [p4, mUp.no (by omega), mUp.no (by omega), mUp.no (by omega), mUp.no (by omega), mUp.no (by omega)]
    exact mBlk.at
  have nb0 : ∀ i, 2 < i → m w.1 i = shz w.1 (mKd (bS BX9 0) i) (bV BX9 0 i) := fun i hi => nb 0 i (by omega)
  have w0 : m w.1 0 = a := by rw [p4, mUp.no (by omega), mUp.no (by omega), mUp.no (by omega), mUp.no (by omega), mUp.yes ⟨rfl, rfl⟩]
  have w1' : m w.1 1 = b := by rw [p4, mUp.no (by omega), mUp.no (by omega), mUp.no (by omega), mUp.yes ⟨rfl, rfl⟩]
  have w2 : m w.1 2 = k := by rw [p4, mUp.no (by omega), mUp.no (by omega), mUp.yes ⟨rfl, rfl⟩]
  have m11 : m 11 (eT (xE (yX y))) = (w.1 : Int) := by rw [p4, mUp.no (by omega), mUp.yes ⟨rfl, rfl⟩]
  have m16 : m 6 16 = (eT (xE (yX y)) : Int) + 1 := by rw [p4, mUp.yes ⟨rfl, rfl⟩]
  have we : wE w w1 := by rw [p3]; exact wBlk.ext BX9_b
  have us := kx.1.2.2.2.2.2.1.2.2.1
  have jg : jgC w1 m (xJ (yX y)) := h.1.2.1.grow hw we fun c i hc q1 q2 q3 => f c i hc (by omega) (by omega)
  have tB := fun t ht => KCl.tieB (x := yX y) hw hT h.1.1 (t := t) ht
  have dB := fun d hd => KCl.domB (x := yX y) hw hT h.1.1 (d := d) hd
  have db : ∀ d, dbA m d = dbA μ d := fun d => congrArg Int.toNat (f 10 d (by omega) (by omega) (by omega))
  have tb : ∀ t, ¬ t = eT (xE (yX y)) → tbA m t = tbA μ t := fun t ht => congrArg Int.toNat (f 11 t (by omega) (by omega) (by omega))
  have tn : tbA m (eT (xE (yX y))) = w.1 := by
    show (m 11 (eT (xE (yX y)))).toNat = w.1
    rw [m11, Int.toNat_natCast]
  refine ⟨by show z = (eT (xE (yX y)) : Int); omega, ?_, ?_, ?_, ?_⟩
  · obtain ⟨⟨h1, h2, h3, ⟨l1, l2, l3, l4, l5, l6⟩, h5, h6⟩, _, rl, pl, sn, hh⟩ := h.1
    have ft : ∀ t j i, t < eT (xE (yX y)) → j < 124 → m (tbA μ t + j) i = μ (tbA μ t + j) i := fun t j i ht hj => f _ i (by have := tB t ht; omega) (by have := (l1 t ht).2.1; omega) (by have := (l1 t ht).2.1; omega)
    have fd : ∀ d j i, d < eD (xE (yX y)) → j < 35 → m (dbA μ d + j) i = μ (dbA μ d + j) i := fun d j i hd hj => f _ i (by have := dB d hd; omega) (by have := (l2 d hd).2.1; omega) (by have := (l2 d hd).2.1; omega)
    refine ⟨⟨m16, by rw [f _ _ (by omega) (by omega) (by omega)]; exact h2, by rw [f _ _ (by omega) (by omega) (by omega)]; exact h3, ⟨fun t ht => ?_, fun d hd => ?_, fun t s ht hs hne => ?_, fun d e hd he hne => ?_, fun t d ht hd => ?_, fun i hi => by rw [f _ _ (by omega) (by omega) (by omega)]; exact l6 i hi⟩, fun t ht => ?_, fun d hd => ?_⟩, jg, fun t s ht hs => ?_, fun t i ht hi => ?_, ?_, hC.of (fun b i hb => f b i (by omega) (by omega) (by omega)) hh⟩
    · have ht : t < eT (xE (yX y)) + 1 := ht
      by_cases c : t = eT (xE (yX y))
      · subst c
        rw [tn, m11]
        refine ⟨rfl, big, fun p hp => ?_⟩
        obtain ⟨q1, q2⟩ := BX9.hr ⟨p, hp⟩
        have q1 : mKd (bS BX9 2) p = 2 := q1
        have q2 : bV BX9 2 p = ((4 + 6 * p : Nat) : Int) := q2
        obtain ⟨q3, q4⟩ := BX9.sd ⟨p, hp⟩
        have q3 : mKd (bS BX9 3) p = 2 := q3
        have q4 : bV BX9 3 p = ((7 + 6 * p : Nat) : Int) := q4
        rw [nb 2 p (by omega), nb 3 p (by omega), q1, q2, q3, q4, shz.ref (by omega), shz.ref (by omega)]
        omega
      · obtain ⟨a1, a2, a3⟩ := l1 t (by omega)
        rw [tb t c, f 11 t (by omega) (by omega) (by omega)]
        exact ⟨a1, a2, fun q hq => by rw [ft t 2 q (by omega) (by omega), ft t 3 q (by omega) (by omega)]; exact a3 q hq⟩
    · obtain ⟨a1, a2, a3⟩ := l2 d hd
      rw [db, f 10 d (by omega) (by omega) (by omega)]
      exact ⟨a1, a2, fun p hp => by rw [fd d 4 p hd (by omega)]; exact a3 p hp⟩
    · have ht : t < eT (xE (yX y)) + 1 := ht
      have hs : s < eT (xE (yX y)) + 1 := hs
      by_cases c : t = eT (xE (yX y))
      · have cs : ¬ s = eT (xE (yX y)) := fun q => hne (c.trans q.symm)
        rw [c, tn, tb s cs]
        exact Or.inr (tB s (by omega))
      · by_cases cs : s = eT (xE (yX y))
        · rw [cs, tn, tb t c]
          exact Or.inl (tB t (by omega))
        · rw [tb t c, tb s cs]
          exact l3 t s (by omega) (by omega) hne
    · rw [db, db]; exact l4 d e hd he hne
    · have ht : t < eT (xE (yX y)) + 1 := ht
      rw [db]
      by_cases c : t = eT (xE (yX y))
      · rw [c, tn]
        exact Or.inr (dB d hd)
      · rw [tb t c]; exact l5 t d (by omega) hd
    · have ht : t < eT (xE (yX y)) + 1 := ht
      show m (tbA m t) 0 = up1 (eA (xE (yX y))) (eT (xE (yX y))) a t ∧ m (tbA m t) 1 = up1 (eB (xE (yX y))) (eT (xE (yX y))) b t ∧ m (tbA m t) 6 = up1 (eU (xE (yX y))) (eT (xE (yX y))) 1 t ∧ m (tbA m t) 7 = up1 (eL (xE (yX y))) (eT (xE (yX y))) 1 t ∧ m (tbA m t) 8 = up1 (eG (xE (yX y))) (eT (xE (yX y))) 0 t ∧ ∀ i, i < 4 → m (tbA m t + 1) i = if 4 * eT (xE (yX y)) ≤ 4 * t + i then -99999999 else ePl (xE (yX y)) (4 * t + i)
      by_cases c : t = eT (xE (yX y))
      · subst c
        rw [tn, up1.at, up1.at, up1.at, up1.at, up1.at, nb0 6 (by omega), nb0 7 (by omega), nb0 8 (by omega), shz.num BX9.flds.1.1, shz.num BX9.flds.2.1.1, shz.num BX9.flds.2.2.1]
        refine ⟨w0, w1', BX9.flds.1.2, BX9.flds.2.1.2, BX9.flds.2.2.2, fun i hi => ?_⟩
        obtain ⟨q1, q2⟩ := BX9.pls ⟨i, hi⟩
        have q1 : mKd (bS BX9 1) i = 0 := q1
        have q2 : bV BX9 1 i = -99999999 := q2
        rw [if_pos (by omega), nb 1 i (by omega), q1, q2, shz.num (by decide)]
      · obtain ⟨b1, b2, b3, b4, b5, b6⟩ := h5 t (by omega)
        have f0 : ∀ i, m (tbA μ t) i = μ (tbA μ t) i := fun i => ft t 0 i (by omega) (by omega)
        rw [tb t c, up1.ne c, up1.ne c, up1.ne c, up1.ne c, up1.ne c, f0, f0, f0, f0, f0]
        exact ⟨b1, b2, b3, b4, b5, fun i hi => by rw [if_neg (by omega), ft t 1 i (by omega) (by omega)]; exact b6 i hi⟩
    · obtain ⟨a1, a2, a3⟩ := h6 d hd
      have f0 : ∀ i, m (dbA μ d) i = μ (dbA μ d) i := fun i => fd d 0 i hd (by omega)
      rw [db, f0, f0]
      refine ⟨fun p hp => by rw [fd d 2 p hd (by omega)]; exact a1 p hp, ?_, a3⟩
      show rowL (m (dbA μ d + 1)) _ = eSt (xE (yX y)) d
      rw [rowL.ext (f := μ (dbA μ d + 1)) fun i _ => fd d 1 i hd (by omega)]
      exact a2
    · have ht : t < eT (xE (yX y)) + 1 := ht
      show roK (m (tbA m t) 2) s = jR (jt! (xJ (yX y)) a b k) (eN (ti! (xE (yX y)) _ a b) t s) (eN (ti! (xE (yX y)) _ a b) t (1 - s))
      by_cases c : t = eT (xE (yX y))
      · subst c
        rw [tn, w2, jt!.new ok.2.2.1 hs]
      · have f0 : ∀ i, m (tbA μ t) i = μ (tbA μ t) i := fun i => ft t 0 i (by omega) (by omega)
        rw [tb t c, f0, jt!.old no (by omega) hs]
        exact rl t s (by omega) hs
    · have ht : t < eT (xE (yX y)) + 1 := ht
      show plO (m 21 8) (if 4 * eT (xE (yX y)) ≤ 4 * t + i then -99999999 else ePl (xE (yX y)) (4 * t + i))
      by_cases c : t = eT (xE (yX y))
      · rw [if_pos (by omega)]; exact Or.inl rfl
      · rw [if_neg (by omega), f _ _ (by omega) (by omega) (by omega)]
        exact pl t i (by omega) hi
    · have sn' : snC m (xE (yX y)) (xS (yX y)) := snC.cgD (E := xE (yX y)) sn (fun i hi => f _ _ (by omega) (by omega) (by omega)) (fun i hi => f _ _ (by omega) (by omega) (by omega)) (fun t c i ht q1 q2 => f c i (by have := tB t ht; omega) (by have := (l1 t ht).2.1; omega) (by have := (l1 t ht).2.1; omega)) (fun d c i hd q1 => f c i (by have := dB d hd; omega) (by have := (l2 d hd).2.1; omega) (by have := (l2 d hd).2.1; omega)) (fun i _ _ => f _ _ (by omega) (by omega) (by omega)) (fun i => f _ _ (by omega) (by omega) (by omega)) (fun i => f _ _ (by omega) (by omega) (by omega)) (fun c i _ _ => f _ _ (by omega) (by omega) (by omega))
      refine ⟨fun t p ht hp => ?_, sn'.2.1, sn'.2.2⟩
      have ht : t < eT (xE (yX y)) + 1 := ht
      by_cases c : t = eT (xE (yX y))
      · subst c
        show rtC m (tbA m (eT (xE (yX y))) + 4 + 6 * p) = sHd (xS (yX y)) (20 * eT (xE (yX y)) + p) ∧ (¬ sHd (xS (yX y)) (20 * eT (xE (yX y)) + p) = none → m (tbA m (eT (xE (yX y))) + 4 + 6 * p) 9 = sHw (xS (yX y)) (20 * eT (xE (yX y)) + p)) ∧ rtC m (tbA m (eT (xE (yX y))) + 7 + 6 * p) = (sSd (xS (yX y)) (20 * eT (xE (yX y)) + p)).1 ∧ m (tbA m (eT (xE (yX y))) + 7 + 6 * p) 9 = (sSd (xS (yX y)) (20 * eT (xE (yX y)) + p)).2
        obtain ⟨u1, u2⟩ := us (20 * eT (xE (yX y)) + p) (by omega)
        obtain ⟨q3, q4⟩ := BX9.hrR ⟨p, hp⟩
        have q3 : mKd (bS BX9 (4 + 6 * p)) 2 ≤ 1 := q3
        have q4 : bV BX9 (4 + 6 * p) 2 = 0 := q4
        obtain ⟨⟨q5, q6⟩, q7, q8⟩ := BX9.sdR ⟨p, hp⟩
        have q5 : mKd (bS BX9 (7 + 6 * p)) 2 ≤ 1 := q5
        have q6 : bV BX9 (7 + 6 * p) 2 = 0 := q6
        have q7 : mKd (bS BX9 (7 + 6 * p)) 9 ≤ 1 := q7
        have q8 : bV BX9 (7 + 6 * p) 9 = -1 := q8
        rw [tn, u1, u2, show w.1 + 4 + 6 * p = w.1 + (4 + 6 * p) by omega, show w.1 + 7 + 6 * p = w.1 + (7 + 6 * p) by omega]
        exact ⟨rtC.nil (by rw [nb _ _ (by omega), shz.num q3, q4]), fun g => absurd rfl g, rtC.nil (by rw [nb _ _ (by omega), shz.num q5, q6]), by rw [nb _ _ (by omega), shz.num q7, q8]⟩
      · exact sn'.1 t p (by omega) hp
  · refine ⟨by rw [f _ _ (by omega) (by omega) (by omega)]; exact h.2.1.1, fun i hi => ?_⟩
    rw [f 14 i (by omega) (by omega) (by omega), f 15 i (by omega) (by omega) (by omega), f 16 i (by omega) (by omega) (by omega), f 17 i (by omega) (by omega) (by omega), f 18 i (by omega) (by omega) (by omega), f 19 i (by omega) (by omega) (by omega), f 20 i (by omega) (by omega) (by omega)]
    exact h.2.1.2 i hi
  · rw [f _ _ (by omega) (by omega) (by omega)]; exact h.2.2.1
  · intro i hi
    rw [f _ _ (by omega) (by omega) (by omega)]; exact h.2.2.2 i hi
end
section
/-! Steps of a state, with rights and the day. -/
abbrev l2C : List Nat := [6017, 6018, 9999, 14999, 15999, 16999, 17999, 18999, 19999, 20999]
abbrev l2R : List Nat := [106017, 106018, 119999, 120999, 121999, 122999, 123999, 124999, 125999]
def y2 (x : St) (y : S2) : S2 := (x, yR y, yD y)
section Lift
variable {w : mW} {μ m : mM} {y : S2} {x : St}
theorem K2C.up {lf : List Nat} (hw : mWF w) (h : K2C w μ y) (F : mF lf w μ m) (hl : (l2C.all fun r => !lf.elem r) = true) (K : KCl w m x) (hP : eP (xE x) = eP (xE (yX y))) (hJ : jL (xJ x) = jL (xJ (yX y))) : K2C w m (y2 x y) := by
  refine ⟨K, ⟨F.f (A_6 hw) (qA_no hl rfl) h.2.1.1, fun i hi => ?_⟩, F.f (A_6 hw) (qA_no hl rfl) h.2.2.1, fun i hi => ?_⟩
  · obtain ⟨a1, a2, a3, a4, a5, a6, a7⟩ := h.2.1.2 i hi
    exact ⟨F.f (A_14 hw) (qA_no hl rfl) a1, F.f (A_15 hw) (qA_no hl rfl) a2, F.f (A_16 hw) (qA_no hl rfl) a3, F.f (A_17 hw) (qA_no hl rfl) a4, F.f (A_18 hw) (qA_no hl rfl) a5, F.f (A_19 hw) (qA_no hl rfl) a6, F.f (A_20 hw) (qA_no hl rfl) a7⟩
  · have hi : i < eP (xE x) := hi
    show m 9 i = mskF (jL (xJ x) i)
    rw [hJ]
    exact F.f (A_9 hw) (qA_no hl rfl) (h.2.2.2 i (by omega))
theorem K2R.up {lf : List Nat} (hw : mWF w) (h : K2R μ y) (F : mF lf w μ m) (hl : (l2R.all fun r => !lf.elem r) = true) (K : KRf m x) : K2R m (y2 x y) := by
  refine ⟨K, ⟨F.f (A_106 hw) (qA_no hl rfl) h.2.1.1, fun i hi => ?_⟩, F.f (A_106 hw) (qA_no hl rfl) h.2.2⟩
  obtain ⟨a1, a2, a3, a4, a5, a6, a7⟩ := h.2.1.2 i hi
  exact ⟨F.f (A_119 hw) (qA_no hl rfl) a1, F.f (A_120 hw) (qA_no hl rfl) a2, F.f (A_121 hw) (qA_no hl rfl) a3, F.f (A_122 hw) (qA_no hl rfl) a4, F.f (A_123 hw) (qA_no hl rfl) a5, F.f (A_124 hw) (qA_no hl rfl) a6, F.f (A_125 hw) (qA_no hl rfl) a7⟩
theorem K2X.up (k : K2X y) (K : kxS (yX y) x) (hP : eP (xE x) = eP (xE (yX y))) (hJ : xJ x = xJ (yX y)) : k2S y (y2 x y) := by
  obtain ⟨k0, ro, pf, hd, jv⟩ := k
  refine ⟨⟨K.1, ?_, ?_, hd, ?_⟩, K.2⟩
  · show rgO (yR y) (eP (xE x))
    rw [hP]; exact ro
  · show pfO (jA (xJ x)) (jL (xJ x)) (eP (xE x))
    rw [hP, hJ]; exact pf
  · show jV (xJ x) = vdJ (jA (xJ x)) (jL (xJ x)) (yR y) (yD y)
    rw [hJ]; exact jv
end Lift
end
section
/-! The class's reader by its weakest preconditions: small calls, and what they are to the machine. -/
/-- the whole text is read without a fault: what was laid down, rows, places -/
def rcE (B : Int → Int) (c : Int) (u : Out) (r m : Int) : Prop := ∃ p, rcO (wrW B) mskF B c (0, 0, 0, 0, 0, 0) (0, p, r, m, 0, 0) u ∧ ∃ v f q, TokX (wrW B) B p (-1) v f q
theorem rcE.uniq {B : Int → Int} {c r m r' m' : Int} {u u' : Out} (h : rcE B c u r m) (g : rcE B c u' r' m') : u = u' ∧ r = r' ∧ m = m' := by
  obtain ⟨p, ⟨n, h1⟩, v, f, q, h2⟩ := h
  obtain ⟨p', ⟨n', g1⟩, v', f', q', g2⟩ := g
  have a : rcP (wrW B) mskF B c (0, 0, 0, 0, 0, 0) ou0 (n + 1) (erC 0 0) (ouNew u) := ⟨_, _, h1, show ¬ (0 : Int) = -1 by decide, -1, v, f, q, h2, rfl, rfl⟩
  have b : rcP (wrW B) mskF B c (0, 0, 0, 0, 0, 0) ou0 (n' + 1) (erC 0 0) (ouNew u') := ⟨_, _, g1, show ¬ (0 : Int) = -1 by decide, -1, v', f', q', g2, rfl, rfl⟩
  have e : n = n' := by
    rcases Nat.lt_trichotomy n n' with l | l | l
    · obtain ⟨d, rfl⟩ := Nat.exists_eq_add_of_lt l
      obtain ⟨x, x1, x2⟩ := rcN.pre (n + 1) d (show rcN (wrW B) mskF B c (n + 1 + d) (0, 0, 0, 0, 0, 0) (0, p', r', m', 0, 0) by rw [show n + 1 + d = n + d + 1 by omega]; exact rcP.rc _ g1)
      have e := rcN.uniq wrW.uniq (n + 1) (rcP.rc _ a) x1
      subst e
      have e2 := rcN.end d x2
      exact absurd (congrArg (fun z : Cfg => z.1) e2) (show ¬ (0 : Int) = -1 by decide)
    · exact l
    · obtain ⟨d, rfl⟩ := Nat.exists_eq_add_of_lt l
      obtain ⟨x, x1, x2⟩ := rcN.pre (n' + 1) d (show rcN (wrW B) mskF B c (n' + 1 + d) (0, 0, 0, 0, 0, 0) (0, p, r, m, 0, 0) by rw [show n' + 1 + d = n' + d + 1 by omega]; exact rcP.rc _ h1)
      have e := rcN.uniq wrW.uniq (n' + 1) (rcP.rc _ b) x1
      subst e
      have e2 := rcN.end d x2
      exact absurd (congrArg (fun z : Cfg => z.1) e2) (show ¬ (0 : Int) = -1 by decide)
  subst e
  obtain ⟨e1, e2⟩ := rcP.uniq wrW.uniq n h1 g1
  exact ⟨e2, congrArg (fun z : Cfg => z.2.2.1) e1, congrArg (fun z : Cfg => z.2.2.2.1) e1⟩
theorem CSo.dn {μ : mM} {r m : Int} {u : Out} (h : CSo μ (fun p => (0, p, r, m, 0, 0)) u) (hf : μ 23 18 = 0) (ht : cT μ = -1) : rcE (bC 1 μ) (μ 23 14) u r m := by
  obtain ⟨p, h1, h2⟩ := h hf
  obtain ⟨_, q, g1⟩ := h1.end ht
  exact ⟨p, h2, _, _, q, g1⟩
theorem RSo.dn {μ : mM} {r m : Int} {u : Out} (h : RSo μ (fun p => (0, p, r, m, 0, 0)) u) (hf : μ 106 37 = 0) (ht : μ 106 35 = 0) : rcE (bR μ) (μ 106 39) u r m := by
  obtain ⟨p, t, v, q, h1, h2, h3, h4, h5⟩ := h hf
  have e : t = -1 := h3.fin.mpr ht
  subst e
  exact ⟨p, h5, v, _, q, h1⟩
def frA (μ m : mM) : Prop := ∀ b i, ¬ (b = 23 ∧ (i = 9 ∨ i = 18 ∨ i = 19)) → m b i = μ b i
theorem frA.refl {μ : mM} : frA μ μ := fun _ _ _ => rfl
theorem frA.trans {μ m n : mM} (h : frA μ m) (k : frA m n) : frA μ n := fun b i q => (k b i q).trans (h b i q)
theorem frA.tb {μ m : mM} (h : frA μ m) : tbC μ m := ⟨⟨funext fun i => h 24 i (by omega), funext fun i => h 25 i (by omega), funext fun i => h 26 i (by omega), h 23 8 (by omega)⟩, funext fun i => h 1 i (by omega), h 0 10 (by omega), h 23 14 (by omega)⟩
/-- code is put: l behind what stands -/
def puF (μ m : mM) : Prop := ∀ b i, ¬ (b = 23 ∧ i = 11) → ¬ b = 27 → m b i = μ b i
def puK (μ m : mM) (l : List Int) : Prop := m 23 11 = μ 23 11 + (l.length : Int) ∧ (∀ i, i < l.length → m 27 ((μ 23 11).toNat + i) = lgt l i) ∧ ∀ i, i < (μ 23 11).toNat → m 27 i = μ 27 i
theorem puF.refl {μ : mM} : puF μ μ := fun _ _ _ _ => rfl
theorem puF.trans {μ m n : mM} (h : puF μ m) (k : puF m n) : puF μ n := fun b i q q2 => (k b i q q2).trans (h b i q q2)
theorem puF.tb {μ m : mM} (h : puF μ m) : tbC μ m := ⟨⟨funext fun i => h 24 i (by omega) (by omega), funext fun i => h 25 i (by omega) (by omega), funext fun i => h 26 i (by omega) (by omega), h 23 8 (by omega) (by omega)⟩, funext fun i => h 1 i (by omega) (by omega), h 0 10 (by omega) (by omega), h 23 14 (by omega) (by omega)⟩
theorem puF.sm {μ m : mM} (h : puF μ m) : smK μ m := ⟨h 23 9 (by omega) (by omega), h 23 18 (by omega) (by omega), h 23 19 (by omega) (by omega)⟩
theorem lgt.zero {x : Int} {l : List Int} : lgt (x :: l) 0 = x := rfl
theorem lgt.succ {x : Int} {l : List Int} {i : Nat} : lgt (x :: l) (i + 1) = lgt l i := by
  unfold lgt
  rw [List.getElem?_cons_succ]
theorem puK.cons {μ m n : mM} {x : Int} {l : List Int} (h0 : 0 ≤ μ 23 11) (h : puK μ m [x]) (k : puK m n l) : puK μ n (x :: l) := by
  obtain ⟨a1, a2, a3⟩ := h
  obtain ⟨b1, b2, b3⟩ := k
  have a1' : m 23 11 = μ 23 11 + 1 := a1
  refine ⟨?_, fun i hi => ?_, fun i hi => ?_⟩
  · rw [b1, a1', List.length_cons]
    omega
  · cases i with
    | zero =>
      rw [b3 _ (by omega), a2 0 (show 0 < 1 by decide)]
      rfl
    | succ i =>
      rw [lgt.succ, ← b2 i (by rw [List.length_cons] at hi; omega)]
      congr 1
      omega
  · rw [b3 i (by omega), a3 i hi]
section SmallC
variable {w : mW} {μ : mM}
theorem X6_step_s {Q : mM → Prop} (k : ∀ m : mM, stK μ m → frA μ m → Q m) : WP_X6_step_Wx w μ Q := by
  intro a ea ra e ee re
  refine ⟨fun c => k μ (fun h => absurd h (by omega)) frA.refl, fun c m u _ => ?_⟩
  obtain rfl := u.is
  refine k _ (fun _ => ⟨?_, mUp.no (by omega), mUp.no (by omega)⟩) (fun b i q => mUp.no (by omega))
  rw [mUp.yes ⟨rfl, rfl⟩, ea]
theorem X6_take_s {t0 : Int} {Q : Int → mM → Prop} (k : ∀ (z : Int) (m : mM), tkK μ m t0 z → frA μ m → Q z m) : WP_X6_take_Wx w μ t0 Q := by
  intro a ea ra t et rt
  have ct : cT μ = t := cT.is ea et
  exact ⟨fun c => X6_step_s fun m hs hf _ _ => k 1 m (Or.inl ⟨rfl, ct.trans c, hs⟩) hf, fun c => k 0 μ (Or.inr ⟨rfl, fun e => c (ct.symm.trans e), smK.refl⟩) frA.refl⟩
theorem X6_fail_s {kk : Int} {Q : mM → Prop} (k : ∀ m : mM, flK μ m kk → frA μ m → Q m) : WP_X6_fail_Wx w μ kk Q := by
  intro f ef rf
  refine ⟨fun c e ee re m u _ => ?_, fun c a ea ra t et rt => ?_⟩
  · obtain rfl := u.is
    refine k _ ⟨?_, Or.inl ⟨by rw [ef]; exact c, mUp.no (by omega), mUp.no (by omega)⟩⟩ (fun b i q => mUp.no (by omega))
    rw [mUp.yes ⟨rfl, rfl⟩, ee]
  · have J : ∀ x : Int, ((t = -3 ∧ x = 1) ∨ (¬ t = -3 ∧ x = kk)) → WJ_X6_fail_Wx_1 w μ Q a x := by
      intro x hx rx m1 u1 _ p ep rp m2 u2 _ e ee re m3 u3 _
      obtain rfl := u1.is
      obtain rfl := u2.is
      obtain rfl := u3.is
      rw [mUp.no (by omega)] at ep
      rw [mUp.no (by omega), mUp.no (by omega)] at ee
      refine k _ (flK.mk2 ee ?_ ef c ea et ?_ hx ep ?_) (fun b i q => ?_)
      · rw [mUp.yes ⟨rfl, rfl⟩]
      · rw [mUp.no (by omega), mUp.no (by omega), mUp.yes ⟨rfl, rfl⟩]
      · rw [mUp.no (by omega), mUp.yes ⟨rfl, rfl⟩]
      · rw [mUp.no (by omega), mUp.no (by omega), mUp.no (by omega)]
    exact ⟨fun c => J kk (Or.inr ⟨c, rfl⟩), fun c => J 1 (Or.inl ⟨c, rfl⟩)⟩
theorem X6_expect_s {t0 : Int} {Q : mM → Prop} (k : ∀ m : mM, exK μ m t0 → frA μ m → Q m) : WP_X6_expect_Wx w μ t0 Q := by
  refine X6_take_s fun z m1 tk f1 _ _ rz => ⟨fun c => ?_, fun c => X6_fail_s fun m2 fl f2 _ _ => ?_⟩
  · exact k m1 (exK.of tk (Or.inl ⟨by omega, rfl⟩) f1.tb.1) f1
  · exact k m2 (exK.of tk (Or.inr ⟨c, fl⟩) f1.tb.1) (f1.trans f2)
theorem X6_number_s {a b : Int} {Q : Int → mM → Prop} (k : ∀ (z : Int) (m : mM), nbK μ m a b z → frA μ m → Q z m) : WP_X6_number_Wx w μ a b Q := by
  intro i ei ri t et rt
  have ct : cT μ = t := cT.is ei et
  refine ⟨fun c v ev rv => ?_, fun c => X6_fail_s fun m fl f _ _ => k 0 m (Or.inl ⟨fun e => c (ct.symm.trans e), fl⟩) f⟩
  have cv : cV μ = v := cV.is ei ev
  exact ⟨fun c2 => X6_fail_s fun m fl f _ _ => k 0 m (Or.inr (Or.inl ⟨ct.trans c, Or.inl (by rw [cv]; exact c2), fl⟩)) f, fun c2 => ⟨fun c3 => X6_step_s fun m st f _ _ => k v m (Or.inr (Or.inr ⟨ct.trans c, ⟨by rw [cv]; exact c2, by rw [cv]; exact c3⟩, cv.symm, st⟩)) f, fun c3 => X6_fail_s fun m fl f _ _ => k 0 m (Or.inr (Or.inl ⟨ct.trans c, Or.inr (by rw [cv]; exact c3), fl⟩)) f⟩⟩
theorem X6_oneOf_s {a b : Int} {Q : Int → mM → Prop} (k : ∀ (z : Int) (m : mM), onK μ m a b z → frA μ m → Q z m) : WP_X6_oneOf_Wx w μ a b Q := by
  intro i ei ri t et rt
  have ct : cT μ = t := cT.is ei et
  exact ⟨fun c => X6_fail_s fun m fl f _ _ => k a m (Or.inl ⟨Or.inl (by rw [ct]; exact c), fl⟩) f, fun c => ⟨fun c2 => X6_step_s fun m st f _ _ => k t m (Or.inr ⟨⟨by rw [ct]; exact c, by rw [ct]; exact c2⟩, ct.symm, st⟩) f, fun c2 => X6_fail_s fun m fl f _ _ => k a m (Or.inl ⟨Or.inr (by rw [ct]; exact c2), fl⟩) f⟩⟩
theorem X6_relation_s {Q : Int → mM → Prop} (k : ∀ (z : Int) (m : mM), reK μ m → ((cT μ = 1060 ∨ cT μ = 1061 ∨ cT μ = 1062) → z = cT μ - 1060) → frA μ m → Q z m) : WP_X6_relation_Wx w μ Q := by
  intro i ei ri t et rt
  have ct : cT μ = t := cT.is ei et
  refine ⟨fun c => X6_step_s fun m st f _ _ => k _ m (Or.inl ⟨by omega, st⟩) (fun _ => by omega) f, fun c => ⟨fun c2 => X6_step_s fun m st f _ _ => k _ m (Or.inl ⟨by omega, st⟩) (fun _ => by omega) f, fun c2 => ⟨fun c3 => X6_step_s fun m st f _ _ => k _ m (Or.inl ⟨by omega, st⟩) (fun _ => by omega) f, fun c3 => X6_fail_s fun m fl f _ _ => k _ m (Or.inr ⟨by omega, fl⟩) (fun h => by omega) f⟩⟩⟩
theorem X6_isAct_s {p : Int} {Q : Int → mM → Prop} (k : ∀ z : Int, (z = 1 ↔ isAc p) → Q z μ) : WP_X6_isAct_Wx w μ p Q := by
  unfold isAc at k
  exact ⟨fun c => k 1 ⟨fun _ => by omega, fun _ => rfl⟩, fun c => ⟨fun c2 => k 1 ⟨fun _ => by omega, fun _ => rfl⟩, fun c2 => ⟨fun c3 => k 0 ⟨fun e => absurd e (by decide), fun e => by omega⟩, fun c3 => ⟨fun c4 => k 0 ⟨fun e => absurd e (by decide), fun e => by omega⟩, fun c4 => k 1 ⟨fun _ => by omega, fun _ => rfl⟩⟩⟩⟩⟩
theorem X6_isTest_s {p : Int} {Q : Int → mM → Prop} (k : ∀ z : Int, (z = 1 ↔ isTs p) → Q z μ) : WP_X6_isTest_Wx w μ p Q := by
  unfold isTs at k
  exact ⟨fun c => k 1 ⟨fun _ => by omega, fun _ => rfl⟩, fun c => ⟨fun c2 => k 1 ⟨fun _ => by omega, fun _ => rfl⟩, fun c2 => ⟨fun c3 => k 0 ⟨fun e => absurd e (by decide), fun e => by omega⟩, fun c3 => ⟨fun c4 => k 0 ⟨fun e => absurd e (by decide), fun e => by omega⟩, fun c4 => k 1 ⟨fun _ => by omega, fun _ => rfl⟩⟩⟩⟩⟩
theorem X6_beginsPiece_s {p : Int} {Q : Int → mM → Prop} (k : ∀ z : Int, (z = 1 ↔ (p = -2 ∨ p = 7 ∨ p = 1040)) → Q z μ) : WP_X6_beginsPiece_Wx w μ p Q := by
  exact ⟨fun c => k 1 ⟨fun _ => by omega, fun _ => rfl⟩, fun c => ⟨fun c2 => k 1 ⟨fun _ => by omega, fun _ => rfl⟩, fun c2 => ⟨fun c3 => k 0 ⟨fun e => absurd e (by decide), fun e => by omega⟩, fun c3 => k 1 ⟨fun _ => by omega, fun _ => rfl⟩⟩⟩⟩
theorem X6_verdictOf_s {p : Int} {Q : Int → mM → Prop} (k : Q (vdOf p) μ) : WP_X6_verdictOf_Wx w μ p Q := by
  unfold vdOf at k
  refine ⟨fun c => ⟨fun c2 => ?_, fun c2 => ?_⟩, fun c => ?_⟩
  · rw [if_neg c, if_neg c2] at k; exact k
  · rw [if_neg c, if_pos c2] at k; exact k
  · rw [if_pos c] at k; exact k
theorem X6_put_s {x : Int} {Q : mM → Prop} (k : ∀ m : mM, puF μ m → (μ 23 11 < 2000 → puK μ m [x]) → Q m) : WP_X6_put_Wx w μ x Q := by
  intro z ez rz
  refine ⟨fun c => k μ puF.refl (fun h => absurd h (by omega)), fun c m1 u1 _ m2 u2 _ => ?_⟩
  obtain rfl := u1.is
  obtain rfl := u2.is
  refine k _ (fun b i q q2 => by rw [mUp.no (by omega), mUp.no (by omega)]) (fun _ => ⟨?_, fun i hi => ?_, fun i hi => ?_⟩)
  · rw [mUp.yes ⟨rfl, rfl⟩, ez]
    rfl
  · have e0 : i = 0 := by
      have : ([x] : List Int).length = 1 := rfl
      omega
    subst e0
    rw [mUp.no (by omega), mUp.yes ⟨rfl, by rw [ez]; rfl⟩]
    rfl
  · rw [mUp.no (by omega), mUp.no (by rw [ez] at hi; omega)]
theorem X6_putTest_s {a b c d e : Int} {Q : mM → Prop} (k : ∀ m : mM, puF μ m → (0 ≤ μ 23 11 → μ 23 11 + 5 ≤ 2000 → puK μ m [a, b, c, d, e]) → Q m) : WP_X6_putTest_Wx w μ a b c d e Q := by
  refine X6_put_s fun m1 f1 p1 _ _ => X6_put_s fun m2 f2 p2 _ _ => X6_put_s fun m3 f3 p3 _ _ => X6_put_s fun m4 f4 p4 _ _ => X6_put_s fun m5 f5 p5 _ _ => k m5 (f1.trans (f2.trans (f3.trans (f4.trans f5)))) fun h0 h => ?_
  have g1 := p1 (by omega)
  have e1 : m1 23 11 = μ 23 11 + 1 := g1.1
  have g2 := p2 (by omega)
  have e2 : m2 23 11 = m1 23 11 + 1 := g2.1
  have g3 := p3 (by omega)
  have e3 : m3 23 11 = m2 23 11 + 1 := g3.1
  have g4 := p4 (by omega)
  have e4 : m4 23 11 = m3 23 11 + 1 := g4.1
  have g5 := p5 (by omega)
  exact puK.cons h0 g1 (puK.cons (by omega) g2 (puK.cons (by omega) g3 (puK.cons (by omega) g4 g5)))
end SmallC
/-! Where the reader stands, with what it laid down. -/
def CG (μ : mM) (s r m x y : Int) (u : Out) : Prop := CSc μ (fun p => (s, p, r, m, x, y)) ∧ CSo μ (fun p => (s, p, r, m, x, y)) u
section CGs
variable {μ μ1 : mM} {s r m x y s' r' m' x' y' z : Int} {u u' : Out}
theorem CG.same (h : CG μ s r m x y u) (tb : tbC μ μ1) (sm : smK μ μ1) : CG μ1 s r m x y u := ⟨CSc.same h.1 tb sm, CSo.same h.2 tb sm⟩
theorem CG.bad (h : CG μ s r m x y u) (hf : ¬ μ 23 18 = 0) : CG μ s' r' m' x' y' u' := ⟨h.1.bad hf, CSo.vac hf⟩
theorem CG.ou (h : CG μ s r m x y u) (e : u = u') : CG μ s r m x y u' := by rw [← e]; exact h
theorem CG.exp {kk : Int} (h : CG μ s r m x y u) (hcc : CSc μ1 (fun p => (s', p, r', m', x', y'))) (f : frA μ μ1) (n : exK μ μ1 kk) (h0 : ¬ kk = -1) (hs : ¬ s = -1) (hE : ∀ p v f q, nxC mskF (μ 23 14) (s, p, r, m, x, y) kk v f q = (s', q, r', m', x', y')) (hu : ∀ v, nxO s m x u kk v = u') : CG μ1 s' r' m' x' y' u' := by
  refine ⟨hcc, ?_⟩
  rcases n with ⟨n1, n2⟩ | ⟨n1, n2⟩
  · exact h.2.mvs h.1 f.tb n2 h0 hs n1 rfl (fun p f q => hE p _ f q) (hu _)
  · exact CSo.fail n2 (by decide)
theorem CG.mv {t : Int} (h : CG μ s r m x y u) (hcc : CSc μ1 (fun p => (s', p, r', m', x', y'))) (tb : tbC μ μ1) (st : stK μ μ1) (ht : cT μ = t) (h0 : ¬ t = -1) (hs : ¬ s = -1) (hE : ∀ p f q, nxC mskF (μ 23 14) (s, p, r, m, x, y) t (cV μ) f q = (s', q, r', m', x', y')) (hu : nxO s m x u t (cV μ) = u') : CG μ1 s' r' m' x' y' u' := ⟨hcc, h.2.mvs h.1 tb st h0 hs ht rfl hE hu⟩
theorem CG.stay {t : Int} (h : CG μ s r m x y u) (hcc : CSc μ (fun p => (s', p, r', m', x', y'))) (ht : cT μ = t) (hs : ¬ s = -1) (hE : ∀ p v f q, nxC mskF (μ 23 14) (s, p, r, m, x, y) t v f q = (s', p, r', m', x', y')) (hu : ∀ v, nxO s m x u t v = u') : CG μ s' r' m' x' y' u' := ⟨hcc, h.2.stay hs ht hE hu⟩
theorem CG.fl {k : Int} (hcc : CSc μ1 (fun p => (s', p, r', m', x', y'))) (n : flK μ μ1 k) (hk : ¬ k = 0) : CG μ1 s' r' m' x' y' u' := ⟨hcc, CSo.fail n hk⟩
theorem CG.num2 {a b : Int} (h : CG μ 2 r m a b u) (hend : μ 24 (μ 23 8).toNat = -1) (f : frA μ μ1) (n : nbK μ μ1 a b z) : CG μ1 5 r m 0 0 (ouNum u z) := by
  refine ⟨h.1.num (Or.inl ⟨rfl, rfl⟩) hend f.tb n, ?_⟩
  rcases n with ⟨n1, n2⟩ | ⟨n1, n2, n3⟩ | ⟨n1, n2, n3, n4⟩
  · exact CSo.fail n2 (by decide)
  · exact CSo.fail n3 (by decide)
  · refine h.2.mvs h.1 f.tb n4 (t := -2) (v := z) (by decide) (by decide) n1 n3.symm (fun p f q => ?_) rfl
    show nNum 5 r m a b (-2) z f q = _
    unfold nNum
    rw [if_neg (by decide), if_neg (by omega)]
theorem CG.num7 {a b : Int} (h : CG μ 7 r m a b u) (hend : μ 24 (μ 23 8).toNat = -1) (f : frA μ μ1) (n : nbK μ μ1 a b z) : CG μ1 8 r m 0 0 (ouAct u (u.2.2.2.1.2.1, z)) := by
  refine ⟨h.1.num (Or.inr ⟨rfl, rfl⟩) hend f.tb n, ?_⟩
  rcases n with ⟨n1, n2⟩ | ⟨n1, n2, n3⟩ | ⟨n1, n2, n3, n4⟩
  · exact CSo.fail n2 (by decide)
  · exact CSo.fail n3 (by decide)
  · refine h.2.mvs h.1 f.tb n4 (t := -2) (v := z) (by decide) (by decide) n1 n3.symm (fun p f q => ?_) rfl
    show nNum 8 r m a b (-2) z f q = _
    unfold nNum
    rw [if_neg (by decide), if_neg (by omega)]
theorem CG.one {a b : Int} (h : CG μ 3 r m a b u) (ha : 0 ≤ a) (hend : μ 24 (μ 23 8).toNat = -1) (f : frA μ μ1) (n : onK μ μ1 a b z) : CG μ1 5 r m 0 0 (ouWord u z) := by
  refine ⟨h.1.one ha hend f.tb n, ?_⟩
  rcases n with ⟨k1, k2⟩ | ⟨k1, k2, k3⟩
  · exact CSo.fail k2 (by decide)
  · refine h.2.mvs h.1 f.tb k3 (t := z) (v := cV μ) (by omega) (by decide) k2.symm rfl (fun p f q => ?_) rfl
    show n3 r m a b z f q = _
    unfold n3
    rw [if_neg (by omega)]
theorem CG.rel {a b : Int} (h : CG μ 4 r m a b u) (hend : μ 24 (μ 23 8).toNat = -1) (f : frA μ μ1) (n : reK μ μ1) (hz : (cT μ = 1060 ∨ cT μ = 1061 ∨ cT μ = 1062) → z = cT μ - 1060) : CG μ1 2 r m 0 a (ouA u z) := by
  refine ⟨h.1.rel hend f.tb n, ?_⟩
  rcases n with ⟨k1, k2⟩ | ⟨k1, k2⟩
  · refine h.2.mvs h.1 f.tb k2 (t := cT μ) (v := cV μ) (by omega) (by decide) rfl rfl (fun p f q => ?_) ?_
    · show n4 r m a (cT μ) f q = _
      unfold n4
      rw [if_pos k1]
    · rw [hz k1]
      rfl
  · exact CSo.fail k2 (by decide)
end CGs
end
