section
/-! Both halves of the state: the class's memory (KCl), the reference's (KRf); what holds of the state itself (KX). -/
/-- taken (0: no); how many go, how many come; their addresses, lengths; the route -/
abbrev Ms : Type := Int × Nat × Nat × (Nat → Int) × (Nat → Int) × Rt
abbrev uT (M : Ms) : Int := M.1
abbrev uW (M : Ms) : Nat := M.2.1
abbrev uA (M : Ms) : Nat := M.2.2.1
abbrev uX (M : Ms) : Nat → Int := M.2.2.2.1
abbrev uL (M : Ms) : Nat → Int := M.2.2.2.2.1
abbrev uR (M : Ms) : Rt := M.2.2.2.2.2
def msC (μ : mM) (M : Ms) : Prop := μ 76 16 = uT M ∧ (¬ uT M = 0 → μ 76 13 = (uW M : Int) ∧ μ 76 14 = (uA M : Int) ∧ (∀ i, i < uW M + uA M → μ 84 i = uX M i ∧ μ 85 i = uL M i) ∧ rtC μ 81 = some (uR M))
def msR (μ : mM) (M : Ms) : Prop := (uT M = 0 ↔ (μ 106 96 = 0 ∨ ¬ μ 106 97 = 0)) ∧ (¬ uT M = 0 → μ 106 88 = (uW M : Int) ∧ μ 106 91 = (uA M : Int) ∧ (∀ i, i < uW M → μ 166 i = uX M i ∧ μ 167 i = uL M i) ∧ (∀ i, i < uA M → μ 168 i = uX M (uW M + i) ∧ μ 169 i = uL M (uW M + i)) ∧ rtR μ 24 = some (uR M))
def msX (M : Ms) : Prop := ¬ uT M = 0 → srt (mOf (uR M)) ∧ (wOf (uR M)).length ≤ 20 ∧ (mOf (uR M)).length ≤ 8 ∧ rgV (uR M) ∧ uW M + uA M ≤ 2000
/-- the hand; the message -/
abbrev Hd : Type := Option Rt × Ms
def hC (μ : mM) (o : Hd) : Prop := rtC μ 3 = o.1 ∧ msC μ o.2
def hRf (μ : mM) (o : Hd) : Prop := haR μ = o.1 ∧ msR μ o.2
theorem msC.of {μ m : mM} {M : Ms} (f : ∀ b i, ((b = 76 ∧ (i = 13 ∨ i = 14 ∨ i = 16)) ∨ (81 ≤ b ∧ b ≤ 85)) → m b i = μ b i) (h : msC μ M) : msC m M := by
  refine ⟨by rw [f _ _ (by omega)]; exact h.1, fun c => ?_⟩
  obtain ⟨h1, h2, h3, h4⟩ := h.2 c
  exact ⟨by rw [f _ _ (by omega)]; exact h1, by rw [f _ _ (by omega)]; exact h2, fun i hi => by rw [f _ _ (by omega), f _ _ (by omega)]; exact h3 i hi, (rtC.of (fun i => f _ _ (by omega)) (fun i => f _ _ (by omega)) (fun i => f _ _ (by omega))).trans h4⟩
theorem hC.of {μ m : mM} {o : Hd} (f : ∀ b i, ((3 ≤ b ∧ b ≤ 5) ∨ (b = 76 ∧ (i = 13 ∨ i = 14 ∨ i = 16)) ∨ (81 ≤ b ∧ b ≤ 85)) → m b i = μ b i) (h : hC μ o) : hC m o := ⟨(rtC.of (fun i => f _ _ (by omega)) (fun i => f _ _ (by omega)) (fun i => f _ _ (by omega))).trans h.1, msC.of (fun b i hb => f b i (by omega)) h.2⟩
theorem msR.of' {w : mW} {μ m : mM} {M : Ms} (hw : mWF w) (hT : mT w μ) (f : ∀ b i : Nat, ((b = 106 ∧ (i = 88 ∨ i = 91 ∨ i = 96 ∨ i = 97)) ∨ (b = 126 ∧ 960 ≤ i ∧ i < 1000) ∨ (166 ≤ b ∧ b ≤ 169)) → m b i = μ b i) (h : msR μ M) : msR m M := by
  refine ⟨by rw [f _ _ (by omega), f _ _ (by omega)]; exact h.1, fun c => ?_⟩
  obtain ⟨h1, h2, h3, h4, h5⟩ := h.2 c
  exact ⟨by rw [f _ _ (by omega)]; exact h1, by rw [f _ _ (by omega)]; exact h2, fun i hi => by rw [f _ _ (by omega), f _ _ (by omega)]; exact h3 i hi, fun i hi => by rw [f _ _ (by omega), f _ _ (by omega)]; exact h4 i hi, (rtR.cg (hT.rb hw (by omega)).1.2 (hT.rb hw (by omega)).2.2 fun k hk => f _ _ (by omega)).trans h5⟩
theorem hRf.of {w : mW} {μ m : mM} {o : Hd} (hw : mWF w) (hT : mT w μ) (f : ∀ b i : Nat, ((b = 106 ∧ (i = 70 ∨ i = 88 ∨ i = 91 ∨ i = 96 ∨ i = 97)) ∨ (b = 126 ∧ (i < 40 ∨ (960 ≤ i ∧ i < 1000))) ∨ (166 ≤ b ∧ b ≤ 169)) → m b i = μ b i) (h : hRf μ o) : hRf m o := by
  refine ⟨?_, h.2.of' hw hT fun b i q => f b i (by omega)⟩
  rw [← h.1]
  unfold haR
  rw [f 106 70 (by omega), rtR.cg (μ := μ) (s := 0) (hT.rb hw (by omega)).1.2 (hT.rb hw (by omega)).2.2 fun k hk => f _ _ (by omega)]
/-- what doesn't change while routes are said; policies; what changes; the route in hand and the message -/
abbrev St : Type := En × Ju × Sn × Hd
abbrev xE (x : St) : En := x.1
abbrev xJ (x : St) : Ju := x.2.1
abbrev xS (x : St) : Sn := x.2.2.1
abbrev xH (x : St) : Hd := x.2.2.2
abbrev xO (x : St) : Option Rt := x.2.2.2.1
abbrev xM (x : St) : Ms := x.2.2.2.2
def ev0C (μ : mM) (E : En) : Prop :=
  μ 6 16 = (eT E : Int) ∧ μ 6 14 = (eP E : Int) ∧ μ 6 15 = (eD E : Int) ∧ LYC μ (eT E) (eD E) ∧
  (∀ t, t < eT E → μ (tbA μ t) 0 = eA E t ∧ μ (tbA μ t) 1 = eB E t ∧ μ (tbA μ t) 6 = eU E t ∧ μ (tbA μ t) 7 = eL E t ∧ μ (tbA μ t) 8 = eG E t ∧ ∀ i, i < 4 → μ (tbA μ t + 1) i = ePl E (4 * t + i)) ∧
  (∀ d, d < eD E → (∀ p, p < 10 → μ (dbA μ d + 2) p = eOw E (10 * d + p)) ∧ rowL (μ (dbA μ d + 1)) (μ (dbA μ d) 4).toNat = eSt E d ∧ μ (dbA μ d) 5 = eGr E d)
def ev0R (μ : mM) (E : En) : Prop :=
  μ 106 6 = (eT E : Int) ∧ μ 106 2 = (eP E : Int) ∧ μ 106 5 = (eD E : Int) ∧
  (∀ t, t < eT E → μ 110 (2 * t) = eA E t ∧ μ 110 (2 * t + 1) = eB E t ∧ μ 112 t = eU E t ∧ μ 113 t = eL E t ∧ μ 114 t = eG E t ∧ ∀ i, i < 4 → μ 115 (4 * t + i) = ePl E (4 * t + i)) ∧
  (∀ d, (d < eD E ∨ d < 10) → (∀ p, p < 10 → μ 162 (10 * d + p) = eOw E (10 * d + p)) ∧ (∃ n, rowL (fun i => μ 163 (6 * d + i)) 6 = eSt E d ++ List.replicate n 0) ∧ μ 164 d = eGr E d)
def rlC (μ : mM) (E : En) (J : Ju) : Prop := ∀ t s, t < eT E → s < 2 → roK (μ (tbA μ t) 2) s = jR J (eN E t s) (eN E t (1 - s))
def rlR (μ : mM) (E : En) (J : Ju) : Prop := ∀ t s, t < eT E → s < 2 → roK (μ 111 t) s = jR J (eN E t s) (eN E t (1 - s))
def KCl (w : mW) (μ : mM) (x : St) : Prop := ev0C μ (xE x) ∧ jgC w μ (xJ x) ∧ rlC μ (xE x) (xJ x) ∧ (∀ t i, t < eT (xE x) → i < 4 → plO (μ 21 8) (ePl (xE x) (4 * t + i))) ∧ snC μ (xE x) (xS x) ∧ hC μ (xH x)
def KRf (μ : mM) (x : St) : Prop := ev0R μ (xE x) ∧ jgR μ (xJ x) ∧ rlR μ (xE x) (xJ x) ∧ (∀ t i, t < eT (xE x) → i < 4 → plO (μ 106 39) (ePl (xE x) (4 * t + i))) ∧ snR μ (xE x) (xS x) ∧ hRf μ (xH x) ∧ gJ μ ∧ (¬ μ 106 70 = 0 → ¬ rtR μ 0 = none)
/-- a route in hand: marks rise, its prefix is there -/
def hOk (E : En) (o : Option Rt) : Prop := ∀ r, o = some r → ∃ p : Nat, p < eP E ∧ gdR p r
theorem hOk.two {E : En} {o : Option Rt} {r : Rt} (h : hOk E o) (e : o = some r) : srt (mOf r) ∧ r.1 < (eP E : Int) := by
  obtain ⟨p, h1, h2⟩ := h r e
  exact ⟨h2.2.1, by rw [h2.1]; omega⟩
def KX (x : St) : Prop := snG (xE x) (xS x) ∧ enG (xE x) ∧ jOk (xJ x) ∧ jNg (xJ x) ∧ eTh (xE x) = thJ (xJ x) ∧ (hOk (xE x) (xO x) ∧ msX (xM x) ∧ ubS (xE x) (xS x)) ∧ 0 ≤ sMd (xS x) ∧ ∀ t, eU (xE x) t = 0 ∨ eU (xE x) t = 1
/-- a step: the state is in order, and not too many events were made -/
def kxS (x y : St) : Prop := KX y ∧ sMd (xS x) ≤ sMd (xS y) ∧ sMd (xS y) ≤ sMd (xS x) + 50000
theorem kxS.refl {x : St} (h : KX x) : kxS x x := ⟨h, Int.le_refl _, by omega⟩
section Halves
variable {w : mW} {μ m : mM} {x : St}
theorem KCl.at (hw : mWF w) (hT : mT w μ) (h : ev0C μ (xE x)) {t : Nat} (ht : t < eT (xE x)) : mAt w (tbA μ t) 220 := by
  have g : (((t : Nat) : Int) < w.2.2.2 1 → 0 ≤ μ 11 t ∧ mAt w (μ 11 t).toNat 220) ∧ (¬ ((t : Nat) : Int) < w.2.2.2 1 → μ 11 t = -1) := hT 11 11 (A_11 hw) t
  have g0 : μ 6 16 = w.2.2.2 1 ∧ 0 ≤ μ 6 16 ∧ μ 6 16 ≤ 20 := hT 6 6 (A_6 hw) 16
  have e1 := h.1
  exact (g.1 (by omega)).2
theorem KCl.env (hw : mWF w) (hT : mT w μ) (h : KCl w μ x) (k : KX x) : envC w μ (xE x) := by
  have a := fun t ht => KCl.at (x := x) hw hT h.1 (t := t) ht
  obtain ⟨⟨h1, h2, h3, h4, h5, h6⟩, jg, rl, pl, _, _⟩ := h
  exact ⟨h1, h2, h3, h4, h5, h6, letC.of hw jg k.2.2.1 k.2.2.2.2.1 (fun t s ht hs => ⟨a t ht, (h5 t ht).1, (h5 t ht).2.1, rl t s ht hs⟩) pl⟩
theorem KRf.env (hw : mWF w) (h : KRf μ x) (k : KX x) : envR w μ (xE x) gJ := by
  obtain ⟨⟨h1, h2, h3, h4, h5⟩, jg, rl, pl, _, _⟩ := h
  exact ⟨h1, h2, h3, h4, h5, letR.of hw jg k.2.2.1 k.2.2.2.2.1 k.2.1.1 (fun t ht => ⟨(h4 t ht).1, (h4 t ht).2.1⟩) rl h2 pl⟩
theorem eN.cg {E E' : En} (hA : eA E' = eA E) (hB : eB E' = eB E) (t s : Nat) : eN E' t s = eN E t s := by
  unfold eN
  rw [hA, hB]
theorem KCl.next {E' : En} {S' : Sn} (hw : mWF w) (hT : mT w μ) (h : KCl w μ x) (F : mF lLC w μ m) (ev : envC w m E') (sn : snC m E' S') (lo : loD μ m) (hTE : eT E' = eT (xE x)) (hA : eA E' = eA (xE x)) (hB : eB E' = eB (xE x)) : KCl w m (E', xJ x, S', xH x) := by
  obtain ⟨e1, e2, e3, e4, e5, e6, l⟩ := ev
  refine ⟨⟨e1, e2, e3, e4, e5, e6⟩, h.2.1.fr hw F, fun t s ht hs => ?_, l.1, sn, ?_⟩
  · have ht2 : t < eT E' := ht
    rw [hTE] at ht2
    have tb : tbA m t = tbA μ t := congrArg Int.toNat (lo 11 t (by omega) (by omega) (by omega) (by omega) (by omega) (by omega) (by omega))
    show roK (m (tbA m t) 2) s = jR (xJ x) (eN E' t s) (eN E' t (1 - s))
    rw [tb, F.f (KCl.at (x := x) hw hT h.1 ht2) rfl (rfl : μ (tbA μ t) 2 = μ (tbA μ t) 2), eN.cg hA hB, eN.cg hA hB]
    exact h.2.2.1 t s ht2 hs
  · exact hC.of (fun b i hb => lo b i (by omega) (by omega) (by omega) (by omega) (by omega) (by omega) (by omega)) h.2.2.2.2.2
/-- what the reference's engine writes, but for the hand -/
def lKR : List Nat := lER ++ [112999, 113999, 114999, 115999, 162999, 163999, 164999]
theorem KRf.next {E' : En} {S' : Sn} (hw : mWF w) (hT : mT w μ) (h : KRf μ x) (F : mF lKR w μ m) (ev : envR w m E' gJ) (sn : snR m E' S') (hg : gJ m) (lo : loR μ m) (hTE : eT E' = eT (xE x)) (hA : eA E' = eA (xE x)) (hB : eB E' = eB (xE x)) : KRf m (E', xJ x, S', xH x) := by
  obtain ⟨e1, e2, e3, e4, e5, l⟩ := ev
  have F' : mF lLR w μ m := mF.refl.call F rfl
  refine ⟨⟨e1, e2, e3, e4, e5⟩, h.2.1.cg (fun b hb => funext fun i => F'.lr hw hb) (F.f (A_106 hw) rfl rfl) (F.f (A_106 hw) rfl rfl) (F.f (A_106 hw) rfl rfl), fun t s ht hs => ?_, l.1, sn, ?_, hg, ?_⟩
  · have ht2 : t < eT E' := ht
    rw [hTE] at ht2
    show roK (m 111 t) s = jR (xJ x) (eN E' t s) (eN E' t (1 - s))
    rw [F'.lr hw (by omega), eN.cg hA hB, eN.cg hA hB]
    exact h.2.2.1 t s ht2 hs
  · refine hRf.of hw hT (fun b i q => ?_) h.2.2.2.2.2.1
    rcases q with ⟨e, q⟩ | ⟨e, q⟩ | q
    · subst e
      rcases q with e | e | e | e | e <;> subst e <;> exact F.f (A_106 hw) rfl rfl
    · subst e
      exact lo i (by omega)
    · have q4 : b = 166 ∨ b = 167 ∨ b = 168 ∨ b = 169 := by omega
      rcases q4 with e | e | e | e
      · subst e; exact F.f (A_166 hw) rfl rfl
      · subst e; exact F.f (A_167 hw) rfl rfl
      · subst e; exact F.f (A_168 hw) rfl rfl
      · subst e; exact F.f (A_169 hw) rfl rfl
  · rw [F.f (A_106 hw) rfl (rfl : μ 106 70 = μ 106 70), rtR.cg (μ := μ) (s := 0) (hT.rb hw (by omega)).1.2 (hT.rb hw (by omega)).2.2 fun k hk => lo _ (by omega)]
    exact h.2.2.2.2.2.2.2
theorem KX.next {E' : En} {S' : Sn} {n : Int} (k : KX x) (en : enG E') (md : mdG E' (xS x) n S') (hn : n ≤ 50000) (hth : eTh E' = eTh (xE x)) (hP : (eP E', eT E', eD E') = (eP (xE x), eT (xE x), eD (xE x))) (hU : ∀ t, eU E' t = 0 ∨ eU E' t = 1) : kxS x (E', xJ x, S', xH x) := by
  have m1 := md.2.1
  have m2 := md.2.2.1
  have hP1 : eP E' = eP (xE x) := congrArg (fun q : Nat × Nat × Nat => q.1) hP
  have hT1 : eT E' = eT (xE x) := congrArg (fun q : Nat × Nat × Nat => q.2.1) hP
  have hD1 : eD E' = eD (xE x) := congrArg (fun q : Nat × Nat × Nat => q.2.2) hP
  have m0 := k.2.2.2.2.2.2.1
  refine ⟨⟨md.1, en, k.2.2.1, k.2.2.2.1, hth.trans k.2.2.2.2.1, ⟨?_, k.2.2.2.2.2.1.2.1, ubS.go ⟨fun j hj => k.2.2.2.2.2.1.2.2.1 j (by rw [← hT1]; exact hj), fun j hj => k.2.2.2.2.2.1.2.2.2 j (by rw [← hD1]; exact hj)⟩ md.2.2.2⟩, by show 0 ≤ sMd S'; omega, hU⟩, m1, by show sMd S' ≤ sMd (xS x) + 50000; omega⟩
  intro r e
  obtain ⟨p, q1, q2⟩ := k.2.2.2.2.2.1.1 r e
  exact ⟨p, by show p < eP E'; rw [hP1]; exact q1, q2⟩
end Halves
/-! Announce, withdraw, use, raise, go, until. -/
noncomputable def ann! (x : St) (d p o : Int) : Int × St := (annA (xE x) d p o, if annA (xE x) d p o = 0 then (ow! (xE x) (10 * d.toNat + p.toNat) o, xJ x, lookE (ow! (xE x) (10 * d.toNat + p.toNat) o) (xS x) d p.toNat, xH x) else x)
noncomputable def wdr! (x : St) (d p : Int) : Int × St := (wdrA (xE x) d p, if wdrA (xE x) d p = 0 then (ow! (xE x) (10 * d.toNat + p.toNat) (-1), xJ x, lookE (ow! (xE x) (10 * d.toNat + p.toNat) (-1)) (xS x) d p.toNat, xH x) else x)
noncomputable def use! (n : Int) (x : St) (t s o v : Int) : Int × St := cIf (useO (xE x) n t s o v) (0, useE (xE x) t.toNat s.toNat o.toNat v, xJ x, useS (useE (xE x) t.toNat s.toNat o.toNat v) (xS x) t.toNat s.toNat o.toNat, xH x) (-1, x)
noncomputable def rai! (x : St) (t v : Int) : Int × St := cIf (0 ≤ t ∧ t < (eT (xE x) : Int)) (if v = 0 ∧ eU (xE x) t.toNat = 0 then (0, x) else (eU (xE x) t.toNat, raiE (xE x) t.toNat v, xJ x, raiS (xE x) (xS x) t.toNat v, xH x)) (-1, x)
noncomputable def go! (x : St) (n : Int) : Int × St := if 1 ≤ n ∧ n ≤ 500 then (((goE (xE x) 2000000000 n.toNat (xS x)).1 : Int), xE x, xJ x, (goE (xE x) 2000000000 n.toNat (xS x)).2, xH x) else (-1, x)
noncomputable def unt! (x : St) (v : Int) : Int × St := if sCk (xS x) ≤ v ∧ v ≤ 1000000000 then (((goE (xE x) v 500 (xS x)).1 : Int), xE x, xJ x, passE (xE x) v (goE (xE x) v 500 (xS x)).2, xH x) else (-1, x)
section Steps
variable {w : mW} {μ : mM} {x : St}
theorem C_announce {d p o : Int} (hw : mWF w) (hT : mT w μ) (h : KCl w μ x) (k : KX x) : WP_X11_announce_W w μ d p o (fun z m => z = (ann! x d p o).1 ∧ (mF lLC w μ m → KCl w m (ann! x d p o).2)) := by
  refine X11_announce_s hw hT (h.env hw hT k) h.2.2.2.2.1 k.1 k.2.1 (fun c => ⟨rfl, fun _ => ?_⟩) (fun c d0 d1 p0 p1 o2 m ev sn lo => ⟨c.symm, fun F => ?_⟩)
  · have e : (ann! x d p o).2 = x := if_neg c
    rw [e]; exact h
  · have e : (ann! x d p o).2 = (ow! (xE x) (10 * d.toNat + p.toNat) o, xJ x, lookE (ow! (xE x) (10 * d.toNat + p.toNat) o) (xS x) d p.toNat, xH x) := if_pos c
    rw [e]; exact h.next hw hT F ev sn lo.d rfl rfl rfl
theorem R_announce {d p o : Int} (hw : mWF w) (hT : mT w μ) (h : KRf μ x) (k : KX x) (hM : sMd (xS x) ≤ 2000000000) : WP_X12_announce_W w μ d p o (fun z m => z = (ann! x d p o).1 ∧ (mF lKR w μ m → KRf m (ann! x d p o).2)) := by
  have m0 := k.2.2.2.2.2.2.1
  refine X12_announce_s hw hT (h.env hw k) h.2.2.2.2.2.2.1 gJ.st h.2.2.2.2.1 k.1 k.2.1 ⟨m0, by omega⟩ (fun c => ⟨rfl, fun _ => ?_⟩) (fun c d0 d1 p0 p1 o2 m ev sn g lo => ⟨c.symm, fun F => ?_⟩)
  · have e : (ann! x d p o).2 = x := if_neg c
    rw [e]; exact h
  · have e : (ann! x d p o).2 = (ow! (xE x) (10 * d.toNat + p.toNat) o, xJ x, lookE (ow! (xE x) (10 * d.toNat + p.toNat) o) (xS x) d p.toNat, xH x) := if_pos c
    rw [e]; exact h.next hw hT F ev sn g lo rfl rfl rfl
theorem X_announce {d p o : Int} (k : KX x) : kxS x (ann! x d p o).2 := by
  by_cases c : annA (xE x) d p o = 0
  · have e : (ann! x d p o).2 = (ow! (xE x) (10 * d.toNat + p.toNat) o, xJ x, lookE (ow! (xE x) (10 * d.toNat + p.toNat) o) (xS x) d p.toNat, xH x) := if_pos c
    rw [e]
    by_cases g : (0 ≤ d ∧ d < (eD (xE x) : Int)) ∧ (0 ≤ p ∧ p < (eP (xE x) : Int)) ∧ (0 ≤ o ∧ o ≤ 2)
    · have p10 := k.2.1.1.2.2.2.2
      have en := k.2.1.own (k := 10 * d.toNat + p.toNat) (v := o) g.2.2.2 (fun q => by omega) (by omega)
      have L := lookE.cn (E := ow! (xE x) (10 * d.toNat + p.toNat) o) (S := xS x) (d := d.toNat) (p := p.toNat) k.1 en (by show d.toNat < eD (xE x); omega) (by omega)
      rw [Int.toNat_of_nonneg g.1.1] at L
      exact k.next en L (by decide) rfl rfl k.2.2.2.2.2.2.2
    · have e2 : annA (xE x) d p o = -1 := cIf.neg g
      rw [e2] at c
      exact absurd c (by decide)
  · have e : (ann! x d p o).2 = x := if_neg c
    rw [e]; exact kxS.refl k
theorem C_withdraw {d p : Int} (hw : mWF w) (hT : mT w μ) (h : KCl w μ x) (k : KX x) : WP_X11_withdraw_W w μ d p (fun z m => z = (wdr! x d p).1 ∧ (mF lLC w μ m → KCl w m (wdr! x d p).2)) := by
  refine X11_withdraw_s hw hT (h.env hw hT k) h.2.2.2.2.1 k.1 k.2.1 (fun c => ⟨rfl, fun _ => ?_⟩) (fun c d0 d1 p0 p1 m ev sn lo => ⟨c.symm, fun F => ?_⟩)
  · have e : (wdr! x d p).2 = x := if_neg c
    rw [e]; exact h
  · have e : (wdr! x d p).2 = (ow! (xE x) (10 * d.toNat + p.toNat) (-1), xJ x, lookE (ow! (xE x) (10 * d.toNat + p.toNat) (-1)) (xS x) d p.toNat, xH x) := if_pos c
    rw [e]; exact h.next hw hT F ev sn lo.d rfl rfl rfl
theorem R_withdraw {d p : Int} (hw : mWF w) (hT : mT w μ) (h : KRf μ x) (k : KX x) (hM : sMd (xS x) ≤ 2000000000) : WP_X12_withdraw_W w μ d p (fun z m => z = (wdr! x d p).1 ∧ (mF lKR w μ m → KRf m (wdr! x d p).2)) := by
  have m0 := k.2.2.2.2.2.2.1
  refine X12_withdraw_s hw hT (h.env hw k) h.2.2.2.2.2.2.1 gJ.st h.2.2.2.2.1 k.1 k.2.1 ⟨m0, by omega⟩ (fun c => ⟨rfl, fun _ => ?_⟩) (fun c d0 d1 p0 p1 m ev sn g lo => ⟨c.symm, fun F => ?_⟩)
  · have e : (wdr! x d p).2 = x := if_neg c
    rw [e]; exact h
  · have e : (wdr! x d p).2 = (ow! (xE x) (10 * d.toNat + p.toNat) (-1), xJ x, lookE (ow! (xE x) (10 * d.toNat + p.toNat) (-1)) (xS x) d p.toNat, xH x) := if_pos c
    rw [e]; exact h.next hw hT F ev sn g lo rfl rfl rfl
theorem X_withdraw {d p : Int} (k : KX x) : kxS x (wdr! x d p).2 := by
  by_cases c : wdrA (xE x) d p = 0
  · have e : (wdr! x d p).2 = (ow! (xE x) (10 * d.toNat + p.toNat) (-1), xJ x, lookE (ow! (xE x) (10 * d.toNat + p.toNat) (-1)) (xS x) d p.toNat, xH x) := if_pos c
    rw [e]
    by_cases g : (0 ≤ d ∧ d < (eD (xE x) : Int)) ∧ (0 ≤ p ∧ p < (eP (xE x) : Int))
    · have p10 := k.2.1.1.2.2.2.2
      have en := k.2.1.own (k := 10 * d.toNat + p.toNat) (v := -1) (by decide) (fun q => by decide) (by omega)
      have L := lookE.cn (E := ow! (xE x) (10 * d.toNat + p.toNat) (-1)) (S := xS x) (d := d.toNat) (p := p.toNat) k.1 en (by show d.toNat < eD (xE x); omega) (by omega)
      rw [Int.toNat_of_nonneg g.1.1] at L
      exact k.next en L (by decide) rfl rfl k.2.2.2.2.2.2.2
    · have e2 : wdrA (xE x) d p = -1 := cIf.neg g
      rw [e2] at c
      exact absurd c (by decide)
  · have e : (wdr! x d p).2 = x := if_neg c
    rw [e]; exact kxS.refl k
theorem C_use {t s o v : Int} (hw : mWF w) (hT : mT w μ) (h : KCl w μ x) (k : KX x) : WP_X11_use_W w μ t s o v (fun z m => z = (use! (μ 21 8) x t s o v).1 ∧ (mF lLC w μ m → KCl w m (use! (μ 21 8) x t s o v).2)) := by
  refine X11_use_s (n := μ 21 8) hw hT (h.env hw hT k) h.2.2.2.2.1 k.1 k.2.1 rfl (fun c => ?_) (fun c m ev sn lo => ?_)
  · have e : use! (μ 21 8) x t s o v = (-1, x) := cIf.neg c
    rw [e]; exact ⟨rfl, fun _ => h⟩
  · have e : use! (μ 21 8) x t s o v = (0, useE (xE x) t.toNat s.toNat o.toNat v, xJ x, useS (useE (xE x) t.toNat s.toNat o.toNat v) (xS x) t.toNat s.toNat o.toNat, xH x) := cIf.pos c
    rw [e]; exact ⟨rfl, fun F => h.next hw hT F ev sn lo.d rfl rfl rfl⟩
theorem R_use {t s o v : Int} (hw : mWF w) (hT : mT w μ) (h : KRf μ x) (k : KX x) (hM : sMd (xS x) ≤ 2000000000) : WP_X12_use_W w μ t s o v (fun z m => z = (use! (μ 106 39) x t s o v).1 ∧ (mF lKR w μ m → KRf m (use! (μ 106 39) x t s o v).2)) := by
  have m0 := k.2.2.2.2.2.2.1
  refine X12_use_s (n := μ 106 39) hw hT (h.env hw k) h.2.2.2.2.2.2.1 gJ.st h.2.2.2.2.1 k.1 k.2.1 ⟨m0, by omega⟩ rfl (fun c => ?_) (fun c m ev sn g lo => ?_)
  · have e : use! (μ 106 39) x t s o v = (-1, x) := cIf.neg c
    rw [e]; exact ⟨rfl, fun _ => h⟩
  · have e : use! (μ 106 39) x t s o v = (0, useE (xE x) t.toNat s.toNat o.toNat v, xJ x, useS (useE (xE x) t.toNat s.toNat o.toNat v) (xS x) t.toNat s.toNat o.toNat, xH x) := cIf.pos c
    rw [e]; exact ⟨rfl, fun F => h.next hw hT F ev sn g lo rfl rfl rfl⟩
theorem X_use {n t s o v : Int} (k : KX x) : kxS x (use! n x t s o v).2 := by
  by_cases c : useO (xE x) n t s o v
  · have e : use! n x t s o v = (0, useE (xE x) t.toNat s.toNat o.toNat v, xJ x, useS (useE (xE x) t.toNat s.toNat o.toNat v) (xS x) t.toNat s.toNat o.toNat, xH x) := cIf.pos c
    rw [e]
    obtain ⟨c1, c2, c3, _⟩ := c
    have en : enG (useE (xE x) t.toNat s.toNat o.toNat v) := k.2.1
    have ht : t.toNat < eT (useE (xE x) t.toNat s.toNat o.toNat v) := by show t.toNat < eT (xE x); omega
    refine k.next (n := 200) en ?_ (by decide) rfl rfl k.2.2.2.2.2.2.2
    unfold useS
    by_cases c0 : o.toNat = 0
    · rw [if_pos c0]
      obtain ⟨d, ed, hd⟩ := eN.dom (s := s.toNat) en.1 ht
      rw [ed]
      exact lookA.cn k.1 en hd
    · rw [if_neg c0]
      exact (sayA.cn (E := useE (xE x) t.toNat s.toNat o.toNat v) (S := xS x) (t := t.toNat) (s := s.toNat) k.1 en ht (by omega)).le (b := 200) (by decide)
  · have e : use! n x t s o v = (-1, x) := cIf.neg c
    rw [e]; exact kxS.refl k
theorem C_raise {t v : Int} (hw : mWF w) (hT : mT w μ) (h : KCl w μ x) (k : KX x) : WP_X11_raise_W w μ t v (fun z m => z = (rai! x t v).1 ∧ (mF lLC w μ m → KCl w m (rai! x t v).2)) := by
  refine X11_raise_s hw hT (h.env hw hT k) h.2.2.2.2.1 k.1 k.2.1 k.2.2.2.2.2.2.2 (fun c => ?_) (fun c1 c2 c3 c4 => ?_) (fun c1 c2 c3 m ev sn lo => ?_)
  · have e : rai! x t v = (-1, x) := cIf.neg c
    rw [e]; exact ⟨rfl, fun _ => h⟩
  · have e : rai! x t v = (0, x) := (cIf.pos ⟨c1, c2⟩).trans (if_pos ⟨c3, c4⟩)
    rw [e]; exact ⟨rfl, fun _ => h⟩
  · have e : rai! x t v = (eU (xE x) t.toNat, raiE (xE x) t.toNat v, xJ x, raiS (xE x) (xS x) t.toNat v, xH x) := (cIf.pos ⟨c1, c2⟩).trans (if_neg c3)
    rw [e]
    refine ⟨rfl, fun F => h.next hw hT F ev sn lo.d ?_ ?_ ?_⟩ <;> (unfold raiE; split <;> rfl)
theorem R_raise {t v : Int} (hw : mWF w) (hT : mT w μ) (h : KRf μ x) (k : KX x) (hM : sMd (xS x) ≤ 2000000000) (hv : v = 0 ∨ v = 1) : WP_X12_raise_W w μ t v (fun z m => z = (rai! x t v).1 ∧ (mF lKR w μ m → KRf m (rai! x t v).2)) := by
  have m0 := k.2.2.2.2.2.2.1
  refine X12_raise_s hw hT (h.env hw k) h.2.2.2.2.2.2.1 gJ.st h.2.2.2.2.1 k.1 k.2.1 ⟨m0, by omega⟩ hv (fun c => ?_) (fun c1 c2 c3 c4 => ?_) (fun c1 c2 c3 m ev sn g lo => ?_)
  · have e : rai! x t v = (-1, x) := cIf.neg c
    rw [e]; exact ⟨rfl, fun _ => h⟩
  · have e : rai! x t v = (0, x) := (cIf.pos ⟨c1, c2⟩).trans (if_pos ⟨c3, c4⟩)
    rw [e]; exact ⟨rfl, fun _ => h⟩
  · have e : rai! x t v = (eU (xE x) t.toNat, raiE (xE x) t.toNat v, xJ x, raiS (xE x) (xS x) t.toNat v, xH x) := (cIf.pos ⟨c1, c2⟩).trans (if_neg c3)
    rw [e]
    refine ⟨rfl, fun F => h.next hw hT F ev sn g lo ?_ ?_ ?_⟩ <;> (unfold raiE; split <;> rfl)
theorem X_raise {t v : Int} (k : KX x) : kxS x (rai! x t v).2 := by
  by_cases c : 0 ≤ t ∧ t < (eT (xE x) : Int)
  · by_cases c3 : v = 0 ∧ eU (xE x) t.toNat = 0
    · have e : rai! x t v = (0, x) := (cIf.pos c).trans (if_pos c3)
      rw [e]; exact kxS.refl k
    · have e : rai! x t v = (eU (xE x) t.toNat, raiE (xE x) t.toNat v, xJ x, raiS (xE x) (xS x) t.toNat v, xH x) := (cIf.pos c).trans (if_neg c3)
      rw [e]
      have ht : t.toNat < eT (xE x) := by omega
      by_cases c0 : v = 0
      · have eE : raiE (xE x) t.toNat v = up! (xE x) t.toNat 0 := if_pos c0
        have eS : raiS (xE x) (xS x) t.toNat v = lookA (up! (xE x) t.toNat 0) (lookA (up! (xE x) t.toNat 0) (silE (xS x) t.toNat) (eA (xE x) t.toNat)) (eB (xE x) t.toNat) := if_pos c0
        rw [eE, eS]
        have en : enG (up! (xE x) t.toNat 0) := k.2.1
        have ti := k.2.1.1.1 t.toNat ht
        have s0 : mdG (up! (xE x) t.toNat 0) (xS x) 0 (silE (xS x) t.toNat) := ⟨silE.sn k.1, Int.le_refl _, by show sMd (xS x) ≤ sMd (xS x) + 0; omega, fun j hj => by
          have hj : 20 * eT (xE x) ≤ j := hj
          exact ⟨if_neg (by omega), if_neg (by omega)⟩, fun _ _ => rfl⟩
        have s1 := lookA.cn (d := (eA (xE x) t.toNat).toNat) s0.1 en (by show _ < eD (xE x); omega)
        rw [Int.toNat_of_nonneg ti.2.1.1] at s1
        have s2 := lookA.cn (d := (eB (xE x) t.toNat).toNat) s1.1 en (by show _ < eD (xE x); omega)
        rw [Int.toNat_of_nonneg ti.2.2.1] at s2
        refine k.next en ((s0.trans s1).trans s2) (by decide) rfl rfl fun i => ?_
        show (if i = t.toNat then (0 : Int) else eU (xE x) i) = 0 ∨ (if i = t.toNat then (0 : Int) else eU (xE x) i) = 1
        by_cases c4 : i = t.toNat
        · rw [if_pos c4]; exact Or.inl rfl
        · rw [if_neg c4]; exact k.2.2.2.2.2.2.2 i
      · have eE : raiE (xE x) t.toNat v = up! (xE x) t.toNat 1 := if_neg c0
        have eS : raiS (xE x) (xS x) t.toNat v = sayA (up! (xE x) t.toNat 1) (sayA (up! (xE x) t.toNat 1) (xS x) t.toNat 0) t.toNat 1 := if_neg c0
        rw [eE, eS]
        have en : enG (up! (xE x) t.toNat 1) := k.2.1
        have s0 : snG (up! (xE x) t.toNat 1) (xS x) := k.1.up (by decide)
        have s1 := sayA.cn (t := t.toNat) (s := 0) s0 en ht (by decide)
        have s2 := sayA.cn (t := t.toNat) (s := 1) s1.1 en ht (by decide)
        refine k.next en (s1.trans s2) (by decide) rfl rfl fun i => ?_
        show (if i = t.toNat then (1 : Int) else eU (xE x) i) = 0 ∨ (if i = t.toNat then (1 : Int) else eU (xE x) i) = 1
        by_cases c4 : i = t.toNat
        · rw [if_pos c4]; exact Or.inr rfl
        · rw [if_neg c4]; exact k.2.2.2.2.2.2.2 i
  · have e : rai! x t v = (-1, x) := cIf.neg c
    rw [e]; exact kxS.refl k
theorem C_go {n : Int} (hw : mWF w) (hT : mT w μ) (h : KCl w μ x) (k : KX x) : WP_X11_go_W w μ n (fun z m => z = (go! x n).1 ∧ (mF lEC w μ m → KCl w m (go! x n).2)) := by
  have ev := h.env hw hT k
  refine X11_go_s hw hT ev h.2.2.2.2.1 k.1 k.2.1 (fun c => ?_) (fun c1 c2 m sn lo => ?_)
  · have e : go! x n = (-1, x) := if_neg c
    rw [e]; exact ⟨rfl, fun _ => h⟩
  · have e : go! x n = (((goE (xE x) 2000000000 n.toNat (xS x)).1 : Int), xE x, xJ x, (goE (xE x) 2000000000 n.toNat (xS x)).2, xH x) := if_pos ⟨c1, c2⟩
    rw [e]
    exact ⟨rfl, fun F => h.next hw hT (mF.refl.call F rfl) (envC.fr hw hT ev F) sn lo rfl rfl rfl⟩
theorem R_go {n : Int} (hw : mWF w) (hT : mT w μ) (h : KRf μ x) (k : KX x) (hM : sMd (xS x) ≤ 2000000000) : WP_X12_go_W w μ n (fun z m => z = (go! x n).1 ∧ (mF lER w μ m → KRf m (go! x n).2)) := by
  have m0 := k.2.2.2.2.2.2.1
  have ev := h.env (w := w) hw k
  refine X12_go_s hw ev h.2.2.2.2.2.2.1 gJ.st h.2.2.2.2.1 k.1 k.2.1 ⟨m0, by omega⟩ (fun c => ?_) (fun c1 c2 m sn g lo => ?_)
  · have e : go! x n = (-1, x) := if_neg c
    rw [e]; exact ⟨rfl, fun _ => h⟩
  · have e : go! x n = (((goE (xE x) 2000000000 n.toNat (xS x)).1 : Int), xE x, xJ x, (goE (xE x) 2000000000 n.toNat (xS x)).2, xH x) := if_pos ⟨c1, c2⟩
    rw [e]
    exact ⟨rfl, fun F => h.next hw hT (mF.refl.call F rfl) (ev.fr hw F) sn g lo rfl rfl rfl⟩
theorem goE.cn {E : En} {m : Int} (en : enG E) : ∀ (n : Nat) {S : Sn}, snG E S → mdG E S (20 * (n : Int)) (goE E m n S).2
  | 0, S, h => (mdG.refl h).le (by omega)
  | n + 1, S, h => by
    cases e : nextE E m S with
    | none => rw [goE.stop e]; exact (mdG.refl h).le (by omega)
    | some S1 =>
      rw [goE.more e]
      obtain ⟨v, q, e1, _, e3⟩ := nextE.of e
      have hx := h.2.2.2.2.2.1 v (by rw [e1]; exact List.mem_cons_self)
      have s1 : mdG E S 20 S1 := by
        rw [e3]; exact doEv.cn h en ⟨hx.2.1, hx.1⟩
      exact (s1.trans (goE.cn en n s1.1)).le (by omega)
theorem X_go {n : Int} (k : KX x) : kxS x (go! x n).2 := by
  by_cases c : 1 ≤ n ∧ n ≤ 500
  · have e : go! x n = (((goE (xE x) 2000000000 n.toNat (xS x)).1 : Int), xE x, xJ x, (goE (xE x) 2000000000 n.toNat (xS x)).2, xH x) := if_pos c
    rw [e]
    exact k.next k.2.1 (goE.cn k.2.1 n.toNat k.1) (by omega) rfl rfl k.2.2.2.2.2.2.2
  · have e : go! x n = (-1, x) := if_neg c
    rw [e]; exact kxS.refl k
theorem C_until {v : Int} (hw : mWF w) (hT : mT w μ) (h : KCl w μ x) (k : KX x) : WP_X11_until_W w μ v (fun z m => z = (unt! x v).1 ∧ (mF lEC w μ m → KCl w m (unt! x v).2)) := by
  have ev := h.env hw hT k
  refine X11_until_s hw hT ev h.2.2.2.2.1 k.1 k.2.1 (fun c => ?_) (fun c1 c2 m sn lo => ?_)
  · have e : unt! x v = (-1, x) := if_neg c
    rw [e]; exact ⟨rfl, fun _ => h⟩
  · have e : unt! x v = (((goE (xE x) v 500 (xS x)).1 : Int), xE x, xJ x, passE (xE x) v (goE (xE x) v 500 (xS x)).2, xH x) := if_pos ⟨c1, c2⟩
    rw [e]
    exact ⟨rfl, fun F => h.next hw hT (mF.refl.call F rfl) (envC.fr hw hT ev F) sn lo rfl rfl rfl⟩
theorem R_until {v : Int} (hw : mWF w) (hT : mT w μ) (h : KRf μ x) (k : KX x) (hM : sMd (xS x) ≤ 2000000000) : WP_X12_until_W w μ v (fun z m => z = (unt! x v).1 ∧ (mF lER w μ m → KRf m (unt! x v).2)) := by
  have m0 := k.2.2.2.2.2.2.1
  have ev := h.env (w := w) hw k
  refine X12_until_s hw hT ev h.2.2.2.2.2.2.1 gJ.st h.2.2.2.2.1 k.1 k.2.1 ⟨m0, by omega⟩ (fun c => ?_) (fun c1 c2 m sn g lo => ?_)
  · have e : unt! x v = (-1, x) := if_neg c
    rw [e]; exact ⟨rfl, fun _ => h⟩
  · have e : unt! x v = (((goE (xE x) v 500 (xS x)).1 : Int), xE x, xJ x, passE (xE x) v (goE (xE x) v 500 (xS x)).2, xH x) := if_pos ⟨c1, c2⟩
    rw [e]
    exact ⟨rfl, fun F => h.next hw hT (mF.refl.call F rfl) (ev.fr hw F) sn g lo rfl rfl rfl⟩
theorem passE.cn {E : En} {S : Sn} {v : Int} (h : snG E S) (hv : 0 ≤ v) : mdG E S 0 (passE E v S) := by
  unfold passE
  by_cases c : nextE E v S = none
  · rw [cIf.pos c]
    obtain ⟨s1, s2, s3, s4, s5, s6, s7, s8, s9, s0⟩ := h
    exact ⟨⟨s1, s2, s3, s4, s5, s6, s7, hv, s9, s0⟩, Int.le_refl _, by show sMd S ≤ sMd S + 0; omega, fun _ _ => ⟨rfl, rfl⟩, fun _ _ => rfl⟩
  · rw [cIf.neg c]; exact mdG.refl h
theorem X_until {v : Int} (k : KX x) : kxS x (unt! x v).2 := by
  by_cases c : sCk (xS x) ≤ v ∧ v ≤ 1000000000
  · have e : unt! x v = (((goE (xE x) v 500 (xS x)).1 : Int), xE x, xJ x, passE (xE x) v (goE (xE x) v 500 (xS x)).2, xH x) := if_pos c
    rw [e]
    have g := goE.cn (m := v) k.2.1 500 k.1
    have c0 := k.1.2.2.2.2.2.2.2.1
    exact k.next k.2.1 (g.trans (passE.cn g.1 (by omega))) (by decide) rfl rfl k.2.2.2.2.2.2.2
  · have e : unt! x v = (-1, x) := if_neg c
    rw [e]; exact kxS.refl k
end Steps
/-! What is picked, what is heard: into the hand. -/
noncomputable def pck! (x : St) (d p : Int) : Int × St := cIf ((0 ≤ d ∧ d < (eD (xE x) : Int)) ∧ (0 ≤ p ∧ p < (eP (xE x) : Int))) (if (sPk (xS x) (10 * d.toNat + p.toNat)).1 = -99999999 then (-99999999, x) else ((sPk (xS x) (10 * d.toNat + p.toNat)).1, xE x, xJ x, xS x, (sPk (xS x) (10 * d.toNat + p.toNat)).2, xM x)) (-1, x)
noncomputable def hrd! (x : St) (t s p o : Int) : Int × St := cIf (hrdO (xE x) t s p o) (if hrdR (xS x) (slt t.toNat s.toNat p.toNat) o = none then (-99999999, x) else (hrdW (xS x) (slt t.toNat s.toNat p.toNat) o, xE x, xJ x, xS x, hrdR (xS x) (slt t.toNat s.toNat p.toNat) o, xM x)) (-1, x)
section Hands
variable {w : mW} {μ m : mM} {x : St}
/-- nothing but the hand has changed -/
theorem KCl.hand {H : Option Rt} (h : KCl w μ x) (f : ∀ b i, ¬ (3 ≤ b ∧ b ≤ 5) → ¬ (b = 21 ∧ 2 ≤ i ∧ i ≤ 7) → m b i = μ b i) (hA : ∀ b, 192 ≤ b → m b = μ b) (hH : rtC m 3 = H) (jg : jgC w m (xJ x)) : KCl w m (xE x, xJ x, xS x, H, xM x) := by
  obtain ⟨⟨h1, h2, h3, ⟨l1, l2, l3, l4, l5, l6⟩, h5, h6⟩, _, rl, pl, sn, hh⟩ := h
  have tb : ∀ t, tbA m t = tbA μ t := fun t => congrArg Int.toNat (f 11 t (by omega) (by omega))
  have db : ∀ t, dbA m t = dbA μ t := fun t => congrArg Int.toNat (f 10 t (by omega) (by omega))
  have ft : ∀ t j, t < eT (xE x) → m (tbA μ t + j) = μ (tbA μ t + j) := fun t j ht => hA _ (by have := (l1 t ht).2.1; omega)
  have fd : ∀ d j, d < eD (xE x) → m (dbA μ d + j) = μ (dbA μ d + j) := fun d j hd => hA _ (by have := (l2 d hd).2.1; omega)
  refine ⟨⟨by rw [f _ _ (by omega) (by omega)]; exact h1, by rw [f _ _ (by omega) (by omega)]; exact h2, by rw [f _ _ (by omega) (by omega)]; exact h3, ⟨fun t ht => ?_, fun d hd => ?_, fun t s ht hs hne => ?_, fun t s ht hs hne => ?_, fun t d ht hd => ?_, fun i hi => by rw [f _ _ (by omega) (by omega)]; exact l6 i hi⟩, fun t ht => ?_, fun d hd => ?_⟩, jg, fun t s ht hs => ?_, fun t i ht hi => by rw [f _ _ (by omega) (by omega)]; exact pl t i ht hi, ?_, hH, msC.of (fun b i hb => f _ _ (by omega) (by omega)) hh.2⟩
  · rw [tb, f _ _ (by omega) (by omega), ft t 2 ht, ft t 3 ht]; exact l1 t ht
  · rw [db, f _ _ (by omega) (by omega), fd d 4 hd]; exact l2 d hd
  · rw [tb, tb]; exact l3 t s ht hs hne
  · rw [db, db]; exact l4 t s ht hs hne
  · rw [tb, db]; exact l5 t d ht hd
  · have f0 := ft t 0 ht
    rw [Nat.add_zero] at f0
    rw [tb, f0, ft t 1 ht]; exact h5 t ht
  · have f0 := fd d 0 hd
    rw [Nat.add_zero] at f0
    rw [db, f0, fd d 1 hd, fd d 2 hd]; exact h6 d hd
  · have f0 := ft t 0 ht
    rw [Nat.add_zero] at f0
    rw [tb, f0]; exact rl t s ht hs
  · exact snC.cg (E := xE x) sn (fun i => f _ _ (by omega) (by omega)) (fun i => f _ _ (by omega) (by omega)) (fun t b i ht h1 h2 => by rw [hA b (by have := (l1 t ht).2.1; omega)]) (fun d b i hd h1 => by rw [hA b (by have := (l2 d hd).2.1; omega)]) (fun i _ _ => f _ _ (by omega) (by omega)) (fun i => f _ _ (by omega) (by omega)) (fun i => f _ _ (by omega) (by omega)) (fun b i _ _ => f _ _ (by omega) (by omega))
/-- what the hand's calls write -/
def lHC : List Nat := [200002, 200003, 200004, 200005, 200006, 200007, 200008, 201999, 202999]
theorem C_picked {d p : Int} (hw : mWF w) (hT : mT w μ) (h : KCl w μ x) (k : KX x) : WP_X11_picked_W w μ d p (fun z m => z = (pck! x d p).1 ∧ (mF lHC w μ m → KCl w m (pck! x d p).2)) := by
  refine X11_picked_s (h.env hw hT k) h.2.2.2.2.1 k.2.1 (fun c => ?_) (fun c1 c2 c3 c4 c5 => ?_) (fun c1 c2 c3 c4 c5 m hr f => ?_)
  · have e : pck! x d p = (-1, x) := cIf.neg c
    rw [e]; exact ⟨rfl, fun _ => h⟩
  · have e : pck! x d p = (-99999999, x) := (cIf.pos ⟨⟨c1, c2⟩, c3, c4⟩).trans (if_pos c5)
    rw [e]; exact ⟨rfl, fun _ => h⟩
  · have e : pck! x d p = ((sPk (xS x) (10 * d.toNat + p.toNat)).1, xE x, xJ x, xS x, (sPk (xS x) (10 * d.toNat + p.toNat)).2, xM x) := (cIf.pos ⟨⟨c1, c2⟩, c3, c4⟩).trans (if_neg c5)
    rw [e]
    exact ⟨rfl, fun F => h.hand (fun b i h1 _ => f b i h1) (fun b hb => funext fun i => f b i (by omega)) hr (h.2.1.fr hw (mF.refl.call F rfl))⟩
theorem C_heard {t s p o : Int} (hw : mWF w) (hT : mT w μ) (h : KCl w μ x) (k : KX x) : WP_X11_heard_W w μ t s p o (fun z m => z = (hrd! x t s p o).1 ∧ (mF lHC w μ m → KCl w m (hrd! x t s p o).2)) := by
  refine X11_heard_s (h.env hw hT k) h.2.2.2.2.1 k.2.1 (fun c => ?_) (fun c1 c2 => ?_) (fun c1 c2 m hr f => ?_)
  · have e : hrd! x t s p o = (-1, x) := cIf.neg c
    rw [e]; exact ⟨rfl, fun _ => h⟩
  · have e : hrd! x t s p o = (-99999999, x) := (cIf.pos c1).trans (if_pos c2)
    rw [e]; exact ⟨rfl, fun _ => h⟩
  · have e : hrd! x t s p o = (hrdW (xS x) (slt t.toNat s.toNat p.toNat) o, xE x, xJ x, xS x, hrdR (xS x) (slt t.toNat s.toNat p.toNat) o, xM x) := (cIf.pos c1).trans (if_neg c2)
    rw [e]
    exact ⟨rfl, fun F => h.hand (fun b i h1 _ => f b i h1) (fun b hb => funext fun i => f b i (by omega)) hr (h.2.1.fr hw (mF.refl.call F rfl))⟩
theorem KRf.hand {H : Option Rt} (hw : mWF w) (hT : mT w μ) (h : KRf μ x) (f : ∀ (b i : Nat), ¬ (b = 126 ∧ i < 40) → ¬ (151 ≤ b ∧ b ≤ 153) → ¬ (b = 106 ∧ ((26 ≤ i ∧ i ≤ 31) ∨ i = 70)) → m b i = μ b i) (hg : gJ m) (hH : haR m = H) (hn : ¬ H = none) : KRf m (xE x, xJ x, xS x, H, xM x) := by
  obtain ⟨⟨h1, h2, h3, h4, h5⟩, jg, rl, pl, sn, hh, _, _⟩ := h
  have g : ∀ b, ¬ b = 126 → ¬ (b = 106 ∨ (151 ≤ b ∧ b ≤ 153)) → m b = μ b := fun b q1 q2 => funext fun i => f b i (by omega) (by omega) (by omega)
  refine ⟨⟨by rw [f _ _ (by omega) (by omega) (by omega)]; exact h1, by rw [f _ _ (by omega) (by omega) (by omega)]; exact h2, by rw [f _ _ (by omega) (by omega) (by omega)]; exact h3, fun t ht => ?_, fun d hd => ?_⟩, jg.cg (fun b hb => g b (by omega) (by omega)) (f _ _ (by omega) (by omega) (by omega)) (f _ _ (by omega) (by omega) (by omega)) (f _ _ (by omega) (by omega) (by omega)), fun t s ht hs => ?_, fun t i ht hi => by rw [f _ _ (by omega) (by omega) (by omega)]; exact pl t i ht hi, ?_, ⟨hH, hh.2.of' hw hT fun b i q => f _ _ (by omega) (by omega) (by omega)⟩, hg, fun c => ?_⟩
  · rw [g 110 (by omega) (by omega), g 112 (by omega) (by omega), g 113 (by omega) (by omega), g 114 (by omega) (by omega), g 115 (by omega) (by omega)]; exact h4 t ht
  · rw [g 162 (by omega) (by omega), g 163 (by omega) (by omega), g 164 (by omega) (by omega)]; exact h5 d hd
  · rw [g 111 (by omega) (by omega)]; exact rl t s ht hs
  · obtain ⟨s1, s2, ⟨s3, s4, s5⟩, s6, s7, s8⟩ := sn
    have rt : ∀ r : Int, 1 ≤ r → rtR m r = rtR μ r := fun r hr => rtR.cg (hT.rb hw (by omega)).1.2 (hT.rb hw (by omega)).2.2 fun k hk => f _ _ (by omega) (by omega) (by omega)
    have ea : ∀ e, atR m e = atR μ e := fun e => by unfold atR; rw [g 157 (by omega) (by omega), g 159 (by omega) (by omega)]
    have em : ∀ e, mdR m e = mdR μ e := fun e => by unfold mdR; rw [g 158 (by omega) (by omega), g 160 (by omega) (by omega)]
    refine ⟨fun s hs => ?_, fun k hk => ?_, ⟨fun e he h0 => ?_, fun y hy => ?_, ?_⟩, ?_, ?_, ?_⟩
    · rw [rt _ (by omega), rt _ (by omega), rt _ (by omega), g 154 (by omega) (by omega), g 155 (by omega) (by omega), g 156 (by omega) (by omega), g 157 (by omega) (by omega)]
      exact s1 s hs
    · rw [g 161 (by omega) (by omega), rt _ (by omega)]; exact s2 k hk
    · rw [ea] at h0 ⊢; exact s3 e he h0
    · rw [ea, em, f 106 72 (by omega) (by omega) (by omega)]; exact s4 y hy
    · refine List.Pairwise.imp (fun {a b} q => ?_) s5
      rw [em, em]; exact q
    · rw [f 106 71 (by omega) (by omega) (by omega)]; exact s6
    · rw [f 106 73 (by omega) (by omega) (by omega)]; exact s7
    · rw [f 106 72 (by omega) (by omega) (by omega)]; exact s8
  · unfold haR at hH
    rw [if_neg c] at hH
    rw [hH]; exact hn
theorem R_picked {d p : Int} (hw : mWF w) (hT : mT w μ) (h : KRf μ x) (k : KX x) : WP_X12_picked_W w μ d p (fun z m => z = (pck! x d p).1 ∧ KRf m (pck! x d p).2) := by
  refine X12_picked_s hw hT (h.env hw k) h.2.2.2.2.1 k.2.1 (fun c => ?_) (fun c1 c2 c3 c4 c5 => ?_) (fun c1 c2 c3 c4 c5 m hr f => ?_)
  · have e : pck! x d p = (-1, x) := cIf.neg c
    rw [e]; exact ⟨rfl, h⟩
  · have e : pck! x d p = (-99999999, x) := (cIf.pos ⟨⟨c1, c2⟩, c3, c4⟩).trans (if_pos c5)
    rw [e]; exact ⟨rfl, h⟩
  · have e : pck! x d p = ((sPk (xS x) (10 * d.toNat + p.toNat)).1, xE x, xJ x, xS x, (sPk (xS x) (10 * d.toNat + p.toNat)).2, xM x) := (cIf.pos ⟨⟨c1, c2⟩, c3, c4⟩).trans (if_neg c5)
    rw [e]
    exact ⟨rfl, h.hand hw hT (fun b i h1 _ h3 => f b i h1 (by omega)) (h.2.2.2.2.2.2.1.cg fun b i hb => f b i (by omega) (by omega)) hr (fun q => c5 ((k.1.2.2.2.2.2.2.1 _).mpr q))⟩
theorem R_heard {t s p o : Int} (hw : mWF w) (hT : mT w μ) (h : KRf μ x) (k : KX x) : WP_X12_heard_W w μ t s p o (fun z m => z = (hrd! x t s p o).1 ∧ KRf m (hrd! x t s p o).2) := by
  refine X12_heard_s hw hT (h.env hw k) h.2.2.2.2.1 k.1 k.2.1 (fun c => ?_) (fun c1 c2 => ?_) (fun c1 c2 m hr f => ?_)
  · have e : hrd! x t s p o = (-1, x) := cIf.neg c
    rw [e]; exact ⟨rfl, h⟩
  · have e : hrd! x t s p o = (-99999999, x) := (cIf.pos c1).trans (if_pos c2)
    rw [e]; exact ⟨rfl, h⟩
  · have e : hrd! x t s p o = (hrdW (xS x) (slt t.toNat s.toNat p.toNat) o, xE x, xJ x, xS x, hrdR (xS x) (slt t.toNat s.toNat p.toNat) o, xM x) := (cIf.pos c1).trans (if_neg c2)
    rw [e]
    exact ⟨rfl, h.hand hw hT (fun b i h1 _ h3 => f b i h1 (by omega)) (h.2.2.2.2.2.2.1.cg fun b i hb => f b i (by omega) (by omega)) hr c2⟩
/-- a route of the state is in order in the hand -/
theorem hOk.of {E : En} {o : Option Rt} {k : Nat} (h : rtO (k % 10) o) (hx : eP E ≤ k % 10 → o = none) : hOk E o := by
  intro r e
  have : ¬ eP E ≤ k % 10 := fun q => by rw [hx q] at e; cases e
  exact ⟨k % 10, by omega, h r e⟩
theorem KX.hand {H : Option Rt} (k : KX x) (h : hOk (xE x) H) : kxS x (xE x, xJ x, xS x, H, xM x) := ⟨⟨k.1, k.2.1, k.2.2.1, k.2.2.2.1, k.2.2.2.2.1, ⟨h, k.2.2.2.2.2.1.2⟩, k.2.2.2.2.2.2⟩, Int.le_refl _, by show sMd (xS x) ≤ sMd (xS x) + 50000; omega⟩
theorem X_picked {d p : Int} (k : KX x) : kxS x (pck! x d p).2 := by
  by_cases c : (0 ≤ d ∧ d < (eD (xE x) : Int)) ∧ (0 ≤ p ∧ p < (eP (xE x) : Int))
  · by_cases c5 : (sPk (xS x) (10 * d.toNat + p.toNat)).1 = -99999999
    · have e : pck! x d p = (-99999999, x) := (cIf.pos c).trans (if_pos c5)
      rw [e]; exact kxS.refl k
    · have e : pck! x d p = ((sPk (xS x) (10 * d.toNat + p.toNat)).1, xE x, xJ x, xS x, (sPk (xS x) (10 * d.toNat + p.toNat)).2, xM x) := (cIf.pos c).trans (if_neg c5)
      rw [e]
      exact k.hand (hOk.of (k.1.1 _) fun q => (k.1.2.2.2.2.2.2.2.2.2 _ q).1)
  · have e : pck! x d p = (-1, x) := cIf.neg c
    rw [e]; exact kxS.refl k
theorem X_heard {t s p o : Int} (k : KX x) : kxS x (hrd! x t s p o).2 := by
  by_cases c : hrdO (xE x) t s p o
  · by_cases c5 : hrdR (xS x) (slt t.toNat s.toNat p.toNat) o = none
    · have e : hrd! x t s p o = (-99999999, x) := (cIf.pos c).trans (if_pos c5)
      rw [e]; exact kxS.refl k
    · have e : hrd! x t s p o = (hrdW (xS x) (slt t.toNat s.toNat p.toNat) o, xE x, xJ x, xS x, hrdR (xS x) (slt t.toNat s.toNat p.toNat) o, xM x) := (cIf.pos c).trans (if_neg c5)
      rw [e]
      refine k.hand ?_
      unfold hrdR
      by_cases c6 : o = 0
      · rw [if_pos c6]
        exact hOk.of (k.1.2.2.1 _) fun q => (k.1.2.2.2.2.2.2.2.2.2 _ q).2.2
      · rw [if_neg c6]
        exact hOk.of (k.1.2.1 _) fun q => (k.1.2.2.2.2.2.2.2.2.2 _ q).2.1
  · have e : hrd! x t s p o = (-1, x) := cIf.neg c
    rw [e]; exact kxS.refl k
end Hands
end
section
/-! Rules. -/
theorem rlK.len : ∀ (f : Nat) (s n l : Int), l.toNat ≤ f → sOK s n → 0 ≤ l → rlK s l → ((stp l.toNat).length : Int) + n ≤ 6
  | 0, s, n, l, hf, ok, h0, _ => by
    have e : l.toNat = 0 := by omega
    rw [e, stp.zero]
    have := ok.le
    show ((0 : Nat) : Int) + n ≤ 6
    omega
  | f + 1, s, n, l, hf, ok, h0, h => by
    by_cases c : 0 < l
    · obtain ⟨⟨a1, a2, a3⟩, a4⟩ := (rlK.pos c).mp h
      have ok2 := sOK.add (f := l % 10) ok ⟨a1, a2⟩ rfl rfl (show ¬ bAnd (bShr s (l % 10)) 1 = 1 by omega) rfl rfl
      have ih := rlK.len f _ (n + 1) (l / 10) (by omega) ok2 (by omega) a4
      rw [show (l / 10).toNat = l.toNat / 10 by omega] at ih
      rw [stp.len (show 0 < l.toNat by omega)]
      omega
    · have e : l.toNat = 0 := by omega
      rw [e, stp.zero]
      have := ok.le
      show ((0 : Nat) : Int) + n ≤ 6
      omega
theorem stp.big {n : Nat} (h : (stp n).length ≤ 6) : n ≤ 999999 := by
  apply Classical.byContradiction
  intro c
  have l1 := stp.len (n := n) (by omega)
  have l2 := stp.len (n := n / 10) (by omega)
  have l3 := stp.len (n := n / 10 / 10) (by omega)
  have l4 := stp.len (n := n / 10 / 10 / 10) (by omega)
  have l5 := stp.len (n := n / 10 / 10 / 10 / 10) (by omega)
  have l6 := stp.len (n := n / 10 / 10 / 10 / 10 / 10) (by omega)
  have l7 := stp.len (n := n / 10 / 10 / 10 / 10 / 10 / 10) (by omega)
  omega
theorem rlK.six {l : Int} (h0 : 0 ≤ l) (h : rlK 0 l) : (stp l.toNat).length ≤ 6 ∧ l.toNat ≤ 999999 := by
  have := rlK.len l.toNat 0 0 l (Nat.le_refl _) sOK.zero h0 h
  exact ⟨by omega, stp.big (by omega)⟩
theorem bS1_fin : ∀ s : Fin 127, ∀ f : Fin 7, bAnd (bShr ((s.val : Nat) : Int) ((f.val : Nat) : Int)) 1 = 0 ∨ bAnd (bShr ((s.val : Nat) : Int) ((f.val : Nat) : Int)) 1 = 1 := by decide +kernel
theorem sOK.bit {s n f a b : Int} (h : sOK s n) (hf : 1 ≤ f ∧ f ≤ 6) (q1 : bShr s f = a) (q2 : bAnd a 1 = b) : b = 0 ∨ b = 1 := by
  have h1 := h.1
  have h2 := h.2.1
  have g := bS1_fin ⟨s.toNat, by omega⟩ ⟨f.toNat, by omega⟩
  have e1 : ((s.toNat : Nat) : Int) = s := Int.toNat_of_nonneg h1
  have e2 : ((f.toNat : Nat) : Int) = f := Int.toNat_of_nonneg (by omega)
  simp only [e1, e2] at g
  rw [q1, q2] at g
  exact g
/-- a domain with another rule -/
theorem enG.st {E : En} {d : Nat} {l : List Int} {g : Int} (h : enG E) (hd : d < eD E) : enG (st! E d l g) := ⟨h.1, h.2.1, h.2.2.1, h.2.2.2.1, fun e he => by
  have he : eD E ≤ e := he
  obtain ⟨a1, a2, a3⟩ := h.2.2.2.2 e he
  refine ⟨a1, ?_, ?_⟩
  · show (if e = d then l else eSt E e) = [1, 2, 3, 4, 5]
    rw [if_neg (by omega)]; exact a2
  · show (if e = d then g else eGr E e) = 0
    rw [if_neg (by omega)]; exact a3⟩
def rulO (E : En) (d n : Int) : Prop := (0 ≤ d ∧ d < (eD E : Int)) ∧ 0 ≤ n ∧ rlK 0 n
section Rule
variable {w : mW} {μ : mM} {E : En} {S : Sn} {G : mM → Prop}
theorem X11_isRule_s {n : Int} {Q : Int → mM → Prop} (hn : n ≤ 2147483647) (k : ∀ z : Int, (z = 1 ↔ (0 ≤ n ∧ rlK 0 n)) → Q z μ) : WP_X11_isRule_W w μ n Q := by
  refine ⟨fun c => ?_, fun c => k 0 ⟨fun e => absurd e (by decide), fun e => by omega⟩⟩
  refine loopF.ii (fun s l => 0 ≤ l ∧ (rlK 0 n ↔ rlK s l)) (fun _ l => l.toNat) ⟨c, Iff.rfl⟩ (by omega) ?_
  rintro rc s l ⟨l0, h⟩ ih s' l' e rs rl
  cases e
  refine ⟨fun c2 => k 1 ⟨fun _ => ⟨c, h.mpr (rlK.zero c2)⟩, fun _ => rfl⟩, fun c2 f ef => ⟨fun c3 => k 0 ⟨fun e => absurd e (by decide), fun e => absurd e.2 (rlK.bad h c2 ef (Or.inl c3))⟩, fun c3 => ⟨fun c4 => k 0 ⟨fun e => absurd e (by decide), fun e => absurd e.2 (rlK.bad h c2 ef (Or.inr c4))⟩, fun c4 a ea b eb => ⟨fun c5 e1 he1 s2 es2 l2 el2 => ih _ _ ⟨by omega, rlK.step h c2 ef ⟨c3, c4⟩ ea eb c5 he1 es2 el2⟩ (by omega), fun c5 => k 0 ⟨fun e => absurd e (by decide), fun e => absurd e.2 (rlK.bad2 h c2 ef ea eb c5)⟩⟩⟩⟩⟩
theorem envC.st {m : mM} {d : Nat} {l : List Int} {g : Int} (hw : mWF w) (hT : mT w μ) (ev : envC w μ E) (hd : d < eD E) (hl : rowL (m (dbA μ d + 1)) (m (dbA μ d) 4).toNat = l) (hg : m (dbA μ d) 5 = g) (f : ∀ b i, ¬ (b = dbA μ d ∧ (i = 4 ∨ i = 5)) → ¬ b = dbA μ d + 1 → m b i = μ b i) (F : mF [210004, 210005, 211999] w μ m) : envC w m (st! E d l g) := by
  obtain ⟨h1, h2, h3, ⟨l1, l2, l3, l4, l5, l6⟩, h5, h6, h7⟩ := ev
  have big := (l2 d hd).2.1
  have tb : ∀ s, tbA m s = tbA μ s := fun s => congrArg Int.toNat (f 11 s (by omega) (by omega))
  have db : ∀ s, dbA m s = dbA μ s := fun s => congrArg Int.toNat (f 10 s (by omega) (by omega))
  have ft : ∀ t b i, t < eT E → tbA μ t ≤ b → b < tbA μ t + 124 → m b i = μ b i := fun t b i ht q1 q2 => by
    have c := l5 t d ht hd
    exact f b i (by omega) (by omega)
  have fe : ∀ e b i, e < eD E → ¬ e = d → dbA μ e ≤ b → b < dbA μ e + 35 → m b i = μ b i := fun e b i he hne q1 q2 => by
    have c := l4 e d he hd hne
    exact f b i (by omega) (by omega)
  refine ⟨by rw [f _ _ (by omega) (by omega)]; exact h1, by rw [f _ _ (by omega) (by omega)]; exact h2, by rw [f _ _ (by omega) (by omega)]; exact h3, ⟨fun t ht => ?_, fun e he => ?_, fun t s ht hs hne => ?_, fun t s ht hs hne => ?_, fun t e ht he => ?_, fun i hi => by rw [f _ _ (by omega) (by omega)]; exact l6 i hi⟩, fun t ht => ?_, fun e he => ?_, ?_⟩
  · rw [tb]
    obtain ⟨a1, a2, a3⟩ := l1 t ht
    exact ⟨by rw [f _ _ (by omega) (by omega)]; exact a1, a2, fun k hk => ⟨by rw [ft t _ _ ht (by omega) (by omega)]; exact (a3 k hk).1, by rw [ft t _ _ ht (by omega) (by omega)]; exact (a3 k hk).2⟩⟩
  · rw [db]
    obtain ⟨a1, a2, a3⟩ := l2 e he
    refine ⟨by rw [f _ _ (by omega) (by omega)]; exact a1, a2, fun k hk => ?_⟩
    by_cases c : e = d
    · subst c
      rw [f _ _ (by omega) (by omega)]; exact a3 k hk
    · rw [fe e _ _ he c (by omega) (by omega)]; exact a3 k hk
  · rw [tb, tb]; exact l3 t s ht hs hne
  · rw [db, db]; exact l4 t s ht hs hne
  · rw [tb, db]; exact l5 t e ht he
  · rw [tb]
    obtain ⟨a1, a2, a3, a4, a5, a6⟩ := h5 t ht
    exact ⟨by rw [ft t _ _ ht (by omega) (by omega)]; exact a1, by rw [ft t _ _ ht (by omega) (by omega)]; exact a2, by rw [ft t _ _ ht (by omega) (by omega)]; exact a3, by rw [ft t _ _ ht (by omega) (by omega)]; exact a4, by rw [ft t _ _ ht (by omega) (by omega)]; exact a5, fun i hi => by rw [ft t _ _ ht (by omega) (by omega)]; exact a6 i hi⟩
  · rw [db]
    obtain ⟨a1, a2, a3⟩ := h6 e he
    show (∀ p, p < 10 → m (dbA μ e + 2) p = eOw E (10 * e + p)) ∧ rowL (m (dbA μ e + 1)) (m (dbA μ e) 4).toNat = (if e = d then l else eSt E e) ∧ m (dbA μ e) 5 = (if e = d then g else eGr E e)
    by_cases c : e = d
    · subst c
      rw [if_pos rfl, if_pos rfl]
      exact ⟨fun p hp => by rw [f _ _ (by omega) (by omega)]; exact a1 p hp, hl, hg⟩
    · rw [if_neg c, if_neg c]
      refine ⟨fun p hp => by rw [fe e _ _ he c (by omega) (by omega)]; exact a1 p hp, ?_, by rw [fe e _ _ he c (by omega) (by omega)]; exact a3⟩
      rw [fe e _ _ he c (by omega) (by omega), ← a2]
      exact rowL.ext fun i _ => fe e _ _ he c (by omega) (by omega)
  · have n8 : m 21 8 = μ 21 8 := f _ _ (by omega) (by omega)
    refine ⟨fun t i ht hi => by rw [n8]; exact h7.1 t i ht hi, ?_⟩
    intro m2 pl a t s r Q hT2 F2 ht hs hpl hr hsr hAa kk
    rw [tb]
    rw [n8] at hpl
    exact h7.2 m2 pl a t s r Q hT2 ((mF.refl.call F rfl).call F2 rfl) ht hs hpl hr hsr hAa kk
theorem X11_rule_s {d n g : Int} {Q : Int → mM → Prop} (hw : mWF w) (hT : mT w μ) (hn : n ≤ 2147483647) (ev : envC w μ E) (st : snC μ E S) (sn : snG E S) (en : enG E) (k0 : ¬ rulO E d n → Q (-1) μ)
    (k1 : rulO E d n → ∀ m : mM, envC w m (st! E d.toNat (stp n.toNat) g) → snC m (st! E d.toNat (stp n.toNat) g) (lookA (st! E d.toNat (stp n.toNat) g) S d) → loC μ m → Q 0 m) : WP_X11_rule_W w μ d n g Q := by
  intro _ _ _
  refine X11_isDomain_s ev fun z hz rz => ⟨fun c => k0 fun q => by have := hz.mpr q.1; omega, fun c => X11_isRule_s hn fun y hy ry => ⟨fun c2 b eb hb => ?_, fun c2 => k0 fun q => by have := hy.mpr q.2; omega⟩⟩
  have hd := hz.mp (by omega)
  obtain ⟨n0, hk⟩ := hy.mp (by omega)
  have ok : rulO E d n := ⟨hd, n0, hk⟩
  obtain ⟨d', rfl⟩ : ∃ d' : Nat, d = (d' : Int) := ⟨d.toNat, by omega⟩
  obtain ⟨n', rfl⟩ : ∃ n' : Nat, n = (n' : Int) := ⟨n.toNat, by omega⟩
  simp only [Int.toNat_natCast] at k1 eb
  have hd' : d' < eD E := by omega
  have six := rlK.six n0 hk
  rw [Int.toNat_natCast] at six
  obtain ⟨d1, d2, d3⟩ := ev.2.2.2.1.2.1 d' hd'
  have eb' : b = dbA μ d' := by omega
  subst eb'
  refine X0_goBy_s six.2 six.1 fun m hl hg f T F => ?_
  have ev2 := ev.st (l := stp n') (g := g) hw hT hd' hl hg f F
  have st2 : snC m (st! E d' (stp n') g) S := snC.cg (E := E) st (fun i => f _ _ (by omega) (by omega)) (fun i => f _ _ (by omega) (by omega)) (fun t b i ht h1 h2 => f _ _ (by have := ev.2.2.2.1.2.2.2.2.1 t d' ht hd'; omega) (by have := ev.2.2.2.1.2.2.2.2.1 t d' ht hd'; omega)) (fun e b i he h1 => by
    by_cases c : e = d'
    · subst c; exact f _ _ (by omega) (by omega)
    · have := ev.2.2.2.1.2.2.2.1 e d' he hd' c
      exact f _ _ (by omega) (by omega)) (fun i _ _ => f _ _ (by omega) (by omega)) (fun i => f _ _ (by omega) (by omega)) (fun i => f _ _ (by omega) (by omega)) (fun b i _ _ => f _ _ (by omega) (by omega))
  refine X8_lookAtAll_s hw T ev2 st2 sn (en.st hd') hd' fun m2 s2 l2 T2 F2 => k1 ok m2 (envC.fr hw T ev2 (mF.refl.call F2 rfl)) s2 (loC.trans (fun b i h0 h1 h2 h3 h4 h5 h6 => f b i (by omega) (by omega)) l2)
theorem envR.st {m : mM} {d n : Nat} {l : List Int} {g : Int} (hw : mWF w) (ev : envR w μ E G) (hd : d < eD E) (hl : rowL (fun i => m 163 (6 * d + i)) 6 = l ++ List.replicate n 0) (hg : m 164 d = g) (f : ∀ b i, ¬ (b = 163 ∧ 6 * d ≤ i ∧ i < 6 * d + 6) → ¬ (b = 164 ∧ i = d) → m b i = μ b i) : envR w m (st! E d l g) G := by
  obtain ⟨h1, h2, h3, h4, h5, h6⟩ := ev
  refine ⟨by rw [f _ _ (by omega) (by omega)]; exact h1, by rw [f _ _ (by omega) (by omega)]; exact h2, by rw [f _ _ (by omega) (by omega)]; exact h3, fun t ht => ?_, fun e he => ?_, ?_⟩
  · obtain ⟨a1, a2, a3, a4, a5, a6⟩ := h4 t ht
    exact ⟨by rw [f _ _ (by omega) (by omega)]; exact a1, by rw [f _ _ (by omega) (by omega)]; exact a2, by rw [f _ _ (by omega) (by omega)]; exact a3, by rw [f _ _ (by omega) (by omega)]; exact a4, by rw [f _ _ (by omega) (by omega)]; exact a5, fun i hi => by rw [f _ _ (by omega) (by omega)]; exact a6 i hi⟩
  · obtain ⟨a1, ⟨k, a2⟩, a3⟩ := h5 e he
    show (∀ p, p < 10 → m 162 (10 * e + p) = eOw E (10 * e + p)) ∧ (∃ n, rowL (fun i => m 163 (6 * e + i)) 6 = (if e = d then l else eSt E e) ++ List.replicate n 0) ∧ m 164 e = (if e = d then g else eGr E e)
    refine ⟨fun p hp => by rw [f _ _ (by omega) (by omega)]; exact a1 p hp, ?_⟩
    by_cases c : e = d
    · subst c
      rw [if_pos rfl, if_pos rfl]
      exact ⟨⟨n, hl⟩, hg⟩
    · rw [if_neg c, if_neg c]
      refine ⟨⟨k, ?_⟩, by rw [f _ _ (by omega) (by omega)]; exact a3⟩
      rw [← a2]
      exact rowL.ext fun i hi => f _ _ (by omega) (by omega)
  · have n39 : m 106 39 = μ 106 39 := f _ _ (by omega) (by omega)
    refine ⟨fun t i ht hi => by rw [n39]; exact h6.1 t i ht hi, ?_⟩
    intro m2 pl r t s x Q hT2 F2
    rw [n39]
    have F : mF lLR w μ m := by
      intro b i hl
      refine f b i (fun q => ?_) (fun q => ?_)
      · rw [q.1] at hl
        have e : mRg w 163 i = 163999 := by simp only [mRg, (A_163 hw).1]; rfl
        rw [e] at hl
        exact absurd hl (by decide)
      · rw [q.1] at hl
        have e : mRg w 164 i = 164999 := by simp only [mRg, (A_164 hw).1]; rfl
        rw [e] at hl
        exact absurd hl (by decide)
    exact h6.2 m2 pl r t s x Q hT2 (F.call F2 rfl)
theorem X12_rule_s {d n g : Int} {Q : Int → mM → Prop} (hw : mWF w) (hT : mT w μ) (hn : n ≤ 2147483647) (ev : envR w μ E G) (hG : G μ) (gG : gSt G) (st : snR μ E S) (sn : snG E S) (en : enG E) (hM : 0 ≤ sMd S ∧ sMd S + 200 < 2147483647) (k0 : ¬ rulO E d n → Q (-1) μ)
    (k1 : rulO E d n → ∀ m : mM, envR w m (st! E d.toNat (stp n.toNat) g) G → snR m (st! E d.toNat (stp n.toNat) g) (lookA (st! E d.toNat (stp n.toNat) g) S d) → G m → loR μ m → Q 0 m) : WP_X12_rule_W w μ d n g Q := by
  intro _ _ _
  refine X12_isDomain_s ev fun z hz rz => ⟨fun c => k0 fun q => by have := hz.mpr q.1; omega, fun c => ⟨fun n0 => ?_, fun n0 => k0 fun q => by have := q.2.1; omega⟩⟩
  have hd := hz.mp (by omega)
  obtain ⟨d', rfl⟩ : ∃ d' : Nat, d = (d' : Int) := ⟨d.toNat, by omega⟩
  obtain ⟨n', rfl⟩ : ∃ n' : Nat, n = (n' : Int) := ⟨n.toNat, by omega⟩
  simp only [Int.toNat_natCast] at k1
  have hd' : d' < eD E := by omega
  have bad : ¬ rlK 0 (n' : Int) → Q (-1) μ := fun h => k0 fun q => h q.2.2
  have hyN : ∀ f y : Int, (y = 1 ↔ (1 ≤ f ∧ f ≤ 6)) → ¬ y = 1 → f < 1 ∨ 6 < f := fun f y hy hn => by
    by_cases q : 1 ≤ f ∧ f ≤ 6
    · exact absurd (hy.mpr q) hn
    · omega
  refine loopF.i3 (fun s c l => 0 ≤ l ∧ sOK s c ∧ (rlK 0 (n' : Int) ↔ rlK s l) ∧ c + ((stp l.toNat).length : Int) = ((stp n').length : Int)) (fun _ _ l => l.toNat) ⟨n0, sOK.zero, Iff.rfl, by rw [Int.toNat_natCast]; omega⟩ (by omega) ?_
  rintro rc s c l ⟨l0, ok, h, hc⟩ ih s' c' l' e rs rcc rl
  cases e
  refine ⟨fun c2 => ?_, fun c2 f ef => X12_in_s fun y hy ry => ⟨fun c3 => bad (rlK.bad h c2 ef (hyN f y hy (by omega))), fun c3 a ea b eb => ?_⟩⟩
  rotate_left 1
  · have hf := hy.mp (by omega)
    have b01 := ok.bit hf ea eb
    refine ⟨fun c4 e1 he1 s2 es2 l2 el2 => ?_, fun c4 => bad (rlK.bad2 h c2 ef ea eb (by omega))⟩
    have ln := stp.len (show 0 < l.toNat by omega)
    exact ih _ _ _ ⟨by omega, sOK.add ok hf ea eb c4 he1 es2, rlK.step h c2 ef hf ea eb (by omega) he1 es2 el2, by rw [show l2.toNat = l.toNat / 10 by omega]; omega⟩ (by omega)
  have hk : rlK 0 (n' : Int) := h.mpr (rlK.zero c2)
  have ok' : rulO E (d' : Int) (n' : Int) := ⟨hd, n0, hk⟩
  have six := rlK.six n0 hk
  rw [Int.toNat_natCast] at six
  have l00 : l.toNat = 0 := by omega
  rw [l00, stp.zero] at hc
  have hc : c + ((0 : Nat) : Int) = ((stp n').length : Int) := hc
  refine loopF.im (fun i m => 0 ≤ i ∧ i ≤ 6 ∧ (∀ j : Nat, (j : Int) < i → m 163 (6 * d' + j) = 0) ∧ ∀ b j, ¬ (b = 163 ∧ 6 * d' ≤ j ∧ j < 6 * d' + 6) → m b j = μ b j) (fun i => (7 - i).toNat) ⟨by omega, by omega, fun j hj => by omega, fun _ _ _ => rfl⟩ (by omega) ?_
  rintro rc2 i m ⟨i0, i1, hz2, fm⟩ ih2 i' m' e ri T F
  cases e
  refine ⟨fun g6 => ?_, fun g6 m2 u2 T2 => ?_⟩
  rotate_left 1
  · obtain rfl := u2.is
    refine ih2 _ _ ⟨by omega, by omega, fun j hj => ?_, fun b j q => by rw [mUp.no (by omega)]; exact fm b j q⟩ (by omega)
    by_cases cj : (j : Int) = i
    · rw [mUp.yes ⟨rfl, by omega⟩]
    · rw [mUp.no (by omega)]; exact hz2 j (by omega)
  refine loopF.iim (fun y j m3 => 0 ≤ y ∧ y ≤ (n' : Int) ∧ j + 1 = ((stp y.toNat).length : Int) ∧ (stp y.toNat).length ≤ (stp n').length ∧ stp n' = stp y.toNat ++ rowL (fun i => m3 163 (6 * d' + ((stp y.toNat).length + i))) ((stp n').length - (stp y.toNat).length) ∧ (∀ i : Nat, (stp n').length ≤ i → i < 6 → m3 163 (6 * d' + i) = 0) ∧ ∀ b i, ¬ (b = 163 ∧ 6 * d' ≤ i ∧ i < 6 * d' + 6) → m3 b i = μ b i) (fun _ j => (j + 1).toNat) ⟨by omega, by omega, by rw [Int.toNat_natCast]; omega, by rw [Int.toNat_natCast]; exact Nat.le_refl _, by rw [Int.toNat_natCast, Nat.sub_self]; exact (List.append_nil _).symm, fun i _ h6 => hz2 i (by omega), fm⟩ (by omega) ?_
  rintro rc3 y j m3 ⟨y0, y1, hj, hl, hs, hz3, fr3⟩ ih3 y' j' m3' e ry rj T3 F3
  cases e
  refine ⟨fun q2 m4 u4 T4 => ?_, fun q2 v ev' m4 u4 T4 x ex => ?_⟩
  · obtain rfl := u4.is
    have y00 := stp.nil (n := y.toNat) (by omega)
    rw [y00, stp.zero] at hs
    have hs : stp n' = rowL (fun i => m3 163 (6 * d' + (0 + i))) ((stp n').length - 0) := hs
    rw [Nat.sub_zero] at hs
    have row : rowL (fun i => mUp m3 164 ((d' : Int)).toNat g 163 (6 * d' + i)) 6 = stp n' ++ List.replicate (6 - (stp n').length) 0 := by
      have e6 : (6 : Nat) = (stp n').length + (6 - (stp n').length) := by omega
      have e7 : rowL (fun i => mUp m3 164 ((d' : Int)).toNat g 163 (6 * d' + i)) ((stp n').length + (6 - (stp n').length)) = stp n' ++ List.replicate (6 - (stp n').length) 0 := by
        rw [rowL.add, rowL.rep (f := fun i => mUp m3 164 ((d' : Int)).toNat g 163 (6 * d' + ((stp n').length + i))) (fun i hi => by rw [mUp.no (by omega)]; exact hz3 _ (by omega) (by omega))]
        congr 1
        refine Eq.trans (rowL.ext fun i _ => ?_) hs.symm
        rw [mUp.no (by omega), Nat.zero_add]
      rw [← e6] at e7
      exact e7
    have f4 : ∀ b i, ¬ (b = 163 ∧ 6 * d' ≤ i ∧ i < 6 * d' + 6) → ¬ (b = 164 ∧ i = d') → mUp m3 164 ((d' : Int)).toNat g b i = μ b i := fun b i q1 q3 => by
      rw [mUp.no (by omega)]; exact fr3 b i q1
    have ev2 := ev.st (g := g) hw hd' row (mUp.yes ⟨rfl, by omega⟩) f4
    have st2 : snR (mUp m3 164 ((d' : Int)).toNat g) (st! E d' (stp n') g) S := snR.cg (E := E) st hw hT fun b i h => f4 b i (by omega) (by omega)
    have g2 : G (mUp m3 164 ((d' : Int)).toNat g) := gG μ _ hG fun b i q1 q2 q3 => f4 b i (by omega) (by omega)
    exact X12_lookAll_s hw ev2 g2 gG st2 sn (en.st hd') hd' hM fun m5 s5 g5 l5 T5 F5 => k1 ok' m5 (ev2.fr hw (mF.refl.call F5 rfl)) s5 g5 fun i hi => (l5 i hi).trans (f4 126 i (by omega) (by omega))
  · obtain rfl := u4.is
    have lp : 0 < y.toNat := by
      apply Classical.byContradiction
      intro c9
      have : y.toNat = 0 := by omega
      rw [this, stp.zero] at hj
      have hj : j + 1 = ((0 : Nat) : Int) := hj
      omega
    have xe : x.toNat = y.toNat / 10 := by omega
    have ln := stp.len lp
    have ej : (6 * (d' : Int) + j).toNat = 6 * d' + (stp (y.toNat / 10)).length := by omega
    rw [ej]
    refine ih3 _ _ _ ⟨by omega, by omega, by rw [xe]; omega, by rw [xe]; omega, ?_, fun i h1 h2 => by rw [mUp.no (by omega)]; exact hz3 i h1 h2, fun b i hb => by rw [mUp.no (by omega)]; exact fr3 b i hb⟩ (by omega)
    rw [xe]
    have hv : v = ((y.toNat % 10 : Nat) : Int) := by omega
    have e9 : (stp n').length - (stp (y.toNat / 10)).length = ((stp n').length - (stp y.toNat).length) + 1 := by omega
    have r0 : mUp m3 163 (6 * d' + (stp (y.toNat / 10)).length) v 163 (6 * d' + ((stp (y.toNat / 10)).length + 0)) = ((y.toNat % 10 : Nat) : Int) := by rw [mUp.yes ⟨rfl, by omega⟩, hv]
    have r1 : rowL (fun i => mUp m3 163 (6 * d' + (stp (y.toNat / 10)).length) v 163 (6 * d' + ((stp (y.toNat / 10)).length + (i + 1)))) ((stp n').length - (stp y.toNat).length) = rowL (fun i => m3 163 (6 * d' + ((stp y.toNat).length + i))) ((stp n').length - (stp y.toNat).length) := rowL.ext fun i _ => by
      rw [mUp.no (by omega), show (stp (y.toNat / 10)).length + (i + 1) = (stp y.toNat).length + i by omega]
    have key : ∀ R : List Int, stp y.toNat ++ R = stp (y.toNat / 10) ++ (((y.toNat % 10 : Nat) : Int) :: R) := fun R => by
      rw [stp.pos lp, List.append_assoc]
      rfl
    refine hs.trans ?_
    rw [e9, rowL.head, r0, r1]
    exact key _
end Rule
noncomputable def rul! (x : St) (d n g : Int) : Int × St := cIf (rulO (xE x) d n) (0, st! (xE x) d.toNat (stp n.toNat) g, xJ x, lookA (st! (xE x) d.toNat (stp n.toNat) g) (xS x) d, xH x) (-1, x)
section RuleS
variable {w : mW} {μ : mM} {x : St}
theorem C_rule {d n g : Int} (hw : mWF w) (hT : mT w μ) (hn : n ≤ 2147483647) (h : KCl w μ x) (k : KX x) : WP_X11_rule_W w μ d n g (fun z m => z = (rul! x d n g).1 ∧ (mF lLC w μ m → KCl w m (rul! x d n g).2)) := by
  refine X11_rule_s hw hT hn (h.env hw hT k) h.2.2.2.2.1 k.1 k.2.1 (fun c => ?_) (fun c m ev sn lo => ?_)
  · have e : rul! x d n g = (-1, x) := cIf.neg c
    rw [e]; exact ⟨rfl, fun _ => h⟩
  · have e : rul! x d n g = (0, st! (xE x) d.toNat (stp n.toNat) g, xJ x, lookA (st! (xE x) d.toNat (stp n.toNat) g) (xS x) d, xH x) := cIf.pos c
    rw [e]; exact ⟨rfl, fun F => h.next hw hT F ev sn lo.d rfl rfl rfl⟩
theorem R_rule {d n g : Int} (hw : mWF w) (hT : mT w μ) (hn : n ≤ 2147483647) (h : KRf μ x) (k : KX x) (hM : sMd (xS x) ≤ 2000000000) : WP_X12_rule_W w μ d n g (fun z m => z = (rul! x d n g).1 ∧ (mF lKR w μ m → KRf m (rul! x d n g).2)) := by
  have m0 := k.2.2.2.2.2.2.1
  refine X12_rule_s hw hT hn (h.env hw k) h.2.2.2.2.2.2.1 gJ.st h.2.2.2.2.1 k.1 k.2.1 ⟨m0, by omega⟩ (fun c => ?_) (fun c m ev sn hg lo => ?_)
  · have e : rul! x d n g = (-1, x) := cIf.neg c
    rw [e]; exact ⟨rfl, fun _ => h⟩
  · have e : rul! x d n g = (0, st! (xE x) d.toNat (stp n.toNat) g, xJ x, lookA (st! (xE x) d.toNat (stp n.toNat) g) (xS x) d, xH x) := cIf.pos c
    rw [e]; exact ⟨rfl, fun F => h.next hw hT F ev sn hg lo rfl rfl rfl⟩
theorem X_rule {d n g : Int} (k : KX x) : kxS x (rul! x d n g).2 := by
  by_cases c : rulO (xE x) d n
  · have e : rul! x d n g = (0, st! (xE x) d.toNat (stp n.toNat) g, xJ x, lookA (st! (xE x) d.toNat (stp n.toNat) g) (xS x) d, xH x) := cIf.pos c
    rw [e]
    have en := k.2.1.st (d := d.toNat) (l := stp n.toNat) (g := g) (by have := c.1; omega)
    have L := lookA.cn (E := st! (xE x) d.toNat (stp n.toNat) g) (S := xS x) (d := d.toNat) k.1 en (by have := c.1; show d.toNat < eD (xE x); omega)
    rw [Int.toNat_of_nonneg c.1.1] at L
    exact k.next en L (by decide) rfl rfl k.2.2.2.2.2.2.2
  · have e : rul! x d n g = (-1, x) := cIf.neg c
    rw [e]; exact kxS.refl k
end RuleS
end
section
/-! Judge, hand, route, pace. -/
def btw (E : En) (a b : Int) (t : Nat) : Prop := (eA E t = a ∧ eB E t = b) ∨ (eA E t = b ∧ eB E t = a)
theorem btw.side {E : En} {a b : Int} {t : Nat} (h : btw E a b t) (hne : ¬ eA E t = eB E t) : ∃ s : Nat, s < 2 ∧ a = eN E t s ∧ b = eN E t (1 - s) ∧ ((s : Int) = if a = eA E t then 0 else 1) := by
  rcases h with ⟨h1, h2⟩ | ⟨h1, h2⟩
  · exact ⟨0, by decide, h1.symm, h2.symm, by rw [if_pos h1.symm]; rfl⟩
  · exact ⟨1, by decide, h2.symm, h1.symm, by rw [if_neg (fun q => hne (q.symm.trans h2.symm))]; rfl⟩
section Btw
variable {w : mW} {μ : mM} {E : En} {G : mM → Prop}
theorem X10_tieBetween_end_s {a b : Int} {Q : Int → mM → Prop} (ev : envC w μ E) (k0 : (∀ t, t < eT E → ¬ btw E a b t) → Q (-1) μ) (k1 : ∀ t, t < eT E → btw E a b t → Q (t : Int) μ) : WP_X10_tieBetween_Wend w μ a b Q := by
  refine loopF.i (fun z => 0 ≤ z ∧ z ≤ (eT E : Int) ∧ ∀ t : Nat, (t : Int) < z → ¬ btw E a b t) (fun z => (21 - z).toNat) ⟨by omega, by omega, fun t h => by omega⟩ (by omega) ?_
  rintro rc z ⟨z0, z1, hz⟩ ih z' e rz n en rn
  cases e
  have e1 := ev.1
  refine ⟨fun c => k0 fun t ht => hz t (by omega), fun c b1 eb1 _ u eu ru => ?_⟩
  obtain ⟨zN, hzN⟩ : ∃ zN : Nat, z = (zN : Int) := ⟨z.toNat, by omega⟩
  subst hzN
  have zt : zN < eT E := by omega
  rw [Int.toNat_natCast] at eb1
  have t1 := (ev.2.2.2.1.1 zN zt).1
  have eb : b1 = tbA μ zN := by omega
  subst eb
  obtain ⟨a1, a2, _⟩ := ev.2.2.2.2.1 zN zt
  rw [a1] at eu
  have go : ¬ btw E a b zN → rc ((zN : Int) + 1) := fun h => ih _ ⟨by omega, by omega, fun t ht => by
    by_cases c2 : t = zN
    · rw [c2]; exact h
    · exact hz t (by omega)⟩ (by omega)
  have v2 : ∀ v, μ (tbA μ zN) 1 = v → eB E zN = v := fun v e => a2.symm.trans e
  exact ⟨fun c2 => ⟨fun c3 => go fun h => by rcases h with h | h <;> omega, fun c3 v ev' _ => ⟨fun c4 => go fun h => by have := v2 v ev'; rcases h with h | h <;> omega, fun c4 => k1 zN zt (Or.inr ⟨by omega, by have := v2 v ev'; omega⟩)⟩⟩, fun c2 v ev' _ => ⟨fun c3 => k1 zN zt (Or.inl ⟨by omega, by have := v2 v ev'; omega⟩), fun c3 => ⟨fun c4 => go fun h => by have := v2 v ev'; rcases h with h | h <;> omega, fun c4 => ⟨fun c5 => go fun h => by have := v2 v ev'; rcases h with h | h <;> omega, fun c5 => k1 zN zt (Or.inr ⟨by omega, by have := v2 v ev'; omega⟩)⟩⟩⟩⟩
theorem X12_tieOf_end_s {a b : Int} {Q : Int → mM → Prop} (ev : envR w μ E G) (k0 : (∀ t, t < eT E → ¬ btw E a b t) → Q (-99999999) μ) (k1 : ∀ t, t < eT E → btw E a b t → Q (t : Int) μ) : WP_X12_tieOf_Wend w μ a b Q := by
  intro n en rn
  have e1 := ev.1
  refine loopF.i (fun z => 0 ≤ z ∧ z ≤ (eT E : Int) ∧ ∀ t : Nat, (t : Int) < z → ¬ btw E a b t) (fun z => (21 - z).toNat) ⟨by omega, by omega, fun t h => by omega⟩ (by omega) ?_
  rintro rc z ⟨z0, z1, hz⟩ ih z' e rz
  cases e
  refine ⟨fun c => k0 fun t ht => hz t (by omega), fun c u eu ru => ?_⟩
  obtain ⟨zN, hzN⟩ : ∃ zN : Nat, z = (zN : Int) := ⟨z.toNat, by omega⟩
  subst hzN
  have zt : zN < eT E := by omega
  obtain ⟨a1, a2, _⟩ := ev.2.2.2.1 zN zt
  rw [show (2 * (zN : Int)).toNat = 2 * zN by omega, a1] at eu
  have go : ¬ btw E a b zN → rc ((zN : Int) + 1) := fun h => ih _ ⟨by omega, by omega, fun t ht => by
    by_cases c2 : t = zN
    · rw [c2]; exact h
    · exact hz t (by omega)⟩ (by omega)
  have v2 : ∀ v, μ 110 (2 * (zN : Int) + 1).toNat = v → eB E zN = v := fun v e => by
    rw [show (2 * (zN : Int) + 1).toNat = 2 * zN + 1 by omega, a2] at e
    exact e
  exact ⟨fun c2 => ⟨fun c3 => go fun h => by rcases h with h | h <;> omega, fun c3 v ev' _ => ⟨fun c4 => go fun h => by have := v2 v ev'; rcases h with h | h <;> omega, fun c4 => k1 zN zt (Or.inr ⟨by omega, by have := v2 v ev'; omega⟩)⟩⟩, fun c2 v ev' _ => ⟨fun c3 => k1 zN zt (Or.inl ⟨by omega, by have := v2 v ev'; omega⟩), fun c3 => ⟨fun c4 => go fun h => by have := v2 v ev'; rcases h with h | h <;> omega, fun c4 => ⟨fun c5 => go fun h => by have := v2 v ev'; rcases h with h | h <;> omega, fun c5 => k1 zN zt (Or.inr ⟨by omega, by have := v2 v ev'; omega⟩)⟩⟩⟩⟩
end Btw
def jdgO (E : En) (n p d q : Int) : Prop := (0 ≤ p ∧ p < n) ∧ (0 ≤ d ∧ d < (eD E : Int)) ∧ (0 ≤ q ∧ q < (eD E : Int)) ∧ ∃ t, t < eT E ∧ btw E d q t
noncomputable def jdg! (n : Int) (x : St) (p d q : Int) : Int × St := cIf (jdgO (xE x) n p d q) (match xO x with | none => (-2, x) | some r => ((if (eTh (xE x) p d q r).1 = true then 1 else 0), xE x, xJ x, xS x, some (eTh (xE x) p d q r).2, xM x)) (-1, x)
section Jdg
variable {w : mW} {μ : mM} {x : St}
theorem jdg!.none' {n p d q : Int} (c : jdgO (xE x) n p d q) (h : xO x = none) : jdg! n x p d q = (-2, x) := by
  unfold jdg!
  rw [cIf.pos c, h]
theorem jdg!.some' {n p d q : Int} {r : Rt} (c : jdgO (xE x) n p d q) (h : xO x = some r) : jdg! n x p d q = ((if (eTh (xE x) p d q r).1 = true then 1 else 0), xE x, xJ x, xS x, some (eTh (xE x) p d q r).2, xM x) := by
  unfold jdg!
  rw [cIf.pos c, h]
theorem C_judge {p d q : Int} (hw : mWF w) (hT : mT w μ) (h : KCl w μ x) (k : KX x) : WP_X11_judge_W w μ p d q (fun z m => z = (jdg! (μ 21 8) x p d q).1 ∧ (mF lLC w μ m → KCl w m (jdg! (μ 21 8) x p d q).2)) := by
  have ev := h.env hw hT k
  have bad : ¬ jdgO (xE x) (μ 21 8) p d q → -1 = (jdg! (μ 21 8) x p d q).1 ∧ (mF lLC w μ μ → KCl w μ (jdg! (μ 21 8) x p d q).2) := fun c => by
    have e : jdg! (μ 21 8) x p d q = (-1, x) := cIf.neg c
    rw [e]; exact ⟨rfl, fun _ => h⟩
  refine ⟨fun c => bad fun g => by have := g.1; omega, fun c n en rn => ⟨fun c2 => bad fun g => by have := g.1; omega, fun c2 _ _ _ => X11_isDomain_s ev fun z hz rz => ⟨fun c3 => bad fun g => by have := hz.mpr g.2.1; omega, fun c3 => X11_isDomain_s ev fun y hy ry => ⟨fun c4 => X10_tieBetween_end_s ev (fun none _ => ⟨fun g => absurd g (by decide), fun _ => bad fun g => ?_⟩) (fun t ht hb _ => ⟨fun _ v ev' rv => ⟨fun c5 b eb _ => ?_, fun c5 => ?_⟩, fun g => absurd g (by omega)⟩), fun c4 => bad fun g => by have := hy.mpr g.2.2.1; omega⟩⟩⟩⟩
  · obtain ⟨t, t1, t2⟩ := g.2.2.2
    exact none t t1 t2
  · have ok : jdgO (xE x) (μ 21 8) p d q := ⟨⟨c, by omega⟩, hz.mp (by omega), hy.mp (by omega), t, ht, hb⟩
    rw [Int.toNat_natCast] at eb
    have t1 := (ev.2.2.2.1.1 t ht).1
    have eb' : b = tbA μ t := by omega
    subst eb'
    obtain ⟨a1, a2, _⟩ := ev.2.2.2.2.1 t ht
    have hne := (k.2.1.1.1 t ht).1
    obtain ⟨s, s2, sd, sq, se⟩ := hb.side hne
    obtain ⟨r, hr⟩ : ∃ r, rtC μ 3 = some r := ⟨_, rtC.the (by rw [ev']; exact c5)⟩
    have hH : xO x = some r := h.2.2.2.2.2.1.symm.trans hr
    have ho := hOk.two k.2.2.2.2.2.1.1 hH
    have go : WP_X1_lets_W w μ p 3 (tbA μ t) (s : Int) (fun z59 μ55 => mT w μ55 → mF [21002, 21003, 21004, 21005, 21006, 21007, 200004, 200006, 200007, 200008, 201999, 202999] w μ μ55 → (0 ≤ z59 ∧ z59 ≤ 1) → ((z59 = 0) → (0 : Int) = (jdg! (μ 21 8) x p d q).1 ∧ (mF lLC w μ μ55 → KCl w μ55 (jdg! (μ 21 8) x p d q).2)) ∧ ((¬ z59 = 0) → (1 : Int) = (jdg! (μ 21 8) x p d q).1 ∧ (mF lLC w μ μ55 → KCl w μ55 (jdg! (μ 21 8) x p d q).2))) := by
      refine ev.2.2.2.2.2.2.2 μ p 3 t s r _ hT mF.refl ht s2 (Or.inr ⟨c, by omega⟩) hr ho.1 (A_3 hw) fun z m1 hz1 hr1 f _ _ rz1 => ?_
      rw [← sd, ← sq] at hz1 hr1
      rw [jdg!.some' ok hH]
      have K : mF lLC w μ m1 → KCl w m1 (xE x, xJ x, xS x, some (eTh (xE x) p d q r).2, xM x) := fun F => h.hand (fun b i q1 q2 => f b i (by omega) (by omega) (by omega) q2) (fun b hb => funext fun i => f b i (by omega) (by omega) (by omega) (by omega)) hr1 (h.2.1.fr hw F)
      exact ⟨fun g => ⟨by rw [if_neg (fun e => by have := hz1.mpr e; omega)], K⟩, fun g => ⟨by rw [if_pos (hz1.mp (by omega))], K⟩⟩
    refine fun y1 ey1 _ y2 ey2 _ => ?_
    rw [a1] at ey1
    refine ⟨fun g _ => ?_, fun g _ => ?_⟩
    · rw [if_neg (by omega)] at se
      have s1 : s = 1 := by omega
      subst s1
      exact go
    · rw [if_pos (by omega)] at se
      have s1 : s = 0 := by omega
      subst s1
      exact go
  · have ok : jdgO (xE x) (μ 21 8) p d q := ⟨⟨c, by omega⟩, hz.mp (by omega), hy.mp (by omega), t, ht, hb⟩
    have hH : xO x = none := h.2.2.2.2.2.1.symm.trans (rtC.nil (ev'.trans c5))
    rw [jdg!.none' ok hH]
    exact ⟨rfl, fun _ => h⟩
theorem R_judge {p d q : Int} (hw : mWF w) (hT : mT w μ) (h : KRf μ x) (k : KX x) : WP_X12_judge_W w μ p d q (fun z m => z = (jdg! (μ 106 39) x p d q).1 ∧ KRf m (jdg! (μ 106 39) x p d q).2) := by
  have ev := h.env (w := w) hw k
  have bad : ¬ jdgO (xE x) (μ 106 39) p d q → -1 = (jdg! (μ 106 39) x p d q).1 ∧ KRf μ (jdg! (μ 106 39) x p d q).2 := fun c => by
    have e : jdg! (μ 106 39) x p d q = (-1, x) := cIf.neg c
    rw [e]; exact ⟨rfl, h⟩
  intro n en rn
  refine X12_in_s fun v hv rv => ⟨fun c => bad fun g => by have := hv.mpr (by have := g.1; omega); omega, fun c _ _ _ => X12_isDomain_s ev fun z hz rz => ⟨fun c3 => bad fun g => by have := hz.mpr g.2.1; omega, fun c3 => X12_isDomain_s ev fun y hy ry => ⟨fun c4 => bad fun g => by have := hy.mpr g.2.2.1; omega, fun c4 _ _ _ => X12_tieOf_end_s ev (fun none _ => ⟨fun g => absurd rfl g, fun _ => bad fun g => ?_⟩) (fun t ht hb _ => ⟨fun _ e0 _ _ e1 _ _ hh ehh rhh f0 _ _ => ⟨fun c5 => ?_, fun c5 => ?_⟩, fun g => absurd g (by omega)⟩)⟩⟩⟩
  · obtain ⟨t, t1, t2⟩ := g.2.2.2
    exact none t t1 t2
  · have hp := hv.mp (by omega)
    have ok : jdgO (xE x) (μ 106 39) p d q := ⟨⟨hp.1, by omega⟩, hz.mp (by omega), hy.mp (by omega), t, ht, hb⟩
    have hne := (k.2.1.1.1 t ht).1
    obtain ⟨s, s2, sd, sq, se⟩ := hb.side hne
    have hha : haR μ = rtR μ 0 := by
      unfold haR
      rw [if_neg (by rw [ehh]; exact c5)]
    have h0 := h.2.2.2.2.2.2.2 (by rw [ehh]; exact c5)
    obtain ⟨r, hr⟩ : ∃ r, rtR μ 0 = some r := by
      cases e : rtR μ 0 with
      | none => exact absurd e h0
      | some r => exact ⟨r, rfl⟩
    have hH : xO x = some r := h.2.2.2.2.2.1.1.symm.trans (hha.trans hr)
    have ho := hOk.two k.2.2.2.2.2.1.1 hH
    have go := ev.2.2.2.2.2.2 μ p 0 t s r
    rw [← sd, ← sq] at go
    refine go _ hT mF.refl h.2.2.2.2.2.2.1 ht s2 (Or.inr ⟨hp.1, by omega⟩) (by omega) (by omega) hr ho.1 ho.2 fun z m1 hz1 hr1 g1 f _ F1 rz1 w1 _ => ?_
    rw [jdg!.some' ok hH]
    have e70 : m1 106 70 = μ 106 70 := f 106 70 (by omega) (by omega) (by omega) (by omega) (by omega)
    have K : KRf m1 (xE x, xJ x, xS x, some (eTh (xE x) p d q r).2, xM x) := h.hand hw hT (fun b i q1 q2 q3 => f b i (by omega) (by omega) (by omega) (by omega) (by omega)) g1 (by
      unfold haR
      rw [if_neg (by rw [e70, ehh]; exact c5)]
      exact hr1) (fun e => by cases e)
    exact ⟨fun g => ⟨by rw [if_neg (fun e => by have := hz1.mpr e; omega)], K⟩, fun g => ⟨by rw [if_pos (hz1.mp (by omega))], K⟩⟩
  · have hp := hv.mp (by omega)
    have ok : jdgO (xE x) (μ 106 39) p d q := ⟨⟨hp.1, by omega⟩, hz.mp (by omega), hy.mp (by omega), t, ht, hb⟩
    have hH : xO x = none := by
      show (xH x).1 = none
      rw [← h.2.2.2.2.2.1.1]
      unfold haR
      rw [if_pos (ehh.trans c5)]
    rw [jdg!.none' ok hH]
    exact ⟨rfl, h⟩
end Jdg
/-! What is in the hand. -/
def hnd (o : Option Rt) (k : Int) : Int := match o with
  | none => -99999999
  | some r => if k = 0 then r.1 else if k = 1 then r.2.1 else if k = 2 then r.2.2.1 else if k = 3 then r.2.2.2.1 else if k = 4 then ((wOf r).length : Int) else if k = 5 then ((mOf r).length : Int) else if 10 ≤ k ∧ k < 10 + ((wOf r).length : Int) then lgt (wOf r) (k - 10).toNat else if 100 ≤ k ∧ k < 100 + ((mOf r).length : Int) then lgt (mOf r) (k - 100).toNat else -99999999
section Hnd2
variable {w : mW} {μ : mM} {x : St}
theorem X11_hand_s {n : Int} {Q : Int → mM → Prop} (k : Q (hnd (rtC μ 3) n) μ) : WP_X11_hand_W w μ n Q := by
  intro z ez rz
  refine ⟨fun c => ?_, fun c => ?_⟩
  rotate_left 1
  · rw [rtC.nil (ez.trans c)] at k
    exact k
  have hr := rtC.the (μ := μ) (a := 3) (by rw [ez]; exact c)
  rw [hr] at k
  have k : Q (if n = 0 then μ 3 3 else if n = 1 then μ 3 4 else if n = 2 then μ 3 5 else if n = 3 then μ 3 6 else if n = 4 then ((rowL (μ (3 + 1)) (μ 3 7).toNat).length : Int) else if n = 5 then ((rowL (μ (3 + 2)) (μ 3 8).toNat).length : Int) else if 10 ≤ n ∧ n < 10 + ((rowL (μ (3 + 1)) (μ 3 7).toNat).length : Int) then lgt (rowL (μ (3 + 1)) (μ 3 7).toNat) (n - 10).toNat else if 100 ≤ n ∧ n < 100 + ((rowL (μ (3 + 2)) (μ 3 8).toNat).length : Int) then lgt (rowL (μ (3 + 2)) (μ 3 8).toNat) (n - 100).toNat else -99999999) μ := k
  rw [rowL.len, rowL.len] at k
  refine ⟨fun c0 v ev _ => ?_, fun n0 => ⟨fun c1 v ev _ => ?_, fun n1 => ⟨fun c2 v ev _ => ?_, fun n2 => ⟨fun c3 v ev _ => ?_, fun n3 => ⟨fun c4 v ev rv => ?_, fun n4 => ⟨fun c5 v ev rv => ?_, fun n5 => ?_⟩⟩⟩⟩⟩⟩
  · rw [if_pos c0, ev] at k; exact k
  · rw [if_neg n0, if_pos c1, ev] at k; exact k
  · rw [if_neg n0, if_neg n1, if_pos c2, ev] at k; exact k
  · rw [if_neg n0, if_neg n1, if_neg n2, if_pos c3, ev] at k; exact k
  · rw [if_neg n0, if_neg n1, if_neg n2, if_neg n3, if_pos c4, ev, Int.toNat_of_nonneg rv.1] at k; exact k
  · rw [if_neg n0, if_neg n1, if_neg n2, if_neg n3, if_neg n4, if_pos c5, ev, Int.toNat_of_nonneg rv.1] at k; exact k
  · rw [if_neg n0, if_neg n1, if_neg n2, if_neg n3, if_neg n4, if_neg n5] at k
    refine ⟨fun c => ?_, fun c v ev rv => ⟨fun c2 => ⟨fun c3 => ?_, fun c3 u eu ru => ⟨fun c4 => ?_, fun c4 y ey _ => ?_⟩⟩, fun c2 y ey _ => ?_⟩⟩
    · rw [if_neg (by omega), if_neg (by omega)] at k
      exact fun _ => k
    · rw [if_neg (by omega), if_neg (by omega)] at k
      exact fun _ => k
    · rw [if_neg (by omega), if_neg (by omega)] at k
      exact fun _ => k
    · rw [if_neg (by omega), if_pos (by omega), lgt.row (by omega), ey] at k
      exact fun _ => k
    · rw [if_pos (by omega), lgt.row (by omega), ey] at k
      exact fun _ => k
theorem X12_hand_s {n : Int} {Q : Int → mM → Prop} (hn : ¬ μ 106 70 = 0 → ¬ rtR μ 0 = none) (k : Q (hnd (haR μ) n) μ) : WP_X12_hand_W w μ n Q := by
  intro z ez rz
  refine ⟨fun c => ?_, fun c => ?_⟩
  · unfold haR at k
    rw [if_pos (ez.trans c)] at k
    exact k
  have h70 : ¬ μ 106 70 = 0 := by rw [ez]; exact c
  have hha : haR μ = rtR μ 0 := by
    unfold haR
    rw [if_neg h70]
  have hr := rtR.the (μ := μ) (r := 0) (fun q => hn h70 (rtR.nil q))
  rw [hha, hr] at k
  have k : Q (if n = 0 then μ 126 0 else if n = 1 then μ 126 1 else if n = 2 then μ 126 2 else if n = 3 then μ 126 3 else if n = 4 then ((rowL (fun k => μ 126 (40 * (0 : Int) + 6 + (k : Int)).toNat) (μ 126 4).toNat).length : Int) else if n = 5 then ((rowL (fun k => μ 126 (40 * (0 : Int) + 26 + (k : Int)).toNat) (μ 126 5).toNat).length : Int) else if 10 ≤ n ∧ n < 10 + ((rowL (fun k => μ 126 (40 * (0 : Int) + 6 + (k : Int)).toNat) (μ 126 4).toNat).length : Int) then lgt (rowL (fun k => μ 126 (40 * (0 : Int) + 6 + (k : Int)).toNat) (μ 126 4).toNat) (n - 10).toNat else if 100 ≤ n ∧ n < 100 + ((rowL (fun k => μ 126 (40 * (0 : Int) + 26 + (k : Int)).toNat) (μ 126 5).toNat).length : Int) then lgt (rowL (fun k => μ 126 (40 * (0 : Int) + 26 + (k : Int)).toNat) (μ 126 5).toNat) (n - 100).toNat else -99999999) μ := k
  rw [rowL.len, rowL.len] at k
  refine ⟨fun n0 => ⟨fun c5 => ⟨fun c => ?_, fun c v ev rv => ⟨fun c2 => ⟨fun c3 => ?_, fun c3 u eu ru => ⟨fun c4 => ?_, fun c4 y ey _ => ?_⟩⟩, fun c2 y ey _ => ?_⟩⟩, fun c5 v ev rv => ?_⟩, fun n0 => ?_⟩
  · rw [if_neg (by omega), if_neg (by omega), if_neg (by omega), if_neg (by omega), if_neg (by omega), if_neg (by omega), if_neg (by omega), if_neg (by omega)] at k
    exact k
  · have rv' : 0 ≤ v := (rv.2.2.1 (by decide)).1
    have ev : μ 126 4 = v := ev
    rw [if_neg (by omega), if_neg (by omega), if_neg (by omega), if_neg (by omega), if_neg (by omega), if_neg (by omega), if_neg (by omega), if_neg (by omega)] at k
    exact k
  · have rv' : 0 ≤ v := (rv.2.2.1 (by decide)).1
    have ru' : 0 ≤ u := (ru.2.2.2 (by decide)).1
    have ev : μ 126 4 = v := ev
    have eu : μ 126 5 = u := eu
    rw [if_neg (by omega), if_neg (by omega), if_neg (by omega), if_neg (by omega), if_neg (by omega), if_neg (by omega), if_neg (by omega), if_neg (by omega)] at k
    exact k
  · have rv' : 0 ≤ v := (rv.2.2.1 (by decide)).1
    have ru' : 0 ≤ u := (ru.2.2.2 (by decide)).1
    have ev : μ 126 4 = v := ev
    have eu : μ 126 5 = u := eu
    rw [if_neg (by omega), if_neg (by omega), if_neg (by omega), if_neg (by omega), if_neg (by omega), if_neg (by omega), if_neg (by omega), if_pos (by omega), lgt.row (f := fun k => μ 126 (40 * (0 : Int) + 26 + (k : Int)).toNat) (by omega), show (40 * (0 : Int) + 26 + (((n - 100).toNat : Nat) : Int)).toNat = (26 + n - 100).toNat by omega, ey] at k
    exact k
  · have rv' : 0 ≤ v := (rv.2.2.1 (by decide)).1
    have ev : μ 126 4 = v := ev
    rw [if_neg (by omega), if_neg (by omega), if_neg (by omega), if_neg (by omega), if_neg (by omega), if_neg (by omega), if_pos (by omega), lgt.row (f := fun k => μ 126 (40 * (0 : Int) + 6 + (k : Int)).toNat) (by omega), show (40 * (0 : Int) + 6 + (((n - 10).toNat : Nat) : Int)).toNat = (6 + n - 10).toNat by omega, ey] at k
    exact k
  · by_cases c0 : n = 0
    · subst c0
      have ev : μ 126 0 = v := ev
      rw [if_pos rfl, ev] at k; exact k
    by_cases c1 : n = 1
    · subst c1
      have ev : μ 126 1 = v := ev
      rw [if_neg (by decide), if_pos rfl, ev] at k; exact k
    by_cases c2 : n = 2
    · subst c2
      have ev : μ 126 2 = v := ev
      rw [if_neg (by decide), if_neg (by decide), if_pos rfl, ev] at k; exact k
    by_cases c3 : n = 3
    · subst c3
      have ev : μ 126 3 = v := ev
      rw [if_neg (by decide), if_neg (by decide), if_neg (by decide), if_pos rfl, ev] at k; exact k
    by_cases c4 : n = 4
    · subst c4
      have ev : μ 126 4 = v := ev
      have rv' : 0 ≤ v := (rv.2.2.1 (by decide)).1
      rw [if_neg (by decide), if_neg (by decide), if_neg (by decide), if_neg (by decide), if_pos rfl, ev, Int.toNat_of_nonneg rv'] at k; exact k
    · have c5' : n = 5 := by omega
      subst c5'
      have ev : μ 126 5 = v := ev
      have rv' : 0 ≤ v := (rv.2.2.2 (by decide)).1
      rw [if_neg (by decide), if_neg (by decide), if_neg (by decide), if_neg (by decide), if_neg (by decide), if_pos rfl, ev, Int.toNat_of_nonneg rv'] at k; exact k
  · rw [if_neg (by omega), if_neg (by omega), if_neg (by omega), if_neg (by omega), if_neg (by omega), if_neg (by omega), if_neg (by omega), if_neg (by omega)] at k
    exact k
end Hnd2
end
