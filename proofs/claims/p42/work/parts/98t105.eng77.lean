section
/-! Both halves, kept over what they don't read. -/
/-- the fixed cells that the class's half reads, but for policies -/
def kcX (a i : Nat) : Prop := (3 ≤ a ∧ a ≤ 5) ∨ (a = 6 ∧ 14 ≤ i ∧ i ≤ 16) ∨ a = 10 ∨ a = 11 ∨ (a = 32 ∧ 10 ≤ i ∧ i ≤ 12) ∨ (33 ≤ a ∧ a ≤ 35) ∨ (70 ≤ a ∧ a ≤ 72) ∨ (a = 76 ∧ (i = 13 ∨ i = 14 ∨ i = 16)) ∨ (81 ≤ a ∧ a ≤ 85)
/-- those of policies, prefixes and rights -/
def kcJ (a i : Nat) : Prop := (a = 6 ∧ 17 ≤ i ∧ i ≤ 18) ∨ (7 ≤ a ∧ a ≤ 9) ∨ (14 ≤ a ∧ a ≤ 20)
section KeepC
variable {w w1 : mW} {μ m : mM} {x : St} {y : S2}
theorem mAt.big {a s : Nat} (h : mAt w a s) (hs : 200 ≤ s) : 200 ≤ w.2.1 a ∧ a < w.1 := ⟨by rw [h.1]; exact hs, h.2.1⟩
theorem KCl.shT (hw : mWF w) (hT : mT w μ) (h : ev0C μ (xE x)) {t j : Nat} (ht : t < eT (xE x)) (hj : j < 124) : 200 ≤ w.2.1 (tbA μ t + j) ∧ tbA μ t + j < w.1 := by
  have h2 := KCl.at (x := x) hw hT h ht
  have c : j = 0 ∨ j = 1 ∨ j = 2 ∨ j = 3 ∨ ∃ k, k < 20 ∧ (j = 4 + 6 * k ∨ j = 5 + 6 * k ∨ j = 6 + 6 * k ∨ j = 7 + 6 * k ∨ j = 8 + 6 * k ∨ j = 9 + 6 * k) := by
    by_cases q : j < 4
    · omega
    · exact Or.inr (Or.inr (Or.inr (Or.inr ⟨(j - 4) / 6, by omega, by omega⟩)))
  have a1 : mAt w (tbA μ t + 1) 221 := (hT (tbA μ t) 220 h2 3).2
  have a2 : mAt w (tbA μ t + 2) 222 := (hT (tbA μ t) 220 h2 4).2
  have a3 : mAt w (tbA μ t + 3) 223 := (hT (tbA μ t) 220 h2 5).2
  rcases c with e | e | e | e | ⟨k, hk, e⟩
  · subst e; exact h2.big (by decide)
  · subst e; exact a1.big (by decide)
  · subst e; exact a2.big (by decide)
  · subst e; exact a3.big (by decide)
  · have l := (h.2.2.2.1.1 t ht).2.2 k hk
    have g : 0 ≤ μ (tbA μ t + 2) k ∧ mAt w (μ (tbA μ t + 2) k).toNat 200 := hT (tbA μ t + 2) 222 a2 k
    have g' : 0 ≤ μ (tbA μ t + 3) k ∧ mAt w (μ (tbA μ t + 3) k).toNat 200 := hT (tbA μ t + 3) 223 a3 k
    rw [l.1, Int.toNat_natCast] at g
    rw [l.2, Int.toNat_natCast] at g'
    have b1 : mAt w (tbA μ t + 4 + 6 * k + 1) 201 := (hT (tbA μ t + 4 + 6 * k) 200 g.2 0).2
    have b2 : mAt w (tbA μ t + 4 + 6 * k + 2) 202 := (hT (tbA μ t + 4 + 6 * k) 200 g.2 1).2
    have b3 : mAt w (tbA μ t + 7 + 6 * k + 1) 201 := (hT (tbA μ t + 7 + 6 * k) 200 g'.2 0).2
    have b4 : mAt w (tbA μ t + 7 + 6 * k + 2) 202 := (hT (tbA μ t + 7 + 6 * k) 200 g'.2 1).2
    rcases e with e | e | e | e | e | e
    · rw [show tbA μ t + j = tbA μ t + 4 + 6 * k by omega]; exact g.2.big (by decide)
    · rw [show tbA μ t + j = tbA μ t + 4 + 6 * k + 1 by omega]; exact b1.big (by decide)
    · rw [show tbA μ t + j = tbA μ t + 4 + 6 * k + 2 by omega]; exact b2.big (by decide)
    · rw [show tbA μ t + j = tbA μ t + 7 + 6 * k by omega]; exact g'.2.big (by decide)
    · rw [show tbA μ t + j = tbA μ t + 7 + 6 * k + 1 by omega]; exact b3.big (by decide)
    · rw [show tbA μ t + j = tbA μ t + 7 + 6 * k + 2 by omega]; exact b4.big (by decide)
theorem KCl.shD (hw : mWF w) (hT : mT w μ) (h : ev0C μ (xE x)) {d j : Nat} (hd : d < eD (xE x)) (hj : j < 35) : 200 ≤ w.2.1 (dbA μ d + j) ∧ dbA μ d + j < w.1 := by
  have h2 := KCl.domA (x := x) hw hT h hd
  have c : j = 0 ∨ j = 1 ∨ j = 2 ∨ j = 3 ∨ j = 4 ∨ ∃ p, p < 10 ∧ (j = 5 + 3 * p ∨ j = 6 + 3 * p ∨ j = 7 + 3 * p) := by
    by_cases q : j < 5
    · omega
    · exact Or.inr (Or.inr (Or.inr (Or.inr (Or.inr ⟨(j - 5) / 3, by omega, by omega⟩))))
  have a1 : mAt w (dbA μ d + 1) 211 := (hT (dbA μ d) 210 h2 0).2
  have a2 : mAt w (dbA μ d + 2) 212 := (hT (dbA μ d) 210 h2 1).2
  have a3 : mAt w (dbA μ d + 3) 213 := (hT (dbA μ d) 210 h2 2).2
  have a4 : mAt w (dbA μ d + 4) 214 := (hT (dbA μ d) 210 h2 3).2
  rcases c with e | e | e | e | e | ⟨p, hp, e⟩
  · subst e; exact h2.big (by decide)
  · subst e; exact a1.big (by decide)
  · subst e; exact a2.big (by decide)
  · subst e; exact a3.big (by decide)
  · subst e; exact a4.big (by decide)
  · have l := (h.2.2.2.1.2.1 d hd).2.2 p hp
    have g : 0 ≤ μ (dbA μ d + 4) p ∧ mAt w (μ (dbA μ d + 4) p).toNat 200 := hT (dbA μ d + 4) 214 a4 p
    rw [l, Int.toNat_natCast] at g
    have b1 : mAt w (dbA μ d + 5 + 3 * p + 1) 201 := (hT (dbA μ d + 5 + 3 * p) 200 g.2 0).2
    have b2 : mAt w (dbA μ d + 5 + 3 * p + 2) 202 := (hT (dbA μ d + 5 + 3 * p) 200 g.2 1).2
    rcases e with e | e | e
    · rw [show dbA μ d + j = dbA μ d + 5 + 3 * p by omega]; exact g.2.big (by decide)
    · rw [show dbA μ d + j = dbA μ d + 5 + 3 * p + 1 by omega]; exact b1.big (by decide)
    · rw [show dbA μ d + j = dbA μ d + 5 + 3 * p + 2 by omega]; exact b2.big (by decide)
/-- the class's half where its policies may be new -/
theorem KCl.cgJ {J' : Ju} {f' : Int → Int → Int → Rt → Bool × Rt} (hw : mWF w) (hT : mT w μ) (h : KCl w μ x) (hx : ∀ a i, kcX a i → m a i = μ a i) (hb : ∀ a i, 192 ≤ a → a < w.1 → 200 ≤ w.2.1 a → m a i = μ a i) (jg : jgC w1 m J') (eR : jR J' = jR (xJ x)) (hp : ∀ t i, t < eT (xE x) → i < 4 → plO (m 21 8) (ePl (xE x) (4 * t + i))) : KCl w1 m (th! (xE x) f', J', xS x, xH x) := by
  obtain ⟨⟨h1, h2, h3, ⟨l1, l2, l3, l4, l5, l6⟩, h5, h6⟩, _, rl, _, sn, hh⟩ := h
  have ev : ev0C μ (xE x) := ⟨h1, h2, h3, ⟨l1, l2, l3, l4, l5, l6⟩, h5, h6⟩
  have fx : ∀ a i, kcX a i → m a i = μ a i := hx
  have tb : ∀ t, tbA m t = tbA μ t := fun t => congrArg Int.toNat (fx 11 t (by unfold kcX; omega))
  have db : ∀ d, dbA m d = dbA μ d := fun d => congrArg Int.toNat (fx 10 d (by unfold kcX; omega))
  have ft : ∀ t j i, t < eT (xE x) → j < 124 → m (tbA μ t + j) i = μ (tbA μ t + j) i := fun t j i ht hj => by
    have s := KCl.shT (x := x) hw hT ev ht hj
    exact hb _ i (by have := (l1 t ht).2.1; omega) s.2 s.1
  have fd : ∀ d j i, d < eD (xE x) → j < 35 → m (dbA μ d + j) i = μ (dbA μ d + j) i := fun d j i hd hj => by
    have s := KCl.shD (x := x) hw hT ev hd hj
    exact hb _ i (by have := (l2 d hd).2.1; omega) s.2 s.1
  have f0 : ∀ t i, t < eT (xE x) → m (tbA μ t) i = μ (tbA μ t) i := fun t i ht => ft t 0 i ht (by omega)
  have d0 : ∀ d i, d < eD (xE x) → m (dbA μ d) i = μ (dbA μ d) i := fun d i hd => fd d 0 i hd (by omega)
  refine ⟨⟨by rw [fx _ _ (by unfold kcX; omega)]; exact h1, by rw [fx _ _ (by unfold kcX; omega)]; exact h2, by rw [fx _ _ (by unfold kcX; omega)]; exact h3, ⟨fun t ht => ?_, fun d hd => ?_, fun t s ht hs hne => ?_, fun d e hd he hne => ?_, fun t d ht hd => ?_, fun i hi => by rw [fx _ _ (by unfold kcX; omega)]; exact l6 i hi⟩, fun t ht => ?_, fun d hd => ?_⟩, jg, fun t s ht hs => ?_, hp, ?_, hC.of (fun b i hb => fx b i (by unfold kcX; omega)) hh⟩
  · obtain ⟨a1, a2, a3⟩ := l1 t ht
    rw [tb]
    exact ⟨by rw [fx 11 t (by unfold kcX; omega)]; exact a1, a2, fun q hq => by rw [ft t 2 q ht (by omega), ft t 3 q ht (by omega)]; exact a3 q hq⟩
  · obtain ⟨a1, a2, a3⟩ := l2 d hd
    rw [db]
    exact ⟨by rw [fx 10 d (by unfold kcX; omega)]; exact a1, a2, fun p hp => by rw [fd d 4 p hd (by omega)]; exact a3 p hp⟩
  · rw [tb, tb]; exact l3 t s ht hs hne
  · rw [db, db]; exact l4 d e hd he hne
  · rw [tb, db]; exact l5 t d ht hd
  · obtain ⟨a1, a2, a3, a4, a5, a6⟩ := h5 t ht
    rw [tb, f0 t _ ht, f0 t _ ht, f0 t _ ht, f0 t _ ht, f0 t _ ht]
    exact ⟨a1, a2, a3, a4, a5, fun i hi => by rw [ft t 1 i ht (by omega)]; exact a6 i hi⟩
  · obtain ⟨a1, a2, a3⟩ := h6 d hd
    rw [db, d0 d _ hd, d0 d _ hd]
    refine ⟨fun p hp => by rw [fd d 2 p hd (by omega)]; exact a1 p hp, ?_, a3⟩
    rw [show m (dbA μ d + 1) = μ (dbA μ d + 1) from funext fun i => fd d 1 i hd (by omega)]
    exact a2
  · rw [tb, f0 t _ ht]
    show _ = jR J' (eN (xE x) t s) (eN (xE x) t (1 - s))
    rw [eR]
    exact rl t s ht hs
  · exact snC.cg (E := xE x) sn (fun i => fx _ _ (by unfold kcX; omega)) (fun i => fx _ _ (by unfold kcX; omega)) (fun t b i ht q1 q2 => by
      rw [show b = tbA μ t + (b - tbA μ t) by omega]
      exact ft t _ i ht (by omega)) (fun d b i hd q => by
      rw [show b = dbA μ d + (b - dbA μ d) by omega]
      exact fd d _ i hd (by omega)) (fun i q1 q2 => fx _ _ (by unfold kcX; omega)) (fun i => fx _ _ (by unfold kcX; omega)) (fun i => fx _ _ (by unfold kcX; omega)) (fun b i q1 q2 => fx _ _ (by unfold kcX; omega))
/-- policies that stood, in a world that may have grown -/
theorem plC.cgW {b : Nat} {P : Pol} (e : wE w w1) (hb : ∀ a i, 192 ≤ a → a < w.1 → 200 ≤ w.2.1 a → m a i = μ a i) (hw : mWF w) (h : plC w μ b P) : plC w1 m b P := by
  obtain ⟨c, cp, cn, cf, cl, ⟨⟨A0, A1, A2, A3, A4, A5⟩, x1, x2, x3, x4, x5⟩, hl, hr, hm, hk⟩ := h
  have low : ∀ a s, mAt w a s → 230 ≤ s → m a = μ a := fun a s hA hs => funext fun i => by
    refine hb a i ?_ hA.2.1 (by rw [hA.1]; omega)
    refine Classical.byContradiction fun q => ?_
    have g := hw.1 a (by omega)
    rw [hA.1] at g
    have g2 : ∀ b : Fin 192, mSh0 b.val < 230 := by decide +kernel
    have g3 := g2 ⟨a, by omega⟩
    have g4 : mSh0 a < 230 := g3
    omega
  have e0 := low b 230 A0 (by decide)
  have e1 := low c 231 A1 (by decide)
  have e2 := low cp 232 A2 (by decide)
  have e3 := low cn 233 A3 (by decide)
  have e4 := low cf 234 A4 (by decide)
  have e5 := low cl 235 A5 (by decide)
  refine ⟨c, cp, cn, cf, cl, ⟨⟨A0.ext e, A1.ext e, A2.ext e, A3.ext e, A4.ext e, A5.ext e⟩, ?_⟩, ?_, ?_, ?_⟩
  · rw [e0]; exact ⟨x1, x2, x3, x4, x5⟩
  · rw [e0]; exact hl
  · rw [e1, e4, e5, (e.2.1 cf A4.2.1).2]; exact hr
  · refine ⟨by rw [(e.2.1 cp A2.2.1).2]; exact hm, fun k hk' => ?_⟩
    rw [e2, e3]; exact hk k hk'
theorem jgC.cgW {J : Ju} (hw : mWF w) (h : jgC w μ J) (e : wE w w1) (hj : ∀ a i, kcJ a i → m a i = μ a i) (h21 : m 21 8 = μ 21 8) (h22 : ∀ i, m 22 i = μ 22 i) (hb : ∀ a i, 192 ≤ a → a < w.1 → 200 ≤ w.2.1 a → m a i = μ a i) : jgC w1 m J := by
  obtain ⟨h1, h2, h3⟩ := h
  refine ⟨fun p hp => ?_, fun i hi => ?_, fun x n q0 q9 => ?_⟩
  · rw [h21] at hp
    obtain ⟨b, eb, pc⟩ := h1 p hp
    exact ⟨b, (h22 p).trans eb, pc.cgW e hb hw⟩
  · rw [hj 7 i (by unfold kcJ; omega), hj 8 i (by unfold kcJ; omega)]; exact h2 i hi
  · rw [hj 6 18 (by unfold kcJ; omega), vC.cg (μ := μ) (fun b i hb => hj b i (by unfold kcJ; omega)) (hj 6 17 (by unfold kcJ; omega))]
    exact h3 x n q0 q9
/-- the class's half with rights: kept -/
theorem K2C.cgW (hw : mWF w) (hT : mT w μ) (h : K2C w μ y) (e : wE w w1) (hx : ∀ a i, kcX a i ∨ kcJ a i ∨ (a = 21 ∧ i = 8) ∨ a = 22 → m a i = μ a i) (hb : ∀ a i, 192 ≤ a → a < w.1 → 200 ≤ w.2.1 a → m a i = μ a i) : K2C w1 m y := by
  have h21 : m 21 8 = μ 21 8 := hx _ _ (Or.inr (Or.inr (Or.inl ⟨rfl, rfl⟩)))
  have fj : ∀ a i, kcJ a i → m a i = μ a i := fun a i q => hx a i (Or.inr (Or.inl q))
  refine ⟨KCl.cgJ (f' := eTh (xE (yX y))) hw hT h.1 (fun a i q => hx a i (Or.inl q)) hb (h.1.2.1.cgW hw e fj h21 (fun i => hx _ _ (Or.inr (Or.inr (Or.inr rfl)))) hb) rfl (fun t i ht hi => by rw [h21]; exact h.1.2.2.2.1 t i ht hi), ⟨by rw [fj _ _ (by unfold kcJ; omega)]; exact h.2.1.1, fun i hi => ?_⟩, by rw [fj _ _ (by unfold kcJ; omega)]; exact h.2.2.1, fun i hi => by rw [fj _ _ (by unfold kcJ; omega)]; exact h.2.2.2 i hi⟩
  rw [fj 14 i (by unfold kcJ; omega), fj 15 i (by unfold kcJ; omega), fj 16 i (by unfold kcJ; omega), fj 17 i (by unfold kcJ; omega), fj 18 i (by unfold kcJ; omega), fj 19 i (by unfold kcJ; omega), fj 20 i (by unfold kcJ; omega)]
  exact h.2.1.2 i hi
/-- regions that the class's half doesn't read -/
def kcL : List Nat := [6014, 6015, 6016, 6017, 6018, 7999, 8999, 9999, 10999, 11999, 14999, 15999, 16999, 17999, 18999, 19999, 20999, 21008, 22999, 32010, 32011, 32012, 33999, 34999, 35999, 76013, 76014, 76016, 84999, 85999]
def kcFree (l : List Nat) : Bool := l.all fun r => decide (r < 200000) && !kcL.elem r
theorem kcFree.lt {l : List Nat} {r : Nat} (h : kcFree l = true) (hr : 200000 ≤ r) : l.elem r = false := elemF fun q => by
  have g : (decide (r < 200000) && !kcL.elem r) = true := List.all_eq_true.mp h r q
  rw [Bool.and_eq_true] at g
  have := of_decide_eq_true g.1
  omega
theorem kcFree.no {l : List Nat} {r : Nat} (h : kcFree l = true) (hr : kcL.elem r = true) : l.elem r = false := elemF fun q => by
  have g : (decide (r < 200000) && !kcL.elem r) = true := List.all_eq_true.mp h r q
  rw [Bool.and_eq_true, hr] at g
  exact absurd g.2 (by decide)
theorem kcFree.big {l : List Nat} {a i : Nat} (h : kcFree l = true) (hs : 200 ≤ w.2.1 a) : l.elem (mRg w a i) = false := kcFree.lt h (by
  unfold mRg
  omega)
theorem kcSh : ∀ a : Fin 192, (3 ≤ a.val ∧ a.val ≤ 5) ∨ (70 ≤ a.val ∧ a.val ≤ 72) ∨ (81 ≤ a.val ∧ a.val ≤ 83) → 200 ≤ mSh0 a.val := by decide +kernel
theorem kcFree.fx {l : List Nat} (hw : mWF w) (X : mX l w μ w1 m) (hl : kcFree l = true) : ∀ a i, kcX a i ∨ kcJ a i ∨ (a = 21 ∧ i = 8) ∨ a = 22 → m a i = μ a i := by
  have big := mWF.big hw
  have bg : ∀ a i, a < w.1 → 200 ≤ w.2.1 a → m a i = μ a i := fun a i h1 h2 => X.2 a i h1 (kcFree.big hl h2)
  have sh : ∀ a i, a < 192 → (3 ≤ a ∧ a ≤ 5) ∨ (70 ≤ a ∧ a ≤ 72) ∨ (81 ≤ a ∧ a ≤ 83) → m a i = μ a i := fun a i h1 h2 => bg a i (by omega) (by
    rw [hw.1 a h1]
    exact kcSh ⟨a, h1⟩ h2)
  intro a i q
  unfold kcX kcJ at q
  have q' : ((3 ≤ a ∧ a ≤ 5) ∨ (70 ≤ a ∧ a ≤ 72) ∨ (81 ≤ a ∧ a ≤ 83)) ∨ (a = 6 ∧ (i = 14 ∨ i = 15 ∨ i = 16 ∨ i = 17 ∨ i = 18)) ∨ a = 7 ∨ a = 8 ∨ a = 9 ∨ a = 10 ∨ a = 11 ∨ a = 14 ∨ a = 15 ∨ a = 16 ∨ a = 17 ∨ a = 18 ∨ a = 19 ∨ a = 20 ∨ (a = 21 ∧ i = 8) ∨ a = 22 ∨ (a = 32 ∧ (i = 10 ∨ i = 11 ∨ i = 12)) ∨ a = 33 ∨ a = 34 ∨ a = 35 ∨ (a = 76 ∧ (i = 13 ∨ i = 14 ∨ i = 16)) ∨ a = 84 ∨ a = 85 := by omega
  clear q
  rcases q' with q | ⟨rfl, q⟩ | rfl | rfl | rfl | rfl | rfl | rfl | rfl | rfl | rfl | rfl | rfl | rfl | ⟨rfl, rfl⟩ | rfl | ⟨rfl, q⟩ | rfl | rfl | rfl | ⟨rfl, q⟩ | rfl | rfl
  · exact sh a i (by omega) q
  · rcases q with rfl | rfl | rfl | rfl | rfl
    · exact X.f (A_6 hw) (kcFree.no hl rfl) rfl
    · exact X.f (A_6 hw) (kcFree.no hl rfl) rfl
    · exact X.f (A_6 hw) (kcFree.no hl rfl) rfl
    · exact X.f (A_6 hw) (kcFree.no hl rfl) rfl
    · exact X.f (A_6 hw) (kcFree.no hl rfl) rfl
  · exact X.f (A_7 hw) (kcFree.no hl rfl) rfl
  · exact X.f (A_8 hw) (kcFree.no hl rfl) rfl
  · exact X.f (A_9 hw) (kcFree.no hl rfl) rfl
  · exact X.f (A_10 hw) (kcFree.no hl rfl) rfl
  · exact X.f (A_11 hw) (kcFree.no hl rfl) rfl
  · exact X.f (A_14 hw) (kcFree.no hl rfl) rfl
  · exact X.f (A_15 hw) (kcFree.no hl rfl) rfl
  · exact X.f (A_16 hw) (kcFree.no hl rfl) rfl
  · exact X.f (A_17 hw) (kcFree.no hl rfl) rfl
  · exact X.f (A_18 hw) (kcFree.no hl rfl) rfl
  · exact X.f (A_19 hw) (kcFree.no hl rfl) rfl
  · exact X.f (A_20 hw) (kcFree.no hl rfl) rfl
  · exact X.f (A_21 hw) (kcFree.no hl rfl) rfl
  · exact X.f (A_22 hw) (kcFree.no hl rfl) rfl
  · rcases q with rfl | rfl | rfl
    · exact X.f (A_32 hw) (kcFree.no hl rfl) rfl
    · exact X.f (A_32 hw) (kcFree.no hl rfl) rfl
    · exact X.f (A_32 hw) (kcFree.no hl rfl) rfl
  · exact X.f (A_33 hw) (kcFree.no hl rfl) rfl
  · exact X.f (A_34 hw) (kcFree.no hl rfl) rfl
  · exact X.f (A_35 hw) (kcFree.no hl rfl) rfl
  · rcases q with rfl | rfl | rfl
    · exact X.f (A_76 hw) (kcFree.no hl rfl) rfl
    · exact X.f (A_76 hw) (kcFree.no hl rfl) rfl
    · exact X.f (A_76 hw) (kcFree.no hl rfl) rfl
  · exact X.f (A_84 hw) (kcFree.no hl rfl) rfl
  · exact X.f (A_85 hw) (kcFree.no hl rfl) rfl
theorem kcFree.hb {l : List Nat} (X : mX l w μ w1 m) (hl : kcFree l = true) : ∀ a i, 192 ≤ a → a < w.1 → 200 ≤ w.2.1 a → m a i = μ a i := fun a i _ h1 h2 => X.2 a i h1 (kcFree.big hl h2)
theorem K2C.fr {l : List Nat} (hw : mWF w) (hT : mT w μ) (h : K2C w μ y) (X : mX l w μ w1 m) (hl : kcFree l = true) : K2C w1 m y := h.cgW hw hT X.1 (kcFree.fx hw X hl) (kcFree.hb X hl)
theorem mX.ofF {l : List Nat} (F : mF l w μ m) : mX l w μ w m := ⟨⟨Nat.le_refl _, fun _ _ => ⟨rfl, rfl⟩, fun a h1 h2 => absurd h2 (by omega)⟩, fun a i _ h => F a i h⟩
end KeepC
/-- what the reference's half reads, but for policies -/
def krX (b i : Nat) : Prop := (b = 106 ∧ (i = 2 ∨ i = 5 ∨ i = 6 ∨ (70 ≤ i ∧ i ≤ 73) ∨ i = 88 ∨ i = 91 ∨ i = 96 ∨ i = 97)) ∨ b = 110 ∨ (112 ≤ b ∧ b ≤ 115) ∨ (b = 126 ∧ (i < 40 ∨ 960 ≤ i)) ∨ (154 ≤ b ∧ b ≤ 164) ∨ (166 ≤ b ∧ b ≤ 169)
def krJ (b i : Nat) : Prop := (b = 106 ∧ (i = 2 ∨ i = 17 ∨ i = 18 ∨ (26 ≤ i ∧ i ≤ 31))) ∨ b = 108 ∨ b = 109 ∨ b = 111 ∨ (119 ≤ b ∧ b ≤ 125)
section KeepR
variable {w : mW} {μ m : mM} {x : St} {y : S2}
theorem KRf.cgJ {J' : Ju} {f' : Int → Int → Int → Rt → Bool × Rt} (hw : mWF w) (hT : mT w μ) (h : KRf μ x) (hx : ∀ b i, krX b i → m b i = μ b i) (h111 : ∀ i, m 111 i = μ 111 i) (jg : jgR m J') (eR : jR J' = jR (xJ x)) (hp : ∀ t i, t < eT (xE x) → i < 4 → plO (m 106 39) (ePl (xE x) (4 * t + i))) (hg : gJ m) : KRf m (th! (xE x) f', J', xS x, xH x) := by
  obtain ⟨⟨h1, h2, h3, h4, h5⟩, _, rl, _, sn, hh, _, hn⟩ := h
  have g : ∀ b, b = 110 ∨ (112 ≤ b ∧ b ≤ 115) ∨ (162 ≤ b ∧ b ≤ 164) → m b = μ b := fun b q => funext fun i => hx b i (by unfold krX; omega)
  have r0 : rtR m 0 = rtR μ 0 := rtR.cg (hT.rb hw (by omega)).1.2 (hT.rb hw (by omega)).2.2 fun k hk => hx _ _ (by unfold krX; omega)
  refine ⟨⟨by rw [hx _ _ (by unfold krX; omega)]; exact h1, by rw [hx _ _ (by unfold krX; omega)]; exact h2, by rw [hx _ _ (by unfold krX; omega)]; exact h3, fun t ht => ?_, fun d hd => ?_⟩, jg, fun t s ht hs => ?_, hp, snR.cg (E := xE x) sn hw hT fun b i hb => hx b i (by unfold krX; omega), hRf.of hw hT (fun b i hb => hx b i (by unfold krX; omega)) hh, hg, ?_⟩
  · rw [g 110 (by omega), g 112 (by omega), g 113 (by omega), g 114 (by omega), g 115 (by omega)]; exact h4 t ht
  · rw [g 162 (by omega), g 163 (by omega), g 164 (by omega)]; exact h5 d hd
  · rw [h111]
    show _ = jR J' (eN (xE x) t s) (eN (xE x) t (1 - s))
    rw [eR]
    exact rl t s ht hs
  · rw [hx 106 70 (by unfold krX; omega), r0]; exact hn
theorem K2R.cgW (hw : mWF w) (hT : mT w μ) (h : K2R μ y) (hx : ∀ b i, krX b i ∨ krJ b i ∨ (b = 106 ∧ i = 39) ∨ (127 ≤ b ∧ b ≤ 144) → m b i = μ b i) : K2R m y := by
  have fj : ∀ b i, krJ b i → m b i = μ b i := fun b i q => hx b i (Or.inr (Or.inl q))
  have g : ∀ b, b = 108 ∨ b = 109 ∨ b = 111 ∨ (119 ≤ b ∧ b ≤ 125) → m b = μ b := fun b q => funext fun i => fj b i (by unfold krJ; omega)
  have h39 : m 106 39 = μ 106 39 := hx _ _ (Or.inr (Or.inr (Or.inl ⟨rfl, rfl⟩)))
  have jg : jgR m (xJ (yX y)) := h.1.2.1.cg (fun b q => by
    by_cases c : b = 110
    · subst c; exact funext fun i => hx _ _ (Or.inl (by unfold krX; omega))
    · by_cases c2 : 127 ≤ b ∧ b ≤ 144
      · exact funext fun i => hx b i (Or.inr (Or.inr (Or.inr c2)))
      · exact g b (by omega)) h39 (fj _ _ (by unfold krJ; omega)) (fj _ _ (by unfold krJ; omega))
  refine ⟨KRf.cgJ (f' := eTh (xE (yX y))) hw hT h.1 (fun b i q => hx b i (Or.inl q)) (fun i => fj _ _ (by unfold krJ; omega)) jg rfl (fun t i ht hi => by rw [h39]; exact h.1.2.2.2.1 t i ht hi) (h.1.2.2.2.2.2.2.1.cg fun b i hb => fj b i (by unfold krJ; omega)), ⟨by rw [fj _ _ (by unfold krJ; omega)]; exact h.2.1.1, fun i hi => ?_⟩, by rw [fj _ _ (by unfold krJ; omega)]; exact h.2.2⟩
  rw [g 119 (by omega), g 120 (by omega), g 121 (by omega), g 122 (by omega), g 123 (by omega), g 124 (by omega), g 125 (by omega)]
  exact h.2.1.2 i hi
/-- regions that the reference's half doesn't read -/
def krFree (l : List Nat) : Bool := l.all fun r => decide (r < 106000) || (decide (192000 ≤ r) || ([106001, 106015, 106104, 106106, 106108, 106109, 106116].elem r || ((decide (107000 ≤ r) && decide (r < 108000)) || ((decide (116000 ≤ r) && decide (r < 119000)) || decide (174000 ≤ r)))))
theorem krFree.no {l : List Nat} {r : Nat} (h : krFree l = true) (h1 : 106000 ≤ r) (h2 : r < 174000) (h3 : ¬ (r = 106001 ∨ r = 106015 ∨ r = 106104 ∨ r = 106106 ∨ r = 106108 ∨ r = 106109 ∨ r = 106116)) (h4 : ¬ (107000 ≤ r ∧ r < 108000)) (h5 : ¬ (116000 ≤ r ∧ r < 119000)) : l.elem r = false := elemF fun q => by
  have g := List.all_eq_true.mp h r q
  simp only [Bool.or_eq_true, Bool.and_eq_true, decide_eq_true_eq] at g
  rcases g with g | g | g | g | g | g
  · omega
  · omega
  · have g' := List.elem_iff.mp g
    simp only [List.mem_cons, List.not_mem_nil, or_false] at g'
    exact h3 g'
  · exact h4 g
  · exact h5 g
  · omega
theorem K2R.fr {l : List Nat} {w1 : mW} (hw : mWF w) (hT : mT w μ) (h : K2R μ y) (X : mX l w μ w1 m) (hl : krFree l = true) : K2R m y := by
  have big := mWF.big hw
  refine h.cgW hw hT fun b i q => ?_
  unfold krX krJ at q
  have hb : 106 ≤ b ∧ b < 174 := by omega
  have hs : mSh0 b = b := by
    have g := mSh0.R ⟨b - 106, by omega⟩
    have e : b - 106 + 106 = b := by omega
    rw [show (⟨b - 106, by omega⟩ : Fin 86).val + 106 = b from e] at g
    exact g
  refine X.2 b i (by omega) ?_
  unfold mRg
  rw [hw.1 b (by omega), hs]
  by_cases c : mArr b = true
  · rw [if_pos c]
    have n6 : ¬ b = 106 := fun e => by
      subst e
      revert c
      decide
    exact krFree.no hl (by omega) (by omega) (by omega) (by omega) (by omega)
  · rw [if_neg c]
    have e6 : b = 106 := by
      have z : ∀ a : Fin 68, ¬ a.val = 0 → mArr (a.val + 106) = true := by decide +kernel
      refine Classical.byContradiction fun n => c ?_
      have z2 := z ⟨b - 106, by omega⟩ (by show ¬ b - 106 = 0; omega)
      rw [show (⟨b - 106, by omega⟩ : Fin 68).val + 106 = b from (by omega : b - 106 + 106 = b)] at z2
      exact z2
    subst e6
    have hi : i < 100 := by omega
    exact krFree.no hl (by omega) (by omega) (by omega) (by omega) (by omega)
end KeepR
end
section
/-! A policy more: both halves. -/
section LenM
theorem n1.len {r m t f q : Int} : (n1 r m t f q).1 = -1 ∨ ((n1 r m t f q).2.2.1 = r ∧ ¬ (n1 r m t f q).1 = 0) := by
  unfold n1
  repeat' (first | exact Or.inl rfl | exact Or.inr ⟨rfl, by simp⟩ | split)
theorem nNum.len {s r m x y t v f q : Int} (hs : ¬ s = 0) : (nNum s r m x y t v f q).1 = -1 ∨ ((nNum s r m x y t v f q).2.2.1 = r ∧ ¬ (nNum s r m x y t v f q).1 = 0) := by
  unfold nNum
  repeat' (first | exact Or.inl rfl | exact Or.inr ⟨rfl, hs⟩ | split)
theorem n3.len {r m x y t f q : Int} : (n3 r m x y t f q).1 = -1 ∨ ((n3 r m x y t f q).2.2.1 = r ∧ ¬ (n3 r m x y t f q).1 = 0) := by
  unfold n3
  repeat' (first | exact Or.inl rfl | exact Or.inr ⟨rfl, by simp⟩ | split)
theorem n4.len {r m x t f q : Int} : (n4 r m x t f q).1 = -1 ∨ ((n4 r m x t f q).2.2.1 = r ∧ ¬ (n4 r m x t f q).1 = 0) := by
  unfold n4
  repeat' (first | exact Or.inl rfl | exact Or.inr ⟨rfl, by simp⟩ | split)
theorem n5.len {r m t f q : Int} : (n5 r m t f q).1 = -1 ∨ ((n5 r m t f q).2.2.1 = r ∧ ¬ (n5 r m t f q).1 = 0) := by
  unfold n5
  repeat' (first | exact Or.inl rfl | exact Or.inr ⟨rfl, by simp⟩ | split)
theorem n6.len {c r m t f q : Int} : (n6 c r m t f q).1 = -1 ∨ ((n6 c r m t f q).2.2.1 = r ∧ ¬ (n6 c r m t f q).1 = 0) := by
  unfold n6
  repeat' (first | exact Or.inl rfl | exact Or.inr ⟨rfl, by simp⟩ | split)
theorem n9.len {r m x y t v f q : Int} : (n9 r m x y t v f q).1 = -1 ∨ ((n9 r m x y t v f q).2.2.1 = r ∧ ¬ (n9 r m x y t v f q).1 = 0) := by
  unfold n9
  repeat' (first | exact Or.inl rfl | exact Or.inr ⟨rfl, by simp⟩ | split)
theorem n10.len {r m x y t f q : Int} : (n10 r m x y t f q).1 = -1 ∨ ((n10 r m x y t f q).2.2.1 = r ∧ ¬ (n10 r m x y t f q).1 = 0) := by
  unfold n10
  repeat' (first | exact Or.inl rfl | exact Or.inr ⟨rfl, by simp⟩ | split)
theorem n11.len {r m x t f q : Int} : (n11 r m x t f q).1 = -1 ∨ ((n11 r m x t f q).2.2.1 = r ∧ ¬ (n11 r m x t f q).1 = 0) := by
  unfold n11
  repeat' (first | exact Or.inl rfl | exact Or.inr ⟨rfl, by simp⟩ | split)
theorem n12.len {mk : Int → Int} {r m x t v f q : Int} : (n12 mk r m x t v f q).1 = -1 ∨ ((n12 mk r m x t v f q).2.2.1 = r ∧ ¬ (n12 mk r m x t v f q).1 = 0) := by
  unfold n12
  repeat' (first | exact Or.inl rfl | exact Or.inr ⟨rfl, by simp⟩ | split)
theorem n13.len {p r m x t q : Int} : (n13 p r m x t q).1 = -1 ∨ ((n13 p r m x t q).2.2.1 = r ∧ ¬ (n13 p r m x t q).1 = 0) := by
  unfold n13
  repeat' (first | exact Or.inl rfl | exact Or.inr ⟨rfl, by simp⟩ | split)
theorem n14.len {r m t f q : Int} : (n14 r m t f q).1 = -1 ∨ ((n14 r m t f q).2.2.1 = r ∧ ¬ (n14 r m t f q).1 = 0) := by
  unfold n14
  repeat' (first | exact Or.inl rfl | exact Or.inr ⟨rfl, by simp⟩ | split)
theorem n15.len {r m x t v f q : Int} : (n15 r m x t v f q).1 = -1 ∨ ((n15 r m x t v f q).2.2.1 = r ∧ ¬ (n15 r m x t v f q).1 = 0) := by
  unfold n15
  repeat' (first | exact Or.inl rfl | exact Or.inr ⟨rfl, by simp⟩ | split)
theorem n16.len {p r m x t q : Int} : (n16 p r m x t q).1 = -1 ∨ ((n16 p r m x t q).2.2.1 = r ∧ ¬ (n16 p r m x t q).1 = 0) := by
  unfold n16
  repeat' (first | exact Or.inl rfl | exact Or.inr ⟨rfl, by simp⟩ | split)
theorem n0.len {p r m t f q : Int} : (n0 p r m t f q).1 = -1 ∨ ((n0 p r m t f q).2.2.1 = r + 1 ∧ ¬ (n0 p r m t f q).1 = 0) := by
  unfold n0
  repeat' (first | exact Or.inl rfl | exact Or.inr ⟨rfl, by simp⟩ | split)
section NxS
variable {mk : Int → Int} {c p r m x y t v f q : Int}
theorem nxS0 : nxC mk c (0, p, r, m, x, y) t v f q = n0 p r m t f q := by simp [nxC]
theorem nxS1 : nxC mk c (1, p, r, m, x, y) t v f q = n1 r m t f q := by simp [nxC]
theorem nxS2 : nxC mk c (2, p, r, m, x, y) t v f q = nNum 5 r m x y t v f q := by simp [nxC]
theorem nxS3 : nxC mk c (3, p, r, m, x, y) t v f q = n3 r m x y t f q := by simp [nxC]
theorem nxS4 : nxC mk c (4, p, r, m, x, y) t v f q = n4 r m x t f q := by simp [nxC]
theorem nxS5 : nxC mk c (5, p, r, m, x, y) t v f q = n5 r m t f q := by simp [nxC]
theorem nxS6 : nxC mk c (6, p, r, m, x, y) t v f q = n6 c r m t f q := by simp [nxC]
theorem nxS7 : nxC mk c (7, p, r, m, x, y) t v f q = nNum 8 r m x y t v f q := by simp [nxC]
theorem nxS8 : nxC mk c (8, p, r, m, x, y) t v f q = n8 r m t f q := by simp [nxC]
theorem nxS9 : nxC mk c (9, p, r, m, x, y) t v f q = n9 r m x y t v f q := by simp [nxC]
theorem nxS10 : nxC mk c (10, p, r, m, x, y) t v f q = n10 r m x y t f q := by simp [nxC]
theorem nxS11 : nxC mk c (11, p, r, m, x, y) t v f q = n11 r m x t f q := by simp [nxC]
theorem nxS12 : nxC mk c (12, p, r, m, x, y) t v f q = n12 mk r m x t v f q := by simp [nxC]
theorem nxS13 : nxC mk c (13, p, r, m, x, y) t v f q = n13 p r m x t q := by simp [nxC]
theorem nxS14 : nxC mk c (14, p, r, m, x, y) t v f q = n14 r m t f q := by simp [nxC]
theorem nxS15 : nxC mk c (15, p, r, m, x, y) t v f q = n15 r m x t v f q := by simp [nxC]
end NxS
/-- rows are counted as they are laid down -/
theorem RdC.ofE {μ μx μ1 : mM} {c : Int} (h : RdC μ μx c) (e8 : μ1 23 18 = μx 23 18) (e9 : μ1 23 19 = μx 23 19) : RdC μ μ1 c := by
  unfold RdC
  rw [e8, e9]
  exact h
theorem nxC.len {mk : Int → Int} {c s p r m x y t v f q : Int} {u : Out} (h0 : s = 0 → r = (u.1.length : Int)) (h1 : ¬ s = 0 → r = (u.1.length : Int) + 1) (hb : ¬ (nxC mk c (s, p, r, m, x, y) t v f q).1 = -1) : ((nxC mk c (s, p, r, m, x, y) t v f q).1 = 0 → (nxC mk c (s, p, r, m, x, y) t v f q).2.2.1 = ((nxO s m x u t v).1.length : Int)) ∧ (¬ (nxC mk c (s, p, r, m, x, y) t v f q).1 = 0 → (nxC mk c (s, p, r, m, x, y) t v f q).2.2.1 = ((nxO s m x u t v).1.length : Int) + 1) := by
  have gen : ∀ (b : Cfg), nxC mk c (s, p, r, m, x, y) t v f q = b → ¬ s = 0 → (b.1 = -1 ∨ (b.2.2.1 = r ∧ ¬ b.1 = 0)) → (nxO s m x u t v).1 = u.1 → ((nxC mk c (s, p, r, m, x, y) t v f q).1 = 0 → (nxC mk c (s, p, r, m, x, y) t v f q).2.2.1 = ((nxO s m x u t v).1.length : Int)) ∧ (¬ (nxC mk c (s, p, r, m, x, y) t v f q).1 = 0 → (nxC mk c (s, p, r, m, x, y) t v f q).2.2.1 = ((nxO s m x u t v).1.length : Int) + 1) := by
    intro b e hs hl hu
    rw [e] at hb ⊢
    rcases hl with hl | ⟨hl1, hl2⟩
    · exact absurd hl hb
    · rw [hu, hl1]
      exact ⟨fun z => absurd z hl2, fun _ => h1 hs⟩
  by_cases e0 : s = 0
  · subst e0
    have e : nxC mk c (0, p, r, m, x, y) t v f q = n0 p r m t f q := nxS0
    rw [e] at hb ⊢
    rcases n0.len (p := p) (r := r) (m := m) (t := t) (f := f) (q := q) with hl | ⟨hl1, hl2⟩
    · exact absurd hl hb
    · have hu : (nxO 0 m x u t v).1 = u.1 := rfl
      rw [hu, hl1]
      exact ⟨fun z => absurd z hl2, fun _ => by rw [h0 rfl]⟩
  by_cases e8 : s = 8
  · subst e8
    have e : nxC mk c (8, p, r, m, x, y) t v f q = n8 r m t f q := nxS8
    have hu : nxO 8 m x u t v = if t = 1059 then ouEnd u else u := rfl
    rw [e] at hb ⊢
    rw [hu]
    unfold n8 at hb ⊢
    by_cases c1 : t = 1044
    · rw [if_pos c1, if_neg (by omega)]
      exact ⟨fun z => absurd z (by simp), fun _ => h1 (by decide)⟩
    · rw [if_neg c1] at hb ⊢
      by_cases c2 : t = 1059
      · rw [if_pos c2, if_pos c2]
        have hl : (ouEnd u).1.length = u.1.length + 1 := by
          show (u.1 ++ [(u.2.1, u.2.2.1)]).length = _
          rw [List.length_append]
          rfl
        refine ⟨fun _ => ?_, fun z => absurd rfl z⟩
        show r = _
        rw [hl, h1 (by decide)]
        omega
      · rw [if_neg c2] at hb
        exact absurd rfl hb
  by_cases e1 : s = 1
  · subst e1
    refine gen (n1 r m t f q) nxS1 (by decide) n1.len ?_
    show (if t = 3 then ouNot u else ouWhat u t).1 = u.1
    split <;> rfl
  by_cases e2 : s = 2
  · subst e2; exact gen (nNum 5 r m x y t v f q) nxS2 (by decide) (nNum.len (by decide)) rfl
  by_cases e3 : s = 3
  · subst e3; exact gen (n3 r m x y t f q) nxS3 (by decide) n3.len rfl
  by_cases e4 : s = 4
  · subst e4; exact gen (n4 r m x t f q) nxS4 (by decide) n4.len rfl
  by_cases e5 : s = 5
  · subst e5; exact gen (n5 r m t f q) nxS5 (by decide) n5.len rfl
  by_cases e6 : s = 6
  · subst e6
    refine gen (n6 c r m t f q) nxS6 (by decide) n6.len ?_
    show (if t = 23 ∨ t = 24 then ouAct u (t, 0) else ouWhat u t).1 = u.1
    split <;> rfl
  by_cases e7 : s = 7
  · subst e7; exact gen (nNum 8 r m x y t v f q) nxS7 (by decide) (nNum.len (by decide)) rfl
  by_cases e9 : s = 9
  · subst e9; exact gen (n9 r m x y t v f q) nxS9 (by decide) n9.len rfl
  by_cases e10 : s = 10
  · subst e10; exact gen (n10 r m x y t f q) nxS10 (by decide) n10.len rfl
  by_cases e11 : s = 11
  · subst e11; exact gen (n11 r m x t f q) nxS11 (by decide) n11.len rfl
  by_cases e12 : s = 12
  · subst e12; exact gen (n12 mk r m x t v f q) nxS12 (by decide) n12.len rfl
  by_cases e13 : s = 13
  · subst e13
    refine gen (n13 p r m x t q) nxS13 (by decide) n13.len ?_
    show (if t = 5 then u else ouNum u 32).1 = u.1
    split <;> rfl
  by_cases e14 : s = 14
  · subst e14; exact gen (n14 r m t f q) nxS14 (by decide) n14.len rfl
  by_cases e15 : s = 15
  · subst e15
    refine gen (n15 r m x t v f q) nxS15 (by decide) n15.len ?_
    show (if t = -2 then ouW u (wtAtom u.2.2.2.2 m v) else if t = 7 then ouW u (wtAtom u.2.2.2.2 m (-1)) else if t = 1040 then ouW u (wtPush u.2.2.2.2) else if t = 1124 then ouW u (wtBar u.2.2.2.2) else if x = 1 then ouWay u else ouW u (wtPop u.2.2.2.2)).1 = u.1
    repeat' (first | rfl | split)
  have e : nxC mk c (s, p, r, m, x, y) t v f q = n16 p r m x t q := by
    unfold nxC
    rw [if_neg e0, if_neg e1, if_neg e2, if_neg e3, if_neg e4, if_neg e5, if_neg e6, if_neg e7, if_neg e8, if_neg e9, if_neg e10, if_neg e11, if_neg e12, if_neg e13, if_neg e14, if_neg e15]
  refine gen _ e e0 n16.len ?_
  unfold nxO
  rw [if_neg e0, if_neg e1, if_neg e2, if_neg e3, if_neg e4, if_neg e6, if_neg e7, if_neg e8, if_neg e12, if_neg e13, if_neg e14, if_neg e15]
  repeat' (first | rfl | split)
theorem rcP.len {wr : Int → Int → Int → Prop} {mk : Int → Int} {B : Int → Int} {c : Int} : ∀ (n : Nat) {b : Cfg} {u : Out}, rcP wr mk B c (0, 0, 0, 0, 0, 0) ou0 n b u → ¬ b.1 = -1 → (b.1 = 0 → b.2.2.1 = (u.1.length : Int)) ∧ (¬ b.1 = 0 → b.2.2.1 = (u.1.length : Int) + 1)
  | 0, _, _, ⟨e1, e2⟩, _ => by
    subst e1
    subst e2
    exact ⟨fun _ => rfl, fun h => absurd rfl h⟩
  | n + 1, _, _, ⟨(s, p, r, m, x, y), o, h1, h2, t, v, f, q, _, h4, h5⟩, hb => by
    have ih := rcP.len n h1 h2
    subst h4
    subst h5
    exact nxC.len ih.1 ih.2 hb
theorem rcE.len {B : Int → Int} {c r m : Int} {u : Out} (h : rcE B c u r m) : r = (u.1.length : Int) := by
  obtain ⟨p, ⟨n, h1⟩, _⟩ := h
  exact (rcP.len n h1 (show ¬ (0 : Int) = -1 by decide)).1 rfl
end LenM
theorem acC.get {f : Nat → Int} : ∀ (l : List Act) (i j : Nat), acC f i l → j < l.length → ∃ a ∈ l, f (i + 2 * j + 1) = a.2
  | [], _, _, _, hj => absurd hj (Nat.not_lt_zero _)
  | a :: l, i, 0, h, _ => ⟨a, List.mem_cons_self, h.1.2⟩
  | a :: l, i, j + 1, h, hj => by
    obtain ⟨b, hb, e⟩ := acC.get l (i + 2) j h.2 (by have : (a :: l).length = l.length + 1 := rfl; omega)
    refine ⟨b, List.mem_cons_of_mem _ hb, ?_⟩
    rw [show i + 2 * (j + 1) + 1 = i + 2 + 2 * j + 1 by omega]
    exact e
theorem wfR.of {k len : Nat} {f ff fl : Nat → Int} : ∀ (l : List Rw) (i : Nat), rwsC k f ff fl i l → i + szR l ≤ len → (∀ x ∈ l, ∀ a ∈ x.2, 0 ≤ a.2 ∧ a.2 ≤ 1000000) → wfR f len i l.length
  | [], i, _, h, _ => h
  | x :: l, i, h, hs, hb => by
    have sz : szR (x :: l) = 2 + 5 * x.1.length + 2 * x.2.length + szR l := rfl
    obtain ⟨⟨e1, e2⟩, _, ac, rest⟩ := h
    show i + 1 < len ∧ 0 ≤ f i ∧ 0 ≤ f (i + 1) ∧ i + 2 + 5 * (f i).toNat + 2 * (f (i + 1)).toNat ≤ len ∧ (∀ j, j < (f (i + 1)).toNat → 0 ≤ f (i + 2 + 5 * (f i).toNat + 2 * j + 1) ∧ f (i + 2 + 5 * (f i).toNat + 2 * j + 1) ≤ 1000000) ∧ wfR f len (i + 2 + 5 * (f i).toNat + 2 * (f (i + 1)).toNat) l.length
    rw [e1, e2, Int.toNat_natCast, Int.toNat_natCast]
    refine ⟨by omega, by omega, by omega, by omega, fun j hj => ?_, wfR.of l _ rest (by omega) fun y hy => hb y (List.mem_cons_of_mem _ hy)⟩
    obtain ⟨a, ha, e⟩ := acC.get x.2 _ j ac hj
    rw [e]
    exact hb x List.mem_cons_self a ha
theorem G0.wf {μ : mM} {u : Out} {B : Int → Int} {c r m : Int} (h : G0 μ u r m) (e : rcE B c u r m) : wfR (μ 27) (μ 23 11).toNat 0 (μ 23 10).toNat := by
  obtain ⟨_, h2, ⟨h3, h4⟩, h5, _, _⟩ := h
  have er := e.len
  have e1 : (μ 23 10).toNat = u.1.length := by omega
  have e2 : (μ 23 11).toNat = szR u.1 := by omega
  rw [e1, e2]
  exact wfR.of u.1 0 h3 (by omega) fun x hx a ha => ((h5 x hx).2 a ha).2
theorem G0.k2 {μ m1 : mM} {u : Out} {r m : Int} (f : ∀ a i, a ≠ 0 → m1 a i = μ a i) (h : G0 μ u r m) : G0 m1 u r m := by
  have g : ∀ a, a ≠ 0 → m1 a = μ a := fun a q => funext fun i => f a i q
  unfold G0 nmW
  rw [g 23 (by decide), g 27 (by decide), g 28 (by decide), g 29 (by decide), g 30 (by decide), g 31 (by decide)]
  exact h
abbrev plL0 : List Nat := [10, 23008, 23009, 23010, 23011, 23012, 23013, 23014, 23015, 23016, 23017, 23018, 23019, 24999, 25999, 26999, 27999, 28999, 29999, 30999, 31999]
/-- what the class's policy did -/
def peC (w : mW) (μ : mM) (w1 : mW) (m : mM) : Prop := ∃ mx : mM, mT w mx ∧ RdC μ mx (μ 21 8) ∧ mF plL0 w μ mx ∧ ((¬ mx 23 18 = 0 ∧ w1 = w ∧ m = mx) ∨ (mx 23 18 = 0 ∧ μ 21 8 = 12 ∧ w1 = w ∧ m = mx) ∨ (mx 23 18 = 0 ∧ μ 21 8 < 12 ∧ w1 = wCt (wPol w (mx 23 11).toNat (mx 23 12).toNat (mx 23 13).toNat) 2 ∧ m 22 (μ 21 8).toNat = (w.1 : Int) ∧ (∀ a i, (a ≠ 22 ∨ i ≠ (μ 21 8).toNat) → (a ≠ 21 ∨ i ≠ 8) → m a i = mPol w mx (mx 23 10) a i) ∧ ∃ (u : Out) (r m' : Int), rcE (bC 1 μ) (μ 21 8) u r m' ∧ G0 mx u r m' ∧ mx 23 14 = μ 21 8))
section MV39a
variable {l : Launch} {D : va_G} {c : Nat → ClassId} {H0 : Heap} {sa : Nat × Nat × (Nat → Int32)} {w : mW} {μ : mM}
theorem PC.addR {r cs np nw n : Int} {μ2 : mM} (h : PC w μ) (hw : mWF w) (hT : mT w μ) (hc : cs ≤ 2000) (hp : np ≤ 40) (hwy : nw ≤ 250) (hn : w.2.2.2 2 = n) (hn0 : 0 ≤ n) (hwf : wfR (μ 27) cs.toNat 0 r.toNat) (q : μ2 22 n.toNat = (w.1 : Int)) (hk : ∀ a i, (a ≠ 22 ∨ i ≠ n.toNat) → (a ≠ 21 ∨ i ≠ 8) → μ2 a i = mPol w μ r a i) : PC (wCt (wPol w cs.toNat np.toNat nw.toNat) 2) μ2 := by
  have w192 := hw.2.1
  have hP : PC (wPol w cs.toNat np.toNat nw.toNat) (mPol w μ r) := h.keepX (l := []) hw ⟨wPol.ext, fun a i ha _ => if_pos ha⟩ rfl rfl hT
  intro p hp2
  have hp2 : (p : Int) < w.2.2.2 2 + 1 := hp2
  by_cases e : p = n.toNat
  · subst e
    rw [q]
    show wfP _ μ2 w.1
    have k0 : ∀ a i, w.1 ≤ a → μ2 a i = mPol w μ r a i := fun a i ha => hk a i (Or.inl (by omega)) (Or.inl (by omega))
    have e0 : μ2 w.1 0 = r := (k0 w.1 0 (Nat.le_refl _)).trans mPol.at0
    have e1 : μ2 w.1 1 = ((w.1 + 1 : Nat) : Int) := (k0 w.1 1 (Nat.le_refl _)).trans mPol.at0
    have e2 : μ2 w.1 2 = ((w.1 + 2 : Nat) : Int) := (k0 w.1 2 (Nat.le_refl _)).trans mPol.at0
    have e3 : μ2 w.1 3 = ((w.1 + 3 : Nat) : Int) := (k0 w.1 3 (Nat.le_refl _)).trans mPol.at0
    have e4 : μ2 w.1 4 = ((w.1 + 4 : Nat) : Int) := (k0 w.1 4 (Nat.le_refl _)).trans mPol.at0
    have e5 : μ2 w.1 5 = ((w.1 + 5 : Nat) : Int) := (k0 w.1 5 (Nat.le_refl _)).trans mPol.at0
    have ec : μ2 (w.1 + 1) = μ 27 := funext fun i => (k0 (w.1 + 1) i (by omega)).trans (mPol.at (j := 0))
    refine ⟨wPol.at0, ?_, ?_, ?_, ?_⟩
    · rw [e1, Int.toNat_natCast]; exact wPol.at1 (by omega) (by omega) (by omega)
    · rw [e0, e1, Int.toNat_natCast, ec]
      show wfR (μ 27) ((wPol w cs.toNat np.toNat nw.toNat).2.2.1 (w.1 + 1)) 0 r.toNat
      rw [wPol.len]; exact hwf
    · rw [e2, e3, Int.toNat_natCast, Int.toNat_natCast]
      exact (wPol.len (j := 2)).trans (wPol.len (j := 3)).symm
    · rw [e4, e5, Int.toNat_natCast, Int.toNat_natCast]
      exact (wPol.len (j := 4)).trans (wPol.len (j := 5)).symm
  · have hlt : (p : Int) < w.2.2.2 2 := by omega
    have g := hP p hlt
    have e22 : μ2 22 p = mPol w μ r 22 p := hk 22 p (Or.inr e) (Or.inl (by decide))
    rw [e22]
    have hb : ∀ {a s : Nat}, mAt (wPol w cs.toNat np.toNat nw.toNat) a s → 100 < s → ∀ i, μ2 a i = mPol w μ r a i := fun {a s} gA gs i => by
      refine hk a i (Or.inl fun e => ?_) (Or.inl fun e => ?_)
      · subst e; have g1 := gA.1; have g2 := (hw.ext (wPol.ext (cs := cs.toNat) (np := np.toNat) (nw := nw.toNat))).1 22 (by decide); rw [g1] at g2; have : s = 22 := g2; omega
      · subst e; have g1 := gA.1; have g2 := (hw.ext (wPol.ext (cs := cs.toNat) (np := np.toNat) (nw := nw.toNat))).1 21 (by decide); rw [g1] at g2; have : s = 21 := g2; omega
    obtain ⟨hA, hA1, h1, h2, h3⟩ := g
    have f := hb hA (by decide)
    have fc : μ2 (mPol w μ r (mPol w μ r 22 p).toNat 1).toNat = mPol w μ r (mPol w μ r (mPol w μ r 22 p).toNat 1).toNat := funext (hb hA1 (by decide))
    exact ⟨hA, by rw [f 1]; exact hA1, by rw [f 0, f 1, fc]; exact h1, by rw [f 2, f 3]; exact h2, by rw [f 4, f 5]; exact h3⟩
end MV39a
section MV39e
variable {l : Launch} {D : va_G} {c : Nat → ClassId} {H0 : Heap} {sa : Nat × Nat × (Nat → Int32)} {w : mW} {μ : mM}
variable {M M' : sM} {R : Room} {Z : sZT} {pc d' C' S' : Nat} {lv : List (Nat × Value)} {st st0 av : List Value} {ce sl : Nat} {ll : List Nat}
theorem c_X11_policy_e (hcl : clP (gG l D c H0 sa)) (hw : mWF w) (hT : mT w μ) (hPC : PC w μ) : sC (gG l D c H0 sa) mX11_policy 18 6 2586 [.ref 0] (mk w μ) (qIx w plL μ (fun z w1 μ1 => (-2147483648 ≤ z ∧ z ≤ 2147483647) ∧ PC w1 μ1 ∧ ((w1 = w) ∨ (w1.1 = w.1 + 6 ∧ szW w1 ≤ szW w + 2586 ∧ w1.2.2.2 = (wCt w 2).2.2.2)) ∧ μ1 0 10 = 0 ∧ peC w μ w1 μ1)) := by
  refine sC.of rfl (by decide) (le_t rfl) ?_
  refine sv_aload_n (pc := 0) dX11_policy_0 rfl rfl ?_
  refine gf_X11_5 (pc := 1) dX11_policy_1 wF_X11_42 (A_0 hw) hT ?_
  refine sv_aload_n (pc := 4) dX11_policy_4 rfl rfl ?_
  refine gf_X11_0 (pc := 5) dX11_policy_5 wF_X11_9 (A_0 hw) hT ?_
  refine sv_aload_n (pc := 8) dX11_policy_8 rfl rfl ?_
  refine gf_X11_10 (pc := 9) dX11_policy_9 wF_X11_76 (A_0 hw) hT fun ts qts hts => ?_
  refine sv_aload_n (pc := 12) dX11_policy_12 rfl rfl ?_
  refine gf_X11_4 (pc := 13) dX11_policy_13 wF_X11_35 (A_0 hw) hT ?_
  refine gf_X1_8 (pc := 16) dX11_policy_16 wF_X11_205 (A_21 hw) hT fun pn qpn hpn => ?_
  refine mr_cVV (pc := 19) (c_X6_read_Wx hw hT (A_1 hw) hts hpn.2 rfl qts.symm (X6_read_s (Q := fun m => RdC μ m pn ∧ (m 23 18 = 0 → ∃ (u : Out) (r m' : Int), rcE (bC 1 μ) pn u r m' ∧ G0 m u r m') ∧ m 23 14 = pn) hw hpn.2 fun m a b c => ⟨a, b, c⟩)) (gOk _ _ _ _ _) dX11_policy_19 (tX6_read _ _ _ _ _) ⟨wV_X6_read, wL_X6_read⟩ wM_X11_208 (gCX6 _ _ _ _ _) rfl (A_23 hw) rfl ⟨le_t rfl, le_t rfl⟩ ⟨le_t rfl, le_t rfl⟩ rfl (le_t rfl) fun μ1 T1 F1 P1 => ?_
  obtain ⟨⟨hrd, hou, h14⟩, -⟩ := P1
  obtain ⟨ft, qf⟩ : ∃ ft, μ1 23 18 = ft := ⟨_, rfl⟩
  obtain ⟨rw_, qr⟩ : ∃ r, μ1 23 10 = r := ⟨_, rfl⟩
  obtain ⟨cs, qc⟩ : ∃ c, μ1 23 11 = c := ⟨_, rfl⟩
  have e21 : μ1 21 8 = μ 21 8 := F1.f (A_21 hw) rfl rfl
  rw [← qpn] at hrd hou h14
  refine sv_aload_n (pc := 22) dX11_policy_22 rfl rfl ?_
  refine mr_iconst (pc := 23) (z := 0) dX11_policy_23 ?_
  refine pf_X11_10 (pc := 24) dX11_policy_24 wF_X11_76 (A_0 hw) T1 (z := 0) (by decide) fun μ2 U2 T2 => ?_
  have k2 : ∀ a i, a ≠ 0 → μ2 a i = μ1 a i := fun a i ha => U2.2 a i (Or.inl ha)
  have F2 : mF plL w μ μ2 := (mF.up (mF.call (l := plL) mF.refl F1 rfl) (A_0 hw) U2 rfl)
  have F0 : mF plL0 w μ μ2 := mF.up (mF.call (l := plL0) mF.refl F1 rfl) (A_0 hw) U2 rfl
  have hrd2 : RdC μ μ2 (μ 21 8) := RdC.ofE hrd (k2 23 18 (by decide)) (k2 23 19 (by decide))
  have e218 : μ2 21 8 = μ 21 8 := (k2 21 8 (by decide)).trans e21
  have hPC2 : PC w μ2 := hPC.keep hw (mF.up (mF.call (l := [10, 23008, 23009, 23010, 23011, 23012, 23013, 23014, 23015, 23016, 23017, 23018, 23019, 24999, 25999, 26999, 27999, 28999, 29999, 30999, 31999]) mF.refl F1 rfl) (A_0 hw) U2 rfl) rfl
  have X2 : mX plL w μ w μ2 := mX.fr mX.refl F2 (by decide)
  refine sv_aload_n (pc := 27) dX11_policy_27 rfl rfl ?_
  refine gf_X11_5 (pc := 28) dX11_policy_28 wF_X11_42 (A_0 hw) T2 ?_
  refine gk_X6_18 (pc := 31) dX11_policy_31 wF_X11_212 (A_23 hw) ((k2 23 18 (by decide)).trans qf) ?_
  have t18 : 0 ≤ μ1 23 18 ∧ μ1 23 18 ≤ 4 := T1 23 23 (A_23 hw) 18
  have t10 : 0 ≤ μ2 23 10 ∧ μ2 23 10 ≤ 30 := T2 23 23 (A_23 hw) 10
  have t11 : 0 ≤ μ2 23 11 ∧ μ2 23 11 ≤ 2000 := T2 23 23 (A_23 hw) 11
  have t12 : 0 ≤ μ2 23 12 ∧ μ2 23 12 ≤ 40 := T2 23 23 (A_23 hw) 12
  have t13 : 0 ≤ μ2 23 13 ∧ μ2 23 13 ≤ 250 := T2 23 23 (A_23 hw) 13
  refine mr_if_eq (pc := 34) (tgt := 48) dX11_policy_34 (by decide) ⟨by omega, by omega⟩ (fun e0 => ?_) (fun e0 => ?_)
  · refine sv_aload_n (pc := 48) dX11_policy_48 rfl rfl ?_
    refine gf_X11_4 (pc := 49) dX11_policy_49 wF_X11_35 (A_0 hw) T2 ?_
    refine gf_X1_8 (pc := 52) dX11_policy_52 wF_X11_205 (A_21 hw) T2 fun n qn hn => ?_
    refine mr_bipush (pc := 55) (z := 12) dX11_policy_55 (by decide) ?_
    refine mr_icmp_lt (pc := 57) (tgt := 63) dX11_policy_57 (by decide) ⟨by omega, by omega⟩ (by decide) (fun h1 => ?_) (fun h1 => ?_)
    · refine sv_aload_n (pc := 63) dX11_policy_63 rfl rfl ?_
      refine gf_X11_4 (pc := 64) dX11_policy_64 wF_X11_35 (A_0 hw) T2 ?_
      refine sv_aload_n (pc := 67) dX11_policy_67 rfl rfl ?_
      refine gf_X11_5 (pc := 68) dX11_policy_68 wF_X11_42 (A_0 hw) T2 ?_
      refine mr_cVRX (pc := 71) (c_X6_result hcl hw T2 ((k2 23 10 (by decide)).trans qr) ((k2 23 11 (by decide)).trans qc) rfl rfl) (gOk _ _ _ _ _) dX11_policy_71 (tX6_result _ _ _ _ _) ⟨wV_X6_result, wL_X6_result⟩ wM_X11_218 (gCX6 _ _ _ _ _) rfl (A_23 hw) rfl ⟨le_t rfl, le_t rfl⟩ ⟨le_t rfl, le_t rfl⟩ rfl (le_t rfl) fun b w3 μ3 hw3 T3 X3 P3 => ?_
      obtain ⟨rfl, rfl, rfl⟩ := P3
      have w192 := hw.2.1
      have q8 : mPol w μ2 rw_ 21 8 = n := (if_pos (by omega)).trans qn
      refine mr_cVIX (pc := 74) (c_X1_addPolicy hw3 T3 q8 (by omega) wPol.at0) (gOk _ _ _ _ _) dX11_policy_74 (tX1_addPolicy _ _ _ _ _) ⟨wV_X1_addPolicy, wL_X1_addPolicy⟩ wM_X11_222 (gCX1 _ _ _ _ _) rfl (A_21 hw3) rfl ⟨le_t rfl, le_t rfl⟩ ⟨le_t rfl, le_t rfl⟩ rfl (le_t rfl) fun z w4 μ4 hw4 T4 X4 P4 => ?_
      have en : μ 21 8 = n := e218.symm.trans qn
      obtain ⟨rfl, rfl, q4, k4⟩ := P4
      have e27 : μ2 27 = μ1 27 := funext fun i => k2 27 i (by decide)
      have e11 : μ2 23 11 = cs := (k2 23 11 (by decide)).trans qc
      have hP4 : PC _ μ4 := PC.addR (cs := cs) (np := μ2 23 12) (nw := μ2 23 13) hPC2 hw T2 (by omega) (by omega) (by omega) (by omega) (by omega) (by
        rw [e27, ← qr, ← qc]
        obtain ⟨u, r, m', a, b⟩ := hou (qf.trans e0)
        exact b.wf a) q4 k4
      have e10 : μ2 23 10 = rw_ := (k2 23 10 (by decide)).trans qr
      exact mr_iretX (pc := 77) dX11_policy_77 rfl (le_t rfl) (le_t rfl) hw4 T4 ((X2.trans X3 rfl).trans X4 (by decide)) ⟨⟨by omega, by omega⟩, hP4, Or.inr ⟨rfl, by have := wPol.z (w := w) (cs := cs.toNat) (np := (μ2 23 12).toNat) (nw := (μ2 23 13).toNat); have e9 : szW (wCt (wPol w cs.toNat (μ2 23 12).toNat (μ2 23 13).toNat) 2) = szW (wPol w cs.toNat (μ2 23 12).toNat (μ2 23 13).toNat) := rfl; omega, rfl⟩, X4.f (A_0 hw3) rfl (X3.f (A_0 hw) rfl U2.1), μ2, T2, hrd2, F0, Or.inr (Or.inr ⟨(k2 23 18 (by decide)).trans (qf.trans e0), by omega, by rw [e11], by rw [en]; exact q4, fun a i h1 h2 => by
        rw [e10]
        exact k4 a i (by rw [← en]; exact h1) h2, by
        obtain ⟨u, r, m', a, b⟩ := hou (qf.trans e0)
        exact ⟨u, r, m', a, b.k2 k2, (k2 23 14 (by decide)).trans h14⟩⟩)⟩
    · refine mr_bipush (pc := 60) (z := -3) dX11_policy_60 (by decide) ?_
      exact mr_iretX (pc := 62) dX11_policy_62 rfl (le_t rfl) (le_t rfl) hw T2 X2 ⟨by decide, hPC2, Or.inl rfl, U2.1, μ2, T2, hrd2, F0, Or.inr (Or.inl ⟨(k2 23 18 (by decide)).trans (qf.trans e0), by have g := hn.2.2; omega, rfl, rfl⟩)⟩
  · refine mr_bipush (pc := 37) (z := -10) dX11_policy_37 (by decide) ?_
    refine sv_aload_n (pc := 39) dX11_policy_39 rfl rfl ?_
    refine gf_X11_5 (pc := 40) dX11_policy_40 wF_X11_42 (A_0 hw) T2 ?_
    refine gf_X6_19 (pc := 43) dX11_policy_43 wF_X11_215 (A_23 hw) T2 fun fp _ hfp => ?_
    refine mr_isub (pc := 46) dX11_policy_46 ?_
    exact mr_iretX (pc := 47) dX11_policy_47 rfl (le_t rfl) (le_t rfl) hw T2 X2 ⟨⟨by omega, by omega⟩, hPC2, Or.inl rfl, U2.1, μ2, T2, hrd2, F0, Or.inl ⟨by rw [k2 23 18 (by decide), qf]; exact e0, rfl, rfl⟩⟩
end MV39e
def jp! (J : Ju) (c : Int) (P : Pol) : Ju := (fun p => if p = c then P else jP J p, jA J, jL J, jV J, jR J)
noncomputable def plX (x : St) (c : Int) (P : Pol) : St := (th! (xE x) (thJ (jp! (xJ x) c P)), jp! (xJ x) c P, xS x, xH x)
noncomputable def plY (y : S2) (c : Int) (P : Pol) : S2 := (plX (yX y) c P, yR y, yD y)
/-- the policy that was laid down -/
abbrev plU (u : Out) (m : Int) : Pol := (u.1, (oW u).1, (oW u).2.1, m.toNat)
theorem KX.pl {x : St} {c : Int} {P : Pol} (k : KX x) (hc : 0 ≤ c) (ok : ∀ r ∈ P.1, (∀ t ∈ r.1, tOk t) ∧ ∀ a ∈ r.2, aOk c a) : KX (plX x c P) := by
  have jo : jOk (jp! (xJ x) c P) := fun p hp r hr => by
    by_cases e : p = c
    · subst e
      have q : jP (jp! (xJ x) p P) p = P := if_pos rfl
      rw [q] at hr
      exact ok r hr
    · have q : jP (jp! (xJ x) c P) p = jP (xJ x) p := if_neg e
      rw [q] at hr
      exact k.2.2.1 p hp r hr
  have jn : jNg (jp! (xJ x) c P) := fun p hp => by
    have q : jP (jp! (xJ x) c P) p = jP (xJ x) p := if_neg (by omega)
    rw [q]
    exact k.2.2.2.1 p hp
  exact ⟨k.1, ⟨k.2.1.1, ⟨fun pl d q r p h => thJ.good jo jn h, k.2.1.2.1.2⟩, k.2.1.2.2⟩, jo, jn, rfl, k.2.2.2.2.2⟩
theorem K2X.pl {y : S2} {c : Int} {P : Pol} (k : K2X y) (hc : 0 ≤ c) (ok : ∀ r ∈ P.1, (∀ t ∈ r.1, tOk t) ∧ ∀ a ∈ r.2, aOk c a) : K2X (plY y c P) := ⟨k.1.pl hc ok, k.2.1, k.2.2.1, k.2.2.2.1, k.2.2.2.2⟩
section PolC
variable {w w1 : mW} {μ m : mM} {y : S2}
/-- the class: no policy more -/
theorem K2C.polN {mx : mM} (hw : mWF w) (hT : mT w μ) (h : K2C w μ y) (F : mF plL0 w μ mx) : K2C w mx y := h.fr hw hT (mX.ofF F) (by decide)
/-- the class: one more -/
theorem K2C.pol {mx : mM} {u : Out} {B : Int → Int} {c r m' : Int} (hw : mWF w) (hT : mT w μ) (hTx : mT w mx) (hT1 : mT w1 m) (h : K2C w μ y) (F : mF plL0 w μ mx) (hn : μ 21 8 < 12) (ew : w1 = wCt (wPol w (mx 23 11).toNat (mx 23 12).toNat (mx 23 13).toNat) 2) (e22 : m 22 (μ 21 8).toNat = (w.1 : Int)) (f : ∀ a i, (a ≠ 22 ∨ i ≠ (μ 21 8).toNat) → (a ≠ 21 ∨ i ≠ 8) → m a i = mPol w mx (mx 23 10) a i) (hE : rcE B c u r m') (g : G0 mx u r m') : K2C w1 m (plY y (μ 21 8) (plU u m')) := by
  have big := mWF.big hw
  have t8 : μ 21 8 = w.2.2.2 2 ∧ 0 ≤ μ 21 8 ∧ μ 21 8 ≤ 12 := hT 21 21 (A_21 hw) 8
  have x11 : 0 ≤ mx 23 11 ∧ mx 23 11 ≤ 2000 := hTx 23 23 (A_23 hw) 11
  have x12 : 0 ≤ mx 23 12 ∧ mx 23 12 ≤ 40 := hTx 23 23 (A_23 hw) 12
  have x13 : 0 ≤ mx 23 13 ∧ mx 23 13 ≤ 250 := hTx 23 23 (A_23 hw) 13
  have we : wE w w1 := by
    rw [ew]
    exact wPol.ext
  have hw1 : mWF w1 := hw.ext we
  have t81 : m 21 8 = w1.2.2.2 2 ∧ 0 ≤ m 21 8 ∧ m 21 8 ≤ 12 := hT1 21 21 (A_21 hw1) 8
  have ec : w1.2.2.2 2 = w.2.2.2 2 + 1 := by
    rw [ew]
    rfl
  have X := mX.ofF F
  have fx := kcFree.fx (w1 := w) hw X (by decide)
  have hbx := kcFree.hb (w1 := w) X (by decide)
  have old : ∀ a i, a < w.1 → ¬ a = 21 → ¬ a = 22 → m a i = mx a i := fun a i h1 h2 h3 => (f a i (Or.inl h3) (Or.inl h2)).trans (if_pos h1)
  have hx : ∀ a i, kcX a i ∨ kcJ a i → m a i = μ a i := fun a i q => by
    have q2 : a < 192 ∧ ¬ a = 21 ∧ ¬ a = 22 := by
      unfold kcX kcJ at q
      omega
    exact (old a i (by omega) q2.2.1 q2.2.2).trans (fx a i (q.elim Or.inl fun q => Or.inr (Or.inl q)))
  have hb : ∀ a i, 192 ≤ a → a < w.1 → 200 ≤ w.2.1 a → m a i = μ a i := fun a i h1 h2 h3 => (old a i h2 (by omega) (by omega)).trans (hbx a i h1 h2 h3)
  have f22 : ∀ p : Nat, ¬ p = (μ 21 8).toNat → m 22 p = μ 22 p := fun p hp => ((f 22 p (Or.inr hp) (Or.inl (by decide))).trans (if_pos (by omega))).trans (fx 22 p (Or.inr (Or.inr (Or.inr rfl))))
  have nw : ∀ a i, w.1 ≤ a → m a i = mPol w mx (mx 23 10) a i := fun a i h1 => f a i (Or.inl (by omega)) (Or.inl (by omega))
  obtain ⟨g1, g2, ⟨g3, g4⟩, g5, _, _⟩ := g
  have jg : jgC w1 m (jp! (xJ (yX y)) (μ 21 8) (plU u m')) := by
    obtain ⟨j1, j2, j3⟩ := h.1.2.1
    refine ⟨fun p hp => ?_, fun i hi => ?_, fun x n q0 q9 => ?_⟩
    · by_cases e : p = (μ 21 8).toNat
      · have e2 : ((p : Nat) : Int) = μ 21 8 := by omega
        have q : jP (jp! (xJ (yX y)) (μ 21 8) (plU u m')) (p : Int) = plU u m' := if_pos e2
        rw [q, e]
        refine ⟨w.1, e22, w.1 + 1, w.1 + 2, w.1 + 3, w.1 + 4, w.1 + 5, ⟨?_, ?_⟩, ?_, ?_, ?_, ?_⟩
        · rw [ew]
          exact ⟨wPol.at0, wPol.at1 (by omega) (by omega) (by omega), wPol.at2 (by omega) (by omega) (by omega), wPol.at3 (by omega) (by omega) (by omega), wPol.at4 (by omega) (by omega) (by omega), wPol.at5 (by omega) (by omega) (by omega)⟩
        · rw [nw _ _ (Nat.le_refl _), nw _ _ (Nat.le_refl _), nw _ _ (Nat.le_refl _), nw _ _ (Nat.le_refl _), nw _ _ (Nat.le_refl _), mPol.at0, mPol.at0, mPol.at0, mPol.at0, mPol.at0]
          exact ⟨rfl, rfl, rfl, rfl, rfl⟩
        · rw [nw _ _ (Nat.le_refl _), mPol.at0]
          show mx 23 10 = (u.1.length : Int)
          rw [g2]; exact hE.len
        · have a1 : m (w.1 + 1) = mx 27 := funext fun i => (nw _ i (by omega)).trans (mPol.at (j := 0))
          have a4 : m (w.1 + 4) = mx 30 := funext fun i => (nw _ i (by omega)).trans (mPol.at (j := 3))
          have a5 : m (w.1 + 5) = mx 31 := funext fun i => (nw _ i (by omega)).trans (mPol.at (j := 4))
          have l4 : w1.2.2.1 (w.1 + 4) = (mx 23 13).toNat := by
            rw [ew]
            exact wPol.len (j := 4)
          rw [a1, a4, a5, l4]
          exact g3
        · show w1.2.2.1 (w.1 + 2) = m'.toNat
          have l2 : w1.2.2.1 (w.1 + 2) = (mx 23 12).toNat := by
            rw [ew]
            exact wPol.len (j := 2)
          rw [l2, g1.1]
        · intro k hk
          have hk' : k < m'.toNat := hk
          have a2 : m (w.1 + 2) k = mx 28 k := (nw _ k (by omega)).trans (mPol.at (j := 1))
          have a3 : m (w.1 + 3) k = mx 29 k := (nw _ k (by omega)).trans (mPol.at (j := 2))
          rw [a2, a3]
          exact g1.2 k (by omega)
      · have q : jP (jp! (xJ (yX y)) (μ 21 8) (plU u m')) (p : Int) = jP (xJ (yX y)) (p : Int) := if_neg (by omega)
        rw [q, f22 p e]
        obtain ⟨b, eb, pc⟩ := j1 p (by omega)
        exact ⟨b, eb, pc.cgW we hb hw⟩
    · rw [hx 7 i (Or.inr (by unfold kcJ; omega)), hx 8 i (Or.inr (by unfold kcJ; omega))]; exact j2 i hi
    · rw [hx 6 18 (Or.inr (by unfold kcJ; omega)), vC.cg (μ := μ) (fun b i hb => hx b i (Or.inr (by unfold kcJ; omega))) (hx 6 17 (Or.inr (by unfold kcJ; omega)))]
      exact j3 x n q0 q9
  refine ⟨KCl.cgJ hw hT h.1 (fun a i q => hx a i (Or.inl q)) hb jg rfl (fun t i ht hi => ?_), ⟨by rw [hx _ _ (Or.inr (by unfold kcJ; omega))]; exact h.2.1.1, fun i hi => ?_⟩, by rw [hx _ _ (Or.inr (by unfold kcJ; omega))]; exact h.2.2.1, fun i hi => by rw [hx _ _ (Or.inr (by unfold kcJ; omega))]; exact h.2.2.2 i hi⟩
  · have q := h.1.2.2.2.1 t i ht hi
    unfold plO at q ⊢
    omega
  · rw [hx 14 i (Or.inr (by unfold kcJ; omega)), hx 15 i (Or.inr (by unfold kcJ; omega)), hx 16 i (Or.inr (by unfold kcJ; omega)), hx 17 i (Or.inr (by unfold kcJ; omega)), hx 18 i (Or.inr (by unfold kcJ; omega)), hx 19 i (Or.inr (by unfold kcJ; omega)), hx 20 i (Or.inr (by unfold kcJ; omega))]
    exact h.2.1.2 i hi
end PolC
section PolR2
variable {w : mW} {μ m1 : mM} {y : S2}
theorem rwR.last {p : Nat} : ∀ (l : List Rw) (r t a : Nat), rwR μ p r t a l → ¬ l = [] → μ 128 (31 * p + r + l.length) = ((t + sTs l : Nat) : Int) ∧ μ 129 (31 * p + r + l.length) = ((a + sAs l : Nat) : Int)
  | [], _, _, _, _, h => absurd rfl h
  | [x], r, t, a, h, _ => by
    have e1 : sTs [x] = x.1.length + 0 := rfl
    have e2 : sAs [x] = x.2.length + 0 := rfl
    have e3 : ([x] : List Rw).length = 1 := rfl
    rw [e1, e2, e3, Nat.add_zero, Nat.add_zero]
    exact h.2.1
  | x :: z :: l, r, t, a, h, _ => by
    have q := rwR.last (z :: l) (r + 1) (t + x.1.length) (a + x.2.length) h.2.2.2.2 (fun e => by cases e)
    have e1 : sTs (x :: z :: l) = x.1.length + sTs (z :: l) := rfl
    have e2 : sAs (x :: z :: l) = x.2.length + sAs (z :: l) := rfl
    have e3 : (x :: z :: l).length = (z :: l).length + 1 := rfl
    rw [e1, e2, e3, show 31 * p + r + ((z :: l).length + 1) = 31 * p + (r + 1) + (z :: l).length by omega, show t + (x.1.length + sTs (z :: l)) = t + x.1.length + sTs (z :: l) by omega, show a + (x.2.length + sAs (z :: l)) = a + x.2.length + sAs (z :: l) by omega]
    exact q
/-- policies that stood -/
theorem plR.old {p d : Nat} {P : Pol} (hw : mWF w) (hT : mT w μ) (h : plR μ p P) (f : pF d μ m1) (hpd : ¬ p = d) : plR m1 p P := by
  obtain ⟨h1, h2, h3, h4⟩ := h
  have t127 : 0 ≤ μ 127 p ∧ μ 127 p ≤ 30 := hT 127 127 (A_127 hw) p
  have t142 : 0 ≤ μ 142 p ∧ μ 142 p ≤ 40 := hT 142 142 (A_142 hw) p
  have t128 : ∀ i, 0 ≤ μ 128 i ∧ μ 128 i ≤ 300 := fun i => hT 128 128 (A_128 hw) i
  have t129 : ∀ i, 0 ≤ μ 129 i ∧ μ 129 i ≤ 300 := fun i => hT 129 129 (A_129 hw) i
  have bt : sTs P.1 ≤ 300 ∧ sAs P.1 ≤ 300 := by
    by_cases c : P.1 = []
    · rw [c]; decide
    · have q := rwR.last P.1 0 0 0 h2 c
      have a1 : 0 ≤ μ 128 (31 * p + 0 + P.1.length) ∧ μ 128 (31 * p + 0 + P.1.length) ≤ 300 := t128 (31 * p + 0 + P.1.length)
      have a2 : 0 ≤ μ 129 (31 * p + 0 + P.1.length) ∧ μ 129 (31 * p + 0 + P.1.length) ≤ 300 := t129 (31 * p + 0 + P.1.length)
      omega
  refine ⟨(f _ _ (by omega) (by omega) (by omega)).trans h1, rwR.at P.1 0 0 0 (fun b j q1 q2 q3 => f b j (by omega) (by omega) (by omega)) (fun b j q1 q2 q3 q4 => f b j (by omega) (by omega) (by omega)) (fun b j q1 q2 q3 => f b j (by omega) (by omega) (by omega)) h2, (f _ _ (by omega) (by omega) (by omega)).trans h3, fun k hk => ?_⟩
  rw [f 143 _ (by omega) (by omega) (by omega), f 144 _ (by omega) (by omega) (by omega)]
  exact h4 k hk
theorem pF.x {d : Nat} (f : pF d μ m1) : ∀ b i, krX b i ∨ krJ b i → m1 b i = μ b i := fun b i q => by
  unfold krX krJ at q
  exact f b i (by omega) (by omega) (by omega)
/-- the reference: no policy more -/
theorem K2R.polN {d : Nat} (hw : mWF w) (hT : mT w μ) (h : K2R μ y) (f : pF d μ m1) (hd : (d : Int) = μ 106 39) (e : m1 106 39 = μ 106 39) : K2R m1 y := by
  have fx := f.x
  have jg : jgR m1 (xJ (yX y)) := by
    obtain ⟨j1, j2, j3⟩ := h.1.2.1
    refine ⟨fun p hp => (j1 p (by omega)).old hw hT f (by omega), fun i hi => ?_, fun x n q0 q9 => ?_⟩
    · rw [fx 108 i (Or.inr (by unfold krJ; omega)), fx 109 i (Or.inr (by unfold krJ; omega))]; exact j2 i hi
    · rw [fx 106 17 (Or.inr (by unfold krJ; omega)), vR.cg (μ := μ) (fun b i hb => fx b i (Or.inr (by unfold krJ; omega))) (fx 106 18 (Or.inr (by unfold krJ; omega)))]
      exact j3 x n q0 q9
  refine ⟨KRf.cgJ (f' := eTh (xE (yX y))) hw hT h.1 (fun b i q => fx b i (Or.inl q)) (fun i => fx _ _ (Or.inr (by unfold krJ; omega))) jg rfl (fun t i ht hi => by rw [e]; exact h.1.2.2.2.1 t i ht hi) (h.1.2.2.2.2.2.2.1.cg fun b i hb => fx b i (Or.inr (by unfold krJ; omega))), ⟨by rw [fx _ _ (Or.inr (by unfold krJ; omega))]; exact h.2.1.1, fun i hi => ?_⟩, by rw [fx _ _ (Or.inr (by unfold krJ; omega))]; exact h.2.2⟩
  rw [fx 119 i (Or.inr (by unfold krJ; omega)), fx 120 i (Or.inr (by unfold krJ; omega)), fx 121 i (Or.inr (by unfold krJ; omega)), fx 122 i (Or.inr (by unfold krJ; omega)), fx 123 i (Or.inr (by unfold krJ; omega)), fx 124 i (Or.inr (by unfold krJ; omega)), fx 125 i (Or.inr (by unfold krJ; omega))]
  exact h.2.1.2 i hi
/-- the reference: one more -/
theorem K2R.pol {d : Nat} {P : Pol} (hw : mWF w) (hT : mT w μ) (h : K2R μ y) (f : pF d μ m1) (hd : (d : Int) = μ 106 39) (e : m1 106 39 = μ 106 39 + 1) (pl : plR m1 d P) : K2R m1 (plY y (μ 106 39) P) := by
  have fx := f.x
  have jg : jgR m1 (jp! (xJ (yX y)) (μ 106 39) P) := by
    obtain ⟨j1, j2, j3⟩ := h.1.2.1
    refine ⟨fun p hp => ?_, fun i hi => ?_, fun x n q0 q9 => ?_⟩
    · by_cases c : p = d
      · have q : jP (jp! (xJ (yX y)) (μ 106 39) P) (p : Int) = P := if_pos (by omega)
        rw [q, c]; exact pl
      · have q : jP (jp! (xJ (yX y)) (μ 106 39) P) (p : Int) = jP (xJ (yX y)) (p : Int) := if_neg (by omega)
        rw [q]
        exact (j1 p (by omega)).old hw hT f c
    · rw [fx 108 i (Or.inr (by unfold krJ; omega)), fx 109 i (Or.inr (by unfold krJ; omega))]; exact j2 i hi
    · rw [fx 106 17 (Or.inr (by unfold krJ; omega)), vR.cg (μ := μ) (fun b i hb => fx b i (Or.inr (by unfold krJ; omega))) (fx 106 18 (Or.inr (by unfold krJ; omega)))]
      exact j3 x n q0 q9
  refine ⟨KRf.cgJ hw hT h.1 (fun b i q => fx b i (Or.inl q)) (fun i => fx _ _ (Or.inr (by unfold krJ; omega))) jg rfl (fun t i ht hi => ?_) (h.1.2.2.2.2.2.2.1.cg fun b i hb => fx b i (Or.inr (by unfold krJ; omega))), ⟨by rw [fx _ _ (Or.inr (by unfold krJ; omega))]; exact h.2.1.1, fun i hi => ?_⟩, by rw [fx _ _ (Or.inr (by unfold krJ; omega))]; exact h.2.2⟩
  · have q := h.1.2.2.2.1 t i ht hi
    unfold plO at q ⊢
    omega
  · rw [fx 119 i (Or.inr (by unfold krJ; omega)), fx 120 i (Or.inr (by unfold krJ; omega)), fx 121 i (Or.inr (by unfold krJ; omega)), fx 122 i (Or.inr (by unfold krJ; omega)), fx 123 i (Or.inr (by unfold krJ; omega)), fx 124 i (Or.inr (by unfold krJ; omega)), fx 125 i (Or.inr (by unfold krJ; omega))]
    exact h.2.1.2 i hi
end PolR2
abbrev lPR : List Nat := [106001, 106033, 106034, 106035, 106036, 106037, 106038, 106039, 106058, 106059, 106066, 127999, 128999, 129999, 130999, 131999, 132999, 133999, 134999, 135999, 136999, 137999, 138999, 139999, 140999, 141999, 142999, 143999, 144999, 145999, 146999, 147999, 148999, 149999, 150999]
/-- acts of a list, rows: what the law's invariant of policies asks -/
theorem polAct {μ : mM} : ∀ (l : List Act) (i c : Nat), acR μ i l → c < l.length → ∃ b ∈ l, μ 140 (i + c) = b.1 ∧ (¬ b.1 = 23 → ¬ b.1 = 24 → μ 141 (i + c) = b.2)
  | [], _, c, _, h => absurd h (Nat.not_lt_zero c)
  | b :: _, _, 0, h, _ => ⟨b, List.mem_cons_self, h.1⟩
  | _ :: l, i, c + 1, h, hc => by
    obtain ⟨b', hb, e⟩ := polAct l (i + 1) c h.2 (Nat.lt_of_succ_lt_succ hc)
    rw [show i + 1 + c = i + (c + 1) by omega] at e
    exact ⟨b', List.mem_cons_of_mem _ hb, e⟩
theorem polRow {μ : mM} {p : Nat} : ∀ (R : List Rw) (r t a : Nat), rwR μ p r t a R → (∀ j, j < R.length → μ 129 (31 * p + r + j) ≤ μ 129 (31 * p + r + j + 1) ∧ μ 129 (31 * p + r + j + 1) ≤ ((a + sAs R : Nat) : Int)) ∧ ∀ c, c < sAs R → ∃ x ∈ R, ∃ b ∈ x.2, μ 140 (300 * p + a + c) = b.1 ∧ (¬ b.1 = 23 → ¬ b.1 = 24 → μ 141 (300 * p + a + c) = b.2)
  | [], _, _, _, _ => ⟨fun j hj => absurd hj (Nat.not_lt_zero j), fun c hc => absurd hc (Nat.not_lt_zero c)⟩
  | x :: l, r, t, a, h => by
    obtain ⟨⟨_, e1⟩, ⟨_, e2⟩, _, ac, rs⟩ := h
    obtain ⟨i1, i2⟩ := polRow l (r + 1) (t + x.1.length) (a + x.2.length) rs
    have es : sAs (x :: l) = x.2.length + sAs l := rfl
    rw [es]
    constructor
    · intro j hj
      cases j with
      | zero =>
        rw [Nat.add_zero, e1, e2]
        constructor <;> omega
      | succ j =>
        have hj' : j + 1 < l.length + 1 := hj
        have q := i1 j (by omega)
        rw [show 31 * p + r + (j + 1) = 31 * p + (r + 1) + j by omega]
        exact ⟨q.1, by have q2 := q.2; omega⟩
    · intro c hc
      by_cases q : c < x.2.length
      · obtain ⟨b, hb, h⟩ := polAct x.2 (300 * p + a) c ac q
        exact ⟨x, List.mem_cons_self, b, hb, h⟩
      · obtain ⟨x', hx', b, hb, h⟩ := i2 (c - x.2.length) (by omega)
        rw [show 300 * p + (a + x.2.length) + (c - x.2.length) = 300 * p + a + c by omega] at h
        exact ⟨x', List.mem_cons_of_mem _ hx', b, hb, h⟩
theorem polT.of {m1 : mM} {d : Nat} {P : Pol} (h : plR m1 d P) (e : m1 131 d = (sAs P.1 : Int)) (ok : ∀ x ∈ P.1, ∀ a ∈ x.2, aOk (d : Int) a) : polT m1 d := by
  obtain ⟨e7, rows, _⟩ := h
  obtain ⟨r1, r2⟩ := polRow P.1 0 0 0 rows
  refine ⟨fun r hr => ?_, fun c hc h28 => ?_⟩
  · have q := r1 r (by omega)
    rw [Nat.add_zero, Nat.zero_add] at q
    rw [e]; exact q
  · obtain ⟨x, hx, b, hb, h1, h2⟩ := r2 c (by omega)
    rw [Nat.add_zero] at h1 h2
    have b28 : b.1 = 28 := h1.symm.trans h28
    rw [h2 (by omega) (by omega)]
    exact (ok x hx b hb).2.2.2 b28
theorem PK.pol2 {w : mW} {μ m1 : mM} {d : Nat} (hw : mWF w) (hT : mT w μ) (h : PK μ) (f : pF d μ m1) (hd : (d : Int) = μ 106 39) (hc : m1 106 39 = μ 106 39 ∨ (m1 106 39 = μ 106 39 + 1 ∧ polT m1 d)) : PK m1 := by
  refine ⟨fun i hi h4 => ?_, fun p hp => ?_⟩
  · rw [f 106 6 (by omega) (by omega) (by omega)] at h4
    rw [f 115 i (by omega) (by omega) (by omega)]
    rcases h.1 i hi h4 with q | q
    · exact Or.inl q
    · exact Or.inr ⟨q.1, by rcases hc with c | ⟨c, _⟩ <;> omega⟩
  · by_cases e : p = d
    · rcases hc with c | ⟨_, c⟩
      · exfalso; omega
      · rw [e]; exact c
    · have hp' : (p : Int) < μ 106 39 := by rcases hc with c | ⟨c, _⟩ <;> omega
      obtain ⟨o1, o2⟩ := h.2 p hp'
      have pd : p < d := by omega
      have t7 : 0 ≤ μ 127 p ∧ μ 127 p ≤ 30 := hT 127 127 (A_127 hw) p
      have t1 : 0 ≤ μ 131 p ∧ μ 131 p ≤ 300 := hT 131 131 (A_131 hw) p
      refine ⟨fun r hr => ?_, fun c hc' h28 => ?_⟩
      · rw [f 127 p (by omega) (by omega) (by omega)] at hr
        rw [f 129 _ (by omega) (by omega) (by omega), f 129 _ (by omega) (by omega) (by omega), f 131 p (by omega) (by omega) (by omega)]
        exact o1 r hr
      · rw [f 131 p (by omega) (by omega) (by omega)] at hc'
        rw [f 140 _ (by omega) (by omega) (by omega)] at h28
        rw [f 141 _ (by omega) (by omega) (by omega)]
        exact o2 c hc' h28
/-- both have read: the same state -/
theorem pol_both {w w1 : mW} {μ m m2 mx : mM} {d : Nat} {z : Int} {y : S2} (hw : mWF w) (hw1 : mWF w1) (hT : mT w μ) (hT1 : mT w1 m) (X : mX plL w μ w1 m) (hc : K2C w μ y) (hr : K2R μ y) (kx : K2X y) (eN : μ 21 8 = μ 106 39) (eB : bC 1 μ = bR μ) (C : peC w μ w1 m) (F2 : mF lPR w1 m m2) (hd : (d : Int) = m 106 39) (R : RdR m mx (m 106 39)) (f : pF d m m2) (p : poR m mx m2 d z) : ∃ y', K2C w1 m2 y' ∧ K2R m2 y' ∧ K2X y' ∧ (y' = y ∨ ∃ P, y' = plY y (μ 21 8) P) ∧ m2 21 8 = m2 106 39 ∧ (m2 106 39 = m 106 39 ∨ (m2 106 39 = m 106 39 + 1 ∧ polT m2 d)) := by
  have e39 : m 106 39 = μ 106 39 := X.f (A_106 hw) rfl rfl
  have eb : bR m = bR μ := bR.cg (X.f (A_106 hw) rfl rfl) fun k => X.f (A_107 hw) rfl rfl
  have krm : K2R m y := hr.fr hw hT X (by decide)
  have t8 : μ 21 8 = w.2.2.2 2 ∧ 0 ≤ μ 21 8 ∧ μ 21 8 ≤ 12 := hT 21 21 (A_21 hw) 8
  have t81 : m 21 8 = w1.2.2.2 2 ∧ 0 ≤ m 21 8 ∧ m 21 8 ≤ 12 := hT1 21 21 (A_21 hw1) 8
  have n8 : m2 21 8 = m 21 8 := F2.f (A_21 hw1) rfl rfl
  obtain ⟨mc, hTc, rdc, Fc, C⟩ := C
  have R' : RdR m mx (μ 21 8) := by
    rw [eN, ← e39]; exact R
  have same := (rd_same rdc R' (eB.trans eb.symm)).1
  have stay : w1 = w → m = mc → m2 106 39 = m 106 39 → ∃ y', K2C w1 m2 y' ∧ K2R m2 y' ∧ K2X y' ∧ (y' = y ∨ ∃ P, y' = plY y (μ 21 8) P) ∧ m2 21 8 = m2 106 39 ∧ (m2 106 39 = m 106 39 ∨ (m2 106 39 = m 106 39 + 1 ∧ polT m2 d)) := by
    intro ew em e2
    have c8 : mc 21 8 = μ 21 8 := Fc.f (A_21 hw) rfl rfl
    have kc : K2C w1 m y := by
      rw [ew, em]
      exact hc.polN hw hT Fc
    refine ⟨y, kc.fr hw1 hT1 (mX.ofF F2) (by decide), krm.polN hw1 hT1 f hd e2, kx, Or.inl rfl, ?_, Or.inl e2⟩
    rw [em] at n8 e2 e39
    omega
  rcases C with ⟨b, ew, em⟩ | ⟨b, e12, ew, em⟩ | ⟨b, lt, ew, e22, fm, u, r, m', hE, g, g14⟩
  · rcases p with ⟨_, _, q⟩ | ⟨q, _⟩ | ⟨q, _⟩
    · exact stay ew em q
    · exact absurd (same.trans q) b
    · exact absurd (same.trans q) b
  · rcases p with ⟨q, _⟩ | ⟨_, q1, _, q2⟩ | ⟨_, q1, _⟩
    · exact absurd (same.symm.trans b) q
    · exact stay ew em (by omega)
    · omega
  · rcases p with ⟨q, _⟩ | ⟨_, q1, _⟩ | ⟨_, _, _, q39, u', r', m'', hE', pl, e131, _⟩
    · exact absurd (same.symm.trans b) q
    · omega
    have kc := K2C.pol hw hT hTc hT1 hc Fc lt ew e22 fm hE g
    have kr := krm.pol hw1 hT1 f hd q39 pl
    have hE1 := hE
    rw [eB, eN] at hE1
    rw [eb, e39] at hE'
    obtain ⟨v1, v2, v3⟩ := hE1.uniq hE'
    have pt : polT m2 d := polT.of pl e131 fun x hx a ha => by
      have hx : x ∈ u'.1 := hx
      rw [← v1] at hx
      rw [hd, e39, ← eN, ← g14]
      exact ((g.2.2.2.1 x hx).2 a ha).1
    rw [e39, ← eN, ← v1, ← v3] at kr
    have ec : w1.2.2.2 2 = w.2.2.2 2 + 1 := by
      rw [ew]
      rfl
    refine ⟨plY y (μ 21 8) (plU u m'), kc.fr hw1 hT1 (mX.ofF F2) (by decide), kr, kx.pl t8.2.1 (fun x hx => ?_), Or.inr ⟨_, rfl⟩, by omega, Or.inr ⟨q39, pt⟩⟩
    have o := g.2.2.2.1 x hx
    exact ⟨o.1, fun a ha => by rw [← g14]; exact (o.2 a ha).1⟩
end
section
/-! Every domain has looked at every prefix: what is picked is what would be picked anew. -/
def upB (E : En) (S : Sn) (D : Nat → Nat → Prop) : Prop := ∀ d p : Nat, d < eD E → p < eP E → ¬ D d p → sPk S (10 * d + p) = newP E S (d : Int) p
def upS (E : En) (S : Sn) : Prop := upB E S fun _ _ => False
/-- picks and what was heard are the same -/
def qS (S S' : Sn) : Prop := sPk S' = sPk S ∧ sHd S' = sHd S ∧ sHw S' = sHw S
theorem qS.refl {S : Sn} : qS S S := ⟨rfl, rfl, rfl⟩
theorem qS.trans {S S1 S2 : Sn} (h : qS S S1) (k : qS S1 S2) : qS S S2 := ⟨k.1.trans h.1, k.2.1.trans h.2.1, k.2.2.trans h.2.2⟩
theorem cdE.cg {E : En} {S S' : Sn} {d : Int} {p : Nat} (h1 : sHd S' = sHd S) (h2 : sHw S' = sHw S) : cdE E S' d p = cdE E S d p := by
  funext t
  unfold cdE cdAt
  rw [h1, h2]
theorem newP.of {E : En} {S S' : Sn} {d : Int} {p : Nat} (h : cdsN E S' d p (eT E) = cdsN E S d p (eT E)) : newP E S' d p = newP E S d p := by
  unfold newP
  rw [h]
theorem newP.cg {E : En} {S S' : Sn} {d : Int} {p : Nat} (h1 : sHd S' = sHd S) (h2 : sHw S' = sHw S) : newP E S' d p = newP E S d p := newP.of (by
  unfold cdsN
  rw [cdE.cg h1 h2])
theorem upB.q {E : En} {S S' : Sn} {D : Nat → Nat → Prop} (h : upB E S D) (q : qS S S') : upB E S' D := fun d p hd hp n => by
  rw [q.1, newP.cg q.2.1 q.2.2]
  exact h d p hd hp n
theorem upB.mono {E : En} {S : Sn} {D D' : Nat → Nat → Prop} (h : upB E S D) (k : ∀ d p, d < eD E → p < eP E → D d p → D' d p) : upB E S D' := fun d p hd hp n => h d p hd hp fun q => n (k d p hd hp q)
theorem sayE.q {E : En} {S : Sn} {t s p : Nat} : qS S (sayE E S t s p) := by
  unfold sayE
  by_cases c : eU E t = 0
  · rw [if_pos c]; exact qS.refl
  · rw [if_neg c]
    by_cases c1 : outE E S t s p = (sSd S (slt t s p)).1
    · rw [cIf.pos c1]; exact qS.refl
    · rw [cIf.neg c1]
      split
      · by_cases c3 : ∃ m, (m, 2 * slt t s p + 1) ∈ sQu S
        · rw [cIf.pos c3]; exact qS.refl
        · rw [cIf.neg c3]; exact ⟨rfl, rfl, rfl⟩
      · exact ⟨rfl, rfl, rfl⟩
theorem sayD.q {E : En} {S : Sn} {d : Int} {t p : Nat} : qS S (sayD E d p t S) := by
  unfold sayD
  split
  · exact qS.refl
  · exact sayE.q
theorem sayD.qN {E : En} {S : Sn} {d : Int} {p : Nat} (n : Nat) : qS S (forN (sayD E d p) n S) := forN.inv (fun _ x => qS S x) qS.refl (fun i x _ h => h.trans sayD.q) n (Nat.le_refl _)
theorem sayA.q {E : En} {S : Sn} {t s : Nat} : qS S (sayA E S t s) := forN.inv (fun _ x => qS S x) qS.refl (fun i x _ h => h.trans sayE.q) (eP E) (Nat.le_refl _)
theorem lookE.pk {E : En} {S : Sn} {d : Int} {p : Nat} : (∀ k, ¬ k = 10 * d.toNat + p → sPk (lookE E S d p) k = sPk S k) ∧ sPk (lookE E S d p) (10 * d.toNat + p) = newP E S d p ∧ sHd (lookE E S d p) = sHd S ∧ sHw (lookE E S d p) = sHw S := by
  unfold lookE
  by_cases c : newP E S d p = sPk S (10 * d.toNat + p)
  · rw [cIf.pos c]; exact ⟨fun _ _ => rfl, c.symm, rfl, rfl⟩
  · rw [cIf.neg c]
    have q := sayD.qN (E := E) (S := pk! S (10 * d.toNat + p) (newP E S d p)) (d := d) (p := p) (eT E)
    exact ⟨fun k hk => by rw [q.1]; exact if_neg hk, by rw [q.1]; exact if_pos rfl, q.2.1, q.2.2⟩
theorem upB.look {E : En} {S : Sn} {D : Nat → Nat → Prop} {d p : Nat} (h : upB E S D) (h10 : eP E ≤ 10) (hp : p < 10) : upB E (lookE E S (d : Int) p) (fun a b => D a b ∧ ¬ (a = d ∧ b = p)) := fun a b ha hb n => by
  obtain ⟨l1, l2, l3, l4⟩ := lookE.pk (E := E) (S := S) (d := (d : Int)) (p := p)
  rw [Int.toNat_natCast] at l1 l2
  rw [newP.cg l3 l4]
  by_cases c : a = d ∧ b = p
  · obtain ⟨rfl, rfl⟩ := c
    exact l2
  · rw [l1 _ (by omega)]
    exact h a b ha hb fun q => n ⟨q, c⟩
theorem upB.lookA {E : En} {S : Sn} {D : Nat → Nat → Prop} {d : Nat} (h : upB E S D) (h10 : eP E ≤ 10) : upB E (lookA E S (d : Int)) (fun a b => D a b ∧ ¬ a = d) := by
  have g := forN.inv (f := fun p S => lookE E S (d : Int) p) (a := S) (n := eP E) (fun i x => upB E x (fun a b => D a b ∧ ¬ (a = d ∧ b < i))) (h.mono fun a b _ _ q => ⟨q, by omega⟩) (fun i x hi q => (q.look (d := d) (p := i) h10 (by omega)).mono fun a b _ _ z => ⟨z.1.1, by have z1 := z.1.2; have z2 := z.2; omega⟩) (eP E) (Nat.le_refl _)
  exact upB.mono g fun a b _ hb z => ⟨z.1, by have := z.2; omega⟩
theorem upS.anw {E : En} {S : Sn} (h10 : eP E ≤ 10) : upS E (anew E S) := by
  have g := forN.inv (f := fun d S => lookA E S ((d : Nat) : Int)) (a := S) (n := eD E) (fun i x => upB E x (fun a _ => i ≤ a)) (fun d p _ _ n => absurd (Nat.zero_le d) n) (fun i x hi q => (q.lookA (d := i) h10).mono fun a b _ _ z => by have z1 := z.1; have z2 := z.2; omega) (eD E) (Nat.le_refl _)
  have g2 : upS E (forN (fun d S => lookA E S ((d : Nat) : Int)) (eD E) S) := upB.mono g fun a b ha _ z => by omega
  unfold anew
  refine upB.q g2 (forN.inv (fun _ x => qS (forN (fun d S => lookA E S ((d : Nat) : Int)) (eD E) S) x) qS.refl (fun i x _ h => h.trans ?_) (eD E) (Nat.le_refl _))
  refine forN.inv (fun _ y => qS x y) qS.refl (fun j y _ h => h.trans ?_) (eT E) (Nat.le_refl _)
  split
  · exact qS.refl
  · exact sayA.q
/-- something else is heard at a slot: only one pick may be old -/
theorem sdE_eN {E : En} {d : Int} {t : Nat} (h : ¬ sdE E d t < 0) : (sdE E d t).toNat < 2 ∧ eN E t (sdE E d t).toNat = d := by
  unfold sdE sdI at h ⊢
  unfold eN
  by_cases c : eA E t = d
  · rw [if_pos c]; exact ⟨by decide, (if_pos rfl).trans c⟩
  · rw [if_neg c] at h ⊢
    by_cases c2 : eB E t = d
    · rw [if_pos c2]; exact ⟨by decide, (if_neg (by decide)).trans c2⟩
    · rw [if_neg c2] at h
      exact absurd h (by decide)
theorem upB.hd {E : En} {S : Sn} {D : Nat → Nat → Prop} {t s p : Nat} {v : Option Rt} {m : Int} (h : upB E S D) (hs : s < 2) (hp : p < 10) (h10 : eP E ≤ 10) : upB E (hd! S (slt t s p) v m) (fun a b => D a b ∨ ((a : Int) = eN E t s ∧ b = p)) := fun a b ha hb n => by
  have e : cdsN E (hd! S (slt t s p) v m) (a : Int) b (eT E) = cdsN E S (a : Int) b (eT E) := by
    unfold cdsN
    have e2 : cdE E (hd! S (slt t s p) v m) (a : Int) b = cdE E S (a : Int) b := by
      funext j
      unfold cdE
      by_cases c : sdE E (a : Int) j < 0
      · rw [if_pos c, if_pos c]
      · rw [if_neg c, if_neg c]
        obtain ⟨g1, g2⟩ := sdE_eN c
        have ne : ¬ slt j (sdE E (a : Int) j).toNat b = slt t s p := fun q => by
          unfold slt at q
          have q1 : j = t := by omega
          have q2 : (sdE E (a : Int) j).toNat = s := by omega
          have q3 : b = p := by omega
          rw [q2, q1] at g2
          exact n (Or.inr ⟨g2.symm, q3⟩)
        unfold cdAt
        rw [show sHd (hd! S (slt t s p) v m) (slt j (sdE E (a : Int) j).toNat b) = sHd S (slt j (sdE E (a : Int) j).toNat b) from if_neg ne, show sHw (hd! S (slt t s p) v m) (slt j (sdE E (a : Int) j).toNat b) = sHw S (slt j (sdE E (a : Int) j).toNat b) from if_neg ne]
    rw [e2]
  rw [newP.of e]
  exact h a b ha hb fun q => n (Or.inl q)
theorem eN.nat {E : En} (ti : tiG E) {t s : Nat} (ht : t < eT E) : ∃ d : Nat, eN E t s = (d : Int) ∧ d < eD E := by
  obtain ⟨_, a, b⟩ := ti.1 t ht
  unfold eN
  split
  · exact ⟨(eA E t).toNat, by omega, by omega⟩
  · exact ⟨(eB E t).toNat, by omega, by omega⟩
theorem upS.ev {E : En} {S : Sn} {e : Ev} (h : upS E S) (ti : tiG E) (he : e.2 < 40 * eT E) : upS E (doEv E S e) := by
  have h10 := ti.2.2.2.2
  unfold doEv
  split
  · exact upB.q (upB.q h (S' := qu! (dn! (ck! S e.1)) (remQ e.2 (sQu S))) ⟨rfl, rfl, rfl⟩) sayE.q
  · have g : upB E (qu! (dn! (ck! S e.1)) (remQ e.2 (sQu S))) (fun _ _ => False) := upB.q h ⟨rfl, rfl, rfl⟩
    have g2 := upB.hd (t := e.2 / 40) (s := 1 - e.2 / 20 % 2) (p := e.2 / 2 % 10) (v := (sSd S (e.2 / 2)).1) (m := e.1) g (by omega) (by omega) h10
    obtain ⟨d, ed, _⟩ := eN.nat ti (t := e.2 / 40) (s := 1 - e.2 / 20 % 2) (by omega)
    rw [ed] at g2 ⊢
    exact (g2.look (d := d) (p := e.2 / 2 % 10) h10 (by omega)).mono fun a b _ _ z => by
      rcases z with ⟨z1, z2⟩
      rcases z1 with z1 | z1
      · exact z1
      · exact z2 ⟨by omega, z1.2⟩
/-! Going through policies: what it depends on. -/
section ThCg
variable {g h : Int → Js → Je}
theorem moreR.px {r r' : Rt} {n : Int} (h : moreR r n = some r') : r'.1 = r.1 := by
  unfold moreR at h
  cases hw : wOf r with
  | nil =>
    rw [hw] at h
    have e : some r = some r' := h
    have q := congrArg (fun z : Rt => z.1) (Option.some.inj e)
    exact q.symm
  | cons x l =>
    rw [hw] at h
    have e : (if 20 < ((x :: l).length : Int) + n then none else some (rtWay r (List.replicate n.toNat x ++ x :: l))) = some r' := h
    by_cases c : 20 < ((x :: l).length : Int) + n
    · rw [if_pos c] at e
      cases e
    · rw [if_neg c] at e
      have q := congrArg (fun z : Rt => z.1) (Option.some.inj e)
      exact q.symm
theorem actS.px (hg : ∀ p s, (g p s).2.2.1 = s.2.1) {a : Act} {s : Js} : (actS g a s).2.2.1 = s.2.1 := by
  by_cases c23 : a.1 = 23
  · exact congrArg (fun e : Je => e.2.2.1) (actS.a23 c23)
  by_cases c24 : a.1 = 24
  · exact congrArg (fun e : Je => e.2.2.1) (actS.a24 c24)
  by_cases c25 : a.1 = 25
  · exact congrArg (fun e : Je => e.2.2.1) (actS.a25 c25)
  by_cases c26 : a.1 = 26
  · exact congrArg (fun e : Je => e.2.2.1) (actS.a26 c26)
  by_cases c12 : a.1 = 12
  · exact congrArg (fun e : Je => e.2.2.1) (actS.a12 c12)
  by_cases c13 : a.1 = 13
  · exact congrArg (fun e : Je => e.2.2.1) (actS.a13 c13)
  by_cases c27 : a.1 = 27
  · cases hm : moreR s.2 a.2 with
    | none => exact congrArg (fun e : Je => e.2.2.1) (actS.n27 c27 hm)
    | some r => exact (congrArg (fun e : Je => e.2.2.1) (actS.m27 c27 hm)).trans (moreR.px hm)
  by_cases c28 : a.1 = 28
  · exact (congrArg (fun e : Je => e.2.2.1) (actS.a28 c28)).trans (hg _ _)
  exact congrArg (fun e : Je => e.2.2.1) (actS.ot (by omega))
theorem doA.px (hg : ∀ p s, (g p s).2.2.1 = s.2.1) : ∀ (l : List Act) (s : Js), (doA g l s).2.2.1 = s.2.1
  | [], _ => rfl
  | a :: l, s => by
    show (if 500 ≤ s.1 then ((2, s) : Je) else if (actS g a (s.1 + 1, s.2)).1 = 0 then doA g l (actS g a (s.1 + 1, s.2)).2 else actS g a (s.1 + 1, s.2)).2.2.1 = s.2.1
    by_cases c : 500 ≤ s.1
    · rw [if_pos c]
    · rw [if_neg c]
      by_cases c2 : (actS g a (s.1 + 1, s.2)).1 = 0
      · rw [if_pos c2]
        exact (doA.px hg l _).trans (actS.px hg (s := (s.1 + 1, s.2)))
      · rw [if_neg c2]
        exact actS.px hg (s := (s.1 + 1, s.2))
theorem goR.px {T : Tst → Rt → Prop} (hg : ∀ p s, (g p s).2.2.1 = s.2.1) : ∀ (l : List Rw) (s : Js), (goR g T l s).2.2.1 = s.2.1
  | [], _ => rfl
  | x :: l, s => by
    show (cIf (∀ t ∈ x.1, T t s.2) (if (doA g x.2 s).1 = 0 then goR g T l (doA g x.2 s).2 else doA g x.2 s) (goR g T l s)).2.2.1 = s.2.1
    by_cases c : ∀ t ∈ x.1, T t s.2
    · rw [cIf.pos c]
      by_cases c2 : (doA g x.2 s).1 = 0
      · rw [if_pos c2]
        exact (goR.px hg l _).trans (doA.px hg x.2 s)
      · rw [if_neg c2]
        exact doA.px hg x.2 s
    · rw [cIf.neg c]
      exact goR.px hg l s
theorem goP.px {P : Int → List Rw} {T : Int → Tst → Rt → Prop} : ∀ (n : Nat) (p : Int) (s : Js), (goP P T n p s).2.2.1 = s.2.1
  | 0, _, _ => rfl
  | n + 1, p, s => goR.px (fun p s => goP.px n p s) (P p) s
theorem actS.cgK {k0 : Int} {a : Act} {s : Js} (hs : s.2.1 = k0) (e : a.1 = 28 → ∀ s : Js, s.2.1 = k0 → g a.2 s = h a.2 s) : actS g a s = actS h a s := by
  unfold actS
  by_cases c : a.1 = 28
  · rw [e c s hs]
  · simp only [if_neg c]
theorem doA.cgK {k0 : Int} (hg : ∀ p s, (g p s).2.2.1 = s.2.1) : ∀ l : List Act, (∀ a ∈ l, a.1 = 28 → ∀ s : Js, s.2.1 = k0 → g a.2 s = h a.2 s) → ∀ s : Js, s.2.1 = k0 → doA g l s = doA h l s
  | [], _, _, _ => rfl
  | a :: l, e, s, hs => by
    have ea : actS g a (s.1 + 1, s.2) = actS h a (s.1 + 1, s.2) := actS.cgK (s := (s.1 + 1, s.2)) hs (e a List.mem_cons_self)
    show (if 500 ≤ s.1 then ((2, s) : Je) else if (actS g a (s.1 + 1, s.2)).1 = 0 then doA g l (actS g a (s.1 + 1, s.2)).2 else actS g a (s.1 + 1, s.2)) = (if 500 ≤ s.1 then ((2, s) : Je) else if (actS h a (s.1 + 1, s.2)).1 = 0 then doA h l (actS h a (s.1 + 1, s.2)).2 else actS h a (s.1 + 1, s.2))
    rw [← ea]
    by_cases c : 500 ≤ s.1
    · rw [if_pos c, if_pos c]
    · rw [if_neg c, if_neg c]
      by_cases c2 : (actS g a (s.1 + 1, s.2)).1 = 0
      · rw [if_pos c2, if_pos c2]
        exact doA.cgK hg l (fun b hb => e b (List.mem_cons_of_mem _ hb)) _ ((actS.px hg (s := (s.1 + 1, s.2))).trans hs)
      · rw [if_neg c2, if_neg c2]
theorem goR.cgK {k0 : Int} {T T' : Tst → Rt → Prop} (hg : ∀ p s, (g p s).2.2.1 = s.2.1) : ∀ l : List Rw, (∀ x ∈ l, ∀ a ∈ x.2, a.1 = 28 → ∀ s : Js, s.2.1 = k0 → g a.2 s = h a.2 s) → (∀ x ∈ l, ∀ t ∈ x.1, ∀ r : Rt, r.1 = k0 → (T t r ↔ T' t r)) → ∀ s : Js, s.2.1 = k0 → goR g T l s = goR h T' l s
  | [], _, _, _, _ => rfl
  | x :: l, e, eT, s, hs => by
    have ed := doA.cgK hg x.2 (e x List.mem_cons_self) s hs
    have ih := goR.cgK hg l (fun y hy => e y (List.mem_cons_of_mem _ hy)) (fun y hy => eT y (List.mem_cons_of_mem _ hy))
    have ec : (∀ t ∈ x.1, T t s.2) ↔ ∀ t ∈ x.1, T' t s.2 := ⟨fun q t ht => (eT x List.mem_cons_self t ht s.2 hs).mp (q t ht), fun q t ht => (eT x List.mem_cons_self t ht s.2 hs).mpr (q t ht)⟩
    show cIf (∀ t ∈ x.1, T t s.2) (if (doA g x.2 s).1 = 0 then goR g T l (doA g x.2 s).2 else doA g x.2 s) (goR g T l s) = cIf (∀ t ∈ x.1, T' t s.2) (if (doA h x.2 s).1 = 0 then goR h T' l (doA h x.2 s).2 else doA h x.2 s) (goR h T' l s)
    rw [cIf.cg ec, ← ed, ih s hs]
    by_cases c : (doA g x.2 s).1 = 0
    · rw [if_pos c, if_pos c, ih _ ((doA.px hg x.2 s).trans hs)]
    · rw [if_neg c, if_neg c]
theorem goP.cgK {P P' : Int → List Rw} {T T' : Int → Tst → Rt → Prop} {c k0 : Int} (cb : ∀ p, 0 ≤ p → callsB (P p) p) (hP : ∀ p, 0 ≤ p → p < c → P' p = P p) (hT : ∀ p, 0 ≤ p → p < c → ∀ (t : Tst) (r : Rt), r.1 = k0 → (T p t r ↔ T' p t r)) : ∀ (n : Nat) (p : Int) (s : Js), 0 ≤ p → p < c → s.2.1 = k0 → goP P T n p s = goP P' T' n p s
  | 0, _, _, _, _, _ => rfl
  | n + 1, p, s, h0, h1, hs => by
    show goR (goP P T n) (T p) (P p) s = goR (goP P' T' n) (T' p) (P' p) s
    rw [hP p h0 h1]
    exact goR.cgK (fun p s => goP.px n p s) (P p) (fun x hx a ha e s' hs' => by
      have k := cb p h0 x hx a ha e
      exact goP.cgK cb hP hT n a.2 s' k.1 (by omega) hs') (fun x hx t ht r hr => hT p h0 h1 t r hr) s hs
theorem thJ.cg {J J' : Ju} {pl d q c : Int} {r : Rt} (ok : jOk J) (hP : ∀ p, 0 ≤ p → p < c → jP J' p = jP J p) (hR : jR J' d q = jR J d q) (hA : jA J' r.1.toNat = jA J r.1.toNat) (hL : jL J' r.1.toNat = jL J r.1.toNat) (hV : ∀ n, jV J' r.1 n = jV J r.1 n) (hpl : pl = -99999999 ∨ (0 ≤ pl ∧ pl < c)) : thJ J' pl d q r = thJ J pl d q r := by
  unfold thJ
  by_cases e : pl = -99999999
  · rw [if_pos e, if_pos e]
  · have hp : 0 ≤ pl ∧ pl < c := by omega
    have k : gpJ J' d q 12 pl (0, r) = gpJ J d q 12 pl (0, r) := by
      unfold gpJ
      refine (goP.cgK (c := c) (k0 := r.1) (fun p hp x hx a ha e => ((ok p hp x hx).2 a ha).2.2.2 e) (fun p h0 h1 => ?_) (fun p h0 h1 t r' hr => ?_) 12 pl (0, r) hp.1 hp.2 rfl).symm
      · show (jP J' p).1 = (jP J p).1
        rw [hP p h0 h1]
      · show tsT J p d q t r' ↔ tsT J' p d q t r'
        unfold tsT isT
        rw [hr, hP p h0 h1, hR, hA, hL, hV]
    rw [if_neg e, if_neg e, k]
end ThCg
/-- candidates where going through, ups and policies of ties answer the same -/
theorem cdE.of {E E' : En} {S S' : Sn} {d : Int} {p t : Nat} (hA : eA E' t = eA E t) (hB : eB E' t = eB E t) (hs : sdE E d t < 0 ∨ cdAt E' S' d p t (sdE E d t).toNat = cdAt E S d p t (sdE E d t).toNat) : cdE E' S' d p t = cdE E S d p t := by
  have e : sdE E' d t = sdE E d t := by
    unfold sdE
    rw [hA, hB]
  unfold cdE
  rw [e]
  by_cases c : sdE E d t < 0
  · rw [if_pos c, if_pos c]
  · rw [if_neg c, if_neg c]
    exact hs.resolve_left c
theorem fm_cg {α β : Type} {f g : α → Option β} : ∀ l : List α, (∀ x ∈ l, f x = g x) → l.filterMap f = l.filterMap g
  | [], _ => rfl
  | a :: l, h => by rw [List.filterMap_cons, List.filterMap_cons, h a List.mem_cons_self, fm_cg l (fun x hx => h x (List.mem_cons_of_mem _ hx))]
theorem cdsN.of {E E' : En} {S S' : Sn} {d : Int} {p : Nat} : ∀ n : Nat, (∀ t, t < n → cdE E' S' d p t = cdE E S d p t) → cdsN E' S' d p n = cdsN E S d p n := fun n h => by
  unfold cdsN
  exact fm_cg _ fun t ht => h t (List.mem_range.mp ht)
theorem newP.ofE {E E' : En} {S S' : Sn} {d p : Nat} (hO : eOw E' (10 * d + p) = eOw E (10 * d + p)) (hG : eGr E' d = eGr E d) (hS : eSt E' d = eSt E d) (hc : cdsN E' S' (d : Int) p (eT E') = cdsN E S (d : Int) p (eT E)) : newP E' S' (d : Int) p = newP E S (d : Int) p := by
  unfold newP
  rw [Int.toNat_natCast, hO, hG, hS, hc]
end
