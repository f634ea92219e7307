section
/-! Rights and days. -/
/-- how many; prefix, most, domain, from, to, known, struck (-1: never) -/
abbrev Rg : Type := Nat × (Nat → Int) × (Nat → Int) × (Nat → Int) × (Nat → Int) × (Nat → Int) × (Nat → Int) × (Nat → Int)
abbrev gN (R : Rg) : Nat := R.1
abbrev gP (R : Rg) : Nat → Int := R.2.1
abbrev gM (R : Rg) : Nat → Int := R.2.2.1
abbrev gD (R : Rg) : Nat → Int := R.2.2.2.1
abbrev gF (R : Rg) : Nat → Int := R.2.2.2.2.1
abbrev gT (R : Rg) : Nat → Int := R.2.2.2.2.2.1
abbrev gK (R : Rg) : Nat → Int := R.2.2.2.2.2.2.1
abbrev gS (R : Rg) : Nat → Int := R.2.2.2.2.2.2.2
def rgtC (μ : mM) (R : Rg) : Prop := μ 6 17 = (gN R : Int) ∧ ∀ i, i < gN R → μ 14 i = gP R i ∧ μ 15 i = gM R i ∧ μ 16 i = gD R i ∧ μ 17 i = gF R i ∧ μ 18 i = gT R i ∧ μ 19 i = gK R i ∧ μ 20 i = gS R i
def rgtR (μ : mM) (R : Rg) : Prop := μ 106 18 = (gN R : Int) ∧ ∀ i, i < gN R → μ 119 i = gP R i ∧ μ 120 i = gM R i ∧ μ 121 i = gD R i ∧ μ 122 i = gF R i ∧ μ 123 i = gT R i ∧ μ 124 i = gK R i ∧ μ 125 i = if gS R i = -1 then -99999999 else gS R i
/-- prefixes are in order; rights are of prefixes that are there; days of striking aren't below 0 -/
def pfO (A L : Nat → Int) (n : Nat) : Prop := n ≤ 10 ∧ ∀ i, i < n → (0 ≤ L i ∧ L i ≤ 32) ∧ (-2147483648 ≤ A i ∧ A i ≤ 2147483647) ∧ bAnd (A i) (bXor (mskF (L i)) (-1)) = 0
def rgO (R : Rg) (n : Nat) : Prop := gN R ≤ 30 ∧ ∀ i, i < gN R → (0 ≤ gP R i ∧ gP R i < (n : Int)) ∧ 0 ≤ gK R i ∧ (gS R i = -1 ∨ 0 ≤ gS R i)
noncomputable def vdJ (A L : Nat → Int) (R : Rg) (td x n : Int) : Int := vdF (fun r => (gF R r ≤ td ∧ td < gT R r ∧ gK R r ≤ td ∧ (gS R r = -1 ∨ td < gS R r) ∧ L (gP R r).toNat ≤ L x.toNat) ∧ bAnd (A x.toNat) (mskF (L (gP R r).toNat)) = A (gP R r).toNat) (fun r => gD R r = n ∧ L x.toNat ≤ gM R r) (gN R)
theorem vC.is {μ : mM} {A L : Nat → Int} {R : Rg} {td x n : Int} {N : Nat} (h : rgtC μ R) (ro : rgO R N) (tb : ∀ i, i < 10 → μ 7 i = A i ∧ μ 8 i = L i) (mk : ∀ i, i < N → μ 9 i = mskF (L i)) (h10 : N ≤ 10) (hx : 0 ≤ x ∧ x ≤ 9) : vC μ x n td td = vdJ A L R td x n := by
  unfold vC vdJ
  rw [h.1, Int.toNat_natCast]
  refine vdF.cg _ fun r hr => ?_
  obtain ⟨a1, a2, a3, a4, a5, a6, a7⟩ := h.2 r hr
  obtain ⟨b1, _⟩ := ro.2 r hr
  obtain ⟨t1, t2⟩ := tb x.toNat (by omega)
  obtain ⟨t3, t4⟩ := tb (gP R r).toNat (by omega)
  unfold apC okC
  rw [a1, a2, a3, a4, a5, a6, a7, t1, t2, t3, t4, mk (gP R r).toNat (by omega)]
  exact ⟨Iff.rfl, Iff.rfl⟩
theorem vR.is {μ : mM} {A L : Nat → Int} {R : Rg} {td x n : Int} {N : Nat} (h : rgtR μ R) (ro : rgO R N) (pf : pfO A L N) (tb : ∀ i, i < 10 → μ 108 i = A i ∧ μ 109 i = L i) (h0 : 0 ≤ td) (hx : 0 ≤ x ∧ x ≤ 9) : vR μ x n td td = vdJ A L R td x n := by
  unfold vR vdJ
  rw [h.1, Int.toNat_natCast]
  refine vdF.cg _ fun r hr => ?_
  obtain ⟨a1, a2, a3, a4, a5, a6, a7⟩ := h.2 r hr
  obtain ⟨b1, b2, b3⟩ := ro.2 r hr
  have h10 := pf.1
  obtain ⟨t1, t2⟩ := tb x.toNat (by omega)
  obtain ⟨t3, t4⟩ := tb (gP R r).toNat (by omega)
  obtain ⟨_, p2, p3⟩ := pf.2 (gP R r).toNat (by omega)
  have C := bCover (aq := A x.toNat) p2 p3
  have e7 : (μ 125 r = -99999999 ∨ td < μ 125 r) ↔ (gS R r = -1 ∨ td < gS R r) := by
    rw [a7]
    by_cases c : gS R r = -1
    · rw [if_pos c]
      exact ⟨fun _ => Or.inl c, fun _ => Or.inl rfl⟩
    · rw [if_neg c]
      constructor
      · rintro (q | q)
        · omega
        · exact Or.inr q
      · rintro (q | q)
        · exact absurd q c
        · exact Or.inr q
  unfold apR okR
  rw [e7, a1, a2, a3, a4, a5, a6, t1, t2, t3, t4, ← C]
  exact ⟨Iff.rfl, Iff.rfl⟩
/-- another verdict -/
def jv! (J : Ju) (v : Int → Int → Int) : Ju := (jP J, jA J, jL J, v, jR J)
def th! (E : En) (f : Int → Int → Int → Rt → Bool × Rt) : En := (eT E, eA E, eB E, eU E, eL E, eG E, ePl E, f, eOw E, eSt E, eGr E, eP E, eD E)
noncomputable def vd! (x : St) (v : Int → Int → Int) : St := (th! (xE x) (thJ (jv! (xJ x) v)), jv! (xJ x) v, xS x, xH x)
theorem KX.vd {x : St} {v : Int → Int → Int} (k : KX x) : KX (vd! x v) := by
  have ok : jOk (jv! (xJ x) v) := k.2.2.1
  have ng : jNg (jv! (xJ x) v) := k.2.2.2.1
  exact ⟨k.1, ⟨k.2.1.1, ⟨fun pl d q r p h => thJ.good ok ng h, k.2.1.2.1.2⟩, k.2.1.2.2⟩, ok, ng, rfl, k.2.2.2.2.2⟩
def lVC : List Nat := [6017, 6018, 14999, 15999, 16999, 17999, 18999, 19999, 20999]
section Vd
variable {w : mW} {μ m : mM} {x : St}
theorem jgC.vd {J : Ju} {v : Int → Int → Int} (hw : mWF w) (h : jgC w μ J) (F : mF lVC w μ m) (vd : ∀ x n : Int, 0 ≤ x → x ≤ 9 → vC m x n (m 6 18) (m 6 18) = v x n) : jgC w m (jv! J v) := by
  obtain ⟨h1, h2, _⟩ := h
  have n8 : m 21 8 = μ 21 8 := F.f (A_21 hw) rfl rfl
  refine ⟨fun p hp => ?_, fun i hi => ?_, vd⟩
  · rw [n8] at hp
    obtain ⟨b, eb, c, cp, cn, cf, cl, ⟨⟨A0, A1, A2, A3, A4, A5⟩, x1, x2, x3, x4, x5⟩, hl, hr, hm, hk⟩ := h1 p hp
    have fc : m c = μ c := funext fun i => F.f A1 rfl rfl
    have ff : m cf = μ cf := funext fun i => F.f A4 rfl rfl
    have fl : m cl = μ cl := funext fun i => F.f A5 rfl rfl
    exact ⟨b, F.f (A_22 hw) rfl eb, c, cp, cn, cf, cl, ⟨⟨A0, A1, A2, A3, A4, A5⟩, F.f A0 rfl x1, F.f A0 rfl x2, F.f A0 rfl x3, F.f A0 rfl x4, F.f A0 rfl x5⟩, F.f A0 rfl hl, by rw [fc, ff, fl]; exact hr, hm, fun k hk' => ⟨⟨F.f A2 rfl (hk k hk').1.1, by rw [F.f A3 rfl (rfl : μ cn k = μ cn k)]; exact (hk k hk').1.2⟩, (hk k hk').2⟩⟩
  · exact ⟨F.f (A_7 hw) rfl (h2 i hi).1, F.f (A_8 hw) rfl (h2 i hi).2⟩
theorem KCl.vd {v : Int → Int → Int} (hw : mWF w) (h : KCl w μ x) (F : mF lVC w μ m) (f : ∀ b i, ¬ (b = 6 ∧ (i = 17 ∨ i = 18)) → ¬ (14 ≤ b ∧ b ≤ 20) → m b i = μ b i) (vd : ∀ x n : Int, 0 ≤ x → x ≤ 9 → vC m x n (m 6 18) (m 6 18) = v x n) : KCl w m (vd! x v) := by
  have jg := h.2.1.vd hw F vd
  obtain ⟨⟨h1, h2, h3, ⟨l1, l2, l3, l4, l5, l6⟩, h5, h6⟩, _, rl, pl, sn, hh⟩ := h
  have g : ∀ b, ¬ b = 6 → ¬ (14 ≤ b ∧ b ≤ 20) → m b = μ b := fun b q1 q2 => funext fun i => f b i (by omega) q2
  have tb : ∀ t, tbA m t = tbA μ t := fun t => by
    show (m 11 t).toNat = (μ 11 t).toNat
    rw [g 11 (by omega) (by omega)]
  have db : ∀ t, dbA m t = dbA μ t := fun t => by
    show (m 10 t).toNat = (μ 10 t).toNat
    rw [g 10 (by omega) (by omega)]
  have ft : ∀ t j, t < eT (xE x) → m (tbA μ t + j) = μ (tbA μ t + j) := fun t j ht => g _ (by have := (l1 t ht).2.1; omega) (by have := (l1 t ht).2.1; omega)
  have fd : ∀ d j, d < eD (xE x) → m (dbA μ d + j) = μ (dbA μ d + j) := fun d j hd => g _ (by have := (l2 d hd).2.1; omega) (by have := (l2 d hd).2.1; omega)
  refine ⟨⟨by rw [f _ _ (by omega) (by omega)]; exact h1, by rw [f _ _ (by omega) (by omega)]; exact h2, by rw [f _ _ (by omega) (by omega)]; exact h3, ⟨fun t ht => ?_, fun d hd => ?_, fun t s ht hs hne => ?_, fun t s ht hs hne => ?_, fun t d ht hd => ?_, fun i hi => by rw [f _ _ (by omega) (by omega)]; exact l6 i hi⟩, fun t ht => ?_, fun d hd => ?_⟩, jg, fun t s ht hs => ?_, fun t i ht hi => by rw [f _ _ (by omega) (by omega)]; exact pl t i ht hi, ?_, ?_⟩
  · rw [tb, f _ _ (by omega) (by omega), ft t 2 ht, ft t 3 ht]; exact l1 t ht
  · rw [db, f _ _ (by omega) (by omega), fd d 4 hd]; exact l2 d hd
  · rw [tb, tb]; exact l3 t s ht hs hne
  · rw [db, db]; exact l4 t s ht hs hne
  · rw [tb, db]; exact l5 t d ht hd
  · have f0 := ft t 0 ht
    rw [Nat.add_zero] at f0
    rw [tb, f0, ft t 1 ht]; exact h5 t ht
  · have f0 := fd d 0 hd
    rw [Nat.add_zero] at f0
    rw [db, f0, fd d 1 hd, fd d 2 hd]; exact h6 d hd
  · have f0 := ft t 0 ht
    rw [Nat.add_zero] at f0
    rw [tb, f0]; exact rl t s ht hs
  · exact snC.cg (E := xE x) sn (fun i => f _ _ (by omega) (by omega)) (fun i => f _ _ (by omega) (by omega)) (fun t b i ht h1 h2 => f _ _ (by have := (l1 t ht).2.1; omega) (by have := (l1 t ht).2.1; omega)) (fun d b i hd h1 => f _ _ (by have := (l2 d hd).2.1; omega) (by have := (l2 d hd).2.1; omega)) (fun i _ _ => f _ _ (by omega) (by omega)) (fun i => f _ _ (by omega) (by omega)) (fun i => f _ _ (by omega) (by omega)) (fun b i _ _ => f _ _ (by omega) (by omega))
  · exact hC.of (fun b i hb => f b i (by omega) (by omega)) hh
theorem KRf.vd {v : Int → Int → Int} (hw : mWF w) (hT : mT w μ) (h : KRf μ x) (f : ∀ b i, ¬ (b = 106 ∧ (i = 17 ∨ i = 18 ∨ i = 26)) → ¬ (119 ≤ b ∧ b ≤ 125) → m b i = μ b i) (hg : gJ m) (vd : ∀ x n : Int, 0 ≤ x → x ≤ 9 → vR m x n (m 106 17) (m 106 17) = v x n) : KRf m (vd! x v) := by
  obtain ⟨⟨h1, h2, h3, h4, h5⟩, ⟨j1, j2, _⟩, rl, pl, sn, hh, _, hn⟩ := h
  have g : ∀ b, ¬ b = 106 → ¬ (119 ≤ b ∧ b ≤ 125) → m b = μ b := fun b q1 q2 => funext fun i => f b i (by omega) q2
  have r0 : rtR m 0 = rtR μ 0 := rtR.cg (hT.rb hw (by omega)).1.2 (hT.rb hw (by omega)).2.2 fun k hk => f _ _ (by omega) (by omega)
  refine ⟨⟨by rw [f _ _ (by omega) (by omega)]; exact h1, by rw [f _ _ (by omega) (by omega)]; exact h2, by rw [f _ _ (by omega) (by omega)]; exact h3, fun t ht => ?_, fun d hd => ?_⟩, ⟨fun p hp => ?_, fun i hi => ?_, vd⟩, fun t s ht hs => ?_, fun t i ht hi => by rw [f _ _ (by omega) (by omega)]; exact pl t i ht hi, ?_, ?_, hg, ?_⟩
  · rw [g 110 (by omega) (by omega), g 112 (by omega) (by omega), g 113 (by omega) (by omega), g 114 (by omega) (by omega), g 115 (by omega) (by omega)]; exact h4 t ht
  · rw [g 162 (by omega) (by omega), g 163 (by omega) (by omega), g 164 (by omega) (by omega)]; exact h5 d hd
  · rw [f 106 39 (by omega) (by omega)] at hp
    exact plR.cg (fun b q1 q2 => g b (by omega) (by omega)) (j1 p hp)
  · rw [g 108 (by omega) (by omega), g 109 (by omega) (by omega)]; exact j2 i hi
  · rw [g 111 (by omega) (by omega)]; exact rl t s ht hs
  · exact snR.cg (E := xE x) sn hw hT fun b i hb => f b i (by omega) (by omega)
  · exact hRf.of hw hT (fun b i hb => f b i (by omega) (by omega)) hh
  · rw [f 106 70 (by omega) (by omega), r0]; exact hn
end Vd
/-- the state with rights and the day -/
abbrev S2 : Type := St × Rg × Int
abbrev yX (y : S2) : St := y.1
abbrev yR (y : S2) : Rg := y.2.1
abbrev yD (y : S2) : Int := y.2.2
def K2C (w : mW) (μ : mM) (y : S2) : Prop := KCl w μ (yX y) ∧ rgtC μ (yR y) ∧ μ 6 18 = yD y ∧ ∀ i, i < eP (xE (yX y)) → μ 9 i = mskF (jL (xJ (yX y)) i)
def K2R (μ : mM) (y : S2) : Prop := KRf μ (yX y) ∧ rgtR μ (yR y) ∧ μ 106 17 = yD y
def K2X (y : S2) : Prop := KX (yX y) ∧ rgO (yR y) (eP (xE (yX y))) ∧ pfO (jA (xJ (yX y))) (jL (xJ (yX y))) (eP (xE (yX y))) ∧ 0 ≤ yD y ∧ jV (xJ (yX y)) = vdJ (jA (xJ (yX y))) (jL (xJ (yX y))) (yR y) (yD y)
def k2S (y z : S2) : Prop := K2X z ∧ sMd (xS (yX y)) ≤ sMd (xS (yX z)) ∧ sMd (xS (yX z)) ≤ sMd (xS (yX y)) + 50000
theorem k2S.refl {y : S2} (h : K2X y) : k2S y y := ⟨h, Int.le_refl _, by omega⟩
/-- rights and the day anew: all is looked at, all is said -/
noncomputable def rth! (y : S2) (R : Rg) (d : Int) : S2 := ((xE (vd! (yX y) (vdJ (jA (xJ (yX y))) (jL (xJ (yX y))) R d)), xJ (vd! (yX y) (vdJ (jA (xJ (yX y))) (jL (xJ (yX y))) R d)), anew (xE (vd! (yX y) (vdJ (jA (xJ (yX y))) (jL (xJ (yX y))) R d))) (xS (yX y)), xH (yX y)), R, d)
theorem rth!.k2 {y : S2} {R : Rg} {d : Int} (k : K2X y) (ro : rgO R (eP (xE (yX y)))) (hd : 0 ≤ d) : k2S y (rth! y R d) := by
  have K := k.1.vd (v := vdJ (jA (xJ (yX y))) (jL (xJ (yX y))) R d)
  have A := anew.cn (E := xE (vd! (yX y) (vdJ (jA (xJ (yX y))) (jL (xJ (yX y))) R d))) (S := xS (yX y)) K.1 K.2.1
  have N := K.next K.2.1 A (by decide) rfl rfl K.2.2.2.2.2.2.2
  exact ⟨⟨N.1, ro, k.2.2.1, hd, rfl⟩, N.2⟩
theorem gJ.cg2 {μ m : mM} (h : gJ μ) (f : ∀ b i, ¬ (b = 106 ∧ i = 17) → m b i = μ b i) : gJ m := by
  obtain ⟨h1, h2⟩ := h
  refine ⟨fun c => ?_, fun r hr => ?_⟩
  · rw [f 106 26 (by omega)] at c
    rw [f 106 27 (by omega), f 106 28 (by omega), f 106 29 (by omega), f 106 30 (by omega), f 106 31 (by omega), f 106 2 (by omega), vR.cg (μ := μ) (fun b i hb => f b i (by omega)) (f 106 18 (by omega))]
    exact h1 c
  · rw [f 106 18 (by omega)] at hr
    rw [f 119 r (by omega), f 106 2 (by omega)]
    exact h2 r hr
section Right
variable {w : mW} {μ : mM} {y : S2}
/-- the class: rights or the day have changed; all anew -/
theorem K2C.rth {m1 : mM} {R : Rg} {d : Int} {Q : mM → Prop} (hw : mWF w) (hT1 : mT w m1) (h : K2C w μ y) (k : K2X y) (F1 : mF lVC w μ m1) (f : ∀ b i, ¬ (b = 6 ∧ (i = 17 ∨ i = 18)) → ¬ (14 ≤ b ∧ b ≤ 20) → m1 b i = μ b i) (hR : rgtC m1 R) (hD : m1 6 18 = d) (ro : rgO R (eP (xE (yX y))))
    (kk : ∀ m : mM, K2C w m (rth! y R d) → Q m) : WP_X8_tellAllAnew_W w m1 (fun m => mT w m → mF [21002, 21003, 21004, 21005, 21006, 21007, 32009, 32010, 33999, 34999, 66999, 200002, 200003, 200004, 200005, 200006, 200007, 200008, 200009, 200010, 200011, 201999, 202999, 213999] w m1 m → Q m) := by
  have tb : ∀ i, i < 10 → m1 7 i = jA (xJ (yX y)) i ∧ m1 8 i = jL (xJ (yX y)) i := fun i hi => by
    rw [f 7 i (by omega) (by omega), f 8 i (by omega) (by omega)]
    exact h.1.2.1.2.1 i hi
  have mk : ∀ i, i < eP (xE (yX y)) → m1 9 i = mskF (jL (xJ (yX y)) i) := fun i hi => by
    rw [f 9 i (by omega) (by omega)]
    exact h.2.2.2 i hi
  have p10 := k.2.2.1.1
  have K1 : KCl w m1 (vd! (yX y) (vdJ (jA (xJ (yX y))) (jL (xJ (yX y))) R d)) := h.1.vd hw F1 f fun x n h0 h9 => by
    rw [hD]
    exact vC.is hR ro tb mk p10 ⟨h0, h9⟩
  have KX1 := k.1.vd (v := vdJ (jA (xJ (yX y))) (jL (xJ (yX y))) R d)
  have ev := K1.env hw hT1 KX1
  refine X8_tellAllAnew_s hw hT1 ev K1.2.2.2.2.1 KX1.1 KX1.2.1 fun m s l T F => kk m ?_
  have F2 : mF lEC w m1 m := mF.refl.call F rfl
  have N := K1.next hw hT1 (mF.refl.call F2 rfl) (envC.fr hw hT1 ev F2) s l.d rfl rfl rfl
  refine ⟨N, ⟨F2.f (A_6 hw) rfl hR.1, fun i hi => ?_⟩, F2.f (A_6 hw) rfl hD, fun i hi => F2.f (A_9 hw) rfl (mk i hi)⟩
  obtain ⟨a1, a2, a3, a4, a5, a6, a7⟩ := hR.2 i hi
  exact ⟨F2.f (A_14 hw) rfl a1, F2.f (A_15 hw) rfl a2, F2.f (A_16 hw) rfl a3, F2.f (A_17 hw) rfl a4, F2.f (A_18 hw) rfl a5, F2.f (A_19 hw) rfl a6, F2.f (A_20 hw) rfl a7⟩
theorem K2R.rth {m1 : mM} {R : Rg} {d : Int} {Q : mM → Prop} (hw : mWF w) (hT : mT w μ) (hT1 : mT w m1) (h : K2R μ y) (k : K2X y) (hM : sMd (xS (yX y)) ≤ 2000000000) (f : ∀ b i, ¬ (b = 106 ∧ (i = 17 ∨ i = 18 ∨ i = 26)) → ¬ (119 ≤ b ∧ b ≤ 125) → m1 b i = μ b i) (hg : gJ m1) (hR : rgtR m1 R) (hD : m1 106 17 = d) (h0 : 0 ≤ d) (ro : rgO R (eP (xE (yX y))))
    (kk : ∀ m : mM, K2R m (rth! y R d) → Q m) : WP_X12_rethink_W w m1 (fun m => mT w m → mF [106026, 106027, 106028, 106029, 106030, 106031, 106072, 126999, 151999, 152999, 153999, 155999, 156999, 157999, 158999, 159999, 160999, 161999, 165999] w m1 m → Q m) := by
  have m0 := k.1.2.2.2.2.2.2.1
  have tb : ∀ i, i < 10 → m1 108 i = jA (xJ (yX y)) i ∧ m1 109 i = jL (xJ (yX y)) i := fun i hi => by
    rw [f 108 i (by omega) (by omega), f 109 i (by omega) (by omega)]
    exact h.1.2.1.2.1 i hi
  have K1 : KRf m1 (vd! (yX y) (vdJ (jA (xJ (yX y))) (jL (xJ (yX y))) R d)) := h.1.vd hw hT f hg fun x n h9 h10 => by
    rw [hD]
    exact vR.is hR ro k.2.2.1 tb h0 ⟨h9, h10⟩
  have KX1 := k.1.vd (v := vdJ (jA (xJ (yX y))) (jL (xJ (yX y))) R d)
  have ev := K1.env (w := w) hw KX1
  refine X12_rethink_s hw ev hg gJ.st K1.2.2.2.2.1 KX1.1 KX1.2.1 ⟨m0, by show sMd (xS (yX y)) + 4200 < 2147483647; omega⟩ fun m s g l T F => kk m ?_
  have F2 : mF lER w m1 m := mF.refl.call F rfl
  have N := K1.next hw hT1 (mF.refl.call F2 rfl) (ev.fr hw F2) s g l rfl rfl rfl
  refine ⟨N, ⟨F2.f (A_106 hw) rfl hR.1, fun i hi => ?_⟩, F2.f (A_106 hw) rfl hD⟩
  obtain ⟨a1, a2, a3, a4, a5, a6, a7⟩ := hR.2 i hi
  exact ⟨F2.f (A_119 hw) rfl a1, F2.f (A_120 hw) rfl a2, F2.f (A_121 hw) rfl a3, F2.f (A_122 hw) rfl a4, F2.f (A_123 hw) rfl a5, F2.f (A_124 hw) rfl a6, F2.f (A_125 hw) rfl a7⟩
noncomputable def tdy! (y : S2) (d : Int) : Int × S2 := if 0 ≤ d then (yD y, rth! y (yR y) d) else (-1, y)
theorem C_today {d : Int} (hw : mWF w) (h : K2C w μ y) (k : K2X y) : WP_X11_today_W w μ d (fun z m => z = (tdy! y d).1 ∧ K2C w m (tdy! y d).2) := by
  refine ⟨fun c v ev _ m1 u1 T1 => ?_, fun c => ?_⟩
  · obtain rfl := u1.is
    have e : tdy! y d = (yD y, rth! y (yR y) d) := if_pos c
    rw [e]
    have ev' : v = yD y := ev.symm.trans h.2.2.1
    have F1 : mF lVC w μ (mUp μ 6 18 d) := mF.refl.up (A_6 hw) mUp_ok rfl
    refine h.rth hw T1 k F1 (fun b i q1 q2 => mUp.no (by omega)) ⟨by rw [mUp.no (by omega)]; exact h.2.1.1, fun i hi => ?_⟩ (mUp.yes ⟨rfl, rfl⟩) k.2.1 fun m K => ⟨ev', K⟩
    rw [mUp.no (by omega), mUp.no (by omega), mUp.no (by omega), mUp.no (by omega), mUp.no (by omega), mUp.no (by omega), mUp.no (by omega)]
    exact h.2.1.2 i hi
  · have e : tdy! y d = (-1, y) := if_neg (by omega)
    rw [e]; exact ⟨rfl, h⟩
theorem R_today {d : Int} (hw : mWF w) (hT : mT w μ) (h : K2R μ y) (k : K2X y) (hM : sMd (xS (yX y)) ≤ 2000000000) : WP_X12_today_W w μ d (fun z m => z = (tdy! y d).1 ∧ K2R m (tdy! y d).2) := by
  refine ⟨fun c v ev _ m1 u1 T1 => ?_, fun c => ?_⟩
  · obtain rfl := u1.is
    have e : tdy! y d = (yD y, rth! y (yR y) d) := if_pos c
    rw [e]
    have ev' : v = yD y := ev.symm.trans h.2.2
    have hg : gJ (mUp μ 106 17 d) := h.1.2.2.2.2.2.2.1.cg2 fun b i q => mUp.no (by omega)
    refine h.rth hw hT T1 k hM (fun b i q1 q2 => mUp.no (by omega)) hg ⟨by rw [mUp.no (by omega)]; exact h.2.1.1, fun i hi => ?_⟩ (mUp.yes ⟨rfl, rfl⟩) c k.2.1 fun m K => ⟨ev', K⟩
    rw [mUp.no (by omega), mUp.no (by omega), mUp.no (by omega), mUp.no (by omega), mUp.no (by omega), mUp.no (by omega), mUp.no (by omega)]
    exact h.2.1.2 i hi
  · have e : tdy! y d = (-1, y) := if_neg (by omega)
    rw [e]; exact ⟨rfl, h⟩
theorem X_today {d : Int} (k : K2X y) : k2S y (tdy! y d).2 := by
  by_cases c : 0 ≤ d
  · have e : tdy! y d = (yD y, rth! y (yR y) d) := if_pos c
    rw [e]; exact rth!.k2 k k.2.1 c
  · have e : tdy! y d = (-1, y) := if_neg c
    rw [e]; exact k2S.refl k
end Right
end
section
/-! Right, strike. -/
def addG (R : Rg) (p q d f t k : Int) : Rg := (gN R + 1, fun i => if i = gN R then p else gP R i, fun i => if i = gN R then q else gM R i, fun i => if i = gN R then d else gD R i, fun i => if i = gN R then f else gF R i, fun i => if i = gN R then t else gT R i, fun i => if i = gN R then k else gK R i, fun i => if i = gN R then -1 else gS R i)
def stkG (R : Rg) (r : Nat) (v : Int) : Rg := (gN R, gP R, gM R, gD R, gF R, gT R, gK R, fun i => if i = r then v else gS R i)
def rgtO (y : S2) (p q d f t k : Int) : Prop := (0 ≤ p ∧ p < (eP (xE (yX y)) : Int)) ∧ (0 ≤ d ∧ d < (eD (xE (yX y)) : Int)) ∧ (jL (xJ (yX y)) p.toNat ≤ q ∧ q ≤ 32) ∧ 0 ≤ f ∧ f < t ∧ 0 ≤ k
noncomputable def rgt! (y : S2) (p q d f t k : Int) : Int × S2 := cIf (rgtO y p q d f t k) (if gN (yR y) = 30 then (-3, y) else ((gN (yR y) : Int), rth! y (addG (yR y) p q d f t k) (yD y))) (-1, y)
def strO (y : S2) (r v : Int) : Prop := (0 ≤ r ∧ r < (gN (yR y) : Int)) ∧ gK (yR y) r.toNat ≤ v
noncomputable def str! (y : S2) (r v : Int) : Int × S2 := cIf (strO y r v) (if gS (yR y) r.toNat = -1 then (0, rth! y (stkG (yR y) r.toNat v) (yD y)) else (-2, y)) (-1, y)
theorem rgO.add {R : Rg} {n : Nat} {p q d f t k : Int} (h : rgO R n) (hn : ¬ gN R = 30) (hp : 0 ≤ p ∧ p < (n : Int)) (hk : 0 ≤ k) : rgO (addG R p q d f t k) n := by
  refine ⟨by have := h.1; show gN R + 1 ≤ 30; omega, fun i hi => ?_⟩
  have hi : i < gN R + 1 := hi
  show (0 ≤ (if i = gN R then p else gP R i) ∧ (if i = gN R then p else gP R i) < (n : Int)) ∧ 0 ≤ (if i = gN R then k else gK R i) ∧ ((if i = gN R then -1 else gS R i) = -1 ∨ 0 ≤ (if i = gN R then -1 else gS R i))
  by_cases c : i = gN R
  · rw [if_pos c, if_pos c, if_pos c]
    exact ⟨hp, hk, Or.inl rfl⟩
  · rw [if_neg c, if_neg c, if_neg c]
    exact h.2 i (by omega)
theorem rgO.stk {R : Rg} {n r : Nat} {v : Int} (h : rgO R n) (hv : 0 ≤ v) : rgO (stkG R r v) n := by
  refine ⟨h.1, fun i hi => ?_⟩
  obtain ⟨a, b, c⟩ := h.2 i hi
  refine ⟨a, b, ?_⟩
  show (if i = r then v else gS R i) = -1 ∨ 0 ≤ (if i = r then v else gS R i)
  by_cases e : i = r
  · rw [if_pos e]; exact Or.inr hv
  · rw [if_neg e]; exact c
theorem rgtC.add {μ m : mM} {R : Rg} {p q d f t k : Int} (h : rgtC μ R) (h17 : m 6 17 = (gN R : Int) + 1) (h14 : m 14 (gN R) = p) (h15 : m 15 (gN R) = q) (h16 : m 16 (gN R) = d) (ha : m 17 (gN R) = f) (h18 : m 18 (gN R) = t) (h19 : m 19 (gN R) = k) (h20 : m 20 (gN R) = -1) (fr : ∀ b i, 14 ≤ b → b ≤ 20 → ¬ i = gN R → m b i = μ b i) : rgtC m (addG R p q d f t k) := by
  refine ⟨by show m 6 17 = ((gN R + 1 : Nat) : Int); omega, fun i hi => ?_⟩
  have hi : i < gN R + 1 := hi
  show m 14 i = (if i = gN R then p else gP R i) ∧ m 15 i = (if i = gN R then q else gM R i) ∧ m 16 i = (if i = gN R then d else gD R i) ∧ m 17 i = (if i = gN R then f else gF R i) ∧ m 18 i = (if i = gN R then t else gT R i) ∧ m 19 i = (if i = gN R then k else gK R i) ∧ m 20 i = (if i = gN R then -1 else gS R i)
  by_cases c : i = gN R
  · rw [if_pos c, if_pos c, if_pos c, if_pos c, if_pos c, if_pos c, if_pos c, c]
    exact ⟨h14, h15, h16, ha, h18, h19, h20⟩
  · rw [if_neg c, if_neg c, if_neg c, if_neg c, if_neg c, if_neg c, if_neg c, fr 14 i (by omega) (by omega) c, fr 15 i (by omega) (by omega) c, fr 16 i (by omega) (by omega) c, fr 17 i (by omega) (by omega) c, fr 18 i (by omega) (by omega) c, fr 19 i (by omega) (by omega) c, fr 20 i (by omega) (by omega) c]
    exact h.2 i (by omega)
theorem rgtR.add {μ m : mM} {R : Rg} {p q d f t k : Int} (h : rgtR μ R) (h17 : m 106 18 = (gN R : Int) + 1) (h14 : m 119 (gN R) = p) (h15 : m 120 (gN R) = q) (h16 : m 121 (gN R) = d) (ha : m 122 (gN R) = f) (h18 : m 123 (gN R) = t) (h19 : m 124 (gN R) = k) (h20 : m 125 (gN R) = -99999999) (fr : ∀ b i, 119 ≤ b → b ≤ 125 → ¬ i = gN R → m b i = μ b i) : rgtR m (addG R p q d f t k) := by
  refine ⟨by show m 106 18 = ((gN R + 1 : Nat) : Int); omega, fun i hi => ?_⟩
  have hi : i < gN R + 1 := hi
  show m 119 i = (if i = gN R then p else gP R i) ∧ m 120 i = (if i = gN R then q else gM R i) ∧ m 121 i = (if i = gN R then d else gD R i) ∧ m 122 i = (if i = gN R then f else gF R i) ∧ m 123 i = (if i = gN R then t else gT R i) ∧ m 124 i = (if i = gN R then k else gK R i) ∧ m 125 i = (if (if i = gN R then -1 else gS R i) = -1 then -99999999 else (if i = gN R then -1 else gS R i))
  by_cases c : i = gN R
  · rw [if_pos c, if_pos c, if_pos c, if_pos c, if_pos c, if_pos c, if_pos c, if_pos rfl, c]
    exact ⟨h14, h15, h16, ha, h18, h19, h20⟩
  · rw [if_neg c, if_neg c, if_neg c, if_neg c, if_neg c, if_neg c, if_neg c, fr 119 i (by omega) (by omega) c, fr 120 i (by omega) (by omega) c, fr 121 i (by omega) (by omega) c, fr 122 i (by omega) (by omega) c, fr 123 i (by omega) (by omega) c, fr 124 i (by omega) (by omega) c, fr 125 i (by omega) (by omega) c]
    exact h.2 i (by omega)
section Right2
variable {w : mW} {μ : mM} {y : S2}
theorem C_right {p q d f t k : Int} (hw : mWF w) (hT : mT w μ) (h : K2C w μ y) (kx : K2X y) : WP_X11_right_W w μ p q d f t k (fun z m => z = (rgt! y p q d f t k).1 ∧ K2C w m (rgt! y p q d f t k).2) := by
  have ev := h.1.env hw hT kx.1
  have bad : ¬ rgtO y p q d f t k → -1 = (rgt! y p q d f t k).1 ∧ K2C w μ (rgt! y p q d f t k).2 := fun c => by
    have e : rgt! y p q d f t k = (-1, y) := cIf.neg c
    rw [e]; exact ⟨rfl, h⟩
  have p10 := kx.2.2.1.1
  intro _ _ _
  refine X11_isPrefix_s ev fun z hz rz => ⟨fun c => bad fun g => by have := hz.mpr g.1; omega, fun c _ _ _ => X11_isDomain_s ev fun v hv rv => ⟨fun c2 => bad fun g => by have := hv.mpr g.2.1; omega, fun c2 L eL rL => ?_⟩⟩
  have hp := hz.mp (by omega)
  have hd := hv.mp (by omega)
  have eL' : jL (xJ (yX y)) p.toNat = L := by rw [← eL]; exact ((h.1.2.1.2.1 p.toNat (by omega)).2).symm
  refine ⟨fun c3 => bad fun g => by have := g.2.2.1; omega, fun c3 => ⟨fun c4 => ⟨fun c5 => bad fun g => by have := g.2.2.2.1; omega, fun c5 => ⟨fun c6 => bad fun g => by have := g.2.2.2.2.1; omega, fun c6 => ⟨fun c7 n en rn => ⟨fun c8 => ?_, fun c8 => ?_⟩, fun c7 => bad fun g => by have := g.2.2.2.2.2; omega⟩⟩⟩, fun c4 => bad fun g => by have := g.2.2.1; omega⟩⟩
  · have ok : rgtO y p q d f t k := ⟨hp, hd, ⟨by omega, c4⟩, c5, c6, c7⟩
    have n1 := h.2.1.1
    have e : rgt! y p q d f t k = ((gN (yR y) : Int), rth! y (addG (yR y) p q d f t k) (yD y)) := (cIf.pos ok).trans (if_neg (by omega))
    rw [e]
    intro fr efr rfr m1 u1 _ m2 u2 _ m3 u3 _ m4 u4 _ m5 u5 _ m6 u6 _ m7 u7 _ m8 u8 _ T8 F8 _
    have en' : fr.toNat = gN (yR y) := by omega
    rw [en'] at u1 u2 u3 u4 u5 u6 u7
    obtain rfl := u1.is
    obtain rfl := u2.is
    obtain rfl := u3.is
    obtain rfl := u4.is
    obtain rfl := u5.is
    obtain rfl := u6.is
    obtain rfl := u7.is
    obtain rfl := u8.is
    refine h.rth hw T8 kx (mF.refl.call F8 rfl) (fun b i q1 q2 => ?_) (h.2.1.add ?_ ?_ ?_ ?_ ?_ ?_ ?_ ?_ fun b i q1 q2 q3 => ?_) ?_ (kx.2.1.add (by omega) hp c7) fun m K => ⟨?_, K⟩
    · rw [mUp.no (by omega), mUp.no (by omega), mUp.no (by omega), mUp.no (by omega), mUp.no (by omega), mUp.no (by omega), mUp.no (by omega), mUp.no (by omega)]
    · rw [mUp.yes ⟨rfl, rfl⟩]; omega
    · rw [mUp.no (by omega), mUp.no (by omega), mUp.no (by omega), mUp.no (by omega), mUp.no (by omega), mUp.no (by omega), mUp.no (by omega), mUp.yes ⟨rfl, rfl⟩]
    · rw [mUp.no (by omega), mUp.no (by omega), mUp.no (by omega), mUp.no (by omega), mUp.no (by omega), mUp.no (by omega), mUp.yes ⟨rfl, rfl⟩]
    · rw [mUp.no (by omega), mUp.no (by omega), mUp.no (by omega), mUp.no (by omega), mUp.no (by omega), mUp.yes ⟨rfl, rfl⟩]
    · rw [mUp.no (by omega), mUp.no (by omega), mUp.no (by omega), mUp.no (by omega), mUp.yes ⟨rfl, rfl⟩]
    · rw [mUp.no (by omega), mUp.no (by omega), mUp.no (by omega), mUp.yes ⟨rfl, rfl⟩]
    · rw [mUp.no (by omega), mUp.no (by omega), mUp.yes ⟨rfl, rfl⟩]
    · rw [mUp.no (by omega), mUp.yes ⟨rfl, rfl⟩]
    · rw [mUp.no (by omega), mUp.no (by omega), mUp.no (by omega), mUp.no (by omega), mUp.no (by omega), mUp.no (by omega), mUp.no (by omega), mUp.no (by omega)]
    · rw [mUp.no (by omega), mUp.no (by omega), mUp.no (by omega), mUp.no (by omega), mUp.no (by omega), mUp.no (by omega), mUp.no (by omega), mUp.no (by omega)]
      exact h.2.2.1
    · show fr + 1 - 1 = (gN (yR y) : Int)
      omega
  · have ok : rgtO y p q d f t k := ⟨hp, hd, ⟨by omega, c4⟩, c5, c6, c7⟩
    have n1 := h.2.1.1
    have n2 := kx.2.1.1
    have e : rgt! y p q d f t k = (-3, y) := (cIf.pos ok).trans (if_pos (by omega))
    rw [e]; exact ⟨rfl, h⟩
theorem R_right {p q d f t k : Int} (hw : mWF w) (hT : mT w μ) (h : K2R μ y) (kx : K2X y) (hM : sMd (xS (yX y)) ≤ 2000000000) : WP_X12_right_W w μ p q d f t k (fun z m => z = (rgt! y p q d f t k).1 ∧ K2R m (rgt! y p q d f t k).2) := by
  have ev := h.1.env (w := w) hw kx.1
  have bad : ¬ rgtO y p q d f t k → -1 = (rgt! y p q d f t k).1 ∧ K2R μ (rgt! y p q d f t k).2 := fun c => by
    have e : rgt! y p q d f t k = (-1, y) := cIf.neg c
    rw [e]; exact ⟨rfl, h⟩
  have p10 := kx.2.2.1.1
  intro _ _ _
  refine X12_isPrefix_s ev fun z hz rz => ⟨fun c => bad fun g => by have := hz.mpr g.1; omega, fun c _ _ _ => X12_isDomain_s ev fun v hv rv => ⟨fun c2 => bad fun g => by have := hv.mpr g.2.1; omega, fun c2 L eL rL => X12_in_s fun u hu ru => ⟨fun c3 => bad fun g => ?_, fun c3 => ⟨fun c5 => bad fun g => by have := g.2.2.2.1; omega, fun c5 => ⟨fun c6 => bad fun g => by have := g.2.2.2.2.1; omega, fun c6 => ⟨fun c7 n en rn => ⟨fun c8 m1 u1 _ m2 u2 _ m3 u3 _ m4 u4 _ m5 u5 _ m6 u6 _ m7 u7 _ m8 u8 _ m9 u9 T9 => ?_, fun c8 => ?_⟩, fun c7 => bad fun g => by have := g.2.2.2.2.2; omega⟩⟩⟩⟩⟩⟩
  · have hp := hz.mp (by omega)
    have eL' : jL (xJ (yX y)) p.toNat = L := by rw [← eL]; exact ((h.1.2.1.2.1 p.toNat (by omega)).2).symm
    have := hu.mpr (by have := g.2.2.1; omega)
    omega
  · have hp := hz.mp (by omega)
    have hd := hv.mp (by omega)
    have hq := hu.mp (by omega)
    have eL' : jL (xJ (yX y)) p.toNat = L := by rw [← eL]; exact ((h.1.2.1.2.1 p.toNat (by omega)).2).symm
    have ok : rgtO y p q d f t k := ⟨hp, hd, ⟨by omega, by omega⟩, c5, c6, c7⟩
    have n1 := h.2.1.1
    have e : rgt! y p q d f t k = ((gN (yR y) : Int), rth! y (addG (yR y) p q d f t k) (yD y)) := (cIf.pos ok).trans (if_neg (by omega))
    rw [e]
    have en' : n.toNat = gN (yR y) := by omega
    rw [en'] at u1 u2 u3 u4 u5 u6 u7
    obtain rfl := u1.is
    obtain rfl := u2.is
    obtain rfl := u3.is
    obtain rfl := u4.is
    obtain rfl := u5.is
    obtain rfl := u6.is
    obtain rfl := u7.is
    obtain rfl := u8.is
    obtain rfl := u9.is
    refine h.rth hw hT T9 kx hM (fun b i q1 q2 => ?_) ⟨fun c => absurd (mUp.yes ⟨rfl, rfl⟩) c, fun r hr => ?_⟩ (h.2.1.add ?_ ?_ ?_ ?_ ?_ ?_ ?_ ?_ fun b i q1 q2 q3 => ?_) ?_ kx.2.2.2.1 (kx.2.1.add (by omega) hp c7) fun m K => ⟨?_, K⟩
    · rw [mUp.no (by omega), mUp.no (by omega), mUp.no (by omega), mUp.no (by omega), mUp.no (by omega), mUp.no (by omega), mUp.no (by omega), mUp.no (by omega), mUp.no (by omega)]
    · rw [mUp.no (by omega), mUp.yes ⟨rfl, rfl⟩] at hr
      rw [mUp.no (by omega), mUp.no (by omega), mUp.no (by omega), mUp.no (by omega), mUp.no (by omega), mUp.no (by omega), mUp.no (by omega), mUp.no (by omega)]
      have e2 : mUp (mUp (mUp (mUp (mUp (mUp (mUp (mUp (mUp μ 119 (gN (yR y)) p) 120 (gN (yR y)) q) 121 (gN (yR y)) d) 122 (gN (yR y)) f) 123 (gN (yR y)) t) 124 (gN (yR y)) k) 125 (gN (yR y)) (-99999999)) 106 18 (n + 1)) 106 26 0 106 2 = μ 106 2 := by
        rw [mUp.no (by omega), mUp.no (by omega), mUp.no (by omega), mUp.no (by omega), mUp.no (by omega), mUp.no (by omega), mUp.no (by omega), mUp.no (by omega), mUp.no (by omega)]
      rw [e2]
      by_cases c9 : r = gN (yR y)
      · rw [mUp.yes ⟨rfl, c9⟩, h.1.1.2.1]; exact hp
      · rw [mUp.no (by omega)]
        exact h.1.2.2.2.2.2.2.1.2 r (by omega)
    · rw [mUp.no (by omega), mUp.yes ⟨rfl, rfl⟩]; omega
    · rw [mUp.no (by omega), mUp.no (by omega), mUp.no (by omega), mUp.no (by omega), mUp.no (by omega), mUp.no (by omega), mUp.no (by omega), mUp.no (by omega), mUp.yes ⟨rfl, rfl⟩]
    · rw [mUp.no (by omega), mUp.no (by omega), mUp.no (by omega), mUp.no (by omega), mUp.no (by omega), mUp.no (by omega), mUp.no (by omega), mUp.yes ⟨rfl, rfl⟩]
    · rw [mUp.no (by omega), mUp.no (by omega), mUp.no (by omega), mUp.no (by omega), mUp.no (by omega), mUp.no (by omega), mUp.yes ⟨rfl, rfl⟩]
    · rw [mUp.no (by omega), mUp.no (by omega), mUp.no (by omega), mUp.no (by omega), mUp.no (by omega), mUp.yes ⟨rfl, rfl⟩]
    · rw [mUp.no (by omega), mUp.no (by omega), mUp.no (by omega), mUp.no (by omega), mUp.yes ⟨rfl, rfl⟩]
    · rw [mUp.no (by omega), mUp.no (by omega), mUp.no (by omega), mUp.yes ⟨rfl, rfl⟩]
    · rw [mUp.no (by omega), mUp.no (by omega), mUp.yes ⟨rfl, rfl⟩]
    · rw [mUp.no (by omega), mUp.no (by omega), mUp.no (by omega), mUp.no (by omega), mUp.no (by omega), mUp.no (by omega), mUp.no (by omega), mUp.no (by omega), mUp.no (by omega)]
    · rw [mUp.no (by omega), mUp.no (by omega), mUp.no (by omega), mUp.no (by omega), mUp.no (by omega), mUp.no (by omega), mUp.no (by omega), mUp.no (by omega), mUp.no (by omega)]
      exact h.2.2
    · show n + 1 - 1 = (gN (yR y) : Int)
      omega
  · have hp := hz.mp (by omega)
    have hd := hv.mp (by omega)
    have hq := hu.mp (by omega)
    have eL' : jL (xJ (yX y)) p.toNat = L := by rw [← eL]; exact ((h.1.2.1.2.1 p.toNat (by omega)).2).symm
    have ok : rgtO y p q d f t k := ⟨hp, hd, ⟨by omega, by omega⟩, c5, c6, c7⟩
    have n1 := h.2.1.1
    have e : rgt! y p q d f t k = (-3, y) := (cIf.pos ok).trans (if_pos (by omega))
    rw [e]; exact ⟨rfl, h⟩
theorem X_right {p q d f t k : Int} (kx : K2X y) : k2S y (rgt! y p q d f t k).2 := by
  by_cases c : rgtO y p q d f t k
  · by_cases c2 : gN (yR y) = 30
    · have e : rgt! y p q d f t k = (-3, y) := (cIf.pos c).trans (if_pos c2)
      rw [e]; exact k2S.refl kx
    · have e : rgt! y p q d f t k = ((gN (yR y) : Int), rth! y (addG (yR y) p q d f t k) (yD y)) := (cIf.pos c).trans (if_neg c2)
      rw [e]; exact rth!.k2 kx (kx.2.1.add c2 c.1 c.2.2.2.2.2) kx.2.2.2.1
  · have e : rgt! y p q d f t k = (-1, y) := cIf.neg c
    rw [e]; exact k2S.refl kx
theorem C_strike {r v : Int} (hw : mWF w) (h : K2C w μ y) (kx : K2X y) : WP_X11_strike_W w μ r v (fun z m => z = (str! y r v).1 ∧ K2C w m (str! y r v).2) := by
  have bad : ¬ strO y r v → -1 = (str! y r v).1 ∧ K2C w μ (str! y r v).2 := fun c => by
    have e : str! y r v = (-1, y) := cIf.neg c
    rw [e]; exact ⟨rfl, h⟩
  have n1 := h.2.1.1
  refine ⟨fun c => bad fun g => by have := g.1; omega, fun c n en rn => ⟨fun c2 => bad fun g => by have := g.1; omega, fun c2 a ea ra => ?_⟩⟩
  obtain ⟨rN, hrN⟩ : ∃ rN : Nat, r = (rN : Int) := ⟨r.toNat, by omega⟩
  subst hrN
  have hr : rN < gN (yR y) := by omega
  obtain ⟨a1, a2, a3, a4, a5, a6, a7⟩ := h.2.1.2 rN hr
  rw [Int.toNat_natCast, a6] at ea
  refine ⟨fun c3 b eb rb => ?_, fun c3 => bad fun g => by have := g.2; rw [Int.toNat_natCast] at this; omega⟩
  have ok : strO y (rN : Int) v := ⟨⟨c, by omega⟩, by rw [Int.toNat_natCast]; omega⟩
  rw [Int.toNat_natCast, a7] at eb
  refine ⟨fun c4 m1 u1 T1 => ?_, fun c4 => ?_⟩
  · rw [Int.toNat_natCast] at u1
    obtain rfl := u1.is
    have e : str! y (rN : Int) v = (0, rth! y (stkG (yR y) rN v) (yD y)) := (cIf.pos ok).trans (if_pos (by rw [Int.toNat_natCast]; omega))
    rw [e]
    have F1 : mF lVC w μ (mUp μ 20 rN v) := mF.refl.up (A_20 hw) mUp_ok rfl
    have k0 := (kx.2.1.2 rN hr).2.1
    refine h.rth hw T1 kx F1 (fun b i q1 q2 => mUp.no (by omega)) ⟨by rw [mUp.no (by omega)]; exact n1, fun i hi => ?_⟩ (by rw [mUp.no (by omega)]; exact h.2.2.1) (kx.2.1.stk (by omega)) fun m K => ⟨rfl, K⟩
    have hi : i < gN (yR y) := hi
    obtain ⟨b1, b2, b3, b4, b5, b6, b7⟩ := h.2.1.2 i hi
    refine ⟨by rw [mUp.no (by omega)]; exact b1, by rw [mUp.no (by omega)]; exact b2, by rw [mUp.no (by omega)]; exact b3, by rw [mUp.no (by omega)]; exact b4, by rw [mUp.no (by omega)]; exact b5, by rw [mUp.no (by omega)]; exact b6, ?_⟩
    show mUp μ 20 rN v 20 i = if i = rN then v else gS (yR y) i
    by_cases ci : i = rN
    · rw [if_pos ci, mUp.yes ⟨rfl, ci⟩]
    · rw [if_neg ci, mUp.no (by omega)]; exact b7
  · have e : str! y (rN : Int) v = (-2, y) := (cIf.pos ok).trans (if_neg (by rw [Int.toNat_natCast]; omega))
    rw [e]; exact ⟨rfl, h⟩
theorem R_strike {r v : Int} (hw : mWF w) (hT : mT w μ) (h : K2R μ y) (kx : K2X y) (hM : sMd (xS (yX y)) ≤ 2000000000) : WP_X12_strike_W w μ r v (fun z m => z = (str! y r v).1 ∧ K2R m (str! y r v).2) := by
  have bad : ¬ strO y r v → -1 = (str! y r v).1 ∧ K2R μ (str! y r v).2 := fun c => by
    have e : str! y r v = (-1, y) := cIf.neg c
    rw [e]; exact ⟨rfl, h⟩
  have n1 := h.2.1.1
  intro n en rn
  refine X12_in_s fun z hz rz => ⟨fun c => bad fun g => by have := hz.mpr (by have := g.1; omega); omega, fun c a ea ra => ?_⟩
  have c := hz.mp (by omega)
  obtain ⟨rN, hrN⟩ : ∃ rN : Nat, r = (rN : Int) := ⟨r.toNat, by omega⟩
  subst hrN
  have hr : rN < gN (yR y) := by omega
  obtain ⟨a1, a2, a3, a4, a5, a6, a7⟩ := h.2.1.2 rN hr
  obtain ⟨o1, o2, o3⟩ := kx.2.1.2 rN hr
  rw [Int.toNat_natCast, a6] at ea
  refine ⟨fun c3 b eb rb => ?_, fun c3 => bad fun g => by have := g.2; rw [Int.toNat_natCast] at this; omega⟩
  have ok : strO y (rN : Int) v := ⟨⟨c.1, by omega⟩, by rw [Int.toNat_natCast]; omega⟩
  rw [Int.toNat_natCast, a7] at eb
  have bq : b = -99999999 ↔ gS (yR y) rN = -1 := by
    by_cases cc : gS (yR y) rN = -1
    · rw [if_pos cc] at eb
      exact ⟨fun _ => cc, fun _ => eb.symm⟩
    · rw [if_neg cc] at eb
      exact ⟨fun q => by omega, fun q => absurd q cc⟩
  refine ⟨fun c4 m1 u1 _ m2 u2 T2 => ?_, fun c4 => ?_⟩
  · rw [Int.toNat_natCast] at u1
    obtain rfl := u1.is
    obtain rfl := u2.is
    have e : str! y (rN : Int) v = (0, rth! y (stkG (yR y) rN v) (yD y)) := (cIf.pos ok).trans (if_pos (by rw [Int.toNat_natCast]; exact bq.mp c4))
    rw [e]
    refine h.rth hw hT T2 kx hM (fun b i q1 q2 => ?_) ⟨fun c => absurd (mUp.yes ⟨rfl, rfl⟩) c, fun r hr => ?_⟩ ⟨by rw [mUp.no (by omega), mUp.no (by omega)]; exact n1, fun i hi => ?_⟩ (by rw [mUp.no (by omega), mUp.no (by omega)]; exact h.2.2) kx.2.2.2.1 (kx.2.1.stk (by omega)) fun m K => ⟨rfl, K⟩
    · rw [mUp.no (by omega), mUp.no (by omega)]
    · rw [mUp.no (by omega), mUp.no (by omega)] at hr
      rw [mUp.no (by omega), mUp.no (by omega), mUp.no (by omega), mUp.no (by omega)]
      exact h.1.2.2.2.2.2.2.1.2 r hr
    · have hi : i < gN (yR y) := hi
      obtain ⟨b1, b2, b3, b4, b5, b6, b7⟩ := h.2.1.2 i hi
      refine ⟨by rw [mUp.no (by omega), mUp.no (by omega)]; exact b1, by rw [mUp.no (by omega), mUp.no (by omega)]; exact b2, by rw [mUp.no (by omega), mUp.no (by omega)]; exact b3, by rw [mUp.no (by omega), mUp.no (by omega)]; exact b4, by rw [mUp.no (by omega), mUp.no (by omega)]; exact b5, by rw [mUp.no (by omega), mUp.no (by omega)]; exact b6, ?_⟩
      show mUp (mUp μ 125 rN v) 106 26 0 125 i = if (if i = rN then v else gS (yR y) i) = -1 then -99999999 else (if i = rN then v else gS (yR y) i)
      by_cases ci : i = rN
      · rw [if_pos ci, if_neg (by omega), mUp.no (by omega), mUp.yes ⟨rfl, ci⟩]
      · rw [if_neg ci, mUp.no (by omega), mUp.no (by omega)]; exact b7
  · have e : str! y (rN : Int) v = (-2, y) := (cIf.pos ok).trans (if_neg (by rw [Int.toNat_natCast]; exact fun q => c4 (bq.mpr q)))
    rw [e]; exact ⟨rfl, h⟩
theorem X_strike {r v : Int} (kx : K2X y) : k2S y (str! y r v).2 := by
  by_cases c : strO y r v
  · by_cases c2 : gS (yR y) r.toNat = -1
    · have e : str! y r v = (0, rth! y (stkG (yR y) r.toNat v) (yD y)) := (cIf.pos c).trans (if_pos c2)
      rw [e]
      have hr : r.toNat < gN (yR y) := by have := c.1; omega
      exact rth!.k2 kx (kx.2.1.stk (by have := c.2; have := (kx.2.1.2 r.toNat hr).2.1; omega)) kx.2.2.2.1
    · have e : str! y r v = (-2, y) := (cIf.pos c).trans (if_neg c2)
      rw [e]; exact k2S.refl kx
  · have e : str! y r v = (-1, y) := cIf.neg c
    rw [e]; exact k2S.refl kx
end Right2
end
section
/-! A route into the hand; the pace of a tie. -/
def rteO (E : En) (p v o c : Int) : Prop := (0 ≤ p ∧ p < (eP E : Int)) ∧ (0 ≤ v ∧ v ≤ 1000) ∧ (0 ≤ o ∧ o ≤ 2) ∧ (0 ≤ c ∧ c ≤ 1000000)
noncomputable def rte! (W : List Int) (x : St) (p v o c : Int) : Int × St := cIf (rteO (xE x) p v o c) (0, xE x, xJ x, xS x, some (p, v, o, c, W, []), xM x) (-1, x)
def lRC : List Nat := [200002, 200003, 200004, 200005, 200006, 200007, 200008, 201999]
section Rte
variable {w : mW} {μ : mM} {x : St}
theorem C_route {W : List Int} {p v o c : Int} (hw : mWF w) (hT : mT w μ) (h : KCl w μ x) (k : KX x) (hW : rowL (μ 2) (μ 0 11).toNat = W) : WP_X11_route_W w μ p v o c (fun z m => z = (rte! W x p v o c).1 ∧ (mF lRC w μ m → KCl w m (rte! W x p v o c).2)) := by
  have ev := h.env hw hT k
  have bad : ¬ rteO (xE x) p v o c → -1 = (rte! W x p v o c).1 ∧ (mF lRC w μ μ → KCl w μ (rte! W x p v o c).2) := fun q => by
    have e : rte! W x p v o c = (-1, x) := cIf.neg q
    rw [e]; exact ⟨rfl, fun _ => h⟩
  intro _ _ _
  refine X11_isPrefix_s ev fun z hz rz => ⟨fun c1 => bad fun g => by have := hz.mpr g.1; omega, fun c1 => ⟨fun c2 => bad fun g => by have := g.2.1; omega, fun c2 => ⟨fun c3 => ⟨fun c4 => bad fun g => by have := g.2.2.1; omega, fun c4 => ⟨fun c5 => bad fun g => by have := g.2.2.1; omega, fun c5 => ⟨fun c6 => bad fun g => by have := g.2.2.2; omega, fun c6 => ⟨fun c7 => X7_begin_s fun m1 hr o1 T1 F1 m2 u2 T2 m3 u3 T3 n en rn m4 cp T4 m5 u5 T5 => ?_, fun c7 => bad fun g => by have := g.2.2.2; omega⟩⟩⟩⟩, fun c3 => bad fun g => by have := g.2.1; omega⟩⟩⟩
  have ok : rteO (xE x) p v o c := ⟨hz.mp (by omega), ⟨c2, c3⟩, ⟨c4, c5⟩, c6, c7⟩
  have e : rte! W x p v o c = (0, xE x, xJ x, xS x, some (p, v, o, c, W, []), xM x) := cIf.pos ok
  rw [e]
  refine ⟨rfl, fun F => ?_⟩
  obtain rfl := u2.is
  obtain rfl := u3.is
  obtain rfl := u5.is
  obtain ⟨g2, eq⟩ := rtC.get hr
  have e3 : p = m1 3 3 := congrArg Prod.fst eq
  have e5 : o = m1 3 5 := congrArg (fun r : Rt => r.2.2.1) eq
  have e8 : ([] : List Int) = rowL (m1 (3 + 2)) (m1 3 8).toNat := congrArg (fun r : Rt => r.2.2.2.2.2) eq
  have l8 : (m1 3 8).toNat = 0 := by
    have := congrArg List.length e8
    rw [rowL.len] at this
    exact this.symm
  have fm : ∀ b i, ¬ (3 ≤ b ∧ b ≤ 5) → mUp m4 3 7 n b i = μ b i := fun b i q => by
    rw [mUp.no (by omega), cp.1 b i (by omega), mUp.no (by omega), mUp.no (by omega)]
    exact o1 b i (by omega) (by omega) (by omega)
  have f3 : ∀ i, ¬ i = 7 → mUp m4 3 7 n 3 i = mUp (mUp m1 3 4 v) 3 6 c 3 i := fun i q => by rw [mUp.no (by omega), cp.1 3 i (by omega)]
  have en' : μ 0 11 = n := by
    rw [← en, mUp.no (by omega), mUp.no (by omega), o1 0 11 (by omega) (by omega) (by omega)]
  refine h.hand (fun b i q1 _ => fm b i q1) (fun b hb => funext fun i => fm b i (by omega)) ?_ (h.2.1.fr hw (mF.refl.call F rfl))
  have t2 : ¬ mUp m4 3 7 n 3 2 = 0 := by
    rw [f3 2 (by decide), mUp.no (by omega), mUp.no (by omega)]; exact g2
  rw [rtC.the t2, f3 3 (by decide), f3 4 (by decide), f3 5 (by decide), f3 6 (by decide), f3 8 (by decide), mUp.yes (μ := m4) ⟨rfl, rfl⟩, mUp.no (by omega), mUp.no (by omega), mUp.no (by omega), mUp.yes (μ := m1) ⟨rfl, rfl⟩, mUp.no (by omega), mUp.no (by omega), mUp.yes ⟨rfl, rfl⟩, mUp.no (by omega), mUp.no (by omega), ← e3, ← e5, l8]
  have rw1 : rowL (mUp m4 3 7 n (3 + 1)) n.toNat = W := by
    rw [← hW, en']
    refine rowL.ext fun i hi => ?_
    rw [mUp.no (by omega), cp.2 i, if_pos (by omega)]
    show mUp (mUp m1 3 4 v) 3 6 c 2 (0 + (i - 0)) = μ 2 i
    rw [Nat.sub_zero, Nat.zero_add, mUp.no (by omega), mUp.no (by omega)]
    exact o1 2 i (by omega) (by omega) (by omega)
  rw [rw1]
  rfl
theorem R_route {W : List Int} {p v o c : Int} (hw : mWF w) (hT : mT w μ) (h : KRf μ x) (k : KX x) (hW : rowL (μ 118) (μ 106 15).toNat = W) : WP_X12_route_W w μ p v o c (fun z m => z = (rte! W x p v o c).1 ∧ KRf m (rte! W x p v o c).2) := by
  have ev := h.env (w := w) hw k
  have bad : ¬ rteO (xE x) p v o c → -1 = (rte! W x p v o c).1 ∧ KRf μ (rte! W x p v o c).2 := fun q => by
    have e : rte! W x p v o c = (-1, x) := cIf.neg q
    rw [e]; exact ⟨rfl, h⟩
  intro _ _ _
  refine X12_isPrefix_s ev fun z hz rz => ⟨fun c1 => bad fun g => by have := hz.mpr g.1; omega, fun c1 => X12_in_s fun y hy ry => ⟨fun c2 => bad fun g => by have := hy.mpr g.2.1; omega, fun c2 => X12_in_s fun u hu ru => ⟨fun c3 => bad fun g => by have := hu.mpr g.2.2.1; omega, fun c3 => X12_in_s fun s hs rs => ⟨fun c4 m1 u1 T1 m2 u2 T2 m3 u3 T3 m4 u4 T4 n en rn m5 u5 T5 m6 u6 T6 => ?_, fun c4 => bad fun g => by have := hs.mpr g.2.2.2; omega⟩⟩⟩⟩
  have ok : rteO (xE x) p v o c := ⟨hz.mp (by omega), hy.mp (by omega), hu.mp (by omega), hs.mp (by omega)⟩
  have e : rte! W x p v o c = (0, xE x, xJ x, xS x, some (p, v, o, c, W, []), xM x) := cIf.pos ok
  rw [e]
  rw [show (0 : Int).toNat = 0 from rfl] at u1
  rw [show (1 : Int).toNat = 1 from rfl] at u2
  rw [show (2 : Int).toNat = 2 from rfl] at u3
  rw [show (3 : Int).toNat = 3 from rfl] at u4
  rw [show (4 : Int).toNat = 4 from rfl] at u5
  rw [show (5 : Int).toNat = 5 from rfl] at u6
  obtain rfl := u1.is
  obtain rfl := u2.is
  obtain rfl := u3.is
  obtain rfl := u4.is
  obtain rfl := u5.is
  obtain rfl := u6.is
  have en' : μ 106 15 = n := by
    rw [← en, mUp.no (by omega), mUp.no (by omega), mUp.no (by omega), mUp.no (by omega)]
  have b0 : ∀ m : mM, (∀ b i, ¬ (b = 126 ∧ 6 ≤ i ∧ i < 26) → m b i = mUp (mUp (mUp (mUp (mUp (mUp μ 126 0 p) 126 1 v) 126 2 o) 126 3 c) 126 4 n) 126 5 0 b i) → m 126 0 = p ∧ m 126 1 = v ∧ m 126 2 = o ∧ m 126 3 = c ∧ m 126 4 = n ∧ m 126 5 = 0 ∧ ∀ b i, ¬ (b = 126 ∧ i < 40) → m b i = μ b i := fun m f => by
    refine ⟨?_, ?_, ?_, ?_, ?_, ?_, fun b i q => ?_⟩
    · rw [f _ _ (by omega), mUp.no (by omega), mUp.no (by omega), mUp.no (by omega), mUp.no (by omega), mUp.no (by omega), mUp.yes ⟨rfl, rfl⟩]
    · rw [f _ _ (by omega), mUp.no (by omega), mUp.no (by omega), mUp.no (by omega), mUp.no (by omega), mUp.yes ⟨rfl, rfl⟩]
    · rw [f _ _ (by omega), mUp.no (by omega), mUp.no (by omega), mUp.no (by omega), mUp.yes ⟨rfl, rfl⟩]
    · rw [f _ _ (by omega), mUp.no (by omega), mUp.no (by omega), mUp.yes ⟨rfl, rfl⟩]
    · rw [f _ _ (by omega), mUp.no (by omega), mUp.yes ⟨rfl, rfl⟩]
    · rw [f _ _ (by omega), mUp.yes ⟨rfl, rfl⟩]
    · rw [f _ _ (by omega), mUp.no (by omega), mUp.no (by omega), mUp.no (by omega), mUp.no (by omega), mUp.no (by omega), mUp.no (by omega)]
  refine loopF.im (fun i m => 0 ≤ i ∧ i ≤ n ∧ (∀ j : Nat, (j : Int) < i → m 126 (6 + j) = μ 118 j) ∧ ∀ b j, ¬ (b = 126 ∧ 6 ≤ j ∧ j < 26) → m b j = mUp (mUp (mUp (mUp (mUp (mUp μ 126 0 p) 126 1 v) 126 2 o) 126 3 c) 126 4 n) 126 5 0 b j) (fun i => (21 - i).toNat) ⟨by omega, by omega, fun j hj => by omega, fun _ _ _ => rfl⟩ (by omega) ?_
  rintro rc i m ⟨i0, i1, hj, fm⟩ ih i' m' ee ri T F
  cases ee
  obtain ⟨a0, a1, a2, a3, a4, a5, fr⟩ := b0 m fm
  refine ⟨fun g m7 u7 T7 => ?_, fun g y2 ey2 _ m7 u7 T7 => ?_⟩
  · obtain rfl := u7.is
    have ei : i = n := by omega
    subst ei
    refine ⟨rfl, h.hand hw hT (fun b j q1 q2 q3 => by rw [mUp.no (by omega)]; exact fr b j q1) (h.2.2.2.2.2.2.1.cg fun b j hb => by rw [mUp.no (by omega)]; exact fr b j (by omega)) ?_ (fun e => by cases e)⟩
    have q : ∀ j, mUp m 106 70 1 126 j = m 126 j := fun j => mUp.no (by omega)
    unfold haR
    rw [mUp.yes ⟨rfl, rfl⟩, if_neg (by decide)]
    have t0 : ¬ mUp m 106 70 1 126 (40 * (0 : Int)).toNat < 0 := by
      rw [q]
      show ¬ m 126 0 < 0
      rw [a0]
      have := ok.1
      omega
    rw [rtR.the t0]
    show some (mUp m 106 70 1 126 0, mUp m 106 70 1 126 1, mUp m 106 70 1 126 2, mUp m 106 70 1 126 3, rowL (fun k => mUp m 106 70 1 126 (40 * (0 : Int) + 6 + (k : Int)).toNat) (mUp m 106 70 1 126 4).toNat, rowL (fun k => mUp m 106 70 1 126 (40 * (0 : Int) + 26 + (k : Int)).toNat) (mUp m 106 70 1 126 5).toNat) = some (p, v, o, c, W, [])
    rw [q, q, q, q, q, q, a0, a1, a2, a3, a4, a5]
    have rw1 : rowL (fun k => mUp m 106 70 1 126 (40 * (0 : Int) + 6 + (k : Int)).toNat) i.toNat = W := by
      rw [← hW, en']
      refine rowL.ext fun j hj2 => ?_
      rw [q, show (40 * (0 : Int) + 6 + (j : Int)).toNat = 6 + j by omega]
      exact hj j (by omega)
    rw [rw1]
    rfl
  · obtain rfl := u7.is
    have ey : μ 118 i.toNat = y2 := by
      rw [← ey2, fr 118 _ (by omega)]
    refine ih _ _ ⟨by omega, by omega, fun j hj2 => ?_, fun b j q => by rw [mUp.no (by omega)]; exact fm b j q⟩ (by omega)
    by_cases cj : (j : Int) = i
    · rw [mUp.yes ⟨rfl, by omega⟩, ← ey, show i.toNat = j by omega]
    · rw [mUp.no (by omega)]; exact hj j (by omega)
theorem X_route {W : List Int} {p v o c : Int} (k : KX x) (hW : W.length ≤ 20) : kxS x (rte! W x p v o c).2 := by
  by_cases q : rteO (xE x) p v o c
  · have e : rte! W x p v o c = (0, xE x, xJ x, xS x, some (p, v, o, c, W, []), xM x) := cIf.pos q
    rw [e]
    refine k.hand fun r er => ?_
    rw [← Option.some.inj er]
    obtain ⟨q1, q2, q3, q4⟩ := q
    exact ⟨p.toNat, by omega, by show p = ((p.toNat : Nat) : Int); omega, List.Pairwise.nil, hW, Nat.zero_le _, q2, q3, q4⟩
  · have e : rte! W x p v o c = (-1, x) := cIf.neg q
    rw [e]; exact kxS.refl k
end Rte
theorem X_judge {n p d q : Int} {x : St} (k : KX x) : kxS x (jdg! n x p d q).2 := by
  by_cases c : jdgO (xE x) n p d q
  · cases e : xO x with
    | none => rw [jdg!.none' c e]; exact kxS.refl k
    | some r =>
      rw [jdg!.some' c e]
      refine k.hand fun r1 e1 => ?_
      rw [← Option.some.inj e1]
      obtain ⟨p0, a, b⟩ := k.2.2.2.2.2.1.1 r e
      rw [k.2.2.2.2.1]
      exact ⟨p0, a, thJ.good (r := r) k.2.2.1 k.2.2.2.1 (fun r2 e2 => by rw [← Option.some.inj e2]; exact b) _ rfl⟩
  · have e : jdg! n x p d q = (-1, x) := cIf.neg c
    rw [e]; exact kxS.refl k
def pacO (E : En) (t a b : Int) : Prop := (0 ≤ t ∧ t < (eT E : Int)) ∧ (1 ≤ a ∧ a ≤ 1000) ∧ (0 ≤ b ∧ b ≤ 1000)
def pc! (E : En) (t : Nat) (a b : Int) : En := (eT E, eA E, eB E, eU E, fun i => if i = t then a else eL E i, fun i => if i = t then b else eG E i, ePl E, eTh E, eOw E, eSt E, eGr E, eP E, eD E)
noncomputable def pac! (x : St) (t a b : Int) : Int × St := cIf (pacO (xE x) t a b) (0, pc! (xE x) t.toNat a b, xJ x, xS x, xH x) (-1, x)
section Pace
variable {w : mW} {μ : mM} {x : St}
theorem KCl.pace {t : Nat} {a b : Int} (hw : mWF w) (hT : mT w μ) (h : KCl w μ x) (ht : t < eT (xE x)) : KCl w (mUp (mUp μ (tbA μ t) 7 a) (tbA μ t) 8 b) (pc! (xE x) t a b, xJ x, xS x, xH x) := by
  have hA : mAt w (tbA μ t) 220 := KCl.at (x := x) hw hT h.1 ht
  have F : mF lLC w μ (mUp (mUp μ (tbA μ t) 7 a) (tbA μ t) 8 b) := (mF.refl.up hA mUp_ok rfl).up hA mUp_ok rfl
  have jg := h.2.1.fr hw F
  obtain ⟨⟨h1, h2, h3, ⟨l1, l2, l3, l4, l5, l6⟩, h5, h6⟩, _, rl, pl, sn, hh⟩ := h
  have big := (l1 t ht).2.1
  have f : ∀ c i, ¬ (c = tbA μ t ∧ (i = 7 ∨ i = 8)) → mUp (mUp μ (tbA μ t) 7 a) (tbA μ t) 8 b c i = μ c i := fun c i q => by rw [mUp.no (by omega), mUp.no (by omega)]
  have tb : ∀ s, tbA (mUp (mUp μ (tbA μ t) 7 a) (tbA μ t) 8 b) s = tbA μ s := fun s => congrArg Int.toNat (f 11 s (by omega))
  have db : ∀ s, dbA (mUp (mUp μ (tbA μ t) 7 a) (tbA μ t) 8 b) s = dbA μ s := fun s => congrArg Int.toNat (f 10 s (by omega))
  have ft : ∀ s c i, s < eT (xE x) → tbA μ s ≤ c → c < tbA μ s + 124 → (s = t → ¬ c = tbA μ t ∨ (¬ i = 7 ∧ ¬ i = 8)) → mUp (mUp μ (tbA μ t) 7 a) (tbA μ t) 8 b c i = μ c i := fun s c i hs q1 q2 q3 => by
    by_cases e : s = t
    · have := q3 e
      exact f c i (by omega)
    · have := l3 s t hs ht e
      exact f c i (by omega)
  have fd : ∀ d c i, d < eD (xE x) → dbA μ d ≤ c → c < dbA μ d + 35 → mUp (mUp μ (tbA μ t) 7 a) (tbA μ t) 8 b c i = μ c i := fun d c i hd q1 q2 => by
    have := l5 t d ht hd
    exact f c i (by omega)
  refine ⟨⟨by rw [f _ _ (by omega)]; exact h1, by rw [f _ _ (by omega)]; exact h2, by rw [f _ _ (by omega)]; exact h3, ⟨fun s hs => ?_, fun d hd => ?_, fun s r hs hr hne => ?_, fun s r hs hr hne => ?_, fun s d hs hd => ?_, fun i hi => by rw [f _ _ (by omega)]; exact l6 i hi⟩, fun s hs => ?_, fun d hd => ?_⟩, jg, fun s r hs hr => ?_, fun s i hs hi => by rw [f _ _ (by omega)]; exact pl s i hs hi, ?_, ?_⟩
  · rw [tb]
    obtain ⟨a1, a2, a3⟩ := l1 s hs
    exact ⟨by rw [f _ _ (by omega)]; exact a1, a2, fun k hk => ⟨by rw [ft s _ _ hs (by omega) (by omega) (fun e => by subst e; omega)]; exact (a3 k hk).1, by rw [ft s _ _ hs (by omega) (by omega) (fun e => by subst e; omega)]; exact (a3 k hk).2⟩⟩
  · rw [db]
    obtain ⟨a1, a2, a3⟩ := l2 d hd
    exact ⟨by rw [f _ _ (by omega)]; exact a1, a2, fun k hk => by rw [fd d _ _ hd (by omega) (by omega)]; exact a3 k hk⟩
  · rw [tb, tb]; exact l3 s r hs hr hne
  · rw [db, db]; exact l4 s r hs hr hne
  · rw [tb, db]; exact l5 s d hs hd
  · rw [tb]
    obtain ⟨a1, a2, a3, a4, a5, a6⟩ := h5 s hs
    refine ⟨by rw [f _ _ (by omega)]; exact a1, by rw [f _ _ (by omega)]; exact a2, by rw [f _ _ (by omega)]; exact a3, ?_, ?_, fun i hi => by rw [ft s _ _ hs (by omega) (by omega) (fun e => by subst e; omega)]; exact a6 i hi⟩
    · show mUp (mUp μ (tbA μ t) 7 a) (tbA μ t) 8 b (tbA μ s) 7 = if s = t then a else eL (xE x) s
      by_cases e : s = t
      · rw [if_pos e, e, mUp.no (by omega), mUp.yes ⟨rfl, rfl⟩]
      · rw [if_neg e, ft s _ _ hs (by omega) (by omega) (fun q => absurd q e)]; exact a4
    · show mUp (mUp μ (tbA μ t) 7 a) (tbA μ t) 8 b (tbA μ s) 8 = if s = t then b else eG (xE x) s
      by_cases e : s = t
      · rw [if_pos e, e, mUp.yes ⟨rfl, rfl⟩]
      · rw [if_neg e, ft s _ _ hs (by omega) (by omega) (fun q => absurd q e)]; exact a5
  · rw [db]
    obtain ⟨a1, a2, a3⟩ := h6 d hd
    refine ⟨fun p hp => by rw [fd d _ _ hd (by omega) (by omega)]; exact a1 p hp, ?_, by rw [fd d _ _ hd (by omega) (by omega)]; exact a3⟩
    show _ = eSt (xE x) d
    rw [fd d _ _ hd (by omega) (by omega), ← a2]
    exact rowL.ext fun i _ => fd d _ _ hd (by omega) (by omega)
  · show roK (mUp (mUp μ (tbA μ t) 7 a) (tbA μ t) 8 b (tbA (mUp (mUp μ (tbA μ t) 7 a) (tbA μ t) 8 b) s) 2) r = _
    rw [tb, f _ _ (by omega)]; exact rl s r hs hr
  · exact snC.cg (E := xE x) sn (fun i => f _ _ (by omega)) (fun i => f _ _ (by omega)) (fun s c i hs q1 q2 => ft s c i hs (by omega) q2 (fun e => by subst e; omega)) (fun d c i hd q1 => fd d c i hd (by omega) (by omega)) (fun i _ _ => f _ _ (by omega)) (fun i => f _ _ (by omega)) (fun i => f _ _ (by omega)) (fun c i _ _ => f _ _ (by omega))
  · exact hC.of (fun c i hc => f c i (by omega)) hh
theorem C_pace {t a b : Int} (hw : mWF w) (hT : mT w μ) (h : KCl w μ x) (k : KX x) : WP_X11_pace_W w μ t a b (fun z m => z = (pac! x t a b).1 ∧ KCl w m (pac! x t a b).2) := by
  have ev := h.env hw hT k
  have bad : ¬ pacO (xE x) t a b → -1 = (pac! x t a b).1 ∧ KCl w μ (pac! x t a b).2 := fun q => by
    have e : pac! x t a b = (-1, x) := cIf.neg q
    rw [e]; exact ⟨rfl, h⟩
  intro _ _ _
  refine X11_isTie_s ev fun z hz rz => ⟨fun c => bad fun g => by have := hz.mpr g.1; omega, fun c => ⟨fun c2 => bad fun g => by have := g.2.1; omega, fun c2 => ⟨fun c3 => bad fun g => by have := g.2.1; omega, fun c3 => ⟨fun c4 => bad fun g => by have := g.2.2; omega, fun c4 => ⟨fun c5 b1 eb1 _ m1 u1 T1 m2 u2 T2 => ?_, fun c5 => bad fun g => by have := g.2.2; omega⟩⟩⟩⟩⟩
  have ht := hz.mp (by omega)
  have ok : pacO (xE x) t a b := ⟨ht, ⟨c2, c3⟩, c4, c5⟩
  have e : pac! x t a b = (0, pc! (xE x) t.toNat a b, xJ x, xS x, xH x) := cIf.pos ok
  rw [e]
  have t1 := (ev.2.2.2.1.1 t.toNat (by omega)).1
  have eb : b1 = tbA μ t.toNat := by omega
  subst eb
  obtain rfl := u1.is
  obtain rfl := u2.is
  exact ⟨rfl, h.pace hw hT (by omega)⟩
theorem R_pace {t a b : Int} (hw : mWF w) (hT : mT w μ) (h : KRf μ x) (k : KX x) : WP_X12_pace_W w μ t a b (fun z m => z = (pac! x t a b).1 ∧ KRf m (pac! x t a b).2) := by
  have ev := h.env (w := w) hw k
  have bad : ¬ pacO (xE x) t a b → -1 = (pac! x t a b).1 ∧ KRf μ (pac! x t a b).2 := fun q => by
    have e : pac! x t a b = (-1, x) := cIf.neg q
    rw [e]; exact ⟨rfl, h⟩
  intro _ _ _
  refine X12_isTie_s ev fun z hz rz => ⟨fun c => bad fun g => by have := hz.mpr g.1; omega, fun c => X12_in_s fun y hy ry => ⟨fun c2 => bad fun g => by have := hy.mpr g.2.1; omega, fun c2 => X12_in_s fun u hu ru => ⟨fun c3 m1 u1 T1 m2 u2 T2 => ?_, fun c3 => bad fun g => by have := hu.mpr g.2.2; omega⟩⟩⟩
  have ht := hz.mp (by omega)
  have ok : pacO (xE x) t a b := ⟨ht, hy.mp (by omega), hu.mp (by omega)⟩
  have e : pac! x t a b = (0, pc! (xE x) t.toNat a b, xJ x, xS x, xH x) := cIf.pos ok
  rw [e]
  obtain rfl := u1.is
  obtain rfl := u2.is
  have f : ∀ c i, ¬ (c = 113 ∨ c = 114) → mUp (mUp μ 113 t.toNat a) 114 t.toNat b c i = μ c i := fun c i q => by rw [mUp.no (by omega), mUp.no (by omega)]
  have g : ∀ c, ¬ (c = 113 ∨ c = 114) → mUp (mUp μ 113 t.toNat a) 114 t.toNat b c = μ c := fun c q => funext fun i => f c i q
  obtain ⟨⟨h1, h2, h3, h4, h5⟩, jg, rl, pl, sn, hh, hg, hn⟩ := h
  refine ⟨rfl, ⟨by rw [f _ _ (by omega)]; exact h1, by rw [f _ _ (by omega)]; exact h2, by rw [f _ _ (by omega)]; exact h3, fun s hs => ?_, fun d hd => by rw [g 162 (by omega), g 163 (by omega), g 164 (by omega)]; exact h5 d hd⟩, jg.cg (fun c hc => g c (by omega)) (f _ _ (by omega)) (f _ _ (by omega)) (f _ _ (by omega)), fun s r hs hr => by rw [g 111 (by omega)]; exact rl s r hs hr, fun s i hs hi => by rw [f _ _ (by omega)]; exact pl s i hs hi, snR.cg (E := xE x) sn hw hT fun c i hc => f c i (by omega), ?_, hg.cg fun c i hc => f c i (by omega), ?_⟩
  · obtain ⟨a1, a2, a3, a4, a5, a6⟩ := h4 s hs
    refine ⟨by rw [f _ _ (by omega)]; exact a1, by rw [f _ _ (by omega)]; exact a2, by rw [f _ _ (by omega)]; exact a3, ?_, ?_, fun i hi => by rw [f _ _ (by omega)]; exact a6 i hi⟩
    · show mUp (mUp μ 113 t.toNat a) 114 t.toNat b 113 s = if s = t.toNat then a else eL (xE x) s
      by_cases e : s = t.toNat
      · rw [if_pos e, mUp.no (by omega), mUp.yes ⟨rfl, e⟩]
      · rw [if_neg e, mUp.no (by omega), mUp.no (by omega)]; exact a4
    · show mUp (mUp μ 113 t.toNat a) 114 t.toNat b 114 s = if s = t.toNat then b else eG (xE x) s
      by_cases e : s = t.toNat
      · rw [if_pos e, mUp.yes ⟨rfl, e⟩]
      · rw [if_neg e, mUp.no (by omega), mUp.no (by omega)]; exact a5
  · exact hRf.of hw hT (fun c i hc => f c i (by omega)) hh
  · rw [f 106 70 (by omega), rtR.cg (μ := μ) (s := 0) (hT.rb hw (by omega)).1.2 (hT.rb hw (by omega)).2.2 fun j hj => f _ _ (by omega)]
    exact hn
theorem X_pace {t a b : Int} (k : KX x) : kxS x (pac! x t a b).2 := by
  by_cases q : pacO (xE x) t a b
  · have e : pac! x t a b = (0, pc! (xE x) t.toNat a b, xJ x, xS x, xH x) := cIf.pos q
    rw [e]
    have pa : paG (pc! (xE x) t.toNat a b) := fun i hi => by
      show 0 ≤ (if i = t.toNat then b else eG (xE x) i) ∧ 0 ≤ (if i = t.toNat then a else eL (xE x) i)
      have g := k.2.1.2.2.1 i hi
      by_cases c : i = t.toNat
      · rw [if_pos c, if_pos c]
        have := q.2
        omega
      · rw [if_neg c, if_neg c]; exact g
    have en : enG (pc! (xE x) t.toNat a b) := ⟨k.2.1.1, k.2.1.2.1, pa, k.2.1.2.2.2⟩
    exact k.next (n := 0) en ⟨k.1, Int.le_refl _, by show sMd (xS x) ≤ sMd (xS x) + 0; omega, uS.refl⟩ (by decide) rfl rfl k.2.2.2.2.2.2.2
  · have e : pac! x t a b = (-1, x) := cIf.neg q
    rw [e]; exact kxS.refl k
end Pace
end
section
/-! A new prefix. -/
def fndP (A L : Nat → Int) (n : Nat) (a l : Int) : Prop := ∃ p, p < n ∧ A p = a ∧ L p = l
section FindP
variable {w : mW} {μ : mM} {A L : Nat → Int} {n : Nat}
theorem X10_findPrefix_s {a l : Int} {Q : Int → mM → Prop} (hn : μ 6 14 = (n : Int)) (tb : ∀ i, i < 10 → μ 7 i = A i ∧ μ 8 i = L i) (k0 : ¬ fndP A L n a l → Q (-1) μ) (k1 : ∀ p, p < n → A p = a → L p = l → (∀ q, q < p → ¬ (A q = a ∧ L q = l)) → Q (p : Int) μ) : WP_X10_findPrefix_W w μ a l Q := by
  refine loopF.i (fun z => 0 ≤ z ∧ z ≤ (n : Int) ∧ ∀ q : Nat, (q : Int) < z → ¬ (A q = a ∧ L q = l)) (fun z => (11 - z).toNat) ⟨by omega, by omega, fun q h => by omega⟩ (by omega) ?_
  rintro rc z ⟨z0, z1, hz⟩ ih z' e rz m em rm
  cases e
  refine ⟨fun c => k0 fun ⟨p, h1, h2⟩ => hz p (by omega) h2, fun c u eu _ => ?_⟩
  obtain ⟨zN, hzN⟩ : ∃ zN : Nat, z = (zN : Int) := ⟨z.toNat, by omega⟩
  subst hzN
  rw [Int.toNat_natCast, (tb zN (by omega)).1] at eu
  have go : ¬ (A zN = a ∧ L zN = l) → rc ((zN : Int) + 1) := fun h => ih _ ⟨by omega, by omega, fun q hq => by
    by_cases c2 : q = zN
    · rw [c2]; exact h
    · exact hz q (by omega)⟩ (by omega)
  refine ⟨fun c2 => go fun h => c2 (eu.symm.trans h.1), fun c2 v ev _ => ?_⟩
  rw [Int.toNat_natCast, (tb zN (by omega)).2] at ev
  exact ⟨fun c3 => go fun h => c3 (ev.symm.trans h.2), fun c3 => k1 zN (by omega) (eu.trans c2) (ev.trans c3) fun q hq => hz q (by omega)⟩
theorem X12_prefixOf_s {a l : Int} {Q : Int → mM → Prop} (hn : μ 106 2 = (n : Int)) (tb : ∀ i, i < 10 → μ 108 i = A i ∧ μ 109 i = L i) (k0 : ¬ fndP A L n a l → Q (-99999999) μ) (k1 : ∀ p, p < n → A p = a → L p = l → (∀ q, q < p → ¬ (A q = a ∧ L q = l)) → Q (p : Int) μ) : WP_X12_prefixOf_W w μ a l Q := by
  refine loopF.i (fun z => 0 ≤ z ∧ z ≤ (n : Int) ∧ ∀ q : Nat, (q : Int) < z → ¬ (A q = a ∧ L q = l)) (fun z => (11 - z).toNat) ⟨by omega, by omega, fun q h => by omega⟩ (by omega) ?_
  rintro rc z ⟨z0, z1, hz⟩ ih z' e rz m em rm
  cases e
  refine ⟨fun c => k0 fun ⟨p, h1, h2⟩ => hz p (by omega) h2, fun c u eu _ => ?_⟩
  obtain ⟨zN, hzN⟩ : ∃ zN : Nat, z = (zN : Int) := ⟨z.toNat, by omega⟩
  subst hzN
  rw [Int.toNat_natCast, (tb zN (by omega)).1] at eu
  have go : ¬ (A zN = a ∧ L zN = l) → rc ((zN : Int) + 1) := fun h => ih _ ⟨by omega, by omega, fun q hq => by
    by_cases c2 : q = zN
    · rw [c2]; exact h
    · exact hz q (by omega)⟩ (by omega)
  refine ⟨fun c2 => go fun h => c2 (eu.symm.trans h.1), fun c2 v ev _ => ?_⟩
  rw [Int.toNat_natCast, (tb zN (by omega)).2] at ev
  exact ⟨fun c3 => go fun h => c3 (ev.symm.trans h.2), fun c3 => k1 zN (by omega) (eu.trans c2) (ev.trans c3) fun q hq => hz q (by omega)⟩
end FindP
def px! (E : En) (f : Int → Int → Int → Rt → Bool × Rt) : En := (eT E, eA E, eB E, eU E, eL E, eG E, ePl E, f, eOw E, eSt E, eGr E, eP E + 1, eD E)
def up1 (A : Nat → Int) (n : Nat) (a : Int) : Nat → Int := fun i => if i = n then a else A i
theorem up1.at {A : Nat → Int} {n : Nat} {a : Int} : up1 A n a n = a := if_pos rfl
theorem up1.ne {A : Nat → Int} {n i : Nat} {a : Int} (h : ¬ i = n) : up1 A n a i = A i := if_neg h
noncomputable def jx! (J : Ju) (n : Nat) (a l : Int) (R : Rg) (td : Int) : Ju := (jP J, up1 (jA J) n a, up1 (jL J) n l, vdJ (up1 (jA J) n a) (up1 (jL J) n l) R td, jR J)
noncomputable def pxY (y : S2) (a l : Int) : S2 := ((px! (xE (yX y)) (thJ (jx! (xJ (yX y)) (eP (xE (yX y))) a l (yR y) (yD y))), jx! (xJ (yX y)) (eP (xE (yX y))) a l (yR y) (yD y), xS (yX y), xH (yX y)), yR y, yD y)
noncomputable def pfx! (y : S2) (a l : Int) : Int × S2 := cIf (badP a l) (-1, y) (cIf (fndP (jA (xJ (yX y))) (jL (xJ (yX y))) (eP (xE (yX y))) a l) (-2, y) (if eP (xE (yX y)) = 10 then (-3, y) else ((eP (xE (yX y)) : Int), pxY y a l)))
theorem vR.cgN {μ m : mM} {p n d k : Int} {N : Nat} (h : ∀ b i, (119 ≤ b ∧ b ≤ 125) → m b i = μ b i) (h2 : ∀ i, ¬ i = N → m 108 i = μ 108 i ∧ m 109 i = μ 109 i) (h18 : m 106 18 = μ 106 18) (hp : ¬ p.toNat = N) (hr : ∀ r : Nat, (r : Int) < μ 106 18 → ¬ (μ 119 r).toNat = N) : vR m p n d k = vR μ p n d k := by
  unfold vR
  rw [h18]
  refine vdF.cg _ fun r hr2 => ?_
  have q := hr r (by omega)
  unfold apR okR
  rw [h 122 r (by omega), h 123 r (by omega), h 124 r (by omega), h 125 r (by omega), h 119 r (by omega), h 121 r (by omega), h 120 r (by omega), (h2 _ q).1, (h2 _ q).2, (h2 _ hp).1, (h2 _ hp).2]
  exact ⟨Iff.rfl, Iff.rfl⟩
theorem badP.ok {a l : Int} (h : ¬ badP a l) : (0 ≤ l ∧ l ≤ 32) ∧ bAnd a (bXor (mskF l) (-1)) = 0 := by
  unfold badP at h
  refine ⟨by omega, ?_⟩
  apply Classical.byContradiction
  intro c
  exact h (Or.inr (Or.inr c))
section Prefix
variable {w : mW} {μ : mM} {y : S2}
theorem X_prefix {a l : Int} (ha : -2147483648 ≤ a ∧ a ≤ 2147483647) (k : K2X y) : k2S y (pfx! y a l).2 := by
  by_cases c : badP a l
  · have e : pfx! y a l = (-1, y) := cIf.pos c
    rw [e]; exact k2S.refl k
  by_cases c2 : fndP (jA (xJ (yX y))) (jL (xJ (yX y))) (eP (xE (yX y))) a l
  · have e : pfx! y a l = (-2, y) := (cIf.neg c).trans (cIf.pos c2)
    rw [e]; exact k2S.refl k
  by_cases c3 : eP (xE (yX y)) = 10
  · have e : pfx! y a l = (-3, y) := (cIf.neg c).trans ((cIf.neg c2).trans (if_pos c3))
    rw [e]; exact k2S.refl k
  have e : pfx! y a l = ((eP (xE (yX y)) : Int), pxY y a l) := (cIf.neg c).trans ((cIf.neg c2).trans (if_neg c3))
  rw [e]
  obtain ⟨b1, b2⟩ := badP.ok c
  obtain ⟨⟨⟨s1, s2, s3, s4, s5, s6, s7, s8, s9, s0⟩, ⟨⟨t1, t2, t3, t4, t5⟩, t6, t7, t8⟩, ok, ng, hE, ⟨ho, hm, hub⟩, md, up⟩, ro, pf, td, jv⟩ := k
  refine ⟨⟨⟨⟨s1, s2, s3, s4, s5, s6, s7, s8, s9, fun j hj => s0 j (by have hj : eP (xE (yX y)) + 1 ≤ j % 10 := hj; omega)⟩, ⟨⟨t1, t2, t3, t4, by show eP (xE (yX y)) + 1 ≤ 10; omega⟩, ⟨fun pl d q r p h => thJ.good ok ng h, fun d p hd hp h10 => t6.2 d p hd (by have hp : eP (xE (yX y)) + 1 ≤ p := hp; omega) h10⟩, t7, t8⟩, ok, ng, rfl, ⟨fun r er => ?_, hm, hub⟩, md, up⟩, ⟨ro.1, fun i hi => ?_⟩, ⟨by show eP (xE (yX y)) + 1 ≤ 10; omega, fun i hi => ?_⟩, td, rfl⟩, Int.le_refl _, by show sMd (xS (yX y)) ≤ sMd (xS (yX y)) + 50000; omega⟩
  · obtain ⟨p, p1, p2⟩ := ho r er
    exact ⟨p, by show p < eP (xE (yX y)) + 1; omega, p2⟩
  · obtain ⟨q1, q2⟩ := ro.2 i hi
    exact ⟨⟨q1.1, by have := q1.2; show gP (yR y) i < ((eP (xE (yX y)) + 1 : Nat) : Int); omega⟩, q2⟩
  · have hi : i < eP (xE (yX y)) + 1 := hi
    show (0 ≤ up1 (jL (xJ (yX y))) (eP (xE (yX y))) l i ∧ up1 (jL (xJ (yX y))) (eP (xE (yX y))) l i ≤ 32) ∧ (-2147483648 ≤ up1 (jA (xJ (yX y))) (eP (xE (yX y))) a i ∧ up1 (jA (xJ (yX y))) (eP (xE (yX y))) a i ≤ 2147483647) ∧ bAnd (up1 (jA (xJ (yX y))) (eP (xE (yX y))) a i) (bXor (mskF (up1 (jL (xJ (yX y))) (eP (xE (yX y))) l i)) (-1)) = 0
    by_cases ci : i = eP (xE (yX y))
    · rw [ci, up1.at, up1.at]; exact ⟨b1, ha, b2⟩
    · rw [up1.ne ci, up1.ne ci]; exact pf.2 i (by omega)
def lPC : List Nat := [6014, 7999, 8999, 9999]
theorem jgC.px {m : mM} {J : Ju} {n : Nat} {a l td : Int} {R : Rg} (hw : mWF w) (h : jgC w μ J) (F : mF lPC w μ m) (tb : ∀ i, i < 10 → m 7 i = up1 (jA J) n a i ∧ m 8 i = up1 (jL J) n l i) (vd : ∀ x v : Int, 0 ≤ x → x ≤ 9 → vC m x v (m 6 18) (m 6 18) = vdJ (up1 (jA J) n a) (up1 (jL J) n l) R td x v) : jgC w m (jx! J n a l R td) := by
  obtain ⟨h1, h2, _⟩ := h
  have n8 : m 21 8 = μ 21 8 := F.f (A_21 hw) rfl rfl
  refine ⟨fun p hp => ?_, tb, vd⟩
  rw [n8] at hp
  obtain ⟨b, eb, c, cp, cn, cf, cl, ⟨⟨A0, A1, A2, A3, A4, A5⟩, x1, x2, x3, x4, x5⟩, hl, hr, hm, hk⟩ := h1 p hp
  have fc : m c = μ c := funext fun i => F.f A1 rfl rfl
  have ff : m cf = μ cf := funext fun i => F.f A4 rfl rfl
  have fl : m cl = μ cl := funext fun i => F.f A5 rfl rfl
  exact ⟨b, F.f (A_22 hw) rfl eb, c, cp, cn, cf, cl, ⟨⟨A0, A1, A2, A3, A4, A5⟩, F.f A0 rfl x1, F.f A0 rfl x2, F.f A0 rfl x3, F.f A0 rfl x4, F.f A0 rfl x5⟩, F.f A0 rfl hl, by rw [fc, ff, fl]; exact hr, hm, fun k hk' => ⟨⟨F.f A2 rfl (hk k hk').1.1, by rw [F.f A3 rfl (rfl : μ cn k = μ cn k)]; exact (hk k hk').1.2⟩, (hk k hk').2⟩⟩
theorem C_prefix {a l : Int} (hw : mWF w) (h : K2C w μ y) (k : K2X y) : WP_X11_prefix_W w μ a l (fun z m => z = (pfx! y a l).1 ∧ K2C w m (pfx! y a l).2) := by
  have bad : badP a l → -1 = (pfx! y a l).1 ∧ K2C w μ (pfx! y a l).2 := fun c => by
    have e : pfx! y a l = (-1, y) := cIf.pos c
    rw [e]; exact ⟨rfl, h⟩
  have hP := h.1.1.2.1
  have p10 := k.2.2.1.1
  refine ⟨fun c => bad (Or.inl c), fun c => ⟨fun c2 => bad (Or.inr (Or.inl c2)), fun c2 => X10_maskOf_s ⟨c, c2⟩ fun _ v ev u eu => ⟨fun c3 => ?_, fun c3 => bad (Or.inr (Or.inr (by rw [ev, eu]; exact c3)))⟩⟩⟩
  have nb : ¬ badP a l := fun q => by
    rcases q with q | q | q
    · omega
    · omega
    · exact q (by rw [ev, eu]; exact c3)
  refine X10_findPrefix_s hP h.1.2.1.2.1 (fun nf _ => ⟨fun _ n en rn => ⟨fun c4 => ?_, fun c4 => ?_⟩, fun c4 => absurd c4 (by decide)⟩) (fun p hp p1 p2 _ _ => ⟨fun c4 => absurd c4 (by omega), fun _ => ?_⟩)
  rotate_left 1
  · have e : pfx! y a l = (-3, y) := (cIf.neg nb).trans ((cIf.neg nf).trans (if_pos (by omega)))
    rw [e]; exact ⟨rfl, h⟩
  · have e : pfx! y a l = (-2, y) := (cIf.neg nb).trans (cIf.pos ⟨p, hp, p1, p2⟩)
    rw [e]; exact ⟨rfl, h⟩
  have e : pfx! y a l = ((eP (xE (yX y)) : Int), pxY y a l) := (cIf.neg nb).trans ((cIf.neg nf).trans (if_neg (by omega)))
  rw [e]
  intro fp efp rfp m1 u1 T1 m2 u2 T2
  refine X10_maskOf_s ⟨c, c2⟩ fun _ m3 u3 T3 m4 u4 T4 _ F4 _ => ?_
  have ef : fp.toNat = eP (xE (yX y)) := by omega
  rw [ef] at u1 u2 u3
  obtain rfl := u1.is
  obtain rfl := u2.is
  obtain rfl := u3.is
  obtain rfl := u4.is
  have f : ∀ b i, ¬ ((7 ≤ b ∧ b ≤ 9) ∧ i = eP (xE (yX y))) → ¬ (b = 6 ∧ i = 14) → mUp (mUp (mUp (mUp μ 7 (eP (xE (yX y))) a) 8 (eP (xE (yX y))) l) 9 (eP (xE (yX y))) (mskF l)) 6 14 (fp + 1) b i = μ b i := fun b i q1 q2 => by
    rw [mUp.no (by omega), mUp.no (by omega), mUp.no (by omega), mUp.no (by omega)]
  have e7 : mUp (mUp (mUp (mUp μ 7 (eP (xE (yX y))) a) 8 (eP (xE (yX y))) l) 9 (eP (xE (yX y))) (mskF l)) 6 14 (fp + 1) 7 (eP (xE (yX y))) = a := by rw [mUp.no (by omega), mUp.no (by omega), mUp.no (by omega), mUp.yes ⟨rfl, rfl⟩]
  have e8 : mUp (mUp (mUp (mUp μ 7 (eP (xE (yX y))) a) 8 (eP (xE (yX y))) l) 9 (eP (xE (yX y))) (mskF l)) 6 14 (fp + 1) 8 (eP (xE (yX y))) = l := by rw [mUp.no (by omega), mUp.no (by omega), mUp.yes ⟨rfl, rfl⟩]
  have e9 : mUp (mUp (mUp (mUp μ 7 (eP (xE (yX y))) a) 8 (eP (xE (yX y))) l) 9 (eP (xE (yX y))) (mskF l)) 6 14 (fp + 1) 9 (eP (xE (yX y))) = mskF l := by rw [mUp.no (by omega), mUp.yes ⟨rfl, rfl⟩]
  have e14 : mUp (mUp (mUp (mUp μ 7 (eP (xE (yX y))) a) 8 (eP (xE (yX y))) l) 9 (eP (xE (yX y))) (mskF l)) 6 14 (fp + 1) 6 14 = fp + 1 := mUp.yes ⟨rfl, rfl⟩
  generalize mUp (mUp (mUp (mUp μ 7 (eP (xE (yX y))) a) 8 (eP (xE (yX y))) l) 9 (eP (xE (yX y))) (mskF l)) 6 14 (fp + 1) = m at f e7 e8 e9 e14 F4 T4 ⊢
  have tb : ∀ i, i < 10 → m 7 i = up1 (jA (xJ (yX y))) (eP (xE (yX y))) a i ∧ m 8 i = up1 (jL (xJ (yX y))) (eP (xE (yX y))) l i := fun i hi => by
    by_cases ci : i = eP (xE (yX y))
    · rw [ci, up1.at, up1.at]; exact ⟨e7, e8⟩
    · rw [up1.ne ci, up1.ne ci, f 7 i (by omega) (by omega), f 8 i (by omega) (by omega)]
      exact h.1.2.1.2.1 i hi
  have mk : ∀ i, i < eP (xE (yX y)) + 1 → m 9 i = mskF (up1 (jL (xJ (yX y))) (eP (xE (yX y))) l i) := fun i hi => by
    by_cases ci : i = eP (xE (yX y))
    · rw [ci, up1.at]; exact e9
    · rw [up1.ne ci, f 9 i (by omega) (by omega)]
      exact h.2.2.2 i (by omega)
  have rg : rgtC m (yR y) := ⟨by rw [f _ _ (by omega) (by omega)]; exact h.2.1.1, fun i hi => by
    rw [f 14 i (by omega) (by omega), f 15 i (by omega) (by omega), f 16 i (by omega) (by omega), f 17 i (by omega) (by omega), f 18 i (by omega) (by omega), f 19 i (by omega) (by omega), f 20 i (by omega) (by omega)]
    exact h.2.1.2 i hi⟩
  have ro : rgO (yR y) (eP (xE (yX y)) + 1) := ⟨k.2.1.1, fun i hi => by
    obtain ⟨q1, q2⟩ := k.2.1.2 i hi
    exact ⟨⟨q1.1, by omega⟩, q2⟩⟩
  have d18 : m 6 18 = yD y := by rw [f _ _ (by omega) (by omega)]; exact h.2.2.1
  refine ⟨by show fp + 1 - 1 = (eP (xE (yX y)) : Int); omega, ?_, rg, d18, mk⟩
  have jg := h.1.2.1.px (n := eP (xE (yX y))) (a := a) (l := l) (R := yR y) (td := yD y) hw (mF.refl.call F4 rfl) tb fun x v h0 h9 => by
    rw [d18]
    exact vC.is rg ro tb mk (by omega) ⟨h0, h9⟩
  obtain ⟨⟨h1, h2, h3, ⟨l1, l2, l3, l4, l5, l6⟩, h5, h6⟩, _, rl, pl, sn, hh⟩ := h.1
  have g : ∀ b, ¬ (6 ≤ b ∧ b ≤ 9) → m b = μ b := fun b q => funext fun i => f b i (by omega) (by omega)
  have tbm : ∀ t, tbA m t = tbA μ t := fun t => by
    show (m 11 t).toNat = (μ 11 t).toNat
    rw [g 11 (by omega)]
  have dbm : ∀ t, dbA m t = dbA μ t := fun t => by
    show (m 10 t).toNat = (μ 10 t).toNat
    rw [g 10 (by omega)]
  have ft : ∀ t j, t < eT (xE (yX y)) → m (tbA μ t + j) = μ (tbA μ t + j) := fun t j ht => g _ (by have := (l1 t ht).2.1; omega)
  have fd : ∀ d j, d < eD (xE (yX y)) → m (dbA μ d + j) = μ (dbA μ d + j) := fun d j hd => g _ (by have := (l2 d hd).2.1; omega)
  refine ⟨⟨by rw [f _ _ (by omega) (by omega)]; exact h1, by show m 6 14 = ((eP (xE (yX y)) + 1 : Nat) : Int); omega, by rw [f _ _ (by omega) (by omega)]; exact h3, ⟨fun t ht => ?_, fun d hd => ?_, fun t s ht hs hne => ?_, fun t s ht hs hne => ?_, fun t d ht hd => ?_, fun i hi => by rw [f _ _ (by omega) (by omega)]; exact l6 i hi⟩, fun t ht => ?_, fun d hd => ?_⟩, jg, fun t s ht hs => ?_, fun t i ht hi => by rw [f _ _ (by omega) (by omega)]; exact pl t i ht hi, ?_, ?_⟩
  · rw [tbm, f _ _ (by omega) (by omega), ft t 2 ht, ft t 3 ht]; exact l1 t ht
  · rw [dbm, f _ _ (by omega) (by omega), fd d 4 hd]; exact l2 d hd
  · rw [tbm, tbm]; exact l3 t s ht hs hne
  · rw [dbm, dbm]; exact l4 t s ht hs hne
  · rw [tbm, dbm]; exact l5 t d ht hd
  · have f0 := ft t 0 ht
    rw [Nat.add_zero] at f0
    rw [tbm, f0, ft t 1 ht]; exact h5 t ht
  · have f0 := fd d 0 hd
    rw [Nat.add_zero] at f0
    rw [dbm, f0, fd d 1 hd, fd d 2 hd]; exact h6 d hd
  · have f0 := ft t 0 ht
    rw [Nat.add_zero] at f0
    rw [tbm, f0]; exact rl t s ht hs
  · exact snC.cg (E := xE (yX y)) sn (fun i => f _ _ (by omega) (by omega)) (fun i => f _ _ (by omega) (by omega)) (fun t b i ht h1 h2 => f _ _ (by have := (l1 t ht).2.1; omega) (by have := (l1 t ht).2.1; omega)) (fun d b i hd h1 => f _ _ (by have := (l2 d hd).2.1; omega) (by have := (l2 d hd).2.1; omega)) (fun i _ _ => f _ _ (by omega) (by omega)) (fun i => f _ _ (by omega) (by omega)) (fun i => f _ _ (by omega) (by omega)) (fun b i _ _ => f _ _ (by omega) (by omega))
  · exact hC.of (fun b i hb => f b i (by omega) (by omega)) hh
theorem R_prefix {a l : Int} (hw : mWF w) (hT : mT w μ) (h : K2R μ y) (k : K2X y) (ha : -2147483648 ≤ a ∧ a ≤ 2147483647) : WP_X12_prefix_W w μ a l (fun z m => z = (pfx! y a l).1 ∧ K2R m (pfx! y a l).2) := by
  have bad : badP a l → -1 = (pfx! y a l).1 ∧ K2R μ (pfx! y a l).2 := fun c => by
    have e : pfx! y a l = (-1, y) := cIf.pos c
    rw [e]; exact ⟨rfl, h⟩
  have hP := h.1.1.2.1
  have p10 := k.2.2.1.1
  refine X12_in_s fun z hz rz => ⟨fun c => bad ?_, fun c => X12_mask_s (hz.mp (by omega)) fun _ v ev u eu => ⟨fun c3 => ?_, fun c3 => bad (Or.inr (Or.inr (by rw [ev, eu]; exact c3)))⟩⟩
  · unfold badP
    by_cases q : 0 ≤ l ∧ l ≤ 32
    · have := hz.mpr q
      omega
    · omega
  have hl := hz.mp (by omega)
  have nb : ¬ badP a l := fun q => by
    rcases q with q | q | q
    · omega
    · omega
    · exact q (by rw [ev, eu]; exact c3)
  refine X12_prefixOf_s hP h.1.2.1.2.1 (fun nf _ => ⟨fun _ n en rn => ⟨fun c4 m1 u1 T1 m2 u2 T2 m3 u3 T3 => ?_, fun c4 => ?_⟩, fun c4 => absurd rfl c4⟩) (fun p hp p1 p2 _ _ => ⟨fun c4 => absurd c4 (by omega), fun _ => ?_⟩)
  rotate_left 1
  · have e : pfx! y a l = (-3, y) := (cIf.neg nb).trans ((cIf.neg nf).trans (if_pos (by omega)))
    rw [e]; exact ⟨rfl, h⟩
  · have e : pfx! y a l = (-2, y) := (cIf.neg nb).trans (cIf.pos ⟨p, hp, p1, p2⟩)
    rw [e]; exact ⟨rfl, h⟩
  have e : pfx! y a l = ((eP (xE (yX y)) : Int), pxY y a l) := (cIf.neg nb).trans ((cIf.neg nf).trans (if_neg (by omega)))
  rw [e]
  have ef : n.toNat = eP (xE (yX y)) := by omega
  rw [ef] at u1 u2
  obtain rfl := u1.is
  obtain rfl := u2.is
  obtain rfl := u3.is
  have f : ∀ b i, ¬ ((b = 108 ∨ b = 109) ∧ i = eP (xE (yX y))) → ¬ (b = 106 ∧ i = 2) → mUp (mUp (mUp μ 108 (eP (xE (yX y))) a) 109 (eP (xE (yX y))) l) 106 2 (n + 1) b i = μ b i := fun b i q1 q2 => by
    rw [mUp.no (by omega), mUp.no (by omega), mUp.no (by omega)]
  have e7 : mUp (mUp (mUp μ 108 (eP (xE (yX y))) a) 109 (eP (xE (yX y))) l) 106 2 (n + 1) 108 (eP (xE (yX y))) = a := by rw [mUp.no (by omega), mUp.no (by omega), mUp.yes ⟨rfl, rfl⟩]
  have e8 : mUp (mUp (mUp μ 108 (eP (xE (yX y))) a) 109 (eP (xE (yX y))) l) 106 2 (n + 1) 109 (eP (xE (yX y))) = l := by rw [mUp.no (by omega), mUp.yes ⟨rfl, rfl⟩]
  have e2 : mUp (mUp (mUp μ 108 (eP (xE (yX y))) a) 109 (eP (xE (yX y))) l) 106 2 (n + 1) 106 2 = n + 1 := mUp.yes ⟨rfl, rfl⟩
  generalize mUp (mUp (mUp μ 108 (eP (xE (yX y))) a) 109 (eP (xE (yX y))) l) 106 2 (n + 1) = m at f e7 e8 e2 T3 ⊢
  have tb : ∀ i, i < 10 → m 108 i = up1 (jA (xJ (yX y))) (eP (xE (yX y))) a i ∧ m 109 i = up1 (jL (xJ (yX y))) (eP (xE (yX y))) l i := fun i hi => by
    by_cases ci : i = eP (xE (yX y))
    · rw [ci, up1.at, up1.at]; exact ⟨e7, e8⟩
    · rw [up1.ne ci, up1.ne ci, f 108 i (by omega) (by omega), f 109 i (by omega) (by omega)]
      exact h.1.2.1.2.1 i hi
  have rg : rgtR m (yR y) := ⟨by rw [f _ _ (by omega) (by omega)]; exact h.2.1.1, fun i hi => by
    rw [f 119 i (by omega) (by omega), f 120 i (by omega) (by omega), f 121 i (by omega) (by omega), f 122 i (by omega) (by omega), f 123 i (by omega) (by omega), f 124 i (by omega) (by omega), f 125 i (by omega) (by omega)]
    exact h.2.1.2 i hi⟩
  have K := (X_prefix (l := l) ha k).1
  rw [e] at K
  have d17 : m 106 17 = yD y := by rw [f _ _ (by omega) (by omega)]; exact h.2.2
  refine ⟨by show n + 1 - 1 = (eP (xE (yX y)) : Int); omega, ?_, rg, d17⟩
  obtain ⟨⟨h1, h2, h3, h4, h5⟩, ⟨j1, j2, j3⟩, rl, pl, sn, hh, hg, hn⟩ := h.1
  have g : ∀ b, ¬ (b = 106 ∨ b = 108 ∨ b = 109) → m b = μ b := fun b q => funext fun i => f b i (by omega) (by omega)
  refine ⟨⟨by rw [f _ _ (by omega) (by omega)]; exact h1, by show m 106 2 = ((eP (xE (yX y)) + 1 : Nat) : Int); omega, by rw [f _ _ (by omega) (by omega)]; exact h3, fun t ht => ?_, fun d hd => ?_⟩, ⟨fun p hp => ?_, tb, fun x v h0 h9 => ?_⟩, fun t s ht hs => by rw [g 111 (by omega)]; exact rl t s ht hs, fun t i ht hi => by rw [f _ _ (by omega) (by omega)]; exact pl t i ht hi, snR.cg (E := xE (yX y)) sn hw hT fun b i hb => f b i (by omega) (by omega), ?_, ⟨fun c => ?_, fun r hr => ?_⟩, ?_⟩
  · rw [g 110 (by omega), g 112 (by omega), g 113 (by omega), g 114 (by omega), g 115 (by omega)]; exact h4 t ht
  · rw [g 162 (by omega), g 163 (by omega), g 164 (by omega)]; exact h5 d hd
  · rw [f 106 39 (by omega) (by omega)] at hp
    exact plR.cg (fun b q1 q2 => g b (by omega)) (j1 p hp)
  · rw [d17]
    exact vR.is rg K.2.1 K.2.2.1 tb k.2.2.2.1 ⟨h0, h9⟩
  · exact hRf.of hw hT (fun b i hb => f b i (by omega) (by omega)) hh
  · rw [f 106 26 (by omega) (by omega)] at c
    obtain ⟨q1, q2⟩ := hg.1 c
    rw [f 106 27 (by omega) (by omega), f 106 28 (by omega) (by omega), f 106 29 (by omega) (by omega), f 106 30 (by omega) (by omega), f 106 31 (by omega) (by omega), e2]
    refine ⟨⟨q1.1, by omega⟩, ?_⟩
    rw [vR.cgN (μ := μ) (N := eP (xE (yX y))) (fun b i hb => f b i (by omega) (by omega)) (fun i hi => ⟨f _ _ (by omega) (by omega), f _ _ (by omega) (by omega)⟩) (f _ _ (by omega) (by omega)) (by omega) (fun r hr => by have := hg.2 r hr; omega)]
    exact q2
  · rw [f 106 18 (by omega) (by omega)] at hr
    rw [f 119 r (by omega) (by omega), e2]
    have := hg.2 r hr
    exact ⟨this.1, by omega⟩
  · rw [f 106 70 (by omega) (by omega), rtR.cg (μ := μ) (s := 0) (hT.rb hw (by omega)).1.2 (hT.rb hw (by omega)).2.2 fun j hj => f _ _ (by omega) (by omega)]
    exact hn
end Prefix
end
