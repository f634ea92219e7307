section
/-! Policies of the reference: tests. -/
def wdV (v : Int) : Int := if v = 1 then 20 else if v = 2 then 21 else 22
def tsR (μ : mM) (i : Nat) (t : Tst) : Prop := μ 132 i = t.1 ∧ μ 133 i = t.2.1 ∧ (t.1 = 4 → μ 134 i = t.2.2.1 ∧ μ 135 i = t.2.2.2.1 ∧ μ 136 i = t.2.2.2.2.1) ∧ (t.1 = 6 → isS (μ 137 i) t.2.2.2.2.2.1 ∧ isS (μ 138 i) t.2.2.2.2.2.2.1 ∧ (μ 139 i = 1 ↔ t.2.2.2.2.2.2.2)) ∧ (t.1 = 8 ∨ t.1 = 9 ∨ t.1 = 14 → μ 134 i = t.2.2.1) ∧ (t.1 = 10 → μ 134 i = t.2.2.1 + 16) ∧ (11 ≤ t.1 ∧ t.1 ≤ 13 → μ 135 i = t.2.2.1 + 60 ∧ μ 134 i = t.2.2.2.1) ∧ (t.1 = 15 → μ 134 i = wdV t.2.2.1)
def tsAR (μ : mM) : Nat → List Tst → Prop
  | _, [] => True
  | i, t :: l => tsR μ i t ∧ tsAR μ (i + 1) l
def acR (μ : mM) : Nat → List Act → Prop
  | _, [] => True
  | i, a :: l => (μ 140 i = a.1 ∧ (¬ a.1 = 23 → ¬ a.1 = 24 → μ 141 i = a.2)) ∧ acR μ (i + 1) l
/-- rows from r on; t tests, a acts are ahead of them -/
def rwR (μ : mM) (p : Nat) : Nat → Nat → Nat → List Rw → Prop
  | _, _, _, [] => True
  | r, t, a, x :: l => (μ 128 (31 * p + r) = (t : Int) ∧ μ 129 (31 * p + r) = (a : Int)) ∧ (μ 128 (31 * p + r + 1) = ((t + x.1.length : Nat) : Int) ∧ μ 129 (31 * p + r + 1) = ((a + x.2.length : Nat) : Int)) ∧ tsAR μ (300 * p + t) x.1 ∧ acR μ (300 * p + a) x.2 ∧ rwR μ p (r + 1) (t + x.1.length) (a + x.2.length) l
def plS (μ : mM) (p : Nat) (P : Pol) : Prop := μ 142 p = (P.2.2.2 : Int) ∧ ∀ k, k < P.2.2.2 → μ 143 (41 * p + k) = P.2.1 k ∧ isS (μ 144 (41 * p + k)) (P.2.2.1 k)
def plR (μ : mM) (p : Nat) (P : Pol) : Prop := μ 127 p = (P.1.length : Int) ∧ rwR μ p 0 0 0 P.1 ∧ plS μ p P
/-- what the reference's judge reads -/
def jgR (μ : mM) (J : Ju) : Prop := (∀ p : Nat, (p : Int) < μ 106 39 → plR μ p (jP J (p : Int))) ∧ (∀ i, i < 10 → μ 108 i = jA J i ∧ μ 109 i = jL J i) ∧ ∀ x n : Int, 0 ≤ x → x ≤ 9 → vR μ x n (μ 106 17) (μ 106 17) = jV J x n
/-- what is kept of the last verdict is right -/
def gJ (m : mM) : Prop := (¬ m 106 26 = 0 → (0 ≤ m 106 27 ∧ m 106 27 < m 106 2) ∧ m 106 31 = vR m (m 106 27) (m 106 28) (m 106 29) (m 106 30)) ∧ ∀ r : Nat, (r : Int) < m 106 18 → 0 ≤ m 119 r ∧ m 119 r < m 106 2
theorem vR.cg {μ m : mM} {p n d k : Int} (h : ∀ b i, b = 108 ∨ b = 109 ∨ (119 ≤ b ∧ b ≤ 125) → m b i = μ b i) (h18 : m 106 18 = μ 106 18) : vR m p n d k = vR μ p n d k := by
  have e : ∀ b, b = 108 ∨ b = 109 ∨ (119 ≤ b ∧ b ≤ 125) → m b = μ b := fun b hb => funext fun i => h b i hb
  have ea : apR m p d k = apR μ p d k := by
    funext r
    unfold apR
    rw [e 122 (by omega), e 123 (by omega), e 124 (by omega), e 125 (by omega), e 109 (by omega), e 119 (by omega), e 108 (by omega)]
  have eo : okR m p n = okR μ p n := by
    funext r
    unfold okR
    rw [e 121 (by omega), e 109 (by omega), e 120 (by omega)]
  unfold vR
  rw [ea, eo, h18]
theorem gJ.cg {μ m : mM} (h : gJ μ) (f : ∀ b i, b = 108 ∨ b = 109 ∨ (119 ≤ b ∧ b ≤ 125) ∨ (b = 106 ∧ (i = 2 ∨ i = 18 ∨ (26 ≤ i ∧ i ≤ 31))) → m b i = μ b i) : gJ m := by
  obtain ⟨h1, h2⟩ := h
  refine ⟨fun c => ?_, fun r hr => ?_⟩
  · rw [f 106 26 (by omega)] at c
    rw [f 106 27 (by omega), f 106 28 (by omega), f 106 29 (by omega), f 106 30 (by omega), f 106 31 (by omega), f 106 2 (by omega), vR.cg (μ := μ) (fun b i hb => f b i (by omega)) (f 106 18 (by omega))]
    exact h1 c
  · rw [f 106 18 (by omega)] at hr
    rw [f 119 r (by omega), f 106 2 (by omega)]
    exact h2 r hr
theorem gJ.st : gSt gJ := fun m m1 h f => h.cg fun b i hb => f b i (by omega) (by omega) (by omega)
section JudR
variable {w : mW} {μ : mM}
theorem X12_mask_s {l : Int} {Q : Int → mM → Prop} (h : 0 ≤ l ∧ l ≤ 32) (k : Q (mskF l) μ) : WP_X12_mask_W w μ l Q := by
  refine ⟨fun c z _ e y ey => ?_, fun c => ?_⟩
  · have ez : z = 32 - l := by omega
    subst ez
    rw [mskF.pos c ey]
    exact k
  · rw [mskF.zero c]
    exact k
theorem X12_holds_s {a l x : Int} {Q : Int → mM → Prop} (h : 0 ≤ l ∧ l ≤ 32) (k : ∀ z : Int, (z = 1 ↔ bAnd (bXor a x) (mskF l) = 0) → Q z μ) : WP_X12_holds_W w μ a l x Q := by
  intro y ey
  refine X12_mask_s h ?_
  intro _ v ev
  subst ey ev
  exact ⟨fun c => k 0 ⟨fun e => absurd e (by decide), fun e => absurd e c⟩, fun c => k 1 ⟨fun _ => c, fun _ => rfl⟩⟩
theorem X12_judgedAnew_s {p n d e : Int} {Q : Int → mM → Prop} (k : Q (vR μ p n d e) μ) : WP_X12_judgedAnew_W w μ p n d e Q := by
  refine loopF.ii (fun z i => 0 ≤ i ∧ (i = 0 ∨ i ≤ μ 106 18) ∧ z = vdF (apR μ p d e) (okR μ p n) i.toNat) (fun _ i => (31 - i).toNat) ⟨by omega, Or.inl rfl, rfl⟩ (by omega) ?_
  rintro rc z i ⟨i0, i1, hz⟩ ih z' i' e' rz ri m em rm
  cases e'
  refine ⟨fun g => ?_, fun g x ex rx a ea ra => ?_⟩
  · have e1 : i.toNat = (μ 106 18).toNat := by omega
    unfold vR at k
    rw [← e1, ← hz] at k
    exact k
  have skip : ¬ apR μ p d e i.toNat → rc (z, i + 1) := fun hn => ih _ _ ⟨by omega, Or.inr (by omega), vd.skip hz i0 hn⟩ (by omega)
  have J2 : ∀ f1 : Int, (f1 = 0 ∨ f1 = 1) → (f1 = 1 ↔ (μ 122 i.toNat ≤ d ∧ d < μ 123 i.toNat ∧ μ 124 i.toNat ≤ e ∧ (μ 125 i.toNat = -99999999 ∨ e < μ 125 i.toNat))) → WJ_X12_judgedAnew_W_2 w μ p n rc z i x f1 := by
    intro f1 h1 H1 _
    refine ⟨fun c => skip fun a => ?_, fun c l el rl zl ezl rzl => ⟨fun c2 => skip fun a => ?_, fun c2 y ey ry v ev rv => ?_⟩⟩
    · have := H1.mpr ⟨a.1.1, a.1.2.1, a.1.2.2.1, a.1.2.2.2.1⟩
      omega
    · have a1 := a.1.2.2.2.2
      rw [ex, el, ezl] at a1
      omega
    refine X12_holds_s rl fun u hu ru => ⟨fun c3 => ?_, fun c3 => skip fun a => ?_⟩
    rotate_left 1
    · have a2 := a.2
      rw [ex, ey, ev, el] at a2
      have := hu.mpr a2
      omega
    have ap : apR μ p d e i.toNat := by
      have a1 := H1.mp (by omega)
      refine ⟨⟨a1.1, a1.2.1, a1.2.2.1, a1.2.2.2, ?_⟩, ?_⟩
      · rw [ex, el, ezl]; exact c2
      · rw [ex, ey, ev, el]; exact hu.mp (by omega)
    have J3 : ∀ f2 : Int, ((z = 2 ∧ f2 = 0) ∨ (¬ z = 2 ∧ f2 = z)) → WJ_X12_judgedAnew_W_3 μ n rc i zl f2 := by
      intro f2 h2 _ x2 ex2 _
      refine ⟨fun c4 => ih _ _ ⟨by omega, Or.inr (by omega), vd.go hz i0 ap (Or.inr ⟨fun o => c4 (ex2.symm.trans o.1), h2⟩)⟩ (by omega), fun c4 y2 ey2 _ => ⟨fun c5 => ih _ _ ⟨by omega, Or.inr (by omega), vd.go hz i0 ap (Or.inr ⟨fun o => ?_, h2⟩)⟩ (by omega), fun c5 => ih _ _ ⟨by omega, Or.inr (by omega), vd.go hz i0 ap (Or.inl ⟨⟨ex2.trans c4, ?_⟩, rfl⟩)⟩ (by omega)⟩⟩
      · have o2 := o.2
        rw [ezl, ey2] at o2
        omega
      · rw [ezl, ey2]; exact c5
    exact ⟨fun c4 => J3 z (Or.inr ⟨c4, rfl⟩), fun c4 => J3 0 (Or.inl ⟨c4, rfl⟩)⟩
  refine ⟨fun c => J2 0 (Or.inl rfl) ⟨fun g => absurd g (by decide), fun g => by omega⟩, fun c y ey ry => ⟨fun c2 => J2 0 (Or.inl rfl) ⟨fun g => absurd g (by decide), fun g => by omega⟩, fun c2 v ev rv => ⟨fun c3 => J2 0 (Or.inl rfl) ⟨fun g => absurd g (by decide), fun g => by omega⟩, fun c3 u eu ru => ⟨fun c4 => J2 1 (Or.inr rfl) ⟨fun _ => ⟨by omega, by omega, by omega, Or.inl (by omega)⟩, fun _ => rfl⟩, fun c4 => ⟨fun c5 => J2 0 (Or.inl rfl) ⟨fun g => absurd g (by decide), fun g => by omega⟩, fun c5 => J2 1 (Or.inr rfl) ⟨fun _ => ⟨by omega, by omega, by omega, Or.inr (by omega)⟩, fun _ => rfl⟩⟩⟩⟩⟩⟩
def frV (μ m : mM) : Prop := ∀ b i, ¬ (b = 106 ∧ 26 ≤ i ∧ i ≤ 31) → m b i = μ b i
theorem frV.refl {μ : mM} : frV μ μ := fun _ _ _ => rfl
theorem frV.trans {μ m n : mM} (h : frV μ m) (k : frV m n) : frV μ n := fun b i q => (k b i q).trans (h b i q)
theorem X12_judged_s {p n d e : Int} {Q : Int → mM → Prop} (hg : gJ μ) (hp : 0 ≤ p ∧ p < μ 106 2) (k : ∀ m : mM, gJ m → frV μ m → Q (vR μ p n d e) m) : WP_X12_judged_W w μ p n d e Q := by
  have anew : ∀ m : mM, gJ m → frV μ m → m 106 31 = vR μ p n d e → WJ_X12_judged_W_1 w μ Q m := fun m gm fm em _ _ z ez _ => by
    rw [← ez, em]; exact k m gm fm
  have put : ∀ (z : Int) (m1 m2 m3 m4 m5 m6 : mM), z = vR μ p n d e → mU μ 106 31 z m1 → mU m1 106 27 p m2 → mU m2 106 28 n m3 → mU m3 106 29 d m4 → mU m4 106 30 e m5 → mU m5 106 26 1 m6 → WJ_X12_judged_W_1 w μ Q m6 := fun z m1 m2 m3 m4 m5 m6 hz u1 u2 u3 u4 u5 u6 => by
    obtain rfl := u1.is
    obtain rfl := u2.is
    obtain rfl := u3.is
    obtain rfl := u4.is
    obtain rfl := u5.is
    obtain rfl := u6.is
    have f : frV μ (mUp (mUp (mUp (mUp (mUp (mUp μ 106 31 z) 106 27 p) 106 28 n) 106 29 d) 106 30 e) 106 26 1) := fun b i q => by
      rw [mUp.no (by omega), mUp.no (by omega), mUp.no (by omega), mUp.no (by omega), mUp.no (by omega), mUp.no (by omega)]
    have e31 : mUp (mUp (mUp (mUp (mUp (mUp μ 106 31 z) 106 27 p) 106 28 n) 106 29 d) 106 30 e) 106 26 1 106 31 = vR μ p n d e := by
      rw [mUp.no (by omega), mUp.no (by omega), mUp.no (by omega), mUp.no (by omega), mUp.no (by omega), mUp.yes ⟨rfl, rfl⟩, hz]
    refine anew _ ⟨fun _ => ?_, fun r hr => ?_⟩ f e31
    · rw [e31, vR.cg (μ := μ) (fun b i hb => f b i (by omega)) (f 106 18 (by omega)), f 106 2 (by omega), mUp.no (by omega), mUp.no (by omega), mUp.no (by omega), mUp.no (by omega), mUp.yes ⟨rfl, rfl⟩, mUp.no (by omega), mUp.no (by omega), mUp.no (by omega), mUp.yes ⟨rfl, rfl⟩, mUp.no (by omega), mUp.no (by omega), mUp.yes ⟨rfl, rfl⟩, mUp.no (by omega), mUp.yes ⟨rfl, rfl⟩]
      exact ⟨hp, rfl⟩
    · rw [f 106 18 (by omega)] at hr
      rw [f 119 r (by omega), f 106 2 (by omega)]
      exact hg.2 r hr
  intro z1 e1 r1
  refine ⟨fun c => X12_judgedAnew_s fun _ m1 u1 _ m2 u2 _ m3 u3 _ m4 u4 _ m5 u5 _ m6 u6 _ => put _ m1 m2 m3 m4 m5 m6 rfl u1 u2 u3 u4 u5 u6, fun c z2 e2 r2 => ⟨fun c2 => X12_judgedAnew_s fun _ m1 u1 _ m2 u2 _ m3 u3 _ m4 u4 _ m5 u5 _ m6 u6 _ => put _ m1 m2 m3 m4 m5 m6 rfl u1 u2 u3 u4 u5 u6, fun c2 z3 e3 r3 => ⟨fun c3 => X12_judgedAnew_s fun _ m1 u1 _ m2 u2 _ m3 u3 _ m4 u4 _ m5 u5 _ m6 u6 _ => put _ m1 m2 m3 m4 m5 m6 rfl u1 u2 u3 u4 u5 u6, fun c3 z4 e4 r4 => ⟨fun c4 => X12_judgedAnew_s fun _ m1 u1 _ m2 u2 _ m3 u3 _ m4 u4 _ m5 u5 _ m6 u6 _ => put _ m1 m2 m3 m4 m5 m6 rfl u1 u2 u3 u4 u5 u6, fun c4 z5 e5 r5 => ⟨fun c5 => ?_, fun c5 => X12_judgedAnew_s fun _ m1 u1 _ m2 u2 _ m3 u3 _ m4 u4 _ m5 u5 _ m6 u6 _ => put _ m1 m2 m3 m4 m5 m6 rfl u1 u2 u3 u4 u5 u6⟩⟩⟩⟩⟩
  refine anew μ hg frV.refl ?_
  have h := (hg.1 (by rw [e1]; exact c)).2
  rw [e2, e3, e4, e5, c2, c3, c4, c5] at h
  exact h
theorem X12_related_s {v b a : Int} {Q : Int → mM → Prop} (ha : 0 ≤ a ∧ a ≤ 2) (k : ∀ z : Int, (z = 1 ↔ relT v b a) → Q z μ) : WP_X12_related_W w μ v (a + 60) b Q := by
  unfold relT at k
  exact ⟨fun c => ⟨fun c2 => ⟨fun c3 => k 0 ⟨fun e => absurd e (by decide), fun e => by omega⟩, fun c3 => k 1 ⟨fun _ => by omega, fun _ => rfl⟩⟩, fun c2 => ⟨fun c3 => k 0 ⟨fun e => absurd e (by decide), fun e => by omega⟩, fun c3 => k 1 ⟨fun _ => by omega, fun _ => rfl⟩⟩⟩, fun c => ⟨fun c3 => k 0 ⟨fun e => absurd e (by decide), fun e => by omega⟩, fun c3 => k 1 ⟨fun _ => by omega, fun _ => rfl⟩⟩⟩
/-- the ends of ties -/
def enR (μ : mM) (E : En) : Prop := ∀ t, t < eT E → μ 110 (2 * t) = eA E t ∧ μ 110 (2 * t + 1) = eB E t
theorem X12_tieOf_hit_s {E : En} {t s : Nat} {Q : Int → mM → Prop} (hE : enR μ E) (ti : tiG E) (ht : t < eT E) (hs : s < 2) (k : Q (t : Int) μ) : WP_X12_tieOf_Whit w μ (eN E t s) (eN E t (1 - s)) (t : Int) Q := by
  intro e0 ee0 _ e1 ee1 _ nt ent hnt
  have d0 : (eN E t s = eA E t ∧ eN E t (1 - s) = eB E t) ∨ (eN E t s = eB E t ∧ eN E t (1 - s) = eA E t) := by
    unfold eN
    by_cases c : s = 0
    · exact Or.inl ⟨if_pos c, if_neg (by omega)⟩
    · exact Or.inr ⟨if_neg c, if_pos (by omega)⟩
  have t20 := ti.2.2.1
  refine loopF.i (fun z => 0 ≤ z ∧ z ≤ (t : Int)) (fun z => (21 - z).toNat) ⟨by omega, by omega⟩ (by omega) ?_
  rintro rc z ⟨z0, z1⟩ ih z' ez rz x ex rx
  cases ez
  obtain ⟨zN, hz⟩ : ∃ zN : Nat, z = (zN : Int) := ⟨z.toNat, by omega⟩
  subst hz
  have zt : zN < eT E := by omega
  obtain ⟨a1, a2⟩ := hE zN zt
  rw [show (2 * (zN : Int)).toNat = 2 * zN by omega, a1] at ex
  have y2 : ∀ y, μ 110 (2 * (zN : Int) + 1).toNat = y → eB E zN = y := fun y ey => by
    rw [show (2 * (zN : Int) + 1).toNat = 2 * zN + 1 by omega, a2] at ey
    exact ey
  have hit : ((eA E zN = eN E t s ∧ eB E zN = eN E t (1 - s)) ∨ (eA E zN = eN E t (1 - s) ∧ eB E zN = eN E t s)) → Q (zN : Int) μ := fun h => by
    have e : zN = t := Classical.byContradiction fun c => ti.2.1 zN t zt ht c (by omega)
    rw [e]; exact k
  have go : ¬ ((eA E zN = eN E t s ∧ eB E zN = eN E t (1 - s)) ∨ (eA E zN = eN E t (1 - s) ∧ eB E zN = eN E t s)) → rc ((zN : Int) + 1) := fun h => by
    have e : ¬ zN = t := fun c => h (by rw [c]; omega)
    exact ih _ ⟨by omega, by omega⟩ (by omega)
  exact ⟨fun c => ⟨fun c2 => go (by omega), fun c2 y ey _ => ⟨fun c3 => go (by have := y2 y ey; omega), fun c3 => hit (by have := y2 y ey; omega)⟩⟩, fun c y ey _ => ⟨fun c2 => hit (by have := y2 y ey; omega), fun c2 => ⟨fun c3 => go (by have := y2 y ey; omega), fun c3 => ⟨fun c4 => go (by have := y2 y ey; omega), fun c4 => hit (by have := y2 y ey; omega)⟩⟩⟩⟩
theorem X12_tieWord_s {E : En} {t s : Nat} {Q : Int → mM → Prop} (hE : enR μ E) (ti : tiG E) (ht : t < eT E) (hs : s < 2) (k : Q (roK (μ 111 t) s + 16) μ) : WP_X12_tieWord_W w μ (eN E t s) (eN E t (1 - s)) (t : Int) Q := by
  intro e0 ee0 r0 e1 ee1 r1 nt ent hnt
  refine X12_tieOf_hit_s hE ti ht hs ?_
  intro _ z ez rz
  rw [Int.toNat_natCast] at ez
  have hne := (ti.1 t ht).1
  unfold roK at k
  rw [ez] at k
  refine ⟨fun c => ⟨fun c2 x ex rx => ?_, fun c2 => ?_⟩, fun c => ?_⟩
  · rw [show (2 * (t : Int)).toNat = 2 * t by omega, (hE t ht).1] at ex
    rw [if_neg c, if_neg c2] at k
    by_cases c3 : s = 0
    · have e : eN E t s = eA E t := if_pos c3
      rw [if_pos c3] at k
      exact ⟨fun g => absurd (ex.symm.trans e.symm) g, fun _ => k⟩
    · have e : eN E t s = eB E t := if_neg c3
      rw [if_neg c3] at k
      exact ⟨fun _ => k, fun g => absurd (ex.trans (g.trans e)) hne⟩
  · rw [if_neg c, if_pos c2] at k; exact k
  · rw [if_pos c] at k; exact k
theorem X12_waysMatch_s {p i : Nat} {r : Int} {P : Pol} {pc : Pce} {l : List Int} {Q : Int → mM → Prop} (hl : rowL (fun k => μ 126 (40 * r + 6 + (k : Int)).toNat) (μ 126 (40 * r + 4).toNat).toNat = l) (hP : plS μ p P) (hf : isS (μ 137 i) pc.1) (he : isS (μ 138 i) pc.2.1) (h2 : μ 139 i = 1 ↔ pc.2.2)
    (k : ∀ z : Int, (z = 1 ↔ wyM P.2.1 P.2.2.1 pc P.2.2.2 (lgt l) l.length) → Q z μ) : WP_X12_waysMatch_W w μ (p : Int) (i : Int) r Q := by
  obtain ⟨hm, hk⟩ := hP
  intro x ex rx n en rn
  rw [Int.toNat_natCast] at ex
  have rn' : 0 ≤ n ∧ n ≤ 20 := rn.2.2.1 (by omega)
  have ll : l.length = n.toNat := by rw [← hl, rowL.len, en]
  have wl : ∀ j : Nat, j < n.toNat → μ 126 (40 * r + 6 + (j : Int)).toNat = lgt l j := fun j hj => by
    rw [← hl, lgt.row (f := fun k => μ 126 (40 * r + 6 + (k : Int)).toNat) (by rw [en]; exact hj)]
  rw [ll] at k
  rw [ex] at hf
  refine ⟨fun c => ?_, fun c y ey _ => ?_⟩
  rotate_left 1
  · rw [Int.toNat_natCast] at ey
    rw [ey] at h2
    exact k y (h2.trans (wyM.nil c).symm)
  refine loopF.i3 (fun o r2 j => 0 ≤ j ∧ j ≤ n ∧ isS o (opI P.2.1 P.2.2.1 pc.1 P.2.2.2 (lgt l) j.toNat) ∧ (0 < j → isS r2 (rcI P.2.1 P.2.2.1 pc.1 P.2.2.2 (lgt l) (j - 1).toNat))) (fun _ _ j => (21 - j).toNat) ⟨by omega, by omega, hf, fun q => absurd q (by omega)⟩ (by omega) ?_
  rintro rc o r2 j ⟨j0, j1, ho, hr⟩ ih o' r' j' e ro rr rj
  cases e
  refine ⟨fun g y ey ry z ez c5 ec5 => ?_, fun g => ?_⟩
  · rw [Int.toNat_natCast] at ey
    rw [ey] at he
    have ei : n = j := by omega
    subst ei
    have rz : -9223372036854775808 ≤ z ∧ z ≤ 9223372036854775807 := by
      rw [← ez]; exact r64i _
    have W := wyM.end (n := n) (i := n - 1) (by omega) (by omega) (hr (by omega)) he ez rz
    have C := lCmp_iff ec5 rz (by decide)
    exact ⟨fun q => k 0 ⟨fun e => absurd e (by decide), fun e => absurd (C.mp q) (W.mpr e)⟩, fun q => k 1 ⟨fun _ => W.mp fun e => q (C.mpr e), fun _ => rfl⟩⟩
  · refine loopF.ii (fun q2 k2 => 0 ≤ k2 ∧ k2 ≤ (P.2.2.2 : Int) ∧ isS q2 (rcS P.2.1 (opI P.2.1 P.2.2.1 pc.1 P.2.2.2 (lgt l) j.toNat) (lgt l j.toNat) k2.toNat)) (fun _ k2 => (41 - k2).toNat) ⟨by omega, by omega, rcS.zero⟩ (by omega) ?_
    rintro rc2 q2 k2 ⟨k0, k1, hr2⟩ ih2 q2' k2' e _ rk m em rm
    cases e
    rw [Int.toNat_natCast, hm] at em
    refine ⟨fun g2 => ?_, fun g2 a ea b eb c2 ec2 => ?_⟩
    · have e2 : k2.toNat = P.2.2.2 := by omega
      have hR := rcI.ofC (Nx := P.2.2.1) hr2 e2
      refine loopF.ii (fun o2 k3 => 0 ≤ k3 ∧ k3 ≤ (P.2.2.2 : Int) ∧ isS o2 (opB P.2.2.1 (rcI P.2.1 P.2.2.1 pc.1 P.2.2.2 (lgt l) j.toNat) k3.toNat)) (fun _ k3 => (41 - k3).toNat) ⟨by omega, by omega, opB.zero⟩ (by omega) ?_
      rintro rc3 o2 k3 ⟨i0, i1, ho2⟩ ih3 o2' k3' e _ rk3
      cases e
      refine ⟨fun g3 => ?_, fun g3 a ea b eb c2 ec2 => ?_⟩
      · refine ih _ _ _ ⟨by omega, by omega, opI.of (n := k3) ho2 rfl (by omega) j0 rfl, fun _ => ?_⟩ (by omega)
        rw [show (j + 1 - 1).toNat = j.toNat by omega]
        exact hR
      · have B := bLg.r (x := q2) ⟨i0, by omega⟩ ea eb
        have rb : -9223372036854775808 ≤ b ∧ b ≤ 9223372036854775807 := by
          rw [← eb]; exact r64i _
        have C := lCmp_iff ec2 rb (by decide)
        refine ⟨fun h => ih3 _ _ ⟨by omega, by omega, opB.skip ho2 i0 (fun h2 => h (C.mpr (B.mpr ((hR k3.toNat).mpr h2)))) rfl⟩ (by omega), fun h y ey _ z ez => ih3 _ _ ⟨by omega, by omega, opB.put ho2 i0 ((hR k3.toNat).mp (B.mp (C.mp h))) ?_ ez rfl⟩ (by omega)⟩
        have hx := (hk k3.toNat (by omega)).2
        rw [show (41 * (p : Int) + k3).toNat = 41 * p + k3.toNat by omega] at ey
        rw [ey] at hx
        exact hx
    have kn : k2.toNat < P.2.2.2 := by omega
    have hn := (hk k2.toNat kn).1
    have skip : ¬ (opI P.2.1 P.2.2.1 pc.1 P.2.2.2 (lgt l) j.toNat k2.toNat ∧ (P.2.1 k2.toNat < 0 ∨ P.2.1 k2.toNat = lgt l j.toNat)) → rc2 (q2, k2 + 1) := fun q => ih2 _ _ ⟨by omega, by omega, isS.skip hr2 k0 q rfl⟩ (by omega)
    have B := bLg.r (x := o) ⟨k0, by omega⟩ ea eb
    have rb : -9223372036854775808 ≤ b ∧ b ≤ 9223372036854775807 := by
      rw [← eb]; exact r64i _
    have C := lCmp_iff ec2 rb (by decide)
    refine ⟨fun h => skip fun h2 => h (C.mpr (B.mpr ((ho k2.toNat).mpr h2.1))), fun h y ey _ => ?_⟩
    have oo := (ho k2.toNat).mp (B.mp (C.mp h))
    rw [show (41 * (p : Int) + k2).toNat = 41 * p + k2.toNat by omega, hn] at ey
    have put : (P.2.1 k2.toNat < 0 ∨ P.2.1 k2.toNat = lgt l j.toNat) → ∀ z z2 : Int, lShl 1 k2 = z → lOr q2 z = z2 → rc2 (z2, k2 + 1) := fun q z z2 ez ez2 => ih2 _ _ ⟨by omega, by omega, isS.put hr2 ⟨k0, by omega⟩ oo q ez ez2 rfl⟩ (by omega)
    refine ⟨fun h2 z ez z2 ez2 => put (Or.inl (by omega)) z z2 ez ez2, fun h2 v ev _ => ?_⟩
    have wv : v = lgt l j.toNat := by
      rw [← wl j.toNat (by omega), ← ev, Int.toNat_of_nonneg j0]
    exact ⟨fun h3 => skip fun q => by have := q.2; omega, fun h3 z ez z2 ez2 => put (Or.inr (by omega)) z z2 ez ez2⟩
end JudR
end
section
/-! The reference: a test, going through. -/
section SoR
variable {w : mW} {μ : mM}
theorem X12_isSo_s {J : Ju} {E : En} {p i tt ss : Nat} {r : Int} {t : Tst} {x : Rt} {Q : Int → mM → Prop} (hr : 0 ≤ r) (hx : rtR μ r = some x) (hxp : x.1 < μ 106 2) (hE : enR μ E) (ti : tiG E) (ht : tt < eT E) (hs : ss < 2) (ro : roK (μ 111 tt) ss = jR J (eN E tt ss) (eN E tt (1 - ss))) (pl : plS μ p (jP J (p : Int))) (hts : tsR μ i t) (ok : tOk t)
    (tb : ∀ i, i < 10 → μ 108 i = jA J i ∧ μ 109 i = jL J i) (vd : ∀ x n : Int, 0 ≤ x → x ≤ 9 → vR μ x n (μ 106 17) (μ 106 17) = jV J x n) (hg : gJ μ)
    (k : ∀ (z : Int) (m : mM), (z = 1 ↔ tsT J (p : Int) (eN E tt ss) (eN E tt (1 - ss)) t x) → gJ m → frV μ m → Q z m) : WP_X12_isSo_W w μ (p : Int) (i : Int) r (eN E tt ss) (eN E tt (1 - ss)) (tt : Int) Q := by
  obtain ⟨t1, t2, t4, t6, t8, t10, t11, t15⟩ := hts
  obtain ⟨gx, er⟩ := rtR.get hx
  intro e0 ee0 _ e1 ee1 _ nt ent _ fx efx rfx n en rn W eW _
  rw [Int.toNat_natCast, t1] at eW
  subst eW
  have rn' : 0 ≤ n ∧ n ≤ 20 := rn.2.2.1 (by omega)
  have rf' : -1 ≤ fx ∧ fx ≤ 9 := rfx.2.1 (by omega)
  have x1 : x.1 = fx := by rw [er]; exact efx
  have fx0 : 0 ≤ fx := by omega
  have wyr : rowL (fun k => μ 126 (40 * r + 6 + (k : Int)).toNat) (μ 126 (40 * r + 4).toNat).toNat = wOf x := by rw [er]
  have mkr : rowL (fun k => μ 126 (40 * r + 26 + (k : Int)).toNat) (μ 126 (40 * r + 5).toNat).toNat = mOf x := by rw [er]
  have wlen : ((wOf x).length : Int) = n := by rw [← wyr, rowL.len, en, Int.toNat_of_nonneg rn'.1]
  have J1 : ∀ (z : Int) (m : mM), (z = 0 ∨ z = 1) → (z = 1 ↔ isT J (p : Int) (eN E tt ss) (eN E tt (1 - ss)) t x) → gJ m → frV μ m → WJ_X12_isSo_W_1 w μ (i : Int) Q z m := by
    intro z m hz01 hz gm fm _ T F y ey ry
    have y2 : y = t.2.1 := by
      rw [← ey, Int.toNat_natCast, fm 133 i (by omega)]; exact t2
    refine ⟨fun c => k 0 m ⟨fun e => absurd e (by decide), fun ts => False.elim ((show ¬ (isT J (p : Int) (eN E tt ss) (eN E tt (1 - ss)) t x ↔ t.2.1 = 1) from ts) ⟨fun a => ?_, fun a => ?_⟩)⟩ gm fm, fun c => k 1 m ⟨fun _ => (show ¬ (isT J (p : Int) (eN E tt ss) (eN E tt (1 - ss)) t x ↔ t.2.1 = 1) from fun h => ?_), fun _ => rfl⟩ gm fm⟩
    · have := hz.mpr a; omega
    · exact hz.mp (by omega)
    · rcases hz01 with c0 | c0
      · have := hz.mpr (h.mpr (by omega)); omega
      · have := h.mp (hz.mp c0); omega
  have cv : ∀ v : Int, μ 134 ((i : Int)).toNat = v → μ 134 i = v := fun v e => by rw [Int.toNat_natCast] at e; exact e
  have cw : ∀ v : Int, μ 135 ((i : Int)).toNat = v → μ 135 i = v := fun v e => by rw [Int.toNat_natCast] at e; exact e
  refine ⟨fun n4 => ⟨fun n6 => ⟨fun n8 => ⟨fun n9 => ⟨fun n10 => ⟨fun n11 => ⟨fun n12 => ⟨fun n13 => ⟨fun n14 => ?_, fun g v ev _ u eu _ => ?_⟩, fun g v ev _ u eu _ y ey _ => ?_⟩, fun g v ev _ u eu _ y ey _ => ?_⟩, fun g u eu _ y ey _ => ?_⟩, fun g => ?_⟩, fun g v ev _ => ?_⟩, fun g v ev _ => ?_⟩, fun g => ?_⟩, fun g L eL rL u eu _ => ?_⟩
  · have g : t.1 = 15 := by have := ok.1; omega
    have I := isT.c15 (J := J) (p := (p : Int)) (d := eN E tt ss) (q := eN E tt (1 - ss)) (r := x) g
    have J2 : ∀ b : Int, b = begN (eN E tt ss) (wOf x) → WJ_X12_isSo_W_2 w μ (i : Int) Q fx b := by
      intro b hb _ td etd rtd
      refine X12_judged_s hg ⟨fx0, by omega⟩ fun m gm fm _ _ rz y ey _ => ?_
      have ev := vd fx b fx0 rf'.2
      rw [etd] at ev
      rw [ev] at rz ⊢
      rw [x1, ← hb] at I
      rw [Int.toNat_natCast, fm 134 i (by omega), t15 g] at ey
      have o15 := ok.2.2.2.2 g
      unfold wdV at ey
      refine ⟨fun c => ⟨fun c2 => ⟨fun c3 => J1 0 m (Or.inl rfl) ⟨fun e => absurd e (by decide), fun e => ?_⟩ gm fm, fun c3 => J1 1 m (Or.inr rfl) ⟨fun _ => I.mpr ?_, fun _ => rfl⟩ gm fm⟩, fun c2 => ⟨fun c3 => J1 0 m (Or.inl rfl) ⟨fun e => absurd e (by decide), fun e => ?_⟩ gm fm, fun c3 => J1 1 m (Or.inr rfl) ⟨fun _ => I.mpr ?_, fun _ => rfl⟩ gm fm⟩⟩, fun c => ⟨fun c3 => J1 0 m (Or.inl rfl) ⟨fun e => absurd e (by decide), fun e => ?_⟩ gm fm, fun c3 => J1 1 m (Or.inr rfl) ⟨fun _ => I.mpr ?_, fun _ => rfl⟩ gm fm⟩⟩
      · have e := I.mp e
        rw [if_neg (by omega), if_neg (by omega)] at ey
        omega
      · by_cases a1 : t.2.2.1 = 1
        · rw [if_pos a1] at ey; omega
        · rw [if_neg a1] at ey
          by_cases a2 : t.2.2.1 = 2
          · rw [if_pos a2] at ey; omega
          · omega
      · have e := I.mp e
        rw [if_neg (by omega), if_pos (by omega)] at ey
        omega
      · by_cases a1 : t.2.2.1 = 1
        · rw [if_pos a1] at ey; omega
        · rw [if_neg a1] at ey
          by_cases a2 : t.2.2.1 = 2
          · omega
          · rw [if_neg a2] at ey; omega
      · have e := I.mp e
        rw [if_pos (by omega)] at ey
        omega
      · by_cases a1 : t.2.2.1 = 1
        · omega
        · rw [if_neg a1] at ey
          by_cases a2 : t.2.2.1 = 2
          · rw [if_pos a2] at ey; omega
          · rw [if_neg a2] at ey; omega
    have lN : (wOf x).length = n.toNat := by omega
    refine ⟨fun c v ev _ => J2 v ?_, fun c => J2 _ ?_⟩
    · unfold begN
      rw [if_neg (by omega), lN, ← wyr, en, lgt.row (f := fun k => μ 126 (40 * r + 6 + (k : Int)).toNat) (by omega), ← ev]
      congr 1
      omega
    · unfold begN
      rw [if_pos (by omega)]
  · have I := isT.c14 (J := J) (p := (p : Int)) (d := eN E tt ss) (q := eN E tt (1 - ss)) (r := x) g
    have x3 : x.2.2.1 = v := by rw [er]; exact ev
    have a1 := t8 (Or.inr (Or.inr g))
    rw [cv u eu] at a1
    rw [x3, ← a1] at I
    exact ⟨fun c => J1 0 μ (Or.inl rfl) ⟨fun e => absurd e (by decide), fun e => absurd (I.mp e) c⟩ hg frV.refl, fun c => J1 1 μ (Or.inr rfl) ⟨fun _ => I.mpr c, fun _ => rfl⟩ hg frV.refl⟩
  · have I := isT.c13 (J := J) (p := (p : Int)) (d := eN E tt ss) (q := eN E tt (1 - ss)) (r := x) g
    have x3 : x.2.2.2.1 = v := by rw [er]; exact ev
    have a1 := t11 (by omega)
    rw [cw u eu, cv y ey] at a1
    rw [x3, ← a1.2] at I
    rw [a1.1]
    exact X12_related_s (ok.2.2.2.1 (by omega)) fun z hz rz => J1 z μ (by omega) (hz.trans I.symm) hg frV.refl
  · have I := isT.c12 (J := J) (p := (p : Int)) (d := eN E tt ss) (q := eN E tt (1 - ss)) (r := x) g
    have x3 : x.2.1 = v := by rw [er]; exact ev
    have a1 := t11 (by omega)
    rw [cw u eu, cv y ey] at a1
    rw [x3, ← a1.2] at I
    rw [a1.1]
    exact X12_related_s (ok.2.2.2.1 (by omega)) fun z hz rz => J1 z μ (by omega) (hz.trans I.symm) hg frV.refl
  · have I := isT.c11 (J := J) (p := (p : Int)) (d := eN E tt ss) (q := eN E tt (1 - ss)) (r := x) g
    have a1 := t11 (by omega)
    rw [cw u eu, cv y ey] at a1
    rw [wlen, ← a1.2] at I
    rw [a1.1]
    exact X12_related_s (ok.2.2.2.1 (by omega)) fun z hz rz => J1 z μ (by omega) (hz.trans I.symm) hg frV.refl
  · have I := isT.c10 (J := J) (p := (p : Int)) (d := eN E tt ss) (q := eN E tt (1 - ss)) (r := x) g
    refine X12_tieWord_s hE ti ht hs ?_
    intro _ v ev _
    have a1 := t10 g
    rw [cv v ev] at a1
    rw [ro]
    exact ⟨fun c => J1 0 μ (Or.inl rfl) ⟨fun e => absurd e (by decide), fun e => by have := I.mp e; omega⟩ hg frV.refl, fun c => J1 1 μ (Or.inr rfl) ⟨fun _ => I.mpr (by omega), fun _ => rfl⟩ hg frV.refl⟩
  · have I := isT.c9 (J := J) (p := (p : Int)) (d := eN E tt ss) (q := eN E tt (1 - ss)) (r := x) g
    have a1 := t8 (Or.inr (Or.inl g))
    rw [cv v ev] at a1
    rw [← a1] at I
    exact ⟨fun c => J1 0 μ (Or.inl rfl) ⟨fun e => absurd e (by decide), fun e => absurd (I.mp e) c⟩ hg frV.refl, fun c => J1 1 μ (Or.inr rfl) ⟨fun _ => I.mpr c, fun _ => rfl⟩ hg frV.refl⟩
  · have I := isT.c8 (J := J) (p := (p : Int)) (d := eN E tt ss) (q := eN E tt (1 - ss)) (r := x) g
    have a1 := t8 (Or.inl g)
    rw [cv v ev] at a1
    rw [← a1, ← mkr] at I
    exact X12_marked_s hr fun z hz rz => J1 z μ (by omega) (hz.trans I.symm) hg frV.refl
  · have I := isT.c6 (J := J) (p := (p : Int)) (d := eN E tt ss) (q := eN E tt (1 - ss)) (r := x) g
    obtain ⟨b1, b2, b3⟩ := t6 g
    exact X12_waysMatch_s wyr pl b1 b2 b3 fun z hz rz => J1 z μ (by omega) (hz.trans I.symm) hg frV.refl
  · have I := isT.c4 (J := J) (p := (p : Int)) (d := eN E tt ss) (q := eN E tt (1 - ss)) (r := x) g
    obtain ⟨b1, b2, b3⟩ := t4 g
    obtain ⟨c7, c8⟩ := tb fx.toNat (by omega)
    rw [cw u eu] at b2
    obtain ⟨o4, o5, o6⟩ := ok.2.2.1 g
    rw [← b2] at o4 o6
    have eL' : jL J x.1.toNat = L := by rw [x1, ← c8, eL]
    rw [← b2, eL'] at I
    refine ⟨fun c => J1 0 μ (Or.inl rfl) ⟨fun e => absurd e (by decide), fun e => by have := (I.mp e).1; omega⟩ hg frV.refl, fun c v ev rv y ey ry => ?_⟩
    rw [cv v ev] at b1
    rw [← b1] at o5 o6 I
    have ey' : jA J x.1.toNat = y := by rw [x1, ← c7, ey]
    rw [ey'] at I
    have C := bCover (aq := y) o5 o6
    refine X12_holds_s o4 fun z hz rz => ⟨fun c2 => J1 0 μ (Or.inl rfl) ⟨fun e => absurd e (by decide), fun e => ?_⟩ hg frV.refl, fun c2 s es rs => ?_⟩
    · have := hz.mpr (C.mp (I.mp e).2.2)
      omega
    · rw [Int.toNat_natCast, b3] at es
      rw [es] at I
      exact ⟨fun c3 => J1 0 μ (Or.inl rfl) ⟨fun e => absurd e (by decide), fun e => by have := (I.mp e).2.1; omega⟩ hg frV.refl, fun c3 => J1 1 μ (Or.inr rfl) ⟨fun _ => I.mpr ⟨c, c3, C.mpr (hz.mp (by omega))⟩, fun _ => rfl⟩ hg frV.refl⟩
end SoR
/-! Going through, one thing after another: a stack of policies: what rows, what acts are left of each. -/
abbrev Fr : Type := Int × List Rw × List Act
noncomputable def runS (g : Int → Js → Je) (T : Int → Tst → Rt → Prop) : List Fr → Js → Je
  | [], s => (0, s)
  | f :: st, s => if (doA g f.2.2 s).1 = 0 then (if (goR g (T f.1) f.2.1 (doA g f.2.2 s).2).1 = 0 then runS g T st (goR g (T f.1) f.2.1 (doA g f.2.2 s).2).2 else goR g (T f.1) f.2.1 (doA g f.2.2 s).2) else doA g f.2.2 s
section RunS
variable {g : Int → Js → Je} {T : Int → Tst → Rt → Prop} {p : Int} {l l' pre : List Rw} {y : Rw} {a : Act} {al : List Act} {st : List Fr} {s : Js}
theorem runS.cons {f : Fr} : runS g T (f :: st) s = if (doA g f.2.2 s).1 = 0 then (if (goR g (T f.1) f.2.1 (doA g f.2.2 s).2).1 = 0 then runS g T st (goR g (T f.1) f.2.1 (doA g f.2.2 s).2).2 else goR g (T f.1) f.2.1 (doA g f.2.2 s).2) else doA g f.2.2 s := rfl
theorem doA.full (h : 500 ≤ s.1) : doA g (a :: al) s = (2, s) := by
  show (if 500 ≤ s.1 then (2, s) else _) = _
  rw [if_pos h]
theorem doA.one (h : ¬ 500 ≤ s.1) : doA g (a :: al) s = if (actS g a (s.1 + 1, s.2)).1 = 0 then doA g al (actS g a (s.1 + 1, s.2)).2 else actS g a (s.1 + 1, s.2) := by
  show (if 500 ≤ s.1 then (2, s) else if (actS g a (s.1 + 1, s.2)).1 = 0 then doA g al (actS g a (s.1 + 1, s.2)).2 else actS g a (s.1 + 1, s.2)) = _
  rw [if_neg h]
theorem runS.full (h : 500 ≤ s.1) : runS g T ((p, l, a :: al) :: st) s = (2, s) := by
  rw [runS.cons]
  show (if (doA g (a :: al) s).1 = 0 then _ else doA g (a :: al) s) = _
  rw [doA.full h]
  exact if_neg (show ¬ (2 : Int) = 0 by decide)
theorem runS.act (h : ¬ 500 ≤ s.1) : runS g T ((p, l, a :: al) :: st) s = if (actS g a (s.1 + 1, s.2)).1 = 0 then runS g T ((p, l, al) :: st) (actS g a (s.1 + 1, s.2)).2 else actS g a (s.1 + 1, s.2) := by
  rw [runS.cons, runS.cons]
  show (if (doA g (a :: al) s).1 = 0 then (if (goR g (T p) l (doA g (a :: al) s).2).1 = 0 then runS g T st (goR g (T p) l (doA g (a :: al) s).2).2 else goR g (T p) l (doA g (a :: al) s).2) else doA g (a :: al) s) = (if (actS g a (s.1 + 1, s.2)).1 = 0 then (if (doA g al (actS g a (s.1 + 1, s.2)).2).1 = 0 then (if (goR g (T p) l (doA g al (actS g a (s.1 + 1, s.2)).2).2).1 = 0 then runS g T st (goR g (T p) l (doA g al (actS g a (s.1 + 1, s.2)).2).2).2 else goR g (T p) l (doA g al (actS g a (s.1 + 1, s.2)).2).2) else doA g al (actS g a (s.1 + 1, s.2)).2) else actS g a (s.1 + 1, s.2))
  rw [doA.one h]
  by_cases c : (actS g a (s.1 + 1, s.2)).1 = 0
  · rw [if_pos c, if_pos c]
  · rw [if_neg c, if_neg c, if_neg c]
theorem goR.skip : ∀ {pre : List Rw}, (∀ x ∈ pre, ¬ ∀ t ∈ x.1, T p t s.2) → goR g (T p) (pre ++ l) s = goR g (T p) l s
  | [], _ => rfl
  | x :: pre, h => by
    show cIf (∀ t ∈ x.1, T p t s.2) _ (goR g (T p) (pre ++ l) s) = _
    rw [cIf.neg (h x List.mem_cons_self)]
    exact goR.skip fun y hy => h y (List.mem_cons_of_mem _ hy)
theorem runS.idle : runS g T ((p, l, []) :: st) s = if (goR g (T p) l s).1 = 0 then runS g T st (goR g (T p) l s).2 else goR g (T p) l s := by
  rw [runS.cons]
  show (if ((0 : Int), s).1 = 0 then (if (goR g (T p) l s).1 = 0 then runS g T st (goR g (T p) l s).2 else goR g (T p) l s) else (0, s)) = _
  exact if_pos rfl
theorem runS.row (h : ∀ x ∈ pre, ¬ ∀ t ∈ x.1, T p t s.2) (hy : ∀ t ∈ y.1, T p t s.2) : runS g T ((p, pre ++ y :: l', []) :: st) s = runS g T ((p, l', y.2) :: st) s := by
  rw [runS.idle, goR.skip h, runS.cons]
  have e : goR g (T p) (y :: l') s = if (doA g y.2 s).1 = 0 then goR g (T p) l' (doA g y.2 s).2 else doA g y.2 s := cIf.pos hy
  rw [e]
  show _ = (if (doA g y.2 s).1 = 0 then (if (goR g (T p) l' (doA g y.2 s).2).1 = 0 then runS g T st (goR g (T p) l' (doA g y.2 s).2).2 else goR g (T p) l' (doA g y.2 s).2) else doA g y.2 s)
  by_cases c : (doA g y.2 s).1 = 0
  · rw [if_pos c, if_pos c]
  · rw [if_neg c, if_neg c, if_neg c]
theorem runS.pop (h : ∀ x ∈ l, ¬ ∀ t ∈ x.1, T p t s.2) : runS g T ((p, l, []) :: st) s = runS g T st s := by
  have e : goR g (T p) l s = (0, s) := by
    have := goR.skip (g := g) (l := []) h
    rw [List.append_nil] at this
    exact this
  rw [runS.idle, e]
  exact if_pos rfl
theorem runS.call {c : Int} (e : g c s = goR g (T c) l' s) : (if (g c s).1 = 0 then runS g T ((p, l, al) :: st) (g c s).2 else g c s) = runS g T ((c, l', []) :: (p, l, al) :: st) s := by
  rw [runS.idle, e]
end RunS
def frm (J : Ju) (μ m : mM) (lv : Nat) (f : Fr) : Prop := ∃ (p : Nat) (row : Int) (t a c : Nat), (f.1 = (p : Int) ∧ (p : Int) < μ 106 39) ∧ (m 151 lv = (p : Int) ∧ m 152 lv = row ∧ m 153 lv = (c : Int)) ∧ -1 ≤ row ∧ rwR μ p (row + 1).toNat t a f.2.1 ∧ row + 1 + (f.2.1.length : Int) = ((jP J (p : Int)).1.length : Int) ∧ (∀ x ∈ f.2.1, x ∈ (jP J (p : Int)).1) ∧ (∀ y ∈ f.2.2, aOk (p : Int) y) ∧ (row = -1 → f.2.2 = []) ∧ (0 ≤ row → μ 129 (31 * p + (row + 1).toNat) = (a : Int) ∧ c + f.2.2.length = a ∧ acR μ (300 * p + c) f.2.2)
def stk (J : Ju) (μ m : mM) : List Fr → Prop
  | [] => True
  | f :: st => frm J μ m st.length f ∧ stk J μ m st
theorem frm.cg {J : Ju} {μ m m1 : mM} {lv : Nat} {f : Fr} (h : frm J μ m lv f) (e : ∀ b, 151 ≤ b → b ≤ 153 → m1 b lv = m b lv) : frm J μ m1 lv f := by
  obtain ⟨p, row, t, a, c, h1, ⟨h2, h3, h4⟩, h5⟩ := h
  exact ⟨p, row, t, a, c, h1, ⟨(e 151 (by omega) (by omega)).trans h2, (e 152 (by omega) (by omega)).trans h3, (e 153 (by omega) (by omega)).trans h4⟩, h5⟩
theorem stk.cg {J : Ju} {μ m m1 : mM} : ∀ {st : List Fr}, stk J μ m st → (∀ b i, 151 ≤ b → b ≤ 153 → i < st.length → m1 b i = m b i) → stk J μ m1 st
  | [], _, _ => trivial
  | f :: st, ⟨h1, h2⟩, e => ⟨h1.cg fun b q1 q2 => e b st.length q1 q2 (by rw [List.length_cons]; omega), stk.cg h2 fun b i q1 q2 q3 => e b i q1 q2 (by rw [List.length_cons]; omega)⟩
def stL : List Fr → Nat
  | [] => 0
  | f :: st => f.2.1.length + 1 + stL st
theorem loopF.gh {σ : Type} {B : (σ → Prop) → σ → Prop} (I : σ → Nat → Prop) (step : ∀ (rec : σ → Prop) (s : σ) (k : Nat), I s k → (∀ s' k', I s' k' → k' < k → rec s') → B rec s) : ∀ (n : Nat) (s : σ) (k : Nat), I s k → k < n → loopF B False n s
  | 0, _, _, _, h => absurd h (Nat.not_lt_zero _)
  | n + 1, s, k, hI, h => step (loopF B False n) s k hI fun s' k' hI' h' => loopF.gh I step n s' k' hI' (by omega)
theorem frT.eb {μ m : mM} {r : Int} (h : frT μ m r) : ∀ b, (108 ≤ b ∧ b ≤ 111) ∨ (119 ≤ b ∧ b ≤ 125) ∨ (127 ≤ b ∧ b ≤ 144) → m b = μ b := fun b hb => funext fun i => h b i (by omega) (by omega) (by omega) (by omega) (by omega)
theorem frT.lo {μ m : mM} {r : Int} (h : frT μ m r) {i : Nat} (hi : i < 26 ∨ 31 < i) : m 106 i = μ 106 i := h 106 i (by omega) (by omega) (by omega) (by omega) (by omega)
theorem frV.t {μ m n : mM} {r : Int} (h : frT μ m r) (k : frV m n) : frT μ n r := fun b i h1 h2 h3 h4 h5 => (k b i h5).trans (h b i h1 h2 h3 h4 h5)
theorem frV.rt {w : mW} {m n : mM} {r : Int} (k : frV m n) (hw : mWF w) (hT : mT w m) (hr : 0 ≤ r) : rtR n r = rtR m r := rtR.cg (hT.rb hw hr).1.2 (hT.rb hw hr).2.2 fun j _ => k _ _ (by omega)
theorem tsR.cg {μ m : mM} {i : Nat} {t : Tst} (h : tsR μ i t) (e : ∀ b, 132 ≤ b → b ≤ 139 → m b = μ b) : tsR m i t := by
  unfold tsR at h ⊢
  rw [e 132 (by omega) (by omega), e 133 (by omega) (by omega), e 134 (by omega) (by omega), e 135 (by omega) (by omega), e 136 (by omega) (by omega), e 137 (by omega) (by omega), e 138 (by omega) (by omega), e 139 (by omega) (by omega)]
  exact h
section Thr
variable {w : mW} {μ : mM}
/-- a test, anywhere on the way -/
theorem X12_isSo_t {J : Ju} {E : En} {p i tt ss : Nat} {r : Int} {t : Tst} {x x0 : Rt} {m : mM} {Q : Int → mM → Prop} (jg : jgR μ J) (hE : enR μ E) (ti : tiG E) (ht : tt < eT E) (hs : ss < 2) (ro : roK (μ 111 tt) ss = jR J (eN E tt ss) (eN E tt (1 - ss))) (hr : 0 ≤ r) (hxp : x0.1 < μ 106 2) (fr : frT μ m r) (hx : rtR m r = some x) (hx0 : x.1 = x0.1) (hg : gJ m) (hp : (p : Int) < μ 106 39) (hts : tsR μ i t) (ok : tOk t)
    (k : ∀ (z : Int) (m1 : mM), (z = 1 ↔ tsT J (p : Int) (eN E tt ss) (eN E tt (1 - ss)) t x) → gJ m1 → frV m m1 → Q z m1) : WP_X12_isSo_W w m (p : Int) (i : Int) r (eN E tt ss) (eN E tt (1 - ss)) (tt : Int) Q := by
  have eb := fr.eb
  obtain ⟨j1, j2, j3⟩ := jg
  obtain ⟨_, _, s1, s2⟩ := j1 p hp
  refine X12_isSo_s hr hx (by rw [hx0, fr.lo (by omega)]; exact hxp) (fun t h => by rw [eb 110 (by omega)]; exact hE t h) ti ht hs (by rw [eb 111 (by omega)]; exact ro) ⟨by rw [eb 142 (by omega)]; exact s1, fun k hk => by rw [eb 143 (by omega), eb 144 (by omega)]; exact s2 k hk⟩ (hts.cg fun b h1 h2 => eb b (by omega)) ok (fun i hi => by rw [eb 108 (by omega), eb 109 (by omega)]; exact j2 i hi) (fun x n h0 h9 => ?_) hg k
  rw [fr.lo (i := 17) (by omega), ← j3 x n h0 h9]
  exact vR.cg (fun b i hb => by rw [eb b (by omega)]) (fr.lo (by omega))
/-- the next row whose tests hold -/
theorem thr_find1 {J : Ju} {E : En} {p tt ss r0 t0 a0 : Nat} {r dp dn n row : Int} {l : List Rw} {x x0 : Rt} {m : mM} {rc : Int × Int × mM → Prop} (hw : mWF w) (ok : jOk J) (jg : jgR μ J) (hE : enR μ E) (ti : tiG E) (ht : tt < eT E) (hs : ss < 2) (ro : roK (μ 111 tt) ss = jR J (eN E tt ss) (eN E tt (1 - ss))) (hr : 0 ≤ r) (hxp : x0.1 < μ 106 2) (hp : (p : Int) < μ 106 39)
    (fr : frT μ m r) (T : mT w m) (hx : rtR m r = some x) (hx0 : x.1 = x0.1) (hg : gJ m) (hrow : row = (r0 : Int)) (hl : rwR μ p r0 t0 a0 l) (hlen : row + (l.length : Int) = n) (hin : ∀ y ∈ l, y ∈ (jP J (p : Int)).1)
    (k0 : (∀ y ∈ l, ¬ ∀ t ∈ y.1, tsT J (p : Int) (eN E tt ss) (eN E tt (1 - ss)) t x) → ∀ m2 : mM, gJ m2 → frV m m2 → rc (dp + (-1), dn, m2))
    (k1 : ∀ (pre l' : List Rw) (y : Rw) (t1 a1 : Nat), l = pre ++ y :: l' → (∀ y ∈ pre, ¬ ∀ t ∈ y.1, tsT J (p : Int) (eN E tt ss) (eN E tt (1 - ss)) t x) → (∀ t ∈ y.1, tsT J (p : Int) (eN E tt ss) (eN E tt (1 - ss)) t x) → rwR μ p (r0 + pre.length) t1 a1 (y :: l') → ∀ m2 : mM, gJ m2 → frV m m2 → rc (dp, dn, mUp (mUp m2 152 (dp - 1).toNat (row + (pre.length : Int))) 153 (dp - 1).toNat (a1 : Int))) : loopF (WL_X12_through_W_2 w r (eN E tt ss) (eN E tt (1 - ss)) (tt : Int) rc dp dn m (p : Int) n) False 71 (row, 0, m) := by
  have eb := fr.eb
  have WJ : ∀ (row2 found : Int) (m2 : mM), gJ m2 → frV m m2 → (found = 0 → ∀ y ∈ l, ¬ ∀ t ∈ y.1, tsT J (p : Int) (eN E tt ss) (eN E tt (1 - ss)) t x) → (¬ found = 0 → ∃ (pre l' : List Rw) (y : Rw) (t1 a1 : Nat), l = pre ++ y :: l' ∧ (∀ y ∈ pre, ¬ ∀ t ∈ y.1, tsT J (p : Int) (eN E tt ss) (eN E tt (1 - ss)) t x) ∧ (∀ t ∈ y.1, tsT J (p : Int) (eN E tt ss) (eN E tt (1 - ss)) t x) ∧ rwR μ p (r0 + pre.length) t1 a1 (y :: l') ∧ row2 = row + (pre.length : Int)) → WJ_X12_through_W_3 w rc dp dn (p : Int) row2 found m2 := by
    intro row2 found m2 g2 f2 n0 n1
    refine ⟨fun c m3 u3 T3 a ea _ m4 u4 T4 => ?_, fun c => ⟨fun _ => k0 (n0 c) m2 g2 f2, fun _ _ _ _ => k0 (n0 c) m2 g2 f2⟩⟩
    obtain ⟨pre, l', y, t1, a1, e1, e2, e3, e4, e5⟩ := n1 c
    obtain rfl := u3.is
    obtain rfl := u4.is
    have ea' : a = (a1 : Int) := by
      rw [← ea, mUp.no (by omega), f2 129 _ (by omega), eb 129 (by omega), show (31 * (p : Int) + row2).toNat = 31 * p + (r0 + pre.length) by omega]
      exact e4.1.2
    subst ea' e5
    exact k1 pre l' y t1 a1 e1 e2 e3 e4 m2 g2 f2
  refine loopF.iim (fun row2 found m2 => gJ m2 ∧ frV m m2 ∧ ∃ (pre rest : List Rw) (t1 a1 : Nat), l = pre ++ rest ∧ row2 = row + (pre.length : Int) ∧ rwR μ p (r0 + pre.length) t1 a1 rest ∧ (∀ y ∈ pre, ¬ ∀ t ∈ y.1, tsT J (p : Int) (eN E tt ss) (eN E tt (1 - ss)) t x) ∧ (¬ found = 0 → ∃ (l' : List Rw) (y : Rw), rest = y :: l' ∧ ∀ t ∈ y.1, tsT J (p : Int) (eN E tt ss) (eN E tt (1 - ss)) t x)) (fun row2 found => (2 * (31 - row2) + (1 - found)).toNat) ⟨hg, frV.refl, [], l, t0, a0, rfl, by show row = row + ((0 : Nat) : Int); omega, hl, (fun y hy => by cases hy), fun c => absurd rfl c⟩ (by omega) ?_
  rintro rec2 row2 found m2 ⟨g2, f2, pre, rest, t1, a1, e1, e2, e3, e4, e5⟩ ih row' found' m' ee rrow rf T2 F2
  cases ee
  have len : l.length = pre.length + rest.length := by rw [e1, List.length_append]
  have yes : ¬ found = 0 → WJ_X12_through_W_3 w rc dp dn (p : Int) row2 found m2 := fun c => WJ row2 found m2 g2 f2 (fun h => absurd h c) fun _ => by
    obtain ⟨l', y, h1, h2⟩ := e5 c
    rw [h1] at e1 e3
    exact ⟨pre, l', y, t1, a1, e1, e4, h2, e3, e2⟩
  refine ⟨fun c => ?_, fun c => ⟨yes, fun c2 t2 et2 _ => ?_⟩⟩
  · by_cases c2 : found = 0
    · refine WJ row2 found m2 g2 f2 (fun _ => ?_) fun h => absurd c2 h
      have en : rest = [] := List.eq_nil_of_length_eq_zero (by omega)
      rw [en, List.append_nil] at e1
      rw [e1]; exact e4
    · exact yes c2
  cases rest with
  | nil => exfalso; have len : l.length = pre.length + 0 := len; omega
  | cons y rest =>
  obtain ⟨⟨q1, q2⟩, ⟨q3, q4⟩, q5, q6, q7⟩ := e3
  have yin : y ∈ (jP J (p : Int)).1 := hin y (by rw [e1]; exact List.mem_append_right _ List.mem_cons_self)
  have yok := ok (p : Int) (by omega) y yin
  have t2' : t2 = (t1 : Int) := by
    rw [← et2, f2 128 _ (by omega), eb 128 (by omega), show (31 * (p : Int) + row2).toNat = 31 * p + (r0 + pre.length) by omega]
    exact q1
  subst t2'
  refine loopF.iim (fun f j m3 => gJ m3 ∧ frV m m3 ∧ (f = 0 ∨ f = 1) ∧ ∃ (pt rt : List Tst), y.1 = pt ++ rt ∧ j = (t1 : Int) + (pt.length : Int) ∧ tsAR μ (300 * p + t1 + pt.length) rt ∧ (f = 0 → ¬ ∀ t ∈ y.1, tsT J (p : Int) (eN E tt ss) (eN E tt (1 - ss)) t x) ∧ (¬ f = 0 → ∀ t ∈ pt, tsT J (p : Int) (eN E tt ss) (eN E tt (1 - ss)) t x)) (fun _ j => (301 - j).toNat) ⟨g2, f2, Or.inr rfl, [], y.1, rfl, by show (t1 : Int) = (t1 : Int) + ((0 : Nat) : Int); omega, q5, fun h => absurd h (by decide), fun _ t ht => by cases ht⟩ (by omega) ?_
  rintro rec4 f j m3 ⟨g3, f3, f01, pt, rt, d1, d2, d3, d4, d5⟩ ih4 f' j' m3' ee4 rf4 rj4 T3 F3 te ete rte
  cases ee4
  have lent : y.1.length = pt.length + rt.length := by rw [d1, List.length_append]
  have te' : te = (t1 : Int) + (y.1.length : Int) := by
    have ete' := ete
    rw [f3 128 _ (by omega), eb 128 (by omega), show (31 * (p : Int) + row2 + 1).toNat = 31 * p + (r0 + pre.length) + 1 by omega, q3] at ete'
    omega
  have nxt : f = 0 → rec2 (row2 + 1, f, m3) := fun c3 => ih _ _ _ ⟨g3, f3, pre ++ [y], rest, _, _, by rw [e1, List.append_assoc]; rfl, by rw [List.length_append, List.length_singleton]; omega, by rw [List.length_append, List.length_singleton]; exact q7, fun z hz => by
    rcases List.mem_append.mp hz with h | h
    · exact e4 z h
    · rw [List.mem_singleton.mp h]; exact d4 c3, fun h => absurd c3 h⟩ (by omega)
  refine ⟨fun c3 => ⟨fun c4 => ih _ _ _ ⟨g3, f3, pre, y :: rest, t1, a1, e1, e2, ⟨⟨q1, q2⟩, ⟨q3, q4⟩, q5, q6, q7⟩, e4, fun _ => ⟨rest, y, rfl, ?_⟩⟩ (by omega), nxt⟩, fun c3 => ⟨nxt, fun c4 => ?_⟩⟩
  · have en : rt = [] := List.eq_nil_of_length_eq_zero (by omega)
    rw [en, List.append_nil] at d1
    rw [d1]; exact d5 c4
  cases rt with
  | nil => exfalso; have lent : y.1.length = pt.length + 0 := lent; omega
  | cons t rt =>
  obtain ⟨s1, s2⟩ := d3
  have tin : t ∈ y.1 := by rw [d1]; exact List.mem_append_right _ List.mem_cons_self
  rw [show 300 * (p : Int) + j = ((300 * p + t1 + pt.length : Nat) : Int) by omega]
  refine X12_isSo_t jg hE ti ht hs ro hr hxp (frV.t fr f3) (by rw [f3.rt hw T hr]; exact hx) hx0 g3 hp s1 (yok.1 t tin) fun z m4 hz g4 f4 T4 F4 rz => ih4 _ _ _ ⟨g4, f3.trans f4, by omega, pt ++ [t], rt, by rw [d1, List.append_assoc]; rfl, by rw [List.length_append, List.length_singleton]; omega, by rw [List.length_append, List.length_singleton]; exact s2, fun h all => by have := hz.mpr (all t tin); omega, fun h t' ht' => ?_⟩ (by omega)
  rcases List.mem_append.mp ht' with h2 | h2
  · exact d5 c4 t' h2
  · rw [List.mem_singleton.mp h2]; exact hz.mp (by omega)
/-- the next row whose tests hold -/
theorem thr_find2 {J : Ju} {E : En} {p tt ss r0 t0 a0 : Nat} {r dp dn n row : Int} {l : List Rw} {x x0 : Rt} {m : mM} {rc : Int × Int × mM → Prop} (hw : mWF w) (ok : jOk J) (jg : jgR μ J) (hE : enR μ E) (ti : tiG E) (ht : tt < eT E) (hs : ss < 2) (ro : roK (μ 111 tt) ss = jR J (eN E tt ss) (eN E tt (1 - ss))) (hr : 0 ≤ r) (hxp : x0.1 < μ 106 2) (hp : (p : Int) < μ 106 39)
    (fr : frT μ m r) (T : mT w m) (hx : rtR m r = some x) (hx0 : x.1 = x0.1) (hg : gJ m) (hrow : row = (r0 : Int)) (hr1 : 1 ≤ r0) (hl : rwR μ p r0 t0 a0 l) (hlen : row + (l.length : Int) = n) (hin : ∀ y ∈ l, y ∈ (jP J (p : Int)).1)
    (k0 : (∀ y ∈ l, ¬ ∀ t ∈ y.1, tsT J (p : Int) (eN E tt ss) (eN E tt (1 - ss)) t x) → ∀ m2 : mM, gJ m2 → frV m m2 → rc (dp + (-1), dn, m2))
    (k1 : ∀ (pre l' : List Rw) (y : Rw) (t1 a1 : Nat), l = pre ++ y :: l' → (∀ y ∈ pre, ¬ ∀ t ∈ y.1, tsT J (p : Int) (eN E tt ss) (eN E tt (1 - ss)) t x) → (∀ t ∈ y.1, tsT J (p : Int) (eN E tt ss) (eN E tt (1 - ss)) t x) → rwR μ p (r0 + pre.length) t1 a1 (y :: l') → ∀ m2 : mM, gJ m2 → frV m m2 → rc (dp, dn, mUp (mUp m2 152 (dp - 1).toNat (row + (pre.length : Int))) 153 (dp - 1).toNat (a1 : Int))) : loopF (WL_X12_through_W_10 w r (eN E tt ss) (eN E tt (1 - ss)) (tt : Int) rc dp dn m (p : Int) n) False 69 (row, 0, m) := by
  have eb := fr.eb
  have WJ : ∀ (row2 found : Int) (m2 : mM), gJ m2 → frV m m2 → (found = 0 → ∀ y ∈ l, ¬ ∀ t ∈ y.1, tsT J (p : Int) (eN E tt ss) (eN E tt (1 - ss)) t x) → (¬ found = 0 → ∃ (pre l' : List Rw) (y : Rw) (t1 a1 : Nat), l = pre ++ y :: l' ∧ (∀ y ∈ pre, ¬ ∀ t ∈ y.1, tsT J (p : Int) (eN E tt ss) (eN E tt (1 - ss)) t x) ∧ (∀ t ∈ y.1, tsT J (p : Int) (eN E tt ss) (eN E tt (1 - ss)) t x) ∧ rwR μ p (r0 + pre.length) t1 a1 (y :: l') ∧ row2 = row + (pre.length : Int)) → WJ_X12_through_W_11 w rc dp dn (p : Int) row2 found m2 := by
    intro row2 found m2 g2 f2 n0 n1
    refine ⟨fun c m3 u3 T3 a ea _ m4 u4 T4 => ?_, fun c => ⟨fun _ => k0 (n0 c) m2 g2 f2, fun _ _ _ _ => k0 (n0 c) m2 g2 f2⟩⟩
    obtain ⟨pre, l', y, t1, a1, e1, e2, e3, e4, e5⟩ := n1 c
    obtain rfl := u3.is
    obtain rfl := u4.is
    have ea' : a = (a1 : Int) := by
      rw [← ea, mUp.no (by omega), f2 129 _ (by omega), eb 129 (by omega), show (31 * (p : Int) + row2).toNat = 31 * p + (r0 + pre.length) by omega]
      exact e4.1.2
    subst ea' e5
    exact k1 pre l' y t1 a1 e1 e2 e3 e4 m2 g2 f2
  refine loopF.iim (fun row2 found m2 => gJ m2 ∧ frV m m2 ∧ ∃ (pre rest : List Rw) (t1 a1 : Nat), l = pre ++ rest ∧ row2 = row + (pre.length : Int) ∧ rwR μ p (r0 + pre.length) t1 a1 rest ∧ (∀ y ∈ pre, ¬ ∀ t ∈ y.1, tsT J (p : Int) (eN E tt ss) (eN E tt (1 - ss)) t x) ∧ (¬ found = 0 → ∃ (l' : List Rw) (y : Rw), rest = y :: l' ∧ ∀ t ∈ y.1, tsT J (p : Int) (eN E tt ss) (eN E tt (1 - ss)) t x)) (fun row2 found => (2 * (31 - row2) + (1 - found)).toNat) ⟨hg, frV.refl, [], l, t0, a0, rfl, by show row = row + ((0 : Nat) : Int); omega, hl, (fun y hy => by cases hy), fun c => absurd rfl c⟩ (by omega) ?_
  rintro rec2 row2 found m2 ⟨g2, f2, pre, rest, t1, a1, e1, e2, e3, e4, e5⟩ ih row' found' m' ee rrow rf T2 F2
  cases ee
  have len : l.length = pre.length + rest.length := by rw [e1, List.length_append]
  have yes : ¬ found = 0 → WJ_X12_through_W_11 w rc dp dn (p : Int) row2 found m2 := fun c => WJ row2 found m2 g2 f2 (fun h => absurd h c) fun _ => by
    obtain ⟨l', y, h1, h2⟩ := e5 c
    rw [h1] at e1 e3
    exact ⟨pre, l', y, t1, a1, e1, e4, h2, e3, e2⟩
  refine ⟨fun c => ?_, fun c => ⟨yes, fun c2 t2 et2 _ => ?_⟩⟩
  · by_cases c2 : found = 0
    · refine WJ row2 found m2 g2 f2 (fun _ => ?_) fun h => absurd c2 h
      have en : rest = [] := List.eq_nil_of_length_eq_zero (by omega)
      rw [en, List.append_nil] at e1
      rw [e1]; exact e4
    · exact yes c2
  cases rest with
  | nil => exfalso; have len : l.length = pre.length + 0 := len; omega
  | cons y rest =>
  obtain ⟨⟨q1, q2⟩, ⟨q3, q4⟩, q5, q6, q7⟩ := e3
  have yin : y ∈ (jP J (p : Int)).1 := hin y (by rw [e1]; exact List.mem_append_right _ List.mem_cons_self)
  have yok := ok (p : Int) (by omega) y yin
  have t2' : t2 = (t1 : Int) := by
    rw [← et2, f2 128 _ (by omega), eb 128 (by omega), show (31 * (p : Int) + row2).toNat = 31 * p + (r0 + pre.length) by omega]
    exact q1
  subst t2'
  refine loopF.iim (fun f j m3 => gJ m3 ∧ frV m m3 ∧ (f = 0 ∨ f = 1) ∧ ∃ (pt rt : List Tst), y.1 = pt ++ rt ∧ j = (t1 : Int) + (pt.length : Int) ∧ tsAR μ (300 * p + t1 + pt.length) rt ∧ (f = 0 → ¬ ∀ t ∈ y.1, tsT J (p : Int) (eN E tt ss) (eN E tt (1 - ss)) t x) ∧ (¬ f = 0 → ∀ t ∈ pt, tsT J (p : Int) (eN E tt ss) (eN E tt (1 - ss)) t x)) (fun _ j => (301 - j).toNat) ⟨g2, f2, Or.inr rfl, [], y.1, rfl, by show (t1 : Int) = (t1 : Int) + ((0 : Nat) : Int); omega, q5, fun h => absurd h (by decide), fun _ t ht => by cases ht⟩ (by omega) ?_
  rintro rec4 f j m3 ⟨g3, f3, f01, pt, rt, d1, d2, d3, d4, d5⟩ ih4 f' j' m3' ee4 rf4 rj4 T3 F3 te ete rte
  cases ee4
  have lent : y.1.length = pt.length + rt.length := by rw [d1, List.length_append]
  have te' : te = (t1 : Int) + (y.1.length : Int) := by
    have ete' := ete
    rw [f3 128 _ (by omega), eb 128 (by omega), show (31 * (p : Int) + row2 + 1).toNat = 31 * p + (r0 + pre.length) + 1 by omega, q3] at ete'
    omega
  have nxt : f = 0 → rec2 (row2 + 1, f, m3) := fun c3 => ih _ _ _ ⟨g3, f3, pre ++ [y], rest, _, _, by rw [e1, List.append_assoc]; rfl, by rw [List.length_append, List.length_singleton]; omega, by rw [List.length_append, List.length_singleton]; exact q7, fun z hz => by
    rcases List.mem_append.mp hz with h | h
    · exact e4 z h
    · rw [List.mem_singleton.mp h]; exact d4 c3, fun h => absurd c3 h⟩ (by omega)
  refine ⟨fun c3 => ⟨fun c4 => ih _ _ _ ⟨g3, f3, pre, y :: rest, t1, a1, e1, e2, ⟨⟨q1, q2⟩, ⟨q3, q4⟩, q5, q6, q7⟩, e4, fun _ => ⟨rest, y, rfl, ?_⟩⟩ (by omega), nxt⟩, fun c3 => ⟨nxt, fun c4 => ?_⟩⟩
  · have en : rt = [] := List.eq_nil_of_length_eq_zero (by omega)
    rw [en, List.append_nil] at d1
    rw [d1]; exact d5 c4
  cases rt with
  | nil => exfalso; have lent : y.1.length = pt.length + 0 := lent; omega
  | cons t rt =>
  obtain ⟨s1, s2⟩ := d3
  have tin : t ∈ y.1 := by rw [d1]; exact List.mem_append_right _ List.mem_cons_self
  rw [show 300 * (p : Int) + j = ((300 * p + t1 + pt.length : Nat) : Int) by omega]
  refine X12_isSo_t jg hE ti ht hs ro hr hxp (frV.t fr f3) (by rw [f3.rt hw T hr]; exact hx) hx0 g3 hp s1 (yok.1 t tin) fun z m4 hz g4 f4 T4 F4 rz => ih4 _ _ _ ⟨g4, f3.trans f4, by omega, pt ++ [t], rt, by rw [d1, List.append_assoc]; rfl, by rw [List.length_append, List.length_singleton]; omega, by rw [List.length_append, List.length_singleton]; exact s2, fun h all => by have := hz.mpr (all t tin); omega, fun h t' ht' => ?_⟩ (by omega)
  rcases List.mem_append.mp ht' with h2 | h2
  · exact d5 c4 t' h2
  · rw [List.mem_singleton.mp h2]; exact hz.mp (by omega)
theorem rtR.cost {m : mM} {r v : Int} {x : Rt} (hr : 0 ≤ r) (hn : m 126 (40 * r + 4).toNat ≤ 20) (h : rtR m r = some x) : rtR (mUp m 126 (40 * r + 3).toNat v) r = some (rtCost x v) := by
  obtain ⟨g, e⟩ := rtR.get h
  rw [rtR.the (by rw [mUp.no (by omega)]; exact g), mUp.no (by omega), mUp.no (by omega), mUp.no (by omega), mUp.yes ⟨rfl, rfl⟩, mUp.no (by omega), mUp.no (by omega), e, rowL.ext (f := fun k => m 126 (40 * r + 6 + (k : Int)).toNat) (fun i hi => mUp.no (by omega)), rowL.ext (f := fun k => m 126 (40 * r + 26 + (k : Int)).toNat) (fun i _ => mUp.no (by omega))]
  rfl
theorem rtR.mks {m m1 : mM} {r : Int} {x : Rt} {l : List Int} (hr : 0 ≤ r) (hn : m 126 (40 * r + 4).toNat ≤ 20) (h : rtR m r = some x) (hl : rowL (fun k => m1 126 (40 * r + 26 + (k : Int)).toNat) (m1 126 (40 * r + 5).toNat).toNat = l) (f : ∀ (b i : Nat), ¬ (b = 126 ∧ ((i : Int) = 40 * r + 5 ∨ (40 * r + 26 ≤ (i : Int) ∧ (i : Int) < 40 * r + 40))) → m1 b i = m b i) : rtR m1 r = some (rtMks x l) := by
  obtain ⟨g, e⟩ := rtR.get h
  rw [rtR.the (by rw [f _ _ (by omega)]; exact g), hl, f 126 (40 * r).toNat (by omega), f 126 (40 * r + 1).toNat (by omega), f 126 (40 * r + 2).toNat (by omega), f 126 (40 * r + 3).toNat (by omega), f 126 (40 * r + 4).toNat (by omega), rowL.ext (f := fun k => m 126 (40 * r + 6 + (k : Int)).toNat) (fun i hi => f _ _ (by omega)), e]
  rfl
theorem X12_through_s {J : Ju} {E : En} {pl r : Int} {tt ss : Nat} {x0 : Rt} {Q : Int → mM → Prop} (hw : mWF w) (hT : mT w μ) (ok : jOk J) (jg : jgR μ J) (hE : enR μ E) (ti : tiG E) (ht : tt < eT E) (hs : ss < 2) (ro : roK (μ 111 tt) ss = jR J (eN E tt ss) (eN E tt (1 - ss))) (hpl : 0 ≤ pl ∧ pl < μ 106 39) (hr : 0 ≤ r) (hx : rtR μ r = some x0) (hsr : srt (mOf x0)) (hxp : x0.1 < μ 106 2) (hg : gJ μ)
    (k : ∀ (z : Int) (m : mM), (z = 1 ↔ ¬ (gpJ J (eN E tt ss) (eN E tt (1 - ss)) 12 pl (0, x0)).1 = 2) → rtR m r = some (gpJ J (eN E tt ss) (eN E tt (1 - ss)) 12 pl (0, x0)).2.2 → gJ m → frT μ m r → Q z m) : WP_X12_through_W w μ pl r (eN E tt ss) (eN E tt (1 - ss)) (tt : Int) Q := by
  intro f0 _ _ f1 _ _ nt _ _ fx _ _ fp efp rfp
  refine ⟨fun c m1 u1 T1 m2 u2 T2 m3 u3 T3 rows erows rrows => ?_, fun c => absurd c (by omega)⟩
  obtain ⟨pN, hpN⟩ : ∃ pN : Nat, pl = (pN : Int) := ⟨pl.toNat, by omega⟩
  subst hpN
  have p12 : (pN : Int) < 12 := by omega
  have z0 : (0 : Int).toNat = 0 := rfl
  rw [z0] at u1 u2 u3
  obtain rfl := u1.is
  obtain rfl := u2.is
  obtain rfl := u3.is
  have f00 : ∀ b i, ¬ (151 ≤ b ∧ b ≤ 153) → mUp (mUp (mUp μ 151 0 (pN : Int)) 152 0 (-1)) 153 0 0 b i = μ b i := fun b i q => by
    rw [mUp.no (by omega), mUp.no (by omega), mUp.no (by omega)]
  have fr0 : frT μ (mUp (mUp (mUp μ 151 0 (pN : Int)) 152 0 (-1)) 153 0 0) r := fun b i q1 q2 q3 q4 q5 => by
    rw [mUp.no (by omega), mUp.no (by omega), mUp.no (by omega)]
  have rt0 : rtR (mUp (mUp (mUp μ 151 0 (pN : Int)) 152 0 (-1)) 153 0 0) r = some x0 := by
    rw [← hx]
    exact rtR.cg (hT.rb hw hr).1.2 (hT.rb hw hr).2.2 fun j _ => by rw [mUp.no (by omega), mUp.no (by omega), mUp.no (by omega)]
  have pc0 := jg.1 pN hpl.2
  have rowsE : ((jP J (pN : Int)).1.length : Int) = rows := by
    rw [← erows, fr0 127 _ (by omega) (by omega) (by omega) (by omega) (by omega), Int.toNat_natCast]
    exact pc0.1.symm
  have R0 : gpJ J (eN E tt ss) (eN E tt (1 - ss)) 12 (pN : Int) (0, x0) = runS (gpJ J (eN E tt ss) (eN E tt (1 - ss)) 12) (fun p => tsT J p (eN E tt ss) (eN E tt (1 - ss))) [((pN : Int), (jP J (pN : Int)).1, [])] (0, x0) := by
    rw [runS.idle, gpJ.eq ok (by omega) p12]
    by_cases c0 : (goR (gpJ J (eN E tt ss) (eN E tt (1 - ss)) 12) (tsT J (pN : Int) (eN E tt ss) (eN E tt (1 - ss))) (jP J (pN : Int)).1 (0, x0)).1 = 0
    · rw [if_pos c0]
      exact Prod.ext c0 rfl
    · rw [if_neg c0]
  refine loopF.gh (fun (s : Int × Int × mM) kk => ∃ (st : List Fr) (x : Rt), s.1 = (st.length : Int) ∧ (0 ≤ s.2.1 ∧ s.2.1 ≤ 500) ∧ stk J μ s.2.2 st ∧ rtR s.2.2 r = some x ∧ srt (mOf x) ∧ x.1 = x0.1 ∧ gJ s.2.2 ∧ frT μ s.2.2 r ∧ gpJ J (eN E tt ss) (eN E tt (1 - ss)) 12 (pN : Int) (0, x0) = runS (gpJ J (eN E tt ss) (eN E tt (1 - ss)) 12) (fun p => tsT J p (eN E tt ss) (eN E tt (1 - ss))) st (s.2.1, x) ∧ kk = (500 - s.2.1).toNat * 100 + stL st) ?_ 50136 (1, 0, mUp (mUp (mUp μ 151 0 (pN : Int)) 152 0 (-1)) 153 0 0) _ ⟨[((pN : Int), (jP J (pN : Int)).1, [])], x0, rfl, ⟨by show (0 : Int) ≤ 0; decide, by show (0 : Int) ≤ 500; decide⟩, ⟨⟨pN, -1, 0, 0, 0, ⟨rfl, hpl.2⟩, ⟨?_, ?_, ?_⟩, by decide, by rw [show (-1 + 1 : Int).toNat = 0 by decide]; exact pc0.2.1, by show -1 + 1 + ((jP J (pN : Int)).1.length : Int) = _; omega, fun _ h => h, (fun y hy => by cases hy), fun _ => rfl, fun h => absurd h (show ¬ (0 : Int) ≤ -1 by decide)⟩, trivial⟩, rt0, hsr, rfl, hg.cg fun b i hb => f00 b i (by omega), fr0, R0, rfl⟩ (by
    show (500 - (0 : Int)).toNat * 100 + ((jP J (pN : Int)).1.length + 1 + 0) < 50136
    omega)
  rotate_left 1
  · show mUp (mUp (mUp μ 151 0 (pN : Int)) 152 0 (-1)) 153 0 0 151 0 = (pN : Int)
    rw [mUp.no (by omega), mUp.no (by omega), mUp.yes ⟨rfl, rfl⟩]
  · show mUp (mUp (mUp μ 151 0 (pN : Int)) 152 0 (-1)) 153 0 0 152 0 = -1
    rw [mUp.no (by omega), mUp.yes ⟨rfl, rfl⟩]
  · show mUp (mUp (mUp μ 151 0 (pN : Int)) 152 0 (-1)) 153 0 0 153 0 = ((0 : Nat) : Int)
    rw [mUp.yes ⟨rfl, rfl⟩]
    rfl
  rintro rc ⟨dp, dn, m⟩ kk ⟨st, x, s1, s2, s3, s4, s5, s6, s7, s8, s9, s10⟩ ih dp' dn' m' ee rdp rdn T F y _ _
  cases ee
  have s1 : dp = (st.length : Int) := s1
  have s2 : 0 ≤ dn ∧ dn ≤ 500 := s2
  have s3 : stk J μ m st := s3
  have s4 : rtR m r = some x := s4
  have s7 : gJ m := s7
  have s8 : frT μ m r := s8
  have s9 : gpJ J (eN E tt ss) (eN E tt (1 - ss)) 12 (pN : Int) (0, x0) = runS (gpJ J (eN E tt ss) (eN E tt (1 - ss)) 12) (fun p => tsT J p (eN E tt ss) (eN E tt (1 - ss))) st (dn, x) := s9
  have s10 : kk = (500 - dn).toNat * 100 + stL st := s10
  have eb := s8.eb
  refine ⟨fun c => ?_, fun c p ep rp row erow rrow rows2 erows2 rrows2 _ _ _ => ?_⟩
  · have en : st = [] := List.eq_nil_of_length_eq_zero (by omega)
    rw [en] at s9
    exact k 1 m (by rw [s9]; exact ⟨fun _ => by show ¬ (0 : Int) = 2; decide, fun _ => rfl⟩) (by rw [s9]; exact s4) s7 s8
  cases st with
  | nil => exfalso; have s1 : dp = ((0 : Nat) : Int) := s1; omega
  | cons f st =>
  have s1 : dp = ((st.length + 1 : Nat) : Int) := s1
  have s10 : kk = (500 - dn).toNat * 100 + (f.2.1.length + 1 + stL st) := s10
  obtain ⟨⟨p', row', t1, a1, c1, ⟨g1, g2⟩, ⟨g3, g4, g5⟩, g6, g7, g8, g9, g10, g11, g12⟩, s3r⟩ := s3
  rw [show (dp - 1).toNat = st.length by omega, g3] at ep
  rw [show (dp - 1).toNat = st.length by omega, g4] at erow
  subst ep erow
  rw [Int.toNat_natCast, eb 127 (by omega), (jg.1 p' g2).1] at erows2
  obtain ⟨fp1, fl, fa⟩ := f
  have g1 : fp1 = (p' : Int) := g1
  subst g1
  have g7 : rwR μ p' (row' + 1).toNat t1 a1 fl := g7
  have g8 : row' + 1 + (fl.length : Int) = ((jP J (p' : Int)).1.length : Int) := g8
  have g9 : ∀ x ∈ fl, x ∈ (jP J (p' : Int)).1 := g9
  have g10 : ∀ y ∈ fa, aOk (p' : Int) y := g10
  have g11 : row' = -1 → fa = [] := g11
  have g12 : 0 ≤ row' → μ 129 (31 * p' + (row' + 1).toNat) = (a1 : Int) ∧ c1 + fa.length = a1 ∧ acR μ (300 * p' + c1) fa := g12
  have s10 : kk = (500 - dn).toNat * 100 + (fl.length + 1 + stL st) := s10
  have F0 : fa = [] → (∀ y ∈ fl, ¬ ∀ t ∈ y.1, tsT J (p' : Int) (eN E tt ss) (eN E tt (1 - ss)) t x) → ∀ m2 : mM, gJ m2 → frV m m2 → rc (dp + (-1), dn, m2) := fun ea hn m2 g2' f2 => ih _ _ ⟨st, x, by show dp + (-1) = (st.length : Int); omega, s2, s3r.cg fun b i q1 q2 q3 => f2 b i (by omega), (f2.rt hw T hr).trans s4, s5, s6, g2', frV.t s8 f2, by
      rw [s9, ea]
      exact runS.pop hn, rfl⟩ (by
      show (500 - dn).toNat * 100 + stL st < kk
      omega)
  have F1 : fa = [] → ∀ (pre l' : List Rw) (y : Rw) (t2 a2 : Nat), fl = pre ++ y :: l' → (∀ y ∈ pre, ¬ ∀ t ∈ y.1, tsT J (p' : Int) (eN E tt ss) (eN E tt (1 - ss)) t x) → (∀ t ∈ y.1, tsT J (p' : Int) (eN E tt ss) (eN E tt (1 - ss)) t x) → rwR μ p' ((row' + 1).toNat + pre.length) t2 a2 (y :: l') → ∀ m2 : mM, gJ m2 → frV m m2 → rc (dp, dn, mUp (mUp m2 152 (dp - 1).toNat (row' + 1 + (pre.length : Int))) 153 (dp - 1).toNat (a2 : Int)) := fun ea pre l' y t2 a2 e1 e2 e3 e4 m2 g2' f2 => by
    rw [show (dp - 1).toNat = st.length by omega]
    obtain ⟨⟨q1, q2⟩, ⟨q3, q4⟩, q5, q6, q7⟩ := e4
    have yin := g9 y (by rw [e1]; exact List.mem_append_right _ List.mem_cons_self)
    have ll : fl.length = pre.length + (l'.length + 1) := by rw [e1, List.length_append, List.length_cons]
    have f4 : ∀ b i, ¬ (b = 152 ∧ i = st.length) → ¬ (b = 153 ∧ i = st.length) → mUp (mUp m2 152 st.length (row' + 1 + (pre.length : Int))) 153 st.length (a2 : Int) b i = m2 b i := fun b i h1 h2 => by rw [mUp.no h2, mUp.no h1]
    have rt4 : rtR (mUp (mUp m2 152 st.length (row' + 1 + (pre.length : Int))) 153 st.length (a2 : Int)) r = some x := by
      rw [← (f2.rt hw T hr).trans s4]
      refine rtR.cg ?_ ?_ fun j _ => f4 _ _ (by omega) (by omega)
      · rw [f2 126 _ (by omega)]; exact (T.rb hw hr).1.2
      · rw [f2 126 _ (by omega)]; exact (T.rb hw hr).2.2
    have n1 : (row' + 1 + (pre.length : Int) + 1).toNat = (row' + 1).toNat + pre.length + 1 := by omega
    refine ih _ _ ⟨((p' : Int), l', y.2) :: st, x, by show dp = ((st.length + 1 : Nat) : Int); exact s1, s2, ⟨⟨p', row' + 1 + (pre.length : Int), t2 + y.1.length, a2 + y.2.length, a2, ⟨rfl, g2⟩, ⟨?_, ?_, mUp.yes ⟨rfl, rfl⟩⟩, by omega, ?_, ?_, ?_, ?_, ?_, fun _ => ⟨?_, rfl, q6⟩⟩, s3r.cg fun b i h1 h2 h3 => (f4 b i (by omega) (by omega)).trans (f2 b i (by omega))⟩, rt4, s5, s6, g2'.cg fun b i hb => f4 b i (by omega) (by omega), fun b i h1 h2 h3 h4 h5 => (f4 b i (by omega) (by omega)).trans (frV.t s8 f2 b i h1 h2 h3 h4 h5), ?_, rfl⟩ ?_
    · show mUp (mUp m2 152 st.length (row' + 1 + (pre.length : Int))) 153 st.length (a2 : Int) 151 st.length = (p' : Int)
      rw [f4 _ _ (by omega) (by omega), f2 151 _ (by omega)]; exact g3
    · show mUp (mUp m2 152 st.length (row' + 1 + (pre.length : Int))) 153 st.length (a2 : Int) 152 st.length = _
      rw [mUp.no (by omega), mUp.yes ⟨rfl, rfl⟩]
    · show rwR μ p' (row' + 1 + (pre.length : Int) + 1).toNat (t2 + y.1.length) (a2 + y.2.length) l'
      rw [n1]; exact q7
    · show row' + 1 + (pre.length : Int) + 1 + (l'.length : Int) = _
      omega
    · exact fun z hz => g9 z (by rw [e1]; exact List.mem_append_right _ (List.mem_cons_of_mem _ hz))
    · exact fun z hz => (ok (p' : Int) (by omega) y yin).2 z hz
    · exact fun h => absurd h (by omega)
    · rw [n1]; exact q4
    · show _ = runS _ _ (((p' : Int), l', y.2) :: st) (dn, x)
      rw [s9, ea, e1]
      exact runS.row e2 e3
    · show (500 - dn).toNat * 100 + (l'.length + 1 + stL st) < kk
      omega
  refine ⟨fun c2 => ?_, fun c2 act eact ract aend eaend raend => ⟨fun c3 m2 u2 T2 => ?_, fun c3 => ?_⟩⟩
  · have er : row' = -1 := by omega
    subst er
    exact thr_find1 (x0 := x0) hw ok jg hE ti ht hs ro hr hxp g2 s8 T s4 s6 s7 (by decide) g7 (by omega) g9 (F0 (g11 rfl)) (F1 (g11 rfl))
  rotate_left 1
  · obtain ⟨b1, b2, b3⟩ := g12 c2
    rw [show (dp - 1).toNat = st.length by omega, g5] at eact
    rw [eb 129 (by omega), show (31 * (p' : Int) + row' + 1).toNat = 31 * p' + (row' + 1).toNat by omega, b1] at eaend
    have ea : fa = [] := List.eq_nil_of_length_eq_zero (by omega)
    exact thr_find2 (x0 := x0) hw ok jg hE ti ht hs ro hr hxp g2 s8 T s4 s6 s7 (by omega) (by omega) g7 (by omega) g9 (F0 ea) (F1 ea)
  obtain ⟨b1, b2, b3⟩ := g12 c2
  rw [show (dp - 1).toNat = st.length by omega, g5] at eact
  rw [eb 129 (by omega), show (31 * (p' : Int) + row' + 1).toNat = 31 * p' + (row' + 1).toNat by omega, b1] at eaend
  subst eact eaend
  cases fa with
  | nil => exfalso; have b2 : c1 + 0 = a1 := b2; omega
  | cons a al =>
  have b2 : c1 + (al.length + 1) = a1 := b2
  obtain ⟨⟨k1, k2⟩, k3⟩ := b3
  have aok := g10 a List.mem_cons_self
  obtain rfl := u2.is
  rw [show (dp - 1).toNat = st.length by omega] at T2 ⊢
  have f2 : ∀ b i, ¬ (b = 153 ∧ i = st.length) → mUp m 153 st.length ((c1 : Int) + 1) b i = m b i := fun b i h => mUp.no h
  have frm2 : frT μ (mUp m 153 st.length ((c1 : Int) + 1)) r := fun b i h1 h2 h3 h4 h5 => (f2 b i (by omega)).trans (s8 b i h1 h2 h3 h4 h5)
  have g2m : gJ (mUp m 153 st.length ((c1 : Int) + 1)) := s7.cg fun b i hb => f2 b i (by omega)
  have rt2 : rtR (mUp m 153 st.length ((c1 : Int) + 1)) r = some x := by
    rw [← s4]
    exact rtR.cg (T.rb hw hr).1.2 (T.rb hw hr).2.2 fun j _ => f2 _ _ (by omega)
  refine ⟨fun c4 what ewhat rwhat => ?_, fun c4 => ?_⟩
  rotate_left 1
  · have e := s9.trans (runS.full (s := (dn, x)) (by show 500 ≤ dn; omega))
    exact k 0 _ (by rw [e]; exact ⟨fun h => absurd h (by decide), fun h => absurd rfl h⟩) (by rw [e]; exact rt2) g2m frm2
  have R1 := s9.trans (runS.act (s := (dn, x)) (by show ¬ 500 ≤ dn; omega))
  have R1 : gpJ J (eN E tt ss) (eN E tt (1 - ss)) 12 (pN : Int) (0, x0) = (if (actS (gpJ J (eN E tt ss) (eN E tt (1 - ss)) 12) a (dn + 1, x)).1 = 0 then runS (gpJ J (eN E tt ss) (eN E tt (1 - ss)) 12) (fun p => tsT J p (eN E tt ss) (eN E tt (1 - ss))) (((p' : Int), fl, al) :: st) (actS (gpJ J (eN E tt ss) (eN E tt (1 - ss)) 12) a (dn + 1, x)).2 else actS (gpJ J (eN E tt ss) (eN E tt (1 - ss)) 12) a (dn + 1, x)) := R1
  have ixN : (300 * (p' : Int) + (c1 : Int)).toNat = 300 * p' + c1 := by omega
  rw [ixN, f2 140 _ (by omega), eb 140 (by omega), k1] at ewhat
  subst ewhat
  have num : ∀ (m3 : mM) (v : Int), frT μ m3 r → ¬ a.1 = 23 → ¬ a.1 = 24 → m3 141 (300 * (p' : Int) + (c1 : Int)).toNat = v → a.2 = v := fun m3 v f3 n3 n4 ev => by
    rw [ixN, f3.eb 141 (by omega), k2 n3 n4] at ev
    exact ev
  have goOn : ∀ (m3 : mM) (x' : Rt), actS (gpJ J (eN E tt ss) (eN E tt (1 - ss)) 12) a (dn + 1, x) = (0, dn + 1, x') → gJ m3 → frT μ m3 r → rtR m3 r = some x' → srt (mOf x') → x'.1 = x.1 → (∀ b i, 151 ≤ b → b ≤ 153 → m3 b i = mUp m 153 st.length ((c1 : Int) + 1) b i) → rc (dp, dn + 1, m3) := fun m3 x' ea g3' f3 r3 q3 q4 fs => by
    refine ih _ _ ⟨((p' : Int), fl, al) :: st, x', by show dp = ((st.length + 1 : Nat) : Int); exact s1, by show 0 ≤ dn + 1 ∧ dn + 1 ≤ 500; omega, ⟨⟨p', row', t1, a1, c1 + 1, ⟨rfl, g2⟩, ⟨?_, ?_, ?_⟩, g6, g7, g8, g9, fun z hz => g10 z (List.mem_cons_of_mem _ hz), fun h => absurd h (by omega), fun _ => ⟨b1, by show c1 + 1 + al.length = a1; omega, k3⟩⟩, s3r.cg fun b i h1 h2 h3 => by
      show m3 b i = m b i
      rw [fs b i h1 h2]; exact mUp.no (by omega)⟩, r3, q3, q4.trans s6, g3', f3, ?_, rfl⟩ ?_
    · show m3 151 st.length = (p' : Int)
      rw [fs 151 _ (by omega) (by omega), mUp.no (by omega)]; exact g3
    · show m3 152 st.length = row'
      rw [fs 152 _ (by omega) (by omega), mUp.no (by omega)]; exact g4
    · show m3 153 st.length = ((c1 + 1 : Nat) : Int)
      rw [fs 153 _ (by omega) (by omega), mUp.yes ⟨rfl, rfl⟩]
      omega
    · show _ = runS _ _ (((p' : Int), fl, al) :: st) (dn + 1, x')
      rw [R1, ea]
      exact if_pos rfl
    · show (500 - (dn + 1)).toNat * 100 + (fl.length + 1 + stL st) < kk
      omega
  have up126 : ∀ (m3 : mM) (j : Nat) (v : Int), (∃ o, (j : Int) = 40 * r + o ∧ 0 ≤ o ∧ o < 40) → frT μ m3 r → gJ m3 → frT μ (mUp m3 126 j v) r ∧ gJ (mUp m3 126 j v) := fun m3 j v hj f3 g3' => ⟨fun b i h1 h2 h3 h4 h5 => (mUp.no (by omega)).trans (f3 b i h1 h2 h3 h4 h5), g3'.cg fun b i hb => mUp.no (by omega)⟩
  -- the acts, one after another
  have J8 : ∀ (m3 m4 : mM) (x' : Rt), (¬ a.1 = 27 → ¬ a.1 = 28 → actS (gpJ J (eN E tt ss) (eN E tt (1 - ss)) 12) a (dn + 1, x) = (0, dn + 1, x')) → (a.1 = 27 ∨ a.1 = 28 → x' = x) → ¬ a.1 = 23 → ¬ a.1 = 24 → gJ m4 → frT μ m4 r → rtR m4 r = some x' → srt (mOf x') → x'.1 = x.1 → (∀ b i, 151 ≤ b → b ≤ 153 → m4 b i = mUp m 153 st.length ((c1 : Int) + 1) b i) → WJ_X12_through_W_8 w r Q rc dp dn (p' : Int) (c1 : Int) a.1 m3 m4 := by
    intro m3 m4 x' h1 h2 n23 n24 g4' f4 r4 q4 q5 fs T4 F4
    refine ⟨fun n27 => ⟨fun n28 => goOn m4 x' (h1 n27 n28) g4' f4 r4 q4 q5 fs, fun e28 v ev rv m5 u5 T5 m6 u6 T6 m7 u7 T7 z7 ez7 rz7 => ?_⟩, fun e27 n en rn => ⟨fun c5 => ?_, fun c5 f ef rf v ev rv s es1 es2 => ?_⟩⟩
    · have xe := h2 (Or.inr e28)
      subst xe
      have v2 := num m4 v f4 n23 n24 ev
      subst v2
      have ca := aok.2.2.2 e28
      obtain ⟨cN, hcN⟩ : ∃ cN : Nat, a.2 = (cN : Int) := ⟨a.2.toNat, by omega⟩
      obtain rfl := u5.is
      obtain rfl := u6.is
      obtain rfl := u7.is
      have d1 : dp.toNat = st.length + 1 := by omega
      rw [d1] at ez7 ⊢
      rw [hcN] at ez7 ⊢
      have f7 : ∀ b i, ¬ (151 ≤ b ∧ b ≤ 153 ∧ i = st.length + 1) → mUp (mUp (mUp m4 151 (st.length + 1) (cN : Int)) 152 (st.length + 1) (-1)) 153 (st.length + 1) 0 b i = m4 b i := fun b i h => by rw [mUp.no (by omega), mUp.no (by omega), mUp.no (by omega)]
      have hcl : (cN : Int) < μ 106 39 := by omega
      have pcc := jg.1 cN hcl
      have lc : ((jP J (cN : Int)).1.length : Int) = z7 := by
        rw [← ez7, f7 127 _ (by omega), f4.eb 127 (by omega), Int.toNat_natCast]
        exact pcc.1.symm
      have R2 : gpJ J (eN E tt ss) (eN E tt (1 - ss)) 12 (pN : Int) (0, x0) = runS (gpJ J (eN E tt ss) (eN E tt (1 - ss)) 12) (fun p => tsT J p (eN E tt ss) (eN E tt (1 - ss))) (((cN : Int), (jP J (cN : Int)).1, []) :: ((p' : Int), fl, al) :: st) (dn + 1, x') := by
        rw [R1, actS.a28 e28, hcN]
        exact runS.call (gpJ.eq ok (by omega) (by omega))
      refine ih _ _ ⟨((cN : Int), (jP J (cN : Int)).1, []) :: ((p' : Int), fl, al) :: st, x', by show dp + 1 = ((st.length + 1 + 1 : Nat) : Int); omega, by show 0 ≤ dn + 1 ∧ dn + 1 ≤ 500; omega, ⟨⟨cN, -1, 0, 0, 0, ⟨rfl, hcl⟩, ⟨?_, ?_, ?_⟩, by decide, by rw [show (-1 + 1 : Int).toNat = 0 by decide]; exact pcc.2.1, by show -1 + 1 + ((jP J (cN : Int)).1.length : Int) = _; omega, fun _ h => h, (fun y hy => by cases hy), fun _ => rfl, fun h => absurd h (show ¬ (0 : Int) ≤ -1 by decide)⟩, ⟨p', row', t1, a1, c1 + 1, ⟨rfl, g2⟩, ⟨?_, ?_, ?_⟩, g6, g7, g8, g9, fun z hz => g10 z (List.mem_cons_of_mem _ hz), fun h => absurd h (by omega), fun _ => ⟨b1, by show c1 + 1 + al.length = a1; omega, k3⟩⟩, s3r.cg fun b i h1 h2 h3 => by
        show mUp (mUp (mUp m4 151 (st.length + 1) (cN : Int)) 152 (st.length + 1) (-1)) 153 (st.length + 1) 0 b i = m b i
        rw [f7 b i (by omega), fs b i h1 h2]; exact mUp.no (by omega)⟩, ?_, q4, s6, g4'.cg fun b i hb => f7 b i (by omega), fun b i h1 h2 h3 h4 h5 => (f7 b i (by omega)).trans (f4 b i h1 h2 h3 h4 h5), R2, rfl⟩ ?_
      · show mUp (mUp (mUp m4 151 (st.length + 1) (cN : Int)) 152 (st.length + 1) (-1)) 153 (st.length + 1) 0 151 (st.length + 1) = _
        rw [mUp.no (by omega), mUp.no (by omega), mUp.yes ⟨rfl, rfl⟩]
      · show mUp (mUp (mUp m4 151 (st.length + 1) (cN : Int)) 152 (st.length + 1) (-1)) 153 (st.length + 1) 0 152 (st.length + 1) = _
        rw [mUp.no (by omega), mUp.yes ⟨rfl, rfl⟩]
      · show mUp (mUp (mUp m4 151 (st.length + 1) (cN : Int)) 152 (st.length + 1) (-1)) 153 (st.length + 1) 0 153 (st.length + 1) = ((0 : Nat) : Int)
        rw [mUp.yes ⟨rfl, rfl⟩]
        rfl
      · show mUp (mUp (mUp m4 151 (st.length + 1) (cN : Int)) 152 (st.length + 1) (-1)) 153 (st.length + 1) 0 151 st.length = (p' : Int)
        rw [f7 _ _ (by omega), fs 151 _ (by omega) (by omega), mUp.no (by omega)]; exact g3
      · show mUp (mUp (mUp m4 151 (st.length + 1) (cN : Int)) 152 (st.length + 1) (-1)) 153 (st.length + 1) 0 152 st.length = row'
        rw [f7 _ _ (by omega), fs 152 _ (by omega) (by omega), mUp.no (by omega)]; exact g4
      · show mUp (mUp (mUp m4 151 (st.length + 1) (cN : Int)) 152 (st.length + 1) (-1)) 153 (st.length + 1) 0 153 st.length = ((c1 + 1 : Nat) : Int)
        rw [f7 _ _ (by omega), fs 153 _ (by omega) (by omega), mUp.yes ⟨rfl, rfl⟩]
        omega
      · show rtR (mUp (mUp (mUp m4 151 (st.length + 1) (cN : Int)) 152 (st.length + 1) (-1)) 153 (st.length + 1) 0) r = some x'
        rw [← r4]
        exact rtR.cg (T4.rb hw hr).1.2 (T4.rb hw hr).2.2 fun j _ => f7 _ _ (by omega)
      · show (500 - (dn + 1)).toNat * 100 + ((jP J (cN : Int)).1.length + 1 + (fl.length + 1 + stL st)) < kk
        omega
    · have xe := h2 (Or.inl e27)
      subst xe
      obtain ⟨gg, er4⟩ := rtR.get r4
      have wn : wOf x' = [] := by
        have e := congrArg wOf er4
        have e : wOf x' = rowL (fun k => m4 126 (40 * r + 6 + (k : Int)).toNat) (m4 126 (40 * r + 4).toNat).toNat := e
        rw [e, en, show n.toNat = 0 by omega]
        rfl
      exact goOn m4 x' (actS.m27 e27 (moreR.nil wn)) g4' f4 r4 q4 rfl fs
    · have xe := h2 (Or.inl e27)
      subst xe
      have v2 := num m4 v f4 n23 n24 ev
      subst v2
      have ca := aok.2.2.1 e27
      have rn' : 0 ≤ n ∧ n ≤ 20 := rn.2.2.1 (by omega)
      obtain ⟨gg, er4⟩ := rtR.get r4
      have wyr : rowL (fun k => m4 126 (40 * r + 6 + (k : Int)).toNat) (m4 126 (40 * r + 4).toNat).toNat = wOf x' := by rw [er4]
      have wl : ((wOf x').length : Int) = n := by rw [← wyr, rowL.len, en, Int.toNat_of_nonneg rn'.1]
      obtain ⟨nn, hnn⟩ : ∃ nn, n.toNat = nn + 1 := ⟨n.toNat - 1, by omega⟩
      have wc : wOf x' = f :: rowL (fun i => m4 126 (40 * r + 6 + ((i + 1 : Nat) : Int)).toNat) nn := by
        rw [← wyr, en, hnn, rowL.head, ← ef, show 40 * r + 6 + ((0 : Nat) : Int) = 40 * r + 6 by omega]
      have es : s = n + a.2 := by omega
      refine ⟨fun c6 => ?_, fun c6 => ?_⟩
      rotate_left 1
      · have e : gpJ J (eN E tt ss) (eN E tt (1 - ss)) 12 (pN : Int) (0, x0) = (2, dn + 1, x') := by
          rw [R1, actS.n27 (s := (dn + 1, x')) e27 (moreR.far (r := x') (by rw [wc]; exact fun h => by cases h) (by omega))]
          exact if_neg (show ¬ (2 : Int) = 0 by decide)
        exact k 0 _ (by rw [e]; exact ⟨fun h => absurd h (by decide), fun h => absurd rfl h⟩) (by rw [e]; exact r4) g4' f4
      · have mg := moreR.go (r := x') (n := a.2) wc (by omega)
        refine loopF.im (fun j m5 => 0 ≤ j ∧ j ≤ a.2 ∧ gJ m5 ∧ frT μ m5 r ∧ rtR m5 r = some (rtWay x' (List.replicate j.toNat f ++ wOf x')) ∧ ∀ b i, 151 ≤ b → b ≤ 153 → m5 b i = m4 b i) (fun j => (2147483648 - j).toNat) ⟨by omega, by omega, g4', f4, r4, fun _ _ _ _ => rfl⟩ (by omega) ?_
        rintro rc5 j m5 ⟨j0, j1, g5', f5, r5, fs5⟩ ih5 j' m5' ee5 rj5 T5 F5
        cases ee5
        refine ⟨fun c7 => ?_, fun c7 => ?_⟩
        · have ej : j = a.2 := by omega
          subst ej
          exact goOn m5 _ (actS.m27 e27 mg) g5' f5 r5 q4 rfl fun b i h1 h2 => (fs5 b i h1 h2).trans (fs b i h1 h2)
        · have l5 : ((List.replicate j.toNat f ++ wOf x').length : Int) = j + n := by
            rw [List.length_append, List.length_replicate]
            omega
          have n5 : m5 126 (40 * r + 4).toNat = j + n := by
            have e := congrArg (fun z => ((wOf z).length : Int)) (rtR.get r5).2
            have e : ((List.replicate j.toNat f ++ wOf x').length : Int) = ((rowL (fun k => m5 126 (40 * r + 6 + (k : Int)).toNat) (m5 126 (40 * r + 4).toNat).toNat).length : Int) := e
            rw [l5, rowL.len] at e
            have := (T5.rb hw hr).1
            omega
          refine X12_front_s hr (fun h => absurd h (by omega)) fun m6 hn6 cf T6 F6 _ => ?_
          have w6 := rtR.front hr r5 hn6 (T5.rb hw hr).2.2 cf
          refine ih5 _ _ ⟨by omega, by omega, g5'.cg fun b i hb => w6.2 b i (by omega), fun b i h1 h2 h3 h4 h5 => (w6.2 b i h1).trans (f5 b i h1 h2 h3 h4 h5), ?_, fun b i h1 h2 => (w6.2 b i (by omega)).trans (fs5 b i h1 h2)⟩ (by omega)
          rw [w6.1, show (j + 1).toNat = j.toNat + 1 by omega]
          rfl
  have J7 : ∀ (m3 m4 : mM) (x' : Rt), (¬ a.1 = 13 → ¬ a.1 = 27 → ¬ a.1 = 28 → actS (gpJ J (eN E tt ss) (eN E tt (1 - ss)) 12) a (dn + 1, x) = (0, dn + 1, x')) → (a.1 = 13 ∨ a.1 = 27 ∨ a.1 = 28 → x' = x) → ¬ a.1 = 23 → ¬ a.1 = 24 → gJ m4 → frT μ m4 r → rtR m4 r = some x' → srt (mOf x') → x'.1 = x.1 → (∀ b i, 151 ≤ b → b ≤ 153 → m4 b i = mUp m 153 st.length ((c1 : Int) + 1) b i) → WJ_X12_through_W_7 w r Q rc dp dn (p' : Int) (c1 : Int) a.1 m3 m4 := by
    intro m3 m4 x' h1 h2 n23 n24 g4' f4 r4 q4 q5 fs T4 F4
    refine ⟨fun n13 => J8 m4 m4 x' (h1 n13) (fun h => h2 (Or.inr h)) n23 n24 g4' f4 r4 q4 q5 fs, fun e13 v ev rv m5 u5 T5 => ?_⟩
    have xe := h2 (Or.inl e13)
    subst xe
    have v2 := num m4 v f4 n23 n24 ev
    subst v2
    obtain rfl := u5.is
    have U := up126 m4 (40 * r + 3).toNat a.2 ⟨3, by omega, by omega, by omega⟩ f4 g4'
    exact J8 m4 _ (rtCost x' a.2) (fun _ _ => actS.a13 e13) (fun h => by omega) n23 n24 U.2 U.1 (rtR.cost hr (T4.rb hw hr).1.2 r4) q4 rfl fun b i h1 h2 => by rw [mUp.no (by omega)]; exact fs b i h1 h2
  have J6 : ∀ (m3 m4 : mM) (x' : Rt), (¬ a.1 = 12 → ¬ a.1 = 13 → ¬ a.1 = 27 → ¬ a.1 = 28 → actS (gpJ J (eN E tt ss) (eN E tt (1 - ss)) 12) a (dn + 1, x) = (0, dn + 1, x')) → (a.1 = 12 ∨ a.1 = 13 ∨ a.1 = 27 ∨ a.1 = 28 → x' = x) → ¬ a.1 = 23 → ¬ a.1 = 24 → gJ m4 → frT μ m4 r → rtR m4 r = some x' → srt (mOf x') → x'.1 = x.1 → (∀ b i, 151 ≤ b → b ≤ 153 → m4 b i = mUp m 153 st.length ((c1 : Int) + 1) b i) → WJ_X12_through_W_6 w r Q rc dp dn (p' : Int) (c1 : Int) a.1 m3 m4 := by
    intro m3 m4 x' h1 h2 n23 n24 g4' f4 r4 q4 q5 fs T4 F4
    refine ⟨fun n12 => J7 m4 m4 x' (h1 n12) (fun h => h2 (Or.inr h)) n23 n24 g4' f4 r4 q4 q5 fs, fun e12 v ev rv m5 u5 T5 => ?_⟩
    have xe := h2 (Or.inl e12)
    subst xe
    have v2 := num m4 v f4 n23 n24 ev
    subst v2
    obtain rfl := u5.is
    have U := up126 m4 (40 * r + 1).toNat a.2 ⟨1, by omega, by omega, by omega⟩ f4 g4'
    exact J7 m4 _ (rtWish x' a.2) (fun _ _ _ => actS.a12 e12) (fun h => by omega) n23 n24 U.2 U.1 (rtR.wish hr (T4.rb hw hr).1.2 r4).1 q4 rfl fun b i h1 h2 => by rw [mUp.no (by omega)]; exact fs b i h1 h2
  have J5 : ∀ (m3 m4 : mM) (x' : Rt), (¬ a.1 = 26 → ¬ a.1 = 12 → ¬ a.1 = 13 → ¬ a.1 = 27 → ¬ a.1 = 28 → actS (gpJ J (eN E tt ss) (eN E tt (1 - ss)) 12) a (dn + 1, x) = (0, dn + 1, x')) → (a.1 = 26 ∨ a.1 = 12 ∨ a.1 = 13 ∨ a.1 = 27 ∨ a.1 = 28 → x' = x) → ¬ a.1 = 23 → ¬ a.1 = 24 → gJ m4 → frT μ m4 r → rtR m4 r = some x' → srt (mOf x') → x'.1 = x.1 → (∀ b i, 151 ≤ b → b ≤ 153 → m4 b i = mUp m 153 st.length ((c1 : Int) + 1) b i) → WJ_X12_through_W_5 w r Q rc dp dn (p' : Int) (c1 : Int) m3 a.1 m4 := by
    intro m3 m4 x' h1 h2 n23 n24 g4' f4 r4 q4 q5 fs T4 F4
    refine ⟨fun n26 => J6 m4 m4 x' (h1 n26) (fun h => h2 (Or.inr h)) n23 n24 g4' f4 r4 q4 q5 fs, fun e26 v ev rv => ?_⟩
    have xe := h2 (Or.inl e26)
    subst xe
    have v2 := num m4 v f4 n23 n24 ev
    subst v2
    have mk4 : rowL (fun k => m4 126 (40 * r + 26 + (k : Int)).toNat) (m4 126 (40 * r + 5).toNat).toNat = mOf x' := by rw [(rtR.get r4).2]
    refine X12_dropMark_s hr fun m5 rm f5 T5 F5 => ?_
    rw [mk4] at rm
    exact J6 m4 m5 (rtMks x' (dropM (mOf x') a.2)) (fun _ _ _ _ => actS.a26 e26) (fun h => by omega) n23 n24 (g4'.cg fun b i hb => f5 b i (by omega)) (fun b i h1 h2 h3 h4 h5 => (f5 b i (by omega)).trans (f4 b i h1 h2 h3 h4 h5)) (rtR.mks hr (T4.rb hw hr).1.2 r4 rm f5) (dropM.srt q4) rfl fun b i h1 h2 => (f5 b i (by omega)).trans (fs b i h1 h2)
  refine ⟨fun n23 => ⟨fun n24 => ⟨fun n25 => ?_, fun e25 v ev rv => ?_⟩, fun e24 => ?_⟩, fun e23 => ?_⟩
  · exact J5 _ _ x (fun n26 n12 n13 n27 n28 => actS.ot (by omega)) (fun _ => rfl) n23 n24 g2m frm2 rt2 s5 rfl fun _ _ _ _ => rfl
  · have v2 := num _ v frm2 n23 n24 ev
    subst v2
    have mk4 : rowL (fun k => mUp m 153 st.length ((c1 : Int) + 1) 126 (40 * r + 26 + (k : Int)).toNat) (mUp m 153 st.length ((c1 : Int) + 1) 126 (40 * r + 5).toNat).toNat = mOf x := by rw [(rtR.get rt2).2]
    refine X12_addMark_s hr (by rw [mk4]; exact s5) fun m5 rm f5 T5 F5 => ?_
    rw [mk4] at rm
    exact J5 _ m5 (rtMks x (addM (mOf x) a.2)) (fun _ _ _ _ _ => actS.a25 e25) (fun h => by omega) n23 n24 (g2m.cg fun b i hb => f5 b i (by omega)) (fun b i h1 h2 h3 h4 h5 => (f5 b i (by omega)).trans (frm2 b i h1 h2 h3 h4 h5)) (rtR.mks hr (T2.rb hw hr).1.2 rt2 rm f5) (addM.srt s5) rfl fun b i h1 h2 => f5 b i (by omega)
  · have e : gpJ J (eN E tt ss) (eN E tt (1 - ss)) 12 (pN : Int) (0, x0) = (2, dn + 1, x) := by
      rw [R1, actS.a24 e24]
      exact if_neg (show ¬ (2 : Int) = 0 by decide)
    exact k 0 _ (by rw [e]; exact ⟨fun h => absurd h (by decide), fun h => absurd rfl h⟩) (by rw [e]; exact rt2) g2m frm2
  · have e : gpJ J (eN E tt ss) (eN E tt (1 - ss)) 12 (pN : Int) (0, x0) = (1, dn + 1, x) := by
      rw [R1, actS.a23 e23]
      exact if_neg (show ¬ (1 : Int) = 0 by decide)
    exact k 1 _ (by rw [e]; exact ⟨fun _ => by show ¬ (1 : Int) = 2; decide, fun _ => rfl⟩) (by rw [e]; exact rt2) g2m frm2
end Thr
end
section
/-! Going through keeps a route in order; what policies answer in the reference, out of what they are. -/
def gdR (p : Nat) (r : Rt) : Prop := r.1 = (p : Int) ∧ srt (mOf r) ∧ (wOf r).length ≤ 20 ∧ (mOf r).length ≤ 8 ∧ rgV r
theorem fil2 {m : Int} : ∀ {l : List Int}, (l.filter (fun x => decide (x < m))).length + (l.filter (fun x => decide (m < x))).length ≤ l.length
  | [] => Nat.le_refl _
  | x :: l => by
    have ih := fil2 (m := m) (l := l)
    rcases Int.lt_trichotomy x m with h | h | h
    · rw [List.filter_cons_of_pos (p := fun y => decide (y < m)) (decide_eq_true h), List.filter_cons_of_neg (p := fun y => decide (m < y)) (fun g => by have := of_decide_eq_true g; omega), List.length_cons, List.length_cons]
      omega
    · rw [List.filter_cons_of_neg (p := fun y => decide (y < m)) (fun g => by have := of_decide_eq_true g; omega), List.filter_cons_of_neg (p := fun y => decide (m < y)) (fun g => by have := of_decide_eq_true g; omega), List.length_cons]
      omega
    · rw [List.filter_cons_of_neg (p := fun y => decide (y < m)) (fun g => by have := of_decide_eq_true g; omega), List.filter_cons_of_pos (p := fun y => decide (m < y)) (decide_eq_true h), List.length_cons, List.length_cons]
      omega
theorem addM.len {l : List Int} {m : Int} (h : l.length ≤ 8) : (addM l m).length ≤ 8 := by
  unfold addM
  by_cases c : m ∈ l ∨ 8 ≤ l.length
  · rw [if_pos c]; exact h
  · rw [if_neg c, List.length_append, List.length_cons]
    have := fil2 (m := m) (l := l)
    have : ¬ 8 ≤ l.length := fun g => c (Or.inr g)
    omega
section Good
variable {g : Int → Js → Je} {p : Nat} {pl : Int}
theorem moreR.good {r r1 : Rt} {n : Int} (h : gdR p r) (hn : 0 ≤ n) (e : moreR r n = some r1) : gdR p r1 := by
  cases w : wOf r with
  | nil =>
    rw [moreR.nil w] at e
    rw [← Option.some.inj e]; exact h
  | cons x l =>
    by_cases c : 20 < ((wOf r).length : Int) + n
    · rw [moreR.far (by rw [w]; exact fun h => by cases h) c] at e
      cases e
    · rw [moreR.go w c] at e
      rw [← Option.some.inj e]
      refine ⟨h.1, h.2.1, ?_, h.2.2.2.1, h.2.2.2.2⟩
      show (List.replicate n.toNat x ++ wOf r).length ≤ 20
      rw [List.length_append, List.length_replicate]
      omega
theorem actS.good {a : Act} {s : Js} (ok : aOk pl a) (hg : a.1 = 28 → gdR p (g a.2 s).2.2) (h : gdR p s.2) : gdR p (actS g a s).2.2 := by
  by_cases c12 : a.1 = 12
  · rw [actS.a12 c12]; exact ⟨h.1, h.2.1, h.2.2.1, h.2.2.2.1, ok.1 c12, h.2.2.2.2.2⟩
  by_cases c13 : a.1 = 13
  · rw [actS.a13 c13]; exact ⟨h.1, h.2.1, h.2.2.1, h.2.2.2.1, h.2.2.2.2.1, h.2.2.2.2.2.1, ok.2.1 c13⟩
  by_cases c23 : a.1 = 23
  · rw [actS.a23 c23]; exact h
  by_cases c24 : a.1 = 24
  · rw [actS.a24 c24]; exact h
  by_cases c25 : a.1 = 25
  · rw [actS.a25 c25]; exact ⟨h.1, addM.srt h.2.1, h.2.2.1, addM.len h.2.2.2.1, h.2.2.2.2⟩
  by_cases c26 : a.1 = 26
  · rw [actS.a26 c26]; exact ⟨h.1, dropM.srt h.2.1, h.2.2.1, Nat.le_trans (List.length_filter_le _ _) h.2.2.2.1, h.2.2.2.2⟩
  by_cases c27 : a.1 = 27
  · cases e : moreR s.2 a.2 with
    | none => rw [actS.n27 c27 e]; exact h
    | some r => rw [actS.m27 c27 e]; exact moreR.good h (by have := ok.2.2.1 c27; omega) e
  by_cases c28 : a.1 = 28
  · rw [actS.a28 c28]; exact hg c28
  rw [actS.ot (by omega)]; exact h
theorem doA.good : ∀ {l : List Act} {s : Js}, (∀ a ∈ l, aOk pl a) → (∀ a ∈ l, a.1 = 28 → ∀ s : Js, gdR p s.2 → gdR p (g a.2 s).2.2) → gdR p s.2 → gdR p (doA g l s).2.2
  | [], _, _, _, h => h
  | a :: l, s, ok, hg, h => by
    by_cases c : 500 ≤ s.1
    · rw [doA.full c]; exact h
    · rw [doA.one c]
      have h1 : gdR p (actS g a (s.1 + 1, s.2)).2.2 := actS.good (ok a List.mem_cons_self) (fun e => hg a List.mem_cons_self e _ h) h
      by_cases c2 : (actS g a (s.1 + 1, s.2)).1 = 0
      · rw [if_pos c2]
        exact doA.good (fun b hb => ok b (List.mem_cons_of_mem _ hb)) (fun b hb => hg b (List.mem_cons_of_mem _ hb)) h1
      · rw [if_neg c2]; exact h1
theorem goR.good {T : Tst → Rt → Prop} : ∀ {l : List Rw} {s : Js}, (∀ x ∈ l, ∀ a ∈ x.2, aOk pl a) → (∀ x ∈ l, ∀ a ∈ x.2, a.1 = 28 → ∀ s : Js, gdR p s.2 → gdR p (g a.2 s).2.2) → gdR p s.2 → gdR p (goR g T l s).2.2
  | [], _, _, _, h => h
  | x :: l, s, ok, hg, h => by
    have rcc : ∀ s : Js, gdR p s.2 → gdR p (goR g T l s).2.2 := fun s hs => goR.good (fun y hy => ok y (List.mem_cons_of_mem _ hy)) (fun y hy => hg y (List.mem_cons_of_mem _ hy)) hs
    show gdR p (cIf (∀ t ∈ x.1, T t s.2) (if (doA g x.2 s).1 = 0 then goR g T l (doA g x.2 s).2 else doA g x.2 s) (goR g T l s)).2.2
    by_cases c : ∀ t ∈ x.1, T t s.2
    · rw [cIf.pos c]
      have h1 : gdR p (doA g x.2 s).2.2 := doA.good (ok x List.mem_cons_self) (hg x List.mem_cons_self) h
      by_cases c2 : (doA g x.2 s).1 = 0
      · rw [if_pos c2]; exact rcc _ h1
      · rw [if_neg c2]; exact h1
    · rw [cIf.neg c]; exact rcc s h
end Good
def jNg (J : Ju) : Prop := ∀ p, p < 0 → (jP J p).1 = []
theorem goP.good {J : Ju} {T : Int → Tst → Rt → Prop} {p : Nat} (ok : jOk J) (ng : jNg J) : ∀ (n : Nat) (c : Int) (s : Js), gdR p s.2 → gdR p (goP (fun p => (jP J p).1) T n c s).2.2
  | 0, _, _, h => h
  | n + 1, c, s, h => by
    show gdR p (goR (goP (fun p => (jP J p).1) T n) (T c) (jP J c).1 s).2.2
    by_cases c0 : c < 0
    · rw [ng c c0]; exact h
    · exact goR.good (pl := c) (fun x hx a ha => (ok c (by omega) x hx).2 a ha) (fun x hx a ha e s hs => goP.good ok ng n a.2 s hs) h
theorem thJ.good {J : Ju} {pl d q : Int} {r : Rt} {p : Nat} (ok : jOk J) (ng : jNg J) (h : rtO p (some r)) : rtO p (some (thJ J pl d q r).2) := by
  unfold thJ
  by_cases c : pl = -99999999
  · rw [if_pos c]; exact h
  · rw [if_neg c]
    intro r1 e
    have e : (gpJ J d q 12 pl (0, r)).2.2 = r1 := Option.some.inj e
    rw [← e]
    exact goP.good ok ng 12 pl (0, r) (h r rfl)
theorem mF.lr {w : mW} {μ m : mM} (hw : mWF w) (F : mF lLR w μ m) {b i : Nat} (hb : (108 ≤ b ∧ b ≤ 111) ∨ (119 ≤ b ∧ b ≤ 125) ∨ (127 ≤ b ∧ b ≤ 144)) : m b i = μ b i := by
  have h : b = 108 ∨ b = 109 ∨ b = 110 ∨ b = 111 ∨ b = 119 ∨ b = 120 ∨ b = 121 ∨ b = 122 ∨ b = 123 ∨ b = 124 ∨ b = 125 ∨ b = 127 ∨ b = 128 ∨ b = 129 ∨ b = 130 ∨ b = 131 ∨ b = 132 ∨ b = 133 ∨ b = 134 ∨ b = 135 ∨ b = 136 ∨ b = 137 ∨ b = 138 ∨ b = 139 ∨ b = 140 ∨ b = 141 ∨ b = 142 ∨ b = 143 ∨ b = 144 := by omega
  rcases h with e | e | e | e | e | e | e | e | e | e | e | e | e | e | e | e | e | e | e | e | e | e | e | e | e | e | e | e | e
  · subst e; exact F.f (A_108 hw) rfl rfl
  · subst e; exact F.f (A_109 hw) rfl rfl
  · subst e; exact F.f (A_110 hw) rfl rfl
  · subst e; exact F.f (A_111 hw) rfl rfl
  · subst e; exact F.f (A_119 hw) rfl rfl
  · subst e; exact F.f (A_120 hw) rfl rfl
  · subst e; exact F.f (A_121 hw) rfl rfl
  · subst e; exact F.f (A_122 hw) rfl rfl
  · subst e; exact F.f (A_123 hw) rfl rfl
  · subst e; exact F.f (A_124 hw) rfl rfl
  · subst e; exact F.f (A_125 hw) rfl rfl
  · subst e; exact F.f (A_127 hw) rfl rfl
  · subst e; exact F.f (A_128 hw) rfl rfl
  · subst e; exact F.f (A_129 hw) rfl rfl
  · subst e; exact F.f (A_130 hw) rfl rfl
  · subst e; exact F.f (A_131 hw) rfl rfl
  · subst e; exact F.f (A_132 hw) rfl rfl
  · subst e; exact F.f (A_133 hw) rfl rfl
  · subst e; exact F.f (A_134 hw) rfl rfl
  · subst e; exact F.f (A_135 hw) rfl rfl
  · subst e; exact F.f (A_136 hw) rfl rfl
  · subst e; exact F.f (A_137 hw) rfl rfl
  · subst e; exact F.f (A_138 hw) rfl rfl
  · subst e; exact F.f (A_139 hw) rfl rfl
  · subst e; exact F.f (A_140 hw) rfl rfl
  · subst e; exact F.f (A_141 hw) rfl rfl
  · subst e; exact F.f (A_142 hw) rfl rfl
  · subst e; exact F.f (A_143 hw) rfl rfl
  · subst e; exact F.f (A_144 hw) rfl rfl
theorem tsAR.cg {μ m : mM} (e : ∀ b, 132 ≤ b → b ≤ 139 → m b = μ b) : ∀ {l : List Tst} {i : Nat}, tsAR μ i l → tsAR m i l
  | [], _, _ => trivial
  | _ :: _, _, ⟨h1, h2⟩ => ⟨h1.cg e, tsAR.cg e h2⟩
theorem acR.cg {μ m : mM} (e : ∀ b, 140 ≤ b → b ≤ 141 → m b = μ b) : ∀ {l : List Act} {i : Nat}, acR μ i l → acR m i l
  | [], _, _ => trivial
  | _ :: _, _, ⟨⟨h1, h2⟩, h3⟩ => ⟨⟨by rw [e 140 (by omega) (by omega)]; exact h1, fun a b => by rw [e 141 (by omega) (by omega)]; exact h2 a b⟩, acR.cg e h3⟩
theorem rwR.cg {μ m : mM} {p : Nat} (e : ∀ b, 127 ≤ b → b ≤ 144 → m b = μ b) : ∀ {l : List Rw} {r t a : Nat}, rwR μ p r t a l → rwR m p r t a l
  | [], _, _, _, _ => trivial
  | _ :: _, _, _, _, ⟨⟨h1, h2⟩, ⟨h3, h4⟩, h5, h6, h7⟩ => ⟨⟨by rw [e 128 (by omega) (by omega)]; exact h1, by rw [e 129 (by omega) (by omega)]; exact h2⟩, ⟨by rw [e 128 (by omega) (by omega)]; exact h3, by rw [e 129 (by omega) (by omega)]; exact h4⟩, tsAR.cg (fun b q1 q2 => e b (by omega) (by omega)) h5, acR.cg (fun b q1 q2 => e b (by omega) (by omega)) h6, rwR.cg e h7⟩
theorem plR.cg {μ m : mM} {p : Nat} {P : Pol} (e : ∀ b, 127 ≤ b → b ≤ 144 → m b = μ b) (h : plR μ p P) : plR m p P := ⟨by rw [e 127 (by omega) (by omega)]; exact h.1, h.2.1.cg e, by rw [e 142 (by omega) (by omega)]; exact h.2.2.1, fun k hk => by rw [e 143 (by omega) (by omega), e 144 (by omega) (by omega)]; exact h.2.2.2 k hk⟩
theorem jgR.cg {μ m : mM} {J : Ju} (h : jgR μ J) (e : ∀ b, (108 ≤ b ∧ b ≤ 111) ∨ (119 ≤ b ∧ b ≤ 125) ∨ (127 ≤ b ∧ b ≤ 144) → m b = μ b) (e39 : m 106 39 = μ 106 39) (e17 : m 106 17 = μ 106 17) (e18 : m 106 18 = μ 106 18) : jgR m J := by
  obtain ⟨h1, h2, h3⟩ := h
  refine ⟨fun p hp => ?_, fun i hi => ?_, fun x n h0 h9 => ?_⟩
  · rw [e39] at hp
    exact plR.cg (fun b q1 q2 => e b (by omega)) (h1 p hp)
  · rw [e 108 (by omega), e 109 (by omega)]; exact h2 i hi
  · rw [e17, ← h3 x n h0 h9]
    exact vR.cg (fun b i hb => by rw [e b (by omega)]) e18
theorem letR.of {w : mW} {μ : mM} {E : En} {J : Ju} (hw : mWF w) (jg : jgR μ J) (ok : jOk J) (hE : eTh E = thJ J) (ti : tiG E) (er : enR μ E) (hr : ∀ t s, t < eT E → s < 2 → roK (μ 111 t) s = jR J (eN E t s) (eN E t (1 - s))) (h2 : μ 106 2 = (eP E : Int)) (hp : ∀ t i, t < eT E → i < 4 → plO (μ 106 39) (ePl E (4 * t + i))) : letR w μ E gJ := by
  refine ⟨hp, ?_⟩
  intro m pl r t s x Q hT F hG ht hs hpl hr0 _ hx hsr hxp k
  have eb : ∀ b, (108 ≤ b ∧ b ≤ 111) ∨ (119 ≤ b ∧ b ≤ 125) ∨ (127 ≤ b ∧ b ≤ 144) → m b = μ b := fun b hb => funext fun i => F.lr hw hb
  have e39 : m 106 39 = μ 106 39 := F.f (A_106 hw) rfl rfl
  have e2 : m 106 2 = μ 106 2 := F.f (A_106 hw) rfl rfl
  by_cases c : pl = -99999999
  · intro f0 _ _ f1 _ _ nt _ _ fx _ _ fp _ _
    have e : eTh E pl (eN E t s) (eN E t (1 - s)) x = (true, x) := by
      rw [hE]
      unfold thJ
      rw [if_pos c]
    rw [e] at k
    exact ⟨fun c2 => absurd c c2, fun _ => k 1 m ⟨fun _ => rfl, fun _ => rfl⟩ hx hG (fun _ _ _ _ _ _ _ => rfl)⟩
  · have e : eTh E pl (eN E t s) (eN E t (1 - s)) x = (decide (¬ (gpJ J (eN E t s) (eN E t (1 - s)) 12 pl (0, x)).1 = 2), (gpJ J (eN E t s) (eN E t (1 - s)) 12 pl (0, x)).2.2) := by
      rw [hE]
      unfold thJ
      rw [if_neg c]
    rw [e] at k
    have hpn : 0 ≤ pl ∧ pl < μ 106 39 := by rcases hpl with h | h <;> omega
    exact X12_through_s hw hT ok (jg.cg eb e39 (F.f (A_106 hw) rfl rfl) (F.f (A_106 hw) rfl rfl)) (fun t h => by rw [eb 110 (by omega)]; exact er t h) ti ht hs (by rw [eb 111 (by omega)]; exact hr t s ht hs) (by rw [e39]; exact hpn) hr0 hx hsr (by rw [e2, h2]; exact hxp) hG fun z m1 hz r1 g1 f1 => k z m1 (hz.trans decide_eq_true_iff.symm) r1 g1 fun b i q1 q2 q3 q4 q5 => f1 b i q1 q2 q3 q4 q5
end
