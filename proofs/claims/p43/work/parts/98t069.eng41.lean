/-! Policies: what they are, when a test holds, what going through answers; tests of the class. -/
/-- rows; places of ways: their numbers, what follows them, how many -/
abbrev Pol : Type := List Rw × (Nat → Int) × (Nat → Bs) × Nat
def lgt (l : List Int) (i : Nat) : Int := (l[i]?).getD 0
theorem lgt.row {f : Nat → Int} {n i : Nat} (h : i < n) : lgt (rowL f n) i = f i := by
  unfold lgt
  rw [rowL.get h]
  rfl
/-- policies; addresses and lengths of prefixes; today's verdict; what a partner is -/
abbrev Ju : Type := (Int → Pol) × (Nat → Int) × (Nat → Int) × (Int → Int → Int) × (Int → Int → Int)
abbrev jP (J : Ju) : Int → Pol := J.1
abbrev jA (J : Ju) : Nat → Int := J.2.1
abbrev jL (J : Ju) : Nat → Int := J.2.2.1
abbrev jV (J : Ju) : Int → Int → Int := J.2.2.2.1
abbrev jR (J : Ju) : Int → Int → Int := J.2.2.2.2
def relT (v b a : Int) : Prop := (a = 0 ∧ v < b) ∨ (a = 1 ∧ v = b) ∨ (a = 2 ∧ b < v)
/-- who began a way -/
def begN (d : Int) (l : List Int) : Int := if l.length = 0 then d else lgt l (l.length - 1)
def isT (J : Ju) (p d q : Int) (t : Tst) (r : Rt) : Prop :=
  if t.1 = 4 then t.2.2.2.1 ≤ jL J r.1.toNat ∧ jL J r.1.toNat ≤ t.2.2.2.2.1 ∧ bAnd (jA J r.1.toNat) (mskF t.2.2.2.1) = t.2.2.1
  else if t.1 = 6 then wyM (jP J p).2.1 (jP J p).2.2.1 t.2.2.2.2.2 (jP J p).2.2.2 (lgt (wOf r)) (wOf r).length
  else if t.1 = 8 then t.2.2.1 ∈ mOf r
  else if t.1 = 9 then q = t.2.2.1
  else if t.1 = 10 then jR J d q = t.2.2.1
  else if t.1 = 11 then relT ((wOf r).length : Int) t.2.2.2.1 t.2.2.1
  else if t.1 = 12 then relT r.2.1 t.2.2.2.1 t.2.2.1
  else if t.1 = 13 then relT r.2.2.2.1 t.2.2.2.1 t.2.2.1
  else if t.1 = 14 then r.2.2.1 = t.2.2.1
  else if t.1 = 15 then jV J r.1 (begN d (wOf r)) = t.2.2.1
  else False
section IsT
variable {J : Ju} {p d q : Int} {t : Tst} {r : Rt}
theorem isT.c4 (h : t.1 = 4) : isT J p d q t r ↔ (t.2.2.2.1 ≤ jL J r.1.toNat ∧ jL J r.1.toNat ≤ t.2.2.2.2.1 ∧ bAnd (jA J r.1.toNat) (mskF t.2.2.2.1) = t.2.2.1) := by
  unfold isT
  rw [if_pos h]
theorem isT.c6 (h : t.1 = 6) : isT J p d q t r ↔ wyM (jP J p).2.1 (jP J p).2.2.1 t.2.2.2.2.2 (jP J p).2.2.2 (lgt (wOf r)) (wOf r).length := by
  unfold isT
  rw [if_neg (by omega), if_pos h]
theorem isT.c8 (h : t.1 = 8) : isT J p d q t r ↔ t.2.2.1 ∈ mOf r := by
  unfold isT
  rw [if_neg (by omega), if_neg (by omega), if_pos h]
theorem isT.c9 (h : t.1 = 9) : isT J p d q t r ↔ q = t.2.2.1 := by
  unfold isT
  rw [if_neg (by omega), if_neg (by omega), if_neg (by omega), if_pos h]
theorem isT.c10 (h : t.1 = 10) : isT J p d q t r ↔ jR J d q = t.2.2.1 := by
  unfold isT
  rw [if_neg (by omega), if_neg (by omega), if_neg (by omega), if_neg (by omega), if_pos h]
theorem isT.c11 (h : t.1 = 11) : isT J p d q t r ↔ relT ((wOf r).length : Int) t.2.2.2.1 t.2.2.1 := by
  unfold isT
  rw [if_neg (by omega), if_neg (by omega), if_neg (by omega), if_neg (by omega), if_neg (by omega), if_pos h]
theorem isT.c12 (h : t.1 = 12) : isT J p d q t r ↔ relT r.2.1 t.2.2.2.1 t.2.2.1 := by
  unfold isT
  rw [if_neg (by omega), if_neg (by omega), if_neg (by omega), if_neg (by omega), if_neg (by omega), if_neg (by omega), if_pos h]
theorem isT.c13 (h : t.1 = 13) : isT J p d q t r ↔ relT r.2.2.2.1 t.2.2.2.1 t.2.2.1 := by
  unfold isT
  rw [if_neg (by omega), if_neg (by omega), if_neg (by omega), if_neg (by omega), if_neg (by omega), if_neg (by omega), if_neg (by omega), if_pos h]
theorem isT.c14 (h : t.1 = 14) : isT J p d q t r ↔ r.2.2.1 = t.2.2.1 := by
  unfold isT
  rw [if_neg (by omega), if_neg (by omega), if_neg (by omega), if_neg (by omega), if_neg (by omega), if_neg (by omega), if_neg (by omega), if_neg (by omega), if_pos h]
theorem isT.c15 (h : t.1 = 15) : isT J p d q t r ↔ jV J r.1 (begN d (wOf r)) = t.2.2.1 := by
  unfold isT
  rw [if_neg (by omega), if_neg (by omega), if_neg (by omega), if_neg (by omega), if_neg (by omega), if_neg (by omega), if_neg (by omega), if_neg (by omega), if_neg (by omega), if_pos h]
theorem isT.no (h : ¬ t.1 = 4 ∧ ¬ t.1 = 6 ∧ ¬ (8 ≤ t.1 ∧ t.1 ≤ 15)) : ¬ isT J p d q t r := by
  unfold isT
  rw [if_neg (by omega), if_neg (by omega), if_neg (by omega), if_neg (by omega), if_neg (by omega), if_neg (by omega), if_neg (by omega), if_neg (by omega), if_neg (by omega), if_neg (by omega)]
  exact id
end IsT
/-- a test holds, or, turned, doesn't -/
def tsT (J : Ju) (p d q : Int) (t : Tst) (r : Rt) : Prop := ¬ (isT J p d q t r ↔ t.2.1 = 1)
noncomputable def gpJ (J : Ju) (d q : Int) (n : Nat) (p : Int) (s : Js) : Je := goP (fun p => (jP J p).1) (fun p => tsT J p d q) n p s
/-- what going through a policy answers -/
noncomputable def thJ (J : Ju) (pl d q : Int) (r : Rt) : Bool × Rt := if pl = -99999999 then (true, r) else (decide (¬ (gpJ J d q 12 pl (0, r)).1 = 2), (gpJ J d q 12 pl (0, r)).2.2)
/-- a test, an act as the reader leaves them -/
def tOk (t : Tst) : Prop := (t.1 = 4 ∨ t.1 = 6 ∨ (8 ≤ t.1 ∧ t.1 ≤ 15)) ∧ (t.2.1 = 0 ∨ t.2.1 = 1) ∧ (t.1 = 4 → (0 ≤ t.2.2.2.1 ∧ t.2.2.2.1 ≤ 32) ∧ (-2147483648 ≤ t.2.2.1 ∧ t.2.2.1 ≤ 2147483647) ∧ bAnd t.2.2.1 (bXor (mskF t.2.2.2.1) (-1)) = 0) ∧ (11 ≤ t.1 ∧ t.1 ≤ 13 → 0 ≤ t.2.2.1 ∧ t.2.2.1 ≤ 2) ∧ (t.1 = 15 → 0 ≤ t.2.2.1 ∧ t.2.2.1 ≤ 2)
def aOk (p : Int) (a : Act) : Prop := (a.1 = 12 → 0 ≤ a.2 ∧ a.2 ≤ 1000) ∧ (a.1 = 13 → 0 ≤ a.2 ∧ a.2 ≤ 1000000) ∧ (a.1 = 27 → 1 ≤ a.2 ∧ a.2 ≤ 9) ∧ (a.1 = 28 → 0 ≤ a.2 ∧ a.2 < p)
def jOk (J : Ju) : Prop := ∀ p, 0 ≤ p → ∀ x ∈ (jP J p).1, (∀ t ∈ x.1, tOk t) ∧ ∀ a ∈ x.2, aOk p a
theorem gpJ.eq {J : Ju} {d q p : Int} {s : Js} (ok : jOk J) (h0 : 0 ≤ p) (h1 : p < 12) : gpJ J d q 12 p s = goR (gpJ J d q 12) (tsT J p d q) (jP J p).1 s := by
  have cb : ∀ p, 0 ≤ p → callsB (jP J p).1 p := fun p hp x hx a ha e => ((ok p hp x hx).2 a ha).2.2.2 e
  show goR (goP (fun p => (jP J p).1) (fun p => tsT J p d q) 11) (tsT J p d q) (jP J p).1 s = _
  refine goR.cg fun x hx a ha e s => ?_
  have k := cb p h0 x hx a ha e
  exact goP.enough cb 11 12 a.2 s k.1 (by omega) (by omega)
theorem lCmp_iff {x y z : Int} (q : lCmp x y = z) (hx : -9223372036854775808 ≤ x ∧ x ≤ 9223372036854775807) (hy : -9223372036854775808 ≤ y ∧ y ≤ 9223372036854775807) : z = 0 ↔ x = y := ⟨fun h => lCmp_eq q hx hy h, fun e => Classical.byContradiction fun h => lCmp_nz q h e⟩
theorem loopF.i3 {B : (Int × Int × Int → Prop) → Int × Int × Int → Prop} (I : Int → Int → Int → Prop) (m : Int → Int → Int → Nat) {n : Nat} {x y z : Int} (h : I x y z) (hm : m x y z < n) (step : ∀ (rc : Int × Int × Int → Prop) (x y z : Int), I x y z → (∀ x' y' z', I x' y' z' → m x' y' z' < m x y z → rc (x', y', z')) → B rc (x, y, z)) : loopF B False n (x, y, z) := loopF.ind (fun s => I s.1 s.2.1 s.2.2) (fun s => m s.1 s.2.1 s.2.2) (fun rc s hI ih => step rc s.1 s.2.1 s.2.2 hI fun x' y' z' => ih (x', y', z')) n (x, y, z) h hm
/-! A policy of the class. -/
/-- a test as it stands in the code f; ff, fl: first and last places of ways, n of them -/
def tsC (n : Nat) (f ff fl : Nat → Int) (i : Nat) (t : Tst) : Prop := f i = t.1 ∧ f (i + 1) = t.2.1 ∧ (t.1 = 6 → (0 ≤ f (i + 2) ∧ f (i + 2) < (n : Int)) ∧ isS (ff (f (i + 2)).toNat) t.2.2.2.2.2.1 ∧ isS (fl (f (i + 2)).toNat) t.2.2.2.2.2.2.1 ∧ (f (i + 3) = 1 ↔ t.2.2.2.2.2.2.2)) ∧ (¬ t.1 = 6 → f (i + 2) = t.2.2.1 ∧ f (i + 3) = t.2.2.2.1 ∧ f (i + 4) = t.2.2.2.2.1)
def tsAC (n : Nat) (f ff fl : Nat → Int) : Nat → List Tst → Prop
  | _, [] => True
  | i, t :: l => tsC n f ff fl i t ∧ tsAC n f ff fl (i + 5) l
def acC (f : Nat → Int) : Nat → List Act → Prop
  | _, [] => True
  | i, a :: l => (f i = a.1 ∧ f (i + 1) = a.2) ∧ acC f (i + 2) l
def rwsC (n : Nat) (f ff fl : Nat → Int) : Nat → List Rw → Prop
  | _, [] => True
  | i, x :: l => (f i = (x.1.length : Int) ∧ f (i + 1) = (x.2.length : Int)) ∧ tsAC n f ff fl (i + 2) x.1 ∧ acC f (i + 2 + 5 * x.1.length) x.2 ∧ rwsC n f ff fl (i + 2 + 5 * x.1.length + 2 * x.2.length) l
/-- the cells of a policy: code, places, next, first, last -/
def plA (w : mW) (μ : mM) (b c cp cn cf cl : Nat) : Prop := (mAt w b 230 ∧ mAt w c 231 ∧ mAt w cp 232 ∧ mAt w cn 233 ∧ mAt w cf 234 ∧ mAt w cl 235) ∧ μ b 1 = (c : Int) ∧ μ b 2 = (cp : Int) ∧ μ b 3 = (cn : Int) ∧ μ b 4 = (cf : Int) ∧ μ b 5 = (cl : Int)
/-- places of ways -/
def plN (w : mW) (μ : mM) (cp cn : Nat) (P : Pol) : Prop := w.2.2.1 cp = P.2.2.2 ∧ ∀ k, k < P.2.2.2 → (μ cp k = P.2.1 k ∧ isS (μ cn k) (P.2.2.1 k)) ∧ -1 ≤ P.2.1 k
def plC (w : mW) (μ : mM) (b : Nat) (P : Pol) : Prop := ∃ c cp cn cf cl : Nat, plA w μ b c cp cn cf cl ∧ μ b 0 = (P.1.length : Int) ∧ rwsC (w.2.2.1 cf) (μ c) (μ cf) (μ cl) 0 P.1 ∧ plN w μ cp cn P
/-- what the class's judge reads -/
def jgC (w : mW) (μ : mM) (J : Ju) : Prop := (∀ p : Nat, (p : Int) < μ 21 8 → ∃ b : Nat, μ 22 p = (b : Int) ∧ plC w μ b (jP J (p : Int))) ∧ (∀ i, i < 10 → μ 7 i = jA J i ∧ μ 8 i = jL J i) ∧ ∀ x n : Int, 0 ≤ x → x ≤ 9 → vC μ x n (μ 6 18) (μ 6 18) = jV J x n
section JudC
variable {w : mW} {μ : mM}
theorem X10_maskOf_s {l : Int} {Q : Int → mM → Prop} (h : 0 ≤ l ∧ l ≤ 32) (k : Q (mskF l) μ) : WP_X10_maskOf_W w μ l Q := by
  refine ⟨fun c z _ e y ey => ?_, fun c => ?_⟩
  · have ez : z = 32 - l := by omega
    subst ez
    rw [mskF.pos c ey]
    exact k
  · rw [mskF.zero c]
    exact k
theorem X10_verdictOn_s {p n d e : Int} {Q : Int → mM → Prop} (k : Q (vC μ p n d e) μ) : WP_X10_verdictOn_W w μ p n d e Q := by
  refine loopF.ii (fun z i => 0 ≤ i ∧ (i = 0 ∨ i ≤ μ 6 17) ∧ z = vdF (apC μ p d e) (okC μ p n) i.toNat ∧ (z = 0 ∨ z = 2)) (fun _ i => (31 - i).toNat) ⟨by omega, Or.inl rfl, rfl, Or.inr rfl⟩ (by omega) ?_
  rintro rc z i ⟨i0, i1, hz, hz2⟩ ih z' i' e' rz ri m em rm
  cases e'
  refine ⟨fun g => ?_, fun g a ea ra => ?_⟩
  · have e1 : i.toNat = (μ 6 17).toNat := by omega
    unfold vC at k
    rw [← e1, ← hz] at k
    exact k
  have skip : ¬ apC μ p d e i.toNat → rc (z, i + 1) := fun hn => ih _ _ ⟨by omega, Or.inr (by omega), vd.skip hz i0 hn, hz2⟩ (by omega)
  have go : apC μ p d e i.toNat → ¬ okC μ p n i.toNat → rc (0, i + 1) := fun ha hn => ih _ _ ⟨by omega, Or.inr (by omega), vd.go hz i0 ha (Or.inr ⟨hn, by omega⟩), Or.inl rfl⟩ (by omega)
  have J4 : ∀ f1 f2 zl f3 : Int, (f1 = 0 ∨ f1 = 1) → (f2 = 0 ∨ f2 = 1) → μ 8 p.toNat = zl → ((f1 = 1 ∧ f2 = 1 ∧ f3 = 1) ↔ apC μ p d e i.toNat) → WJ_X10_verdictOn_W_4 μ n Q rc z i f1 f2 zl f3 := by
    intro f1 f2 zl f3 h1 h2 el H r3
    refine ⟨fun c => skip fun a => by have := H.mpr a; omega, fun c => ⟨fun c2 => skip fun a => by have := H.mpr a; omega, fun c2 => ⟨fun c3 x ex rx => ?_, fun c3 => skip fun a => by have := H.mpr a; omega⟩⟩⟩
    have ap := H.mp ⟨by omega, by omega, by omega⟩
    refine ⟨fun c4 => go ap fun o => c4 (ex.symm.trans o.1), fun c4 y ey ry => ⟨fun c5 => go ap fun o => ?_, fun c5 => ?_⟩⟩
    · have o2 := o.2
      rw [el, ey] at o2
      omega
    · have ok : okC μ p n i.toNat := ⟨ex.trans c4, by rw [el, ey]; exact c5⟩
      unfold vC at k
      rw [← vd.one (n := μ 6 17) ⟨i0, by omega⟩ ap ok] at k
      exact k
  have J3 : ∀ f1 f2 : Int, (f1 = 0 ∨ f1 = 1) → (f2 = 0 ∨ f2 = 1) → (f1 = 1 ↔ (μ 17 i.toNat ≤ d ∧ d < μ 18 i.toNat)) → (f2 = 1 ↔ (μ 19 i.toNat ≤ e ∧ (μ 20 i.toNat = -1 ∨ e < μ 20 i.toNat))) → WJ_X10_verdictOn_W_3 μ p n Q rc z i f1 f2 := by
    intro f1 f2 h1 h2 H1 H2 _ x ex rx l el rl zl ezl rzl
    refine ⟨fun c => J4 f1 f2 zl 0 h1 h2 ezl ⟨fun g => absurd g.2.2 (by decide), fun g => ?_⟩, fun c y ey ry v ev rv u eu s es rs => ⟨fun c2 => J4 f1 f2 zl 0 h1 h2 ezl ⟨fun g => absurd g.2.2 (by decide), fun g => ?_⟩, fun c2 => J4 f1 f2 zl 1 h1 h2 ezl ⟨fun g => ?_, fun g => ?_⟩⟩⟩
    · have g1 := g.1.2.2.2.2
      rw [ex, el, ezl] at g1
      omega
    · have g2 := g.2
      rw [ex, ey, ev, es, eu] at g2
      exact absurd g2 c2
    · have a1 := H1.mp g.1
      have a2 := H2.mp g.2.1
      refine ⟨⟨a1.1, a1.2, a2.1, a2.2, ?_⟩, ?_⟩
      · rw [ex, el, ezl]; exact c
      · rw [ex, ey, ev, es, eu]; exact c2
    · exact ⟨H1.mpr ⟨g.1.1, g.1.2.1⟩, H2.mpr ⟨g.1.2.2.1, g.1.2.2.2.1⟩, rfl⟩
  have J2 : ∀ f1 : Int, (f1 = 0 ∨ f1 = 1) → (f1 = 1 ↔ (μ 17 i.toNat ≤ d ∧ d < μ 18 i.toNat)) → WJ_X10_verdictOn_W_2 μ p n e Q rc z i f1 := by
    intro f1 h1 H1 _ x ex rx
    refine ⟨fun c => J3 f1 0 h1 (Or.inl rfl) H1 ⟨fun g => absurd g (by decide), fun g => by omega⟩, fun c y ey ry => ⟨fun c2 => J3 f1 1 h1 (Or.inr rfl) H1 ⟨fun _ => ⟨by omega, Or.inl (by omega)⟩, fun _ => rfl⟩, fun c2 => ⟨fun c3 => J3 f1 0 h1 (Or.inl rfl) H1 ⟨fun g => absurd g (by decide), fun g => by omega⟩, fun c3 => J3 f1 1 h1 (Or.inr rfl) H1 ⟨fun _ => ⟨by omega, Or.inr (by omega)⟩, fun _ => rfl⟩⟩⟩⟩
  refine ⟨fun c => J2 0 (Or.inl rfl) ⟨fun g => absurd g (by decide), fun g => by omega⟩, fun c y ey ry => ⟨fun c2 => J2 0 (Or.inl rfl) ⟨fun g => absurd g (by decide), fun g => by omega⟩, fun c2 => J2 1 (Or.inr rfl) ⟨fun _ => ⟨by omega, by omega⟩, fun _ => rfl⟩⟩⟩
theorem X5_tells_s {a0 a3 cp cn cf cl : Nat} {p1 p2 : Int} {P : Pol} {pc : Pce} {l : List Int} {Q : Int → mM → Prop} (hl : rowL (μ (a3 + 1)) (μ a3 7).toNat = l) (e2 : μ a0 2 = (cp : Int)) (e3 : μ a0 3 = (cn : Int)) (e4 : μ a0 4 = (cf : Int)) (e5 : μ a0 5 = (cl : Int))
    (hP : plN w μ cp cn P) (hi : 0 ≤ p1 ∧ p1 < (w.2.2.1 cf : Int)) (hf : isS (μ cf p1.toNat) pc.1) (he : isS (μ cl p1.toNat) pc.2.1) (h2 : p2 = 1 ↔ pc.2.2)
    (k : ∀ z : Int, (z = 1 ↔ wyM P.2.1 P.2.2.1 pc P.2.2.2 (lgt l) l.length) → Q z μ) : WP_X5_tells_W w μ a0 p1 p2 a3 Q := by
  obtain ⟨hm, hk⟩ := hP
  intro n en rn
  have ll : l.length = n.toNat := by rw [← hl, rowL.len, en]
  have wl : ∀ i, i < n.toNat → μ (a3 + 1) i = lgt l i := fun i hi => by
    rw [← hl, lgt.row (by rw [en]; exact hi)]
  rw [ll] at k
  refine ⟨fun c => ⟨fun g => absurd g (by omega), fun _ b eb _ ln eln _ => ⟨fun g x ex rx => ?_, fun g => ?_⟩⟩, fun c => k p2 (h2.trans (wyM.nil c).symm)⟩
  rotate_left 1
  · have eb' : b = cf := by omega
    subst eb'
    omega
  have eb' : b = cf := by omega
  subst eb'
  rw [ex] at hf
  refine loopF.i3 (fun o r i => 0 ≤ i ∧ i ≤ n ∧ isS o (opI P.2.1 P.2.2.1 pc.1 P.2.2.2 (lgt l) i.toNat) ∧ (0 < i → isS r (rcI P.2.1 P.2.2.1 pc.1 P.2.2.2 (lgt l) (i - 1).toNat))) (fun _ _ i => (21 - i).toNat) ⟨by omega, by omega, hf, fun q => absurd q (by omega)⟩ (by omega) ?_
  rintro rc o r i ⟨i0, i1, ho, hr⟩ ih o' r' i' e ro rr ri
  cases e
  refine ⟨fun g b5 eb5 _ ln5 _ _ y ey ry z ez c5 ec5 => ?_, fun g => ?_⟩
  · have eb5' : b5 = cl := by omega
    subst eb5'
    rw [ey] at he
    have ei : n = i := by omega
    subst ei
    have rz : -9223372036854775808 ≤ z ∧ z ≤ 9223372036854775807 := by
      rw [← ez]; exact r64i _
    have W := wyM.end (n := n) (i := n - 1) (by omega) (by omega) (hr (by omega)) he ez rz
    have C := lCmp_iff ec5 rz (by decide)
    exact ⟨fun q => k 0 ⟨fun e => absurd e (by decide), fun e => absurd (C.mp q) (W.mpr e)⟩, fun q => k 1 ⟨fun _ => W.mp fun e => q (C.mpr e), fun _ => rfl⟩⟩
  · refine loopF.i3 (fun r2 o2 k2 => 0 ≤ k2 ∧ k2 ≤ (P.2.2.2 : Int) ∧ isS r2 (rcS P.2.1 (opI P.2.1 P.2.2.1 pc.1 P.2.2.2 (lgt l) i.toNat) (lgt l i.toNat) k2.toNat) ∧ isS o2 (opS P.2.2.1 (rcS P.2.1 (opI P.2.1 P.2.2.1 pc.1 P.2.2.2 (lgt l) i.toNat) (lgt l i.toNat) k2.toNat))) (fun _ _ k2 => (41 - k2).toNat) ⟨by omega, by omega, rcS.zero, opS.zero⟩ (by omega) ?_
    rintro rc2 r2 o2 k2 ⟨k0, k1, hr2, ho2⟩ ih2 r2' o2' k2' e _ _ rk b2 eb2 _ m em _
    cases e
    have eb2' : b2 = cp := by omega
    subst eb2'
    rw [hm] at em
    refine ⟨fun g2 => ?_, fun g2 x2 ex2 _ => ?_⟩
    · have e2 : k2.toNat = P.2.2.2 := by omega
      refine ih _ _ _ ⟨by omega, by omega, opI.ofC ho2 e2 i0 rfl, fun _ => ?_⟩ (by omega)
      rw [show (i + 1 - 1).toNat = i.toNat by omega]
      exact rcI.ofC hr2 e2
    have kn : k2.toNat < P.2.2.2 := by omega
    obtain ⟨⟨hn, hx⟩, hge⟩ := hk k2.toNat kn
    rw [ex2] at hn
    have wv : ∀ v, μ (a3 + 1) i.toNat = v → v = lgt l i.toNat := fun v q => q.symm.trans (wl i.toNat (by omega))
    have skip : ¬ (opI P.2.1 P.2.2.1 pc.1 P.2.2.2 (lgt l) i.toNat k2.toNat ∧ (P.2.1 k2.toNat < 0 ∨ P.2.1 k2.toNat = lgt l i.toNat)) → rc2 (r2, o2, k2 + 1) := fun q => ih2 _ _ _ ⟨by omega, by omega, isS.skip hr2 k0 q rfl, opS.skip ho2 k0 q rfl⟩ (by omega)
    have J0 : ¬ (P.2.1 k2.toNat < 0 ∨ P.2.1 k2.toNat = lgt l i.toNat) → WJ_X5_tells_W_3 w μ a0 o rc2 r2 o2 k2 0 := fun q _ => ⟨fun _ => skip fun h => q h.2, fun h => absurd rfl h⟩
    have J1 : (P.2.1 k2.toNat < 0 ∨ P.2.1 k2.toNat = lgt l i.toNat) → WJ_X5_tells_W_3 w μ a0 o rc2 r2 o2 k2 1 := fun q => by
      intro _
      refine ⟨fun h => absurd h (by decide), fun _ a ea b3 eb3 c ec => ?_⟩
      have B := bLg.c (x := o) ⟨k0, by omega⟩ ea eb3
      have rb : -9223372036854775808 ≤ b3 ∧ b3 ≤ 9223372036854775807 := by
        rw [← eb3]; exact r64i _
      have C := lCmp_iff ec rb (by decide)
      refine ⟨fun h => skip fun h2 => ?_, fun h z ez z2 ez2 b4 eb4 _ _ _ _ y ey _ z3 ez3 => ?_⟩
      · exact (B.mpr ((ho k2.toNat).mpr h2.1)) (C.mp h)
      · have oo := (ho k2.toNat).mp (B.mp fun e => h (C.mpr e))
        have eb4' : b4 = cn := by omega
        subst eb4'
        rw [ey] at hx
        exact ih2 _ _ _ ⟨by omega, by omega, isS.put hr2 ⟨k0, by omega⟩ oo q ez ez2 rfl, opS.put ho2 k0 oo q hx ez3 rfl⟩ (by omega)
    exact ⟨fun c => J1 (Or.inl (by omega)), fun c v ev' _ => ⟨fun c2 => J0 (by have := wv v ev'; omega), fun c2 => J1 (Or.inr (by have := wv v ev'; omega))⟩⟩
theorem X1_isSo_s {J : Ju} {b c cp cn cf cl a i : Nat} {p d q : Int} {t : Tst} {r : Rt} {Q : Int → mM → Prop} (hA : plA w μ b c cp cn cf cl) (hP : plN w μ cp cn (jP J p)) (ht : tsC (w.2.2.1 cf) (μ c) (μ cf) (μ cl) i t) (ok : tOk t)
    (tb : ∀ i, i < 10 → μ 7 i = jA J i ∧ μ 8 i = jL J i) (vd : ∀ x n : Int, 0 ≤ x → x ≤ 9 → vC μ x n (μ 6 18) (μ 6 18) = jV J x n) (h2 : μ 21 2 = (a : Int)) (h3 : μ 21 3 = d) (h4 : μ 21 4 = q) (h5 : μ 21 5 = jR J d q) (hr : rtC μ a = some r)
    (k : ∀ z : Int, (z = 1 ↔ isT J p d q t r) → Q z μ) : WP_X1_isSo_W w μ b (i : Int) Q := by
  obtain ⟨_, x1, x2, x3, x4, x5⟩ := hA
  obtain ⟨t1, t2, t6, t7⟩ := ht
  have er := (rtC.get hr).2
  have wyr : rowL (μ (a + 1)) (μ a 7).toNat = wOf r := by rw [er]
  have mkr : rowL (μ (a + 2)) (μ a 8).toNat = mOf r := by rw [er]
  have r3 : μ a 3 = r.1 := by rw [er]
  have r4 : μ a 4 = r.2.1 := by rw [er]
  have r5 : μ a 5 = r.2.2.1 := by rw [er]
  have r6 : μ a 6 = r.2.2.2.1 := by rw [er]
  have rl : (wOf r).length = (μ a 7).toNat := by rw [← wyr, rowL.len]
  intro b1 eb1 _ ln _ _ A eA _ B eB _ C eC _ W eW _
  have eb : b1 = c := by omega
  subst eb
  rw [show ((i : Int) + 2).toNat = i + 2 by omega] at eA
  rw [show ((i : Int) + 3).toNat = i + 3 by omega] at eB
  rw [show ((i : Int) + 4).toNat = i + 4 by omega] at eC
  rw [Int.toNat_natCast, t1] at eW
  subst eW
  rw [eA, eB] at t6
  rw [eA, eB, eC] at t7
  refine ⟨fun g b2 f2 _ x ex rx L eL rL => ?_, fun n4 => ⟨fun g => k 0 ⟨fun e => absurd e (by decide), fun e => absurd e (isT.no (by omega))⟩, fun n5 => ⟨fun g => ?_, fun n6 => ⟨fun g => k 0 ⟨fun e => absurd e (by decide), fun e => absurd e (isT.no (by omega))⟩, fun n7 => ⟨fun g b2 f2 _ => ?_, fun n8 => ⟨fun g x ex rx => ?_, fun n9 => ⟨fun g x ex rx => ?_, fun n10 => ⟨fun g b2 f2 _ x ex rx y hy => ?_, fun n11 => ⟨fun g b2 f2 _ x ex rx y hy => ?_, fun n12 => ⟨fun g b2 f2 _ x ex rx y hy => ?_, fun n13 => ⟨fun g b2 f2 _ x ex rx => ?_, fun n14 => ⟨fun g b2 f2 _ x ex rx => ?_, fun n15 => k 0 ⟨fun e => absurd e (by decide), fun e => absurd e (isT.no (by omega))⟩⟩⟩⟩⟩⟩⟩⟩⟩⟩⟩⟩⟩
  · have e2 : b2 = a := by omega
    subst e2
    obtain ⟨a1, a2, a3⟩ := t7 (by omega)
    rw [r3] at ex
    obtain ⟨c7, c8⟩ := tb x.toNat (by omega)
    have o4 := (ok.2.2.1 g).1
    rw [← a2] at o4
    rw [← ex] at c7 c8
    have eL' : jL J r.1.toNat = L := by rw [← c8, ← eL, ex]
    have I := isT.c4 (J := J) (p := p) (d := d) (q := q) (r := r) g
    rw [← a1, ← a2, ← a3, eL'] at I
    refine ⟨fun u => k 0 ⟨fun e => absurd e (by decide), fun e => by have := I.mp e; omega⟩, fun u => ⟨fun v => k 0 ⟨fun e => absurd e (by decide), fun e => by have := I.mp e; omega⟩, fun v y ey ry => X10_maskOf_s o4 fun _ m em => ?_⟩⟩
    have ey' : jA J r.1.toNat = y := by rw [← c7, ← ey, ex]
    rw [ey', em] at I
    exact ⟨fun u2 => k 0 ⟨fun e => absurd e (by decide), fun e => absurd (I.mp e).2.2 u2⟩, fun u2 => k 1 ⟨fun _ => I.mpr ⟨u, v, u2⟩, fun _ => rfl⟩⟩
  · obtain ⟨a1, a2, a3, a4⟩ := t6 g
    have I := isT.c6 (J := J) (p := p) (d := d) (q := q) (r := r) g
    refine ⟨fun u b2 f2 _ => ?_, fun u b2 f2 _ => ?_⟩
    · have e2 : b2 = a := by omega
      subst e2
      refine X5_tells_s wyr x2 x3 x4 x5 hP a1 a2 a3 ?_ fun z hz _ => k z (hz.trans I.symm)
      exact ⟨fun e => absurd e (by decide), fun e => absurd (a4.mpr e) u⟩
    · have e2 : b2 = a := by omega
      subst e2
      refine X5_tells_s wyr x2 x3 x4 x5 hP a1 a2 a3 ?_ fun z hz _ => k z (hz.trans I.symm)
      exact ⟨fun _ => a4.mp u, fun _ => rfl⟩
  · have e2 : b2 = a := by omega
    subst e2
    have I := isT.c8 (J := J) (p := p) (d := d) (q := q) (r := r) g
    rw [← (t7 (by omega)).1, ← mkr] at I
    exact X7_hasMark_s fun z hz _ => k z (hz.trans I.symm)
  · have I := isT.c9 (J := J) (p := p) (d := d) (q := q) (r := r) g
    rw [← (t7 (by omega)).1, ← h4, ex] at I
    rw [h4] at ex
    subst ex
    exact ⟨fun u => k 0 ⟨fun e => absurd e (by decide), fun e => absurd (I.mp e) u⟩, fun u => k 1 ⟨fun _ => I.mpr u, fun _ => rfl⟩⟩
  · have I := isT.c10 (J := J) (p := p) (d := d) (q := q) (r := r) g
    rw [← (t7 (by omega)).1, ← h5, ex] at I
    exact ⟨fun u => k 0 ⟨fun e => absurd e (by decide), fun e => absurd (I.mp e) u⟩, fun u => k 1 ⟨fun _ => I.mpr u, fun _ => rfl⟩⟩
  · have e2 : b2 = a := by omega
    subst e2
    have I := isT.c11 (J := J) (p := p) (d := d) (q := q) (r := r) g
    have tt := ok.2.2.2.1 (by omega)
    rw [← (t7 (by omega)).1] at tt
    rw [← (t7 (by omega)).1, ← (t7 (by omega)).2.1, rl, ex, Int.toNat_of_nonneg rx.1] at I
    unfold relT at I
    exact ⟨fun u => k 0 ⟨fun e => absurd e (by decide), fun e => by have := I.mp e; omega⟩, fun u => k 1 ⟨fun _ => I.mpr (by omega), fun _ => rfl⟩⟩
  · have e2 : b2 = a := by omega
    subst e2
    have I := isT.c12 (J := J) (p := p) (d := d) (q := q) (r := r) g
    have tt := ok.2.2.2.1 (by omega)
    rw [← (t7 (by omega)).1] at tt
    rw [← (t7 (by omega)).1, ← (t7 (by omega)).2.1, ← r4, ex] at I
    unfold relT at I
    exact ⟨fun u => k 0 ⟨fun e => absurd e (by decide), fun e => by have := I.mp e; omega⟩, fun u => k 1 ⟨fun _ => I.mpr (by omega), fun _ => rfl⟩⟩
  · have e2 : b2 = a := by omega
    subst e2
    have I := isT.c13 (J := J) (p := p) (d := d) (q := q) (r := r) g
    have tt := ok.2.2.2.1 (by omega)
    rw [← (t7 (by omega)).1] at tt
    rw [← (t7 (by omega)).1, ← (t7 (by omega)).2.1, ← r6, ex] at I
    unfold relT at I
    exact ⟨fun u => k 0 ⟨fun e => absurd e (by decide), fun e => by have := I.mp e; omega⟩, fun u => k 1 ⟨fun _ => I.mpr (by omega), fun _ => rfl⟩⟩
  · have e2 : b2 = a := by omega
    subst e2
    have I := isT.c14 (J := J) (p := p) (d := d) (q := q) (r := r) g
    rw [← (t7 (by omega)).1, ← r5, ex] at I
    exact ⟨fun u => k 0 ⟨fun e => absurd e (by decide), fun e => absurd (I.mp e) u⟩, fun u => k 1 ⟨fun _ => I.mpr u, fun _ => rfl⟩⟩
  · have e2 : b2 = a := by omega
    subst e2
    have I := isT.c15 (J := J) (p := p) (d := d) (q := q) (r := r) g
    rw [← (t7 (by omega)).1, ← r3] at I
    have J1 : ∀ n : Int, n = begN d (wOf r) → WJ_X1_isSo_W_1 w μ Q A b2 n := by
      intro n hn _ v ev rv u eu ru
      refine X10_verdictOn_s ?_
      intro _
      rw [← eu, vd v n rv.1 rv.2]
      rw [← hn, ev] at I
      exact ⟨fun u => k 0 ⟨fun e => absurd e (by decide), fun e => absurd (I.mp e) u⟩, fun u => k 1 ⟨fun _ => I.mpr u, fun _ => rfl⟩⟩
    refine ⟨fun u y ey _ => J1 y ?_, fun u y ey _ => J1 y ?_⟩
    · unfold begN
      rw [if_pos (by rw [rl, ex]; omega), ← h3, ey]
    · unfold begN
      rw [if_neg (by rw [rl, ex]; omega), rl, ex, ← wyr, ex, lgt.row (by omega), ← ey]
      congr 1
      omega
end JudC
