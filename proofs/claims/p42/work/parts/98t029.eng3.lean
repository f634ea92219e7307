section
/-! Routes: what the calls on them do, out of their weakest preconditions. -/
theorem loopF.i {B : (Int → Prop) → Int → Prop} (I : Int → Prop) (m : Int → Nat) {n : Nat} {z : Int} (h : I z) (hm : m z < n) (step : ∀ (rc : Int → Prop) (z : Int), I z → (∀ z', I z' → m z' < m z → rc z') → B rc z) : loopF B False n z := loopF.ind I m step n z h hm
theorem loopF.ii {B : (Int × Int → Prop) → Int × Int → Prop} (I : Int → Int → Prop) (m : Int → Int → Nat) {n : Nat} {x y : Int} (h : I x y) (hm : m x y < n) (step : ∀ (rc : Int × Int → Prop) (x y : Int), I x y → (∀ x' y', I x' y' → m x' y' < m x y → rc (x', y')) → B rc (x, y)) : loopF B False n (x, y) := loopF.ind (fun s => I s.1 s.2) (fun s => m s.1 s.2) (fun rc s hI ih => step rc s.1 s.2 hI fun x' y' => ih (x', y')) n (x, y) h hm
theorem loopF.im {B : (Int × mM → Prop) → Int × mM → Prop} (I : Int → mM → Prop) (m : Int → Nat) {n : Nat} {z : Int} {μ : mM} (h : I z μ) (hm : m z < n) (step : ∀ (rc : Int × mM → Prop) (z : Int) (μ : mM), I z μ → (∀ z' μ', I z' μ' → m z' < m z → rc (z', μ')) → B rc (z, μ)) : loopF B False n (z, μ) := loopF.ind (fun s => I s.1 s.2) (fun s => m s.1) (fun rc s hI ih => step rc s.1 s.2 hI fun x' y' => ih (x', y')) n (z, μ) h hm
theorem loopF.iim {B : (Int × Int × mM → Prop) → Int × Int × mM → Prop} (I : Int → Int → mM → Prop) (m : Int → Int → Nat) {n : Nat} {x y : Int} {μ : mM} (h : I x y μ) (hm : m x y < n) (step : ∀ (rc : Int × Int × mM → Prop) (x y : Int) (μ : mM), I x y μ → (∀ x' y' μ', I x' y' μ' → m x' y' < m x y → rc (x', y', μ')) → B rc (x, y, μ)) : loopF B False n (x, y, μ) := loopF.ind (fun s => I s.1 s.2.1 s.2.2) (fun s => m s.1 s.2.1) (fun rc s hI ih => step rc s.1 s.2.1 s.2.2 hI fun x' y' z' => ih (x', y', z')) n (x, y, μ) h hm
/-- the route at a alone has changed, and not its moment, tie, partner -/
def onC2 (μ μ1 : mM) (a : Nat) : Prop := ∀ b i, ¬ (b = a ∧ i ≤ 8) → ¬ b = a + 1 → ¬ b = a + 2 → μ1 b i = μ b i
/-- the row r alone has changed -/
def onR (μ μ1 : mM) (r : Int) : Prop := ∀ (b i : Nat), ¬ (b = 126 ∧ 40 * r ≤ (i : Int) ∧ (i : Int) < 40 * r + 40) → μ1 b i = μ b i
theorem onC2.refl {μ : mM} {a : Nat} : onC2 μ μ a := fun _ _ _ _ _ => rfl
theorem onC2.trans {μ μ1 μ2 : mM} {a : Nat} (h : onC2 μ μ1 a) (k : onC2 μ1 μ2 a) : onC2 μ μ2 a := fun b i h0 h1 h2 => (k b i h0 h1 h2).trans (h b i h0 h1 h2)
theorem onR.refl {μ : mM} {r : Int} : onR μ μ r := fun _ _ _ => rfl
theorem onR.trans {μ μ1 μ2 : mM} {r : Int} (h : onR μ μ1 r) (k : onR μ1 μ2 r) : onR μ μ2 r := fun b i h0 => (k b i h0).trans (h b i h0)
theorem rtC.nil {μ : mM} {a : Nat} (h : μ a 2 = 0) : rtC μ a = none := if_pos h
theorem rtC.the {μ : mM} {a : Nat} (h : ¬ μ a 2 = 0) : rtC μ a = some (μ a 3, μ a 4, μ a 5, μ a 6, rowL (μ (a + 1)) (μ a 7).toNat, rowL (μ (a + 2)) (μ a 8).toNat) := if_neg h
theorem rtC.get {μ : mM} {a : Nat} {r : Rt} (h : rtC μ a = some r) : ¬ μ a 2 = 0 ∧ r = (μ a 3, μ a 4, μ a 5, μ a 6, rowL (μ (a + 1)) (μ a 7).toNat, rowL (μ (a + 2)) (μ a 8).toNat) := by
  by_cases c : μ a 2 = 0
  · rw [rtC.nil c] at h; cases h
  · rw [rtC.the c] at h
    exact ⟨c, (Option.some.inj h).symm⟩
theorem rtC.no {μ : mM} {a : Nat} (h : rtC μ a = none) : μ a 2 = 0 := by
  by_cases c : μ a 2 = 0
  · exact c
  · rw [rtC.the c] at h; cases h
/-- two routes' cells lie apart -/
def apr (a b : Nat) : Prop := a ≠ b ∧ a ≠ b + 1 ∧ a ≠ b + 2 ∧ a + 1 ≠ b ∧ a + 2 ≠ b ∧ a + 1 ≠ b + 2 ∧ a + 2 ≠ b + 1
theorem onC2.rt {μ μ1 : mM} {a b : Nat} (h : onC2 μ μ1 a) (k : apr a b) : rtC μ1 b = rtC μ b := by
  obtain ⟨k0, k1, k2, k3, k4, k5, k6⟩ := k
  exact rtC.of (fun i => h b i (by omega) (by omega) (by omega)) (fun i => h (b + 1) i (by omega) (by omega) (by omega)) (fun i => h (b + 2) i (by omega) (by omega) (by omega))
theorem X7_begin_s {w : mW} {μ : mM} {a : Nat} {p o : Int} {Q : mM → Prop} (k : ∀ μ1 : mM, rtC μ1 a = some (p, 100, o, 0, [], []) → onC2 μ μ1 a → Q μ1) : WP_X7_begin_W w μ a p o Q := by
  intro m1 u1 _ m2 u2 _ m3 u3 _ m4 u4 _ m5 u5 _ m6 u6 _ m7 u7 _
  obtain rfl := u1.is
  obtain rfl := u2.is
  obtain rfl := u3.is
  obtain rfl := u4.is
  obtain rfl := u5.is
  obtain rfl := u6.is
  obtain rfl := u7.is
  refine k _ ?_ fun b i h0 h1 h2 => ?_
  · simp [rtC, mUp, rowL]
  · rw [mUp.no (by omega), mUp.no (by omega), mUp.no (by omega), mUp.no (by omega), mUp.no (by omega), mUp.no (by omega), mUp.no (by omega)]
theorem X7_vanish_s {w : mW} {μ : mM} {a : Nat} {Q : mM → Prop} (k : ∀ μ1 : mM, rtC μ1 a = none → μ1 a 9 = -1 → (∀ b i, ¬ (b = a ∧ (i = 2 ∨ i = 9)) → μ1 b i = μ b i) → Q μ1) : WP_X7_vanish_W w μ a Q := by
  intro m1 u1 _ m2 u2 _
  obtain rfl := u1.is
  obtain rfl := u2.is
  refine k _ ?_ ?_ fun b i h => ?_
  · simp [rtC, mUp]
  · simp [mUp]
  · rw [mUp.no (by omega), mUp.no (by omega)]
theorem X7_become_s {w : mW} {μ : mM} {a b : Nat} {Q : mM → Prop} (hab : apr a b) (k : ∀ μ1 : mM, rtC μ1 a = rtC μ b → onC2 μ μ1 a → Q μ1) : WP_X7_become_W w μ a b Q := by
  intro z2 q2 _ m2 u2 _ z3 q3 _ m3 u3 _ z4 q4 _ m4 u4 _ z5 q5 _ m5 u5 _ z6 q6 _ m6 u6 _ z7 q7 _ m7 u7 _ z8 q8 _ m8 u8 _ n qn hn m9 c1 _ m qm hm m10 c2 _
  obtain ⟨k0, k1, k2, k3, k4, k5, k6⟩ := hab
  have h := rtC.become (by omega) (by omega) (by omega) (by omega) (by omega) (by omega) q2 u2 q3 u3 q4 u4 q5 u5 q6 u6 q7 u7 q8 u8 qn c1 qm c2
  refine k _ h.1 fun c i h0 h1 h2 => ?_
  by_cases e : c = a
  · subst e
    have hi : ¬ i ≤ 8 := fun g => h0 ⟨rfl, g⟩
    rw [c2.1 _ _ (by omega), c1.1 _ _ (by omega), u8.2 _ _ (Or.inr (by omega)), u7.2 _ _ (Or.inr (by omega)), u6.2 _ _ (Or.inr (by omega)), u5.2 _ _ (Or.inr (by omega)), u4.2 _ _ (Or.inr (by omega)), u3.2 _ _ (Or.inr (by omega)), u2.2 _ _ (Or.inr (by omega))]
  · exact h.2 c i e h1 h2
theorem X7_passes_s {w : mW} {μ : mM} {a : Nat} {x : Int} {Q : Int → mM → Prop} (k : ∀ z : Int, (z = 1 ↔ x ∈ rowL (μ (a + 1)) (μ a 7).toNat) → Q z μ) : WP_X7_passes_W w μ a x Q := by
  refine loopF.i (fun s => ∀ i : Nat, (i : Int) < s → ¬ μ (a + 1) i = x) (fun s => (21 - s).toNat) (fun i hi => by omega) (by omega) ?_
  intro rc s h ih z e hz n en hn
  subst e en
  refine ⟨fun g => k 0 ⟨fun e => absurd e (by decide), fun e => ?_⟩, fun g y ey _ => ⟨fun hy => ih _ (fun i hi => ?_) (by omega), fun hy => k 1 ⟨fun _ => rowL.mem.mpr ⟨s.toNat, by omega, ey.trans hy⟩, fun _ => rfl⟩⟩⟩
  · obtain ⟨i, hi, q⟩ := rowL.mem.mp e
    exact (h i (by omega) q).elim
  · by_cases c : (i : Int) < s
    · exact h i c
    · rw [show i = s.toNat by omega, ey]; exact hy
theorem X7_hasMark_s {w : mW} {μ : mM} {a : Nat} {x : Int} {Q : Int → mM → Prop} (k : ∀ z : Int, (z = 1 ↔ x ∈ rowL (μ (a + 2)) (μ a 8).toNat) → Q z μ) : WP_X7_hasMark_W w μ a x Q := by
  refine loopF.i (fun s => ∀ i : Nat, (i : Int) < s → ¬ μ (a + 2) i = x) (fun s => (9 - s).toNat) (fun i hi => by omega) (by omega) ?_
  intro rc s h ih z e hz n en hn
  subst e en
  refine ⟨fun g => k 0 ⟨fun e => absurd e (by decide), fun e => ?_⟩, fun g y ey _ => ⟨fun hy => ih _ (fun i hi => ?_) (by omega), fun hy => k 1 ⟨fun _ => rowL.mem.mpr ⟨s.toNat, by omega, ey.trans hy⟩, fun _ => rfl⟩⟩⟩
  · obtain ⟨i, hi, q⟩ := rowL.mem.mp e
    exact (h i (by omega) q).elim
  · by_cases c : (i : Int) < s
    · exact h i c
    · rw [show i = s.toNat by omega, ey]; exact hy
theorem X7_sharesFirst_s {w : mW} {μ : mM} {a b : Nat} {Q : Int → mM → Prop} (k : ∀ z : Int, (z = 1 ↔ (0 < μ a 7 ∧ 0 < μ b 7 ∧ μ (a + 1) 0 = μ (b + 1) 0)) → Q z μ) : WP_X7_sharesFirst_W w μ a b Q := by
  intro n en hn
  subst en
  refine ⟨fun g => k 0 ⟨fun e => absurd e (by decide), fun e => by omega⟩, fun g m em hm => ?_⟩
  subst em
  refine ⟨fun g => k 0 ⟨fun e => absurd e (by decide), fun e => by omega⟩, fun g2 x ex _ y ey _ => ?_⟩
  subst ex ey
  exact ⟨fun c => k 0 ⟨fun e => absurd e (by decide), fun e => absurd e.2.2 c⟩, fun c => k 1 ⟨fun _ => ⟨g, g2, c⟩, fun _ => rfl⟩⟩
/-- alike but for the prefix -/
def alk (x y : Option Rt) : Prop := match x, y with
  | none, none => True
  | some r, some s => r.2 = s.2
  | _, _ => False
theorem alk.two {r s : Rt} {x y : Option Rt} (hx : x = some r) (hy : y = some s) : alk x y ↔ r.2 = s.2 := by subst hx hy; exact Iff.rfl
theorem rowL.eqI {f g : Nat → Int} {n m : Int} (hn : 0 ≤ n) (hm : 0 ≤ m) : rowL f n.toNat = rowL g m.toNat ↔ (n = m ∧ ∀ i : Nat, (i : Int) < n → f i = g i) := by
  constructor
  · intro e
    have h := rowL.leq e
    exact ⟨by omega, fun i hi => rowL.at e (by omega)⟩
  · rintro ⟨rfl, h⟩
    exact rowL.ext fun i hi => h i (by omega)
theorem X7_isAlike_s {w : mW} {μ : mM} {a b : Nat} {Q : Int → mM → Prop} (k : ∀ z : Int, (z = 1 ↔ alk (rtC μ a) (rtC μ b)) → Q z μ) : WP_X7_isAlike_W w μ a b Q := by
  intro x ex hx
  refine ⟨fun g y ey hy => ⟨fun c => k 0 ⟨fun e => absurd e (by decide), fun e => ?_⟩, fun c => k 1 ⟨fun _ => ?_, fun _ => rfl⟩⟩, fun g y ey hy => ⟨fun c => ?_, fun c => k 0 ⟨fun e => absurd e (by decide), fun e => ?_⟩⟩⟩
  · rw [rtC.nil (ex.trans g), rtC.the (by omega)] at e
    exact False.elim e
  · rw [rtC.nil (ex.trans g), rtC.nil (by omega)]
    trivial
  · have no : ∀ {P : Prop}, ¬ P → (alk (rtC μ a) (rtC μ b) ↔ P) → ∀ {z : Int}, z = 0 → (z = 1 ↔ alk (rtC μ a) (rtC μ b)) := fun hp h z hz => ⟨fun e => by omega, fun e => absurd (h.mp e) hp⟩
    have al : alk (rtC μ a) (rtC μ b) ↔ (μ a 4 = μ b 4 ∧ μ a 5 = μ b 5 ∧ μ a 6 = μ b 6 ∧ rowL (μ (a + 1)) (μ a 7).toNat = rowL (μ (b + 1)) (μ b 7).toNat ∧ rowL (μ (a + 2)) (μ a 8).toNat = rowL (μ (b + 2)) (μ b 8).toNat) := by
      rw [alk.two (rtC.the (by omega)) (rtC.the (by omega))]
      simp only [Prod.mk.injEq]
    intro x4 e4 _ y4 f4 _
    refine ⟨fun c => k 0 (no (fun h => c (by omega)) al rfl), fun c4 => ?_⟩
    intro x5 e5 _ y5 f5 _
    refine ⟨fun c => k 0 (no (fun h => c (by omega)) al rfl), fun c5 => ?_⟩
    intro x6 e6 _ y6 f6 _
    refine ⟨fun c6 => ?_, fun c => k 0 (no (fun h => c (by omega)) al rfl)⟩
    intro x7 e7 h7 y7 f7 g7
    refine ⟨fun c => k 0 (no (fun h => c ?_) al rfl), fun c7 => ?_⟩
    · have h1 := rowL.leq h.2.2.2.1
      omega
    intro x8 e8 h8 y8 f8 g8
    refine ⟨fun c8 => ?_, fun c => k 0 (no (fun h => c ?_) al rfl)⟩
    · subst e7 e8
      rw [rowL.eqI h7.1 (by omega), rowL.eqI h8.1 (by omega)] at al
      refine loopF.i (fun s => ∀ i : Nat, (i : Int) < s → μ (a + 1) i = μ (b + 1) i) (fun s => (21 - s).toNat) (fun i hi => by omega) (by omega) ?_
      intro rc s h ih z e hz
      subst e
      refine ⟨fun g => ?_, fun g u eu _ v ev _ => ⟨fun c => ih _ (fun i hi => ?_) (by omega), fun c => k 0 (no (fun q => c ?_) al rfl)⟩⟩
      · refine loopF.i (fun s => ∀ i : Nat, (i : Int) < s → μ (a + 2) i = μ (b + 2) i) (fun s => (9 - s).toNat) (fun i hi => by omega) (by omega) ?_
        intro rc2 s2 h2 ih2 z2 e2 hz2
        subst e2
        refine ⟨fun g2 => k 1 ⟨fun _ => al.mpr ⟨by omega, by omega, by omega, ⟨by omega, fun i hi => h i (by omega)⟩, ⟨by omega, fun i hi => h2 i (by omega)⟩⟩, fun _ => rfl⟩, fun g2 u eu _ v ev _ => ⟨fun c => ih2 _ (fun i hi => ?_) (by omega), fun c => k 0 (no (fun q => c ?_) al rfl)⟩⟩
        · by_cases cc : (i : Int) < s2
          · exact h2 i cc
          · rw [show i = s2.toNat by omega, eu, ev]; exact c
        · rw [← eu, ← ev]
          exact q.2.2.2.2.2 s2.toNat (by omega)
      · by_cases cc : (i : Int) < s
        · exact h i cc
        · rw [show i = s.toNat by omega, eu, ev]; exact c
      · rw [← eu, ← ev]
        exact q.2.2.2.1.2 s.toNat (by omega)
    · have h1 := rowL.leq h.2.2.2.2
      omega
  · rw [rtC.the (by omega), rtC.nil (by omega)] at e
    exact False.elim e
end
section
/-! Routes of the class: numbers in front, marks. -/
theorem X7_putInFront_s {w : mW} {μ : mM} {a : Nat} {x t : Int} {Q : Int → mM → Prop} (k0 : (t < 0 ∨ 20 < μ a 7 + t) → Q 0 μ)
    (k1 : ∀ μ1 : mM, 0 ≤ t → 0 ≤ μ a 7 → μ a 7 + t ≤ 20 → μ1 a 7 = μ a 7 + t → (∀ i : Nat, (i : Int) < t → μ1 (a + 1) i = x) → (∀ i : Nat, (i : Int) < μ a 7 → μ1 (a + 1) (t.toNat + i) = μ (a + 1) i) → (∀ b i, ¬ (b = a ∧ i = 7) → ¬ b = a + 1 → μ1 b i = μ b i) → Q 1 μ1) : WP_X7_putInFront_W w μ a x t Q := by
  intro n en hn
  subst en
  refine ⟨fun h => k0 (Or.inl h), fun h0 => ⟨fun h1 => ?_, fun h => k0 (Or.inr h)⟩⟩
  refine loopF.im (fun z m => -1 ≤ z ∧ z < μ a 7 ∧ ∀ b i, m b i = if b = a + 1 ∧ z + t < (i : Int) ∧ (i : Int) < μ a 7 + t then μ (a + 1) (i - t.toNat) else μ b i) (fun z => (z + 1).toNat) ⟨by omega, by omega, fun b i => (if_neg (by omega)).symm⟩ (by omega) ?_
  rintro rc z m ⟨z0, z1, hm⟩ ih z' m' e hz _ _
  cases e
  refine ⟨fun hz0 => ?_, fun hz0 y ey _ m1 u1 _ => ih _ _ ⟨by omega, by omega, fun b i => ?_⟩ (by omega)⟩
  · refine loopF.im (fun z m2 => 0 ≤ z ∧ z ≤ t ∧ ∀ b i, m2 b i = if b = a + 1 ∧ (i : Int) < z then x else m b i) (fun z => (t - z).toNat) ⟨by omega, by omega, fun b i => (if_neg (by omega)).symm⟩ (by omega) ?_
    rintro rc2 s m2 ⟨s0, s1, hm2⟩ ih2 s' m2' e2 hs _ _
    cases e2
    refine ⟨fun g m3 u3 _ => ?_, fun g m3 u3 _ => ih2 _ _ ⟨by omega, by omega, fun b i => ?_⟩ (by omega)⟩
    · obtain rfl := u3.is
      refine k1 _ h0 hn.1 (by omega) ?_ (fun i hi => ?_) (fun i hi => ?_) fun b i g1 g2 => ?_
      · rw [mUp.yes (by omega)]
      · rw [mUp.no (by omega), hm2, if_pos (by omega)]
      · rw [mUp.no (by omega), hm2, if_neg (by omega), hm, if_pos (by omega)]
        congr 1
        omega
      · rw [mUp.no (by omega), hm2, if_neg (by omega), hm, if_neg (by omega)]
    · obtain rfl := u3.is
      by_cases c : b = a + 1 ∧ i = s.toNat
      · rw [mUp.yes c, if_pos (by omega)]
      · rw [mUp.no c, hm2]
        by_cases d : b = a + 1 ∧ (i : Int) < s
        · rw [if_pos d, if_pos (by omega)]
        · rw [if_neg d, if_neg (by omega)]
  · obtain rfl := u1.is
    rw [hm, if_neg (by omega)] at ey
    by_cases c : b = a + 1 ∧ i = (z + t).toNat
    · rw [mUp.yes c, if_pos (by omega), ← ey]
      congr 1
      omega
    · rw [mUp.no c, hm]
      by_cases d : b = a + 1 ∧ z + t < (i : Int) ∧ (i : Int) < μ a 7 + t
      · rw [if_pos d, if_pos (by omega)]
      · rw [if_neg d, if_neg (by omega)]
/-- the route with numbers in front -/
theorem rtC.front {μ μ1 : mM} {a : Nat} {x t : Int} {r : Rt} (h : rtC μ a = some r) (ht : 0 ≤ t) (hn : 0 ≤ μ a 7) (h7 : μ1 a 7 = μ a 7 + t) (h1 : ∀ i : Nat, (i : Int) < t → μ1 (a + 1) i = x) (h2 : ∀ i : Nat, (i : Int) < μ a 7 → μ1 (a + 1) (t.toNat + i) = μ (a + 1) i) (h3 : ∀ b i, ¬ (b = a ∧ i = 7) → ¬ b = a + 1 → μ1 b i = μ b i) : rtC μ1 a = some (rtWay r (List.replicate t.toNat x ++ wOf r)) := by
  obtain ⟨g, e⟩ := rtC.get h
  have e2 : μ1 a 2 = μ a 2 := h3 _ _ (by omega) (by omega)
  rw [rtC.the (by rw [e2]; exact g), e]
  have e3 : μ1 a 3 = μ a 3 := h3 _ _ (by omega) (by omega)
  have e4 : μ1 a 4 = μ a 4 := h3 _ _ (by omega) (by omega)
  have e5 : μ1 a 5 = μ a 5 := h3 _ _ (by omega) (by omega)
  have e6 : μ1 a 6 = μ a 6 := h3 _ _ (by omega) (by omega)
  have e8 : μ1 a 8 = μ a 8 := h3 _ _ (by omega) (by omega)
  have em : rowL (μ1 (a + 2)) (μ a 8).toNat = rowL (μ (a + 2)) (μ a 8).toNat := rowL.ext fun i _ => h3 _ _ (by omega) (by omega)
  have ew : rowL (μ1 (a + 1)) (μ a 7 + t).toNat = List.replicate t.toNat x ++ rowL (μ (a + 1)) (μ a 7).toNat := by
    rw [show (μ a 7 + t).toNat = t.toNat + (μ a 7).toNat by omega]
    exact rowL.front (fun i hi => h1 i (by omega)) (fun i hi => h2 i (by omega))
  rw [e3, e4, e5, e6, e8, h7, em, ew]
  rfl
theorem rowL.lts {f : Nat → Int} {n i j : Nat} (h : srt (rowL f n)) (hij : i < j) (hj : j < n) : f i < f j := by
  have h2 := List.pairwise_iff_getElem.mp h i j (by rw [rowL.len]; omega) (by rw [rowL.len]; omega) hij
  unfold rowL at h2
  rw [List.getElem_map, List.getElem_map, List.getElem_range, List.getElem_range] at h2
  exact h2
/-- a mark comes in at its place -/
theorem rowL.inM {f g : Nat → Int} {p n : Nat} {x : Int} (hs : srt (rowL f n)) (hp : p ≤ n) (h8 : n < 8) (h1 : ∀ i, i < p → f i < x) (h2 : p < n → x < f p) (g1 : ∀ i, i < p → g i = f i) (g2 : g p = x) (g3 : ∀ i, p ≤ i → i < n → g (i + 1) = f i) : rowL g (n + 1) = addM (rowL f n) x := by
  obtain ⟨d, rfl⟩ := Nat.exists_eq_add_of_le hp
  have e1 : rowL g (p + d + 1) = rowL f p ++ x :: rowL (fun i => f (p + i)) d := rowL.ins g1 g2 fun i hi => by
    rw [show p + 1 + i = (p + i) + 1 by omega]
    exact g3 (p + i) (by omega) (by omega)
  have e2 : rowL f (p + d) = rowL f p ++ rowL (fun i => f (p + i)) d := rowL.add
  rw [e1, e2]
  refine (addM.ins (fun y hy => ?_) (fun y hy => ?_) ?_).symm
  · obtain ⟨i, hi, e⟩ := rowL.mem.mp hy
    rw [← e]; exact h1 i hi
  · obtain ⟨i, hi, e⟩ := rowL.mem.mp hy
    rw [← e]
    by_cases c : i = 0
    · subst c
      exact h2 (by omega)
    · have a1 := h2 (by omega)
      have a2 : f p < f (p + i) := rowL.lts hs (by omega) (by omega)
      omega
  · rw [List.length_append, rowL.len, rowL.len]
    omega
theorem X7_addMark_s {w : mW} {μ : mM} {a : Nat} {x : Int} {Q : mM → Prop} (hs : srt (rowL (μ (a + 2)) (μ a 8).toNat)) (k : ∀ μ1 : mM, rowL (μ1 (a + 2)) (μ1 a 8).toNat = addM (rowL (μ (a + 2)) (μ a 8).toNat) x → (∀ b i, ¬ (b = a ∧ i = 8) → ¬ b = a + 2 → μ1 b i = μ b i) → Q μ1) : WP_X7_addMark_W w μ a x Q := by
  intro n en hn
  subst en
  have skip : (x ∈ rowL (μ (a + 2)) (μ a 8).toNat ∨ 8 ≤ μ a 8) → Q μ := fun h => k μ (addM.skip (h.imp id fun g => by rw [rowL.len]; omega)).symm fun _ _ _ _ => rfl
  have J3 : ∀ (p c : Int), (0 ≤ p ∧ p ≤ μ a 8) → (∀ i : Nat, (i : Int) < p → μ (a + 2) i < x) → (¬ c = 0 → x ∈ rowL (μ (a + 2)) (μ a 8).toNat) → (c = 0 → p < μ a 8 → x < μ (a + 2) p.toNat) → WJ_X7_addMark_W_3 w μ a x Q (μ a 8) p c := by
    intro p c hp h1 h2 h3 hc
    refine ⟨fun g => skip (Or.inl (h2 g)), fun g => ⟨fun h8 => ?_, fun h8 => skip (Or.inr h8)⟩⟩
    refine loopF.im (fun z m => p ≤ z ∧ z ≤ μ a 8 ∧ ∀ b i, m b i = if b = a + 2 ∧ z < (i : Int) ∧ (i : Int) ≤ μ a 8 then μ (a + 2) (i - 1) else μ b i) (fun z => z.toNat) ⟨by omega, by omega, fun b i => (if_neg (by omega)).symm⟩ (by omega) ?_
    rintro rc z m ⟨z0, z1, hm⟩ ih z' m' e hz _ _
    cases e
    refine ⟨fun g1 m1 u1 _ m2 u2 _ => ?_, fun g1 y ey _ m1 u1 _ => ih _ _ ⟨by omega, by omega, fun b i => ?_⟩ (by omega)⟩
    · obtain rfl := u1.is
      obtain rfl := u2.is
      refine k _ ?_ fun b i d1 d2 => ?_
      · have e8 : mUp (mUp m (a + 2) p.toNat x) a 8 (μ a 8 + 1) a 8 = μ a 8 + 1 := by
          rw [mUp.yes ⟨rfl, rfl⟩]
        rw [e8, show (μ a 8 + 1).toNat = (μ a 8).toNat + 1 by omega]
        refine rowL.inM (p := p.toNat) hs (by omega) (by omega) (fun i hi => h1 i (by omega)) (fun hi => h3 g (by omega)) (fun i hi => ?_) ?_ (fun i hi hj => ?_)
        · rw [mUp.no (by omega), mUp.no (by omega), hm, if_neg (by omega)]
        · rw [mUp.no (by omega), mUp.yes ⟨rfl, rfl⟩]
        · rw [mUp.no (by omega), mUp.no (by omega), hm, if_pos (by omega)]
          rfl
      · rw [mUp.no (by omega), mUp.no (by omega), hm, if_neg (by omega)]
    · obtain rfl := u1.is
      rw [hm, if_neg (by omega)] at ey
      by_cases c1 : b = a + 2 ∧ i = z.toNat
      · rw [mUp.yes c1, if_pos (by omega), ← ey]
        congr 1
        omega
      · rw [mUp.no c1, hm]
        by_cases d : b = a + 2 ∧ z < (i : Int) ∧ (i : Int) ≤ μ a 8
        · rw [if_pos d, if_pos (by omega)]
        · rw [if_neg d, if_neg (by omega)]
  have J2 : ∀ p : Int, (0 ≤ p ∧ p ≤ μ a 8) → (∀ i : Nat, (i : Int) < p → μ (a + 2) i < x) → (p < μ a 8 → x ≤ μ (a + 2) p.toNat) → WJ_X7_addMark_W_2 w μ a x Q (μ a 8) p := by
    intro p hp h1 h2
    refine ⟨fun g => J3 p 0 hp h1 (fun c => absurd rfl c) (fun _ c => by omega), fun g y ey _ => ⟨fun c => J3 p 0 hp h1 (fun c => absurd rfl c) (fun _ _ => ?_), fun c => J3 p 1 hp h1 (fun _ => ?_) (fun c => absurd c (by decide))⟩⟩
    · have := h2 g
      omega
    · exact rowL.mem.mpr ⟨p.toNat, by omega, ey.trans c⟩
  refine loopF.i (fun s => s ≤ μ a 8 ∧ ∀ i : Nat, (i : Int) < s → μ (a + 2) i < x) (fun s => (9 - s).toNat) ⟨by omega, fun i hi => by omega⟩ (by omega) ?_
  rintro rc s ⟨s0, h⟩ ih z e hz
  subst e
  refine ⟨fun g => J2 s ⟨by omega, s0⟩ h (fun c => by omega), fun g y ey _ => ⟨fun c => J2 s ⟨by omega, s0⟩ h (fun _ => by omega), fun c => ih _ ⟨by omega, fun i hi => ?_⟩ (by omega)⟩⟩
  by_cases d : (i : Int) < s
  · exact h i d
  · rw [show i = s.toNat by omega, ey]; exact c
theorem X7_dropMark_s {w : mW} {μ : mM} {a : Nat} {x : Int} {Q : mM → Prop} (k : ∀ μ1 : mM, rowL (μ1 (a + 2)) (μ1 a 8).toNat = dropM (rowL (μ (a + 2)) (μ a 8).toNat) x → (∀ b i, ¬ (b = a ∧ i = 8) → ¬ b = a + 2 → μ1 b i = μ b i) → Q μ1) : WP_X7_dropMark_W w μ a x Q := by
  refine loopF.iim (fun c s m => 0 ≤ c ∧ c ≤ s ∧ (s = 0 ∨ s ≤ μ a 8) ∧ rowL (m (a + 2)) c.toNat = dropM (rowL (μ (a + 2)) s.toNat) x ∧ (∀ i : Nat, c ≤ (i : Int) → m (a + 2) i = μ (a + 2) i) ∧ ∀ b i, ¬ b = a + 2 → m b i = μ b i) (fun _ s => (9 - s).toNat) ⟨by omega, by omega, Or.inl rfl, rfl, fun _ _ => rfl, fun _ _ _ => rfl⟩ (by omega) ?_
  rintro rc c s m ⟨c0, c1, cs, h1, h2, h3⟩ ih c' s' m' e hc hs _ _ n en hn
  cases e
  rw [h3 _ _ (by omega)] at en
  subst en
  refine ⟨fun g m1 u1 _ => ?_, fun g y ey _ => ⟨fun d => ih _ _ _ ⟨by omega, by omega, by omega, ?_, h2, h3⟩ (by omega), fun d m1 u1 _ => ih _ _ _ ⟨by omega, by omega, by omega, ?_, fun i hi => ?_, fun b i hb => ?_⟩ (by omega)⟩⟩
  · obtain rfl := u1.is
    refine k _ ?_ fun b i d1 d2 => ?_
    · have e8 : mUp m a 8 c a 8 = c := by
        rw [mUp.yes ⟨rfl, rfl⟩]
      rw [e8, show μ a 8 = s by omega, ← h1]
      exact rowL.ext fun i hi => by
        rw [mUp.no (by omega)]
    · rw [mUp.no (by omega)]
      exact h3 b i d2
  · rw [show (s + 1).toNat = s.toNat + 1 by omega, dropM.next, if_pos ((h2 _ (by omega)).symm.trans (ey.trans d))]
    exact h1
  · obtain rfl := u1.is
    rw [show (s + 1).toNat = s.toNat + 1 by omega, dropM.next, if_neg (fun q => d (ey.symm.trans ((h2 _ (by omega)).trans q))), show (c + 1).toNat = c.toNat + 1 by omega, rowL.succ, ← h1]
    congr 1
    · exact rowL.ext fun i hi => by
        rw [mUp.no (by omega)]
    · rw [mUp.yes ⟨rfl, rfl⟩, ← ey, h2 _ (by omega)]
  · obtain rfl := u1.is
    rw [mUp.no (by omega)]
    exact h2 i (by omega)
  · obtain rfl := u1.is
    rw [mUp.no (by omega)]
    exact h3 b i hb
end
section
/-! Routes of the reference: rows of one table. -/
theorem rtR.nil {μ : mM} {r : Int} (h : μ 126 (40 * r).toNat < 0) : rtR μ r = none := if_pos h
theorem rtR.the {μ : mM} {r : Int} (h : ¬ μ 126 (40 * r).toNat < 0) : rtR μ r = some (μ 126 (40 * r).toNat, μ 126 (40 * r + 1).toNat, μ 126 (40 * r + 2).toNat, μ 126 (40 * r + 3).toNat, rowL (fun k => μ 126 (40 * r + 6 + (k : Int)).toNat) (μ 126 (40 * r + 4).toNat).toNat, rowL (fun k => μ 126 (40 * r + 26 + (k : Int)).toNat) (μ 126 (40 * r + 5).toNat).toNat) := if_neg h
theorem rtR.get {μ : mM} {r : Int} {x : Rt} (h : rtR μ r = some x) : ¬ μ 126 (40 * r).toNat < 0 ∧ x = (μ 126 (40 * r).toNat, μ 126 (40 * r + 1).toNat, μ 126 (40 * r + 2).toNat, μ 126 (40 * r + 3).toNat, rowL (fun k => μ 126 (40 * r + 6 + (k : Int)).toNat) (μ 126 (40 * r + 4).toNat).toNat, rowL (fun k => μ 126 (40 * r + 26 + (k : Int)).toNat) (μ 126 (40 * r + 5).toNat).toNat) := by
  by_cases c : μ 126 (40 * r).toNat < 0
  · rw [rtR.nil c] at h; cases h
  · rw [rtR.the c] at h
    exact ⟨c, (Option.some.inj h).symm⟩
theorem rtR.no {μ : mM} {r : Int} (h : rtR μ r = none) : μ 126 (40 * r).toNat < 0 := by
  by_cases c : μ 126 (40 * r).toNat < 0
  · exact c
  · rw [rtR.the c] at h; cases h
/-- a row is what another one was: lengths within bounds -/
theorem rtR.cg {μ μ1 : mM} {r s : Int} (hn : μ 126 (40 * s + 4).toNat ≤ 20) (hm : μ 126 (40 * s + 5).toNat ≤ 8) (h : ∀ k : Nat, k < 40 → μ1 126 (40 * r + (k : Int)).toNat = μ 126 (40 * s + (k : Int)).toNat) : rtR μ1 r = rtR μ s := by
  have h0 : μ1 126 (40 * r).toNat = μ 126 (40 * s).toNat := by have := h 0 (by decide); simpa using this
  have h1 : μ1 126 (40 * r + 1).toNat = μ 126 (40 * s + 1).toNat := h 1 (by decide)
  have h2 : μ1 126 (40 * r + 2).toNat = μ 126 (40 * s + 2).toNat := h 2 (by decide)
  have h3 : μ1 126 (40 * r + 3).toNat = μ 126 (40 * s + 3).toNat := h 3 (by decide)
  have h4 : μ1 126 (40 * r + 4).toNat = μ 126 (40 * s + 4).toNat := h 4 (by decide)
  have h5 : μ1 126 (40 * r + 5).toNat = μ 126 (40 * s + 5).toNat := h 5 (by decide)
  have h6 : rowL (fun k => μ1 126 (40 * r + 6 + (k : Int)).toNat) (μ 126 (40 * s + 4).toNat).toNat = rowL (fun k => μ 126 (40 * s + 6 + (k : Int)).toNat) (μ 126 (40 * s + 4).toNat).toNat := rowL.ext fun i hi => by
    have := h (6 + i) (by omega)
    rw [show ((6 + i : Nat) : Int) = 6 + (i : Int) by omega, ← Int.add_assoc, ← Int.add_assoc] at this
    exact this
  have h7 : rowL (fun k => μ1 126 (40 * r + 26 + (k : Int)).toNat) (μ 126 (40 * s + 5).toNat).toNat = rowL (fun k => μ 126 (40 * s + 26 + (k : Int)).toNat) (μ 126 (40 * s + 5).toNat).toNat := rowL.ext fun i hi => by
    have := h (26 + i) (by omega)
    rw [show ((26 + i : Nat) : Int) = 26 + (i : Int) by omega, ← Int.add_assoc, ← Int.add_assoc] at this
    exact this
  unfold rtR
  rw [h0, h1, h2, h3, h4, h5, h6, h7]
theorem onR.at {μ μ1 : mM} {r s e : Int} (h : onR μ μ1 r) (hs : 0 ≤ s) (hne : ¬ s = r) (he : 40 * s ≤ e ∧ e < 40 * s + 40) : μ1 126 e.toNat = μ 126 e.toNat := h 126 e.toNat (by omega)
/-- another row is as it was -/
theorem onR.rt {μ μ1 : mM} {r s : Int} (h : onR μ μ1 r) (hs : 0 ≤ s) (hne : ¬ s = r) (hn : μ 126 (40 * s + 4).toNat ≤ 20) (hm : μ 126 (40 * s + 5).toNat ≤ 8) : rtR μ1 s = rtR μ s := rtR.cg hn hm fun k hk => h.at hs hne (by omega)
theorem X12_nothing_s {w : mW} {μ : mM} {r : Int} {Q : mM → Prop} (hr : 0 ≤ r) (k : ∀ μ1 : mM, rtR μ1 r = none → (∀ (b i : Nat), ¬ (b = 126 ∧ (i : Int) = 40 * r) → μ1 b i = μ b i) → Q μ1) : WP_X12_nothing_W w μ r Q := by
  intro m u _
  obtain rfl := u.is
  refine k _ (rtR.nil ?_) fun b i h => ?_
  · rw [mUp.yes (by omega)]
    decide
  · rw [mUp.no (by omega)]
theorem X12_isThere_s {w : mW} {μ : mM} {r : Int} {Q : Int → mM → Prop} (k : ∀ z : Int, (z = 1 ↔ ¬ rtR μ r = none) → Q z μ) : WP_X12_isThere_W w μ r Q := by
  intro x ex hx
  refine ⟨fun h => k 0 ⟨fun e => absurd e (by decide), fun e => absurd (rtR.nil (by omega)) e⟩, fun h => k 1 ⟨fun _ e => ?_, fun _ => rfl⟩⟩
  have g := rtR.no e
  omega
theorem X12_copy_s {w : mW} {μ : mM} {r s : Int} {Q : mM → Prop} (hr : 0 ≤ r) (hs : 0 ≤ s) (hne : ¬ r = s) (hn : μ 126 (40 * r + 4).toNat ≤ 20) (hm : μ 126 (40 * r + 5).toNat ≤ 8) (k : ∀ μ1 : mM, rtR μ1 s = rtR μ r → (∀ i : Nat, i < 40 → μ1 126 (40 * s + (i : Int)).toNat = μ 126 (40 * r + (i : Int)).toNat) → onR μ μ1 s → Q μ1) : WP_X12_copy_W w μ r s Q := by
  intro x ex _ m0 u0 _
  refine loopF.im (fun z m => 1 ≤ z ∧ z ≤ 40 ∧ ∀ b i, m b i = if b = 126 ∧ 40 * s ≤ (i : Int) ∧ (i : Int) < 40 * s + z then μ 126 (40 * r + ((i : Int) - 40 * s)).toNat else μ b i) (fun z => (40 - z).toNat) ⟨by omega, by omega, fun b i => ?_⟩ (by omega) ?_
  · obtain rfl := u0.is
    by_cases c : b = 126 ∧ i = (40 * s + 0).toNat
    · rw [mUp.yes c, if_pos (by omega), ← ex]
      congr 1
      omega
    · rw [mUp.no c, if_neg (by omega)]
  · rintro rc z m ⟨z0, z1, h⟩ ih z' m' e hz _ _ y _ _
    cases e
    refine ⟨fun g => ?_, fun g v ev _ m1 u1 _ => ih _ _ ⟨by omega, by omega, fun b i => ?_⟩ (by omega)⟩
    · have h40 : ∀ i : Nat, i < 40 → m 126 (40 * s + (i : Int)).toNat = μ 126 (40 * r + (i : Int)).toNat := fun i hi => by
        rw [h, if_pos (by omega)]
        congr 1
        omega
      exact k m (rtR.cg hn hm h40) h40 fun b i hb => by rw [h, if_neg (by omega)]
    · obtain rfl := u1.is
      rw [h, if_neg (by omega)] at ev
      by_cases c : b = 126 ∧ i = (40 * s + z).toNat
      · rw [mUp.yes c, if_pos (by omega), ← ev]
        congr 1
        omega
      · rw [mUp.no c, h]
        by_cases d : b = 126 ∧ 40 * s ≤ (i : Int) ∧ (i : Int) < 40 * s + z
        · rw [if_pos d, if_pos (by omega)]
        · rw [if_neg d, if_neg (by omega)]
theorem X12_isIn_s {w : mW} {μ : mM} {r x : Int} {Q : Int → mM → Prop} (hr : 0 ≤ r) (k : ∀ z : Int, (z = 1 ↔ x ∈ rowL (fun k => μ 126 (40 * r + 6 + (k : Int)).toNat) (μ 126 (40 * r + 4).toNat).toNat) → Q z μ) : WP_X12_isIn_W w μ r x Q := by
  refine loopF.ii (fun b s => (b = 0 ∨ b = 1) ∧ 0 ≤ s ∧ (s = 0 ∨ s ≤ μ 126 (40 * r + 4).toNat) ∧ (b = 1 ↔ x ∈ rowL (fun k => μ 126 (40 * r + 6 + (k : Int)).toNat) s.toNat)) (fun _ s => (21 - s).toNat) ⟨Or.inl rfl, by omega, Or.inl rfl, ⟨fun e => absurd e (by decide), fun e => by cases e⟩⟩ (by omega) ?_
  rintro rc b s ⟨hb, s0, s1, h⟩ ih b' s' e hb' hs n en hn
  cases e
  subst en
  have hn4 := hn.2.2.1 (by omega)
  refine ⟨fun g => k b ?_, fun g => ⟨fun c => ih _ _ ⟨Or.inr rfl, by omega, by omega, ⟨fun _ => ?_, fun _ => rfl⟩⟩ (by omega), fun c y ey _ => ⟨fun d => ih _ _ ⟨Or.inl rfl, by omega, by omega, ⟨fun e => absurd e (by decide), fun e => ?_⟩⟩ (by omega), fun d => ih _ _ ⟨Or.inr rfl, by omega, by omega, ⟨fun _ => ?_, fun _ => rfl⟩⟩ (by omega)⟩⟩⟩
  · rw [show μ 126 (40 * r + 4).toNat = s by omega]
    exact h
  · rw [show (s + 1).toNat = s.toNat + 1 by omega, rowL.succ]
    exact List.mem_append_left _ (h.mp (by omega))
  · rw [show (s + 1).toNat = s.toNat + 1 by omega, rowL.succ] at e
    rcases List.mem_append.mp e with q | q
    · exact absurd (h.mpr q) (by omega)
    · rw [List.mem_singleton] at q
      refine absurd ?_ d
      rw [← ey, q, Int.toNat_of_nonneg s0]
  · rw [show (s + 1).toNat = s.toNat + 1 by omega, rowL.succ]
    refine List.mem_append_right _ (List.mem_singleton.mpr ?_)
    rw [← d, ← ey, Int.toNat_of_nonneg s0]
theorem X12_marked_s {w : mW} {μ : mM} {r x : Int} {Q : Int → mM → Prop} (hr : 0 ≤ r) (k : ∀ z : Int, (z = 1 ↔ x ∈ rowL (fun k => μ 126 (40 * r + 26 + (k : Int)).toNat) (μ 126 (40 * r + 5).toNat).toNat) → Q z μ) : WP_X12_marked_W w μ r x Q := by
  refine loopF.ii (fun b s => (b = 0 ∨ b = 1) ∧ 0 ≤ s ∧ (s = 0 ∨ s ≤ μ 126 (40 * r + 5).toNat) ∧ (b = 1 ↔ x ∈ rowL (fun k => μ 126 (40 * r + 26 + (k : Int)).toNat) s.toNat)) (fun _ s => (9 - s).toNat) ⟨Or.inl rfl, by omega, Or.inl rfl, ⟨fun e => absurd e (by decide), fun e => by cases e⟩⟩ (by omega) ?_
  rintro rc b s ⟨hb, s0, s1, h⟩ ih b' s' e hb' hs n en hn
  cases e
  subst en
  have hn4 := hn.2.2.2 (by omega)
  refine ⟨fun g => k b ?_, fun g => ⟨fun c => ih _ _ ⟨Or.inr rfl, by omega, by omega, ⟨fun _ => ?_, fun _ => rfl⟩⟩ (by omega), fun c y ey _ => ⟨fun d => ih _ _ ⟨Or.inl rfl, by omega, by omega, ⟨fun e => absurd e (by decide), fun e => ?_⟩⟩ (by omega), fun d => ih _ _ ⟨Or.inr rfl, by omega, by omega, ⟨fun _ => ?_, fun _ => rfl⟩⟩ (by omega)⟩⟩⟩
  · rw [show μ 126 (40 * r + 5).toNat = s by omega]
    exact h
  · rw [show (s + 1).toNat = s.toNat + 1 by omega, rowL.succ]
    exact List.mem_append_left _ (h.mp (by omega))
  · rw [show (s + 1).toNat = s.toNat + 1 by omega, rowL.succ] at e
    rcases List.mem_append.mp e with q | q
    · exact absurd (h.mpr q) (by omega)
    · rw [List.mem_singleton] at q
      refine absurd ?_ d
      rw [← ey, q, Int.toNat_of_nonneg s0]
  · rw [show (s + 1).toNat = s.toNat + 1 by omega, rowL.succ]
    refine List.mem_append_right _ (List.mem_singleton.mpr ?_)
    rw [← d, ← ey, Int.toNat_of_nonneg s0]
theorem X12_front_s {w : mW} {μ : mM} {r x : Int} {Q : Int → mM → Prop} (hr : 0 ≤ r) (k0 : μ 126 (40 * r + 4).toNat = 20 → Q 0 μ)
    (k1 : ∀ μ1 : mM, (0 ≤ μ 126 (40 * r + 4).toNat ∧ μ 126 (40 * r + 4).toNat < 20) → (∀ b i, μ1 b i = if b = 126 ∧ (i : Int) = 40 * r + 4 then μ 126 (40 * r + 4).toNat + 1 else if b = 126 ∧ (i : Int) = 40 * r + 6 then x else if b = 126 ∧ 40 * r + 6 < (i : Int) ∧ (i : Int) ≤ 40 * r + 6 + μ 126 (40 * r + 4).toNat then μ 126 (i - 1) else μ b i) → Q 1 μ1) : WP_X12_front_W w μ r x Q := by
  intro n en hn
  subst en
  have hn4 := hn.2.2.1 (by omega)
  refine ⟨fun hne => ?_, fun e => k0 e⟩
  refine loopF.im (fun z m => 0 ≤ z ∧ z ≤ μ 126 (40 * r + 4).toNat ∧ ∀ b i, m b i = if b = 126 ∧ 40 * r + 6 + z < (i : Int) ∧ (i : Int) ≤ 40 * r + 6 + μ 126 (40 * r + 4).toNat then μ 126 (i - 1) else μ b i) (fun z => z.toNat) ⟨by omega, by omega, fun b i => (if_neg (by omega)).symm⟩ (by omega) ?_
  rintro rc z m ⟨z0, z1, h⟩ ih z' m' e hz _ _ f ef hf
  cases e
  rw [h, if_neg (by omega)] at ef
  subst ef
  refine ⟨fun g m1 u1 _ m2 u2 _ => k1 m2 (by omega) fun b i => ?_, fun g y ey _ m1 u1 _ => ih _ _ ⟨by omega, by omega, fun b i => ?_⟩ (by omega)⟩
  · obtain rfl := u1.is
    obtain rfl := u2.is
    by_cases c : b = 126 ∧ (i : Int) = 40 * r + 4
    · rw [if_pos c, mUp.yes (by omega)]
    · rw [if_neg c, mUp.no (by omega)]
      by_cases d : b = 126 ∧ (i : Int) = 40 * r + 6
      · rw [if_pos d, mUp.yes (by omega)]
      · rw [if_neg d, mUp.no (by omega), h]
        by_cases c2 : b = 126 ∧ 40 * r + 6 < (i : Int) ∧ (i : Int) ≤ 40 * r + 6 + μ 126 (40 * r + 4).toNat
        · rw [if_pos c2, if_pos (by omega)]
        · rw [if_neg c2, if_neg (by omega)]
  · obtain rfl := u1.is
    rw [h, if_neg (by omega)] at ey
    by_cases c : b = 126 ∧ i = (40 * r + 6 + z).toNat
    · rw [mUp.yes c, if_pos (by omega), ← ey]
      congr 1
      omega
    · rw [mUp.no c, h]
      by_cases d : b = 126 ∧ 40 * r + 6 + z < (i : Int) ∧ (i : Int) ≤ 40 * r + 6 + μ 126 (40 * r + 4).toNat
      · rw [if_pos d, if_pos (by omega)]
      · rw [if_neg d, if_neg (by omega)]
end
section
/-! Routes of the reference: numbers in front, sameness, marks. -/
theorem rtR.front {μ μ1 : mM} {r x : Int} {y : Rt} (hr : 0 ≤ r) (h : rtR μ r = some y) (hn : 0 ≤ μ 126 (40 * r + 4).toNat ∧ μ 126 (40 * r + 4).toNat < 20) (hm : μ 126 (40 * r + 5).toNat ≤ 8)
    (c : ∀ b i, μ1 b i = if b = 126 ∧ (i : Int) = 40 * r + 4 then μ 126 (40 * r + 4).toNat + 1 else if b = 126 ∧ (i : Int) = 40 * r + 6 then x else if b = 126 ∧ 40 * r + 6 < (i : Int) ∧ (i : Int) ≤ 40 * r + 6 + μ 126 (40 * r + 4).toNat then μ 126 (i - 1) else μ b i) : rtR μ1 r = some (rtWay y (x :: wOf y)) ∧ onR μ μ1 r := by
  obtain ⟨g, e⟩ := rtR.get h
  have k0 : μ1 126 (40 * r).toNat = μ 126 (40 * r).toNat := by rw [c, if_neg (by omega), if_neg (by omega), if_neg (by omega)]
  have k1 : μ1 126 (40 * r + 1).toNat = μ 126 (40 * r + 1).toNat := by rw [c, if_neg (by omega), if_neg (by omega), if_neg (by omega)]
  have k2 : μ1 126 (40 * r + 2).toNat = μ 126 (40 * r + 2).toNat := by rw [c, if_neg (by omega), if_neg (by omega), if_neg (by omega)]
  have k3 : μ1 126 (40 * r + 3).toNat = μ 126 (40 * r + 3).toNat := by rw [c, if_neg (by omega), if_neg (by omega), if_neg (by omega)]
  have k4 : μ1 126 (40 * r + 4).toNat = μ 126 (40 * r + 4).toNat + 1 := by rw [c, if_pos (by omega)]
  have k5 : μ1 126 (40 * r + 5).toNat = μ 126 (40 * r + 5).toNat := by rw [c, if_neg (by omega), if_neg (by omega), if_neg (by omega)]
  have kw : rowL (fun k => μ1 126 (40 * r + 6 + (k : Int)).toNat) (1 + (μ 126 (40 * r + 4).toNat).toNat) = List.replicate 1 x ++ rowL (fun k => μ 126 (40 * r + 6 + (k : Int)).toNat) (μ 126 (40 * r + 4).toNat).toNat := by
    refine rowL.front (fun i hi => ?_) (fun i hi => ?_)
    · show μ1 126 (40 * r + 6 + (i : Int)).toNat = x
      rw [c, if_neg (by omega), if_pos (by omega)]
    · show μ1 126 (40 * r + 6 + ((1 + i : Nat) : Int)).toNat = μ 126 (40 * r + 6 + (i : Int)).toNat
      rw [c, if_neg (by omega), if_neg (by omega), if_pos (by omega)]
      congr 1
      omega
  have km : rowL (fun k => μ1 126 (40 * r + 26 + (k : Int)).toNat) (μ 126 (40 * r + 5).toNat).toNat = rowL (fun k => μ 126 (40 * r + 26 + (k : Int)).toNat) (μ 126 (40 * r + 5).toNat).toNat := rowL.ext fun i hi => by
    rw [c, if_neg (by omega), if_neg (by omega), if_neg (by omega)]
  refine ⟨?_, fun b i hb => by rw [c, if_neg (by omega), if_neg (by omega), if_neg (by omega)]⟩
  rw [rtR.the (by rw [k0]; exact g), e, k0, k1, k2, k3, k4, k5, show (μ 126 (40 * r + 4).toNat + 1).toNat = 1 + (μ 126 (40 * r + 4).toNat).toNat by omega, kw, km]
  rfl
theorem rtR.eqv {μ : mM} {r s : Int} (hr : ¬ rtR μ r = none) (hs : ¬ rtR μ s = none) (n1 : 0 ≤ μ 126 (40 * r + 4).toNat ∧ μ 126 (40 * r + 4).toNat ≤ 20) (n2 : 0 ≤ μ 126 (40 * s + 4).toNat) (m1 : 0 ≤ μ 126 (40 * r + 5).toNat ∧ μ 126 (40 * r + 5).toNat ≤ 8) (m2 : 0 ≤ μ 126 (40 * s + 5).toNat) :
    rtR μ r = rtR μ s ↔ ((∀ i : Nat, i < 6 → μ 126 (40 * r + (i : Int)).toNat = μ 126 (40 * s + (i : Int)).toNat) ∧ (∀ i : Nat, i < 20 → (i : Int) < μ 126 (40 * r + 4).toNat → μ 126 (40 * r + 6 + (i : Int)).toNat = μ 126 (40 * s + 6 + (i : Int)).toNat) ∧ ∀ i : Nat, i < 8 → (i : Int) < μ 126 (40 * r + 5).toNat → μ 126 (40 * r + 26 + (i : Int)).toNat = μ 126 (40 * s + 26 + (i : Int)).toNat) := by
  have a : ¬ μ 126 (40 * r).toNat < 0 := fun h => hr (rtR.nil h)
  have b : ¬ μ 126 (40 * s).toNat < 0 := fun h => hs (rtR.nil h)
  rw [rtR.the a, rtR.the b]
  constructor
  · intro e
    have e := Option.some.inj e
    simp only [Prod.mk.injEq] at e
    obtain ⟨e0, e1, e2, e3, e4, e5⟩ := e
    have f4 := (rowL.eqI n1.1 n2).mp e4
    have f5 := (rowL.eqI m1.1 m2).mp e5
    refine ⟨fun i hi => ?_, fun i _ hi => f4.2 i hi, fun i _ hi => f5.2 i hi⟩
    have z : i = 0 ∨ i = 1 ∨ i = 2 ∨ i = 3 ∨ i = 4 ∨ i = 5 := by omega
    rcases z with q | q | q | q | q | q <;> subst q
    · simpa using e0
    · exact e1
    · exact e2
    · exact e3
    · exact f4.1
    · exact f5.1
  · rintro ⟨h1, h2, h3⟩
    have e0 : μ 126 (40 * r).toNat = μ 126 (40 * s).toNat := by have := h1 0 (by decide); simpa using this
    have e1 : μ 126 (40 * r + 1).toNat = μ 126 (40 * s + 1).toNat := h1 1 (by decide)
    have e2 : μ 126 (40 * r + 2).toNat = μ 126 (40 * s + 2).toNat := h1 2 (by decide)
    have e3 : μ 126 (40 * r + 3).toNat = μ 126 (40 * s + 3).toNat := h1 3 (by decide)
    have e4 : μ 126 (40 * r + 4).toNat = μ 126 (40 * s + 4).toNat := h1 4 (by decide)
    have e5 : μ 126 (40 * r + 5).toNat = μ 126 (40 * s + 5).toNat := h1 5 (by decide)
    rw [(rowL.eqI n1.1 n2).mpr ⟨e4, fun i hi => h2 i (by omega) hi⟩, (rowL.eqI m1.1 m2).mpr ⟨e5, fun i hi => h3 i (by omega) hi⟩, e0, e1, e2, e3]
theorem X12_same_s {w : mW} {μ : mM} {r s : Int} {Q : Int → mM → Prop} (n1 : 0 ≤ μ 126 (40 * r + 4).toNat ∧ μ 126 (40 * r + 4).toNat ≤ 20) (n2 : 0 ≤ μ 126 (40 * s + 4).toNat) (m1 : 0 ≤ μ 126 (40 * r + 5).toNat ∧ μ 126 (40 * r + 5).toNat ≤ 8) (m2 : 0 ≤ μ 126 (40 * s + 5).toNat) (k : ∀ z : Int, (z = 1 ↔ rtR μ r = rtR μ s) → Q z μ) : WP_X12_same_W w μ r s Q := by
  have noR : ∀ {z x : Int}, (0 ≤ z ∧ z ≤ 1) → (z = 1 ↔ ¬ rtR μ x = none) → z = 0 → rtR μ x = none := fun rz hz c => Classical.byContradiction fun g => by
    have := hz.mpr g
    omega
  intro x ex _
  refine X12_isThere_s fun z hz rz => ⟨fun c => ?_, fun c y ey _ => ?_⟩
  · have hr := noR rz hz c
    refine X12_isThere_s fun z2 hz2 rz2 y ey _ => ?_
    refine X12_isThere_s fun z3 hz3 rz3 => ⟨fun d => k 0 ⟨fun e => absurd e (by decide), fun e => ?_⟩, fun d => k 1 ⟨fun _ => ?_, fun _ => rfl⟩⟩
    · have a : ¬ z2 = 1 := fun g => hz2.mp g hr
      exact absurd (e.symm.trans hr) (hz3.mp (by omega))
    · have a : ¬ z2 = 1 := fun g => hz2.mp g hr
      rw [hr, noR rz3 hz3 (by omega)]
  · have hr : ¬ rtR μ r = none := hz.mp (by omega)
    refine X12_isThere_s fun z3 hz3 rz3 => ⟨fun d => ?_, fun d => ?_⟩
    · have hs : ¬ rtR μ s = none := hz3.mp (by omega)
      have eq := rtR.eqv hr hs n1 n2 m1 m2
      have fin : ∀ b : Int, (b = 0 ∨ b = 1) → (b = 1 → rtR μ r = rtR μ s) → (b = 0 → ¬ rtR μ r = rtR μ s) → Q b μ := fun b hb h1 h0 => k b ⟨h1, fun e => by
        rcases hb with q | q
        · exact absurd e (h0 q)
        · exact q⟩
      have L4 : ∀ b : Int, (b = 0 ∨ b = 1) → (b = 1 ↔ ((∀ i : Nat, i < 6 → μ 126 (40 * r + (i : Int)).toNat = μ 126 (40 * s + (i : Int)).toNat) ∧ (∀ i : Nat, i < 20 → (i : Int) < μ 126 (40 * r + 4).toNat → μ 126 (40 * r + 6 + (i : Int)).toNat = μ 126 (40 * s + 6 + (i : Int)).toNat))) → WJ_X12_same_W_3 μ r s Q b := by
        intro b hb h
        refine loopF.ii (fun b t => (b = 0 ∨ b = 1) ∧ 0 ≤ t ∧ t ≤ 8 ∧ (b = 1 ↔ ((∀ i : Nat, i < 6 → μ 126 (40 * r + (i : Int)).toNat = μ 126 (40 * s + (i : Int)).toNat) ∧ (∀ i : Nat, i < 20 → (i : Int) < μ 126 (40 * r + 4).toNat → μ 126 (40 * r + 6 + (i : Int)).toNat = μ 126 (40 * s + 6 + (i : Int)).toNat) ∧ ∀ i : Nat, (i : Int) < t → (i : Int) < μ 126 (40 * r + 5).toNat → μ 126 (40 * r + 26 + (i : Int)).toNat = μ 126 (40 * s + 26 + (i : Int)).toNat))) (fun _ t => (8 - t).toNat) ⟨hb, by omega, by omega, h.trans ⟨fun g => ⟨g.1, g.2, fun i hi => by omega⟩, fun g => ⟨g.1, g.2.1⟩⟩⟩ (by omega) ?_
        rintro rc b t ⟨hb, t0, t1, h⟩ ih b' t' e _ _
        cases e
        refine ⟨fun g => fin b hb (fun q => eq.mpr ?_) (fun q e => ?_), fun g => ⟨fun q => fin b hb (fun q2 => by omega) (fun _ e => ?_), fun q n en _ => ⟨fun u => ih _ _ ⟨Or.inr rfl, by omega, by omega, ⟨fun _ => ?_, fun _ => rfl⟩⟩ (by omega), fun u y1 f1 _ y2 f2 _ => ⟨fun v => ih _ _ ⟨Or.inl rfl, by omega, by omega, ⟨fun e => absurd e (by decide), fun e => absurd ?_ v⟩⟩ (by omega), fun v => ih _ _ ⟨Or.inr rfl, by omega, by omega, ⟨fun _ => ?_, fun _ => rfl⟩⟩ (by omega)⟩⟩⟩⟩
        · obtain ⟨a1, a2, a3⟩ := h.mp q
          exact ⟨a1, a2, fun i hi => a3 i (by omega)⟩
        · obtain ⟨a1, a2, a3⟩ := eq.mp e
          have := h.mpr ⟨a1, a2, fun i hi => a3 i (by omega)⟩
          omega
        · obtain ⟨a1, a2, a3⟩ := eq.mp e
          have := h.mpr ⟨a1, a2, fun i hi => a3 i (by omega)⟩
          omega
        · obtain ⟨a1, a2, a3⟩ := h.mp (by omega)
          exact ⟨a1, a2, fun i hi hj => a3 i (by omega) hj⟩
        · rw [← f1, ← f2]
          have := e.2.2 t.toNat (by omega) (by omega)
          rw [Int.toNat_of_nonneg t0] at this
          exact this
        · obtain ⟨a1, a2, a3⟩ := h.mp (by omega)
          refine ⟨a1, a2, fun i hi hj => ?_⟩
          by_cases cc : (i : Int) < t
          · exact a3 i cc hj
          · rw [show (i : Int) = t by omega, f1, f2]; exact v
      refine loopF.ii (fun b t => (b = 0 ∨ b = 1) ∧ 0 ≤ t ∧ t ≤ 6 ∧ (b = 1 ↔ (∀ i : Nat, (i : Int) < t → μ 126 (40 * r + (i : Int)).toNat = μ 126 (40 * s + (i : Int)).toNat))) (fun _ t => (6 - t).toNat) ⟨Or.inr rfl, by omega, by omega, ⟨fun _ i hi => by omega, fun _ => rfl⟩⟩ (by omega) ?_
      rintro rc b t ⟨hb, t0, t1, h⟩ ih b' t' e _ _
      cases e
      refine ⟨fun g => ?_, fun g => ⟨fun q => ih _ _ ⟨Or.inl rfl, by omega, by omega, ⟨fun e => absurd e (by decide), fun e => ?_⟩⟩ (by omega), fun q y1 f1 _ y2 f2 _ => ⟨fun v => ih _ _ ⟨Or.inl rfl, by omega, by omega, ⟨fun e => absurd e (by decide), fun e => absurd ?_ v⟩⟩ (by omega), fun v => ih _ _ ⟨Or.inr rfl, by omega, by omega, ⟨fun _ i hi => ?_, fun _ => rfl⟩⟩ (by omega)⟩⟩⟩
      · have h6 : b = 1 ↔ (∀ i : Nat, i < 6 → μ 126 (40 * r + (i : Int)).toNat = μ 126 (40 * s + (i : Int)).toNat) := h.trans ⟨fun a i hi => a i (by omega), fun a i hi => a i (by omega)⟩
        refine loopF.ii (fun b t => (b = 0 ∨ b = 1) ∧ 0 ≤ t ∧ t ≤ 20 ∧ (b = 1 ↔ ((∀ i : Nat, i < 6 → μ 126 (40 * r + (i : Int)).toNat = μ 126 (40 * s + (i : Int)).toNat) ∧ (∀ i : Nat, (i : Int) < t → (i : Int) < μ 126 (40 * r + 4).toNat → μ 126 (40 * r + 6 + (i : Int)).toNat = μ 126 (40 * s + 6 + (i : Int)).toNat)))) (fun _ t => (20 - t).toNat) ⟨hb, by omega, by omega, h6.trans ⟨fun a => ⟨a, fun i hi => by omega⟩, fun a => a.1⟩⟩ (by omega) ?_
        rintro rc2 b2 t2 ⟨hb2, u0, u1, hh⟩ ih2 b2' t2' e2 _ _
        cases e2
        refine ⟨fun g => L4 b2 hb2 (hh.trans ⟨fun a => ⟨a.1, fun i hi => a.2 i (by omega)⟩, fun a => ⟨a.1, fun i hi => a.2 i (by omega)⟩⟩), fun g => ⟨fun q => L4 b2 hb2 ⟨fun e => by omega, fun a => hh.mpr ⟨a.1, fun i hi => a.2 i (by omega)⟩⟩, fun q n en _ => ⟨fun u => ih2 _ _ ⟨Or.inr rfl, by omega, by omega, ⟨fun _ => ?_, fun _ => rfl⟩⟩ (by omega), fun u y1 f1 _ y2 f2 _ => ⟨fun v => ih2 _ _ ⟨Or.inl rfl, by omega, by omega, ⟨fun e => absurd e (by decide), fun e => absurd ?_ v⟩⟩ (by omega), fun v => ih2 _ _ ⟨Or.inr rfl, by omega, by omega, ⟨fun _ => ?_, fun _ => rfl⟩⟩ (by omega)⟩⟩⟩⟩
        · obtain ⟨a1, a2⟩ := hh.mp (by omega)
          exact ⟨a1, fun i hi hj => a2 i (by omega) hj⟩
        · rw [← f1, ← f2]
          have := e.2 t2.toNat (by omega) (by omega)
          rw [Int.toNat_of_nonneg u0] at this
          exact this
        · obtain ⟨a1, a2⟩ := hh.mp (by omega)
          refine ⟨a1, fun i hi hj => ?_⟩
          by_cases cc : (i : Int) < t2
          · exact a2 i cc hj
          · rw [show (i : Int) = t2 by omega, f1, f2]; exact v
      · have := h.mpr fun i hi => e i (by omega)
        omega
      · rw [← f1, ← f2]
        have := e t.toNat (by omega)
        rw [Int.toNat_of_nonneg t0] at this
        exact this
      · by_cases cc : (i : Int) < t
        · exact h.mp (by omega) i cc
        · rw [show (i : Int) = t by omega, f1, f2]; exact v
    · have hs := noR rz3 hz3 d
      refine X12_isThere_s fun z4 hz4 rz4 => ?_
      refine X12_isThere_s fun z5 hz5 rz5 => ⟨fun q => k 0 ⟨fun e => absurd e (by decide), fun e => absurd (e.trans hs) hr⟩, fun q => ?_⟩
      have a4 : z4 = 1 := hz4.mpr hr
      exact absurd hs (hz5.mp (by omega))
theorem X12_addMark_s {w : mW} {μ : mM} {r x : Int} {Q : mM → Prop} (hr : 0 ≤ r) (hs : srt (rowL (fun k => μ 126 (40 * r + 26 + (k : Int)).toNat) (μ 126 (40 * r + 5).toNat).toNat)) (k : ∀ μ1 : mM, rowL (fun k => μ1 126 (40 * r + 26 + (k : Int)).toNat) (μ1 126 (40 * r + 5).toNat).toNat = addM (rowL (fun k => μ 126 (40 * r + 26 + (k : Int)).toNat) (μ 126 (40 * r + 5).toNat).toNat) x → (∀ (b i : Nat), ¬ (b = 126 ∧ ((i : Int) = 40 * r + 5 ∨ (40 * r + 26 ≤ (i : Int) ∧ (i : Int) < 40 * r + 40))) → μ1 b i = μ b i) → Q μ1) : WP_X12_addMark_W w μ r x Q := by
  intro n en hn
  subst en
  have hn5 := hn.2.2.2 (by omega)
  have skip : (x ∈ rowL (fun k => μ 126 (40 * r + 26 + (k : Int)).toNat) (μ 126 (40 * r + 5).toNat).toNat ∨ 8 ≤ μ 126 (40 * r + 5).toNat) → Q μ := fun h => k μ (addM.skip (h.imp id fun g => by rw [rowL.len]; omega)).symm fun _ _ _ => rfl
  refine ⟨fun e => skip (Or.inr (by omega)), fun e => X12_marked_s hr fun z hz rz => ⟨fun c => ?_, fun c => skip (Or.inl (hz.mp (by omega)))⟩⟩
  have hx : ¬ x ∈ rowL (fun k => μ 126 (40 * r + 26 + (k : Int)).toNat) (μ 126 (40 * r + 5).toNat).toNat := fun g => by
    have := hz.mpr g
    omega
  have J : ∀ (p : Int) (m : mM), (40 * r + 26 ≤ p ∧ p ≤ 40 * r + 26 + μ 126 (40 * r + 5).toNat) → (∀ b i, m b i = if b = 126 ∧ p < (i : Int) ∧ (i : Int) ≤ 40 * r + 26 + μ 126 (40 * r + 5).toNat then μ 126 (i - 1) else μ b i) → (∀ i : Nat, p ≤ (i : Int) → (i : Int) < 40 * r + 26 + μ 126 (40 * r + 5).toNat → x < μ 126 i) → (40 * r + 26 < p → μ 126 (p - 1).toNat ≤ x) → WJ_X12_addMark_W_2 w r x Q p m (μ 126 (40 * r + 5).toNat) := by
    intro p m hp hm h1 h2 m1 u1 _ m2 u2 _
    obtain rfl := u1.is
    obtain rfl := u2.is
    refine k _ ?_ fun b i hb => ?_
    · have e5 : mUp (mUp m 126 p.toNat x) 126 (40 * r + 5).toNat (μ 126 (40 * r + 5).toNat + 1) 126 (40 * r + 5).toNat = μ 126 (40 * r + 5).toNat + 1 := by
        rw [mUp.yes ⟨rfl, rfl⟩]
      rw [e5, show (μ 126 (40 * r + 5).toNat + 1).toNat = (μ 126 (40 * r + 5).toNat).toNat + 1 by omega]
      refine rowL.inM (p := (p - (40 * r + 26)).toNat) hs (by omega) (by omega) (fun i hi => ?_) (fun hi => ?_) (fun i hi => ?_) ?_ (fun i hi hj => ?_)
      · have a1 : μ 126 (40 * r + 26 + ((p - (40 * r + 26)).toNat - 1 : Nat)).toNat ≤ x := by
          have a := h2 (by omega)
          rw [show (40 * r + 26 + (((p - (40 * r + 26)).toNat - 1 : Nat) : Int)) = p - 1 by omega]
          exact a
        have a2 : ¬ μ 126 (40 * r + 26 + ((p - (40 * r + 26)).toNat - 1 : Nat)).toNat = x := fun e => hx (rowL.mem.mpr ⟨(p - (40 * r + 26)).toNat - 1, by omega, e⟩)
        by_cases c : i = (p - (40 * r + 26)).toNat - 1
        · subst c
          show μ 126 _ < x
          omega
        · have a3 := rowL.lts hs (show i < (p - (40 * r + 26)).toNat - 1 by omega) (by omega)
          have a3' : μ 126 (40 * r + 26 + (i : Int)).toNat < μ 126 (40 * r + 26 + ((p - (40 * r + 26)).toNat - 1 : Nat)).toNat := a3
          show μ 126 (40 * r + 26 + (i : Int)).toNat < x
          omega
      · show x < μ 126 (40 * r + 26 + (((p - (40 * r + 26)).toNat : Nat) : Int)).toNat
        exact h1 _ (by omega) (by omega)
      · show mUp (mUp m 126 p.toNat x) 126 (40 * r + 5).toNat _ 126 (40 * r + 26 + (i : Int)).toNat = μ 126 (40 * r + 26 + (i : Int)).toNat
        rw [mUp.no (by omega), mUp.no (by omega), hm, if_neg (by omega)]
      · show mUp (mUp m 126 p.toNat x) 126 (40 * r + 5).toNat _ 126 (40 * r + 26 + (((p - (40 * r + 26)).toNat : Nat) : Int)).toNat = x
        rw [mUp.no (by omega), mUp.yes (by omega)]
      · show mUp (mUp m 126 p.toNat x) 126 (40 * r + 5).toNat _ 126 (40 * r + 26 + ((i + 1 : Nat) : Int)).toNat = μ 126 (40 * r + 26 + (i : Int)).toNat
        rw [mUp.no (by omega), mUp.no (by omega), hm, if_pos (by omega)]
        congr 1
        omega
    · rw [mUp.no (by omega), mUp.no (by omega), hm, if_neg (by omega)]
  refine loopF.im (fun p m => (40 * r + 26 ≤ p ∧ p ≤ 40 * r + 26 + μ 126 (40 * r + 5).toNat) ∧ (∀ b i, m b i = if b = 126 ∧ p < (i : Int) ∧ (i : Int) ≤ 40 * r + 26 + μ 126 (40 * r + 5).toNat then μ 126 (i - 1) else μ b i) ∧ ∀ i : Nat, p ≤ (i : Int) → (i : Int) < 40 * r + 26 + μ 126 (40 * r + 5).toNat → x < μ 126 i) (fun p => (p - (40 * r + 26)).toNat) ⟨by omega, fun b i => (if_neg (by omega)).symm, fun i h1 h2 => by omega⟩ (by omega) ?_
  rintro rc p m ⟨hp, hm, h1⟩ ih p' m' e' hpp _ _ f ef hf
  cases e'
  rw [hm, if_neg (by omega)] at ef
  subst ef
  refine ⟨fun g => J p m hp hm h1 (fun g2 => by omega), fun g y ey _ => ⟨fun d => J p m hp hm h1 fun _ => ?_, fun d m1 u1 _ => ih _ _ ⟨by omega, fun b i => ?_, fun i i1 i2 => ?_⟩ (by omega)⟩⟩
  · rw [hm, if_neg (by omega)] at ey
    omega
  · obtain rfl := u1.is
    rw [hm, if_neg (by omega)] at ey
    by_cases c1 : b = 126 ∧ i = p.toNat
    · rw [mUp.yes c1, if_pos (by omega), ← ey]
      congr 1
      omega
    · rw [mUp.no c1, hm]
      by_cases d1 : b = 126 ∧ p < (i : Int) ∧ (i : Int) ≤ 40 * r + 26 + μ 126 (40 * r + 5).toNat
      · rw [if_pos d1, if_pos (by omega)]
      · rw [if_neg d1, if_neg (by omega)]
  · by_cases c1 : p ≤ (i : Int)
    · exact h1 i c1 i2
    · rw [hm, if_neg (by omega)] at ey
      rw [show i = (p - 1).toNat by omega, ey]
      exact d
theorem X12_dropMark_s {w : mW} {μ : mM} {r x : Int} {Q : mM → Prop} (hr : 0 ≤ r) (k : ∀ μ1 : mM, rowL (fun k => μ1 126 (40 * r + 26 + (k : Int)).toNat) (μ1 126 (40 * r + 5).toNat).toNat = dropM (rowL (fun k => μ 126 (40 * r + 26 + (k : Int)).toNat) (μ 126 (40 * r + 5).toNat).toNat) x → (∀ (b i : Nat), ¬ (b = 126 ∧ ((i : Int) = 40 * r + 5 ∨ (40 * r + 26 ≤ (i : Int) ∧ (i : Int) < 40 * r + 40))) → μ1 b i = μ b i) → Q μ1) : WP_X12_dropMark_W w μ r x Q := by
  refine X12_marked_s hr fun z hz rz => ⟨fun c => ?_, fun c => k μ (dropM.no fun g => ?_).symm fun _ _ _ => rfl⟩
  · refine loopF.iim (fun c s m => 0 ≤ c ∧ c ≤ s ∧ (s = 0 ∨ s ≤ μ 126 (40 * r + 5).toNat) ∧ s ≤ 8 ∧ rowL (fun k => m 126 (40 * r + 26 + (k : Int)).toNat) c.toNat = dropM (rowL (fun k => μ 126 (40 * r + 26 + (k : Int)).toNat) s.toNat) x ∧ (∀ i : Nat, 40 * r + 26 + c ≤ (i : Int) → m 126 i = μ 126 i) ∧ ∀ (b i : Nat), ¬ (b = 126 ∧ (40 * r + 26 ≤ (i : Int) ∧ (i : Int) < 40 * r + 40)) → m b i = μ b i) (fun _ s => (9 - s).toNat) ⟨by omega, by omega, Or.inl rfl, by omega, rfl, fun _ _ => rfl, fun _ _ _ => rfl⟩ (by omega) ?_
    rintro rc c s m ⟨c0, c1, cs, c8, h1, h2, h3⟩ ih c' s' m' e hc hs _ _ n en hn
    cases e
    have hn5 := hn.2.2.2 (by omega)
    rw [h3 _ _ (by omega)] at en
    subst en
    refine ⟨fun g m1 u1 _ => ?_, fun g y ey _ => ⟨fun d => ih _ _ _ ⟨by omega, by omega, by omega, by omega, ?_, h2, h3⟩ (by omega), fun d m1 u1 _ => ih _ _ _ ⟨by omega, by omega, by omega, by omega, ?_, fun i hi => ?_, fun b i hb => ?_⟩ (by omega)⟩⟩
    · obtain rfl := u1.is
      refine k _ ?_ fun b i hb => ?_
      · have e5 : mUp m 126 (40 * r + 5).toNat c 126 (40 * r + 5).toNat = c := by
          rw [mUp.yes ⟨rfl, rfl⟩]
        rw [e5, show μ 126 (40 * r + 5).toNat = s by omega, ← h1]
        exact rowL.ext fun i hi => by
          rw [mUp.no (by omega)]
      · rw [mUp.no (by omega)]
        exact h3 b i (by omega)
    · rw [show (s + 1).toNat = s.toNat + 1 by omega, dropM.next, if_pos ?_]
      · exact h1
      · rw [h2 _ (by omega)] at ey
        rw [Int.toNat_of_nonneg (by omega)]
        exact ey.trans d
    · obtain rfl := u1.is
      rw [h2 _ (by omega)] at ey
      rw [show (s + 1).toNat = s.toNat + 1 by omega, dropM.next, if_neg (fun q => d ?_), show (c + 1).toNat = c.toNat + 1 by omega, rowL.succ, ← h1]
      · congr 1
        · exact rowL.ext fun i hi => by
            rw [mUp.no (by omega)]
        · rw [mUp.yes ⟨rfl, by omega⟩, Int.toNat_of_nonneg (by omega), ey]
      · rw [Int.toNat_of_nonneg (by omega)] at q
        exact ey.symm.trans q
    · obtain rfl := u1.is
      rw [mUp.no (by omega)]
      exact h2 i (by omega)
    · obtain rfl := u1.is
      rw [mUp.no (by omega)]
      exact h3 b i hb
  · have := hz.mpr g
    omega
end
section
/-! What memory says of the engine: the class (cw), the reference (rw). -/
abbrev tbA (μ : mM) (t : Nat) : Nat := (μ 11 t).toNat
abbrev dbA (μ : mM) (d : Nat) : Nat := (μ 10 d).toNat
/-- where the class's objects lie: ties and domains are blocks of cells that lie apart -/
def LYC (μ : mM) (nT nD : Nat) : Prop :=
  (∀ t, t < nT → μ 11 t = (tbA μ t : Int) ∧ 192 ≤ tbA μ t ∧ ∀ k, k < 20 → μ (tbA μ t + 2) k = ((tbA μ t + 4 + 6 * k : Nat) : Int) ∧ μ (tbA μ t + 3) k = ((tbA μ t + 7 + 6 * k : Nat) : Int)) ∧
  (∀ d, d < nD → μ 10 d = (dbA μ d : Int) ∧ 192 ≤ dbA μ d ∧ ∀ p, p < 10 → μ (dbA μ d + 4) p = ((dbA μ d + 5 + 3 * p : Nat) : Int)) ∧
  (∀ t s, t < nT → s < nT → t ≠ s → tbA μ t + 124 ≤ tbA μ s ∨ tbA μ s + 124 ≤ tbA μ t) ∧
  (∀ d e, d < nD → e < nD → d ≠ e → dbA μ d + 35 ≤ dbA μ e ∨ dbA μ e + 35 ≤ dbA μ d) ∧
  (∀ t d, t < nT → d < nD → tbA μ t + 124 ≤ dbA μ d ∨ dbA μ d + 35 ≤ tbA μ t) ∧
  ∀ i, i < 10 → μ 35 i = ((36 + 3 * i : Nat) : Int)
/-- the route that a side heard, that it said, that a domain picked -/
abbrev heA (μ : mM) (t k : Nat) : Nat := tbA μ t + 4 + 6 * k
abbrev sdA (μ : mM) (t k : Nat) : Nat := tbA μ t + 7 + 6 * k
abbrev pkA (μ : mM) (d p : Nat) : Nat := dbA μ d + 5 + 3 * p
/-- the regions that the class's engine writes -/
def lEC : List Nat := [21002, 21003, 21004, 21005, 21006, 21007, 32009, 32010, 32011, 32012, 33999, 34999, 66999, 200002, 200003, 200004, 200005, 200006, 200007, 200008, 200009, 200010, 200011, 201999, 202999, 213999]
/-- what lets doesn't read: also what domains begin, steps, whether a tie is up, delays, gaps, which policy is used -/
def lLC : List Nat := lEC ++ [210004, 210005, 211999, 212999, 220006, 220007, 220008, 221999]
/-- no policy, or one of those that are there -/
def plO (n pl : Int) : Prop := pl = -99999999 ∨ (0 ≤ pl ∧ pl < n)
/-- what lets answers, in every memory that differs from μ only there -/
def letC (w : mW) (μ : mM) (E : En) : Prop := (∀ t i, t < eT E → i < 4 → plO (μ 21 8) (ePl E (4 * t + i))) ∧ ∀ (m : mM) (pl : Int) (a t s : Nat) (r : Rt) (Q : Int → mM → Prop), mT w m → mF lLC w μ m → t < eT E → s < 2 → plO (μ 21 8) pl → rtC m a = some r → srt (mOf r) → mAt w a 200 →
  (∀ z m1, (z = 1 ↔ (eTh E pl (eN E t s) (eN E t (1 - s)) r).1 = true) → rtC m1 a = some (eTh E pl (eN E t s) (eN E t (1 - s)) r).2 → (∀ b i, ¬ (b = a ∧ i ≤ 8) → ¬ b = a + 1 → ¬ b = a + 2 → ¬ (b = 21 ∧ 2 ≤ i ∧ i ≤ 7) → m1 b i = m b i) → Q z m1) → WP_X1_lets_W w m pl a (tbA μ t) (s : Int) Q
/-- what doesn't change -/
def envC (w : mW) (μ : mM) (E : En) : Prop :=
  μ 6 16 = (eT E : Int) ∧ μ 6 14 = (eP E : Int) ∧ μ 6 15 = (eD E : Int) ∧ LYC μ (eT E) (eD E) ∧
  (∀ t, t < eT E → μ (tbA μ t) 0 = eA E t ∧ μ (tbA μ t) 1 = eB E t ∧ μ (tbA μ t) 6 = eU E t ∧ μ (tbA μ t) 7 = eL E t ∧ μ (tbA μ t) 8 = eG E t ∧ ∀ i, i < 4 → μ (tbA μ t + 1) i = ePl E (4 * t + i)) ∧
  (∀ d, d < eD E → (∀ p, p < 10 → μ (dbA μ d + 2) p = eOw E (10 * d + p)) ∧ rowL (μ (dbA μ d + 1)) (μ (dbA μ d) 4).toNat = eSt E d ∧ μ (dbA μ d) 5 = eGr E d) ∧
  letC w μ E
/-- events: as they stand in the row -/
def evC (μ : mM) : List Ev := (List.range (μ 32 10).toNat).map fun i => (μ 34 (μ 33 i).toNat, (μ 33 i).toNat)
/-- what changes -/
def snC (μ : mM) (E : En) (S : Sn) : Prop :=
  (∀ t k, t < eT E → k < 20 → rtC μ (heA μ t k) = sHd S (20 * t + k) ∧ (¬ sHd S (20 * t + k) = none → μ (heA μ t k) 9 = sHw S (20 * t + k)) ∧ rtC μ (sdA μ t k) = (sSd S (20 * t + k)).1 ∧ μ (sdA μ t k) 9 = (sSd S (20 * t + k)).2) ∧
  (∀ d p, d < eD E → p < 10 → μ (dbA μ d + 3) p = (sPk S (10 * d + p)).1 ∧ rtC μ (pkA μ d p) = (sPk S (10 * d + p)).2) ∧
  evC μ = sQu S ∧ (∀ i, i < 800 → (¬ μ 34 i = -1 ↔ ∃ m, (m, i) ∈ sQu S)) ∧ μ 32 11 = sCk S ∧ (μ 32 12 - sDn S) % 4294967296 = 0 ∧ rtC μ 70 = none
def rgV (r : Rt) : Prop := (0 ≤ r.2.1 ∧ r.2.1 ≤ 1000) ∧ (0 ≤ r.2.2.1 ∧ r.2.2.1 ≤ 2) ∧ (0 ≤ r.2.2.2.1 ∧ r.2.2.2.1 ≤ 1000000)
/-- routes are in order: their prefix, marks rise, not too long -/
def rtO (p : Nat) (o : Option Rt) : Prop := ∀ r, o = some r → r.1 = (p : Int) ∧ srt (mOf r) ∧ (wOf r).length ≤ 20 ∧ (mOf r).length ≤ 8 ∧ rgV r
/-- nothing is known of a prefix that isn't there -/
def pxG (E : En) (S : Sn) : Prop := ∀ k, eP E ≤ k % 10 → (sPk S k).2 = none ∧ (sSd S k).1 = none ∧ sHd S k = none
def snG (E : En) (S : Sn) : Prop := (∀ k, rtO (k % 10) (sPk S k).2) ∧ (∀ k, rtO (k % 10) (sSd S k).1) ∧ (∀ k, rtO (k % 10) (sHd S k)) ∧ (sQu S).Pairwise (fun x y => x.1 ≤ y.1) ∧ ((sQu S).map (·.2)).Nodup ∧ (∀ e ∈ sQu S, e.2 < 40 * eT E ∧ 0 ≤ e.1 ∧ ¬ eU E (e.2 / 40) = 0) ∧
  (∀ k, (sPk S k).1 = -99999999 ↔ (sPk S k).2 = none) ∧ 0 ≤ sCk S ∧ (∀ k, -1 ≤ (sSd S k).2 ∧ ((sSd S k).2 = -1 → (sSd S k).1 = none)) ∧ pxG E S
/-- delays and gaps -/
def paG (E : En) : Prop := ∀ t, t < eT E → 0 ≤ eG E t ∧ 0 ≤ eL E t
/-- going through keeps a route in order -/
def thG (E : En) : Prop := (∀ pl d q r (p : Nat), rtO p (some r) → rtO p (some (eTh E pl d q r).2)) ∧ ∀ d p, d < eD E → eP E ≤ p → p < 10 → eOw E (10 * d + p) < 0
end
section
/-! The class's events: a row of slots, by moments. -/
def lst {α : Type} (g : Nat → α) (n : Nat) : List α := (List.range n).map g
theorem lst.len {α : Type} {g : Nat → α} {n : Nat} : (lst g n).length = n := by
  unfold lst
  rw [List.length_map, List.length_range]
theorem lst.ext {α : Type} {f g : Nat → α} {n : Nat} (h : ∀ i, i < n → g i = f i) : lst g n = lst f n := List.map_congr_left fun i hi => h i (List.mem_range.mp hi)
theorem lst.add {α : Type} {g : Nat → α} {a b : Nat} : lst g (a + b) = lst g a ++ lst (fun i => g (a + i)) b := by
  unfold lst
  rw [List.range_add, List.map_append, List.map_map]
  rfl
theorem lst.succ {α : Type} {g : Nat → α} {n : Nat} : lst g (n + 1) = lst g n ++ [g n] := by
  unfold lst
  rw [List.range_succ, List.map_append]
  rfl
theorem lst.mem {α : Type} {g : Nat → α} {n : Nat} {x : α} : x ∈ lst g n ↔ ∃ i, i < n ∧ g i = x := by
  unfold lst
  rw [List.mem_map]
  constructor
  · rintro ⟨i, h1, h2⟩
    exact ⟨i, List.mem_range.mp h1, h2⟩
  · rintro ⟨i, h1, h2⟩
    exact ⟨i, List.mem_range.mpr h1, h2⟩
theorem lst.head {α : Type} {g : Nat → α} {n : Nat} : lst g (n + 1) = g 0 :: lst (fun i => g (i + 1)) n := by
  rw [Nat.add_comm, lst.add]
  have e : lst g 1 = [g 0] := rfl
  rw [e]
  show g 0 :: lst (fun i => g (1 + i)) n = _
  rw [lst.ext (f := fun i => g (i + 1)) fun i _ => by rw [Nat.add_comm]]
theorem remQ.no {s : Nat} {q : List Ev} (h : ∀ e ∈ q, ¬ e.2 = s) : remQ s q = q := List.filter_eq_self.mpr fun e he => decide_eq_true (h e he)
theorem remQ.at {g : Nat → Ev} {n z s : Nat} (hz : z < n) (hs : (g z).2 = s) (h : ∀ i, i < n → i ≠ z → ¬ (g i).2 = s) : remQ s (lst g n) = lst g z ++ lst (fun i => g (z + 1 + i)) (n - 1 - z) := by
  have e : lst g n = lst g z ++ (g z :: lst (fun i => g (z + 1 + i)) (n - 1 - z)) := by
    have e1 : n = z + ((n - 1 - z) + 1) := by omega
    rw [e1, lst.add, lst.head]
    have e2 : z + (n - 1 - z + 1) - 1 - z = n - 1 - z := by omega
    rw [e2]
    congr 2
    exact lst.ext fun i _ => by rw [show z + 1 + i = z + (i + 1) by omega]
  rw [e]
  unfold remQ
  rw [List.filter_append, List.filter_cons_of_neg (by simp [hs])]
  congr 1
  · refine List.filter_eq_self.mpr fun x hx => decide_eq_true ?_
    obtain ⟨i, hi, q⟩ := lst.mem.mp hx
    rw [← q]; exact h i (by omega) (by omega)
  · refine List.filter_eq_self.mpr fun x hx => decide_eq_true ?_
    obtain ⟨i, hi, q⟩ := lst.mem.mp hx
    rw [← q]; exact h _ (by omega) (by omega)
theorem insQ.at {e : Ev} : ∀ {a b : List Ev}, (∀ x ∈ a, x.1 ≤ e.1) → (∀ x ∈ b, e.1 < x.1) → insQ e (a ++ b) = a ++ e :: b
  | [], [], _, _ => rfl
  | [], x :: b, _, h => if_pos (h x List.mem_cons_self)
  | x :: a, b, h, k => by
    show (if e.1 < x.1 then e :: x :: (a ++ b) else x :: insQ e (a ++ b)) = x :: (a ++ e :: b)
    have hx := h x List.mem_cons_self
    rw [if_neg (by omega), insQ.at (fun y hy => h y (List.mem_cons_of_mem _ hy)) k]
theorem evC.eq {μ : mM} : evC μ = lst (fun i => (μ 34 (μ 33 i).toNat, (μ 33 i).toNat)) (μ 32 10).toNat := rfl
/-- what cancel and schedule leave alone -/
def frQ (μ μ1 : mM) (s : Nat) : Prop := ∀ b i, ¬ b = 33 → ¬ (b = 34 ∧ i = s) → ¬ (b = 32 ∧ i = 10) → μ1 b i = μ b i
theorem X8_cancel_s {w : mW} {μ : mM} {s : Int} {Q : mM → Prop} (hs : 0 ≤ s) (hn : 0 ≤ μ 32 10) (hp : ∀ i, i < (μ 32 10).toNat → 0 ≤ μ 33 i) (hd : ∀ i j, i < (μ 32 10).toNat → j < (μ 32 10).toNat → μ 33 i = μ 33 j → i = j) (hq : (∃ i, i < (μ 32 10).toNat ∧ μ 33 i = s) → ¬ μ 34 s.toNat = -1)
    (k : ∀ μ1 : mM, evC μ1 = remQ s.toNat (evC μ) → μ1 34 s.toNat = -1 → frQ μ μ1 s.toNat → Q μ1) : WP_X8_cancel_W w μ s Q := by
  intro x ex hx
  refine ⟨fun hne m6 u6 _ => ?_, fun e => ?_⟩
  · obtain rfl := u6.is
    have e10 : mUp μ 34 s.toNat (-1) 32 10 = μ 32 10 := rfl
    have e33 : ∀ i, mUp μ 34 s.toNat (-1) 33 i = μ 33 i := fun i => rfl
    have J : ∀ z n : Int, 0 ≤ z → n = μ 32 10 → (∀ i : Nat, (i : Int) < z → ¬ μ 33 i = s) → (z < n → μ 33 z.toNat = s) → WJ_X8_cancel_W_2 w Q (mUp μ 34 s.toNat (-1)) z n := by
      intro z n hz en h1 h2
      subst en
      refine ⟨fun g => ?_, fun g m u _ m' c _ => ?_⟩
      · refine k _ ?_ ?_ fun b i h1 h2 h3 => ?_
        · rw [remQ.no]
          · rw [evC.eq, evC.eq, e10]
            refine lst.ext fun i hi => ?_
            have a : ¬ μ 33 i = s := h1 i (by omega)
            have b := hp i hi
            show (mUp μ 34 s.toNat (-1) 34 (μ 33 i).toNat, (μ 33 i).toNat) = _
            rw [mUp.no (by omega)]
          · rw [evC.eq]
            intro e he q
            obtain ⟨i, hi, r⟩ := lst.mem.mp he
            rw [← r] at q
            have a : ¬ μ 33 i = s := h1 i (by omega)
            have b := hp i hi
            have q : (μ 33 i).toNat = s.toNat := q
            omega
        · rw [mUp.yes ⟨rfl, rfl⟩]
        · rw [mUp.no (by omega)]
      · obtain rfl := u.is
        have hz2 := h2 g
        have row : ∀ j : Nat, m' 33 j = if z ≤ (j : Int) ∧ (j : Int) < z + (μ 32 10 - 1 - z) then μ 33 (j + 1) else μ 33 j := fun j => by
          rw [c.2 j]
          by_cases q : z ≤ (j : Int) ∧ (j : Int) < z + (μ 32 10 - 1 - z)
          · rw [if_pos q, if_pos q]
            show μ 33 _ = μ 33 _
            congr 1
            omega
          · rw [if_neg q, if_neg q]
            rfl
        have oth : ∀ b i, ¬ b = 33 → m' b i = mUp (mUp μ 34 s.toNat (-1)) 32 10 (μ 32 10 - 1) b i := fun b i hb => c.1 b i hb
        have m10 : m' 32 10 = μ 32 10 - 1 := by rw [oth _ _ (by decide)]; rfl
        refine k _ ?_ ?_ fun b i h1 h2 h3 => ?_
        · rw [evC.eq, evC.eq, remQ.at (z := z.toNat) (by omega) (by show (μ 33 z.toNat).toNat = s.toNat; rw [hz2]) (fun i hi hne q => hne (hd _ _ hi (by omega) (by have a := hp i hi; have q : (μ 33 i).toNat = s.toNat := q; omega))), m10]
          rw [show (μ 32 10 - 1).toNat = z.toNat + ((μ 32 10).toNat - 1 - z.toNat) by omega, lst.add]
          have val : ∀ i, i < (μ 32 10).toNat → ¬ μ 33 i = s → m' 34 (μ 33 i).toNat = μ 34 (μ 33 i).toNat := fun i hi hne => by
            have a := hp i hi
            rw [oth _ _ (by decide)]
            rw [mUp.no (by omega), mUp.no (by omega)]
          congr 1
          · refine lst.ext fun i hi => ?_
            show (m' 34 (m' 33 i).toNat, (m' 33 i).toNat) = (μ 34 (μ 33 i).toNat, (μ 33 i).toNat)
            rw [row, if_neg (by omega), val i (by omega) (h1 i (by omega))]
          · refine lst.ext fun i hi => ?_
            show (m' 34 (m' 33 (z.toNat + i)).toNat, (m' 33 (z.toNat + i)).toNat) = (μ 34 (μ 33 (z.toNat + 1 + i)).toNat, (μ 33 (z.toNat + 1 + i)).toNat)
            rw [row, if_pos (by omega), show z.toNat + i + 1 = z.toNat + 1 + i by omega, val _ (by omega) (fun q => ?_)]
            have := hd (z.toNat + 1 + i) z.toNat (by omega) (by omega) (q.trans hz2.symm)
            omega
        · rw [oth _ _ (by decide)]
          rw [mUp.no (by omega), mUp.yes ⟨rfl, rfl⟩]
        · rw [oth _ _ h1]
          rw [mUp.no (by omega), mUp.no (by omega)]
    refine loopF.i (fun z => 0 ≤ z ∧ (z = 0 ∨ z ≤ μ 32 10) ∧ ∀ i : Nat, (i : Int) < z → ¬ μ 33 i = s) (fun z => (801 - z).toNat) ⟨by omega, Or.inl rfl, fun i hi => by omega⟩ (by omega) ?_
    rintro rc z ⟨z0, z1, h⟩ ih z' e hz n en hnn
    subst e
    rw [e10] at en
    subst en
    refine ⟨fun g => J z _ z0 rfl h (fun c => by omega), fun g y ey _ => ⟨fun c => J z _ z0 rfl h (fun _ => ey.trans c), fun c => ih _ ⟨by omega, by omega, fun i hi => ?_⟩ (by omega)⟩⟩
    by_cases d : (i : Int) < z
    · exact h i d
    · rw [show i = z.toNat by omega]
      exact fun q => c (ey.symm.trans q)
  · refine k μ (remQ.no ?_).symm (ex.trans e) fun _ _ _ _ _ => rfl
    rw [evC.eq]
    intro e' he q
    obtain ⟨i, hi, r⟩ := lst.mem.mp he
    rw [← r] at q
    have a := hp i hi
    have q : (μ 33 i).toNat = s.toNat := q
    exact hq ⟨i, hi, by omega⟩ (ex.trans e)
theorem X8_schedule_s {w : mW} {μ : mM} {s v : Int} {Q : mM → Prop} (hs : 0 ≤ s) (hn : 0 ≤ μ 32 10 ∧ μ 32 10 < 800) (hp : ∀ i, i < (μ 32 10).toNat → 0 ≤ μ 33 i ∧ ¬ μ 33 i = s) (ho : ∀ i j, i < j → j < (μ 32 10).toNat → μ 34 (μ 33 i).toNat ≤ μ 34 (μ 33 j).toNat)
    (k : ∀ μ1 : mM, evC μ1 = insQ (v, s.toNat) (evC μ) → μ1 34 s.toNat = v → frQ μ μ1 s.toNat → Q μ1) : WP_X8_schedule_W w μ s v Q := by
  intro n en hnn
  subst en
  refine ⟨fun hlt => ?_, fun h => by omega⟩
  have J : ∀ z : Int, (0 ≤ z ∧ z ≤ μ 32 10) → (∀ i : Nat, z ≤ (i : Int) → (i : Int) < μ 32 10 → v < μ 34 (μ 33 i).toNat) → (0 < z → μ 34 (μ 33 (z - 1).toNat).toNat ≤ v) → WJ_X8_schedule_W_2 w μ s v Q (μ 32 10) z := by
    intro z hz h1 h2 m1 c _ m2 u2 _ m3 u3 _ m4 u4 _
    obtain rfl := u2.is
    obtain rfl := u3.is
    obtain rfl := u4.is
    have row : ∀ j : Nat, m1 33 j = if z + 1 ≤ (j : Int) ∧ (j : Int) < z + 1 + (μ 32 10 - z) then μ 33 (j - 1) else μ 33 j := fun j => by
      rw [c.2 j]
      by_cases q : z + 1 ≤ (j : Int) ∧ (j : Int) < z + 1 + (μ 32 10 - z)
      · rw [if_pos q, if_pos q]
        congr 1
        omega
      · rw [if_neg q, if_neg q]
    have oth : ∀ b i, ¬ b = 33 → m1 b i = μ b i := fun b i hb => c.1 b i hb
    have e10 : mUp (mUp (mUp m1 33 z.toNat s) 34 s.toNat v) 32 10 (μ 32 10 + 1) 32 10 = μ 32 10 + 1 := by
      rw [mUp.yes ⟨rfl, rfl⟩]
    have e33 : ∀ j, mUp (mUp (mUp m1 33 z.toNat s) 34 s.toNat v) 32 10 (μ 32 10 + 1) 33 j = if j = z.toNat then s else m1 33 j := fun j => by
      rw [mUp.no (by omega), mUp.no (by omega)]
      by_cases q : j = z.toNat
      · rw [if_pos q, mUp.yes ⟨rfl, q⟩]
      · rw [if_neg q, mUp.no (by omega)]
    have e34 : ∀ j, mUp (mUp (mUp m1 33 z.toNat s) 34 s.toNat v) 32 10 (μ 32 10 + 1) 34 j = if j = s.toNat then v else μ 34 j := fun j => by
      rw [mUp.no (by omega)]
      by_cases q : j = s.toNat
      · rw [if_pos q, mUp.yes ⟨rfl, q⟩]
      · rw [if_neg q, mUp.no (by omega), mUp.no (by omega), oth _ _ (by decide)]
    refine k _ ?_ ?_ fun b i h1 h2 h3 => ?_
    · rw [evC.eq, evC.eq, e10]
      have cut : lst (fun i => (μ 34 (μ 33 i).toNat, (μ 33 i).toNat)) (μ 32 10).toNat = lst (fun i => (μ 34 (μ 33 i).toNat, (μ 33 i).toNat)) z.toNat ++ lst (fun i => (μ 34 (μ 33 (z.toNat + i)).toNat, (μ 33 (z.toNat + i)).toNat)) ((μ 32 10).toNat - z.toNat) := by
        have e : (μ 32 10).toNat = z.toNat + ((μ 32 10).toNat - z.toNat) := by omega
        rw [e, lst.add]
        congr 2
        omega
      rw [cut, insQ.at, show (μ 32 10 + 1).toNat = z.toNat + (((μ 32 10).toNat - z.toNat) + 1) by omega, lst.add, lst.head]
      · congr 1
        · refine lst.ext fun i hi => ?_
          have a := hp i (by omega)
          show (mUp (mUp (mUp m1 33 z.toNat s) 34 s.toNat v) 32 10 (μ 32 10 + 1) 34 (mUp (mUp (mUp m1 33 z.toNat s) 34 s.toNat v) 32 10 (μ 32 10 + 1) 33 i).toNat, (mUp (mUp (mUp m1 33 z.toNat s) 34 s.toNat v) 32 10 (μ 32 10 + 1) 33 i).toNat) = _
          rw [e33, if_neg (by omega), row, if_neg (by omega), e34, if_neg (by omega)]
        · congr 1
          · show (mUp (mUp (mUp m1 33 z.toNat s) 34 s.toNat v) 32 10 (μ 32 10 + 1) 34 (mUp (mUp (mUp m1 33 z.toNat s) 34 s.toNat v) 32 10 (μ 32 10 + 1) 33 (z.toNat + 0)).toNat, (mUp (mUp (mUp m1 33 z.toNat s) 34 s.toNat v) 32 10 (μ 32 10 + 1) 33 (z.toNat + 0)).toNat) = _
            rw [e33, if_pos (by omega), e34, if_pos rfl]
          · refine lst.ext fun i hi => ?_
            have a := hp (z.toNat + i) (by omega)
            show (mUp (mUp (mUp m1 33 z.toNat s) 34 s.toNat v) 32 10 (μ 32 10 + 1) 34 (mUp (mUp (mUp m1 33 z.toNat s) 34 s.toNat v) 32 10 (μ 32 10 + 1) 33 (z.toNat + (i + 1))).toNat, (mUp (mUp (mUp m1 33 z.toNat s) 34 s.toNat v) 32 10 (μ 32 10 + 1) 33 (z.toNat + (i + 1))).toNat) = _
            rw [e33, if_neg (by omega), row, if_pos (by omega), show z.toNat + (i + 1) - 1 = z.toNat + i by omega, e34, if_neg (by omega)]
      · intro x hx
        obtain ⟨i, hi, q⟩ := lst.mem.mp hx
        rw [← q]
        show μ 34 (μ 33 i).toNat ≤ v
        have a := h2 (by omega)
        by_cases c : i = (z - 1).toNat
        · rw [c]; exact a
        · have b := ho i (z - 1).toNat (by omega) (by omega)
          omega
      · intro x hx
        obtain ⟨i, hi, q⟩ := lst.mem.mp hx
        rw [← q]
        exact h1 (z.toNat + i) (by omega) (by omega)
    · rw [e34, if_pos rfl]
    · rw [mUp.no (by omega), mUp.no (by omega), mUp.no (by omega), oth _ _ h1]
  refine loopF.i (fun z => (0 ≤ z ∧ z ≤ μ 32 10) ∧ ∀ i : Nat, z ≤ (i : Int) → (i : Int) < μ 32 10 → v < μ 34 (μ 33 i).toNat) (fun z => z.toNat) ⟨by omega, fun i h1 h2 => by omega⟩ (by omega) ?_
  rintro rc z ⟨hz, h⟩ ih z' e hzz
  subst e
  refine ⟨fun g => J z hz h (fun c => by omega), fun g y ey _ x ex _ => ⟨fun c => J z hz h (fun _ => ?_), fun c => ih _ ⟨by omega, fun i i1 i2 => ?_⟩ (by omega)⟩⟩
  · rw [ey, ex]; exact c
  · by_cases d : z ≤ (i : Int)
    · exact h i d i2
    · rw [show i = (z - 1).toNat by omega, ey, ex]; exact c
end
section
/-! The class's picks. -/
def rtv (μ : mM) (a : Nat) : Rt := (μ a 3, μ a 4, μ a 5, μ a 6, rowL (μ (a + 1)) (μ a 7).toNat, rowL (μ (a + 2)) (μ a 8).toNat)
def cdv (μ : mM) (a : Nat) : Cd := (μ a 10, μ a 11, μ a 9, rtv μ a)
def cdC (μ : mM) (i : Nat) : Cd := cdv μ (36 + 3 * i)
theorem cdv.of {μ μ1 : mM} {a : Nat} (h0 : ∀ i, μ1 a i = μ a i) (h1 : ∀ i, μ1 (a + 1) i = μ (a + 1) i) (h2 : ∀ i, μ1 (a + 2) i = μ (a + 2) i) : cdv μ1 a = cdv μ a := by
  unfold cdv rtv
  rw [h0, h0, h0, h0, h0, h0, h0, h0, h0, rowL.ext (fun i _ => h1 i), rowL.ext (fun i _ => h2 i)]
theorem rowL.head {f : Nat → Int} {n : Nat} : rowL f (n + 1) = f 0 :: rowL (fun i => f (i + 1)) n := lst.head
theorem shF.row {f g : Nat → Int} {n m : Int} (hn : 0 ≤ n) (hm : 0 ≤ m) : shF (rowL f n.toNat) (rowL g m.toNat) ↔ (0 < n ∧ 0 < m ∧ f 0 = g 0) := by
  by_cases a : n.toNat = 0
  · rw [a]
    constructor
    · intro h
      have h : shF [] (rowL g m.toNat) := h
      unfold shF at h
      exact h.elim
    · intro h
      omega
  · obtain ⟨k, ek⟩ := Nat.exists_eq_succ_of_ne_zero a
    by_cases b : m.toNat = 0
    · rw [b, ek, rowL.head]
      constructor
      · intro h
        have h : shF (f 0 :: rowL (fun i => f (i + 1)) k) [] := h
        unfold shF at h
        exact h.elim
      · intro h
        omega
    · obtain ⟨j, ej⟩ := Nat.exists_eq_succ_of_ne_zero b
      rw [ek, ej, rowL.head, rowL.head]
      constructor
      · intro h
        exact ⟨by omega, by omega, h⟩
      · intro h
        exact h.2.2
theorem shF.get {f g : Nat → Int} {n m : Int} (h : shF (rowL f n.toNat) (rowL g m.toNat)) : 0 < n ∧ 0 < m ∧ f 0 = g 0 := by
  by_cases a : 0 ≤ n
  · by_cases b : 0 ≤ m
    · exact (shF.row a b).mp h
    · rw [show m.toNat = (0 : Int).toNat by omega] at h
      have := (shF.row a (Int.le_refl 0)).mp h
      omega
  · rw [show n.toNat = (0 : Int).toNat by omega] at h
    by_cases b : 0 ≤ m
    · have := (shF.row (Int.le_refl 0) b).mp h
      omega
    · rw [show m.toNat = (0 : Int).toNat by omega] at h
      have := (shF.row (Int.le_refl 0) (Int.le_refl 0)).mp h
      omega
theorem stD.pos {s : Int} {x y : Cd} (h : ¬ stD s x y = 0) : 1 ≤ s ∧ s ≤ 6 := by
  apply Classical.byContradiction
  intro c
  refine h ?_
  unfold stD
  rw [if_neg (by omega), if_neg (by omega), if_neg (by omega), if_neg (by omega), if_neg (by omega), if_neg (by omega)]
theorem X0_compareAt_s {w : mW} {μ : mM} {s : Int} {a b : Nat} {Q : Int → mM → Prop} (k : ∀ z : Int, (z < 0 ↔ stD s (cdv μ a) (cdv μ b) < 0) → (z = 0 ↔ stD s (cdv μ a) (cdv μ b) = 0) → Q z μ) : WP_X0_compareAt_W w μ s a b Q := by
  have fin : ∀ {x y z : Int}, ((x < y → z = -1) ∧ (x = y → z = 0) ∧ (y < x → z = 1)) → stD s (cdv μ a) (cdv μ b) = x - y → Q z μ := fun h e => k _ (by rw [e]; omega) (by rw [e]; omega)
  refine ⟨fun c x ex _ y ey _ z hz => fin hz ?_, fun c1 => ⟨fun c x ex hx y ey hy z hz => fin hz ?_, fun c2 => ⟨fun c x ex _ y ey _ z hz => fin hz ?_, fun c3 => ⟨fun c => ?_, fun c4 => ⟨fun c x ex _ y ey _ z hz => fin hz ?_, fun c5 => ⟨fun c x ex _ y ey _ z hz => fin hz ?_, fun c6 => k 0 ?_ ?_⟩⟩⟩⟩⟩⟩
  · subst c ex ey; rfl
  · subst c
    show ((rowL (μ (a + 1)) (μ a 7).toNat).length : Int) - (rowL (μ (b + 1)) (μ b 7).toNat).length = x - y
    rw [rowL.len, rowL.len]
    omega
  · subst c ex ey; rfl
  · subst c
    refine X7_sharesFirst_s fun v hv rv => ?_
    have e4 : stD 4 (cdv μ a) (cdv μ b) = cIf (shF (wOf (rtv μ a)) (wOf (rtv μ b))) (μ a 6 - μ b 6) 0 := rfl
    have sh : 0 ≤ μ a 7 → 0 ≤ μ b 7 → (shF (wOf (rtv μ a)) (wOf (rtv μ b)) ↔ (0 < μ a 7 ∧ 0 < μ b 7 ∧ μ (a + 1) 0 = μ (b + 1) 0)) := fun h1 h2 => shF.row h1 h2
    refine ⟨fun d => ?_, fun d x ex _ y ey _ z hz => fin hz ?_⟩
    · have ns : ¬ shF (wOf (rtv μ a)) (wOf (rtv μ b)) := fun q => by
        have q' : 0 < μ a 7 ∧ 0 < μ b 7 ∧ μ (a + 1) 0 = μ (b + 1) 0 := shF.get q
        have := hv.mpr q'
        omega
      rw [cIf.neg ns] at e4
      exact k 0 (by rw [e4]) (by rw [e4])
    · have q := hv.mp (by omega)
      rw [e4, cIf.pos ((sh (by omega) (by omega)).mpr q)]
      subst ex ey
      rfl
  · subst c ex ey; rfl
  · subst c ex ey; rfl
  · have e : stD s (cdv μ a) (cdv μ b) = 0 := Classical.byContradiction fun g => by
      have := stD.pos g
      omega
    rw [e]
  · have e : stD s (cdv μ a) (cdv μ b) = 0 := Classical.byContradiction fun g => by
      have := stD.pos g
      omega
    rw [e]
theorem X0_prefers_s {w : mW} {μ : mM} {a0 a b : Nat} {Q : Int → mM → Prop} (k : ∀ z : Int, (z = 1 ↔ bts (rowL (μ (a0 + 1)) (μ a0 4).toNat) (cdv μ a) (cdv μ b) = true) → Q z μ) : WP_X0_prefers_W w μ a0 a b Q := by
  refine loopF.i (fun s => 0 ≤ s ∧ (s = 0 ∨ s ≤ μ a0 4) ∧ unl (rowL (μ (a0 + 1)) (μ a0 4).toNat) (cdv μ a) (cdv μ b) = unl (rowL (fun i => μ (a0 + 1) (s.toNat + i)) ((μ a0 4).toNat - s.toNat)) (cdv μ a) (cdv μ b)) (fun s => (7 - s).toNat) ⟨by omega, Or.inl rfl, by simp⟩ (by omega) ?_
  rintro rc s ⟨s0, s1, h⟩ ih s' e hs n en hn
  subst e en
  refine ⟨fun g x ex _ y ey _ => ?_, fun g v ev hv => ?_⟩
  · have u0 : unl (rowL (μ (a0 + 1)) (μ a0 4).toNat) (cdv μ a) (cdv μ b) = 0 := by
      rw [h, show (μ a0 4).toNat - s.toNat = 0 by omega]
      rfl
    have eb : bts (rowL (μ (a0 + 1)) (μ a0 4).toNat) (cdv μ a) (cdv μ b) = decide (x < y) := by
      unfold bts
      rw [if_pos u0]
      subst ex ey
      rfl
    refine ⟨fun c => k 0 ⟨fun e => absurd e (by decide), fun e => ?_⟩, fun c => k 1 ⟨fun _ => ?_, fun _ => rfl⟩⟩
    · rw [eb] at e
      have := of_decide_eq_true e
      omega
    · rw [eb]
      exact decide_eq_true c
  · have hd : unl (rowL (μ (a0 + 1)) (μ a0 4).toNat) (cdv μ a) (cdv μ b) = (if stD v (cdv μ a) (cdv μ b) = 0 then unl (rowL (fun i => μ (a0 + 1) ((s + 1).toNat + i)) ((μ a0 4).toNat - (s + 1).toNat)) (cdv μ a) (cdv μ b) else if stD v (cdv μ a) (cdv μ b) < 0 then v else -v) := by
      rw [h, show (μ a0 4).toNat - s.toNat = ((μ a0 4).toNat - (s + 1).toNat) + 1 by omega, rowL.head]
      have e0 : μ (a0 + 1) (s.toNat + 0) = v := ev
      rw [e0]
      have e1 : (fun i => μ (a0 + 1) (s.toNat + (i + 1))) = (fun i => μ (a0 + 1) ((s + 1).toNat + i)) := by
        funext i
        rw [show s.toNat + (i + 1) = (s + 1).toNat + i by omega]
      rw [e1]
      rfl
    refine X0_compareAt_s fun z h1 h2 rz => ⟨fun c => ih _ ⟨by omega, by omega, ?_⟩ (by omega), fun c => ?_⟩
    · rw [hd, if_pos (h2.mp c)]
    · have hne : ¬ stD v (cdv μ a) (cdv μ b) = 0 := fun e => c (h2.mpr e)
      have hv6 := stD.pos hne
      rw [if_neg hne] at hd
      have eb : bts (rowL (μ (a0 + 1)) (μ a0 4).toNat) (cdv μ a) (cdv μ b) = decide (stD v (cdv μ a) (cdv μ b) < 0) := by
        unfold bts
        rw [hd]
        by_cases q : stD v (cdv μ a) (cdv μ b) < 0
        · rw [if_pos q, if_neg (by omega), decide_eq_true (show 0 < v by omega), decide_eq_true q]
        · rw [if_neg q, if_neg (by omega), decide_eq_false (show ¬ 0 < -v by omega), decide_eq_false q]
      refine ⟨fun d => k 0 ⟨fun e => absurd e (by decide), fun e => ?_⟩, fun d => k 1 ⟨fun _ => ?_, fun _ => rfl⟩⟩
      · rw [eb] at e
        have := h1.mpr (of_decide_eq_true e)
        omega
      · rw [eb]
        exact decide_eq_true (h1.mp d)
theorem bst.one {l : List Int} {g : Nat → Cd} {n : Nat} {b : Cd} (h : bst l (lst g n) none = some b) : bst l (lst g (n + 1)) none = if bts l (g n) b = true then some (g n) else some b := by
  rw [lst.succ, bst.app, h]
  rfl
theorem X8_lastStanding_s {w : mW} {μ : mM} {a0 : Nat} {n : Int} {Q : Int → mM → Prop} (h35 : ∀ i, i < 10 → μ 35 i = ((36 + 3 * i : Nat) : Int)) (hn10 : n ≤ 10) (k0 : n ≤ 0 → Q (-1) μ) (k : ∀ z : Int, 0 < n → 0 ≤ z → (∃ i, i < n.toNat ∧ μ 66 i = z) → bst (rowL (μ (a0 + 1)) (μ a0 4).toNat) (lst (fun i => cdC μ (μ 66 i).toNat) n.toNat) none = some (cdC μ z.toNat) → Q z μ) : WP_X8_lastStanding_W w μ a0 n Q := by
  refine ⟨fun h => ?_, fun h z0 ez hz => ?_⟩
  · refine loopF.ii (fun _ _ => True) (fun _ _ => 0) trivial (by omega) ?_
    rintro rc x y _ ih x' y' e hx hy
    cases e
    have : x = -1 := by omega
    subst this
    exact k0 h
  · refine loopF.ii (fun b s => 0 ≤ b ∧ b ≤ 9 ∧ 1 ≤ s ∧ s ≤ n ∧ (∃ i, i < s.toNat ∧ μ 66 i = b) ∧ bst (rowL (μ (a0 + 1)) (μ a0 4).toNat) (lst (fun i => cdC μ (μ 66 i).toNat) s.toNat) none = some (cdC μ b.toNat)) (fun _ s => (10 - s).toNat) ⟨by omega, by omega, by omega, by omega, ⟨0, by omega, ez⟩, ?_⟩ (by omega) ?_
    · show bst _ (lst (fun i => cdC μ (μ 66 i).toNat) 1) none = some (cdC μ z0.toNat)
      have e : μ 66 0 = z0 := ez
      rw [← e]
      rfl
    rintro rc b s ⟨b0, b9, s1, sn, hx, hb⟩ ih b' s' e hbb hss
    cases e
    refine ⟨fun g => ?_, fun g v ev hv c ec _ d ed _ => ?_⟩
    · have e : s = n := by omega
      subst e
      exact k b h b0 hx hb
    · have ec' : c = 36 + 3 * v.toNat := by
        have := h35 v.toNat (by omega)
        rw [ec] at this
        omega
      have ed' : d = 36 + 3 * b.toNat := by
        have := h35 b.toNat (by omega)
        rw [ed] at this
        omega
      subst ec' ed'
      have nx := bst.one hb
      have ev' : μ 66 s.toNat = v := ev
      refine X0_prefers_s fun z hz1 rz => ?_
      have hz2 : z = 1 ↔ bts (rowL (μ (a0 + 1)) (μ a0 4).toNat) (cdC μ v.toNat) (cdC μ b.toNat) = true := hz1
      refine ⟨fun q => ih _ _ ⟨b0, b9, by omega, by omega, ?_, ?_⟩ (by omega), fun q => ih _ _ ⟨by omega, by omega, by omega, by omega, ⟨s.toNat, by omega, ev'⟩, ?_⟩ (by omega)⟩
      · obtain ⟨i, hi, hj⟩ := hx
        exact ⟨i, by omega, hj⟩
      · rw [show (s + 1).toNat = s.toNat + 1 by omega, nx, ev', if_neg (fun t => by have := hz2.mpr t; omega)]
      · rw [show (s + 1).toNat = s.toNat + 1 by omega, nx, ev', if_pos (hz2.mp (by omega))]
/-- only winners have changed -/
def onW (μ μ1 : mM) : Prop := ∀ b i, ¬ b = 66 → μ1 b i = μ b i
theorem cdC.onW {μ μ1 : mM} {i : Nat} (h : onW μ μ1) (hi : i < 10) : cdC μ1 i = cdC μ i := cdv.of (fun j => h _ _ (by omega)) (fun j => h _ _ (by omega)) (fun j => h _ _ (by omega))
theorem X8_pickPlain_s {w : mW} {μ : mM} {a0 : Nat} {Q : Int → mM → Prop} (hw : ¬ a0 = 66 ∧ ¬ a0 + 1 = 66) (h35 : ∀ i, i < 10 → μ 35 i = ((36 + 3 * i : Nat) : Int))
    (k : ∀ (z : Int) (μ1 : mM), onW μ μ1 → ((z = -1 ∧ bst (rowL (μ (a0 + 1)) (μ a0 4).toNat) (lst (cdC μ) (μ 32 9).toNat) none = none) ∨ (0 ≤ z ∧ z < μ 32 9 ∧ bst (rowL (μ (a0 + 1)) (μ a0 4).toNat) (lst (cdC μ) (μ 32 9).toNat) none = some (cdC μ z.toNat))) → Q z μ1) : WP_X8_pickPlain_W w μ a0 Q := by
  refine loopF.im (fun s m => 0 ≤ s ∧ (s = 0 ∨ s ≤ μ 32 9) ∧ onW μ m ∧ ∀ i : Nat, (i : Int) < s → m 66 i = (i : Int)) (fun s => (11 - s).toNat) ⟨by omega, Or.inl rfl, fun _ _ _ => rfl, fun i hi => by omega⟩ (by omega) ?_
  rintro rc s m ⟨s0, s1, o, h⟩ ih s' m' e hs _ _ n en hn
  cases e
  rw [o _ _ (by decide)] at en
  subst en
  refine ⟨fun g => ?_, fun g m1 u1 _ => ih _ _ ⟨by omega, by omega, fun b i hb => ?_, fun i hi => ?_⟩ (by omega)⟩
  · have es : lst (fun i => cdC m (m 66 i).toNat) (μ 32 9).toNat = lst (cdC μ) (μ 32 9).toNat := lst.ext fun i hi => by
      rw [h i (by omega), Int.toNat_natCast, cdC.onW o (by omega)]
    have st : rowL (m (a0 + 1)) (m a0 4).toNat = rowL (μ (a0 + 1)) (μ a0 4).toNat := by
      rw [o _ _ hw.1]
      exact rowL.ext fun i _ => o _ _ hw.2
    refine X8_lastStanding_s (fun i hi => by rw [o _ _ (by decide)]; exact h35 i hi) (by omega) (fun c _ => k _ m o (Or.inl ⟨rfl, ?_⟩)) (fun z hz z0 hx hb _ => k z m o (Or.inr ?_))
    · rw [show (μ 32 9).toNat = 0 by omega]
      rfl
    · obtain ⟨i, hi, hj⟩ := hx
      rw [h i (by omega)] at hj
      rw [es, st, cdC.onW o (by omega)] at hb
      exact ⟨z0, by omega, hb⟩
  · obtain rfl := u1.is
    rw [mUp.no (by omega)]
    exact o b i hb
  · obtain rfl := u1.is
    by_cases c : i = s.toNat
    · rw [mUp.yes ⟨rfl, c⟩]
      omega
    · rw [mUp.no (by omega)]
      exact h i (by omega)
end
