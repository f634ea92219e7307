/-! A message: the class reads it. -/
def oC (μ : mM) (B : Int → Int) (n : Int) : Prop := μ 76 4 = 1 ∧ ∀ i : Int, 0 ≤ i → i < n → μ 1 i.toNat = B i
def oOk (B : Int → Int) (n : Int) : Prop := n ≤ 1000 ∧ ∀ i : Int, 0 ≤ i → i < n → 0 ≤ B i ∧ B i ≤ 255
/-- the marks that are kept, in their order -/
def mkC (μ : mM) (S : List Int) : Prop := ∃ L, rowL (μ 79) (μ 76 6).toNat = L ∧ L.foldl addM [] = S ∧ (∀ x, x ∈ L ↔ x ∈ S) ∧ L.length = S.length
def maC (μ : mM) (A : Ma) : Prop := (∀ j : Nat, j < 256 → μ 77 j = aS A (j : Int)) ∧ (μ 80 2 = -99999999 ↔ aF A = 0) ∧ μ 76 7 = aO A ∧ μ 76 8 = aY A ∧ μ 81 5 = aR A ∧ μ 81 6 = aC A ∧ rowL (μ 82) (μ 81 7).toNat = aW A ∧ mkC μ (aM A)
/-- what attributes write -/
def fAtC (μ m : mM) : Prop := ∀ b i, ¬ (b = 76 ∧ 5 ≤ i ∧ i ≤ 8) → ¬ (77 ≤ b ∧ b ≤ 79) → ¬ (b = 80 ∧ ¬ i = 1) → ¬ (b = 81 ∧ 5 ≤ i ∧ i ≤ 7) → ¬ b = 82 → m b i = μ b i
theorem fAtC.refl {μ : mM} : fAtC μ μ := fun _ _ _ _ _ _ _ => rfl
theorem fAtC.trans {μ m m1 : mM} (h : fAtC μ m) (g : fAtC m m1) : fAtC μ m1 := fun b i h1 h2 h3 h4 h5 => (g b i h1 h2 h3 h4 h5).trans (h b i h1 h2 h3 h4 h5)
section MsgC
variable {w : mW} {μ : mM} {B : Int → Int} {n : Int} {A : Ma}
theorem oC.of {m : mM} (h : oC μ B n) (e : m 76 4 = μ 76 4) (e1 : ∀ i, m 1 i = μ 1 i) : oC m B n := ⟨e.trans h.1, fun i h0 h1 => (e1 _).trans (h.2 i h0 h1)⟩
theorem oC.fa {m : mM} (h : oC μ B n) (f : fAtC μ m) : oC m B n := h.of (f _ _ (by omega) (by omega) (by omega) (by omega) (by omega)) fun i => f _ _ (by omega) (by omega) (by omega) (by omega) (by omega)
theorem oC.one (h : oC μ B n) {b : Nat} (e : μ 76 4 = (b : Int)) : b = 1 := by
  have := h.1
  omega
theorem X3_pairAt_s {p : Int} {Q : Int → mM → Prop} (o : oC μ B n) (h0 : 0 ≤ p) (h1 : p + 1 < n) (k : Q (pr2 B p) μ) : WP_X3_pairAt_W w μ p Q := by
  intro b eb _ z4 e4 _ z7 e7 z10 e10 _ z13 e13
  have hb := o.one eb
  subst hb
  rw [o.2 p h0 (by omega)] at e4
  rw [o.2 (p + 1) (by omega) h1] at e10
  subst e4 e7 e10 e13
  exact k
theorem X3_fourAt_s {p : Int} {Q : Int → mM → Prop} (o : oC μ B n) (h0 : 0 ≤ p) (h1 : p + 3 < n) (k : Q (pr4 B p) μ) : WP_X3_fourAt_W w μ p Q := by
  refine X3_pairAt_s o h0 (by omega) fun _ z6 e6 => X3_pairAt_s o (by omega) (by omega) fun _ z14 e14 => ?_
  subst e6 e14
  exact k
theorem X3_note_s {p q : Int} {i : Nat} {Q : mM → Prop} (hi : p.toNat = i) (hq : 0 ≤ q) (k : ∀ m, ¬ m 80 i = -99999999 → (∀ b j, ¬ (b = 80 ∧ j = i) → m b j = μ b j) → Q m) : WP_X3_note_W w μ p q Q := by
  intro z e _
  rw [hi] at e
  refine ⟨fun c => k μ (by rw [e]; exact c) fun _ _ _ => rfl, fun c m u _ => ?_⟩
  rw [hi] at u
  obtain rfl := u.is
  exact k _ (by rw [mUp.yes ⟨rfl, rfl⟩]; omega) fun b j h => mUp.no h
theorem X3_readPrefixes_s {p e s : Int} {N : Nat} {Q : Int → mM → Prop} (o : oC μ B n) (ok : oOk B n) (p0 : 0 ≤ p) (en : e ≤ n) (s0 : 0 ≤ s) (sp : s ≤ p) (hN : e - p ≤ (N : Int))
    (k0 : pfS B e N p = none → ∀ (z : Int) (m : mM), s + z ≤ e → ¬ m 80 1 = -99999999 → (∀ b i, ¬ (b = 80 ∧ i = 1) → ¬ b = 84 → ¬ b = 85 → m b i = μ b i) → Q z m)
    (k1 : ∀ (l : List (Int × Int)) (m : mM), pfS B e N p = some l → (∀ j, j < l.length → m 84 (s.toNat + j) = getA l j ∧ m 85 (s.toNat + j) = getL l j) → (∀ b i, ¬ ((b = 84 ∨ b = 85) ∧ s.toNat ≤ i) → m b i = μ b i) → Q (l.length : Int) m) : WP_X3_readPrefixes_W w μ p e s Q := by
  have n1 := ok.1
  refine loopF.iim (fun x c m => ∃ (a : List (Int × Int)) (N' : Nat), p ≤ x ∧ e - x ≤ (N' : Int) ∧ c = (a.length : Int) ∧ s + c ≤ x ∧ pfS B e N p = (pfS B e N' x).map (fun l => a ++ l) ∧ (∀ j, j < a.length → m 84 (s.toNat + j) = getA a j ∧ m 85 (s.toNat + j) = getL a j) ∧ ∀ b i, ¬ ((b = 84 ∨ b = 85) ∧ s.toNat ≤ i) → m b i = μ b i) (fun x _ => (1001 - x).toNat) ⟨[], N, Int.le_refl _, hN, rfl, by omega, ?_, fun j hj => absurd hj (Nat.not_lt_zero j), fun _ _ _ => rfl⟩ (by omega) ?_
  · cases pfS B e N p <;> rfl
  rintro rc x c m ⟨a, N', x0, xN, ec, sc, ep, ha, fm⟩ ih x' c' m' ee rx rcc T F
  cases ee
  refine ⟨fun ce => ?_, fun ce b eb _ v ev rv nb enb => ?_⟩
  · rw [pfS.done ce] at ep
    have ep : pfS B e N p = some (a ++ []) := ep
    rw [List.append_nil] at ep
    rw [ec]
    exact k1 a m ep ha fm
  have o' : oC m B n := o.of (fm _ _ (by omega)) fun i => fm _ _ (by omega)
  have hb := o'.one eb
  subst hb
  rw [o'.2 x (by omega) (by omega)] at ev
  subst ev enb
  obtain ⟨N2, hN2⟩ : ∃ N2 : Nat, N' = N2 + 1 := ⟨N' - 1, by omega⟩
  subst hN2
  have bad : (32 < B x ∨ e < x + 1 + (B x + 7) / 8) → WP_X3_note_W w m 1 x (fun m1 => mT w m1 → mF [80999] w m m1 → Q c m1) := fun hb => X3_note_s rfl (by omega) fun m1 h1 h2 _ _ => k0 (by rw [ep, pfS.bad ce hb]; rfl) c m1 (by omega) h1 fun b i q1 q2 q3 => (h2 b i q1).trans (fm b i (by omega))
  refine ⟨fun c1 => bad (Or.inl c1), fun c1 => ⟨fun c2 => bad (Or.inr c2), fun c2 => ⟨fun c3 => ?_, fun c3 => absurd c3 (by omega)⟩⟩⟩
  refine loopF.ii (fun v i => 0 ≤ i ∧ i ≤ (B x + 7) / 8 ∧ v = adX B x i.toNat) (fun _ i => (33 - i).toNat) ⟨by omega, by omega, rfl⟩ (by omega) ?_
  rintro rc2 v i ⟨i0, i1, hv⟩ ih2 v' i' ee rv' ri
  cases ee
  refine ⟨fun ci => X10_maskOf_s ⟨rv.1, c1⟩ fun _ y ey m1 u1 _ m2 u2 _ => ?_, fun ci t et _ t2 et2 t3 et3 => ?_⟩
  · have ei : i = (B x + 7) / 8 := by omega
    have ey : adr B x = y := by
      rw [← ey, hv, ei]
      rfl
    subst ey
    have es : (s + c).toNat = s.toNat + a.length := by omega
    rw [es] at u1 u2
    obtain rfl := u1.is
    obtain rfl := u2.is
    refine ih _ _ _ ⟨a ++ [(adr B x, B x)], N2, by omega, by omega, ?_, by omega, ?_, fun j hj => ?_, fun b i q => ?_⟩ (by omega)
    · rw [List.length_append]
      show c + 1 = ((a.length + 1 : Nat) : Int)
      omega
    · rw [ep, pfS.go ce (by omega), show x + (1 + (B x + 7) / 8) = x + 1 + (B x + 7) / 8 by omega]
      cases pfS B e N2 (x + 1 + (B x + 7) / 8) with
      | none => rfl
      | some l =>
        show some (a ++ ((adr B x, B x) :: l)) = some ((a ++ [(adr B x, B x)]) ++ l)
        rw [List.append_assoc]
        rfl
    · rw [List.length_append] at hj
      have hj : j < a.length + 1 := hj
      unfold getA getL
      by_cases cj : j < a.length
      · rw [gtP.l cj, mUp.no (by omega), mUp.no (by omega), mUp.no (by omega), mUp.no (by omega)]
        exact ha j cj
      · have ej : j = a.length := by omega
        subst ej
        have g : gtP (a ++ [(adr B x, B x)]) a.length = (adr B x, B x) := gtP.r (j := 0)
        rw [g]
        exact ⟨by rw [mUp.no (by omega), mUp.yes ⟨rfl, rfl⟩], by rw [mUp.yes ⟨rfl, rfl⟩]⟩
    · rw [mUp.no (by omega), mUp.no (by omega)]
      exact fm b i q
  · rw [o'.2 (x + 1 + i) (by omega) (by omega)] at et
    subst et et2 et3
    exact ih2 _ _ ⟨by omega, by omega, (adX.succ hv.symm i0 rfl rfl rfl rfl rfl).symm⟩ (by omega)
theorem X3_readOrigin_s {b s : Int} {Q : Int → mM → Prop} (o : oC μ B n) (h0 : 0 ≤ b) (h1 : s = 1 → b < n) (k0 : ¬ (s = 1 ∧ B b ≤ 2) → Q 0 μ) (k1 : s = 1 → B b ≤ 2 → Q 1 (mUp μ 81 5 (B b))) : WP_X3_readOrigin_W w μ b s Q := by
  refine ⟨fun c => k0 fun g => c g.1, fun c b' eb _ z ez _ => ?_⟩
  have hb := o.one eb
  subst hb
  rw [o.2 b h0 (h1 c)] at ez
  subst ez
  exact ⟨fun c2 m u _ => by obtain rfl := u.is; exact k1 c c2, fun c2 => k0 fun g => by omega⟩
theorem X3_readCost_s {b s : Int} {Q : Int → mM → Prop} (o : oC μ B n) (h0 : 0 ≤ b) (h1 : b + s ≤ n) (k0 : ¬ s = 4 → Q 0 μ) (k1 : s = 4 → Q 1 (mUp μ 81 6 (clp (pr4 B b)))) : WP_X3_readCost_W w μ b s Q := by
  refine ⟨fun c => X3_fourAt_s o h0 (by omega) fun _ => ⟨fun c2 m u _ => ?_, fun c2 => ⟨fun c3 m u _ => ?_, fun c3 m u _ => ?_⟩⟩, k0⟩
  · obtain rfl := u.is
    have g := k1 c
    rw [show clp (pr4 B b) = 1000000 from if_pos (Or.inl c2)] at g
    exact g
  · obtain rfl := u.is
    have g := k1 c
    rw [show clp (pr4 B b) = pr4 B b from if_neg (by omega)] at g
    exact g
  · obtain rfl := u.is
    have g := k1 c
    rw [show clp (pr4 B b) = 1000000 from if_pos (Or.inr c3)] at g
    exact g
theorem X3_keepMark_s {x : Int} {L : List Int} {Q : mM → Prop} (hL : rowL (μ 79) (μ 76 6).toNat = L) (k0 : (x ∈ L ∨ 8 ≤ L.length) → Q μ) (k1 : ¬ (x ∈ L ∨ 8 ≤ L.length) → ∀ m, rowL (m 79) (m 76 6).toNat = L ++ [x] → (∀ b i, ¬ (b = 76 ∧ i = 6) → ¬ b = 79 → m b i = μ b i) → Q m) : WP_X3_keepMark_W w μ x Q := by
  have ln : L.length = (μ 76 6).toNat := by rw [← hL, rowL.len]
  refine loopF.i (fun z => 0 ≤ z ∧ ∀ j : Nat, (j : Int) < z → ¬ μ 79 j = x) (fun z => (9 - z).toNat) ⟨Int.le_refl _, fun j hj => by omega⟩ (by omega) ?_
  rintro rc z ⟨z0, hz⟩ ih z' e rz c ec rc8
  cases e
  refine ⟨fun cz => ⟨fun c8 => k0 (Or.inr (by omega)), fun c8 m1 u1 _ m2 u2 _ => ?_⟩, fun cz v ev _ => ⟨fun c2 => ih _ ⟨by omega, fun j hj => ?_⟩ (by omega), fun c2 => k0 (Or.inl ?_)⟩⟩
  · have ec' : c.toNat = (μ 76 6).toNat := by rw [ec]
    rw [ec'] at u1
    obtain rfl := u1.is
    obtain rfl := u2.is
    refine k1 (fun g => ?_) _ ?_ fun b i q1 q2 => ?_
    · rcases g with g | g
      · rw [← hL] at g
        obtain ⟨j, j1, j2⟩ := rowL.mem.mp g
        exact hz j (by omega) j2
      · omega
    · rw [mUp.yes ⟨rfl, rfl⟩, show (c + 1).toNat = (μ 76 6).toNat + 1 by omega, rowL.succ, rowL.ext (f := μ 79) (fun i hi => by rw [mUp.no (by omega), mUp.no (by omega)]), hL, mUp.no (by omega), mUp.yes ⟨rfl, rfl⟩]
    · rw [mUp.no (by omega), mUp.no (by omega)]
  · by_cases cj : (j : Int) = z
    · rw [show j = z.toNat by omega, ev]; exact c2
    · exact hz j (by omega)
  · rw [← hL]
    exact rowL.mem.mpr ⟨z.toNat, by omega, ev.trans c2⟩
theorem X3_readMarks_s {b s : Int} {Q : Int → mM → Prop} (o : oC μ B n) (n1 : n ≤ 1000) (b0 : 0 ≤ b) (s0 : 0 ≤ s) (bn : b + s ≤ n) (h : mkC μ []) (k0 : ¬ s % 4 = 0 → Q 0 μ) (k1 : s % 4 = 0 → ∀ m, mkC m (mkS B b (s / 4).toNat) → (∀ c i, ¬ (c = 76 ∧ i = 6) → ¬ c = 79 → m c i = μ c i) → Q 1 m) : WP_X3_readMarks_W w μ b s Q := by
  intro y ey
  subst ey
  refine ⟨fun c => ?_, k0⟩
  refine loopF.im (fun x m => ∃ i : Nat, x = b + 4 * (i : Int) ∧ x ≤ b + s ∧ mkC m (mkS B b i) ∧ ∀ c i, ¬ (c = 76 ∧ i = 6) → ¬ c = 79 → m c i = μ c i) (fun x => (1001 - x).toNat) ⟨0, by omega, by omega, h, fun _ _ _ _ => rfl⟩ (by omega) ?_
  rintro rc x m ⟨i, ex, xs, hm, fm⟩ ih x' m' ee rx T F
  cases ee
  have o' : oC m B n := o.of (fm _ _ (by omega) (by omega)) fun i => fm _ _ (by omega) (by omega)
  refine ⟨fun ce => ?_, fun ce => X3_pairAt_s o' (by omega) (by omega) fun _ => ?_⟩
  · have ei : i = (s / 4).toNat := by omega
    rw [ei] at hm
    exact k1 c m hm fm
  · obtain ⟨L, l1, l2, l3, l4⟩ := hm
    have ep : x + 2 = b + 4 * (i : Int) + 2 := by omega
    rw [ep]
    refine X3_keepMark_s l1 (fun g _ _ => ih _ _ ⟨i + 1, by omega, by omega, ?_, fm⟩ (by omega)) (fun g m1 r1 f1 _ _ => ih _ _ ⟨i + 1, by omega, by omega, ?_, fun c j q1 q2 => (f1 c j q1 q2).trans (fm c j q1 q2)⟩ (by omega))
    · have sk : mkS B b (i + 1) = mkS B b i := addM.skip (g.imp (fun q => (l3 _).mp q) fun q => by omega)
      rw [sk]
      exact ⟨L, l1, l2, l3, l4⟩
    · have ns : ¬ (pr2 B (b + 4 * (i : Int) + 2) ∈ mkS B b i ∨ 8 ≤ (mkS B b i).length) := fun q => g (q.imp (fun q => (l3 _).mpr q) fun q => by omega)
      refine ⟨L ++ [pr2 B (b + 4 * (i : Int) + 2)], r1, ?_, fun y => ?_, ?_⟩
      · rw [List.foldl_append, l2]
        rfl
      · show _ ↔ y ∈ addM (mkS B b i) (pr2 B (b + 4 * (i : Int) + 2))
        rw [addM.memI ns, List.mem_append, List.mem_singleton, l3 y]
      · show _ = (addM (mkS B b i) (pr2 B (b + 4 * (i : Int) + 2))).length
        rw [addM.lenI ns, List.length_append, l4]
        rfl
theorem X3_sort_s {a c : Nat} {X : Nat → Int} {G : Nat → Nat → Int} {p q : Int} {Q : mM → Prop} (hp : p = (a : Int)) (hq : q = ((a + c : Nat) : Int)) (c1 : 1 ≤ c) (c20 : a + c ≤ 20) (hG : ∀ i, G (i + 1) = inF (G i) (X i) (plW (G i) (X i) a i)) (h0 : ∀ j, j < a → μ 82 j = G 0 j) (hX : ∀ i, i < c → μ 82 (a + i) = X i)
    (k : ∀ m, (∀ j, j < a + c → m 82 j = G c j) → (∀ b i, ¬ b = 82 → m b i = μ b i) → Q m) : WP_X3_sortWithoutSign_W w μ 82 p q Q := by
  subst hp hq
  refine loopF.im (fun x m => ∃ t : Nat, x = ((a + t : Nat) : Int) ∧ 1 ≤ t ∧ t ≤ c ∧ (∀ j, j < a + t → m 82 j = G t j) ∧ (∀ j, a + t ≤ j → m 82 j = μ 82 j) ∧ ∀ b i, ¬ b = 82 → m b i = μ b i) (fun x => (21 - x).toNat) ⟨1, by omega, Nat.le_refl _, c1, fun j hj => ?_, fun _ _ => rfl, fun _ _ _ => rfl⟩ (by omega) ?_
  · rw [hG 0]
    exact inF.is (T := a) (fun j hj => h0 j hj) (hX 0 c1) (fun j h1 h2 => by omega) j (by omega)
  rintro rc x m ⟨t, ex, t1, tc, hm, hr, fm⟩ ih x' m' ee rx T F
  cases ee
  refine ⟨fun ce => ?_, fun ce v ev _ => ?_⟩
  · have e : t = c := by omega
    rw [e] at hm
    exact k m hm fm
  have exn : x.toNat = a + t := by omega
  rw [exn, hr _ (Nat.le_refl _), hX t (by omega)] at ev
  subst ev
  have done : ∀ (d : Nat) (m1 m2 : mM), d ≤ t → plW (G t) (X t) a t = a + d → (∀ j, j < a + d → m1 82 j = G t j) → (∀ j, a + d < j → j ≤ a + t → m1 82 j = G t (j - 1)) → (∀ j, a + t < j → m1 82 j = μ 82 j) → (∀ b i, ¬ b = 82 → m1 b i = μ b i) → mU m1 82 ((a + d : Nat) : Int).toNat (X t) m2 → rc (x + 1, m2) := by
    intro d m1 m2 hd hp h1 h2 h3 h4 u
    rw [Int.toNat_natCast] at u
    obtain rfl := u.is
    refine ih _ _ ⟨t + 1, by omega, by omega, by omega, fun j hj => ?_, fun j hj => ?_, fun b i q => ?_⟩ (by omega)
    · rw [hG t, hp]
      exact inF.is (T := a + t) (h := mUp m1 82 (a + d) (X t) 82) (fun j hj => by rw [mUp.no (by omega)]; exact h1 j hj) (mUp.yes ⟨rfl, rfl⟩) (fun j g1 g2 => by rw [mUp.no (by omega)]; exact h2 j g1 g2) j (by omega)
    · rw [mUp.no (by omega)]
      exact h3 j (by omega)
    · rw [mUp.no (by omega)]
      exact h4 b i q
  refine loopF.im (fun z m1 => ∃ d : Nat, z = ((a + d : Nat) : Int) ∧ d ≤ t ∧ plW (G t) (X t) a t = plW (G t) (X t) a d ∧ (∀ j, j < a + d → m1 82 j = G t j) ∧ (∀ j, a + d < j → j ≤ a + t → m1 82 j = G t (j - 1)) ∧ (∀ j, a + t < j → m1 82 j = μ 82 j) ∧ ∀ b i, ¬ b = 82 → m1 b i = μ b i) (fun z => z.toNat) ⟨t, by omega, Nat.le_refl _, rfl, hm, fun j h1 h2 => by omega, fun j hj => hr j (by omega), fm⟩ (by omega) ?_
  rintro rc2 z m1 ⟨d, ez, dt, hp, g1, g2, g3, g4⟩ ih2 z' m' ee rz T1 F1
  cases ee
  subst ez
  refine ⟨fun cz m2 u _ => ?_, fun cz y ey _ y1 ey1 y2 ey2 => ?_⟩
  · have d0 : d = 0 := by omega
    subst d0
    exact done 0 m1 m2 (Nat.zero_le _) hp g1 g2 g3 g4 u
  · obtain ⟨d2, hd2⟩ : ∃ d2 : Nat, d = d2 + 1 := ⟨d - 1, by omega⟩
    subst hd2
    rw [show (((a + (d2 + 1) : Nat) : Int) - 1).toNat = a + d2 by omega, g1 (a + d2) (by omega)] at ey
    subst ey ey1 ey2
    refine ⟨fun cy m2 u _ => ?_, fun cy m2 u _ => ?_⟩
    · exact done (d2 + 1) m1 m2 dt (hp.trans (plW.no fun g => by unfold uB at g; omega)) g1 g2 g3 g4 u
    · rw [Int.toNat_natCast] at u
      obtain rfl := u.is
      refine ih2 _ _ ⟨d2, by omega, by omega, hp.trans (plW.yes cy), fun j hj => ?_, fun j h1 h2 => ?_, fun j hj => ?_, fun b i q => ?_⟩ (by omega)
      · rw [mUp.no (by omega)]
        exact g1 j (by omega)
      · by_cases cj : j = a + (d2 + 1)
        · rw [mUp.yes ⟨rfl, cj⟩, cj, show a + (d2 + 1) - 1 = a + d2 by omega]
        · rw [mUp.no (by omega)]
          exact g2 j (by omega) h2
      · rw [mUp.no (by omega)]
        exact g3 j hj
      · rw [mUp.no (by omega)]
        exact g4 b i q
theorem X3_readWay_s {b s : Int} {Q : Int → mM → Prop} (o : oC μ B n) (n1 : n ≤ 1000) (b0 : 0 ≤ b) (s0 : 0 ≤ s) (bn : b + s ≤ n) (k0 : wyZ B b (b + s) = none → ∀ m, (∀ c i, ¬ c = 82 → m c i = μ c i) → Q 0 m) (k1 : ∀ W m, wyZ B b (b + s) = some W → rowL (m 82) (m 81 7).toNat = W → (∀ c i, ¬ c = 82 → ¬ (c = 81 ∧ i = 7) → m c i = μ c i) → Q 1 m) : WP_X3_readWay_W w μ b s Q := by
  refine loopF.iim (fun x c m => ∃ (a N : Nat) (f : Nat → Int), b ≤ x ∧ b + s - x ≤ (N : Int) ∧ c = (a : Int) ∧ a ≤ 20 ∧ wyT B (b + s) 1001 b 0 = wyT B (b + s) N x a ∧ wyF B (b + s) 1001 b 0 (fun _ => 0) = wyF B (b + s) N x a f ∧ (∀ j, j < a → m 82 j = f j) ∧ ∀ c i, ¬ c = 82 → m c i = μ c i) (fun x _ => (1001 - x).toNat) ⟨0, 1001, fun _ => 0, Int.le_refl _, by omega, rfl, by omega, rfl, rfl, fun j hj => absurd hj (Nat.not_lt_zero j), fun _ _ _ => rfl⟩ (by omega) ?_
  rintro rc x c m ⟨a, N, f, x0, xN, ec, a20, eT', eF, hm, fm⟩ ih x' c' m' ee rx rcc T F
  cases ee
  refine ⟨fun ce m1 u _ => ?_, fun ce => ?_⟩
  · obtain rfl := u.is
    rw [wyT.done ce] at eT'
    rw [wyF.done ce] at eF
    refine k1 _ _ (wyZ.some' eT' a20) ?_ fun c i q1 q2 => by rw [mUp.no (by omega)]; exact fm c i q1
    rw [mUp.yes ⟨rfl, rfl⟩, eF, show c.toNat = a by omega]
    exact rowL.ext fun j hj => by rw [mUp.no (by omega)]; exact hm j hj
  have o' : oC m B n := o.of (fm _ _ (by omega)) fun i => fm _ _ (by omega)
  have bad : (b + s < x + 2 ∨ ¬ (1 ≤ B x ∧ B x ≤ 2) ∨ B (x + 1) < 1 ∨ b + s < x + 2 + 4 * B (x + 1)) → Q 0 m := fun hb => k0 (wyZ.none' fun t ht => by rw [eT', wyT.bad ce hb] at ht; cases ht) m fm
  refine ⟨fun c1 d ed _ v ev rv u eu ru => ?_, fun c1 => bad (Or.inl c1)⟩
  have hd := o'.one ed
  subst hd
  rw [o'.2 x (by omega) (by omega)] at ev
  rw [o'.2 (x + 1) (by omega) (by omega)] at eu
  subst ev eu
  refine ⟨fun c2 => bad (Or.inr (Or.inl (by omega))), fun c2 => ⟨fun c3 => bad (Or.inr (Or.inl (by omega))), fun c3 => ⟨fun c4 => ⟨fun c5 => bad (Or.inr (Or.inr (Or.inr c5))), fun c5 => ⟨fun c6 => ?_, fun c6 => ?_⟩⟩, fun c4 => bad (Or.inr (Or.inr (Or.inl c4)))⟩⟩⟩
  · obtain ⟨N2, hN2⟩ : ∃ N2 : Nat, N = N2 + 1 := ⟨N - 1, by omega⟩
    subst hN2
    obtain ⟨q, hq⟩ : ∃ q : Nat, B (x + 1) = (q : Int) := ⟨(B (x + 1)).toNat, by omega⟩
    rw [wyT.go ce (by omega)] at eT'
    rw [wyF.go ce] at eF
    rw [hq, Int.toNat_natCast] at eT' eF
    rw [hq] at c5 c6 c4 ⊢
    have J : ∀ (m1 m2 : mM), (∀ j, j < a + q → m2 82 j = sgF B x a f q j) → (∀ c i, ¬ c = 82 → m2 c i = μ c i) → WJ_X3_readWay_W_3 w rc x c (q : Int) m1 m2 := fun m1 m2 h1 h2 _ _ => ih _ _ _ ⟨a + q, N2, sgF B x a f q, by omega, by omega, by omega, by omega, by rw [eT', show x + (2 + 4 * (q : Int)) = x + 2 + 4 * (q : Int) by omega], by rw [eF, show x + (2 + 4 * (q : Int)) = x + 2 + 4 * (q : Int) by omega], h1, h2⟩ (by omega)
    refine loopF.im (fun i m1 => ∃ t : Nat, i = (t : Int) ∧ t ≤ q ∧ (∀ j, j < a → m1 82 j = f j) ∧ (∀ j, j < t → m1 82 (a + j) = pr4 B (x + 2 + 4 * (j : Int))) ∧ ∀ c i, ¬ c = 82 → m1 c i = μ c i) (fun i => (21 - i).toNat) ⟨0, rfl, Nat.zero_le _, hm, fun j hj => absurd hj (Nat.not_lt_zero j), fm⟩ (by omega) ?_
    rintro rc2 i m1 ⟨t, ei, tq, h1, h2, h3⟩ ih2 i' m' ee ri T1 F1
    cases ee
    subst ei
    have o1 : oC m1 B n := o.of (h3 _ _ (by omega)) fun i => h3 _ _ (by omega)
    refine ⟨fun ct => ?_, fun ct => X3_fourAt_s o1 (by omega) (by omega) fun _ m2 u _ => ?_⟩
    · have e : t = q := by omega
      rw [e] at h2
      refine ⟨fun cs => J m1 m1 (fun j hj => ?_) h3, fun cs => ?_⟩
      · by_cases cj : j < a
        · rw [sgF.lo cj]; exact h1 j cj
        · have g := sgF.rowAt (B := B) (k := x) (a := a) (f := f) (i := q) (j := j - a) cs (by omega)
          rw [show a + (j - a) = j by omega] at g
          have g2 := h2 (j - a) (by omega)
          rw [show a + (j - a) = j by omega] at g2
          rw [g, g2]
      · have g : WP_X3_sortWithoutSign_W w m1 82 c (c + (q : Int)) (fun m2 => mT w m2 → mF [201999] w m1 m2 → WJ_X3_readWay_W_3 w rc x c (q : Int) m1 m2) := X3_sort_s (a := a) (c := q) (X := fun j => pr4 B (x + 2 + 4 * (j : Int))) (G := fun i => sgF B x a f i) (by omega) (by omega) (by omega) (by omega) (fun i => sgF.set cs) h1 h2 (fun m2 g1 g2 _ _ => J m1 m2 g1 fun c i q1 => (g2 c i q1).trans (h3 c i q1))
        exact g
    · have u : mU m1 82 (c + (t : Int)).toNat (pr4 B (x + 2 + 4 * (t : Int))) m2 := u
      rw [show (c + (t : Int)).toNat = a + t by omega] at u
      obtain rfl := u.is
      refine ih2 _ _ ⟨t + 1, by omega, by omega, fun j hj => by rw [mUp.no (by omega)]; exact h1 j hj, fun j hj => ?_, fun c i q1 => by rw [mUp.no (by omega)]; exact h3 c i q1⟩ (by omega)
      by_cases cj : j = t
      · rw [cj, mUp.yes ⟨rfl, rfl⟩]
      · rw [mUp.no (by omega)]; exact h2 j (by omega)
  · refine k0 (wyZ.none' fun t ht => ?_) m fm
    obtain ⟨N2, hN2⟩ : ∃ N2 : Nat, N = N2 + 1 := ⟨N - 1, by omega⟩
    subst hN2
    rw [eT', wyT.go ce (by omega)] at ht
    have := wyT.le ht
    omega
theorem X3_carry_s {f t : Int} {Q : mM → Prop} (k : ∀ m, (∀ b i, ¬ b = 78 → ¬ (b = 76 ∧ i = 5) → m b i = μ b i) → Q m) : WP_X3_carry_W w μ f t Q := by
  intro c ec _ z ez
  refine ⟨fun _ => k μ fun _ _ _ _ => rfl, fun _ m1 u1 _ m2 u2 _ => ?_⟩
  obtain rfl := u1.is
  obtain rfl := u2.is
  exact k _ fun b i q1 q2 => by rw [mUp.no (by omega), mUp.no (by omega)]
theorem mkC.of {m : mM} {S : List Int} (h : mkC μ S) (e6 : m 76 6 = μ 76 6) (e79 : ∀ i, m 79 i = μ 79 i) : mkC m S := by
  obtain ⟨L, l1, l2⟩ := h
  exact ⟨L, by rw [e6, rowL.ext fun i _ => e79 i]; exact l1, l2⟩
theorem maC.of {m : mM} (h : maC μ A) (f : ∀ b i, ((b = 76 ∧ 6 ≤ i ∧ i ≤ 8) ∨ b = 77 ∨ b = 79 ∨ (b = 80 ∧ i = 2) ∨ (b = 81 ∧ 5 ≤ i ∧ i ≤ 7) ∨ b = 82) → m b i = μ b i) : maC m A := by
  obtain ⟨h1, h2, h3, h4, h5, h6, h7, h8⟩ := h
  exact ⟨fun j hj => (f _ _ (by omega)).trans (h1 j hj), by rw [f _ _ (by omega)]; exact h2, (f _ _ (by omega)).trans h3, (f _ _ (by omega)).trans h4, (f _ _ (by omega)).trans h5, (f _ _ (by omega)).trans h6, by rw [f _ _ (by omega), rowL.ext fun i _ => f _ _ (by omega)]; exact h7, h8.of (f _ _ (by omega)) fun i => f _ _ (by omega)⟩
theorem maC.bad {m : mM} (h : maC μ A) (h1 : ¬ m 80 2 = -99999999) (f : ∀ b i, ¬ (b = 80 ∧ i = 2) → m b i = μ b i) : maC m (a2! A) := by
  obtain ⟨g1, g2, g3, g4, g5, g6, g7, g8⟩ := h
  exact ⟨fun j hj => (f _ _ (by omega)).trans (g1 j hj), ⟨fun q => absurd q h1, fun q => absurd q (by show ¬ (1 : Int) = 0; decide)⟩, (f _ _ (by omega)).trans g3, (f _ _ (by omega)).trans g4, (f _ _ (by omega)).trans g5, (f _ _ (by omega)).trans g6, by rw [f _ _ (by omega), rowL.ext fun i _ => f _ _ (by omega)]; exact g7, g8.of (f _ _ (by omega)) fun i => f _ _ (by omega)⟩
theorem maC.see {t : Int} (h : maC μ A) (ht : 0 ≤ t) : maC (mUp μ 77 t.toNat 1) (aS! A t) := by
  obtain ⟨g1, g2, g3, g4, g5, g6, g7, g8⟩ := h
  have f : ∀ b i, ¬ b = 77 → mUp μ 77 t.toNat 1 b i = μ b i := fun b i q => mUp.no (by omega)
  refine ⟨fun j hj => ?_, by rw [f _ _ (by omega)]; exact g2, (f _ _ (by omega)).trans g3, (f _ _ (by omega)).trans g4, (f _ _ (by omega)).trans g5, (f _ _ (by omega)).trans g6, by rw [f _ _ (by omega), rowL.ext fun i _ => f _ _ (by omega)]; exact g7, g8.of (f _ _ (by omega)) fun i => f _ _ (by omega)⟩
  show _ = if (j : Int) = t then 1 else aS A (j : Int)
  by_cases c : (j : Int) = t
  · rw [if_pos c, mUp.yes ⟨rfl, by omega⟩]
  · rw [if_neg c, mUp.no (by omega)]
    exact g1 j hj
theorem X3_note2_s {m : mM} {q : Int} {Q : mM → Prop} (h : maC m A) (fa : fAtC μ m) (hq : 0 ≤ q) (kk : ∀ m1, maC m1 (a2! A) → fAtC μ m1 → Q m1) : WP_X3_note_W w m 2 q (fun m1 => mT w m1 → mF [80999] w m m1 → Q m1) := X3_note_s rfl hq fun m1 h1 h2 _ _ => kk m1 (h.bad h1 h2) (fa.trans fun b i q1 q2 q3 q4 q5 => h2 b i (by omega))
theorem X3_readAttribute_s {k b s : Int} {Q : mM → Prop} (o : oC μ B n) (ok : oOk B n) (k0 : 0 ≤ k) (kb : k + 2 ≤ b) (s0 : 0 ≤ s) (bn : b + s ≤ n) (h : maC μ A) (hI : maI A) (kk : ∀ m, maC m (atO B k b s A) → fAtC μ m → Q m) : WP_X3_readAttribute_W w μ k b s Q := by
  intro cc _ _ d ed _ fl efl rfl' tl etl t et rt u eu ru
  have hd := o.one ed
  subst hd
  rw [o.2 k k0 (by omega)] at efl
  rw [o.2 (k + 1) (by omega) (by omega)] at et
  subst efl etl et
  have eS : aS A (B (k + 1)) = u := by
    have g := h.1 (B (k + 1)).toNat (by omega)
    rw [Int.toNat_of_nonneg rt.1, eu] at g
    exact g.symm
  refine ⟨fun c0 m1 u1 _ => ?_, fun c0 => ?_⟩
  rotate_left 1
  · have e : atO B k b s A = A := if_pos (by rw [eS]; exact c0)
    rw [e] at kk
    exact X3_note_s rfl k0 fun m1 _ h2 _ _ => kk m1 (h.of fun b i q => h2 b i (by omega)) fun b i q1 q2 q3 q4 q5 => h2 b i (by omega)
  have z0 : ¬ ¬ aS A (B (k + 1)) = 0 := fun q => q (eS.trans c0)
  obtain rfl := u1.is
  have hs := h.see rt.1
  have fs : fAtC μ (mUp μ 77 (B (k + 1)).toNat 1) := fun b i q1 q2 q3 q4 q5 => mUp.no (by omega)
  have os := o.fa fs
  generalize mUp μ 77 (B (k + 1)).toNat 1 = m at hs fs os ⊢
  unfold atO at kk
  rw [if_neg z0] at kk
  have other : ∀ z : Int, ¬ B (k + 1) = 1 → ¬ B (k + 1) = 2 → ¬ B (k + 1) = 4 → ¬ B (k + 1) = 8 → (z = 0 ↔ bAnd (B k) 128 = 0) → WJ_X3_readAttribute_W_9 w k Q (B k) (B (k + 1)) m z := by
    intro z c1 c2 c4 c8 hz _
    rw [if_neg c1, if_neg c2, if_neg c4, if_neg c8] at kk
    refine X3_carry_s fun m2 f2 _ _ _ _ => ?_
    have h2 : maC m2 (aS! A (B (k + 1))) := hs.of fun b i q => f2 b i (by omega) (by omega)
    have fa2 : fAtC μ m2 := fs.trans fun b i q1 q2 q3 q4 q5 => f2 b i (by omega) (by omega)
    refine ⟨fun cz => ?_, fun cz => ?_⟩
    · rw [if_neg fun q => cz (hz.mpr q)] at kk
      exact kk m2 h2 fa2
    · rw [if_pos (hz.mp cz)] at kk
      exact X3_note2_s h2 fa2 k0 kk
  have oth : (¬ B (k + 1) = 1 → ¬ B (k + 1) = 2 → ¬ B (k + 1) = 4 → ¬ B (k + 1) = 8 → ∀ z : Int, bAnd (B k) 128 = z → ((z = 0) → WJ_X3_readAttribute_W_9 w k Q (B k) (B (k + 1)) m 0) ∧ ((¬ z = 0) → WJ_X3_readAttribute_W_9 w k Q (B k) (B (k + 1)) m 1)) := fun c1 c2 c4 c8 z ez => ⟨fun c => other 0 c1 c2 c4 c8 ⟨fun _ => ez.trans c, fun _ => rfl⟩, fun c => other 1 c1 c2 c4 c8 ⟨fun q => absurd q (by decide), fun q => absurd (ez.symm.trans q) c⟩⟩
  refine ⟨fun c1 => ?_, fun c1 => ⟨fun c2 => ?_, fun c2 => ⟨fun c3 => oth c1 c2 (by omega) (by omega), fun c3 => ⟨fun c4 => ?_, fun c4 => ⟨fun c5 => oth c1 c2 c4 (by omega), fun c5 => ⟨fun c6 => oth c1 c2 c4 (by omega), fun c6 => ⟨fun c7 => oth c1 c2 c4 (by omega), fun c7 => ⟨fun c8 => ?_, fun c8 => oth c1 c2 c4 c8⟩⟩⟩⟩⟩⟩⟩⟩
  · rw [if_pos c1] at kk
    have a0 : aO A = 0 := hI.1 (by rw [← c1, eS]; exact c0)
    have bad : ¬ (bAnd (B k) 207 = 64 ∧ s = 1 ∧ B b ≤ 2) → WJ_X3_readAttribute_W_1 w k Q m 0 m := by
      intro q _ _ _ m2 u2 _
      rw [if_neg q] at kk
      obtain rfl := u2.is
      refine ⟨fun g => absurd rfl g, fun _ => X3_note2_s (A := aS! A (B (k + 1))) ?_ (fs.trans fun b i q1 q2 q3 q4 q5 => mUp.no (by omega)) k0 kk⟩
      obtain ⟨g1, g2, g3, g4, g5, g6, g7, g8⟩ := hs
      have f : ∀ b i, ¬ (b = 76 ∧ i = 7) → mUp m 76 7 0 b i = m b i := fun b i q => mUp.no (by omega)
      exact ⟨fun j hj => (f _ _ (by omega)).trans (g1 j hj), by rw [f _ _ (by omega)]; exact g2, by rw [mUp.yes ⟨rfl, rfl⟩]; exact a0.symm, (f _ _ (by omega)).trans g4, (f _ _ (by omega)).trans g5, (f _ _ (by omega)).trans g6, by rw [f _ _ (by omega), rowL.ext fun i _ => f _ _ (by omega)]; exact g7, g8.of (f _ _ (by omega)) fun i => f _ _ (by omega)⟩
    refine ⟨fun ct => bad fun q => ct q.1, fun ct => X3_readOrigin_s os (by omega) (fun e => by omega) (fun q _ _ _ => ⟨fun _ => bad fun g => q g.2, fun g => absurd rfl g⟩) (fun q1 q2 _ _ _ => ⟨fun g => absurd g (by decide), fun _ _ _ _ m2 u2 _ => ?_⟩)⟩
    rw [if_pos ⟨ct, q1, q2⟩] at kk
    obtain rfl := u2.is
    refine ⟨fun _ => kk _ ?_ (fs.trans fun b i q1 q2 q3 q4 q5 => by rw [mUp.no (by omega), mUp.no (by omega)]), fun g => absurd g (by decide)⟩
    obtain ⟨g1, g2, g3, g4, g5, g6, g7, g8⟩ := hs
    have f : ∀ b' i, ¬ (b' = 76 ∧ i = 7) → ¬ (b' = 81 ∧ i = 5) → mUp (mUp m 81 5 (B b)) 76 7 1 b' i = m b' i := fun b' i q q' => by rw [mUp.no (by omega), mUp.no (by omega)]
    exact ⟨fun j hj => (f _ _ (by omega) (by omega)).trans (g1 j hj), by rw [f _ _ (by omega) (by omega)]; exact g2, by rw [mUp.yes ⟨rfl, rfl⟩]; rfl, (f _ _ (by omega) (by omega)).trans g4, by rw [mUp.no (by omega), mUp.yes ⟨rfl, rfl⟩]; rfl, (f _ _ (by omega) (by omega)).trans g6, by rw [f _ _ (by omega) (by omega), rowL.ext fun i _ => f _ _ (by omega) (by omega)]; exact g7, g8.of (f _ _ (by omega) (by omega)) fun i => f _ _ (by omega) (by omega)⟩
  · rw [if_neg c1, if_pos c2] at kk
    have a0 := hI.2.1 (by rw [← c2, eS]; exact c0)
    have bad : (bAnd (B k) 207 = 64 → wyZ B b (b + s) = none) → ∀ m2 : mM, (∀ c i, ¬ c = 82 → m2 c i = m c i) → WJ_X3_readAttribute_W_2 w k Q m 0 m2 := by
      intro q m2 f2 _ _ _ m3 u3 _
      obtain rfl := u3.is
      have kk2 : ∀ m1, maC m1 (a2! (aS! A (B (k + 1)))) → fAtC μ m1 → Q m1 := by
        by_cases ct : bAnd (B k) 207 = 64
        · rw [if_pos ct, q ct] at kk
          exact kk
        · rw [if_neg ct] at kk
          exact kk
      refine ⟨fun g => absurd rfl g, fun _ => X3_note2_s (A := aS! A (B (k + 1))) ?_ (fs.trans fun b i q1 q2 q3 q4 q5 => by rw [mUp.no (by omega)]; exact f2 b i q5) k0 kk2⟩
      obtain ⟨g1, g2, g3, g4, g5, g6, g7, g8⟩ := hs
      have f : ∀ b i, ¬ (b = 76 ∧ i = 8) → ¬ b = 82 → mUp m2 76 8 0 b i = m b i := fun b i q q' => by rw [mUp.no (by omega)]; exact f2 b i q'
      have l0 : (m 81 7).toNat = 0 := by
        have e : (rowL (m 82) (m 81 7).toNat).length = (aW A).length := congrArg List.length g7
        rw [rowL.len, a0.2] at e
        exact e
      exact ⟨fun j hj => (f _ _ (by omega) (by omega)).trans (g1 j hj), by rw [f _ _ (by omega) (by omega)]; exact g2, (f _ _ (by omega) (by omega)).trans g3, by rw [mUp.yes ⟨rfl, rfl⟩]; exact a0.1.symm, (f _ _ (by omega) (by omega)).trans g5, (f _ _ (by omega) (by omega)).trans g6, by rw [f _ _ (by omega) (by omega), l0]; exact a0.2.symm, g8.of (f _ _ (by omega) (by omega)) fun i => f _ _ (by omega) (by omega)⟩
    refine ⟨fun ct => bad (fun q => absurd q ct) m fun _ _ _ => rfl, fun ct => X3_readWay_s os ok.1 (by omega) s0 bn (fun q m2 f2 _ _ _ => ⟨fun _ => bad (fun _ => q) m2 f2, fun g => absurd rfl g⟩) (fun W m2 q r2 f2 _ _ _ => ⟨fun g => absurd g (by decide), fun _ _ _ _ m3 u3 _ => ?_⟩)⟩
    rw [if_pos ct, q] at kk
    obtain rfl := u3.is
    refine ⟨fun _ => kk _ ?_ (fs.trans fun b i q1 q2 q3 q4 q5 => by rw [mUp.no (by omega)]; exact f2 b i q5 (by omega)), fun g => absurd g (by decide)⟩
    obtain ⟨g1, g2, g3, g4, g5, g6, g7, g8⟩ := hs
    have f : ∀ b i, ¬ (b = 76 ∧ i = 8) → ¬ b = 82 → ¬ (b = 81 ∧ i = 7) → mUp m2 76 8 1 b i = m b i := fun b i q q' q'' => by rw [mUp.no (by omega)]; exact f2 b i q' q''
    exact ⟨fun j hj => (f _ _ (by omega) (by omega) (by omega)).trans (g1 j hj), by rw [f _ _ (by omega) (by omega) (by omega)]; exact g2, (f _ _ (by omega) (by omega) (by omega)).trans g3, by rw [mUp.yes ⟨rfl, rfl⟩]; rfl, (f _ _ (by omega) (by omega) (by omega)).trans g5, (f _ _ (by omega) (by omega) (by omega)).trans g6, by rw [mUp.no (by omega), rowL.ext (f := m2 82) fun i _ => mUp.no (by omega)]; exact r2, g8.of (f _ _ (by omega) (by omega) (by omega)) fun i => f _ _ (by omega) (by omega) (by omega)⟩
  · rw [if_neg c1, if_neg c2, if_pos c4] at kk
    have bad : ¬ (bAnd (B k) 207 = 128 ∧ s = 4) → WJ_X3_readAttribute_W_4 w k Q m 0 m := by
      intro q _ _ _
      rw [if_neg q] at kk
      exact ⟨fun g => absurd rfl g, fun _ => X3_note2_s hs fs k0 kk⟩
    refine ⟨fun ct => bad fun q => ct q.1, fun ct => X3_readCost_s os (by omega) bn (fun q _ _ _ => ⟨fun _ => bad fun g => q g.2, fun g => absurd rfl g⟩) (fun q1 _ _ _ => ⟨fun g => absurd g (by decide), fun _ _ _ _ => ⟨fun _ => ?_, fun g => absurd g (by decide)⟩⟩)⟩
    rw [if_pos ⟨ct, q1⟩] at kk
    refine kk _ ?_ (fs.trans fun b i q1 q2 q3 q4 q5 => mUp.no (by omega))
    obtain ⟨g1, g2, g3, g4, g5, g6, g7, g8⟩ := hs
    have f : ∀ b' i, ¬ (b' = 81 ∧ i = 6) → mUp m 81 6 (clp (pr4 B b)) b' i = m b' i := fun b' i q => mUp.no (by omega)
    exact ⟨fun j hj => (f _ _ (by omega)).trans (g1 j hj), by rw [f _ _ (by omega)]; exact g2, (f _ _ (by omega)).trans g3, (f _ _ (by omega)).trans g4, (f _ _ (by omega)).trans g5, by rw [mUp.yes ⟨rfl, rfl⟩]; rfl, by rw [f _ _ (by omega), rowL.ext fun i _ => f _ _ (by omega)]; exact g7, g8.of (f _ _ (by omega)) fun i => f _ _ (by omega)⟩
  · rw [if_neg c1, if_neg c2, if_neg c4, if_pos c8] at kk
    have a0 := hI.2.2.1 (by rw [← c8, eS]; exact c0)
    have bad : ¬ (bAnd (B k) 207 = 192 ∧ s % 4 = 0) → WJ_X3_readAttribute_W_8 w k Q m 0 m := by
      intro q _ _ _
      rw [if_neg q] at kk
      exact ⟨fun g => absurd rfl g, fun _ => X3_note2_s hs fs k0 kk⟩
    have hk : mkC m [] := by
      have g := hs.2.2.2.2.2.2.2
      have e : aM (aS! A (B (k + 1))) = [] := a0
      rw [e] at g
      exact g
    refine ⟨fun ct => bad fun q => ct q.1, fun ct => X3_readMarks_s os ok.1 (by omega) s0 bn hk (fun q _ _ _ => ⟨fun _ => bad fun g => q g.2, fun g => absurd rfl g⟩) (fun q1 m2 r2 f2 _ _ _ => ⟨fun g => absurd g (by decide), fun _ _ _ _ => ⟨fun _ => ?_, fun g => absurd g (by decide)⟩⟩)⟩
    rw [if_pos ⟨ct, q1⟩] at kk
    refine kk _ ?_ (fs.trans fun b i q1 q2 q3 q4 q5 => f2 b i (by omega) (by omega))
    obtain ⟨g1, g2, g3, g4, g5, g6, g7, g8⟩ := hs
    exact ⟨fun j hj => (f2 _ _ (by omega) (by omega)).trans (g1 j hj), by rw [f2 _ _ (by omega) (by omega)]; exact g2, (f2 _ _ (by omega) (by omega)).trans g3, (f2 _ _ (by omega) (by omega)).trans g4, (f2 _ _ (by omega) (by omega)).trans g5, (f2 _ _ (by omega) (by omega)).trans g6, by rw [f2 _ _ (by omega) (by omega), rowL.ext fun i _ => f2 _ _ (by omega) (by omega)]; exact g7, r2⟩
theorem X3_readAttributes_s {p e : Int} {N : Nat} {Q : mM → Prop} (o : oC μ B n) (ok : oOk B n) (p0 : 0 ≤ p) (en : e ≤ n) (hN : e - p ≤ (N : Int)) (h : maC μ A) (hI : maI A) (kk : ∀ m, maC m (atS B e N p A) → maI (atS B e N p A) → fAtC μ m → Q m) : WP_X3_readAttributes_W w μ p e Q := by
  intro _ _ _
  have n1 := ok.1
  refine loopF.im (fun x m => ∃ (A' : Ma) (N' : Nat), p ≤ x ∧ e - x ≤ (N' : Int) ∧ maC m A' ∧ maI A' ∧ atS B e N p A = atS B e N' x A' ∧ fAtC μ m) (fun x => (1003 - x).toNat) ⟨A, N, Int.le_refl _, hN, h, hI, rfl, fAtC.refl⟩ (by omega) ?_
  rintro rc x m ⟨A', N', x0, xN, hm, hI', ea, fm⟩ ih x' m' ee rx T F _ _ _
  cases ee
  rw [ea] at kk
  refine ⟨fun ce => ?_, fun ce b eb _ v ev rv z ez => ?_⟩
  · rw [atS.done ce] at kk
    exact kk m hm hI' fm
  have o' := o.fa fm
  have hb := o'.one eb
  subst hb
  rw [o'.2 x (by omega) (by omega)] at ev
  subst ev ez
  obtain ⟨N2, hN2⟩ : ∃ N2 : Nat, N' = N2 + 1 := ⟨N' - 1, by omega⟩
  subst hN2
  have bad : (e < x + hdX B x ∨ e < x + hdX B x + szX B x) → WP_X3_note_W w m 2 x (fun m1 => mT w m1 → mF [80999] w m m1 → Q m1) := fun hb => by
    rw [atS.bad ce hb] at kk
    exact X3_note2_s hm fm (by omega) fun m1 g1 g2 => kk m1 g1 hI'.bad g2
  have go : ∀ (d s : Int), hdX B x = d → szX B x = s → 0 ≤ s → x + d + s ≤ e → WP_X3_readAttribute_W w m x (x + d) s (fun m1 => mT w m1 → mF [76005, 76006, 76007, 76008, 77999, 78999, 79999, 80999, 200005, 200006, 200007, 201999] w m m1 → ∀ z595 : Int, m1 76 5 = z595 → ∀ z597 : Int, cnt m1 77 256 = z597 → rc (x + d + s, m1)) := by
    intro d s ed es s0 hl
    have d3 := (hdX.rg (B := B) (k := x)).1
    refine X3_readAttribute_s o' ok (by omega) (by omega) s0 (by omega) hm hI' fun m1 h1 f1 _ _ _ _ _ _ => ih _ _ ⟨atO B x (x + d) s A', N2, by omega, by omega, h1, hI'.step fun e1 => (ok.2 _ (by omega) (by omega)).1, ?_, fm.trans f1⟩ (by omega)
    rw [ea, atS.go ce (by omega), ed, es]
  refine ⟨fun c => ?_, fun c => ?_⟩
  · have ed : hdX B x = 3 := if_pos c
    refine ⟨fun c1 s es rs => ?_, fun c1 => bad (by omega)⟩
    rw [o'.2 (x + 2) (by omega) (by omega)] at es
    have es' : szX B x = s := (if_pos c).trans es
    exact ⟨fun c2 => go 3 s ed es' rs.1 c2, fun c2 => bad (by omega)⟩
  · have ed : hdX B x = 4 := if_neg c
    have es' : szX B x = pr2 B (x + 2) := if_neg c
    exact ⟨fun c1 => X3_pairAt_s o' (by omega) (by omega) fun rs => ⟨fun c2 => go 4 _ ed es' rs.1 c2, fun c2 => bad (by omega)⟩, fun c1 => bad (by omega)⟩
/-- what stands behind readParts -/
def rpC (m : mM) (l1 l2 : List (Int × Int)) (A : Ma) : Prop := m 80 1 = -99999999 ∧ m 76 13 = (l1.length : Int) ∧ m 76 14 = (l2.length : Int) ∧ (∀ j, j < l1.length + l2.length → m 84 j = getA (l1 ++ l2) j ∧ m 85 j = getL (l1 ++ l2) j) ∧ (¬ m 80 2 = -99999999 ↔ bakM A l2) ∧ m 81 5 = aR A ∧ m 81 6 = aC A ∧ rowL (m 82) (m 81 7).toNat = aW A ∧ mkC m (aM A)
/-- what readParts writes -/
def fpC (μ m : mM) : Prop := ∀ b i, ¬ (b = 76 ∧ ((5 ≤ i ∧ i ≤ 8) ∨ i = 13 ∨ i = 14)) → ¬ (77 ≤ b ∧ b ≤ 80) → ¬ (b = 81 ∧ 5 ≤ i ∧ i ≤ 7) → ¬ b = 82 → ¬ b = 84 → ¬ b = 85 → m b i = μ b i
theorem rpC.of {m m1 : mM} {l1 l2 : List (Int × Int)} (h : rpC m l1 l2 A) (f : ∀ b i, (b = 76 ∧ 5 ≤ i ∧ i ≤ 14) ∨ b = 79 ∨ (b = 80 ∧ (i = 1 ∨ i = 2)) ∨ (b = 81 ∧ 5 ≤ i ∧ i ≤ 7) ∨ b = 82 ∨ b = 84 ∨ b = 85 → m1 b i = m b i) : rpC m1 l1 l2 A := by
  obtain ⟨h1, h2, h3, h4, h5, h6, h7, h8, h9⟩ := h
  exact ⟨(f _ _ (by omega)).trans h1, (f _ _ (by omega)).trans h2, (f _ _ (by omega)).trans h3, fun j hj => by rw [f _ _ (by omega), f _ _ (by omega)]; exact h4 j hj, by rw [f _ _ (by omega)]; exact h5, (f _ _ (by omega)).trans h6, (f _ _ (by omega)).trans h7, by rw [f _ _ (by omega), rowL.ext fun i _ => f _ _ (by omega)]; exact h8, h9.of (f _ _ (by omega)) fun i => f _ _ (by omega)⟩
theorem rows.two {m : mM} {a b : Nat} {l1 l2 : List (Int × Int)} (h1 : ∀ j, j < l1.length → m a j = getA l1 j ∧ m b j = getL l1 j) (h2 : ∀ j, j < l2.length → m a (l1.length + j) = getA l2 j ∧ m b (l1.length + j) = getL l2 j) : ∀ j, j < l1.length + l2.length → m a j = getA (l1 ++ l2) j ∧ m b j = getL (l1 ++ l2) j := fun j hj => by
  unfold getA getL
  by_cases c : j < l1.length
  · rw [gtP.l c]; exact h1 j c
  · obtain ⟨i, hi⟩ : ∃ i, j = l1.length + i := ⟨j - l1.length, by omega⟩
    subst hi
    rw [gtP.r]; exact h2 i (by omega)
theorem X3_readParts_s {Q : mM → Prop} (o : oC μ B n) (ok : oOk B n) (n0 : 0 ≤ n) (h : maC μ A0) (h80 : μ 80 1 = -99999999)
    (k0 : ∀ m, msgS B n = M0 → ¬ m 80 1 = -99999999 → fpC μ m → Q m)
    (k1 : ∀ (l1 l2 : List (Int × Int)) (A : Ma) (m : mM), msgS B n = mkMs A l1 l2 → maI A → l1.length + l2.length ≤ 2000 → rpC m l1 l2 A → fpC μ m → Q m) : WP_X3_readParts_W w μ n Q := by
  intro _ _ _ _ _ _ _ _ _
  have n1 := ok.1
  have J1 : ∀ a : Int, (2 ≤ n → a = 2 + pr2 B 0) → WJ_X3_readParts_W_1 w μ n Q a := by
    intro a ha2 ra
    refine ⟨fun ca => ?_, fun ca => X3_note_s rfl (by omega) fun m h1 h2 _ _ => k0 m (if_pos ?_) h1 fun b i q1 q2 q3 q4 q5 q6 => h2 b i (by omega)⟩
    rotate_left 1
    · by_cases c : n < 2
      · exact Or.inl c
      · exact Or.inr (by rw [← ha2 (by omega)]; exact ca)
    have n2 : 2 ≤ n := by omega
    have ea := ha2 n2
    have eM : msgS B n = msg2 B n a := by
      rw [ea]
      exact if_neg (by omega)
    refine X3_readPrefixes_s (N := 1001) o ok (by omega) ca (by omega) (by omega) (by omega) ?_ ?_
    · intro ep z m hz h1 f1 _ _ rz m1 u1 _
      obtain rfl := u1.is
      have hm0 : msgS B n = M0 := by
        rw [eM]
        unfold msg2
        rw [ep]
      have bad1 : ∀ m2 : mM, ¬ m2 80 1 = -99999999 → fpC μ m2 → Q m2 := fun m2 g f => k0 m2 hm0 g f
      have f0 : fpC μ (mUp m 76 13 z) := fun b i q1 q2 q3 q4 q5 q6 => by
        rw [mUp.no (by omega)]
        exact f1 b i (by omega) q5 q6
      have g0 : ¬ mUp m 76 13 z 80 1 = -99999999 := by rw [mUp.no (by omega)]; exact h1
      have o1 : oC (mUp m 76 13 z) B n := o.of (f0 _ _ (by omega) (by omega) (by omega) (by omega) (by omega) (by omega)) fun i => f0 _ _ (by omega) (by omega) (by omega) (by omega) (by omega) (by omega)
      have hA : maC (mUp m 76 13 z) A0 := h.of fun b i q => by
        rw [mUp.no (by omega)]
        exact f1 b i (by omega) (by omega) (by omega)
      generalize mUp m 76 13 z = m3 at f0 g0 o1 hA ⊢
      have J2 : ∀ b : Int, a + 2 ≤ b → WJ_X3_readParts_W_2 w n Q a z m3 b := by
        intro b hab rb
        refine ⟨fun cb => ?_, fun cb => X3_note_s rfl (by omega) fun m4 h4 f4 _ _ => bad1 m4 h4 fun b i q1 q2 q3 q4 q5 q6 => (f4 b i (by omega)).trans (f0 b i q1 q2 q3 q4 q5 q6)⟩
        refine X3_readAttributes_s (N := 1001) o1 ok (by omega) cb (by omega) hA A0.ok fun m4 h4 _ f4 _ _ _ _ _ _ => ?_
        have g4 : ¬ m4 80 1 = -99999999 := by
          rw [f4 _ _ (by omega) (by omega) (by omega) (by omega) (by omega)]
          exact g0
        have fp4 : fpC μ m4 := fun b i q1 q2 q3 q4 q5 q6 => (f4 b i (by omega) (by omega) (by omega) (by omega) (by omega)).trans (f0 b i q1 q2 q3 q4 q5 q6)
        have fin : ∀ (z2 : Int) (m5 : mM), ¬ m5 80 1 = -99999999 → (∀ b i, ¬ (b = 80 ∧ i = 1) → ¬ b = 84 → ¬ b = 85 → m5 b i = m4 b i) → (mT w m5 → mF [80999, 84999, 85999] w m4 m5 → (0 ≤ z2 ∧ z2 ≤ 1000) → ∀ m6 : mM, mU m5 76 14 z2 m6 → mT w m6 → ((z2 ≤ 0) → Q m6) ∧ ((0 < z2) → ∀ z312 : Int, m6 76 7 = z312 → (0 ≤ z312 ∧ z312 ≤ 1) → ((z312 = 0) → WP_X3_note_W w m6 2 b (fun m7 => mT w m7 → mF [80999] w m6 m7 → Q m7)) ∧ ((¬ z312 = 0) → ∀ z337 : Int, m6 76 8 = z337 → (0 ≤ z337 ∧ z337 ≤ 1) → ((¬ z337 = 0) → Q m6) ∧ ((z337 = 0) → WP_X3_note_W w m6 2 b (fun m7 => mT w m7 → mF [80999] w m6 m7 → Q m7))))) := by
          intro z2 m5 g5 f5 _ _ _ m6 u6 _
          obtain rfl := u6.is
          have f6 : fpC μ (mUp m5 76 14 z2) := fun b i q1 q2 q3 q4 q5 q6 => by
            rw [mUp.no (by omega), f5 b i (by omega) q5 q6]
            exact fp4 b i q1 q2 q3 q4 q5 q6
          have g6 : ¬ mUp m5 76 14 z2 80 1 = -99999999 := by rw [mUp.no (by omega)]; exact g5
          generalize mUp m5 76 14 z2 = m6 at f6 g6 ⊢
          have nt : WP_X3_note_W w m6 2 b (fun m7 => mT w m7 → mF [80999] w m6 m7 → Q m7) := X3_note_s rfl (by omega) fun m7 _ f7 _ _ => bad1 m7 (by rw [f7 _ _ (by omega)]; exact g6) fun b i q1 q2 q3 q4 q5 q6 => (f7 b i (by omega)).trans (f6 b i q1 q2 q3 q4 q5 q6)
          exact ⟨fun _ => bad1 m6 g6 f6, fun _ _ _ _ => ⟨fun _ => nt, fun _ _ _ _ => ⟨fun _ => bad1 m6 g6 f6, fun _ => nt⟩⟩⟩
        exact X3_readPrefixes_s (N := 1001) (o1.fa f4) ok (by omega) (Int.le_refl _) rz.1 (by omega) (by omega) (fun _ z2 m5 _ g5 f5 => fin z2 m5 g5 f5) (fun l m5 _ _ f5 => fin _ m5 (by rw [f5 _ _ (by omega)]; exact g4) fun b i _ q2 q3 => f5 b i (by omega))
      exact ⟨fun _ => J2 _ (by omega), fun cb => X3_pairAt_s o1 (by omega) (by omega) fun rp => J2 _ (by omega)⟩
    · intro l1 m ep r1 f1 _ _ rz m1 u1 _
      obtain rfl := u1.is
      have f0 : ∀ b i, ¬ ((b = 84 ∨ b = 85)) → ¬ (b = 76 ∧ i = 13) → mUp m 76 13 (l1.length : Int) b i = μ b i := fun b i q1 q2 => by
        rw [mUp.no (by omega)]
        exact f1 b i (by omega)
      have o1 : oC (mUp m 76 13 (l1.length : Int)) B n := o.of (f0 _ _ (by omega) (by omega)) fun i => f0 _ _ (by omega) (by omega)
      have hA : maC (mUp m 76 13 (l1.length : Int)) A0 := h.of fun b i q => f0 b i (by omega) (by omega)
      have g0 : mUp m 76 13 (l1.length : Int) 80 1 = -99999999 := by rw [f0 _ _ (by omega) (by omega)]; exact h80
      have e13 : mUp m 76 13 (l1.length : Int) 76 13 = (l1.length : Int) := mUp.yes ⟨rfl, rfl⟩
      have r3 : ∀ j, j < l1.length → mUp m 76 13 (l1.length : Int) 84 j = getA l1 j ∧ mUp m 76 13 (l1.length : Int) 85 j = getL l1 j := fun j hj => by
        rw [mUp.no (by omega), mUp.no (by omega)]
        have g := r1 j hj
        rw [show (0 : Int).toNat + j = j from Nat.zero_add j] at g
        exact g
      have ln : (l1.length : Int) ≤ a := by
        rcases pfS.len (fun i h1 h2 => (ok.2 i (by omega) (by omega)).1) ep with g | g
        · omega
        · rw [g]
          show ((0 : Nat) : Int) ≤ a
          omega
      have eM2 : msgS B n = if n < a + 2 ∨ n < a + 2 + pr2 B a then M0 else msg3 B n a (a + 2 + pr2 B a) l1 := by
        rw [eM]
        unfold msg2
        rw [ep]
      generalize mUp m 76 13 (l1.length : Int) = m3 at f0 o1 hA g0 e13 r3 ⊢
      have fp3 : fpC μ m3 := fun b i q1 q2 q3 q4 q5 q6 => f0 b i (by omega) (by omega)
      have J2 : ∀ b : Int, a + 2 ≤ b → (n < a + 2 → n < b) → (a + 2 ≤ n → b = a + 2 + pr2 B a) → WJ_X3_readParts_W_2 w n Q a (l1.length : Int) m3 b := by
        intro b hab hb1 hb2 rb
        refine ⟨fun cb => ?_, fun cb => X3_note_s rfl (by omega) fun m4 h4 f4 _ _ => k0 m4 (eM2.trans (if_pos ?_)) h4 fun b i q1 q2 q3 q4 q5 q6 => (f4 b i (by omega)).trans (fp3 b i q1 q2 q3 q4 q5 q6)⟩
        rotate_left 1
        · by_cases c : n < a + 2
          · exact Or.inl c
          · exact Or.inr (by rw [← hb2 (by omega)]; exact cb)
        have ca2 : a + 2 ≤ n := by
          apply Classical.byContradiction
          intro q
          have := hb1 (by omega)
          omega
        have eb := hb2 ca2
        have eM3 : msgS B n = msg3 B n a b l1 := by
          rw [eM2, ← eb]
          exact if_neg (by omega)
        have ab : a + 2 ≤ b := hab
        refine X3_readAttributes_s (N := 1001) o1 ok (by omega) cb (by omega) hA A0.ok fun m4 h4 i4 f4 _ _ _ _ _ _ => ?_
        have fp4 : fpC μ m4 := fun b i q1 q2 q3 q4 q5 q6 => (f4 b i (by omega) (by omega) (by omega) (by omega) (by omega)).trans (fp3 b i q1 q2 q3 q4 q5 q6)
        refine X3_readPrefixes_s (N := 1001) (o1.fa f4) ok (by omega) (Int.le_refl _) (by omega) (by omega) (by omega) ?_ ?_
        · intro ep2 z2 m5 _ g5 f5 _ _ _ m6 u6 _
          obtain rfl := u6.is
          have hm0 : msgS B n = M0 := by
            rw [eM3]
            unfold msg3
            rw [ep2]
          have f6 : fpC μ (mUp m5 76 14 z2) := fun b i q1 q2 q3 q4 q5 q6 => by
            rw [mUp.no (by omega), f5 b i (by omega) q5 q6]
            exact fp4 b i q1 q2 q3 q4 q5 q6
          have g6 : ¬ mUp m5 76 14 z2 80 1 = -99999999 := by rw [mUp.no (by omega)]; exact g5
          generalize mUp m5 76 14 z2 = m6 at f6 g6 ⊢
          have nt : WP_X3_note_W w m6 2 b (fun m7 => mT w m7 → mF [80999] w m6 m7 → Q m7) := X3_note_s rfl (by omega) fun m7 _ f7 _ _ => k0 m7 hm0 (by rw [f7 _ _ (by omega)]; exact g6) fun b i q1 q2 q3 q4 q5 q6 => (f7 b i (by omega)).trans (f6 b i q1 q2 q3 q4 q5 q6)
          exact ⟨fun _ => k0 m6 hm0 g6 f6, fun _ _ _ _ => ⟨fun _ => nt, fun _ _ _ _ => ⟨fun _ => k0 m6 hm0 g6 f6, fun _ => nt⟩⟩⟩
        · intro l2 m5 ep2 r5 f5 _ _ _ m6 u6 _
          obtain rfl := u6.is
          have hm1 : msgS B n = mkMs (atS B b 1001 (a + 2) A0) l1 l2 := by
            rw [eM3]
            unfold msg3
            rw [ep2]
          generalize atS B b 1001 (a + 2) A0 = A at hm1 h4 i4
          have ln2 : l1.length + l2.length ≤ 2000 := by
            rcases pfS.len (fun i h1 h2 => (ok.2 i (by omega) (by omega)).1) ep2 with g | g
            · omega
            · rw [g]
              show l1.length + 0 ≤ 2000
              omega
          have f6 : ∀ b' i, ¬ ((b' = 84 ∨ b' = 85) ∧ l1.length ≤ i) → ¬ (b' = 76 ∧ i = 14) → mUp m5 76 14 (l2.length : Int) b' i = m4 b' i := fun b' i q1 q2 => by
            rw [mUp.no (by omega)]
            exact f5 b' i (by rw [Int.toNat_natCast]; exact q1)
          have fp6 : fpC μ (mUp m5 76 14 (l2.length : Int)) := fun b i q1 q2 q3 q4 q5 q6 => (f6 b i (by omega) (by omega)).trans (fp4 b i q1 q2 q3 q4 q5 q6)
          have e14 : mUp m5 76 14 (l2.length : Int) 76 14 = (l2.length : Int) := mUp.yes ⟨rfl, rfl⟩
          have r6 : ∀ j, j < l2.length → mUp m5 76 14 (l2.length : Int) 84 (l1.length + j) = getA l2 j ∧ mUp m5 76 14 (l2.length : Int) 85 (l1.length + j) = getL l2 j := fun j hj => by
            rw [mUp.no (by omega), mUp.no (by omega)]
            have g := r5 j hj
            rw [Int.toNat_natCast] at g
            exact g
          have h6 : maC (mUp m5 76 14 (l2.length : Int)) A := h4.of fun b i q => f6 b i (by omega) (by omega)
          have e1 : mUp m5 76 14 (l2.length : Int) 80 1 = -99999999 := by
            rw [f6 _ _ (by omega) (by omega), f4 _ _ (by omega) (by omega) (by omega) (by omega) (by omega)]
            exact g0
          have e13' : mUp m5 76 14 (l2.length : Int) 76 13 = (l1.length : Int) := by
            rw [f6 _ _ (by omega) (by omega), f4 _ _ (by omega) (by omega) (by omega) (by omega) (by omega)]
            exact e13
          have r7 : ∀ j, j < l1.length → mUp m5 76 14 (l2.length : Int) 84 j = getA l1 j ∧ mUp m5 76 14 (l2.length : Int) 85 j = getL l1 j := fun j hj => by
            rw [f6 _ _ (by omega) (by omega), f6 _ _ (by omega) (by omega), f4 _ _ (by omega) (by omega) (by omega) (by omega) (by omega), f4 _ _ (by omega) (by omega) (by omega) (by omega) (by omega)]
            exact r3 j hj
          generalize mUp m5 76 14 (l2.length : Int) = m6 at fp6 e14 r6 h6 e1 e13' r7 ⊢
          obtain ⟨g1, g2, g3, g4, g5, g6, g7, g8⟩ := h6
          have rp : (¬ m6 80 2 = -99999999 ↔ bakM A l2) → rpC m6 l1 l2 A := fun hb => ⟨e1, e13', e14, rows.two r7 r6, hb, g5, g6, g7, g8⟩
          have nt : ¬ l2 = [] → (aO A = 0 ∨ aY A = 0) → WP_X3_note_W w m6 2 b (fun m7 => mT w m7 → mF [80999] w m6 m7 → Q m7) := fun q1 q2 => X3_note_s rfl (by omega) fun m7 n7 f7 _ _ => k1 l1 l2 A m7 hm1 i4 ln2 ⟨(f7 _ _ (by omega)).trans e1, (f7 _ _ (by omega)).trans e13', (f7 _ _ (by omega)).trans e14, rows.two (fun j hj => by rw [f7 _ _ (by omega), f7 _ _ (by omega)]; exact r7 j hj) (fun j hj => by rw [f7 _ _ (by omega), f7 _ _ (by omega)]; exact r6 j hj), ⟨fun _ => Or.inr ⟨q1, q2⟩, fun _ => n7⟩, (f7 _ _ (by omega)).trans g5, (f7 _ _ (by omega)).trans g6, by rw [f7 _ _ (by omega), rowL.ext fun i _ => f7 _ _ (by omega)]; exact g7, g8.of (f7 _ _ (by omega)) fun i => f7 _ _ (by omega)⟩ fun b i q1 q2 q3 q4 q5 q6 => (f7 b i (by omega)).trans (fp6 b i q1 q2 q3 q4 q5 q6)
          have ne : 0 < (l2.length : Int) → ¬ l2 = [] := fun q e => by
            rw [e] at q
            exact absurd q (by decide)
          refine ⟨fun c => k1 l1 l2 A m6 hm1 i4 ln2 (rp ?_) fp6, fun c v ev rv => ⟨fun cv => nt (ne c) (Or.inl (g3.symm.trans (ev.trans cv))), fun cv v2 ev2 rv2 => ⟨fun cv2 => k1 l1 l2 A m6 hm1 i4 ln2 (rp ?_) fp6, fun cv2 => nt (ne c) (Or.inr (g4.symm.trans (ev2.trans cv2)))⟩⟩⟩
          · have l0 : l2 = [] := List.length_eq_zero_iff.mp (by omega)
            exact ⟨fun q => Or.inl fun q2 => q (g2.mpr q2), fun q => by
              rcases q with q | q
              · exact fun q2 => q (g2.mp q2)
              · exact absurd l0 q.1⟩
          · exact ⟨fun q => Or.inl fun q2 => q (g2.mpr q2), fun q => by
              rcases q with q | ⟨_, q | q⟩
              · exact fun q2 => q (g2.mp q2)
              · exact absurd (ev.symm.trans (g3.trans q)) cv
              · exact absurd (ev2.symm.trans (g4.trans q)) cv2⟩
      exact ⟨fun cb => J2 _ (by omega) (fun q => q) (fun q => by omega), fun cb => X3_pairAt_s o1 (by omega) (by omega) fun rp => J2 _ (by omega) (fun q => by omega) fun _ => rfl⟩
  exact ⟨fun c => J1 2 fun q => by omega, fun c => X3_pairAt_s o (by omega) (by omega) fun _ => J1 _ fun _ => rfl⟩
theorem X3_forget_s {Q : mM → Prop} (k : ∀ m, maC m A0 → m 80 1 = -99999999 → m 76 16 = 0 → rtC m 81 = some (0, 100, 0, 0, [], []) → (∀ b i, ¬ (b = 76 ∧ 5 ≤ i ∧ i ≤ 16) → ¬ b = 77 → ¬ b = 80 → ¬ (81 ≤ b ∧ b ≤ 83) → m b i = μ b i) → Q m) : WP_X3_forget_Wz w μ Q := by
  intro m1 u1 _ m2 u2 _
  refine X7_begin_s fun m3 r3 o3 _ _ m4 u4 _ m5 u5 _ m6 u6 _ m7 u7 _ m8 u8 _ m9 u9 _ m10 u10 _ => ?_
  obtain rfl := u4.is
  obtain rfl := u5.is
  obtain rfl := u6.is
  obtain rfl := u7.is
  obtain rfl := u8.is
  obtain rfl := u9.is
  obtain rfl := u10.is
  have f : ∀ b i, ¬ b = 76 → mUp (mUp (mUp (mUp (mUp (mUp (mUp m3 76 5 0) 76 6 0) 76 7 0) 76 8 0) 76 13 0) 76 14 0) 76 16 0 b i = m3 b i := fun b i q => by rw [mUp.no (by omega), mUp.no (by omega), mUp.no (by omega), mUp.no (by omega), mUp.no (by omega), mUp.no (by omega), mUp.no (by omega)]
  have f7 : ∀ b i, ¬ (b = 76 ∧ 5 ≤ i ∧ i ≤ 16) → ¬ b = 77 → ¬ b = 80 → ¬ (81 ≤ b ∧ b ≤ 83) → mUp (mUp (mUp (mUp (mUp (mUp (mUp m3 76 5 0) 76 6 0) 76 7 0) 76 8 0) 76 13 0) 76 14 0) 76 16 0 b i = μ b i := fun b i q1 q2 q3 q4 => by
    rw [mUp.no (by omega), mUp.no (by omega), mUp.no (by omega), mUp.no (by omega), mUp.no (by omega), mUp.no (by omega), mUp.no (by omega), o3 b i (by omega) (by omega) (by omega), u2.1 b i q2]
    exact u1.1 b i q3
  have e6 : mUp (mUp (mUp (mUp (mUp (mUp (mUp m3 76 5 0) 76 6 0) 76 7 0) 76 8 0) 76 13 0) 76 14 0) 76 16 0 76 6 = 0 := by rw [mUp.no (by omega), mUp.no (by omega), mUp.no (by omega), mUp.no (by omega), mUp.no (by omega), mUp.yes ⟨rfl, rfl⟩]
  have e7 : mUp (mUp (mUp (mUp (mUp (mUp (mUp m3 76 5 0) 76 6 0) 76 7 0) 76 8 0) 76 13 0) 76 14 0) 76 16 0 76 7 = 0 := by rw [mUp.no (by omega), mUp.no (by omega), mUp.no (by omega), mUp.no (by omega), mUp.yes ⟨rfl, rfl⟩]
  have e8 : mUp (mUp (mUp (mUp (mUp (mUp (mUp m3 76 5 0) 76 6 0) 76 7 0) 76 8 0) 76 13 0) 76 14 0) 76 16 0 76 8 = 0 := by rw [mUp.no (by omega), mUp.no (by omega), mUp.no (by omega), mUp.yes ⟨rfl, rfl⟩]
  have e16 : mUp (mUp (mUp (mUp (mUp (mUp (mUp m3 76 5 0) 76 6 0) 76 7 0) 76 8 0) 76 13 0) 76 14 0) 76 16 0 76 16 = 0 := mUp.yes ⟨rfl, rfl⟩
  generalize mUp (mUp (mUp (mUp (mUp (mUp (mUp m3 76 5 0) 76 6 0) 76 7 0) 76 8 0) 76 13 0) 76 14 0) 76 16 0 = m at f f7 e6 e7 e8 e16 ⊢
  have n80 : ∀ i, i < 4 → m 80 i = -99999999 := fun i hi => by
    rw [f _ _ (by omega), o3 _ _ (by omega) (by omega) (by omega), u2.1 _ _ (by omega)]
    exact u1.2 i hi
  have rt : rtC m 81 = some (0, 100, 0, 0, [], []) := by
    rw [← r3]
    exact rtC.of (fun i => f _ _ (by omega)) (fun i => f _ _ (by omega)) (fun i => f _ _ (by omega))
  obtain ⟨_, eq⟩ := rtC.get rt
  refine k m ⟨fun j hj => ?_, ⟨fun _ => rfl, fun _ => n80 2 (by omega)⟩, e7, e8, ?_, ?_, ?_, ⟨[], by rw [e6]; rfl, rfl, fun _ => Iff.rfl, rfl⟩⟩ (n80 1 (by omega)) e16 rt f7
  · rw [f _ _ (by omega), o3 _ _ (by omega) (by omega) (by omega)]
    exact u2.2 j hj
  · exact (congrArg (fun r : Rt => r.2.2.1) eq).symm
  · exact (congrArg (fun r : Rt => r.2.2.2.1) eq).symm
  · exact (congrArg (fun r : Rt => r.2.2.2.2.1) eq).symm
theorem rowL.mks {f : Nat → Int} : ∀ t : Nat, srt ((rowL f t).foldl addM [])
  | 0 => List.Pairwise.nil
  | t + 1 => by
    rw [rowL.succ, List.foldl_append]
    exact addM.srt (rowL.mks t)
theorem mkMs.bak {A : Ma} {l1 l2 : List (Int × Int)} (h : bakM A l2) : uW (mkMs A l1 l2) = l1.length + l2.length ∧ uA (mkMs A l1 l2) = 0 := ⟨cIf.pos h, cIf.pos h⟩
theorem mkMs.not {A : Ma} {l1 l2 : List (Int × Int)} (h : ¬ bakM A l2) : uW (mkMs A l1 l2) = l1.length ∧ uA (mkMs A l1 l2) = l2.length := ⟨cIf.neg h, cIf.neg h⟩
theorem mkMs.sum {A : Ma} {l1 l2 : List (Int × Int)} : uW (mkMs A l1 l2) + uA (mkMs A l1 l2) = l1.length + l2.length := by
  by_cases c : bakM A l2
  · rw [(mkMs.bak c).1, (mkMs.bak c).2, Nat.add_zero]
  · rw [(mkMs.not c).1, (mkMs.not c).2]
theorem mkMs.ok {A : Ma} {l1 l2 : List (Int × Int)} (h : maI A) (ln : l1.length + l2.length ≤ 2000) : msX (mkMs A l1 l2) := fun _ => ⟨h.2.2.2.2.2.2.1, h.2.2.2.2.2.1, h.2.2.2.2.2.2.2, ⟨⟨by show (0 : Int) ≤ 100; decide, by show (100 : Int) ≤ 1000; decide⟩, h.2.2.2.1, h.2.2.2.2.1⟩, by rw [mkMs.sum]; exact ln⟩
theorem M0.ok : msX M0 := fun h => absurd rfl h
theorem X3_read_s {Q : Int → mM → Prop} (tp : ∀ i : Int, 0 ≤ i → i < n → μ 1 i.toNat = B i) (ok : oOk B n) (n0 : 0 ≤ n) (k : ∀ (z : Int) (m : mM), msC m (msgS B n) → msX (msgS B n) → (∀ b i, ¬ (76 ≤ b ∧ b ≤ 85) → m b i = μ b i) → Q z m) : WP_X3_read_W w μ n Q := by
  intro m0 u0 _
  obtain rfl := u0.is
  refine X3_forget_s fun m1 h1 e80 e16 r1 f1 _ _ _ _ _ _ _ _ => ?_
  have f1' : ∀ b i, ¬ (76 ≤ b ∧ b ≤ 83) → m1 b i = μ b i := fun b i q => by
    rw [f1 b i (by omega) (by omega) (by omega) (by omega), mUp.no (by omega)]
  have o1 : oC m1 B n := ⟨(f1 _ _ (by omega) (by omega) (by omega) (by omega)).trans (mUp.yes ⟨rfl, rfl⟩), fun i h0 h1 => by rw [f1' _ _ (by omega)]; exact tp i h0 h1⟩
  refine X3_readParts_s o1 ok n0 h1 e80 ?_ ?_
  · intro m eM g f _ _ _ _ _ _ v ev rv
    refine ⟨fun c => absurd (ev.trans c) g, fun _ => ?_⟩
    rw [eM] at k
    exact k 1 m ⟨(f _ _ (by omega) (by omega) (by omega) (by omega) (by omega) (by omega)).trans e16, fun q => absurd rfl q⟩ M0.ok fun b i q => (f b i (by omega) (by omega) (by omega) (by omega) (by omega) (by omega)).trans (f1' b i (by omega))
  · intro l1 l2 A m eM hI ln ⟨p1, p2, p3, p4, p5, p6, p7, p8, p9⟩ f _ _ z31 e31 z33 e33 v ev rv
    refine ⟨fun _ m2 u2 _ m3 u3 _ => ?_, fun c => absurd (ev.symm.trans p1) c⟩
    obtain rfl := u2.is
    obtain rfl := u3.is
    rw [eM] at k
    obtain ⟨L, q1, q2, q3, q4⟩ := p9
    have f3 : ∀ b i, ¬ (b = 76 ∧ i = 16) → ¬ (b = 81 ∧ i = 8) → mUp (mUp m 76 16 1) 81 8 0 b i = m b i := fun b i g1 g2 => by rw [mUp.no (by omega), mUp.no (by omega)]
    have e8 : mUp (mUp m 76 16 1) 81 8 0 81 8 = 0 := mUp.yes ⟨rfl, rfl⟩
    have e16' : mUp (mUp m 76 16 1) 81 8 0 76 16 = 1 := by rw [mUp.no (by omega), mUp.yes ⟨rfl, rfl⟩]
    generalize mUp (mUp m 76 16 1) 81 8 0 = m3 at f3 e8 e16' ⊢
    have r79 : rowL (m3 79) (m3 76 6).toNat = L := by
      rw [f3 _ _ (by omega) (by omega), rowL.ext (f := m 79) fun i _ => f3 _ _ (by omega) (by omega)]
      exact q1
    refine loopF.im (fun i m4 => ∃ t : Nat, i = (t : Int) ∧ (i ≤ m3 76 6 ∨ t = 0) ∧ rowL (m4 83) (m4 81 8).toNat = (rowL (m3 79) t).foldl addM [] ∧ ∀ b j, ¬ (b = 81 ∧ j = 8) → ¬ b = 83 → m4 b j = m3 b j) (fun i => (9 - i).toNat) ⟨0, rfl, Or.inr rfl, by rw [e8]; rfl, fun _ _ _ _ => rfl⟩ (by omega) ?_
    rintro rc i m4 ⟨t, ei, ht, hr, f4⟩ ih i' m' ee ri T F c ec rcc
    cases ee
    subst ei
    rw [f4 _ _ (by omega) (by omega)] at ec
    refine ⟨fun ce => ?_, fun ce x ex _ => X7_addMark_s (by rw [show 81 + 2 = 83 from rfl, hr]; exact rowL.mks t) fun m5 r5 f5 _ _ => ih _ _ ⟨t + 1, by omega, Or.inl (by omega), ?_, fun b j g1 g2 => (f5 b j g1 g2).trans (f4 b j g1 g2)⟩ (by omega)⟩
    · have et : t = (m3 76 6).toNat := by omega
      have hm : rowL (m4 83) (m4 81 8).toNat = aM A := by rw [hr, et, r79]; exact q2
      have g4 : ∀ b j, ¬ (b = 76 ∧ j = 16) → ¬ (b = 81 ∧ j = 8) → ¬ b = 83 → m4 b j = m b j := fun b j g1 g2 g3 => (f4 b j g2 g3).trans (f3 b j g1 g2)
      obtain ⟨_, eq⟩ := rtC.get r1
      have fin : ∀ m5 : mM, (∀ b j, ¬ (b = 76 ∧ (j = 13 ∨ j = 14)) → m5 b j = m4 b j) → m5 76 13 = (uW (mkMs A l1 l2) : Int) → m5 76 14 = (uA (mkMs A l1 l2) : Int) → msC m5 (mkMs A l1 l2) := by
        intro m5 f5 w1 w2
        have g5 : ∀ b j, ¬ (b = 76 ∧ (j = 13 ∨ j = 14 ∨ j = 16)) → ¬ (b = 81 ∧ j = 8) → ¬ b = 83 → m5 b j = m b j := fun b j g1 g2 g3 => (f5 b j (by omega)).trans (g4 b j (by omega) g2 g3)
        refine ⟨?_, fun _ => ⟨w1, w2, fun j hj => ?_, ?_⟩⟩
        · rw [f5 _ _ (by omega), f4 _ _ (by omega) (by omega)]
          exact e16'
        · rw [mkMs.sum] at hj
          rw [g5 _ _ (by omega) (by omega) (by omega), g5 _ _ (by omega) (by omega) (by omega)]
          exact p4 j hj
        · have t2 : ¬ m5 81 2 = 0 := by
            rw [g5 _ _ (by omega) (by omega) (by omega), f _ _ (by omega) (by omega) (by omega) (by omega) (by omega) (by omega)]
            exact (rtC.get r1).1
          have t3 : m5 81 3 = 0 := by
            rw [g5 _ _ (by omega) (by omega) (by omega), f _ _ (by omega) (by omega) (by omega) (by omega) (by omega) (by omega)]
            exact (congrArg (fun r : Rt => r.1) eq).symm
          have t4 : m5 81 4 = 100 := by
            rw [g5 _ _ (by omega) (by omega) (by omega), f _ _ (by omega) (by omega) (by omega) (by omega) (by omega) (by omega)]
            exact (congrArg (fun r : Rt => r.2.1) eq).symm
          have t5 : m5 81 5 = aR A := by rw [g5 _ _ (by omega) (by omega) (by omega)]; exact p6
          have t6 : m5 81 6 = aC A := by rw [g5 _ _ (by omega) (by omega) (by omega)]; exact p7
          have t7 : rowL (m5 82) (m5 81 7).toNat = aW A := by
            rw [g5 _ _ (by omega) (by omega) (by omega), rowL.ext (f := m 82) fun i _ => g5 _ _ (by omega) (by omega) (by omega)]
            exact p8
          have t8 : rowL (m5 83) (m5 81 8).toNat = aM A := by
            rw [f5 _ _ (by omega), rowL.ext (f := m4 83) fun i _ => f5 _ _ (by omega)]
            exact hm
          rw [rtC.the t2, t3, t4, t5, t6]
          show some (0, 100, aR A, aC A, rowL (m5 82) (m5 81 7).toNat, rowL (m5 83) (m5 81 8).toNat) = some (0, 100, aR A, aC A, aW A, aM A)
          rw [t7, t8]
      have fr : ∀ m5 : mM, (∀ b j, ¬ (b = 76 ∧ (j = 13 ∨ j = 14)) → m5 b j = m4 b j) → ∀ b i, ¬ (76 ≤ b ∧ b ≤ 85) → m5 b i = μ b i := fun m5 f5 b i q => by
        rw [f5 b i (by omega), g4 b i (by omega) (by omega) (by omega), f b i (by omega) (by omega) (by omega) (by omega) (by omega) (by omega)]
        exact f1' b i (by omega)
      intro v2 ev2 rv2
      have ev2' : m 80 2 = v2 := by
        rw [← ev2]
        exact (g4 80 2 (by omega) (by omega) (by omega)).symm
      refine ⟨fun c2 => ?_, fun c2 m5 u5 _ m6 u6 _ => ?_⟩
      · have nb : ¬ bakM A l2 := fun q => (p5.mpr q) (ev2'.trans c2)
        have done := fin m4 (fun _ _ _ => rfl) (by rw [g4 _ _ (by omega) (by omega) (by omega), p2, (mkMs.not nb).1]) (by rw [g4 _ _ (by omega) (by omega) (by omega), p3, (mkMs.not nb).2])
        exact fun v3 ev3 rv3 => ⟨fun _ => k 0 m4 done (mkMs.ok hI ln) (fr m4 fun _ _ _ => rfl), fun _ => k 3 m4 done (mkMs.ok hI ln) (fr m4 fun _ _ _ => rfl)⟩
      · obtain rfl := u5.is
        obtain rfl := u6.is
        have yb : bakM A l2 := p5.mp fun q => c2 (ev2'.symm.trans q)
        have f6 : ∀ b j, ¬ (b = 76 ∧ (j = 13 ∨ j = 14)) → mUp (mUp m4 76 13 (z31 + z33)) 76 14 0 b j = m4 b j := fun b j q => by rw [mUp.no (by omega), mUp.no (by omega)]
        refine k 2 _ (fin _ f6 ?_ ?_) (mkMs.ok hI ln) (fr _ f6)
        · rw [mUp.no (by omega), mUp.yes ⟨rfl, rfl⟩, (mkMs.bak yb).1]
          omega
        · have w2 : uA (mkMs A l1 l2) = 0 := (mkMs.bak yb).2
          rw [w2]
          exact mUp.yes ⟨rfl, rfl⟩
    · have r5' : rowL (m5 83) (m5 81 8).toNat = addM (rowL (m4 83) (m4 81 8).toNat) x := r5
      rw [r5', hr, rowL.succ, List.foldl_append]
      rw [f4 _ _ (by omega) (by omega), Int.toNat_natCast] at ex
      rw [ex]
      rfl
theorem X11_message_s {Q : Int → mM → Prop} (e10 : μ 0 10 = n) (tp : ∀ i : Int, 0 ≤ i → i < n → μ 1 i.toNat = B i) (ok : oOk B n) (n0 : 0 ≤ n) (k : ∀ (z : Int) (m : mM), msC m (msgS B n) → msX (msgS B n) → (∀ b i, ¬ (b = 0 ∧ i = 10) → ¬ (76 ≤ b ∧ b ≤ 85) → m b i = μ b i) → m 0 10 = 0 → Q z m) : WP_X11_message_W w μ Q := by
  intro v ev _
  rw [e10] at ev
  subst ev
  refine X3_read_s tp ok n0 fun z m h1 h2 f _ _ _ _ _ _ _ m1 u1 _ => ?_
  obtain rfl := u1.is
  exact k z _ (h1.of fun b i hb => mUp.no (by omega)) h2 (fun b i q1 q2 => by rw [mUp.no (by omega)]; exact f b i q2) (mUp.yes ⟨rfl, rfl⟩)
end MsgC
