section
/-! A message: the reference reads it. -/
theorem nx31 {a : Nat} (h : a < 2147483648) : a ^^^ 2147483648 = 2147483648 + a := by
  apply Nat.eq_of_testBit_eq
  intro i
  rw [Nat.testBit_xor, show (2147483648 : Nat) = 2 ^ 31 from rfl, Nat.testBit_two_pow]
  have h : a < 2 ^ 31 := h
  by_cases c : i = 31
  · subst c
    rw [Nat.testBit_two_pow_add_eq, Nat.testBit_lt_two_pow h]
    rfl
  · by_cases c2 : i < 31
    · rw [Nat.testBit_two_pow_add_gt c2, decide_eq_false (fun e => c e.symm), Bool.xor_false]
    · have p1 : 2 ^ 32 ≤ 2 ^ i := Nat.pow_le_pow_right (by decide) (by omega)
      have p2 : (2 : Nat) ^ 32 = 2 ^ 31 + 2 ^ 31 := rfl
      rw [Nat.testBit_lt_two_pow (show a < 2 ^ i by omega), Nat.testBit_lt_two_pow (show 2 ^ 31 + a < 2 ^ i by omega), decide_eq_false (fun e => c e.symm)]
      rfl
theorem nx31b {a : Nat} (h : a < 2147483648) : (2147483648 + a) ^^^ 2147483648 = a := by
  rw [← nx31 h, Nat.xor_assoc, Nat.xor_self, Nat.xor_zero]
theorem bXor.min {x : Int} (h : -2147483648 ≤ x ∧ x ≤ 2147483647) : bXor x (-2147483648) = if x < 0 then x + 2147483648 else x - 2147483648 := by
  have e : bXor x (-2147483648) = (BitVec.ofInt 32 x ^^^ BitVec.ofInt 32 (-2147483648)).toInt := rfl
  have e2 : (BitVec.ofInt 32 (-2147483648)).toNat = 2147483648 := rfl
  have e3 : ((2 ^ 32 : Nat) : Int) = 4294967296 := rfl
  have e4 : (2 ^ 32 : Nat) = 4294967296 := rfl
  rw [e, BitVec.toInt_eq_toNat_cond, BitVec.toNat_xor, BitVec.toNat_ofInt, e2]
  by_cases c : x < 0
  · have eN : (x % ((2 ^ 32 : Nat) : Int)).toNat = 2147483648 + (x + 2147483648).toNat := by
      rw [e3]
      omega
    rw [eN, nx31b (by omega), if_pos c, if_pos (by rw [e4]; omega)]
    omega
  · have eN : (x % ((2 ^ 32 : Nat) : Int)).toNat = x.toNat := by
      rw [e3]
      omega
    rw [eN, nx31 (by omega), if_neg c, if_neg (by rw [e4]; omega), e3]
    omega
def oR (μ : mM) (B : Int → Int) (n : Int) : Prop := μ 106 1 = n ∧ ∀ i : Int, 0 ≤ i → i < n → bAnd (μ 107 i.toNat) 255 = B i
def mkR (μ : mM) (S : List Int) : Prop := rowL (fun k => μ 126 (40 * (24 : Int) + 26 + (k : Int)).toNat) (μ 126 (40 * (24 : Int) + 5).toNat).toNat = S ∧ μ 106 101 = (S.length : Int)
def maR (μ : mM) (A : Ma) : Prop := (∀ j : Nat, j < 256 → μ 171 j = aS A (j : Int)) ∧ (μ 172 2 = -99999999 ↔ aF A = 0) ∧ μ 106 98 = aO A ∧ μ 106 99 = aY A ∧ μ 126 962 = aR A ∧ μ 126 963 = aC A ∧ rowL (fun k => μ 126 (966 + k)) (μ 126 964).toNat = aW A ∧ mkR μ (aM A)
def fAtR (μ m : mM) : Prop := ∀ b i, ¬ (b = 106 ∧ (i = 93 ∨ i = 98 ∨ i = 99 ∨ i = 101)) → ¬ (b = 126 ∧ 962 ≤ i ∧ i < 1000) → ¬ (170 ≤ b ∧ b ≤ 173 ∧ ¬ (b = 172 ∧ i = 1)) → m b i = μ b i
theorem fAtR.refl {μ : mM} : fAtR μ μ := fun _ _ _ _ _ => rfl
theorem fAtR.trans {μ m m1 : mM} (h : fAtR μ m) (g : fAtR m m1) : fAtR μ m1 := fun b i h1 h2 h3 => (g b i h1 h2 h3).trans (h b i h1 h2 h3)
section MsgR
variable {w : mW} {μ : mM} {B : Int → Int} {n : Int} {A : Ma}
theorem oR.of {m : mM} (h : oR μ B n) (e : m 106 1 = μ 106 1) (e1 : ∀ i, m 107 i = μ 107 i) : oR m B n := ⟨e.trans h.1, fun i h0 h1 => by rw [e1]; exact h.2 i h0 h1⟩
theorem oR.fa {m : mM} (h : oR μ B n) (f : fAtR μ m) : oR m B n := h.of (f _ _ (by omega) (by omega) (by omega)) fun i => f _ _ (by omega) (by omega) (by omega)
theorem X12_byteIn_s {p : Int} {Q : Int → mM → Prop} (o : oR μ B n) (h0 : 0 ≤ p) (h1 : p < n) (k : Q (B p) μ) : WP_X12_byteAt_Win w μ p Q := by
  intro f _ _ z ez _ y ey
  subst ez
  rw [o.2 p h0 h1] at ey
  subst ey
  exact k
theorem X12_byteF_s {p : Int} {Q : Int → mM → Prop} (o : oR μ B n) (h0 : 0 ≤ p) (h1 : p < n) (k : Q (B p) μ) : WP_X12_byteAt_Wf w μ p Q := by
  intro f _ _ z ez _ y ey
  subst ez
  rw [o.2 p h0 h1] at ey
  subst ey
  exact k
theorem X12_byteAt_s {p : Int} {Q : Int → mM → Prop} (o : oR μ B n) (h0 : 0 ≤ p) (h1 : p < n) (k : Q (B p) μ) : WP_X12_byteAt_W w μ p Q := by
  intro f ef _
  have e1 := o.1
  refine ⟨fun c => absurd c (by omega), fun _ z ez _ y ey => ?_⟩
  subst ez
  rw [o.2 p h0 h1] at ey
  subst ey
  exact k
theorem X12_number_s {p q : Int} {c : Nat} {Q : Int → mM → Prop} (o : oR μ B n) (hq : q = (c : Int)) (p0 : 0 ≤ p) (h1 : p + (c : Int) ≤ n) (c1 : 1 ≤ c) (c4 : c ≤ 4) (k : Q (nmX B p c) μ) : WP_X12_number_W w μ p q Q := by
  subst hq
  intro f _ _
  refine ⟨fun q => absurd q (by omega), fun _ z1 e1 => X12_byteIn_s o (by omega) (by omega) fun _ z2 e2 => ⟨fun q => ?_, fun q z3 e3 => X12_byteIn_s o (by omega) (by omega) fun _ z4 e4 => ?_⟩⟩
  · subst e1 e2
    have e : c = 1 := by omega
    subst e
    exact k
  · subst e1 e2 e3 e4
    refine loopF.ii (fun v i => 2 ≤ i ∧ i ≤ (c : Int) ∧ v = nmX B p i.toNat) (fun _ i => (4 - i).toNat) ⟨by omega, by omega, rfl⟩ (by omega) ?_
    rintro rc v i ⟨i0, i1, hv⟩ ih v' i' ee rv ri
    cases ee
    refine ⟨fun q => ?_, fun q z5 e5 => X12_byteIn_s o (by omega) (by omega) fun _ z6 e6 => ih _ _ ⟨by omega, by omega, ?_⟩ (by omega)⟩
    · rw [show i.toNat = c by omega] at hv
      rw [hv]
      exact k
    · subst e5 e6
      rw [hv, show (i + 1).toNat = i.toNat + 1 by omega]
      show _ = bOr (bShl (nmX B p i.toNat) 8) (B (p + ((i.toNat : Nat) : Int)))
      rw [Int.toNat_of_nonneg (by omega)]
theorem X12_numberF_s {p q : Int} {c : Nat} {Q : Int → mM → Prop} (o : oR μ B n) (hq : q = (c : Int)) (p0 : 0 ≤ p) (h1 : p + (c : Int) ≤ n) (c1 : 1 ≤ c) (c4 : c ≤ 4) (k : Q (nmX B p c) μ) : WP_X12_number_Wf w μ p q Q := X12_number_s (w := w) o hq p0 h1 c1 c4 k
theorem X12_number2_s {p q : Int} {c : Nat} {Q : Int → mM → Prop} (o : oR μ B n) (hq : q = (c : Int)) (p0 : 0 ≤ p) (h1 : p + (c : Int) ≤ n) (c1 : 1 ≤ c) (c2 : c ≤ 2) (k : Q (nmX B p c) μ) : WP_X12_number_Wf2 w μ p q Q := by
  subst hq
  intro f _ _
  refine ⟨fun q => absurd q (by omega), fun _ z1 e1 => X12_byteF_s o (by omega) (by omega) fun _ z2 e2 => ⟨fun q => ?_, fun q z3 e3 => X12_byteF_s o (by omega) (by omega) fun _ z4 e4 => ?_⟩⟩
  · subst e1 e2
    have e : c = 1 := by omega
    subst e
    exact k
  · subst e1 e2 e3 e4
    have e : c = 2 := by omega
    subst e
    exact k
theorem X12_fails_s {p q : Int} {i : Nat} {Q : mM → Prop} (hi : p.toNat = i) (hq : 0 ≤ q) (k : ∀ m, ¬ m 172 i = -99999999 → (∀ b j, ¬ (b = 172 ∧ j = i) → m b j = μ b j) → Q m) : WP_X12_fails_W w μ p q Q := by
  intro z e _
  rw [hi] at e
  refine ⟨fun c => k μ (by rw [e]; exact c) fun _ _ _ => rfl, fun c m u _ => ?_⟩
  rw [hi] at u
  obtain rfl := u.is
  exact k _ (by rw [mUp.yes ⟨rfl, rfl⟩]; omega) fun b j h => mUp.no h
theorem X12_partOf_s {p e s : Int} {N ra rb cf : Nat} {Q : Int → mM → Prop} (hs : (s = 1 ∧ ra = 166 ∧ rb = 167 ∧ cf = 88) ∨ (s = 0 ∧ ra = 168 ∧ rb = 169 ∧ cf = 91)) (o : oR μ B n) (ok : oOk B n) (p0 : 0 ≤ p) (en : e ≤ n) (hN : e - p ≤ (N : Int)) (z0 : μ 106 cf = 0)
    (k0 : pfS B e N p = none → ∀ (z : Int) (m : mM), ¬ m 172 1 = -99999999 → (∀ b i, ¬ (b = 172 ∧ i = 1) → ¬ b = ra → ¬ b = rb → ¬ (b = 106 ∧ i = cf) → m b i = μ b i) → Q z m)
    (k1 : ∀ (l : List (Int × Int)) (m : mM), pfS B e N p = some l → m 106 cf = (l.length : Int) → (∀ j, j < l.length → m ra j = getA l j ∧ m rb j = getL l j) → (∀ b i, ¬ b = ra → ¬ b = rb → ¬ (b = 106 ∧ i = cf) → m b i = μ b i) → Q 1 m) : WP_X12_partOf_W w μ p e s Q := by
  have n1 := ok.1
  have hr : ra + 1 = rb ∧ 166 ≤ ra ∧ ra ≤ 168 ∧ (cf = 88 ∨ cf = 91) := by omega
  intro _ _ _ _ _ _ _ _ _
  refine loopF.im (fun x m => ∃ (a : List (Int × Int)) (N' : Nat), p ≤ x ∧ e - x ≤ (N' : Int) ∧ m 106 cf = (a.length : Int) ∧ pfS B e N p = (pfS B e N' x).map (fun l => a ++ l) ∧ (∀ j, j < a.length → m ra j = getA a j ∧ m rb j = getL a j) ∧ ∀ b i, ¬ b = ra → ¬ b = rb → ¬ (b = 106 ∧ i = cf) → m b i = μ b i) (fun x => (1001 - x).toNat) ⟨[], N, Int.le_refl _, hN, z0, ?_, fun j hj => absurd hj (Nat.not_lt_zero j), fun _ _ _ _ _ => rfl⟩ (by omega) ?_
  · cases pfS B e N p <;> rfl
  rintro rc x m ⟨a, N', x0, xN, ec, ep, ha, fm⟩ ih x' m' ee rx T F g eg rg c' ec' rc'
  cases ee
  have o' : oR m B n := o.of (fm _ _ (by omega) (by omega) (by omega)) fun i => fm _ _ (by omega) (by omega) (by omega)
  refine ⟨fun ce => ?_, fun ce => X12_byteIn_s o' (by omega) (by omega) fun rv nb enb => ?_⟩
  · rw [pfS.done ce] at ep
    have ep : pfS B e N p = some (a ++ []) := ep
    rw [List.append_nil] at ep
    exact k1 a m ep ec ha fm
  subst enb
  obtain ⟨N2, hN2⟩ : ∃ N2 : Nat, N' = N2 + 1 := ⟨N' - 1, by omega⟩
  subst hN2
  have bad : (32 < B x ∨ e < x + 1 + (B x + 7) / 8) → WP_X12_fails_W w m 1 x (fun m1 => mT w m1 → mF [172999] w m m1 → Q 0 m1) := fun hb => X12_fails_s rfl (by omega) fun m1 h1 h2 _ _ => k0 (by rw [ep, pfS.bad ce hb]; rfl) 0 m1 h1 fun b i q1 q2 q3 q4 => (h2 b i q1).trans (fm b i q2 q3 q4)
  refine ⟨fun c1 => bad (Or.inl c1), fun c1 => ⟨fun c2 => ?_, fun c2 => bad (Or.inr c2)⟩⟩
  have st : ∀ m1 m2 m3 : mM, mU m ra a.length (adr B x) m1 → mU m1 rb a.length (B x) m2 → mU m2 106 cf ((a.length : Int) + 1) m3 → rc (x + (1 + (B x + 7) / 8), m3) := by
    intro m1 m2 m3 u1 u2 u3
    obtain rfl := u1.is
    obtain rfl := u2.is
    obtain rfl := u3.is
    refine ih _ _ ⟨a ++ [(adr B x, B x)], N2, by omega, by omega, ?_, ?_, fun j hj => ?_, fun b i q1 q2 q3 => ?_⟩ (by omega)
    · rw [mUp.yes ⟨rfl, rfl⟩, List.length_append]
      show (a.length : Int) + 1 = ((a.length + 1 : Nat) : Int)
      omega
    · rw [ep, pfS.go ce (by omega), show x + (1 + (B x + 7) / 8) = x + 1 + (B x + 7) / 8 by omega]
      cases pfS B e N2 (x + 1 + (B x + 7) / 8) with
      | none => rfl
      | some l =>
        show some (a ++ ((adr B x, B x) :: l)) = some ((a ++ [(adr B x, B x)]) ++ l)
        rw [List.append_assoc]
        rfl
    · rw [List.length_append] at hj
      have hj : j < a.length + 1 := hj
      unfold getA getL
      rw [mUp.no (by omega), mUp.no (show ¬ (rb = 106 ∧ j = cf) by omega)]
      by_cases cj : j < a.length
      · rw [gtP.l cj, mUp.no (by omega), mUp.no (by omega), mUp.no (by omega), mUp.no (by omega)]
        exact ha j cj
      · have ej : j = a.length := by omega
        subst ej
        have g : gtP (a ++ [(adr B x, B x)]) a.length = (adr B x, B x) := gtP.r (j := 0)
        rw [g]
        exact ⟨by rw [mUp.no (by omega), mUp.yes ⟨rfl, rfl⟩], by rw [mUp.yes ⟨rfl, rfl⟩]⟩
    · rw [mUp.no (by omega), mUp.no (by omega), mUp.no (by omega)]
      exact fm b i q1 q2 q3
  have J : ∀ z : Int, adX B x ((B x + 7) / 8).toNat = z → WJ_X12_partOf_W_2 w s rc x m g c' (B x) ((B x + 7) / 8) z := by
    intro z hz _
    refine X12_mask_s ⟨rv.1, c1⟩ fun _ y ey => ?_
    have ey' : adr B x = y := by
      rw [← ey, ← hz]
      rfl
    subst ey'
    refine ⟨fun cs m1 u1 _ m2 u2 _ m3 u3 _ => ?_, fun cs m1 u1 _ m2 u2 _ m3 u3 _ => ?_⟩
    · rcases hs with ⟨e1, _⟩ | ⟨_, e2, e3, e4⟩
      · omega
      · subst e2 e3 e4
        have e5 : c' = (a.length : Int) := by omega
        subst e5
        rw [Int.toNat_natCast] at u1 u2
        exact st m1 m2 m3 u1 u2 u3
    · rcases hs with ⟨_, e2, e3, e4⟩ | ⟨e1, _⟩
      · subst e2 e3 e4
        have e5 : g = (a.length : Int) := by omega
        subst e5
        rw [Int.toNat_natCast] at u1 u2
        exact st m1 m2 m3 u1 u2 u3
      · exact absurd e1 cs
  refine ⟨fun c3 => X12_number_s (c := ((B x + 7) / 8).toNat) o' (by omega) (by omega) (by omega) (by omega) (by omega) fun _ z ez => J z (adX.of (by omega) rfl rfl ez), fun c3 => J 0 (by rw [c3]; rfl)⟩
theorem X12_origin_s {b s : Int} {Q : Int → mM → Prop} (o : oR μ B n) (h0 : 0 ≤ b) (h1 : s = 1 → b < n) (k0 : ¬ (s = 1 ∧ B b ≤ 2) → Q 0 μ) (k1 : s = 1 → B b ≤ 2 → Q 1 (mUp (mUp μ 126 962 (B b)) 106 98 1)) : WP_X12_originRight_Wf w μ b s Q := by
  intro _ _ _
  refine ⟨fun c => k0 fun g => c g.1, fun c => X12_byteAt_s o h0 (h1 c) fun _ => ⟨fun c2 => X12_byteAt_s o h0 (h1 c) fun _ m1 u1 _ m2 u2 _ => ?_, fun c2 => k0 fun g => by omega⟩⟩
  have u1 : mU μ 126 962 (B b) m1 := u1
  obtain rfl := u1.is
  obtain rfl := u2.is
  exact k1 c c2
theorem X12_cost_s {b s : Int} {Q : Int → mM → Prop} (o : oR μ B n) (h0 : 0 ≤ b) (h1 : b + s ≤ n) (k0 : ¬ s = 4 → Q 0 μ) (k1 : s = 4 → Q 1 (mUp μ 126 963 (clp (pr4 B b)))) : WP_X12_costRight_Wf w μ b s Q := by
  intro _ _ _
  have up : ∀ (v : Int) (m : mM), mU μ 126 ((963 : Int).toNat) v m → s = 4 → clp (pr4 B b) = v → Q 1 m := fun v m u c e => by
    have u : mU μ 126 963 v m := u
    obtain rfl := u.is
    have g := k1 c
    rw [e] at g
    exact g
  refine ⟨fun c => X12_number_s (c := 4) o rfl h0 (by omega) (by decide) (by decide) fun _ => ?_, k0⟩
  rw [nmX.four]
  exact ⟨fun c2 m u _ => up _ m u c (if_pos (Or.inl c2)), fun c2 => ⟨fun c3 m u _ => up _ m u c (if_neg (by omega)), fun c3 m u _ => up _ m u c (if_pos (Or.inr c3))⟩⟩
theorem mkR.of {m : mM} {S : List Int} (h : mkR μ S) (e1 : m 106 101 = μ 106 101) (f : ∀ i : Nat, 965 ≤ i → m 126 i = μ 126 i) : mkR m S := ⟨by rw [f _ (by omega), rowL.ext fun i _ => f _ (by omega)]; exact h.1, e1.trans h.2⟩
theorem X12_marks_s {b s : Int} {Q : Int → mM → Prop} (o : oR μ B n) (n1 : n ≤ 1000) (b0 : 0 ≤ b) (s0 : 0 ≤ s) (bn : b + s ≤ n) (h : mkR μ []) (k0 : ¬ s % 4 = 0 → Q 0 μ) (k1 : s % 4 = 0 → ∀ m, mkR m (mkS B b (s / 4).toNat) → (∀ c i, ¬ (c = 106 ∧ i = 101) → ¬ c = 173 → ¬ (c = 126 ∧ (i = 965 ∨ (986 ≤ i ∧ i < 1000))) → m c i = μ c i) → Q 1 m) : WP_X12_marksRight_Wf w μ b s Q := by
  intro _ _ _ y ey
  subst ey
  refine ⟨fun c => ?_, k0⟩
  refine loopF.im (fun x m => ∃ i : Nat, x = 4 * (i : Int) ∧ x ≤ s ∧ mkR m (mkS B b i) ∧ ∀ c i, ¬ (c = 106 ∧ i = 101) → ¬ c = 173 → ¬ (c = 126 ∧ (i = 965 ∨ (986 ≤ i ∧ i < 1000))) → m c i = μ c i) (fun x => (1004 - x).toNat) ⟨0, by omega, by omega, h, fun _ _ _ _ _ => rfl⟩ (by omega) ?_
  rintro rc x m ⟨i, ex, xs, hm, fm⟩ ih x' m' ee rx T F
  cases ee
  have o' : oR m B n := o.of (fm _ _ (by omega) (by omega) (by omega)) fun i => fm _ _ (by omega) (by omega) (by omega)
  refine ⟨fun ce => ?_, fun ce => X12_number_s (c := 2) o' rfl (by omega) (by omega) (by decide) (by decide) fun _ v ev rv => ?_⟩
  · have ei : i = (s / 4).toNat := by omega
    rw [ei] at hm
    exact k1 c m hm fm
  have ep : nmX B (b + x + 2) 2 = pr2 B (b + 4 * (i : Int) + 2) := by rw [nmX.two, ex]
  have skip : (pr2 B (b + 4 * (i : Int) + 2) ∈ mkS B b i ∨ 8 ≤ (mkS B b i).length) → rc (x + 4, m) := fun g => ih _ _ ⟨i + 1, by omega, by omega, by rw [show mkS B b (i + 1) = mkS B b i from addM.skip g]; exact hm, fm⟩ (by omega)
  have ln := hm.2
  refine ⟨fun c8 => skip (Or.inr (by omega)), fun c8 => X12_marked_s (by decide) fun z hz rz => ⟨fun cz => skip (Or.inl ?_), fun cz => ?_⟩⟩
  · have g := hz.mp (by omega)
    rw [hm.1, ep] at g
    exact g
  have nm : ¬ (pr2 B (b + 4 * (i : Int) + 2) ∈ mkS B b i ∨ 8 ≤ (mkS B b i).length) := fun g => by
    rcases g with g | g
    · have g2 := hz.mpr (by rw [hm.1, ep]; exact g)
      omega
    · omega
  refine X12_addMark_s (by decide) (by rw [hm.1]; exact mkS.srt i) fun m1 r1 f1 _ _ m2 u2 _ m3 u3 _ => ?_
  obtain rfl := u2.is
  obtain rfl := u3.is
  rw [hm.1, ep] at r1
  refine ih _ _ ⟨i + 1, by omega, by omega, ⟨?_, ?_⟩, fun c j q1 q2 q3 => ?_⟩ (by omega)
  · rw [mUp.no (by omega), mUp.no (by omega), rowL.ext (f := fun k => m1 126 (40 * (24 : Int) + 26 + (k : Int)).toNat) (fun k _ => by rw [mUp.no (by omega), mUp.no (by omega)])]
    exact r1
  · rw [mUp.yes ⟨rfl, rfl⟩]
    show v + 1 = ((addM (mkS B b i) (pr2 B (b + 4 * (i : Int) + 2))).length : Int)
    rw [addM.lenI nm]
    omega
  · rw [mUp.no (by omega), mUp.no (by omega), f1 c j (by omega)]
    exact fm c j q1 q2 q3
theorem X12_below_s {x y : Int} {Q : Int → mM → Prop} (hx : -2147483648 ≤ x ∧ x ≤ 2147483647) (hy : -2147483648 ≤ y ∧ y ≤ 2147483647) (k : ∀ z : Int, (z = 1 ↔ uB x y) → (z = 0 ∨ z = 1) → Q z μ) : WP_X12_isBelow_W w μ x y Q := by
  intro z1 r1 e1 z4 r4 e4
  have b1 := bXor.min hx
  have b2 := bXor.min hy
  have g1 : bXor x (-2147483648) = z1 := by
    by_cases c : x < 0
    · rw [if_pos c] at b1; omega
    · rw [if_neg c] at b1; omega
  have g2 : bXor y (-2147483648) = z4 := by
    by_cases c : y < 0
    · rw [if_pos c] at b2; omega
    · rw [if_neg c] at b2; omega
  refine ⟨fun c => k 0 ⟨fun q => absurd q (by decide), fun q => ?_⟩ (Or.inl rfl), fun c => k 1 ⟨fun _ => ?_, fun _ => rfl⟩ (Or.inr rfl)⟩
  · unfold uB at q
    omega
  · unfold uB
    omega
theorem X12_way_s {b s : Int} {Q : Int → mM → Prop} (o : oR μ B n) (n1 : n ≤ 1000) (b0 : 0 ≤ b) (s0 : 0 ≤ s) (bn : b + s ≤ n) (k0 : wyZ B b (b + s) = none → Q 0 μ) (k1 : ∀ W m, wyZ B b (b + s) = some W → rowL (fun k => m 126 (966 + k)) (m 126 964).toNat = W → m 106 99 = 1 → (∀ c i, ¬ (c = 106 ∧ i = 99) → ¬ (c = 126 ∧ (i = 964 ∨ (966 ≤ i ∧ i < 986))) → m c i = μ c i) → Q 1 m) : WP_X12_wayRight_W w μ b s Q := by
  intro _ _ _
  refine loopF.ii (fun x c => ∃ a N : Nat, b ≤ x ∧ b + s - x ≤ (N : Int) ∧ c = (a : Int) ∧ wyT B (b + s) 1001 b 0 = wyT B (b + s) N x a) (fun x _ => (1001 - x).toNat) ⟨0, 1001, Int.le_refl _, by omega, rfl, rfl⟩ (by omega) ?_
  rintro rc x c ⟨a, N, x0, xN, ec, eT'⟩ ih x' c' ee rx rcc
  cases ee
  refine ⟨fun ce => ⟨fun c20 => ?_, fun c20 => ?_⟩, fun ce => ?_⟩
  rotate_left 1
  · rw [wyT.done ce] at eT'
    exact k0 (wyZ.none' fun t ht => by rw [eT'] at ht; rw [← Option.some.inj ht]; omega)
  · have bad : (b + s < x + 2 ∨ ¬ (1 ≤ B x ∧ B x ≤ 2) ∨ B (x + 1) < 1 ∨ b + s < x + 2 + 4 * B (x + 1)) → Q 0 μ := fun hb => k0 (wyZ.none' fun t ht => by rw [eT', wyT.bad ce hb] at ht; cases ht)
    refine ⟨fun c1 => bad (Or.inl c1), fun c1 => X12_byteF_s o (by omega) (by omega) fun rv => X12_in_s fun y hy ry => ⟨fun c2 => bad (Or.inr (Or.inl fun g => by have := hy.mpr g; omega)), fun c2 => X12_byteF_s o (by omega) (by omega) fun ru => ⟨fun c3 => bad (Or.inr (Or.inr (Or.inl (by omega)))), fun c3 => X12_byteF_s o (by omega) (by omega) fun _ => ⟨fun c4 => X12_byteF_s o (by omega) (by omega) fun _ => X12_byteF_s o (by omega) (by omega) fun _ => ?_, fun c4 => bad (Or.inr (Or.inr (Or.inr c4)))⟩⟩⟩⟩
    have g := hy.mp (by omega)
    obtain ⟨N2, hN2⟩ : ∃ N2 : Nat, N = N2 + 1 := ⟨N - 1, by omega⟩
    subst hN2
    rw [wyT.go ce (by omega)] at eT'
    exact ih _ _ ⟨a + (B (x + 1)).toNat, N2, by omega, by omega, by omega, by rw [eT', show x + (2 + 4 * B (x + 1)) = x + 2 + 4 * B (x + 1) by omega]⟩ (by omega)
  · rw [wyT.done ce] at eT'
    subst ec
    have a20 : a ≤ 20 := by omega
    clear ih
    refine loopF.iim (fun x c m => ∃ (q N : Nat) (f : Nat → Int), b ≤ x ∧ b + s - x ≤ (N : Int) ∧ c = ((966 + q : Nat) : Int) ∧ q ≤ 20 ∧ some a = wyT B (b + s) N x q ∧ wyF B (b + s) 1001 b 0 (fun _ => 0) = wyF B (b + s) N x q f ∧ (∀ j, j < q → m 126 (966 + j) = f j) ∧ ∀ c i, ¬ (c = 126 ∧ (966 ≤ i ∧ i < 986)) → m c i = μ c i) (fun x _ => (1001 - x).toNat) ⟨0, 1001, fun _ => 0, Int.le_refl _, by omega, rfl, by omega, eT'.symm, rfl, fun j hj => absurd hj (Nat.not_lt_zero j), fun _ _ _ => rfl⟩ (by omega) ?_
    rintro rc2 y c2 m ⟨q, N2, f, y0, yN, ec2, q20, eT2, eF2, hm, fm⟩ ih2 y' c2' m' ee ry rc2' T F
    cases ee
    refine ⟨fun ce2 m1 u1 _ m2 u2 _ => ?_, fun ce2 => ?_⟩
    · have u1 : mU m 126 964 (a : Int) m1 := u1
      obtain rfl := u1.is
      obtain rfl := u2.is
      rw [wyT.done ce2] at eT2
      rw [wyF.done ce2] at eF2
      have eq : a = q := Option.some.inj eT2
      refine k1 _ _ (wyZ.some' eT' a20) ?_ (mUp.yes ⟨rfl, rfl⟩) fun c i g1 g2 => by rw [mUp.no (by omega), mUp.no (by omega)]; exact fm c i (by omega)
      rw [mUp.no (by omega), mUp.yes ⟨rfl, rfl⟩, eF2, Int.toNat_natCast]
      exact rowL.ext fun j hj => by rw [mUp.no (by omega), mUp.no (by omega)]; exact hm j (by omega)
    have o2 : oR m B n := o.of (fm _ _ (by omega)) fun i => fm _ _ (by omega)
    have nb : ¬ (b + s < y + 2 ∨ ¬ (1 ≤ B y ∧ B y ≤ 2) ∨ B (y + 1) < 1 ∨ b + s < y + 2 + 4 * B (y + 1)) := fun hb => by
      rw [wyT.bad ce2 hb] at eT2
      cases eT2
    refine X12_byteF_s o2 (by omega) (by omega) fun rv => ?_
    obtain ⟨N3, hN3⟩ : ∃ N3 : Nat, N2 = N3 + 1 := ⟨N2 - 1, by omega⟩
    subst hN3
    obtain ⟨t, ht⟩ : ∃ t : Nat, B (y + 1) = (t : Int) := ⟨(B (y + 1)).toNat, by omega⟩
    rw [wyT.go ce2 nb] at eT2
    rw [wyF.go ce2] at eF2
    rw [ht, Int.toNat_natCast] at eT2 eF2
    have qt := wyT.le eT2.symm
    rw [ht]
    rw [ht] at nb
    refine loopF.iim (fun c i m1 => ∃ d : Nat, i = (d : Int) ∧ d ≤ t ∧ c = ((966 + q + d : Nat) : Int) ∧ (∀ j, j < q + d → m1 126 (966 + j) = sgF B y q f d j) ∧ ∀ c i, ¬ (c = 126 ∧ (966 ≤ i ∧ i < 986)) → m1 c i = μ c i) (fun _ i => (21 - i).toNat) ⟨0, rfl, Nat.zero_le _, by omega, fun j hj => hm j (by omega), fm⟩ (by omega) ?_
    rintro rc3 c3 i m1 ⟨d, ei, dt, ec3, h1, f1⟩ ih3 c3' i' m' ee rc3' ri T1 F1
    cases ee
    subst ei ec3
    have o3 : oR m1 B n := o.of (f1 _ _ (by omega)) fun i => f1 _ _ (by omega)
    refine ⟨fun ct => ?_, fun ct => X12_numberF_s (c := 4) o3 rfl (by omega) (by omega) (by decide) (by decide) fun rx4 => ?_⟩
    · have e : d = t := by omega
      subst e
      exact ih2 _ _ _ ⟨q + d, N3, sgF B y q f d, by omega, by omega, by omega, by omega, by rw [eT2, show y + (2 + 4 * (d : Int)) = y + 2 + 4 * (d : Int) by omega], by rw [eF2, show y + (2 + 4 * (d : Int)) = y + 2 + 4 * (d : Int) by omega], h1, f1⟩ (by omega)
    rw [nmX.four] at rx4 ⊢
    have done : ∀ (e : Nat) (m2 m3 : mM), e ≤ d → sgF B y q f (d + 1) = (if B y = 1 then inF (sgF B y q f d) (pr4 B (y + 2 + 4 * (d : Int))) (q + e) else fun j => if j = q + d then pr4 B (y + 2 + 4 * (d : Int)) else sgF B y q f d j) → (¬ B y = 1 → e = d) → (∀ j, j < q + e → m2 126 (966 + j) = sgF B y q f d j) → (∀ j, q + e < j → j ≤ q + d → m2 126 (966 + j) = sgF B y q f d (j - 1)) → (∀ c i, ¬ (c = 126 ∧ (966 ≤ i ∧ i < 986)) → m2 c i = μ c i) → mU m2 126 ((966 + q + e : Nat) : Int).toNat (pr4 B (y + 2 + 4 * (d : Int))) m3 → rc3 (((966 + q + d : Nat) : Int) + 1, (d : Int) + 1, m3) := by
      intro e m2 m3 he hsg hne g1 g2 g3 u
      rw [Int.toNat_natCast] at u
      obtain rfl := u.is
      refine ih3 _ _ _ ⟨d + 1, by omega, by omega, by omega, fun j hj => ?_, fun c i g => by rw [mUp.no (by omega)]; exact g3 c i g⟩ (by omega)
      rw [hsg]
      by_cases cs : B y = 1
      · rw [if_pos cs]
        exact inF.is (T := q + d) (h := fun j => mUp m2 126 (966 + q + e) (pr4 B (y + 2 + 4 * (d : Int))) 126 (966 + j)) (fun j hj => by show mUp m2 126 (966 + q + e) _ 126 (966 + j) = _; rw [mUp.no (by omega)]; exact g1 j hj) (mUp.yes ⟨rfl, by omega⟩) (fun j q1 q2 => by show mUp m2 126 (966 + q + e) _ 126 (966 + j) = _; rw [mUp.no (by omega)]; exact g2 j q1 q2) j (by omega)
      · rw [if_neg cs]
        have ee := hne cs
        subst ee
        show _ = if j = q + e then _ else sgF B y q f e j
        by_cases cj : j = q + e
        · rw [if_pos cj, mUp.yes ⟨rfl, by omega⟩]
        · rw [if_neg cj, mUp.no (by omega)]
          exact g1 j (by omega)
    refine loopF.im (fun z m2 => ∃ e : Nat, z = ((966 + q + e : Nat) : Int) ∧ e ≤ d ∧ (¬ B y = 1 → e = d) ∧ plW (sgF B y q f d) (pr4 B (y + 2 + 4 * (d : Int))) q d = plW (sgF B y q f d) (pr4 B (y + 2 + 4 * (d : Int))) q e ∧ (∀ j, j < q + e → m2 126 (966 + j) = sgF B y q f d j) ∧ (∀ j, q + e < j → j ≤ q + d → m2 126 (966 + j) = sgF B y q f d (j - 1)) ∧ ∀ c i, ¬ (c = 126 ∧ (966 ≤ i ∧ i < 986)) → m2 c i = μ c i) (fun z => (z - 966).toNat) ⟨d, rfl, Nat.le_refl _, fun _ => rfl, rfl, h1, fun j q1 q2 => by omega, f1⟩ (by omega) ?_
    rintro rc4 z m2 ⟨e, ez, ed, hne, hp, g1, g2, g3⟩ ih4 z' m' ee rz T2 F2
    cases ee
    subst ez
    have o4 : oR m2 B n := o.of (g3 _ _ (by omega)) fun i => g3 _ _ (by omega)
    refine X12_byteF_s o4 (by omega) (by omega) fun _ => ⟨fun cs m3 u3 _ => ?_, fun cs => ?_⟩
    · exact done e m2 m3 ed (by rw [sgF.row cs, if_neg cs]) hne g1 g2 g3 u3
    have fin : plW (sgF B y q f d) (pr4 B (y + 2 + 4 * (d : Int))) q d = q + e → ∀ m3 : mM, mU m2 126 ((966 + q + e : Nat) : Int).toNat (pr4 B (y + 2 + 4 * (d : Int))) m3 → mT w m3 → rc3 (((966 + q + d : Nat) : Int) + 1, (d : Int) + 1, m3) := fun hpe m3 u3 _ => done e m2 m3 ed (by rw [sgF.set cs, if_pos cs, hpe]) hne g1 g2 g3 u3
    refine ⟨fun cz => fin (hp.trans ?_), fun cz v ev rv2 => ?_⟩
    · have e0 : e = 0 := by omega
      subst e0
      rfl
    obtain ⟨e2, he2⟩ : ∃ e2 : Nat, e = e2 + 1 := ⟨e - 1, by omega⟩
    subst he2
    rw [show (((966 + q + (e2 + 1) : Nat) : Int) - 1).toNat = 966 + (q + e2) by omega, g1 (q + e2) (by omega)] at ev
    subst ev
    refine X12_below_s rx4 rv2.1 fun y1 hy1 ry1 _ => ⟨fun c0 => fin (hp.trans (plW.no fun g => by have := hy1.mpr g; omega)), fun c0 m3 u3 _ => ?_⟩
    have ub := hy1.mp (by omega)
    rw [Int.toNat_natCast] at u3
    obtain rfl := u3.is
    refine ih4 _ _ ⟨e2, by omega, by omega, fun g => absurd cs g, hp.trans (plW.yes ub), fun j hj => ?_, fun j q1 q2 => ?_, fun c i g => by rw [mUp.no (by omega)]; exact g3 c i g⟩ (by omega)
    · rw [mUp.no (by omega)]
      exact g1 j (by omega)
    · by_cases cj : j = q + (e2 + 1)
      · rw [mUp.yes ⟨rfl, by omega⟩, cj, show q + (e2 + 1) - 1 = q + e2 by omega]
      · rw [mUp.no (by omega)]
        exact g2 j (by omega) q2
theorem atO.bad {k b s : Int} (z : aS A (B (k + 1)) = 0) (q1 : B (k + 1) = 1 → ¬ (bAnd (B k) 207 = 64 ∧ s = 1 ∧ B b ≤ 2)) (q2 : B (k + 1) = 2 → bAnd (B k) 207 = 64 → wyZ B b (b + s) = none) (q4 : B (k + 1) = 4 → ¬ (bAnd (B k) 207 = 128 ∧ s = 4)) (q8 : B (k + 1) = 8 → ¬ (bAnd (B k) 207 = 192 ∧ s % 4 = 0)) (q0 : ¬ B (k + 1) = 1 → ¬ B (k + 1) = 2 → ¬ B (k + 1) = 4 → ¬ B (k + 1) = 8 → bAnd (B k) 128 = 0) : atO B k b s A = a2! (aS! A (B (k + 1))) := by
  unfold atO
  rw [if_neg fun q => q z]
  by_cases c1 : B (k + 1) = 1
  · rw [if_pos c1, if_neg (q1 c1)]
  rw [if_neg c1]
  by_cases c2 : B (k + 1) = 2
  · rw [if_pos c2]
    by_cases c : bAnd (B k) 207 = 64
    · rw [if_pos c, q2 c2 c]
    · rw [if_neg c]
  rw [if_neg c2]
  by_cases c4 : B (k + 1) = 4
  · rw [if_pos c4, if_neg (q4 c4)]
  rw [if_neg c4]
  by_cases c8 : B (k + 1) = 8
  · rw [if_pos c8, if_neg (q8 c8)]
  rw [if_neg c8, if_pos (q0 c1 c2 c4 c8)]
theorem atO.seen {k b s : Int} (z : ¬ aS A (B (k + 1)) = 0) : atO B k b s A = A := if_pos z
theorem atO.org {k b s : Int} (z : aS A (B (k + 1)) = 0) (c1 : B (k + 1) = 1) (q : bAnd (B k) 207 = 64 ∧ s = 1 ∧ B b ≤ 2) : atO B k b s A = aO! (aS! A (B (k + 1))) (B b) := by
  unfold atO
  rw [if_neg fun q => q z, if_pos c1, if_pos q]
theorem atO.way {k b s : Int} {W : List Int} (z : aS A (B (k + 1)) = 0) (c2 : B (k + 1) = 2) (q : bAnd (B k) 207 = 64) (e : wyZ B b (b + s) = some W) : atO B k b s A = aW! (aS! A (B (k + 1))) W := by
  unfold atO
  rw [if_neg fun q => q z, if_neg (by omega), if_pos c2, if_pos q, e]
theorem atO.cost {k b s : Int} (z : aS A (B (k + 1)) = 0) (c4 : B (k + 1) = 4) (q : bAnd (B k) 207 = 128 ∧ s = 4) : atO B k b s A = aC! (aS! A (B (k + 1))) (clp (pr4 B b)) := by
  unfold atO
  rw [if_neg fun q => q z, if_neg (by omega), if_neg (by omega), if_pos c4, if_pos q]
theorem atO.mks {k b s : Int} (z : aS A (B (k + 1)) = 0) (c8 : B (k + 1) = 8) (q : bAnd (B k) 207 = 192 ∧ s % 4 = 0) : atO B k b s A = aM! (aS! A (B (k + 1))) (mkS B b (s / 4).toNat) := by
  unfold atO
  rw [if_neg fun q => q z, if_neg (by omega), if_neg (by omega), if_neg (by omega), if_pos c8, if_pos q]
theorem atO.oth {k b s : Int} (z : aS A (B (k + 1)) = 0) (c1 : ¬ B (k + 1) = 1) (c2 : ¬ B (k + 1) = 2) (c4 : ¬ B (k + 1) = 4) (c8 : ¬ B (k + 1) = 8) (q : ¬ bAnd (B k) 128 = 0) : atO B k b s A = aS! A (B (k + 1)) := by
  unfold atO
  rw [if_neg fun q => q z, if_neg c1, if_neg c2, if_neg c4, if_neg c8, if_neg q]
theorem maR.of {m : mM} (h : maR μ A) (f : ∀ b i, ((b = 106 ∧ (i = 98 ∨ i = 99 ∨ i = 101)) ∨ (b = 126 ∧ 962 ≤ i) ∨ b = 171 ∨ (b = 172 ∧ i = 2)) → m b i = μ b i) : maR m A := by
  obtain ⟨h1, h2, h3, h4, h5, h6, h7, h8⟩ := h
  exact ⟨fun j hj => (f _ _ (by omega)).trans (h1 j hj), by rw [f _ _ (by omega)]; exact h2, (f _ _ (by omega)).trans h3, (f _ _ (by omega)).trans h4, (f _ _ (by omega)).trans h5, (f _ _ (by omega)).trans h6, by rw [f _ _ (by omega), rowL.ext (f := fun k => μ 126 (966 + k)) fun i _ => f _ _ (by omega)]; exact h7, h8.of (f _ _ (by omega)) fun i hi => f _ _ (by omega)⟩
theorem maR.bad {m : mM} (h : maR μ A) (h1 : ¬ m 172 2 = -99999999) (f : ∀ b i, ¬ (b = 172 ∧ i = 2) → m b i = μ b i) : maR m (a2! A) := by
  obtain ⟨g1, g2, g3, g4, g5, g6, g7, g8⟩ := h
  exact ⟨fun j hj => (f _ _ (by omega)).trans (g1 j hj), ⟨fun q => absurd q h1, fun q => absurd q (by show ¬ (1 : Int) = 0; decide)⟩, (f _ _ (by omega)).trans g3, (f _ _ (by omega)).trans g4, (f _ _ (by omega)).trans g5, (f _ _ (by omega)).trans g6, by rw [f _ _ (by omega), rowL.ext (f := fun k => μ 126 (966 + k)) fun i _ => f _ _ (by omega)]; exact g7, g8.of (f _ _ (by omega)) fun i hi => f _ _ (by omega)⟩
theorem maR.see {t : Int} (h : maR μ A) (ht : 0 ≤ t) : maR (mUp μ 171 t.toNat 1) (aS! A t) := by
  obtain ⟨g1, g2, g3, g4, g5, g6, g7, g8⟩ := h
  have f : ∀ b i, ¬ b = 171 → mUp μ 171 t.toNat 1 b i = μ b i := fun b i q => mUp.no (by omega)
  refine ⟨fun j hj => ?_, by rw [f _ _ (by omega)]; exact g2, (f _ _ (by omega)).trans g3, (f _ _ (by omega)).trans g4, (f _ _ (by omega)).trans g5, (f _ _ (by omega)).trans g6, by rw [f _ _ (by omega), rowL.ext (f := fun k => μ 126 (966 + k)) fun i _ => f _ _ (by omega)]; exact g7, g8.of (f _ _ (by omega)) fun i hi => f _ _ (by omega)⟩
  show _ = if (j : Int) = t then 1 else aS A (j : Int)
  by_cases c : (j : Int) = t
  · rw [if_pos c, mUp.yes ⟨rfl, by omega⟩]
  · rw [if_neg c, mUp.no (by omega)]
    exact g1 j hj
theorem X12_fails2_s {m : mM} {q : Int} {Q : mM → Prop} (h : maR m A) (fa : fAtR μ m) (hq : 0 ≤ q) (kk : ∀ m1, maR m1 (a2! A) → fAtR μ m1 → Q m1) : WP_X12_fails_W w m 2 q (fun m1 => mT w m1 → mF [172999] w m m1 → Q m1) := X12_fails_s rfl hq fun m1 h1 h2 _ _ => kk m1 (h.bad h1 h2) (fa.trans fun b i q1 q2 q3 => h2 b i (by omega))
theorem X12_attributes_s {p e : Int} {N : Nat} {Q : mM → Prop} (o : oR μ B n) (ok : oOk B n) (p0 : 0 ≤ p) (en : e ≤ n) (hN : e - p ≤ (N : Int)) (h : maR μ A) (hI : maI A) (kk : ∀ m, maR m (atS B e N p A) → fAtR μ m → Q m) : WP_X12_attributes_W w μ p e Q := by
  intro _ _ _ _ _ _
  have n1 := ok.1
  refine loopF.im (fun x m => ∃ (A' : Ma) (N' : Nat), p ≤ x ∧ e - x ≤ (N' : Int) ∧ maR m A' ∧ maI A' ∧ atS B e N p A = atS B e N' x A' ∧ fAtR μ m) (fun x => (1003 - x).toNat) ⟨A, N, Int.le_refl _, hN, h, hI, rfl, fAtR.refl⟩ (by omega) ?_
  rintro rc x m ⟨A', N', x0, xN, hm, hI', ea, fm⟩ ih x' m' ee rx T F fc efc rfc
  cases ee
  rw [ea] at kk
  have o' := o.fa fm
  refine ⟨fun ce => ?_, fun ce => X12_byteF_s o' (by omega) (by omega) fun rv z ez => ?_⟩
  · rw [atS.done ce] at kk
    exact kk m hm fm
  subst ez
  obtain ⟨N2, hN2⟩ : ∃ N2 : Nat, N' = N2 + 1 := ⟨N' - 1, by omega⟩
  subst hN2
  have bad : (e < x + hdX B x ∨ e < x + hdX B x + szX B x) → WP_X12_fails_W w m 2 x (fun m1 => mT w m1 → mF [172999] w m m1 → Q m1) := fun hb => by
    rw [atS.bad ce hb] at kk
    exact X12_fails2_s hm fm (by omega) kk
  have J3 : ∀ hh : Int, (hh = 3 ∨ hh = 4) → hdX B x = hh → (x + hh ≤ e → nmX B (x + 2) (hh - 2).toNat = szX B x) → WJ_X12_attributes_W_3 w e Q rc x m fc hh := by
    intro hh h34 ehd esz _
    rw [ehd] at bad
    refine ⟨fun c1 => bad (Or.inl c1), fun c1 => X12_number2_s (c := (hh - 2).toNat) o' (by omega) (by omega) (by omega) (by omega) (by omega) fun rs => ?_⟩
    rw [esz c1] at rs ⊢
    refine ⟨fun c2 => X12_byteF_s o' (by omega) (by omega) fun rf => X12_byteF_s o' (by omega) (by omega) fun rt => X12_number2_s (c := (hh - 2).toNat) o' (by omega) (by omega) (by omega) (by omega) (by omega) fun _ => ?_, fun c2 => bad (Or.inr c2)⟩
    rw [esz c1]
    have go : ∀ m1, maR m1 (atO B x (x + hh) (szX B x) A') → fAtR μ m1 → rc (x + hh + szX B x, m1) := fun m1 g1 g2 => ih _ _ ⟨_, N2, by omega, by omega, g1, hI'.step fun e1 => (ok.2 _ (by omega) (by omega)).1, by rw [ea, atS.go ce (by omega), ehd], g2⟩ (by omega)
    intro u eu ru
    have eS : aS A' (B (x + 1)) = u := by
      have g := hm.1 (B (x + 1)).toNat (by omega)
      rw [Int.toNat_of_nonneg rt.1, eu] at g
      exact g.symm
    refine ⟨fun c0 m1 u1 _ => ?_, fun c0 => ?_⟩
    rotate_left 1
    · rw [atO.seen (by rw [eS]; exact c0)] at go
      exact X12_fails_s rfl (by omega) fun m1 _ f1 _ _ => go m1 (hm.of fun b i q => f1 b i (by omega)) (fm.trans fun b i q1 q2 q3 => f1 b i (by omega))
    have z0 : aS A' (B (x + 1)) = 0 := eS.trans c0
    obtain rfl := u1.is
    have hs := hm.see rt.1
    have fs : fAtR μ (mUp m 171 (B (x + 1)).toNat 1) := fm.trans fun b i q1 q2 q3 => mUp.no (by omega)
    have os := o.fa fs
    generalize mUp m 171 (B (x + 1)).toNat 1 = m1 at hs fs os ⊢
    have J5 : ∀ (z : Int) (m2 : mM) (A1 : Ma), maR m2 A1 → fAtR μ m2 → (z = 0 → atO B x (x + hh) (szX B x) A' = a2! A1) → (¬ z = 0 → atO B x (x + hh) (szX B x) A' = A1) → WJ_X12_attributes_W_5 w rc x hh (szX B x) m1 z m2 := by
      intro z m2 A1 h2 f2 k0 k1 _ _ _ _ _ _
      refine ⟨fun cz => go m2 (by rw [k1 cz]; exact h2) f2, fun cz => X12_fails2_s h2 f2 (by omega) fun m3 h3 f3 => go m3 (by rw [k0 cz]; exact h3) f3⟩
    have bad7 : atO B x (x + hh) (szX B x) A' = a2! (aS! A' (B (x + 1))) → WJ_X12_attributes_W_7 w rc x hh (szX B x) m1 0 m1 := fun e _ _ _ => J5 0 m1 _ hs fs (fun _ => e) fun g => absurd rfl g
    have good7 : ∀ (m2 : mM) (A1 : Ma), atO B x (x + hh) (szX B x) A' = A1 → maR m2 A1 → fAtR μ m2 → WJ_X12_attributes_W_7 w rc x hh (szX B x) m1 1 m2 := fun m2 A1 e h2 f2 _ _ _ => J5 1 m2 A1 h2 f2 (fun g => absurd g (by decide)) fun _ => e
    have J6 : ¬ B (x + 1) = 1 → ¬ B (x + 1) = 2 → ¬ B (x + 1) = 4 → ¬ B (x + 1) = 8 → ∀ z : Int, (z = 0 ↔ bAnd (B x) 128 = 0) → WJ_X12_attributes_W_6 w rc x fc hh (B x) (B (x + 1)) (szX B x) m1 z := by
      intro c1 c2 c4 c8 z hz _
      have k0 : z = 0 → atO B x (x + hh) (szX B x) A' = a2! (aS! A' (B (x + 1))) := fun cz => atO.bad z0 (fun g => absurd g c1) (fun g => absurd g c2) (fun g => absurd g c4) (fun g => absurd g c8) fun _ _ _ _ => hz.mp cz
      have k1 : ¬ z = 0 → atO B x (x + hh) (szX B x) A' = aS! A' (B (x + 1)) := fun cz => atO.oth z0 c1 c2 c4 c8 fun g => cz (hz.mpr g)
      refine ⟨fun cz => J5 z m1 _ hs fs k0 k1, fun cz y ey => ⟨fun cy => J5 z m1 _ hs fs k0 k1, fun cy m2 u2 _ m3 u3 _ => ?_⟩⟩
      obtain rfl := u2.is
      obtain rfl := u3.is
      exact J5 z _ _ (hs.of fun b i q => by rw [mUp.no (by omega), mUp.no (by omega)]) (fs.trans fun b i q1 q2 q3 => by rw [mUp.no (by omega), mUp.no (by omega)]) k0 k1
    have J4 : ∀ f : Int, ((B (x + 1) = 1 ∧ f = 64) ∨ (B (x + 1) = 2 ∧ f = 64) ∨ (B (x + 1) = 4 ∧ f = 128) ∨ (B (x + 1) = 8 ∧ f = 192)) → WJ_X12_attributes_W_4 w rc x fc hh (B x) (B (x + 1)) (szX B x) m1 f := by
      intro f hf _
      refine ⟨fun c => absurd c (by omega), fun _ y ey => ?_⟩
      rw [sx_49 rf] at ey
      subst ey
      refine ⟨fun cf => bad7 (atO.bad z0 (fun g q => by omega) (fun g q => by omega) (fun g q => by omega) (fun g q => by omega) fun g1 g2 g4 g8 => by omega), fun cf => ⟨fun c1 => ⟨fun c2 => ⟨fun c4 => ?_, fun c4 => ?_⟩, fun c2 => ?_⟩, fun c1 => ?_⟩⟩
      · have c8 : B (x + 1) = 8 := by omega
        have a0 := hI'.2.2.1 (by rw [← c8]; exact z0)
        have hk : mkR m1 [] := by
          have g := hs.2.2.2.2.2.2.2
          have e : aM (aS! A' (B (x + 1))) = [] := a0
          rw [e] at g
          exact g
        refine X12_marks_s os n1 (by omega) (by omega) (by omega) hk (fun q _ _ _ => ⟨fun _ => bad7 (atO.bad z0 (fun g => absurd g c1) (fun g => absurd g c2) (fun g => absurd g c4) (fun _ g => q g.2) fun _ _ _ g8 => absurd c8 g8), fun g => absurd rfl g⟩) (fun q m2 r2 f2 _ _ _ => ⟨fun g => absurd g (by decide), fun _ => good7 m2 _ (atO.mks z0 c8 ⟨by omega, q⟩) ?_ (fs.trans fun b i q1 q2 q3 => f2 b i (by omega) (by omega) (by omega))⟩)
        obtain ⟨g1, g2, g3, g4, g5, g6, g7, g8⟩ := hs
        exact ⟨fun j hj => (f2 _ _ (by omega) (by omega) (by omega)).trans (g1 j hj), by rw [f2 _ _ (by omega) (by omega) (by omega)]; exact g2, (f2 _ _ (by omega) (by omega) (by omega)).trans g3, (f2 _ _ (by omega) (by omega) (by omega)).trans g4, (f2 _ _ (by omega) (by omega) (by omega)).trans g5, (f2 _ _ (by omega) (by omega) (by omega)).trans g6, by
          have lw : (m1 126 964).toNat ≤ 20 := by
            have e2 : (rowL (fun k => m1 126 (966 + k)) (m1 126 964).toNat).length = (aW A').length := congrArg List.length g7
            rw [rowL.len] at e2
            rw [e2]
            exact hI'.2.2.2.2.2.1
          rw [f2 _ _ (by omega) (by omega) (by omega), rowL.ext (f := fun k => m1 126 (966 + k)) fun i hi => f2 _ _ (by omega) (by omega) (by omega)]
          exact g7, r2⟩
      · refine X12_cost_s os (by omega) (by omega) (fun q _ _ _ => ⟨fun _ => bad7 (atO.bad z0 (fun g => absurd g c1) (fun g => absurd g c2) (fun _ g => q g.2) (fun g => by omega) fun _ _ g4 _ => absurd c4 g4), fun g => absurd rfl g⟩) (fun q _ _ _ => ⟨fun g => absurd g (by decide), fun _ => good7 _ _ (atO.cost z0 c4 ⟨by omega, q⟩) ?_ (fs.trans fun b i q1 q2 q3 => mUp.no (by omega))⟩)
        obtain ⟨g1, g2, g3, g4, g5, g6, g7, g8⟩ := hs
        have f : ∀ b i, ¬ (b = 126 ∧ i = 963) → mUp m1 126 963 (clp (pr4 B (x + hh))) b i = m1 b i := fun b i q => mUp.no (by omega)
        exact ⟨fun j hj => (f _ _ (by omega)).trans (g1 j hj), by rw [f _ _ (by omega)]; exact g2, (f _ _ (by omega)).trans g3, (f _ _ (by omega)).trans g4, (f _ _ (by omega)).trans g5, by rw [mUp.yes ⟨rfl, rfl⟩]; rfl, by rw [f _ _ (by omega), rowL.ext (f := fun k => m1 126 (966 + k)) fun i _ => f _ _ (by omega)]; exact g7, g8.of (f _ _ (by omega)) fun i hi => f _ _ (by omega)⟩
      · refine X12_way_s os n1 (by omega) (by omega) (by omega) (fun q _ _ _ => ⟨fun _ => bad7 (atO.bad z0 (fun g => absurd g c1) (fun _ _ => q) (fun g => by omega) (fun g => by omega) fun _ g2 _ _ => absurd c2 g2), fun g => absurd rfl g⟩) (fun W m2 q r2 e99 f2 _ _ _ => ⟨fun g => absurd g (by decide), fun _ => good7 m2 _ (atO.way z0 c2 (by omega) q) ?_ (fs.trans fun b i q1 q2 q3 => f2 b i (by omega) (by omega))⟩)
        obtain ⟨g1, g2, g3, g4, g5, g6, g7, g8⟩ := hs
        exact ⟨fun j hj => (f2 _ _ (by omega) (by omega)).trans (g1 j hj), by rw [f2 _ _ (by omega) (by omega)]; exact g2, (f2 _ _ (by omega) (by omega)).trans g3, e99, (f2 _ _ (by omega) (by omega)).trans g5, (f2 _ _ (by omega) (by omega)).trans g6, r2, ⟨by
          rw [f2 _ _ (by omega) (by omega), rowL.ext (f := fun k => m1 126 (40 * (24 : Int) + 26 + (k : Int)).toNat) fun i hi => f2 _ _ (by omega) (by omega)]
          exact g8.1, (f2 _ _ (by omega) (by omega)).trans g8.2⟩⟩
      · refine X12_origin_s os (by omega) (fun g => by omega) (fun q _ _ _ => ⟨fun _ => bad7 (atO.bad z0 (fun _ g => q g.2) (fun g => by omega) (fun g => by omega) (fun g => by omega) fun g1 _ _ _ => absurd c1 g1), fun g => absurd rfl g⟩) (fun q1 q2 _ _ _ => ⟨fun g => absurd g (by decide), fun _ => good7 _ _ (atO.org z0 c1 ⟨by omega, q1, q2⟩) ?_ (fs.trans fun b i q1 q2 q3 => by rw [mUp.no (by omega), mUp.no (by omega)])⟩)
        obtain ⟨g1, g2, g3, g4, g5, g6, g7, g8⟩ := hs
        have f : ∀ b i, ¬ (b = 126 ∧ i = 962) → ¬ (b = 106 ∧ i = 98) → mUp (mUp m1 126 962 (B (x + hh))) 106 98 1 b i = m1 b i := fun b i q q' => by rw [mUp.no (by omega), mUp.no (by omega)]
        exact ⟨fun j hj => (f _ _ (by omega) (by omega)).trans (g1 j hj), by rw [f _ _ (by omega) (by omega)]; exact g2, by rw [mUp.yes ⟨rfl, rfl⟩]; rfl, (f _ _ (by omega) (by omega)).trans g4, by rw [mUp.no (by omega), mUp.yes ⟨rfl, rfl⟩]; rfl, (f _ _ (by omega) (by omega)).trans g6, by rw [f _ _ (by omega) (by omega), rowL.ext (f := fun k => m1 126 (966 + k)) fun i _ => f _ _ (by omega) (by omega)]; exact g7, g8.of (f _ _ (by omega) (by omega)) fun i hi => f _ _ (by omega) (by omega)⟩
    refine ⟨fun c1 => J4 64 (by omega), fun c1 => ⟨fun c2 => ⟨fun c4 => ⟨fun c8 _ => ⟨fun _ y ey => ⟨fun cy => J6 c1 c2 c4 c8 0 ⟨fun _ => ey.trans cy, fun _ => rfl⟩, fun cy => J6 c1 c2 c4 c8 1 ⟨fun g => absurd g (by decide), fun g => absurd (ey.symm.trans g) cy⟩⟩, fun g => absurd g (by decide)⟩, fun c8 => J4 192 (by omega)⟩, fun c4 => J4 128 (by omega)⟩, fun c2 => J4 64 (by omega)⟩⟩
  have J2 : ∀ z : Int, (z = 0 ↔ bAnd (B x) 16 = 0) → WJ_X12_attributes_W_2 w e Q rc x m fc z := by
    intro z hz _
    refine ⟨fun cz => J3 3 (Or.inl rfl) (if_pos (hz.mp cz)) fun hl => ?_, fun cz => J3 4 (Or.inr rfl) (if_neg fun g => cz (hz.mpr g)) fun hl => ?_⟩
    · show nmX B (x + 2) 1 = szX B x
      rw [nmX.one (ok.2 _ (by omega) (by omega))]
      exact (if_pos (hz.mp cz)).symm
    · show nmX B (x + 2) 2 = szX B x
      rw [nmX.two]
      exact (if_neg fun g => cz (hz.mpr g)).symm
  exact ⟨fun cz => J2 0 ⟨fun _ => cz, fun _ => rfl⟩, fun cz => J2 1 ⟨fun g => absurd g (by decide), fun g => absurd g cz⟩⟩
/-- what message writes, on the reference's side -/
def fmR (μ m : mM) : Prop := ∀ b i, ¬ (b = 106 ∧ (i = 1 ∨ i = 88 ∨ i = 91 ∨ i = 93 ∨ (96 ≤ i ∧ i ≤ 102))) → ¬ (b = 126 ∧ 960 ≤ i ∧ i < 1000) → ¬ (166 ≤ b ∧ b ≤ 173) → m b i = μ b i
theorem fmR.trans {μ m m1 : mM} (h : fmR μ m) (g : fmR m m1) : fmR μ m1 := fun b i h1 h2 h3 => (g b i h1 h2 h3).trans (h b i h1 h2 h3)
def rpR (m : mM) (l1 l2 : List (Int × Int)) (A : Ma) : Prop := m 172 1 = -99999999 ∧ m 106 88 = (l1.length : Int) ∧ m 106 91 = (l2.length : Int) ∧ (∀ j, j < l1.length → m 166 j = getA l1 j ∧ m 167 j = getL l1 j) ∧ (∀ j, j < l2.length → m 168 j = getA l2 j ∧ m 169 j = getL l2 j) ∧ (¬ m 172 2 = -99999999 ↔ bakM A l2) ∧ m 126 960 = 0 ∧ m 126 961 = 100 ∧ m 126 962 = aR A ∧ m 126 963 = aC A ∧ rowL (fun k => m 126 (966 + k)) (m 126 964).toNat = aW A ∧ rowL (fun k => m 126 (40 * (24 : Int) + 26 + (k : Int)).toNat) (m 126 (40 * (24 : Int) + 5).toNat).toNat = aM A
theorem rpR.of {m m1 : mM} {l1 l2 : List (Int × Int)} (h : rpR m l1 l2 A) (f : ∀ b i, (b = 172 ∧ (i = 1 ∨ i = 2)) ∨ (b = 106 ∧ (i = 88 ∨ i = 91)) ∨ (166 ≤ b ∧ b ≤ 169) ∨ b = 126 → m1 b i = m b i) : rpR m1 l1 l2 A := by
  obtain ⟨h1, h2, h3, h4, h5, h6, h7, h8, h9, h10, h11, h12⟩ := h
  refine ⟨(f _ _ (by omega)).trans h1, (f _ _ (by omega)).trans h2, (f _ _ (by omega)).trans h3, fun j hj => by rw [f _ _ (by omega), f _ _ (by omega)]; exact h4 j hj, fun j hj => by rw [f _ _ (by omega), f _ _ (by omega)]; exact h5 j hj, by rw [f _ _ (by omega)]; exact h6, (f _ _ (by omega)).trans h7, (f _ _ (by omega)).trans h8, (f _ _ (by omega)).trans h9, (f _ _ (by omega)).trans h10, ?_, ?_⟩
  · rw [f _ _ (by omega), rowL.ext (f := fun k => m 126 (966 + k)) fun i _ => f _ _ (by omega)]; exact h11
  · rw [f _ _ (by omega), rowL.ext (f := fun k => m 126 (40 * (24 : Int) + 26 + (k : Int)).toNat) fun i _ => f _ _ (by omega)]; exact h12
theorem rpR.rt {m : mM} {l1 l2 : List (Int × Int)} (h : rpR m l1 l2 A) : rtR m 24 = some (0, 100, aR A, aC A, aW A, aM A) := by
  obtain ⟨_, _, _, _, _, _, h7, h8, h9, h10, h11, h12⟩ := h
  have t0 : ¬ m 126 (40 * (24 : Int)).toNat < 0 := by
    show ¬ m 126 960 < 0
    rw [h7]
    decide
  have e6 : rowL (fun k => m 126 (40 * (24 : Int) + 6 + (k : Int)).toNat) (m 126 (40 * (24 : Int) + 4).toNat).toNat = aW A := by
    rw [← h11]
    show rowL (fun k => m 126 (40 * (24 : Int) + 6 + (k : Int)).toNat) (m 126 964).toNat = _
    exact rowL.ext fun k _ => by rw [show (40 * (24 : Int) + 6 + (k : Int)).toNat = 966 + k by omega]
  rw [rtR.the t0, e6, h12]
  show some (m 126 960, m 126 961, m 126 962, m 126 963, aW A, aM A) = _
  rw [h7, h8, h9, h10]
theorem pfS.ne {e k : Int} {N : Nat} {l : List (Int × Int)} (h : pfS B e N k = some l) : l = [] ↔ e ≤ k := by
  constructor
  · intro q
    apply Classical.byContradiction
    intro c
    by_cases cb : 32 < B k ∨ e < k + 1 + (B k + 7) / 8
    · rw [pfS.bad (by omega) cb] at h
      cases h
    · cases N with
      | zero =>
        have h : (if e ≤ k then some [] else none) = some l := h
        rw [if_neg c] at h
        cases h
      | succ N =>
        rw [pfS.go (by omega) cb, q] at h
        cases e2 : pfS B e N (k + 1 + (B k + 7) / 8) with
        | none => rw [e2] at h; cases h
        | some l2 => rw [e2] at h; cases h
  · intro q
    rw [pfS.done q] at h
    exact (Option.some.inj h).symm
theorem X12_message_s {Q : Int → mM → Prop} (hw : mWF w) (o : oR μ B n) (ok : oOk B n) (k : ∀ (z : Int) (m : mM), msR m (msgS B n) → fmR μ m → m 106 1 = 0 → Q z m) : WP_X12_message_W w μ Q := by
  have n1 := ok.1
  have J7 : ∀ (v : Int) (m0 m : mM), msR m (msgS B n) → fmR μ m → m 106 1 = 0 → WJ_X12_message_W_7 w Q v m0 m := by
    intro v m0 m hM hf h01 T _
    have J8 : ∀ z : Int, WJ_X12_message_W_8 w Q m z := fun z _ m1 u1 _ => by
      obtain rfl := u1.is
      exact k z _ (hM.of' hw T fun b i q => mUp.no (by omega)) (hf.trans fun b i q1 q2 q3 => mUp.no (by omega)) (by rw [mUp.no (by omega)]; exact h01)
    exact ⟨fun _ _ _ _ => ⟨fun _ _ _ _ => ⟨fun _ => J8 0, fun _ => J8 3⟩, fun _ => J8 2⟩, fun _ => J8 1⟩
  have J5c : ∀ m0 m : mM, msgS B n = M0 → ¬ m 172 1 = -99999999 → m 106 96 = 1 → fmR μ m → WJ_X12_message_W_5 w Q m0 m := by
    intro m0 m eM g e96 hf _ _ _ _ _ _ _ _ m1 u1 _ v ev rv
    obtain rfl := u1.is
    have ev : mUp m 106 1 0 172 1 = v := ev
    rw [mUp.no (by omega)] at ev
    refine ⟨fun c => absurd (ev.trans c) g, fun c _ m2 u2 _ => ?_⟩
    obtain rfl := u2.is
    refine ⟨fun _ => J7 _ _ _ ?_ (hf.trans fun b i q1 q2 q3 => by rw [mUp.no (by omega), mUp.no (by omega)]) (by rw [mUp.no (by omega)]; exact mUp.yes ⟨rfl, rfl⟩), fun q => absurd q (by decide)⟩
    rw [eM]
    refine ⟨⟨fun _ => Or.inr ?_, fun _ => rfl⟩, fun q => absurd rfl q⟩
    rw [mUp.yes ⟨rfl, rfl⟩]
    decide
  have J5 : ∀ (m0 m : mM) (l1 l2 : List (Int × Int)) (A : Ma), msgS B n = mkMs A l1 l2 → rpR m l1 l2 A → m 106 96 = 1 → fmR μ m → WJ_X12_message_W_5 w Q m0 m := by
    intro m0 m l1 l2 A eM hp e96 hf _ _ _ _ _ _ _ _ m1 u1 _ v ev rv
    obtain rfl := u1.is
    have ev : mUp m 106 1 0 172 1 = v := ev
    rw [mUp.no (by omega), hp.1] at ev
    refine ⟨fun c _ m2 u2 _ => ?_, fun c => absurd ev.symm c⟩
    obtain rfl := u2.is
    have hp2 : rpR (mUp (mUp m 106 1 0) 106 97 0) l1 l2 A := hp.of fun b i q => by rw [mUp.no (by omega), mUp.no (by omega)]
    have e96' : mUp (mUp m 106 1 0) 106 97 0 106 96 = 1 := by rw [mUp.no (by omega), mUp.no (by omega)]; exact e96
    have e97 : mUp (mUp m 106 1 0) 106 97 0 106 97 = 0 := mUp.yes ⟨rfl, rfl⟩
    have hf2 : fmR μ (mUp (mUp m 106 1 0) 106 97 0) := hf.trans fun b i q1 q2 q3 => by rw [mUp.no (by omega), mUp.no (by omega)]
    have e01 : mUp (mUp m 106 1 0) 106 97 0 106 1 = 0 := by rw [mUp.no (by omega)]; exact mUp.yes ⟨rfl, rfl⟩
    generalize mUp (mUp m 106 1 0) 106 97 0 = m2 at hp2 e96' e97 hf2 e01 ⊢
    have ut : ∀ m3 : mM, m3 106 96 = 1 → m3 106 97 = 0 → (uT (mkMs A l1 l2) = 0 ↔ (m3 106 96 = 0 ∨ ¬ m3 106 97 = 0)) := fun m3 g1 g2 => ⟨fun q => absurd q (by show ¬ (1 : Int) = 0; decide), fun q => by
      rcases q with q | q
      · omega
      · exact absurd g2 q⟩
    have rt := hp2.rt
    obtain ⟨h1, h2, h3, h4, h5, h6, h7, h8, h9, h10, h11, h12⟩ := hp2
    refine ⟨fun q => absurd rfl q, fun _ y ey ry => ⟨fun c2 => ?_, fun c2 => ?_⟩⟩
    · have nb : ¬ bakM A l2 := fun q => (h6.mpr q) (ey.trans c2)
      refine J7 _ _ _ ?_ hf2 e01
      rw [eM]
      refine ⟨ut m2 e96' e97, fun _ => ⟨by rw [h2, (mkMs.not nb).1], by rw [h3, (mkMs.not nb).2], fun i hi => ?_, fun i hi => ?_, rt⟩⟩
      · rw [(mkMs.not nb).1] at hi
        show m2 166 i = (gtP (l1 ++ l2) i).1 ∧ m2 167 i = (gtP (l1 ++ l2) i).2
        rw [gtP.l hi]
        exact h4 i hi
      · rw [(mkMs.not nb).2] at hi
        show m2 168 i = (gtP (l1 ++ l2) (uW (mkMs A l1 l2) + i)).1 ∧ m2 169 i = (gtP (l1 ++ l2) (uW (mkMs A l1 l2) + i)).2
        rw [(mkMs.not nb).1, gtP.r]
        exact h5 i hi
    · have yb : bakM A l2 := h6.mp fun q => c2 (ey.symm.trans q)
      refine loopF.im (fun i m3 => ∃ t : Nat, i = (t : Int) ∧ t ≤ l2.length ∧ m3 106 88 = ((l1.length + t : Nat) : Int) ∧ (∀ j, j < l1.length + t → m3 166 j = getA (l1 ++ l2) j ∧ m3 167 j = getL (l1 ++ l2) j) ∧ ∀ b i, ¬ (b = 106 ∧ i = 88) → ¬ b = 166 → ¬ b = 167 → m3 b i = m2 b i) (fun i => (1001 - i).toNat) ⟨0, rfl, Nat.zero_le _, h2, fun j hj => by unfold getA getL; rw [gtP.l hj]; exact h4 j hj, fun _ _ _ _ _ => rfl⟩ (by omega) ?_
      rintro rc i m3 ⟨t, ei, tl, e88, hr, f3⟩ ih i' m' ee ri T3 F3 g eg rg c ec rcc
      cases ee
      subst ei
      rw [f3 _ _ (by omega) (by omega) (by omega), h3] at ec
      refine ⟨fun ce m4 u4 _ => ?_, fun ce x ex _ m4 u4 _ y2 ey2 _ m5 u5 _ m6 u6 _ => ?_⟩
      · obtain rfl := u4.is
        have et : t = l2.length := by omega
        subst et
        refine J7 _ _ _ ?_ (hf2.trans fun b i q1 q2 q3 => by rw [mUp.no (by omega)]; exact f3 b i (by omega) (by omega) (by omega)) (by rw [mUp.no (by omega), f3 _ _ (by omega) (by omega) (by omega)]; exact e01)
        rw [eM]
        refine ⟨ut _ (by rw [mUp.no (by omega), f3 _ _ (by omega) (by omega) (by omega)]; exact e96') (by rw [mUp.no (by omega), f3 _ _ (by omega) (by omega) (by omega)]; exact e97), fun _ => ⟨?_, ?_, fun i hi => ?_, fun i hi => ?_, ?_⟩⟩
        · rw [mUp.no (by omega), e88, (mkMs.bak yb).1]
        · have w2 : uA (mkMs A l1 l2) = 0 := (mkMs.bak yb).2
          rw [w2]
          exact mUp.yes ⟨rfl, rfl⟩
        · rw [(mkMs.bak yb).1] at hi
          rw [mUp.no (by omega), mUp.no (by omega)]
          exact hr i hi
        · rw [(mkMs.bak yb).2] at hi
          exact absurd hi (Nat.not_lt_zero i)
        · have e126 : ∀ i, mUp m3 106 91 0 126 i = m2 126 i := fun i => by
            rw [mUp.no (by omega)]
            exact f3 _ _ (by omega) (by omega) (by omega)
          have q : rpR (fun b i => if b = 126 then mUp m3 106 91 0 126 i else m2 b i) l1 l2 A := rpR.of (m := m2) ⟨h1, h2, h3, h4, h5, h6, h7, h8, h9, h10, h11, h12⟩ fun b i q => by
            show (if b = 126 then mUp m3 106 91 0 126 i else m2 b i) = m2 b i
            by_cases cb : b = 126
            · rw [if_pos cb, cb]; exact e126 i
            · rw [if_neg cb]
          exact q.rt
      · have eg' : g = ((l1.length + t : Nat) : Int) := by omega
        subst eg'
        rw [Int.toNat_natCast] at ex u4 ey2 u5
        obtain rfl := u4.is
        rw [mUp.no (by omega)] at ey2
        obtain rfl := u5.is
        obtain rfl := u6.is
        rw [f3 _ _ (by omega) (by omega) (by omega)] at ex ey2
        have hx := h5 t (by omega)
        refine ih _ _ ⟨t + 1, by omega, by omega, ?_, fun j hj => ?_, fun b i q1 q2 q3 => ?_⟩ (by omega)
        · rw [mUp.yes ⟨rfl, rfl⟩]
          omega
        · rw [mUp.no (by omega), mUp.no (by omega), mUp.no (show ¬ (167 = 106 ∧ j = 88) by omega)]
          by_cases cj : j = l1.length + t
          · subst cj
            rw [mUp.yes ⟨rfl, rfl⟩, mUp.yes ⟨rfl, rfl⟩]
            unfold getA getL
            rw [gtP.r]
            exact ⟨ex.symm.trans hx.1, ey2.symm.trans hx.2⟩
          · rw [mUp.no (by omega), mUp.no (by omega), mUp.no (by omega)]
            exact hr j (by omega)
        · rw [mUp.no (by omega), mUp.no (by omega), mUp.no (by omega)]
          exact f3 b i q1 q2 q3
  refine loopF.im (fun i m => 0 ≤ i ∧ (∀ j : Nat, (j : Int) < i → m 172 j = -99999999) ∧ fmR μ m) (fun i => (5 - i).toNat) ⟨Int.le_refl _, fun j hj => by omega, fun _ _ _ _ _ => rfl⟩ (by omega) ?_
  rintro rc i m ⟨i0, h172, hf⟩ ih i' m' ee ri T F
  cases ee
  refine ⟨fun ci => ?_, fun ci m1 u1 _ => ?_⟩
  rotate_left 1
  · obtain rfl := u1.is
    refine ih _ _ ⟨by omega, fun j hj => ?_, hf.trans fun b i q1 q2 q3 => mUp.no (by omega)⟩ (by omega)
    by_cases cj : (j : Int) = i
    · exact mUp.yes ⟨rfl, by omega⟩
    · rw [mUp.no (by omega)]
      exact h172 j (by omega)
  have n1' : m 172 1 = -99999999 := h172 1 (by omega)
  have n2' : m 172 2 = -99999999 := h172 2 (by omega)
  clear ih h172
  refine loopF.im (fun i m1 => 0 ≤ i ∧ (∀ j : Nat, (j : Int) < i → m1 171 j = 0) ∧ m1 172 1 = -99999999 ∧ m1 172 2 = -99999999 ∧ fmR μ m1) (fun i => (257 - i).toNat) ⟨Int.le_refl _, fun j hj => by omega, n1', n2', hf⟩ (by omega) ?_
  rintro rc2 i2 m1 ⟨j0, h171, k1, k2, hf1⟩ ih i' m' ee ri2 T1 F1
  cases ee
  refine ⟨fun ci m2 u2 _ m3 u3 _ m4 u4 _ m5 u5 _ m6 u6 _ m7 u7 _ m8 u8 _ m9 u9 _ => ?_, fun ci m2 u2 _ => ?_⟩
  rotate_left 1
  · obtain rfl := u2.is
    refine ih _ _ ⟨by omega, fun j hj => ?_, by rw [mUp.no (by omega)]; exact k1, by rw [mUp.no (by omega)]; exact k2, hf1.trans fun b i q1 q2 q3 => mUp.no (by omega)⟩ (by omega)
    by_cases cj : (j : Int) = i2
    · exact mUp.yes ⟨rfl, by omega⟩
    · rw [mUp.no (by omega)]
      exact h171 j (by omega)
  clear ih
  have u8 : mU m7 126 960 0 m8 := u8
  have u9 : mU m8 126 961 100 m9 := u9
  have e88 : m9 106 88 = 0 := by
    rw [u9.is, mUp.no (by omega), u8.is, mUp.no (by omega), u7.is, mUp.no (by omega), u6.is, mUp.no (by omega), u5.is, mUp.no (by omega), u4.is, mUp.no (by omega), u3.is, mUp.no (by omega), u2.is, mUp.yes ⟨rfl, rfl⟩]
  have e91 : m9 106 91 = 0 := by
    rw [u9.is, mUp.no (by omega), u8.is, mUp.no (by omega), u7.is, mUp.no (by omega), u6.is, mUp.no (by omega), u5.is, mUp.no (by omega), u4.is, mUp.no (by omega), u3.is, mUp.yes ⟨rfl, rfl⟩]
  have e101 : m9 106 101 = 0 := by
    rw [u9.is, mUp.no (by omega), u8.is, mUp.no (by omega), u7.is, mUp.no (by omega), u6.is, mUp.no (by omega), u5.is, mUp.yes ⟨rfl, rfl⟩]
  have e98 : m9 106 98 = 0 := by
    rw [u9.is, mUp.no (by omega), u8.is, mUp.no (by omega), u7.is, mUp.no (by omega), u6.is, mUp.yes ⟨rfl, rfl⟩]
  have e99 : m9 106 99 = 0 := by
    rw [u9.is, mUp.no (by omega), u8.is, mUp.no (by omega), u7.is, mUp.yes ⟨rfl, rfl⟩]
  have e960 : m9 126 960 = 0 := by
    rw [u9.is, mUp.no (by omega), u8.is, mUp.yes ⟨rfl, rfl⟩]
  have e961 : m9 126 961 = 100 := by
    rw [u9.is, mUp.yes ⟨rfl, rfl⟩]
  have f9 : ∀ b i, ¬ (b = 106 ∧ (i = 88 ∨ i = 91 ∨ i = 93 ∨ i = 98 ∨ i = 99 ∨ i = 101)) → ¬ (b = 126 ∧ (i = 960 ∨ i = 961)) → m9 b i = m1 b i := fun b i q1 q2 => by
    rw [u9.is, mUp.no (by omega), u8.is, mUp.no (by omega), u7.is, mUp.no (by omega), u6.is, mUp.no (by omega), u5.is, mUp.no (by omega), u4.is, mUp.no (by omega), u3.is, mUp.no (by omega), u2.is, mUp.no (by omega)]
  have hf9 : fmR μ m9 := hf1.trans fun b i q1 q2 q3 => f9 b i (by omega) (by omega)
  have g171 : ∀ j : Nat, j < 256 → m9 171 j = 0 := fun j hj => by
    rw [f9 _ _ (by omega) (by omega)]
    exact h171 j (by omega)
  have g1 : m9 172 1 = -99999999 := by rw [f9 _ _ (by omega) (by omega)]; exact k1
  have g2 : m9 172 2 = -99999999 := by rw [f9 _ _ (by omega) (by omega)]; exact k2
  clear u2 u3 u4 u5 u6 u7 u8 u9
  refine loopF.im (fun i m => 2 ≤ i ∧ (∀ j : Nat, 2 ≤ j → (j : Int) < i → m 126 (960 + j) = 0) ∧ ∀ b i, ¬ (b = 126 ∧ 962 ≤ i ∧ i < 1000) → m b i = m9 b i) (fun i => (7 - i).toNat) ⟨Int.le_refl _, fun j h1 h2 => by omega, fun _ _ _ => rfl⟩ (by omega) ?_
  rintro rc3 i3 m10 ⟨p0, h126, f10⟩ ih i' m' ee ri3 T3 F3
  cases ee
  refine ⟨fun ci m11 u11 _ z ez rz => ?_, fun ci m11 u11 _ => ?_⟩
  rotate_left 1
  · rw [show (960 + i3).toNat = 960 + i3.toNat by omega] at u11
    obtain rfl := u11.is
    refine ih _ _ ⟨by omega, fun j h1 h2 => ?_, fun b i q => by rw [mUp.no (by omega)]; exact f10 b i q⟩ (by omega)
    by_cases cj : (j : Int) = i3
    · exact mUp.yes ⟨rfl, by omega⟩
    · rw [mUp.no (by omega)]
      exact h126 j h1 (by omega)
  clear ih
  obtain rfl := u11.is
  have f11 : ∀ b i, ¬ (b = 126 ∧ 962 ≤ i ∧ i < 1000) → ¬ (b = 106 ∧ i = 96) → mUp m10 106 96 1 b i = m9 b i := fun b i q1 q2 => by rw [mUp.no (by omega)]; exact f10 b i q1
  have e96 : mUp m10 106 96 1 106 96 = 1 := mUp.yes ⟨rfl, rfl⟩
  have g126 : ∀ j : Nat, 2 ≤ j → j < 6 → mUp m10 106 96 1 126 (960 + j) = 0 := fun j h1 h2 => by rw [mUp.no (by omega)]; exact h126 j h1 (by omega)
  generalize mUp m10 106 96 1 = m12 at f11 e96 g126 ez ⊢
  have hf12 : fmR μ m12 := hf9.trans fun b i q1 q2 q3 => f11 b i (by omega) (by omega)
  have o12 : oR m12 B n := by
    have e1 : m12 106 1 = μ 106 1 := by
      rw [f11 _ _ (by omega) (by omega), f9 _ _ (by omega) (by omega), F1.f (A_106 hw) rfl (rfl : m 106 1 = m 106 1)]
      exact F.f (A_106 hw) rfl rfl
    exact o.of e1 fun i => hf12 _ _ (by omega) (by omega) (by omega)
  have en : z = n := by rw [← ez]; exact o12.1
  subst en
  have hA : maR m12 A0 := ⟨fun j hj => by rw [f11 _ _ (by omega) (by omega)]; exact g171 j hj, ⟨fun _ => rfl, fun _ => by rw [f11 _ _ (by omega) (by omega)]; exact g2⟩, by rw [f11 _ _ (by omega) (by omega)]; exact e98, by rw [f11 _ _ (by omega) (by omega)]; exact e99, g126 2 (by omega) (by omega), g126 3 (by omega) (by omega), by
    have e := g126 4 (by omega) (by omega)
    have e : m12 126 964 = 0 := e
    rw [e]
    rfl, ⟨by
    have e := g126 5 (by omega) (by omega)
    have e : m12 126 (40 * (24 : Int) + 5).toNat = 0 := e
    rw [e]
    rfl, by rw [f11 _ _ (by omega) (by omega)]; exact e101⟩⟩
  have x1 : m12 172 1 = -99999999 := by rw [f11 _ _ (by omega) (by omega)]; exact g1
  have x88 : m12 106 88 = 0 := by rw [f11 _ _ (by omega) (by omega)]; exact e88
  have x91 : m12 106 91 = 0 := by rw [f11 _ _ (by omega) (by omega)]; exact e91
  have x960 : m12 126 960 = 0 := by rw [f11 _ _ (by omega) (by omega)]; exact e960
  have x961 : m12 126 961 = 100 := by rw [f11 _ _ (by omega) (by omega)]; exact e961
  have J4 : ∀ v : Int, (2 ≤ z → v = pr2 B 0) → WJ_X12_message_W_4 w Q m12 z v := by
    intro v hv rv
    have cl : (z < 2 ∨ z < 2 + pr2 B 0) → WP_X12_fails_W w m12 1 0 (fun m' => mT w m' → mF [172999] w m12 m' → WJ_X12_message_W_5 w Q m12 m') := fun q => X12_fails_s rfl (by omega) fun m' g f _ _ => J5c m12 m' (if_pos q) g (by rw [f _ _ (by omega)]; exact e96) (hf12.trans fun b i q1 q2 q3 => f b i (by omega))
    refine ⟨fun c => cl (Or.inl c), fun c => ⟨fun c2 => ?_, fun c2 => cl (Or.inr (by rw [← hv c]; exact c2))⟩⟩
    have ev := hv c
    have eM : msgS B z = msg2 B z (2 + v) := by
      rw [ev]
      exact if_neg (by omega)
    refine X12_partOf_s (N := 1001) (Or.inl ⟨rfl, rfl, rfl, rfl⟩) o12 ok (by omega) c2 (by omega) x88 ?_ ?_
    · intro ep y m13 g f13 _ _ _ _ _ _ _
      have hm0 : msgS B z = M0 := by
        rw [eM]
        unfold msg2
        rw [ep]
      have hf13 : fmR μ m13 := hf12.trans fun b i q1 q2 q3 => f13 b i (by omega) (by omega) (by omega) (by omega)
      have o13 : oR m13 B z := o12.of (f13 _ _ (by omega) (by omega) (by omega) (by omega)) fun i => f13 _ _ (by omega) (by omega) (by omega) (by omega)
      have y96 : m13 106 96 = 1 := by rw [f13 _ _ (by omega) (by omega) (by omega) (by omega)]; exact e96
      have hA13 : maR m13 A0 := hA.of fun b i q => f13 b i (by omega) (by omega) (by omega) (by omega)
      have y91 : m13 106 91 = 0 := by rw [f13 _ _ (by omega) (by omega) (by omega) (by omega)]; exact x91
      have clo : ∀ m' : mM, ¬ m' 172 1 = -99999999 → m' 106 96 = 1 → fmR μ m' → WJ_X12_message_W_5 w Q m12 m' := fun m' a b c => J5c m12 m' hm0 a b c
      have J10 : ∀ u : Int, WJ_X12_message_W_10 w Q m12 z v m13 u := by
        intro u ru
        have nt1 : WP_X12_fails_W w m13 1 (2 + v) (fun m' => mT w m' → mF [172999] w m13 m' → WJ_X12_message_W_5 w Q m12 m') := X12_fails_s rfl (by omega) fun m' a f _ _ => clo m' a (by rw [f _ _ (by omega)]; exact y96) (hf13.trans fun b i q1 q2 q3 => f b i (by omega))
        refine ⟨fun _ => nt1, fun c3 => ⟨fun c4 => ?_, fun _ => nt1⟩⟩
        refine X12_attributes_s (N := 1001) o13 ok (by omega) c4 (by omega) hA13 A0.ok fun m14 h14 f14 _ _ => ?_
        have g14 : ¬ m14 172 1 = -99999999 := by rw [f14 _ _ (by omega) (by omega) (by omega)]; exact g
        have y14 : m14 106 96 = 1 := by rw [f14 _ _ (by omega) (by omega) (by omega)]; exact y96
        have hf14 : fmR μ m14 := hf13.trans fun b i q1 q2 q3 => f14 b i (by omega) (by omega) (by omega)
        have fin : ∀ (y2 : Int) (m15 : mM), ¬ m15 172 1 = -99999999 → (∀ b i, ¬ (b = 172 ∧ i = 1) → ¬ (166 ≤ b ∧ b ≤ 169) → ¬ (b = 106 ∧ (i = 88 ∨ i = 91)) → m15 b i = m14 b i) → (mT w m15 → mF [106088, 106091, 166999, 167999, 168999, 169999, 172999] w m14 m15 → (0 ≤ y2 ∧ y2 ≤ 1) → ∀ z4236 : Int, m15 106 88 = z4236 → ∀ z4238 : Int, m15 106 91 = z4238 → ((z ≤ 2 + v + 2 + u) → WJ_X12_message_W_5 w Q m12 m15) ∧ ((2 + v + 2 + u < z) → ∀ z4247 : Int, m15 106 98 = z4247 → (0 ≤ z4247 ∧ z4247 ≤ 1) → ((z4247 = 0) → WP_X12_fails_W w m15 2 (2 + v + 2 + u) (fun m' => mT w m' → mF [172999] w m15 m' → WJ_X12_message_W_5 w Q m12 m')) ∧ ((¬ z4247 = 0) → ∀ z4258 : Int, m15 106 99 = z4258 → (0 ≤ z4258 ∧ z4258 ≤ 1) → ((¬ z4258 = 0) → WJ_X12_message_W_5 w Q m12 m15) ∧ ((z4258 = 0) → WP_X12_fails_W w m15 2 (2 + v + 2 + u) (fun m' => mT w m' → mF [172999] w m15 m' → WJ_X12_message_W_5 w Q m12 m'))))) := by
          intro y2 m15 g15 f15 _ _ _ _ _ _ _
          have y15 : m15 106 96 = 1 := by rw [f15 _ _ (by omega) (by omega) (by omega)]; exact y14
          have hf15 : fmR μ m15 := hf14.trans fun b i q1 q2 q3 => f15 b i (by omega) (by omega) (by omega)
          have nt : WP_X12_fails_W w m15 2 (2 + v + 2 + u) (fun m' => mT w m' → mF [172999] w m15 m' → WJ_X12_message_W_5 w Q m12 m') := X12_fails_s rfl (by omega) fun m' _ f _ _ => clo m' (by rw [f _ _ (by omega)]; exact g15) (by rw [f _ _ (by omega)]; exact y15) (hf15.trans fun b i q1 q2 q3 => f b i (by omega))
          exact ⟨fun _ => clo m15 g15 y15 hf15, fun _ _ _ _ => ⟨fun _ => nt, fun _ _ _ _ => ⟨fun _ => clo m15 g15 y15 hf15, fun _ => nt⟩⟩⟩
        exact X12_partOf_s (N := 1001) (Or.inr ⟨rfl, rfl, rfl, rfl⟩) (o13.fa f14) ok (by omega) (Int.le_refl _) (by omega) (by rw [f14 _ _ (by omega) (by omega) (by omega)]; exact y91) (fun _ y2 m15 a b => fin y2 m15 a fun c i q1 q2 q3 => b c i (by omega) (by omega) (by omega) (by omega)) (fun l m15 _ _ _ f15 => fin 1 m15 (by rw [f15 _ _ (by omega) (by omega) (by omega)]; exact g14) fun b i q1 q2 q3 => f15 b i (by omega) (by omega) (by omega))
      exact ⟨fun _ => J10 _, fun cb => X12_number2_s (c := 2) o13 rfl (by omega) (by omega) (by decide) (by decide) fun _ => J10 _⟩
    · intro l1 m13 ep y88 r1 f13 _ _ _ _ _ _ _
      have hf13 : fmR μ m13 := hf12.trans fun b i q1 q2 q3 => f13 b i (by omega) (by omega) (by omega)
      have o13 : oR m13 B z := o12.of (f13 _ _ (by omega) (by omega) (by omega)) fun i => f13 _ _ (by omega) (by omega) (by omega)
      have y96 : m13 106 96 = 1 := by rw [f13 _ _ (by omega) (by omega) (by omega)]; exact e96
      have y1 : m13 172 1 = -99999999 := by rw [f13 _ _ (by omega) (by omega) (by omega)]; exact x1
      have y91 : m13 106 91 = 0 := by rw [f13 _ _ (by omega) (by omega) (by omega)]; exact x91
      have y960 : m13 126 960 = 0 := by rw [f13 _ _ (by omega) (by omega) (by omega)]; exact x960
      have y961 : m13 126 961 = 100 := by rw [f13 _ _ (by omega) (by omega) (by omega)]; exact x961
      have hA13 : maR m13 A0 := hA.of fun b i q => f13 b i (by omega) (by omega) (by omega)
      have eM2 : msgS B z = if z < 2 + v + 2 ∨ z < 2 + v + 2 + pr2 B (2 + v) then M0 else msg3 B z (2 + v) (2 + v + 2 + pr2 B (2 + v)) l1 := by
        rw [eM]
        unfold msg2
        rw [ep]
      have J10 : ∀ u : Int, (2 + v + 2 ≤ z → u = pr2 B (2 + v)) → WJ_X12_message_W_10 w Q m12 z v m13 u := by
        intro u hu ru
        have nt1 : (z < 2 + v + 2 ∨ z < 2 + v + 2 + pr2 B (2 + v)) → WP_X12_fails_W w m13 1 (2 + v) (fun m' => mT w m' → mF [172999] w m13 m' → WJ_X12_message_W_5 w Q m12 m') := fun q => X12_fails_s rfl (by omega) fun m' a f _ _ => J5c m12 m' (eM2.trans (if_pos q)) a (by rw [f _ _ (by omega)]; exact y96) (hf13.trans fun b i q1 q2 q3 => f b i (by omega))
        refine ⟨fun c3 => nt1 (Or.inl c3), fun c3 => ⟨fun c4 => ?_, fun c4 => nt1 (Or.inr (by rw [← hu c3]; exact c4))⟩⟩
        have eu := hu c3
        have eM3 : msgS B z = msg3 B z (2 + v) (2 + v + 2 + u) l1 := by
          rw [eM2, ← eu]
          exact if_neg (by omega)
        refine X12_attributes_s (N := 1001) o13 ok (by omega) c4 (by omega) hA13 A0.ok fun m14 h14 f14 _ _ => ?_
        have hf14 : fmR μ m14 := hf13.trans fun b i q1 q2 q3 => f14 b i (by omega) (by omega) (by omega)
        refine X12_partOf_s (N := 1001) (Or.inr ⟨rfl, rfl, rfl, rfl⟩) (o13.fa f14) ok (by omega) (Int.le_refl _) (by omega) (by rw [f14 _ _ (by omega) (by omega) (by omega)]; exact y91) ?_ ?_
        · intro ep2 y2 m15 g15 f15 _ _ _ _ _ _ _
          have hm0 : msgS B z = M0 := by
            rw [eM3]
            unfold msg3
            rw [ep2]
          have y15 : m15 106 96 = 1 := by rw [f15 _ _ (by omega) (by omega) (by omega) (by omega), f14 _ _ (by omega) (by omega) (by omega)]; exact y96
          have hf15 : fmR μ m15 := hf14.trans fun b i q1 q2 q3 => f15 b i (by omega) (by omega) (by omega) (by omega)
          have nt : WP_X12_fails_W w m15 2 (2 + v + 2 + u) (fun m' => mT w m' → mF [172999] w m15 m' → WJ_X12_message_W_5 w Q m12 m') := X12_fails_s rfl (by omega) fun m' _ f _ _ => J5c m12 m' hm0 (by rw [f _ _ (by omega)]; exact g15) (by rw [f _ _ (by omega)]; exact y15) (hf15.trans fun b i q1 q2 q3 => f b i (by omega))
          exact ⟨fun _ => J5c m12 m15 hm0 g15 y15 hf15, fun _ _ _ _ => ⟨fun _ => nt, fun _ _ _ _ => ⟨fun _ => J5c m12 m15 hm0 g15 y15 hf15, fun _ => nt⟩⟩⟩
        · intro l2 m15 ep2 z91 r5 f15 _ _ _ _ _ _ _
          have hm1 : msgS B z = mkMs (atS B (2 + v + 2 + u) 1001 (2 + v + 2) A0) l1 l2 := by
            rw [eM3]
            unfold msg3
            rw [ep2]
          generalize atS B (2 + v + 2 + u) 1001 (2 + v + 2) A0 = A at hm1 h14
          have y15 : m15 106 96 = 1 := by rw [f15 _ _ (by omega) (by omega) (by omega), f14 _ _ (by omega) (by omega) (by omega)]; exact y96
          have hf15 : fmR μ m15 := hf14.trans fun b i q1 q2 q3 => f15 b i (by omega) (by omega) (by omega)
          obtain ⟨g1, g2, g3, g4, g5, g6, g7, g8⟩ := h14
          have rp : ∀ m' : mM, (∀ b i, ¬ (b = 172 ∧ i = 2) → m' b i = m15 b i) → (¬ m' 172 2 = -99999999 ↔ bakM A l2) → rpR m' l1 l2 A := by
            intro m' f' hb
            have f2 : ∀ b i, ¬ (b = 172 ∧ i = 2) → ¬ b = 168 → ¬ b = 169 → ¬ (b = 106 ∧ i = 91) → m' b i = m14 b i := fun b i q1 q2 q3 q4 => (f' b i q1).trans (f15 b i q2 q3 q4)
            refine ⟨?_, ?_, (f' _ _ (by omega)).trans z91, fun j hj => ?_, fun j hj => by rw [f' _ _ (by omega), f' _ _ (by omega)]; exact r5 j hj, hb, ?_, ?_, (f2 _ _ (by omega) (by omega) (by omega) (by omega)).trans g5, (f2 _ _ (by omega) (by omega) (by omega) (by omega)).trans g6, ?_, ?_⟩
            · rw [f2 _ _ (by omega) (by omega) (by omega) (by omega), f14 _ _ (by omega) (by omega) (by omega)]; exact y1
            · rw [f2 _ _ (by omega) (by omega) (by omega) (by omega), f14 _ _ (by omega) (by omega) (by omega)]; exact y88
            · rw [f2 _ _ (by omega) (by omega) (by omega) (by omega), f2 _ _ (by omega) (by omega) (by omega) (by omega), f14 _ _ (by omega) (by omega) (by omega), f14 _ _ (by omega) (by omega) (by omega)]; exact r1 j hj
            · rw [f2 _ _ (by omega) (by omega) (by omega) (by omega), f14 _ _ (by omega) (by omega) (by omega)]; exact y960
            · rw [f2 _ _ (by omega) (by omega) (by omega) (by omega), f14 _ _ (by omega) (by omega) (by omega)]; exact y961
            · rw [f2 _ _ (by omega) (by omega) (by omega) (by omega), rowL.ext (f := fun k => m14 126 (966 + k)) fun i _ => f2 _ _ (by omega) (by omega) (by omega) (by omega)]; exact g7
            · rw [f2 _ _ (by omega) (by omega) (by omega) (by omega), rowL.ext (f := fun k => m14 126 (40 * (24 : Int) + 26 + (k : Int)).toNat) fun i _ => f2 _ _ (by omega) (by omega) (by omega) (by omega)]; exact g8.1
          have e2 : m15 172 2 = m14 172 2 := f15 _ _ (by omega) (by omega) (by omega)
          have nt : ¬ l2 = [] → (aO A = 0 ∨ aY A = 0) → WP_X12_fails_W w m15 2 (2 + v + 2 + u) (fun m' => mT w m' → mF [172999] w m15 m' → WJ_X12_message_W_5 w Q m12 m') := fun q1 q2 => X12_fails_s rfl (by omega) fun m' n' f' _ _ => J5 m12 m' l1 l2 A hm1 (rp m' f' ⟨fun _ => Or.inr ⟨q1, q2⟩, fun _ => n'⟩) (by rw [f' _ _ (by omega)]; exact y15) (hf15.trans fun b i q1 q2 q3 => f' b i (by omega))
          have ne := pfS.ne ep2
          refine ⟨fun c5 => J5 m12 m15 l1 l2 A hm1 (rp m15 (fun _ _ _ => rfl) ?_) y15 hf15, fun c5 y3 ey3 ry3 => ⟨fun cy => nt (fun q => by have := ne.mp q; omega) (Or.inl ?_), fun cy y4 ey4 ry4 => ⟨fun cy2 => J5 m12 m15 l1 l2 A hm1 (rp m15 (fun _ _ _ => rfl) ?_) y15 hf15, fun cy2 => nt (fun q => by have := ne.mp q; omega) (Or.inr ?_)⟩⟩⟩
          · have l0 := ne.mpr c5
            rw [e2]
            exact ⟨fun q => Or.inl fun q2 => q (g2.mpr q2), fun q => by
              rcases q with q | q
              · exact fun q2 => q (g2.mp q2)
              · exact absurd l0 q.1⟩
          · rw [f15 _ _ (by omega) (by omega) (by omega), g3] at ey3
            exact ey3.trans cy
          · rw [f15 _ _ (by omega) (by omega) (by omega), g3] at ey3
            rw [f15 _ _ (by omega) (by omega) (by omega), g4] at ey4
            rw [e2]
            exact ⟨fun q => Or.inl fun q2 => q (g2.mpr q2), fun q => by
              rcases q with q | ⟨_, q | q⟩
              · exact fun q2 => q (g2.mp q2)
              · exact absurd (ey3.symm.trans q) cy
              · exact absurd (ey4.symm.trans q) cy2⟩
          · rw [f15 _ _ (by omega) (by omega) (by omega), g4] at ey4
            exact ey4.trans cy2
      exact ⟨fun cb => J10 _ fun q => by omega, fun cb => X12_number2_s (c := 2) o13 rfl (by omega) (by omega) (by decide) (by decide) fun _ => J10 _ fun _ => nmX.two⟩
  exact ⟨fun cz => J4 _ fun q => by omega, fun cz => X12_number2_s (c := 2) o12 rfl (by omega) (by omega) (by decide) (by decide) fun _ => J4 _ fun _ => nmX.two⟩
end MsgR
end
section
/-! message: both halves. -/
def lMC : List Nat := [10, 76004, 76005, 76006, 76007, 76008, 76013, 76014, 76016, 77999, 78999, 79999, 80999, 84999, 85999, 200002, 200003, 200004, 200005, 200006, 200007, 200008, 201999, 202999]
theorem jgC.msg {w : mW} {μ m : mM} {J : Ju} (hw : mWF w) (h : jgC w μ J) (F : mF lMC w μ m) : jgC w m J := by
  obtain ⟨h1, h2, h3⟩ := h
  have n8 : m 21 8 = μ 21 8 := F.f (A_21 hw) rfl rfl
  refine ⟨fun p hp => ?_, fun i hi => ?_, fun x n h0 h9 => ?_⟩
  · rw [n8] at hp
    obtain ⟨b, eb, c, cp, cn, cf, cl, ⟨⟨A0, A1, A2, A3, A4, A5⟩, x1, x2, x3, x4, x5⟩, hl, hr, hm, hk⟩ := h1 p hp
    have fc : m c = μ c := funext fun i => F.f A1 rfl rfl
    have ff : m cf = μ cf := funext fun i => F.f A4 rfl rfl
    have fl : m cl = μ cl := funext fun i => F.f A5 rfl rfl
    exact ⟨b, F.f (A_22 hw) rfl eb, c, cp, cn, cf, cl, ⟨⟨A0, A1, A2, A3, A4, A5⟩, F.f A0 rfl x1, F.f A0 rfl x2, F.f A0 rfl x3, F.f A0 rfl x4, F.f A0 rfl x5⟩, F.f A0 rfl hl, by rw [fc, ff, fl]; exact hr, hm, fun k hk' => ⟨⟨F.f A2 rfl (hk k hk').1.1, by rw [F.f A3 rfl (rfl : μ cn k = μ cn k)]; exact (hk k hk').1.2⟩, (hk k hk').2⟩⟩
  · exact ⟨F.f (A_7 hw) rfl (h2 i hi).1, F.f (A_8 hw) rfl (h2 i hi).2⟩
  · have e18 : m 6 18 = μ 6 18 := F.f (A_6 hw) rfl rfl
    rw [e18, ← h3 x n h0 h9]
    refine vC.cg (fun b i hb => ?_) (F.f (A_6 hw) rfl rfl)
    have hb' : b = 7 ∨ b = 8 ∨ b = 9 ∨ b = 14 ∨ b = 15 ∨ b = 16 ∨ b = 17 ∨ b = 18 ∨ b = 19 ∨ b = 20 := by omega
    rcases hb' with e | e | e | e | e | e | e | e | e | e
    · subst e; exact F.f (A_7 hw) rfl rfl
    · subst e; exact F.f (A_8 hw) rfl rfl
    · subst e; exact F.f (A_9 hw) rfl rfl
    · subst e; exact F.f (A_14 hw) rfl rfl
    · subst e; exact F.f (A_15 hw) rfl rfl
    · subst e; exact F.f (A_16 hw) rfl rfl
    · subst e; exact F.f (A_17 hw) rfl rfl
    · subst e; exact F.f (A_18 hw) rfl rfl
    · subst e; exact F.f (A_19 hw) rfl rfl
    · subst e; exact F.f (A_20 hw) rfl rfl
def msg! (x : St) (M : Ms) : St := (xE x, xJ x, xS x, xO x, M)
section Msg
variable {w : mW} {μ m : mM} {x : St} {B : Int → Int} {n : Int}
/-- nothing but the tape and the message has changed -/
theorem KCl.msg {M : Ms} (h : KCl w μ x) (f : ∀ b i, ¬ (b = 0 ∧ i = 10) → ¬ (76 ≤ b ∧ b ≤ 85) → m b i = μ b i) (hM : msC m M) (jg : jgC w m (xJ x)) : KCl w m (msg! x M) := by
  obtain ⟨⟨h1, h2, h3, ⟨l1, l2, l3, l4, l5, l6⟩, h5, h6⟩, _, rl, pl, sn, hh⟩ := h
  have hA : ∀ b, 192 ≤ b → m b = μ b := fun b hb => funext fun i => f b i (by omega) (by omega)
  have tb : ∀ t, tbA m t = tbA μ t := fun t => congrArg Int.toNat (f 11 t (by omega) (by omega))
  have db : ∀ t, dbA m t = dbA μ t := fun t => congrArg Int.toNat (f 10 t (by omega) (by omega))
  have ft : ∀ t j, t < eT (xE x) → m (tbA μ t + j) = μ (tbA μ t + j) := fun t j ht => hA _ (by have := (l1 t ht).2.1; omega)
  have fd : ∀ d j, d < eD (xE x) → m (dbA μ d + j) = μ (dbA μ d + j) := fun d j hd => hA _ (by have := (l2 d hd).2.1; omega)
  refine ⟨⟨by rw [f _ _ (by omega) (by omega)]; exact h1, by rw [f _ _ (by omega) (by omega)]; exact h2, by rw [f _ _ (by omega) (by omega)]; exact h3, ⟨fun t ht => ?_, fun d hd => ?_, fun t s ht hs hne => ?_, fun t s ht hs hne => ?_, fun t d ht hd => ?_, fun i hi => by rw [f _ _ (by omega) (by omega)]; exact l6 i hi⟩, fun t ht => ?_, fun d hd => ?_⟩, jg, fun t s ht hs => ?_, fun t i ht hi => by rw [f _ _ (by omega) (by omega)]; exact pl t i ht hi, ?_, (rtC.of (fun i => f _ _ (by omega) (by omega)) (fun i => f _ _ (by omega) (by omega)) (fun i => f _ _ (by omega) (by omega))).trans hh.1, hM⟩
  · rw [tb, f _ _ (by omega) (by omega), ft t 2 ht, ft t 3 ht]; exact l1 t ht
  · rw [db, f _ _ (by omega) (by omega), fd d 4 hd]; exact l2 d hd
  · rw [tb, tb]; exact l3 t s ht hs hne
  · rw [db, db]; exact l4 t s ht hs hne
  · rw [tb, db]; exact l5 t d ht hd
  · have f0 := ft t 0 ht
    rw [Nat.add_zero] at f0
    rw [tb, f0, ft t 1 ht]; exact h5 t ht
  · have f0 := fd d 0 hd
    rw [Nat.add_zero] at f0
    rw [db, f0, fd d 1 hd, fd d 2 hd]; exact h6 d hd
  · have f0 := ft t 0 ht
    rw [Nat.add_zero] at f0
    rw [tb, f0]; exact rl t s ht hs
  · exact snC.cg (E := xE x) sn (fun i => f _ _ (by omega) (by omega)) (fun i => f _ _ (by omega) (by omega)) (fun t b i ht h1 h2 => by rw [hA b (by have := (l1 t ht).2.1; omega)]) (fun d b i hd h1 => by rw [hA b (by have := (l2 d hd).2.1; omega)]) (fun i _ _ => f _ _ (by omega) (by omega)) (fun i => f _ _ (by omega) (by omega)) (fun i => f _ _ (by omega) (by omega)) (fun b i _ _ => f _ _ (by omega) (by omega))
theorem KRf.msg {M : Ms} (hw : mWF w) (hT : mT w μ) (h : KRf μ x) (f : fmR μ m) (hM : msR m M) : KRf m (msg! x M) := by
  obtain ⟨⟨h1, h2, h3, h4, h5⟩, jg, rl, pl, sn, hh, hg, hn⟩ := h
  have g : ∀ b, ¬ b = 126 → ¬ (b = 106 ∨ (166 ≤ b ∧ b ≤ 173)) → m b = μ b := fun b q1 q2 => funext fun i => f b i (by omega) (by omega) (by omega)
  have r0 : rtR m 0 = rtR μ 0 := rtR.cg (hT.rb hw (by omega)).1.2 (hT.rb hw (by omega)).2.2 fun k hk => f _ _ (by omega) (by omega) (by omega)
  refine ⟨⟨by rw [f _ _ (by omega) (by omega) (by omega)]; exact h1, by rw [f _ _ (by omega) (by omega) (by omega)]; exact h2, by rw [f _ _ (by omega) (by omega) (by omega)]; exact h3, fun t ht => ?_, fun d hd => ?_⟩, jg.cg (fun b hb => g b (by omega) (by omega)) (f _ _ (by omega) (by omega) (by omega)) (f _ _ (by omega) (by omega) (by omega)) (f _ _ (by omega) (by omega) (by omega)), fun t s ht hs => ?_, fun t i ht hi => by rw [f _ _ (by omega) (by omega) (by omega)]; exact pl t i ht hi, ?_, ⟨?_, hM⟩, hg.cg fun b i hb => f b i (by omega) (by omega) (by omega), ?_⟩
  · rw [g 110 (by omega) (by omega), g 112 (by omega) (by omega), g 113 (by omega) (by omega), g 114 (by omega) (by omega), g 115 (by omega) (by omega)]; exact h4 t ht
  · rw [g 162 (by omega) (by omega), g 163 (by omega) (by omega), g 164 (by omega) (by omega)]; exact h5 d hd
  · rw [g 111 (by omega) (by omega)]; exact rl t s ht hs
  · obtain ⟨s1, s2, ⟨s3, s4, s5⟩, s6, s7, s8⟩ := sn
    have rt : ∀ r : Int, 25 ≤ r → rtR m r = rtR μ r := fun r hr => rtR.cg (hT.rb hw (by omega)).1.2 (hT.rb hw (by omega)).2.2 fun k hk => f _ _ (by omega) (by omega) (by omega)
    have ea : ∀ e, atR m e = atR μ e := fun e => by unfold atR; rw [g 157 (by omega) (by omega), g 159 (by omega) (by omega)]
    have em : ∀ e, mdR m e = mdR μ e := fun e => by unfold mdR; rw [g 158 (by omega) (by omega), g 160 (by omega) (by omega)]
    refine ⟨fun s hs => ?_, fun k hk => ?_, ⟨fun e he h0 => ?_, fun y hy => ?_, ?_⟩, ?_, ?_, ?_⟩
    · rw [rt _ (by omega), rt _ (by omega), rt _ (by omega), g 154 (by omega) (by omega), g 155 (by omega) (by omega), g 156 (by omega) (by omega), g 157 (by omega) (by omega)]
      exact s1 s hs
    · rw [g 161 (by omega) (by omega), rt _ (by omega)]; exact s2 k hk
    · rw [ea] at h0 ⊢; exact s3 e he h0
    · rw [ea, em, f 106 72 (by omega) (by omega) (by omega)]; exact s4 y hy
    · refine List.Pairwise.imp (fun {a b} q => ?_) s5
      rw [em, em]; exact q
    · rw [f 106 71 (by omega) (by omega) (by omega)]; exact s6
    · rw [f 106 73 (by omega) (by omega) (by omega)]; exact s7
    · rw [f 106 72 (by omega) (by omega) (by omega)]; exact s8
  · show haR m = xO x
    show haR m = (xH x).1
    rw [← hh.1]
    unfold haR
    rw [f 106 70 (by omega) (by omega) (by omega), r0]
  · rw [f 106 70 (by omega) (by omega) (by omega), r0]; exact hn
theorem X_msg {M : Ms} (k : KX x) (hM : msX M) : kxS x (msg! x M) := ⟨⟨k.1, k.2.1, k.2.2.1, k.2.2.2.1, k.2.2.2.2.1, ⟨k.2.2.2.2.2.1.1, hM, k.2.2.2.2.2.1.2.2⟩, k.2.2.2.2.2.2⟩, Int.le_refl _, by show sMd (xS x) ≤ sMd (xS x) + 50000; omega⟩
theorem C_message (hw : mWF w) (h : KCl w μ x) (e10 : μ 0 10 = n) (tp : ∀ i : Int, 0 ≤ i → i < n → μ 1 i.toNat = B i) (ok : oOk B n) (n0 : 0 ≤ n) : WP_X11_message_W w μ (fun _ m => msX (msgS B n) ∧ (mF lMC w μ m → KCl w m (msg! x (msgS B n))) ∧ m 0 10 = 0) :=
  X11_message_s e10 tp ok n0 fun _ m h1 h2 f e => ⟨h2, fun F => h.msg f h1 (h.2.1.msg hw F), e⟩
theorem R_message (hw : mWF w) (hT : mT w μ) (h : KRf μ x) (o : oR μ B n) (ok : oOk B n) : WP_X12_message_W w μ (fun _ m => KRf m (msg! x (msgS B n)) ∧ m 106 1 = 0) :=
  X12_message_s hw o ok fun _ m h1 f e => ⟨h.msg hw hT f h1, e⟩
end Msg
end
section
/-! A new domain. -/
def dm! (E : En) : En := (eT E, eA E, eB E, eU E, eL E, eG E, ePl E, eTh E, eOw E, eSt E, eGr E, eP E, eD E + 1)
def dmX (x : St) : St := (dm! (xE x), xJ x, xS x, xH x)
def dmY (y : S2) : S2 := (dmX (yX y), yR y, yD y)
def dom! (y : S2) : Int × S2 := if eD (xE (yX y)) = 10 then (-3, y) else ((eD (xE (yX y)) : Int), dmY y)
theorem snR.dm {m : mM} {E : En} {S : Sn} (h : snR m E S) (hD : eD E < 10) : snR m (dm! E) S := ⟨h.1, fun k hk => h.2.1 k (Or.inr (by
  have hk : k < 10 * (eD E + 1) ∨ k < 100 := hk
  omega)), h.2.2⟩
theorem KX.dm {x : St} (k : KX x) (hD : eD (xE x) < 10) : KX (dmX x) := by
  obtain ⟨sn, ⟨⟨t1, t2, t3, t4, t5⟩, ⟨h1, h2⟩, pa, ow, ub⟩, ok, ng, hE, ⟨ho, hm, hs, hp⟩, md, up⟩ := k
  refine ⟨sn, ⟨⟨fun t ht => ?_, t2, t3, by show eD (xE x) + 1 ≤ 10; omega, t5⟩, ⟨h1, fun d p hd hq h10 => ?_⟩, pa, fun d p hd hq => ?_, fun d hd => ub d (by have hd : eD (xE x) + 1 ≤ d := hd; omega)⟩, ok, ng, hE, ⟨ho, hm, hs, fun j hj => hp j (by have hj : 10 * (eD (xE x) + 1) ≤ j := hj; omega)⟩, md, up⟩
  · obtain ⟨a1, a2, a3⟩ := t1 t ht
    refine ⟨a1, ⟨a2.1, ?_⟩, ⟨a3.1, ?_⟩⟩
    · have := a2.2
      show eA (xE x) t < ((eD (xE x) + 1 : Nat) : Int)
      omega
    · have := a3.2
      show eB (xE x) t < ((eD (xE x) + 1 : Nat) : Int)
      omega
  · have hd : d < eD (xE x) + 1 := hd
    show eOw (xE x) (10 * d + p) < 0
    by_cases c : d = eD (xE x)
    · rw [(ub d (by omega)).1 p h10]; decide
    · exact h2 d p (by omega) hq h10
  · have hd : d < eD (xE x) + 1 := hd
    show eOw (xE x) (10 * d + p) ≤ 2
    by_cases c : d = eD (xE x)
    · rw [(ub d (by omega)).1 p hq]; decide
    · exact ow d p (by omega) hq
section Dom
variable {w : mW} {μ : mM} {y : S2}
theorem X_domain (k : K2X y) : k2S y (dom! y).2 := by
  by_cases c : eD (xE (yX y)) = 10
  · have e : dom! y = (-3, y) := if_pos c
    rw [e]; exact k2S.refl k
  · have e : dom! y = ((eD (xE (yX y)) : Int), dmY y) := if_neg c
    rw [e]
    have d10 := k.1.2.1.1.2.2.2.1
    exact ⟨⟨k.1.dm (by omega), k.2⟩, Int.le_refl _, by show sMd (xS (yX y)) ≤ sMd (xS (yX y)) + 50000; omega⟩
theorem R_domain (hw : mWF w) (hT : mT w μ) (h : K2R μ y) (k : K2X y) : WP_X12_domain_W w μ (fun z m => z = (dom! y).1 ∧ K2R m (dom! y).2) := by
  have d10 := k.1.2.1.1.2.2.2.1
  intro n en rn
  have eD' : μ 106 5 = (eD (xE (yX y)) : Int) := h.1.1.2.2.1
  refine ⟨fun c m1 u1 _ => ?_, fun c => ?_⟩
  · have e : dom! y = ((eD (xE (yX y)) : Int), dmY y) := if_neg (by omega)
    rw [e]
    obtain rfl := u1.is
    refine ⟨by show n + 1 - 1 = (eD (xE (yX y)) : Int); omega, ?_, ?_, ?_⟩
    · obtain ⟨⟨h1, h2, h3, h4, h5⟩, jg, rl, pl, sn, hh, hg, hn⟩ := h.1
      have f : ∀ b i, ¬ (b = 106 ∧ i = 5) → mUp μ 106 5 (n + 1) b i = μ b i := fun b i q => mUp.no (by omega)
      have g : ∀ b, ¬ b = 106 → mUp μ 106 5 (n + 1) b = μ b := fun b q => funext fun i => f b i (by omega)
      refine ⟨⟨by rw [f _ _ (by omega)]; exact h1, by rw [f _ _ (by omega)]; exact h2, ?_, fun t ht => ?_, fun d hd => ?_⟩, jg.cg (fun b hb => g b (by omega)) (f _ _ (by omega)) (f _ _ (by omega)) (f _ _ (by omega)), fun t s ht hs => by rw [g 111 (by omega)]; exact rl t s ht hs, fun t i ht hi => by rw [f _ _ (by omega)]; exact pl t i ht hi, (snR.cg (E := xE (yX y)) sn hw hT fun b i hb => f b i (by omega)).dm (by omega), hRf.of hw hT (fun b i hb => f b i (by omega)) hh, hg.cg fun b i hb => f b i (by omega), ?_⟩
      · rw [mUp.yes ⟨rfl, rfl⟩]
        show n + 1 = ((eD (xE (yX y)) + 1 : Nat) : Int)
        omega
      · rw [g 110 (by omega), g 112 (by omega), g 113 (by omega), g 114 (by omega), g 115 (by omega)]; exact h4 t ht
      · rw [g 162 (by omega), g 163 (by omega), g 164 (by omega)]
        exact h5 d (Or.inr (by
          have hd : d < eD (xE (yX y)) + 1 ∨ d < 10 := hd
          omega))
      · rw [f 106 70 (by omega), rtR.cg (μ := μ) (s := 0) (hT.rb hw (by omega)).1.2 (hT.rb hw (by omega)).2.2 fun j hj => f _ _ (by omega)]
        exact hn
    · refine ⟨by rw [mUp.no (by omega)]; exact h.2.1.1, fun i hi => ?_⟩
      rw [mUp.no (by omega), mUp.no (by omega), mUp.no (by omega), mUp.no (by omega), mUp.no (by omega), mUp.no (by omega), mUp.no (by omega)]
      exact h.2.1.2 i hi
    · rw [mUp.no (by omega)]; exact h.2.2
  · have e : dom! y = (-3, y) := if_pos (by omega)
    rw [e]; exact ⟨rfl, h⟩
end Dom
end
