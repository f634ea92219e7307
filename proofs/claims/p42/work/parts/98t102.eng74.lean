section
/-! The reference's reader: small steps of a test. -/
section StepsR
variable {w : mW} {μ m1 : mM} {s r m x y s' x' y' a b z c : Int} {u u' : Out} {e : Int → Cfg}
theorem wiK.at (h : RSo μ e u) (n : wiK μ m1 a b z) (g : m1 106 37 = 0) : μ 106 37 = 0 ∧ μ 106 34 + 1 ≤ m1 106 34 ∧ a ≤ z ∧ z ≤ b := by
  rcases n with ⟨k1, k2, k3, k4⟩ | ⟨_, k⟩ | ⟨_, _, k⟩
  · have y := nxR.at h k4 g
    exact ⟨y.1, y.2.2.1 (by omega), by omega, by omega⟩
  · exact absurd g (k.no (by decide))
  · exact absurd g (k.no (by decide))
theorem sgK.at (h : RSo μ e u) (n : sgK μ m1 c) (g : m1 106 37 = 0) : μ 106 37 = 0 ∧ μ 106 34 + 1 ≤ m1 106 34 ∧ μ 106 35 = 3 ∧ μ 106 36 = c := by
  rcases n with ⟨k1, k2⟩ | ⟨_, k⟩
  · have y := nxR.at h k2 g
    exact ⟨y.1, y.2.2.1 (by omega), k1.1, k1.2⟩
  · exact absurd g (k.no (by decide))
theorem RG.sgk (h : RG μ s r m x y u) (hc : RSc m1 (fun p => (s', p, r, m, x', y'))) (f : frK μ m1) (n : sgK μ m1 c) (h0 : 0 ≤ c) (hs : ¬ s = -1) (hE : ∀ p v f q, nxC mskF (μ 106 39) (s, p, r, m, x, y) (1000 + c) v f q = (s', q, r, m, x', y')) (hu : ∀ v, nxO s m x u (1000 + c) v = u') : RG m1 s' r m x' y' u' := by
  refine ⟨hc, ?_⟩
  rcases n with ⟨k1, k2⟩ | ⟨_, k⟩
  · refine h.2.next f.tb k2 hs (fun p t v f q ty _ => ?_) (fun t v ty _ => ?_)
    · rw [(ty.sg c (1000 + c) h0 rfl).mpr k1]; exact hE p v f q
    · rw [(ty.sg c (1000 + c) h0 rfl).mpr k1]; exact hu v
  · exact RSo.wrong k (by decide)
theorem RG.dot (h : RG μ 10 r m x y u) (f : frK μ m1) (n : sgK μ m1 46) : RG m1 9 r m (x + 1) y u := RG.sgk h (h.1.dot f.tb n) f n (by decide) (by decide) (fun _ _ _ _ => rfl) (fun _ => rfl)
theorem RG.slash (h : RG μ 11 r m x y u) (f : frK μ m1) (n : sgK μ m1 47) : RG m1 12 r m x 0 u := RG.sgk h (h.1.slash f.tb n) f n (by decide) (by decide) (fun _ _ _ _ => rfl) (fun _ => rfl)
theorem RG.noto (h : RG μ 13 r m x y u) (ht : ¬ (μ 106 37 = 0 ∧ μ 106 35 = 1 ∧ μ 106 36 = 5)) : RG μ 5 r m 0 0 (ouNum u 32) := by
  refine ⟨h.1.noto ht, h.2.stay (by decide) (fun p t v f q g ty _ => ?_) (fun t v g ty _ => ?_)⟩
  · show n13 p r m x t q = _
    unfold n13
    rw [if_neg (fun e => ht ⟨g, (ty.word 5 (by decide)).mp e⟩)]
  · show (if t = 5 then u else ouNum u 32) = _
    rw [if_neg (fun e => ht ⟨g, (ty.word 5 (by decide)).mp e⟩)]
theorem loopF.gim {B : (Int × mM → Prop) → Int × mM → Prop} (I : Int → mM → Nat → Prop) {n : Nat} {z : Int} {μ : mM} {kk : Nat} (h : I z μ kk) (hm : kk < n) (step : ∀ (rc : Int × mM → Prop) (z : Int) (μ : mM) (kk : Nat), I z μ kk → (∀ z' μ' k', I z' μ' k' → k' < kk → rc (z', μ')) → B rc (z, μ)) : loopF B False n (z, μ) := loopF.gh (fun s k => I s.1 s.2 k) (fun rc s k hI ih => step rc s.1 s.2 k hI fun x' y' k' => ih (x', y') k') n (z, μ) kk h hm
/-- four octets with points between them -/
theorem X12_addressRead_s {Q : Int → mM → Prop} (hw : mWF w) (h : RG μ 9 r m 0 0 u) (k : ∀ (z : Int) (m2 : mM), mT w m2 → RG m2 11 r m z 0 u → frK μ m2 → (m2 106 37 = 0 → μ 106 37 = 0 ∧ μ 106 34 ≤ m2 106 34) → Q z m2) : WP_X12_addressRead_Wx w μ Q := by
  refine loopF.iim (fun a i m2 => (0 ≤ i ∧ i ≤ 4) ∧ frK μ m2 ∧ (i = 4 → RG m2 11 r m a 0 u) ∧ (¬ i = 4 → RG m2 9 r m i a u) ∧ (m2 106 37 = 0 → μ 106 37 = 0 ∧ μ 106 34 ≤ m2 106 34)) (fun _ i => (4 - i).toNat) ⟨by decide, frK.refl, fun q => absurd q (by decide), fun _ => h, fun g => ⟨g, Int.le_refl _⟩⟩ (by decide) ?_
  rintro rc a i m2 ⟨ri, f2, h4, h9, hg2⟩ ih a' i' m2' eq ra ri' hT2 _
  cases eq
  refine ⟨fun q => k a m2 hT2 (h4 (by omega)) f2 hg2, fun q s es => X12_within_s hw fun v m3 hT3 n3 f3 _ _ rv o eo => ⟨fun q3 => ?_, fun q3 => X12_sign_s hw fun m4 hT4 n4 f4 _ _ => ?_⟩⟩
  · have c2 := h9 (by omega)
    have c3 := (RG.h9 c2 f3 n3 es eo).1 (by omega)
    refine ih _ _ _ ⟨by omega, f2.trans f3, fun _ => c3, fun q => absurd (show i + 1 = 4 by omega) q, fun g => ?_⟩ (by omega)
    have y := n3.at c2.2 g
    have y2 := hg2 y.1
    exact ⟨y2.1, by omega⟩
  · have c2 := h9 (by omega)
    have c3 := (RG.h9 c2 f3 n3 es eo).2 (by omega)
    have c4 := RG.dot c3 f4 n4
    refine ih _ _ _ ⟨by omega, f2.trans (f3.trans f4), fun q => absurd q (by omega), fun _ => c4, fun g => ?_⟩ (by omega)
    have y1 := n4.at c3.2 g
    have y := n3.at c2.2 y1.1
    have y2 := hg2 y.1
    exact ⟨y2.1, by omega⟩
end StepsR
/-! What a test writes. -/
def tsF (d n : Nat) (μ m : mM) : Prop := ∀ b i, 106 ≤ b → b < 192 → ¬ ((b = 106 ∧ 33 ≤ i ∧ i ≤ 38) ∨ (b = 130 ∧ i = d) ∨ ((132 ≤ b ∧ b ≤ 139) ∧ i = 300 * d + n)) → m b i = μ b i
def tkFr (d n : Nat) (μ m : mM) : Prop := ∀ b i, 106 ≤ b → b < 192 → ¬ ((b = 106 ∧ ((33 ≤ i ∧ i ≤ 38) ∨ i = 59)) ∨ (b = 130 ∧ i = d) ∨ ((132 ≤ b ∧ b ≤ 139) ∧ i = 300 * d + n) ∨ (b = 142 ∧ i = d) ∨ ((b = 143 ∨ b = 144) ∧ 41 * d ≤ i ∧ i < 41 * d + 41) ∨ (145 ≤ b ∧ b ≤ 150)) → m b i = μ b i
theorem tkFr.df {d n : Nat} {μ m : mM} (h : tkFr d n μ m) (hn : n ≤ 299) : dF d μ m := fun b i q1 q2 q3 => h b i q1 q2 (by omega)
theorem tsF.tf {d n : Nat} {μ m : mM} (h : tsF d n μ m) : tkFr d n μ m := fun b i q1 q2 q3 => h b i q1 q2 (by omega)
/-- a test is begun: its what and turned stand -/
def TS (d n : Nat) (vv tn : Int) (μ m : mM) : Prop := tsF d n μ m ∧ m 130 d = (n : Int) + 1 ∧ m 132 (300 * d + n) = vv ∧ m 133 (300 * d + n) = tn
section TestR
variable {w : mW} {d n : Nat} {vv tn L r m : Int} {m2 mb m3 : mM} {u : Out} {Q : mM → Prop}
theorem TS.fr (h : TS d n vv tn m2 mb) (f : frK mb m3) : TS d n vv tn m2 m3 := ⟨fun b i q1 q2 q3 => (f b i q1 q2 (by omega)).trans (h.1 b i q1 q2 q3), (f _ _ (by omega) (by omega) (by omega)).trans h.2.1, (f _ _ (by omega) (by omega) (by omega)).trans h.2.2.1, (f _ _ (by omega) (by omega) (by omega)).trans h.2.2.2⟩
theorem TS.up {k : Nat} {v : Int} (h : TS d n vv tn m2 mb) (hk : 134 ≤ k ∧ k ≤ 139) : TS d n vv tn m2 (mUp mb k (300 * d + n) v) := ⟨fun b i q1 q2 q3 => by rw [mUp.no (by omega)]; exact h.1 b i q1 q2 q3, by rw [mUp.no (by omega)]; exact h.2.1, by rw [mUp.no (by omega)]; exact h.2.2.1, by rw [mUp.no (by omega)]; exact h.2.2.2⟩
theorem TS.df (h : TS d n vv tn m2 mb) (hn : n ≤ 299) : dF d m2 mb := h.1.tf.df hn
theorem TS.nm {W : Wst} (h : TS d n vv tn m2 mb) (k : nmD m2 d W m) : nmD mb d W m := k.of (h.1 _ _ (by omega) (by omega) (by omega)) (fun j => h.1 _ _ (by omega) (by omega) (by omega)) (fun j => h.1 _ _ (by omega) (by omega) (by omega))
theorem upR {k i : Nat} {v : Int} {m : mM} (hk : 127 ≤ k ∧ k ≤ 150) : roF m (mUp m k i v) := fun b j q1 q2 => mUp.no (by omega)
/-- a test was read: what is promised -/
def tsP (d n : Nat) (L : Int) (m2 m1 : mM) (u u' : Out) (m' : Int) : Prop := m1 106 37 = 0 → L ≤ m1 106 34 ∧ ∃ (W : Wst) (t : Tst), u' = ouT (ouW u W) t ∧ tkFr d n m2 m1 ∧ m1 130 d = (n : Int) + 1 ∧ tsR m1 (300 * d + n) t ∧ nmD m1 d W m' ∧ 0 ≤ m' ∧ m' ≤ 40
def tstC (d n : Nat) (L r : Int) (m2 : mM) (u : Out) (Q : mM → Prop) : Prop := ∀ (m1 : mM) (m' : Int) (u' : Out), RG m1 5 r m' 0 0 u' → dF d m2 m1 → tsP d n L m2 m1 u u' m' → Q m1
/-- the test's what is taken, the next token in hand -/
def tsE (d n : Nat) (L vv tn m : Int) (m2 mb : mM) (u : Out) : Prop := TS d n vv tn m2 mb ∧ n ≤ 299 ∧ (mb 106 37 = 0 → L ≤ mb 106 34 ∧ nmD m2 d (oW u) m ∧ 0 ≤ m ∧ m ≤ 40)
theorem tsE.ix (d n : Nat) : (300 * (d : Int) + (n : Int)).toNat = 300 * d + n := by omega
theorem tEnd {m1 : mM} {t : Tst} (hE : tsE d n L vv tn m m2 mb u) (k : tstC d n L r m2 u Q) (T : TS d n vv tn m2 m1) (c : RG m1 5 r m 0 0 (ouT u t)) (hg : m1 106 37 = 0 → mb 106 37 = 0 ∧ mb 106 34 ≤ m1 106 34 ∧ tsR m1 (300 * d + n) t) : Q m1 := k m1 m _ c (T.df hE.2.1) fun g => by
  obtain ⟨g1, g2, g3⟩ := hg g
  obtain ⟨y1, y2, y3⟩ := hE.2.2 g1
  exact ⟨by omega, oW u, t, rfl, T.1.tf, T.2.1, g3, T.nm y2, y3⟩
theorem tBad {m1 : mM} (hE : tsE d n L vv tn m m2 mb u) (k : tstC d n L r m2 u Q) (T : TS d n vv tn m2 m1) (rs : RSc m1 (fun p => (5, p, r, m, 0, 0))) (hf : ¬ m1 106 37 = 0) : Q m1 := k m1 m u ⟨rs, RSo.vac hf⟩ (T.df hE.2.1) fun g => absurd g hf
theorem tsR.num {i : Nat} {z : Int} (h1 : mb 132 i = vv) (h2 : mb 133 i = tn) (h3 : mb 134 i = z) (hv : vv = 8 ∨ vv = 9 ∨ vv = 14) : tsR mb i (vv, tn, z, 0, 0, pc0) := ⟨h1, h2, fun e => absurd (show vv = 4 from e) (by omega), fun e => absurd (show vv = 6 from e) (by omega), fun _ => h3, fun e => absurd (show vv = 10 from e) (by omega), fun e => absurd (show 11 ≤ vv ∧ vv ≤ 13 from e) (by omega), fun e => absurd (show vv = 15 from e) (by omega)⟩
theorem tsR.rel {i : Nat} {a z : Int} (h1 : mb 132 i = vv) (h2 : mb 133 i = tn) (h3 : mb 134 i = z) (h4 : mb 135 i = a + 60) (hv : 11 ≤ vv ∧ vv ≤ 13) : tsR mb i (vv, tn, a, z, 0, pc0) := ⟨h1, h2, fun e => absurd (show vv = 4 from e) (by omega), fun e => absurd (show vv = 6 from e) (by omega), fun e => absurd (show vv = 8 ∨ vv = 9 ∨ vv = 14 from e) (by omega), fun e => absurd (show vv = 10 from e) (by omega), fun _ => ⟨h4, h3⟩, fun e => absurd (show vv = 15 from e) (by omega)⟩
theorem tsR.tie {i : Nat} {z : Int} (h1 : mb 132 i = 10) (h2 : mb 133 i = tn) (h3 : mb 134 i = z) : tsR mb i (10, tn, z - 16, 0, 0, pc0) := ⟨h1, h2, fun e => absurd (show (10 : Int) = 4 from e) (by decide), fun e => absurd (show (10 : Int) = 6 from e) (by decide), fun e => absurd (show (10 : Int) = 8 ∨ (10 : Int) = 9 ∨ (10 : Int) = 14 from e) (by decide), fun _ => by show mb 134 i = z - 16 + 16; omega, fun e => absurd (show (11 : Int) ≤ 10 ∧ (10 : Int) ≤ 13 from e) (by decide), fun e => absurd (show (10 : Int) = 15 from e) (by decide)⟩
theorem wdV.of {z : Int} (h : 20 ≤ z ∧ z ≤ 22) : wdV (vdOf z) = z := by
  have e : z = 20 ∨ z = 21 ∨ z = 22 := by omega
  rcases e with e | e | e <;> subst e <;> decide
theorem tsR.vd {i : Nat} {z : Int} (h1 : mb 132 i = 15) (h2 : mb 133 i = tn) (h3 : mb 134 i = z) (hz : 20 ≤ z ∧ z ≤ 22) : tsR mb i (15, tn, vdOf z, 0, 0, pc0) := ⟨h1, h2, fun e => absurd (show (15 : Int) = 4 from e) (by decide), fun e => absurd (show (15 : Int) = 6 from e) (by decide), fun e => absurd (show (15 : Int) = 8 ∨ (15 : Int) = 9 ∨ (15 : Int) = 14 from e) (by decide), fun e => absurd (show (15 : Int) = 10 from e) (by decide), fun e => absurd (show (11 : Int) ≤ 15 ∧ (15 : Int) ≤ 13 from e) (by decide), fun _ => h3.trans (wdV.of hz).symm⟩
theorem tsR.held {i : Nat} {a l z : Int} (h1 : mb 132 i = 4) (h2 : mb 133 i = tn) (h3 : mb 134 i = a) (h4 : mb 135 i = l) (h5 : mb 136 i = z) : tsR mb i (4, tn, a, l, z, pc0) := ⟨h1, h2, fun _ => ⟨h3, h4, h5⟩, fun e => absurd (show (4 : Int) = 6 from e) (by decide), fun e => absurd (show (4 : Int) = 8 ∨ (4 : Int) = 9 ∨ (4 : Int) = 14 from e) (by decide), fun e => absurd (show (4 : Int) = 10 from e) (by decide), fun e => absurd (show (11 : Int) ≤ 4 ∧ (4 : Int) ≤ 13 from e) (by decide), fun e => absurd (show (4 : Int) = 15 from e) (by decide)⟩
theorem tsR.way {i : Nat} {P : Pce} (h1 : mb 132 i = 6) (h2 : mb 133 i = tn) (h3 : isS (mb 137 i) P.1 ∧ isS (mb 138 i) P.2.1 ∧ (mb 139 i = 1 ↔ P.2.2)) : tsR mb i (6, tn, 0, 0, 0, P) := ⟨h1, h2, fun e => absurd (show (6 : Int) = 4 from e) (by decide), fun _ => h3, fun e => absurd (show (6 : Int) = 8 ∨ (6 : Int) = 9 ∨ (6 : Int) = 14 from e) (by decide), fun e => absurd (show (6 : Int) = 10 from e) (by decide), fun e => absurd (show (11 : Int) ≤ 6 ∧ (6 : Int) ≤ 13 from e) (by decide), fun e => absurd (show (6 : Int) = 15 from e) (by decide)⟩
/-- a number -/
theorem ts_num {hi : Int} (hw : mWF w) (hE : tsE d n L vv tn m m2 mb u) (hv : vv = 8 ∨ vv = 9 ∨ vv = 14) (c : RG mb 2 r m 0 hi (ouC u (tn, vv, 0, 0))) (k : tstC d n L r m2 u Q) : WP_X12_within_Wx w mb (0) (hi) (fun z m3 => mT w m3 → mF [106033, 106034, 106035, 106036, 106037, 106038] w mb m3 → ((-2147483648) ≤ z ∧ z ≤ 2147483647) → ∀ m4 : mM, mU m3 134 (((300 * (d : Int)) + (n : Int)).toNat) z m4 → mT w m4 → Q m4) := by
  refine X12_within_s hw fun z m3 hT3 n3 f3 _ _ rz m4 u4 _ => ?_
  obtain rfl := u4.is
  rw [tsE.ix]
  have eT : tsNum (tn, vv, 0, 0) z = (vv, tn, z, 0, 0, pc0) := by
    unfold tsNum
    rw [if_neg (show ¬ vv = 4 by omega), if_neg (show ¬ (11 ≤ vv ∧ vv ≤ 13) by omega)]
  have c3 : RG m3 5 r m 0 0 (ouT u (vv, tn, z, 0, 0, pc0)) := (RG.num2 c f3 n3).ou (show ouT u (tsNum (tn, vv, 0, 0) z) = _ by rw [eT])
  have T4 := (hE.1.fr f3).up (k := 134) (v := z) (by decide)
  have ro : roF m3 (mUp m3 134 (300 * d + n) z) := upR (by decide)
  refine tEnd hE k T4 (c3.same ro.tb ro.ts) fun g => ?_
  have y := n3.at c.2 (ro.ts.2.2.2.2.1.symm.trans g)
  have z4 := ro.ts.2.1
  exact ⟨y.1, by omega, tsR.num T4.2.2.1 T4.2.2.2 (mUp.yes ⟨rfl, rfl⟩) hv⟩
/-- a word -/
theorem ts_word {lo hi v : Int} (hw : mWF w) (hE : tsE d n L vv tn m m2 mb u) (hv : (vv = 10 ∧ lo = 16 ∧ hi = 19) ∨ (vv = 15 ∧ lo = 20 ∧ hi = 22)) (c : RG mb 3 r m lo hi (ouC u (tn, vv, 0, 0))) (k : tstC d n L r m2 u Q) (ev : mb 106 36 = v) (h3 : (m3 = mb ∧ mb 106 35 = 1 ∧ lo ≤ v ∧ v ≤ hi) ∨ (¬ m3 106 37 = 0 ∧ (∀ e' : Int → Cfg, RSc m3 e') ∧ frK mb m3)) : ∀ m4 : mM, mU m3 134 (((300 * (d : Int)) + (n : Int)).toNat) v m4 → mT w m4 → ∀ z1 : Int, m4 106 37 = z1 → (0 ≤ z1 ∧ z1 ≤ 4) → ∀ m5 : mM, mF [106033, 106034, 106035, 106036, 106037, 106038] w m4 m5 → mT w m5 → ∀ z2 : Int, m5 106 37 = z2 → ∀ z3 : Int, m5 106 33 = z3 → ∀ z4 : Int, m5 106 34 = z4 → ∀ z5 : Int, m5 106 35 = z5 → ∀ z6 : Int, m5 106 36 = z6 → nxR m4 m5 → Q m5 := by
  intro m4 u4 _ z1 _ _ m5 F5 _ z2 _ z3 _ z4 _ z5 _ z6 _ n5
  obtain rfl := u4.is
  rw [tsE.ix] at F5 n5
  have f5 := mF.tok hw F5
  have ro : roF m3 (mUp m3 134 (300 * d + n) v) := upR (by decide)
  rcases h3 with ⟨e3, h35, hr⟩ | ⟨b3, rs, f3⟩
  · subst e3
    have T5 := (hE.1.up (k := 134) (v := v) (by decide)).fr f5
    have c4 := c.same ro.tb ro.ts
    have x35 : mUp m3 134 (300 * d + n) v 106 35 = 1 := ro.ts.2.2.1.trans h35
    have x36 : mUp m3 134 (300 * d + n) v 106 36 = v := ro.ts.2.2.2.1.trans ev
    have c5 : RG m5 5 r m 0 0 (ouT u (tsWord (tn, vv, 0, 0) v)) := by
      refine RG.nx c4 (c4.1.oneN f5.tb n5 (by omega) ⟨x35, by omega, by omega⟩) f5.tb n5 (by decide) (fun p t v' f q ty _ => ?_) (fun t v' ty _ => ?_)
      · have e : t = v := (ty.word v (by omega)).mpr ⟨x35, x36⟩
        show n3 r m lo hi t f q = _
        unfold n3
        rw [if_neg (by omega)]
      · have e : t = v := (ty.word v (by omega)).mpr ⟨x35, x36⟩
        show ouWord (ouC u (tn, vv, 0, 0)) t = _
        rw [e]
        rfl
    have e134 : m5 134 (300 * d + n) = v := (f5 _ _ (by omega) (by omega) (by omega)).trans (mUp.yes ⟨rfl, rfl⟩)
    rcases hv with ⟨e1, e2, e3⟩ | ⟨e1, e2, e3⟩
    · subst e1
      refine tEnd hE k T5 (t := (10, tn, v - 16, 0, 0, pc0)) c5 fun g => ?_
      have y := nxR.at c4.2 n5 g
      have z4 := ro.ts.2.1
      exact ⟨ro.ts.2.2.2.2.1.symm.trans y.1, by omega, tsR.tie T5.2.2.1 T5.2.2.2 e134⟩
    · subst e1
      refine tEnd hE k T5 (t := (15, tn, vdOf v, 0, 0, pc0)) c5 fun g => ?_
      have y := nxR.at c4.2 n5 g
      have z4 := ro.ts.2.1
      exact ⟨ro.ts.2.2.2.2.1.symm.trans y.1, by omega, tsR.vd T5.2.2.1 T5.2.2.2 e134 (by omega)⟩
  · have T5 := ((hE.1.fr f3).up (k := 134) (v := v) (by decide)).fr f5
    have b4 : ¬ mUp m3 134 (300 * d + n) v 106 37 = 0 := by
      rw [ro.ts.2.2.2.2.1]; exact b3
    exact tBad hE k T5 (((rs (fun p => (5, p, r, m, 0, 0))).same ro.tb ro.ts).nxB f5.tb n5 b4) (n5.nb b4)
/-- a relation and a number -/
theorem ts_rel {hi v : Int} (hw : mWF w) (hE : tsE d n L vv tn m m2 mb u) (hv : 11 ≤ vv ∧ vv ≤ 13) (hh : (vv = 12 → hi = 1000) ∧ (¬ vv = 12 → hi = 1000000)) (c : RG mb 4 r m hi 0 (ouC u (tn, vv, 0, 0))) (k : tstC d n L r m2 u Q) (ev : mb 106 36 = v) (h3 : (m3 = mb ∧ mb 106 35 = 3 ∧ (v = 60 ∨ v = 61 ∨ v = 62)) ∨ (¬ m3 106 37 = 0 ∧ (∀ e' : Int → Cfg, RSc m3 e') ∧ frK mb m3)) : WJ_X12_test_Wx_3 w Q vv (d : Int) (n : Int) mb v m3 := by
  intro _ _ m4 u4 _ z1 _ _ m5 F5 _ z2 _ z3 _ z4 _ z5 _ z6 _ n5
  obtain rfl := u4.is
  rw [tsE.ix] at F5 n5
  rw [tsE.ix]
  have f5 := mF.tok hw F5
  have ro : roF m3 (mUp m3 135 (300 * d + n) v) := upR (by decide)
  have e135 : m5 135 (300 * d + n) = v := (f5 _ _ (by omega) (by omega) (by omega)).trans (mUp.yes ⟨rfl, rfl⟩)
  obtain ⟨T5, c5, hg5⟩ : TS d n vv tn m2 m5 ∧ RG m5 2 r m 0 hi (ouC u (tn, vv, v - 60, 0)) ∧ (m5 106 37 = 0 → mb 106 37 = 0 ∧ mb 106 34 ≤ m5 106 34) := by
    rcases h3 with ⟨e3, h35, hr⟩ | ⟨b3, rs, f3⟩
    · subst e3
      have c4 := c.same ro.tb ro.ts
      have x35 : mUp m3 135 (300 * d + n) v 106 35 = 3 := ro.ts.2.2.1.trans h35
      have x36 : mUp m3 135 (300 * d + n) v 106 36 = v := ro.ts.2.2.2.1.trans ev
      refine ⟨(hE.1.up (k := 135) (v := v) (by decide)).fr f5, ?_, fun g => ?_⟩
      · refine RG.nx c4 (c4.1.relN f5.tb n5 ⟨x35, by rw [x36]; exact hr⟩) f5.tb n5 (by decide) (fun p t v' f q ty _ => ?_) (fun t v' ty _ => ?_)
        · have e : t = 1000 + v := (ty.sg v (1000 + v) (by omega) rfl).mpr ⟨x35, x36⟩
          show n4 r m hi t f q = _
          unfold n4
          rw [if_pos (by omega)]
        · have e : t = 1000 + v := (ty.sg v (1000 + v) (by omega) rfl).mpr ⟨x35, x36⟩
          show ouA (ouC u (tn, vv, 0, 0)) (t - 1060) = _
          rw [e, show 1000 + v - 1060 = v - 60 by omega]
          rfl
      · have y := nxR.at c4.2 n5 g
        have z4 := ro.ts.2.1
        exact ⟨ro.ts.2.2.2.2.1.symm.trans y.1, by omega⟩
    · have b4 : ¬ mUp m3 135 (300 * d + n) v 106 37 = 0 := by
        rw [ro.ts.2.2.2.2.1]; exact b3
      refine ⟨((hE.1.fr f3).up (k := 135) (v := v) (by decide)).fr f5, ⟨((rs (fun p => (2, p, r, m, 0, hi))).same ro.tb ro.ts).nxB f5.tb n5 b4, RSo.vac (n5.nb b4)⟩, fun g => absurd g (n5.nb b4)⟩
  have fin : ∀ hi2 : Int, hi2 = hi → WP_X12_within_Wx w m5 (0) (hi2) (fun z m6 => mT w m6 → mF [106033, 106034, 106035, 106036, 106037, 106038] w m5 m6 → ((-2147483648) ≤ z ∧ z ≤ 2147483647) → ∀ m7 : mM, mU m6 134 (300 * d + n) z m7 → mT w m7 → Q m7) := by
    intro hi2 eh
    subst eh
    refine X12_within_s hw fun z m6 hT6 n6 f6 _ _ rz m7 u7 _ => ?_
    obtain rfl := u7.is
    have eT : tsNum (tn, vv, v - 60, 0) z = (vv, tn, v - 60, z, 0, pc0) := by
      unfold tsNum
      rw [if_neg (show ¬ vv = 4 by omega), if_pos (show 11 ≤ vv ∧ vv ≤ 13 from hv)]
    have c6 : RG m6 5 r m 0 0 (ouT u (vv, tn, v - 60, z, 0, pc0)) := (RG.num2 c5 f6 n6).ou (show ouT u (tsNum (tn, vv, v - 60, 0) z) = _ by rw [eT])
    have T7 := (T5.fr f6).up (k := 134) (v := z) (by decide)
    have ro7 : roF m6 (mUp m6 134 (300 * d + n) z) := upR (by decide)
    refine tEnd hE k T7 (c6.same ro7.tb ro7.ts) fun g => ?_
    have y := n6.at c5.2 (ro7.ts.2.2.2.2.1.symm.trans g)
    have y2 := hg5 y.1
    have z4 := ro7.ts.2.1
    refine ⟨y2.1, by omega, tsR.rel T7.2.2.1 T7.2.2.2 (mUp.yes ⟨rfl, rfl⟩) ?_ hv⟩
    rw [mUp.no (by omega), f6 135 (300 * d + n) (by omega) (by omega) (by omega), e135]
    omega
  exact ⟨fun e => fin _ (hh.2 e).symm, fun e => fin _ (hh.1 e).symm⟩
/-- a way -/
theorem ts_way (hw : mWF w) (hd : mb 106 58 = (d : Int)) (h12 : d ≤ 12) (hE : tsE d n L 6 tn m m2 mb u) (c : RG mb 14 r m 0 0 (ouC u (tn, 6, 0, 0))) (k : tstC d n L r m2 u Q) : WP_X12_wayTest_Wx w mb ((300 * (d : Int)) + (n : Int)) (fun m3 => mT w m3 → mF [106033, 106034, 106035, 106036, 106037, 106038, 106059, 137999, 138999, 139999, 142999, 143999, 144999, 145999, 146999, 147999, 148999, 149999, 150999] w mb m3 → Q m3) := by
  have ei := tsE.ix d n
  refine X12_wayTest_s hw hd h12 c (fun g => ⟨hE.1.nm (hE.2.2 g).2.1, (hE.2.2 g).2.2⟩) fun m1 m' u' c1 f1 hq _ _ => ?_
  have f1' : tkFr d n m2 m1 := fun b i q1 q2 q3 => (f1 b i q1 q2 (by omega)).trans (hE.1.1 b i q1 q2 (by omega))
  refine k m1 m' u' c1 (f1'.df hE.2.1) fun g => ?_
  obtain ⟨g1, a1, nm, rm, W, P, eu, s1, s2, s3⟩ := hq g
  rw [ei] at s1 s2 s3
  subst eu
  refine ⟨by have := (hE.2.2 g1).1; omega, W, (6, tn, 0, 0, 0, P), rfl, f1', (f1 _ _ (by omega) (by omega) (by omega)).trans hE.1.2.1, tsR.way (tn := tn) ((f1 _ _ (by omega) (by omega) (by omega)).trans hE.1.2.2.1) ((f1 _ _ (by omega) (by omega) (by omega)).trans hE.1.2.2.2) ⟨s1, s2, s3⟩, nm, rm⟩
/-- a prefix -/
theorem ts_held (hw : mWF w) (hE : tsE d n L 4 tn m m2 mb u) (c : RG mb 9 r m 0 0 (ouC u (tn, 4, 0, 0))) (k : tstC d n L r m2 u Q) : WP_X12_addressRead_Wx w mb (fun z3330 μ3326 => mT w μ3326 → mF [106033, 106034, 106035, 106036, 106037, 106038] w mb μ3326 → ((-2147483648) ≤ z3330 ∧ z3330 ≤ 2147483647) → ∀ μ3331 : mM, mU μ3326 134 (((300 * (d : Int)) + (n : Int)).toNat) z3330 μ3331 → mT w μ3331 → WP_X12_sign_Wx w μ3331 (47) (fun μ3334 => mT w μ3334 → mF [106033, 106034, 106035, 106036, 106037, 106038] w μ3331 μ3334 → ∀ z3338 : Int, μ3334 106 37 = z3338 → (0 ≤ z3338 ∧ z3338 ≤ 4) → ((¬ z3338 = 0) → (WJ_X12_test_Wx_6 w Q (d : Int) (n : Int) μ3334) μ3334) ∧ ((z3338 = 0) → ∀ z3489 : Int, μ3334 106 35 = z3489 → (0 ≤ z3489 ∧ z3489 ≤ 3) → ((¬ z3489 = 2) → (WJ_X12_test_Wx_6 w Q (d : Int) (n : Int) μ3334) μ3334) ∧ ((z3489 = 2) → ∀ z3494 : Int, μ3334 106 36 = z3494 → ((-2147483648) ≤ z3494 ∧ z3494 ≤ 2147483647) → WP_X12_in_W w μ3334 z3494 (0) (32) (fun z3501 _ => (0 ≤ z3501 ∧ z3501 ≤ 1) → ((z3501 = 0) → (WJ_X12_test_Wx_6 w Q (d : Int) (n : Int) μ3334) μ3334) ∧ ((¬ z3501 = 0) → WP_X12_mask_W w μ3334 z3494 (fun z3513 _ => ((-2147483648) ≤ z3513 ∧ z3513 ≤ 2147483647) → ∀ z3514 : Int, bXor z3513 ((-1) : Int) = z3514 → ∀ z3517 : Int, bAnd z3330 z3514 = z3517 → ((z3517 = 0) → (WJ_X12_test_Wx_6 w Q (d : Int) (n : Int) μ3334) μ3334) ∧ ((¬ z3517 = 0) → WP_X12_wrong_Wx w μ3334 (3) (fun μ3522 => mT w μ3522 → mF [106037, 106038] w μ3334 μ3522 → (WJ_X12_test_Wx_6 w Q (d : Int) (n : Int) μ3334) μ3522))))))))) := by
  refine X12_addressRead_s hw c fun a m3 _ c3 f3 hg3 => ?_
  intro _ _ _ m4 u4 _
  obtain rfl := u4.is
  rw [tsE.ix]
  have ro : roF m3 (mUp m3 134 (300 * d + n) a) := upR (by decide)
  have c4 := c3.same ro.tb ro.ts
  refine X12_sign_s hw fun m5 hT5 n5 f5 _ _ cc ecc rcc => ?_
  have c5 := RG.slash c4 f5 n5
  have T5 := ((hE.1.fr f3).up (k := 134) (v := a) (by decide)).fr f5
  have e134 : m5 134 (300 * d + n) = a := (f5 _ _ (by omega) (by omega) (by omega)).trans (mUp.yes ⟨rfl, rfl⟩)
  have hg5 : m5 106 37 = 0 → mb 106 37 = 0 ∧ mb 106 34 ≤ m5 106 34 := fun g => by
    have y := n5.at c4.2 g
    have y2 := hg3 (ro.ts.2.2.2.2.1.symm.trans y.1)
    have z4 := ro.ts.2.1
    exact ⟨y2.1, by omega⟩
  have J6 : ∀ m6 : mM, RG m6 12 r m a 0 (ouC u (tn, 4, 0, 0)) → TS d n 4 tn m2 m6 → m6 134 (300 * d + n) = a → (m6 106 37 = 0 → m6 106 35 = 2 → 0 ≤ m6 106 36 ∧ m6 106 36 ≤ 32 → bAnd a (bXor (mskF (m6 106 36)) (-1)) = 0) → (m6 106 37 = 0 → mb 106 37 = 0 ∧ mb 106 34 ≤ m6 106 34) → WJ_X12_test_Wx_6 w Q (d : Int) (n : Int) m5 m6 := by
    intro m6 c6 T6 e6 hm hg6 _ _
    refine X12_within_s hw fun l m7 hT7 n7 f7 _ _ rl m8 u8 _ m9 u9 _ c9 ec9 rc9 t9 et9 rt9 v9 ev9 rv9 => ?_
    obtain rfl := u8.is
    obtain rfl := u9.is
    rw [tsE.ix] at ec9 et9 ev9
    rw [tsE.ix]
    have c7 := RG.len c6 f7 n7 hm
    have ro8 : roF m7 (mUp (mUp m7 135 (300 * d + n) l) 136 (300 * d + n) 32) := (upR (by decide)).trans (upR (by decide))
    obtain ⟨m9, hm9⟩ : ∃ m9, m9 = mUp (mUp m7 135 (300 * d + n) l) 136 (300 * d + n) 32 := ⟨_, rfl⟩
    have c9' : RG m9 13 r m l 0 (ouAB (ouC u (tn, 4, 0, 0)) a l) := by
      rw [hm9]
      exact c7.same ro8.tb ro8.ts
    have T9 : TS d n 4 tn m2 m9 := by
      rw [hm9]
      exact ((T6.fr f7).up (k := 135) (v := l) (by decide)).up (k := 136) (v := 32) (by decide)
    have x134 : m9 134 (300 * d + n) = a := by
      rw [hm9, mUp.no (by omega), mUp.no (by omega), f7 134 (300 * d + n) (by omega) (by omega) (by omega), e6]
    have x135 : m9 135 (300 * d + n) = l := by
      rw [hm9, mUp.no (by omega), mUp.yes ⟨rfl, rfl⟩]
    have x136 : m9 136 (300 * d + n) = 32 := by
      rw [hm9, mUp.yes ⟨rfl, rfl⟩]
    have hg9 : m9 106 37 = 0 → mb 106 37 = 0 ∧ mb 106 34 ≤ m9 106 34 := fun g => by
      rw [hm9] at g ⊢
      have y := n7.at c6.2 (ro8.ts.2.2.2.2.1.symm.trans g)
      have y2 := hg6 y.1
      have z4 := ro8.ts.2.1
      exact ⟨y2.1, by omega⟩
    have eT : ∀ z : Int, tsNum (tn, 4, a, l) z = (4, tn, a, l, z, pc0) := fun z => by
      unfold tsNum
      rw [if_pos rfl]
    rw [← hm9]
    refine X12_isWord_s fun z hz rz => ⟨fun q => ?_, fun q => ?_⟩
    · have c10 : RG m9 5 r m 0 0 (ouT u (4, tn, a, l, 32, pc0)) := (RG.noto c9' (fun y => by have := hz.mpr y; omega)).ou (show ouT u (tsNum (tn, 4, a, l) 32) = _ by rw [eT])
      exact tEnd hE k T9 c10 fun g => ⟨(hg9 g).1, (hg9 g).2, tsR.held T9.2.2.1 T9.2.2.2 x134 x135 x136⟩
    · intro z1 _ _ m10 F10 _ z2 _ z3 _ z4 _ z5 _ z6 _ n10
      have f10 := mF.tok hw F10
      have wd := hz.mp (by omega)
      have c10 : RG m10 2 r m l 32 (ouAB (ouC u (tn, 4, 0, 0)) a l) := RG.wd c9' f10.tb wd.2 (by decide) n10 ⟨by decide, by decide, fun e => absurd e (by decide)⟩ ⟨by decide, by decide, fun e => absurd e (by decide)⟩ (fun _ _ _ _ => rfl) (fun _ => rfl)
      refine X12_within_s hw fun v m11 hT11 n11 f11 _ _ rv m12 u12 _ => ?_
      obtain rfl := u12.is
      have c11 : RG m11 5 r m 0 0 (ouT u (4, tn, a, l, v, pc0)) := (RG.num2 c10 f11 n11).ou (show ouT u (tsNum (tn, 4, a, l) v) = _ by rw [eT])
      have ro12 : roF m11 (mUp m11 136 (300 * d + n) v) := upR (by decide)
      have T12 := ((T9.fr f10).fr f11).up (k := 136) (v := v) (by decide)
      refine tEnd hE k T12 (c11.same ro12.tb ro12.ts) fun g => ?_
      have y := n11.at c10.2 (ro12.ts.2.2.2.2.1.symm.trans g)
      have y1 := nxR.at c9'.2 n10 y.1
      have y2 := hg9 y1.1
      have z4 := ro12.ts.2.1
      refine ⟨y2.1, by omega, tsR.held T12.2.2.1 T12.2.2.2 ?_ ?_ (mUp.yes ⟨rfl, rfl⟩)⟩
      · rw [mUp.no (by omega), f11 134 (300 * d + n) (by omega) (by omega) (by omega), f10 134 (300 * d + n) (by omega) (by omega) (by omega), x134]
      · rw [mUp.no (by omega), f11 135 (300 * d + n) (by omega) (by omega) (by omega), f10 135 (300 * d + n) (by omega) (by omega) (by omega), x135]
  refine ⟨fun q => J6 m5 c5 T5 e134 (fun g => absurd (ecc.symm.trans g) q) hg5, fun q ty ety rty => ⟨fun q2 => J6 m5 c5 T5 e134 (fun _ y => absurd (ety.symm.trans y) q2) hg5, fun q2 v ev rv => X12_in_r fun b hb rb => ⟨fun q3 => J6 m5 c5 T5 e134 (fun _ _ y => ?_) hg5, fun q3 => X12_mask_s (hb.mp (by omega)) fun _ x1 ex1 x2 ex2 => ⟨fun q4 => J6 m5 c5 T5 e134 (fun _ _ _ => ?_) hg5, fun q4 => X12_wrong_s fun m6 wk f6 _ _ => J6 m6 (RG.wr (c5.1.mkF (wrF.fk f6).tb wk (ety.trans q2) ?_ ?_) wk (by decide)) (T5.fr (wrF.fk f6)) ((f6 _ _ (by omega)).trans e134) (fun g => absurd g (wk.no (by decide))) (fun g => absurd g (wk.no (by decide)))⟩⟩⟩⟩
  · rw [ev] at y
    have := hb.mpr y
    omega
  · rw [ev, ex1, ex2]; exact q4
  · rw [ev]; exact hb.mp (by omega)
  · rw [ev, ex1, ex2]; exact q4
end TestR
end
section
/-! The reference's reader: rows by memory, a whole test. -/
def sTs : List Rw → Nat
  | [] => 0
  | x :: l => x.1.length + sTs l
def sAs : List Rw → Nat
  | [] => 0
  | x :: l => x.2.length + sAs l
theorem sTs.app {x : Rw} : ∀ l : List Rw, sTs (l ++ [x]) = sTs l + x.1.length
  | [] => by
    show x.1.length + 0 = 0 + x.1.length
    omega
  | y :: l => by
    show y.1.length + sTs (l ++ [x]) = y.1.length + sTs l + x.1.length
    rw [sTs.app l]
    omega
theorem sAs.app {x : Rw} : ∀ l : List Rw, sAs (l ++ [x]) = sAs l + x.2.length
  | [] => by
    show x.2.length + 0 = 0 + x.2.length
    omega
  | y :: l => by
    show y.2.length + sAs (l ++ [x]) = y.2.length + sAs l + x.2.length
    rw [sAs.app l]
    omega
section RowsR
variable {μ m1 : mM} {p : Nat}
theorem tsR.at {i : Nat} {t : Tst} (f : ∀ b, 132 ≤ b → b ≤ 139 → m1 b i = μ b i) (h : tsR μ i t) : tsR m1 i t := by
  unfold tsR
  rw [f 132 (by omega) (by omega), f 133 (by omega) (by omega), f 134 (by omega) (by omega), f 135 (by omega) (by omega), f 136 (by omega) (by omega), f 137 (by omega) (by omega), f 138 (by omega) (by omega), f 139 (by omega) (by omega)]
  exact h
theorem tsAR.at : ∀ (l : List Tst) (i : Nat), (∀ b j, 132 ≤ b → b ≤ 139 → i ≤ j → j < i + l.length → m1 b j = μ b j) → tsAR μ i l → tsAR m1 i l
  | [], _, _, _ => trivial
  | t :: l, i, f, h => by
    have hl : (t :: l).length = l.length + 1 := rfl
    exact ⟨tsR.at (fun b q1 q2 => f b i q1 q2 (by omega) (by omega)) h.1, tsAR.at l (i + 1) (fun b j q1 q2 q3 q4 => f b j q1 q2 (by omega) (by omega)) h.2⟩
theorem acR.at : ∀ (l : List Act) (i : Nat), (∀ b j, b = 140 ∨ b = 141 → i ≤ j → j < i + l.length → m1 b j = μ b j) → acR μ i l → acR m1 i l
  | [], _, _, _ => trivial
  | a :: l, i, f, h => by
    have hl : (a :: l).length = l.length + 1 := rfl
    refine ⟨?_, acR.at l (i + 1) (fun b j q1 q2 q3 => f b j q1 (by omega) (by omega)) h.2⟩
    rw [f 140 i (Or.inl rfl) (by omega) (by omega), f 141 i (Or.inr rfl) (by omega) (by omega)]
    exact h.1
theorem tsAR.app {t : Tst} : ∀ (l : List Tst) (i : Nat), tsAR μ i l → tsR μ (i + l.length) t → tsAR μ i (l ++ [t])
  | [], _, _, h => ⟨h, trivial⟩
  | x :: l, i, g, h => ⟨g.1, tsAR.app l (i + 1) g.2 (by
    have hl : (x :: l).length = l.length + 1 := rfl
    have e : i + 1 + l.length = i + (x :: l).length := by omega
    rw [e]; exact h)⟩
theorem acR.app {a : Act} : ∀ (l : List Act) (i : Nat), acR μ i l → (μ 140 (i + l.length) = a.1 ∧ (¬ a.1 = 23 → ¬ a.1 = 24 → μ 141 (i + l.length) = a.2)) → acR μ i (l ++ [a])
  | [], _, _, h => ⟨h, trivial⟩
  | x :: l, i, g, h => ⟨g.1, acR.app l (i + 1) g.2 (by
    have hl : (x :: l).length = l.length + 1 := rfl
    have e : i + 1 + l.length = i + (x :: l).length := by omega
    rw [e]; exact h)⟩
theorem rwR.at : ∀ (l : List Rw) (r t a : Nat), (∀ b j, b = 128 ∨ b = 129 → 31 * p + r ≤ j → j ≤ 31 * p + r + l.length → m1 b j = μ b j) → (∀ b j, 132 ≤ b → b ≤ 139 → 300 * p + t ≤ j → j < 300 * p + t + sTs l → m1 b j = μ b j) → (∀ b j, b = 140 ∨ b = 141 → 300 * p + a ≤ j → j < 300 * p + a + sAs l → m1 b j = μ b j) → rwR μ p r t a l → rwR m1 p r t a l
  | [], _, _, _, _, _, _, _ => trivial
  | x :: l, r, t, a, f1, f2, f3, h => by
    have hl : (x :: l).length = l.length + 1 := rfl
    have ht : sTs (x :: l) = x.1.length + sTs l := rfl
    have ha : sAs (x :: l) = x.2.length + sAs l := rfl
    refine ⟨?_, ?_, tsAR.at x.1 _ (fun b j q1 q2 q3 q4 => f2 b j q1 q2 q3 (by omega)) h.2.2.1, acR.at x.2 _ (fun b j q1 q2 q3 => f3 b j q1 q2 (by omega)) h.2.2.2.1, rwR.at l (r + 1) (t + x.1.length) (a + x.2.length) (fun b j q1 q2 q3 => f1 b j q1 (by omega) (by omega)) (fun b j q1 q2 q3 q4 => f2 b j q1 q2 (by omega) (by omega)) (fun b j q1 q2 q3 => f3 b j q1 (by omega) (by omega)) h.2.2.2.2⟩
    · rw [f1 128 (31 * p + r) (Or.inl rfl) (by omega) (by omega), f1 129 (31 * p + r) (Or.inr rfl) (by omega) (by omega)]
      exact h.1
    · rw [f1 128 (31 * p + r + 1) (Or.inl rfl) (by omega) (by omega), f1 129 (31 * p + r + 1) (Or.inr rfl) (by omega) (by omega)]
      exact h.2.1
theorem rwR.app {x : Rw} : ∀ (l : List Rw) (r t a : Nat), rwR μ p r t a l → rwR μ p (r + l.length) (t + sTs l) (a + sAs l) [x] → rwR μ p r t a (l ++ [x])
  | [], _, _, _, _, h => h
  | y :: l, r, t, a, g, h => ⟨g.1, g.2.1, g.2.2.1, g.2.2.2.1, rwR.app l (r + 1) (t + y.1.length) (a + y.2.length) g.2.2.2.2 (by
    have hl : (y :: l).length = l.length + 1 := rfl
    have ht : sTs (y :: l) = y.1.length + sTs l := rfl
    have ha : sAs (y :: l) = y.2.length + sAs l := rfl
    have e1 : r + 1 + l.length = r + (y :: l).length := by omega
    have e2 : t + y.1.length + sTs l = t + sTs (y :: l) := by omega
    have e3 : a + y.2.length + sAs l = a + sAs (y :: l) := by omega
    rw [e1, e2, e3]; exact h)⟩
end RowsR
/-- within a row: what stands in the draft d -/
def GR (μ : mM) (d : Nat) (u : Out) (r m : Int) : Prop := (nmD μ d (oW u) m ∧ 0 ≤ m ∧ m ≤ 40) ∧ (r = (u.1.length : Int) + 1 ∧ μ 127 d = r ∧ u.1.length ≤ 29) ∧ rwR μ d 0 0 0 u.1 ∧ (μ 128 (31 * d + u.1.length) = (sTs u.1 : Int) ∧ μ 129 (31 * d + u.1.length) = (sAs u.1 : Int)) ∧ (μ 130 d = ((sTs u.1 + u.2.1.length : Nat) : Int) ∧ μ 131 d = ((sAs u.1 + u.2.2.1.length : Nat) : Int)) ∧ tsAR μ (300 * d + sTs u.1) u.2.1 ∧ acR μ (300 * d + sAs u.1) u.2.2.1
/-- between rows -/
def GR0 (μ : mM) (d : Nat) (u : Out) (r m : Int) : Prop := (nmD μ d (oW u) m ∧ 0 ≤ m ∧ m ≤ 40) ∧ (r = (u.1.length : Int) ∧ μ 127 d = r ∧ u.1.length ≤ 30) ∧ rwR μ d 0 0 0 u.1 ∧ (¬ u.1 = [] → μ 128 (31 * d + u.1.length) = (sTs u.1 : Int) ∧ μ 129 (31 * d + u.1.length) = (sAs u.1 : Int)) ∧ μ 130 d = (sTs u.1 : Int) ∧ μ 131 d = (sAs u.1 : Int)
/-- what an act writes -/
def actF (d n : Nat) (μ m : mM) : Prop := ∀ b i, 106 ≤ b → b < 192 → ¬ ((b = 106 ∧ 33 ≤ i ∧ i ≤ 38) ∨ (b = 131 ∧ i = d) ∨ ((b = 140 ∨ b = 141) ∧ i = 300 * d + n)) → m b i = μ b i
theorem actF.df {d n : Nat} {μ m : mM} (h : actF d n μ m) (hn : n ≤ 299) : dF d μ m := fun b i q1 q2 q3 => h b i q1 q2 (by omega)
section GRs
variable {μ m1 : mM} {d n : Nat} {u : Out} {r m m' : Int}
theorem GR.tok (f : frK μ m1) (h : GR μ d u r m) : GR m1 d u r m := by
  obtain ⟨⟨nm, rm⟩, ⟨r1, r2, r3⟩, rows, ⟨e8, e9⟩, ⟨e0, e1⟩, ts, ac⟩ := h
  exact ⟨⟨nm.of (f _ _ (by omega) (by omega) (by omega)) (fun j => f _ _ (by omega) (by omega) (by omega)) (fun j => f _ _ (by omega) (by omega) (by omega)), rm⟩, ⟨r1, (f _ _ (by omega) (by omega) (by omega)).trans r2, r3⟩, rwR.at u.1 0 0 0 (fun b j q1 _ _ => f b j (by omega) (by omega) (by omega)) (fun b j q1 q2 _ _ => f b j (by omega) (by omega) (by omega)) (fun b j q1 _ _ => f b j (by omega) (by omega) (by omega)) rows, ⟨(f _ _ (by omega) (by omega) (by omega)).trans e8, (f _ _ (by omega) (by omega) (by omega)).trans e9⟩, ⟨(f _ _ (by omega) (by omega) (by omega)).trans e0, (f _ _ (by omega) (by omega) (by omega)).trans e1⟩, tsAR.at u.2.1 _ (fun b j q1 q2 _ _ => f b j (by omega) (by omega) (by omega)) ts, acR.at u.2.2.1 _ (fun b j q1 _ _ => f b j (by omega) (by omega) (by omega)) ac⟩
theorem GR0.tok (f : frK μ m1) (h : GR0 μ d u r m) : GR0 m1 d u r m := by
  obtain ⟨⟨nm, rm⟩, ⟨r1, r2, r3⟩, rows, e8, e0, e1⟩ := h
  exact ⟨⟨nm.of (f _ _ (by omega) (by omega) (by omega)) (fun j => f _ _ (by omega) (by omega) (by omega)) (fun j => f _ _ (by omega) (by omega) (by omega)), rm⟩, ⟨r1, (f _ _ (by omega) (by omega) (by omega)).trans r2, r3⟩, rwR.at u.1 0 0 0 (fun b j q1 _ _ => f b j (by omega) (by omega) (by omega)) (fun b j q1 q2 _ _ => f b j (by omega) (by omega) (by omega)) (fun b j q1 _ _ => f b j (by omega) (by omega) (by omega)) rows, fun q => ⟨(f _ _ (by omega) (by omega) (by omega)).trans (e8 q).1, (f _ _ (by omega) (by omega) (by omega)).trans (e8 q).2⟩, (f _ _ (by omega) (by omega) (by omega)).trans e0, (f _ _ (by omega) (by omega) (by omega)).trans e1⟩
theorem GR.test {W : Wst} {t : Tst} (h : GR μ d u r m) (hn : μ 130 d = (n : Int)) (f : tkFr d n μ m1) (e : m1 130 d = (n : Int) + 1) (ht : tsR m1 (300 * d + n) t) (nm : nmD m1 d W m') (rm : 0 ≤ m' ∧ m' ≤ 40) : GR m1 d (ouT (ouW u W) t) r m' := by
  obtain ⟨_, ⟨r1, r2, r3⟩, rows, ⟨e8, e9⟩, ⟨e0, e1⟩, ts, ac⟩ := h
  have en : n = sTs u.1 + u.2.1.length := by omega
  have hl : (u.2.1 ++ [t]).length = u.2.1.length + 1 := by
    rw [List.length_append]
    rfl
  refine ⟨⟨nm, rm⟩, ⟨r1, (f _ _ (by omega) (by omega) (by omega)).trans r2, r3⟩, rwR.at u.1 0 0 0 (fun b j q1 _ _ => f b j (by omega) (by omega) (by omega)) (fun b j q1 q2 q3 q4 => f b j (by omega) (by omega) (by omega)) (fun b j q1 _ _ => f b j (by omega) (by omega) (by omega)) rows, ⟨(f _ _ (by omega) (by omega) (by omega)).trans e8, (f _ _ (by omega) (by omega) (by omega)).trans e9⟩, ⟨?_, (f _ _ (by omega) (by omega) (by omega)).trans e1⟩, ?_, acR.at u.2.2.1 _ (fun b j q1 _ _ => f b j (by omega) (by omega) (by omega)) ac⟩
  · show m1 130 d = ((sTs u.1 + (u.2.1 ++ [t]).length : Nat) : Int)
    rw [hl, e]
    omega
  · show tsAR m1 (300 * d + sTs u.1) (u.2.1 ++ [t])
    refine tsAR.app u.2.1 _ (tsAR.at u.2.1 _ (fun b j q1 q2 q3 q4 => f b j (by omega) (by omega) (by omega)) ts) ?_
    have e2 : 300 * d + sTs u.1 + u.2.1.length = 300 * d + n := by omega
    rw [e2]; exact ht
theorem GR.act {a : Act} (h : GR μ d u r m) (hn : μ 131 d = (n : Int)) (f : actF d n μ m1) (e : m1 131 d = (n : Int) + 1) (ha : m1 140 (300 * d + n) = a.1 ∧ (¬ a.1 = 23 → ¬ a.1 = 24 → m1 141 (300 * d + n) = a.2)) : GR m1 d (ouAct u a) r m := by
  obtain ⟨⟨nm, rm⟩, ⟨r1, r2, r3⟩, rows, ⟨e8, e9⟩, ⟨e0, e1⟩, ts, ac⟩ := h
  have en : n = sAs u.1 + u.2.2.1.length := by omega
  have hl : (u.2.2.1 ++ [a]).length = u.2.2.1.length + 1 := by
    rw [List.length_append]
    rfl
  refine ⟨⟨nm.of (f _ _ (by omega) (by omega) (by omega)) (fun j => f _ _ (by omega) (by omega) (by omega)) (fun j => f _ _ (by omega) (by omega) (by omega)), rm⟩, ⟨r1, (f _ _ (by omega) (by omega) (by omega)).trans r2, r3⟩, rwR.at u.1 0 0 0 (fun b j q1 _ _ => f b j (by omega) (by omega) (by omega)) (fun b j q1 q2 q3 q4 => f b j (by omega) (by omega) (by omega)) (fun b j q1 q2 q3 => f b j (by omega) (by omega) (by omega)) rows, ⟨(f _ _ (by omega) (by omega) (by omega)).trans e8, (f _ _ (by omega) (by omega) (by omega)).trans e9⟩, ⟨(f _ _ (by omega) (by omega) (by omega)).trans e0, ?_⟩, tsAR.at u.2.1 _ (fun b j q1 q2 q3 q4 => f b j (by omega) (by omega) (by omega)) ts, ?_⟩
  · show m1 131 d = ((sAs u.1 + (u.2.2.1 ++ [a]).length : Nat) : Int)
    rw [hl, e]
    omega
  · show acR m1 (300 * d + sAs u.1) (u.2.2.1 ++ [a])
    refine acR.app u.2.2.1 _ (acR.at u.2.2.1 _ (fun b j q1 q2 q3 => f b j (by omega) (by omega) (by omega)) ac) ?_
    have e2 : 300 * d + sAs u.1 + u.2.2.1.length = 300 * d + n := by omega
    rw [e2]; exact ha
/-- a row begins -/
theorem GR0.new (h : GR0 μ d u r m) (hr : r ≤ 29) (f : ∀ b i, ¬ (b = 127 ∧ i = d) → ¬ ((b = 128 ∨ b = 129) ∧ i = 31 * d + u.1.length) → m1 b i = μ b i) (e7 : m1 127 d = r + 1) (e8 : m1 128 (31 * d + u.1.length) = μ 130 d) (e9 : m1 129 (31 * d + u.1.length) = μ 131 d) : GR m1 d (ouNew u) (r + 1) m := by
  obtain ⟨⟨nm, rm⟩, ⟨r1, r2, r3⟩, rows, h8, e0, e1⟩ := h
  refine ⟨⟨nm.of (f _ _ (by omega) (by omega)) (fun j => f _ _ (by omega) (by omega)) (fun j => f _ _ (by omega) (by omega)), rm⟩, ⟨?_, e7, ?_⟩, ?_, ⟨e8.trans e0, e9.trans e1⟩, ⟨(f _ _ (by omega) (by omega)).trans e0, (f _ _ (by omega) (by omega)).trans e1⟩, trivial, trivial⟩
  · show r + 1 = (u.1.length : Int) + 1
    omega
  · show u.1.length ≤ 29
    omega
  · show rwR m1 d 0 0 0 u.1
    by_cases q : u.1 = []
    · rw [q]; exact trivial
    · refine rwR.at u.1 0 0 0 (fun b j q1 _ q3 => ?_) (fun b j q1 q2 _ _ => f b j (by omega) (by omega)) (fun b j q1 _ _ => f b j (by omega) (by omega)) rows
      by_cases ej : j = 31 * d + u.1.length
      · subst ej
        rcases q1 with q1 | q1 <;> subst q1
        · exact (e8.trans e0).trans (h8 q).1.symm
        · exact (e9.trans e1).trans (h8 q).2.symm
      · exact f b j (by omega) (by omega)
/-- a row ends -/
theorem GR.fin (h : GR μ d u r m) (f : ∀ b i, ¬ ((b = 128 ∨ b = 129) ∧ i = 31 * d + u.1.length + 1) → m1 b i = μ b i) (e8 : m1 128 (31 * d + u.1.length + 1) = μ 130 d) (e9 : m1 129 (31 * d + u.1.length + 1) = μ 131 d) : GR0 m1 d (ouEnd u) r m := by
  obtain ⟨⟨nm, rm⟩, ⟨r1, r2, r3⟩, rows, ⟨h8, h9⟩, ⟨e0, e1⟩, ts, ac⟩ := h
  have hl : (u.1 ++ [((u.2.1, u.2.2.1) : Rw)]).length = u.1.length + 1 := by
    rw [List.length_append]
    rfl
  have ht : sTs (u.1 ++ [((u.2.1, u.2.2.1) : Rw)]) = sTs u.1 + u.2.1.length := sTs.app u.1
  have ha : sAs (u.1 ++ [((u.2.1, u.2.2.1) : Rw)]) = sAs u.1 + u.2.2.1.length := sAs.app u.1
  show (nmD m1 d (oW u) m ∧ 0 ≤ m ∧ m ≤ 40) ∧ (r = ((u.1 ++ [((u.2.1, u.2.2.1) : Rw)]).length : Int) ∧ m1 127 d = r ∧ (u.1 ++ [((u.2.1, u.2.2.1) : Rw)]).length ≤ 30) ∧ rwR m1 d 0 0 0 (u.1 ++ [((u.2.1, u.2.2.1) : Rw)]) ∧ (¬ u.1 ++ [((u.2.1, u.2.2.1) : Rw)] = [] → m1 128 (31 * d + (u.1 ++ [((u.2.1, u.2.2.1) : Rw)]).length) = (sTs (u.1 ++ [((u.2.1, u.2.2.1) : Rw)]) : Int) ∧ m1 129 (31 * d + (u.1 ++ [((u.2.1, u.2.2.1) : Rw)]).length) = (sAs (u.1 ++ [((u.2.1, u.2.2.1) : Rw)]) : Int)) ∧ m1 130 d = (sTs (u.1 ++ [((u.2.1, u.2.2.1) : Rw)]) : Int) ∧ m1 131 d = (sAs (u.1 ++ [((u.2.1, u.2.2.1) : Rw)]) : Int)
  rw [hl, ht, ha]
  have x0 : m1 130 d = ((sTs u.1 + u.2.1.length : Nat) : Int) := (f _ _ (by omega)).trans e0
  have x1 : m1 131 d = ((sAs u.1 + u.2.2.1.length : Nat) : Int) := (f _ _ (by omega)).trans e1
  have y8 : m1 128 (31 * d + u.1.length + 1) = ((sTs u.1 + u.2.1.length : Nat) : Int) := e8.trans e0
  have y9 : m1 129 (31 * d + u.1.length + 1) = ((sAs u.1 + u.2.2.1.length : Nat) : Int) := e9.trans e1
  refine ⟨⟨nm.of (f _ _ (by omega)) (fun j => f _ _ (by omega)) (fun j => f _ _ (by omega)), rm⟩, ⟨by omega, (f _ _ (by omega)).trans r2, by omega⟩, ?_, fun _ => ⟨y8, y9⟩, x0, x1⟩
  refine rwR.app u.1 0 0 0 (rwR.at u.1 0 0 0 (fun b j q1 _ q3 => f b j (by omega)) (fun b j q1 q2 _ _ => f b j (by omega)) (fun b j q1 _ _ => f b j (by omega)) rows) ?_
  rw [Nat.zero_add, Nat.zero_add, Nat.zero_add]
  exact ⟨⟨(f _ _ (by omega)).trans h8, (f _ _ (by omega)).trans h9⟩, ⟨y8, y9⟩, tsAR.at u.2.1 _ (fun b j q1 q2 _ _ => f b j (by omega)) ts, acR.at u.2.2.1 _ (fun b j q1 _ _ => f b j (by omega)) ac, trivial⟩
end GRs
section WholeT
variable {w : mW} {μ : mM} {d : Nat} {r m : Int} {u : Out} {Q : mM → Prop}
theorem X12_test_s (hw : mWF w) (hT : mT w μ) (hd : μ 106 58 = (d : Int)) (h12 : d ≤ 12) (h : RG μ 1 r m 0 0 u) (hg : μ 106 37 = 0 → GR μ d u r m ∧ 4 * μ 130 d + 2 ≤ μ 106 34 ∧ u.2.2.2.1 = (0, 0, 0, 0)) (k : ∀ (m1 : mM) (m' : Int) (u' : Out), RG m1 5 r m' 0 0 u' → dF d μ m1 → (m1 106 37 = 0 → μ 106 37 = 0 ∧ GR m1 d u' r m' ∧ u'.2.2.2.1 = (0, 0, 0, 0) ∧ 4 * m1 130 d ≤ m1 106 34 ∧ m1 131 d = μ 131 d ∧ μ 106 34 ≤ m1 106 34) → Q m1) : WP_X12_test_Wx w μ Q := by
  have h' : RG μ 1 r m 0 0 (ouC u (0, 0, 0, 0)) := by
    by_cases g : μ 106 37 = 0
    · rw [← (hg g).2.2]
      exact h
    · exact h.bad g
  have s34 : 0 ≤ μ 106 34 ∧ μ 106 34 ≤ 1000 := hT 106 106 (A_106 hw) 34
  have J2 : ∀ (tn v : Int) (m3 m5 : mM), (tn = 0 ∨ tn = 1) → frK μ m3 → RG m3 1 r m 0 0 (ouC u (tn, 0, 0, 0)) → (m3 106 37 = 0 → μ 106 37 = 0 ∧ μ 106 34 ≤ m3 106 34) → m3 106 36 = v → ((m5 = m3 ∧ m3 106 35 = 1 ∧ isTs v) ∨ (¬ m5 106 37 = 0 ∧ (∀ e' : Int → Cfg, RSc m5 e') ∧ frK m3 m5)) → WJ_X12_test_Wx_2 w Q tn m3 v m5 := by
    intro tn v m3 m5 ht f3 c3 hg3 ev h5 _ _ c5 ec5 rc5
    refine ⟨fun q5 => ?_, fun q5 => ?_⟩
    rotate_left 1
    · have b5 : ¬ m5 106 37 = 0 := by
        rw [ec5]; exact q5
      rcases h5 with ⟨e, _⟩ | ⟨_, rs, f5⟩
      · subst e
        exact k _ m u (c3.bad b5) f3.df fun g => absurd g b5
      · exact k m5 m u ⟨rs _, RSo.vac b5⟩ (f3.trans f5).df fun g => absurd g b5
    have g5 : m5 106 37 = 0 := ec5.trans q5
    obtain ⟨e, t35, ts⟩ : m5 = m3 ∧ m3 106 35 = 1 ∧ isTs v := by
      rcases h5 with h5 | ⟨b, _⟩
      · exact h5
      · exact absurd g5 b
    rw [e] at g5 ⊢
    obtain ⟨g0, a0⟩ := hg3 g5
    obtain ⟨gr, p2, _⟩ := hg g0
    unfold isTs at ts
    intro dd edd rdd nn enn rnn
    have e58 : m3 106 58 = (d : Int) := (f3 _ _ (by omega) (by omega) (by omega)).trans hd
    have edd' : dd = (d : Int) := edd.symm.trans e58
    subst edd'
    obtain ⟨n, hn⟩ := Int.eq_ofNat_of_zero_le rnn.1
    subst hn
    rw [Int.toNat_natCast] at enn
    have x130 : m3 130 d = μ 130 d := f3 _ _ (by omega) (by omega) (by omega)
    refine ⟨by omega, fun _ m6 u6 _ m7 u7 _ m8 u8 hT8 z1 _ _ z2 _ _ mb Fb hTb z3 _ z4 _ z5 _ t5 et5 v5 ev5 nb => ?_⟩
    obtain rfl := u6.is
    obtain rfl := u7.is
    obtain rfl := u8.is
    rw [tsE.ix, Int.toNat_natCast] at Fb nb
    have fb := mF.tok hw Fb
    obtain ⟨m8, hm8⟩ : ∃ m8, m8 = mUp (mUp (mUp m3 130 d ((n : Int) + 1)) 132 (300 * d + n) v) 133 (300 * d + n) tn := ⟨_, rfl⟩
    rw [← hm8] at fb nb
    have T8 : TS d n v tn m3 m8 := by
      rw [hm8]
      exact ⟨fun b i q1 q2 q3 => by rw [mUp.no (by omega), mUp.no (by omega), mUp.no (by omega)], by rw [mUp.no (by omega), mUp.no (by omega), mUp.yes ⟨rfl, rfl⟩], by rw [mUp.no (by omega), mUp.yes ⟨rfl, rfl⟩], mUp.yes ⟨rfl, rfl⟩⟩
    have ro8 : roF m3 m8 := by
      rw [hm8]
      exact fun b i q1 q2 => by rw [mUp.no (by omega), mUp.no (by omega), mUp.no (by omega)]
    have c8 := c3.same ro8.tb ro8.ts
    have T := T8.fr fb
    have x35 : m8 106 35 = 1 := ro8.ts.2.2.1.trans t35
    have x36 : m8 106 36 = v := ro8.ts.2.2.2.1.trans ev
    have x34 := ro8.ts.2.1
    have hE : tsE d n (m3 106 34 + 2) v tn m m3 mb u := by
      refine ⟨T, by omega, fun g => ?_⟩
      have y := (nxR.at c8.2 nb g).2.2.2 x35
      exact ⟨by omega, gr.1.1.of (f3 _ _ (by omega) (by omega) (by omega)) (fun j => f3 _ _ (by omega) (by omega) (by omega)) (fun j => f3 _ _ (by omega) (by omega) (by omega)), gr.1.2⟩
    have mv : ∀ (s' x' y' : Int), (0 ≤ s' ∧ s' ≤ 16 ∧ (s' = 3 → 0 ≤ x')) → (∀ f q, n1 r m v f q = (s', q, r, m, x', y')) → ¬ v = 3 → (0 ≤ v ∧ v < 1000) → RG mb s' r m x' y' (ouC u (tn, v, 0, 0)) := by
      intro s' x' y' hs' hn h3 h0
      refine RG.wd c8 fb.tb ⟨x35, x36⟩ h0 nb ⟨by decide, by decide, fun e => absurd e (by decide)⟩ hs' (fun p v' f q => hn f q) (fun v' => ?_)
      show (if v = 3 then ouNot (ouC u (tn, 0, 0, 0)) else ouWhat (ouC u (tn, 0, 0, 0)) v) = _
      rw [if_neg h3]
      rfl
    have hdb : mb 106 58 = (d : Int) := (fb _ _ (by omega) (by omega) (by omega)).trans ((T8.1 _ _ (by omega) (by omega) (by omega)).trans e58)
    have k' : tstC d n (m3 106 34 + 2) r m3 u Q := fun m1 m' u' c1 f1 hp => k m1 m' u' c1 (f3.df.trans f1) fun g => by
      obtain ⟨a1, W, t, eu, tf, e130, tsr, nm, rm⟩ := hp g
      have gr3 : GR m3 d u r m := gr.tok f3
      subst eu
      have e131 : m1 131 d = μ 131 d := (tf _ _ (by omega) (by omega) (by omega)).trans (f3 _ _ (by omega) (by omega) (by omega))
      exact ⟨g0, gr3.test enn tf e130 tsr nm rm, rfl, by omega, e131, by omega⟩
    have o0 : ∀ s' x' : Int, 0 ≤ s' → s' ≤ 16 → ¬ s' = 3 → (0 ≤ s' ∧ s' ≤ 16 ∧ (s' = 3 → 0 ≤ x')) := fun s' x' a b c => ⟨a, b, fun e => absurd e c⟩
    refine ⟨fun e4 => ⟨fun e6 => ⟨fun e8 => ⟨fun e9 => ⟨fun e10 => ⟨fun e15 => ⟨fun e14 => ?_, fun e => ?_⟩, fun e => ?_⟩, fun e => ?_⟩, fun e => ?_⟩, fun e => ?_⟩, fun e => ?_⟩, fun e => ?_⟩
    · -- a relation
      have hv : 11 ≤ v ∧ v ≤ 13 := by omega
      obtain ⟨hi, hh, c⟩ : ∃ hi : Int, ((v = 12 → hi = 1000) ∧ (¬ v = 12 → hi = 1000000)) ∧ RG mb 4 r m hi 0 (ouC u (tn, v, 0, 0)) := by
        have ev3 : v = 11 ∨ v = 12 ∨ v = 13 := by omega
        rcases ev3 with q | q | q
        · refine ⟨1000000, ⟨fun y => by omega, fun _ => rfl⟩, mv 4 1000000 0 (o0 _ _ (by decide) (by decide) (by decide)) (fun f q' => by rw [q]; rfl) (by omega) (by omega)⟩
        · refine ⟨1000, ⟨fun _ => rfl, fun y => absurd q y⟩, mv 4 1000 0 (o0 _ _ (by decide) (by decide) (by decide)) (fun f q' => by rw [q]; rfl) (by omega) (by omega)⟩
        · refine ⟨1000000, ⟨fun y => by omega, fun _ => rfl⟩, mv 4 1000000 0 (o0 _ _ (by decide) (by decide) (by decide)) (fun f q' => by rw [q]; rfl) (by omega) (by omega)⟩
      refine X12_isSign_s fun y1 hy1 _ => ⟨fun q => ts_rel hw hE hv hh c k' ev5 (Or.inl ⟨rfl, (hy1.mp (by omega)).2.1, ?_⟩), fun q1 => X12_isSign_s fun y2 hy2 _ => ⟨fun q => ts_rel hw hE hv hh c k' ev5 (Or.inl ⟨rfl, (hy2.mp (by omega)).2.1, ?_⟩), fun q2 => X12_isSign_s fun y3 hy3 _ => ⟨fun q => ts_rel hw hE hv hh c k' ev5 (Or.inl ⟨rfl, (hy3.mp (by omega)).2.1, ?_⟩), fun q3 => X12_wrong_s fun m9 wk f9 _ _ => ts_rel hw hE hv hh c k' ev5 (Or.inr ⟨wk.no (by decide), fun e' => c.1.relB (wrF.fk f9).tb wk (fun y => ?_), wrF.fk f9⟩)⟩⟩⟩
      · have := (hy1.mp (by omega)).2.2
        omega
      · have := (hy2.mp (by omega)).2.2
        omega
      · have := (hy3.mp (by omega)).2.2
        omega
      · rcases y.2.2 with e | e | e
        · have := hy1.mpr ⟨y.1, y.2.1, e⟩
          omega
        · have := hy2.mpr ⟨y.1, y.2.1, e⟩
          omega
        · have := hy3.mpr ⟨y.1, y.2.1, e⟩
          omega
    · subst e
      exact ts_num hw hE (by decide) (mv 2 0 2 (o0 _ _ (by decide) (by decide) (by decide)) (fun _ _ => rfl) (by decide) (by decide)) k'
    · subst e
      have c := mv 3 20 22 ⟨by decide, by decide, fun _ => by decide⟩ (fun _ _ => rfl) (by decide) (by decide)
      refine ⟨fun q => X12_wrong_s fun m9 wk f9 _ _ _ _ => ts_word hw hE (Or.inr ⟨rfl, rfl, rfl⟩) c k' ev5 (Or.inr ⟨wk.no (by decide), fun e' => c.1.oneB (wrF.fk f9).tb wk (by decide) (fun y => q (et5.symm.trans y.1)), wrF.fk f9⟩), fun q => X12_in_r fun z hz rz => ⟨fun q2 _ _ => ts_word hw hE (Or.inr ⟨rfl, rfl, rfl⟩) c k' ev5 (Or.inl ⟨rfl, et5.trans q, hz.mp (by omega)⟩), fun q2 => X12_wrong_s fun m9 wk f9 _ _ _ _ => ts_word hw hE (Or.inr ⟨rfl, rfl, rfl⟩) c k' ev5 (Or.inr ⟨wk.no (by decide), fun e' => c.1.oneB (wrF.fk f9).tb wk (by decide) (fun y => ?_), wrF.fk f9⟩)⟩⟩
      have := hz.mpr (by omega)
      omega
    · subst e
      have c := mv 3 16 19 ⟨by decide, by decide, fun _ => by decide⟩ (fun _ _ => rfl) (by decide) (by decide)
      refine ⟨fun q => X12_wrong_s fun m9 wk f9 _ _ _ _ => ts_word hw hE (Or.inl ⟨rfl, rfl, rfl⟩) c k' ev5 (Or.inr ⟨wk.no (by decide), fun e' => c.1.oneB (wrF.fk f9).tb wk (by decide) (fun y => q (et5.symm.trans y.1)), wrF.fk f9⟩), fun q => X12_in_r fun z hz rz => ⟨fun q2 _ _ => ts_word hw hE (Or.inl ⟨rfl, rfl, rfl⟩) c k' ev5 (Or.inl ⟨rfl, et5.trans q, hz.mp (by omega)⟩), fun q2 => X12_wrong_s fun m9 wk f9 _ _ _ _ => ts_word hw hE (Or.inl ⟨rfl, rfl, rfl⟩) c k' ev5 (Or.inr ⟨wk.no (by decide), fun e' => c.1.oneB (wrF.fk f9).tb wk (by decide) (fun y => ?_), wrF.fk f9⟩)⟩⟩
      have := hz.mpr (by omega)
      omega
    · subst e
      exact ts_num hw hE (by decide) (mv 2 0 9 (o0 _ _ (by decide) (by decide) (by decide)) (fun _ _ => rfl) (by decide) (by decide)) k'
    · subst e
      exact ts_num hw hE (by decide) (mv 2 0 65535 (o0 _ _ (by decide) (by decide) (by decide)) (fun _ _ => rfl) (by decide) (by decide)) k'
    · subst e
      exact ts_way hw hdb h12 hE (mv 14 0 0 (o0 _ _ (by decide) (by decide) (by decide)) (fun _ _ => rfl) (by decide) (by decide)) k'
    · subst e
      exact ts_held hw hE (mv 9 0 0 (o0 _ _ (by decide) (by decide) (by decide)) (fun _ _ => rfl) (by decide) (by decide)) k'
  refine loopF.gim (fun tn m3 kk => (tn = 0 ∨ tn = 1) ∧ frK μ m3 ∧ RG m3 1 r m 0 0 (ouC u (tn, 0, 0, 0)) ∧ (m3 106 37 = 0 → (μ 106 37 = 0 ∧ μ 106 34 ≤ m3 106 34) ∧ kk = (1001 - m3 106 34).toNat + 1)) (kk := (1001 - μ 106 34).toNat + 1) ⟨Or.inl rfl, frK.refl, h', fun g => ⟨⟨g, Int.le_refl _⟩, rfl⟩⟩ (by omega) ?_
  rintro rc tn m3 kk ⟨ht, f3, c3, hg3⟩ ih tn' m3' eq rtn hT3 _ cc ecc rcc ty ety rty v ev rv
  cases eq
  have t34 : 0 ≤ m3 106 34 ∧ m3 106 34 ≤ 1000 := hT3 106 106 (A_106 hw) 34
  have hg3' := fun g => (hg3 g).1
  refine X12_isWord_s fun z hz rz => ⟨fun q => ⟨fun q2 => X12_wrong_s fun m5 wk f5 _ _ => J2 tn v m3 m5 ht f3 c3 hg3' ev (Or.inr ⟨wk.no (by decide), fun e' => c3.1.t2 (wrF.fk f5).tb wk (fun y => ?_) (fun y => q2 (ety.symm.trans y.1)), wrF.fk f5⟩), fun q2 => ⟨fun e => J2 tn v m3 m3 ht f3 c3 hg3' ev (Or.inl ⟨rfl, ety.trans q2, Or.inl e⟩), fun e4 => ⟨fun e => J2 tn v m3 m3 ht f3 c3 hg3' ev (Or.inl ⟨rfl, ety.trans q2, Or.inr (Or.inl e)⟩), fun e6 => X12_in_r fun b hb rb => ⟨fun q3 => J2 tn v m3 m3 ht f3 c3 hg3' ev (Or.inl ⟨rfl, ety.trans q2, Or.inr (Or.inr (hb.mp (by omega)))⟩), fun q3 => X12_wrong_s fun m5 wk f5 _ _ => J2 tn v m3 m5 ht f3 c3 hg3' ev (Or.inr ⟨wk.no (by decide), fun e' => c3.1.t2 (wrF.fk f5).tb wk (fun y => ?_) (fun y => ?_), wrF.fk f5⟩)⟩⟩⟩⟩, fun q => ?_⟩
  · have := hz.mpr y
    omega
  · have := hz.mpr y
    omega
  · have : ¬ (8 ≤ v ∧ v ≤ 15) := fun y => by
      have := hb.mpr y
      omega
    omega
  · have wd := hz.mp (by omega)
    obtain ⟨⟨g0, a0⟩, ekk⟩ := hg3 wd.1
    have go : ∀ (t' : Int) (m6 : mM), 1 - tn = t' → frK m3 m6 → nxR m3 m6 → rc (t', m6) := by
      intro t' m6 et f6 n6
      have c6 : RG m6 1 r m 0 0 (ouC u (1 - tn, 0, 0, 0)) := RG.wd c3 f6.tb wd.2 (by decide) n6 ⟨by decide, by decide, fun e => absurd e (by decide)⟩ ⟨by decide, by decide, fun e => absurd e (by decide)⟩ (fun _ _ _ _ => rfl) (fun _ => rfl)
      rw [et] at c6
      by_cases g6 : m6 106 37 = 0
      · have y := (nxR.at c3.2 n6 g6).2.2.2 wd.2.1
        exact ih t' m6 ((1001 - m6 106 34).toNat + 1) ⟨by omega, f3.trans f6, c6, fun _ => ⟨⟨g0, by omega⟩, rfl⟩⟩ (by omega)
      · exact ih t' m6 0 ⟨by omega, f3.trans f6, c6, fun g => absurd g g6⟩ (by omega)
    refine ⟨fun q2 => ?_, fun q2 => ?_⟩
    · intro z1 _ _ z2 _ _ m6 F6 _ z3 _ z4 _ z5 _ z6 _ z7 _ n6
      exact go 0 m6 (by omega) (mF.tok hw F6) n6
    · intro z1 _ _ z2 _ _ m6 F6 _ z3 _ z4 _ z5 _ z6 _ z7 _ n6
      exact go 1 m6 (by omega) (mF.tok hw F6) n6
end WholeT
end
section
/-! The reference's reader: an act, a row, a whole policy. -/
section ActR
variable {w : mW} {μ : mM} {d : Nat} {r m : Int} {u : Out} {Q : mM → Prop}
theorem X12_actRead_s (hw : mWF w) (hT : mT w μ) (hd : μ 106 58 = (d : Int)) (h : RG μ 6 r m 0 0 u) (hg : μ 106 37 = 0 → GR μ d u r m ∧ 4 * μ 131 d ≤ μ 106 34) (k : ∀ (m1 : mM) (u' : Out), RG m1 8 r m 0 0 u' → dF d μ m1 → (m1 106 37 = 0 → μ 106 37 = 0 ∧ GR m1 d u' r m ∧ 4 * m1 131 d ≤ m1 106 34 + 1 ∧ m1 130 d = μ 130 d ∧ μ 106 34 ≤ m1 106 34) → Q m1) : WP_X12_actRead_Wx w μ Q := by
  have s34 : 0 ≤ μ 106 34 ∧ μ 106 34 ≤ 1000 := hT 106 106 (A_106 hw) 34
  have J2 : ∀ m5 : mM, ((m5 = μ ∧ μ 106 35 = 1 ∧ isAc (μ 106 36)) ∨ (¬ m5 106 37 = 0 ∧ (∀ e' : Int → Cfg, RSc m5 e') ∧ frK μ m5)) → WJ_X12_actRead_Wx_2 w μ Q m5 := by
    intro m5 h5 _ _ c5 ec5 rc5
    refine ⟨fun q5 => ?_, fun q5 => ?_⟩
    rotate_left 1
    · have b5 : ¬ m5 106 37 = 0 := by
        rw [ec5]; exact q5
      rcases h5 with ⟨e, _⟩ | ⟨_, rs, f5⟩
      · rw [e] at b5 ⊢
        exact k μ u (h.bad b5) dF.refl fun g => absurd g b5
      · exact k m5 u ⟨rs _, RSo.vac b5⟩ f5.df fun g => absurd g b5
    have g5 : m5 106 37 = 0 := ec5.trans q5
    obtain ⟨e, t35, ac⟩ : m5 = μ ∧ μ 106 35 = 1 ∧ isAc (μ 106 36) := by
      rcases h5 with h5 | ⟨b, _⟩
      · exact h5
      · exact absurd g5 b
    rw [e] at g5 ⊢
    obtain ⟨gr, p4⟩ := hg g5
    unfold isAc at ac
    intro dd edd rdd nn enn rnn
    have edd' : dd = (d : Int) := edd.symm.trans hd
    subst edd'
    obtain ⟨n, hn⟩ := Int.eq_ofNat_of_zero_le rnn.1
    subst hn
    rw [Int.toNat_natCast] at enn
    refine ⟨by omega, fun _ m6 u6 _ v ev rv m7 u7 _ z1 _ _ z2 _ _ mb Fb hTb z3 _ z4 _ z5 _ z6 _ z7 _ nb => ?_⟩
    obtain rfl := u6.is
    rw [mUp.no (by omega)] at ev
    obtain rfl := u7.is
    rw [tsE.ix, Int.toNat_natCast] at Fb nb
    have fb := mF.tok hw Fb
    obtain ⟨m8, hm8⟩ : ∃ m8, m8 = mUp (mUp μ 131 d ((n : Int) + 1)) 140 (300 * d + n) v := ⟨_, rfl⟩
    rw [← hm8] at fb nb
    have fr8 : ∀ b i, ¬ (b = 131 ∧ i = d) → ¬ (b = 140 ∧ i = 300 * d + n) → m8 b i = μ b i := fun b i q1 q2 => by
      rw [hm8, mUp.no (by omega), mUp.no (by omega)]
    have e131 : m8 131 d = (n : Int) + 1 := by
      rw [hm8, mUp.no (by omega), mUp.yes ⟨rfl, rfl⟩]
    have e140 : m8 140 (300 * d + n) = v := by
      rw [hm8, mUp.yes ⟨rfl, rfl⟩]
    have ro8 : roF μ m8 := fun b i q1 q2 => fr8 b i (by omega) (by omega)
    have c8 := h.same ro8.tb ro8.ts
    have x35 : m8 106 35 = 1 := ro8.ts.2.2.1.trans t35
    have x36 : m8 106 36 = v := ro8.ts.2.2.2.1.trans ev
    have x34 := ro8.ts.2.1
    have hv : v = 12 ∨ v = 13 ∨ (23 ≤ v ∧ v ≤ 28) := by omega
    have Ab : actF d n μ mb := fun b i q1 q2 q3 => (fb b i q1 q2 (by omega)).trans (fr8 b i (by omega) (by omega))
    have y131 : mb 131 d = (n : Int) + 1 := (fb _ _ (by omega) (by omega) (by omega)).trans e131
    have y140 : mb 140 (300 * d + n) = v := (fb _ _ (by omega) (by omega) (by omega)).trans e140
    have gob : mb 106 37 = 0 → μ 106 34 + 3 ≤ mb 106 34 := fun g => by
      have y := (nxR.at c8.2 nb g).2.2.2 x35
      have := y.2 (by omega) (by omega) (by omega)
      omega
    have mv : ∀ (s' x' y' : Int) (u' : Out), (0 ≤ s' ∧ s' ≤ 16 ∧ (s' = 3 → 0 ≤ x')) → (∀ f q, n6 (m8 106 39) r m v f q = (s', q, r, m, x', y')) → (∀ v', nxO 6 m 0 u v v' = u') → RG mb s' r m x' y' u' := by
      intro s' x' y' u' hs' hn hu
      exact RG.wd c8 fb.tb ⟨x35, x36⟩ (by omega) nb ⟨by decide, by decide, fun e => absurd e (by decide)⟩ hs' (fun p v' f q => hn f q) hu
    have o7 : ∀ x' : Int, ((0 : Int) ≤ 7 ∧ (7 : Int) ≤ 16 ∧ ((7 : Int) = 3 → 0 ≤ x')) := fun x' => ⟨by decide, by decide, fun e => absurd e (by decide)⟩
    have wn : ∀ lo hi : Int, RG mb 7 r m lo hi (ouWhat u v) → WP_X12_within_Wx w mb lo hi (fun z m9 => mT w m9 → mF [106033, 106034, 106035, 106036, 106037, 106038] w mb m9 → ((-2147483648) ≤ z ∧ z ≤ 2147483647) → ∀ m10 : mM, mU m9 141 (((300 * (d : Int)) + (n : Int)).toNat) z m10 → mT w m10 → Q m10) := by
      intro lo hi c
      refine X12_within_s hw fun z m9 _ n9 f9 _ _ rz m10 u10 _ => ?_
      obtain rfl := u10.is
      rw [tsE.ix]
      have c9 : RG m9 8 r m 0 0 (ouAct u (v, z)) := RG.num7 c f9 n9
      have ro10 : roF m9 (mUp m9 141 (300 * d + n) z) := upR (by decide)
      have A10 : actF d n μ (mUp m9 141 (300 * d + n) z) := fun b i q1 q2 q3 => by
        rw [mUp.no (by omega), f9 b i q1 q2 (by omega)]
        exact Ab b i q1 q2 q3
      refine k _ _ (c9.same ro10.tb ro10.ts) (A10.df (by omega)) fun g => ?_
      have y := n9.at c.2 (ro10.ts.2.2.2.2.1.symm.trans g)
      have yb := gob y.1
      have z4 := ro10.ts.2.1
      have x131 : mUp m9 141 (300 * d + n) z 131 d = (n : Int) + 1 := by
        rw [mUp.no (by omega), f9 131 d (by omega) (by omega) (by omega), y131]
      refine ⟨g5, gr.act enn A10 x131 ⟨?_, fun _ _ => mUp.yes ⟨rfl, rfl⟩⟩, by omega, A10 _ _ (by omega) (by omega) (by omega), by omega⟩
      rw [mUp.no (by omega), f9 140 (300 * d + n) (by omega) (by omega) (by omega), y140]
    have w0 : RG mb 8 r m 0 0 (ouAct u (v, 0)) → (v = 23 ∨ v = 24) → Q mb := by
      intro c h2
      refine k mb _ c (Ab.df (by omega)) fun g => ?_
      have yb := gob g
      exact ⟨g5, gr.act enn Ab y131 ⟨y140, fun a b => absurd h2 (fun y => y.elim a b)⟩, by omega, Ab _ _ (by omega) (by omega) (by omega), by omega⟩
    refine ⟨fun e => ?_, fun e25 => ⟨fun e26 => ⟨fun e12 => ⟨fun e13 => ⟨fun e27 => ⟨fun e28 => ?_, fun e c ec rc => ?_⟩, fun e => ?_⟩, fun e => ?_⟩, fun e => ?_⟩, fun e => ?_⟩⟩
    · subst e
      exact wn 0 65535 (mv 7 0 65535 _ (o7 _) (fun _ _ => rfl) (fun _ => rfl))
    · have h2 : v = 23 ∨ v = 24 := by omega
      refine w0 (mv 8 0 0 _ ⟨by decide, by decide, fun e => absurd e (by decide)⟩ (fun f q => ?_) (fun v' => ?_)) h2
      · rcases h2 with e | e <;> rw [e] <;> rfl
      · show (if v = 23 ∨ v = 24 then ouAct u (v, 0) else ouWhat u v) = _
        rw [if_pos h2]
    · subst e
      have ec' : c = m8 106 39 := ec.symm.trans (fb _ _ (by omega) (by omega) (by omega))
      subst ec'
      exact wn 0 (m8 106 39 - 1) (mv 7 0 (m8 106 39 - 1) _ (o7 _) (fun _ _ => rfl) (fun _ => rfl))
    · subst e
      exact wn 1 9 (mv 7 1 9 _ (o7 _) (fun _ _ => rfl) (fun _ => rfl))
    · subst e
      exact wn 0 1000000 (mv 7 0 1000000 _ (o7 _) (fun _ _ => rfl) (fun _ => rfl))
    · subst e
      exact wn 0 1000 (mv 7 0 1000 _ (o7 _) (fun _ _ => rfl) (fun _ => rfl))
    · subst e
      exact wn 0 65535 (mv 7 0 65535 _ (o7 _) (fun _ _ => rfl) (fun _ => rfl))
  intro t et rt
  have yes : μ 106 35 = 1 → isAc (μ 106 36) → WJ_X12_actRead_Wx_1 w μ Q 1 := fun a b _ => ⟨fun _ => J2 μ (Or.inl ⟨rfl, a, b⟩), fun q => absurd q (by decide)⟩
  have no : ¬ (μ 106 35 = 1 ∧ isAc (μ 106 36)) → WJ_X12_actRead_Wx_1 w μ Q 0 := fun a _ => ⟨fun q => absurd rfl q, fun _ => X12_wrong_s fun m5 wk f5 _ _ => J2 m5 (Or.inr ⟨wk.no (by decide), fun e' => h.1.a2 (wrF.fk f5).tb wk a, wrF.fk f5⟩)⟩
  refine ⟨fun q => no fun y => q (et.symm.trans y.1), fun q v ev rv => X12_in_r fun b hb rb => ⟨fun q2 => yes (et.trans q) ?_, fun q2 => ⟨fun e => yes (et.trans q) ?_, fun e12 => ⟨fun e13 => no fun y => ?_, fun e => yes (et.trans q) ?_⟩⟩⟩⟩
  · rw [ev]; exact Or.inr (Or.inr (hb.mp (by omega)))
  · rw [ev]; exact Or.inl e
  · have y2 := y.2
    unfold isAc at y2
    have : ¬ (23 ≤ v ∧ v ≤ 28) := fun y => by
      have := hb.mpr y
      omega
    omega
  · rw [ev]; exact Or.inr (Or.inl e)
end ActR
section RowR
variable {w : mW} {μ : mM} {d : Nat} {r m : Int} {u : Out} {Q : mM → Prop}
/-- what stands within a row, with room for tests and acts -/
def GP (μ m1 : mM) (d : Nat) (u : Out) (r m a : Int) : Prop := m1 106 37 = 0 → GR m1 d u r m ∧ 4 * m1 130 d ≤ m1 106 34 ∧ 4 * m1 131 d ≤ m1 106 34 + a ∧ μ 106 34 ≤ m1 106 34
theorem X12_rowRead_s (hw : mWF w) (hT : mT w μ) (hd : μ 106 58 = (d : Int)) (h12 : d ≤ 12) (h : RG μ 0 r m 0 0 u) (g0 : μ 106 37 = 0) (h0 : ¬ μ 106 35 = 0) (hg : GR0 μ d u r m ∧ 4 * μ 130 d ≤ μ 106 34 ∧ 4 * μ 131 d ≤ μ 106 34) (k : ∀ (m1 : mM) (r' m' : Int) (u' : Out), RG m1 0 r' m' 0 0 u' → dF d μ m1 → (m1 106 37 = 0 → GR0 m1 d u' r' m' ∧ 4 * m1 130 d ≤ m1 106 34 ∧ 4 * m1 131 d ≤ m1 106 34 ∧ μ 106 34 + 1 ≤ m1 106 34) → Q m1) : WP_X12_rowRead_Wx w μ Q := by
  have s34 : 0 ≤ μ 106 34 ∧ μ 106 34 ≤ 1000 := hT 106 106 (A_106 hw) 34
  obtain ⟨gr0, p0, p1⟩ := hg
  have er : r = (u.1.length : Int) := gr0.2.1.1
  have e127 : μ 127 d = r := gr0.2.1.2.1
  have rl : u.1.length ≤ 30 := gr0.2.1.2.2
  -- behind the tests: acts up to the end of the row
  have J4 : r ≤ 29 → ∀ (m8 m9 : mM) (m' : Int) (u9 : Out), RG m9 6 (r + 1) m' 0 0 u9 → dF d μ m9 → GP μ m9 d u9 (r + 1) m' 0 → WJ_X12_rowRead_Wx_4 w Q (d : Int) r m8 m9 := by
    intro hr m8 m9 m' u9 c9 f9 hg9 hT9 _
    have d9 : m9 106 58 = (d : Int) := (f9 _ _ (by omega) (by omega) (by omega)).trans hd
    refine X12_actRead_s hw hT9 d9 c9 (fun g => ⟨(hg9 g).1, by have := (hg9 g).2.2.1; omega⟩) fun m10 u10 c10 f10 hg10 hT10 _ => ?_
    have t34 : 0 ≤ m10 106 34 ∧ m10 106 34 ≤ 1000 := hT10 106 106 (A_106 hw) 34
    refine loopF.gh (fun m11 kk => ∃ u11 : Out, RG m11 8 (r + 1) m' 0 0 u11 ∧ dF d μ m11 ∧ GP μ m11 d u11 (r + 1) m' 1 ∧ (m11 106 37 = 0 → kk = (1001 - m11 106 34).toNat + 1)) ?_ 1010 m10 ((1001 - m10 106 34).toNat + 1) ⟨u10, c10, f9.trans f10, fun g => ?_, fun _ => rfl⟩ (by omega)
    rotate_left 1
    · obtain ⟨y1, y2, y3, y4, y5⟩ := hg10 g
      obtain ⟨z1, z2, z3, z4⟩ := hg9 y1
      exact ⟨y2, by omega, y3, by omega⟩
    rintro rc m11 kk ⟨u11, c11, f11, hg11, hk11⟩ ih m11' eq hT11 _ cc ecc rcc ty ety rty v ev rv
    cases eq
    have s11 : 0 ≤ m11 106 34 ∧ m11 106 34 ≤ 1000 := hT11 106 106 (A_106 hw) 34
    refine X12_isSign_s fun z hz rz => ⟨fun q => X12_sign_s hw fun m12 hT12 n12 f12 _ _ za ea ra m13 u13 _ zb eb rb m14 u14 _ => ?_, fun q => ?_⟩
    · obtain rfl := u13.is
      rw [mUp.no (by omega), Int.toNat_natCast] at eb
      obtain rfl := u14.is
      rw [Int.toNat_natCast] at ea
      have c12 : RG m12 0 (r + 1) m' 0 0 (ouEnd u11) := RG.sgk c11 (c11.1.semi f12.tb n12 (fun y => by have := hz.mpr y; omega)) f12 n12 (by decide) (by decide) (fun _ _ _ _ => rfl) (fun _ => rfl)
      obtain ⟨m14, h14⟩ : ∃ m14, m14 = mUp (mUp m12 128 (31 * (d : Int) + r + 1).toNat za) 129 (31 * (d : Int) + r + 1).toNat zb := ⟨_, rfl⟩
      rw [← h14]
      have fr14 : ∀ b i, ¬ ((b = 128 ∨ b = 129) ∧ i = 31 * d + r.toNat + 1) → m14 b i = m12 b i := fun b i q => by
        rw [h14, mUp.no (by omega), mUp.no (by omega)]
      have ro14 : roF m12 m14 := fun b i q1 q2 => fr14 b i (by omega)
      have df14 : dF d m12 m14 := fun b i q1 q2 q3 => fr14 b i (by omega)
      refine k m14 (r + 1) m' (ouEnd u11) (c12.same ro14.tb ro14.ts) (f11.trans (f12.df.trans df14)) fun g => ?_
      have y := n12.at c11.2 (ro14.ts.2.2.2.2.1.symm.trans g)
      obtain ⟨z1, z2, z3, z4⟩ := hg11 y.1
      have G12 : GR m12 d u11 (r + 1) m' := z1.tok f12
      have el : r.toNat = u11.1.length := by
        have := G12.2.1.1
        omega
      have e8 : m14 128 (31 * d + u11.1.length + 1) = m12 130 d := by
        rw [h14, mUp.no (by omega), mUp.yes ⟨rfl, by omega⟩]
        exact ea.symm
      have e9 : m14 129 (31 * d + u11.1.length + 1) = m12 131 d := by
        rw [h14, mUp.yes ⟨rfl, by omega⟩]
        exact eb.symm
      have x34 := ro14.ts.2.1
      have x130 : m14 130 d = m11 130 d := (fr14 _ _ (by omega)).trans (f12 _ _ (by omega) (by omega) (by omega))
      have x131 : m14 131 d = m11 131 d := (fr14 _ _ (by omega)).trans (f12 _ _ (by omega) (by omega) (by omega))
      exact ⟨G12.fin (fun b i q => fr14 b i (by omega)) e8 e9, by omega, by omega, by omega⟩
    · have sg := hz.mp (by omega)
      intro z1 _ _ z2 _ _ m12 F12 hT12 z3 _ z4 _ z5 _ z6 _ z7 _ n12
      have f12 := mF.tok hw F12
      have c12 : RG m12 6 (r + 1) m' 0 0 u11 := RG.sg c11 f12.tb sg.2 (by decide) n12 ⟨by decide, by decide, fun e => absurd e (by decide)⟩ ⟨by decide, by decide, fun e => absurd e (by decide)⟩ (fun _ _ _ _ => rfl) (fun _ => rfl)
      have d12 : m12 106 58 = (d : Int) := ((f12 _ _ (by omega) (by omega) (by omega)).trans (f11 _ _ (by omega) (by omega) (by omega))).trans hd
      have ek := hk11 sg.1
      obtain ⟨y1, y2, y3, y4⟩ := hg11 sg.1
      have x130 : m12 130 d = m11 130 d := f12 _ _ (by omega) (by omega) (by omega)
      have x131 : m12 131 d = m11 131 d := f12 _ _ (by omega) (by omega) (by omega)
      have at12 : m12 106 37 = 0 → m11 106 34 + 1 ≤ m12 106 34 := fun g => (nxR.at c11.2 n12 g).2.2.1 (by omega)
      refine X12_actRead_s hw hT12 d12 c12 (fun g => ⟨y1.tok f12, by have := at12 g; omega⟩) fun m13 u13 c13 f13 hg13 hT13 _ => ?_
      by_cases g13 : m13 106 37 = 0
      · obtain ⟨x1, x2, x3, x4, x5⟩ := hg13 g13
        have := at12 x1
        exact ih m13 ((1001 - m13 106 34).toNat + 1) ⟨u13, c13, f11.trans (f12.df.trans f13), fun _ => ⟨x2, by omega, x3, by omega⟩, fun _ => rfl⟩ (by omega)
      · exact ih m13 0 ⟨u13, c13, f11.trans (f12.df.trans f13), fun g => absurd g g13, fun g => absurd g g13⟩ (by omega)
  -- tests
  have LT : r ≤ 29 → ∀ (m8 m10 : mM) (m' : Int) (u10 : Out), mT w m10 → RG m10 5 (r + 1) m' 0 0 u10 → dF d μ m10 → GP μ m10 d u10 (r + 1) m' 0 → (m10 106 37 = 0 → u10.2.2.2.1 = (0, 0, 0, 0)) → loopF (WL_X12_rowRead_Wx_6 w Q (d : Int) r m8 m10) False 1010 m10 := by
    intro hr m8 m10 m' u10 hT10 c10 f10 hg10 hc10
    have t34 : 0 ≤ m10 106 34 ∧ m10 106 34 ≤ 1000 := hT10 106 106 (A_106 hw) 34
    refine loopF.gh (fun m11 kk => ∃ (m'' : Int) (u11 : Out), RG m11 5 (r + 1) m'' 0 0 u11 ∧ dF d μ m11 ∧ GP μ m11 d u11 (r + 1) m'' 0 ∧ (m11 106 37 = 0 → u11.2.2.2.1 = (0, 0, 0, 0) ∧ kk = (1001 - m11 106 34).toNat + 1)) ?_ 1010 m10 ((1001 - m10 106 34).toNat + 1) ⟨m', u10, c10, f10, hg10, fun g => ⟨hc10 g, rfl⟩⟩ (by omega)
    rintro rc m11 kk ⟨m'', u11, c11, f11, hg11, hk11⟩ ih m11' eq hT11 _ cc ecc rcc ty ety rty v ev rv
    cases eq
    have s11 : 0 ≤ m11 106 34 ∧ m11 106 34 ≤ 1000 := hT11 106 106 (A_106 hw) 34
    refine X12_isWord_s fun z hz rz => ⟨fun q => X12_isWord_s fun z2 hz2 rz2 => ⟨fun q2 => ?_, fun q2 => X12_wrong_s fun m12 wk f12 _ _ a1 _ _ a2 _ _ m13 F13 hT13 b1 _ b2 _ b3 _ b4 _ b5 _ n13 => ?_⟩, fun q => ?_⟩
    · have wd := hz2.mp (by omega)
      intro z1 _ _ m12 F12 hT12 b1 _ b2 _ b3 _ b4 _ b5 _ n12
      have f12 := mF.tok hw F12
      have c12 : RG m12 6 (r + 1) m'' 0 0 u11 := RG.wd c11 f12.tb wd.2 (by decide) n12 ⟨by decide, by decide, fun e => absurd e (by decide)⟩ ⟨by decide, by decide, fun e => absurd e (by decide)⟩ (fun _ _ _ _ => rfl) (fun _ => rfl)
      refine J4 hr m8 m12 m'' u11 c12 (f11.trans f12.df) fun g => ?_
      have y := nxR.at c11.2 n12 g
      obtain ⟨y1, y2, y3, y4⟩ := hg11 y.1
      have x130 : m12 130 d = m11 130 d := f12 _ _ (by omega) (by omega) (by omega)
      have x131 : m12 131 d = m11 131 d := f12 _ _ (by omega) (by omega) (by omega)
      exact ⟨y1.tok f12, by omega, by omega, by omega⟩
    · have b12 := wk.no (by decide)
      have f13 := mF.tok hw F13
      refine J4 hr m8 m13 m'' u11 ⟨(c11.1.thB (e' := fun p => (6, p, r + 1, m'', 0, 0)) (wrF.fk f12).tb wk (fun y => ?_) (fun y => ?_)).nxB f13.tb n13 b12, RSo.vac (n13.nb b12)⟩ (f11.trans ((wrF.fk f12).trans f13).df) fun g => absurd g (n13.nb b12)
      · have := hz.mpr y
        omega
      · have := hz2.mpr y
        omega
    · have wd := hz.mp (by omega)
      intro z1 _ _ m12 F12 hT12 b1 _ b2 _ b3 _ b4 _ b5 _ n12
      have f12 := mF.tok hw F12
      have c12 : RG m12 1 (r + 1) m'' 0 0 u11 := RG.wd c11 f12.tb wd.2 (by decide) n12 ⟨by decide, by decide, fun e => absurd e (by decide)⟩ ⟨by decide, by decide, fun e => absurd e (by decide)⟩ (fun _ _ _ _ => rfl) (fun _ => rfl)
      have d12 : m12 106 58 = (d : Int) := ((f12 _ _ (by omega) (by omega) (by omega)).trans (f11 _ _ (by omega) (by omega) (by omega))).trans hd
      obtain ⟨cur, ek⟩ := hk11 wd.1
      obtain ⟨y1, y2, y3, y4⟩ := hg11 wd.1
      have x130 : m12 130 d = m11 130 d := f12 _ _ (by omega) (by omega) (by omega)
      have x131 : m12 131 d = m11 131 d := f12 _ _ (by omega) (by omega) (by omega)
      have at12 : m12 106 37 = 0 → m11 106 34 + 2 ≤ m12 106 34 := fun g => ((nxR.at c11.2 n12 g).2.2.2 wd.2.1).1
      refine X12_test_s hw hT12 d12 h12 c12 (fun g => ⟨y1.tok f12, by have := at12 g; omega, cur⟩) fun m13 m3' u13 c13 f13 hg13 hT13 _ => ?_
      by_cases g13 : m13 106 37 = 0
      · obtain ⟨x1, x2, x3, x4, x5, x6⟩ := hg13 g13
        have := at12 x1
        exact ih m13 ((1001 - m13 106 34).toNat + 1) ⟨m3', u13, c13, f11.trans (f12.df.trans f13), fun _ => ⟨x2, x4, by omega, by omega⟩, fun _ => ⟨x3, rfl⟩⟩ (by omega)
      · exact ih m13 0 ⟨m3', u13, c13, f11.trans (f12.df.trans f13), fun g => absurd g g13, fun g => absurd g g13⟩ (by omega)
  have J3 : ∀ m7 : mM, ((m7 = μ ∧ (μ 106 35 = 1 ∧ (μ 106 36 = 0 ∨ isAc (μ 106 36))) ∧ ¬ r = 30) ∨ (¬ m7 106 37 = 0 ∧ (∀ e' : Int → Cfg, RSc m7 e') ∧ frK μ m7)) → ∀ m5 : mM, WJ_X12_rowRead_Wx_3 w Q m5 (d : Int) r m7 := by
    intro m7 h7 m5 _ _ c7 ec7 rc7
    refine ⟨fun q7 => ?_, fun q7 => ?_⟩
    rotate_left 1
    · have b7 : ¬ m7 106 37 = 0 := by
        rw [ec7]; exact q7
      rcases h7 with ⟨e, _⟩ | ⟨_, rs, f7⟩
      · rw [e] at b7
        exact absurd g0 b7
      · exact k m7 r m u ⟨rs _, RSo.vac b7⟩ f7.df fun g => absurd g b7
    have g7 : m7 106 37 = 0 := ec7.trans q7
    obtain ⟨e, ok, nr⟩ : m7 = μ ∧ (μ 106 35 = 1 ∧ (μ 106 36 = 0 ∨ isAc (μ 106 36))) ∧ ¬ r = 30 := by
      rcases h7 with h7 | ⟨b, _⟩
      · exact h7
      · exact absurd g7 b
    rw [e]
    have hr : r ≤ 29 := by omega
    refine ⟨hr, fun _ m8a u8a _ za ea ra m8b u8b _ zb eb rb m8c u8c hT8 v ev rv => ?_⟩
    obtain rfl := u8a.is
    rw [mUp.no (by omega), Int.toNat_natCast] at ea
    obtain rfl := u8b.is
    rw [mUp.no (by omega), mUp.no (by omega), Int.toNat_natCast] at eb
    obtain rfl := u8c.is
    obtain ⟨m8, hm8⟩ : ∃ m8, m8 = mUp (mUp (mUp μ 127 (d : Int).toNat (r + 1)) 128 (31 * (d : Int) + r).toNat za) 129 (31 * (d : Int) + r).toNat zb := ⟨_, rfl⟩
    rw [← hm8] at ev ⊢
    have fr8 : ∀ b i, ¬ (b = 127 ∧ i = d) → ¬ ((b = 128 ∨ b = 129) ∧ i = 31 * d + u.1.length) → m8 b i = μ b i := fun b i q1 q2 => by
      rw [hm8, mUp.no (by omega), mUp.no (by omega), mUp.no (by omega)]
    have e7 : m8 127 d = r + 1 := by
      rw [hm8, mUp.no (by omega), mUp.no (by omega), mUp.yes ⟨rfl, by omega⟩]
    have e8 : m8 128 (31 * d + u.1.length) = μ 130 d := by
      rw [hm8, mUp.no (by omega), mUp.yes ⟨rfl, by omega⟩]
      exact ea.symm
    have e9 : m8 129 (31 * d + u.1.length) = μ 131 d := by
      rw [hm8, mUp.yes ⟨rfl, by omega⟩]
      exact eb.symm
    have G8 : GR m8 d (ouNew u) (r + 1) m := gr0.new hr fr8 e7 e8 e9
    have ro8 : roF μ m8 := fun b i q1 q2 => fr8 b i (by omega) (by omega)
    have D8 : dF d μ m8 := fun b i q1 q2 q3 => fr8 b i (by omega) (by omega)
    have c8 := h.same ro8.tb ro8.ts
    have x35 : m8 106 35 = 1 := ro8.ts.2.2.1.trans ok.1
    have x36 : m8 106 36 = μ 106 36 := ro8.ts.2.2.2.1
    have x37 : m8 106 37 = 0 := ro8.ts.2.2.2.2.1.trans g0
    have x34 := ro8.ts.2.1
    have x130 : m8 130 d = μ 130 d := fr8 _ _ (by omega) (by omega)
    have x131 : m8 131 d = μ 131 d := fr8 _ _ (by omega) (by omega)
    refine X12_isWord_s fun z hz rz => ⟨fun q => ?_, fun q => ?_⟩
    · have ac : isAc (m8 106 36) := by
        rw [x36]
        rcases ok.2 with y | y
        · have := hz.mpr ⟨x37, x35, x36.trans y⟩
          omega
        · exact y
      have ac' := ac
      unfold isAc at ac'
      have c9 : RG m8 6 (r + 1) m 0 0 (ouNew u) := by
        refine ⟨c8.1.rA ⟨x35, ac⟩ (by omega) rfl, c8.2.stay (by decide) (fun p t v f q g ty _ => ?_) (fun t v g ty _ => rfl)⟩
        have e : t = m8 106 36 := (ty.word (m8 106 36) (by omega)).mpr ⟨x35, rfl⟩
        show n0 p r m t f q = _
        unfold n0
        rw [if_neg (by omega), if_neg (fun y => y (Or.inr (by rw [e]; exact ac))), if_neg (by omega), if_neg (by omega)]
      exact J4 hr m8 m8 m (ouNew u) c9 D8 fun _ => ⟨G8, by omega, by omega, by omega⟩
    · have wd := hz.mp (by omega)
      intro z1 _ _ z2 _ _ m9 F9 hT9 b1 _ b2 _ b3 _ b4 _ b5 _ n9
      have f9 := mF.tok hw F9
      have c9 : RG m9 1 (r + 1) m 0 0 (ouNew u) := by
        refine ⟨c8.1.rI f9.tb n9 wd.2 (by omega) rfl, c8.2.next f9.tb n9 (by decide) (fun p t v f q ty _ => ?_) (fun t v ty _ => rfl)⟩
        have e : t = 0 := (ty.word 0 (by decide)).mpr wd.2
        show n0 p r m t f q = _
        unfold n0
        rw [if_neg (by omega), if_neg (fun g => g (Or.inl e)), if_neg (by omega), if_pos e]
      have d9 : m9 106 58 = (d : Int) := ((f9 _ _ (by omega) (by omega) (by omega)).trans (D8 _ _ (by omega) (by omega) (by omega))).trans hd
      have y130 : m9 130 d = m8 130 d := f9 _ _ (by omega) (by omega) (by omega)
      have y131 : m9 131 d = m8 131 d := f9 _ _ (by omega) (by omega) (by omega)
      have at9 : m9 106 37 = 0 → m8 106 34 + 2 ≤ m9 106 34 := fun g => ((nxR.at c8.2 n9 g).2.2.2 wd.2.1).1
      refine X12_test_s hw hT9 d9 h12 c9 (fun g => ⟨G8.tok f9, by have := at9 g; omega, rfl⟩) fun m10 m' u10 c10 f10 hg10 hT10 _ => LT hr m8 m10 m' u10 hT10 c10 (D8.trans (f9.df.trans f10)) (fun g => ?_) (fun g => (hg10 g).2.2.1)
      obtain ⟨x1, x2, x3, x4, x5, x6⟩ := hg10 g
      have := at9 x1
      exact ⟨x2, x4, by omega, by omega⟩
  have J2 : ∀ m5 : mM, ((m5 = μ ∧ μ 106 35 = 1 ∧ (μ 106 36 = 0 ∨ isAc (μ 106 36))) ∨ (¬ m5 106 37 = 0 ∧ (∀ e' : Int → Cfg, RSc m5 e') ∧ frK μ m5)) → WJ_X12_rowRead_Wx_2 w μ Q m5 := by
    intro m5 h5 _ _ dd edd rdd rr err rrr
    obtain ⟨e58, e7⟩ : m5 106 58 = (d : Int) ∧ m5 127 d = r := by
      rcases h5 with ⟨e, _⟩ | ⟨_, _, f5⟩
      · rw [e]; exact ⟨hd, e127⟩
      · exact ⟨(f5 _ _ (by omega) (by omega) (by omega)).trans hd, (f5 _ _ (by omega) (by omega) (by omega)).trans e127⟩
    have edd' : dd = (d : Int) := edd.symm.trans e58
    subst edd'
    rw [Int.toNat_natCast] at err
    have er' : rr = r := err.symm.trans e7
    rw [er']
    refine ⟨fun q => J3 m5 ?_ m5, fun q => X12_wrong_s fun m7 wk f7 _ _ => J3 m7 (Or.inr ⟨wk.no (by decide), fun e' => ?_, ?_⟩) m5⟩
    · rcases h5 with ⟨e, ok⟩ | h5
      · exact Or.inl ⟨e, ok, q⟩
      · exact Or.inr h5
    · rcases h5 with ⟨e, ok⟩ | ⟨b5, rs, f5⟩
      · subst e
        exact h.1.r4 (wrF.fk f7).tb wk ok (by omega)
      · exact (rs e').wrB (wrF.fk f7).tb wk b5
    · rcases h5 with ⟨e, ok⟩ | ⟨b5, rs, f5⟩
      · subst e
        exact wrF.fk f7
      · exact f5.trans (wrF.fk f7)
  intro t et rt
  have yes : μ 106 35 = 1 → (μ 106 36 = 0 ∨ isAc (μ 106 36)) → WJ_X12_rowRead_Wx_1 w μ Q 1 := fun a b _ => ⟨fun _ => J2 μ (Or.inl ⟨rfl, a, b⟩), fun q => absurd q (by decide)⟩
  have no : ¬ (μ 106 35 = 1 ∧ (μ 106 36 = 0 ∨ isAc (μ 106 36))) → WJ_X12_rowRead_Wx_1 w μ Q 0 := fun a _ => ⟨fun q => absurd rfl q, fun _ => X12_wrong_s fun m5 wk f5 _ _ => J2 m5 (Or.inr ⟨wk.no (by decide), fun e' => h.1.r2 (wrF.fk f5).tb wk h0 a, wrF.fk f5⟩)⟩
  refine ⟨fun q => no fun y => q (et.symm.trans y.1), fun q v ev rv => ⟨fun e => yes (et.trans q) (Or.inl (ev.trans e)), fun e0 => X12_in_r fun b hb rb => ⟨fun q2 => yes (et.trans q) ?_, fun q2 => ⟨fun e => yes (et.trans q) ?_, fun e12 => ⟨fun e13 => no fun y => ?_, fun e => yes (et.trans q) ?_⟩⟩⟩⟩⟩
  · rw [ev]; exact Or.inr (Or.inr (Or.inr (hb.mp (by omega))))
  · rw [ev]; exact Or.inr (Or.inl e)
  · have y2 := y.2
    unfold isAc at y2
    have : ¬ (23 ≤ v ∧ v ≤ 28) := fun y => by
      have := hb.mpr y
      omega
    omega
  · rw [ev]; exact Or.inr (Or.inr (Or.inl e))
end RowR
theorem RSo.init {μ μ1 : mM} (h33 : μ 106 33 = 0) (tb : tbR μ μ1) (n : nxR μ μ1) : RSo μ1 (fun p => (0, p, 0, 0, 0, 0)) ou0 := fun g => by
  obtain ⟨b1, b2⟩ := tb
  rcases n with ⟨n1, n2, _⟩ | ⟨_, t, v, f, q, tk, k⟩
  · exact absurd (n2.symm.trans g) n1
  · rw [h33] at tk
    rcases k with ⟨x1, x2, x3, x4, x5⟩ | ⟨_, x2, _⟩
    · exact ⟨0, t, v, q, by rw [b1, x4]; exact tk, x1, x3, x5, rcO.refl⟩
    · omega
/-- what policy writes -/
def pF (d : Nat) (μ m : mM) : Prop := ∀ b i, 106 ≤ b → b < 192 → ¬ ((b = 106 ∧ ((33 ≤ i ∧ i ≤ 38) ∨ i = 59 ∨ i = 58 ∨ i = 66 ∨ i = 1 ∨ i = 39)) ∨ ((b = 127 ∨ b = 130 ∨ b = 131 ∨ b = 142) ∧ i = d) ∨ ((b = 128 ∨ b = 129) ∧ 31 * d ≤ i ∧ i < 31 * d + 31) ∨ ((132 ≤ b ∧ b ≤ 141) ∧ 300 * d ≤ i ∧ i < 300 * d + 300) ∨ ((b = 143 ∨ b = 144) ∧ 41 * d ≤ i ∧ i < 41 * d + 41) ∨ (145 ≤ b ∧ b ≤ 150)) → m b i = μ b i
theorem GR0.pl {μ m1 : mM} {d : Nat} {u : Out} {r m : Int} (h : GR0 μ d u r m) (f : ∀ b i, 127 ≤ b → b ≤ 144 → m1 b i = μ b i) : plR m1 d (u.1, (oW u).1, (oW u).2.1, m.toNat) := by
  obtain ⟨⟨nm, rm⟩, ⟨r1, r2, r3⟩, rows, e8, e0, e1⟩ := h
  refine ⟨?_, rwR.at u.1 0 0 0 (fun b j q1 _ _ => f b j (by omega) (by omega)) (fun b j q1 q2 _ _ => f b j (by omega) (by omega)) (fun b j q1 _ _ => f b j (by omega) (by omega)) rows, ?_, fun k hk => ?_⟩
  · show m1 127 d = (u.1.length : Int)
    rw [f 127 d (by omega) (by omega), r2]
    exact r1
  · show m1 142 d = ((m.toNat : Nat) : Int)
    rw [f 142 d (by omega) (by omega), nm.1]
    omega
  · have hk' : k < m.toNat := hk
    rw [f 143 _ (by omega) (by omega), f 144 _ (by omega) (by omega)]
    exact nm.2 k (by omega)
section PolR
variable {w : mW} {μ : mM} {Q : Int → mM → Prop}
/-- what policy answers: mx is where reading ends -/
def poR (μ mx m1 : mM) (d : Nat) (z : Int) : Prop := (¬ mx 106 37 = 0 ∧ z = -10 - mx 106 38 ∧ m1 106 39 = μ 106 39) ∨ (mx 106 37 = 0 ∧ μ 106 39 = 12 ∧ z = -3 ∧ m1 106 39 = 12) ∨ (mx 106 37 = 0 ∧ μ 106 39 < 12 ∧ z = μ 106 39 ∧ m1 106 39 = μ 106 39 + 1 ∧ ∃ (u : Out) (r m' : Int), rcE (bR μ) (μ 106 39) u r m' ∧ plR m1 d (u.1, (oW u).1, (oW u).2.1, m'.toNat) ∧ m1 131 d = (sAs u.1 : Int) ∧ 0 ≤ m' ∧ m' ≤ 40)
theorem X12_policy_s (hw : mWF w) (k : ∀ (z : Int) (d : Nat) (mx m1 : mM), (d : Int) = μ 106 39 → d ≤ 12 → RdR μ mx (μ 106 39) → pF d μ m1 → m1 106 66 = mx 106 37 → m1 106 1 = 0 → poR μ mx m1 d z → Q z m1) : WP_X12_policy_Wx w μ Q := by
  have J1 : ∀ c : Int, μ 106 39 = c → (0 ≤ c ∧ c ≤ 12) → WJ_X12_policy_Wx_1 w μ Q c c := by
    intro c ec rc _ m1 u1 _ m2 u2 _ m3 u3 _ m4 u4 _ m5 u5 _ m6 u6 _ m7 u7 _ s es rs m8 F8 hT8 b1 _ b2 _ b3 _ b4 _ b5 _ n8
    obtain rfl := u1.is
    obtain rfl := u2.is
    obtain rfl := u3.is
    obtain rfl := u4.is
    obtain rfl := u5.is
    obtain rfl := u6.is
    obtain rfl := u7.is
    obtain ⟨d, hd⟩ := Int.eq_ofNat_of_zero_le rc.1
    subst hd
    rw [Int.toNat_natCast] at F8 n8
    have f8 := mF.tok hw F8
    obtain ⟨m7, hm7⟩ : ∃ m7, m7 = mUp (mUp (mUp (mUp (mUp (mUp (mUp μ 106 58 (d : Int)) 127 d 0) 130 d 0) 131 d 0) 142 d 0) 106 33 0) 106 37 0 := ⟨_, rfl⟩
    rw [← hm7] at f8 n8
    have fr7 : ∀ b i, ¬ (b = 106 ∧ (i = 58 ∨ i = 33 ∨ i = 37)) → ¬ ((b = 127 ∨ b = 130 ∨ b = 131 ∨ b = 142) ∧ i = d) → m7 b i = μ b i := fun b i q1 q2 => by
      rw [hm7, mUp.no (by omega), mUp.no (by omega), mUp.no (by omega), mUp.no (by omega), mUp.no (by omega), mUp.no (by omega), mUp.no (by omega)]
    have e33 : m7 106 33 = 0 := by
      rw [hm7, mUp.no (by omega), mUp.yes ⟨rfl, rfl⟩]
    have e37 : m7 106 37 = 0 := by
      rw [hm7, mUp.yes ⟨rfl, rfl⟩]
    have e58 : m7 106 58 = (d : Int) := by
      rw [hm7, mUp.no (by omega), mUp.no (by omega), mUp.no (by omega), mUp.no (by omega), mUp.no (by omega), mUp.no (by omega), mUp.yes ⟨rfl, rfl⟩]
    have e127 : m7 127 d = 0 := by
      rw [hm7, mUp.no (by omega), mUp.no (by omega), mUp.no (by omega), mUp.no (by omega), mUp.no (by omega), mUp.yes ⟨rfl, rfl⟩]
    have e130 : m7 130 d = 0 := by
      rw [hm7, mUp.no (by omega), mUp.no (by omega), mUp.no (by omega), mUp.no (by omega), mUp.yes ⟨rfl, rfl⟩]
    have e131 : m7 131 d = 0 := by
      rw [hm7, mUp.no (by omega), mUp.no (by omega), mUp.no (by omega), mUp.yes ⟨rfl, rfl⟩]
    have e142 : m7 142 d = 0 := by
      rw [hm7, mUp.no (by omega), mUp.no (by omega), mUp.yes ⟨rfl, rfl⟩]
    have tb7 : tbR μ m7 := ⟨bR.cg (fr7 _ _ (by omega) (by omega)) (fun k => fr7 _ _ (by omega) (by omega)), fr7 _ _ (by omega) (by omega)⟩
    have h12 : d ≤ 12 := by omega
    have c8 : RG m8 0 0 0 0 0 ou0 := ⟨RSc.init e33 e37 f8.tb n8 rfl rfl, RSo.init e33 f8.tb n8⟩
    have t34 : 0 ≤ m8 106 34 ∧ m8 106 34 ≤ 1000 := hT8 106 106 (A_106 hw) 34
    have x130 : m8 130 d = 0 := (f8 _ _ (by omega) (by omega) (by omega)).trans e130
    have x131 : m8 131 d = 0 := (f8 _ _ (by omega) (by omega) (by omega)).trans e131
    have x142 : m8 142 d = 0 := (f8 _ _ (by omega) (by omega) (by omega)).trans e142
    have x127 : m8 127 d = 0 := (f8 _ _ (by omega) (by omega) (by omega)).trans e127
    have G8 : GR0 m8 d ou0 0 0 := ⟨⟨⟨x142, fun k hk => absurd hk (by omega)⟩, by decide⟩, ⟨rfl, x127, by decide⟩, trivial, fun q => absurd rfl q, x130, x131⟩
    have fin : ∀ (m9 : mM) (r m' ff : Int) (u9 : Out), RG m9 0 r m' 0 0 u9 → dF d m7 m9 → m9 106 37 = ff → (m9 106 37 = 0 → m9 106 35 = 0 ∧ GR0 m9 d u9 r m') → WJ_X12_policy_Wx_3 w Q (d : Int) m9 ff := by
      intro m9 r m' ff u9 c9 f9 eff hg9 m10 u10 _ m11 u11 _
      obtain rfl := u10.is
      obtain rfl := u11.is
      have eb : bR m9 = bR μ := f9.tb.1.trans tb7.1
      have e39 : m9 106 39 = (d : Int) := (f9.tb.2.trans tb7.2).trans ec
      have hR : RdR μ m9 (μ 106 39) := RdR.mk c9.1 (fun g => (hg9 g).1) eb (e39.trans ec.symm)
      have hd : (d : Int) = μ 106 39 := ec.symm
      have pf : ∀ m12 : mM, (∀ b i, ¬ (b = 106 ∧ (i = 66 ∨ i = 1 ∨ i = 39)) → m12 b i = m9 b i) → pF d μ m12 := fun m12 f12 b i q1 q2 q3 => ((f12 b i (by omega)).trans (f9 b i q1 q2 (by omega))).trans (fr7 b i (by omega) (by omega))
      refine ⟨fun q => ⟨fun q2 m12 u12 _ => ?_, fun q2 => ?_⟩, fun q v ev rv => ?_⟩
      · obtain rfl := u12.is
        have g9 : m9 106 37 = 0 := eff.trans q
        obtain ⟨t0, G9⟩ := hg9 g9
        have dn := c9.2.dn g9 t0
        rw [eb, e39, hd] at dn
        refine k _ d m9 _ hd h12 hR (pf _ fun b i q => by rw [mUp.no (by omega), mUp.no (by omega), mUp.no (by omega)]) ?_ ?_ (Or.inr (Or.inr ⟨g9, by omega, by omega, ?_, u9, r, m', dn, ?_, ?_, G9.1.2⟩))
        · rw [mUp.no (by omega), mUp.no (by omega), mUp.yes ⟨rfl, rfl⟩, eff]
        · rw [mUp.no (by omega), mUp.yes ⟨rfl, rfl⟩]
        · rw [mUp.yes ⟨rfl, rfl⟩, hd]
        · exact G9.pl fun b i y1 y2 => by rw [mUp.no (by omega), mUp.no (by omega), mUp.no (by omega)]
        · rw [mUp.no (by omega), mUp.no (by omega), mUp.no (by omega)]; exact G9.2.2.2.2.2
      · have g9 : m9 106 37 = 0 := eff.trans q
        refine k _ d m9 _ hd h12 hR (pf _ fun b i q => by rw [mUp.no (by omega), mUp.no (by omega)]) ?_ (mUp.yes ⟨rfl, rfl⟩) (Or.inr (Or.inl ⟨g9, by omega, rfl, ?_⟩))
        · rw [mUp.no (by omega), mUp.yes ⟨rfl, rfl⟩, eff]
        · rw [mUp.no (by omega), mUp.no (by omega), e39]
          exact q2
      · rw [mUp.no (by omega), mUp.no (by omega)] at ev
        refine k _ d m9 _ hd h12 hR (pf _ fun b i q => by rw [mUp.no (by omega), mUp.no (by omega)]) ?_ (mUp.yes ⟨rfl, rfl⟩) (Or.inl ⟨by rw [eff]; exact q, by omega, ?_⟩)
        · rw [mUp.no (by omega), mUp.yes ⟨rfl, rfl⟩, eff]
        · rw [mUp.no (by omega), mUp.no (by omega), e39]
          exact hd
    refine loopF.gh (fun m9 kk => ∃ (r m' : Int) (u9 : Out), RG m9 0 r m' 0 0 u9 ∧ dF d m7 m9 ∧ (m9 106 37 = 0 → (GR0 m9 d u9 r m' ∧ 4 * m9 130 d ≤ m9 106 34 ∧ 4 * m9 131 d ≤ m9 106 34) ∧ kk = (1001 - m9 106 34).toNat + 1)) ?_ 1010 m8 ((1001 - m8 106 34).toNat + 1) ⟨0, 0, ou0, c8, f8.df, fun _ => ⟨⟨G8, by omega, by omega⟩, rfl⟩⟩ (by omega)
    rintro rc m9 kk ⟨r, m', u9, c9, f9, hg9⟩ ih m9' eq hT9 _ ff eff rff
    cases eq
    have t9 : 0 ≤ m9 106 34 ∧ m9 106 34 ≤ 1000 := hT9 106 106 (A_106 hw) 34
    refine ⟨fun q => fin m9 r m' ff u9 c9 f9 eff fun g => absurd (eff.symm.trans g) q, fun q ty ety rty => ⟨fun q2 => fin m9 r m' ff u9 c9 f9 eff fun g => ⟨ety.trans q2, (hg9 g).1.1⟩, fun q2 => ?_⟩⟩
    have g9 : m9 106 37 = 0 := eff.trans q
    obtain ⟨hg9', ek⟩ := hg9 g9
    have d9 : m9 106 58 = (d : Int) := (f9 _ _ (by omega) (by omega) (by omega)).trans e58
    refine X12_rowRead_s hw hT9 d9 h12 c9 g9 (by rw [ety]; exact q2) hg9' fun m10 r' m'' u10 c10 f10 hg10 hT10 _ => ?_
    by_cases g10 : m10 106 37 = 0
    · obtain ⟨y1, y2, y3, y4⟩ := hg10 g10
      exact ih m10 ((1001 - m10 106 34).toNat + 1) ⟨r', m'', u10, c10, f9.trans f10, fun _ => ⟨⟨y1, y2, y3⟩, rfl⟩⟩ (by omega)
    · exact ih m10 0 ⟨r', m'', u10, c10, f9.trans f10, fun g => absurd g g10⟩ (by omega)
  intro c ec rc
  refine ⟨fun q => ?_, fun q => J1 c ec rc⟩
  have e : c = 12 := by omega
  subst e
  exact J1 12 ec rc
end PolR
end
