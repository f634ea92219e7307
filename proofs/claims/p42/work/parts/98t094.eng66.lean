/-! The class's reader: what memory says of what it laid down; ways. -/
def szR : List Rw → Nat
  | [] => 0
  | x :: l => 2 + 5 * x.1.length + 2 * x.2.length + szR l
theorem szR.app {x : Rw} : ∀ l : List Rw, szR (l ++ [x]) = szR l + (2 + 5 * x.1.length + 2 * x.2.length)
  | [] => by
    show 2 + 5 * x.1.length + 2 * x.2.length + 0 = 0 + (2 + 5 * x.1.length + 2 * x.2.length)
    omega
  | y :: l => by
    show 2 + 5 * y.1.length + 2 * y.2.length + szR (l ++ [x]) = 2 + 5 * y.1.length + 2 * y.2.length + szR l + (2 + 5 * x.1.length + 2 * x.2.length)
    rw [szR.app l]
    omega
theorem tsC.cg {n n' : Nat} {f f' ff ff' fl fl' : Nat → Int} {i : Nat} {t : Tst} (hn : n ≤ n') (hw : ∀ j, j < n → ff' j = ff j ∧ fl' j = fl j) (hf : ∀ j, i ≤ j → j < i + 5 → f' j = f j) (h : tsC n f ff fl i t) : tsC n' f' ff' fl' i t := by
  obtain ⟨h1, h2, h3, h4⟩ := h
  have e0 := hf i (by omega) (by omega)
  have e1 := hf (i + 1) (by omega) (by omega)
  have e2 := hf (i + 2) (by omega) (by omega)
  have e3 := hf (i + 3) (by omega) (by omega)
  have e4 := hf (i + 4) (by omega) (by omega)
  refine ⟨e0.trans h1, e1.trans h2, fun c => ?_, fun c => ?_⟩
  · obtain ⟨⟨a0, a1⟩, a2, a3, a4⟩ := h3 c
    obtain ⟨w1, w2⟩ := hw (f (i + 2)).toNat (by omega)
    rw [e2, e3, w1, w2]
    exact ⟨⟨a0, by omega⟩, a2, a3, a4⟩
  · rw [e2, e3, e4]; exact h4 c
theorem tsAC.cg {n n' : Nat} {f f' ff ff' fl fl' : Nat → Int} (hn : n ≤ n') (hw : ∀ j, j < n → ff' j = ff j ∧ fl' j = fl j) : ∀ {l : List Tst} {i : Nat}, (∀ j, i ≤ j → j < i + 5 * l.length → f' j = f j) → tsAC n f ff fl i l → tsAC n' f' ff' fl' i l
  | [], _, _, _ => trivial
  | t :: l, i, hf, h => ⟨tsC.cg hn hw (fun j a b => hf j a (by rw [List.length_cons]; omega)) h.1, tsAC.cg hn hw (fun j a b => hf j (by omega) (by rw [List.length_cons]; omega)) h.2⟩
theorem acC.cg {f f' : Nat → Int} : ∀ {l : List Act} {i : Nat}, (∀ j, i ≤ j → j < i + 2 * l.length → f' j = f j) → acC f i l → acC f' i l
  | [], _, _, _ => trivial
  | a :: l, i, hf, h => by
    have hl : (a :: l).length = l.length + 1 := rfl
    exact ⟨⟨(hf i (by omega) (by omega)).trans h.1.1, (hf (i + 1) (by omega) (by omega)).trans h.1.2⟩, acC.cg (fun j a b => hf j (by omega) (by omega)) h.2⟩
theorem rwsC.cg {n n' : Nat} {f f' ff ff' fl fl' : Nat → Int} (hn : n ≤ n') (hw : ∀ j, j < n → ff' j = ff j ∧ fl' j = fl j) : ∀ {l : List Rw} {i : Nat}, (∀ j, i ≤ j → j < i + szR l → f' j = f j) → rwsC n f ff fl i l → rwsC n' f' ff' fl' i l
  | [], _, _, _ => trivial
  | x :: l, i, hf, h => by
    have hz : szR (x :: l) = 2 + 5 * x.1.length + 2 * x.2.length + szR l := rfl
    obtain ⟨⟨h1, h2⟩, h3, h4, h5⟩ := h
    exact ⟨⟨(hf i (by omega) (by omega)).trans h1, (hf (i + 1) (by omega) (by omega)).trans h2⟩, tsAC.cg hn hw (fun j a b => hf j (by omega) (by omega)) h3, acC.cg (fun j a b => hf j (by omega) (by omega)) h4, rwsC.cg hn hw (fun j a b => hf j (by omega) (by omega)) h5⟩
theorem tsAC.app {n : Nat} {f ff fl : Nat → Int} {t : Tst} : ∀ {l : List Tst} {i : Nat}, tsAC n f ff fl i l → tsC n f ff fl (i + 5 * l.length) t → tsAC n f ff fl i (l ++ [t])
  | [], i, _, h => ⟨h, trivial⟩
  | x :: l, i, g, h => ⟨g.1, tsAC.app g.2 (by
      have hl : (x :: l).length = l.length + 1 := rfl
      rw [show i + 5 + 5 * l.length = i + 5 * (x :: l).length by omega]
      exact h)⟩
theorem acC.app {f : Nat → Int} {t : Act} : ∀ {l : List Act} {i : Nat}, acC f i l → (f (i + 2 * l.length) = t.1 ∧ f (i + 2 * l.length + 1) = t.2) → acC f i (l ++ [t])
  | [], i, _, h => ⟨h, trivial⟩
  | x :: l, i, g, h => ⟨g.1, acC.app g.2 (by
      have hl : (x :: l).length = l.length + 1 := rfl
      rw [show i + 2 + 2 * l.length = i + 2 * (x :: l).length by omega]
      exact h)⟩
theorem rwsC.app {n : Nat} {f ff fl : Nat → Int} {x : Rw} : ∀ {l : List Rw} {i : Nat}, rwsC n f ff fl i l → ((f (i + szR l) = (x.1.length : Int) ∧ f (i + szR l + 1) = (x.2.length : Int)) ∧ tsAC n f ff fl (i + szR l + 2) x.1 ∧ acC f (i + szR l + 2 + 5 * x.1.length) x.2) → rwsC n f ff fl i (l ++ [x])
  | [], i, _, h => ⟨h.1, h.2.1, h.2.2, trivial⟩
  | y :: l, i, g, h => ⟨g.1, g.2.1, g.2.2.1, rwsC.app g.2.2.2 (by
      have hz : szR (y :: l) = 2 + 5 * y.1.length + 2 * y.2.length + szR l := rfl
      rw [show i + 2 + 5 * y.1.length + 2 * y.2.length + szR l = i + szR (y :: l) by omega]
      exact h)⟩
abbrev oW (u : Out) : Wst := u.2.2.2.2
abbrev wL (W : Wst) : List Lvl := W.2.2.1
abbrev wP (W : Wst) : Pce := W.2.2.2
/-- places of ways -/
def nmW (μ : mM) (W : Wst) (m : Int) : Prop := μ 23 12 = m ∧ ∀ k : Nat, (k : Int) < m → (μ 28 k = W.1 k ∧ isS (μ 29 k) (W.2.1 k)) ∧ -1 ≤ W.1 k
/-- a piece, as three numbers: may be empty, first, last -/
def pcV (e f l : Int) (P : Pce) : Prop := isS f P.1 ∧ isS l P.2.1 ∧ (e = 1 ↔ P.2.2)
def pcW (μ : mM) (P : Pce) : Prop := pcV (μ 23 15) (μ 23 16) (μ 23 17) P
/-- what reading a way writes -/
def wzF (μ m : mM) : Prop := ∀ b i, ¬ (b = 23 ∧ (i = 9 ∨ i = 12 ∨ (15 ≤ i ∧ i ≤ 19))) → ¬ b = 28 → ¬ b = 29 → m b i = μ b i
theorem wzF.refl {μ : mM} : wzF μ μ := fun _ _ _ _ _ => rfl
theorem wzF.trans {μ m n : mM} (h : wzF μ m) (k : wzF m n) : wzF μ n := fun b i q q2 q3 => (k b i q q2 q3).trans (h b i q q2 q3)
theorem wzF.tb {μ m : mM} (h : wzF μ m) : tbC μ m := ⟨⟨funext fun i => h 24 i (by omega) (by omega) (by omega), funext fun i => h 25 i (by omega) (by omega) (by omega), funext fun i => h 26 i (by omega) (by omega) (by omega), h 23 8 (by omega) (by omega) (by omega)⟩, funext fun i => h 1 i (by omega) (by omega) (by omega), h 0 10 (by omega) (by omega) (by omega), h 23 14 (by omega) (by omega) (by omega)⟩
theorem frA.wy {μ m : mM} (h : frA μ m) : wzF μ m := fun b i q _ _ => h b i (by omega)
theorem nmW.of {μ m1 : mM} {W : Wst} {m : Int} (h : nmW μ W m) (e : m1 23 12 = μ 23 12) (e8 : ∀ k, m1 28 k = μ 28 k) (e9 : ∀ k, m1 29 k = μ 29 k) : nmW m1 W m := ⟨e.trans h.1, fun k hk => by rw [e8, e9]; exact h.2 k hk⟩
theorem frA.nm {μ m1 : mM} {W : Wst} {m : Int} (f : frA μ m1) (h : nmW μ W m) : nmW m1 W m := h.of (f _ _ (by omega)) (fun k => f _ _ (by omega)) (fun k => f _ _ (by omega))
theorem frA.pc {μ m1 : mM} {P : Pce} (f : frA μ m1) (h : pcW μ P) : pcW m1 P := by
  unfold pcW
  rw [f 23 15 (by omega), f 23 16 (by omega), f 23 17 (by omega)]
  exact h
theorem stK.of {μ M m : mM} (e9 : M 23 9 = μ 23 9) (e8 : M 23 8 = μ 23 8) (e18 : M 23 18 = μ 23 18) (e19 : M 23 19 = μ 23 19) (h : stK M m) : stK μ m := fun q => by
  obtain ⟨h1, h2, h3⟩ := h (by rw [e9, e8]; exact q)
  exact ⟨by rw [h1, e9], h2.trans e18, h3.trans e19⟩
theorem loopF.m5 {B : (Int × Int × Int × Int × Int × mM → Prop) → Int × Int × Int × Int × Int × mM → Prop} (I : Int → Int → Int → Int → Int → mM → Prop) {n : Nat} {a b c d i : Int} {μ : mM} (h : I a b c d i μ) (hm : (1002 - i).toNat < n) (step : ∀ (rc : Int × Int × Int × Int × Int × mM → Prop) (a b c d i : Int) (μ : mM), I a b c d i μ → (∀ a' b' c' d' i' μ', I a' b' c' d' i' μ' → (1002 - i').toNat < (1002 - i).toNat → rc (a', b', c', d', i', μ')) → B rc (a, b, c, d, i, μ)) : loopF B False n (a, b, c, d, i, μ) := loopF.ind (fun s => I s.1 s.2.1 s.2.2.1 s.2.2.2.1 s.2.2.2.2.1 s.2.2.2.2.2) (fun s => (1002 - s.2.2.2.2.1).toNat) (fun rc s hI ih => step rc s.1 s.2.1 s.2.2.1 s.2.2.2.1 s.2.2.2.2.1 s.2.2.2.2.2 hI fun a' b' c' d' i' μ' => ih (a', b', c', d', i', μ')) n (a, b, c, d, i, μ) h hm
theorem loopF.m4 {B : (Int × Int × Int × Int × mM → Prop) → Int × Int × Int × Int × mM → Prop} (I : Int → Int → Int → Int → mM → Prop) {n : Nat} {a b c i : Int} {μ : mM} (h : I a b c i μ) (hm : (1002 - i).toNat < n) (step : ∀ (rc : Int × Int × Int × Int × mM → Prop) (a b c i : Int) (μ : mM), I a b c i μ → (∀ a' b' c' i' μ', I a' b' c' i' μ' → (1002 - i').toNat < (1002 - i).toNat → rc (a', b', c', i', μ')) → B rc (a, b, c, i, μ)) : loopF B False n (a, b, c, i, μ) := loopF.ind (fun s => I s.1 s.2.1 s.2.2.1 s.2.2.2.1 s.2.2.2.2) (fun s => (1002 - s.2.2.2.1).toNat) (fun rc s hI ih => step rc s.1 s.2.1 s.2.2.1 s.2.2.2.1 s.2.2.2.2 hI fun a' b' c' i' μ' => ih (a', b', c', i', μ')) n (a, b, c, i, μ) h hm
section WaysC
variable {w : mW} {μ : mM}
theorem X6_join_s {a b : Int} {Q : mM → Prop} (k : ∀ m : mM, (∀ (A B : Bs) (F : Nat → Bs), isS a A → isS b B → (∀ j : Nat, (j : Int) < μ 23 12 → isS (μ 29 j) (F j)) → ∀ j : Nat, (j : Int) < μ 23 12 → isS (m 29 j) (foU F A B j)) → (∀ c i, ¬ c = 29 → m c i = μ c i) → Q m) : WP_X6_join_Wx w μ a b Q := by
  refine loopF.im (fun z m => 0 ≤ z ∧ (∀ c i, ¬ c = 29 → m c i = μ c i) ∧ (∀ j : Nat, z ≤ (j : Int) → m 29 j = μ 29 j) ∧ ∀ (A B : Bs) (F : Nat → Bs), isS a A → isS b B → (∀ j : Nat, (j : Int) < μ 23 12 → isS (μ 29 j) (F j)) → ∀ j : Nat, (j : Int) < z → (j : Int) < μ 23 12 → isS (m 29 j) (foU F A B j)) (fun z => (41 - z).toNat) ⟨by omega, fun _ _ _ => rfl, fun _ _ => rfl, fun A B F _ _ _ j hj => absurd hj (by omega)⟩ (by omega) ?_
  rintro rc z m ⟨z0, hf, hu, hd⟩ ih z' m' e rz _ _ n en rn
  cases e
  rw [hf 23 12 (by decide)] at en
  refine ⟨fun c => k m (fun A B F hA hB hF j hj => hd A B F hA hB hF j (by omega) hj) hf, fun c b1 e1 b2 e2 b3 e3 => ?_⟩
  have bb := bLg.c (x := a) ⟨z0, by omega⟩ e1 e2
  have rb : -9223372036854775808 ≤ b2 ∧ b2 ≤ 9223372036854775807 := by
    rw [← e2]; exact r64i _
  have cc := lCmp_iff e3 rb (by decide)
  refine ⟨fun c3 => ih _ _ ⟨by omega, hf, fun j hj => hu j (by omega), fun A B F hA hB hF j hj hn => ?_⟩ (by omega), fun c3 v ev rv o eo m2 u2 _ => ?_⟩
  · by_cases ej : (j : Int) < z
    · exact hd A B F hA hB hF j ej hn
    · have ej2 : j = z.toNat := by omega
      rw [hu j (by omega)]
      refine (hF j hn).cg fun i => ⟨fun q => Or.inl q, fun q => ?_⟩
      rcases q with q | q
      · exact q
      · have := (hA j).mpr q.1
        rw [ej2] at this
        exact absurd (cc.mp c3) (bb.mpr this)
  · obtain rfl := u2.is
    refine ih _ _ ⟨by omega, fun c i hc => by rw [mUp.no (by omega)]; exact hf c i hc, fun j hj => by rw [mUp.no (by omega)]; exact hu j (by omega), fun A B F hA hB hF j hj hn => ?_⟩ (by omega)
    by_cases ej : (j : Int) < z
    · rw [mUp.no (by omega)]
      exact hd A B F hA hB hF j ej hn
    · have ej2 : j = z.toNat := by omega
      rw [mUp.yes ⟨rfl, ej2⟩]
      have hv : isS v (F j) := by
        rw [← ev, ← ej2, hu j (by omega)]
        exact hF j hn
      have hz : A j := (hA j).mp (by rw [ej2]; exact bb.mp fun q => c3 (cc.mpr q))
      refine (hv.or hB eo).cg fun i => ⟨fun q => ?_, fun q => ?_⟩
      · rcases q with q | q
        · exact Or.inl q
        · exact Or.inr ⟨hz, q⟩
      · rcases q with q | q
        · exact Or.inl q
        · exact Or.inr q.2
/-- a place -/
theorem X6_readPlace_s {r m x : Int} {u : Out} {Q : mM → Prop} (h : CG μ 15 r m x 0 u) (hend : μ 24 (μ 23 8).toNat = -1) (ht : cT μ = -2 ∨ cT μ = 7) (hg : μ 23 18 = 0 → nmW μ (oW u) m) (k : ∀ (m1 : mM) (m' : Int) (W : Wst), CG m1 16 r m' x 0 (ouW u W) → wzF μ m1 → (m1 23 18 = 0 → μ 23 18 = 0 ∧ nmW m1 W m' ∧ pcW m1 (wP W) ∧ μ 23 9 < m1 23 9 ∧ wL W = wL (oW u)) → Q m1) : WP_X6_readPlace_Wx w μ Q := by
  have g0 : μ 23 18 = 0 := Classical.byContradiction fun hf => by
    have := h.1.cTe hf
    omega
  have nt : ¬ cT μ = -1 := by omega
  have lt : μ 23 9 < μ 23 8 := CSt.lt h.1 nt
  obtain ⟨hc, hn⟩ := hg g0
  have bad : ∀ (kk : Int) (m1 : mM), (∀ e' : Int → Cfg, CSc m1 e') → flK μ m1 kk → ¬ kk = 0 → frA μ m1 → Q m1 := fun kk m1 hcs fl hk f => by
    refine k m1 m (oW u) (CG.fl (hcs _) fl hk) f.wy fun q => ?_
    obtain ⟨_, fl2⟩ := fl
    rcases fl2 with ⟨a, _⟩ | ⟨_, b, _⟩
    · exact absurd g0 a
    · rw [b] at q
      split at q
      · exact absurd q (by decide)
      · exact absurd q hk
  have put : ∀ (v z : Int), ((cT μ = -2 ∧ cV μ = v ∧ v ≤ 1000000) ∨ (cT μ = 7 ∧ v = -1)) → 0 ≤ μ 23 12 → μ 23 12 < 40 → lShl 1 (μ 23 12) = z → ∀ m1 : mM, stK (mUp (mUp (mUp (mUp (mUp (mUp μ 28 (μ 23 12).toNat v) 29 (μ 23 12).toNat 0) 23 15 0) 23 16 z) 23 17 z) 23 12 (μ 23 12 + 1)) m1 → frA (mUp (mUp (mUp (mUp (mUp (mUp μ 28 (μ 23 12).toNat v) 29 (μ 23 12).toNat 0) 23 15 0) 23 16 z) 23 17 z) 23 12 (μ 23 12 + 1)) m1 → Q m1 := by
    intro v z hv p0 p1 ez m1 st f
    have sM : stK μ m1 := stK.of (by rw [mUp.no (by omega), mUp.no (by omega), mUp.no (by omega), mUp.no (by omega), mUp.no (by omega), mUp.no (by omega)]) (by rw [mUp.no (by omega), mUp.no (by omega), mUp.no (by omega), mUp.no (by omega), mUp.no (by omega), mUp.no (by omega)]) (by rw [mUp.no (by omega), mUp.no (by omega), mUp.no (by omega), mUp.no (by omega), mUp.no (by omega), mUp.no (by omega)]) (by rw [mUp.no (by omega), mUp.no (by omega), mUp.no (by omega), mUp.no (by omega), mUp.no (by omega), mUp.no (by omega)]) st
    have F : wzF μ m1 := fun b i q q2 q3 => by
      rw [f b i (by omega), mUp.no (by omega), mUp.no (by omega), mUp.no (by omega), mUp.no (by omega), mUp.no (by omega), mUp.no (by omega)]
    obtain ⟨s1, s2, s3⟩ := sM lt
    have tt : (cT μ = -2 ∧ cV μ ≤ 1000000) ∨ cT μ = 7 := by
      rcases hv with q | q
      · exact Or.inl ⟨q.1, by rw [q.2.1]; exact q.2.2⟩
      · exact Or.inr q.1
    have cc := h.1.pl F.tb sM tt (by omega) (m' := m + 1) rfl
    have cg : CG m1 16 r (m + 1) x 0 (ouW u (wtAtom (oW u) m v)) := by
      refine ⟨cc, ?_⟩
      rcases hv with ⟨q1, q2, q3⟩ | ⟨q1, q2⟩
      · refine h.2.mvs h.1 F.tb sM (t := -2) (v := v) (by decide) (by decide) q1 q2 (fun p f q => ?_) rfl
        show n15 r m x (-2) v f q = _
        unfold n15
        rw [if_pos (Or.inl rfl), if_neg (by omega), if_neg (by omega)]
      · subst q2
        refine h.2.mvs h.1 F.tb sM (t := 7) (v := cV μ) (by decide) (by decide) q1 rfl (fun p f q => ?_) rfl
        show n15 r m x 7 (cV μ) f q = _
        unfold n15
        rw [if_pos (Or.inr rfl), if_neg (by omega), if_neg (by omega)]
    refine k m1 (m + 1) _ cg F fun _ => ⟨g0, ⟨?_, fun j hj => ?_⟩, ?_, by omega, rfl⟩
    · rw [f 23 12 (by omega), mUp.yes ⟨rfl, rfl⟩, hc]
    · have v0 : -1 ≤ v := by
        rcases hv with ⟨q1, q2, q3⟩ | ⟨q1, q2⟩
        · have := h.1.v0 q1
          omega
        · omega
      rw [f 28 j (by omega), f 29 j (by omega)]
      by_cases ej : (j : Int) = m
      · rw [mUp.no (by omega), mUp.no (by omega), mUp.no (by omega), mUp.no (by omega), mUp.no (by omega), mUp.yes ⟨rfl, by omega⟩, mUp.no (by omega), mUp.no (by omega), mUp.no (by omega), mUp.no (by omega), mUp.yes ⟨rfl, by omega⟩]
        have e1 : (wtAtom (oW u) m v).1 j = v := if_pos ej
        rw [e1]
        exact ⟨⟨rfl, isS.zero.cg fun i => ⟨fun q => q.elim, fun q => q.1 ej⟩⟩, v0⟩
      · rw [mUp.no (by omega), mUp.no (by omega), mUp.no (by omega), mUp.no (by omega), mUp.no (by omega), mUp.no (by omega), mUp.no (by omega), mUp.no (by omega), mUp.no (by omega), mUp.no (by omega), mUp.no (by omega), mUp.no (by omega)]
        have e1 : (wtAtom (oW u) m v).1 j = (oW u).1 j := if_neg ej
        obtain ⟨⟨a1, a2⟩, a3⟩ := hn j (by omega)
        rw [e1]
        exact ⟨⟨a1, a2.cg fun i => ⟨fun q => ⟨ej, q⟩, fun q => q.2⟩⟩, a3⟩
    · unfold pcW
      rw [f 23 15 (by omega), f 23 16 (by omega), f 23 17 (by omega), mUp.no (by omega), mUp.no (by omega), mUp.no (by omega), mUp.yes ⟨rfl, rfl⟩, mUp.no (by omega), mUp.no (by omega), mUp.yes ⟨rfl, rfl⟩, mUp.no (by omega), mUp.yes ⟨rfl, rfl⟩]
      rw [hc] at ez
      have o1 := isS.one (m := m) ⟨by omega, by omega⟩ ez
      exact ⟨o1, o1, ⟨fun q => absurd q (by decide), fun q => q.elim⟩⟩
  intro a ea ra t et rt
  have ct : cT μ = t := cT.is ea et
  refine ⟨fun c => ?_, fun c => ?_⟩
  · intro _
    refine ⟨fun _ n en rn => ?_, fun q => absurd rfl q⟩
    refine ⟨fun c2 m1 u1 _ m2 u2 _ m3 u3 _ z ez m4 u4 _ m5 u5 _ m6 u6 _ => X6_step_s fun m7 st f _ _ => ?_, fun c2 => X6_fail_s fun m1 fl f _ _ => ?_⟩
    · obtain rfl := u1.is
      obtain rfl := u2.is
      obtain rfl := u3.is
      obtain rfl := u4.is
      obtain rfl := u5.is
      obtain rfl := u6.is
      subst en
      exact put (-1) z (Or.inr ⟨by omega, rfl⟩) rn.1 c2 ez m7 st f
    · exact bad 4 m1 (fun e' => h.1.p4 hend f.tb fl (Or.inr (by omega)) (by omega)) fl (by decide) f
  · intro _
    refine ⟨fun q => absurd q (by decide), fun _ v ev rv => ?_⟩
    have cv : cV μ = v := cV.is ea ev
    refine ⟨fun c2 n en rn => ?_, fun c2 => X6_fail_s fun m1 fl f _ _ => ?_⟩
    · refine ⟨fun c3 m1 u1 _ m2 u2 _ m3 u3 _ z ez m4 u4 _ m5 u5 _ m6 u6 _ => X6_step_s fun m7 st f _ _ => ?_, fun c3 => X6_fail_s fun m1 fl f _ _ => ?_⟩
      · obtain rfl := u1.is
        obtain rfl := u2.is
        obtain rfl := u3.is
        obtain rfl := u4.is
        obtain rfl := u5.is
        obtain rfl := u6.is
        subst en
        exact put v z (Or.inl ⟨by omega, cv, c2⟩) rn.1 c3 ez m7 st f
      · exact bad 4 m1 (fun e' => h.1.p4 hend f.tb fl (Or.inl ⟨by omega, by omega⟩) (by omega)) fl (by decide) f
    · exact bad 3 m1 (fun e' => h.1.p3 hend f.tb fl (by omega) (by omega)) fl (by decide) f
/-- a sign of repeating -/
theorem X6_readRepeat_s {r m x : Int} {u : Out} {Q : mM → Prop} (h : CG μ 16 r m x 0 u) (hg : μ 23 18 = 0 → nmW μ (oW u) m ∧ pcW μ (wP (oW u))) (k : ∀ (m1 : mM) (W : Wst), CG m1 15 r m x 0 (ouW u (wtJoin W)) → wzF μ m1 → (m1 23 18 = 0 → μ 23 18 = 0 ∧ nmW m1 W m ∧ pcW m1 (wP W) ∧ μ 23 9 ≤ m1 23 9 ∧ wL W = wL (oW u)) → Q m1) : WP_X6_readRepeat_Wx w μ Q := by
  have J5 : ∀ (z8 z18 : Int) (m46 m70 : mM), (∀ v : Int, (0 ≤ m70 23 15 ∧ m70 23 15 ≤ 1) → (v = 1 ↔ (¬ m70 23 15 = 0 ∨ ¬ z8 = 0 ∨ ¬ z18 = 0)) → Q (mUp m70 23 15 v)) → WJ_X6_readRepeat_Wx_5 w Q z8 z18 m46 m70 := by
    intro z8 z18 m46 m70 K _ _ pe epe rpe
    rw [← epe] at rpe
    refine ⟨fun c m u _ => ?_, fun c => ⟨fun c2 m u _ => ?_, fun c2 => ⟨fun c3 m u _ => ?_, fun c3 m u _ => ?_⟩⟩⟩
    · obtain rfl := u.is
      exact K 1 rpe ⟨fun _ => Or.inl (by rw [epe]; exact c), fun _ => rfl⟩
    · obtain rfl := u.is
      exact K 1 rpe ⟨fun _ => Or.inr (Or.inl c2), fun _ => rfl⟩
    · obtain rfl := u.is
      exact K 0 rpe ⟨fun q => absurd q (by decide), fun q => by omega⟩
    · obtain rfl := u.is
      exact K 1 rpe ⟨fun _ => Or.inr (Or.inr c3), fun _ => rfl⟩
  intro a ea ra t et rt
  have ct : cT μ = t := cT.is ea et
  by_cases hs : t = 1042 ∨ t = 1043 ∨ t = 1063
  · have nt : ¬ cT μ = -1 := by omega
    have g0 : μ 23 18 = 0 := Classical.byContradiction fun hf => nt (h.1.cTe hf)
    have lt : μ 23 9 < μ 23 8 := CSt.lt h.1 nt
    obtain ⟨nm, pc⟩ := hg g0
    have fin : ∀ (m46 m70 : mM) (v : Int), (∀ c i, ¬ c = 29 → m46 c i = μ c i) → (∀ j : Nat, (j : Int) < m → isS (m46 29 j) ((wtRep (oW u) t).2.1 j)) → stK m46 m70 → frA m46 m70 → (0 ≤ m70 23 15 ∧ m70 23 15 ≤ 1) → (v = 1 ↔ (¬ m70 23 15 = 0 ∨ t = 1042 ∨ t = 1063)) → Q (mUp m70 23 15 v) := by
      intro m46 m70 v f4 h9 st f7 hr hv
      have sM : stK μ m70 := stK.of (f4 23 9 (by decide)) (f4 23 8 (by decide)) (f4 23 18 (by decide)) (f4 23 19 (by decide)) st
      obtain ⟨s1, s2, s3⟩ := sM lt
      have F7 : wzF μ m70 := fun b i q q2 q3 => (f7 b i (by omega)).trans (f4 b i q3)
      have F : wzF μ (mUp m70 23 15 v) := fun b i q q2 q3 => by
        rw [mUp.no (by omega)]
        exact F7 b i q q2 q3
      have c7 : CG m70 15 r m x 0 (ouW u (wtJoin (wtRep (oW u) t))) := by
        refine CG.mv h (h.1.rep F7.tb sM (by omega)) F7.tb sM ct (by omega) (by decide) (fun p f q => ?_) ?_
        · show n16 p r m x t q = _
          unfold n16
          rw [if_pos hs]
        · show (if t = 1042 ∨ t = 1043 ∨ t = 1063 then ouW u (wtJoin (wtRep (oW u) t)) else ouW u (wtJoin (oW u))) = _
          rw [if_pos hs]
      have e15 : m70 23 15 = μ 23 15 := (f7 23 15 (by omega)).trans (f4 23 15 (by decide))
      rw [e15] at hr hv
      refine k _ (wtRep (oW u) t) (c7.same ?_ ?_) F fun _ => ⟨g0, ?_, ?_, ?_, rfl⟩
      · exact wzF.tb fun b i q q2 q3 => mUp.no (by omega)
      · exact ⟨mUp.no (by omega), mUp.no (by omega), mUp.no (by omega)⟩
      · refine ⟨?_, fun j hj => ?_⟩
        · rw [mUp.no (by omega), f7 23 12 (by omega), f4 23 12 (by decide)]; exact nm.1
        · rw [mUp.no (by omega), mUp.no (by omega), f7 28 j (by omega), f7 29 j (by omega), f4 28 j (by decide)]
          exact ⟨⟨(nm.2 j hj).1.1, h9 j hj⟩, (nm.2 j hj).2⟩
      · unfold pcW
        rw [mUp.yes ⟨rfl, rfl⟩, mUp.no (by omega), mUp.no (by omega), f7 23 16 (by omega), f7 23 17 (by omega), f4 23 16 (by decide), f4 23 17 (by decide)]
        refine ⟨pc.1, pc.2.1, hv.trans ⟨fun q => ?_, fun q => ?_⟩⟩
        · rcases q with q | q
          · exact Or.inl (pc.2.2.mp (by omega))
          · exact Or.inr q
        · rcases q with q | q
          · have := pc.2.2.mpr q
            exact Or.inl (by omega)
          · exact Or.inr q
      · rw [mUp.no (by omega)]
        omega
    have jn : ∀ (m46 : mM) (lst fst : Int), (t = 1042 ∨ t = 1043) → μ 23 17 = lst → μ 23 16 = fst → (∀ (A B : Bs) (F : Nat → Bs), isS lst A → isS fst B → (∀ j : Nat, (j : Int) < μ 23 12 → isS (μ 29 j) (F j)) → ∀ j : Nat, (j : Int) < μ 23 12 → isS (m46 29 j) (foU F A B j)) → ∀ j : Nat, (j : Int) < m → isS (m46 29 j) ((wtRep (oW u) t).2.1 j) := by
      intro m46 lst fst h2 el ef hj j hm
      have eR : (wtRep (oW u) t).2.1 = foU (oW u).2.1 (wP (oW u)).2.1 (wP (oW u)).1 := if_pos h2
      rw [eR]
      exact hj _ _ _ (by rw [← el]; exact pc.2.1) (by rw [← ef]; exact pc.1) (fun i hi => (nm.2 i (by rw [← nm.1]; exact hi)).1.2) j (by rw [nm.1]; exact hm)
    refine ⟨fun c => ?_, fun c => ?_⟩
    · intro _
      refine ⟨fun c2 => ?_, fun c2 => ?_⟩
      · intro _
        refine ⟨fun c3 => absurd hs (by omega), fun c3 => ?_⟩
        intro _
        refine ⟨fun q => absurd rfl q, fun _ => ⟨fun _ => ?_, fun q => absurd rfl q⟩⟩
        intro _ _
        refine ⟨fun q => absurd rfl q, fun _ => ⟨fun q => absurd rfl q, fun _ => ⟨fun q => absurd q (by decide), fun _ => X6_step_s fun m70 st f _ _ => J5 _ _ _ _ fun v hr hv => ?_⟩⟩⟩
        have eR : (wtRep (oW u) t).2.1 = (oW u).2.1 := if_neg (by omega)
        exact fin μ m70 v (fun _ _ _ => rfl) (fun j hj => by rw [eR]; exact (nm.2 j hj).1.2) st f hr (hv.trans ⟨fun q => by omega, fun q => by omega⟩)
      · intro _
        refine ⟨fun c3 => ?_, fun c3 => absurd c3 (by omega)⟩
        intro _
        refine ⟨fun q => absurd rfl q, fun _ => ⟨fun q => absurd q (by decide), fun _ lst el rl fst ef rf => X6_join_s fun m46 hj fj _ _ => ?_⟩⟩
        intro _ _
        refine ⟨fun q => absurd rfl q, fun _ => ⟨fun _ => X6_step_s fun m70 st f _ _ => J5 _ _ _ _ fun v hr hv => ?_, fun q => absurd q (by decide)⟩⟩
        exact fin m46 m70 v fj (jn m46 lst fst (Or.inr c2) el ef hj) st f hr (hv.trans ⟨fun q => by omega, fun q => by omega⟩)
    · intro _
      refine ⟨fun c2 => ?_, fun c2 => absurd c2 (by omega)⟩
      intro _
      refine ⟨fun c3 => ?_, fun c3 => absurd c3 (by omega)⟩
      intro _
      refine ⟨fun _ lst el rl fst ef rf => X6_join_s fun m46 hj fj _ _ => ?_, fun q => absurd q (by decide)⟩
      intro _ _
      refine ⟨fun _ => X6_step_s fun m70 st f _ _ => J5 _ _ _ _ fun v hr hv => ?_, fun q => absurd q (by decide)⟩
      exact fin m46 m70 v fj (jn m46 lst fst (Or.inl c) el ef hj) st f hr (hv.trans ⟨fun q => by omega, fun q => by omega⟩)
  · have cs : CG μ 15 r m x 0 (ouW u (wtJoin (oW u))) := by
      refine CG.stay h (h.1.norep tbC.refl smK.refl (by rw [ct]; exact hs)) ct (by decide) (fun p v f q => ?_) (fun v => ?_)
      · show n16 p r m x t q = _
        unfold n16
        rw [if_neg hs]
      · show (if t = 1042 ∨ t = 1043 ∨ t = 1063 then ouW u (wtJoin (wtRep (oW u) t)) else ouW u (wtJoin (oW u))) = _
        rw [if_neg hs]
    have fin : ∀ v : Int, (0 ≤ μ 23 15 ∧ μ 23 15 ≤ 1) → (v = 1 ↔ (¬ μ 23 15 = 0 ∨ ¬ (0 : Int) = 0 ∨ ¬ (0 : Int) = 0)) → Q (mUp μ 23 15 v) := by
      intro v hr hv
      refine k _ (oW u) (cs.same (wzF.tb fun b i q q2 q3 => mUp.no (by omega)) ⟨mUp.no (by omega), mUp.no (by omega), mUp.no (by omega)⟩) (fun b i q q2 q3 => mUp.no (by omega)) fun g => ?_
      rw [mUp.no (by omega)] at g
      obtain ⟨nm, pc⟩ := hg g
      refine ⟨g, nm.of (mUp.no (by omega)) (fun j => mUp.no (by omega)) (fun j => mUp.no (by omega)), ?_, ?_, rfl⟩
      · unfold pcW
        rw [mUp.yes ⟨rfl, rfl⟩, mUp.no (by omega), mUp.no (by omega)]
        exact ⟨pc.1, pc.2.1, hv.trans ⟨fun q => pc.2.2.mp (by omega), fun q => by have := pc.2.2.mpr q; omega⟩⟩
      · rw [mUp.no (by omega)]
        exact Int.le_refl _
    refine ⟨fun c => ?_, fun c => absurd (Or.inl c) hs⟩
    intro _
    refine ⟨fun c2 => ?_, fun c2 => absurd (Or.inr (Or.inl c2)) hs⟩
    intro _
    refine ⟨fun c3 => ?_, fun c3 => absurd (Or.inr (Or.inr c3)) hs⟩
    intro _
    refine ⟨fun q => absurd rfl q, fun _ => ⟨fun _ => ?_, fun q => absurd rfl q⟩⟩
    intro _ _
    exact ⟨fun q => absurd rfl q, fun _ => ⟨fun q => absurd rfl q, fun _ => ⟨fun _ => J5 _ _ _ _ fun v hr hv => fin v hr hv, fun q => absurd rfl q⟩⟩⟩
end WaysC
/-! Rows and levels of a way. -/
theorem wtJoin.eq {W : Wst} {v : Lvl} {s : List Lvl} (h : W.2.2.1 = v :: s) : wtJoin W = (W.1, foU W.2.1 v.2.2.1 W.2.2.2.1, (v.1, pcThen v.2 W.2.2.2) :: s, W.2.2.2) := by
  unfold wtJoin
  rw [h]
theorem wtBar.eq {W : Wst} {v : Lvl} {s : List Lvl} (h : W.2.2.1 = v :: s) : wtBar W = (W.1, W.2.1, (pcOr v.1 v.2, pcE) :: s, W.2.2.2) := by
  unfold wtBar
  rw [h]
theorem wtPop.eq {W : Wst} {v : Lvl} {s : List Lvl} (h : W.2.2.1 = v :: s) : wtPop W = (W.1, W.2.1, s, pcOr v.1 v.2) := by
  unfold wtPop
  rw [h]
theorem pcThen.V {e f l pe pf pl e2 f2 l2 : Int} {R P : Pce} (hR : pcV e f l R) (hP : pcV pe pf pl P) (h1 : (e = 0 ∧ f2 = f) ∨ (¬ e = 0 ∧ lOr f pf = f2)) (h2 : (pe = 0 ∧ l2 = pl) ∨ (¬ pe = 0 ∧ lOr l pl = l2)) (h3 : e2 = 1 ↔ (¬ e = 0 ∧ ¬ pe = 0)) (re : 0 ≤ e ∧ e ≤ 1) (rp : 0 ≤ pe ∧ pe ≤ 1) : pcV e2 f2 l2 (pcThen R P) := by
  obtain ⟨r1, r2, r3⟩ := hR
  obtain ⟨p1, p2, p3⟩ := hP
  have re1 : ¬ e = 0 ↔ R.2.2 := ⟨fun q => r3.mp (by omega), fun q => by have := r3.mpr q; omega⟩
  have rp1 : ¬ pe = 0 ↔ P.2.2 := ⟨fun q => p3.mp (by omega), fun q => by have := p3.mpr q; omega⟩
  refine ⟨?_, ?_, h3.trans (and_congr re1 rp1)⟩
  · rcases h1 with ⟨a, b⟩ | ⟨a, b⟩
    · subst b
      exact r1.cg fun j => ⟨fun q => Or.inl q, fun q => q.elim id fun q => absurd a (re1.mpr q.1)⟩
    · exact (r1.or p1 b).cg fun j => ⟨fun q => q.elim Or.inl fun q => Or.inr ⟨re1.mp a, q⟩, fun q => q.elim Or.inl fun q => Or.inr q.2⟩
  · rcases h2 with ⟨a, b⟩ | ⟨a, b⟩
    · subst b
      exact p2.cg fun j => ⟨fun q => Or.inl q, fun q => q.elim id fun q => absurd a (rp1.mpr q.1)⟩
    · exact (r2.or p2 b).cg fun j => ⟨fun q => q.elim (fun q => Or.inr ⟨rp1.mp a, q⟩) Or.inl, fun q => q.elim Or.inr fun q => Or.inl q.2⟩
theorem pcOr.V {e f l e1 f1 l1 e2 f2 l2 : Int} {A R : Pce} (hA : pcV e f l A) (hR : pcV e1 f1 l1 R) (h1 : lOr f f1 = f2) (h2 : lOr l l1 = l2) (h3 : e2 = 1 ↔ (¬ e = 0 ∨ ¬ e1 = 0)) (ra : 0 ≤ e ∧ e ≤ 1) (rr : 0 ≤ e1 ∧ e1 ≤ 1) : pcV e2 f2 l2 (pcOr A R) := by
  obtain ⟨a1, a2, a3⟩ := hA
  obtain ⟨r1, r2, r3⟩ := hR
  have ea : ¬ e = 0 ↔ A.2.2 := ⟨fun q => a3.mp (by omega), fun q => by have := a3.mpr q; omega⟩
  have er : ¬ e1 = 0 ↔ R.2.2 := ⟨fun q => r3.mp (by omega), fun q => by have := r3.mpr q; omega⟩
  exact ⟨a1.or r1 h1, a2.or r2 h2, h3.trans (or_congr ea er)⟩
theorem pcV.zero : pcV 0 0 0 pc0 := ⟨isS.zero, isS.zero, ⟨fun q => absurd q (by decide), fun q => q.elim⟩⟩
theorem pcV.one : pcV 1 0 0 pcE := ⟨isS.zero, isS.zero, ⟨fun _ => trivial, fun _ => rfl⟩⟩
