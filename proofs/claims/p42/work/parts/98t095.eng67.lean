/-! Brackets of a way: groups and branches, a copy a depth. -/
theorem X6_readGroup_s6 {w : mW} {μ : mM} {r m : Int} {u : Out} {rest : List Lvl} {Q : mM → Prop} (hw : mWF w) (h : CG μ 15 r m 6 0 u) (hend : μ 24 (μ 23 8).toNat = -1) (ht : cT μ = 1040) (hg : μ 23 18 = 0 → nmW μ (oW u) m ∧ wL (oW u) = rest) (k : ∀ (m1 : mM) (m' : Int) (W : Wst), CG m1 16 r m' 6 0 (ouW u W) → wzF μ m1 → (m1 23 18 = 0 → μ 23 18 = 0 ∧ nmW m1 W m' ∧ pcW m1 (wP W) ∧ μ 23 9 < m1 23 9 ∧ wL W = rest) → Q m1) : WP_X6_readGroup_Wx6 w μ 6 Q := by
  have nt : ¬ cT μ = -1 := by omega
  have g0 : μ 23 18 = 0 := Classical.byContradiction fun hf => nt (h.1.cTe hf)
  have lt : μ 23 9 < μ 23 8 := CSt.lt h.1 nt
  obtain ⟨nm, hl⟩ := hg g0
  refine X6_fail_s fun m1 fl f _ _ => ?_
  refine k m1 m (oW u) (CG.fl (h.1.gF hend f.tb fl ht (by decide)) fl (by decide)) f.wy fun q => ?_
  obtain ⟨_, fl2⟩ := fl
  rcases fl2 with ⟨a, _⟩ | ⟨_, b, _⟩
  · exact absurd g0 a
  · rw [b] at q
    split at q <;> exact absurd q (by decide)
theorem X6_readBranches_s6 {w : mW} {μ : mM} {r m : Int} {u : Out} {rest : List Lvl} {Q : mM → Prop} (hw : mWF w) (hT : mT w μ) (h : CG μ 15 r m 6 0 u) (hend : μ 24 (μ 23 8).toNat = -1) (hg : μ 23 18 = 0 → nmW μ (oW u) m ∧ wL (oW u) = lv0 :: rest) (k : ∀ (m1 : mM) (m' : Int) (W : Wst), CG m1 15 r m' 6 0 (ouW u W) → wzF μ m1 → ntP m1 → (m1 23 18 = 0 → μ 23 18 = 0 ∧ nmW m1 W m' ∧ μ 23 9 ≤ m1 23 9 ∧ ∃ v, wL W = v :: rest ∧ pcW m1 (pcOr v.1 v.2)) → Q m1) : WP_X6_readBranches_Wx6 w μ 6 Q := by
  have t9 : 0 ≤ μ 23 9 ∧ μ 23 9 ≤ 1000 := hT 23 23 (A_23 hw) 9
  refine loopF.m5 (fun e f l an i m1 => 0 ≤ i ∧ (0 ≤ e ∧ e ≤ 1) ∧ wzF μ m1 ∧ (an = 0 → ntP m1) ∧ ∃ (m' : Int) (W : Wst), CG m1 15 r m' 6 0 (ouW u W) ∧ (m1 23 18 = 0 → μ 23 18 = 0 ∧ nmW m1 W m' ∧ μ 23 9 ≤ m1 23 9 ∧ ∃ v, wL W = v :: rest ∧ (¬ an = 0 → v.2 = pcE ∧ pcV e f l v.1 ∧ μ 23 9 + i ≤ m1 23 9) ∧ (an = 0 → pcV e f l (pcOr v.1 v.2)))) ⟨by omega, by decide, wzF.refl, fun q => absurd q (by decide), m, oW u, h, fun g => ⟨g, (hg g).1, by omega, lv0, (hg g).2, fun _ => ⟨rfl, pcV.zero, by omega⟩, fun q => absurd q (by decide)⟩⟩ (by omega) ?_
  rintro rc e f l an i m1 ⟨i0, re, F1, hnt, m', W, c1, hg1⟩ ih e' f' l' an' i' m1' eq _ _ _ _ ri hT1 _
  cases eq
  have s9 : 0 ≤ m1 23 9 ∧ m1 23 9 ≤ 1000 := hT1 23 23 (A_23 hw) 9
  have out : ntP m1 → (m1 23 18 = 0 → an = 0) → ∀ (m2 m3 m4 : mM), mU m1 23 15 e m2 → mU m2 23 16 f m3 → mU m3 23 17 l m4 → Q m4 := by
    intro hn ha m2 m3 m4 u2 u3 u4
    obtain rfl := u2.is
    obtain rfl := u3.is
    obtain rfl := u4.is
    have fr : wzF m1 (mUp (mUp (mUp m1 23 15 e) 23 16 f) 23 17 l) := fun b j q q2 q3 => by
      rw [mUp.no (by omega), mUp.no (by omega), mUp.no (by omega)]
    have sm : smK m1 (mUp (mUp (mUp m1 23 15 e) 23 16 f) 23 17 l) := ⟨by rw [mUp.no (by omega), mUp.no (by omega), mUp.no (by omega)], by rw [mUp.no (by omega), mUp.no (by omega), mUp.no (by omega)], by rw [mUp.no (by omega), mUp.no (by omega), mUp.no (by omega)]⟩
    refine k _ m' W (c1.same fr.tb sm) (F1.trans fr) (hn.fr fr.tb sm) fun g => ?_
    have g1 : m1 23 18 = 0 := sm.2.1.symm.trans g
    obtain ⟨y1, y2, y3, v, hv, _, y5⟩ := hg1 g1
    refine ⟨y1, y2.of ?_ (fun j => ?_) (fun j => ?_), ?_, v, hv, ?_⟩
    · rw [mUp.no (by omega), mUp.no (by omega), mUp.no (by omega)]
    · rw [mUp.no (by omega), mUp.no (by omega), mUp.no (by omega)]
    · rw [mUp.no (by omega), mUp.no (by omega), mUp.no (by omega)]
    · rw [sm.1]; exact y3
    · unfold pcW
      rw [mUp.no (by omega), mUp.no (by omega), mUp.yes ⟨rfl, rfl⟩, mUp.no (by omega), mUp.yes ⟨rfl, rfl⟩, mUp.yes ⟨rfl, rfl⟩]
      exact y5 (ha g1)
  refine ⟨fun c m2 u2 _ m3 u3 _ m4 u4 _ => ?_, fun c => ⟨fun c2 m2 u2 _ m3 u3 _ m4 u4 _ => out (hnt c2) (fun _ => c2) m2 m3 m4 u2 u3 u4, fun c2 => ?_⟩⟩
  · by_cases ha : an = 0
    · exact out (hnt ha) (fun _ => ha) m2 m3 m4 u2 u3 u4
    · have nb : ¬ m1 23 18 = 0 := fun g => by
        obtain ⟨_, _, _, v, _, y4, _⟩ := hg1 g
        have := (y4 ha).2.2
        omega
      exact out (ntP.e (c1.1.cTe nb)) (fun g => absurd g nb) m2 m3 m4 u2 u3 u4
  have J3 : ∀ (e1 f1 l1 : Int) (m2 : mM) (m2' : Int) (W2 : Wst), (0 ≤ e1 ∧ e1 ≤ 1) → wzF μ m2 → (¬ cT m2 = -2 ∧ ¬ cT m2 = 7 ∧ ¬ cT m2 = 1040) → CG m2 15 r m2' 6 0 (ouW u W2) → (m2 23 18 = 0 → μ 23 18 = 0 ∧ nmW m2 W2 m2' ∧ μ 23 9 + i ≤ m2 23 9 ∧ ∃ v, wL W2 = v :: rest ∧ pcV e f l v.1 ∧ pcV e1 f1 l1 v.2) → WJ_X6_readBranches_Wx6_3 w rc e f l i e1 f1 l1 m2 := by
    intro e1 f1 l1 m2 m2' W2 re1 F2 nb c2 hg2
    have J4 : ∀ z : Int, (z = 1 ↔ (¬ e = 0 ∨ ¬ e1 = 0)) → WJ_X6_readBranches_Wx6_4 w rc f l i f1 l1 m2 z := by
      intro z hz rz f2 ef2 l2 el2
      refine X6_take_s fun y m3 tk f3 hT3 _ ry => ?_
      refine ih _ _ _ _ _ _ ⟨by omega, rz, F2.trans f3.wy, fun y0 => (ntT nb tk f3.tb).resolve_left (by omega), ?_⟩ (by omega)
      rcases tk with ⟨t1, t2, t3⟩ | ⟨t1, t2, t3⟩
      · have nt : ¬ cT m2 = -1 := by omega
        have lt : m2 23 9 < m2 23 8 := CSt.lt c2.1 nt
        obtain ⟨s1, s2, s3⟩ := t3 lt
        have g2 : m2 23 18 = 0 := Classical.byContradiction fun hf => nt (c2.1.cTe hf)
        obtain ⟨y1, y2, y3, v, hv, y4, y5⟩ := hg2 g2
        have eB := wtBar.eq hv
        refine ⟨m2', wtBar W2, CG.mv c2 (c2.1.bar f3.tb t3 t2) f3.tb t3 t2 (by decide) (by decide) (fun p f q => rfl) rfl, fun _ => ⟨y1, ?_, by omega, (pcOr v.1 v.2, pcE), by rw [eB], fun _ => ⟨rfl, pcOr.V y4 y5 ef2 el2 hz re re1, by omega⟩, fun q => absurd q (by omega)⟩⟩
        rw [eB]
        exact f3.nm y2
      · refine ⟨m2', W2, c2.same f3.tb t3, fun g => ?_⟩
        obtain ⟨y1, y2, y3, v, hv, y4, y5⟩ := hg2 (t3.2.1.symm.trans g)
        exact ⟨y1, f3.nm y2, by rw [t3.1]; omega, v, hv, fun q => absurd t1 q, fun _ => pcOr.V y4 y5 ef2 el2 hz re re1⟩
    exact ⟨fun q => J4 1 ⟨fun _ => Or.inl q, fun _ => rfl⟩, fun q => ⟨fun q2 => J4 0 ⟨fun y => absurd y (by decide), fun y => by omega⟩, fun q2 => J4 1 ⟨fun _ => Or.inr q2, fun _ => rfl⟩⟩⟩
  refine loopF.m4 (fun e1 f1 l1 kk m2 => 0 ≤ kk ∧ (0 ≤ e1 ∧ e1 ≤ 1) ∧ wzF μ m2 ∧ ∃ (m2' : Int) (W2 : Wst), CG m2 15 r m2' 6 0 (ouW u W2) ∧ (m2 23 18 = 0 → μ 23 18 = 0 ∧ nmW m2 W2 m2' ∧ μ 23 9 + i ≤ m2 23 9 ∧ μ 23 9 + kk ≤ m2 23 9 ∧ ∃ v, wL W2 = v :: rest ∧ pcV e f l v.1 ∧ pcV e1 f1 l1 v.2)) ⟨by omega, by decide, F1, m', W, c1, fun g => ?_⟩ (by omega) ?_
  · obtain ⟨y1, y2, y3, v, hv, y4, _⟩ := hg1 g
    obtain ⟨x1, x2, x3⟩ := y4 c2
    exact ⟨y1, y2, x3, by omega, v, hv, x2, by rw [x1]; exact pcV.one⟩
  rintro rc2 e1 f1 l1 kk m2 ⟨k0, re1, F2, m2', W2, c2', hg2⟩ ih2 _ _ _ _ _ eq _ _ _ rk hT2 _
  cases eq
  have s29 : 0 ≤ m2 23 9 ∧ m2 23 9 ≤ 1000 := hT2 23 23 (A_23 hw) 9
  have J5 : ∀ (m3 : mM) (m3' : Int) (W3 : Wst), CG m3 16 r m3' 6 0 (ouW u W3) → wzF m2 m3 → (m3 23 18 = 0 → m2 23 18 = 0 ∧ nmW m3 W3 m3' ∧ pcW m3 (wP W3) ∧ m2 23 9 < m3 23 9 ∧ wL W3 = wL W2) → WJ_X6_readBranches_Wx6_5 w rc2 e1 f1 l1 kk m2 m3 := by
    intro m3 m3' W3 c3 f3 hg3 hT3 hF3
    refine X6_readRepeat_s c3 (fun g => ⟨(hg3 g).2.1, (hg3 g).2.2.1⟩) fun m4 W4 c4 f4 hg4 hT4 _ z16 e16 r16 => X6_join_s fun m5 hj fj hT5 _ => ?_
    have f5 : wzF m4 m5 := fun b j q q2 q3 => fj b j q3
    have F5 : wzF μ m5 := F2.trans (f3.trans (f4.trans f5))
    have sm5 : smK m4 m5 := ⟨fj 23 9 (by decide), fj 23 18 (by decide), fj 23 19 (by decide)⟩
    have c5 : CG m5 15 r m3' 6 0 (ouW u (wtJoin W4)) := CG.same c4 f5.tb sm5
    have fin : ∀ (e2 f2 l2 pe pl : Int), m5 23 15 = pe → (0 ≤ pe ∧ pe ≤ 1) → m5 23 17 = pl → ((e1 = 0 ∧ f2 = f1) ∨ (¬ e1 = 0 ∧ lOr f1 z16 = f2)) → ((pe = 0 ∧ l2 = pl) ∨ (¬ pe = 0 ∧ lOr l1 pl = l2)) → (e2 = 1 ↔ (¬ e1 = 0 ∧ ¬ pe = 0)) → (0 ≤ e2 ∧ e2 ≤ 1) → rc2 (e2, f2, l2, kk + 1, m5) := by
      intro e2 f2 l2 pe pl epe rpe epl h1 h2 h3 re2
      refine ih2 _ _ _ _ _ ⟨by omega, re2, F5, m3', wtJoin W4, c5, fun g => ?_⟩ (by omega)
      have g4 : m4 23 18 = 0 := sm5.2.1.symm.trans g
      obtain ⟨a1, a2, a3, a4, a5⟩ := hg4 g4
      obtain ⟨b1, b2, b3, b4, b5⟩ := hg3 a1
      obtain ⟨d1, d2, d3, d4, v, hv, d5, d6⟩ := hg2 b1
      have hv4 : W4.2.2.1 = v :: rest := (a5.trans b5).trans hv
      have eJ := wtJoin.eq hv4
      have s5 := sm5.1
      refine ⟨d1, ?_, by omega, by omega, (v.1, pcThen v.2 (wP W4)), by rw [eJ], d5, ?_⟩
      · rw [eJ]
        refine ⟨by rw [fj 23 12 (by decide)]; exact a2.1, fun j hj' => ?_⟩
        rw [fj 28 j (by decide)]
        refine ⟨⟨(a2.2 j hj').1.1, ?_⟩, (a2.2 j hj').2⟩
        exact hj v.2.2.1 (wP W4).1 W4.2.1 d6.2.1 (by rw [← e16]; exact a3.1) (fun i hi => (a2.2 i (by rw [← a2.1]; exact hi)).1.2) j (by rw [a2.1]; exact hj')
      · exact pcThen.V d6 (P := wP W4) (pe := pe) (pf := z16) (pl := pl) ⟨by rw [← e16]; exact a3.1, by rw [← epl, fj 23 17 (by decide)]; exact a3.2.1, by rw [← epe, fj 23 15 (by decide)]; exact a3.2.2⟩ h1 h2 h3 re1 rpe
    have J6 : ∀ f2 : Int, ((e1 = 0 ∧ f2 = f1) ∨ (¬ e1 = 0 ∧ lOr f1 z16 = f2)) → WJ_X6_readBranches_Wx6_6 rc2 e1 l1 kk m5 f2 := by
      intro f2 hf2 _ pe epe rpe
      have J7 : ∀ l2 pl : Int, m5 23 17 = pl → ((pe = 0 ∧ l2 = pl) ∨ (¬ pe = 0 ∧ lOr l1 pl = l2)) → WJ_X6_readBranches_Wx6_7 rc2 e1 kk m5 f2 pe l2 := by
        intro l2 pl epl hl2 _
        exact ⟨fun q => fin 0 f2 l2 pe pl epe rpe epl hf2 hl2 ⟨fun y => absurd y (by decide), fun y => absurd q y.1⟩ (by decide), fun q => ⟨fun q2 => fin 0 f2 l2 pe pl epe rpe epl hf2 hl2 ⟨fun y => absurd y (by decide), fun y => absurd q2 y.2⟩ (by decide), fun q2 => fin 1 f2 l2 pe pl epe rpe epl hf2 hl2 ⟨fun _ => ⟨q, q2⟩, fun _ => rfl⟩ (by decide)⟩⟩
      exact ⟨fun q pl epl _ => J7 pl pl epl (Or.inl ⟨q, rfl⟩), fun q pl epl _ o eo => J7 o pl epl (Or.inr ⟨q, eo⟩)⟩
    exact ⟨fun q => J6 f1 (Or.inl ⟨q, rfl⟩), fun q o eo => J6 o (Or.inr ⟨q, eo⟩)⟩
  refine ⟨fun c => ?_, fun c a ea ra t et rt => X6_beginsPiece_s fun b hb rb => ⟨fun c3 => ?_, fun c3 => ⟨fun c4 => ?_, fun c4 => ?_⟩⟩⟩
  · have nb : ¬ m2 23 18 = 0 := fun g => by
      obtain ⟨_, _, _, y4, _⟩ := hg2 g
      omega
    have ct := c2'.1.cTe nb
    exact J3 e1 f1 l1 m2 m2' W2 re1 F2 (by omega) c2' (fun g => absurd g nb)
  · have ct : cT m2 = t := cT.is ea et
    have nq : ¬ (t = -2 ∨ t = 7 ∨ t = 1040) := fun q => by
      have := hb.mpr q
      omega
    exact J3 e1 f1 l1 m2 m2' W2 re1 F2 (by omega) c2' fun g => by
      obtain ⟨y1, y2, y3, _, y5⟩ := hg2 g
      exact ⟨y1, y2, y3, y5⟩
  · have ct : cT m2 = t := cT.is ea et
    have yq : t = -2 ∨ t = 7 ∨ t = 1040 := hb.mp (by omega)
    exact X6_readPlace_s c2' (hendOf hend F2.tb) (by omega) (fun g => (hg2 g).2.1) fun m3 m3' W3 c3' f3 hg3 _ _ => J5 m3 m3' W3 c3' f3 hg3
  · have ct : cT m2 = t := cT.is ea et
    exact X6_readGroup_s6 (rest := wL W2) hw c2' (hendOf hend F2.tb) (by omega) (fun g => ⟨(hg2 g).2.1, rfl⟩) fun m3 m3' W3 c3' f3 hg3 _ _ => J5 m3 m3' W3 c3' f3 hg3
theorem X6_readGroup_s5 {w : mW} {μ : mM} {r m : Int} {u : Out} {rest : List Lvl} {Q : mM → Prop} (hw : mWF w) (h : CG μ 15 r m 5 0 u) (hend : μ 24 (μ 23 8).toNat = -1) (ht : cT μ = 1040) (hg : μ 23 18 = 0 → nmW μ (oW u) m ∧ wL (oW u) = rest) (k : ∀ (m1 : mM) (m' : Int) (W : Wst), CG m1 16 r m' 5 0 (ouW u W) → wzF μ m1 → (m1 23 18 = 0 → μ 23 18 = 0 ∧ nmW m1 W m' ∧ pcW m1 (wP W) ∧ μ 23 9 < m1 23 9 ∧ wL W = rest) → Q m1) : WP_X6_readGroup_Wx5 w μ 5 Q := by
  have nt : ¬ cT μ = -1 := by omega
  have g0 : μ 23 18 = 0 := Classical.byContradiction fun hf => nt (h.1.cTe hf)
  have lt : μ 23 9 < μ 23 8 := CSt.lt h.1 nt
  obtain ⟨nm, hl⟩ := hg g0
  refine X6_step_s fun m1 st f1 hT1 _ => ?_
  obtain ⟨s1, s2, s3⟩ := st lt
  have c1 : CG m1 15 r m 6 0 (ouW u (wtPush (oW u))) := CG.mv h (h.1.gO f1.tb st ht (by decide) (x' := 6) rfl) f1.tb st ht (by decide) (by decide) (fun p f q => rfl) rfl
  refine X6_readBranches_s6 (rest := rest) hw hT1 c1 (hendOf hend f1.tb) (fun _ => ⟨f1.nm nm, by rw [← hl]; rfl⟩) fun m2 m' W c2 f2 n2 hg2 _ _ a ea ra t et rt => ?_
  have ct : cT m2 = t := cT.is ea et
  have F2 : wzF μ m2 := f1.wy.trans f2
  refine ⟨fun c => X6_step_s fun m3 st3 f3 _ _ => ?_, fun c => X6_fail_s fun m3 fl f3 _ _ => ?_⟩
  · have nt2 : ¬ cT m2 = -1 := by omega
    have g2 : m2 23 18 = 0 := Classical.byContradiction fun hf => nt2 (c2.1.cTe hf)
    have lt2 : m2 23 9 < m2 23 8 := CSt.lt c2.1 nt2
    obtain ⟨x1, x2, x3⟩ := st3 lt2
    obtain ⟨_, nm2, at2, v, hv, pc2⟩ := hg2 g2
    have c3 : CG m3 16 r m' 5 0 (ouW u (wtPop W)) := CG.mv c2 (c2.1.gE f3.tb st3 (by omega) (by decide) (x' := 5) rfl) f3.tb st3 (ct.trans c) (by decide) (by decide) (fun p f q => rfl) rfl
    have eP := wtPop.eq hv
    refine k m3 m' (wtPop W) c3 (F2.trans f3.wy) fun _ => ⟨g0, ?_, ?_, by omega, by rw [eP]⟩
    · rw [eP]
      exact f3.nm nm2
    · rw [eP]
      exact f3.pc pc2
  · refine k m3 m' W (CG.fl (c2.1.gB (hendOf hend F2.tb) f3.tb fl n2 (by omega)) fl (by decide)) (F2.trans f3.wy) fun q => ?_
    obtain ⟨_, fl2⟩ := fl
    rcases fl2 with ⟨a, b, _⟩ | ⟨_, b, _⟩
    · rw [b] at q
      exact absurd q a
    · rw [b] at q
      split at q <;> exact absurd q (by decide)
theorem X6_readBranches_s5 {w : mW} {μ : mM} {r m : Int} {u : Out} {rest : List Lvl} {Q : mM → Prop} (hw : mWF w) (hT : mT w μ) (h : CG μ 15 r m 5 0 u) (hend : μ 24 (μ 23 8).toNat = -1) (hg : μ 23 18 = 0 → nmW μ (oW u) m ∧ wL (oW u) = lv0 :: rest) (k : ∀ (m1 : mM) (m' : Int) (W : Wst), CG m1 15 r m' 5 0 (ouW u W) → wzF μ m1 → ntP m1 → (m1 23 18 = 0 → μ 23 18 = 0 ∧ nmW m1 W m' ∧ μ 23 9 ≤ m1 23 9 ∧ ∃ v, wL W = v :: rest ∧ pcW m1 (pcOr v.1 v.2)) → Q m1) : WP_X6_readBranches_Wx5 w μ 5 Q := by
  have t9 : 0 ≤ μ 23 9 ∧ μ 23 9 ≤ 1000 := hT 23 23 (A_23 hw) 9
  refine loopF.m5 (fun e f l an i m1 => 0 ≤ i ∧ (0 ≤ e ∧ e ≤ 1) ∧ wzF μ m1 ∧ (an = 0 → ntP m1) ∧ ∃ (m' : Int) (W : Wst), CG m1 15 r m' 5 0 (ouW u W) ∧ (m1 23 18 = 0 → μ 23 18 = 0 ∧ nmW m1 W m' ∧ μ 23 9 ≤ m1 23 9 ∧ ∃ v, wL W = v :: rest ∧ (¬ an = 0 → v.2 = pcE ∧ pcV e f l v.1 ∧ μ 23 9 + i ≤ m1 23 9) ∧ (an = 0 → pcV e f l (pcOr v.1 v.2)))) ⟨by omega, by decide, wzF.refl, fun q => absurd q (by decide), m, oW u, h, fun g => ⟨g, (hg g).1, by omega, lv0, (hg g).2, fun _ => ⟨rfl, pcV.zero, by omega⟩, fun q => absurd q (by decide)⟩⟩ (by omega) ?_
  rintro rc e f l an i m1 ⟨i0, re, F1, hnt, m', W, c1, hg1⟩ ih e' f' l' an' i' m1' eq _ _ _ _ ri hT1 _
  cases eq
  have s9 : 0 ≤ m1 23 9 ∧ m1 23 9 ≤ 1000 := hT1 23 23 (A_23 hw) 9
  have out : ntP m1 → (m1 23 18 = 0 → an = 0) → ∀ (m2 m3 m4 : mM), mU m1 23 15 e m2 → mU m2 23 16 f m3 → mU m3 23 17 l m4 → Q m4 := by
    intro hn ha m2 m3 m4 u2 u3 u4
    obtain rfl := u2.is
    obtain rfl := u3.is
    obtain rfl := u4.is
    have fr : wzF m1 (mUp (mUp (mUp m1 23 15 e) 23 16 f) 23 17 l) := fun b j q q2 q3 => by
      rw [mUp.no (by omega), mUp.no (by omega), mUp.no (by omega)]
    have sm : smK m1 (mUp (mUp (mUp m1 23 15 e) 23 16 f) 23 17 l) := ⟨by rw [mUp.no (by omega), mUp.no (by omega), mUp.no (by omega)], by rw [mUp.no (by omega), mUp.no (by omega), mUp.no (by omega)], by rw [mUp.no (by omega), mUp.no (by omega), mUp.no (by omega)]⟩
    refine k _ m' W (c1.same fr.tb sm) (F1.trans fr) (hn.fr fr.tb sm) fun g => ?_
    have g1 : m1 23 18 = 0 := sm.2.1.symm.trans g
    obtain ⟨y1, y2, y3, v, hv, _, y5⟩ := hg1 g1
    refine ⟨y1, y2.of ?_ (fun j => ?_) (fun j => ?_), ?_, v, hv, ?_⟩
    · rw [mUp.no (by omega), mUp.no (by omega), mUp.no (by omega)]
    · rw [mUp.no (by omega), mUp.no (by omega), mUp.no (by omega)]
    · rw [mUp.no (by omega), mUp.no (by omega), mUp.no (by omega)]
    · rw [sm.1]; exact y3
    · unfold pcW
      rw [mUp.no (by omega), mUp.no (by omega), mUp.yes ⟨rfl, rfl⟩, mUp.no (by omega), mUp.yes ⟨rfl, rfl⟩, mUp.yes ⟨rfl, rfl⟩]
      exact y5 (ha g1)
  refine ⟨fun c m2 u2 _ m3 u3 _ m4 u4 _ => ?_, fun c => ⟨fun c2 m2 u2 _ m3 u3 _ m4 u4 _ => out (hnt c2) (fun _ => c2) m2 m3 m4 u2 u3 u4, fun c2 => ?_⟩⟩
  · by_cases ha : an = 0
    · exact out (hnt ha) (fun _ => ha) m2 m3 m4 u2 u3 u4
    · have nb : ¬ m1 23 18 = 0 := fun g => by
        obtain ⟨_, _, _, v, _, y4, _⟩ := hg1 g
        have := (y4 ha).2.2
        omega
      exact out (ntP.e (c1.1.cTe nb)) (fun g => absurd g nb) m2 m3 m4 u2 u3 u4
  have J3 : ∀ (e1 f1 l1 : Int) (m2 : mM) (m2' : Int) (W2 : Wst), (0 ≤ e1 ∧ e1 ≤ 1) → wzF μ m2 → (¬ cT m2 = -2 ∧ ¬ cT m2 = 7 ∧ ¬ cT m2 = 1040) → CG m2 15 r m2' 5 0 (ouW u W2) → (m2 23 18 = 0 → μ 23 18 = 0 ∧ nmW m2 W2 m2' ∧ μ 23 9 + i ≤ m2 23 9 ∧ ∃ v, wL W2 = v :: rest ∧ pcV e f l v.1 ∧ pcV e1 f1 l1 v.2) → WJ_X6_readBranches_Wx5_3 w rc e f l i e1 f1 l1 m2 := by
    intro e1 f1 l1 m2 m2' W2 re1 F2 nb c2 hg2
    have J4 : ∀ z : Int, (z = 1 ↔ (¬ e = 0 ∨ ¬ e1 = 0)) → WJ_X6_readBranches_Wx5_4 w rc f l i f1 l1 m2 z := by
      intro z hz rz f2 ef2 l2 el2
      refine X6_take_s fun y m3 tk f3 hT3 _ ry => ?_
      refine ih _ _ _ _ _ _ ⟨by omega, rz, F2.trans f3.wy, fun y0 => (ntT nb tk f3.tb).resolve_left (by omega), ?_⟩ (by omega)
      rcases tk with ⟨t1, t2, t3⟩ | ⟨t1, t2, t3⟩
      · have nt : ¬ cT m2 = -1 := by omega
        have lt : m2 23 9 < m2 23 8 := CSt.lt c2.1 nt
        obtain ⟨s1, s2, s3⟩ := t3 lt
        have g2 : m2 23 18 = 0 := Classical.byContradiction fun hf => nt (c2.1.cTe hf)
        obtain ⟨y1, y2, y3, v, hv, y4, y5⟩ := hg2 g2
        have eB := wtBar.eq hv
        refine ⟨m2', wtBar W2, CG.mv c2 (c2.1.bar f3.tb t3 t2) f3.tb t3 t2 (by decide) (by decide) (fun p f q => rfl) rfl, fun _ => ⟨y1, ?_, by omega, (pcOr v.1 v.2, pcE), by rw [eB], fun _ => ⟨rfl, pcOr.V y4 y5 ef2 el2 hz re re1, by omega⟩, fun q => absurd q (by omega)⟩⟩
        rw [eB]
        exact f3.nm y2
      · refine ⟨m2', W2, c2.same f3.tb t3, fun g => ?_⟩
        obtain ⟨y1, y2, y3, v, hv, y4, y5⟩ := hg2 (t3.2.1.symm.trans g)
        exact ⟨y1, f3.nm y2, by rw [t3.1]; omega, v, hv, fun q => absurd t1 q, fun _ => pcOr.V y4 y5 ef2 el2 hz re re1⟩
    exact ⟨fun q => J4 1 ⟨fun _ => Or.inl q, fun _ => rfl⟩, fun q => ⟨fun q2 => J4 0 ⟨fun y => absurd y (by decide), fun y => by omega⟩, fun q2 => J4 1 ⟨fun _ => Or.inr q2, fun _ => rfl⟩⟩⟩
  refine loopF.m4 (fun e1 f1 l1 kk m2 => 0 ≤ kk ∧ (0 ≤ e1 ∧ e1 ≤ 1) ∧ wzF μ m2 ∧ ∃ (m2' : Int) (W2 : Wst), CG m2 15 r m2' 5 0 (ouW u W2) ∧ (m2 23 18 = 0 → μ 23 18 = 0 ∧ nmW m2 W2 m2' ∧ μ 23 9 + i ≤ m2 23 9 ∧ μ 23 9 + kk ≤ m2 23 9 ∧ ∃ v, wL W2 = v :: rest ∧ pcV e f l v.1 ∧ pcV e1 f1 l1 v.2)) ⟨by omega, by decide, F1, m', W, c1, fun g => ?_⟩ (by omega) ?_
  · obtain ⟨y1, y2, y3, v, hv, y4, _⟩ := hg1 g
    obtain ⟨x1, x2, x3⟩ := y4 c2
    exact ⟨y1, y2, x3, by omega, v, hv, x2, by rw [x1]; exact pcV.one⟩
  rintro rc2 e1 f1 l1 kk m2 ⟨k0, re1, F2, m2', W2, c2', hg2⟩ ih2 _ _ _ _ _ eq _ _ _ rk hT2 _
  cases eq
  have s29 : 0 ≤ m2 23 9 ∧ m2 23 9 ≤ 1000 := hT2 23 23 (A_23 hw) 9
  have J5 : ∀ (m3 : mM) (m3' : Int) (W3 : Wst), CG m3 16 r m3' 5 0 (ouW u W3) → wzF m2 m3 → (m3 23 18 = 0 → m2 23 18 = 0 ∧ nmW m3 W3 m3' ∧ pcW m3 (wP W3) ∧ m2 23 9 < m3 23 9 ∧ wL W3 = wL W2) → WJ_X6_readBranches_Wx5_5 w rc2 e1 f1 l1 kk m2 m3 := by
    intro m3 m3' W3 c3 f3 hg3 hT3 hF3
    refine X6_readRepeat_s c3 (fun g => ⟨(hg3 g).2.1, (hg3 g).2.2.1⟩) fun m4 W4 c4 f4 hg4 hT4 _ z16 e16 r16 => X6_join_s fun m5 hj fj hT5 _ => ?_
    have f5 : wzF m4 m5 := fun b j q q2 q3 => fj b j q3
    have F5 : wzF μ m5 := F2.trans (f3.trans (f4.trans f5))
    have sm5 : smK m4 m5 := ⟨fj 23 9 (by decide), fj 23 18 (by decide), fj 23 19 (by decide)⟩
    have c5 : CG m5 15 r m3' 5 0 (ouW u (wtJoin W4)) := CG.same c4 f5.tb sm5
    have fin : ∀ (e2 f2 l2 pe pl : Int), m5 23 15 = pe → (0 ≤ pe ∧ pe ≤ 1) → m5 23 17 = pl → ((e1 = 0 ∧ f2 = f1) ∨ (¬ e1 = 0 ∧ lOr f1 z16 = f2)) → ((pe = 0 ∧ l2 = pl) ∨ (¬ pe = 0 ∧ lOr l1 pl = l2)) → (e2 = 1 ↔ (¬ e1 = 0 ∧ ¬ pe = 0)) → (0 ≤ e2 ∧ e2 ≤ 1) → rc2 (e2, f2, l2, kk + 1, m5) := by
      intro e2 f2 l2 pe pl epe rpe epl h1 h2 h3 re2
      refine ih2 _ _ _ _ _ ⟨by omega, re2, F5, m3', wtJoin W4, c5, fun g => ?_⟩ (by omega)
      have g4 : m4 23 18 = 0 := sm5.2.1.symm.trans g
      obtain ⟨a1, a2, a3, a4, a5⟩ := hg4 g4
      obtain ⟨b1, b2, b3, b4, b5⟩ := hg3 a1
      obtain ⟨d1, d2, d3, d4, v, hv, d5, d6⟩ := hg2 b1
      have hv4 : W4.2.2.1 = v :: rest := (a5.trans b5).trans hv
      have eJ := wtJoin.eq hv4
      have s5 := sm5.1
      refine ⟨d1, ?_, by omega, by omega, (v.1, pcThen v.2 (wP W4)), by rw [eJ], d5, ?_⟩
      · rw [eJ]
        refine ⟨by rw [fj 23 12 (by decide)]; exact a2.1, fun j hj' => ?_⟩
        rw [fj 28 j (by decide)]
        refine ⟨⟨(a2.2 j hj').1.1, ?_⟩, (a2.2 j hj').2⟩
        exact hj v.2.2.1 (wP W4).1 W4.2.1 d6.2.1 (by rw [← e16]; exact a3.1) (fun i hi => (a2.2 i (by rw [← a2.1]; exact hi)).1.2) j (by rw [a2.1]; exact hj')
      · exact pcThen.V d6 (P := wP W4) (pe := pe) (pf := z16) (pl := pl) ⟨by rw [← e16]; exact a3.1, by rw [← epl, fj 23 17 (by decide)]; exact a3.2.1, by rw [← epe, fj 23 15 (by decide)]; exact a3.2.2⟩ h1 h2 h3 re1 rpe
    have J6 : ∀ f2 : Int, ((e1 = 0 ∧ f2 = f1) ∨ (¬ e1 = 0 ∧ lOr f1 z16 = f2)) → WJ_X6_readBranches_Wx5_6 rc2 e1 l1 kk m5 f2 := by
      intro f2 hf2 _ pe epe rpe
      have J7 : ∀ l2 pl : Int, m5 23 17 = pl → ((pe = 0 ∧ l2 = pl) ∨ (¬ pe = 0 ∧ lOr l1 pl = l2)) → WJ_X6_readBranches_Wx5_7 rc2 e1 kk m5 f2 pe l2 := by
        intro l2 pl epl hl2 _
        exact ⟨fun q => fin 0 f2 l2 pe pl epe rpe epl hf2 hl2 ⟨fun y => absurd y (by decide), fun y => absurd q y.1⟩ (by decide), fun q => ⟨fun q2 => fin 0 f2 l2 pe pl epe rpe epl hf2 hl2 ⟨fun y => absurd y (by decide), fun y => absurd q2 y.2⟩ (by decide), fun q2 => fin 1 f2 l2 pe pl epe rpe epl hf2 hl2 ⟨fun _ => ⟨q, q2⟩, fun _ => rfl⟩ (by decide)⟩⟩
      exact ⟨fun q pl epl _ => J7 pl pl epl (Or.inl ⟨q, rfl⟩), fun q pl epl _ o eo => J7 o pl epl (Or.inr ⟨q, eo⟩)⟩
    exact ⟨fun q => J6 f1 (Or.inl ⟨q, rfl⟩), fun q o eo => J6 o (Or.inr ⟨q, eo⟩)⟩
  refine ⟨fun c => ?_, fun c a ea ra t et rt => X6_beginsPiece_s fun b hb rb => ⟨fun c3 => ?_, fun c3 => ⟨fun c4 => ?_, fun c4 => ?_⟩⟩⟩
  · have nb : ¬ m2 23 18 = 0 := fun g => by
      obtain ⟨_, _, _, y4, _⟩ := hg2 g
      omega
    have ct := c2'.1.cTe nb
    exact J3 e1 f1 l1 m2 m2' W2 re1 F2 (by omega) c2' (fun g => absurd g nb)
  · have ct : cT m2 = t := cT.is ea et
    have nq : ¬ (t = -2 ∨ t = 7 ∨ t = 1040) := fun q => by
      have := hb.mpr q
      omega
    exact J3 e1 f1 l1 m2 m2' W2 re1 F2 (by omega) c2' fun g => by
      obtain ⟨y1, y2, y3, _, y5⟩ := hg2 g
      exact ⟨y1, y2, y3, y5⟩
  · have ct : cT m2 = t := cT.is ea et
    have yq : t = -2 ∨ t = 7 ∨ t = 1040 := hb.mp (by omega)
    exact X6_readPlace_s c2' (hendOf hend F2.tb) (by omega) (fun g => (hg2 g).2.1) fun m3 m3' W3 c3' f3 hg3 _ _ => J5 m3 m3' W3 c3' f3 hg3
  · have ct : cT m2 = t := cT.is ea et
    exact X6_readGroup_s5 (rest := wL W2) hw c2' (hendOf hend F2.tb) (by omega) (fun g => ⟨(hg2 g).2.1, rfl⟩) fun m3 m3' W3 c3' f3 hg3 _ _ => J5 m3 m3' W3 c3' f3 hg3
theorem X6_readGroup_s4 {w : mW} {μ : mM} {r m : Int} {u : Out} {rest : List Lvl} {Q : mM → Prop} (hw : mWF w) (h : CG μ 15 r m 4 0 u) (hend : μ 24 (μ 23 8).toNat = -1) (ht : cT μ = 1040) (hg : μ 23 18 = 0 → nmW μ (oW u) m ∧ wL (oW u) = rest) (k : ∀ (m1 : mM) (m' : Int) (W : Wst), CG m1 16 r m' 4 0 (ouW u W) → wzF μ m1 → (m1 23 18 = 0 → μ 23 18 = 0 ∧ nmW m1 W m' ∧ pcW m1 (wP W) ∧ μ 23 9 < m1 23 9 ∧ wL W = rest) → Q m1) : WP_X6_readGroup_Wx4 w μ 4 Q := by
  have nt : ¬ cT μ = -1 := by omega
  have g0 : μ 23 18 = 0 := Classical.byContradiction fun hf => nt (h.1.cTe hf)
  have lt : μ 23 9 < μ 23 8 := CSt.lt h.1 nt
  obtain ⟨nm, hl⟩ := hg g0
  refine X6_step_s fun m1 st f1 hT1 _ => ?_
  obtain ⟨s1, s2, s3⟩ := st lt
  have c1 : CG m1 15 r m 5 0 (ouW u (wtPush (oW u))) := CG.mv h (h.1.gO f1.tb st ht (by decide) (x' := 5) rfl) f1.tb st ht (by decide) (by decide) (fun p f q => rfl) rfl
  refine X6_readBranches_s5 (rest := rest) hw hT1 c1 (hendOf hend f1.tb) (fun _ => ⟨f1.nm nm, by rw [← hl]; rfl⟩) fun m2 m' W c2 f2 n2 hg2 _ _ a ea ra t et rt => ?_
  have ct : cT m2 = t := cT.is ea et
  have F2 : wzF μ m2 := f1.wy.trans f2
  refine ⟨fun c => X6_step_s fun m3 st3 f3 _ _ => ?_, fun c => X6_fail_s fun m3 fl f3 _ _ => ?_⟩
  · have nt2 : ¬ cT m2 = -1 := by omega
    have g2 : m2 23 18 = 0 := Classical.byContradiction fun hf => nt2 (c2.1.cTe hf)
    have lt2 : m2 23 9 < m2 23 8 := CSt.lt c2.1 nt2
    obtain ⟨x1, x2, x3⟩ := st3 lt2
    obtain ⟨_, nm2, at2, v, hv, pc2⟩ := hg2 g2
    have c3 : CG m3 16 r m' 4 0 (ouW u (wtPop W)) := CG.mv c2 (c2.1.gE f3.tb st3 (by omega) (by decide) (x' := 4) rfl) f3.tb st3 (ct.trans c) (by decide) (by decide) (fun p f q => rfl) rfl
    have eP := wtPop.eq hv
    refine k m3 m' (wtPop W) c3 (F2.trans f3.wy) fun _ => ⟨g0, ?_, ?_, by omega, by rw [eP]⟩
    · rw [eP]
      exact f3.nm nm2
    · rw [eP]
      exact f3.pc pc2
  · refine k m3 m' W (CG.fl (c2.1.gB (hendOf hend F2.tb) f3.tb fl n2 (by omega)) fl (by decide)) (F2.trans f3.wy) fun q => ?_
    obtain ⟨_, fl2⟩ := fl
    rcases fl2 with ⟨a, b, _⟩ | ⟨_, b, _⟩
    · rw [b] at q
      exact absurd q a
    · rw [b] at q
      split at q <;> exact absurd q (by decide)
theorem X6_readBranches_s4 {w : mW} {μ : mM} {r m : Int} {u : Out} {rest : List Lvl} {Q : mM → Prop} (hw : mWF w) (hT : mT w μ) (h : CG μ 15 r m 4 0 u) (hend : μ 24 (μ 23 8).toNat = -1) (hg : μ 23 18 = 0 → nmW μ (oW u) m ∧ wL (oW u) = lv0 :: rest) (k : ∀ (m1 : mM) (m' : Int) (W : Wst), CG m1 15 r m' 4 0 (ouW u W) → wzF μ m1 → ntP m1 → (m1 23 18 = 0 → μ 23 18 = 0 ∧ nmW m1 W m' ∧ μ 23 9 ≤ m1 23 9 ∧ ∃ v, wL W = v :: rest ∧ pcW m1 (pcOr v.1 v.2)) → Q m1) : WP_X6_readBranches_Wx4 w μ 4 Q := by
  have t9 : 0 ≤ μ 23 9 ∧ μ 23 9 ≤ 1000 := hT 23 23 (A_23 hw) 9
  refine loopF.m5 (fun e f l an i m1 => 0 ≤ i ∧ (0 ≤ e ∧ e ≤ 1) ∧ wzF μ m1 ∧ (an = 0 → ntP m1) ∧ ∃ (m' : Int) (W : Wst), CG m1 15 r m' 4 0 (ouW u W) ∧ (m1 23 18 = 0 → μ 23 18 = 0 ∧ nmW m1 W m' ∧ μ 23 9 ≤ m1 23 9 ∧ ∃ v, wL W = v :: rest ∧ (¬ an = 0 → v.2 = pcE ∧ pcV e f l v.1 ∧ μ 23 9 + i ≤ m1 23 9) ∧ (an = 0 → pcV e f l (pcOr v.1 v.2)))) ⟨by omega, by decide, wzF.refl, fun q => absurd q (by decide), m, oW u, h, fun g => ⟨g, (hg g).1, by omega, lv0, (hg g).2, fun _ => ⟨rfl, pcV.zero, by omega⟩, fun q => absurd q (by decide)⟩⟩ (by omega) ?_
  rintro rc e f l an i m1 ⟨i0, re, F1, hnt, m', W, c1, hg1⟩ ih e' f' l' an' i' m1' eq _ _ _ _ ri hT1 _
  cases eq
  have s9 : 0 ≤ m1 23 9 ∧ m1 23 9 ≤ 1000 := hT1 23 23 (A_23 hw) 9
  have out : ntP m1 → (m1 23 18 = 0 → an = 0) → ∀ (m2 m3 m4 : mM), mU m1 23 15 e m2 → mU m2 23 16 f m3 → mU m3 23 17 l m4 → Q m4 := by
    intro hn ha m2 m3 m4 u2 u3 u4
    obtain rfl := u2.is
    obtain rfl := u3.is
    obtain rfl := u4.is
    have fr : wzF m1 (mUp (mUp (mUp m1 23 15 e) 23 16 f) 23 17 l) := fun b j q q2 q3 => by
      rw [mUp.no (by omega), mUp.no (by omega), mUp.no (by omega)]
    have sm : smK m1 (mUp (mUp (mUp m1 23 15 e) 23 16 f) 23 17 l) := ⟨by rw [mUp.no (by omega), mUp.no (by omega), mUp.no (by omega)], by rw [mUp.no (by omega), mUp.no (by omega), mUp.no (by omega)], by rw [mUp.no (by omega), mUp.no (by omega), mUp.no (by omega)]⟩
    refine k _ m' W (c1.same fr.tb sm) (F1.trans fr) (hn.fr fr.tb sm) fun g => ?_
    have g1 : m1 23 18 = 0 := sm.2.1.symm.trans g
    obtain ⟨y1, y2, y3, v, hv, _, y5⟩ := hg1 g1
    refine ⟨y1, y2.of ?_ (fun j => ?_) (fun j => ?_), ?_, v, hv, ?_⟩
    · rw [mUp.no (by omega), mUp.no (by omega), mUp.no (by omega)]
    · rw [mUp.no (by omega), mUp.no (by omega), mUp.no (by omega)]
    · rw [mUp.no (by omega), mUp.no (by omega), mUp.no (by omega)]
    · rw [sm.1]; exact y3
    · unfold pcW
      rw [mUp.no (by omega), mUp.no (by omega), mUp.yes ⟨rfl, rfl⟩, mUp.no (by omega), mUp.yes ⟨rfl, rfl⟩, mUp.yes ⟨rfl, rfl⟩]
      exact y5 (ha g1)
  refine ⟨fun c m2 u2 _ m3 u3 _ m4 u4 _ => ?_, fun c => ⟨fun c2 m2 u2 _ m3 u3 _ m4 u4 _ => out (hnt c2) (fun _ => c2) m2 m3 m4 u2 u3 u4, fun c2 => ?_⟩⟩
  · by_cases ha : an = 0
    · exact out (hnt ha) (fun _ => ha) m2 m3 m4 u2 u3 u4
    · have nb : ¬ m1 23 18 = 0 := fun g => by
        obtain ⟨_, _, _, v, _, y4, _⟩ := hg1 g
        have := (y4 ha).2.2
        omega
      exact out (ntP.e (c1.1.cTe nb)) (fun g => absurd g nb) m2 m3 m4 u2 u3 u4
  have J3 : ∀ (e1 f1 l1 : Int) (m2 : mM) (m2' : Int) (W2 : Wst), (0 ≤ e1 ∧ e1 ≤ 1) → wzF μ m2 → (¬ cT m2 = -2 ∧ ¬ cT m2 = 7 ∧ ¬ cT m2 = 1040) → CG m2 15 r m2' 4 0 (ouW u W2) → (m2 23 18 = 0 → μ 23 18 = 0 ∧ nmW m2 W2 m2' ∧ μ 23 9 + i ≤ m2 23 9 ∧ ∃ v, wL W2 = v :: rest ∧ pcV e f l v.1 ∧ pcV e1 f1 l1 v.2) → WJ_X6_readBranches_Wx4_3 w rc e f l i e1 f1 l1 m2 := by
    intro e1 f1 l1 m2 m2' W2 re1 F2 nb c2 hg2
    have J4 : ∀ z : Int, (z = 1 ↔ (¬ e = 0 ∨ ¬ e1 = 0)) → WJ_X6_readBranches_Wx4_4 w rc f l i f1 l1 m2 z := by
      intro z hz rz f2 ef2 l2 el2
      refine X6_take_s fun y m3 tk f3 hT3 _ ry => ?_
      refine ih _ _ _ _ _ _ ⟨by omega, rz, F2.trans f3.wy, fun y0 => (ntT nb tk f3.tb).resolve_left (by omega), ?_⟩ (by omega)
      rcases tk with ⟨t1, t2, t3⟩ | ⟨t1, t2, t3⟩
      · have nt : ¬ cT m2 = -1 := by omega
        have lt : m2 23 9 < m2 23 8 := CSt.lt c2.1 nt
        obtain ⟨s1, s2, s3⟩ := t3 lt
        have g2 : m2 23 18 = 0 := Classical.byContradiction fun hf => nt (c2.1.cTe hf)
        obtain ⟨y1, y2, y3, v, hv, y4, y5⟩ := hg2 g2
        have eB := wtBar.eq hv
        refine ⟨m2', wtBar W2, CG.mv c2 (c2.1.bar f3.tb t3 t2) f3.tb t3 t2 (by decide) (by decide) (fun p f q => rfl) rfl, fun _ => ⟨y1, ?_, by omega, (pcOr v.1 v.2, pcE), by rw [eB], fun _ => ⟨rfl, pcOr.V y4 y5 ef2 el2 hz re re1, by omega⟩, fun q => absurd q (by omega)⟩⟩
        rw [eB]
        exact f3.nm y2
      · refine ⟨m2', W2, c2.same f3.tb t3, fun g => ?_⟩
        obtain ⟨y1, y2, y3, v, hv, y4, y5⟩ := hg2 (t3.2.1.symm.trans g)
        exact ⟨y1, f3.nm y2, by rw [t3.1]; omega, v, hv, fun q => absurd t1 q, fun _ => pcOr.V y4 y5 ef2 el2 hz re re1⟩
    exact ⟨fun q => J4 1 ⟨fun _ => Or.inl q, fun _ => rfl⟩, fun q => ⟨fun q2 => J4 0 ⟨fun y => absurd y (by decide), fun y => by omega⟩, fun q2 => J4 1 ⟨fun _ => Or.inr q2, fun _ => rfl⟩⟩⟩
  refine loopF.m4 (fun e1 f1 l1 kk m2 => 0 ≤ kk ∧ (0 ≤ e1 ∧ e1 ≤ 1) ∧ wzF μ m2 ∧ ∃ (m2' : Int) (W2 : Wst), CG m2 15 r m2' 4 0 (ouW u W2) ∧ (m2 23 18 = 0 → μ 23 18 = 0 ∧ nmW m2 W2 m2' ∧ μ 23 9 + i ≤ m2 23 9 ∧ μ 23 9 + kk ≤ m2 23 9 ∧ ∃ v, wL W2 = v :: rest ∧ pcV e f l v.1 ∧ pcV e1 f1 l1 v.2)) ⟨by omega, by decide, F1, m', W, c1, fun g => ?_⟩ (by omega) ?_
  · obtain ⟨y1, y2, y3, v, hv, y4, _⟩ := hg1 g
    obtain ⟨x1, x2, x3⟩ := y4 c2
    exact ⟨y1, y2, x3, by omega, v, hv, x2, by rw [x1]; exact pcV.one⟩
  rintro rc2 e1 f1 l1 kk m2 ⟨k0, re1, F2, m2', W2, c2', hg2⟩ ih2 _ _ _ _ _ eq _ _ _ rk hT2 _
  cases eq
  have s29 : 0 ≤ m2 23 9 ∧ m2 23 9 ≤ 1000 := hT2 23 23 (A_23 hw) 9
  have J5 : ∀ (m3 : mM) (m3' : Int) (W3 : Wst), CG m3 16 r m3' 4 0 (ouW u W3) → wzF m2 m3 → (m3 23 18 = 0 → m2 23 18 = 0 ∧ nmW m3 W3 m3' ∧ pcW m3 (wP W3) ∧ m2 23 9 < m3 23 9 ∧ wL W3 = wL W2) → WJ_X6_readBranches_Wx4_5 w rc2 e1 f1 l1 kk m2 m3 := by
    intro m3 m3' W3 c3 f3 hg3 hT3 hF3
    refine X6_readRepeat_s c3 (fun g => ⟨(hg3 g).2.1, (hg3 g).2.2.1⟩) fun m4 W4 c4 f4 hg4 hT4 _ z16 e16 r16 => X6_join_s fun m5 hj fj hT5 _ => ?_
    have f5 : wzF m4 m5 := fun b j q q2 q3 => fj b j q3
    have F5 : wzF μ m5 := F2.trans (f3.trans (f4.trans f5))
    have sm5 : smK m4 m5 := ⟨fj 23 9 (by decide), fj 23 18 (by decide), fj 23 19 (by decide)⟩
    have c5 : CG m5 15 r m3' 4 0 (ouW u (wtJoin W4)) := CG.same c4 f5.tb sm5
    have fin : ∀ (e2 f2 l2 pe pl : Int), m5 23 15 = pe → (0 ≤ pe ∧ pe ≤ 1) → m5 23 17 = pl → ((e1 = 0 ∧ f2 = f1) ∨ (¬ e1 = 0 ∧ lOr f1 z16 = f2)) → ((pe = 0 ∧ l2 = pl) ∨ (¬ pe = 0 ∧ lOr l1 pl = l2)) → (e2 = 1 ↔ (¬ e1 = 0 ∧ ¬ pe = 0)) → (0 ≤ e2 ∧ e2 ≤ 1) → rc2 (e2, f2, l2, kk + 1, m5) := by
      intro e2 f2 l2 pe pl epe rpe epl h1 h2 h3 re2
      refine ih2 _ _ _ _ _ ⟨by omega, re2, F5, m3', wtJoin W4, c5, fun g => ?_⟩ (by omega)
      have g4 : m4 23 18 = 0 := sm5.2.1.symm.trans g
      obtain ⟨a1, a2, a3, a4, a5⟩ := hg4 g4
      obtain ⟨b1, b2, b3, b4, b5⟩ := hg3 a1
      obtain ⟨d1, d2, d3, d4, v, hv, d5, d6⟩ := hg2 b1
      have hv4 : W4.2.2.1 = v :: rest := (a5.trans b5).trans hv
      have eJ := wtJoin.eq hv4
      have s5 := sm5.1
      refine ⟨d1, ?_, by omega, by omega, (v.1, pcThen v.2 (wP W4)), by rw [eJ], d5, ?_⟩
      · rw [eJ]
        refine ⟨by rw [fj 23 12 (by decide)]; exact a2.1, fun j hj' => ?_⟩
        rw [fj 28 j (by decide)]
        refine ⟨⟨(a2.2 j hj').1.1, ?_⟩, (a2.2 j hj').2⟩
        exact hj v.2.2.1 (wP W4).1 W4.2.1 d6.2.1 (by rw [← e16]; exact a3.1) (fun i hi => (a2.2 i (by rw [← a2.1]; exact hi)).1.2) j (by rw [a2.1]; exact hj')
      · exact pcThen.V d6 (P := wP W4) (pe := pe) (pf := z16) (pl := pl) ⟨by rw [← e16]; exact a3.1, by rw [← epl, fj 23 17 (by decide)]; exact a3.2.1, by rw [← epe, fj 23 15 (by decide)]; exact a3.2.2⟩ h1 h2 h3 re1 rpe
    have J6 : ∀ f2 : Int, ((e1 = 0 ∧ f2 = f1) ∨ (¬ e1 = 0 ∧ lOr f1 z16 = f2)) → WJ_X6_readBranches_Wx4_6 rc2 e1 l1 kk m5 f2 := by
      intro f2 hf2 _ pe epe rpe
      have J7 : ∀ l2 pl : Int, m5 23 17 = pl → ((pe = 0 ∧ l2 = pl) ∨ (¬ pe = 0 ∧ lOr l1 pl = l2)) → WJ_X6_readBranches_Wx4_7 rc2 e1 kk m5 f2 pe l2 := by
        intro l2 pl epl hl2 _
        exact ⟨fun q => fin 0 f2 l2 pe pl epe rpe epl hf2 hl2 ⟨fun y => absurd y (by decide), fun y => absurd q y.1⟩ (by decide), fun q => ⟨fun q2 => fin 0 f2 l2 pe pl epe rpe epl hf2 hl2 ⟨fun y => absurd y (by decide), fun y => absurd q2 y.2⟩ (by decide), fun q2 => fin 1 f2 l2 pe pl epe rpe epl hf2 hl2 ⟨fun _ => ⟨q, q2⟩, fun _ => rfl⟩ (by decide)⟩⟩
      exact ⟨fun q pl epl _ => J7 pl pl epl (Or.inl ⟨q, rfl⟩), fun q pl epl _ o eo => J7 o pl epl (Or.inr ⟨q, eo⟩)⟩
    exact ⟨fun q => J6 f1 (Or.inl ⟨q, rfl⟩), fun q o eo => J6 o (Or.inr ⟨q, eo⟩)⟩
  refine ⟨fun c => ?_, fun c a ea ra t et rt => X6_beginsPiece_s fun b hb rb => ⟨fun c3 => ?_, fun c3 => ⟨fun c4 => ?_, fun c4 => ?_⟩⟩⟩
  · have nb : ¬ m2 23 18 = 0 := fun g => by
      obtain ⟨_, _, _, y4, _⟩ := hg2 g
      omega
    have ct := c2'.1.cTe nb
    exact J3 e1 f1 l1 m2 m2' W2 re1 F2 (by omega) c2' (fun g => absurd g nb)
  · have ct : cT m2 = t := cT.is ea et
    have nq : ¬ (t = -2 ∨ t = 7 ∨ t = 1040) := fun q => by
      have := hb.mpr q
      omega
    exact J3 e1 f1 l1 m2 m2' W2 re1 F2 (by omega) c2' fun g => by
      obtain ⟨y1, y2, y3, _, y5⟩ := hg2 g
      exact ⟨y1, y2, y3, y5⟩
  · have ct : cT m2 = t := cT.is ea et
    have yq : t = -2 ∨ t = 7 ∨ t = 1040 := hb.mp (by omega)
    exact X6_readPlace_s c2' (hendOf hend F2.tb) (by omega) (fun g => (hg2 g).2.1) fun m3 m3' W3 c3' f3 hg3 _ _ => J5 m3 m3' W3 c3' f3 hg3
  · have ct : cT m2 = t := cT.is ea et
    exact X6_readGroup_s4 (rest := wL W2) hw c2' (hendOf hend F2.tb) (by omega) (fun g => ⟨(hg2 g).2.1, rfl⟩) fun m3 m3' W3 c3' f3 hg3 _ _ => J5 m3 m3' W3 c3' f3 hg3
theorem X6_readGroup_s3 {w : mW} {μ : mM} {r m : Int} {u : Out} {rest : List Lvl} {Q : mM → Prop} (hw : mWF w) (h : CG μ 15 r m 3 0 u) (hend : μ 24 (μ 23 8).toNat = -1) (ht : cT μ = 1040) (hg : μ 23 18 = 0 → nmW μ (oW u) m ∧ wL (oW u) = rest) (k : ∀ (m1 : mM) (m' : Int) (W : Wst), CG m1 16 r m' 3 0 (ouW u W) → wzF μ m1 → (m1 23 18 = 0 → μ 23 18 = 0 ∧ nmW m1 W m' ∧ pcW m1 (wP W) ∧ μ 23 9 < m1 23 9 ∧ wL W = rest) → Q m1) : WP_X6_readGroup_Wx3 w μ 3 Q := by
  have nt : ¬ cT μ = -1 := by omega
  have g0 : μ 23 18 = 0 := Classical.byContradiction fun hf => nt (h.1.cTe hf)
  have lt : μ 23 9 < μ 23 8 := CSt.lt h.1 nt
  obtain ⟨nm, hl⟩ := hg g0
  refine X6_step_s fun m1 st f1 hT1 _ => ?_
  obtain ⟨s1, s2, s3⟩ := st lt
  have c1 : CG m1 15 r m 4 0 (ouW u (wtPush (oW u))) := CG.mv h (h.1.gO f1.tb st ht (by decide) (x' := 4) rfl) f1.tb st ht (by decide) (by decide) (fun p f q => rfl) rfl
  refine X6_readBranches_s4 (rest := rest) hw hT1 c1 (hendOf hend f1.tb) (fun _ => ⟨f1.nm nm, by rw [← hl]; rfl⟩) fun m2 m' W c2 f2 n2 hg2 _ _ a ea ra t et rt => ?_
  have ct : cT m2 = t := cT.is ea et
  have F2 : wzF μ m2 := f1.wy.trans f2
  refine ⟨fun c => X6_step_s fun m3 st3 f3 _ _ => ?_, fun c => X6_fail_s fun m3 fl f3 _ _ => ?_⟩
  · have nt2 : ¬ cT m2 = -1 := by omega
    have g2 : m2 23 18 = 0 := Classical.byContradiction fun hf => nt2 (c2.1.cTe hf)
    have lt2 : m2 23 9 < m2 23 8 := CSt.lt c2.1 nt2
    obtain ⟨x1, x2, x3⟩ := st3 lt2
    obtain ⟨_, nm2, at2, v, hv, pc2⟩ := hg2 g2
    have c3 : CG m3 16 r m' 3 0 (ouW u (wtPop W)) := CG.mv c2 (c2.1.gE f3.tb st3 (by omega) (by decide) (x' := 3) rfl) f3.tb st3 (ct.trans c) (by decide) (by decide) (fun p f q => rfl) rfl
    have eP := wtPop.eq hv
    refine k m3 m' (wtPop W) c3 (F2.trans f3.wy) fun _ => ⟨g0, ?_, ?_, by omega, by rw [eP]⟩
    · rw [eP]
      exact f3.nm nm2
    · rw [eP]
      exact f3.pc pc2
  · refine k m3 m' W (CG.fl (c2.1.gB (hendOf hend F2.tb) f3.tb fl n2 (by omega)) fl (by decide)) (F2.trans f3.wy) fun q => ?_
    obtain ⟨_, fl2⟩ := fl
    rcases fl2 with ⟨a, b, _⟩ | ⟨_, b, _⟩
    · rw [b] at q
      exact absurd q a
    · rw [b] at q
      split at q <;> exact absurd q (by decide)
theorem X6_readBranches_s3 {w : mW} {μ : mM} {r m : Int} {u : Out} {rest : List Lvl} {Q : mM → Prop} (hw : mWF w) (hT : mT w μ) (h : CG μ 15 r m 3 0 u) (hend : μ 24 (μ 23 8).toNat = -1) (hg : μ 23 18 = 0 → nmW μ (oW u) m ∧ wL (oW u) = lv0 :: rest) (k : ∀ (m1 : mM) (m' : Int) (W : Wst), CG m1 15 r m' 3 0 (ouW u W) → wzF μ m1 → ntP m1 → (m1 23 18 = 0 → μ 23 18 = 0 ∧ nmW m1 W m' ∧ μ 23 9 ≤ m1 23 9 ∧ ∃ v, wL W = v :: rest ∧ pcW m1 (pcOr v.1 v.2)) → Q m1) : WP_X6_readBranches_Wx3 w μ 3 Q := by
  have t9 : 0 ≤ μ 23 9 ∧ μ 23 9 ≤ 1000 := hT 23 23 (A_23 hw) 9
  refine loopF.m5 (fun e f l an i m1 => 0 ≤ i ∧ (0 ≤ e ∧ e ≤ 1) ∧ wzF μ m1 ∧ (an = 0 → ntP m1) ∧ ∃ (m' : Int) (W : Wst), CG m1 15 r m' 3 0 (ouW u W) ∧ (m1 23 18 = 0 → μ 23 18 = 0 ∧ nmW m1 W m' ∧ μ 23 9 ≤ m1 23 9 ∧ ∃ v, wL W = v :: rest ∧ (¬ an = 0 → v.2 = pcE ∧ pcV e f l v.1 ∧ μ 23 9 + i ≤ m1 23 9) ∧ (an = 0 → pcV e f l (pcOr v.1 v.2)))) ⟨by omega, by decide, wzF.refl, fun q => absurd q (by decide), m, oW u, h, fun g => ⟨g, (hg g).1, by omega, lv0, (hg g).2, fun _ => ⟨rfl, pcV.zero, by omega⟩, fun q => absurd q (by decide)⟩⟩ (by omega) ?_
  rintro rc e f l an i m1 ⟨i0, re, F1, hnt, m', W, c1, hg1⟩ ih e' f' l' an' i' m1' eq _ _ _ _ ri hT1 _
  cases eq
  have s9 : 0 ≤ m1 23 9 ∧ m1 23 9 ≤ 1000 := hT1 23 23 (A_23 hw) 9
  have out : ntP m1 → (m1 23 18 = 0 → an = 0) → ∀ (m2 m3 m4 : mM), mU m1 23 15 e m2 → mU m2 23 16 f m3 → mU m3 23 17 l m4 → Q m4 := by
    intro hn ha m2 m3 m4 u2 u3 u4
    obtain rfl := u2.is
    obtain rfl := u3.is
    obtain rfl := u4.is
    have fr : wzF m1 (mUp (mUp (mUp m1 23 15 e) 23 16 f) 23 17 l) := fun b j q q2 q3 => by
      rw [mUp.no (by omega), mUp.no (by omega), mUp.no (by omega)]
    have sm : smK m1 (mUp (mUp (mUp m1 23 15 e) 23 16 f) 23 17 l) := ⟨by rw [mUp.no (by omega), mUp.no (by omega), mUp.no (by omega)], by rw [mUp.no (by omega), mUp.no (by omega), mUp.no (by omega)], by rw [mUp.no (by omega), mUp.no (by omega), mUp.no (by omega)]⟩
    refine k _ m' W (c1.same fr.tb sm) (F1.trans fr) (hn.fr fr.tb sm) fun g => ?_
    have g1 : m1 23 18 = 0 := sm.2.1.symm.trans g
    obtain ⟨y1, y2, y3, v, hv, _, y5⟩ := hg1 g1
    refine ⟨y1, y2.of ?_ (fun j => ?_) (fun j => ?_), ?_, v, hv, ?_⟩
    · rw [mUp.no (by omega), mUp.no (by omega), mUp.no (by omega)]
    · rw [mUp.no (by omega), mUp.no (by omega), mUp.no (by omega)]
    · rw [mUp.no (by omega), mUp.no (by omega), mUp.no (by omega)]
    · rw [sm.1]; exact y3
    · unfold pcW
      rw [mUp.no (by omega), mUp.no (by omega), mUp.yes ⟨rfl, rfl⟩, mUp.no (by omega), mUp.yes ⟨rfl, rfl⟩, mUp.yes ⟨rfl, rfl⟩]
      exact y5 (ha g1)
  refine ⟨fun c m2 u2 _ m3 u3 _ m4 u4 _ => ?_, fun c => ⟨fun c2 m2 u2 _ m3 u3 _ m4 u4 _ => out (hnt c2) (fun _ => c2) m2 m3 m4 u2 u3 u4, fun c2 => ?_⟩⟩
  · by_cases ha : an = 0
    · exact out (hnt ha) (fun _ => ha) m2 m3 m4 u2 u3 u4
    · have nb : ¬ m1 23 18 = 0 := fun g => by
        obtain ⟨_, _, _, v, _, y4, _⟩ := hg1 g
        have := (y4 ha).2.2
        omega
      exact out (ntP.e (c1.1.cTe nb)) (fun g => absurd g nb) m2 m3 m4 u2 u3 u4
  have J3 : ∀ (e1 f1 l1 : Int) (m2 : mM) (m2' : Int) (W2 : Wst), (0 ≤ e1 ∧ e1 ≤ 1) → wzF μ m2 → (¬ cT m2 = -2 ∧ ¬ cT m2 = 7 ∧ ¬ cT m2 = 1040) → CG m2 15 r m2' 3 0 (ouW u W2) → (m2 23 18 = 0 → μ 23 18 = 0 ∧ nmW m2 W2 m2' ∧ μ 23 9 + i ≤ m2 23 9 ∧ ∃ v, wL W2 = v :: rest ∧ pcV e f l v.1 ∧ pcV e1 f1 l1 v.2) → WJ_X6_readBranches_Wx3_3 w rc e f l i e1 f1 l1 m2 := by
    intro e1 f1 l1 m2 m2' W2 re1 F2 nb c2 hg2
    have J4 : ∀ z : Int, (z = 1 ↔ (¬ e = 0 ∨ ¬ e1 = 0)) → WJ_X6_readBranches_Wx3_4 w rc f l i f1 l1 m2 z := by
      intro z hz rz f2 ef2 l2 el2
      refine X6_take_s fun y m3 tk f3 hT3 _ ry => ?_
      refine ih _ _ _ _ _ _ ⟨by omega, rz, F2.trans f3.wy, fun y0 => (ntT nb tk f3.tb).resolve_left (by omega), ?_⟩ (by omega)
      rcases tk with ⟨t1, t2, t3⟩ | ⟨t1, t2, t3⟩
      · have nt : ¬ cT m2 = -1 := by omega
        have lt : m2 23 9 < m2 23 8 := CSt.lt c2.1 nt
        obtain ⟨s1, s2, s3⟩ := t3 lt
        have g2 : m2 23 18 = 0 := Classical.byContradiction fun hf => nt (c2.1.cTe hf)
        obtain ⟨y1, y2, y3, v, hv, y4, y5⟩ := hg2 g2
        have eB := wtBar.eq hv
        refine ⟨m2', wtBar W2, CG.mv c2 (c2.1.bar f3.tb t3 t2) f3.tb t3 t2 (by decide) (by decide) (fun p f q => rfl) rfl, fun _ => ⟨y1, ?_, by omega, (pcOr v.1 v.2, pcE), by rw [eB], fun _ => ⟨rfl, pcOr.V y4 y5 ef2 el2 hz re re1, by omega⟩, fun q => absurd q (by omega)⟩⟩
        rw [eB]
        exact f3.nm y2
      · refine ⟨m2', W2, c2.same f3.tb t3, fun g => ?_⟩
        obtain ⟨y1, y2, y3, v, hv, y4, y5⟩ := hg2 (t3.2.1.symm.trans g)
        exact ⟨y1, f3.nm y2, by rw [t3.1]; omega, v, hv, fun q => absurd t1 q, fun _ => pcOr.V y4 y5 ef2 el2 hz re re1⟩
    exact ⟨fun q => J4 1 ⟨fun _ => Or.inl q, fun _ => rfl⟩, fun q => ⟨fun q2 => J4 0 ⟨fun y => absurd y (by decide), fun y => by omega⟩, fun q2 => J4 1 ⟨fun _ => Or.inr q2, fun _ => rfl⟩⟩⟩
  refine loopF.m4 (fun e1 f1 l1 kk m2 => 0 ≤ kk ∧ (0 ≤ e1 ∧ e1 ≤ 1) ∧ wzF μ m2 ∧ ∃ (m2' : Int) (W2 : Wst), CG m2 15 r m2' 3 0 (ouW u W2) ∧ (m2 23 18 = 0 → μ 23 18 = 0 ∧ nmW m2 W2 m2' ∧ μ 23 9 + i ≤ m2 23 9 ∧ μ 23 9 + kk ≤ m2 23 9 ∧ ∃ v, wL W2 = v :: rest ∧ pcV e f l v.1 ∧ pcV e1 f1 l1 v.2)) ⟨by omega, by decide, F1, m', W, c1, fun g => ?_⟩ (by omega) ?_
  · obtain ⟨y1, y2, y3, v, hv, y4, _⟩ := hg1 g
    obtain ⟨x1, x2, x3⟩ := y4 c2
    exact ⟨y1, y2, x3, by omega, v, hv, x2, by rw [x1]; exact pcV.one⟩
  rintro rc2 e1 f1 l1 kk m2 ⟨k0, re1, F2, m2', W2, c2', hg2⟩ ih2 _ _ _ _ _ eq _ _ _ rk hT2 _
  cases eq
  have s29 : 0 ≤ m2 23 9 ∧ m2 23 9 ≤ 1000 := hT2 23 23 (A_23 hw) 9
  have J5 : ∀ (m3 : mM) (m3' : Int) (W3 : Wst), CG m3 16 r m3' 3 0 (ouW u W3) → wzF m2 m3 → (m3 23 18 = 0 → m2 23 18 = 0 ∧ nmW m3 W3 m3' ∧ pcW m3 (wP W3) ∧ m2 23 9 < m3 23 9 ∧ wL W3 = wL W2) → WJ_X6_readBranches_Wx3_5 w rc2 e1 f1 l1 kk m2 m3 := by
    intro m3 m3' W3 c3 f3 hg3 hT3 hF3
    refine X6_readRepeat_s c3 (fun g => ⟨(hg3 g).2.1, (hg3 g).2.2.1⟩) fun m4 W4 c4 f4 hg4 hT4 _ z16 e16 r16 => X6_join_s fun m5 hj fj hT5 _ => ?_
    have f5 : wzF m4 m5 := fun b j q q2 q3 => fj b j q3
    have F5 : wzF μ m5 := F2.trans (f3.trans (f4.trans f5))
    have sm5 : smK m4 m5 := ⟨fj 23 9 (by decide), fj 23 18 (by decide), fj 23 19 (by decide)⟩
    have c5 : CG m5 15 r m3' 3 0 (ouW u (wtJoin W4)) := CG.same c4 f5.tb sm5
    have fin : ∀ (e2 f2 l2 pe pl : Int), m5 23 15 = pe → (0 ≤ pe ∧ pe ≤ 1) → m5 23 17 = pl → ((e1 = 0 ∧ f2 = f1) ∨ (¬ e1 = 0 ∧ lOr f1 z16 = f2)) → ((pe = 0 ∧ l2 = pl) ∨ (¬ pe = 0 ∧ lOr l1 pl = l2)) → (e2 = 1 ↔ (¬ e1 = 0 ∧ ¬ pe = 0)) → (0 ≤ e2 ∧ e2 ≤ 1) → rc2 (e2, f2, l2, kk + 1, m5) := by
      intro e2 f2 l2 pe pl epe rpe epl h1 h2 h3 re2
      refine ih2 _ _ _ _ _ ⟨by omega, re2, F5, m3', wtJoin W4, c5, fun g => ?_⟩ (by omega)
      have g4 : m4 23 18 = 0 := sm5.2.1.symm.trans g
      obtain ⟨a1, a2, a3, a4, a5⟩ := hg4 g4
      obtain ⟨b1, b2, b3, b4, b5⟩ := hg3 a1
      obtain ⟨d1, d2, d3, d4, v, hv, d5, d6⟩ := hg2 b1
      have hv4 : W4.2.2.1 = v :: rest := (a5.trans b5).trans hv
      have eJ := wtJoin.eq hv4
      have s5 := sm5.1
      refine ⟨d1, ?_, by omega, by omega, (v.1, pcThen v.2 (wP W4)), by rw [eJ], d5, ?_⟩
      · rw [eJ]
        refine ⟨by rw [fj 23 12 (by decide)]; exact a2.1, fun j hj' => ?_⟩
        rw [fj 28 j (by decide)]
        refine ⟨⟨(a2.2 j hj').1.1, ?_⟩, (a2.2 j hj').2⟩
        exact hj v.2.2.1 (wP W4).1 W4.2.1 d6.2.1 (by rw [← e16]; exact a3.1) (fun i hi => (a2.2 i (by rw [← a2.1]; exact hi)).1.2) j (by rw [a2.1]; exact hj')
      · exact pcThen.V d6 (P := wP W4) (pe := pe) (pf := z16) (pl := pl) ⟨by rw [← e16]; exact a3.1, by rw [← epl, fj 23 17 (by decide)]; exact a3.2.1, by rw [← epe, fj 23 15 (by decide)]; exact a3.2.2⟩ h1 h2 h3 re1 rpe
    have J6 : ∀ f2 : Int, ((e1 = 0 ∧ f2 = f1) ∨ (¬ e1 = 0 ∧ lOr f1 z16 = f2)) → WJ_X6_readBranches_Wx3_6 rc2 e1 l1 kk m5 f2 := by
      intro f2 hf2 _ pe epe rpe
      have J7 : ∀ l2 pl : Int, m5 23 17 = pl → ((pe = 0 ∧ l2 = pl) ∨ (¬ pe = 0 ∧ lOr l1 pl = l2)) → WJ_X6_readBranches_Wx3_7 rc2 e1 kk m5 f2 pe l2 := by
        intro l2 pl epl hl2 _
        exact ⟨fun q => fin 0 f2 l2 pe pl epe rpe epl hf2 hl2 ⟨fun y => absurd y (by decide), fun y => absurd q y.1⟩ (by decide), fun q => ⟨fun q2 => fin 0 f2 l2 pe pl epe rpe epl hf2 hl2 ⟨fun y => absurd y (by decide), fun y => absurd q2 y.2⟩ (by decide), fun q2 => fin 1 f2 l2 pe pl epe rpe epl hf2 hl2 ⟨fun _ => ⟨q, q2⟩, fun _ => rfl⟩ (by decide)⟩⟩
      exact ⟨fun q pl epl _ => J7 pl pl epl (Or.inl ⟨q, rfl⟩), fun q pl epl _ o eo => J7 o pl epl (Or.inr ⟨q, eo⟩)⟩
    exact ⟨fun q => J6 f1 (Or.inl ⟨q, rfl⟩), fun q o eo => J6 o (Or.inr ⟨q, eo⟩)⟩
  refine ⟨fun c => ?_, fun c a ea ra t et rt => X6_beginsPiece_s fun b hb rb => ⟨fun c3 => ?_, fun c3 => ⟨fun c4 => ?_, fun c4 => ?_⟩⟩⟩
  · have nb : ¬ m2 23 18 = 0 := fun g => by
      obtain ⟨_, _, _, y4, _⟩ := hg2 g
      omega
    have ct := c2'.1.cTe nb
    exact J3 e1 f1 l1 m2 m2' W2 re1 F2 (by omega) c2' (fun g => absurd g nb)
  · have ct : cT m2 = t := cT.is ea et
    have nq : ¬ (t = -2 ∨ t = 7 ∨ t = 1040) := fun q => by
      have := hb.mpr q
      omega
    exact J3 e1 f1 l1 m2 m2' W2 re1 F2 (by omega) c2' fun g => by
      obtain ⟨y1, y2, y3, _, y5⟩ := hg2 g
      exact ⟨y1, y2, y3, y5⟩
  · have ct : cT m2 = t := cT.is ea et
    have yq : t = -2 ∨ t = 7 ∨ t = 1040 := hb.mp (by omega)
    exact X6_readPlace_s c2' (hendOf hend F2.tb) (by omega) (fun g => (hg2 g).2.1) fun m3 m3' W3 c3' f3 hg3 _ _ => J5 m3 m3' W3 c3' f3 hg3
  · have ct : cT m2 = t := cT.is ea et
    exact X6_readGroup_s3 (rest := wL W2) hw c2' (hendOf hend F2.tb) (by omega) (fun g => ⟨(hg2 g).2.1, rfl⟩) fun m3 m3' W3 c3' f3 hg3 _ _ => J5 m3 m3' W3 c3' f3 hg3
theorem X6_readGroup_s2 {w : mW} {μ : mM} {r m : Int} {u : Out} {rest : List Lvl} {Q : mM → Prop} (hw : mWF w) (h : CG μ 15 r m 2 0 u) (hend : μ 24 (μ 23 8).toNat = -1) (ht : cT μ = 1040) (hg : μ 23 18 = 0 → nmW μ (oW u) m ∧ wL (oW u) = rest) (k : ∀ (m1 : mM) (m' : Int) (W : Wst), CG m1 16 r m' 2 0 (ouW u W) → wzF μ m1 → (m1 23 18 = 0 → μ 23 18 = 0 ∧ nmW m1 W m' ∧ pcW m1 (wP W) ∧ μ 23 9 < m1 23 9 ∧ wL W = rest) → Q m1) : WP_X6_readGroup_Wx2 w μ 2 Q := by
  have nt : ¬ cT μ = -1 := by omega
  have g0 : μ 23 18 = 0 := Classical.byContradiction fun hf => nt (h.1.cTe hf)
  have lt : μ 23 9 < μ 23 8 := CSt.lt h.1 nt
  obtain ⟨nm, hl⟩ := hg g0
  refine X6_step_s fun m1 st f1 hT1 _ => ?_
  obtain ⟨s1, s2, s3⟩ := st lt
  have c1 : CG m1 15 r m 3 0 (ouW u (wtPush (oW u))) := CG.mv h (h.1.gO f1.tb st ht (by decide) (x' := 3) rfl) f1.tb st ht (by decide) (by decide) (fun p f q => rfl) rfl
  refine X6_readBranches_s3 (rest := rest) hw hT1 c1 (hendOf hend f1.tb) (fun _ => ⟨f1.nm nm, by rw [← hl]; rfl⟩) fun m2 m' W c2 f2 n2 hg2 _ _ a ea ra t et rt => ?_
  have ct : cT m2 = t := cT.is ea et
  have F2 : wzF μ m2 := f1.wy.trans f2
  refine ⟨fun c => X6_step_s fun m3 st3 f3 _ _ => ?_, fun c => X6_fail_s fun m3 fl f3 _ _ => ?_⟩
  · have nt2 : ¬ cT m2 = -1 := by omega
    have g2 : m2 23 18 = 0 := Classical.byContradiction fun hf => nt2 (c2.1.cTe hf)
    have lt2 : m2 23 9 < m2 23 8 := CSt.lt c2.1 nt2
    obtain ⟨x1, x2, x3⟩ := st3 lt2
    obtain ⟨_, nm2, at2, v, hv, pc2⟩ := hg2 g2
    have c3 : CG m3 16 r m' 2 0 (ouW u (wtPop W)) := CG.mv c2 (c2.1.gE f3.tb st3 (by omega) (by decide) (x' := 2) rfl) f3.tb st3 (ct.trans c) (by decide) (by decide) (fun p f q => rfl) rfl
    have eP := wtPop.eq hv
    refine k m3 m' (wtPop W) c3 (F2.trans f3.wy) fun _ => ⟨g0, ?_, ?_, by omega, by rw [eP]⟩
    · rw [eP]
      exact f3.nm nm2
    · rw [eP]
      exact f3.pc pc2
  · refine k m3 m' W (CG.fl (c2.1.gB (hendOf hend F2.tb) f3.tb fl n2 (by omega)) fl (by decide)) (F2.trans f3.wy) fun q => ?_
    obtain ⟨_, fl2⟩ := fl
    rcases fl2 with ⟨a, b, _⟩ | ⟨_, b, _⟩
    · rw [b] at q
      exact absurd q a
    · rw [b] at q
      split at q <;> exact absurd q (by decide)
theorem X6_readBranches_s2 {w : mW} {μ : mM} {r m : Int} {u : Out} {rest : List Lvl} {Q : mM → Prop} (hw : mWF w) (hT : mT w μ) (h : CG μ 15 r m 2 0 u) (hend : μ 24 (μ 23 8).toNat = -1) (hg : μ 23 18 = 0 → nmW μ (oW u) m ∧ wL (oW u) = lv0 :: rest) (k : ∀ (m1 : mM) (m' : Int) (W : Wst), CG m1 15 r m' 2 0 (ouW u W) → wzF μ m1 → ntP m1 → (m1 23 18 = 0 → μ 23 18 = 0 ∧ nmW m1 W m' ∧ μ 23 9 ≤ m1 23 9 ∧ ∃ v, wL W = v :: rest ∧ pcW m1 (pcOr v.1 v.2)) → Q m1) : WP_X6_readBranches_Wx2 w μ 2 Q := by
  have t9 : 0 ≤ μ 23 9 ∧ μ 23 9 ≤ 1000 := hT 23 23 (A_23 hw) 9
  refine loopF.m5 (fun e f l an i m1 => 0 ≤ i ∧ (0 ≤ e ∧ e ≤ 1) ∧ wzF μ m1 ∧ (an = 0 → ntP m1) ∧ ∃ (m' : Int) (W : Wst), CG m1 15 r m' 2 0 (ouW u W) ∧ (m1 23 18 = 0 → μ 23 18 = 0 ∧ nmW m1 W m' ∧ μ 23 9 ≤ m1 23 9 ∧ ∃ v, wL W = v :: rest ∧ (¬ an = 0 → v.2 = pcE ∧ pcV e f l v.1 ∧ μ 23 9 + i ≤ m1 23 9) ∧ (an = 0 → pcV e f l (pcOr v.1 v.2)))) ⟨by omega, by decide, wzF.refl, fun q => absurd q (by decide), m, oW u, h, fun g => ⟨g, (hg g).1, by omega, lv0, (hg g).2, fun _ => ⟨rfl, pcV.zero, by omega⟩, fun q => absurd q (by decide)⟩⟩ (by omega) ?_
  rintro rc e f l an i m1 ⟨i0, re, F1, hnt, m', W, c1, hg1⟩ ih e' f' l' an' i' m1' eq _ _ _ _ ri hT1 _
  cases eq
  have s9 : 0 ≤ m1 23 9 ∧ m1 23 9 ≤ 1000 := hT1 23 23 (A_23 hw) 9
  have out : ntP m1 → (m1 23 18 = 0 → an = 0) → ∀ (m2 m3 m4 : mM), mU m1 23 15 e m2 → mU m2 23 16 f m3 → mU m3 23 17 l m4 → Q m4 := by
    intro hn ha m2 m3 m4 u2 u3 u4
    obtain rfl := u2.is
    obtain rfl := u3.is
    obtain rfl := u4.is
    have fr : wzF m1 (mUp (mUp (mUp m1 23 15 e) 23 16 f) 23 17 l) := fun b j q q2 q3 => by
      rw [mUp.no (by omega), mUp.no (by omega), mUp.no (by omega)]
    have sm : smK m1 (mUp (mUp (mUp m1 23 15 e) 23 16 f) 23 17 l) := ⟨by rw [mUp.no (by omega), mUp.no (by omega), mUp.no (by omega)], by rw [mUp.no (by omega), mUp.no (by omega), mUp.no (by omega)], by rw [mUp.no (by omega), mUp.no (by omega), mUp.no (by omega)]⟩
    refine k _ m' W (c1.same fr.tb sm) (F1.trans fr) (hn.fr fr.tb sm) fun g => ?_
    have g1 : m1 23 18 = 0 := sm.2.1.symm.trans g
    obtain ⟨y1, y2, y3, v, hv, _, y5⟩ := hg1 g1
    refine ⟨y1, y2.of ?_ (fun j => ?_) (fun j => ?_), ?_, v, hv, ?_⟩
    · rw [mUp.no (by omega), mUp.no (by omega), mUp.no (by omega)]
    · rw [mUp.no (by omega), mUp.no (by omega), mUp.no (by omega)]
    · rw [mUp.no (by omega), mUp.no (by omega), mUp.no (by omega)]
    · rw [sm.1]; exact y3
    · unfold pcW
      rw [mUp.no (by omega), mUp.no (by omega), mUp.yes ⟨rfl, rfl⟩, mUp.no (by omega), mUp.yes ⟨rfl, rfl⟩, mUp.yes ⟨rfl, rfl⟩]
      exact y5 (ha g1)
  refine ⟨fun c m2 u2 _ m3 u3 _ m4 u4 _ => ?_, fun c => ⟨fun c2 m2 u2 _ m3 u3 _ m4 u4 _ => out (hnt c2) (fun _ => c2) m2 m3 m4 u2 u3 u4, fun c2 => ?_⟩⟩
  · by_cases ha : an = 0
    · exact out (hnt ha) (fun _ => ha) m2 m3 m4 u2 u3 u4
    · have nb : ¬ m1 23 18 = 0 := fun g => by
        obtain ⟨_, _, _, v, _, y4, _⟩ := hg1 g
        have := (y4 ha).2.2
        omega
      exact out (ntP.e (c1.1.cTe nb)) (fun g => absurd g nb) m2 m3 m4 u2 u3 u4
  have J3 : ∀ (e1 f1 l1 : Int) (m2 : mM) (m2' : Int) (W2 : Wst), (0 ≤ e1 ∧ e1 ≤ 1) → wzF μ m2 → (¬ cT m2 = -2 ∧ ¬ cT m2 = 7 ∧ ¬ cT m2 = 1040) → CG m2 15 r m2' 2 0 (ouW u W2) → (m2 23 18 = 0 → μ 23 18 = 0 ∧ nmW m2 W2 m2' ∧ μ 23 9 + i ≤ m2 23 9 ∧ ∃ v, wL W2 = v :: rest ∧ pcV e f l v.1 ∧ pcV e1 f1 l1 v.2) → WJ_X6_readBranches_Wx2_3 w rc e f l i e1 f1 l1 m2 := by
    intro e1 f1 l1 m2 m2' W2 re1 F2 nb c2 hg2
    have J4 : ∀ z : Int, (z = 1 ↔ (¬ e = 0 ∨ ¬ e1 = 0)) → WJ_X6_readBranches_Wx2_4 w rc f l i f1 l1 m2 z := by
      intro z hz rz f2 ef2 l2 el2
      refine X6_take_s fun y m3 tk f3 hT3 _ ry => ?_
      refine ih _ _ _ _ _ _ ⟨by omega, rz, F2.trans f3.wy, fun y0 => (ntT nb tk f3.tb).resolve_left (by omega), ?_⟩ (by omega)
      rcases tk with ⟨t1, t2, t3⟩ | ⟨t1, t2, t3⟩
      · have nt : ¬ cT m2 = -1 := by omega
        have lt : m2 23 9 < m2 23 8 := CSt.lt c2.1 nt
        obtain ⟨s1, s2, s3⟩ := t3 lt
        have g2 : m2 23 18 = 0 := Classical.byContradiction fun hf => nt (c2.1.cTe hf)
        obtain ⟨y1, y2, y3, v, hv, y4, y5⟩ := hg2 g2
        have eB := wtBar.eq hv
        refine ⟨m2', wtBar W2, CG.mv c2 (c2.1.bar f3.tb t3 t2) f3.tb t3 t2 (by decide) (by decide) (fun p f q => rfl) rfl, fun _ => ⟨y1, ?_, by omega, (pcOr v.1 v.2, pcE), by rw [eB], fun _ => ⟨rfl, pcOr.V y4 y5 ef2 el2 hz re re1, by omega⟩, fun q => absurd q (by omega)⟩⟩
        rw [eB]
        exact f3.nm y2
      · refine ⟨m2', W2, c2.same f3.tb t3, fun g => ?_⟩
        obtain ⟨y1, y2, y3, v, hv, y4, y5⟩ := hg2 (t3.2.1.symm.trans g)
        exact ⟨y1, f3.nm y2, by rw [t3.1]; omega, v, hv, fun q => absurd t1 q, fun _ => pcOr.V y4 y5 ef2 el2 hz re re1⟩
    exact ⟨fun q => J4 1 ⟨fun _ => Or.inl q, fun _ => rfl⟩, fun q => ⟨fun q2 => J4 0 ⟨fun y => absurd y (by decide), fun y => by omega⟩, fun q2 => J4 1 ⟨fun _ => Or.inr q2, fun _ => rfl⟩⟩⟩
  refine loopF.m4 (fun e1 f1 l1 kk m2 => 0 ≤ kk ∧ (0 ≤ e1 ∧ e1 ≤ 1) ∧ wzF μ m2 ∧ ∃ (m2' : Int) (W2 : Wst), CG m2 15 r m2' 2 0 (ouW u W2) ∧ (m2 23 18 = 0 → μ 23 18 = 0 ∧ nmW m2 W2 m2' ∧ μ 23 9 + i ≤ m2 23 9 ∧ μ 23 9 + kk ≤ m2 23 9 ∧ ∃ v, wL W2 = v :: rest ∧ pcV e f l v.1 ∧ pcV e1 f1 l1 v.2)) ⟨by omega, by decide, F1, m', W, c1, fun g => ?_⟩ (by omega) ?_
  · obtain ⟨y1, y2, y3, v, hv, y4, _⟩ := hg1 g
    obtain ⟨x1, x2, x3⟩ := y4 c2
    exact ⟨y1, y2, x3, by omega, v, hv, x2, by rw [x1]; exact pcV.one⟩
  rintro rc2 e1 f1 l1 kk m2 ⟨k0, re1, F2, m2', W2, c2', hg2⟩ ih2 _ _ _ _ _ eq _ _ _ rk hT2 _
  cases eq
  have s29 : 0 ≤ m2 23 9 ∧ m2 23 9 ≤ 1000 := hT2 23 23 (A_23 hw) 9
  have J5 : ∀ (m3 : mM) (m3' : Int) (W3 : Wst), CG m3 16 r m3' 2 0 (ouW u W3) → wzF m2 m3 → (m3 23 18 = 0 → m2 23 18 = 0 ∧ nmW m3 W3 m3' ∧ pcW m3 (wP W3) ∧ m2 23 9 < m3 23 9 ∧ wL W3 = wL W2) → WJ_X6_readBranches_Wx2_5 w rc2 e1 f1 l1 kk m2 m3 := by
    intro m3 m3' W3 c3 f3 hg3 hT3 hF3
    refine X6_readRepeat_s c3 (fun g => ⟨(hg3 g).2.1, (hg3 g).2.2.1⟩) fun m4 W4 c4 f4 hg4 hT4 _ z16 e16 r16 => X6_join_s fun m5 hj fj hT5 _ => ?_
    have f5 : wzF m4 m5 := fun b j q q2 q3 => fj b j q3
    have F5 : wzF μ m5 := F2.trans (f3.trans (f4.trans f5))
    have sm5 : smK m4 m5 := ⟨fj 23 9 (by decide), fj 23 18 (by decide), fj 23 19 (by decide)⟩
    have c5 : CG m5 15 r m3' 2 0 (ouW u (wtJoin W4)) := CG.same c4 f5.tb sm5
    have fin : ∀ (e2 f2 l2 pe pl : Int), m5 23 15 = pe → (0 ≤ pe ∧ pe ≤ 1) → m5 23 17 = pl → ((e1 = 0 ∧ f2 = f1) ∨ (¬ e1 = 0 ∧ lOr f1 z16 = f2)) → ((pe = 0 ∧ l2 = pl) ∨ (¬ pe = 0 ∧ lOr l1 pl = l2)) → (e2 = 1 ↔ (¬ e1 = 0 ∧ ¬ pe = 0)) → (0 ≤ e2 ∧ e2 ≤ 1) → rc2 (e2, f2, l2, kk + 1, m5) := by
      intro e2 f2 l2 pe pl epe rpe epl h1 h2 h3 re2
      refine ih2 _ _ _ _ _ ⟨by omega, re2, F5, m3', wtJoin W4, c5, fun g => ?_⟩ (by omega)
      have g4 : m4 23 18 = 0 := sm5.2.1.symm.trans g
      obtain ⟨a1, a2, a3, a4, a5⟩ := hg4 g4
      obtain ⟨b1, b2, b3, b4, b5⟩ := hg3 a1
      obtain ⟨d1, d2, d3, d4, v, hv, d5, d6⟩ := hg2 b1
      have hv4 : W4.2.2.1 = v :: rest := (a5.trans b5).trans hv
      have eJ := wtJoin.eq hv4
      have s5 := sm5.1
      refine ⟨d1, ?_, by omega, by omega, (v.1, pcThen v.2 (wP W4)), by rw [eJ], d5, ?_⟩
      · rw [eJ]
        refine ⟨by rw [fj 23 12 (by decide)]; exact a2.1, fun j hj' => ?_⟩
        rw [fj 28 j (by decide)]
        refine ⟨⟨(a2.2 j hj').1.1, ?_⟩, (a2.2 j hj').2⟩
        exact hj v.2.2.1 (wP W4).1 W4.2.1 d6.2.1 (by rw [← e16]; exact a3.1) (fun i hi => (a2.2 i (by rw [← a2.1]; exact hi)).1.2) j (by rw [a2.1]; exact hj')
      · exact pcThen.V d6 (P := wP W4) (pe := pe) (pf := z16) (pl := pl) ⟨by rw [← e16]; exact a3.1, by rw [← epl, fj 23 17 (by decide)]; exact a3.2.1, by rw [← epe, fj 23 15 (by decide)]; exact a3.2.2⟩ h1 h2 h3 re1 rpe
    have J6 : ∀ f2 : Int, ((e1 = 0 ∧ f2 = f1) ∨ (¬ e1 = 0 ∧ lOr f1 z16 = f2)) → WJ_X6_readBranches_Wx2_6 rc2 e1 l1 kk m5 f2 := by
      intro f2 hf2 _ pe epe rpe
      have J7 : ∀ l2 pl : Int, m5 23 17 = pl → ((pe = 0 ∧ l2 = pl) ∨ (¬ pe = 0 ∧ lOr l1 pl = l2)) → WJ_X6_readBranches_Wx2_7 rc2 e1 kk m5 f2 pe l2 := by
        intro l2 pl epl hl2 _
        exact ⟨fun q => fin 0 f2 l2 pe pl epe rpe epl hf2 hl2 ⟨fun y => absurd y (by decide), fun y => absurd q y.1⟩ (by decide), fun q => ⟨fun q2 => fin 0 f2 l2 pe pl epe rpe epl hf2 hl2 ⟨fun y => absurd y (by decide), fun y => absurd q2 y.2⟩ (by decide), fun q2 => fin 1 f2 l2 pe pl epe rpe epl hf2 hl2 ⟨fun _ => ⟨q, q2⟩, fun _ => rfl⟩ (by decide)⟩⟩
      exact ⟨fun q pl epl _ => J7 pl pl epl (Or.inl ⟨q, rfl⟩), fun q pl epl _ o eo => J7 o pl epl (Or.inr ⟨q, eo⟩)⟩
    exact ⟨fun q => J6 f1 (Or.inl ⟨q, rfl⟩), fun q o eo => J6 o (Or.inr ⟨q, eo⟩)⟩
  refine ⟨fun c => ?_, fun c a ea ra t et rt => X6_beginsPiece_s fun b hb rb => ⟨fun c3 => ?_, fun c3 => ⟨fun c4 => ?_, fun c4 => ?_⟩⟩⟩
  · have nb : ¬ m2 23 18 = 0 := fun g => by
      obtain ⟨_, _, _, y4, _⟩ := hg2 g
      omega
    have ct := c2'.1.cTe nb
    exact J3 e1 f1 l1 m2 m2' W2 re1 F2 (by omega) c2' (fun g => absurd g nb)
  · have ct : cT m2 = t := cT.is ea et
    have nq : ¬ (t = -2 ∨ t = 7 ∨ t = 1040) := fun q => by
      have := hb.mpr q
      omega
    exact J3 e1 f1 l1 m2 m2' W2 re1 F2 (by omega) c2' fun g => by
      obtain ⟨y1, y2, y3, _, y5⟩ := hg2 g
      exact ⟨y1, y2, y3, y5⟩
  · have ct : cT m2 = t := cT.is ea et
    have yq : t = -2 ∨ t = 7 ∨ t = 1040 := hb.mp (by omega)
    exact X6_readPlace_s c2' (hendOf hend F2.tb) (by omega) (fun g => (hg2 g).2.1) fun m3 m3' W3 c3' f3 hg3 _ _ => J5 m3 m3' W3 c3' f3 hg3
  · have ct : cT m2 = t := cT.is ea et
    exact X6_readGroup_s2 (rest := wL W2) hw c2' (hendOf hend F2.tb) (by omega) (fun g => ⟨(hg2 g).2.1, rfl⟩) fun m3 m3' W3 c3' f3 hg3 _ _ => J5 m3 m3' W3 c3' f3 hg3
theorem X6_readGroup_s1 {w : mW} {μ : mM} {r m : Int} {u : Out} {rest : List Lvl} {Q : mM → Prop} (hw : mWF w) (h : CG μ 15 r m 1 0 u) (hend : μ 24 (μ 23 8).toNat = -1) (ht : cT μ = 1040) (hg : μ 23 18 = 0 → nmW μ (oW u) m ∧ wL (oW u) = rest) (k : ∀ (m1 : mM) (m' : Int) (W : Wst), CG m1 16 r m' 1 0 (ouW u W) → wzF μ m1 → (m1 23 18 = 0 → μ 23 18 = 0 ∧ nmW m1 W m' ∧ pcW m1 (wP W) ∧ μ 23 9 < m1 23 9 ∧ wL W = rest) → Q m1) : WP_X6_readGroup_Wx1 w μ 1 Q := by
  have nt : ¬ cT μ = -1 := by omega
  have g0 : μ 23 18 = 0 := Classical.byContradiction fun hf => nt (h.1.cTe hf)
  have lt : μ 23 9 < μ 23 8 := CSt.lt h.1 nt
  obtain ⟨nm, hl⟩ := hg g0
  refine X6_step_s fun m1 st f1 hT1 _ => ?_
  obtain ⟨s1, s2, s3⟩ := st lt
  have c1 : CG m1 15 r m 2 0 (ouW u (wtPush (oW u))) := CG.mv h (h.1.gO f1.tb st ht (by decide) (x' := 2) rfl) f1.tb st ht (by decide) (by decide) (fun p f q => rfl) rfl
  refine X6_readBranches_s2 (rest := rest) hw hT1 c1 (hendOf hend f1.tb) (fun _ => ⟨f1.nm nm, by rw [← hl]; rfl⟩) fun m2 m' W c2 f2 n2 hg2 _ _ a ea ra t et rt => ?_
  have ct : cT m2 = t := cT.is ea et
  have F2 : wzF μ m2 := f1.wy.trans f2
  refine ⟨fun c => X6_step_s fun m3 st3 f3 _ _ => ?_, fun c => X6_fail_s fun m3 fl f3 _ _ => ?_⟩
  · have nt2 : ¬ cT m2 = -1 := by omega
    have g2 : m2 23 18 = 0 := Classical.byContradiction fun hf => nt2 (c2.1.cTe hf)
    have lt2 : m2 23 9 < m2 23 8 := CSt.lt c2.1 nt2
    obtain ⟨x1, x2, x3⟩ := st3 lt2
    obtain ⟨_, nm2, at2, v, hv, pc2⟩ := hg2 g2
    have c3 : CG m3 16 r m' 1 0 (ouW u (wtPop W)) := CG.mv c2 (c2.1.gE f3.tb st3 (by omega) (by decide) (x' := 1) rfl) f3.tb st3 (ct.trans c) (by decide) (by decide) (fun p f q => rfl) rfl
    have eP := wtPop.eq hv
    refine k m3 m' (wtPop W) c3 (F2.trans f3.wy) fun _ => ⟨g0, ?_, ?_, by omega, by rw [eP]⟩
    · rw [eP]
      exact f3.nm nm2
    · rw [eP]
      exact f3.pc pc2
  · refine k m3 m' W (CG.fl (c2.1.gB (hendOf hend F2.tb) f3.tb fl n2 (by omega)) fl (by decide)) (F2.trans f3.wy) fun q => ?_
    obtain ⟨_, fl2⟩ := fl
    rcases fl2 with ⟨a, b, _⟩ | ⟨_, b, _⟩
    · rw [b] at q
      exact absurd q a
    · rw [b] at q
      split at q <;> exact absurd q (by decide)
theorem X6_readBranches_s1 {w : mW} {μ : mM} {r m : Int} {u : Out} {rest : List Lvl} {Q : mM → Prop} (hw : mWF w) (hT : mT w μ) (h : CG μ 15 r m 1 0 u) (hend : μ 24 (μ 23 8).toNat = -1) (hg : μ 23 18 = 0 → nmW μ (oW u) m ∧ wL (oW u) = lv0 :: rest) (k : ∀ (m1 : mM) (m' : Int) (W : Wst), CG m1 15 r m' 1 0 (ouW u W) → wzF μ m1 → ntP m1 → (m1 23 18 = 0 → μ 23 18 = 0 ∧ nmW m1 W m' ∧ μ 23 9 ≤ m1 23 9 ∧ ∃ v, wL W = v :: rest ∧ pcW m1 (pcOr v.1 v.2)) → Q m1) : WP_X6_readBranches_Wx1 w μ 1 Q := by
  have t9 : 0 ≤ μ 23 9 ∧ μ 23 9 ≤ 1000 := hT 23 23 (A_23 hw) 9
  refine loopF.m5 (fun e f l an i m1 => 0 ≤ i ∧ (0 ≤ e ∧ e ≤ 1) ∧ wzF μ m1 ∧ (an = 0 → ntP m1) ∧ ∃ (m' : Int) (W : Wst), CG m1 15 r m' 1 0 (ouW u W) ∧ (m1 23 18 = 0 → μ 23 18 = 0 ∧ nmW m1 W m' ∧ μ 23 9 ≤ m1 23 9 ∧ ∃ v, wL W = v :: rest ∧ (¬ an = 0 → v.2 = pcE ∧ pcV e f l v.1 ∧ μ 23 9 + i ≤ m1 23 9) ∧ (an = 0 → pcV e f l (pcOr v.1 v.2)))) ⟨by omega, by decide, wzF.refl, fun q => absurd q (by decide), m, oW u, h, fun g => ⟨g, (hg g).1, by omega, lv0, (hg g).2, fun _ => ⟨rfl, pcV.zero, by omega⟩, fun q => absurd q (by decide)⟩⟩ (by omega) ?_
  rintro rc e f l an i m1 ⟨i0, re, F1, hnt, m', W, c1, hg1⟩ ih e' f' l' an' i' m1' eq _ _ _ _ ri hT1 _
  cases eq
  have s9 : 0 ≤ m1 23 9 ∧ m1 23 9 ≤ 1000 := hT1 23 23 (A_23 hw) 9
  have out : ntP m1 → (m1 23 18 = 0 → an = 0) → ∀ (m2 m3 m4 : mM), mU m1 23 15 e m2 → mU m2 23 16 f m3 → mU m3 23 17 l m4 → Q m4 := by
    intro hn ha m2 m3 m4 u2 u3 u4
    obtain rfl := u2.is
    obtain rfl := u3.is
    obtain rfl := u4.is
    have fr : wzF m1 (mUp (mUp (mUp m1 23 15 e) 23 16 f) 23 17 l) := fun b j q q2 q3 => by
      rw [mUp.no (by omega), mUp.no (by omega), mUp.no (by omega)]
    have sm : smK m1 (mUp (mUp (mUp m1 23 15 e) 23 16 f) 23 17 l) := ⟨by rw [mUp.no (by omega), mUp.no (by omega), mUp.no (by omega)], by rw [mUp.no (by omega), mUp.no (by omega), mUp.no (by omega)], by rw [mUp.no (by omega), mUp.no (by omega), mUp.no (by omega)]⟩
    refine k _ m' W (c1.same fr.tb sm) (F1.trans fr) (hn.fr fr.tb sm) fun g => ?_
    have g1 : m1 23 18 = 0 := sm.2.1.symm.trans g
    obtain ⟨y1, y2, y3, v, hv, _, y5⟩ := hg1 g1
    refine ⟨y1, y2.of ?_ (fun j => ?_) (fun j => ?_), ?_, v, hv, ?_⟩
    · rw [mUp.no (by omega), mUp.no (by omega), mUp.no (by omega)]
    · rw [mUp.no (by omega), mUp.no (by omega), mUp.no (by omega)]
    · rw [mUp.no (by omega), mUp.no (by omega), mUp.no (by omega)]
    · rw [sm.1]; exact y3
    · unfold pcW
      rw [mUp.no (by omega), mUp.no (by omega), mUp.yes ⟨rfl, rfl⟩, mUp.no (by omega), mUp.yes ⟨rfl, rfl⟩, mUp.yes ⟨rfl, rfl⟩]
      exact y5 (ha g1)
  refine ⟨fun c m2 u2 _ m3 u3 _ m4 u4 _ => ?_, fun c => ⟨fun c2 m2 u2 _ m3 u3 _ m4 u4 _ => out (hnt c2) (fun _ => c2) m2 m3 m4 u2 u3 u4, fun c2 => ?_⟩⟩
  · by_cases ha : an = 0
    · exact out (hnt ha) (fun _ => ha) m2 m3 m4 u2 u3 u4
    · have nb : ¬ m1 23 18 = 0 := fun g => by
        obtain ⟨_, _, _, v, _, y4, _⟩ := hg1 g
        have := (y4 ha).2.2
        omega
      exact out (ntP.e (c1.1.cTe nb)) (fun g => absurd g nb) m2 m3 m4 u2 u3 u4
  have J3 : ∀ (e1 f1 l1 : Int) (m2 : mM) (m2' : Int) (W2 : Wst), (0 ≤ e1 ∧ e1 ≤ 1) → wzF μ m2 → (¬ cT m2 = -2 ∧ ¬ cT m2 = 7 ∧ ¬ cT m2 = 1040) → CG m2 15 r m2' 1 0 (ouW u W2) → (m2 23 18 = 0 → μ 23 18 = 0 ∧ nmW m2 W2 m2' ∧ μ 23 9 + i ≤ m2 23 9 ∧ ∃ v, wL W2 = v :: rest ∧ pcV e f l v.1 ∧ pcV e1 f1 l1 v.2) → WJ_X6_readBranches_Wx1_3 w rc e f l i e1 f1 l1 m2 := by
    intro e1 f1 l1 m2 m2' W2 re1 F2 nb c2 hg2
    have J4 : ∀ z : Int, (z = 1 ↔ (¬ e = 0 ∨ ¬ e1 = 0)) → WJ_X6_readBranches_Wx1_4 w rc f l i f1 l1 m2 z := by
      intro z hz rz f2 ef2 l2 el2
      refine X6_take_s fun y m3 tk f3 hT3 _ ry => ?_
      refine ih _ _ _ _ _ _ ⟨by omega, rz, F2.trans f3.wy, fun y0 => (ntT nb tk f3.tb).resolve_left (by omega), ?_⟩ (by omega)
      rcases tk with ⟨t1, t2, t3⟩ | ⟨t1, t2, t3⟩
      · have nt : ¬ cT m2 = -1 := by omega
        have lt : m2 23 9 < m2 23 8 := CSt.lt c2.1 nt
        obtain ⟨s1, s2, s3⟩ := t3 lt
        have g2 : m2 23 18 = 0 := Classical.byContradiction fun hf => nt (c2.1.cTe hf)
        obtain ⟨y1, y2, y3, v, hv, y4, y5⟩ := hg2 g2
        have eB := wtBar.eq hv
        refine ⟨m2', wtBar W2, CG.mv c2 (c2.1.bar f3.tb t3 t2) f3.tb t3 t2 (by decide) (by decide) (fun p f q => rfl) rfl, fun _ => ⟨y1, ?_, by omega, (pcOr v.1 v.2, pcE), by rw [eB], fun _ => ⟨rfl, pcOr.V y4 y5 ef2 el2 hz re re1, by omega⟩, fun q => absurd q (by omega)⟩⟩
        rw [eB]
        exact f3.nm y2
      · refine ⟨m2', W2, c2.same f3.tb t3, fun g => ?_⟩
        obtain ⟨y1, y2, y3, v, hv, y4, y5⟩ := hg2 (t3.2.1.symm.trans g)
        exact ⟨y1, f3.nm y2, by rw [t3.1]; omega, v, hv, fun q => absurd t1 q, fun _ => pcOr.V y4 y5 ef2 el2 hz re re1⟩
    exact ⟨fun q => J4 1 ⟨fun _ => Or.inl q, fun _ => rfl⟩, fun q => ⟨fun q2 => J4 0 ⟨fun y => absurd y (by decide), fun y => by omega⟩, fun q2 => J4 1 ⟨fun _ => Or.inr q2, fun _ => rfl⟩⟩⟩
  refine loopF.m4 (fun e1 f1 l1 kk m2 => 0 ≤ kk ∧ (0 ≤ e1 ∧ e1 ≤ 1) ∧ wzF μ m2 ∧ ∃ (m2' : Int) (W2 : Wst), CG m2 15 r m2' 1 0 (ouW u W2) ∧ (m2 23 18 = 0 → μ 23 18 = 0 ∧ nmW m2 W2 m2' ∧ μ 23 9 + i ≤ m2 23 9 ∧ μ 23 9 + kk ≤ m2 23 9 ∧ ∃ v, wL W2 = v :: rest ∧ pcV e f l v.1 ∧ pcV e1 f1 l1 v.2)) ⟨by omega, by decide, F1, m', W, c1, fun g => ?_⟩ (by omega) ?_
  · obtain ⟨y1, y2, y3, v, hv, y4, _⟩ := hg1 g
    obtain ⟨x1, x2, x3⟩ := y4 c2
    exact ⟨y1, y2, x3, by omega, v, hv, x2, by rw [x1]; exact pcV.one⟩
  rintro rc2 e1 f1 l1 kk m2 ⟨k0, re1, F2, m2', W2, c2', hg2⟩ ih2 _ _ _ _ _ eq _ _ _ rk hT2 _
  cases eq
  have s29 : 0 ≤ m2 23 9 ∧ m2 23 9 ≤ 1000 := hT2 23 23 (A_23 hw) 9
  have J5 : ∀ (m3 : mM) (m3' : Int) (W3 : Wst), CG m3 16 r m3' 1 0 (ouW u W3) → wzF m2 m3 → (m3 23 18 = 0 → m2 23 18 = 0 ∧ nmW m3 W3 m3' ∧ pcW m3 (wP W3) ∧ m2 23 9 < m3 23 9 ∧ wL W3 = wL W2) → WJ_X6_readBranches_Wx1_5 w rc2 e1 f1 l1 kk m2 m3 := by
    intro m3 m3' W3 c3 f3 hg3 hT3 hF3
    refine X6_readRepeat_s c3 (fun g => ⟨(hg3 g).2.1, (hg3 g).2.2.1⟩) fun m4 W4 c4 f4 hg4 hT4 _ z16 e16 r16 => X6_join_s fun m5 hj fj hT5 _ => ?_
    have f5 : wzF m4 m5 := fun b j q q2 q3 => fj b j q3
    have F5 : wzF μ m5 := F2.trans (f3.trans (f4.trans f5))
    have sm5 : smK m4 m5 := ⟨fj 23 9 (by decide), fj 23 18 (by decide), fj 23 19 (by decide)⟩
    have c5 : CG m5 15 r m3' 1 0 (ouW u (wtJoin W4)) := CG.same c4 f5.tb sm5
    have fin : ∀ (e2 f2 l2 pe pl : Int), m5 23 15 = pe → (0 ≤ pe ∧ pe ≤ 1) → m5 23 17 = pl → ((e1 = 0 ∧ f2 = f1) ∨ (¬ e1 = 0 ∧ lOr f1 z16 = f2)) → ((pe = 0 ∧ l2 = pl) ∨ (¬ pe = 0 ∧ lOr l1 pl = l2)) → (e2 = 1 ↔ (¬ e1 = 0 ∧ ¬ pe = 0)) → (0 ≤ e2 ∧ e2 ≤ 1) → rc2 (e2, f2, l2, kk + 1, m5) := by
      intro e2 f2 l2 pe pl epe rpe epl h1 h2 h3 re2
      refine ih2 _ _ _ _ _ ⟨by omega, re2, F5, m3', wtJoin W4, c5, fun g => ?_⟩ (by omega)
      have g4 : m4 23 18 = 0 := sm5.2.1.symm.trans g
      obtain ⟨a1, a2, a3, a4, a5⟩ := hg4 g4
      obtain ⟨b1, b2, b3, b4, b5⟩ := hg3 a1
      obtain ⟨d1, d2, d3, d4, v, hv, d5, d6⟩ := hg2 b1
      have hv4 : W4.2.2.1 = v :: rest := (a5.trans b5).trans hv
      have eJ := wtJoin.eq hv4
      have s5 := sm5.1
      refine ⟨d1, ?_, by omega, by omega, (v.1, pcThen v.2 (wP W4)), by rw [eJ], d5, ?_⟩
      · rw [eJ]
        refine ⟨by rw [fj 23 12 (by decide)]; exact a2.1, fun j hj' => ?_⟩
        rw [fj 28 j (by decide)]
        refine ⟨⟨(a2.2 j hj').1.1, ?_⟩, (a2.2 j hj').2⟩
        exact hj v.2.2.1 (wP W4).1 W4.2.1 d6.2.1 (by rw [← e16]; exact a3.1) (fun i hi => (a2.2 i (by rw [← a2.1]; exact hi)).1.2) j (by rw [a2.1]; exact hj')
      · exact pcThen.V d6 (P := wP W4) (pe := pe) (pf := z16) (pl := pl) ⟨by rw [← e16]; exact a3.1, by rw [← epl, fj 23 17 (by decide)]; exact a3.2.1, by rw [← epe, fj 23 15 (by decide)]; exact a3.2.2⟩ h1 h2 h3 re1 rpe
    have J6 : ∀ f2 : Int, ((e1 = 0 ∧ f2 = f1) ∨ (¬ e1 = 0 ∧ lOr f1 z16 = f2)) → WJ_X6_readBranches_Wx1_6 rc2 e1 l1 kk m5 f2 := by
      intro f2 hf2 _ pe epe rpe
      have J7 : ∀ l2 pl : Int, m5 23 17 = pl → ((pe = 0 ∧ l2 = pl) ∨ (¬ pe = 0 ∧ lOr l1 pl = l2)) → WJ_X6_readBranches_Wx1_7 rc2 e1 kk m5 f2 pe l2 := by
        intro l2 pl epl hl2 _
        exact ⟨fun q => fin 0 f2 l2 pe pl epe rpe epl hf2 hl2 ⟨fun y => absurd y (by decide), fun y => absurd q y.1⟩ (by decide), fun q => ⟨fun q2 => fin 0 f2 l2 pe pl epe rpe epl hf2 hl2 ⟨fun y => absurd y (by decide), fun y => absurd q2 y.2⟩ (by decide), fun q2 => fin 1 f2 l2 pe pl epe rpe epl hf2 hl2 ⟨fun _ => ⟨q, q2⟩, fun _ => rfl⟩ (by decide)⟩⟩
      exact ⟨fun q pl epl _ => J7 pl pl epl (Or.inl ⟨q, rfl⟩), fun q pl epl _ o eo => J7 o pl epl (Or.inr ⟨q, eo⟩)⟩
    exact ⟨fun q => J6 f1 (Or.inl ⟨q, rfl⟩), fun q o eo => J6 o (Or.inr ⟨q, eo⟩)⟩
  refine ⟨fun c => ?_, fun c a ea ra t et rt => X6_beginsPiece_s fun b hb rb => ⟨fun c3 => ?_, fun c3 => ⟨fun c4 => ?_, fun c4 => ?_⟩⟩⟩
  · have nb : ¬ m2 23 18 = 0 := fun g => by
      obtain ⟨_, _, _, y4, _⟩ := hg2 g
      omega
    have ct := c2'.1.cTe nb
    exact J3 e1 f1 l1 m2 m2' W2 re1 F2 (by omega) c2' (fun g => absurd g nb)
  · have ct : cT m2 = t := cT.is ea et
    have nq : ¬ (t = -2 ∨ t = 7 ∨ t = 1040) := fun q => by
      have := hb.mpr q
      omega
    exact J3 e1 f1 l1 m2 m2' W2 re1 F2 (by omega) c2' fun g => by
      obtain ⟨y1, y2, y3, _, y5⟩ := hg2 g
      exact ⟨y1, y2, y3, y5⟩
  · have ct : cT m2 = t := cT.is ea et
    have yq : t = -2 ∨ t = 7 ∨ t = 1040 := hb.mp (by omega)
    exact X6_readPlace_s c2' (hendOf hend F2.tb) (by omega) (fun g => (hg2 g).2.1) fun m3 m3' W3 c3' f3 hg3 _ _ => J5 m3 m3' W3 c3' f3 hg3
  · have ct : cT m2 = t := cT.is ea et
    exact X6_readGroup_s1 (rest := wL W2) hw c2' (hendOf hend F2.tb) (by omega) (fun g => ⟨(hg2 g).2.1, rfl⟩) fun m3 m3' W3 c3' f3 hg3 _ _ => J5 m3 m3' W3 c3' f3 hg3
