section
/-! The reference's reader by its weakest preconditions: small calls, and what they are to the machine. -/
theorem mSh0.R : ∀ b : Fin 86, mSh0 (b.val + 106) = b.val + 106 := by decide +kernel
theorem elemF {x : Nat} {l : List Nat} (h : ¬ x ∈ l) : l.elem x = false := Bool.eq_false_iff.mpr fun q => h (List.elem_iff.mp q)
/-- tokens are read: nothing else changes -/
def frK (μ m : mM) : Prop := ∀ b i, 106 ≤ b → b < 192 → ¬ (b = 106 ∧ 33 ≤ i ∧ i ≤ 38) → m b i = μ b i
theorem frK.refl {μ : mM} : frK μ μ := fun _ _ _ _ _ => rfl
theorem frK.trans {μ m n : mM} (h : frK μ m) (k : frK m n) : frK μ n := fun b i q1 q2 q3 => (k b i q1 q2 q3).trans (h b i q1 q2 q3)
theorem mF.tok {w : mW} {μ m : mM} (hw : mWF w) (F : mF [106033, 106034, 106035, 106036, 106037, 106038] w μ m) : frK μ m := fun b i q1 q2 q3 => by
  refine F b i (elemF ?_)
  have hs : mSh0 b = b := by
    have h := mSh0.R ⟨b - 106, by omega⟩
    have e : b - 106 + 106 = b := by omega
    rw [show (⟨b - 106, by omega⟩ : Fin 86).val + 106 = b from e] at h
    exact h
  unfold mRg
  rw [hw.1 b q2, hs]
  simp only [List.mem_cons, List.not_mem_nil, or_false]
  split <;> omega
theorem bR.cg {μ m : mM} (e1 : m 106 1 = μ 106 1) (e2 : ∀ k, m 107 k = μ 107 k) : bR m = bR μ := by
  funext k
  unfold bR byteF
  rw [e1, e2]
theorem frK.tb {μ m : mM} (h : frK μ m) : tbR μ m := ⟨bR.cg (h _ _ (by omega) (by omega) (by omega)) (fun k => h _ _ (by omega) (by omega) (by omega)), h _ _ (by omega) (by omega) (by omega)⟩
/-- what reading writes -/
def rrF (μ m : mM) : Prop := ∀ b i, 106 ≤ b → b < 192 → ¬ (b = 106 ∧ ((33 ≤ i ∧ i ≤ 38) ∨ i = 59)) → ¬ (127 ≤ b ∧ b ≤ 150) → m b i = μ b i
theorem rrF.refl {μ : mM} : rrF μ μ := fun _ _ _ _ _ _ => rfl
theorem rrF.trans {μ m n : mM} (h : rrF μ m) (k : rrF m n) : rrF μ n := fun b i q1 q2 q3 q4 => (k b i q1 q2 q3 q4).trans (h b i q1 q2 q3 q4)
theorem frK.rr {μ m : mM} (h : frK μ m) : rrF μ m := fun b i q1 q2 q3 _ => h b i q1 q2 (by omega)
theorem rrF.tb {μ m : mM} (h : rrF μ m) : tbR μ m := ⟨bR.cg (h _ _ (by omega) (by omega) (by omega) (by omega)) (fun k => h _ _ (by omega) (by omega) (by omega) (by omega)), h _ _ (by omega) (by omega) (by omega) (by omega)⟩
/-- only rows of the draft changed, no token -/
def roF (μ m : mM) : Prop := ∀ b i, ¬ (127 ≤ b ∧ b ≤ 150) → ¬ (b = 106 ∧ i = 59) → m b i = μ b i
theorem roF.rr {μ m : mM} (h : roF μ m) : rrF μ m := fun b i _ _ q3 q4 => h b i q4 (by omega)
theorem roF.ts {μ m : mM} (h : roF μ m) : tsK μ m := ⟨h _ _ (by omega) (by omega), h _ _ (by omega) (by omega), h _ _ (by omega) (by omega), h _ _ (by omega) (by omega), h _ _ (by omega) (by omega), h _ _ (by omega) (by omega)⟩
theorem roF.tb {μ m : mM} (h : roF μ m) : tbR μ m := h.rr.tb
theorem roF.refl {μ : mM} : roF μ μ := fun _ _ _ _ => rfl
theorem roF.trans {μ m n : mM} (h : roF μ m) (k : roF m n) : roF μ n := fun b i q1 q2 => (k b i q1 q2).trans (h b i q1 q2)
section SmallR
variable {w : mW} {μ : mM}
theorem X12_wrong_s {kk : Int} {Q : mM → Prop} (k : ∀ m : mM, wrK μ m kk → (∀ b i, ¬ (b = 106 ∧ (i = 37 ∨ i = 38)) → m b i = μ b i) → Q m) : WP_X12_wrong_Wx w μ kk Q := by
  intro c ec rc
  refine ⟨fun q => k μ (Or.inl ⟨by rw [ec]; exact q, rfl, rfl⟩) (fun _ _ _ => rfl), fun q m1 u1 _ f ef rf m2 u2 _ => ?_⟩
  obtain rfl := u1.is
  obtain rfl := u2.is
  rw [mUp.no (by omega)] at ef
  refine k _ (Or.inr ⟨ec.trans q, ?_, ?_⟩) (fun b i h => ?_)
  · rw [mUp.no (by omega), mUp.yes ⟨rfl, rfl⟩]
  · rw [mUp.yes ⟨rfl, rfl⟩, ef]
  · rw [mUp.no (by omega), mUp.no (by omega)]
theorem X12_isSign_s {c : Int} {Q : Int → mM → Prop} (k : ∀ z : Int, (z = 1 ↔ (μ 106 37 = 0 ∧ μ 106 35 = 3 ∧ μ 106 36 = c)) → Q z μ) : WP_X12_isSign_W w μ c Q := by
  intro a ea _ b eb _ n en _
  exact ⟨fun q => k 0 ⟨fun y => absurd y (by decide), fun y => by omega⟩, fun q => ⟨fun q2 => k 0 ⟨fun y => absurd y (by decide), fun y => by omega⟩, fun q2 => ⟨fun q3 => k 0 ⟨fun y => absurd y (by decide), fun y => by omega⟩, fun q3 => k 1 ⟨fun _ => by omega, fun _ => rfl⟩⟩⟩⟩
theorem X12_isWord_s {c : Int} {Q : Int → mM → Prop} (k : ∀ z : Int, (z = 1 ↔ (μ 106 37 = 0 ∧ μ 106 35 = 1 ∧ μ 106 36 = c)) → Q z μ) : WP_X12_isWord_W w μ c Q := by
  intro a ea _ b eb _ n en _
  exact ⟨fun q => k 0 ⟨fun y => absurd y (by decide), fun y => by omega⟩, fun q => ⟨fun q2 => k 0 ⟨fun y => absurd y (by decide), fun y => by omega⟩, fun q2 => ⟨fun q3 => k 0 ⟨fun y => absurd y (by decide), fun y => by omega⟩, fun q3 => k 1 ⟨fun _ => by omega, fun _ => rfl⟩⟩⟩⟩
theorem X12_in_r {v a b : Int} {Q : Int → mM → Prop} (k : ∀ z : Int, (z = 1 ↔ (a ≤ v ∧ v ≤ b)) → Q z μ) : WP_X12_in_W w μ v a b Q :=
  ⟨fun q => k 0 ⟨fun y => absurd y (by decide), fun y => by omega⟩, fun q => ⟨fun q2 => k 0 ⟨fun y => absurd y (by decide), fun y => by omega⟩, fun q2 => k 1 ⟨fun _ => ⟨q, q2⟩, fun _ => rfl⟩⟩⟩
theorem X12_sign_s {c : Int} {Q : mM → Prop} (hw : mWF w) (k : ∀ m : mM, mT w m → sgK μ m c → frK μ m → Q m) : WP_X12_sign_Wx w μ c Q := by
  intro z1 e1 r1 z4 e4 r4 z7 e7 r7
  refine X12_isSign_s fun z hz rz => ⟨fun q => ?_, fun q => X12_wrong_s fun m1 wk f1 hT1 _ => ?_⟩
  · intros
    rename_i m F hT _ _ _ _ _ _ _ _ _ _ n
    exact k m hT (Or.inl ⟨(hz.mp (by omega)).2, n⟩) (mF.tok hw F)
  · intros
    rename_i m F hT _ _ _ _ _ _ _ _ _ _ n
    have g1 : frK μ m1 := fun b i _ _ h => f1 b i (by omega)
    exact k m hT (Or.inr ⟨fun y => by have := hz.mpr y; omega, wk.nx (by decide) n⟩) (g1.trans (mF.tok hw F))
theorem X12_within_s {a b : Int} {Q : Int → mM → Prop} (hw : mWF w) (k : ∀ (z : Int) (m : mM), mT w m → wiK μ m a b z → frK μ m → Q z m) : WP_X12_within_Wx w μ a b Q := by
  have J : ∀ m1 : mM, frK μ m1 → m1 106 36 = μ 106 36 → (∀ (z : Int) (m : mM), z = μ 106 36 → nxR m1 m → wiK μ m a b z) → WJ_X12_within_Wx_1 w μ Q m1 := by
    intro m1 f1 e1 hk _ _ z ez rz
    intros
    rename_i m F hT _ _ _ _ _ _ _ _ _ _ n
    exact k z m hT (hk z m (ez.symm.trans e1) n) (f1.trans (mF.tok hw F))
  intro t et rt
  refine ⟨fun q v ev rv => X12_in_r fun z hz rz => ⟨fun q2 => ?_, fun q2 => X12_wrong_s fun m1 wk f1 _ _ => ?_⟩, fun q => X12_wrong_s fun m1 wk f1 _ _ => ?_⟩
  · refine J μ frK.refl rfl fun z m e n => Or.inl ⟨et.trans q, ?_, e, n⟩
    have := hz.mp (by omega)
    omega
  · refine J m1 (fun b i _ _ h => f1 b i (by omega)) (f1 _ _ (by omega)) fun z m e n => Or.inr (Or.inr ⟨et.trans q, ?_, wk.nx (by decide) n⟩)
    have h : ¬ (a ≤ v ∧ v ≤ b) := fun y => by
      have := hz.mpr y
      omega
    omega
  · exact J m1 (fun b i _ _ h => f1 b i (by omega)) (f1 _ _ (by omega)) fun z m e n => Or.inr (Or.inl ⟨by rw [et]; exact q, wk.nx (by decide) n⟩)
end SmallR
/-! Where the reader stands, with what it laid down. -/
def RG (μ : mM) (s r m x y : Int) (u : Out) : Prop := RSc μ (fun p => (s, p, r, m, x, y)) ∧ RSo μ (fun p => (s, p, r, m, x, y)) u
theorem wrK.no {μ μ1 : mM} {k : Int} (n : wrK μ μ1 k) (hk : ¬ k = 0) : ¬ μ1 106 37 = 0 := by
  rcases n with ⟨a, b, _⟩ | ⟨_, b, _⟩
  · rw [b]; exact a
  · rw [b]; exact hk
theorem nxR.nb {μ μ1 : mM} (n : nxR μ μ1) (hf : ¬ μ 106 37 = 0) : ¬ μ1 106 37 = 0 := by
  rcases n with ⟨n1, n2, _⟩ | ⟨n1, _⟩
  · rw [n2]; exact n1
  · exact absurd n1 hf
theorem nxR.go {μ μ1 : mM} (n : nxR μ μ1) (g : μ1 106 37 = 0) : μ 106 37 = 0 := Classical.byContradiction fun h => n.nb h g
section RGs
variable {μ μ1 : mM} {s r m x y s' r' m' x' y' z a b : Int} {u u' : Out}
theorem RG.same (h : RG μ s r m x y u) (tb : tbR μ μ1) (ts : tsK μ μ1) : RG μ1 s r m x y u := ⟨RSc.same h.1 tb ts, RSo.same h.2 tb ts⟩
theorem RG.bad (h : RG μ s r m x y u) (hf : ¬ μ 106 37 = 0) : RG μ s' r' m' x' y' u' := ⟨h.1.bad hf, RSo.vac hf⟩
theorem RG.ou (h : RG μ s r m x y u) (e : u = u') : RG μ s r m x y u' := by rw [← e]; exact h
theorem RG.wr {k : Int} (hcc : RSc μ1 (fun p => (s', p, r', m', x', y'))) (n : wrK μ μ1 k) (hk : ¬ k = 0) : RG μ1 s' r' m' x' y' u' := ⟨hcc, RSo.wrong n hk⟩
theorem RG.nx (h : RG μ s r m x y u) (hcc : RSc μ1 (fun p => (s', p, r', m', x', y'))) (tb : tbR μ μ1) (n : nxR μ μ1) (hs : ¬ s = -1) (hE : ∀ p t v f q, tyM μ t v → ¬ t = -3 → nxC mskF (μ 106 39) (s, p, r, m, x, y) t v f q = (s', q, r', m', x', y')) (hu : ∀ t v, tyM μ t v → ¬ t = -3 → nxO s m x u t v = u') : RG μ1 s' r' m' x' y' u' := ⟨hcc, h.2.next tb n hs hE hu⟩
/-- behind a fault `next` does nothing -/
theorem RG.nb (h : RG μ s r m x y u) (tb : tbR μ μ1) (n : nxR μ μ1) (hf : ¬ μ 106 37 = 0) : RG μ1 s' r' m' x' y' u' := by
  exact ⟨h.1.nxB tb n hf, RSo.vac (n.nb hf)⟩
/-- a word is taken -/
theorem RG.wd {t : Int} (h : RG μ s r m x y u) (tb : tbR μ μ1) (ht : μ 106 35 = 1 ∧ μ 106 36 = t) (h0 : 0 ≤ t ∧ t < 1000) (n : nxR μ μ1) (hs : 0 ≤ s ∧ s ≤ 16 ∧ (s = 3 → 0 ≤ x)) (hs' : 0 ≤ s' ∧ s' ≤ 16 ∧ (s' = 3 → 0 ≤ x')) (hE : ∀ p v f q, nxC mskF (μ 106 39) (s, p, r, m, x, y) t v f q = (s', q, r', m', x', y')) (hu : ∀ v, nxO s m x u t v = u') : RG μ1 s' r' m' x' y' u' := by
  refine RG.nx h (h.1.wdT tb ht h0 n (okE.of ⟨hs.1, hs.2.1⟩ hs.2.2) (okE.of ⟨hs'.1, hs'.2.1⟩ hs'.2.2) hE) tb n (by omega) (fun p t' v f q ty _ => ?_) (fun t' v ty _ => ?_)
  · rw [(ty.word t h0).mpr ht]; exact hE p v f q
  · rw [(ty.word t h0).mpr ht]; exact hu v
/-- a sign is taken -/
theorem RG.sg {c : Int} (h : RG μ s r m x y u) (tb : tbR μ μ1) (ht : μ 106 35 = 3 ∧ μ 106 36 = c) (h0 : 0 ≤ c) (n : nxR μ μ1) (hs : 0 ≤ s ∧ s ≤ 16 ∧ (s = 3 → 0 ≤ x)) (hs' : 0 ≤ s' ∧ s' ≤ 16 ∧ (s' = 3 → 0 ≤ x')) (hE : ∀ p v f q, nxC mskF (μ 106 39) (s, p, r, m, x, y) (1000 + c) v f q = (s', q, r', m', x', y')) (hu : ∀ v, nxO s m x u (1000 + c) v = u') : RG μ1 s' r' m' x' y' u' := by
  refine RG.nx h (h.1.sgT tb ht h0 n (okE.of ⟨hs.1, hs.2.1⟩ hs.2.2) (okE.of ⟨hs'.1, hs'.2.1⟩ hs'.2.2) hE) tb n (by omega) (fun p t' v f q ty _ => ?_) (fun t' v ty _ => ?_)
  · rw [(ty.sg c (1000 + c) h0 rfl).mpr ht]; exact hE p v f q
  · rw [(ty.sg c (1000 + c) h0 rfl).mpr ht]; exact hu v
theorem RG.num2 (h : RG μ 2 r m a b u) (f : frK μ μ1) (n : wiK μ μ1 a b z) : RG μ1 5 r m 0 0 (ouNum u z) := by
  refine ⟨h.1.num (Or.inl ⟨rfl, rfl⟩) f.tb n, ?_⟩
  rcases n with ⟨k1, k2, k3, k4⟩ | ⟨_, k⟩ | ⟨_, _, k⟩
  · refine h.2.next f.tb k4 (by decide) (fun p t v f q ty _ => ?_) (fun t v ty _ => ?_)
    · have e1 : t = -2 := ty.num.1.mpr k1
      have e2 : v = μ 106 36 := ty.num.2 e1
      subst e1
      show nNum 5 r m a b (-2) v f q = _
      unfold nNum
      rw [if_neg (by decide), if_neg (by omega)]
    · have e1 : t = -2 := ty.num.1.mpr k1
      have e2 : v = μ 106 36 := ty.num.2 e1
      rw [e2, ← k3]
      rfl
  · exact RSo.wrong k (by decide)
  · exact RSo.wrong k (by decide)
theorem RG.num7 (h : RG μ 7 r m a b u) (f : frK μ μ1) (n : wiK μ μ1 a b z) : RG μ1 8 r m 0 0 (ouAct u (u.2.2.2.1.2.1, z)) := by
  refine ⟨h.1.num (Or.inr ⟨rfl, rfl⟩) f.tb n, ?_⟩
  rcases n with ⟨k1, k2, k3, k4⟩ | ⟨_, k⟩ | ⟨_, _, k⟩
  · refine h.2.next f.tb k4 (by decide) (fun p t v f q ty _ => ?_) (fun t v ty _ => ?_)
    · have e1 : t = -2 := ty.num.1.mpr k1
      have e2 : v = μ 106 36 := ty.num.2 e1
      subst e1
      show nNum 8 r m a b (-2) v f q = _
      unfold nNum
      rw [if_neg (by decide), if_neg (by omega)]
    · have e1 : t = -2 := ty.num.1.mpr k1
      have e2 : v = μ 106 36 := ty.num.2 e1
      rw [e2, ← k3]
      rfl
  · exact RSo.wrong k (by decide)
  · exact RSo.wrong k (by decide)
theorem RG.h9 {c d : Int} (h : RG μ 9 r m x y u) (f : frK μ μ1) (n : wiK μ μ1 0 255 z) (e1 : bShl y 8 = c) (e2 : bOr c z = d) : (x = 3 → RG μ1 11 r m d 0 u) ∧ (¬ x = 3 → RG μ1 10 r m x d u) := by
  have cs := h.1.h9b f.tb n e1 e2
  refine ⟨fun q => ⟨cs.h11 q, ?_⟩, fun q => ⟨cs.h10 q, ?_⟩⟩
  · rcases n with ⟨k1, k2, k3, k4⟩ | ⟨_, k⟩ | ⟨_, _, k⟩
    · refine h.2.next f.tb k4 (by decide) (fun p t v f q' ty _ => ?_) (fun t v ty _ => rfl)
      have g1 : t = -2 := ty.num.1.mpr k1
      have g2 : v = μ 106 36 := ty.num.2 g1
      subst g1
      show n9 r m x y (-2) v f q' = _
      unfold n9
      rw [if_neg (by decide), if_neg (by omega), if_pos q, e1, g2, ← k3, e2]
    · exact RSo.wrong k (by decide)
    · exact RSo.wrong k (by decide)
  · rcases n with ⟨k1, k2, k3, k4⟩ | ⟨_, k⟩ | ⟨_, _, k⟩
    · refine h.2.next f.tb k4 (by decide) (fun p t v f q' ty _ => ?_) (fun t v ty _ => rfl)
      have g1 : t = -2 := ty.num.1.mpr k1
      have g2 : v = μ 106 36 := ty.num.2 g1
      subst g1
      show n9 r m x y (-2) v f q' = _
      unfold n9
      rw [if_neg (by decide), if_neg (by omega), if_neg q, e1, g2, ← k3, e2]
    · exact RSo.wrong k (by decide)
    · exact RSo.wrong k (by decide)
theorem RG.len (h : RG μ 12 r m x y u) (f : frK μ μ1) (n : wiK μ μ1 0 32 z) (hm : μ 106 37 = 0 → μ 106 35 = 2 → 0 ≤ μ 106 36 ∧ μ 106 36 ≤ 32 → bAnd x (bXor (mskF (μ 106 36)) (-1)) = 0) : RG μ1 13 r m z 0 (ouAB u x z) := by
  refine ⟨h.1.len f.tb n hm, ?_⟩
  rcases n with ⟨k1, k2, k3, k4⟩ | ⟨_, k⟩ | ⟨_, _, k⟩
  · by_cases g : μ 106 37 = 0
    · refine h.2.next f.tb k4 (by decide) (fun p t v f q ty _ => ?_) (fun t v ty _ => ?_)
      · have g1 : t = -2 := ty.num.1.mpr k1
        have g2 : v = μ 106 36 := ty.num.2 g1
        subst g1
        show n12 mskF r m x (-2) v f q = _
        unfold n12
        rw [if_neg (fun q => q.2.2.2 (by rw [g2]; exact hm g k1 k2)), if_neg (by decide), if_neg (by omega), g2, ← k3]
      · have g1 : t = -2 := ty.num.1.mpr k1
        have g2 : v = μ 106 36 := ty.num.2 g1
        rw [g2, ← k3]
        rfl
    · exact RSo.vac (k4.nb g)
  · exact RSo.wrong k (by decide)
  · exact RSo.wrong k (by decide)
end RGs
end
section
/-! The reference's reader: places and levels of a way. -/
def nmD (μ : mM) (d : Nat) (W : Wst) (m : Int) : Prop := μ 142 d = m ∧ ∀ k : Nat, (k : Int) < m → μ 143 (41 * d + k) = W.1 k ∧ isS (μ 144 (41 * d + k)) (W.2.1 k)
def lvW (μ : mM) : List Lvl → Prop
  | [] => True
  | v :: s => (pcV (μ 147 s.length) (μ 145 s.length) (μ 146 s.length) v.1 ∧ pcV (μ 150 s.length) (μ 148 s.length) (μ 149 s.length) v.2) ∧ lvW μ s
theorem lvW.cg {μ m : mM} : ∀ {l : List Lvl}, (∀ b i, 145 ≤ b → b ≤ 150 → i < l.length → m b i = μ b i) → lvW μ l → lvW m l
  | [], _, _ => trivial
  | v :: s, f, h => by
    have hl : (v :: s).length = s.length + 1 := rfl
    refine ⟨?_, lvW.cg (fun b i q1 q2 q3 => f b i q1 q2 (by omega)) h.2⟩
    rw [f 147 s.length (by omega) (by omega) (by omega), f 145 s.length (by omega) (by omega) (by omega), f 146 s.length (by omega) (by omega) (by omega), f 150 s.length (by omega) (by omega) (by omega), f 148 s.length (by omega) (by omega) (by omega), f 149 s.length (by omega) (by omega) (by omega)]
    exact h.1
theorem nmD.of {μ m1 : mM} {d : Nat} {W : Wst} {m : Int} (h : nmD μ d W m) (e2 : m1 142 d = μ 142 d) (e3 : ∀ k, m1 143 k = μ 143 k) (e4 : ∀ k, m1 144 k = μ 144 k) : nmD m1 d W m := ⟨e2.trans h.1, fun k hk => by rw [e3, e4]; exact h.2 k hk⟩
/-- the way in hand, by memory -/
def wyG (μ : mM) (d : Nat) (W : Wst) (m : Int) : Prop := nmD μ d W m ∧ lvW μ W.2.2.1 ∧ μ 106 59 = (W.2.2.1.length : Int)
theorem frK.wy {μ m1 : mM} {d : Nat} {W : Wst} {m : Int} (f : frK μ m1) (hd : d ≤ 12) (h : wyG μ d W m) : wyG m1 d W m := ⟨h.1.of (f _ _ (by omega) (by omega) (by omega)) (fun k => f _ _ (by omega) (by omega) (by omega)) (fun k => f _ _ (by omega) (by omega) (by omega)), lvW.cg (fun b i q1 q2 _ => f b i (by omega) (by omega) (by omega)) h.2.1, (f _ _ (by omega) (by omega) (by omega)).trans h.2.2⟩
/-! How far tokens reach. -/
theorem TokX.ge {wr : Int → Int → Int → Prop} {B : Int → Int} {p t v f q : Int} (h : TokX wr B p t v f q) : p ≤ f ∧ f ≤ q ∧ (¬ t = -1 → f + 1 ≤ q) := by
  obtain ⟨h0, h⟩ := h
  refine ⟨h0.1, ?_⟩
  rcases h with ⟨_, a, _, b⟩ | ⟨a, b, _⟩ | ⟨a, b, _⟩ | ⟨_, _, _, b⟩
  · exact ⟨by omega, fun q => absurd a q⟩
  · have := b.pos a
    exact ⟨by omega, fun _ => by omega⟩
  · have := b.pos a
    exact ⟨by omega, fun _ => by omega⟩
  · exact ⟨by omega, fun _ => by omega⟩
theorem lenW.two : ∀ w : Fin 29, 2 ≤ lenW w.val ∧ (w.val = 0 ∨ w.val = 4 ∨ w.val = 5 ∨ 3 ≤ lenW w.val) := by decide +kernel
theorem TokX.wlen {B : Int → Int} {p t v f q : Int} (h : TokX (wrW B) B p t v f q) (h0 : 0 ≤ t ∧ t < 1000) : f + 2 ≤ q ∧ (¬ t = 0 → ¬ t = 4 → ¬ t = 5 → f + 3 ≤ q) := by
  obtain ⟨_, h⟩ := h
  rcases h with ⟨_, a, _, b⟩ | ⟨_, _, a, _⟩ | ⟨_, _, a⟩ | ⟨b, a, _⟩
  · omega
  · rcases a with ⟨w, w1, w2, w3⟩ | ⟨a, _⟩
    · have l := lenW.two ⟨w, w1⟩
      have e := w3.1
      have l1 : 2 ≤ lenW w := l.1
      have l2 : w = 0 ∨ w = 4 ∨ w = 5 ∨ 3 ≤ lenW w := l.2
      exact ⟨by omega, fun _ _ _ => by omega⟩
    · omega
  · rcases a with ⟨_, a, _⟩ | ⟨_, a, _⟩ <;> omega
  · have := b.1
    omega
/-- the next token stands behind -/
theorem nxR.at {μ μ1 : mM} {e : Int → Cfg} {u : Out} (h : RSo μ e u) (n : nxR μ μ1) (g : μ1 106 37 = 0) : μ 106 37 = 0 ∧ μ 106 34 ≤ μ1 106 34 ∧ (¬ μ 106 35 = 0 → μ 106 34 + 1 ≤ μ1 106 34) ∧ (μ 106 35 = 1 → μ 106 34 + 2 ≤ μ1 106 34 ∧ (¬ μ 106 36 = 0 → ¬ μ 106 36 = 4 → ¬ μ 106 36 = 5 → μ 106 34 + 3 ≤ μ1 106 34)) := by
  have g0 := n.go g
  obtain ⟨p, t, v, q, h1, h2, h3, h4, _⟩ := h g0
  rcases n with ⟨n1, _⟩ | ⟨_, t', v', f', q', n2, n3⟩
  · exact absurd g0 n1
  rcases n3 with ⟨_, _, _, x4, _⟩ | ⟨_, x2, _⟩
  · have a1 := h1.ge
    have a2 := n2.ge
    refine ⟨g0, by omega, fun c => ?_, fun c => ?_⟩
    · have : ¬ t = -1 := fun e => c (h3.fin.mp e)
      have := a1.2.2 this
      omega
    · have e : t = μ 106 36 ∧ 0 ≤ t ∧ t < 1000 := by
        unfold tyM at h3
        omega
      have l := h1.wlen e.2
      exact ⟨by omega, fun y1 y2 y3 => by have := l.2 (by omega) (by omega) (by omega); omega⟩
  · omega
section WaysR
variable {w : mW} {μ : mM} {d : Nat}
theorem X12_follows_s {a b : Int} {Q : mM → Prop} (hd : μ 106 58 = (d : Int)) (k : ∀ m : mM, (∀ j : Nat, j < 41 → ∀ (A B F : Bs), isS a A → isS b B → isS (μ 144 (41 * d + j)) F → isS (m 144 (41 * d + j)) (fun i => F i ∨ (A j ∧ B i))) → (∀ c i, ¬ (c = 144 ∧ 41 * d ≤ i ∧ i < 41 * d + 41) → m c i = μ c i) → Q m) : WP_X12_follows_W w μ a b Q := by
  refine loopF.im (fun z m => 0 ≤ z ∧ (∀ c i, ¬ (c = 144 ∧ 41 * d ≤ i ∧ i < 41 * d + 41) → m c i = μ c i) ∧ (∀ j : Nat, z ≤ (j : Int) → m 144 (41 * d + j) = μ 144 (41 * d + j)) ∧ ∀ j : Nat, (j : Int) < z → ∀ (A B F : Bs), isS a A → isS b B → isS (μ 144 (41 * d + j)) F → isS (m 144 (41 * d + j)) (fun i => F i ∨ (A j ∧ B i))) (fun z => (42 - z).toNat) ⟨by omega, fun _ _ _ => rfl, fun _ _ => rfl, fun j hj => absurd hj (by omega)⟩ (by omega) ?_
  rintro rc z m ⟨z0, hf, hu, hd'⟩ ih z' m' e rz _ _
  cases e
  refine ⟨fun c => k m (fun j hj => hd' j (by omega)) hf, fun c b1 e1 b2 e2 b3 e3 => ?_⟩
  have bb := bLg.r (x := a) ⟨z0, by omega⟩ e1 e2
  have rb : -9223372036854775808 ≤ b2 ∧ b2 ≤ 9223372036854775807 := by
    rw [← e2]; exact r64i _
  have cc := lCmp_iff e3 rb (by decide)
  refine ⟨fun c3 => ih _ _ ⟨by omega, hf, fun j hj => hu j (by omega), fun j hj A B F hA hB hF => ?_⟩ (by omega), fun c3 n en rn v ev rv o eo m2 u2 _ => ?_⟩
  · by_cases ej : (j : Int) < z
    · exact hd' j ej A B F hA hB hF
    · have ej2 : j = z.toNat := by omega
      rw [hu j (by omega)]
      refine hF.cg fun i => ⟨fun q => Or.inl q, fun q => ?_⟩
      rcases q with q | q
      · exact q
      · have := (hA j).mpr q.1
        rw [ej2] at this
        exact absurd (cc.mpr (bb.mpr this)) c3
  · obtain rfl := u2.is
    rw [hf 106 58 (by omega), hd] at en
    subst en
    have ea : (41 * (d : Int) + z).toNat = 41 * d + z.toNat := by omega
    rw [ea] at ev ⊢
    refine ih _ _ ⟨by omega, fun c i hc => by rw [mUp.no (by omega)]; exact hf c i hc, fun j hj => by rw [mUp.no (by omega)]; exact hu j (by omega), fun j hj A B F hA hB hF => ?_⟩ (by omega)
    by_cases ej : (j : Int) < z
    · rw [mUp.no (by omega)]
      exact hd' j ej A B F hA hB hF
    · have ej2 : j = z.toNat := by omega
      rw [mUp.yes ⟨rfl, by omega⟩]
      have hv : isS v F := by
        rw [← ev, ← ej2, hu j (by omega)]
        exact hF
      have hz : A j := (hA j).mp (by rw [ej2]; exact bb.mp (cc.mp c3))
      refine (hv.or hB eo).cg fun i => ⟨fun q => ?_, fun q => ?_⟩
      · rcases q with q | q
        · exact Or.inl q
        · exact Or.inr ⟨hz, q⟩
      · rcases q with q | q
        · exact Or.inl q
        · exact Or.inr q.2
theorem nmD.join {m1 : mM} {W : Wst} {m a b : Int} {A B : Bs} (h : nmD μ d W m) (h41 : m ≤ 41) (hj : ∀ j : Nat, j < 41 → ∀ (A B F : Bs), isS a A → isS b B → isS (μ 144 (41 * d + j)) F → isS (m1 144 (41 * d + j)) (fun i => F i ∨ (A j ∧ B i))) (hf : ∀ c i, ¬ (c = 144 ∧ 41 * d ≤ i ∧ i < 41 * d + 41) → m1 c i = μ c i) (hA : isS a A) (hB : isS b B) {L : List Lvl} {P : Pce} : nmD m1 d (W.1, foU W.2.1 A B, L, P) m := ⟨(hf _ _ (by omega)).trans h.1, fun k hk => ⟨(hf _ _ (by omega)).trans (h.2 k hk).1, hj k (by omega) A B (W.2.1 k) hA hB (h.2 k hk).2⟩⟩
/-- a piece behind the row in hand: a sign of repeating, then it is joined -/
theorem X12_piece_s {r m x p1 p2 p3 : Int} {u : Out} {Q : mM → Prop} (hw : mWF w) (hd : μ 106 58 = (d : Int)) (h12 : d ≤ 12) (hl : 1 ≤ μ 106 59) (h : RG μ 16 r m x 0 u) (rp : 0 ≤ p3 ∧ p3 ≤ 1) (hg : μ 106 37 = 0 → wyG μ d (oW u) m ∧ m ≤ 40 ∧ pcV p3 p1 p2 (wP (oW u)) ∧ ¬ wL (oW u) = []) (k : ∀ (m1 : mM) (W : Wst), RG m1 15 r m x 0 (ouW u W) → rrF μ m1 → (∀ b i, ¬ (b = 106 ∧ 33 ≤ i ∧ i ≤ 38) → ¬ ((b = 144 ∧ 41 * d ≤ i ∧ i < 41 * d + 41) ∨ (148 ≤ b ∧ b ≤ 150)) → 106 ≤ b → b < 192 → m1 b i = μ b i) → (m1 106 37 = 0 → μ 106 37 = 0 ∧ μ 106 34 ≤ m1 106 34 ∧ wyG m1 d W m ∧ W.2.2.1.length = (wL (oW u)).length) → Q m1) : WP_X12_piece_Wx w μ p1 p2 p3 Q := by
  have J3 : ∀ (z72 : Int) (m42 m3 : mM) (W : Wst), (0 ≤ z72 ∧ z72 ≤ 1) → m3 106 58 = (d : Int) → 1 ≤ m3 106 59 → RG m3 15 r m x 0 (ouW u (wtJoin W)) → (∀ b i, ¬ (b = 106 ∧ 33 ≤ i ∧ i ≤ 38) → ¬ (b = 144 ∧ 41 * d ≤ i ∧ i < 41 * d + 41) → 106 ≤ b → b < 192 → m3 b i = μ b i) → (m3 106 37 = 0 → μ 106 37 = 0 ∧ μ 106 34 ≤ m3 106 34 ∧ nmD m3 d W m ∧ m ≤ 40 ∧ lvW m3 W.2.2.1 ∧ m3 106 59 = (W.2.2.1.length : Int) ∧ pcV z72 p1 p2 (wP W) ∧ W.2.2.1 = wL (oW u) ∧ ¬ wL (oW u) = []) → WJ_X12_piece_Wx_3 w p1 p2 Q m42 z72 m3 := by
    intro z72 m42 m3 W rz hd3 l3 c3 f3 g3 _ _ lv elv rlv
    refine ⟨by omega, fun _ rl erl _ => X12_follows_s hd3 fun m4 hj fj hT4 _ nn enn rnn => ?_⟩
    have fin : ∀ (m5 : mM) (f2 l2 n2 : Int), (∀ b j, ¬ (b = 148 ∧ j = (lv - 1).toNat) → m5 b j = m4 b j) → m5 148 (lv - 1).toNat = f2 → ((nn = 0 ∧ f2 = m4 148 (lv - 1).toNat) ∨ (¬ nn = 0 ∧ lOr (m4 148 (lv - 1).toNat) p1 = f2)) → ((z72 = 0 ∧ l2 = p2) ∨ (¬ z72 = 0 ∧ lOr rl p2 = l2)) → (n2 = 1 ↔ (¬ nn = 0 ∧ ¬ z72 = 0)) → Q (mUp (mUp m5 149 (lv - 1).toNat l2) 150 (lv - 1).toNat n2) := by
      intro m5 f2 l2 n2 f5 e5 h1 h2 h3
      have fr : ∀ b j, ¬ ((148 ≤ b ∧ b ≤ 150) ∧ j = (lv - 1).toNat) → ¬ (b = 144 ∧ 41 * d ≤ j ∧ j < 41 * d + 41) → mUp (mUp m5 149 (lv - 1).toNat l2) 150 (lv - 1).toNat n2 b j = m3 b j := fun b j q1 q2 => by
        rw [mUp.no (by omega), mUp.no (by omega), f5 b j (by omega), fj b j q2]
      have ro : roF m3 (mUp (mUp m5 149 (lv - 1).toNat l2) 150 (lv - 1).toNat n2) := fun b j q1 q2 => fr b j (by omega) (by omega)
      have sp : ∀ b i, ¬ (b = 106 ∧ 33 ≤ i ∧ i ≤ 38) → ¬ ((b = 144 ∧ 41 * d ≤ i ∧ i < 41 * d + 41) ∨ (148 ≤ b ∧ b ≤ 150)) → 106 ≤ b → b < 192 → mUp (mUp m5 149 (lv - 1).toNat l2) 150 (lv - 1).toNat n2 b i = μ b i := fun b i q1 q2 q3 q4 => (fr b i (by omega) (by omega)).trans (f3 b i q1 (by omega) q3 q4)
      refine k _ (wtJoin W) (c3.same ro.tb ro.ts) (fun b i q1 q2 q3 q4 => sp b i (by omega) (by omega) q1 q2) sp fun g => ?_
      have gm3 : m3 106 37 = 0 := ro.ts.2.2.2.2.1.symm.trans g
      obtain ⟨y1, y2, y3, y4, y5, y6, y7, y8, y9⟩ := g3 gm3
      cases hW : W.2.2.1 with
      | nil => exact absurd (y8.symm.trans hW) y9
      | cons v s =>
        have eJ := wtJoin.eq hW
        rw [hW] at y5 y6
        have hl : (v :: s).length = s.length + 1 := rfl
        have ei : (lv - 1).toNat = s.length := by omega
        have z34 := ro.ts.2.1
        rw [ei] at fr e5 h1 erl enn z34 ⊢
        obtain ⟨⟨q1, q2⟩, q3⟩ := y5
        have e148 : m4 148 s.length = m3 148 s.length := fj _ _ (by omega)
        have e150 : m4 150 s.length = m3 150 s.length := fj _ _ (by omega)
        rw [e148] at h1
        have N := nmD.join (m1 := m4) (A := v.2.2.1) (B := (wP W).1) (L := (v.1, pcThen v.2 (wP W)) :: s) (P := wP W) y3 (by omega) hj fj (by rw [← erl]; exact q2.2.1) y7.1
        refine ⟨y1, by rw [z34]; exact y2, ?_, ?_⟩
        · rw [eJ]
          refine ⟨⟨(fr 142 d (by omega) (by omega)).trans y3.1, fun k hk => ?_⟩, ⟨⟨?_, ?_⟩, ?_⟩, ?_⟩
          · have z := N.2 k hk
            rw [fr 143 (41 * d + k) (by omega) (by omega), ← fj 143 (41 * d + k) (by omega), mUp.no (by omega), mUp.no (by omega), f5 144 (41 * d + k) (by omega)]
            exact z
          · rw [fr 147 s.length (by omega) (by omega), fr 145 s.length (by omega) (by omega), fr 146 s.length (by omega) (by omega)]
            exact q1
          · rw [mUp.yes ⟨rfl, rfl⟩, mUp.no (by omega), mUp.no (by omega), e5, mUp.no (by omega), mUp.yes ⟨rfl, rfl⟩]
            refine pcThen.V (e := nn) (f := m3 148 s.length) (l := rl) ?_ y7 h1 h2 h3 rnn rz
            rw [← enn, e150, ← erl]
            exact q2
          · exact lvW.cg (fun b j z1 z2 z3 => fr b j (by omega) (by omega)) q3
          · rw [fr 106 59 (by omega) (by omega)]
            exact y6
        · rw [eJ, ← y8, hW]
          rfl
    have J5 : ∀ (m5 : mM) (f2 : Int), (∀ b j, ¬ (b = 148 ∧ j = (lv - 1).toNat) → m5 b j = m4 b j) → m5 148 (lv - 1).toNat = f2 → ((nn = 0 ∧ f2 = m4 148 (lv - 1).toNat) ∨ (¬ nn = 0 ∧ lOr (m4 148 (lv - 1).toNat) p1 = f2)) → WJ_X12_piece_Wx_4 w p2 Q z72 lv rl m4 nn m5 := by
      intro m5 f2 f5 e5 h1 _ _
      have J6 : ∀ l2 : Int, ((z72 = 0 ∧ l2 = p2) ∨ (¬ z72 = 0 ∧ lOr rl p2 = l2)) → WJ_X12_piece_Wx_5 w Q z72 lv nn m5 l2 := by
        intro l2 h2 _ m6 u6 _
        obtain rfl := u6.is
        refine ⟨fun q m7 u7 _ => ?_, fun q => ⟨fun q2 m7 u7 _ => ?_, fun q2 m7 u7 _ => ?_⟩⟩
        · obtain rfl := u7.is
          exact fin m5 f2 l2 0 f5 e5 h1 h2 ⟨fun y => absurd y (by decide), fun y => absurd q y.1⟩
        · obtain rfl := u7.is
          exact fin m5 f2 l2 0 f5 e5 h1 h2 ⟨fun y => absurd y (by decide), fun y => absurd q2 y.2⟩
        · obtain rfl := u7.is
          exact fin m5 f2 l2 1 f5 e5 h1 h2 ⟨fun _ => ⟨q, q2⟩, fun _ => rfl⟩
      exact ⟨fun q => J6 p2 (Or.inl ⟨q, rfl⟩), fun q o eo => J6 o (Or.inr ⟨q, eo⟩)⟩
    refine ⟨fun q => J5 m4 _ (fun _ _ _ => rfl) rfl (Or.inl ⟨q, rfl⟩), fun q v ev _ o eo m5 u5 _ => ?_⟩
    obtain rfl := u5.is
    rw [← ev] at eo
    exact J5 _ o (fun b j h => mUp.no (by omega)) (mUp.yes ⟨rfl, rfl⟩) (Or.inr ⟨q, eo⟩)
  intro cc ecc rcc tt ett rtt nu enu rnu
  by_cases hs : μ 106 37 = 0 ∧ μ 106 35 = 3 ∧ (μ 106 36 = 42 ∨ μ 106 36 = 43 ∨ μ 106 36 = 63)
  · obtain ⟨g0, s3, s4⟩ := hs
    obtain ⟨⟨y1, y2, y3⟩, y4, y5, y6⟩ := hg g0
    have main : ∀ (m1 m2 : mM) (z72 : Int), (∀ b i, ¬ (b = 144 ∧ 41 * d ≤ i ∧ i < 41 * d + 41) → m1 b i = μ b i) → nmD m1 d (wtRep (oW u) (1000 + μ 106 36)) m → (0 ≤ z72 ∧ z72 ≤ 1) → (z72 = 1 ↔ (p3 = 1 ∨ μ 106 36 = 42 ∨ μ 106 36 = 63)) → mF [106033, 106034, 106035, 106036, 106037, 106038] w m1 m2 → nxR m1 m2 → WJ_X12_piece_Wx_3 w p1 p2 Q m1 z72 m2 := by
      intro m1 m2 z72 f1 n1 rz hz F2 n2
      have f2 := mF.tok hw F2
      have fr1 : roF μ m1 := fun b i q1 q2 => f1 b i (by omega)
      have c1 : RG m1 16 r m x 0 u := h.same fr1.tb fr1.ts
      have t5 : m1 106 35 = 3 := (f1 _ _ (by omega)).trans s3
      have t6 : m1 106 36 = μ 106 36 := f1 _ _ (by omega)
      have t39 : m1 106 39 = μ 106 39 := f1 _ _ (by omega)
      have c2 : RG m2 15 r m x 0 (ouW u (wtJoin (wtRep (oW u) (1000 + μ 106 36)))) := by
        refine RG.nx c1 (c1.1.rep f2.tb n2 ⟨t5, by rw [t6]; exact s4⟩) f2.tb n2 (by decide) (fun p t v f q ty _ => ?_) (fun t v ty _ => ?_)
        · have e : t = 1000 + μ 106 36 := (ty.sg (μ 106 36) (1000 + μ 106 36) (by omega) rfl).mpr ⟨t5, t6⟩
          show n16 p r m x t q = _
          unfold n16
          rw [if_pos (by omega)]
        · have e : t = 1000 + μ 106 36 := (ty.sg (μ 106 36) (1000 + μ 106 36) (by omega) rfl).mpr ⟨t5, t6⟩
          show (if t = 1042 ∨ t = 1043 ∨ t = 1063 then ouW u (wtJoin (wtRep (oW u) t)) else ouW u (wtJoin (oW u))) = _
          rw [if_pos (by omega), e]
      refine J3 z72 m1 m2 _ rz ((f2 _ _ (by omega) (by omega) (by omega)).trans ((f1 _ _ (by omega)).trans hd)) (by rw [f2 106 59 (by omega) (by omega) (by omega), f1 106 59 (by omega)]; exact hl) c2 (fun b i q1 q2 q3 q4 => (f2 b i q3 q4 q1).trans (f1 b i q2)) fun g => ?_
      have a := nxR.at c1.2 n2 g
      have x4 : m1 106 34 = μ 106 34 := f1 _ _ (by omega)
      have N : nmD m2 d (wtRep (oW u) (1000 + μ 106 36)) m := n1.of (f2 _ _ (by omega) (by omega) (by omega)) (fun k => f2 _ _ (by omega) (by omega) (by omega)) (fun k => f2 _ _ (by omega) (by omega) (by omega))
      refine ⟨g0, by omega, N, y4, lvW.cg (fun b i z1 z2 _ => (f2 b i (by omega) (by omega) (by omega)).trans (f1 b i (by omega))) y2, ((f2 _ _ (by omega) (by omega) (by omega)).trans (f1 _ _ (by omega))).trans y3, ⟨y5.1, y5.2.1, hz.trans ⟨fun q => ?_, fun q => ?_⟩⟩, rfl, y6⟩
      · rcases q with q | q
        · exact Or.inl (y5.2.2.mp q)
        · exact Or.inr (by omega)
      · rcases q with q | q
        · exact Or.inl (y5.2.2.mpr q)
        · exact Or.inr (by omega)
    have J1 : ∀ m1 : mM, (∀ b i, ¬ (b = 144 ∧ 41 * d ≤ i ∧ i < 41 * d + 41) → m1 b i = μ b i) → nmD m1 d (wtRep (oW u) (1000 + μ 106 36)) m → WJ_X12_piece_Wx_1 w μ p1 p2 p3 Q m1 := by
      intro m1 f1 n1 _ _
      have t5 : m1 106 35 = 3 := (f1 _ _ (by omega)).trans s3
      have t6 : m1 106 36 = μ 106 36 := f1 _ _ (by omega)
      have t7 : m1 106 37 = 0 := (f1 _ _ (by omega)).trans g0
      have J2 : ∀ z72 : Int, (z72 = 1 ↔ (p3 = 1 ∨ μ 106 36 = 42 ∨ μ 106 36 = 63)) → WJ_X12_piece_Wx_2 w p1 p2 Q m1 z72 := by
        intro z72 hz rz
        refine X12_isSign_s fun z1 hz1 _ => ⟨fun q => ?_, fun q => X12_isSign_s fun z2 hz2 _ => ⟨fun q2 => ?_, fun q2 => X12_isSign_s fun z3 hz3 _ => ⟨fun q3 => ?_, fun q3 => ?_⟩⟩⟩
        · intros
          rename_i m2 F _ _ _ _ _ _ _ _ _ _ _ n
          exact main m1 m2 z72 f1 n1 rz hz F n
        · intros
          rename_i m2 F _ _ _ _ _ _ _ _ _ _ _ n
          exact main m1 m2 z72 f1 n1 rz hz F n
        · have a1 : ¬ μ 106 36 = 42 := fun e => by
            have := hz1.mpr ⟨t7, t5, by omega⟩
            omega
          have a2 : ¬ μ 106 36 = 43 := fun e => by
            have := hz2.mpr ⟨t7, t5, by omega⟩
            omega
          have a3 : ¬ μ 106 36 = 63 := fun e => by
            have := hz3.mpr ⟨t7, t5, by omega⟩
            omega
          exact absurd s4 (by omega)
        · intros
          rename_i m2 F _ _ _ _ _ _ _ _ _ _ _ n
          exact main m1 m2 z72 f1 n1 rz hz F n
      refine X12_isSign_s fun z1 hz1 _ => ⟨fun q => J2 1 ⟨fun _ => Or.inr (Or.inl ?_), fun _ => rfl⟩, fun q => X12_isSign_s fun z2 hz2 _ => ⟨fun q2 => J2 p3 ⟨fun y => Or.inl y, fun y => ?_⟩, fun q2 => J2 1 ⟨fun _ => Or.inr (Or.inr ?_), fun _ => rfl⟩⟩⟩
      · have := (hz1.mp (by omega)).2.2
        omega
      · have a1 : ¬ μ 106 36 = 42 := fun e => by
          have := hz1.mpr ⟨t7, t5, by omega⟩
          omega
        have a2 : ¬ μ 106 36 = 63 := fun e => by
          have := hz2.mpr ⟨t7, t5, by omega⟩
          omega
        omega
      · have := (hz2.mp (by omega)).2.2
        omega
    have fol : (μ 106 36 = 42 ∨ μ 106 36 = 43) → WP_X12_follows_W w μ p2 p1 (fun m1 => mT w m1 → mF [144999] w μ m1 → WJ_X12_piece_Wx_1 w μ p1 p2 p3 Q m1) := fun h2 => X12_follows_s hd fun m1 hj fj _ _ => by
      refine J1 m1 fj ?_
      have eR : wtRep (oW u) (1000 + μ 106 36) = ((oW u).1, foU (oW u).2.1 (wP (oW u)).2.1 (wP (oW u)).1, wL (oW u), ((wP (oW u)).1, (wP (oW u)).2.1, (wP (oW u)).2.2 ∨ 1000 + μ 106 36 = 1042 ∨ 1000 + μ 106 36 = 1063)) := by
        unfold wtRep
        rw [if_pos (by omega)]
      rw [eR]
      exact nmD.join y1 (by omega) hj fj y5.2.1 y5.1
    refine X12_isSign_s fun z1 hz1 _ => ⟨fun q => fol (Or.inl (hz1.mp (by omega)).2.2), fun q => X12_isSign_s fun z2 hz2 _ => ⟨fun q2 => ?_, fun q2 => fol (Or.inr (hz2.mp (by omega)).2.2)⟩⟩
    refine J1 μ (fun _ _ _ => rfl) ?_
    have a1 : ¬ μ 106 36 = 42 := fun e => by
      have := hz1.mpr ⟨g0, s3, e⟩
      omega
    have a2 : ¬ μ 106 36 = 43 := fun e => by
      have := hz2.mpr ⟨g0, s3, e⟩
      omega
    have eR : (wtRep (oW u) (1000 + μ 106 36)).2.1 = (oW u).2.1 := if_neg (by omega)
    refine ⟨y1.1, fun k hk => ?_⟩
    rw [eR]
    exact y1.2 k hk
  · have ns : ∀ c : Int, (c = 42 ∨ c = 43 ∨ c = 63) → ∀ z : Int, (z = 1 ↔ (μ 106 37 = 0 ∧ μ 106 35 = 3 ∧ μ 106 36 = c)) → (0 ≤ z ∧ z ≤ 1) → z = 0 := fun c hc z hz rz => by
      have : ¬ z = 1 := fun e => by
        have y := hz.mp e
        exact hs ⟨y.1, y.2.1, by omega⟩
      omega
    have c1 : RG μ 15 r m x 0 (ouW u (wtJoin (oW u))) := by
      refine ⟨h.1.norep hs, h.2.stay (by decide) (fun p t v f q g ty _ => ?_) (fun t v g ty _ => ?_)⟩
      · have a : ¬ (t = 1042 ∨ t = 1043 ∨ t = 1063) := fun e => by
          unfold tyM at ty
          exact hs ⟨g, by omega, by omega⟩
        show n16 p r m x t q = _
        unfold n16
        rw [if_neg a]
      · have a : ¬ (t = 1042 ∨ t = 1043 ∨ t = 1063) := fun e => by
          unfold tyM at ty
          exact hs ⟨g, by omega, by omega⟩
        show (if t = 1042 ∨ t = 1043 ∨ t = 1063 then ouW u (wtJoin (wtRep (oW u) t)) else ouW u (wtJoin (oW u))) = _
        rw [if_neg a]
    have fin := J3 p3 μ μ (oW u) rp hd hl c1 (fun _ _ _ _ _ _ => rfl) fun g => by
      obtain ⟨⟨y1, y2, y3⟩, y4, y5, y6⟩ := hg g
      exact ⟨g, Int.le_refl _, y1, y4, y2, y3, y5, rfl, y6⟩
    refine X12_isSign_s fun z1 hz1 r1 => ⟨fun q => absurd (ns 42 (by decide) z1 hz1 r1) q, fun q => X12_isSign_s fun z2 hz2 r2 => ⟨fun q2 => ?_, fun q2 => absurd (ns 43 (by decide) z2 hz2 r2) q2⟩⟩
    intro _ _
    refine X12_isSign_s fun z3 hz3 r3 => ⟨fun q => absurd (ns 42 (by decide) z3 hz3 r3) q, fun q => X12_isSign_s fun z4 hz4 r4 => ⟨fun q4 => ?_, fun q4 => absurd (ns 63 (by decide) z4 hz4 r4) q4⟩⟩
    intro _
    exact X12_isSign_s fun z5 hz5 r5 => ⟨fun q => absurd (ns 42 (by decide) z5 hz5 r5) q, fun q => X12_isSign_s fun z6 hz6 r6 => ⟨fun q6 => absurd (ns 43 (by decide) z6 hz6 r6) q6, fun q6 => X12_isSign_s fun z7 hz7 r7 => ⟨fun q7 => fin, fun q7 => absurd (ns 63 (by decide) z7 hz7 r7) q7⟩⟩⟩
end WaysR
end
section
/-! The reference's reader: levels, a whole way. -/
section LevR
variable {w : mW} {μ : mM}
theorem X12_freshRow_s {Q : mM → Prop} (k : ∀ m : mM, (∀ b i, ¬ ((148 ≤ b ∧ b ≤ 150) ∧ i = (μ 106 59).toNat) → m b i = μ b i) → m 148 (μ 106 59).toNat = 0 → m 149 (μ 106 59).toNat = 0 → m 150 (μ 106 59).toNat = 1 → Q m) : WP_X12_freshRow_W w μ Q := by
  intro l el rl m1 u1 _ m2 u2 _ m3 u3 _
  obtain rfl := u1.is
  obtain rfl := u2.is
  obtain rfl := u3.is
  subst el
  refine k _ (fun b i q => ?_) ?_ ?_ ?_
  · rw [mUp.no (by omega), mUp.no (by omega), mUp.no (by omega)]
  · rw [mUp.no (by omega), mUp.no (by omega), mUp.yes ⟨rfl, rfl⟩]
  · rw [mUp.no (by omega), mUp.yes ⟨rfl, rfl⟩]
  · rw [mUp.yes ⟨rfl, rfl⟩]
theorem X12_openLevel_s {Q : mM → Prop} (h5 : μ 106 59 ≤ 5) (h0 : 0 ≤ μ 106 59) (k : ∀ m : mM, (∀ b i, ¬ (145 ≤ b ∧ b ≤ 150) → ¬ (b = 106 ∧ i = 59) → m b i = μ b i) → m 106 59 = μ 106 59 + 1 → (∀ L : List Lvl, lvW μ L → μ 106 59 = (L.length : Int) → lvW m (lv0 :: L)) → Q m) : WP_X12_openLevel_Wx w μ Q := by
  intro l el rl
  refine ⟨by omega, fun _ m1 u1 _ m2 u2 _ m3 u3 _ => X12_freshRow_s fun m4 f4 e8 e9 e0 _ _ m5 u5 _ => ?_⟩
  obtain rfl := u1.is
  obtain rfl := u2.is
  obtain rfl := u3.is
  obtain rfl := u5.is
  subst el
  have x59 : mUp (mUp (mUp μ 145 (μ 106 59).toNat 0) 146 (μ 106 59).toNat 0) 147 (μ 106 59).toNat 0 106 59 = μ 106 59 := by rw [mUp.no (by omega), mUp.no (by omega), mUp.no (by omega)]
  rw [x59] at f4 e8 e9 e0
  refine k _ (fun b i q1 q2 => ?_) (mUp.yes ⟨rfl, rfl⟩) fun L hL eL => ?_
  · rw [mUp.no (by omega), f4 b i (by omega), mUp.no (by omega), mUp.no (by omega), mUp.no (by omega)]
  · have en : (μ 106 59).toNat = L.length := by omega
    rw [en] at f4 e8 e9 e0
    refine ⟨⟨?_, ?_⟩, lvW.cg (fun b i q1 q2 q3 => ?_) hL⟩
    · rw [mUp.no (by omega), f4 147 L.length (by omega), mUp.yes ⟨rfl, rfl⟩, mUp.no (by omega), f4 145 L.length (by omega), mUp.no (by omega), mUp.no (by omega), mUp.yes ⟨rfl, rfl⟩, mUp.no (by omega), f4 146 L.length (by omega), mUp.no (by omega), mUp.yes ⟨rfl, rfl⟩]
      exact pcV.zero
    · rw [mUp.no (by omega), e0, mUp.no (by omega), e8, mUp.no (by omega), e9]
      exact pcV.one
    · rw [mUp.no (by omega), f4 b i (by omega), mUp.no (by omega), mUp.no (by omega), mUp.no (by omega)]
theorem X12_endRow_s {Q : mM → Prop} (h1 : 1 ≤ μ 106 59) (k : ∀ m : mM, (∀ b i, ¬ ((145 ≤ b ∧ b ≤ 147) ∧ i = (μ 106 59 - 1).toNat) → m b i = μ b i) → (∀ (v : Lvl) (s : List Lvl), lvW μ (v :: s) → μ 106 59 = ((v :: s).length : Int) → pcV (m 147 s.length) (m 145 s.length) (m 146 s.length) (pcOr v.1 v.2)) → Q m) : WP_X12_endRow_Wx w μ Q := by
  intro l el rl
  refine ⟨by omega, fun _ a ea _ b eb _ c ec m1 u1 _ a2 ea2 _ b2 eb2 _ c2 ec2 m2 u2 _ n en rn => ?_⟩
  obtain rfl := u1.is
  obtain rfl := u2.is
  subst el
  rw [mUp.no (by omega)] at ea2 eb2
  rw [mUp.no (by omega), mUp.no (by omega)] at en
  have fin : ∀ z : Int, ((¬ n = 0 ∧ z = 1) ∨ (n = 0 ∧ (0 ≤ μ 150 (μ 106 59 - 1).toNat ∧ μ 150 (μ 106 59 - 1).toNat ≤ 1) ∧ (z = 1 ↔ ¬ μ 150 (μ 106 59 - 1).toNat = 0))) → Q (mUp (mUp (mUp μ 145 (μ 106 59 - 1).toNat c) 146 (μ 106 59 - 1).toNat c2) 147 (μ 106 59 - 1).toNat z) := by
    intro z hz
    refine k _ (fun b i q => ?_) fun v s hL eL => ?_
    · rw [mUp.no (by omega), mUp.no (by omega), mUp.no (by omega)]
    · have hl : (v :: s).length = s.length + 1 := rfl
      have ei : (μ 106 59 - 1).toNat = s.length := by omega
      rw [ei] at ea eb ea2 eb2 en hz ⊢
      rw [mUp.yes ⟨rfl, rfl⟩, mUp.no (by omega), mUp.no (by omega), mUp.yes ⟨rfl, rfl⟩, mUp.no (by omega), mUp.yes ⟨rfl, rfl⟩]
      obtain ⟨⟨⟨q1, q2, q3⟩, ⟨q4, q5, q6⟩⟩, _⟩ := hL
      rw [ea] at q1
      rw [ea2] at q2
      rw [en] at q3
      rw [eb] at q4
      rw [eb2] at q5
      refine ⟨q1.or q4 ec, q2.or q5 ec2, ?_⟩
      have an : ¬ n = 0 ↔ v.1.2.2 := ⟨fun y => q3.mp (by omega), fun y => by have := q3.mpr y; omega⟩
      rcases hz with ⟨y1, y2⟩ | ⟨y1, y2, y3⟩
      · exact ⟨fun _ => Or.inl (an.mp y1), fun _ => y2⟩
      · have ar : ¬ μ 150 s.length = 0 ↔ v.2.2.2 := ⟨fun y => q6.mp (by omega), fun y => by have := q6.mpr y; omega⟩
        exact ⟨fun y => Or.inr (ar.mp (y3.mp y)), fun y => y.elim (fun y => absurd y1 (an.mpr y)) fun y => y3.mpr (ar.mpr y)⟩
  refine ⟨fun q m3 u3 _ => ?_, fun q e1 ee1 re1 => ⟨fun q2 m3 u3 _ => ?_, fun q2 m3 u3 _ => ?_⟩⟩
  · obtain rfl := u3.is
    exact fin 1 (Or.inl ⟨q, rfl⟩)
  · obtain rfl := u3.is
    rw [mUp.no (by omega), mUp.no (by omega)] at ee1
    exact fin 0 (Or.inr ⟨q, by rw [ee1]; exact re1, ⟨fun y => absurd y (by decide), fun y => absurd (ee1.trans q2) y⟩⟩)
  · obtain rfl := u3.is
    rw [mUp.no (by omega), mUp.no (by omega)] at ee1
    exact fin 1 (Or.inr ⟨q, by rw [ee1]; exact re1, ⟨fun _ => by rw [ee1]; exact q2, fun _ => rfl⟩⟩)
end LevR
/-- what reading the draft d writes -/
def dF (d : Nat) (μ m : mM) : Prop := ∀ b i, 106 ≤ b → b < 192 → ¬ ((b = 106 ∧ ((33 ≤ i ∧ i ≤ 38) ∨ i = 59)) ∨ ((b = 127 ∨ b = 130 ∨ b = 131 ∨ b = 142) ∧ i = d) ∨ ((b = 128 ∨ b = 129) ∧ 31 * d ≤ i ∧ i < 31 * d + 31) ∨ ((132 ≤ b ∧ b ≤ 141) ∧ 300 * d ≤ i ∧ i < 300 * d + 300) ∨ ((b = 143 ∨ b = 144) ∧ 41 * d ≤ i ∧ i < 41 * d + 41) ∨ (145 ≤ b ∧ b ≤ 150)) → m b i = μ b i
theorem dF.refl {d : Nat} {μ : mM} : dF d μ μ := fun _ _ _ _ _ => rfl
theorem dF.trans {d : Nat} {μ m n : mM} (h : dF d μ m) (k : dF d m n) : dF d μ n := fun b i q1 q2 q3 => (k b i q1 q2 q3).trans (h b i q1 q2 q3)
theorem frK.df {d : Nat} {μ m : mM} (h : frK μ m) : dF d μ m := fun b i q1 q2 q3 => h b i q1 q2 (by omega)
theorem dF.tb {d : Nat} {μ m : mM} (h : dF d μ m) : tbR μ m := ⟨bR.cg (h _ _ (by omega) (by omega) (by omega)) (fun k => h _ _ (by omega) (by omega) (by omega)), h _ _ (by omega) (by omega) (by omega)⟩
/-- a way's part of it: rows of tests but for the way's own -/
def wtF (d : Nat) (p : Int) (μ m : mM) : Prop := ∀ b i, 106 ≤ b → b < 192 → ¬ ((b = 106 ∧ ((33 ≤ i ∧ i ≤ 38) ∨ i = 59)) ∨ ((137 ≤ b ∧ b ≤ 139) ∧ i = p.toNat) ∨ (b = 142 ∧ i = d) ∨ ((b = 143 ∨ b = 144) ∧ 41 * d ≤ i ∧ i < 41 * d + 41) ∨ (145 ≤ b ∧ b ≤ 150)) → m b i = μ b i
theorem wtF.refl {d : Nat} {p : Int} {μ : mM} : wtF d p μ μ := fun _ _ _ _ _ => rfl
theorem wtF.trans {d : Nat} {p : Int} {μ m n : mM} (h : wtF d p μ m) (k : wtF d p m n) : wtF d p μ n := fun b i q1 q2 q3 => (k b i q1 q2 q3).trans (h b i q1 q2 q3)
theorem frK.wt {d : Nat} {p : Int} {μ m : mM} (h : frK μ m) : wtF d p μ m := fun b i q1 q2 q3 => h b i q1 q2 (by omega)
theorem wtF.tb {d : Nat} {p : Int} {μ m : mM} (h : wtF d p μ m) : tbR μ m := ⟨bR.cg (h _ _ (by omega) (by omega) (by omega)) (fun k => h _ _ (by omega) (by omega) (by omega)), h _ _ (by omega) (by omega) (by omega)⟩
theorem wrF.wt {d : Nat} {p : Int} {μ m : mM} (h : ∀ b i, ¬ (b = 106 ∧ (i = 37 ∨ i = 38)) → m b i = μ b i) : wtF d p μ m := fun b i q1 q2 q3 => h b i (by omega)
theorem wrF.fk {μ m : mM} (h : ∀ b i, ¬ (b = 106 ∧ (i = 37 ∨ i = 38)) → m b i = μ b i) : frK μ m := fun b i q1 q2 q3 => h b i (by omega)
section WayT
variable {w : mW} {μ : mM} {d : Nat}
/-- a way was read: what is promised -/
def wyQ (d : Nat) (p1 : Int) (μ m1 : mM) (u u' : Out) (m' : Int) : Prop := m1 106 37 = 0 → μ 106 37 = 0 ∧ μ 106 34 + 1 ≤ m1 106 34 ∧ nmD m1 d (oW u') m' ∧ (0 ≤ m' ∧ m' ≤ 40) ∧ ∃ (W : Wst) (P : Pce), u' = ouT (ouW u W) (6, u.2.2.2.1.1, 0, 0, 0, P) ∧ isS (m1 137 p1.toNat) P.1 ∧ isS (m1 138 p1.toNat) P.2.1 ∧ (m1 139 p1.toNat = 1 ↔ P.2.2)
theorem X12_wayTest_s {r m p1 : Int} {u : Out} {Q : mM → Prop} (hw : mWF w) (hd : μ 106 58 = (d : Int)) (h12 : d ≤ 12) (h : RG μ 14 r m 0 0 u) (hg : μ 106 37 = 0 → nmD μ d (oW u) m ∧ (0 ≤ m ∧ m ≤ 40)) (k : ∀ (m1 : mM) (m' : Int) (u' : Out), RG m1 5 r m' 0 0 u' → wtF d p1 μ m1 → wyQ d p1 μ m1 u u' m' → Q m1) : WP_X12_wayTest_Wx w μ p1 Q := by
  intro c ec rc t et rt n en rn
  refine X12_isSign_s fun z hz rz => ⟨fun q => ?_, fun q => X12_wrong_s fun m1 wk f1 _ _ => ?_⟩
  rotate_left 1
  · exact k m1 m u (RG.wr (h.1.opB (wrF.fk f1).tb wk (fun y => by have := hz.mpr y; omega)) wk (by decide)) (wrF.wt f1) fun g => absurd g (wk.no (by decide))
  intro a1 a2 a3 b1 b2 b3 m1 F1 hT1 x1 x2 x3 x4 x5 x6 x7 x8 x9 x0 n1 m2 u2 hT2
  obtain rfl := u2.is
  obtain ⟨g0, s3, s4⟩ := hz.mp (by omega)
  obtain ⟨nm0, rm0⟩ := hg g0
  have f1 := mF.tok hw F1
  have c1 : RG m1 15 r m 1 0 (ouW u (wtBeg (oW u))) := RG.sg h f1.tb ⟨s3, s4⟩ (by decide) n1 ⟨by decide, by decide, fun e => absurd e (by decide)⟩ ⟨by decide, by decide, fun e => absurd e (by decide)⟩ (fun _ _ _ _ => rfl) (fun _ => rfl)
  have y59 : mUp m1 106 59 0 106 59 = 0 := mUp.yes ⟨rfl, rfl⟩
  refine X12_openLevel_s (by rw [y59]; decide) (by rw [y59]; decide) fun m3 f3 e59 hlv hT3 _ => ?_
  rw [y59] at e59
  have e59' : m3 106 59 = 1 := e59
  have fr3 : ∀ b i, ¬ (145 ≤ b ∧ b ≤ 150) → ¬ (b = 106 ∧ i = 59) → m3 b i = m1 b i := fun b i q1 q2 => (f3 b i q1 q2).trans (mUp.no (by omega))
  have ro3 : roF m1 m3 := fun b i q1 q2 => fr3 b i (by omega) q2
  have c3 : RG m3 15 r m 1 0 (ouW u (wtBeg (oW u))) := c1.same ro3.tb ro3.ts
  have W3 : wtF d p1 μ m3 := f1.wt.trans fun b i q1 q2 q3 => fr3 b i (by omega) (by omega)
  have at1 := fun g => nxR.at h.2 n1 g
  have x34 : m3 106 34 = m1 106 34 := fr3 _ _ (by omega) (by omega)
  have x37 : m3 106 37 = m1 106 37 := fr3 _ _ (by omega) (by omega)
  have t34 : 0 ≤ m3 106 34 ∧ m3 106 34 ≤ 1000 := hT3 106 106 (A_106 hw) 34
  refine loopF.gh (fun m4 kk => wtF d p1 μ m4 ∧ 0 ≤ m4 106 59 ∧ ((¬ m4 106 59 = 0 ∧ ∃ (m' : Int) (W : Wst), RG m4 15 r m' (m4 106 59) 0 (ouW u W) ∧ (m4 106 37 = 0 → μ 106 34 + 1 ≤ m4 106 34 ∧ kk = (1001 - m4 106 34).toNat + 1 ∧ wyG m4 d W m' ∧ (0 ≤ m' ∧ m' ≤ 40))) ∨ (m4 106 59 = 0 ∧ ∃ (m' : Int) (u' : Out), RG m4 5 r m' 0 0 u' ∧ wyQ d p1 μ m4 u u' m') ∨ (¬ m4 106 37 = 0 ∧ ∃ (m' : Int) (u' : Out), RG m4 5 r m' 0 0 u'))) ?_ 1010 m3 ((1001 - m3 106 34).toNat + 1) ⟨W3, by omega, Or.inl ⟨by omega, m, wtBeg (oW u), by rw [e59']; exact c3, fun g => ?_⟩⟩ (by omega)
  rotate_left 1
  · have y := at1 (x37.symm.trans g)
    refine ⟨by have := y.2.2.1 (by omega); omega, rfl, ⟨?_, hlv [] trivial y59, ?_⟩, rm0⟩
    · refine nmD.of (μ := μ) (W := wtBeg (oW u)) nm0 ?_ (fun k => ?_) (fun k => ?_)
      · rw [fr3 142 d (by omega) (by omega)]; exact f1 _ _ (by omega) (by omega) (by omega)
      · rw [fr3 143 k (by omega) (by omega)]; exact f1 _ _ (by omega) (by omega) (by omega)
      · rw [fr3 144 k (by omega) (by omega)]; exact f1 _ _ (by omega) (by omega) (by omega)
    · exact e59'
  rintro rcx m4 kk ⟨F4, l0, hI⟩ ih m4' eq hT4 _ cc ecc rcc
  cases eq
  have someR : ¬ m4 106 37 = 0 → ∃ (m' : Int) (u' : Out), RG m4 5 r m' 0 0 u' := fun hf => by
    rcases hI with ⟨_, m', W, rg, _⟩ | ⟨_, m', u', rg, _⟩ | ⟨_, m', u', rg⟩
    · exact ⟨m', u, rg.bad hf⟩
    · exact ⟨m', u', rg⟩
    · exact ⟨m', u', rg⟩
  refine ⟨fun q2 => ?_, fun q2 l el rl => ⟨fun q3 => ?_, fun q3 => ?_⟩⟩
  · have hf : ¬ m4 106 37 = 0 := by rw [ecc]; exact q2
    obtain ⟨m', u', rg⟩ := someR hf
    exact k m4 m' u' rg F4 fun g => absurd g hf
  · rcases hI with ⟨y, _⟩ | ⟨_, m', u', rg, hq⟩ | ⟨y, _⟩
    · omega
    · exact k m4 m' u' rg F4 hq
    · exact absurd (ecc.trans q2) y
  have g4 : m4 106 37 = 0 := ecc.trans q2
  obtain ⟨m', W, rg, hgd⟩ : ∃ (m' : Int) (W : Wst), RG m4 15 r m' (m4 106 59) 0 (ouW u W) ∧ (m4 106 37 = 0 → μ 106 34 + 1 ≤ m4 106 34 ∧ kk = (1001 - m4 106 34).toNat + 1 ∧ wyG m4 d W m' ∧ (0 ≤ m' ∧ m' ≤ 40)) := by
    rcases hI with ⟨_, m', W, rg, hgd⟩ | ⟨y, _⟩ | ⟨y, _⟩
    · exact ⟨m', W, rg, hgd⟩
    · omega
    · exact absurd g4 y
  obtain ⟨p34, ekk, ⟨nm, lv, l59⟩, rm⟩ := hgd g4
  have s34 : 0 ≤ m4 106 34 ∧ m4 106 34 ≤ 1000 := hT4 106 106 (A_106 hw) 34
  have hd4 : m4 106 58 = (d : Int) := (F4 106 58 (by omega) (by omega) (by omega)).trans hd
  have nL : ¬ W.2.2.1 = [] := fun e => by
    rw [e] at l59
    have : m4 106 59 = 0 := l59
    omega
  have bad : ∀ (m5 : mM), (∀ e' : Int → Cfg, RSc m5 e') → ¬ m5 106 37 = 0 → wtF d p1 m4 m5 → 0 ≤ m5 106 59 → rcx m5 := fun m5 rs hf f5 l5 => ih m5 0 ⟨F4.trans f5, l5, Or.inr (Or.inr ⟨hf, m', u, rs _, RSo.vac hf⟩)⟩ (by omega)
  have badQ : ∀ (m5 : mM), (∀ e' : Int → Cfg, RSc m5 e') → ¬ m5 106 37 = 0 → wtF d p1 m4 m5 → Q m5 := fun m5 rs hf f5 => k m5 m' u ⟨rs _, RSo.vac hf⟩ (F4.trans f5) fun g => absurd g hf
  have nxt : ∀ (m5 : mM) (m5' : Int) (W5 : Wst), RG m5 15 r m5' (m5 106 59) 0 (ouW u W5) → wtF d p1 m4 m5 → 1 ≤ m5 106 59 → (m5 106 37 = 0 → m4 106 34 + 1 ≤ m5 106 34 ∧ wyG m5 d W5 m5' ∧ (0 ≤ m5' ∧ m5' ≤ 40)) → rcx m5 := by
    intro m5 m5' W5 r5 f5 l5 h5
    by_cases g5 : m5 106 37 = 0
    · obtain ⟨y1, y2, y3⟩ := h5 g5
      exact ih m5 ((1001 - m5 106 34).toNat + 1) ⟨F4.trans f5, by omega, Or.inl ⟨by omega, m5', W5, r5, fun _ => ⟨by omega, rfl, y2, y3⟩⟩⟩ (by omega)
    · exact ih m5 0 ⟨F4.trans f5, by omega, Or.inr (Or.inr ⟨g5, m5', u, r5.bad g5⟩)⟩ (by omega)
  -- a place
  have plc : ∀ (v z y : Int) (m6 : mM), ((m4 106 35 = 2 ∧ m4 106 36 = v ∧ v ≤ 1000000) ∨ (m4 106 35 = 1 ∧ m4 106 36 = 7 ∧ v = -1)) → m' ≤ 39 → mT w m6 → mF [106033, 106034, 106035, 106036, 106037, 106038] w (mUp (mUp (mUp m4 143 (41 * (d : Int) + m').toNat v) 144 (41 * (d : Int) + m').toNat 0) 142 (d : Int).toNat (m' + 1)) m6 → nxR (mUp (mUp (mUp m4 143 (41 * (d : Int) + m').toNat v) 144 (41 * (d : Int) + m').toNat 0) 142 (d : Int).toNat (m' + 1)) m6 → lShl 1 m' = z → lShl 1 m' = y → WP_X12_piece_Wx w m6 z y 0 (fun m7 => mT w m7 → mF [106033, 106034, 106035, 106036, 106037, 106038, 144999, 148999, 149999, 150999] w m6 m7 → rcx m7) := by
    intro v z y m6 hv h39 hT6 F6 n6 ez ey
    have ei : (41 * (d : Int) + m').toNat = 41 * d + m'.toNat := by omega
    rw [ei, Int.toNat_natCast] at F6 n6
    have f6 := mF.tok hw F6
    have fr5 : ∀ b i, ¬ ((b = 143 ∨ b = 144) ∧ i = 41 * d + m'.toNat) → ¬ (b = 142 ∧ i = d) → mUp (mUp (mUp m4 143 (41 * d + m'.toNat) v) 144 (41 * d + m'.toNat) 0) 142 d (m' + 1) b i = m4 b i := fun b i q1 q2 => by
      rw [mUp.no (by omega), mUp.no (by omega), mUp.no (by omega)]
    have ro5 : roF m4 (mUp (mUp (mUp m4 143 (41 * d + m'.toNat) v) 144 (41 * d + m'.toNat) 0) 142 d (m' + 1)) := fun b i q1 q2 => fr5 b i (by omega) (by omega)
    have c5 := rg.same ro5.tb ro5.ts
    obtain ⟨k1, k2, k3, k4, k5, k6⟩ := ro5.ts
    have an : anyR (mUp (mUp (mUp m4 143 (41 * d + m'.toNat) v) 144 (41 * d + m'.toNat) 0) 142 d (m' + 1)) := by
      unfold anyR
      rw [k3, k4]
      omega
    have c6 : RG m6 16 r (m' + 1) (m4 106 59) 0 (ouW u (wtAtom W m' v)) := by
      refine RG.nx c5 (c5.1.pl f6.tb n6 an (fun y => by rw [k3] at y; rw [k4]; omega) (by omega) (m' := m' + 1) rfl) f6.tb n6 (by decide) (fun p t' v' f q' ty _ => ?_) (fun t' v' ty _ => ?_)
      · have tt := an.t ty
        rw [k3, k4] at tt
        show n15 r m' (m4 106 59) t' v' f q' = _
        unfold n15
        rw [if_pos (by omega), if_neg (by omega), if_neg (by omega)]
      · have tt := an.t ty
        rw [k3, k4] at tt
        rcases hv with ⟨y1, y2, y3⟩ | ⟨y1, y2, y3⟩
        · have e1 : t' = -2 := by omega
          have e2 : v' = v := by omega
          subst e1 e2
          rfl
        · have e1 : t' = 7 := by omega
          subst e1 y3
          rfl
    have x59 : m6 106 59 = m4 106 59 := (f6 _ _ (by omega) (by omega) (by omega)).trans (fr5 _ _ (by omega) (by omega))
    have x58 : m6 106 58 = (d : Int) := (f6 _ _ (by omega) (by omega) (by omega)).trans ((fr5 _ _ (by omega) (by omega)).trans hd4)
    refine X12_piece_s hw x58 h12 (by omega) c6 (by decide) (fun g => ?_) fun m7 W7 c7 _ f7 hg7 _ _ => ?_
    · refine ⟨⟨⟨?_, fun j hj => ?_⟩, lvW.cg (fun b i q1 q2 _ => (f6 b i (by omega) (by omega) (by omega)).trans (fr5 b i (by omega) (by omega))) lv, by rw [x59]; exact l59⟩, by omega, ?_, nL⟩
      · rw [f6 142 d (by omega) (by omega) (by omega), mUp.yes ⟨rfl, rfl⟩]
      · rw [f6 143 _ (by omega) (by omega) (by omega), f6 144 _ (by omega) (by omega) (by omega)]
        by_cases ej : (j : Int) = m'
        · rw [mUp.no (by omega), mUp.no (by omega), mUp.yes ⟨rfl, by omega⟩, mUp.no (by omega), mUp.yes ⟨rfl, by omega⟩]
          have e1 : (wtAtom W m' v).1 j = v := if_pos ej
          rw [show (oW (ouW u (wtAtom W m' v))).1 j = v from e1]
          exact ⟨rfl, isS.zero.cg fun i => ⟨fun q => q.elim, fun q => q.1 ej⟩⟩
        · rw [fr5 143 _ (by omega) (by omega), fr5 144 _ (by omega) (by omega)]
          have e1 : (wtAtom W m' v).1 j = W.1 j := if_neg ej
          obtain ⟨a1, a2⟩ := nm.2 j (by omega)
          rw [show (oW (ouW u (wtAtom W m' v))).1 j = W.1 j from e1]
          exact ⟨a1, a2.cg fun i => ⟨fun q => ⟨ej, q⟩, fun q => q.2⟩⟩
      · exact ⟨isS.one ⟨rm.1, by omega⟩ ez, isS.one ⟨rm.1, by omega⟩ ey, ⟨fun q => absurd q (by decide), fun q => q.elim⟩⟩
    · have z59 : m7 106 59 = m4 106 59 := (f7 _ _ (by omega) (by omega) (by omega) (by omega)).trans x59
      have W7f : wtF d p1 m4 m7 := fun b i q1 q2 q3 => (f7 b i (by omega) (by omega) q1 q2).trans ((f6 b i q1 q2 (by omega)).trans (fr5 b i (by omega) (by omega)))
      refine nxt m7 (m' + 1) W7 (by rw [z59]; exact c7) W7f (by omega) fun g => ?_
      obtain ⟨y1, y2, y3, y4⟩ := hg7 g
      have a := nxR.at c5.2 n6 y1
      rw [k2] at a
      have := a.2.2.1 (by rw [k3]; omega)
      exact ⟨by omega, y3, by omega⟩
  intro t5 et5 rt5
  refine ⟨fun q4 v ev rv => ?_, fun q4 v ev rv => ?_⟩
  · -- a number
    have J3 : ∀ (at' : Int) (m5 m6 : mM), m4 142 d = at' → (m6 = m4 ∧ v ≤ 1000000 ∧ ¬ at' = 40) ∨ (¬ m6 106 37 = 0 ∧ (∀ e' : Int → Cfg, RSc m6 e') ∧ wtF d p1 m4 m6) → WJ_X12_wayTest_Wx_3 w Q rcx v m5 (d : Int) at' m6 := by
      intro at' m5 m6 eat hx _ _ c6 ec6 _
      rcases hx with ⟨e6, hv, h40⟩ | ⟨b6, rs6, f6⟩
      · have em : at' = m' := eat.symm.trans nm.1
        have h39' : m' ≤ 39 := Int.le_of_lt_add_one (Int.lt_iff_le_and_ne.mpr ⟨rm.2, by rw [← em]; exact h40⟩)
        rw [e6] at ec6 ⊢
        rw [em]
        refine ⟨fun _ => ⟨h39', fun _ m7 u7 _ m8 u8 _ m9 u9 _ z1 _ _ m10 F10 hT10 _ _ _ _ _ _ _ _ _ _ n10 z2 ez2 z3 ez3 => ?_⟩, fun y => absurd (ec6.symm.trans g4) y⟩
        obtain rfl := u7.is
        obtain rfl := u8.is
        obtain rfl := u9.is
        exact plc v z2 z3 m10 (Or.inl ⟨by omega, by omega, hv⟩) h39' hT10 F10 n10 ez2 ez3
      · exact ⟨fun y => absurd (ec6.trans y) b6, fun _ => badQ m6 rs6 b6 f6⟩
    have J2 : ∀ m5 : mM, (m5 = m4 ∧ v ≤ 1000000) ∨ (¬ m5 106 37 = 0 ∧ (∀ e' : Int → Cfg, RSc m5 e') ∧ (∀ b i, ¬ (b = 106 ∧ (i = 37 ∨ i = 38)) → m5 b i = m4 b i)) → WJ_X12_wayTest_Wx_2 w Q rcx m4 v m5 := by
      intro m5 hx _ _ dd edd rdd at' eat rat
      have e58 : m5 106 58 = (d : Int) := by
        rcases hx with ⟨e, _⟩ | ⟨_, _, f⟩
        · rw [e]; exact hd4
        · rw [f 106 58 (by omega)]; exact hd4
      have edd' : dd = (d : Int) := edd.symm.trans e58
      subst edd'
      rw [Int.toNat_natCast] at eat
      have eat' : m4 142 d = at' := by
        rcases hx with ⟨e, _⟩ | ⟨_, _, f⟩
        · rw [← e]; exact eat
        · rw [← f 142 d (by omega)]; exact eat
      refine ⟨fun y => J3 at' m5 m5 eat' ?_, fun y => X12_wrong_s fun m6 wk f6 _ _ => J3 at' m5 m6 eat' (Or.inr ?_)⟩
      · rcases hx with ⟨e, hv⟩ | ⟨b5, rs, f⟩
        · exact Or.inl ⟨e, hv, y⟩
        · exact Or.inr ⟨b5, rs, wrF.wt f⟩
      · rcases hx with ⟨e, hv⟩ | ⟨b5, rs, f⟩
        · subst e
          have em : at' = m' := eat'.symm.trans nm.1
          exact ⟨wk.no (by decide), fun e' => rg.1.p4 (wrF.fk f6).tb wk (Or.inl (by omega)) (fun _ => by omega) (by omega), wrF.wt f6⟩
        · refine ⟨wk.no (by decide), fun e' => (rs e').wrB (wrF.fk f6).tb wk b5, fun b i q1 q2 q3 => (f6 b i (by omega)).trans (f b i (by omega))⟩
    refine X12_in_r fun y hy ry => ⟨fun q5 => J2 m4 (Or.inl ⟨rfl, (hy.mp (by omega)).2⟩), fun q5 => X12_wrong_s fun m5 wk f5 _ _ => J2 m5 (Or.inr ⟨wk.no (by decide), fun e' => ?_, f5⟩)⟩
    have v0 := rg.1.v0 g4 (et5.trans q4)
    have ny : ¬ (0 ≤ v ∧ v ≤ 1000000) := fun h => by
      have := hy.mpr h
      omega
    exact rg.1.p3 (wrF.fk f5).tb wk (et5.trans q4) (by omega)
  refine X12_isWord_s fun y1 hy1 _ => ⟨fun q5 => X12_isSign_s fun y2 hy2 _ => ⟨fun q6 => X12_isSign_s fun y3 hy3 _ => ⟨fun q7 => X12_isSign_s fun y4 hy4 _ => ⟨fun q8 => X12_wrong_s fun m5 wk f5 _ _ => ?_, fun q8 => X12_endRow_s (by omega) fun m5 f5 pv5 _ _ m6 u6 _ => ?_⟩, fun q7 => X12_endRow_s (by omega) fun m5 f5 pv5 _ _ m6 u6 _ => X12_freshRow_s fun m7 f7 e8 e9 e0 _ _ m8 u8 _ => ?_⟩, fun q6 => ?_⟩, fun q5 => ?_⟩
  · -- no such token
    have n7 : ¬ (m4 106 35 = 1 ∧ m4 106 36 = 7) := fun e => by
      have := hy1.mpr ⟨g4, e⟩
      omega
    have a2 : ¬ (m4 106 35 = 3 ∧ m4 106 36 = 40) := fun e => by
      have := hy2.mpr ⟨g4, e⟩
      omega
    have a3 : ¬ (m4 106 35 = 3 ∧ m4 106 36 = 124) := fun e => by
      have := hy3.mpr ⟨g4, e⟩
      omega
    have a4 : ¬ (m4 106 35 = 3 ∧ m4 106 36 = 41) := fun e => by
      have := hy4.mpr ⟨g4, e⟩
      omega
    exact bad m5 (fun e' => rg.1.gB (wrF.fk f5).tb wk (by omega) n7 (by omega)) (wk.no (by decide)) (wrF.wt f5) (by rw [f5 106 59 (by omega)]; exact l0)
  · -- a bracket ends
    obtain rfl := u6.is
    have sg := (hy4.mp (by omega)).2
    cases hW : W.2.2.1 with
    | nil => exact absurd hW nL
    | cons v0 s =>
      rw [hW] at lv l59
      have hl : (v0 :: s).length = s.length + 1 := rfl
      have pv := pv5 v0 s lv l59
      have el' : l = (s.length : Int) + 1 := by omega
      have ei : (m4 106 59 - 1).toNat = s.length := by omega
      rw [ei] at f5
      have fr6 : ∀ b i, ¬ ((145 ≤ b ∧ b ≤ 147) ∧ i = s.length) → ¬ (b = 106 ∧ i = 59) → mUp m5 106 59 (l - 1) b i = m4 b i := fun b i z1 z2 => by
        rw [mUp.no (by omega)]
        exact f5 b i z1
      have ro6 : roF m4 (mUp m5 106 59 (l - 1)) := fun b i z1 z2 => fr6 b i (by omega) z2
      have c6 := rg.same ro6.tb ro6.ts
      obtain ⟨k1, k2, k3, k4, k5, k6⟩ := ro6.ts
      have sg6 : mUp m5 106 59 (l - 1) 106 35 = 3 ∧ mUp m5 106 59 (l - 1) 106 36 = 41 := by
        rw [k3, k4]; exact sg
      intro z1 _ _ m7 F7 hT7 _ _ _ _ _ _ _ _ _ _ n7
      have f7 := mF.tok hw F7
      have a7 := fun g => nxR.at c6.2 n7 g
      have eP := wtPop.eq hW
      have fr7 : ∀ b i, 106 ≤ b → b < 192 → ¬ (b = 106 ∧ ((33 ≤ i ∧ i ≤ 38) ∨ i = 59)) → ¬ ((145 ≤ b ∧ b ≤ 147) ∧ i = s.length) → m7 b i = m4 b i := fun b i z1 z2 z3 z4 => (f7 b i z1 z2 (by omega)).trans (fr6 b i z4 (by omega))
      have x59 : m7 106 59 = (s.length : Int) := by
        rw [f7 106 59 (by omega) (by omega) (by omega), mUp.yes ⟨rfl, rfl⟩]
        omega
      have pv7 : pcV (m7 147 s.length) (m7 145 s.length) (m7 146 s.length) (pcOr v0.1 v0.2) := by
        rw [f7 147 s.length (by omega) (by omega) (by omega), f7 145 s.length (by omega) (by omega) (by omega), f7 146 s.length (by omega) (by omega) (by omega), mUp.no (by omega), mUp.no (by omega), mUp.no (by omega)]
        exact pv
      have nm7 : nmD m7 d W m' := nm.of (fr7 _ _ (by omega) (by omega) (by omega) (by omega)) (fun k => fr7 _ _ (by omega) (by omega) (by omega) (by omega)) (fun k => fr7 _ _ (by omega) (by omega) (by omega) (by omega))
      refine ⟨fun e0 z2 ez2 _ m8 u8 _ z3 ez3 _ m9 u9 _ z4 ez4 r4 m10 u10 _ => ?_, fun e1 z2 ez2 _ z3 ez3 _ z4 ez4 r4 => ?_⟩
      · -- the last one
        obtain rfl := u8.is
        obtain rfl := u9.is
        obtain rfl := u10.is
        have es : s = [] := List.length_eq_zero_iff.mp (by omega)
        subst es
        have x1 : m4 106 59 = 1 := l59
        rw [mUp.no (by omega)] at ez3
        rw [mUp.no (by omega), mUp.no (by omega)] at ez4
        have fr10 : ∀ b i, ¬ ((137 ≤ b ∧ b ≤ 139) ∧ i = p1.toNat) → mUp (mUp (mUp m7 137 p1.toNat z2) 138 p1.toNat z3) 139 p1.toNat z4 b i = m7 b i := fun b i z1 => by
          rw [mUp.no (by omega), mUp.no (by omega), mUp.no (by omega)]
        have ro10 : roF m7 (mUp (mUp (mUp m7 137 p1.toNat z2) 138 p1.toNat z3) 139 p1.toNat z4) := fun b i z1 z2 => fr10 b i (by omega)
        have c7 : RG m7 5 r m' 0 0 (ouWay (ouW u W)) := by
          have c6' : RG (mUp m5 106 59 (l - 1)) 15 r m' 1 0 (ouW u W) := by
            rw [x1] at c6; exact c6
          exact RG.sg c6' f7.tb sg6 (by decide) n7 ⟨by decide, by decide, fun e => absurd e (by decide)⟩ ⟨by decide, by decide, fun e => absurd e (by decide)⟩ (fun _ _ _ _ => rfl) (fun _ => rfl)
        have W10 : wtF d p1 m4 (mUp (mUp (mUp m7 137 p1.toNat z2) 138 p1.toNat z3) 139 p1.toNat z4) := fun b i z1 z2 z3 => (fr10 b i (by omega)).trans (fr7 b i z1 z2 (by omega) (by omega))
        have x0 : mUp (mUp (mUp m7 137 p1.toNat z2) 138 p1.toNat z3) 139 p1.toNat z4 106 59 = 0 := (fr10 _ _ (by omega)).trans x59
        refine ih _ 0 ⟨F4.trans W10, by omega, Or.inr (Or.inl ⟨x0, m', _, c7.same ro10.tb ro10.ts, fun g => ?_⟩)⟩ (by omega)
        have g7 : m7 106 37 = 0 := ro10.ts.2.2.2.2.1.symm.trans g
        have y := a7 g7
        rw [k2] at y
        have z34 := ro10.ts.2.1
        refine ⟨g0, by omega, ?_, rm, (W.1, W.2.1, [], pcOr v0.1 v0.2), pcOr v0.1 v0.2, ?_, ?_, ?_, ?_⟩
        · show nmD _ d (wtPop W) m'
          rw [eP]
          exact nm7.of (fr10 _ _ (by omega)) (fun k => fr10 _ _ (by omega)) (fun k => fr10 _ _ (by omega))
        · show ouT (ouW u (wtPop W)) (6, u.2.2.2.1.1, 0, 0, 0, (wtPop W).2.2.2) = _
          rw [eP]
        · rw [mUp.no (by omega), mUp.no (by omega), mUp.yes ⟨rfl, rfl⟩, ← ez2]
          exact pv7.1
        · rw [mUp.no (by omega), mUp.yes ⟨rfl, rfl⟩, ← ez3]
          exact pv7.2.1
        · rw [mUp.yes ⟨rfl, rfl⟩, ← ez4]
          exact pv7.2.2
      · -- a piece of the level above
        have ei2 : (l - 1).toNat = s.length := by omega
        rw [ei2] at ez2 ez3 ez4
        have c7 : RG m7 16 r m' (m4 106 59 - 1) 0 (ouW u (wtPop W)) := by
          refine RG.nx c6 (c6.1.gE f7.tb n7 sg6 (by omega) (x' := m4 106 59 - 1) rfl) f7.tb n7 (by decide) (fun p t' v' f q' ty _ => ?_) (fun t' v' ty _ => ?_)
          · have e : t' = 1041 := (ty.sg 41 1041 (by decide) rfl).mpr sg6
            subst e
            show n15 r m' (m4 106 59) 1041 v' f q' = _
            unfold n15
            rw [if_neg (by decide), if_neg (by decide), if_neg (by decide), if_pos rfl, if_neg (by omega)]
          · have e : t' = 1041 := (ty.sg 41 1041 (by decide) rfl).mpr sg6
            subst e
            show (if m4 106 59 = 1 then ouWay (ouW u W) else ouW (ouW u W) (wtPop W)) = _
            rw [if_neg (by omega)]
            rfl
        have x58 : m7 106 58 = (d : Int) := (fr7 _ _ (by omega) (by omega) (by omega) (by omega)).trans hd4
        refine X12_piece_s hw x58 h12 (by omega) c7 r4 (fun g => ?_) fun m8 W8 c8 _ f8 hg8 _ _ => ?_
        · refine ⟨?_, rm.2, ?_, ?_⟩
          · show wyG m7 d (wtPop W) m'
            rw [eP]
            exact ⟨nm7, lvW.cg (l := s) (fun b i z1 z2 z3 => fr7 b i (by omega) (by omega) (by omega) (by omega)) lv.2, x59⟩
          · show pcV z4 z2 z3 (wtPop W).2.2.2
            rw [eP, ← ez2, ← ez3, ← ez4]
            exact pv7
          · show ¬ (wtPop W).2.2.1 = []
            rw [eP]
            intro e
            have : s = [] := e
            rw [this] at el'
            have : ([] : List Lvl).length = 0 := rfl
            omega
        · have z59 : m8 106 59 = m4 106 59 - 1 := by
            rw [f8 106 59 (by omega) (by omega) (by omega) (by omega), x59]
            omega
          have W8f : wtF d p1 m4 m8 := fun b i z1 z2 z3 => (f8 b i (by omega) (by omega) z1 z2).trans (fr7 b i z1 z2 (by omega) (by omega))
          refine nxt m8 m' W8 (by rw [z59]; exact c8) W8f (by omega) fun g => ?_
          obtain ⟨y1, y2, y3, y4⟩ := hg8 g
          have y := a7 y1
          rw [k2] at y
          have := y.2.2.1 (by rw [k3]; omega)
          exact ⟨by omega, y3, rm⟩
  · -- a bar
    obtain rfl := u6.is
    obtain rfl := u8.is
    have sg := (hy3.mp (by omega)).2
    intro z1 _ _ m9 F9 hT9 _ _ _ _ _ _ _ _ _ _ n9
    have f9 := mF.tok hw F9
    cases hW : W.2.2.1 with
    | nil => exact absurd hW nL
    | cons v0 s =>
      rw [hW] at lv l59
      have hl : (v0 :: s).length = s.length + 1 := rfl
      have pv := pv5 v0 s lv l59
      have ei : (m4 106 59 - 1).toNat = s.length := by omega
      rw [ei] at f5
      have y59' : mUp m5 106 59 (l - 1) 106 59 = l - 1 := mUp.yes ⟨rfl, rfl⟩
      rw [y59'] at f7 e8 e9 e0
      have ei2 : (l - 1).toNat = s.length := by omega
      rw [ei2] at f7 e8 e9 e0
      have fr8 : ∀ b i, ¬ ((145 ≤ b ∧ b ≤ 150) ∧ i = s.length) → ¬ (b = 106 ∧ i = 59) → mUp m7 106 59 (l - 1 + 1) b i = m4 b i := fun b i z1 z2 => by
        rw [mUp.no (by omega), f7 b i (by omega), mUp.no (by omega), f5 b i (by omega)]
      have ro8 : roF m4 (mUp m7 106 59 (l - 1 + 1)) := fun b i z1 z2 => fr8 b i (by omega) z2
      have c8 := rg.same ro8.tb ro8.ts
      obtain ⟨k1, k2, k3, k4, k5, k6⟩ := ro8.ts
      have sg8 : mUp m7 106 59 (l - 1 + 1) 106 35 = 3 ∧ mUp m7 106 59 (l - 1 + 1) 106 36 = 124 := by
        rw [k3, k4]; exact sg
      have eB := wtBar.eq hW
      have c9 : RG m9 15 r m' (m4 106 59) 0 (ouW u (wtBar W)) := RG.sg c8 f9.tb sg8 (by decide) n9 ⟨by decide, by decide, fun e => absurd e (by decide)⟩ ⟨by decide, by decide, fun e => absurd e (by decide)⟩ (fun _ _ _ _ => rfl) (fun _ => rfl)
      have x59 : m9 106 59 = m4 106 59 := by
        rw [f9 106 59 (by omega) (by omega) (by omega), mUp.yes ⟨rfl, rfl⟩]
        omega
      have fr9 : ∀ b i, 106 ≤ b → b < 192 → ¬ (b = 106 ∧ ((33 ≤ i ∧ i ≤ 38) ∨ i = 59)) → ¬ ((145 ≤ b ∧ b ≤ 150) ∧ i = s.length) → m9 b i = m4 b i := fun b i z1 z2 z3 z4 => (f9 b i z1 z2 (by omega)).trans (fr8 b i z4 (by omega))
      refine nxt m9 m' (wtBar W) (by rw [x59]; exact c9) (fun b i z1 z2 z3 => fr9 b i z1 z2 (by omega) (by omega)) (by omega) fun g => ?_
      have y := nxR.at c8.2 n9 g
      rw [k2] at y
      have := y.2.2.1 (by rw [k3]; omega)
      refine ⟨by omega, ?_, rm⟩
      rw [eB]
      refine ⟨nm.of (fr9 _ _ (by omega) (by omega) (by omega) (by omega)) (fun k => fr9 _ _ (by omega) (by omega) (by omega) (by omega)) (fun k => fr9 _ _ (by omega) (by omega) (by omega) (by omega)), ⟨⟨?_, ?_⟩, lvW.cg (fun b i z1 z2 z3 => fr9 b i (by omega) (by omega) (by omega) (by omega)) lv.2⟩, by rw [x59]; exact l59⟩
      · rw [f9 147 s.length (by omega) (by omega) (by omega), f9 145 s.length (by omega) (by omega) (by omega), f9 146 s.length (by omega) (by omega) (by omega), mUp.no (by omega), mUp.no (by omega), mUp.no (by omega), f7 147 s.length (by omega), f7 145 s.length (by omega), f7 146 s.length (by omega), mUp.no (by omega), mUp.no (by omega), mUp.no (by omega)]
        exact pv
      · rw [f9 150 s.length (by omega) (by omega) (by omega), f9 148 s.length (by omega) (by omega) (by omega), f9 149 s.length (by omega) (by omega) (by omega), mUp.no (by omega), mUp.no (by omega), mUp.no (by omega), e0, e8, e9]
        exact pcV.one
  · -- a bracket opens
    have sg := (hy2.mp (by omega)).2
    refine ⟨fun q8 => X12_openLevel_s (by omega) l0 fun m5 f5 e5 hlv5 _ _ => ?_, fun q8 => X12_wrong_s fun m5 wk f5 _ _ c5 ec5 _ => ⟨fun y => absurd (ec5.trans y) (wk.no (by decide)), fun _ => badQ m5 (fun e' => rg.1.gF (wrF.fk f5).tb wk sg (by omega)) (wk.no (by decide)) (wrF.wt f5)⟩⟩
    intro z1 _ _ m6 F6 hT6 _ _ _ _ _ _ _ _ _ _ n6
    have f6 := mF.tok hw F6
    have ro5 : roF m4 m5 := fun b i z1 z2 => f5 b i (by omega) z2
    have c5 := rg.same ro5.tb ro5.ts
    obtain ⟨k1, k2, k3, k4, k5, k6⟩ := ro5.ts
    have sg5 : m5 106 35 = 3 ∧ m5 106 36 = 40 := by
      rw [k3, k4]; exact sg
    have x59 : m6 106 59 = m4 106 59 + 1 := (f6 _ _ (by omega) (by omega) (by omega)).trans e5
    have c6 : RG m6 15 r m' (m4 106 59 + 1) 0 (ouW u (wtPush W)) := by
      refine RG.nx c5 (c5.1.gO f6.tb n6 sg5 (by omega) (x' := m4 106 59 + 1) rfl) f6.tb n6 (by decide) (fun p t' v' f q' ty _ => ?_) (fun t' v' ty _ => ?_)
      · have e : t' = 1040 := (ty.sg 40 1040 (by decide) rfl).mpr sg5
        subst e
        show n15 r m' (m4 106 59) 1040 v' f q' = _
        unfold n15
        rw [if_neg (by decide), if_pos rfl, if_neg (by omega)]
      · have e : t' = 1040 := (ty.sg 40 1040 (by decide) rfl).mpr sg5
        subst e
        rfl
    refine nxt m6 m' (wtPush W) (by rw [x59]; exact c6) (fun b i z1 z2 z3 => (f6 b i z1 z2 (by omega)).trans (f5 b i (by omega) (by omega))) (by omega) fun g => ?_
    have y := nxR.at c5.2 n6 g
    rw [k2] at y
    have := y.2.2.1 (by rw [k3]; omega)
    refine ⟨by omega, ⟨?_, ?_, ?_⟩, rm⟩
    · exact nmD.of (W := wtPush W) nm ((f6 _ _ (by omega) (by omega) (by omega)).trans (f5 _ _ (by omega) (by omega))) (fun k => (f6 _ _ (by omega) (by omega) (by omega)).trans (f5 _ _ (by omega) (by omega))) (fun k => (f6 _ _ (by omega) (by omega) (by omega)).trans (f5 _ _ (by omega) (by omega)))
    · exact lvW.cg (fun b i z1 z2 _ => f6 b i (by omega) (by omega) (by omega)) (hlv5 W.2.2.1 lv l59)
    · rw [x59, l59]
      rfl
  · -- any
    have wd := (hy1.mp (by omega)).2
    intro dd edd rdd at' eat rat
    have edd' : dd = (d : Int) := edd.symm.trans hd4
    subst edd'
    rw [Int.toNat_natCast] at eat
    have em : at' = m' := eat.symm.trans nm.1
    subst em
    refine ⟨fun y => ?_, fun y => X12_wrong_s fun m6 wk f6 _ _ => ?_⟩
    · intro _ _ c6 ec6 _
      refine ⟨fun _ => ⟨by omega, fun _ m7 u7 _ m8 u8 _ m9 u9 _ z1 _ _ m10 F10 hT10 _ _ _ _ _ _ _ _ _ _ n10 z2 ez2 z3 ez3 => ?_⟩, fun y => absurd (ec6.symm.trans g4) y⟩
      obtain rfl := u7.is
      obtain rfl := u8.is
      obtain rfl := u9.is
      exact plc (-1) z2 z3 m10 (Or.inr ⟨wd.1, wd.2, rfl⟩) (by omega) hT10 F10 n10 ez2 ez3
    · intro _ _ c6 ec6 _
      have b6 := wk.no (by decide)
      exact ⟨fun y => absurd (ec6.trans y) b6, fun _ => badQ m6 (fun e' => rg.1.p4 (wrF.fk f6).tb wk (Or.inr wd) (fun y => by omega) (by omega)) b6 (wrF.wt f6)⟩
end WayT
end
