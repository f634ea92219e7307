section
/-! A message is heard. -/
def rtPx (r : Rt) (p : Int) : Rt := (p, r.2)
def fndF (A L : Nat → Int) (a l : Int) : Nat → Option Nat
  | 0 => none
  | n + 1 => match fndF A L a l n with
    | some p => some p
    | none => if A n = a ∧ L n = l then some n else none
theorem fndF.no {A L : Nat → Int} {a l : Int} : ∀ {n : Nat}, (∀ q, q < n → ¬ (A q = a ∧ L q = l)) → fndF A L a l n = none
  | 0, _ => rfl
  | n + 1, h => by
    show (match fndF A L a l n with | some p => some p | none => if A n = a ∧ L n = l then some n else none) = none
    rw [fndF.no fun q hq => h q (by omega)]
    exact if_neg (h n (by omega))
theorem fndF.is {A L : Nat → Int} {a l : Int} {p : Nat} : ∀ {n : Nat}, p < n → A p = a → L p = l → (∀ q, q < p → ¬ (A q = a ∧ L q = l)) → fndF A L a l n = some p
  | n + 1, hp, h1, h2, hf => by
    show (match fndF A L a l n with | some p => some p | none => if A n = a ∧ L n = l then some n else none) = some p
    by_cases c : p = n
    · subst c
      rw [fndF.no hf]
      exact if_pos ⟨h1, h2⟩
    · rw [fndF.is (n := n) (by omega) h1 h2 hf]
noncomputable def tkOne (E : En) (A L : Nat → Int) (t s : Nat) (o : Option Rt) (a l : Int) (S : Sn) : Sn := match fndF A L a l (eP E) with
  | none => S
  | some p => lookE E (hd! S (slt t s p) (o.map fun r => rtPx r (p : Int)) (sCk S)) (eN E t s) p
theorem tkOne.no {E : En} {A L : Nat → Int} {t s : Nat} {o : Option Rt} {a l : Int} {S : Sn} (h : fndF A L a l (eP E) = none) : tkOne E A L t s o a l S = S := by
  unfold tkOne
  rw [h]
theorem tkOne.is {E : En} {A L : Nat → Int} {t s p : Nat} {o : Option Rt} {a l : Int} {S : Sn} (h : fndF A L a l (eP E) = some p) : tkOne E A L t s o a l S = lookE E (hd! S (slt t s p) (o.map fun r => rtPx r (p : Int)) (sCk S)) (eN E t s) p := by
  unfold tkOne
  rw [h]
def srcM (M : Ms) (i : Nat) : Option Rt := if i < uW M then none else some (uR M)
noncomputable def tkN (E : En) (A L : Nat → Int) (t s : Nat) (M : Ms) (n : Nat) (S : Sn) : Sn := forN (fun i S => tkOne E A L t s (srcM M i) (uX M i) (uL M i) S) n S
theorem tkN.succ {E : En} {A L : Nat → Int} {t s n : Nat} {M : Ms} {S : Sn} : tkN E A L t s M (n + 1) S = tkOne E A L t s (srcM M n) (uX M n) (uL M n) (tkN E A L t s M n S) := rfl
theorem fndF.lt {A L : Nat → Int} {a l : Int} {p : Nat} : ∀ {n : Nat}, fndF A L a l n = some p → p < n
  | 0, h => by cases h
  | n + 1, h => by
    have h : (match fndF A L a l n with | some p => some p | none => if A n = a ∧ L n = l then some n else none) = some p := h
    cases e : fndF A L a l n with
    | some q =>
      rw [e] at h
      have h : some q = some p := h
      have := fndF.lt e
      rw [← Option.some.inj h]
      omega
    | none =>
      rw [e] at h
      have h : (if A n = a ∧ L n = l then some n else none) = some p := h
      by_cases c : A n = a ∧ L n = l
      · rw [if_pos c] at h
        rw [← Option.some.inj h]
        omega
      · rw [if_neg c] at h
        cases h
theorem srcM.good {M : Ms} {i p : Nat} (hx : msX M) (h : ¬ uT M = 0) : rtO p ((srcM M i).map fun r => rtPx r (p : Int)) := by
  unfold srcM
  by_cases c : i < uW M
  · rw [if_pos c]; exact rtO.none'
  · rw [if_neg c]
    intro r e
    have e : some (rtPx (uR M) (p : Int)) = some r := e
    rw [← Option.some.inj e]
    obtain ⟨a, b, c, d, _⟩ := hx h
    exact ⟨rfl, a, b, c, d⟩
theorem tkOne.cn {E : En} {A L : Nat → Int} {t s i : Nat} {M : Ms} {a l : Int} {S : Sn} (sn : snG E S) (en : enG E) (ht : t < eT E) (hs : s < 2) (hx : msX M) (h : ¬ uT M = 0) : mdG E S 20 (tkOne E A L t s (srcM M i) a l S) := by
  cases e : fndF A L a l (eP E) with
  | none => rw [tkOne.no e]; exact (mdG.refl sn).le (by decide)
  | some p =>
    rw [tkOne.is e]
    have pl := fndF.lt e
    have p10 := en.1.2.2.2.2
    obtain ⟨d, ed, hd⟩ := eN.dom (s := s) en.1 ht
    rw [ed]
    have em : slt t s p % 10 = p := by unfold slt; omega
    have s1 : snG E (hd! S (slt t s p) ((srcM M i).map fun r => rtPx r (p : Int)) (sCk S)) := sn.hear (by rw [em]; exact srcM.good hx h) (fun q => by omega)
    have g := lookE.cn s1 en hd (show p < 10 by omega)
    have sb : slt t s p < 20 * eT E := by unfold slt; omega
    have u : uS E S (hd! S (slt t s p) ((srcM M i).map fun r => rtPx r (p : Int)) (sCk S)) := ⟨fun k hk => ⟨if_neg (by omega), rfl⟩, fun _ _ => rfl⟩
    exact ⟨g.1, g.2.1, g.2.2.1, u.trans g.2.2.2⟩
theorem tkN.cn {E : En} {A L : Nat → Int} {t s : Nat} {M : Ms} {S : Sn} (sn : snG E S) (en : enG E) (ht : t < eT E) (hs : s < 2) (hx : msX M) (h : ¬ uT M = 0) : ∀ n : Nat, mdG E S (20 * (n : Int)) (tkN E A L t s M n S)
  | 0 => (mdG.refl sn).le (by omega)
  | n + 1 => by
    have ih := tkN.cn (A := A) (L := L) sn en ht hs hx h n
    rw [tkN.succ]
    exact (ih.trans (tkOne.cn ih.1 en ht hs hx h)).le (by omega)
theorem rtC.pfx {m : mM} {a : Nat} {p : Int} : rtC (mUp m a 3 p) a = (rtC m a).map fun r => rtPx r p := by
  by_cases c : m a 2 = 0
  · rw [rtC.nil c, rtC.nil (by rw [mUp.no (by omega)]; exact c)]
    rfl
  · rw [rtC.the c, rtC.the (by rw [mUp.no (by omega)]; exact c), mUp.yes ⟨rfl, rfl⟩, mUp.no (by omega), mUp.no (by omega), mUp.no (by omega), mUp.no (by omega), mUp.no (by omega), rowL.ext (f := m (a + 1)) (fun i _ => mUp.no (by omega)), rowL.ext (f := m (a + 2)) (fun i _ => mUp.no (by omega))]
    rfl
theorem rtR.pfx {m : mM} {r p : Int} {x : Rt} (hr : 0 ≤ r) (hp : 0 ≤ p) (hn : m 126 (40 * r + 4).toNat ≤ 20) (h : rtR m r = some x) : rtR (mUp m 126 (40 * r).toNat p) r = some (rtPx x p) := by
  obtain ⟨g, e⟩ := rtR.get h
  rw [rtR.the (by rw [mUp.yes ⟨rfl, rfl⟩]; omega), mUp.yes ⟨rfl, rfl⟩, mUp.no (by omega), mUp.no (by omega), mUp.no (by omega), mUp.no (by omega), mUp.no (by omega), e, rowL.ext (f := fun k => m 126 (40 * r + 6 + (k : Int)).toNat) (fun i hi => mUp.no (by omega)), rowL.ext (f := fun k => m 126 (40 * r + 26 + (k : Int)).toNat) (fun i _ => mUp.no (by omega))]
  rfl
section Hear
variable {w : mW} {μ : mM} {E : En} {S : Sn} {G : mM → Prop}
theorem X8_takeIn_s {A L : Nat → Int} {t s : Nat} {M : Ms} {Q : Int → mM → Prop} (hw : mWF w) (hT : mT w μ) (ev : envC w μ E) (st : snC μ E S) (sn : snG E S) (en : enG E) (ht : t < eT E) (hs : s < 2) (tb : ∀ i, i < 10 → μ 7 i = A i ∧ μ 8 i = L i) (hM : msC μ M) (hX : msX M) (h0 : ¬ uT M = 0)
    (k : ∀ (z : Int) (m : mM), snC m E (tkN E A L t s M (uW M + uA M) S) → loC μ m → Q z m) : WP_X8_takeIn_W w μ (t : Int) (s : Int) Q := by
  obtain ⟨m1, m2, m3, m4⟩ := hM.2 h0
  have p10 := en.1.2.2.2.2
  intro wd ewd rwd an ean ran b eb _
  rw [Int.toNat_natCast] at eb
  obtain ⟨t1, big, t3⟩ := ev.2.2.2.1.1 t ht
  have eb' : b = tbA μ t := by omega
  subst eb'
  refine loopF.iim (fun _ i m => 0 ≤ i ∧ i ≤ ((uW M + uA M : Nat) : Int) ∧ loC μ m ∧ snC m E (tkN E A L t s M i.toNat S)) (fun _ i => (2001 - i).toNat) ⟨by omega, by omega, fun _ _ _ _ _ _ _ _ _ => rfl, st⟩ (by omega) ?_
  rintro rc z i m ⟨i0, i1, lo, hs'⟩ ih z' i' m' ee rz ri T F
  cases ee
  refine ⟨fun c => ?_, fun c a ea _ l el _ => ?_⟩
  · have e : i.toNat = uW M + uA M := by omega
    rw [e] at hs'
    exact k z m hs' lo
  have evm := envC.fr hw hT ev (mF.refl.call F rfl)
  have snm := (tkN.cn (A := A) (L := L) sn en ht hs hX h0 i.toNat).1
  obtain ⟨iN, hiN⟩ : ∃ iN : Nat, i = (iN : Int) := ⟨i.toNat, by omega⟩
  subst hiN
  rw [Int.toNat_natCast] at ea el hs' snm
  have lob : ∀ b i, b < 36 → 3 ≤ b → ¬ b = 21 → ¬ b = 32 → ¬ b = 33 → ¬ b = 34 → m b i = μ b i := fun b i h1 h2 h3 h4 h5 h6 => lo b i (by omega) (by omega) (by omega) (by omega) (by omega) (by omega) (by omega)
  have lo8 : ∀ b i, 76 ≤ b → b < 192 → m b i = μ b i := fun b i h1 h2 => lo b i (by omega) (by omega) (by omega) (by omega) (by omega) (by omega) (by omega)
  rw [lo8 84 _ (by omega) (by omega), (m3 iN (by omega)).1] at ea
  rw [lo8 85 _ (by omega) (by omega), (m3 iN (by omega)).2] at el
  subst ea el
  have tbm : ∀ i, i < 10 → m 7 i = A i ∧ m 8 i = L i := fun i hi => by
    rw [lob 7 i (by omega) (by omega) (by omega) (by omega) (by omega) (by omega), lob 8 i (by omega) (by omega) (by omega) (by omega) (by omega) (by omega)]
    exact tb i hi
  have tbe : tbA m t = tbA μ t := congrArg Int.toNat (lob 11 t (by omega) (by omega) (by omega) (by omega) (by omega) (by omega))
  have lym := evm.2.2.2.1
  refine X10_findPrefix_s evm.2.1 tbm (fun nf _ => ⟨fun c2 => absurd c2 (by decide), fun _ => ih _ _ _ ⟨by omega, by omega, lo, ?_⟩ (by omega)⟩) (fun p hp p1 p2 pf _ => ⟨fun _ _ b2 eb2 _ => ?_, fun c2 => absurd c2 (by omega)⟩)
  · rw [show ((iN : Int) + 1).toNat = iN + 1 by omega, tkN.succ, tkOne.no (fndF.no fun q hq h => nf ⟨q, hq, h⟩)]
    exact hs'
  have fs := fndF.is (A := A) (L := L) hp p1 p2 pf
  obtain ⟨_, bigm, t3m⟩ := lym.1 t ht
  have e2 : b2 = tbA m t + 4 + 6 * (10 * s + p) := by
    have g := (t3m (10 * s + p) (by omega)).1
    rw [tbe] at g
    rw [show ((s : Int) * 10 + (p : Int)).toNat = 10 * s + p by omega, g] at eb2
    omega
  have J : ∀ (src : Nat) (o : Option Rt), src < 192 → o = srcM M iN → rtC m src = o → WJ_X8_takeIn_W_2 w (s : Int) (tbA μ t) rc (iN : Int) m (p : Int) b2 src := by
    intro src o hsrc ho hr _
    refine X7_become_s (by refine ⟨?_, ?_, ?_, ?_, ?_, ?_, ?_⟩ <;> omega) fun m5 r5 o5 T5 F5 m6 u6 T6 ck eck rck m7 u7 T7 => ?_
    obtain rfl := u6.is
    obtain rfl := u7.is
    have eck' : sCk (tkN E A L t s M iN S) = ck := by
      rw [← eck, mUp.no (by omega), o5 32 11 (by omega) (by omega) (by omega)]
      exact hs'.2.2.2.2.1.symm
    have f7 : ∀ b i, ¬ (tbA m t + 4 + 6 * (10 * s + p) ≤ b ∧ b ≤ tbA m t + 6 + 6 * (10 * s + p)) → mUp (mUp m5 b2 3 (p : Int)) b2 9 ck b i = m b i := fun b i q => by
      rw [mUp.no (by omega), mUp.no (by omega)]
      exact o5 b i (by omega) (by omega) (by omega)
    have r7 : rtC (mUp (mUp m5 b2 3 (p : Int)) b2 9 ck) (tbA m t + 4 + 6 * (10 * s + p)) = (srcM M iN).map fun r => rtPx r (p : Int) := by
      rw [← e2, rtC.up9 (by omega), rtC.pfx, r5, hr, ho]
    have s7 := snC.hear (v := ck) hs' lym ht (by omega) f7 r7 (by rw [← e2, mUp.yes ⟨rfl, rfl⟩])
    rw [show 20 * t + (10 * s + p) = slt t s p by unfold slt; omega] at s7
    have em : slt t s p % 10 = p := by unfold slt; omega
    have sn7 : snG E (hd! (tkN E A L t s M iN S) (slt t s p) ((srcM M iN).map fun r => rtPx r (p : Int)) ck) := snm.hear (by rw [em]; exact srcM.good hX h0) (fun q => by omega)
    have A2 : mAt w b2 200 := by
      have h2 : mAt w (tbA m t) 220 := tieAt hw T evm ht
      have h3 : mAt w (tbA m t + 2) 222 := (hT (tbA m t) 220 h2 4).2
      have h4' : ∀ k, 0 ≤ m (tbA m t + 2) k ∧ mAt w (m (tbA m t + 2) k).toNat 200 := fun k => T (tbA m t + 2) 222 h3 k
      have h4 := (h4' (10 * s + p)).2
      rw [(t3m (10 * s + p) (by omega)).1, Int.toNat_natCast, ← e2] at h4
      exact h4
    have F7 : mF lEC w m (mUp (mUp m5 b2 3 (p : Int)) b2 9 ck) := ((mF.refl.call F5 rfl).up A2 mUp_ok rfl).up A2 mUp_ok rfl
    have ev7 := envC.fr hw T evm F7
    refine X9_end_s ?_
    obtain ⟨a1, a2, _⟩ := ev7.2.2.2.2.1 t ht
    have tb7 : tbA (mUp (mUp m5 b2 3 (p : Int)) b2 9 ck) t = tbA μ t := (congrArg Int.toNat (f7 11 t (by omega))).trans tbe
    rw [tb7] at a1 a2
    rw [a1, a2]
    have ep : (if (s : Int) = 0 then eA E t else eB E t) = eN E t s := by
      unfold eN
      by_cases c9 : s = 0
      · rw [if_pos c9, if_pos (by omega)]
      · rw [if_neg c9, if_neg (by omega)]
    rw [ep]
    obtain ⟨d, ed, hd⟩ := eN.dom (s := s) en.1 ht
    rw [ed]
    intro _
    refine X8_look_s hw T7 ev7 s7 sn7 en.1 en.2.1 en.2.2.1 hd (by omega) fun m8 s8 l8 T8 F8 z8 _ => ih _ _ _ ⟨by omega, by omega, lo.trans (loC.trans (fun b i q0 q1 q2 q3 q4 q5 q6 => f7 b i (by omega)) l8), ?_⟩ (by omega)
    rw [show ((iN : Int) + 1).toNat = iN + 1 by omega, tkN.succ, tkOne.is fs, eck', ed]
    exact s8
  refine ⟨fun c3 => J 81 _ (by omega) rfl ?_, fun c3 => J 70 _ (by omega) rfl ?_⟩
  · have e : srcM M iN = some (uR M) := if_neg (by omega)
    rw [e, ← m4]
    exact rtC.of (fun i => lo8 _ _ (by omega) (by omega)) (fun i => lo8 _ _ (by omega) (by omega)) (fun i => lo8 _ _ (by omega) (by omega))
  · have e : srcM M iN = none := if_pos (by omega)
    rw [e]
    exact hs'.2.2.2.2.2.2
theorem X12_hearL_s {A L : Nat → Int} {t s : Nat} {M : Ms} {Q : Int → mM → Prop} (hw : mWF w) (hT : mT w μ) (ev : envR w μ E G) (hG : G μ) (gG : gSt G) (st : snR μ E S) (sn : snG E S) (en : enG E) (ht : t < eT E) (hs : s < 2) (tb : ∀ i, i < 10 → μ 108 i = A i ∧ μ 109 i = L i) (hM : msR μ M) (hX : msX M) (h0 : ¬ uT M = 0) (hMd : 0 ≤ sMd S ∧ sMd S + 50000 < 2147483647)
    (k : ∀ (z : Int) (m : mM), snR m E (tkN E A L t s M (uW M + uA M) S) → G m → loR μ m → envR w m E G → Q z m) : loopF (WL_X12_hear_W_1 w μ (t : Int) (s : Int) Q) False 2002 (0, 0, μ) := by
  obtain ⟨m1, m2, m3, m4, m5⟩ := hM.2 h0
  have p10 := en.1.2.2.2.2
  have t20 := en.1.2.2.1
  have d10 := en.1.2.2.2.1
  have x2000 := (hX h0).2.2.2.2
  refine loopF.iim (fun _ i m => 0 ≤ i ∧ i ≤ ((uW M + uA M : Nat) : Int) ∧ G m ∧ loR μ m ∧ snR m E (tkN E A L t s M i.toNat S)) (fun _ i => (2001 - i).toNat) ⟨by omega, by omega, hG, fun _ _ => rfl, st⟩ (by omega) ?_
  rintro rc z i m ⟨i0, i1, hg, lo, hs'⟩ ih z' i' m' ee rz ri T F wd ewd rwd an ean ran
  cases ee
  have evm := ev.fr hw (mF.refl.call F rfl)
  have f106 : ∀ j, j = 88 ∨ j = 91 → m 106 j = μ 106 j := fun j hj => by
    rcases hj with e | e <;> subst e <;> exact F.f (A_106 hw) rfl rfl
  rw [f106 88 (Or.inl rfl), m1] at ewd
  rw [f106 91 (Or.inr rfl), m2] at ean
  refine ⟨fun c => ?_, fun c => ?_⟩
  · have e : i.toNat = uW M + uA M := by omega
    rw [e] at hs'
    exact k z m hs' hg lo evm
  have md := tkN.cn (A := A) (L := L) sn en ht hs hX h0 i.toNat
  obtain ⟨iN, hiN⟩ : ∃ iN : Nat, i = (iN : Int) := ⟨i.toNat, by omega⟩
  subst hiN
  rw [Int.toNat_natCast] at hs' md
  have m6 := md.2.1
  have m7 := md.2.2.1
  have tbm : ∀ i, i < 10 → m 108 i = A i ∧ m 109 i = L i := fun i hi => by
    have e1 : m 108 i = μ 108 i := F.f (A_108 hw) rfl rfl
    have e2 : m 109 i = μ 109 i := F.f (A_109 hw) rfl rfl
    rw [e1, e2]
    exact tb i hi
  have r24 : rtR m 24 = some (uR M) := by
    rw [← m5]
    exact rtR.cg (hT.rb hw (by omega)).1.2 (hT.rb hw (by omega)).2.2 fun j hj => lo _ (by omega)
  have skip : ¬ fndP A L (eP E) (uX M iN) (uL M iN) → rc (z, (iN : Int) + 1, m) := fun nf => ih _ _ _ ⟨by omega, by omega, hg, lo, by
    rw [show ((iN : Int) + 1).toNat = iN + 1 by omega, tkN.succ, tkOne.no (fndF.no fun q hq h => nf ⟨q, hq, h⟩)]
    exact hs'⟩ (by omega)
  have J : ∀ p, p < eP E → A p = uX M iN → L p = uL M iN → (∀ q, q < p → ¬ (A q = uX M iN ∧ L q = uL M iN)) → WJ_X12_hear_W_2 w (t : Int) (s : Int) rc z (iN : Int) m wd (p : Int) := by
    intro p hp p1 p2 pf _
    refine ⟨fun _ => ?_, fun c2 => absurd c2 (by omega)⟩
    have fs := fndF.is (A := A) (L := L) hp p1 p2 pf
    have sl : (2 * (t : Int) + (s : Int)) * 10 + (p : Int) = ((slt t s p : Nat) : Int) := by unfold slt; omega
    show (0 ≤ (2 * (t : Int) + (s : Int)) * 10 + (p : Int) ∧ (2 * (t : Int) + (s : Int)) * 10 + (p : Int) ≤ 449) → _
    rw [sl]
    intro _
    have s400 : slt t s p < 400 := by unfold slt; omega
    have em : slt t s p % 10 = p := by unfold slt; omega
    have J3 : ∀ m8 : mM, onR m m8 (130 + ((slt t s p : Nat) : Int)) → rtR m8 (130 + ((slt t s p : Nat) : Int)) = (srcM M iN).map (fun r => rtPx r (p : Int)) → WJ_X12_hear_W_3 w (t : Int) (s : Int) rc (iN : Int) m (p : Int) ((slt t s p : Nat) : Int) m8 := by
      intro m8 o8 r8 T8 F8 ck eck rck m9 u9 T9 z9 _ dd edd rdd
      rw [Int.toNat_natCast] at u9
      obtain rfl := u9.is
      have eck' : sCk (tkN E A L t s M iN S) = ck := by
        rw [← eck, o8 106 71 (by omega)]
        exact hs'.2.2.2.1.symm
      have f9 : ∀ (b i : Nat), ¬ (b = 126 ∧ 40 * (130 + ((slt t s p : Nat) : Int)) ≤ (i : Int) ∧ (i : Int) < 40 * (130 + ((slt t s p : Nat) : Int)) + 40) → ¬ (b = 154 ∧ i = slt t s p) → mUp m8 154 (slt t s p) ck b i = m b i := fun b i q1 q2 => by
        rw [mUp.no q2]; exact o8 b i q1
      have s9 := snR.hear (v := ck) hs' hw T s400 t20 d10 f9 ((rtR.cg (μ := m8) (s := 130 + ((slt t s p : Nat) : Int)) (T8.rb hw (by omega)).1.2 (T8.rb hw (by omega)).2.2 (fun j hj => mUp.no (by omega))).trans r8) (mUp.yes ⟨rfl, rfl⟩)
      have sn9 : snG E (hd! (tkN E A L t s M iN S) (slt t s p) ((srcM M iN).map fun r => rtPx r (p : Int)) ck) := md.1.hear (by rw [em]; exact srcM.good hX h0) (fun q => by omega)
      have g9 : G (mUp m8 154 (slt t s p) ck) := gG m _ hg fun b i q1 q2 q3 => f9 b i (by omega) (by omega)
      have F9 : mF lER w m (mUp m8 154 (slt t s p) ck) := (mF.refl.call F8 rfl).up (A_154 hw) mUp_ok rfl
      have ev9 := evm.fr hw F9
      obtain ⟨c1, c2, _⟩ := ev9.2.2.2.1 t ht
      have edd' : eN E t s = dd := by
        rw [← edd]
        unfold eN
        by_cases c9 : s = 0
        · rw [if_pos c9, show (2 * (t : Int) + (s : Int)).toNat = 2 * t by omega]; exact c1.symm
        · rw [if_neg c9, show (2 * (t : Int) + (s : Int)).toNat = 2 * t + 1 by omega]; exact c2.symm
      obtain ⟨d, ed, hd⟩ := eN.dom (s := s) en.1 ht
      rw [← edd', ed]
      refine X12_look_s hw T9 ev9 g9 gG s9 sn9 en.1 en.2.1 en.2.2.1 hd (by omega) ⟨by show 0 ≤ sMd (tkN E A L t s M iN S); omega, by show sMd (tkN E A L t s M iN S) + 20 < 2147483647; omega⟩ fun m10 s10 g10 l10 _ _ => ih _ _ _ ⟨by omega, by omega, g10, fun j hj => ?_, ?_⟩ (by omega)
      · rw [l10 j hj, f9 126 j (by omega) (by omega)]; exact lo j hj
      · rw [show ((iN : Int) + 1).toNat = iN + 1 by omega, tkN.succ, tkOne.is fs, eck', ed]
        exact s10
    refine ⟨fun c3 y _ _ => ?_, fun c3 => ?_⟩
    · have e : srcM M iN = some (uR M) := if_neg (by omega)
      refine X12_copy_s (by omega) (by omega) (by omega) (T.rb hw (by omega)).1.2 (T.rb hw (by omega)).2.2 fun m8 r8 _ o8 T8 F8 y8 _ m9 u9 T9 => ?_
      obtain rfl := u9.is
      refine J3 _ (o8.trans fun b i q => mUp.no (by omega)) ?_
      rw [e, rtR.pfx (x := uR M) (by omega) (by omega) (T8.rb hw (by omega)).1.2 (r8.trans r24)]
      rfl
    · have e : srcM M iN = none := if_pos (by omega)
      refine X12_nothing_s (by omega) fun m8 r8 f8 T8 F8 y8 _ => J3 m8 (fun b i q => f8 b i (by omega)) ?_
      rw [e, r8]
      rfl
  have J0 : ¬ fndP A L (eP E) (uX M iN) (uL M iN) → WJ_X12_hear_W_2 w (t : Int) (s : Int) rc z (iN : Int) m wd (-99999999) := fun nf _ => ⟨fun c2 => absurd rfl c2, fun _ => skip nf⟩
  refine ⟨fun c2 a ea _ l el _ => ?_, fun c2 a ea _ l el _ => ?_⟩
  · have f168 : ∀ b, b = 168 ∨ b = 169 → m b = μ b := fun b hb => by
      rcases hb with e | e <;> subst e <;> exact funext fun j => F.f (by first | exact A_168 hw | exact A_169 hw) rfl rfl
    have q := m4 (iN - uW M) (by omega)
    rw [f168 168 (Or.inl rfl), show ((iN : Int) - wd).toNat = iN - uW M by omega, q.1, show uW M + (iN - uW M) = iN by omega] at ea
    rw [f168 169 (Or.inr rfl), show ((iN : Int) - wd).toNat = iN - uW M by omega, q.2, show uW M + (iN - uW M) = iN by omega] at el
    subst ea el
    exact X12_prefixOf_s evm.2.1 tbm (fun nf _ => J0 nf) (fun p hp p1 p2 pf _ => J p hp p1 p2 pf)
  · have f166 : ∀ b, b = 166 ∨ b = 167 → m b = μ b := fun b hb => by
      rcases hb with e | e <;> subst e <;> exact funext fun j => F.f (by first | exact A_166 hw | exact A_167 hw) rfl rfl
    have q := m3 iN (by omega)
    rw [f166 166 (Or.inl rfl), Int.toNat_natCast, q.1] at ea
    rw [f166 167 (Or.inr rfl), Int.toNat_natCast, q.2] at el
    subst ea el
    exact X12_prefixOf_s evm.2.1 tbm (fun nf _ => J0 nf) (fun p hp p1 p2 pf _ => J p hp p1 p2 pf)
end Hear
end
section
/-! hear: both halves. -/
noncomputable def hea! (x : St) (t s : Int) : St := cIf ((0 ≤ t ∧ t < (eT (xE x) : Int)) ∧ (0 ≤ s ∧ s ≤ 1)) (if uT (xM x) = 0 ∨ eU (xE x) t.toNat = 0 then x else (xE x, xJ x, tkN (xE x) (jA (xJ x)) (jL (xJ x)) t.toNat s.toNat (xM x) (uW (xM x) + uA (xM x)) (xS x), xH x)) x
section Hea
variable {w : mW} {μ : mM} {x : St}
theorem hea!.no {t s : Int} (c : ¬ ((0 ≤ t ∧ t < (eT (xE x) : Int)) ∧ (0 ≤ s ∧ s ≤ 1))) : hea! x t s = x := cIf.neg c
theorem hea!.out {t s : Int} (c : uT (xM x) = 0 ∨ eU (xE x) t.toNat = 0) : hea! x t s = x := by
  by_cases g : (0 ≤ t ∧ t < (eT (xE x) : Int)) ∧ (0 ≤ s ∧ s ≤ 1)
  · exact (cIf.pos g).trans (if_pos c)
  · exact cIf.neg g
theorem hea!.is {t s : Int} (g : (0 ≤ t ∧ t < (eT (xE x) : Int)) ∧ (0 ≤ s ∧ s ≤ 1)) (c : ¬ uT (xM x) = 0) (u : ¬ eU (xE x) t.toNat = 0) : hea! x t s = (xE x, xJ x, tkN (xE x) (jA (xJ x)) (jL (xJ x)) t.toNat s.toNat (xM x) (uW (xM x) + uA (xM x)) (xS x), xH x) := (cIf.pos g).trans (if_neg fun q => q.elim c u)
theorem C_hear {t s : Int} (hw : mWF w) (hT : mT w μ) (h : KCl w μ x) (k : KX x) : WP_X11_hear_W w μ t s (fun _ m => mF lLC w μ m → KCl w m (hea! x t s)) := by
  have ev := h.env hw hT k
  have hM := h.2.2.2.2.2.2
  intro _ _ _ _ _ _ _ _ _
  refine X11_isTie_s ev fun z hz rz => ⟨fun c _ => ?_, fun c => X11_isEither_s fun y hy ry => ⟨fun c2 u eu ru => ⟨fun c3 _ => ?_, fun c3 b eb _ v ev' rv => ⟨fun c4 => ?_, fun c4 _ => ?_⟩⟩, fun c2 _ => ?_⟩⟩
  · rw [hea!.no fun g => by have := hz.mpr g.1; omega]; exact h
  · rw [hea!.out (Or.inl (hM.1.symm.trans (eu.trans c3)))]; exact h
  · have gt := hz.mp (by omega)
    have gs := hy.mp (by omega)
    have tn : t.toNat < eT (xE x) := by omega
    have t1 := (ev.2.2.2.1.1 t.toNat tn).1
    have eb' : b = tbA μ t.toNat := by omega
    subst eb'
    have nu : ¬ uT (xM x) = 0 := fun q => c3 (eu.symm.trans (hM.1.trans q))
    have uu : ¬ eU (xE x) t.toNat = 0 := fun q => c4 (ev'.symm.trans ((ev.2.2.2.2.1 t.toNat tn).2.2.1.trans q))
    rw [hea!.is ⟨gt, gs⟩ nu uu]
    have g := X8_takeIn_s (w := w) (μ := μ) (E := xE x) (S := xS x) (t := t.toNat) (s := s.toNat) (M := xM x) (Q := fun z165 μ161 => mT w μ161 → mF [21002, 21003, 21004, 21005, 21006, 21007, 32009, 32010, 33999, 34999, 66999, 200002, 200003, 200004, 200005, 200006, 200007, 200008, 200009, 200010, 200011, 201999, 202999, 213999] w μ μ161 → ((-2147483648) ≤ z165 ∧ z165 ≤ 2147483647) → mF lLC w μ μ161 → KCl w μ161 (xE x, xJ x, tkN (xE x) (jA (xJ x)) (jL (xJ x)) t.toNat s.toNat (xM x) (uW (xM x) + uA (xM x)) (xS x), xH x)) hw hT ev h.2.2.2.2.1 k.1 k.2.1 tn (by omega) h.2.1.2.1 hM k.2.2.2.2.2.1.2.1 nu (fun z m sn lo _ F0 _ F => h.next hw hT F (envC.fr hw hT ev (mF.refl.call F0 rfl)) sn lo.d rfl rfl rfl)
    rw [Int.toNat_of_nonneg gt.1, Int.toNat_of_nonneg gs.1] at g
    exact g
  · have tn : t.toNat < eT (xE x) := by have := hz.mp (by omega); omega
    have t1 := (ev.2.2.2.1.1 t.toNat tn).1
    have eb' : b = tbA μ t.toNat := by omega
    subst eb'
    rw [hea!.out (Or.inr ((ev.2.2.2.2.1 t.toNat tn).2.2.1.symm.trans (ev'.trans c4)))]; exact h
  · rw [hea!.no fun g => by have := hy.mpr g.2; omega]; exact h
theorem R_hear {t s : Int} (hw : mWF w) (hT : mT w μ) (h : KRf μ x) (k : KX x) (hM0 : sMd (xS x) ≤ 2000000000) : WP_X12_hear_W w μ t s (fun _ m => mF lKR w μ m → KRf m (hea! x t s)) := by
  have ev := h.env (w := w) hw k
  have hM := h.2.2.2.2.2.1.2
  have m0 := k.2.2.2.2.2.2.1
  intro _ _ _
  refine X12_isTie_s ev fun z hz rz => ⟨fun c _ => ?_, fun c => X12_in_s fun y hy ry => ⟨fun c2 u eu ru => ⟨fun c3 _ => ?_, fun c3 u2 eu2 ru2 => ⟨fun c5 _ => ?_, fun c5 v ev' rv => ⟨fun c4 => ?_, fun c4 _ => ?_⟩⟩⟩, fun c2 _ => ?_⟩⟩
  · rw [hea!.no fun g => by have := hz.mpr g.1; omega]; exact h
  · rw [hea!.out (Or.inl (hM.1.mpr (Or.inl (eu.trans c3))))]; exact h
  · rw [hea!.out (Or.inl (hM.1.mpr (Or.inr (by rw [eu2]; exact c5))))]; exact h
  · have gt := hz.mp (by omega)
    have gs := hy.mp (by omega)
    have tn : t.toNat < eT (xE x) := by omega
    have nu : ¬ uT (xM x) = 0 := fun q => by
      rcases hM.1.mp q with q | q
      · exact c3 (eu.symm.trans q)
      · exact q (eu2.trans c5)
    have uu : ¬ eU (xE x) t.toNat = 0 := fun q => c4 (ev'.symm.trans ((ev.2.2.2.1 t.toNat tn).2.2.1.trans q))
    rw [hea!.is ⟨gt, gs⟩ nu uu]
    have g := X12_hearL_s (w := w) (μ := μ) (E := xE x) (S := xS x) (G := gJ) (t := t.toNat) (s := s.toNat) (M := xM x) (Q := fun _ m => mF lKR w μ m → KRf m (xE x, xJ x, tkN (xE x) (jA (xJ x)) (jL (xJ x)) t.toNat s.toNat (xM x) (uW (xM x) + uA (xM x)) (xS x), xH x)) hw hT ev h.2.2.2.2.2.2.1 gJ.st h.2.2.2.2.1 k.1 k.2.1 tn (by omega) h.2.1.2.1 hM k.2.2.2.2.2.1.2.1 nu ⟨m0, by omega⟩ (fun z m sn g lo ev2 F => h.next hw hT F ev2 sn g lo rfl rfl rfl)
    rw [Int.toNat_of_nonneg gt.1, Int.toNat_of_nonneg gs.1] at g
    exact g
  · have tn : t.toNat < eT (xE x) := by have := hz.mp (by omega); omega
    rw [hea!.out (Or.inr ((ev.2.2.2.1 t.toNat tn).2.2.1.symm.trans (ev'.trans c4)))]; exact h
  · rw [hea!.no fun g => by have := hy.mpr g.2; omega]; exact h
theorem X_hear {t s : Int} (k : KX x) : kxS x (hea! x t s) := by
  by_cases g : (0 ≤ t ∧ t < (eT (xE x) : Int)) ∧ (0 ≤ s ∧ s ≤ 1)
  · by_cases c : uT (xM x) = 0 ∨ eU (xE x) t.toNat = 0
    · rw [hea!.out c]; exact kxS.refl k
    · rw [hea!.is g (fun q => c (Or.inl q)) (fun q => c (Or.inr q))]
      have x2 := k.2.2.2.2.2.1.2.1 (fun q => c (Or.inl q))
      have n2 := x2.2.2.2.2
      exact k.next k.2.1 (tkN.cn (A := jA (xJ x)) (L := jL (xJ x)) k.1 k.2.1 (by omega) (by omega) k.2.2.2.2.2.1.2.1 (fun q => c (Or.inl q)) _) (by omega) rfl rfl k.2.2.2.2.2.2.2
  · rw [hea!.no g]; exact kxS.refl k
end Hea
end
section
/-! A message: what its octets tell, as a function. -/
theorem sx_or {x y c : Int} : bShl (bOr x y) c = bOr (bShl x c) (bShl y c) := by
  simp only [bShl, bOr, Int32.ofInt_toInt, Int32.shiftLeft_or]
theorem sx_z {c : Int} : bShl 0 c = 0 := by
  unfold bShl
  rw [show Int32.ofInt 0 = 0 from rfl, Int32.zero_shiftLeft]
  rfl
theorem sx_i {x a b c : Int32} {m n : Nat} (ha : (a.toBitVec.smod 32).toNat = m) (hb : (b.toBitVec.smod 32).toNat = n) (hc : (c.toBitVec.smod 32).toNat = m + n) : (x <<< a) <<< b = x <<< c := by
  apply Int32.toBitVec_inj.mp
  rw [Int32.toBitVec_shiftLeft, Int32.toBitVec_shiftLeft, Int32.toBitVec_shiftLeft, BitVec.shiftLeft_eq', BitVec.shiftLeft_eq', BitVec.shiftLeft_eq', ha, hb, hc, BitVec.shiftLeft_add]
theorem sx_88 {x : Int} : bShl (bShl x 8) 8 = bShl x 16 := by
  unfold bShl
  rw [Int32.ofInt_toInt]
  exact congrArg Int32.toInt (sx_i (m := 8) (n := 8) (by decide) (by decide) (by decide))
theorem sx_8s {x : Int} : bShl (bShl x 8) 16 = bShl x 24 := by
  unfold bShl
  rw [Int32.ofInt_toInt]
  exact congrArg Int32.toInt (sx_i (m := 8) (n := 16) (by decide) (by decide) (by decide))
theorem sx_s8 {x : Int} : bShl (bShl x 16) 8 = bShl x 24 := by
  unfold bShl
  rw [Int32.ofInt_toInt]
  exact congrArg Int32.toInt (sx_i (m := 16) (n := 8) (by decide) (by decide) (by decide))
theorem sx_0 {x c : Int} : bShl (bShl x c) 0 = bShl x c := by
  unfold bShl
  rw [Int32.ofInt_toInt, show Int32.ofInt 0 &&& 31 = 0 from by decide, Int32.shiftLeft_zero]
/-- n octets behind k, laid from the left -/
def adX (B : Int → Int) (k : Int) : Nat → Int
  | 0 => 0
  | n + 1 => bOr (adX B k n) (bShl (B (k + 1 + (n : Int))) (24 - 8 * (n : Int)))
/-- n octets from a on, as a number -/
def nmX (B : Int → Int) (a : Int) : Nat → Int
  | 0 => 0
  | n + 1 => bOr (bShl (nmX B a n) 8) (B (a + (n : Int)))
theorem adX.e0 : (24 : Int) - 8 * ((0 : Nat) : Int) = 24 := rfl
theorem adX.e1 : (24 : Int) - 8 * ((1 : Nat) : Int) = 16 := rfl
theorem adX.e2 : (24 : Int) - 8 * ((2 : Nat) : Int) = 8 := rfl
theorem adX.e3 : (24 : Int) - 8 * ((3 : Nat) : Int) = 0 := rfl
theorem adX.n1 {B : Int → Int} {k : Int} : bShl (nmX B (k + 1) 1) 24 = adX B k 1 := by
  simp only [nmX, adX, adX.e0, sx_or, sx_z]
theorem adX.n2 {B : Int → Int} {k : Int} : bShl (nmX B (k + 1) 2) 16 = adX B k 2 := by
  simp only [nmX, adX, adX.e0, adX.e1, sx_or, sx_z, sx_8s]
theorem adX.n3 {B : Int → Int} {k : Int} : bShl (nmX B (k + 1) 3) 8 = adX B k 3 := by
  simp only [nmX, adX, adX.e0, adX.e1, adX.e2, sx_or, sx_z, sx_88, sx_s8]
theorem adX.n4 {B : Int → Int} {k : Int} : bShl (nmX B (k + 1) 4) 0 = adX B k 4 := by
  simp only [nmX, adX, adX.e0, adX.e1, adX.e2, adX.e3, sx_or, sx_z, sx_88, sx_s8, sx_0]
theorem adX.of {B : Int → Int} {k n v s z : Int} (hn : 1 ≤ n ∧ n ≤ 4) (hv : nmX B (k + 1) n.toNat = v) (hs : s = 32 - 8 * n) (q : bShl v s = z) : adX B k n.toNat = z := by
  subst hs q hv
  have h : n = 1 ∨ n = 2 ∨ n = 3 ∨ n = 4 := by omega
  rcases h with e | e | e | e <;> subst e
  · exact adX.n1.symm
  · exact adX.n2.symm
  · exact adX.n3.symm
  · exact adX.n4.symm
theorem adX.succ {B : Int → Int} {k i v e b s t z : Int} (h : adX B k i.toNat = v) (h0 : 0 ≤ i) (he : e = k + 1 + i) (q1 : B e = b) (hs : s = 24 - 8 * i) (q2 : bShl b s = t) (q3 : bOr v t = z) : adX B k (i + 1).toNat = z := by
  have e1 : (i + 1).toNat = i.toNat + 1 := by omega
  have e2 : ((i.toNat : Nat) : Int) = i := Int.toNat_of_nonneg h0
  rw [e1]
  show bOr (adX B k i.toNat) (bShl (B (k + 1 + ((i.toNat : Nat) : Int))) (24 - 8 * ((i.toNat : Nat) : Int))) = z
  rw [e2, h, ← he, q1, ← hs, q2, q3]
theorem sx_as {x y z : Int} : bOr (bOr x y) z = bOr x (bOr y z) := by
  simp only [bOr, Int32.ofInt_toInt, Int32.or_assoc]
theorem sx_oz {x c : Int} : bOr 0 (bShl x c) = bShl x c := by
  unfold bOr bShl
  rw [Int32.ofInt_toInt, show Int32.ofInt 0 = 0 from rfl, Int32.zero_or]
theorem sx_49f : ∀ b : Fin 256, bAnd ((b.val : Nat) : Int) 207 = bAnd ((b.val : Nat) : Int) (-49) := by decide +kernel
theorem sx_49 {b : Int} (h : 0 ≤ b ∧ b ≤ 255) : bAnd b (-49) = bAnd b 207 := by
  have e : ((b.toNat : Nat) : Int) = b := Int.toNat_of_nonneg h.1
  have g : bAnd ((b.toNat : Nat) : Int) 207 = bAnd ((b.toNat : Nat) : Int) (-49) := sx_49f ⟨b.toNat, by omega⟩
  rw [e] at g; exact g.symm
theorem sx_0bf : ∀ b : Fin 256, bOr (bShl 0 8) ((b.val : Nat) : Int) = ((b.val : Nat) : Int) := by decide +kernel
theorem sx_0b {b : Int} (h : 0 ≤ b ∧ b ≤ 255) : bOr (bShl 0 8) b = b := by
  have e : ((b.toNat : Nat) : Int) = b := Int.toNat_of_nonneg h.1
  have g : bOr (bShl 0 8) ((b.toNat : Nat) : Int) = ((b.toNat : Nat) : Int) := sx_0bf ⟨b.toNat, by omega⟩
  rw [e] at g; exact g
def pr2 (B : Int → Int) (k : Int) : Int := bOr (bShl (B k) 8) (B (k + 1))
def pr4 (B : Int → Int) (k : Int) : Int := bOr (bShl (pr2 B k) 16) (pr2 B (k + 2))
theorem nmX.one {B : Int → Int} {k : Int} (h : 0 ≤ B k ∧ B k ≤ 255) : nmX B k 1 = B k := by
  show bOr (bShl 0 8) (B (k + ((0 : Nat) : Int))) = B k
  rw [show k + ((0 : Nat) : Int) = k by omega]
  exact sx_0b h
theorem nmX.two {B : Int → Int} {k : Int} : nmX B k 2 = pr2 B k := by
  show bOr (bShl (bOr (bShl 0 8) (B (k + ((0 : Nat) : Int)))) 8) (B (k + ((1 : Nat) : Int))) = bOr (bShl (B k) 8) (B (k + 1))
  rw [show k + ((0 : Nat) : Int) = k by omega, show k + ((1 : Nat) : Int) = k + 1 by omega, sx_z, sx_or, sx_z, sx_oz]
theorem nmX.four {B : Int → Int} {k : Int} : nmX B k 4 = pr4 B k := by
  show bOr (bShl (bOr (bShl (nmX B k 2) 8) (B (k + ((2 : Nat) : Int)))) 8) (B (k + ((3 : Nat) : Int))) = bOr (bShl (pr2 B k) 16) (bOr (bShl (B (k + 2)) 8) (B (k + 2 + 1)))
  rw [nmX.two, show k + ((2 : Nat) : Int) = k + 2 by omega, show k + ((3 : Nat) : Int) = k + 2 + 1 by omega]
  unfold pr2
  rw [sx_or, sx_or, sx_or, sx_88, sx_8s, sx_88, sx_or, sx_8s, sx_as]
/-- the address that stands at k -/
def adr (B : Int → Int) (k : Int) : Int := bAnd (adX B k ((B k + 7) / 8).toNat) (mskF (B k))
/-- the prefixes from k on, as far as e; none: they don't fit -/
def pfS (B : Int → Int) (e : Int) : Nat → Int → Option (List (Int × Int))
  | 0, k => if e ≤ k then some [] else none
  | n + 1, k => if e ≤ k then some [] else if 32 < B k ∨ e < k + 1 + (B k + 7) / 8 then none else (pfS B e n (k + 1 + (B k + 7) / 8)).map fun l => (adr B k, B k) :: l
theorem pfS.done {B : Int → Int} {e k : Int} {n : Nat} (h : e ≤ k) : pfS B e n k = some [] := by
  cases n with
  | zero => exact if_pos h
  | succ n => exact if_pos h
theorem pfS.bad {B : Int → Int} {e k : Int} {n : Nat} (h : k < e) (hb : 32 < B k ∨ e < k + 1 + (B k + 7) / 8) : pfS B e n k = none := by
  cases n with
  | zero => exact if_neg (by omega)
  | succ n => exact (if_neg (by omega)).trans (if_pos hb)
theorem pfS.go {B : Int → Int} {e k : Int} {n : Nat} (h : k < e) (hb : ¬ (32 < B k ∨ e < k + 1 + (B k + 7) / 8)) : pfS B e (n + 1) k = (pfS B e n (k + 1 + (B k + 7) / 8)).map fun l => (adr B k, B k) :: l := (if_neg (by omega)).trans (if_neg hb)
theorem pfS.len {B : Int → Int} {e : Int} : ∀ {n : Nat} {k : Int} {l : List (Int × Int)}, (∀ i, k ≤ i → i < e → 0 ≤ B i) → pfS B e n k = some l → (l.length : Int) ≤ e - k ∨ l = []
  | 0, k, l, _, h => by
    by_cases c : e ≤ k
    · rw [pfS.done c] at h
      exact Or.inr (Option.some.inj h).symm
    · have h : (if e ≤ k then some [] else none) = some l := h
      rw [if_neg c] at h
      cases h
  | n + 1, k, l, hB, h => by
    by_cases c : e ≤ k
    · rw [pfS.done c] at h
      exact Or.inr (Option.some.inj h).symm
    by_cases cb : 32 < B k ∨ e < k + 1 + (B k + 7) / 8
    · rw [pfS.bad (by omega) cb] at h
      cases h
    rw [pfS.go (by omega) cb] at h
    have b0 := hB k (by omega) (by omega)
    cases e2 : pfS B e n (k + 1 + (B k + 7) / 8) with
    | none => rw [e2] at h; cases h
    | some l2 =>
      rw [e2] at h
      have h : (adr B k, B k) :: l2 = l := Option.some.inj h
      left
      rw [← h]
      show ((l2.length + 1 : Nat) : Int) ≤ e - k
      rcases pfS.len (fun i h1 h2 => hB i (by omega) h2) e2 with g | g
      · omega
      · rw [g]
        show ((0 + 1 : Nat) : Int) ≤ e - k
        omega
/-- x below y, as numbers without sign -/
def uB (x y : Int) : Prop := bXor x (-2147483648) < bXor y (-2147483648)
/-- where x goes among the d numbers from a on -/
noncomputable def plW (f : Nat → Int) (x : Int) (a : Nat) : Nat → Nat
  | 0 => a
  | d + 1 => cIf (uB x (f (a + d))) (plW f x a d) (a + d + 1)
theorem plW.le {f : Nat → Int} {x : Int} {a : Nat} : ∀ d : Nat, a ≤ plW f x a d ∧ plW f x a d ≤ a + d
  | 0 => ⟨Nat.le_refl _, Nat.le_refl _⟩
  | d + 1 => by
    show a ≤ cIf (uB x (f (a + d))) (plW f x a d) (a + d + 1) ∧ cIf (uB x (f (a + d))) (plW f x a d) (a + d + 1) ≤ a + (d + 1)
    have ih := plW.le (f := f) (x := x) (a := a) d
    by_cases c : uB x (f (a + d))
    · rw [cIf.pos c]; omega
    · rw [cIf.neg c]; omega
theorem plW.yes {f : Nat → Int} {x : Int} {a d : Nat} (h : uB x (f (a + d))) : plW f x a (d + 1) = plW f x a d := cIf.pos h
theorem plW.no {f : Nat → Int} {x : Int} {a d : Nat} (h : ¬ uB x (f (a + d))) : plW f x a (d + 1) = a + d + 1 := cIf.neg h
theorem plW.cg {f g : Nat → Int} {x : Int} {a : Nat} : ∀ {d : Nat}, (∀ i, i < a + d → g i = f i) → plW g x a d = plW f x a d
  | 0, _ => rfl
  | d + 1, h => by
    show cIf (uB x (g (a + d))) (plW g x a d) (a + d + 1) = cIf (uB x (f (a + d))) (plW f x a d) (a + d + 1)
    rw [h (a + d) (by omega), plW.cg (f := f) fun i hi => h i (by omega)]
/-- x laid in at z: what stood from z on moves up -/
def inF (f : Nat → Int) (x : Int) (z : Nat) : Nat → Int := fun j => if j < z then f j else if j = z then x else f (j - 1)
/-- the numbers of one part of a way: the i first ones -/
noncomputable def sgF (B : Int → Int) (k : Int) (a : Nat) (f : Nat → Int) : Nat → Nat → Int
  | 0 => f
  | i + 1 => cIf (B k = 1) (inF (sgF B k a f i) (pr4 B (k + 2 + 4 * (i : Int))) (plW (sgF B k a f i) (pr4 B (k + 2 + 4 * (i : Int))) a i)) (fun j => if j = a + i then pr4 B (k + 2 + 4 * (i : Int)) else sgF B k a f i j)
theorem sgF.set {B : Int → Int} {k : Int} {a i : Nat} {f : Nat → Int} (h : B k = 1) : sgF B k a f (i + 1) = inF (sgF B k a f i) (pr4 B (k + 2 + 4 * (i : Int))) (plW (sgF B k a f i) (pr4 B (k + 2 + 4 * (i : Int))) a i) := cIf.pos h
theorem sgF.row {B : Int → Int} {k : Int} {a i : Nat} {f : Nat → Int} (h : ¬ B k = 1) : sgF B k a f (i + 1) = fun j => if j = a + i then pr4 B (k + 2 + 4 * (i : Int)) else sgF B k a f i j := cIf.neg h
theorem sgF.lo {B : Int → Int} {k : Int} {a : Nat} {f : Nat → Int} : ∀ {i j : Nat}, j < a → sgF B k a f i j = f j
  | 0, _, _ => rfl
  | i + 1, j, h => by
    by_cases c : B k = 1
    · rw [sgF.set c]
      have p := (plW.le (f := sgF B k a f i) (x := pr4 B (k + 2 + 4 * (i : Int))) (a := a) i).1
      show (if j < _ then sgF B k a f i j else _) = f j
      rw [if_pos (by omega)]
      exact sgF.lo h
    · rw [sgF.row c]
      show (if j = a + i then _ else sgF B k a f i j) = f j
      rw [if_neg (by omega)]
      exact sgF.lo h
/-- a way: how many numbers; none: it doesn't fit -/
def wyT (B : Int → Int) (e : Int) : Nat → Int → Nat → Option Nat
  | 0, k, a => if e ≤ k then some a else none
  | n + 1, k, a => if e ≤ k then some a else if e < k + 2 ∨ ¬ (1 ≤ B k ∧ B k ≤ 2) ∨ B (k + 1) < 1 ∨ e < k + 2 + 4 * B (k + 1) then none else wyT B e n (k + 2 + 4 * B (k + 1)) (a + (B (k + 1)).toNat)
noncomputable def wyF (B : Int → Int) (e : Int) : Nat → Int → Nat → (Nat → Int) → Nat → Int
  | 0, _, _, f => f
  | n + 1, k, a, f => if e ≤ k then f else wyF B e n (k + 2 + 4 * B (k + 1)) (a + (B (k + 1)).toNat) (sgF B k a f (B (k + 1)).toNat)
theorem wyT.done {B : Int → Int} {e k : Int} {n a : Nat} (h : e ≤ k) : wyT B e n k a = some a := by
  cases n with
  | zero => exact if_pos h
  | succ n => exact if_pos h
theorem wyF.done {B : Int → Int} {e k : Int} {n a : Nat} {f : Nat → Int} (h : e ≤ k) : wyF B e n k a f = f := by
  cases n with
  | zero => rfl
  | succ n => exact if_pos h
theorem wyT.bad {B : Int → Int} {e k : Int} {n a : Nat} (h : k < e) (hb : e < k + 2 ∨ ¬ (1 ≤ B k ∧ B k ≤ 2) ∨ B (k + 1) < 1 ∨ e < k + 2 + 4 * B (k + 1)) : wyT B e n k a = none := by
  cases n with
  | zero => exact if_neg (by omega)
  | succ n => exact (if_neg (by omega)).trans (if_pos hb)
theorem wyT.go {B : Int → Int} {e k : Int} {n a : Nat} (h : k < e) (hb : ¬ (e < k + 2 ∨ ¬ (1 ≤ B k ∧ B k ≤ 2) ∨ B (k + 1) < 1 ∨ e < k + 2 + 4 * B (k + 1))) : wyT B e (n + 1) k a = wyT B e n (k + 2 + 4 * B (k + 1)) (a + (B (k + 1)).toNat) := (if_neg (by omega)).trans (if_neg hb)
theorem wyF.go {B : Int → Int} {e k : Int} {n a : Nat} {f : Nat → Int} (h : k < e) : wyF B e (n + 1) k a f = wyF B e n (k + 2 + 4 * B (k + 1)) (a + (B (k + 1)).toNat) (sgF B k a f (B (k + 1)).toNat) := if_neg (by omega)
theorem wyT.le {B : Int → Int} {e : Int} : ∀ {n : Nat} {k : Int} {a t : Nat}, wyT B e n k a = some t → a ≤ t
  | 0, k, a, t, h => by
    have h : (if e ≤ k then some a else none) = some t := h
    by_cases c : e ≤ k
    · rw [if_pos c] at h
      rw [Option.some.inj h]
      exact Nat.le_refl _
    · rw [if_neg c] at h
      cases h
  | n + 1, k, a, t, h => by
    by_cases c : e ≤ k
    · rw [wyT.done c] at h
      rw [Option.some.inj h]
      exact Nat.le_refl _
    by_cases cb : e < k + 2 ∨ ¬ (1 ≤ B k ∧ B k ≤ 2) ∨ B (k + 1) < 1 ∨ e < k + 2 + 4 * B (k + 1)
    · rw [wyT.bad (by omega) cb] at h
      cases h
    rw [wyT.go (by omega) cb] at h
    have := wyT.le h
    omega
/-- a way that fits -/
noncomputable def wyZ (B : Int → Int) (k e : Int) : Option (List Int) := match wyT B e 1001 k 0 with
  | none => none
  | some t => if t ≤ 20 then some (rowL (wyF B e 1001 k 0 fun _ => 0) t) else none
theorem wyZ.none' {B : Int → Int} {k e : Int} (h : ∀ t, wyT B e 1001 k 0 = some t → 20 < t) : wyZ B k e = none := by
  unfold wyZ
  cases c : wyT B e 1001 k 0 with
  | none => rfl
  | some t => exact if_neg (by have := h t c; omega)
theorem wyZ.some' {B : Int → Int} {k e : Int} {t : Nat} (h : wyT B e 1001 k 0 = some t) (ht : t ≤ 20) : wyZ B k e = some (rowL (wyF B e 1001 k 0 fun _ => 0) t) := by
  unfold wyZ
  rw [h]
  exact if_pos ht
theorem wyZ.len {B : Int → Int} {k e : Int} {W : List Int} (h : wyZ B k e = some W) : W.length ≤ 20 := by
  unfold wyZ at h
  cases c : wyT B e 1001 k 0 with
  | none => rw [c] at h; cases h
  | some t =>
    rw [c] at h
    have h : (if t ≤ 20 then some (rowL (wyF B e 1001 k 0 fun _ => 0) t) else none) = some W := h
    by_cases g : t ≤ 20
    · rw [if_pos g] at h
      rw [← Option.some.inj h, rowL.len]
      exact g
    · rw [if_neg g] at h
      cases h
/-- the marks: n of them from k on -/
def mkS (B : Int → Int) (k : Int) : Nat → List Int
  | 0 => []
  | n + 1 => addM (mkS B k n) (pr2 B (k + 4 * (n : Int) + 2))
theorem mkS.srt {B : Int → Int} {k : Int} : ∀ n : Nat, srt (mkS B k n)
  | 0 => List.Pairwise.nil
  | n + 1 => addM.srt (mkS.srt n)
theorem mkS.len {B : Int → Int} {k : Int} : ∀ n : Nat, (mkS B k n).length ≤ 8
  | 0 => by show 0 ≤ 8; omega
  | n + 1 => addM.len (mkS.len n)
/-- seen; a fault of the second kind; origin, way told; origin, cost, way, marks -/
abbrev Ma : Type := (Int → Int) × Int × Int × Int × Int × Int × List Int × List Int
abbrev aS (A : Ma) : Int → Int := A.1
abbrev aF (A : Ma) : Int := A.2.1
abbrev aO (A : Ma) : Int := A.2.2.1
abbrev aY (A : Ma) : Int := A.2.2.2.1
abbrev aR (A : Ma) : Int := A.2.2.2.2.1
abbrev aC (A : Ma) : Int := A.2.2.2.2.2.1
abbrev aW (A : Ma) : List Int := A.2.2.2.2.2.2.1
abbrev aM (A : Ma) : List Int := A.2.2.2.2.2.2.2
def A0 : Ma := (fun _ => 0, 0, 0, 0, 0, 0, [], [])
def a2! (A : Ma) : Ma := (aS A, 1, aO A, aY A, aR A, aC A, aW A, aM A)
def aS! (A : Ma) (t : Int) : Ma := (fun j => if j = t then 1 else aS A j, A.2)
def aO! (A : Ma) (o : Int) : Ma := (aS A, aF A, 1, aY A, o, aC A, aW A, aM A)
def aW! (A : Ma) (W : List Int) : Ma := (aS A, aF A, aO A, 1, aR A, aC A, W, aM A)
def aC! (A : Ma) (c : Int) : Ma := (aS A, aF A, aO A, aY A, aR A, c, aW A, aM A)
def aM! (A : Ma) (S : List Int) : Ma := (aS A, aF A, aO A, aY A, aR A, aC A, aW A, S)
def clp (c : Int) : Int := if c < 0 ∨ 1000000 < c then 1000000 else c
/-- an attribute at k, whose body of n octets begins at b -/
noncomputable def atO (B : Int → Int) (k b n : Int) (A : Ma) : Ma :=
  if ¬ aS A (B (k + 1)) = 0 then A
  else if B (k + 1) = 1 then (if bAnd (B k) 207 = 64 ∧ n = 1 ∧ B b ≤ 2 then aO! (aS! A (B (k + 1))) (B b) else a2! (aS! A (B (k + 1))))
  else if B (k + 1) = 2 then (if bAnd (B k) 207 = 64 then (match wyZ B b (b + n) with | none => a2! (aS! A (B (k + 1))) | some W => aW! (aS! A (B (k + 1))) W) else a2! (aS! A (B (k + 1))))
  else if B (k + 1) = 4 then (if bAnd (B k) 207 = 128 ∧ n = 4 then aC! (aS! A (B (k + 1))) (clp (pr4 B b)) else a2! (aS! A (B (k + 1))))
  else if B (k + 1) = 8 then (if bAnd (B k) 207 = 192 ∧ n % 4 = 0 then aM! (aS! A (B (k + 1))) (mkS B b (n / 4).toNat) else a2! (aS! A (B (k + 1))))
  else if bAnd (B k) 128 = 0 then a2! (aS! A (B (k + 1))) else aS! A (B (k + 1))
def hdX (B : Int → Int) (k : Int) : Int := if bAnd (B k) 16 = 0 then 3 else 4
def szX (B : Int → Int) (k : Int) : Int := if bAnd (B k) 16 = 0 then B (k + 2) else pr2 B (k + 2)
noncomputable def atS (B : Int → Int) (e : Int) : Nat → Int → Ma → Ma
  | 0, _, A => A
  | n + 1, k, A => if e ≤ k then A else if e < k + hdX B k ∨ e < k + hdX B k + szX B k then a2! A else atS B e n (k + hdX B k + szX B k) (atO B k (k + hdX B k) (szX B k) A)
theorem atS.done {B : Int → Int} {e k : Int} {n : Nat} {A : Ma} (h : e ≤ k) : atS B e n k A = A := by
  cases n with
  | zero => rfl
  | succ n => exact if_pos h
theorem atS.bad {B : Int → Int} {e k : Int} {n : Nat} {A : Ma} (h : k < e) (hb : e < k + hdX B k ∨ e < k + hdX B k + szX B k) : atS B e (n + 1) k A = a2! A := (if_neg (by omega)).trans (if_pos hb)
theorem atS.go {B : Int → Int} {e k : Int} {n : Nat} {A : Ma} (h : k < e) (hb : ¬ (e < k + hdX B k ∨ e < k + hdX B k + szX B k)) : atS B e (n + 1) k A = atS B e n (k + hdX B k + szX B k) (atO B k (k + hdX B k) (szX B k) A) := (if_neg (by omega)).trans (if_neg hb)
/-- what an attribute state keeps -/
def maI (A : Ma) : Prop := (aS A 1 = 0 → aO A = 0) ∧ (aS A 2 = 0 → aY A = 0 ∧ aW A = []) ∧ (aS A 8 = 0 → aM A = []) ∧ (0 ≤ aR A ∧ aR A ≤ 2) ∧ (0 ≤ aC A ∧ aC A ≤ 1000000) ∧ (aW A).length ≤ 20 ∧ srt (aM A) ∧ (aM A).length ≤ 8
theorem A0.ok : maI A0 := ⟨fun _ => rfl, fun _ => ⟨rfl, rfl⟩, fun _ => rfl, ⟨by decide, by decide⟩, ⟨by decide, by decide⟩, by decide, List.Pairwise.nil, by decide⟩
theorem maI.bad {A : Ma} (h : maI A) : maI (a2! A) := h
theorem aS!.at {A : Ma} {t : Int} : aS (aS! A t) t = 1 := if_pos rfl
theorem aS!.ne {A : Ma} {t j : Int} (h : ¬ j = t) : aS (aS! A t) j = aS A j := if_neg h
theorem aS!.z {A : Ma} {t j : Int} (h : aS (aS! A t) j = 0) : ¬ j = t ∧ aS A j = 0 := by
  by_cases c : j = t
  · rw [c, aS!.at] at h
    exact absurd h (by decide)
  · rw [aS!.ne c] at h
    exact ⟨c, h⟩
theorem maI.see {A : Ma} {t : Int} (h : maI A) : maI (aS! A t) := ⟨fun g => h.1 (aS!.z g).2, fun g => h.2.1 (aS!.z g).2, fun g => h.2.2.1 (aS!.z g).2, h.2.2.2⟩
theorem clp.rg {c : Int} : 0 ≤ clp c ∧ clp c ≤ 1000000 := by
  unfold clp
  by_cases h : c < 0 ∨ 1000000 < c
  · rw [if_pos h]; omega
  · rw [if_neg h]; omega
theorem maI.step {B : Int → Int} {k b n : Int} {A : Ma} (h : maI A) (h0 : n = 1 → 0 ≤ B b) : maI (atO B k b n A) := by
  have z : ∀ j, aS (aS! A (B (k + 1))) j = 0 → ¬ j = B (k + 1) ∧ aS A j = 0 := fun j g => aS!.z g
  unfold atO
  by_cases c0 : ¬ aS A (B (k + 1)) = 0
  · rw [if_pos c0]; exact h
  rw [if_neg c0]
  by_cases c1 : B (k + 1) = 1
  · rw [if_pos c1]
    by_cases c : bAnd (B k) 207 = 64 ∧ n = 1 ∧ B b ≤ 2
    · rw [if_pos c]
      refine ⟨fun g => ?_, fun g => h.2.1 (z 2 g).2, fun g => h.2.2.1 (z 8 g).2, ⟨h0 c.2.1, c.2.2⟩, h.2.2.2.2⟩
      exact absurd c1.symm (z 1 g).1
    · rw [if_neg c]; exact h.see.bad
  rw [if_neg c1]
  by_cases c2 : B (k + 1) = 2
  · rw [if_pos c2]
    by_cases c : bAnd (B k) 207 = 64
    · rw [if_pos c]
      cases ew : wyZ B b (b + n) with
      | none => exact h.see.bad
      | some W =>
        refine ⟨fun g => h.1 (z 1 g).2, fun g => ?_, fun g => h.2.2.1 (z 8 g).2, h.2.2.2.1, h.2.2.2.2.1, wyZ.len ew, h.2.2.2.2.2.2⟩
        exact absurd c2.symm (z 2 g).1
    · rw [if_neg c]; exact h.see.bad
  rw [if_neg c2]
  by_cases c4 : B (k + 1) = 4
  · rw [if_pos c4]
    by_cases c : bAnd (B k) 207 = 128 ∧ n = 4
    · rw [if_pos c]
      exact ⟨fun g => h.1 (z 1 g).2, fun g => h.2.1 (z 2 g).2, fun g => h.2.2.1 (z 8 g).2, h.2.2.2.1, clp.rg, h.2.2.2.2.2⟩
    · rw [if_neg c]; exact h.see.bad
  rw [if_neg c4]
  by_cases c8 : B (k + 1) = 8
  · rw [if_pos c8]
    by_cases c : bAnd (B k) 207 = 192 ∧ n % 4 = 0
    · rw [if_pos c]
      refine ⟨fun g => h.1 (z 1 g).2, fun g => h.2.1 (z 2 g).2, fun g => ?_, h.2.2.2.1, h.2.2.2.2.1, h.2.2.2.2.2.1, mkS.srt _, mkS.len _⟩
      exact absurd c8.symm (z 8 g).1
    · rw [if_neg c]; exact h.see.bad
  rw [if_neg c8]
  by_cases c : bAnd (B k) 128 = 0
  · rw [if_pos c]; exact h.see.bad
  · rw [if_neg c]; exact h.see
theorem hdX.rg {B : Int → Int} {k : Int} : 3 ≤ hdX B k ∧ hdX B k ≤ 4 := by
  unfold hdX
  by_cases c : bAnd (B k) 16 = 0
  · rw [if_pos c]; omega
  · rw [if_neg c]; omega
def M0 : Ms := (0, 0, 0, fun _ => 0, fun _ => 0, (0, 0, 0, 0, [], []))
def gtP : List (Int × Int) → Nat → Int × Int
  | [], _ => (0, 0)
  | q :: _, 0 => q
  | _ :: l, i + 1 => gtP l i
theorem gtP.l {b : List (Int × Int)} : ∀ {a : List (Int × Int)} {j : Nat}, j < a.length → gtP (a ++ b) j = gtP a j
  | [], j, h => absurd h (Nat.not_lt_zero j)
  | _ :: _, 0, _ => rfl
  | _ :: a, _ + 1, h => gtP.l (a := a) (Nat.lt_of_succ_lt_succ h)
theorem gtP.r {b : List (Int × Int)} : ∀ {a : List (Int × Int)} {j : Nat}, gtP (a ++ b) (a.length + j) = gtP b j
  | [], j => by
    show gtP b (0 + j) = gtP b j
    rw [Nat.zero_add]
  | q :: a, j => by
    show gtP (q :: (a ++ b)) (a.length + 1 + j) = gtP b j
    rw [show a.length + 1 + j = (a.length + j) + 1 by omega]
    exact gtP.r (a := a)
def getA (l : List (Int × Int)) (i : Nat) : Int := (gtP l i).1
def getL (l : List (Int × Int)) (i : Nat) : Int := (gtP l i).2
/-- what must be taken back -/
def bakM (A : Ma) (l : List (Int × Int)) : Prop := ¬ aF A = 0 ∨ (¬ l = [] ∧ (aO A = 0 ∨ aY A = 0))
noncomputable def mkMs (A : Ma) (l1 l2 : List (Int × Int)) : Ms := (1, cIf (bakM A l2) (l1.length + l2.length) l1.length, cIf (bakM A l2) 0 l2.length, getA (l1 ++ l2), getL (l1 ++ l2), (0, 100, aR A, aC A, aW A, aM A))
noncomputable def msg3 (B : Int → Int) (n a b : Int) (l1 : List (Int × Int)) : Ms := match pfS B n 1001 b with
  | none => M0
  | some l2 => mkMs (atS B b 1001 (a + 2) A0) l1 l2
noncomputable def msg2 (B : Int → Int) (n a : Int) : Ms := match pfS B a 1001 2 with
  | none => M0
  | some l1 => if n < a + 2 ∨ n < a + 2 + pr2 B a then M0 else msg3 B n a (a + 2 + pr2 B a) l1
noncomputable def msgS (B : Int → Int) (n : Int) : Ms := if n < 2 ∨ n < 2 + pr2 B 0 then M0 else msg2 B n (2 + pr2 B 0)
theorem addM.memI {l : List Int} {m y : Int} (h : ¬ (m ∈ l ∨ 8 ≤ l.length)) : y ∈ addM l m ↔ (y ∈ l ∨ y = m) := by
  unfold addM
  rw [if_neg h, List.mem_append, List.mem_cons, List.mem_filter, List.mem_filter]
  have h1 : ¬ m ∈ l := fun g => h (Or.inl g)
  constructor
  · rintro (⟨g, _⟩ | g | ⟨g, _⟩)
    · exact Or.inl g
    · exact Or.inr g
    · exact Or.inl g
  · rintro (g | g)
    · by_cases c : y < m
      · exact Or.inl ⟨g, decide_eq_true c⟩
      · by_cases c2 : y = m
        · exact absurd (c2 ▸ g) h1
        · exact Or.inr (Or.inr ⟨g, decide_eq_true (by omega)⟩)
    · exact Or.inr (Or.inl g)
theorem addM.flt {m : Int} : ∀ {l : List Int}, ¬ m ∈ l → (l.filter fun x => decide (x < m)).length + (l.filter fun x => decide (m < x)).length = l.length
  | [], _ => rfl
  | x :: l, h => by
    have hx : ¬ x = m := fun e => h (e ▸ List.mem_cons_self)
    have ih := addM.flt (m := m) (l := l) fun g => h (List.mem_cons_of_mem _ g)
    rw [List.filter_cons, List.filter_cons]
    by_cases c : x < m
    · rw [if_pos (decide_eq_true c), if_neg (by rw [decide_eq_true_eq]; omega)]
      show _ + 1 + _ = _ + 1
      omega
    · rw [if_neg (by rw [decide_eq_true_eq]; exact c), if_pos (decide_eq_true (by omega))]
      show _ + (_ + 1) = _ + 1
      omega
theorem addM.lenI {l : List Int} {m : Int} (h : ¬ (m ∈ l ∨ 8 ≤ l.length)) : (addM l m).length = l.length + 1 := by
  unfold addM
  rw [if_neg h, List.length_append, List.length_cons]
  have := addM.flt (l := l) fun g => h (Or.inl g)
  omega
theorem inF.is {g h : Nat → Int} {x : Int} {z T : Nat} (h1 : ∀ j, j < z → h j = g j) (h2 : h z = x) (h3 : ∀ j, z < j → j ≤ T → h j = g (j - 1)) : ∀ j, j ≤ T → h j = inF g x z j := fun j hj => by
  show h j = if j < z then g j else if j = z then x else g (j - 1)
  by_cases c : j < z
  · rw [if_pos c]; exact h1 j c
  · rw [if_neg c]
    by_cases c2 : j = z
    · rw [if_pos c2, c2]; exact h2
    · rw [if_neg c2]; exact h3 j (by omega) hj
theorem sgF.rowAt {B : Int → Int} {k : Int} {a : Nat} {f : Nat → Int} (h : ¬ B k = 1) : ∀ {i j : Nat}, j < i → sgF B k a f i (a + j) = pr4 B (k + 2 + 4 * (j : Int))
  | 0, j, hj => absurd hj (Nat.not_lt_zero j)
  | i + 1, j, hj => by
    rw [sgF.row h]
    show (if a + j = a + i then _ else sgF B k a f i (a + j)) = _
    by_cases c : j = i
    · rw [if_pos (by omega), c]
    · rw [if_neg (by omega)]
      exact sgF.rowAt h (by omega)
end
