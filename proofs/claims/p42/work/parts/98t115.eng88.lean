section
/-! why: the answer. -/
noncomputable def whyF (l : List Int) (t : Int) (c : Cd) : Option Cd → Int
  | none => 0
  | some x => if x.1 = t then 0 else if unl l c x = 0 then 7 else if unl l c x < 0 then 0 - unl l c x else unl l c x
noncomputable def whyD (l : List Int) (t : Int) (k : Option Cd) : Option Cd → Int
  | none => 10
  | some c => whyF l t c k
noncomputable def whyB (E : En) (S : Sn) (t s p d : Nat) : Int := cIf (sHd S (slt t s p) = none) (-99999999) (if 0 ≤ eOw E (10 * d + p) then 8 else cIf (∃ r, sHd S (slt t s p) = some r ∧ (d : Int) ∈ wOf r) 9 (whyD (eSt E d) (t : Int) (pickE (eGr E d) (eSt E d) (cdsN E S (d : Int) p (eT E))) (cdE E S (d : Int) p t)))
noncomputable def whyA (E : En) (S : Sn) (t s p : Int) : Int := cIf ((0 ≤ t ∧ t < (eT E : Int)) ∧ (0 ≤ s ∧ s ≤ 1) ∧ (0 ≤ p ∧ p < (eP E : Int))) (whyB E S t.toNat s.toNat p.toNat (eN E t.toNat s.toNat).toNat) (-1)
section WhyP
variable {E : En} {S : Sn} {t s p d : Nat}
theorem whyA.no {t s p : Int} (h : ¬ ((0 ≤ t ∧ t < (eT E : Int)) ∧ (0 ≤ s ∧ s ≤ 1) ∧ (0 ≤ p ∧ p < (eP E : Int)))) : whyA E S t s p = -1 := cIf.neg h
theorem whyA.eq (h : (0 ≤ (t : Int) ∧ (t : Int) < (eT E : Int)) ∧ (0 ≤ (s : Int) ∧ (s : Int) ≤ 1) ∧ (0 ≤ (p : Int) ∧ (p : Int) < (eP E : Int))) (ed : eN E t s = (d : Int)) : whyA E S (t : Int) (s : Int) (p : Int) = whyB E S t s p d := by
  have e : whyA E S (t : Int) (s : Int) (p : Int) = whyB E S (t : Int).toNat (s : Int).toNat (p : Int).toNat (eN E (t : Int).toNat (s : Int).toNat).toNat := cIf.pos h
  rw [e]
  simp only [Int.toNat_natCast, ed]
theorem whyB.nix (h : sHd S (slt t s p) = none) : whyB E S t s p d = -99999999 := cIf.pos h
theorem whyB.own (h : ¬ sHd S (slt t s p) = none) (o : 0 ≤ eOw E (10 * d + p)) : whyB E S t s p d = 8 := (cIf.neg h).trans (if_pos o)
theorem whyB.nine (h : ¬ sHd S (slt t s p) = none) (o : ¬ 0 ≤ eOw E (10 * d + p)) (q : ∃ r, sHd S (slt t s p) = some r ∧ (d : Int) ∈ wOf r) : whyB E S t s p d = 9 := (cIf.neg h).trans ((if_neg o).trans (cIf.pos q))
theorem whyB.rest (h : ¬ sHd S (slt t s p) = none) (o : ¬ 0 ≤ eOw E (10 * d + p)) (q : ¬ ∃ r, sHd S (slt t s p) = some r ∧ (d : Int) ∈ wOf r) : whyB E S t s p d = whyD (eSt E d) (t : Int) (pickE (eGr E d) (eSt E d) (cdsN E S (d : Int) p (eT E))) (cdE E S (d : Int) p t) := (cIf.neg h).trans ((if_neg o).trans (cIf.neg q))
theorem cds_at {d : Int} {x : Cd} (hx : x ∈ cdsN E S d p (eT E)) (e : x.1 = (t : Int)) : cdE E S d p t = some x := by
  obtain ⟨t', _, h⟩ := cdsN.mem hx
  have e2 := (cdE.ptn h).1
  have e3 : t' = t := by omega
  rw [← e3]; exact h
theorem cds_in {d : Int} {c : Cd} (ht : t < eT E) (h : cdE E S d p t = some c) : c ∈ cdsN E S d p (eT E) := List.mem_filterMap.mpr ⟨t, List.mem_range.mpr ht, h⟩
/-- what is picked, while picks are up to date -/
theorem pk_case (u : upI E S) (hd : d < eD E) (hp : p < eP E) : ((sPk S (10 * d + p)).1 = -4 ∧ 0 ≤ eOw E (10 * d + p)) ∨ (¬ 0 ≤ eOw E (10 * d + p) ∧ (((sPk S (10 * d + p)).1 = -99999999 ∧ pickE (eGr E d) (eSt E d) (cdsN E S (d : Int) p (eT E)) = none) ∨ ∃ (x : Cd) (tx : Nat), pickE (eGr E d) (eSt E d) (cdsN E S (d : Int) p (eT E)) = some x ∧ (sPk S (10 * d + p)).1 = (tx : Int) ∧ tx < eT E ∧ cdE E S (d : Int) p tx = some x ∧ x.1 = (tx : Int) ∧ (sPk S (10 * d + p)).2 = some x.2.2.2)) := by
  have pk : sPk S (10 * d + p) = newP E S (d : Int) p := u.1 d p hd hp (fun q => q)
  rw [pk]
  by_cases o : 0 ≤ eOw E (10 * d + p)
  · rw [newP.own o]
    exact Or.inl ⟨rfl, o⟩
  · refine Or.inr ⟨o, ?_⟩
    cases e : pickE (eGr E d) (eSt E d) (cdsN E S (d : Int) p (eT E)) with
    | none =>
      rw [newP.no o e]
      exact Or.inl ⟨rfl, rfl⟩
    | some x =>
      rw [newP.yes o e]
      obtain ⟨tx, htx, ex⟩ := cdsN.mem (pickE.mem e)
      have e1 := (cdE.ptn ex).1
      exact Or.inr ⟨x, tx, rfl, e1, htx, ex, e1, rfl⟩
end WhyP
theorem X0_firstUnlike_s {w : mW} {μ : mM} {a0 a b : Nat} {Q : Int → mM → Prop} (k : Q (if unl (rowL (μ (a0 + 1)) (μ a0 4).toNat) (cdv μ a) (cdv μ b) = 0 then 7 else if unl (rowL (μ (a0 + 1)) (μ a0 4).toNat) (cdv μ a) (cdv μ b) < 0 then 0 - unl (rowL (μ (a0 + 1)) (μ a0 4).toNat) (cdv μ a) (cdv μ b) else unl (rowL (μ (a0 + 1)) (μ a0 4).toNat) (cdv μ a) (cdv μ b)) μ) : WP_X0_firstUnlikeStep_W w μ a0 a b Q := by
  refine loopF.i (fun s => 0 ≤ s ∧ (s = 0 ∨ s ≤ μ a0 4) ∧ unl (rowL (μ (a0 + 1)) (μ a0 4).toNat) (cdv μ a) (cdv μ b) = unl (rowL (fun i => μ (a0 + 1) (s.toNat + i)) ((μ a0 4).toNat - s.toNat)) (cdv μ a) (cdv μ b)) (fun s => (7 - s).toNat) ⟨by omega, Or.inl rfl, by simp⟩ (by omega) ?_
  rintro rc s ⟨s0, s1, h⟩ ih s' e hs n en hn
  subst e en
  refine ⟨fun g => ?_, fun g v ev hv => ?_⟩
  · have u0 : unl (rowL (μ (a0 + 1)) (μ a0 4).toNat) (cdv μ a) (cdv μ b) = 0 := by
      rw [h, show (μ a0 4).toNat - s.toNat = 0 by omega]
      rfl
    rw [if_pos u0] at k
    exact k
  · have hd : unl (rowL (μ (a0 + 1)) (μ a0 4).toNat) (cdv μ a) (cdv μ b) = (if stD v (cdv μ a) (cdv μ b) = 0 then unl (rowL (fun i => μ (a0 + 1) ((s + 1).toNat + i)) ((μ a0 4).toNat - (s + 1).toNat)) (cdv μ a) (cdv μ b) else if stD v (cdv μ a) (cdv μ b) < 0 then v else -v) := by
      rw [h, show (μ a0 4).toNat - s.toNat = ((μ a0 4).toNat - (s + 1).toNat) + 1 by omega, rowL.head]
      have e0 : μ (a0 + 1) (s.toNat + 0) = v := ev
      rw [e0]
      have e1 : (fun i => μ (a0 + 1) (s.toNat + (i + 1))) = (fun i => μ (a0 + 1) ((s + 1).toNat + i)) := by
        funext i
        rw [show s.toNat + (i + 1) = (s + 1).toNat + i by omega]
      rw [e1]
      rfl
    refine X0_compareAt_s fun z h1 h2 rz => ⟨fun c => ih _ ⟨by omega, by omega, ?_⟩ (by omega), fun c => ?_⟩
    · rw [hd, if_pos (h2.mp c)]
    · have hne : ¬ stD v (cdv μ a) (cdv μ b) = 0 := fun e => c (h2.mpr e)
      have hv6 := stD.pos hne
      rw [if_neg hne] at hd
      generalize unl (rowL (μ (a0 + 1)) (μ a0 4).toNat) (cdv μ a) (cdv μ b) = uu at hd k
      by_cases q : stD v (cdv μ a) (cdv μ b) < 0
      · rw [if_pos q] at hd
        rw [if_neg (show ¬ uu = 0 by omega), if_neg (show ¬ uu < 0 by omega), hd] at k
        exact k
      · rw [if_neg q] at hd
        rw [if_neg (show ¬ uu = 0 by omega), if_pos (show uu < 0 by omega), show (0 : Int) - uu = v by omega] at k
        exact k
section WhyC
variable {w : mW} {μ m : mM} {y : S2}
theorem over_s {n : Nat} {v : Int} {Q : Int → mM → Prop} (h35 : ∀ i, i < 10 → m 35 i = ((36 + 3 * i : Nat) : Int)) (en : m 32 9 = (n : Int)) (hn : n ≤ 9) (k : ∀ z : Int, ((z = -1 ∧ ∀ i, i < n → ¬ (cdC m i).1 = v) ∨ (∃ i : Nat, z = (i : Int) ∧ i < n ∧ (cdC m i).1 = v ∧ ∀ j, j < i → ¬ (cdC m j).1 = v)) → Q z m) : WP_X8_candidateOver_W w m v Q := by
  refine loopF.i (fun z => 0 ≤ z ∧ z ≤ (n : Int) ∧ ∀ j : Nat, (j : Int) < z → ¬ (cdC m j).1 = v) (fun z => (11 - z).toNat) ⟨by decide, by omega, fun j hj => absurd hj (by omega)⟩ (by decide) ?_
  rintro rc i ⟨i0, i1, hi⟩ ih i' e ri n2 en2 rn2
  cases e
  rw [en] at en2
  subst en2
  refine ⟨fun g => k _ (Or.inl ⟨rfl, fun j hj => hi j (by omega)⟩), fun c b eb Ab z ez rz => ?_⟩
  have e := h35 i.toNat (by omega)
  rw [eb] at e
  have e2 : b = 36 + 3 * i.toNat := by omega
  subst e2
  have e3 : (cdC m i.toNat).1 = z := ez
  refine ⟨fun q => ih _ ⟨by omega, by omega, fun j hj => ?_⟩ (by omega), fun q => k _ (Or.inr ⟨i.toNat, by omega, by omega, e3.trans q, fun j hj => hi j (by omega)⟩)⟩
  by_cases c2 : (j : Int) < i
  · exact hi j c2
  · rw [show j = i.toNat by omega, e3]; exact q
theorem C_whyA {t0 s0 p0 : Int} (hw : mWF w) (hT : mT w μ) (h : K2C w μ y) (k : K2X y) (u : upI (xE (yX y)) (xS (yX y))) : WP_X11_why_W w μ t0 s0 p0 (fun z m => z = whyA (xE (yX y)) (xS (yX y)) t0 s0 p0 ∧ K2C w m y) := by
  have ev := h.1.env hw hT k.1
  have ti := k.1.2.1.1
  have p10 := ti.2.2.2.2
  intro n en rn
  refine X11_isTie_s ev fun z hz rz => ⟨fun q => ⟨(whyA.no fun g => ?_).symm, h⟩, fun q => X11_isEither_s fun z2 hz2 rz2 => ⟨fun q2 => ⟨(whyA.no fun g => ?_).symm, h⟩, fun q2 n3 en3 rn3 => X11_isPrefix_s ev fun z3 hz3 rz3 => ⟨fun q3 => ?_, fun q3 => ⟨(whyA.no fun g => ?_).symm, h⟩⟩⟩⟩
  · have := hz.mpr g.1
    omega
  · have := hz2.mpr g.2.1
    omega
  rotate_left 1
  · have := hz3.mpr g.2.2
    omega
  have ht := hz.mp (by omega)
  have hs := hz2.mp (by omega)
  have hp := hz3.mp (by omega)
  obtain ⟨t, rfl⟩ : ∃ n : Nat, t0 = (n : Int) := ⟨t0.toNat, by omega⟩
  obtain ⟨s, rfl⟩ : ∃ n : Nat, s0 = (n : Int) := ⟨s0.toNat, by omega⟩
  obtain ⟨p, rfl⟩ : ∃ n : Nat, p0 = (n : Int) := ⟨p0.toNat, by omega⟩
  have ht' : t < eT (xE (yX y)) := by omega
  obtain ⟨d, ed, hd⟩ := eN.nat ti (s := s) ht'
  rw [whyA.eq (S := xS (yX y)) ⟨ht, hs, hp⟩ ed]
  intro b1 eb1 A1 rz9 b10 eb10 A10
  have eb : tbA μ t = b1 := by
    have e : μ 11 t = (b1 : Int) := eb1
    show (μ 11 t).toNat = b1
    omega
  obtain ⟨_, big, l3⟩ := ev.2.2.2.1.1 t ht'
  obtain ⟨a1, a2, _⟩ := ev.2.2.2.2.1 t ht'
  rw [eb] at big a1 a2
  have e10 : b10 = b1 + 4 + 6 * (10 * s + p) := by
    have g := (l3 (10 * s + p) (by omega)).1
    rw [eb, show 10 * s + p = ((s : Int) * 10 + (p : Int)).toNat by omega] at g
    have e2 : μ (b1 + 2) ((s : Int) * 10 + (p : Int)).toNat = (b10 : Int) := eb10
    rw [e2] at g
    omega
  subst e10
  refine X9_end_s ?_
  have ee : (if (s : Int) = 0 then μ b1 0 else μ b1 1) = (d : Int) := by
    rw [a1, a2, ← ed]
    unfold eN
    by_cases c : s = 0
    · rw [if_pos c, if_pos (by omega)]
    · rw [if_neg c, if_neg (by omega)]
  rw [ee]
  intro rz17 b18 eb18 A18 z21 ez21 rz21
  have ebd : dbA μ d = b18 := by
    have e : μ 10 d = (b18 : Int) := eb18
    show (μ 10 d).toNat = b18
    omega
  obtain ⟨_, bigd, _⟩ := ev.2.2.2.1.2.1 d hd
  obtain ⟨o1, o2, _⟩ := ev.2.2.2.2.2.1 d hd
  rw [ebd] at bigd o2
  have st := h.1.2.2.2.2.1
  have rh : rtC μ (b1 + 4 + 6 * (10 * s + p)) = sHd (xS (yX y)) (slt t s p) := by
    have g := (st.1 t (10 * s + p) ht' (by omega)).1
    have e : heA μ t (10 * s + p) = b1 + 4 + 6 * (10 * s + p) := by
      show tbA μ t + 4 + 6 * (10 * s + p) = _
      rw [eb]
    rw [e, show 20 * t + (10 * s + p) = slt t s p by
      unfold slt
      omega] at g
    exact g
  refine ⟨fun c21 z27 ez27 rz27 => ?_, fun c21 _ _ _ => ⟨(whyB.nix (rh.symm.trans (rtC.nil (ez21.trans c21)))).symm, h⟩⟩
  obtain ⟨r, er⟩ : ∃ r, sHd (xS (yX y)) (slt t s p) = some r := ⟨_, rh.symm.trans (rtC.the (by
    rw [ez21]
    exact c21))⟩
  have nn : ¬ sHd (xS (yX y)) (slt t s p) = none := fun q => by
    rw [er] at q
    cases q
  have wr : wOf r = rowL (μ (b1 + 4 + 6 * (10 * s + p) + 1)) (μ (b1 + 4 + 6 * (10 * s + p)) 7).toNat := by
    rw [(rtC.get (rh.trans er)).2]
  have ow : eOw (xE (yX y)) (10 * d + p) = z27 := by
    rw [← o1 p (by omega), ebd]
    exact ez27
  refine ⟨fun c27 => X7_passes_s fun z36 hz36 rz36 => ⟨fun c36 => ?_, fun c36 _ _ _ => ⟨(whyB.nine nn (by omega) ⟨r, er, ?_⟩).symm, h⟩⟩, fun c27 _ _ _ => ⟨(whyB.own nn (by omega)).symm, h⟩⟩
  rotate_left 1
  · rw [wr]
    exact hz36.mp (by omega)
  refine X8_gather_s hw hT ev st k.1.1 ti (by omega) (cdsN.len ti) fun m f _ _ e9 el _ _ _ => ?_
  have K : K2C w m y := h.frC hw hT f
  have h35 : ∀ i, i < 10 → m 35 i = ((36 + 3 * i : Nat) : Int) := fun i hi => by
    rw [f 35 i (by omega) (by omega) (by omega) (by omega)]
    exact ev.2.2.2.1.2.2.2.2.2 i hi
  have nq : ¬ ∃ r, sHd (xS (yX y)) (slt t s p) = some r ∧ (d : Int) ∈ wOf r := fun ⟨r', e', q'⟩ => by
    rw [er] at e'
    cases e'
    have := hz36.mpr (by
      rw [← wr]
      exact q')
    omega
  have eB := whyB.rest (t := t) (s := s) (E := xE (yX y)) nn (by omega) nq
  have l9 := cdsN.len (S := xS (yX y)) (p := p) ti (d := (d : Int)) _ (Nat.le_refl _)
  have tie3 : m (b18 + 3) p = (sPk (xS (yX y)) (10 * d + p)).1 := by
    rw [f (b18 + 3) p (by omega) (by omega) (by omega) (by omega), ← ebd]
    exact (st.2.1 d p hd (by omega)).1
  refine over_s h35 e9 l9 fun z47 h47 rz47 z49 ez49 rz49 => over_s h35 e9 l9 fun z57 h57 rz57 => ?_
  have ez : z49 = (sPk (xS (yX y)) (10 * d + p)).1 := by
    rw [← tie3]
    exact ez49.symm
  have inl : ∀ i, i < (cdsN (xE (yX y)) (xS (yX y)) (d : Int) p (eT (xE (yX y)))).length → cdC m i ∈ cdsN (xE (yX y)) (xS (yX y)) (d : Int) p (eT (xE (yX y))) := fun i hi => by
    have g : cdC m i ∈ lst (cdC m) (cdsN (xE (yX y)) (xS (yX y)) (d : Int) p (eT (xE (yX y)))).length := lst.in hi
    rw [el] at g
    exact g
  cases ec : cdE (xE (yX y)) (xS (yX y)) (d : Int) p t with
  | none =>
    have n47 : z47 = -1 := by
      rcases h47 with ⟨q, _⟩ | ⟨i, q, hi, e1, _⟩
      · exact q
      · have g := cds_at (inl i hi) e1
        rw [ec] at g
        cases g
    refine ⟨fun c => absurd c (by omega), fun _ _ _ _ => ⟨?_, K⟩⟩
    rw [eB, ec]
    rfl
  | some c =>
    obtain ⟨x0, ex0⟩ := pickE.there (g := eGr (xE (yX y)) d) (l := eSt (xE (yX y)) d) (cds_in ht' ec)
    obtain ⟨x, tx, ex, ezx, htx, exc, x1, _⟩ : ∃ (x : Cd) (tx : Nat), pickE (eGr (xE (yX y)) d) (eSt (xE (yX y)) d) (cdsN (xE (yX y)) (xS (yX y)) (d : Int) p (eT (xE (yX y)))) = some x ∧ (sPk (xS (yX y)) (10 * d + p)).1 = (tx : Int) ∧ tx < eT (xE (yX y)) ∧ cdE (xE (yX y)) (xS (yX y)) (d : Int) p tx = some x ∧ x.1 = (tx : Int) ∧ (sPk (xS (yX y)) (10 * d + p)).2 = some x.2.2.2 := by
      rcases pk_case (p := p) u hd (by omega) with ⟨_, q⟩ | ⟨_, ⟨_, q⟩ | q⟩
      · omega
      · rw [ex0] at q
        cases q
      · exact q
    have ez2 : z49 = (tx : Int) := ez.trans ezx
    have eW : whyB (xE (yX y)) (xS (yX y)) t s p d = whyF (eSt (xE (yX y)) d) (t : Int) c (some x) := by
      rw [eB, ec, ex]
      rfl
    have mc := cds_in ht' ec
    have mx := cds_in htx exc
    rw [← el] at mc mx
    obtain ⟨ic, hic, qc⟩ := lst.mem.mp mc
    obtain ⟨ix, hix, qx⟩ := lst.mem.mp mx
    rcases h47 with ⟨_, g47⟩ | ⟨i1, q47, hi1, f1, g1⟩
    · exact absurd (by
        rw [qc]
        exact (cdE.ptn ec).1) (g47 ic hic)
    rcases h57 with ⟨_, g57⟩ | ⟨i2, q57, hi2, f2, g2⟩
    · exact absurd (by
        rw [qx, x1]
        exact ez2.symm) (g57 ix hix)
    subst q47
    subst q57
    have c1 : cdC m i1 = c := Option.some.inj ((cds_at (inl i1 hi1) f1).symm.trans ec)
    have x2 : cdC m i2 = x := Option.some.inj ((cds_at (inl i2 hi2) (f2.trans ez2)).symm.trans exc)
    refine ⟨fun _ => ⟨fun q _ _ _ => ⟨?_, K⟩, fun q => ⟨fun _ b64 eb64 A64 b67 eb67 A67 => ?_, fun q => absurd q (by omega)⟩⟩, fun q => absurd q (by omega)⟩
    · have e12 : i1 = i2 := by omega
      have ecx : c = x := by rw [← c1, ← x2, e12]
      rw [eW]
      have xt : x.1 = (t : Int) := by
        rw [← ecx]
        exact (cdE.ptn ec).1
      exact (if_pos xt).symm
    · have nt : ¬ x.1 = (t : Int) := fun e => by
        have e5 : z49 = (t : Int) := ez2.trans (x1.symm.trans e)
        rcases Nat.lt_trichotomy i1 i2 with lt | lt | lt
        · exact g2 i1 lt (f1.trans e5.symm)
        · exact q (by rw [lt])
        · exact g1 i2 lt (f2.trans e5)
      have e64 : b64 = 36 + 3 * i1 := by
        have g := h35 i1 (by omega)
        have g' : m 35 i1 = (b64 : Int) := eb64
        rw [g'] at g
        omega
      have e67 : b67 = 36 + 3 * i2 := by
        have g := h35 i2 (by omega)
        have g' : m 35 i2 = (b67 : Int) := eb67
        rw [g'] at g
        omega
      subst e64
      subst e67
      refine X0_firstUnlike_s ?_
      have e1 : rowL (m (b18 + 1)) (m b18 4).toNat = eSt (xE (yX y)) d := by
        rw [f b18 4 (by omega) (by omega) (by omega) (by omega), ← o2]
        exact rowL.ext fun i _ => f (b18 + 1) i (by omega) (by omega) (by omega) (by omega)
      have ca : cdv m (36 + 3 * i1) = c := c1
      have cb : cdv m (36 + 3 * i2) = x := x2
      rw [e1, ca, cb]
      intro _ _ _ _
      refine ⟨?_, K⟩
      rw [eW]
      exact (if_neg nt).symm
end WhyC
section CandC
variable {w : mW} {μ : mM} {E : En} {S : Sn} {G : mM → Prop} {d : Int} {p t s : Nat}
theorem X12_candidate_c {Q : Int → mM → Prop} (hw : mWF w) (hT : mT w μ) (ev : envR w μ E G) (hG : G μ) (gG : gSt G) (st : snR μ E S) (sn : snG E S) (ti : tiG E) (ht : t < eT E) (hs : s < 2) (hd : d = eN E t s) (hp : p < 10)
    (k : ∀ (z : Int) (m : mM), G m → frT μ m (4 + (t : Int)) → rtR m (4 + (t : Int)) = (cdAt E S d p t s).map (fun x => x.2.2.2) → (z = -99999999 ↔ (eU E t = 0 ∨ sHd S (slt t s p) = none)) → (z = 0 ↔ ¬ cdAt E S d p t s = none) → (z = 9 → ∃ r, sHd S (slt t s p) = some r ∧ d ∈ wOf r) → (z = -99999999 ∨ z = 0 ∨ z = 9 ∨ (z = 10 ∧ ∀ r, sHd S (slt t s p) = some r → ¬ d ∈ wOf r)) → Q z m) : WP_X12_candidate_W w μ d (t : Int) (p : Int) Q := by
  obtain ⟨h1, h2, h3, h4, h5, h6⟩ := ev
  obtain ⟨a1, a2, a3, a4, a5, a6⟩ := h4 t ht
  have hne := (ti.1 t ht).1
  have t20 := ti.2.2.1
  intro e0 ee0 _ e1 ee1 _ n en hn
  refine X12_sideOf_s ?_
  rw [sdR.of a1 hne hs hd]
  intro _
  refine X12_nothing_s (by omega) fun m1 r1 f1 T1 F1 x1 _ => ?_
  have g1 : G m1 := gG μ m1 hG fun b i h1 h2 h3 => f1 b i (by omega)
  have fr1 : frT μ m1 (4 + (t : Int)) := frT.refl.no f1
  have sl : (2 * (t : Int) + (s : Int)) * 10 + (p : Int) = ((slt t s p : Nat) : Int) := by unfold slt; omega
  show (0 ≤ (2 * (t : Int) + (s : Int)) * 10 + (p : Int) ∧ (2 * (t : Int) + (s : Int)) * 10 + (p : Int) ≤ 449) → _
  rw [sl]
  intro hsl u eu hu
  have eu' : eU E t = u := by
    rw [← eu, f1 112 _ (by omega), ← a3]
    congr 1
  have sb : slt t s p < 20 * eT E := by unfold slt; omega
  obtain ⟨b1, b2, _⟩ := st.1 (slt t s p) (Or.inl sb)
  have rh : rtR m1 (130 + ((slt t s p : Nat) : Int)) = sHd S (slt t s p) := by rw [fr1.rt hw hT (by omega) (by omega), b1]
  refine ⟨fun c => ?_, fun c y ey hy => ?_⟩
  · have cn : cdAt E S d p t s = none := if_pos (eu'.trans c)
    exact k _ m1 g1 fr1 (by rw [r1, cn]; rfl) ⟨fun _ => Or.inl (eu'.trans c), fun _ => rfl⟩ ⟨fun e => absurd e (by decide), fun e => absurd cn e⟩ (fun e => absurd e (by decide)) (Or.inl rfl)
  refine X12_isThere_s fun z hz rz => ⟨fun c2 => ?_, fun c2 => ?_⟩
  rotate_left 1
  · have hn : sHd S (slt t s p) = none := Classical.byContradiction fun g => by
      have := hz.mpr (by rw [rh]; exact g)
      omega
    have cn : cdAt E S d p t s = none := by
      unfold cdAt
      rw [if_neg (by rw [eu']; exact c), hn]
    exact k _ m1 g1 fr1 (by rw [r1, cn]; rfl) ⟨fun _ => Or.inr hn, fun _ => rfl⟩ ⟨fun e => absurd e (by decide), fun e => absurd cn e⟩ (fun e => absurd e (by decide)) (Or.inl rfl)
  obtain ⟨r, er⟩ : ∃ r, sHd S (slt t s p) = some r := by
    cases e : sHd S (slt t s p) with
    | none => exact absurd (rh.trans e) (hz.mp (by omega))
    | some r => exact ⟨r, rfl⟩
  have rr := rtR.get (rh.trans er)
  have rg := sn.2.2.1 (slt t s p) r er
  have px : r.1 < (eP E : Int) := by
    have pm : slt t s p % 10 = p := by unfold slt; omega
    have g1 := rg.1
    rw [pm] at g1
    rw [g1]
    have c : ¬ eP E ≤ slt t s p % 10 := fun g => by
      have := (sn.2.2.2.2.2.2.2.2.2 _ g).2.2
      rw [er] at this
      cases this
    omega
  have wy : rowL (fun k => m1 126 (40 * (130 + ((slt t s p : Nat) : Int)) + 6 + (k : Int)).toNat) (m1 126 (40 * (130 + ((slt t s p : Nat) : Int)) + 4).toNat).toNat = wOf r := by rw [rr.2]
  refine X12_isIn_s (by omega) fun z2 hz2 rz2 => ⟨fun c3 => ?_, fun c3 => ?_⟩
  rotate_left 1
  · have hin : d ∈ wOf r := by rw [← wy]; exact hz2.mp (by omega)
    have cn : cdAt E S d p t s = none := by
      unfold cdAt
      rw [if_neg (by rw [eu']; exact c), er]
      show (if d ∈ wOf r then none else _) = none
      rw [if_pos hin]
    exact k _ m1 g1 fr1 (by rw [r1, cn]; rfl) ⟨fun e => absurd e (by decide), fun e => by rcases e with e | e; exact absurd (eu'.symm.trans e) c; rw [er] at e; cases e⟩ ⟨fun e => absurd e (by decide), fun e => absurd cn e⟩ (fun _ => ⟨r, er, hin⟩) (Or.inr (Or.inr (Or.inl rfl)))
  have hnin : ¬ d ∈ wOf r := fun g => by
    have := hz2.mpr (by rw [wy]; exact g)
    omega
  refine X12_copy_s (by omega) (by omega) (by omega) (T1.rb hw (by omega)).1.2 (T1.rb hw (by omega)).2.2 fun m2 r2 _ f2 T2 F2 x2 _ pl epl hpl po epo hpo => ?_
  have fr2 : frT μ m2 (4 + (t : Int)) := fr1.on f2
  have g2 : G m2 := gG m1 m2 g1 fun b i h1 h2 h3 => f2 b i (by omega)
  have e110 : ∀ i, m2 110 i = μ 110 i := fun i => fr2 110 i (by omega) (by omega) (by omega) (by omega) (by omega)
  have plE : pl = ePl E (4 * t + 2 * s) := by
    rw [← epl, fr2 115 _ (by omega) (by omega) (by omega) (by omega) (by omega), ← a6 (2 * s) (by omega)]
    congr 1
  refine X12_partnerOf_pt_s ?_
  rw [ptR.of ((e110 _).trans a1) ((e110 _).trans a2) hne hs hd, hd]
  intro _
  refine h6.2 m2 pl (4 + (t : Int)) t s r _ T2 ?_ g2 ht hs (by rw [plE]; exact h6.1 _ _ ht (by omega)) (by omega) (by omega) (r2.trans (rh.trans er)) rg.2.1 px fun z3 m3 hz3 r3 g3 f3 T3 F3 rz3 x3 _ => ?_
  · exact (mF.refl.call F1 rfl).call F2 rfl
  have fr3 : frT μ m3 (4 + (t : Int)) := fr2.trans fun b i q1 q2 q3 q4 q5 => f3 b i q1 q2 q3 q4 q5
  rw [plE, ← hd] at hz3 r3
  refine ⟨fun c4 => ?_, fun c4 => ?_⟩
  · refine X12_nothing_s (by omega) fun m4 r4 f4 _ _ x4 _ => ?_
    have cn : cdAt E S d p t s = none := by
      unfold cdAt
      rw [if_neg (by rw [eu']; exact c), er]
      show (if d ∈ wOf r then none else if (eTh E (ePl E (4 * t + 2 * s)) d (eN E t (1 - s)) r).1 = true then _ else none) = none
      rw [if_neg hnin, if_neg (fun g => by have := hz3.mpr g; omega)]
    exact k _ m4 (gG m3 m4 g3 fun b i h1 h2 h3 => f4 b i (by omega)) (fr3.no f4) (by rw [r4, cn]; rfl) ⟨fun e => absurd e (by decide), fun e => by rcases e with e | e; exact absurd (eu'.symm.trans e) c; rw [er] at e; cases e⟩ ⟨fun e => absurd e (by decide), fun e => absurd cn e⟩ (fun e => absurd e (by decide)) (Or.inr (Or.inr (Or.inr ⟨rfl, fun r' e' => by rw [er] at e'; cases e'; exact hnin⟩)))
  · have cs : cdAt E S d p t s = some ((t : Int), eN E t (1 - s), sHw S (slt t s p), (eTh E (ePl E (4 * t + 2 * s)) d (eN E t (1 - s)) r).2) := by
      unfold cdAt
      rw [if_neg (by rw [eu']; exact c), er]
      show (if d ∈ wOf r then none else if (eTh E (ePl E (4 * t + 2 * s)) d (eN E t (1 - s)) r).1 = true then _ else none) = _
      rw [if_neg hnin, if_pos (hz3.mp (by omega))]
    exact k _ m3 g3 fr3 (by rw [r3, cs]; rfl) ⟨fun e => absurd e (by decide), fun e => by rcases e with e | e; exact absurd (eu'.symm.trans e) c; rw [er] at e; cases e⟩ ⟨fun _ e => (by rw [cs] at e; cases e), fun _ => rfl⟩ (fun e => absurd e (by decide)) (Or.inr (Or.inl rfl))
theorem cdX.eqG {m : mM} {r0 : Int} {x : Cd} (ev : envR w m E G) (st : snR m E S) (ti : tiG E) (hp : p < 10) (ht : t < eT E) (h : rtR m r0 = some x.2.2.2) (hx : cdE E S d p t = some x) : cdX m d (p : Int) r0 (t : Int) = x := by
  obtain ⟨a1, a2, a3, a4, a5, a6⟩ := ev.2.2.2.1 t ht
  have hne := (ti.1 t ht).1
  have nn : ¬ sdE E d t < 0 := fun c => by
    unfold cdE at hx
    rw [if_pos c] at hx; cases hx
  obtain ⟨s, hs, hs2, hd⟩ := sdE.side nn
  rw [cdE.at hs] at hx
  obtain ⟨_, r, e1, _, _, e4⟩ := cdAt.some' hx
  have sb : slt t s p < 20 * eT E := by unfold slt; omega
  have rv : rvR m r0 = x.2.2.2 := (rtR.get h).2.symm
  unfold cdX
  rw [rv, ptR.of a1 a2 hne hs2 hd, slR.of a1 hne hs2 hd, Int.toNat_natCast, (st.1 _ (Or.inl sb)).2.1 (by rw [e1]; exact fun q => by cases q), e4]
end CandC
section WhyR
variable {w : mW} {μ m : mM} {y : S2} {d p : Nat}
theorem whyRA {t s : Nat} {v : Int} {L : List Nat} (hw : mWF w) (hT : mT w μ) (h : K2R μ y) (k : K2X y) (u : upI (xE (yX y)) (xS (yX y))) (ht : t < eT (xE (yX y))) (hs : s < 2) (hp : p < eP (xE (yX y))) (hd : (d : Int) = eN (xE (yX y)) t s)
    (ez : (sPk (xS (yX y)) (10 * d + p)).1 = v) (nt : ¬ v = (t : Int)) (n4 : ¬ v = -4) (nn : ¬ sHd (xS (yX y)) (slt t s p) = none) :
    WP_X12_candidate_W w μ (d : Int) (t : Int) (p : Int) (fun z77 m => mT w m → mF L w μ m → ((-99999999) ≤ z77 ∧ z77 ≤ 10) → ((z77 = 0) → ((0 : Int) ≤ v) ∧ ∀ _ : True, WP_X12_unlike_W w m (d : Int) (4 + (t : Int)) (t : Int) (30 + ((10 * (d : Int)) + (p : Int))) v (p : Int) (fun z86 _ => ((-9) ≤ z86 ∧ z86 ≤ 9) → ((¬ z86 = 0) → ((0 ≤ z86) → z86 = whyB (xE (yX y)) (xS (yX y)) t s p d ∧ K2R m y) ∧ ((z86 < 0) → 0 - z86 = whyB (xE (yX y)) (xS (yX y)) t s p d ∧ K2R m y)) ∧ ((z86 = 0) → 7 = whyB (xE (yX y)) (xS (yX y)) t s p d ∧ K2R m y))) ∧ ((¬ z77 = 0) → z77 = whyB (xE (yX y)) (xS (yX y)) t s p d ∧ K2R m y)) := by
  have ev := h.1.env (w := w) hw k.1
  have sn := k.1.1
  have ti := k.1.2.1.1
  have st := h.1.2.2.2.2.1
  have p10 := ti.2.2.2.2
  have t20 := ti.2.2.1
  obtain ⟨d', ed, hd'⟩ := eN.nat ti (s := s) ht
  have dd : d < eD (xE (yX y)) := by omega
  have pc := pk_case u dd hp
  rw [ez] at pc
  have sd : sdE (xE (yX y)) (d : Int) t = (s : Int) := by
    rw [hd]
    exact sdE_ofN ti ht hs
  have eAt : cdE (xE (yX y)) (xS (yX y)) (d : Int) p t = cdAt (xE (yX y)) (xS (yX y)) (d : Int) p t s := cdE.at sd
  have o : ¬ 0 ≤ eOw (xE (yX y)) (10 * d + p) := fun q => by
    rcases pc with ⟨q1, _⟩ | ⟨q1, _⟩
    · exact n4 q1
    · exact q1 q
  refine X12_candidate_c hw hT ev h.1.2.2.2.2.2.2.1 gJ.st st sn ti ht hs hd (by omega) fun z m g f r3 zN z0 z9 zc T F rz7 => ?_
  have fr : frR μ m := f.fr (by omega)
  have K : K2R m y := h.frR hw hT fr g
  refine ⟨fun c0 => ?_, fun c0 => ⟨?_, K⟩⟩
  rotate_left 1
  · rcases zc with q | q | q | ⟨q, qn⟩
    · exfalso
      rcases zN.mp q with e | e
      · exact nn (u.2 t s p ht e hs (by omega))
      · exact nn e
    · exact absurd q c0
    · rw [whyB.nine nn o (z9 q), q]
    · have cn : cdAt (xE (yX y)) (xS (yX y)) (d : Int) p t s = none := Classical.byContradiction fun e => c0 (z0.mpr e)
      rw [whyB.rest nn o fun ⟨r, e1, e2⟩ => qn r e1 e2, eAt, cn, q]
      rfl
  obtain ⟨c, ec⟩ : ∃ c, cdAt (xE (yX y)) (xS (yX y)) (d : Int) p t s = some c := by
    cases e : cdAt (xE (yX y)) (xS (yX y)) (d : Int) p t s with
    | none => exact absurd e (z0.mp c0)
    | some c => exact ⟨c, rfl⟩
  have ecE : cdE (xE (yX y)) (xS (yX y)) (d : Int) p t = some c := eAt.trans ec
  obtain ⟨x0, ex0⟩ := pickE.there (g := eGr (xE (yX y)) d) (l := eSt (xE (yX y)) d) (cds_in ht ecE)
  rcases pc with ⟨q1, _⟩ | ⟨_, ⟨_, q⟩ | ⟨x, tx, ex, ezx, htx, exc, x1, x2⟩⟩
  · exact absurd q1 n4
  · rw [ex0] at q
    cases q
  subst ezx
  have nq : ¬ ∃ r, sHd (xS (yX y)) (slt t s p) = some r ∧ (d : Int) ∈ wOf r := fun ⟨r, e1, e2⟩ => by
    obtain ⟨_, r', e3, e4, _⟩ := cdAt.some' ec
    rw [e1] at e3
    cases e3
    exact e4 e2
  have eW : whyB (xE (yX y)) (xS (yX y)) t s p d = whyF (eSt (xE (yX y)) d) (t : Int) c (some x) := by
    rw [whyB.rest nn o nq, ecE, ex]
    rfl
  have evm := K.1.env (w := w) hw k.1
  have stm := K.1.2.2.2.2.1
  have r3' : rtR m (4 + (t : Int)) = some c.2.2.2 := by
    rw [r3, ec]
    rfl
  have rx : rgV (rvR m (4 + (t : Int))) := by
    have rv : rvR m (4 + (t : Int)) = c.2.2.2 := (rtR.get r3').2.symm
    rw [rv]
    exact ((cdE.good sn k.1.2.1.2.1 (by omega) ecE) c.2.2.2 rfl).2.2.2.2
  have e30 : (30 : Int) + (10 * (d : Int) + (p : Int)) = 30 + ((10 * d + p : Nat) : Int) := by omega
  have g2 : rtR m (30 + (10 * (d : Int) + (p : Int))) = some x.2.2.2 := by
    rw [e30, (stm.2.1 (10 * d + p) (Or.inl (by omega))).2]
    exact x2
  have ry : rgV (rvR m (30 + (10 * (d : Int) + (p : Int)))) := by
    have rv : rvR m (30 + (10 * (d : Int) + (p : Int))) = x.2.2.2 := (rtR.get g2).2.symm
    rw [rv]
    exact ((cdE.good sn k.1.2.1.2.1 (by omega) exc) x.2.2.2 rfl).2.2.2.2
  obtain ⟨n, en⟩ := stepR evm dd
  refine ⟨by omega, fun _ => X12_unlike_s (by omega) rx ry ?_⟩
  rw [en, unl.zeros, cdX.eqG evm stm ti (by omega) ht r3' ecE, cdX.eqG evm stm ti (by omega) htx g2 exc]
  have nt' : ¬ x.1 = (t : Int) := fun e => nt (x1.symm.trans e)
  have eV : whyF (eSt (xE (yX y)) d) (t : Int) c (some x) = if unl (eSt (xE (yX y)) d) c x = 0 then 7 else if unl (eSt (xE (yX y)) d) c x < 0 then 0 - unl (eSt (xE (yX y)) d) c x else unl (eSt (xE (yX y)) d) c x := if_neg nt'
  rw [eW, eV]
  generalize unl (eSt (xE (yX y)) d) c x = uu
  intro ru
  refine ⟨fun n0 => ⟨fun c1 => ⟨?_, K⟩, fun c1 => ⟨?_, K⟩⟩, fun c1 => ⟨?_, K⟩⟩
  · rw [if_neg n0, if_neg (by omega)]
  · rw [if_neg n0, if_pos c1]
  · rw [if_pos c1]
theorem R_whyA {t0 s0 p0 : Int} (hw : mWF w) (hT : mT w μ) (h : K2R μ y) (k : K2X y) (u : upI (xE (yX y)) (xS (yX y))) : WP_X12_why_Wx w μ t0 s0 p0 (fun z m => z = whyA (xE (yX y)) (xS (yX y)) t0 s0 p0 ∧ K2R m y) := by
  have ev := h.1.env (w := w) hw k.1
  intro z1 e1 r1
  refine X12_isTie_s ev fun z hz rz => ⟨fun q => ⟨(whyA.no fun g => ?_).symm, h⟩, fun q => ?_⟩
  · have := hz.mpr g.1
    omega
  refine X12_in_s fun z2 hz2 rz2 => ⟨fun q2 => ⟨(whyA.no fun g => ?_).symm, h⟩, fun q2 z3 e3 r3 => ?_⟩
  · have := hz2.mpr g.2.1
    omega
  refine X12_isPrefix_s ev fun z4 hz4 rz4 => ⟨fun q4 => ?_, fun q4 => ⟨(whyA.no fun g => ?_).symm, h⟩⟩
  rotate_left 1
  · have := hz4.mpr g.2.2
    omega
  have ht := hz.mp (by omega)
  have hs := hz2.mp (by omega)
  have hp := hz4.mp (by omega)
  have ti := k.1.2.1.1
  have st := h.1.2.2.2.2.1
  have p10 := ti.2.2.2.2
  have t20 := ti.2.2.1
  obtain ⟨t, rfl⟩ : ∃ n : Nat, t0 = (n : Int) := ⟨t0.toNat, by omega⟩
  obtain ⟨s, rfl⟩ : ∃ n : Nat, s0 = (n : Int) := ⟨s0.toNat, by omega⟩
  obtain ⟨p, rfl⟩ : ∃ n : Nat, p0 = (n : Int) := ⟨p0.toNat, by omega⟩
  have ht' : t < eT (xE (yX y)) := by omega
  obtain ⟨a1, a2, _⟩ := ev.2.2.2.1 t ht'
  obtain ⟨d, ed, hd⟩ := eN.nat ti (s := s) ht'
  rw [whyA.eq (S := xS (yX y)) ⟨ht, hs, hp⟩ ed]
  have rh : rtR μ (130 + ((slt t s p : Nat) : Int)) = sHd (xS (yX y)) (slt t s p) := (st.1 (slt t s p) (Or.inl (by
    unfold slt
    omega))).1
  have key : ∀ (v : Int) (L : List Nat) (sl : Int), sl = ((slt t s p : Nat) : Int) → μ 161 (10 * (d : Int) + (p : Int)).toNat = v → ¬ rtR μ (130 + sl) = none → ((v = (t : Int)) → 0 = whyB (xE (yX y)) (xS (yX y)) t s p d) ∧ ((v = -4) → 8 = whyB (xE (yX y)) (xS (yX y)) t s p d) ∧ ((sPk (xS (yX y)) (10 * d + p)).1 = v) ∧ ¬ sHd (xS (yX y)) (slt t s p) = none := by
    intro v L sl esl ev1 nr
    rw [esl, rh] at nr
    rw [show (10 * (d : Int) + (p : Int)).toNat = 10 * d + p by omega, (st.2.1 (10 * d + p) (Or.inl (by omega))).1] at ev1
    have pc := pk_case u hd (show p < eP (xE (yX y)) by omega)
    rw [ev1] at pc
    refine ⟨fun e => ?_, fun e => ?_, ev1, nr⟩
    · rcases pc with ⟨q1, _⟩ | ⟨o, ⟨q, _⟩ | ⟨x, tx, ex, ezx, htx, exc, x1, x2⟩⟩
      · omega
      · omega
      · have et : tx = t := by omega
        subst et
        have sd : sdE (xE (yX y)) (d : Int) tx = (s : Int) := by
          rw [← ed]
          exact sdE_ofN ti ht' (by omega)
        have ec := (cdE.at (p := p) (S := xS (yX y)) sd).symm.trans exc
        have nq : ¬ ∃ r, sHd (xS (yX y)) (slt tx s p) = some r ∧ (d : Int) ∈ wOf r := fun ⟨r, e1, e2⟩ => by
          obtain ⟨_, r', e3, e4, _⟩ := cdAt.some' ec
          rw [e1] at e3
          cases e3
          exact e4 e2
        rw [whyB.rest nr o nq, exc, ex]
        exact (if_pos x1).symm
    · rcases pc with ⟨_, q1⟩ | ⟨o, ⟨q, _⟩ | ⟨x, tx, ex, ezx, _⟩⟩
      · exact (whyB.own nr q1).symm
      · omega
      · omega
  have fin0 : ∀ sl : Int, sl = ((slt t s p : Nat) : Int) → rtR μ (130 + sl) = none → -99999999 = whyB (xE (yX y)) (xS (yX y)) t s p d := fun sl esl e => by
    rw [esl, rh] at e
    exact (whyB.nix e).symm
  intro z40 e40 r40 z43 e43 r43
  rw [show (2 * (t : Int)).toNat = 2 * t by omega, a1] at e40
  rw [show (2 * (t : Int) + 1).toNat = 2 * t + 1 by omega, a2] at e43
  refine ⟨fun c => ?_, fun c => ?_⟩
  · have s0 : s = 0 := by omega
    have ed0 : eA (xE (yX y)) t = (d : Int) := by
      rw [← ed, s0]
      exact (if_pos rfl).symm
    obtain rfl : z40 = (d : Int) := e40.symm.trans ed0
    intro _ z54 _ _
    refine X12_isThere_s fun z62 hz62 rz62 => ⟨fun n62 z67 e67 rz67 => ?_, fun e62 => ⟨fin0 ((2 * (t : Int) + (s : Int)) * 10 + (p : Int)) (by
      unfold slt
      omega) (Classical.byContradiction fun g => by
        have := hz62.mpr g
        omega), h⟩⟩
    obtain ⟨k1, k2, k3, k4⟩ := key z67 [] ((2 * (t : Int) + (s : Int)) * 10 + (p : Int)) (by
      unfold slt
      omega) e67 (hz62.mp (by omega))
    exact ⟨fun nt => ⟨fun n4 => whyRA hw hT h k u ht' (by omega) (by omega) ed.symm k3 nt n4 k4, fun e => ⟨k2 e, h⟩⟩, fun e => ⟨k1 e, h⟩⟩
  · have s1 : s = 1 := by omega
    have ed1 : eB (xE (yX y)) t = (d : Int) := by
      rw [← ed, s1]
      exact (if_neg (by decide)).symm
    obtain rfl : z43 = (d : Int) := e43.symm.trans ed1
    intro _ z54 _ _
    refine X12_isThere_s fun z62 hz62 rz62 => ⟨fun n62 z67 e67 rz67 => ?_, fun e62 => ⟨fin0 ((2 * (t : Int) + (s : Int)) * 10 + (p : Int)) (by
      unfold slt
      omega) (Classical.byContradiction fun g => by
        have := hz62.mpr g
        omega), h⟩⟩
    obtain ⟨k1, k2, k3, k4⟩ := key z67 [] ((2 * (t : Int) + (s : Int)) * 10 + (p : Int)) (by
      unfold slt
      omega) e67 (hz62.mp (by omega))
    exact ⟨fun nt => ⟨fun n4 => whyRA hw hT h k u ht' (by omega) (by omega) ed.symm k3 nt n4 k4, fun e => ⟨k2 e, h⟩⟩, fun e => ⟨k1 e, h⟩⟩
end WhyR
end
section
/-! Letters: where they go. -/
/-- a prefix holds an address -/
def hldI (a l x : Int) : Prop := bAnd (bXor a x) (mskF l) = 0
/-- the longest one of the first n prefixes with something picked that holds an address: its length, what is picked -/
noncomputable def sndN (P A L : Nat → Int) (x : Int) : Nat → Int × Int
  | 0 => (-1, -99999999)
  | n + 1 => cIf (hldI (A n) (L n) x ∧ ¬ P n = -99999999 ∧ (sndN P A L x n).1 < L n) (L n, P n) (sndN P A L x n)
theorem sndN.yes {P A L : Nat → Int} {x : Int} {n : Nat} (h : hldI (A n) (L n) x ∧ ¬ P n = -99999999 ∧ (sndN P A L x n).1 < L n) : sndN P A L x (n + 1) = (L n, P n) := cIf.pos h
theorem sndN.nay {P A L : Nat → Int} {x : Int} {n : Nat} (h : ¬ (hldI (A n) (L n) x ∧ ¬ P n = -99999999 ∧ (sndN P A L x n).1 < L n)) : sndN P A L x (n + 1) = sndN P A L x n := cIf.neg h
theorem sndN.val {P A L : Nat → Int} {x : Int} : ∀ n : Nat, (sndN P A L x n).2 = -99999999 ∨ ∃ p, p < n ∧ (sndN P A L x n).2 = P p
  | 0 => Or.inl rfl
  | n + 1 => by
    by_cases c : hldI (A n) (L n) x ∧ ¬ P n = -99999999 ∧ (sndN P A L x n).1 < L n
    · rw [sndN.yes c]
      exact Or.inr ⟨n, by omega, rfl⟩
    · rw [sndN.nay c]
      rcases sndN.val n with h | ⟨p, h1, h2⟩
      · exact Or.inl h
      · exact Or.inr ⟨p, by omega, h2⟩
/-- over which tie; -4: its own; none: -99999999 -/
noncomputable def tieE (E : En) (S : Sn) (A L : Nat → Int) (x : Int) (d : Nat) : Int := (sndN (fun p => (sPk S (10 * d + p)).1) A L x (eP E)).2
noncomputable def nxtE (E : En) (S : Sn) (A L : Nat → Int) (x : Int) (a : Int) : Int := if tieE E S A L x a.toNat < 0 then tieE E S A L x a.toNat else eN E (tieE E S A L x a.toNat).toNat (1 - (sdE E a (tieE E S A L x a.toNat).toNat).toNat)
theorem tieE.rng {E : En} {S : Sn} {A L : Nat → Int} {x : Int} {d : Nat} (u : upI E S) (hd : d < eD E) : tieE E S A L x d = -99999999 ∨ tieE E S A L x d = -4 ∨ ∃ t : Nat, tieE E S A L x d = (t : Int) ∧ t < eT E ∧ ¬ sdE E (d : Int) t < 0 := by
  rcases sndN.val (P := fun p => (sPk S (10 * d + p)).1) (A := A) (L := L) (x := x) (eP E) with h | ⟨p, hp, h⟩
  · exact Or.inl h
  · have h : tieE E S A L x d = (sPk S (10 * d + p)).1 := h
    rw [h]
    rcases pk_case u hd hp with ⟨q, _⟩ | ⟨_, ⟨q, _⟩ | ⟨c, tx, _, q, htx, ec, _⟩⟩
    · exact Or.inr (Or.inl q)
    · exact Or.inl q
    · refine Or.inr (Or.inr ⟨tx, q, htx, fun g => ?_⟩)
      unfold cdE at ec
      rw [if_pos g] at ec
      cases ec
theorem nxtE.rng {E : En} {S : Sn} {A L : Nat → Int} {x : Int} {d : Nat} (u : upI E S) (ti : tiG E) (hd : d < eD E) : nxtE E S A L x (d : Int) = -99999999 ∨ nxtE E S A L x (d : Int) = -4 ∨ (0 ≤ nxtE E S A L x (d : Int) ∧ nxtE E S A L x (d : Int) < (eD E : Int)) := by
  unfold nxtE
  rw [Int.toNat_natCast]
  rcases tieE.rng (A := A) (L := L) (x := x) u hd with h | h | ⟨t, h, ht, hs⟩
  · rw [h]; exact Or.inl rfl
  · rw [h]; exact Or.inr (Or.inl rfl)
  · rw [h, if_neg (by omega), Int.toNat_natCast]
    obtain ⟨e, he, hD⟩ := eN.nat ti (s := 1 - (sdE E (d : Int) t).toNat) ht
    rw [he]
    exact Or.inr (Or.inr ⟨by omega, by omega⟩)
/-- the domains that a letter comes to: how it ends, the domains -/
noncomputable def goL (nx : Int → Int) : Nat → List Int → Int → Int × List Int
  | 0, l, a => (2, l ++ [a])
  | n + 1, l, a => if a ∈ l then (2, l ++ [a]) else if nx a = -4 then (0, l ++ [a]) else if nx a < 0 then (1, l ++ [a]) else goL nx n (l ++ [a]) (nx a)
theorem goL.again {nx : Int → Int} {n : Nat} {l : List Int} {a : Int} (h : a ∈ l) : goL nx (n + 1) l a = (2, l ++ [a]) := if_pos h
theorem goL.own {nx : Int → Int} {n : Nat} {l : List Int} {a : Int} (h : ¬ a ∈ l) (e : nx a = -4) : goL nx (n + 1) l a = (0, l ++ [a]) := (if_neg h).trans (if_pos e)
theorem goL.lost {nx : Int → Int} {n : Nat} {l : List Int} {a : Int} (h : ¬ a ∈ l) (e : ¬ nx a = -4) (c : nx a < 0) : goL nx (n + 1) l a = (1, l ++ [a]) := (if_neg h).trans ((if_neg e).trans (if_pos c))
theorem goL.on {nx : Int → Int} {n : Nat} {l : List Int} {a : Int} (h : ¬ a ∈ l) (c : ¬ nx a < 0) : goL nx (n + 1) l a = goL nx n (l ++ [a]) (nx a) := (if_neg h).trans ((if_neg (by omega)).trans (if_neg c))
theorem loopF.imu {B : (Int × mM → Prop) → Int × mM → Prop} (I : Int → mM → Prop) (f : Int → mM → Nat) {n : Nat} {z : Int} {μ : mM} (h : I z μ) (hm : f z μ < n) (step : ∀ (rc : Int × mM → Prop) (z : Int) (μ : mM), I z μ → (∀ z' μ', I z' μ' → f z' μ' < f z μ → rc (z', μ')) → B rc (z, μ)) : loopF B False n (z, μ) := loopF.ind (fun s => I s.1 s.2) (fun s => f s.1 s.2) (fun rc s hI ih => step rc s.1 s.2 hI fun z' μ' => ih (z', μ')) n (z, μ) h hm
theorem nd_len {l : List Int} {D : Nat} (h : l.Nodup) (hx : ∀ x ∈ l, 0 ≤ x ∧ x < (D : Int)) : l.length ≤ D := by
  have g : ∀ i (hi : i < l.length), (l[i]?).getD 0 = l[i] := fun i hi => by
    rw [List.getElem?_eq_getElem hi]
    rfl
  refine pigeon D l.length (fun i => ((l[i]?).getD 0).toNat) (fun i hi => ?_) (fun i j hij hj => ?_)
  · show ((l[i]?).getD 0).toNat < D
    rw [g i hi]
    have := hx _ (List.getElem_mem hi)
    omega
  · show ((l[i]?).getD 0).toNat ≠ ((l[j]?).getD 0).toNat
    have hi : i < l.length := by omega
    rw [g i hi, g j hj]
    have a := hx _ (List.getElem_mem hi)
    have b := hx _ (List.getElem_mem hj)
    have c : l[i] ≠ l[j] := List.pairwise_iff_getElem.mp h i j hi hj hij
    omega
theorem nd_add {l : List Int} {a : Int} (h : l.Nodup) (n : ¬ a ∈ l) : (l ++ [a]).Nodup := by
  refine List.nodup_append.mpr ⟨h, ?_, ?_⟩
  · simp
  · intro x hx y hy e
    have hy : y = a := List.mem_singleton.mp hy
    rw [e, hy] at hx
    exact n hx
section LettersC
variable {w : mW} {μ m : mM} {y : S2}
theorem X2_tieFor_s {d : Nat} {x : Int} {Q : Int → mM → Prop} (hw : mWF w) (hT : mT w μ) (h : K2C w μ y) (k : K2X y) (hd : d < eD (xE (yX y))) (hq : Q (tieE (xE (yX y)) (xS (yX y)) (jA (xJ (yX y))) (jL (xJ (yX y))) x d) μ) : WP_X2_tieFor_W w μ (d : Int) x Q := by
  have ev := h.1.env hw hT k.1
  have st := h.1.2.2.2.2.1
  have tb := h.1.2.1.2.1
  have mk := h.2.2.2
  have pf := k.2.2.1
  have p10 := pf.1
  intro b1 eb1 A1
  have eb : dbA μ d = b1 := by
    have e : μ 10 d = (b1 : Int) := eb1
    show (μ 10 d).toNat = b1
    omega
  refine loopF.i3 (fun l t p => 0 ≤ p ∧ p ≤ (eP (xE (yX y)) : Int) ∧ (l, t) = sndN (fun p => (sPk (xS (yX y)) (10 * d + p)).1) (jA (xJ (yX y))) (jL (xJ (yX y))) x p.toNat) (fun _ _ p => (11 - p).toNat) ⟨by omega, by omega, rfl⟩ (by omega) ?_
  rintro rc l t p ⟨p0, p1, hi⟩ ih l' t' p' e rl rt rp n en rn
  cases e
  rw [ev.2.1] at en
  subst en
  refine ⟨fun c => ?_, fun c z1 e1 r1 z2 e2 z3 e3 r3 => ?_⟩
  · have e : p.toNat = eP (xE (yX y)) := by omega
    rw [e] at hi
    have hq : Q (sndN (fun p => (sPk (xS (yX y)) (10 * d + p)).1) (jA (xJ (yX y))) (jL (xJ (yX y))) x (eP (xE (yX y)))).2 μ := hq
    rw [← hi] at hq
    exact hq
  obtain ⟨pn, rfl⟩ : ∃ n : Nat, p = (n : Int) := ⟨p.toNat, by omega⟩
  rw [Int.toNat_natCast] at e1 e3 hi
  obtain ⟨t1, t2⟩ := tb pn (by omega)
  obtain ⟨q1, q2, q3⟩ := pf.2 pn (by omega)
  have hh : z2 = z3 ↔ hldI (jA (xJ (yX y)) pn) (jL (xJ (yX y)) pn) x := by
    rw [← e2, ← e3, t1, ← e1, mk pn (by omega)]
    exact bCover q2 q3
  have pkE : μ (b1 + 3) pn = (sPk (xS (yX y)) (10 * d + pn)).1 := by
    rw [← eb]
    exact (st.2.1 d pn hd (by omega)).1
  have nx0 : ¬ (hldI (jA (xJ (yX y)) pn) (jL (xJ (yX y)) pn) x ∧ ¬ (sPk (xS (yX y)) (10 * d + pn)).1 = -99999999 ∧ (sndN (fun p => (sPk (xS (yX y)) (10 * d + p)).1) (jA (xJ (yX y))) (jL (xJ (yX y))) x pn).1 < jL (xJ (yX y)) pn) → rc (l, t, (pn : Int) + 1) := fun q => ih _ _ _ ⟨by omega, by omega, by
    rw [show ((pn : Int) + 1).toNat = pn + 1 by omega, sndN.nay q]
    exact hi⟩ (by omega)
  have J : ∀ z : Int, ((z = 1 ∧ hldI (jA (xJ (yX y)) pn) (jL (xJ (yX y)) pn) x) ∨ (z = 0 ∧ ¬ hldI (jA (xJ (yX y)) pn) (jL (xJ (yX y)) pn) x)) → WJ_X2_tieFor_W_2 w μ b1 rc l t (pn : Int) z := by
    intro z hz rz
    refine ⟨fun q => nx0 fun g => ?_, fun q v ev1 rv => ?_⟩
    · rcases hz with ⟨a, _⟩ | ⟨_, b⟩
      · omega
      · exact b g.1
    have hq : hldI (jA (xJ (yX y)) pn) (jL (xJ (yX y)) pn) x := by
      rcases hz with ⟨_, b⟩ | ⟨a, _⟩
      · exact b
      · exact absurd a q
    rw [Int.toNat_natCast, pkE] at ev1
    subst ev1
    refine ⟨fun q4 => nx0 fun g => g.2.1 q4, fun q4 u eu ru => ?_⟩
    rw [Int.toNat_natCast, t2] at eu
    subst eu
    refine ⟨fun q5 => nx0 fun g => ?_, fun q5 => ih _ _ _ ⟨by omega, by omega, ?_⟩ (by omega)⟩
    · have g3 := g.2.2
      rw [← hi] at g3
      have g3 : l < jL (xJ (yX y)) pn := g3
      omega
    · rw [show ((pn : Int) + 1).toNat = pn + 1 by omega]
      exact (sndN.yes (P := fun p => (sPk (xS (yX y)) (10 * d + p)).1) ⟨hq, q4, by
        rw [← hi]
        exact q5⟩).symm
  exact ⟨fun q => J 0 (Or.inr ⟨rfl, fun g => q (hh.mpr g)⟩), fun q => J 1 (Or.inl ⟨rfl, hh.mp q⟩)⟩
theorem X2_partnerFor_s {d : Nat} {x : Int} {Q : Int → mM → Prop} (hw : mWF w) (hT : mT w μ) (h : K2C w μ y) (k : K2X y) (u : upI (xE (yX y)) (xS (yX y))) (hd : d < eD (xE (yX y))) (hq : Q (nxtE (xE (yX y)) (xS (yX y)) (jA (xJ (yX y))) (jL (xJ (yX y))) x (d : Int)) μ) : WP_X2_partnerFor_W w μ (d : Int) x Q := by
  have ev := h.1.env hw hT k.1
  refine X2_tieFor_s hw hT h k hd fun rz => ⟨fun c b8 eb8 A8 => ?_, fun c => ?_⟩
  rotate_left 1
  · have e : nxtE (xE (yX y)) (xS (yX y)) (jA (xJ (yX y))) (jL (xJ (yX y))) x (d : Int) = tieE (xE (yX y)) (xS (yX y)) (jA (xJ (yX y))) (jL (xJ (yX y))) x d := if_pos c
    rw [e] at hq
    exact hq
  rcases tieE.rng (A := jA (xJ (yX y))) (L := jL (xJ (yX y))) (x := x) u hd with g | g | ⟨t, g, ht, hs⟩
  · omega
  · omega
  have en : nxtE (xE (yX y)) (xS (yX y)) (jA (xJ (yX y))) (jL (xJ (yX y))) x (d : Int) = eN (xE (yX y)) t (1 - (sdE (xE (yX y)) (d : Int) t).toNat) := by
    unfold nxtE
    rw [Int.toNat_natCast, g, if_neg (by omega), Int.toNat_natCast]
  rw [en] at hq
  rw [g, Int.toNat_natCast] at eb8
  obtain ⟨a1, a2, _⟩ := ev.2.2.2.2.1 t ht
  have eb : tbA μ t = b8 := by
    show (μ 11 t).toNat = b8
    omega
  rw [eb] at a1 a2
  refine X9_sideOf_s ?_
  rw [a1, a2]
  have es : sdI (eA (xE (yX y)) t) (eB (xE (yX y)) t) (d : Int) = sdE (xE (yX y)) (d : Int) t := rfl
  rw [es]
  obtain ⟨s, e1, e2, _⟩ := sdE.side hs
  rw [e1]
  rw [e1, Int.toNat_natCast] at hq
  intro _
  refine X9_end_s ?_
  rw [a1, a2]
  have ep : (if (1 : Int) - (s : Int) = 0 then eA (xE (yX y)) t else eB (xE (yX y)) t) = eN (xE (yX y)) t (1 - s) := by
    unfold eN
    by_cases c9 : s = 0
    · rw [if_neg (by omega), if_neg (by omega)]
    · rw [if_pos (by omega), if_pos (by omega)]
  rw [ep]
  intro _
  exact hq
/-- the class's way of a letter -/
theorem X2_travel_s {d : Nat} {x : Int} {Q : Int → mM → Prop} (hw : mWF w) (hT : mT w μ) (h : K2C w μ y) (k : K2X y) (u : upI (xE (yX y)) (xS (yX y))) (hd : d < eD (xE (yX y)))
    (hq : ∀ m : mM, mT w m → mF [87006, 88999] w μ m → m 87 6 = ((goL (nxtE (xE (yX y)) (xS (yX y)) (jA (xJ (yX y))) (jL (xJ (yX y))) x) 11 [] (d : Int)).2.length : Int) → rowL (m 88) (goL (nxtE (xE (yX y)) (xS (yX y)) (jA (xJ (yX y))) (jL (xJ (yX y))) x) 11 [] (d : Int)).2.length = (goL (nxtE (xE (yX y)) (xS (yX y)) (jA (xJ (yX y))) (jL (xJ (yX y))) x) 11 [] (d : Int)).2 → Q (goL (nxtE (xE (yX y)) (xS (yX y)) (jA (xJ (yX y))) (jL (xJ (yX y))) x) 11 [] (d : Int)).1 m) : WP_X2_travel_W w μ (d : Int) x Q := by
  have ti := k.1.2.1.1
  have d10 := ti.2.2.2.1
  obtain ⟨nx, enx⟩ : ∃ f, nxtE (xE (yX y)) (xS (yX y)) (jA (xJ (yX y))) (jL (xJ (yX y))) x = f := ⟨_, rfl⟩
  rw [enx] at hq
  have fin : ∀ r : Int × List Int, r = goL nx 11 [] (d : Int) → ∀ m : mM, mT w m → mF [87006, 88999] w μ m → m 87 6 = (r.2.length : Int) → rowL (m 88) r.2.length = r.2 → Q r.1 m := fun r e => by
    rw [e]
    exact hq
  intro m1 u1 T1 m4 u4 T4 z7 e7
  obtain rfl := u1.is
  obtain rfl := u4.is
  have F4 : mF [87006, 88999] w μ (mUp (mUp μ 88 (0 : Int).toNat (d : Int)) 87 6 1) := (mF.refl.up (A_88 hw) mUp_ok rfl).up (A_87 hw) mUp_ok rfl
  have one := bB.one (a := (d : Int)) (x := z7) (by omega) e7
  refine loopF.iim (fun s i m => ∃ (l : List Int) (a : Nat), i = (l.length : Int) ∧ a < eD (xE (yX y)) ∧ rowL (m 88) (l.length + 1) = l ++ [(a : Int)] ∧ m 87 6 = (l.length : Int) + 1 ∧ ¬ (a : Int) ∈ l ∧ l.Nodup ∧ (∀ v ∈ l, 0 ≤ v ∧ v < (eD (xE (yX y)) : Int)) ∧ (0 ≤ s ∧ s < 1024) ∧ (∀ b : Nat, bB s b ↔ (b : Int) ∈ l ++ [(a : Int)]) ∧ goL nx (11 - l.length) l (a : Int) = goL nx 11 [] (d : Int)) (fun _ i => (11 - i).toNat) ⟨[], d, rfl, hd, ?_, ?_, ?_, List.nodup_nil, ?_, one.1, ?_, rfl⟩ (by omega) ?_
  · show rowL (mUp (mUp μ 88 (0 : Int).toNat (d : Int)) 87 6 1 88) 1 = [(d : Int)]
    have e : mUp (mUp μ 88 (0 : Int).toNat (d : Int)) 87 6 1 88 0 = (d : Int) := by
      rw [mUp.no (by omega)]
      exact mUp.yes ⟨rfl, rfl⟩
    show [mUp (mUp μ 88 (0 : Int).toNat (d : Int)) 87 6 1 88 0] = _
    rw [e]
  · rw [mUp.yes ⟨rfl, rfl⟩]
    rfl
  · exact fun q => by cases q
  · intro v q
    cases q
  · intro b
    rw [one.2 b]
    show b = (d : Int).toNat ↔ (b : Int) ∈ [(d : Int)]
    rw [List.mem_singleton]
    omega
  rintro rc s i m ⟨l, a, rfl, ha, hr, h6, na, nd, rg, rs, hb, hg⟩ ih s' i' m' e _ ri T F fs efs rfs
  cases e
  have F0 : mF [87006, 88999] w μ m := F4.call F rfl
  have nd1 := nd_add nd na
  have rg1 : ∀ v ∈ l ++ [(a : Int)], 0 ≤ v ∧ v < (eD (xE (yX y)) : Int) := fun v hv => by
    rcases List.mem_append.mp hv with q | q
    · exact rg v q
    · have q : v = (a : Int) := List.mem_singleton.mp q
      omega
  have len1 := nd_len nd1 rg1
  have len2 : (l ++ [(a : Int)]).length = l.length + 1 := by
    rw [List.length_append]
    rfl
  have fuel : 11 - l.length = (10 - l.length) + 1 := by omega
  rw [fuel] at hg
  refine ⟨fun c => absurd c (by omega), fun c z1 e1 r1 => ?_⟩
  have K : K2C w m y := h.fr hw hT (mX.ofF F0) rfl
  have ea : m 88 l.length = (a : Int) := by
    have g := congrArg (fun q : List Int => q[l.length]?) hr
    have g : (rowL (m 88) (l.length + 1))[l.length]? = (l ++ [(a : Int)])[l.length]? := g
    rw [rowL.get (by omega)] at g
    have g2 : (l ++ [(a : Int)])[l.length]? = some (a : Int) := by simp
    rw [g2] at g
    exact Option.some.inj g
  rw [Int.toNat_natCast, ea] at e1
  subst e1
  refine X2_partnerFor_s hw T K k u ha ?_
  rw [enx]
  intro rz
  have rn := nxtE.rng (A := jA (xJ (yX y))) (L := jL (xJ (yX y))) (x := x) u ti ha
  rw [enx] at rn
  rw [h6] at efs
  subst efs
  refine ⟨fun c2 m2 u2 T2 m3 u3 T3 z4 e4 z5 e5 => ?_, fun c2 => ⟨fun c3 => ?_, fun c3 => ?_⟩⟩
  · obtain rfl := u2.is
    obtain rfl := u3.is
    have F3 : mF [87006, 88999] w μ (mUp (mUp m 88 ((l.length : Int) + 1).toNat (nx (a : Int))) 87 6 ((l.length : Int) + 1 + 1)) := (F0.up (A_88 hw) mUp_ok rfl).up (A_87 hw) mUp_ok rfl
    obtain ⟨b, eb, hbD⟩ : ∃ b : Nat, nx (a : Int) = (b : Int) ∧ b < eD (xE (yX y)) := ⟨(nx (a : Int)).toNat, by omega, by omega⟩
    have hr3 : rowL (mUp (mUp m 88 ((l.length : Int) + 1).toNat (nx (a : Int))) 87 6 ((l.length : Int) + 1 + 1) 88) (l.length + 1 + 1) = (l ++ [(a : Int)]) ++ [nx (a : Int)] := by
      rw [rowL.succ, rowL.ext (f := m 88) (fun i hi => by rw [mUp.no (by omega), mUp.no (by omega)]), hr, mUp.no (by omega), mUp.yes ⟨rfl, by omega⟩]
    have h63 : mUp (mUp m 88 ((l.length : Int) + 1).toNat (nx (a : Int))) 87 6 ((l.length : Int) + 1 + 1) 87 6 = (l.length : Int) + 1 + 1 := mUp.yes ⟨rfl, rfl⟩
    have g1 := goL.on (nx := nx) (n := 10 - l.length) na (show ¬ nx (a : Int) < 0 by omega)
    rw [g1] at hg
    have bt := bB.get (a := nx (a : Int)) rs (by omega) e4 e5
    have hb2 := hb (nx (a : Int)).toNat
    rw [show (((nx (a : Int)).toNat : Nat) : Int) = nx (a : Int) by omega] at hb2
    refine ⟨fun c6 z7 e7 z8 e8 => ?_, fun c6 => ?_⟩
    · have nin : ¬ nx (a : Int) ∈ l ++ [(a : Int)] := fun q => by
        rcases bt with ⟨_, q2⟩ | ⟨q2, _⟩
        · omega
        · exact q2 (hb2.mpr q)
      have pt := bB.put (b := nx (a : Int)) rs (by omega) e7 e8
      refine ih _ _ _ ⟨l ++ [(a : Int)], b, by omega, hbD, ?_, by omega, ?_, nd1, rg1, pt.1, fun q => ?_, ?_⟩ (by omega)
      · rw [len2, hr3, eb]
      · rw [← eb]; exact nin
      · rw [pt.2 q, hb q, ← eb]
        constructor
        · rintro (g | g)
          · exact List.mem_append_left _ g
          · exact List.mem_append_right _ (List.mem_singleton.mpr (by omega))
        · intro g
          rcases List.mem_append.mp g with g | g
          · exact Or.inl g
          · have g := List.mem_singleton.mp g
            exact Or.inr (by omega)
      · rw [len2, ← eb, show 11 - (l.length + 1) = 10 - l.length by omega]
        exact hg
    · have yin : nx (a : Int) ∈ l ++ [(a : Int)] := by
        rcases bt with ⟨q2, _⟩ | ⟨_, q2⟩
        · exact hb2.mp q2
        · omega
      have l10 : 10 - l.length = (9 - l.length) + 1 := by omega
      rw [l10, goL.again yin] at hg
      have len3 : (l ++ [(a : Int)] ++ [nx (a : Int)]).length = l.length + 1 + 1 := by
        rw [List.length_append, len2]
        rfl
      exact fin (2, l ++ [(a : Int)] ++ [nx (a : Int)]) hg _ T3 F3 (show _ = ((l ++ [(a : Int)] ++ [nx (a : Int)]).length : Int) by omega) (show rowL _ (l ++ [(a : Int)] ++ [nx (a : Int)]).length = l ++ [(a : Int)] ++ [nx (a : Int)] by
        rw [len3]
        exact hr3)
  · have g1 := goL.lost (nx := nx) (n := 10 - l.length) na c3 c2
    rw [g1] at hg
    exact fin (1, l ++ [(a : Int)]) hg m T F0 (show m 87 6 = ((l ++ [(a : Int)]).length : Int) by omega) (show rowL (m 88) (l ++ [(a : Int)]).length = l ++ [(a : Int)] by
      rw [len2]
      exact hr)
  · have g1 := goL.own (nx := nx) (n := 10 - l.length) na c3
    rw [g1] at hg
    exact fin (0, l ++ [(a : Int)]) hg m T F0 (show m 87 6 = ((l ++ [(a : Int)]).length : Int) by omega) (show rowL (m 88) (l ++ [(a : Int)]).length = l ++ [(a : Int)] by
      rw [len2]
      exact hr)
end LettersC
section LettersR
variable {w : mW} {μ m : mM} {y : S2}
theorem X12_sends_s {d : Nat} {x : Int} {Q : Int → mM → Prop} (hw : mWF w) (h : K2R μ y) (k : K2X y) (hd : d < eD (xE (yX y))) (hq : Q (tieE (xE (yX y)) (xS (yX y)) (jA (xJ (yX y))) (jL (xJ (yX y))) x d) μ) : WP_X12_sends_W w μ (d : Int) x Q := by
  have ev := h.1.env (w := w) hw k.1
  have st := h.1.2.2.2.2.1
  have tb := h.1.2.1.2.1
  have pf := k.2.2.1
  have p10 := pf.1
  refine loopF.ii (fun b p => 0 ≤ p ∧ p ≤ (eP (xE (yX y)) : Int) ∧ ((b = -99999999 ∧ sndN (fun p => (sPk (xS (yX y)) (10 * d + p)).1) (jA (xJ (yX y))) (jL (xJ (yX y))) x p.toNat = (-1, -99999999)) ∨ ∃ c : Nat, b = (c : Int) ∧ (c : Int) < p ∧ sndN (fun p => (sPk (xS (yX y)) (10 * d + p)).1) (jA (xJ (yX y))) (jL (xJ (yX y))) x p.toNat = (jL (xJ (yX y)) c, (sPk (xS (yX y)) (10 * d + c)).1))) (fun _ p => (11 - p).toNat) ⟨by omega, by omega, Or.inl ⟨rfl, rfl⟩⟩ (by omega) ?_
  rintro rc b p ⟨p0, p1, hi⟩ ih b' p' e rb rp n en rn
  cases e
  rw [ev.2.1] at en
  subst en
  have hq : Q (sndN (fun p => (sPk (xS (yX y)) (10 * d + p)).1) (jA (xJ (yX y))) (jL (xJ (yX y))) x (eP (xE (yX y)))).2 μ := hq
  refine ⟨fun c => ⟨fun nb v ev1 rv => ?_, fun nb => ?_⟩, fun c v ev1 rv => ?_⟩
  · obtain ⟨cN, eb, cl, hc⟩ := hi.resolve_left (fun q => nb q.1)
    rw [show p.toNat = eP (xE (yX y)) by omega] at hc
    rw [eb, show (10 * (d : Int) + (cN : Int)).toNat = 10 * d + cN by omega, (st.2.1 (10 * d + cN) (Or.inl (by omega))).1] at ev1
    rw [hc] at hq
    rw [← ev1]
    exact hq
  · rcases hi with ⟨_, q⟩ | ⟨cN, eb, _⟩
    · rw [show p.toNat = eP (xE (yX y)) by omega] at q
      rw [q] at hq
      exact hq
    · omega
  obtain ⟨pn, rfl⟩ : ∃ n : Nat, p = (n : Int) := ⟨p.toNat, by omega⟩
  rw [show (10 * (d : Int) + (pn : Int)).toNat = 10 * d + pn by omega, (st.2.1 (10 * d + pn) (Or.inl (by omega))).1] at ev1
  rw [Int.toNat_natCast] at hi
  have no : ¬ (hldI (jA (xJ (yX y)) pn) (jL (xJ (yX y)) pn) x ∧ ¬ (sPk (xS (yX y)) (10 * d + pn)).1 = -99999999 ∧ (sndN (fun p => (sPk (xS (yX y)) (10 * d + p)).1) (jA (xJ (yX y))) (jL (xJ (yX y))) x pn).1 < jL (xJ (yX y)) pn) → rc (b, (pn : Int) + 1) := fun q => ih _ _ ⟨by omega, by omega, by
    rw [show ((pn : Int) + 1).toNat = pn + 1 by omega, sndN.nay q]
    rcases hi with a | ⟨c, e1, e2, e3⟩
    · exact Or.inl a
    · exact Or.inr ⟨c, e1, by omega, e3⟩⟩ (by omega)
  have yes : (hldI (jA (xJ (yX y)) pn) (jL (xJ (yX y)) pn) x ∧ ¬ (sPk (xS (yX y)) (10 * d + pn)).1 = -99999999 ∧ (sndN (fun p => (sPk (xS (yX y)) (10 * d + p)).1) (jA (xJ (yX y))) (jL (xJ (yX y))) x pn).1 < jL (xJ (yX y)) pn) → rc ((pn : Int), (pn : Int) + 1) := fun q => ih _ _ ⟨by omega, by omega, by
    rw [show ((pn : Int) + 1).toNat = pn + 1 by omega]
    exact Or.inr ⟨pn, rfl, by omega, sndN.yes (P := fun p => (sPk (xS (yX y)) (10 * d + p)).1) q⟩⟩ (by omega)
  refine ⟨fun q => no fun g => g.2.1 (ev1.trans q), fun q a ea ra l el rl => ?_⟩
  rw [Int.toNat_natCast, (tb pn (by omega)).1] at ea
  rw [Int.toNat_natCast, (tb pn (by omega)).2] at el
  subst ea
  subst el
  have nq : ¬ (sPk (xS (yX y)) (10 * d + pn)).1 = -99999999 := fun g => q (ev1.symm.trans g)
  refine X12_holds_s (pf.2 pn (by omega)).1 fun z hz rz => ⟨fun nz => ⟨fun qb => yes ⟨hz.mp (by omega), nq, ?_⟩, fun nb v2 eu ru => ?_⟩, fun ez => no fun g => ?_⟩
  · rcases hi with ⟨_, q2⟩ | ⟨c, e1, _⟩
    · rw [q2]
      show (-1 : Int) < _
      omega
    · omega
  · obtain ⟨cN, eb, cl, hc⟩ := hi.resolve_left (fun q => nb q.1)
    rw [eb, Int.toNat_natCast, (tb cN (by omega)).2] at eu
    subst eu
    refine ⟨fun q3 => no fun g => ?_, fun q3 => yes ⟨hz.mp (by omega), nq, by
      rw [hc]
      exact q3⟩⟩
    have g3 := g.2.2
    rw [hc] at g3
    have g3 : jL (xJ (yX y)) cN < jL (xJ (yX y)) pn := g3
    omega
  · have := hz.mpr g.1
    omega
/-- the reference's way of a letter -/
theorem X12_goes_s {d : Nat} {x : Int} {Q : Int → mM → Prop} (hw : mWF w) (hT : mT w μ) (h : K2R μ y) (k : K2X y) (u : upI (xE (yX y)) (xS (yX y))) (hd : d < eD (xE (yX y)))
    (hq : ∀ m : mM, mT w m → mF [106106, 175999] w μ m → m 106 106 = ((goL (nxtE (xE (yX y)) (xS (yX y)) (jA (xJ (yX y))) (jL (xJ (yX y))) x) 11 [] (d : Int)).2.length : Int) → rowL (m 175) (goL (nxtE (xE (yX y)) (xS (yX y)) (jA (xJ (yX y))) (jL (xJ (yX y))) x) 11 [] (d : Int)).2.length = (goL (nxtE (xE (yX y)) (xS (yX y)) (jA (xJ (yX y))) (jL (xJ (yX y))) x) 11 [] (d : Int)).2 → Q (goL (nxtE (xE (yX y)) (xS (yX y)) (jA (xJ (yX y))) (jL (xJ (yX y))) x) 11 [] (d : Int)).1 m) : WP_X12_goes_W w μ (d : Int) x Q := by
  have ti := k.1.2.1.1
  have d10 := ti.2.2.2.1
  obtain ⟨nx, enx⟩ : ∃ f, nxtE (xE (yX y)) (xS (yX y)) (jA (xJ (yX y))) (jL (xJ (yX y))) x = f := ⟨_, rfl⟩
  rw [enx] at hq
  have fin : ∀ r : Int × List Int, r = goL nx 11 [] (d : Int) → ∀ m : mM, mT w m → mF [106106, 175999] w μ m → m 106 106 = (r.2.length : Int) → rowL (m 175) r.2.length = r.2 → Q r.1 m := fun r e => by
    rw [e]
    exact hq
  intro m1 u1 T1
  obtain rfl := u1.is
  have F1 : mF [106106, 175999] w μ (mUp μ 106 106 0) := mF.refl.up (A_106 hw) mUp_ok rfl
  have h10 : mUp μ 106 106 0 106 106 = 0 := mUp.yes ⟨rfl, rfl⟩
  refine loopF.imu (fun a m => ∃ (l : List Int) (an : Nat), a = (an : Int) ∧ an < eD (xE (yX y)) ∧ rowL (m 175) l.length = l ∧ m 106 106 = (l.length : Int) ∧ l.Nodup ∧ (∀ v ∈ l, 0 ≤ v ∧ v < (eD (xE (yX y)) : Int)) ∧ goL nx (11 - l.length) l (an : Int) = goL nx 11 [] (d : Int)) (fun _ m => (12 - m 106 106).toNat) ⟨[], d, rfl, hd, rfl, h10, List.nodup_nil, (fun v q => by cases q), rfl⟩ (by omega) ?_
  rintro rc a m ⟨l, an, rfl, ha, hr, h6, nd, rg, hg⟩ ih a' m' e ra T F fm efm rfm
  cases e
  rw [h6] at efm
  subst efm
  have F0 : mF [106106, 175999] w μ m := F1.call F rfl
  have len0 := nd_len nd rg
  have len2 : (l ++ [(an : Int)]).length = l.length + 1 := by
    rw [List.length_append]
    rfl
  have fuel : 11 - l.length = (10 - l.length) + 1 := by omega
  rw [fuel] at hg
  refine loopF.ii (fun g q => 0 ≤ q ∧ q ≤ (l.length : Int) ∧ ((g = 0 ∧ ∀ i : Nat, (i : Int) < q → ¬ m 175 i = (an : Int)) ∨ (g = 1 ∧ (an : Int) ∈ l))) (fun _ q => (11 - q).toNat) ⟨by omega, by omega, Or.inl ⟨rfl, fun i hi => absurd hi (by omega)⟩⟩ (by omega) ?_
  rintro r2 g q ⟨q0, q1, hgq⟩ ih2 g' q' e2 rg' rq
  cases e2
  refine ⟨fun c m2 u2 T2 m3 u3 T3 => ?_, fun c => ⟨fun c2 => ih2 _ _ ⟨by omega, by omega, Or.inr ⟨rfl, ?_⟩⟩ (by omega), fun c2 v ev rv => ⟨fun c3 => ih2 _ _ ⟨by omega, by omega, Or.inl ⟨rfl, fun i hi => ?_⟩⟩ (by omega), fun c3 => ih2 _ _ ⟨by omega, by omega, Or.inr ⟨rfl, ?_⟩⟩ (by omega)⟩⟩⟩
  rotate_left 1
  · exact (hgq.resolve_left fun h => c2 h.1).2
  · by_cases c4 : (i : Int) < q
    · exact (hgq.resolve_right (fun h => absurd h.1 (by omega))).2 i c4
    · rw [show i = q.toNat by omega, ev]
      exact c3
  · rw [← hr]
    exact rowL.mem.mpr ⟨q.toNat, by omega, ev.trans c3⟩
  obtain rfl := u2.is
  obtain rfl := u3.is
  have F3 : mF [106106, 175999] w μ (mUp (mUp m 175 (l.length : Int).toNat (an : Int)) 106 106 ((l.length : Int) + 1)) := (F0.up (A_175 hw) mUp_ok rfl).up (A_106 hw) mUp_ok rfl
  have hr3 : rowL (mUp (mUp m 175 (l.length : Int).toNat (an : Int)) 106 106 ((l.length : Int) + 1) 175) (l.length + 1) = l ++ [(an : Int)] := by
    rw [rowL.succ, rowL.ext (f := m 175) (fun i hi => by rw [mUp.no (by omega), mUp.no (by omega)]), hr, mUp.no (by omega), mUp.yes ⟨rfl, by omega⟩]
  have h63 : mUp (mUp m 175 (l.length : Int).toNat (an : Int)) 106 106 ((l.length : Int) + 1) 106 106 = (l.length : Int) + 1 := mUp.yes ⟨rfl, rfl⟩
  have hr4 : rowL (mUp (mUp m 175 (l.length : Int).toNat (an : Int)) 106 106 ((l.length : Int) + 1) 175) (l ++ [(an : Int)]).length = l ++ [(an : Int)] := by
    rw [len2]
    exact hr3
  have h64 : mUp (mUp m 175 (l.length : Int).toNat (an : Int)) 106 106 ((l.length : Int) + 1) 106 106 = ((l ++ [(an : Int)]).length : Int) := by omega
  have K : K2R (mUp (mUp m 175 (l.length : Int).toNat (an : Int)) 106 106 ((l.length : Int) + 1)) y := h.fr hw hT (mX.ofF F3) rfl
  refine ⟨fun c2 => ?_, fun c2 => ?_⟩
  rotate_left 1
  · have yin := (hgq.resolve_left fun h => c2 h.1).2
    rw [goL.again yin] at hg
    exact fin (2, l ++ [(an : Int)]) hg _ T3 F3 h64 hr4
  have nin : ¬ (an : Int) ∈ l := fun qq => by
    rw [← hr] at qq
    obtain ⟨i, hi, e⟩ := rowL.mem.mp qq
    exact (hgq.resolve_right (fun h => absurd h.1 (by omega))).2 i (by omega) e
  refine X12_sends_s hw K k ha fun rz => ?_
  have en : nx (an : Int) = if tieE (xE (yX y)) (xS (yX y)) (jA (xJ (yX y))) (jL (xJ (yX y))) x an < 0 then tieE (xE (yX y)) (xS (yX y)) (jA (xJ (yX y))) (jL (xJ (yX y))) x an else eN (xE (yX y)) (tieE (xE (yX y)) (xS (yX y)) (jA (xJ (yX y))) (jL (xJ (yX y))) x an).toNat (1 - (sdE (xE (yX y)) (an : Int) (tieE (xE (yX y)) (xS (yX y)) (jA (xJ (yX y))) (jL (xJ (yX y))) x an).toNat).toNat) := by
    rw [← enx]
    rfl
  rcases tieE.rng (A := jA (xJ (yX y))) (L := jL (xJ (yX y))) (x := x) u ha with g | g | ⟨t, g, ht, hs⟩
  · rw [g] at en
    have en : nx (an : Int) = -99999999 := en
    rw [goL.lost nin (by omega) (by omega)] at hg
    exact ⟨fun _ => ⟨fun n => absurd g n, fun _ => fin (1, l ++ [(an : Int)]) hg _ T3 F3 h64 hr4⟩, fun q => absurd (g.symm.trans q) (by decide)⟩
  · rw [g] at en
    have en : nx (an : Int) = -4 := en
    rw [goL.own nin en] at hg
    exact ⟨fun n => absurd g n, fun _ => fin (0, l ++ [(an : Int)]) hg _ T3 F3 h64 hr4⟩
  · rw [g, if_neg (by omega), Int.toNat_natCast] at en
    obtain ⟨s, e1, e2, e3⟩ := sdE.side hs
    rw [e1, Int.toNat_natCast] at en
    obtain ⟨b, eb, hbD⟩ := eN.nat ti (s := 1 - s) ht
    rw [eb] at en
    rw [goL.on nin (by omega), en] at hg
    refine ⟨fun _ => ⟨fun _ => ?_, fun q => ?_⟩, fun q => ?_⟩
    rotate_left 1
    · exact absurd (g.symm.trans q) (by omega)
    · exact absurd (g.symm.trans q) (by omega)
    rw [g]
    refine X12_partnerOf_s ?_
    have evm := K.1.env (w := w) hw k.1
    obtain ⟨a1, a2, _⟩ := evm.2.2.2.1 t ht
    rw [ptR.of a1 a2 (ti.1 t ht).1 e2 e3, eb]
    intro _
    refine ih _ _ ⟨l ++ [(an : Int)], b, rfl, hbD, hr4, h64, nd_add nd nin, fun v hv => ?_, ?_⟩ ?_
    · rcases List.mem_append.mp hv with q | q
      · exact rg v q
      · have q : v = (an : Int) := List.mem_singleton.mp q
        omega
    · rw [len2, show 11 - (l.length + 1) = 10 - l.length by omega]
      exact hg
    · rw [h63, h6]
      omega
end LettersR
end
