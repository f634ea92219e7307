/-! why: the answer. -/
noncomputable def whyF (l : List Int) (t : Int) (c : Cd) : Option Cd → Int
  | none => 0
  | some x => if x.1 = t then 0 else if unl l c x = 0 then 7 else if unl l c x < 0 then 0 - unl l c x else unl l c x
noncomputable def whyD (l : List Int) (t : Int) (k : Option Cd) : Option Cd → Int
  | none => 10
  | some c => whyF l t c k
noncomputable def whyB (E : En) (S : Sn) (t s p d : Nat) : Int := cIf (sHd S (slt t s p) = none) (-99999999) (if 0 ≤ eOw E (10 * d + p) then 8 else cIf (∃ r, sHd S (slt t s p) = some r ∧ (d : Int) ∈ wOf r) 9 (whyD (eSt E d) (t : Int) (pickE (eGr E d) (eSt E d) (cdsN E S (d : Int) p (eT E))) (cdE E S (d : Int) p t)))
noncomputable def whyA (E : En) (S : Sn) (t s p : Int) : Int := cIf ((0 ≤ t ∧ t < (eT E : Int)) ∧ (0 ≤ s ∧ s ≤ 1) ∧ (0 ≤ p ∧ p < (eP E : Int))) (whyB E S t.toNat s.toNat p.toNat (eN E t.toNat s.toNat).toNat) (-1)
section WhyP
variable {E : En} {S : Sn} {t s p d : Nat}
theorem whyA.no {t s p : Int} (h : ¬ ((0 ≤ t ∧ t < (eT E : Int)) ∧ (0 ≤ s ∧ s ≤ 1) ∧ (0 ≤ p ∧ p < (eP E : Int)))) : whyA E S t s p = -1 := cIf.neg h
theorem whyA.eq (h : (0 ≤ (t : Int) ∧ (t : Int) < (eT E : Int)) ∧ (0 ≤ (s : Int) ∧ (s : Int) ≤ 1) ∧ (0 ≤ (p : Int) ∧ (p : Int) < (eP E : Int))) (ed : eN E t s = (d : Int)) : whyA E S (t : Int) (s : Int) (p : Int) = whyB E S t s p d := by
  have e : whyA E S (t : Int) (s : Int) (p : Int) = whyB E S (t : Int).toNat (s : Int).toNat (p : Int).toNat (eN E (t : Int).toNat (s : Int).toNat).toNat := cIf.pos h
  rw [e]
  simp only [Int.toNat_natCast, ed]
theorem whyB.nix (h : sHd S (slt t s p) = none) : whyB E S t s p d = -99999999 := cIf.pos h
theorem whyB.own (h : ¬ sHd S (slt t s p) = none) (o : 0 ≤ eOw E (10 * d + p)) : whyB E S t s p d = 8 := (cIf.neg h).trans (if_pos o)
theorem whyB.nine (h : ¬ sHd S (slt t s p) = none) (o : ¬ 0 ≤ eOw E (10 * d + p)) (q : ∃ r, sHd S (slt t s p) = some r ∧ (d : Int) ∈ wOf r) : whyB E S t s p d = 9 := (cIf.neg h).trans ((if_neg o).trans (cIf.pos q))
theorem whyB.rest (h : ¬ sHd S (slt t s p) = none) (o : ¬ 0 ≤ eOw E (10 * d + p)) (q : ¬ ∃ r, sHd S (slt t s p) = some r ∧ (d : Int) ∈ wOf r) : whyB E S t s p d = whyD (eSt E d) (t : Int) (pickE (eGr E d) (eSt E d) (cdsN E S (d : Int) p (eT E))) (cdE E S (d : Int) p t) := (cIf.neg h).trans ((if_neg o).trans (cIf.neg q))
theorem cds_at {d : Int} {x : Cd} (hx : x ∈ cdsN E S d p (eT E)) (e : x.1 = (t : Int)) : cdE E S d p t = some x := by
  obtain ⟨t', _, h⟩ := cdsN.mem hx
  have e2 := (cdE.ptn h).1
  have e3 : t' = t := by omega
  rw [← e3]; exact h
theorem cds_in {d : Int} {c : Cd} (ht : t < eT E) (h : cdE E S d p t = some c) : c ∈ cdsN E S d p (eT E) := List.mem_filterMap.mpr ⟨t, List.mem_range.mpr ht, h⟩
/-- what is picked, while picks are up to date -/
theorem pk_case (u : upI E S) (hd : d < eD E) (hp : p < eP E) : ((sPk S (10 * d + p)).1 = -4 ∧ 0 ≤ eOw E (10 * d + p)) ∨ (¬ 0 ≤ eOw E (10 * d + p) ∧ (((sPk S (10 * d + p)).1 = -99999999 ∧ pickE (eGr E d) (eSt E d) (cdsN E S (d : Int) p (eT E)) = none) ∨ ∃ (x : Cd) (tx : Nat), pickE (eGr E d) (eSt E d) (cdsN E S (d : Int) p (eT E)) = some x ∧ (sPk S (10 * d + p)).1 = (tx : Int) ∧ tx < eT E ∧ cdE E S (d : Int) p tx = some x ∧ x.1 = (tx : Int) ∧ (sPk S (10 * d + p)).2 = some x.2.2.2)) := by
  have pk : sPk S (10 * d + p) = newP E S (d : Int) p := u.1 d p hd hp (fun q => q)
  rw [pk]
  by_cases o : 0 ≤ eOw E (10 * d + p)
  · rw [newP.own o]
    exact Or.inl ⟨rfl, o⟩
  · refine Or.inr ⟨o, ?_⟩
    cases e : pickE (eGr E d) (eSt E d) (cdsN E S (d : Int) p (eT E)) with
    | none =>
      rw [newP.no o e]
      exact Or.inl ⟨rfl, rfl⟩
    | some x =>
      rw [newP.yes o e]
      obtain ⟨tx, htx, ex⟩ := cdsN.mem (pickE.mem e)
      have e1 := (cdE.ptn ex).1
      exact Or.inr ⟨x, tx, rfl, e1, htx, ex, e1, rfl⟩
end WhyP
theorem X0_firstUnlike_s {w : mW} {μ : mM} {a0 a b : Nat} {Q : Int → mM → Prop} (k : Q (if unl (rowL (μ (a0 + 1)) (μ a0 4).toNat) (cdv μ a) (cdv μ b) = 0 then 7 else if unl (rowL (μ (a0 + 1)) (μ a0 4).toNat) (cdv μ a) (cdv μ b) < 0 then 0 - unl (rowL (μ (a0 + 1)) (μ a0 4).toNat) (cdv μ a) (cdv μ b) else unl (rowL (μ (a0 + 1)) (μ a0 4).toNat) (cdv μ a) (cdv μ b)) μ) : WP_X0_firstUnlikeStep_W w μ a0 a b Q := by
  refine loopF.i (fun s => 0 ≤ s ∧ (s = 0 ∨ s ≤ μ a0 4) ∧ unl (rowL (μ (a0 + 1)) (μ a0 4).toNat) (cdv μ a) (cdv μ b) = unl (rowL (fun i => μ (a0 + 1) (s.toNat + i)) ((μ a0 4).toNat - s.toNat)) (cdv μ a) (cdv μ b)) (fun s => (7 - s).toNat) ⟨by omega, Or.inl rfl, by simp⟩ (by omega) ?_
  rintro rc s ⟨s0, s1, h⟩ ih s' e hs n en hn
  subst e en
  refine ⟨fun g => ?_, fun g v ev hv => ?_⟩
  · have u0 : unl (rowL (μ (a0 + 1)) (μ a0 4).toNat) (cdv μ a) (cdv μ b) = 0 := by
      rw [h, show (μ a0 4).toNat - s.toNat = 0 by omega]
      rfl
    rw [if_pos u0] at k
    exact k
  · have hd : unl (rowL (μ (a0 + 1)) (μ a0 4).toNat) (cdv μ a) (cdv μ b) = (if stD v (cdv μ a) (cdv μ b) = 0 then unl (rowL (fun i => μ (a0 + 1) ((s + 1).toNat + i)) ((μ a0 4).toNat - (s + 1).toNat)) (cdv μ a) (cdv μ b) else if stD v (cdv μ a) (cdv μ b) < 0 then v else -v) := by
      rw [h, show (μ a0 4).toNat - s.toNat = ((μ a0 4).toNat - (s + 1).toNat) + 1 by omega, rowL.head]
      have e0 : μ (a0 + 1) (s.toNat + 0) = v := ev
      rw [e0]
      have e1 : (fun i => μ (a0 + 1) (s.toNat + (i + 1))) = (fun i => μ (a0 + 1) ((s + 1).toNat + i)) := by
        funext i
        rw [show s.toNat + (i + 1) = (s + 1).toNat + i by omega]
      rw [e1]
      rfl
    refine X0_compareAt_s fun z h1 h2 rz => ⟨fun c => ih _ ⟨by omega, by omega, ?_⟩ (by omega), fun c => ?_⟩
    · rw [hd, if_pos (h2.mp c)]
    · have hne : ¬ stD v (cdv μ a) (cdv μ b) = 0 := fun e => c (h2.mpr e)
      have hv6 := stD.pos hne
      rw [if_neg hne] at hd
      generalize unl (rowL (μ (a0 + 1)) (μ a0 4).toNat) (cdv μ a) (cdv μ b) = uu at hd k
      by_cases q : stD v (cdv μ a) (cdv μ b) < 0
      · rw [if_pos q] at hd
        rw [if_neg (show ¬ uu = 0 by omega), if_neg (show ¬ uu < 0 by omega), hd] at k
        exact k
      · rw [if_neg q] at hd
        rw [if_neg (show ¬ uu = 0 by omega), if_pos (show uu < 0 by omega), show (0 : Int) - uu = v by omega] at k
        exact k
section WhyC
variable {w : mW} {μ m : mM} {y : S2}
theorem over_s {n : Nat} {v : Int} {Q : Int → mM → Prop} (h35 : ∀ i, i < 10 → m 35 i = ((36 + 3 * i : Nat) : Int)) (en : m 32 9 = (n : Int)) (hn : n ≤ 9) (k : ∀ z : Int, ((z = -1 ∧ ∀ i, i < n → ¬ (cdC m i).1 = v) ∨ (∃ i : Nat, z = (i : Int) ∧ i < n ∧ (cdC m i).1 = v ∧ ∀ j, j < i → ¬ (cdC m j).1 = v)) → Q z m) : WP_X8_candidateOver_W w m v Q := by
  refine loopF.i (fun z => 0 ≤ z ∧ z ≤ (n : Int) ∧ ∀ j : Nat, (j : Int) < z → ¬ (cdC m j).1 = v) (fun z => (11 - z).toNat) ⟨by decide, by omega, fun j hj => absurd hj (by omega)⟩ (by decide) ?_
  rintro rc i ⟨i0, i1, hi⟩ ih i' e ri n2 en2 rn2
  cases e
  rw [en] at en2
  subst en2
  refine ⟨fun g => k _ (Or.inl ⟨rfl, fun j hj => hi j (by omega)⟩), fun c b eb Ab z ez rz => ?_⟩
  have e := h35 i.toNat (by omega)
  rw [eb] at e
  have e2 : b = 36 + 3 * i.toNat := by omega
  subst e2
  have e3 : (cdC m i.toNat).1 = z := ez
  refine ⟨fun q => ih _ ⟨by omega, by omega, fun j hj => ?_⟩ (by omega), fun q => k _ (Or.inr ⟨i.toNat, by omega, by omega, e3.trans q, fun j hj => hi j (by omega)⟩)⟩
  by_cases c2 : (j : Int) < i
  · exact hi j c2
  · rw [show j = i.toNat by omega, e3]; exact q
theorem C_whyA {t0 s0 p0 : Int} (hw : mWF w) (hT : mT w μ) (h : K2C w μ y) (k : K2X y) (u : upI (xE (yX y)) (xS (yX y))) : WP_X11_why_W w μ t0 s0 p0 (fun z m => z = whyA (xE (yX y)) (xS (yX y)) t0 s0 p0 ∧ K2C w m y) := by
  have ev := h.1.env hw hT k.1
  have ti := k.1.2.1.1
  have p10 := ti.2.2.2.2
  intro n en rn
  refine X11_isTie_s ev fun z hz rz => ⟨fun q => ⟨(whyA.no fun g => ?_).symm, h⟩, fun q => X11_isEither_s fun z2 hz2 rz2 => ⟨fun q2 => ⟨(whyA.no fun g => ?_).symm, h⟩, fun q2 n3 en3 rn3 => X11_isPrefix_s ev fun z3 hz3 rz3 => ⟨fun q3 => ?_, fun q3 => ⟨(whyA.no fun g => ?_).symm, h⟩⟩⟩⟩
  · have := hz.mpr g.1
    omega
  · have := hz2.mpr g.2.1
    omega
  rotate_left 1
  · have := hz3.mpr g.2.2
    omega
  have ht := hz.mp (by omega)
  have hs := hz2.mp (by omega)
  have hp := hz3.mp (by omega)
  obtain ⟨t, rfl⟩ : ∃ n : Nat, t0 = (n : Int) := ⟨t0.toNat, by omega⟩
  obtain ⟨s, rfl⟩ : ∃ n : Nat, s0 = (n : Int) := ⟨s0.toNat, by omega⟩
  obtain ⟨p, rfl⟩ : ∃ n : Nat, p0 = (n : Int) := ⟨p0.toNat, by omega⟩
  have ht' : t < eT (xE (yX y)) := by omega
  obtain ⟨d, ed, hd⟩ := eN.nat ti (s := s) ht'
  rw [whyA.eq (S := xS (yX y)) ⟨ht, hs, hp⟩ ed]
  intro b1 eb1 A1 rz9 b10 eb10 A10
  have eb : tbA μ t = b1 := by
    have e : μ 11 t = (b1 : Int) := eb1
    show (μ 11 t).toNat = b1
    omega
  obtain ⟨_, big, l3⟩ := ev.2.2.2.1.1 t ht'
  obtain ⟨a1, a2, _⟩ := ev.2.2.2.2.1 t ht'
  rw [eb] at big a1 a2
  have e10 : b10 = b1 + 4 + 6 * (10 * s + p) := by
    have g := (l3 (10 * s + p) (by omega)).1
    rw [eb, show 10 * s + p = ((s : Int) * 10 + (p : Int)).toNat by omega] at g
    have e2 : μ (b1 + 2) ((s : Int) * 10 + (p : Int)).toNat = (b10 : Int) := eb10
    rw [e2] at g
    omega
  subst e10
  refine X9_end_s ?_
  have ee : (if (s : Int) = 0 then μ b1 0 else μ b1 1) = (d : Int) := by
    rw [a1, a2, ← ed]
    unfold eN
    by_cases c : s = 0
    · rw [if_pos c, if_pos (by omega)]
    · rw [if_neg c, if_neg (by omega)]
  rw [ee]
  intro rz17 b18 eb18 A18 z21 ez21 rz21
  have ebd : dbA μ d = b18 := by
    have e : μ 10 d = (b18 : Int) := eb18
    show (μ 10 d).toNat = b18
    omega
  obtain ⟨_, bigd, _⟩ := ev.2.2.2.1.2.1 d hd
  obtain ⟨o1, o2, _⟩ := ev.2.2.2.2.2.1 d hd
  rw [ebd] at bigd o2
  have st := h.1.2.2.2.2.1
  have rh : rtC μ (b1 + 4 + 6 * (10 * s + p)) = sHd (xS (yX y)) (slt t s p) := by
    have g := (st.1 t (10 * s + p) ht' (by omega)).1
    have e : heA μ t (10 * s + p) = b1 + 4 + 6 * (10 * s + p) := by
      show tbA μ t + 4 + 6 * (10 * s + p) = _
      rw [eb]
    rw [e, show 20 * t + (10 * s + p) = slt t s p by
      unfold slt
      omega] at g
    exact g
  refine ⟨fun c21 z27 ez27 rz27 => ?_, fun c21 _ _ _ => ⟨(whyB.nix (rh.symm.trans (rtC.nil (ez21.trans c21)))).symm, h⟩⟩
  obtain ⟨r, er⟩ : ∃ r, sHd (xS (yX y)) (slt t s p) = some r := ⟨_, rh.symm.trans (rtC.the (by
    rw [ez21]
    exact c21))⟩
  have nn : ¬ sHd (xS (yX y)) (slt t s p) = none := fun q => by
    rw [er] at q
    cases q
  have wr : wOf r = rowL (μ (b1 + 4 + 6 * (10 * s + p) + 1)) (μ (b1 + 4 + 6 * (10 * s + p)) 7).toNat := by
    rw [(rtC.get (rh.trans er)).2]
  have ow : eOw (xE (yX y)) (10 * d + p) = z27 := by
    rw [← o1 p (by omega), ebd]
    exact ez27
  refine ⟨fun c27 => X7_passes_s fun z36 hz36 rz36 => ⟨fun c36 => ?_, fun c36 _ _ _ => ⟨(whyB.nine nn (by omega) ⟨r, er, ?_⟩).symm, h⟩⟩, fun c27 _ _ _ => ⟨(whyB.own nn (by omega)).symm, h⟩⟩
  rotate_left 1
  · rw [wr]
    exact hz36.mp (by omega)
  refine X8_gather_s hw hT ev st k.1.1 ti (by omega) (cdsN.len ti) fun m f _ _ e9 el _ _ _ => ?_
  have K : K2C w m y := h.frC hw hT f
  have h35 : ∀ i, i < 10 → m 35 i = ((36 + 3 * i : Nat) : Int) := fun i hi => by
    rw [f 35 i (by omega) (by omega) (by omega) (by omega)]
    exact ev.2.2.2.1.2.2.2.2.2 i hi
  have nq : ¬ ∃ r, sHd (xS (yX y)) (slt t s p) = some r ∧ (d : Int) ∈ wOf r := fun ⟨r', e', q'⟩ => by
    rw [er] at e'
    cases e'
    have := hz36.mpr (by
      rw [← wr]
      exact q')
    omega
  have eB := whyB.rest (t := t) (s := s) (E := xE (yX y)) nn (by omega) nq
  have l9 := cdsN.len (S := xS (yX y)) (p := p) ti (d := (d : Int)) _ (Nat.le_refl _)
  have tie3 : m (b18 + 3) p = (sPk (xS (yX y)) (10 * d + p)).1 := by
    rw [f (b18 + 3) p (by omega) (by omega) (by omega) (by omega), ← ebd]
    exact (st.2.1 d p hd (by omega)).1
  refine over_s h35 e9 l9 fun z47 h47 rz47 z49 ez49 rz49 => over_s h35 e9 l9 fun z57 h57 rz57 => ?_
  have ez : z49 = (sPk (xS (yX y)) (10 * d + p)).1 := by
    rw [← tie3]
    exact ez49.symm
  have inl : ∀ i, i < (cdsN (xE (yX y)) (xS (yX y)) (d : Int) p (eT (xE (yX y)))).length → cdC m i ∈ cdsN (xE (yX y)) (xS (yX y)) (d : Int) p (eT (xE (yX y))) := fun i hi => by
    have g : cdC m i ∈ lst (cdC m) (cdsN (xE (yX y)) (xS (yX y)) (d : Int) p (eT (xE (yX y)))).length := lst.in hi
    rw [el] at g
    exact g
  cases ec : cdE (xE (yX y)) (xS (yX y)) (d : Int) p t with
  | none =>
    have n47 : z47 = -1 := by
      rcases h47 with ⟨q, _⟩ | ⟨i, q, hi, e1, _⟩
      · exact q
      · have g := cds_at (inl i hi) e1
        rw [ec] at g
        cases g
    refine ⟨fun c => absurd c (by omega), fun _ _ _ _ => ⟨?_, K⟩⟩
    rw [eB, ec]
    rfl
  | some c =>
    obtain ⟨x0, ex0⟩ := pickE.there (g := eGr (xE (yX y)) d) (l := eSt (xE (yX y)) d) (cds_in ht' ec)
    obtain ⟨x, tx, ex, ezx, htx, exc, x1, _⟩ : ∃ (x : Cd) (tx : Nat), pickE (eGr (xE (yX y)) d) (eSt (xE (yX y)) d) (cdsN (xE (yX y)) (xS (yX y)) (d : Int) p (eT (xE (yX y)))) = some x ∧ (sPk (xS (yX y)) (10 * d + p)).1 = (tx : Int) ∧ tx < eT (xE (yX y)) ∧ cdE (xE (yX y)) (xS (yX y)) (d : Int) p tx = some x ∧ x.1 = (tx : Int) ∧ (sPk (xS (yX y)) (10 * d + p)).2 = some x.2.2.2 := by
      rcases pk_case (p := p) u hd (by omega) with ⟨_, q⟩ | ⟨_, ⟨_, q⟩ | q⟩
      · omega
      · rw [ex0] at q
        cases q
      · exact q
    have ez2 : z49 = (tx : Int) := ez.trans ezx
    have eW : whyB (xE (yX y)) (xS (yX y)) t s p d = whyF (eSt (xE (yX y)) d) (t : Int) c (some x) := by
      rw [eB, ec, ex]
      rfl
    have mc := cds_in ht' ec
    have mx := cds_in htx exc
    rw [← el] at mc mx
    obtain ⟨ic, hic, qc⟩ := lst.mem.mp mc
    obtain ⟨ix, hix, qx⟩ := lst.mem.mp mx
    rcases h47 with ⟨_, g47⟩ | ⟨i1, q47, hi1, f1, g1⟩
    · exact absurd (by
        rw [qc]
        exact (cdE.ptn ec).1) (g47 ic hic)
    rcases h57 with ⟨_, g57⟩ | ⟨i2, q57, hi2, f2, g2⟩
    · exact absurd (by
        rw [qx, x1]
        exact ez2.symm) (g57 ix hix)
    subst q47
    subst q57
    have c1 : cdC m i1 = c := Option.some.inj ((cds_at (inl i1 hi1) f1).symm.trans ec)
    have x2 : cdC m i2 = x := Option.some.inj ((cds_at (inl i2 hi2) (f2.trans ez2)).symm.trans exc)
    refine ⟨fun _ => ⟨fun q _ _ _ => ⟨?_, K⟩, fun q => ⟨fun _ b64 eb64 A64 b67 eb67 A67 => ?_, fun q => absurd q (by omega)⟩⟩, fun q => absurd q (by omega)⟩
    · have e12 : i1 = i2 := by omega
      have ecx : c = x := by rw [← c1, ← x2, e12]
      rw [eW]
      have xt : x.1 = (t : Int) := by
        rw [← ecx]
        exact (cdE.ptn ec).1
      exact (if_pos xt).symm
    · have nt : ¬ x.1 = (t : Int) := fun e => by
        have e5 : z49 = (t : Int) := ez2.trans (x1.symm.trans e)
        rcases Nat.lt_trichotomy i1 i2 with lt | lt | lt
        · exact g2 i1 lt (f1.trans e5.symm)
        · exact q (by rw [lt])
        · exact g1 i2 lt (f2.trans e5)
      have e64 : b64 = 36 + 3 * i1 := by
        have g := h35 i1 (by omega)
        have g' : m 35 i1 = (b64 : Int) := eb64
        rw [g'] at g
        omega
      have e67 : b67 = 36 + 3 * i2 := by
        have g := h35 i2 (by omega)
        have g' : m 35 i2 = (b67 : Int) := eb67
        rw [g'] at g
        omega
      subst e64
      subst e67
      refine X0_firstUnlike_s ?_
      have e1 : rowL (m (b18 + 1)) (m b18 4).toNat = eSt (xE (yX y)) d := by
        rw [f b18 4 (by omega) (by omega) (by omega) (by omega), ← o2]
        exact rowL.ext fun i _ => f (b18 + 1) i (by omega) (by omega) (by omega) (by omega)
      have ca : cdv m (36 + 3 * i1) = c := c1
      have cb : cdv m (36 + 3 * i2) = x := x2
      rw [e1, ca, cb]
      intro _ _ _ _
      refine ⟨?_, K⟩
      rw [eW]
      exact (if_neg nt).symm
end WhyC
section CandC
variable {w : mW} {μ : mM} {E : En} {S : Sn} {G : mM → Prop} {d : Int} {p t s : Nat}
theorem X12_candidate_c {Q : Int → mM → Prop} (hw : mWF w) (hT : mT w μ) (ev : envR w μ E G) (hG : G μ) (gG : gSt G) (st : snR μ E S) (sn : snG E S) (ti : tiG E) (ht : t < eT E) (hs : s < 2) (hd : d = eN E t s) (hp : p < 10)
    (k : ∀ (z : Int) (m : mM), G m → frT μ m (4 + (t : Int)) → rtR m (4 + (t : Int)) = (cdAt E S d p t s).map (fun x => x.2.2.2) → (z = -99999999 ↔ (eU E t = 0 ∨ sHd S (slt t s p) = none)) → (z = 0 ↔ ¬ cdAt E S d p t s = none) → (z = 9 → ∃ r, sHd S (slt t s p) = some r ∧ d ∈ wOf r) → (z = -99999999 ∨ z = 0 ∨ z = 9 ∨ (z = 10 ∧ ∀ r, sHd S (slt t s p) = some r → ¬ d ∈ wOf r)) → Q z m) : WP_X12_candidate_W w μ d (t : Int) (p : Int) Q := by
  obtain ⟨h1, h2, h3, h4, h5, h6⟩ := ev
  obtain ⟨a1, a2, a3, a4, a5, a6⟩ := h4 t ht
  have hne := (ti.1 t ht).1
  have t20 := ti.2.2.1
  intro e0 ee0 _ e1 ee1 _ n en hn
  refine X12_sideOf_s ?_
  rw [sdR.of a1 hne hs hd]
  intro _
  refine X12_nothing_s (by omega) fun m1 r1 f1 T1 F1 x1 _ => ?_
  have g1 : G m1 := gG μ m1 hG fun b i h1 h2 h3 => f1 b i (by omega)
  have fr1 : frT μ m1 (4 + (t : Int)) := frT.refl.no f1
  have sl : (2 * (t : Int) + (s : Int)) * 10 + (p : Int) = ((slt t s p : Nat) : Int) := by unfold slt; omega
  show (0 ≤ (2 * (t : Int) + (s : Int)) * 10 + (p : Int) ∧ (2 * (t : Int) + (s : Int)) * 10 + (p : Int) ≤ 449) → _
  rw [sl]
  intro hsl u eu hu
  have eu' : eU E t = u := by
    rw [← eu, f1 112 _ (by omega), ← a3]
    congr 1
  have sb : slt t s p < 20 * eT E := by unfold slt; omega
  obtain ⟨b1, b2, _⟩ := st.1 (slt t s p) (Or.inl sb)
  have rh : rtR m1 (130 + ((slt t s p : Nat) : Int)) = sHd S (slt t s p) := by rw [fr1.rt hw hT (by omega) (by omega), b1]
  refine ⟨fun c => ?_, fun c y ey hy => ?_⟩
  · have cn : cdAt E S d p t s = none := if_pos (eu'.trans c)
    exact k _ m1 g1 fr1 (by rw [r1, cn]; rfl) ⟨fun _ => Or.inl (eu'.trans c), fun _ => rfl⟩ ⟨fun e => absurd e (by decide), fun e => absurd cn e⟩ (fun e => absurd e (by decide)) (Or.inl rfl)
  refine X12_isThere_s fun z hz rz => ⟨fun c2 => ?_, fun c2 => ?_⟩
  rotate_left 1
  · have hn : sHd S (slt t s p) = none := Classical.byContradiction fun g => by
      have := hz.mpr (by rw [rh]; exact g)
      omega
    have cn : cdAt E S d p t s = none := by
      unfold cdAt
      rw [if_neg (by rw [eu']; exact c), hn]
    exact k _ m1 g1 fr1 (by rw [r1, cn]; rfl) ⟨fun _ => Or.inr hn, fun _ => rfl⟩ ⟨fun e => absurd e (by decide), fun e => absurd cn e⟩ (fun e => absurd e (by decide)) (Or.inl rfl)
  obtain ⟨r, er⟩ : ∃ r, sHd S (slt t s p) = some r := by
    cases e : sHd S (slt t s p) with
    | none => exact absurd (rh.trans e) (hz.mp (by omega))
    | some r => exact ⟨r, rfl⟩
  have rr := rtR.get (rh.trans er)
  have rg := sn.2.2.1 (slt t s p) r er
  have px : r.1 < (eP E : Int) := by
    have pm : slt t s p % 10 = p := by unfold slt; omega
    have g1 := rg.1
    rw [pm] at g1
    rw [g1]
    have c : ¬ eP E ≤ slt t s p % 10 := fun g => by
      have := (sn.2.2.2.2.2.2.2.2.2 _ g).2.2
      rw [er] at this
      cases this
    omega
  have wy : rowL (fun k => m1 126 (40 * (130 + ((slt t s p : Nat) : Int)) + 6 + (k : Int)).toNat) (m1 126 (40 * (130 + ((slt t s p : Nat) : Int)) + 4).toNat).toNat = wOf r := by rw [rr.2]
  refine X12_isIn_s (by omega) fun z2 hz2 rz2 => ⟨fun c3 => ?_, fun c3 => ?_⟩
  rotate_left 1
  · have hin : d ∈ wOf r := by rw [← wy]; exact hz2.mp (by omega)
    have cn : cdAt E S d p t s = none := by
      unfold cdAt
      rw [if_neg (by rw [eu']; exact c), er]
      show (if d ∈ wOf r then none else _) = none
      rw [if_pos hin]
    exact k _ m1 g1 fr1 (by rw [r1, cn]; rfl) ⟨fun e => absurd e (by decide), fun e => by rcases e with e | e; exact absurd (eu'.symm.trans e) c; rw [er] at e; cases e⟩ ⟨fun e => absurd e (by decide), fun e => absurd cn e⟩ (fun _ => ⟨r, er, hin⟩) (Or.inr (Or.inr (Or.inl rfl)))
  have hnin : ¬ d ∈ wOf r := fun g => by
    have := hz2.mpr (by rw [wy]; exact g)
    omega
  refine X12_copy_s (by omega) (by omega) (by omega) (T1.rb hw (by omega)).1.2 (T1.rb hw (by omega)).2.2 fun m2 r2 _ f2 T2 F2 x2 _ pl epl hpl po epo hpo => ?_
  have fr2 : frT μ m2 (4 + (t : Int)) := fr1.on f2
  have g2 : G m2 := gG m1 m2 g1 fun b i h1 h2 h3 => f2 b i (by omega)
  have e110 : ∀ i, m2 110 i = μ 110 i := fun i => fr2 110 i (by omega) (by omega) (by omega) (by omega) (by omega)
  have plE : pl = ePl E (4 * t + 2 * s) := by
    rw [← epl, fr2 115 _ (by omega) (by omega) (by omega) (by omega) (by omega), ← a6 (2 * s) (by omega)]
    congr 1
  refine X12_partnerOf_pt_s ?_
  rw [ptR.of ((e110 _).trans a1) ((e110 _).trans a2) hne hs hd, hd]
  intro _
  refine h6.2 m2 pl (4 + (t : Int)) t s r _ T2 ?_ g2 ht hs (by rw [plE]; exact h6.1 _ _ ht (by omega)) (by omega) (by omega) (r2.trans (rh.trans er)) rg.2.1 px fun z3 m3 hz3 r3 g3 f3 T3 F3 rz3 x3 _ => ?_
  · exact (mF.refl.call F1 rfl).call F2 rfl
  have fr3 : frT μ m3 (4 + (t : Int)) := fr2.trans fun b i q1 q2 q3 q4 q5 => f3 b i q1 q2 q3 q4 q5
  rw [plE, ← hd] at hz3 r3
  refine ⟨fun c4 => ?_, fun c4 => ?_⟩
  · refine X12_nothing_s (by omega) fun m4 r4 f4 _ _ x4 _ => ?_
    have cn : cdAt E S d p t s = none := by
      unfold cdAt
      rw [if_neg (by rw [eu']; exact c), er]
      show (if d ∈ wOf r then none else if (eTh E (ePl E (4 * t + 2 * s)) d (eN E t (1 - s)) r).1 = true then _ else none) = none
      rw [if_neg hnin, if_neg (fun g => by have := hz3.mpr g; omega)]
    exact k _ m4 (gG m3 m4 g3 fun b i h1 h2 h3 => f4 b i (by omega)) (fr3.no f4) (by rw [r4, cn]; rfl) ⟨fun e => absurd e (by decide), fun e => by rcases e with e | e; exact absurd (eu'.symm.trans e) c; rw [er] at e; cases e⟩ ⟨fun e => absurd e (by decide), fun e => absurd cn e⟩ (fun e => absurd e (by decide)) (Or.inr (Or.inr (Or.inr ⟨rfl, fun r' e' => by rw [er] at e'; cases e'; exact hnin⟩)))
  · have cs : cdAt E S d p t s = some ((t : Int), eN E t (1 - s), sHw S (slt t s p), (eTh E (ePl E (4 * t + 2 * s)) d (eN E t (1 - s)) r).2) := by
      unfold cdAt
      rw [if_neg (by rw [eu']; exact c), er]
      show (if d ∈ wOf r then none else if (eTh E (ePl E (4 * t + 2 * s)) d (eN E t (1 - s)) r).1 = true then _ else none) = _
      rw [if_neg hnin, if_pos (hz3.mp (by omega))]
    exact k _ m3 g3 fr3 (by rw [r3, cs]; rfl) ⟨fun e => absurd e (by decide), fun e => by rcases e with e | e; exact absurd (eu'.symm.trans e) c; rw [er] at e; cases e⟩ ⟨fun _ e => (by rw [cs] at e; cases e), fun _ => rfl⟩ (fun e => absurd e (by decide)) (Or.inr (Or.inl rfl))
theorem cdX.eqG {m : mM} {r0 : Int} {x : Cd} (ev : envR w m E G) (st : snR m E S) (ti : tiG E) (hp : p < 10) (ht : t < eT E) (h : rtR m r0 = some x.2.2.2) (hx : cdE E S d p t = some x) : cdX m d (p : Int) r0 (t : Int) = x := by
  obtain ⟨a1, a2, a3, a4, a5, a6⟩ := ev.2.2.2.1 t ht
  have hne := (ti.1 t ht).1
  have nn : ¬ sdE E d t < 0 := fun c => by
    unfold cdE at hx
    rw [if_pos c] at hx; cases hx
  obtain ⟨s, hs, hs2, hd⟩ := sdE.side nn
  rw [cdE.at hs] at hx
  obtain ⟨_, r, e1, _, _, e4⟩ := cdAt.some' hx
  have sb : slt t s p < 20 * eT E := by unfold slt; omega
  have rv : rvR m r0 = x.2.2.2 := (rtR.get h).2.symm
  unfold cdX
  rw [rv, ptR.of a1 a2 hne hs2 hd, slR.of a1 hne hs2 hd, Int.toNat_natCast, (st.1 _ (Or.inl sb)).2.1 (by rw [e1]; exact fun q => by cases q), e4]
end CandC
section WhyR
variable {w : mW} {μ m : mM} {y : S2} {d p : Nat}
theorem whyRA {t s : Nat} {v : Int} {L : List Nat} (hw : mWF w) (hT : mT w μ) (h : K2R μ y) (k : K2X y) (u : upI (xE (yX y)) (xS (yX y))) (ht : t < eT (xE (yX y))) (hs : s < 2) (hp : p < eP (xE (yX y))) (hd : (d : Int) = eN (xE (yX y)) t s)
    (ez : (sPk (xS (yX y)) (10 * d + p)).1 = v) (nt : ¬ v = (t : Int)) (n4 : ¬ v = -4) (nn : ¬ sHd (xS (yX y)) (slt t s p) = none) :
    WP_X12_candidate_W w μ (d : Int) (t : Int) (p : Int) (fun z77 m => mT w m → mF L w μ m → ((-99999999) ≤ z77 ∧ z77 ≤ 10) → ((z77 = 0) → ((0 : Int) ≤ v) ∧ ∀ _ : True, WP_X12_unlike_W w m (d : Int) (4 + (t : Int)) (t : Int) (30 + ((10 * (d : Int)) + (p : Int))) v (p : Int) (fun z86 _ => ((-9) ≤ z86 ∧ z86 ≤ 9) → ((¬ z86 = 0) → ((0 ≤ z86) → z86 = whyB (xE (yX y)) (xS (yX y)) t s p d ∧ K2R m y) ∧ ((z86 < 0) → 0 - z86 = whyB (xE (yX y)) (xS (yX y)) t s p d ∧ K2R m y)) ∧ ((z86 = 0) → 7 = whyB (xE (yX y)) (xS (yX y)) t s p d ∧ K2R m y))) ∧ ((¬ z77 = 0) → z77 = whyB (xE (yX y)) (xS (yX y)) t s p d ∧ K2R m y)) := by
  have ev := h.1.env (w := w) hw k.1
  have sn := k.1.1
  have ti := k.1.2.1.1
  have st := h.1.2.2.2.2.1
  have p10 := ti.2.2.2.2
  have t20 := ti.2.2.1
  obtain ⟨d', ed, hd'⟩ := eN.nat ti (s := s) ht
  have dd : d < eD (xE (yX y)) := by omega
  have pc := pk_case u dd hp
  rw [ez] at pc
  have sd : sdE (xE (yX y)) (d : Int) t = (s : Int) := by
    rw [hd]
    exact sdE_ofN ti ht hs
  have eAt : cdE (xE (yX y)) (xS (yX y)) (d : Int) p t = cdAt (xE (yX y)) (xS (yX y)) (d : Int) p t s := cdE.at sd
  have o : ¬ 0 ≤ eOw (xE (yX y)) (10 * d + p) := fun q => by
    rcases pc with ⟨q1, _⟩ | ⟨q1, _⟩
    · exact n4 q1
    · exact q1 q
  refine X12_candidate_c hw hT ev h.1.2.2.2.2.2.2.1 gJ.st st sn ti ht hs hd (by omega) fun z m g f r3 zN z0 z9 zc T F rz7 => ?_
  have fr : frR μ m := f.fr (by omega)
  have K : K2R m y := h.frR hw hT fr g
  refine ⟨fun c0 => ?_, fun c0 => ⟨?_, K⟩⟩
  rotate_left 1
  · rcases zc with q | q | q | ⟨q, qn⟩
    · exfalso
      rcases zN.mp q with e | e
      · exact nn (u.2 t s p ht e hs (by omega))
      · exact nn e
    · exact absurd q c0
    · rw [whyB.nine nn o (z9 q), q]
    · have cn : cdAt (xE (yX y)) (xS (yX y)) (d : Int) p t s = none := Classical.byContradiction fun e => c0 (z0.mpr e)
      rw [whyB.rest nn o fun ⟨r, e1, e2⟩ => qn r e1 e2, eAt, cn, q]
      rfl
  obtain ⟨c, ec⟩ : ∃ c, cdAt (xE (yX y)) (xS (yX y)) (d : Int) p t s = some c := by
    cases e : cdAt (xE (yX y)) (xS (yX y)) (d : Int) p t s with
    | none => exact absurd e (z0.mp c0)
    | some c => exact ⟨c, rfl⟩
  have ecE : cdE (xE (yX y)) (xS (yX y)) (d : Int) p t = some c := eAt.trans ec
  obtain ⟨x0, ex0⟩ := pickE.there (g := eGr (xE (yX y)) d) (l := eSt (xE (yX y)) d) (cds_in ht ecE)
  rcases pc with ⟨q1, _⟩ | ⟨_, ⟨_, q⟩ | ⟨x, tx, ex, ezx, htx, exc, x1, x2⟩⟩
  · exact absurd q1 n4
  · rw [ex0] at q
    cases q
  subst ezx
  have nq : ¬ ∃ r, sHd (xS (yX y)) (slt t s p) = some r ∧ (d : Int) ∈ wOf r := fun ⟨r, e1, e2⟩ => by
    obtain ⟨_, r', e3, e4, _⟩ := cdAt.some' ec
    rw [e1] at e3
    cases e3
    exact e4 e2
  have eW : whyB (xE (yX y)) (xS (yX y)) t s p d = whyF (eSt (xE (yX y)) d) (t : Int) c (some x) := by
    rw [whyB.rest nn o nq, ecE, ex]
    rfl
  have evm := K.1.env (w := w) hw k.1
  have stm := K.1.2.2.2.2.1
  have r3' : rtR m (4 + (t : Int)) = some c.2.2.2 := by
    rw [r3, ec]
    rfl
  have rx : rgV (rvR m (4 + (t : Int))) := by
    have rv : rvR m (4 + (t : Int)) = c.2.2.2 := (rtR.get r3').2.symm
    rw [rv]
    exact ((cdE.good sn k.1.2.1.2.1 (by omega) ecE) c.2.2.2 rfl).2.2.2.2
  have e30 : (30 : Int) + (10 * (d : Int) + (p : Int)) = 30 + ((10 * d + p : Nat) : Int) := by omega
  have g2 : rtR m (30 + (10 * (d : Int) + (p : Int))) = some x.2.2.2 := by
    rw [e30, (stm.2.1 (10 * d + p) (Or.inl (by omega))).2]
    exact x2
  have ry : rgV (rvR m (30 + (10 * (d : Int) + (p : Int)))) := by
    have rv : rvR m (30 + (10 * (d : Int) + (p : Int))) = x.2.2.2 := (rtR.get g2).2.symm
    rw [rv]
    exact ((cdE.good sn k.1.2.1.2.1 (by omega) exc) x.2.2.2 rfl).2.2.2.2
  obtain ⟨n, en⟩ := stepR evm dd
  refine ⟨by omega, fun _ => X12_unlike_s (by omega) rx ry ?_⟩
  rw [en, unl.zeros, cdX.eqG evm stm ti (by omega) ht r3' ecE, cdX.eqG evm stm ti (by omega) htx g2 exc]
  have nt' : ¬ x.1 = (t : Int) := fun e => nt (x1.symm.trans e)
  have eV : whyF (eSt (xE (yX y)) d) (t : Int) c (some x) = if unl (eSt (xE (yX y)) d) c x = 0 then 7 else if unl (eSt (xE (yX y)) d) c x < 0 then 0 - unl (eSt (xE (yX y)) d) c x else unl (eSt (xE (yX y)) d) c x := if_neg nt'
  rw [eW, eV]
  generalize unl (eSt (xE (yX y)) d) c x = uu
  intro ru
  refine ⟨fun n0 => ⟨fun c1 => ⟨?_, K⟩, fun c1 => ⟨?_, K⟩⟩, fun c1 => ⟨?_, K⟩⟩
  · rw [if_neg n0, if_neg (by omega)]
  · rw [if_neg n0, if_pos c1]
  · rw [if_pos c1]
theorem R_whyA {t0 s0 p0 : Int} (hw : mWF w) (hT : mT w μ) (h : K2R μ y) (k : K2X y) (u : upI (xE (yX y)) (xS (yX y))) : WP_X12_why_Wx w μ t0 s0 p0 (fun z m => z = whyA (xE (yX y)) (xS (yX y)) t0 s0 p0 ∧ K2R m y) := by
  have ev := h.1.env (w := w) hw k.1
  intro z1 e1 r1
  refine X12_isTie_s ev fun z hz rz => ⟨fun q => ⟨(whyA.no fun g => ?_).symm, h⟩, fun q => ?_⟩
  · have := hz.mpr g.1
    omega
  refine X12_in_s fun z2 hz2 rz2 => ⟨fun q2 => ⟨(whyA.no fun g => ?_).symm, h⟩, fun q2 z3 e3 r3 => ?_⟩
  · have := hz2.mpr g.2.1
    omega
  refine X12_isPrefix_s ev fun z4 hz4 rz4 => ⟨fun q4 => ?_, fun q4 => ⟨(whyA.no fun g => ?_).symm, h⟩⟩
  rotate_left 1
  · have := hz4.mpr g.2.2
    omega
  have ht := hz.mp (by omega)
  have hs := hz2.mp (by omega)
  have hp := hz4.mp (by omega)
  have ti := k.1.2.1.1
  have st := h.1.2.2.2.2.1
  have p10 := ti.2.2.2.2
  have t20 := ti.2.2.1
  obtain ⟨t, rfl⟩ : ∃ n : Nat, t0 = (n : Int) := ⟨t0.toNat, by omega⟩
  obtain ⟨s, rfl⟩ : ∃ n : Nat, s0 = (n : Int) := ⟨s0.toNat, by omega⟩
  obtain ⟨p, rfl⟩ : ∃ n : Nat, p0 = (n : Int) := ⟨p0.toNat, by omega⟩
  have ht' : t < eT (xE (yX y)) := by omega
  obtain ⟨a1, a2, _⟩ := ev.2.2.2.1 t ht'
  obtain ⟨d, ed, hd⟩ := eN.nat ti (s := s) ht'
  rw [whyA.eq (S := xS (yX y)) ⟨ht, hs, hp⟩ ed]
  have rh : rtR μ (130 + ((slt t s p : Nat) : Int)) = sHd (xS (yX y)) (slt t s p) := (st.1 (slt t s p) (Or.inl (by
    unfold slt
    omega))).1
  have key : ∀ (v : Int) (L : List Nat) (sl : Int), sl = ((slt t s p : Nat) : Int) → μ 161 (10 * (d : Int) + (p : Int)).toNat = v → ¬ rtR μ (130 + sl) = none → ((v = (t : Int)) → 0 = whyB (xE (yX y)) (xS (yX y)) t s p d) ∧ ((v = -4) → 8 = whyB (xE (yX y)) (xS (yX y)) t s p d) ∧ ((sPk (xS (yX y)) (10 * d + p)).1 = v) ∧ ¬ sHd (xS (yX y)) (slt t s p) = none := by
    intro v L sl esl ev1 nr
    rw [esl, rh] at nr
    rw [show (10 * (d : Int) + (p : Int)).toNat = 10 * d + p by omega, (st.2.1 (10 * d + p) (Or.inl (by omega))).1] at ev1
    have pc := pk_case u hd (show p < eP (xE (yX y)) by omega)
    rw [ev1] at pc
    refine ⟨fun e => ?_, fun e => ?_, ev1, nr⟩
    · rcases pc with ⟨q1, _⟩ | ⟨o, ⟨q, _⟩ | ⟨x, tx, ex, ezx, htx, exc, x1, x2⟩⟩
      · omega
      · omega
      · have et : tx = t := by omega
        subst et
        have sd : sdE (xE (yX y)) (d : Int) tx = (s : Int) := by
          rw [← ed]
          exact sdE_ofN ti ht' (by omega)
        have ec := (cdE.at (p := p) (S := xS (yX y)) sd).symm.trans exc
        have nq : ¬ ∃ r, sHd (xS (yX y)) (slt tx s p) = some r ∧ (d : Int) ∈ wOf r := fun ⟨r, e1, e2⟩ => by
          obtain ⟨_, r', e3, e4, _⟩ := cdAt.some' ec
          rw [e1] at e3
          cases e3
          exact e4 e2
        rw [whyB.rest nr o nq, exc, ex]
        exact (if_pos x1).symm
    · rcases pc with ⟨_, q1⟩ | ⟨o, ⟨q, _⟩ | ⟨x, tx, ex, ezx, _⟩⟩
      · exact (whyB.own nr q1).symm
      · omega
      · omega
  have fin0 : ∀ sl : Int, sl = ((slt t s p : Nat) : Int) → rtR μ (130 + sl) = none → -99999999 = whyB (xE (yX y)) (xS (yX y)) t s p d := fun sl esl e => by
    rw [esl, rh] at e
    exact (whyB.nix e).symm
  intro z40 e40 r40 z43 e43 r43
  rw [show (2 * (t : Int)).toNat = 2 * t by omega, a1] at e40
  rw [show (2 * (t : Int) + 1).toNat = 2 * t + 1 by omega, a2] at e43
  refine ⟨fun c => ?_, fun c => ?_⟩
  · have s0 : s = 0 := by omega
    have ed0 : eA (xE (yX y)) t = (d : Int) := by
      rw [← ed, s0]
      exact (if_pos rfl).symm
    obtain rfl : z40 = (d : Int) := e40.symm.trans ed0
    intro _ z54 _ _
    refine X12_isThere_s fun z62 hz62 rz62 => ⟨fun n62 z67 e67 rz67 => ?_, fun e62 => ⟨fin0 ((2 * (t : Int) + (s : Int)) * 10 + (p : Int)) (by
      unfold slt
      omega) (Classical.byContradiction fun g => by
        have := hz62.mpr g
        omega), h⟩⟩
    obtain ⟨k1, k2, k3, k4⟩ := key z67 [] ((2 * (t : Int) + (s : Int)) * 10 + (p : Int)) (by
      unfold slt
      omega) e67 (hz62.mp (by omega))
    exact ⟨fun nt => ⟨fun n4 => whyRA hw hT h k u ht' (by omega) (by omega) ed.symm k3 nt n4 k4, fun e => ⟨k2 e, h⟩⟩, fun e => ⟨k1 e, h⟩⟩
  · have s1 : s = 1 := by omega
    have ed1 : eB (xE (yX y)) t = (d : Int) := by
      rw [← ed, s1]
      exact (if_neg (by decide)).symm
    obtain rfl : z43 = (d : Int) := e43.symm.trans ed1
    intro _ z54 _ _
    refine X12_isThere_s fun z62 hz62 rz62 => ⟨fun n62 z67 e67 rz67 => ?_, fun e62 => ⟨fin0 ((2 * (t : Int) + (s : Int)) * 10 + (p : Int)) (by
      unfold slt
      omega) (Classical.byContradiction fun g => by
        have := hz62.mpr g
        omega), h⟩⟩
    obtain ⟨k1, k2, k3, k4⟩ := key z67 [] ((2 * (t : Int) + (s : Int)) * 10 + (p : Int)) (by
      unfold slt
      omega) e67 (hz62.mp (by omega))
    exact ⟨fun nt => ⟨fun n4 => whyRA hw hT h k u ht' (by omega) (by omega) ed.symm k3 nt n4 k4, fun e => ⟨k2 e, h⟩⟩, fun e => ⟨k1 e, h⟩⟩
end WhyR
