section
/-! Every step leaves all picks up to date. -/
/-- picks are up to date; a tie that is down has heard nothing -/
def upI (E : En) (S : Sn) : Prop := upS E S ∧ ∀ t s p, t < eT E → eU E t = 0 → s < 2 → p < 10 → sHd S (slt t s p) = none
theorem lookA.h {E : En} {S : Sn} {d : Int} : sHd (lookA E S d) = sHd S := forN.inv (fun _ x => sHd x = sHd S) rfl (fun i x _ h => lookE.pk.2.2.1.trans h) (eP E) (Nat.le_refl _)
theorem anew.h {E : En} {S : Sn} : sHd (anew E S) = sHd S := by
  have g : sHd (forN (fun d S => lookA E S ((d : Nat) : Int)) (eD E) S) = sHd S := forN.inv (fun _ x => sHd x = sHd S) rfl (fun i x _ h => lookA.h.trans h) (eD E) (Nat.le_refl _)
  unfold anew
  refine forN.inv (fun _ x => sHd x = sHd S) g (fun i x _ h => ?_) (eD E) (Nat.le_refl _)
  refine Eq.trans ?_ h
  refine forN.inv (fun _ y => sHd y = sHd x) rfl (fun j y _ h => Eq.trans ?_ h) (eT E) (Nat.le_refl _)
  split
  · rfl
  · exact sayA.q.2.1
section UpI
variable {E : En} {S : Sn}
theorem upI.own {d p : Nat} {v : Int} (h : upI E S) (h10 : eP E ≤ 10) (hp : p < eP E) : upI (ow! E (10 * d + p) v) (lookE (ow! E (10 * d + p) v) S (d : Int) p) := by
  have g : upB (ow! E (10 * d + p) v) S (fun a b => 10 * a + b = 10 * d + p) := fun a b ha hb n => (h.1 a b ha hb (fun q => q)).trans (newP.ofE (E := E) (E' := ow! E (10 * d + p) v) (if_neg n) rfl rfl (cdsN.of _ fun t _ => rfl)).symm
  refine ⟨(g.look (d := d) (p := p) h10 (by omega)).mono fun a b ha hb z => ?_, fun t s q ht hu hs hq => ?_⟩
  · have hb : b < eP E := hb
    exact z.2 (by have := z.1; omega)
  · rw [lookE.pk.2.2.1]
    exact h.2 t s q ht hu hs hq
theorem upI.st {d : Nat} {l : List Int} {g : Int} (h : upI E S) (h10 : eP E ≤ 10) : upI (st! E d l g) (lookA (st! E d l g) S (d : Int)) := by
  have u : upB (st! E d l g) S (fun a _ => a = d) := fun a b ha hb n => (h.1 a b ha hb (fun q => q)).trans (newP.ofE (E := E) (E' := st! E d l g) rfl (if_neg n) (if_neg n) (cdsN.of _ fun t _ => rfl)).symm
  refine ⟨(u.lookA (d := d) h10).mono fun a b _ _ z => z.2 z.1, fun t s q ht hu hs hq => ?_⟩
  rw [lookA.h]
  exact h.2 t s q ht hu hs hq
theorem cdAt.pl {E E' : En} {S : Sn} {d : Int} {p t s : Nat} (hU : eU E' t = eU E t) (hN : eN E' t (1 - s) = eN E t (1 - s)) (hT : ∀ r, sHd S (slt t s p) = some r → eTh E' (ePl E' (4 * t + 2 * s)) d (eN E t (1 - s)) r = eTh E (ePl E (4 * t + 2 * s)) d (eN E t (1 - s)) r) : cdAt E' S d p t s = cdAt E S d p t s := by
  unfold cdAt
  rw [hU, hN]
  cases hr : sHd S (slt t s p) with
  | none => rfl
  | some r =>
    show (if eU E t = 0 then none else if d ∈ wOf r then none else if (eTh E' (ePl E' (4 * t + 2 * s)) d (eN E t (1 - s)) r).1 = true then some ((t : Int), eN E t (1 - s), sHw S (slt t s p), (eTh E' (ePl E' (4 * t + 2 * s)) d (eN E t (1 - s)) r).2) else none) = (if eU E t = 0 then none else if d ∈ wOf r then none else if (eTh E (ePl E (4 * t + 2 * s)) d (eN E t (1 - s)) r).1 = true then some ((t : Int), eN E t (1 - s), sHw S (slt t s p), (eTh E (ePl E (4 * t + 2 * s)) d (eN E t (1 - s)) r).2) else none)
    rw [hT r hr]
theorem upI.use {t s o : Nat} {v : Int} (h : upI E S) (ti : tiG E) (ht : t < eT E) (hs : s < 2) (ho : o < 2) : upI (useE E t s o v) (useS (useE E t s o v) S t s o) := by
  have h10 := ti.2.2.2.2
  have hN : ∀ j k, eN (useE E t s o v) j k = eN E j k := fun _ _ => rfl
  unfold useS
  by_cases c : o = 0
  · rw [if_pos c]
    obtain ⟨d, ed, _⟩ := eN.nat ti (t := t) (s := s) ht
    rw [hN, ed]
    have u : upB (useE E t s o v) S (fun a _ => a = d) := fun a b ha hb n => (h.1 a b ha hb (fun q => q)).trans (newP.ofE (E := E) (E' := useE E t s o v) rfl rfl rfl (cdsN.of _ fun j _ => cdE.of rfl rfl (by
      by_cases c1 : sdE E (a : Int) j < 0
      · exact Or.inl c1
      · refine Or.inr (cdAt.pl rfl rfl fun r _ => ?_)
        obtain ⟨g1, g2⟩ := sdE_eN c1
        have ne : ¬ 4 * j + 2 * (sdE E (a : Int) j).toNat = 4 * t + (2 * s + o) := fun q => by
          have q1 : j = t := by omega
          have q2 : (sdE E (a : Int) j).toNat = s := by omega
          rw [q2, q1, ed] at g2
          omega
        show eTh E (if 4 * j + 2 * (sdE E (a : Int) j).toNat = 4 * t + (2 * s + o) then v else ePl E (4 * j + 2 * (sdE E (a : Int) j).toNat)) _ _ r = _
        rw [if_neg ne]))).symm
    refine ⟨(u.lookA (d := d) h10).mono fun a b _ _ z => z.2 z.1, fun t s q ht hu hs hq => ?_⟩
    rw [lookA.h]
    exact h.2 t s q ht hu hs hq
  · rw [if_neg c]
    have u : upS (useE E t s o v) S := fun a b ha hb n => (h.1 a b ha hb n).trans (newP.ofE (E := E) (E' := useE E t s o v) rfl rfl rfl (cdsN.of _ fun j _ => cdE.of rfl rfl (by
      by_cases c1 : sdE E (a : Int) j < 0
      · exact Or.inl c1
      · refine Or.inr (cdAt.pl rfl rfl fun r _ => ?_)
        have ne : ¬ 4 * j + 2 * (sdE E (a : Int) j).toNat = 4 * t + (2 * s + o) := by omega
        show eTh E (if 4 * j + 2 * (sdE E (a : Int) j).toNat = 4 * t + (2 * s + o) then v else ePl E (4 * j + 2 * (sdE E (a : Int) j).toNat)) _ _ r = _
        rw [if_neg ne]))).symm
    exact ⟨upB.q u sayA.q, fun t s q ht hu hs hq => by rw [sayA.q.2.1]; exact h.2 t s q ht hu hs hq⟩
theorem upI.up {t : Nat} (h : upI E S) (ti : tiG E) (u01 : eU E t = 0 ∨ eU E t = 1) : upI (up! E t 1) (sayA (up! E t 1) (sayA (up! E t 1) S t 0) t 1) := by
  have h10 := ti.2.2.2.2
  have u : upS (up! E t 1) S := fun a b ha hb n => (h.1 a b ha hb n).trans (newP.ofE (E := E) (E' := up! E t 1) rfl rfl rfl (cdsN.of _ fun j hj => cdE.of rfl rfl (by
    by_cases c1 : sdE E (a : Int) j < 0
    · exact Or.inl c1
    · refine Or.inr ?_
      obtain ⟨g1, g2⟩ := sdE_eN c1
      have hb : b < eP E := hb
      have hj : j < eT E := hj
      by_cases c2 : j = t ∧ eU E t = 0
      · obtain ⟨e, c3⟩ := c2
        subst e
        unfold cdAt
        rw [h.2 j _ b hj c3 g1 (by omega), if_pos c3]
        split <;> rfl
      · refine cdAt.pl ?_ rfl fun r _ => rfl
        show (if j = t then (1 : Int) else eU E j) = eU E j
        by_cases e : j = t
        · subst e
          rw [if_pos rfl]
          rcases u01 with q | q
          · exact absurd ⟨rfl, q⟩ c2
          · exact q.symm
        · rw [if_neg e]))).symm
  refine ⟨upB.q (upB.q u sayA.q) sayA.q, fun j s q hj hu hs hq => ?_⟩
  rw [sayA.q.2.1, sayA.q.2.1]
  have hu : (if j = t then (1 : Int) else eU E j) = 0 := hu
  by_cases e : j = t
  · rw [if_pos e] at hu
    exact absurd hu (by decide)
  · rw [if_neg e] at hu
    exact h.2 j s q hj hu hs hq
theorem upI.down {t : Nat} (h : upI E S) (ti : tiG E) (ht : t < eT E) : upI (up! E t 0) (lookA (up! E t 0) (lookA (up! E t 0) (silE S t) (eA E t)) (eB E t)) := by
  have h10 := ti.2.2.2.2
  obtain ⟨_, ra, rb⟩ := ti.1 t ht
  obtain ⟨da, ea⟩ : ∃ n : Nat, eA E t = (n : Int) := ⟨(eA E t).toNat, by omega⟩
  obtain ⟨db, eb⟩ : ∃ n : Nat, eB E t = (n : Int) := ⟨(eB E t).toNat, by omega⟩
  have sl : ∀ j s q, s < 2 → q < 10 → slt j s q / 20 = j := fun j s q h1 h2 => by
    unfold slt
    omega
  have sh : ∀ j s q, s < 2 → q < 10 → ¬ j = t → sHd (silE S t) (slt j s q) = sHd S (slt j s q) := fun j s q h1 h2 h3 => if_neg (by rw [sl j s q h1 h2]; exact h3)
  have u : upB (up! E t 0) (silE S t) (fun a _ => a = da ∨ a = db) := fun a b ha hb n => (h.1 a b ha hb (fun q => q)).trans (newP.ofE (E := E) (E' := up! E t 0) (S := S) (S' := silE S t) rfl rfl rfl (cdsN.of _ fun j _ => cdE.of rfl rfl (by
    by_cases c1 : sdE E (a : Int) j < 0
    · exact Or.inl c1
    · refine Or.inr ?_
      obtain ⟨g1, g2⟩ := sdE_eN c1
      have hb : b < eP E := hb
      have ne : ¬ j = t := fun e => by
        subst e
        unfold eN at g2
        by_cases c2 : (sdE E (a : Int) j).toNat = 0
        · rw [if_pos c2] at g2
          exact n (Or.inl (by omega))
        · rw [if_neg c2] at g2
          exact n (Or.inr (by omega))
      have e1 : eU (up! E t 0) j = eU E j := if_neg ne
      unfold cdAt
      rw [e1, sh j _ b g1 (by omega) ne]
      rfl))).symm
  rw [ea, eb]
  refine ⟨((u.lookA (d := da) h10).lookA (d := db) h10).mono fun a b _ _ z => ?_, fun j s q hj hu hs hq => ?_⟩
  · rcases z.1.1 with e | e
    · exact z.1.2 e
    · exact z.2 e
  · rw [lookA.h, lookA.h]
    by_cases e : j = t
    · subst e
      exact if_pos (sl j s q hs hq)
    · rw [sh j s q hs hq e]
      have hu : (if j = t then (0 : Int) else eU E j) = 0 := hu
      rw [if_neg e] at hu
      exact h.2 j s q hj hu hs hq
theorem upI.ev {e : Ev} (h : upI E S) (ti : tiG E) (he : e.2 < 40 * eT E) (hu : ¬ eU E (e.2 / 40) = 0) : upI E (doEv E S e) := by
  refine ⟨upS.ev h.1 ti he, fun t s p ht h0 hs hp => ?_⟩
  by_cases c : e.2 % 2 = 1
  · rw [doEv.say c, sayE.q.2.1]
    exact h.2 t s p ht h0 hs hp
  · rw [doEv.hear c, lookE.pk.2.2.1]
    have ne : ¬ slt t s p = slt (e.2 / 40) (1 - e.2 / 20 % 2) (e.2 / 2 % 10) := fun q => by
      unfold slt at q
      have q1 : t = e.2 / 40 := by omega
      rw [q1] at h0
      exact hu h0
    show (if slt t s p = slt (e.2 / 40) (1 - e.2 / 20 % 2) (e.2 / 2 % 10) then (sSd S (e.2 / 2)).1 else sHd S (slt t s p)) = none
    rw [if_neg ne]
    exact h.2 t s p ht h0 hs hp
theorem upI.go {m : Int} (en : enG E) : ∀ (n : Nat) {S : Sn}, snG E S → upI E S → upI E (goE E m n S).2
  | 0, _, _, h => h
  | n + 1, S, sn, h => by
    cases hn : nextE E m S with
    | none =>
      rw [goE.stop hn]
      exact h
    | some S1 =>
      rw [goE.more hn]
      obtain ⟨e, q, hq, _, e1⟩ := nextE.of hn
      subst e1
      have me : e ∈ sQu S := by
        rw [hq]
        exact List.mem_cons_self
      obtain ⟨a1, a2, a3⟩ := sn.2.2.2.2.2.1 e me
      exact upI.go en n (doEv.cn sn en ⟨a2, a1⟩).1 (h.ev en.1 a1 a3)
theorem upI.pass {v : Int} (h : upI E S) : upI E (passE E v S) := by
  unfold passE
  by_cases c : nextE E v S = none
  · rw [cIf.pos c]
    exact ⟨upB.q h.1 ⟨rfl, rfl, rfl⟩, h.2⟩
  · rw [cIf.neg c]; exact h
theorem upI.tk {A L : Nat → Int} {t s : Nat} {M : Ms} (ti : tiG E) (ht : t < eT E) (hs : s < 2) (hu : ¬ eU E t = 0) (n : Nat) (h : upI E S) : upI E (tkN E A L t s M n S) := by
  have h10 := ti.2.2.2.2
  refine forN.inv (fun _ x => upI E x) h (fun i x _ g => ?_) n (Nat.le_refl _)
  cases hf : fndF A L (uX M i) (uL M i) (eP E) with
  | none =>
    rw [tkOne.no hf]
    exact g
  | some p =>
    have hp := fndF.lt hf
    rw [tkOne.is hf]
    obtain ⟨d, ed, _⟩ := eN.nat ti (t := t) (s := s) ht
    have g2 := upB.hd (t := t) (s := s) (p := p) (v := (srcM M i).map fun r => rtPx r (p : Int)) (m := sCk x) g.1 hs (by omega) h10
    rw [ed] at g2 ⊢
    refine ⟨(g2.look (d := d) (p := p) h10 (by omega)).mono fun a b _ _ z => ?_, fun j σ q hj h0 hσ hq => ?_⟩
    · rcases z with ⟨z1, z2⟩
      rcases z1 with z1 | z1
      · exact z1
      · exact z2 ⟨by omega, z1.2⟩
    · rw [lookE.pk.2.2.1]
      have ne : ¬ slt j σ q = slt t s p := fun e => by
        unfold slt at e
        have q1 : j = t := by omega
        rw [q1] at h0
        exact hu h0
      show (if slt j σ q = slt t s p then _ else sHd x (slt j σ q)) = none
      rw [if_neg ne]
      exact g.2 j σ q hj h0 hσ hq
theorem upI.anw (h10 : eP E ≤ 10) (h : ∀ t s p, t < eT E → eU E t = 0 → s < 2 → p < 10 → sHd S (slt t s p) = none) : upI E (anew E S) := ⟨upS.anw h10, fun t s p ht hu hs hp => by rw [anew.h]; exact h t s p ht hu hs hp⟩
end UpI
end
section
/-! Picks stay up to date where prefixes, domains, ties, policies come; then all steps. -/
theorem pickE.nil {g : Int} {l : List Int} : pickE g l [] = none := by
  unfold pickE
  split <;> rfl
theorem newP.zip {E : En} {S : Sn} {d p : Nat} (ho : eOw E (10 * d + p) < 0) (hc : cdsN E S (d : Int) p (eT E) = []) : newP E S (d : Int) p = (-99999999, none) := by
  unfold newP
  rw [Int.toNat_natCast, if_neg (by omega), hc, pickE.nil]
theorem fm_nil {α β : Type} {f : α → Option β} : ∀ l : List α, (∀ x ∈ l, f x = none) → l.filterMap f = []
  | [], _ => rfl
  | a :: l, h => by
    rw [List.filterMap_cons, h a List.mem_cons_self]
    exact fm_nil l fun x hx => h x (List.mem_cons_of_mem _ hx)
theorem cdsN.nix {E : En} {S : Sn} {d : Int} {p : Nat} (n : Nat) (h : ∀ t, t < n → cdE E S d p t = none) : cdsN E S d p n = [] := fm_nil _ fun t ht => h t (List.mem_range.mp ht)
theorem cdAt.deaf {E : En} {S : Sn} {d : Int} {p t s : Nat} (h : sHd S (slt t s p) = none) : cdAt E S d p t s = none := by
  unfold cdAt
  rw [h]
  split <;> rfl
theorem cdE.deaf {E : En} {S : Sn} {d : Int} {p t : Nat} (h : ∀ s, s < 2 → sHd S (slt t s p) = none) : cdE E S d p t = none := by
  unfold cdE
  by_cases c : sdE E d t < 0
  · rw [if_pos c]
  · rw [if_neg c]
    exact cdAt.deaf (h _ (sdE_eN c).1)
section UpW
variable {y : S2}
theorem snG.slot {E : En} {S : Sn} {t s p : Nat} {r : Rt} (sn : snG E S) (hp : p < 10) (h : sHd S (slt t s p) = some r) : r.1 = (p : Int) := by
  have g := sn.2.2.1 (slt t s p) r h
  have e : slt t s p % 10 = p := by
    unfold slt
    omega
  rw [e] at g
  exact g.1
theorem upI.px {a l c : Int} (k : K2X y) (h : upI (xE (yX y)) (xS (yX y))) (hpl : ∀ t i, t < eT (xE (yX y)) → i < 4 → plO c (ePl (xE (yX y)) (4 * t + i))) (h9 : ¬ eP (xE (yX y)) = 10) : upI (xE (yX (pxY y a l))) (xS (yX (pxY y a l))) := by
  obtain ⟨⟨sn, ⟨⟨t1, t2, t3, t4, t5⟩, ⟨h1, h2⟩, pa, ow, ub⟩, ok, ng, hE, ⟨ho, hm, hs, hp⟩, md, up⟩, ro, po, yd, jv⟩ := k
  refine ⟨fun d p hd hp' n => ?_, h.2⟩
  have hd : d < eD (xE (yX y)) := hd
  have hp' : p < eP (xE (yX y)) + 1 := hp'
  show sPk (xS (yX y)) (10 * d + p) = newP (px! (xE (yX y)) (thJ (jx! (xJ (yX y)) (eP (xE (yX y))) a l (yR y) (yD y)))) (xS (yX y)) (d : Int) p
  by_cases c0 : p = eP (xE (yX y))
  · have nh : ∀ t s, s < 2 → sHd (xS (yX y)) (slt t s p) = none := fun t s _ => (sn.2.2.2.2.2.2.2.2.2 (slt t s p) (by
      unfold slt
      omega)).2.2
    rw [newP.zip (E := px! (xE (yX y)) (thJ (jx! (xJ (yX y)) (eP (xE (yX y))) a l (yR y) (yD y)))) (show eOw (xE (yX y)) (10 * d + p) < 0 from h2 d p hd (by omega) (by omega)) (cdsN.nix _ fun t _ => cdE.deaf (nh t))]
    have q := sn.2.2.2.2.2.2.2.2.2 (10 * d + p) (by omega)
    exact Prod.ext ((sn.2.2.2.2.2.2.1 (10 * d + p)).mpr q.1) q.1
  · refine (h.1 d p hd (by omega) (fun q => q)).trans (newP.ofE (E := xE (yX y)) (E' := px! (xE (yX y)) (thJ (jx! (xJ (yX y)) (eP (xE (yX y))) a l (yR y) (yD y)))) rfl rfl rfl (cdsN.of _ fun t ht => cdE.of rfl rfl ?_)).symm
    by_cases c1 : sdE (xE (yX y)) (d : Int) t < 0
    · exact Or.inl c1
    · refine Or.inr (cdAt.pl rfl rfl fun r hr => ?_)
      obtain ⟨g1, g2⟩ := sdE_eN c1
      have er := sn.slot (by omega) hr
      have en : r.1.toNat = p := by omega
      show thJ (jx! (xJ (yX y)) (eP (xE (yX y))) a l (yR y) (yD y)) (ePl (xE (yX y)) (4 * t + 2 * (sdE (xE (yX y)) (d : Int) t).toNat)) (d : Int) _ r = eTh (xE (yX y)) _ (d : Int) _ r
      rw [hE]
      refine thJ.cg (c := c) ok (fun _ _ _ => rfl) rfl (if_neg (by omega)) (if_neg (by omega)) (fun m => ?_) (hpl t _ ht (by omega))
      rw [jv]
      refine vdF.cg _ fun i hi => ?_
      have gi := (ro.2 i hi).1
      have e1 : up1 (jA (xJ (yX y))) (eP (xE (yX y))) a r.1.toNat = jA (xJ (yX y)) r.1.toNat := if_neg (by omega)
      have e2 : up1 (jL (xJ (yX y))) (eP (xE (yX y))) l r.1.toNat = jL (xJ (yX y)) r.1.toNat := if_neg (by omega)
      have e3 : up1 (jA (xJ (yX y))) (eP (xE (yX y))) a (gP (yR y) i).toNat = jA (xJ (yX y)) (gP (yR y) i).toNat := if_neg (by omega)
      have e4 : up1 (jL (xJ (yX y))) (eP (xE (yX y))) l (gP (yR y) i).toNat = jL (xJ (yX y)) (gP (yR y) i).toNat := if_neg (by omega)
      rw [e1, e2, e3, e4]
      exact ⟨Iff.rfl, Iff.rfl⟩
theorem upI.dm (k : K2X y) (h : upI (xE (yX y)) (xS (yX y))) : upI (xE (yX (dmY y))) (xS (yX (dmY y))) := by
  obtain ⟨⟨sn, ⟨⟨t1, t2, t3, t4, t5⟩, ⟨h1, h2⟩, pa, ow, ub⟩, ok, ng, hE, ⟨ho, hm, hs, hp⟩, md, up⟩, ro, po, yd, jv⟩ := k
  refine ⟨fun d p hd hp' n => ?_, h.2⟩
  have hd : d < eD (xE (yX y)) + 1 := hd
  have hp' : p < eP (xE (yX y)) := hp'
  show sPk (xS (yX y)) (10 * d + p) = newP (dm! (xE (yX y))) (xS (yX y)) (d : Int) p
  by_cases c0 : d = eD (xE (yX y))
  · have w := (ub d (by omega)).1 p (by omega)
    rw [newP.zip (E := dm! (xE (yX y))) (show eOw (xE (yX y)) (10 * d + p) < 0 by omega) (cdsN.nix _ fun t ht => ?_)]
    · exact hp _ (by omega)
    · have ht : t < eT (xE (yX y)) := ht
      obtain ⟨_, a1, a2⟩ := t1 t ht
      have e : sdE (dm! (xE (yX y))) (d : Int) t = -1 := by
        show (if eA (xE (yX y)) t = (d : Int) then (0 : Int) else if eB (xE (yX y)) t = (d : Int) then 1 else -1) = -1
        rw [if_neg (by omega), if_neg (by omega)]
      unfold cdE
      rw [e]
      rfl
  · exact (h.1 d p (by omega) hp' (fun q => q)).trans (newP.ofE (E := xE (yX y)) (E' := dm! (xE (yX y))) rfl rfl rfl (cdsN.of _ fun t _ => rfl)).symm
theorem upI.ti {a b k0 c : Int} (k : K2X y) (h : upI (xE (yX y)) (xS (yX y))) (hpl : ∀ t i, t < eT (xE (yX y)) → i < 4 → plO c (ePl (xE (yX y)) (4 * t + i))) (no : ∀ t, t < eT (xE (yX y)) → ¬ btw (xE (yX y)) a b t) : upI (xE (yX (tiY y a b k0))) (xS (yX (tiY y a b k0))) := by
  obtain ⟨⟨sn, ⟨⟨t1, t2, t3, t4, t5⟩, ⟨h1, h2⟩, pa, ow, ub⟩, ok, ng, hE, ⟨ho, hm, hs, hp⟩, md, up⟩, ro, po, yd, jv⟩ := k
  refine ⟨fun d p hd hp' n => ?_, fun t s p ht hu h2 h10 => ?_⟩
  · have hd : d < eD (xE (yX y)) := hd
    have hp' : p < eP (xE (yX y)) := hp'
    refine (h.1 d p hd hp' (fun q => q)).trans (newP.ofE (E := xE (yX y)) (E' := ti! (xE (yX y)) (thJ (jt! (xJ (yX y)) a b k0)) a b) rfl rfl rfl ?_).symm
    have e0 : cdE (ti! (xE (yX y)) (thJ (jt! (xJ (yX y)) a b k0)) a b) (xS (yX y)) (d : Int) p (eT (xE (yX y))) = none := cdE.deaf fun s h2 => (hs _ (by
      unfold slt
      omega)).1
    have e1 : cdsN (ti! (xE (yX y)) (thJ (jt! (xJ (yX y)) a b k0)) a b) (xS (yX y)) (d : Int) p (eT (xE (yX y)) + 1) = cdsN (ti! (xE (yX y)) (thJ (jt! (xJ (yX y)) a b k0)) a b) (xS (yX y)) (d : Int) p (eT (xE (yX y))) := by
      unfold cdsN
      rw [List.range_succ, List.filterMap_append, List.filterMap_cons, e0]
      exact List.append_nil _
    show cdsN (ti! (xE (yX y)) (thJ (jt! (xJ (yX y)) a b k0)) a b) (xS (yX y)) (d : Int) p (eT (xE (yX y)) + 1) = _
    rw [e1]
    refine cdsN.of _ fun t ht => cdE.of (up1.ne (by omega)) (up1.ne (by omega)) ?_
    by_cases c1 : sdE (xE (yX y)) (d : Int) t < 0
    · exact Or.inl c1
    · obtain ⟨g1, g2⟩ := sdE_eN c1
      refine Or.inr (cdAt.pl (up1.ne (by omega)) (ti!.N (by omega)) fun r hr => ?_)
      show thJ (jt! (xJ (yX y)) a b k0) (if 4 * eT (xE (yX y)) ≤ 4 * t + 2 * (sdE (xE (yX y)) (d : Int) t).toNat then -99999999 else ePl (xE (yX y)) (4 * t + 2 * (sdE (xE (yX y)) (d : Int) t).toNat)) (d : Int) _ r = eTh (xE (yX y)) _ (d : Int) _ r
      rw [if_neg (by omega), hE]
      refine thJ.cg (c := c) ok (fun _ _ _ => rfl) ?_ rfl rfl (fun _ => rfl) (hpl t _ ht (by omega))
      have q := jt!.old (J := xJ (yX y)) (f := thJ (jt! (xJ (yX y)) a b k0)) (k := k0) (s := (sdE (xE (yX y)) (d : Int) t).toNat) no ht g1
      rw [ti!.N (by omega), ti!.N (by omega), g2] at q
      exact q
  · have ht : t < eT (xE (yX y)) + 1 := ht
    have hu : up1 (eU (xE (yX y))) (eT (xE (yX y))) 1 t = 0 := hu
    by_cases c0 : t = eT (xE (yX y))
    · rw [c0, up1.at] at hu
      exact absurd hu (by decide)
    · rw [up1.ne c0] at hu
      exact h.2 t s p (by omega) hu h2 h10
theorem upI.pol {c : Int} {P : Pol} (k : K2X y) (h : upI (xE (yX y)) (xS (yX y))) (hpl : ∀ t i, t < eT (xE (yX y)) → i < 4 → plO c (ePl (xE (yX y)) (4 * t + i))) : upI (xE (yX (plY y c P))) (xS (yX (plY y c P))) := by
  obtain ⟨⟨sn, ⟨⟨t1, t2, t3, t4, t5⟩, ⟨h1, h2⟩, pa, ow, ub⟩, ok, ng, hE, ⟨ho, hm, hs, hp⟩, md, up⟩, ro, po, yd, jv⟩ := k
  refine ⟨fun d p hd hp' n => ?_, h.2⟩
  refine (h.1 d p hd hp' (fun q => q)).trans (newP.ofE (E := xE (yX y)) (E' := th! (xE (yX y)) (thJ (jp! (xJ (yX y)) c P))) rfl rfl rfl (cdsN.of _ fun t ht => cdE.of rfl rfl ?_)).symm
  by_cases c1 : sdE (xE (yX y)) (d : Int) t < 0
  · exact Or.inl c1
  · refine Or.inr (cdAt.pl rfl rfl fun r hr => ?_)
    obtain ⟨g1, g2⟩ := sdE_eN c1
    show thJ (jp! (xJ (yX y)) c P) (ePl (xE (yX y)) (4 * t + 2 * (sdE (xE (yX y)) (d : Int) t).toNat)) (d : Int) _ r = eTh (xE (yX y)) _ (d : Int) _ r
    rw [hE]
    exact thJ.cg (c := c) ok (fun p h0 h1 => if_neg (by omega)) rfl rfl rfl (fun _ => rfl) (hpl t _ ht (by omega))
end UpW
/-! Step by step. -/
section UpO
variable {x : St} {y : S2}
theorem U_announce {d p o : Int} (k : KX x) (h : upI (xE x) (xS x)) : upI (xE (ann! x d p o).2) (xS (ann! x d p o).2) := by
  by_cases c : annA (xE x) d p o = 0
  · have r : (0 ≤ d ∧ d < (eD (xE x) : Int)) ∧ (0 ≤ p ∧ p < (eP (xE x) : Int)) ∧ (0 ≤ o ∧ o ≤ 2) := Classical.byContradiction fun n => by
      have e : annA (xE x) d p o = -1 := cIf.neg n
      omega
    have e : (ann! x d p o).2 = (ow! (xE x) (10 * d.toNat + p.toNat) o, xJ x, lookE (ow! (xE x) (10 * d.toNat + p.toNat) o) (xS x) d p.toNat, xH x) := if_pos c
    rw [e]
    obtain ⟨dn, rfl⟩ : ∃ n : Nat, d = (n : Int) := ⟨d.toNat, by omega⟩
    have g := h.own (d := dn) (p := p.toNat) (v := o) k.2.1.1.2.2.2.2 (by omega)
    rw [show 10 * ((dn : Nat) : Int).toNat + p.toNat = 10 * dn + p.toNat by omega]
    exact g
  · have e : (ann! x d p o).2 = x := if_neg c
    rw [e]; exact h
theorem U_withdraw {d p : Int} (k : KX x) (h : upI (xE x) (xS x)) : upI (xE (wdr! x d p).2) (xS (wdr! x d p).2) := by
  by_cases c : wdrA (xE x) d p = 0
  · have r : (0 ≤ d ∧ d < (eD (xE x) : Int)) ∧ (0 ≤ p ∧ p < (eP (xE x) : Int)) := Classical.byContradiction fun n => by
      have e : wdrA (xE x) d p = -1 := cIf.neg n
      omega
    have e : (wdr! x d p).2 = (ow! (xE x) (10 * d.toNat + p.toNat) (-1), xJ x, lookE (ow! (xE x) (10 * d.toNat + p.toNat) (-1)) (xS x) d p.toNat, xH x) := if_pos c
    rw [e]
    obtain ⟨dn, rfl⟩ : ∃ n : Nat, d = (n : Int) := ⟨d.toNat, by omega⟩
    have g := h.own (d := dn) (p := p.toNat) (v := -1) k.2.1.1.2.2.2.2 (by omega)
    rw [show 10 * ((dn : Nat) : Int).toNat + p.toNat = 10 * dn + p.toNat by omega]
    exact g
  · have e : (wdr! x d p).2 = x := if_neg c
    rw [e]; exact h
theorem U_use {n t s o v : Int} (k : KX x) (h : upI (xE x) (xS x)) : upI (xE (use! n x t s o v).2) (xS (use! n x t s o v).2) := by
  by_cases c : useO (xE x) n t s o v
  · have e : use! n x t s o v = (0, useE (xE x) t.toNat s.toNat o.toNat v, xJ x, useS (useE (xE x) t.toNat s.toNat o.toNat v) (xS x) t.toNat s.toNat o.toNat, xH x) := cIf.pos c
    obtain ⟨c1, c2, c3, _⟩ := c
    rw [e]
    exact h.use k.2.1.1 (by omega) (by omega) (by omega)
  · have e : use! n x t s o v = (-1, x) := cIf.neg c
    rw [e]; exact h
theorem U_raise {t v : Int} (k : KX x) (h : upI (xE x) (xS x)) : upI (xE (rai! x t v).2) (xS (rai! x t v).2) := by
  by_cases c : 0 ≤ t ∧ t < (eT (xE x) : Int)
  · by_cases c3 : v = 0 ∧ eU (xE x) t.toNat = 0
    · have e : rai! x t v = (0, x) := (cIf.pos c).trans (if_pos c3)
      rw [e]; exact h
    · have e : rai! x t v = (eU (xE x) t.toNat, raiE (xE x) t.toNat v, xJ x, raiS (xE x) (xS x) t.toNat v, xH x) := (cIf.pos c).trans (if_neg c3)
      rw [e]
      show upI (raiE (xE x) t.toNat v) (raiS (xE x) (xS x) t.toNat v)
      unfold raiE raiS
      by_cases c0 : v = 0
      · rw [if_pos c0, if_pos c0]
        exact h.down k.2.1.1 (by omega)
      · rw [if_neg c0, if_neg c0]
        exact h.up k.2.1.1 (k.2.2.2.2.2.2.2 _)
  · have e : rai! x t v = (-1, x) := cIf.neg c
    rw [e]; exact h
theorem U_go {n : Int} (k : KX x) (h : upI (xE x) (xS x)) : upI (xE (go! x n).2) (xS (go! x n).2) := by
  by_cases c : 1 ≤ n ∧ n ≤ 500
  · have e : go! x n = (((goE (xE x) 2000000000 n.toNat (xS x)).1 : Int), xE x, xJ x, (goE (xE x) 2000000000 n.toNat (xS x)).2, xH x) := if_pos c
    rw [e]
    exact upI.go k.2.1 _ k.1 h
  · have e : go! x n = (-1, x) := if_neg c
    rw [e]; exact h
theorem U_until {v : Int} (k : KX x) (h : upI (xE x) (xS x)) : upI (xE (unt! x v).2) (xS (unt! x v).2) := by
  by_cases c : sCk (xS x) ≤ v ∧ v ≤ 1000000000
  · have e : unt! x v = (((goE (xE x) v 500 (xS x)).1 : Int), xE x, xJ x, passE (xE x) v (goE (xE x) v 500 (xS x)).2, xH x) := if_pos c
    rw [e]
    exact (upI.go k.2.1 _ k.1 h).pass
  · have e : unt! x v = (-1, x) := if_neg c
    rw [e]; exact h
theorem U_rule {d n g : Int} (k : KX x) (h : upI (xE x) (xS x)) : upI (xE (rul! x d n g).2) (xS (rul! x d n g).2) := by
  by_cases c : rulO (xE x) d n
  · have e : rul! x d n g = (0, st! (xE x) d.toNat (stp n.toNat) g, xJ x, lookA (st! (xE x) d.toNat (stp n.toNat) g) (xS x) d, xH x) := cIf.pos c
    have r := c.1
    rw [e]
    obtain ⟨dn, rfl⟩ : ∃ m : Nat, d = (m : Int) := ⟨d.toNat, by omega⟩
    have q := h.st (d := dn) (l := stp n.toNat) (g := g) k.2.1.1.2.2.2.2
    rw [Int.toNat_natCast]
    exact q
  · have e : rul! x d n g = (-1, x) := cIf.neg c
    rw [e]; exact h
theorem U_hear {t s : Int} (k : KX x) (h : upI (xE x) (xS x)) : upI (xE (hea! x t s)) (xS (hea! x t s)) := by
  by_cases g : (0 ≤ t ∧ t < (eT (xE x) : Int)) ∧ (0 ≤ s ∧ s ≤ 1)
  · by_cases c : uT (xM x) = 0 ∨ eU (xE x) t.toNat = 0
    · rw [hea!.out c]; exact h
    · rw [hea!.is g (fun q => c (Or.inl q)) (fun q => c (Or.inr q))]
      exact h.tk k.2.1.1 (by omega) (by omega) (fun q => c (Or.inr q)) _
  · rw [hea!.no g]; exact h
theorem U_rth {R : Rg} {d : Int} (k : K2X y) (h : upI (xE (yX y)) (xS (yX y))) : upI (xE (yX (rth! y R d))) (xS (yX (rth! y R d))) := upI.anw (E := xE (vd! (yX y) (vdJ (jA (xJ (yX y))) (jL (xJ (yX y))) R d))) k.1.2.1.1.2.2.2.2 h.2
end UpO
end
section
/-! Halves kept by why, three, verdict. -/
section KeepG
variable {w : mW} {μ m : mM} {y : S2}
theorem wE.rf : wE w w := ⟨Nat.le_refl _, fun _ _ => ⟨rfl, rfl⟩, fun a h1 h2 => absurd h2 (by omega)⟩
theorem K2C.frC (hw : mWF w) (hT : mT w μ) (h : K2C w μ y) (f : frC μ m) : K2C w m y := h.cgW hw hT wE.rf (fun a i q => by
  unfold kcX kcJ at q
  exact f a i (by omega) (by omega) (by omega) (by omega)) (fun a i h1 _ _ => f a i (by omega) (by omega) (by omega) (by omega))
theorem K2R.cgV (hw : mWF w) (hT : mT w μ) (h : K2R μ y) (hx : ∀ b i, krX b i ∨ (krJ b i ∧ ¬ (b = 106 ∧ 26 ≤ i ∧ i ≤ 31)) ∨ (b = 106 ∧ i = 39) ∨ (127 ≤ b ∧ b ≤ 144) → m b i = μ b i) (hg : gJ m) : K2R m y := by
  have fj : ∀ b i, krJ b i ∧ ¬ (b = 106 ∧ 26 ≤ i ∧ i ≤ 31) → m b i = μ b i := fun b i q => hx b i (Or.inr (Or.inl q))
  have g : ∀ b, b = 108 ∨ b = 109 ∨ b = 111 ∨ (119 ≤ b ∧ b ≤ 125) → m b = μ b := fun b q => funext fun i => fj b i (by unfold krJ; omega)
  have h39 : m 106 39 = μ 106 39 := hx _ _ (Or.inr (Or.inr (Or.inl ⟨rfl, rfl⟩)))
  have jg : jgR m (xJ (yX y)) := h.1.2.1.cg (fun b q => by
    by_cases c : b = 110
    · subst c; exact funext fun i => hx _ _ (Or.inl (by unfold krX; omega))
    · by_cases c2 : 127 ≤ b ∧ b ≤ 144
      · exact funext fun i => hx b i (Or.inr (Or.inr (Or.inr c2)))
      · exact g b (by omega)) h39 (fj _ _ (by unfold krJ; omega)) (fj _ _ (by unfold krJ; omega))
  refine ⟨KRf.cgJ (f' := eTh (xE (yX y))) hw hT h.1 (fun b i q => hx b i (Or.inl q)) (fun i => fj _ _ (by unfold krJ; omega)) jg rfl (fun t i ht hi => by rw [h39]; exact h.1.2.2.2.1 t i ht hi) hg, ⟨by rw [fj _ _ (by unfold krJ; omega)]; exact h.2.1.1, fun i hi => ?_⟩, by rw [fj _ _ (by unfold krJ; omega)]; exact h.2.2⟩
  rw [g 119 (by omega), g 120 (by omega), g 121 (by omega), g 122 (by omega), g 123 (by omega), g 124 (by omega), g 125 (by omega)]
  exact h.2.1.2 i hi
theorem K2R.frR (hw : mWF w) (hT : mT w μ) (h : K2R μ y) (f : frR μ m) (hg : gJ m) : K2R m y := h.cgV hw hT (fun b i q => by
  unfold krX krJ at q
  exact f b i (by omega) (by omega) (by omega) (by omega) (by omega) (by omega)) hg
theorem K2R.frT {r : Int} (hw : mWF w) (hT : mT w μ) (h : K2R μ y) (hr : 1 ≤ r ∧ r ≤ 23) (f : frT μ m r) (hg : gJ m) : K2R m y := h.cgV hw hT (fun b i q => by
  unfold krX krJ at q
  exact f b i (by omega) (by omega) (by omega) (by omega) (by omega)) hg
theorem R_verdict {p n d e : Int} (hw : mWF w) (hT : mT w μ) (h : K2R μ y) (k : K2X y) : WP_X12_verdict_W w μ p n d e (fun _ m => K2R m y) := by
  have ev := h.1.env (w := w) hw k.1
  have e2 : μ 106 2 = (eP (xE (yX y)) : Int) := h.1.1.2.1
  intro z1 e1 r1
  refine X12_isPrefix_s ev fun z hz rz => ⟨fun _ => h, fun q => ⟨fun _ => h, fun _ => ⟨fun _ => ?_, fun _ => h⟩⟩⟩
  have hp := hz.mp (by omega)
  exact X12_judged_s h.1.2.2.2.2.2.2.1 (by omega) fun m g f _ _ _ => h.cgV hw hT (fun b i q => by
    unfold krX krJ at q
    exact f b i (by omega)) g
/-- three in a ring: whatever is answered, nothing more is written -/
theorem threeC {p3 : Int} {b1 : Nat} {Q : Int → mM → Prop} (hQ : ∀ z, Q z m) : loopF (WL_X8_threeInRing_W_1 w p3 Q b1 m) False 12 (0 : Int) := by
  have W4 : ∀ z, WJ_X8_threeInRing_W_4 w Q m z := fun z _ b eb Ab v ev rv => hQ v
  refine loopF.i (fun z => 0 ≤ z ∧ z ≤ 10) (fun z => (11 - z).toNat) ⟨by decide, by decide⟩ (by decide) ?_
  rintro r1 i ⟨i0, i1⟩ ih1 i' e1 ri n en rn
  cases e1
  refine ⟨fun _ => hQ _, fun c1 => ?_⟩
  have R1 : r1 (i + 1) := ih1 _ ⟨by omega, by omega⟩ (by omega)
  refine loopF.i (fun z => 0 ≤ z ∧ z ≤ 10) (fun z => (11 - z).toNat) ⟨by decide, by decide⟩ (by decide) ?_
  rintro r2 j ⟨j0, j1⟩ ih2 j' e2 rj
  cases e2
  refine ⟨fun _ => R1, fun c2 b eb Ab b' eb' Ab' => ?_⟩
  have R2 : r2 (j + 1) := ih2 _ ⟨by omega, by omega⟩ (by omega)
  refine X0_prefers_s fun z _ rz => ⟨fun _ => ?_, fun _ => R2⟩
  refine loopF.i (fun z => 0 ≤ z ∧ z ≤ 10) (fun z => (11 - z).toNat) ⟨by decide, by decide⟩ (by decide) ?_
  rintro r3 l ⟨l0, l1⟩ ih3 l' e3 rl
  cases e3
  refine ⟨fun _ => R2, fun c3 b3 eb3 Ab3 => ?_⟩
  have R3 : r3 (l + 1) := ih3 _ ⟨by omega, by omega⟩ (by omega)
  exact X0_prefers_s fun z2 _ rz2 => ⟨fun _ => R3, fun _ => X0_prefers_s fun z3 _ rz3 => ⟨fun _ => R3, fun _ => ⟨fun _ => ⟨fun _ => W4 _, fun _ => W4 _⟩, fun _ => W4 _⟩⟩⟩
theorem C_three {d p k0 : Int} (hw : mWF w) (hT : mT w μ) (h : K2C w μ y) (k : K2X y) : WP_X11_three_W w μ d p k0 (fun _ m => K2C w m y) := by
  have ev := h.1.env hw hT k.1
  intro n en rn
  refine X11_isDomain_s ev fun z hz rz => ⟨fun _ => h, fun q n2 en2 rn2 => X11_isPrefix_s ev fun z2 hz2 rz2 => ⟨fun q2 => ⟨fun _ => h, fun c0 => ⟨fun c2 => ?_, fun _ => h⟩⟩, fun _ => h⟩⟩
  have hd := hz.mp (by omega)
  have hp := hz2.mp (by omega)
  have p10 := k.1.2.1.1.2.2.2.2
  obtain ⟨pn, rfl⟩ : ∃ n : Nat, p = (n : Int) := ⟨p.toNat, by omega⟩
  intro b1 eb1 A1 z5 ez5 rz5
  refine ⟨fun c5 => ?_, fun _ _ _ _ => h⟩
  exact X8_gather_s hw hT ev h.1.2.2.2.2.1 k.1.1 k.1.2.1.1 (by omega) (cdsN.len k.1.2.1.1) fun m f _ _ _ _ _ _ _ => threeC fun z _ _ _ => h.frC hw hT f
theorem C_why {t s p : Int} (hw : mWF w) (hT : mT w μ) (h : K2C w μ y) (k : K2X y) : WP_X11_why_W w μ t s p (fun _ m => K2C w m y) := by
  have ev := h.1.env hw hT k.1
  intro n en rn
  refine X11_isTie_s ev fun z hz rz => ⟨fun _ => h, fun q => X11_isEither_s fun z2 hz2 rz2 => ⟨fun _ => h, fun q2 n3 en3 rn3 => X11_isPrefix_s ev fun z3 hz3 rz3 => ⟨fun q3 => ?_, fun _ => h⟩⟩⟩
  have hp := hz3.mp (by omega)
  have p10 := k.1.2.1.1.2.2.2.2
  obtain ⟨pn, rfl⟩ : ∃ n : Nat, p = (n : Int) := ⟨p.toNat, by omega⟩
  intro b1 eb1 A1 rz9 b10 eb10 A10
  refine X9_end_s ?_
  intro rz17 b18 eb18 A18 z21 ez21 rz21
  refine ⟨fun c21 z27 ez27 rz27 => ⟨fun c27 => X7_passes_s fun z36 _ rz36 => ⟨fun c36 => ?_, fun _ _ _ _ => h⟩, fun _ _ _ _ => h⟩, fun _ _ _ _ => h⟩
  refine X8_gather_s hw hT ev h.1.2.2.2.2.1 k.1.1 k.1.2.1.1 (by omega) (cdsN.len k.1.2.1.1) fun m f _ _ _ _ _ _ _ => ?_
  have K : K2C w m y := h.frC hw hT f
  have ov : ∀ {v : Int} {Q : Int → mM → Prop}, (∀ z : Int, Q z m) → WP_X8_candidateOver_W w m v Q := by
    intro v Q hQ
    refine loopF.i (fun z => 0 ≤ z ∧ z ≤ 10) (fun z => (11 - z).toNat) ⟨by decide, by decide⟩ (by decide) ?_
    rintro rc i ⟨i0, i1⟩ ih i' e ri n2 en2 rn2
    cases e
    exact ⟨fun _ => hQ _, fun c b eb Ab v2 ev2 rv2 => ⟨fun _ => ih _ ⟨by omega, by omega⟩ (by omega), fun _ => hQ _⟩⟩
  refine ov fun z47 rz47 z49 ez49 rz49 => ov fun z57 rz57 => ⟨fun c47 => ⟨fun _ _ _ _ => K, fun c => ⟨fun c57 b64 eb64 A64 b67 eb67 A67 => ?_, fun _ _ _ _ => K⟩⟩, fun _ _ _ _ => K⟩
  refine loopF.i (fun z => 0 ≤ z ∧ z ≤ 6) (fun z => (7 - z).toNat) ⟨by decide, by decide⟩ (by decide) ?_
  rintro rc i ⟨i0, i1⟩ ih i' e ri n2 en2 rn2
  cases e
  exact ⟨fun _ _ _ _ _ => K, fun c v ev2 rv => X0_compareAt_s fun z _ _ rz => ⟨fun _ => ih _ ⟨by omega, by omega⟩ (by omega), fun _ _ _ _ _ => K⟩⟩
end KeepG
end
section
/-! The reference: three and why keep their half. -/
theorem pickE.there {g : Int} {l : List Int} {cs : List Cd} {c : Cd} (hc : c ∈ cs) : ∃ x, pickE g l cs = some x := by
  have nn : ∀ (q : List Cd) (c : Cd), c ∈ q → ∃ x, bst l q none = some x := by
    intro q c h
    cases q with
    | nil => cases h
    | cons a q =>
      show ∃ x, bst l q (some a) = some x
      exact bst.there
  unfold pickE
  by_cases e : g = 0
  · rw [if_pos e]; exact nn _ _ hc
  · rw [if_neg e]
    unfold pickG
    by_cases k : ky c = -1
    · exact nn _ c (List.mem_append_left _ (List.mem_filter.mpr ⟨hc, decide_eq_true k⟩))
    · obtain ⟨x, hx⟩ := grp.there (l := l) hc (rfl : ky c = ky c)
      exact nn _ x (List.mem_append_right _ (List.mem_filterMap.mpr ⟨ky c, kys.mem.mpr (Or.inr ⟨c, hc, rfl, k⟩), hx⟩))
theorem newP.there {E : En} {S : Sn} {d p t : Nat} {c : Cd} (ht : t < eT E) (h : cdE E S (d : Int) p t = some c) : ¬ (newP E S (d : Int) p).2 = none := by
  have hm : c ∈ cdsN E S (d : Int) p (eT E) := by
    unfold cdsN
    exact List.mem_filterMap.mpr ⟨t, List.mem_range.mpr ht, h⟩
  unfold newP
  by_cases o : 0 ≤ eOw E (10 * (d : Int).toNat + p)
  · rw [if_pos o]; exact fun q => by cases q
  · rw [if_neg o]
    obtain ⟨x, hx⟩ := pickE.there (g := eGr E (d : Int).toNat) (l := eSt E (d : Int).toNat) hm
    rw [hx]; exact fun q => by cases q
theorem sdE_ofN {E : En} (ti : tiG E) {t s : Nat} (ht : t < eT E) (hs : s < 2) : sdE E (eN E t s) t = (s : Int) := by
  rcases (show s = 0 ∨ s = 1 by omega) with e | e
  · subst e
    have e : eN E t 0 = eA E t := if_pos rfl
    rw [e]; unfold sdE sdI
    exact (if_pos rfl).trans rfl
  · subst e
    have e : eN E t 1 = eB E t := if_neg (by decide)
    rw [e]; unfold sdE sdI
    rw [if_neg (ti.1 t ht).1]
    exact (if_pos rfl).trans rfl
section KeepR
variable {w : mW} {μ m : mM} {y : S2} {E : En} {S : Sn} {d p : Nat} {k0 : Int} {Q : Int → mM → Prop}
/-- three in a ring: nothing more is written -/
theorem threeR (hw : mWF w) (ev : envR w m E gJ) (st : snR m E S) (sn : snG E S) (ti : tiG E) (tG : thG E) (hd : d < eD E) (hp : p < 10)
    (hc : ∀ t, t < eT E → rtR m (4 + (t : Int)) = (cdE E S (d : Int) p t).map (fun x => x.2.2.2)) (hQ : ∀ z, Q z m) : loopF (WL_X12_three_W_1 w (d : Int) (p : Int) k0 Q m) False 22 (0 : Int) := by
  have t20 := ti.2.2.1
  have th : ∀ (z v : Int), 0 ≤ z → z < (eT E : Int) → (v = 1 ↔ ¬ rtR m (4 + z) = none) → ¬ v = 0 → (0 ≤ v ∧ v ≤ 1) → ∃ x, cdE E S (d : Int) p z.toNat = some x := by
    intro z v h0 h1 hv n0 rv
    have g := hc z.toNat (by omega)
    rw [show ((z.toNat : Nat) : Int) = z by omega] at g
    cases e : cdE E S (d : Int) p z.toNat with
    | none => rw [e] at g; exact absurd g (hv.mp (by omega))
    | some x => exact ⟨x, rfl⟩
  have bt : ∀ (P : Int → mM → Prop) (a b : Int) (x y : Cd), 0 ≤ a → a < (eT E : Int) → 0 ≤ b → b < (eT E : Int) → cdE E S (d : Int) p a.toNat = some x → cdE E S (d : Int) p b.toNat = some y → (∀ z : Int, (z = 1 ↔ bts (eSt E d) x y = true) → P z m) → WP_X12_beats_W w m (d : Int) a b (p : Int) P := by
    intro P a b x y a0 a1 b0 b1 ex ey hP
    have q := beatsE (Q := P) hw ev st sn ti tG hd hp hc (show a.toNat < eT E by omega) (show b.toNat < eT E by omega) ex ey hP
    rw [show ((a.toNat : Nat) : Int) = a by omega, show ((b.toNat : Nat) : Int) = b by omega] at q
    exact q
  refine loopF.i (fun z => 0 ≤ z ∧ z ≤ 20) (fun z => (21 - z).toNat) ⟨by decide, by decide⟩ (by decide) ?_
  rintro r1 i ⟨i0, i1⟩ ih1 i' e1 ri n en rn
  cases e1
  rw [ev.1] at en
  subst en
  refine ⟨fun _ => hQ _, fun c1 => ?_⟩
  have R1 : r1 (i + 1) := ih1 _ ⟨by omega, by omega⟩ (by omega)
  refine loopF.i (fun z => 0 ≤ z ∧ z ≤ 20) (fun z => (21 - z).toNat) ⟨by decide, by decide⟩ (by decide) ?_
  rintro r2 j ⟨j0, j1⟩ ih2 j' e2 rj
  cases e2
  refine ⟨fun _ => R1, fun c2 => ?_⟩
  have R2 : r2 (j + 1) := ih2 _ ⟨by omega, by omega⟩ (by omega)
  intro v1 _ _
  refine X12_isThere_s fun y1 hy1 ry1 => ⟨fun _ => R1, fun n1 => ⟨fun _ => R2, fun c3 v2 _ _ => ?_⟩⟩
  refine X12_isThere_s fun y2 hy2 ry2 => ⟨fun _ => R2, fun n2 => ?_⟩
  obtain ⟨x1, ex1⟩ := th i y1 i0 c1 hy1 n1 ry1
  obtain ⟨x2, ex2⟩ := th j y2 j0 c2 hy2 n2 ry2
  refine bt _ i j x1 x2 i0 c1 j0 c2 ex1 ex2 fun z _ rz => ⟨fun _ => ?_, fun _ => R2⟩
  refine loopF.i (fun z => 0 ≤ z ∧ z ≤ 20) (fun z => (21 - z).toNat) ⟨by decide, by decide⟩ (by decide) ?_
  rintro r3 l ⟨l0, l1⟩ ih3 l' e3 rl
  cases e3
  refine ⟨fun _ => R2, fun c4 => ?_⟩
  have R3 : r3 (l + 1) := ih3 _ ⟨by omega, by omega⟩ (by omega)
  refine ⟨fun _ => R3, fun c5 => ⟨fun _ => R3, fun c6 v3 _ _ => ?_⟩⟩
  refine X12_isThere_s fun y3 hy3 ry3 => ⟨fun n3 => ?_, fun _ => R3⟩
  obtain ⟨x3, ex3⟩ := th l y3 l0 c4 hy3 n3 ry3
  exact bt _ j l x2 x3 j0 c2 l0 c4 ex2 ex3 fun z2 _ rz2 => ⟨fun _ => R3, fun _ => bt _ l i x3 x1 l0 c4 i0 c1 ex3 ex1 fun z3 _ rz3 => ⟨fun _ => R3, fun _ => ⟨fun _ => ⟨fun _ => hQ _, fun _ => hQ _⟩, fun _ => hQ _⟩⟩⟩
theorem R_three {d0 p0 k0 : Int} (hw : mWF w) (hT : mT w μ) (h : K2R μ y) (k : K2X y) : WP_X12_three_W w μ d0 p0 k0 (fun _ m => K2R m y) := by
  have ev := h.1.env (w := w) hw k.1
  intro z1 e1 r1
  refine X12_isDomain_s ev fun z hz rz => ⟨fun _ => h, fun q z2 e2 r2 => ?_⟩
  refine X12_isPrefix_s ev fun z3 hz3 rz3 => ⟨fun q3 z5 e5 r5 => ⟨fun _ => h, fun _ => ?_⟩, fun _ => h⟩
  refine X12_in_s fun z6 _ rz6 => ⟨fun _ => ?_, fun _ => h⟩
  have hd := hz.mp (by omega)
  have hp := hz3.mp (by omega)
  have p10 := k.1.2.1.1.2.2.2.2
  obtain ⟨dn, rfl⟩ : ∃ n : Nat, d0 = (n : Int) := ⟨d0.toNat, by omega⟩
  obtain ⟨pn, rfl⟩ : ∃ n : Nat, p0 = (n : Int) := ⟨p0.toNat, by omega⟩
  refine X12_candidates_s hw hT ev h.1.2.2.2.2.2.2.1 gJ.st h.1.2.2.2.2.1 k.1.1 k.1.2.1.1 (by omega) fun m g f _ hc T F => ?_
  exact threeR hw (ev.fr hw (mF.refl.call F rfl)) (h.1.2.2.2.2.1.fr hw hT f) k.1.1 k.1.2.1.1 k.1.2.1.2.1 (by omega) (by omega) hc fun z => h.frR hw hT f g
/-- why, at a side -/
theorem whyR {t s : Nat} {v : Int} {L : List Nat} (hw : mWF w) (hT : mT w μ) (h : K2R μ y) (k : K2X y) (u : upI (xE (yX y)) (xS (yX y))) (ht : t < eT (xE (yX y))) (hs : s < 2) (hp : p < eP (xE (yX y))) (hd : (d : Int) = eN (xE (yX y)) t s)
    (ez : μ 161 (10 * (d : Int) + (p : Int)).toNat = v) (rz : v = -99999999 ∨ v = -4 ∨ (0 ≤ v ∧ v ≤ 19)) (n4 : ¬ v = -4) :
    WP_X12_candidate_W w μ (d : Int) (t : Int) (p : Int) (fun z77 m => mT w m → mF L w μ m → ((-99999999) ≤ z77 ∧ z77 ≤ 10) → ((z77 = 0) → ((0 : Int) ≤ v) ∧ ∀ _ : True, WP_X12_unlike_W w m (d : Int) (4 + (t : Int)) (t : Int) (30 + ((10 * (d : Int)) + (p : Int))) v (p : Int) (fun z86 _ => ((-9) ≤ z86 ∧ z86 ≤ 9) → ((¬ z86 = 0) → ((0 ≤ z86) → K2R m y) ∧ ((z86 < 0) → K2R m y)) ∧ ((z86 = 0) → K2R m y))) ∧ ((¬ z77 = 0) → K2R m y)) := by
  have ev := h.1.env (w := w) hw k.1
  have sn := k.1.1
  have ti := k.1.2.1.1
  have st := h.1.2.2.2.2.1
  have p10 := ti.2.2.2.2
  have t20 := ti.2.2.1
  obtain ⟨d', ed, hd'⟩ := eN.nat ti (s := s) ht
  have dd : d < eD (xE (yX y)) := by omega
  refine X12_candidate_s hw hT ev h.1.2.2.2.2.2.2.1 gJ.st st sn ti ht hs hd (by omega) fun z m g f r3 _ z0 _ T F rz7 => ?_
  have fr : frR μ m := f.fr (by omega)
  have K : K2R m y := h.frR hw hT fr g
  refine ⟨fun c0 => ?_, fun _ => K⟩
  obtain ⟨c, ec⟩ : ∃ c, cdAt (xE (yX y)) (xS (yX y)) (d : Int) p t s = some c := by
    cases e : cdAt (xE (yX y)) (xS (yX y)) (d : Int) p t s with
    | none => exact absurd e (z0.mp c0)
    | some c => exact ⟨c, rfl⟩
  have sd : sdE (xE (yX y)) (d : Int) t = (s : Int) := by
    rw [hd]
    exact sdE_ofN ti ht hs
  have ecE : cdE (xE (yX y)) (xS (yX y)) (d : Int) p t = some c := (cdE.at sd).trans ec
  have pk : sPk (xS (yX y)) (10 * d + p) = newP (xE (yX y)) (xS (yX y)) (d : Int) p := u.1 d p dd hp (fun q => q)
  have n2 : ¬ (sPk (xS (yX y)) (10 * d + p)).2 = none := by
    rw [pk]
    exact newP.there ht ecE
  have n1 : ¬ (sPk (xS (yX y)) (10 * d + p)).1 = -99999999 := fun q => n2 ((sn.2.2.2.2.2.2.1 _).mp q)
  rw [show (10 * (d : Int) + (p : Int)).toNat = 10 * d + p by omega, (st.2.1 (10 * d + p) (Or.inl (by omega))).1] at ez
  have rx : rgV (rvR m (4 + (t : Int))) := by
    rw [ec] at r3
    have rv : rvR m (4 + (t : Int)) = c.2.2.2 := (rtR.get r3).2.symm
    rw [rv]
    exact ((cdE.good sn k.1.2.1.2.1 (by omega) ecE) c.2.2.2 rfl).2.2.2.2
  have ry : rgV (rvR m (30 + (10 * (d : Int) + (p : Int)))) := by
    rw [show 10 * (d : Int) + (p : Int) = ((10 * d + p : Nat) : Int) by omega]
    have g2 := ((st.fr hw hT fr).2.1 (10 * d + p) (Or.inl (by omega))).2
    cases e : (sPk (xS (yX y)) (10 * d + p)).2 with
    | none => exact absurd e n2
    | some r =>
      rw [e] at g2
      have rv : rvR m (30 + ((10 * d + p : Nat) : Int)) = r := (rtR.get g2).2.symm
      rw [rv]
      exact (sn.1 (10 * d + p) r e).2.2.2.2
  exact ⟨by omega, fun _ => X12_unlike_s (by omega) rx ry fun _ => ⟨fun _ => ⟨fun _ => K, fun _ => K⟩, fun _ => K⟩⟩
theorem R_why {t0 s0 p0 : Int} (hw : mWF w) (hT : mT w μ) (h : K2R μ y) (k : K2X y) (u : upI (xE (yX y)) (xS (yX y))) : WP_X12_why_Wx w μ t0 s0 p0 (fun _ m => K2R m y) := by
  have ev := h.1.env (w := w) hw k.1
  intro z1 e1 r1
  refine X12_isTie_s ev fun z hz rz => ⟨fun _ => h, fun q => ?_⟩
  refine X12_in_s fun z2 hz2 rz2 => ⟨fun _ => h, fun q2 z3 e3 r3 => ?_⟩
  refine X12_isPrefix_s ev fun z4 hz4 rz4 => ⟨fun q4 => ?_, fun _ => h⟩
  have ht := hz.mp (by omega)
  have hp := hz4.mp (by omega)
  have ti := k.1.2.1.1
  obtain ⟨t, rfl⟩ : ∃ n : Nat, t0 = (n : Int) := ⟨t0.toNat, by omega⟩
  obtain ⟨p, rfl⟩ : ∃ n : Nat, p0 = (n : Int) := ⟨p0.toNat, by omega⟩
  obtain ⟨a1, a2, _⟩ := ev.2.2.2.1 t (by omega)
  obtain ⟨_, dA, dB⟩ := ti.1 t (by omega)
  intro z40 e40 r40 z43 e43 r43
  rw [show (2 * (t : Int)).toNat = 2 * t by omega, a1] at e40
  rw [show (2 * (t : Int) + 1).toNat = 2 * t + 1 by omega, a2] at e43
  refine ⟨fun c => ?_, fun c => ?_⟩
  · obtain ⟨d, rfl⟩ : ∃ n : Nat, z40 = (n : Int) := ⟨z40.toNat, by omega⟩
    intro _ z54 _ _
    refine X12_isThere_s fun z62 _ rz62 => ⟨fun _ z67 e67 rz67 => ⟨fun _ => ⟨fun n4 => ?_, fun _ => h⟩, fun _ => h⟩, fun _ => h⟩
    exact whyR (s := 0) hw hT h k u (by omega) (by omega) (by omega) (e40.symm.trans (if_pos rfl).symm) e67 rz67 n4
  · obtain ⟨d, rfl⟩ : ∃ n : Nat, z43 = (n : Int) := ⟨z43.toNat, by omega⟩
    intro _ z54 _ _
    refine X12_isThere_s fun z62 _ rz62 => ⟨fun _ z67 e67 rz67 => ⟨fun _ => ⟨fun n4 => ?_, fun _ => h⟩, fun _ => h⟩, fun _ => h⟩
    exact whyR (s := 1) hw hT h k u (by omega) (by omega) (by omega) (e43.symm.trans (if_neg (by decide)).symm) e67 rz67 n4
end KeepR
end
section
/-! The law's relation for the engine's rows: one state that both memories tell. -/
theorem cIfB {α : Type} {P : Prop} {a b : α} (R : α → Prop) (h1 : R a) (h2 : R b) : R (cIf P a b) := by
  by_cases c : P
  · rw [cIf.pos c]; exact h1
  · rw [cIf.neg c]; exact h2
theorem iteB {α : Type} {P : Prop} [Decidable P] {a b : α} (R : α → Prop) (h1 : R a) (h2 : R b) : R (if P then a else b) := by
  by_cases c : P
  · rw [if_pos c]; exact h1
  · rw [if_neg c]; exact h2
/-- prefixes and policies are the same -/
def smX (x x' : St) : Prop := eP (xE x') = eP (xE x) ∧ xJ x' = xJ x
section Same
variable {x : St}
theorem sm_ann {d p o : Int} : smX x (ann! x d p o).2 := by
  show smX x (if annA (xE x) d p o = 0 then _ else _)
  exact iteB (fun q : St => smX x q) ⟨rfl, rfl⟩ ⟨rfl, rfl⟩
theorem sm_wdr {d p : Int} : smX x (wdr! x d p).2 := by
  show smX x (if wdrA (xE x) d p = 0 then _ else _)
  exact iteB (fun q : St => smX x q) ⟨rfl, rfl⟩ ⟨rfl, rfl⟩
theorem sm_use {n t s o v : Int} : smX x (use! n x t s o v).2 := by
  unfold use!
  exact cIfB (fun q : Int × St => smX x q.2) ⟨rfl, rfl⟩ ⟨rfl, rfl⟩
theorem sm_rai {t v : Int} : smX x (rai! x t v).2 := by
  unfold rai!
  refine cIfB (fun q : Int × St => smX x q.2) (iteB (fun q : Int × St => smX x q.2) ⟨rfl, rfl⟩ ⟨?_, rfl⟩) ⟨rfl, rfl⟩
  show eP (raiE (xE x) t.toNat v) = eP (xE x)
  unfold raiE
  exact iteB (fun q : En => eP q = eP (xE x)) rfl rfl
theorem sm_go {n : Int} : smX x (go! x n).2 := by
  unfold go!
  exact iteB (fun q : Int × St => smX x q.2) ⟨rfl, rfl⟩ ⟨rfl, rfl⟩
theorem sm_unt {v : Int} : smX x (unt! x v).2 := by
  unfold unt!
  exact iteB (fun q : Int × St => smX x q.2) ⟨rfl, rfl⟩ ⟨rfl, rfl⟩
theorem sm_pck {d p : Int} : smX x (pck! x d p).2 := by
  unfold pck!
  exact cIfB (fun q : Int × St => smX x q.2) (iteB (fun q : Int × St => smX x q.2) ⟨rfl, rfl⟩ ⟨rfl, rfl⟩) ⟨rfl, rfl⟩
theorem sm_hrd {t s p o : Int} : smX x (hrd! x t s p o).2 := by
  unfold hrd!
  exact cIfB (fun q : Int × St => smX x q.2) (iteB (fun q : Int × St => smX x q.2) ⟨rfl, rfl⟩ ⟨rfl, rfl⟩) ⟨rfl, rfl⟩
theorem sm_rul {d n g : Int} : smX x (rul! x d n g).2 := by
  unfold rul!
  exact cIfB (fun q : Int × St => smX x q.2) ⟨rfl, rfl⟩ ⟨rfl, rfl⟩
theorem sm_jdg {n p d q : Int} : smX x (jdg! n x p d q).2 := by
  unfold jdg!
  refine cIfB (fun q : Int × St => smX x q.2) ?_ ⟨rfl, rfl⟩
  cases xO x <;> exact ⟨rfl, rfl⟩
theorem sm_rte {W : List Int} {p v o c : Int} : smX x (rte! W x p v o c).2 := by
  unfold rte!
  exact cIfB (fun q : Int × St => smX x q.2) ⟨rfl, rfl⟩ ⟨rfl, rfl⟩
theorem sm_pac {t a b : Int} : smX x (pac! x t a b).2 := by
  unfold pac!
  exact cIfB (fun q : Int × St => smX x q.2) ⟨rfl, rfl⟩ ⟨rfl, rfl⟩
theorem sm_hea {t s : Int} : smX x (hea! x t s) := by
  unfold hea!
  exact cIfB (fun q : St => smX x q) (iteB (fun q : St => smX x q) ⟨rfl, rfl⟩ ⟨rfl, rfl⟩) ⟨rfl, rfl⟩
/-- picks stay up to date, the rest of the steps -/
theorem upI.pc {E : En} {S : Sn} {t : Nat} {a b : Int} (h : upI E S) : upI (pc! E t a b) S := by
  have e : ∀ (d : Int) (p : Nat), newP (pc! E t a b) S d p = newP E S d p := fun d p => rfl
  exact ⟨fun d p hd hp n => (h.1 d p hd hp n).trans (e _ _).symm, h.2⟩
theorem U_pace {t a b : Int} (h : upI (xE x) (xS x)) : upI (xE (pac! x t a b).2) (xS (pac! x t a b).2) := by
  unfold pac!
  exact cIfB (fun q : Int × St => upI (xE q.2) (xS q.2)) h.pc h
theorem U_picked {d p : Int} (h : upI (xE x) (xS x)) : upI (xE (pck! x d p).2) (xS (pck! x d p).2) := by
  unfold pck!
  exact cIfB (fun q : Int × St => upI (xE q.2) (xS q.2)) (iteB (fun q : Int × St => upI (xE q.2) (xS q.2)) h h) h
theorem U_heard {t s p o : Int} (h : upI (xE x) (xS x)) : upI (xE (hrd! x t s p o).2) (xS (hrd! x t s p o).2) := by
  unfold hrd!
  exact cIfB (fun q : Int × St => upI (xE q.2) (xS q.2)) (iteB (fun q : Int × St => upI (xE q.2) (xS q.2)) h h) h
theorem U_judge {n p d q : Int} (h : upI (xE x) (xS x)) : upI (xE (jdg! n x p d q).2) (xS (jdg! n x p d q).2) := by
  unfold jdg!
  refine cIfB (fun q : Int × St => upI (xE q.2) (xS q.2)) ?_ h
  cases xO x <;> exact h
theorem U_route {W : List Int} {p v o c : Int} (h : upI (xE x) (xS x)) : upI (xE (rte! W x p v o c).2) (xS (rte! W x p v o c).2) := by
  unfold rte!
  exact cIfB (fun q : Int × St => upI (xE q.2) (xS q.2)) h h
end Same
section Up2
variable {y : S2} {c : Int}
theorem U_today {d : Int} (k : K2X y) (h : upI (xE (yX y)) (xS (yX y))) : upI (xE (yX (tdy! y d).2)) (xS (yX (tdy! y d).2)) := by
  unfold tdy!
  exact iteB (fun q : Int × S2 => upI (xE (yX q.2)) (xS (yX q.2))) (U_rth k h) h
theorem U_right {p q d f t k0 : Int} (k : K2X y) (h : upI (xE (yX y)) (xS (yX y))) : upI (xE (yX (rgt! y p q d f t k0).2)) (xS (yX (rgt! y p q d f t k0).2)) := by
  unfold rgt!
  exact cIfB (fun q : Int × S2 => upI (xE (yX q.2)) (xS (yX q.2))) (iteB (fun q : Int × S2 => upI (xE (yX q.2)) (xS (yX q.2))) h (U_rth k h)) h
theorem U_strike {r v : Int} (k : K2X y) (h : upI (xE (yX y)) (xS (yX y))) : upI (xE (yX (str! y r v).2)) (xS (yX (str! y r v).2)) := by
  unfold str!
  exact cIfB (fun q : Int × S2 => upI (xE (yX q.2)) (xS (yX q.2))) (iteB (fun q : Int × S2 => upI (xE (yX q.2)) (xS (yX q.2))) (U_rth k h) h) h
theorem U_prefix {a l : Int} (k : K2X y) (h : upI (xE (yX y)) (xS (yX y))) (hpl : ∀ t i, t < eT (xE (yX y)) → i < 4 → plO c (ePl (xE (yX y)) (4 * t + i))) : upI (xE (yX (pfx! y a l).2)) (xS (yX (pfx! y a l).2)) := by
  unfold pfx!
  refine cIfB (fun q : Int × S2 => upI (xE (yX q.2)) (xS (yX q.2))) h (cIfB (fun q : Int × S2 => upI (xE (yX q.2)) (xS (yX q.2))) h ?_)
  by_cases e : eP (xE (yX y)) = 10
  · rw [if_pos e]; exact h
  · rw [if_neg e]; exact upI.px k h hpl e
theorem U_domain (k : K2X y) (h : upI (xE (yX y)) (xS (yX y))) : upI (xE (yX (dom! y).2)) (xS (yX (dom! y).2)) := by
  unfold dom!
  exact iteB (fun q : Int × S2 => upI (xE (yX q.2)) (xS (yX q.2))) h (upI.dm k h)
theorem U_tie {a b k0 : Int} (k : K2X y) (h : upI (xE (yX y)) (xS (yX y))) (hpl : ∀ t i, t < eT (xE (yX y)) → i < 4 → plO c (ePl (xE (yX y)) (4 * t + i))) : upI (xE (yX (tie! y a b k0).2)) (xS (yX (tie! y a b k0).2)) := by
  unfold tie!
  refine cIfB (fun q : Int × S2 => upI (xE (yX q.2)) (xS (yX q.2))) ?_ h
  by_cases e : ∃ t, t < eT (xE (yX y)) ∧ btw (xE (yX y)) a b t
  · rw [cIf.pos e]; exact h
  · rw [cIf.neg e]
    exact iteB (fun q : Int × S2 => upI (xE (yX q.2)) (xS (yX q.2))) h (upI.ti k h hpl fun t ht q => e ⟨t, ht, q⟩)
end Up2
/-- tape, way and how many policies: the same on both sides -/
def TW (μ : mM) : Prop := μ 0 10 = μ 106 1 ∧ TPE μ ∧ μ 21 8 = μ 106 39 ∧ WYQ μ
abbrev twL : List Nat := [10, 11, 1999, 2999, 21008, 106001, 106015, 106039, 107999, 118999]
section Law3
variable {w w1 : mW} {μ m : mM} {y y' : S2} {L : Int}
theorem WYQ.of {μ m : mM} (h : WYQ μ) (e0 : m 0 11 = μ 0 11) (e1 : m 106 15 = μ 106 15) (e2 : ∀ i, m 2 i = μ 2 i) (e3 : ∀ i, m 118 i = μ 118 i) : WYQ m := ⟨by rw [e0, e1]; exact h.1, fun i hi => by
  rw [e1] at hi
  rw [e2, e3]
  exact h.2 i hi⟩
theorem TW.fr {lf : List Nat} (h : TW μ) (hw : mWF w) (X : mX lf w μ w1 m) (hl : (twL.all fun r => !lf.elem r) = true) : TW m := by
  have a0 : m 0 10 = μ 0 10 := X.f (A_0 hw) (qA_no hl rfl) rfl
  have a1 : m 0 11 = μ 0 11 := X.f (A_0 hw) (qA_no hl rfl) rfl
  have b0 : m 106 1 = μ 106 1 := X.f (A_106 hw) (qA_no hl rfl) rfl
  have b1 : m 106 15 = μ 106 15 := X.f (A_106 hw) (qA_no hl rfl) rfl
  have b2 : m 106 39 = μ 106 39 := X.f (A_106 hw) (qA_no hl rfl) rfl
  have c0 : m 21 8 = μ 21 8 := X.f (A_21 hw) (qA_no hl rfl) rfl
  exact ⟨by rw [a0, b0]; exact h.1, TPE.of h.2.1 a0 (fun i => X.f (A_1 hw) (qA_no hl rfl) rfl) (fun i => X.f (A_107 hw) (qA_no hl rfl) rfl), by rw [c0, b2]; exact h.2.2.1, WYQ.of h.2.2.2 a1 b1 (fun i => X.f (A_2 hw) (qA_no hl rfl) rfl) (fun i => X.f (A_118 hw) (qA_no hl rfl) rfl)⟩
theorem TW.oct (h : TW μ) (hw : mWF w) (hT : mT w μ) : oOk (fun i => μ 1 i.toNat) (μ 0 10) ∧ 0 ≤ μ 0 10 ∧ oR μ (fun i => μ 1 i.toNat) (μ 0 10) := by
  have t : 0 ≤ μ 0 10 ∧ μ 0 10 ≤ 1000 := hT 0 0 (A_0 hw) 10
  exact ⟨⟨t.2, fun i _ _ => hT 1 1 (A_1 hw) i.toNat⟩, t.1, h.1.symm, fun i h0 h1 => (h.2.1 i.toNat (by omega)).symm⟩
theorem TW.way (h : TW μ) : rowL (μ 118) (μ 106 15).toNat = rowL (μ 2) (μ 0 11).toNat := by
  rw [h.2.2.2.1]
  exact rowL.ext fun i hi => (h.2.2.2.2 i (by omega)).symm
theorem TW.len (hw : mWF w) (hT : mT w μ) : (rowL (μ 2) (μ 0 11).toNat).length ≤ 20 := by
  have t : 0 ≤ μ 0 11 ∧ μ 0 11 ≤ 20 := hT 0 0 (A_0 hw) 11
  rw [rowL.len]; omega
theorem oR.cg {B : Int → Int} {n : Int} (h : oR μ B n) (e1 : m 106 1 = μ 106 1) (e2 : ∀ i, m 107 i = μ 107 i) : oR m B n := ⟨e1.trans h.1, fun i h0 h1 => by rw [e2]; exact h.2 i h0 h1⟩
/-- the relation: L numbers of the script are read -/
def K3 (w : mW) (μ : mM) (L : Int) : Prop := ∃ y : S2, K2C w μ y ∧ K2R μ y ∧ K2X y ∧ upI (xE (yX y)) (xS (yX y)) ∧ sMd (xS (yX y)) ≤ 50000 * L ∧ TW μ
theorem K3.fr {lf : List Nat} (h : K3 w μ L) (hw : mWF w) (hT : mT w μ) (X : mX lf w μ w1 m) (hc : kcFree lf = true) (hr : krFree lf = true) (hl : (twL.all fun r => !lf.elem r) = true) : K3 w1 m L := by
  obtain ⟨y, a, b, c, d, e, f⟩ := h
  exact ⟨y, a.fr hw hT X hc, b.fr hw hT X hr, c, d, e, f.fr hw X hl⟩
theorem K3.nx (h : K3 w μ L) : K3 w μ (L + 7) := by
  obtain ⟨y, a, b, c, d, e, f⟩ := h
  exact ⟨y, a, b, c, d, by omega, f⟩
theorem K3.mk (a : K2C w μ y') (b : K2R μ y') (s : k2S y y') (u : upI (xE (yX y')) (xS (yX y'))) (e : sMd (xS (yX y)) ≤ 50000 * L) (t : TW μ) : K3 w μ (L + 7) := ⟨y', a, b, s.1, u, by
  have := s.2.2
  omega, t⟩
theorem K3.pol39 (h : K3 w μ L) : μ 21 8 = μ 106 39 := by
  obtain ⟨y, a, b, c, d, e, f⟩ := h
  exact f.2.2.1
theorem dom5 (K : K2R m (dom! y).2) : m 106 5 = if eD (xE (yX y)) = 10 then (10 : Int) else (eD (xE (yX y)) : Int) + 1 := by
  have h : m 106 5 = (eD (xE (yX (dom! y).2)) : Int) := K.1.1.2.2.1
  unfold dom! at h
  by_cases c : eD (xE (yX y)) = 10
  · rw [if_pos c] at h
    rw [if_pos c, h]
    show (eD (xE (yX y)) : Int) = 10
    omega
  · rw [if_neg c] at h
    rw [if_neg c, h]
    show ((eD (xE (yX y)) + 1 : Nat) : Int) = _
    omega
/-- policies of ties, events: what the law's invariant asks follows from the relation -/
theorem PK.ofK (K : K2R m y) (h2 : ∀ p : Nat, (p : Int) < m 106 39 → polT m p) : PK m := ⟨fun i hi h4 => by
  have e6 : m 106 6 = (eT (xE (yX y)) : Int) := K.1.1.1
  have ht : i / 4 < eT (xE (yX y)) := by omega
  have e := (K.1.1.2.2.2.1 (i / 4) ht).2.2.2.2.2 (i % 4) (by omega)
  have q := K.1.2.2.2.1 (i / 4) (i % 4) ht (by omega)
  rw [← e, show 4 * (i / 4) + i % 4 = i by omega] at q
  exact q, h2⟩
theorem PK.pT {lf : List Nat} (h : PK μ) (hw : mWF w) (F : mF lf w μ m) (hl : (([106039, 127999, 129999, 131999, 140999, 141999] : List Nat).all fun r => !lf.elem r) = true) : ∀ p : Nat, (p : Int) < m 106 39 → polT m p := fun p hp => by
  have e39 : m 106 39 = μ 106 39 := F.f (A_106 hw) (qA_no hl rfl) rfl
  have a : ∀ i, m 127 i = μ 127 i := fun i => F.f (A_127 hw) (qA_no hl rfl) rfl
  have b : ∀ i, m 129 i = μ 129 i := fun i => F.f (A_129 hw) (qA_no hl rfl) rfl
  have c : ∀ i, m 131 i = μ 131 i := fun i => F.f (A_131 hw) (qA_no hl rfl) rfl
  have d : ∀ i, m 140 i = μ 140 i := fun i => F.f (A_140 hw) (qA_no hl rfl) rfl
  have e : ∀ i, m 141 i = μ 141 i := fun i => F.f (A_141 hw) (qA_no hl rfl) rfl
  rw [e39] at hp
  obtain ⟨o1, o2⟩ := h.2 p hp
  exact ⟨fun r hr => by rw [a] at hr; rw [b, b, c]; exact o1 r hr, fun i hi h28 => by rw [c] at hi; rw [d] at h28; rw [e]; exact o2 i hi h28⟩
theorem EV.ofK (K : K2R m y) (k : K2X y) : EV m := fun s hs h => by
  have e6 : m 106 6 = (eT (xE (yX y)) : Int) := K.1.1.1
  have q := K.1.2.2.2.2.1.2.2.1
  rcases h with h | h
  · have e : atR m (2 * s) = m 157 s := by
      unfold atR
      rw [if_pos (by omega), show 2 * s / 2 = s by omega]
    have i := q.1 (2 * s) (by omega) (by rw [e]; exact h)
    have b : 2 * s < 40 * eT (xE (yX y)) := (k.1.1.2.2.2.2.2.1 _ i).1
    omega
  · have e : atR m (2 * s + 1) = m 159 s := by
      unfold atR
      rw [if_neg (by omega), show (2 * s + 1) / 2 = s by omega]
    have i := q.1 (2 * s + 1) (by omega) (by rw [e]; exact h)
    have b : 2 * s + 1 < 40 * eT (xE (yX y)) := (k.1.1.2.2.2.2.2.1 _ i).1
    omega
theorem G1.ofK (K : K2R m y) (k : K2X y) : G1 m := by
  refine ⟨?_, fun j hj => ?_⟩
  · by_cases c : m 106 70 = 0
    · exact Or.inl c
    · refine Or.inr (Classical.byContradiction fun g => K.1.2.2.2.2.2.2.2 c (rtR.nil ?_))
      show m 126 0 < 0
      omega
  · obtain ⟨e1, e2⟩ := K.1.2.2.2.2.1.2.1 j (Or.inr hj)
    by_cases c : m 161 j = -99999999
    · exact Or.inl c
    · refine Or.inr (Classical.byContradiction fun g => c ?_)
      rw [e1]
      refine (k.1.1.2.2.2.2.2.2.1 j).mpr ?_
      rw [← e2]
      refine rtR.nil ?_
      rw [show (40 * (30 + (j : Int))).toNat = 1200 + 40 * j by omega]
      omega
theorem TW.wayF {lf : List Nat} (h : TW μ) (hw : mWF w) (F : mF lf w μ m) (hl : (([106015, 118999] : List Nat).all fun r => !lf.elem r) = true) : rowL (m 118) (m 106 15).toNat = rowL (μ 2) (μ 0 11).toNat := by
  rw [show m 106 15 = μ 106 15 from F.f (A_106 hw) (qA_no hl rfl) rfl, rowL.ext (f := μ 118) fun i _ => F.f (A_118 hw) (qA_no hl rfl) rfl]
  exact h.way
abbrev twM : List Nat := [11, 2999, 21008, 106015, 106039, 118999]
theorem TW.msg {l1 l2 : List Nat} {m2 : mM} (h : TW μ) (hw : mWF w) (F : mF l1 w μ m) (hl : (twM.all fun r => !l1.elem r) = true) (F2 : mF l2 w m m2) (hl2 : (twM.all fun r => !l2.elem r) = true) (e10 : m2 0 10 = 0) (e1 : m2 106 1 = 0) : TW m2 := by
  have a1 : m2 0 11 = μ 0 11 := (F2.f (A_0 hw) (qA_no hl2 rfl) rfl).trans (F.f (A_0 hw) (qA_no hl rfl) rfl)
  have b1 : m2 106 15 = μ 106 15 := (F2.f (A_106 hw) (qA_no hl2 rfl) rfl).trans (F.f (A_106 hw) (qA_no hl rfl) rfl)
  have b2 : m2 106 39 = μ 106 39 := (F2.f (A_106 hw) (qA_no hl2 rfl) rfl).trans (F.f (A_106 hw) (qA_no hl rfl) rfl)
  have c0 : m2 21 8 = μ 21 8 := (F2.f (A_21 hw) (qA_no hl2 rfl) rfl).trans (F.f (A_21 hw) (qA_no hl rfl) rfl)
  exact ⟨by rw [e10, e1], TPE.zero e10, by rw [c0, b2]; exact h.2.2.1, WYQ.of h.2.2.2 a1 b1 (fun i => (F2.f (A_2 hw) (qA_no hl2 rfl) rfl).trans (F.f (A_2 hw) (qA_no hl rfl) rfl)) (fun i => (F2.f (A_118 hw) (qA_no hl2 rfl) rfl).trans (F.f (A_118 hw) (qA_no hl rfl) rfl))⟩
/-- a policy: the law's relation behind both calls -/
theorem K3.pol {m2 mx : mM} {d : Nat} {z : Int} (h : K3 w μ L) (hw : mWF w) (hw1 : mWF w1) (hT : mT w μ) (hT1 : mT w1 m) (X : mX plL w μ w1 m) (e10 : m 0 10 = 0) (C : peC w μ w1 m) (F2 : mF lPR w1 m m2) (hd : (d : Int) = m 106 39) (R : RdR m mx (m 106 39)) (f : pF d m m2) (e1 : m2 106 1 = 0) (p : poR m mx m2 d z) (hP : PK m) : K3 w1 m2 (L + 7) ∧ PK m2 := by
  obtain ⟨y, a, b, c, u, e, t⟩ := h
  obtain ⟨y', ka, kb, kx, ky, n8, pk⟩ := pol_both hw hw1 hT hT1 X a b c t.2.2.1 ((TPE.tpq t.2.1 t.1).eq (hT 0 0 (A_0 hw) 10).1) C F2 hd R f p
  have z10 : m2 0 10 = 0 := (F2.f (A_0 hw1) rfl rfl).trans e10
  have wy : WYQ m2 := (WYQ.frX t.2.2.2 hw hT X rfl).fr hw1 hT1 F2 rfl
  have tw : TW m2 := ⟨by rw [z10, e1], TPE.zero z10, n8, wy⟩
  refine ⟨⟨y', ka, kb, kx, ?_, ?_, tw⟩, PK.pol2 hw1 hT1 hP f hd pk⟩
  · rcases ky with e | ⟨P, e⟩
    · rw [e]; exact u
    · rw [e]; exact upI.pol c u a.1.2.2.2.1
  · rcases ky with q | ⟨P, q⟩
    · rw [q]; omega
    · have q2 : sMd (xS (yX y')) = sMd (xS (yX y)) := by
        rw [q]
        rfl
      omega
end Law3
end
section
/-! The law's relation at the start. -/
def R00 : Rg := (0, fun _ => 0, fun _ => 0, fun _ => 0, fun _ => 0, fun _ => 0, fun _ => 0, fun _ => 0)
noncomputable def J00 : Ju := (fun _ => ([], fun _ => 0, fun _ _ => False, 0), fun _ => 0, fun _ => 0, vdJ (fun _ => 0) (fun _ => 0) R00 0, fun _ _ => 0)
noncomputable def E00 : En := (0, fun _ => 0, fun _ => 0, fun _ => 0, fun _ => 0, fun _ => 0, fun _ => -99999999, thJ J00, fun _ => -1, fun _ => [1, 2, 3, 4, 5], fun _ => 0, 0, 0)
def S00 : Sn := (fun _ => (-99999999, none), fun _ => (none, -1), [], fun _ => none, fun _ => 0, 0, 0, 0)
def M00 : Ms := (0, 0, 0, fun _ => 0, fun _ => 0, (0, 0, 0, 0, [], []))
noncomputable def Y00 : S2 := ((E00, J00, S00, none, M00), R00, 0)
theorem jOk00 : jOk J00 := fun p _ x hx => by
  have hx : x ∈ ([] : List Rw) := hx
  cases hx
theorem jNg00 : jNg J00 := fun p _ => rfl
theorem snG00 : snG E00 S00 := by
  have no : ∀ (k : Nat) (r : Rt), (none : Option Rt) = some r → r.1 = (k : Int) ∧ srt (mOf r) ∧ (wOf r).length ≤ 20 ∧ (mOf r).length ≤ 8 ∧ rgV r := fun k r h => by cases h
  refine ⟨fun k r h => no _ r h, fun k r h => no _ r h, fun k r h => no _ r h, List.Pairwise.nil, List.nodup_nil, fun e he => ?_, fun k => ⟨fun _ => rfl, fun _ => rfl⟩, Int.le_refl 0, fun k => ⟨Int.le_refl (-1), fun _ => rfl⟩, fun k _ => ⟨rfl, rfl, rfl⟩⟩
  have he : e ∈ ([] : List Ev) := he
  cases he
theorem KX00 : K2X Y00 := by
  refine ⟨⟨snG00, ⟨⟨fun t ht => absurd ht (Nat.not_lt_zero t), fun t s ht => absurd ht (Nat.not_lt_zero t), Nat.zero_le _, Nat.zero_le _, Nat.zero_le _⟩, ⟨fun pl d q r p h => thJ.good jOk00 jNg00 h, fun d p hd => absurd hd (Nat.not_lt_zero d)⟩, fun t ht => absurd ht (Nat.not_lt_zero t), fun d p hd => absurd hd (Nat.not_lt_zero d), fun d _ => ⟨fun p _ => rfl, rfl, rfl⟩⟩, jOk00, jNg00, rfl, ⟨fun r h => ?_, fun c => absurd rfl c, fun k _ => ⟨rfl, rfl⟩, fun k _ => rfl⟩, Int.le_refl 0, fun t => Or.inl rfl⟩, ⟨Nat.zero_le _, fun i hi => absurd hi (Nat.not_lt_zero i)⟩, ⟨Nat.zero_le _, fun i hi => absurd hi (Nat.not_lt_zero i)⟩, Int.le_refl 0, rfl⟩
  have h : (none : Option Rt) = some r := h
  cases h
section Zero
variable {w : mW} {μ : mM}
theorem K2C00 (a1 : μ 6 16 = 0) (a2 : μ 6 14 = 0) (a3 : μ 6 15 = 0) (a4 : ∀ i, i < 10 → μ 35 i = ((36 + 3 * i : Nat) : Int)) (a5 : μ 21 8 = 0) (a6 : ∀ i, i < 10 → μ 7 i = 0 ∧ μ 8 i = 0) (a7 : μ 6 17 = 0) (a8 : μ 6 18 = 0) (a9 : μ 32 10 = 0) (b1 : ∀ i, i < 800 → μ 34 i = -1) (b2 : μ 32 11 = 0) (b3 : μ 32 12 = 0) (b4 : rtC μ 70 = none) (b5 : rtC μ 3 = none) (b6 : μ 76 16 = 0) : K2C w μ Y00 := by
  have rg : rgtC μ R00 := ⟨a7, fun i hi => absurd hi (Nat.not_lt_zero i)⟩
  have ro : rgO R00 0 := ⟨Nat.zero_le _, fun i hi => absurd hi (Nat.not_lt_zero i)⟩
  refine ⟨⟨⟨a1, a2, a3, ⟨fun t ht => absurd ht (Nat.not_lt_zero t), fun d hd => absurd hd (Nat.not_lt_zero d), fun t s ht => absurd ht (Nat.not_lt_zero t), fun d e hd => absurd hd (Nat.not_lt_zero d), fun t d ht => absurd ht (Nat.not_lt_zero t), a4⟩, fun t ht => absurd ht (Nat.not_lt_zero t), fun d hd => absurd hd (Nat.not_lt_zero d)⟩, ⟨fun p hp => ?_, a6, fun x n h0 h9 => ?_⟩, fun t s ht => absurd ht (Nat.not_lt_zero t), fun t i ht => absurd ht (Nat.not_lt_zero t), ⟨fun t k ht => absurd ht (Nat.not_lt_zero t), fun d p hd => absurd hd (Nat.not_lt_zero d), ?_, fun i hi => ⟨fun q => absurd (b1 i hi) q, fun ⟨v, hv⟩ => ?_⟩, b2, ?_, b4⟩, b5, b6, fun c => absurd rfl c⟩, rg, a8, fun i hi => absurd hi (Nat.not_lt_zero i)⟩
  · rw [a5] at hp
    omega
  · rw [a8]
    exact vC.is (N := 0) rg ro a6 (fun i hi => absurd hi (Nat.not_lt_zero i)) (Nat.zero_le _) ⟨h0, h9⟩
  · show evC μ = []
    unfold evC
    rw [a9]
    rfl
  · have hv : (v, i) ∈ ([] : List Ev) := hv
    cases hv
  · rw [b3]
    rfl
theorem K2R00 (a1 : μ 106 6 = 0) (a2 : μ 106 2 = 0) (a3 : μ 106 5 = 0) (a4 : ∀ i, i < 100 → μ 162 i = -1) (a5 : ∀ d, d < 10 → rowL (fun i => μ 163 (6 * d + i)) 6 = [1, 2, 3, 4, 5, 0]) (a6 : ∀ d, d < 10 → μ 164 d = 0) (a7 : μ 106 39 = 0) (a8 : ∀ i, i < 10 → μ 108 i = 0 ∧ μ 109 i = 0) (a9 : μ 106 17 = 0) (b1 : μ 106 18 = 0) (b2 : ∀ r : Int, 0 ≤ r → r ≤ 1399 → μ 126 (40 * r).toNat = -1) (b3 : ∀ s, s < 400 → μ 155 s = 0 ∧ μ 157 s = -1 ∧ μ 159 s = -1) (b4 : ∀ k, k < 100 → μ 161 k = -99999999) (b5 : μ 106 71 = 0) (b6 : μ 106 72 = 0) (b7 : μ 106 73 = 0) (b8 : μ 106 70 = 0) (b9 : μ 106 96 = 0) (c1 : μ 106 26 = 0) : K2R μ Y00 := by
  have rg : rgtR μ R00 := ⟨b1, fun i hi => absurd hi (Nat.not_lt_zero i)⟩
  have ro : rgO R00 0 := ⟨Nat.zero_le _, fun i hi => absurd hi (Nat.not_lt_zero i)⟩
  have nil : ∀ r : Int, 0 ≤ r → r ≤ 1399 → rtR μ r = none := fun r h0 h1 => rtR.nil (by rw [b2 r h0 h1]; decide)
  refine ⟨⟨⟨a1, a2, a3, fun t ht => absurd ht (Nat.not_lt_zero t), fun d hd => ?_⟩, ⟨fun p hp => ?_, a8, fun x n h0 h9 => ?_⟩, fun t s ht => absurd ht (Nat.not_lt_zero t), fun t i ht => absurd ht (Nat.not_lt_zero t), ⟨fun s hs => ?_, fun k hk => ?_, ⟨fun e he h => ?_, fun x hx => ?_, List.Pairwise.nil⟩, b5, ?_, b6⟩, ⟨?_, ⟨fun _ => Or.inl b9, fun _ => rfl⟩, fun c => absurd rfl c⟩, ⟨fun c => absurd c1 c, fun r hr => ?_⟩, fun c => absurd b8 c⟩, rg, a9⟩
  · have hd : d < 0 ∨ d < 10 := hd
    have hd : d < 10 := by omega
    exact ⟨fun p hp => a4 _ (by omega), ⟨1, a5 d hd⟩, a6 d hd⟩
  · rw [a7] at hp
    omega
  · rw [a9]
    exact vR.is (N := 0) rg ro ⟨Nat.zero_le _, fun i hi => absurd hi (Nat.not_lt_zero i)⟩ a8 (Int.le_refl 0) ⟨h0, h9⟩
  · have hs : s < 20 * 0 ∨ s < 400 := hs
    have hs : s < 400 := by omega
    obtain ⟨q1, q2, q3⟩ := b3 s hs
    refine ⟨nil _ (by omega) (by omega), fun c => absurd rfl c, nil _ (by omega) (by omega), ?_, fun c => ?_⟩
    · rw [q1]
      rfl
    · rw [q2] at c
      exact absurd c (by decide)
  · have hk : k < 10 * 0 ∨ k < 100 := hk
    exact ⟨b4 k (by omega), nil _ (by omega) (by omega)⟩
  · obtain ⟨_, q2, q3⟩ := b3 (e / 2) (by omega)
    unfold atR at h
    rw [q2, q3] at h
    have h : (0 : Int) ≤ if e % 2 = 0 then -1 else -1 := h
    by_cases c : e % 2 = 0
    · rw [if_pos c] at h
      omega
    · rw [if_neg c] at h
      omega
  · have hx : x ∈ ([] : List Ev) := hx
    cases hx
  · rw [b7]
    rfl
  · exact if_pos b8
  · rw [b1] at hr
    omega
theorem K3.zero (hc : K2C w μ Y00) (hr : K2R μ Y00) (e0 : μ 0 10 = 0) (e1 : μ 106 1 = 0) (e2 : μ 21 8 = 0) (e3 : μ 106 39 = 0) (e4 : μ 0 11 = 0) (e5 : μ 106 15 = 0) : K3 w μ 0 := ⟨Y00, hc, hr, KX00, ⟨fun d p hd => absurd hd (Nat.not_lt_zero d), fun t s p ht => absurd ht (Nat.not_lt_zero t)⟩, by
  show (0 : Int) ≤ 50000 * 0
  decide, by rw [e0, e1], TPE.zero e0, by rw [e2, e3], by rw [e4, e5], fun i hi => by
  rw [e5] at hi
  omega⟩
end Zero
end
section
/-! Cones: sets of domains, closed under the steps to customers. -/
theorem cb_1 : ∀ x : Fin 1024, ∀ d : Fin 10, bAnd (bShr (x.val : Int) (d.val : Int)) 1 = if x.val.testBit d.val then 1 else 0 := by decide +kernel
theorem cb_2 : ∀ x : Fin 1024, ∀ d : Fin 10, bOr (x.val : Int) (bShl 1 (d.val : Int)) = ((x.val ||| 1 <<< d.val : Nat) : Int) := by decide +kernel
theorem cb_3 : ∀ d : Fin 10, bShl 1 (d.val : Int) = ((1 <<< d.val : Nat) : Int) := by decide +kernel
def bB (x : Int) (d : Nat) : Prop := x.toNat.testBit d = true
theorem bB.get {x a u v : Int} (hx : 0 ≤ x ∧ x < 1024) (ha : 0 ≤ a ∧ a ≤ 9) (q1 : bShr x a = u) (q2 : bAnd u 1 = v) : (bB x a.toNat ∧ v = 1) ∨ (¬ bB x a.toNat ∧ v = 0) := by
  have h := cb_1 ⟨x.toNat, by omega⟩ ⟨a.toNat, by omega⟩
  have e1 : ((x.toNat : Nat) : Int) = x := by omega
  have e2 : ((a.toNat : Nat) : Int) = a := by omega
  simp only [e1, e2, q1, q2] at h
  unfold bB
  by_cases c : x.toNat.testBit a.toNat = true
  · rw [if_pos c] at h; exact Or.inl ⟨c, h⟩
  · rw [if_neg c] at h; exact Or.inr ⟨c, h⟩
theorem bB.put {x b y x' : Int} (hx : 0 ≤ x ∧ x < 1024) (hb : 0 ≤ b ∧ b ≤ 9) (q3 : bShl 1 b = y) (q4 : bOr x y = x') : (0 ≤ x' ∧ x' < 1024) ∧ ∀ d : Nat, bB x' d ↔ (bB x d ∨ d = b.toNat) := by
  have h := cb_2 ⟨x.toNat, by omega⟩ ⟨b.toNat, by omega⟩
  have e1 : ((x.toNat : Nat) : Int) = x := by omega
  have e2 : ((b.toNat : Nat) : Int) = b := by omega
  simp only [e1, e2, q3, q4] at h
  have ex : x'.toNat = (x.toNat ||| 1 <<< b.toNat) := by omega
  have hl : (x.toNat ||| 1 <<< b.toNat) < 2 ^ 10 := by
    refine Nat.or_lt_two_pow (by omega) ?_
    rw [Nat.one_shiftLeft]
    exact Nat.pow_lt_pow_right (by decide) (by omega)
  refine ⟨by omega, fun d => ?_⟩
  unfold bB
  rw [ex, Nat.testBit_or, Nat.one_shiftLeft, Nat.testBit_two_pow, Bool.or_eq_true, decide_eq_true_iff]
  constructor
  · rintro (h | h)
    · exact Or.inl h
    · exact Or.inr h.symm
  · rintro (h | h)
    · exact Or.inl h
    · exact Or.inr h.symm
theorem bB.one {a x : Int} (ha : 0 ≤ a ∧ a ≤ 9) (q : bShl 1 a = x) : (0 ≤ x ∧ x < 1024) ∧ ∀ d : Nat, bB x d ↔ d = a.toNat := by
  have h := cb_3 ⟨a.toNat, by omega⟩
  have e2 : ((a.toNat : Nat) : Int) = a := by omega
  simp only [e2, q] at h
  have ex : x.toNat = 1 <<< a.toNat := by rw [h, Int.toNat_natCast]
  have hl : 1 <<< a.toNat < 2 ^ 10 := by
    rw [Nat.one_shiftLeft]
    exact Nat.pow_lt_pow_right (by decide) (by omega)
  refine ⟨by omega, fun d => ?_⟩
  unfold bB
  rw [ex, Nat.one_shiftLeft, Nat.testBit_two_pow, decide_eq_true_iff]
  exact ⟨fun h => h.symm, fun h => h.symm⟩
theorem bB.ext {x y : Int} (hx : 0 ≤ x) (hy : 0 ≤ y) (h : ∀ d, bB x d ↔ bB y d) : x = y := by
  have : x.toNat = y.toNat := Nat.eq_of_testBit_eq fun d => by
    have := h d
    unfold bB at this
    cases h1 : x.toNat.testBit d <;> cases h2 : y.toNat.testBit d <;> rw [h1, h2] at this
    · exact absurd (this.mpr rfl) (by decide)
    · exact absurd (this.mp rfl) (by decide)
  omega
theorem bB.lt {x : Int} (hx : 0 ≤ x ∧ x < 1024) {d : Nat} (h : bB x d) : d < 10 := by
  apply Classical.byContradiction
  intro n
  unfold bB at h
  rw [Nat.testBit_lt_two_pow (Nat.lt_of_lt_of_le (show x.toNat < 2 ^ 10 by omega) (Nat.pow_le_pow_right (by decide) (by omega)))] at h
  cases h
/-- how many below k -/
noncomputable def cnP (P : Nat → Prop) : Nat → Int
  | 0 => 0
  | k + 1 => cnP P k + @ite Int (P k) (Classical.propDecidable _) 1 0
theorem cnP.yes {P : Nat → Prop} {k : Nat} (h : P k) : cnP P (k + 1) = cnP P k + 1 := by
  show _ + @ite Int (P k) (Classical.propDecidable _) 1 0 = _
  rw [if_pos h]
theorem cnP.no {P : Nat → Prop} {k : Nat} (h : ¬ P k) : cnP P (k + 1) = cnP P k := by
  show _ + @ite Int (P k) (Classical.propDecidable _) 1 0 = _
  rw [if_neg h, Int.add_zero]
theorem cnP.cg {P Q : Nat → Prop} : ∀ (k : Nat), (∀ d, d < k → (P d ↔ Q d)) → cnP P k = cnP Q k
  | 0, _ => rfl
  | k + 1, h => by
    have ih := cnP.cg k fun d hd => h d (by omega)
    by_cases c : P k
    · rw [cnP.yes c, cnP.yes ((h k (by omega)).mp c), ih]
    · rw [cnP.no c, cnP.no fun q => c ((h k (by omega)).mpr q), ih]
theorem cnP.le {P Q : Nat → Prop} : ∀ (k : Nat), (∀ d, P d → Q d) → cnP P k ≤ cnP Q k
  | 0, _ => Int.le_refl 0
  | k + 1, h => by
    have ih := cnP.le k h
    by_cases c : P k
    · rw [cnP.yes c, cnP.yes (h k c)]; omega
    · by_cases c2 : Q k
      · rw [cnP.no c, cnP.yes c2]; omega
      · rw [cnP.no c, cnP.no c2]; exact ih
theorem cnP.lt {P Q : Nat → Prop} : ∀ (k : Nat), (∀ d, P d → Q d) → (∃ d, d < k ∧ Q d ∧ ¬ P d) → cnP P k + 1 ≤ cnP Q k
  | 0, _, h => by obtain ⟨d, h, _⟩ := h; omega
  | k + 1, h, e => by
    obtain ⟨d, h1, h2, h3⟩ := e
    by_cases c : d = k
    · subst c
      have := cnP.le d h
      rw [cnP.no h3, cnP.yes h2]; omega
    · have ih := cnP.lt k h ⟨d, by omega, h2, h3⟩
      by_cases c : P k
      · rw [cnP.yes c, cnP.yes (h k c)]; omega
      · by_cases c2 : Q k
        · rw [cnP.no c, cnP.yes c2]; omega
        · rw [cnP.no c, cnP.no c2]; exact ih
theorem cnP.most {P : Nat → Prop} {m : Nat} (h : ∀ d, P d → d < m) : ∀ (k : Nat), cnP P k ≤ m ∧ cnP P k ≤ k
  | 0 => ⟨by show (0 : Int) ≤ m; omega, Int.le_refl 0⟩
  | k + 1 => by
    have ih := cnP.most h k
    by_cases c : P k
    · have := h k c
      rw [cnP.yes c]
      omega
    · rw [cnP.no c]; omega
theorem cnP.far {P : Nat → Prop} {m : Nat} (h : ∀ d, P d → d < m) : ∀ (k : Nat), m ≤ k → cnP P k = cnP P m
  | k, hk => by
    by_cases c : k = m
    · rw [c]
    · obtain ⟨j, rfl⟩ : ∃ j, k = j + 1 := ⟨k - 1, by omega⟩
      rw [cnP.no fun q => absurd (h j q) (by omega), cnP.far h j (by omega)]
/-- closed; reached -/
def clo (f g kd : Nat → Int) (n : Int) (S : Nat → Prop) : Prop := ∀ t : Nat, (t : Int) < n → kd t = 0 → S (f t).toNat → S (g t).toNat
def rch (f g kd : Nat → Int) (n : Int) (top x : Nat) : Prop := ∀ S : Nat → Prop, S top → clo f g kd n S → S x
theorem rch.cg {f g kd f' g' kd' : Nat → Int} {n : Int} {top x : Nat} (e : ∀ i : Nat, (i : Int) < n → f' i = f i ∧ g' i = g i ∧ kd' i = kd i) : rch f' g' kd' n top x ↔ rch f g kd n top x := by
  have : ∀ S, clo f' g' kd' n S ↔ clo f g kd n S := fun S => by
    constructor
    · intro h t ht hk hs
      obtain ⟨e1, e2, e3⟩ := e t ht
      rw [← e2]; exact h t ht (by rw [e3]; exact hk) (by rw [e1]; exact hs)
    · intro h t ht hk hs
      obtain ⟨e1, e2, e3⟩ := e t ht
      rw [e2]; exact h t ht (by rw [← e3]; exact hk) (by rw [← e1]; exact hs)
  exact ⟨fun h S a b => h S a ((this S).mpr b), fun h S a b => h S a ((this S).mp b)⟩
theorem rch.lt {f g kd : Nat → Int} {n : Int} {top x m : Nat} (ht : top < m) (h : ∀ t : Nat, (t : Int) < n → (g t).toNat < m) (hx : rch f g kd n top x) : x < m := hx (fun y => y < m) ht fun t q _ _ => h t q
section CONE
variable {f g kd : Nat → Int} {n p : Int}
def coneI (f g kd : Nat → Int) (n p r x : Int) : Prop := (0 ≤ x ∧ x < 1024) ∧ bB x p.toNat ∧ (∀ d, bB x d → rch f g kd n p.toNat d) ∧ (clo f g kd n (bB x) ∨ r + 1 ≤ cnP (bB x) 10)
def coneJ (f g kd : Nat → Int) (n p x0 t x : Int) : Prop := ((0 ≤ x ∧ x < 1024) ∧ (0 ≤ x0 ∧ x0 < 1024)) ∧ bB x p.toNat ∧ (∀ d, bB x d → rch f g kd n p.toNat d) ∧ (∀ d, bB x0 d → bB x d) ∧ (∀ j : Nat, (j : Int) < t → kd j = 0 → bB x0 (f j).toNat → bB x (g j).toNat) ∧ (clo f g kd n (bB x0) → x = x0)
theorem coneI.start {x : Int} (hp : 0 ≤ p ∧ p ≤ 9) (q : bShl 1 p = x) : coneI f g kd n p 0 x := by
  obtain ⟨h1, h2⟩ := bB.one hp q
  refine ⟨h1, (h2 _).mpr rfl, fun d hd => ?_, Or.inr ?_⟩
  · rw [(h2 d).mp hd]; exact fun _ a _ => a
  · have := cnP.lt (P := fun _ => False) (Q := bB x) 10 (fun _ h => h.elim) ⟨p.toNat, by omega, (h2 _).mpr rfl, id⟩
    have h0 : cnP (fun _ => False) 10 = 0 := by
      have := cnP.most (P := fun _ => False) (m := 0) (fun _ h => h.elim) 10
      have h3 := cnP.far (P := fun _ => False) (m := 0) (fun _ h => h.elim) 10 (by decide)
      rw [h3]; rfl
    omega
theorem coneJ.start {r x : Int} (h : coneI f g kd n p r x) : coneJ f g kd n p x 0 x := ⟨⟨h.1, h.1⟩, h.2.1, h.2.2.1, fun _ q => q, fun j hj => by omega, fun _ => rfl⟩
theorem coneJ.skip1 {x0 t x kk : Int} (h : coneJ f g kd n p x0 t x) (h0 : 0 ≤ t) (qk : kd t.toNat = kk) (hk : ¬ kk = 0) : coneJ f g kd n p x0 (t + 1) x := by
  obtain ⟨a, b, c, d, e, i⟩ := h
  refine ⟨a, b, c, d, fun j hj hk' hs => ?_, i⟩
  by_cases q : (j : Int) = t
  · rw [show j = t.toNat by omega, qk] at hk'; exact absurd hk' hk
  · exact e j (by omega) hk' hs
theorem coneJ.skip2 {x0 t x a u v : Int} (h : coneJ f g kd n p x0 t x) (h0 : 0 ≤ t) (qa : f t.toNat = a) (ra : 0 ≤ a ∧ a ≤ 9) (q1 : bShr x a = u) (q2 : bAnd u 1 = v) (hv : v = 0) : coneJ f g kd n p x0 (t + 1) x := by
  obtain ⟨a', b, c, d, e, i⟩ := h
  refine ⟨a', b, c, d, fun j hj hk' hs => ?_, i⟩
  by_cases q : (j : Int) = t
  · rw [show j = t.toNat by omega, qa] at hs
    rcases bB.get a'.1 ra q1 q2 with ⟨z1, z2⟩ | ⟨z1, z2⟩
    · omega
    · exact absurd (d _ hs) z1
  · exact e j (by omega) hk' hs
theorem coneJ.add {x0 t x a u v b y x' kk : Int} (h : coneJ f g kd n p x0 t x) (h0 : 0 ≤ t ∧ t < n) (qk : kd t.toNat = kk) (hk : kk = 0) (qa : f t.toNat = a) (ra : 0 ≤ a ∧ a ≤ 9) (q1 : bShr x a = u) (q2 : bAnd u 1 = v) (hv : ¬ v = 0) (qb : g t.toNat = b) (rb : 0 ≤ b ∧ b ≤ 9) (q3 : bShl 1 b = y) (q4 : bOr x y = x') : coneJ f g kd n p x0 (t + 1) x' := by
  obtain ⟨a', b', c, d, e, i⟩ := h
  obtain ⟨h1, h2⟩ := bB.put a'.1 rb q3 q4
  have ha : bB x a.toNat := by
    rcases bB.get a'.1 ra q1 q2 with ⟨z1, _⟩ | ⟨_, z2⟩
    · exact z1
    · exact absurd z2 hv
  have kt : kd t.toNat = 0 := by rw [qk, hk]
  refine ⟨⟨h1, a'.2⟩, (h2 _).mpr (Or.inl b'), fun z hz => ?_, fun z hz => (h2 z).mpr (Or.inl (d z hz)), fun j hj hk' hs => ?_, fun cl => ?_⟩
  · rcases (h2 z).mp hz with q | q
    · exact c z q
    · rw [q, ← qb]
      exact fun S s1 s2 => s2 t.toNat (by omega) kt (by rw [qa]; exact c _ ha S s1 s2)
  · by_cases q : (j : Int) = t
    · rw [show j = t.toNat by omega, qb]; exact (h2 _).mpr (Or.inr rfl)
    · exact (h2 _).mpr (Or.inl (e j (by omega) hk' hs))
  · have ex := i cl
    have hb : bB x b.toNat := by
      rw [← qb]
      have := cl t.toNat (by omega) kt (by rw [qa, ← ex]; exact ha)
      rw [ex]; exact this
    rw [← ex]
    refine bB.ext h1.1 a'.1.1 fun z => ?_
    rw [h2 z]
    constructor
    · rintro (q | q)
      · exact q
      · rw [q]; exact hb
    · exact Or.inl
theorem coneI.next {r x0 t x : Int} (h : coneI f g kd n p r x0) (j : coneJ f g kd n p x0 t x) (ht : n ≤ t) : coneI f g kd n p (r + 1) x := by
  obtain ⟨a, b, c, d, e, i⟩ := j
  refine ⟨a.1, b, c, ?_⟩
  by_cases q : x = x0
  · refine Or.inl fun s hs hk hx => ?_
    exact e s (by omega) hk (by rw [← q]; exact hx)
  · rcases h.2.2.2 with k | k
    · exact absurd (i k) q
    · have : ∃ z, z < 10 ∧ bB x z ∧ ¬ bB x0 z := by
        apply Classical.byContradiction
        intro ne
        refine q (bB.ext a.1.1 a.2.1 fun z => ⟨fun hz => ?_, d z⟩)
        apply Classical.byContradiction
        intro hn
        exact ne ⟨z, bB.lt a.1 hz, hz, hn⟩
      have := cnP.lt 10 d this
      exact Or.inr (by omega)
theorem coneI.end {r x m : Int} (h : coneI f g kd n p r x) (hr : m ≤ r) (hp : 0 ≤ p ∧ p < m) (hg : ∀ t : Nat, (t : Int) < n → 0 ≤ g t ∧ g t < m) : (0 ≤ x ∧ x < 1024) ∧ ∀ d, bB x d ↔ rch f g kd n p.toNat d := by
  obtain ⟨a, b, c, d⟩ := h
  refine ⟨a, fun z => ⟨c z, fun hz => ?_⟩⟩
  have lt : ∀ z, bB x z → z < m.toNat := fun z hz => rch.lt (by omega) (fun t ht => by have := hg t ht; omega) (c z hz)
  rcases d with d | d
  · exact hz (bB x) b d
  · have := (cnP.most lt 10).1
    omega
end CONE
/-- the answer of cone -/
def conA (P : Nat → Prop) (dm p2 z : Int) : Prop := (p2 = -1 → z = cnP P dm.toNat) ∧ (0 ≤ p2 → (P p2.toNat ∧ z = 1) ∨ (¬ P p2.toNat ∧ z = 0))
theorem conA.eq {P Q : Nat → Prop} {dm p2 z z' : Int} (h : conA P dm p2 z) (k : conA Q dm p2 z') (e : ∀ d, P d ↔ Q d) (hp : p2 = -1 ∨ 0 ≤ p2) : z = z' := by
  rcases hp with hp | hp
  · rw [h.1 hp, k.1 hp]; exact cnP.cg _ fun d _ => e d
  · rcases h.2 hp with ⟨a, b⟩ | ⟨a, b⟩ <;> rcases k.2 hp with ⟨c, d⟩ | ⟨c, d⟩
    · omega
    · exact absurd ((e _).mp a) c
    · exact absurd ((e _).mpr c) a
    · omega
end
