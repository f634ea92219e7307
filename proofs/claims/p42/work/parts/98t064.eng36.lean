section
/-! A policy is used. -/
def useO (E : En) (n t s o v : Int) : Prop := (0 ≤ t ∧ t < (eT E : Int)) ∧ (0 ≤ s ∧ s ≤ 1) ∧ (0 ≤ o ∧ o ≤ 1) ∧ plO n v
def useE (E : En) (t s o : Nat) (v : Int) : En := pl! E (4 * t + (2 * s + o)) v
noncomputable def useS (E : En) (S : Sn) (t s o : Nat) : Sn := if o = 0 then lookA E S (eN E t s) else sayA E S t s
section Use
variable {w : mW} {μ : mM} {E : En} {S : Sn} {G : mM → Prop}
theorem X11_use_s {t s o v n : Int} {Q : Int → mM → Prop} (hw : mWF w) (hT : mT w μ) (ev : envC w μ E) (st : snC μ E S) (sn : snG E S) (en : enG E) (hn : μ 21 8 = n) (k0 : ¬ useO E n t s o v → Q (-1) μ)
    (k1 : useO E n t s o v → ∀ m : mM, envC w m (useE E t.toNat s.toNat o.toNat v) → snC m (useE E t.toNat s.toNat o.toNat v) (useS (useE E t.toNat s.toNat o.toNat v) S t.toNat s.toNat o.toNat) → loC μ m → Q 0 m) : WP_X11_use_W w μ t s o v Q := by
  intro _ _ _
  refine X11_isTie_s ev fun z hz rz => ⟨fun c => k0 fun q => by have := hz.mpr q.1; omega, fun c => X11_isEither_s fun y hy ry => ⟨fun c2 => k0 fun q => by have := hy.mpr q.2.1; omega, fun c2 => X11_isEither_s fun x hx rx => ⟨fun c3 => ?_, fun c3 => k0 fun q => by have := hx.mpr q.2.2.1; omega⟩⟩⟩
  have ht := hz.mp (by omega)
  have hs := hy.mp (by omega)
  have ho := hx.mp (by omega)
  obtain ⟨t', rfl⟩ : ∃ t' : Nat, t = (t' : Int) := ⟨t.toNat, by omega⟩
  obtain ⟨s', rfl⟩ : ∃ s' : Nat, s = (s' : Int) := ⟨s.toNat, by omega⟩
  obtain ⟨o', rfl⟩ : ∃ o' : Nat, o = (o' : Int) := ⟨o.toNat, by omega⟩
  simp only [Int.toNat_natCast] at k1
  have t2 : t' < eT E := by omega
  have rowE : ((s' : Int) * 2 + (o' : Int)).toNat = 2 * s' + o' := by omega
  have en2 : enG (useE E t' s' o' v) := en
  have go : plO n v → ∀ (b : Nat), μ 11 t' = (b : Int) → ∀ m2 : mM, mU μ (b + 1) (2 * s' + o') v m2 → mT w m2 → b = tbA μ t' ∧ envC w m2 (useE E t' s' o' v) ∧ snC m2 (useE E t' s' o' v) S ∧ loC μ m2 := fun hv b eb m2 u T => by
    obtain ⟨t1, big, _⟩ := ev.2.2.2.1.1 t' t2
    have eb' : b = tbA μ t' := by omega
    subst eb'
    obtain rfl := u.is
    refine ⟨rfl, ev.use hw hT t2 (by omega) (by rw [hn]; exact hv), snC.cg (E := E) st (fun i => mUp.no (by omega)) (fun i => mUp.no (by omega)) (fun t b i ht h1 h2 => mUp.no (by
      by_cases c : t = t'
      · subst c; omega
      · have := ev.2.2.2.1.2.2.1 t t' ht t2 c
        omega)) (fun e b i he h1 => mUp.no (by have := ev.2.2.2.1.2.2.2.2.1 t' e t2 he; omega)) (fun i _ _ => mUp.no (by omega)) (fun i => mUp.no (by omega)) (fun i => mUp.no (by omega)) (fun b i _ _ => mUp.no (by omega)), fun b i h0 _ _ _ _ _ _ => mUp.no (by omega)⟩
  have fin : ∀ (hv : plO n v) (b : Nat) (m2 : mM), b = tbA μ t' ∧ envC w m2 (useE E t' s' o' v) ∧ snC m2 (useE E t' s' o' v) S ∧ loC μ m2 → mT w m2 → tbA m2 t' = tbA μ t' → ((¬ (o' : Int) = 0) → WP_X8_sayAll_W w m2 (t' : Int) (s' : Int) (fun m => mT w m → mF [21002, 21003, 21004, 21005, 21006, 21007, 32010, 33999, 34999, 200002, 200003, 200004, 200005, 200006, 200007, 200008, 200009, 201999, 202999] w m2 m → Q 0 m)) ∧ (((o' : Int) = 0) → WP_X9_end_W w m2 b (s' : Int) (fun z _ => (0 ≤ z ∧ z ≤ 9) → WP_X8_lookAtAll_W w m2 z (fun m => mT w m → mF [21002, 21003, 21004, 21005, 21006, 21007, 32009, 32010, 33999, 34999, 66999, 200002, 200003, 200004, 200005, 200006, 200007, 200008, 200009, 200010, 200011, 201999, 202999, 213999] w m2 m → Q 0 m))) := by
    rintro hv b m2 ⟨eb, e2, st2, lo⟩ T tb
    have ok : useO E n (t' : Int) (s' : Int) (o' : Int) v := ⟨ht, hs, ho, hv⟩
    refine ⟨fun q => X8_sayAll_s hw T e2 st2 sn en2 t2 (by omega) fun m s l T3 F3 => k1 ok m (envC.fr hw T e2 (mF.refl.call F3 rfl)) ?_ (lo.trans l), fun q => ?_⟩
    · unfold useS
      rw [if_neg (by omega)]
      exact s
    · obtain ⟨a1, a2, _⟩ := e2.2.2.2.2.1 t' t2
      subst eb
      rw [tb] at a1 a2
      refine X9_end_s ?_
      rw [a1, a2]
      have ep : (if (s' : Int) = 0 then eA (useE E t' s' o' v) t' else eB (useE E t' s' o' v) t') = eN (useE E t' s' o' v) t' s' := by
        unfold eN
        by_cases c : s' = 0
        · rw [if_pos c, if_pos (by omega)]
        · rw [if_neg c, if_neg (by omega)]
      rw [ep]
      obtain ⟨d, ed, hd⟩ := eN.dom (s := s') en2.1 t2
      rw [ed]
      intro _
      refine X8_lookAtAll_s hw T e2 st2 sn en2 hd fun m s l T3 F3 => k1 ok m (envC.fr hw T e2 (mF.refl.call F3 rfl)) ?_ (lo.trans l)
      unfold useS
      rw [if_pos (by omega), ed]
      exact s
  refine ⟨fun q b eb hb m2 u2 T2 => ?_, fun q => ⟨fun q2 => k0 fun h => ?_, fun q2 c8 e8 r8 => ⟨fun q3 b eb hb m2 u2 T2 => ?_, fun q3 => k0 fun h => ?_⟩⟩⟩
  · rw [rowE] at u2
    rw [Int.toNat_natCast] at eb
    have g := go (Or.inl q) b eb m2 u2 T2
    refine fin (Or.inl q) b m2 g T2 ?_
    obtain rfl := u2.is
    exact congrArg Int.toNat (mUp.no (by have := (ev.2.2.2.1.1 t' t2).2.1; omega))
  · rcases h.2.2.2 with g | g
    · exact q g
    · omega
  · rw [rowE] at u2
    rw [Int.toNat_natCast] at eb
    have hv : plO n v := Or.inr ⟨q2, by omega⟩
    have g := go hv b eb m2 u2 T2
    refine fin hv b m2 g T2 ?_
    obtain rfl := u2.is
    exact congrArg Int.toNat (mUp.no (by have := (ev.2.2.2.1.1 t' t2).2.1; omega))
  · rcases h.2.2.2 with g | g
    · exact q g
    · omega
theorem X12_use_s {t s o v n : Int} {Q : Int → mM → Prop} (hw : mWF w) (hT : mT w μ) (ev : envR w μ E G) (hG : G μ) (gG : gSt G) (st : snR μ E S) (sn : snG E S) (en : enG E) (hM : 0 ≤ sMd S ∧ sMd S + 200 < 2147483647) (hn : μ 106 39 = n) (k0 : ¬ useO E n t s o v → Q (-1) μ)
    (k1 : useO E n t s o v → ∀ m : mM, envR w m (useE E t.toNat s.toNat o.toNat v) G → snR m (useE E t.toNat s.toNat o.toNat v) (useS (useE E t.toNat s.toNat o.toNat v) S t.toNat s.toNat o.toNat) → G m → loR μ m → Q 0 m) : WP_X12_use_W w μ t s o v Q := by
  intro _ _ _
  refine X12_isTie_s ev fun z hz rz => ⟨fun c => k0 fun q => by have := hz.mpr q.1; omega, fun c => X12_in_s fun y hy ry => ⟨fun c2 => k0 fun q => by have := hy.mpr q.2.1; omega, fun c2 => X12_in_s fun x hx rx => ⟨fun c3 => k0 fun q => by have := hx.mpr q.2.2.1; omega, fun c3 => ?_⟩⟩⟩
  have ht := hz.mp (by omega)
  have hs := hy.mp (by omega)
  have ho := hx.mp (by omega)
  obtain ⟨t', rfl⟩ : ∃ t' : Nat, t = (t' : Int) := ⟨t.toNat, by omega⟩
  obtain ⟨s', rfl⟩ : ∃ s' : Nat, s = (s' : Int) := ⟨s.toNat, by omega⟩
  obtain ⟨o', rfl⟩ : ∃ o' : Nat, o = (o' : Int) := ⟨o.toNat, by omega⟩
  simp only [Int.toNat_natCast] at k1
  have t2 : t' < eT E := by omega
  have rowE : (4 * (t' : Int) + 2 * (s' : Int) + (o' : Int)).toNat = 4 * t' + (2 * s' + o') := by omega
  have en2 : enG (useE E t' s' o' v) := en
  rw [rowE]
  have fin : ∀ (hv : plO n v) (m2 : mM), mU μ 115 (4 * t' + (2 * s' + o')) v m2 → mT w m2 → ∀ za : Int, m2 110 (2 * (t' : Int)).toNat = za → ∀ zb : Int, m2 110 (2 * (t' : Int) + 1).toNat = zb → (∀ (dd : Int), dd = eN E t' s' → ((¬ (o' : Int) = 0) → ∀ L : List Nat, (L.all fun x => lER.elem x) = true → WP_X12_sayAll_W w m2 dd (t' : Int) (fun m => mT w m → mF L w m2 m → Q 0 m)) ∧ (((o' : Int) = 0) → ∀ L : List Nat, (L.all fun x => lER.elem x) = true → WP_X12_lookAll_W w m2 dd (fun m => mT w m → mF L w m2 m → Q 0 m))) ∧ za = eA E t' ∧ zb = eB E t' := by
    intro hv m2 u T za ea zb eb
    obtain rfl := u.is
    have e2 := ev.use (v := v) hw t2 (show 2 * s' + o' < 4 by omega) (by rw [hn]; exact hv)
    have st2 : snR (mUp μ 115 (4 * t' + (2 * s' + o')) v) (useE E t' s' o' v) S := snR.cg (E := E) st hw hT fun b i h => mUp.no (by omega)
    have g2 : G (mUp μ 115 (4 * t' + (2 * s' + o')) v) := gG μ _ hG fun b i q1 q2 q3 => mUp.no (by omega)
    have ok : useO E n (t' : Int) (s' : Int) (o' : Int) v := ⟨ht, hs, ho, hv⟩
    have lo : loR μ (mUp μ 115 (4 * t' + (2 * s' + o')) v) := fun i hi => mUp.no (by omega)
    obtain ⟨a1, a2, _⟩ := ev.2.2.2.1 t' t2
    refine ⟨fun dd hdd => ⟨fun q L hL => X12_sayAll_s hw e2 g2 gG st2 sn en2 t2 (by omega) hdd ⟨hM.1, by omega⟩ fun m s g l T3 F3 => k1 ok m (e2.fr hw (mF.refl.call F3 hL)) ?_ g (lo.trans l), fun q L hL => ?_⟩, ?_, ?_⟩
    · unfold useS
      rw [if_neg (by omega)]
      exact s
    · obtain ⟨d, ed, hd⟩ := eN.dom (s := s') en2.1 t2
      rw [hdd]
      have ed' : eN E t' s' = (d : Int) := ed
      rw [ed']
      refine X12_lookAll_s hw e2 g2 gG st2 sn en2 hd hM fun m s g l T3 F3 => k1 ok m (e2.fr hw (mF.refl.call F3 hL)) ?_ g (lo.trans l)
      unfold useS
      rw [if_pos (by omega), ed]
      exact s
    · rw [← ea, ← a1, show (2 * (t' : Int)).toNat = 2 * t' by omega]
      exact mUp.no (by omega)
    · rw [← eb, ← a2, show (2 * (t' : Int) + 1).toNat = 2 * t' + 1 by omega]
      exact mUp.no (by omega)
  have n0 : (s' : Int) = 0 → eA E t' = eN E t' s' := fun q => by unfold eN; rw [if_pos (by omega)]
  have n1 : ¬ (s' : Int) = 0 → eB E t' = eN E t' s' := fun q => by unfold eN; rw [if_neg (by omega)]
  refine ⟨fun q m2 u2 T2 c8 _ _ za ea _ zb eb _ => ?_, fun q c8 e8 r8 => X12_in_s fun y2 hy2 _ => ⟨fun q2 m2 u2 T2 za ea _ zb eb _ => ?_, fun q2 => k0 fun h => ?_⟩⟩
  · obtain ⟨g, ga, gb⟩ := fin (Or.inl q) m2 u2 T2 za ea zb eb
    exact ⟨fun c => ⟨fun c2 => (g za (by rw [ga]; exact n0 c)).1 c2 _ rfl, fun c2 => (g za (by rw [ga]; exact n0 c)).2 c2 _ rfl⟩, fun c => ⟨fun c2 => (g zb (by rw [gb]; exact n1 c)).1 c2 _ rfl, fun c2 => (g zb (by rw [gb]; exact n1 c)).2 c2 _ rfl⟩⟩
  · have hv : plO n v := Or.inr (by have := hy2.mp (by omega); omega)
    obtain ⟨g, ga, gb⟩ := fin hv m2 u2 T2 za ea zb eb
    exact ⟨fun c => ⟨fun c2 => (g za (by rw [ga]; exact n0 c)).1 c2 _ rfl, fun c2 => (g za (by rw [ga]; exact n0 c)).2 c2 _ rfl⟩, fun c => ⟨fun c2 => (g zb (by rw [gb]; exact n1 c)).1 c2 _ rfl, fun c2 => (g zb (by rw [gb]; exact n1 c)).2 c2 _ rfl⟩⟩
  · rcases h.2.2.2 with g | g
    · exact q g
    · have := hy2.mpr (by omega)
      omega
end Use
end
section
/-! A tie comes up, or falls: the class. -/
/-- nothing is heard, said, or under way over a tie -/
def silE (S : Sn) (t : Nat) : Sn := (sPk S, fun k => if k / 20 = t then (none, -1) else sSd S k, (sQu S).filter (fun e => decide (¬ e.2 / 40 = t)), fun k => if k / 20 = t then none else sHd S k, sHw S, sCk S, sDn S, sMd S)
theorem silE.sn {E : En} {S : Sn} {t : Nat} (h : snG E S) : snG (up! E t 0) (silE S t) := by
  obtain ⟨s1, s2, s3, s4, s5, s6, s7, s8, s9, s0⟩ := h
  refine ⟨s1, fun k => ?_, fun k => ?_, s4.filter _, s5.sublist (List.filter_sublist.map _), fun e he => ?_, s7, s8, fun k => ?_, fun k hk => ?_⟩
  · show rtO (k % 10) (if k / 20 = t then ((none : Option Rt), (-1 : Int)) else sSd S k).1
    by_cases c : k / 20 = t
    · rw [if_pos c]; exact rtO.none'
    · rw [if_neg c]; exact s2 k
  · show rtO (k % 10) (if k / 20 = t then none else sHd S k)
    by_cases c : k / 20 = t
    · rw [if_pos c]; exact rtO.none'
    · rw [if_neg c]; exact s3 k
  · obtain ⟨h1, h2⟩ := List.mem_filter.mp he
    have hne := of_decide_eq_true h2
    obtain ⟨a1, a2, a3⟩ := s6 e h1
    refine ⟨a1, a2, ?_⟩
    show ¬ (if e.2 / 40 = t then 0 else eU E (e.2 / 40)) = 0
    rw [if_neg hne]
    exact a3
  · show -1 ≤ (if k / 20 = t then ((none : Option Rt), (-1 : Int)) else sSd S k).2 ∧ ((if k / 20 = t then ((none : Option Rt), (-1 : Int)) else sSd S k).2 = -1 → (if k / 20 = t then ((none : Option Rt), (-1 : Int)) else sSd S k).1 = none)
    by_cases c : k / 20 = t
    · rw [if_pos c]; exact ⟨Int.le_refl _, fun _ => rfl⟩
    · rw [if_neg c]; exact s9 k
  · obtain ⟨b1, b2, b3⟩ := s0 k hk
    refine ⟨b1, ?_, ?_⟩
    · show (if k / 20 = t then ((none : Option Rt), (-1 : Int)) else sSd S k).1 = none
      by_cases c : k / 20 = t
      · rw [if_pos c]
      · rw [if_neg c]; exact b2
    · show (if k / 20 = t then none else sHd S k) = none
      by_cases c : k / 20 = t
      · rw [if_pos c]
      · rw [if_neg c]; exact b3
theorem enG.up {E : En} {t : Nat} {v : Int} (h : enG E) : enG (up! E t v) := h
/-- a tie that is up: the state is still in order -/
theorem snG.up {E : En} {S : Sn} {t : Nat} {v : Int} (h : snG E S) (hv : ¬ v = 0) : snG (up! E t v) S := by
  obtain ⟨s1, s2, s3, s4, s5, s6, s7, s8, s9, s0⟩ := h
  refine ⟨s1, s2, s3, s4, s5, fun e he => ?_, s7, s8, s9, s0⟩
  obtain ⟨a1, a2, a3⟩ := s6 e he
  refine ⟨a1, a2, ?_⟩
  show ¬ (if e.2 / 40 = t then v else eU E (e.2 / 40)) = 0
  by_cases c : e.2 / 40 = t
  · rw [if_pos c]; exact hv
  · rw [if_neg c]; exact a3
section Up
variable {w : mW} {μ : mM} {E : En} {S : Sn} {G : mM → Prop}
theorem envC.up {t : Nat} {v : Int} (hw : mWF w) (hT : mT w μ) (ev : envC w μ E) (ht : t < eT E) : envC w (mUp μ (tbA μ t) 6 v) (up! E t v) := by
  have hA : mAt w (tbA μ t) 220 := tieAt hw hT ev ht
  obtain ⟨h1, h2, h3, ⟨l1, l2, l3, l4, l5, l6⟩, h5, h6, h7⟩ := ev
  have big := (l1 t ht).2.1
  have f : ∀ b j, ¬ (b = tbA μ t ∧ j = 6) → mUp μ (tbA μ t) 6 v b j = μ b j := fun b j q => mUp.no q
  have tb : ∀ s, tbA (mUp μ (tbA μ t) 6 v) s = tbA μ s := fun s => congrArg Int.toNat (f 11 s (by omega))
  have db : ∀ s, dbA (mUp μ (tbA μ t) 6 v) s = dbA μ s := fun s => congrArg Int.toNat (f 10 s (by omega))
  have ft : ∀ s b j, s < eT E → (b = tbA μ s + 1 ∨ b = tbA μ s + 2 ∨ b = tbA μ s + 3) → mUp μ (tbA μ t) 6 v b j = μ b j := fun s b j hs q => by
    by_cases c : s = t
    · subst c; exact f _ _ (by omega)
    · have c1 := l3 s t hs ht c
      exact f _ _ (by omega)
  have fd : ∀ d b j, d < eD E → dbA μ d ≤ b → b < dbA μ d + 35 → mUp μ (tbA μ t) 6 v b j = μ b j := fun d b j hd q1 q2 => by
    have c1 := l5 t d ht hd
    exact f _ _ (by omega)
  refine ⟨by rw [f _ _ (by omega)]; exact h1, by rw [f _ _ (by omega)]; exact h2, by rw [f _ _ (by omega)]; exact h3, ⟨fun s hs => ?_, fun e he => ?_, fun s r hs hr hne => ?_, fun s r hs hr hne => ?_, fun s e hs he => ?_, fun j hj => by rw [f _ _ (by omega)]; exact l6 j hj⟩, fun s hs => ?_, fun e he => ?_, ?_⟩
  · rw [tb]
    obtain ⟨a1, a2, a3⟩ := l1 s hs
    exact ⟨by rw [f _ _ (by omega)]; exact a1, a2, fun k hk => ⟨by rw [ft s _ _ hs (by omega)]; exact (a3 k hk).1, by rw [ft s _ _ hs (by omega)]; exact (a3 k hk).2⟩⟩
  · rw [db]
    obtain ⟨a1, a2, a3⟩ := l2 e he
    exact ⟨by rw [f _ _ (by omega)]; exact a1, a2, fun k hk => by rw [fd e _ _ he (by omega) (by omega)]; exact a3 k hk⟩
  · rw [tb, tb]; exact l3 s r hs hr hne
  · rw [db, db]; exact l4 s r hs hr hne
  · rw [tb, db]; exact l5 s e hs he
  · rw [tb]
    obtain ⟨a1, a2, a3, a4, a5, a6⟩ := h5 s hs
    refine ⟨by rw [f _ _ (by omega)]; exact a1, by rw [f _ _ (by omega)]; exact a2, ?_, by rw [f _ _ (by omega)]; exact a4, by rw [f _ _ (by omega)]; exact a5, fun j hj => by rw [ft s _ _ hs (Or.inl rfl)]; exact a6 j hj⟩
    show mUp μ (tbA μ t) 6 v (tbA μ s) 6 = if s = t then v else eU E s
    by_cases c : s = t
    · rw [if_pos c, c, mUp.yes ⟨rfl, rfl⟩]
    · have c1 := l3 s t hs ht c
      rw [if_neg c, f _ _ (by omega)]
      exact a3
  · rw [db]
    obtain ⟨a1, a2, a3⟩ := h6 e he
    refine ⟨fun q hq => by rw [fd e _ _ he (by omega) (by omega)]; exact a1 q hq, ?_, by rw [fd e _ _ he (by omega) (by omega)]; exact a3⟩
    show _ = eSt E e
    rw [fd e _ _ he (by omega) (by omega), ← a2]
    exact rowL.ext fun j _ => fd e _ _ he (by omega) (by omega)
  · have n8 : mUp μ (tbA μ t) 6 v 21 8 = μ 21 8 := f _ _ (by omega)
    refine ⟨fun s j hs hj => by rw [n8]; exact h7.1 s j hs hj, ?_⟩
    intro m2 pl a s r x Q hT2 F2 hs hr hpl hx hsr hAa kk
    rw [tb]
    rw [n8] at hpl
    exact h7.2 m2 pl a s r x Q hT2 ((mF.refl.up hA mUp_ok rfl).call F2 rfl) hs hr hpl hx hsr hAa kk
theorem envR.up {t : Nat} {v : Int} (hw : mWF w) (ev : envR w μ E G) (ht : t < eT E) : envR w (mUp μ 112 t v) (up! E t v) G := by
  obtain ⟨h1, h2, h3, h4, h5, h6⟩ := ev
  have f : ∀ b j, ¬ b = 112 → mUp μ 112 t v b j = μ b j := fun b j q => mUp.no (by omega)
  refine ⟨by rw [f _ _ (by omega)]; exact h1, by rw [f _ _ (by omega)]; exact h2, by rw [f _ _ (by omega)]; exact h3, fun s hs => ?_, fun e he => ?_, ?_⟩
  · obtain ⟨a1, a2, a3, a4, a5, a6⟩ := h4 s hs
    refine ⟨by rw [f _ _ (by omega)]; exact a1, by rw [f _ _ (by omega)]; exact a2, ?_, by rw [f _ _ (by omega)]; exact a4, by rw [f _ _ (by omega)]; exact a5, fun j hj => by rw [f _ _ (by omega)]; exact a6 j hj⟩
    show mUp μ 112 t v 112 s = if s = t then v else eU E s
    by_cases c : s = t
    · rw [if_pos c, mUp.yes ⟨rfl, c⟩]
    · rw [if_neg c, mUp.no (by omega)]
      exact a3
  · obtain ⟨a1, ⟨n, a2⟩, a3⟩ := h5 e he
    refine ⟨fun q hq => by rw [f _ _ (by omega)]; exact a1 q hq, ⟨n, ?_⟩, by rw [f _ _ (by omega)]; exact a3⟩
    show _ = eSt E e ++ _
    rw [← a2]
    exact rowL.ext fun j _ => f _ _ (by omega)
  · have n39 : mUp μ 112 t v 106 39 = μ 106 39 := f _ _ (by omega)
    refine ⟨fun s j hs hj => by rw [n39]; exact h6.1 s j hs hj, ?_⟩
    intro m2 pl r s q x Q hT2 F2
    rw [n39]
    exact h6.2 m2 pl r s q x Q hT2 ((mF.refl.up (A_112 hw) mUp_ok rfl).call F2 rfl)
theorem X8_silence_s {t : Nat} {Q : mM → Prop} (hw : mWF w) (hT : mT w μ) (ev : envC w μ E) (st : snC μ E S) (sn : snG E S) (ti : tiG E) (ht : t < eT E)
    (k : ∀ m : mM, envC w m (up! E t 0) → snC m (up! E t 0) (silE S t) → loC μ m → Q m) : WP_X8_silence_W w μ (t : Int) Q := by
  have t20 := ti.2.2.1
  obtain ⟨l1, l2, l3, l4, l5, l6⟩ := ev.2.2.2.1
  obtain ⟨t1, big, t3⟩ := l1 t ht
  intro b1 eb1 hb1 m4 u4 T4
  rw [Int.toNat_natCast] at eb1
  have eb' : b1 = tbA μ t := by omega
  subst eb'
  obtain rfl := u4.is
  have ev4 := ev.up (v := 0) hw hT ht
  have f4 : ∀ b j, ¬ (b = tbA μ t ∧ j = 6) → mUp μ (tbA μ t) 6 0 b j = μ b j := fun b j q => mUp.no q
  refine loopF.im (fun z m => 0 ≤ z ∧ z ≤ 20 ∧ (∀ b i, ¬ (tbA μ t + 4 ≤ b ∧ b < tbA μ t + 124) → m b i = mUp μ (tbA μ t) 6 0 b i) ∧ ∀ j : Nat, (j : Int) < z → rtC m (tbA μ t + 4 + 6 * j) = none ∧ rtC m (tbA μ t + 7 + 6 * j) = none ∧ m (tbA μ t + 7 + 6 * j) 9 = -1) (fun z => (21 - z).toNat) ⟨by omega, by omega, fun _ _ _ => rfl, fun j hj => by omega⟩ (by omega) ?_
  rintro rc z m ⟨z0, z1, fr, h⟩ ih z' m' e hz T F
  cases e
  refine ⟨fun g => ?_, fun g b eb hb => ?_⟩
  · have ev5 := envC.fr hw T4 ev4 (mF.refl.call F rfl)
    have qm : evC m = sQu S := by
      have e : evC m = evC μ := by
        rw [evC.eq, evC.eq, fr 32 10 (by omega), f4 _ _ (by omega)]
        refine lst.ext fun i _ => ?_
        rw [fr 33 i (by omega), f4 _ _ (by omega), fr 34 _ (by omega), f4 _ _ (by omega)]
      rw [e]; exact st.2.2.1
    have fm : ∀ i, i < 800 → (¬ m 34 i = -1 ↔ ∃ x, (x, i) ∈ sQu S) := fun i hi => by rw [fr 34 i (by omega), f4 _ _ (by omega)]; exact st.2.2.2.1 i hi
    intro _ _
    have a0 : (((t : Int) * 2 + 0) * 10 + 0) * 2 + 0 = ((40 * t : Nat) : Int) := by omega
    have a1 : ((((t : Int) + 1) * 2 + 0) * 10 + 0) * 2 + 0 = ((40 * t + 40 : Nat) : Int) := by omega
    rw [a0, a1]
    refine loopF.im (fun x q => ((40 * t : Nat) : Int) ≤ x ∧ x ≤ ((40 * t + 40 : Nat) : Int) ∧ (∀ b i, ¬ b = 33 → ¬ b = 34 → ¬ (b = 32 ∧ i = 10) → q b i = m b i) ∧ evC q = (sQu S).filter (fun e => decide (¬ (40 * t ≤ e.2 ∧ (e.2 : Int) < x))) ∧ ∀ i, i < 800 → (¬ q 34 i = -1 ↔ ∃ y, (y, i) ∈ (sQu S).filter (fun e => decide (¬ (40 * t ≤ e.2 ∧ (e.2 : Int) < x))))) (fun x => (801 - x).toNat) ⟨by omega, by omega, fun _ _ _ _ _ => rfl, ?_, ?_⟩ (by omega) ?_
    · rw [qm]
      exact (List.filter_eq_self.mpr fun e _ => decide_eq_true (by omega)).symm
    · intro i hi
      rw [fm i hi]
      constructor
      · rintro ⟨y, hy⟩
        exact ⟨y, List.mem_filter.mpr ⟨hy, decide_eq_true (by show ¬ (40 * t ≤ i ∧ (i : Int) < ((40 * t : Nat) : Int)); omega)⟩⟩
      · rintro ⟨y, hy⟩
        exact ⟨y, (List.mem_filter.mp hy).1⟩
    rintro rc2 x q ⟨x0, x1, fq, eq_, ff⟩ ih2 x' q' e hx T2 F2
    cases e
    refine ⟨fun g2 => ?_, fun g2 => ?_⟩
    · have xe : x = ((40 * t + 40 : Nat) : Int) := by omega
      subst xe
      have fil : (sQu S).filter (fun e => decide (¬ (40 * t ≤ e.2 ∧ (e.2 : Int) < ((40 * t + 40 : Nat) : Int)))) = (sQu S).filter (fun e => decide (¬ e.2 / 40 = t)) := List.filter_congr fun e _ => decide_eq_decide.mpr (by omega)
      rw [fil] at eq_ ff
      have all : ∀ b i, ¬ b = 33 → ¬ b = 34 → ¬ (b = 32 ∧ i = 10) → ¬ (tbA μ t ≤ b ∧ b < tbA μ t + 124) → q b i = μ b i := fun b i q1 q2 q3 q4 => by rw [fq b i q1 q2 q3, fr b i (by omega), f4 b i (by omega)]
      refine k q (envC.fr hw T ev5 (mF.refl.call F2 rfl)) ?_ (fun b i h0 h1 h2 h3 h4 h5 h6 => all b i h3 h4 (by omega) (by omega))
      have tb : ∀ s, tbA q s = tbA μ s := fun s => congrArg Int.toNat (all 11 s (by omega) (by omega) (by omega) (by omega))
      have db : ∀ s, dbA q s = dbA μ s := fun s => congrArg Int.toNat (all 10 s (by omega) (by omega) (by omega) (by omega))
      refine ⟨fun s j hs hj => ?_, fun d p hd hp => ?_, eq_, ff, ?_, ?_, ?_⟩
      · show rtC q (tbA q s + 4 + 6 * j) = (if (20 * s + j) / 20 = t then none else sHd S (20 * s + j)) ∧ (¬ (if (20 * s + j) / 20 = t then none else sHd S (20 * s + j)) = none → q (tbA q s + 4 + 6 * j) 9 = sHw S (20 * s + j)) ∧ rtC q (tbA q s + 7 + 6 * j) = (if (20 * s + j) / 20 = t then ((none : Option Rt), (-1 : Int)) else sSd S (20 * s + j)).1 ∧ q (tbA q s + 7 + 6 * j) 9 = (if (20 * s + j) / 20 = t then ((none : Option Rt), (-1 : Int)) else sSd S (20 * s + j)).2
        rw [tb]
        have as := l1 s hs
        by_cases c : s = t
        · subst c
          rw [if_pos (by omega), if_pos (by omega)]
          obtain ⟨g1, g2, g3⟩ := h j (by omega)
          have same : ∀ a, 192 ≤ a → rtC q a = rtC m a := fun a ha => rtC.of (fun i => fq _ _ (by omega) (by omega) (by omega)) (fun i => fq _ _ (by omega) (by omega) (by omega)) (fun i => fq _ _ (by omega) (by omega) (by omega))
          exact ⟨by rw [same _ (by omega)]; exact g1, fun q0 => absurd rfl q0, by rw [same _ (by omega)]; exact g2, by rw [fq _ _ (by omega) (by omega) (by omega)]; exact g3⟩
        · have c1 := l3 s t hs ht c
          rw [if_neg (by omega), if_neg (by omega)]
          have same : ∀ a, tbA μ s ≤ a → a + 2 < tbA μ s + 124 → rtC q a = rtC μ a := fun a ha hb => rtC.of (fun i => all _ _ (by omega) (by omega) (by omega) (by omega)) (fun i => all _ _ (by omega) (by omega) (by omega) (by omega)) (fun i => all _ _ (by omega) (by omega) (by omega) (by omega))
          rw [same _ (by omega) (by omega), all (tbA μ s + 4 + 6 * j) 9 (by omega) (by omega) (by omega) (by omega), same _ (by omega) (by omega), all (tbA μ s + 7 + 6 * j) 9 (by omega) (by omega) (by omega) (by omega)]
          exact st.1 s j hs hj
      · have ad := l2 d hd
        have c := l5 t d ht hd
        show q (dbA q d + 3) p = _ ∧ rtC q (dbA q d + 5 + 3 * p) = _
        rw [db, all _ _ (by omega) (by omega) (by omega) (by omega), rtC.of (μ := μ) (fun i => all _ _ (by omega) (by omega) (by omega) (by omega)) (fun i => all _ _ (by omega) (by omega) (by omega) (by omega)) (fun i => all _ _ (by omega) (by omega) (by omega) (by omega))]
        exact st.2.1 d p hd hp
      · rw [all 32 11 (by omega) (by omega) (by omega) (by omega)]; exact st.2.2.2.2.1
      · rw [all 32 12 (by omega) (by omega) (by omega) (by omega)]; exact st.2.2.2.2.2.1
      · rw [rtC.of (μ := μ) (fun i => all _ _ (by omega) (by omega) (by omega) (by omega)) (fun i => all _ _ (by omega) (by omega) (by omega) (by omega)) (fun i => all _ _ (by omega) (by omega) (by omega) (by omega))]
        exact st.2.2.2.2.2.2
    · obtain ⟨y, rfl⟩ : ∃ y : Nat, x = (y : Int) := ⟨x.toNat, by omega⟩
      refine X8_canc_s hw T2 eq_ (sn.2.2.2.2.1.sublist (List.filter_sublist.map _)) ff (by omega) fun m2 q2 f2 o2 T3 F3 => ih2 _ _ ⟨by omega, by omega, fun b i h1 h2 h3 => ?_, ?_, ?_⟩ (by omega)
      · rw [o2 b i h1 (by omega) h3]
        exact fq b i h1 h2 h3
      · rw [q2]
        unfold remQ
        rw [List.filter_filter]
        exact List.filter_congr fun e _ => by
          rw [← Bool.decide_and]
          exact decide_eq_decide.mpr (by omega)
      · intro i hi
        rw [f2 i hi]
        unfold remQ
        rw [List.filter_filter]
        have e : (sQu S).filter (fun a => decide (¬ a.2 = y) && decide (¬ (40 * t ≤ a.2 ∧ (a.2 : Int) < (y : Int)))) = (sQu S).filter (fun e => decide (¬ (40 * t ≤ e.2 ∧ (e.2 : Int) < (y : Int) + 1))) := List.filter_congr fun e _ => by
          rw [← Bool.decide_and]
          exact decide_eq_decide.mpr (by omega)
        rw [e]
  · have zn : z.toNat < 20 := by omega
    have eb' : b = tbA μ t + 4 + 6 * z.toNat := by
      rw [fr _ _ (by omega), f4 _ _ (by omega), (t3 z.toNat zn).1] at eb
      omega
    subst eb'
    refine X7_vanish_s fun m2 r2 n2 o2 T2 F2 c ec hc => ?_
    have ec' : c = tbA μ t + 7 + 6 * z.toNat := by
      rw [o2 _ _ (by omega), fr _ _ (by omega), f4 _ _ (by omega), (t3 z.toNat zn).2] at ec
      omega
    subst ec'
    refine X7_vanish_s fun m3 r3 n3 o3 T3 F3 => ih _ _ ⟨by omega, by omega, fun b i q => ?_, fun j hj => ?_⟩ (by omega)
    · rw [o3 b i (by omega), o2 b i (by omega)]
      exact fr b i q
    · have sa : ∀ a, (∀ d, d ≤ 2 → ¬ a + d = tbA μ t + 4 + 6 * z.toNat ∧ ¬ a + d = tbA μ t + 7 + 6 * z.toNat) → rtC m3 a = rtC m a := fun a ha => rtC.of (fun i => by have := ha 0 (by omega); rw [o3 _ _ (by omega), o2 _ _ (by omega)]) (fun i => by have := ha 1 (by omega); rw [o3 _ _ (by omega), o2 _ _ (by omega)]) (fun i => by have := ha 2 (by omega); rw [o3 _ _ (by omega), o2 _ _ (by omega)])
      by_cases c : (j : Int) = z
      · have ej : j = z.toNat := by omega
        subst ej
        refine ⟨?_, r3, n3⟩
        rw [rtC.of (μ := m2) (fun i => o3 _ _ (by omega)) (fun i => o3 _ _ (by omega)) (fun i => o3 _ _ (by omega))]
        exact r2
      · obtain ⟨g1, g2, g3⟩ := h j (by omega)
        exact ⟨by rw [sa _ (fun d hd => by omega)]; exact g1, by rw [sa _ (fun d hd => by omega)]; exact g2, by rw [o3 _ _ (by omega), o2 _ _ (by omega)]; exact g3⟩
end Up
end
section
/-! A tie comes up, or falls: raise. -/
section Rai
variable {w : mW} {μ : mM} {E : En} {S : Sn} {G : mM → Prop}
theorem snR.sil {m : mM} {t : Nat} (h : snR μ E S) (hw : mWF w) (hT : mT w μ) (h20 : eT E ≤ 20) (hD : eD E ≤ 10) (ht : t < eT E)
    (f : ∀ (b i : Nat), ¬ (b = 126 ∧ ((40 * (130 + 20 * t) ≤ i ∧ i < 40 * (150 + 20 * t)) ∨ (40 * (530 + 20 * t) ≤ i ∧ i < 40 * (550 + 20 * t)))) → ¬ ((b = 155 ∨ b = 157 ∨ b = 159) ∧ i / 20 = t) → ¬ b = 112 → m b i = μ b i)
    (hs : ∀ s : Nat, s / 20 = t → rtR m (130 + (s : Int)) = none ∧ rtR m (530 + (s : Int)) = none ∧ m 155 s = 0 ∧ m 157 s = -1 ∧ m 159 s = -1) : snR m (up! E t 0) (silE S t) := by
  obtain ⟨h1, h2, h3, h4, h5, h6⟩ := h
  have rt : ∀ r : Int, 0 ≤ r → ¬ (130 + 20 * (t : Int) ≤ r ∧ r < 150 + 20 * (t : Int)) → ¬ (530 + 20 * (t : Int) ≤ r ∧ r < 550 + 20 * (t : Int)) → rtR m r = rtR μ r := fun r hr q1 q2 => rtR.cg (hT.rb hw hr).1.2 (hT.rb hw hr).2.2 fun k hk => f _ _ (by omega) (by omega) (by omega)
  have em : ∀ e, mdR m e = mdR μ e := fun e => by
    unfold mdR
    rw [f 158 _ (by omega) (by omega) (by omega), f 160 _ (by omega) (by omega) (by omega)]
  have ea : ∀ e, ¬ e / 40 = t → atR m e = atR μ e := fun e hne => by
    unfold atR
    rw [f 157 _ (by omega) (by omega) (by omega), f 159 _ (by omega) (by omega) (by omega)]
  have en : ∀ e, e / 40 = t → atR m e = -1 := fun e he => by
    unfold atR
    obtain ⟨_, _, _, a1, a2⟩ := hs (e / 2) (by omega)
    by_cases c : e % 2 = 0
    · rw [if_pos c]; exact a1
    · rw [if_neg c]; exact a2
  refine ⟨fun s hs' => ?_, fun k hk => ?_, ⟨fun e he h0 => ?_, fun x hx => ?_, ?_⟩, ?_, ?_, ?_⟩
  · show rtR m (130 + (s : Int)) = (if s / 20 = t then none else sHd S s) ∧ (¬ (if s / 20 = t then none else sHd S s) = none → m 154 s = sHw S s) ∧ rtR m (530 + (s : Int)) = (if s / 20 = t then ((none : Option Rt), (-1 : Int)) else sSd S s).1 ∧ (if m 155 s = 0 then -1 else m 156 s) = (if s / 20 = t then ((none : Option Rt), (-1 : Int)) else sSd S s).2 ∧ (0 ≤ m 157 s → rtR m (930 + (s : Int)) = (if s / 20 = t then ((none : Option Rt), (-1 : Int)) else sSd S s).1)
    by_cases c : s / 20 = t
    · obtain ⟨a1, a2, a3, a4, a5⟩ := hs s c
      rw [if_pos c, if_pos c, a1, a2, a3, a4, if_pos rfl]
      exact ⟨rfl, fun q => absurd rfl q, rfl, rfl, fun q => by omega⟩
    · have hs'' : s < 20 * eT E ∨ s < 400 := hs'
      rw [if_neg c, if_neg c, rt (130 + (s : Int)) (by omega) (by omega) (by omega), rt (530 + (s : Int)) (by omega) (by omega) (by omega), rt (930 + (s : Int)) (by omega) (by omega) (by omega), f 154 _ (by omega) (by omega) (by omega), f 155 _ (by omega) (by omega) (by omega), f 156 _ (by omega) (by omega) (by omega), f 157 _ (by omega) (by omega) (by omega)]
      exact h1 s hs'
  · show m 161 k = (sPk S k).1 ∧ rtR m (30 + (k : Int)) = (sPk S k).2
    have hk' : k < 10 * eD E ∨ k < 100 := hk
    rw [f 161 _ (by omega) (by omega) (by omega), rt _ (by omega) (by omega) (by omega)]
    exact h2 k hk
  · have hne : ¬ e / 40 = t := fun c => by rw [en e c] at h0; omega
    rw [ea e hne] at h0 ⊢
    exact List.mem_filter.mpr ⟨h3.1 e he h0, decide_eq_true hne⟩
  · obtain ⟨hx1, hx2⟩ := List.mem_filter.mp hx
    have hne := of_decide_eq_true hx2
    rw [ea _ hne, em, f 106 72 (by omega) (by omega) (by omega)]
    exact h3.2.1 x hx1
  · refine List.Pairwise.imp (fun {x y} q => ?_) (h3.2.2.filter _)
    rw [em, em]
    exact q
  · show m 106 71 = sCk S
    rw [f 106 71 (by omega) (by omega) (by omega)]; exact h4
  · show (m 106 73 - sDn S) % 4294967296 = 0
    rw [f 106 73 (by omega) (by omega) (by omega)]; exact h5
  · show m 106 72 = sMd S
    rw [f 106 72 (by omega) (by omega) (by omega)]; exact h6
/-- raise: what then is -/
noncomputable def raiE (E : En) (t : Nat) (v : Int) : En := if v = 0 then up! E t 0 else up! E t 1
noncomputable def raiS (E : En) (S : Sn) (t : Nat) (v : Int) : Sn := if v = 0 then lookA (up! E t 0) (lookA (up! E t 0) (silE S t) (eA E t)) (eB E t) else sayA (up! E t 1) (sayA (up! E t 1) S t 0) t 1
theorem X11_raise_s {t v : Int} {Q : Int → mM → Prop} (hw : mWF w) (hT : mT w μ) (ev : envC w μ E) (st : snC μ E S) (sn : snG E S) (en : enG E) (uG : ∀ t, eU E t = 0 ∨ eU E t = 1) (k0 : ¬ (0 ≤ t ∧ t < (eT E : Int)) → Q (-1) μ) (k00 : 0 ≤ t → t < (eT E : Int) → v = 0 → eU E t.toNat = 0 → Q 0 μ)
    (k1 : 0 ≤ t → t < (eT E : Int) → ¬ (v = 0 ∧ eU E t.toNat = 0) → ∀ m : mM, envC w m (raiE E t.toNat v) → snC m (raiE E t.toNat v) (raiS E S t.toNat v) → loC μ m → Q (eU E t.toNat) m) : WP_X11_raise_W w μ t v Q := by
  intro _ _ _
  refine X11_isTie_s ev fun z hz rz => ⟨fun c b eb hb u eu hu => ?_, fun c => k0 fun q => by have := hz.mpr q; omega⟩
  have ht := hz.mp (by omega)
  obtain ⟨t', rfl⟩ : ∃ t' : Nat, t = (t' : Int) := ⟨t.toNat, by omega⟩
  simp only [Int.toNat_natCast] at eb k1 k00
  have t2 : t' < eT E := by omega
  obtain ⟨t1, big, _⟩ := ev.2.2.2.1.1 t' t2
  have eb' : b = tbA μ t' := by omega
  subst eb'
  obtain ⟨a1, a2, a3, _⟩ := ev.2.2.2.2.1 t' t2
  rw [a3] at eu
  have J : ∀ y : Int, y = u → WJ_X11_raise_W_1 w μ (t' : Int) v Q (tbA μ t') y := by
    intro y ey _
    refine ⟨fun q => ⟨fun q2 => ?_, fun q2 => ?_⟩, fun q m2 u2 T2 => ?_⟩
    · have e0 : eU E t' = 0 := by have := uG t'; omega
      have := k00 ht.1 ht.2 q e0
      rw [show y = 0 by omega]
      exact this
    · have nb : ¬ (v = 0 ∧ eU E t' = 0) := by omega
      refine X8_silence_s hw hT ev st sn en.1 t2 fun m2 e2 s2 l2 T2 F2 za ea _ => ?_
      obtain ⟨c1, c2, _⟩ := e2.2.2.2.2.1 t' t2
      have tb : tbA m2 t' = tbA μ t' := congrArg Int.toNat (l2 11 _ (by omega) (by omega) (by omega) (by omega) (by omega) (by omega) (by omega))
      rw [tb] at c1 c2
      have en2 : enG (up! E t' 0) := en
      obtain ⟨da, eda, hda⟩ := eN.dom (s := 0) en2.1 t2
      obtain ⟨db, edb, hdb⟩ := eN.dom (s := 1) en2.1 t2
      have eda : eA E t' = (da : Int) := eda
      have edb : eB E t' = (db : Int) := edb
      have za' : za = (da : Int) := by rw [← ea, c1]; exact eda
      subst za'
      have sn2 := silE.sn (t := t') sn
      refine X8_lookAtAll_s hw T2 e2 s2 sn2 en2 hda fun m3 s3 l3 T3 F3 zb ezb _ => ?_
      have e3 := envC.fr hw T2 e2 (mF.refl.call F3 rfl)
      obtain ⟨c3, c4, _⟩ := e3.2.2.2.2.1 t' t2
      have tb3 : tbA m3 t' = tbA μ t' := by
        have : tbA m3 t' = tbA m2 t' := congrArg Int.toNat (l3 11 _ (by omega) (by omega) (by omega) (by omega) (by omega) (by omega) (by omega))
        rw [this, tb]
      rw [tb3] at c3 c4
      have zb' : zb = (db : Int) := by rw [← ezb, c4]; exact edb
      subst zb'
      have sn3 := lookA.cn (d := da) sn2 en2 hda
      refine X8_lookAtAll_s hw T3 e3 s3 sn3.1 en2 hdb fun m4 s4 l4 T4 F4 => ?_
      have kk := k1 ht.1 ht.2 nb m4 (by unfold raiE; rw [if_pos q]; exact envC.fr hw T3 e3 (mF.refl.call F4 rfl)) (by unfold raiE raiS; rw [if_pos q, if_pos q, eda, edb]; exact s4) ((l2.trans l3).trans l4)
      rw [show y = eU E t' by omega]
      exact kk
    · have nb : ¬ (v = 0 ∧ eU E t' = 0) := by omega
      obtain rfl := u2.is
      have e2 := ev.up (v := 1) hw hT t2
      have en2 : enG (up! E t' 1) := en
      have sn2 := sn.up (t := t') (v := 1) (by decide)
      have s2 : snC (mUp μ (tbA μ t') 6 1) (up! E t' 1) S := snC.cg (E := E) st (fun i => mUp.no (by omega)) (fun i => mUp.no (by omega)) (fun t b i ht h1 h2 => mUp.no (by
        by_cases c : t = t'
        · subst c; omega
        · have := ev.2.2.2.1.2.2.1 t t' ht t2 c
          omega)) (fun e b i he h1 => mUp.no (by have := ev.2.2.2.1.2.2.2.2.1 t' e t2 he; omega)) (fun i _ _ => mUp.no (by omega)) (fun i => mUp.no (by omega)) (fun i => mUp.no (by omega)) (fun b i _ _ => mUp.no (by omega))
      have lo2 : loC μ (mUp μ (tbA μ t') 6 1) := fun b i h0 _ _ _ _ _ _ => mUp.no (by omega)
      refine X8_sayAll_s (s := 0) hw T2 e2 s2 sn2 en2 t2 (by omega) fun m3 s3 l3 T3 F3 => ?_
      have e3 := envC.fr hw T2 e2 (mF.refl.call F3 rfl)
      have sn3 := sayA.cn (s := 0) sn2 en2 t2 (by omega)
      refine X8_sayAll_s (s := 1) hw T3 e3 s3 sn3.1 en2 t2 (by omega) fun m4 s4 l4 T4 F4 => ?_
      have kk := k1 ht.1 ht.2 nb m4 (by unfold raiE; rw [if_neg q]; exact envC.fr hw T3 e3 (mF.refl.call F4 rfl)) (by unfold raiE raiS; rw [if_neg q, if_neg q]; exact s4) ((lo2.trans l3).trans l4)
      rw [show y = eU E t' by omega]
      exact kk
  exact ⟨fun q => J 0 q.symm, fun q => J 1 (by omega)⟩
theorem X12_raise_s {t v : Int} {Q : Int → mM → Prop} (hw : mWF w) (hT : mT w μ) (ev : envR w μ E G) (hG : G μ) (gG : gSt G) (st : snR μ E S) (sn : snG E S) (en : enG E) (hM : 0 ≤ sMd S ∧ sMd S + 400 < 2147483647) (hv : v = 0 ∨ v = 1) (k0 : ¬ (0 ≤ t ∧ t < (eT E : Int)) → Q (-1) μ) (k00 : 0 ≤ t → t < (eT E : Int) → v = 0 → eU E t.toNat = 0 → Q 0 μ)
    (k1 : 0 ≤ t → t < (eT E : Int) → ¬ (v = 0 ∧ eU E t.toNat = 0) → ∀ m : mM, envR w m (raiE E t.toNat v) G → snR m (raiE E t.toNat v) (raiS E S t.toNat v) → G m → loR μ m → Q (eU E t.toNat) m) : WP_X12_raise_W w μ t v Q := by
  have t20 := en.1.2.2.1
  have d10 := en.1.2.2.2.1
  intro _ _ _
  refine X12_isTie_s ev fun z hz rz => ⟨fun c u eu hu => ?_, fun c => k0 fun q => by have := hz.mpr q; omega⟩
  have ht := hz.mp (by omega)
  obtain ⟨t', rfl⟩ : ∃ t' : Nat, t = (t' : Int) := ⟨t.toNat, by omega⟩
  simp only [Int.toNat_natCast] at eu k1 k00
  have t2 : t' < eT E := by omega
  obtain ⟨a1, a2, a3, _⟩ := ev.2.2.2.1 t' t2
  rw [a3] at eu
  have x1 : (2 * (t' : Int)).toNat = 2 * t' := by omega
  have x2 : (2 * (t' : Int) + 1).toNat = 2 * t' + 1 := by omega
  have J : ∀ y : Int, y = u → WJ_X12_raise_W_1 w μ (t' : Int) v Q y := by
    intro y ey _
    rw [Int.toNat_natCast, x1, x2]
    refine ⟨fun q m2 u2 T2 za ea _ zb eb _ => ?_, fun q => ⟨fun q2 m2 u2 T2 => ?_, fun q2 => k00 ht.1 ht.2 q (by omega)⟩⟩
    · have nb : ¬ (v = 0 ∧ eU E t' = 0) := by omega
      have v1 : v = 1 := by omega
      subst v1
      obtain rfl := u2.is
      have e2 := ev.up (v := 1) hw t2
      have en2 : enG (up! E t' 1) := en
      have sn2 := sn.up (t := t') (v := 1) (by decide)
      have s2 : snR (mUp μ 112 t' 1) (up! E t' 1) S := snR.cg (E := E) st hw hT fun b i h => mUp.no (by omega)
      have g2 : G (mUp μ 112 t' 1) := gG μ _ hG fun b i q1 q2 q3 => mUp.no (by omega)
      have lo2 : loR μ (mUp μ 112 t' 1) := fun i hi => mUp.no (by omega)
      have za' : za = eN (up! E t' 1) t' 0 := by rw [← ea, mUp.no (by omega), a1]; rfl
      have zb' : zb = eN (up! E t' 1) t' 1 := by rw [← eb, mUp.no (by omega), a2]; rfl
      refine X12_sayAll_s (s := 0) hw e2 g2 gG s2 sn2 en2 t2 (by omega) za' ⟨hM.1, by omega⟩ fun m3 s3 g3 l3 T3 F3 => ?_
      have e3 := e2.fr hw (mF.refl.call F3 rfl)
      have sn3 := sayA.cn (s := 0) sn2 en2 t2 (by omega)
      have ma := sn3.2.1
      have mb := sn3.2.2
      refine X12_sayAll_s (s := 1) hw e3 g3 gG s3 sn3.1 en2 t2 (by omega) zb' ⟨by omega, by omega⟩ fun m4 s4 g4 l4 T4 F4 => ?_
      have kk := k1 ht.1 ht.2 nb m4 (by unfold raiE; rw [if_neg q]; exact e3.fr hw (mF.refl.call F4 rfl)) (by unfold raiE raiS; rw [if_neg q, if_neg q]; exact s4) g4 ((lo2.trans l3).trans l4)
      rw [show y = eU E t' by omega]
      exact kk
    · have nb : ¬ (v = 0 ∧ eU E t' = 0) := by omega
      subst q
      obtain rfl := u2.is
      have e2 := ev.up (v := 0) hw t2
      have en2 : enG (up! E t' 0) := en
      have sn2 := silE.sn (t := t') sn
      intro _
      have b0 : (2 * (t' : Int) + 0) * 10 + 0 = 20 * (t' : Int) := by omega
      rw [b0]
      refine loopF.im (fun z m => 20 * (t' : Int) ≤ z ∧ z ≤ 20 * (t' : Int) + 20 ∧ (∀ (b i : Nat), ¬ (b = 126 ∧ ((40 * (130 + 20 * t') ≤ i ∧ i < 40 * (150 + 20 * t')) ∨ (40 * (530 + 20 * t') ≤ i ∧ i < 40 * (550 + 20 * t')))) → ¬ ((b = 155 ∨ b = 157 ∨ b = 159) ∧ i / 20 = t') → m b i = mUp μ 112 t' 0 b i) ∧ ∀ s : Nat, s / 20 = t' → (s : Int) < z → rtR m (130 + (s : Int)) = none ∧ rtR m (530 + (s : Int)) = none ∧ m 155 s = 0 ∧ m 157 s = -1 ∧ m 159 s = -1) (fun z => (20 * (t' : Int) + 21 - z).toNat) ⟨by omega, by omega, fun _ _ _ _ => rfl, fun s h1 h2 => by omega⟩ (by omega) ?_
      rintro rc z m ⟨z0, z1, fr, h⟩ ih z' m' e hz' T F
      cases e
      intro _
      have b2 : (2 * (t' : Int) + 2) * 10 + 0 = 20 * (t' : Int) + 20 := by omega
      rw [b2]
      refine ⟨fun g za ea _ => ?_, fun g => ?_⟩
      · have e3 := e2.fr hw (mF.refl.call F rfl)
        have s3 : snR m (up! E t' 0) (silE S t') := st.sil hw hT t20 d10 t2 (fun b i q1 q2 q3 => by rw [fr b i q1 q2]; exact mUp.no (by omega)) (fun s hs => h s hs (by omega))
        have g3 : G m := gG μ _ hG fun b i q1 q2 q3 => by rw [fr b i (by omega) (by omega)]; exact mUp.no (by omega)
        have lo3 : loR μ m := fun i hi => by rw [fr 126 i (by omega) (by omega)]; exact mUp.no (by omega)
        obtain ⟨c1, c2, _⟩ := e3.2.2.2.1 t' t2
        obtain ⟨da, eda, hda⟩ := eN.dom (s := 0) en2.1 t2
        obtain ⟨db, edb, hdb⟩ := eN.dom (s := 1) en2.1 t2
        have eda : eA E t' = (da : Int) := eda
        have edb : eB E t' = (db : Int) := edb
        have za' : za = (da : Int) := by rw [← ea, x1, c1]; exact eda
        subst za'
        refine X12_lookAll_s hw e3 g3 gG s3 sn2 en2 hda ⟨hM.1, by show sMd S + 200 < 2147483647; omega⟩ fun m4 s4 g4 l4 T4 F4 zb ezb _ => ?_
        have e4 := e3.fr hw (mF.refl.call F4 rfl)
        obtain ⟨c3, c4, _⟩ := e4.2.2.2.1 t' t2
        have zb' : zb = (db : Int) := by rw [← ezb, x2, c4]; exact edb
        subst zb'
        have sn4 := lookA.cn (d := da) sn2 en2 hda
        have ma : sMd S ≤ sMd (lookA (up! E t' 0) (silE S t') (da : Int)) := sn4.2.1
        have mb : sMd (lookA (up! E t' 0) (silE S t') (da : Int)) ≤ sMd S + 200 := sn4.2.2.1
        refine X12_lookAll_s hw e4 g4 gG s4 sn4.1 en2 hdb ⟨by omega, by omega⟩ fun m5 s5 g5 l5 T5 F5 => ?_
        have kk := k1 ht.1 ht.2 nb m5 (by unfold raiE; rw [if_pos rfl]; exact e4.fr hw (mF.refl.call F5 rfl)) (by unfold raiE raiS; rw [if_pos rfl, if_pos rfl, eda, edb]; exact s5) g5 ((lo3.trans l4).trans l5)
        rw [show y = eU E t' by omega]
        exact kk
      · refine X12_nothing_s (by omega) fun ma ra fa Ta Fa xa _ => X12_nothing_s (by omega) fun mb rb fb Tb Fb xb _ mc uc Tc md ud Td me ue Te => ?_
        obtain rfl := uc.is
        obtain rfl := ud.is
        obtain rfl := ue.is
        have all : ∀ (b i : Nat), ¬ (b = 126 ∧ (i : Int) = 40 * (130 + z)) → ¬ (b = 126 ∧ (i : Int) = 40 * (530 + z)) → ¬ ((b = 155 ∨ b = 157 ∨ b = 159) ∧ i = z.toNat) → mUp (mUp (mUp mb 155 z.toNat 0) 157 z.toNat (-1)) 159 z.toNat (-1) b i = m b i := fun b i q1 q2 q3 => by
          rw [mUp.no (by omega), mUp.no (by omega), mUp.no (by omega), fb b i q2, fa b i q1]
        have rt : ∀ r : Int, 0 ≤ r → ¬ r = 130 + z → ¬ r = 530 + z → rtR (mUp (mUp (mUp mb 155 z.toNat 0) 157 z.toNat (-1)) 159 z.toNat (-1)) r = rtR m r := fun r hr q1 q2 => rtR.cg (T.rb hw hr).1.2 (T.rb hw hr).2.2 fun k hk => all _ _ (by omega) (by omega) (by omega)
        have nl : ∀ r : Int, 0 ≤ r → rtR mb r = none → rtR (mUp (mUp (mUp mb 155 z.toNat 0) 157 z.toNat (-1)) 159 z.toNat (-1)) r = none := fun r hr q => rtR.nil (by rw [mUp.no (by omega), mUp.no (by omega), mUp.no (by omega)]; exact rtR.no q)
        refine ih _ _ ⟨by omega, by omega, fun b i q1 q2 => ?_, fun s q1 q2 => ?_⟩ (by omega)
        · rw [all b i (by omega) (by omega) (by omega)]
          exact fr b i q1 q2
        · by_cases c : (s : Int) = z
          · have es : s = z.toNat := by omega
            refine ⟨?_, ?_, ?_, ?_, ?_⟩
            · rw [c]
              refine nl _ (by omega) (rtR.nil ?_)
              rw [fb _ _ (by omega)]
              exact rtR.no ra
            · rw [c]
              exact nl _ (by omega) rb
            · rw [mUp.no (by omega), mUp.no (by omega), mUp.yes ⟨rfl, es⟩]
            · rw [mUp.no (by omega), mUp.yes ⟨rfl, es⟩]
            · rw [mUp.yes ⟨rfl, es⟩]
          · obtain ⟨g1, g2, g3, g4, g5⟩ := h s q1 (by omega)
            rw [rt _ (by omega) (by omega) (by omega), rt _ (by omega) (by omega) (by omega), all 155 s (by omega) (by omega) (by omega), all 157 s (by omega) (by omega) (by omega), all 159 s (by omega) (by omega) (by omega)]
            exact ⟨g1, g2, g3, g4, g5⟩
  exact ⟨fun q => J 0 q.symm, fun q => J 1 (by omega)⟩
end Rai
end
section
/-! What is picked, what is heard: into the hand. -/
/-- the route in hand, of the reference -/
def haR (μ : mM) : Option Rt := if μ 106 70 = 0 then none else rtR μ 0
section Hnd
variable {w : mW} {μ : mM} {E : En} {S : Sn} {G : mM → Prop}
theorem X11_picked_s {d p : Int} {Q : Int → mM → Prop} (ev : envC w μ E) (st : snC μ E S) (en : enG E) (k0 : ¬ ((0 ≤ d ∧ d < (eD E : Int)) ∧ (0 ≤ p ∧ p < (eP E : Int))) → Q (-1) μ)
    (k1 : 0 ≤ d → d < (eD E : Int) → 0 ≤ p → p < (eP E : Int) → (sPk S (10 * d.toNat + p.toNat)).1 = -99999999 → Q (-99999999) μ)
    (k2 : 0 ≤ d → d < (eD E : Int) → 0 ≤ p → p < (eP E : Int) → ¬ (sPk S (10 * d.toNat + p.toNat)).1 = -99999999 → ∀ m : mM, rtC m 3 = (sPk S (10 * d.toNat + p.toNat)).2 → (∀ b i, ¬ (3 ≤ b ∧ b ≤ 5) → m b i = μ b i) → Q (sPk S (10 * d.toNat + p.toNat)).1 m) : WP_X11_picked_W w μ d p Q := by
  have p10 := en.1.2.2.2.2
  intro _ _ _
  refine X11_isDomain_s ev fun z hz rz => ⟨fun c => k0 fun q => by have := hz.mpr q.1; omega, fun c _ _ _ => X11_isPrefix_s ev fun y hy ry => ⟨fun c2 b eb hb v ev' hv => ?_, fun c2 => k0 fun q => by have := hy.mpr q.2; omega⟩⟩
  have hd := hz.mp (by omega)
  have hp := hy.mp (by omega)
  obtain ⟨d', rfl⟩ : ∃ d' : Nat, d = (d' : Int) := ⟨d.toNat, by omega⟩
  obtain ⟨p', rfl⟩ : ∃ p' : Nat, p = (p' : Int) := ⟨p.toNat, by omega⟩
  simp only [Int.toNat_natCast] at k1 k2 eb ev' ⊢
  have hd' : d' < eD E := by omega
  have hp' : p' < 10 := by omega
  obtain ⟨d1, d2, d3⟩ := ev.2.2.2.1.2.1 d' hd'
  have eb' : b = dbA μ d' := by omega
  subst eb'
  have sp := st.2.1 d' p' hd' hp'
  rw [sp.1] at ev'
  subst ev'
  refine ⟨fun q => ?_, fun q b2 eb2 hb2 => ?_⟩
  · rw [q]
    exact k1 hd.1 hd.2 hp.1 hp.2 q
  · have eb2' : b2 = dbA μ d' + 5 + 3 * p' := by
      rw [d3 p' hp'] at eb2
      omega
    subst eb2'
    refine X7_become_s (by refine ⟨?_, ?_, ?_, ?_, ?_, ?_, ?_⟩ <;> omega) fun m r o _ _ => k2 hd.1 hd.2 hp.1 hp.2 q m (r.trans sp.2) fun b i h => o b i (by omega) (by omega) (by omega)
theorem X12_picked_s {d p : Int} {Q : Int → mM → Prop} (hw : mWF w) (hT : mT w μ) (ev : envR w μ E G) (st : snR μ E S) (en : enG E) (k0 : ¬ ((0 ≤ d ∧ d < (eD E : Int)) ∧ (0 ≤ p ∧ p < (eP E : Int))) → Q (-1) μ)
    (k1 : 0 ≤ d → d < (eD E : Int) → 0 ≤ p → p < (eP E : Int) → (sPk S (10 * d.toNat + p.toNat)).1 = -99999999 → Q (-99999999) μ)
    (k2 : 0 ≤ d → d < (eD E : Int) → 0 ≤ p → p < (eP E : Int) → ¬ (sPk S (10 * d.toNat + p.toNat)).1 = -99999999 → ∀ m : mM, haR m = (sPk S (10 * d.toNat + p.toNat)).2 → (∀ (b i : Nat), ¬ (b = 126 ∧ i < 40) → ¬ (b = 106 ∧ i = 70) → m b i = μ b i) → Q (sPk S (10 * d.toNat + p.toNat)).1 m) : WP_X12_picked_W w μ d p Q := by
  have p10 := en.1.2.2.2.2
  intro _ _ _
  refine X12_isDomain_s ev fun z hz rz => ⟨fun c => k0 fun q => by have := hz.mpr q.1; omega, fun c _ _ _ => X12_isPrefix_s ev fun y hy ry => ⟨fun c2 v ev' hv => ?_, fun c2 => k0 fun q => by have := hy.mpr q.2; omega⟩⟩
  have hd := hz.mp (by omega)
  have hp := hy.mp (by omega)
  obtain ⟨d', rfl⟩ : ∃ d' : Nat, d = (d' : Int) := ⟨d.toNat, by omega⟩
  obtain ⟨p', rfl⟩ : ∃ p' : Nat, p = (p' : Int) := ⟨p.toNat, by omega⟩
  simp only [Int.toNat_natCast] at k1 k2
  have hd' : d' < eD E := by omega
  have sp := st.2.1 (10 * d' + p') (by omega)
  rw [show (10 * (d' : Int) + (p' : Int)).toNat = 10 * d' + p' by omega, sp.1] at ev'
  subst ev'
  refine ⟨fun q x _ _ => ?_, fun q => k1 hd.1 hd.2 hp.1 hp.2 q⟩
  rw [show (30 : Int) + (10 * (d' : Int) + (p' : Int)) = 30 + ((10 * d' + p' : Nat) : Int) by omega]
  refine X12_copy_s (by omega) (by omega) (by omega) (hT.rb hw (by omega)).1.2 (hT.rb hw (by omega)).2.2 fun m r _ o T F _ _ m2 u2 T2 => ?_
  obtain rfl := u2.is
  refine k2 hd.1 hd.2 hp.1 hp.2 q _ ?_ fun b i h1 h2 => ?_
  · unfold haR
    rw [mUp.yes ⟨rfl, rfl⟩, if_neg (by decide), rtR.cg (μ := m) (s := 0) (T.rb hw (by omega)).1.2 (T.rb hw (by omega)).2.2 (fun k hk => mUp.no (by omega)), r]
    exact sp.2
  · rw [mUp.no h2]
    exact o b i (by omega)
def hrdO (E : En) (t s p o : Int) : Prop := (0 ≤ t ∧ t < (eT E : Int)) ∧ (0 ≤ s ∧ s ≤ 1) ∧ (0 ≤ p ∧ p < (eP E : Int)) ∧ (0 ≤ o ∧ o ≤ 1)
/-- what is heard, or was said: the route, and when -/
def hrdR (S : Sn) (k : Nat) (o : Int) : Option Rt := if o = 0 then sHd S k else (sSd S k).1
def hrdW (S : Sn) (k : Nat) (o : Int) : Int := if o = 0 then sHw S k else (sSd S k).2
theorem X11_heard_s {t s p o : Int} {Q : Int → mM → Prop} (ev : envC w μ E) (st : snC μ E S) (en : enG E) (k0 : ¬ hrdO E t s p o → Q (-1) μ)
    (k1 : hrdO E t s p o → hrdR S (slt t.toNat s.toNat p.toNat) o = none → Q (-99999999) μ)
    (k2 : hrdO E t s p o → ¬ hrdR S (slt t.toNat s.toNat p.toNat) o = none → ∀ m : mM, rtC m 3 = hrdR S (slt t.toNat s.toNat p.toNat) o → (∀ b i, ¬ (3 ≤ b ∧ b ≤ 5) → m b i = μ b i) → Q (hrdW S (slt t.toNat s.toNat p.toNat) o) m) : WP_X11_heard_W w μ t s p o Q := by
  have p10 := en.1.2.2.2.2
  intro _ _ _
  refine X11_isTie_s ev fun z hz rz => ⟨fun c => k0 fun q => by have := hz.mpr q.1; omega, fun c => X11_isEither_s fun y hy ry => ⟨fun c2 => k0 fun q => by have := hy.mpr q.2.1; omega, fun c2 _ _ _ => X11_isPrefix_s ev fun x hx rx => ⟨fun c3 => k0 fun q => by have := hx.mpr q.2.2.1; omega, fun c3 => X11_isEither_s fun v hv rv => ⟨fun c4 => ?_, fun c4 => k0 fun q => by have := hv.mpr q.2.2.2; omega⟩⟩⟩⟩
  have ht := hz.mp (by omega)
  have hs := hy.mp (by omega)
  have hp := hx.mp (by omega)
  have ho := hv.mp (by omega)
  have ok : hrdO E t s p o := ⟨ht, hs, hp, ho⟩
  obtain ⟨t', rfl⟩ : ∃ t' : Nat, t = (t' : Int) := ⟨t.toNat, by omega⟩
  obtain ⟨s', rfl⟩ : ∃ s' : Nat, s = (s' : Int) := ⟨s.toNat, by omega⟩
  obtain ⟨p', rfl⟩ : ∃ p' : Nat, p = (p' : Int) := ⟨p.toNat, by omega⟩
  simp only [Int.toNat_natCast] at k1 k2
  have t2 : t' < eT E := by omega
  obtain ⟨t1, big, t3⟩ := ev.2.2.2.1.1 t' t2
  have sl : slt t' s' p' = 20 * t' + (10 * s' + p') := by unfold slt; omega
  have s1 := st.1 t' (10 * s' + p') t2 (by omega)
  rw [← sl] at s1
  have J : ∀ b : Nat, 192 ≤ b → rtC μ b = hrdR S (slt t' s' p') o → (¬ hrdR S (slt t' s' p') o = none → μ b 9 = hrdW S (slt t' s' p') o) → WJ_X11_heard_W_1 w μ Q b := by
    intro b hb hr hw' _ z2 e2 _
    refine ⟨fun q => ?_, fun q => k1 ok (hr.symm.trans (rtC.nil (e2.trans q)))⟩
    have ne : ¬ hrdR S (slt t' s' p') o = none := fun g => q (e2.symm.trans (rtC.no (hr.trans g)))
    refine X7_become_s (by refine ⟨?_, ?_, ?_, ?_, ?_, ?_, ?_⟩ <;> omega) fun m r o' _ _ z9 e9 _ => ?_
    have e9' : z9 = hrdW S (slt t' s' p') o := by
      rw [← e9, o' b 9 (by omega) (by omega) (by omega)]
      exact hw' ne
    rw [e9']
    exact k2 ok ne m (r.trans hr) fun b i h => o' b i (by omega) (by omega) (by omega)
  intro _
  have pe : ((s' : Int) * 10 + (p' : Int)).toNat = 10 * s' + p' := by omega
  refine ⟨fun q b eb _ b2 eb2 _ => ?_, fun q b eb _ b2 eb2 _ => ?_⟩
  · rw [Int.toNat_natCast] at eb
    have eb' : b = tbA μ t' := by omega
    subst eb'
    rw [pe, (t3 _ (by omega)).2] at eb2
    have e2 : b2 = tbA μ t' + 7 + 6 * (10 * s' + p') := by omega
    subst e2
    refine J _ (by omega) ?_ (fun _ => ?_)
    · unfold hrdR
      rw [if_neg q]; exact s1.2.2.1
    · unfold hrdW
      rw [if_neg q]; exact s1.2.2.2
  · rw [Int.toNat_natCast] at eb
    have eb' : b = tbA μ t' := by omega
    subst eb'
    rw [pe, (t3 _ (by omega)).1] at eb2
    have e2 : b2 = tbA μ t' + 4 + 6 * (10 * s' + p') := by omega
    subst e2
    refine J _ (by omega) ?_ (fun ne => ?_)
    · unfold hrdR
      rw [if_pos q]; exact s1.1
    · unfold hrdR at ne
      rw [if_pos q] at ne
      unfold hrdW
      rw [if_pos q]; exact s1.2.1 ne
theorem X12_heard_s {t s p o : Int} {Q : Int → mM → Prop} (hw : mWF w) (hT : mT w μ) (ev : envR w μ E G) (st : snR μ E S) (sn : snG E S) (en : enG E) (k0 : ¬ hrdO E t s p o → Q (-1) μ)
    (k1 : hrdO E t s p o → hrdR S (slt t.toNat s.toNat p.toNat) o = none → Q (-99999999) μ)
    (k2 : hrdO E t s p o → ¬ hrdR S (slt t.toNat s.toNat p.toNat) o = none → ∀ m : mM, haR m = hrdR S (slt t.toNat s.toNat p.toNat) o → (∀ (b i : Nat), ¬ (b = 126 ∧ i < 40) → ¬ (b = 106 ∧ i = 70) → m b i = μ b i) → Q (hrdW S (slt t.toNat s.toNat p.toNat) o) m) : WP_X12_heard_W w μ t s p o Q := by
  have p10 := en.1.2.2.2.2
  have t20 := en.1.2.2.1
  intro _ _ _
  refine X12_isTie_s ev fun z hz rz => ⟨fun c => k0 fun q => by have := hz.mpr q.1; omega, fun c => X12_in_s fun y hy ry => ⟨fun c2 => k0 fun q => by have := hy.mpr q.2.1; omega, fun c2 _ _ _ => X12_isPrefix_s ev fun x hx rx => ⟨fun c3 => k0 fun q => by have := hx.mpr q.2.2.1; omega, fun c3 => X12_in_s fun v hv rv => ⟨fun c4 => ?_, fun c4 => k0 fun q => by have := hv.mpr q.2.2.2; omega⟩⟩⟩⟩
  have ht := hz.mp (by omega)
  have hs := hy.mp (by omega)
  have hp := hx.mp (by omega)
  have ho := hv.mp (by omega)
  have ok : hrdO E t s p o := ⟨ht, hs, hp, ho⟩
  obtain ⟨t', rfl⟩ : ∃ t' : Nat, t = (t' : Int) := ⟨t.toNat, by omega⟩
  obtain ⟨s', rfl⟩ : ∃ s' : Nat, s = (s' : Int) := ⟨s.toNat, by omega⟩
  obtain ⟨p', rfl⟩ : ∃ p' : Nat, p = (p' : Int) := ⟨p.toNat, by omega⟩
  simp only [Int.toNat_natCast] at k1 k2
  have t2 : t' < eT E := by omega
  have sb : slt t' s' p' < 20 * eT E := by unfold slt; omega
  obtain ⟨b1, b2, b3, b4, b5⟩ := st.1 (slt t' s' p') (Or.inl sb)
  have sl : (2 * (t' : Int) + (s' : Int)) * 10 + (p' : Int) = ((slt t' s' p' : Nat) : Int) := by unfold slt; omega
  show (0 ≤ (2 * (t' : Int) + (s' : Int)) * 10 + (p' : Int) ∧ (2 * (t' : Int) + (s' : Int)) * 10 + (p' : Int) ≤ 449) → _
  rw [sl]
  intro _
  have J : ∀ r : Int, 130 ≤ r → r ≤ 530 → rtR μ (r + ((slt t' s' p' : Nat) : Int)) = hrdR S (slt t' s' p') o → WJ_X12_heard_W_1 w μ o Q ((slt t' s' p' : Nat) : Int) r := by
    intro r r0 r1 hr _ z2 _ _
    refine X12_isThere_s fun y2 hy2 _ => ⟨fun q => ?_, fun q => k1 ok ?_⟩
    · have ne : ¬ hrdR S (slt t' s' p') o = none := fun g => hy2.mp (by omega) (hr.trans g)
      refine X12_copy_s (by omega) (by omega) (by omega) (hT.rb hw (by omega)).1.2 (hT.rb hw (by omega)).2.2 fun m rr _ oo T F _ _ m2 u2 T2 => ?_
      obtain rfl := u2.is
      have fr : ∀ (b i : Nat), ¬ (b = 126 ∧ i < 40) → ¬ (b = 106 ∧ i = 70) → mUp m 106 70 1 b i = μ b i := fun b i h1 h2 => by
        rw [mUp.no h2]
        exact oo b i (by omega)
      have hh : haR (mUp m 106 70 1) = hrdR S (slt t' s' p') o := by
        unfold haR
        rw [mUp.yes ⟨rfl, rfl⟩, if_neg (by decide), rtR.cg (μ := m) (s := 0) (T.rb hw (by omega)).1.2 (T.rb hw (by omega)).2.2 (fun k hk => mUp.no (by omega)), rr]
        exact hr
      have kk := k2 ok ne _ hh fr
      refine ⟨fun q2 v2 ev2 _ => ?_, fun q2 v2 ev2 _ => ?_⟩
      · rw [Int.toNat_natCast, fr 156 _ (by omega) (by omega)] at ev2
        unfold hrdW at kk
        unfold hrdR at ne
        rw [if_neg q2] at kk ne
        have n1 : ¬ (sSd S (slt t' s' p')).2 = -1 := fun g => ne ((sn.2.2.2.2.2.2.2.2.1 _).2 g)
        by_cases c5 : μ 155 (slt t' s' p') = 0
        · rw [if_pos c5] at b4
          exact absurd b4.symm n1
        · rw [if_neg c5, ev2] at b4
          rw [b4]; exact kk
      · rw [Int.toNat_natCast, fr 154 _ (by omega) (by omega)] at ev2
        unfold hrdW at kk
        unfold hrdR at ne
        rw [if_pos q2] at kk ne
        rw [← ev2, b2 ne]; exact kk
    · apply Classical.byContradiction
      intro g
      have := hy2.mpr fun g2 => g (hr.symm.trans g2)
      omega
  refine ⟨fun q => J 530 (by omega) (by omega) ?_, fun q => J 130 (by omega) (by omega) ?_⟩
  · unfold hrdR
    rw [if_neg q]; exact b3
  · unfold hrdR
    rw [if_pos q]; exact b1
end Hnd
end
section
/-! Digits of a rule. -/
def dgN : Nat → Nat → List Int
  | 0, _ => []
  | f + 1, n => if n = 0 then [] else dgN f (n / 10) ++ [((n % 10 : Nat) : Int)]
theorem dgN.enough : ∀ (f g n : Nat), n ≤ f → n ≤ g → dgN f n = dgN g n
  | 0, 0, _, _, _ => rfl
  | 0, g + 1, n, h, _ => by
    have e : n = 0 := by omega
    subst e
    rfl
  | f + 1, 0, n, _, h => by
    have e : n = 0 := by omega
    subst e
    rfl
  | f + 1, g + 1, n, h1, h2 => by
    show (if n = 0 then [] else dgN f (n / 10) ++ [((n % 10 : Nat) : Int)]) = (if n = 0 then [] else dgN g (n / 10) ++ [((n % 10 : Nat) : Int)])
    by_cases c : n = 0
    · rw [if_pos c, if_pos c]
    · rw [if_neg c, if_neg c, dgN.enough f g (n / 10) (by omega) (by omega)]
/-- its digits, the first one first -/
def stp (n : Nat) : List Int := dgN n n
theorem stp.zero : stp 0 = [] := rfl
theorem stp.pos {n : Nat} (h : 0 < n) : stp n = stp (n / 10) ++ [((n % 10 : Nat) : Int)] := by
  obtain ⟨f, e⟩ : ∃ f, n = f + 1 := ⟨n - 1, by omega⟩
  have e1 : stp n = dgN (f + 1) n := by unfold stp; rw [← e]
  rw [e1]
  show (if n = 0 then [] else dgN f (n / 10) ++ [((n % 10 : Nat) : Int)]) = _
  rw [if_neg (by omega), dgN.enough f (n / 10) (n / 10) (by omega) (Nat.le_refl _)]
  rfl
theorem stp.len {n : Nat} (h : 0 < n) : (stp n).length = (stp (n / 10)).length + 1 := by
  rw [stp.pos h, List.length_append]
  rfl
theorem stp.nil {n : Nat} (h : (stp n).length = 0) : n = 0 := by
  apply Classical.byContradiction
  intro c
  rw [stp.len (by omega)] at h
  omega
section GoBy
variable {w : mW} {μ : mM}
theorem X0_goBy_s {a0 n : Nat} {g : Int} {Q : mM → Prop} (hn : n ≤ 999999) (h6 : (stp n).length ≤ 6)
    (k : ∀ m : mM, rowL (m (a0 + 1)) (m a0 4).toNat = stp n → m a0 5 = g → (∀ b i, ¬ (b = a0 ∧ (i = 4 ∨ i = 5)) → ¬ b = a0 + 1 → m b i = μ b i) → Q m) : WP_X0_goBy_W w μ a0 (n : Int) g Q := by
  intro m1 u1 T1 m4 u4 T4
  obtain rfl := u1.is
  obtain rfl := u4.is
  refine loopF.im (fun z m => 0 ≤ z ∧ z ≤ (n : Int) ∧ 0 ≤ m a0 4 ∧ m a0 4 + ((stp z.toNat).length : Int) = ((stp n).length : Int) ∧ m a0 5 = g ∧ ∀ b i, ¬ (b = a0 ∧ (i = 4 ∨ i = 5)) → m b i = μ b i) (fun z => z.toNat) ⟨by omega, by omega, by rw [mUp.yes ⟨rfl, rfl⟩]; omega, by rw [mUp.yes ⟨rfl, rfl⟩, Int.toNat_natCast]; omega, by rw [mUp.no (by omega), mUp.yes ⟨rfl, rfl⟩], fun b i q => by rw [mUp.no (by omega), mUp.no (by omega)]⟩ (by omega) ?_
  rintro rc z m ⟨z0, z1, c0, c1, h5, fr⟩ ih z' m' e hz T F c ec hc
  cases e
  rw [ec] at c0 c1
  refine ⟨fun q => ?_, fun q m2 u2 T2 y ey => ?_⟩
  · have ez : z.toNat = 0 := by omega
    rw [ez, stp.zero] at c1
    have c1 : c + ((0 : Nat) : Int) = ((stp n).length : Int) := c1
    refine loopF.iim (fun y j m2 => 0 ≤ y ∧ y ≤ (n : Int) ∧ j + 1 = ((stp y.toNat).length : Int) ∧ (stp y.toNat).length ≤ (stp n).length ∧ stp n = stp y.toNat ++ rowL (fun i => m2 (a0 + 1) ((stp y.toNat).length + i)) ((stp n).length - (stp y.toNat).length) ∧ ∀ b i, ¬ b = a0 + 1 → m2 b i = m b i) (fun _ j => (j + 1).toNat) ⟨by omega, by omega, by rw [Int.toNat_natCast]; omega, by rw [Int.toNat_natCast]; exact Nat.le_refl _, by rw [Int.toNat_natCast, Nat.sub_self]; exact (List.append_nil _).symm, fun _ _ _ => rfl⟩ (by omega) ?_
    rintro rc2 y j m2 ⟨y0, y1, hj, hl, hs, fr2⟩ ih2 y' j' m2' e hy hjr T2 F2
    cases e
    refine ⟨fun q2 => k m2 ?_ ?_ fun b i h1 h2 => ?_, fun q2 v ev m3 u3 T3 x ex => ?_⟩
    · have l0 : (stp y.toNat).length = 0 := by omega
      have y00 := stp.nil l0
      rw [y00, stp.zero] at hs
      have hs : stp n = rowL (fun i => m2 (a0 + 1) (0 + i)) ((stp n).length - 0) := hs
      have e4 : (m2 a0 4).toNat = (stp n).length := by
        rw [fr2 a0 4 (by omega), ec]
        omega
      rw [e4]
      have e5 : rowL (fun i => m2 (a0 + 1) (0 + i)) ((stp n).length - 0) = rowL (m2 (a0 + 1)) (stp n).length := by
        rw [Nat.sub_zero]
        exact rowL.ext fun i _ => by rw [Nat.zero_add]
      rw [← e5]
      exact hs.symm
    · rw [fr2 a0 5 (by omega)]; exact h5
    · rw [fr2 b i h2]; exact fr b i h1
    · obtain rfl := u3.is
      have lp : 0 < y.toNat := by
        apply Classical.byContradiction
        intro c9
        have : y.toNat = 0 := by omega
        rw [this, stp.zero] at hj
        have hj : j + 1 = ((0 : Nat) : Int) := hj
        omega
      have xe : x.toNat = y.toNat / 10 := by omega
      have ln := stp.len lp
      refine ih2 _ _ _ ⟨by omega, by omega, by rw [xe]; omega, by rw [xe]; omega, ?_, fun b i hb => by rw [mUp.no (by omega)]; exact fr2 b i hb⟩ (by omega)
      rw [xe]
      have hv : v = ((y.toNat % 10 : Nat) : Int) := by omega
      have jt : j.toNat = (stp (y.toNat / 10)).length := by omega
      have e9 : (stp n).length - (stp (y.toNat / 10)).length = ((stp n).length - (stp y.toNat).length) + 1 := by omega
      have r0 : mUp m2 (a0 + 1) j.toNat v (a0 + 1) ((stp (y.toNat / 10)).length + 0) = ((y.toNat % 10 : Nat) : Int) := by rw [mUp.yes ⟨rfl, by omega⟩, hv]
      have r1 : rowL (fun i => mUp m2 (a0 + 1) j.toNat v (a0 + 1) ((stp (y.toNat / 10)).length + (i + 1))) ((stp n).length - (stp y.toNat).length) = rowL (fun i => m2 (a0 + 1) ((stp y.toNat).length + i)) ((stp n).length - (stp y.toNat).length) := rowL.ext fun i _ => by
        rw [mUp.no (by omega), show (stp (y.toNat / 10)).length + (i + 1) = (stp y.toNat).length + i by omega]
      have key : ∀ R : List Int, stp y.toNat ++ R = stp (y.toNat / 10) ++ (((y.toNat % 10 : Nat) : Int) :: R) := fun R => by
        rw [stp.pos lp, List.append_assoc]
        rfl
      refine hs.trans ?_
      rw [e9, rowL.head, r0, r1]
      exact key _
  · obtain rfl := u2.is
    have lp : 0 < z.toNat := by omega
    have ln := stp.len lp
    have ye : y.toNat = z.toNat / 10 := by omega
    refine ih _ _ ⟨by omega, by omega, by rw [mUp.yes ⟨rfl, rfl⟩]; omega, by rw [mUp.yes ⟨rfl, rfl⟩, ye]; omega, by rw [mUp.no (by omega)]; exact h5, fun b i q1 => by rw [mUp.no (by omega)]; exact fr b i q1⟩ (by omega)
end GoBy
end
section
/-! Policies: what they are, when a test holds, what going through answers; tests of the class. -/
/-- rows; places of ways: their numbers, what follows them, how many -/
abbrev Pol : Type := List Rw × (Nat → Int) × (Nat → Bs) × Nat
def lgt (l : List Int) (i : Nat) : Int := (l[i]?).getD 0
theorem lgt.row {f : Nat → Int} {n i : Nat} (h : i < n) : lgt (rowL f n) i = f i := by
  unfold lgt
  rw [rowL.get h]
  rfl
/-- policies; addresses and lengths of prefixes; today's verdict; what a partner is -/
abbrev Ju : Type := (Int → Pol) × (Nat → Int) × (Nat → Int) × (Int → Int → Int) × (Int → Int → Int)
abbrev jP (J : Ju) : Int → Pol := J.1
abbrev jA (J : Ju) : Nat → Int := J.2.1
abbrev jL (J : Ju) : Nat → Int := J.2.2.1
abbrev jV (J : Ju) : Int → Int → Int := J.2.2.2.1
abbrev jR (J : Ju) : Int → Int → Int := J.2.2.2.2
def relT (v b a : Int) : Prop := (a = 0 ∧ v < b) ∨ (a = 1 ∧ v = b) ∨ (a = 2 ∧ b < v)
/-- who began a way -/
def begN (d : Int) (l : List Int) : Int := if l.length = 0 then d else lgt l (l.length - 1)
def isT (J : Ju) (p d q : Int) (t : Tst) (r : Rt) : Prop :=
  if t.1 = 4 then t.2.2.2.1 ≤ jL J r.1.toNat ∧ jL J r.1.toNat ≤ t.2.2.2.2.1 ∧ bAnd (jA J r.1.toNat) (mskF t.2.2.2.1) = t.2.2.1
  else if t.1 = 6 then wyM (jP J p).2.1 (jP J p).2.2.1 t.2.2.2.2.2 (jP J p).2.2.2 (lgt (wOf r)) (wOf r).length
  else if t.1 = 8 then t.2.2.1 ∈ mOf r
  else if t.1 = 9 then q = t.2.2.1
  else if t.1 = 10 then jR J d q = t.2.2.1
  else if t.1 = 11 then relT ((wOf r).length : Int) t.2.2.2.1 t.2.2.1
  else if t.1 = 12 then relT r.2.1 t.2.2.2.1 t.2.2.1
  else if t.1 = 13 then relT r.2.2.2.1 t.2.2.2.1 t.2.2.1
  else if t.1 = 14 then r.2.2.1 = t.2.2.1
  else if t.1 = 15 then jV J r.1 (begN d (wOf r)) = t.2.2.1
  else False
section IsT
variable {J : Ju} {p d q : Int} {t : Tst} {r : Rt}
theorem isT.c4 (h : t.1 = 4) : isT J p d q t r ↔ (t.2.2.2.1 ≤ jL J r.1.toNat ∧ jL J r.1.toNat ≤ t.2.2.2.2.1 ∧ bAnd (jA J r.1.toNat) (mskF t.2.2.2.1) = t.2.2.1) := by
  unfold isT
  rw [if_pos h]
theorem isT.c6 (h : t.1 = 6) : isT J p d q t r ↔ wyM (jP J p).2.1 (jP J p).2.2.1 t.2.2.2.2.2 (jP J p).2.2.2 (lgt (wOf r)) (wOf r).length := by
  unfold isT
  rw [if_neg (by omega), if_pos h]
theorem isT.c8 (h : t.1 = 8) : isT J p d q t r ↔ t.2.2.1 ∈ mOf r := by
  unfold isT
  rw [if_neg (by omega), if_neg (by omega), if_pos h]
theorem isT.c9 (h : t.1 = 9) : isT J p d q t r ↔ q = t.2.2.1 := by
  unfold isT
  rw [if_neg (by omega), if_neg (by omega), if_neg (by omega), if_pos h]
theorem isT.c10 (h : t.1 = 10) : isT J p d q t r ↔ jR J d q = t.2.2.1 := by
  unfold isT
  rw [if_neg (by omega), if_neg (by omega), if_neg (by omega), if_neg (by omega), if_pos h]
theorem isT.c11 (h : t.1 = 11) : isT J p d q t r ↔ relT ((wOf r).length : Int) t.2.2.2.1 t.2.2.1 := by
  unfold isT
  rw [if_neg (by omega), if_neg (by omega), if_neg (by omega), if_neg (by omega), if_neg (by omega), if_pos h]
theorem isT.c12 (h : t.1 = 12) : isT J p d q t r ↔ relT r.2.1 t.2.2.2.1 t.2.2.1 := by
  unfold isT
  rw [if_neg (by omega), if_neg (by omega), if_neg (by omega), if_neg (by omega), if_neg (by omega), if_neg (by omega), if_pos h]
theorem isT.c13 (h : t.1 = 13) : isT J p d q t r ↔ relT r.2.2.2.1 t.2.2.2.1 t.2.2.1 := by
  unfold isT
  rw [if_neg (by omega), if_neg (by omega), if_neg (by omega), if_neg (by omega), if_neg (by omega), if_neg (by omega), if_neg (by omega), if_pos h]
theorem isT.c14 (h : t.1 = 14) : isT J p d q t r ↔ r.2.2.1 = t.2.2.1 := by
  unfold isT
  rw [if_neg (by omega), if_neg (by omega), if_neg (by omega), if_neg (by omega), if_neg (by omega), if_neg (by omega), if_neg (by omega), if_neg (by omega), if_pos h]
theorem isT.c15 (h : t.1 = 15) : isT J p d q t r ↔ jV J r.1 (begN d (wOf r)) = t.2.2.1 := by
  unfold isT
  rw [if_neg (by omega), if_neg (by omega), if_neg (by omega), if_neg (by omega), if_neg (by omega), if_neg (by omega), if_neg (by omega), if_neg (by omega), if_neg (by omega), if_pos h]
theorem isT.no (h : ¬ t.1 = 4 ∧ ¬ t.1 = 6 ∧ ¬ (8 ≤ t.1 ∧ t.1 ≤ 15)) : ¬ isT J p d q t r := by
  unfold isT
  rw [if_neg (by omega), if_neg (by omega), if_neg (by omega), if_neg (by omega), if_neg (by omega), if_neg (by omega), if_neg (by omega), if_neg (by omega), if_neg (by omega), if_neg (by omega)]
  exact id
end IsT
/-- a test holds, or, turned, doesn't -/
def tsT (J : Ju) (p d q : Int) (t : Tst) (r : Rt) : Prop := ¬ (isT J p d q t r ↔ t.2.1 = 1)
noncomputable def gpJ (J : Ju) (d q : Int) (n : Nat) (p : Int) (s : Js) : Je := goP (fun p => (jP J p).1) (fun p => tsT J p d q) n p s
/-- what going through a policy answers -/
noncomputable def thJ (J : Ju) (pl d q : Int) (r : Rt) : Bool × Rt := if pl = -99999999 then (true, r) else (decide (¬ (gpJ J d q 12 pl (0, r)).1 = 2), (gpJ J d q 12 pl (0, r)).2.2)
/-- a test, an act as the reader leaves them -/
def tOk (t : Tst) : Prop := (t.1 = 4 ∨ t.1 = 6 ∨ (8 ≤ t.1 ∧ t.1 ≤ 15)) ∧ (t.2.1 = 0 ∨ t.2.1 = 1) ∧ (t.1 = 4 → (0 ≤ t.2.2.2.1 ∧ t.2.2.2.1 ≤ 32) ∧ (-2147483648 ≤ t.2.2.1 ∧ t.2.2.1 ≤ 2147483647) ∧ bAnd t.2.2.1 (bXor (mskF t.2.2.2.1) (-1)) = 0) ∧ (11 ≤ t.1 ∧ t.1 ≤ 13 → 0 ≤ t.2.2.1 ∧ t.2.2.1 ≤ 2) ∧ (t.1 = 15 → 0 ≤ t.2.2.1 ∧ t.2.2.1 ≤ 2)
def aOk (p : Int) (a : Act) : Prop := (a.1 = 12 → 0 ≤ a.2 ∧ a.2 ≤ 1000) ∧ (a.1 = 13 → 0 ≤ a.2 ∧ a.2 ≤ 1000000) ∧ (a.1 = 27 → 1 ≤ a.2 ∧ a.2 ≤ 9) ∧ (a.1 = 28 → 0 ≤ a.2 ∧ a.2 < p)
def jOk (J : Ju) : Prop := ∀ p, 0 ≤ p → ∀ x ∈ (jP J p).1, (∀ t ∈ x.1, tOk t) ∧ ∀ a ∈ x.2, aOk p a
theorem gpJ.eq {J : Ju} {d q p : Int} {s : Js} (ok : jOk J) (h0 : 0 ≤ p) (h1 : p < 12) : gpJ J d q 12 p s = goR (gpJ J d q 12) (tsT J p d q) (jP J p).1 s := by
  have cb : ∀ p, 0 ≤ p → callsB (jP J p).1 p := fun p hp x hx a ha e => ((ok p hp x hx).2 a ha).2.2.2 e
  show goR (goP (fun p => (jP J p).1) (fun p => tsT J p d q) 11) (tsT J p d q) (jP J p).1 s = _
  refine goR.cg fun x hx a ha e s => ?_
  have k := cb p h0 x hx a ha e
  exact goP.enough cb 11 12 a.2 s k.1 (by omega) (by omega)
theorem lCmp_iff {x y z : Int} (q : lCmp x y = z) (hx : -9223372036854775808 ≤ x ∧ x ≤ 9223372036854775807) (hy : -9223372036854775808 ≤ y ∧ y ≤ 9223372036854775807) : z = 0 ↔ x = y := ⟨fun h => lCmp_eq q hx hy h, fun e => Classical.byContradiction fun h => lCmp_nz q h e⟩
theorem loopF.i3 {B : (Int × Int × Int → Prop) → Int × Int × Int → Prop} (I : Int → Int → Int → Prop) (m : Int → Int → Int → Nat) {n : Nat} {x y z : Int} (h : I x y z) (hm : m x y z < n) (step : ∀ (rc : Int × Int × Int → Prop) (x y z : Int), I x y z → (∀ x' y' z', I x' y' z' → m x' y' z' < m x y z → rc (x', y', z')) → B rc (x, y, z)) : loopF B False n (x, y, z) := loopF.ind (fun s => I s.1 s.2.1 s.2.2) (fun s => m s.1 s.2.1 s.2.2) (fun rc s hI ih => step rc s.1 s.2.1 s.2.2 hI fun x' y' z' => ih (x', y', z')) n (x, y, z) h hm
/-! A policy of the class. -/
/-- a test as it stands in the code f; ff, fl: first and last places of ways, n of them -/
def tsC (n : Nat) (f ff fl : Nat → Int) (i : Nat) (t : Tst) : Prop := f i = t.1 ∧ f (i + 1) = t.2.1 ∧ (t.1 = 6 → (0 ≤ f (i + 2) ∧ f (i + 2) < (n : Int)) ∧ isS (ff (f (i + 2)).toNat) t.2.2.2.2.2.1 ∧ isS (fl (f (i + 2)).toNat) t.2.2.2.2.2.2.1 ∧ (f (i + 3) = 1 ↔ t.2.2.2.2.2.2.2)) ∧ (¬ t.1 = 6 → f (i + 2) = t.2.2.1 ∧ f (i + 3) = t.2.2.2.1 ∧ f (i + 4) = t.2.2.2.2.1)
def tsAC (n : Nat) (f ff fl : Nat → Int) : Nat → List Tst → Prop
  | _, [] => True
  | i, t :: l => tsC n f ff fl i t ∧ tsAC n f ff fl (i + 5) l
def acC (f : Nat → Int) : Nat → List Act → Prop
  | _, [] => True
  | i, a :: l => (f i = a.1 ∧ f (i + 1) = a.2) ∧ acC f (i + 2) l
def rwsC (n : Nat) (f ff fl : Nat → Int) : Nat → List Rw → Prop
  | _, [] => True
  | i, x :: l => (f i = (x.1.length : Int) ∧ f (i + 1) = (x.2.length : Int)) ∧ tsAC n f ff fl (i + 2) x.1 ∧ acC f (i + 2 + 5 * x.1.length) x.2 ∧ rwsC n f ff fl (i + 2 + 5 * x.1.length + 2 * x.2.length) l
/-- the cells of a policy: code, places, next, first, last -/
def plA (w : mW) (μ : mM) (b c cp cn cf cl : Nat) : Prop := (mAt w b 230 ∧ mAt w c 231 ∧ mAt w cp 232 ∧ mAt w cn 233 ∧ mAt w cf 234 ∧ mAt w cl 235) ∧ μ b 1 = (c : Int) ∧ μ b 2 = (cp : Int) ∧ μ b 3 = (cn : Int) ∧ μ b 4 = (cf : Int) ∧ μ b 5 = (cl : Int)
/-- places of ways -/
def plN (w : mW) (μ : mM) (cp cn : Nat) (P : Pol) : Prop := w.2.2.1 cp = P.2.2.2 ∧ ∀ k, k < P.2.2.2 → (μ cp k = P.2.1 k ∧ isS (μ cn k) (P.2.2.1 k)) ∧ -1 ≤ P.2.1 k
def plC (w : mW) (μ : mM) (b : Nat) (P : Pol) : Prop := ∃ c cp cn cf cl : Nat, plA w μ b c cp cn cf cl ∧ μ b 0 = (P.1.length : Int) ∧ rwsC (w.2.2.1 cf) (μ c) (μ cf) (μ cl) 0 P.1 ∧ plN w μ cp cn P
/-- what the class's judge reads -/
def jgC (w : mW) (μ : mM) (J : Ju) : Prop := (∀ p : Nat, (p : Int) < μ 21 8 → ∃ b : Nat, μ 22 p = (b : Int) ∧ plC w μ b (jP J (p : Int))) ∧ (∀ i, i < 10 → μ 7 i = jA J i ∧ μ 8 i = jL J i) ∧ ∀ x n : Int, 0 ≤ x → x ≤ 9 → vC μ x n (μ 6 18) (μ 6 18) = jV J x n
section JudC
variable {w : mW} {μ : mM}
theorem X10_maskOf_s {l : Int} {Q : Int → mM → Prop} (h : 0 ≤ l ∧ l ≤ 32) (k : Q (mskF l) μ) : WP_X10_maskOf_W w μ l Q := by
  refine ⟨fun c z _ e y ey => ?_, fun c => ?_⟩
  · have ez : z = 32 - l := by omega
    subst ez
    rw [mskF.pos c ey]
    exact k
  · rw [mskF.zero c]
    exact k
theorem X10_verdictOn_s {p n d e : Int} {Q : Int → mM → Prop} (k : Q (vC μ p n d e) μ) : WP_X10_verdictOn_W w μ p n d e Q := by
  refine loopF.ii (fun z i => 0 ≤ i ∧ (i = 0 ∨ i ≤ μ 6 17) ∧ z = vdF (apC μ p d e) (okC μ p n) i.toNat ∧ (z = 0 ∨ z = 2)) (fun _ i => (31 - i).toNat) ⟨by omega, Or.inl rfl, rfl, Or.inr rfl⟩ (by omega) ?_
  rintro rc z i ⟨i0, i1, hz, hz2⟩ ih z' i' e' rz ri m em rm
  cases e'
  refine ⟨fun g => ?_, fun g a ea ra => ?_⟩
  · have e1 : i.toNat = (μ 6 17).toNat := by omega
    unfold vC at k
    rw [← e1, ← hz] at k
    exact k
  have skip : ¬ apC μ p d e i.toNat → rc (z, i + 1) := fun hn => ih _ _ ⟨by omega, Or.inr (by omega), vd.skip hz i0 hn, hz2⟩ (by omega)
  have go : apC μ p d e i.toNat → ¬ okC μ p n i.toNat → rc (0, i + 1) := fun ha hn => ih _ _ ⟨by omega, Or.inr (by omega), vd.go hz i0 ha (Or.inr ⟨hn, by omega⟩), Or.inl rfl⟩ (by omega)
  have J4 : ∀ f1 f2 zl f3 : Int, (f1 = 0 ∨ f1 = 1) → (f2 = 0 ∨ f2 = 1) → μ 8 p.toNat = zl → ((f1 = 1 ∧ f2 = 1 ∧ f3 = 1) ↔ apC μ p d e i.toNat) → WJ_X10_verdictOn_W_4 μ n Q rc z i f1 f2 zl f3 := by
    intro f1 f2 zl f3 h1 h2 el H r3
    refine ⟨fun c => skip fun a => by have := H.mpr a; omega, fun c => ⟨fun c2 => skip fun a => by have := H.mpr a; omega, fun c2 => ⟨fun c3 x ex rx => ?_, fun c3 => skip fun a => by have := H.mpr a; omega⟩⟩⟩
    have ap := H.mp ⟨by omega, by omega, by omega⟩
    refine ⟨fun c4 => go ap fun o => c4 (ex.symm.trans o.1), fun c4 y ey ry => ⟨fun c5 => go ap fun o => ?_, fun c5 => ?_⟩⟩
    · have o2 := o.2
      rw [el, ey] at o2
      omega
    · have ok : okC μ p n i.toNat := ⟨ex.trans c4, by rw [el, ey]; exact c5⟩
      unfold vC at k
      rw [← vd.one (n := μ 6 17) ⟨i0, by omega⟩ ap ok] at k
      exact k
  have J3 : ∀ f1 f2 : Int, (f1 = 0 ∨ f1 = 1) → (f2 = 0 ∨ f2 = 1) → (f1 = 1 ↔ (μ 17 i.toNat ≤ d ∧ d < μ 18 i.toNat)) → (f2 = 1 ↔ (μ 19 i.toNat ≤ e ∧ (μ 20 i.toNat = -1 ∨ e < μ 20 i.toNat))) → WJ_X10_verdictOn_W_3 μ p n Q rc z i f1 f2 := by
    intro f1 f2 h1 h2 H1 H2 _ x ex rx l el rl zl ezl rzl
    refine ⟨fun c => J4 f1 f2 zl 0 h1 h2 ezl ⟨fun g => absurd g.2.2 (by decide), fun g => ?_⟩, fun c y ey ry v ev rv u eu s es rs => ⟨fun c2 => J4 f1 f2 zl 0 h1 h2 ezl ⟨fun g => absurd g.2.2 (by decide), fun g => ?_⟩, fun c2 => J4 f1 f2 zl 1 h1 h2 ezl ⟨fun g => ?_, fun g => ?_⟩⟩⟩
    · have g1 := g.1.2.2.2.2
      rw [ex, el, ezl] at g1
      omega
    · have g2 := g.2
      rw [ex, ey, ev, es, eu] at g2
      exact absurd g2 c2
    · have a1 := H1.mp g.1
      have a2 := H2.mp g.2.1
      refine ⟨⟨a1.1, a1.2, a2.1, a2.2, ?_⟩, ?_⟩
      · rw [ex, el, ezl]; exact c
      · rw [ex, ey, ev, es, eu]; exact c2
    · exact ⟨H1.mpr ⟨g.1.1, g.1.2.1⟩, H2.mpr ⟨g.1.2.2.1, g.1.2.2.2.1⟩, rfl⟩
  have J2 : ∀ f1 : Int, (f1 = 0 ∨ f1 = 1) → (f1 = 1 ↔ (μ 17 i.toNat ≤ d ∧ d < μ 18 i.toNat)) → WJ_X10_verdictOn_W_2 μ p n e Q rc z i f1 := by
    intro f1 h1 H1 _ x ex rx
    refine ⟨fun c => J3 f1 0 h1 (Or.inl rfl) H1 ⟨fun g => absurd g (by decide), fun g => by omega⟩, fun c y ey ry => ⟨fun c2 => J3 f1 1 h1 (Or.inr rfl) H1 ⟨fun _ => ⟨by omega, Or.inl (by omega)⟩, fun _ => rfl⟩, fun c2 => ⟨fun c3 => J3 f1 0 h1 (Or.inl rfl) H1 ⟨fun g => absurd g (by decide), fun g => by omega⟩, fun c3 => J3 f1 1 h1 (Or.inr rfl) H1 ⟨fun _ => ⟨by omega, Or.inr (by omega)⟩, fun _ => rfl⟩⟩⟩⟩
  refine ⟨fun c => J2 0 (Or.inl rfl) ⟨fun g => absurd g (by decide), fun g => by omega⟩, fun c y ey ry => ⟨fun c2 => J2 0 (Or.inl rfl) ⟨fun g => absurd g (by decide), fun g => by omega⟩, fun c2 => J2 1 (Or.inr rfl) ⟨fun _ => ⟨by omega, by omega⟩, fun _ => rfl⟩⟩⟩
theorem X5_tells_s {a0 a3 cp cn cf cl : Nat} {p1 p2 : Int} {P : Pol} {pc : Pce} {l : List Int} {Q : Int → mM → Prop} (hl : rowL (μ (a3 + 1)) (μ a3 7).toNat = l) (e2 : μ a0 2 = (cp : Int)) (e3 : μ a0 3 = (cn : Int)) (e4 : μ a0 4 = (cf : Int)) (e5 : μ a0 5 = (cl : Int))
    (hP : plN w μ cp cn P) (hi : 0 ≤ p1 ∧ p1 < (w.2.2.1 cf : Int)) (hf : isS (μ cf p1.toNat) pc.1) (he : isS (μ cl p1.toNat) pc.2.1) (h2 : p2 = 1 ↔ pc.2.2)
    (k : ∀ z : Int, (z = 1 ↔ wyM P.2.1 P.2.2.1 pc P.2.2.2 (lgt l) l.length) → Q z μ) : WP_X5_tells_W w μ a0 p1 p2 a3 Q := by
  obtain ⟨hm, hk⟩ := hP
  intro n en rn
  have ll : l.length = n.toNat := by rw [← hl, rowL.len, en]
  have wl : ∀ i, i < n.toNat → μ (a3 + 1) i = lgt l i := fun i hi => by
    rw [← hl, lgt.row (by rw [en]; exact hi)]
  rw [ll] at k
  refine ⟨fun c => ⟨fun g => absurd g (by omega), fun _ b eb _ ln eln _ => ⟨fun g x ex rx => ?_, fun g => ?_⟩⟩, fun c => k p2 (h2.trans (wyM.nil c).symm)⟩
  rotate_left 1
  · have eb' : b = cf := by omega
    subst eb'
    omega
  have eb' : b = cf := by omega
  subst eb'
  rw [ex] at hf
  refine loopF.i3 (fun o r i => 0 ≤ i ∧ i ≤ n ∧ isS o (opI P.2.1 P.2.2.1 pc.1 P.2.2.2 (lgt l) i.toNat) ∧ (0 < i → isS r (rcI P.2.1 P.2.2.1 pc.1 P.2.2.2 (lgt l) (i - 1).toNat))) (fun _ _ i => (21 - i).toNat) ⟨by omega, by omega, hf, fun q => absurd q (by omega)⟩ (by omega) ?_
  rintro rc o r i ⟨i0, i1, ho, hr⟩ ih o' r' i' e ro rr ri
  cases e
  refine ⟨fun g b5 eb5 _ ln5 _ _ y ey ry z ez c5 ec5 => ?_, fun g => ?_⟩
  · have eb5' : b5 = cl := by omega
    subst eb5'
    rw [ey] at he
    have ei : n = i := by omega
    subst ei
    have rz : -9223372036854775808 ≤ z ∧ z ≤ 9223372036854775807 := by
      rw [← ez]; exact r64i _
    have W := wyM.end (n := n) (i := n - 1) (by omega) (by omega) (hr (by omega)) he ez rz
    have C := lCmp_iff ec5 rz (by decide)
    exact ⟨fun q => k 0 ⟨fun e => absurd e (by decide), fun e => absurd (C.mp q) (W.mpr e)⟩, fun q => k 1 ⟨fun _ => W.mp fun e => q (C.mpr e), fun _ => rfl⟩⟩
  · refine loopF.i3 (fun r2 o2 k2 => 0 ≤ k2 ∧ k2 ≤ (P.2.2.2 : Int) ∧ isS r2 (rcS P.2.1 (opI P.2.1 P.2.2.1 pc.1 P.2.2.2 (lgt l) i.toNat) (lgt l i.toNat) k2.toNat) ∧ isS o2 (opS P.2.2.1 (rcS P.2.1 (opI P.2.1 P.2.2.1 pc.1 P.2.2.2 (lgt l) i.toNat) (lgt l i.toNat) k2.toNat))) (fun _ _ k2 => (41 - k2).toNat) ⟨by omega, by omega, rcS.zero, opS.zero⟩ (by omega) ?_
    rintro rc2 r2 o2 k2 ⟨k0, k1, hr2, ho2⟩ ih2 r2' o2' k2' e _ _ rk b2 eb2 _ m em _
    cases e
    have eb2' : b2 = cp := by omega
    subst eb2'
    rw [hm] at em
    refine ⟨fun g2 => ?_, fun g2 x2 ex2 _ => ?_⟩
    · have e2 : k2.toNat = P.2.2.2 := by omega
      refine ih _ _ _ ⟨by omega, by omega, opI.ofC ho2 e2 i0 rfl, fun _ => ?_⟩ (by omega)
      rw [show (i + 1 - 1).toNat = i.toNat by omega]
      exact rcI.ofC hr2 e2
    have kn : k2.toNat < P.2.2.2 := by omega
    obtain ⟨⟨hn, hx⟩, hge⟩ := hk k2.toNat kn
    rw [ex2] at hn
    have wv : ∀ v, μ (a3 + 1) i.toNat = v → v = lgt l i.toNat := fun v q => q.symm.trans (wl i.toNat (by omega))
    have skip : ¬ (opI P.2.1 P.2.2.1 pc.1 P.2.2.2 (lgt l) i.toNat k2.toNat ∧ (P.2.1 k2.toNat < 0 ∨ P.2.1 k2.toNat = lgt l i.toNat)) → rc2 (r2, o2, k2 + 1) := fun q => ih2 _ _ _ ⟨by omega, by omega, isS.skip hr2 k0 q rfl, opS.skip ho2 k0 q rfl⟩ (by omega)
    have J0 : ¬ (P.2.1 k2.toNat < 0 ∨ P.2.1 k2.toNat = lgt l i.toNat) → WJ_X5_tells_W_3 w μ a0 o rc2 r2 o2 k2 0 := fun q _ => ⟨fun _ => skip fun h => q h.2, fun h => absurd rfl h⟩
    have J1 : (P.2.1 k2.toNat < 0 ∨ P.2.1 k2.toNat = lgt l i.toNat) → WJ_X5_tells_W_3 w μ a0 o rc2 r2 o2 k2 1 := fun q => by
      intro _
      refine ⟨fun h => absurd h (by decide), fun _ a ea b3 eb3 c ec => ?_⟩
      have B := bLg.c (x := o) ⟨k0, by omega⟩ ea eb3
      have rb : -9223372036854775808 ≤ b3 ∧ b3 ≤ 9223372036854775807 := by
        rw [← eb3]; exact r64i _
      have C := lCmp_iff ec rb (by decide)
      refine ⟨fun h => skip fun h2 => ?_, fun h z ez z2 ez2 b4 eb4 _ _ _ _ y ey _ z3 ez3 => ?_⟩
      · exact (B.mpr ((ho k2.toNat).mpr h2.1)) (C.mp h)
      · have oo := (ho k2.toNat).mp (B.mp fun e => h (C.mpr e))
        have eb4' : b4 = cn := by omega
        subst eb4'
        rw [ey] at hx
        exact ih2 _ _ _ ⟨by omega, by omega, isS.put hr2 ⟨k0, by omega⟩ oo q ez ez2 rfl, opS.put ho2 k0 oo q hx ez3 rfl⟩ (by omega)
    exact ⟨fun c => J1 (Or.inl (by omega)), fun c v ev' _ => ⟨fun c2 => J0 (by have := wv v ev'; omega), fun c2 => J1 (Or.inr (by have := wv v ev'; omega))⟩⟩
theorem X1_isSo_s {J : Ju} {b c cp cn cf cl a i : Nat} {p d q : Int} {t : Tst} {r : Rt} {Q : Int → mM → Prop} (hA : plA w μ b c cp cn cf cl) (hP : plN w μ cp cn (jP J p)) (ht : tsC (w.2.2.1 cf) (μ c) (μ cf) (μ cl) i t) (ok : tOk t)
    (tb : ∀ i, i < 10 → μ 7 i = jA J i ∧ μ 8 i = jL J i) (vd : ∀ x n : Int, 0 ≤ x → x ≤ 9 → vC μ x n (μ 6 18) (μ 6 18) = jV J x n) (h2 : μ 21 2 = (a : Int)) (h3 : μ 21 3 = d) (h4 : μ 21 4 = q) (h5 : μ 21 5 = jR J d q) (hr : rtC μ a = some r)
    (k : ∀ z : Int, (z = 1 ↔ isT J p d q t r) → Q z μ) : WP_X1_isSo_W w μ b (i : Int) Q := by
  obtain ⟨_, x1, x2, x3, x4, x5⟩ := hA
  obtain ⟨t1, t2, t6, t7⟩ := ht
  have er := (rtC.get hr).2
  have wyr : rowL (μ (a + 1)) (μ a 7).toNat = wOf r := by rw [er]
  have mkr : rowL (μ (a + 2)) (μ a 8).toNat = mOf r := by rw [er]
  have r3 : μ a 3 = r.1 := by rw [er]
  have r4 : μ a 4 = r.2.1 := by rw [er]
  have r5 : μ a 5 = r.2.2.1 := by rw [er]
  have r6 : μ a 6 = r.2.2.2.1 := by rw [er]
  have rl : (wOf r).length = (μ a 7).toNat := by rw [← wyr, rowL.len]
  intro b1 eb1 _ ln _ _ A eA _ B eB _ C eC _ W eW _
  have eb : b1 = c := by omega
  subst eb
  rw [show ((i : Int) + 2).toNat = i + 2 by omega] at eA
  rw [show ((i : Int) + 3).toNat = i + 3 by omega] at eB
  rw [show ((i : Int) + 4).toNat = i + 4 by omega] at eC
  rw [Int.toNat_natCast, t1] at eW
  subst eW
  rw [eA, eB] at t6
  rw [eA, eB, eC] at t7
  refine ⟨fun g b2 f2 _ x ex rx L eL rL => ?_, fun n4 => ⟨fun g => k 0 ⟨fun e => absurd e (by decide), fun e => absurd e (isT.no (by omega))⟩, fun n5 => ⟨fun g => ?_, fun n6 => ⟨fun g => k 0 ⟨fun e => absurd e (by decide), fun e => absurd e (isT.no (by omega))⟩, fun n7 => ⟨fun g b2 f2 _ => ?_, fun n8 => ⟨fun g x ex rx => ?_, fun n9 => ⟨fun g x ex rx => ?_, fun n10 => ⟨fun g b2 f2 _ x ex rx y hy => ?_, fun n11 => ⟨fun g b2 f2 _ x ex rx y hy => ?_, fun n12 => ⟨fun g b2 f2 _ x ex rx y hy => ?_, fun n13 => ⟨fun g b2 f2 _ x ex rx => ?_, fun n14 => ⟨fun g b2 f2 _ x ex rx => ?_, fun n15 => k 0 ⟨fun e => absurd e (by decide), fun e => absurd e (isT.no (by omega))⟩⟩⟩⟩⟩⟩⟩⟩⟩⟩⟩⟩⟩
  · have e2 : b2 = a := by omega
    subst e2
    obtain ⟨a1, a2, a3⟩ := t7 (by omega)
    rw [r3] at ex
    obtain ⟨c7, c8⟩ := tb x.toNat (by omega)
    have o4 := (ok.2.2.1 g).1
    rw [← a2] at o4
    rw [← ex] at c7 c8
    have eL' : jL J r.1.toNat = L := by rw [← c8, ← eL, ex]
    have I := isT.c4 (J := J) (p := p) (d := d) (q := q) (r := r) g
    rw [← a1, ← a2, ← a3, eL'] at I
    refine ⟨fun u => k 0 ⟨fun e => absurd e (by decide), fun e => by have := I.mp e; omega⟩, fun u => ⟨fun v => k 0 ⟨fun e => absurd e (by decide), fun e => by have := I.mp e; omega⟩, fun v y ey ry => X10_maskOf_s o4 fun _ m em => ?_⟩⟩
    have ey' : jA J r.1.toNat = y := by rw [← c7, ← ey, ex]
    rw [ey', em] at I
    exact ⟨fun u2 => k 0 ⟨fun e => absurd e (by decide), fun e => absurd (I.mp e).2.2 u2⟩, fun u2 => k 1 ⟨fun _ => I.mpr ⟨u, v, u2⟩, fun _ => rfl⟩⟩
  · obtain ⟨a1, a2, a3, a4⟩ := t6 g
    have I := isT.c6 (J := J) (p := p) (d := d) (q := q) (r := r) g
    refine ⟨fun u b2 f2 _ => ?_, fun u b2 f2 _ => ?_⟩
    · have e2 : b2 = a := by omega
      subst e2
      refine X5_tells_s wyr x2 x3 x4 x5 hP a1 a2 a3 ?_ fun z hz _ => k z (hz.trans I.symm)
      exact ⟨fun e => absurd e (by decide), fun e => absurd (a4.mpr e) u⟩
    · have e2 : b2 = a := by omega
      subst e2
      refine X5_tells_s wyr x2 x3 x4 x5 hP a1 a2 a3 ?_ fun z hz _ => k z (hz.trans I.symm)
      exact ⟨fun _ => a4.mp u, fun _ => rfl⟩
  · have e2 : b2 = a := by omega
    subst e2
    have I := isT.c8 (J := J) (p := p) (d := d) (q := q) (r := r) g
    rw [← (t7 (by omega)).1, ← mkr] at I
    exact X7_hasMark_s fun z hz _ => k z (hz.trans I.symm)
  · have I := isT.c9 (J := J) (p := p) (d := d) (q := q) (r := r) g
    rw [← (t7 (by omega)).1, ← h4, ex] at I
    rw [h4] at ex
    subst ex
    exact ⟨fun u => k 0 ⟨fun e => absurd e (by decide), fun e => absurd (I.mp e) u⟩, fun u => k 1 ⟨fun _ => I.mpr u, fun _ => rfl⟩⟩
  · have I := isT.c10 (J := J) (p := p) (d := d) (q := q) (r := r) g
    rw [← (t7 (by omega)).1, ← h5, ex] at I
    exact ⟨fun u => k 0 ⟨fun e => absurd e (by decide), fun e => absurd (I.mp e) u⟩, fun u => k 1 ⟨fun _ => I.mpr u, fun _ => rfl⟩⟩
  · have e2 : b2 = a := by omega
    subst e2
    have I := isT.c11 (J := J) (p := p) (d := d) (q := q) (r := r) g
    have tt := ok.2.2.2.1 (by omega)
    rw [← (t7 (by omega)).1] at tt
    rw [← (t7 (by omega)).1, ← (t7 (by omega)).2.1, rl, ex, Int.toNat_of_nonneg rx.1] at I
    unfold relT at I
    exact ⟨fun u => k 0 ⟨fun e => absurd e (by decide), fun e => by have := I.mp e; omega⟩, fun u => k 1 ⟨fun _ => I.mpr (by omega), fun _ => rfl⟩⟩
  · have e2 : b2 = a := by omega
    subst e2
    have I := isT.c12 (J := J) (p := p) (d := d) (q := q) (r := r) g
    have tt := ok.2.2.2.1 (by omega)
    rw [← (t7 (by omega)).1] at tt
    rw [← (t7 (by omega)).1, ← (t7 (by omega)).2.1, ← r4, ex] at I
    unfold relT at I
    exact ⟨fun u => k 0 ⟨fun e => absurd e (by decide), fun e => by have := I.mp e; omega⟩, fun u => k 1 ⟨fun _ => I.mpr (by omega), fun _ => rfl⟩⟩
  · have e2 : b2 = a := by omega
    subst e2
    have I := isT.c13 (J := J) (p := p) (d := d) (q := q) (r := r) g
    have tt := ok.2.2.2.1 (by omega)
    rw [← (t7 (by omega)).1] at tt
    rw [← (t7 (by omega)).1, ← (t7 (by omega)).2.1, ← r6, ex] at I
    unfold relT at I
    exact ⟨fun u => k 0 ⟨fun e => absurd e (by decide), fun e => by have := I.mp e; omega⟩, fun u => k 1 ⟨fun _ => I.mpr (by omega), fun _ => rfl⟩⟩
  · have e2 : b2 = a := by omega
    subst e2
    have I := isT.c14 (J := J) (p := p) (d := d) (q := q) (r := r) g
    rw [← (t7 (by omega)).1, ← r5, ex] at I
    exact ⟨fun u => k 0 ⟨fun e => absurd e (by decide), fun e => absurd (I.mp e) u⟩, fun u => k 1 ⟨fun _ => I.mpr u, fun _ => rfl⟩⟩
  · have e2 : b2 = a := by omega
    subst e2
    have I := isT.c15 (J := J) (p := p) (d := d) (q := q) (r := r) g
    rw [← (t7 (by omega)).1, ← r3] at I
    have J1 : ∀ n : Int, n = begN d (wOf r) → WJ_X1_isSo_W_1 w μ Q A b2 n := by
      intro n hn _ v ev rv u eu ru
      refine X10_verdictOn_s ?_
      intro _
      rw [← eu, vd v n rv.1 rv.2]
      rw [← hn, ev] at I
      exact ⟨fun u => k 0 ⟨fun e => absurd e (by decide), fun e => absurd (I.mp e) u⟩, fun u => k 1 ⟨fun _ => I.mpr u, fun _ => rfl⟩⟩
    refine ⟨fun u y ey _ => J1 y ?_, fun u y ey _ => J1 y ?_⟩
    · unfold begN
      rw [if_pos (by rw [rl, ex]; omega), ← h3, ey]
    · unfold begN
      rw [if_neg (by rw [rl, ex]; omega), rl, ex, ← wyr, ex, lgt.row (by omega), ← ey]
      congr 1
      omega
end JudC
end
