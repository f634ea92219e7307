section
/-! The class does an event. -/
/-- the clock, the queue, how many are done -/
theorem snC.step {μ m : mM} {E : En} {S : Sn} {v : Int} {q : List Ev} (h : snC μ E S) (ly : LYC μ (eT E) (eD E)) (f : ∀ b i, ¬ (b = 32 ∧ (i = 10 ∨ i = 11 ∨ i = 12)) → ¬ b = 33 → ¬ b = 34 → m b i = μ b i)
    (hq : evC m = q) (hf : ∀ i, i < 800 → (¬ m 34 i = -1 ↔ ∃ x, (x, i) ∈ q)) (hv : m 32 11 = v) (hd : (m 32 12 - (μ 32 12 + 1)) % 4294967296 = 0) : snC m E (qu! (dn! (ck! S v)) q) := by
  obtain ⟨h1, h2, h3, h4, h5, h6, h7⟩ := h
  have tb : ∀ s, tbA m s = tbA μ s := fun s => congrArg Int.toNat (f 11 s (by omega) (by omega) (by omega))
  have db : ∀ s, dbA m s = dbA μ s := fun s => congrArg Int.toNat (f 10 s (by omega) (by omega) (by omega))
  have rt : ∀ a, 35 ≤ a → rtC m a = rtC μ a := fun a ha => rtC.of (fun i => f _ _ (by omega) (by omega) (by omega)) (fun i => f _ _ (by omega) (by omega) (by omega)) (fun i => f _ _ (by omega) (by omega) (by omega))
  refine ⟨fun s j hs hj => ?_, fun d p hd hp => ?_, hq, hf, hv, ?_, ?_⟩
  · have a := ly.1 s hs
    show rtC m (tbA m s + 4 + 6 * j) = _ ∧ (_ → m (tbA m s + 4 + 6 * j) 9 = _) ∧ rtC m (tbA m s + 7 + 6 * j) = _ ∧ m (tbA m s + 7 + 6 * j) 9 = _
    rw [tb, rt _ (by omega), f (tbA μ s + 4 + 6 * j) 9 (by omega) (by omega) (by omega), rt _ (by omega), f (tbA μ s + 7 + 6 * j) 9 (by omega) (by omega) (by omega)]
    exact h1 s j hs hj
  · have a := ly.2.1 d hd
    show m (dbA m d + 3) p = _ ∧ rtC m (dbA m d + 5 + 3 * p) = _
    rw [db, f _ _ (by omega) (by omega) (by omega), rt _ (by omega)]
    exact h2 d p hd hp
  · show (m 32 12 - (sDn S + 1)) % 4294967296 = 0
    omega
  · rw [rt 70 (by omega)]; exact h7
/-- something is heard -/
theorem snC.hear {μ m : mM} {E : En} {S : Sn} {t k : Nat} {o : Option Rt} {v : Int} (h : snC μ E S) (ly : LYC μ (eT E) (eD E)) (ht : t < eT E) (hk : k < 20)
    (f : ∀ b i, ¬ (tbA μ t + 4 + 6 * k ≤ b ∧ b ≤ tbA μ t + 6 + 6 * k) → m b i = μ b i) (ho : rtC m (tbA μ t + 4 + 6 * k) = o) (hv : m (tbA μ t + 4 + 6 * k) 9 = v) : snC m E (hd! S (20 * t + k) o v) := by
  obtain ⟨h1, h2, h3, h4, h5, h6, h7⟩ := h
  obtain ⟨l1, l2, l3, l4, l5, l6⟩ := ly
  have big := (l1 t ht).2.1
  have tb : ∀ s, tbA m s = tbA μ s := fun s => congrArg Int.toNat (f 11 s (by omega))
  have db : ∀ s, dbA m s = dbA μ s := fun s => congrArg Int.toNat (f 10 s (by omega))
  have rt : ∀ a, (a + 2 < tbA μ t + 4 + 6 * k ∨ tbA μ t + 6 + 6 * k < a) → rtC m a = rtC μ a := fun a h9 => rtC.of (fun i => f _ _ (by omega)) (fun i => f _ _ (by omega)) (fun i => f _ _ (by omega))
  refine ⟨fun s j hs hj => ?_, fun d p hd hp => ?_, ?_, fun i hi => ?_, ?_, ?_, ?_⟩
  · have a := l1 s hs
    have b := h1 s j hs hj
    show rtC m (tbA m s + 4 + 6 * j) = (if 20 * s + j = 20 * t + k then o else sHd S (20 * s + j)) ∧ (¬ (if 20 * s + j = 20 * t + k then o else sHd S (20 * s + j)) = none → m (tbA m s + 4 + 6 * j) 9 = (if 20 * s + j = 20 * t + k then v else sHw S (20 * s + j))) ∧ rtC m (tbA m s + 7 + 6 * j) = (sSd S (20 * s + j)).1 ∧ m (tbA m s + 7 + 6 * j) 9 = (sSd S (20 * s + j)).2
    rw [tb]
    by_cases c : s = t
    · subst c
      by_cases e : j = k
      · subst e
        rw [if_pos rfl, if_pos rfl, rt (tbA μ s + 7 + 6 * j) (by omega), f (tbA μ s + 7 + 6 * j) 9 (by omega)]
        exact ⟨ho, fun _ => hv, b.2.2⟩
      · rw [if_neg (by omega), if_neg (by omega), rt _ (by omega), f (tbA μ s + 4 + 6 * j) 9 (by omega), rt (tbA μ s + 7 + 6 * j) (by omega), f (tbA μ s + 7 + 6 * j) 9 (by omega)]
        exact b
    · have c1 := l3 s t hs ht c
      rw [if_neg (by omega), if_neg (by omega), rt _ (by omega), f (tbA μ s + 4 + 6 * j) 9 (by omega), rt (tbA μ s + 7 + 6 * j) (by omega), f (tbA μ s + 7 + 6 * j) 9 (by omega)]
      exact b
  · have a := l2 d hd
    have c := l5 t d ht hd
    show m (dbA m d + 3) p = _ ∧ rtC m (dbA m d + 5 + 3 * p) = _
    rw [db, f _ _ (by omega), rt _ (by omega)]
    exact h2 d p hd hp
  · have e : evC m = evC μ := by
      rw [evC.eq, evC.eq, f 32 10 (by omega)]
      refine lst.ext fun i _ => ?_
      rw [f 33 i (by omega), f 34 _ (by omega)]
    rw [e]; exact h3
  · rw [f 34 i (by omega)]; exact h4 i hi
  · rw [f 32 11 (by omega)]; exact h5
  · rw [f 32 12 (by omega)]; exact h6
  · rw [rt 70 (by omega)]; exact h7
theorem snG.step {E : En} {S : Sn} {v : Int} {e : Nat} (h : snG E S) (hv : 0 ≤ v) : snG E (qu! (dn! (ck! S v)) (remQ e (sQu S))) := by
  obtain ⟨s1, s2, s3, s4, s5, s6, s7, s8, s9, s0⟩ := h
  exact ⟨s1, s2, s3, s4.filter _, s5.sublist ((List.filter_sublist).map _), fun x hx => s6 x (remQ.mem.mp hx).1, s7, hv, s9, s0⟩
theorem snG.hear {E : En} {S : Sn} {k : Nat} {o : Option Rt} {v : Int} (h : snG E S) (ho : rtO (k % 10) o) (hx : eP E ≤ k % 10 → o = none) : snG E (hd! S k o v) := by
  obtain ⟨s1, s2, s3, s4, s5, s6, s7, s8, s9, s0⟩ := h
  refine ⟨s1, s2, fun j => ?_, s4, s5, s6, s7, s8, s9, fun j hj => ?_⟩
  · show rtO (j % 10) (if j = k then o else sHd S j)
    by_cases c : j = k
    · rw [if_pos c, c]; exact ho
    · rw [if_neg c]; exact s3 j
  · obtain ⟨b1, b2, b3⟩ := s0 j hj
    refine ⟨b1, b2, ?_⟩
    show (if j = k then o else sHd S j) = none
    by_cases c : j = k
    · rw [if_pos c]; rw [c] at hj; exact hx hj
    · rw [if_neg c]; exact b3
/-- what events leave alone below 192 -/
def loD (μ m : mM) : Prop := ∀ b i, b < 192 → ¬ (b = 21 ∧ 2 ≤ i ∧ i ≤ 7) → ¬ (b = 32 ∧ 9 ≤ i ∧ i ≤ 12) → ¬ b = 33 → ¬ b = 34 → ¬ (36 ≤ b ∧ b ≤ 69) → ¬ (73 ≤ b ∧ b ≤ 75) → m b i = μ b i
theorem loD.refl {μ : mM} : loD μ μ := fun _ _ _ _ _ _ _ _ _ => rfl
theorem loD.trans {μ m n : mM} (h : loD μ m) (k : loD m n) : loD μ n := fun b i h0 h1 h2 h3 h4 h5 h6 => (k b i h0 h1 h2 h3 h4 h5 h6).trans (h b i h0 h1 h2 h3 h4 h5 h6)
theorem loC.d {μ m : mM} (h : loC μ m) : loD μ m := fun b i h0 h1 h2 h3 h4 h5 h6 => h b i h0 h1 (by omega) h3 h4 h5 h6
theorem eN.dom {E : En} {t s : Nat} (ti : tiG E) (ht : t < eT E) : ∃ d : Nat, eN E t s = (d : Int) ∧ d < eD E := by
  have h := ti.1 t ht
  by_cases c : s = 0
  · have e : eN E t s = eA E t := if_pos c
    exact ⟨(eA E t).toNat, by rw [e]; omega, by omega⟩
  · have e : eN E t s = eB E t := if_neg c
    exact ⟨(eB E t).toNat, by rw [e]; omega, by omega⟩
theorem nextE.nil {E : En} {S : Sn} {v : Int} (h : sQu S = []) : nextE E v S = none := by
  unfold nextE
  rw [h]
theorem nextE.late {E : En} {S : Sn} {v : Int} {e : Ev} {q : List Ev} (h : sQu S = e :: q) (hv : v < e.1) : nextE E v S = none := by
  unfold nextE
  rw [h]
  exact if_pos hv
theorem nextE.go {E : En} {S : Sn} {v : Int} {e : Ev} {q : List Ev} (h : sQu S = e :: q) (hv : e.1 ≤ v) : nextE E v S = some (doEv E S e) := by
  unfold nextE
  rw [h]
  exact if_neg (by omega)
theorem doEv.say {E : En} {S : Sn} {e : Ev} (h : e.2 % 2 = 1) : doEv E S e = sayE E (qu! (dn! (ck! S e.1)) (remQ e.2 (sQu S))) (e.2 / 40) (e.2 / 20 % 2) (e.2 / 2 % 10) := if_pos h
theorem doEv.hear {E : En} {S : Sn} {e : Ev} (h : ¬ e.2 % 2 = 1) : doEv E S e = lookE E (hd! (qu! (dn! (ck! S e.1)) (remQ e.2 (sQu S))) (slt (e.2 / 40) (1 - e.2 / 20 % 2) (e.2 / 2 % 10)) (sSd S (e.2 / 2)).1 e.1) (eN E (e.2 / 40) (1 - e.2 / 20 % 2)) (e.2 / 2 % 10) := if_neg h
/-- a state in which an event's route has come -/
theorem snG.come {E : En} {S : Sn} {e : Ev} (h : snG E S) (he : 0 ≤ e.1) : snG E (hd! (qu! (dn! (ck! S e.1)) (remQ e.2 (sQu S))) (slt (e.2 / 40) (1 - e.2 / 20 % 2) (e.2 / 2 % 10)) (sSd S (e.2 / 2)).1 e.1) := by
  have em : slt (e.2 / 40) (1 - e.2 / 20 % 2) (e.2 / 2 % 10) % 10 = e.2 / 2 % 10 := by unfold slt; omega
  refine (h.step he).hear ?_ fun hk => ?_
  · have g := h.2.1 (e.2 / 2)
    rw [em]
    exact g
  · rw [em] at hk
    exact (h.2.2.2.2.2.2.2.2.2 (e.2 / 2) hk).2.1
theorem doEv.cn {E : En} {S : Sn} {e : Ev} (h : snG E S) (en : enG E) (he : 0 ≤ e.1 ∧ e.2 < 40 * eT E) : mdG E S 20 (doEv E S e) := by
  by_cases c : e.2 % 2 = 1
  · rw [doEv.say c]
    exact (sayE.cn (h.step he.1) en (by omega) (by omega) (by omega)).le (by omega)
  · rw [doEv.hear c]
    obtain ⟨d, ed, hd⟩ := eN.dom (s := 1 - e.2 / 20 % 2) en.1 (show e.2 / 40 < eT E by omega)
    rw [ed]
    have g := lookE.cn (h.come he.1) en hd (show e.2 / 2 % 10 < 10 by omega)
    have sb : slt (e.2 / 40) (1 - e.2 / 20 % 2) (e.2 / 2 % 10) < 20 * eT E := by unfold slt; omega
    have u : uS E S (hd! (qu! (dn! (ck! S e.1)) (remQ e.2 (sQu S))) (slt (e.2 / 40) (1 - e.2 / 20 % 2) (e.2 / 2 % 10)) (sSd S (e.2 / 2)).1 e.1) := ⟨fun k hk => ⟨if_neg (by omega), rfl⟩, fun _ _ => rfl⟩
    exact ⟨g.1, g.2.1, g.2.2.1, u.trans g.2.2.2⟩
section EvC
variable {w : mW} {μ : mM} {E : En} {S : Sn}
theorem X8_handOver_s {t s p : Nat} {Q : mM → Prop} (ev : envC w μ E) (st : snC μ E S) (ht : t < eT E) (hs : s < 2) (hp : p < 10)
    (k : ∀ m : mM, snC m E (hd! S (slt t (1 - s) p) (sSd S (slt t s p)).1 (sCk S)) → (∀ b i, b < 192 → m b i = μ b i) → Q m) : WP_X8_handOver_W w μ (tbA μ t) (s : Int) (p : Int) Q := by
  have ly := ev.2.2.2.1
  obtain ⟨l1, l2, l3, l4, l5, l6⟩ := ev.2.2.2.1
  obtain ⟨t1, t2, t3⟩ := l1 t ht
  intro _ b7 e7 _ _ b16 e16 _
  have e7' : b7 = tbA μ t + 4 + 6 * (10 * (1 - s) + p) := by
    rw [show ((1 - (s : Int)) * 10 + (p : Int)).toNat = 10 * (1 - s) + p by omega, (t3 _ (by omega)).1] at e7
    omega
  have e16' : b16 = tbA μ t + 7 + 6 * (10 * s + p) := by
    rw [show ((s : Int) * 10 + (p : Int)).toNat = 10 * s + p by omega, (t3 _ (by omega)).2] at e16
    omega
  subst e7' e16'
  have ap : apr (tbA μ t + 4 + 6 * (10 * (1 - s) + p)) (tbA μ t + 7 + 6 * (10 * s + p)) := by refine ⟨?_, ?_, ?_, ?_, ?_, ?_, ?_⟩ <;> omega
  refine X7_become_s ap fun m r o T F z ez _ m2 u2 T2 => ?_
  obtain rfl := u2.is
  have ez' : z = sCk S := by
    rw [← ez, o 32 11 (by omega) (by omega) (by omega)]
    exact st.2.2.2.2.1
  have so := (st.1 t (10 * s + p) ht (by omega)).2.2.1
  have g := snC.hear (m := mUp m (tbA μ t + 4 + 6 * (10 * (1 - s) + p)) 9 z) (k := 10 * (1 - s) + p) (v := z) (o := (sSd S (20 * t + (10 * s + p))).1) st ly ht (by omega) (fun b i q => by
    rw [mUp.no (by omega)]
    exact o b i (by omega) (by omega) (by omega)) (by rw [rtC.up9 (by omega), r]; exact so) (mUp.yes ⟨rfl, rfl⟩)
  have e1 : slt t (1 - s) p = 20 * t + (10 * (1 - s) + p) := by unfold slt; omega
  have e2 : slt t s p = 20 * t + (10 * s + p) := by unfold slt; omega
  refine k _ ?_ (fun b i hb => ?_)
  · rw [e1, e2, ← ez']; exact g
  · rw [mUp.no (by omega)]
    exact o b i (by omega) (by omega) (by omega)
theorem X8_doNext_s {v : Int} {Q : Int → mM → Prop} (hw : mWF w) (hT : mT w μ) (ev : envC w μ E) (st : snC μ E S) (sn : snG E S) (en : enG E)
    (k0 : nextE E v S = none → Q 0 μ) (k1 : ∀ (m : mM) (S1 : Sn), nextE E v S = some S1 → snC m E S1 → loD μ m → Q 1 m) : WP_X8_doNext_W w μ v Q := by
  have ly := ev.2.2.2.1
  have eq0 := st.2.2.1
  rw [evC.eq] at eq0
  intro z1 e1 r1
  refine ⟨fun c => k0 (nextE.nil ?_), fun c z8 e8 r8 z12 e12 r12 => ?_⟩
  · rw [← eq0, e1, c]; rfl
  obtain ⟨n, en1⟩ : ∃ n, (μ 32 10).toNat = n + 1 := ⟨(μ 32 10).toNat - 1, by omega⟩
  rw [en1, lst.head] at eq0
  have e8' : μ 33 0 = z8 := e8
  obtain ⟨i, ei⟩ : ∃ i : Nat, z8 = (i : Int) := ⟨z8.toNat, by omega⟩
  subst ei
  rw [e8', Int.toNat_natCast] at eq0
  rw [Int.toNat_natCast] at e12
  rw [e12] at eq0
  have hin : (z12, i) ∈ sQu S := by rw [← eq0]; exact List.mem_cons_self
  have h6 := sn.2.2.2.2.2.1 _ hin
  have hi : i < 40 * eT E := h6.1
  have h0 : 0 ≤ z12 := h6.2.1
  have t20 := en.1.2.2.1
  refine ⟨fun g m17 u17 T17 => ?_, fun g => k0 (nextE.late eq0.symm g)⟩
  obtain rfl := u17.is
  have nx : nextE E v S = some (doEv E S (z12, i)) := nextE.go eq0.symm g
  have ev17 : evC (mUp μ 32 11 z12) = sQu S := by
    have e : evC (mUp μ 32 11 z12) = evC μ := by
      rw [evC.eq, evC.eq, mUp.no (by omega)]
      refine lst.ext fun j _ => ?_
      rw [mUp.no (by omega), mUp.no (by omega)]
    rw [e]; exact st.2.2.1
  refine X8_canc_s hw T17 ev17 sn.2.2.2.2.1 (fun j hj => by rw [mUp.no (by omega)]; exact st.2.2.2.1 j hj) (by omega) fun m20 q20 f20 o20 T20 F20 z24 e24 _ z27 r27 e27 m30 u30 T30 z33 e33 z36 e36 z39 e39 z42 e42 z45 e45 z48 e48 z51 e51 z54 e54 z57 e57 => ?_
  obtain rfl := u30.is
  have F30 : mF lEC w μ (mUp m20 32 12 z27) := (((mF.refl.up (A_32 hw) mUp_ok rfl).call F20 rfl).up (A_32 hw) mUp_ok rfl)
  have ev30 := envC.fr hw hT ev F30
  have a30 : ∀ b j, ¬ (b = 32 ∧ (j = 10 ∨ j = 11 ∨ j = 12)) → ¬ b = 33 → ¬ b = 34 → mUp m20 32 12 z27 b j = μ b j := fun b j q1 q2 q3 => by
    rw [mUp.no (by omega), o20 b j q2 (by omega) (by omega), mUp.no (by omega)]
  have e24' : μ 32 12 = z24 := by
    rw [← e24, o20 32 12 (by omega) (by omega) (by omega), mUp.no (by omega)]
  have ev2 : evC (mUp m20 32 12 z27) = remQ i (sQu S) := by
    rw [← q20, evC.eq, evC.eq, mUp.no (by omega)]
    refine lst.ext fun j _ => ?_
    rw [mUp.no (by omega), mUp.no (by omega)]
  have s30 : snC (mUp m20 32 12 z27) E (qu! (dn! (ck! S z12)) (remQ i (sQu S))) := st.step ly a30 ev2 (fun j hj => by rw [mUp.no (by omega)]; exact f20 j hj) (by rw [mUp.no (by omega), o20 32 11 (by omega) (by omega) (by omega), mUp.yes ⟨rfl, rfl⟩]) (by rw [mUp.yes ⟨rfl, rfl⟩, e24']; exact e27)
  have g30 := sn.step (v := z12) (e := i) h0
  have lo30 : loD μ (mUp m20 32 12 z27) := fun b j h0 h1 h2 h3 h4 h5 h6 => a30 b j (by omega) h3 h4
  have x36 : z36 = ((i / 2 % 10 : Nat) : Int) := by omega
  have x45 : z45 = ((i / 20 % 2 : Nat) : Int) := by omega
  have x54 : z54 = ((i / 40 : Nat) : Int) := by omega
  subst x36 x45 x54
  have ht : i / 40 < eT E := by omega
  refine ⟨fun c2 b84 e84 h84 => ?_, fun c2 => ?_⟩
  · have hb : b84 = tbA (mUp m20 32 12 z27) (i / 40) := by
      have t1 := (ev30.2.2.2.1.1 (i / 40) ht).1
      rw [Int.toNat_natCast] at e84
      omega
    subst hb
    have odd : ¬ i % 2 = 1 := by omega
    refine X8_handOver_s ev30 s30 ht (by omega) (by omega) fun m87 s87 f87 T87 F87 => ?_
    have ev87 := envC.fr hw T30 ev30 (mF.refl.call F87 rfl)
    have tb : tbA m87 (i / 40) = tbA (mUp m20 32 12 z27) (i / 40) := congrArg Int.toNat (f87 11 _ (by omega))
    obtain ⟨a1, a2, _⟩ := ev87.2.2.2.2.1 (i / 40) ht
    rw [tb] at a1 a2
    refine X9_end_s ?_
    rw [a1, a2]
    have ep : (if 1 - ((i / 20 % 2 : Nat) : Int) = 0 then eA E (i / 40) else eB E (i / 40)) = eN E (i / 40) (1 - i / 20 % 2) := by
      unfold eN
      have z2 : i / 20 % 2 = 0 ∨ i / 20 % 2 = 1 := by omega
      rcases z2 with q | q
      · rw [q, if_neg (by omega), if_neg (by omega)]
      · rw [q, if_pos (by omega), if_pos (by omega)]
    rw [ep]
    obtain ⟨d, ed, hd⟩ := eN.dom (s := 1 - i / 20 % 2) en.1 ht
    have dv := doEv.hear (E := E) (S := S) (e := (z12, i)) odd
    have sl : slt (i / 40) (i / 20 % 2) (i / 2 % 10) = i / 2 := by unfold slt; omega
    rw [sl] at s87
    have s87 : snC m87 E (hd! (qu! (dn! (ck! S z12)) (remQ i (sQu S))) (slt (i / 40) (1 - i / 20 % 2) (i / 2 % 10)) (sSd S (i / 2)).1 z12) := s87
    have g87 := snG.come (e := (z12, i)) sn h0
    rw [ed] at dv ⊢
    intro _
    refine X8_look_s hw T87 ev87 s87 g87 en.1 en.2.1 en.2.2.1 hd (by omega) fun m s l _ _ => k1 m _ nx ?_ ?_
    · rw [dv]; exact s
    · exact (lo30.trans fun b j h0 _ _ _ _ _ _ => f87 b j h0).trans l.d
  · have odd : i % 2 = 1 := by omega
    refine X8_say_s hw T30 ev30 s30 g30 en.1 en.2.1 ht (by omega) (by omega) (en.2.2.1 _ ht) h0 fun m s l _ _ => k1 m _ nx ?_ ?_
    · rw [doEv.say (e := (z12, i)) odd]; exact s
    · exact lo30.trans (loC.d l)
end EvC
end
section
/-! The reference does an event. -/
/-- its number of an event, and ours -/
def evX (x : Nat) : Nat := if x < 400 then 2 * x else 2 * (x - 400) + 1
def xEv (e : Nat) : Nat := if e % 2 = 0 then e / 2 else 400 + e / 2
theorem evX.lt {x : Nat} (h : x < 800) : evX x < 800 := by
  unfold evX
  split <;> omega
theorem xEv.lt {e : Nat} (h : e < 800) : xEv e < 800 := by
  unfold xEv
  split <;> omega
theorem evX.inv {e : Nat} (h : e < 800) : evX (xEv e) = e := by
  have e0 : evX (xEv e) = (if xEv e < 400 then 2 * xEv e else 2 * (xEv e - 400) + 1) := rfl
  have e1 : xEv e = (if e % 2 = 0 then e / 2 else 400 + e / 2) := rfl
  rw [e0, e1]
  by_cases c : e % 2 = 0
  · rw [if_pos c, if_pos (by omega)]; omega
  · rw [if_neg c, if_neg (by omega)]; omega
theorem atR.lo {μ : mM} {x : Nat} (h : x < 400) : atR μ (evX x) = μ 157 x ∧ mdR μ (evX x) = μ 158 x := by
  unfold atR mdR evX
  rw [if_pos h, if_pos (by omega), if_pos (by omega), show 2 * x / 2 = x by omega]
  exact ⟨rfl, rfl⟩
theorem atR.hi {μ : mM} {x : Nat} (h : ¬ x < 400) : atR μ (evX x) = μ 159 (x - 400) ∧ mdR μ (evX x) = μ 160 (x - 400) := by
  unfold atR mdR evX
  rw [if_neg h, if_neg (by omega), if_neg (by omega), show (2 * (x - 400) + 1) / 2 = x - 400 by omega]
  exact ⟨rfl, rfl⟩
theorem loopF.i4 {B : (Int × Int × Int × Int → Prop) → Int × Int × Int × Int → Prop} (I : Int → Int → Int → Int → Prop) (m : Int → Nat) {n : Nat} {a b c z : Int} (h : I a b c z) (hm : m z < n) (step : ∀ (rc : Int × Int × Int × Int → Prop) (a b c z : Int), I a b c z → (∀ a' b' c' z', I a' b' c' z' → m z' < m z → rc (a', b', c', z')) → B rc (a, b, c, z)) : loopF B False n (a, b, c, z) := loopF.ind (fun s => I s.1 s.2.1 s.2.2.1 s.2.2.2) (fun s => m s.2.2.2) (fun rc s hI ih => step rc s.1 s.2.1 s.2.2.1 s.2.2.2 hI fun a' b' c' z' => ih (a', b', c', z')) n (a, b, c, z) h hm
section EvR
variable {w : mW} {μ : mM} {E : En} {S : Sn} {G : mM → Prop}
theorem X12_nextEvent_ev_s {q : List Ev} {Q : Int → mM → Prop} (hq : quR μ q) (k0 : (∀ e ∈ q, 2000000000 < e.1) → Q (-99999999) μ) (k1 : ∀ (x : Nat) (e : Ev) (r : List Ev), q = e :: r → e.1 ≤ 2000000000 → x < 800 → evX x = e.2 → Q (x : Int) μ) : WP_X12_nextEvent_Wev w μ Q := by
  refine loopF.i4 (fun b v y z => 0 ≤ z ∧ z ≤ 800 ∧ ((b = -99999999 ∧ ∀ x : Nat, (x : Int) < z → atR μ (evX x) < 0 ∨ 2000000000 < atR μ (evX x)) ∨ (0 ≤ b ∧ b < z ∧ v = atR μ (evX b.toNat) ∧ y = mdR μ (evX b.toNat) ∧ 0 ≤ v ∧ v ≤ 2000000000 ∧ ∀ x : Nat, (x : Int) < z → 0 ≤ atR μ (evX x) → atR μ (evX x) ≤ 2000000000 → v < atR μ (evX x) ∨ (v = atR μ (evX x) ∧ y ≤ mdR μ (evX x))))) (fun z => (801 - z).toNat) ⟨by omega, by omega, Or.inl ⟨rfl, fun x hx => by omega⟩⟩ (by omega) ?_
  rintro rc b v y z ⟨z0, z1, h⟩ ih b' v' y' z' e hb hv hy hz
  cases e
  have fin : ∀ u t : Int, u = atR μ (evX z.toNat) → t = mdR μ (evX z.toNat) → z < 800 → ((u < 0) → rc (b, v, y, (z + 1))) ∧ ((0 ≤ u) → ((2000000000 < u) → rc (b, v, y, (z + 1))) ∧ ((u ≤ 2000000000) → ((b = (-99999999)) → rc (z, u, t, (z + 1))) ∧ ((¬ b = (-99999999)) → ((u < v) → rc (z, u, t, (z + 1))) ∧ ((v ≤ u) → ((¬ u = v) → rc (b, v, y, (z + 1))) ∧ ((u = v) → ((y ≤ t) → rc (b, v, y, (z + 1))) ∧ ((t < y) → rc (z, u, t, (z + 1)))))))) := by
    intro u t eu et hz8
    have keep : (¬ (0 ≤ u ∧ u ≤ 2000000000) ∨ (¬ b = -99999999 ∧ (v < u ∨ (v = u ∧ y ≤ t)))) → rc (b, v, y, z + 1) := fun g => ih _ _ _ _ ⟨by omega, by omega, by
      rcases h with ⟨h1, h2⟩ | ⟨h1, h2, h3, h4, h5, h6, h7⟩
      · refine Or.inl ⟨h1, fun x hx => ?_⟩
        by_cases c : (x : Int) = z
        · have e : x = z.toNat := by omega
          rw [e, ← eu]
          omega
        · exact h2 x (by omega)
      · refine Or.inr ⟨h1, by omega, h3, h4, h5, h6, fun x hx q1 q2 => ?_⟩
        by_cases c : (x : Int) = z
        · have e : x = z.toNat := by omega
          rw [e, ← eu] at q1 q2
          rw [e, ← eu, ← et]
          omega
        · exact h7 x (by omega) q1 q2⟩ (by omega)
    have take : 0 ≤ u → u ≤ 2000000000 → (b = -99999999 ∨ u < v ∨ (u = v ∧ t < y)) → rc (z, u, t, z + 1) := fun g0 g1 g => ih _ _ _ _ ⟨by omega, by omega, Or.inr ⟨z0, by omega, eu, et, g0, g1, fun x hx q1 q2 => by
      by_cases c : (x : Int) = z
      · have e : x = z.toNat := by omega
        rw [e, ← eu, ← et]
        exact Or.inr ⟨rfl, Int.le_refl _⟩
      · rcases h with ⟨h1, h2⟩ | ⟨h1, h2, h3, h4, h5, h6, h7⟩
        · have := h2 x (by omega)
          omega
        · have := h7 x (by omega) q1 q2
          omega⟩⟩ (by omega)
    exact ⟨fun c => keep (by omega), fun c => ⟨fun c1 => keep (by omega), fun c1 => ⟨fun c2 => take c c1 (Or.inl c2), fun c2 => ⟨fun c3 => take c c1 (Or.inr (Or.inl c3)), fun c3 => ⟨fun c4 => keep (Or.inr ⟨c2, by omega⟩), fun c4 => ⟨fun c5 => keep (Or.inr ⟨c2, by omega⟩), fun c5 => take c c1 (Or.inr (Or.inr ⟨c4, c5⟩))⟩⟩⟩⟩⟩⟩
  refine ⟨fun g => ?_, fun g => ⟨fun c u eu _ t et _ => ?_, fun c u eu _ t et _ => ?_⟩⟩
  · have zz : z = 800 := by omega
    subst zz
    have tk : ∀ e ∈ q, e.2 < 800 ∧ atR μ (evX (xEv e.2)) = e.1 ∧ 0 ≤ e.1 ∧ evX (xEv e.2) = e.2 := fun e he => by
      obtain ⟨a1, a2, a3, _⟩ := hq.2.1 e he
      have x := evX.inv a1
      exact ⟨a1, by rw [x]; exact a2, a3, x⟩
    rcases h with ⟨h1, h2⟩ | ⟨h1, h2, h3, h4, h5, h6, h7⟩
    · subst h1
      refine k0 fun e he => ?_
      obtain ⟨a1, a2, a3, a4⟩ := tk e he
      have := h2 (xEv e.2) (by have := xEv.lt a1; omega)
      omega
    · have hin : (v, evX b.toNat) ∈ q := by
        rw [h3]
        exact hq.1 _ (evX.lt (by omega)) (by omega)
      have pw := hq.2.2
      cases q with
      | nil => cases hin
      | cons e r =>
        have pw := List.pairwise_cons.mp pw
        obtain ⟨a1, a2, a3, a4⟩ := tk e List.mem_cons_self
        have eb : e = (v, evX b.toNat) := by
          rcases List.mem_cons.mp hin with c | c
          · exact c.symm
          · have o := pw.1 _ c
            have o : e.1 < v ∨ (e.1 = v ∧ mdR μ e.2 < mdR μ (evX b.toNat)) := o
            have := h7 (xEv e.2) (by have := xEv.lt a1; omega) (by omega) (by omega)
            rw [a2, a4] at this
            omega
        have kk := k1 b.toNat e r rfl (by rw [eb]; exact h6) (by omega) (by rw [eb])
        rw [Int.toNat_of_nonneg h1] at kk
        exact kk
  · have a := atR.hi (μ := μ) (x := z.toNat) (by omega)
    refine fin u t ?_ ?_ g
    · rw [a.1, ← eu, show (z - 400).toNat = z.toNat - 400 by omega]
    · rw [a.2, ← et, show (z - 400).toNat = z.toNat - 400 by omega]
  · have a := atR.lo (μ := μ) (x := z.toNat) (by omega)
    exact fin u t (by rw [a.1, ← eu]) (by rw [a.2, ← et]) g
/-- the clock, the queue, how many are done -/
theorem snR.step {m : mM} {v : Int} {e : Nat} (h : snR μ E S) (hw : mWF w) (hT : mT w μ) (he : e < 800)
    (f : ∀ (b i : Nat), ¬ (b = 106 ∧ (i = 71 ∨ i = 73)) → ¬ (b = 157 ∧ e = 2 * i) → ¬ (b = 159 ∧ e = 2 * i + 1) → m b i = μ b i) (ha : atR m e = -1) (hv : m 106 71 = v) (hd : (m 106 73 - (μ 106 73 + 1)) % 4294967296 = 0) : snR m E (qu! (dn! (ck! S v)) (remQ e (sQu S))) := by
  obtain ⟨h1, h2, h3, h4, h5, h6⟩ := h
  have rt : ∀ r : Int, 0 ≤ r → rtR m r = rtR μ r := fun r hr => rtR.cg (hT.rb hw hr).1.2 (hT.rb hw hr).2.2 fun k hk => f _ _ (by omega) (by omega) (by omega)
  have ea : ∀ e', ¬ e' = e → atR m e' = atR μ e' := fun e' hne => by
    unfold atR
    by_cases c : e' % 2 = 0
    · rw [if_pos c, if_pos c, f 157 _ (by omega) (by omega) (by omega)]
    · rw [if_neg c, if_neg c, f 159 _ (by omega) (by omega) (by omega)]
  have em : ∀ e', mdR m e' = mdR μ e' := fun e' => by
    unfold mdR
    rw [f 158 _ (by omega) (by omega) (by omega), f 160 _ (by omega) (by omega) (by omega)]
  refine ⟨fun s hs => ?_, fun k hk => ?_, ⟨fun e' he' h0 => ?_, fun x hx => ?_, ?_⟩, hv, ?_, ?_⟩
  · obtain ⟨a1, a2, a3, a4, a5⟩ := h1 s hs
    show rtR m (130 + (s : Int)) = sHd S s ∧ (¬ sHd S s = none → m 154 s = sHw S s) ∧ rtR m (530 + (s : Int)) = (sSd S s).1 ∧ (if m 155 s = 0 then -1 else m 156 s) = (sSd S s).2 ∧ (0 ≤ m 157 s → rtR m (930 + (s : Int)) = (sSd S s).1)
    rw [rt _ (by omega), rt _ (by omega), rt _ (by omega), f 154 _ (by omega) (by omega) (by omega), f 155 _ (by omega) (by omega) (by omega), f 156 _ (by omega) (by omega) (by omega)]
    refine ⟨a1, a2, a3, a4, fun h0 => ?_⟩
    by_cases c : e = 2 * s
    · subst c
      unfold atR at ha
      rw [if_pos (by omega), show 2 * s / 2 = s by omega] at ha
      omega
    · rw [f 157 _ (by omega) (by omega) (by omega)] at h0
      exact a5 h0
  · show m 161 k = (sPk S k).1 ∧ rtR m (30 + (k : Int)) = (sPk S k).2
    rw [f 161 _ (by omega) (by omega) (by omega), rt _ (by omega)]
    exact h2 k hk
  · have hne : ¬ e' = e := fun c => by rw [c, ha] at h0; omega
    rw [ea e' hne] at h0 ⊢
    exact remQ.mem.mpr ⟨h3.1 e' he' h0, hne⟩
  · obtain ⟨hx1, hx2⟩ := remQ.mem.mp hx
    rw [ea _ hx2, em, f 106 72 (by omega) (by omega) (by omega)]
    exact h3.2.1 x hx1
  · have p := h3.2.2.filter (fun x => decide (¬ x.2 = e))
    refine List.Pairwise.imp (fun {x y} q => ?_) p
    rw [em, em]
    exact q
  · show (m 106 73 - (sDn S + 1)) % 4294967296 = 0
    omega
  · show m 106 72 = sMd S
    rw [f 106 72 (by omega) (by omega) (by omega)]; exact h6
/-- something is heard -/
theorem snR.hear {m : mM} {k : Nat} {o : Option Rt} {v : Int} (h : snR μ E S) (hw : mWF w) (hT : mT w μ) (hk : k < 400) (h20 : eT E ≤ 20) (hD : eD E ≤ 10)
    (f : ∀ (b i : Nat), ¬ (b = 126 ∧ 40 * (130 + (k : Int)) ≤ (i : Int) ∧ (i : Int) < 40 * (130 + (k : Int)) + 40) → ¬ (b = 154 ∧ i = k) → m b i = μ b i) (ho : rtR m (130 + (k : Int)) = o) (hv : m 154 k = v) : snR m E (hd! S k o v) := by
  obtain ⟨h1, h2, h3, h4, h5, h6⟩ := h
  have rt : ∀ r : Int, 0 ≤ r → ¬ r = 130 + (k : Int) → rtR m r = rtR μ r := fun r hr hne => rtR.cg (hT.rb hw hr).1.2 (hT.rb hw hr).2.2 fun j hj => f _ _ (by omega) (by omega)
  have c : ∀ (b i : Nat), ¬ b = 126 → ¬ b = 154 → m b i = μ b i := fun b i a1 a2 => f b i (by omega) (by omega)
  have ea : ∀ e, atR m e = atR μ e := fun e => by
    unfold atR
    rw [c 157 _ (by omega) (by omega), c 159 _ (by omega) (by omega)]
  have em : ∀ e, mdR m e = mdR μ e := fun e => by
    unfold mdR
    rw [c 158 _ (by omega) (by omega), c 160 _ (by omega) (by omega)]
  refine ⟨fun s hs => ?_, fun j hj => ?_, ⟨fun e he h0 => ?_, fun x hx => ?_, ?_⟩, ?_, ?_, ?_⟩
  · obtain ⟨a1, a2, a3, a4, a5⟩ := h1 s hs
    show rtR m (130 + (s : Int)) = (if s = k then o else sHd S s) ∧ (¬ (if s = k then o else sHd S s) = none → m 154 s = (if s = k then v else sHw S s)) ∧ rtR m (530 + (s : Int)) = (sSd S s).1 ∧ (if m 155 s = 0 then -1 else m 156 s) = (sSd S s).2 ∧ (0 ≤ m 157 s → rtR m (930 + (s : Int)) = (sSd S s).1)
    rw [rt (530 + (s : Int)) (by omega) (by omega), rt (930 + (s : Int)) (by omega) (by omega), c 155 _ (by omega) (by omega), c 156 _ (by omega) (by omega), c 157 _ (by omega) (by omega)]
    by_cases q : s = k
    · subst q
      rw [if_pos rfl, if_pos rfl]
      exact ⟨ho, fun _ => hv, a3, a4, a5⟩
    · rw [if_neg q, if_neg q, rt _ (by omega) (by omega), f 154 s (by omega) (by omega)]
      exact ⟨a1, a2, a3, a4, a5⟩
  · show m 161 j = (sPk S j).1 ∧ rtR m (30 + (j : Int)) = (sPk S j).2
    rw [c 161 _ (by omega) (by omega), rt _ (by omega) (by omega)]
    exact h2 j hj
  · rw [ea] at h0 ⊢
    exact h3.1 e he h0
  · rw [ea, em, c 106 72 (by omega) (by omega)]
    exact h3.2.1 x hx
  · refine List.Pairwise.imp (fun {x y} q => ?_) h3.2.2
    rw [em, em]
    exact q
  · rw [c 106 71 (by omega) (by omega)]; exact h4
  · rw [c 106 73 (by omega) (by omega)]; exact h5
  · rw [c 106 72 (by omega) (by omega)]; exact h6
theorem X12_eventAt_f_s {x : Nat} {Q : Int → mM → Prop} (k : Q (atR μ (evX x)) μ) : WP_X12_eventAt_Wf w μ (x : Int) Q := by
  refine ⟨fun c z ez _ => ?_, fun c z ez _ => ?_⟩
  · rw [(atR.hi (by omega)).1] at k
    rw [show ((x : Int) - 400).toNat = x - 400 by omega] at ez
    rw [← ez]; exact k
  · rw [(atR.lo (by omega)).1] at k
    rw [Int.toNat_natCast] at ez
    rw [← ez]; exact k
theorem X12_doEvent_s {x : Nat} {e : Ev} {q : List Ev} {Q : mM → Prop} (hw : mWF w) (hT : mT w μ) (ev : envR w μ E G) (hG : G μ) (gG : gSt G) (st : snR μ E S) (sn : snG E S) (en : enG E) (hM : 0 ≤ sMd S ∧ sMd S + 20 < 2147483647)
    (hq : sQu S = e :: q) (hx : x < 800) (hxe : evX x = e.2) (k : ∀ m : mM, snR m E (doEv E S e) → G m → loR μ m → Q m) : WP_X12_doEvent_W w μ (x : Int) Q := by
  have t20 := en.1.2.2.1
  have d10 := en.1.2.2.2.1
  have hin : e ∈ sQu S := by rw [hq]; exact List.mem_cons_self
  obtain ⟨hi, h0, hup⟩ := sn.2.2.2.2.2.1 _ hin
  obtain ⟨b1, b2, b3, b4⟩ := st.2.2.1.2.1 e hin
  obtain ⟨v, i⟩ := e
  have hi : i < 40 * eT E := hi
  have h0 : 0 ≤ v := h0
  have hup : ¬ eU E (i / 40) = 0 := hup
  have b2 : atR μ i = v := b2
  have hxe : evX x = i := hxe
  intro n en0 hn
  refine X12_eventAt_f_s ?_
  rw [hxe, b2]
  intro _ m1 u1 T1 z71 e71 _ z74 r74 e74 m2 u2 T2 z80 e80 z84 e84 z87 e87 z90 e90 z93 e93
  obtain rfl := u1.is
  obtain rfl := u2.is
  have hs2 : i / 2 = x % 400 ∧ (i % 2 = 1 ↔ 400 ≤ x) := by
    unfold evX at hxe
    by_cases c : x < 400
    · rw [if_pos c] at hxe; omega
    · rw [if_neg c] at hxe; omega
  have x80 : z80 = ((i / 2 : Nat) : Int) := by omega
  have x84 : z84 = ((i / 40 : Nat) : Int) := by omega
  have x90 : z90 = ((i / 20 % 2 : Nat) : Int) := by omega
  have x93 : z93 = ((i / 2 % 10 : Nat) : Int) := by omega
  subst x80 x84 x90 x93
  have ht : i / 40 < eT E := by omega
  have hne := (en.1.1 _ ht).1
  obtain ⟨a1, a2, a3, a4, a5, a6⟩ := ev.2.2.2.1 _ ht
  have z71e : z71 = μ 106 73 := by rw [← e71, mUp.no (by omega)]
  have lowM : ∀ (b j : Nat), ¬ (b = 106 ∧ (j = 71 ∨ j = 73)) → mUp (mUp μ 106 71 v) 106 73 z74 b j = μ b j := fun b j c => by rw [mUp.no (by omega), mUp.no (by omega)]
  have F2 : mF lER w μ (mUp (mUp μ 106 71 v) 106 73 z74) := ((mF.refl.up (A_106 hw) mUp_ok rfl).up (A_106 hw) mUp_ok rfl)
  refine ⟨fun c m3 u3 T3 => ?_, fun c m3 u3 T3 za ea _ zb eb _ => ?_⟩
  · obtain rfl := u3.is
    have even : ¬ i % 2 = 1 := by omega
    have s3 : snR (mUp (mUp (mUp μ 106 71 v) 106 73 z74) 157 ((i / 2 : Nat) : Int).toNat (-1)) E (qu! (dn! (ck! S v)) (remQ i (sQu S))) := st.step hw hT b1 (fun b j q1 q2 q3 => by rw [mUp.no (by omega)]; exact lowM b j q1) (by
      unfold atR
      rw [if_pos (by omega), mUp.yes ⟨rfl, by omega⟩]) (by rw [mUp.no (by omega), mUp.no (by omega), mUp.yes ⟨rfl, rfl⟩]) (by rw [mUp.no (by omega), mUp.yes ⟨rfl, rfl⟩, ← z71e]; exact e74)
    have F3 : mF lER w μ (mUp (mUp (mUp μ 106 71 v) 106 73 z74) 157 ((i / 2 : Nat) : Int).toNat (-1)) := F2.up (A_157 hw) mUp_ok rfl
    have sl : (2 * ((i / 40 : Nat) : Int) + (1 - ((i / 20 % 2 : Nat) : Int))) * 10 + ((i / 2 % 10 : Nat) : Int) = ((slt (i / 40) (1 - i / 20 % 2) (i / 2 % 10) : Nat) : Int) := by unfold slt; omega
    show (0 ≤ (2 * ((i / 40 : Nat) : Int) + (1 - ((i / 20 % 2 : Nat) : Int))) * 10 + ((i / 2 % 10 : Nat) : Int) ∧ (2 * ((i / 40 : Nat) : Int) + (1 - ((i / 20 % 2 : Nat) : Int))) * 10 + ((i / 2 % 10 : Nat) : Int) ≤ 449) → _
    rw [sl]
    intro r9 z9 _ _
    have s400 : slt (i / 40) (1 - i / 20 % 2) (i / 2 % 10) < 400 := by unfold slt; omega
    refine X12_copy_s (by omega) (by omega) (by omega) (T3.rb hw (by omega)).1.2 (T3.rb hw (by omega)).2.2 fun m4 r4 _ o4 T4 F4 y4 _ m5 u5 T5 zd ed _ => ?_
    obtain rfl := u5.is
    have said : rtR (mUp (mUp (mUp μ 106 71 v) 106 73 z74) 157 ((i / 2 : Nat) : Int).toNat (-1)) (930 + ((i / 2 : Nat) : Int)) = (sSd S (i / 2)).1 := by
      have g := (st.1 (i / 2) (by omega)).2.2.2.2
      have at_ : 0 ≤ μ 157 (i / 2) := by
        unfold atR at b2
        rw [if_pos (by omega)] at b2
        omega
      rw [← g at_]
      exact rtR.cg (hT.rb hw (by omega)).1.2 (hT.rb hw (by omega)).2.2 fun j hj => by rw [mUp.no (by omega)]; exact lowM _ _ (by omega)
    have s5 := snR.hear (m := mUp m4 154 ((slt (i / 40) (1 - i / 20 % 2) (i / 2 % 10) : Nat) : Int).toNat v) (k := slt (i / 40) (1 - i / 20 % 2) (i / 2 % 10)) (o := (sSd S (i / 2)).1) (v := v) s3 hw T3 s400 t20 d10 (fun b j q1 q2 => by
      rw [mUp.no (by omega)]
      exact o4 b j q1) (by
      rw [rtR.cg (μ := m4) (s := 130 + ((slt (i / 40) (1 - i / 20 % 2) (i / 2 % 10) : Nat) : Int)) (T4.rb hw (by omega)).1.2 (T4.rb hw (by omega)).2.2 (fun j hj => mUp.no (by omega)), r4]
      exact said) (mUp.yes ⟨rfl, by omega⟩)
    have g5 : G (mUp m4 154 ((slt (i / 40) (1 - i / 20 % 2) (i / 2 % 10) : Nat) : Int).toNat v) := gG μ _ hG fun b j q1 q2 q3 => by
      rw [mUp.no (by omega), o4 b j (by omega), mUp.no (by omega)]
      exact lowM b j (by omega)
    have F5 : mF lER w μ (mUp m4 154 ((slt (i / 40) (1 - i / 20 % 2) (i / 2 % 10) : Nat) : Int).toNat v) := (F3.call F4 rfl).up (A_154 hw) mUp_ok rfl
    have ev5 := ev.fr hw F5
    obtain ⟨c1, c2, _⟩ := ev5.2.2.2.1 _ ht
    have ed' : eN E (i / 40) (1 - i / 20 % 2) = zd := by
      rw [← ed]
      have z2 : i / 20 % 2 = 0 ∨ i / 20 % 2 = 1 := by omega
      rcases z2 with q | q
      · have e1 : eN E (i / 40) (1 - i / 20 % 2) = eB E (i / 40) := if_neg (by omega)
        have c2' := c2
        rw [e1, show (2 * ((i / 40 : Nat) : Int) + 1 - ((i / 20 % 2 : Nat) : Int)).toNat = 2 * (i / 40) + 1 by omega]
        exact c2'.symm
      · have e1 : eN E (i / 40) (1 - i / 20 % 2) = eA E (i / 40) := if_pos (by omega)
        have c1' := c1
        rw [e1, show (2 * ((i / 40 : Nat) : Int) + 1 - ((i / 20 % 2 : Nat) : Int)).toNat = 2 * (i / 40) by omega]
        exact c1'.symm
    obtain ⟨d, edd, hd⟩ := eN.dom (s := 1 - i / 20 % 2) en.1 ht
    have dv := doEv.hear (E := E) (S := S) (e := (v, i)) even
    rw [← ed', edd]
    rw [edd] at dv
    refine X12_look_s hw T5 ev5 g5 gG s5 (snG.come (e := (v, i)) sn h0) en.1 en.2.1 en.2.2.1 hd (by omega) hM fun m s g l _ _ => k m ?_ g fun j hj => ?_
    · rw [dv]; exact s
    · rw [l j hj, mUp.no (by omega), o4 126 j (by unfold slt; omega), mUp.no (by omega)]
      exact lowM _ _ (by omega)
  · obtain rfl := u3.is
    have odd : i % 2 = 1 := by omega
    have s3 : snR (mUp (mUp (mUp μ 106 71 v) 106 73 z74) 159 ((i / 2 : Nat) : Int).toNat (-1)) E (qu! (dn! (ck! S v)) (remQ i (sQu S))) := st.step hw hT b1 (fun b j q1 q2 q3 => by rw [mUp.no (by omega)]; exact lowM b j q1) (by
      unfold atR
      rw [if_neg (by omega), mUp.yes ⟨rfl, by omega⟩]) (by rw [mUp.no (by omega), mUp.no (by omega), mUp.yes ⟨rfl, rfl⟩]) (by rw [mUp.no (by omega), mUp.yes ⟨rfl, rfl⟩, ← z71e]; exact e74)
    have F3 : mF lER w μ (mUp (mUp (mUp μ 106 71 v) 106 73 z74) 159 ((i / 2 : Nat) : Int).toNat (-1)) := F2.up (A_159 hw) mUp_ok rfl
    have g3 : G (mUp (mUp (mUp μ 106 71 v) 106 73 z74) 159 ((i / 2 : Nat) : Int).toNat (-1)) := gG μ _ hG fun b j q1 q2 q3 => by
      rw [mUp.no (by omega)]
      exact lowM b j (by omega)
    have ev3 := ev.fr hw F3
    obtain ⟨c1, c2, c3, _⟩ := ev3.2.2.2.1 _ ht
    have dv := doEv.say (E := E) (S := S) (e := (v, i)) odd
    have lo3 : loR μ (mUp (mUp (mUp μ 106 71 v) 106 73 z74) 159 ((i / 2 : Nat) : Int).toNat (-1)) := fun j hj => by
      rw [mUp.no (by omega)]
      exact lowM _ _ (by omega)
    have eza : za = eA E (i / 40) := by
      rw [← ea, ← c1]
      congr 1
    have ezb : zb = eB E (i / 40) := by
      rw [← eb, ← c2]
      congr 1
    have up : ∀ (L : List Nat) (dd : Int), dd = eN E (i / 40) (i / 20 % 2) → WP_X12_say_W w (mUp (mUp (mUp μ 106 71 v) 106 73 z74) 159 ((i / 2 : Nat) : Int).toNat (-1)) dd ((i / 40 : Nat) : Int) ((i / 2 % 10 : Nat) : Int) (fun m => mT w m → mF L w (mUp (mUp (mUp μ 106 71 v) 106 73 z74) 159 ((i / 2 : Nat) : Int).toNat (-1)) m → Q m) := fun L dd hdd => X12_say_s hw T3 ev3 g3 gG s3 (sn.step h0) en.1 ht (by omega) hdd (by omega) hup ⟨hM.1, by have := hM.2; show sMd S < 2147483647; omega⟩ en.2.1 fun m s g l _ _ => k m (by rw [dv]; exact s) g (lo3.trans l)
    refine ⟨fun q2 => up _ _ ?_, fun q2 => up _ _ ?_⟩
    · rw [eza]
      unfold eN
      rw [if_pos (by omega)]
    · rw [ezb]
      unfold eN
      rw [if_neg (by omega)]
end EvR
end
section
/-! Going on: so many events; up to a moment. -/
theorem snC.clock {μ : mM} {E : En} {S : Sn} {v : Int} (h : snC μ E S) (ly : LYC μ (eT E) (eD E)) : snC (mUp μ 32 11 v) E (ck! S v) := by
  obtain ⟨h1, h2, h3, h4, h5, h6, h7⟩ := h
  have f : ∀ b i, ¬ (b = 32 ∧ i = 11) → mUp μ 32 11 v b i = μ b i := fun b i q => mUp.no q
  have tb : ∀ s, tbA (mUp μ 32 11 v) s = tbA μ s := fun s => congrArg Int.toNat (f 11 s (by omega))
  have db : ∀ s, dbA (mUp μ 32 11 v) s = dbA μ s := fun s => congrArg Int.toNat (f 10 s (by omega))
  have rt : ∀ a, 35 ≤ a → rtC (mUp μ 32 11 v) a = rtC μ a := fun a ha => rtC.of (fun i => f _ _ (by omega)) (fun i => f _ _ (by omega)) (fun i => f _ _ (by omega))
  refine ⟨fun s j hs hj => ?_, fun d p hd hp => ?_, ?_, fun i hi => ?_, mUp.yes ⟨rfl, rfl⟩, ?_, ?_⟩
  · have a := ly.1 s hs
    show rtC (mUp μ 32 11 v) (tbA (mUp μ 32 11 v) s + 4 + 6 * j) = _ ∧ (_ → mUp μ 32 11 v (tbA (mUp μ 32 11 v) s + 4 + 6 * j) 9 = _) ∧ rtC (mUp μ 32 11 v) (tbA (mUp μ 32 11 v) s + 7 + 6 * j) = _ ∧ mUp μ 32 11 v (tbA (mUp μ 32 11 v) s + 7 + 6 * j) 9 = _
    rw [tb, rt _ (by omega), f (tbA μ s + 4 + 6 * j) 9 (by omega), rt _ (by omega), f (tbA μ s + 7 + 6 * j) 9 (by omega)]
    exact h1 s j hs hj
  · have a := ly.2.1 d hd
    show mUp μ 32 11 v (dbA (mUp μ 32 11 v) d + 3) p = _ ∧ rtC (mUp μ 32 11 v) (dbA (mUp μ 32 11 v) d + 5 + 3 * p) = _
    rw [db, f _ _ (by omega), rt _ (by omega)]
    exact h2 d p hd hp
  · have e : evC (mUp μ 32 11 v) = evC μ := by
      rw [evC.eq, evC.eq, f 32 10 (by omega)]
      refine lst.ext fun i _ => ?_
      rw [f 33 i (by omega), f 34 _ (by omega)]
    rw [e]; exact h3
  · rw [f 34 i (by omega)]; exact h4 i hi
  · rw [f 32 12 (by omega)]; exact h6
  · rw [rt 70 (by omega)]; exact h7
theorem snR.clock {μ : mM} {E : En} {S : Sn} {v : Int} {w : mW} (h : snR μ E S) (hw : mWF w) (hT : mT w μ) : snR (mUp μ 106 71 v) E (ck! S v) := by
  obtain ⟨h1, h2, h3, h4, h5, h6⟩ := h
  have f : ∀ b i, ¬ (b = 106 ∧ i = 71) → mUp μ 106 71 v b i = μ b i := fun b i q => mUp.no q
  have rt : ∀ r : Int, 0 ≤ r → rtR (mUp μ 106 71 v) r = rtR μ r := fun r hr => rtR.cg (hT.rb hw hr).1.2 (hT.rb hw hr).2.2 fun k hk => f _ _ (by omega)
  have ea : ∀ e, atR (mUp μ 106 71 v) e = atR μ e := fun e => by
    unfold atR
    rw [f 157 _ (by omega), f 159 _ (by omega)]
  have em : ∀ e, mdR (mUp μ 106 71 v) e = mdR μ e := fun e => by
    unfold mdR
    rw [f 158 _ (by omega), f 160 _ (by omega)]
  refine ⟨fun s hs => ?_, fun k hk => ?_, ⟨fun e he h0 => ?_, fun x hx => ?_, ?_⟩, mUp.yes ⟨rfl, rfl⟩, ?_, ?_⟩
  · rw [rt _ (by omega), rt _ (by omega), rt _ (by omega), f 154 _ (by omega), f 155 _ (by omega), f 156 _ (by omega), f 157 _ (by omega)]
    exact h1 s hs
  · rw [f 161 _ (by omega), rt _ (by omega)]
    exact h2 k hk
  · rw [ea] at h0 ⊢
    exact h3.1 e he h0
  · rw [ea, em, f 106 72 (by omega)]
    exact h3.2.1 x hx
  · refine List.Pairwise.imp (fun {x y} q => ?_) h3.2.2
    rw [em, em]
    exact q
  · rw [f 106 73 (by omega)]; exact h5
  · rw [f 106 72 (by omega)]; exact h6
theorem goE.stop {E : En} {m : Int} {n : Nat} {S : Sn} (h : nextE E m S = none) : goE E m n S = (0, S) := by
  cases n with
  | zero => rfl
  | succ n =>
    show (match nextE E m S with | none => (0, S) | some S1 => ((goE E m n S1).1 + 1, (goE E m n S1).2)) = (0, S)
    rw [h]
theorem goE.more {E : En} {m : Int} {n : Nat} {S S1 : Sn} (h : nextE E m S = some S1) : goE E m (n + 1) S = ((goE E m n S1).1 + 1, (goE E m n S1).2) := by
  show (match nextE E m S with | none => (0, S) | some S1 => ((goE E m n S1).1 + 1, (goE E m n S1).2)) = _
  rw [h]
/-- where a run stands after i events: what is left of it -/
def goAt (E : En) (m : Int) (n : Nat) (S : Sn) (i : Nat) (T : Sn) : Prop := i ≤ n ∧ mdG E S (20 * (i : Int)) T ∧ (goE E m n S).1 = i + (goE E m (n - i) T).1 ∧ (goE E m n S).2 = (goE E m (n - i) T).2
theorem goAt.zero {E : En} {m : Int} {n : Nat} {S : Sn} (h : snG E S) : goAt E m n S 0 S := ⟨Nat.zero_le _, (mdG.refl h).le (by omega), by rw [Nat.sub_zero, Nat.zero_add], by rw [Nat.sub_zero]⟩
theorem goAt.all {E : En} {m : Int} {n : Nat} {S T : Sn} (h : goAt E m n S n T) : (goE E m n S).1 = n ∧ (goE E m n S).2 = T := by
  obtain ⟨_, _, h3, h4⟩ := h
  rw [Nat.sub_self] at h3 h4
  exact ⟨h3, h4⟩
theorem goAt.stop {E : En} {m : Int} {n i : Nat} {S T : Sn} (h : goAt E m n S i T) (e : nextE E m T = none) : (goE E m n S).1 = i ∧ (goE E m n S).2 = T := by
  obtain ⟨_, _, h3, h4⟩ := h
  rw [goE.stop e] at h3 h4
  exact ⟨h3, h4⟩
theorem nextE.of {E : En} {m : Int} {S T : Sn} (h : nextE E m S = some T) : ∃ e q, sQu S = e :: q ∧ e.1 ≤ m ∧ T = doEv E S e := by
  cases c : sQu S with
  | nil => rw [nextE.nil c] at h; cases h
  | cons e q =>
    by_cases g : m < e.1
    · rw [nextE.late c g] at h; cases h
    · rw [nextE.go c (by omega)] at h
      cases h
      exact ⟨e, q, rfl, by omega, rfl⟩
theorem goAt.next {E : En} {m : Int} {n i : Nat} {S T U : Sn} (en : enG E) (h : goAt E m n S i T) (hi : i < n) (e : nextE E m T = some U) : goAt E m n S (i + 1) U := by
  obtain ⟨_, h2, h3, h4⟩ := h
  rw [show n - i = (n - (i + 1)) + 1 by omega, goE.more e] at h3 h4
  obtain ⟨x, q, e1, _, e3⟩ := nextE.of e
  have hx := h2.1.2.2.2.2.2.1 x (by rw [e1]; exact List.mem_cons_self)
  refine ⟨hi, ?_, ?_, h4⟩
  · rw [e3]
    exact (h2.trans (doEv.cn h2.1 en ⟨hx.2.1, hx.1⟩)).le (by omega)
  · have h3 : (goE E m n S).1 = i + ((goE E m (n - (i + 1)) U).1 + 1) := h3
    omega
/-- the clock passes to a moment if nothing waits up to it -/
noncomputable def passE (E : En) (v : Int) (S : Sn) : Sn := cIf (nextE E v S = none) (ck! S v) S
section GoC
variable {w : mW} {μ : mM} {E : En} {S : Sn}
theorem X11_go_s {n : Int} {Q : Int → mM → Prop} (hw : mWF w) (hT : mT w μ) (ev : envC w μ E) (st : snC μ E S) (sn : snG E S) (en : enG E) (k0 : ¬ (1 ≤ n ∧ n ≤ 500) → Q (-1) μ)
    (k1 : 1 ≤ n → n ≤ 500 → ∀ m : mM, snC m E (goE E 2000000000 n.toNat S).2 → loD μ m → Q ((goE E 2000000000 n.toNat S).1 : Int) m) : WP_X11_go_W w μ n Q := by
  refine ⟨fun c => k0 (by omega), fun c => ⟨fun c2 => ?_, fun c2 => k0 (by omega)⟩⟩
  refine loopF.im (fun z m => 0 ≤ z ∧ z ≤ n ∧ loD μ m ∧ ∃ T, snC m E T ∧ goAt E 2000000000 n.toNat S z.toNat T) (fun z => (501 - z).toNat) ⟨by omega, by omega, loD.refl, S, st, goAt.zero sn⟩ (by omega) ?_
  rintro rc z m ⟨z0, z1, lo, U, hs, hg⟩ ih z' m' e hz T F
  cases e
  have evm := envC.fr hw hT ev (mF.refl.call F rfl)
  refine ⟨fun g => ?_, fun g => ?_⟩
  · have e : z.toNat = n.toNat := by omega
    rw [e] at hg
    have a := hg.all
    have kk := k1 c c2 m (by rw [a.2]; exact hs) lo
    rw [a.1, show ((n.toNat : Nat) : Int) = z by omega] at kk
    exact kk
  · refine X8_doNext_s hw T evm hs hg.2.1.1 en (fun e _ _ _ => ⟨fun _ => ?_, fun q => absurd rfl q⟩) (fun m2 U2 e s2 l2 _ _ _ => ⟨fun q => absurd q (by decide), fun _ => ih _ _ ⟨by omega, by omega, lo.trans l2, U2, s2, ?_⟩ (by omega)⟩)
    · have a := hg.stop e
      have kk := k1 c c2 m (by rw [a.2]; exact hs) lo
      rw [a.1, Int.toNat_of_nonneg z0] at kk
      exact kk
    · rw [show (z + 1).toNat = z.toNat + 1 by omega]
      exact hg.next en (by omega) e
theorem X8_passTo_s {v : Int} {Q : mM → Prop} (ev : envC w μ E) (st : snC μ E S) (k : ∀ m : mM, snC m E (passE E v S) → (∀ b i, ¬ (b = 32 ∧ i = 11) → m b i = μ b i) → Q m) : WP_X8_passTo_W w μ v Q := by
  have ly := ev.2.2.2.1
  have eq0 := st.2.2.1
  rw [evC.eq] at eq0
  have pass : nextE E v S = none → ∀ m : mM, mU μ 32 11 v m → Q m := fun e m u => by
    obtain rfl := u.is
    refine k _ ?_ (fun b i q => mUp.no q)
    unfold passE
    rw [cIf.pos e]
    exact st.clock ly
  intro z1 e1 r1
  refine ⟨fun c m u _ => pass (nextE.nil ?_) m u, fun c z8 e8 r8 z12 e12 r12 => ?_⟩
  · rw [← eq0, e1, c]; rfl
  obtain ⟨n, en1⟩ : ∃ n, (μ 32 10).toNat = n + 1 := ⟨(μ 32 10).toNat - 1, by omega⟩
  rw [en1, lst.head] at eq0
  have e8' : μ 33 0 = z8 := e8
  rw [e8', e12] at eq0
  refine ⟨fun g => k μ ?_ (fun _ _ _ => rfl), fun g m u _ => pass (nextE.late eq0.symm g) m u⟩
  unfold passE
  rw [cIf.neg (by rw [nextE.go eq0.symm g]; exact fun q => by cases q)]
  exact st
theorem X11_until_s {v : Int} {Q : Int → mM → Prop} (hw : mWF w) (hT : mT w μ) (ev : envC w μ E) (st : snC μ E S) (sn : snG E S) (en : enG E) (k0 : ¬ (sCk S ≤ v ∧ v ≤ 1000000000) → Q (-1) μ)
    (k1 : sCk S ≤ v → v ≤ 1000000000 → ∀ m : mM, snC m E (passE E v (goE E v 500 S).2) → loD μ m → Q ((goE E v 500 S).1 : Int) m) : WP_X11_until_W w μ v Q := by
  intro z1 e1 _
  rw [st.2.2.2.2.1] at e1
  subst e1
  refine ⟨fun c => k0 (by omega), fun c => ⟨fun c2 => ?_, fun c2 => k0 (by omega)⟩⟩
  refine loopF.im (fun z m => 0 ≤ z ∧ z ≤ 500 ∧ loD μ m ∧ ∃ T, snC m E T ∧ goAt E v 500 S z.toNat T) (fun z => (501 - z).toNat) ⟨by omega, by omega, loD.refl, S, st, goAt.zero sn⟩ (by omega) ?_
  rintro rc z m ⟨z0, z1, lo, U, hs, hg⟩ ih z' m' e hz T F
  cases e
  have evm := envC.fr hw hT ev (mF.refl.call F rfl)
  have fin : (goE E v 500 S).1 = z.toNat ∧ (goE E v 500 S).2 = U → ∀ L : List Nat, WP_X8_passTo_W w m v (fun m2 => mT w m2 → mF L w m m2 → Q z m2) := fun a L => X8_passTo_s evm hs fun m2 s2 f2 _ _ => by
    have kk := k1 c c2 m2 (by rw [a.2]; exact s2) (lo.trans fun b i h0 h1 h2 h3 h4 h5 h6 => f2 b i (by omega))
    rw [a.1, Int.toNat_of_nonneg z0] at kk
    exact kk
  refine ⟨fun g => ?_, fun g => ?_⟩
  · have e : z.toNat = 500 := by omega
    rw [e] at hg
    exact fin (by rw [e]; exact hg.all) _
  · refine X8_doNext_s hw T evm hs hg.2.1.1 en (fun e _ _ _ => ⟨fun _ => fin (hg.stop e) _, fun q => absurd rfl q⟩) (fun m2 U2 e s2 l2 _ _ _ => ⟨fun q => absurd q (by decide), fun _ => ih _ _ ⟨by omega, by omega, lo.trans l2, U2, s2, ?_⟩ (by omega)⟩)
    rw [show (z + 1).toNat = z.toNat + 1 by omega]
    exact hg.next en (by omega) e
end GoC
section GoR
variable {w : mW} {μ : mM} {E : En} {S : Sn} {G : mM → Prop}
theorem X12_in_s {x a b : Int} {Q : Int → mM → Prop} (k : ∀ z : Int, (z = 1 ↔ (a ≤ x ∧ x ≤ b)) → Q z μ) : WP_X12_in_W w μ x a b Q := by
  refine ⟨fun c => k 0 ⟨fun e => absurd e (by decide), fun e => by omega⟩, fun c => ⟨fun c2 => k 0 ⟨fun e => absurd e (by decide), fun e => by omega⟩, fun c2 => k 1 ⟨fun _ => ⟨by omega, by omega⟩, fun _ => rfl⟩⟩⟩
/-- what comes next, as the reference tells it -/
def cmR (q : List Ev) (b : Int) : Prop := (b = -99999999 ∧ ∀ e ∈ q, 2000000000 < e.1) ∨ ∃ (x : Nat) (e : Ev) (r : List Ev), b = (x : Int) ∧ q = e :: r ∧ e.1 ≤ 2000000000 ∧ x < 800 ∧ evX x = e.2
theorem X12_nextEvent_n_s {q : List Ev} {Q : Int → mM → Prop} (hq : quR μ q) (k : ∀ z : Int, cmR q z → Q z μ) : WP_X12_nextEvent_Wev w μ Q := X12_nextEvent_ev_s hq (fun h => k _ (Or.inl ⟨rfl, h⟩)) (fun x e r h1 h2 h3 h4 => k _ (Or.inr ⟨x, e, r, rfl, h1, h2, h3, h4⟩))
theorem cmR.none' {q : List Ev} (h : cmR q (-99999999)) : ∀ e ∈ q, 2000000000 < e.1 := by
  rcases h with ⟨_, h⟩ | ⟨x, e, r, h, _⟩
  · exact h
  · omega
theorem nextE.far {E : En} {S : Sn} {v : Int} (hv : v ≤ 2000000000) (h : ∀ e ∈ sQu S, 2000000000 < e.1) : nextE E v S = none := by
  cases c : sQu S with
  | nil => exact nextE.nil c
  | cons e q => exact nextE.late c (by have := h e (by rw [c]; exact List.mem_cons_self); omega)
theorem X12_go_s {n : Int} {Q : Int → mM → Prop} (hw : mWF w) (ev : envR w μ E G) (hG : G μ) (gG : gSt G) (st : snR μ E S) (sn : snG E S) (en : enG E) (hM : 0 ≤ sMd S ∧ sMd S + 10100 < 2147483647) (k0 : ¬ (1 ≤ n ∧ n ≤ 500) → Q (-1) μ)
    (k1 : 1 ≤ n → n ≤ 500 → ∀ m : mM, snR m E (goE E 2000000000 n.toNat S).2 → G m → loR μ m → Q ((goE E 2000000000 n.toNat S).1 : Int) m) : WP_X12_go_W w μ n Q := by
  refine X12_in_s fun y hy ry => ⟨fun cy => ?_, fun cy => k0 fun q => by have := hy.mpr q; omega⟩
  obtain ⟨c, c2⟩ := hy.mp (by omega)
  refine loopF.im (fun z m => 0 ≤ z ∧ z ≤ n ∧ G m ∧ loR μ m ∧ ∃ T, snR m E T ∧ goAt E 2000000000 n.toNat S z.toNat T) (fun z => (501 - z).toNat) ⟨by omega, by omega, hG, fun _ _ => rfl, S, st, goAt.zero sn⟩ (by omega) ?_
  rintro rc z m ⟨z0, z1, gm, lo, U, hs, hg⟩ ih z' m' e hz T F
  cases e
  have evm := ev.fr hw (mF.refl.call F rfl)
  refine ⟨fun g => ?_, fun g => ?_⟩
  · have e : z.toNat = n.toNat := by omega
    rw [e] at hg
    have a := hg.all
    have kk := k1 c c2 m (by rw [a.2]; exact hs) gm lo
    rw [a.1, show ((n.toNat : Nat) : Int) = z by omega] at kk
    exact kk
  refine X12_nextEvent_n_s hs.2.2.1 fun b hb _ => ⟨fun q => ?_, fun q => X12_nextEvent_n_s hs.2.2.1 fun b2 hb2 _ ti eti hti => ?_⟩
  · rw [q] at hb
    have a := hg.stop (nextE.far (Int.le_refl _) hb.none')
    have kk := k1 c c2 m (by rw [a.2]; exact hs) gm lo
    rw [a.1, Int.toNat_of_nonneg z0] at kk
    exact kk
  · rcases hb2 with ⟨_, h2⟩ | ⟨x, e, r, h1, h2, h3, h4, h5⟩
    · rcases hb with ⟨h1, _⟩ | ⟨x, e, r, h1, h2', h3, _⟩
      · exact absurd h1 q
      · have := h2 e (by rw [h2']; exact List.mem_cons_self)
        omega
    · subst h1
      have m1 := hg.2.1.2.1
      have m2 := hg.2.1.2.2
      refine X12_doEvent_s hw T evm gm gG hs hg.2.1.1 en ⟨by omega, by omega⟩ h2 h4 h5 fun m2 s2 g2 l2 _ _ => ih _ _ ⟨by omega, by omega, g2, lo.trans l2, _, s2, ?_⟩ (by omega)
      rw [show (z + 1).toNat = z.toNat + 1 by omega]
      exact hg.next en (by omega) (nextE.go h2 h3)
theorem X12_eventAt_s {x : Nat} {Q : Int → mM → Prop} (k : Q (atR μ (evX x)) μ) : WP_X12_eventAt_W w μ (x : Int) Q := by
  refine ⟨fun c z ez _ => ?_, fun c z ez _ => ?_⟩
  · rw [(atR.hi (by omega)).1] at k
    rw [show ((x : Int) - 400).toNat = x - 400 by omega] at ez
    rw [← ez]; exact k
  · rw [(atR.lo (by omega)).1] at k
    rw [Int.toNat_natCast] at ez
    rw [← ez]; exact k
theorem X12_until_s {v : Int} {Q : Int → mM → Prop} (hw : mWF w) (hT : mT w μ) (ev : envR w μ E G) (hG : G μ) (gG : gSt G) (st : snR μ E S) (sn : snG E S) (en : enG E) (hM : 0 ≤ sMd S ∧ sMd S + 10100 < 2147483647) (k0 : ¬ (sCk S ≤ v ∧ v ≤ 1000000000) → Q (-1) μ)
    (k1 : sCk S ≤ v → v ≤ 1000000000 → ∀ m : mM, snR m E (passE E v (goE E v 500 S).2) → G m → loR μ m → Q ((goE E v 500 S).1 : Int) m) : WP_X12_until_W w μ v Q := by
  intro z1 e1 _
  rw [st.2.2.2.1] at e1
  subst e1
  refine ⟨fun c => k0 (by omega), fun c => ⟨fun c2 => ?_, fun c2 => k0 (by omega)⟩⟩
  refine X12_nextEvent_n_s st.2.2.1 fun b0 hb0 rb0 => ?_
  refine loopF.iim (fun z b m => 0 ≤ z ∧ z ≤ 500 ∧ G m ∧ loR μ m ∧ ∃ T, snR m E T ∧ cmR (sQu T) b ∧ goAt E v 500 S z.toNat T) (fun z _ => (501 - z).toNat) ⟨by omega, by omega, hG, fun _ _ => rfl, S, st, hb0, goAt.zero sn⟩ (by omega) ?_
  rintro rc z b m ⟨z0, z1, gm, lo, U, hs, hb, hg⟩ ih z' b' m' e hz hbb T F
  cases e
  have evm := ev.fr hw (mF.refl.call F rfl)
  have at_ : ∀ (x : Nat) (e : Ev) (r : List Ev), sQu U = e :: r → evX x = e.2 → atR m (evX x) = e.1 := fun x e r h1 h2 => by
    rw [h2]
    exact (hs.2.2.1.2.1 e (by rw [h1]; exact List.mem_cons_self)).2.1
  have fin : (goE E v 500 S).1 = z.toNat ∧ (goE E v 500 S).2 = U → ∀ m2 : mM, snR m2 E (passE E v U) → G m2 → loR m m2 → Q z m2 := fun a m2 s2 g2 l2 => by
    have kk := k1 c c2 m2 (by rw [a.2]; exact s2) g2 (lo.trans l2)
    rw [a.1, Int.toNat_of_nonneg z0] at kk
    exact kk
  have pass : (goE E v 500 S).1 = z.toNat ∧ (goE E v 500 S).2 = U → nextE E v U = none → ∀ m2 : mM, mU m 106 71 v m2 → Q z m2 := fun a e m2 u => by
    obtain rfl := u.is
    refine fin a _ ?_ (gG m _ gm fun b i q1 q2 q3 => mUp.no (by omega)) (fun i hi => mUp.no (by omega))
    unfold passE
    rw [cIf.pos e]
    exact hs.clock hw T
  have J : (goE E v 500 S).1 = z.toNat ∧ (goE E v 500 S).2 = U → WJ_X12_until_W_2 w v Q z b m := fun a => by
    refine ⟨fun q m2 u2 _ => ?_, fun q => ?_⟩
    · rw [q] at hb
      exact pass a (nextE.far (by omega) hb.none') m2 u2
    · rcases hb with ⟨h1, _⟩ | ⟨x, e, r, h1, h2, h3, h4, h5⟩
      · exact absurd h1 q
      subst h1
      refine X12_eventAt_s ?_
      rw [at_ x e r h2 h5]
      intro _
      refine ⟨fun g => fin a m ?_ gm (fun _ _ => rfl), fun g m2 u2 _ => pass a (nextE.late h2 g) m2 u2⟩
      unfold passE
      rw [cIf.neg (by rw [nextE.go h2 g]; exact fun q => by cases q)]
      exact hs
  refine ⟨fun g => J ?_, fun g => ⟨fun q => J (hg.stop ?_), fun q => ?_⟩⟩
  · have e : z.toNat = 500 := by omega
    rw [e] at hg ⊢
    exact hg.all
  · rw [q] at hb
    exact nextE.far (by omega) hb.none'
  · rcases hb with ⟨h1, _⟩ | ⟨x, e, r, h1, h2, h3, h4, h5⟩
    · exact absurd h1 q
    subst h1
    refine X12_eventAt_s ?_
    rw [at_ x e r h2 h5]
    intro _
    refine ⟨fun g2 => J (hg.stop (nextE.late h2 g2)), fun g2 ti eti hti => ?_⟩
    have m1 := hg.2.1.2.1
    have m2 := hg.2.1.2.2
    refine X12_doEvent_s hw T evm gm gG hs hg.2.1.1 en ⟨by omega, by omega⟩ h2 h4 h5 fun m2 s2 g3 l2 _ _ => X12_nextEvent_n_s s2.2.2.1 fun b2 hb2 _ => ih _ _ _ ⟨by omega, by omega, g3, lo.trans l2, _, s2, hb2, ?_⟩ (by omega)
    rw [show (z + 1).toNat = z.toNat + 1 by omega]
    exact hg.next en (by omega) (nextE.go h2 g2)
end GoR
end
section
/-! What a domain begins, and no longer begins. -/
def ow! (E : En) (k : Nat) (v : Int) : En := (eT E, eA E, eB E, eU E, eL E, eG E, ePl E, eTh E, fun i => if i = k then v else eOw E i, eSt E, eGr E, eP E, eD E)
def up! (E : En) (t : Nat) (v : Int) : En := (eT E, eA E, eB E, fun i => if i = t then v else eU E i, eL E, eG E, ePl E, eTh E, eOw E, eSt E, eGr E, eP E, eD E)
def pl! (E : En) (k : Nat) (v : Int) : En := (eT E, eA E, eB E, eU E, eL E, eG E, fun i => if i = k then v else ePl E i, eTh E, eOw E, eSt E, eGr E, eP E, eD E)
def st! (E : En) (d : Nat) (l : List Int) (g : Int) : En := (eT E, eA E, eB E, eU E, eL E, eG E, ePl E, eTh E, eOw E, fun i => if i = d then l else eSt E i, fun i => if i = d then g else eGr E i, eP E, eD E)
/-- what the state reads hasn't changed -/
theorem snC.cg {μ m : mM} {E : En} {S : Sn} (h : snC μ E S) (h11 : ∀ i, m 11 i = μ 11 i) (h10 : ∀ i, m 10 i = μ 10 i) (ht : ∀ t b i, t < eT E → tbA μ t + 4 ≤ b → b < tbA μ t + 124 → m b i = μ b i) (hd : ∀ d b i, d < eD E → (b = dbA μ d + 3 ∨ (dbA μ d + 5 ≤ b ∧ b < dbA μ d + 35)) → m b i = μ b i)
    (h32 : ∀ i, 10 ≤ i → i ≤ 12 → m 32 i = μ 32 i) (h33 : ∀ i, m 33 i = μ 33 i) (h34 : ∀ i, m 34 i = μ 34 i) (h70 : ∀ b i, 70 ≤ b → b ≤ 72 → m b i = μ b i) : snC m E S := by
  obtain ⟨s1, s2, s3, s4, s5, s6, s7⟩ := h
  have tb : ∀ s, tbA m s = tbA μ s := fun s => congrArg Int.toNat (h11 s)
  have db : ∀ s, dbA m s = dbA μ s := fun s => congrArg Int.toNat (h10 s)
  refine ⟨fun t k ht' hk => ?_, fun d p hd' hp => ?_, ?_, fun i hi => ?_, ?_, ?_, ?_⟩
  · have rt : ∀ a, tbA μ t + 4 ≤ a → a + 2 < tbA μ t + 124 → rtC m a = rtC μ a := fun a a1 a2 => rtC.of (fun i => ht t _ i ht' (by omega) (by omega)) (fun i => ht t _ i ht' (by omega) (by omega)) (fun i => ht t _ i ht' (by omega) (by omega))
    show rtC m (tbA m t + 4 + 6 * k) = _ ∧ (_ → m (tbA m t + 4 + 6 * k) 9 = _) ∧ rtC m (tbA m t + 7 + 6 * k) = _ ∧ m (tbA m t + 7 + 6 * k) 9 = _
    rw [tb, rt _ (by omega) (by omega), ht t (tbA μ t + 4 + 6 * k) 9 ht' (by omega) (by omega), rt _ (by omega) (by omega), ht t (tbA μ t + 7 + 6 * k) 9 ht' (by omega) (by omega)]
    exact s1 t k ht' hk
  · have rt : ∀ a, dbA μ d + 5 ≤ a → a + 2 < dbA μ d + 35 → rtC m a = rtC μ a := fun a a1 a2 => rtC.of (fun i => hd d _ i hd' (by omega)) (fun i => hd d _ i hd' (by omega)) (fun i => hd d _ i hd' (by omega))
    show m (dbA m d + 3) p = _ ∧ rtC m (dbA m d + 5 + 3 * p) = _
    rw [db, hd d _ p hd' (Or.inl rfl), rt _ (by omega) (by omega)]
    exact s2 d p hd' hp
  · have e : evC m = evC μ := by
      rw [evC.eq, evC.eq, h32 10 (by omega) (by omega)]
      exact lst.ext fun i _ => by rw [h33, h34]
    rw [e]; exact s3
  · rw [h34]; exact s4 i hi
  · rw [h32 11 (by omega) (by omega)]; exact s5
  · rw [h32 12 (by omega) (by omega)]; exact s6
  · rw [rtC.of (μ := μ) (fun i => h70 _ i (by omega) (by omega)) (fun i => h70 _ i (by omega) (by omega)) (fun i => h70 _ i (by omega) (by omega))]
    exact s7
theorem snR.cg {w : mW} {μ m : mM} {E : En} {S : Sn} (h : snR μ E S) (hw : mWF w) (hT : mT w μ) (f : ∀ (b i : Nat), (b = 126 ∧ 1200 ≤ i) ∨ (154 ≤ b ∧ b ≤ 161) ∨ (b = 106 ∧ 71 ≤ i ∧ i ≤ 73) → m b i = μ b i) : snR m E S := by
  obtain ⟨h1, h2, h3, h4, h5, h6⟩ := h
  have rt : ∀ r : Int, 30 ≤ r → rtR m r = rtR μ r := fun r hr => rtR.cg (hT.rb hw (by omega)).1.2 (hT.rb hw (by omega)).2.2 fun k hk => f _ _ (by omega)
  have ea : ∀ e, atR m e = atR μ e := fun e => by
    unfold atR
    rw [f 157 _ (by omega), f 159 _ (by omega)]
  have em : ∀ e, mdR m e = mdR μ e := fun e => by
    unfold mdR
    rw [f 158 _ (by omega), f 160 _ (by omega)]
  refine ⟨fun s hs => ?_, fun k hk => ?_, ⟨fun e he h0 => ?_, fun x hx => ?_, ?_⟩, ?_, ?_, ?_⟩
  · rw [rt _ (by omega), rt _ (by omega), rt _ (by omega), f 154 _ (by omega), f 155 _ (by omega), f 156 _ (by omega), f 157 _ (by omega)]
    exact h1 s hs
  · rw [f 161 _ (by omega), rt _ (by omega)]
    exact h2 k hk
  · rw [ea] at h0 ⊢
    exact h3.1 e he h0
  · rw [ea, em, f 106 72 (by omega)]
    exact h3.2.1 x hx
  · refine List.Pairwise.imp (fun {x y} q => ?_) h3.2.2
    rw [em, em]
    exact q
  · rw [f 106 71 (by omega)]; exact h4
  · rw [f 106 73 (by omega)]; exact h5
  · rw [f 106 72 (by omega)]; exact h6
theorem enG.own {E : En} {k : Nat} {v : Int} (h : enG E) (hv : v ≤ 2) (hx : eP E ≤ k % 10 → v < 0) (hk : k < 10 * eD E) : enG (ow! E k v) := ⟨h.1, ⟨h.2.1.1, fun d p hd hp h10 => by
  show (if 10 * d + p = k then v else eOw E (10 * d + p)) < 0
  by_cases c : 10 * d + p = k
  · rw [if_pos c]; exact hx (by have hp : eP E ≤ p := hp; omega)
  · rw [if_neg c]; exact h.2.1.2 d p hd hp h10⟩, h.2.2.1, ⟨fun d p hd hp => by
  show (if 10 * d + p = k then v else eOw E (10 * d + p)) ≤ 2
  by_cases c : 10 * d + p = k
  · rw [if_pos c]; exact hv
  · rw [if_neg c]; exact h.2.2.2.1 d p hd hp, fun d hd => ⟨fun p hp => by
  have hd : eD E ≤ d := hd
  show (if 10 * d + p = k then v else eOw E (10 * d + p)) = -1
  rw [if_neg (by omega)]
  exact (h.2.2.2.2 d hd).1 p hp, (h.2.2.2.2 d hd).2⟩⟩⟩
section Own
variable {w : mW} {μ : mM} {E : En} {S : Sn} {G : mM → Prop}
theorem domAt {d : Nat} (hw : mWF w) (hT : mT w μ) (ev : envC w μ E) (hd : d < eD E) : mAt w (dbA μ d) 210 := by
  have g : (((d : Nat) : Int) < w.2.2.2 0 → 0 ≤ μ 10 d ∧ mAt w (μ 10 d).toNat 210) ∧ (¬ ((d : Nat) : Int) < w.2.2.2 0 → μ 10 d = -1) := hT 10 10 (A_10 hw) d
  have g0 : μ 6 15 = w.2.2.2 0 ∧ 0 ≤ μ 6 15 ∧ μ 6 15 ≤ 10 := hT 6 6 (A_6 hw) 15
  have e3 := ev.2.2.1
  exact (g.1 (by omega)).2
theorem tieAt {t : Nat} (hw : mWF w) (hT : mT w μ) (ev : envC w μ E) (ht : t < eT E) : mAt w (tbA μ t) 220 := by
  have g : (((t : Nat) : Int) < w.2.2.2 1 → 0 ≤ μ 11 t ∧ mAt w (μ 11 t).toNat 220) ∧ (¬ ((t : Nat) : Int) < w.2.2.2 1 → μ 11 t = -1) := hT 11 11 (A_11 hw) t
  have g0 : μ 6 16 = w.2.2.2 1 ∧ 0 ≤ μ 6 16 ∧ μ 6 16 ≤ 20 := hT 6 6 (A_6 hw) 16
  have e1 := ev.1
  exact (g.1 (by omega)).2
theorem envC.own {d p : Nat} {v : Int} (hw : mWF w) (hT : mT w μ) (ev : envC w μ E) (hd : d < eD E) (hp : p < 10) : envC w (mUp μ (dbA μ d + 2) p v) (ow! E (10 * d + p) v) := by
  have hA : mAt w (dbA μ d + 2) 212 := (hT (dbA μ d) 210 (domAt hw hT ev hd) 1).2
  obtain ⟨h1, h2, h3, ⟨l1, l2, l3, l4, l5, l6⟩, h5, h6, h7⟩ := ev
  have big := (l2 d hd).2.1
  have f : ∀ b i, ¬ b = dbA μ d + 2 → mUp μ (dbA μ d + 2) p v b i = μ b i := fun b i q => mUp.no (by omega)
  have tb : ∀ s, tbA (mUp μ (dbA μ d + 2) p v) s = tbA μ s := fun s => congrArg Int.toNat (f 11 s (by omega))
  have db : ∀ s, dbA (mUp μ (dbA μ d + 2) p v) s = dbA μ s := fun s => congrArg Int.toNat (f 10 s (by omega))
  refine ⟨by rw [f _ _ (by omega)]; exact h1, by rw [f _ _ (by omega)]; exact h2, by rw [f _ _ (by omega)]; exact h3, ⟨fun t ht => ?_, fun e he => ?_, fun t s ht hs hne => ?_, fun t s ht hs hne => ?_, fun t e ht he => ?_, fun i hi => by rw [f _ _ (by omega)]; exact l6 i hi⟩, fun t ht => ?_, fun e he => ?_, ?_⟩
  · have c := l5 t d ht hd
    rw [tb]
    obtain ⟨a1, a2, a3⟩ := l1 t ht
    exact ⟨by rw [f _ _ (by omega)]; exact a1, a2, fun k hk => ⟨by rw [f _ _ (by omega)]; exact (a3 k hk).1, by rw [f _ _ (by omega)]; exact (a3 k hk).2⟩⟩
  · rw [db]
    obtain ⟨a1, a2, a3⟩ := l2 e he
    refine ⟨by rw [f _ _ (by omega)]; exact a1, a2, fun k hk => ?_⟩
    by_cases c : e = d
    · subst c
      rw [f _ _ (by omega)]; exact a3 k hk
    · have c1 := l4 e d he hd c
      rw [f _ _ (by omega)]; exact a3 k hk
  · rw [tb, tb]; exact l3 t s ht hs hne
  · rw [db, db]; exact l4 t s ht hs hne
  · rw [tb, db]; exact l5 t e ht he
  · have c := l5 t d ht hd
    rw [tb]
    obtain ⟨a1, a2, a3, a4, a5, a6⟩ := h5 t ht
    exact ⟨by rw [f _ _ (by omega)]; exact a1, by rw [f _ _ (by omega)]; exact a2, by rw [f _ _ (by omega)]; exact a3, by rw [f _ _ (by omega)]; exact a4, by rw [f _ _ (by omega)]; exact a5, fun i hi => by rw [f _ _ (by omega)]; exact a6 i hi⟩
  · rw [db]
    obtain ⟨a1, a2, a3⟩ := h6 e he
    have fe : ∀ b i, (b = dbA μ e ∨ b = dbA μ e + 1) → mUp μ (dbA μ d + 2) p v b i = μ b i := fun b i q => by
      by_cases c : e = d
      · subst c
        exact f _ _ (by omega)
      · have c1 := l4 e d he hd c
        exact f _ _ (by omega)
    refine ⟨fun q hq => ?_, ?_, by rw [fe _ _ (Or.inl rfl)]; exact a3⟩
    · show mUp μ (dbA μ d + 2) p v (dbA μ e + 2) q = if 10 * e + q = 10 * d + p then v else eOw E (10 * e + q)
      by_cases c : e = d
      · subst c
        by_cases c2 : q = p
        · subst c2
          rw [if_pos rfl, mUp.yes ⟨rfl, rfl⟩]
        · rw [if_neg (by omega), mUp.no (by omega)]
          exact a1 q hq
      · have c1 := l4 e d he hd c
        rw [if_neg (by omega), f _ _ (by omega)]
        exact a1 q hq
    · show _ = eSt E e
      rw [fe _ _ (Or.inl rfl), ← a2]
      exact rowL.ext fun i _ => fe _ _ (Or.inr rfl)
  · have n8 : mUp μ (dbA μ d + 2) p v 21 8 = μ 21 8 := f _ _ (by omega)
    refine ⟨fun t i ht hi => by rw [n8]; exact h7.1 t i ht hi, ?_⟩
    intro m2 pl a t s r Q hT2 F2 ht hs hpl hr hsr hAa kk
    rw [tb]
    rw [n8] at hpl
    exact h7.2 m2 pl a t s r Q hT2 ((mF.refl.up hA mUp_ok rfl).call F2 rfl) ht hs hpl hr hsr hAa kk
theorem envR.own {d p : Nat} {v : Int} (hw : mWF w) (ev : envR w μ E G) (hd : d < eD E) (hp : p < 10) : envR w (mUp μ 162 (10 * d + p) v) (ow! E (10 * d + p) v) G := by
  obtain ⟨h1, h2, h3, h4, h5, h6⟩ := ev
  have f : ∀ b i, ¬ b = 162 → mUp μ 162 (10 * d + p) v b i = μ b i := fun b i q => mUp.no (by omega)
  refine ⟨by rw [f _ _ (by omega)]; exact h1, by rw [f _ _ (by omega)]; exact h2, by rw [f _ _ (by omega)]; exact h3, fun t ht => ?_, fun e he => ?_, ?_⟩
  · obtain ⟨a1, a2, a3, a4, a5, a6⟩ := h4 t ht
    exact ⟨by rw [f _ _ (by omega)]; exact a1, by rw [f _ _ (by omega)]; exact a2, by rw [f _ _ (by omega)]; exact a3, by rw [f _ _ (by omega)]; exact a4, by rw [f _ _ (by omega)]; exact a5, fun i hi => by rw [f _ _ (by omega)]; exact a6 i hi⟩
  · obtain ⟨a1, ⟨n, a2⟩, a3⟩ := h5 e he
    refine ⟨fun q hq => ?_, ⟨n, ?_⟩, by rw [f _ _ (by omega)]; exact a3⟩
    · show mUp μ 162 (10 * d + p) v 162 (10 * e + q) = if 10 * e + q = 10 * d + p then v else eOw E (10 * e + q)
      by_cases c : 10 * e + q = 10 * d + p
      · rw [if_pos c, mUp.yes ⟨rfl, c⟩]
      · rw [if_neg c, mUp.no (by omega)]
        exact a1 q hq
    · show _ = eSt E e ++ _
      rw [← a2]
      exact rowL.ext fun i _ => f _ _ (by omega)
  · have n39 : mUp μ 162 (10 * d + p) v 106 39 = μ 106 39 := f _ _ (by omega)
    refine ⟨fun t i ht hi => by rw [n39]; exact h6.1 t i ht hi, ?_⟩
    intro m2 pl r t s x Q hT2 F2
    rw [n39]
    exact h6.2 m2 pl r t s x Q hT2 ((mF.refl.up (A_162 hw) mUp_ok rfl).call F2 rfl)
theorem X11_isDomain_s {d : Int} {Q : Int → mM → Prop} (ev : envC w μ E) (k : ∀ z : Int, (z = 1 ↔ (0 ≤ d ∧ d < (eD E : Int))) → Q z μ) : WP_X11_isDomain_W w μ d Q := by
  intro n en _
  rw [ev.2.2.1] at en
  subst en
  exact ⟨fun c => k 0 ⟨fun e => absurd e (by decide), fun e => by omega⟩, fun c => ⟨fun c2 => k 0 ⟨fun e => absurd e (by decide), fun e => by omega⟩, fun c2 => k 1 ⟨fun _ => ⟨c, c2⟩, fun _ => rfl⟩⟩⟩
theorem X11_isPrefix_s {p : Int} {Q : Int → mM → Prop} (ev : envC w μ E) (k : ∀ z : Int, (z = 1 ↔ (0 ≤ p ∧ p < (eP E : Int))) → Q z μ) : WP_X11_isPrefix_W w μ p Q := by
  intro n en _
  rw [ev.2.1] at en
  subst en
  exact ⟨fun c => k 0 ⟨fun e => absurd e (by decide), fun e => by omega⟩, fun c => ⟨fun c2 => k 0 ⟨fun e => absurd e (by decide), fun e => by omega⟩, fun c2 => k 1 ⟨fun _ => ⟨c, c2⟩, fun _ => rfl⟩⟩⟩
theorem X11_isTie_s {t : Int} {Q : Int → mM → Prop} (ev : envC w μ E) (k : ∀ z : Int, (z = 1 ↔ (0 ≤ t ∧ t < (eT E : Int))) → Q z μ) : WP_X11_isTie_W w μ t Q := by
  intro n en _
  rw [ev.1] at en
  subst en
  exact ⟨fun c => k 0 ⟨fun e => absurd e (by decide), fun e => by omega⟩, fun c => ⟨fun c2 => k 0 ⟨fun e => absurd e (by decide), fun e => by omega⟩, fun c2 => k 1 ⟨fun _ => ⟨c, c2⟩, fun _ => rfl⟩⟩⟩
theorem X11_isEither_s {x : Int} {Q : Int → mM → Prop} (k : ∀ z : Int, (z = 1 ↔ (0 ≤ x ∧ x ≤ 1)) → Q z μ) : WP_X11_isEither_W w μ x Q := ⟨fun c => k 1 ⟨fun _ => by omega, fun _ => rfl⟩, fun c => ⟨fun c2 => k 0 ⟨fun e => absurd e (by decide), fun e => by omega⟩, fun c2 => k 1 ⟨fun _ => by omega, fun _ => rfl⟩⟩⟩
theorem X12_isDomain_s {d : Int} {Q : Int → mM → Prop} (ev : envR w μ E G) (k : ∀ z : Int, (z = 1 ↔ (0 ≤ d ∧ d < (eD E : Int))) → Q z μ) : WP_X12_isDomain_W w μ d Q := by
  intro n en _
  rw [ev.2.2.1] at en
  subst en
  exact X12_in_s fun z hz _ => k z ⟨fun e => by have := hz.mp e; omega, fun e => hz.mpr (by omega)⟩
theorem X12_isPrefix_s {p : Int} {Q : Int → mM → Prop} (ev : envR w μ E G) (k : ∀ z : Int, (z = 1 ↔ (0 ≤ p ∧ p < (eP E : Int))) → Q z μ) : WP_X12_isPrefix_W w μ p Q := by
  intro n en _
  rw [ev.2.1] at en
  subst en
  exact X12_in_s fun z hz _ => k z ⟨fun e => by have := hz.mp e; omega, fun e => hz.mpr (by omega)⟩
theorem X12_isTie_s {t : Int} {Q : Int → mM → Prop} (ev : envR w μ E G) (k : ∀ z : Int, (z = 1 ↔ (0 ≤ t ∧ t < (eT E : Int))) → Q z μ) : WP_X12_isTie_W w μ t Q := by
  intro n en _
  rw [ev.1] at en
  subst en
  exact X12_in_s fun z hz _ => k z ⟨fun e => by have := hz.mp e; omega, fun e => hz.mpr (by omega)⟩
/-- announce: what it answers, what then is -/
noncomputable def annA (E : En) (d p o : Int) : Int := cIf ((0 ≤ d ∧ d < (eD E : Int)) ∧ (0 ≤ p ∧ p < (eP E : Int)) ∧ (0 ≤ o ∧ o ≤ 2)) (if eOw E (10 * d.toNat + p.toNat) = o then -2 else 0) (-1)
theorem X11_announce_s {d p o : Int} {Q : Int → mM → Prop} (hw : mWF w) (hT : mT w μ) (ev : envC w μ E) (st : snC μ E S) (sn : snG E S) (en : enG E) (k0 : ¬ annA E d p o = 0 → Q (annA E d p o) μ)
    (k1 : annA E d p o = 0 → 0 ≤ d → d < (eD E : Int) → 0 ≤ p → p < (eP E : Int) → o ≤ 2 → ∀ m : mM, envC w m (ow! E (10 * d.toNat + p.toNat) o) → snC m (ow! E (10 * d.toNat + p.toNat) o) (lookE (ow! E (10 * d.toNat + p.toNat) o) S d p.toNat) → loC μ m → Q 0 m) : WP_X11_announce_W w μ d p o Q := by
  have bad : ¬ ((0 ≤ d ∧ d < (eD E : Int)) ∧ (0 ≤ p ∧ p < (eP E : Int)) ∧ (0 ≤ o ∧ o ≤ 2)) → Q (-1) μ := fun h => by
    have e : annA E d p o = -1 := cIf.neg h
    rw [e] at k0
    exact k0 (by decide)
  have p10 := en.1.2.2.2.2
  intro _ _ _
  refine X11_isDomain_s ev fun z hz rz => ⟨fun c => bad fun q => by have := hz.mpr q.1; omega, fun c _ _ _ => X11_isPrefix_s ev fun y hy ry => ⟨fun c2 => bad fun q => by have := hy.mpr q.2.1; omega, fun c2 => ⟨fun c3 => bad (by omega), fun c3 => ⟨fun c4 b eb hb v ev' hv => ?_, fun c4 => bad (by omega)⟩⟩⟩⟩
  have hd := hz.mp (by omega)
  have hp := hy.mp (by omega)
  have all : (0 ≤ d ∧ d < (eD E : Int)) ∧ (0 ≤ p ∧ p < (eP E : Int)) ∧ (0 ≤ o ∧ o ≤ 2) := ⟨hd, hp, c3, c4⟩
  have ea : annA E d p o = if eOw E (10 * d.toNat + p.toNat) = o then -2 else 0 := cIf.pos all
  obtain ⟨d', rfl⟩ : ∃ d' : Nat, d = (d' : Int) := ⟨d.toNat, by omega⟩
  obtain ⟨p', rfl⟩ : ∃ p' : Nat, p = (p' : Int) := ⟨p.toNat, by omega⟩
  simp only [Int.toNat_natCast] at ea k1 eb ev' ⊢
  have hd' : d' < eD E := by omega
  have hp' : p' < 10 := by omega
  obtain ⟨d1, d2, d3⟩ := ev.2.2.2.1.2.1 d' hd'
  have eb' : b = dbA μ d' := by omega
  subst eb'
  have eo := (ev.2.2.2.2.2.1 d' hd').1 p' hp'
  rw [eo] at ev'
  subst ev'
  refine ⟨fun q m u T => ?_, fun q => ?_⟩
  · rw [if_neg q] at ea
    obtain rfl := u.is
    have ev2 := ev.own (v := o) hw hT hd' hp'
    have en2 := en.own (k := 10 * d' + p') (v := o) c4 (fun g => by omega) (by omega)
    have st2 : snC (mUp μ (dbA μ d' + 2) p' o) (ow! E (10 * d' + p') o) S := snC.cg (E := E) st (fun i => mUp.no (by omega)) (fun i => mUp.no (by omega)) (fun t b i ht h1 h2 => mUp.no (by have := ev.2.2.2.1.2.2.2.2.1 t d' ht hd'; omega)) (fun e b i he h1 => mUp.no (by
      by_cases c : e = d'
      · subst c; omega
      · have := ev.2.2.2.1.2.2.2.1 e d' he hd' c
        omega)) (fun i _ _ => mUp.no (by omega)) (fun i => mUp.no (by omega)) (fun i => mUp.no (by omega)) (fun b i _ _ => mUp.no (by omega))
    refine X8_look_s hw T ev2 st2 sn en2.1 en2.2.1 en2.2.2.1 hd' hp' fun m2 s2 l2 T2 F2 => k1 ea hd.1 hd.2 hp.1 hp.2 c4 m2 (envC.fr hw T ev2 (mF.refl.call F2 rfl)) s2 (fun b i h0 h1 h2 h3 h4 h5 h6 => (l2 b i h0 h1 h2 h3 h4 h5 h6).trans (mUp.no (by omega)))
  · rw [if_pos q] at ea
    rw [ea] at k0
    exact k0 (by decide)
theorem X12_announce_s {d p o : Int} {Q : Int → mM → Prop} (hw : mWF w) (hT : mT w μ) (ev : envR w μ E G) (hG : G μ) (gG : gSt G) (st : snR μ E S) (sn : snG E S) (en : enG E) (hM : 0 ≤ sMd S ∧ sMd S + 20 < 2147483647) (k0 : ¬ annA E d p o = 0 → Q (annA E d p o) μ)
    (k1 : annA E d p o = 0 → 0 ≤ d → d < (eD E : Int) → 0 ≤ p → p < (eP E : Int) → o ≤ 2 → ∀ m : mM, envR w m (ow! E (10 * d.toNat + p.toNat) o) G → snR m (ow! E (10 * d.toNat + p.toNat) o) (lookE (ow! E (10 * d.toNat + p.toNat) o) S d p.toNat) → G m → loR μ m → Q 0 m) : WP_X12_announce_W w μ d p o Q := by
  have bad : ¬ ((0 ≤ d ∧ d < (eD E : Int)) ∧ (0 ≤ p ∧ p < (eP E : Int)) ∧ (0 ≤ o ∧ o ≤ 2)) → Q (-1) μ := fun h => by
    have e : annA E d p o = -1 := cIf.neg h
    rw [e] at k0
    exact k0 (by decide)
  have p10 := en.1.2.2.2.2
  intro _ _ _
  refine X12_isDomain_s ev fun z hz rz => ⟨fun c => bad fun q => by have := hz.mpr q.1; omega, fun c _ _ _ => X12_isPrefix_s ev fun y hy ry => ⟨fun c2 => bad fun q => by have := hy.mpr q.2.1; omega, fun c2 => X12_in_s fun x hx rx => ⟨fun c3 v ev' hv => ?_, fun c3 => bad fun q => by have := hx.mpr q.2.2; omega⟩⟩⟩
  have hd := hz.mp (by omega)
  have hp := hy.mp (by omega)
  have ho := hx.mp (by omega)
  have all : (0 ≤ d ∧ d < (eD E : Int)) ∧ (0 ≤ p ∧ p < (eP E : Int)) ∧ (0 ≤ o ∧ o ≤ 2) := ⟨hd, hp, ho⟩
  have ea : annA E d p o = if eOw E (10 * d.toNat + p.toNat) = o then -2 else 0 := cIf.pos all
  obtain ⟨d', rfl⟩ : ∃ d' : Nat, d = (d' : Int) := ⟨d.toNat, by omega⟩
  obtain ⟨p', rfl⟩ : ∃ p' : Nat, p = (p' : Int) := ⟨p.toNat, by omega⟩
  simp only [Int.toNat_natCast] at ea k1
  rw [show (10 * (d' : Int) + (p' : Int)).toNat = 10 * d' + p' by omega] at ev' ⊢
  have hd' : d' < eD E := by omega
  have hp' : p' < 10 := by omega
  have eo := (ev.2.2.2.2.1 d' (Or.inl hd')).1 p' hp'
  rw [eo] at ev'
  subst ev'
  refine ⟨fun q m u T => ?_, fun q => ?_⟩
  · rw [if_neg q] at ea
    obtain rfl := u.is
    have ev2 := ev.own (v := o) hw hd' hp'
    have en2 := en.own (k := 10 * d' + p') (v := o) ho.2 (fun g => by omega) (by omega)
    have st2 : snR (mUp μ 162 (10 * d' + p') o) (ow! E (10 * d' + p') o) S := snR.cg (E := E) st hw hT fun b i h => mUp.no (by omega)
    have g2 : G (mUp μ 162 (10 * d' + p') o) := gG μ _ hG fun b i q1 q2 q3 => mUp.no (by omega)
    refine X12_look_s hw T ev2 g2 gG st2 sn en2.1 en2.2.1 en2.2.2.1 hd' hp' hM fun m2 s2 g3 l2 T2 F2 => k1 ea hd.1 hd.2 hp.1 hp.2 ho.2 m2 (ev2.fr hw (mF.refl.call F2 rfl)) s2 g3 (fun i hi => (l2 i hi).trans (mUp.no (by omega)))
  · rw [if_pos q] at ea
    rw [ea] at k0
    exact k0 (by decide)
end Own
end
section
/-! A domain no longer begins; a policy is used. -/
noncomputable def wdrA (E : En) (d p : Int) : Int := cIf ((0 ≤ d ∧ d < (eD E : Int)) ∧ (0 ≤ p ∧ p < (eP E : Int))) (if eOw E (10 * d.toNat + p.toNat) < 0 then -2 else 0) (-1)
section Wdr
variable {w : mW} {μ : mM} {E : En} {S : Sn} {G : mM → Prop}
theorem X11_withdraw_s {d p : Int} {Q : Int → mM → Prop} (hw : mWF w) (hT : mT w μ) (ev : envC w μ E) (st : snC μ E S) (sn : snG E S) (en : enG E) (k0 : ¬ wdrA E d p = 0 → Q (wdrA E d p) μ)
    (k1 : wdrA E d p = 0 → 0 ≤ d → d < (eD E : Int) → 0 ≤ p → p < (eP E : Int) → ∀ m : mM, envC w m (ow! E (10 * d.toNat + p.toNat) (-1)) → snC m (ow! E (10 * d.toNat + p.toNat) (-1)) (lookE (ow! E (10 * d.toNat + p.toNat) (-1)) S d p.toNat) → loC μ m → Q 0 m) : WP_X11_withdraw_W w μ d p Q := by
  have bad : ¬ ((0 ≤ d ∧ d < (eD E : Int)) ∧ (0 ≤ p ∧ p < (eP E : Int))) → Q (-1) μ := fun h => by
    have e : wdrA E d p = -1 := cIf.neg h
    rw [e] at k0
    exact k0 (by decide)
  have p10 := en.1.2.2.2.2
  intro _ _ _
  refine X11_isDomain_s ev fun z hz rz => ⟨fun c => bad fun q => by have := hz.mpr q.1; omega, fun c _ _ _ => X11_isPrefix_s ev fun y hy ry => ⟨fun c2 b eb hb v ev' hv => ?_, fun c2 => bad fun q => by have := hy.mpr q.2; omega⟩⟩
  have hd := hz.mp (by omega)
  have hp := hy.mp (by omega)
  have ea : wdrA E d p = if eOw E (10 * d.toNat + p.toNat) < 0 then -2 else 0 := cIf.pos ⟨hd, hp⟩
  obtain ⟨d', rfl⟩ : ∃ d' : Nat, d = (d' : Int) := ⟨d.toNat, by omega⟩
  obtain ⟨p', rfl⟩ : ∃ p' : Nat, p = (p' : Int) := ⟨p.toNat, by omega⟩
  simp only [Int.toNat_natCast] at ea k1 eb ev' ⊢
  have hd' : d' < eD E := by omega
  have hp' : p' < 10 := by omega
  obtain ⟨d1, d2, d3⟩ := ev.2.2.2.1.2.1 d' hd'
  have eb' : b = dbA μ d' := by omega
  subst eb'
  have eo := (ev.2.2.2.2.2.1 d' hd').1 p' hp'
  rw [eo] at ev'
  subst ev'
  refine ⟨fun q m u T => ?_, fun q => ?_⟩
  · rw [if_neg (by omega)] at ea
    obtain rfl := u.is
    have ev2 := ev.own (v := -1) hw hT hd' hp'
    have en2 := en.own (k := 10 * d' + p') (v := -1) (by omega) (fun _ => by omega) (by omega)
    have st2 : snC (mUp μ (dbA μ d' + 2) p' (-1)) (ow! E (10 * d' + p') (-1)) S := snC.cg (E := E) st (fun i => mUp.no (by omega)) (fun i => mUp.no (by omega)) (fun t b i ht h1 h2 => mUp.no (by have := ev.2.2.2.1.2.2.2.2.1 t d' ht hd'; omega)) (fun e b i he h1 => mUp.no (by
      by_cases c : e = d'
      · subst c; omega
      · have := ev.2.2.2.1.2.2.2.1 e d' he hd' c
        omega)) (fun i _ _ => mUp.no (by omega)) (fun i => mUp.no (by omega)) (fun i => mUp.no (by omega)) (fun b i _ _ => mUp.no (by omega))
    refine X8_look_s hw T ev2 st2 sn en2.1 en2.2.1 en2.2.2.1 hd' hp' fun m2 s2 l2 T2 F2 => k1 ea hd.1 hd.2 hp.1 hp.2 m2 (envC.fr hw T ev2 (mF.refl.call F2 rfl)) s2 (fun b i h0 h1 h2 h3 h4 h5 h6 => (l2 b i h0 h1 h2 h3 h4 h5 h6).trans (mUp.no (by omega)))
  · rw [if_pos (by omega)] at ea
    rw [ea] at k0
    exact k0 (by decide)
theorem X12_withdraw_s {d p : Int} {Q : Int → mM → Prop} (hw : mWF w) (hT : mT w μ) (ev : envR w μ E G) (hG : G μ) (gG : gSt G) (st : snR μ E S) (sn : snG E S) (en : enG E) (hM : 0 ≤ sMd S ∧ sMd S + 20 < 2147483647) (k0 : ¬ wdrA E d p = 0 → Q (wdrA E d p) μ)
    (k1 : wdrA E d p = 0 → 0 ≤ d → d < (eD E : Int) → 0 ≤ p → p < (eP E : Int) → ∀ m : mM, envR w m (ow! E (10 * d.toNat + p.toNat) (-1)) G → snR m (ow! E (10 * d.toNat + p.toNat) (-1)) (lookE (ow! E (10 * d.toNat + p.toNat) (-1)) S d p.toNat) → G m → loR μ m → Q 0 m) : WP_X12_withdraw_W w μ d p Q := by
  have bad : ¬ ((0 ≤ d ∧ d < (eD E : Int)) ∧ (0 ≤ p ∧ p < (eP E : Int))) → Q (-1) μ := fun h => by
    have e : wdrA E d p = -1 := cIf.neg h
    rw [e] at k0
    exact k0 (by decide)
  have p10 := en.1.2.2.2.2
  intro _ _ _
  refine X12_isDomain_s ev fun z hz rz => ⟨fun c => bad fun q => by have := hz.mpr q.1; omega, fun c _ _ _ => X12_isPrefix_s ev fun y hy ry => ⟨fun c2 v ev' hv => ?_, fun c2 => bad fun q => by have := hy.mpr q.2; omega⟩⟩
  have hd := hz.mp (by omega)
  have hp := hy.mp (by omega)
  have ea : wdrA E d p = if eOw E (10 * d.toNat + p.toNat) < 0 then -2 else 0 := cIf.pos ⟨hd, hp⟩
  obtain ⟨d', rfl⟩ : ∃ d' : Nat, d = (d' : Int) := ⟨d.toNat, by omega⟩
  obtain ⟨p', rfl⟩ : ∃ p' : Nat, p = (p' : Int) := ⟨p.toNat, by omega⟩
  simp only [Int.toNat_natCast] at ea k1
  rw [show (10 * (d' : Int) + (p' : Int)).toNat = 10 * d' + p' by omega] at ev' ⊢
  have hd' : d' < eD E := by omega
  have hp' : p' < 10 := by omega
  have eo := (ev.2.2.2.2.1 d' (Or.inl hd')).1 p' hp'
  rw [eo] at ev'
  subst ev'
  refine ⟨fun q m u T => ?_, fun q => ?_⟩
  · rw [if_neg (by omega)] at ea
    obtain rfl := u.is
    have ev2 := ev.own (v := -1) hw hd' hp'
    have en2 := en.own (k := 10 * d' + p') (v := -1) (by omega) (fun _ => by omega) (by omega)
    have st2 : snR (mUp μ 162 (10 * d' + p') (-1)) (ow! E (10 * d' + p') (-1)) S := snR.cg (E := E) st hw hT fun b i h => mUp.no (by omega)
    have g2 : G (mUp μ 162 (10 * d' + p') (-1)) := gG μ _ hG fun b i q1 q2 q3 => mUp.no (by omega)
    refine X12_look_s hw T ev2 g2 gG st2 sn en2.1 en2.2.1 en2.2.2.1 hd' hp' hM fun m2 s2 g3 l2 T2 F2 => k1 ea hd.1 hd.2 hp.1 hp.2 m2 (ev2.fr hw (mF.refl.call F2 rfl)) s2 g3 (fun i hi => (l2 i hi).trans (mUp.no (by omega)))
  · rw [if_pos q] at ea
    rw [ea] at k0
    exact k0 (by decide)
/-- which policy stands where: the tables -/
theorem envC.use {t i : Nat} {v : Int} (hw : mWF w) (hT : mT w μ) (ev : envC w μ E) (ht : t < eT E) (hi : i < 4) (hv : plO (μ 21 8) v) : envC w (mUp μ (tbA μ t + 1) i v) (pl! E (4 * t + i) v) := by
  have hA : mAt w (tbA μ t + 1) 221 := (hT (tbA μ t) 220 (tieAt hw hT ev ht) 3).2
  obtain ⟨h1, h2, h3, ⟨l1, l2, l3, l4, l5, l6⟩, h5, h6, h7⟩ := ev
  have big := (l1 t ht).2.1
  have f : ∀ b j, ¬ b = tbA μ t + 1 → mUp μ (tbA μ t + 1) i v b j = μ b j := fun b j q => mUp.no (by omega)
  have tb : ∀ s, tbA (mUp μ (tbA μ t + 1) i v) s = tbA μ s := fun s => congrArg Int.toNat (f 11 s (by omega))
  have db : ∀ s, dbA (mUp μ (tbA μ t + 1) i v) s = dbA μ s := fun s => congrArg Int.toNat (f 10 s (by omega))
  have ft : ∀ s b j, s < eT E → (b = tbA μ s ∨ b = tbA μ s + 2 ∨ b = tbA μ s + 3) → mUp μ (tbA μ t + 1) i v b j = μ b j := fun s b j hs q => by
    by_cases c : s = t
    · subst c; exact f _ _ (by omega)
    · have c1 := l3 s t hs ht c
      exact f _ _ (by omega)
  have fd : ∀ d b j, d < eD E → dbA μ d ≤ b → b < dbA μ d + 35 → mUp μ (tbA μ t + 1) i v b j = μ b j := fun d b j hd q1 q2 => by
    have c1 := l5 t d ht hd
    exact f _ _ (by omega)
  refine ⟨by rw [f _ _ (by omega)]; exact h1, by rw [f _ _ (by omega)]; exact h2, by rw [f _ _ (by omega)]; exact h3, ⟨fun s hs => ?_, fun e he => ?_, fun s r hs hr hne => ?_, fun s r hs hr hne => ?_, fun s e hs he => ?_, fun j hj => by rw [f _ _ (by omega)]; exact l6 j hj⟩, fun s hs => ?_, fun e he => ?_, ?_⟩
  · rw [tb]
    obtain ⟨a1, a2, a3⟩ := l1 s hs
    exact ⟨by rw [f _ _ (by omega)]; exact a1, a2, fun k hk => ⟨by rw [ft s _ _ hs (by omega)]; exact (a3 k hk).1, by rw [ft s _ _ hs (by omega)]; exact (a3 k hk).2⟩⟩
  · rw [db]
    obtain ⟨a1, a2, a3⟩ := l2 e he
    exact ⟨by rw [f _ _ (by omega)]; exact a1, a2, fun k hk => by rw [fd e _ _ he (by omega) (by omega)]; exact a3 k hk⟩
  · rw [tb, tb]; exact l3 s r hs hr hne
  · rw [db, db]; exact l4 s r hs hr hne
  · rw [tb, db]; exact l5 s e hs he
  · rw [tb]
    obtain ⟨a1, a2, a3, a4, a5, a6⟩ := h5 s hs
    refine ⟨by rw [ft s _ _ hs (Or.inl rfl)]; exact a1, by rw [ft s _ _ hs (Or.inl rfl)]; exact a2, by rw [ft s _ _ hs (Or.inl rfl)]; exact a3, by rw [ft s _ _ hs (Or.inl rfl)]; exact a4, by rw [ft s _ _ hs (Or.inl rfl)]; exact a5, fun j hj => ?_⟩
    show mUp μ (tbA μ t + 1) i v (tbA μ s + 1) j = if 4 * s + j = 4 * t + i then v else ePl E (4 * s + j)
    by_cases c : s = t
    · subst c
      by_cases c2 : j = i
      · subst c2
        rw [if_pos rfl, mUp.yes ⟨rfl, rfl⟩]
      · rw [if_neg (by omega), mUp.no (by omega)]
        exact a6 j hj
    · have c1 := l3 s t hs ht c
      rw [if_neg (by omega), f _ _ (by omega)]
      exact a6 j hj
  · rw [db]
    obtain ⟨a1, a2, a3⟩ := h6 e he
    refine ⟨fun q hq => by rw [fd e _ _ he (by omega) (by omega)]; exact a1 q hq, ?_, by rw [fd e _ _ he (by omega) (by omega)]; exact a3⟩
    show _ = eSt E e
    rw [fd e _ _ he (by omega) (by omega), ← a2]
    exact rowL.ext fun j _ => fd e _ _ he (by omega) (by omega)
  · have n8 : mUp μ (tbA μ t + 1) i v 21 8 = μ 21 8 := f _ _ (by omega)
    refine ⟨fun s j hs hj => ?_, ?_⟩
    · rw [n8]
      show plO (μ 21 8) (if 4 * s + j = 4 * t + i then v else ePl E (4 * s + j))
      by_cases c : 4 * s + j = 4 * t + i
      · rw [if_pos c]; exact hv
      · rw [if_neg c]; exact h7.1 s j hs hj
    · intro m2 pl a s r x Q hT2 F2 hs hr hpl hx hsr hAa kk
      rw [tb]
      rw [n8] at hpl
      exact h7.2 m2 pl a s r x Q hT2 ((mF.refl.up hA mUp_ok rfl).call F2 rfl) hs hr hpl hx hsr hAa kk
theorem envR.use {t i : Nat} {v : Int} (hw : mWF w) (ev : envR w μ E G) (ht : t < eT E) (hi : i < 4) (hv : plO (μ 106 39) v) : envR w (mUp μ 115 (4 * t + i) v) (pl! E (4 * t + i) v) G := by
  obtain ⟨h1, h2, h3, h4, h5, h6⟩ := ev
  have f : ∀ b j, ¬ b = 115 → mUp μ 115 (4 * t + i) v b j = μ b j := fun b j q => mUp.no (by omega)
  refine ⟨by rw [f _ _ (by omega)]; exact h1, by rw [f _ _ (by omega)]; exact h2, by rw [f _ _ (by omega)]; exact h3, fun s hs => ?_, fun e he => ?_, ?_⟩
  · obtain ⟨a1, a2, a3, a4, a5, a6⟩ := h4 s hs
    refine ⟨by rw [f _ _ (by omega)]; exact a1, by rw [f _ _ (by omega)]; exact a2, by rw [f _ _ (by omega)]; exact a3, by rw [f _ _ (by omega)]; exact a4, by rw [f _ _ (by omega)]; exact a5, fun j hj => ?_⟩
    show mUp μ 115 (4 * t + i) v 115 (4 * s + j) = if 4 * s + j = 4 * t + i then v else ePl E (4 * s + j)
    by_cases c : 4 * s + j = 4 * t + i
    · rw [if_pos c, mUp.yes ⟨rfl, c⟩]
    · rw [if_neg c, mUp.no (by omega)]
      exact a6 j hj
  · obtain ⟨a1, ⟨n, a2⟩, a3⟩ := h5 e he
    refine ⟨fun q hq => by rw [f _ _ (by omega)]; exact a1 q hq, ⟨n, ?_⟩, by rw [f _ _ (by omega)]; exact a3⟩
    show _ = eSt E e ++ _
    rw [← a2]
    exact rowL.ext fun j _ => f _ _ (by omega)
  · have n39 : mUp μ 115 (4 * t + i) v 106 39 = μ 106 39 := f _ _ (by omega)
    refine ⟨fun s j hs hj => ?_, ?_⟩
    · rw [n39]
      show plO (μ 106 39) (if 4 * s + j = 4 * t + i then v else ePl E (4 * s + j))
      by_cases c : 4 * s + j = 4 * t + i
      · rw [if_pos c]; exact hv
      · rw [if_neg c]; exact h6.1 s j hs hj
    · intro m2 pl r s q x Q hT2 F2
      rw [n39]
      exact h6.2 m2 pl r s q x Q hT2 ((mF.refl.up (A_115 hw) mUp_ok rfl).call F2 rfl)
end Wdr
end
