section
/-! The reference says. -/
theorem sayE.same {E : En} {S : Sn} {t s p : Nat} (h : outE E S t s p = (sSd S (slt t s p)).1) : sayE E S t s p = S := by
  unfold sayE
  by_cases c : eU E t = 0
  · rw [if_pos c]
  · rw [if_neg c, cIf.pos h]
theorem sayE.go {E : En} {S : Sn} {t s p : Nat} (hu : ¬ eU E t = 0) (h : ¬ outE E S t s p = (sSd S (slt t s p)).1) (hg : (sSd S (slt t s p)).2 = -1 ∨ (sSd S (slt t s p)).2 + eG E t ≤ sCk S) : sayE E S t s p = mk! (sd! S (slt t s p) (outE E S t s p, sCk S)) (insQ (sCk S + eL E t, 2 * slt t s p) (remQ (2 * slt t s p) (sQu S))) := by
  unfold sayE
  rw [if_neg hu, cIf.neg h, if_neg (by omega)]
theorem sayE.wait {E : En} {S : Sn} {t s p : Nat} (hu : ¬ eU E t = 0) (h : ¬ outE E S t s p = (sSd S (slt t s p)).1) (h1 : ¬ (sSd S (slt t s p)).2 = -1) (h2 : sCk S < (sSd S (slt t s p)).2 + eG E t) : sayE E S t s p = cIf (∃ m, (m, 2 * slt t s p + 1) ∈ sQu S) S (mk! S (insQ ((sSd S (slt t s p)).2 + eG E t, 2 * slt t s p + 1) (sQu S))) := by
  unfold sayE
  rw [if_neg hu, cIf.neg h, if_pos ⟨h1, h2⟩]
section Say
variable {w : mW} {μ : mM} {E : En} {S : Sn} {G : mM → Prop} {d : Int} {p t s : Nat}
theorem X12_say_s {Q : mM → Prop} (hw : mWF w) (hT : mT w μ) (ev : envR w μ E G) (hG : G μ) (gG : gSt G) (st : snR μ E S) (sn : snG E S) (ti : tiG E) (ht : t < eT E) (hs : s < 2) (hd : d = eN E t s) (hp : p < 10) (hup : ¬ eU E t = 0) (hM : 0 ≤ sMd S ∧ sMd S < 2147483647) (tG : thG E)
    (k : ∀ m : mM, snR m E (sayE E S t s p) → G m → (∀ i : Nat, (i < 40 ∨ (960 ≤ i ∧ i < 1200)) → m 126 i = μ 126 i) → Q m) : WP_X12_say_W w μ d (t : Int) (p : Int) Q := by
  obtain ⟨h1, h2, h3, h4, h5, h6⟩ := ev
  obtain ⟨a1, a2, a3, a4, a5, a6⟩ := h4 t ht
  have hne := (ti.1 t ht).1
  have t20 := ti.2.2.1
  have d10 := ti.2.2.2.1
  have dr : 0 ≤ d ∧ d < (eD E : Int) := by
    rw [hd]
    unfold eN
    split
    · exact (ti.1 t ht).2.1
    · exact (ti.1 t ht).2.2
  have sb : slt t s p < 20 * eT E := by unfold slt; omega
  intro e0 ee0 _ e1 ee1 _ n en hn
  refine X12_sideOf_s ?_
  rw [sdR.of a1 hne hs hd]
  intro _
  have sl : (2 * (t : Int) + (s : Int)) * 10 + (p : Int) = ((slt t s p : Nat) : Int) := by unfold slt; omega
  show (0 ≤ (2 * (t : Int) + (s : Int)) * 10 + (p : Int) ∧ (2 * (t : Int) + (s : Int)) * 10 + (p : Int) ≤ 449) → _
  rw [sl]
  intro hsl
  refine X12_nothing_s (by omega) fun m1 r1 f1 T1 F1 x1 _ tie etie htie y ey hy => ?_
  have fr1 : frT μ m1 2 := frT.refl.no f1
  have g1 : G m1 := gG μ m1 hG fun b i q1 q2 q3 => f1 b i (by omega)
  obtain ⟨b1, b2, b3, b4, b5⟩ := st.1 (slt t s p) (Or.inl sb)
  have kb : 10 * d.toNat + p < 10 * eD E := by omega
  obtain ⟨c1, c2⟩ := st.2.1 (10 * d.toNat + p) (Or.inl kb)
  have etie' : (sPk S (10 * d.toNat + p)).1 = tie := by
    rw [← etie, fr1 161 _ (by omega) (by omega) (by omega) (by omega) (by omega), ← c1]
    congr 1
    omega
  have dE : (eN E t s).toNat = d.toNat := by rw [hd]
  have J1 : ∀ m : mM, frT μ m 2 → G m → rtR m 2 = outE E S t s p → WJ_X12_say_W_1 w (t : Int) Q ((slt t s p : Nat) : Int) m1 m := by
    intro m fr gm ro T F
    have stm : snR m E S := st.fr hw hT (fr.fr (by omega))
    obtain ⟨s1, s2, s3, s4, s5⟩ := stm.1 (slt t s p) (Or.inl sb)
    have rows : ∀ i : Nat, (i < 40 ∨ (960 ≤ i ∧ i < 1200)) → m 126 i = μ 126 i := fun i hi => fr 126 i (by omega) (by omega) (by omega) (by omega) (by omega)
    have mck : m 106 71 = sCk S := stm.2.2.2.1
    have mmd : m 106 72 = sMd S := stm.2.2.2.2.2
    refine X12_same_s (T.rb hw (by omega)).1 (T.rb hw (by omega)).1.1 (T.rb hw (by omega)).2 (T.rb hw (by omega)).2.1 fun z hz rz => ⟨fun c => ?_, fun c => ?_⟩
    rotate_left 1
    · have e : outE E S t s p = (sSd S (slt t s p)).1 := by rw [← ro, hz.mp (by omega), s3]
      exact k m (by rw [sayE.same e]; exact stm) gm rows
    have hno : ¬ outE E S t s p = (sSd S (slt t s p)).1 := fun e => by
      have := hz.mpr (by rw [ro, e, s3])
      omega
    have GO : ∀ (m2 m5 : mM) (ck dl md : Int), ck = sCk S → dl = eL E t → md = sMd S → sayE E S t s p = mk! (sd! S (slt t s p) (outE E S t s p, sCk S)) (insQ (sCk S + eL E t, 2 * slt t s p) (remQ (2 * slt t s p) (sQu S))) → rtR m2 (530 + ((slt t s p : Nat) : Int)) = rtR m 2 → onR m m2 (530 + ((slt t s p : Nat) : Int)) → rtR m5 (930 + ((slt t s p : Nat) : Int)) = rtR (mUp (mUp m2 155 (slt t s p) 1) 156 (slt t s p) ck) 2 → onR (mUp (mUp m2 155 (slt t s p) 1) 156 (slt t s p) ck) m5 (930 + ((slt t s p : Nat) : Int)) → mT w m2 → 0 ≤ ck → 0 ≤ dl → mT w (mUp (mUp m2 155 (slt t s p) 1) 156 (slt t s p) ck) → Q (mUp (mUp (mUp m5 157 (slt t s p) (ck + dl)) 158 (slt t s p) md) 106 72 (md + 1)) := by
      intro m2 m5 ck dl md e1 e2 e3 esay q1 q2 q3 q4 T2 k0 d0 T4
      have at_ : ∀ (b i : Nat), ¬ (b = 126 ∧ 40 * (530 + ((slt t s p : Nat) : Int)) ≤ (i : Int) ∧ (i : Int) < 40 * (530 + ((slt t s p : Nat) : Int)) + 40) → ¬ (b = 126 ∧ 40 * (930 + ((slt t s p : Nat) : Int)) ≤ (i : Int) ∧ (i : Int) < 40 * (930 + ((slt t s p : Nat) : Int)) + 40) → ¬ (b = 155 ∧ i = slt t s p) → ¬ (b = 156 ∧ i = slt t s p) → ¬ (b = 157 ∧ i = slt t s p) → ¬ (b = 158 ∧ i = slt t s p) → ¬ (b = 106 ∧ i = 72) → mUp (mUp (mUp m5 157 (slt t s p) (ck + dl)) 158 (slt t s p) md) 106 72 (md + 1) b i = m b i := fun b i w1 w2 w3 w4 w5 w6 w7 => by
        rw [mUp.no (by omega), mUp.no (by omega), mUp.no (by omega), q4 b i w2, mUp.no (by omega), mUp.no (by omega), q2 b i w1]
      have r2o : rtR (mUp (mUp m2 155 (slt t s p) 1) 156 (slt t s p) ck) 2 = outE E S t s p := by
        rw [← ro]
        refine rtR.cg (T.rb hw (by omega)).1.2 (T.rb hw (by omega)).2.2 fun i hi => ?_
        rw [mUp.no (by omega), mUp.no (by omega), q2 126 _ (by omega)]
      have k5 : ∀ r : Int, 0 ≤ r → rtR (mUp (mUp (mUp m5 157 (slt t s p) (ck + dl)) 158 (slt t s p) md) 106 72 (md + 1)) r = rtR m5 r := fun r hr => by
        unfold rtR
        rfl
      have rS : rtR m5 (530 + ((slt t s p : Nat) : Int)) = outE E S t s p := by
        rw [q4.rt (by omega) (by omega) (T4.rb hw (by omega)).1.2 (T4.rb hw (by omega)).2.2]
        have e : rtR (mUp (mUp m2 155 (slt t s p) 1) 156 (slt t s p) ck) (530 + ((slt t s p : Nat) : Int)) = rtR m2 (530 + ((slt t s p : Nat) : Int)) := by
          unfold rtR
          rfl
        rw [e, q1, ro]
      refine k _ ?_ (gG m _ gm fun b i w1 w2 w3 => at_ b i (by omega) (by omega) (by omega) (by omega) (by omega) (by omega) (by omega)) fun i hi => (at_ 126 i (by omega) (by omega) (by omega) (by omega) (by omega) (by omega) (by omega)).trans (rows i hi)
      rw [esay, show sCk S + eL E t = ck + dl by rw [e1, e2]]
      refine stm.go (v := ck + dl) hw T sb t20 d10 (by omega) (fun b i w1 w2 w3 w4 w5 w6 w7 w8 w9 w10 w11 w12 w13 => at_ b i w2 w3 w4 w5 w6 w7 w8) ((k5 _ (by omega)).trans rS) ((k5 _ (by omega)).trans (q3.trans r2o)) ?_ ?_ ?_ ?_ ?_
      · rw [mUp.no (by omega), mUp.no (by omega), mUp.no (by omega), q4 155 _ (by omega), mUp.no (by omega), mUp.yes ⟨rfl, rfl⟩]
      · rw [mUp.no (by omega), mUp.no (by omega), mUp.no (by omega), q4 156 _ (by omega), mUp.yes ⟨rfl, rfl⟩, e1]
      · rw [mUp.no (by omega), mUp.no (by omega), mUp.yes ⟨rfl, rfl⟩]
      · rw [mUp.no (by omega), mUp.yes ⟨rfl, rfl⟩, e3, mmd]
      · rw [mUp.yes ⟨rfl, rfl⟩, e3, mmd]
    have tn : (((slt t s p : Nat) : Int)).toNat = slt t s p := by omega
    have tt : ((t : Int)).toNat = t := by omega
    have m155 : (if m 155 (slt t s p) = 0 then -1 else m 156 (slt t s p)) = (sSd S (slt t s p)).2 := s4
    intro u eu hu
    rw [tn] at eu
    refine ⟨fun cu x2 _ _ => ?_, fun cu ck eck hck v evv hv g eg hg => ⟨fun cg x2 _ _ => ?_, fun cg wt ewt hwt => ⟨fun cw => ?_, fun cw m2 u2 _ md emd hmd m3 u3 _ md2 hr2 he2 m4 u4 _ => ?_⟩⟩⟩
    · rw [if_pos (eu.trans cu)] at m155
      refine X12_copy_s (by omega) (by omega) (by omega) (T.rb hw (by omega)).1.2 (T.rb hw (by omega)).2.2 fun m2 q1 _ q2 T2 F2 x3 _ m3 u3 _ ck eck hck m4 u4 T4 => ?_
      rw [tn] at u3 u4
      obtain rfl := u3.is
      obtain rfl := u4.is
      have eck' : ck = sCk S := by rw [← eck, mUp.no (by omega), q2 106 71 (by omega), mck]
      refine X12_copy_s (by omega) (by omega) (by omega) (T4.rb hw (by omega)).1.2 (T4.rb hw (by omega)).2.2 fun m5 q3 _ q4 T5 F5 x4 _ dl edl hdl m6 u6 _ md emd hmd m7 u7 _ md2 hr2 he2 m8 u8 _ => ?_
      rw [tn] at u6 u7
      obtain rfl := u6.is
      obtain rfl := u7.is
      have emd' : md = sMd S := by rw [← emd, mUp.no (by omega), q4 106 72 (by omega), mUp.no (by omega), mUp.no (by omega), q2 106 72 (by omega), mmd]
      have edl' : dl = eL E t := by rw [← edl, tt, q4 113 _ (by omega), mUp.no (by omega), mUp.no (by omega), q2 113 _ (by omega), fr 113 _ (by omega) (by omega) (by omega) (by omega) (by omega), a4]
      have : md2 = md + 1 := by omega
      subst this
      obtain rfl := u8.is
      exact GO m2 m5 ck dl md eck' edl' emd' (sayE.go hup hno (Or.inl m155.symm)) q1 q2 q3 q4 T2 hck.1 hdl.1 T4
    · rw [if_neg (by rw [eu]; exact cu)] at m155
      rw [tn] at evv
      rw [tt] at eg
      have eck' : ck = sCk S := eck.symm.trans mck
      have evv' : v = (sSd S (slt t s p)).2 := evv.symm.trans m155
      have eg' : g = eG E t := by rw [← eg, fr 114 _ (by omega) (by omega) (by omega) (by omega) (by omega), a5]
      refine X12_copy_s (by omega) (by omega) (by omega) (T.rb hw (by omega)).1.2 (T.rb hw (by omega)).2.2 fun m2 q1 _ q2 T2 F2 x3 _ m3 u3 _ m4 u4 T4 => ?_
      rw [tn] at u3 u4
      obtain rfl := u3.is
      obtain rfl := u4.is
      refine X12_copy_s (by omega) (by omega) (by omega) (T4.rb hw (by omega)).1.2 (T4.rb hw (by omega)).2.2 fun m5 q3 _ q4 T5 F5 x4 _ dl edl hdl m6 u6 _ md emd hmd m7 u7 _ md2 hr2 he2 m8 u8 _ => ?_
      rw [tn] at u6 u7
      obtain rfl := u6.is
      obtain rfl := u7.is
      have emd' : md = sMd S := by rw [← emd, mUp.no (by omega), q4 106 72 (by omega), mUp.no (by omega), mUp.no (by omega), q2 106 72 (by omega), mmd]
      have edl' : dl = eL E t := by rw [← edl, tt, q4 113 _ (by omega), mUp.no (by omega), mUp.no (by omega), q2 113 _ (by omega), fr 113 _ (by omega) (by omega) (by omega) (by omega) (by omega), a4]
      have : md2 = md + 1 := by omega
      subst this
      obtain rfl := u8.is
      exact GO m2 m5 ck dl md eck' edl' emd' (sayE.go hup hno (Or.inr (by omega))) q1 q2 q3 q4 T2 hck.1 hdl.1 T4
    · rw [if_neg (by rw [eu]; exact cu)] at m155
      rw [tn] at evv ewt
      rw [tt] at eg
      have eck' : ck = sCk S := eck.symm.trans mck
      have evv' : v = (sSd S (slt t s p)).2 := evv.symm.trans m155
      have eg' : g = eG E t := by rw [← eg, fr 114 _ (by omega) (by omega) (by omega) (by omega) (by omega), a5]
      have hq : ∃ x, (x, 2 * slt t s p + 1) ∈ sQu S := (stm.2.2.1.has (by omega)).mpr (by
        unfold atR
        rw [if_neg (by omega), show (2 * slt t s p + 1) / 2 = slt t s p by omega, ewt]
        exact cw)
      refine k m ?_ gm rows
      rw [sayE.wait hup hno (by omega) (by omega), cIf.pos hq]
      exact stm
    · rw [if_neg (by rw [eu]; exact cu)] at m155
      rw [tn] at evv ewt u2 u3
      rw [tt] at eg
      have eck' : ck = sCk S := eck.symm.trans mck
      have evv' : v = (sSd S (slt t s p)).2 := evv.symm.trans m155
      have eg' : g = eG E t := by rw [← eg, fr 114 _ (by omega) (by omega) (by omega) (by omega) (by omega), a5]
      have hq : ¬ ∃ x, (x, 2 * slt t s p + 1) ∈ sQu S := fun hx => by
        have := (stm.2.2.1.has (by omega)).mp hx
        unfold atR at this
        rw [if_neg (by omega), show (2 * slt t s p + 1) / 2 = slt t s p by omega, ewt] at this
        omega
      obtain rfl := u2.is
      obtain rfl := u3.is
      have emd' : md = sMd S := by rw [← emd, mUp.no (by omega), mmd]
      have : md2 = md + 1 := by omega
      subst this
      obtain rfl := u4.is
      have at_ : ∀ (b i : Nat), ¬ (b = 159 ∧ i = slt t s p) → ¬ (b = 160 ∧ i = slt t s p) → ¬ (b = 106 ∧ i = 72) → mUp (mUp (mUp m 159 (slt t s p) (v + g)) 160 (slt t s p) md) 106 72 (md + 1) b i = m b i := fun b i w1 w2 w3 => by
        rw [mUp.no (by omega), mUp.no (by omega), mUp.no (by omega)]
      refine k _ ?_ (gG m _ gm fun b i w1 w2 w3 => at_ b i (by omega) (by omega) (by omega)) fun i hi => (at_ 126 i (by omega) (by omega) (by omega)).trans (rows i hi)
      rw [sayE.wait hup hno (by omega) (by omega), cIf.neg hq, ← evv', ← eg']
      refine stm.wait hw T sb t20 (by omega) hq (fun b i w1 w2 w3 w4 w5 w6 w7 w8 w9 => at_ b i w2 w3 w4) ?_ ?_ ?_
      · rw [mUp.no (by omega), mUp.no (by omega), mUp.yes ⟨rfl, rfl⟩]
      · rw [mUp.no (by omega), mUp.yes ⟨rfl, rfl⟩, emd', mmd]
      · rw [mUp.yes ⟨rfl, rfl⟩, emd', mmd]
  have pn : tie = -99999999 ↔ (sPk S (10 * d.toNat + p)).2 = none := by rw [← etie']; exact sn.2.2.2.2.2.2.1 _
  refine ⟨fun c => J1 m1 fr1 g1 ?_, fun c => ⟨fun ct => J1 m1 fr1 g1 ?_, fun ct => ?_⟩⟩
  · rw [r1]
    unfold outE
    rw [dE, pn.mp c]
  · rw [r1]
    unfold outE
    rw [dE]
    cases e : (sPk S (10 * d.toNat + p)).2 with
    | none => rfl
    | some r =>
      show none = (if (sPk S (10 * d.toNat + p)).1 = (t : Int) ∨ 20 ≤ (wOf r).length then none else _)
      rw [if_pos (Or.inl (etie'.trans ct))]
  obtain ⟨r, er⟩ : ∃ r, (sPk S (10 * d.toNat + p)).2 = some r := by
    cases e : (sPk S (10 * d.toNat + p)).2 with
    | none => exact absurd (pn.mpr e) c
    | some r => exact ⟨r, rfl⟩
  have rg := sn.1 (10 * d.toNat + p) r er
  have hK : (30 + (10 * d + (p : Int)) : Int) = 30 + ((10 * d.toNat + p : Nat) : Int) := by omega
  rw [hK]
  refine X12_copy_s (by omega) (by omega) (by omega) (T1.rb hw (by omega)).1.2 (T1.rb hw (by omega)).2.2 fun m2 q2 _ o2 T2 F2 x2 _ m3 u3 T3 => ?_
  have rp : rtR m2 2 = some r := by rw [q2, fr1.rt hw hT (by omega) (by omega), c2, er]
  have w3 := rtR.wish (v := 100) (r := 2) (by omega) (T2.rb hw (by omega)).1.2 rp
  obtain rfl : m3 = mUp m2 126 (40 * 2 + 1 : Int).toNat 100 := u3.is
  obtain ⟨w3a, w3b⟩ := w3
  have fr3 : frT μ (mUp m2 126 (40 * 2 + 1 : Int).toNat 100) 2 := (fr1.on o2).on w3b
  have out_no : ∀ r', (sPk S (10 * d.toNat + p)).2 = some r' → (20 ≤ (wOf r').length ∨ ¬ (eTh E (ePl E (4 * t + 2 * s + 1)) (eN E t s) (eN E t (1 - s)) (rtWish (rtWay r' (eN E t s :: wOf r')) 100)).1 = true) → outE E S t s p = none := fun r' e h => by
    unfold outE
    rw [dE, e]
    show (if (sPk S (10 * d.toNat + p)).1 = (t : Int) ∨ 20 ≤ (wOf r').length then none else if (eTh E (ePl E (4 * t + 2 * s + 1)) (eN E t s) (eN E t (1 - s)) (rtWish (rtWay r' (eN E t s :: wOf r')) 100)).1 = true then _ else none) = none
    by_cases q : 20 ≤ (wOf r').length
    · rw [if_pos (Or.inr q)]
    · rw [if_neg (by rw [etie']; rintro (x | x); exact ct x; exact q x), if_neg (h.resolve_left q)]
  have J2 : ∀ (b : Int) (m mm : mM), frT μ m 2 → mT w m → G m → (b = 0 → ∃ x, rtR m 2 = x) → (b = 0 → outE E S t s p = none) → (¬ b = 0 → ∃ x, rtR m 2 = some x ∧ outE E S t s p = some (rtWish x 100)) → WJ_X12_say_W_2 w (t : Int) Q ((slt t s p : Nat) : Int) m1 mm b m := by
    intro b m mm fr Tm gm _ hb0 hb1 _ T F m6 u6 T6
    have e81 : ((81 : Int)).toNat = (40 * 2 + 1 : Int).toNat := rfl
    obtain rfl : m6 = mUp m 126 (40 * 2 + 1 : Int).toNat 100 := u6.is
    have o6 : onR m (mUp m 126 (40 * 2 + 1 : Int).toNat 100) 2 := fun b i hb => mUp.no (by omega)
    have g6 : G (mUp m 126 (40 * 2 + 1 : Int).toNat 100) := gG m _ gm fun b i w1 w2 w3 => o6 b i (by omega)
    refine ⟨fun c => ?_, fun c => ?_⟩
    · obtain ⟨x, e1, e2⟩ := hb1 c
      exact J1 _ (fr.on o6) g6 (by rw [(rtR.wish (v := 100) (r := 2) (by omega) (T.rb hw (by omega)).1.2 e1).1, e2])
    · refine X12_nothing_s (by omega) fun m7 r7 f7 _ _ x7 _ => J1 m7 ((fr.on o6).no f7) (gG _ m7 g6 fun b i w1 w2 w3 => f7 b i (by omega)) (by rw [r7, hb0 c])
  have g2 : G m2 := gG m1 m2 g1 fun b i q1 q2 q3 => o2 b i (by omega)
  have g3 : G (mUp m2 126 (40 * 2 + 1 : Int).toNat 100) := gG m2 _ g2 fun b i q1 q2 q3 => w3b b i (by omega)
  have n3 : (wOf (rtWish r 100)).length = (wOf r).length := rfl
  have l3 : ((wOf r).length : Int) = mUp m2 126 (40 * 2 + 1 : Int).toNat 100 126 (40 * 2 + 4 : Int).toNat := by
    have g := (rtR.get w3a).2
    have e : wOf (rtWish r 100) = rowL (fun k => mUp m2 126 (40 * 2 + 1 : Int).toNat 100 126 (40 * 2 + 6 + (k : Int)).toNat) (mUp m2 126 (40 * 2 + 1 : Int).toNat 100 126 (40 * 2 + 4 : Int).toNat).toNat := by rw [g]
    rw [← n3, e, rowL.len]
    have := (T3.rb hw (r := 2) (by omega)).1
    omega
  refine X12_front_s (by omega) (fun e _ _ _ => ⟨fun _ => ?_, fun q => absurd rfl q⟩) fun m4 hn4 cf T4 F4 _ => ⟨fun q => absurd q (by decide), fun _ pl epl hpl po epo hpo => ?_⟩
  · exact J2 0 _ _ fr3 T3 g3 (fun _ => ⟨_, rfl⟩) (fun _ => out_no r er (Or.inl (by omega))) (fun q => absurd rfl q)
  have w4 := rtR.front (by omega) w3a hn4 (T3.rb hw (by omega)).2.2 cf
  have fr4 : frT μ m4 2 := fr3.on w4.2
  have g4 : G m4 := gG _ m4 g3 fun b i q1 q2 q3 => w4.2 b i (by omega)
  have plE : pl = ePl E (4 * t + (2 * s + 1)) := by
    rw [← epl, fr4 115 _ (by omega) (by omega) (by omega) (by omega) (by omega), ← a6 (2 * s + 1) (by omega)]
    congr 1
  refine X12_partnerOf_pt_s ?_
  have e110 : ∀ i, m4 110 i = μ 110 i := fun i => fr4 110 i (by omega) (by omega) (by omega) (by omega) (by omega)
  rw [ptR.of ((e110 _).trans a1) ((e110 _).trans a2) hne hs hd]
  intro _
  have rw4 : rtR m4 2 = some (rtWish (rtWay r (eN E t s :: wOf r)) 100) := by rw [w4.1, hd]; rfl
  have Fm : mF lER w μ m4 := by
    have F3 : mF lER w m2 (mUp m2 126 (40 * 2 + 1 : Int).toNat 100) := mF.refl.up (A_126 hw) mUp_ok rfl
    exact ((((mF.refl.call F1 rfl).call F2 rfl).call F3 rfl)).call F4 rfl
  have px : (rtWish (rtWay r (eN E t s :: wOf r)) 100).1 < (eP E : Int) := by
    show r.1 < (eP E : Int)
    have pm : (10 * d.toNat + p) % 10 = p := by omega
    have g1 := sn.1 (10 * d.toNat + p) r er
    rw [pm] at g1
    rw [g1.1]
    have c : ¬ eP E ≤ (10 * d.toNat + p) % 10 := fun g => by
      have := (sn.2.2.2.2.2.2.2.2.2 _ g).1
      rw [er] at this
      cases this
    omega
  have go := h6.2 m4 pl 2 t s (rtWish (rtWay r (eN E t s :: wOf r)) 100)
  rw [hd]
  refine go _ T4 (mF.refl.call Fm rfl) g4 ht hs (by rw [plE]; exact h6.1 _ _ ht (by omega)) (by omega) (by omega) rw4 rg.2.1 px fun z5 m5 hz5 r5 g5 f5 T5 F5 rz5 x5 _ => ?_
  have fr5 : frT μ m5 2 := fr4.trans fun b i q1 q2 q3 q4 q5 => f5 b i q1 q2 q3 q4 q5
  rw [plE] at hz5 r5
  have ePlE : ePl E (4 * t + (2 * s + 1)) = ePl E (4 * t + 2 * s + 1) := by rw [show 4 * t + (2 * s + 1) = 4 * t + 2 * s + 1 by omega]
  rw [ePlE] at hz5 r5
  refine ⟨fun q => J2 0 m5 _ fr5 T5 g5 (fun _ => ⟨_, rfl⟩) (fun _ => out_no r er (Or.inr fun g => by have := hz5.mpr g; omega)) (fun q => absurd rfl q), fun q => J2 1 m5 _ fr5 T5 g5 (fun q => absurd q (by decide)) (fun q => absurd q (by decide)) fun _ => ⟨_, r5, ?_⟩⟩
  unfold outE
  rw [dE, er]
  show (if (sPk S (10 * d.toNat + p)).1 = (t : Int) ∨ 20 ≤ (wOf r).length then none else if (eTh E (ePl E (4 * t + 2 * s + 1)) (eN E t s) (eN E t (1 - s)) (rtWish (rtWay r (eN E t s :: wOf r)) 100)).1 = true then _ else none) = _
  rw [if_neg (by rw [etie']; rintro (x | x); exact ct x; omega), if_pos (hz5.mp (by omega))]
end Say
end
section
/-! The class gathers candidates. -/
theorem rtC.up9 {m : mM} {a k : Nat} {z : Int} (hk : 9 ≤ k) : rtC (mUp m a k z) a = rtC m a := by
  unfold rtC
  rw [mUp.no (by omega), mUp.no (by omega), mUp.no (by omega), mUp.no (by omega), mUp.no (by omega), mUp.no (by omega), mUp.no (by omega), rowL.ext (f := m (a + 1)) (fun i _ => mUp.no (by omega)), rowL.ext (f := m (a + 2)) (fun i _ => mUp.no (by omega))]
theorem rtC.val {m : mM} {a : Nat} {r : Rt} (h : rtC m a = some r) : r = rtv m a := (rtC.get h).2
theorem X9_sideOf_s {w : mW} {μ : mM} {a : Nat} {d : Int} {Q : Int → mM → Prop} (k : Q (sdI (μ a 0) (μ a 1) d) μ) : WP_X9_sideOf_W w μ a d Q := by
  intro x ex _
  subst ex
  unfold sdI at k
  refine ⟨fun c y ey _ => ?_, fun c => ?_⟩
  · subst ey
    rw [if_neg (fun e => c e.symm)] at k
    refine ⟨fun c2 => ?_, fun c2 => ?_⟩
    · rw [if_neg (fun e => c2 e.symm)] at k; exact k
    · rw [if_pos c2.symm] at k; exact k
  · rw [if_pos c.symm] at k; exact k
theorem X9_end_s {w : mW} {μ : mM} {a : Nat} {s : Int} {Q : Int → mM → Prop} (k : Q (if s = 0 then μ a 0 else μ a 1) μ) : WP_X9_end_W w μ a s Q := by
  refine ⟨fun c x ex _ => ?_, fun c x ex _ => ?_⟩
  · rw [if_neg c] at k
    subst ex
    exact k
  · rw [if_pos c] at k
    subst ex
    exact k
theorem envC.fr {w : mW} {μ m : mM} {E : En} (hw : mWF w) (hT : mT w μ) (h : envC w μ E) (F : mF lEC w μ m) : envC w m E := by
  obtain ⟨h1, h2, h3, h4, h5, h6, h7⟩ := h
  obtain ⟨l1, l2, l3, l4, l5, l6⟩ := h4
  have tb : ∀ t, tbA m t = tbA μ t := fun t => congrArg Int.toNat (F.f (A_11 hw) rfl rfl)
  have db : ∀ d, dbA m d = dbA μ d := fun d => congrArg Int.toNat (F.f (A_10 hw) rfl rfl)
  have n1 : (eT E : Int) = w.2.2.2 1 := by
    have g : μ 6 16 = w.2.2.2 1 ∧ 0 ≤ μ 6 16 ∧ μ 6 16 ≤ 20 := hT 6 6 (A_6 hw) 16
    rw [← h1]; exact g.1
  have n0 : (eD E : Int) = w.2.2.2 0 := by
    have g : μ 6 15 = w.2.2.2 0 ∧ 0 ≤ μ 6 15 ∧ μ 6 15 ≤ 10 := hT 6 6 (A_6 hw) 15
    rw [← h3]; exact g.1
  have At : ∀ t, t < eT E → mAt w (tbA μ t) 220 := fun t ht => by
    have g : (((t : Nat) : Int) < w.2.2.2 1 → 0 ≤ μ 11 t ∧ mAt w (μ 11 t).toNat 220) ∧ (¬ ((t : Nat) : Int) < w.2.2.2 1 → μ 11 t = -1) := hT 11 11 (A_11 hw) t
    exact (g.1 (by omega)).2
  have Ad : ∀ d, d < eD E → mAt w (dbA μ d) 210 := fun d hd => by
    have g : (((d : Nat) : Int) < w.2.2.2 0 → 0 ≤ μ 10 d ∧ mAt w (μ 10 d).toNat 210) ∧ (¬ ((d : Nat) : Int) < w.2.2.2 0 → μ 10 d = -1) := hT 10 10 (A_10 hw) d
    exact (g.1 (by omega)).2
  have o1 : ∀ {a : Nat}, mAt w a 220 → mAt w (a + 1) 221 ∧ mAt w (a + 2) 222 ∧ mAt w (a + 3) 223 := fun {a} hA => ⟨(hT a 220 hA 3).2, (hT a 220 hA 4).2, (hT a 220 hA 5).2⟩
  have o0 : ∀ {a : Nat}, mAt w a 210 → mAt w (a + 1) 211 ∧ mAt w (a + 2) 212 ∧ mAt w (a + 4) 214 := fun {a} hA => ⟨(hT a 210 hA 0).2, (hT a 210 hA 1).2, (hT a 210 hA 3).2⟩
  refine ⟨F.f (A_6 hw) rfl h1, F.f (A_6 hw) rfl h2, F.f (A_6 hw) rfl h3, ⟨fun t ht => ?_, fun d hd => ?_, fun t s ht hs hne => ?_, fun t s ht hs hne => ?_, fun t d ht hd => ?_, fun i hi => F.f (A_35 hw) rfl (l6 i hi)⟩, fun t ht => ?_, fun d hd => ?_, ?_⟩
  · obtain ⟨a1, a2, a3⟩ := l1 t ht
    rw [tb]
    exact ⟨F.f (A_11 hw) rfl a1, a2, fun k hk => ⟨F.f (o1 (At t ht)).2.1 rfl (a3 k hk).1, F.f (o1 (At t ht)).2.2 rfl (a3 k hk).2⟩⟩
  · obtain ⟨a1, a2, a3⟩ := l2 d hd
    rw [db]
    exact ⟨F.f (A_10 hw) rfl a1, a2, fun k hk => F.f (o0 (Ad d hd)).2.2 rfl (a3 k hk)⟩
  · rw [tb, tb]; exact l3 t s ht hs hne
  · rw [db, db]; exact l4 t s ht hs hne
  · rw [tb, db]; exact l5 t d ht hd
  · obtain ⟨a1, a2, a3, a4, a5, a6⟩ := h5 t ht
    rw [tb]
    exact ⟨F.f (At t ht) rfl a1, F.f (At t ht) rfl a2, F.f (At t ht) rfl a3, F.f (At t ht) rfl a4, F.f (At t ht) rfl a5, fun i hi => F.f (o1 (At t ht)).1 rfl (a6 i hi)⟩
  · obtain ⟨a1, a2, a3⟩ := h6 d hd
    rw [db]
    refine ⟨fun p hp => F.f (o0 (Ad d hd)).2.1 rfl (a1 p hp), ?_, F.f (Ad d hd) rfl a3⟩
    rw [← a2, F.f (Ad d hd) rfl (rfl : μ (dbA μ d) 4 = _)]
    exact rowL.ext fun i _ => F.f (o0 (Ad d hd)).1 rfl rfl
  · have n8 : m 21 8 = μ 21 8 := F.f (A_21 hw) rfl rfl
    refine ⟨fun t i ht hi => by rw [n8]; exact h7.1 t i ht hi, ?_⟩
    intro m2 pl a t s r Q hT2 F2 ht hs hpl hr hsr hA kk
    rw [tb]
    rw [n8] at hpl
    exact h7.2 m2 pl a t s r Q hT2 ((mF.refl.call F rfl).call F2 rfl) ht hs hpl hr hsr hA kk
section Gat
variable {w : mW} {μ : mM} {E : En} {S : Sn} {d : Int} {p : Nat}
theorem X8_gather_s {Q : mM → Prop} (hw : mWF w) (hT : mT w μ) (ev : envC w μ E) (st : snC μ E S) (sn : snG E S) (ti : tiG E) (hp : p < 10) (hl : ∀ n, n ≤ eT E → (cdsN E S d p n).length ≤ 9)
    (k : ∀ m : mM, frC μ m → mT w m → mF lEC w μ m → m 32 9 = ((cdsN E S d p (eT E)).length : Int) → lst (cdC m) (cdsN E S d p (eT E)).length = cdsN E S d p (eT E) → (∀ i, i < (cdsN E S d p (eT E)).length → ¬ m (36 + 3 * i) 2 = 0) → Q m) : WP_X8_gather_W w μ d (p : Int) Q := by
  have ev0 := ev
  obtain ⟨h1, h2, h3, h4, h5, h6, h7⟩ := ev
  obtain ⟨l1, l2, l3, l4, l5, l6⟩ := h4
  intro m0 u0 T0
  obtain rfl := u0.is
  have F0 : mF lEC w μ (mUp μ 32 9 0) := mF.refl.up (A_32 hw) mUp_ok rfl
  refine loopF.im (fun z m => 0 ≤ z ∧ z ≤ (eT E : Int) ∧ frC μ m ∧ m 32 9 = ((cdsN E S d p z.toNat).length : Int) ∧ lst (cdC m) (cdsN E S d p z.toNat).length = cdsN E S d p z.toNat ∧ ∀ i, i < (cdsN E S d p z.toNat).length → ¬ m (36 + 3 * i) 2 = 0) (fun z => (21 - z).toNat) ⟨by omega, by omega, fun b i q1 q2 q3 q4 => mUp.no (by omega), mUp.yes ⟨rfl, rfl⟩, rfl, fun i hi => absurd hi (Nat.not_lt_zero i)⟩ (by omega) ?_
  rintro rc z m ⟨z0, z1, fr, hc, hL, hV⟩ ih z' m' e hz T F n en hn
  cases e
  have Fm : mF lEC w μ m := F0.call F rfl
  have e6 : m 6 16 = (eT E : Int) := Fm.f (A_6 hw) rfl h1
  rw [e6] at en
  subst en
  have step : ∀ m2 : mM, frC μ m2 → m2 32 9 = ((cdsN E S d p (z.toNat + 1)).length : Int) → lst (cdC m2) (cdsN E S d p (z.toNat + 1)).length = cdsN E S d p (z.toNat + 1) → (∀ i, i < (cdsN E S d p (z.toNat + 1)).length → ¬ m2 (36 + 3 * i) 2 = 0) → z < (eT E : Int) → rc (z + 1, m2) := fun m2 a1 a2 a3 a5 a4 => ih _ _ ⟨by omega, by omega, a1, by rw [show (z + 1).toNat = z.toNat + 1 by omega]; exact a2, by rw [show (z + 1).toNat = z.toNat + 1 by omega]; exact a3, by rw [show (z + 1).toNat = z.toNat + 1 by omega]; exact a5⟩ (by omega)
  refine ⟨fun g => ?_, fun g b eb hb => ?_⟩
  · have e : z.toNat = eT E := by omega
    rw [e] at hc hL hV
    exact k m fr T Fm hc hL hV
  have zt : z.toNat < eT E := by omega
  obtain ⟨t1, t2, t3⟩ := l1 z.toNat zt
  have eb' : b = tbA μ z.toNat := by
    have g1 : m 11 z.toNat = (tbA μ z.toNat : Int) := Fm.f (A_11 hw) rfl t1
    omega
  subst eb'
  obtain ⟨a1, a2, a3, a4, a5, a6⟩ := h5 z.toNat zt
  have hiF : ∀ {c i : Nat}, 76 ≤ c → m c i = μ c i := fun h => fr.hi h
  have no : ∀ {x : Option Cd}, cdE E S d p z.toNat = none → cdsN E S d p (z.toNat + 1) = cdsN E S d p z.toNat := fun h => fmN.no h
  have skip : cdE E S d p z.toNat = none → rc (z + 1, m) := fun h => by
    have e : cdsN E S d p (z.toNat + 1) = cdsN E S d p z.toNat := fmN.no h
    exact step m fr (by rw [e]; exact hc) (by rw [e]; exact hL) (by rw [e]; exact hV) g
  refine X9_sideOf_s ?_
  rw [hiF (by omega), hiF (by omega), a1, a2]
  have es : sdI (eA E z.toNat) (eB E z.toNat) d = sdE E d z.toNat := rfl
  rw [es]
  intro rs
  refine ⟨fun c _ _ => skip (if_pos c), fun c up eup hup => ?_⟩
  obtain ⟨s, hs, hs2⟩ : ∃ s : Nat, sdE E d z.toNat = (s : Int) ∧ s < 2 := ⟨(sdE E d z.toNat).toNat, by omega, by omega⟩
  have cE : cdE E S d p z.toNat = cdAt E S d p z.toNat s := by
    unfold cdE
    rw [if_neg (by omega), hs, Int.toNat_natCast]
  have dN : d = eN E z.toNat s := by
    have g : sdI (eA E z.toNat) (eB E z.toNat) d = (s : Int) := hs
    unfold sdI at g
    unfold eN
    by_cases q : eA E z.toNat = d
    · rw [if_pos q] at g
      rw [if_pos (by omega)]; exact q.symm
    · rw [if_neg q] at g
      by_cases q2 : eB E z.toNat = d
      · rw [if_pos q2] at g
        rw [if_neg (by omega)]; exact q2.symm
      · rw [if_neg q2] at g
        omega
  rw [hiF (by omega), a3] at eup
  refine ⟨fun q _ _ => skip (by rw [cE]; exact if_pos (eup.trans q)), fun q cc ec hcc => ?_⟩
  have c9 := hl z.toNat (by omega)
  rw [hc] at ec
  refine ⟨fun q10 => ?_, fun q10 => by omega⟩
  show (0 ≤ sdE E d z.toNat * 10 + (p : Int) ∧ sdE E d z.toNat * 10 + (p : Int) ≤ 19) → _
  rw [hs]
  intro hpl h eh hh th eth hth
  have pk20 : 10 * s + p < 20 := by omega
  have eh' : h = heA μ z.toNat (10 * s + p) := by
    have g1 := (t3 (10 * s + p) pk20).1
    rw [hiF (by omega), show ((s : Int) * 10 + (p : Int)).toNat = 10 * s + p by omega, g1] at eh
    have e2 : ((tbA μ z.toNat + 4 + 6 * (10 * s + p) : Nat) : Int) = (h : Int) := eh
    show h = tbA μ z.toNat + 4 + 6 * (10 * s + p)
    omega
  subst eh'
  obtain ⟨s1, s2, s3, s4⟩ := st.1 z.toNat (10 * s + p) zt pk20
  have sE : slt z.toNat s p = 20 * z.toNat + (10 * s + p) := by unfold slt; omega
  rw [← sE] at s1 s2
  have hr : rtC m (heA μ z.toNat (10 * s + p)) = sHd S (slt z.toNat s p) := by rw [fr.rt (by show 76 ≤ tbA μ z.toNat + 4 + 6 * (10 * s + p); omega), s1]
  refine ⟨fun q2 _ _ => skip ?_, fun q2 => ?_⟩
  · have e : sHd S (slt z.toNat s p) = none := by rw [← hr]; exact rtC.nil (eth.trans q2)
    rw [cE]
    unfold cdAt
    rw [if_neg (by rw [eup]; exact q), e]
  obtain ⟨r, er⟩ : ∃ r, sHd S (slt z.toNat s p) = some r := by
    cases e : sHd S (slt z.toNat s p) with
    | none => exact absurd (eth.symm.trans (rtC.no (hr.trans e))) q2
    | some r => exact ⟨r, rfl⟩
  have rg := sn.2.2.1 (slt z.toNat s p) r er
  have wy : rowL (m (heA μ z.toNat (10 * s + p) + 1)) (m (heA μ z.toNat (10 * s + p)) 7).toNat = wOf r := by rw [(rtC.get (hr.trans er)).2]
  refine X7_passes_s fun y hy ry => ⟨fun q3 a ea ha => ?_, fun q3 _ _ => skip ?_⟩
  rotate_left 1
  · have hin : d ∈ wOf r := by rw [← wy]; exact hy.mp (by omega)
    rw [cE]
    unfold cdAt
    rw [if_neg (by rw [eup]; exact q), er]
    show (if d ∈ wOf r then none else _) = none
    rw [if_pos hin]
  have hnin : ¬ d ∈ wOf r := fun g => by
    have := hy.mpr (by rw [wy]; exact g)
    omega
  have ea' : a = 36 + 3 * (cdsN E S d p z.toNat).length := by
    have g1 := l6 (cdsN E S d p z.toNat).length (by omega)
    rw [← Fm.f (A_35 hw) rfl (rfl : μ 35 (cdsN E S d p z.toNat).length = _)] at g1
    rw [← ec, Int.toNat_natCast, g1] at ea
    omega
  have hb192 : 192 ≤ tbA μ z.toNat := t2
  have ap : apr a (heA μ z.toNat (10 * s + p)) := by
    show a ≠ tbA μ z.toNat + 4 + 6 * (10 * s + p) ∧ _
    have hE : heA μ z.toNat (10 * s + p) = tbA μ z.toNat + 4 + 6 * (10 * s + p) := rfl
    refine ⟨?_, ?_, ?_, ?_, ?_, ?_, ?_⟩ <;> omega
  refine X7_become_s ap fun m2 r2 o2 T2 F2 wn ewn hwn m3 u3 T3 m4 u4 T4 => ?_
  obtain rfl := u3.is
  obtain rfl := u4.is
  have ra : ∀ b i, ¬ (a ≤ b ∧ b ≤ a + 2) → mUp (mUp m2 a 9 wn) a 10 z b i = m b i := fun b i hb => by
    rw [mUp.no (by omega), mUp.no (by omega), o2 b i (by omega) (by omega) (by omega)]
  refine X9_end_s ?_
  rw [ra _ _ (by omega), ra _ _ (by omega), hiF (by omega), hiF (by omega), a1, a2]
  have ep : (if 1 - (s : Int) = 0 then eA E z.toNat else eB E z.toNat) = eN E z.toNat (1 - s) := by
    unfold eN
    have z2 : s = 0 ∨ s = 1 := by omega
    rcases z2 with v | v <;> subst v
    · rw [if_neg (by omega), if_neg (by omega)]
    · rw [if_pos (by omega), if_pos (by omega)]
  rw [ep]
  intro _ m5 u5 T5 pol epol hpol
  obtain rfl := u5.is
  have wn' : wn = sHw S (slt z.toNat s p) := by
    have hE : heA μ z.toNat (10 * s + p) = tbA μ z.toNat + 4 + 6 * (10 * s + p) := rfl
    rw [← ewn, o2 _ _ (by omega) (by omega) (by omega), hiF (by omega), s2 (by rw [er]; exact fun x => by cases x)]
  have rb : ∀ b i, ¬ (a ≤ b ∧ b ≤ a + 2) → mUp (mUp (mUp m2 a 9 wn) a 10 z) a 11 (eN E z.toNat (1 - s)) b i = m b i := fun b i hb => by
    rw [mUp.no (by omega), ra b i hb]
  have r5 : rtC (mUp (mUp (mUp m2 a 9 wn) a 10 z) a 11 (eN E z.toNat (1 - s))) a = some r := by
    rw [rtC.up9 (by omega), rtC.up9 (by omega), rtC.up9 (by omega), r2, hr, er]
  have plE : pol = ePl E (4 * z.toNat + 2 * s) := by
    rw [rb _ _ (by omega), hiF (by omega), show ((s : Int) * 2 + 0).toNat = 2 * s by omega, a6 (2 * s) (by omega)] at epol
    exact epol.symm
  have F5 : mF lEC w μ (mUp (mUp (mUp m2 a 9 wn) a 10 z) a 11 (eN E z.toNat (1 - s))) := ((((Fm.call F2 rfl).up ha mUp_ok rfl).up ha mUp_ok rfl).up ha mUp_ok rfl)
  refine h7.2 _ pol a z.toNat s r _ T5 (mF.refl.call F5 rfl) zt hs2 (by rw [plE]; exact h7.1 _ _ zt (by omega)) r5 rg.2.1 ha fun z6 m6 hz6 r6 f6 T6 F6 rz6 => ?_
  rw [plE, ← dN] at hz6 r6
  have fr6 : ∀ b i, ¬ (a ≤ b ∧ b ≤ a + 2) → ¬ (b = 21 ∧ 2 ≤ i ∧ i ≤ 7) → m6 b i = m b i := fun b i hb hb2 => by
    rw [f6 b i (by omega) (by omega) (by omega) hb2, rb b i hb]
  have frC6 : frC μ m6 := fun b i q1 q2 q3 q4 => (fr6 b i (by omega) q1).trans (fr b i q1 q2 q3 q4)
  have old : ∀ i, i < (cdsN E S d p z.toNat).length → cdC m6 i = cdC m i := fun i hi => cdv.of (fun j => fr6 _ _ (by omega) (by omega)) (fun j => fr6 _ _ (by omega) (by omega)) (fun j => fr6 _ _ (by omega) (by omega))
  refine ⟨fun q4 _ _ => ?_, fun q4 m7 u7 T7 _ _ => ?_⟩
  · have cn : cdE E S d p z.toNat = none := by
      rw [cE]
      unfold cdAt
      rw [if_neg (by rw [eup]; exact q), er]
      show (if d ∈ wOf r then none else if (eTh E (ePl E (4 * z.toNat + 2 * s)) d (eN E z.toNat (1 - s)) r).1 = true then _ else none) = none
      rw [if_neg hnin, if_neg (fun g => by have := hz6.mpr g; omega)]
    have e : cdsN E S d p (z.toNat + 1) = cdsN E S d p z.toNat := fmN.no cn
    refine step m6 frC6 ?_ ?_ ?_ g
    · rw [e, fr6 32 9 (by omega) (by omega)]; exact hc
    · rw [e, lst.ext old]; exact hL
    · rw [e]
      intro i hi
      rw [fr6 _ _ (by omega) (by omega)]
      exact hV i hi
  · obtain rfl := u7.is
    have cs : cdE E S d p z.toNat = some ((z.toNat : Int), eN E z.toNat (1 - s), sHw S (slt z.toNat s p), (eTh E (ePl E (4 * z.toNat + 2 * s)) d (eN E z.toNat (1 - s)) r).2) := by
      rw [cE]
      unfold cdAt
      rw [if_neg (by rw [eup]; exact q), er]
      show (if d ∈ wOf r then none else if (eTh E (ePl E (4 * z.toNat + 2 * s)) d (eN E z.toNat (1 - s)) r).1 = true then _ else none) = _
      rw [if_neg hnin, if_pos (hz6.mp (by omega))]
    have e : cdsN E S d p (z.toNat + 1) = cdsN E S d p z.toNat ++ [((z.toNat : Int), eN E z.toNat (1 - s), sHw S (slt z.toNat s p), (eTh E (ePl E (4 * z.toNat + 2 * s)) d (eN E z.toNat (1 - s)) r).2)] := fmN.yes cs
    have el : (cdsN E S d p (z.toNat + 1)).length = (cdsN E S d p z.toNat).length + 1 := by rw [e, List.length_append]; rfl
    have u9 : ∀ b i, ¬ (b = 32 ∧ i = 9) → mUp m6 32 9 (cc + 1) b i = m6 b i := fun b i hb => mUp.no hb
    refine step _ (fun b i q1 q2 q3 q4 => (u9 b i q2).trans (frC6 b i q1 q2 q3 q4)) ?_ ?_ ?_ g
    · rw [mUp.yes ⟨rfl, rfl⟩, el, ← ec]
      omega
    · rw [el, lst.succ]
      have e1 : lst (cdC (mUp m6 32 9 (cc + 1))) (cdsN E S d p z.toNat).length = cdsN E S d p z.toNat := by
        rw [← hL]
        have e2 : (lst (cdC m) (cdsN E S d p z.toNat).length).length = (cdsN E S d p z.toNat).length := by rw [hL]
        rw [e2]
        exact lst.ext fun i hi => (cdv.of (fun j => u9 _ _ (by omega)) (fun j => u9 _ _ (by omega)) (fun j => u9 _ _ (by omega))).trans (old i hi)
      rw [e1, e]
      congr 2
      have e3 : cdC (mUp m6 32 9 (cc + 1)) (cdsN E S d p z.toNat).length = cdv m6 a := by
        rw [ea']
        exact cdv.of (fun j => u9 _ _ (by omega)) (fun j => u9 _ _ (by omega)) (fun j => u9 _ _ (by omega))
      rw [e3]
      have f9 : ∀ i, 9 ≤ i → m6 a i = mUp (mUp (mUp m2 a 9 wn) a 10 z) a 11 (eN E z.toNat (1 - s)) a i := fun i hi => f6 a i (by omega) (by omega) (by omega) (by omega)
      show (m6 a 10, m6 a 11, m6 a 9, rtv m6 a) = _
      rw [f9 10 (by omega), f9 11 (by omega), f9 9 (by omega), mUp.no (by omega), mUp.yes ⟨rfl, rfl⟩, mUp.yes ⟨rfl, rfl⟩, mUp.no (by omega), mUp.no (by omega), mUp.yes ⟨rfl, rfl⟩, ← rtC.val r6, wn']
      rw [Int.toNat_of_nonneg z0]
    · rw [el]
      intro i hi
      rw [u9 _ _ (by omega)]
      by_cases c7 : i = (cdsN E S d p z.toNat).length
      · rw [c7, ← ea']
        exact (rtC.get r6).1
      · rw [fr6 _ _ (by omega) (by omega)]
        exact hV i (by omega)
end Gat
end
section
/-! The class says. -/
theorem alk.eq {x y : Option Rt} {p : Nat} (hx : rtO p x) (hy : rtO p y) : alk x y ↔ x = y := by
  cases x with
  | none =>
    cases y with
    | none => exact ⟨fun _ => rfl, fun _ => trivial⟩
    | some s => exact ⟨fun h => False.elim h, fun h => by cases h⟩
  | some r =>
    cases y with
    | none => exact ⟨fun h => False.elim h, fun h => by cases h⟩
    | some s =>
      constructor
      · intro h
        have h : r.2 = s.2 := h
        have e : r.1 = s.1 := (hx r rfl).1.trans (hy s rfl).1.symm
        exact congrArg some (Prod.ext e h)
      · intro h
        cases h
        rfl
/-- what goes out, ahead of the policy -/
def cmpE (E : En) (S : Sn) (t s p : Nat) : Option Rt := match (sPk S (10 * (eN E t s).toNat + p)).2 with
  | none => none
  | some r => if (sPk S (10 * (eN E t s).toNat + p)).1 = (t : Int) ∨ 20 ≤ (wOf r).length then none else some (rtWish (rtWay r (eN E t s :: wOf r)) 100)
theorem outE.none' {E : En} {S : Sn} {t s p : Nat} (h : cmpE E S t s p = none) : outE E S t s p = none := by
  unfold cmpE at h
  unfold outE
  cases e : (sPk S (10 * (eN E t s).toNat + p)).2 with
  | none => rfl
  | some r =>
    rw [e] at h
    have h : (if (sPk S (10 * (eN E t s).toNat + p)).1 = (t : Int) ∨ 20 ≤ (wOf r).length then none else some (rtWish (rtWay r (eN E t s :: wOf r)) 100)) = none := h
    show (if (sPk S (10 * (eN E t s).toNat + p)).1 = (t : Int) ∨ 20 ≤ (wOf r).length then none else _) = none
    by_cases c : (sPk S (10 * (eN E t s).toNat + p)).1 = (t : Int) ∨ 20 ≤ (wOf r).length
    · rw [if_pos c]
    · rw [if_neg c] at h; cases h
theorem outE.some' {E : En} {S : Sn} {t s p : Nat} {x : Rt} (h : cmpE E S t s p = some x) : outE E S t s p = if (eTh E (ePl E (4 * t + 2 * s + 1)) (eN E t s) (eN E t (1 - s)) x).1 = true then some (rtWish (eTh E (ePl E (4 * t + 2 * s + 1)) (eN E t s) (eN E t (1 - s)) x).2 100) else none := by
  unfold cmpE at h
  unfold outE
  cases e : (sPk S (10 * (eN E t s).toNat + p)).2 with
  | none => rw [e] at h; cases h
  | some r =>
    rw [e] at h
    have h : (if (sPk S (10 * (eN E t s).toNat + p)).1 = (t : Int) ∨ 20 ≤ (wOf r).length then none else some (rtWish (rtWay r (eN E t s :: wOf r)) 100)) = some x := h
    show (if (sPk S (10 * (eN E t s).toNat + p)).1 = (t : Int) ∨ 20 ≤ (wOf r).length then none else _) = _
    by_cases c : (sPk S (10 * (eN E t s).toNat + p)).1 = (t : Int) ∨ 20 ≤ (wOf r).length
    · rw [if_pos c] at h; cases h
    · rw [if_neg c] at h ⊢
      rw [Option.some.inj h]
theorem rtC.wish {m : mM} {a : Nat} {v : Int} {x : Rt} (h : rtC m a = some x) : rtC (mUp m a 4 v) a = some (rtWish x v) := by
  obtain ⟨g, e⟩ := rtC.get h
  rw [rtC.the (by rw [mUp.no (by omega)]; exact g), mUp.no (by omega), mUp.yes ⟨rfl, rfl⟩, mUp.no (by omega), mUp.no (by omega), mUp.no (by omega), mUp.no (by omega), e, rowL.ext (f := m (a + 1)) (fun i _ => mUp.no (by omega)), rowL.ext (f := m (a + 2)) (fun i _ => mUp.no (by omega))]
  rfl
theorem rtC.wishN {m : mM} {a : Nat} {v : Int} (h : rtC m a = none) : rtC (mUp m a 4 v) a = none := rtC.nil (by rw [mUp.no (by omega)]; exact rtC.no h)
section SayC
variable {w : mW} {μ : mM} {E : En} {S : Sn} {p t s : Nat}
theorem X8_compose_s {Q : mM → Prop} (hw : mWF w) (hT : mT w μ) (ev : envC w μ E) (st : snC μ E S) (sn : snG E S) (ti : tiG E) (ht : t < eT E) (hs : s < 2) (hp : p < 10)
    (k : ∀ m : mM, rtC m 73 = cmpE E S t s p → (∀ b i, ¬ (73 ≤ b ∧ b ≤ 75) → m b i = μ b i) → Q m) : WP_X8_compose_W w μ (tbA μ t) (t : Int) (s : Int) (p : Int) Q := by
  obtain ⟨h1, h2, h3, ⟨l1, l2, l3, l4, l5, l6⟩, h5, h6, h7⟩ := ev
  obtain ⟨a1, a2, a3, a4, a5, a6⟩ := h5 t ht
  refine X9_end_s ?_
  rw [a1, a2]
  have ep : (if (s : Int) = 0 then eA E t else eB E t) = eN E t s := by
    unfold eN
    by_cases c : s = 0
    · rw [if_pos (by omega), if_pos c]
    · rw [if_neg (by omega), if_neg c]
  rw [ep]
  intro rd b6 e6 hb6 b10 e10 hb10
  have dr : 0 ≤ eN E t s ∧ eN E t s < (eD E : Int) := by
    unfold eN
    split
    · exact (ti.1 t ht).2.1
    · exact (ti.1 t ht).2.2
  have dl : (eN E t s).toNat < eD E := by omega
  obtain ⟨d1, d2, d3⟩ := l2 (eN E t s).toNat dl
  have eb6 : b6 = dbA μ (eN E t s).toNat := by omega
  subst eb6
  have eb10 : b10 = pkA μ (eN E t s).toNat p := by
    have g := d3 p hp
    rw [show ((p : Int)).toNat = p by omega, g] at e10
    have e10 : ((dbA μ (eN E t s).toNat + 5 + 3 * p : Nat) : Int) = (b10 : Int) := e10
    show b10 = dbA μ (eN E t s).toNat + 5 + 3 * p
    omega
  subst eb10
  obtain ⟨q1, q2⟩ := st.2.1 (eN E t s).toNat p dl hp
  refine X7_become_s ?_ fun m13 r13 o13 T13 F13 m17 u17 T17 tie etie htie => ?_
  · show 73 ≠ dbA μ (eN E t s).toNat + 5 + 3 * p ∧ _
    have hE : pkA μ (eN E t s).toNat p = dbA μ (eN E t s).toNat + 5 + 3 * p := rfl
    refine ⟨?_, ?_, ?_, ?_, ?_, ?_, ?_⟩ <;> omega
  obtain rfl := u17.is
  have o17 : ∀ b i, ¬ (73 ≤ b ∧ b ≤ 75) → mUp m13 73 4 100 b i = μ b i := fun b i hb => by
    rw [mUp.no (by omega), o13 b i (by omega) (by omega) (by omega)]
  have etie' : (sPk S (10 * (eN E t s).toNat + p)).1 = tie := by
    rw [← etie, o17 _ _ (by omega), show ((p : Int)).toNat = p by omega, q1]
  refine ⟨fun c m u _ => ?_, fun c => ?_⟩
  · obtain rfl := u.is
    refine k _ ?_ fun b i hb => by rw [mUp.no (by omega), o17 b i hb]
    rw [rtC.nil (mUp.yes ⟨rfl, rfl⟩)]
    unfold cmpE
    cases e : (sPk S (10 * (eN E t s).toNat + p)).2 with
    | none => rfl
    | some r =>
      show none = (if (sPk S (10 * (eN E t s).toNat + p)).1 = (t : Int) ∨ 20 ≤ (wOf r).length then none else _)
      rw [if_pos (Or.inl (etie'.trans c))]
  · cases e : (sPk S (10 * (eN E t s).toNat + p)).2 with
    | none =>
      have cn : cmpE E S t s p = none := by
        unfold cmpE
        rw [e]
      have z2 : mUp m13 73 4 100 73 2 = 0 := by
        rw [mUp.no (by omega)]
        exact rtC.no (r13.trans (q2.trans e))
      refine X7_putInFront_s (fun _ _ _ _ => ⟨fun q => ?_, fun q m u _ => ?_⟩) fun m1 _ _ _ _ _ _ o1 T1 F1 _ => ⟨fun q => ?_, fun q => absurd q (by decide)⟩
      · exact absurd rfl q
      · obtain rfl := u.is
        exact k _ (by rw [rtC.nil (mUp.yes ⟨rfl, rfl⟩), cn]) fun b i hb => by rw [mUp.no (by omega), o17 b i hb]
      · exact k _ (by rw [rtC.nil ((o1 73 2 (by omega) (by omega)).trans z2), cn]) fun b i hb => by rw [o1 b i (by omega) (by omega), o17 b i hb]
    | some r =>
      have r17 : rtC (mUp m13 73 4 100) 73 = some (rtWish r 100) := rtC.wish (r13.trans (q2.trans e))
      have len : ((wOf r).length : Int) = ((mUp m13 73 4 100 73 7).toNat : Int) := by
        have g := (rtC.get r17).2
        have e2 : wOf (rtWish r 100) = rowL (mUp m13 73 4 100 (73 + 1)) (mUp m13 73 4 100 73 7).toNat := by rw [g]
        have e3 : wOf (rtWish r 100) = wOf r := rfl
        rw [← e3, e2, rowL.len]
      refine X7_putInFront_s (fun h _ _ _ => ⟨fun q => absurd rfl q, fun q m u _ => ?_⟩) fun m1 _ n0 n20 e7 w1 w2 o1 T1 F1 _ => ⟨fun q => ?_, fun q => absurd q (by decide)⟩
      · obtain rfl := u.is
        have cn : cmpE E S t s p = none := by
          unfold cmpE
          rw [e]
          show (if (sPk S (10 * (eN E t s).toNat + p)).1 = (t : Int) ∨ 20 ≤ (wOf r).length then none else _) = none
          rw [if_pos (Or.inr (by omega))]
        exact k _ (by rw [rtC.nil (mUp.yes ⟨rfl, rfl⟩), cn]) fun b i hb => by rw [mUp.no (by omega), o17 b i hb]
      · have f := rtC.front r17 (by decide) n0 e7 w1 w2 o1
        have cs : cmpE E S t s p = some (rtWish (rtWay r (eN E t s :: wOf r)) 100) := by
          unfold cmpE
          rw [e]
          show (if (sPk S (10 * (eN E t s).toNat + p)).1 = (t : Int) ∨ 20 ≤ (wOf r).length then none else _) = _
          rw [if_neg (by rw [etie']; rintro (x | x); exact c x; omega)]
        exact k _ (by rw [f, cs]; rfl) fun b i hb => by rw [o1 b i (by omega) (by omega), o17 b i hb]
end SayC
end
section
/-! The class says: the queue's side; the whole. -/
theorem lst.pw {α : Type} {R : α → α → Prop} {g : Nat → α} {n i j : Nat} (h : (lst g n).Pairwise R) (hij : i < j) (hj : j < n) : R (g i) (g j) := by
  have h2 := List.pairwise_iff_getElem.mp h i j (by rw [lst.len]; omega) (by rw [lst.len]; omega) hij
  unfold lst at h2
  rw [List.getElem_map, List.getElem_map, List.getElem_range, List.getElem_range] at h2
  exact h2
theorem lst.map {α β : Type} {g : Nat → α} {f : α → β} {n : Nat} : (lst g n).map f = lst (fun i => f (g i)) n := by
  unfold lst
  rw [List.map_map]
  rfl
theorem evC.slots {m : mM} {q : List Ev} (h : evC m = q) : q.map (·.2) = lst (fun i => (m 33 i).toNat) (m 32 10).toNat := by
  rw [← h, evC.eq, lst.map]
theorem evC.typ {w : mW} {m : mM} (hw : mWF w) (hT : mT w m) (i : Nat) : 0 ≤ m 33 i ∧ m 33 i ≤ 799 := by
  have h : 0 ≤ m 33 i ∧ m 33 i ≤ 799 ∧ (m 33 i = 0 ∨ m 33 i < 40 * w.2.2.2 1) := hT 33 33 (A_33 hw) i
  exact ⟨h.1, h.2.1⟩
theorem evC.cnt {w : mW} {m : mM} (hw : mWF w) (hT : mT w m) : 0 ≤ m 32 10 ∧ m 32 10 ≤ 800 := by
  have h : 0 ≤ m 32 10 ∧ m 32 10 ≤ 800 ∧ (m 32 10 = 0 ∨ 0 < w.2.2.2 1) := hT 32 32 (A_32 hw) 10
  exact ⟨h.1, h.2.1⟩
theorem evC.inj {w : mW} {m : mM} {q : List Ev} (hw : mWF w) (hT : mT w m) (h : evC m = q) (hd : (q.map (·.2)).Nodup) : ∀ i j, i < (m 32 10).toNat → j < (m 32 10).toNat → m 33 i = m 33 j → i = j := by
  rw [evC.slots h] at hd
  intro i j hi hj e
  rcases Nat.lt_trichotomy i j with c | c | c
  · exact absurd (congrArg Int.toNat e) (lst.pw hd c hj)
  · exact c
  · exact absurd (congrArg Int.toNat e.symm) (lst.pw hd c hi)
theorem evC.out {w : mW} {m : mM} {q : List Ev} {e i : Nat} (hw : mWF w) (hT : mT w m) (h : evC m = q) (he : ∀ x ∈ q, ¬ x.2 = e) (hi : i < (m 32 10).toNat) : 0 ≤ m 33 i ∧ ¬ m 33 i = (e : Int) := by
  have t := evC.typ hw hT i
  refine ⟨t.1, fun g => ?_⟩
  refine he (m 34 (m 33 i).toNat, (m 33 i).toNat) (by rw [← h, evC.eq]; exact lst.mem.mpr ⟨i, hi, rfl⟩) ?_
  show (m 33 i).toNat = e
  omega
theorem evC.room {w : mW} {m : mM} {q : List Ev} {e : Nat} (hw : mWF w) (hT : mT w m) (h : evC m = q) (hd : (q.map (·.2)).Nodup) (he : ∀ x ∈ q, ¬ x.2 = e) (h8 : e < 800) : m 32 10 < 800 := by
  have c := evC.cnt hw hT
  have g := pigeon 800 ((m 32 10).toNat + 1) (fun i => if i < (m 32 10).toNat then (m 33 i).toNat else e) (fun i hi => ?_) (fun i j hij hj => ?_)
  · omega
  · have t := evC.typ hw hT i
    show (if i < (m 32 10).toNat then (m 33 i).toNat else e) < 800
    split
    · omega
    · exact h8
  · show (if i < (m 32 10).toNat then (m 33 i).toNat else e) ≠ (if j < (m 32 10).toNat then (m 33 j).toNat else e)
    rw [if_pos (by omega)]
    have o := evC.out hw hT h he (show i < (m 32 10).toNat by omega)
    by_cases q : j < (m 32 10).toNat
    · rw [if_pos q]
      intro g
      have t1 := evC.typ hw hT i
      have t2 := evC.typ hw hT j
      have := evC.inj hw hT h hd i j (by omega) q (by omega)
      omega
    · rw [if_neg q]
      omega
theorem evC.ord {m : mM} {q : List Ev} (h : evC m = q) (hs : q.Pairwise (fun x y => x.1 ≤ y.1)) : ∀ i j, i < j → j < (m 32 10).toNat → m 34 (m 33 i).toNat ≤ m 34 (m 33 j).toNat := by
  rw [← h, evC.eq] at hs
  intro i j hij hj
  exact lst.pw (R := fun x y : Ev => x.1 ≤ y.1) (g := fun i => (m 34 (m 33 i).toNat, (m 33 i).toNat)) hs hij hj
section SayC2
variable {w : mW} {μ : mM} {E : En} {S : Sn} {p t s : Nat}
/-- an event of the state: made anew -/
theorem X8_sched_s {Q : mM → Prop} {m : mM} {q : List Ev} {e : Nat} {v : Int} (hw : mWF w) (hT : mT w m) (h : evC m = q) (hs : q.Pairwise (fun x y => x.1 ≤ y.1)) (hd : (q.map (·.2)).Nodup) (he : ∀ x ∈ q, ¬ x.2 = e) (h8 : e < 800) (hf : ∀ i, i < 800 → (¬ m 34 i = -1 ↔ ∃ x, (x, i) ∈ q)) (hv : ¬ v = -1)
    (k : ∀ m1 : mM, evC m1 = insQ (v, e) q → (∀ i, i < 800 → (¬ m1 34 i = -1 ↔ ∃ x, (x, i) ∈ insQ (v, e) q)) → frQ m m1 e → Q m1) : WP_X8_schedule_W w m (e : Int) v Q := by
  have c := evC.cnt hw hT
  refine X8_schedule_s (by omega) ⟨c.1, evC.room hw hT h hd he h8⟩ (fun i hi => evC.out hw hT h he hi) (evC.ord h hs) fun m1 a1 a2 a3 => ?_
  rw [Int.toNat_natCast] at a1 a2 a3
  rw [h] at a1
  refine k m1 a1 (fun i hi => ?_) a3
  by_cases g : i = e
  · subst g
    rw [a2]
    exact ⟨fun _ => ⟨v, insQ.mem.mpr (Or.inl rfl)⟩, fun _ => hv⟩
  · rw [a3 34 i (by omega) (by omega) (by omega), hf i hi]
    constructor
    · rintro ⟨x, hx⟩
      exact ⟨x, insQ.mem.mpr (Or.inr hx)⟩
    · rintro ⟨x, hx⟩
      rcases insQ.mem.mp hx with q1 | q1
      · exact absurd (congrArg Prod.snd q1) g
      · exact ⟨x, q1⟩
theorem X8_canc_s {Q : mM → Prop} {m : mM} {q : List Ev} {e : Nat} (hw : mWF w) (hT : mT w m) (h : evC m = q) (hd : (q.map (·.2)).Nodup) (hf : ∀ i, i < 800 → (¬ m 34 i = -1 ↔ ∃ x, (x, i) ∈ q)) (h8 : e < 800)
    (k : ∀ m1 : mM, evC m1 = remQ e q → (∀ i, i < 800 → (¬ m1 34 i = -1 ↔ ∃ x, (x, i) ∈ remQ e q)) → frQ m m1 e → Q m1) : WP_X8_cancel_W w m (e : Int) Q := by
  have c := evC.cnt hw hT
  refine X8_cancel_s (by omega) c.1 (fun i hi => (evC.typ hw hT i).1) (evC.inj hw hT h hd) (fun ⟨i, hi, g⟩ => ?_) fun m1 a1 a2 a3 => ?_
  · rw [Int.toNat_natCast]
    refine (hf e h8).mpr ⟨m 34 (m 33 i).toNat, ?_⟩
    rw [← h, evC.eq]
    exact lst.mem.mpr ⟨i, hi, by rw [g, Int.toNat_natCast]⟩
  · rw [Int.toNat_natCast] at a1 a2 a3
    rw [h] at a1
    refine k m1 a1 (fun i hi => ?_) a3
    by_cases g : i = e
    · subst g
      rw [a2]
      exact ⟨fun q1 => absurd rfl q1, fun ⟨x, hx⟩ => absurd rfl (remQ.mem.mp hx).2⟩
    · rw [a3 34 i (by omega) (by omega) (by omega), hf i hi]
      exact ⟨fun ⟨x, hx⟩ => ⟨x, remQ.mem.mpr ⟨hx, g⟩⟩, fun ⟨x, hx⟩ => ⟨x, (remQ.mem.mp hx).1⟩⟩
theorem X8_say_s {Q : mM → Prop} (hw : mWF w) (hT : mT w μ) (ev : envC w μ E) (st : snC μ E S) (sn : snG E S) (ti : tiG E) (tG : thG E) (ht : t < eT E) (hs : s < 2) (hp : p < 10) (hgl : 0 ≤ eG E t ∧ 0 ≤ eL E t) (hck : 0 ≤ sCk S)
    (k : ∀ m : mM, snC m E (sayE E S t s p) → (∀ b i, b < 192 → ¬ (b = 21 ∧ 2 ≤ i ∧ i ≤ 7) → ¬ (b = 32 ∧ (i = 9 ∨ i = 10)) → ¬ b = 33 → ¬ b = 34 → ¬ (36 ≤ b ∧ b ≤ 69) → ¬ (73 ≤ b ∧ b ≤ 75) → m b i = μ b i) → Q m) : WP_X8_say_W w μ (t : Int) (s : Int) (p : Int) Q := by
  have ev0 := ev
  obtain ⟨h1, h2, h3, ly, h5, h6, h7⟩ := ev
  obtain ⟨l1, l2, l3, l4, l5, l6⟩ := ly
  obtain ⟨a1, a2, a3, a4, a5, a6⟩ := h5 t ht
  obtain ⟨t1, t2, t3⟩ := l1 t ht
  have pk20 : 10 * s + p < 20 := by omega
  have sE : slt t s p = 20 * t + (10 * s + p) := by unfold slt; omega
  have t20 := ti.2.2.1
  intro b eb hb up eup hup
  have eb' : b = tbA μ t := by
    rw [Int.toNat_natCast] at eb
    omega
  subst eb'
  rw [a3] at eup
  refine ⟨fun cu => ?_, fun cu => ?_⟩
  rotate_left 1
  · refine k μ ?_ fun _ _ _ _ _ _ _ _ _ => rfl
    unfold sayE
    rw [if_pos (eup.trans cu)]
    exact st
  have hup' : ¬ eU E t = 0 := by rw [eup]; exact cu
  obtain ⟨sA, sB, sC, sD⟩ := st.1 t (10 * s + p) ht pk20
  rw [← sE] at sC sD
  -- what is to be said lies at 73
  have J : ∀ (m9 m : mM), (∀ b i, ¬ (73 ≤ b ∧ b ≤ 75) → ¬ (b = 21 ∧ 2 ≤ i ∧ i ≤ 7) → m b i = μ b i) → ((rtC m 73 = none ∧ outE E S t s p = none) ∨ ∃ x, rtC m 73 = some x ∧ outE E S t s p = some (rtWish x 100)) → rtO p (outE E S t s p) → WJ_X8_say_W_1 w (t : Int) (s : Int) (p : Int) Q (tbA μ t) m9 m := by
    intro m9 m o ho hg T F m40 u40 T40
    obtain rfl := u40.is
    have o40 : ∀ b i, ¬ (73 ≤ b ∧ b ≤ 75) → ¬ (b = 21 ∧ 2 ≤ i ∧ i ≤ 7) → mUp m 73 4 100 b i = μ b i := fun b i q1 q2 => by rw [mUp.no (by omega), o b i q1 q2]
    have f40 : frC μ (mUp m 73 4 100) := fun b i q1 q2 q3 q4 => o40 b i q4 q1
    have st40 : snC (mUp m 73 4 100) E S := st.fr ⟨l1, l2, l3, l4, l5, l6⟩ f40
    have r40 : rtC (mUp m 73 4 100) 73 = outE E S t s p := by
      rcases ho with ⟨e1, e2⟩ | ⟨x, e1, e2⟩
      · rw [rtC.wishN e1, e2]
      · rw [rtC.wish e1, e2]
    have s40 : rtC (mUp m 73 4 100) (sdA μ t (10 * s + p)) = (sSd S (slt t s p)).1 := by rw [f40.rt (by show 76 ≤ tbA μ t + 7 + 6 * (10 * s + p); omega), sC]
    have low : ∀ b i, b < 192 → ¬ (b = 21 ∧ 2 ≤ i ∧ i ≤ 7) → ¬ (b = 32 ∧ (i = 9 ∨ i = 10)) → ¬ b = 33 → ¬ b = 34 → ¬ (36 ≤ b ∧ b ≤ 69) → ¬ (73 ≤ b ∧ b ≤ 75) → mUp m 73 4 100 b i = μ b i := fun b i _ q1 _ _ _ _ q2 => o40 b i q2 q1
    show (0 ≤ (s : Int) * 10 + (p : Int) ∧ (s : Int) * 10 + (p : Int) ≤ 19) → _
    intro hpl b49 e49 hb49
    have eb49 : b49 = sdA μ t (10 * s + p) := by
      have g := (t3 (10 * s + p) pk20).2
      rw [o40 _ _ (by omega) (by omega), show ((s : Int) * 10 + (p : Int)).toNat = 10 * s + p by omega, g] at e49
      have e49 : ((tbA μ t + 7 + 6 * (10 * s + p) : Nat) : Int) = (b49 : Int) := e49
      show b49 = tbA μ t + 7 + 6 * (10 * s + p)
      omega
    subst eb49
    have pm : slt t s p % 10 = p := by unfold slt; omega
    have hgS : rtO p (sSd S (slt t s p)).1 := by
      have g := sn.2.1 (slt t s p)
      rw [pm] at g
      exact g
    refine X7_isAlike_s fun z hz rz => ⟨fun c x ex hx => ?_, fun c => ?_⟩
    rotate_left 1
    · have e : outE E S t s p = (sSd S (slt t s p)).1 := by
        have g := hz.mp (by omega)
        rw [r40, s40] at g
        exact (alk.eq hg hgS).mp g
      exact k _ (by rw [sayE.same e]; exact st40) low
    have hno : ¬ outE E S t s p = (sSd S (slt t s p)).1 := fun e => by
      have := hz.mpr (by rw [r40, s40]; exact (alk.eq hg hgS).mpr e)
      omega
    have ex' : (sSd S (slt t s p)).2 = x := by
      have g : mUp m 73 4 100 (sdA μ t (10 * s + p)) 9 = μ (sdA μ t (10 * s + p)) 9 := o40 _ _ (by show ¬ (73 ≤ tbA μ t + 7 + 6 * (10 * s + p) ∧ tbA μ t + 7 + 6 * (10 * s + p) ≤ 75); omega) (by show ¬ (tbA μ t + 7 + 6 * (10 * s + p) = 21 ∧ _); omega)
      rw [← ex, g, sD]
    have ck40 : mUp m 73 4 100 32 11 = sCk S := st40.2.2.2.2.1
    have qu40 : evC (mUp m 73 4 100) = sQu S := st40.2.2.1
    have fl40 := st40.2.2.2.1
    have slE : ∀ kd : Nat, ((((t : Int) * 2 + (s : Int)) * 10 + (p : Int)) * 2 + (kd : Int)) = ((2 * slt t s p + kd : Nat) : Int) := fun kd => by unfold slt; omega
    have sl8 : 2 * slt t s p + 1 < 800 := by unfold slt; omega
    have GO : ∀ (ck dl : Int) (m64 : mM), ck = sCk S → dl = eL E t → ((sSd S (slt t s p)).2 = -1 ∨ (sSd S (slt t s p)).2 + eG E t ≤ sCk S) → rtC m64 (sdA μ t (10 * s + p)) = rtC (mUp m 73 4 100) 73 → onC2 (mUp m 73 4 100) m64 (sdA μ t (10 * s + p)) → mT w (mUp m64 (sdA μ t (10 * s + p)) 9 ck) → (∀ m80 : mM, mT w m80 → (m80 (tbA μ t) 7 = eL E t → True) → True) → WP_X8_cancel_W w (mUp m64 (sdA μ t (10 * s + p)) 9 ck) ((2 * slt t s p : Nat) : Int) (fun m80 => mT w m80 → mF [32010, 33999, 34999] w (mUp m64 (sdA μ t (10 * s + p)) 9 ck) m80 → ∀ d7 : Int, m80 (tbA μ t) 7 = d7 → (0 ≤ d7 ∧ d7 ≤ 1000) → WP_X8_schedule_W w m80 ((2 * slt t s p : Nat) : Int) (ck + d7) (fun m87 => mT w m87 → mF [32010, 33999, 34999] w m80 m87 → Q m87)) := by
      intro ck dl m64 e1 e2 hgo q1 q2 T71 _
      have o71 : ∀ b i, ¬ (sdA μ t (10 * s + p) ≤ b ∧ b ≤ sdA μ t (10 * s + p) + 2) → mUp m64 (sdA μ t (10 * s + p)) 9 ck b i = mUp m 73 4 100 b i := fun b i q => by
        rw [mUp.no (by omega), q2 b i (by omega) (by omega) (by omega)]
      have big : 192 ≤ sdA μ t (10 * s + p) := by show 192 ≤ tbA μ t + 7 + 6 * (10 * s + p); omega
      have qu71 : evC (mUp m64 (sdA μ t (10 * s + p)) 9 ck) = sQu S := by
        rw [← qu40, evC.eq, evC.eq, o71 32 10 (by omega)]
        exact lst.ext fun i _ => by rw [o71 33 i (by omega), o71 34 _ (by omega)]
      refine X8_canc_s hw T71 qu71 sn.2.2.2.2.1 (fun i hi => by rw [o71 34 i (by omega)]; exact fl40 i hi) (by omega) fun m80 c1 c2 c3 T80 _ d7 e7 h7' => ?_
      have e7' : d7 = eL E t := by
        rw [← e7, c3 _ _ (by omega) (by omega) (by omega), o71 _ _ (by show ¬ (tbA μ t + 7 + 6 * (10 * s + p) ≤ tbA μ t ∧ _); omega), o40 _ _ (by omega) (by omega), a4]
      have nd : ((remQ (2 * slt t s p) (sQu S)).map (·.2)).Nodup := (sn.2.2.2.2.1).sublist (List.filter_sublist.map _)
      refine X8_sched_s hw T80 c1 (sn.2.2.2.1.filter _) nd (fun x hx => (remQ.mem.mp hx).2) (by omega) c2 (by omega) fun m87 k1 k2 k3 _ _ => ?_
      have o87 : ∀ b i, ¬ (sdA μ t (10 * s + p) ≤ b ∧ b ≤ sdA μ t (10 * s + p) + 2) → ¬ b = 33 → ¬ b = 34 → ¬ (b = 32 ∧ i = 10) → m87 b i = mUp m 73 4 100 b i := fun b i w1 w2 w3 w4 => by
        rw [k3 b i w2 (by omega) w4, c3 b i w2 (by omega) w4, o71 b i w1]
      have at87 : ∀ b i, 192 ≤ b → m87 b i = mUp m64 (sdA μ t (10 * s + p)) 9 ck b i := fun b i hb => by
        rw [k3 b i (by omega) (by omega) (by omega), c3 b i (by omega) (by omega) (by omega)]
      refine k m87 ?_ fun b i w0 w1 w2 w3 w4 w5 w6 => by rw [o87 b i (by omega) w3 w4 (by omega), o40 b i w6 w1]
      rw [sayE.go hup' hno hgo, sE]
      refine snC.say st ⟨l1, l2, l3, l4, l5, l6⟩ ht pk20 (fun b i w1 w2 w3 w4 w5 w6 w7 => ?_) ?_ ?_ ?_ ?_
      · rw [o87 b i (by show ¬ (tbA μ t + 7 + 6 * (10 * s + p) ≤ b ∧ b ≤ tbA μ t + 7 + 6 * (10 * s + p) + 2); omega) w3 w4 (by omega), o40 b i w6 w1]
      · rw [rtC.of (fun i => at87 _ i (by omega)) (fun i => at87 _ i (by omega)) (fun i => at87 _ i (by omega))]
        have e : rtC (mUp m64 (sdA μ t (10 * s + p)) 9 ck) (sdA μ t (10 * s + p)) = rtC m64 (sdA μ t (10 * s + p)) := rtC.up9 (by omega)
        exact e.trans (q1.trans r40)
      · rw [at87 _ _ (by omega)]
        exact (mUp.yes ⟨rfl, rfl⟩).trans e1
      · rw [k1, e7', e1, ← sE]
      · intro i hi
        rw [← sE, ← e1, ← e7']
        exact k2 i hi
    have ap : apr (sdA μ t (10 * s + p)) 73 := by
      show tbA μ t + 7 + 6 * (10 * s + p) ≠ 73 ∧ _
      have hE : sdA μ t (10 * s + p) = tbA μ t + 7 + 6 * (10 * s + p) := rfl
      refine ⟨?_, ?_, ?_, ?_, ?_, ?_, ?_⟩ <;> omega
    have big : 192 ≤ sdA μ t (10 * s + p) := by show 192 ≤ tbA μ t + 7 + 6 * (10 * s + p); omega
    refine ⟨fun c2 => ?_, fun c2 ck eck hck2 g eg hg2 => ⟨fun c3 => ?_, fun c3 => ?_⟩⟩
    · refine X7_become_s ap fun m64 q1 q2 T64 F64 ck eck hck2 m71 u71 T71 => ?_
      obtain rfl := u71.is
      have eck' : ck = sCk S := by rw [← eck, q2 32 11 (by omega) (by omega) (by omega), ck40]
      show (0 ≤ ((((t : Int) * 2 + (s : Int)) * 10 + (p : Int)) * 2 + 0) ∧ ((((t : Int) * 2 + (s : Int)) * 10 + (p : Int)) * 2 + 0) ≤ 839) → _
      rw [show ((((t : Int) * 2 + (s : Int)) * 10 + (p : Int)) * 2 + 0) = ((2 * slt t s p : Nat) : Int) from slE 0]
      intro _
      exact GO ck (eL E t) m64 eck' rfl (Or.inl (ex'.trans c2)) q1 q2 T71 (fun _ _ _ => trivial)
    · have eck' : ck = sCk S := eck.symm.trans ck40
      have eg' : g = eG E t := by rw [← eg, o40 _ _ (by omega) (by omega), a5]
      refine X7_become_s ap fun m64 q1 q2 T64 F64 m71 u71 T71 => ?_
      obtain rfl := u71.is
      show (0 ≤ ((((t : Int) * 2 + (s : Int)) * 10 + (p : Int)) * 2 + 0) ∧ ((((t : Int) * 2 + (s : Int)) * 10 + (p : Int)) * 2 + 0) ≤ 839) → _
      rw [show ((((t : Int) * 2 + (s : Int)) * 10 + (p : Int)) * 2 + 0) = ((2 * slt t s p : Nat) : Int) from slE 0]
      intro _
      exact GO ck (eL E t) m64 eck' rfl (Or.inr (by omega)) q1 q2 T71 (fun _ _ _ => trivial)
    · have eck' : ck = sCk S := eck.symm.trans ck40
      have eg' : g = eG E t := by rw [← eg, o40 _ _ (by omega) (by omega), a5]
      show (0 ≤ ((((t : Int) * 2 + (s : Int)) * 10 + (p : Int)) * 2 + 1) ∧ ((((t : Int) * 2 + (s : Int)) * 10 + (p : Int)) * 2 + 1) ≤ 839) → _
      rw [show ((((t : Int) * 2 + (s : Int)) * 10 + (p : Int)) * 2 + 1) = ((2 * slt t s p + 1 : Nat) : Int) from slE 1]
      intro _ wt ewt hwt
      rw [Int.toNat_natCast] at ewt
      have fl := fl40 (2 * slt t s p + 1) sl8
      rw [ewt] at fl
      refine ⟨fun c4 => ?_, fun c4 => ?_⟩
      · refine k _ ?_ low
        rw [sayE.wait hup' hno (by omega) (by omega), cIf.pos (fl.mp c4)]
        exact st40
      · have hq : ¬ ∃ y, (y, 2 * slt t s p + 1) ∈ sQu S := fun q => fl.mpr q c4
        refine X8_sched_s hw T40 qu40 sn.2.2.2.1 sn.2.2.2.2.1 (fun y hy q => hq ⟨y.1, by rw [← q]; exact hy⟩) sl8 fl40 (by omega) fun m1 k1 k2 k3 _ _ => ?_
        have o1 : ∀ b i, ¬ b = 33 → ¬ b = 34 → ¬ (b = 32 ∧ i = 10) → m1 b i = mUp m 73 4 100 b i := fun b i w1 w2 w3 => k3 b i w1 (by omega) w3
        refine k m1 ?_ fun b i w0 w1 w2 w3 w4 w5 w6 => by rw [o1 b i w3 w4 (by omega), o40 b i w6 w1]
        rw [sayE.wait hup' hno (by omega) (by omega), cIf.neg hq]
        have hs1 := snC.say (m := m1) st ⟨l1, l2, l3, l4, l5, l6⟩ ht pk20 (o := (sSd S (slt t s p)).1) (v := (sSd S (slt t s p)).2) (fun b i w1 w2 w3 w4 w5 w6 w7 => by rw [o1 b i w3 w4 (by omega), o40 b i w6 w1]) (by rw [rtC.of (fun i => o1 _ i (by omega) (by omega) (by omega)) (fun i => o1 _ i (by omega) (by omega) (by omega)) (fun i => o1 _ i (by omega) (by omega) (by omega))]; exact s40) (by rw [o1 _ _ (by omega) (by omega) (by omega)]; exact ex.trans ex'.symm) (by rw [k1]) k2
        have es : sd! S (20 * t + (10 * s + p)) ((sSd S (slt t s p)).1, (sSd S (slt t s p)).2) = S := by
          unfold sd!
          have e : (fun i => if i = 20 * t + (10 * s + p) then ((sSd S (slt t s p)).1, (sSd S (slt t s p)).2) else sSd S i) = sSd S := by
            funext i
            by_cases q : i = 20 * t + (10 * s + p)
            · rw [if_pos q, q, ← sE]
            · rw [if_neg q]
          rw [e]
        rw [es] at hs1
        rw [ex', ← eg']
        exact hs1
  refine X8_compose_s hw hT ev0 st sn ti ht hs hp fun m9 r9 o9 T9 F9 th eth hth => ⟨fun c => ?_, fun c pol epol hpol => ?_⟩
  · have cn : cmpE E S t s p = none := by rw [← r9]; exact rtC.nil (eth.trans c)
    exact J m9 m9 (fun b i q1 _ => o9 b i q1) (Or.inl ⟨rtC.nil (eth.trans c), outE.none' cn⟩) (by rw [outE.none' cn]; exact fun r e => by cases e)
  · obtain ⟨x, ex⟩ : ∃ x, cmpE E S t s p = some x := by
      cases e : cmpE E S t s p with
      | none => exact absurd (eth.symm.trans (rtC.no (r9.trans e))) c
      | some x => exact ⟨x, rfl⟩
    have oS := outE.some' ex
    have gx : rtO p (some x) := by
      unfold cmpE at ex
      cases e : (sPk S (10 * (eN E t s).toNat + p)).2 with
      | none => rw [e] at ex; cases ex
      | some r =>
        rw [e] at ex
        have ex : (if (sPk S (10 * (eN E t s).toNat + p)).1 = (t : Int) ∨ 20 ≤ (wOf r).length then none else some (rtWish (rtWay r (eN E t s :: wOf r)) 100)) = some x := ex
        have gr := sn.1 (10 * (eN E t s).toNat + p) r e
        rw [show (10 * (eN E t s).toNat + p) % 10 = p by omega] at gr
        by_cases q : (sPk S (10 * (eN E t s).toNat + p)).1 = (t : Int) ∨ 20 ≤ (wOf r).length
        · rw [if_pos q] at ex; cases ex
        · rw [if_neg q] at ex
          intro y hy
          have e2 : y = rtWish (rtWay r (eN E t s :: wOf r)) 100 := (Option.some.inj hy).symm.trans (Option.some.inj ex).symm
          subst e2
          refine ⟨gr.1, gr.2.1, ?_, gr.2.2.2.1, ⟨by show (0 : Int) ≤ 100; decide, by show (100 : Int) ≤ 1000; decide⟩, gr.2.2.2.2.2⟩
          show (eN E t s :: wOf r).length ≤ 20
          rw [List.length_cons]
          omega
    have hgO : rtO p (outE E S t s p) := by
      rw [oS]
      split
      · have g := tG.1 (ePl E (4 * t + 2 * s + 1)) (eN E t s) (eN E t (1 - s)) x p gx
        intro y hy
        have e2 : y = rtWish (eTh E (ePl E (4 * t + 2 * s + 1)) (eN E t s) (eN E t (1 - s)) x).2 100 := (Option.some.inj hy).symm
        subst e2
        have g2 := g _ rfl
        exact ⟨g2.1, g2.2.1, g2.2.2.1, g2.2.2.2.1, ⟨by show (0 : Int) ≤ 100; decide, by show (100 : Int) ≤ 1000; decide⟩, g2.2.2.2.2.2⟩
      · intro y hy
        cases hy
    have plE : pol = ePl E (4 * t + (2 * s + 1)) := by
      rw [o9 _ _ (by omega), show ((s : Int) * 2 + 1).toNat = 2 * s + 1 by omega, a6 (2 * s + 1) (by omega)] at epol
      exact epol.symm
    refine h7.2 m9 pol 73 t s x _ T9 (mF.refl.call F9 rfl) ht hs (by rw [plE]; exact h7.1 _ _ ht (by omega)) (r9.trans ex) (gx x rfl).2.1 (A_73 hw) fun z5 m5 hz5 r5 f5 T5 F5 rz5 => ?_
    rw [plE, show 4 * t + (2 * s + 1) = 4 * t + 2 * s + 1 by omega] at hz5 r5
    have o5 : ∀ b i, ¬ (73 ≤ b ∧ b ≤ 75) → ¬ (b = 21 ∧ 2 ≤ i ∧ i ≤ 7) → m5 b i = μ b i := fun b i q1 q2 => (f5 b i (by omega) (by omega) (by omega) q2).trans (o9 b i q1)
    refine ⟨fun q => J m9 m5 o5 (Or.inr ⟨_, r5, ?_⟩) hgO, fun q m6 u6 _ => ?_⟩
    · rw [oS, if_pos (hz5.mp (by omega))]
    · obtain rfl := u6.is
      refine J m9 _ (fun b i q1 q2 => by rw [mUp.no (by omega), o5 b i q1 q2]) (Or.inl ⟨rtC.nil (mUp.yes ⟨rfl, rfl⟩), ?_⟩) hgO
      rw [oS, if_neg (fun g => by have := hz5.mpr g; omega)]
end SayC2
end
section
/-! The engine's functions keep its order. -/
theorem insQ.nd {e : Ev} : ∀ {q : List Ev}, (q.map (·.2)).Nodup → (∀ x ∈ q, ¬ x.2 = e.2) → ((insQ e q).map (·.2)).Nodup
  | [], _, _ => by
    show [e.2].Nodup
    simp
  | y :: l, h, k => by
    show ((if e.1 < y.1 then e :: y :: l else y :: insQ e l).map (·.2)).Nodup
    have h : (y.2 :: l.map (·.2)).Nodup := h
    obtain ⟨h1, h2⟩ := List.nodup_cons.mp h
    by_cases c : e.1 < y.1
    · rw [if_pos c]
      show (e.2 :: (y :: l).map (·.2)).Nodup
      refine List.nodup_cons.mpr ⟨fun g => ?_, h⟩
      obtain ⟨x, hx, ex⟩ := List.mem_map.mp g
      exact k x hx ex
    · rw [if_neg c]
      show (y.2 :: (insQ e l).map (·.2)).Nodup
      refine List.nodup_cons.mpr ⟨fun g => ?_, insQ.nd h2 fun x hx => k x (List.mem_cons_of_mem _ hx)⟩
      obtain ⟨x, hx, ex⟩ := List.mem_map.mp g
      rcases insQ.mem.mp hx with q | q
      · rw [q] at ex
        exact k y List.mem_cons_self ex.symm
      · exact h1 (List.mem_map.mpr ⟨x, q, ex⟩)
theorem rtO.none' {p : Nat} : rtO p none := fun r e => by cases e
theorem rtO.wish {p : Nat} {x : Rt} (h : rtO p (some x)) : rtO p (some (rtWish x 100)) := by
  intro y hy
  have e : y = rtWish x 100 := (Option.some.inj hy).symm
  subst e
  have g := h x rfl
  exact ⟨g.1, g.2.1, g.2.2.1, g.2.2.2.1, ⟨by show (0 : Int) ≤ 100; decide, by show (100 : Int) ≤ 1000; decide⟩, g.2.2.2.2.2⟩
theorem outE.good {E : En} {S : Sn} {t s p : Nat} (sn : snG E S) (tG : thG E) (hp : p < 10) : rtO p (outE E S t s p) := by
  unfold outE
  cases e : (sPk S (10 * (eN E t s).toNat + p)).2 with
  | none => exact rtO.none'
  | some r =>
    have gr := sn.1 (10 * (eN E t s).toNat + p) r e
    rw [show (10 * (eN E t s).toNat + p) % 10 = p by omega] at gr
    show rtO p (if (sPk S (10 * (eN E t s).toNat + p)).1 = (t : Int) ∨ 20 ≤ (wOf r).length then none else if (eTh E (ePl E (4 * t + 2 * s + 1)) (eN E t s) (eN E t (1 - s)) (rtWish (rtWay r (eN E t s :: wOf r)) 100)).1 = true then some (rtWish (eTh E (ePl E (4 * t + 2 * s + 1)) (eN E t s) (eN E t (1 - s)) (rtWish (rtWay r (eN E t s :: wOf r)) 100)).2 100) else none)
    by_cases c : (sPk S (10 * (eN E t s).toNat + p)).1 = (t : Int) ∨ 20 ≤ (wOf r).length
    · rw [if_pos c]; exact rtO.none'
    · rw [if_neg c]
      have gx : rtO p (some (rtWish (rtWay r (eN E t s :: wOf r)) 100)) := by
        intro y hy
        have e2 : y = rtWish (rtWay r (eN E t s :: wOf r)) 100 := (Option.some.inj hy).symm
        subst e2
        refine ⟨gr.1, gr.2.1, ?_, gr.2.2.2.1, ⟨by show (0 : Int) ≤ 100; decide, by show (100 : Int) ≤ 1000; decide⟩, gr.2.2.2.2.2⟩
        show (eN E t s :: wOf r).length ≤ 20
        rw [List.length_cons]
        omega
      split
      · exact rtO.wish (tG.1 _ _ _ _ p gx)
      · exact rtO.none'
theorem sayE.sn {E : En} {S : Sn} {t s p : Nat} (sn : snG E S) (tG : thG E) (pa : paG E) (ht : t < eT E) (hs : s < 2) (hp : p < 10) : snG E (sayE E S t s p) := by
  have og := outE.good (t := t) (s := s) sn tG hp
  have pm : slt t s p % 10 = p := by unfold slt; omega
  have sb : slt t s p < 20 * eT E := by unfold slt; omega
  have pg := pa t ht
  by_cases hu : eU E t = 0
  · unfold sayE
    rw [if_pos hu]; exact sn
  by_cases ho : outE E S t s p = (sSd S (slt t s p)).1
  · rw [sayE.same ho]; exact sn
  obtain ⟨s1, s2, s3, s4, s5, s6, s7, s8, s9, s0⟩ := sn
  by_cases hg : (sSd S (slt t s p)).2 = -1 ∨ (sSd S (slt t s p)).2 + eG E t ≤ sCk S
  · rw [sayE.go hu ho hg]
    refine ⟨s1, fun k => ?_, s3, ?_, ?_, fun x hx => ?_, s7, s8, fun k => ?_, fun k hk => ?_⟩
    · show rtO (k % 10) (if k = slt t s p then (outE E S t s p, sCk S) else sSd S k).1
      by_cases q : k = slt t s p
      · rw [if_pos q, q, pm]; exact og
      · rw [if_neg q]; exact s2 k
    · exact insQ.pw (fun x y h => h) (s4.filter _) (fun x _ h => h) (fun x _ h => Int.le_of_lt h)
    · exact insQ.nd (s5.sublist (List.filter_sublist.map _)) (fun x hx => (remQ.mem.mp hx).2)
    · rcases insQ.mem.mp hx with q | q
      · subst q
        exact ⟨by show 2 * slt t s p < 40 * eT E; omega, by show 0 ≤ sCk S + eL E t; omega, by
          show ¬ eU E (2 * slt t s p / 40) = 0
          rw [show 2 * slt t s p / 40 = t by unfold slt; omega]
          exact hu⟩
      · exact s6 x (remQ.mem.mp q).1
    · show -1 ≤ (if k = slt t s p then (outE E S t s p, sCk S) else sSd S k).2 ∧ ((if k = slt t s p then (outE E S t s p, sCk S) else sSd S k).2 = -1 → (if k = slt t s p then (outE E S t s p, sCk S) else sSd S k).1 = none)
      by_cases q : k = slt t s p
      · rw [if_pos q]
        exact ⟨by show -1 ≤ sCk S; omega, fun g => by
          have g : sCk S = -1 := g
          omega⟩
      · rw [if_neg q]; exact s9 k
    · obtain ⟨b1, b2, b3⟩ := s0 k hk
      refine ⟨b1, ?_, b3⟩
      show (if k = slt t s p then (outE E S t s p, sCk S) else sSd S k).1 = none
      by_cases q : k = slt t s p
      · rw [if_pos q]
        rw [q, pm] at hk
        have z := (s0 (10 * (eN E t s).toNat + p) (by omega)).1
        show outE E S t s p = none
        unfold outE
        rw [z]
      · rw [if_neg q]; exact b2
  · have h9 := (s9 (slt t s p)).1
    rw [sayE.wait hu ho (by omega) (by omega)]
    by_cases hx : ∃ m, (m, 2 * slt t s p + 1) ∈ sQu S
    · rw [cIf.pos hx]
      exact ⟨s1, s2, s3, s4, s5, s6, s7, s8, s9, s0⟩
    · rw [cIf.neg hx]
      refine ⟨s1, s2, s3, ?_, ?_, fun x hx => ?_, s7, s8, s9, s0⟩
      · exact insQ.pw (fun x y h => h) s4 (fun x _ h => h) (fun x _ h => Int.le_of_lt h)
      · exact insQ.nd s5 (fun x hx2 q => hx ⟨x.1, by have e : x.2 = 2 * slt t s p + 1 := q; rw [← e]; exact hx2⟩)
      · rcases insQ.mem.mp hx with q | q
        · subst q
          exact ⟨by show 2 * slt t s p + 1 < 40 * eT E; omega, by show 0 ≤ (sSd S (slt t s p)).2 + eG E t; omega, by
            show ¬ eU E ((2 * slt t s p + 1) / 40) = 0
            rw [show (2 * slt t s p + 1) / 40 = t by unfold slt; omega]
            exact hu⟩
        · exact s6 x q
/-- at most one event is made -/
theorem sayE.md {E : En} {S : Sn} {t s p : Nat} : sMd S ≤ sMd (sayE E S t s p) ∧ sMd (sayE E S t s p) ≤ sMd S + 1 := by
  unfold sayE
  by_cases hu : eU E t = 0
  · rw [if_pos hu]; omega
  · rw [if_neg hu]
    by_cases ho : outE E S t s p = (sSd S (slt t s p)).1
    · rw [cIf.pos ho]; omega
    · rw [cIf.neg ho]
      split
      · by_cases hx : ∃ m, (m, 2 * slt t s p + 1) ∈ sQu S
        · rw [cIf.pos hx]; omega
        · rw [cIf.neg hx]
          show sMd S ≤ sMd S + 1 ∧ sMd S + 1 ≤ sMd S + 1
          omega
      · show sMd S ≤ sMd S + 1 ∧ sMd S + 1 ≤ sMd S + 1
        omega
theorem sayD.sn {E : En} {S : Sn} {d : Int} {t p : Nat} (sn : snG E S) (tG : thG E) (pa : paG E) (ht : t < eT E) (hp : p < 10) : snG E (sayD E d p t S) := by
  unfold sayD
  by_cases c : sdE E d t < 0
  · rw [if_pos c]; exact sn
  · rw [if_neg c]
    refine sayE.sn sn tG pa ht ?_ hp
    have : sdE E d t ≤ 1 := by
      unfold sdE sdI
      split
      · omega
      · split <;> omega
    omega
theorem sayD.md {E : En} {S : Sn} {d : Int} {t p : Nat} : sMd S ≤ sMd (sayD E d p t S) ∧ sMd (sayD E d p t S) ≤ sMd S + 1 := by
  unfold sayD
  by_cases c : sdE E d t < 0
  · rw [if_pos c]; omega
  · rw [if_neg c]; exact sayE.md
theorem forN.sn {E : En} {S : Sn} {d : Int} {p : Nat} (sn : snG E S) (tG : thG E) (pa : paG E) (hp : p < 10) : ∀ n : Nat, n ≤ eT E → snG E (forN (sayD E d p) n S) ∧ sMd S ≤ sMd (forN (sayD E d p) n S) ∧ sMd (forN (sayD E d p) n S) ≤ sMd S + (n : Int)
  | 0, _ => ⟨sn, Int.le_refl _, by show sMd S ≤ sMd S + 0; omega⟩
  | n + 1, h => by
    obtain ⟨a, b, c⟩ := forN.sn sn tG pa hp n (by omega)
    have m := sayD.md (E := E) (S := forN (sayD E d p) n S) (d := d) (t := n) (p := p)
    refine ⟨sayD.sn a tG pa (by omega) hp, ?_, ?_⟩
    · show sMd S ≤ sMd (sayD E d p n (forN (sayD E d p) n S))
      omega
    · show sMd (sayD E d p n (forN (sayD E d p) n S)) ≤ sMd S + ((n + 1 : Nat) : Int)
      omega
end
section
/-! The reference: all candidates; the plain pick. -/
theorem bts.zeros {l : List Int} {n : Nat} {x y : Cd} : bts (l ++ List.replicate n 0) x y = bts l x y := by
  unfold bts
  rw [unl.zeros]
theorem bst.zeros {l : List Int} {n : Nat} : ∀ {q : List Cd} {o : Option Cd}, bst (l ++ List.replicate n 0) q o = bst l q o
  | [], _ => rfl
  | x :: q, none => by
    show bst (l ++ List.replicate n 0) q (some x) = bst l q (some x)
    exact bst.zeros
  | x :: q, some y => by
    show bst (l ++ List.replicate n 0) q (if bts (l ++ List.replicate n 0) x y = true then some x else some y) = bst l q (if bts l x y = true then some x else some y)
    rw [bts.zeros]
    exact bst.zeros
theorem sdE.side {E : En} {d : Int} {t : Nat} (h : ¬ sdE E d t < 0) : ∃ s : Nat, sdE E d t = (s : Int) ∧ s < 2 ∧ d = eN E t s := by
  unfold sdE sdI at h ⊢
  unfold eN
  by_cases q : eA E t = d
  · exact ⟨0, by rw [if_pos q]; rfl, by omega, by rw [if_pos rfl]; exact q.symm⟩
  · rw [if_neg q] at h ⊢
    by_cases q2 : eB E t = d
    · exact ⟨1, by rw [if_pos q2]; rfl, by omega, by rw [if_neg (by omega)]; exact q2.symm⟩
    · rw [if_neg q2] at h
      exact absurd (by decide) h
theorem X12_isAt_s {w : mW} {μ : mM} {t d : Int} {Q : Int → mM → Prop} (k : ∀ z : Int, (z = 1 ↔ (μ 110 (2 * t).toNat = d ∨ μ 110 (2 * t + 1).toNat = d)) → Q z μ) : WP_X12_isAt_W w μ t d Q := by
  intro a ea _ b eb _
  subst ea eb
  exact ⟨fun c => k 1 ⟨fun _ => Or.inl c, fun _ => rfl⟩, fun c => ⟨fun c2 => k 0 ⟨fun e => absurd e (by decide), fun e => by rcases e with e | e; exact absurd e c; exact absurd e c2⟩, fun c2 => k 1 ⟨fun _ => Or.inr c2, fun _ => rfl⟩⟩⟩
section Cands
variable {w : mW} {μ : mM} {E : En} {S : Sn} {G : mM → Prop} {d : Int} {p : Nat}
theorem cdE.at {t s : Nat} (hs : sdE E d t = (s : Int)) : cdE E S d p t = cdAt E S d p t s := by
  unfold cdE
  rw [if_neg (by omega), hs, Int.toNat_natCast]
theorem X12_candidates_s {Q : mM → Prop} (hw : mWF w) (hT : mT w μ) (ev : envR w μ E G) (hG : G μ) (gG : gSt G) (st : snR μ E S) (sn : snG E S) (ti : tiG E) (hp : p < 10)
    (k : ∀ m : mM, G m → frR μ m → (∀ b i, b = 165 → m b i = μ b i) → (∀ t, t < eT E → rtR m (4 + (t : Int)) = (cdE E S d p t).map (fun x => x.2.2.2)) → Q m) : WP_X12_candidates_W w μ d (p : Int) Q := by
  have t20 := ti.2.2.1
  refine loopF.im (fun z m => 0 ≤ z ∧ z ≤ (eT E : Int) ∧ G m ∧ frR μ m ∧ (∀ b i, b = 165 → m b i = μ b i) ∧ ∀ t : Nat, (t : Int) < z → rtR m (4 + (t : Int)) = (cdE E S d p t).map (fun x => x.2.2.2)) (fun z => (21 - z).toNat) ⟨by omega, by omega, hG, frR.refl, fun _ _ _ => rfl, fun t h => by omega⟩ (by omega) ?_
  rintro rc z m ⟨z0, z1, gm, fr, f165, hc⟩ ih z' m' e hz T F n en hn
  cases e
  have Fm : mF lER w μ m := mF.refl.call F rfl
  have evm := ev.fr hw Fm
  rw [evm.1] at en
  subst en
  have stm := st.fr hw hT fr
  refine ⟨fun g => k m gm fr f165 fun t ht => hc t (by omega), fun g a ea _ b eb _ => ?_⟩
  have zt : z.toNat < eT E := by omega
  have zc : ((z.toNat : Nat) : Int) = z := by omega
  obtain ⟨a1, a2, a3, a4, a5, a6⟩ := evm.2.2.2.1 z.toNat zt
  have go : ∀ m2 : mM, G m2 → frT m m2 (4 + z) → rtR m2 (4 + z) = (cdE E S d p z.toNat).map (fun x => x.2.2.2) → rc (z + 1, m2) := fun m2 g2 f2 r2 => ih _ _ ⟨by omega, by omega, g2, fr.trans (f2.fr (by omega)), fun b i hb => (f2 b i (by omega) (by omega) (by omega) (by omega) (by omega)).trans (f165 b i hb), fun t ht => by
    by_cases c : (t : Int) = z
    · have e : t = z.toNat := by omega
      rw [e, zc]; exact r2
    · rw [f2.rt hw T (by omega) (by omega)]
      exact hc t (by omega)⟩ (by omega)
  refine X12_isAt_s fun y hy ry => ?_
  rw [show (2 * z).toNat = 2 * z.toNat by omega, show (2 * z + 1).toNat = 2 * z.toNat + 1 by omega, a1, a2] at hy
  refine ⟨fun c => ?_, fun c => ?_⟩
  · have ns : sdE E d z.toNat < 0 := by
      unfold sdE sdI
      rw [if_neg (fun e => by have := hy.mpr (Or.inl e); omega), if_neg (fun e => by have := hy.mpr (Or.inr e); omega)]
      decide
    refine X12_nothing_s (by omega) fun m2 r2 f2 _ _ x2 _ => go m2 (gG m m2 gm fun b i q1 q2 q3 => f2 b i (by omega)) (frT.refl.no f2) ?_
    rw [r2]
    unfold cdE
    rw [if_pos ns]
    rfl
  · have nn : ¬ sdE E d z.toNat < 0 := by
      unfold sdE sdI
      rcases hy.mp (by omega) with e | e
      · rw [if_pos e]; decide
      · by_cases q : eA E z.toNat = d
        · rw [if_pos q]; decide
        · rw [if_neg q, if_pos e]; decide
    obtain ⟨s, hs, hs2, hd⟩ := sdE.side nn
    have key : ∀ L : List Nat, WP_X12_candidate_W w m d ((z.toNat : Nat) : Int) (p : Int) (fun z520 m2 => mT w m2 → mF L w m m2 → (-99999999 ≤ z520 ∧ z520 ≤ 10) → rc (z + 1, m2)) := by
      intro L
      refine X12_candidate_s hw T evm gm gG stm sn ti zt hs2 hd hp fun y2 m2 g2 f2 r2 _ _ _ _ _ _ => ?_
      rw [zc] at f2 r2
      exact go m2 g2 f2 (by rw [r2, cdE.at hs])
    rw [zc] at key
    exact key _
/-- rows and candidates say the same -/
theorem cdX.eq {m : mM} {t : Nat} (hw : mWF w) (ev : envR w m E G) (st : snR m E S) (ti : tiG E) (hp : p < 10) (ht : t < eT E) (h : rtR m (4 + (t : Int)) = (cdE E S d p t).map (fun x => x.2.2.2)) {x : Cd} (hx : cdE E S d p t = some x) : cdX m d (p : Int) (4 + (t : Int)) (t : Int) = x := by
  obtain ⟨a1, a2, a3, a4, a5, a6⟩ := ev.2.2.2.1 t ht
  have hne := (ti.1 t ht).1
  have nn : ¬ sdE E d t < 0 := fun c => by
    unfold cdE at hx
    rw [if_pos c] at hx; cases hx
  obtain ⟨s, hs, hs2, hd⟩ := sdE.side nn
  have hx0 := hx
  rw [cdE.at hs] at hx
  obtain ⟨_, r, e1, _, _, e4⟩ := cdAt.some' hx
  have sb : slt t s p < 20 * eT E := by unfold slt; omega
  rw [hx0] at h
  have h : rtR m (4 + (t : Int)) = some x.2.2.2 := h
  have rv : rvR m (4 + (t : Int)) = x.2.2.2 := (rtR.get h).2.symm
  unfold cdX
  rw [rv, ptR.of a1 a2 hne hs2 hd, slR.of a1 hne hs2 hd, Int.toNat_natCast, (st.1 _ (Or.inl sb)).2.1 (by rw [e1]; exact fun q => by cases q), e4]
end Cands
end
section
/-! The class looks. -/
/-- something else is picked -/
theorem snC.pick {μ m : mM} {E : En} {S : Sn} {d p : Nat} {v : Int} {o : Option Rt} (h : snC μ E S) (ly : LYC μ (eT E) (eD E)) (hd : d < eD E) (hp : p < 10)
    (f : ∀ b i, ¬ (b = 21 ∧ 2 ≤ i ∧ i ≤ 7) → ¬ (b = 32 ∧ i = 9) → ¬ (36 ≤ b ∧ b ≤ 69) → ¬ (73 ≤ b ∧ b ≤ 75) → ¬ (b = dbA μ d + 3 ∧ i = p) → ¬ (dbA μ d + 5 + 3 * p ≤ b ∧ b ≤ dbA μ d + 7 + 3 * p) → m b i = μ b i)
    (hv : m (dbA μ d + 3) p = v) (ho : rtC m (dbA μ d + 5 + 3 * p) = o) : snC m E (pk! S (10 * d + p) (v, o)) := by
  obtain ⟨h1, h2, h3, h4, h5, h6, h7⟩ := h
  obtain ⟨l1, l2, l3, l4, l5, l6⟩ := ly
  have big := (l2 d hd).2.1
  have tb : ∀ s, tbA m s = tbA μ s := fun s => by
    unfold tbA
    rw [f _ _ (by omega) (by omega) (by omega) (by omega) (by omega) (by omega)]
  have db : ∀ s, dbA m s = dbA μ s := fun s => by
    unfold dbA
    rw [f _ _ (by omega) (by omega) (by omega) (by omega) (by omega) (by omega)]
  have at_ : ∀ b i, 192 ≤ b → ¬ (b = dbA μ d + 3 ∧ i = p) → ¬ (dbA μ d + 5 + 3 * p ≤ b ∧ b ≤ dbA μ d + 7 + 3 * p) → m b i = μ b i := fun b i h8 h9 h10 => f b i (by omega) (by omega) (by omega) (by omega) h9 h10
  have rt : ∀ a, 192 ≤ a → (a + 2 < dbA μ d + 3 ∨ dbA μ d + 3 < a) → (a + 2 < dbA μ d + 5 + 3 * p ∨ dbA μ d + 7 + 3 * p < a) → rtC m a = rtC μ a := fun a ha h9 h10 => rtC.of (fun i => at_ a i ha (by omega) (by omega)) (fun i => at_ (a + 1) i (by omega) (by omega) (by omega)) (fun i => at_ (a + 2) i (by omega) (by omega) (by omega))
  refine ⟨fun s j hs hj => ?_, fun e q he hq => ?_, ?_, fun i hi => ?_, ?_, ?_, ?_⟩
  · have a := l1 s hs
    have b := h1 s j hs hj
    have c := l5 s d hs hd
    show rtC m (tbA m s + 4 + 6 * j) = _ ∧ (_ → m (tbA m s + 4 + 6 * j) 9 = _) ∧ rtC m (tbA m s + 7 + 6 * j) = _ ∧ m (tbA m s + 7 + 6 * j) 9 = _
    rw [tb, rt _ (by omega) (by omega) (by omega), at_ (tbA μ s + 4 + 6 * j) 9 (by omega) (by omega) (by omega), rt _ (by omega) (by omega) (by omega), at_ (tbA μ s + 7 + 6 * j) 9 (by omega) (by omega) (by omega)]
    exact b
  · have a := l2 e he
    have b := h2 e q he hq
    show m (dbA m e + 3) q = (if 10 * e + q = 10 * d + p then (v, o) else sPk S (10 * e + q)).1 ∧ rtC m (dbA m e + 5 + 3 * q) = (if 10 * e + q = 10 * d + p then (v, o) else sPk S (10 * e + q)).2
    rw [db]
    by_cases c : e = d
    · subst c
      by_cases c2 : q = p
      · subst c2
        rw [if_pos rfl]
        exact ⟨hv, ho⟩
      · rw [if_neg (by omega), at_ _ _ (by omega) (by omega) (by omega), rt _ (by omega) (by omega) (by omega)]
        exact b
    · have c1 := l4 e d he hd c
      rw [if_neg (by omega), at_ _ _ (by omega) (by omega) (by omega), rt _ (by omega) (by omega) (by omega)]
      exact b
  · have e : evC m = evC μ := by
      rw [evC.eq, evC.eq, f 32 10 (by omega) (by omega) (by omega) (by omega) (by omega) (by omega)]
      refine lst.ext fun i _ => ?_
      rw [f 33 i (by omega) (by omega) (by omega) (by omega) (by omega) (by omega), f 34 _ (by omega) (by omega) (by omega) (by omega) (by omega) (by omega)]
    rw [e]; exact h3
  · rw [f 34 i (by omega) (by omega) (by omega) (by omega) (by omega) (by omega)]; exact h4 i hi
  · rw [f 32 11 (by omega) (by omega) (by omega) (by omega) (by omega) (by omega)]; exact h5
  · rw [f 32 12 (by omega) (by omega) (by omega) (by omega) (by omega) (by omega)]; exact h6
  · rw [rtC.of (fun i => f 70 i (by omega) (by omega) (by omega) (by omega) (by omega) (by omega)) (fun i => f 71 i (by omega) (by omega) (by omega) (by omega) (by omega) (by omega)) (fun i => f 72 i (by omega) (by omega) (by omega) (by omega) (by omega) (by omega))]
    exact h7
/-- a state with another pick is in order -/
theorem snG.pick {E : En} {S : Sn} {k : Nat} {v : Int} {o : Option Rt} (h : snG E S) (hg : rtO (k % 10) o) (hv : v = -99999999 ↔ o = none) (hx : eP E ≤ k % 10 → o = none) : snG E (pk! S k (v, o)) := by
  obtain ⟨s1, s2, s3, s4, s5, s6, s7, s8, s9, s0⟩ := h
  refine ⟨fun j => ?_, s2, s3, s4, s5, s6, fun j => ?_, s8, s9, fun j hj => ?_⟩
  · show rtO (j % 10) (if j = k then (v, o) else sPk S j).2
    by_cases c : j = k
    · rw [if_pos c, c]; exact hg
    · rw [if_neg c]; exact s1 j
  · show (if j = k then (v, o) else sPk S j).1 = -99999999 ↔ (if j = k then (v, o) else sPk S j).2 = none
    by_cases c : j = k
    · rw [if_pos c]; exact hv
    · rw [if_neg c]; exact s7 j
  · obtain ⟨b1, b2, b3⟩ := s0 j hj
    refine ⟨?_, b2, b3⟩
    show (if j = k then (v, o) else sPk S j).2 = none
    by_cases c : j = k
    · rw [if_pos c]; rw [c] at hj; exact hx hj
    · rw [if_neg c]; exact b1
/-- what the engine leaves alone below 192 -/
def loC (μ m : mM) : Prop := ∀ b i, b < 192 → ¬ (b = 21 ∧ 2 ≤ i ∧ i ≤ 7) → ¬ (b = 32 ∧ (i = 9 ∨ i = 10)) → ¬ b = 33 → ¬ b = 34 → ¬ (36 ≤ b ∧ b ≤ 69) → ¬ (73 ≤ b ∧ b ≤ 75) → m b i = μ b i
theorem loC.trans {μ m n : mM} (h : loC μ m) (k : loC m n) : loC μ n := fun b i h0 h1 h2 h3 h4 h5 h6 => (k b i h0 h1 h2 h3 h4 h5 h6).trans (h b i h0 h1 h2 h3 h4 h5 h6)
theorem frC.lo {μ m : mM} (h : frC μ m) : loC μ m := fun b i _ h1 h2 _ _ h5 h6 => h b i h1 (by omega) h5 h6
section LookC
variable {w : mW} {μ : mM} {E : En} {S : Sn} {d p : Nat}
theorem X8_lookL_s {Q : mM → Prop} {m0 : mM} {S1 : Sn} (hw : mWF w) (hT : mT w μ) (ev : envC w μ E) (F0 : mF lEC w μ m0) (st : snC m0 E S1) (sn : snG E S1) (ti : tiG E) (tG : thG E) (pa : paG E) (hp : p < 10)
    (k : ∀ m : mM, snC m E (forN (sayD E (d : Int) p) (eT E) S1) → loC m0 m → Q m) : loopF (WL_X8_look_W_2 w (d : Int) (p : Int) Q m0) False 22 (0, m0) := by
  have t20 := ti.2.2.1
  refine loopF.im (fun z m => 0 ≤ z ∧ z ≤ (eT E : Int) ∧ loC m0 m ∧ snC m E (forN (sayD E (d : Int) p) z.toNat S1)) (fun z => (21 - z).toNat) ⟨by omega, by omega, fun _ _ _ _ _ _ _ _ _ => rfl, st⟩ (by omega) ?_
  rintro rc z m ⟨z0, z1, lo, hs⟩ ih z' m' e hz T F n en hn
  cases e
  have Fm : mF lEC w μ m := F0.call F rfl
  have evm := envC.fr hw hT ev Fm
  rw [evm.1] at en
  subst en
  have zt : ∀ g : z < (eT E : Int), z.toNat < eT E := fun g => by omega
  have snm := (forN.sn (d := (d : Int)) sn tG pa hp z.toNat (by omega)).1
  have next : ∀ m2 : mM, loC m m2 → snC m2 E (sayD E (d : Int) p z.toNat (forN (sayD E (d : Int) p) z.toNat S1)) → z < (eT E : Int) → rc (z + 1, m2) := fun m2 l2 s2 g => ih _ _ ⟨by omega, by omega, lo.trans l2, by rw [show (z + 1).toNat = z.toNat + 1 by omega]; exact s2⟩ (by omega)
  refine ⟨fun g => k m (by rw [show eT E = z.toNat by omega]; exact hs) lo, fun g b eb hb => ?_⟩
  obtain ⟨a1, a2, a3, a4, a5, a6⟩ := evm.2.2.2.2.1 z.toNat (zt g)
  have eb' : b = tbA m z.toNat := by
    have t1 := (evm.2.2.2.1.1 z.toNat (zt g)).1
    omega
  subst eb'
  refine X9_sideOf_s ?_
  rw [a1, a2]
  have es : sdI (eA E z.toNat) (eB E z.toNat) (d : Int) = sdE E (d : Int) z.toNat := rfl
  rw [es]
  intro rs
  refine ⟨fun c => next m (fun _ _ _ _ _ _ _ _ _ => rfl) (by unfold sayD; rw [if_pos c]; exact hs) g, fun c => ?_⟩
  obtain ⟨s, hs1, hs2, hd⟩ := sdE.side (show ¬ sdE E (d : Int) z.toNat < 0 by omega)
  have key : ∀ L : List Nat, WP_X8_say_W w m ((z.toNat : Nat) : Int) (s : Int) (p : Int) (fun m2 => mT w m2 → mF L w m m2 → rc (z + 1, m2)) := by
    intro L
    refine X8_say_s hw T evm hs snm ti tG (zt g) hs2 hp (pa _ (zt g)) snm.2.2.2.2.2.2.2.1 fun m2 s2 l2 _ _ => next m2 l2 ?_ g
    unfold sayD
    rw [if_neg (by omega), hs1, Int.toNat_natCast]
    exact s2
  rw [show ((z.toNat : Nat) : Int) = z by omega, ← hs1] at key
  exact key _
end LookC
section LookC2
variable {w : mW} {μ : mM} {E : En} {S : Sn} {d p : Nat}
/-- at most nine candidates: partners differ -/
theorem cdE.ptn {t : Nat} {d : Int} {x : Cd} (h : cdE E S d p t = some x) : x.1 = (t : Int) ∧ ∃ s : Nat, s < 2 ∧ d = eN E t s ∧ x.2.1 = eN E t (1 - s) := by
  have nn : ¬ sdE E d t < 0 := fun c => by
    unfold cdE at h
    rw [if_pos c] at h; cases h
  obtain ⟨s, hs, hs2, hd⟩ := sdE.side nn
  rw [cdE.at hs] at h
  obtain ⟨_, r, _, _, _, e⟩ := cdAt.some' h
  subst e
  exact ⟨rfl, s, hs2, hd, rfl⟩
theorem cdsN.len (ti : tiG E) {d : Int} : ∀ n, n ≤ eT E → (cdsN E S d p n).length ≤ 9 := by
  intro n hn
  -- ties at d, each with its partner
  have key : ∀ m, m ≤ n → ∃ f : Nat → Nat, (∀ i, i < (cdsN E S d p m).length → f i < m ∧ ∃ s : Nat, s < 2 ∧ d = eN E (f i) s) ∧ ∀ i j, i < j → j < (cdsN E S d p m).length → f i < f j := by
    intro m
    induction m with
    | zero => exact fun _ => ⟨fun _ => 0, fun i hi => absurd hi (Nat.not_lt_zero i), fun i j _ hj => absurd hj (Nat.not_lt_zero j)⟩
    | succ m ih =>
      intro hm
      obtain ⟨f, h1, h2⟩ := ih (by omega)
      cases e : cdE E S d p m with
      | none =>
        have q : cdsN E S d p (m + 1) = cdsN E S d p m := fmN.no e
        rw [q]
        exact ⟨f, fun i hi => ⟨by have := (h1 i hi).1; omega, (h1 i hi).2⟩, h2⟩
      | some x =>
        have q : cdsN E S d p (m + 1) = cdsN E S d p m ++ [x] := fmN.yes e
        have ql : (cdsN E S d p (m + 1)).length = (cdsN E S d p m).length + 1 := by rw [q, List.length_append]; rfl
        rw [ql]
        obtain ⟨_, s, hs2, hd, _⟩ := cdE.ptn e
        refine ⟨fun i => if i = (cdsN E S d p m).length then m else f i, fun i hi => ?_, fun i j hij hj => ?_⟩
        · show (if i = (cdsN E S d p m).length then m else f i) < m + 1 ∧ ∃ s : Nat, s < 2 ∧ d = eN E (if i = (cdsN E S d p m).length then m else f i) s
          by_cases c : i = (cdsN E S d p m).length
          · rw [if_pos c]
            exact ⟨by omega, s, hs2, hd⟩
          · rw [if_neg c]
            have := h1 i (by omega)
            exact ⟨by omega, this.2⟩
        · show (if i = (cdsN E S d p m).length then m else f i) < (if j = (cdsN E S d p m).length then m else f j)
          rw [if_neg (by omega)]
          by_cases c : j = (cdsN E S d p m).length
          · rw [if_pos c]
            exact (h1 i (by omega)).1
          · rw [if_neg c]
            exact h2 i j hij (by omega)
  obtain ⟨f, h1, h2⟩ := key n (Nat.le_refl n)
  -- partners are numbers below ten, none is d
  have hD := ti.2.2.2.1
  have ptn : ∀ i, i < (cdsN E S d p n).length → ∃ q : Nat, q < 10 ∧ ¬ (q : Int) = d ∧ ((eA E (f i) = d ∧ eB E (f i) = (q : Int)) ∨ (eB E (f i) = d ∧ eA E (f i) = (q : Int))) := fun i hi => by
    obtain ⟨g1, s, g2, g3⟩ := h1 i hi
    have t := ti.1 (f i) (by omega)
    unfold eN at g3
    by_cases c : s = 0
    · rw [if_pos c] at g3
      exact ⟨(eB E (f i)).toNat, by omega, by omega, Or.inl ⟨g3.symm, by omega⟩⟩
    · rw [if_neg c] at g3
      exact ⟨(eA E (f i)).toNat, by omega, by omega, Or.inr ⟨g3.symm, by omega⟩⟩
  by_cases e0 : (cdsN E S d p n).length = 0
  · omega
  have dd : ∃ q : Nat, q < 10 ∧ d = (q : Int) := by
    obtain ⟨g1, s, g2, g3⟩ := h1 0 (by omega)
    have t := ti.1 (f 0) (by omega)
    unfold eN at g3
    by_cases c : s = 0
    · rw [if_pos c] at g3
      exact ⟨(eA E (f 0)).toNat, by omega, by omega⟩
    · rw [if_neg c] at g3
      exact ⟨(eB E (f 0)).toNat, by omega, by omega⟩
  obtain ⟨qd, hq10, hqd⟩ := dd
  have pc : ∃ g : Nat → Nat, ∀ i, i < (cdsN E S d p n).length → g i < 10 ∧ ¬ ((g i : Nat) : Int) = d ∧ ((eA E (f i) = d ∧ eB E (f i) = ((g i : Nat) : Int)) ∨ (eB E (f i) = d ∧ eA E (f i) = ((g i : Nat) : Int))) := ⟨fun i => if h : i < (cdsN E S d p n).length then (ptn i h).choose else 0, fun i hi => by
    simp only [dif_pos hi]
    exact (ptn i hi).choose_spec⟩
  obtain ⟨g, hg⟩ := pc
  have pg := pigeon 10 ((cdsN E S d p n).length + 1) (fun i => if i < (cdsN E S d p n).length then g i else qd) (fun i hi => ?_) (fun i j hij hj => ?_)
  · omega
  · show (if i < (cdsN E S d p n).length then g i else qd) < 10
    split
    · rename_i h; exact (hg i h).1
    · exact hq10
  · show (if i < (cdsN E S d p n).length then g i else qd) ≠ (if j < (cdsN E S d p n).length then g j else qd)
    rw [if_pos (by omega)]
    have gi := hg i (by omega)
    by_cases c : j < (cdsN E S d p n).length
    · rw [if_pos c]
      intro e
      have gj := hg j c
      have o := h2 i j hij c
      have a1 := (h1 i (by omega)).1
      have a2 := (h1 j c).1
      have u := ti.2.1 (f i) (f j) (by omega) (by omega) (by omega)
      rw [← e] at gj
      omega
    · rw [if_neg c]
      intro e
      rw [e, ← hqd] at gi
      exact gi.2.1 rfl
end LookC2
end
