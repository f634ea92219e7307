section MV28v
variable {l : Launch} {D : va_G} {c : Nat → ClassId} {H0 : Heap} {sa : Nat × Nat × (Nat → Int32)}
set_option maxRecDepth 4000 in
set_option maxHeartbeats 4000000 in
theorem lp_X4_findRests_v {w0 : mW} {μ0 : mM} {S n0 : Int} (hnd : NDQ μ0) (hSw : S = wgk (μ0 95) 6) (hS : S ≤ 46656) : ∀ (k : Nat) (w : mW) (μ : mM) (L rc n : Int) (b ce sl : Nat), S - L ≤ (k : Int) → mWF w → mT w μ → mX frL w0 μ0 w μ → μ 94 9 = S → μ 94 14 = rc → 0 ≤ rc ∧ rc ≤ L ∧ rc ≤ n → L ≤ S → hasLe μ L → μ 94 7 = (b : Int) → mAt w b 103 → (w.2.2.1 b : Int) = n → 1 ≤ n → (ce : Int) ≤ n → (sl : Int) ≤ 2 * n → (szW w : Int) + 2 * n0 ≤ szW w0 + 2 * n → (w.1 : Int) + n0 ≤ w0.1 + n → 0 ≤ L → frI μ0 S L rc b μ → sV (gG l D c H0 sa) mX4_findRests (sRm 6 93312 186624) (sZ (gG l D c H0 sa) 93312 186624 (qVx w0 frL μ0 (fun w1 μ1 => rlQ w0 n0 w1 μ1 ∧ NRV μ1 ∧ rwE μ0 μ1))) 24 [(1, iv L), (0, .ref 94)] [] (mk w μ) ce sl := by
  intro k
  induction k with
  | zero =>
    intro w μ L rc n b ce sl hk hw hT hX q9 q14 hrc hL hle q7 hA hn h1 hce hsl z1 z2 L0 hI
    have hnR := lnR (m := 93312) hn hA rfl
    refine mr_iload_n (pc := 24) (z := L) dX4_findRests_24 rfl rfl ?_
    refine sv_aload_n (pc := 25) dX4_findRests_25 rfl rfl ?_
    refine gk_X4_9 (pc := 26) dX4_findRests_26 wF_X4_59 (A_94 hw) q9 ?_
    refine mr_icmp_ge (pc := 29) (tgt := 54) dX4_findRests_29 (by decide) ⟨by omega, by omega⟩ ⟨by omega, by omega⟩ (fun h => ?_) (fun h => by omega)
    refine sv_aload_n (pc := 54) dX4_findRests_54 rfl rfl ?_
    refine mr_iconst (pc := 55) (z := 1) dX4_findRests_55 ?_
    refine pf_X4_10 (pc := 56) dX4_findRests_56 wF_X4_52 (A_94 hw) hT (by decide) fun μ1 u1 T1 => ?_
    exact mr_vretX dX4_findRests_59 rfl (by omega) (by omega) hw T1 (mX.fr hX (mF.up mF.refl (A_94 hw) u1 rfl : mF [94010] _ _ _) rfl) ⟨rlQ.mk (u1.f (Or.inr (by decide)) q7) hn (u1.f (Or.inr (by decide)) q14) ⟨h1, hrc.2.2⟩ z1 z2, hI.fin hSw (by omega) hw hA u1 q7 q14⟩
  | succ k ih =>
    intro w μ L rc n b ce sl hk hw hT hX q9 q14 hrc hL hle q7 hA hn h1 hce hsl z1 z2 L0 hI
    have hnR := lnR (m := 93312) hn hA rfl
    refine mr_iload_n (pc := 24) (z := L) dX4_findRests_24 rfl rfl ?_
    refine sv_aload_n (pc := 25) dX4_findRests_25 rfl rfl ?_
    refine gk_X4_9 (pc := 26) dX4_findRests_26 wF_X4_59 (A_94 hw) q9 ?_
    refine mr_icmp_ge (pc := 29) (tgt := 54) dX4_findRests_29 (by decide) ⟨by omega, by omega⟩ ⟨by omega, by omega⟩ (fun h => ?_) (fun h => ?_)
    · refine sv_aload_n (pc := 54) dX4_findRests_54 rfl rfl ?_
      refine mr_iconst (pc := 55) (z := 1) dX4_findRests_55 ?_
      refine pf_X4_10 (pc := 56) dX4_findRests_56 wF_X4_52 (A_94 hw) hT (by decide) fun μ1 u1 T1 => ?_
      exact mr_vretX dX4_findRests_59 rfl (by omega) (by omega) hw T1 (mX.fr hX (mF.up mF.refl (A_94 hw) u1 rfl : mF [94010] _ _ _) rfl) ⟨rlQ.mk (u1.f (Or.inr (by decide)) q7) hn (u1.f (Or.inr (by decide)) q14) ⟨h1, hrc.2.2⟩ z1 z2, hI.fin hSw (by omega) hw hA u1 q7 q14⟩
    · have tail : ∀ (w' : mW) (μ' : mM) (rc' n' : Int) (b' ce' sl' : Nat), mWF w' → mT w' μ' → mX frL w0 μ0 w' μ' → μ' 94 9 = S → μ' 94 14 = rc' → 0 ≤ rc' ∧ rc' ≤ L + 1 ∧ rc' ≤ n' → hasLe μ' L → μ' 94 7 = (b' : Int) → mAt w' b' 103 → (w'.2.2.1 b' : Int) = n' → 1 ≤ n' → (ce' : Int) ≤ n' → (sl' : Int) ≤ 2 * n' → (szW w' : Int) + 2 * n0 ≤ szW w0 + 2 * n' → (w'.1 : Int) + n0 ≤ w0.1 + n' → frJ μ0 L rc' b' μ' → sV (gG l D c H0 sa) mX4_findRests (sRm 6 93312 186624) (sZ (gG l D c H0 sa) 93312 186624 (qVx w0 frL μ0 (fun w1 μ1 => rlQ w0 n0 w1 μ1 ∧ NRV μ1 ∧ rwE μ0 μ1))) 44 [(1, iv L), (0, .ref 94)] [] (mk w' μ') ce' sl' := by
        intro w' μ' rc' n' b' ce' sl' hw' hT' hX' q9' q14' hrc' hle' q7' hA' hn' h1' hce' hsl' z1' z2' hJ'
        have hnR' := lnR (m := 93312) hn' hA' rfl
        refine sv_aload_n (pc := 44) dX4_findRests_44 rfl rfl ?_
        refine mr_cVV (pc := 45) (c_X4_countUp_v hw' hT' (g1 := L) ⟨by omega, by omega⟩ hle' L0 hJ'.2.2.2.1) (gOk _ _ _ _ _) dX4_findRests_45 (tX4_countUp _ _ _ _ _) ⟨wV_X4_countUp, wL_X4_countUp⟩ wM_X4_95 (gCX4 _ _ _ _ _) rfl (A_94 hw') rfl ⟨le_t rfl, le_t rfl⟩ ⟨show ce' ≤ 93312 by omega, show sl' ≤ 186624 by omega⟩ rfl (le_t rfl) fun μ2 T2 F2 P2 => ?_
        refine mr_iinc (pc := 48) (lv' := [(1, iv (L + 1)), (0, .ref 94)]) dX4_findRests_48 rfl (by decide) rfl ?_
        refine sv_goto (pc := 51) (tgt := 24) dX4_findRests_51 (by decide) ?_
        exact ih w' μ2 (L + 1) rc' n' b' ce' sl' (by omega) hw' T2 (mX.fr hX' F2 rfl) (F2.f (A_94 hw') rfl q9') (F2.f (A_94 hw') rfl q14') hrc' (by omega) P2.1 (F2.f (A_94 hw') rfl q7') hA' hn' h1' hce' hsl' z1' z2' (by omega) (hJ'.next hSw hw' hA' F2 P2.2.1)
      refine sv_aload_n (pc := 32) dX4_findRests_32 rfl rfl ?_
      refine mr_cVP (pc := 33) (c_X4_isRest_v hw hT hI.2.2.1 (hI.1.nd hnd) ((hI.2.2.2.1 (by omega)).b hw hT)) (gOk _ _ _ _ _) dX4_findRests_33 (tX4_isRest _ _ _ _ _) ⟨wV_X4_isRest, wL_X4_isRest⟩ wM_X4_88 (gCX4 _ _ _ _ _) rfl (A_94 hw) rfl ⟨le_t rfl, le_t rfl⟩ ⟨show ce ≤ 93312 by omega, show sl ≤ 186624 by omega⟩ rfl (le_t rfl) fun z hz => ?_
      refine mr_if_eq (pc := 36) (tgt := 44) dX4_findRests_36 (by decide) (r32 hz.1 rfl) (fun e0 => ?_) (fun e0 => ?_)
      · have hz2 := hI.is hw hT ⟨L0, by omega⟩ hz.2.1
        exact tail w μ rc n b ce sl hw hT hX q9 q14 ⟨hrc.1, by omega, hrc.2.2⟩ hle q7 hA hn h1 hce hsl z1 z2 (frJ.no hI ⟨L0, by omega⟩ fun q => absurd (hz2.mpr q) (by omega))
      · have hz2 := hI.is hw hT ⟨L0, by omega⟩ hz.2.1
        have hz3 := hz2.mp (by have := hz.1; omega)
        refine sv_aload_n (pc := 39) dX4_findRests_39 rfl rfl ?_
        refine mr_iload_n (pc := 40) (z := L) dX4_findRests_40 rfl rfl ?_
        by_cases hc : rc < n
        · refine mr_cVV (pc := 41) (c_X4_keepRest_c hw hT (p1 := L) ⟨by omega, by omega⟩ q14 q7 hA (by omega) (by rw [hn]; exact hc)) (gOk _ _ _ _ _) dX4_findRests_41 (tX4_keepRest _ _ _ _ _) ⟨wV_X4_keepRest, wL_X4_keepRest⟩ wM_X4_92 (gCX4 _ _ _ _ _) rfl (A_94 hw) rfl ⟨le_t rfl, le_t rfl⟩ ⟨show ce ≤ 93312 by omega, show sl ≤ 186624 by omega⟩ rfl (le_t rfl) fun μ2 T2 F2 P2 => ?_
          obtain ⟨o, qo, ho, hk, _⟩ := P2
          exact tail w μ2 o n b ce sl hw T2 (mX.fr hX F2 rfl) (F2.f (A_94 hw) rfl q9) qo ⟨by omega, by omega, by omega⟩ (hle.keep hw F2 rfl) (F2.f (A_94 hw) rfl q7) hA hn h1 hce hsl z1 z2 (frJ.yes hI hw F2 ⟨L0, by omega⟩ hrc.1 hz3 hk ho)
        · refine mr_cVVX (pc := 41) (c_X4_keepRest_d hw hT (p1 := L) ⟨by omega, by omega⟩ q14 q7 hA (by omega) (by omega) (by rw [hn]; omega)) (gOk _ _ _ _ _) dX4_findRests_41 (tX4_keepRest _ _ _ _ _) ⟨wV_X4_keepRest, wL_X4_keepRest⟩ wM_X4_92 (gCX4 _ _ _ _ _) rfl (A_94 hw) rfl ⟨le_t rfl, le_t rfl⟩ ⟨show ce + 1 ≤ 93312 by omega, show sl + (2 * rc).toNat ≤ 186624 by omega⟩ rfl (le_t rfl) fun w2 μ2 hw2 T2 X2 P2 => ?_
          obtain ⟨o, qo, ho, hlen, ⟨hzz, hz1⟩, hk, _⟩ := P2
          obtain ⟨b2, q2, hA2⟩ := refE (T2 94 94 (A_94 hw2) 7)
          exact tail w2 μ2 o (2 * rc) b2 (ce + 1) (sl + (2 * rc).toNat) hw2 T2 (mX.trans hX X2 rfl) (X2.f (A_94 hw) rfl q9) qo ⟨by omega, by omega, by omega⟩ (hle.keepX hw X2 rfl) q2 hA2 (by rw [q2] at hlen; exact hlen) (by omega) (by omega) (by omega) (by omega) (by omega) (frJ.yesX hI hw X2 ⟨L0, by omega⟩ hrc.1 hn hrc.2.2 hz3 hk q2 ho)
set_option maxRecDepth 4000 in
set_option maxHeartbeats 4000000 in
theorem c_X4_findRests_v {w : mW} {μ : mM} (hnd : NDQ μ) (hnr : NRQ μ) (hw : mWF w) (hT : mT w μ) {br : Nat} (q_br : μ 94 7 = (br : Int)) (hA_br : mAt w br 103) (hb : rlP w μ) : sC (gG l D c H0 sa) mX4_findRests 6 93312 186624 [.ref 94] (mk w μ) (qVx w frL μ (fun w1 μ1 => rlQ w (w.2.2.1 br) w1 μ1 ∧ NRV μ1 ∧ rwE μ μ1)) := by
  refine sC.of rfl (by decide) (le_t rfl) ?_
  have hb1 : 1 ≤ (w.2.2.1 br : Int) := by have h := hb.1; rw [lenX q_br rfl rfl] at h; exact h
  refine mr_lvE (lv' := [(0, .ref 94)]) rfl ?_
  refine sv_aload_n (pc := 0) dX4_findRests_0 rfl rfl ?_
  refine gf_X4_10 (pc := 1) dX4_findRests_1 wF_X4_52 (A_94 hw) hT fun z qz hz => ?_
  refine mr_if_eq (pc := 4) (tgt := 8) dX4_findRests_4 (by decide) (r32 hz rfl) (fun _ => ?_) (fun e1 => ?_)
  · refine sv_aload_n (pc := 8) dX4_findRests_8 rfl rfl ?_
    refine mr_cVV (pc := 9) (c_X4_prepare_v hw hT) (gOk _ _ _ _ _) dX4_findRests_9 (tX4_prepare _ _ _ _ _) ⟨wV_X4_prepare, wL_X4_prepare⟩ wM_X4_79 (gCX4 _ _ _ _ _) rfl (A_94 hw) rfl ⟨le_t rfl, le_t rfl⟩ ⟨le_t rfl, le_t rfl⟩ rfl (le_t rfl) fun μ1 T1 F1 P1 => ?_
    obtain ⟨S, qS, hS1, hrx, ⟨hwg, hSw⟩, hna, _⟩ := P1
    have r1 : rwE μ μ1 := rwE.fr ⟨rfl, rfl, rfl⟩ hw F1 rfl
    have hSw : S = wgk (μ 95) 6 := by rw [← qS, hSw, r1.1]
    have hSR : 0 ≤ S ∧ S ≤ 46656 := by rw [← qS]; exact T1 94 94 (A_94 hw) 9
    refine sv_aload_n (pc := 12) dX4_findRests_12 rfl rfl ?_
    refine mr_iconst (pc := 13) (z := 0) dX4_findRests_13 ?_
    refine pf_X4_14 (pc := 14) dX4_findRests_14 wF_X4_82 (A_94 hw) T1 (by decide) fun μ2 u2 T2 => ?_
    have F2 : mF [94014] w μ1 μ2 := mF.up mF.refl (A_94 hw) u2 rfl
    have rx2 : radix μ2 100 95 (μ1 94 9) := hrx.keep F2 (A_100 hw) (A_95 hw) (fun _ => rfl) (fun _ => rfl)
    refine sv_aload_n (pc := 17) dX4_findRests_17 rfl rfl ?_
    refine mr_iconst (pc := 18) (z := 0) dX4_findRests_18 ?_
    refine mr_cVV (pc := 19) (c_X4_unfold_r hw T2 (p1 := 0) (by decide) rfl rfl rfl rfl rfl rfl rfl rfl rfl rfl rfl rfl rx2.1.1 rx2.2.1.1 rx2.2.2.1.1 rx2.2.2.2.1.1 rx2.2.2.2.2.1.1 rx2.2.2.2.2.2.1) (gOk _ _ _ _ _) dX4_findRests_19 (tX4_unfold _ _ _ _ _) ⟨wV_X4_unfold, wL_X4_unfold⟩ wM_X4_85 (gCX4 _ _ _ _ _) rfl (A_94 hw) rfl ⟨le_t rfl, le_t rfl⟩ ⟨le_t rfl, le_t rfl⟩ rfl (le_t rfl) fun μ3 T3 F3 P3 => ?_
    have e52 : μ2 95 = μ1 95 := rowB (A_95 hw) F2 rfl rfl
    have e53 : μ3 95 = μ2 95 := rowB (A_95 hw) F3 rfl rfl
    have w3 : wgT μ3 100 95 := (hwg.of (rowB (A_100 hw) F2 rfl rfl) e52).of (rowB (A_100 hw) F3 rfl rfl) e53
    have hna3 : ndA μ3 := (hna.of e52 (rowB (A_96 hw) F2 rfl rfl) (rowB (A_97 hw) F2 rfl rfl) (rowB (A_98 hw) F2 rfl rfl) (rowB (A_99 hw) F2 rfl rfl)).of e53 (rowB (A_96 hw) F3 rfl rfl) (rowB (A_97 hw) F3 rfl rfl) (rowB (A_98 hw) F3 rfl rfl) (rowB (A_99 hw) F3 rfl rfl)
    have d3 : hasD μ3 101 95 0 := digs.hasD P3.1 w3
    refine mr_iconst (pc := 22) (z := 0) dX4_findRests_22 ?_
    refine mr_istore_n (pc := 23) (lv' := [(1, iv 0), (0, .ref 94)]) dX4_findRests_23 rfl (by decide) rfl ?_
    exact lp_X4_findRests_v hnd hSw hSR.2 S.toNat w μ3 0 0 _ br 0 0 (by omega) hw T3 (mX.fr (mX.fr (mX.fr mX.refl F1 rfl) F2 rfl) F3 rfl) (F3.f (A_94 hw) rfl (F2.f (A_94 hw) rfl qS)) (F3.f (A_94 hw) rfl u2.1) ⟨by decide, by decide, by omega⟩ (by omega) P3.1.le0 (F3.f (A_94 hw) rfl (F2.f (A_94 hw) rfl (F1.f (A_94 hw) rfl q_br))) hA_br rfl hb1 (by omega) (by omega) (Int.le_refl _) (Int.le_refl _) (Int.le_refl 0) ⟨(r1.fr hw F2 rfl).fr hw F3 rfl, w3, hna3, fun _ => d3, rkI.zero⟩
  · exact mr_vretX dX4_findRests_7 rfl (le_t rfl) (le_t rfl) hw hT mX.refl ⟨rlQ.refl hb q_br, ⟨hnr, by have := hz; omega⟩, rfl, rfl, rfl⟩
end MV28v
section MV29v
variable {l : Launch} {D : va_G} {c : Nat → ClassId} {H0 : Heap} {sa : Nat × Nat × (Nat → Int32)}
set_option maxRecDepth 4000 in
set_option maxHeartbeats 4000000 in
theorem c_X11_rests_v {w : mW} {μ : mM} (hnd : NDQ μ) (hnr : NRQ μ) (hw : mWF w) (hT : mT w μ) (hb : rlP w μ) {b : Nat} (q7 : μ 94 7 = (b : Int)) (hA : mAt w b 103) : sC (gG l D c H0 sa) mX11_rests 7 93312 186624 [.ref 0] (mk w μ) (qIx w frL μ (fun z w1 μ1 => (-2147483648 ≤ z ∧ z ≤ 2147483647) ∧ rlQ w (w.2.2.1 b) w1 μ1 ∧ NRQ μ1 ∧ z = cnP (RSt μ 95 97 96 7) (wgk (μ 95) 6).toNat)) := by
  refine sC.of rfl (by decide) (le_t rfl) ?_
  refine mr_lvE (lv' := [(0, .ref 0)]) rfl ?_
  refine sv_aload_n (pc := 0) dX11_rests_0 rfl rfl ?_
  refine gf_X11_9 (pc := 1) dX11_rests_1 wF_X11_72 (A_0 hw) hT ?_
  refine mr_cVVX (pc := 4) (c_X4_findRests_v hnd hnr hw hT q7 hA hb) (gOk _ _ _ _ _) dX11_rests_4 (tX4_findRests _ _ _ _ _) ⟨wV_X4_findRests, wL_X4_findRests⟩ wM_X11_411 (gCX4 _ _ _ _ _) rfl (A_94 hw) rfl ⟨le_t rfl, le_t rfl⟩ ⟨le_t rfl, le_t rfl⟩ rfl (le_t rfl) fun w1 μ1 hw1 T1 X1 P1 => ?_
  refine sv_aload_n (pc := 7) dX11_rests_7 rfl rfl ?_
  refine gf_X11_9 (pc := 8) dX11_rests_8 wF_X11_72 (A_0 hw1) T1 ?_
  refine gf_X4_14 (pc := 11) dX11_rests_11 wF_X11_414 (A_94 hw1) T1 fun z qz hz => ?_
  exact mr_iretX dX11_rests_14 rfl (le_t rfl) (le_t rfl) hw1 T1 X1 ⟨r32 hz rfl, P1.1, P1.2.1.1, by have h := (P1.2.1.1 P1.2.1.2).2.1; rw [qz, RSt.ext P1.2.2, P1.2.2.1] at h; exact h⟩
set_option maxRecDepth 4000 in
set_option maxHeartbeats 4000000 in
theorem c_X11_rest_v {w : mW} {μ : mM} (hnd : NDQ μ) (hnr : NRQ μ) (hw : mWF w) (hT : mT w μ) (hb : rlP w μ) {b : Nat} (q7 : μ 94 7 = (b : Int)) (hA : mAt w b 103) {p1 p2 : Int} (hp1 : -2147483648 ≤ p1 ∧ p1 ≤ 2147483647) (hp2 : -2147483648 ≤ p2 ∧ p2 ≤ 2147483647) : sC (gG l D c H0 sa) mX11_rest 7 93312 186624 [.ref 0, iv p1, iv p2] (mk w μ) (qIx w frL μ (fun z w1 μ1 => (-2147483648 ≤ z ∧ z ≤ 2147483647) ∧ rlQ w (w.2.2.1 b) w1 μ1 ∧ NRQ μ1 ∧ rtZ (RSt μ 95 97 96 7) (wgk (μ 95) 6).toNat (μ 95) p1 p2 z)) := by
  refine sC.of rfl (by decide) (le_t rfl) ?_
  refine mr_lvE (lv' := [(0, .ref 0), (1, iv p1), (2, iv p2)]) rfl ?_
  refine sv_aload_n (pc := 0) dX11_rest_0 rfl rfl ?_
  refine gf_X11_9 (pc := 1) dX11_rest_1 wF_X11_72 (A_0 hw) hT ?_
  refine mr_cVVX (pc := 4) (c_X4_findRests_v hnd hnr hw hT q7 hA hb) (gOk _ _ _ _ _) dX11_rest_4 (tX4_findRests _ _ _ _ _) ⟨wV_X4_findRests, wL_X4_findRests⟩ wM_X11_411 (gCX4 _ _ _ _ _) rfl (A_94 hw) rfl ⟨le_t rfl, le_t rfl⟩ ⟨le_t rfl, le_t rfl⟩ rfl (le_t rfl) fun w1 μ1 hw1 T1 X1 P1 => ?_
  obtain ⟨P1, ⟨N1, N2⟩, R1⟩ := P1
  have K := (N1 N2).2
  rw [RSt.ext R1, R1.1] at K
  have none : (p1 < 0 ∨ μ1 94 14 ≤ p1 ∨ p2 < 1 ∨ 7 ≤ p2) → sV (gG l D c H0 sa) mX11_rest (sRm 7 93312 186624) (sZ (gG l D c H0 sa) 93312 186624 (qIx w frL μ (fun z w1 μ1 => (-2147483648 ≤ z ∧ z ≤ 2147483647) ∧ rlQ w (w.2.2.1 b) w1 μ1 ∧ NRQ μ1 ∧ rtZ (RSt μ 95 97 96 7) (wgk (μ 95) 6).toNat (μ 95) p1 p2 z))) 33 [(0, .ref 0), (1, iv p1), (2, iv p2)] [] (mk w1 μ1) (0 + 93312) (0 + 186624) := fun hbad => by
    refine mr_iconst (pc := 33) (z := -1) dX11_rest_33 ?_
    exact mr_iretX dX11_rest_34 rfl (le_t rfl) (le_t rfl) hw1 T1 X1 ⟨by decide, P1, N1, rkI.bad K hbad⟩
  refine mr_iload_n (pc := 7) (z := p1) dX11_rest_7 rfl rfl ?_
  refine mr_if_lt (pc := 8) (tgt := 33) dX11_rest_8 (by decide) hp1 (fun g => none (Or.inl g)) (fun h1 => ?_)
  refine mr_iload_n (pc := 11) (z := p1) dX11_rest_11 rfl rfl ?_
  refine sv_aload_n (pc := 12) dX11_rest_12 rfl rfl ?_
  refine gf_X11_9 (pc := 13) dX11_rest_13 wF_X11_72 (A_0 hw1) T1 ?_
  refine gf_X4_14 (pc := 16) dX11_rest_16 wF_X11_414 (A_94 hw1) T1 fun z qz hz => ?_
  refine mr_icmp_ge (pc := 19) (tgt := 33) dX11_rest_19 (by decide) hp1 (r32 hz rfl) (fun g => none (Or.inr (Or.inl (by rw [qz]; exact g)))) (fun h2 => ?_)
  refine mr_iload_n (pc := 22) (z := p2) dX11_rest_22 rfl rfl ?_
  refine mr_iconst (pc := 23) (z := 1) dX11_rest_23 ?_
  refine mr_icmp_lt (pc := 24) (tgt := 33) dX11_rest_24 (by decide) hp2 (by decide) (fun g => none (Or.inr (Or.inr (Or.inl g)))) (fun h3 => ?_)
  refine mr_iload_n (pc := 27) (z := p2) dX11_rest_27 rfl rfl ?_
  refine mr_bipush (pc := 28) (z := 7) dX11_rest_28 (by decide) ?_
  refine mr_icmp_lt (pc := 30) (tgt := 35) dX11_rest_30 (by decide) hp2 (by decide) (fun h4 => ?_) (fun g => none (Or.inr (Or.inr (Or.inr (by omega)))))
  refine sv_aload_n (pc := 35) dX11_rest_35 rfl rfl ?_
  refine gf_X11_9 (pc := 36) dX11_rest_36 wF_X11_72 (A_0 hw1) T1 ?_
  refine mr_iload_n (pc := 39) (z := p1) dX11_rest_39 rfl rfl ?_
  refine mr_iload_n (pc := 40) (z := p2) dX11_rest_40 rfl rfl ?_
  obtain ⟨b1, q71, hA1⟩ := refE (T1 94 94 (A_94 hw1) 7)
  have hlen : z ≤ (w1.2.2.1 b1 : Int) := by have h := P1.1.2; rw [lenX q71 rfl rfl, qz] at h; exact h
  refine mr_cVP (pc := 41) (c_X4_wayInRest_v hw1 T1 (p1 := p1) (p2 := p2) ⟨by omega, by omega⟩ ⟨by omega, by omega⟩ q71 hA1 (by omega) (N1 N2).1) (gOk _ _ _ _ _) dX11_rest_41 (tX4_wayInRest _ _ _ _ _) ⟨wV_X4_wayInRest, wL_X4_wayInRest⟩ wM_X11_417 (gCX4 _ _ _ _ _) rfl (A_94 hw1) rfl ⟨le_t rfl, le_t rfl⟩ ⟨le_t rfl, le_t rfl⟩ rfl (le_t rfl) fun z2 hz2 => ?_
  refine mr_iretX dX11_rest_44 rfl (le_t rfl) (le_t rfl) hw1 T1 X1 ⟨hz2.1, P1, N1, ?_⟩
  rw [q71] at K
  have eb : ((b1 : Int)).toNat = b1 := rfl
  rw [eb] at K
  have g := hz2.2.1
  have gz : wiZ_ μ (μ1 b1 p1.toNat) p2 z2 := by unfold wiZ_ at g ⊢; rw [R1.1] at g; exact g
  exact rkI.rt K ⟨h1, by rw [qz]; exact h2⟩ ⟨h3, by omega⟩ gz
end MV29v
