/-! The class's rests: the loop whose world grows. -/
theorem digs.le0 {μ : mM} {a v : Nat} (g : digs μ 101 a v 0) : hasLe μ 0 := fun i h1 h2 => by
  have d := g.at (p := (i : Int)) ⟨by omega, by omega⟩
  unfold dig at d
  rw [Int.zero_ediv, Int.zero_emod] at d
  have e : ((i : Int)).toNat = i := rfl
  rw [e] at d; omega
theorem hasLe.keepX {l : List Nat} {w w1 : mW} {μ μ1 : mM} {n : Int} (h : hasLe μ n) (hw : mWF w) (hX : mX l w μ w1 μ1) (hl : l.elem 101999 = false) : hasLe μ1 n := fun i h1 hi => by
  rw [hX.f (z := μ 101 i) (A_101 hw) hl rfl]; exact h i h1 hi
theorem dX4_findRests_0 : decode cX4_findRests 0 = .ok (.aload_n 0, 1) := by decide +kernel
theorem dX4_findRests_1 : decode cX4_findRests 1 = .ok (.getfield 52, 3) := by decide +kernel
theorem dX4_findRests_4 : decode cX4_findRests 4 = .ok (.ifCond .eq 4, 3) := by decide +kernel
theorem dX4_findRests_7 : decode cX4_findRests 7 = .ok (.return_, 1) := by decide +kernel
theorem dX4_findRests_8 : decode cX4_findRests 8 = .ok (.aload_n 0, 1) := by decide +kernel
theorem dX4_findRests_9 : decode cX4_findRests 9 = .ok (.invokevirtual 79, 3) := by decide +kernel
theorem dX4_findRests_12 : decode cX4_findRests 12 = .ok (.aload_n 0, 1) := by decide +kernel
theorem dX4_findRests_13 : decode cX4_findRests 13 = .ok (.iconst 0, 1) := by decide +kernel
theorem dX4_findRests_14 : decode cX4_findRests 14 = .ok (.putfield 82, 3) := by decide +kernel
theorem dX4_findRests_17 : decode cX4_findRests 17 = .ok (.aload_n 0, 1) := by decide +kernel
theorem dX4_findRests_18 : decode cX4_findRests 18 = .ok (.iconst 0, 1) := by decide +kernel
theorem dX4_findRests_19 : decode cX4_findRests 19 = .ok (.invokevirtual 85, 3) := by decide +kernel
theorem dX4_findRests_22 : decode cX4_findRests 22 = .ok (.iconst 0, 1) := by decide +kernel
theorem dX4_findRests_23 : decode cX4_findRests 23 = .ok (.istore_n 1, 1) := by decide +kernel
theorem dX4_findRests_24 : decode cX4_findRests 24 = .ok (.iload_n 1, 1) := by decide +kernel
theorem dX4_findRests_25 : decode cX4_findRests 25 = .ok (.aload_n 0, 1) := by decide +kernel
theorem dX4_findRests_26 : decode cX4_findRests 26 = .ok (.getfield 59, 3) := by decide +kernel
theorem dX4_findRests_29 : decode cX4_findRests 29 = .ok (.if_icmp .ge 25, 3) := by decide +kernel
theorem dX4_findRests_32 : decode cX4_findRests 32 = .ok (.aload_n 0, 1) := by decide +kernel
theorem dX4_findRests_33 : decode cX4_findRests 33 = .ok (.invokevirtual 88, 3) := by decide +kernel
theorem dX4_findRests_36 : decode cX4_findRests 36 = .ok (.ifCond .eq 8, 3) := by decide +kernel
theorem dX4_findRests_39 : decode cX4_findRests 39 = .ok (.aload_n 0, 1) := by decide +kernel
theorem dX4_findRests_40 : decode cX4_findRests 40 = .ok (.iload_n 1, 1) := by decide +kernel
theorem dX4_findRests_41 : decode cX4_findRests 41 = .ok (.invokevirtual 92, 3) := by decide +kernel
theorem dX4_findRests_44 : decode cX4_findRests 44 = .ok (.aload_n 0, 1) := by decide +kernel
theorem dX4_findRests_45 : decode cX4_findRests 45 = .ok (.invokevirtual 95, 3) := by decide +kernel
theorem dX4_findRests_48 : decode cX4_findRests 48 = .ok (.iinc 1 1, 3) := by decide +kernel
theorem dX4_findRests_51 : decode cX4_findRests 51 = .ok (.goto (-27), 3) := by decide +kernel
theorem dX4_findRests_54 : decode cX4_findRests 54 = .ok (.aload_n 0, 1) := by decide +kernel
theorem dX4_findRests_55 : decode cX4_findRests 55 = .ok (.iconst 1, 1) := by decide +kernel
theorem dX4_findRests_56 : decode cX4_findRests 56 = .ok (.putfield 52, 3) := by decide +kernel
theorem dX4_findRests_59 : decode cX4_findRests 59 = .ok (.return_, 1) := by decide +kernel
/-- what the rests' loop may change -/
abbrev frL : List Nat := [94007, 94009, 94010, 94014, 98999, 99999, 100999, 101999, 103999]
/-- the rests' row has place for what is counted -/
def rlP (w : mW) (μ : mM) : Prop := 1 ≤ (w.2.2.1 (μ 94 7).toNat : Int) ∧ μ 94 14 ≤ (w.2.2.1 (μ 94 7).toNat : Int)
theorem rlP.mk {w : mW} {μ : mM} {b : Nat} {n x : Int} (q : μ 94 7 = (b : Int)) (hn : (w.2.2.1 b : Int) = n) (qx : μ 94 14 = x) (h : 1 ≤ n ∧ x ≤ n) : rlP w μ := by
  unfold rlP
  rw [lenX q hn rfl, qx]; exact h
/-- .. and memory grew no more than that row -/
def rlQ (w0 : mW) (n0 : Int) (w : mW) (μ : mM) : Prop := rlP w μ ∧ (szW w : Int) + 2 * n0 ≤ szW w0 + 2 * (w.2.2.1 (μ 94 7).toNat : Int) ∧ (w.1 : Int) + n0 ≤ w0.1 + (w.2.2.1 (μ 94 7).toNat : Int)
theorem rlQ.mk {w0 w : mW} {μ : mM} {b : Nat} {n0 n x : Int} (q : μ 94 7 = (b : Int)) (hn : (w.2.2.1 b : Int) = n) (qx : μ 94 14 = x) (h : 1 ≤ n ∧ x ≤ n) (h1 : (szW w : Int) + 2 * n0 ≤ szW w0 + 2 * n) (h2 : (w.1 : Int) + n0 ≤ w0.1 + n) : rlQ w0 n0 w μ := ⟨rlP.mk q hn qx h, by rw [lenX q hn rfl]; exact h1, by rw [lenX q hn rfl]; exact h2⟩
theorem rlQ.refl {w : mW} {μ : mM} {b : Nat} (h : rlP w μ) (q : μ 94 7 = (b : Int)) : rlQ w (w.2.2.1 b) w μ := ⟨h, by rw [lenX q rfl rfl]; exact Int.le_refl _, by rw [lenX q rfl rfl]; exact Int.le_refl _⟩
section MV28
variable {l : Launch} {D : va_G} {c : Nat → ClassId} {H0 : Heap} {sa : Nat × Nat × (Nat → Int32)}
/-- what countUp keeps -/
def cuP (l : Launch) (D : va_G) (c : Nat → ClassId) (H0 : Heap) (sa : Nat × Nat × (Nat → Int32)) : Prop := ∀ (w : mW) (μ : mM) (g1 : Int), mWF w → mT w μ → 0 ≤ g1 ∧ g1 ≤ 46655 → hasLe μ g1 → sC (gG l D c H0 sa) mX4_countUp 1 0 0 [.ref 94] (mk w μ) (qV w [101999] μ (fun μ1 => hasLe μ1 (g1 + 1) ∧ True))
set_option maxRecDepth 4000 in
set_option maxHeartbeats 4000000 in
theorem lp_X4_findRests {w0 : mW} {μ0 : mM} {S n0 : Int} (hcu : cuP l D c H0 sa) (hS : S ≤ 46656) : ∀ (k : Nat) (w : mW) (μ : mM) (L rc n : Int) (b ce sl : Nat), S - L ≤ (k : Int) → mWF w → mT w μ → mX frL w0 μ0 w μ → μ 94 9 = S → μ 94 14 = rc → 0 ≤ rc ∧ rc ≤ L ∧ rc ≤ n → L ≤ S → hasLe μ L → μ 94 7 = (b : Int) → mAt w b 103 → (w.2.2.1 b : Int) = n → 1 ≤ n → (ce : Int) ≤ n → (sl : Int) ≤ 2 * n → (szW w : Int) + 2 * n0 ≤ szW w0 + 2 * n → (w.1 : Int) + n0 ≤ w0.1 + n → sV (gG l D c H0 sa) mX4_findRests (sRm 6 93312 186624) (sZ (gG l D c H0 sa) 93312 186624 (qVx w0 frL μ0 (rlQ w0 n0))) 24 [(1, iv L), (0, .ref 94)] [] (mk w μ) ce sl := by
  intro k
  induction k with
  | zero =>
    intro w μ L rc n b ce sl hk hw hT hX q9 q14 hrc hL hle q7 hA hn h1 hce hsl z1 z2
    have hnR := lnR (m := 93312) hn hA rfl
    refine mr_iload_n (pc := 24) (z := L) dX4_findRests_24 rfl rfl ?_
    refine sv_aload_n (pc := 25) dX4_findRests_25 rfl rfl ?_
    refine gk_X4_9 (pc := 26) dX4_findRests_26 wF_X4_59 (A_94 hw) q9 ?_
    refine mr_icmp_ge (pc := 29) (tgt := 54) dX4_findRests_29 (by decide) ⟨by omega, by omega⟩ ⟨by omega, by omega⟩ (fun h => ?_) (fun h => by omega)
    refine sv_aload_n (pc := 54) dX4_findRests_54 rfl rfl ?_
    refine mr_iconst (pc := 55) (z := 1) dX4_findRests_55 ?_
    refine pf_X4_10 (pc := 56) dX4_findRests_56 wF_X4_52 (A_94 hw) hT (by decide) fun μ1 u1 T1 => ?_
    exact mr_vretX dX4_findRests_59 rfl (by omega) (by omega) hw T1 (mX.fr hX (mF.up mF.refl (A_94 hw) u1 rfl : mF [94010] _ _ _) rfl) (rlQ.mk (u1.f (Or.inr (by decide)) q7) hn (u1.f (Or.inr (by decide)) q14) ⟨h1, hrc.2.2⟩ z1 z2)
  | succ k ih =>
    intro w μ L rc n b ce sl hk hw hT hX q9 q14 hrc hL hle q7 hA hn h1 hce hsl z1 z2
    have hnR := lnR (m := 93312) hn hA rfl
    refine mr_iload_n (pc := 24) (z := L) dX4_findRests_24 rfl rfl ?_
    refine sv_aload_n (pc := 25) dX4_findRests_25 rfl rfl ?_
    refine gk_X4_9 (pc := 26) dX4_findRests_26 wF_X4_59 (A_94 hw) q9 ?_
    refine mr_icmp_ge (pc := 29) (tgt := 54) dX4_findRests_29 (by decide) ⟨by omega, by omega⟩ ⟨by omega, by omega⟩ (fun h => ?_) (fun h => ?_)
    · refine sv_aload_n (pc := 54) dX4_findRests_54 rfl rfl ?_
      refine mr_iconst (pc := 55) (z := 1) dX4_findRests_55 ?_
      refine pf_X4_10 (pc := 56) dX4_findRests_56 wF_X4_52 (A_94 hw) hT (by decide) fun μ1 u1 T1 => ?_
      exact mr_vretX dX4_findRests_59 rfl (by omega) (by omega) hw T1 (mX.fr hX (mF.up mF.refl (A_94 hw) u1 rfl : mF [94010] _ _ _) rfl) (rlQ.mk (u1.f (Or.inr (by decide)) q7) hn (u1.f (Or.inr (by decide)) q14) ⟨h1, hrc.2.2⟩ z1 z2)
    · have tail : ∀ (w' : mW) (μ' : mM) (rc' n' : Int) (b' ce' sl' : Nat), mWF w' → mT w' μ' → mX frL w0 μ0 w' μ' → μ' 94 9 = S → μ' 94 14 = rc' → 0 ≤ rc' ∧ rc' ≤ L + 1 ∧ rc' ≤ n' → hasLe μ' L → μ' 94 7 = (b' : Int) → mAt w' b' 103 → (w'.2.2.1 b' : Int) = n' → 1 ≤ n' → (ce' : Int) ≤ n' → (sl' : Int) ≤ 2 * n' → (szW w' : Int) + 2 * n0 ≤ szW w0 + 2 * n' → (w'.1 : Int) + n0 ≤ w0.1 + n' → sV (gG l D c H0 sa) mX4_findRests (sRm 6 93312 186624) (sZ (gG l D c H0 sa) 93312 186624 (qVx w0 frL μ0 (rlQ w0 n0))) 44 [(1, iv L), (0, .ref 94)] [] (mk w' μ') ce' sl' := by
        intro w' μ' rc' n' b' ce' sl' hw' hT' hX' q9' q14' hrc' hle' q7' hA' hn' h1' hce' hsl' z1' z2'
        have hnR' := lnR (m := 93312) hn' hA' rfl
        refine sv_aload_n (pc := 44) dX4_findRests_44 rfl rfl ?_
        refine mr_cVV (pc := 45) (hcu w' μ' L hw' hT' ⟨by omega, by omega⟩ hle') (gOk _ _ _ _ _) dX4_findRests_45 (tX4_countUp _ _ _ _ _) ⟨wV_X4_countUp, wL_X4_countUp⟩ wM_X4_95 (gCX4 _ _ _ _ _) rfl (A_94 hw') rfl ⟨le_t rfl, le_t rfl⟩ ⟨show ce' ≤ 93312 by omega, show sl' ≤ 186624 by omega⟩ rfl (le_t rfl) fun μ2 T2 F2 P2 => ?_
        refine mr_iinc (pc := 48) (lv' := [(1, iv (L + 1)), (0, .ref 94)]) dX4_findRests_48 rfl (by decide) rfl ?_
        refine sv_goto (pc := 51) (tgt := 24) dX4_findRests_51 (by decide) ?_
        exact ih w' μ2 (L + 1) rc' n' b' ce' sl' (by omega) hw' T2 (mX.fr hX' F2 rfl) (F2.f (A_94 hw') rfl q9') (F2.f (A_94 hw') rfl q14') hrc' (by omega) P2.1 (F2.f (A_94 hw') rfl q7') hA' hn' h1' hce' hsl' z1' z2'
      refine sv_aload_n (pc := 32) dX4_findRests_32 rfl rfl ?_
      refine mr_cVP (pc := 33) (c_X4_isRest hw hT) (gOk _ _ _ _ _) dX4_findRests_33 (tX4_isRest _ _ _ _ _) ⟨wV_X4_isRest, wL_X4_isRest⟩ wM_X4_88 (gCX4 _ _ _ _ _) rfl (A_94 hw) rfl ⟨le_t rfl, le_t rfl⟩ ⟨show ce ≤ 93312 by omega, show sl ≤ 186624 by omega⟩ rfl (le_t rfl) fun z hz => ?_
      refine mr_if_eq (pc := 36) (tgt := 44) dX4_findRests_36 (by decide) (r32 hz.1 rfl) (fun _ => ?_) (fun _ => ?_)
      · exact tail w μ rc n b ce sl hw hT hX q9 q14 ⟨hrc.1, by omega, hrc.2.2⟩ hle q7 hA hn h1 hce hsl z1 z2
      · refine sv_aload_n (pc := 39) dX4_findRests_39 rfl rfl ?_
        refine mr_iload_n (pc := 40) (z := L) dX4_findRests_40 rfl rfl ?_
        by_cases hc : rc < n
        · refine mr_cVV (pc := 41) (c_X4_keepRest_a hw hT (p1 := L) ⟨by omega, by omega⟩ q14 q7 hA (by omega) (by rw [hn]; exact hc)) (gOk _ _ _ _ _) dX4_findRests_41 (tX4_keepRest _ _ _ _ _) ⟨wV_X4_keepRest, wL_X4_keepRest⟩ wM_X4_92 (gCX4 _ _ _ _ _) rfl (A_94 hw) rfl ⟨le_t rfl, le_t rfl⟩ ⟨show ce ≤ 93312 by omega, show sl ≤ 186624 by omega⟩ rfl (le_t rfl) fun μ2 T2 F2 P2 => ?_
          obtain ⟨o, qo, ho, _⟩ := P2
          exact tail w μ2 o n b ce sl hw T2 (mX.fr hX F2 rfl) (F2.f (A_94 hw) rfl q9) qo ⟨by omega, by omega, by omega⟩ (hle.keep hw F2 rfl) (F2.f (A_94 hw) rfl q7) hA hn h1 hce hsl z1 z2
        · refine mr_cVVX (pc := 41) (c_X4_keepRest_b hw hT (p1 := L) ⟨by omega, by omega⟩ q14 q7 hA (by omega) (by omega) (by rw [hn]; omega)) (gOk _ _ _ _ _) dX4_findRests_41 (tX4_keepRest _ _ _ _ _) ⟨wV_X4_keepRest, wL_X4_keepRest⟩ wM_X4_92 (gCX4 _ _ _ _ _) rfl (A_94 hw) rfl ⟨le_t rfl, le_t rfl⟩ ⟨show ce + 1 ≤ 93312 by omega, show sl + (2 * rc).toNat ≤ 186624 by omega⟩ rfl (le_t rfl) fun w2 μ2 hw2 T2 X2 P2 => ?_
          obtain ⟨o, qo, ho, hlen, ⟨hz, hz1⟩, _⟩ := P2
          obtain ⟨b2, q2, hA2⟩ := refE (T2 94 94 (A_94 hw2) 7)
          exact tail w2 μ2 o (2 * rc) b2 (ce + 1) (sl + (2 * rc).toNat) hw2 T2 (mX.trans hX X2 rfl) (X2.f (A_94 hw) rfl q9) qo ⟨by omega, by omega, by omega⟩ (hle.keepX hw X2 rfl) q2 hA2 (by rw [q2] at hlen; exact hlen) (by omega) (by omega) (by omega) (by omega) (by omega)
set_option maxRecDepth 4000 in
set_option maxHeartbeats 4000000 in
theorem c_X4_findRests {w : mW} {μ : mM} (hcu : cuP l D c H0 sa) (hw : mWF w) (hT : mT w μ) {br : Nat} (q_br : μ 94 7 = (br : Int)) (hA_br : mAt w br 103) (hb : rlP w μ) : sC (gG l D c H0 sa) mX4_findRests 6 93312 186624 [.ref 94] (mk w μ) (qVx w frL μ (rlQ w (w.2.2.1 br))) := by
  refine sC.of rfl (by decide) (le_t rfl) ?_
  have hb1 : 1 ≤ (w.2.2.1 br : Int) := by have h := hb.1; rw [lenX q_br rfl rfl] at h; exact h
  refine mr_lvE (lv' := [(0, .ref 94)]) rfl ?_
  refine sv_aload_n (pc := 0) dX4_findRests_0 rfl rfl ?_
  refine gf_X4_10 (pc := 1) dX4_findRests_1 wF_X4_52 (A_94 hw) hT fun z qz hz => ?_
  refine mr_if_eq (pc := 4) (tgt := 8) dX4_findRests_4 (by decide) (r32 hz rfl) (fun _ => ?_) (fun _ => ?_)
  · refine sv_aload_n (pc := 8) dX4_findRests_8 rfl rfl ?_
    refine mr_cVV (pc := 9) (c_X4_prepare hw hT) (gOk _ _ _ _ _) dX4_findRests_9 (tX4_prepare _ _ _ _ _) ⟨wV_X4_prepare, wL_X4_prepare⟩ wM_X4_79 (gCX4 _ _ _ _ _) rfl (A_94 hw) rfl ⟨le_t rfl, le_t rfl⟩ ⟨le_t rfl, le_t rfl⟩ rfl (le_t rfl) fun μ1 T1 F1 P1 => ?_
    obtain ⟨S, qS, hS1, hrx, _⟩ := P1
    have hSR : 0 ≤ S ∧ S ≤ 46656 := by rw [← qS]; exact T1 94 94 (A_94 hw) 9
    refine sv_aload_n (pc := 12) dX4_findRests_12 rfl rfl ?_
    refine mr_iconst (pc := 13) (z := 0) dX4_findRests_13 ?_
    refine pf_X4_14 (pc := 14) dX4_findRests_14 wF_X4_82 (A_94 hw) T1 (by decide) fun μ2 u2 T2 => ?_
    have F2 : mF [94014] w μ1 μ2 := mF.up mF.refl (A_94 hw) u2 rfl
    have rx2 : radix μ2 100 95 (μ1 94 9) := hrx.keep F2 (A_100 hw) (A_95 hw) (fun _ => rfl) (fun _ => rfl)
    refine sv_aload_n (pc := 17) dX4_findRests_17 rfl rfl ?_
    refine mr_iconst (pc := 18) (z := 0) dX4_findRests_18 ?_
    refine mr_cVV (pc := 19) (c_X4_unfold_r hw T2 (p1 := 0) (by decide) rfl rfl rfl rfl rfl rfl rfl rfl rfl rfl rfl rfl rx2.1.1 rx2.2.1.1 rx2.2.2.1.1 rx2.2.2.2.1.1 rx2.2.2.2.2.1.1 rx2.2.2.2.2.2.1) (gOk _ _ _ _ _) dX4_findRests_19 (tX4_unfold _ _ _ _ _) ⟨wV_X4_unfold, wL_X4_unfold⟩ wM_X4_85 (gCX4 _ _ _ _ _) rfl (A_94 hw) rfl ⟨le_t rfl, le_t rfl⟩ ⟨le_t rfl, le_t rfl⟩ rfl (le_t rfl) fun μ3 T3 F3 P3 => ?_
    refine mr_iconst (pc := 22) (z := 0) dX4_findRests_22 ?_
    refine mr_istore_n (pc := 23) (lv' := [(1, iv 0), (0, .ref 94)]) dX4_findRests_23 rfl (by decide) rfl ?_
    exact lp_X4_findRests hcu hSR.2 S.toNat w μ3 0 0 _ br 0 0 (by omega) hw T3 (mX.fr (mX.fr (mX.fr mX.refl F1 rfl) F2 rfl) F3 rfl) (F3.f (A_94 hw) rfl (F2.f (A_94 hw) rfl qS)) (F3.f (A_94 hw) rfl u2.1) ⟨by decide, by decide, by omega⟩ (by omega) P3.1.le0 (F3.f (A_94 hw) rfl (F2.f (A_94 hw) rfl (F1.f (A_94 hw) rfl q_br))) hA_br rfl hb1 (by omega) (by omega) (Int.le_refl _) (Int.le_refl _)
  · exact mr_vretX dX4_findRests_7 rfl (le_t rfl) (le_t rfl) hw hT mX.refl (rlQ.refl hb q_br)
end MV28
