section
theorem vc_X4_keepRest_b_2 {f_rc : Int} (h0 : f_rc ≤ 46655) (h1 : 1 ≤ f_rc) (h2 : 1 ≤ f_rc ∧ f_rc ≤ 46656) : 1 ≤ f_rc ∧ f_rc ≤ 46655 := by omega
theorem vc_X4_keepRest_b_3 {f_rc n_90 : Int} (h0 : f_rc < n_90) (h1 : 1 ≤ f_rc) (h2 : f_rc ≤ 46655) (h3 : n_90 ≤ f_rc) (h4 : 1 ≤ f_rc ∧ f_rc ≤ 46655) (h5 : 0 ≤ n_90 ∧ n_90 ≤ 93312) : False := by omega
theorem vc_X4_keepRest_b_4 {f_rc n_90 : Int} (h0 : n_90 ≤ f_rc) (h1 : 1 ≤ f_rc) (h2 : f_rc ≤ 46655) (h3 : 1 ≤ f_rc ∧ f_rc ≤ 46655) (h4 : 0 ≤ n_90 ∧ n_90 ≤ 93312) : 0 ≤ n_90 ∧ n_90 ≤ 46655 := by omega
theorem vc_X4_keepRest_b_5 {f_rc n_90 : Int} (h0 : 1 ≤ f_rc) (h1 : f_rc ≤ 46655) (h2 : n_90 ≤ f_rc) (h3 : 1 ≤ f_rc ∧ f_rc ≤ 46655) (h4 : 0 ≤ n_90 ∧ n_90 ≤ 46655) : n_90 < (2 * f_rc) ∧ (2 * f_rc) ≤ 93312 := by omega
theorem vc_X4_keepRest_b_7 {f_rc n_108 n_90 : Int} (h0 : 1 ≤ f_rc) (h1 : f_rc ≤ 46655) (h2 : n_90 ≤ f_rc) (h3 : n_108 = (2 * f_rc)) (h4 : 1 ≤ f_rc ∧ f_rc ≤ 46655) (h5 : 0 ≤ n_108 ∧ n_108 ≤ 93312) (h6 : 0 ≤ n_90 ∧ n_90 ≤ 46655) : 0 ≤ f_rc ∧ f_rc < n_108 := by omega
theorem vc_X4_keepRest_b_8 {f_rc n_108 n_90 : Int} (h0 : 1 ≤ f_rc) (h1 : f_rc ≤ 46655) (h2 : n_90 ≤ f_rc) (h3 : n_108 = (2 * f_rc)) (h4 : 1 ≤ f_rc ∧ f_rc ≤ 46655) (h5 : 0 ≤ n_108 ∧ n_108 ≤ 93312) (h6 : 0 ≤ n_90 ∧ n_90 ≤ 46655) : (f_rc + 1) = f_rc + 1 := by omega
theorem vc_X4_keepRest_b_9 {f_rc n_108 n_90 : Int} (h0 : 1 ≤ f_rc) (h1 : f_rc ≤ 46655) (h2 : n_90 ≤ f_rc) (h3 : n_108 = (2 * f_rc)) (h4 : 1 ≤ f_rc ∧ f_rc ≤ 46655) (h5 : 0 ≤ n_108 ∧ n_108 ≤ 93312) (h6 : 0 ≤ n_90 ∧ n_90 ≤ 46655) : n_108 = 2 * f_rc := by omega
set_option maxRecDepth 4000 in
set_option maxHeartbeats 4000000 in
theorem c_X4_keepRest_b {l : Launch} {D : va_G} {c : Nat → ClassId} {H0 : Heap} {sa : Nat × Nat × (Nat → Int32)} {w_0 : mW} {μ : mM} (hw_0 : mWF w_0) (hT : mT w_0 μ) {p1 : Int} (hp1 : 0 ≤ p1 ∧ p1 ≤ 46655) {f_rc : Int} (q_f_rc : μ 94 14 = f_rc) {br : Nat} (q_br : μ 94 7 = (br : Int)) (hA_br : mAt w_0 br 103) (hq0 : 1 ≤ f_rc) (hq1 : f_rc ≤ 46655) (hix : (w_0.2.2.1 br : Int) ≤ f_rc) : sC (gG l D c H0 sa) mX4_keepRest 4 1 (2 * f_rc).toNat [.ref 94, iv p1] (mk w_0 μ) (qVx w_0 [94007, 94014, 103999] μ (fun w1 μ1 => ∃ o_rc : Int, μ1 94 14 = o_rc ∧ (o_rc = f_rc + 1) ∧ ((w1.2.2.1 (μ1 94 7).toNat : Int) = 2 * f_rc) ∧ (((szW w1 : Int) = szW w_0 + 2 * f_rc ∧ w1.1 = w_0.1 + 1)) ∧ True)) := by
  refine sC.of rfl (by decide) (le_t rfl) ?_
  have ht_f_rc : (0 ≤ f_rc ∧ f_rc ≤ 46656) := by rw [← q_f_rc]; exact hT 94 94 (A_94 hw_0) 14
  have h1 : 1 ≤ f_rc ∧ f_rc ≤ 46656 := (vc_X12_open_1 hq0 ht_f_rc)
  have h2 : 1 ≤ f_rc ∧ f_rc ≤ 46655 := (vc_X4_keepRest_b_2 hq1 hq0 h1)
  refine mr_lvE (lv' := [(0, .ref 94), (1, iv p1)]) rfl ?_
  obtain ⟨n_90, q91⟩ : ∃ n : Int, (w_0.2.2.1 br : Int) = n := ⟨_, rfl⟩
  have h92 : 0 ≤ n_90 ∧ n_90 ≤ 93312 := lnR (m := 93312) q91 hA_br rfl
  have h93 : n_90 ≤ f_rc := by rw [← q91]; exact hix
  refine sv_aload_n (pc := 0) dX4_keepRest_0 rfl rfl ?_
  refine gk_X4_14 (pc := 1) dX4_keepRest_1 wF_X4_82 (A_94 hw_0) q_f_rc ?_
  refine sv_aload_n (pc := 4) dX4_keepRest_4 rfl rfl ?_
  refine gk_X4_7 (pc := 5) dX4_keepRest_5 wF_X4_36 (A_94 hw_0) q_br ?_
  refine mr_alen (pc := 8) (kd := 0) dX4_keepRest_8 rfl hA_br rfl q91 ?_
  refine mr_icmp_lt (pc := 9) (tgt := 29) dX4_keepRest_9 (by decide) (r32 h2 rfl) (r32 h92 rfl) (fun h => ((vc_X4_keepRest_b_3 h hq0 hq1 h93 h2 h92)).elim) (fun h94 => ?_)
  have h95 : 0 ≤ n_90 ∧ n_90 ≤ 46655 := (vc_X4_keepRest_b_4 h94 hq0 hq1 h2 h92)
  refine sv_aload_n (pc := 12) dX4_keepRest_12 rfl rfl ?_
  refine sv_aload_n (pc := 13) dX4_keepRest_13 rfl rfl ?_
  refine gk_X4_7 (pc := 14) dX4_keepRest_14 wF_X4_36 (A_94 hw_0) q_br ?_
  refine mr_iconst (pc := 17) (z := 2) dX4_keepRest_17 ?_
  refine sv_aload_n (pc := 18) dX4_keepRest_18 rfl rfl ?_
  refine gk_X4_14 (pc := 19) dX4_keepRest_19 wF_X4_82 (A_94 hw_0) q_f_rc ?_
  refine mr_imul (pc := 22) (x := 2) (y := f_rc) dX4_keepRest_22 ?_
  refine mr_copyG (pc := 23) (s := 103) (x := (2 * f_rc)) (gOk _ _ _ _ _) dX4_keepRest_23 wM_X4_98 hA_br rfl (show (w_0.2.2.1 br : Int) < (2 * f_rc) ∧ (2 * f_rc) ≤ ((mLen 103 : Nat) : Int) from (by rw [q91]; exact (vc_X4_keepRest_b_5 hq0 hq1 h93 h2 h95))) (le_t rfl) rfl hT (fun _ => (show (0 : Int) ≤ 0 ∧ (0 : Int) ≤ 46655 from by decide)) (fun _ h => h) ⟨le_t rfl, le_t rfl⟩ (le_t rfl) (show 0 + (2 * f_rc).toNat ≤ (2 * f_rc).toNat by omega) (le_t rfl) fun w_96 μ98 X99 T100 A101 e102 q103 c104 v105 => ?_
  have hw_97 : mWF w_96 := mWF.ext X99.1 hw_0
  have A106 : mAt w_96 br 103 := (hA_br).ext X99.1
  have q107 := X99.len hA_br q91
  obtain ⟨n_108, q109⟩ : ∃ n : Int, (w_96.2.2.1 w_0.1 : Int) = n := ⟨_, rfl⟩
  have h110 : 0 ≤ n_108 ∧ n_108 ≤ 93312 := lnR (m := 93312) q109 A101 rfl
  have h111 : n_108 = (2 * f_rc) := q109.symm.trans q103
  refine pf_X4_7 (pc := 26) dX4_keepRest_26 wF_X4_36 (A_94 hw_97) T100 A101 fun μ112 u113 T114 => ?_
  refine sv_aload_n (pc := 29) dX4_keepRest_29 rfl rfl ?_
  refine gk_X4_7 (pc := 30) dX4_keepRest_30 wF_X4_36 (A_94 hw_97) u113.1 ?_
  refine sv_aload_n (pc := 33) dX4_keepRest_33 rfl rfl ?_
  refine gk_X4_14 (pc := 34) dX4_keepRest_34 wF_X4_82 (A_94 hw_97) (u113.f (Or.inr (by decide)) (X99.f (A_94 hw_0) rfl q_f_rc)) ?_
  refine mr_iload_n (pc := 37) (z := p1) dX4_keepRest_37 rfl rfl ?_
  refine ss_103 (pc := 38) dX4_keepRest_38 A101 T114 (lnC q109 (vc_X4_keepRest_b_7 hq0 hq1 h93 h111 h2 h110 h95)) hp1 fun μ115 u116 T117 => ?_
  refine sv_aload_n (pc := 39) dX4_keepRest_39 rfl rfl ?_
  refine sv_dup (pc := 40) dX4_keepRest_40 rfl ?_
  refine gk_X4_14 (pc := 41) dX4_keepRest_41 wF_X4_82 (A_94 hw_97) (u116.f (Or.inl (mAt.ne A101 (A_94 hw_97) rfl)) (u113.f (Or.inr (by decide)) (X99.f (A_94 hw_0) rfl q_f_rc))) ?_
  refine mr_iconst (pc := 44) (z := 1) dX4_keepRest_44 ?_
  refine mr_iadd (pc := 45) (x := f_rc) (y := 1) dX4_keepRest_45 ?_
  refine pf_X4_14 (pc := 46) dX4_keepRest_46 wF_X4_82 (A_94 hw_97) T117 (rW (c := 0) (d := 46656) (rAdd (e := 2) (f := 46656) h2 (rR (x := 1)) rfl) rfl) fun μ118 u119 T120 => ?_
  exact mr_vretX dX4_keepRest_49 rfl (le_t rfl) (show 0 + (2 * f_rc).toNat ≤ (2 * f_rc).toNat by omega) hw_97 T120 (mX.fr (mX.fr (mX.fr (mX.trans mX.refl X99 rfl) (mF.up mF.refl (A_94 hw_97) u113 rfl : mF [94007] _ _ _) rfl) (mF.up mF.refl A101 u116 rfl : mF [103999] _ _ _) rfl) (mF.up mF.refl (A_94 hw_97) u119 rfl : mF [94014] _ _ _) rfl) ⟨(f_rc + 1), u119.1, (vc_X4_keepRest_b_8 hq0 hq1 h93 h111 h2 h110 h95), (lenX (u119.f (Or.inr (by decide)) (u116.f (Or.inl (mAt.ne A101 (A_94 hw_97) rfl)) u113.1)) q109 (vc_X4_keepRest_b_9 hq0 hq1 h93 h111 h2 h110 h95)), ⟨szW.new X99.1 e102 A101 rfl q103, e102⟩, trivial⟩
end
section
/-! The class's rests: the loop whose world grows. -/
theorem digs.le0 {μ : mM} {a v : Nat} (g : digs μ 101 a v 0) : hasLe μ 0 := fun i h1 h2 => by
  have d := g.at (p := (i : Int)) ⟨by omega, by omega⟩
  unfold dig at d
  rw [Int.zero_ediv, Int.zero_emod] at d
  have e : ((i : Int)).toNat = i := rfl
  rw [e] at d; omega
theorem hasLe.keepX {l : List Nat} {w w1 : mW} {μ μ1 : mM} {n : Int} (h : hasLe μ n) (hw : mWF w) (hX : mX l w μ w1 μ1) (hl : l.elem 101999 = false) : hasLe μ1 n := fun i h1 hi => by
  rw [hX.f (z := μ 101 i) (A_101 hw) hl rfl]; exact h i h1 hi
theorem dX4_findRests_0 : decode cX4_findRests 0 = .ok (.aload_n 0, 1) := dc0 dO_42 (by decide +kernel)
theorem dX4_findRests_1 : decode cX4_findRests 1 = .ok (.getfield 52, 3) := dcU2 dO_180 (by decide +kernel)
theorem dX4_findRests_4 : decode cX4_findRests 4 = .ok (.ifCond .eq 4, 3) := dcS2 dO_153 (by decide +kernel)
theorem dX4_findRests_7 : decode cX4_findRests 7 = .ok (.return_, 1) := dc0 dO_177 (by decide +kernel)
theorem dX4_findRests_8 : decode cX4_findRests 8 = .ok (.aload_n 0, 1) := dc0 dO_42 (by decide +kernel)
theorem dX4_findRests_9 : decode cX4_findRests 9 = .ok (.invokevirtual 79, 3) := dcU2 dO_182 (by decide +kernel)
theorem dX4_findRests_12 : decode cX4_findRests 12 = .ok (.aload_n 0, 1) := dc0 dO_42 (by decide +kernel)
theorem dX4_findRests_13 : decode cX4_findRests 13 = .ok (.iconst 0, 1) := dc0 dO_3 (by decide +kernel)
theorem dX4_findRests_14 : decode cX4_findRests 14 = .ok (.putfield 82, 3) := dcU2 dO_181 (by decide +kernel)
theorem dX4_findRests_17 : decode cX4_findRests 17 = .ok (.aload_n 0, 1) := dc0 dO_42 (by decide +kernel)
theorem dX4_findRests_18 : decode cX4_findRests 18 = .ok (.iconst 0, 1) := dc0 dO_3 (by decide +kernel)
theorem dX4_findRests_19 : decode cX4_findRests 19 = .ok (.invokevirtual 85, 3) := dcU2 dO_182 (by decide +kernel)
theorem dX4_findRests_22 : decode cX4_findRests 22 = .ok (.iconst 0, 1) := dc0 dO_3 (by decide +kernel)
theorem dX4_findRests_23 : decode cX4_findRests 23 = .ok (.istore_n 1, 1) := dc0 dO_60 (by decide +kernel)
theorem dX4_findRests_24 : decode cX4_findRests 24 = .ok (.iload_n 1, 1) := dc0 dO_27 (by decide +kernel)
theorem dX4_findRests_25 : decode cX4_findRests 25 = .ok (.aload_n 0, 1) := dc0 dO_42 (by decide +kernel)
theorem dX4_findRests_26 : decode cX4_findRests 26 = .ok (.getfield 59, 3) := dcU2 dO_180 (by decide +kernel)
theorem dX4_findRests_29 : decode cX4_findRests 29 = .ok (.if_icmp .ge 25, 3) := dcS2 dO_162 (by decide +kernel)
theorem dX4_findRests_32 : decode cX4_findRests 32 = .ok (.aload_n 0, 1) := dc0 dO_42 (by decide +kernel)
theorem dX4_findRests_33 : decode cX4_findRests 33 = .ok (.invokevirtual 88, 3) := dcU2 dO_182 (by decide +kernel)
theorem dX4_findRests_36 : decode cX4_findRests 36 = .ok (.ifCond .eq 8, 3) := dcS2 dO_153 (by decide +kernel)
theorem dX4_findRests_39 : decode cX4_findRests 39 = .ok (.aload_n 0, 1) := dc0 dO_42 (by decide +kernel)
theorem dX4_findRests_40 : decode cX4_findRests 40 = .ok (.iload_n 1, 1) := dc0 dO_27 (by decide +kernel)
theorem dX4_findRests_41 : decode cX4_findRests 41 = .ok (.invokevirtual 92, 3) := dcU2 dO_182 (by decide +kernel)
theorem dX4_findRests_44 : decode cX4_findRests 44 = .ok (.aload_n 0, 1) := dc0 dO_42 (by decide +kernel)
theorem dX4_findRests_45 : decode cX4_findRests 45 = .ok (.invokevirtual 95, 3) := dcU2 dO_182 (by decide +kernel)
theorem dX4_findRests_48 : decode cX4_findRests 48 = .ok (.iinc 1 1, 3) := dcI dO_132 (by decide +kernel)
theorem dX4_findRests_51 : decode cX4_findRests 51 = .ok (.goto (-27), 3) := dcS2 dO_167 (by decide +kernel)
theorem dX4_findRests_54 : decode cX4_findRests 54 = .ok (.aload_n 0, 1) := dc0 dO_42 (by decide +kernel)
theorem dX4_findRests_55 : decode cX4_findRests 55 = .ok (.iconst 1, 1) := dc0 dO_4 (by decide +kernel)
theorem dX4_findRests_56 : decode cX4_findRests 56 = .ok (.putfield 52, 3) := dcU2 dO_181 (by decide +kernel)
theorem dX4_findRests_59 : decode cX4_findRests 59 = .ok (.return_, 1) := dc0 dO_177 (by decide +kernel)
/-- what the rests' loop may change -/
abbrev frL : List Nat := [94007, 94009, 94010, 94014, 98999, 99999, 100999, 101999, 103999]
/-- the rests' row has place for what is counted -/
def rlP (w : mW) (μ : mM) : Prop := 1 ≤ (w.2.2.1 (μ 94 7).toNat : Int) ∧ μ 94 14 ≤ (w.2.2.1 (μ 94 7).toNat : Int)
theorem rlP.mk {w : mW} {μ : mM} {b : Nat} {n x : Int} (q : μ 94 7 = (b : Int)) (hn : (w.2.2.1 b : Int) = n) (qx : μ 94 14 = x) (h : 1 ≤ n ∧ x ≤ n) : rlP w μ := by
  unfold rlP
  rw [lenX q hn rfl, qx]; exact h
/-- .. and memory grew no more than that row -/
def rlQ (w0 : mW) (n0 : Int) (w : mW) (μ : mM) : Prop := rlP w μ ∧ (szW w : Int) + 2 * n0 ≤ szW w0 + 2 * (w.2.2.1 (μ 94 7).toNat : Int) ∧ (w.1 : Int) + n0 ≤ w0.1 + (w.2.2.1 (μ 94 7).toNat : Int)
theorem rlQ.mk {w0 w : mW} {μ : mM} {b : Nat} {n0 n x : Int} (q : μ 94 7 = (b : Int)) (hn : (w.2.2.1 b : Int) = n) (qx : μ 94 14 = x) (h : 1 ≤ n ∧ x ≤ n) (h1 : (szW w : Int) + 2 * n0 ≤ szW w0 + 2 * n) (h2 : (w.1 : Int) + n0 ≤ w0.1 + n) : rlQ w0 n0 w μ := ⟨rlP.mk q hn qx h, by rw [lenX q hn rfl]; exact h1, by rw [lenX q hn rfl]; exact h2⟩
theorem rlQ.refl {w : mW} {μ : mM} {b : Nat} (h : rlP w μ) (q : μ 94 7 = (b : Int)) : rlQ w (w.2.2.1 b) w μ := ⟨h, by rw [lenX q rfl rfl]; exact Int.le_refl _, by rw [lenX q rfl rfl]; exact Int.le_refl _⟩
section MV28
variable {l : Launch} {D : va_G} {c : Nat → ClassId} {H0 : Heap} {sa : Nat × Nat × (Nat → Int32)}
/-- what countUp keeps -/
def cuP (l : Launch) (D : va_G) (c : Nat → ClassId) (H0 : Heap) (sa : Nat × Nat × (Nat → Int32)) : Prop := ∀ (w : mW) (μ : mM) (g1 : Int), mWF w → mT w μ → 0 ≤ g1 ∧ g1 ≤ 46655 → hasLe μ g1 → sC (gG l D c H0 sa) mX4_countUp 1 0 0 [.ref 94] (mk w μ) (qV w [101999] μ (fun μ1 => hasLe μ1 (g1 + 1) ∧ True))
set_option maxRecDepth 4000 in
set_option maxHeartbeats 4000000 in
theorem lp_X4_findRests {w0 : mW} {μ0 : mM} {S n0 : Int} (hcu : cuP l D c H0 sa) (hS : S ≤ 46656) : ∀ (k : Nat) (w : mW) (μ : mM) (L rc n : Int) (b ce sl : Nat), S - L ≤ (k : Int) → mWF w → mT w μ → mX frL w0 μ0 w μ → μ 94 9 = S → μ 94 14 = rc → 0 ≤ rc ∧ rc ≤ L ∧ rc ≤ n → L ≤ S → hasLe μ L → μ 94 7 = (b : Int) → mAt w b 103 → (w.2.2.1 b : Int) = n → 1 ≤ n → (ce : Int) ≤ n → (sl : Int) ≤ 2 * n → (szW w : Int) + 2 * n0 ≤ szW w0 + 2 * n → (w.1 : Int) + n0 ≤ w0.1 + n → sV (gG l D c H0 sa) mX4_findRests (sRm 6 93312 186624) (sZ (gG l D c H0 sa) 93312 186624 (qVx w0 frL μ0 (rlQ w0 n0))) 24 [(1, iv L), (0, .ref 94)] [] (mk w μ) ce sl := by
  intro k
  induction k with
  | zero =>
    intro w μ L rc n b ce sl hk hw hT hX q9 q14 hrc hL hle q7 hA hn h1 hce hsl z1 z2
    have hnR := lnR (m := 93312) hn hA rfl
    refine mr_iload_n (pc := 24) (z := L) dX4_findRests_24 rfl rfl ?_
    refine sv_aload_n (pc := 25) dX4_findRests_25 rfl rfl ?_
    refine gk_X4_9 (pc := 26) dX4_findRests_26 wF_X4_59 (A_94 hw) q9 ?_
    refine mr_icmp_ge (pc := 29) (tgt := 54) dX4_findRests_29 (by decide) ⟨by omega, by omega⟩ ⟨by omega, by omega⟩ (fun h => ?_) (fun h => by omega)
    refine sv_aload_n (pc := 54) dX4_findRests_54 rfl rfl ?_
    refine mr_iconst (pc := 55) (z := 1) dX4_findRests_55 ?_
    refine pf_X4_10 (pc := 56) dX4_findRests_56 wF_X4_52 (A_94 hw) hT (by decide) fun μ1 u1 T1 => ?_
    exact mr_vretX dX4_findRests_59 rfl (by omega) (by omega) hw T1 (mX.fr hX (mF.up mF.refl (A_94 hw) u1 rfl : mF [94010] _ _ _) rfl) (rlQ.mk (u1.f (Or.inr (by decide)) q7) hn (u1.f (Or.inr (by decide)) q14) ⟨h1, hrc.2.2⟩ z1 z2)
  | succ k ih =>
    intro w μ L rc n b ce sl hk hw hT hX q9 q14 hrc hL hle q7 hA hn h1 hce hsl z1 z2
    have hnR := lnR (m := 93312) hn hA rfl
    refine mr_iload_n (pc := 24) (z := L) dX4_findRests_24 rfl rfl ?_
    refine sv_aload_n (pc := 25) dX4_findRests_25 rfl rfl ?_
    refine gk_X4_9 (pc := 26) dX4_findRests_26 wF_X4_59 (A_94 hw) q9 ?_
    refine mr_icmp_ge (pc := 29) (tgt := 54) dX4_findRests_29 (by decide) ⟨by omega, by omega⟩ ⟨by omega, by omega⟩ (fun h => ?_) (fun h => ?_)
    · refine sv_aload_n (pc := 54) dX4_findRests_54 rfl rfl ?_
      refine mr_iconst (pc := 55) (z := 1) dX4_findRests_55 ?_
      refine pf_X4_10 (pc := 56) dX4_findRests_56 wF_X4_52 (A_94 hw) hT (by decide) fun μ1 u1 T1 => ?_
      exact mr_vretX dX4_findRests_59 rfl (by omega) (by omega) hw T1 (mX.fr hX (mF.up mF.refl (A_94 hw) u1 rfl : mF [94010] _ _ _) rfl) (rlQ.mk (u1.f (Or.inr (by decide)) q7) hn (u1.f (Or.inr (by decide)) q14) ⟨h1, hrc.2.2⟩ z1 z2)
    · have tail : ∀ (w' : mW) (μ' : mM) (rc' n' : Int) (b' ce' sl' : Nat), mWF w' → mT w' μ' → mX frL w0 μ0 w' μ' → μ' 94 9 = S → μ' 94 14 = rc' → 0 ≤ rc' ∧ rc' ≤ L + 1 ∧ rc' ≤ n' → hasLe μ' L → μ' 94 7 = (b' : Int) → mAt w' b' 103 → (w'.2.2.1 b' : Int) = n' → 1 ≤ n' → (ce' : Int) ≤ n' → (sl' : Int) ≤ 2 * n' → (szW w' : Int) + 2 * n0 ≤ szW w0 + 2 * n' → (w'.1 : Int) + n0 ≤ w0.1 + n' → sV (gG l D c H0 sa) mX4_findRests (sRm 6 93312 186624) (sZ (gG l D c H0 sa) 93312 186624 (qVx w0 frL μ0 (rlQ w0 n0))) 44 [(1, iv L), (0, .ref 94)] [] (mk w' μ') ce' sl' := by
        intro w' μ' rc' n' b' ce' sl' hw' hT' hX' q9' q14' hrc' hle' q7' hA' hn' h1' hce' hsl' z1' z2'
        have hnR' := lnR (m := 93312) hn' hA' rfl
        refine sv_aload_n (pc := 44) dX4_findRests_44 rfl rfl ?_
        refine mr_cVV (pc := 45) (hcu w' μ' L hw' hT' ⟨by omega, by omega⟩ hle') (gOk _ _ _ _ _) dX4_findRests_45 (tX4_countUp _ _ _ _ _) ⟨wV_X4_countUp, wL_X4_countUp⟩ wM_X4_95 (gCX4 _ _ _ _ _) rfl (A_94 hw') rfl ⟨le_t rfl, le_t rfl⟩ ⟨show ce' ≤ 93312 by omega, show sl' ≤ 186624 by omega⟩ rfl (le_t rfl) fun μ2 T2 F2 P2 => ?_
        refine mr_iinc (pc := 48) (lv' := [(1, iv (L + 1)), (0, .ref 94)]) dX4_findRests_48 rfl (by decide) rfl ?_
        refine sv_goto (pc := 51) (tgt := 24) dX4_findRests_51 (by decide) ?_
        exact ih w' μ2 (L + 1) rc' n' b' ce' sl' (by omega) hw' T2 (mX.fr hX' F2 rfl) (F2.f (A_94 hw') rfl q9') (F2.f (A_94 hw') rfl q14') hrc' (by omega) P2.1 (F2.f (A_94 hw') rfl q7') hA' hn' h1' hce' hsl' z1' z2'
      refine sv_aload_n (pc := 32) dX4_findRests_32 rfl rfl ?_
      refine mr_cVP (pc := 33) (c_X4_isRest hw hT) (gOk _ _ _ _ _) dX4_findRests_33 (tX4_isRest _ _ _ _ _) ⟨wV_X4_isRest, wL_X4_isRest⟩ wM_X4_88 (gCX4 _ _ _ _ _) rfl (A_94 hw) rfl ⟨le_t rfl, le_t rfl⟩ ⟨show ce ≤ 93312 by omega, show sl ≤ 186624 by omega⟩ rfl (le_t rfl) fun z hz => ?_
      refine mr_if_eq (pc := 36) (tgt := 44) dX4_findRests_36 (by decide) (r32 hz.1 rfl) (fun _ => ?_) (fun _ => ?_)
      · exact tail w μ rc n b ce sl hw hT hX q9 q14 ⟨hrc.1, by omega, hrc.2.2⟩ hle q7 hA hn h1 hce hsl z1 z2
      · refine sv_aload_n (pc := 39) dX4_findRests_39 rfl rfl ?_
        refine mr_iload_n (pc := 40) (z := L) dX4_findRests_40 rfl rfl ?_
        by_cases hc : rc < n
        · refine mr_cVV (pc := 41) (c_X4_keepRest_a hw hT (p1 := L) ⟨by omega, by omega⟩ q14 q7 hA (by omega) (by rw [hn]; exact hc)) (gOk _ _ _ _ _) dX4_findRests_41 (tX4_keepRest _ _ _ _ _) ⟨wV_X4_keepRest, wL_X4_keepRest⟩ wM_X4_92 (gCX4 _ _ _ _ _) rfl (A_94 hw) rfl ⟨le_t rfl, le_t rfl⟩ ⟨show ce ≤ 93312 by omega, show sl ≤ 186624 by omega⟩ rfl (le_t rfl) fun μ2 T2 F2 P2 => ?_
          obtain ⟨o, qo, ho, _⟩ := P2
          exact tail w μ2 o n b ce sl hw T2 (mX.fr hX F2 rfl) (F2.f (A_94 hw) rfl q9) qo ⟨by omega, by omega, by omega⟩ (hle.keep hw F2 rfl) (F2.f (A_94 hw) rfl q7) hA hn h1 hce hsl z1 z2
        · refine mr_cVVX (pc := 41) (c_X4_keepRest_b hw hT (p1 := L) ⟨by omega, by omega⟩ q14 q7 hA (by omega) (by omega) (by rw [hn]; omega)) (gOk _ _ _ _ _) dX4_findRests_41 (tX4_keepRest _ _ _ _ _) ⟨wV_X4_keepRest, wL_X4_keepRest⟩ wM_X4_92 (gCX4 _ _ _ _ _) rfl (A_94 hw) rfl ⟨le_t rfl, le_t rfl⟩ ⟨show ce + 1 ≤ 93312 by omega, show sl + (2 * rc).toNat ≤ 186624 by omega⟩ rfl (le_t rfl) fun w2 μ2 hw2 T2 X2 P2 => ?_
          obtain ⟨o, qo, ho, hlen, ⟨hz, hz1⟩, _⟩ := P2
          obtain ⟨b2, q2, hA2⟩ := refE (T2 94 94 (A_94 hw2) 7)
          exact tail w2 μ2 o (2 * rc) b2 (ce + 1) (sl + (2 * rc).toNat) hw2 T2 (mX.trans hX X2 rfl) (X2.f (A_94 hw) rfl q9) qo ⟨by omega, by omega, by omega⟩ (hle.keepX hw X2 rfl) q2 hA2 (by rw [q2] at hlen; exact hlen) (by omega) (by omega) (by omega) (by omega) (by omega)
set_option maxRecDepth 4000 in
set_option maxHeartbeats 4000000 in
theorem c_X4_findRests {w : mW} {μ : mM} (hcu : cuP l D c H0 sa) (hw : mWF w) (hT : mT w μ) {br : Nat} (q_br : μ 94 7 = (br : Int)) (hA_br : mAt w br 103) (hb : rlP w μ) : sC (gG l D c H0 sa) mX4_findRests 6 93312 186624 [.ref 94] (mk w μ) (qVx w frL μ (rlQ w (w.2.2.1 br))) := by
  refine sC.of rfl (by decide) (le_t rfl) ?_
  have hb1 : 1 ≤ (w.2.2.1 br : Int) := by have h := hb.1; rw [lenX q_br rfl rfl] at h; exact h
  refine mr_lvE (lv' := [(0, .ref 94)]) rfl ?_
  refine sv_aload_n (pc := 0) dX4_findRests_0 rfl rfl ?_
  refine gf_X4_10 (pc := 1) dX4_findRests_1 wF_X4_52 (A_94 hw) hT fun z qz hz => ?_
  refine mr_if_eq (pc := 4) (tgt := 8) dX4_findRests_4 (by decide) (r32 hz rfl) (fun _ => ?_) (fun _ => ?_)
  · refine sv_aload_n (pc := 8) dX4_findRests_8 rfl rfl ?_
    refine mr_cVV (pc := 9) (c_X4_prepare hw hT) (gOk _ _ _ _ _) dX4_findRests_9 (tX4_prepare _ _ _ _ _) ⟨wV_X4_prepare, wL_X4_prepare⟩ wM_X4_79 (gCX4 _ _ _ _ _) rfl (A_94 hw) rfl ⟨le_t rfl, le_t rfl⟩ ⟨le_t rfl, le_t rfl⟩ rfl (le_t rfl) fun μ1 T1 F1 P1 => ?_
    obtain ⟨S, qS, hS1, hrx, _⟩ := P1
    have hSR : 0 ≤ S ∧ S ≤ 46656 := by rw [← qS]; exact T1 94 94 (A_94 hw) 9
    refine sv_aload_n (pc := 12) dX4_findRests_12 rfl rfl ?_
    refine mr_iconst (pc := 13) (z := 0) dX4_findRests_13 ?_
    refine pf_X4_14 (pc := 14) dX4_findRests_14 wF_X4_82 (A_94 hw) T1 (by decide) fun μ2 u2 T2 => ?_
    have F2 : mF [94014] w μ1 μ2 := mF.up mF.refl (A_94 hw) u2 rfl
    have rx2 : radix μ2 100 95 (μ1 94 9) := hrx.keep F2 (A_100 hw) (A_95 hw) (fun _ => rfl) (fun _ => rfl)
    refine sv_aload_n (pc := 17) dX4_findRests_17 rfl rfl ?_
    refine mr_iconst (pc := 18) (z := 0) dX4_findRests_18 ?_
    refine mr_cVV (pc := 19) (c_X4_unfold_r hw T2 (p1 := 0) (by decide) rfl rfl rfl rfl rfl rfl rfl rfl rfl rfl rfl rfl rx2.1.1 rx2.2.1.1 rx2.2.2.1.1 rx2.2.2.2.1.1 rx2.2.2.2.2.1.1 rx2.2.2.2.2.2.1) (gOk _ _ _ _ _) dX4_findRests_19 (tX4_unfold _ _ _ _ _) ⟨wV_X4_unfold, wL_X4_unfold⟩ wM_X4_85 (gCX4 _ _ _ _ _) rfl (A_94 hw) rfl ⟨le_t rfl, le_t rfl⟩ ⟨le_t rfl, le_t rfl⟩ rfl (le_t rfl) fun μ3 T3 F3 P3 => ?_
    refine mr_iconst (pc := 22) (z := 0) dX4_findRests_22 ?_
    refine mr_istore_n (pc := 23) (lv' := [(1, iv 0), (0, .ref 94)]) dX4_findRests_23 rfl (by decide) rfl ?_
    exact lp_X4_findRests hcu hSR.2 S.toNat w μ3 0 0 _ br 0 0 (by omega) hw T3 (mX.fr (mX.fr (mX.fr mX.refl F1 rfl) F2 rfl) F3 rfl) (F3.f (A_94 hw) rfl (F2.f (A_94 hw) rfl qS)) (F3.f (A_94 hw) rfl u2.1) ⟨by decide, by decide, by omega⟩ (by omega) P3.1.le0 (F3.f (A_94 hw) rfl (F2.f (A_94 hw) rfl (F1.f (A_94 hw) rfl q_br))) hA_br rfl hb1 (by omega) (by omega) (Int.le_refl _) (Int.le_refl _)
  · exact mr_vretX dX4_findRests_7 rfl (le_t rfl) (le_t rfl) hw hT mX.refl (rlQ.refl hb q_br)
end MV28
end
section
/-! The class's answers on rests. -/
theorem dX11_rests_0 : decode cX11_rests 0 = .ok (.aload_n 0, 1) := dc0 dO_42 (by decide +kernel)
theorem dX11_rests_1 : decode cX11_rests 1 = .ok (.getfield 72, 3) := dcU2 dO_180 (by decide +kernel)
theorem dX11_rests_4 : decode cX11_rests 4 = .ok (.invokevirtual 411, 3) := dcU2 dO_182 (by decide +kernel)
theorem dX11_rests_7 : decode cX11_rests 7 = .ok (.aload_n 0, 1) := dc0 dO_42 (by decide +kernel)
theorem dX11_rests_8 : decode cX11_rests 8 = .ok (.getfield 72, 3) := dcU2 dO_180 (by decide +kernel)
theorem dX11_rests_11 : decode cX11_rests 11 = .ok (.getfield 414, 3) := dcU2 dO_180 (by decide +kernel)
theorem dX11_rests_14 : decode cX11_rests 14 = .ok (.ireturn, 1) := dc0 dO_172 (by decide +kernel)
theorem dX11_rest_0 : decode cX11_rest 0 = .ok (.aload_n 0, 1) := dc0 dO_42 (by decide +kernel)
theorem dX11_rest_1 : decode cX11_rest 1 = .ok (.getfield 72, 3) := dcU2 dO_180 (by decide +kernel)
theorem dX11_rest_4 : decode cX11_rest 4 = .ok (.invokevirtual 411, 3) := dcU2 dO_182 (by decide +kernel)
theorem dX11_rest_7 : decode cX11_rest 7 = .ok (.iload_n 1, 1) := dc0 dO_27 (by decide +kernel)
theorem dX11_rest_8 : decode cX11_rest 8 = .ok (.ifCond .lt 25, 3) := dcS2 dO_155 (by decide +kernel)
theorem dX11_rest_11 : decode cX11_rest 11 = .ok (.iload_n 1, 1) := dc0 dO_27 (by decide +kernel)
theorem dX11_rest_12 : decode cX11_rest 12 = .ok (.aload_n 0, 1) := dc0 dO_42 (by decide +kernel)
theorem dX11_rest_13 : decode cX11_rest 13 = .ok (.getfield 72, 3) := dcU2 dO_180 (by decide +kernel)
theorem dX11_rest_16 : decode cX11_rest 16 = .ok (.getfield 414, 3) := dcU2 dO_180 (by decide +kernel)
theorem dX11_rest_19 : decode cX11_rest 19 = .ok (.if_icmp .ge 14, 3) := dcS2 dO_162 (by decide +kernel)
theorem dX11_rest_22 : decode cX11_rest 22 = .ok (.iload_n 2, 1) := dc0 dO_28 (by decide +kernel)
theorem dX11_rest_23 : decode cX11_rest 23 = .ok (.iconst 1, 1) := dc0 dO_4 (by decide +kernel)
theorem dX11_rest_24 : decode cX11_rest 24 = .ok (.if_icmp .lt 9, 3) := dcS2 dO_161 (by decide +kernel)
theorem dX11_rest_27 : decode cX11_rest 27 = .ok (.iload_n 2, 1) := dc0 dO_28 (by decide +kernel)
theorem dX11_rest_28 : decode cX11_rest 28 = .ok (.bipush 7, 2) := dcS1 dO_16 (by decide +kernel)
theorem dX11_rest_30 : decode cX11_rest 30 = .ok (.if_icmp .lt 5, 3) := dcS2 dO_161 (by decide +kernel)
theorem dX11_rest_33 : decode cX11_rest 33 = .ok (.iconst (-1), 1) := dc0 dO_2 (by decide +kernel)
theorem dX11_rest_34 : decode cX11_rest 34 = .ok (.ireturn, 1) := dc0 dO_172 (by decide +kernel)
theorem dX11_rest_35 : decode cX11_rest 35 = .ok (.aload_n 0, 1) := dc0 dO_42 (by decide +kernel)
theorem dX11_rest_36 : decode cX11_rest 36 = .ok (.getfield 72, 3) := dcU2 dO_180 (by decide +kernel)
theorem dX11_rest_39 : decode cX11_rest 39 = .ok (.iload_n 1, 1) := dc0 dO_27 (by decide +kernel)
theorem dX11_rest_40 : decode cX11_rest 40 = .ok (.iload_n 2, 1) := dc0 dO_28 (by decide +kernel)
theorem dX11_rest_41 : decode cX11_rest 41 = .ok (.invokevirtual 417, 3) := dcU2 dO_182 (by decide +kernel)
theorem dX11_rest_44 : decode cX11_rest 44 = .ok (.ireturn, 1) := dc0 dO_172 (by decide +kernel)
section MV29
variable {l : Launch} {D : va_G} {c : Nat → ClassId} {H0 : Heap} {sa : Nat × Nat × (Nat → Int32)}
set_option maxRecDepth 4000 in
set_option maxHeartbeats 4000000 in
theorem c_X11_rests {w : mW} {μ : mM} (hcu : cuP l D c H0 sa) (hw : mWF w) (hT : mT w μ) (hb : rlP w μ) {b : Nat} (q7 : μ 94 7 = (b : Int)) (hA : mAt w b 103) : sC (gG l D c H0 sa) mX11_rests 7 93312 186624 [.ref 0] (mk w μ) (qIx w frL μ (fun z w1 μ1 => (-2147483648 ≤ z ∧ z ≤ 2147483647) ∧ rlQ w (w.2.2.1 b) w1 μ1)) := by
  refine sC.of rfl (by decide) (le_t rfl) ?_
  refine mr_lvE (lv' := [(0, .ref 0)]) rfl ?_
  refine sv_aload_n (pc := 0) dX11_rests_0 rfl rfl ?_
  refine gf_X11_9 (pc := 1) dX11_rests_1 wF_X11_72 (A_0 hw) hT ?_
  refine mr_cVVX (pc := 4) (c_X4_findRests hcu hw hT q7 hA hb) (gOk _ _ _ _ _) dX11_rests_4 (tX4_findRests _ _ _ _ _) ⟨wV_X4_findRests, wL_X4_findRests⟩ wM_X11_411 (gCX4 _ _ _ _ _) rfl (A_94 hw) rfl ⟨le_t rfl, le_t rfl⟩ ⟨le_t rfl, le_t rfl⟩ rfl (le_t rfl) fun w1 μ1 hw1 T1 X1 P1 => ?_
  refine sv_aload_n (pc := 7) dX11_rests_7 rfl rfl ?_
  refine gf_X11_9 (pc := 8) dX11_rests_8 wF_X11_72 (A_0 hw1) T1 ?_
  refine gf_X4_14 (pc := 11) dX11_rests_11 wF_X11_414 (A_94 hw1) T1 fun z qz hz => ?_
  exact mr_iretX dX11_rests_14 rfl (le_t rfl) (le_t rfl) hw1 T1 X1 ⟨r32 hz rfl, P1⟩
set_option maxRecDepth 4000 in
set_option maxHeartbeats 4000000 in
theorem c_X11_rest {w : mW} {μ : mM} (hcu : cuP l D c H0 sa) (hw : mWF w) (hT : mT w μ) (hb : rlP w μ) {b : Nat} (q7 : μ 94 7 = (b : Int)) (hA : mAt w b 103) {p1 p2 : Int} (hp1 : -2147483648 ≤ p1 ∧ p1 ≤ 2147483647) (hp2 : -2147483648 ≤ p2 ∧ p2 ≤ 2147483647) : sC (gG l D c H0 sa) mX11_rest 7 93312 186624 [.ref 0, iv p1, iv p2] (mk w μ) (qIx w frL μ (fun z w1 μ1 => (-2147483648 ≤ z ∧ z ≤ 2147483647) ∧ rlQ w (w.2.2.1 b) w1 μ1)) := by
  refine sC.of rfl (by decide) (le_t rfl) ?_
  refine mr_lvE (lv' := [(0, .ref 0), (1, iv p1), (2, iv p2)]) rfl ?_
  refine sv_aload_n (pc := 0) dX11_rest_0 rfl rfl ?_
  refine gf_X11_9 (pc := 1) dX11_rest_1 wF_X11_72 (A_0 hw) hT ?_
  refine mr_cVVX (pc := 4) (c_X4_findRests hcu hw hT q7 hA hb) (gOk _ _ _ _ _) dX11_rest_4 (tX4_findRests _ _ _ _ _) ⟨wV_X4_findRests, wL_X4_findRests⟩ wM_X11_411 (gCX4 _ _ _ _ _) rfl (A_94 hw) rfl ⟨le_t rfl, le_t rfl⟩ ⟨le_t rfl, le_t rfl⟩ rfl (le_t rfl) fun w1 μ1 hw1 T1 X1 P1 => ?_
  have none : sV (gG l D c H0 sa) mX11_rest (sRm 7 93312 186624) (sZ (gG l D c H0 sa) 93312 186624 (qIx w frL μ (fun z w1 μ1 => (-2147483648 ≤ z ∧ z ≤ 2147483647) ∧ rlQ w (w.2.2.1 b) w1 μ1))) 33 [(0, .ref 0), (1, iv p1), (2, iv p2)] [] (mk w1 μ1) (0 + 93312) (0 + 186624) := by
    refine mr_iconst (pc := 33) (z := -1) dX11_rest_33 ?_
    exact mr_iretX dX11_rest_34 rfl (le_t rfl) (le_t rfl) hw1 T1 X1 ⟨by decide, P1⟩
  refine mr_iload_n (pc := 7) (z := p1) dX11_rest_7 rfl rfl ?_
  refine mr_if_lt (pc := 8) (tgt := 33) dX11_rest_8 (by decide) hp1 (fun _ => none) (fun h1 => ?_)
  refine mr_iload_n (pc := 11) (z := p1) dX11_rest_11 rfl rfl ?_
  refine sv_aload_n (pc := 12) dX11_rest_12 rfl rfl ?_
  refine gf_X11_9 (pc := 13) dX11_rest_13 wF_X11_72 (A_0 hw1) T1 ?_
  refine gf_X4_14 (pc := 16) dX11_rest_16 wF_X11_414 (A_94 hw1) T1 fun z qz hz => ?_
  refine mr_icmp_ge (pc := 19) (tgt := 33) dX11_rest_19 (by decide) hp1 (r32 hz rfl) (fun _ => none) (fun h2 => ?_)
  refine mr_iload_n (pc := 22) (z := p2) dX11_rest_22 rfl rfl ?_
  refine mr_iconst (pc := 23) (z := 1) dX11_rest_23 ?_
  refine mr_icmp_lt (pc := 24) (tgt := 33) dX11_rest_24 (by decide) hp2 (by decide) (fun _ => none) (fun h3 => ?_)
  refine mr_iload_n (pc := 27) (z := p2) dX11_rest_27 rfl rfl ?_
  refine mr_bipush (pc := 28) (z := 7) dX11_rest_28 (by decide) ?_
  refine mr_icmp_lt (pc := 30) (tgt := 35) dX11_rest_30 (by decide) hp2 (by decide) (fun h4 => ?_) (fun _ => none)
  refine sv_aload_n (pc := 35) dX11_rest_35 rfl rfl ?_
  refine gf_X11_9 (pc := 36) dX11_rest_36 wF_X11_72 (A_0 hw1) T1 ?_
  refine mr_iload_n (pc := 39) (z := p1) dX11_rest_39 rfl rfl ?_
  refine mr_iload_n (pc := 40) (z := p2) dX11_rest_40 rfl rfl ?_
  obtain ⟨b1, q71, hA1⟩ := refE (T1 94 94 (A_94 hw1) 7)
  have hlen : z ≤ (w1.2.2.1 b1 : Int) := by have h := P1.1.2; rw [lenX q71 rfl rfl, qz] at h; exact h
  refine mr_cVP (pc := 41) (c_X4_wayInRest hw1 T1 (p1 := p1) (p2 := p2) ⟨by omega, by omega⟩ ⟨by omega, by omega⟩ q71 hA1 (by omega)) (gOk _ _ _ _ _) dX11_rest_41 (tX4_wayInRest _ _ _ _ _) ⟨wV_X4_wayInRest, wL_X4_wayInRest⟩ wM_X11_417 (gCX4 _ _ _ _ _) rfl (A_94 hw1) rfl ⟨le_t rfl, le_t rfl⟩ ⟨le_t rfl, le_t rfl⟩ rfl (le_t rfl) fun z2 hz2 => ?_
  exact mr_iretX dX11_rest_44 rfl (le_t rfl) (le_t rfl) hw1 T1 X1 ⟨hz2.1, P1⟩
end MV29
end
section
theorem cuAll {l : Launch} {D : va_G} {c : Nat → ClassId} {H0 : Heap} {sa : Nat × Nat × (Nat → Int32)} : cuP l D c H0 sa := fun _ _ _ hw hT h hl => c_X4_countUp hw hT h hl h.1
end
section
/-! A part of the heap as a heap of its own: contracts at addresses from 0 on, moved behind what stands. -/
def shv (k : Nat) : Value → Value
  | .ref a => .ref (k + a)
  | v => v
def shE (k : Nat) : sE → sE
  | .inl (kd, n, f) => .inl (kd, n, fun i => shv k (f i))
  | .inr (ci, fs) => .inr (ci, fs.map (shv k))
theorem rv_sh (b s k : Nat) (v : Value) : rv (b, s) (shv k v) = rv (b + k, s) v := by
  cases v <;> simp [rv, shv, Nat.add_assoc]
def shH (k : Nat) (f f2 : Nat → sE) : Nat → sE := fun j => if j < k then f j else shE k (f2 (j - k))
theorem vpV_sh (k : Nat) (fs : List Value) (j : Nat) : vp_V (fs.map (shv k)) j = shv k (vp_V fs j) := by
  simp only [vp_V, List.getD, List.getElem?_map]
  cases fs[j]? <;> rfl
theorem sAt.hold {g : sG} {i : Nat} {x : sE} {H H' : Heap} (h : sAt g i x H) (e : H'[sg_b g + i]? = H[sg_b g + i]?) : sAt g i x H' := by
  rcases x with ⟨kd, n, f⟩ | ⟨ci, fs⟩
  · obtain ⟨cA, ty, h1, h2⟩ := h
    exact ⟨cA, ty, h1, e.trans h2⟩
  · obtain ⟨r, h1, h2, cell, h3, h4⟩ := h
    exact ⟨r, h1, h2.kept e, cell, e.trans h3, h4⟩
theorem rv_fk (b b' : Nat × Nat) (k : Nat) : rv b (sg_fk k) = rv b' (sg_fk k) := by cases k <;> rfl
section SHIFT
variable {l : Launch} {D : va_G} {c : Nat → ClassId} {H0 H1 : Heap} {sa : Nat × Nat × (Nat → Int32)}
theorem sAt.sh {k i : Nat} {x : sE} {H : Heap} (hs : H1.size = H0.size + k) : sAt (gG l D c H0 sa) (k + i) (shE k x) H ↔ sAt (gG l D c H1 sa) i x H := by
  have e : ∀ v, rv (H0.size, sa.1) (shv k v) = rv (H1.size, sa.1) v := fun v => by rw [hs]; exact rv_sh _ _ _ v
  have ea : H0.size + (k + i) = H1.size + i := by omega
  rcases x with ⟨kd, n, f⟩ | ⟨ci, fs⟩
  · have ef : (fun j => rv (H0.size, sa.1) (shv k (f j))) = fun j => rv (H1.size, sa.1) (f j) := funext fun j => e _
    show (∃ cA ty, _ ∧ H[H0.size + (k + i)]? = some (arrV cA n (fun j => rv (H0.size, sa.1) (shv k (f j))))) ↔ (∃ cA ty, _ ∧ H[H1.size + i]? = some (arrV cA n (fun j => rv (H1.size, sa.1) (f j))))
    rw [ea, ef]
  · have ef : (fun j => rv (H0.size, sa.1) (vp_V (fs.map (shv k)) j)) = fun j => rv (H1.size, sa.1) (vp_V fs j) := funext fun j => by rw [vpV_sh]; exact e _
    show (∃ r : vw_C, _ ∧ t_OB (H0.size + (k + i)) _ _ _ H (fun j => rv (H0.size, sa.1) (vp_V (fs.map (shv k)) j)) ∧ ∃ cell : Cell, H[H0.size + (k + i)]? = some cell ∧ _) ↔ (∃ r : vw_C, _ ∧ t_OB (H1.size + i) _ _ _ H (fun j => rv (H1.size, sa.1) (vp_V fs j)) ∧ ∃ cell : Cell, H[H1.size + i]? = some cell ∧ _)
    rw [ea, ef]
theorem sC.shift {M : sM} {d C S k n2 : Nat} {av2 : List Value} {f f2 : Nat → sE} {Q : Option Value → sHp → Prop} (hf : ∀ j, j < n2 → f (k + j) = shE k (f2 j)) (h : ∀ H1, sC (gG l D c H1 sa) M d C S av2 (n2, f2) Q) :
    sC (gG l D c H0 sa) M d C S (av2.map (shv k)) (k + n2, f) (fun r hp => ∃ r2 n3 f3, Q r2 (n3, f3) ∧ r = r2.map (shv k) ∧ hp = (k + n3, shH k f f3)) := by
  intro p e ha hc hk s m args below hF h1 h2 h3
  obtain ⟨rfl, hR, hK⟩ := h2
  have hsz : s.heap.size = H0.size + (k + n2) := hR.1
  obtain ⟨H1, eH⟩ : ∃ H1 : Heap, H1 = s.heap.extract 0 (H0.size + k) := ⟨_, rfl⟩
  have hs1 : H1.size = H0.size + k := by rw [eH]; simp; omega
  have hx : ∀ q, q < H0.size + k → H1[q]? = s.heap[q]? := fun q hq => by
    rw [eH, Array.getElem?_extract]
    simp [hsz]; omega
  have hx0 : ∀ q, q < H0.size → H1[q]? = H0[q]? := fun q hq => (hx q (by omega)).trans (hR.2.2 q hq)
  have hR2 : sR (gG l D c H1 sa) (n2, f2) s.heap := by
    refine ⟨by show s.heap.size = H1.size + n2; omega, fun i hi => ?_, fun q hq => (hx q (by have : q < H1.size := hq; omega)).symm⟩
    have q := hR.2.1 (k + i) (by show k + i < k + n2; have : i < n2 := hi; omega)
    rw [show ((k + n2, f) : sHp).2 (k + i) = f (k + i) from rfl, hf i hi] at q
    exact (sAt.sh hs1).mp q
  have hK2 : sK (gG l D c H1 sa) s := by
    refine ⟨hK.1, hK.2.1, ?_, ?_⟩
    · obtain ⟨scr, g1, g2⟩ := hK.2.2.1
      exact ⟨scr, (hx0 _ (Array.getElem?_eq_some_iff.mp g1).1).trans g1, g2⟩
    · have hq : ∀ {P : Nat → Prop}, ∀ a : Nat, a < H0.size → ¬ P a → H1[a]? = H0[a]? := fun a g _ => hx0 a g
      obtain ⟨k1, k2, k3, k4, k5, k6, k7, k8, k9⟩ := hK.2.2.2
      exact ⟨k1, k2.kept hq, k3.kept hq, k4.kept hq, k5.kept hq, k6.kept hq, by
        have e : rv (sg_r (gG l D c H1 sa)) (sg_f (gG l D c H1 sa)) = rv (sg_r (gG l D c H0 sa)) (sg_f (gG l D c H0 sa)) := rv_fk _ _ _
        rw [e]; exact k7.kept hq, k8, k9⟩
  have ea : ((av2.map (shv k)).map (rv (sg_r (gG l D c H0 sa)))).toArray = (av2.map (rv (sg_r (gG l D c H1 sa)))).toArray := by
    congr 1
    rw [List.map_map]
    refine List.map_congr_left fun v _ => ?_
    show rv (H0.size, sa.1) (shv k v) = rv (H1.size, sa.1) v
    rw [hs1]; exact rv_sh _ _ _ v
  obtain ⟨n, o, a1, a2, a3, ⟨⟨r, hp', b1, b2, b3, b4⟩, L, a4, a5⟩⟩ := h H1 p e ha hc hk s m _ below hF h1 ⟨ea, hR2, hK2⟩ h3
  refine ⟨n, o, a1, a2, a3, ⟨⟨r.map (shv k), (k + hp'.1, shH k f hp'.2), ?_, ⟨r, hp'.1, hp'.2, b2, rfl, rfl⟩, ?_, hK.warm a4.2.1⟩, L, a4, fun q hq => Nat.le_trans (by show H0.size ≤ H1.size; omega) (a5 q hq)⟩⟩
  · rw [b1]
    cases r with
    | none => rfl
    | some v =>
      show Outcome.returned (some (rv (H1.size, sa.1) v)) = Outcome.returned (some (rv (H0.size, sa.1) (shv k v)))
      rw [rv_sh, hs1]
  · refine ⟨by have := b3.1; show _ = H0.size + (k + hp'.1); rw [show _ = H1.size + hp'.1 from this]; omega, fun i hi => ?_, fun q hq => ?_⟩
    · by_cases hik : i < k
      · rw [show ((k + hp'.1, shH k f hp'.2) : sHp).2 i = f i from if_pos hik]
        have g0 := hR.2.1 i (by show i < k + n2; omega)
        have ge : (stepsAlone p.tables e n s).heap[H0.size + i]? = s.heap[H0.size + i]? := (b3.2.2 _ (by show H0.size + i < H1.size; omega)).trans (hx _ (by omega))
        exact sAt.hold g0 ge
      · rw [show ((k + hp'.1, shH k f hp'.2) : sHp).2 i = shE k (hp'.2 (i - k)) from if_neg hik]
        have g1 := b3.2.1 (i - k) (by have : i < k + hp'.1 := hi; omega)
        have g2 := (sAt.sh (l := l) (D := D) (c := c) (sa := sa) (H0 := H0) hs1).mpr g1
        rw [show k + (i - k) = i by omega] at g2
        exact g2
    · have hq : q < H0.size := hq
      rw [b3.2.2 q (by show q < H1.size; omega)]
      exact hx0 q hq
end SHIFT
/-- cells that are alike: rows up to their lengths -/
def sEq (x y : sE) : Prop := match x, y with
  | .inl (kd, n, f), .inl (kd', n', f') => kd = kd' ∧ n = n' ∧ ∀ i, i < n → f i = f' i
  | .inr a, .inr b => a = b
  | _, _ => False
theorem arrV_eq {cA : ClassId} {n : Nat} {f f' : Nat → Value} (h : ∀ i, i < n → f i = f' i) : arrV cA n f = arrV cA n f' := by
  unfold arrV
  congr 1
  apply Array.ext
  · simp
  · intro i h1 h2
    simp at h1
    simp [h i h1]
theorem sAt.eqv {g : sG} {i : Nat} {x y : sE} {H : Heap} (e : sEq x y) (h : sAt g i x H) : sAt g i y H := by
  rcases x with ⟨kd, n, f⟩ | ⟨ci, fs⟩ <;> rcases y with ⟨kd', n', f'⟩ | ⟨ci', fs'⟩
  · obtain ⟨rfl, rfl, e⟩ := e
    obtain ⟨cA, ty, h1, h2⟩ := h
    exact ⟨cA, ty, h1, by rw [h2, arrV_eq (fun j hj => by rw [e j hj])]⟩
  · exact e.elim
  · exact e.elim
  · obtain ⟨rfl, rfl⟩ : ci = ci' ∧ fs = fs' := Prod.mk.injEq .. ▸ e
    exact h
theorem sv_heapE {g : sG} {M : sM} {R : Room} {Z : sZT} {pc : Nat} {lv : List (Nat × Value)} {st : List Value} {hp hp' : sHp} {ce sl : Nat} (h1 : hp.1 = hp'.1) (h2 : ∀ j, j < hp'.1 → sEq (hp.2 j) (hp'.2 j)) (k : sV g M R Z pc lv st hp' ce sl) : sV g M R Z pc lv st hp ce sl := by
  intro p e s m args below meth c H locs ls X r hl h
  exact k p e s m args below meth c H locs ls X ⟨by rw [← h1]; exact r.1, fun i hi => (r.2.1 i (by rw [h1]; exact hi)).eqv (h2 i hi), r.2.2⟩ hl h
theorem sv_lvG {g : sG} {M : sM} {R : Room} {Z : sZT} {pc : Nat} {lv lv' : List (Nat × Value)} {st : List Value} {hp : sHp} {ce sl : Nat} (h : ∀ q ∈ lv', sGet q.1 lv = some q.2) (k : sV g M R Z pc lv' st hp ce sl) : sV g M R Z pc lv st hp ce sl := sv_lv (fun q hq => sGet_mem (h q hq)) k
end
section
/-! A block of new cells: shapes and values; addresses in it are counted from its own start. -/
abbrev mB : Type := List (Nat × List Int × Int)
def bS (B : mB) (j : Nat) : Nat := (B.getD j (0, [], 0)).1
def bL (B : mB) (j : Nat) : List Int := (B.getD j (0, [], 0)).2.1
def bD (B : mB) (j : Nat) : Int := (B.getD j (0, [], 0)).2.2
def bV (B : mB) (j i : Nat) : Int := (bL B j).getD i (bD B j)
def mKd (s i : Nat) : Nat := match mTab s with
  | .inl (_, ks) => ks.getD i 0
  | .inr (_, k) => k
def shz (k : Nat) (kd : Nat) (z : Int) : Int := if 2 ≤ kd ∧ 0 ≤ z then z + k else z
def wBlk (w : mW) (B : mB) : mW := (w.1 + B.length, fun a => if a < w.1 then w.2.1 a else bS B (a - w.1), fun a => if a < w.1 then w.2.2.1 a else mLen (bS B (a - w.1)), w.2.2.2)
def mBlk (w : mW) (μ : mM) (B : mB) : mM := fun a i => if a < w.1 then μ a i else shz w.1 (mKd (bS B (a - w.1)) i) (bV B (a - w.1) i)
theorem shv_mv (k kd : Nat) (z : Int) : shv k (mv kd z) = mv kd (shz k kd z) := by
  match kd with
  | 0 => rfl
  | 1 => rfl
  | n + 2 =>
    show shv k (rf z) = rf (shz k (n + 2) z)
    by_cases h : z < 0
    · have e : shz k (n + 2) z = z := if_neg (fun q => by omega)
      rw [e]
      unfold rf
      rw [if_pos h]; rfl
    · have e : shz k (n + 2) z = z + k := if_pos ⟨by omega, by omega⟩
      rw [e]
      unfold rf
      rw [if_neg h, if_neg (by omega)]
      have e2 : k + z.toNat = (z + (k : Int)).toNat := by clear e; omega
      exact congrArg Value.ref e2
theorem mCell_sh (k s n : Nat) (m : Nat → Int) : shE k (mCell (mTab s) n m) = mCell (mTab s) n (fun i => shz k (mKd s i) (m i)) := by
  unfold mCell mKd
  rcases mTab s with ⟨ci, ks⟩ | ⟨kd, q⟩
  · show Sum.inr (ci, List.map (shv k) _) = Sum.inr (ci, _)
    rw [List.map_map]
    congr 2
    refine List.map_congr_left fun i _ => ?_
    exact shv_mv _ _ _
  · show Sum.inl (kd, n, fun i => shv k (mv q (m i))) = Sum.inl (kd, n, fun i => mv q (shz k q (m i)))
    congr 3
    funext i
    exact shv_mv _ _ _
def bBig (B : mB) : Bool := B.all fun x => Nat.blt 100 x.1
theorem wBlk.ext {w : mW} {B : mB} (hb : bBig B = true) : wE w (wBlk w B) := ⟨Nat.le_add_right _ _, fun a ha => ⟨if_pos ha, if_pos ha⟩, fun a h1 h2 => by
  rw [show (wBlk w B).2.1 a = bS B (a - w.1) from if_neg (Nat.not_lt.mpr h1)]
  have hj : a - w.1 < B.length := by have : a < w.1 + B.length := h2; omega
  unfold bS
  rw [List.getD_eq_getElem?_getD, List.getElem?_eq_getElem hj]
  exact Nat.le_of_ble_eq_true (List.all_eq_true.mp hb _ (List.getElem_mem hj))⟩
theorem mBlk.x {l : List Nat} {w : mW} {μ : mM} {B : mB} (hb : bBig B = true) : mX l w μ (wBlk w B) (mBlk w μ B) := ⟨wBlk.ext hb, fun a _ ha _ => if_pos ha⟩
theorem wBlk.at {w : mW} {B : mB} {j : Nat} (h : j < B.length) : mAt (wBlk w B) (w.1 + j) (bS B j) := by
  have e : ¬ w.1 + j < w.1 := by omega
  have ej : w.1 + j - w.1 = j := by omega
  have h1 : (wBlk w B).2.1 (w.1 + j) = bS B j := by show (if w.1 + j < w.1 then _ else _) = _; rw [if_neg e, ej]
  have h2 : (wBlk w B).2.2.1 (w.1 + j) = mLen (bS B j) := by show (if w.1 + j < w.1 then _ else _) = _; rw [if_neg e, ej]
  exact ⟨h1, Nat.add_lt_add_left h _, by rw [h2]; exact Nat.le_refl _, fun _ => h2⟩
theorem mBlk.at {w : mW} {μ : mM} {B : mB} {j i : Nat} : mBlk w μ B (w.1 + j) i = shz w.1 (mKd (bS B j) i) (bV B j i) := by
  have e : ¬ w.1 + j < w.1 := by omega
  have ej : w.1 + j - w.1 = j := by omega
  show (if w.1 + j < w.1 then _ else _) = _
  rw [if_neg e, ej]
/-- types, by reckoning -/
def bT (q : Bool) (B : mB) (j : Nat) (d : Nat × Int × Int) (kd : Nat) (z : Int) : Bool := match d.1 with
  | 0 => Nat.blt kd 2 && decide (d.2.1 ≤ z ∧ z ≤ d.2.2)
  | 1 => Nat.ble 2 kd && decide (0 ≤ d.2.1 ∧ z = j + d.2.1) && Nat.blt (j + d.2.1.toNat) B.length && Nat.beq (bS B (j + d.2.1.toNat)) d.2.2.toNat
  | 2 => Nat.ble 2 kd && decide (0 ≤ z) && Nat.blt z.toNat B.length && Nat.beq (bS B z.toNat) d.2.1.toNat
  | 5 => Nat.blt kd 2 && (decide (z = -99999999) || decide (d.2.1 ≤ z ∧ z ≤ d.2.2))
  | 10 => Nat.blt kd 2 && decide (z = 0 ∧ 0 ≤ d.2.2)
  | 11 => q && Nat.blt kd 2 && decide (z = 0 ∧ d.2.1 = 0 ∧ 0 ≤ d.2.2)
  | 14 => Nat.blt kd 2 && decide (z = -99999999)
  | _ => false
def bChk (q : Bool) (B : mB) : Bool := (List.range B.length).all fun j => if mArr (bS B j) then (bD B j :: bL B j).all fun z => bT q B j ((mTyL.getD (bS B j) []).getD 0 (0, 0, 0)) (mKd (bS B j) 0) z
  else Nat.beq (bL B j).length (mTyL.getD (bS B j) []).length && decide (bD B j = 0) && ((List.range (bL B j).length).all fun i => bT q B j ((mTyL.getD (bS B j) []).getD i (0, 0, 0)) (mKd (bS B j) i) ((bL B j).getD i 0)) && match mTab (bS B j) with
    | .inl (_, ks) => Nat.beq ks.length (bL B j).length
    | .inr _ => false
theorem bT.ok {q : Bool} {B : mB} {j i kd : Nat} {d : Nat × Int × Int} {z : Int} {w : mW} (hq : q = true → 0 < w.2.2.2 0) (h : bT q B j d kd z = true) : tyP (wBlk w B) (w.1 + j) i d (shz w.1 kd z) := by
  obtain ⟨k, x, y⟩ := d
  have lo : ∀ {kd : Nat}, Nat.blt kd 2 = true → shz w.1 kd z = z := fun g => if_neg (fun q => by have := Nat.le_of_ble_eq_true g; omega)
  have hi : ∀ {kd : Nat}, Nat.ble 2 kd = true → 0 ≤ z → shz w.1 kd z = z + w.1 := fun g p => if_pos ⟨Nat.le_of_ble_eq_true g, p⟩
  have at_ : ∀ {a s : Nat}, Nat.blt a B.length = true → Nat.beq (bS B a) s = true → mAt (wBlk w B) (w.1 + a) s := fun g p => by
    rw [← Nat.eq_of_beq_eq_true p]; exact wBlk.at (Nat.le_of_ble_eq_true g)
  match k, h with
  | 0, h =>
    simp only [bT, Bool.and_eq_true, decide_eq_true_eq] at h
    rw [lo h.1]; exact h.2
  | 1, h =>
    simp only [bT, Bool.and_eq_true, decide_eq_true_eq] at h
    obtain ⟨⟨⟨h1, h2, h3⟩, h4⟩, h5⟩ := h
    rw [hi h1 (by omega)]
    refine ⟨by show z + (w.1 : Int) = ((w.1 + j : Nat) : Int) + x; omega, ?_⟩
    show mAt (wBlk w B) (w.1 + j + x.toNat) y.toNat
    rw [Nat.add_assoc]; exact at_ h4 h5
  | 2, h =>
    simp only [bT, Bool.and_eq_true, decide_eq_true_eq] at h
    obtain ⟨⟨⟨h1, h2⟩, h4⟩, h5⟩ := h
    rw [hi h1 h2]
    refine ⟨by omega, ?_⟩
    rw [show (z + (w.1 : Int)).toNat = w.1 + z.toNat by omega]; exact at_ h4 h5
  | 3, h => cases h
  | 4, h => cases h
  | 5, h =>
    simp only [bT, Bool.and_eq_true, Bool.or_eq_true, decide_eq_true_eq] at h
    rw [lo h.1]; exact h.2
  | 6, h => cases h
  | 7, h => cases h
  | 8, h => cases h
  | 9, h => cases h
  | 10, h =>
    simp only [bT, Bool.and_eq_true, decide_eq_true_eq] at h
    obtain ⟨h1, rfl, h3⟩ := h
    rw [lo h1]; exact ⟨Int.le_refl _, h3, Or.inl rfl⟩
  | 11, h =>
    simp only [bT, Bool.and_eq_true, decide_eq_true_eq] at h
    obtain ⟨⟨h0, h1⟩, rfl, h2, h3⟩ := h
    have h2 : x = 0 := h2
    subst h2
    rw [lo h1]; exact ⟨Int.le_refl _, h3, hq h0⟩
  | 12, h => cases h
  | 13, h => cases h
  | 14, h =>
    simp only [bT, Bool.and_eq_true, decide_eq_true_eq] at h
    obtain ⟨h1, rfl⟩ := h
    rw [lo h1]; exact ⟨Or.inl rfl, fun q => absurd q (by decide)⟩
  | _ + 15, h => cases h
theorem mT.blk {q : Bool} {B : mB} {w : mW} {μ : mM} (hq : q = true → 0 < w.2.2.2 0) (hb : bBig B = true) (hB : bChk q B = true) (hT : mT w μ) : mT (wBlk w B) (mBlk w μ B) := by
  intro a t hA i
  by_cases ha : a < w.1
  · rw [show mBlk w μ B a i = μ a i from if_pos ha]
    exact (hT a t (hA.back (wBlk.ext hb) ha) i).ext (wBlk.ext hb) rfl
  · obtain ⟨j, rfl⟩ : ∃ j, a = w.1 + j := ⟨a - w.1, by omega⟩
    have hj : j < B.length := by have := hA.2.1; have e : (wBlk w B).1 = w.1 + B.length := rfl; omega
    have et : t = bS B j := hA.1.symm.trans (wBlk.at hj).1
    subst et
    rw [mBlk.at]
    have h := List.all_eq_true.mp hB j (List.mem_range.mpr hj)
    by_cases hr : mArr (bS B j) = true
    · rw [if_pos hr] at h
      have hk : mKd (bS B j) i = mKd (bS B j) 0 := by
        unfold mArr at hr
        unfold mKd
        revert hr
        rcases mTab (bS B j) with ⟨ci, ks⟩ | ⟨kd, k⟩
        · intro hr; cases hr
        · intro _; rfl
      have ht : mTy (bS B j) i = (mTyL.getD (bS B j) []).getD 0 (0, 0, 0) := by unfold mTy; rw [if_pos hr]
      rw [hk, ht]
      refine bT.ok hq (List.all_eq_true.mp h _ ?_)
      unfold bV
      rw [List.getD_eq_getElem?_getD]
      rcases hg : (bL B j)[i]? with _ | v
      · exact List.mem_cons_self
      · exact List.mem_cons_of_mem _ (List.mem_of_getElem? hg)
    · rw [if_neg hr] at h
      simp only [Bool.and_eq_true, decide_eq_true_eq] at h
      obtain ⟨⟨⟨h1, h2⟩, h3⟩, h4⟩ := h
      have ht : mTy (bS B j) i = (mTyL.getD (bS B j) []).getD i (0, 0, 0) := by unfold mTy; rw [if_neg hr]
      rw [ht]
      have hl := Nat.eq_of_beq_eq_true h1
      by_cases hi : i < (bL B j).length
      · have g := List.all_eq_true.mp h3 i (List.mem_range.mpr hi)
        have ev : bV B j i = (bL B j).getD i 0 := by
          unfold bV
          rw [List.getD_eq_getElem?_getD, List.getD_eq_getElem?_getD, List.getElem?_eq_getElem hi]; rfl
        rw [ev]
        exact bT.ok hq g
      · have ev : bV B j i = 0 := by
          unfold bV
          rw [List.getD_eq_getElem?_getD, List.getElem?_eq_none (by omega), h2]; rfl
        have ed : (mTyL.getD (bS B j) []).getD i (0, 0, 0) = (0, 0, 0) := by
          rw [List.getD_eq_getElem?_getD (l := mTyL.getD (bS B j) []), List.getElem?_eq_none (by omega)]; rfl
        have ek : mKd (bS B j) i = 0 := by
          unfold mKd
          revert h4
          rcases mTab (bS B j) with ⟨ci, ks⟩ | ⟨kd, k⟩
          · intro h4
            have h4 := Nat.eq_of_beq_eq_true h4
            show ks.getD i 0 = 0
            rw [List.getD_eq_getElem?_getD, List.getElem?_eq_none (by omega)]; rfl
          · intro h4; cases h4
        rw [ev, ed, ek]
        exact ⟨Int.le_refl _, Int.le_refl _⟩
theorem mWF.blk {w : mW} {B : mB} (hb : bBig B = true) (hw : mWF w) : mWF (wBlk w B) := hw.ext (wBlk.ext hb)
/-- the heap behind a constructor that ran at addresses from 0 on is memory with a block more -/
theorem mkBlk {w : mW} {μ : mM} {B : mB} {f f3 : Nat → sE} (hf : ∀ j, j < w.1 → f j = (mk w μ).2 j) (h3 : ∀ j, j < B.length → sEq (shE w.1 (f3 j)) (shE w.1 (mCell (mTab (bS B j)) (mLen (bS B j)) (bV B j)))) : ∀ j, j < (mk (wBlk w B) (mBlk w μ B)).1 → sEq (shH w.1 f f3 j) ((mk (wBlk w B) (mBlk w μ B)).2 j) := by
  intro a ha
  have rfl' : ∀ x : sE, sEq x x := fun x => by
    rcases x with ⟨kd, n, f⟩ | y
    · exact ⟨rfl, rfl, fun _ _ => rfl⟩
    · exact (rfl : y = y)
  by_cases h : a < w.1
  · have e : (mk (wBlk w B) (mBlk w μ B)).2 a = (mk w μ).2 a := by
      have em : mBlk w μ B a = μ a := by funext i; exact if_pos h
      simp only [mk, wBlk, em, if_pos h]
    rw [show shH w.1 f f3 a = f a from if_pos h, hf a h, e]
    exact rfl' _
  · obtain ⟨j, rfl⟩ : ∃ j, a = w.1 + j := ⟨a - w.1, by omega⟩
    have hj : j < B.length := by have e : (mk (wBlk w B) (mBlk w μ B)).1 = w.1 + B.length := rfl; omega
    have ej : w.1 + j - w.1 = j := by omega
    have e1 : shH w.1 f f3 (w.1 + j) = shE w.1 (f3 j) := by
      show (if w.1 + j < w.1 then _ else _) = _
      rw [if_neg h, ej]
    have e2 : (mk (wBlk w B) (mBlk w μ B)).2 (w.1 + j) = mCell (mTab (bS B j)) (mLen (bS B j)) (fun i => shz w.1 (mKd (bS B j) i) (bV B j i)) := by
      have em : mBlk w μ B (w.1 + j) = fun i => shz w.1 (mKd (bS B j) i) (bV B j i) := by funext i; exact mBlk.at
      simp only [mk, wBlk, em, if_neg h, ej]
    rw [e1, e2, ← mCell_sh]
    exact h3 j hj
end
section
theorem dX0_init_0 : decode cX0_init 0 = .ok (.aload_n 0, 1) := dc0 dO_42 (by decide +kernel)
theorem dX0_init_1 : decode cX0_init 1 = .ok (.invokespecial 3, 3) := dcU2 dO_183 (by decide +kernel)
theorem dX0_init_4 : decode cX0_init 4 = .ok (.aload_n 0, 1) := dc0 dO_42 (by decide +kernel)
theorem dX0_init_5 : decode cX0_init 5 = .ok (.bipush 6, 2) := dcS1 dO_16 (by decide +kernel)
theorem dX0_init_7 : decode cX0_init 7 = .ok (.newarray .int, 2) := dN_10 (by decide +kernel)
theorem dX0_init_9 : decode cX0_init 9 = .ok (.putfield 9, 3) := dcU2 dO_181 (by decide +kernel)
theorem dX0_init_12 : decode cX0_init 12 = .ok (.aload_n 0, 1) := dc0 dO_42 (by decide +kernel)
theorem dX0_init_13 : decode cX0_init 13 = .ok (.sipush 12345, 3) := dcS2 dO_17 (by decide +kernel)
theorem dX0_init_16 : decode cX0_init 16 = .ok (.iconst 0, 1) := dc0 dO_3 (by decide +kernel)
theorem dX0_init_17 : decode cX0_init 17 = .ok (.invokevirtual 15, 3) := dcU2 dO_182 (by decide +kernel)
theorem dX0_init_20 : decode cX0_init 20 = .ok (.aload_n 0, 1) := dc0 dO_42 (by decide +kernel)
theorem dX0_init_21 : decode cX0_init 21 = .ok (.bipush 10, 2) := dcS1 dO_16 (by decide +kernel)
theorem dX0_init_23 : decode cX0_init 23 = .ok (.newarray .int, 2) := dN_10 (by decide +kernel)
theorem dX0_init_25 : decode cX0_init 25 = .ok (.putfield 19, 3) := dcU2 dO_181 (by decide +kernel)
theorem dX0_init_28 : decode cX0_init 28 = .ok (.aload_n 0, 1) := dc0 dO_42 (by decide +kernel)
theorem dX0_init_29 : decode cX0_init 29 = .ok (.bipush 10, 2) := dcS1 dO_16 (by decide +kernel)
theorem dX0_init_31 : decode cX0_init 31 = .ok (.newarray .int, 2) := dN_10 (by decide +kernel)
theorem dX0_init_33 : decode cX0_init 33 = .ok (.putfield 22, 3) := dcU2 dO_181 (by decide +kernel)
theorem dX0_init_36 : decode cX0_init 36 = .ok (.aload_n 0, 1) := dc0 dO_42 (by decide +kernel)
theorem dX0_init_37 : decode cX0_init 37 = .ok (.bipush 10, 2) := dcS1 dO_16 (by decide +kernel)
theorem dX0_init_39 : decode cX0_init 39 = .ok (.anewarray 25, 3) := dcU2 dO_189 (by decide +kernel)
theorem dX0_init_42 : decode cX0_init 42 = .ok (.putfield 27, 3) := dcU2 dO_181 (by decide +kernel)
theorem dX0_init_45 : decode cX0_init 45 = .ok (.iconst 0, 1) := dc0 dO_3 (by decide +kernel)
theorem dX0_init_46 : decode cX0_init 46 = .ok (.istore_n 1, 1) := dc0 dO_60 (by decide +kernel)
theorem dX0_init_47 : decode cX0_init 47 = .ok (.iload_n 1, 1) := dc0 dO_27 (by decide +kernel)
theorem dX0_init_48 : decode cX0_init 48 = .ok (.bipush 10, 2) := dcS1 dO_16 (by decide +kernel)
theorem dX0_init_50 : decode cX0_init 50 = .ok (.if_icmp .ge 37, 3) := dcS2 dO_162 (by decide +kernel)
theorem dX0_init_53 : decode cX0_init 53 = .ok (.aload_n 0, 1) := dc0 dO_42 (by decide +kernel)
theorem dX0_init_54 : decode cX0_init 54 = .ok (.getfield 19, 3) := dcU2 dO_180 (by decide +kernel)
theorem dX0_init_57 : decode cX0_init 57 = .ok (.iload_n 1, 1) := dc0 dO_27 (by decide +kernel)
theorem dX0_init_58 : decode cX0_init 58 = .ok (.iconst (-1), 1) := dc0 dO_2 (by decide +kernel)
theorem dX0_init_59 : decode cX0_init 59 = .ok (.iastore, 1) := dc0 dO_79 (by decide +kernel)
theorem dX0_init_60 : decode cX0_init 60 = .ok (.aload_n 0, 1) := dc0 dO_42 (by decide +kernel)
theorem dX0_init_61 : decode cX0_init 61 = .ok (.getfield 22, 3) := dcU2 dO_180 (by decide +kernel)
theorem dX0_init_64 : decode cX0_init 64 = .ok (.iload_n 1, 1) := dc0 dO_27 (by decide +kernel)
theorem dX0_init_65 : decode cX0_init 65 = .ok (.ldc 31, 2) := dcU1 dO_18 (by decide +kernel)
theorem dX0_init_67 : decode cX0_init 67 = .ok (.iastore, 1) := dc0 dO_79 (by decide +kernel)
theorem dX0_init_68 : decode cX0_init 68 = .ok (.aload_n 0, 1) := dc0 dO_42 (by decide +kernel)
theorem dX0_init_69 : decode cX0_init 69 = .ok (.getfield 27, 3) := dcU2 dO_180 (by decide +kernel)
theorem dX0_init_72 : decode cX0_init 72 = .ok (.iload_n 1, 1) := dc0 dO_27 (by decide +kernel)
theorem dX0_init_73 : decode cX0_init 73 = .ok (.new 25, 3) := dcU2 dO_187 (by decide +kernel)
theorem dX0_init_76 : decode cX0_init 76 = .ok (.dup, 1) := dc0 dO_89 (by decide +kernel)
theorem dX0_init_77 : decode cX0_init 77 = .ok (.invokespecial 32, 3) := dcU2 dO_183 (by decide +kernel)
theorem dX0_init_80 : decode cX0_init 80 = .ok (.aastore, 1) := dc0 dO_83 (by decide +kernel)
theorem dX0_init_81 : decode cX0_init 81 = .ok (.iinc 1 1, 3) := dcI dO_132 (by decide +kernel)
theorem dX0_init_84 : decode cX0_init 84 = .ok (.goto (-37), 3) := dcS2 dO_167 (by decide +kernel)
theorem dX0_init_87 : decode cX0_init 87 = .ok (.return_, 1) := dc0 dO_177 (by decide +kernel)
theorem dX7_init_0 : decode cX7_init 0 = .ok (.aload_n 0, 1) := dc0 dO_42 (by decide +kernel)
theorem dX7_init_1 : decode cX7_init 1 = .ok (.invokespecial 3, 3) := dcU2 dO_183 (by decide +kernel)
theorem dX7_init_4 : decode cX7_init 4 = .ok (.aload_n 0, 1) := dc0 dO_42 (by decide +kernel)
theorem dX7_init_5 : decode cX7_init 5 = .ok (.bipush 20, 2) := dcS1 dO_16 (by decide +kernel)
theorem dX7_init_7 : decode cX7_init 7 = .ok (.newarray .int, 2) := dN_10 (by decide +kernel)
theorem dX7_init_9 : decode cX7_init 9 = .ok (.putfield 9, 3) := dcU2 dO_181 (by decide +kernel)
theorem dX7_init_12 : decode cX7_init 12 = .ok (.aload_n 0, 1) := dc0 dO_42 (by decide +kernel)
theorem dX7_init_13 : decode cX7_init 13 = .ok (.bipush 8, 2) := dcS1 dO_16 (by decide +kernel)
theorem dX7_init_15 : decode cX7_init 15 = .ok (.newarray .int, 2) := dN_10 (by decide +kernel)
theorem dX7_init_17 : decode cX7_init 17 = .ok (.putfield 15, 3) := dcU2 dO_181 (by decide +kernel)
theorem dX7_init_20 : decode cX7_init 20 = .ok (.aload_n 0, 1) := dc0 dO_42 (by decide +kernel)
theorem dX7_init_21 : decode cX7_init 21 = .ok (.iconst (-1), 1) := dc0 dO_2 (by decide +kernel)
theorem dX7_init_22 : decode cX7_init 22 = .ok (.putfield 18, 3) := dcU2 dO_181 (by decide +kernel)
theorem dX7_init_25 : decode cX7_init 25 = .ok (.return_, 1) := dc0 dO_177 (by decide +kernel)
theorem dX9_init_0 : decode cX9_init 0 = .ok (.aload_n 0, 1) := dc0 dO_42 (by decide +kernel)
theorem dX9_init_1 : decode cX9_init 1 = .ok (.invokespecial 3, 3) := dcU2 dO_183 (by decide +kernel)
theorem dX9_init_4 : decode cX9_init 4 = .ok (.aload_n 0, 1) := dc0 dO_42 (by decide +kernel)
theorem dX9_init_5 : decode cX9_init 5 = .ok (.iload_n 1, 1) := dc0 dO_27 (by decide +kernel)
theorem dX9_init_6 : decode cX9_init 6 = .ok (.putfield 9, 3) := dcU2 dO_181 (by decide +kernel)
theorem dX9_init_9 : decode cX9_init 9 = .ok (.aload_n 0, 1) := dc0 dO_42 (by decide +kernel)
theorem dX9_init_10 : decode cX9_init 10 = .ok (.iload_n 2, 1) := dc0 dO_28 (by decide +kernel)
theorem dX9_init_11 : decode cX9_init 11 = .ok (.putfield 15, 3) := dcU2 dO_181 (by decide +kernel)
theorem dX9_init_14 : decode cX9_init 14 = .ok (.aload_n 0, 1) := dc0 dO_42 (by decide +kernel)
theorem dX9_init_15 : decode cX9_init 15 = .ok (.iload_n 3, 1) := dc0 dO_29 (by decide +kernel)
theorem dX9_init_16 : decode cX9_init 16 = .ok (.putfield 18, 3) := dcU2 dO_181 (by decide +kernel)
theorem dX9_init_19 : decode cX9_init 19 = .ok (.aload_n 0, 1) := dc0 dO_42 (by decide +kernel)
theorem dX9_init_20 : decode cX9_init 20 = .ok (.iconst 1, 1) := dc0 dO_4 (by decide +kernel)
theorem dX9_init_21 : decode cX9_init 21 = .ok (.putfield 21, 3) := dcU2 dO_181 (by decide +kernel)
theorem dX9_init_24 : decode cX9_init 24 = .ok (.aload_n 0, 1) := dc0 dO_42 (by decide +kernel)
theorem dX9_init_25 : decode cX9_init 25 = .ok (.iconst 1, 1) := dc0 dO_4 (by decide +kernel)
theorem dX9_init_26 : decode cX9_init 26 = .ok (.putfield 25, 3) := dcU2 dO_181 (by decide +kernel)
theorem dX9_init_29 : decode cX9_init 29 = .ok (.aload_n 0, 1) := dc0 dO_42 (by decide +kernel)
theorem dX9_init_30 : decode cX9_init 30 = .ok (.iconst 4, 1) := dc0 dO_7 (by decide +kernel)
theorem dX9_init_31 : decode cX9_init 31 = .ok (.newarray .int, 2) := dN_10 (by decide +kernel)
theorem dX9_init_33 : decode cX9_init 33 = .ok (.dup, 1) := dc0 dO_89 (by decide +kernel)
theorem dX9_init_34 : decode cX9_init 34 = .ok (.iconst 0, 1) := dc0 dO_3 (by decide +kernel)
theorem dX9_init_35 : decode cX9_init 35 = .ok (.ldc 28, 2) := dcU1 dO_18 (by decide +kernel)
theorem dX9_init_37 : decode cX9_init 37 = .ok (.iastore, 1) := dc0 dO_79 (by decide +kernel)
theorem dX9_init_38 : decode cX9_init 38 = .ok (.dup, 1) := dc0 dO_89 (by decide +kernel)
theorem dX9_init_39 : decode cX9_init 39 = .ok (.iconst 1, 1) := dc0 dO_4 (by decide +kernel)
theorem dX9_init_40 : decode cX9_init 40 = .ok (.ldc 28, 2) := dcU1 dO_18 (by decide +kernel)
theorem dX9_init_42 : decode cX9_init 42 = .ok (.iastore, 1) := dc0 dO_79 (by decide +kernel)
theorem dX9_init_43 : decode cX9_init 43 = .ok (.dup, 1) := dc0 dO_89 (by decide +kernel)
theorem dX9_init_44 : decode cX9_init 44 = .ok (.iconst 2, 1) := dc0 dO_5 (by decide +kernel)
theorem dX9_init_45 : decode cX9_init 45 = .ok (.ldc 28, 2) := dcU1 dO_18 (by decide +kernel)
theorem dX9_init_47 : decode cX9_init 47 = .ok (.iastore, 1) := dc0 dO_79 (by decide +kernel)
theorem dX9_init_48 : decode cX9_init 48 = .ok (.dup, 1) := dc0 dO_89 (by decide +kernel)
theorem dX9_init_49 : decode cX9_init 49 = .ok (.iconst 3, 1) := dc0 dO_6 (by decide +kernel)
theorem dX9_init_50 : decode cX9_init 50 = .ok (.ldc 28, 2) := dcU1 dO_18 (by decide +kernel)
theorem dX9_init_52 : decode cX9_init 52 = .ok (.iastore, 1) := dc0 dO_79 (by decide +kernel)
theorem dX9_init_53 : decode cX9_init 53 = .ok (.putfield 29, 3) := dcU2 dO_181 (by decide +kernel)
theorem dX9_init_56 : decode cX9_init 56 = .ok (.aload_n 0, 1) := dc0 dO_42 (by decide +kernel)
theorem dX9_init_57 : decode cX9_init 57 = .ok (.bipush 20, 2) := dcS1 dO_16 (by decide +kernel)
theorem dX9_init_59 : decode cX9_init 59 = .ok (.anewarray 33, 3) := dcU2 dO_189 (by decide +kernel)
theorem dX9_init_62 : decode cX9_init 62 = .ok (.putfield 35, 3) := dcU2 dO_181 (by decide +kernel)
theorem dX9_init_65 : decode cX9_init 65 = .ok (.aload_n 0, 1) := dc0 dO_42 (by decide +kernel)
theorem dX9_init_66 : decode cX9_init 66 = .ok (.bipush 20, 2) := dcS1 dO_16 (by decide +kernel)
theorem dX9_init_68 : decode cX9_init 68 = .ok (.anewarray 33, 3) := dcU2 dO_189 (by decide +kernel)
theorem dX9_init_71 : decode cX9_init 71 = .ok (.putfield 39, 3) := dcU2 dO_181 (by decide +kernel)
theorem dX9_init_74 : decode cX9_init 74 = .ok (.iconst 0, 1) := dc0 dO_3 (by decide +kernel)
theorem dX9_init_75 : decode cX9_init 75 = .ok (.istore 4, 2) := dcU1 dO_54 (by decide +kernel)
theorem dX9_init_77 : decode cX9_init 77 = .ok (.iload 4, 2) := dcU1 dO_21 (by decide +kernel)
theorem dX9_init_79 : decode cX9_init 79 = .ok (.aload_n 0, 1) := dc0 dO_42 (by decide +kernel)
theorem dX9_init_80 : decode cX9_init 80 = .ok (.getfield 35, 3) := dcU2 dO_180 (by decide +kernel)
theorem dX9_init_83 : decode cX9_init 83 = .ok (.arraylength, 1) := dc0 dO_190 (by decide +kernel)
theorem dX9_init_84 : decode cX9_init 84 = .ok (.if_icmp .ge 37, 3) := dcS2 dO_162 (by decide +kernel)
theorem dX9_init_87 : decode cX9_init 87 = .ok (.aload_n 0, 1) := dc0 dO_42 (by decide +kernel)
theorem dX9_init_88 : decode cX9_init 88 = .ok (.getfield 35, 3) := dcU2 dO_180 (by decide +kernel)
theorem dX9_init_91 : decode cX9_init 91 = .ok (.iload 4, 2) := dcU1 dO_21 (by decide +kernel)
theorem dX9_init_93 : decode cX9_init 93 = .ok (.new 33, 3) := dcU2 dO_187 (by decide +kernel)
theorem dX9_init_96 : decode cX9_init 96 = .ok (.dup, 1) := dc0 dO_89 (by decide +kernel)
theorem dX9_init_97 : decode cX9_init 97 = .ok (.invokespecial 42, 3) := dcU2 dO_183 (by decide +kernel)
theorem dX9_init_100 : decode cX9_init 100 = .ok (.aastore, 1) := dc0 dO_83 (by decide +kernel)
theorem dX9_init_101 : decode cX9_init 101 = .ok (.aload_n 0, 1) := dc0 dO_42 (by decide +kernel)
theorem dX9_init_102 : decode cX9_init 102 = .ok (.getfield 39, 3) := dcU2 dO_180 (by decide +kernel)
theorem dX9_init_105 : decode cX9_init 105 = .ok (.iload 4, 2) := dcU1 dO_21 (by decide +kernel)
theorem dX9_init_107 : decode cX9_init 107 = .ok (.new 33, 3) := dcU2 dO_187 (by decide +kernel)
theorem dX9_init_110 : decode cX9_init 110 = .ok (.dup, 1) := dc0 dO_89 (by decide +kernel)
theorem dX9_init_111 : decode cX9_init 111 = .ok (.invokespecial 42, 3) := dcU2 dO_183 (by decide +kernel)
theorem dX9_init_114 : decode cX9_init 114 = .ok (.aastore, 1) := dc0 dO_83 (by decide +kernel)
theorem dX9_init_115 : decode cX9_init 115 = .ok (.iinc 4 1, 3) := dcI dO_132 (by decide +kernel)
theorem dX9_init_118 : decode cX9_init 118 = .ok (.goto (-41), 3) := dcS2 dO_167 (by decide +kernel)
theorem dX9_init_121 : decode cX9_init 121 = .ok (.return_, 1) := dc0 dO_177 (by decide +kernel)
end
section
/-- the cells of a new object -/
def tX0N : Nat → sE := fun j => match j with
  | 0 => .inr (0, [.ref 1, .ref 2, .ref 3, .ref 4, .int 5, .int 0])
  | 1 => .inl (0, 6, updV (updV (updV (updV (updV (fun _ => .int 0) 4 (.int 5)) 3 (.int 4)) 2 (.int 3)) 1 (.int 2)) 0 (.int 1))
  | 2 => .inl (0, 10, updV (updV (updV (updV (updV (updV (updV (updV (updV (updV (fun _ => .int 0) 0 (.int (-1))) 1 (.int (-1))) 2 (.int (-1))) 3 (.int (-1))) 4 (.int (-1))) 5 (.int (-1))) 6 (.int (-1))) 7 (.int (-1))) 8 (.int (-1))) 9 (.int (-1)))
  | 3 => .inl (0, 10, updV (updV (updV (updV (updV (updV (updV (updV (updV (updV (fun _ => .int 0) 0 (.int (-99999999))) 1 (.int (-99999999))) 2 (.int (-99999999))) 3 (.int (-99999999))) 4 (.int (-99999999))) 5 (.int (-99999999))) 6 (.int (-99999999))) 7 (.int (-99999999))) 8 (.int (-99999999))) 9 (.int (-99999999)))
  | 4 => .inl (4, 10, updV (updV (updV (updV (updV (updV (updV (updV (updV (updV (fun _ => .null) 0 (.ref 5)) 1 (.ref 8)) 2 (.ref 11)) 3 (.ref 14)) 4 (.ref 17)) 5 (.ref 20)) 6 (.ref 23)) 7 (.ref 26)) 8 (.ref 29)) 9 (.ref 32))
  | 5 => .inr (7, [.ref 6, .ref 7, .int 0, .int 0, .int 0, .int 0, .int 0, .int 0, .int 0, .int (-1), .int 0, .int 0])
  | 6 => .inl (0, 20, fun _ => .int 0)
  | 7 => .inl (0, 8, fun _ => .int 0)
  | 8 => .inr (7, [.ref 9, .ref 10, .int 0, .int 0, .int 0, .int 0, .int 0, .int 0, .int 0, .int (-1), .int 0, .int 0])
  | 9 => .inl (0, 20, fun _ => .int 0)
  | 10 => .inl (0, 8, fun _ => .int 0)
  | 11 => .inr (7, [.ref 12, .ref 13, .int 0, .int 0, .int 0, .int 0, .int 0, .int 0, .int 0, .int (-1), .int 0, .int 0])
  | 12 => .inl (0, 20, fun _ => .int 0)
  | 13 => .inl (0, 8, fun _ => .int 0)
  | 14 => .inr (7, [.ref 15, .ref 16, .int 0, .int 0, .int 0, .int 0, .int 0, .int 0, .int 0, .int (-1), .int 0, .int 0])
  | 15 => .inl (0, 20, fun _ => .int 0)
  | 16 => .inl (0, 8, fun _ => .int 0)
  | 17 => .inr (7, [.ref 18, .ref 19, .int 0, .int 0, .int 0, .int 0, .int 0, .int 0, .int 0, .int (-1), .int 0, .int 0])
  | 18 => .inl (0, 20, fun _ => .int 0)
  | 19 => .inl (0, 8, fun _ => .int 0)
  | 20 => .inr (7, [.ref 21, .ref 22, .int 0, .int 0, .int 0, .int 0, .int 0, .int 0, .int 0, .int (-1), .int 0, .int 0])
  | 21 => .inl (0, 20, fun _ => .int 0)
  | 22 => .inl (0, 8, fun _ => .int 0)
  | 23 => .inr (7, [.ref 24, .ref 25, .int 0, .int 0, .int 0, .int 0, .int 0, .int 0, .int 0, .int (-1), .int 0, .int 0])
  | 24 => .inl (0, 20, fun _ => .int 0)
  | 25 => .inl (0, 8, fun _ => .int 0)
  | 26 => .inr (7, [.ref 27, .ref 28, .int 0, .int 0, .int 0, .int 0, .int 0, .int 0, .int 0, .int (-1), .int 0, .int 0])
  | 27 => .inl (0, 20, fun _ => .int 0)
  | 28 => .inl (0, 8, fun _ => .int 0)
  | 29 => .inr (7, [.ref 30, .ref 31, .int 0, .int 0, .int 0, .int 0, .int 0, .int 0, .int 0, .int (-1), .int 0, .int 0])
  | 30 => .inl (0, 20, fun _ => .int 0)
  | 31 => .inl (0, 8, fun _ => .int 0)
  | 32 => .inr (7, [.ref 33, .ref 34, .int 0, .int 0, .int 0, .int 0, .int 0, .int 0, .int 0, .int (-1), .int 0, .int 0])
  | 33 => .inl (0, 20, fun _ => .int 0)
  | 34 => .inl (0, 8, fun _ => .int 0)
  | _ => .inr (0, [])
set_option maxHeartbeats 40000000 in
set_option maxRecDepth 100000 in
theorem ctorX0 (l : Launch) (D : va_G) (c : Nat → ClassId) (H0 : Heap) (sa : Nat × Nat × (Nat → Int32)) : sC (gG l D c H0 sa) mX0_init 5 34 436 [.ref 0] (1, fun _ => .inr (0, zX0)) (fun r hp => r = none ∧ hp.1 = 35 ∧ ∀ j, j < 35 → hp.2 j = tX0N j) := by
  refine sC.of rfl (by decide) (le_t rfl) ?_
  refine sv_aload_n (pc := 0) dX0_init_0 rfl rfl ?_
  refine sv_objinit (pc := 1) dX0_init_1 wM_X0_3 wV_obj wK_obj ⟨le_t rfl, le_t rfl⟩ (le_t rfl) ?_
  refine sv_aload_n (pc := 4) dX0_init_4 rfl rfl ?_
  refine sv_bipush (pc := 5) (v := 6) dX0_init_5 (by decide) ?_
  refine sw_newarray (pc := 7) (kd := 0) (a := 1) (n1 := 2) (N := 6) (ce1 := 1) (sl1 := 6) (v := .int 0) dX0_init_7 rfl wA_int rfl (fun U => sI_Cond_int U _) (by decide) (by decide) rfl (fun _ => rfl) rfl rfl rfl rfl rfl rfl ?_
  refine sw_putfinal (pc := 9) dX0_init_9 (gCX0 _ _ _ _ _) 0 (by decide) wF_X0_9 rfl rfl rfl rfl rfl (fun _ => rfl) (fun _ => rfl) rfl ?_
  refine sv_aload_n (pc := 12) dX0_init_12 rfl rfl ?_
  refine sv_sipush (pc := 13) (v := 12345) dX0_init_13 (by decide) ?_
  refine sv_iconst (pc := 16) (v := 0) dX0_init_16 (by decide) ?_
  refine sv_callV (pc := 17) (M' := mX0_goBy) (d' := 4) (C' := 0) (S' := 0) (av := [.int 12345, .int 0]) ?_ (gOk _ _ _ _ _) dX0_init_17 (tX0_goBy _ _ _ _ _) ⟨wV_X0_goBy, wL_X0_goBy⟩ wM_X0_15 (gCX0 _ _ _ _ _) rfl (lt_t rfl) rfl ⟨le_t rfl, le_t rfl⟩ ⟨le_t rfl, le_t rfl⟩ rfl (le_t rfl) (fun _ _ h => h)
  refine sC.of rfl (by decide) (le_t rfl) ?_
  refine sv_aload_n (pc := 0) dX0_goBy_0 rfl rfl ?_
  refine sv_iload_n (pc := 1) dX0_goBy_1 rfl rfl ?_
  refine sw_putfield (pc := 2) dX0_goBy_2 (gCX0 _ _ _ _ _) 5 (by decide) wF_X0_33 rfl rfl rfl (fun _ => rfl) (fun _ => rfl) rfl ?_
  refine sv_aload_n (pc := 5) dX0_goBy_5 rfl rfl ?_
  refine sv_iconst (pc := 6) (v := 0) dX0_goBy_6 (by decide) ?_
  refine sw_putfield (pc := 7) dX0_goBy_7 (gCX0 _ _ _ _ _) 4 (by decide) wF_X0_37 rfl rfl rfl (fun _ => rfl) (fun _ => rfl) rfl ?_
  refine sv_iload_n (pc := 10) dX0_goBy_10 rfl rfl ?_
  refine sv_istore_n (pc := 11) dX0_goBy_11 rfl (by decide) ?_
  refine sv_iload_n (pc := 12) dX0_goBy_12 rfl rfl ?_
  refine sv_if_le (pc := 13) (tgt := 34) dX0_goBy_13 (by decide) (fun h => absurd h (by decide)) (fun _ => ?_)
  refine sv_aload_n (pc := 16) dX0_goBy_16 rfl rfl ?_
  refine sv_dup (pc := 17) dX0_goBy_17 rfl ?_
  refine sw_getfield (pc := 18) dX0_goBy_18 (gCX0 _ _ _ _ _) 4 (by decide) wF_X0_37 rfl rfl rfl ?_
  refine sv_iconst (pc := 21) (v := 1) dX0_goBy_21 (by decide) ?_
  refine sw_iadd (pc := 22) (v := 1) dX0_goBy_22 (by decide) ?_
  refine sw_putfield (pc := 23) dX0_goBy_23 (gCX0 _ _ _ _ _) 4 (by decide) wF_X0_37 rfl rfl rfl (fun _ => rfl) (fun _ => rfl) rfl ?_
  refine sv_iload_n (pc := 26) dX0_goBy_26 rfl rfl ?_
  refine sv_bipush (pc := 27) (v := 10) dX0_goBy_27 (by decide) ?_
  refine sw_idiv (pc := 29) (v := 1234) dX0_goBy_29 (by decide) (by decide) ?_
  refine sv_istore_n (pc := 30) dX0_goBy_30 rfl (by decide) ?_
  refine sv_goto (pc := 31) (tgt := 12) dX0_goBy_31 (by decide) ?_
  refine sv_iload_n (pc := 12) dX0_goBy_12 rfl rfl ?_
  refine sv_if_le (pc := 13) (tgt := 34) dX0_goBy_13 (by decide) (fun h => absurd h (by decide)) (fun _ => ?_)
  refine sv_aload_n (pc := 16) dX0_goBy_16 rfl rfl ?_
  refine sv_dup (pc := 17) dX0_goBy_17 rfl ?_
  refine sw_getfield (pc := 18) dX0_goBy_18 (gCX0 _ _ _ _ _) 4 (by decide) wF_X0_37 rfl rfl rfl ?_
  refine sv_iconst (pc := 21) (v := 1) dX0_goBy_21 (by decide) ?_
  refine sw_iadd (pc := 22) (v := 2) dX0_goBy_22 (by decide) ?_
  refine sw_putfield (pc := 23) dX0_goBy_23 (gCX0 _ _ _ _ _) 4 (by decide) wF_X0_37 rfl rfl rfl (fun _ => rfl) (fun _ => rfl) rfl ?_
  refine sv_iload_n (pc := 26) dX0_goBy_26 rfl rfl ?_
  refine sv_bipush (pc := 27) (v := 10) dX0_goBy_27 (by decide) ?_
  refine sw_idiv (pc := 29) (v := 123) dX0_goBy_29 (by decide) (by decide) ?_
  refine sv_istore_n (pc := 30) dX0_goBy_30 rfl (by decide) ?_
  refine sv_goto (pc := 31) (tgt := 12) dX0_goBy_31 (by decide) ?_
  refine sv_iload_n (pc := 12) dX0_goBy_12 rfl rfl ?_
  refine sv_if_le (pc := 13) (tgt := 34) dX0_goBy_13 (by decide) (fun h => absurd h (by decide)) (fun _ => ?_)
  refine sv_aload_n (pc := 16) dX0_goBy_16 rfl rfl ?_
  refine sv_dup (pc := 17) dX0_goBy_17 rfl ?_
  refine sw_getfield (pc := 18) dX0_goBy_18 (gCX0 _ _ _ _ _) 4 (by decide) wF_X0_37 rfl rfl rfl ?_
  refine sv_iconst (pc := 21) (v := 1) dX0_goBy_21 (by decide) ?_
  refine sw_iadd (pc := 22) (v := 3) dX0_goBy_22 (by decide) ?_
  refine sw_putfield (pc := 23) dX0_goBy_23 (gCX0 _ _ _ _ _) 4 (by decide) wF_X0_37 rfl rfl rfl (fun _ => rfl) (fun _ => rfl) rfl ?_
  refine sv_iload_n (pc := 26) dX0_goBy_26 rfl rfl ?_
  refine sv_bipush (pc := 27) (v := 10) dX0_goBy_27 (by decide) ?_
  refine sw_idiv (pc := 29) (v := 12) dX0_goBy_29 (by decide) (by decide) ?_
  refine sv_istore_n (pc := 30) dX0_goBy_30 rfl (by decide) ?_
  refine sv_goto (pc := 31) (tgt := 12) dX0_goBy_31 (by decide) ?_
  refine sv_iload_n (pc := 12) dX0_goBy_12 rfl rfl ?_
  refine sv_if_le (pc := 13) (tgt := 34) dX0_goBy_13 (by decide) (fun h => absurd h (by decide)) (fun _ => ?_)
  refine sv_aload_n (pc := 16) dX0_goBy_16 rfl rfl ?_
  refine sv_dup (pc := 17) dX0_goBy_17 rfl ?_
  refine sw_getfield (pc := 18) dX0_goBy_18 (gCX0 _ _ _ _ _) 4 (by decide) wF_X0_37 rfl rfl rfl ?_
  refine sv_iconst (pc := 21) (v := 1) dX0_goBy_21 (by decide) ?_
  refine sw_iadd (pc := 22) (v := 4) dX0_goBy_22 (by decide) ?_
  refine sw_putfield (pc := 23) dX0_goBy_23 (gCX0 _ _ _ _ _) 4 (by decide) wF_X0_37 rfl rfl rfl (fun _ => rfl) (fun _ => rfl) rfl ?_
  refine sv_iload_n (pc := 26) dX0_goBy_26 rfl rfl ?_
  refine sv_bipush (pc := 27) (v := 10) dX0_goBy_27 (by decide) ?_
  refine sw_idiv (pc := 29) (v := 1) dX0_goBy_29 (by decide) (by decide) ?_
  refine sv_istore_n (pc := 30) dX0_goBy_30 rfl (by decide) ?_
  refine sv_goto (pc := 31) (tgt := 12) dX0_goBy_31 (by decide) ?_
  refine sv_iload_n (pc := 12) dX0_goBy_12 rfl rfl ?_
  refine sv_if_le (pc := 13) (tgt := 34) dX0_goBy_13 (by decide) (fun h => absurd h (by decide)) (fun _ => ?_)
  refine sv_aload_n (pc := 16) dX0_goBy_16 rfl rfl ?_
  refine sv_dup (pc := 17) dX0_goBy_17 rfl ?_
  refine sw_getfield (pc := 18) dX0_goBy_18 (gCX0 _ _ _ _ _) 4 (by decide) wF_X0_37 rfl rfl rfl ?_
  refine sv_iconst (pc := 21) (v := 1) dX0_goBy_21 (by decide) ?_
  refine sw_iadd (pc := 22) (v := 5) dX0_goBy_22 (by decide) ?_
  refine sw_putfield (pc := 23) dX0_goBy_23 (gCX0 _ _ _ _ _) 4 (by decide) wF_X0_37 rfl rfl rfl (fun _ => rfl) (fun _ => rfl) rfl ?_
  refine sv_iload_n (pc := 26) dX0_goBy_26 rfl rfl ?_
  refine sv_bipush (pc := 27) (v := 10) dX0_goBy_27 (by decide) ?_
  refine sw_idiv (pc := 29) (v := 0) dX0_goBy_29 (by decide) (by decide) ?_
  refine sv_istore_n (pc := 30) dX0_goBy_30 rfl (by decide) ?_
  refine sv_goto (pc := 31) (tgt := 12) dX0_goBy_31 (by decide) ?_
  refine sv_iload_n (pc := 12) dX0_goBy_12 rfl rfl ?_
  refine sv_if_le (pc := 13) (tgt := 34) dX0_goBy_13 (by decide) (fun _ => ?_) (fun h => absurd (by decide) h)
  refine sv_iload_n (pc := 34) dX0_goBy_34 rfl rfl ?_
  refine sv_istore_n (pc := 35) dX0_goBy_35 rfl (by decide) ?_
  refine sv_aload_n (pc := 36) dX0_goBy_36 rfl rfl ?_
  refine sw_getfield (pc := 37) dX0_goBy_37 (gCX0 _ _ _ _ _) 4 (by decide) wF_X0_37 rfl rfl rfl ?_
  refine sv_iconst (pc := 40) (v := 1) dX0_goBy_40 (by decide) ?_
  refine sw_isub (pc := 41) (v := 4) dX0_goBy_41 (by decide) ?_
  refine sv_istore (pc := 42) dX0_goBy_42 (by decide) ?_
  refine sv_lvG (pc := 44) (lv' := [(0, .ref 0), (1, .int 12345), (2, .int 0), (3, .int 12345), (4, .int 4)]) (List.forall_mem_cons.mpr ⟨rfl, List.forall_mem_cons.mpr ⟨rfl, List.forall_mem_cons.mpr ⟨rfl, List.forall_mem_cons.mpr ⟨rfl, List.forall_mem_cons.mpr ⟨rfl, fun _ h => absurd h List.not_mem_nil⟩⟩⟩⟩⟩) ?_
  refine sv_iload (pc := 44) dX0_goBy_44 rfl ?_
  refine sv_if_lt (pc := 46) (tgt := 71) dX0_goBy_46 (by decide) (fun h => absurd h (by decide)) (fun _ => ?_)
  refine sv_aload_n (pc := 49) dX0_goBy_49 rfl rfl ?_
  refine sw_getfield (pc := 50) dX0_goBy_50 (gCX0 _ _ _ _ _) 0 (by decide) wF_X0_9 rfl rfl rfl ?_
  refine sv_iload (pc := 53) dX0_goBy_53 rfl ?_
  refine sv_iload_n (pc := 55) dX0_goBy_55 rfl rfl ?_
  refine sv_bipush (pc := 56) (v := 10) dX0_goBy_56 (by decide) ?_
  refine sw_irem (pc := 58) (v := 5) dX0_goBy_58 (by decide) (by decide) ?_
  refine sw_iastore (pc := 59) (k := 4) (v := .int 5) dX0_goBy_59 rfl rfl rfl (by decide) (by decide) rfl rfl ?_
  refine sv_iload_n (pc := 60) dX0_goBy_60 rfl rfl ?_
  refine sv_bipush (pc := 61) (v := 10) dX0_goBy_61 (by decide) ?_
  refine sw_idiv (pc := 63) (v := 1234) dX0_goBy_63 (by decide) (by decide) ?_
  refine sv_istore_n (pc := 64) dX0_goBy_64 rfl (by decide) ?_
  refine sw_iinc (pc := 65) (v := 3) dX0_goBy_65 rfl (by decide) (by decide) ?_
  refine sv_goto (pc := 68) (tgt := 44) dX0_goBy_68 (by decide) ?_
  refine sv_iload (pc := 44) dX0_goBy_44 rfl ?_
  refine sv_if_lt (pc := 46) (tgt := 71) dX0_goBy_46 (by decide) (fun h => absurd h (by decide)) (fun _ => ?_)
  refine sv_aload_n (pc := 49) dX0_goBy_49 rfl rfl ?_
  refine sw_getfield (pc := 50) dX0_goBy_50 (gCX0 _ _ _ _ _) 0 (by decide) wF_X0_9 rfl rfl rfl ?_
  refine sv_iload (pc := 53) dX0_goBy_53 rfl ?_
  refine sv_iload_n (pc := 55) dX0_goBy_55 rfl rfl ?_
  refine sv_bipush (pc := 56) (v := 10) dX0_goBy_56 (by decide) ?_
  refine sw_irem (pc := 58) (v := 4) dX0_goBy_58 (by decide) (by decide) ?_
  refine sw_iastore (pc := 59) (k := 3) (v := .int 4) dX0_goBy_59 rfl rfl rfl (by decide) (by decide) rfl rfl ?_
  refine sv_iload_n (pc := 60) dX0_goBy_60 rfl rfl ?_
  refine sv_bipush (pc := 61) (v := 10) dX0_goBy_61 (by decide) ?_
  refine sw_idiv (pc := 63) (v := 123) dX0_goBy_63 (by decide) (by decide) ?_
  refine sv_istore_n (pc := 64) dX0_goBy_64 rfl (by decide) ?_
  refine sw_iinc (pc := 65) (v := 2) dX0_goBy_65 rfl (by decide) (by decide) ?_
  refine sv_goto (pc := 68) (tgt := 44) dX0_goBy_68 (by decide) ?_
  refine sv_iload (pc := 44) dX0_goBy_44 rfl ?_
  refine sv_if_lt (pc := 46) (tgt := 71) dX0_goBy_46 (by decide) (fun h => absurd h (by decide)) (fun _ => ?_)
  refine sv_aload_n (pc := 49) dX0_goBy_49 rfl rfl ?_
  refine sw_getfield (pc := 50) dX0_goBy_50 (gCX0 _ _ _ _ _) 0 (by decide) wF_X0_9 rfl rfl rfl ?_
  refine sv_iload (pc := 53) dX0_goBy_53 rfl ?_
  refine sv_iload_n (pc := 55) dX0_goBy_55 rfl rfl ?_
  refine sv_bipush (pc := 56) (v := 10) dX0_goBy_56 (by decide) ?_
  refine sw_irem (pc := 58) (v := 3) dX0_goBy_58 (by decide) (by decide) ?_
  refine sw_iastore (pc := 59) (k := 2) (v := .int 3) dX0_goBy_59 rfl rfl rfl (by decide) (by decide) rfl rfl ?_
  refine sv_iload_n (pc := 60) dX0_goBy_60 rfl rfl ?_
  refine sv_bipush (pc := 61) (v := 10) dX0_goBy_61 (by decide) ?_
  refine sw_idiv (pc := 63) (v := 12) dX0_goBy_63 (by decide) (by decide) ?_
  refine sv_istore_n (pc := 64) dX0_goBy_64 rfl (by decide) ?_
  refine sw_iinc (pc := 65) (v := 1) dX0_goBy_65 rfl (by decide) (by decide) ?_
  refine sv_goto (pc := 68) (tgt := 44) dX0_goBy_68 (by decide) ?_
  refine sv_iload (pc := 44) dX0_goBy_44 rfl ?_
  refine sv_if_lt (pc := 46) (tgt := 71) dX0_goBy_46 (by decide) (fun h => absurd h (by decide)) (fun _ => ?_)
  refine sv_aload_n (pc := 49) dX0_goBy_49 rfl rfl ?_
  refine sw_getfield (pc := 50) dX0_goBy_50 (gCX0 _ _ _ _ _) 0 (by decide) wF_X0_9 rfl rfl rfl ?_
  refine sv_iload (pc := 53) dX0_goBy_53 rfl ?_
  refine sv_iload_n (pc := 55) dX0_goBy_55 rfl rfl ?_
  refine sv_bipush (pc := 56) (v := 10) dX0_goBy_56 (by decide) ?_
  refine sw_irem (pc := 58) (v := 2) dX0_goBy_58 (by decide) (by decide) ?_
  refine sw_iastore (pc := 59) (k := 1) (v := .int 2) dX0_goBy_59 rfl rfl rfl (by decide) (by decide) rfl rfl ?_
  refine sv_iload_n (pc := 60) dX0_goBy_60 rfl rfl ?_
  refine sv_bipush (pc := 61) (v := 10) dX0_goBy_61 (by decide) ?_
  refine sw_idiv (pc := 63) (v := 1) dX0_goBy_63 (by decide) (by decide) ?_
  refine sv_istore_n (pc := 64) dX0_goBy_64 rfl (by decide) ?_
  refine sw_iinc (pc := 65) (v := 0) dX0_goBy_65 rfl (by decide) (by decide) ?_
  refine sv_lvG (pc := 68) (lv' := [(0, .ref 0), (1, .int 12345), (2, .int 0), (3, .int 1), (4, .int 0)]) (List.forall_mem_cons.mpr ⟨rfl, List.forall_mem_cons.mpr ⟨rfl, List.forall_mem_cons.mpr ⟨rfl, List.forall_mem_cons.mpr ⟨rfl, List.forall_mem_cons.mpr ⟨rfl, fun _ h => absurd h List.not_mem_nil⟩⟩⟩⟩⟩) ?_
  refine sv_goto (pc := 68) (tgt := 44) dX0_goBy_68 (by decide) ?_
  refine sv_iload (pc := 44) dX0_goBy_44 rfl ?_
  refine sv_if_lt (pc := 46) (tgt := 71) dX0_goBy_46 (by decide) (fun h => absurd h (by decide)) (fun _ => ?_)
  refine sv_aload_n (pc := 49) dX0_goBy_49 rfl rfl ?_
  refine sw_getfield (pc := 50) dX0_goBy_50 (gCX0 _ _ _ _ _) 0 (by decide) wF_X0_9 rfl rfl rfl ?_
  refine sv_iload (pc := 53) dX0_goBy_53 rfl ?_
  refine sv_iload_n (pc := 55) dX0_goBy_55 rfl rfl ?_
  refine sv_bipush (pc := 56) (v := 10) dX0_goBy_56 (by decide) ?_
  refine sw_irem (pc := 58) (v := 1) dX0_goBy_58 (by decide) (by decide) ?_
  refine sw_iastore (pc := 59) (k := 0) (v := .int 1) dX0_goBy_59 rfl rfl rfl (by decide) (by decide) rfl rfl ?_
  refine sv_iload_n (pc := 60) dX0_goBy_60 rfl rfl ?_
  refine sv_bipush (pc := 61) (v := 10) dX0_goBy_61 (by decide) ?_
  refine sw_idiv (pc := 63) (v := 0) dX0_goBy_63 (by decide) (by decide) ?_
  refine sv_istore_n (pc := 64) dX0_goBy_64 rfl (by decide) ?_
  refine sw_iinc (pc := 65) (v := (-1)) dX0_goBy_65 rfl (by decide) (by decide) ?_
  refine sv_goto (pc := 68) (tgt := 44) dX0_goBy_68 (by decide) ?_
  refine sv_iload (pc := 44) dX0_goBy_44 rfl ?_
  refine sv_if_lt (pc := 46) (tgt := 71) dX0_goBy_46 (by decide) (fun _ => ?_) (fun h => absurd (by decide) h)
  refine sv_vret (pc := 71) dX0_goBy_71 rfl (le_t rfl) (le_t rfl) ?_
  refine sv_aload_n (pc := 20) dX0_init_20 rfl rfl ?_
  refine sv_bipush (pc := 21) (v := 10) dX0_init_21 (by decide) ?_
  refine sw_newarray (pc := 23) (kd := 0) (a := 2) (n1 := 3) (N := 10) (ce1 := 2) (sl1 := 16) (v := .int 0) dX0_init_23 rfl wA_int rfl (fun U => sI_Cond_int U _) (by decide) (by decide) rfl (fun _ => rfl) rfl rfl rfl rfl rfl rfl ?_
  refine sw_putfinal (pc := 25) dX0_init_25 (gCX0 _ _ _ _ _) 1 (by decide) wF_X0_19 rfl rfl rfl rfl rfl (fun _ => rfl) (fun _ => rfl) rfl ?_
  refine sv_aload_n (pc := 28) dX0_init_28 rfl rfl ?_
  refine sv_bipush (pc := 29) (v := 10) dX0_init_29 (by decide) ?_
  refine sw_newarray (pc := 31) (kd := 0) (a := 3) (n1 := 4) (N := 10) (ce1 := 3) (sl1 := 26) (v := .int 0) dX0_init_31 rfl wA_int rfl (fun U => sI_Cond_int U _) (by decide) (by decide) rfl (fun _ => rfl) rfl rfl rfl rfl rfl rfl ?_
  refine sw_putfinal (pc := 33) dX0_init_33 (gCX0 _ _ _ _ _) 2 (by decide) wF_X0_22 rfl rfl rfl rfl rfl (fun _ => rfl) (fun _ => rfl) rfl ?_
  refine sv_aload_n (pc := 36) dX0_init_36 rfl rfl ?_
  refine sv_bipush (pc := 37) (v := 10) dX0_init_37 (by decide) ?_
  refine sw_anewarray (pc := 39) (kd := 4) (a := 4) (n1 := 5) (N := 10) (ce1 := 4) (sl1 := 36) dX0_init_39 wC_X0_25 rfl (by decide) (by decide) rfl rfl rfl rfl rfl rfl rfl ?_
  refine sw_putfinal (pc := 42) dX0_init_42 (gCX0 _ _ _ _ _) 3 (by decide) wF_X0_27 rfl rfl rfl rfl rfl (fun _ => rfl) (fun _ => rfl) rfl ?_
  refine sv_iconst (pc := 45) (v := 0) dX0_init_45 (by decide) ?_
  refine sv_istore_n (pc := 46) dX0_init_46 rfl (by decide) ?_
  refine sv_iload_n (pc := 47) dX0_init_47 rfl rfl ?_
  refine sv_bipush (pc := 48) (v := 10) dX0_init_48 (by decide) ?_
  refine sv_icmp_ge (pc := 50) (tgt := 87) dX0_init_50 (by decide) (fun h => absurd h (by decide)) (fun _ => ?_)
  refine sv_aload_n (pc := 53) dX0_init_53 rfl rfl ?_
  refine sw_getfield (pc := 54) dX0_init_54 (gCX0 _ _ _ _ _) 1 (by decide) wF_X0_19 rfl rfl rfl ?_
  refine sv_iload_n (pc := 57) dX0_init_57 rfl rfl ?_
  refine sv_iconst (pc := 58) (v := (-1)) dX0_init_58 (by decide) ?_
  refine sw_iastore (pc := 59) (k := 0) (v := .int (-1)) dX0_init_59 rfl rfl rfl (by decide) (by decide) rfl rfl ?_
  refine sv_aload_n (pc := 60) dX0_init_60 rfl rfl ?_
  refine sw_getfield (pc := 61) dX0_init_61 (gCX0 _ _ _ _ _) 2 (by decide) wF_X0_22 rfl rfl rfl ?_
  refine sv_iload_n (pc := 64) dX0_init_64 rfl rfl ?_
  refine sv_ldc (pc := 65) dX0_init_65 wG_X0_31 ?_
  refine sw_iastore (pc := 67) (k := 0) (v := .int (-99999999)) dX0_init_67 rfl rfl rfl (by decide) (by decide) rfl rfl ?_
  refine sv_aload_n (pc := 68) dX0_init_68 rfl rfl ?_
  refine sw_getfield (pc := 69) dX0_init_69 (gCX0 _ _ _ _ _) 3 (by decide) wF_X0_27 rfl rfl rfl ?_
  refine sv_iload_n (pc := 72) dX0_init_72 rfl rfl ?_
  refine sw_new (pc := 73) (a := 5) (n1 := 6) (ce1 := 5) (sl1 := 48) (fs := zX7) dX0_init_73 (gCX7 _ _ _ _ _) wC_X0_25 wN_X7 wI_X7 zX7_ok rfl rfl rfl rfl rfl rfl ?_
  refine sv_dup (pc := 76) dX0_init_76 rfl ?_
  refine sv_callI (pc := 77) (M' := mX7_init) (d' := 4) (C' := 2) (S' := 28) (av := []) ?_ (gOk _ _ _ _ _) dX0_init_77 (tX7_init _ _ _ _ _) rfl rfl wV_X7_init wM_X0_32 ⟨le_t rfl, le_t rfl⟩ ⟨le_t rfl, le_t rfl⟩ rfl (le_t rfl) (fun _ _ h => h)
  refine sC.of rfl (by decide) (le_t rfl) ?_
  refine sv_aload_n (pc := 0) dX7_init_0 rfl rfl ?_
  refine sv_objinit (pc := 1) dX7_init_1 wM_X7_3 wV_obj wK_obj ⟨le_t rfl, le_t rfl⟩ (le_t rfl) ?_
  refine sv_aload_n (pc := 4) dX7_init_4 rfl rfl ?_
  refine sv_bipush (pc := 5) (v := 20) dX7_init_5 (by decide) ?_
  refine sw_newarray (pc := 7) (kd := 0) (a := 6) (n1 := 7) (N := 20) (ce1 := 1) (sl1 := 20) (v := .int 0) dX7_init_7 rfl wA_int rfl (fun U => sI_Cond_int U _) (by decide) (by decide) rfl (fun _ => rfl) rfl rfl rfl rfl rfl rfl ?_
  refine sw_putfinal (pc := 9) dX7_init_9 (gCX7 _ _ _ _ _) 0 (by decide) wF_X7_9 rfl rfl rfl rfl rfl (fun _ => rfl) (fun _ => rfl) rfl ?_
  refine sv_aload_n (pc := 12) dX7_init_12 rfl rfl ?_
  refine sv_bipush (pc := 13) (v := 8) dX7_init_13 (by decide) ?_
  refine sw_newarray (pc := 15) (kd := 0) (a := 7) (n1 := 8) (N := 8) (ce1 := 2) (sl1 := 28) (v := .int 0) dX7_init_15 rfl wA_int rfl (fun U => sI_Cond_int U _) (by decide) (by decide) rfl (fun _ => rfl) rfl rfl rfl rfl rfl rfl ?_
  refine sw_putfinal (pc := 17) dX7_init_17 (gCX7 _ _ _ _ _) 1 (by decide) wF_X7_15 rfl rfl rfl rfl rfl (fun _ => rfl) (fun _ => rfl) rfl ?_
  refine sv_aload_n (pc := 20) dX7_init_20 rfl rfl ?_
  refine sv_iconst (pc := 21) (v := (-1)) dX7_init_21 (by decide) ?_
  refine sw_putfield (pc := 22) dX7_init_22 (gCX7 _ _ _ _ _) 9 (by decide) wF_X7_18 rfl rfl rfl (fun _ => rfl) (fun _ => rfl) rfl ?_
  refine sv_vret (pc := 25) dX7_init_25 rfl (le_t rfl) (le_t rfl) ?_
  refine sw_aastore (pc := 80) (k := 0) dX0_init_80 (gCX7 _ _ _ _ _) rfl rfl rfl (by decide) (by decide) rfl rfl rfl ?_
  refine sw_iinc (pc := 81) (v := 1) dX0_init_81 rfl (by decide) (by decide) ?_
  refine sv_goto (pc := 84) (tgt := 47) dX0_init_84 (by decide) ?_
  refine sv_iload_n (pc := 47) dX0_init_47 rfl rfl ?_
  refine sv_bipush (pc := 48) (v := 10) dX0_init_48 (by decide) ?_
  refine sv_icmp_ge (pc := 50) (tgt := 87) dX0_init_50 (by decide) (fun h => absurd h (by decide)) (fun _ => ?_)
  refine sv_aload_n (pc := 53) dX0_init_53 rfl rfl ?_
  refine sw_getfield (pc := 54) dX0_init_54 (gCX0 _ _ _ _ _) 1 (by decide) wF_X0_19 rfl rfl rfl ?_
  refine sv_iload_n (pc := 57) dX0_init_57 rfl rfl ?_
  refine sv_iconst (pc := 58) (v := (-1)) dX0_init_58 (by decide) ?_
  refine sw_iastore (pc := 59) (k := 1) (v := .int (-1)) dX0_init_59 rfl rfl rfl (by decide) (by decide) rfl rfl ?_
  refine sv_aload_n (pc := 60) dX0_init_60 rfl rfl ?_
  refine sw_getfield (pc := 61) dX0_init_61 (gCX0 _ _ _ _ _) 2 (by decide) wF_X0_22 rfl rfl rfl ?_
  refine sv_iload_n (pc := 64) dX0_init_64 rfl rfl ?_
  refine sv_ldc (pc := 65) dX0_init_65 wG_X0_31 ?_
  refine sw_iastore (pc := 67) (k := 1) (v := .int (-99999999)) dX0_init_67 rfl rfl rfl (by decide) (by decide) rfl rfl ?_
  refine sv_aload_n (pc := 68) dX0_init_68 rfl rfl ?_
  refine sw_getfield (pc := 69) dX0_init_69 (gCX0 _ _ _ _ _) 3 (by decide) wF_X0_27 rfl rfl rfl ?_
  refine sv_iload_n (pc := 72) dX0_init_72 rfl rfl ?_
  refine sw_new (pc := 73) (a := 8) (n1 := 9) (ce1 := 8) (sl1 := 88) (fs := zX7) dX0_init_73 (gCX7 _ _ _ _ _) wC_X0_25 wN_X7 wI_X7 zX7_ok rfl rfl rfl rfl rfl rfl ?_
  refine sv_dup (pc := 76) dX0_init_76 rfl ?_
  refine sv_callI (pc := 77) (M' := mX7_init) (d' := 4) (C' := 2) (S' := 28) (av := []) ?_ (gOk _ _ _ _ _) dX0_init_77 (tX7_init _ _ _ _ _) rfl rfl wV_X7_init wM_X0_32 ⟨le_t rfl, le_t rfl⟩ ⟨le_t rfl, le_t rfl⟩ rfl (le_t rfl) (fun _ _ h => h)
  refine sC.of rfl (by decide) (le_t rfl) ?_
  refine sv_aload_n (pc := 0) dX7_init_0 rfl rfl ?_
  refine sv_objinit (pc := 1) dX7_init_1 wM_X7_3 wV_obj wK_obj ⟨le_t rfl, le_t rfl⟩ (le_t rfl) ?_
  refine sv_aload_n (pc := 4) dX7_init_4 rfl rfl ?_
  refine sv_bipush (pc := 5) (v := 20) dX7_init_5 (by decide) ?_
  refine sw_newarray (pc := 7) (kd := 0) (a := 9) (n1 := 10) (N := 20) (ce1 := 1) (sl1 := 20) (v := .int 0) dX7_init_7 rfl wA_int rfl (fun U => sI_Cond_int U _) (by decide) (by decide) rfl (fun _ => rfl) rfl rfl rfl rfl rfl rfl ?_
  refine sw_putfinal (pc := 9) dX7_init_9 (gCX7 _ _ _ _ _) 0 (by decide) wF_X7_9 rfl rfl rfl rfl rfl (fun _ => rfl) (fun _ => rfl) rfl ?_
  refine sv_aload_n (pc := 12) dX7_init_12 rfl rfl ?_
  refine sv_bipush (pc := 13) (v := 8) dX7_init_13 (by decide) ?_
  refine sw_newarray (pc := 15) (kd := 0) (a := 10) (n1 := 11) (N := 8) (ce1 := 2) (sl1 := 28) (v := .int 0) dX7_init_15 rfl wA_int rfl (fun U => sI_Cond_int U _) (by decide) (by decide) rfl (fun _ => rfl) rfl rfl rfl rfl rfl rfl ?_
  refine sw_putfinal (pc := 17) dX7_init_17 (gCX7 _ _ _ _ _) 1 (by decide) wF_X7_15 rfl rfl rfl rfl rfl (fun _ => rfl) (fun _ => rfl) rfl ?_
  refine sv_aload_n (pc := 20) dX7_init_20 rfl rfl ?_
  refine sv_iconst (pc := 21) (v := (-1)) dX7_init_21 (by decide) ?_
  refine sw_putfield (pc := 22) dX7_init_22 (gCX7 _ _ _ _ _) 9 (by decide) wF_X7_18 rfl rfl rfl (fun _ => rfl) (fun _ => rfl) rfl ?_
  refine sv_vret (pc := 25) dX7_init_25 rfl (le_t rfl) (le_t rfl) ?_
  refine sw_aastore (pc := 80) (k := 1) dX0_init_80 (gCX7 _ _ _ _ _) rfl rfl rfl (by decide) (by decide) rfl rfl rfl ?_
  refine sw_iinc (pc := 81) (v := 2) dX0_init_81 rfl (by decide) (by decide) ?_
  refine sv_goto (pc := 84) (tgt := 47) dX0_init_84 (by decide) ?_
  refine sv_iload_n (pc := 47) dX0_init_47 rfl rfl ?_
  refine sv_bipush (pc := 48) (v := 10) dX0_init_48 (by decide) ?_
  refine sv_icmp_ge (pc := 50) (tgt := 87) dX0_init_50 (by decide) (fun h => absurd h (by decide)) (fun _ => ?_)
  refine sv_aload_n (pc := 53) dX0_init_53 rfl rfl ?_
  refine sw_getfield (pc := 54) dX0_init_54 (gCX0 _ _ _ _ _) 1 (by decide) wF_X0_19 rfl rfl rfl ?_
  refine sv_iload_n (pc := 57) dX0_init_57 rfl rfl ?_
  refine sv_iconst (pc := 58) (v := (-1)) dX0_init_58 (by decide) ?_
  refine sw_iastore (pc := 59) (k := 2) (v := .int (-1)) dX0_init_59 rfl rfl rfl (by decide) (by decide) rfl rfl ?_
  refine sv_aload_n (pc := 60) dX0_init_60 rfl rfl ?_
  refine sw_getfield (pc := 61) dX0_init_61 (gCX0 _ _ _ _ _) 2 (by decide) wF_X0_22 rfl rfl rfl ?_
  refine sv_iload_n (pc := 64) dX0_init_64 rfl rfl ?_
  refine sv_ldc (pc := 65) dX0_init_65 wG_X0_31 ?_
  refine sw_iastore (pc := 67) (k := 2) (v := .int (-99999999)) dX0_init_67 rfl rfl rfl (by decide) (by decide) rfl rfl ?_
  refine sv_aload_n (pc := 68) dX0_init_68 rfl rfl ?_
  refine sw_getfield (pc := 69) dX0_init_69 (gCX0 _ _ _ _ _) 3 (by decide) wF_X0_27 rfl rfl rfl ?_
  refine sv_iload_n (pc := 72) dX0_init_72 rfl rfl ?_
  refine sw_new (pc := 73) (a := 11) (n1 := 12) (ce1 := 11) (sl1 := 128) (fs := zX7) dX0_init_73 (gCX7 _ _ _ _ _) wC_X0_25 wN_X7 wI_X7 zX7_ok rfl rfl rfl rfl rfl rfl ?_
  refine sv_dup (pc := 76) dX0_init_76 rfl ?_
  refine sv_callI (pc := 77) (M' := mX7_init) (d' := 4) (C' := 2) (S' := 28) (av := []) ?_ (gOk _ _ _ _ _) dX0_init_77 (tX7_init _ _ _ _ _) rfl rfl wV_X7_init wM_X0_32 ⟨le_t rfl, le_t rfl⟩ ⟨le_t rfl, le_t rfl⟩ rfl (le_t rfl) (fun _ _ h => h)
  refine sC.of rfl (by decide) (le_t rfl) ?_
  refine sv_aload_n (pc := 0) dX7_init_0 rfl rfl ?_
  refine sv_objinit (pc := 1) dX7_init_1 wM_X7_3 wV_obj wK_obj ⟨le_t rfl, le_t rfl⟩ (le_t rfl) ?_
  refine sv_aload_n (pc := 4) dX7_init_4 rfl rfl ?_
  refine sv_bipush (pc := 5) (v := 20) dX7_init_5 (by decide) ?_
  refine sw_newarray (pc := 7) (kd := 0) (a := 12) (n1 := 13) (N := 20) (ce1 := 1) (sl1 := 20) (v := .int 0) dX7_init_7 rfl wA_int rfl (fun U => sI_Cond_int U _) (by decide) (by decide) rfl (fun _ => rfl) rfl rfl rfl rfl rfl rfl ?_
  refine sw_putfinal (pc := 9) dX7_init_9 (gCX7 _ _ _ _ _) 0 (by decide) wF_X7_9 rfl rfl rfl rfl rfl (fun _ => rfl) (fun _ => rfl) rfl ?_
  refine sv_aload_n (pc := 12) dX7_init_12 rfl rfl ?_
  refine sv_bipush (pc := 13) (v := 8) dX7_init_13 (by decide) ?_
  refine sw_newarray (pc := 15) (kd := 0) (a := 13) (n1 := 14) (N := 8) (ce1 := 2) (sl1 := 28) (v := .int 0) dX7_init_15 rfl wA_int rfl (fun U => sI_Cond_int U _) (by decide) (by decide) rfl (fun _ => rfl) rfl rfl rfl rfl rfl rfl ?_
  refine sw_putfinal (pc := 17) dX7_init_17 (gCX7 _ _ _ _ _) 1 (by decide) wF_X7_15 rfl rfl rfl rfl rfl (fun _ => rfl) (fun _ => rfl) rfl ?_
  refine sv_aload_n (pc := 20) dX7_init_20 rfl rfl ?_
  refine sv_iconst (pc := 21) (v := (-1)) dX7_init_21 (by decide) ?_
  refine sw_putfield (pc := 22) dX7_init_22 (gCX7 _ _ _ _ _) 9 (by decide) wF_X7_18 rfl rfl rfl (fun _ => rfl) (fun _ => rfl) rfl ?_
  refine sv_vret (pc := 25) dX7_init_25 rfl (le_t rfl) (le_t rfl) ?_
  refine sw_aastore (pc := 80) (k := 2) dX0_init_80 (gCX7 _ _ _ _ _) rfl rfl rfl (by decide) (by decide) rfl rfl rfl ?_
  refine sw_iinc (pc := 81) (v := 3) dX0_init_81 rfl (by decide) (by decide) ?_
  refine sv_goto (pc := 84) (tgt := 47) dX0_init_84 (by decide) ?_
  refine sv_iload_n (pc := 47) dX0_init_47 rfl rfl ?_
  refine sv_bipush (pc := 48) (v := 10) dX0_init_48 (by decide) ?_
  refine sv_icmp_ge (pc := 50) (tgt := 87) dX0_init_50 (by decide) (fun h => absurd h (by decide)) (fun _ => ?_)
  refine sv_aload_n (pc := 53) dX0_init_53 rfl rfl ?_
  refine sw_getfield (pc := 54) dX0_init_54 (gCX0 _ _ _ _ _) 1 (by decide) wF_X0_19 rfl rfl rfl ?_
  refine sv_iload_n (pc := 57) dX0_init_57 rfl rfl ?_
  refine sv_iconst (pc := 58) (v := (-1)) dX0_init_58 (by decide) ?_
  refine sw_iastore (pc := 59) (k := 3) (v := .int (-1)) dX0_init_59 rfl rfl rfl (by decide) (by decide) rfl rfl ?_
  refine sv_aload_n (pc := 60) dX0_init_60 rfl rfl ?_
  refine sw_getfield (pc := 61) dX0_init_61 (gCX0 _ _ _ _ _) 2 (by decide) wF_X0_22 rfl rfl rfl ?_
  refine sv_iload_n (pc := 64) dX0_init_64 rfl rfl ?_
  refine sv_ldc (pc := 65) dX0_init_65 wG_X0_31 ?_
  refine sw_iastore (pc := 67) (k := 3) (v := .int (-99999999)) dX0_init_67 rfl rfl rfl (by decide) (by decide) rfl rfl ?_
  refine sv_aload_n (pc := 68) dX0_init_68 rfl rfl ?_
  refine sw_getfield (pc := 69) dX0_init_69 (gCX0 _ _ _ _ _) 3 (by decide) wF_X0_27 rfl rfl rfl ?_
  refine sv_iload_n (pc := 72) dX0_init_72 rfl rfl ?_
  refine sw_new (pc := 73) (a := 14) (n1 := 15) (ce1 := 14) (sl1 := 168) (fs := zX7) dX0_init_73 (gCX7 _ _ _ _ _) wC_X0_25 wN_X7 wI_X7 zX7_ok rfl rfl rfl rfl rfl rfl ?_
  refine sv_dup (pc := 76) dX0_init_76 rfl ?_
  refine sv_callI (pc := 77) (M' := mX7_init) (d' := 4) (C' := 2) (S' := 28) (av := []) ?_ (gOk _ _ _ _ _) dX0_init_77 (tX7_init _ _ _ _ _) rfl rfl wV_X7_init wM_X0_32 ⟨le_t rfl, le_t rfl⟩ ⟨le_t rfl, le_t rfl⟩ rfl (le_t rfl) (fun _ _ h => h)
  refine sC.of rfl (by decide) (le_t rfl) ?_
  refine sv_aload_n (pc := 0) dX7_init_0 rfl rfl ?_
  refine sv_objinit (pc := 1) dX7_init_1 wM_X7_3 wV_obj wK_obj ⟨le_t rfl, le_t rfl⟩ (le_t rfl) ?_
  refine sv_aload_n (pc := 4) dX7_init_4 rfl rfl ?_
  refine sv_bipush (pc := 5) (v := 20) dX7_init_5 (by decide) ?_
  refine sw_newarray (pc := 7) (kd := 0) (a := 15) (n1 := 16) (N := 20) (ce1 := 1) (sl1 := 20) (v := .int 0) dX7_init_7 rfl wA_int rfl (fun U => sI_Cond_int U _) (by decide) (by decide) rfl (fun _ => rfl) rfl rfl rfl rfl rfl rfl ?_
  refine sw_putfinal (pc := 9) dX7_init_9 (gCX7 _ _ _ _ _) 0 (by decide) wF_X7_9 rfl rfl rfl rfl rfl (fun _ => rfl) (fun _ => rfl) rfl ?_
  refine sv_aload_n (pc := 12) dX7_init_12 rfl rfl ?_
  refine sv_bipush (pc := 13) (v := 8) dX7_init_13 (by decide) ?_
  refine sw_newarray (pc := 15) (kd := 0) (a := 16) (n1 := 17) (N := 8) (ce1 := 2) (sl1 := 28) (v := .int 0) dX7_init_15 rfl wA_int rfl (fun U => sI_Cond_int U _) (by decide) (by decide) rfl (fun _ => rfl) rfl rfl rfl rfl rfl rfl ?_
  refine sw_putfinal (pc := 17) dX7_init_17 (gCX7 _ _ _ _ _) 1 (by decide) wF_X7_15 rfl rfl rfl rfl rfl (fun _ => rfl) (fun _ => rfl) rfl ?_
  refine sv_aload_n (pc := 20) dX7_init_20 rfl rfl ?_
  refine sv_iconst (pc := 21) (v := (-1)) dX7_init_21 (by decide) ?_
  refine sw_putfield (pc := 22) dX7_init_22 (gCX7 _ _ _ _ _) 9 (by decide) wF_X7_18 rfl rfl rfl (fun _ => rfl) (fun _ => rfl) rfl ?_
  refine sv_vret (pc := 25) dX7_init_25 rfl (le_t rfl) (le_t rfl) ?_
  refine sw_aastore (pc := 80) (k := 3) dX0_init_80 (gCX7 _ _ _ _ _) rfl rfl rfl (by decide) (by decide) rfl rfl rfl ?_
  refine sw_iinc (pc := 81) (v := 4) dX0_init_81 rfl (by decide) (by decide) ?_
  refine sv_goto (pc := 84) (tgt := 47) dX0_init_84 (by decide) ?_
  refine sv_iload_n (pc := 47) dX0_init_47 rfl rfl ?_
  refine sv_bipush (pc := 48) (v := 10) dX0_init_48 (by decide) ?_
  refine sv_icmp_ge (pc := 50) (tgt := 87) dX0_init_50 (by decide) (fun h => absurd h (by decide)) (fun _ => ?_)
  refine sv_aload_n (pc := 53) dX0_init_53 rfl rfl ?_
  refine sw_getfield (pc := 54) dX0_init_54 (gCX0 _ _ _ _ _) 1 (by decide) wF_X0_19 rfl rfl rfl ?_
  refine sv_iload_n (pc := 57) dX0_init_57 rfl rfl ?_
  refine sv_iconst (pc := 58) (v := (-1)) dX0_init_58 (by decide) ?_
  refine sw_iastore (pc := 59) (k := 4) (v := .int (-1)) dX0_init_59 rfl rfl rfl (by decide) (by decide) rfl rfl ?_
  refine sv_aload_n (pc := 60) dX0_init_60 rfl rfl ?_
  refine sw_getfield (pc := 61) dX0_init_61 (gCX0 _ _ _ _ _) 2 (by decide) wF_X0_22 rfl rfl rfl ?_
  refine sv_iload_n (pc := 64) dX0_init_64 rfl rfl ?_
  refine sv_ldc (pc := 65) dX0_init_65 wG_X0_31 ?_
  refine sw_iastore (pc := 67) (k := 4) (v := .int (-99999999)) dX0_init_67 rfl rfl rfl (by decide) (by decide) rfl rfl ?_
  refine sv_aload_n (pc := 68) dX0_init_68 rfl rfl ?_
  refine sw_getfield (pc := 69) dX0_init_69 (gCX0 _ _ _ _ _) 3 (by decide) wF_X0_27 rfl rfl rfl ?_
  refine sv_iload_n (pc := 72) dX0_init_72 rfl rfl ?_
  refine sw_new (pc := 73) (a := 17) (n1 := 18) (ce1 := 17) (sl1 := 208) (fs := zX7) dX0_init_73 (gCX7 _ _ _ _ _) wC_X0_25 wN_X7 wI_X7 zX7_ok rfl rfl rfl rfl rfl rfl ?_
  refine sv_dup (pc := 76) dX0_init_76 rfl ?_
  refine sv_callI (pc := 77) (M' := mX7_init) (d' := 4) (C' := 2) (S' := 28) (av := []) ?_ (gOk _ _ _ _ _) dX0_init_77 (tX7_init _ _ _ _ _) rfl rfl wV_X7_init wM_X0_32 ⟨le_t rfl, le_t rfl⟩ ⟨le_t rfl, le_t rfl⟩ rfl (le_t rfl) (fun _ _ h => h)
  refine sC.of rfl (by decide) (le_t rfl) ?_
  refine sv_aload_n (pc := 0) dX7_init_0 rfl rfl ?_
  refine sv_objinit (pc := 1) dX7_init_1 wM_X7_3 wV_obj wK_obj ⟨le_t rfl, le_t rfl⟩ (le_t rfl) ?_
  refine sv_aload_n (pc := 4) dX7_init_4 rfl rfl ?_
  refine sv_bipush (pc := 5) (v := 20) dX7_init_5 (by decide) ?_
  refine sw_newarray (pc := 7) (kd := 0) (a := 18) (n1 := 19) (N := 20) (ce1 := 1) (sl1 := 20) (v := .int 0) dX7_init_7 rfl wA_int rfl (fun U => sI_Cond_int U _) (by decide) (by decide) rfl (fun _ => rfl) rfl rfl rfl rfl rfl rfl ?_
  refine sw_putfinal (pc := 9) dX7_init_9 (gCX7 _ _ _ _ _) 0 (by decide) wF_X7_9 rfl rfl rfl rfl rfl (fun _ => rfl) (fun _ => rfl) rfl ?_
  refine sv_aload_n (pc := 12) dX7_init_12 rfl rfl ?_
  refine sv_bipush (pc := 13) (v := 8) dX7_init_13 (by decide) ?_
  refine sw_newarray (pc := 15) (kd := 0) (a := 19) (n1 := 20) (N := 8) (ce1 := 2) (sl1 := 28) (v := .int 0) dX7_init_15 rfl wA_int rfl (fun U => sI_Cond_int U _) (by decide) (by decide) rfl (fun _ => rfl) rfl rfl rfl rfl rfl rfl ?_
  refine sw_putfinal (pc := 17) dX7_init_17 (gCX7 _ _ _ _ _) 1 (by decide) wF_X7_15 rfl rfl rfl rfl rfl (fun _ => rfl) (fun _ => rfl) rfl ?_
  refine sv_aload_n (pc := 20) dX7_init_20 rfl rfl ?_
  refine sv_iconst (pc := 21) (v := (-1)) dX7_init_21 (by decide) ?_
  refine sw_putfield (pc := 22) dX7_init_22 (gCX7 _ _ _ _ _) 9 (by decide) wF_X7_18 rfl rfl rfl (fun _ => rfl) (fun _ => rfl) rfl ?_
  refine sv_vret (pc := 25) dX7_init_25 rfl (le_t rfl) (le_t rfl) ?_
  refine sw_aastore (pc := 80) (k := 4) dX0_init_80 (gCX7 _ _ _ _ _) rfl rfl rfl (by decide) (by decide) rfl rfl rfl ?_
  refine sw_iinc (pc := 81) (v := 5) dX0_init_81 rfl (by decide) (by decide) ?_
  refine sv_goto (pc := 84) (tgt := 47) dX0_init_84 (by decide) ?_
  refine sv_iload_n (pc := 47) dX0_init_47 rfl rfl ?_
  refine sv_bipush (pc := 48) (v := 10) dX0_init_48 (by decide) ?_
  refine sv_icmp_ge (pc := 50) (tgt := 87) dX0_init_50 (by decide) (fun h => absurd h (by decide)) (fun _ => ?_)
  refine sv_aload_n (pc := 53) dX0_init_53 rfl rfl ?_
  refine sw_getfield (pc := 54) dX0_init_54 (gCX0 _ _ _ _ _) 1 (by decide) wF_X0_19 rfl rfl rfl ?_
  refine sv_iload_n (pc := 57) dX0_init_57 rfl rfl ?_
  refine sv_iconst (pc := 58) (v := (-1)) dX0_init_58 (by decide) ?_
  refine sw_iastore (pc := 59) (k := 5) (v := .int (-1)) dX0_init_59 rfl rfl rfl (by decide) (by decide) rfl rfl ?_
  refine sv_aload_n (pc := 60) dX0_init_60 rfl rfl ?_
  refine sw_getfield (pc := 61) dX0_init_61 (gCX0 _ _ _ _ _) 2 (by decide) wF_X0_22 rfl rfl rfl ?_
  refine sv_iload_n (pc := 64) dX0_init_64 rfl rfl ?_
  refine sv_ldc (pc := 65) dX0_init_65 wG_X0_31 ?_
  refine sw_iastore (pc := 67) (k := 5) (v := .int (-99999999)) dX0_init_67 rfl rfl rfl (by decide) (by decide) rfl rfl ?_
  refine sv_aload_n (pc := 68) dX0_init_68 rfl rfl ?_
  refine sw_getfield (pc := 69) dX0_init_69 (gCX0 _ _ _ _ _) 3 (by decide) wF_X0_27 rfl rfl rfl ?_
  refine sv_iload_n (pc := 72) dX0_init_72 rfl rfl ?_
  refine sw_new (pc := 73) (a := 20) (n1 := 21) (ce1 := 20) (sl1 := 248) (fs := zX7) dX0_init_73 (gCX7 _ _ _ _ _) wC_X0_25 wN_X7 wI_X7 zX7_ok rfl rfl rfl rfl rfl rfl ?_
  refine sv_dup (pc := 76) dX0_init_76 rfl ?_
  refine sv_callI (pc := 77) (M' := mX7_init) (d' := 4) (C' := 2) (S' := 28) (av := []) ?_ (gOk _ _ _ _ _) dX0_init_77 (tX7_init _ _ _ _ _) rfl rfl wV_X7_init wM_X0_32 ⟨le_t rfl, le_t rfl⟩ ⟨le_t rfl, le_t rfl⟩ rfl (le_t rfl) (fun _ _ h => h)
  refine sC.of rfl (by decide) (le_t rfl) ?_
  refine sv_aload_n (pc := 0) dX7_init_0 rfl rfl ?_
  refine sv_objinit (pc := 1) dX7_init_1 wM_X7_3 wV_obj wK_obj ⟨le_t rfl, le_t rfl⟩ (le_t rfl) ?_
  refine sv_aload_n (pc := 4) dX7_init_4 rfl rfl ?_
  refine sv_bipush (pc := 5) (v := 20) dX7_init_5 (by decide) ?_
  refine sw_newarray (pc := 7) (kd := 0) (a := 21) (n1 := 22) (N := 20) (ce1 := 1) (sl1 := 20) (v := .int 0) dX7_init_7 rfl wA_int rfl (fun U => sI_Cond_int U _) (by decide) (by decide) rfl (fun _ => rfl) rfl rfl rfl rfl rfl rfl ?_
  refine sw_putfinal (pc := 9) dX7_init_9 (gCX7 _ _ _ _ _) 0 (by decide) wF_X7_9 rfl rfl rfl rfl rfl (fun _ => rfl) (fun _ => rfl) rfl ?_
  refine sv_aload_n (pc := 12) dX7_init_12 rfl rfl ?_
  refine sv_bipush (pc := 13) (v := 8) dX7_init_13 (by decide) ?_
  refine sw_newarray (pc := 15) (kd := 0) (a := 22) (n1 := 23) (N := 8) (ce1 := 2) (sl1 := 28) (v := .int 0) dX7_init_15 rfl wA_int rfl (fun U => sI_Cond_int U _) (by decide) (by decide) rfl (fun _ => rfl) rfl rfl rfl rfl rfl rfl ?_
  refine sw_putfinal (pc := 17) dX7_init_17 (gCX7 _ _ _ _ _) 1 (by decide) wF_X7_15 rfl rfl rfl rfl rfl (fun _ => rfl) (fun _ => rfl) rfl ?_
  refine sv_aload_n (pc := 20) dX7_init_20 rfl rfl ?_
  refine sv_iconst (pc := 21) (v := (-1)) dX7_init_21 (by decide) ?_
  refine sw_putfield (pc := 22) dX7_init_22 (gCX7 _ _ _ _ _) 9 (by decide) wF_X7_18 rfl rfl rfl (fun _ => rfl) (fun _ => rfl) rfl ?_
  refine sv_vret (pc := 25) dX7_init_25 rfl (le_t rfl) (le_t rfl) ?_
  refine sw_aastore (pc := 80) (k := 5) dX0_init_80 (gCX7 _ _ _ _ _) rfl rfl rfl (by decide) (by decide) rfl rfl rfl ?_
  refine sw_iinc (pc := 81) (v := 6) dX0_init_81 rfl (by decide) (by decide) ?_
  refine sv_goto (pc := 84) (tgt := 47) dX0_init_84 (by decide) ?_
  refine sv_iload_n (pc := 47) dX0_init_47 rfl rfl ?_
  refine sv_bipush (pc := 48) (v := 10) dX0_init_48 (by decide) ?_
  refine sv_icmp_ge (pc := 50) (tgt := 87) dX0_init_50 (by decide) (fun h => absurd h (by decide)) (fun _ => ?_)
  refine sv_aload_n (pc := 53) dX0_init_53 rfl rfl ?_
  refine sw_getfield (pc := 54) dX0_init_54 (gCX0 _ _ _ _ _) 1 (by decide) wF_X0_19 rfl rfl rfl ?_
  refine sv_iload_n (pc := 57) dX0_init_57 rfl rfl ?_
  refine sv_iconst (pc := 58) (v := (-1)) dX0_init_58 (by decide) ?_
  refine sw_iastore (pc := 59) (k := 6) (v := .int (-1)) dX0_init_59 rfl rfl rfl (by decide) (by decide) rfl rfl ?_
  refine sv_aload_n (pc := 60) dX0_init_60 rfl rfl ?_
  refine sw_getfield (pc := 61) dX0_init_61 (gCX0 _ _ _ _ _) 2 (by decide) wF_X0_22 rfl rfl rfl ?_
  refine sv_iload_n (pc := 64) dX0_init_64 rfl rfl ?_
  refine sv_ldc (pc := 65) dX0_init_65 wG_X0_31 ?_
  refine sw_iastore (pc := 67) (k := 6) (v := .int (-99999999)) dX0_init_67 rfl rfl rfl (by decide) (by decide) rfl rfl ?_
  refine sv_aload_n (pc := 68) dX0_init_68 rfl rfl ?_
  refine sw_getfield (pc := 69) dX0_init_69 (gCX0 _ _ _ _ _) 3 (by decide) wF_X0_27 rfl rfl rfl ?_
  refine sv_iload_n (pc := 72) dX0_init_72 rfl rfl ?_
  refine sw_new (pc := 73) (a := 23) (n1 := 24) (ce1 := 23) (sl1 := 288) (fs := zX7) dX0_init_73 (gCX7 _ _ _ _ _) wC_X0_25 wN_X7 wI_X7 zX7_ok rfl rfl rfl rfl rfl rfl ?_
  refine sv_dup (pc := 76) dX0_init_76 rfl ?_
  refine sv_callI (pc := 77) (M' := mX7_init) (d' := 4) (C' := 2) (S' := 28) (av := []) ?_ (gOk _ _ _ _ _) dX0_init_77 (tX7_init _ _ _ _ _) rfl rfl wV_X7_init wM_X0_32 ⟨le_t rfl, le_t rfl⟩ ⟨le_t rfl, le_t rfl⟩ rfl (le_t rfl) (fun _ _ h => h)
  refine sC.of rfl (by decide) (le_t rfl) ?_
  refine sv_aload_n (pc := 0) dX7_init_0 rfl rfl ?_
  refine sv_objinit (pc := 1) dX7_init_1 wM_X7_3 wV_obj wK_obj ⟨le_t rfl, le_t rfl⟩ (le_t rfl) ?_
  refine sv_aload_n (pc := 4) dX7_init_4 rfl rfl ?_
  refine sv_bipush (pc := 5) (v := 20) dX7_init_5 (by decide) ?_
  refine sw_newarray (pc := 7) (kd := 0) (a := 24) (n1 := 25) (N := 20) (ce1 := 1) (sl1 := 20) (v := .int 0) dX7_init_7 rfl wA_int rfl (fun U => sI_Cond_int U _) (by decide) (by decide) rfl (fun _ => rfl) rfl rfl rfl rfl rfl rfl ?_
  refine sw_putfinal (pc := 9) dX7_init_9 (gCX7 _ _ _ _ _) 0 (by decide) wF_X7_9 rfl rfl rfl rfl rfl (fun _ => rfl) (fun _ => rfl) rfl ?_
  refine sv_aload_n (pc := 12) dX7_init_12 rfl rfl ?_
  refine sv_bipush (pc := 13) (v := 8) dX7_init_13 (by decide) ?_
  refine sw_newarray (pc := 15) (kd := 0) (a := 25) (n1 := 26) (N := 8) (ce1 := 2) (sl1 := 28) (v := .int 0) dX7_init_15 rfl wA_int rfl (fun U => sI_Cond_int U _) (by decide) (by decide) rfl (fun _ => rfl) rfl rfl rfl rfl rfl rfl ?_
  refine sw_putfinal (pc := 17) dX7_init_17 (gCX7 _ _ _ _ _) 1 (by decide) wF_X7_15 rfl rfl rfl rfl rfl (fun _ => rfl) (fun _ => rfl) rfl ?_
  refine sv_aload_n (pc := 20) dX7_init_20 rfl rfl ?_
  refine sv_iconst (pc := 21) (v := (-1)) dX7_init_21 (by decide) ?_
  refine sw_putfield (pc := 22) dX7_init_22 (gCX7 _ _ _ _ _) 9 (by decide) wF_X7_18 rfl rfl rfl (fun _ => rfl) (fun _ => rfl) rfl ?_
  refine sv_vret (pc := 25) dX7_init_25 rfl (le_t rfl) (le_t rfl) ?_
  refine sw_aastore (pc := 80) (k := 6) dX0_init_80 (gCX7 _ _ _ _ _) rfl rfl rfl (by decide) (by decide) rfl rfl rfl ?_
  refine sw_iinc (pc := 81) (v := 7) dX0_init_81 rfl (by decide) (by decide) ?_
  refine sv_lvG (pc := 84) (lv' := [(0, .ref 0), (1, .int 7)]) (List.forall_mem_cons.mpr ⟨rfl, List.forall_mem_cons.mpr ⟨rfl, fun _ h => absurd h List.not_mem_nil⟩⟩) ?_
  refine sv_goto (pc := 84) (tgt := 47) dX0_init_84 (by decide) ?_
  refine sv_iload_n (pc := 47) dX0_init_47 rfl rfl ?_
  refine sv_bipush (pc := 48) (v := 10) dX0_init_48 (by decide) ?_
  refine sv_icmp_ge (pc := 50) (tgt := 87) dX0_init_50 (by decide) (fun h => absurd h (by decide)) (fun _ => ?_)
  refine sv_aload_n (pc := 53) dX0_init_53 rfl rfl ?_
  refine sw_getfield (pc := 54) dX0_init_54 (gCX0 _ _ _ _ _) 1 (by decide) wF_X0_19 rfl rfl rfl ?_
  refine sv_iload_n (pc := 57) dX0_init_57 rfl rfl ?_
  refine sv_iconst (pc := 58) (v := (-1)) dX0_init_58 (by decide) ?_
  refine sw_iastore (pc := 59) (k := 7) (v := .int (-1)) dX0_init_59 rfl rfl rfl (by decide) (by decide) rfl rfl ?_
  refine sv_aload_n (pc := 60) dX0_init_60 rfl rfl ?_
  refine sw_getfield (pc := 61) dX0_init_61 (gCX0 _ _ _ _ _) 2 (by decide) wF_X0_22 rfl rfl rfl ?_
  refine sv_iload_n (pc := 64) dX0_init_64 rfl rfl ?_
  refine sv_ldc (pc := 65) dX0_init_65 wG_X0_31 ?_
  refine sw_iastore (pc := 67) (k := 7) (v := .int (-99999999)) dX0_init_67 rfl rfl rfl (by decide) (by decide) rfl rfl ?_
  refine sv_aload_n (pc := 68) dX0_init_68 rfl rfl ?_
  refine sw_getfield (pc := 69) dX0_init_69 (gCX0 _ _ _ _ _) 3 (by decide) wF_X0_27 rfl rfl rfl ?_
  refine sv_iload_n (pc := 72) dX0_init_72 rfl rfl ?_
  refine sw_new (pc := 73) (a := 26) (n1 := 27) (ce1 := 26) (sl1 := 328) (fs := zX7) dX0_init_73 (gCX7 _ _ _ _ _) wC_X0_25 wN_X7 wI_X7 zX7_ok rfl rfl rfl rfl rfl rfl ?_
  refine sv_dup (pc := 76) dX0_init_76 rfl ?_
  refine sv_callI (pc := 77) (M' := mX7_init) (d' := 4) (C' := 2) (S' := 28) (av := []) ?_ (gOk _ _ _ _ _) dX0_init_77 (tX7_init _ _ _ _ _) rfl rfl wV_X7_init wM_X0_32 ⟨le_t rfl, le_t rfl⟩ ⟨le_t rfl, le_t rfl⟩ rfl (le_t rfl) (fun _ _ h => h)
  refine sC.of rfl (by decide) (le_t rfl) ?_
  refine sv_aload_n (pc := 0) dX7_init_0 rfl rfl ?_
  refine sv_objinit (pc := 1) dX7_init_1 wM_X7_3 wV_obj wK_obj ⟨le_t rfl, le_t rfl⟩ (le_t rfl) ?_
  refine sv_aload_n (pc := 4) dX7_init_4 rfl rfl ?_
  refine sv_bipush (pc := 5) (v := 20) dX7_init_5 (by decide) ?_
  refine sw_newarray (pc := 7) (kd := 0) (a := 27) (n1 := 28) (N := 20) (ce1 := 1) (sl1 := 20) (v := .int 0) dX7_init_7 rfl wA_int rfl (fun U => sI_Cond_int U _) (by decide) (by decide) rfl (fun _ => rfl) rfl rfl rfl rfl rfl rfl ?_
  refine sw_putfinal (pc := 9) dX7_init_9 (gCX7 _ _ _ _ _) 0 (by decide) wF_X7_9 rfl rfl rfl rfl rfl (fun _ => rfl) (fun _ => rfl) rfl ?_
  refine sv_aload_n (pc := 12) dX7_init_12 rfl rfl ?_
  refine sv_bipush (pc := 13) (v := 8) dX7_init_13 (by decide) ?_
  refine sw_newarray (pc := 15) (kd := 0) (a := 28) (n1 := 29) (N := 8) (ce1 := 2) (sl1 := 28) (v := .int 0) dX7_init_15 rfl wA_int rfl (fun U => sI_Cond_int U _) (by decide) (by decide) rfl (fun _ => rfl) rfl rfl rfl rfl rfl rfl ?_
  refine sw_putfinal (pc := 17) dX7_init_17 (gCX7 _ _ _ _ _) 1 (by decide) wF_X7_15 rfl rfl rfl rfl rfl (fun _ => rfl) (fun _ => rfl) rfl ?_
  refine sv_aload_n (pc := 20) dX7_init_20 rfl rfl ?_
  refine sv_iconst (pc := 21) (v := (-1)) dX7_init_21 (by decide) ?_
  refine sw_putfield (pc := 22) dX7_init_22 (gCX7 _ _ _ _ _) 9 (by decide) wF_X7_18 rfl rfl rfl (fun _ => rfl) (fun _ => rfl) rfl ?_
  refine sv_vret (pc := 25) dX7_init_25 rfl (le_t rfl) (le_t rfl) ?_
  refine sw_aastore (pc := 80) (k := 7) dX0_init_80 (gCX7 _ _ _ _ _) rfl rfl rfl (by decide) (by decide) rfl rfl rfl ?_
  refine sw_iinc (pc := 81) (v := 8) dX0_init_81 rfl (by decide) (by decide) ?_
  refine sv_goto (pc := 84) (tgt := 47) dX0_init_84 (by decide) ?_
  refine sv_iload_n (pc := 47) dX0_init_47 rfl rfl ?_
  refine sv_bipush (pc := 48) (v := 10) dX0_init_48 (by decide) ?_
  refine sv_icmp_ge (pc := 50) (tgt := 87) dX0_init_50 (by decide) (fun h => absurd h (by decide)) (fun _ => ?_)
  refine sv_aload_n (pc := 53) dX0_init_53 rfl rfl ?_
  refine sw_getfield (pc := 54) dX0_init_54 (gCX0 _ _ _ _ _) 1 (by decide) wF_X0_19 rfl rfl rfl ?_
  refine sv_iload_n (pc := 57) dX0_init_57 rfl rfl ?_
  refine sv_iconst (pc := 58) (v := (-1)) dX0_init_58 (by decide) ?_
  refine sw_iastore (pc := 59) (k := 8) (v := .int (-1)) dX0_init_59 rfl rfl rfl (by decide) (by decide) rfl rfl ?_
  refine sv_aload_n (pc := 60) dX0_init_60 rfl rfl ?_
  refine sw_getfield (pc := 61) dX0_init_61 (gCX0 _ _ _ _ _) 2 (by decide) wF_X0_22 rfl rfl rfl ?_
  refine sv_iload_n (pc := 64) dX0_init_64 rfl rfl ?_
  refine sv_ldc (pc := 65) dX0_init_65 wG_X0_31 ?_
  refine sw_iastore (pc := 67) (k := 8) (v := .int (-99999999)) dX0_init_67 rfl rfl rfl (by decide) (by decide) rfl rfl ?_
  refine sv_aload_n (pc := 68) dX0_init_68 rfl rfl ?_
  refine sw_getfield (pc := 69) dX0_init_69 (gCX0 _ _ _ _ _) 3 (by decide) wF_X0_27 rfl rfl rfl ?_
  refine sv_iload_n (pc := 72) dX0_init_72 rfl rfl ?_
  refine sw_new (pc := 73) (a := 29) (n1 := 30) (ce1 := 29) (sl1 := 368) (fs := zX7) dX0_init_73 (gCX7 _ _ _ _ _) wC_X0_25 wN_X7 wI_X7 zX7_ok rfl rfl rfl rfl rfl rfl ?_
  refine sv_dup (pc := 76) dX0_init_76 rfl ?_
  refine sv_callI (pc := 77) (M' := mX7_init) (d' := 4) (C' := 2) (S' := 28) (av := []) ?_ (gOk _ _ _ _ _) dX0_init_77 (tX7_init _ _ _ _ _) rfl rfl wV_X7_init wM_X0_32 ⟨le_t rfl, le_t rfl⟩ ⟨le_t rfl, le_t rfl⟩ rfl (le_t rfl) (fun _ _ h => h)
  refine sC.of rfl (by decide) (le_t rfl) ?_
  refine sv_aload_n (pc := 0) dX7_init_0 rfl rfl ?_
  refine sv_objinit (pc := 1) dX7_init_1 wM_X7_3 wV_obj wK_obj ⟨le_t rfl, le_t rfl⟩ (le_t rfl) ?_
  refine sv_aload_n (pc := 4) dX7_init_4 rfl rfl ?_
  refine sv_bipush (pc := 5) (v := 20) dX7_init_5 (by decide) ?_
  refine sw_newarray (pc := 7) (kd := 0) (a := 30) (n1 := 31) (N := 20) (ce1 := 1) (sl1 := 20) (v := .int 0) dX7_init_7 rfl wA_int rfl (fun U => sI_Cond_int U _) (by decide) (by decide) rfl (fun _ => rfl) rfl rfl rfl rfl rfl rfl ?_
  refine sw_putfinal (pc := 9) dX7_init_9 (gCX7 _ _ _ _ _) 0 (by decide) wF_X7_9 rfl rfl rfl rfl rfl (fun _ => rfl) (fun _ => rfl) rfl ?_
  refine sv_aload_n (pc := 12) dX7_init_12 rfl rfl ?_
  refine sv_bipush (pc := 13) (v := 8) dX7_init_13 (by decide) ?_
  refine sw_newarray (pc := 15) (kd := 0) (a := 31) (n1 := 32) (N := 8) (ce1 := 2) (sl1 := 28) (v := .int 0) dX7_init_15 rfl wA_int rfl (fun U => sI_Cond_int U _) (by decide) (by decide) rfl (fun _ => rfl) rfl rfl rfl rfl rfl rfl ?_
  refine sw_putfinal (pc := 17) dX7_init_17 (gCX7 _ _ _ _ _) 1 (by decide) wF_X7_15 rfl rfl rfl rfl rfl (fun _ => rfl) (fun _ => rfl) rfl ?_
  refine sv_aload_n (pc := 20) dX7_init_20 rfl rfl ?_
  refine sv_iconst (pc := 21) (v := (-1)) dX7_init_21 (by decide) ?_
  refine sw_putfield (pc := 22) dX7_init_22 (gCX7 _ _ _ _ _) 9 (by decide) wF_X7_18 rfl rfl rfl (fun _ => rfl) (fun _ => rfl) rfl ?_
  refine sv_vret (pc := 25) dX7_init_25 rfl (le_t rfl) (le_t rfl) ?_
  refine sw_aastore (pc := 80) (k := 8) dX0_init_80 (gCX7 _ _ _ _ _) rfl rfl rfl (by decide) (by decide) rfl rfl rfl ?_
  refine sw_iinc (pc := 81) (v := 9) dX0_init_81 rfl (by decide) (by decide) ?_
  refine sv_goto (pc := 84) (tgt := 47) dX0_init_84 (by decide) ?_
  refine sv_iload_n (pc := 47) dX0_init_47 rfl rfl ?_
  refine sv_bipush (pc := 48) (v := 10) dX0_init_48 (by decide) ?_
  refine sv_icmp_ge (pc := 50) (tgt := 87) dX0_init_50 (by decide) (fun h => absurd h (by decide)) (fun _ => ?_)
  refine sv_aload_n (pc := 53) dX0_init_53 rfl rfl ?_
  refine sw_getfield (pc := 54) dX0_init_54 (gCX0 _ _ _ _ _) 1 (by decide) wF_X0_19 rfl rfl rfl ?_
  refine sv_iload_n (pc := 57) dX0_init_57 rfl rfl ?_
  refine sv_iconst (pc := 58) (v := (-1)) dX0_init_58 (by decide) ?_
  refine sw_iastore (pc := 59) (k := 9) (v := .int (-1)) dX0_init_59 rfl rfl rfl (by decide) (by decide) rfl rfl ?_
  refine sv_aload_n (pc := 60) dX0_init_60 rfl rfl ?_
  refine sw_getfield (pc := 61) dX0_init_61 (gCX0 _ _ _ _ _) 2 (by decide) wF_X0_22 rfl rfl rfl ?_
  refine sv_iload_n (pc := 64) dX0_init_64 rfl rfl ?_
  refine sv_ldc (pc := 65) dX0_init_65 wG_X0_31 ?_
  refine sw_iastore (pc := 67) (k := 9) (v := .int (-99999999)) dX0_init_67 rfl rfl rfl (by decide) (by decide) rfl rfl ?_
  refine sv_aload_n (pc := 68) dX0_init_68 rfl rfl ?_
  refine sw_getfield (pc := 69) dX0_init_69 (gCX0 _ _ _ _ _) 3 (by decide) wF_X0_27 rfl rfl rfl ?_
  refine sv_iload_n (pc := 72) dX0_init_72 rfl rfl ?_
  refine sw_new (pc := 73) (a := 32) (n1 := 33) (ce1 := 32) (sl1 := 408) (fs := zX7) dX0_init_73 (gCX7 _ _ _ _ _) wC_X0_25 wN_X7 wI_X7 zX7_ok rfl rfl rfl rfl rfl rfl ?_
  refine sv_dup (pc := 76) dX0_init_76 rfl ?_
  refine sv_callI (pc := 77) (M' := mX7_init) (d' := 4) (C' := 2) (S' := 28) (av := []) ?_ (gOk _ _ _ _ _) dX0_init_77 (tX7_init _ _ _ _ _) rfl rfl wV_X7_init wM_X0_32 ⟨le_t rfl, le_t rfl⟩ ⟨le_t rfl, le_t rfl⟩ rfl (le_t rfl) (fun _ _ h => h)
  refine sC.of rfl (by decide) (le_t rfl) ?_
  refine sv_aload_n (pc := 0) dX7_init_0 rfl rfl ?_
  refine sv_objinit (pc := 1) dX7_init_1 wM_X7_3 wV_obj wK_obj ⟨le_t rfl, le_t rfl⟩ (le_t rfl) ?_
  refine sv_aload_n (pc := 4) dX7_init_4 rfl rfl ?_
  refine sv_bipush (pc := 5) (v := 20) dX7_init_5 (by decide) ?_
  refine sw_newarray (pc := 7) (kd := 0) (a := 33) (n1 := 34) (N := 20) (ce1 := 1) (sl1 := 20) (v := .int 0) dX7_init_7 rfl wA_int rfl (fun U => sI_Cond_int U _) (by decide) (by decide) rfl (fun _ => rfl) rfl rfl rfl rfl rfl rfl ?_
  refine sw_putfinal (pc := 9) dX7_init_9 (gCX7 _ _ _ _ _) 0 (by decide) wF_X7_9 rfl rfl rfl rfl rfl (fun _ => rfl) (fun _ => rfl) rfl ?_
  refine sv_aload_n (pc := 12) dX7_init_12 rfl rfl ?_
  refine sv_bipush (pc := 13) (v := 8) dX7_init_13 (by decide) ?_
  refine sw_newarray (pc := 15) (kd := 0) (a := 34) (n1 := 35) (N := 8) (ce1 := 2) (sl1 := 28) (v := .int 0) dX7_init_15 rfl wA_int rfl (fun U => sI_Cond_int U _) (by decide) (by decide) rfl (fun _ => rfl) rfl rfl rfl rfl rfl rfl ?_
  refine sw_putfinal (pc := 17) dX7_init_17 (gCX7 _ _ _ _ _) 1 (by decide) wF_X7_15 rfl rfl rfl rfl rfl (fun _ => rfl) (fun _ => rfl) rfl ?_
  refine sv_aload_n (pc := 20) dX7_init_20 rfl rfl ?_
  refine sv_iconst (pc := 21) (v := (-1)) dX7_init_21 (by decide) ?_
  refine sw_putfield (pc := 22) dX7_init_22 (gCX7 _ _ _ _ _) 9 (by decide) wF_X7_18 rfl rfl rfl (fun _ => rfl) (fun _ => rfl) rfl ?_
  refine sv_vret (pc := 25) dX7_init_25 rfl (le_t rfl) (le_t rfl) ?_
  refine sw_aastore (pc := 80) (k := 9) dX0_init_80 (gCX7 _ _ _ _ _) rfl rfl rfl (by decide) (by decide) rfl rfl rfl ?_
  refine sw_iinc (pc := 81) (v := 10) dX0_init_81 rfl (by decide) (by decide) ?_
  refine sv_goto (pc := 84) (tgt := 47) dX0_init_84 (by decide) ?_
  refine sv_iload_n (pc := 47) dX0_init_47 rfl rfl ?_
  refine sv_bipush (pc := 48) (v := 10) dX0_init_48 (by decide) ?_
  refine sv_icmp_ge (pc := 50) (tgt := 87) dX0_init_50 (by decide) (fun _ => ?_) (fun h => absurd (by decide) h)
  refine sv_vret dX0_init_87 rfl (le_t rfl) (le_t rfl) ⟨rfl, rfl, fun j hj => ?_⟩
  match j, hj with
  | 0, _ => exact rfl
  | 1, _ => exact rfl
  | 2, _ => exact rfl
  | 3, _ => exact rfl
  | 4, _ => exact rfl
  | 5, _ => exact rfl
  | 6, _ => exact rfl
  | 7, _ => exact rfl
  | 8, _ => exact rfl
  | 9, _ => exact rfl
  | 10, _ => exact rfl
  | 11, _ => exact rfl
  | 12, _ => exact rfl
  | 13, _ => exact rfl
  | 14, _ => exact rfl
  | 15, _ => exact rfl
  | 16, _ => exact rfl
  | 17, _ => exact rfl
  | 18, _ => exact rfl
  | 19, _ => exact rfl
  | 20, _ => exact rfl
  | 21, _ => exact rfl
  | 22, _ => exact rfl
  | 23, _ => exact rfl
  | 24, _ => exact rfl
  | 25, _ => exact rfl
  | 26, _ => exact rfl
  | 27, _ => exact rfl
  | 28, _ => exact rfl
  | 29, _ => exact rfl
  | 30, _ => exact rfl
  | 31, _ => exact rfl
  | 32, _ => exact rfl
  | 33, _ => exact rfl
  | 34, _ => exact rfl
  | n + 35, h => exact absurd h (by omega)
/-- the cells of a new object -/
def tX9N (xa xb xk : Int32) : Nat → sE := fun j => match j with
  | 0 => .inr (9, [.int xa, .int xb, .int xk, .ref 1, .ref 2, .ref 3, .int 1, .int 1, .int 0])
  | 1 => .inl (0, 4, updV (updV (updV (updV (fun _ => .int 0) 0 (.int (-99999999))) 1 (.int (-99999999))) 2 (.int (-99999999))) 3 (.int (-99999999)))
  | 2 => .inl (4, 20, updV (updV (updV (updV (updV (updV (updV (updV (updV (updV (updV (updV (updV (updV (updV (updV (updV (updV (updV (updV (fun _ => .null) 0 (.ref 4)) 1 (.ref 10)) 2 (.ref 16)) 3 (.ref 22)) 4 (.ref 28)) 5 (.ref 34)) 6 (.ref 40)) 7 (.ref 46)) 8 (.ref 52)) 9 (.ref 58)) 10 (.ref 64)) 11 (.ref 70)) 12 (.ref 76)) 13 (.ref 82)) 14 (.ref 88)) 15 (.ref 94)) 16 (.ref 100)) 17 (.ref 106)) 18 (.ref 112)) 19 (.ref 118))
  | 3 => .inl (4, 20, updV (updV (updV (updV (updV (updV (updV (updV (updV (updV (updV (updV (updV (updV (updV (updV (updV (updV (updV (updV (fun _ => .null) 0 (.ref 7)) 1 (.ref 13)) 2 (.ref 19)) 3 (.ref 25)) 4 (.ref 31)) 5 (.ref 37)) 6 (.ref 43)) 7 (.ref 49)) 8 (.ref 55)) 9 (.ref 61)) 10 (.ref 67)) 11 (.ref 73)) 12 (.ref 79)) 13 (.ref 85)) 14 (.ref 91)) 15 (.ref 97)) 16 (.ref 103)) 17 (.ref 109)) 18 (.ref 115)) 19 (.ref 121))
  | 4 => .inr (7, [.ref 5, .ref 6, .int 0, .int 0, .int 0, .int 0, .int 0, .int 0, .int 0, .int (-1), .int 0, .int 0])
  | 5 => .inl (0, 20, fun _ => .int 0)
  | 6 => .inl (0, 8, fun _ => .int 0)
  | 7 => .inr (7, [.ref 8, .ref 9, .int 0, .int 0, .int 0, .int 0, .int 0, .int 0, .int 0, .int (-1), .int 0, .int 0])
  | 8 => .inl (0, 20, fun _ => .int 0)
  | 9 => .inl (0, 8, fun _ => .int 0)
  | 10 => .inr (7, [.ref 11, .ref 12, .int 0, .int 0, .int 0, .int 0, .int 0, .int 0, .int 0, .int (-1), .int 0, .int 0])
  | 11 => .inl (0, 20, fun _ => .int 0)
  | 12 => .inl (0, 8, fun _ => .int 0)
  | 13 => .inr (7, [.ref 14, .ref 15, .int 0, .int 0, .int 0, .int 0, .int 0, .int 0, .int 0, .int (-1), .int 0, .int 0])
  | 14 => .inl (0, 20, fun _ => .int 0)
  | 15 => .inl (0, 8, fun _ => .int 0)
  | 16 => .inr (7, [.ref 17, .ref 18, .int 0, .int 0, .int 0, .int 0, .int 0, .int 0, .int 0, .int (-1), .int 0, .int 0])
  | 17 => .inl (0, 20, fun _ => .int 0)
  | 18 => .inl (0, 8, fun _ => .int 0)
  | 19 => .inr (7, [.ref 20, .ref 21, .int 0, .int 0, .int 0, .int 0, .int 0, .int 0, .int 0, .int (-1), .int 0, .int 0])
  | 20 => .inl (0, 20, fun _ => .int 0)
  | 21 => .inl (0, 8, fun _ => .int 0)
  | 22 => .inr (7, [.ref 23, .ref 24, .int 0, .int 0, .int 0, .int 0, .int 0, .int 0, .int 0, .int (-1), .int 0, .int 0])
  | 23 => .inl (0, 20, fun _ => .int 0)
  | 24 => .inl (0, 8, fun _ => .int 0)
  | 25 => .inr (7, [.ref 26, .ref 27, .int 0, .int 0, .int 0, .int 0, .int 0, .int 0, .int 0, .int (-1), .int 0, .int 0])
  | 26 => .inl (0, 20, fun _ => .int 0)
  | 27 => .inl (0, 8, fun _ => .int 0)
  | 28 => .inr (7, [.ref 29, .ref 30, .int 0, .int 0, .int 0, .int 0, .int 0, .int 0, .int 0, .int (-1), .int 0, .int 0])
  | 29 => .inl (0, 20, fun _ => .int 0)
  | 30 => .inl (0, 8, fun _ => .int 0)
  | 31 => .inr (7, [.ref 32, .ref 33, .int 0, .int 0, .int 0, .int 0, .int 0, .int 0, .int 0, .int (-1), .int 0, .int 0])
  | 32 => .inl (0, 20, fun _ => .int 0)
  | 33 => .inl (0, 8, fun _ => .int 0)
  | 34 => .inr (7, [.ref 35, .ref 36, .int 0, .int 0, .int 0, .int 0, .int 0, .int 0, .int 0, .int (-1), .int 0, .int 0])
  | 35 => .inl (0, 20, fun _ => .int 0)
  | 36 => .inl (0, 8, fun _ => .int 0)
  | 37 => .inr (7, [.ref 38, .ref 39, .int 0, .int 0, .int 0, .int 0, .int 0, .int 0, .int 0, .int (-1), .int 0, .int 0])
  | 38 => .inl (0, 20, fun _ => .int 0)
  | 39 => .inl (0, 8, fun _ => .int 0)
  | 40 => .inr (7, [.ref 41, .ref 42, .int 0, .int 0, .int 0, .int 0, .int 0, .int 0, .int 0, .int (-1), .int 0, .int 0])
  | 41 => .inl (0, 20, fun _ => .int 0)
  | 42 => .inl (0, 8, fun _ => .int 0)
  | 43 => .inr (7, [.ref 44, .ref 45, .int 0, .int 0, .int 0, .int 0, .int 0, .int 0, .int 0, .int (-1), .int 0, .int 0])
  | 44 => .inl (0, 20, fun _ => .int 0)
  | 45 => .inl (0, 8, fun _ => .int 0)
  | 46 => .inr (7, [.ref 47, .ref 48, .int 0, .int 0, .int 0, .int 0, .int 0, .int 0, .int 0, .int (-1), .int 0, .int 0])
  | 47 => .inl (0, 20, fun _ => .int 0)
  | 48 => .inl (0, 8, fun _ => .int 0)
  | 49 => .inr (7, [.ref 50, .ref 51, .int 0, .int 0, .int 0, .int 0, .int 0, .int 0, .int 0, .int (-1), .int 0, .int 0])
  | 50 => .inl (0, 20, fun _ => .int 0)
  | 51 => .inl (0, 8, fun _ => .int 0)
  | 52 => .inr (7, [.ref 53, .ref 54, .int 0, .int 0, .int 0, .int 0, .int 0, .int 0, .int 0, .int (-1), .int 0, .int 0])
  | 53 => .inl (0, 20, fun _ => .int 0)
  | 54 => .inl (0, 8, fun _ => .int 0)
  | 55 => .inr (7, [.ref 56, .ref 57, .int 0, .int 0, .int 0, .int 0, .int 0, .int 0, .int 0, .int (-1), .int 0, .int 0])
  | 56 => .inl (0, 20, fun _ => .int 0)
  | 57 => .inl (0, 8, fun _ => .int 0)
  | 58 => .inr (7, [.ref 59, .ref 60, .int 0, .int 0, .int 0, .int 0, .int 0, .int 0, .int 0, .int (-1), .int 0, .int 0])
  | 59 => .inl (0, 20, fun _ => .int 0)
  | 60 => .inl (0, 8, fun _ => .int 0)
  | 61 => .inr (7, [.ref 62, .ref 63, .int 0, .int 0, .int 0, .int 0, .int 0, .int 0, .int 0, .int (-1), .int 0, .int 0])
  | 62 => .inl (0, 20, fun _ => .int 0)
  | 63 => .inl (0, 8, fun _ => .int 0)
  | 64 => .inr (7, [.ref 65, .ref 66, .int 0, .int 0, .int 0, .int 0, .int 0, .int 0, .int 0, .int (-1), .int 0, .int 0])
  | 65 => .inl (0, 20, fun _ => .int 0)
  | 66 => .inl (0, 8, fun _ => .int 0)
  | 67 => .inr (7, [.ref 68, .ref 69, .int 0, .int 0, .int 0, .int 0, .int 0, .int 0, .int 0, .int (-1), .int 0, .int 0])
  | 68 => .inl (0, 20, fun _ => .int 0)
  | 69 => .inl (0, 8, fun _ => .int 0)
  | 70 => .inr (7, [.ref 71, .ref 72, .int 0, .int 0, .int 0, .int 0, .int 0, .int 0, .int 0, .int (-1), .int 0, .int 0])
  | 71 => .inl (0, 20, fun _ => .int 0)
  | 72 => .inl (0, 8, fun _ => .int 0)
  | 73 => .inr (7, [.ref 74, .ref 75, .int 0, .int 0, .int 0, .int 0, .int 0, .int 0, .int 0, .int (-1), .int 0, .int 0])
  | 74 => .inl (0, 20, fun _ => .int 0)
  | 75 => .inl (0, 8, fun _ => .int 0)
  | 76 => .inr (7, [.ref 77, .ref 78, .int 0, .int 0, .int 0, .int 0, .int 0, .int 0, .int 0, .int (-1), .int 0, .int 0])
  | 77 => .inl (0, 20, fun _ => .int 0)
  | 78 => .inl (0, 8, fun _ => .int 0)
  | 79 => .inr (7, [.ref 80, .ref 81, .int 0, .int 0, .int 0, .int 0, .int 0, .int 0, .int 0, .int (-1), .int 0, .int 0])
  | 80 => .inl (0, 20, fun _ => .int 0)
  | 81 => .inl (0, 8, fun _ => .int 0)
  | 82 => .inr (7, [.ref 83, .ref 84, .int 0, .int 0, .int 0, .int 0, .int 0, .int 0, .int 0, .int (-1), .int 0, .int 0])
  | 83 => .inl (0, 20, fun _ => .int 0)
  | 84 => .inl (0, 8, fun _ => .int 0)
  | 85 => .inr (7, [.ref 86, .ref 87, .int 0, .int 0, .int 0, .int 0, .int 0, .int 0, .int 0, .int (-1), .int 0, .int 0])
  | 86 => .inl (0, 20, fun _ => .int 0)
  | 87 => .inl (0, 8, fun _ => .int 0)
  | 88 => .inr (7, [.ref 89, .ref 90, .int 0, .int 0, .int 0, .int 0, .int 0, .int 0, .int 0, .int (-1), .int 0, .int 0])
  | 89 => .inl (0, 20, fun _ => .int 0)
  | 90 => .inl (0, 8, fun _ => .int 0)
  | 91 => .inr (7, [.ref 92, .ref 93, .int 0, .int 0, .int 0, .int 0, .int 0, .int 0, .int 0, .int (-1), .int 0, .int 0])
  | 92 => .inl (0, 20, fun _ => .int 0)
  | 93 => .inl (0, 8, fun _ => .int 0)
  | 94 => .inr (7, [.ref 95, .ref 96, .int 0, .int 0, .int 0, .int 0, .int 0, .int 0, .int 0, .int (-1), .int 0, .int 0])
  | 95 => .inl (0, 20, fun _ => .int 0)
  | 96 => .inl (0, 8, fun _ => .int 0)
  | 97 => .inr (7, [.ref 98, .ref 99, .int 0, .int 0, .int 0, .int 0, .int 0, .int 0, .int 0, .int (-1), .int 0, .int 0])
  | 98 => .inl (0, 20, fun _ => .int 0)
  | 99 => .inl (0, 8, fun _ => .int 0)
  | 100 => .inr (7, [.ref 101, .ref 102, .int 0, .int 0, .int 0, .int 0, .int 0, .int 0, .int 0, .int (-1), .int 0, .int 0])
  | 101 => .inl (0, 20, fun _ => .int 0)
  | 102 => .inl (0, 8, fun _ => .int 0)
  | 103 => .inr (7, [.ref 104, .ref 105, .int 0, .int 0, .int 0, .int 0, .int 0, .int 0, .int 0, .int (-1), .int 0, .int 0])
  | 104 => .inl (0, 20, fun _ => .int 0)
  | 105 => .inl (0, 8, fun _ => .int 0)
  | 106 => .inr (7, [.ref 107, .ref 108, .int 0, .int 0, .int 0, .int 0, .int 0, .int 0, .int 0, .int (-1), .int 0, .int 0])
  | 107 => .inl (0, 20, fun _ => .int 0)
  | 108 => .inl (0, 8, fun _ => .int 0)
  | 109 => .inr (7, [.ref 110, .ref 111, .int 0, .int 0, .int 0, .int 0, .int 0, .int 0, .int 0, .int (-1), .int 0, .int 0])
  | 110 => .inl (0, 20, fun _ => .int 0)
  | 111 => .inl (0, 8, fun _ => .int 0)
  | 112 => .inr (7, [.ref 113, .ref 114, .int 0, .int 0, .int 0, .int 0, .int 0, .int 0, .int 0, .int (-1), .int 0, .int 0])
  | 113 => .inl (0, 20, fun _ => .int 0)
  | 114 => .inl (0, 8, fun _ => .int 0)
  | 115 => .inr (7, [.ref 116, .ref 117, .int 0, .int 0, .int 0, .int 0, .int 0, .int 0, .int 0, .int (-1), .int 0, .int 0])
  | 116 => .inl (0, 20, fun _ => .int 0)
  | 117 => .inl (0, 8, fun _ => .int 0)
  | 118 => .inr (7, [.ref 119, .ref 120, .int 0, .int 0, .int 0, .int 0, .int 0, .int 0, .int 0, .int (-1), .int 0, .int 0])
  | 119 => .inl (0, 20, fun _ => .int 0)
  | 120 => .inl (0, 8, fun _ => .int 0)
  | 121 => .inr (7, [.ref 122, .ref 123, .int 0, .int 0, .int 0, .int 0, .int 0, .int 0, .int 0, .int (-1), .int 0, .int 0])
  | 122 => .inl (0, 20, fun _ => .int 0)
  | 123 => .inl (0, 8, fun _ => .int 0)
  | _ => .inr (0, [])
set_option maxHeartbeats 40000000 in
set_option maxRecDepth 100000 in
theorem ctorX9 (l : Launch) (D : va_G) (c : Nat → ClassId) (H0 : Heap) (sa : Nat × Nat × (Nat → Int32)) (xa xb xk : Int32) : sC (gG l D c H0 sa) mX9_init 5 123 1644 [.ref 0, .int xa, .int xb, .int xk] (1, fun _ => .inr (9, zX9)) (fun r hp => r = none ∧ hp.1 = 124 ∧ ∀ j, j < 124 → hp.2 j = tX9N xa xb xk j) := by
  refine sC.of rfl (by decide) (le_t rfl) ?_
  refine sv_aload_n (pc := 0) dX9_init_0 rfl rfl ?_
  refine sv_objinit (pc := 1) dX9_init_1 wM_X9_3 wV_obj wK_obj ⟨le_t rfl, le_t rfl⟩ (le_t rfl) ?_
  refine sv_aload_n (pc := 4) dX9_init_4 rfl rfl ?_
  refine sv_iload_n (pc := 5) dX9_init_5 rfl rfl ?_
  refine sw_putfinal (pc := 6) dX9_init_6 (gCX9 _ _ _ _ _) 0 (by decide) wF_X9_9 rfl rfl rfl rfl rfl (fun _ => rfl) (fun _ => rfl) rfl ?_
  refine sv_aload_n (pc := 9) dX9_init_9 rfl rfl ?_
  refine sv_iload_n (pc := 10) dX9_init_10 rfl rfl ?_
  refine sw_putfinal (pc := 11) dX9_init_11 (gCX9 _ _ _ _ _) 1 (by decide) wF_X9_15 rfl rfl rfl rfl rfl (fun _ => rfl) (fun _ => rfl) rfl ?_
  refine sv_aload_n (pc := 14) dX9_init_14 rfl rfl ?_
  refine sv_iload_n (pc := 15) dX9_init_15 rfl rfl ?_
  refine sw_putfinal (pc := 16) dX9_init_16 (gCX9 _ _ _ _ _) 2 (by decide) wF_X9_18 rfl rfl rfl rfl rfl (fun _ => rfl) (fun _ => rfl) rfl ?_
  refine sv_aload_n (pc := 19) dX9_init_19 rfl rfl ?_
  refine sv_iconst (pc := 20) (v := 1) dX9_init_20 (by decide) ?_
  refine sw_putfield (pc := 21) dX9_init_21 (gCX9 _ _ _ _ _) 6 (by decide) wF_X9_21 rfl rfl rfl (fun _ => rfl) (fun _ => rfl) rfl ?_
  refine sv_aload_n (pc := 24) dX9_init_24 rfl rfl ?_
  refine sv_iconst (pc := 25) (v := 1) dX9_init_25 (by decide) ?_
  refine sw_putfield (pc := 26) dX9_init_26 (gCX9 _ _ _ _ _) 7 (by decide) wF_X9_25 rfl rfl rfl (fun _ => rfl) (fun _ => rfl) rfl ?_
  refine sv_aload_n (pc := 29) dX9_init_29 rfl rfl ?_
  refine sv_iconst (pc := 30) (v := 4) dX9_init_30 (by decide) ?_
  refine sw_newarray (pc := 31) (kd := 0) (a := 1) (n1 := 2) (N := 4) (ce1 := 1) (sl1 := 4) (v := .int 0) dX9_init_31 rfl wA_int rfl (fun U => sI_Cond_int U _) (by decide) (by decide) rfl (fun _ => rfl) rfl rfl rfl rfl rfl rfl ?_
  refine sv_dup (pc := 33) dX9_init_33 rfl ?_
  refine sv_iconst (pc := 34) (v := 0) dX9_init_34 (by decide) ?_
  refine sv_ldc (pc := 35) dX9_init_35 wG_X9_28 ?_
  refine sw_iastore (pc := 37) (k := 0) (v := .int (-99999999)) dX9_init_37 rfl rfl rfl (by decide) (by decide) rfl rfl ?_
  refine sv_dup (pc := 38) dX9_init_38 rfl ?_
  refine sv_iconst (pc := 39) (v := 1) dX9_init_39 (by decide) ?_
  refine sv_ldc (pc := 40) dX9_init_40 wG_X9_28 ?_
  refine sw_iastore (pc := 42) (k := 1) (v := .int (-99999999)) dX9_init_42 rfl rfl rfl (by decide) (by decide) rfl rfl ?_
  refine sv_dup (pc := 43) dX9_init_43 rfl ?_
  refine sv_iconst (pc := 44) (v := 2) dX9_init_44 (by decide) ?_
  refine sv_ldc (pc := 45) dX9_init_45 wG_X9_28 ?_
  refine sw_iastore (pc := 47) (k := 2) (v := .int (-99999999)) dX9_init_47 rfl rfl rfl (by decide) (by decide) rfl rfl ?_
  refine sv_dup (pc := 48) dX9_init_48 rfl ?_
  refine sv_iconst (pc := 49) (v := 3) dX9_init_49 (by decide) ?_
  refine sv_ldc (pc := 50) dX9_init_50 wG_X9_28 ?_
  refine sw_iastore (pc := 52) (k := 3) (v := .int (-99999999)) dX9_init_52 rfl rfl rfl (by decide) (by decide) rfl rfl ?_
  refine sw_putfinal (pc := 53) dX9_init_53 (gCX9 _ _ _ _ _) 3 (by decide) wF_X9_29 rfl rfl rfl rfl rfl (fun _ => rfl) (fun _ => rfl) rfl ?_
  refine sv_aload_n (pc := 56) dX9_init_56 rfl rfl ?_
  refine sv_bipush (pc := 57) (v := 20) dX9_init_57 (by decide) ?_
  refine sw_anewarray (pc := 59) (kd := 4) (a := 2) (n1 := 3) (N := 20) (ce1 := 2) (sl1 := 24) dX9_init_59 wC_X9_33 rfl (by decide) (by decide) rfl rfl rfl rfl rfl rfl rfl ?_
  refine sw_putfinal (pc := 62) dX9_init_62 (gCX9 _ _ _ _ _) 4 (by decide) wF_X9_35 rfl rfl rfl rfl rfl (fun _ => rfl) (fun _ => rfl) rfl ?_
  refine sv_aload_n (pc := 65) dX9_init_65 rfl rfl ?_
  refine sv_bipush (pc := 66) (v := 20) dX9_init_66 (by decide) ?_
  refine sw_anewarray (pc := 68) (kd := 4) (a := 3) (n1 := 4) (N := 20) (ce1 := 3) (sl1 := 44) dX9_init_68 wC_X9_33 rfl (by decide) (by decide) rfl rfl rfl rfl rfl rfl rfl ?_
  refine sw_putfinal (pc := 71) dX9_init_71 (gCX9 _ _ _ _ _) 5 (by decide) wF_X9_39 rfl rfl rfl rfl rfl (fun _ => rfl) (fun _ => rfl) rfl ?_
  refine sv_iconst (pc := 74) (v := 0) dX9_init_74 (by decide) ?_
  refine sv_istore (pc := 75) dX9_init_75 (by decide) ?_
  refine sv_iload (pc := 77) dX9_init_77 rfl ?_
  refine sv_aload_n (pc := 79) dX9_init_79 rfl rfl ?_
  refine sw_getfield (pc := 80) dX9_init_80 (gCX9 _ _ _ _ _) 4 (by decide) wF_X9_35 rfl rfl rfl ?_
  refine sv_arraylength (pc := 83) (v := 20) (ty := .object RX7) dX9_init_83 rfl (lt_t rfl) rfl (by decide) ?_
  refine sv_icmp_ge (pc := 84) (tgt := 121) dX9_init_84 (by decide) (fun h => absurd h (by decide)) (fun _ => ?_)
  refine sv_aload_n (pc := 87) dX9_init_87 rfl rfl ?_
  refine sw_getfield (pc := 88) dX9_init_88 (gCX9 _ _ _ _ _) 4 (by decide) wF_X9_35 rfl rfl rfl ?_
  refine sv_iload (pc := 91) dX9_init_91 rfl ?_
  refine sw_new (pc := 93) (a := 4) (n1 := 5) (ce1 := 4) (sl1 := 56) (fs := zX7) dX9_init_93 (gCX7 _ _ _ _ _) wC_X9_33 wN_X7 wI_X7 zX7_ok rfl rfl rfl rfl rfl rfl ?_
  refine sv_dup (pc := 96) dX9_init_96 rfl ?_
  refine sv_callI (pc := 97) (M' := mX7_init) (d' := 4) (C' := 2) (S' := 28) (av := []) ?_ (gOk _ _ _ _ _) dX9_init_97 (tX7_init _ _ _ _ _) rfl rfl wV_X7_init wM_X9_42 ⟨le_t rfl, le_t rfl⟩ ⟨le_t rfl, le_t rfl⟩ rfl (le_t rfl) (fun _ _ h => h)
  refine sC.of rfl (by decide) (le_t rfl) ?_
  refine sv_aload_n (pc := 0) dX7_init_0 rfl rfl ?_
  refine sv_objinit (pc := 1) dX7_init_1 wM_X7_3 wV_obj wK_obj ⟨le_t rfl, le_t rfl⟩ (le_t rfl) ?_
  refine sv_aload_n (pc := 4) dX7_init_4 rfl rfl ?_
  refine sv_bipush (pc := 5) (v := 20) dX7_init_5 (by decide) ?_
  refine sw_newarray (pc := 7) (kd := 0) (a := 5) (n1 := 6) (N := 20) (ce1 := 1) (sl1 := 20) (v := .int 0) dX7_init_7 rfl wA_int rfl (fun U => sI_Cond_int U _) (by decide) (by decide) rfl (fun _ => rfl) rfl rfl rfl rfl rfl rfl ?_
  refine sw_putfinal (pc := 9) dX7_init_9 (gCX7 _ _ _ _ _) 0 (by decide) wF_X7_9 rfl rfl rfl rfl rfl (fun _ => rfl) (fun _ => rfl) rfl ?_
  refine sv_aload_n (pc := 12) dX7_init_12 rfl rfl ?_
  refine sv_bipush (pc := 13) (v := 8) dX7_init_13 (by decide) ?_
  refine sw_newarray (pc := 15) (kd := 0) (a := 6) (n1 := 7) (N := 8) (ce1 := 2) (sl1 := 28) (v := .int 0) dX7_init_15 rfl wA_int rfl (fun U => sI_Cond_int U _) (by decide) (by decide) rfl (fun _ => rfl) rfl rfl rfl rfl rfl rfl ?_
  refine sw_putfinal (pc := 17) dX7_init_17 (gCX7 _ _ _ _ _) 1 (by decide) wF_X7_15 rfl rfl rfl rfl rfl (fun _ => rfl) (fun _ => rfl) rfl ?_
  refine sv_aload_n (pc := 20) dX7_init_20 rfl rfl ?_
  refine sv_iconst (pc := 21) (v := (-1)) dX7_init_21 (by decide) ?_
  refine sw_putfield (pc := 22) dX7_init_22 (gCX7 _ _ _ _ _) 9 (by decide) wF_X7_18 rfl rfl rfl (fun _ => rfl) (fun _ => rfl) rfl ?_
  refine sv_vret (pc := 25) dX7_init_25 rfl (le_t rfl) (le_t rfl) ?_
  refine sw_aastore (pc := 100) (k := 0) dX9_init_100 (gCX7 _ _ _ _ _) rfl rfl rfl (by decide) (by decide) rfl rfl rfl ?_
  refine sv_aload_n (pc := 101) dX9_init_101 rfl rfl ?_
  refine sw_getfield (pc := 102) dX9_init_102 (gCX9 _ _ _ _ _) 5 (by decide) wF_X9_39 rfl rfl rfl ?_
  refine sv_iload (pc := 105) dX9_init_105 rfl ?_
  refine sw_new (pc := 107) (a := 7) (n1 := 8) (ce1 := 7) (sl1 := 96) (fs := zX7) dX9_init_107 (gCX7 _ _ _ _ _) wC_X9_33 wN_X7 wI_X7 zX7_ok rfl rfl rfl rfl rfl rfl ?_
  refine sv_dup (pc := 110) dX9_init_110 rfl ?_
  refine sv_callI (pc := 111) (M' := mX7_init) (d' := 4) (C' := 2) (S' := 28) (av := []) ?_ (gOk _ _ _ _ _) dX9_init_111 (tX7_init _ _ _ _ _) rfl rfl wV_X7_init wM_X9_42 ⟨le_t rfl, le_t rfl⟩ ⟨le_t rfl, le_t rfl⟩ rfl (le_t rfl) (fun _ _ h => h)
  refine sC.of rfl (by decide) (le_t rfl) ?_
  refine sv_aload_n (pc := 0) dX7_init_0 rfl rfl ?_
  refine sv_objinit (pc := 1) dX7_init_1 wM_X7_3 wV_obj wK_obj ⟨le_t rfl, le_t rfl⟩ (le_t rfl) ?_
  refine sv_aload_n (pc := 4) dX7_init_4 rfl rfl ?_
  refine sv_bipush (pc := 5) (v := 20) dX7_init_5 (by decide) ?_
  refine sw_newarray (pc := 7) (kd := 0) (a := 8) (n1 := 9) (N := 20) (ce1 := 1) (sl1 := 20) (v := .int 0) dX7_init_7 rfl wA_int rfl (fun U => sI_Cond_int U _) (by decide) (by decide) rfl (fun _ => rfl) rfl rfl rfl rfl rfl rfl ?_
  refine sw_putfinal (pc := 9) dX7_init_9 (gCX7 _ _ _ _ _) 0 (by decide) wF_X7_9 rfl rfl rfl rfl rfl (fun _ => rfl) (fun _ => rfl) rfl ?_
  refine sv_aload_n (pc := 12) dX7_init_12 rfl rfl ?_
  refine sv_bipush (pc := 13) (v := 8) dX7_init_13 (by decide) ?_
  refine sw_newarray (pc := 15) (kd := 0) (a := 9) (n1 := 10) (N := 8) (ce1 := 2) (sl1 := 28) (v := .int 0) dX7_init_15 rfl wA_int rfl (fun U => sI_Cond_int U _) (by decide) (by decide) rfl (fun _ => rfl) rfl rfl rfl rfl rfl rfl ?_
  refine sw_putfinal (pc := 17) dX7_init_17 (gCX7 _ _ _ _ _) 1 (by decide) wF_X7_15 rfl rfl rfl rfl rfl (fun _ => rfl) (fun _ => rfl) rfl ?_
  refine sv_aload_n (pc := 20) dX7_init_20 rfl rfl ?_
  refine sv_iconst (pc := 21) (v := (-1)) dX7_init_21 (by decide) ?_
  refine sw_putfield (pc := 22) dX7_init_22 (gCX7 _ _ _ _ _) 9 (by decide) wF_X7_18 rfl rfl rfl (fun _ => rfl) (fun _ => rfl) rfl ?_
  refine sv_vret (pc := 25) dX7_init_25 rfl (le_t rfl) (le_t rfl) ?_
  refine sw_aastore (pc := 114) (k := 0) dX9_init_114 (gCX7 _ _ _ _ _) rfl rfl rfl (by decide) (by decide) rfl rfl rfl ?_
  refine sw_iinc (pc := 115) (v := 1) dX9_init_115 rfl (by decide) (by decide) ?_
  refine sv_goto (pc := 118) (tgt := 77) dX9_init_118 (by decide) ?_
  refine sv_iload (pc := 77) dX9_init_77 rfl ?_
  refine sv_aload_n (pc := 79) dX9_init_79 rfl rfl ?_
  refine sw_getfield (pc := 80) dX9_init_80 (gCX9 _ _ _ _ _) 4 (by decide) wF_X9_35 rfl rfl rfl ?_
  refine sv_arraylength (pc := 83) (v := 20) (ty := .object RX7) dX9_init_83 rfl (lt_t rfl) rfl (by decide) ?_
  refine sv_icmp_ge (pc := 84) (tgt := 121) dX9_init_84 (by decide) (fun h => absurd h (by decide)) (fun _ => ?_)
  refine sv_aload_n (pc := 87) dX9_init_87 rfl rfl ?_
  refine sw_getfield (pc := 88) dX9_init_88 (gCX9 _ _ _ _ _) 4 (by decide) wF_X9_35 rfl rfl rfl ?_
  refine sv_iload (pc := 91) dX9_init_91 rfl ?_
  refine sw_new (pc := 93) (a := 10) (n1 := 11) (ce1 := 10) (sl1 := 136) (fs := zX7) dX9_init_93 (gCX7 _ _ _ _ _) wC_X9_33 wN_X7 wI_X7 zX7_ok rfl rfl rfl rfl rfl rfl ?_
  refine sv_dup (pc := 96) dX9_init_96 rfl ?_
  refine sv_callI (pc := 97) (M' := mX7_init) (d' := 4) (C' := 2) (S' := 28) (av := []) ?_ (gOk _ _ _ _ _) dX9_init_97 (tX7_init _ _ _ _ _) rfl rfl wV_X7_init wM_X9_42 ⟨le_t rfl, le_t rfl⟩ ⟨le_t rfl, le_t rfl⟩ rfl (le_t rfl) (fun _ _ h => h)
  refine sC.of rfl (by decide) (le_t rfl) ?_
  refine sv_aload_n (pc := 0) dX7_init_0 rfl rfl ?_
  refine sv_objinit (pc := 1) dX7_init_1 wM_X7_3 wV_obj wK_obj ⟨le_t rfl, le_t rfl⟩ (le_t rfl) ?_
  refine sv_aload_n (pc := 4) dX7_init_4 rfl rfl ?_
  refine sv_bipush (pc := 5) (v := 20) dX7_init_5 (by decide) ?_
  refine sw_newarray (pc := 7) (kd := 0) (a := 11) (n1 := 12) (N := 20) (ce1 := 1) (sl1 := 20) (v := .int 0) dX7_init_7 rfl wA_int rfl (fun U => sI_Cond_int U _) (by decide) (by decide) rfl (fun _ => rfl) rfl rfl rfl rfl rfl rfl ?_
  refine sw_putfinal (pc := 9) dX7_init_9 (gCX7 _ _ _ _ _) 0 (by decide) wF_X7_9 rfl rfl rfl rfl rfl (fun _ => rfl) (fun _ => rfl) rfl ?_
  refine sv_aload_n (pc := 12) dX7_init_12 rfl rfl ?_
  refine sv_bipush (pc := 13) (v := 8) dX7_init_13 (by decide) ?_
  refine sw_newarray (pc := 15) (kd := 0) (a := 12) (n1 := 13) (N := 8) (ce1 := 2) (sl1 := 28) (v := .int 0) dX7_init_15 rfl wA_int rfl (fun U => sI_Cond_int U _) (by decide) (by decide) rfl (fun _ => rfl) rfl rfl rfl rfl rfl rfl ?_
  refine sw_putfinal (pc := 17) dX7_init_17 (gCX7 _ _ _ _ _) 1 (by decide) wF_X7_15 rfl rfl rfl rfl rfl (fun _ => rfl) (fun _ => rfl) rfl ?_
  refine sv_aload_n (pc := 20) dX7_init_20 rfl rfl ?_
  refine sv_iconst (pc := 21) (v := (-1)) dX7_init_21 (by decide) ?_
  refine sw_putfield (pc := 22) dX7_init_22 (gCX7 _ _ _ _ _) 9 (by decide) wF_X7_18 rfl rfl rfl (fun _ => rfl) (fun _ => rfl) rfl ?_
  refine sv_vret (pc := 25) dX7_init_25 rfl (le_t rfl) (le_t rfl) ?_
  refine sw_aastore (pc := 100) (k := 1) dX9_init_100 (gCX7 _ _ _ _ _) rfl rfl rfl (by decide) (by decide) rfl rfl rfl ?_
  refine sv_aload_n (pc := 101) dX9_init_101 rfl rfl ?_
  refine sw_getfield (pc := 102) dX9_init_102 (gCX9 _ _ _ _ _) 5 (by decide) wF_X9_39 rfl rfl rfl ?_
  refine sv_iload (pc := 105) dX9_init_105 rfl ?_
  refine sw_new (pc := 107) (a := 13) (n1 := 14) (ce1 := 13) (sl1 := 176) (fs := zX7) dX9_init_107 (gCX7 _ _ _ _ _) wC_X9_33 wN_X7 wI_X7 zX7_ok rfl rfl rfl rfl rfl rfl ?_
  refine sv_dup (pc := 110) dX9_init_110 rfl ?_
  refine sv_callI (pc := 111) (M' := mX7_init) (d' := 4) (C' := 2) (S' := 28) (av := []) ?_ (gOk _ _ _ _ _) dX9_init_111 (tX7_init _ _ _ _ _) rfl rfl wV_X7_init wM_X9_42 ⟨le_t rfl, le_t rfl⟩ ⟨le_t rfl, le_t rfl⟩ rfl (le_t rfl) (fun _ _ h => h)
  refine sC.of rfl (by decide) (le_t rfl) ?_
  refine sv_aload_n (pc := 0) dX7_init_0 rfl rfl ?_
  refine sv_objinit (pc := 1) dX7_init_1 wM_X7_3 wV_obj wK_obj ⟨le_t rfl, le_t rfl⟩ (le_t rfl) ?_
  refine sv_aload_n (pc := 4) dX7_init_4 rfl rfl ?_
  refine sv_bipush (pc := 5) (v := 20) dX7_init_5 (by decide) ?_
  refine sw_newarray (pc := 7) (kd := 0) (a := 14) (n1 := 15) (N := 20) (ce1 := 1) (sl1 := 20) (v := .int 0) dX7_init_7 rfl wA_int rfl (fun U => sI_Cond_int U _) (by decide) (by decide) rfl (fun _ => rfl) rfl rfl rfl rfl rfl rfl ?_
  refine sw_putfinal (pc := 9) dX7_init_9 (gCX7 _ _ _ _ _) 0 (by decide) wF_X7_9 rfl rfl rfl rfl rfl (fun _ => rfl) (fun _ => rfl) rfl ?_
  refine sv_aload_n (pc := 12) dX7_init_12 rfl rfl ?_
  refine sv_bipush (pc := 13) (v := 8) dX7_init_13 (by decide) ?_
  refine sw_newarray (pc := 15) (kd := 0) (a := 15) (n1 := 16) (N := 8) (ce1 := 2) (sl1 := 28) (v := .int 0) dX7_init_15 rfl wA_int rfl (fun U => sI_Cond_int U _) (by decide) (by decide) rfl (fun _ => rfl) rfl rfl rfl rfl rfl rfl ?_
  refine sw_putfinal (pc := 17) dX7_init_17 (gCX7 _ _ _ _ _) 1 (by decide) wF_X7_15 rfl rfl rfl rfl rfl (fun _ => rfl) (fun _ => rfl) rfl ?_
  refine sv_aload_n (pc := 20) dX7_init_20 rfl rfl ?_
  refine sv_iconst (pc := 21) (v := (-1)) dX7_init_21 (by decide) ?_
  refine sw_putfield (pc := 22) dX7_init_22 (gCX7 _ _ _ _ _) 9 (by decide) wF_X7_18 rfl rfl rfl (fun _ => rfl) (fun _ => rfl) rfl ?_
  refine sv_vret (pc := 25) dX7_init_25 rfl (le_t rfl) (le_t rfl) ?_
  refine sw_aastore (pc := 114) (k := 1) dX9_init_114 (gCX7 _ _ _ _ _) rfl rfl rfl (by decide) (by decide) rfl rfl rfl ?_
  refine sw_iinc (pc := 115) (v := 2) dX9_init_115 rfl (by decide) (by decide) ?_
  refine sv_goto (pc := 118) (tgt := 77) dX9_init_118 (by decide) ?_
  refine sv_iload (pc := 77) dX9_init_77 rfl ?_
  refine sv_aload_n (pc := 79) dX9_init_79 rfl rfl ?_
  refine sw_getfield (pc := 80) dX9_init_80 (gCX9 _ _ _ _ _) 4 (by decide) wF_X9_35 rfl rfl rfl ?_
  refine sv_arraylength (pc := 83) (v := 20) (ty := .object RX7) dX9_init_83 rfl (lt_t rfl) rfl (by decide) ?_
  refine sv_icmp_ge (pc := 84) (tgt := 121) dX9_init_84 (by decide) (fun h => absurd h (by decide)) (fun _ => ?_)
  refine sv_aload_n (pc := 87) dX9_init_87 rfl rfl ?_
  refine sw_getfield (pc := 88) dX9_init_88 (gCX9 _ _ _ _ _) 4 (by decide) wF_X9_35 rfl rfl rfl ?_
  refine sv_iload (pc := 91) dX9_init_91 rfl ?_
  refine sw_new (pc := 93) (a := 16) (n1 := 17) (ce1 := 16) (sl1 := 216) (fs := zX7) dX9_init_93 (gCX7 _ _ _ _ _) wC_X9_33 wN_X7 wI_X7 zX7_ok rfl rfl rfl rfl rfl rfl ?_
  refine sv_dup (pc := 96) dX9_init_96 rfl ?_
  refine sv_callI (pc := 97) (M' := mX7_init) (d' := 4) (C' := 2) (S' := 28) (av := []) ?_ (gOk _ _ _ _ _) dX9_init_97 (tX7_init _ _ _ _ _) rfl rfl wV_X7_init wM_X9_42 ⟨le_t rfl, le_t rfl⟩ ⟨le_t rfl, le_t rfl⟩ rfl (le_t rfl) (fun _ _ h => h)
  refine sC.of rfl (by decide) (le_t rfl) ?_
  refine sv_aload_n (pc := 0) dX7_init_0 rfl rfl ?_
  refine sv_objinit (pc := 1) dX7_init_1 wM_X7_3 wV_obj wK_obj ⟨le_t rfl, le_t rfl⟩ (le_t rfl) ?_
  refine sv_aload_n (pc := 4) dX7_init_4 rfl rfl ?_
  refine sv_bipush (pc := 5) (v := 20) dX7_init_5 (by decide) ?_
  refine sw_newarray (pc := 7) (kd := 0) (a := 17) (n1 := 18) (N := 20) (ce1 := 1) (sl1 := 20) (v := .int 0) dX7_init_7 rfl wA_int rfl (fun U => sI_Cond_int U _) (by decide) (by decide) rfl (fun _ => rfl) rfl rfl rfl rfl rfl rfl ?_
  refine sw_putfinal (pc := 9) dX7_init_9 (gCX7 _ _ _ _ _) 0 (by decide) wF_X7_9 rfl rfl rfl rfl rfl (fun _ => rfl) (fun _ => rfl) rfl ?_
  refine sv_aload_n (pc := 12) dX7_init_12 rfl rfl ?_
  refine sv_bipush (pc := 13) (v := 8) dX7_init_13 (by decide) ?_
  refine sw_newarray (pc := 15) (kd := 0) (a := 18) (n1 := 19) (N := 8) (ce1 := 2) (sl1 := 28) (v := .int 0) dX7_init_15 rfl wA_int rfl (fun U => sI_Cond_int U _) (by decide) (by decide) rfl (fun _ => rfl) rfl rfl rfl rfl rfl rfl ?_
  refine sw_putfinal (pc := 17) dX7_init_17 (gCX7 _ _ _ _ _) 1 (by decide) wF_X7_15 rfl rfl rfl rfl rfl (fun _ => rfl) (fun _ => rfl) rfl ?_
  refine sv_aload_n (pc := 20) dX7_init_20 rfl rfl ?_
  refine sv_iconst (pc := 21) (v := (-1)) dX7_init_21 (by decide) ?_
  refine sw_putfield (pc := 22) dX7_init_22 (gCX7 _ _ _ _ _) 9 (by decide) wF_X7_18 rfl rfl rfl (fun _ => rfl) (fun _ => rfl) rfl ?_
  refine sv_vret (pc := 25) dX7_init_25 rfl (le_t rfl) (le_t rfl) ?_
  refine sw_aastore (pc := 100) (k := 2) dX9_init_100 (gCX7 _ _ _ _ _) rfl rfl rfl (by decide) (by decide) rfl rfl rfl ?_
  refine sv_aload_n (pc := 101) dX9_init_101 rfl rfl ?_
  refine sw_getfield (pc := 102) dX9_init_102 (gCX9 _ _ _ _ _) 5 (by decide) wF_X9_39 rfl rfl rfl ?_
  refine sv_iload (pc := 105) dX9_init_105 rfl ?_
  refine sw_new (pc := 107) (a := 19) (n1 := 20) (ce1 := 19) (sl1 := 256) (fs := zX7) dX9_init_107 (gCX7 _ _ _ _ _) wC_X9_33 wN_X7 wI_X7 zX7_ok rfl rfl rfl rfl rfl rfl ?_
  refine sv_dup (pc := 110) dX9_init_110 rfl ?_
  refine sv_callI (pc := 111) (M' := mX7_init) (d' := 4) (C' := 2) (S' := 28) (av := []) ?_ (gOk _ _ _ _ _) dX9_init_111 (tX7_init _ _ _ _ _) rfl rfl wV_X7_init wM_X9_42 ⟨le_t rfl, le_t rfl⟩ ⟨le_t rfl, le_t rfl⟩ rfl (le_t rfl) (fun _ _ h => h)
  refine sC.of rfl (by decide) (le_t rfl) ?_
  refine sv_aload_n (pc := 0) dX7_init_0 rfl rfl ?_
  refine sv_objinit (pc := 1) dX7_init_1 wM_X7_3 wV_obj wK_obj ⟨le_t rfl, le_t rfl⟩ (le_t rfl) ?_
  refine sv_aload_n (pc := 4) dX7_init_4 rfl rfl ?_
  refine sv_bipush (pc := 5) (v := 20) dX7_init_5 (by decide) ?_
  refine sw_newarray (pc := 7) (kd := 0) (a := 20) (n1 := 21) (N := 20) (ce1 := 1) (sl1 := 20) (v := .int 0) dX7_init_7 rfl wA_int rfl (fun U => sI_Cond_int U _) (by decide) (by decide) rfl (fun _ => rfl) rfl rfl rfl rfl rfl rfl ?_
  refine sw_putfinal (pc := 9) dX7_init_9 (gCX7 _ _ _ _ _) 0 (by decide) wF_X7_9 rfl rfl rfl rfl rfl (fun _ => rfl) (fun _ => rfl) rfl ?_
  refine sv_aload_n (pc := 12) dX7_init_12 rfl rfl ?_
  refine sv_bipush (pc := 13) (v := 8) dX7_init_13 (by decide) ?_
  refine sw_newarray (pc := 15) (kd := 0) (a := 21) (n1 := 22) (N := 8) (ce1 := 2) (sl1 := 28) (v := .int 0) dX7_init_15 rfl wA_int rfl (fun U => sI_Cond_int U _) (by decide) (by decide) rfl (fun _ => rfl) rfl rfl rfl rfl rfl rfl ?_
  refine sw_putfinal (pc := 17) dX7_init_17 (gCX7 _ _ _ _ _) 1 (by decide) wF_X7_15 rfl rfl rfl rfl rfl (fun _ => rfl) (fun _ => rfl) rfl ?_
  refine sv_aload_n (pc := 20) dX7_init_20 rfl rfl ?_
  refine sv_iconst (pc := 21) (v := (-1)) dX7_init_21 (by decide) ?_
  refine sw_putfield (pc := 22) dX7_init_22 (gCX7 _ _ _ _ _) 9 (by decide) wF_X7_18 rfl rfl rfl (fun _ => rfl) (fun _ => rfl) rfl ?_
  refine sv_vret (pc := 25) dX7_init_25 rfl (le_t rfl) (le_t rfl) ?_
  refine sw_aastore (pc := 114) (k := 2) dX9_init_114 (gCX7 _ _ _ _ _) rfl rfl rfl (by decide) (by decide) rfl rfl rfl ?_
  refine sw_iinc (pc := 115) (v := 3) dX9_init_115 rfl (by decide) (by decide) ?_
  refine sv_goto (pc := 118) (tgt := 77) dX9_init_118 (by decide) ?_
  refine sv_iload (pc := 77) dX9_init_77 rfl ?_
  refine sv_aload_n (pc := 79) dX9_init_79 rfl rfl ?_
  refine sw_getfield (pc := 80) dX9_init_80 (gCX9 _ _ _ _ _) 4 (by decide) wF_X9_35 rfl rfl rfl ?_
  refine sv_arraylength (pc := 83) (v := 20) (ty := .object RX7) dX9_init_83 rfl (lt_t rfl) rfl (by decide) ?_
  refine sv_icmp_ge (pc := 84) (tgt := 121) dX9_init_84 (by decide) (fun h => absurd h (by decide)) (fun _ => ?_)
  refine sv_aload_n (pc := 87) dX9_init_87 rfl rfl ?_
  refine sw_getfield (pc := 88) dX9_init_88 (gCX9 _ _ _ _ _) 4 (by decide) wF_X9_35 rfl rfl rfl ?_
  refine sv_iload (pc := 91) dX9_init_91 rfl ?_
  refine sw_new (pc := 93) (a := 22) (n1 := 23) (ce1 := 22) (sl1 := 296) (fs := zX7) dX9_init_93 (gCX7 _ _ _ _ _) wC_X9_33 wN_X7 wI_X7 zX7_ok rfl rfl rfl rfl rfl rfl ?_
  refine sv_dup (pc := 96) dX9_init_96 rfl ?_
  refine sv_callI (pc := 97) (M' := mX7_init) (d' := 4) (C' := 2) (S' := 28) (av := []) ?_ (gOk _ _ _ _ _) dX9_init_97 (tX7_init _ _ _ _ _) rfl rfl wV_X7_init wM_X9_42 ⟨le_t rfl, le_t rfl⟩ ⟨le_t rfl, le_t rfl⟩ rfl (le_t rfl) (fun _ _ h => h)
  refine sC.of rfl (by decide) (le_t rfl) ?_
  refine sv_aload_n (pc := 0) dX7_init_0 rfl rfl ?_
  refine sv_objinit (pc := 1) dX7_init_1 wM_X7_3 wV_obj wK_obj ⟨le_t rfl, le_t rfl⟩ (le_t rfl) ?_
  refine sv_aload_n (pc := 4) dX7_init_4 rfl rfl ?_
  refine sv_bipush (pc := 5) (v := 20) dX7_init_5 (by decide) ?_
  refine sw_newarray (pc := 7) (kd := 0) (a := 23) (n1 := 24) (N := 20) (ce1 := 1) (sl1 := 20) (v := .int 0) dX7_init_7 rfl wA_int rfl (fun U => sI_Cond_int U _) (by decide) (by decide) rfl (fun _ => rfl) rfl rfl rfl rfl rfl rfl ?_
  refine sw_putfinal (pc := 9) dX7_init_9 (gCX7 _ _ _ _ _) 0 (by decide) wF_X7_9 rfl rfl rfl rfl rfl (fun _ => rfl) (fun _ => rfl) rfl ?_
  refine sv_aload_n (pc := 12) dX7_init_12 rfl rfl ?_
  refine sv_bipush (pc := 13) (v := 8) dX7_init_13 (by decide) ?_
  refine sw_newarray (pc := 15) (kd := 0) (a := 24) (n1 := 25) (N := 8) (ce1 := 2) (sl1 := 28) (v := .int 0) dX7_init_15 rfl wA_int rfl (fun U => sI_Cond_int U _) (by decide) (by decide) rfl (fun _ => rfl) rfl rfl rfl rfl rfl rfl ?_
  refine sw_putfinal (pc := 17) dX7_init_17 (gCX7 _ _ _ _ _) 1 (by decide) wF_X7_15 rfl rfl rfl rfl rfl (fun _ => rfl) (fun _ => rfl) rfl ?_
  refine sv_aload_n (pc := 20) dX7_init_20 rfl rfl ?_
  refine sv_iconst (pc := 21) (v := (-1)) dX7_init_21 (by decide) ?_
  refine sw_putfield (pc := 22) dX7_init_22 (gCX7 _ _ _ _ _) 9 (by decide) wF_X7_18 rfl rfl rfl (fun _ => rfl) (fun _ => rfl) rfl ?_
  refine sv_vret (pc := 25) dX7_init_25 rfl (le_t rfl) (le_t rfl) ?_
  refine sw_aastore (pc := 100) (k := 3) dX9_init_100 (gCX7 _ _ _ _ _) rfl rfl rfl (by decide) (by decide) rfl rfl rfl ?_
  refine sv_aload_n (pc := 101) dX9_init_101 rfl rfl ?_
  refine sw_getfield (pc := 102) dX9_init_102 (gCX9 _ _ _ _ _) 5 (by decide) wF_X9_39 rfl rfl rfl ?_
  refine sv_iload (pc := 105) dX9_init_105 rfl ?_
  refine sw_new (pc := 107) (a := 25) (n1 := 26) (ce1 := 25) (sl1 := 336) (fs := zX7) dX9_init_107 (gCX7 _ _ _ _ _) wC_X9_33 wN_X7 wI_X7 zX7_ok rfl rfl rfl rfl rfl rfl ?_
  refine sv_dup (pc := 110) dX9_init_110 rfl ?_
  refine sv_callI (pc := 111) (M' := mX7_init) (d' := 4) (C' := 2) (S' := 28) (av := []) ?_ (gOk _ _ _ _ _) dX9_init_111 (tX7_init _ _ _ _ _) rfl rfl wV_X7_init wM_X9_42 ⟨le_t rfl, le_t rfl⟩ ⟨le_t rfl, le_t rfl⟩ rfl (le_t rfl) (fun _ _ h => h)
  refine sC.of rfl (by decide) (le_t rfl) ?_
  refine sv_aload_n (pc := 0) dX7_init_0 rfl rfl ?_
  refine sv_objinit (pc := 1) dX7_init_1 wM_X7_3 wV_obj wK_obj ⟨le_t rfl, le_t rfl⟩ (le_t rfl) ?_
  refine sv_aload_n (pc := 4) dX7_init_4 rfl rfl ?_
  refine sv_bipush (pc := 5) (v := 20) dX7_init_5 (by decide) ?_
  refine sw_newarray (pc := 7) (kd := 0) (a := 26) (n1 := 27) (N := 20) (ce1 := 1) (sl1 := 20) (v := .int 0) dX7_init_7 rfl wA_int rfl (fun U => sI_Cond_int U _) (by decide) (by decide) rfl (fun _ => rfl) rfl rfl rfl rfl rfl rfl ?_
  refine sw_putfinal (pc := 9) dX7_init_9 (gCX7 _ _ _ _ _) 0 (by decide) wF_X7_9 rfl rfl rfl rfl rfl (fun _ => rfl) (fun _ => rfl) rfl ?_
  refine sv_aload_n (pc := 12) dX7_init_12 rfl rfl ?_
  refine sv_bipush (pc := 13) (v := 8) dX7_init_13 (by decide) ?_
  refine sw_newarray (pc := 15) (kd := 0) (a := 27) (n1 := 28) (N := 8) (ce1 := 2) (sl1 := 28) (v := .int 0) dX7_init_15 rfl wA_int rfl (fun U => sI_Cond_int U _) (by decide) (by decide) rfl (fun _ => rfl) rfl rfl rfl rfl rfl rfl ?_
  refine sw_putfinal (pc := 17) dX7_init_17 (gCX7 _ _ _ _ _) 1 (by decide) wF_X7_15 rfl rfl rfl rfl rfl (fun _ => rfl) (fun _ => rfl) rfl ?_
  refine sv_aload_n (pc := 20) dX7_init_20 rfl rfl ?_
  refine sv_iconst (pc := 21) (v := (-1)) dX7_init_21 (by decide) ?_
  refine sw_putfield (pc := 22) dX7_init_22 (gCX7 _ _ _ _ _) 9 (by decide) wF_X7_18 rfl rfl rfl (fun _ => rfl) (fun _ => rfl) rfl ?_
  refine sv_vret (pc := 25) dX7_init_25 rfl (le_t rfl) (le_t rfl) ?_
  refine sw_aastore (pc := 114) (k := 3) dX9_init_114 (gCX7 _ _ _ _ _) rfl rfl rfl (by decide) (by decide) rfl rfl rfl ?_
  refine sw_iinc (pc := 115) (v := 4) dX9_init_115 rfl (by decide) (by decide) ?_
  refine sv_goto (pc := 118) (tgt := 77) dX9_init_118 (by decide) ?_
  refine sv_iload (pc := 77) dX9_init_77 rfl ?_
  refine sv_aload_n (pc := 79) dX9_init_79 rfl rfl ?_
  refine sw_getfield (pc := 80) dX9_init_80 (gCX9 _ _ _ _ _) 4 (by decide) wF_X9_35 rfl rfl rfl ?_
  refine sv_arraylength (pc := 83) (v := 20) (ty := .object RX7) dX9_init_83 rfl (lt_t rfl) rfl (by decide) ?_
  refine sv_icmp_ge (pc := 84) (tgt := 121) dX9_init_84 (by decide) (fun h => absurd h (by decide)) (fun _ => ?_)
  refine sv_aload_n (pc := 87) dX9_init_87 rfl rfl ?_
  refine sw_getfield (pc := 88) dX9_init_88 (gCX9 _ _ _ _ _) 4 (by decide) wF_X9_35 rfl rfl rfl ?_
  refine sv_iload (pc := 91) dX9_init_91 rfl ?_
  refine sw_new (pc := 93) (a := 28) (n1 := 29) (ce1 := 28) (sl1 := 376) (fs := zX7) dX9_init_93 (gCX7 _ _ _ _ _) wC_X9_33 wN_X7 wI_X7 zX7_ok rfl rfl rfl rfl rfl rfl ?_
  refine sv_dup (pc := 96) dX9_init_96 rfl ?_
  refine sv_callI (pc := 97) (M' := mX7_init) (d' := 4) (C' := 2) (S' := 28) (av := []) ?_ (gOk _ _ _ _ _) dX9_init_97 (tX7_init _ _ _ _ _) rfl rfl wV_X7_init wM_X9_42 ⟨le_t rfl, le_t rfl⟩ ⟨le_t rfl, le_t rfl⟩ rfl (le_t rfl) (fun _ _ h => h)
  refine sC.of rfl (by decide) (le_t rfl) ?_
  refine sv_aload_n (pc := 0) dX7_init_0 rfl rfl ?_
  refine sv_objinit (pc := 1) dX7_init_1 wM_X7_3 wV_obj wK_obj ⟨le_t rfl, le_t rfl⟩ (le_t rfl) ?_
  refine sv_aload_n (pc := 4) dX7_init_4 rfl rfl ?_
  refine sv_bipush (pc := 5) (v := 20) dX7_init_5 (by decide) ?_
  refine sw_newarray (pc := 7) (kd := 0) (a := 29) (n1 := 30) (N := 20) (ce1 := 1) (sl1 := 20) (v := .int 0) dX7_init_7 rfl wA_int rfl (fun U => sI_Cond_int U _) (by decide) (by decide) rfl (fun _ => rfl) rfl rfl rfl rfl rfl rfl ?_
  refine sw_putfinal (pc := 9) dX7_init_9 (gCX7 _ _ _ _ _) 0 (by decide) wF_X7_9 rfl rfl rfl rfl rfl (fun _ => rfl) (fun _ => rfl) rfl ?_
  refine sv_aload_n (pc := 12) dX7_init_12 rfl rfl ?_
  refine sv_bipush (pc := 13) (v := 8) dX7_init_13 (by decide) ?_
  refine sw_newarray (pc := 15) (kd := 0) (a := 30) (n1 := 31) (N := 8) (ce1 := 2) (sl1 := 28) (v := .int 0) dX7_init_15 rfl wA_int rfl (fun U => sI_Cond_int U _) (by decide) (by decide) rfl (fun _ => rfl) rfl rfl rfl rfl rfl rfl ?_
  refine sw_putfinal (pc := 17) dX7_init_17 (gCX7 _ _ _ _ _) 1 (by decide) wF_X7_15 rfl rfl rfl rfl rfl (fun _ => rfl) (fun _ => rfl) rfl ?_
  refine sv_aload_n (pc := 20) dX7_init_20 rfl rfl ?_
  refine sv_iconst (pc := 21) (v := (-1)) dX7_init_21 (by decide) ?_
  refine sw_putfield (pc := 22) dX7_init_22 (gCX7 _ _ _ _ _) 9 (by decide) wF_X7_18 rfl rfl rfl (fun _ => rfl) (fun _ => rfl) rfl ?_
  refine sv_vret (pc := 25) dX7_init_25 rfl (le_t rfl) (le_t rfl) ?_
  refine sw_aastore (pc := 100) (k := 4) dX9_init_100 (gCX7 _ _ _ _ _) rfl rfl rfl (by decide) (by decide) rfl rfl rfl ?_
  refine sv_aload_n (pc := 101) dX9_init_101 rfl rfl ?_
  refine sw_getfield (pc := 102) dX9_init_102 (gCX9 _ _ _ _ _) 5 (by decide) wF_X9_39 rfl rfl rfl ?_
  refine sv_iload (pc := 105) dX9_init_105 rfl ?_
  refine sw_new (pc := 107) (a := 31) (n1 := 32) (ce1 := 31) (sl1 := 416) (fs := zX7) dX9_init_107 (gCX7 _ _ _ _ _) wC_X9_33 wN_X7 wI_X7 zX7_ok rfl rfl rfl rfl rfl rfl ?_
  refine sv_dup (pc := 110) dX9_init_110 rfl ?_
  refine sv_callI (pc := 111) (M' := mX7_init) (d' := 4) (C' := 2) (S' := 28) (av := []) ?_ (gOk _ _ _ _ _) dX9_init_111 (tX7_init _ _ _ _ _) rfl rfl wV_X7_init wM_X9_42 ⟨le_t rfl, le_t rfl⟩ ⟨le_t rfl, le_t rfl⟩ rfl (le_t rfl) (fun _ _ h => h)
  refine sC.of rfl (by decide) (le_t rfl) ?_
  refine sv_aload_n (pc := 0) dX7_init_0 rfl rfl ?_
  refine sv_objinit (pc := 1) dX7_init_1 wM_X7_3 wV_obj wK_obj ⟨le_t rfl, le_t rfl⟩ (le_t rfl) ?_
  refine sv_aload_n (pc := 4) dX7_init_4 rfl rfl ?_
  refine sv_bipush (pc := 5) (v := 20) dX7_init_5 (by decide) ?_
  refine sw_newarray (pc := 7) (kd := 0) (a := 32) (n1 := 33) (N := 20) (ce1 := 1) (sl1 := 20) (v := .int 0) dX7_init_7 rfl wA_int rfl (fun U => sI_Cond_int U _) (by decide) (by decide) rfl (fun _ => rfl) rfl rfl rfl rfl rfl rfl ?_
  refine sw_putfinal (pc := 9) dX7_init_9 (gCX7 _ _ _ _ _) 0 (by decide) wF_X7_9 rfl rfl rfl rfl rfl (fun _ => rfl) (fun _ => rfl) rfl ?_
  refine sv_aload_n (pc := 12) dX7_init_12 rfl rfl ?_
  refine sv_bipush (pc := 13) (v := 8) dX7_init_13 (by decide) ?_
  refine sw_newarray (pc := 15) (kd := 0) (a := 33) (n1 := 34) (N := 8) (ce1 := 2) (sl1 := 28) (v := .int 0) dX7_init_15 rfl wA_int rfl (fun U => sI_Cond_int U _) (by decide) (by decide) rfl (fun _ => rfl) rfl rfl rfl rfl rfl rfl ?_
  refine sw_putfinal (pc := 17) dX7_init_17 (gCX7 _ _ _ _ _) 1 (by decide) wF_X7_15 rfl rfl rfl rfl rfl (fun _ => rfl) (fun _ => rfl) rfl ?_
  refine sv_aload_n (pc := 20) dX7_init_20 rfl rfl ?_
  refine sv_iconst (pc := 21) (v := (-1)) dX7_init_21 (by decide) ?_
  refine sw_putfield (pc := 22) dX7_init_22 (gCX7 _ _ _ _ _) 9 (by decide) wF_X7_18 rfl rfl rfl (fun _ => rfl) (fun _ => rfl) rfl ?_
  refine sv_vret (pc := 25) dX7_init_25 rfl (le_t rfl) (le_t rfl) ?_
  refine sw_aastore (pc := 114) (k := 4) dX9_init_114 (gCX7 _ _ _ _ _) rfl rfl rfl (by decide) (by decide) rfl rfl rfl ?_
  refine sw_iinc (pc := 115) (v := 5) dX9_init_115 rfl (by decide) (by decide) ?_
  refine sv_goto (pc := 118) (tgt := 77) dX9_init_118 (by decide) ?_
  refine sv_iload (pc := 77) dX9_init_77 rfl ?_
  refine sv_aload_n (pc := 79) dX9_init_79 rfl rfl ?_
  refine sw_getfield (pc := 80) dX9_init_80 (gCX9 _ _ _ _ _) 4 (by decide) wF_X9_35 rfl rfl rfl ?_
  refine sv_arraylength (pc := 83) (v := 20) (ty := .object RX7) dX9_init_83 rfl (lt_t rfl) rfl (by decide) ?_
  refine sv_icmp_ge (pc := 84) (tgt := 121) dX9_init_84 (by decide) (fun h => absurd h (by decide)) (fun _ => ?_)
  refine sv_aload_n (pc := 87) dX9_init_87 rfl rfl ?_
  refine sw_getfield (pc := 88) dX9_init_88 (gCX9 _ _ _ _ _) 4 (by decide) wF_X9_35 rfl rfl rfl ?_
  refine sv_iload (pc := 91) dX9_init_91 rfl ?_
  refine sw_new (pc := 93) (a := 34) (n1 := 35) (ce1 := 34) (sl1 := 456) (fs := zX7) dX9_init_93 (gCX7 _ _ _ _ _) wC_X9_33 wN_X7 wI_X7 zX7_ok rfl rfl rfl rfl rfl rfl ?_
  refine sv_dup (pc := 96) dX9_init_96 rfl ?_
  refine sv_callI (pc := 97) (M' := mX7_init) (d' := 4) (C' := 2) (S' := 28) (av := []) ?_ (gOk _ _ _ _ _) dX9_init_97 (tX7_init _ _ _ _ _) rfl rfl wV_X7_init wM_X9_42 ⟨le_t rfl, le_t rfl⟩ ⟨le_t rfl, le_t rfl⟩ rfl (le_t rfl) (fun _ _ h => h)
  refine sC.of rfl (by decide) (le_t rfl) ?_
  refine sv_aload_n (pc := 0) dX7_init_0 rfl rfl ?_
  refine sv_objinit (pc := 1) dX7_init_1 wM_X7_3 wV_obj wK_obj ⟨le_t rfl, le_t rfl⟩ (le_t rfl) ?_
  refine sv_aload_n (pc := 4) dX7_init_4 rfl rfl ?_
  refine sv_bipush (pc := 5) (v := 20) dX7_init_5 (by decide) ?_
  refine sw_newarray (pc := 7) (kd := 0) (a := 35) (n1 := 36) (N := 20) (ce1 := 1) (sl1 := 20) (v := .int 0) dX7_init_7 rfl wA_int rfl (fun U => sI_Cond_int U _) (by decide) (by decide) rfl (fun _ => rfl) rfl rfl rfl rfl rfl rfl ?_
  refine sw_putfinal (pc := 9) dX7_init_9 (gCX7 _ _ _ _ _) 0 (by decide) wF_X7_9 rfl rfl rfl rfl rfl (fun _ => rfl) (fun _ => rfl) rfl ?_
  refine sv_aload_n (pc := 12) dX7_init_12 rfl rfl ?_
  refine sv_bipush (pc := 13) (v := 8) dX7_init_13 (by decide) ?_
  refine sw_newarray (pc := 15) (kd := 0) (a := 36) (n1 := 37) (N := 8) (ce1 := 2) (sl1 := 28) (v := .int 0) dX7_init_15 rfl wA_int rfl (fun U => sI_Cond_int U _) (by decide) (by decide) rfl (fun _ => rfl) rfl rfl rfl rfl rfl rfl ?_
  refine sw_putfinal (pc := 17) dX7_init_17 (gCX7 _ _ _ _ _) 1 (by decide) wF_X7_15 rfl rfl rfl rfl rfl (fun _ => rfl) (fun _ => rfl) rfl ?_
  refine sv_aload_n (pc := 20) dX7_init_20 rfl rfl ?_
  refine sv_iconst (pc := 21) (v := (-1)) dX7_init_21 (by decide) ?_
  refine sw_putfield (pc := 22) dX7_init_22 (gCX7 _ _ _ _ _) 9 (by decide) wF_X7_18 rfl rfl rfl (fun _ => rfl) (fun _ => rfl) rfl ?_
  refine sv_vret (pc := 25) dX7_init_25 rfl (le_t rfl) (le_t rfl) ?_
  refine sw_aastore (pc := 100) (k := 5) dX9_init_100 (gCX7 _ _ _ _ _) rfl rfl rfl (by decide) (by decide) rfl rfl rfl ?_
  refine sv_aload_n (pc := 101) dX9_init_101 rfl rfl ?_
  refine sw_getfield (pc := 102) dX9_init_102 (gCX9 _ _ _ _ _) 5 (by decide) wF_X9_39 rfl rfl rfl ?_
  refine sv_iload (pc := 105) dX9_init_105 rfl ?_
  refine sw_new (pc := 107) (a := 37) (n1 := 38) (ce1 := 37) (sl1 := 496) (fs := zX7) dX9_init_107 (gCX7 _ _ _ _ _) wC_X9_33 wN_X7 wI_X7 zX7_ok rfl rfl rfl rfl rfl rfl ?_
  refine sv_dup (pc := 110) dX9_init_110 rfl ?_
  refine sv_callI (pc := 111) (M' := mX7_init) (d' := 4) (C' := 2) (S' := 28) (av := []) ?_ (gOk _ _ _ _ _) dX9_init_111 (tX7_init _ _ _ _ _) rfl rfl wV_X7_init wM_X9_42 ⟨le_t rfl, le_t rfl⟩ ⟨le_t rfl, le_t rfl⟩ rfl (le_t rfl) (fun _ _ h => h)
  refine sC.of rfl (by decide) (le_t rfl) ?_
  refine sv_aload_n (pc := 0) dX7_init_0 rfl rfl ?_
  refine sv_objinit (pc := 1) dX7_init_1 wM_X7_3 wV_obj wK_obj ⟨le_t rfl, le_t rfl⟩ (le_t rfl) ?_
  refine sv_aload_n (pc := 4) dX7_init_4 rfl rfl ?_
  refine sv_bipush (pc := 5) (v := 20) dX7_init_5 (by decide) ?_
  refine sw_newarray (pc := 7) (kd := 0) (a := 38) (n1 := 39) (N := 20) (ce1 := 1) (sl1 := 20) (v := .int 0) dX7_init_7 rfl wA_int rfl (fun U => sI_Cond_int U _) (by decide) (by decide) rfl (fun _ => rfl) rfl rfl rfl rfl rfl rfl ?_
  refine sw_putfinal (pc := 9) dX7_init_9 (gCX7 _ _ _ _ _) 0 (by decide) wF_X7_9 rfl rfl rfl rfl rfl (fun _ => rfl) (fun _ => rfl) rfl ?_
  refine sv_aload_n (pc := 12) dX7_init_12 rfl rfl ?_
  refine sv_bipush (pc := 13) (v := 8) dX7_init_13 (by decide) ?_
  refine sw_newarray (pc := 15) (kd := 0) (a := 39) (n1 := 40) (N := 8) (ce1 := 2) (sl1 := 28) (v := .int 0) dX7_init_15 rfl wA_int rfl (fun U => sI_Cond_int U _) (by decide) (by decide) rfl (fun _ => rfl) rfl rfl rfl rfl rfl rfl ?_
  refine sw_putfinal (pc := 17) dX7_init_17 (gCX7 _ _ _ _ _) 1 (by decide) wF_X7_15 rfl rfl rfl rfl rfl (fun _ => rfl) (fun _ => rfl) rfl ?_
  refine sv_aload_n (pc := 20) dX7_init_20 rfl rfl ?_
  refine sv_iconst (pc := 21) (v := (-1)) dX7_init_21 (by decide) ?_
  refine sw_putfield (pc := 22) dX7_init_22 (gCX7 _ _ _ _ _) 9 (by decide) wF_X7_18 rfl rfl rfl (fun _ => rfl) (fun _ => rfl) rfl ?_
  refine sv_vret (pc := 25) dX7_init_25 rfl (le_t rfl) (le_t rfl) ?_
  refine sw_aastore (pc := 114) (k := 5) dX9_init_114 (gCX7 _ _ _ _ _) rfl rfl rfl (by decide) (by decide) rfl rfl rfl ?_
  refine sw_iinc (pc := 115) (v := 6) dX9_init_115 rfl (by decide) (by decide) ?_
  refine sv_goto (pc := 118) (tgt := 77) dX9_init_118 (by decide) ?_
  refine sv_iload (pc := 77) dX9_init_77 rfl ?_
  refine sv_aload_n (pc := 79) dX9_init_79 rfl rfl ?_
  refine sw_getfield (pc := 80) dX9_init_80 (gCX9 _ _ _ _ _) 4 (by decide) wF_X9_35 rfl rfl rfl ?_
  refine sv_arraylength (pc := 83) (v := 20) (ty := .object RX7) dX9_init_83 rfl (lt_t rfl) rfl (by decide) ?_
  refine sv_icmp_ge (pc := 84) (tgt := 121) dX9_init_84 (by decide) (fun h => absurd h (by decide)) (fun _ => ?_)
  refine sv_aload_n (pc := 87) dX9_init_87 rfl rfl ?_
  refine sw_getfield (pc := 88) dX9_init_88 (gCX9 _ _ _ _ _) 4 (by decide) wF_X9_35 rfl rfl rfl ?_
  refine sv_iload (pc := 91) dX9_init_91 rfl ?_
  refine sw_new (pc := 93) (a := 40) (n1 := 41) (ce1 := 40) (sl1 := 536) (fs := zX7) dX9_init_93 (gCX7 _ _ _ _ _) wC_X9_33 wN_X7 wI_X7 zX7_ok rfl rfl rfl rfl rfl rfl ?_
  refine sv_dup (pc := 96) dX9_init_96 rfl ?_
  refine sv_callI (pc := 97) (M' := mX7_init) (d' := 4) (C' := 2) (S' := 28) (av := []) ?_ (gOk _ _ _ _ _) dX9_init_97 (tX7_init _ _ _ _ _) rfl rfl wV_X7_init wM_X9_42 ⟨le_t rfl, le_t rfl⟩ ⟨le_t rfl, le_t rfl⟩ rfl (le_t rfl) (fun _ _ h => h)
  refine sC.of rfl (by decide) (le_t rfl) ?_
  refine sv_aload_n (pc := 0) dX7_init_0 rfl rfl ?_
  refine sv_objinit (pc := 1) dX7_init_1 wM_X7_3 wV_obj wK_obj ⟨le_t rfl, le_t rfl⟩ (le_t rfl) ?_
  refine sv_aload_n (pc := 4) dX7_init_4 rfl rfl ?_
  refine sv_bipush (pc := 5) (v := 20) dX7_init_5 (by decide) ?_
  refine sw_newarray (pc := 7) (kd := 0) (a := 41) (n1 := 42) (N := 20) (ce1 := 1) (sl1 := 20) (v := .int 0) dX7_init_7 rfl wA_int rfl (fun U => sI_Cond_int U _) (by decide) (by decide) rfl (fun _ => rfl) rfl rfl rfl rfl rfl rfl ?_
  refine sw_putfinal (pc := 9) dX7_init_9 (gCX7 _ _ _ _ _) 0 (by decide) wF_X7_9 rfl rfl rfl rfl rfl (fun _ => rfl) (fun _ => rfl) rfl ?_
  refine sv_aload_n (pc := 12) dX7_init_12 rfl rfl ?_
  refine sv_bipush (pc := 13) (v := 8) dX7_init_13 (by decide) ?_
  refine sw_newarray (pc := 15) (kd := 0) (a := 42) (n1 := 43) (N := 8) (ce1 := 2) (sl1 := 28) (v := .int 0) dX7_init_15 rfl wA_int rfl (fun U => sI_Cond_int U _) (by decide) (by decide) rfl (fun _ => rfl) rfl rfl rfl rfl rfl rfl ?_
  refine sw_putfinal (pc := 17) dX7_init_17 (gCX7 _ _ _ _ _) 1 (by decide) wF_X7_15 rfl rfl rfl rfl rfl (fun _ => rfl) (fun _ => rfl) rfl ?_
  refine sv_aload_n (pc := 20) dX7_init_20 rfl rfl ?_
  refine sv_iconst (pc := 21) (v := (-1)) dX7_init_21 (by decide) ?_
  refine sw_putfield (pc := 22) dX7_init_22 (gCX7 _ _ _ _ _) 9 (by decide) wF_X7_18 rfl rfl rfl (fun _ => rfl) (fun _ => rfl) rfl ?_
  refine sv_vret (pc := 25) dX7_init_25 rfl (le_t rfl) (le_t rfl) ?_
  refine sw_aastore (pc := 100) (k := 6) dX9_init_100 (gCX7 _ _ _ _ _) rfl rfl rfl (by decide) (by decide) rfl rfl rfl ?_
  refine sv_aload_n (pc := 101) dX9_init_101 rfl rfl ?_
  refine sw_getfield (pc := 102) dX9_init_102 (gCX9 _ _ _ _ _) 5 (by decide) wF_X9_39 rfl rfl rfl ?_
  refine sv_iload (pc := 105) dX9_init_105 rfl ?_
  refine sw_new (pc := 107) (a := 43) (n1 := 44) (ce1 := 43) (sl1 := 576) (fs := zX7) dX9_init_107 (gCX7 _ _ _ _ _) wC_X9_33 wN_X7 wI_X7 zX7_ok rfl rfl rfl rfl rfl rfl ?_
  refine sv_dup (pc := 110) dX9_init_110 rfl ?_
  refine sv_callI (pc := 111) (M' := mX7_init) (d' := 4) (C' := 2) (S' := 28) (av := []) ?_ (gOk _ _ _ _ _) dX9_init_111 (tX7_init _ _ _ _ _) rfl rfl wV_X7_init wM_X9_42 ⟨le_t rfl, le_t rfl⟩ ⟨le_t rfl, le_t rfl⟩ rfl (le_t rfl) (fun _ _ h => h)
  refine sC.of rfl (by decide) (le_t rfl) ?_
  refine sv_aload_n (pc := 0) dX7_init_0 rfl rfl ?_
  refine sv_objinit (pc := 1) dX7_init_1 wM_X7_3 wV_obj wK_obj ⟨le_t rfl, le_t rfl⟩ (le_t rfl) ?_
  refine sv_aload_n (pc := 4) dX7_init_4 rfl rfl ?_
  refine sv_bipush (pc := 5) (v := 20) dX7_init_5 (by decide) ?_
  refine sw_newarray (pc := 7) (kd := 0) (a := 44) (n1 := 45) (N := 20) (ce1 := 1) (sl1 := 20) (v := .int 0) dX7_init_7 rfl wA_int rfl (fun U => sI_Cond_int U _) (by decide) (by decide) rfl (fun _ => rfl) rfl rfl rfl rfl rfl rfl ?_
  refine sw_putfinal (pc := 9) dX7_init_9 (gCX7 _ _ _ _ _) 0 (by decide) wF_X7_9 rfl rfl rfl rfl rfl (fun _ => rfl) (fun _ => rfl) rfl ?_
  refine sv_aload_n (pc := 12) dX7_init_12 rfl rfl ?_
  refine sv_bipush (pc := 13) (v := 8) dX7_init_13 (by decide) ?_
  refine sw_newarray (pc := 15) (kd := 0) (a := 45) (n1 := 46) (N := 8) (ce1 := 2) (sl1 := 28) (v := .int 0) dX7_init_15 rfl wA_int rfl (fun U => sI_Cond_int U _) (by decide) (by decide) rfl (fun _ => rfl) rfl rfl rfl rfl rfl rfl ?_
  refine sw_putfinal (pc := 17) dX7_init_17 (gCX7 _ _ _ _ _) 1 (by decide) wF_X7_15 rfl rfl rfl rfl rfl (fun _ => rfl) (fun _ => rfl) rfl ?_
  refine sv_aload_n (pc := 20) dX7_init_20 rfl rfl ?_
  refine sv_iconst (pc := 21) (v := (-1)) dX7_init_21 (by decide) ?_
  refine sw_putfield (pc := 22) dX7_init_22 (gCX7 _ _ _ _ _) 9 (by decide) wF_X7_18 rfl rfl rfl (fun _ => rfl) (fun _ => rfl) rfl ?_
  refine sv_vret (pc := 25) dX7_init_25 rfl (le_t rfl) (le_t rfl) ?_
  refine sw_aastore (pc := 114) (k := 6) dX9_init_114 (gCX7 _ _ _ _ _) rfl rfl rfl (by decide) (by decide) rfl rfl rfl ?_
  refine sw_iinc (pc := 115) (v := 7) dX9_init_115 rfl (by decide) (by decide) ?_
  refine sv_lvG (pc := 118) (lv' := [(0, .ref 0), (1, .int xa), (2, .int xb), (3, .int xk), (4, .int 7)]) (List.forall_mem_cons.mpr ⟨rfl, List.forall_mem_cons.mpr ⟨rfl, List.forall_mem_cons.mpr ⟨rfl, List.forall_mem_cons.mpr ⟨rfl, List.forall_mem_cons.mpr ⟨rfl, fun _ h => absurd h List.not_mem_nil⟩⟩⟩⟩⟩) ?_
  refine sv_goto (pc := 118) (tgt := 77) dX9_init_118 (by decide) ?_
  refine sv_iload (pc := 77) dX9_init_77 rfl ?_
  refine sv_aload_n (pc := 79) dX9_init_79 rfl rfl ?_
  refine sw_getfield (pc := 80) dX9_init_80 (gCX9 _ _ _ _ _) 4 (by decide) wF_X9_35 rfl rfl rfl ?_
  refine sv_arraylength (pc := 83) (v := 20) (ty := .object RX7) dX9_init_83 rfl (lt_t rfl) rfl (by decide) ?_
  refine sv_icmp_ge (pc := 84) (tgt := 121) dX9_init_84 (by decide) (fun h => absurd h (by decide)) (fun _ => ?_)
  refine sv_aload_n (pc := 87) dX9_init_87 rfl rfl ?_
  refine sw_getfield (pc := 88) dX9_init_88 (gCX9 _ _ _ _ _) 4 (by decide) wF_X9_35 rfl rfl rfl ?_
  refine sv_iload (pc := 91) dX9_init_91 rfl ?_
  refine sw_new (pc := 93) (a := 46) (n1 := 47) (ce1 := 46) (sl1 := 616) (fs := zX7) dX9_init_93 (gCX7 _ _ _ _ _) wC_X9_33 wN_X7 wI_X7 zX7_ok rfl rfl rfl rfl rfl rfl ?_
  refine sv_dup (pc := 96) dX9_init_96 rfl ?_
  refine sv_callI (pc := 97) (M' := mX7_init) (d' := 4) (C' := 2) (S' := 28) (av := []) ?_ (gOk _ _ _ _ _) dX9_init_97 (tX7_init _ _ _ _ _) rfl rfl wV_X7_init wM_X9_42 ⟨le_t rfl, le_t rfl⟩ ⟨le_t rfl, le_t rfl⟩ rfl (le_t rfl) (fun _ _ h => h)
  refine sC.of rfl (by decide) (le_t rfl) ?_
  refine sv_aload_n (pc := 0) dX7_init_0 rfl rfl ?_
  refine sv_objinit (pc := 1) dX7_init_1 wM_X7_3 wV_obj wK_obj ⟨le_t rfl, le_t rfl⟩ (le_t rfl) ?_
  refine sv_aload_n (pc := 4) dX7_init_4 rfl rfl ?_
  refine sv_bipush (pc := 5) (v := 20) dX7_init_5 (by decide) ?_
  refine sw_newarray (pc := 7) (kd := 0) (a := 47) (n1 := 48) (N := 20) (ce1 := 1) (sl1 := 20) (v := .int 0) dX7_init_7 rfl wA_int rfl (fun U => sI_Cond_int U _) (by decide) (by decide) rfl (fun _ => rfl) rfl rfl rfl rfl rfl rfl ?_
  refine sw_putfinal (pc := 9) dX7_init_9 (gCX7 _ _ _ _ _) 0 (by decide) wF_X7_9 rfl rfl rfl rfl rfl (fun _ => rfl) (fun _ => rfl) rfl ?_
  refine sv_aload_n (pc := 12) dX7_init_12 rfl rfl ?_
  refine sv_bipush (pc := 13) (v := 8) dX7_init_13 (by decide) ?_
  refine sw_newarray (pc := 15) (kd := 0) (a := 48) (n1 := 49) (N := 8) (ce1 := 2) (sl1 := 28) (v := .int 0) dX7_init_15 rfl wA_int rfl (fun U => sI_Cond_int U _) (by decide) (by decide) rfl (fun _ => rfl) rfl rfl rfl rfl rfl rfl ?_
  refine sw_putfinal (pc := 17) dX7_init_17 (gCX7 _ _ _ _ _) 1 (by decide) wF_X7_15 rfl rfl rfl rfl rfl (fun _ => rfl) (fun _ => rfl) rfl ?_
  refine sv_aload_n (pc := 20) dX7_init_20 rfl rfl ?_
  refine sv_iconst (pc := 21) (v := (-1)) dX7_init_21 (by decide) ?_
  refine sw_putfield (pc := 22) dX7_init_22 (gCX7 _ _ _ _ _) 9 (by decide) wF_X7_18 rfl rfl rfl (fun _ => rfl) (fun _ => rfl) rfl ?_
  refine sv_vret (pc := 25) dX7_init_25 rfl (le_t rfl) (le_t rfl) ?_
  refine sw_aastore (pc := 100) (k := 7) dX9_init_100 (gCX7 _ _ _ _ _) rfl rfl rfl (by decide) (by decide) rfl rfl rfl ?_
  refine sv_aload_n (pc := 101) dX9_init_101 rfl rfl ?_
  refine sw_getfield (pc := 102) dX9_init_102 (gCX9 _ _ _ _ _) 5 (by decide) wF_X9_39 rfl rfl rfl ?_
  refine sv_iload (pc := 105) dX9_init_105 rfl ?_
  refine sw_new (pc := 107) (a := 49) (n1 := 50) (ce1 := 49) (sl1 := 656) (fs := zX7) dX9_init_107 (gCX7 _ _ _ _ _) wC_X9_33 wN_X7 wI_X7 zX7_ok rfl rfl rfl rfl rfl rfl ?_
  refine sv_dup (pc := 110) dX9_init_110 rfl ?_
  refine sv_callI (pc := 111) (M' := mX7_init) (d' := 4) (C' := 2) (S' := 28) (av := []) ?_ (gOk _ _ _ _ _) dX9_init_111 (tX7_init _ _ _ _ _) rfl rfl wV_X7_init wM_X9_42 ⟨le_t rfl, le_t rfl⟩ ⟨le_t rfl, le_t rfl⟩ rfl (le_t rfl) (fun _ _ h => h)
  refine sC.of rfl (by decide) (le_t rfl) ?_
  refine sv_aload_n (pc := 0) dX7_init_0 rfl rfl ?_
  refine sv_objinit (pc := 1) dX7_init_1 wM_X7_3 wV_obj wK_obj ⟨le_t rfl, le_t rfl⟩ (le_t rfl) ?_
  refine sv_aload_n (pc := 4) dX7_init_4 rfl rfl ?_
  refine sv_bipush (pc := 5) (v := 20) dX7_init_5 (by decide) ?_
  refine sw_newarray (pc := 7) (kd := 0) (a := 50) (n1 := 51) (N := 20) (ce1 := 1) (sl1 := 20) (v := .int 0) dX7_init_7 rfl wA_int rfl (fun U => sI_Cond_int U _) (by decide) (by decide) rfl (fun _ => rfl) rfl rfl rfl rfl rfl rfl ?_
  refine sw_putfinal (pc := 9) dX7_init_9 (gCX7 _ _ _ _ _) 0 (by decide) wF_X7_9 rfl rfl rfl rfl rfl (fun _ => rfl) (fun _ => rfl) rfl ?_
  refine sv_aload_n (pc := 12) dX7_init_12 rfl rfl ?_
  refine sv_bipush (pc := 13) (v := 8) dX7_init_13 (by decide) ?_
  refine sw_newarray (pc := 15) (kd := 0) (a := 51) (n1 := 52) (N := 8) (ce1 := 2) (sl1 := 28) (v := .int 0) dX7_init_15 rfl wA_int rfl (fun U => sI_Cond_int U _) (by decide) (by decide) rfl (fun _ => rfl) rfl rfl rfl rfl rfl rfl ?_
  refine sw_putfinal (pc := 17) dX7_init_17 (gCX7 _ _ _ _ _) 1 (by decide) wF_X7_15 rfl rfl rfl rfl rfl (fun _ => rfl) (fun _ => rfl) rfl ?_
  refine sv_aload_n (pc := 20) dX7_init_20 rfl rfl ?_
  refine sv_iconst (pc := 21) (v := (-1)) dX7_init_21 (by decide) ?_
  refine sw_putfield (pc := 22) dX7_init_22 (gCX7 _ _ _ _ _) 9 (by decide) wF_X7_18 rfl rfl rfl (fun _ => rfl) (fun _ => rfl) rfl ?_
  refine sv_vret (pc := 25) dX7_init_25 rfl (le_t rfl) (le_t rfl) ?_
  refine sw_aastore (pc := 114) (k := 7) dX9_init_114 (gCX7 _ _ _ _ _) rfl rfl rfl (by decide) (by decide) rfl rfl rfl ?_
  refine sw_iinc (pc := 115) (v := 8) dX9_init_115 rfl (by decide) (by decide) ?_
  refine sv_goto (pc := 118) (tgt := 77) dX9_init_118 (by decide) ?_
  refine sv_iload (pc := 77) dX9_init_77 rfl ?_
  refine sv_aload_n (pc := 79) dX9_init_79 rfl rfl ?_
  refine sw_getfield (pc := 80) dX9_init_80 (gCX9 _ _ _ _ _) 4 (by decide) wF_X9_35 rfl rfl rfl ?_
  refine sv_arraylength (pc := 83) (v := 20) (ty := .object RX7) dX9_init_83 rfl (lt_t rfl) rfl (by decide) ?_
  refine sv_icmp_ge (pc := 84) (tgt := 121) dX9_init_84 (by decide) (fun h => absurd h (by decide)) (fun _ => ?_)
  refine sv_aload_n (pc := 87) dX9_init_87 rfl rfl ?_
  refine sw_getfield (pc := 88) dX9_init_88 (gCX9 _ _ _ _ _) 4 (by decide) wF_X9_35 rfl rfl rfl ?_
  refine sv_iload (pc := 91) dX9_init_91 rfl ?_
  refine sw_new (pc := 93) (a := 52) (n1 := 53) (ce1 := 52) (sl1 := 696) (fs := zX7) dX9_init_93 (gCX7 _ _ _ _ _) wC_X9_33 wN_X7 wI_X7 zX7_ok rfl rfl rfl rfl rfl rfl ?_
  refine sv_dup (pc := 96) dX9_init_96 rfl ?_
  refine sv_callI (pc := 97) (M' := mX7_init) (d' := 4) (C' := 2) (S' := 28) (av := []) ?_ (gOk _ _ _ _ _) dX9_init_97 (tX7_init _ _ _ _ _) rfl rfl wV_X7_init wM_X9_42 ⟨le_t rfl, le_t rfl⟩ ⟨le_t rfl, le_t rfl⟩ rfl (le_t rfl) (fun _ _ h => h)
  refine sC.of rfl (by decide) (le_t rfl) ?_
  refine sv_aload_n (pc := 0) dX7_init_0 rfl rfl ?_
  refine sv_objinit (pc := 1) dX7_init_1 wM_X7_3 wV_obj wK_obj ⟨le_t rfl, le_t rfl⟩ (le_t rfl) ?_
  refine sv_aload_n (pc := 4) dX7_init_4 rfl rfl ?_
  refine sv_bipush (pc := 5) (v := 20) dX7_init_5 (by decide) ?_
  refine sw_newarray (pc := 7) (kd := 0) (a := 53) (n1 := 54) (N := 20) (ce1 := 1) (sl1 := 20) (v := .int 0) dX7_init_7 rfl wA_int rfl (fun U => sI_Cond_int U _) (by decide) (by decide) rfl (fun _ => rfl) rfl rfl rfl rfl rfl rfl ?_
  refine sw_putfinal (pc := 9) dX7_init_9 (gCX7 _ _ _ _ _) 0 (by decide) wF_X7_9 rfl rfl rfl rfl rfl (fun _ => rfl) (fun _ => rfl) rfl ?_
  refine sv_aload_n (pc := 12) dX7_init_12 rfl rfl ?_
  refine sv_bipush (pc := 13) (v := 8) dX7_init_13 (by decide) ?_
  refine sw_newarray (pc := 15) (kd := 0) (a := 54) (n1 := 55) (N := 8) (ce1 := 2) (sl1 := 28) (v := .int 0) dX7_init_15 rfl wA_int rfl (fun U => sI_Cond_int U _) (by decide) (by decide) rfl (fun _ => rfl) rfl rfl rfl rfl rfl rfl ?_
  refine sw_putfinal (pc := 17) dX7_init_17 (gCX7 _ _ _ _ _) 1 (by decide) wF_X7_15 rfl rfl rfl rfl rfl (fun _ => rfl) (fun _ => rfl) rfl ?_
  refine sv_aload_n (pc := 20) dX7_init_20 rfl rfl ?_
  refine sv_iconst (pc := 21) (v := (-1)) dX7_init_21 (by decide) ?_
  refine sw_putfield (pc := 22) dX7_init_22 (gCX7 _ _ _ _ _) 9 (by decide) wF_X7_18 rfl rfl rfl (fun _ => rfl) (fun _ => rfl) rfl ?_
  refine sv_vret (pc := 25) dX7_init_25 rfl (le_t rfl) (le_t rfl) ?_
  refine sw_aastore (pc := 100) (k := 8) dX9_init_100 (gCX7 _ _ _ _ _) rfl rfl rfl (by decide) (by decide) rfl rfl rfl ?_
  refine sv_aload_n (pc := 101) dX9_init_101 rfl rfl ?_
  refine sw_getfield (pc := 102) dX9_init_102 (gCX9 _ _ _ _ _) 5 (by decide) wF_X9_39 rfl rfl rfl ?_
  refine sv_iload (pc := 105) dX9_init_105 rfl ?_
  refine sw_new (pc := 107) (a := 55) (n1 := 56) (ce1 := 55) (sl1 := 736) (fs := zX7) dX9_init_107 (gCX7 _ _ _ _ _) wC_X9_33 wN_X7 wI_X7 zX7_ok rfl rfl rfl rfl rfl rfl ?_
  refine sv_dup (pc := 110) dX9_init_110 rfl ?_
  refine sv_callI (pc := 111) (M' := mX7_init) (d' := 4) (C' := 2) (S' := 28) (av := []) ?_ (gOk _ _ _ _ _) dX9_init_111 (tX7_init _ _ _ _ _) rfl rfl wV_X7_init wM_X9_42 ⟨le_t rfl, le_t rfl⟩ ⟨le_t rfl, le_t rfl⟩ rfl (le_t rfl) (fun _ _ h => h)
  refine sC.of rfl (by decide) (le_t rfl) ?_
  refine sv_aload_n (pc := 0) dX7_init_0 rfl rfl ?_
  refine sv_objinit (pc := 1) dX7_init_1 wM_X7_3 wV_obj wK_obj ⟨le_t rfl, le_t rfl⟩ (le_t rfl) ?_
  refine sv_aload_n (pc := 4) dX7_init_4 rfl rfl ?_
  refine sv_bipush (pc := 5) (v := 20) dX7_init_5 (by decide) ?_
  refine sw_newarray (pc := 7) (kd := 0) (a := 56) (n1 := 57) (N := 20) (ce1 := 1) (sl1 := 20) (v := .int 0) dX7_init_7 rfl wA_int rfl (fun U => sI_Cond_int U _) (by decide) (by decide) rfl (fun _ => rfl) rfl rfl rfl rfl rfl rfl ?_
  refine sw_putfinal (pc := 9) dX7_init_9 (gCX7 _ _ _ _ _) 0 (by decide) wF_X7_9 rfl rfl rfl rfl rfl (fun _ => rfl) (fun _ => rfl) rfl ?_
  refine sv_aload_n (pc := 12) dX7_init_12 rfl rfl ?_
  refine sv_bipush (pc := 13) (v := 8) dX7_init_13 (by decide) ?_
  refine sw_newarray (pc := 15) (kd := 0) (a := 57) (n1 := 58) (N := 8) (ce1 := 2) (sl1 := 28) (v := .int 0) dX7_init_15 rfl wA_int rfl (fun U => sI_Cond_int U _) (by decide) (by decide) rfl (fun _ => rfl) rfl rfl rfl rfl rfl rfl ?_
  refine sw_putfinal (pc := 17) dX7_init_17 (gCX7 _ _ _ _ _) 1 (by decide) wF_X7_15 rfl rfl rfl rfl rfl (fun _ => rfl) (fun _ => rfl) rfl ?_
  refine sv_aload_n (pc := 20) dX7_init_20 rfl rfl ?_
  refine sv_iconst (pc := 21) (v := (-1)) dX7_init_21 (by decide) ?_
  refine sw_putfield (pc := 22) dX7_init_22 (gCX7 _ _ _ _ _) 9 (by decide) wF_X7_18 rfl rfl rfl (fun _ => rfl) (fun _ => rfl) rfl ?_
  refine sv_vret (pc := 25) dX7_init_25 rfl (le_t rfl) (le_t rfl) ?_
  refine sw_aastore (pc := 114) (k := 8) dX9_init_114 (gCX7 _ _ _ _ _) rfl rfl rfl (by decide) (by decide) rfl rfl rfl ?_
  refine sw_iinc (pc := 115) (v := 9) dX9_init_115 rfl (by decide) (by decide) ?_
  refine sv_goto (pc := 118) (tgt := 77) dX9_init_118 (by decide) ?_
  refine sv_iload (pc := 77) dX9_init_77 rfl ?_
  refine sv_aload_n (pc := 79) dX9_init_79 rfl rfl ?_
  refine sw_getfield (pc := 80) dX9_init_80 (gCX9 _ _ _ _ _) 4 (by decide) wF_X9_35 rfl rfl rfl ?_
  refine sv_arraylength (pc := 83) (v := 20) (ty := .object RX7) dX9_init_83 rfl (lt_t rfl) rfl (by decide) ?_
  refine sv_icmp_ge (pc := 84) (tgt := 121) dX9_init_84 (by decide) (fun h => absurd h (by decide)) (fun _ => ?_)
  refine sv_aload_n (pc := 87) dX9_init_87 rfl rfl ?_
  refine sw_getfield (pc := 88) dX9_init_88 (gCX9 _ _ _ _ _) 4 (by decide) wF_X9_35 rfl rfl rfl ?_
  refine sv_iload (pc := 91) dX9_init_91 rfl ?_
  refine sw_new (pc := 93) (a := 58) (n1 := 59) (ce1 := 58) (sl1 := 776) (fs := zX7) dX9_init_93 (gCX7 _ _ _ _ _) wC_X9_33 wN_X7 wI_X7 zX7_ok rfl rfl rfl rfl rfl rfl ?_
  refine sv_dup (pc := 96) dX9_init_96 rfl ?_
  refine sv_callI (pc := 97) (M' := mX7_init) (d' := 4) (C' := 2) (S' := 28) (av := []) ?_ (gOk _ _ _ _ _) dX9_init_97 (tX7_init _ _ _ _ _) rfl rfl wV_X7_init wM_X9_42 ⟨le_t rfl, le_t rfl⟩ ⟨le_t rfl, le_t rfl⟩ rfl (le_t rfl) (fun _ _ h => h)
  refine sC.of rfl (by decide) (le_t rfl) ?_
  refine sv_aload_n (pc := 0) dX7_init_0 rfl rfl ?_
  refine sv_objinit (pc := 1) dX7_init_1 wM_X7_3 wV_obj wK_obj ⟨le_t rfl, le_t rfl⟩ (le_t rfl) ?_
  refine sv_aload_n (pc := 4) dX7_init_4 rfl rfl ?_
  refine sv_bipush (pc := 5) (v := 20) dX7_init_5 (by decide) ?_
  refine sw_newarray (pc := 7) (kd := 0) (a := 59) (n1 := 60) (N := 20) (ce1 := 1) (sl1 := 20) (v := .int 0) dX7_init_7 rfl wA_int rfl (fun U => sI_Cond_int U _) (by decide) (by decide) rfl (fun _ => rfl) rfl rfl rfl rfl rfl rfl ?_
  refine sw_putfinal (pc := 9) dX7_init_9 (gCX7 _ _ _ _ _) 0 (by decide) wF_X7_9 rfl rfl rfl rfl rfl (fun _ => rfl) (fun _ => rfl) rfl ?_
  refine sv_aload_n (pc := 12) dX7_init_12 rfl rfl ?_
  refine sv_bipush (pc := 13) (v := 8) dX7_init_13 (by decide) ?_
  refine sw_newarray (pc := 15) (kd := 0) (a := 60) (n1 := 61) (N := 8) (ce1 := 2) (sl1 := 28) (v := .int 0) dX7_init_15 rfl wA_int rfl (fun U => sI_Cond_int U _) (by decide) (by decide) rfl (fun _ => rfl) rfl rfl rfl rfl rfl rfl ?_
  refine sw_putfinal (pc := 17) dX7_init_17 (gCX7 _ _ _ _ _) 1 (by decide) wF_X7_15 rfl rfl rfl rfl rfl (fun _ => rfl) (fun _ => rfl) rfl ?_
  refine sv_aload_n (pc := 20) dX7_init_20 rfl rfl ?_
  refine sv_iconst (pc := 21) (v := (-1)) dX7_init_21 (by decide) ?_
  refine sw_putfield (pc := 22) dX7_init_22 (gCX7 _ _ _ _ _) 9 (by decide) wF_X7_18 rfl rfl rfl (fun _ => rfl) (fun _ => rfl) rfl ?_
  refine sv_vret (pc := 25) dX7_init_25 rfl (le_t rfl) (le_t rfl) ?_
  refine sw_aastore (pc := 100) (k := 9) dX9_init_100 (gCX7 _ _ _ _ _) rfl rfl rfl (by decide) (by decide) rfl rfl rfl ?_
  refine sv_aload_n (pc := 101) dX9_init_101 rfl rfl ?_
  refine sw_getfield (pc := 102) dX9_init_102 (gCX9 _ _ _ _ _) 5 (by decide) wF_X9_39 rfl rfl rfl ?_
  refine sv_iload (pc := 105) dX9_init_105 rfl ?_
  refine sw_new (pc := 107) (a := 61) (n1 := 62) (ce1 := 61) (sl1 := 816) (fs := zX7) dX9_init_107 (gCX7 _ _ _ _ _) wC_X9_33 wN_X7 wI_X7 zX7_ok rfl rfl rfl rfl rfl rfl ?_
  refine sv_dup (pc := 110) dX9_init_110 rfl ?_
  refine sv_callI (pc := 111) (M' := mX7_init) (d' := 4) (C' := 2) (S' := 28) (av := []) ?_ (gOk _ _ _ _ _) dX9_init_111 (tX7_init _ _ _ _ _) rfl rfl wV_X7_init wM_X9_42 ⟨le_t rfl, le_t rfl⟩ ⟨le_t rfl, le_t rfl⟩ rfl (le_t rfl) (fun _ _ h => h)
  refine sC.of rfl (by decide) (le_t rfl) ?_
  refine sv_aload_n (pc := 0) dX7_init_0 rfl rfl ?_
  refine sv_objinit (pc := 1) dX7_init_1 wM_X7_3 wV_obj wK_obj ⟨le_t rfl, le_t rfl⟩ (le_t rfl) ?_
  refine sv_aload_n (pc := 4) dX7_init_4 rfl rfl ?_
  refine sv_bipush (pc := 5) (v := 20) dX7_init_5 (by decide) ?_
  refine sw_newarray (pc := 7) (kd := 0) (a := 62) (n1 := 63) (N := 20) (ce1 := 1) (sl1 := 20) (v := .int 0) dX7_init_7 rfl wA_int rfl (fun U => sI_Cond_int U _) (by decide) (by decide) rfl (fun _ => rfl) rfl rfl rfl rfl rfl rfl ?_
  refine sw_putfinal (pc := 9) dX7_init_9 (gCX7 _ _ _ _ _) 0 (by decide) wF_X7_9 rfl rfl rfl rfl rfl (fun _ => rfl) (fun _ => rfl) rfl ?_
  refine sv_aload_n (pc := 12) dX7_init_12 rfl rfl ?_
  refine sv_bipush (pc := 13) (v := 8) dX7_init_13 (by decide) ?_
  refine sw_newarray (pc := 15) (kd := 0) (a := 63) (n1 := 64) (N := 8) (ce1 := 2) (sl1 := 28) (v := .int 0) dX7_init_15 rfl wA_int rfl (fun U => sI_Cond_int U _) (by decide) (by decide) rfl (fun _ => rfl) rfl rfl rfl rfl rfl rfl ?_
  refine sw_putfinal (pc := 17) dX7_init_17 (gCX7 _ _ _ _ _) 1 (by decide) wF_X7_15 rfl rfl rfl rfl rfl (fun _ => rfl) (fun _ => rfl) rfl ?_
  refine sv_aload_n (pc := 20) dX7_init_20 rfl rfl ?_
  refine sv_iconst (pc := 21) (v := (-1)) dX7_init_21 (by decide) ?_
  refine sw_putfield (pc := 22) dX7_init_22 (gCX7 _ _ _ _ _) 9 (by decide) wF_X7_18 rfl rfl rfl (fun _ => rfl) (fun _ => rfl) rfl ?_
  refine sv_vret (pc := 25) dX7_init_25 rfl (le_t rfl) (le_t rfl) ?_
  refine sw_aastore (pc := 114) (k := 9) dX9_init_114 (gCX7 _ _ _ _ _) rfl rfl rfl (by decide) (by decide) rfl rfl rfl ?_
  refine sw_iinc (pc := 115) (v := 10) dX9_init_115 rfl (by decide) (by decide) ?_
  refine sv_goto (pc := 118) (tgt := 77) dX9_init_118 (by decide) ?_
  refine sv_iload (pc := 77) dX9_init_77 rfl ?_
  refine sv_aload_n (pc := 79) dX9_init_79 rfl rfl ?_
  refine sw_getfield (pc := 80) dX9_init_80 (gCX9 _ _ _ _ _) 4 (by decide) wF_X9_35 rfl rfl rfl ?_
  refine sv_arraylength (pc := 83) (v := 20) (ty := .object RX7) dX9_init_83 rfl (lt_t rfl) rfl (by decide) ?_
  refine sv_icmp_ge (pc := 84) (tgt := 121) dX9_init_84 (by decide) (fun h => absurd h (by decide)) (fun _ => ?_)
  refine sv_aload_n (pc := 87) dX9_init_87 rfl rfl ?_
  refine sw_getfield (pc := 88) dX9_init_88 (gCX9 _ _ _ _ _) 4 (by decide) wF_X9_35 rfl rfl rfl ?_
  refine sv_iload (pc := 91) dX9_init_91 rfl ?_
  refine sw_new (pc := 93) (a := 64) (n1 := 65) (ce1 := 64) (sl1 := 856) (fs := zX7) dX9_init_93 (gCX7 _ _ _ _ _) wC_X9_33 wN_X7 wI_X7 zX7_ok rfl rfl rfl rfl rfl rfl ?_
  refine sv_dup (pc := 96) dX9_init_96 rfl ?_
  refine sv_callI (pc := 97) (M' := mX7_init) (d' := 4) (C' := 2) (S' := 28) (av := []) ?_ (gOk _ _ _ _ _) dX9_init_97 (tX7_init _ _ _ _ _) rfl rfl wV_X7_init wM_X9_42 ⟨le_t rfl, le_t rfl⟩ ⟨le_t rfl, le_t rfl⟩ rfl (le_t rfl) (fun _ _ h => h)
  refine sC.of rfl (by decide) (le_t rfl) ?_
  refine sv_aload_n (pc := 0) dX7_init_0 rfl rfl ?_
  refine sv_objinit (pc := 1) dX7_init_1 wM_X7_3 wV_obj wK_obj ⟨le_t rfl, le_t rfl⟩ (le_t rfl) ?_
  refine sv_aload_n (pc := 4) dX7_init_4 rfl rfl ?_
  refine sv_bipush (pc := 5) (v := 20) dX7_init_5 (by decide) ?_
  refine sw_newarray (pc := 7) (kd := 0) (a := 65) (n1 := 66) (N := 20) (ce1 := 1) (sl1 := 20) (v := .int 0) dX7_init_7 rfl wA_int rfl (fun U => sI_Cond_int U _) (by decide) (by decide) rfl (fun _ => rfl) rfl rfl rfl rfl rfl rfl ?_
  refine sw_putfinal (pc := 9) dX7_init_9 (gCX7 _ _ _ _ _) 0 (by decide) wF_X7_9 rfl rfl rfl rfl rfl (fun _ => rfl) (fun _ => rfl) rfl ?_
  refine sv_aload_n (pc := 12) dX7_init_12 rfl rfl ?_
  refine sv_bipush (pc := 13) (v := 8) dX7_init_13 (by decide) ?_
  refine sw_newarray (pc := 15) (kd := 0) (a := 66) (n1 := 67) (N := 8) (ce1 := 2) (sl1 := 28) (v := .int 0) dX7_init_15 rfl wA_int rfl (fun U => sI_Cond_int U _) (by decide) (by decide) rfl (fun _ => rfl) rfl rfl rfl rfl rfl rfl ?_
  refine sw_putfinal (pc := 17) dX7_init_17 (gCX7 _ _ _ _ _) 1 (by decide) wF_X7_15 rfl rfl rfl rfl rfl (fun _ => rfl) (fun _ => rfl) rfl ?_
  refine sv_aload_n (pc := 20) dX7_init_20 rfl rfl ?_
  refine sv_iconst (pc := 21) (v := (-1)) dX7_init_21 (by decide) ?_
  refine sw_putfield (pc := 22) dX7_init_22 (gCX7 _ _ _ _ _) 9 (by decide) wF_X7_18 rfl rfl rfl (fun _ => rfl) (fun _ => rfl) rfl ?_
  refine sv_vret (pc := 25) dX7_init_25 rfl (le_t rfl) (le_t rfl) ?_
  refine sw_aastore (pc := 100) (k := 10) dX9_init_100 (gCX7 _ _ _ _ _) rfl rfl rfl (by decide) (by decide) rfl rfl rfl ?_
  refine sv_aload_n (pc := 101) dX9_init_101 rfl rfl ?_
  refine sw_getfield (pc := 102) dX9_init_102 (gCX9 _ _ _ _ _) 5 (by decide) wF_X9_39 rfl rfl rfl ?_
  refine sv_iload (pc := 105) dX9_init_105 rfl ?_
  refine sw_new (pc := 107) (a := 67) (n1 := 68) (ce1 := 67) (sl1 := 896) (fs := zX7) dX9_init_107 (gCX7 _ _ _ _ _) wC_X9_33 wN_X7 wI_X7 zX7_ok rfl rfl rfl rfl rfl rfl ?_
  refine sv_dup (pc := 110) dX9_init_110 rfl ?_
  refine sv_callI (pc := 111) (M' := mX7_init) (d' := 4) (C' := 2) (S' := 28) (av := []) ?_ (gOk _ _ _ _ _) dX9_init_111 (tX7_init _ _ _ _ _) rfl rfl wV_X7_init wM_X9_42 ⟨le_t rfl, le_t rfl⟩ ⟨le_t rfl, le_t rfl⟩ rfl (le_t rfl) (fun _ _ h => h)
  refine sC.of rfl (by decide) (le_t rfl) ?_
  refine sv_aload_n (pc := 0) dX7_init_0 rfl rfl ?_
  refine sv_objinit (pc := 1) dX7_init_1 wM_X7_3 wV_obj wK_obj ⟨le_t rfl, le_t rfl⟩ (le_t rfl) ?_
  refine sv_aload_n (pc := 4) dX7_init_4 rfl rfl ?_
  refine sv_bipush (pc := 5) (v := 20) dX7_init_5 (by decide) ?_
  refine sw_newarray (pc := 7) (kd := 0) (a := 68) (n1 := 69) (N := 20) (ce1 := 1) (sl1 := 20) (v := .int 0) dX7_init_7 rfl wA_int rfl (fun U => sI_Cond_int U _) (by decide) (by decide) rfl (fun _ => rfl) rfl rfl rfl rfl rfl rfl ?_
  refine sw_putfinal (pc := 9) dX7_init_9 (gCX7 _ _ _ _ _) 0 (by decide) wF_X7_9 rfl rfl rfl rfl rfl (fun _ => rfl) (fun _ => rfl) rfl ?_
  refine sv_aload_n (pc := 12) dX7_init_12 rfl rfl ?_
  refine sv_bipush (pc := 13) (v := 8) dX7_init_13 (by decide) ?_
  refine sw_newarray (pc := 15) (kd := 0) (a := 69) (n1 := 70) (N := 8) (ce1 := 2) (sl1 := 28) (v := .int 0) dX7_init_15 rfl wA_int rfl (fun U => sI_Cond_int U _) (by decide) (by decide) rfl (fun _ => rfl) rfl rfl rfl rfl rfl rfl ?_
  refine sw_putfinal (pc := 17) dX7_init_17 (gCX7 _ _ _ _ _) 1 (by decide) wF_X7_15 rfl rfl rfl rfl rfl (fun _ => rfl) (fun _ => rfl) rfl ?_
  refine sv_aload_n (pc := 20) dX7_init_20 rfl rfl ?_
  refine sv_iconst (pc := 21) (v := (-1)) dX7_init_21 (by decide) ?_
  refine sw_putfield (pc := 22) dX7_init_22 (gCX7 _ _ _ _ _) 9 (by decide) wF_X7_18 rfl rfl rfl (fun _ => rfl) (fun _ => rfl) rfl ?_
  refine sv_vret (pc := 25) dX7_init_25 rfl (le_t rfl) (le_t rfl) ?_
  refine sw_aastore (pc := 114) (k := 10) dX9_init_114 (gCX7 _ _ _ _ _) rfl rfl rfl (by decide) (by decide) rfl rfl rfl ?_
  refine sw_iinc (pc := 115) (v := 11) dX9_init_115 rfl (by decide) (by decide) ?_
  refine sv_goto (pc := 118) (tgt := 77) dX9_init_118 (by decide) ?_
  refine sv_iload (pc := 77) dX9_init_77 rfl ?_
  refine sv_aload_n (pc := 79) dX9_init_79 rfl rfl ?_
  refine sw_getfield (pc := 80) dX9_init_80 (gCX9 _ _ _ _ _) 4 (by decide) wF_X9_35 rfl rfl rfl ?_
  refine sv_arraylength (pc := 83) (v := 20) (ty := .object RX7) dX9_init_83 rfl (lt_t rfl) rfl (by decide) ?_
  refine sv_icmp_ge (pc := 84) (tgt := 121) dX9_init_84 (by decide) (fun h => absurd h (by decide)) (fun _ => ?_)
  refine sv_aload_n (pc := 87) dX9_init_87 rfl rfl ?_
  refine sw_getfield (pc := 88) dX9_init_88 (gCX9 _ _ _ _ _) 4 (by decide) wF_X9_35 rfl rfl rfl ?_
  refine sv_iload (pc := 91) dX9_init_91 rfl ?_
  refine sw_new (pc := 93) (a := 70) (n1 := 71) (ce1 := 70) (sl1 := 936) (fs := zX7) dX9_init_93 (gCX7 _ _ _ _ _) wC_X9_33 wN_X7 wI_X7 zX7_ok rfl rfl rfl rfl rfl rfl ?_
  refine sv_dup (pc := 96) dX9_init_96 rfl ?_
  refine sv_callI (pc := 97) (M' := mX7_init) (d' := 4) (C' := 2) (S' := 28) (av := []) ?_ (gOk _ _ _ _ _) dX9_init_97 (tX7_init _ _ _ _ _) rfl rfl wV_X7_init wM_X9_42 ⟨le_t rfl, le_t rfl⟩ ⟨le_t rfl, le_t rfl⟩ rfl (le_t rfl) (fun _ _ h => h)
  refine sC.of rfl (by decide) (le_t rfl) ?_
  refine sv_aload_n (pc := 0) dX7_init_0 rfl rfl ?_
  refine sv_objinit (pc := 1) dX7_init_1 wM_X7_3 wV_obj wK_obj ⟨le_t rfl, le_t rfl⟩ (le_t rfl) ?_
  refine sv_aload_n (pc := 4) dX7_init_4 rfl rfl ?_
  refine sv_bipush (pc := 5) (v := 20) dX7_init_5 (by decide) ?_
  refine sw_newarray (pc := 7) (kd := 0) (a := 71) (n1 := 72) (N := 20) (ce1 := 1) (sl1 := 20) (v := .int 0) dX7_init_7 rfl wA_int rfl (fun U => sI_Cond_int U _) (by decide) (by decide) rfl (fun _ => rfl) rfl rfl rfl rfl rfl rfl ?_
  refine sw_putfinal (pc := 9) dX7_init_9 (gCX7 _ _ _ _ _) 0 (by decide) wF_X7_9 rfl rfl rfl rfl rfl (fun _ => rfl) (fun _ => rfl) rfl ?_
  refine sv_aload_n (pc := 12) dX7_init_12 rfl rfl ?_
  refine sv_bipush (pc := 13) (v := 8) dX7_init_13 (by decide) ?_
  refine sw_newarray (pc := 15) (kd := 0) (a := 72) (n1 := 73) (N := 8) (ce1 := 2) (sl1 := 28) (v := .int 0) dX7_init_15 rfl wA_int rfl (fun U => sI_Cond_int U _) (by decide) (by decide) rfl (fun _ => rfl) rfl rfl rfl rfl rfl rfl ?_
  refine sw_putfinal (pc := 17) dX7_init_17 (gCX7 _ _ _ _ _) 1 (by decide) wF_X7_15 rfl rfl rfl rfl rfl (fun _ => rfl) (fun _ => rfl) rfl ?_
  refine sv_aload_n (pc := 20) dX7_init_20 rfl rfl ?_
  refine sv_iconst (pc := 21) (v := (-1)) dX7_init_21 (by decide) ?_
  refine sw_putfield (pc := 22) dX7_init_22 (gCX7 _ _ _ _ _) 9 (by decide) wF_X7_18 rfl rfl rfl (fun _ => rfl) (fun _ => rfl) rfl ?_
  refine sv_vret (pc := 25) dX7_init_25 rfl (le_t rfl) (le_t rfl) ?_
  refine sw_aastore (pc := 100) (k := 11) dX9_init_100 (gCX7 _ _ _ _ _) rfl rfl rfl (by decide) (by decide) rfl rfl rfl ?_
  refine sv_aload_n (pc := 101) dX9_init_101 rfl rfl ?_
  refine sw_getfield (pc := 102) dX9_init_102 (gCX9 _ _ _ _ _) 5 (by decide) wF_X9_39 rfl rfl rfl ?_
  refine sv_iload (pc := 105) dX9_init_105 rfl ?_
  refine sw_new (pc := 107) (a := 73) (n1 := 74) (ce1 := 73) (sl1 := 976) (fs := zX7) dX9_init_107 (gCX7 _ _ _ _ _) wC_X9_33 wN_X7 wI_X7 zX7_ok rfl rfl rfl rfl rfl rfl ?_
  refine sv_dup (pc := 110) dX9_init_110 rfl ?_
  refine sv_callI (pc := 111) (M' := mX7_init) (d' := 4) (C' := 2) (S' := 28) (av := []) ?_ (gOk _ _ _ _ _) dX9_init_111 (tX7_init _ _ _ _ _) rfl rfl wV_X7_init wM_X9_42 ⟨le_t rfl, le_t rfl⟩ ⟨le_t rfl, le_t rfl⟩ rfl (le_t rfl) (fun _ _ h => h)
  refine sC.of rfl (by decide) (le_t rfl) ?_
  refine sv_aload_n (pc := 0) dX7_init_0 rfl rfl ?_
  refine sv_objinit (pc := 1) dX7_init_1 wM_X7_3 wV_obj wK_obj ⟨le_t rfl, le_t rfl⟩ (le_t rfl) ?_
  refine sv_aload_n (pc := 4) dX7_init_4 rfl rfl ?_
  refine sv_bipush (pc := 5) (v := 20) dX7_init_5 (by decide) ?_
  refine sw_newarray (pc := 7) (kd := 0) (a := 74) (n1 := 75) (N := 20) (ce1 := 1) (sl1 := 20) (v := .int 0) dX7_init_7 rfl wA_int rfl (fun U => sI_Cond_int U _) (by decide) (by decide) rfl (fun _ => rfl) rfl rfl rfl rfl rfl rfl ?_
  refine sw_putfinal (pc := 9) dX7_init_9 (gCX7 _ _ _ _ _) 0 (by decide) wF_X7_9 rfl rfl rfl rfl rfl (fun _ => rfl) (fun _ => rfl) rfl ?_
  refine sv_aload_n (pc := 12) dX7_init_12 rfl rfl ?_
  refine sv_bipush (pc := 13) (v := 8) dX7_init_13 (by decide) ?_
  refine sw_newarray (pc := 15) (kd := 0) (a := 75) (n1 := 76) (N := 8) (ce1 := 2) (sl1 := 28) (v := .int 0) dX7_init_15 rfl wA_int rfl (fun U => sI_Cond_int U _) (by decide) (by decide) rfl (fun _ => rfl) rfl rfl rfl rfl rfl rfl ?_
  refine sw_putfinal (pc := 17) dX7_init_17 (gCX7 _ _ _ _ _) 1 (by decide) wF_X7_15 rfl rfl rfl rfl rfl (fun _ => rfl) (fun _ => rfl) rfl ?_
  refine sv_aload_n (pc := 20) dX7_init_20 rfl rfl ?_
  refine sv_iconst (pc := 21) (v := (-1)) dX7_init_21 (by decide) ?_
  refine sw_putfield (pc := 22) dX7_init_22 (gCX7 _ _ _ _ _) 9 (by decide) wF_X7_18 rfl rfl rfl (fun _ => rfl) (fun _ => rfl) rfl ?_
  refine sv_vret (pc := 25) dX7_init_25 rfl (le_t rfl) (le_t rfl) ?_
  refine sw_aastore (pc := 114) (k := 11) dX9_init_114 (gCX7 _ _ _ _ _) rfl rfl rfl (by decide) (by decide) rfl rfl rfl ?_
  refine sw_iinc (pc := 115) (v := 12) dX9_init_115 rfl (by decide) (by decide) ?_
  refine sv_goto (pc := 118) (tgt := 77) dX9_init_118 (by decide) ?_
  refine sv_iload (pc := 77) dX9_init_77 rfl ?_
  refine sv_aload_n (pc := 79) dX9_init_79 rfl rfl ?_
  refine sw_getfield (pc := 80) dX9_init_80 (gCX9 _ _ _ _ _) 4 (by decide) wF_X9_35 rfl rfl rfl ?_
  refine sv_arraylength (pc := 83) (v := 20) (ty := .object RX7) dX9_init_83 rfl (lt_t rfl) rfl (by decide) ?_
  refine sv_icmp_ge (pc := 84) (tgt := 121) dX9_init_84 (by decide) (fun h => absurd h (by decide)) (fun _ => ?_)
  refine sv_aload_n (pc := 87) dX9_init_87 rfl rfl ?_
  refine sw_getfield (pc := 88) dX9_init_88 (gCX9 _ _ _ _ _) 4 (by decide) wF_X9_35 rfl rfl rfl ?_
  refine sv_iload (pc := 91) dX9_init_91 rfl ?_
  refine sw_new (pc := 93) (a := 76) (n1 := 77) (ce1 := 76) (sl1 := 1016) (fs := zX7) dX9_init_93 (gCX7 _ _ _ _ _) wC_X9_33 wN_X7 wI_X7 zX7_ok rfl rfl rfl rfl rfl rfl ?_
  refine sv_dup (pc := 96) dX9_init_96 rfl ?_
  refine sv_callI (pc := 97) (M' := mX7_init) (d' := 4) (C' := 2) (S' := 28) (av := []) ?_ (gOk _ _ _ _ _) dX9_init_97 (tX7_init _ _ _ _ _) rfl rfl wV_X7_init wM_X9_42 ⟨le_t rfl, le_t rfl⟩ ⟨le_t rfl, le_t rfl⟩ rfl (le_t rfl) (fun _ _ h => h)
  refine sC.of rfl (by decide) (le_t rfl) ?_
  refine sv_aload_n (pc := 0) dX7_init_0 rfl rfl ?_
  refine sv_objinit (pc := 1) dX7_init_1 wM_X7_3 wV_obj wK_obj ⟨le_t rfl, le_t rfl⟩ (le_t rfl) ?_
  refine sv_aload_n (pc := 4) dX7_init_4 rfl rfl ?_
  refine sv_bipush (pc := 5) (v := 20) dX7_init_5 (by decide) ?_
  refine sw_newarray (pc := 7) (kd := 0) (a := 77) (n1 := 78) (N := 20) (ce1 := 1) (sl1 := 20) (v := .int 0) dX7_init_7 rfl wA_int rfl (fun U => sI_Cond_int U _) (by decide) (by decide) rfl (fun _ => rfl) rfl rfl rfl rfl rfl rfl ?_
  refine sw_putfinal (pc := 9) dX7_init_9 (gCX7 _ _ _ _ _) 0 (by decide) wF_X7_9 rfl rfl rfl rfl rfl (fun _ => rfl) (fun _ => rfl) rfl ?_
  refine sv_aload_n (pc := 12) dX7_init_12 rfl rfl ?_
  refine sv_bipush (pc := 13) (v := 8) dX7_init_13 (by decide) ?_
  refine sw_newarray (pc := 15) (kd := 0) (a := 78) (n1 := 79) (N := 8) (ce1 := 2) (sl1 := 28) (v := .int 0) dX7_init_15 rfl wA_int rfl (fun U => sI_Cond_int U _) (by decide) (by decide) rfl (fun _ => rfl) rfl rfl rfl rfl rfl rfl ?_
  refine sw_putfinal (pc := 17) dX7_init_17 (gCX7 _ _ _ _ _) 1 (by decide) wF_X7_15 rfl rfl rfl rfl rfl (fun _ => rfl) (fun _ => rfl) rfl ?_
  refine sv_aload_n (pc := 20) dX7_init_20 rfl rfl ?_
  refine sv_iconst (pc := 21) (v := (-1)) dX7_init_21 (by decide) ?_
  refine sw_putfield (pc := 22) dX7_init_22 (gCX7 _ _ _ _ _) 9 (by decide) wF_X7_18 rfl rfl rfl (fun _ => rfl) (fun _ => rfl) rfl ?_
  refine sv_vret (pc := 25) dX7_init_25 rfl (le_t rfl) (le_t rfl) ?_
  refine sw_aastore (pc := 100) (k := 12) dX9_init_100 (gCX7 _ _ _ _ _) rfl rfl rfl (by decide) (by decide) rfl rfl rfl ?_
  refine sv_aload_n (pc := 101) dX9_init_101 rfl rfl ?_
  refine sw_getfield (pc := 102) dX9_init_102 (gCX9 _ _ _ _ _) 5 (by decide) wF_X9_39 rfl rfl rfl ?_
  refine sv_iload (pc := 105) dX9_init_105 rfl ?_
  refine sw_new (pc := 107) (a := 79) (n1 := 80) (ce1 := 79) (sl1 := 1056) (fs := zX7) dX9_init_107 (gCX7 _ _ _ _ _) wC_X9_33 wN_X7 wI_X7 zX7_ok rfl rfl rfl rfl rfl rfl ?_
  refine sv_dup (pc := 110) dX9_init_110 rfl ?_
  refine sv_callI (pc := 111) (M' := mX7_init) (d' := 4) (C' := 2) (S' := 28) (av := []) ?_ (gOk _ _ _ _ _) dX9_init_111 (tX7_init _ _ _ _ _) rfl rfl wV_X7_init wM_X9_42 ⟨le_t rfl, le_t rfl⟩ ⟨le_t rfl, le_t rfl⟩ rfl (le_t rfl) (fun _ _ h => h)
  refine sC.of rfl (by decide) (le_t rfl) ?_
  refine sv_aload_n (pc := 0) dX7_init_0 rfl rfl ?_
  refine sv_objinit (pc := 1) dX7_init_1 wM_X7_3 wV_obj wK_obj ⟨le_t rfl, le_t rfl⟩ (le_t rfl) ?_
  refine sv_aload_n (pc := 4) dX7_init_4 rfl rfl ?_
  refine sv_bipush (pc := 5) (v := 20) dX7_init_5 (by decide) ?_
  refine sw_newarray (pc := 7) (kd := 0) (a := 80) (n1 := 81) (N := 20) (ce1 := 1) (sl1 := 20) (v := .int 0) dX7_init_7 rfl wA_int rfl (fun U => sI_Cond_int U _) (by decide) (by decide) rfl (fun _ => rfl) rfl rfl rfl rfl rfl rfl ?_
  refine sw_putfinal (pc := 9) dX7_init_9 (gCX7 _ _ _ _ _) 0 (by decide) wF_X7_9 rfl rfl rfl rfl rfl (fun _ => rfl) (fun _ => rfl) rfl ?_
  refine sv_aload_n (pc := 12) dX7_init_12 rfl rfl ?_
  refine sv_bipush (pc := 13) (v := 8) dX7_init_13 (by decide) ?_
  refine sw_newarray (pc := 15) (kd := 0) (a := 81) (n1 := 82) (N := 8) (ce1 := 2) (sl1 := 28) (v := .int 0) dX7_init_15 rfl wA_int rfl (fun U => sI_Cond_int U _) (by decide) (by decide) rfl (fun _ => rfl) rfl rfl rfl rfl rfl rfl ?_
  refine sw_putfinal (pc := 17) dX7_init_17 (gCX7 _ _ _ _ _) 1 (by decide) wF_X7_15 rfl rfl rfl rfl rfl (fun _ => rfl) (fun _ => rfl) rfl ?_
  refine sv_aload_n (pc := 20) dX7_init_20 rfl rfl ?_
  refine sv_iconst (pc := 21) (v := (-1)) dX7_init_21 (by decide) ?_
  refine sw_putfield (pc := 22) dX7_init_22 (gCX7 _ _ _ _ _) 9 (by decide) wF_X7_18 rfl rfl rfl (fun _ => rfl) (fun _ => rfl) rfl ?_
  refine sv_vret (pc := 25) dX7_init_25 rfl (le_t rfl) (le_t rfl) ?_
  refine sw_aastore (pc := 114) (k := 12) dX9_init_114 (gCX7 _ _ _ _ _) rfl rfl rfl (by decide) (by decide) rfl rfl rfl ?_
  refine sw_iinc (pc := 115) (v := 13) dX9_init_115 rfl (by decide) (by decide) ?_
  refine sv_goto (pc := 118) (tgt := 77) dX9_init_118 (by decide) ?_
  refine sv_iload (pc := 77) dX9_init_77 rfl ?_
  refine sv_aload_n (pc := 79) dX9_init_79 rfl rfl ?_
  refine sw_getfield (pc := 80) dX9_init_80 (gCX9 _ _ _ _ _) 4 (by decide) wF_X9_35 rfl rfl rfl ?_
  refine sv_arraylength (pc := 83) (v := 20) (ty := .object RX7) dX9_init_83 rfl (lt_t rfl) rfl (by decide) ?_
  refine sv_icmp_ge (pc := 84) (tgt := 121) dX9_init_84 (by decide) (fun h => absurd h (by decide)) (fun _ => ?_)
  refine sv_aload_n (pc := 87) dX9_init_87 rfl rfl ?_
  refine sw_getfield (pc := 88) dX9_init_88 (gCX9 _ _ _ _ _) 4 (by decide) wF_X9_35 rfl rfl rfl ?_
  refine sv_iload (pc := 91) dX9_init_91 rfl ?_
  refine sw_new (pc := 93) (a := 82) (n1 := 83) (ce1 := 82) (sl1 := 1096) (fs := zX7) dX9_init_93 (gCX7 _ _ _ _ _) wC_X9_33 wN_X7 wI_X7 zX7_ok rfl rfl rfl rfl rfl rfl ?_
  refine sv_dup (pc := 96) dX9_init_96 rfl ?_
  refine sv_callI (pc := 97) (M' := mX7_init) (d' := 4) (C' := 2) (S' := 28) (av := []) ?_ (gOk _ _ _ _ _) dX9_init_97 (tX7_init _ _ _ _ _) rfl rfl wV_X7_init wM_X9_42 ⟨le_t rfl, le_t rfl⟩ ⟨le_t rfl, le_t rfl⟩ rfl (le_t rfl) (fun _ _ h => h)
  refine sC.of rfl (by decide) (le_t rfl) ?_
  refine sv_aload_n (pc := 0) dX7_init_0 rfl rfl ?_
  refine sv_objinit (pc := 1) dX7_init_1 wM_X7_3 wV_obj wK_obj ⟨le_t rfl, le_t rfl⟩ (le_t rfl) ?_
  refine sv_aload_n (pc := 4) dX7_init_4 rfl rfl ?_
  refine sv_bipush (pc := 5) (v := 20) dX7_init_5 (by decide) ?_
  refine sw_newarray (pc := 7) (kd := 0) (a := 83) (n1 := 84) (N := 20) (ce1 := 1) (sl1 := 20) (v := .int 0) dX7_init_7 rfl wA_int rfl (fun U => sI_Cond_int U _) (by decide) (by decide) rfl (fun _ => rfl) rfl rfl rfl rfl rfl rfl ?_
  refine sw_putfinal (pc := 9) dX7_init_9 (gCX7 _ _ _ _ _) 0 (by decide) wF_X7_9 rfl rfl rfl rfl rfl (fun _ => rfl) (fun _ => rfl) rfl ?_
  refine sv_aload_n (pc := 12) dX7_init_12 rfl rfl ?_
  refine sv_bipush (pc := 13) (v := 8) dX7_init_13 (by decide) ?_
  refine sw_newarray (pc := 15) (kd := 0) (a := 84) (n1 := 85) (N := 8) (ce1 := 2) (sl1 := 28) (v := .int 0) dX7_init_15 rfl wA_int rfl (fun U => sI_Cond_int U _) (by decide) (by decide) rfl (fun _ => rfl) rfl rfl rfl rfl rfl rfl ?_
  refine sw_putfinal (pc := 17) dX7_init_17 (gCX7 _ _ _ _ _) 1 (by decide) wF_X7_15 rfl rfl rfl rfl rfl (fun _ => rfl) (fun _ => rfl) rfl ?_
  refine sv_aload_n (pc := 20) dX7_init_20 rfl rfl ?_
  refine sv_iconst (pc := 21) (v := (-1)) dX7_init_21 (by decide) ?_
  refine sw_putfield (pc := 22) dX7_init_22 (gCX7 _ _ _ _ _) 9 (by decide) wF_X7_18 rfl rfl rfl (fun _ => rfl) (fun _ => rfl) rfl ?_
  refine sv_vret (pc := 25) dX7_init_25 rfl (le_t rfl) (le_t rfl) ?_
  refine sw_aastore (pc := 100) (k := 13) dX9_init_100 (gCX7 _ _ _ _ _) rfl rfl rfl (by decide) (by decide) rfl rfl rfl ?_
  refine sv_aload_n (pc := 101) dX9_init_101 rfl rfl ?_
  refine sw_getfield (pc := 102) dX9_init_102 (gCX9 _ _ _ _ _) 5 (by decide) wF_X9_39 rfl rfl rfl ?_
  refine sv_iload (pc := 105) dX9_init_105 rfl ?_
  refine sw_new (pc := 107) (a := 85) (n1 := 86) (ce1 := 85) (sl1 := 1136) (fs := zX7) dX9_init_107 (gCX7 _ _ _ _ _) wC_X9_33 wN_X7 wI_X7 zX7_ok rfl rfl rfl rfl rfl rfl ?_
  refine sv_dup (pc := 110) dX9_init_110 rfl ?_
  refine sv_callI (pc := 111) (M' := mX7_init) (d' := 4) (C' := 2) (S' := 28) (av := []) ?_ (gOk _ _ _ _ _) dX9_init_111 (tX7_init _ _ _ _ _) rfl rfl wV_X7_init wM_X9_42 ⟨le_t rfl, le_t rfl⟩ ⟨le_t rfl, le_t rfl⟩ rfl (le_t rfl) (fun _ _ h => h)
  refine sC.of rfl (by decide) (le_t rfl) ?_
  refine sv_aload_n (pc := 0) dX7_init_0 rfl rfl ?_
  refine sv_objinit (pc := 1) dX7_init_1 wM_X7_3 wV_obj wK_obj ⟨le_t rfl, le_t rfl⟩ (le_t rfl) ?_
  refine sv_aload_n (pc := 4) dX7_init_4 rfl rfl ?_
  refine sv_bipush (pc := 5) (v := 20) dX7_init_5 (by decide) ?_
  refine sw_newarray (pc := 7) (kd := 0) (a := 86) (n1 := 87) (N := 20) (ce1 := 1) (sl1 := 20) (v := .int 0) dX7_init_7 rfl wA_int rfl (fun U => sI_Cond_int U _) (by decide) (by decide) rfl (fun _ => rfl) rfl rfl rfl rfl rfl rfl ?_
  refine sw_putfinal (pc := 9) dX7_init_9 (gCX7 _ _ _ _ _) 0 (by decide) wF_X7_9 rfl rfl rfl rfl rfl (fun _ => rfl) (fun _ => rfl) rfl ?_
  refine sv_aload_n (pc := 12) dX7_init_12 rfl rfl ?_
  refine sv_bipush (pc := 13) (v := 8) dX7_init_13 (by decide) ?_
  refine sw_newarray (pc := 15) (kd := 0) (a := 87) (n1 := 88) (N := 8) (ce1 := 2) (sl1 := 28) (v := .int 0) dX7_init_15 rfl wA_int rfl (fun U => sI_Cond_int U _) (by decide) (by decide) rfl (fun _ => rfl) rfl rfl rfl rfl rfl rfl ?_
  refine sw_putfinal (pc := 17) dX7_init_17 (gCX7 _ _ _ _ _) 1 (by decide) wF_X7_15 rfl rfl rfl rfl rfl (fun _ => rfl) (fun _ => rfl) rfl ?_
  refine sv_aload_n (pc := 20) dX7_init_20 rfl rfl ?_
  refine sv_iconst (pc := 21) (v := (-1)) dX7_init_21 (by decide) ?_
  refine sw_putfield (pc := 22) dX7_init_22 (gCX7 _ _ _ _ _) 9 (by decide) wF_X7_18 rfl rfl rfl (fun _ => rfl) (fun _ => rfl) rfl ?_
  refine sv_vret (pc := 25) dX7_init_25 rfl (le_t rfl) (le_t rfl) ?_
  refine sw_aastore (pc := 114) (k := 13) dX9_init_114 (gCX7 _ _ _ _ _) rfl rfl rfl (by decide) (by decide) rfl rfl rfl ?_
  refine sw_iinc (pc := 115) (v := 14) dX9_init_115 rfl (by decide) (by decide) ?_
  refine sv_goto (pc := 118) (tgt := 77) dX9_init_118 (by decide) ?_
  refine sv_iload (pc := 77) dX9_init_77 rfl ?_
  refine sv_aload_n (pc := 79) dX9_init_79 rfl rfl ?_
  refine sw_getfield (pc := 80) dX9_init_80 (gCX9 _ _ _ _ _) 4 (by decide) wF_X9_35 rfl rfl rfl ?_
  refine sv_arraylength (pc := 83) (v := 20) (ty := .object RX7) dX9_init_83 rfl (lt_t rfl) rfl (by decide) ?_
  refine sv_icmp_ge (pc := 84) (tgt := 121) dX9_init_84 (by decide) (fun h => absurd h (by decide)) (fun _ => ?_)
  refine sv_aload_n (pc := 87) dX9_init_87 rfl rfl ?_
  refine sw_getfield (pc := 88) dX9_init_88 (gCX9 _ _ _ _ _) 4 (by decide) wF_X9_35 rfl rfl rfl ?_
  refine sv_iload (pc := 91) dX9_init_91 rfl ?_
  refine sw_new (pc := 93) (a := 88) (n1 := 89) (ce1 := 88) (sl1 := 1176) (fs := zX7) dX9_init_93 (gCX7 _ _ _ _ _) wC_X9_33 wN_X7 wI_X7 zX7_ok rfl rfl rfl rfl rfl rfl ?_
  refine sv_dup (pc := 96) dX9_init_96 rfl ?_
  refine sv_callI (pc := 97) (M' := mX7_init) (d' := 4) (C' := 2) (S' := 28) (av := []) ?_ (gOk _ _ _ _ _) dX9_init_97 (tX7_init _ _ _ _ _) rfl rfl wV_X7_init wM_X9_42 ⟨le_t rfl, le_t rfl⟩ ⟨le_t rfl, le_t rfl⟩ rfl (le_t rfl) (fun _ _ h => h)
  refine sC.of rfl (by decide) (le_t rfl) ?_
  refine sv_aload_n (pc := 0) dX7_init_0 rfl rfl ?_
  refine sv_objinit (pc := 1) dX7_init_1 wM_X7_3 wV_obj wK_obj ⟨le_t rfl, le_t rfl⟩ (le_t rfl) ?_
  refine sv_aload_n (pc := 4) dX7_init_4 rfl rfl ?_
  refine sv_bipush (pc := 5) (v := 20) dX7_init_5 (by decide) ?_
  refine sw_newarray (pc := 7) (kd := 0) (a := 89) (n1 := 90) (N := 20) (ce1 := 1) (sl1 := 20) (v := .int 0) dX7_init_7 rfl wA_int rfl (fun U => sI_Cond_int U _) (by decide) (by decide) rfl (fun _ => rfl) rfl rfl rfl rfl rfl rfl ?_
  refine sw_putfinal (pc := 9) dX7_init_9 (gCX7 _ _ _ _ _) 0 (by decide) wF_X7_9 rfl rfl rfl rfl rfl (fun _ => rfl) (fun _ => rfl) rfl ?_
  refine sv_aload_n (pc := 12) dX7_init_12 rfl rfl ?_
  refine sv_bipush (pc := 13) (v := 8) dX7_init_13 (by decide) ?_
  refine sw_newarray (pc := 15) (kd := 0) (a := 90) (n1 := 91) (N := 8) (ce1 := 2) (sl1 := 28) (v := .int 0) dX7_init_15 rfl wA_int rfl (fun U => sI_Cond_int U _) (by decide) (by decide) rfl (fun _ => rfl) rfl rfl rfl rfl rfl rfl ?_
  refine sw_putfinal (pc := 17) dX7_init_17 (gCX7 _ _ _ _ _) 1 (by decide) wF_X7_15 rfl rfl rfl rfl rfl (fun _ => rfl) (fun _ => rfl) rfl ?_
  refine sv_aload_n (pc := 20) dX7_init_20 rfl rfl ?_
  refine sv_iconst (pc := 21) (v := (-1)) dX7_init_21 (by decide) ?_
  refine sw_putfield (pc := 22) dX7_init_22 (gCX7 _ _ _ _ _) 9 (by decide) wF_X7_18 rfl rfl rfl (fun _ => rfl) (fun _ => rfl) rfl ?_
  refine sv_vret (pc := 25) dX7_init_25 rfl (le_t rfl) (le_t rfl) ?_
  refine sw_aastore (pc := 100) (k := 14) dX9_init_100 (gCX7 _ _ _ _ _) rfl rfl rfl (by decide) (by decide) rfl rfl rfl ?_
  refine sv_aload_n (pc := 101) dX9_init_101 rfl rfl ?_
  refine sw_getfield (pc := 102) dX9_init_102 (gCX9 _ _ _ _ _) 5 (by decide) wF_X9_39 rfl rfl rfl ?_
  refine sv_iload (pc := 105) dX9_init_105 rfl ?_
  refine sw_new (pc := 107) (a := 91) (n1 := 92) (ce1 := 91) (sl1 := 1216) (fs := zX7) dX9_init_107 (gCX7 _ _ _ _ _) wC_X9_33 wN_X7 wI_X7 zX7_ok rfl rfl rfl rfl rfl rfl ?_
  refine sv_dup (pc := 110) dX9_init_110 rfl ?_
  refine sv_callI (pc := 111) (M' := mX7_init) (d' := 4) (C' := 2) (S' := 28) (av := []) ?_ (gOk _ _ _ _ _) dX9_init_111 (tX7_init _ _ _ _ _) rfl rfl wV_X7_init wM_X9_42 ⟨le_t rfl, le_t rfl⟩ ⟨le_t rfl, le_t rfl⟩ rfl (le_t rfl) (fun _ _ h => h)
  refine sC.of rfl (by decide) (le_t rfl) ?_
  refine sv_aload_n (pc := 0) dX7_init_0 rfl rfl ?_
  refine sv_objinit (pc := 1) dX7_init_1 wM_X7_3 wV_obj wK_obj ⟨le_t rfl, le_t rfl⟩ (le_t rfl) ?_
  refine sv_aload_n (pc := 4) dX7_init_4 rfl rfl ?_
  refine sv_bipush (pc := 5) (v := 20) dX7_init_5 (by decide) ?_
  refine sw_newarray (pc := 7) (kd := 0) (a := 92) (n1 := 93) (N := 20) (ce1 := 1) (sl1 := 20) (v := .int 0) dX7_init_7 rfl wA_int rfl (fun U => sI_Cond_int U _) (by decide) (by decide) rfl (fun _ => rfl) rfl rfl rfl rfl rfl rfl ?_
  refine sw_putfinal (pc := 9) dX7_init_9 (gCX7 _ _ _ _ _) 0 (by decide) wF_X7_9 rfl rfl rfl rfl rfl (fun _ => rfl) (fun _ => rfl) rfl ?_
  refine sv_aload_n (pc := 12) dX7_init_12 rfl rfl ?_
  refine sv_bipush (pc := 13) (v := 8) dX7_init_13 (by decide) ?_
  refine sw_newarray (pc := 15) (kd := 0) (a := 93) (n1 := 94) (N := 8) (ce1 := 2) (sl1 := 28) (v := .int 0) dX7_init_15 rfl wA_int rfl (fun U => sI_Cond_int U _) (by decide) (by decide) rfl (fun _ => rfl) rfl rfl rfl rfl rfl rfl ?_
  refine sw_putfinal (pc := 17) dX7_init_17 (gCX7 _ _ _ _ _) 1 (by decide) wF_X7_15 rfl rfl rfl rfl rfl (fun _ => rfl) (fun _ => rfl) rfl ?_
  refine sv_aload_n (pc := 20) dX7_init_20 rfl rfl ?_
  refine sv_iconst (pc := 21) (v := (-1)) dX7_init_21 (by decide) ?_
  refine sw_putfield (pc := 22) dX7_init_22 (gCX7 _ _ _ _ _) 9 (by decide) wF_X7_18 rfl rfl rfl (fun _ => rfl) (fun _ => rfl) rfl ?_
  refine sv_vret (pc := 25) dX7_init_25 rfl (le_t rfl) (le_t rfl) ?_
  refine sw_aastore (pc := 114) (k := 14) dX9_init_114 (gCX7 _ _ _ _ _) rfl rfl rfl (by decide) (by decide) rfl rfl rfl ?_
  refine sw_iinc (pc := 115) (v := 15) dX9_init_115 rfl (by decide) (by decide) ?_
  refine sv_lvG (pc := 118) (lv' := [(0, .ref 0), (1, .int xa), (2, .int xb), (3, .int xk), (4, .int 15)]) (List.forall_mem_cons.mpr ⟨rfl, List.forall_mem_cons.mpr ⟨rfl, List.forall_mem_cons.mpr ⟨rfl, List.forall_mem_cons.mpr ⟨rfl, List.forall_mem_cons.mpr ⟨rfl, fun _ h => absurd h List.not_mem_nil⟩⟩⟩⟩⟩) ?_
  refine sv_goto (pc := 118) (tgt := 77) dX9_init_118 (by decide) ?_
  refine sv_iload (pc := 77) dX9_init_77 rfl ?_
  refine sv_aload_n (pc := 79) dX9_init_79 rfl rfl ?_
  refine sw_getfield (pc := 80) dX9_init_80 (gCX9 _ _ _ _ _) 4 (by decide) wF_X9_35 rfl rfl rfl ?_
  refine sv_arraylength (pc := 83) (v := 20) (ty := .object RX7) dX9_init_83 rfl (lt_t rfl) rfl (by decide) ?_
  refine sv_icmp_ge (pc := 84) (tgt := 121) dX9_init_84 (by decide) (fun h => absurd h (by decide)) (fun _ => ?_)
  refine sv_aload_n (pc := 87) dX9_init_87 rfl rfl ?_
  refine sw_getfield (pc := 88) dX9_init_88 (gCX9 _ _ _ _ _) 4 (by decide) wF_X9_35 rfl rfl rfl ?_
  refine sv_iload (pc := 91) dX9_init_91 rfl ?_
  refine sw_new (pc := 93) (a := 94) (n1 := 95) (ce1 := 94) (sl1 := 1256) (fs := zX7) dX9_init_93 (gCX7 _ _ _ _ _) wC_X9_33 wN_X7 wI_X7 zX7_ok rfl rfl rfl rfl rfl rfl ?_
  refine sv_dup (pc := 96) dX9_init_96 rfl ?_
  refine sv_callI (pc := 97) (M' := mX7_init) (d' := 4) (C' := 2) (S' := 28) (av := []) ?_ (gOk _ _ _ _ _) dX9_init_97 (tX7_init _ _ _ _ _) rfl rfl wV_X7_init wM_X9_42 ⟨le_t rfl, le_t rfl⟩ ⟨le_t rfl, le_t rfl⟩ rfl (le_t rfl) (fun _ _ h => h)
  refine sC.of rfl (by decide) (le_t rfl) ?_
  refine sv_aload_n (pc := 0) dX7_init_0 rfl rfl ?_
  refine sv_objinit (pc := 1) dX7_init_1 wM_X7_3 wV_obj wK_obj ⟨le_t rfl, le_t rfl⟩ (le_t rfl) ?_
  refine sv_aload_n (pc := 4) dX7_init_4 rfl rfl ?_
  refine sv_bipush (pc := 5) (v := 20) dX7_init_5 (by decide) ?_
  refine sw_newarray (pc := 7) (kd := 0) (a := 95) (n1 := 96) (N := 20) (ce1 := 1) (sl1 := 20) (v := .int 0) dX7_init_7 rfl wA_int rfl (fun U => sI_Cond_int U _) (by decide) (by decide) rfl (fun _ => rfl) rfl rfl rfl rfl rfl rfl ?_
  refine sw_putfinal (pc := 9) dX7_init_9 (gCX7 _ _ _ _ _) 0 (by decide) wF_X7_9 rfl rfl rfl rfl rfl (fun _ => rfl) (fun _ => rfl) rfl ?_
  refine sv_aload_n (pc := 12) dX7_init_12 rfl rfl ?_
  refine sv_bipush (pc := 13) (v := 8) dX7_init_13 (by decide) ?_
  refine sw_newarray (pc := 15) (kd := 0) (a := 96) (n1 := 97) (N := 8) (ce1 := 2) (sl1 := 28) (v := .int 0) dX7_init_15 rfl wA_int rfl (fun U => sI_Cond_int U _) (by decide) (by decide) rfl (fun _ => rfl) rfl rfl rfl rfl rfl rfl ?_
  refine sw_putfinal (pc := 17) dX7_init_17 (gCX7 _ _ _ _ _) 1 (by decide) wF_X7_15 rfl rfl rfl rfl rfl (fun _ => rfl) (fun _ => rfl) rfl ?_
  refine sv_aload_n (pc := 20) dX7_init_20 rfl rfl ?_
  refine sv_iconst (pc := 21) (v := (-1)) dX7_init_21 (by decide) ?_
  refine sw_putfield (pc := 22) dX7_init_22 (gCX7 _ _ _ _ _) 9 (by decide) wF_X7_18 rfl rfl rfl (fun _ => rfl) (fun _ => rfl) rfl ?_
  refine sv_vret (pc := 25) dX7_init_25 rfl (le_t rfl) (le_t rfl) ?_
  refine sw_aastore (pc := 100) (k := 15) dX9_init_100 (gCX7 _ _ _ _ _) rfl rfl rfl (by decide) (by decide) rfl rfl rfl ?_
  refine sv_aload_n (pc := 101) dX9_init_101 rfl rfl ?_
  refine sw_getfield (pc := 102) dX9_init_102 (gCX9 _ _ _ _ _) 5 (by decide) wF_X9_39 rfl rfl rfl ?_
  refine sv_iload (pc := 105) dX9_init_105 rfl ?_
  refine sw_new (pc := 107) (a := 97) (n1 := 98) (ce1 := 97) (sl1 := 1296) (fs := zX7) dX9_init_107 (gCX7 _ _ _ _ _) wC_X9_33 wN_X7 wI_X7 zX7_ok rfl rfl rfl rfl rfl rfl ?_
  refine sv_dup (pc := 110) dX9_init_110 rfl ?_
  refine sv_callI (pc := 111) (M' := mX7_init) (d' := 4) (C' := 2) (S' := 28) (av := []) ?_ (gOk _ _ _ _ _) dX9_init_111 (tX7_init _ _ _ _ _) rfl rfl wV_X7_init wM_X9_42 ⟨le_t rfl, le_t rfl⟩ ⟨le_t rfl, le_t rfl⟩ rfl (le_t rfl) (fun _ _ h => h)
  refine sC.of rfl (by decide) (le_t rfl) ?_
  refine sv_aload_n (pc := 0) dX7_init_0 rfl rfl ?_
  refine sv_objinit (pc := 1) dX7_init_1 wM_X7_3 wV_obj wK_obj ⟨le_t rfl, le_t rfl⟩ (le_t rfl) ?_
  refine sv_aload_n (pc := 4) dX7_init_4 rfl rfl ?_
  refine sv_bipush (pc := 5) (v := 20) dX7_init_5 (by decide) ?_
  refine sw_newarray (pc := 7) (kd := 0) (a := 98) (n1 := 99) (N := 20) (ce1 := 1) (sl1 := 20) (v := .int 0) dX7_init_7 rfl wA_int rfl (fun U => sI_Cond_int U _) (by decide) (by decide) rfl (fun _ => rfl) rfl rfl rfl rfl rfl rfl ?_
  refine sw_putfinal (pc := 9) dX7_init_9 (gCX7 _ _ _ _ _) 0 (by decide) wF_X7_9 rfl rfl rfl rfl rfl (fun _ => rfl) (fun _ => rfl) rfl ?_
  refine sv_aload_n (pc := 12) dX7_init_12 rfl rfl ?_
  refine sv_bipush (pc := 13) (v := 8) dX7_init_13 (by decide) ?_
  refine sw_newarray (pc := 15) (kd := 0) (a := 99) (n1 := 100) (N := 8) (ce1 := 2) (sl1 := 28) (v := .int 0) dX7_init_15 rfl wA_int rfl (fun U => sI_Cond_int U _) (by decide) (by decide) rfl (fun _ => rfl) rfl rfl rfl rfl rfl rfl ?_
  refine sw_putfinal (pc := 17) dX7_init_17 (gCX7 _ _ _ _ _) 1 (by decide) wF_X7_15 rfl rfl rfl rfl rfl (fun _ => rfl) (fun _ => rfl) rfl ?_
  refine sv_aload_n (pc := 20) dX7_init_20 rfl rfl ?_
  refine sv_iconst (pc := 21) (v := (-1)) dX7_init_21 (by decide) ?_
  refine sw_putfield (pc := 22) dX7_init_22 (gCX7 _ _ _ _ _) 9 (by decide) wF_X7_18 rfl rfl rfl (fun _ => rfl) (fun _ => rfl) rfl ?_
  refine sv_vret (pc := 25) dX7_init_25 rfl (le_t rfl) (le_t rfl) ?_
  refine sw_aastore (pc := 114) (k := 15) dX9_init_114 (gCX7 _ _ _ _ _) rfl rfl rfl (by decide) (by decide) rfl rfl rfl ?_
  refine sw_iinc (pc := 115) (v := 16) dX9_init_115 rfl (by decide) (by decide) ?_
  refine sv_goto (pc := 118) (tgt := 77) dX9_init_118 (by decide) ?_
  refine sv_iload (pc := 77) dX9_init_77 rfl ?_
  refine sv_aload_n (pc := 79) dX9_init_79 rfl rfl ?_
  refine sw_getfield (pc := 80) dX9_init_80 (gCX9 _ _ _ _ _) 4 (by decide) wF_X9_35 rfl rfl rfl ?_
  refine sv_arraylength (pc := 83) (v := 20) (ty := .object RX7) dX9_init_83 rfl (lt_t rfl) rfl (by decide) ?_
  refine sv_icmp_ge (pc := 84) (tgt := 121) dX9_init_84 (by decide) (fun h => absurd h (by decide)) (fun _ => ?_)
  refine sv_aload_n (pc := 87) dX9_init_87 rfl rfl ?_
  refine sw_getfield (pc := 88) dX9_init_88 (gCX9 _ _ _ _ _) 4 (by decide) wF_X9_35 rfl rfl rfl ?_
  refine sv_iload (pc := 91) dX9_init_91 rfl ?_
  refine sw_new (pc := 93) (a := 100) (n1 := 101) (ce1 := 100) (sl1 := 1336) (fs := zX7) dX9_init_93 (gCX7 _ _ _ _ _) wC_X9_33 wN_X7 wI_X7 zX7_ok rfl rfl rfl rfl rfl rfl ?_
  refine sv_dup (pc := 96) dX9_init_96 rfl ?_
  refine sv_callI (pc := 97) (M' := mX7_init) (d' := 4) (C' := 2) (S' := 28) (av := []) ?_ (gOk _ _ _ _ _) dX9_init_97 (tX7_init _ _ _ _ _) rfl rfl wV_X7_init wM_X9_42 ⟨le_t rfl, le_t rfl⟩ ⟨le_t rfl, le_t rfl⟩ rfl (le_t rfl) (fun _ _ h => h)
  refine sC.of rfl (by decide) (le_t rfl) ?_
  refine sv_aload_n (pc := 0) dX7_init_0 rfl rfl ?_
  refine sv_objinit (pc := 1) dX7_init_1 wM_X7_3 wV_obj wK_obj ⟨le_t rfl, le_t rfl⟩ (le_t rfl) ?_
  refine sv_aload_n (pc := 4) dX7_init_4 rfl rfl ?_
  refine sv_bipush (pc := 5) (v := 20) dX7_init_5 (by decide) ?_
  refine sw_newarray (pc := 7) (kd := 0) (a := 101) (n1 := 102) (N := 20) (ce1 := 1) (sl1 := 20) (v := .int 0) dX7_init_7 rfl wA_int rfl (fun U => sI_Cond_int U _) (by decide) (by decide) rfl (fun _ => rfl) rfl rfl rfl rfl rfl rfl ?_
  refine sw_putfinal (pc := 9) dX7_init_9 (gCX7 _ _ _ _ _) 0 (by decide) wF_X7_9 rfl rfl rfl rfl rfl (fun _ => rfl) (fun _ => rfl) rfl ?_
  refine sv_aload_n (pc := 12) dX7_init_12 rfl rfl ?_
  refine sv_bipush (pc := 13) (v := 8) dX7_init_13 (by decide) ?_
  refine sw_newarray (pc := 15) (kd := 0) (a := 102) (n1 := 103) (N := 8) (ce1 := 2) (sl1 := 28) (v := .int 0) dX7_init_15 rfl wA_int rfl (fun U => sI_Cond_int U _) (by decide) (by decide) rfl (fun _ => rfl) rfl rfl rfl rfl rfl rfl ?_
  refine sw_putfinal (pc := 17) dX7_init_17 (gCX7 _ _ _ _ _) 1 (by decide) wF_X7_15 rfl rfl rfl rfl rfl (fun _ => rfl) (fun _ => rfl) rfl ?_
  refine sv_aload_n (pc := 20) dX7_init_20 rfl rfl ?_
  refine sv_iconst (pc := 21) (v := (-1)) dX7_init_21 (by decide) ?_
  refine sw_putfield (pc := 22) dX7_init_22 (gCX7 _ _ _ _ _) 9 (by decide) wF_X7_18 rfl rfl rfl (fun _ => rfl) (fun _ => rfl) rfl ?_
  refine sv_vret (pc := 25) dX7_init_25 rfl (le_t rfl) (le_t rfl) ?_
  refine sw_aastore (pc := 100) (k := 16) dX9_init_100 (gCX7 _ _ _ _ _) rfl rfl rfl (by decide) (by decide) rfl rfl rfl ?_
  refine sv_aload_n (pc := 101) dX9_init_101 rfl rfl ?_
  refine sw_getfield (pc := 102) dX9_init_102 (gCX9 _ _ _ _ _) 5 (by decide) wF_X9_39 rfl rfl rfl ?_
  refine sv_iload (pc := 105) dX9_init_105 rfl ?_
  refine sw_new (pc := 107) (a := 103) (n1 := 104) (ce1 := 103) (sl1 := 1376) (fs := zX7) dX9_init_107 (gCX7 _ _ _ _ _) wC_X9_33 wN_X7 wI_X7 zX7_ok rfl rfl rfl rfl rfl rfl ?_
  refine sv_dup (pc := 110) dX9_init_110 rfl ?_
  refine sv_callI (pc := 111) (M' := mX7_init) (d' := 4) (C' := 2) (S' := 28) (av := []) ?_ (gOk _ _ _ _ _) dX9_init_111 (tX7_init _ _ _ _ _) rfl rfl wV_X7_init wM_X9_42 ⟨le_t rfl, le_t rfl⟩ ⟨le_t rfl, le_t rfl⟩ rfl (le_t rfl) (fun _ _ h => h)
  refine sC.of rfl (by decide) (le_t rfl) ?_
  refine sv_aload_n (pc := 0) dX7_init_0 rfl rfl ?_
  refine sv_objinit (pc := 1) dX7_init_1 wM_X7_3 wV_obj wK_obj ⟨le_t rfl, le_t rfl⟩ (le_t rfl) ?_
  refine sv_aload_n (pc := 4) dX7_init_4 rfl rfl ?_
  refine sv_bipush (pc := 5) (v := 20) dX7_init_5 (by decide) ?_
  refine sw_newarray (pc := 7) (kd := 0) (a := 104) (n1 := 105) (N := 20) (ce1 := 1) (sl1 := 20) (v := .int 0) dX7_init_7 rfl wA_int rfl (fun U => sI_Cond_int U _) (by decide) (by decide) rfl (fun _ => rfl) rfl rfl rfl rfl rfl rfl ?_
  refine sw_putfinal (pc := 9) dX7_init_9 (gCX7 _ _ _ _ _) 0 (by decide) wF_X7_9 rfl rfl rfl rfl rfl (fun _ => rfl) (fun _ => rfl) rfl ?_
  refine sv_aload_n (pc := 12) dX7_init_12 rfl rfl ?_
  refine sv_bipush (pc := 13) (v := 8) dX7_init_13 (by decide) ?_
  refine sw_newarray (pc := 15) (kd := 0) (a := 105) (n1 := 106) (N := 8) (ce1 := 2) (sl1 := 28) (v := .int 0) dX7_init_15 rfl wA_int rfl (fun U => sI_Cond_int U _) (by decide) (by decide) rfl (fun _ => rfl) rfl rfl rfl rfl rfl rfl ?_
  refine sw_putfinal (pc := 17) dX7_init_17 (gCX7 _ _ _ _ _) 1 (by decide) wF_X7_15 rfl rfl rfl rfl rfl (fun _ => rfl) (fun _ => rfl) rfl ?_
  refine sv_aload_n (pc := 20) dX7_init_20 rfl rfl ?_
  refine sv_iconst (pc := 21) (v := (-1)) dX7_init_21 (by decide) ?_
  refine sw_putfield (pc := 22) dX7_init_22 (gCX7 _ _ _ _ _) 9 (by decide) wF_X7_18 rfl rfl rfl (fun _ => rfl) (fun _ => rfl) rfl ?_
  refine sv_vret (pc := 25) dX7_init_25 rfl (le_t rfl) (le_t rfl) ?_
  refine sw_aastore (pc := 114) (k := 16) dX9_init_114 (gCX7 _ _ _ _ _) rfl rfl rfl (by decide) (by decide) rfl rfl rfl ?_
  refine sw_iinc (pc := 115) (v := 17) dX9_init_115 rfl (by decide) (by decide) ?_
  refine sv_goto (pc := 118) (tgt := 77) dX9_init_118 (by decide) ?_
  refine sv_iload (pc := 77) dX9_init_77 rfl ?_
  refine sv_aload_n (pc := 79) dX9_init_79 rfl rfl ?_
  refine sw_getfield (pc := 80) dX9_init_80 (gCX9 _ _ _ _ _) 4 (by decide) wF_X9_35 rfl rfl rfl ?_
  refine sv_arraylength (pc := 83) (v := 20) (ty := .object RX7) dX9_init_83 rfl (lt_t rfl) rfl (by decide) ?_
  refine sv_icmp_ge (pc := 84) (tgt := 121) dX9_init_84 (by decide) (fun h => absurd h (by decide)) (fun _ => ?_)
  refine sv_aload_n (pc := 87) dX9_init_87 rfl rfl ?_
  refine sw_getfield (pc := 88) dX9_init_88 (gCX9 _ _ _ _ _) 4 (by decide) wF_X9_35 rfl rfl rfl ?_
  refine sv_iload (pc := 91) dX9_init_91 rfl ?_
  refine sw_new (pc := 93) (a := 106) (n1 := 107) (ce1 := 106) (sl1 := 1416) (fs := zX7) dX9_init_93 (gCX7 _ _ _ _ _) wC_X9_33 wN_X7 wI_X7 zX7_ok rfl rfl rfl rfl rfl rfl ?_
  refine sv_dup (pc := 96) dX9_init_96 rfl ?_
  refine sv_callI (pc := 97) (M' := mX7_init) (d' := 4) (C' := 2) (S' := 28) (av := []) ?_ (gOk _ _ _ _ _) dX9_init_97 (tX7_init _ _ _ _ _) rfl rfl wV_X7_init wM_X9_42 ⟨le_t rfl, le_t rfl⟩ ⟨le_t rfl, le_t rfl⟩ rfl (le_t rfl) (fun _ _ h => h)
  refine sC.of rfl (by decide) (le_t rfl) ?_
  refine sv_aload_n (pc := 0) dX7_init_0 rfl rfl ?_
  refine sv_objinit (pc := 1) dX7_init_1 wM_X7_3 wV_obj wK_obj ⟨le_t rfl, le_t rfl⟩ (le_t rfl) ?_
  refine sv_aload_n (pc := 4) dX7_init_4 rfl rfl ?_
  refine sv_bipush (pc := 5) (v := 20) dX7_init_5 (by decide) ?_
  refine sw_newarray (pc := 7) (kd := 0) (a := 107) (n1 := 108) (N := 20) (ce1 := 1) (sl1 := 20) (v := .int 0) dX7_init_7 rfl wA_int rfl (fun U => sI_Cond_int U _) (by decide) (by decide) rfl (fun _ => rfl) rfl rfl rfl rfl rfl rfl ?_
  refine sw_putfinal (pc := 9) dX7_init_9 (gCX7 _ _ _ _ _) 0 (by decide) wF_X7_9 rfl rfl rfl rfl rfl (fun _ => rfl) (fun _ => rfl) rfl ?_
  refine sv_aload_n (pc := 12) dX7_init_12 rfl rfl ?_
  refine sv_bipush (pc := 13) (v := 8) dX7_init_13 (by decide) ?_
  refine sw_newarray (pc := 15) (kd := 0) (a := 108) (n1 := 109) (N := 8) (ce1 := 2) (sl1 := 28) (v := .int 0) dX7_init_15 rfl wA_int rfl (fun U => sI_Cond_int U _) (by decide) (by decide) rfl (fun _ => rfl) rfl rfl rfl rfl rfl rfl ?_
  refine sw_putfinal (pc := 17) dX7_init_17 (gCX7 _ _ _ _ _) 1 (by decide) wF_X7_15 rfl rfl rfl rfl rfl (fun _ => rfl) (fun _ => rfl) rfl ?_
  refine sv_aload_n (pc := 20) dX7_init_20 rfl rfl ?_
  refine sv_iconst (pc := 21) (v := (-1)) dX7_init_21 (by decide) ?_
  refine sw_putfield (pc := 22) dX7_init_22 (gCX7 _ _ _ _ _) 9 (by decide) wF_X7_18 rfl rfl rfl (fun _ => rfl) (fun _ => rfl) rfl ?_
  refine sv_vret (pc := 25) dX7_init_25 rfl (le_t rfl) (le_t rfl) ?_
  refine sw_aastore (pc := 100) (k := 17) dX9_init_100 (gCX7 _ _ _ _ _) rfl rfl rfl (by decide) (by decide) rfl rfl rfl ?_
  refine sv_aload_n (pc := 101) dX9_init_101 rfl rfl ?_
  refine sw_getfield (pc := 102) dX9_init_102 (gCX9 _ _ _ _ _) 5 (by decide) wF_X9_39 rfl rfl rfl ?_
  refine sv_iload (pc := 105) dX9_init_105 rfl ?_
  refine sw_new (pc := 107) (a := 109) (n1 := 110) (ce1 := 109) (sl1 := 1456) (fs := zX7) dX9_init_107 (gCX7 _ _ _ _ _) wC_X9_33 wN_X7 wI_X7 zX7_ok rfl rfl rfl rfl rfl rfl ?_
  refine sv_dup (pc := 110) dX9_init_110 rfl ?_
  refine sv_callI (pc := 111) (M' := mX7_init) (d' := 4) (C' := 2) (S' := 28) (av := []) ?_ (gOk _ _ _ _ _) dX9_init_111 (tX7_init _ _ _ _ _) rfl rfl wV_X7_init wM_X9_42 ⟨le_t rfl, le_t rfl⟩ ⟨le_t rfl, le_t rfl⟩ rfl (le_t rfl) (fun _ _ h => h)
  refine sC.of rfl (by decide) (le_t rfl) ?_
  refine sv_aload_n (pc := 0) dX7_init_0 rfl rfl ?_
  refine sv_objinit (pc := 1) dX7_init_1 wM_X7_3 wV_obj wK_obj ⟨le_t rfl, le_t rfl⟩ (le_t rfl) ?_
  refine sv_aload_n (pc := 4) dX7_init_4 rfl rfl ?_
  refine sv_bipush (pc := 5) (v := 20) dX7_init_5 (by decide) ?_
  refine sw_newarray (pc := 7) (kd := 0) (a := 110) (n1 := 111) (N := 20) (ce1 := 1) (sl1 := 20) (v := .int 0) dX7_init_7 rfl wA_int rfl (fun U => sI_Cond_int U _) (by decide) (by decide) rfl (fun _ => rfl) rfl rfl rfl rfl rfl rfl ?_
  refine sw_putfinal (pc := 9) dX7_init_9 (gCX7 _ _ _ _ _) 0 (by decide) wF_X7_9 rfl rfl rfl rfl rfl (fun _ => rfl) (fun _ => rfl) rfl ?_
  refine sv_aload_n (pc := 12) dX7_init_12 rfl rfl ?_
  refine sv_bipush (pc := 13) (v := 8) dX7_init_13 (by decide) ?_
  refine sw_newarray (pc := 15) (kd := 0) (a := 111) (n1 := 112) (N := 8) (ce1 := 2) (sl1 := 28) (v := .int 0) dX7_init_15 rfl wA_int rfl (fun U => sI_Cond_int U _) (by decide) (by decide) rfl (fun _ => rfl) rfl rfl rfl rfl rfl rfl ?_
  refine sw_putfinal (pc := 17) dX7_init_17 (gCX7 _ _ _ _ _) 1 (by decide) wF_X7_15 rfl rfl rfl rfl rfl (fun _ => rfl) (fun _ => rfl) rfl ?_
  refine sv_aload_n (pc := 20) dX7_init_20 rfl rfl ?_
  refine sv_iconst (pc := 21) (v := (-1)) dX7_init_21 (by decide) ?_
  refine sw_putfield (pc := 22) dX7_init_22 (gCX7 _ _ _ _ _) 9 (by decide) wF_X7_18 rfl rfl rfl (fun _ => rfl) (fun _ => rfl) rfl ?_
  refine sv_vret (pc := 25) dX7_init_25 rfl (le_t rfl) (le_t rfl) ?_
  refine sw_aastore (pc := 114) (k := 17) dX9_init_114 (gCX7 _ _ _ _ _) rfl rfl rfl (by decide) (by decide) rfl rfl rfl ?_
  refine sw_iinc (pc := 115) (v := 18) dX9_init_115 rfl (by decide) (by decide) ?_
  refine sv_goto (pc := 118) (tgt := 77) dX9_init_118 (by decide) ?_
  refine sv_iload (pc := 77) dX9_init_77 rfl ?_
  refine sv_aload_n (pc := 79) dX9_init_79 rfl rfl ?_
  refine sw_getfield (pc := 80) dX9_init_80 (gCX9 _ _ _ _ _) 4 (by decide) wF_X9_35 rfl rfl rfl ?_
  refine sv_arraylength (pc := 83) (v := 20) (ty := .object RX7) dX9_init_83 rfl (lt_t rfl) rfl (by decide) ?_
  refine sv_icmp_ge (pc := 84) (tgt := 121) dX9_init_84 (by decide) (fun h => absurd h (by decide)) (fun _ => ?_)
  refine sv_aload_n (pc := 87) dX9_init_87 rfl rfl ?_
  refine sw_getfield (pc := 88) dX9_init_88 (gCX9 _ _ _ _ _) 4 (by decide) wF_X9_35 rfl rfl rfl ?_
  refine sv_iload (pc := 91) dX9_init_91 rfl ?_
  refine sw_new (pc := 93) (a := 112) (n1 := 113) (ce1 := 112) (sl1 := 1496) (fs := zX7) dX9_init_93 (gCX7 _ _ _ _ _) wC_X9_33 wN_X7 wI_X7 zX7_ok rfl rfl rfl rfl rfl rfl ?_
  refine sv_dup (pc := 96) dX9_init_96 rfl ?_
  refine sv_callI (pc := 97) (M' := mX7_init) (d' := 4) (C' := 2) (S' := 28) (av := []) ?_ (gOk _ _ _ _ _) dX9_init_97 (tX7_init _ _ _ _ _) rfl rfl wV_X7_init wM_X9_42 ⟨le_t rfl, le_t rfl⟩ ⟨le_t rfl, le_t rfl⟩ rfl (le_t rfl) (fun _ _ h => h)
  refine sC.of rfl (by decide) (le_t rfl) ?_
  refine sv_aload_n (pc := 0) dX7_init_0 rfl rfl ?_
  refine sv_objinit (pc := 1) dX7_init_1 wM_X7_3 wV_obj wK_obj ⟨le_t rfl, le_t rfl⟩ (le_t rfl) ?_
  refine sv_aload_n (pc := 4) dX7_init_4 rfl rfl ?_
  refine sv_bipush (pc := 5) (v := 20) dX7_init_5 (by decide) ?_
  refine sw_newarray (pc := 7) (kd := 0) (a := 113) (n1 := 114) (N := 20) (ce1 := 1) (sl1 := 20) (v := .int 0) dX7_init_7 rfl wA_int rfl (fun U => sI_Cond_int U _) (by decide) (by decide) rfl (fun _ => rfl) rfl rfl rfl rfl rfl rfl ?_
  refine sw_putfinal (pc := 9) dX7_init_9 (gCX7 _ _ _ _ _) 0 (by decide) wF_X7_9 rfl rfl rfl rfl rfl (fun _ => rfl) (fun _ => rfl) rfl ?_
  refine sv_aload_n (pc := 12) dX7_init_12 rfl rfl ?_
  refine sv_bipush (pc := 13) (v := 8) dX7_init_13 (by decide) ?_
  refine sw_newarray (pc := 15) (kd := 0) (a := 114) (n1 := 115) (N := 8) (ce1 := 2) (sl1 := 28) (v := .int 0) dX7_init_15 rfl wA_int rfl (fun U => sI_Cond_int U _) (by decide) (by decide) rfl (fun _ => rfl) rfl rfl rfl rfl rfl rfl ?_
  refine sw_putfinal (pc := 17) dX7_init_17 (gCX7 _ _ _ _ _) 1 (by decide) wF_X7_15 rfl rfl rfl rfl rfl (fun _ => rfl) (fun _ => rfl) rfl ?_
  refine sv_aload_n (pc := 20) dX7_init_20 rfl rfl ?_
  refine sv_iconst (pc := 21) (v := (-1)) dX7_init_21 (by decide) ?_
  refine sw_putfield (pc := 22) dX7_init_22 (gCX7 _ _ _ _ _) 9 (by decide) wF_X7_18 rfl rfl rfl (fun _ => rfl) (fun _ => rfl) rfl ?_
  refine sv_vret (pc := 25) dX7_init_25 rfl (le_t rfl) (le_t rfl) ?_
  refine sw_aastore (pc := 100) (k := 18) dX9_init_100 (gCX7 _ _ _ _ _) rfl rfl rfl (by decide) (by decide) rfl rfl rfl ?_
  refine sv_aload_n (pc := 101) dX9_init_101 rfl rfl ?_
  refine sw_getfield (pc := 102) dX9_init_102 (gCX9 _ _ _ _ _) 5 (by decide) wF_X9_39 rfl rfl rfl ?_
  refine sv_iload (pc := 105) dX9_init_105 rfl ?_
  refine sw_new (pc := 107) (a := 115) (n1 := 116) (ce1 := 115) (sl1 := 1536) (fs := zX7) dX9_init_107 (gCX7 _ _ _ _ _) wC_X9_33 wN_X7 wI_X7 zX7_ok rfl rfl rfl rfl rfl rfl ?_
  refine sv_dup (pc := 110) dX9_init_110 rfl ?_
  refine sv_callI (pc := 111) (M' := mX7_init) (d' := 4) (C' := 2) (S' := 28) (av := []) ?_ (gOk _ _ _ _ _) dX9_init_111 (tX7_init _ _ _ _ _) rfl rfl wV_X7_init wM_X9_42 ⟨le_t rfl, le_t rfl⟩ ⟨le_t rfl, le_t rfl⟩ rfl (le_t rfl) (fun _ _ h => h)
  refine sC.of rfl (by decide) (le_t rfl) ?_
  refine sv_aload_n (pc := 0) dX7_init_0 rfl rfl ?_
  refine sv_objinit (pc := 1) dX7_init_1 wM_X7_3 wV_obj wK_obj ⟨le_t rfl, le_t rfl⟩ (le_t rfl) ?_
  refine sv_aload_n (pc := 4) dX7_init_4 rfl rfl ?_
  refine sv_bipush (pc := 5) (v := 20) dX7_init_5 (by decide) ?_
  refine sw_newarray (pc := 7) (kd := 0) (a := 116) (n1 := 117) (N := 20) (ce1 := 1) (sl1 := 20) (v := .int 0) dX7_init_7 rfl wA_int rfl (fun U => sI_Cond_int U _) (by decide) (by decide) rfl (fun _ => rfl) rfl rfl rfl rfl rfl rfl ?_
  refine sw_putfinal (pc := 9) dX7_init_9 (gCX7 _ _ _ _ _) 0 (by decide) wF_X7_9 rfl rfl rfl rfl rfl (fun _ => rfl) (fun _ => rfl) rfl ?_
  refine sv_aload_n (pc := 12) dX7_init_12 rfl rfl ?_
  refine sv_bipush (pc := 13) (v := 8) dX7_init_13 (by decide) ?_
  refine sw_newarray (pc := 15) (kd := 0) (a := 117) (n1 := 118) (N := 8) (ce1 := 2) (sl1 := 28) (v := .int 0) dX7_init_15 rfl wA_int rfl (fun U => sI_Cond_int U _) (by decide) (by decide) rfl (fun _ => rfl) rfl rfl rfl rfl rfl rfl ?_
  refine sw_putfinal (pc := 17) dX7_init_17 (gCX7 _ _ _ _ _) 1 (by decide) wF_X7_15 rfl rfl rfl rfl rfl (fun _ => rfl) (fun _ => rfl) rfl ?_
  refine sv_aload_n (pc := 20) dX7_init_20 rfl rfl ?_
  refine sv_iconst (pc := 21) (v := (-1)) dX7_init_21 (by decide) ?_
  refine sw_putfield (pc := 22) dX7_init_22 (gCX7 _ _ _ _ _) 9 (by decide) wF_X7_18 rfl rfl rfl (fun _ => rfl) (fun _ => rfl) rfl ?_
  refine sv_vret (pc := 25) dX7_init_25 rfl (le_t rfl) (le_t rfl) ?_
  refine sw_aastore (pc := 114) (k := 18) dX9_init_114 (gCX7 _ _ _ _ _) rfl rfl rfl (by decide) (by decide) rfl rfl rfl ?_
  refine sw_iinc (pc := 115) (v := 19) dX9_init_115 rfl (by decide) (by decide) ?_
  refine sv_goto (pc := 118) (tgt := 77) dX9_init_118 (by decide) ?_
  refine sv_iload (pc := 77) dX9_init_77 rfl ?_
  refine sv_aload_n (pc := 79) dX9_init_79 rfl rfl ?_
  refine sw_getfield (pc := 80) dX9_init_80 (gCX9 _ _ _ _ _) 4 (by decide) wF_X9_35 rfl rfl rfl ?_
  refine sv_arraylength (pc := 83) (v := 20) (ty := .object RX7) dX9_init_83 rfl (lt_t rfl) rfl (by decide) ?_
  refine sv_icmp_ge (pc := 84) (tgt := 121) dX9_init_84 (by decide) (fun h => absurd h (by decide)) (fun _ => ?_)
  refine sv_aload_n (pc := 87) dX9_init_87 rfl rfl ?_
  refine sw_getfield (pc := 88) dX9_init_88 (gCX9 _ _ _ _ _) 4 (by decide) wF_X9_35 rfl rfl rfl ?_
  refine sv_iload (pc := 91) dX9_init_91 rfl ?_
  refine sw_new (pc := 93) (a := 118) (n1 := 119) (ce1 := 118) (sl1 := 1576) (fs := zX7) dX9_init_93 (gCX7 _ _ _ _ _) wC_X9_33 wN_X7 wI_X7 zX7_ok rfl rfl rfl rfl rfl rfl ?_
  refine sv_dup (pc := 96) dX9_init_96 rfl ?_
  refine sv_callI (pc := 97) (M' := mX7_init) (d' := 4) (C' := 2) (S' := 28) (av := []) ?_ (gOk _ _ _ _ _) dX9_init_97 (tX7_init _ _ _ _ _) rfl rfl wV_X7_init wM_X9_42 ⟨le_t rfl, le_t rfl⟩ ⟨le_t rfl, le_t rfl⟩ rfl (le_t rfl) (fun _ _ h => h)
  refine sC.of rfl (by decide) (le_t rfl) ?_
  refine sv_aload_n (pc := 0) dX7_init_0 rfl rfl ?_
  refine sv_objinit (pc := 1) dX7_init_1 wM_X7_3 wV_obj wK_obj ⟨le_t rfl, le_t rfl⟩ (le_t rfl) ?_
  refine sv_aload_n (pc := 4) dX7_init_4 rfl rfl ?_
  refine sv_bipush (pc := 5) (v := 20) dX7_init_5 (by decide) ?_
  refine sw_newarray (pc := 7) (kd := 0) (a := 119) (n1 := 120) (N := 20) (ce1 := 1) (sl1 := 20) (v := .int 0) dX7_init_7 rfl wA_int rfl (fun U => sI_Cond_int U _) (by decide) (by decide) rfl (fun _ => rfl) rfl rfl rfl rfl rfl rfl ?_
  refine sw_putfinal (pc := 9) dX7_init_9 (gCX7 _ _ _ _ _) 0 (by decide) wF_X7_9 rfl rfl rfl rfl rfl (fun _ => rfl) (fun _ => rfl) rfl ?_
  refine sv_aload_n (pc := 12) dX7_init_12 rfl rfl ?_
  refine sv_bipush (pc := 13) (v := 8) dX7_init_13 (by decide) ?_
  refine sw_newarray (pc := 15) (kd := 0) (a := 120) (n1 := 121) (N := 8) (ce1 := 2) (sl1 := 28) (v := .int 0) dX7_init_15 rfl wA_int rfl (fun U => sI_Cond_int U _) (by decide) (by decide) rfl (fun _ => rfl) rfl rfl rfl rfl rfl rfl ?_
  refine sw_putfinal (pc := 17) dX7_init_17 (gCX7 _ _ _ _ _) 1 (by decide) wF_X7_15 rfl rfl rfl rfl rfl (fun _ => rfl) (fun _ => rfl) rfl ?_
  refine sv_aload_n (pc := 20) dX7_init_20 rfl rfl ?_
  refine sv_iconst (pc := 21) (v := (-1)) dX7_init_21 (by decide) ?_
  refine sw_putfield (pc := 22) dX7_init_22 (gCX7 _ _ _ _ _) 9 (by decide) wF_X7_18 rfl rfl rfl (fun _ => rfl) (fun _ => rfl) rfl ?_
  refine sv_vret (pc := 25) dX7_init_25 rfl (le_t rfl) (le_t rfl) ?_
  refine sw_aastore (pc := 100) (k := 19) dX9_init_100 (gCX7 _ _ _ _ _) rfl rfl rfl (by decide) (by decide) rfl rfl rfl ?_
  refine sv_aload_n (pc := 101) dX9_init_101 rfl rfl ?_
  refine sw_getfield (pc := 102) dX9_init_102 (gCX9 _ _ _ _ _) 5 (by decide) wF_X9_39 rfl rfl rfl ?_
  refine sv_iload (pc := 105) dX9_init_105 rfl ?_
  refine sw_new (pc := 107) (a := 121) (n1 := 122) (ce1 := 121) (sl1 := 1616) (fs := zX7) dX9_init_107 (gCX7 _ _ _ _ _) wC_X9_33 wN_X7 wI_X7 zX7_ok rfl rfl rfl rfl rfl rfl ?_
  refine sv_dup (pc := 110) dX9_init_110 rfl ?_
  refine sv_callI (pc := 111) (M' := mX7_init) (d' := 4) (C' := 2) (S' := 28) (av := []) ?_ (gOk _ _ _ _ _) dX9_init_111 (tX7_init _ _ _ _ _) rfl rfl wV_X7_init wM_X9_42 ⟨le_t rfl, le_t rfl⟩ ⟨le_t rfl, le_t rfl⟩ rfl (le_t rfl) (fun _ _ h => h)
  refine sC.of rfl (by decide) (le_t rfl) ?_
  refine sv_aload_n (pc := 0) dX7_init_0 rfl rfl ?_
  refine sv_objinit (pc := 1) dX7_init_1 wM_X7_3 wV_obj wK_obj ⟨le_t rfl, le_t rfl⟩ (le_t rfl) ?_
  refine sv_aload_n (pc := 4) dX7_init_4 rfl rfl ?_
  refine sv_bipush (pc := 5) (v := 20) dX7_init_5 (by decide) ?_
  refine sw_newarray (pc := 7) (kd := 0) (a := 122) (n1 := 123) (N := 20) (ce1 := 1) (sl1 := 20) (v := .int 0) dX7_init_7 rfl wA_int rfl (fun U => sI_Cond_int U _) (by decide) (by decide) rfl (fun _ => rfl) rfl rfl rfl rfl rfl rfl ?_
  refine sw_putfinal (pc := 9) dX7_init_9 (gCX7 _ _ _ _ _) 0 (by decide) wF_X7_9 rfl rfl rfl rfl rfl (fun _ => rfl) (fun _ => rfl) rfl ?_
  refine sv_aload_n (pc := 12) dX7_init_12 rfl rfl ?_
  refine sv_bipush (pc := 13) (v := 8) dX7_init_13 (by decide) ?_
  refine sw_newarray (pc := 15) (kd := 0) (a := 123) (n1 := 124) (N := 8) (ce1 := 2) (sl1 := 28) (v := .int 0) dX7_init_15 rfl wA_int rfl (fun U => sI_Cond_int U _) (by decide) (by decide) rfl (fun _ => rfl) rfl rfl rfl rfl rfl rfl ?_
  refine sw_putfinal (pc := 17) dX7_init_17 (gCX7 _ _ _ _ _) 1 (by decide) wF_X7_15 rfl rfl rfl rfl rfl (fun _ => rfl) (fun _ => rfl) rfl ?_
  refine sv_aload_n (pc := 20) dX7_init_20 rfl rfl ?_
  refine sv_iconst (pc := 21) (v := (-1)) dX7_init_21 (by decide) ?_
  refine sw_putfield (pc := 22) dX7_init_22 (gCX7 _ _ _ _ _) 9 (by decide) wF_X7_18 rfl rfl rfl (fun _ => rfl) (fun _ => rfl) rfl ?_
  refine sv_vret (pc := 25) dX7_init_25 rfl (le_t rfl) (le_t rfl) ?_
  refine sw_aastore (pc := 114) (k := 19) dX9_init_114 (gCX7 _ _ _ _ _) rfl rfl rfl (by decide) (by decide) rfl rfl rfl ?_
  refine sw_iinc (pc := 115) (v := 20) dX9_init_115 rfl (by decide) (by decide) ?_
  refine sv_goto (pc := 118) (tgt := 77) dX9_init_118 (by decide) ?_
  refine sv_iload (pc := 77) dX9_init_77 rfl ?_
  refine sv_aload_n (pc := 79) dX9_init_79 rfl rfl ?_
  refine sw_getfield (pc := 80) dX9_init_80 (gCX9 _ _ _ _ _) 4 (by decide) wF_X9_35 rfl rfl rfl ?_
  refine sv_arraylength (pc := 83) (v := 20) (ty := .object RX7) dX9_init_83 rfl (lt_t rfl) rfl (by decide) ?_
  refine sv_icmp_ge (pc := 84) (tgt := 121) dX9_init_84 (by decide) (fun _ => ?_) (fun h => absurd (by decide) h)
  refine sv_vret dX9_init_121 rfl (le_t rfl) (le_t rfl) ⟨rfl, rfl, fun j hj => ?_⟩
  match j, hj with
  | 0, _ => exact rfl
  | 1, _ => exact rfl
  | 2, _ => exact rfl
  | 3, _ => exact rfl
  | 4, _ => exact rfl
  | 5, _ => exact rfl
  | 6, _ => exact rfl
  | 7, _ => exact rfl
  | 8, _ => exact rfl
  | 9, _ => exact rfl
  | 10, _ => exact rfl
  | 11, _ => exact rfl
  | 12, _ => exact rfl
  | 13, _ => exact rfl
  | 14, _ => exact rfl
  | 15, _ => exact rfl
  | 16, _ => exact rfl
  | 17, _ => exact rfl
  | 18, _ => exact rfl
  | 19, _ => exact rfl
  | 20, _ => exact rfl
  | 21, _ => exact rfl
  | 22, _ => exact rfl
  | 23, _ => exact rfl
  | 24, _ => exact rfl
  | 25, _ => exact rfl
  | 26, _ => exact rfl
  | 27, _ => exact rfl
  | 28, _ => exact rfl
  | 29, _ => exact rfl
  | 30, _ => exact rfl
  | 31, _ => exact rfl
  | 32, _ => exact rfl
  | 33, _ => exact rfl
  | 34, _ => exact rfl
  | 35, _ => exact rfl
  | 36, _ => exact rfl
  | 37, _ => exact rfl
  | 38, _ => exact rfl
  | 39, _ => exact rfl
  | 40, _ => exact rfl
  | 41, _ => exact rfl
  | 42, _ => exact rfl
  | 43, _ => exact rfl
  | 44, _ => exact rfl
  | 45, _ => exact rfl
  | 46, _ => exact rfl
  | 47, _ => exact rfl
  | 48, _ => exact rfl
  | 49, _ => exact rfl
  | 50, _ => exact rfl
  | 51, _ => exact rfl
  | 52, _ => exact rfl
  | 53, _ => exact rfl
  | 54, _ => exact rfl
  | 55, _ => exact rfl
  | 56, _ => exact rfl
  | 57, _ => exact rfl
  | 58, _ => exact rfl
  | 59, _ => exact rfl
  | 60, _ => exact rfl
  | 61, _ => exact rfl
  | 62, _ => exact rfl
  | 63, _ => exact rfl
  | 64, _ => exact rfl
  | 65, _ => exact rfl
  | 66, _ => exact rfl
  | 67, _ => exact rfl
  | 68, _ => exact rfl
  | 69, _ => exact rfl
  | 70, _ => exact rfl
  | 71, _ => exact rfl
  | 72, _ => exact rfl
  | 73, _ => exact rfl
  | 74, _ => exact rfl
  | 75, _ => exact rfl
  | 76, _ => exact rfl
  | 77, _ => exact rfl
  | 78, _ => exact rfl
  | 79, _ => exact rfl
  | 80, _ => exact rfl
  | 81, _ => exact rfl
  | 82, _ => exact rfl
  | 83, _ => exact rfl
  | 84, _ => exact rfl
  | 85, _ => exact rfl
  | 86, _ => exact rfl
  | 87, _ => exact rfl
  | 88, _ => exact rfl
  | 89, _ => exact rfl
  | 90, _ => exact rfl
  | 91, _ => exact rfl
  | 92, _ => exact rfl
  | 93, _ => exact rfl
  | 94, _ => exact rfl
  | 95, _ => exact rfl
  | 96, _ => exact rfl
  | 97, _ => exact rfl
  | 98, _ => exact rfl
  | 99, _ => exact rfl
  | 100, _ => exact rfl
  | 101, _ => exact rfl
  | 102, _ => exact rfl
  | 103, _ => exact rfl
  | 104, _ => exact rfl
  | 105, _ => exact rfl
  | 106, _ => exact rfl
  | 107, _ => exact rfl
  | 108, _ => exact rfl
  | 109, _ => exact rfl
  | 110, _ => exact rfl
  | 111, _ => exact rfl
  | 112, _ => exact rfl
  | 113, _ => exact rfl
  | 114, _ => exact rfl
  | 115, _ => exact rfl
  | 116, _ => exact rfl
  | 117, _ => exact rfl
  | 118, _ => exact rfl
  | 119, _ => exact rfl
  | 120, _ => exact rfl
  | 121, _ => exact rfl
  | 122, _ => exact rfl
  | 123, _ => exact rfl
  | n + 124, h => exact absurd h (by omega)
end
section
def BX0 : mB := [(210, [1, 2, 3, 4, 5, 0], 0),
  (211, [1, 2, 3, 4, 5, 0], 1),
  (212, [], -1),
  (213, [], -99999999),
  (214, [5, 8, 11, 14, 17, 20, 23, 26, 29, 32], 5),
  (200, [6, 7, 0, 0, 0, 0, 0, 0, 0, -1, 0, 0], 0),
  (201, [], 0),
  (202, [], 0),
  (200, [9, 10, 0, 0, 0, 0, 0, 0, 0, -1, 0, 0], 0),
  (201, [], 0),
  (202, [], 0),
  (200, [12, 13, 0, 0, 0, 0, 0, 0, 0, -1, 0, 0], 0),
  (201, [], 0),
  (202, [], 0),
  (200, [15, 16, 0, 0, 0, 0, 0, 0, 0, -1, 0, 0], 0),
  (201, [], 0),
  (202, [], 0),
  (200, [18, 19, 0, 0, 0, 0, 0, 0, 0, -1, 0, 0], 0),
  (201, [], 0),
  (202, [], 0),
  (200, [21, 22, 0, 0, 0, 0, 0, 0, 0, -1, 0, 0], 0),
  (201, [], 0),
  (202, [], 0),
  (200, [24, 25, 0, 0, 0, 0, 0, 0, 0, -1, 0, 0], 0),
  (201, [], 0),
  (202, [], 0),
  (200, [27, 28, 0, 0, 0, 0, 0, 0, 0, -1, 0, 0], 0),
  (201, [], 0),
  (202, [], 0),
  (200, [30, 31, 0, 0, 0, 0, 0, 0, 0, -1, 0, 0], 0),
  (201, [], 0),
  (202, [], 0),
  (200, [33, 34, 0, 0, 0, 0, 0, 0, 0, -1, 0, 0], 0),
  (201, [], 0),
  (202, [], 0)]
def BX9 : mB := [(220, [0, 0, 0, 1, 2, 3, 1, 1, 0], 0),
  (221, [], -99999999),
  (222, [4, 10, 16, 22, 28, 34, 40, 46, 52, 58, 64, 70, 76, 82, 88, 94, 100, 106, 112, 118], 4),
  (223, [7, 13, 19, 25, 31, 37, 43, 49, 55, 61, 67, 73, 79, 85, 91, 97, 103, 109, 115, 121], 7),
  (200, [5, 6, 0, 0, 0, 0, 0, 0, 0, -1, 0, 0], 0),
  (201, [], 0),
  (202, [], 0),
  (200, [8, 9, 0, 0, 0, 0, 0, 0, 0, -1, 0, 0], 0),
  (201, [], 0),
  (202, [], 0),
  (200, [11, 12, 0, 0, 0, 0, 0, 0, 0, -1, 0, 0], 0),
  (201, [], 0),
  (202, [], 0),
  (200, [14, 15, 0, 0, 0, 0, 0, 0, 0, -1, 0, 0], 0),
  (201, [], 0),
  (202, [], 0),
  (200, [17, 18, 0, 0, 0, 0, 0, 0, 0, -1, 0, 0], 0),
  (201, [], 0),
  (202, [], 0),
  (200, [20, 21, 0, 0, 0, 0, 0, 0, 0, -1, 0, 0], 0),
  (201, [], 0),
  (202, [], 0),
  (200, [23, 24, 0, 0, 0, 0, 0, 0, 0, -1, 0, 0], 0),
  (201, [], 0),
  (202, [], 0),
  (200, [26, 27, 0, 0, 0, 0, 0, 0, 0, -1, 0, 0], 0),
  (201, [], 0),
  (202, [], 0),
  (200, [29, 30, 0, 0, 0, 0, 0, 0, 0, -1, 0, 0], 0),
  (201, [], 0),
  (202, [], 0),
  (200, [32, 33, 0, 0, 0, 0, 0, 0, 0, -1, 0, 0], 0),
  (201, [], 0),
  (202, [], 0),
  (200, [35, 36, 0, 0, 0, 0, 0, 0, 0, -1, 0, 0], 0),
  (201, [], 0),
  (202, [], 0),
  (200, [38, 39, 0, 0, 0, 0, 0, 0, 0, -1, 0, 0], 0),
  (201, [], 0),
  (202, [], 0),
  (200, [41, 42, 0, 0, 0, 0, 0, 0, 0, -1, 0, 0], 0),
  (201, [], 0),
  (202, [], 0),
  (200, [44, 45, 0, 0, 0, 0, 0, 0, 0, -1, 0, 0], 0),
  (201, [], 0),
  (202, [], 0),
  (200, [47, 48, 0, 0, 0, 0, 0, 0, 0, -1, 0, 0], 0),
  (201, [], 0),
  (202, [], 0),
  (200, [50, 51, 0, 0, 0, 0, 0, 0, 0, -1, 0, 0], 0),
  (201, [], 0),
  (202, [], 0),
  (200, [53, 54, 0, 0, 0, 0, 0, 0, 0, -1, 0, 0], 0),
  (201, [], 0),
  (202, [], 0),
  (200, [56, 57, 0, 0, 0, 0, 0, 0, 0, -1, 0, 0], 0),
  (201, [], 0),
  (202, [], 0),
  (200, [59, 60, 0, 0, 0, 0, 0, 0, 0, -1, 0, 0], 0),
  (201, [], 0),
  (202, [], 0),
  (200, [62, 63, 0, 0, 0, 0, 0, 0, 0, -1, 0, 0], 0),
  (201, [], 0),
  (202, [], 0),
  (200, [65, 66, 0, 0, 0, 0, 0, 0, 0, -1, 0, 0], 0),
  (201, [], 0),
  (202, [], 0),
  (200, [68, 69, 0, 0, 0, 0, 0, 0, 0, -1, 0, 0], 0),
  (201, [], 0),
  (202, [], 0),
  (200, [71, 72, 0, 0, 0, 0, 0, 0, 0, -1, 0, 0], 0),
  (201, [], 0),
  (202, [], 0),
  (200, [74, 75, 0, 0, 0, 0, 0, 0, 0, -1, 0, 0], 0),
  (201, [], 0),
  (202, [], 0),
  (200, [77, 78, 0, 0, 0, 0, 0, 0, 0, -1, 0, 0], 0),
  (201, [], 0),
  (202, [], 0),
  (200, [80, 81, 0, 0, 0, 0, 0, 0, 0, -1, 0, 0], 0),
  (201, [], 0),
  (202, [], 0),
  (200, [83, 84, 0, 0, 0, 0, 0, 0, 0, -1, 0, 0], 0),
  (201, [], 0),
  (202, [], 0),
  (200, [86, 87, 0, 0, 0, 0, 0, 0, 0, -1, 0, 0], 0),
  (201, [], 0),
  (202, [], 0),
  (200, [89, 90, 0, 0, 0, 0, 0, 0, 0, -1, 0, 0], 0),
  (201, [], 0),
  (202, [], 0),
  (200, [92, 93, 0, 0, 0, 0, 0, 0, 0, -1, 0, 0], 0),
  (201, [], 0),
  (202, [], 0),
  (200, [95, 96, 0, 0, 0, 0, 0, 0, 0, -1, 0, 0], 0),
  (201, [], 0),
  (202, [], 0),
  (200, [98, 99, 0, 0, 0, 0, 0, 0, 0, -1, 0, 0], 0),
  (201, [], 0),
  (202, [], 0),
  (200, [101, 102, 0, 0, 0, 0, 0, 0, 0, -1, 0, 0], 0),
  (201, [], 0),
  (202, [], 0),
  (200, [104, 105, 0, 0, 0, 0, 0, 0, 0, -1, 0, 0], 0),
  (201, [], 0),
  (202, [], 0),
  (200, [107, 108, 0, 0, 0, 0, 0, 0, 0, -1, 0, 0], 0),
  (201, [], 0),
  (202, [], 0),
  (200, [110, 111, 0, 0, 0, 0, 0, 0, 0, -1, 0, 0], 0),
  (201, [], 0),
  (202, [], 0),
  (200, [113, 114, 0, 0, 0, 0, 0, 0, 0, -1, 0, 0], 0),
  (201, [], 0),
  (202, [], 0),
  (200, [116, 117, 0, 0, 0, 0, 0, 0, 0, -1, 0, 0], 0),
  (201, [], 0),
  (202, [], 0),
  (200, [119, 120, 0, 0, 0, 0, 0, 0, 0, -1, 0, 0], 0),
  (201, [], 0),
  (202, [], 0),
  (200, [122, 123, 0, 0, 0, 0, 0, 0, 0, -1, 0, 0], 0),
  (201, [], 0),
  (202, [], 0)]
theorem BX0_ok : bChk false BX0 = true := by decide +kernel
theorem BX0_n : BX0.length = 35 := rfl
theorem BX0_eq : ∀ j, j < 35 → sEq (tX0N j) (mCell (mTab (bS BX0 j)) (mLen (bS BX0 j)) (bV BX0 j)) := by
  intro j hj
  match j, hj with
  | 0, _ => exact rfl
  | 1, _ => exact ⟨rfl, rfl, fun i hi => by
      match i, hi with
      | 0, _ => rfl
      | 1, _ => rfl
      | 2, _ => rfl
      | 3, _ => rfl
      | 4, _ => rfl
      | 5, _ => rfl
      | m + 6, h => exact absurd h (Nat.not_lt.mpr (Nat.le_add_left _ _))⟩
  | 2, _ => exact ⟨rfl, rfl, fun i hi => by
      match i, hi with
      | 0, _ => rfl
      | 1, _ => rfl
      | 2, _ => rfl
      | 3, _ => rfl
      | 4, _ => rfl
      | 5, _ => rfl
      | 6, _ => rfl
      | 7, _ => rfl
      | 8, _ => rfl
      | 9, _ => rfl
      | m + 10, h => exact absurd h (Nat.not_lt.mpr (Nat.le_add_left _ _))⟩
  | 3, _ => exact ⟨rfl, rfl, fun i hi => by
      match i, hi with
      | 0, _ => rfl
      | 1, _ => rfl
      | 2, _ => rfl
      | 3, _ => rfl
      | 4, _ => rfl
      | 5, _ => rfl
      | 6, _ => rfl
      | 7, _ => rfl
      | 8, _ => rfl
      | 9, _ => rfl
      | m + 10, h => exact absurd h (Nat.not_lt.mpr (Nat.le_add_left _ _))⟩
  | 4, _ => exact ⟨rfl, rfl, fun i hi => by
      match i, hi with
      | 0, _ => rfl
      | 1, _ => rfl
      | 2, _ => rfl
      | 3, _ => rfl
      | 4, _ => rfl
      | 5, _ => rfl
      | 6, _ => rfl
      | 7, _ => rfl
      | 8, _ => rfl
      | 9, _ => rfl
      | m + 10, h => exact absurd h (Nat.not_lt.mpr (Nat.le_add_left _ _))⟩
  | 5, _ => exact rfl
  | 6, _ => exact ⟨rfl, rfl, fun _ _ => rfl⟩
  | 7, _ => exact ⟨rfl, rfl, fun _ _ => rfl⟩
  | 8, _ => exact rfl
  | 9, _ => exact ⟨rfl, rfl, fun _ _ => rfl⟩
  | 10, _ => exact ⟨rfl, rfl, fun _ _ => rfl⟩
  | 11, _ => exact rfl
  | 12, _ => exact ⟨rfl, rfl, fun _ _ => rfl⟩
  | 13, _ => exact ⟨rfl, rfl, fun _ _ => rfl⟩
  | 14, _ => exact rfl
  | 15, _ => exact ⟨rfl, rfl, fun _ _ => rfl⟩
  | 16, _ => exact ⟨rfl, rfl, fun _ _ => rfl⟩
  | 17, _ => exact rfl
  | 18, _ => exact ⟨rfl, rfl, fun _ _ => rfl⟩
  | 19, _ => exact ⟨rfl, rfl, fun _ _ => rfl⟩
  | 20, _ => exact rfl
  | 21, _ => exact ⟨rfl, rfl, fun _ _ => rfl⟩
  | 22, _ => exact ⟨rfl, rfl, fun _ _ => rfl⟩
  | 23, _ => exact rfl
  | 24, _ => exact ⟨rfl, rfl, fun _ _ => rfl⟩
  | 25, _ => exact ⟨rfl, rfl, fun _ _ => rfl⟩
  | 26, _ => exact rfl
  | 27, _ => exact ⟨rfl, rfl, fun _ _ => rfl⟩
  | 28, _ => exact ⟨rfl, rfl, fun _ _ => rfl⟩
  | 29, _ => exact rfl
  | 30, _ => exact ⟨rfl, rfl, fun _ _ => rfl⟩
  | 31, _ => exact ⟨rfl, rfl, fun _ _ => rfl⟩
  | 32, _ => exact rfl
  | 33, _ => exact ⟨rfl, rfl, fun _ _ => rfl⟩
  | 34, _ => exact ⟨rfl, rfl, fun _ _ => rfl⟩
  | n + 35, h => exact absurd h (by omega)
theorem BX9_ok : bChk true BX9 = true := by decide +kernel
theorem BX9_n : BX9.length = 124 := rfl
theorem BX9_eq : ∀ j, j < 124 → sEq (tX9N 0 0 0 j) (mCell (mTab (bS BX9 j)) (mLen (bS BX9 j)) (bV BX9 j)) := by
  intro j hj
  match j, hj with
  | 0, _ => exact rfl
  | 1, _ => exact ⟨rfl, rfl, fun i hi => by
      match i, hi with
      | 0, _ => rfl
      | 1, _ => rfl
      | 2, _ => rfl
      | 3, _ => rfl
      | m + 4, h => exact absurd h (Nat.not_lt.mpr (Nat.le_add_left _ _))⟩
  | 2, _ => exact ⟨rfl, rfl, fun i hi => by
      match i, hi with
      | 0, _ => rfl
      | 1, _ => rfl
      | 2, _ => rfl
      | 3, _ => rfl
      | 4, _ => rfl
      | 5, _ => rfl
      | 6, _ => rfl
      | 7, _ => rfl
      | 8, _ => rfl
      | 9, _ => rfl
      | 10, _ => rfl
      | 11, _ => rfl
      | 12, _ => rfl
      | 13, _ => rfl
      | 14, _ => rfl
      | 15, _ => rfl
      | 16, _ => rfl
      | 17, _ => rfl
      | 18, _ => rfl
      | 19, _ => rfl
      | m + 20, h => exact absurd h (Nat.not_lt.mpr (Nat.le_add_left _ _))⟩
  | 3, _ => exact ⟨rfl, rfl, fun i hi => by
      match i, hi with
      | 0, _ => rfl
      | 1, _ => rfl
      | 2, _ => rfl
      | 3, _ => rfl
      | 4, _ => rfl
      | 5, _ => rfl
      | 6, _ => rfl
      | 7, _ => rfl
      | 8, _ => rfl
      | 9, _ => rfl
      | 10, _ => rfl
      | 11, _ => rfl
      | 12, _ => rfl
      | 13, _ => rfl
      | 14, _ => rfl
      | 15, _ => rfl
      | 16, _ => rfl
      | 17, _ => rfl
      | 18, _ => rfl
      | 19, _ => rfl
      | m + 20, h => exact absurd h (Nat.not_lt.mpr (Nat.le_add_left _ _))⟩
  | 4, _ => exact rfl
  | 5, _ => exact ⟨rfl, rfl, fun _ _ => rfl⟩
  | 6, _ => exact ⟨rfl, rfl, fun _ _ => rfl⟩
  | 7, _ => exact rfl
  | 8, _ => exact ⟨rfl, rfl, fun _ _ => rfl⟩
  | 9, _ => exact ⟨rfl, rfl, fun _ _ => rfl⟩
  | 10, _ => exact rfl
  | 11, _ => exact ⟨rfl, rfl, fun _ _ => rfl⟩
  | 12, _ => exact ⟨rfl, rfl, fun _ _ => rfl⟩
  | 13, _ => exact rfl
  | 14, _ => exact ⟨rfl, rfl, fun _ _ => rfl⟩
  | 15, _ => exact ⟨rfl, rfl, fun _ _ => rfl⟩
  | 16, _ => exact rfl
  | 17, _ => exact ⟨rfl, rfl, fun _ _ => rfl⟩
  | 18, _ => exact ⟨rfl, rfl, fun _ _ => rfl⟩
  | 19, _ => exact rfl
  | 20, _ => exact ⟨rfl, rfl, fun _ _ => rfl⟩
  | 21, _ => exact ⟨rfl, rfl, fun _ _ => rfl⟩
  | 22, _ => exact rfl
  | 23, _ => exact ⟨rfl, rfl, fun _ _ => rfl⟩
  | 24, _ => exact ⟨rfl, rfl, fun _ _ => rfl⟩
  | 25, _ => exact rfl
  | 26, _ => exact ⟨rfl, rfl, fun _ _ => rfl⟩
  | 27, _ => exact ⟨rfl, rfl, fun _ _ => rfl⟩
  | 28, _ => exact rfl
  | 29, _ => exact ⟨rfl, rfl, fun _ _ => rfl⟩
  | 30, _ => exact ⟨rfl, rfl, fun _ _ => rfl⟩
  | 31, _ => exact rfl
  | 32, _ => exact ⟨rfl, rfl, fun _ _ => rfl⟩
  | 33, _ => exact ⟨rfl, rfl, fun _ _ => rfl⟩
  | 34, _ => exact rfl
  | 35, _ => exact ⟨rfl, rfl, fun _ _ => rfl⟩
  | 36, _ => exact ⟨rfl, rfl, fun _ _ => rfl⟩
  | 37, _ => exact rfl
  | 38, _ => exact ⟨rfl, rfl, fun _ _ => rfl⟩
  | 39, _ => exact ⟨rfl, rfl, fun _ _ => rfl⟩
  | 40, _ => exact rfl
  | 41, _ => exact ⟨rfl, rfl, fun _ _ => rfl⟩
  | 42, _ => exact ⟨rfl, rfl, fun _ _ => rfl⟩
  | 43, _ => exact rfl
  | 44, _ => exact ⟨rfl, rfl, fun _ _ => rfl⟩
  | 45, _ => exact ⟨rfl, rfl, fun _ _ => rfl⟩
  | 46, _ => exact rfl
  | 47, _ => exact ⟨rfl, rfl, fun _ _ => rfl⟩
  | 48, _ => exact ⟨rfl, rfl, fun _ _ => rfl⟩
  | 49, _ => exact rfl
  | 50, _ => exact ⟨rfl, rfl, fun _ _ => rfl⟩
  | 51, _ => exact ⟨rfl, rfl, fun _ _ => rfl⟩
  | 52, _ => exact rfl
  | 53, _ => exact ⟨rfl, rfl, fun _ _ => rfl⟩
  | 54, _ => exact ⟨rfl, rfl, fun _ _ => rfl⟩
  | 55, _ => exact rfl
  | 56, _ => exact ⟨rfl, rfl, fun _ _ => rfl⟩
  | 57, _ => exact ⟨rfl, rfl, fun _ _ => rfl⟩
  | 58, _ => exact rfl
  | 59, _ => exact ⟨rfl, rfl, fun _ _ => rfl⟩
  | 60, _ => exact ⟨rfl, rfl, fun _ _ => rfl⟩
  | 61, _ => exact rfl
  | 62, _ => exact ⟨rfl, rfl, fun _ _ => rfl⟩
  | 63, _ => exact ⟨rfl, rfl, fun _ _ => rfl⟩
  | 64, _ => exact rfl
  | 65, _ => exact ⟨rfl, rfl, fun _ _ => rfl⟩
  | 66, _ => exact ⟨rfl, rfl, fun _ _ => rfl⟩
  | 67, _ => exact rfl
  | 68, _ => exact ⟨rfl, rfl, fun _ _ => rfl⟩
  | 69, _ => exact ⟨rfl, rfl, fun _ _ => rfl⟩
  | 70, _ => exact rfl
  | 71, _ => exact ⟨rfl, rfl, fun _ _ => rfl⟩
  | 72, _ => exact ⟨rfl, rfl, fun _ _ => rfl⟩
  | 73, _ => exact rfl
  | 74, _ => exact ⟨rfl, rfl, fun _ _ => rfl⟩
  | 75, _ => exact ⟨rfl, rfl, fun _ _ => rfl⟩
  | 76, _ => exact rfl
  | 77, _ => exact ⟨rfl, rfl, fun _ _ => rfl⟩
  | 78, _ => exact ⟨rfl, rfl, fun _ _ => rfl⟩
  | 79, _ => exact rfl
  | 80, _ => exact ⟨rfl, rfl, fun _ _ => rfl⟩
  | 81, _ => exact ⟨rfl, rfl, fun _ _ => rfl⟩
  | 82, _ => exact rfl
  | 83, _ => exact ⟨rfl, rfl, fun _ _ => rfl⟩
  | 84, _ => exact ⟨rfl, rfl, fun _ _ => rfl⟩
  | 85, _ => exact rfl
  | 86, _ => exact ⟨rfl, rfl, fun _ _ => rfl⟩
  | 87, _ => exact ⟨rfl, rfl, fun _ _ => rfl⟩
  | 88, _ => exact rfl
  | 89, _ => exact ⟨rfl, rfl, fun _ _ => rfl⟩
  | 90, _ => exact ⟨rfl, rfl, fun _ _ => rfl⟩
  | 91, _ => exact rfl
  | 92, _ => exact ⟨rfl, rfl, fun _ _ => rfl⟩
  | 93, _ => exact ⟨rfl, rfl, fun _ _ => rfl⟩
  | 94, _ => exact rfl
  | 95, _ => exact ⟨rfl, rfl, fun _ _ => rfl⟩
  | 96, _ => exact ⟨rfl, rfl, fun _ _ => rfl⟩
  | 97, _ => exact rfl
  | 98, _ => exact ⟨rfl, rfl, fun _ _ => rfl⟩
  | 99, _ => exact ⟨rfl, rfl, fun _ _ => rfl⟩
  | 100, _ => exact rfl
  | 101, _ => exact ⟨rfl, rfl, fun _ _ => rfl⟩
  | 102, _ => exact ⟨rfl, rfl, fun _ _ => rfl⟩
  | 103, _ => exact rfl
  | 104, _ => exact ⟨rfl, rfl, fun _ _ => rfl⟩
  | 105, _ => exact ⟨rfl, rfl, fun _ _ => rfl⟩
  | 106, _ => exact rfl
  | 107, _ => exact ⟨rfl, rfl, fun _ _ => rfl⟩
  | 108, _ => exact ⟨rfl, rfl, fun _ _ => rfl⟩
  | 109, _ => exact rfl
  | 110, _ => exact ⟨rfl, rfl, fun _ _ => rfl⟩
  | 111, _ => exact ⟨rfl, rfl, fun _ _ => rfl⟩
  | 112, _ => exact rfl
  | 113, _ => exact ⟨rfl, rfl, fun _ _ => rfl⟩
  | 114, _ => exact ⟨rfl, rfl, fun _ _ => rfl⟩
  | 115, _ => exact rfl
  | 116, _ => exact ⟨rfl, rfl, fun _ _ => rfl⟩
  | 117, _ => exact ⟨rfl, rfl, fun _ _ => rfl⟩
  | 118, _ => exact rfl
  | 119, _ => exact ⟨rfl, rfl, fun _ _ => rfl⟩
  | 120, _ => exact ⟨rfl, rfl, fun _ _ => rfl⟩
  | 121, _ => exact rfl
  | 122, _ => exact ⟨rfl, rfl, fun _ _ => rfl⟩
  | 123, _ => exact ⟨rfl, rfl, fun _ _ => rfl⟩
  | n + 124, h => exact absurd h (by omega)
theorem tX9N_s (xa xb xk : Int32) : ∀ j, j + 1 < 124 → tX9N xa xb xk (j + 1) = tX9N 0 0 0 (j + 1) := by
  intro j hj
  match j, hj with
  | 0, _ => exact rfl
  | 1, _ => exact rfl
  | 2, _ => exact rfl
  | 3, _ => exact rfl
  | 4, _ => exact rfl
  | 5, _ => exact rfl
  | 6, _ => exact rfl
  | 7, _ => exact rfl
  | 8, _ => exact rfl
  | 9, _ => exact rfl
  | 10, _ => exact rfl
  | 11, _ => exact rfl
  | 12, _ => exact rfl
  | 13, _ => exact rfl
  | 14, _ => exact rfl
  | 15, _ => exact rfl
  | 16, _ => exact rfl
  | 17, _ => exact rfl
  | 18, _ => exact rfl
  | 19, _ => exact rfl
  | 20, _ => exact rfl
  | 21, _ => exact rfl
  | 22, _ => exact rfl
  | 23, _ => exact rfl
  | 24, _ => exact rfl
  | 25, _ => exact rfl
  | 26, _ => exact rfl
  | 27, _ => exact rfl
  | 28, _ => exact rfl
  | 29, _ => exact rfl
  | 30, _ => exact rfl
  | 31, _ => exact rfl
  | 32, _ => exact rfl
  | 33, _ => exact rfl
  | 34, _ => exact rfl
  | 35, _ => exact rfl
  | 36, _ => exact rfl
  | 37, _ => exact rfl
  | 38, _ => exact rfl
  | 39, _ => exact rfl
  | 40, _ => exact rfl
  | 41, _ => exact rfl
  | 42, _ => exact rfl
  | 43, _ => exact rfl
  | 44, _ => exact rfl
  | 45, _ => exact rfl
  | 46, _ => exact rfl
  | 47, _ => exact rfl
  | 48, _ => exact rfl
  | 49, _ => exact rfl
  | 50, _ => exact rfl
  | 51, _ => exact rfl
  | 52, _ => exact rfl
  | 53, _ => exact rfl
  | 54, _ => exact rfl
  | 55, _ => exact rfl
  | 56, _ => exact rfl
  | 57, _ => exact rfl
  | 58, _ => exact rfl
  | 59, _ => exact rfl
  | 60, _ => exact rfl
  | 61, _ => exact rfl
  | 62, _ => exact rfl
  | 63, _ => exact rfl
  | 64, _ => exact rfl
  | 65, _ => exact rfl
  | 66, _ => exact rfl
  | 67, _ => exact rfl
  | 68, _ => exact rfl
  | 69, _ => exact rfl
  | 70, _ => exact rfl
  | 71, _ => exact rfl
  | 72, _ => exact rfl
  | 73, _ => exact rfl
  | 74, _ => exact rfl
  | 75, _ => exact rfl
  | 76, _ => exact rfl
  | 77, _ => exact rfl
  | 78, _ => exact rfl
  | 79, _ => exact rfl
  | 80, _ => exact rfl
  | 81, _ => exact rfl
  | 82, _ => exact rfl
  | 83, _ => exact rfl
  | 84, _ => exact rfl
  | 85, _ => exact rfl
  | 86, _ => exact rfl
  | 87, _ => exact rfl
  | 88, _ => exact rfl
  | 89, _ => exact rfl
  | 90, _ => exact rfl
  | 91, _ => exact rfl
  | 92, _ => exact rfl
  | 93, _ => exact rfl
  | 94, _ => exact rfl
  | 95, _ => exact rfl
  | 96, _ => exact rfl
  | 97, _ => exact rfl
  | 98, _ => exact rfl
  | 99, _ => exact rfl
  | 100, _ => exact rfl
  | 101, _ => exact rfl
  | 102, _ => exact rfl
  | 103, _ => exact rfl
  | 104, _ => exact rfl
  | 105, _ => exact rfl
  | 106, _ => exact rfl
  | 107, _ => exact rfl
  | 108, _ => exact rfl
  | 109, _ => exact rfl
  | 110, _ => exact rfl
  | 111, _ => exact rfl
  | 112, _ => exact rfl
  | 113, _ => exact rfl
  | 114, _ => exact rfl
  | 115, _ => exact rfl
  | 116, _ => exact rfl
  | 117, _ => exact rfl
  | 118, _ => exact rfl
  | 119, _ => exact rfl
  | 120, _ => exact rfl
  | 121, _ => exact rfl
  | 122, _ => exact rfl
  | n + 123, h => exact absurd h (by omega)
end
section
theorem dX10_addDomain_0 : decode cX10_addDomain 0 = .ok (.aload_n 0, 1) := dc0 dO_42 (by decide +kernel)
theorem dX10_addDomain_1 : decode cX10_addDomain 1 = .ok (.getfield 23, 3) := dcU2 dO_180 (by decide +kernel)
theorem dX10_addDomain_4 : decode cX10_addDomain 4 = .ok (.aload_n 0, 1) := dc0 dO_42 (by decide +kernel)
theorem dX10_addDomain_5 : decode cX10_addDomain 5 = .ok (.getfield 68, 3) := dcU2 dO_180 (by decide +kernel)
theorem dX10_addDomain_8 : decode cX10_addDomain 8 = .ok (.new 21, 3) := dcU2 dO_187 (by decide +kernel)
theorem dX10_addDomain_11 : decode cX10_addDomain 11 = .ok (.dup, 1) := dc0 dO_89 (by decide +kernel)
theorem dX10_addDomain_12 : decode cX10_addDomain 12 = .ok (.invokespecial 71, 3) := dcU2 dO_183 (by decide +kernel)
theorem dX10_addDomain_15 : decode cX10_addDomain 15 = .ok (.aastore, 1) := dc0 dO_83 (by decide +kernel)
theorem dX10_addDomain_16 : decode cX10_addDomain 16 = .ok (.aload_n 0, 1) := dc0 dO_42 (by decide +kernel)
theorem dX10_addDomain_17 : decode cX10_addDomain 17 = .ok (.dup, 1) := dc0 dO_89 (by decide +kernel)
theorem dX10_addDomain_18 : decode cX10_addDomain 18 = .ok (.getfield 68, 3) := dcU2 dO_180 (by decide +kernel)
theorem dX10_addDomain_21 : decode cX10_addDomain 21 = .ok (.iconst 1, 1) := dc0 dO_4 (by decide +kernel)
theorem dX10_addDomain_22 : decode cX10_addDomain 22 = .ok (.iadd, 1) := dc0 dO_96 (by decide +kernel)
theorem dX10_addDomain_23 : decode cX10_addDomain 23 = .ok (.putfield 68, 3) := dcU2 dO_181 (by decide +kernel)
theorem dX10_addDomain_26 : decode cX10_addDomain 26 = .ok (.aload_n 0, 1) := dc0 dO_42 (by decide +kernel)
theorem dX10_addDomain_27 : decode cX10_addDomain 27 = .ok (.getfield 68, 3) := dcU2 dO_180 (by decide +kernel)
theorem dX10_addDomain_30 : decode cX10_addDomain 30 = .ok (.iconst 1, 1) := dc0 dO_4 (by decide +kernel)
theorem dX10_addDomain_31 : decode cX10_addDomain 31 = .ok (.isub, 1) := dc0 dO_100 (by decide +kernel)
theorem dX10_addDomain_32 : decode cX10_addDomain 32 = .ok (.ireturn, 1) := dc0 dO_172 (by decide +kernel)
theorem dX10_addTie_0 : decode cX10_addTie 0 = .ok (.aload_n 0, 1) := dc0 dO_42 (by decide +kernel)
theorem dX10_addTie_1 : decode cX10_addTie 1 = .ok (.getfield 29, 3) := dcU2 dO_180 (by decide +kernel)
theorem dX10_addTie_4 : decode cX10_addTie 4 = .ok (.aload_n 0, 1) := dc0 dO_42 (by decide +kernel)
theorem dX10_addTie_5 : decode cX10_addTie 5 = .ok (.getfield 72, 3) := dcU2 dO_180 (by decide +kernel)
theorem dX10_addTie_8 : decode cX10_addTie 8 = .ok (.new 27, 3) := dcU2 dO_187 (by decide +kernel)
theorem dX10_addTie_11 : decode cX10_addTie 11 = .ok (.dup, 1) := dc0 dO_89 (by decide +kernel)
theorem dX10_addTie_12 : decode cX10_addTie 12 = .ok (.iload_n 1, 1) := dc0 dO_27 (by decide +kernel)
theorem dX10_addTie_13 : decode cX10_addTie 13 = .ok (.iload_n 2, 1) := dc0 dO_28 (by decide +kernel)
theorem dX10_addTie_14 : decode cX10_addTie 14 = .ok (.iload_n 3, 1) := dc0 dO_29 (by decide +kernel)
theorem dX10_addTie_15 : decode cX10_addTie 15 = .ok (.invokespecial 75, 3) := dcU2 dO_183 (by decide +kernel)
theorem dX10_addTie_18 : decode cX10_addTie 18 = .ok (.aastore, 1) := dc0 dO_83 (by decide +kernel)
theorem dX10_addTie_19 : decode cX10_addTie 19 = .ok (.aload_n 0, 1) := dc0 dO_42 (by decide +kernel)
theorem dX10_addTie_20 : decode cX10_addTie 20 = .ok (.dup, 1) := dc0 dO_89 (by decide +kernel)
theorem dX10_addTie_21 : decode cX10_addTie 21 = .ok (.getfield 72, 3) := dcU2 dO_180 (by decide +kernel)
theorem dX10_addTie_24 : decode cX10_addTie 24 = .ok (.iconst 1, 1) := dc0 dO_4 (by decide +kernel)
theorem dX10_addTie_25 : decode cX10_addTie 25 = .ok (.iadd, 1) := dc0 dO_96 (by decide +kernel)
theorem dX10_addTie_26 : decode cX10_addTie 26 = .ok (.putfield 72, 3) := dcU2 dO_181 (by decide +kernel)
theorem dX10_addTie_29 : decode cX10_addTie 29 = .ok (.aload_n 0, 1) := dc0 dO_42 (by decide +kernel)
theorem dX10_addTie_30 : decode cX10_addTie 30 = .ok (.getfield 72, 3) := dcU2 dO_180 (by decide +kernel)
theorem dX10_addTie_33 : decode cX10_addTie 33 = .ok (.iconst 1, 1) := dc0 dO_4 (by decide +kernel)
theorem dX10_addTie_34 : decode cX10_addTie 34 = .ok (.isub, 1) := dc0 dO_100 (by decide +kernel)
theorem dX10_addTie_35 : decode cX10_addTie 35 = .ok (.ireturn, 1) := dc0 dO_172 (by decide +kernel)
theorem dX11_domain_0 : decode cX11_domain 0 = .ok (.aload_n 0, 1) := dc0 dO_42 (by decide +kernel)
theorem dX11_domain_1 : decode cX11_domain 1 = .ok (.getfield 26, 3) := dcU2 dO_180 (by decide +kernel)
theorem dX11_domain_4 : decode cX11_domain 4 = .ok (.getfield 98, 3) := dcU2 dO_180 (by decide +kernel)
theorem dX11_domain_7 : decode cX11_domain 7 = .ok (.bipush 10, 2) := dcS1 dO_16 (by decide +kernel)
theorem dX11_domain_9 : decode cX11_domain 9 = .ok (.if_icmp .lt 6, 3) := dcS2 dO_161 (by decide +kernel)
theorem dX11_domain_12 : decode cX11_domain 12 = .ok (.bipush (-3), 2) := dcS1 dO_16 (by decide +kernel)
theorem dX11_domain_14 : decode cX11_domain 14 = .ok (.ireturn, 1) := dc0 dO_172 (by decide +kernel)
theorem dX11_domain_15 : decode cX11_domain 15 = .ok (.aload_n 0, 1) := dc0 dO_42 (by decide +kernel)
theorem dX11_domain_16 : decode cX11_domain 16 = .ok (.getfield 26, 3) := dcU2 dO_180 (by decide +kernel)
theorem dX11_domain_19 : decode cX11_domain 19 = .ok (.invokevirtual 101, 3) := dcU2 dO_182 (by decide +kernel)
theorem dX11_domain_22 : decode cX11_domain 22 = .ok (.ireturn, 1) := dc0 dO_172 (by decide +kernel)
theorem dX11_policy_0 : decode cX11_policy 0 = .ok (.aload_n 0, 1) := dc0 dO_42 (by decide +kernel)
theorem dX11_policy_1 : decode cX11_policy 1 = .ok (.getfield 42, 3) := dcU2 dO_180 (by decide +kernel)
theorem dX11_policy_4 : decode cX11_policy 4 = .ok (.aload_n 0, 1) := dc0 dO_42 (by decide +kernel)
theorem dX11_policy_5 : decode cX11_policy 5 = .ok (.getfield 9, 3) := dcU2 dO_180 (by decide +kernel)
theorem dX11_policy_8 : decode cX11_policy 8 = .ok (.aload_n 0, 1) := dc0 dO_42 (by decide +kernel)
theorem dX11_policy_9 : decode cX11_policy 9 = .ok (.getfield 76, 3) := dcU2 dO_180 (by decide +kernel)
theorem dX11_policy_12 : decode cX11_policy 12 = .ok (.aload_n 0, 1) := dc0 dO_42 (by decide +kernel)
theorem dX11_policy_13 : decode cX11_policy 13 = .ok (.getfield 35, 3) := dcU2 dO_180 (by decide +kernel)
theorem dX11_policy_16 : decode cX11_policy 16 = .ok (.getfield 205, 3) := dcU2 dO_180 (by decide +kernel)
theorem dX11_policy_19 : decode cX11_policy 19 = .ok (.invokevirtual 208, 3) := dcU2 dO_182 (by decide +kernel)
theorem dX11_policy_22 : decode cX11_policy 22 = .ok (.aload_n 0, 1) := dc0 dO_42 (by decide +kernel)
theorem dX11_policy_23 : decode cX11_policy 23 = .ok (.iconst 0, 1) := dc0 dO_3 (by decide +kernel)
theorem dX11_policy_24 : decode cX11_policy 24 = .ok (.putfield 76, 3) := dcU2 dO_181 (by decide +kernel)
theorem dX11_policy_27 : decode cX11_policy 27 = .ok (.aload_n 0, 1) := dc0 dO_42 (by decide +kernel)
theorem dX11_policy_28 : decode cX11_policy 28 = .ok (.getfield 42, 3) := dcU2 dO_180 (by decide +kernel)
theorem dX11_policy_31 : decode cX11_policy 31 = .ok (.getfield 212, 3) := dcU2 dO_180 (by decide +kernel)
theorem dX11_policy_34 : decode cX11_policy 34 = .ok (.ifCond .eq 14, 3) := dcS2 dO_153 (by decide +kernel)
theorem dX11_policy_37 : decode cX11_policy 37 = .ok (.bipush (-10), 2) := dcS1 dO_16 (by decide +kernel)
theorem dX11_policy_39 : decode cX11_policy 39 = .ok (.aload_n 0, 1) := dc0 dO_42 (by decide +kernel)
theorem dX11_policy_40 : decode cX11_policy 40 = .ok (.getfield 42, 3) := dcU2 dO_180 (by decide +kernel)
theorem dX11_policy_43 : decode cX11_policy 43 = .ok (.getfield 215, 3) := dcU2 dO_180 (by decide +kernel)
theorem dX11_policy_46 : decode cX11_policy 46 = .ok (.isub, 1) := dc0 dO_100 (by decide +kernel)
theorem dX11_policy_47 : decode cX11_policy 47 = .ok (.ireturn, 1) := dc0 dO_172 (by decide +kernel)
theorem dX11_policy_48 : decode cX11_policy 48 = .ok (.aload_n 0, 1) := dc0 dO_42 (by decide +kernel)
theorem dX11_policy_49 : decode cX11_policy 49 = .ok (.getfield 35, 3) := dcU2 dO_180 (by decide +kernel)
theorem dX11_policy_52 : decode cX11_policy 52 = .ok (.getfield 205, 3) := dcU2 dO_180 (by decide +kernel)
theorem dX11_policy_55 : decode cX11_policy 55 = .ok (.bipush 12, 2) := dcS1 dO_16 (by decide +kernel)
theorem dX11_policy_57 : decode cX11_policy 57 = .ok (.if_icmp .lt 6, 3) := dcS2 dO_161 (by decide +kernel)
theorem dX11_policy_60 : decode cX11_policy 60 = .ok (.bipush (-3), 2) := dcS1 dO_16 (by decide +kernel)
theorem dX11_policy_62 : decode cX11_policy 62 = .ok (.ireturn, 1) := dc0 dO_172 (by decide +kernel)
theorem dX11_policy_63 : decode cX11_policy 63 = .ok (.aload_n 0, 1) := dc0 dO_42 (by decide +kernel)
theorem dX11_policy_64 : decode cX11_policy 64 = .ok (.getfield 35, 3) := dcU2 dO_180 (by decide +kernel)
theorem dX11_policy_67 : decode cX11_policy 67 = .ok (.aload_n 0, 1) := dc0 dO_42 (by decide +kernel)
theorem dX11_policy_68 : decode cX11_policy 68 = .ok (.getfield 42, 3) := dcU2 dO_180 (by decide +kernel)
theorem dX11_policy_71 : decode cX11_policy 71 = .ok (.invokevirtual 218, 3) := dcU2 dO_182 (by decide +kernel)
theorem dX11_policy_74 : decode cX11_policy 74 = .ok (.invokevirtual 222, 3) := dcU2 dO_182 (by decide +kernel)
theorem dX11_policy_77 : decode cX11_policy 77 = .ok (.ireturn, 1) := dc0 dO_172 (by decide +kernel)
theorem dX11_tie_0 : decode cX11_tie 0 = .ok (.aload_n 0, 1) := dc0 dO_42 (by decide +kernel)
theorem dX11_tie_1 : decode cX11_tie 1 = .ok (.iload_n 1, 1) := dc0 dO_27 (by decide +kernel)
theorem dX11_tie_2 : decode cX11_tie 2 = .ok (.invokevirtual 105, 3) := dcU2 dO_182 (by decide +kernel)
theorem dX11_tie_5 : decode cX11_tie 5 = .ok (.ifCond .eq 25, 3) := dcS2 dO_153 (by decide +kernel)
theorem dX11_tie_8 : decode cX11_tie 8 = .ok (.aload_n 0, 1) := dc0 dO_42 (by decide +kernel)
theorem dX11_tie_9 : decode cX11_tie 9 = .ok (.iload_n 2, 1) := dc0 dO_28 (by decide +kernel)
theorem dX11_tie_10 : decode cX11_tie 10 = .ok (.invokevirtual 105, 3) := dcU2 dO_182 (by decide +kernel)
theorem dX11_tie_13 : decode cX11_tie 13 = .ok (.ifCond .eq 17, 3) := dcS2 dO_153 (by decide +kernel)
theorem dX11_tie_16 : decode cX11_tie 16 = .ok (.iload_n 1, 1) := dc0 dO_27 (by decide +kernel)
theorem dX11_tie_17 : decode cX11_tie 17 = .ok (.iload_n 2, 1) := dc0 dO_28 (by decide +kernel)
theorem dX11_tie_18 : decode cX11_tie 18 = .ok (.if_icmp .eq 12, 3) := dcS2 dO_159 (by decide +kernel)
theorem dX11_tie_21 : decode cX11_tie 21 = .ok (.iload_n 3, 1) := dc0 dO_29 (by decide +kernel)
theorem dX11_tie_22 : decode cX11_tie 22 = .ok (.ifCond .lt 8, 3) := dcS2 dO_155 (by decide +kernel)
theorem dX11_tie_25 : decode cX11_tie 25 = .ok (.iload_n 3, 1) := dc0 dO_29 (by decide +kernel)
theorem dX11_tie_26 : decode cX11_tie 26 = .ok (.iconst 2, 1) := dc0 dO_5 (by decide +kernel)
theorem dX11_tie_27 : decode cX11_tie 27 = .ok (.if_icmp .le 5, 3) := dcS2 dO_164 (by decide +kernel)
theorem dX11_tie_30 : decode cX11_tie 30 = .ok (.iconst (-1), 1) := dc0 dO_2 (by decide +kernel)
theorem dX11_tie_31 : decode cX11_tie 31 = .ok (.ireturn, 1) := dc0 dO_172 (by decide +kernel)
theorem dX11_tie_32 : decode cX11_tie 32 = .ok (.aload_n 0, 1) := dc0 dO_42 (by decide +kernel)
theorem dX11_tie_33 : decode cX11_tie 33 = .ok (.getfield 26, 3) := dcU2 dO_180 (by decide +kernel)
theorem dX11_tie_36 : decode cX11_tie 36 = .ok (.iload_n 1, 1) := dc0 dO_27 (by decide +kernel)
theorem dX11_tie_37 : decode cX11_tie 37 = .ok (.iload_n 2, 1) := dc0 dO_28 (by decide +kernel)
theorem dX11_tie_38 : decode cX11_tie 38 = .ok (.invokevirtual 109, 3) := dcU2 dO_182 (by decide +kernel)
theorem dX11_tie_41 : decode cX11_tie 41 = .ok (.ifCond .lt 6, 3) := dcS2 dO_155 (by decide +kernel)
theorem dX11_tie_44 : decode cX11_tie 44 = .ok (.bipush (-2), 2) := dcS1 dO_16 (by decide +kernel)
theorem dX11_tie_46 : decode cX11_tie 46 = .ok (.ireturn, 1) := dc0 dO_172 (by decide +kernel)
theorem dX11_tie_47 : decode cX11_tie 47 = .ok (.aload_n 0, 1) := dc0 dO_42 (by decide +kernel)
theorem dX11_tie_48 : decode cX11_tie 48 = .ok (.getfield 26, 3) := dcU2 dO_180 (by decide +kernel)
theorem dX11_tie_51 : decode cX11_tie 51 = .ok (.getfield 112, 3) := dcU2 dO_180 (by decide +kernel)
theorem dX11_tie_54 : decode cX11_tie 54 = .ok (.bipush 20, 2) := dcS1 dO_16 (by decide +kernel)
theorem dX11_tie_56 : decode cX11_tie 56 = .ok (.if_icmp .lt 6, 3) := dcS2 dO_161 (by decide +kernel)
theorem dX11_tie_59 : decode cX11_tie 59 = .ok (.bipush (-3), 2) := dcS1 dO_16 (by decide +kernel)
theorem dX11_tie_61 : decode cX11_tie 61 = .ok (.ireturn, 1) := dc0 dO_172 (by decide +kernel)
theorem dX11_tie_62 : decode cX11_tie 62 = .ok (.aload_n 0, 1) := dc0 dO_42 (by decide +kernel)
theorem dX11_tie_63 : decode cX11_tie 63 = .ok (.getfield 26, 3) := dcU2 dO_180 (by decide +kernel)
theorem dX11_tie_66 : decode cX11_tie 66 = .ok (.iload_n 1, 1) := dc0 dO_27 (by decide +kernel)
theorem dX11_tie_67 : decode cX11_tie 67 = .ok (.iload_n 2, 1) := dc0 dO_28 (by decide +kernel)
theorem dX11_tie_68 : decode cX11_tie 68 = .ok (.iload_n 3, 1) := dc0 dO_29 (by decide +kernel)
theorem dX11_tie_69 : decode cX11_tie 69 = .ok (.invokevirtual 115, 3) := dcU2 dO_182 (by decide +kernel)
theorem dX11_tie_72 : decode cX11_tie 72 = .ok (.ireturn, 1) := dc0 dO_172 (by decide +kernel)
theorem dX1_addPolicy_0 : decode cX1_addPolicy 0 = .ok (.aload_n 0, 1) := dc0 dO_42 (by decide +kernel)
theorem dX1_addPolicy_1 : decode cX1_addPolicy 1 = .ok (.getfield 17, 3) := dcU2 dO_180 (by decide +kernel)
theorem dX1_addPolicy_4 : decode cX1_addPolicy 4 = .ok (.aload_n 0, 1) := dc0 dO_42 (by decide +kernel)
theorem dX1_addPolicy_5 : decode cX1_addPolicy 5 = .ok (.getfield 21, 3) := dcU2 dO_180 (by decide +kernel)
theorem dX1_addPolicy_8 : decode cX1_addPolicy 8 = .ok (.aload_n 1, 1) := dc0 dO_43 (by decide +kernel)
theorem dX1_addPolicy_9 : decode cX1_addPolicy 9 = .ok (.aastore, 1) := dc0 dO_83 (by decide +kernel)
theorem dX1_addPolicy_10 : decode cX1_addPolicy 10 = .ok (.aload_n 0, 1) := dc0 dO_42 (by decide +kernel)
theorem dX1_addPolicy_11 : decode cX1_addPolicy 11 = .ok (.dup, 1) := dc0 dO_89 (by decide +kernel)
theorem dX1_addPolicy_12 : decode cX1_addPolicy 12 = .ok (.getfield 21, 3) := dcU2 dO_180 (by decide +kernel)
theorem dX1_addPolicy_15 : decode cX1_addPolicy 15 = .ok (.iconst 1, 1) := dc0 dO_4 (by decide +kernel)
theorem dX1_addPolicy_16 : decode cX1_addPolicy 16 = .ok (.iadd, 1) := dc0 dO_96 (by decide +kernel)
theorem dX1_addPolicy_17 : decode cX1_addPolicy 17 = .ok (.putfield 21, 3) := dcU2 dO_181 (by decide +kernel)
theorem dX1_addPolicy_20 : decode cX1_addPolicy 20 = .ok (.aload_n 0, 1) := dc0 dO_42 (by decide +kernel)
theorem dX1_addPolicy_21 : decode cX1_addPolicy 21 = .ok (.getfield 21, 3) := dcU2 dO_180 (by decide +kernel)
theorem dX1_addPolicy_24 : decode cX1_addPolicy 24 = .ok (.iconst 1, 1) := dc0 dO_4 (by decide +kernel)
theorem dX1_addPolicy_25 : decode cX1_addPolicy 25 = .ok (.isub, 1) := dc0 dO_100 (by decide +kernel)
theorem dX1_addPolicy_26 : decode cX1_addPolicy 26 = .ok (.ireturn, 1) := dc0 dO_172 (by decide +kernel)
theorem dX5_init_0 : decode cX5_init 0 = .ok (.aload_n 0, 1) := dc0 dO_42 (by decide +kernel)
theorem dX5_init_1 : decode cX5_init 1 = .ok (.invokespecial 1, 3) := dcU2 dO_183 (by decide +kernel)
theorem dX5_init_4 : decode cX5_init 4 = .ok (.aload_n 0, 1) := dc0 dO_42 (by decide +kernel)
theorem dX5_init_5 : decode cX5_init 5 = .ok (.iload_n 1, 1) := dc0 dO_27 (by decide +kernel)
theorem dX5_init_6 : decode cX5_init 6 = .ok (.putfield 7, 3) := dcU2 dO_181 (by decide +kernel)
theorem dX5_init_9 : decode cX5_init 9 = .ok (.aload_n 0, 1) := dc0 dO_42 (by decide +kernel)
theorem dX5_init_10 : decode cX5_init 10 = .ok (.aload_n 2, 1) := dc0 dO_44 (by decide +kernel)
theorem dX5_init_11 : decode cX5_init 11 = .ok (.putfield 13, 3) := dcU2 dO_181 (by decide +kernel)
theorem dX5_init_14 : decode cX5_init 14 = .ok (.aload_n 0, 1) := dc0 dO_42 (by decide +kernel)
theorem dX5_init_15 : decode cX5_init 15 = .ok (.aload_n 3, 1) := dc0 dO_45 (by decide +kernel)
theorem dX5_init_16 : decode cX5_init 16 = .ok (.putfield 17, 3) := dcU2 dO_181 (by decide +kernel)
theorem dX5_init_19 : decode cX5_init 19 = .ok (.aload_n 0, 1) := dc0 dO_42 (by decide +kernel)
theorem dX5_init_20 : decode cX5_init 20 = .ok (.aload 4, 2) := dcU1 dO_25 (by decide +kernel)
theorem dX5_init_22 : decode cX5_init 22 = .ok (.putfield 20, 3) := dcU2 dO_181 (by decide +kernel)
theorem dX5_init_25 : decode cX5_init 25 = .ok (.aload_n 0, 1) := dc0 dO_42 (by decide +kernel)
theorem dX5_init_26 : decode cX5_init 26 = .ok (.aload 5, 2) := dcU1 dO_25 (by decide +kernel)
theorem dX5_init_28 : decode cX5_init 28 = .ok (.putfield 24, 3) := dcU2 dO_181 (by decide +kernel)
theorem dX5_init_31 : decode cX5_init 31 = .ok (.aload_n 0, 1) := dc0 dO_42 (by decide +kernel)
theorem dX5_init_32 : decode cX5_init 32 = .ok (.aload 6, 2) := dcU1 dO_25 (by decide +kernel)
theorem dX5_init_34 : decode cX5_init 34 = .ok (.putfield 27, 3) := dcU2 dO_181 (by decide +kernel)
theorem dX5_init_37 : decode cX5_init 37 = .ok (.return_, 1) := dc0 dO_177 (by decide +kernel)
theorem dX6_result_0 : decode cX6_result 0 = .ok (.new 69, 3) := dcU2 dO_187 (by decide +kernel)
theorem dX6_result_3 : decode cX6_result 3 = .ok (.dup, 1) := dc0 dO_89 (by decide +kernel)
theorem dX6_result_4 : decode cX6_result 4 = .ok (.aload_n 0, 1) := dc0 dO_42 (by decide +kernel)
theorem dX6_result_5 : decode cX6_result 5 = .ok (.getfield 44, 3) := dcU2 dO_180 (by decide +kernel)
theorem dX6_result_8 : decode cX6_result 8 = .ok (.aload_n 0, 1) := dc0 dO_42 (by decide +kernel)
theorem dX6_result_9 : decode cX6_result 9 = .ok (.getfield 21, 3) := dcU2 dO_180 (by decide +kernel)
theorem dX6_result_12 : decode cX6_result 12 = .ok (.aload_n 0, 1) := dc0 dO_42 (by decide +kernel)
theorem dX6_result_13 : decode cX6_result 13 = .ok (.getfield 47, 3) := dcU2 dO_180 (by decide +kernel)
theorem dX6_result_16 : decode cX6_result 16 = .ok (.invokestatic 71, 3) := dcU2 dO_184 (by decide +kernel)
theorem dX6_result_19 : decode cX6_result 19 = .ok (.aload_n 0, 1) := dc0 dO_42 (by decide +kernel)
theorem dX6_result_20 : decode cX6_result 20 = .ok (.getfield 24, 3) := dcU2 dO_180 (by decide +kernel)
theorem dX6_result_23 : decode cX6_result 23 = .ok (.aload_n 0, 1) := dc0 dO_42 (by decide +kernel)
theorem dX6_result_24 : decode cX6_result 24 = .ok (.getfield 50, 3) := dcU2 dO_180 (by decide +kernel)
theorem dX6_result_27 : decode cX6_result 27 = .ok (.invokestatic 71, 3) := dcU2 dO_184 (by decide +kernel)
theorem dX6_result_30 : decode cX6_result 30 = .ok (.aload_n 0, 1) := dc0 dO_42 (by decide +kernel)
theorem dX6_result_31 : decode cX6_result 31 = .ok (.getfield 27, 3) := dcU2 dO_180 (by decide +kernel)
theorem dX6_result_34 : decode cX6_result 34 = .ok (.aload_n 0, 1) := dc0 dO_42 (by decide +kernel)
theorem dX6_result_35 : decode cX6_result 35 = .ok (.getfield 50, 3) := dcU2 dO_180 (by decide +kernel)
theorem dX6_result_38 : decode cX6_result 38 = .ok (.invokestatic 77, 3) := dcU2 dO_184 (by decide +kernel)
theorem dX6_result_41 : decode cX6_result 41 = .ok (.aload_n 0, 1) := dc0 dO_42 (by decide +kernel)
theorem dX6_result_42 : decode cX6_result 42 = .ok (.getfield 31, 3) := dcU2 dO_180 (by decide +kernel)
theorem dX6_result_45 : decode cX6_result 45 = .ok (.aload_n 0, 1) := dc0 dO_42 (by decide +kernel)
theorem dX6_result_46 : decode cX6_result 46 = .ok (.getfield 53, 3) := dcU2 dO_180 (by decide +kernel)
theorem dX6_result_49 : decode cX6_result 49 = .ok (.invokestatic 77, 3) := dcU2 dO_184 (by decide +kernel)
theorem dX6_result_52 : decode cX6_result 52 = .ok (.aload_n 0, 1) := dc0 dO_42 (by decide +kernel)
theorem dX6_result_53 : decode cX6_result 53 = .ok (.getfield 34, 3) := dcU2 dO_180 (by decide +kernel)
theorem dX6_result_56 : decode cX6_result 56 = .ok (.aload_n 0, 1) := dc0 dO_42 (by decide +kernel)
theorem dX6_result_57 : decode cX6_result 57 = .ok (.getfield 53, 3) := dcU2 dO_180 (by decide +kernel)
theorem dX6_result_60 : decode cX6_result 60 = .ok (.invokestatic 77, 3) := dcU2 dO_184 (by decide +kernel)
theorem dX6_result_63 : decode cX6_result 63 = .ok (.invokespecial 80, 3) := dcU2 dO_183 (by decide +kernel)
theorem dX6_result_66 : decode cX6_result 66 = .ok (.areturn, 1) := dc0 dO_176 (by decide +kernel)
end
section
/-! A counter goes up by one: a row gets its next entry. -/
def wCt (w : mW) (k : Nat) : mW := (w.1, w.2.1, w.2.2.1, fun j => if j = k then w.2.2.2 j + 1 else w.2.2.2 j)
theorem wCt.at {w : mW} {k : Nat} : (wCt w k).2.2.2 k = w.2.2.2 k + 1 := if_pos rfl
theorem wCt.ne {w : mW} {k j : Nat} (h : j ≠ k) : (wCt w k).2.2.2 j = w.2.2.2 j := if_neg h
theorem wCt.le {w : mW} {k j : Nat} : w.2.2.2 j ≤ (wCt w k).2.2.2 j := by
  by_cases h : j = k
  · subst h; rw [wCt.at]; omega
  · rw [wCt.ne h]; exact Int.le_refl _
theorem tyP.ct {w : mW} {k a i : Nat} {d : Nat × Int × Int} {z : Int} (h8 : d.1 = 8 → d.2.1.toNat ≠ k) (h9 : d.1 = 9 → d.2.1.toNat ≠ k) (t : tyP w a i d z) : tyP (wCt w k) a i d z := by
  obtain ⟨q, x, y⟩ := d
  have le : ∀ j, w.2.2.2 j ≤ (wCt w k).2.2.2 j := fun j => wCt.le
  match q, h8, h9, t with
  | 0, _, _, t => exact t
  | 1, _, _, t => exact t
  | 2, _, _, t => exact t
  | 3, _, _, t => exact t
  | 4, _, _, t => exact t
  | 5, _, _, t => exact t
  | 6, _, _, t => exact t
  | 7, _, _, t => exact t
  | 8, h8, _, t =>
    have e : (wCt w k).2.2.2 x.toNat = w.2.2.2 x.toNat := wCt.ne (h8 rfl)
    exact ⟨fun g => t.1 (by rw [← e]; exact g), fun g => t.2 (by rw [← e]; exact g)⟩
  | 9, _, h9, t => exact ⟨by rw [wCt.ne (h9 rfl)]; exact t.1, t.2⟩
  | 10, _, _, t => exact ⟨t.1, t.2.1, t.2.2.imp id (fun g => Int.lt_of_lt_of_le g (le _))⟩
  | 11, _, _, t => exact ⟨t.1, t.2.1, Int.lt_of_lt_of_le t.2.2 (le _)⟩
  | 12, _, _, t => exact ⟨t.1, t.2.1, t.2.2.imp id (fun g => Int.lt_of_lt_of_le g (le _))⟩
  | 13, _, _, t => exact ⟨t.1, t.2.1, t.2.2.imp id (fun g => by have := le x.toNat; show z < 40 * (wCt w k).2.2.2 x.toNat; have g : z < 40 * w.2.2.2 x.toNat := g; omega)⟩
  | _ + 14, _, _, t => exact ⟨t.1, fun g => Int.lt_of_lt_of_le (t.2 g) (le _)⟩
theorem mTy_all {p : Nat → Nat → Nat × Int × Int → Bool} (h : ((List.range 240).all fun s => (List.range (mTyL.getD s []).length).all fun i => p s i ((mTyL.getD s []).getD i (0, 0, 0))) = true) (s i : Nat) : mTy s i = (0, 0, 0) ∨ p s (if mArr s then 0 else i) (mTy s i) = true := by
  unfold mTy
  by_cases hs : s < 240
  · have h1 := List.all_eq_true.mp h s (List.mem_range.mpr hs)
    by_cases hi : (if mArr s then 0 else i) < (mTyL.getD s []).length
    · exact Or.inr (List.all_eq_true.mp h1 _ (List.mem_range.mpr hi))
    · left
      rw [List.getD_eq_getElem?_getD (l := mTyL.getD s []), List.getElem?_eq_none (by omega)]; rfl
  · left
    have e : mTyL.getD s [] = [] := by
      rw [List.getD_eq_getElem?_getD, List.getElem?_eq_none (by have : mTyL.length = 240 := by decide +kernel
                                                                omega)]; rfl
    rw [e]; rfl
/-- which entries hang on which counter -/
def ctT (k rs os f : Nat) (s i : Nat) (d : Nat × Int × Int) : Bool := (!(Nat.beq d.1 8 && Nat.beq d.2.1.toNat k) || Nat.beq s rs) && (!(Nat.beq d.1 9 && Nat.beq d.2.1.toNat k) || (Nat.beq s os && Nat.beq i f))
def ctOK (k rs os f : Nat) : Bool := ((List.range 240).all fun s => (List.range (mTyL.getD s []).length).all fun i => ctT k rs os f s i ((mTyL.getD s []).getD i (0, 0, 0))) && ((List.range 192).all fun a => !(Nat.beq (mSh0 a) rs) || Nat.beq a rs) && ((List.range 192).all fun a => !(Nat.beq (mSh0 a) os) || Nat.beq a os) && Nat.ble rs 100 && Nat.ble os 100 && mArr rs && !(mArr os)
theorem mT.ct {w : mW} {μ μ2 : mM} {k rs os f es b : Nat} {n m : Int} (hok : ctOK k rs os f = true) (hrs : mSh0 rs = rs) (hos : mSh0 os = os) (hr : ∀ i, mTy rs i = (8, (k : Int), (es : Int))) (ho : mTy os f = (9, (k : Int), m)) (hw : mWF w) (hT : mT w μ) (hn : w.2.2.2 k = n) (hn0 : 0 ≤ n ∧ n + 1 ≤ m) (hb : mAt w b es)
    (q1 : μ2 rs n.toNat = (b : Int)) (q2 : μ2 os f = n + 1) (q3 : ∀ a i, (a ≠ rs ∨ i ≠ n.toNat) → (a ≠ os ∨ i ≠ f) → μ2 a i = μ a i) : mT (wCt w k) μ2 := by
  simp only [ctOK, Bool.and_eq_true] at hok
  obtain ⟨⟨⟨⟨⟨⟨k1, k2⟩, k3⟩, k4⟩, k5⟩, k6⟩, k7⟩ := hok
  intro a s hA i
  have hA : mAt w a s := hA
  have only : ∀ x, (List.range 192).all (fun a => !(Nat.beq (mSh0 a) x) || Nat.beq a x) = true → Nat.ble x 100 = true → s = x → a = x := by
    intro x hx h1 e
    have e : w.2.1 a = x := hA.1.trans e
    by_cases h : a < 192
    · have g := List.all_eq_true.mp hx a (List.mem_range.mpr h)
      rw [hw.1 a h] at e
      rw [e, Nat.beq_refl] at g
      exact Nat.eq_of_beq_eq_true g
    · have g := hw.2.2.2.2 a (Nat.not_lt.mp h) hA.2.1
      have := Nat.le_of_ble_eq_true h1
      omega
  have rs192 : rs < 192 := by have := Nat.le_of_ble_eq_true k4; omega
  have os192 : os < 192 := by have := Nat.le_of_ble_eq_true k5; omega
  by_cases c1 : a = rs ∧ i = n.toNat
  · obtain ⟨rfl, rfl⟩ := c1
    have e : s = a := hA.1.symm.trans ((hw.1 a rs192).trans hrs)
    subst e
    rw [q1, hr]
    refine ⟨fun _ => ⟨Int.natCast_nonneg b, ?_⟩, fun g => absurd ?_ g⟩
    · show mAt w ((b : Int)).toNat ((es : Int)).toNat
      rw [Int.toNat_natCast, Int.toNat_natCast]; exact hb
    · show ((n.toNat : Nat) : Int) < (wCt w k).2.2.2 ((k : Int)).toNat
      rw [Int.toNat_natCast, wCt.at, hn]; omega
  · by_cases c2 : a = os ∧ i = f
    · obtain ⟨rfl, rfl⟩ := c2
      have e : s = a := hA.1.symm.trans ((hw.1 a os192).trans hos)
      subst e
      rw [q2, ho]
      show n + 1 = (wCt w k).2.2.2 ((k : Int)).toNat ∧ 0 ≤ n + 1 ∧ n + 1 ≤ m
      rw [Int.toNat_natCast, wCt.at, hn]; omega
    · have d1 : a ≠ rs ∨ i ≠ n.toNat := Classical.or_iff_not_imp_left.mpr fun h1 h2 => c1 ⟨Classical.not_not.mp h1, h2⟩
      have d2 : a ≠ os ∨ i ≠ f := Classical.or_iff_not_imp_left.mpr fun h1 h2 => c2 ⟨Classical.not_not.mp h1, h2⟩
      rw [q3 a i d1 d2]
      have t := hT a s hA i
      rcases mTy_all k1 s i with g | g
      · rw [g] at t ⊢; exact t
      · simp only [ctT, Bool.and_eq_true, Bool.or_eq_true, Bool.not_eq_true'] at g
        obtain ⟨g8, g9⟩ := g
        by_cases h8 : (mTy s i).1 = 8 ∧ (mTy s i).2.1.toNat = k
        · have es2 : s = rs := by
            rcases g8 with g8 | g8
            · rw [h8.1, h8.2, Nat.beq_refl, Nat.beq_refl] at g8; cases g8
            · exact Nat.eq_of_beq_eq_true g8
          have ea := only rs k2 k4 es2
          subst es2
          subst ea
          have hi : i ≠ n.toNat := d1.resolve_left (fun h => h rfl)
          rw [hr] at t ⊢
          have t : (((i : Nat) : Int) < w.2.2.2 ((k : Int)).toNat → 0 ≤ μ a i ∧ mAt w (μ a i).toNat ((es : Int)).toNat) ∧ (¬ ((i : Nat) : Int) < w.2.2.2 ((k : Int)).toNat → μ a i = -1) := t
          show (((i : Nat) : Int) < (wCt w k).2.2.2 ((k : Int)).toNat → 0 ≤ μ a i ∧ mAt w (μ a i).toNat ((es : Int)).toNat) ∧ (¬ ((i : Nat) : Int) < (wCt w k).2.2.2 ((k : Int)).toNat → μ a i = -1)
          rw [Int.toNat_natCast, hn] at t
          rw [Int.toNat_natCast, wCt.at, hn]
          exact ⟨fun h => t.1 (by omega), fun h => t.2 (by omega)⟩
        · by_cases h9 : (mTy s i).1 = 9 ∧ (mTy s i).2.1.toNat = k
          · exfalso
            have e9 : s = os ∧ (if mArr s then 0 else i) = f := by
              rcases g9 with g9 | g9
              · rw [h9.1, h9.2, Nat.beq_refl, Nat.beq_refl] at g9; cases g9
              · exact ⟨Nat.eq_of_beq_eq_true g9.1, Nat.eq_of_beq_eq_true g9.2⟩
            have ea := only os k3 k5 e9.1
            have hm : mArr s = false := by rw [e9.1]; simpa using k7
            rw [hm] at e9
            exact d2.elim (fun h => h ea) (fun h => h e9.2)
          · exact tyP.ct (fun h e => h8 ⟨h, e⟩) (fun h e => h9 ⟨h, e⟩) t
/-! new objects of the class, with all that they bring -/
theorem sEq.sh {k : Nat} {x y : sE} (h : sEq x y) : sEq (shE k x) (shE k y) := by
  rcases x with ⟨kd, n, f⟩ | a <;> rcases y with ⟨kd', n', f'⟩ | b
  · obtain ⟨rfl, rfl, h⟩ := h
    exact ⟨rfl, rfl, fun i hi => congrArg (shv k) (h i hi)⟩
  · exact h.elim
  · exact h.elim
  · obtain rfl : a = b := h
    exact (rfl : _ = _)
theorem BX0_b : bBig BX0 = true := by decide +kernel
theorem BX9_b : bBig BX9 = true := by decide +kernel
/-- how much a block brings -/
def bZ (B : mB) : Nat := sumN (fun i => szS (bS B i) (mLen (bS B i))) B.length
theorem szW.blk {w : mW} {B : mB} (hb : bBig B = true) : szW (wBlk w B) = szW w + bZ B := by
  rw [szW.ext (wBlk.ext hb)]
  have e : (wBlk w B).1 - w.1 = B.length := by show w.1 + B.length - w.1 = _; omega
  rw [e]
  unfold bZ
  congr 1
  refine sumN_eq fun i hi => ?_
  have h := wBlk.at (w := w) hi
  have hl : (wBlk w B).2.2.1 (w.1 + i) = mLen (bS B i) := by
    show (if w.1 + i < w.1 then _ else _) = _
    rw [if_neg (by omega), show w.1 + i - w.1 = i by omega]
  rw [h.1, hl]
theorem BX0_z : bZ BX0 = 442 := by decide +kernel
theorem BX9_z : bZ BX9 = 1653 := by decide +kernel
theorem mk_set {w : mW} {μ : mM} {a s ci k : Nat} {ks : List Nat} {z : Int} {L : List Value} (hA : mAt w a s) (hs : mTab s = .inl (ci, ks)) (e : (mk w μ).2 a = .inr (ci, L)) : (mk w (mUp μ a k z)).2 a = .inr (ci, L.set k (mv (ks.getD k 0) z)) := by
  rw [mk_obj hA hs] at e
  have e : (List.range ks.length).map (fun k => mv (ks.getD k 0) (μ a k)) = L := by
    injection e with e; injection e
  rw [mk_obj hA hs, ← e, mRgS]
  congr 2
  apply List.map_congr_left
  intro i _
  simp only [mUp, true_and]
  split
  next e => subst e; rfl
  next => rfl
section MV34
variable {l : Launch} {D : va_G} {c : Nat → ClassId} {H0 : Heap} {sa : Nat × Nat × (Nat → Int32)} {M : sM} {R : Room} {Z : sZT} {pc : Nat} {lv : List (Nat × Value)} {st : List Value} {w : mW} {μ : mM} {ce sl : Nat}
theorem mr_newDom {i1 i2 : Nat} (hd : decode M.2.1 pc = .ok (.new i1, 3)) (hd2 : decode M.2.1 (pc + 3) = .ok (.dup, 1)) (hd3 : decode M.2.1 (pc + 4) = .ok (.invokespecial i2, 3)) (hcl : Cond.classLink M.1.cls i1 RX0 ∈ lw_ok) (hlk : Cond.methodLink M.1.cls i2 yX0_init ∈ lw_ok) (hw : mWF w) (hT : mT w μ) (hR : 6 ≤ R.frames ∧ 321 ≤ R.locals) (hce : ce + 35 ≤ R.cells ∧ sl + 442 ≤ R.slots) (hr8 : (st.map fun v => v.category).sum ≤ 7)
    (kk : ∀ w1 μ1, mWF w1 → mT w1 μ1 → mX [] w μ w1 μ1 → mAt w1 w.1 210 → w1.2.2.2 = w.2.2.2 → w1.1 = w.1 + 35 → szW w1 = szW w + 442 → sV (gG l D c H0 sa) M R Z (pc + 7) lv (.ref w.1 :: st) (mk w1 μ1) (ce + 35) (sl + 442)) : sV (gG l D c H0 sa) M R Z pc lv st (mk w μ) ce sl := by
  refine sv_new (ci := 0) (T := (RX0, TX0, 6)) (fs := zX0) hd (gCX0 l D c H0 sa) hcl wN_X0 wI_X0 zX0_ok (by omega) (by show sl + 6 ≤ R.slots; omega) ?_
  refine sv_dup (pc := pc + 3) hd2 rfl ?_
  have hct := sC.shift (l := l) (D := D) (c := c) (H0 := H0) (sa := sa) (k := w.1) (n2 := 1) (av2 := [.ref 0]) (f := sUp (mk w μ).2 w.1 (.inr (0, zX0))) (f2 := fun _ => .inr (0, zX0)) (fun j hj => by
    have e : j = 0 := by omega
    subst e
    exact (sUp_at _ _ _).trans rfl) (fun H1 => ctorX0 l D c H1 sa)
  refine sv_callI (pc := pc + 3 + 1) (M' := mX0_init) (d' := 5) (C' := 34) (S' := 436) (av := []) (st := .ref w.1 :: st) hct (gOk l D c H0 sa) hd3 (tX0_init l D c H0 sa) rfl rfl wV_X0_init hlk ⟨by omega, by show 60 * 5 + 2 + 19 ≤ R.locals; omega⟩ ⟨by omega, by show sl + 6 + 436 ≤ R.slots; omega⟩ rfl (Nat.add_le_add_left hr8 1) ?_
  rintro r hp' ⟨r2, n3, f3, ⟨rfl, e3, h3⟩, rfl, rfl⟩
  have e3 : n3 = 35 := e3
  subst e3
  refine sv_heapE (hp' := mk (wBlk w BX0) (mBlk w μ BX0)) rfl (mkBlk (fun j hj => sUp_ne _ _ (Nat.ne_of_lt hj)) (fun j hj => sEq.sh (by rw [show f3 j = tX0N j from h3 j hj]; exact BX0_eq j hj))) ?_
  exact kk _ _ (hw.blk BX0_b) (mT.blk (fun h => by cases h) BX0_b BX0_ok hT) (mBlk.x BX0_b) (wBlk.at (j := 0) (by decide)) rfl rfl (by rw [szW.blk BX0_b, BX0_z])
theorem mr_newTie {i1 i2 : Nat} {x y z : Int} {j1 j2 j3 : Fin 4} (hd : decode M.2.1 pc = .ok (.new i1, 3)) (hd2 : decode M.2.1 (pc + 3) = .ok (.dup, 1)) (hd4 : decode M.2.1 (pc + 4) = .ok (.iload_n j1, 1)) (hd5 : decode M.2.1 (pc + 5) = .ok (.iload_n j2, 1)) (hd6 : decode M.2.1 (pc + 6) = .ok (.iload_n j3, 1)) (hd3 : decode M.2.1 (pc + 7) = .ok (.invokespecial i2, 3)) (hg1 : sGet j1 lv = some (iv x)) (hg2 : sGet j2 lv = some (iv y)) (hg3 : sGet j3 lv = some (iv z)) (hcl : Cond.classLink M.1.cls i1 RX9 ∈ lw_ok) (hlk : Cond.methodLink M.1.cls i2 yX9_init ∈ lw_ok) (hw : mWF w) (hT : mT w μ) (hx : 0 ≤ x ∧ x ≤ 9 ∧ x < w.2.2.2 0) (hy : 0 ≤ y ∧ y ≤ 9 ∧ y < w.2.2.2 0) (hz : 0 ≤ z ∧ z ≤ 2) (hR : 6 ≤ R.frames ∧ 324 ≤ R.locals) (hce : ce + 124 ≤ R.cells ∧ sl + 1653 ≤ R.slots) (hr8 : (st.map fun v => v.category).sum ≤ 7)
    (kk : ∀ w1 μ1, mWF w1 → mT w1 μ1 → mX [] w μ w1 μ1 → mAt w1 w.1 220 → w1.2.2.2 = w.2.2.2 → w1.1 = w.1 + 124 → szW w1 = szW w + 1653 → sV (gG l D c H0 sa) M R Z (pc + 10) lv (.ref w.1 :: st) (mk w1 μ1) (ce + 124) (sl + 1653)) : sV (gG l D c H0 sa) M R Z pc lv st (mk w μ) ce sl := by
  refine sv_new (ci := 9) (T := (RX9, TX9, 9)) (fs := zX9) hd (gCX9 l D c H0 sa) hcl wN_X9 wI_X9 zX9_ok (by omega) (by show sl + 9 ≤ R.slots; omega) ?_
  refine sv_dup (pc := pc + 3) hd2 rfl ?_
  refine sv_iload_n (pc := pc + 3 + 1) hd4 rfl hg1 ?_
  refine sv_iload_n (pc := pc + 3 + 1 + 1) hd5 rfl hg2 ?_
  refine sv_iload_n (pc := pc + 3 + 1 + 1 + 1) hd6 rfl hg3 ?_
  have hct := sC.shift (l := l) (D := D) (c := c) (H0 := H0) (sa := sa) (k := w.1) (n2 := 1) (av2 := [.ref 0, iv x, iv y, iv z]) (f := sUp (mk w μ).2 w.1 (.inr (9, zX9))) (f2 := fun _ => .inr (9, zX9)) (fun j hj => by
    have e : j = 0 := by omega
    subst e
    exact (sUp_at _ _ _).trans rfl) (fun H1 => ctorX9 l D c H1 sa (Int32.ofInt x) (Int32.ofInt y) (Int32.ofInt z))
  refine sv_callI (pc := pc + 3 + 1 + 1 + 1 + 1) (M' := mX9_init) (d' := 5) (C' := 123) (S' := 1644) (av := [iv x, iv y, iv z]) (st := .ref w.1 :: st) hct (gOk l D c H0 sa) hd3 (tX9_init l D c H0 sa) rfl rfl wV_X9_init hlk ⟨by omega, by show 60 * 5 + 5 + 19 ≤ R.locals; omega⟩ ⟨by omega, by show sl + 9 + 1644 ≤ R.slots; omega⟩ rfl (Nat.add_le_add_left hr8 1) ?_
  rintro r hp' ⟨r2, n3, f3, ⟨rfl, e3, h3⟩, rfl, rfl⟩
  have e3 : n3 = 124 := e3
  subst e3
  have h0 : 0 < w.2.2.2 0 := by omega
  have hT1 := mT.blk (fun _ => h0) BX9_b BX9_ok hT
  have hA : mAt (wBlk w BX9) w.1 220 := wBlk.at (j := 0) (by rw [BX9_n]; omega)
  have t1 : mT (wBlk w BX9) (mUp (mBlk w μ BX9) w.1 0 x) := mT.up (k := 0) hT1 hA hx mUp_ok
  have t2 : mT (wBlk w BX9) (mUp (mUp (mBlk w μ BX9) w.1 0 x) w.1 1 y) := mT.up (k := 1) t1 hA hy mUp_ok
  have t3 : mT (wBlk w BX9) (mUp (mUp (mUp (mBlk w μ BX9) w.1 0 x) w.1 1 y) w.1 2 z) := mT.up (k := 2) t2 hA hz mUp_ok
  have hb := mkBlk (w := w) (μ := μ) (B := BX9) (f := sUp (mk w μ).2 w.1 (.inr (9, zX9))) (f3 := tX9N 0 0 0) (fun j hj => sUp_ne _ _ (Nat.ne_of_lt hj)) (fun j hj => sEq.sh (BX9_eq j hj))
  have e0 : (mk (wBlk w BX9) (mBlk w μ BX9)).2 w.1 = .inr (9, [.int 0, .int 0, .int 0, .ref (w.1 + 1), .ref (w.1 + 2), .ref (w.1 + 3), .int 1, .int 1, .int 0]) := by
    have g := hb w.1 (by show w.1 < w.1 + 124; omega)
    have e1 : shH w.1 (sUp (mk w μ).2 w.1 (.inr (9, zX9))) (tX9N 0 0 0) w.1 = .inr (9, [.int 0, .int 0, .int 0, .ref (w.1 + 1), .ref (w.1 + 2), .ref (w.1 + 3), .int 1, .int 1, .int 0]) := by
      show (if w.1 < w.1 then _ else _) = _
      rw [if_neg (Nat.lt_irrefl _), Nat.sub_self]; rfl
    rw [e1] at g
    revert g
    rcases (mk (wBlk w BX9) (mBlk w μ BX9)).2 w.1 with q | q
    · intro g; exact g.elim
    · intro g
      have g : _ = q := g
      rw [← g]
  refine sv_heapE (hp' := mk (wBlk w BX9) (mUp (mUp (mUp (mBlk w μ BX9) w.1 0 x) w.1 1 y) w.1 2 z)) rfl (fun j hj => ?_) (kk _ _ (hw.blk BX9_b) t3 ?_ hA rfl rfl (by rw [szW.blk BX9_b, BX9_z]))
  · by_cases h : j = w.1
    · subst h
      have e1 : shH w.1 (sUp (mk w μ).2 w.1 (.inr (9, zX9))) f3 w.1 = .inr (9, [iv x, iv y, iv z, .ref (w.1 + 1), .ref (w.1 + 2), .ref (w.1 + 3), .int 1, .int 1, .int 0]) := by
        show (if w.1 < w.1 then _ else _) = _
        rw [if_neg (Nat.lt_irrefl _), Nat.sub_self, show f3 0 = _ from h3 0 (by show 0 < 124; omega)]; rfl
      show sEq (shH w.1 _ f3 w.1) _
      rw [e1, mk_set hA rfl (mk_set hA rfl (mk_set hA rfl e0))]
      exact (rfl : _ = _)
    · have g := hb j hj
      rw [mk_other h, mk_other h, mk_other h]
      have e : shH w.1 (sUp (mk w μ).2 w.1 (.inr (9, zX9))) f3 j = shH w.1 (sUp (mk w μ).2 w.1 (.inr (9, zX9))) (tX9N 0 0 0) j := by
        by_cases hj2 : j < w.1
        · exact (if_pos hj2).trans (if_pos hj2).symm
        · refine (if_neg hj2).trans (Eq.trans ?_ (if_neg hj2).symm)
          have hl : j - w.1 < 124 := by have : j < w.1 + 124 := hj; omega
          rw [show f3 (j - w.1) = _ from h3 (j - w.1) hl]
          obtain ⟨m, hm⟩ : ∃ m, j - w.1 = m + 1 := ⟨j - w.1 - 1, by omega⟩
          rw [hm] at hl ⊢
          exact congrArg (shE w.1) (tX9N_s _ _ _ m hl)
      show sEq (shH w.1 _ f3 j) _
      rw [e]; exact g
  · refine ⟨wBlk.ext BX9_b, fun a i ha _ => ?_⟩
    have ne : a ≠ w.1 := Nat.ne_of_lt ha
    show mUp _ w.1 2 z a i = μ a i
    simp only [mUp, ne, false_and, if_false]
    exact if_pos ha
end MV34
end
section
/-! The world's next domain, its next tie. -/
theorem ctOK_0 : ctOK 0 10 6 15 = true := by decide +kernel
theorem ctOK_1 : ctOK 1 11 6 16 = true := by decide +kernel
theorem ctOK_2 : ctOK 2 22 21 8 = true := by decide +kernel
theorem mWF.ct {w : mW} {k : Nat} (h : mWF w) : mWF (wCt w k) := h
section MV35
variable {l : Launch} {D : va_G} {c : Nat → ClassId} {H0 : Heap} {sa : Nat × Nat × (Nat → Int32)} {M : sM} {R : Room} {Z : sZT} {pc : Nat} {lv : List (Nat × Value)} {st : List Value} {w : mW} {μ : mM} {ce sl : Nat}
theorem mr_aast {a s kd ci b t : Nat} {ks : List Nat} {T : vw_C} {ty : Nat → FieldType} {cA : ClassId} {e : Int} (hd : decode M.2.1 pc = .ok (.aastore, 1)) (hC : sCl (gG l D c H0 sa) ci T ty) (ht : (gG l D c H0 sa).2.2.1[kd]? = some (cA, .object T.1)) (hA : mAt w a s) (hs : mTab s = .inr (kd, 2)) (hi : 0 ≤ e ∧ e < (w.2.2.1 a : Int)) (hn : w.2.2.1 a ≤ 2147483647) (hB : mAt w b t) (hbt : mTab t = .inl (ci, ks))
    (kt : ∀ μ1, mU μ a e.toNat (b : Int) μ1 → sV (gG l D c H0 sa) M R Z (pc + 1) lv st (mk w μ1) ce sl) : sV (gG l D c H0 sa) M R Z pc lv (.ref b :: iv e :: .ref a :: st) (mk w μ) ce sl :=
  sv_aastore hd hC ht hA.2.1 (mk_arr hA hs) (iv_in hi hn) hB.2.1 (mk_obj hB hbt) (mr_astH hA hs hi hn (rf_nat b).symm kt)
end MV35
section MV35b
variable {l : Launch} {D : va_G} {c : Nat → ClassId} {H0 : Heap} {sa : Nat × Nat × (Nat → Int32)} {w : mW} {μ : mM} {d : Nat}
end MV35b
end
section
/-! The class's domain and tie. -/
section MV36
variable {l : Launch} {D : va_G} {c : Nat → ClassId} {H0 : Heap} {sa : Nat × Nat × (Nat → Int32)} {w : mW} {μ : mM}
theorem mX.le {l l' : List Nat} {w w1 : mW} {μ μ1 : mM} (h : mX l w μ w1 μ1) (hs : (l.all fun x => l'.elem x) = true) : mX l' w μ w1 μ1 := by
  refine ⟨h.1, fun a i ha hl => h.2 a i ha ?_⟩
  cases hq : l.elem (mRg w a i) with
  | false => rfl
  | true =>
    have := (List.all_eq_true.mp hs) _ (List.elem_iff.mp hq)
    rw [hl] at this; cases this
end MV36
end
section
/-! An array's clone; a row copied into one as long or shorter. -/
theorem wM_J_316 : Cond.methodLink "java/util/Arrays" 316 ⟨"[I", "clone", "()Ljava/lang/Object;"⟩ ∈ lw_ok := lw_i5 196 rfl rfl
theorem wX_J_I : Cond.sameMethod "[I" "java/lang/Object" "clone" "()Ljava/lang/Object;" ∈ lw_ok := lw_i5 197 rfl rfl
theorem wN_J_cl : Cond.native ⟨"java/lang/Object", "clone", "()Ljava/lang/Object;"⟩ ∈ lw_ok := lw_i5 198 rfl rfl
theorem wV_J_cl : Cond.instanceMethod ⟨"java/lang/Object", "clone", "()Ljava/lang/Object;"⟩ ∈ lw_ok := lw_i5 199 rfl rfl
theorem wL_J_I : Cond.selects "[I" ⟨"[I", "clone", "()Ljava/lang/Object;"⟩ ⟨"java/lang/Object", "clone", "()Ljava/lang/Object;"⟩ ∈ lw_ok := lw_i5 200 rfl rfl
theorem wM_J_319 : Cond.methodLink "java/util/Arrays" 319 ⟨"[J", "clone", "()Ljava/lang/Object;"⟩ ∈ lw_ok := lw_i5 208 rfl rfl
theorem wX_J_J : Cond.sameMethod "[J" "java/lang/Object" "clone" "()Ljava/lang/Object;" ∈ lw_ok := lw_i5 209 rfl rfl
theorem wL_J_J : Cond.selects "[J" ⟨"[J", "clone", "()Ljava/lang/Object;"⟩ ⟨"java/lang/Object", "clone", "()Ljava/lang/Object;"⟩ ∈ lw_ok := lw_i5 210 rfl rfl
theorem wC_J_317 : Cond.classLink "java/util/Arrays" 317 "[I" ∈ lw_ok := lw_i5 202 rfl rfl
theorem wC_J_320 : Cond.classLink "java/util/Arrays" 320 "[J" ∈ lw_ok := lw_i5 212 rfl rfl
theorem dJ_copyI_6 : decode cJ_copyI 6 = .ok (.aload_n 0, 1) := dc0 dO_42 (by decide +kernel)
theorem dJ_copyI_7 : decode cJ_copyI 7 = .ok (.invokevirtual 316, 3) := dcU2 dO_182 (by decide +kernel)
theorem dJ_copyI_10 : decode cJ_copyI 10 = .ok (.checkcast 317, 3) := dcU2 dO_192 (by decide +kernel)
theorem dJ_copyI_13 : decode cJ_copyI 13 = .ok (.areturn, 1) := dc0 dO_176 (by decide +kernel)
theorem dJ_copyJ_6 : decode cJ_copyJ 6 = .ok (.aload_n 0, 1) := dc0 dO_42 (by decide +kernel)
theorem dJ_copyJ_7 : decode cJ_copyJ 7 = .ok (.invokevirtual 319, 3) := dcU2 dO_182 (by decide +kernel)
theorem dJ_copyJ_10 : decode cJ_copyJ 10 = .ok (.checkcast 320, 3) := dcU2 dO_192 (by decide +kernel)
theorem dJ_copyJ_13 : decode cJ_copyJ 13 = .ok (.areturn, 1) := dc0 dO_176 (by decide +kernel)
/-- what the state must tell of the classes of rows: they may be cloned -/
def clP (g : sG) : Prop := ∀ U : State, sK g U → va_Nw (.castable "[I" "java/lang/Cloneable") U ∧ va_Nw (.castable "[J" "java/lang/Cloneable") U
theorem clP_ok {g : sG} : clP g := fun _ h => h.2.2.2.2.2.2.2.2.2.2
section CLN
variable {g : sG} {M : sM} {R : Room} {Z : sZT} {pc : Nat} {lv : List (Nat × Value)} {st : List Value} {hp : sHp} {ce sl a n kd : Nat} {cA : ClassId} {ty : FieldType} {f : Nat → Value}
theorem sv_clone {index : Nat} {ad : String} (hd : decode M.2.1 pc = .ok (.invokevirtual index, 3)) (hlk : Cond.methodLink M.1.cls index ⟨ad, "clone", "()Ljava/lang/Object;"⟩ ∈ sg_ws g) (hsame : Cond.sameMethod ad "java/lang/Object" "clone" "()Ljava/lang/Object;" ∈ sg_ws g) (hnat : Cond.native ⟨"java/lang/Object", "clone", "()Ljava/lang/Object;"⟩ ∈ sg_ws g) (hinst : Cond.instanceMethod ⟨"java/lang/Object", "clone", "()Ljava/lang/Object;"⟩ ∈ sg_ws g) (hsel : Cond.selects ad ⟨ad, "clone", "()Ljava/lang/Object;"⟩ ⟨"java/lang/Object", "clone", "()Ljava/lang/Object;"⟩ ∈ sg_ws g) (hcast : ∀ U, sK g U → va_Nw (.castable ad "java/lang/Cloneable") U) (ht : g.2.2.1[kd]? = some (cA, ty)) (hra : ∀ U : State, va_RA U cA ty → U.vm.findClass ad = some cA) (ha : a < hp.1) (he : hp.2 a = .inl (kd, n, f)) (hfit : ∀ i, i < n → fits ty (rv (sg_r g) (f i)) = true) (hfr : 1 ≤ R.frames) (hlo : (st.map fun v => v.category).sum + 14 ≤ R.locals) (hc1 : ce + 1 ≤ R.cells) (hs1 : sl + n ≤ R.slots)
    (kk : sV g M R Z (pc + 3) lv (.ref hp.1 :: st) (hp.1 + 1, sUp hp.2 hp.1 (.inl (kd, n, f))) (ce + 1) (sl + n)) : sV g M R Z pc lv (.ref a :: st) hp ce sl := by
  intro p e s m args below meth c H locs ls X r hl h
  obtain ⟨hx, hb, hr, hml, hown, hts, hK, hlk2, hlw, hnm⟩ := id X
  obtain ⟨h1, h2⟩ := sArr r hK ha he ht
  obtain ⟨c0, t0, f1, f2, f3⟩ := Cond.castable_spec (va_Nw.use (A := args) rfl (hcast s hK))
  have hfc : s.vm.findClass ad = some cA := hra s (hK.1.2 kd _ ht).2
  have e0 : c0 = cA := Option.some.inj (f1.symm.trans hfc)
  subst e0
  intro T hT X1
  have hcellT : T.heap[sg_b g + a]? = some (arrV c0 n (fun j => rv (sg_r g) (f j))) := by rw [hT]; exact h1
  obtain ⟨-, kA, hkA, comp, hkind⟩ := State.isArrayOf_alike X1.warmed.alike ((hK.1.2 kd _ ht).1 0 (fun _ => .null))
  obtain ⟨-, kS, hkS, compS, hkindS⟩ := (hK.1.2 kd _ ht).1 0 (fun _ => .null)
  have hcat : ((st.map (rv (sg_r g))).map fun v => v.category).sum = (st.map fun v => v.category).sum := by
    rw [List.map_map]
    have : ((fun v : Value => v.category) ∘ rv (sg_r g)) = fun v => v.category := by funext v; exact rv_cat _ v
    rw [this]
  obtain ⟨vm', X', st'⟩ := X1.cloneArray hx hown (hts _ hlk) (hts _ hsame) (hts _ hnat) (hts _ hinst) (hts _ hsel) (a := sg_b g + a) (cell := arrV c0 n (fun j => rv (sg_r g) (f j))) hcellT (fun k h => by cases h) (fun h => by cases h) hfc f2 f3
    (fun i v hv => by
      have hk' : T.vm.classes[c0]? = some kA := hkA
      have := va_fit hfit i v hv
      simpa [State.fitsSlot, State.slotType?, hk', hkind, arrV] using this)
    (g := F0 m pc ls (.ref (sg_b g + a) :: st.map (rv (sg_r g)))) rfl (by rw [hml]; exact h.1) rfl (by rw [hb]; exact hd) hfr (by show 2 * 0 + _ + 14 ≤ _; rw [hcat]; omega) hc1 (by rw [arrV_size]; exact hs1) (hloader := Vm.clonesLoader_of_array hkS hkindS)
  have hz := r.1
  have hcellE : ({ cls := (arrV c0 n (fun j => rv (sg_r g) (f j))).cls, slots := (arrV c0 n (fun j => rv (sg_r g) (f j))).slots } : Cell) = arrV c0 n (fun j => rv (sg_r g) (f j)) := rfl
  rw [hcellE, arrV_size] at X'
  have hR : sR g (hp.1 + 1, sUp hp.2 hp.1 (.inl (kd, n, f))) (H.push (arrV c0 n (fun j => rv (sg_r g) (f j)))) := by
    refine r.push (by simp) (fun q hq => ?_) ⟨c0, _, ht, ?_⟩
    · rw [Array.getElem?_push, if_neg (Nat.ne_of_lt hq)]
    · rw [← hz]; simp
  obtain ⟨t, b1, b2⟩ := kk p e s m args below meth c _ locs ls X hR hl h ((T.setVm vm').pushCell (arrV c0 n (fun j => rv (sg_r g) (f j)))) (by rw [← hT]; rfl) X'
  refine ⟨t, st' t ?_, b2⟩
  rw [hcellE]
  have e9 : (Value.ref hp.1 :: st).map (rv (sg_r g)) = .ref T.heap.size :: st.map (rv (sg_r g)) := by rw [hT, hz]; rfl
  rw [e9] at b1
  exact b1
theorem sv_castA {index : Nat} {nm : String} (hd : decode M.2.1 pc = .ok (.checkcast index, 3)) (hlk : Cond.classLink M.1.cls index nm ∈ sg_ws g) (ht : g.2.2.1[kd]? = some (cA, ty)) (hra : ∀ U : State, va_RA U cA ty → U.vm.findClass nm = some cA) (ha : a < hp.1) (he : hp.2 a = .inl (kd, n, f)) (kk : sV g M R Z (pc + 3) lv (.ref a :: st) hp ce sl) : sV g M R Z pc lv (.ref a :: st) hp ce sl := by
  intro p e s m args below meth c H locs ls X r hl h
  obtain ⟨hx, hb, hr, hml, hown, hts, hK, hlk2, hlw, hnm⟩ := id X
  obtain ⟨h1, h2⟩ := sArr r hK ha he ht
  intro T hT X1
  obtain ⟨vm', X', st'⟩ := X1.checkcastYes hx hown (hts _ hlk) (a := sg_b g + a) (cell := arrV cA n (fun j => rv (sg_r g) (f j))) (by rw [hT]; exact h1) rfl (hra s (hK.1.2 kd _ ht).2) (va_asg _ _) (g := F0 m pc ls (.ref (sg_b g + a) :: st.map (rv (sg_r g)))) rfl rfl (by rw [hb]; exact hd)
  obtain ⟨t, a1, b1⟩ := kk p e s m args below meth c H locs ls X r hl h (T.setVm vm') hT X'
  exact ⟨t, st' t a1, b1⟩
end CLN
section CPY2
variable {l : Launch} {D : va_G} {c : Nat → ClassId} {H0 : Heap} {sa : Nat × Nat × (Nat → Int32)}
theorem sUp_twice (hf : Nat → sE) (a : Nat) (x y : sE) : sUp (sUp hf a x) a y = sUp hf a y := by
  funext j
  by_cases h : j = a
  · subst h; rw [sUp_at, sUp_at]
  · rw [sUp_ne _ _ h, sUp_ne _ _ h, sUp_ne _ _ h]
theorem c_cpI {d a n : Nat} {q : Nat → Int32} {x : Int32} {N hn : Nat} {hf : Nat → sE} (hcl : clP (gG l D c H0 sa)) (hd : 2 ≤ d) (ha : a < hn) (he : hf a = .inl (0, n, sI q)) (hx : x = nI N) (hN : N ≤ n) (hn31 : n < 2 ^ 26) : sC (gG l D c H0 sa) mJ_copyI d 1 N [.ref a, .int x] (hn, hf) (fun r hp' => r = some (.ref hn) ∧ ∃ f', (∀ i, i < N → f' i = sI q i) ∧ hp' = (hn + 1, sUp hf hn (.inl (0, N, f')))) := by
  by_cases hlt : N < n
  · refine (c_copyI l D c H0 sa hd ha he hx hlt hn31).weak fun r hp' h => ⟨h.1, _, fun i hi => ?_, h.2.trans (by rw [sUp_twice])⟩
    simp only [sI, va_cpy]
    rw [if_pos (by omega)]
    congr 2; omega
  · have e : N = n := by omega
    subst e
    subst hx
    refine sC.of rfl (by decide) (le_t rfl) ?_
    refine sv_iload_n (pc := 0) dJ_copyI_0 rfl rfl ?_
    refine sv_aload_n (pc := 1) dJ_copyI_1 rfl rfl ?_
    refine sv_arraylength (pc := 2) (kd := 0) (n := N) (f := sI q) (cA := c 0) (ty := .int) (v := nI N) dJ_copyI_2 rfl ha he rfl ?_
    refine sv_icmp_ne (pc := 3) (tgt := 14) dJ_copyI_3 (by decide) (fun h => absurd rfl h) (fun _ => ?_)
    refine sv_aload_n (pc := 6) dJ_copyI_6 rfl rfl ?_
    refine sv_clone (pc := 7) (ad := "[I") (kd := 0) (cA := c 0) (ty := .int) (n := N) (f := sI q) dJ_copyI_7 wM_J_316 wX_J_I wN_J_cl wV_J_cl wL_J_I (fun U h => (hcl U h).1) rfl (fun U h => va_nm_int h) ha he (fun _ _ => rfl) (by show 1 ≤ d; omega) (by show 0 + 14 ≤ 60 * d; omega) (Nat.le_refl _) (by show 0 + N ≤ N; omega) ?_
    refine sv_castA (pc := 10) (kd := 0) (cA := c 0) (ty := .int) (nm := "[I") dJ_copyI_10 wC_J_317 rfl (fun U h => va_nm_int h) (Nat.lt_succ_self _) (sUp_at _ _ _) ?_
    exact sv_aretA (pc := 13) dJ_copyI_13 rfl (Nat.le_refl _) (by show 0 + N ≤ N; omega) ⟨rfl, _, fun _ _ => rfl, rfl⟩
theorem c_cpJ {d a n : Nat} {q : Nat → Int64} {x : Int32} {N hn : Nat} {hf : Nat → sE} (hcl : clP (gG l D c H0 sa)) (hd : 2 ≤ d) (ha : a < hn) (he : hf a = .inl (1, n, sJ q)) (hx : x = nI N) (hN : N ≤ n) (hn31 : n < 2 ^ 26) : sC (gG l D c H0 sa) mJ_copyJ d 1 N [.ref a, .int x] (hn, hf) (fun r hp' => r = some (.ref hn) ∧ ∃ f', (∀ i, i < N → f' i = sJ q i) ∧ hp' = (hn + 1, sUp hf hn (.inl (1, N, f')))) := by
  by_cases hlt : N < n
  · refine (c_copyJ l D c H0 sa hd ha he hx hlt hn31).weak fun r hp' h => ⟨h.1, _, fun i hi => ?_, h.2.trans (by rw [sUp_twice])⟩
    simp only [sJ, va_cpy]
    rw [if_pos (by omega)]
    congr 2; omega
  · have e : N = n := by omega
    subst e
    subst hx
    refine sC.of rfl (by decide) (le_t rfl) ?_
    refine sv_iload_n (pc := 0) dJ_copyJ_0 rfl rfl ?_
    refine sv_aload_n (pc := 1) dJ_copyJ_1 rfl rfl ?_
    refine sv_arraylength (pc := 2) (kd := 1) (n := N) (f := sJ q) (cA := c 1) (ty := .long) (v := nI N) dJ_copyJ_2 rfl ha he rfl ?_
    refine sv_icmp_ne (pc := 3) (tgt := 14) dJ_copyJ_3 (by decide) (fun h => absurd rfl h) (fun _ => ?_)
    refine sv_aload_n (pc := 6) dJ_copyJ_6 rfl rfl ?_
    refine sv_clone (pc := 7) (ad := "[J") (kd := 1) (cA := c 1) (ty := .long) (n := N) (f := sJ q) dJ_copyJ_7 wM_J_319 wX_J_J wN_J_cl wV_J_cl wL_J_J (fun U h => (hcl U h).2) rfl (fun U h => va_nm_long h) ha he (fun _ _ => rfl) (by show 1 ≤ d; omega) (by show 0 + 14 ≤ 60 * d; omega) (Nat.le_refl _) (by show 0 + N ≤ N; omega) ?_
    refine sv_castA (pc := 10) (kd := 1) (cA := c 1) (ty := .long) (nm := "[J") dJ_copyJ_10 wC_J_320 rfl (fun U h => va_nm_long h) (Nat.lt_succ_self _) (sUp_at _ _ _) ?_
    exact sv_aretA (pc := 13) dJ_copyJ_13 rfl (Nat.le_refl _) (by show 0 + N ≤ N; omega) ⟨rfl, _, fun _ _ => rfl, rfl⟩
end CPY2
end
section
/-! The class's policies: the reader's result as a new policy, the next place in the court's row. -/
/-- a new policy's six cells -/
def wPol (w : mW) (cs np nw : Nat) : mW := (w.1 + 6, fun a => if a < w.1 then w.2.1 a else 230 + (a - w.1), fun a => if a < w.1 then w.2.2.1 a else (match a - w.1 with
  | 0 => 0
  | 1 => cs
  | 2 => np
  | 3 => np
  | 4 => nw
  | 5 => nw
  | _ => 0), w.2.2.2)
def mPol (w : mW) (μ : mM) (rows : Int) : mM := fun a i => if a < w.1 then μ a i else (match a - w.1 with
  | 0 => (match i with
    | 0 => rows
    | 1 => ((w.1 + 1 : Nat) : Int)
    | 2 => ((w.1 + 2 : Nat) : Int)
    | 3 => ((w.1 + 3 : Nat) : Int)
    | 4 => ((w.1 + 4 : Nat) : Int)
    | 5 => ((w.1 + 5 : Nat) : Int)
    | _ => 0)
  | j + 1 => μ (27 + j) i)
section POLW
variable {w : mW} {μ : mM} {cs np nw : Nat} {rows : Int}
theorem wPol.ext : wE w (wPol w cs np nw) := ⟨Nat.le_add_right _ _, fun a ha => ⟨if_pos ha, if_pos ha⟩, fun a h1 _ => by
  rw [show (wPol w cs np nw).2.1 a = 230 + (a - w.1) from if_neg (Nat.not_lt.mpr h1)]; omega⟩
theorem wPol.sh {j : Nat} : (wPol w cs np nw).2.1 (w.1 + j) = 230 + j := by
  show (if w.1 + j < w.1 then _ else _) = _
  rw [if_neg (by omega)]; omega
theorem wPol.at0 : mAt (wPol w cs np nw) w.1 230 := ⟨wPol.sh (j := 0), by show w.1 < w.1 + 6; omega, by
  show (if w.1 < w.1 then _ else _) ≤ _
  rw [if_neg (Nat.lt_irrefl _), Nat.sub_self]; exact Nat.zero_le _, fun _ => by
  show (if w.1 < w.1 then _ else _) = _
  rw [if_neg (Nat.lt_irrefl _), Nat.sub_self]; rfl⟩
theorem wPol.len {j : Nat} : (wPol w cs np nw).2.2.1 (w.1 + j) = (match j with
  | 0 => 0
  | 1 => cs
  | 2 => np
  | 3 => np
  | 4 => nw
  | 5 => nw
  | _ => 0) := by
  show (if w.1 + j < w.1 then _ else _) = _
  rw [if_neg (by omega), show w.1 + j - w.1 = j by omega]
theorem wPol.z : szW (wPol w cs np nw) = szW w + (6 + cs + np + np + nw + nw) := by
  rw [szW.ext wPol.ext]
  have e : (wPol w cs np nw).1 - w.1 = 6 := by show w.1 + 6 - w.1 = 6; omega
  rw [e]
  congr 1
  show 0 + szS ((wPol w cs np nw).2.1 (w.1 + 0)) ((wPol w cs np nw).2.2.1 (w.1 + 0)) + szS ((wPol w cs np nw).2.1 (w.1 + 1)) ((wPol w cs np nw).2.2.1 (w.1 + 1)) + szS ((wPol w cs np nw).2.1 (w.1 + 2)) ((wPol w cs np nw).2.2.1 (w.1 + 2)) + szS ((wPol w cs np nw).2.1 (w.1 + 3)) ((wPol w cs np nw).2.2.1 (w.1 + 3)) + szS ((wPol w cs np nw).2.1 (w.1 + 4)) ((wPol w cs np nw).2.2.1 (w.1 + 4)) + szS ((wPol w cs np nw).2.1 (w.1 + 5)) ((wPol w cs np nw).2.2.1 (w.1 + 5)) = _
  rw [wPol.sh, wPol.sh, wPol.sh, wPol.sh, wPol.sh, wPol.sh, wPol.len, wPol.len, wPol.len, wPol.len, wPol.len, wPol.len]
  show 0 + 6 + cs + np + np + nw + nw = 6 + cs + np + np + nw + nw
  omega
theorem mPol.at {j i : Nat} : mPol w μ rows (w.1 + (j + 1)) i = μ (27 + j) i := by
  show (if w.1 + (j + 1) < w.1 then _ else _) = _
  rw [if_neg (by omega), show w.1 + (j + 1) - w.1 = j + 1 by omega]
theorem mPol.at0 {i : Nat} : mPol w μ rows w.1 i = (match i with
    | 0 => rows
    | 1 => ((w.1 + 1 : Nat) : Int)
    | 2 => ((w.1 + 2 : Nat) : Int)
    | 3 => ((w.1 + 3 : Nat) : Int)
    | 4 => ((w.1 + 4 : Nat) : Int)
    | 5 => ((w.1 + 5 : Nat) : Int)
    | _ => 0) := by
  show (if w.1 < w.1 then _ else _) = _
  rw [if_neg (Nat.lt_irrefl _), Nat.sub_self]
theorem wPol.at1 (h1 : cs ≤ 2000) (h2 : np ≤ 40) (h3 : nw ≤ 250) : mAt (wPol w cs np nw) (w.1 + 1) 231 := ⟨wPol.sh, by show w.1 + 1 < w.1 + 6; omega, by rw [wPol.len]; exact h1, fun q => by cases q⟩
theorem wPol.at2 (h1 : cs ≤ 2000) (h2 : np ≤ 40) (h3 : nw ≤ 250) : mAt (wPol w cs np nw) (w.1 + 2) 232 := ⟨wPol.sh, by show w.1 + 2 < w.1 + 6; omega, by rw [wPol.len]; exact h2, fun q => by cases q⟩
theorem wPol.at3 (h1 : cs ≤ 2000) (h2 : np ≤ 40) (h3 : nw ≤ 250) : mAt (wPol w cs np nw) (w.1 + 3) 233 := ⟨wPol.sh, by show w.1 + 3 < w.1 + 6; omega, by rw [wPol.len]; exact h2, fun q => by cases q⟩
theorem wPol.at4 (h1 : cs ≤ 2000) (h2 : np ≤ 40) (h3 : nw ≤ 250) : mAt (wPol w cs np nw) (w.1 + 4) 234 := ⟨wPol.sh, by show w.1 + 4 < w.1 + 6; omega, by rw [wPol.len]; exact h3, fun q => by cases q⟩
theorem wPol.at5 (h1 : cs ≤ 2000) (h2 : np ≤ 40) (h3 : nw ≤ 250) : mAt (wPol w cs np nw) (w.1 + 5) 235 := ⟨wPol.sh, by show w.1 + 5 < w.1 + 6; omega, by rw [wPol.len]; exact h3, fun q => by cases q⟩
theorem mT.pol (h1 : cs ≤ 2000) (h2 : np ≤ 40) (h3 : nw ≤ 250) (hw : mWF w) (hT : mT w μ) (hr : 0 ≤ rows ∧ rows ≤ 30) : mT (wPol w cs np nw) (mPol w μ rows) := by
  intro a t hA i
  by_cases ha : a < w.1
  · rw [show mPol w μ rows a i = μ a i from if_pos ha]
    exact (hT a t (hA.back wPol.ext ha) i).ext wPol.ext rfl
  · obtain ⟨j, rfl⟩ : ∃ j, a = w.1 + j := ⟨a - w.1, by omega⟩
    have hj : j < 6 := by have := hA.2.1; have e : (wPol w cs np nw).1 = w.1 + 6 := rfl; omega
    have et : t = 230 + j := hA.1.symm.trans wPol.sh
    subst et
    match j, hj with
    | 0, _ =>
      rw [show w.1 + 0 = w.1 from rfl, mPol.at0]
      match i with
      | 0 => exact hr
      | 1 => exact ⟨Int.natCast_nonneg _, wPol.at1 h1 h2 h3⟩
      | 2 => exact ⟨Int.natCast_nonneg _, wPol.at2 h1 h2 h3⟩
      | 3 => exact ⟨Int.natCast_nonneg _, wPol.at3 h1 h2 h3⟩
      | 4 => exact ⟨Int.natCast_nonneg _, wPol.at4 h1 h2 h3⟩
      | 5 => exact ⟨Int.natCast_nonneg _, wPol.at5 h1 h2 h3⟩
      | n + 6 => exact ⟨Int.le_refl _, Int.le_refl _⟩
    | 1, _ => rw [mPol.at]; exact hT 27 27 (A_27 hw) i
    | 2, _ => rw [mPol.at]; exact hT 28 28 (A_28 hw) i
    | 3, _ => rw [mPol.at]; exact hT 29 29 (A_29 hw) i
    | 4, _ => rw [mPol.at]; exact hT 30 30 (A_30 hw) i
    | 5, _ => rw [mPol.at]; exact hT 31 31 (A_31 hw) i
    | n + 6, h => exact absurd h (by omega)
end POLW
section POLC
variable {l : Launch} {D : va_G} {c : Nat → ClassId} {H0 : Heap} {sa : Nat × Nat × (Nat → Int32)}
theorem c_X5_init {hp : sHp} {o c1 c2 c3 c4 c5 : Nat} {r : Int} (ho : o < hp.1) (he : hp.2 o = .inr (5, zX5)) : sC (gG l D c H0 sa) mX5_init 2 0 0 [.ref o, iv r, .ref c1, .ref c2, .ref c3, .ref c4, .ref c5] hp (fun q hp' => q = none ∧ hp' = (hp.1, sUp hp.2 o (.inr (5, [iv r, .ref c1, .ref c2, .ref c3, .ref c4, .ref c5])))) := by
  refine sC.of rfl (by decide) (le_t rfl) ?_
  refine sv_aload_n (pc := 0) dX5_init_0 rfl rfl ?_
  refine sv_objinit (pc := 1) dX5_init_1 wM_X5_1 wV_obj wK_obj ⟨le_t rfl, le_t rfl⟩ (le_t rfl) ?_
  refine sv_aload_n (pc := 4) dX5_init_4 rfl rfl ?_
  refine sv_iload_n (pc := 5) dX5_init_5 rfl rfl ?_
  refine sv_putfinal (pc := 6) dX5_init_6 (gCX5 _ _ _ _ _) 0 (by decide) wF_X5_7 rfl rfl rfl ho he (fun _ => rfl) (fun _ => rfl) (lt_t rfl) ?_
  refine sv_aload_n (pc := 9) dX5_init_9 rfl rfl ?_
  refine sv_aload_n (pc := 10) dX5_init_10 rfl rfl ?_
  refine sv_putfinal (pc := 11) dX5_init_11 (gCX5 _ _ _ _ _) 1 (by decide) wF_X5_13 rfl rfl rfl ho (sUp_at _ _ _) (fun _ => rfl) (fun _ => rfl) (lt_t rfl) ?_
  refine sv_aload_n (pc := 14) dX5_init_14 rfl rfl ?_
  refine sv_aload_n (pc := 15) dX5_init_15 rfl rfl ?_
  refine sv_putfinal (pc := 16) dX5_init_16 (gCX5 _ _ _ _ _) 2 (by decide) wF_X5_17 rfl rfl rfl ho (sUp_at _ _ _) (fun _ => rfl) (fun _ => rfl) (lt_t rfl) ?_
  refine sv_aload_n (pc := 19) dX5_init_19 rfl rfl ?_
  refine sv_aload (pc := 20) dX5_init_20 rfl ?_
  refine sv_putfinal (pc := 22) dX5_init_22 (gCX5 _ _ _ _ _) 3 (by decide) wF_X5_20 rfl rfl rfl ho (sUp_at _ _ _) (fun _ => rfl) (fun _ => rfl) (lt_t rfl) ?_
  refine sv_aload_n (pc := 25) dX5_init_25 rfl rfl ?_
  refine sv_aload (pc := 26) dX5_init_26 rfl ?_
  refine sv_putfinal (pc := 28) dX5_init_28 (gCX5 _ _ _ _ _) 4 (by decide) wF_X5_24 rfl rfl rfl ho (sUp_at _ _ _) (fun _ => rfl) (fun _ => rfl) (lt_t rfl) ?_
  refine sv_aload_n (pc := 31) dX5_init_31 rfl rfl ?_
  refine sv_aload (pc := 32) dX5_init_32 rfl ?_
  refine sv_putfinal (pc := 34) dX5_init_34 (gCX5 _ _ _ _ _) 5 (by decide) wF_X5_27 rfl rfl rfl ho (sUp_at _ _ _) (fun _ => rfl) (fun _ => rfl) (lt_t rfl) ?_
  exact sv_vret (pc := 37) dX5_init_37 rfl (Nat.le_refl _) (Nat.le_refl _) ⟨rfl, by simp only [sUp_twice]; rfl⟩
variable {M : sM} {R : Room} {Z : sZT} {pc : Nat} {lv : List (Nat × Value)} {st : List Value} {w : mW} {μ : mM} {ce sl : Nat} {hp : sHp}
/-- a field of a cell that stands as memory has it -/
theorem mr_getH {index ci a s k kk : Nat} {T : vw_C} {ty : Nat → FieldType} {ks : List Nat} {z : Int} (hE : hp.2 a = (mk w μ).2 a) (ha : a < hp.1) (hd : decode M.2.1 pc = .ok (.getfield index, 3)) (hC : sCl (gG l D c H0 sa) ci T ty) (hk : k < T.2.2) (hw : sFl T M.1.cls index k ∈ lw_ok) (hA : mAt w a s) (hs : mTab s = .inl (ci, ks)) (hl : k < ks.length) (hkk : ks.getD k 0 = kk) (q : μ a k = z)
    (kt : sV (gG l D c H0 sa) M R Z (pc + 3) lv (mv kk z :: st) hp ce sl) : sV (gG l D c H0 sa) M R Z pc lv (.ref a :: st) hp ce sl :=
  sv_getfield hd hC k hk hw ha (hE.trans (mk_obj hA hs)) (by rw [mRgV _ hl, hkk, q]) kt
theorem nIofInt {x : Int} (h : 0 ≤ x) : Int32.ofInt x = nI x.toNat := by
  rw [show x = (x.toNat : Int) by omega]; exact Int32.ofInt_eq_ofNat
/-- one copy of a row of the reader, at a heap whose old cells are memory's -/
theorem mr_cpI {index a s : Nat} {x : Int} (hcl : clP (gG l D c H0 sa)) (hd : decode M.2.1 pc = .ok (.invokestatic index, 3)) (hlk : Cond.methodLink M.1.cls index yJ_copyI ∈ lw_ok) (hE : ∀ j, j < w.1 → hp.2 j = (mk w μ).2 j) (hsz : w.1 ≤ hp.1) (hA : mAt w a s) (hs : mTab s = .inr (0, 0)) (hx : 0 ≤ x ∧ x ≤ (w.2.2.1 a : Int)) (hL : mLen s ≤ 100000) (hR : 3 ≤ R.frames ∧ 142 ≤ R.locals) (hc1 : ce + 1 ≤ R.cells) (hs1 : sl + x.toNat ≤ R.slots) (hr8 : (st.map fun v => v.category).sum ≤ 8)
    (kk : ∀ f', (∀ i, i < x.toNat → f' i = iv (μ a i)) → sV (gG l D c H0 sa) M R Z (pc + 3) lv (.ref hp.1 :: st) (hp.1 + 1, sUp hp.2 hp.1 (.inl (0, x.toNat, f'))) (ce + 1) (sl + x.toNat)) : sV (gG l D c H0 sa) M R Z pc lv (iv x :: .ref a :: st) hp ce sl := by
  have hl := hA.2.2.1
  have hct := c_cpI (l := l) (D := D) (c := c) (H0 := H0) (sa := sa) (d := 2) (a := a) (hn := hp.1) (hf := hp.2) (N := x.toNat) (n := w.2.2.1 a) (q := fun i => Int32.ofInt (μ a i)) (x := Int32.ofInt x) hcl (Nat.le_refl _) (Nat.lt_of_lt_of_le hA.2.1 hsz) ((hE a hA.2.1).trans (mk_arr hA hs)) (nIofInt hx.1) (by omega) (by omega)
  refine sv_callS (av := [.ref a, .int (Int32.ofInt x)]) hct (gOk l D c H0 sa) hd (tJ_copyI l D c H0 sa) wS_J_copyI hlk ⟨hR.1, hR.2⟩ ⟨hc1, hs1⟩ rfl hr8 ?_
  rintro r hp' ⟨rfl, f', hf', rfl⟩
  exact kk f' hf'
theorem mr_cpJ {index a s : Nat} {x : Int} (hcl : clP (gG l D c H0 sa)) (hd : decode M.2.1 pc = .ok (.invokestatic index, 3)) (hlk : Cond.methodLink M.1.cls index yJ_copyJ ∈ lw_ok) (hE : ∀ j, j < w.1 → hp.2 j = (mk w μ).2 j) (hsz : w.1 ≤ hp.1) (hA : mAt w a s) (hs : mTab s = .inr (1, 1)) (hx : 0 ≤ x ∧ x ≤ (w.2.2.1 a : Int)) (hL : mLen s ≤ 100000) (hR : 3 ≤ R.frames ∧ 142 ≤ R.locals) (hc1 : ce + 1 ≤ R.cells) (hs1 : sl + x.toNat ≤ R.slots) (hr8 : (st.map fun v => v.category).sum ≤ 8)
    (kk : ∀ f', (∀ i, i < x.toNat → f' i = jv (μ a i)) → sV (gG l D c H0 sa) M R Z (pc + 3) lv (.ref hp.1 :: st) (hp.1 + 1, sUp hp.2 hp.1 (.inl (1, x.toNat, f'))) (ce + 1) (sl + x.toNat)) : sV (gG l D c H0 sa) M R Z pc lv (iv x :: .ref a :: st) hp ce sl := by
  have hl := hA.2.2.1
  have hct := c_cpJ (l := l) (D := D) (c := c) (H0 := H0) (sa := sa) (d := 2) (a := a) (hn := hp.1) (hf := hp.2) (N := x.toNat) (n := w.2.2.1 a) (q := fun i => Int64.ofInt (μ a i)) (x := Int32.ofInt x) hcl (Nat.le_refl _) (Nat.lt_of_lt_of_le hA.2.1 hsz) ((hE a hA.2.1).trans (mk_arr hA hs)) (nIofInt hx.1) (by omega) (by omega)
  refine sv_callS (av := [.ref a, .int (Int32.ofInt x)]) hct (gOk l D c H0 sa) hd (tJ_copyJ l D c H0 sa) wS_J_copyJ hlk ⟨hR.1, hR.2⟩ ⟨hc1, hs1⟩ rfl hr8 ?_
  rintro r hp' ⟨rfl, f', hf', rfl⟩
  exact kk f' hf'
theorem keepE {w : mW} {μ : mM} {f : Nat → sE} {a : Nat} {x : sE} (h : ∀ j, j < w.1 → f j = (mk w μ).2 j) (ha : w.1 ≤ a) : ∀ j, j < w.1 → sUp f a x j = (mk w μ).2 j := fun j hj => (sUp_ne _ _ (by omega)).trans (h j hj)
set_option maxRecDepth 4000 in
theorem c_X6_result (hcl : clP (gG l D c H0 sa)) (hw : mWF w) (hT : mT w μ) {r cs np nw : Int} (q10 : μ 23 10 = r) (q11 : μ 23 11 = cs) (q12 : μ 23 12 = np) (q13 : μ 23 13 = nw) : sC (gG l D c H0 sa) mX6_result 4 6 2586 [.ref 23] (mk w μ) (qRx w [] μ (fun b w1 μ1 => b = w.1 ∧ w1 = wPol w cs.toNat np.toNat nw.toNat ∧ μ1 = mPol w μ r)) := by
  have t10 : 0 ≤ μ 23 10 ∧ μ 23 10 ≤ 30 := hT 23 23 (A_23 hw) 10
  have t11 : 0 ≤ μ 23 11 ∧ μ 23 11 ≤ 2000 := hT 23 23 (A_23 hw) 11
  have t12 : 0 ≤ μ 23 12 ∧ μ 23 12 ≤ 40 := hT 23 23 (A_23 hw) 12
  have t13 : 0 ≤ μ 23 13 ∧ μ 23 13 ≤ 250 := hT 23 23 (A_23 hw) 13
  have n27 : w.2.2.1 27 = 2000 := (A_27 hw).2.2.2 rfl
  have n28 : w.2.2.1 28 = 40 := (A_28 hw).2.2.2 rfl
  have n29 : w.2.2.1 29 = 40 := (A_29 hw).2.2.2 rfl
  have n30 : w.2.2.1 30 = 250 := (A_30 hw).2.2.2 rfl
  have n31 : w.2.2.1 31 = 250 := (A_31 hw).2.2.2 rfl
  have w192 := hw.2.1
  refine sC.of rfl (by decide) (le_t rfl) ?_
  refine sv_new (pc := 0) (ci := 5) (T := (RX5, TX5, 6)) (fs := zX5) dX6_result_0 (gCX5 l D c H0 sa) wC_X6_69 wN_X5 wI_X5 zX5_ok (le_t rfl) (le_t rfl) ?_
  have E1 : ∀ j, j < w.1 → sUp (mk w μ).2 (mk w μ).1 (.inr (5, zX5)) j = (mk w μ).2 j := keepE (fun _ _ => rfl) (Nat.le_refl _)
  refine sv_dup (pc := 3) dX6_result_3 rfl ?_
  refine sv_aload_n (pc := 4) dX6_result_4 rfl rfl ?_
  refine mr_getH (pc := 5) (w := w) (μ := μ) (kk := 0) (k := 10) (z := r) (E1 23 (by omega)) (by show 23 < w.1 + 1; omega) dX6_result_5 (gCX6 _ _ _ _ _) (lt_t rfl) wF_X6_44 (A_23 hw) rfl (lt_t rfl) rfl q10 ?_
  refine sv_aload_n (pc := 8) dX6_result_8 rfl rfl ?_
  refine mr_getH (pc := 9) (w := w) (μ := μ) (kk := 2) (k := 3) (z := 27) (E1 23 (by omega)) (by show 23 < w.1 + 1; omega) dX6_result_9 (gCX6 _ _ _ _ _) (lt_t rfl) wF_X6_21 (A_23 hw) rfl (lt_t rfl) rfl (hT 23 23 (A_23 hw) 3).1 ?_
  refine sv_aload_n (pc := 12) dX6_result_12 rfl rfl ?_
  refine mr_getH (pc := 13) (w := w) (μ := μ) (kk := 0) (k := 11) (z := cs) (E1 23 (by omega)) (by show 23 < w.1 + 1; omega) dX6_result_13 (gCX6 _ _ _ _ _) (lt_t rfl) wF_X6_47 (A_23 hw) rfl (lt_t rfl) rfl q11 ?_
  refine mr_cpI (pc := 16) (w := w) (μ := μ) (a := 27) (s := 27) (x := cs) hcl dX6_result_16 wM_X6_71 E1 (by show w.1 ≤ w.1 + 1; omega) (A_27 hw) rfl ⟨by omega, by omega⟩ (le_t rfl) ⟨le_t rfl, le_t rfl⟩ (le_t rfl) (by show 0 + 6 + cs.toNat ≤ 2586; omega) (le_t rfl) fun f1 e1 => ?_
  have E2 : ∀ j, j < w.1 → sUp (sUp (mk w μ).2 (mk w μ).1 (.inr (5, zX5))) (w.1 + 1) (.inl (0, cs.toNat, f1)) j = (mk w μ).2 j := keepE E1 (by omega)
  refine sv_aload_n (pc := 19) dX6_result_19 rfl rfl ?_
  refine mr_getH (pc := 20) (w := w) (μ := μ) (kk := 2) (k := 4) (z := 28) (E2 23 (by omega)) (by show 23 < w.1 + 1 + 1; omega) dX6_result_20 (gCX6 _ _ _ _ _) (lt_t rfl) wF_X6_24 (A_23 hw) rfl (lt_t rfl) rfl (hT 23 23 (A_23 hw) 4).1 ?_
  refine sv_aload_n (pc := 23) dX6_result_23 rfl rfl ?_
  refine mr_getH (pc := 24) (w := w) (μ := μ) (kk := 0) (k := 12) (z := np) (E2 23 (by omega)) (by show 23 < w.1 + 1 + 1; omega) dX6_result_24 (gCX6 _ _ _ _ _) (lt_t rfl) wF_X6_50 (A_23 hw) rfl (lt_t rfl) rfl q12 ?_
  refine mr_cpI (pc := 27) (w := w) (μ := μ) (a := 28) (s := 28) (x := np) hcl dX6_result_27 wM_X6_71 E2 (by show w.1 ≤ w.1 + 1 + 1; omega) (A_28 hw) rfl ⟨by omega, by omega⟩ (le_t rfl) ⟨le_t rfl, le_t rfl⟩ (le_t rfl) (by show 0 + 6 + cs.toNat + np.toNat ≤ 2586; omega) (le_t rfl) fun f2 e2 => ?_
  have E3 : ∀ j, j < w.1 → sUp (sUp (sUp (mk w μ).2 (mk w μ).1 (.inr (5, zX5))) (w.1 + 1) (.inl (0, cs.toNat, f1))) (w.1 + 1 + 1) (.inl (0, np.toNat, f2)) j = (mk w μ).2 j := keepE E2 (by omega)
  refine sv_aload_n (pc := 30) dX6_result_30 rfl rfl ?_
  refine mr_getH (pc := 31) (w := w) (μ := μ) (kk := 2) (k := 5) (z := 29) (E3 23 (by omega)) (by show 23 < w.1 + 1 + 1 + 1; omega) dX6_result_31 (gCX6 _ _ _ _ _) (lt_t rfl) wF_X6_27 (A_23 hw) rfl (lt_t rfl) rfl (hT 23 23 (A_23 hw) 5).1 ?_
  refine sv_aload_n (pc := 34) dX6_result_34 rfl rfl ?_
  refine mr_getH (pc := 35) (w := w) (μ := μ) (kk := 0) (k := 12) (z := np) (E3 23 (by omega)) (by show 23 < w.1 + 1 + 1 + 1; omega) dX6_result_35 (gCX6 _ _ _ _ _) (lt_t rfl) wF_X6_50 (A_23 hw) rfl (lt_t rfl) rfl q12 ?_
  refine mr_cpJ (pc := 38) (w := w) (μ := μ) (a := 29) (s := 29) (x := np) hcl dX6_result_38 wM_X6_77 E3 (by show w.1 ≤ w.1 + 1 + 1 + 1; omega) (A_29 hw) rfl ⟨by omega, by omega⟩ (le_t rfl) ⟨le_t rfl, le_t rfl⟩ (le_t rfl) (by show 0 + 6 + cs.toNat + np.toNat + np.toNat ≤ 2586; omega) (le_t rfl) fun f3 e3 => ?_
  have E4 : ∀ j, j < w.1 → sUp (sUp (sUp (sUp (mk w μ).2 (mk w μ).1 (.inr (5, zX5))) (w.1 + 1) (.inl (0, cs.toNat, f1))) (w.1 + 1 + 1) (.inl (0, np.toNat, f2))) (w.1 + 1 + 1 + 1) (.inl (1, np.toNat, f3)) j = (mk w μ).2 j := keepE E3 (by omega)
  refine sv_aload_n (pc := 41) dX6_result_41 rfl rfl ?_
  refine mr_getH (pc := 42) (w := w) (μ := μ) (kk := 2) (k := 6) (z := 30) (E4 23 (by omega)) (by show 23 < w.1 + 1 + 1 + 1 + 1; omega) dX6_result_42 (gCX6 _ _ _ _ _) (lt_t rfl) wF_X6_31 (A_23 hw) rfl (lt_t rfl) rfl (hT 23 23 (A_23 hw) 6).1 ?_
  refine sv_aload_n (pc := 45) dX6_result_45 rfl rfl ?_
  refine mr_getH (pc := 46) (w := w) (μ := μ) (kk := 0) (k := 13) (z := nw) (E4 23 (by omega)) (by show 23 < w.1 + 1 + 1 + 1 + 1; omega) dX6_result_46 (gCX6 _ _ _ _ _) (lt_t rfl) wF_X6_53 (A_23 hw) rfl (lt_t rfl) rfl q13 ?_
  refine mr_cpJ (pc := 49) (w := w) (μ := μ) (a := 30) (s := 30) (x := nw) hcl dX6_result_49 wM_X6_77 E4 (by show w.1 ≤ w.1 + 1 + 1 + 1 + 1; omega) (A_30 hw) rfl ⟨by omega, by omega⟩ (le_t rfl) ⟨le_t rfl, le_t rfl⟩ (le_t rfl) (by show 0 + 6 + cs.toNat + np.toNat + np.toNat + nw.toNat ≤ 2586; omega) (le_t rfl) fun f4 e4 => ?_
  have E5 : ∀ j, j < w.1 → sUp (sUp (sUp (sUp (sUp (mk w μ).2 (mk w μ).1 (.inr (5, zX5))) (w.1 + 1) (.inl (0, cs.toNat, f1))) (w.1 + 1 + 1) (.inl (0, np.toNat, f2))) (w.1 + 1 + 1 + 1) (.inl (1, np.toNat, f3))) (w.1 + 1 + 1 + 1 + 1) (.inl (1, nw.toNat, f4)) j = (mk w μ).2 j := keepE E4 (by omega)
  refine sv_aload_n (pc := 52) dX6_result_52 rfl rfl ?_
  refine mr_getH (pc := 53) (w := w) (μ := μ) (kk := 2) (k := 7) (z := 31) (E5 23 (by omega)) (by show 23 < w.1 + 1 + 1 + 1 + 1 + 1; omega) dX6_result_53 (gCX6 _ _ _ _ _) (lt_t rfl) wF_X6_34 (A_23 hw) rfl (lt_t rfl) rfl (hT 23 23 (A_23 hw) 7).1 ?_
  refine sv_aload_n (pc := 56) dX6_result_56 rfl rfl ?_
  refine mr_getH (pc := 57) (w := w) (μ := μ) (kk := 0) (k := 13) (z := nw) (E5 23 (by omega)) (by show 23 < w.1 + 1 + 1 + 1 + 1 + 1; omega) dX6_result_57 (gCX6 _ _ _ _ _) (lt_t rfl) wF_X6_53 (A_23 hw) rfl (lt_t rfl) rfl q13 ?_
  refine mr_cpJ (pc := 60) (w := w) (μ := μ) (a := 31) (s := 31) (x := nw) hcl dX6_result_60 wM_X6_77 E5 (by show w.1 ≤ w.1 + 1 + 1 + 1 + 1 + 1; omega) (A_31 hw) rfl ⟨by omega, by omega⟩ (le_t rfl) ⟨le_t rfl, le_t rfl⟩ (le_t rfl) (by show 0 + 6 + cs.toNat + np.toNat + np.toNat + nw.toNat + nw.toNat ≤ 2586; omega) (le_t rfl) fun f5 e5 => ?_
  have hF : ∀ j, j < 6 → sUp (sUp (sUp (sUp (sUp (sUp (mk w μ).2 (mk w μ).1 (.inr (5, zX5))) (w.1 + 1) (.inl (0, cs.toNat, f1))) (w.1 + 1 + 1) (.inl (0, np.toNat, f2))) (w.1 + 1 + 1 + 1) (.inl (1, np.toNat, f3))) (w.1 + 1 + 1 + 1 + 1) (.inl (1, nw.toNat, f4))) (w.1 + 1 + 1 + 1 + 1 + 1) (.inl (1, nw.toNat, f5)) (w.1 + j) = (match j with
      | 0 => .inr (5, zX5)
      | 1 => .inl (0, cs.toNat, f1)
      | 2 => .inl (0, np.toNat, f2)
      | 3 => .inl (1, np.toNat, f3)
      | 4 => .inl (1, nw.toNat, f4)
      | _ => .inl (1, nw.toNat, f5)) := by
    intro j hj
    match j, hj with
    | 0, _ => rw [sUp_ne _ _ (by omega), sUp_ne _ _ (by omega), sUp_ne _ _ (by omega), sUp_ne _ _ (by omega), sUp_ne _ _ (by omega)]; exact sUp_at _ _ _
    | 1, _ => rw [sUp_ne _ _ (by omega), sUp_ne _ _ (by omega), sUp_ne _ _ (by omega), sUp_ne _ _ (by omega)]; exact sUp_at _ _ _
    | 2, _ => rw [sUp_ne _ _ (by omega), sUp_ne _ _ (by omega), sUp_ne _ _ (by omega)]; exact sUp_at _ _ _
    | 3, _ => rw [sUp_ne _ _ (by omega), sUp_ne _ _ (by omega)]; exact sUp_at _ _ _
    | 4, _ => rw [sUp_ne _ _ (by omega)]; exact sUp_at _ _ _
    | 5, _ => exact sUp_at _ _ _
    | n + 6, h => exact absurd h (by omega)
  have E6 : ∀ j, j < w.1 → sUp (sUp (sUp (sUp (sUp (sUp (mk w μ).2 (mk w μ).1 (.inr (5, zX5))) (w.1 + 1) (.inl (0, cs.toNat, f1))) (w.1 + 1 + 1) (.inl (0, np.toNat, f2))) (w.1 + 1 + 1 + 1) (.inl (1, np.toNat, f3))) (w.1 + 1 + 1 + 1 + 1) (.inl (1, nw.toNat, f4))) (w.1 + 1 + 1 + 1 + 1 + 1) (.inl (1, nw.toNat, f5)) j = (mk w μ).2 j := keepE E5 (by omega)
  generalize hG : sUp (sUp (sUp (sUp (sUp (sUp (mk w μ).2 (mk w μ).1 (.inr (5, zX5))) (w.1 + 1) (.inl (0, cs.toNat, f1))) (w.1 + 1 + 1) (.inl (0, np.toNat, f2))) (w.1 + 1 + 1 + 1) (.inl (1, np.toNat, f3))) (w.1 + 1 + 1 + 1 + 1) (.inl (1, nw.toNat, f4))) (w.1 + 1 + 1 + 1 + 1 + 1) (.inl (1, nw.toNat, f5)) = G at hF E6
  have hct := c_X5_init (l := l) (D := D) (c := c) (H0 := H0) (sa := sa) (hp := (w.1 + 6, G)) (o := w.1) (c1 := w.1 + 1) (c2 := w.1 + 2) (c3 := w.1 + 3) (c4 := w.1 + 4) (c5 := w.1 + 5) (r := r) (by show w.1 < w.1 + 6; omega) (hF 0 (by omega))
  refine sv_heap (hp' := (w.1 + 6, G)) rfl (fun j _ => congrFun hG j) ?_
  refine sv_callI (pc := 63) (M' := mX5_init) (d' := 2) (C' := 0) (S' := 0) (av := [iv r, .ref (w.1 + 1), .ref (w.1 + 2), .ref (w.1 + 3), .ref (w.1 + 4), .ref (w.1 + 5)]) (st := [.ref w.1]) hct (gOk l D c H0 sa) dX6_result_63 (tX5_init l D c H0 sa) rfl rfl wV_X5_init wM_X6_80 ⟨le_t rfl, le_t rfl⟩ ⟨le_t rfl, by show 0 + 6 + cs.toNat + np.toNat + np.toNat + nw.toNat + nw.toNat + 0 ≤ 2586; omega⟩ rfl (le_t rfl) ?_
  rintro rr hp' ⟨rfl, rfl⟩
  refine sv_heapE (hp' := mk (wPol w cs.toNat np.toNat nw.toNat) (mPol w μ r)) rfl (fun j hj => ?_) ?_
  · have hj : j < w.1 + 6 := hj
    have rfl' : ∀ x : sE, sEq x x := fun x => by
      rcases x with ⟨kd, n, f⟩ | y
      · exact ⟨rfl, rfl, fun _ _ => rfl⟩
      · exact (rfl : y = y)
    by_cases h : j < w.1
    · have e : (mk (wPol w cs.toNat np.toNat nw.toNat) (mPol w μ r)).2 j = (mk w μ).2 j := by
        have em : mPol w μ r j = μ j := by funext i; exact if_pos h
        simp only [mk, wPol, em, if_pos h]
      rw [e]
      show sEq (sUp G w.1 _ j) _
      rw [sUp_ne _ _ (by omega), E6 j h]
      exact rfl' _
    · obtain ⟨i, rfl⟩ : ∃ i, j = w.1 + i := ⟨j - w.1, by omega⟩
      have hi : i < 6 := by omega
      match i, hi with
      | 0, _ =>
        show sEq (sUp G w.1 _ w.1) ((mk (wPol w cs.toNat np.toNat nw.toNat) (mPol w μ r)).2 w.1)
        rw [sUp_at, mk_obj wPol.at0 rfl]
        show (5, _) = (5, [mv 0 (mPol w μ r w.1 0), mv 2 (mPol w μ r w.1 1), mv 2 (mPol w μ r w.1 2), mv 2 (mPol w μ r w.1 3), mv 2 (mPol w μ r w.1 4), mv 2 (mPol w μ r w.1 5)])
        rw [mPol.at0, mPol.at0, mPol.at0, mPol.at0, mPol.at0, mPol.at0]
        show (5, _) = (5, [iv r, rf ((w.1 + 1 : Nat) : Int), rf ((w.1 + 2 : Nat) : Int), rf ((w.1 + 3 : Nat) : Int), rf ((w.1 + 4 : Nat) : Int), rf ((w.1 + 5 : Nat) : Int)])
        rw [rf_nat, rf_nat, rf_nat, rf_nat, rf_nat]
      | 1, _ =>
        show sEq (sUp G w.1 _ (w.1 + 1)) _
        rw [sUp_ne _ _ (by omega), hF 1 (by omega), mk_arr (wPol.at1 (by omega) (by omega) (by omega)) rfl, wPol.len]
        exact ⟨rfl, rfl, fun i hi => (e1 i hi).trans (congrArg iv (mPol.at (w := w) (μ := μ) (rows := r) (j := 0) (i := i)).symm)⟩
      | 2, _ =>
        show sEq (sUp G w.1 _ (w.1 + 2)) _
        rw [sUp_ne _ _ (by omega), hF 2 (by omega), mk_arr (wPol.at2 (by omega) (by omega) (by omega)) rfl, wPol.len]
        exact ⟨rfl, rfl, fun i hi => (e2 i hi).trans (congrArg iv (mPol.at (w := w) (μ := μ) (rows := r) (j := 1) (i := i)).symm)⟩
      | 3, _ =>
        show sEq (sUp G w.1 _ (w.1 + 3)) _
        rw [sUp_ne _ _ (by omega), hF 3 (by omega), mk_arr (wPol.at3 (by omega) (by omega) (by omega)) rfl, wPol.len]
        exact ⟨rfl, rfl, fun i hi => (e3 i hi).trans (congrArg jv (mPol.at (w := w) (μ := μ) (rows := r) (j := 2) (i := i)).symm)⟩
      | 4, _ =>
        show sEq (sUp G w.1 _ (w.1 + 4)) _
        rw [sUp_ne _ _ (by omega), hF 4 (by omega), mk_arr (wPol.at4 (by omega) (by omega) (by omega)) rfl, wPol.len]
        exact ⟨rfl, rfl, fun i hi => (e4 i hi).trans (congrArg jv (mPol.at (w := w) (μ := μ) (rows := r) (j := 3) (i := i)).symm)⟩
      | 5, _ =>
        show sEq (sUp G w.1 _ (w.1 + 5)) _
        rw [sUp_ne _ _ (by omega), hF 5 (by omega), mk_arr (wPol.at5 (by omega) (by omega) (by omega)) rfl, wPol.len]
        exact ⟨rfl, rfl, fun i hi => (e5 i hi).trans (congrArg jv (mPol.at (w := w) (μ := μ) (rows := r) (j := 4) (i := i)).symm)⟩
      | n + 6, h => exact absurd h (by omega)
  · exact mr_aretX (pc := 66) (C0 := "DomainHouse$Policy") dX6_result_66 rfl (le_t rfl) (by show 0 + 6 + cs.toNat + np.toNat + np.toNat + nw.toNat + nw.toNat + 0 ≤ 2586; omega) (hw.ext wPol.ext) (mT.pol (by omega) (by omega) (by omega) hw hT (by omega)) ⟨wPol.ext, fun a i ha _ => if_pos ha⟩ ⟨rfl, rfl, rfl⟩
end POLC
end
section
/-! The class's policy. -/
theorem PC.keepX {l : List Nat} {w w1 : mW} {μ μ1 : mM} (h : PC w μ) (hw : mWF w) (hX : mX l w μ w1 μ1) (hc : w1.2.2.2 2 = w.2.2.2 2) (hl : pcFree l = true) (hT : mT w μ) : PC w1 μ1 := by
  simp only [pcFree, Bool.and_eq_true, Bool.not_eq_true'] at hl
  obtain ⟨l1, l2, l3, l4, l5, l6, l7, l8⟩ := hl
  intro p hp
  have e22 : μ1 22 p = μ 22 p := hX.f (A_22 hw) l1 rfl
  rw [e22]
  obtain ⟨hA, hA1, h1, h2, h3⟩ := h p (by rw [← hc]; exact hp)
  have f0 : μ1 (μ 22 p).toNat 0 = μ (μ 22 p).toNat 0 := hX.f hA l2 rfl
  have f1 : μ1 (μ 22 p).toNat 1 = μ (μ 22 p).toNat 1 := hX.f hA l3 rfl
  have f2 : μ1 (μ 22 p).toNat 2 = μ (μ 22 p).toNat 2 := hX.f hA l4 rfl
  have f3 : μ1 (μ 22 p).toNat 3 = μ (μ 22 p).toNat 3 := hX.f hA l5 rfl
  have f4 : μ1 (μ 22 p).toNat 4 = μ (μ 22 p).toNat 4 := hX.f hA l6 rfl
  have f5 : μ1 (μ 22 p).toNat 5 = μ (μ 22 p).toNat 5 := hX.f hA l7 rfl
  have fc : μ1 (μ (μ 22 p).toNat 1).toNat = μ (μ (μ 22 p).toNat 1).toNat := funext fun i => hX.f hA1 l8 rfl
  have len : ∀ {a s : Nat}, mAt w a s → w1.2.2.1 a = w.2.2.1 a := fun g => (hX.1.2.1 _ g.2.1).2
  have r2 := (hT _ 230 hA 2).2
  have r3 := (hT _ 230 hA 3).2
  have r4 := (hT _ 230 hA 4).2
  have r5 := (hT _ 230 hA 5).2
  exact ⟨hA.ext hX.1, by rw [f1]; exact hA1.ext hX.1, by rw [f0, f1, fc, len hA1]; exact h1, by rw [f2, f3, len r2, len r3]; exact h2, by rw [f4, f5, len r4, len r5]; exact h3⟩
section MV39
variable {l : Launch} {D : va_G} {c : Nat → ClassId} {H0 : Heap} {sa : Nat × Nat × (Nat → Int32)} {w : mW} {μ : mM}
theorem wCt.ext {w : mW} {k : Nat} : wE w (wCt w k) := ⟨Nat.le_refl _, fun _ _ => ⟨rfl, rfl⟩, fun _ h1 h2 => absurd h2 (Nat.not_lt.mpr h1)⟩
theorem c_X1_addPolicy (hw : mWF w) (hT : mT w μ) {n : Int} {b : Nat} (q : μ 21 8 = n) (hn : n ≤ 11) (hB : mAt w b 230) : sC (gG l D c H0 sa) mX1_addPolicy 1 0 0 [.ref 21, .ref b] (mk w μ) (qIx w [21008, 22999] μ (fun z w1 μ1 => z = n ∧ w1 = wCt w 2 ∧ μ1 22 n.toNat = (b : Int) ∧ (∀ a i, (a ≠ 22 ∨ i ≠ n.toNat) → (a ≠ 21 ∨ i ≠ 8) → μ1 a i = μ a i))) := by
  have h6 : μ 21 8 = w.2.2.2 2 ∧ 0 ≤ μ 21 8 ∧ μ 21 8 ≤ 12 := hT 21 21 (A_21 hw) 8
  refine sC.of rfl (by decide) (le_t rfl) ?_
  refine sv_aload_n (pc := 0) dX1_addPolicy_0 rfl rfl ?_
  refine gf_X1_1 (pc := 1) dX1_addPolicy_1 wF_X1_17 (A_21 hw) hT ?_
  refine sv_aload_n (pc := 4) dX1_addPolicy_4 rfl rfl ?_
  refine gk_X1_8 (pc := 5) dX1_addPolicy_5 wF_X1_21 (A_21 hw) q ?_
  refine sv_aload_n (pc := 8) dX1_addPolicy_8 rfl rfl ?_
  refine mr_aast (pc := 9) (kd := 7) (ci := 5) (T := (RX5, TX5, 6)) dX1_addPolicy_9 (gCX5 l D c H0 sa) rfl (A_22 hw) rfl ⟨by omega, by rw [(A_22 hw).2.2.2 rfl]; show n < 12; omega⟩ (Nat.le_trans (A_22 hw).2.2.1 (le_t rfl)) hB rfl fun μ2 hu2 => ?_
  have q2 : μ2 21 8 = n := (hu2.2 21 8 (Or.inl (by decide))).trans q
  refine sv_aload_n (pc := 10) dX1_addPolicy_10 rfl rfl ?_
  refine sv_dup (pc := 11) dX1_addPolicy_11 rfl ?_
  refine gk_X1_8 (pc := 12) dX1_addPolicy_12 wF_X1_21 (A_21 hw) q2 ?_
  refine mr_iconst (pc := 15) (z := 1) dX1_addPolicy_15 ?_
  refine mr_iadd (pc := 16) dX1_addPolicy_16 ?_
  refine mr_put (pc := 17) (g := gG l D c H0 sa) (kk := 0) (k := 8) dX1_addPolicy_17 (gCX1 l D c H0 sa) (lt_t rfl) wF_X1_21 rfl (A_21 hw) rfl (lt_t rfl) rfl (fun _ => rfl) (fun _ => rfl) (fun μ3 hu3 => ?_)
  have q3 : μ3 21 8 = n + 1 := hu3.1
  refine sv_aload_n (pc := 20) dX1_addPolicy_20 rfl rfl ?_
  refine gk_X1_8 (pc := 21) dX1_addPolicy_21 wF_X1_21 (A_21 hw) q3 ?_
  refine mr_iconst (pc := 24) (z := 1) dX1_addPolicy_24 ?_
  refine mr_isub (pc := 25) dX1_addPolicy_25 ?_
  have q4 : μ3 22 n.toNat = (b : Int) := (hu3.2 22 _ (Or.inl (by decide))).trans hu2.1
  have hT3 : mT (wCt w 2) μ3 := mT.ct (m := 12) ctOK_2 rfl rfl (fun _ => rfl) rfl hw hT (by omega) ⟨by omega, by omega⟩ hB q4 q3 (fun a i h1 h2 => (hu3.2 a i h2).trans (hu2.2 a i h1))
  refine mr_iretX (pc := 26) (w1 := wCt w 2) dX1_addPolicy_26 rfl (le_t rfl) (le_t rfl) hw.ct hT3 ⟨wCt.ext, fun a i ha hl => ?_⟩ ⟨by omega, rfl, q4, fun a i h1 h2 => (hu3.2 a i h2).trans (hu2.2 a i h1)⟩
  rw [hu3.2 a i ?_, hu2.2 a i ?_]
  · refine Classical.or_iff_not_imp_left.mpr fun h1 h2 => ?_
    have e : a = 22 := Classical.not_not.mp h1
    subst e
    rw [show mRg w 22 i = 22999 by simp only [mRg, (A_22 hw).1]; rfl] at hl
    cases hl
  · refine Classical.or_iff_not_imp_left.mpr fun h1 h2 => ?_
    have e : a = 21 := Classical.not_not.mp h1
    subst e
    subst h2
    rw [show mRg w 21 8 = 21008 by simp only [mRg, (A_21 hw).1]; rfl] at hl
    cases hl
/-- one policy more -/
theorem PC.add {r cs np nw n : Int} {μ2 : mM} (h : PC w μ) (hw : mWF w) (hT : mT w μ) (hc : cs ≤ 2000) (hp : np ≤ 40) (hwy : nw ≤ 250) (hn : w.2.2.2 2 = n) (hn0 : 0 ≤ n) (hwf : wfF (μ 27) r.toNat cs.toNat) (q : μ2 22 n.toNat = (w.1 : Int)) (hk : ∀ a i, (a ≠ 22 ∨ i ≠ n.toNat) → (a ≠ 21 ∨ i ≠ 8) → μ2 a i = mPol w μ r a i) : PC (wCt (wPol w cs.toNat np.toNat nw.toNat) 2) μ2 := by
  have w192 := hw.2.1
  have hP : PC (wPol w cs.toNat np.toNat nw.toNat) (mPol w μ r) := h.keepX (l := []) hw ⟨wPol.ext, fun a i ha _ => if_pos ha⟩ rfl rfl hT
  intro p hp2
  have hp2 : (p : Int) < w.2.2.2 2 + 1 := hp2
  by_cases e : p = n.toNat
  · subst e
    rw [q]
    show wfP _ μ2 w.1
    have k0 : ∀ a i, w.1 ≤ a → μ2 a i = mPol w μ r a i := fun a i ha => hk a i (Or.inl (by omega)) (Or.inl (by omega))
    have e0 : μ2 w.1 0 = r := (k0 w.1 0 (Nat.le_refl _)).trans mPol.at0
    have e1 : μ2 w.1 1 = ((w.1 + 1 : Nat) : Int) := (k0 w.1 1 (Nat.le_refl _)).trans mPol.at0
    have e2 : μ2 w.1 2 = ((w.1 + 2 : Nat) : Int) := (k0 w.1 2 (Nat.le_refl _)).trans mPol.at0
    have e3 : μ2 w.1 3 = ((w.1 + 3 : Nat) : Int) := (k0 w.1 3 (Nat.le_refl _)).trans mPol.at0
    have e4 : μ2 w.1 4 = ((w.1 + 4 : Nat) : Int) := (k0 w.1 4 (Nat.le_refl _)).trans mPol.at0
    have e5 : μ2 w.1 5 = ((w.1 + 5 : Nat) : Int) := (k0 w.1 5 (Nat.le_refl _)).trans mPol.at0
    have ec : μ2 (w.1 + 1) = μ 27 := funext fun i => (k0 (w.1 + 1) i (by omega)).trans (mPol.at (j := 0))
    refine ⟨wPol.at0, ?_, ?_, ?_, ?_⟩
    · rw [e1, Int.toNat_natCast]; exact wPol.at1 (by omega) (by omega) (by omega)
    · rw [e0, e1, Int.toNat_natCast, ec]
      show wfR (μ 27) ((wPol w cs.toNat np.toNat nw.toNat).2.2.1 (w.1 + 1)) 0 r.toNat
      rw [wPol.len]; exact hwf.fin
    · rw [e2, e3, Int.toNat_natCast, Int.toNat_natCast]
      exact (wPol.len (j := 2)).trans (wPol.len (j := 3)).symm
    · rw [e4, e5, Int.toNat_natCast, Int.toNat_natCast]
      exact (wPol.len (j := 4)).trans (wPol.len (j := 5)).symm
  · have hlt : (p : Int) < w.2.2.2 2 := by omega
    have g := hP p hlt
    have e22 : μ2 22 p = mPol w μ r 22 p := hk 22 p (Or.inr e) (Or.inl (by decide))
    rw [e22]
    have hb : ∀ {a s : Nat}, mAt (wPol w cs.toNat np.toNat nw.toNat) a s → 100 < s → ∀ i, μ2 a i = mPol w μ r a i := fun {a s} gA gs i => by
      refine hk a i (Or.inl fun e => ?_) (Or.inl fun e => ?_)
      · subst e; have g1 := gA.1; have g2 := (hw.ext (wPol.ext (cs := cs.toNat) (np := np.toNat) (nw := nw.toNat))).1 22 (by decide); rw [g1] at g2; have : s = 22 := g2; omega
      · subst e; have g1 := gA.1; have g2 := (hw.ext (wPol.ext (cs := cs.toNat) (np := np.toNat) (nw := nw.toNat))).1 21 (by decide); rw [g1] at g2; have : s = 21 := g2; omega
    obtain ⟨hA, hA1, h1, h2, h3⟩ := g
    have f := hb hA (by decide)
    have fc : μ2 (mPol w μ r (mPol w μ r 22 p).toNat 1).toNat = mPol w μ r (mPol w μ r (mPol w μ r 22 p).toNat 1).toNat := funext (hb hA1 (by decide))
    exact ⟨hA, by rw [f 1]; exact hA1, by rw [f 0, f 1, fc]; exact h1, by rw [f 2, f 3]; exact h2, by rw [f 4, f 5]; exact h3⟩
variable {M M' : sM} {R : Room} {Z : sZT} {pc d' C' S' : Nat} {lv : List (Nat × Value)} {st st0 av : List Value} {ce sl : Nat} {ll : List Nat}
theorem mr_cVRX {g : sG} {index ci a s : Nat} {T : vw_C} {ty : Nat → FieldType} {ks : List Nat} {P : Nat → mW → mM → Prop} (hct : sC g M' d' C' S' (.ref a :: av) (mk w μ) (qRx w ll μ P)) (ho : sOk g) (hd : decode M.2.1 pc = .ok (.invokevirtual index, 3)) (hm : sMt g M' av.length) (hi : Cond.instanceMethod M'.1 ∈ sg_ws g ∧ Cond.selects M'.1.cls M'.1 M'.1 ∈ sg_ws g) (hlk : Cond.methodLink M.1.cls index M'.1 ∈ sg_ws g) (hC : sCl g ci T ty) (hT1 : T.1 = M'.1.cls) (hA : mAt w a s) (hs : mTab s = .inl (ci, ks)) (hR : d' + 1 ≤ R.frames ∧ 60 * d' + M'.2.2.1 + 19 ≤ R.locals) (hce : ce + C' ≤ R.cells ∧ sl + S' ≤ R.slots) (hst : st0 = av.reverse ++ .ref a :: st) (hr8 : (st.map fun v => v.category).sum ≤ 8)
    (kt : ∀ b w1 μ1, mWF w1 → mT w1 μ1 → mX ll w μ w1 μ1 → P b w1 μ1 → sV g M R Z (pc + 3) lv (.ref b :: st) (mk w1 μ1) (ce + C') (sl + S')) : sV g M R Z pc lv st0 (mk w μ) ce sl :=
  sv_callV hct ho hd hm hi hlk hC hT1 hA.2.1 (mk_obj hA hs) hR hce hst hr8 (by
    rintro r hp' ⟨b, w1, μ1, rfl, rfl, h0, h1, h2, h3⟩
    exact kt b w1 μ1 h0 h1 h2 h3)
def plL : List Nat := [10, 21008, 22999, 23008, 23009, 23010, 23011, 23012, 23013, 23014, 23015, 23016, 23017, 23018, 23019, 24999, 25999, 26999, 27999, 28999, 29999, 30999, 31999]
end MV39
end
section
/-! The law's room reckoned anew from the heap as it stands. -/
theorem sumL {f : Nat → Nat} (l : List Cell) (h : ∀ i c, l[i]? = some c → c.slots.size ≤ f i) : ∀ n, n ≤ l.length → ((l.take n).map fun x => x.slots.size).sum ≤ sumN f n
  | 0, _ => by simp [sumN]
  | n + 1, hn => by
    have ih := sumL l h n (by omega)
    have hl : n < l.length := by omega
    rw [List.take_add_one, List.getElem?_eq_getElem hl]
    simp only [List.map_append, List.sum_append, Option.toList_some, List.map_cons, List.map_nil, List.sum_cons, List.sum_nil]
    have := h n _ (List.getElem?_eq_getElem hl)
    show _ ≤ sumN f n + f n
    omega
def szE (x : sE) : Nat := match x with
  | .inl (_, n, _) => n
  | .inr (ci, _) => match vwCl[ci]? with
    | some r => r.2.2
    | none => 0
section TIGHT
variable {l : Launch} {D : va_G} {c : Nat → ClassId} {H0 : Heap} {sa : Nat × Nat × (Nat → Int32)} {M : sM} {R : Room} {Z : sZT} {pc : Nat} {lv : List (Nat × Value)} {st : List Value} {hp : sHp} {ce sl ce' sl' : Nat}
theorem sR.sum {H : Heap} (r : sR (gG l D c H0 sa) hp H) : ((H.toList.drop H0.size).map fun x => x.slots.size).sum ≤ sumN (fun i => szE (hp.2 i)) hp.1 := by
  have hz : H.size = H0.size + hp.1 := r.1
  have hl : (H.toList.drop H0.size).length = hp.1 := by simp; omega
  have := sumL (f := fun i => szE (hp.2 i)) (H.toList.drop H0.size) (fun i x hx => by
    have hi : i < hp.1 := by
      have := (List.getElem?_eq_some_iff.mp hx).1
      omega
    rw [List.getElem?_drop] at hx
    have hx : H[H0.size + i]? = some x := by simpa using hx
    have h := r.2.1 i hi
    revert h
    rcases hp.2 i with ⟨kd, n, f⟩ | ⟨ci, fs⟩
    · rintro ⟨cA, ty, -, h2⟩
      have e : x = arrV cA n (fun j => rv (sg_r (gG l D c H0 sa)) (f j)) := Option.some.inj (hx.symm.trans h2)
      rw [e, arrV_size]; exact Nat.le_refl _
    · rintro ⟨r', h1, -, cell, h3, h4⟩
      have e : x = cell := Option.some.inj (hx.symm.trans h3)
      have h1 : vwCl[ci]? = some r' := h1
      rw [e]
      show _ ≤ (match vwCl[ci]? with | some r => r.2.2 | none => 0)
      rw [h1]; exact h4) hp.1 (by omega)
  rw [← hl, List.take_length] at this
  rw [hl] at this
  exact this
theorem sv_tight (hL : M.1.cls = "DomainHouseLaw") (h1 : hp.1 ≤ ce') (h2 : sumN (fun i => szE (hp.2 i)) hp.1 ≤ sl') (k : sV (gG l D c H0 sa) M R Z pc lv st hp ce' sl') : sV (gG l D c H0 sa) M R Z pc lv st hp ce sl := by
  intro p e s m args below meth cc H locs ls X r hl h
  have hb : s.heap.size = H0.size := (X.2.2.2.2.2.2.2.2.1 hL).1
  have hz : H.size = H0.size + hp.1 := r.1
  intro T hT X1
  have hsum := r.sum
  obtain ⟨s1, s2, s3, s4, s5, s6⟩ := X1.same
  have eT : (T.setVm s.vm).heap = H := hT
  have X2 : Stand p l e R s m args below meth cc T locs ce' sl' := { X1 with same := ⟨s1, s2, by rw [eT, hz, hb]; omega, s4, by rw [eT, hb]; exact Nat.le_trans hsum h2, s6⟩ }
  exact k p e s m args below meth cc H locs ls X r hl h T hT X2
end TIGHT
end
section
/-! The law's invariant. -/
abbrev cL_law : ByteArray := code
abbrev mL : sM := (x, code, maxLocals, ret)
theorem szE_mk (s n : Nat) (m : Nat → Int) : szE (mCell (mTab s) n m) = szS s n := by
  have hall : (mTabL.all fun sh => match sh with
      | .inl (ci, ks) => (match vwCl[ci]? with
        | some r => Nat.beq r.2.2 ks.length
        | none => false)
      | .inr _ => true) = true := by decide +kernel
  unfold szS
  have h : mTab s ∈ mTabL ∨ mTab s = .inr (0, 0) := by
    unfold mTab
    rw [List.getD_eq_getElem?_getD]
    rcases hg : mTabL[s]? with _ | v
    · exact Or.inr rfl
    · exact Or.inl (List.mem_of_getElem? hg)
  rcases h with h | h
  · have g := List.all_eq_true.mp hall _ h
    revert g
    rcases mTab s with ⟨ci, ks⟩ | ⟨kd, k⟩
    · intro g
      have g : (match vwCl[ci]? with
        | some r => Nat.beq r.2.2 ks.length
        | none => false) = true := g
      show (match vwCl[ci]? with | some r => r.2.2 | none => 0) = ks.length
      rcases hv : vwCl[ci]? with _ | r
      · rw [hv] at g; cases g
      · rw [hv] at g; exact Nat.eq_of_beq_eq_true g
    · intro _; rfl
  · rw [h]; rfl
theorem szW_mk (w : mW) (μ : mM) : sumN (fun i => szE ((mk w μ).2 i)) w.1 = szW w := sumN_eq fun i _ => szE_mk _ _ _
def WAp (μ : mM) : Prop := μ 76 13 + μ 76 14 ≤ 1000
def TQ (w : mW) (μ : mM) : Prop := w.2.2.1 (μ 94 6).toNat = w.2.2.1 (μ 94 8).toNat
def DQ (w : mW) (μ : mM) : Prop := μ 106 5 = w.2.2.2 0
def RM (w : mW) (μ : mM) : Prop := (w.1 : Int) ≤ 192 + 35 * w.2.2.2 0 + 124 * w.2.2.2 1 + 6 * w.2.2.2 2 + (w.2.2.1 (μ 94 7).toNat : Int) + 2 * (w.2.2.1 (μ 94 6).toNat : Int) ∧ (szW w : Int) ≤ 300000 + 442 * w.2.2.2 0 + 1653 * w.2.2.2 1 + 2586 * w.2.2.2 2 + 2 * (w.2.2.1 (μ 94 7).toNat : Int) + 4 * (w.2.2.1 (μ 94 6).toNat : Int)
def J (w : mW) (μ : mM) : Prop := mWF w ∧ mT w μ ∧ PC w μ ∧ WAp μ ∧ rlP w μ ∧ TQ w μ ∧ (G1 μ ∧ EV μ ∧ PK μ) ∧ DQ w μ ∧ RM w μ
theorem J.c0 {w : mW} {μ : mM} (hw : mWF w) (hT : mT w μ) : μ 6 15 = w.2.2.2 0 ∧ 0 ≤ μ 6 15 ∧ μ 6 15 ≤ 10 := hT 6 6 (A_6 hw) 15
theorem J.c1 {w : mW} {μ : mM} (hw : mWF w) (hT : mT w μ) : μ 6 16 = w.2.2.2 1 ∧ 0 ≤ μ 6 16 ∧ μ 6 16 ≤ 20 := hT 6 6 (A_6 hw) 16
theorem J.c2 {w : mW} {μ : mM} (hw : mWF w) (hT : mT w μ) : μ 21 8 = w.2.2.2 2 ∧ 0 ≤ μ 21 8 ∧ μ 21 8 ≤ 12 := hT 21 21 (A_21 hw) 8
theorem J.lr {w : mW} {μ : mM} (hw : mWF w) (hT : mT w μ) : mAt w (μ 94 7).toNat 103 := (hT 94 94 (A_94 hw) 7).2
theorem J.lq {w : mW} {μ : mM} (hw : mWF w) (hT : mT w μ) : mAt w (μ 94 6).toNat 102 := (hT 94 94 (A_94 hw) 6).2
theorem J.lf {w : mW} {μ : mM} (hw : mWF w) (hT : mT w μ) : mAt w (μ 94 8).toNat 104 := (hT 94 94 (A_94 hw) 8).2
/-- how much room is taken -/
theorem J.bd {w : mW} {μ : mM} (h : J w μ) : w.1 ≤ 290000 ∧ szW w ≤ 1000000 := by
  obtain ⟨hw, hT, -, -, -, -, -, -, hR⟩ := h
  have a0 := J.c0 hw hT
  have a1 := J.c1 hw hT
  have a2 := J.c2 hw hT
  have b1 : w.2.2.1 (μ 94 7).toNat ≤ 93312 := (J.lr hw hT).2.2.1
  have b2 : w.2.2.1 (μ 94 6).toNat ≤ 93312 := (J.lq hw hT).2.2.1
  obtain ⟨r1, r2⟩ := hR
  omega
/-- frames of the class, frames of the reference -/
def isC (l : List Nat) : Bool := l.all fun x => Nat.blt x 106000 || Nat.ble 192000 x
def isM (l : List Nat) : Bool := l.all fun x => Nat.ble 106000 x && Nat.blt x 192000
theorem isC.no {l : List Nat} (h : isC l = true) {x : Nat} (h1 : 106000 ≤ x) (h2 : x < 192000) : l.elem x = false := by
  cases hq : l.elem x with
  | false => rfl
  | true =>
    have := List.all_eq_true.mp h x (List.elem_iff.mp hq)
    simp only [Bool.or_eq_true] at this
    rcases this with g | g
    · have := Nat.le_of_ble_eq_true g; omega
    · have := Nat.le_of_ble_eq_true g; omega
theorem isM.no {l : List Nat} (h : isM l = true) {x : Nat} (h1 : x < 106000 ∨ 192000 ≤ x) : l.elem x = false := by
  cases hq : l.elem x with
  | false => rfl
  | true =>
    have := List.all_eq_true.mp h x (List.elem_iff.mp hq)
    simp only [Bool.and_eq_true] at this
    have g1 := Nat.le_of_ble_eq_true this.1
    have g2 : x < 192000 := Nat.le_of_ble_eq_true this.2
    omega
/-- the reference's cells are as they were -/
def sM_ (μ μ1 : mM) : Prop := (∀ i, i < 1000 → μ1 106 i = μ 106 i) ∧ ∀ a, 107 ≤ a → a < 192 → μ1 a = μ a
theorem sM_.of {l : List Nat} {w w1 : mW} {μ μ1 : mM} (hw : mWF w) (hX : mX l w μ w1 μ1) (hl : isC l = true) : sM_ μ μ1 := by
  have hall : ((List.range 192).all fun a => !(Nat.ble 106 a) || (Nat.beq (mSh0 a) a && (!(Nat.ble 107 a) || mArr a))) = true := by decide +kernel
  have hsh : ∀ a, 106 ≤ a → a < 192 → mSh0 a = a ∧ (107 ≤ a → mArr a = true) := fun a h1 h2 => by
    have g := List.all_eq_true.mp hall a (List.mem_range.mpr h2)
    rw [Nat.ble_eq_true_of_le h1] at g
    simp only [Bool.not_true, Bool.false_or, Bool.and_eq_true, Bool.or_eq_true] at g
    refine ⟨Nat.eq_of_beq_eq_true g.1, fun h3 => ?_⟩
    rcases g.2 with q | q
    · rw [Nat.ble_eq_true_of_le h3] at q; cases q
    · exact q
  have w192 := hw.2.1
  refine ⟨fun i hi => hX.2 106 i (by omega) ?_, fun a h1 h2 => funext fun i => hX.2 a i (by omega) ?_⟩
  · have e : w.2.1 106 = 106 := hw.1 106 (by decide)
    refine isC.no hl ?_ ?_
    · unfold mRg; rw [e, show mArr 106 = false from rfl]; show 106000 ≤ 106000 + i; omega
    · unfold mRg; rw [e, show mArr 106 = false from rfl]; show 106000 + i < 192000; omega
  · have g := hsh a (by omega) h2
    have e : w.2.1 a = a := (hw.1 a h2).trans g.1
    refine isC.no hl ?_ ?_
    · unfold mRg; rw [e, g.2 h1]; show 106000 ≤ 1000 * a + 999; omega
    · unfold mRg; rw [e, g.2 h1]; show 1000 * a + 999 < 192000; omega
theorem G1.sm {μ μ1 : mM} (h : G1 μ) (s : sM_ μ μ1) : G1 μ1 := by
  unfold G1 at h ⊢
  rw [s.1 70 (by decide), s.2 126 (by decide) (by decide), s.2 161 (by decide) (by decide)]
  exact h
theorem EV.sm {μ μ1 : mM} (h : EV μ) (s : sM_ μ μ1) : EV μ1 := by
  unfold EV at h ⊢
  rw [s.1 6 (by decide), s.2 157 (by decide) (by decide), s.2 159 (by decide) (by decide)]
  exact h
theorem PK.sm {μ μ1 : mM} (h : PK μ) (s : sM_ μ μ1) : PK μ1 := by
  unfold PK polT at h ⊢
  rw [s.1 6 (by decide), s.1 39 (by decide), s.2 115 (by decide) (by decide), s.2 127 (by decide) (by decide), s.2 129 (by decide) (by decide), s.2 131 (by decide) (by decide), s.2 140 (by decide) (by decide), s.2 141 (by decide) (by decide)]
  exact h
/-- a step of the class that makes nothing -/
def jcF (l : List Nat) : Bool := isC l && (pcFree l && (!(l.elem 94007) && (!(l.elem 94014) && (!(l.elem 94006) && !(l.elem 94008)))))
theorem J.cls {l : List Nat} {w : mW} {μ μ1 : mM} (h : J w μ) (hT1 : mT w μ1) (hF : mF l w μ μ1) (hl : jcF l = true) (hWA : WAp μ1) : J w μ1 := by
  obtain ⟨hw, hT, hPC, -, hrl, hTQ, ⟨hG, hE, hPK⟩, hD, hR⟩ := h
  simp only [jcF, Bool.and_eq_true, Bool.not_eq_true'] at hl
  obtain ⟨l1, l2, l3, l4, l5, l6⟩ := hl
  have s := sM_.of hw (mX.fr (l := l) mX.refl hF (List.all_eq_true.mpr fun x hx => List.elem_iff.mpr hx)) l1
  have e7 : μ1 94 7 = μ 94 7 := hF.f (A_94 hw) l3 rfl
  have e14 : μ1 94 14 = μ 94 14 := hF.f (A_94 hw) l4 rfl
  have e6 : μ1 94 6 = μ 94 6 := hF.f (A_94 hw) l5 rfl
  have e8 : μ1 94 8 = μ 94 8 := hF.f (A_94 hw) l6 rfl
  refine ⟨hw, hT1, hPC.keep hw hF l2, hWA, ?_, ?_, ⟨hG.sm s, hE.sm s, hPK.sm s⟩, ?_, ?_⟩
  · unfold rlP; rw [e7, e14]; exact hrl
  · unfold TQ; rw [e6, e8]; exact hTQ
  · unfold DQ; rw [s.1 5 (by decide)]; exact hD
  · unfold RM; rw [e7, e6]; exact hR
theorem WAp.f {l : List Nat} {w : mW} {μ μ1 : mM} (h : WAp μ) (hw : mWF w) (hF : mF l w μ μ1) (h1 : l.elem 76013 = false) (h2 : l.elem 76014 = false) : WAp μ1 := by
  have e1 : μ1 76 13 = μ 76 13 := hF.f (A_76 hw) h1 rfl
  have e2 : μ1 76 14 = μ 76 14 := hF.f (A_76 hw) h2 rfl
  unfold WAp; rw [e1, e2]; exact h
/-- a step of the reference -/
theorem J.mod {l : List Nat} {w : mW} {μ μ1 : mM} (h : J w μ) (hT1 : mT w μ1) (hF : mF l w μ μ1) (hl : isM l = true) (hl2 : pcFree l = true) (hG : G1 μ1) (hE : EV μ1) (hP : PK μ1) (hD : μ1 106 5 = μ 106 5) : J w μ1 := by
  obtain ⟨hw, hT, hPC, hWA, hrl, hTQ, -, hDQ, hR⟩ := h
  have e7 : μ1 94 7 = μ 94 7 := hF.f (A_94 hw) (isM.no hl (Or.inl (by decide))) rfl
  have e14 : μ1 94 14 = μ 94 14 := hF.f (A_94 hw) (isM.no hl (Or.inl (by decide))) rfl
  have e6 : μ1 94 6 = μ 94 6 := hF.f (A_94 hw) (isM.no hl (Or.inl (by decide))) rfl
  have e8 : μ1 94 8 = μ 94 8 := hF.f (A_94 hw) (isM.no hl (Or.inl (by decide))) rfl
  refine ⟨hw, hT1, hPC.keep hw hF hl2, hWA.f hw hF (isM.no hl (Or.inl (by decide))) (isM.no hl (Or.inl (by decide))), ?_, ?_, ⟨hG, hE, hP⟩, ?_, ?_⟩
  · unfold rlP; rw [e7, e14]; exact hrl
  · unfold TQ; rw [e6, e8]; exact hTQ
  · unfold DQ; rw [hD]; exact hDQ
  · unfold RM; rw [e7, e6]; exact hR
theorem G1.fr {l : List Nat} {w : mW} {μ μ1 : mM} (h : G1 μ) (hw : mWF w) (hF : mF l w μ μ1) (h1 : l.elem 106070 = false) (h2 : l.elem 126999 = false) (h3 : l.elem 161999 = false) : G1 μ1 := by
  have e1 : μ1 106 70 = μ 106 70 := hF.f (A_106 hw) h1 rfl
  have e2 : μ1 126 = μ 126 := funext fun i => hF.f (A_126 hw) h2 rfl
  have e3 : μ1 161 = μ 161 := funext fun i => hF.f (A_161 hw) h3 rfl
  unfold G1 at h ⊢
  rw [e1, e2, e3]; exact h
/-- a step of the class that makes cells -/
theorem J.grow {l : List Nat} {w w1 : mW} {μ μ1 : mM} (h : J w μ) (hw1 : mWF w1) (hT1 : mT w1 μ1) (hX : mX l w μ w1 μ1) (hl : isC l = true) (h1 : l.elem 76013 = false) (h2 : l.elem 76014 = false) (hPC : PC w1 μ1) (hrl : rlP w1 μ1) (hTQ : TQ w1 μ1) (hD : μ1 106 5 = w1.2.2.2 0) (hR : RM w1 μ1) : J w1 μ1 := by
  obtain ⟨hw, hT, -, hWA, -, -, ⟨hG, hE, hPK⟩, -, -⟩ := h
  have s := sM_.of hw hX hl
  have e1 : μ1 76 13 = μ 76 13 := hX.f (A_76 hw) h1 rfl
  have e2 : μ1 76 14 = μ 76 14 := hX.f (A_76 hw) h2 rfl
  exact ⟨hw1, hT1, hPC, by unfold WAp; rw [e1, e2]; exact hWA, hrl, hTQ, ⟨hG.sm s, hE.sm s, hPK.sm s⟩, hD, hR⟩
/-- the counters behind a step that leaves the fields that tell them -/
theorem cntX_same {l : List Nat} {w w1 : mW} {μ μ1 : mM} (hw : mWF w) (hT : mT w μ) (hw1 : mWF w1) (hT1 : mT w1 μ1) (hX : mX l w μ w1 μ1) (h1 : l.elem 6015 = false) (h2 : l.elem 6016 = false) (h3 : l.elem 21008 = false) : w1.2.2.2 0 = w.2.2.2 0 ∧ w1.2.2.2 1 = w.2.2.2 1 ∧ w1.2.2.2 2 = w.2.2.2 2 := by
  have e1 : μ1 6 15 = μ 6 15 := hX.f (A_6 hw) h1 rfl
  have e2 : μ1 6 16 = μ 6 16 := hX.f (A_6 hw) h2 rfl
  have e3 : μ1 21 8 = μ 21 8 := hX.f (A_21 hw) h3 rfl
  have a0 := J.c0 hw hT
  have a1 := J.c1 hw hT
  have a2 := J.c2 hw hT
  have b0 := J.c0 hw1 hT1
  have b1 := J.c1 hw1 hT1
  have b2 := J.c2 hw1 hT1
  omega
theorem len_same {l : List Nat} {w w1 : mW} {μ μ1 : mM} {k s : Nat} (hX : mX l w μ w1 μ1) (hA : mAt w (μ 94 k).toNat s) (e : μ1 94 k = μ 94 k) : w1.2.2.1 (μ1 94 k).toNat = w.2.2.1 (μ 94 k).toNat := by
  rw [e]; exact (hX.1.2.1 _ hA.2.1).2
/-! steps of the class that make cells -/
theorem J.dom {w w1 : mW} {μ μ1 : mM} (h : J w μ) (hw1 : mWF w1) (hT1 : mT w1 μ1) (hX : mX [6015, 10999] w μ w1 μ1) (hc : w1.2.2.2 = (wCt w 0).2.2.2) (h1 : w1.1 = w.1 + 35) (h2 : szW w1 = szW w + 442) : mWF w1 ∧ mT w1 μ1 ∧ PC w1 μ1 ∧ WAp μ1 ∧ rlP w1 μ1 ∧ TQ w1 μ1 ∧ (G1 μ1 ∧ EV μ1 ∧ PK μ1) ∧ μ1 106 5 + 1 = w1.2.2.2 0 ∧ RM w1 μ1 := by
  obtain ⟨hw, hT, hPC, hWA, hrl, hTQ, ⟨hG, hE, hPK⟩, hD, hR⟩ := h
  have s := sM_.of hw hX rfl
  have c0 : w1.2.2.2 0 = w.2.2.2 0 + 1 := by rw [hc]; rfl
  have c1 : w1.2.2.2 1 = w.2.2.2 1 := by rw [hc]; rfl
  have c2 : w1.2.2.2 2 = w.2.2.2 2 := by rw [hc]; rfl
  have e7 : μ1 94 7 = μ 94 7 := hX.f (A_94 hw) rfl rfl
  have e14 : μ1 94 14 = μ 94 14 := hX.f (A_94 hw) rfl rfl
  have e6 : μ1 94 6 = μ 94 6 := hX.f (A_94 hw) rfl rfl
  have e8 : μ1 94 8 = μ 94 8 := hX.f (A_94 hw) rfl rfl
  have k7 := len_same hX (J.lr hw hT) e7
  have k6 := len_same hX (J.lq hw hT) e6
  have k8 := len_same hX (J.lf hw hT) e8
  have w13 : μ1 76 13 = μ 76 13 := hX.f (A_76 hw) rfl rfl
  have w14 : μ1 76 14 = μ 76 14 := hX.f (A_76 hw) rfl rfl
  refine ⟨hw1, hT1, hPC.keepX hw hX c2 rfl hT, by unfold WAp; rw [w13, w14]; exact hWA, ?_, ?_, ⟨hG.sm s, hE.sm s, hPK.sm s⟩, ?_, ?_⟩
  · unfold rlP; rw [k7, e14]; exact hrl
  · unfold TQ; rw [k6, k8]; exact hTQ
  · unfold DQ at hD; rw [s.1 5 (by decide), hD, c0]
  · unfold RM at hR ⊢; rw [k7, k6, c0, c1, c2, h1, h2]; omega
theorem J.tie {w w1 : mW} {μ μ1 : mM} (h : J w μ) (hw1 : mWF w1) (hT1 : mT w1 μ1) (hX : mX [6016, 11999] w μ w1 μ1) (hp : (w1 = w ∧ μ1 = μ) ∨ (w1.2.2.2 = (wCt w 1).2.2.2 ∧ w1.1 = w.1 + 124 ∧ szW w1 = szW w + 1653)) : J w1 μ1 := by
  rcases hp with ⟨rfl, rfl⟩ | ⟨hc, h1, h2⟩
  · exact h
  · obtain ⟨hw, hT, hPC, hWA, hrl, hTQ, -, hD, hR⟩ := id h
    have s := sM_.of hw hX rfl
    have c0 : w1.2.2.2 0 = w.2.2.2 0 := by rw [hc]; rfl
    have c1 : w1.2.2.2 1 = w.2.2.2 1 + 1 := by rw [hc]; rfl
    have c2 : w1.2.2.2 2 = w.2.2.2 2 := by rw [hc]; rfl
    have e7 : μ1 94 7 = μ 94 7 := hX.f (A_94 hw) rfl rfl
    have e14 : μ1 94 14 = μ 94 14 := hX.f (A_94 hw) rfl rfl
    have e6 : μ1 94 6 = μ 94 6 := hX.f (A_94 hw) rfl rfl
    have e8 : μ1 94 8 = μ 94 8 := hX.f (A_94 hw) rfl rfl
    have k7 := len_same hX (J.lr hw hT) e7
    have k6 := len_same hX (J.lq hw hT) e6
    have k8 := len_same hX (J.lf hw hT) e8
    refine h.grow hw1 hT1 hX rfl rfl rfl (hPC.keepX hw hX c2 rfl hT) ?_ ?_ ?_ ?_
    · unfold rlP; rw [k7, e14]; exact hrl
    · unfold TQ; rw [k6, k8]; exact hTQ
    · unfold DQ at hD; rw [s.1 5 (by decide), hD, c0]
    · unfold RM at hR ⊢; rw [k7, k6, c0, c1, c2, h1, h2]; omega
theorem J.pol {w w1 : mW} {μ μ1 : mM} (h : J w μ) (hw1 : mWF w1) (hT1 : mT w1 μ1) (hX : mX plL w μ w1 μ1) (hPC : PC w1 μ1) (hp : w1 = w ∨ (w1.1 = w.1 + 6 ∧ szW w1 ≤ szW w + 2586 ∧ w1.2.2.2 = (wCt w 2).2.2.2)) : J w1 μ1 := by
  obtain ⟨hw, hT, -, hWA, hrl, hTQ, -, hD, hR⟩ := id h
  have s := sM_.of hw hX rfl
  have e7 : μ1 94 7 = μ 94 7 := hX.f (A_94 hw) rfl rfl
  have e14 : μ1 94 14 = μ 94 14 := hX.f (A_94 hw) rfl rfl
  have e6 : μ1 94 6 = μ 94 6 := hX.f (A_94 hw) rfl rfl
  have e8 : μ1 94 8 = μ 94 8 := hX.f (A_94 hw) rfl rfl
  have k7 := len_same hX (J.lr hw hT) e7
  have k6 := len_same hX (J.lq hw hT) e6
  have k8 := len_same hX (J.lf hw hT) e8
  have cc : w1.2.2.2 0 = w.2.2.2 0 ∧ w1.2.2.2 1 = w.2.2.2 1 ∧ ((w1.1 = w.1 ∧ szW w1 = szW w ∧ w1.2.2.2 2 = w.2.2.2 2) ∨ (w1.1 = w.1 + 6 ∧ szW w1 ≤ szW w + 2586 ∧ w1.2.2.2 2 = w.2.2.2 2 + 1)) := by
    rcases hp with rfl | ⟨h1, h2, hc⟩
    · exact ⟨rfl, rfl, Or.inl ⟨rfl, rfl, rfl⟩⟩
    · exact ⟨by rw [hc]; rfl, by rw [hc]; rfl, Or.inr ⟨h1, h2, by rw [hc]; rfl⟩⟩
  obtain ⟨c0, c1, c2⟩ := cc
  refine h.grow hw1 hT1 hX rfl rfl rfl hPC ?_ ?_ ?_ ?_
  · unfold rlP; rw [k7, e14]; exact hrl
  · unfold TQ; rw [k6, k8]; exact hTQ
  · unfold DQ at hD; rw [s.1 5 (by decide), hD, c0]
  · unfold RM at hR ⊢; rw [k7, k6, c0, c1]; omega
theorem J.rst {w w1 : mW} {μ μ1 : mM} {b : Nat} (h : J w μ) (hw1 : mWF w1) (hT1 : mT w1 μ1) (hX : mX frL w μ w1 μ1) (q7 : μ 94 7 = (b : Int)) (hp : rlQ w (w.2.2.1 b) w1 μ1) : J w1 μ1 := by
  obtain ⟨hw, hT, hPC, hWA, hrl, hTQ, -, hD, hR⟩ := id h
  have s := sM_.of hw hX rfl
  obtain ⟨c0, c1, c2⟩ := cntX_same hw hT hw1 hT1 hX rfl rfl rfl
  have e6 : μ1 94 6 = μ 94 6 := hX.f (A_94 hw) rfl rfl
  have e8 : μ1 94 8 = μ 94 8 := hX.f (A_94 hw) rfl rfl
  have k6 := len_same hX (J.lq hw hT) e6
  have k8 := len_same hX (J.lf hw hT) e8
  obtain ⟨p1, p2, p3⟩ := hp
  have eb : (μ 94 7).toNat = b := by omega
  refine h.grow hw1 hT1 hX rfl rfl rfl (hPC.keepX hw hX c2 rfl hT) p1 ?_ ?_ ?_
  · unfold TQ; rw [k6, k8]; exact hTQ
  · unfold DQ at hD; rw [s.1 5 (by decide), hD, c0]
  · unfold RM at hR ⊢; rw [k6, c0, c1, c2]; rw [eb] at hR; omega
theorem J.try {w w1 : mW} {μ μ1 : mM} {bq : Nat} (h : J w μ) (hw1 : mWF w1) (hT1 : mT w1 μ1) (hX : mX [94006, 94008, 94009, 94011, 98999, 99999, 100999, 101999, 102999, 104999, 105999] w μ w1 μ1) (q6 : μ 94 6 = (bq : Int)) (hp : w1.2.2.1 (μ1 94 6).toNat = w1.2.2.1 (μ1 94 8).toNat) (pm : (szW w1 : Int) + 4 * (w.2.2.1 bq : Int) ≤ szW w + 4 * (w1.2.2.1 (μ1 94 6).toNat : Int) ∧ (w1.1 : Int) + 2 * (w.2.2.1 bq : Int) ≤ (w.1 : Int) + 2 * (w1.2.2.1 (μ1 94 6).toNat : Int)) : J w1 μ1 := by
  obtain ⟨hw, hT, hPC, hWA, hrl, hTQ, -, hD, hR⟩ := id h
  have s := sM_.of hw hX rfl
  obtain ⟨c0, c1, c2⟩ := cntX_same hw hT hw1 hT1 hX rfl rfl rfl
  have e7 : μ1 94 7 = μ 94 7 := hX.f (A_94 hw) rfl rfl
  have e14 : μ1 94 14 = μ 94 14 := hX.f (A_94 hw) rfl rfl
  have k7 := len_same hX (J.lr hw hT) e7
  have eb : (μ 94 6).toNat = bq := by omega
  obtain ⟨p2, p3⟩ := pm
  refine h.grow hw1 hT1 hX rfl rfl rfl (hPC.keepX hw hX c2 rfl hT) ?_ hp ?_ ?_
  · unfold rlP; rw [k7, e14]; exact hrl
  · unfold DQ at hD; rw [s.1 5 (by decide), hD, c0]
  · unfold RM at hR ⊢; rw [k7, c0, c1, c2]; rw [eb] at hR; omega
/-! the law's own steps -/
section LAWR
variable {l : Launch} {D : va_G} {c : Nat → ClassId} {H0 : Heap} {sa : Nat × Nat × (Nat → Int32)} {M : sM} {R : Room} {Z : sZT} {pc : Nat} {lv : List (Nat × Value)} {st : List Value} {hp : sHp} {ce sl : Nat}
theorem sv_pop2L {z : Int64} (hd : decode M.2.1 pc = .ok (.pop2, 1)) (k : sV (gG l D c H0 sa) M R Z (pc + 1) lv st hp ce sl) : sV (gG l D c H0 sa) M R Z pc lv (.long z :: st) hp ce sl := fun p e s m args below meth cc H locs ls X r hl h => lv_pop2_2 X.1 X.2.1 hd rfl (k p e s m args below meth cc H locs ls X r hl h)
theorem la_ld {e : Int} (hd : decode M.2.1 pc = .ok (.iaload, 1)) (he : 0 ≤ e ∧ e < (sa.2.1 : Int)) (hs : sa.2.1 ≤ 3584) (kk : ∀ z : Int, (-2147483648 ≤ z ∧ z ≤ 2147483647) → sV (gG l D c H0 sa) M R Z (pc + 1) lv (iv z :: st) hp ce sl) : sV (gG l D c H0 sa) M R Z pc lv (iv e :: .retAddr 0 :: st) hp ce sl := by
  refine sv_sld hd (iv_in (n := sa.2.1) he (by omega)) ?_
  have e1 : ∀ v : Int32, Value.int v = iv v.toInt := fun v => by
    show Value.int v = Value.int (Int32.ofInt v.toInt)
    rw [Int32.ofInt_toInt]
  rw [e1]
  have b1 := Int32.le_toInt (sg_xs (gG l D c H0 sa) (Int32.ofInt e).toNatClampNeg)
  have b2 := Int32.toInt_lt (sg_xs (gG l D c H0 sa) (Int32.ofInt e).toNatClampNeg)
  exact kk _ ⟨by omega, by omega⟩
theorem la_arg {j L : Int} (hd0 : decode M.2.1 pc = .ok (.aload_n 0, 1)) (hd1 : decode M.2.1 (pc + 1) = .ok (.iload_n 3, 1)) (hd2 : decode M.2.1 (pc + 2) = .ok (.iconst j, 1)) (hd3 : decode M.2.1 (pc + 3) = .ok (.iadd, 1)) (hd4 : decode M.2.1 (pc + 4) = .ok (.iaload, 1)) (hg0 : sGet 0 lv = some (.retAddr 0)) (hg3 : sGet 3 lv = some (iv L)) (hL : 0 ≤ L ∧ L + 7 ≤ (sa.2.1 : Int)) (hj : 0 ≤ j ∧ j ≤ 6) (hs : sa.2.1 ≤ 3584) (kk : ∀ z : Int, (-2147483648 ≤ z ∧ z ≤ 2147483647) → sV (gG l D c H0 sa) M R Z (pc + 5) lv (iv z :: st) hp ce sl) : sV (gG l D c H0 sa) M R Z pc lv st hp ce sl := by
  refine sv_aload_nS hd0 rfl hg0 ?_
  refine mr_iload_n (pc := pc + 1) hd1 rfl hg3 ?_
  refine mr_iconst (pc := pc + 1 + 1) hd2 ?_
  refine mr_iadd (pc := pc + 1 + 1 + 1) hd3 ?_
  exact la_ld (pc := pc + 1 + 1 + 1 + 1) hd4 ⟨by omega, by omega⟩ hs kk
theorem la_arg6 {L : Int} (hd0 : decode M.2.1 pc = .ok (.aload_n 0, 1)) (hd1 : decode M.2.1 (pc + 1) = .ok (.iload_n 3, 1)) (hd2 : decode M.2.1 (pc + 2) = .ok (.bipush 6, 2)) (hd3 : decode M.2.1 (pc + 4) = .ok (.iadd, 1)) (hd4 : decode M.2.1 (pc + 5) = .ok (.iaload, 1)) (hg0 : sGet 0 lv = some (.retAddr 0)) (hg3 : sGet 3 lv = some (iv L)) (hL : 0 ≤ L ∧ L + 7 ≤ (sa.2.1 : Int)) (hs : sa.2.1 ≤ 3584) (kk : ∀ z : Int, (-2147483648 ≤ z ∧ z ≤ 2147483647) → sV (gG l D c H0 sa) M R Z (pc + 6) lv (iv z :: st) hp ce sl) : sV (gG l D c H0 sa) M R Z pc lv st hp ce sl := by
  refine sv_aload_nS hd0 rfl hg0 ?_
  refine mr_iload_n (pc := pc + 1) hd1 rfl hg3 ?_
  refine mr_bipush (pc := pc + 1 + 1) hd2 (by decide) ?_
  refine mr_iadd (pc := pc + 1 + 1 + 2) hd3 ?_
  exact la_ld (pc := pc + 1 + 1 + 2 + 1) hd4 ⟨by omega, by omega⟩ hs kk
/-- a boolean out of an int -/
theorem la_bool {x : Int} (hd : decode M.2.1 pc = .ok (.ifCond .eq 7, 3)) (hd1 : decode M.2.1 (pc + 3) = .ok (.iconst 1, 1)) (hd2 : decode M.2.1 (pc + 4) = .ok (.goto 4, 3)) (hd3 : decode M.2.1 (pc + 7) = .ok (.iconst 0, 1)) (hx : -2147483648 ≤ x ∧ x ≤ 2147483647) (kk : ∀ z : Int, (0 ≤ z ∧ z ≤ 1) → sV (gG l D c H0 sa) M R Z (pc + 8) lv (iv z :: st) hp ce sl) : sV (gG l D c H0 sa) M R Z pc lv (iv x :: st) hp ce sl := by
  refine mr_if_eq (tgt := pc + 7) hd (by omega) hx (fun _ => ?_) (fun _ => ?_)
  · refine mr_iconst (pc := pc + 7) hd3 ?_
    exact kk 0 (by decide)
  · refine mr_iconst (pc := pc + 3) hd1 ?_
    refine sv_goto (pc := pc + 3 + 1) (tgt := pc + 8) hd2 (by omega) ?_
    exact kk 1 (by decide)
end LAWR
end
section
/-! no rows -/
end
section
/-! no rows -/
end
section
/-! One walk for all memories that agree on what is read (S): the answer is the same for all of them.
K: what every such memory keeps in cell 106; W: what may be written. -/
def agr (S : Nat → Nat → Prop) (μ ν : mM) : Prop := ∀ a i, S a i → ν a i = μ a i
theorem agr.refl {S : Nat → Nat → Prop} {μ : mM} : agr S μ μ := fun _ _ _ => rfl
theorem agr.mono {S S' : Nat → Nat → Prop} {μ ν : mM} (h : agr S μ ν) (hs : ∀ a i, S' a i → S a i) : agr S' μ ν := fun a i q => h a i (hs a i q)
/-- a slot more -/
def Sins (S : Nat → Nat → Prop) (a k : Nat) : Nat → Nat → Prop := fun b j => S b j ∨ (b = a ∧ j = k)
theorem agr.ups {S : Nat → Nat → Prop} {μ ν μ1 ν1 : mM} {a k : Nat} {z : Int} (h : agr S μ ν) (u : mU μ a k z μ1) (v : mU ν a k z ν1) : agr (Sins S a k) μ1 ν1 := fun b j q => by
  by_cases e : b = a ∧ j = k
  · obtain ⟨rfl, rfl⟩ := e
    rw [u.1, v.1]
  · have e' : b ≠ a ∨ j ≠ k := Classical.or_iff_not_imp_left.mpr fun h1 h2 => e ⟨Classical.not_not.mp h1, h2⟩
    rw [u.2 b j e', v.2 b j e']
    exact h b j (q.resolve_right e)
theorem agr.up {S : Nat → Nat → Prop} {μ ν μ1 ν1 : mM} {a k : Nat} {z : Int} (h : agr S μ ν) (u : mU μ a k z μ1) (v : mU ν a k z ν1) : agr S μ1 ν1 := (h.ups u v).mono fun _ _ q => Or.inl q
theorem agr.cls {S : Nat → Nat → Prop} {μ ν : mM} (h : agr S μ ν) : agr S μ = agr S ν := by
  funext x
  refine propext ⟨fun g a i q => (g a i q).trans (h a i q).symm, fun g a i q => (g a i q).trans (h a i q)⟩
theorem mU.eq {μ μ1 : mM} {a k : Nat} {z : Int} (h : mU μ a k z μ1) : μ1 = mUp μ a k z := by
  funext b j
  by_cases e : b = a ∧ j = k
  · obtain ⟨rfl, rfl⟩ := e
    rw [h.1, mUp_ok.1]
  · have e' : b ≠ a ∨ j ≠ k := Classical.or_iff_not_imp_left.mpr fun h1 h2 => e ⟨Classical.not_not.mp h1, h2⟩
    rw [h.2 b j e', mUp_ok.2 b j e']
theorem mUp.cell {μ : mM} {a k b : Nat} {z : Int} (h : b ≠ a) : mUp μ a k z b = μ b := by
  funext j
  exact mUp_ok.2 b j (Or.inl h)
def xqP (_w : mW) (μ : mM) (P : Int → Prop) : Option Value → mM → Prop := fun r m => ∃ z, r = some (iv z) ∧ m = μ ∧ P z
def xqI (w : mW) (lf : List Nat) (μ : mM) (P : Int → mM → Prop) : Option Value → mM → Prop := fun r m => ∃ z, r = some (iv z) ∧ mT w m ∧ mF lf w μ m ∧ P z m
def xqV (w : mW) (lf : List Nat) (μ : mM) (P : mM → Prop) : Option Value → mM → Prop := fun r m => r = none ∧ mT w m ∧ mF lf w μ m ∧ P m
/-- the machine at a place: all memories that agree with μ on S end with the same answer, and agree with the same memory on SE -/
def VS (l : Launch) (D : va_G) (c : Nat → ClassId) (H0 : Heap) (sa : Nat × Nat × (Nat → Int32)) (K : (Nat → Int) → (Nat → Int) → Prop) (W S SE : Nat → Nat → Prop) (M : sM) (R : Room) (Q : Option Value → mM → Prop) (pc : Nat) (lv : List (Nat × Value)) (st : List Value) (μ : mM) : Prop :=
  ∃ r μe, Q r μe ∧ ∀ w ν γ, mWF w → mT w ν → K γ (ν 106) → agr S μ ν → ∃ νe, (mT w νe ∧ K γ (νe 106) ∧ agr SE μe νe ∧ (∀ a i, ¬ W a i → νe a i = ν a i)) ∧ sV (gG l D c H0 sa) M R (sZ (gG l D c H0 sa) 0 0 (fun r' hp => r' = r ∧ hp = mk w νe)) pc lv st (mk w ν) 0 0
/-- a method -/
def VC (l : Launch) (D : va_G) (c : Nat → ClassId) (H0 : Heap) (sa : Nat × Nat × (Nat → Int32)) (K : (Nat → Int) → (Nat → Int) → Prop) (W S SE : Nat → Nat → Prop) (M : sM) (d : Nat) (av : List Value) (μ : mM) (Q : Option Value → mM → Prop) : Prop :=
  ∃ r μe, Q r μe ∧ ∀ w ν γ, mWF w → mT w ν → K γ (ν 106) → agr S μ ν → ∃ νe, (mT w νe ∧ K γ (νe 106) ∧ agr SE μe νe ∧ (∀ a i, ¬ W a i → νe a i = ν a i)) ∧ sC (gG l D c H0 sa) M d 0 0 av (mk w ν) (fun r' hp => r' = r ∧ hp = mk w νe)
section VXS
variable {l : Launch} {D : va_G} {c : Nat → ClassId} {H0 : Heap} {sa : Nat × Nat × (Nat → Int32)} {w : mW} {K : (Nat → Int) → (Nat → Int) → Prop} {W S S' SE : Nat → Nat → Prop} {Q : Option Value → mM → Prop} {M M' : sM} {R : Room} {d d' : Nat} {μ : mM} {pc pc' : Nat} {lv lv' : List (Nat × Value)} {st st' st0 av : List Value} {lf : List Nat}
theorem VC.of (hy : plainName M.1.cls = true) (hL : M.1.cls ≠ "DomainHouseLaw") (hn : (lg_sl av).length ≤ M.2.2.1) (h : VS l D c H0 sa K W S SE M (sRm d 0 0) Q 0 (lv_args 0 av) [] μ) : VC l D c H0 sa K W S SE M d av μ Q := by
  obtain ⟨r, μe, h1, h3⟩ := h
  refine ⟨r, μe, h1, fun w ν γ x a b d => ?_⟩
  obtain ⟨νe, g1, g2⟩ := h3 w ν γ x a b d
  exact ⟨νe, g1, sC.of hy hL hn g2⟩
theorem VS.lift (hr : ∀ (w : mW) (ν : mM) (Z : sZT), mWF w → mT w ν → (∃ γ, K γ (ν 106)) → agr S μ ν → sV (gG l D c H0 sa) M R Z pc' lv' st' (mk w ν) 0 0 → sV (gG l D c H0 sa) M R Z pc lv st (mk w ν) 0 0) (k : VS l D c H0 sa K W S SE M R Q pc' lv' st' μ) : VS l D c H0 sa K W S SE M R Q pc lv st μ := by
  obtain ⟨z, μe, h1, h3⟩ := k
  refine ⟨z, μe, h1, fun w ν γ x a b d => ?_⟩
  obtain ⟨νe, g1, g2⟩ := h3 w ν γ x a b d
  exact ⟨νe, g1, hr w ν _ x a ⟨γ, b⟩ d g2⟩
theorem VS.mono (hs : ∀ a i, S' a i → S a i) (k : VS l D c H0 sa K W S' SE M R Q pc lv st μ) : VS l D c H0 sa K W S SE M R Q pc lv st μ := by
  obtain ⟨z, μe, h1, h3⟩ := k
  exact ⟨z, μe, h1, fun w ν γ x a b d => h3 w ν γ x a b (d.mono hs)⟩
/-- a store: what agreed agrees, and the slot too -/
theorem VS.put {a k : Nat} {z : Int} (hA : a ≠ 106) (hW : W a k) (hr : ∀ (w : mW) (ν : mM) (Z : sZT), mWF w → mT w ν → (∀ ν1, mU ν a k z ν1 → mT w ν1 → sV (gG l D c H0 sa) M R Z pc' lv' st' (mk w ν1) 0 0) → sV (gG l D c H0 sa) M R Z pc lv st (mk w ν) 0 0) (hz : ∀ (w : mW) (ν : mM), mWF w → mT w ν → mT w (mUp ν a k z)) (kt : VS l D c H0 sa K W (Sins S a k) SE M R Q pc' lv' st' (mUp μ a k z)) : VS l D c H0 sa K W S SE M R Q pc lv st μ := by
  obtain ⟨z', μe, h1, h3⟩ := kt
  refine ⟨z', μe, h1, fun w ν γ x T y d => ?_⟩
  obtain ⟨νe, ⟨g1, g2, g3, g4⟩, g5⟩ := h3 w (mUp ν a k z) γ x (hz w ν x T) (by rw [mUp.cell (Ne.symm hA)]; exact y) (d.ups mUp_ok mUp_ok)
  refine ⟨νe, ⟨g1, g2, g3, fun b j q => (g4 b j q).trans (mUp_ok.2 b j ?_)⟩, hr w ν _ x T (fun ν1 u _ => by rw [u.eq]; exact g5)⟩
  by_cases e : b = a
  · exact Or.inr fun f => q (by rw [e, f]; exact hW)
  · exact Or.inl e
/-! returns -/
theorem xmr_iretP {z : Int} {P : Int → Prop} (hd : decode M.2.1 pc = .ok (.ireturn, 1)) (hret : M.2.2.2 = some .int) (_ : 0 ≤ 0) (_ : 0 ≤ 0) (hP : P z) (hs : ∀ a i, SE a i → S a i := by first | exact fun _ _ h => h | exact fun _ _ h => Or.inl h | exact fun _ _ h => Or.inl (Or.inl h)) : VS l D c H0 sa K W S SE M R (xqP w μ P) pc lv [iv z] μ :=
  ⟨some (iv z), μ, ⟨z, rfl, rfl, hP⟩, fun _ ν _ _ a b d => ⟨ν, ⟨a, b, d.mono hs, fun _ _ _ => rfl⟩, sv_iret hd hret (Nat.le_refl _) (Nat.le_refl _) ⟨rfl, rfl⟩⟩⟩
theorem xmr_zretP {z : Int} {P : Int → Prop} (hd : decode M.2.1 pc = .ok (.ireturn, 1)) (hret : M.2.2.2 = some .boolean) (hz : 0 ≤ z ∧ z ≤ 1) (_ : 0 ≤ 0) (_ : 0 ≤ 0) (hP : P z) (hs : ∀ a i, SE a i → S a i := by first | exact fun _ _ h => h | exact fun _ _ h => Or.inl h | exact fun _ _ h => Or.inl (Or.inl h)) : VS l D c H0 sa K W S SE M R (xqP w μ P) pc lv [iv z] μ :=
  ⟨some (iv z), μ, ⟨z, rfl, rfl, hP⟩, fun _ ν _ _ a b d => ⟨ν, ⟨a, b, d.mono hs, fun _ _ _ => rfl⟩, sv_zret hd hret (nar01i hz) (Nat.le_refl _) (Nat.le_refl _) ⟨rfl, rfl⟩⟩⟩
theorem xmr_iret {μ1 : mM} {z : Int} {P : Int → mM → Prop} (hd : decode M.2.1 pc = .ok (.ireturn, 1)) (hret : M.2.2.2 = some .int) (_ : 0 ≤ 0) (_ : 0 ≤ 0) (hT : mT w μ1) (hF : mF lf w μ μ1) (hP : P z μ1) (hs : ∀ a i, SE a i → S a i := by first | exact fun _ _ h => h | exact fun _ _ h => Or.inl h | exact fun _ _ h => Or.inl (Or.inl h)) : VS l D c H0 sa K W S SE M R (xqI w lf μ P) pc lv [iv z] μ1 :=
  ⟨some (iv z), μ1, ⟨z, rfl, hT, hF, hP⟩, fun _ ν _ _ a b d => ⟨ν, ⟨a, b, d.mono hs, fun _ _ _ => rfl⟩, sv_iret hd hret (Nat.le_refl _) (Nat.le_refl _) ⟨rfl, rfl⟩⟩⟩
theorem xmr_zret {μ1 : mM} {z : Int} {P : Int → mM → Prop} (hd : decode M.2.1 pc = .ok (.ireturn, 1)) (hret : M.2.2.2 = some .boolean) (hz : 0 ≤ z ∧ z ≤ 1) (_ : 0 ≤ 0) (_ : 0 ≤ 0) (hT : mT w μ1) (hF : mF lf w μ μ1) (hP : P z μ1) (hs : ∀ a i, SE a i → S a i := by first | exact fun _ _ h => h | exact fun _ _ h => Or.inl h | exact fun _ _ h => Or.inl (Or.inl h)) : VS l D c H0 sa K W S SE M R (xqI w lf μ P) pc lv [iv z] μ1 :=
  ⟨some (iv z), μ1, ⟨z, rfl, hT, hF, hP⟩, fun _ ν _ _ a b d => ⟨ν, ⟨a, b, d.mono hs, fun _ _ _ => rfl⟩, sv_zret hd hret (nar01i hz) (Nat.le_refl _) (Nat.le_refl _) ⟨rfl, rfl⟩⟩⟩
theorem xmr_vret {μ1 : mM} {P : mM → Prop} (hd : decode M.2.1 pc = .ok (.return_, 1)) (hret : M.2.2.2 = none) (_ : 0 ≤ 0) (_ : 0 ≤ 0) (hT : mT w μ1) (hF : mF lf w μ μ1) (hP : P μ1) (hs : ∀ a i, SE a i → S a i := by first | exact fun _ _ h => h | exact fun _ _ h => Or.inl h | exact fun _ _ h => Or.inl (Or.inl h)) : VS l D c H0 sa K W S SE M R (xqV w lf μ P) pc lv [] μ1 :=
  ⟨none, μ1, ⟨rfl, hT, hF, hP⟩, fun _ ν _ _ a b d => ⟨ν, ⟨a, b, d.mono hs, fun _ _ _ => rfl⟩, sv_vret hd hret (Nat.le_refl _) (Nat.le_refl _) ⟨rfl, rfl⟩⟩⟩
/-! values -/
theorem xmr_gen {e : Int} {P : Int → Prop} (h : P e) (k : ∀ z, e = z → P z → VS l D c H0 sa K W S SE M R Q pc lv (iv z :: st) μ) : VS l D c H0 sa K W S SE M R Q pc lv (iv e :: st) μ := k e rfl h
theorem xmr_genL {e : Int} (h : -9223372036854775808 ≤ e ∧ e ≤ 9223372036854775807) (k : ∀ z, e = z → (-9223372036854775808 ≤ z ∧ z ≤ 9223372036854775807) → VS l D c H0 sa K W S SE M R Q pc lv (jv z :: st) μ) : VS l D c H0 sa K W S SE M R Q pc lv (jv e :: st) μ := k e rfl h
theorem xmr_wrap {e : Int} (k : ∀ z, (-2147483648 ≤ z ∧ z ≤ 2147483647) → VS l D c H0 sa K W S SE M R Q pc lv (iv z :: st) μ) : VS l D c H0 sa K W S SE M R Q pc lv (iv e :: st) μ := by
  have h := k (Int32.ofInt e).toInt (r32i _)
  simp only [iv, Int32.ofInt_toInt] at h ⊢
  exact h
/-! calls -/
theorem VS.callV {S1 : Nat → Nat → Prop} {index ci : Nat} {T : vw_C} {ty : Nat → FieldType} {ks : List Nat} {Q' : Option Value → mM → Prop} (hct : VC l D c H0 sa K W S S1 M' d' (.ref 106 :: av) μ Q') (ho : sOk (gG l D c H0 sa)) (hd : decode M.2.1 pc = .ok (.invokevirtual index, 3)) (hm : sMt (gG l D c H0 sa) M' av.length) (hi : Cond.instanceMethod M'.1 ∈ sg_ws (gG l D c H0 sa) ∧ Cond.selects M'.1.cls M'.1 M'.1 ∈ sg_ws (gG l D c H0 sa)) (hlk : Cond.methodLink M.1.cls index M'.1 ∈ sg_ws (gG l D c H0 sa)) (hC : sCl (gG l D c H0 sa) ci T ty) (hT1 : T.1 = M'.1.cls) (hs : mTab 106 = .inl (ci, ks)) (hR : d' + 1 ≤ R.frames ∧ 60 * d' + M'.2.2.1 + 19 ≤ R.locals) (hst : st0 = av.reverse ++ .ref 106 :: st) (hr8 : (st.map fun v => v.category).sum ≤ 8)
    (kt : ∀ r μ1, Q' r μ1 → VS l D c H0 sa K W S1 SE M R Q (pc + 3) lv (r.toList ++ st) μ1) : VS l D c H0 sa K W S SE M R Q pc lv st0 μ := by
  obtain ⟨r, μ1, q1, h3⟩ := hct
  obtain ⟨r', μe, q2, k3⟩ := kt r μ1 q1
  refine ⟨r', μe, q2, fun w ν γ x T' y dd => ?_⟩
  obtain ⟨ν1, ⟨g1, g2, g3, g4⟩, g5⟩ := h3 w ν γ x T' y dd
  obtain ⟨νe, ⟨f1, f2, f3, f4⟩, f5⟩ := k3 w ν1 γ x g1 g2 g3
  refine ⟨νe, ⟨f1, f2, f3, fun a i q => (f4 a i q).trans (g4 a i q)⟩, ?_⟩
  exact sv_callV g5 ho hd hm hi hlk hC hT1 (A_106 x).2.1 (mk_obj (A_106 x) hs) hR ⟨Nat.zero_le _, Nat.zero_le _⟩ hst hr8 (by
    rintro r hp' ⟨rfl, rfl⟩
    exact f5)
theorem VS.callS {S1 : Nat → Nat → Prop} {index : Nat} {Q' : Option Value → mM → Prop} (hct : VC l D c H0 sa K W S S1 M' d' av μ Q') (ho : sOk (gG l D c H0 sa)) (hd : decode M.2.1 pc = .ok (.invokestatic index, 3)) (hm : sMt (gG l D c H0 sa) M' av.length) (hi : Cond.static M'.1 ∈ sg_ws (gG l D c H0 sa)) (hlk : Cond.methodLink M.1.cls index M'.1 ∈ sg_ws (gG l D c H0 sa)) (hR : d' + 1 ≤ R.frames ∧ 60 * d' + M'.2.2.1 + 19 ≤ R.locals) (hst : st0 = av.reverse ++ st) (hr8 : (st.map fun v => v.category).sum ≤ 8)
    (kt : ∀ r μ1, Q' r μ1 → VS l D c H0 sa K W S1 SE M R Q (pc + 3) lv (r.toList ++ st) μ1) : VS l D c H0 sa K W S SE M R Q pc lv st0 μ := by
  obtain ⟨r, μ1, q1, h3⟩ := hct
  obtain ⟨r', μe, q2, k3⟩ := kt r μ1 q1
  refine ⟨r', μe, q2, fun w ν γ x T' y dd => ?_⟩
  obtain ⟨ν1, ⟨g1, g2, g3, g4⟩, g5⟩ := h3 w ν γ x T' y dd
  obtain ⟨νe, ⟨f1, f2, f3, f4⟩, f5⟩ := k3 w ν1 γ x g1 g2 g3
  refine ⟨νe, ⟨f1, f2, f3, fun a i q => (f4 a i q).trans (g4 a i q)⟩, ?_⟩
  exact sv_callS g5 ho hd hm hi hlk hR ⟨Nat.zero_le _, Nat.zero_le _⟩ hst hr8 (by
    rintro r hp' ⟨rfl, rfl⟩
    exact f5)
theorem xmr_cVP {S1 : Nat → Nat → Prop} {index ci : Nat} {T : vw_C} {ty : Nat → FieldType} {ks : List Nat} {P : Int → Prop} (hct : VC l D c H0 sa K W S S1 M' d' (.ref 106 :: av) μ (xqP w μ P)) (ho : sOk (gG l D c H0 sa)) (hd : decode M.2.1 pc = .ok (.invokevirtual index, 3)) (hm : sMt (gG l D c H0 sa) M' av.length) (hi : Cond.instanceMethod M'.1 ∈ sg_ws (gG l D c H0 sa) ∧ Cond.selects M'.1.cls M'.1 M'.1 ∈ sg_ws (gG l D c H0 sa)) (hlk : Cond.methodLink M.1.cls index M'.1 ∈ sg_ws (gG l D c H0 sa)) (hC : sCl (gG l D c H0 sa) ci T ty) (hT1 : T.1 = M'.1.cls) (_ : mAt w 106 106) (hs : mTab 106 = .inl (ci, ks)) (hR : d' + 1 ≤ R.frames ∧ 60 * d' + M'.2.2.1 + 19 ≤ R.locals) (_ : 0 ≤ R.cells ∧ 0 ≤ R.slots) (hst : st0 = av.reverse ++ .ref 106 :: st) (hr8 : (st.map fun v => v.category).sum ≤ 8)
    (kt : ∀ z, P z → VS l D c H0 sa K W S1 SE M R Q (pc + 3) lv (iv z :: st) μ) : VS l D c H0 sa K W S SE M R Q pc lv st0 μ :=
  VS.callV hct ho hd hm hi hlk hC hT1 hs hR hst hr8 (by
    rintro r μ1 ⟨z, rfl, rfl, h3⟩
    exact kt z h3)
theorem xmr_cSP {S1 : Nat → Nat → Prop} {index : Nat} {P : Int → Prop} (hct : VC l D c H0 sa K W S S1 M' d' av μ (xqP w μ P)) (ho : sOk (gG l D c H0 sa)) (hd : decode M.2.1 pc = .ok (.invokestatic index, 3)) (hm : sMt (gG l D c H0 sa) M' av.length) (hi : Cond.static M'.1 ∈ sg_ws (gG l D c H0 sa)) (hlk : Cond.methodLink M.1.cls index M'.1 ∈ sg_ws (gG l D c H0 sa)) (hR : d' + 1 ≤ R.frames ∧ 60 * d' + M'.2.2.1 + 19 ≤ R.locals) (_ : 0 ≤ R.cells ∧ 0 ≤ R.slots) (hst : st0 = av.reverse ++ st) (hr8 : (st.map fun v => v.category).sum ≤ 8)
    (kt : ∀ z, P z → VS l D c H0 sa K W S1 SE M R Q (pc + 3) lv (iv z :: st) μ) : VS l D c H0 sa K W S SE M R Q pc lv st0 μ :=
  VS.callS hct ho hd hm hi hlk hR hst hr8 (by
    rintro r μ1 ⟨z, rfl, rfl, h3⟩
    exact kt z h3)
theorem xmr_cVI {S1 : Nat → Nat → Prop} {index ci : Nat} {T : vw_C} {ty : Nat → FieldType} {ks : List Nat} {P : Int → mM → Prop} (hct : VC l D c H0 sa K W S S1 M' d' (.ref 106 :: av) μ (xqI w lf μ P)) (ho : sOk (gG l D c H0 sa)) (hd : decode M.2.1 pc = .ok (.invokevirtual index, 3)) (hm : sMt (gG l D c H0 sa) M' av.length) (hi : Cond.instanceMethod M'.1 ∈ sg_ws (gG l D c H0 sa) ∧ Cond.selects M'.1.cls M'.1 M'.1 ∈ sg_ws (gG l D c H0 sa)) (hlk : Cond.methodLink M.1.cls index M'.1 ∈ sg_ws (gG l D c H0 sa)) (hC : sCl (gG l D c H0 sa) ci T ty) (hT1 : T.1 = M'.1.cls) (_ : mAt w 106 106) (hs : mTab 106 = .inl (ci, ks)) (hR : d' + 1 ≤ R.frames ∧ 60 * d' + M'.2.2.1 + 19 ≤ R.locals) (_ : 0 ≤ R.cells ∧ 0 ≤ R.slots) (hst : st0 = av.reverse ++ .ref 106 :: st) (hr8 : (st.map fun v => v.category).sum ≤ 8)
    (kt : ∀ z μ1, mT w μ1 → mF lf w μ μ1 → P z μ1 → VS l D c H0 sa K W S1 SE M R Q (pc + 3) lv (iv z :: st) μ1) : VS l D c H0 sa K W S SE M R Q pc lv st0 μ :=
  VS.callV hct ho hd hm hi hlk hC hT1 hs hR hst hr8 (by
    rintro r μ1 ⟨z, rfl, h1, h2, h3⟩
    exact kt z μ1 h1 h2 h3)
theorem xmr_cVV {S1 : Nat → Nat → Prop} {index ci : Nat} {T : vw_C} {ty : Nat → FieldType} {ks : List Nat} {P : mM → Prop} (hct : VC l D c H0 sa K W S S1 M' d' (.ref 106 :: av) μ (xqV w lf μ P)) (ho : sOk (gG l D c H0 sa)) (hd : decode M.2.1 pc = .ok (.invokevirtual index, 3)) (hm : sMt (gG l D c H0 sa) M' av.length) (hi : Cond.instanceMethod M'.1 ∈ sg_ws (gG l D c H0 sa) ∧ Cond.selects M'.1.cls M'.1 M'.1 ∈ sg_ws (gG l D c H0 sa)) (hlk : Cond.methodLink M.1.cls index M'.1 ∈ sg_ws (gG l D c H0 sa)) (hC : sCl (gG l D c H0 sa) ci T ty) (hT1 : T.1 = M'.1.cls) (_ : mAt w 106 106) (hs : mTab 106 = .inl (ci, ks)) (hR : d' + 1 ≤ R.frames ∧ 60 * d' + M'.2.2.1 + 19 ≤ R.locals) (_ : 0 ≤ R.cells ∧ 0 ≤ R.slots) (hst : st0 = av.reverse ++ .ref 106 :: st) (hr8 : (st.map fun v => v.category).sum ≤ 8)
    (kt : ∀ μ1, mT w μ1 → mF lf w μ μ1 → P μ1 → VS l D c H0 sa K W S1 SE M R Q (pc + 3) lv st μ1) : VS l D c H0 sa K W S SE M R Q pc lv st0 μ :=
  VS.callV hct ho hd hm hi hlk hC hT1 hs hR hst hr8 (by
    rintro r μ1 ⟨rfl, h1, h2, h3⟩
    exact kt μ1 h1 h2 h3)
end VXS
/-- a row of routes, its first n slots -/
def Srow (S : Nat → Nat → Prop) (r n : Int) : Nat → Nat → Prop := fun a i => S a i ∨ (a = 126 ∧ 40 * r ≤ (i : Int) ∧ (i : Int) < 40 * r + n)
theorem Srow.le {S : Nat → Nat → Prop} {r n m : Int} (h : m ≤ n) : ∀ a i, Srow S r m a i → Srow S r n a i := fun _ _ q => q.imp id fun q => ⟨q.1, q.2.1, by omega⟩
theorem Srow.ins {S : Nat → Nat → Prop} {r n : Int} (hr : 0 ≤ r) (hn : 0 ≤ n) : ∀ a i, Srow S r (n + 1) a i → Sins (Srow S r n) 126 ((40 * r + n).toNat) a i := fun a i q => by
  rcases q with q | ⟨q1, q2, q3⟩
  · exact Or.inl (Or.inl q)
  · by_cases h : (i : Int) < 40 * r + n
    · exact Or.inl (Or.inr ⟨q1, q2, h⟩)
    · exact Or.inr ⟨q1, by omega⟩
/-- the levels of `through` below n -/
def Slev (S : Nat → Nat → Prop) (n : Int) : Nat → Nat → Prop := fun a i => S a i ∨ ((a = 151 ∨ a = 152 ∨ a = 153) ∧ (i : Int) < n)
theorem Slev.le {S : Nat → Nat → Prop} {n m : Int} (h : m ≤ n) : ∀ a i, Slev S m a i → Slev S n a i := fun _ _ q => q.imp id fun q => ⟨q.1, by omega⟩
theorem Slev.ins {S : Nat → Nat → Prop} {n : Int} (hn : 0 ≤ n) : ∀ a i, Slev S (n + 1) a i → Sins (Sins (Sins (Slev S n) 151 n.toNat) 152 n.toNat) 153 n.toNat a i := fun a i q => by
  rcases q with q | ⟨q1, q2⟩
  · exact Or.inl (Or.inl (Or.inl (Or.inl q)))
  · by_cases h : (i : Int) < n
    · exact Or.inl (Or.inl (Or.inl (Or.inr ⟨q1, h⟩)))
    · have h : i = n.toNat := by omega
      rcases q1 with q1 | q1 | q1
      · exact Or.inl (Or.inl (Or.inr ⟨q1, h⟩))
      · exact Or.inl (Or.inr ⟨q1, h⟩)
      · exact Or.inr ⟨q1, h⟩
end
section
section VXR
variable {l : Launch} {D : va_G} {c : Nat → ClassId} {H0 : Heap} {sa : Nat × Nat × (Nat → Int32)} {w : mW} {K : (Nat → Int) → (Nat → Int) → Prop} {W S SE : Nat → Nat → Prop} {Q : Option Value → mM → Prop} {M : sM} {R : Room} {μ : mM} {pc : Nat} {lv lv' : List (Nat × Value)} {st : List Value}
theorem xmr_iload_n {q : Fin 4} {i : Nat} {z : Int} (hd : decode M.2.1 pc = .ok (.iload_n q, 1)) (hi : (q : Nat) = i) (hg : sGet i lv = some (iv z)) (k : VS l D c H0 sa K W S SE M R Q (pc + 1) lv (iv z :: st) μ) : VS l D c H0 sa K W S SE M R Q pc lv st μ := VS.lift (fun _ _ _ _ _ _ _ k => mr_iload_n hd hi hg k) k
theorem xsv_aload_n {q : Fin 4} {i : Nat} {x : Nat} (hd : decode M.2.1 pc = .ok (.aload_n q, 1)) (hi : (q : Nat) = i) (hg : sGet i lv = some (.ref x)) (k : VS l D c H0 sa K W S SE M R Q (pc + 1) lv (.ref x :: st) μ) : VS l D c H0 sa K W S SE M R Q (pc) lv (st) μ := VS.lift (fun _ _ _ _ _ _ _ k => sv_aload_n hd hi hg k) k
theorem xmr_iload {i : Nat} {z : Int} (hd : decode M.2.1 pc = .ok (.iload i, 2)) (hg : sGet i lv = some (iv z)) (k : VS l D c H0 sa K W S SE M R Q (pc + 2) lv (iv z :: st) μ) : VS l D c H0 sa K W S SE M R Q pc lv st μ := VS.lift (fun _ _ _ _ _ _ _ k => mr_iload hd hg k) k
theorem xmr_iconst {z : Int} (hd : decode M.2.1 pc = .ok (.iconst z, 1)) (k : VS l D c H0 sa K W S SE M R Q (pc + 1) lv (iv z :: st) μ) : VS l D c H0 sa K W S SE M R Q pc lv st μ := VS.lift (fun _ _ _ _ _ _ _ k => mr_iconst hd k) k
theorem xmr_lvS (h : ∀ q ∈ lv', sGet q.1 lv = some q.2) (k : VS l D c H0 sa K W S SE M R Q pc lv' st μ) : VS l D c H0 sa K W S SE M R Q pc lv st μ := VS.lift (fun _ _ _ _ _ _ _ k => mr_lvS h k) k
theorem xmr_bipush {z : Int} (hd : decode M.2.1 pc = .ok (.bipush z, 2)) (hv : (Int8.ofInt z).toInt32 = Int32.ofInt z) (k : VS l D c H0 sa K W S SE M R Q (pc + 2) lv (iv z :: st) μ) : VS l D c H0 sa K W S SE M R Q pc lv st μ := VS.lift (fun _ _ _ _ _ _ _ k => mr_bipush hd hv k) k
theorem xsv_goto {off : Int} {tgt : Nat} (hd : decode M.2.1 pc = .ok (.goto off, 3)) (ht : (pc : Int) + off = (tgt : Int)) (k : VS l D c H0 sa K W S SE M R Q (tgt) lv (st) μ) : VS l D c H0 sa K W S SE M R Q (pc) lv (st) μ := VS.lift (fun _ _ _ _ _ _ _ k => sv_goto hd ht k) k
theorem xmr_iadd {x y : Int} (hd : decode M.2.1 pc = .ok (.iadd, 1)) (k : VS l D c H0 sa K W S SE M R Q (pc + 1) lv (iv (x + y) :: st) μ) : VS l D c H0 sa K W S SE M R Q pc lv (iv y :: iv x :: st) μ := VS.lift (fun _ _ _ _ _ _ _ k => mr_iadd hd k) k
theorem xmr_imul {x y : Int} (hd : decode M.2.1 pc = .ok (.imul, 1)) (k : VS l D c H0 sa K W S SE M R Q (pc + 1) lv (iv (x * y) :: st) μ) : VS l D c H0 sa K W S SE M R Q pc lv (iv y :: iv x :: st) μ := VS.lift (fun _ _ _ _ _ _ _ k => mr_imul hd k) k
theorem xmr_istore {i : Nat} {z : Int} (hd : decode M.2.1 pc = .ok (.istore i, 2)) (hn : i < M.2.2.1) (hl : sSet i (iv z) lv = lv') (k : VS l D c H0 sa K W S SE M R Q (pc + 2) lv' st μ) : VS l D c H0 sa K W S SE M R Q pc lv (iv z :: st) μ := VS.lift (fun _ _ _ _ _ _ _ k => mr_istore hd hn hl k) k
theorem xmr_iinc {i : Nat} {n z : Int} (hd : decode M.2.1 pc = .ok (.iinc i n, 3)) (hg : sGet i lv = some (iv z)) (hn : i < M.2.2.1) (hl : sSet i (iv (z + n)) lv = lv') (k : VS l D c H0 sa K W S SE M R Q (pc + 3) lv' st μ) : VS l D c H0 sa K W S SE M R Q pc lv st μ := VS.lift (fun _ _ _ _ _ _ _ k => mr_iinc hd hg hn hl k) k
theorem xmr_lvE (h : lv = lv') (k : VS l D c H0 sa K W S SE M R Q pc lv' st μ) : VS l D c H0 sa K W S SE M R Q pc lv st μ := VS.lift (fun _ _ _ _ _ _ _ k => mr_lvE h k) k
theorem xmr_istore_n {q : Fin 4} {i : Nat} {z : Int} (hd : decode M.2.1 pc = .ok (.istore_n q, 1)) (hi : (q : Nat) = i) (hn : i < M.2.2.1) (hl : sSet i (iv z) lv = lv') (k : VS l D c H0 sa K W S SE M R Q (pc + 1) lv' st μ) : VS l D c H0 sa K W S SE M R Q pc lv (iv z :: st) μ := VS.lift (fun _ _ _ _ _ _ _ k => mr_istore_n hd hi hn hl k) k
theorem xmr_lconst {n : Fin 2} {z : Int} (hd : decode M.2.1 pc = .ok (.lconst n, 1)) (hv : Int64.ofNat (n : Nat) = Int64.ofInt z) (k : VS l D c H0 sa K W S SE M R Q (pc + 1) lv (jv z :: st) μ) : VS l D c H0 sa K W S SE M R Q pc lv st μ := VS.lift (fun _ _ _ _ _ _ _ k => mr_lconst hd hv k) k
theorem xmr_lstore {i : Nat} {z : Int} (hd : decode M.2.1 pc = .ok (.lstore i, 2)) (hn : i + 1 < M.2.2.1) (hl : sSetL i (jv z) lv = lv') (k : VS l D c H0 sa K W S SE M R Q (pc + 2) lv' st μ) : VS l D c H0 sa K W S SE M R Q pc lv (jv z :: st) μ := VS.lift (fun _ _ _ _ _ _ _ k => mr_lstore hd hn hl k) k
theorem xmr_lload {i : Nat} {z : Int} (hd : decode M.2.1 pc = .ok (.lload i, 2)) (hg : sGet i lv = some (jv z)) (k : VS l D c H0 sa K W S SE M R Q (pc + 2) lv (jv z :: st) μ) : VS l D c H0 sa K W S SE M R Q pc lv st μ := VS.lift (fun _ _ _ _ _ _ _ k => mr_lload hd hg k) k
theorem xmr_sipush {z : Int} (hd : decode M.2.1 pc = .ok (.sipush z, 3)) (hv : (Int16.ofInt z).toInt32 = Int32.ofInt z) (k : VS l D c H0 sa K W S SE M R Q (pc + 3) lv (iv z :: st) μ) : VS l D c H0 sa K W S SE M R Q pc lv st μ := VS.lift (fun _ _ _ _ _ _ _ k => mr_sipush hd hv k) k
theorem xmr_ldc {index : Nat} {v : Int32} {z : Int} (hd : decode M.2.1 pc = .ok (.ldc index, 2)) (hw : Cond.constant M.1.cls index v ∈ sg_ws (gG l D c H0 sa)) (hv : v = Int32.ofInt z) (k : VS l D c H0 sa K W S SE M R Q (pc + 2) lv (iv z :: st) μ) : VS l D c H0 sa K W S SE M R Q pc lv st μ := VS.lift (fun _ _ _ _ _ _ _ k => mr_ldc hd hw hv k) k
theorem xsv_dup2 {x y : Value} (hd : decode M.2.1 pc = .ok (.dup2, 1)) (hc : x.category = 1) (hc2 : y.category = 1) (k : VS l D c H0 sa K W S SE M R Q (pc + 1) lv (x :: y :: x :: y :: st) μ) : VS l D c H0 sa K W S SE M R Q (pc) lv (x :: y :: st) μ := VS.lift (fun _ _ _ _ _ _ _ k => sv_dup2 hd hc hc2 k) k
theorem xmr_land {x y : Int} (hd : decode M.2.1 pc = .ok (.land, 1)) (k : VS l D c H0 sa K W S SE M R Q (pc + 1) lv (jv (lAnd x y) :: st) μ) : VS l D c H0 sa K W S SE M R Q pc lv (jv y :: jv x :: st) μ := VS.lift (fun _ _ _ _ _ _ _ k => mr_land hd k) k
theorem xmr_lcmp {x y : Int} (hd : decode M.2.1 pc = .ok (.lcmp, 1)) (k : VS l D c H0 sa K W S SE M R Q (pc + 1) lv (iv (lCmp x y) :: st) μ) : VS l D c H0 sa K W S SE M R Q pc lv (jv y :: jv x :: st) μ := VS.lift (fun _ _ _ _ _ _ _ k => mr_lcmp hd k) k
theorem xmr_lor {x y : Int} (hd : decode M.2.1 pc = .ok (.lor, 1)) (k : VS l D c H0 sa K W S SE M R Q (pc + 1) lv (jv (lOr x y) :: st) μ) : VS l D c H0 sa K W S SE M R Q pc lv (jv y :: jv x :: st) μ := VS.lift (fun _ _ _ _ _ _ _ k => mr_lor hd k) k
theorem xmr_lshr {x y : Int} (hd : decode M.2.1 pc = .ok (.lshr, 1)) (k : VS l D c H0 sa K W S SE M R Q (pc + 1) lv (jv (lShr x y) :: st) μ) : VS l D c H0 sa K W S SE M R Q pc lv (iv y :: jv x :: st) μ := VS.lift (fun _ _ _ _ _ _ _ k => mr_lshr hd k) k
theorem xmr_lshl {x y : Int} (hd : decode M.2.1 pc = .ok (.lshl, 1)) (k : VS l D c H0 sa K W S SE M R Q (pc + 1) lv (jv (lShl x y) :: st) μ) : VS l D c H0 sa K W S SE M R Q pc lv (iv y :: jv x :: st) μ := VS.lift (fun _ _ _ _ _ _ _ k => mr_lshl hd k) k
theorem xsv_pop {x : Value} (hd : decode M.2.1 pc = .ok (.pop, 1)) (hc : x.category = 1) (k : VS l D c H0 sa K W S SE M R Q (pc + 1) lv (st) μ) : VS l D c H0 sa K W S SE M R Q (pc) lv (x :: st) μ := VS.lift (fun _ _ _ _ _ _ _ k => sv_pop hd hc k) k
theorem xmr_ixor {x y : Int} (hd : decode M.2.1 pc = .ok (.ixor, 1)) (k : VS l D c H0 sa K W S SE M R Q (pc + 1) lv (iv (bXor x y) :: st) μ) : VS l D c H0 sa K W S SE M R Q pc lv (iv y :: iv x :: st) μ := VS.lift (fun _ _ _ _ _ _ _ k => mr_ixor hd k) k
theorem xmr_iand {x y : Int} (hd : decode M.2.1 pc = .ok (.iand, 1)) (k : VS l D c H0 sa K W S SE M R Q (pc + 1) lv (iv (bAnd x y) :: st) μ) : VS l D c H0 sa K W S SE M R Q pc lv (iv y :: iv x :: st) μ := VS.lift (fun _ _ _ _ _ _ _ k => mr_iand hd k) k
theorem xmr_ishl {x y : Int} (hd : decode M.2.1 pc = .ok (.ishl, 1)) (k : VS l D c H0 sa K W S SE M R Q (pc + 1) lv (iv (bShl x y) :: st) μ) : VS l D c H0 sa K W S SE M R Q pc lv (iv y :: iv x :: st) μ := VS.lift (fun _ _ _ _ _ _ _ k => mr_ishl hd k) k
theorem xmr_isub {x y : Int} (hd : decode M.2.1 pc = .ok (.isub, 1)) (k : VS l D c H0 sa K W S SE M R Q (pc + 1) lv (iv (x - y) :: st) μ) : VS l D c H0 sa K W S SE M R Q pc lv (iv y :: iv x :: st) μ := VS.lift (fun _ _ _ _ _ _ _ k => mr_isub hd k) k
theorem xmr_icmp_ne {x y off : Int} {tgt : Nat} (hd : decode M.2.1 pc = .ok (.if_icmp .ne off, 3)) (ht : (pc : Int) + off = (tgt : Int)) (hx : -2147483648 ≤ x ∧ x ≤ 2147483647) (hy : -2147483648 ≤ y ∧ y ≤ 2147483647) (kt : ¬ x = y → VS l D c H0 sa K W S SE M R Q tgt lv st μ) (kf : x = y → VS l D c H0 sa K W S SE M R Q (pc + 3) lv st μ) : VS l D c H0 sa K W S SE M R Q pc lv (iv y :: iv x :: st) μ := by
  by_cases h : ¬ x = y
  · exact VS.lift (fun _ _ _ _ _ _ _ k => mr_icmp_ne hd ht hx hy (fun _ => k) (fun q => absurd h (by omega))) (kt h)
  · exact VS.lift (fun _ _ _ _ _ _ _ k => mr_icmp_ne hd ht hx hy (fun q => absurd q h) (fun _ => k)) (kf (by omega))
theorem xmr_icmp_ge {x y off : Int} {tgt : Nat} (hd : decode M.2.1 pc = .ok (.if_icmp .ge off, 3)) (ht : (pc : Int) + off = (tgt : Int)) (hx : -2147483648 ≤ x ∧ x ≤ 2147483647) (hy : -2147483648 ≤ y ∧ y ≤ 2147483647) (kt : y ≤ x → VS l D c H0 sa K W S SE M R Q tgt lv st μ) (kf : x < y → VS l D c H0 sa K W S SE M R Q (pc + 3) lv st μ) : VS l D c H0 sa K W S SE M R Q pc lv (iv y :: iv x :: st) μ := by
  by_cases h : y ≤ x
  · exact VS.lift (fun _ _ _ _ _ _ _ k => mr_icmp_ge hd ht hx hy (fun _ => k) (fun q => absurd h (by omega))) (kt h)
  · exact VS.lift (fun _ _ _ _ _ _ _ k => mr_icmp_ge hd ht hx hy (fun q => absurd q h) (fun _ => k)) (kf (by omega))
theorem xmr_icmp_eq {x y off : Int} {tgt : Nat} (hd : decode M.2.1 pc = .ok (.if_icmp .eq off, 3)) (ht : (pc : Int) + off = (tgt : Int)) (hx : -2147483648 ≤ x ∧ x ≤ 2147483647) (hy : -2147483648 ≤ y ∧ y ≤ 2147483647) (kt : x = y → VS l D c H0 sa K W S SE M R Q tgt lv st μ) (kf : ¬ x = y → VS l D c H0 sa K W S SE M R Q (pc + 3) lv st μ) : VS l D c H0 sa K W S SE M R Q pc lv (iv y :: iv x :: st) μ := by
  by_cases h : x = y
  · exact VS.lift (fun _ _ _ _ _ _ _ k => mr_icmp_eq hd ht hx hy (fun _ => k) (fun q => absurd h (by omega))) (kt h)
  · exact VS.lift (fun _ _ _ _ _ _ _ k => mr_icmp_eq hd ht hx hy (fun q => absurd q h) (fun _ => k)) (kf (by omega))
theorem xmr_icmp_gt {x y off : Int} {tgt : Nat} (hd : decode M.2.1 pc = .ok (.if_icmp .gt off, 3)) (ht : (pc : Int) + off = (tgt : Int)) (hx : -2147483648 ≤ x ∧ x ≤ 2147483647) (hy : -2147483648 ≤ y ∧ y ≤ 2147483647) (kt : y < x → VS l D c H0 sa K W S SE M R Q tgt lv st μ) (kf : x ≤ y → VS l D c H0 sa K W S SE M R Q (pc + 3) lv st μ) : VS l D c H0 sa K W S SE M R Q pc lv (iv y :: iv x :: st) μ := by
  by_cases h : y < x
  · exact VS.lift (fun _ _ _ _ _ _ _ k => mr_icmp_gt hd ht hx hy (fun _ => k) (fun q => absurd h (by omega))) (kt h)
  · exact VS.lift (fun _ _ _ _ _ _ _ k => mr_icmp_gt hd ht hx hy (fun q => absurd q h) (fun _ => k)) (kf (by omega))
theorem xmr_icmp_le {x y off : Int} {tgt : Nat} (hd : decode M.2.1 pc = .ok (.if_icmp .le off, 3)) (ht : (pc : Int) + off = (tgt : Int)) (hx : -2147483648 ≤ x ∧ x ≤ 2147483647) (hy : -2147483648 ≤ y ∧ y ≤ 2147483647) (kt : x ≤ y → VS l D c H0 sa K W S SE M R Q tgt lv st μ) (kf : y < x → VS l D c H0 sa K W S SE M R Q (pc + 3) lv st μ) : VS l D c H0 sa K W S SE M R Q pc lv (iv y :: iv x :: st) μ := by
  by_cases h : x ≤ y
  · exact VS.lift (fun _ _ _ _ _ _ _ k => mr_icmp_le hd ht hx hy (fun _ => k) (fun q => absurd h (by omega))) (kt h)
  · exact VS.lift (fun _ _ _ _ _ _ _ k => mr_icmp_le hd ht hx hy (fun q => absurd q h) (fun _ => k)) (kf (by omega))
theorem xmr_icmp_lt {x y off : Int} {tgt : Nat} (hd : decode M.2.1 pc = .ok (.if_icmp .lt off, 3)) (ht : (pc : Int) + off = (tgt : Int)) (hx : -2147483648 ≤ x ∧ x ≤ 2147483647) (hy : -2147483648 ≤ y ∧ y ≤ 2147483647) (kt : x < y → VS l D c H0 sa K W S SE M R Q tgt lv st μ) (kf : y ≤ x → VS l D c H0 sa K W S SE M R Q (pc + 3) lv st μ) : VS l D c H0 sa K W S SE M R Q pc lv (iv y :: iv x :: st) μ := by
  by_cases h : x < y
  · exact VS.lift (fun _ _ _ _ _ _ _ k => mr_icmp_lt hd ht hx hy (fun _ => k) (fun q => absurd h (by omega))) (kt h)
  · exact VS.lift (fun _ _ _ _ _ _ _ k => mr_icmp_lt hd ht hx hy (fun q => absurd q h) (fun _ => k)) (kf (by omega))
theorem xmr_if_ne {x off : Int} {tgt : Nat} (hd : decode M.2.1 pc = .ok (.ifCond .ne off, 3)) (ht : (pc : Int) + off = (tgt : Int)) (hx : -2147483648 ≤ x ∧ x ≤ 2147483647) (kt : ¬ x = 0 → VS l D c H0 sa K W S SE M R Q tgt lv st μ) (kf : x = 0 → VS l D c H0 sa K W S SE M R Q (pc + 3) lv st μ) : VS l D c H0 sa K W S SE M R Q pc lv (iv x :: st) μ := by
  by_cases h : ¬ x = 0
  · exact VS.lift (fun _ _ _ _ _ _ _ k => mr_if_ne hd ht hx (fun _ => k) (fun q => absurd h (by omega))) (kt h)
  · exact VS.lift (fun _ _ _ _ _ _ _ k => mr_if_ne hd ht hx (fun q => absurd q h) (fun _ => k)) (kf (by omega))
theorem xmr_if_eq {x off : Int} {tgt : Nat} (hd : decode M.2.1 pc = .ok (.ifCond .eq off, 3)) (ht : (pc : Int) + off = (tgt : Int)) (hx : -2147483648 ≤ x ∧ x ≤ 2147483647) (kt : x = 0 → VS l D c H0 sa K W S SE M R Q tgt lv st μ) (kf : ¬ x = 0 → VS l D c H0 sa K W S SE M R Q (pc + 3) lv st μ) : VS l D c H0 sa K W S SE M R Q pc lv (iv x :: st) μ := by
  by_cases h : x = 0
  · exact VS.lift (fun _ _ _ _ _ _ _ k => mr_if_eq hd ht hx (fun _ => k) (fun q => absurd h (by omega))) (kt h)
  · exact VS.lift (fun _ _ _ _ _ _ _ k => mr_if_eq hd ht hx (fun q => absurd q h) (fun _ => k)) (kf (by omega))
theorem xmr_if_le {x off : Int} {tgt : Nat} (hd : decode M.2.1 pc = .ok (.ifCond .le off, 3)) (ht : (pc : Int) + off = (tgt : Int)) (hx : -2147483648 ≤ x ∧ x ≤ 2147483647) (kt : x ≤ 0 → VS l D c H0 sa K W S SE M R Q tgt lv st μ) (kf : 0 < x → VS l D c H0 sa K W S SE M R Q (pc + 3) lv st μ) : VS l D c H0 sa K W S SE M R Q pc lv (iv x :: st) μ := by
  by_cases h : x ≤ 0
  · exact VS.lift (fun _ _ _ _ _ _ _ k => mr_if_le hd ht hx (fun _ => k) (fun q => absurd h (by omega))) (kt h)
  · exact VS.lift (fun _ _ _ _ _ _ _ k => mr_if_le hd ht hx (fun q => absurd q h) (fun _ => k)) (kf (by omega))
theorem xmr_if_lt {x off : Int} {tgt : Nat} (hd : decode M.2.1 pc = .ok (.ifCond .lt off, 3)) (ht : (pc : Int) + off = (tgt : Int)) (hx : -2147483648 ≤ x ∧ x ≤ 2147483647) (kt : x < 0 → VS l D c H0 sa K W S SE M R Q tgt lv st μ) (kf : 0 ≤ x → VS l D c H0 sa K W S SE M R Q (pc + 3) lv st μ) : VS l D c H0 sa K W S SE M R Q pc lv (iv x :: st) μ := by
  by_cases h : x < 0
  · exact VS.lift (fun _ _ _ _ _ _ _ k => mr_if_lt hd ht hx (fun _ => k) (fun q => absurd h (by omega))) (kt h)
  · exact VS.lift (fun _ _ _ _ _ _ _ k => mr_if_lt hd ht hx (fun q => absurd q h) (fun _ => k)) (kf (by omega))
set_option maxRecDepth 20000 in
theorem xgf_X12_12 {index : Nat} (hd : decode M.2.1 pc = .ok (.getfield index, 3)) (hw : sFl (RX12, TX12, 126) M.1.cls index 12 ∈ lw_ok) (hA : mAt w 106 106) (hT : mT w μ) (kt : VS l D c H0 sa K W S SE M R Q (pc + 3) lv (.ref 115 :: st) μ) : VS l D c H0 sa K W S SE M R Q (pc) lv (.ref 106 :: st) μ := VS.lift (fun _ _ _ x T' _ _ k => gf_X12_12 hd hw (A_106 x) T' k) kt
set_option maxRecDepth 20000 in
theorem xgf_X12_17 {index : Nat} (hd : decode M.2.1 pc = .ok (.getfield index, 3)) (hw : sFl (RX12, TX12, 126) M.1.cls index 17 ∈ lw_ok) (hA : mAt w 106 106) (hT : mT w μ) (kt : ∀ z, μ 106 17 = z → (0 ≤ z ∧ z ≤ 2147483647) → VS l D c H0 sa K W S SE M R Q (pc + 3) lv (iv z :: st) μ) (hS : S 106 17) : VS l D c H0 sa K W S SE M R Q (pc) lv (.ref 106 :: st) μ := VS.lift (fun _ ν _ x T' _ dd k => gf_X12_17 hd hw (A_106 x) T' (fun z q _ => by rw [← q, dd _ _ hS]; exact k)) (kt _ rfl (hT 106 106 hA 17))
set_option maxRecDepth 20000 in
theorem xgf_X12_18 {index : Nat} (hd : decode M.2.1 pc = .ok (.getfield index, 3)) (hw : sFl (RX12, TX12, 126) M.1.cls index 18 ∈ lw_ok) (hA : mAt w 106 106) (hT : mT w μ) (kt : ∀ z, μ 106 18 = z → (0 ≤ z ∧ z ≤ 30) → VS l D c H0 sa K W S SE M R Q (pc + 3) lv (iv z :: st) μ) (hS : S 106 18) : VS l D c H0 sa K W S SE M R Q (pc) lv (.ref 106 :: st) μ := VS.lift (fun _ ν _ x T' _ dd k => gf_X12_18 hd hw (A_106 x) T' (fun z q _ => by rw [← q, dd _ _ hS]; exact k)) (kt _ rfl (hT 106 106 hA 18))
set_option maxRecDepth 20000 in
theorem xgf_X12_19 {index : Nat} (hd : decode M.2.1 pc = .ok (.getfield index, 3)) (hw : sFl (RX12, TX12, 126) M.1.cls index 19 ∈ lw_ok) (hA : mAt w 106 106) (hT : mT w μ) (kt : VS l D c H0 sa K W S SE M R Q (pc + 3) lv (.ref 119 :: st) μ) : VS l D c H0 sa K W S SE M R Q (pc) lv (.ref 106 :: st) μ := VS.lift (fun _ _ _ x T' _ _ k => gf_X12_19 hd hw (A_106 x) T' k) kt
set_option maxRecDepth 20000 in
theorem xgf_X12_20 {index : Nat} (hd : decode M.2.1 pc = .ok (.getfield index, 3)) (hw : sFl (RX12, TX12, 126) M.1.cls index 20 ∈ lw_ok) (hA : mAt w 106 106) (hT : mT w μ) (kt : VS l D c H0 sa K W S SE M R Q (pc + 3) lv (.ref 120 :: st) μ) : VS l D c H0 sa K W S SE M R Q (pc) lv (.ref 106 :: st) μ := VS.lift (fun _ _ _ x T' _ _ k => gf_X12_20 hd hw (A_106 x) T' k) kt
set_option maxRecDepth 20000 in
theorem xgf_X12_21 {index : Nat} (hd : decode M.2.1 pc = .ok (.getfield index, 3)) (hw : sFl (RX12, TX12, 126) M.1.cls index 21 ∈ lw_ok) (hA : mAt w 106 106) (hT : mT w μ) (kt : VS l D c H0 sa K W S SE M R Q (pc + 3) lv (.ref 121 :: st) μ) : VS l D c H0 sa K W S SE M R Q (pc) lv (.ref 106 :: st) μ := VS.lift (fun _ _ _ x T' _ _ k => gf_X12_21 hd hw (A_106 x) T' k) kt
set_option maxRecDepth 20000 in
theorem xgf_X12_22 {index : Nat} (hd : decode M.2.1 pc = .ok (.getfield index, 3)) (hw : sFl (RX12, TX12, 126) M.1.cls index 22 ∈ lw_ok) (hA : mAt w 106 106) (hT : mT w μ) (kt : VS l D c H0 sa K W S SE M R Q (pc + 3) lv (.ref 122 :: st) μ) : VS l D c H0 sa K W S SE M R Q (pc) lv (.ref 106 :: st) μ := VS.lift (fun _ _ _ x T' _ _ k => gf_X12_22 hd hw (A_106 x) T' k) kt
set_option maxRecDepth 20000 in
theorem xgf_X12_23 {index : Nat} (hd : decode M.2.1 pc = .ok (.getfield index, 3)) (hw : sFl (RX12, TX12, 126) M.1.cls index 23 ∈ lw_ok) (hA : mAt w 106 106) (hT : mT w μ) (kt : VS l D c H0 sa K W S SE M R Q (pc + 3) lv (.ref 123 :: st) μ) : VS l D c H0 sa K W S SE M R Q (pc) lv (.ref 106 :: st) μ := VS.lift (fun _ _ _ x T' _ _ k => gf_X12_23 hd hw (A_106 x) T' k) kt
set_option maxRecDepth 20000 in
theorem xgf_X12_24 {index : Nat} (hd : decode M.2.1 pc = .ok (.getfield index, 3)) (hw : sFl (RX12, TX12, 126) M.1.cls index 24 ∈ lw_ok) (hA : mAt w 106 106) (hT : mT w μ) (kt : VS l D c H0 sa K W S SE M R Q (pc + 3) lv (.ref 124 :: st) μ) : VS l D c H0 sa K W S SE M R Q (pc) lv (.ref 106 :: st) μ := VS.lift (fun _ _ _ x T' _ _ k => gf_X12_24 hd hw (A_106 x) T' k) kt
set_option maxRecDepth 20000 in
theorem xgf_X12_25 {index : Nat} (hd : decode M.2.1 pc = .ok (.getfield index, 3)) (hw : sFl (RX12, TX12, 126) M.1.cls index 25 ∈ lw_ok) (hA : mAt w 106 106) (hT : mT w μ) (kt : VS l D c H0 sa K W S SE M R Q (pc + 3) lv (.ref 125 :: st) μ) : VS l D c H0 sa K W S SE M R Q (pc) lv (.ref 106 :: st) μ := VS.lift (fun _ _ _ x T' _ _ k => gf_X12_25 hd hw (A_106 x) T' k) kt
set_option maxRecDepth 20000 in
theorem xgf_X12_3 {index : Nat} (hd : decode M.2.1 pc = .ok (.getfield index, 3)) (hw : sFl (RX12, TX12, 126) M.1.cls index 3 ∈ lw_ok) (hA : mAt w 106 106) (hT : mT w μ) (kt : VS l D c H0 sa K W S SE M R Q (pc + 3) lv (.ref 108 :: st) μ) : VS l D c H0 sa K W S SE M R Q (pc) lv (.ref 106 :: st) μ := VS.lift (fun _ _ _ x T' _ _ k => gf_X12_3 hd hw (A_106 x) T' k) kt
set_option maxRecDepth 20000 in
theorem xgf_X12_32 {index : Nat} (hd : decode M.2.1 pc = .ok (.getfield index, 3)) (hw : sFl (RX12, TX12, 126) M.1.cls index 32 ∈ lw_ok) (hA : mAt w 106 106) (hT : mT w μ) (kt : VS l D c H0 sa K W S SE M R Q (pc + 3) lv (.ref 126 :: st) μ) : VS l D c H0 sa K W S SE M R Q (pc) lv (.ref 106 :: st) μ := VS.lift (fun _ _ _ x T' _ _ k => gf_X12_32 hd hw (A_106 x) T' k) kt
set_option maxRecDepth 20000 in
theorem xgf_X12_4 {index : Nat} (hd : decode M.2.1 pc = .ok (.getfield index, 3)) (hw : sFl (RX12, TX12, 126) M.1.cls index 4 ∈ lw_ok) (hA : mAt w 106 106) (hT : mT w μ) (kt : VS l D c H0 sa K W S SE M R Q (pc + 3) lv (.ref 109 :: st) μ) : VS l D c H0 sa K W S SE M R Q (pc) lv (.ref 106 :: st) μ := VS.lift (fun _ _ _ x T' _ _ k => gf_X12_4 hd hw (A_106 x) T' k) kt
set_option maxRecDepth 20000 in
theorem xgf_X12_40 {index : Nat} (hd : decode M.2.1 pc = .ok (.getfield index, 3)) (hw : sFl (RX12, TX12, 126) M.1.cls index 40 ∈ lw_ok) (hA : mAt w 106 106) (hT : mT w μ) (kt : VS l D c H0 sa K W S SE M R Q (pc + 3) lv (.ref 127 :: st) μ) : VS l D c H0 sa K W S SE M R Q (pc) lv (.ref 106 :: st) μ := VS.lift (fun _ _ _ x T' _ _ k => gf_X12_40 hd hw (A_106 x) T' k) kt
set_option maxRecDepth 20000 in
theorem xgf_X12_41 {index : Nat} (hd : decode M.2.1 pc = .ok (.getfield index, 3)) (hw : sFl (RX12, TX12, 126) M.1.cls index 41 ∈ lw_ok) (hA : mAt w 106 106) (hT : mT w μ) (kt : VS l D c H0 sa K W S SE M R Q (pc + 3) lv (.ref 128 :: st) μ) : VS l D c H0 sa K W S SE M R Q (pc) lv (.ref 106 :: st) μ := VS.lift (fun _ _ _ x T' _ _ k => gf_X12_41 hd hw (A_106 x) T' k) kt
set_option maxRecDepth 20000 in
theorem xgf_X12_42 {index : Nat} (hd : decode M.2.1 pc = .ok (.getfield index, 3)) (hw : sFl (RX12, TX12, 126) M.1.cls index 42 ∈ lw_ok) (hA : mAt w 106 106) (hT : mT w μ) (kt : VS l D c H0 sa K W S SE M R Q (pc + 3) lv (.ref 129 :: st) μ) : VS l D c H0 sa K W S SE M R Q (pc) lv (.ref 106 :: st) μ := VS.lift (fun _ _ _ x T' _ _ k => gf_X12_42 hd hw (A_106 x) T' k) kt
set_option maxRecDepth 20000 in
theorem xgf_X12_45 {index : Nat} (hd : decode M.2.1 pc = .ok (.getfield index, 3)) (hw : sFl (RX12, TX12, 126) M.1.cls index 45 ∈ lw_ok) (hA : mAt w 106 106) (hT : mT w μ) (kt : VS l D c H0 sa K W S SE M R Q (pc + 3) lv (.ref 132 :: st) μ) : VS l D c H0 sa K W S SE M R Q (pc) lv (.ref 106 :: st) μ := VS.lift (fun _ _ _ x T' _ _ k => gf_X12_45 hd hw (A_106 x) T' k) kt
set_option maxRecDepth 20000 in
theorem xgf_X12_46 {index : Nat} (hd : decode M.2.1 pc = .ok (.getfield index, 3)) (hw : sFl (RX12, TX12, 126) M.1.cls index 46 ∈ lw_ok) (hA : mAt w 106 106) (hT : mT w μ) (kt : VS l D c H0 sa K W S SE M R Q (pc + 3) lv (.ref 133 :: st) μ) : VS l D c H0 sa K W S SE M R Q (pc) lv (.ref 106 :: st) μ := VS.lift (fun _ _ _ x T' _ _ k => gf_X12_46 hd hw (A_106 x) T' k) kt
set_option maxRecDepth 20000 in
theorem xgf_X12_47 {index : Nat} (hd : decode M.2.1 pc = .ok (.getfield index, 3)) (hw : sFl (RX12, TX12, 126) M.1.cls index 47 ∈ lw_ok) (hA : mAt w 106 106) (hT : mT w μ) (kt : VS l D c H0 sa K W S SE M R Q (pc + 3) lv (.ref 134 :: st) μ) : VS l D c H0 sa K W S SE M R Q (pc) lv (.ref 106 :: st) μ := VS.lift (fun _ _ _ x T' _ _ k => gf_X12_47 hd hw (A_106 x) T' k) kt
set_option maxRecDepth 20000 in
theorem xgf_X12_48 {index : Nat} (hd : decode M.2.1 pc = .ok (.getfield index, 3)) (hw : sFl (RX12, TX12, 126) M.1.cls index 48 ∈ lw_ok) (hA : mAt w 106 106) (hT : mT w μ) (kt : VS l D c H0 sa K W S SE M R Q (pc + 3) lv (.ref 135 :: st) μ) : VS l D c H0 sa K W S SE M R Q (pc) lv (.ref 106 :: st) μ := VS.lift (fun _ _ _ x T' _ _ k => gf_X12_48 hd hw (A_106 x) T' k) kt
set_option maxRecDepth 20000 in
theorem xgf_X12_49 {index : Nat} (hd : decode M.2.1 pc = .ok (.getfield index, 3)) (hw : sFl (RX12, TX12, 126) M.1.cls index 49 ∈ lw_ok) (hA : mAt w 106 106) (hT : mT w μ) (kt : VS l D c H0 sa K W S SE M R Q (pc + 3) lv (.ref 136 :: st) μ) : VS l D c H0 sa K W S SE M R Q (pc) lv (.ref 106 :: st) μ := VS.lift (fun _ _ _ x T' _ _ k => gf_X12_49 hd hw (A_106 x) T' k) kt
set_option maxRecDepth 20000 in
theorem xgf_X12_50 {index : Nat} (hd : decode M.2.1 pc = .ok (.getfield index, 3)) (hw : sFl (RX12, TX12, 126) M.1.cls index 50 ∈ lw_ok) (hA : mAt w 106 106) (hT : mT w μ) (kt : VS l D c H0 sa K W S SE M R Q (pc + 3) lv (.ref 137 :: st) μ) : VS l D c H0 sa K W S SE M R Q (pc) lv (.ref 106 :: st) μ := VS.lift (fun _ _ _ x T' _ _ k => gf_X12_50 hd hw (A_106 x) T' k) kt
set_option maxRecDepth 20000 in
theorem xgf_X12_51 {index : Nat} (hd : decode M.2.1 pc = .ok (.getfield index, 3)) (hw : sFl (RX12, TX12, 126) M.1.cls index 51 ∈ lw_ok) (hA : mAt w 106 106) (hT : mT w μ) (kt : VS l D c H0 sa K W S SE M R Q (pc + 3) lv (.ref 138 :: st) μ) : VS l D c H0 sa K W S SE M R Q (pc) lv (.ref 106 :: st) μ := VS.lift (fun _ _ _ x T' _ _ k => gf_X12_51 hd hw (A_106 x) T' k) kt
set_option maxRecDepth 20000 in
theorem xgf_X12_52 {index : Nat} (hd : decode M.2.1 pc = .ok (.getfield index, 3)) (hw : sFl (RX12, TX12, 126) M.1.cls index 52 ∈ lw_ok) (hA : mAt w 106 106) (hT : mT w μ) (kt : VS l D c H0 sa K W S SE M R Q (pc + 3) lv (.ref 139 :: st) μ) : VS l D c H0 sa K W S SE M R Q (pc) lv (.ref 106 :: st) μ := VS.lift (fun _ _ _ x T' _ _ k => gf_X12_52 hd hw (A_106 x) T' k) kt
set_option maxRecDepth 20000 in
theorem xgf_X12_53 {index : Nat} (hd : decode M.2.1 pc = .ok (.getfield index, 3)) (hw : sFl (RX12, TX12, 126) M.1.cls index 53 ∈ lw_ok) (hA : mAt w 106 106) (hT : mT w μ) (kt : VS l D c H0 sa K W S SE M R Q (pc + 3) lv (.ref 140 :: st) μ) : VS l D c H0 sa K W S SE M R Q (pc) lv (.ref 106 :: st) μ := VS.lift (fun _ _ _ x T' _ _ k => gf_X12_53 hd hw (A_106 x) T' k) kt
set_option maxRecDepth 20000 in
theorem xgf_X12_54 {index : Nat} (hd : decode M.2.1 pc = .ok (.getfield index, 3)) (hw : sFl (RX12, TX12, 126) M.1.cls index 54 ∈ lw_ok) (hA : mAt w 106 106) (hT : mT w μ) (kt : VS l D c H0 sa K W S SE M R Q (pc + 3) lv (.ref 141 :: st) μ) : VS l D c H0 sa K W S SE M R Q (pc) lv (.ref 106 :: st) μ := VS.lift (fun _ _ _ x T' _ _ k => gf_X12_54 hd hw (A_106 x) T' k) kt
set_option maxRecDepth 20000 in
theorem xgf_X12_55 {index : Nat} (hd : decode M.2.1 pc = .ok (.getfield index, 3)) (hw : sFl (RX12, TX12, 126) M.1.cls index 55 ∈ lw_ok) (hA : mAt w 106 106) (hT : mT w μ) (kt : VS l D c H0 sa K W S SE M R Q (pc + 3) lv (.ref 142 :: st) μ) : VS l D c H0 sa K W S SE M R Q (pc) lv (.ref 106 :: st) μ := VS.lift (fun _ _ _ x T' _ _ k => gf_X12_55 hd hw (A_106 x) T' k) kt
set_option maxRecDepth 20000 in
theorem xgf_X12_56 {index : Nat} (hd : decode M.2.1 pc = .ok (.getfield index, 3)) (hw : sFl (RX12, TX12, 126) M.1.cls index 56 ∈ lw_ok) (hA : mAt w 106 106) (hT : mT w μ) (kt : VS l D c H0 sa K W S SE M R Q (pc + 3) lv (.ref 143 :: st) μ) : VS l D c H0 sa K W S SE M R Q (pc) lv (.ref 106 :: st) μ := VS.lift (fun _ _ _ x T' _ _ k => gf_X12_56 hd hw (A_106 x) T' k) kt
set_option maxRecDepth 20000 in
theorem xgf_X12_57 {index : Nat} (hd : decode M.2.1 pc = .ok (.getfield index, 3)) (hw : sFl (RX12, TX12, 126) M.1.cls index 57 ∈ lw_ok) (hA : mAt w 106 106) (hT : mT w μ) (kt : VS l D c H0 sa K W S SE M R Q (pc + 3) lv (.ref 144 :: st) μ) : VS l D c H0 sa K W S SE M R Q (pc) lv (.ref 106 :: st) μ := VS.lift (fun _ _ _ x T' _ _ k => gf_X12_57 hd hw (A_106 x) T' k) kt
set_option maxRecDepth 20000 in
theorem xgf_X12_67 {index : Nat} (hd : decode M.2.1 pc = .ok (.getfield index, 3)) (hw : sFl (RX12, TX12, 126) M.1.cls index 67 ∈ lw_ok) (hA : mAt w 106 106) (hT : mT w μ) (kt : VS l D c H0 sa K W S SE M R Q (pc + 3) lv (.ref 151 :: st) μ) : VS l D c H0 sa K W S SE M R Q (pc) lv (.ref 106 :: st) μ := VS.lift (fun _ _ _ x T' _ _ k => gf_X12_67 hd hw (A_106 x) T' k) kt
set_option maxRecDepth 20000 in
theorem xgf_X12_68 {index : Nat} (hd : decode M.2.1 pc = .ok (.getfield index, 3)) (hw : sFl (RX12, TX12, 126) M.1.cls index 68 ∈ lw_ok) (hA : mAt w 106 106) (hT : mT w μ) (kt : VS l D c H0 sa K W S SE M R Q (pc + 3) lv (.ref 152 :: st) μ) : VS l D c H0 sa K W S SE M R Q (pc) lv (.ref 106 :: st) μ := VS.lift (fun _ _ _ x T' _ _ k => gf_X12_68 hd hw (A_106 x) T' k) kt
set_option maxRecDepth 20000 in
theorem xgf_X12_69 {index : Nat} (hd : decode M.2.1 pc = .ok (.getfield index, 3)) (hw : sFl (RX12, TX12, 126) M.1.cls index 69 ∈ lw_ok) (hA : mAt w 106 106) (hT : mT w μ) (kt : VS l D c H0 sa K W S SE M R Q (pc + 3) lv (.ref 153 :: st) μ) : VS l D c H0 sa K W S SE M R Q (pc) lv (.ref 106 :: st) μ := VS.lift (fun _ _ _ x T' _ _ k => gf_X12_69 hd hw (A_106 x) T' k) kt
set_option maxRecDepth 20000 in
theorem xgf_X12_7 {index : Nat} (hd : decode M.2.1 pc = .ok (.getfield index, 3)) (hw : sFl (RX12, TX12, 126) M.1.cls index 7 ∈ lw_ok) (hA : mAt w 106 106) (hT : mT w μ) (kt : VS l D c H0 sa K W S SE M R Q (pc + 3) lv (.ref 110 :: st) μ) : VS l D c H0 sa K W S SE M R Q (pc) lv (.ref 106 :: st) μ := VS.lift (fun _ _ _ x T' _ _ k => gf_X12_7 hd hw (A_106 x) T' k) kt
set_option maxRecDepth 20000 in
theorem xgf_X12_8 {index : Nat} (hd : decode M.2.1 pc = .ok (.getfield index, 3)) (hw : sFl (RX12, TX12, 126) M.1.cls index 8 ∈ lw_ok) (hA : mAt w 106 106) (hT : mT w μ) (kt : VS l D c H0 sa K W S SE M R Q (pc + 3) lv (.ref 111 :: st) μ) : VS l D c H0 sa K W S SE M R Q (pc) lv (.ref 106 :: st) μ := VS.lift (fun _ _ _ x T' _ _ k => gf_X12_8 hd hw (A_106 x) T' k) kt
set_option maxRecDepth 20000 in
theorem xgf_X12_9 {index : Nat} (hd : decode M.2.1 pc = .ok (.getfield index, 3)) (hw : sFl (RX12, TX12, 126) M.1.cls index 9 ∈ lw_ok) (hA : mAt w 106 106) (hT : mT w μ) (kt : VS l D c H0 sa K W S SE M R Q (pc + 3) lv (.ref 112 :: st) μ) : VS l D c H0 sa K W S SE M R Q (pc) lv (.ref 106 :: st) μ := VS.lift (fun _ _ _ x T' _ _ k => gf_X12_9 hd hw (A_106 x) T' k) kt
set_option maxRecDepth 20000 in
theorem xgk_X12_17 {index : Nat} (hd : decode M.2.1 pc = .ok (.getfield index, 3)) (hw : sFl (RX12, TX12, 126) M.1.cls index 17 ∈ lw_ok) (hA : mAt w 106 106) {z : Int} (q : μ 106 17 = z) (kt : VS l D c H0 sa K W S SE M R Q (pc + 3) lv (iv z :: st) μ) (hS : S 106 17) : VS l D c H0 sa K W S SE M R Q (pc) lv (.ref 106 :: st) μ := VS.lift (fun _ ν _ x _ _ dd k => gk_X12_17 hd hw (A_106 x) ((dd _ _ hS).trans q) k) kt
theorem xla_108 {e : Int} (hd : decode M.2.1 pc = .ok (.iaload, 1)) (hA : mAt w 108 108) (hT : mT w μ) (hi : 0 ≤ e ∧ e < 10) (kt : ∀ z, μ 108 e.toNat = z → ((-2147483648) ≤ z ∧ z ≤ 2147483647) → VS l D c H0 sa K W S SE M R Q (pc + 1) lv (iv z :: st) μ) (hS : S 108 e.toNat) : VS l D c H0 sa K W S SE M R Q (pc) lv (iv e :: .ref 108 :: st) μ := VS.lift (fun _ ν _ x T' _ dd k => la_108 hd (A_108 x) T' hi (fun z q _ => by rw [← q, dd _ _ hS]; exact k)) (kt _ rfl (hT 108 108 hA e.toNat))
theorem xla_109 {e : Int} (hd : decode M.2.1 pc = .ok (.iaload, 1)) (hA : mAt w 109 109) (hT : mT w μ) (hi : 0 ≤ e ∧ e < 10) (kt : ∀ z, μ 109 e.toNat = z → (0 ≤ z ∧ z ≤ 32) → VS l D c H0 sa K W S SE M R Q (pc + 1) lv (iv z :: st) μ) (hS : S 109 e.toNat) : VS l D c H0 sa K W S SE M R Q (pc) lv (iv e :: .ref 109 :: st) μ := VS.lift (fun _ ν _ x T' _ dd k => la_109 hd (A_109 x) T' hi (fun z q _ => by rw [← q, dd _ _ hS]; exact k)) (kt _ rfl (hT 109 109 hA e.toNat))
theorem xla_110 {e : Int} (hd : decode M.2.1 pc = .ok (.iaload, 1)) (hA : mAt w 110 110) (hT : mT w μ) (hi : 0 ≤ e ∧ e < 40) (kt : ∀ z, μ 110 e.toNat = z → (0 ≤ z ∧ z ≤ 9) → VS l D c H0 sa K W S SE M R Q (pc + 1) lv (iv z :: st) μ) (hS : S 110 e.toNat) : VS l D c H0 sa K W S SE M R Q (pc) lv (iv e :: .ref 110 :: st) μ := VS.lift (fun _ ν _ x T' _ dd k => la_110 hd (A_110 x) T' hi (fun z q _ => by rw [← q, dd _ _ hS]; exact k)) (kt _ rfl (hT 110 110 hA e.toNat))
theorem xla_111 {e : Int} (hd : decode M.2.1 pc = .ok (.iaload, 1)) (hA : mAt w 111 111) (hT : mT w μ) (hi : 0 ≤ e ∧ e < 20) (kt : ∀ z, μ 111 e.toNat = z → (0 ≤ z ∧ z ≤ 2) → VS l D c H0 sa K W S SE M R Q (pc + 1) lv (iv z :: st) μ) (hS : S 111 e.toNat) : VS l D c H0 sa K W S SE M R Q (pc) lv (iv e :: .ref 111 :: st) μ := VS.lift (fun _ ν _ x T' _ dd k => la_111 hd (A_111 x) T' hi (fun z q _ => by rw [← q, dd _ _ hS]; exact k)) (kt _ rfl (hT 111 111 hA e.toNat))
theorem xla_112 {e : Int} (hd : decode M.2.1 pc = .ok (.baload, 1)) (hA : mAt w 112 112) (hT : mT w μ) (hi : 0 ≤ e ∧ e < 20) (kt : ∀ z, μ 112 e.toNat = z → (0 ≤ z ∧ z ≤ 1) → VS l D c H0 sa K W S SE M R Q (pc + 1) lv (iv z :: st) μ) (hS : S 112 e.toNat) : VS l D c H0 sa K W S SE M R Q (pc) lv (iv e :: .ref 112 :: st) μ := VS.lift (fun _ ν _ x T' _ dd k => la_112 hd (A_112 x) T' hi (fun z q _ => by rw [← q, dd _ _ hS]; exact k)) (kt _ rfl (hT 112 112 hA e.toNat))
theorem xla_115 {e : Int} (hd : decode M.2.1 pc = .ok (.iaload, 1)) (hA : mAt w 115 115) (hT : mT w μ) (hi : 0 ≤ e ∧ e < 80) (kt : ∀ z, μ 115 e.toNat = z → (z = -99999999 ∨ (0 ≤ z ∧ z ≤ 11)) → VS l D c H0 sa K W S SE M R Q (pc + 1) lv (iv z :: st) μ) (hS : S 115 e.toNat) : VS l D c H0 sa K W S SE M R Q (pc) lv (iv e :: .ref 115 :: st) μ := VS.lift (fun _ ν _ x T' _ dd k => la_115 hd (A_115 x) T' hi (fun z q _ => by rw [← q, dd _ _ hS]; exact k)) (kt _ rfl (hT 115 115 hA e.toNat))
theorem xla_119 {e : Int} (hd : decode M.2.1 pc = .ok (.iaload, 1)) (hA : mAt w 119 119) (hT : mT w μ) (hi : 0 ≤ e ∧ e < 30) (kt : ∀ z, μ 119 e.toNat = z → (0 ≤ z ∧ z ≤ 9) → VS l D c H0 sa K W S SE M R Q (pc + 1) lv (iv z :: st) μ) (hS : S 119 e.toNat) : VS l D c H0 sa K W S SE M R Q (pc) lv (iv e :: .ref 119 :: st) μ := VS.lift (fun _ ν _ x T' _ dd k => la_119 hd (A_119 x) T' hi (fun z q _ => by rw [← q, dd _ _ hS]; exact k)) (kt _ rfl (hT 119 119 hA e.toNat))
theorem xla_120 {e : Int} (hd : decode M.2.1 pc = .ok (.iaload, 1)) (hA : mAt w 120 120) (hT : mT w μ) (hi : 0 ≤ e ∧ e < 30) (kt : ∀ z, μ 120 e.toNat = z → ((-2147483648) ≤ z ∧ z ≤ 2147483647) → VS l D c H0 sa K W S SE M R Q (pc + 1) lv (iv z :: st) μ) (hS : S 120 e.toNat) : VS l D c H0 sa K W S SE M R Q (pc) lv (iv e :: .ref 120 :: st) μ := VS.lift (fun _ ν _ x T' _ dd k => la_120 hd (A_120 x) T' hi (fun z q _ => by rw [← q, dd _ _ hS]; exact k)) (kt _ rfl (hT 120 120 hA e.toNat))
theorem xla_121 {e : Int} (hd : decode M.2.1 pc = .ok (.iaload, 1)) (hA : mAt w 121 121) (hT : mT w μ) (hi : 0 ≤ e ∧ e < 30) (kt : ∀ z, μ 121 e.toNat = z → ((-2147483648) ≤ z ∧ z ≤ 2147483647) → VS l D c H0 sa K W S SE M R Q (pc + 1) lv (iv z :: st) μ) (hS : S 121 e.toNat) : VS l D c H0 sa K W S SE M R Q (pc) lv (iv e :: .ref 121 :: st) μ := VS.lift (fun _ ν _ x T' _ dd k => la_121 hd (A_121 x) T' hi (fun z q _ => by rw [← q, dd _ _ hS]; exact k)) (kt _ rfl (hT 121 121 hA e.toNat))
theorem xla_122 {e : Int} (hd : decode M.2.1 pc = .ok (.iaload, 1)) (hA : mAt w 122 122) (hT : mT w μ) (hi : 0 ≤ e ∧ e < 30) (kt : ∀ z, μ 122 e.toNat = z → ((-2147483648) ≤ z ∧ z ≤ 2147483647) → VS l D c H0 sa K W S SE M R Q (pc + 1) lv (iv z :: st) μ) (hS : S 122 e.toNat) : VS l D c H0 sa K W S SE M R Q (pc) lv (iv e :: .ref 122 :: st) μ := VS.lift (fun _ ν _ x T' _ dd k => la_122 hd (A_122 x) T' hi (fun z q _ => by rw [← q, dd _ _ hS]; exact k)) (kt _ rfl (hT 122 122 hA e.toNat))
theorem xla_123 {e : Int} (hd : decode M.2.1 pc = .ok (.iaload, 1)) (hA : mAt w 123 123) (hT : mT w μ) (hi : 0 ≤ e ∧ e < 30) (kt : ∀ z, μ 123 e.toNat = z → ((-2147483648) ≤ z ∧ z ≤ 2147483647) → VS l D c H0 sa K W S SE M R Q (pc + 1) lv (iv z :: st) μ) (hS : S 123 e.toNat) : VS l D c H0 sa K W S SE M R Q (pc) lv (iv e :: .ref 123 :: st) μ := VS.lift (fun _ ν _ x T' _ dd k => la_123 hd (A_123 x) T' hi (fun z q _ => by rw [← q, dd _ _ hS]; exact k)) (kt _ rfl (hT 123 123 hA e.toNat))
theorem xla_124 {e : Int} (hd : decode M.2.1 pc = .ok (.iaload, 1)) (hA : mAt w 124 124) (hT : mT w μ) (hi : 0 ≤ e ∧ e < 30) (kt : ∀ z, μ 124 e.toNat = z → ((-2147483648) ≤ z ∧ z ≤ 2147483647) → VS l D c H0 sa K W S SE M R Q (pc + 1) lv (iv z :: st) μ) (hS : S 124 e.toNat) : VS l D c H0 sa K W S SE M R Q (pc) lv (iv e :: .ref 124 :: st) μ := VS.lift (fun _ ν _ x T' _ dd k => la_124 hd (A_124 x) T' hi (fun z q _ => by rw [← q, dd _ _ hS]; exact k)) (kt _ rfl (hT 124 124 hA e.toNat))
theorem xla_125 {e : Int} (hd : decode M.2.1 pc = .ok (.iaload, 1)) (hA : mAt w 125 125) (hT : mT w μ) (hi : 0 ≤ e ∧ e < 30) (kt : ∀ z, μ 125 e.toNat = z → ((-2147483648) ≤ z ∧ z ≤ 2147483647) → VS l D c H0 sa K W S SE M R Q (pc + 1) lv (iv z :: st) μ) (hS : S 125 e.toNat) : VS l D c H0 sa K W S SE M R Q (pc) lv (iv e :: .ref 125 :: st) μ := VS.lift (fun _ ν _ x T' _ dd k => la_125 hd (A_125 x) T' hi (fun z q _ => by rw [← q, dd _ _ hS]; exact k)) (kt _ rfl (hT 125 125 hA e.toNat))
theorem xla_126 {e : Int} (hd : decode M.2.1 pc = .ok (.iaload, 1)) (hA : mAt w 126 126) (hT : mT w μ) (hi : 0 ≤ e ∧ e < 84000) (kt : ∀ z, μ 126 e.toNat = z → ((-2147483648 ≤ z ∧ z ≤ 2147483647) ∧ (e % 40 = 0 → -1 ≤ z ∧ z ≤ 9) ∧ (e % 40 = 4 → 0 ≤ z ∧ z ≤ 20) ∧ (e % 40 = 5 → 0 ≤ z ∧ z ≤ 8)) → VS l D c H0 sa K W S SE M R Q (pc + 1) lv (iv z :: st) μ) (hS : S 126 e.toNat) : VS l D c H0 sa K W S SE M R Q (pc) lv (iv e :: .ref 126 :: st) μ := VS.lift (fun _ ν _ x T' _ dd k => la_126 hd (A_126 x) T' hi (fun z q _ => by rw [← q, dd _ _ hS]; exact k)) (kt _ rfl (by
  have h := hT 126 126 hA e.toNat
  have e1 : ((e.toNat : Nat) : Int) = e := Int.toNat_of_nonneg hi.1
  have h : (-2147483648 ≤ μ 126 e.toNat ∧ μ 126 e.toNat ≤ 2147483647) ∧ (e.toNat % 40 = 0 → -1 ≤ μ 126 e.toNat ∧ μ 126 e.toNat ≤ 9) ∧ (e.toNat % 40 = 4 → 0 ≤ μ 126 e.toNat ∧ μ 126 e.toNat ≤ 20) ∧ (e.toNat % 40 = 5 → 0 ≤ μ 126 e.toNat ∧ μ 126 e.toNat ≤ 8) := h
  exact ⟨h.1, fun q => h.2.1 (by omega), fun q => h.2.2.1 (by omega), fun q => h.2.2.2 (by omega)⟩))
theorem xla_128 {e : Int} (hd : decode M.2.1 pc = .ok (.iaload, 1)) (hA : mAt w 128 128) (hT : mT w μ) (hi : 0 ≤ e ∧ e < 403) (kt : ∀ z, μ 128 e.toNat = z → (0 ≤ z ∧ z ≤ 300) → VS l D c H0 sa K W S SE M R Q (pc + 1) lv (iv z :: st) μ) (hS : S 128 e.toNat) : VS l D c H0 sa K W S SE M R Q (pc) lv (iv e :: .ref 128 :: st) μ := VS.lift (fun _ ν _ x T' _ dd k => la_128 hd (A_128 x) T' hi (fun z q _ => by rw [← q, dd _ _ hS]; exact k)) (kt _ rfl (hT 128 128 hA e.toNat))
theorem xla_129 {e : Int} (hd : decode M.2.1 pc = .ok (.iaload, 1)) (hA : mAt w 129 129) (hT : mT w μ) (hi : 0 ≤ e ∧ e < 403) (kt : ∀ z, μ 129 e.toNat = z → (0 ≤ z ∧ z ≤ 300) → VS l D c H0 sa K W S SE M R Q (pc + 1) lv (iv z :: st) μ) (hS : S 129 e.toNat) : VS l D c H0 sa K W S SE M R Q (pc) lv (iv e :: .ref 129 :: st) μ := VS.lift (fun _ ν _ x T' _ dd k => la_129 hd (A_129 x) T' hi (fun z q _ => by rw [← q, dd _ _ hS]; exact k)) (kt _ rfl (hT 129 129 hA e.toNat))
theorem xla_132 {e : Int} (hd : decode M.2.1 pc = .ok (.iaload, 1)) (hA : mAt w 132 132) (hT : mT w μ) (hi : 0 ≤ e ∧ e < 3900) (kt : ∀ z, μ 132 e.toNat = z → ((-2147483648) ≤ z ∧ z ≤ 2147483647) → VS l D c H0 sa K W S SE M R Q (pc + 1) lv (iv z :: st) μ) (hS : S 132 e.toNat) : VS l D c H0 sa K W S SE M R Q (pc) lv (iv e :: .ref 132 :: st) μ := VS.lift (fun _ ν _ x T' _ dd k => la_132 hd (A_132 x) T' hi (fun z q _ => by rw [← q, dd _ _ hS]; exact k)) (kt _ rfl (hT 132 132 hA e.toNat))
theorem xla_133 {e : Int} (hd : decode M.2.1 pc = .ok (.baload, 1)) (hA : mAt w 133 133) (hT : mT w μ) (hi : 0 ≤ e ∧ e < 3900) (kt : ∀ z, μ 133 e.toNat = z → (0 ≤ z ∧ z ≤ 1) → VS l D c H0 sa K W S SE M R Q (pc + 1) lv (iv z :: st) μ) (hS : S 133 e.toNat) : VS l D c H0 sa K W S SE M R Q (pc) lv (iv e :: .ref 133 :: st) μ := VS.lift (fun _ ν _ x T' _ dd k => la_133 hd (A_133 x) T' hi (fun z q _ => by rw [← q, dd _ _ hS]; exact k)) (kt _ rfl (hT 133 133 hA e.toNat))
theorem xla_134 {e : Int} (hd : decode M.2.1 pc = .ok (.iaload, 1)) (hA : mAt w 134 134) (hT : mT w μ) (hi : 0 ≤ e ∧ e < 3900) (kt : ∀ z, μ 134 e.toNat = z → ((-2147483648) ≤ z ∧ z ≤ 2147483647) → VS l D c H0 sa K W S SE M R Q (pc + 1) lv (iv z :: st) μ) (hS : S 134 e.toNat) : VS l D c H0 sa K W S SE M R Q (pc) lv (iv e :: .ref 134 :: st) μ := VS.lift (fun _ ν _ x T' _ dd k => la_134 hd (A_134 x) T' hi (fun z q _ => by rw [← q, dd _ _ hS]; exact k)) (kt _ rfl (hT 134 134 hA e.toNat))
theorem xla_135 {e : Int} (hd : decode M.2.1 pc = .ok (.iaload, 1)) (hA : mAt w 135 135) (hT : mT w μ) (hi : 0 ≤ e ∧ e < 3900) (kt : ∀ z, μ 135 e.toNat = z → ((-2147483648) ≤ z ∧ z ≤ 2147483647) → VS l D c H0 sa K W S SE M R Q (pc + 1) lv (iv z :: st) μ) (hS : S 135 e.toNat) : VS l D c H0 sa K W S SE M R Q (pc) lv (iv e :: .ref 135 :: st) μ := VS.lift (fun _ ν _ x T' _ dd k => la_135 hd (A_135 x) T' hi (fun z q _ => by rw [← q, dd _ _ hS]; exact k)) (kt _ rfl (hT 135 135 hA e.toNat))
theorem xla_136 {e : Int} (hd : decode M.2.1 pc = .ok (.iaload, 1)) (hA : mAt w 136 136) (hT : mT w μ) (hi : 0 ≤ e ∧ e < 3900) (kt : ∀ z, μ 136 e.toNat = z → ((-2147483648) ≤ z ∧ z ≤ 2147483647) → VS l D c H0 sa K W S SE M R Q (pc + 1) lv (iv z :: st) μ) (hS : S 136 e.toNat) : VS l D c H0 sa K W S SE M R Q (pc) lv (iv e :: .ref 136 :: st) μ := VS.lift (fun _ ν _ x T' _ dd k => la_136 hd (A_136 x) T' hi (fun z q _ => by rw [← q, dd _ _ hS]; exact k)) (kt _ rfl (hT 136 136 hA e.toNat))
theorem xla_137 {e : Int} (hd : decode M.2.1 pc = .ok (.laload, 1)) (hA : mAt w 137 137) (hT : mT w μ) (hi : 0 ≤ e ∧ e < 3900) (kt : ∀ z, μ 137 e.toNat = z → ((-9223372036854775808) ≤ z ∧ z ≤ 9223372036854775807) → VS l D c H0 sa K W S SE M R Q (pc + 1) lv (jv z :: st) μ) (hS : S 137 e.toNat) : VS l D c H0 sa K W S SE M R Q (pc) lv (iv e :: .ref 137 :: st) μ := VS.lift (fun _ ν _ x T' _ dd k => la_137 hd (A_137 x) T' hi (fun z q _ => by rw [← q, dd _ _ hS]; exact k)) (kt _ rfl (hT 137 137 hA e.toNat))
theorem xla_138 {e : Int} (hd : decode M.2.1 pc = .ok (.laload, 1)) (hA : mAt w 138 138) (hT : mT w μ) (hi : 0 ≤ e ∧ e < 3900) (kt : ∀ z, μ 138 e.toNat = z → ((-9223372036854775808) ≤ z ∧ z ≤ 9223372036854775807) → VS l D c H0 sa K W S SE M R Q (pc + 1) lv (jv z :: st) μ) (hS : S 138 e.toNat) : VS l D c H0 sa K W S SE M R Q (pc) lv (iv e :: .ref 138 :: st) μ := VS.lift (fun _ ν _ x T' _ dd k => la_138 hd (A_138 x) T' hi (fun z q _ => by rw [← q, dd _ _ hS]; exact k)) (kt _ rfl (hT 138 138 hA e.toNat))
theorem xla_139 {e : Int} (hd : decode M.2.1 pc = .ok (.baload, 1)) (hA : mAt w 139 139) (hT : mT w μ) (hi : 0 ≤ e ∧ e < 3900) (kt : ∀ z, μ 139 e.toNat = z → (0 ≤ z ∧ z ≤ 1) → VS l D c H0 sa K W S SE M R Q (pc + 1) lv (iv z :: st) μ) (hS : S 139 e.toNat) : VS l D c H0 sa K W S SE M R Q (pc) lv (iv e :: .ref 139 :: st) μ := VS.lift (fun _ ν _ x T' _ dd k => la_139 hd (A_139 x) T' hi (fun z q _ => by rw [← q, dd _ _ hS]; exact k)) (kt _ rfl (hT 139 139 hA e.toNat))
theorem xla_140 {e : Int} (hd : decode M.2.1 pc = .ok (.iaload, 1)) (hA : mAt w 140 140) (hT : mT w μ) (hi : 0 ≤ e ∧ e < 3900) (kt : ∀ z, μ 140 e.toNat = z → ((-2147483648) ≤ z ∧ z ≤ 2147483647) → VS l D c H0 sa K W S SE M R Q (pc + 1) lv (iv z :: st) μ) (hS : S 140 e.toNat) : VS l D c H0 sa K W S SE M R Q (pc) lv (iv e :: .ref 140 :: st) μ := VS.lift (fun _ ν _ x T' _ dd k => la_140 hd (A_140 x) T' hi (fun z q _ => by rw [← q, dd _ _ hS]; exact k)) (kt _ rfl (hT 140 140 hA e.toNat))
theorem xla_141 {e : Int} (hd : decode M.2.1 pc = .ok (.iaload, 1)) (hA : mAt w 141 141) (hT : mT w μ) (hi : 0 ≤ e ∧ e < 3900) (kt : ∀ z, μ 141 e.toNat = z → ((-2147483648) ≤ z ∧ z ≤ 2147483647) → VS l D c H0 sa K W S SE M R Q (pc + 1) lv (iv z :: st) μ) (hS : S 141 e.toNat) : VS l D c H0 sa K W S SE M R Q (pc) lv (iv e :: .ref 141 :: st) μ := VS.lift (fun _ ν _ x T' _ dd k => la_141 hd (A_141 x) T' hi (fun z q _ => by rw [← q, dd _ _ hS]; exact k)) (kt _ rfl (hT 141 141 hA e.toNat))
theorem xla_142 {e : Int} (hd : decode M.2.1 pc = .ok (.iaload, 1)) (hA : mAt w 142 142) (hT : mT w μ) (hi : 0 ≤ e ∧ e < 13) (kt : ∀ z, μ 142 e.toNat = z → (0 ≤ z ∧ z ≤ 40) → VS l D c H0 sa K W S SE M R Q (pc + 1) lv (iv z :: st) μ) (hS : S 142 e.toNat) : VS l D c H0 sa K W S SE M R Q (pc) lv (iv e :: .ref 142 :: st) μ := VS.lift (fun _ ν _ x T' _ dd k => la_142 hd (A_142 x) T' hi (fun z q _ => by rw [← q, dd _ _ hS]; exact k)) (kt _ rfl (hT 142 142 hA e.toNat))
theorem xla_143 {e : Int} (hd : decode M.2.1 pc = .ok (.iaload, 1)) (hA : mAt w 143 143) (hT : mT w μ) (hi : 0 ≤ e ∧ e < 533) (kt : ∀ z, μ 143 e.toNat = z → ((-2147483648) ≤ z ∧ z ≤ 2147483647) → VS l D c H0 sa K W S SE M R Q (pc + 1) lv (iv z :: st) μ) (hS : S 143 e.toNat) : VS l D c H0 sa K W S SE M R Q (pc) lv (iv e :: .ref 143 :: st) μ := VS.lift (fun _ ν _ x T' _ dd k => la_143 hd (A_143 x) T' hi (fun z q _ => by rw [← q, dd _ _ hS]; exact k)) (kt _ rfl (hT 143 143 hA e.toNat))
theorem xla_144 {e : Int} (hd : decode M.2.1 pc = .ok (.laload, 1)) (hA : mAt w 144 144) (hT : mT w μ) (hi : 0 ≤ e ∧ e < 533) (kt : ∀ z, μ 144 e.toNat = z → ((-9223372036854775808) ≤ z ∧ z ≤ 9223372036854775807) → VS l D c H0 sa K W S SE M R Q (pc + 1) lv (jv z :: st) μ) (hS : S 144 e.toNat) : VS l D c H0 sa K W S SE M R Q (pc) lv (iv e :: .ref 144 :: st) μ := VS.lift (fun _ ν _ x T' _ dd k => la_144 hd (A_144 x) T' hi (fun z q _ => by rw [← q, dd _ _ hS]; exact k)) (kt _ rfl (hT 144 144 hA e.toNat))
theorem xla_151 {e : Int} (hd : decode M.2.1 pc = .ok (.iaload, 1)) (hA : mAt w 151 151) (hT : mT w μ) (hi : 0 ≤ e ∧ e < 14) (kt : ∀ z, μ 151 e.toNat = z → (0 ≤ z ∧ z ≤ 11) → VS l D c H0 sa K W S SE M R Q (pc + 1) lv (iv z :: st) μ) (hS : S 151 e.toNat) : VS l D c H0 sa K W S SE M R Q (pc) lv (iv e :: .ref 151 :: st) μ := VS.lift (fun _ ν _ x T' _ dd k => la_151 hd (A_151 x) T' hi (fun z q _ => by rw [← q, dd _ _ hS]; exact k)) (kt _ rfl (hT 151 151 hA e.toNat))
theorem xla_152 {e : Int} (hd : decode M.2.1 pc = .ok (.iaload, 1)) (hA : mAt w 152 152) (hT : mT w μ) (hi : 0 ≤ e ∧ e < 14) (kt : ∀ z, μ 152 e.toNat = z → ((-1) ≤ z ∧ z ≤ 30) → VS l D c H0 sa K W S SE M R Q (pc + 1) lv (iv z :: st) μ) (hS : S 152 e.toNat) : VS l D c H0 sa K W S SE M R Q (pc) lv (iv e :: .ref 152 :: st) μ := VS.lift (fun _ ν _ x T' _ dd k => la_152 hd (A_152 x) T' hi (fun z q _ => by rw [← q, dd _ _ hS]; exact k)) (kt _ rfl (hT 152 152 hA e.toNat))
theorem xla_153 {e : Int} (hd : decode M.2.1 pc = .ok (.iaload, 1)) (hA : mAt w 153 153) (hT : mT w μ) (hi : 0 ≤ e ∧ e < 14) (kt : ∀ z, μ 153 e.toNat = z → (0 ≤ z ∧ z ≤ 300) → VS l D c H0 sa K W S SE M R Q (pc + 1) lv (iv z :: st) μ) (hS : S 153 e.toNat) : VS l D c H0 sa K W S SE M R Q (pc) lv (iv e :: .ref 153 :: st) μ := VS.lift (fun _ ν _ x T' _ dd k => la_153 hd (A_153 x) T' hi (fun z q _ => by rw [← q, dd _ _ hS]; exact k)) (kt _ rfl (hT 153 153 hA e.toNat))
theorem xlk_109 {e : Int} (hd : decode M.2.1 pc = .ok (.iaload, 1)) (hA : mAt w 109 109) (hi : 0 ≤ e ∧ e < 10) {z : Int} (q : μ 109 e.toNat = z) (kt : VS l D c H0 sa K W S SE M R Q (pc + 1) lv (iv z :: st) μ) (hS : S 109 e.toNat) : VS l D c H0 sa K W S SE M R Q (pc) lv (iv e :: .ref 109 :: st) μ := VS.lift (fun _ ν _ x _ _ dd k => lk_109 hd (A_109 x) hi ((dd _ _ hS).trans q) k) kt
theorem xlk_110 {e : Int} (hd : decode M.2.1 pc = .ok (.iaload, 1)) (hA : mAt w 110 110) (hi : 0 ≤ e ∧ e < 40) {z : Int} (q : μ 110 e.toNat = z) (kt : VS l D c H0 sa K W S SE M R Q (pc + 1) lv (iv z :: st) μ) (hS : S 110 e.toNat) : VS l D c H0 sa K W S SE M R Q (pc) lv (iv e :: .ref 110 :: st) μ := VS.lift (fun _ ν _ x _ _ dd k => lk_110 hd (A_110 x) hi ((dd _ _ hS).trans q) k) kt
theorem xlk_111 {e : Int} (hd : decode M.2.1 pc = .ok (.iaload, 1)) (hA : mAt w 111 111) (hi : 0 ≤ e ∧ e < 20) {z : Int} (q : μ 111 e.toNat = z) (kt : VS l D c H0 sa K W S SE M R Q (pc + 1) lv (iv z :: st) μ) (hS : S 111 e.toNat) : VS l D c H0 sa K W S SE M R Q (pc) lv (iv e :: .ref 111 :: st) μ := VS.lift (fun _ ν _ x _ _ dd k => lk_111 hd (A_111 x) hi ((dd _ _ hS).trans q) k) kt
theorem xlk_125 {e : Int} (hd : decode M.2.1 pc = .ok (.iaload, 1)) (hA : mAt w 125 125) (hi : 0 ≤ e ∧ e < 30) {z : Int} (q : μ 125 e.toNat = z) (kt : VS l D c H0 sa K W S SE M R Q (pc + 1) lv (iv z :: st) μ) (hS : S 125 e.toNat) : VS l D c H0 sa K W S SE M R Q (pc) lv (iv e :: .ref 125 :: st) μ := VS.lift (fun _ ν _ x _ _ dd k => lk_125 hd (A_125 x) hi ((dd _ _ hS).trans q) k) kt
theorem xlk_126 {e : Int} (hd : decode M.2.1 pc = .ok (.iaload, 1)) (hA : mAt w 126 126) (hi : 0 ≤ e ∧ e < 84000) {z : Int} (q : μ 126 e.toNat = z) (kt : VS l D c H0 sa K W S SE M R Q (pc + 1) lv (iv z :: st) μ) (hS : S 126 e.toNat) : VS l D c H0 sa K W S SE M R Q (pc) lv (iv e :: .ref 126 :: st) μ := VS.lift (fun _ ν _ x _ _ dd k => lk_126 hd (A_126 x) hi ((dd _ _ hS).trans q) k) kt
theorem xlk_127 {e : Int} (hd : decode M.2.1 pc = .ok (.iaload, 1)) (hA : mAt w 127 127) (hi : 0 ≤ e ∧ e < 13) {z : Int} (q : μ 127 e.toNat = z) (kt : VS l D c H0 sa K W S SE M R Q (pc + 1) lv (iv z :: st) μ) (hS : S 127 e.toNat) : VS l D c H0 sa K W S SE M R Q (pc) lv (iv e :: .ref 127 :: st) μ := VS.lift (fun _ ν _ x _ _ dd k => lk_127 hd (A_127 x) hi ((dd _ _ hS).trans q) k) kt
theorem xlk_132 {e : Int} (hd : decode M.2.1 pc = .ok (.iaload, 1)) (hA : mAt w 132 132) (hi : 0 ≤ e ∧ e < 3900) {z : Int} (q : μ 132 e.toNat = z) (kt : VS l D c H0 sa K W S SE M R Q (pc + 1) lv (iv z :: st) μ) (hS : S 132 e.toNat) : VS l D c H0 sa K W S SE M R Q (pc) lv (iv e :: .ref 132 :: st) μ := VS.lift (fun _ ν _ x _ _ dd k => lk_132 hd (A_132 x) hi ((dd _ _ hS).trans q) k) kt
theorem xlk_135 {e : Int} (hd : decode M.2.1 pc = .ok (.iaload, 1)) (hA : mAt w 135 135) (hi : 0 ≤ e ∧ e < 3900) {z : Int} (q : μ 135 e.toNat = z) (kt : VS l D c H0 sa K W S SE M R Q (pc + 1) lv (iv z :: st) μ) (hS : S 135 e.toNat) : VS l D c H0 sa K W S SE M R Q (pc) lv (iv e :: .ref 135 :: st) μ := VS.lift (fun _ ν _ x _ _ dd k => lk_135 hd (A_135 x) hi ((dd _ _ hS).trans q) k) kt
theorem xlk_141 {e : Int} (hd : decode M.2.1 pc = .ok (.iaload, 1)) (hA : mAt w 141 141) (hi : 0 ≤ e ∧ e < 3900) {z : Int} (q : μ 141 e.toNat = z) (kt : VS l D c H0 sa K W S SE M R Q (pc + 1) lv (iv z :: st) μ) (hS : S 141 e.toNat) : VS l D c H0 sa K W S SE M R Q (pc) lv (iv e :: .ref 141 :: st) μ := VS.lift (fun _ ν _ x _ _ dd k => lk_141 hd (A_141 x) hi ((dd _ _ hS).trans q) k) kt
theorem xlk_142 {e : Int} (hd : decode M.2.1 pc = .ok (.iaload, 1)) (hA : mAt w 142 142) (hi : 0 ≤ e ∧ e < 13) {z : Int} (q : μ 142 e.toNat = z) (kt : VS l D c H0 sa K W S SE M R Q (pc + 1) lv (iv z :: st) μ) (hS : S 142 e.toNat) : VS l D c H0 sa K W S SE M R Q (pc) lv (iv e :: .ref 142 :: st) μ := VS.lift (fun _ ν _ x _ _ dd k => lk_142 hd (A_142 x) hi ((dd _ _ hS).trans q) k) kt
theorem xlk_143 {e : Int} (hd : decode M.2.1 pc = .ok (.iaload, 1)) (hA : mAt w 143 143) (hi : 0 ≤ e ∧ e < 533) {z : Int} (q : μ 143 e.toNat = z) (kt : VS l D c H0 sa K W S SE M R Q (pc + 1) lv (iv z :: st) μ) (hS : S 143 e.toNat) : VS l D c H0 sa K W S SE M R Q (pc) lv (iv e :: .ref 143 :: st) μ := VS.lift (fun _ ν _ x _ _ dd k => lk_143 hd (A_143 x) hi ((dd _ _ hS).trans q) k) kt
theorem xlk_153 {e : Int} (hd : decode M.2.1 pc = .ok (.iaload, 1)) (hA : mAt w 153 153) (hi : 0 ≤ e ∧ e < 14) {z : Int} (q : μ 153 e.toNat = z) (kt : VS l D c H0 sa K W S SE M R Q (pc + 1) lv (iv z :: st) μ) (hS : S 153 e.toNat) : VS l D c H0 sa K W S SE M R Q (pc) lv (iv e :: .ref 153 :: st) μ := VS.lift (fun _ ν _ x _ _ dd k => lk_153 hd (A_153 x) hi ((dd _ _ hS).trans q) k) kt
theorem xss_126 {e z : Int} (hd : decode M.2.1 pc = .ok (.iastore, 1)) (hA : mAt w 126 126) (hT : mT w μ) (hi : 0 ≤ e ∧ e < 84000) (hz : ((-2147483648 ≤ z ∧ z ≤ 2147483647) ∧ (e % 40 = 0 → -1 ≤ z ∧ z ≤ 9) ∧ (e % 40 = 4 → 0 ≤ z ∧ z ≤ 20) ∧ (e % 40 = 5 → 0 ≤ z ∧ z ≤ 8))) (kt : ∀ μ1, mU μ 126 e.toNat z μ1 → mT w μ1 → VS l D c H0 sa K W S SE M R Q (pc + 1) lv (st) μ1) (hW : W 126 e.toNat) : VS l D c H0 sa K W S SE M R Q (pc) lv (iv z :: iv e :: .ref 126 :: st) μ := VS.put (by decide) hW (fun w ν _ x T' k => ss_126 hd (A_126 x) T' hi hz k) (fun w ν x T' => (T'.up (k := e.toNat) (z := z) (A_126 x) (show tyP w 126 e.toNat (mTy 126 e.toNat) z from ⟨hz.1, fun q => hz.2.1 (by have q : e.toNat % 40 = 0 := q; have := Int.toNat_of_nonneg hi.1; omega), fun q => hz.2.2.1 (by have q : e.toNat % 40 = 4 := q; have := Int.toNat_of_nonneg hi.1; omega), fun q => hz.2.2.2 (by have q : e.toNat % 40 = 5 := q; have := Int.toNat_of_nonneg hi.1; omega)⟩) mUp_ok)) (VS.mono (fun _ _ q => Or.inl q) (kt _ mUp_ok (hT.up (k := e.toNat) (z := z) hA (show tyP w 126 e.toNat (mTy 126 e.toNat) z from ⟨hz.1, fun q => hz.2.1 (by have q : e.toNat % 40 = 0 := q; have := Int.toNat_of_nonneg hi.1; omega), fun q => hz.2.2.1 (by have q : e.toNat % 40 = 4 := q; have := Int.toNat_of_nonneg hi.1; omega), fun q => hz.2.2.2 (by have q : e.toNat % 40 = 5 := q; have := Int.toNat_of_nonneg hi.1; omega)⟩) mUp_ok)))
theorem xss_126i {e z : Int} (hd : decode M.2.1 pc = .ok (.iastore, 1)) (hA : mAt w 126 126) (hT : mT w μ) (hi : 0 ≤ e ∧ e < 84000) (hz : ((-2147483648 ≤ z ∧ z ≤ 2147483647) ∧ (e % 40 = 0 → -1 ≤ z ∧ z ≤ 9) ∧ (e % 40 = 4 → 0 ≤ z ∧ z ≤ 20) ∧ (e % 40 = 5 → 0 ≤ z ∧ z ≤ 8))) (kt : ∀ μ1, mU μ 126 e.toNat z μ1 → mT w μ1 → VS l D c H0 sa K W (Sins S 126 e.toNat) SE M R Q (pc + 1) lv (st) μ1) (hW : W 126 e.toNat) : VS l D c H0 sa K W S SE M R Q (pc) lv (iv z :: iv e :: .ref 126 :: st) μ := VS.put (by decide) hW (fun w ν _ x T' k => ss_126 hd (A_126 x) T' hi hz k) (fun w ν x T' => (T'.up (k := e.toNat) (z := z) (A_126 x) (show tyP w 126 e.toNat (mTy 126 e.toNat) z from ⟨hz.1, fun q => hz.2.1 (by have q : e.toNat % 40 = 0 := q; have := Int.toNat_of_nonneg hi.1; omega), fun q => hz.2.2.1 (by have q : e.toNat % 40 = 4 := q; have := Int.toNat_of_nonneg hi.1; omega), fun q => hz.2.2.2 (by have q : e.toNat % 40 = 5 := q; have := Int.toNat_of_nonneg hi.1; omega)⟩) mUp_ok)) ((kt _ mUp_ok (hT.up (k := e.toNat) (z := z) hA (show tyP w 126 e.toNat (mTy 126 e.toNat) z from ⟨hz.1, fun q => hz.2.1 (by have q : e.toNat % 40 = 0 := q; have := Int.toNat_of_nonneg hi.1; omega), fun q => hz.2.2.1 (by have q : e.toNat % 40 = 4 := q; have := Int.toNat_of_nonneg hi.1; omega), fun q => hz.2.2.2 (by have q : e.toNat % 40 = 5 := q; have := Int.toNat_of_nonneg hi.1; omega)⟩) mUp_ok)))
theorem xss_151i {e z : Int} (hd : decode M.2.1 pc = .ok (.iastore, 1)) (hA : mAt w 151 151) (hT : mT w μ) (hi : 0 ≤ e ∧ e < 14) (hz : (0 ≤ z ∧ z ≤ 11)) (kt : ∀ μ1, mU μ 151 e.toNat z μ1 → mT w μ1 → VS l D c H0 sa K W (Sins S 151 e.toNat) SE M R Q (pc + 1) lv (st) μ1) (hW : W 151 e.toNat) : VS l D c H0 sa K W S SE M R Q (pc) lv (iv z :: iv e :: .ref 151 :: st) μ := VS.put (by decide) hW (fun w ν _ x T' k => ss_151 hd (A_151 x) T' hi hz k) (fun w ν x T' => (T'.up (k := e.toNat) (z := z) (A_151 x) hz mUp_ok)) ((kt _ mUp_ok (hT.up (k := e.toNat) (z := z) hA hz mUp_ok)))
theorem xss_152 {e z : Int} (hd : decode M.2.1 pc = .ok (.iastore, 1)) (hA : mAt w 152 152) (hT : mT w μ) (hi : 0 ≤ e ∧ e < 14) (hz : ((-1) ≤ z ∧ z ≤ 30)) (kt : ∀ μ1, mU μ 152 e.toNat z μ1 → mT w μ1 → VS l D c H0 sa K W S SE M R Q (pc + 1) lv (st) μ1) (hW : W 152 e.toNat) : VS l D c H0 sa K W S SE M R Q (pc) lv (iv z :: iv e :: .ref 152 :: st) μ := VS.put (by decide) hW (fun w ν _ x T' k => ss_152 hd (A_152 x) T' hi hz k) (fun w ν x T' => (T'.up (k := e.toNat) (z := z) (A_152 x) hz mUp_ok)) (VS.mono (fun _ _ q => Or.inl q) (kt _ mUp_ok (hT.up (k := e.toNat) (z := z) hA hz mUp_ok)))
theorem xss_152i {e z : Int} (hd : decode M.2.1 pc = .ok (.iastore, 1)) (hA : mAt w 152 152) (hT : mT w μ) (hi : 0 ≤ e ∧ e < 14) (hz : ((-1) ≤ z ∧ z ≤ 30)) (kt : ∀ μ1, mU μ 152 e.toNat z μ1 → mT w μ1 → VS l D c H0 sa K W (Sins S 152 e.toNat) SE M R Q (pc + 1) lv (st) μ1) (hW : W 152 e.toNat) : VS l D c H0 sa K W S SE M R Q (pc) lv (iv z :: iv e :: .ref 152 :: st) μ := VS.put (by decide) hW (fun w ν _ x T' k => ss_152 hd (A_152 x) T' hi hz k) (fun w ν x T' => (T'.up (k := e.toNat) (z := z) (A_152 x) hz mUp_ok)) ((kt _ mUp_ok (hT.up (k := e.toNat) (z := z) hA hz mUp_ok)))
theorem xss_153 {e z : Int} (hd : decode M.2.1 pc = .ok (.iastore, 1)) (hA : mAt w 153 153) (hT : mT w μ) (hi : 0 ≤ e ∧ e < 14) (hz : (0 ≤ z ∧ z ≤ 300)) (kt : ∀ μ1, mU μ 153 e.toNat z μ1 → mT w μ1 → VS l D c H0 sa K W S SE M R Q (pc + 1) lv (st) μ1) (hW : W 153 e.toNat) : VS l D c H0 sa K W S SE M R Q (pc) lv (iv z :: iv e :: .ref 153 :: st) μ := VS.put (by decide) hW (fun w ν _ x T' k => ss_153 hd (A_153 x) T' hi hz k) (fun w ν x T' => (T'.up (k := e.toNat) (z := z) (A_153 x) hz mUp_ok)) (VS.mono (fun _ _ q => Or.inl q) (kt _ mUp_ok (hT.up (k := e.toNat) (z := z) hA hz mUp_ok)))
theorem xss_153i {e z : Int} (hd : decode M.2.1 pc = .ok (.iastore, 1)) (hA : mAt w 153 153) (hT : mT w μ) (hi : 0 ≤ e ∧ e < 14) (hz : (0 ≤ z ∧ z ≤ 300)) (kt : ∀ μ1, mU μ 153 e.toNat z μ1 → mT w μ1 → VS l D c H0 sa K W (Sins S 153 e.toNat) SE M R Q (pc + 1) lv (st) μ1) (hW : W 153 e.toNat) : VS l D c H0 sa K W S SE M R Q (pc) lv (iv z :: iv e :: .ref 153 :: st) μ := VS.put (by decide) hW (fun w ν _ x T' k => ss_153 hd (A_153 x) T' hi hz k) (fun w ν x T' => (T'.up (k := e.toNat) (z := z) (A_153 x) hz mUp_ok)) ((kt _ mUp_ok (hT.up (k := e.toNat) (z := z) hA hz mUp_ok)))
end VXR
end
