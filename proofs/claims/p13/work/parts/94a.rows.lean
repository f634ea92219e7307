theorem vc_X4_keepRest_b_1 {f_rc : Int} (h0 : 1 ≤ f_rc) (h1 : 0 ≤ f_rc ∧ f_rc ≤ 46656) : 1 ≤ f_rc ∧ f_rc ≤ 46656 := by omega
theorem vc_X4_keepRest_b_2 {f_rc : Int} (h0 : f_rc ≤ 46655) (h1 : 1 ≤ f_rc) (h2 : 1 ≤ f_rc ∧ f_rc ≤ 46656) : 1 ≤ f_rc ∧ f_rc ≤ 46655 := by omega
theorem vc_X4_keepRest_b_3 {f_rc n_90 : Int} (h0 : f_rc < n_90) (h1 : 1 ≤ f_rc) (h2 : f_rc ≤ 46655) (h3 : n_90 ≤ f_rc) (h4 : 1 ≤ f_rc ∧ f_rc ≤ 46655) (h5 : 0 ≤ n_90 ∧ n_90 ≤ 93312) : False := by omega
theorem vc_X4_keepRest_b_4 {f_rc n_90 : Int} (h0 : n_90 ≤ f_rc) (h1 : 1 ≤ f_rc) (h2 : f_rc ≤ 46655) (h3 : 1 ≤ f_rc ∧ f_rc ≤ 46655) (h4 : 0 ≤ n_90 ∧ n_90 ≤ 93312) : 0 ≤ n_90 ∧ n_90 ≤ 46655 := by omega
theorem vc_X4_keepRest_b_5 {f_rc n_90 : Int} (h0 : 1 ≤ f_rc) (h1 : f_rc ≤ 46655) (h2 : n_90 ≤ f_rc) (h3 : 1 ≤ f_rc ∧ f_rc ≤ 46655) (h4 : 0 ≤ n_90 ∧ n_90 ≤ 46655) : n_90 < (2 * f_rc) ∧ (2 * f_rc) ≤ 93312 := by omega
theorem vc_X4_keepRest_b_7 {f_rc n_108 n_90 : Int} (h0 : 1 ≤ f_rc) (h1 : f_rc ≤ 46655) (h2 : n_90 ≤ f_rc) (h3 : n_108 = (2 * f_rc)) (h4 : 1 ≤ f_rc ∧ f_rc ≤ 46655) (h5 : 0 ≤ n_108 ∧ n_108 ≤ 93312) (h6 : 0 ≤ n_90 ∧ n_90 ≤ 46655) : 0 ≤ f_rc ∧ f_rc < n_108 := by omega
theorem vc_X4_keepRest_b_8 {f_rc n_108 n_90 : Int} (h0 : 1 ≤ f_rc) (h1 : f_rc ≤ 46655) (h2 : n_90 ≤ f_rc) (h3 : n_108 = (2 * f_rc)) (h4 : 1 ≤ f_rc ∧ f_rc ≤ 46655) (h5 : 0 ≤ n_108 ∧ n_108 ≤ 93312) (h6 : 0 ≤ n_90 ∧ n_90 ≤ 46655) : (f_rc + 1) = f_rc + 1 := by omega
theorem vc_X4_keepRest_b_9 {f_rc n_108 n_90 : Int} (h0 : 1 ≤ f_rc) (h1 : f_rc ≤ 46655) (h2 : n_90 ≤ f_rc) (h3 : n_108 = (2 * f_rc)) (h4 : 1 ≤ f_rc ∧ f_rc ≤ 46655) (h5 : 0 ≤ n_108 ∧ n_108 ≤ 93312) (h6 : 0 ≤ n_90 ∧ n_90 ≤ 46655) : n_108 = 2 * f_rc := by omega
set_option maxRecDepth 4000 in
set_option maxHeartbeats 4000000 in
theorem c_X4_keepRest_b {l : Launch} {D : va_G} {c : Nat → ClassId} {H0 : Heap} {sa : Nat × Nat × (Nat → Int32)} {w_0 : mW} {μ : mM} (hw_0 : mWF w_0) (hT : mT w_0 μ) {p1 : Int} (hp1 : 0 ≤ p1 ∧ p1 ≤ 46655) {f_rc : Int} (q_f_rc : μ 94 14 = f_rc) {br : Nat} (q_br : μ 94 7 = (br : Int)) (hA_br : mAt w_0 br 103) (hq0 : 1 ≤ f_rc) (hq1 : f_rc ≤ 46655) (hix : (w_0.2.2.1 br : Int) ≤ f_rc) : sC (gG l D c H0 sa) mX4_keepRest 4 1 (2 * f_rc).toNat [.ref 94, iv p1] (mk w_0 μ) (qVx w_0 [94007, 94014, 103999] μ (fun w1 μ1 => ∃ o_rc : Int, μ1 94 14 = o_rc ∧ (o_rc = f_rc + 1) ∧ ((w1.2.2.1 (μ1 94 7).toNat : Int) = 2 * f_rc) ∧ (((szW w1 : Int) = szW w_0 + 2 * f_rc ∧ w1.1 = w_0.1 + 1)) ∧ True)) := by
  refine sC.of rfl (by decide) (le_t rfl) ?_
  have ht_f_rc : (0 ≤ f_rc ∧ f_rc ≤ 46656) := by rw [← q_f_rc]; exact hT 94 94 (A_94 hw_0) 14
  have h1 : 1 ≤ f_rc ∧ f_rc ≤ 46656 := (vc_X4_keepRest_b_1 hq0 ht_f_rc)
  have h2 : 1 ≤ f_rc ∧ f_rc ≤ 46655 := (vc_X4_keepRest_b_2 hq1 hq0 h1)
  refine mr_lvE (lv' := [(0, .ref 94), (1, iv p1)]) rfl ?_
  obtain ⟨n_90, q91⟩ : ∃ n : Int, (w_0.2.2.1 br : Int) = n := ⟨_, rfl⟩
  have h92 : 0 ≤ n_90 ∧ n_90 ≤ 93312 := lnR (m := 93312) q91 hA_br rfl
  have h93 : n_90 ≤ f_rc := by rw [← q91]; exact hix
  refine sv_aload_n (pc := 0) dX4_keepRest_0 rfl rfl ?_
  refine gk_X4_14 (pc := 1) dX4_keepRest_1 wF_X4_82 (A_94 hw_0) q_f_rc ?_
  refine sv_aload_n (pc := 4) dX4_keepRest_4 rfl rfl ?_
  refine gk_X4_7 (pc := 5) dX4_keepRest_5 wF_X4_36 (A_94 hw_0) q_br ?_
  refine mr_alen (pc := 8) (kd := 0) dX4_keepRest_8 rfl hA_br rfl q91 ?_
  refine mr_icmp_lt (pc := 9) (tgt := 29) dX4_keepRest_9 (by decide) (r32 h2 rfl) (r32 h92 rfl) (fun h => ((vc_X4_keepRest_b_3 h hq0 hq1 h93 h2 h92)).elim) (fun h94 => ?_)
  have h95 : 0 ≤ n_90 ∧ n_90 ≤ 46655 := (vc_X4_keepRest_b_4 h94 hq0 hq1 h2 h92)
  refine sv_aload_n (pc := 12) dX4_keepRest_12 rfl rfl ?_
  refine sv_aload_n (pc := 13) dX4_keepRest_13 rfl rfl ?_
  refine gk_X4_7 (pc := 14) dX4_keepRest_14 wF_X4_36 (A_94 hw_0) q_br ?_
  refine mr_iconst (pc := 17) (z := 2) dX4_keepRest_17 ?_
  refine sv_aload_n (pc := 18) dX4_keepRest_18 rfl rfl ?_
  refine gk_X4_14 (pc := 19) dX4_keepRest_19 wF_X4_82 (A_94 hw_0) q_f_rc ?_
  refine mr_imul (pc := 22) (x := 2) (y := f_rc) dX4_keepRest_22 ?_
  refine mr_copyG (pc := 23) (s := 103) (x := (2 * f_rc)) (gOk _ _ _ _ _) dX4_keepRest_23 wM_X4_98 hA_br rfl (show (w_0.2.2.1 br : Int) < (2 * f_rc) ∧ (2 * f_rc) ≤ ((mLen 103 : Nat) : Int) from (by rw [q91]; exact (vc_X4_keepRest_b_5 hq0 hq1 h93 h2 h95))) (le_t rfl) rfl hT (fun _ => (show (0 : Int) ≤ 0 ∧ (0 : Int) ≤ 46655 from by decide)) (fun _ h => h) ⟨le_t rfl, le_t rfl⟩ (le_t rfl) (show 0 + (2 * f_rc).toNat ≤ (2 * f_rc).toNat by omega) (le_t rfl) fun w_96 μ98 X99 T100 A101 e102 q103 c104 v105 => ?_
  have hw_97 : mWF w_96 := mWF.ext X99.1 hw_0
  have A106 : mAt w_96 br 103 := (hA_br).ext X99.1
  have q107 := X99.len hA_br q91
  obtain ⟨n_108, q109⟩ : ∃ n : Int, (w_96.2.2.1 w_0.1 : Int) = n := ⟨_, rfl⟩
  have h110 : 0 ≤ n_108 ∧ n_108 ≤ 93312 := lnR (m := 93312) q109 A101 rfl
  have h111 : n_108 = (2 * f_rc) := q109.symm.trans q103
  refine pf_X4_7 (pc := 26) dX4_keepRest_26 wF_X4_36 (A_94 hw_97) T100 A101 fun μ112 u113 T114 => ?_
  refine sv_aload_n (pc := 29) dX4_keepRest_29 rfl rfl ?_
  refine gk_X4_7 (pc := 30) dX4_keepRest_30 wF_X4_36 (A_94 hw_97) u113.1 ?_
  refine sv_aload_n (pc := 33) dX4_keepRest_33 rfl rfl ?_
  refine gk_X4_14 (pc := 34) dX4_keepRest_34 wF_X4_82 (A_94 hw_97) (u113.f (Or.inr (by decide)) (X99.f (A_94 hw_0) rfl q_f_rc)) ?_
  refine mr_iload_n (pc := 37) (z := p1) dX4_keepRest_37 rfl rfl ?_
  refine ss_103 (pc := 38) dX4_keepRest_38 A101 T114 (lnC q109 (vc_X4_keepRest_b_7 hq0 hq1 h93 h111 h2 h110 h95)) hp1 fun μ115 u116 T117 => ?_
  refine sv_aload_n (pc := 39) dX4_keepRest_39 rfl rfl ?_
  refine sv_dup (pc := 40) dX4_keepRest_40 rfl ?_
  refine gk_X4_14 (pc := 41) dX4_keepRest_41 wF_X4_82 (A_94 hw_97) (u116.f (Or.inl (mAt.ne A101 (A_94 hw_97) rfl)) (u113.f (Or.inr (by decide)) (X99.f (A_94 hw_0) rfl q_f_rc))) ?_
  refine mr_iconst (pc := 44) (z := 1) dX4_keepRest_44 ?_
  refine mr_iadd (pc := 45) (x := f_rc) (y := 1) dX4_keepRest_45 ?_
  refine pf_X4_14 (pc := 46) dX4_keepRest_46 wF_X4_82 (A_94 hw_97) T117 (rW (c := 0) (d := 46656) (rAdd (e := 2) (f := 46656) h2 (rR (x := 1)) rfl) rfl) fun μ118 u119 T120 => ?_
  exact mr_vretX dX4_keepRest_49 rfl (le_t rfl) (show 0 + (2 * f_rc).toNat ≤ (2 * f_rc).toNat by omega) hw_97 T120 (mX.fr (mX.fr (mX.fr (mX.trans mX.refl X99 rfl) (mF.up mF.refl (A_94 hw_97) u113 rfl : mF [94007] _ _ _) rfl) (mF.up mF.refl A101 u116 rfl : mF [103999] _ _ _) rfl) (mF.up mF.refl (A_94 hw_97) u119 rfl : mF [94014] _ _ _) rfl) ⟨(f_rc + 1), u119.1, (vc_X4_keepRest_b_8 hq0 hq1 h93 h111 h2 h110 h95), (lenX (u119.f (Or.inr (by decide)) (u116.f (Or.inl (mAt.ne A101 (A_94 hw_97) rfl)) u113.1)) q109 (vc_X4_keepRest_b_9 hq0 hq1 h93 h111 h2 h110 h95)), ⟨szW.new X99.1 e102 A101 rfl q103, e102⟩, trivial⟩
