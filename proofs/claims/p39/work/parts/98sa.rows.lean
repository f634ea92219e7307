theorem vc_X2_addDemand_v_1 {f_d n0 : Int} (h0 : f_d ≤ 15) (h1 : (f_d = 0 ∨ 0 < n0)) (h2 : 0 ≤ f_d ∧ f_d ≤ 16) : 0 ≤ f_d ∧ f_d ≤ 15 := by omega
theorem vc_X2_addDemand_v_2 {f_d n0 p1 : Int} (h0 : (f_d = 0 ∨ 0 < n0)) (h1 : p1 < n0) (h2 : f_d ≤ 15) (h3 : 0 ≤ f_d ∧ f_d ≤ 15) (h4 : 0 ≤ p1 ∧ p1 ≤ 9) : 0 ≤ p1 ∧ p1 ≤ 9 ∧ (p1 = 0 ∨ p1 < n0) := by omega
theorem vc_X2_addDemand_v_3 {f_d n0 p1 : Int} (h0 : (f_d = 0 ∨ 0 < n0)) (h1 : p1 < n0) (h2 : f_d ≤ 15) (h3 : 0 ≤ f_d ∧ f_d ≤ 15) (h4 : 0 ≤ p1 ∧ p1 ≤ 9) : 0 ≤ (f_d + 1) ∧ (f_d + 1) ≤ 16 ∧ ((f_d + 1) = 0 ∨ 0 < n0) := by omega
theorem vc_X2_addDemand_v_4 {f_d n0 p1 : Int} (h0 : (f_d = 0 ∨ 0 < n0)) (h1 : f_d ≤ 15) (h2 : p1 < n0) (h3 : 0 ≤ f_d ∧ f_d ≤ 15) (h4 : 0 ≤ p1 ∧ p1 ≤ 9) : ((f_d + 1) - 1) = f_d := by omega
theorem vc_X2_addDemand_v_5 {f_d n0 p1 : Int} (h0 : (f_d = 0 ∨ 0 < n0)) (h1 : f_d ≤ 15) (h2 : p1 < n0) (h3 : 0 ≤ f_d ∧ f_d ≤ 15) (h4 : 0 ≤ p1 ∧ p1 ≤ 9) : (f_d + 1) = f_d + 1 := by omega
set_option maxRecDepth 4000 in
set_option maxHeartbeats 4000000 in
theorem c_X2_addDemand_v {l : Launch} {D : va_G} {c : Nat → ClassId} {H0 : Heap} {sa : Nat × Nat × (Nat → Int32)} {w : mW} {μ : mM} (hw : mWF w) (hT : mT w μ) {p1 : Int} (hp1 : 0 ≤ p1 ∧ p1 ≤ 9) {p2 : Int} (hp2 : (-2147483648) ≤ p2 ∧ p2 ≤ 2147483647) {p3 : Int} (hp3 : (-2147483648) ≤ p3 ∧ p3 ≤ 2147483647) {f_d : Int} (q_f_d : μ 87 10 = f_d) (hq0 : p1 < w.2.2.2 0) (hq1 : f_d ≤ 15) : sC (gG l D c H0 sa) mX2_addDemand 1 0 0 [.ref 87, iv p1, iv p2, iv p3] (mk w μ) (qI w [87010, 90999, 91999, 92999] μ (fun z μ1 => ∃ o_q : Int, μ1 87 10 = o_q ∧ ((-2147483648) ≤ z ∧ z ≤ 2147483647) ∧ (z = f_d) ∧ (o_q = f_d + 1) ∧ True)) := by
  refine sC.of rfl (by decide) (le_t rfl) ?_
  have ht_f_d : (0 ≤ f_d ∧ f_d ≤ 16 ∧ (f_d = 0 ∨ 0 < w.2.2.2 0)) := by rw [← q_f_d]; exact hT 87 87 (A_87 hw) 10
  have h1 : 0 ≤ f_d ∧ f_d ≤ 16 := ⟨ht_f_d.1, ht_f_d.2.1⟩
  have h2 : 0 ≤ f_d ∧ f_d ≤ 15 := (vc_X2_addDemand_v_1 hq1 ht_f_d.2.2 h1)
  refine mr_lvE (lv' := [(0, .ref 87), (1, iv p1), (2, iv p2), (3, iv p3)]) rfl ?_
  refine sv_aload_n (pc := 0) dX2_addDemand_0 rfl rfl ?_
  refine gf_X2_2 (pc := 1) dX2_addDemand_1 wF_X2_22 (A_87 hw) hT ?_
  refine sv_aload_n (pc := 4) dX2_addDemand_4 rfl rfl ?_
  refine gk_X2_10 (pc := 5) dX2_addDemand_5 wF_X2_95 (A_87 hw) q_f_d ?_
  refine mr_iload_n (pc := 8) (z := p1) dX2_addDemand_8 rfl rfl ?_
  refine ss_90 (pc := 9) dX2_addDemand_9 (A_90 hw) hT (rIx (n := 16) h2 rfl) (vc_X2_addDemand_v_2 ht_f_d.2.2 hq0 hq1 h2 hp1) fun μ39 u40 T41 => ?_
  refine sv_aload_n (pc := 10) dX2_addDemand_10 rfl rfl ?_
  refine gf_X2_3 (pc := 11) dX2_addDemand_11 wF_X2_25 (A_87 hw) T41 ?_
  refine sv_aload_n (pc := 14) dX2_addDemand_14 rfl rfl ?_
  refine gk_X2_10 (pc := 15) dX2_addDemand_15 wF_X2_95 (A_87 hw) (u40.f (Or.inl (mAt.ne (A_90 hw) (A_87 hw) rfl)) q_f_d) ?_
  refine mr_iload_n (pc := 18) (z := p2) dX2_addDemand_18 rfl rfl ?_
  refine ss_91 (pc := 19) dX2_addDemand_19 (A_91 hw) T41 (rIx (n := 16) h2 rfl) hp2 fun μ42 u43 T44 => ?_
  refine sv_aload_n (pc := 20) dX2_addDemand_20 rfl rfl ?_
  refine gf_X2_4 (pc := 21) dX2_addDemand_21 wF_X2_28 (A_87 hw) T44 ?_
  refine sv_aload_n (pc := 24) dX2_addDemand_24 rfl rfl ?_
  refine gk_X2_10 (pc := 25) dX2_addDemand_25 wF_X2_95 (A_87 hw) (u43.f (Or.inl (mAt.ne (A_91 hw) (A_87 hw) rfl)) (u40.f (Or.inl (mAt.ne (A_90 hw) (A_87 hw) rfl)) q_f_d)) ?_
  refine mr_iload_n (pc := 28) (z := p3) dX2_addDemand_28 rfl rfl ?_
  refine ss_92 (pc := 29) dX2_addDemand_29 (A_92 hw) T44 (rIx (n := 16) h2 rfl) hp3 fun μ45 u46 T47 => ?_
  refine sv_aload_n (pc := 30) dX2_addDemand_30 rfl rfl ?_
  refine sv_dup (pc := 31) dX2_addDemand_31 rfl ?_
  refine gk_X2_10 (pc := 32) dX2_addDemand_32 wF_X2_95 (A_87 hw) (u46.f (Or.inl (mAt.ne (A_92 hw) (A_87 hw) rfl)) (u43.f (Or.inl (mAt.ne (A_91 hw) (A_87 hw) rfl)) (u40.f (Or.inl (mAt.ne (A_90 hw) (A_87 hw) rfl)) q_f_d))) ?_
  refine mr_iconst (pc := 35) (z := 1) dX2_addDemand_35 ?_
  refine mr_iadd (pc := 36) (x := f_d) (y := 1) dX2_addDemand_36 ?_
  refine pf_X2_10 (pc := 37) dX2_addDemand_37 wF_X2_95 (A_87 hw) T47 (vc_X2_addDemand_v_3 ht_f_d.2.2 hq0 hq1 h2 hp1) fun μ48 u49 T50 => ?_
  refine sv_aload_n (pc := 40) dX2_addDemand_40 rfl rfl ?_
  refine gk_X2_10 (pc := 41) dX2_addDemand_41 wF_X2_95 (A_87 hw) u49.1 ?_
  refine mr_iconst (pc := 44) (z := 1) dX2_addDemand_44 ?_
  refine mr_isub (pc := 45) (x := (f_d + 1)) (y := 1) dX2_addDemand_45 ?_
  exact mr_iret dX2_addDemand_46 rfl (le_t rfl) (le_t rfl) T50 (mF.up (mF.up (mF.up (mF.up mF.refl (A_90 hw) u40 rfl) (A_91 hw) u43 rfl) (A_92 hw) u46 rfl) (A_87 hw) u49 rfl) ⟨(f_d + 1), u49.1, (rW (c := (-2147483648)) (d := 2147483647) (rSub (e := 0) (f := 15) (rAdd (e := 1) (f := 16) h2 (rR (x := 1)) rfl) (rR (x := 1)) rfl) rfl), (vc_X2_addDemand_v_4 ht_f_d.2.2 hq1 hq0 h2 hp1), (vc_X2_addDemand_v_5 ht_f_d.2.2 hq1 hq0 h2 hp1), trivial⟩
theorem vc_X11_demand_v_1 {f_dm p1 z90 : Int} (h0 : z90 = 0) (h1 : (z90 = 1 → 0 ≤ p1 ∧ p1 < f_dm)) (h2 : (z90 = 0 → p1 < 0 ∨ f_dm ≤ p1)) (h3 : 0 ≤ f_dm ∧ f_dm ≤ 10) (h4 : (-2147483648) ≤ p1 ∧ p1 ≤ 2147483647) (h5 : 0 ≤ z90 ∧ z90 ≤ 1) : 0 ≤ z90 ∧ z90 ≤ 0 := by omega
theorem vc_X11_demand_v_2 {f_dm n0 p1 z90 : Int} (h0 : (z90 = 1 → 0 ≤ p1 ∧ p1 < f_dm)) (h1 : (z90 = 0 → p1 < 0 ∨ f_dm ≤ p1)) (h2 : z90 = 0) (h3 : f_dm = n0) (h4 : 0 ≤ f_dm ∧ f_dm ≤ 10) (h5 : (-2147483648) ≤ p1 ∧ p1 ≤ 2147483647) (h6 : 0 ≤ z90 ∧ z90 ≤ 0) : z90 = 0 := by omega
theorem vc_X11_demand_v_3 {f_dm f_q n0 p1 p3 z90 : Int} (h0 : (f_q = 0 ∨ 0 < n0)) (h1 : f_dm = n0) (h2 : (z90 = 1 → 0 ≤ p1 ∧ p1 < f_dm)) (h3 : (z90 = 0 → p1 < 0 ∨ f_dm ≤ p1)) (h4 : p1 < 0 ∨ f_dm ≤ p1) (h5 : z90 = 0) (h6 : 0 ≤ f_dm ∧ f_dm ≤ 10) (h7 : 0 ≤ f_q ∧ f_q ≤ 16) (h8 : (-2147483648) ≤ p1 ∧ p1 ≤ 2147483647) (h9 : (-2147483648) ≤ p3 ∧ p3 ≤ 2147483647) (h10 : 0 ≤ z90 ∧ z90 ≤ 0) : p1 < 0 ∨ f_dm ≤ p1 ∨ p3 < 1 ∨ 1000000 < p3 → (-1 : Int) = -1 ∧ f_q = f_q := by omega
theorem vc_X11_demand_v_4 {f_dm f_q n0 p1 p3 z90 : Int} (h0 : (f_q = 0 ∨ 0 < n0)) (h1 : f_dm = n0) (h2 : (z90 = 1 → 0 ≤ p1 ∧ p1 < f_dm)) (h3 : (z90 = 0 → p1 < 0 ∨ f_dm ≤ p1)) (h4 : p1 < 0 ∨ f_dm ≤ p1) (h5 : z90 = 0) (h6 : 0 ≤ f_dm ∧ f_dm ≤ 10) (h7 : 0 ≤ f_q ∧ f_q ≤ 16) (h8 : (-2147483648) ≤ p1 ∧ p1 ≤ 2147483647) (h9 : (-2147483648) ≤ p3 ∧ p3 ≤ 2147483647) (h10 : 0 ≤ z90 ∧ z90 ≤ 0) : 0 ≤ p1 → p1 < f_dm → 1 ≤ p3 → p3 ≤ 1000000 → f_q = 16 → (-1 : Int) = -3 ∧ f_q = f_q := by omega
theorem vc_X11_demand_v_5 {f_dm f_q n0 p1 p3 z90 : Int} (h0 : (f_q = 0 ∨ 0 < n0)) (h1 : f_dm = n0) (h2 : (z90 = 1 → 0 ≤ p1 ∧ p1 < f_dm)) (h3 : (z90 = 0 → p1 < 0 ∨ f_dm ≤ p1)) (h4 : p1 < 0 ∨ f_dm ≤ p1) (h5 : z90 = 0) (h6 : 0 ≤ f_dm ∧ f_dm ≤ 10) (h7 : 0 ≤ f_q ∧ f_q ≤ 16) (h8 : (-2147483648) ≤ p1 ∧ p1 ≤ 2147483647) (h9 : (-2147483648) ≤ p3 ∧ p3 ≤ 2147483647) (h10 : 0 ≤ z90 ∧ z90 ≤ 0) : 0 ≤ p1 → p1 < f_dm → 1 ≤ p3 → p3 ≤ 1000000 → f_q < 16 → (-1 : Int) = f_q ∧ f_q = f_q + 1 := by omega
theorem vc_X11_demand_v_6 {f_dm p1 z90 : Int} (h0 : ¬ z90 = 0) (h1 : (z90 = 1 → 0 ≤ p1 ∧ p1 < f_dm)) (h2 : (z90 = 0 → p1 < 0 ∨ f_dm ≤ p1)) (h3 : 0 ≤ f_dm ∧ f_dm ≤ 10) (h4 : (-2147483648) ≤ p1 ∧ p1 ≤ 2147483647) (h5 : 0 ≤ z90 ∧ z90 ≤ 1) : 1 ≤ z90 ∧ z90 ≤ 1 := by omega
theorem vc_X11_demand_v_7 {f_dm n0 p1 z90 : Int} (h0 : (z90 = 1 → 0 ≤ p1 ∧ p1 < f_dm)) (h1 : (z90 = 0 → p1 < 0 ∨ f_dm ≤ p1)) (h2 : ¬ z90 = 0) (h3 : f_dm = n0) (h4 : 0 ≤ f_dm ∧ f_dm ≤ 10) (h5 : (-2147483648) ≤ p1 ∧ p1 ≤ 2147483647) (h6 : 1 ≤ z90 ∧ z90 ≤ 1) : z90 = 1 := by omega
theorem vc_X11_demand_v_8 {f_dm n0 p1 z90 : Int} (h0 : 0 ≤ p1 ∧ p1 < f_dm) (h1 : f_dm = n0) (h2 : (z90 = 1 → 0 ≤ p1 ∧ p1 < f_dm)) (h3 : (z90 = 0 → p1 < 0 ∨ f_dm ≤ p1)) (h4 : 0 ≤ f_dm ∧ f_dm ≤ 10) (h5 : (-2147483648) ≤ p1 ∧ p1 ≤ 2147483647) (h6 : 1 ≤ z90 ∧ z90 ≤ 1) : 0 ≤ p1 ∧ p1 ≤ 9 := by omega
theorem vc_X11_demand_v_10 {f_dm f_q n0 p1 p3 z90 : Int} (h0 : (f_q = 0 ∨ 0 < n0)) (h1 : f_dm = n0) (h2 : (z90 = 1 → 0 ≤ p1 ∧ p1 < f_dm)) (h3 : (z90 = 0 → p1 < 0 ∨ f_dm ≤ p1)) (h4 : 0 ≤ p1 ∧ p1 < f_dm) (h5 : p3 < 1) (h6 : ¬ z90 = 0) (h7 : 0 ≤ f_dm ∧ f_dm ≤ 10) (h8 : 0 ≤ f_q ∧ f_q ≤ 16) (h9 : 0 ≤ p1 ∧ p1 ≤ 9) (h10 : (-2147483648) ≤ p3 ∧ p3 ≤ 0) (h11 : 1 ≤ z90 ∧ z90 ≤ 1) : p1 < 0 ∨ f_dm ≤ p1 ∨ p3 < 1 ∨ 1000000 < p3 → (-1 : Int) = -1 ∧ f_q = f_q := by omega
theorem vc_X11_demand_v_11 {f_dm f_q n0 p1 p3 z90 : Int} (h0 : (f_q = 0 ∨ 0 < n0)) (h1 : f_dm = n0) (h2 : (z90 = 1 → 0 ≤ p1 ∧ p1 < f_dm)) (h3 : (z90 = 0 → p1 < 0 ∨ f_dm ≤ p1)) (h4 : 0 ≤ p1 ∧ p1 < f_dm) (h5 : p3 < 1) (h6 : ¬ z90 = 0) (h7 : 0 ≤ f_dm ∧ f_dm ≤ 10) (h8 : 0 ≤ f_q ∧ f_q ≤ 16) (h9 : 0 ≤ p1 ∧ p1 ≤ 9) (h10 : (-2147483648) ≤ p3 ∧ p3 ≤ 0) (h11 : 1 ≤ z90 ∧ z90 ≤ 1) : 0 ≤ p1 → p1 < f_dm → 1 ≤ p3 → p3 ≤ 1000000 → f_q = 16 → (-1 : Int) = -3 ∧ f_q = f_q := by omega
theorem vc_X11_demand_v_12 {f_dm f_q n0 p1 p3 z90 : Int} (h0 : (f_q = 0 ∨ 0 < n0)) (h1 : f_dm = n0) (h2 : (z90 = 1 → 0 ≤ p1 ∧ p1 < f_dm)) (h3 : (z90 = 0 → p1 < 0 ∨ f_dm ≤ p1)) (h4 : 0 ≤ p1 ∧ p1 < f_dm) (h5 : p3 < 1) (h6 : ¬ z90 = 0) (h7 : 0 ≤ f_dm ∧ f_dm ≤ 10) (h8 : 0 ≤ f_q ∧ f_q ≤ 16) (h9 : 0 ≤ p1 ∧ p1 ≤ 9) (h10 : (-2147483648) ≤ p3 ∧ p3 ≤ 0) (h11 : 1 ≤ z90 ∧ z90 ≤ 1) : 0 ≤ p1 → p1 < f_dm → 1 ≤ p3 → p3 ≤ 1000000 → f_q < 16 → (-1 : Int) = f_q ∧ f_q = f_q + 1 := by omega
theorem vc_X11_demand_v_14 {p3 : Int} (h0 : p3 ≤ 1000000) (h1 : 1 ≤ p3) (h2 : 1 ≤ p3 ∧ p3 ≤ 2147483647) : 1 ≤ p3 ∧ p3 ≤ 1000000 := by omega
theorem vc_X11_demand_v_15 {f_q n0 : Int} (h0 : f_q < 16) (h1 : (f_q = 0 ∨ 0 < n0)) (h2 : 0 ≤ f_q ∧ f_q ≤ 16) : 0 ≤ f_q ∧ f_q ≤ 15 := by omega
theorem vc_X11_demand_v_16 {f_dm f_q n0 p1 z90 : Int} (h0 : (f_q = 0 ∨ 0 < n0)) (h1 : f_dm = n0) (h2 : (z90 = 1 → 0 ≤ p1 ∧ p1 < f_dm)) (h3 : (z90 = 0 → p1 < 0 ∨ f_dm ≤ p1)) (h4 : 0 ≤ p1 ∧ p1 < f_dm) (h5 : ¬ z90 = 0) (h6 : f_q < 16) (h7 : 0 ≤ f_dm ∧ f_dm ≤ 10) (h8 : 0 ≤ f_q ∧ f_q ≤ 15) (h9 : 0 ≤ p1 ∧ p1 ≤ 9) (h10 : 1 ≤ z90 ∧ z90 ≤ 1) : p1 < n0 := by omega
theorem vc_X11_demand_v_17 {f_dm f_q n0 : Int} (h0 : (f_q = 0 ∨ 0 < n0)) (h1 : f_q < 16) (h2 : f_dm = n0) (h3 : 0 ≤ f_dm ∧ f_dm ≤ 10) (h4 : 0 ≤ f_q ∧ f_q ≤ 15) : f_q ≤ 15 := by omega
theorem vc_X11_demand_v_18 {f_q n0 z108 : Int} (h0 : z108 = f_q) (h1 : (f_q = 0 ∨ 0 < n0)) (h2 : f_q < 16) (h3 : 0 ≤ f_q ∧ f_q ≤ 15) (h4 : (-2147483648) ≤ z108 ∧ z108 ≤ 2147483647) : 0 ≤ z108 ∧ z108 ≤ 15 := by omega
theorem vc_X11_demand_v_19 {f_dm f_q n0 p1 p3 z108 z109 z90 : Int} (h0 : (f_q = 0 ∨ 0 < n0)) (h1 : f_dm = n0) (h2 : (z90 = 1 → 0 ≤ p1 ∧ p1 < f_dm)) (h3 : (z90 = 0 → p1 < 0 ∨ f_dm ≤ p1)) (h4 : 0 ≤ p1 ∧ p1 < f_dm) (h5 : 1 ≤ p3) (h6 : p3 ≤ 1000000) (h7 : f_q < 16) (h8 : z108 = f_q) (h9 : z109 = f_q + 1) (h10 : ¬ z90 = 0) (h11 : (z109 = 0 ∨ 0 < n0)) (h12 : 0 ≤ f_dm ∧ f_dm ≤ 10) (h13 : 0 ≤ f_q ∧ f_q ≤ 15) (h14 : 0 ≤ p1 ∧ p1 ≤ 9) (h15 : 1 ≤ p3 ∧ p3 ≤ 1000000) (h16 : 0 ≤ z108 ∧ z108 ≤ 15) (h17 : 0 ≤ z109 ∧ z109 ≤ 16) (h18 : 1 ≤ z90 ∧ z90 ≤ 1) : p1 < 0 ∨ f_dm ≤ p1 ∨ p3 < 1 ∨ 1000000 < p3 → z108 = -1 ∧ (f_q + 1) = f_q := by omega
theorem vc_X11_demand_v_20 {f_dm f_q n0 p1 p3 z108 z109 z90 : Int} (h0 : (f_q = 0 ∨ 0 < n0)) (h1 : f_dm = n0) (h2 : (z90 = 1 → 0 ≤ p1 ∧ p1 < f_dm)) (h3 : (z90 = 0 → p1 < 0 ∨ f_dm ≤ p1)) (h4 : 0 ≤ p1 ∧ p1 < f_dm) (h5 : 1 ≤ p3) (h6 : p3 ≤ 1000000) (h7 : f_q < 16) (h8 : z108 = f_q) (h9 : z109 = f_q + 1) (h10 : ¬ z90 = 0) (h11 : (z109 = 0 ∨ 0 < n0)) (h12 : 0 ≤ f_dm ∧ f_dm ≤ 10) (h13 : 0 ≤ f_q ∧ f_q ≤ 15) (h14 : 0 ≤ p1 ∧ p1 ≤ 9) (h15 : 1 ≤ p3 ∧ p3 ≤ 1000000) (h16 : 0 ≤ z108 ∧ z108 ≤ 15) (h17 : 0 ≤ z109 ∧ z109 ≤ 16) (h18 : 1 ≤ z90 ∧ z90 ≤ 1) : 0 ≤ p1 → p1 < f_dm → 1 ≤ p3 → p3 ≤ 1000000 → f_q = 16 → z108 = -3 ∧ (f_q + 1) = f_q := by omega
theorem vc_X11_demand_v_21 {f_dm f_q n0 p1 p3 z108 z109 z90 : Int} (h0 : (f_q = 0 ∨ 0 < n0)) (h1 : f_dm = n0) (h2 : (z90 = 1 → 0 ≤ p1 ∧ p1 < f_dm)) (h3 : (z90 = 0 → p1 < 0 ∨ f_dm ≤ p1)) (h4 : 0 ≤ p1 ∧ p1 < f_dm) (h5 : 1 ≤ p3) (h6 : p3 ≤ 1000000) (h7 : f_q < 16) (h8 : z108 = f_q) (h9 : z109 = f_q + 1) (h10 : ¬ z90 = 0) (h11 : (z109 = 0 ∨ 0 < n0)) (h12 : 0 ≤ f_dm ∧ f_dm ≤ 10) (h13 : 0 ≤ f_q ∧ f_q ≤ 15) (h14 : 0 ≤ p1 ∧ p1 ≤ 9) (h15 : 1 ≤ p3 ∧ p3 ≤ 1000000) (h16 : 0 ≤ z108 ∧ z108 ≤ 15) (h17 : 0 ≤ z109 ∧ z109 ≤ 16) (h18 : 1 ≤ z90 ∧ z90 ≤ 1) : 0 ≤ p1 → p1 < f_dm → 1 ≤ p3 → p3 ≤ 1000000 → f_q < 16 → z108 = f_q ∧ (f_q + 1) = f_q + 1 := by omega
theorem vc_X11_demand_v_22 {f_q n0 : Int} (h0 : 16 ≤ f_q) (h1 : (f_q = 0 ∨ 0 < n0)) (h2 : 0 ≤ f_q ∧ f_q ≤ 16) : 16 ≤ f_q ∧ f_q ≤ 16 := by omega
theorem vc_X11_demand_v_23 {f_dm f_q n0 p1 p3 z90 : Int} (h0 : (f_q = 0 ∨ 0 < n0)) (h1 : f_dm = n0) (h2 : (z90 = 1 → 0 ≤ p1 ∧ p1 < f_dm)) (h3 : (z90 = 0 → p1 < 0 ∨ f_dm ≤ p1)) (h4 : 0 ≤ p1 ∧ p1 < f_dm) (h5 : 1 ≤ p3) (h6 : p3 ≤ 1000000) (h7 : 16 ≤ f_q) (h8 : ¬ z90 = 0) (h9 : 0 ≤ f_dm ∧ f_dm ≤ 10) (h10 : 16 ≤ f_q ∧ f_q ≤ 16) (h11 : 0 ≤ p1 ∧ p1 ≤ 9) (h12 : 1 ≤ p3 ∧ p3 ≤ 1000000) (h13 : 1 ≤ z90 ∧ z90 ≤ 1) : p1 < 0 ∨ f_dm ≤ p1 ∨ p3 < 1 ∨ 1000000 < p3 → (-3 : Int) = -1 ∧ f_q = f_q := by omega
theorem vc_X11_demand_v_24 {f_dm f_q n0 p1 p3 z90 : Int} (h0 : (f_q = 0 ∨ 0 < n0)) (h1 : f_dm = n0) (h2 : (z90 = 1 → 0 ≤ p1 ∧ p1 < f_dm)) (h3 : (z90 = 0 → p1 < 0 ∨ f_dm ≤ p1)) (h4 : 0 ≤ p1 ∧ p1 < f_dm) (h5 : 1 ≤ p3) (h6 : p3 ≤ 1000000) (h7 : 16 ≤ f_q) (h8 : ¬ z90 = 0) (h9 : 0 ≤ f_dm ∧ f_dm ≤ 10) (h10 : 16 ≤ f_q ∧ f_q ≤ 16) (h11 : 0 ≤ p1 ∧ p1 ≤ 9) (h12 : 1 ≤ p3 ∧ p3 ≤ 1000000) (h13 : 1 ≤ z90 ∧ z90 ≤ 1) : 0 ≤ p1 → p1 < f_dm → 1 ≤ p3 → p3 ≤ 1000000 → f_q = 16 → (-3 : Int) = -3 ∧ f_q = f_q := by omega
theorem vc_X11_demand_v_25 {f_dm f_q n0 p1 p3 z90 : Int} (h0 : (f_q = 0 ∨ 0 < n0)) (h1 : f_dm = n0) (h2 : (z90 = 1 → 0 ≤ p1 ∧ p1 < f_dm)) (h3 : (z90 = 0 → p1 < 0 ∨ f_dm ≤ p1)) (h4 : 0 ≤ p1 ∧ p1 < f_dm) (h5 : 1 ≤ p3) (h6 : p3 ≤ 1000000) (h7 : 16 ≤ f_q) (h8 : ¬ z90 = 0) (h9 : 0 ≤ f_dm ∧ f_dm ≤ 10) (h10 : 16 ≤ f_q ∧ f_q ≤ 16) (h11 : 0 ≤ p1 ∧ p1 ≤ 9) (h12 : 1 ≤ p3 ∧ p3 ≤ 1000000) (h13 : 1 ≤ z90 ∧ z90 ≤ 1) : 0 ≤ p1 → p1 < f_dm → 1 ≤ p3 → p3 ≤ 1000000 → f_q < 16 → (-3 : Int) = f_q ∧ f_q = f_q + 1 := by omega
theorem vc_X11_demand_v_26 {p3 : Int} (h0 : 1000000 < p3) (h1 : 1 ≤ p3) (h2 : 1 ≤ p3 ∧ p3 ≤ 2147483647) : 1000001 ≤ p3 ∧ p3 ≤ 2147483647 := by omega
theorem vc_X11_demand_v_27 {f_dm f_q n0 p1 p3 z90 : Int} (h0 : (f_q = 0 ∨ 0 < n0)) (h1 : f_dm = n0) (h2 : (z90 = 1 → 0 ≤ p1 ∧ p1 < f_dm)) (h3 : (z90 = 0 → p1 < 0 ∨ f_dm ≤ p1)) (h4 : 0 ≤ p1 ∧ p1 < f_dm) (h5 : 1 ≤ p3) (h6 : 1000000 < p3) (h7 : ¬ z90 = 0) (h8 : 0 ≤ f_dm ∧ f_dm ≤ 10) (h9 : 0 ≤ f_q ∧ f_q ≤ 16) (h10 : 0 ≤ p1 ∧ p1 ≤ 9) (h11 : 1000001 ≤ p3 ∧ p3 ≤ 2147483647) (h12 : 1 ≤ z90 ∧ z90 ≤ 1) : p1 < 0 ∨ f_dm ≤ p1 ∨ p3 < 1 ∨ 1000000 < p3 → (-1 : Int) = -1 ∧ f_q = f_q := by omega
theorem vc_X11_demand_v_28 {f_dm f_q n0 p1 p3 z90 : Int} (h0 : (f_q = 0 ∨ 0 < n0)) (h1 : f_dm = n0) (h2 : (z90 = 1 → 0 ≤ p1 ∧ p1 < f_dm)) (h3 : (z90 = 0 → p1 < 0 ∨ f_dm ≤ p1)) (h4 : 0 ≤ p1 ∧ p1 < f_dm) (h5 : 1 ≤ p3) (h6 : 1000000 < p3) (h7 : ¬ z90 = 0) (h8 : 0 ≤ f_dm ∧ f_dm ≤ 10) (h9 : 0 ≤ f_q ∧ f_q ≤ 16) (h10 : 0 ≤ p1 ∧ p1 ≤ 9) (h11 : 1000001 ≤ p3 ∧ p3 ≤ 2147483647) (h12 : 1 ≤ z90 ∧ z90 ≤ 1) : 0 ≤ p1 → p1 < f_dm → 1 ≤ p3 → p3 ≤ 1000000 → f_q = 16 → (-1 : Int) = -3 ∧ f_q = f_q := by omega
theorem vc_X11_demand_v_29 {f_dm f_q n0 p1 p3 z90 : Int} (h0 : (f_q = 0 ∨ 0 < n0)) (h1 : f_dm = n0) (h2 : (z90 = 1 → 0 ≤ p1 ∧ p1 < f_dm)) (h3 : (z90 = 0 → p1 < 0 ∨ f_dm ≤ p1)) (h4 : 0 ≤ p1 ∧ p1 < f_dm) (h5 : 1 ≤ p3) (h6 : 1000000 < p3) (h7 : ¬ z90 = 0) (h8 : 0 ≤ f_dm ∧ f_dm ≤ 10) (h9 : 0 ≤ f_q ∧ f_q ≤ 16) (h10 : 0 ≤ p1 ∧ p1 ≤ 9) (h11 : 1000001 ≤ p3 ∧ p3 ≤ 2147483647) (h12 : 1 ≤ z90 ∧ z90 ≤ 1) : 0 ≤ p1 → p1 < f_dm → 1 ≤ p3 → p3 ≤ 1000000 → f_q < 16 → (-1 : Int) = f_q ∧ f_q = f_q + 1 := by omega
set_option maxRecDepth 4000 in
set_option maxHeartbeats 4000000 in
theorem c_X11_demand_v {l : Launch} {D : va_G} {c : Nat → ClassId} {H0 : Heap} {sa : Nat × Nat × (Nat → Int32)} {w : mW} {μ : mM} (hw : mWF w) (hT : mT w μ) {p1 : Int} (hp1 : (-2147483648) ≤ p1 ∧ p1 ≤ 2147483647) {p2 : Int} (hp2 : (-2147483648) ≤ p2 ∧ p2 ≤ 2147483647) {p3 : Int} (hp3 : (-2147483648) ≤ p3 ∧ p3 ≤ 2147483647) {f_q : Int} (q_f_q : μ 87 10 = f_q) {f_dm : Int} (q_f_dm : μ 6 15 = f_dm) : sC (gG l D c H0 sa) mX11_demand 2 0 0 [.ref 0, iv p1, iv p2, iv p3] (mk w μ) (qI w [87010, 90999, 91999, 92999] μ (fun z μ1 => ∃ o_q : Int, μ1 87 10 = o_q ∧ ((-2147483648) ≤ z ∧ z ≤ 2147483647) ∧ (p1 < 0 ∨ f_dm ≤ p1 ∨ p3 < 1 ∨ 1000000 < p3 → z = -1 ∧ o_q = f_q) ∧ (0 ≤ p1 → p1 < f_dm → 1 ≤ p3 → p3 ≤ 1000000 → f_q = 16 → z = -3 ∧ o_q = f_q) ∧ (0 ≤ p1 → p1 < f_dm → 1 ≤ p3 → p3 ≤ 1000000 → f_q < 16 → z = f_q ∧ o_q = f_q + 1) ∧ True)) := by
  refine sC.of rfl (by decide) (le_t rfl) ?_
  have ht_f_q : (0 ≤ f_q ∧ f_q ≤ 16 ∧ (f_q = 0 ∨ 0 < w.2.2.2 0)) := by rw [← q_f_q]; exact hT 87 87 (A_87 hw) 10
  have h1 : 0 ≤ f_q ∧ f_q ≤ 16 := ⟨ht_f_q.1, ht_f_q.2.1⟩
  have ht_f_dm : (f_dm = w.2.2.2 0 ∧ 0 ≤ f_dm ∧ f_dm ≤ 10) := by rw [← q_f_dm]; exact hT 6 6 (A_6 hw) 15
  refine mr_lvE (lv' := [(0, .ref 0), (1, iv p1), (2, iv p2), (3, iv p3)]) rfl ?_
  refine sv_aload_n (pc := 0) dX11_demand_0 rfl rfl ?_
  refine mr_iload_n (pc := 1) (z := p1) dX11_demand_1 rfl rfl ?_
  refine mr_cVP (pc := 2) (c_X11_isDomain hw hT hp1 q_f_dm) (gOk _ _ _ _ _) dX11_demand_2 (tX11_isDomain _ _ _ _ _) ⟨wV_X11_isDomain, wL_X11_isDomain⟩ wM_X11_105 (gCX11 _ _ _ _ _) rfl (A_0 hw) rfl ⟨le_t rfl, le_t rfl⟩ ⟨le_t rfl, le_t rfl⟩ rfl (le_t rfl) fun z90 h89 => ?_
  refine mr_if_eq (pc := 5) (tgt := 19) dX11_demand_5 (by decide) (r32 h89.1 rfl) (fun h91 => ?_) (fun h91 => ?_)
  · have h92 : 0 ≤ z90 ∧ z90 ≤ 0 := (vc_X11_demand_v_1 h91 h89.2.1 h89.2.2.1 ht_f_dm.2 hp1 h89.1)
    have h93 : p1 < 0 ∨ f_dm ≤ p1 := (h89.2.2.1 (vc_X11_demand_v_2 h89.2.1 h89.2.2.1 h91 ht_f_dm.1 ht_f_dm.2 hp1 h92))
    refine mr_iconst (pc := 19) (z := (-1)) dX11_demand_19 ?_
    exact mr_iret dX11_demand_20 rfl (le_t rfl) (le_t rfl) hT mF.refl ⟨f_q, q_f_q, (rW (c := (-2147483648)) (d := 2147483647) (rR (x := (-1))) rfl), (vc_X11_demand_v_3 ht_f_q.2.2 ht_f_dm.1 h89.2.1 h89.2.2.1 h93 h91 ht_f_dm.2 h1 hp1 hp3 h92), (vc_X11_demand_v_4 ht_f_q.2.2 ht_f_dm.1 h89.2.1 h89.2.2.1 h93 h91 ht_f_dm.2 h1 hp1 hp3 h92), (vc_X11_demand_v_5 ht_f_q.2.2 ht_f_dm.1 h89.2.1 h89.2.2.1 h93 h91 ht_f_dm.2 h1 hp1 hp3 h92), trivial⟩
  have h94 : 1 ≤ z90 ∧ z90 ≤ 1 := (vc_X11_demand_v_6 h91 h89.2.1 h89.2.2.1 ht_f_dm.2 hp1 h89.1)
  have h95 : 0 ≤ p1 ∧ p1 < f_dm := (h89.2.1 (vc_X11_demand_v_7 h89.2.1 h89.2.2.1 h91 ht_f_dm.1 ht_f_dm.2 hp1 h94))
  have h96 : 0 ≤ p1 ∧ p1 ≤ 9 := (vc_X11_demand_v_8 h95 ht_f_dm.1 h89.2.1 h89.2.2.1 ht_f_dm.2 hp1 h94)
  refine mr_iload_n (pc := 8) (z := p3) dX11_demand_8 rfl rfl ?_
  refine mr_iconst (pc := 9) (z := 1) dX11_demand_9 ?_
  refine mr_icmp_lt (pc := 10) (tgt := 19) dX11_demand_10 (by decide) hp3 (r32 (rR (x := 1)) rfl) (fun h97 => ?_) (fun h97 => ?_)
  · have h98 : (-2147483648) ≤ p3 ∧ p3 ≤ 0 := (vc_X11_pace_7 h97 hp3)
    refine mr_iconst (pc := 19) (z := (-1)) dX11_demand_19 ?_
    exact mr_iret dX11_demand_20 rfl (le_t rfl) (le_t rfl) hT mF.refl ⟨f_q, q_f_q, (rW (c := (-2147483648)) (d := 2147483647) (rR (x := (-1))) rfl), (vc_X11_demand_v_10 ht_f_q.2.2 ht_f_dm.1 h89.2.1 h89.2.2.1 h95 h97 h91 ht_f_dm.2 h1 h96 h98 h94), (vc_X11_demand_v_11 ht_f_q.2.2 ht_f_dm.1 h89.2.1 h89.2.2.1 h95 h97 h91 ht_f_dm.2 h1 h96 h98 h94), (vc_X11_demand_v_12 ht_f_q.2.2 ht_f_dm.1 h89.2.1 h89.2.2.1 h95 h97 h91 ht_f_dm.2 h1 h96 h98 h94), trivial⟩
  have h99 : 1 ≤ p3 ∧ p3 ≤ 2147483647 := (vc_X11_pace_8 h97 hp3)
  refine mr_iload_n (pc := 13) (z := p3) dX11_demand_13 rfl rfl ?_
  refine mr_ldc (pc := 14) (z := 1000000) dX11_demand_14 wG_X11_226 (by decide) ?_
  refine mr_icmp_le (pc := 16) (tgt := 21) dX11_demand_16 (by decide) (r32 h99 rfl) (r32 (rR (x := 1000000)) rfl) (fun h100 => ?_) (fun h100 => ?_)
  · have h101 : 1 ≤ p3 ∧ p3 ≤ 1000000 := (vc_X11_demand_v_14 h100 h97 h99)
    refine sv_aload_n (pc := 21) dX11_demand_21 rfl rfl ?_
    refine gf_X11_8 (pc := 22) dX11_demand_22 wF_X11_65 (A_0 hw) hT ?_
    refine gk_X2_10 (pc := 25) dX11_demand_25 wF_X11_373 (A_87 hw) q_f_q ?_
    refine mr_bipush (pc := 28) (z := 16) dX11_demand_28 (by decide) ?_
    refine mr_icmp_lt (pc := 30) (tgt := 36) dX11_demand_30 (by decide) (r32 h1 rfl) (r32 (rR (x := 16)) rfl) (fun h102 => ?_) (fun h102 => ?_)
    · have h103 : 0 ≤ f_q ∧ f_q ≤ 15 := (vc_X11_demand_v_15 h102 ht_f_q.2.2 h1)
      refine sv_aload_n (pc := 36) dX11_demand_36 rfl rfl ?_
      refine gf_X11_8 (pc := 37) dX11_demand_37 wF_X11_65 (A_0 hw) hT ?_
      refine mr_iload_n (pc := 40) (z := p1) dX11_demand_40 rfl rfl ?_
      refine mr_iload_n (pc := 41) (z := p2) dX11_demand_41 rfl rfl ?_
      refine mr_iload_n (pc := 42) (z := p3) dX11_demand_42 rfl rfl ?_
      refine mr_cVI (pc := 43) (c_X2_addDemand_v hw hT h96 hp2 (rW (c := (-2147483648)) (d := 2147483647) h101 rfl) q_f_q (vc_X11_demand_v_16 ht_f_q.2.2 ht_f_dm.1 h89.2.1 h89.2.2.1 h95 h91 h102 ht_f_dm.2 h103 h96 h94) (vc_X11_demand_v_17 ht_f_q.2.2 h102 ht_f_dm.1 ht_f_dm.2 h103)) (gOk _ _ _ _ _) dX11_demand_43 (tX2_addDemand _ _ _ _ _) ⟨wV_X2_addDemand, wL_X2_addDemand⟩ wM_X11_376 (gCX2 _ _ _ _ _) rfl (A_87 hw) rfl ⟨le_t rfl, le_t rfl⟩ ⟨le_t rfl, le_t rfl⟩ rfl (le_t rfl) fun z108 μ104 T105 F106 h107 => ?_
      obtain ⟨z109, q110, h111⟩ := h107
      have h112 : (0 ≤ z109 ∧ z109 ≤ 16 ∧ (z109 = 0 ∨ 0 < w.2.2.2 0)) := by rw [← q110]; exact T105 87 87 (A_87 hw) 10
      have h113 : 0 ≤ z109 ∧ z109 ≤ 16 := ⟨h112.1, h112.2.1⟩
      have h114 : 0 ≤ z108 ∧ z108 ≤ 15 := (vc_X11_demand_v_18 h111.2.1 ht_f_q.2.2 h102 h103 h111.1)
      have q115 : μ104 87 10 = (f_q + 1) := q110.trans h111.2.2.1
      exact mr_iret dX11_demand_46 rfl (le_t rfl) (le_t rfl) T105 (mF.call mF.refl F106 rfl) ⟨(f_q + 1), q115, (rW (c := (-2147483648)) (d := 2147483647) h114 rfl), (vc_X11_demand_v_19 ht_f_q.2.2 ht_f_dm.1 h89.2.1 h89.2.2.1 h95 h97 h100 h102 h111.2.1 h111.2.2.1 h91 h112.2.2 ht_f_dm.2 h103 h96 h101 h114 h113 h94), (vc_X11_demand_v_20 ht_f_q.2.2 ht_f_dm.1 h89.2.1 h89.2.2.1 h95 h97 h100 h102 h111.2.1 h111.2.2.1 h91 h112.2.2 ht_f_dm.2 h103 h96 h101 h114 h113 h94), (vc_X11_demand_v_21 ht_f_q.2.2 ht_f_dm.1 h89.2.1 h89.2.2.1 h95 h97 h100 h102 h111.2.1 h111.2.2.1 h91 h112.2.2 ht_f_dm.2 h103 h96 h101 h114 h113 h94), trivial⟩
    have h116 : 16 ≤ f_q ∧ f_q ≤ 16 := (vc_X11_demand_v_22 h102 ht_f_q.2.2 h1)
    refine mr_bipush (pc := 33) (z := (-3)) dX11_demand_33 (by decide) ?_
    exact mr_iret dX11_demand_35 rfl (le_t rfl) (le_t rfl) hT mF.refl ⟨f_q, q_f_q, (rW (c := (-2147483648)) (d := 2147483647) (rR (x := (-3))) rfl), (vc_X11_demand_v_23 ht_f_q.2.2 ht_f_dm.1 h89.2.1 h89.2.2.1 h95 h97 h100 h102 h91 ht_f_dm.2 h116 h96 h101 h94), (vc_X11_demand_v_24 ht_f_q.2.2 ht_f_dm.1 h89.2.1 h89.2.2.1 h95 h97 h100 h102 h91 ht_f_dm.2 h116 h96 h101 h94), (vc_X11_demand_v_25 ht_f_q.2.2 ht_f_dm.1 h89.2.1 h89.2.2.1 h95 h97 h100 h102 h91 ht_f_dm.2 h116 h96 h101 h94), trivial⟩
  have h117 : 1000001 ≤ p3 ∧ p3 ≤ 2147483647 := (vc_X11_demand_v_26 h100 h97 h99)
  refine mr_iconst (pc := 19) (z := (-1)) dX11_demand_19 ?_
  exact mr_iret dX11_demand_20 rfl (le_t rfl) (le_t rfl) hT mF.refl ⟨f_q, q_f_q, (rW (c := (-2147483648)) (d := 2147483647) (rR (x := (-1))) rfl), (vc_X11_demand_v_27 ht_f_q.2.2 ht_f_dm.1 h89.2.1 h89.2.2.1 h95 h97 h100 h91 ht_f_dm.2 h1 h96 h117 h94), (vc_X11_demand_v_28 ht_f_q.2.2 ht_f_dm.1 h89.2.1 h89.2.2.1 h95 h97 h100 h91 ht_f_dm.2 h1 h96 h117 h94), (vc_X11_demand_v_29 ht_f_q.2.2 ht_f_dm.1 h89.2.1 h89.2.2.1 h95 h97 h100 h91 ht_f_dm.2 h1 h96 h117 h94), trivial⟩
theorem vc_X12_demand_v_2 {f_dm p1 z107 : Int} (h0 : (z107 = 1 → 0 ≤ p1 ∧ p1 < f_dm)) (h1 : (z107 = 0 → p1 < 0 ∨ f_dm ≤ p1)) (h2 : z107 = 0) (h3 : 0 ≤ f_dm ∧ f_dm ≤ 10) (h4 : (-2147483648) ≤ p1 ∧ p1 ≤ 2147483647) (h5 : 0 ≤ z107 ∧ z107 ≤ 0) : z107 = 0 := by omega
theorem vc_X12_demand_v_3 {f_dm f_q p1 p3 z107 : Int} (h0 : (z107 = 1 → 0 ≤ p1 ∧ p1 < f_dm)) (h1 : (z107 = 0 → p1 < 0 ∨ f_dm ≤ p1)) (h2 : p1 < 0 ∨ f_dm ≤ p1) (h3 : z107 = 0) (h4 : 0 ≤ f_dm ∧ f_dm ≤ 10) (h5 : 0 ≤ f_q ∧ f_q ≤ 16) (h6 : (-2147483648) ≤ p1 ∧ p1 ≤ 2147483647) (h7 : (-2147483648) ≤ p3 ∧ p3 ≤ 2147483647) (h8 : 0 ≤ z107 ∧ z107 ≤ 0) : p1 < 0 ∨ f_dm ≤ p1 ∨ p3 < 1 ∨ 1000000 < p3 → (-1 : Int) = -1 ∧ f_q = f_q := by omega
theorem vc_X12_demand_v_4 {f_dm f_q p1 p3 z107 : Int} (h0 : (z107 = 1 → 0 ≤ p1 ∧ p1 < f_dm)) (h1 : (z107 = 0 → p1 < 0 ∨ f_dm ≤ p1)) (h2 : p1 < 0 ∨ f_dm ≤ p1) (h3 : z107 = 0) (h4 : 0 ≤ f_dm ∧ f_dm ≤ 10) (h5 : 0 ≤ f_q ∧ f_q ≤ 16) (h6 : (-2147483648) ≤ p1 ∧ p1 ≤ 2147483647) (h7 : (-2147483648) ≤ p3 ∧ p3 ≤ 2147483647) (h8 : 0 ≤ z107 ∧ z107 ≤ 0) : 0 ≤ p1 → p1 < f_dm → 1 ≤ p3 → p3 ≤ 1000000 → f_q = 16 → (-1 : Int) = -3 ∧ f_q = f_q := by omega
theorem vc_X12_demand_v_5 {f_dm f_q p1 p3 z107 : Int} (h0 : (z107 = 1 → 0 ≤ p1 ∧ p1 < f_dm)) (h1 : (z107 = 0 → p1 < 0 ∨ f_dm ≤ p1)) (h2 : p1 < 0 ∨ f_dm ≤ p1) (h3 : z107 = 0) (h4 : 0 ≤ f_dm ∧ f_dm ≤ 10) (h5 : 0 ≤ f_q ∧ f_q ≤ 16) (h6 : (-2147483648) ≤ p1 ∧ p1 ≤ 2147483647) (h7 : (-2147483648) ≤ p3 ∧ p3 ≤ 2147483647) (h8 : 0 ≤ z107 ∧ z107 ≤ 0) : 0 ≤ p1 → p1 < f_dm → 1 ≤ p3 → p3 ≤ 1000000 → f_q < 16 → (-1 : Int) = f_q ∧ f_q = f_q + 1 := by omega
theorem vc_X12_demand_v_7 {f_dm p1 z107 : Int} (h0 : (z107 = 1 → 0 ≤ p1 ∧ p1 < f_dm)) (h1 : (z107 = 0 → p1 < 0 ∨ f_dm ≤ p1)) (h2 : ¬ z107 = 0) (h3 : 0 ≤ f_dm ∧ f_dm ≤ 10) (h4 : (-2147483648) ≤ p1 ∧ p1 ≤ 2147483647) (h5 : 1 ≤ z107 ∧ z107 ≤ 1) : z107 = 1 := by omega
theorem vc_X12_demand_v_8 {f_dm p1 z107 : Int} (h0 : 0 ≤ p1 ∧ p1 < f_dm) (h1 : (z107 = 1 → 0 ≤ p1 ∧ p1 < f_dm)) (h2 : (z107 = 0 → p1 < 0 ∨ f_dm ≤ p1)) (h3 : 0 ≤ f_dm ∧ f_dm ≤ 10) (h4 : (-2147483648) ≤ p1 ∧ p1 ≤ 2147483647) (h5 : 1 ≤ z107 ∧ z107 ≤ 1) : 0 ≤ p1 ∧ p1 ≤ 9 := by omega
theorem vc_X12_demand_v_9 {p3 z118 : Int} (h0 : ¬ z118 = 0) (h1 : (z118 = 1 → (1 : Int) ≤ p3 ∧ p3 ≤ (1000000 : Int))) (h2 : (z118 = 0 → p3 < (1 : Int) ∨ (1000000 : Int) < p3)) (h3 : (-2147483648) ≤ p3 ∧ p3 ≤ 2147483647) (h4 : 0 ≤ z118 ∧ z118 ≤ 1) : 1 ≤ z118 ∧ z118 ≤ 1 := by omega
theorem vc_X12_demand_v_10 {p3 z118 : Int} (h0 : (z118 = 1 → (1 : Int) ≤ p3 ∧ p3 ≤ (1000000 : Int))) (h1 : (z118 = 0 → p3 < (1 : Int) ∨ (1000000 : Int) < p3)) (h2 : ¬ z118 = 0) (h3 : (-2147483648) ≤ p3 ∧ p3 ≤ 2147483647) (h4 : 1 ≤ z118 ∧ z118 ≤ 1) : z118 = 1 := by omega
theorem vc_X12_demand_v_11 {p3 z118 : Int} (h0 : (1 : Int) ≤ p3 ∧ p3 ≤ (1000000 : Int)) (h1 : (z118 = 1 → (1 : Int) ≤ p3 ∧ p3 ≤ (1000000 : Int))) (h2 : (z118 = 0 → p3 < (1 : Int) ∨ (1000000 : Int) < p3)) (h3 : (-2147483648) ≤ p3 ∧ p3 ≤ 2147483647) (h4 : 1 ≤ z118 ∧ z118 ≤ 1) : 1 ≤ p3 ∧ p3 ≤ 1000000 := by omega
theorem vc_X12_demand_v_12 {f_q : Int} (h0 : ¬ f_q = 16) (h1 : 0 ≤ f_q ∧ f_q ≤ 16) : 0 ≤ f_q ∧ f_q ≤ 15 := by omega
theorem vc_X12_demand_v_13 {f_dm f_q p1 p3 z107 z118 : Int} (h0 : (z107 = 1 → 0 ≤ p1 ∧ p1 < f_dm)) (h1 : (z107 = 0 → p1 < 0 ∨ f_dm ≤ p1)) (h2 : 0 ≤ p1 ∧ p1 < f_dm) (h3 : (z118 = 1 → (1 : Int) ≤ p3 ∧ p3 ≤ (1000000 : Int))) (h4 : (z118 = 0 → p3 < (1 : Int) ∨ (1000000 : Int) < p3)) (h5 : (1 : Int) ≤ p3 ∧ p3 ≤ (1000000 : Int)) (h6 : ¬ f_q = 16) (h7 : ¬ z107 = 0) (h8 : ¬ z118 = 0) (h9 : 0 ≤ f_dm ∧ f_dm ≤ 10) (h10 : 0 ≤ f_q ∧ f_q ≤ 15) (h11 : 0 ≤ p1 ∧ p1 ≤ 9) (h12 : 1 ≤ p3 ∧ p3 ≤ 1000000) (h13 : 1 ≤ z107 ∧ z107 ≤ 1) (h14 : 1 ≤ z118 ∧ z118 ≤ 1) : p1 < 0 ∨ f_dm ≤ p1 ∨ p3 < 1 ∨ 1000000 < p3 → ((f_q + 1) - 1) = -1 ∧ (f_q + 1) = f_q := by omega
theorem vc_X12_demand_v_14 {f_dm f_q p1 p3 z107 z118 : Int} (h0 : (z107 = 1 → 0 ≤ p1 ∧ p1 < f_dm)) (h1 : (z107 = 0 → p1 < 0 ∨ f_dm ≤ p1)) (h2 : 0 ≤ p1 ∧ p1 < f_dm) (h3 : (z118 = 1 → (1 : Int) ≤ p3 ∧ p3 ≤ (1000000 : Int))) (h4 : (z118 = 0 → p3 < (1 : Int) ∨ (1000000 : Int) < p3)) (h5 : (1 : Int) ≤ p3 ∧ p3 ≤ (1000000 : Int)) (h6 : ¬ f_q = 16) (h7 : ¬ z107 = 0) (h8 : ¬ z118 = 0) (h9 : 0 ≤ f_dm ∧ f_dm ≤ 10) (h10 : 0 ≤ f_q ∧ f_q ≤ 15) (h11 : 0 ≤ p1 ∧ p1 ≤ 9) (h12 : 1 ≤ p3 ∧ p3 ≤ 1000000) (h13 : 1 ≤ z107 ∧ z107 ≤ 1) (h14 : 1 ≤ z118 ∧ z118 ≤ 1) : 0 ≤ p1 → p1 < f_dm → 1 ≤ p3 → p3 ≤ 1000000 → f_q = 16 → ((f_q + 1) - 1) = -3 ∧ (f_q + 1) = f_q := by omega
theorem vc_X12_demand_v_15 {f_dm f_q p1 p3 z107 z118 : Int} (h0 : (z107 = 1 → 0 ≤ p1 ∧ p1 < f_dm)) (h1 : (z107 = 0 → p1 < 0 ∨ f_dm ≤ p1)) (h2 : 0 ≤ p1 ∧ p1 < f_dm) (h3 : (z118 = 1 → (1 : Int) ≤ p3 ∧ p3 ≤ (1000000 : Int))) (h4 : (z118 = 0 → p3 < (1 : Int) ∨ (1000000 : Int) < p3)) (h5 : (1 : Int) ≤ p3 ∧ p3 ≤ (1000000 : Int)) (h6 : ¬ f_q = 16) (h7 : ¬ z107 = 0) (h8 : ¬ z118 = 0) (h9 : 0 ≤ f_dm ∧ f_dm ≤ 10) (h10 : 0 ≤ f_q ∧ f_q ≤ 15) (h11 : 0 ≤ p1 ∧ p1 ≤ 9) (h12 : 1 ≤ p3 ∧ p3 ≤ 1000000) (h13 : 1 ≤ z107 ∧ z107 ≤ 1) (h14 : 1 ≤ z118 ∧ z118 ≤ 1) : 0 ≤ p1 → p1 < f_dm → 1 ≤ p3 → p3 ≤ 1000000 → f_q < 16 → ((f_q + 1) - 1) = f_q ∧ (f_q + 1) = f_q + 1 := by omega
theorem vc_X12_demand_v_16 {f_q : Int} (h0 : f_q = 16) (h1 : 0 ≤ f_q ∧ f_q ≤ 16) : 16 ≤ f_q ∧ f_q ≤ 16 := by omega
theorem vc_X12_demand_v_17 {f_dm f_q p1 p3 z107 z118 : Int} (h0 : (z107 = 1 → 0 ≤ p1 ∧ p1 < f_dm)) (h1 : (z107 = 0 → p1 < 0 ∨ f_dm ≤ p1)) (h2 : 0 ≤ p1 ∧ p1 < f_dm) (h3 : (z118 = 1 → (1 : Int) ≤ p3 ∧ p3 ≤ (1000000 : Int))) (h4 : (z118 = 0 → p3 < (1 : Int) ∨ (1000000 : Int) < p3)) (h5 : (1 : Int) ≤ p3 ∧ p3 ≤ (1000000 : Int)) (h6 : f_q = 16) (h7 : ¬ z107 = 0) (h8 : ¬ z118 = 0) (h9 : 0 ≤ f_dm ∧ f_dm ≤ 10) (h10 : 16 ≤ f_q ∧ f_q ≤ 16) (h11 : 0 ≤ p1 ∧ p1 ≤ 9) (h12 : 1 ≤ p3 ∧ p3 ≤ 1000000) (h13 : 1 ≤ z107 ∧ z107 ≤ 1) (h14 : 1 ≤ z118 ∧ z118 ≤ 1) : p1 < 0 ∨ f_dm ≤ p1 ∨ p3 < 1 ∨ 1000000 < p3 → (-3 : Int) = -1 ∧ f_q = f_q := by omega
theorem vc_X12_demand_v_18 {f_dm f_q p1 p3 z107 z118 : Int} (h0 : (z107 = 1 → 0 ≤ p1 ∧ p1 < f_dm)) (h1 : (z107 = 0 → p1 < 0 ∨ f_dm ≤ p1)) (h2 : 0 ≤ p1 ∧ p1 < f_dm) (h3 : (z118 = 1 → (1 : Int) ≤ p3 ∧ p3 ≤ (1000000 : Int))) (h4 : (z118 = 0 → p3 < (1 : Int) ∨ (1000000 : Int) < p3)) (h5 : (1 : Int) ≤ p3 ∧ p3 ≤ (1000000 : Int)) (h6 : f_q = 16) (h7 : ¬ z107 = 0) (h8 : ¬ z118 = 0) (h9 : 0 ≤ f_dm ∧ f_dm ≤ 10) (h10 : 16 ≤ f_q ∧ f_q ≤ 16) (h11 : 0 ≤ p1 ∧ p1 ≤ 9) (h12 : 1 ≤ p3 ∧ p3 ≤ 1000000) (h13 : 1 ≤ z107 ∧ z107 ≤ 1) (h14 : 1 ≤ z118 ∧ z118 ≤ 1) : 0 ≤ p1 → p1 < f_dm → 1 ≤ p3 → p3 ≤ 1000000 → f_q = 16 → (-3 : Int) = -3 ∧ f_q = f_q := by omega
theorem vc_X12_demand_v_19 {f_dm f_q p1 p3 z107 z118 : Int} (h0 : (z107 = 1 → 0 ≤ p1 ∧ p1 < f_dm)) (h1 : (z107 = 0 → p1 < 0 ∨ f_dm ≤ p1)) (h2 : 0 ≤ p1 ∧ p1 < f_dm) (h3 : (z118 = 1 → (1 : Int) ≤ p3 ∧ p3 ≤ (1000000 : Int))) (h4 : (z118 = 0 → p3 < (1 : Int) ∨ (1000000 : Int) < p3)) (h5 : (1 : Int) ≤ p3 ∧ p3 ≤ (1000000 : Int)) (h6 : f_q = 16) (h7 : ¬ z107 = 0) (h8 : ¬ z118 = 0) (h9 : 0 ≤ f_dm ∧ f_dm ≤ 10) (h10 : 16 ≤ f_q ∧ f_q ≤ 16) (h11 : 0 ≤ p1 ∧ p1 ≤ 9) (h12 : 1 ≤ p3 ∧ p3 ≤ 1000000) (h13 : 1 ≤ z107 ∧ z107 ≤ 1) (h14 : 1 ≤ z118 ∧ z118 ≤ 1) : 0 ≤ p1 → p1 < f_dm → 1 ≤ p3 → p3 ≤ 1000000 → f_q < 16 → (-3 : Int) = f_q ∧ f_q = f_q + 1 := by omega
theorem vc_X12_demand_v_20 {p3 z118 : Int} (h0 : z118 = 0) (h1 : (z118 = 1 → (1 : Int) ≤ p3 ∧ p3 ≤ (1000000 : Int))) (h2 : (z118 = 0 → p3 < (1 : Int) ∨ (1000000 : Int) < p3)) (h3 : (-2147483648) ≤ p3 ∧ p3 ≤ 2147483647) (h4 : 0 ≤ z118 ∧ z118 ≤ 1) : 0 ≤ z118 ∧ z118 ≤ 0 := by omega
theorem vc_X12_demand_v_21 {p3 z118 : Int} (h0 : (z118 = 1 → (1 : Int) ≤ p3 ∧ p3 ≤ (1000000 : Int))) (h1 : (z118 = 0 → p3 < (1 : Int) ∨ (1000000 : Int) < p3)) (h2 : z118 = 0) (h3 : (-2147483648) ≤ p3 ∧ p3 ≤ 2147483647) (h4 : 0 ≤ z118 ∧ z118 ≤ 0) : z118 = 0 := by omega
theorem vc_X12_demand_v_22 {f_dm f_q p1 p3 z107 z118 : Int} (h0 : (z107 = 1 → 0 ≤ p1 ∧ p1 < f_dm)) (h1 : (z107 = 0 → p1 < 0 ∨ f_dm ≤ p1)) (h2 : 0 ≤ p1 ∧ p1 < f_dm) (h3 : (z118 = 1 → (1 : Int) ≤ p3 ∧ p3 ≤ (1000000 : Int))) (h4 : (z118 = 0 → p3 < (1 : Int) ∨ (1000000 : Int) < p3)) (h5 : p3 < (1 : Int) ∨ (1000000 : Int) < p3) (h6 : ¬ z107 = 0) (h7 : z118 = 0) (h8 : 0 ≤ f_dm ∧ f_dm ≤ 10) (h9 : 0 ≤ f_q ∧ f_q ≤ 16) (h10 : 0 ≤ p1 ∧ p1 ≤ 9) (h11 : (-2147483648) ≤ p3 ∧ p3 ≤ 2147483647) (h12 : 1 ≤ z107 ∧ z107 ≤ 1) (h13 : 0 ≤ z118 ∧ z118 ≤ 0) : p1 < 0 ∨ f_dm ≤ p1 ∨ p3 < 1 ∨ 1000000 < p3 → (-1 : Int) = -1 ∧ f_q = f_q := by omega
theorem vc_X12_demand_v_23 {f_dm f_q p1 p3 z107 z118 : Int} (h0 : (z107 = 1 → 0 ≤ p1 ∧ p1 < f_dm)) (h1 : (z107 = 0 → p1 < 0 ∨ f_dm ≤ p1)) (h2 : 0 ≤ p1 ∧ p1 < f_dm) (h3 : (z118 = 1 → (1 : Int) ≤ p3 ∧ p3 ≤ (1000000 : Int))) (h4 : (z118 = 0 → p3 < (1 : Int) ∨ (1000000 : Int) < p3)) (h5 : p3 < (1 : Int) ∨ (1000000 : Int) < p3) (h6 : ¬ z107 = 0) (h7 : z118 = 0) (h8 : 0 ≤ f_dm ∧ f_dm ≤ 10) (h9 : 0 ≤ f_q ∧ f_q ≤ 16) (h10 : 0 ≤ p1 ∧ p1 ≤ 9) (h11 : (-2147483648) ≤ p3 ∧ p3 ≤ 2147483647) (h12 : 1 ≤ z107 ∧ z107 ≤ 1) (h13 : 0 ≤ z118 ∧ z118 ≤ 0) : 0 ≤ p1 → p1 < f_dm → 1 ≤ p3 → p3 ≤ 1000000 → f_q = 16 → (-1 : Int) = -3 ∧ f_q = f_q := by omega
theorem vc_X12_demand_v_24 {f_dm f_q p1 p3 z107 z118 : Int} (h0 : (z107 = 1 → 0 ≤ p1 ∧ p1 < f_dm)) (h1 : (z107 = 0 → p1 < 0 ∨ f_dm ≤ p1)) (h2 : 0 ≤ p1 ∧ p1 < f_dm) (h3 : (z118 = 1 → (1 : Int) ≤ p3 ∧ p3 ≤ (1000000 : Int))) (h4 : (z118 = 0 → p3 < (1 : Int) ∨ (1000000 : Int) < p3)) (h5 : p3 < (1 : Int) ∨ (1000000 : Int) < p3) (h6 : ¬ z107 = 0) (h7 : z118 = 0) (h8 : 0 ≤ f_dm ∧ f_dm ≤ 10) (h9 : 0 ≤ f_q ∧ f_q ≤ 16) (h10 : 0 ≤ p1 ∧ p1 ≤ 9) (h11 : (-2147483648) ≤ p3 ∧ p3 ≤ 2147483647) (h12 : 1 ≤ z107 ∧ z107 ≤ 1) (h13 : 0 ≤ z118 ∧ z118 ≤ 0) : 0 ≤ p1 → p1 < f_dm → 1 ≤ p3 → p3 ≤ 1000000 → f_q < 16 → (-1 : Int) = f_q ∧ f_q = f_q + 1 := by omega
set_option maxRecDepth 4000 in
set_option maxHeartbeats 4000000 in
theorem c_X12_demand_v {l : Launch} {D : va_G} {c : Nat → ClassId} {H0 : Heap} {sa : Nat × Nat × (Nat → Int32)} {w : mW} {μ : mM} (hw : mWF w) (hT : mT w μ) {p1 : Int} (hp1 : (-2147483648) ≤ p1 ∧ p1 ≤ 2147483647) {p2 : Int} (hp2 : (-2147483648) ≤ p2 ∧ p2 ≤ 2147483647) {p3 : Int} (hp3 : (-2147483648) ≤ p3 ∧ p3 ≤ 2147483647) {f_q : Int} (q_f_q : μ 106 109 = f_q) {f_dm : Int} (q_f_dm : μ 106 5 = f_dm) : sC (gG l D c H0 sa) mX12_demand 3 0 0 [.ref 106, iv p1, iv p2, iv p3] (mk w μ) (qI w [106109, 177999, 178999, 179999] μ (fun z μ1 => ∃ o_q : Int, μ1 106 109 = o_q ∧ ((-2147483648) ≤ z ∧ z ≤ 2147483647) ∧ (p1 < 0 ∨ f_dm ≤ p1 ∨ p3 < 1 ∨ 1000000 < p3 → z = -1 ∧ o_q = f_q) ∧ (0 ≤ p1 → p1 < f_dm → 1 ≤ p3 → p3 ≤ 1000000 → f_q = 16 → z = -3 ∧ o_q = f_q) ∧ (0 ≤ p1 → p1 < f_dm → 1 ≤ p3 → p3 ≤ 1000000 → f_q < 16 → z = f_q ∧ o_q = f_q + 1) ∧ True)) := by
  refine sC.of rfl (by decide) (le_t rfl) ?_
  have ht_f_q : (0 ≤ f_q ∧ f_q ≤ 16) := by rw [← q_f_q]; exact hT 106 106 (A_106 hw) 109
  have ht_f_dm : (0 ≤ f_dm ∧ f_dm ≤ 10) := by rw [← q_f_dm]; exact hT 106 106 (A_106 hw) 5
  refine mr_lvE (lv' := [(0, .ref 106), (1, iv p1), (2, iv p2), (3, iv p3)]) rfl ?_
  refine sv_aload_n (pc := 0) dX12_demand_0 rfl rfl ?_
  refine mr_iload_n (pc := 1) (z := p1) dX12_demand_1 rfl rfl ?_
  refine mr_cVP (pc := 2) (c_X12_isDomain hw hT hp1 q_f_dm) (gOk _ _ _ _ _) dX12_demand_2 (tX12_isDomain _ _ _ _ _) ⟨wV_X12_isDomain, wL_X12_isDomain⟩ wM_X12_49 (gCX12 _ _ _ _ _) rfl (A_106 hw) rfl ⟨le_t rfl, le_t rfl⟩ ⟨le_t rfl, le_t rfl⟩ rfl (le_t rfl) fun z107 h106 => ?_
  refine mr_if_eq (pc := 5) (tgt := 19) dX12_demand_5 (by decide) (r32 h106.1 rfl) (fun h108 => ?_) (fun h108 => ?_)
  · have h109 : 0 ≤ z107 ∧ z107 ≤ 0 := (vc_X11_demand_v_1 h108 h106.2.1 h106.2.2.1 ht_f_dm hp1 h106.1)
    have h110 : p1 < 0 ∨ f_dm ≤ p1 := (h106.2.2.1 (vc_X12_demand_v_2 h106.2.1 h106.2.2.1 h108 ht_f_dm hp1 h109))
    refine mr_iconst (pc := 19) (z := (-1)) dX12_demand_19 ?_
    exact mr_iret dX12_demand_20 rfl (le_t rfl) (le_t rfl) hT mF.refl ⟨f_q, q_f_q, (rW (c := (-2147483648)) (d := 2147483647) (rR (x := (-1))) rfl), (vc_X12_demand_v_3 h106.2.1 h106.2.2.1 h110 h108 ht_f_dm ht_f_q hp1 hp3 h109), (vc_X12_demand_v_4 h106.2.1 h106.2.2.1 h110 h108 ht_f_dm ht_f_q hp1 hp3 h109), (vc_X12_demand_v_5 h106.2.1 h106.2.2.1 h110 h108 ht_f_dm ht_f_q hp1 hp3 h109), trivial⟩
  have h111 : 1 ≤ z107 ∧ z107 ≤ 1 := (vc_X11_demand_v_6 h108 h106.2.1 h106.2.2.1 ht_f_dm hp1 h106.1)
  have h112 : 0 ≤ p1 ∧ p1 < f_dm := (h106.2.1 (vc_X12_demand_v_7 h106.2.1 h106.2.2.1 h108 ht_f_dm hp1 h111))
  have h113 : 0 ≤ p1 ∧ p1 ≤ 9 := (vc_X12_demand_v_8 h112 h106.2.1 h106.2.2.1 ht_f_dm hp1 h111)
  refine mr_iload_n (pc := 8) (z := p3) dX12_demand_8 rfl rfl ?_
  refine mr_iconst (pc := 9) (z := 1) dX12_demand_9 ?_
  refine mr_ldcw (pc := 10) (z := 1000000) dX12_demand_10 wG_X12_291 (by decide) ?_
  refine mr_cSP (pc := 13) (c_X12_in hw hT hp3 (rW (c := (-2147483648)) (d := 2147483647) (rR (x := 1)) rfl) (rW (c := (-2147483648)) (d := 2147483647) (rR (x := 1000000)) rfl)) (gOk _ _ _ _ _) dX12_demand_13 (tX12_in _ _ _ _ _) wS_X12_in wM_X12_18 ⟨le_t rfl, le_t rfl⟩ ⟨le_t rfl, le_t rfl⟩ rfl (le_t rfl) fun z118 h117 => ?_
  refine mr_if_ne (pc := 16) (tgt := 21) dX12_demand_16 (by decide) (r32 h117.1 rfl) (fun h119 => ?_) (fun h119 => ?_)
  · have h120 : 1 ≤ z118 ∧ z118 ≤ 1 := (vc_X12_demand_v_9 h119 h117.2.1 h117.2.2.1 hp3 h117.1)
    have h121 : (1 : Int) ≤ p3 ∧ p3 ≤ (1000000 : Int) := (h117.2.1 (vc_X12_demand_v_10 h117.2.1 h117.2.2.1 h119 hp3 h120))
    have h122 : 1 ≤ p3 ∧ p3 ≤ 1000000 := (vc_X12_demand_v_11 h121 h117.2.1 h117.2.2.1 hp3 h120)
    refine sv_aload_n (pc := 21) dX12_demand_21 rfl rfl ?_
    refine gk_X12_109 (pc := 22) dX12_demand_22 wF_X12_695 (A_106 hw) q_f_q ?_
    refine mr_bipush (pc := 25) (z := 16) dX12_demand_25 (by decide) ?_
    refine mr_icmp_ne (pc := 27) (tgt := 33) dX12_demand_27 (by decide) (r32 ht_f_q rfl) (r32 (rR (x := 16)) rfl) (fun h123 => ?_) (fun h123 => ?_)
    · have h124 : 0 ≤ f_q ∧ f_q ≤ 15 := (vc_X12_demand_v_12 h123 ht_f_q)
      refine sv_aload_n (pc := 33) dX12_demand_33 rfl rfl ?_
      refine gf_X12_110 (pc := 34) dX12_demand_34 wF_X12_493 (A_106 hw) hT ?_
      refine sv_aload_n (pc := 37) dX12_demand_37 rfl rfl ?_
      refine gk_X12_109 (pc := 38) dX12_demand_38 wF_X12_695 (A_106 hw) q_f_q ?_
      refine mr_iload_n (pc := 41) (z := p1) dX12_demand_41 rfl rfl ?_
      refine ss_177 (pc := 42) dX12_demand_42 (A_177 hw) hT (rIx (n := 16) h124 rfl) h113 fun μ125 u126 T127 => ?_
      refine sv_aload_n (pc := 43) dX12_demand_43 rfl rfl ?_
      refine gf_X12_111 (pc := 44) dX12_demand_44 wF_X12_496 (A_106 hw) T127 ?_
      refine sv_aload_n (pc := 47) dX12_demand_47 rfl rfl ?_
      refine gk_X12_109 (pc := 48) dX12_demand_48 wF_X12_695 (A_106 hw) (u126.f (Or.inl (mAt.ne (A_177 hw) (A_106 hw) rfl)) q_f_q) ?_
      refine mr_iload_n (pc := 51) (z := p2) dX12_demand_51 rfl rfl ?_
      refine ss_178 (pc := 52) dX12_demand_52 (A_178 hw) T127 (rIx (n := 16) h124 rfl) hp2 fun μ128 u129 T130 => ?_
      refine sv_aload_n (pc := 53) dX12_demand_53 rfl rfl ?_
      refine gf_X12_112 (pc := 54) dX12_demand_54 wF_X12_499 (A_106 hw) T130 ?_
      refine sv_aload_n (pc := 57) dX12_demand_57 rfl rfl ?_
      refine gk_X12_109 (pc := 58) dX12_demand_58 wF_X12_695 (A_106 hw) (u129.f (Or.inl (mAt.ne (A_178 hw) (A_106 hw) rfl)) (u126.f (Or.inl (mAt.ne (A_177 hw) (A_106 hw) rfl)) q_f_q)) ?_
      refine mr_iload_n (pc := 61) (z := p3) dX12_demand_61 rfl rfl ?_
      refine ss_179 (pc := 62) dX12_demand_62 (A_179 hw) T130 (rIx (n := 16) h124 rfl) (rW (c := (-2147483648)) (d := 2147483647) h122 rfl) fun μ131 u132 T133 => ?_
      refine sv_aload_n (pc := 63) dX12_demand_63 rfl rfl ?_
      refine sv_dup (pc := 64) dX12_demand_64 rfl ?_
      refine gk_X12_109 (pc := 65) dX12_demand_65 wF_X12_695 (A_106 hw) (u132.f (Or.inl (mAt.ne (A_179 hw) (A_106 hw) rfl)) (u129.f (Or.inl (mAt.ne (A_178 hw) (A_106 hw) rfl)) (u126.f (Or.inl (mAt.ne (A_177 hw) (A_106 hw) rfl)) q_f_q))) ?_
      refine mr_iconst (pc := 68) (z := 1) dX12_demand_68 ?_
      refine mr_iadd (pc := 69) (x := f_q) (y := 1) dX12_demand_69 ?_
      refine pf_X12_109 (pc := 70) dX12_demand_70 wF_X12_695 (A_106 hw) T133 (rW (c := 0) (d := 16) (rAdd (e := 1) (f := 16) h124 (rR (x := 1)) rfl) rfl) fun μ134 u135 T136 => ?_
      refine sv_aload_n (pc := 73) dX12_demand_73 rfl rfl ?_
      refine gk_X12_109 (pc := 74) dX12_demand_74 wF_X12_695 (A_106 hw) u135.1 ?_
      refine mr_iconst (pc := 77) (z := 1) dX12_demand_77 ?_
      refine mr_isub (pc := 78) (x := (f_q + 1)) (y := 1) dX12_demand_78 ?_
      exact mr_iret dX12_demand_79 rfl (le_t rfl) (le_t rfl) T136 (mF.up (mF.up (mF.up (mF.up mF.refl (A_177 hw) u126 rfl) (A_178 hw) u129 rfl) (A_179 hw) u132 rfl) (A_106 hw) u135 rfl) ⟨(f_q + 1), u135.1, (rW (c := (-2147483648)) (d := 2147483647) (rSub (e := 0) (f := 15) (rAdd (e := 1) (f := 16) h124 (rR (x := 1)) rfl) (rR (x := 1)) rfl) rfl), (vc_X12_demand_v_13 h106.2.1 h106.2.2.1 h112 h117.2.1 h117.2.2.1 h121 h123 h108 h119 ht_f_dm h124 h113 h122 h111 h120), (vc_X12_demand_v_14 h106.2.1 h106.2.2.1 h112 h117.2.1 h117.2.2.1 h121 h123 h108 h119 ht_f_dm h124 h113 h122 h111 h120), (vc_X12_demand_v_15 h106.2.1 h106.2.2.1 h112 h117.2.1 h117.2.2.1 h121 h123 h108 h119 ht_f_dm h124 h113 h122 h111 h120), trivial⟩
    have h137 : 16 ≤ f_q ∧ f_q ≤ 16 := (vc_X12_demand_v_16 h123 ht_f_q)
    refine mr_bipush (pc := 30) (z := (-3)) dX12_demand_30 (by decide) ?_
    exact mr_iret dX12_demand_32 rfl (le_t rfl) (le_t rfl) hT mF.refl ⟨f_q, q_f_q, (rW (c := (-2147483648)) (d := 2147483647) (rR (x := (-3))) rfl), (vc_X12_demand_v_17 h106.2.1 h106.2.2.1 h112 h117.2.1 h117.2.2.1 h121 h123 h108 h119 ht_f_dm h137 h113 h122 h111 h120), (vc_X12_demand_v_18 h106.2.1 h106.2.2.1 h112 h117.2.1 h117.2.2.1 h121 h123 h108 h119 ht_f_dm h137 h113 h122 h111 h120), (vc_X12_demand_v_19 h106.2.1 h106.2.2.1 h112 h117.2.1 h117.2.2.1 h121 h123 h108 h119 ht_f_dm h137 h113 h122 h111 h120), trivial⟩
  have h138 : 0 ≤ z118 ∧ z118 ≤ 0 := (vc_X12_demand_v_20 h119 h117.2.1 h117.2.2.1 hp3 h117.1)
  have h139 : p3 < (1 : Int) ∨ (1000000 : Int) < p3 := (h117.2.2.1 (vc_X12_demand_v_21 h117.2.1 h117.2.2.1 h119 hp3 h138))
  refine mr_iconst (pc := 19) (z := (-1)) dX12_demand_19 ?_
  exact mr_iret dX12_demand_20 rfl (le_t rfl) (le_t rfl) hT mF.refl ⟨f_q, q_f_q, (rW (c := (-2147483648)) (d := 2147483647) (rR (x := (-1))) rfl), (vc_X12_demand_v_22 h106.2.1 h106.2.2.1 h112 h117.2.1 h117.2.2.1 h139 h108 h119 ht_f_dm ht_f_q h113 hp3 h111 h138), (vc_X12_demand_v_23 h106.2.1 h106.2.2.1 h112 h117.2.1 h117.2.2.1 h139 h108 h119 ht_f_dm ht_f_q h113 hp3 h111 h138), (vc_X12_demand_v_24 h106.2.1 h106.2.2.1 h112 h117.2.1 h117.2.2.1 h139 h108 h119 ht_f_dm ht_f_q h113 hp3 h111 h138), trivial⟩
