def WP_X6_readAct_Wx (w : mW) (μ : mM) (Q : mM → Prop) : Prop := ∀ z1 : Int, μ 23 9 = z1 → (0 ≤ z1 ∧ z1 ≤ 1000) → ∀ z4 : Int, μ 24 (z1.toNat) = z4 → ((-2147483648) ≤ z4 ∧ z4 ≤ 2147483647) → WP_X6_isAct_Wx w μ z4 (fun z11 _ => (0 ≤ z11 ∧ z11 ≤ 1) → ((¬ z11 = 0) → WP_X6_step_Wx w μ  (fun μ14 => mT w μ14 → mF [23009] w μ μ14 → WP_X6_put_Wx w μ14 z4 (fun μ18 => mT w μ18 → mF [23011, 27999] w μ14 μ18 → (z4 = 12 → WP_X6_number_Wx w μ18 (0) (1000) (fun z28 μ24 => mT w μ24 → mF [23009, 23018, 23019] w μ18 μ24 → ((-2147483648) ≤ z28 ∧ z28 ≤ 2147483647) → WP_X6_put_Wx w μ24 z28 (fun μ29 => mT w μ29 → mF [23011, 27999] w μ24 μ29 → Q μ29))) ∧ (¬ z4 = 12 → (z4 = 13 → WP_X6_number_Wx w μ18 (0) (1000000) (fun z39 μ35 => mT w μ35 → mF [23009, 23018, 23019] w μ18 μ35 → ((-2147483648) ≤ z39 ∧ z39 ≤ 2147483647) → WP_X6_put_Wx w μ35 z39 (fun μ40 => mT w μ40 → mF [23011, 27999] w μ35 μ40 → Q μ40))) ∧ (¬ z4 = 13 → (z4 = 14 → WP_X6_put_Wx w μ18 (0) (fun μ46 => mT w μ46 → mF [23011, 27999] w μ18 μ46 → Q μ46)) ∧ (¬ z4 = 14 → (z4 = 15 → WP_X6_put_Wx w μ18 (0) (fun μ52 => mT w μ52 → mF [23011, 27999] w μ18 μ52 → Q μ52)) ∧ (¬ z4 = 15 → (z4 = 16 → WP_X6_put_Wx w μ18 (0) (fun μ58 => mT w μ58 → mF [23011, 27999] w μ18 μ58 → Q μ58)) ∧ (¬ z4 = 16 → (z4 = 17 → WP_X6_put_Wx w μ18 (0) (fun μ64 => mT w μ64 → mF [23011, 27999] w μ18 μ64 → Q μ64)) ∧ (¬ z4 = 17 → (z4 = 18 → WP_X6_put_Wx w μ18 (0) (fun μ71 => mT w μ71 → mF [23011, 27999] w μ18 μ71 → Q μ71)) ∧ (¬ z4 = 18 → (z4 = 19 → WP_X6_put_Wx w μ18 (0) (fun μ77 => mT w μ77 → mF [23011, 27999] w μ18 μ77 → Q μ77)) ∧ (¬ z4 = 19 → (z4 = 20 → WP_X6_put_Wx w μ18 (0) (fun μ83 => mT w μ83 → mF [23011, 27999] w μ18 μ83 → Q μ83)) ∧ (¬ z4 = 20 → (z4 = 21 → WP_X6_put_Wx w μ18 (0) (fun μ89 => mT w μ89 → mF [23011, 27999] w μ18 μ89 → Q μ89)) ∧ (¬ z4 = 21 → (z4 = 22 → WP_X6_put_Wx w μ18 (0) (fun μ95 => mT w μ95 → mF [23011, 27999] w μ18 μ95 → Q μ95)) ∧ (¬ z4 = 22 → (z4 = 23 → WP_X6_put_Wx w μ18 (0) (fun μ101 => mT w μ101 → mF [23011, 27999] w μ18 μ101 → Q μ101)) ∧ (¬ z4 = 23 → (z4 = 24 → WP_X6_put_Wx w μ18 (0) (fun μ107 => mT w μ107 → mF [23011, 27999] w μ18 μ107 → Q μ107)) ∧ (¬ z4 = 24 → (z4 = 25 → WP_X6_number_Wx w μ18 (0) (65535) (fun z117 μ113 => mT w μ113 → mF [23009, 23018, 23019] w μ18 μ113 → ((-2147483648) ≤ z117 ∧ z117 ≤ 2147483647) → WP_X6_put_Wx w μ113 z117 (fun μ118 => mT w μ118 → mF [23011, 27999] w μ113 μ118 → Q μ118))) ∧ (¬ z4 = 25 → (z4 = 26 → WP_X6_number_Wx w μ18 (0) (65535) (fun z129 μ125 => mT w μ125 → mF [23009, 23018, 23019] w μ18 μ125 → ((-2147483648) ≤ z129 ∧ z129 ≤ 2147483647) → WP_X6_put_Wx w μ125 z129 (fun μ130 => mT w μ130 → mF [23011, 27999] w μ125 μ130 → Q μ130))) ∧ (¬ z4 = 26 → (z4 = 27 → WP_X6_number_Wx w μ18 (1) (9) (fun z140 μ136 => mT w μ136 → mF [23009, 23018, 23019] w μ18 μ136 → ((-2147483648) ≤ z140 ∧ z140 ≤ 2147483647) → WP_X6_put_Wx w μ136 z140 (fun μ141 => mT w μ141 → mF [23011, 27999] w μ136 μ141 → Q μ141))) ∧ (¬ z4 = 27 → (z4 = 28 → ∀ z147 : Int, μ18 23 14 = z147 → ((-2147483648) ≤ z147 ∧ z147 ≤ 2147483647) → ∀ z150 : Int, (-2147483648 ≤ z150 ∧ z150 ≤ 2147483647) → (z150 - (z147 - 1)) % 4294967296 = 0 → WP_X6_number_Wx w μ18 (0) z150 (fun z157 μ153 => mT w μ153 → mF [23009, 23018, 23019] w μ18 μ153 → ((-2147483648) ≤ z157 ∧ z157 ≤ 2147483647) → WP_X6_put_Wx w μ153 z157 (fun μ158 => mT w μ158 → mF [23011, 27999] w μ153 μ158 → Q μ158))) ∧ (¬ z4 = 28 → WP_X6_put_Wx w μ18 (0) (fun μ162 => mT w μ162 → mF [23011, 27999] w μ18 μ162 → Q μ162))))))))))))))))))))) ∧ ((z11 = 0) → WP_X6_fail_Wx w μ (2) (fun μ167 => mT w μ167 → mF [23009, 23018, 23019] w μ μ167 → Q μ167)))
set_option maxRecDepth 4000 in
set_option maxHeartbeats 4000000 in
theorem c_X6_readAct_Wx {l : Launch} {D : va_G} {c : Nat → ClassId} {H0 : Heap} {sa : Nat × Nat × (Nat → Int32)} {w : mW} {μ : mM} (hw : mWF w) (hT : mT w μ) {Q : mM → Prop} (hQ : WP_X6_readAct_Wx w μ  Q) : sC (gG l D c H0 sa) mX6_readAct 3 0 0 [.ref 23] (mk w μ) (qV w [23009, 23011, 23018, 23019, 27999] μ (fun μ1 => Q μ1 ∧ True)) := by
  refine sC.of rfl (by decide) (le_t rfl) ?_
  refine mr_lvE (lv' := [(0, .ref 23)]) rfl ?_
  refine sv_aload_n (pc := 0) dX6_readAct_0 rfl rfl ?_
  refine gf_X6_0 (pc := 1) dX6_readAct_1 wF_X6_9 (A_23 hw) hT ?_
  refine sv_aload_n (pc := 4) dX6_readAct_4 rfl rfl ?_
  refine gf_X6_9 (pc := 5) dX6_readAct_5 wF_X6_63 (A_23 hw) hT fun z1 q2 h3 => ?_
  refine la_24 (pc := 8) dX6_readAct_8 (A_24 hw) hT (rIx (n := 1001) h3 rfl) fun z4 q5 h6 => ?_
  refine mr_istore_n (pc := 9) (lv' := [(1, iv z4), (0, .ref 23)]) dX6_readAct_9 rfl (by decide) rfl ?_
  refine mr_iload_n (pc := 10) (z := z4) dX6_readAct_10 rfl rfl ?_
  refine mr_cSP (pc := 11) (c_X6_isAct_Wx hw hT h6 ((hQ z1 q2 h3) z4 q5 h6)) (gOk _ _ _ _ _) dX6_readAct_11 (tX6_isAct _ _ _ _ _) wS_X6_isAct wM_X6_127 ⟨le_t rfl, le_t rfl⟩ ⟨le_t rfl, le_t rfl⟩ rfl (le_t rfl) fun z11 h10 => ?_
  refine mr_if_ne (pc := 14) (tgt := 23) dX6_readAct_14 (by decide) (r32 h10.1 rfl) (fun h12 => ?_) (fun h12 => ?_)
  · have h13 : 1 ≤ z11 ∧ z11 ≤ 1 := (vc_X12_ring_24 h12 h10.1)
    refine sv_aload_n (pc := 23) dX6_readAct_23 rfl rfl ?_
    refine mr_cVV (pc := 24) (c_X6_step_Wx hw hT ((h10.2.1 h10.1).1 h12)) (gOk _ _ _ _ _) dX6_readAct_24 (tX6_step _ _ _ _ _) ⟨wV_X6_step, wL_X6_step⟩ wM_X6_117 (gCX6 _ _ _ _ _) rfl (A_23 hw) rfl ⟨le_t rfl, le_t rfl⟩ ⟨le_t rfl, le_t rfl⟩ rfl (le_t rfl) fun μ14 T15 F16 h17 => ?_
    refine sv_aload_n (pc := 27) dX6_readAct_27 rfl rfl ?_
    refine mr_iload_n (pc := 28) (z := z4) dX6_readAct_28 rfl rfl ?_
    refine mr_cVV (pc := 29) (c_X6_put_Wx hw T15 h6 (h17.1 T15 F16)) (gOk _ _ _ _ _) dX6_readAct_29 (tX6_put _ _ _ _ _) ⟨wV_X6_put, wL_X6_put⟩ wM_X6_130 (gCX6 _ _ _ _ _) rfl (A_23 hw) rfl ⟨le_t rfl, le_t rfl⟩ ⟨le_t rfl, le_t rfl⟩ rfl (le_t rfl) fun μ18 T19 F20 h21 => ?_
    refine mr_iload_n (pc := 32) (z := z4) dX6_readAct_32 rfl rfl ?_
    by_cases h22 : z4 = 12
    · refine mr_tableIn (pc := 33) (v := 12) (tgt := 130) dX6_readAct_33 h22 rfl rfl (by decide) ?_
      have h23 : 12 ≤ z4 ∧ z4 ≤ 12 := (vc_X1_doActs_W12_12 h22 h6)
      refine sv_aload_n (pc := 130) dX6_readAct_130 rfl rfl ?_
      refine sv_aload_n (pc := 131) dX6_readAct_131 rfl rfl ?_
      refine mr_iconst (pc := 132) (z := 0) dX6_readAct_132 ?_
      refine mr_sipush (pc := 133) (z := 1000) dX6_readAct_133 (by decide) ?_
      refine mr_cVI (pc := 136) (c_X6_number_Wx hw T19 (rW (c := (-2147483648)) (d := 2147483647) (rR (x := 0)) rfl) (rW (c := (-2147483648)) (d := 2147483647) (rR (x := 1000)) rfl) ((h21.1 T19 F20).1 h22)) (gOk _ _ _ _ _) dX6_readAct_136 (tX6_number _ _ _ _ _) ⟨wV_X6_number, wL_X6_number⟩ wM_X6_143 (gCX6 _ _ _ _ _) rfl (A_23 hw) rfl ⟨le_t rfl, le_t rfl⟩ ⟨le_t rfl, le_t rfl⟩ rfl (le_t rfl) fun z28 μ24 T25 F26 h27 => ?_
      refine mr_cVV (pc := 139) (c_X6_put_Wx hw T25 h27.1 ((h27.2.1 T25 F26) h27.1)) (gOk _ _ _ _ _) dX6_readAct_139 (tX6_put _ _ _ _ _) ⟨wV_X6_put, wL_X6_put⟩ wM_X6_130 (gCX6 _ _ _ _ _) rfl (A_23 hw) rfl ⟨le_t rfl, le_t rfl⟩ ⟨le_t rfl, le_t rfl⟩ rfl (le_t rfl) fun μ29 T30 F31 h32 => ?_
      refine sv_goto (pc := 142) (tgt := 196) dX6_readAct_142 (by decide) ?_
      exact mr_vret dX6_readAct_196 rfl (le_t rfl) (le_t rfl) T30 (mF.call (mF.call (mF.call (mF.call mF.refl F16 rfl) F20 rfl) F26 rfl) F31 rfl) ⟨(h32.1 T30 F31), trivial⟩
    by_cases h33 : z4 = 13
    · refine mr_tableIn (pc := 33) (v := 13) (tgt := 145) dX6_readAct_33 h33 rfl rfl (by decide) ?_
      have h34 : 13 ≤ z4 ∧ z4 ≤ 13 := (vc_X1_doActs_W12_14 h33 h22 h6)
      refine sv_aload_n (pc := 145) dX6_readAct_145 rfl rfl ?_
      refine sv_aload_n (pc := 146) dX6_readAct_146 rfl rfl ?_
      refine mr_iconst (pc := 147) (z := 0) dX6_readAct_147 ?_
      refine mr_ldc (pc := 148) (z := 1000000) dX6_readAct_148 wG_X6_147 (by decide) ?_
      refine mr_cVI (pc := 150) (c_X6_number_Wx hw T19 (rW (c := (-2147483648)) (d := 2147483647) (rR (x := 0)) rfl) (rW (c := (-2147483648)) (d := 2147483647) (rR (x := 1000000)) rfl) (((h21.1 T19 F20).2 h22).1 h33)) (gOk _ _ _ _ _) dX6_readAct_150 (tX6_number _ _ _ _ _) ⟨wV_X6_number, wL_X6_number⟩ wM_X6_143 (gCX6 _ _ _ _ _) rfl (A_23 hw) rfl ⟨le_t rfl, le_t rfl⟩ ⟨le_t rfl, le_t rfl⟩ rfl (le_t rfl) fun z39 μ35 T36 F37 h38 => ?_
      refine mr_cVV (pc := 153) (c_X6_put_Wx hw T36 h38.1 ((h38.2.1 T36 F37) h38.1)) (gOk _ _ _ _ _) dX6_readAct_153 (tX6_put _ _ _ _ _) ⟨wV_X6_put, wL_X6_put⟩ wM_X6_130 (gCX6 _ _ _ _ _) rfl (A_23 hw) rfl ⟨le_t rfl, le_t rfl⟩ ⟨le_t rfl, le_t rfl⟩ rfl (le_t rfl) fun μ40 T41 F42 h43 => ?_
      refine sv_goto (pc := 156) (tgt := 196) dX6_readAct_156 (by decide) ?_
      exact mr_vret dX6_readAct_196 rfl (le_t rfl) (le_t rfl) T41 (mF.call (mF.call (mF.call (mF.call mF.refl F16 rfl) F20 rfl) F37 rfl) F42 rfl) ⟨(h43.1 T41 F42), trivial⟩
    by_cases h44 : z4 = 14
    · refine mr_tableIn (pc := 33) (v := 14) (tgt := 191) dX6_readAct_33 h44 rfl rfl (by decide) ?_
      have h45 : 14 ≤ z4 ∧ z4 ≤ 14 := (vc_X1_doActs_W12_15 h44 h22 h33 h6)
      refine sv_aload_n (pc := 191) dX6_readAct_191 rfl rfl ?_
      refine mr_iconst (pc := 192) (z := 0) dX6_readAct_192 ?_
      refine mr_cVV (pc := 193) (c_X6_put_Wx hw T19 (rW (c := (-2147483648)) (d := 2147483647) (rR (x := 0)) rfl) ((((h21.1 T19 F20).2 h22).2 h33).1 h44)) (gOk _ _ _ _ _) dX6_readAct_193 (tX6_put _ _ _ _ _) ⟨wV_X6_put, wL_X6_put⟩ wM_X6_130 (gCX6 _ _ _ _ _) rfl (A_23 hw) rfl ⟨le_t rfl, le_t rfl⟩ ⟨le_t rfl, le_t rfl⟩ rfl (le_t rfl) fun μ46 T47 F48 h49 => ?_
      exact mr_vret dX6_readAct_196 rfl (le_t rfl) (le_t rfl) T47 (mF.call (mF.call (mF.call mF.refl F16 rfl) F20 rfl) F48 rfl) ⟨(h49.1 T47 F48), trivial⟩
    by_cases h50 : z4 = 15
    · refine mr_tableIn (pc := 33) (v := 15) (tgt := 191) dX6_readAct_33 h50 rfl rfl (by decide) ?_
      have h51 : 15 ≤ z4 ∧ z4 ≤ 15 := (vc_X1_doActs_W12_16 h50 h22 h33 h44 h6)
      refine sv_aload_n (pc := 191) dX6_readAct_191 rfl rfl ?_
      refine mr_iconst (pc := 192) (z := 0) dX6_readAct_192 ?_
      refine mr_cVV (pc := 193) (c_X6_put_Wx hw T19 (rW (c := (-2147483648)) (d := 2147483647) (rR (x := 0)) rfl) (((((h21.1 T19 F20).2 h22).2 h33).2 h44).1 h50)) (gOk _ _ _ _ _) dX6_readAct_193 (tX6_put _ _ _ _ _) ⟨wV_X6_put, wL_X6_put⟩ wM_X6_130 (gCX6 _ _ _ _ _) rfl (A_23 hw) rfl ⟨le_t rfl, le_t rfl⟩ ⟨le_t rfl, le_t rfl⟩ rfl (le_t rfl) fun μ52 T53 F54 h55 => ?_
      exact mr_vret dX6_readAct_196 rfl (le_t rfl) (le_t rfl) T53 (mF.call (mF.call (mF.call mF.refl F16 rfl) F20 rfl) F54 rfl) ⟨(h55.1 T53 F54), trivial⟩
    by_cases h56 : z4 = 16
    · refine mr_tableIn (pc := 33) (v := 16) (tgt := 191) dX6_readAct_33 h56 rfl rfl (by decide) ?_
      have h57 : 16 ≤ z4 ∧ z4 ≤ 16 := (vc_X1_doActs_W12_17 h56 h22 h33 h44 h50 h6)
      refine sv_aload_n (pc := 191) dX6_readAct_191 rfl rfl ?_
      refine mr_iconst (pc := 192) (z := 0) dX6_readAct_192 ?_
      refine mr_cVV (pc := 193) (c_X6_put_Wx hw T19 (rW (c := (-2147483648)) (d := 2147483647) (rR (x := 0)) rfl) ((((((h21.1 T19 F20).2 h22).2 h33).2 h44).2 h50).1 h56)) (gOk _ _ _ _ _) dX6_readAct_193 (tX6_put _ _ _ _ _) ⟨wV_X6_put, wL_X6_put⟩ wM_X6_130 (gCX6 _ _ _ _ _) rfl (A_23 hw) rfl ⟨le_t rfl, le_t rfl⟩ ⟨le_t rfl, le_t rfl⟩ rfl (le_t rfl) fun μ58 T59 F60 h61 => ?_
      exact mr_vret dX6_readAct_196 rfl (le_t rfl) (le_t rfl) T59 (mF.call (mF.call (mF.call mF.refl F16 rfl) F20 rfl) F60 rfl) ⟨(h61.1 T59 F60), trivial⟩
    by_cases h62 : z4 = 17
    · refine mr_tableIn (pc := 33) (v := 17) (tgt := 191) dX6_readAct_33 h62 rfl rfl (by decide) ?_
      have h63 : 17 ≤ z4 ∧ z4 ≤ 17 := (vc_X1_doActs_W12_18 h62 h22 h33 h44 h50 h56 h6)
      refine sv_aload_n (pc := 191) dX6_readAct_191 rfl rfl ?_
      refine mr_iconst (pc := 192) (z := 0) dX6_readAct_192 ?_
      refine mr_cVV (pc := 193) (c_X6_put_Wx hw T19 (rW (c := (-2147483648)) (d := 2147483647) (rR (x := 0)) rfl) (((((((h21.1 T19 F20).2 h22).2 h33).2 h44).2 h50).2 h56).1 h62)) (gOk _ _ _ _ _) dX6_readAct_193 (tX6_put _ _ _ _ _) ⟨wV_X6_put, wL_X6_put⟩ wM_X6_130 (gCX6 _ _ _ _ _) rfl (A_23 hw) rfl ⟨le_t rfl, le_t rfl⟩ ⟨le_t rfl, le_t rfl⟩ rfl (le_t rfl) fun μ64 T65 F66 h67 => ?_
      exact mr_vret dX6_readAct_196 rfl (le_t rfl) (le_t rfl) T65 (mF.call (mF.call (mF.call mF.refl F16 rfl) F20 rfl) F66 rfl) ⟨(h67.1 T65 F66), trivial⟩
    have W69 := (((((((h21.1 T19 F20).2 h22).2 h33).2 h44).2 h50).2 h56).2 h62)
    by_cases h68 : z4 = 18
    · refine mr_tableIn (pc := 33) (v := 18) (tgt := 191) dX6_readAct_33 h68 rfl rfl (by decide) ?_
      have h70 : 18 ≤ z4 ∧ z4 ≤ 18 := (vc_X1_doActs_W12_19 h68 h22 h33 h44 h50 h56 h62 h6)
      refine sv_aload_n (pc := 191) dX6_readAct_191 rfl rfl ?_
      refine mr_iconst (pc := 192) (z := 0) dX6_readAct_192 ?_
      refine mr_cVV (pc := 193) (c_X6_put_Wx hw T19 (rW (c := (-2147483648)) (d := 2147483647) (rR (x := 0)) rfl) (W69.1 h68)) (gOk _ _ _ _ _) dX6_readAct_193 (tX6_put _ _ _ _ _) ⟨wV_X6_put, wL_X6_put⟩ wM_X6_130 (gCX6 _ _ _ _ _) rfl (A_23 hw) rfl ⟨le_t rfl, le_t rfl⟩ ⟨le_t rfl, le_t rfl⟩ rfl (le_t rfl) fun μ71 T72 F73 h74 => ?_
      exact mr_vret dX6_readAct_196 rfl (le_t rfl) (le_t rfl) T72 (mF.call (mF.call (mF.call mF.refl F16 rfl) F20 rfl) F73 rfl) ⟨(h74.1 T72 F73), trivial⟩
    by_cases h75 : z4 = 19
    · refine mr_tableIn (pc := 33) (v := 19) (tgt := 191) dX6_readAct_33 h75 rfl rfl (by decide) ?_
      have h76 : 19 ≤ z4 ∧ z4 ≤ 19 := (vc_X1_doActs_W12_20 h75 h22 h33 h44 h50 h56 h62 h68 h6)
      refine sv_aload_n (pc := 191) dX6_readAct_191 rfl rfl ?_
      refine mr_iconst (pc := 192) (z := 0) dX6_readAct_192 ?_
      refine mr_cVV (pc := 193) (c_X6_put_Wx hw T19 (rW (c := (-2147483648)) (d := 2147483647) (rR (x := 0)) rfl) ((W69.2 h68).1 h75)) (gOk _ _ _ _ _) dX6_readAct_193 (tX6_put _ _ _ _ _) ⟨wV_X6_put, wL_X6_put⟩ wM_X6_130 (gCX6 _ _ _ _ _) rfl (A_23 hw) rfl ⟨le_t rfl, le_t rfl⟩ ⟨le_t rfl, le_t rfl⟩ rfl (le_t rfl) fun μ77 T78 F79 h80 => ?_
      exact mr_vret dX6_readAct_196 rfl (le_t rfl) (le_t rfl) T78 (mF.call (mF.call (mF.call mF.refl F16 rfl) F20 rfl) F79 rfl) ⟨(h80.1 T78 F79), trivial⟩
    by_cases h81 : z4 = 20
    · refine mr_tableIn (pc := 33) (v := 20) (tgt := 191) dX6_readAct_33 h81 rfl rfl (by decide) ?_
      have h82 : 20 ≤ z4 ∧ z4 ≤ 20 := (vc_X1_doActs_W12_21 h81 h33 h44 h50 h56 h62 h68 h75 h6)
      refine sv_aload_n (pc := 191) dX6_readAct_191 rfl rfl ?_
      refine mr_iconst (pc := 192) (z := 0) dX6_readAct_192 ?_
      refine mr_cVV (pc := 193) (c_X6_put_Wx hw T19 (rW (c := (-2147483648)) (d := 2147483647) (rR (x := 0)) rfl) (((W69.2 h68).2 h75).1 h81)) (gOk _ _ _ _ _) dX6_readAct_193 (tX6_put _ _ _ _ _) ⟨wV_X6_put, wL_X6_put⟩ wM_X6_130 (gCX6 _ _ _ _ _) rfl (A_23 hw) rfl ⟨le_t rfl, le_t rfl⟩ ⟨le_t rfl, le_t rfl⟩ rfl (le_t rfl) fun μ83 T84 F85 h86 => ?_
      exact mr_vret dX6_readAct_196 rfl (le_t rfl) (le_t rfl) T84 (mF.call (mF.call (mF.call mF.refl F16 rfl) F20 rfl) F85 rfl) ⟨(h86.1 T84 F85), trivial⟩
    by_cases h87 : z4 = 21
    · refine mr_tableIn (pc := 33) (v := 21) (tgt := 191) dX6_readAct_33 h87 rfl rfl (by decide) ?_
      have h88 : 21 ≤ z4 ∧ z4 ≤ 21 := (vc_X1_doActs_W12_22 h87 h44 h50 h56 h62 h68 h75 h81 h6)
      refine sv_aload_n (pc := 191) dX6_readAct_191 rfl rfl ?_
      refine mr_iconst (pc := 192) (z := 0) dX6_readAct_192 ?_
      refine mr_cVV (pc := 193) (c_X6_put_Wx hw T19 (rW (c := (-2147483648)) (d := 2147483647) (rR (x := 0)) rfl) ((((W69.2 h68).2 h75).2 h81).1 h87)) (gOk _ _ _ _ _) dX6_readAct_193 (tX6_put _ _ _ _ _) ⟨wV_X6_put, wL_X6_put⟩ wM_X6_130 (gCX6 _ _ _ _ _) rfl (A_23 hw) rfl ⟨le_t rfl, le_t rfl⟩ ⟨le_t rfl, le_t rfl⟩ rfl (le_t rfl) fun μ89 T90 F91 h92 => ?_
      exact mr_vret dX6_readAct_196 rfl (le_t rfl) (le_t rfl) T90 (mF.call (mF.call (mF.call mF.refl F16 rfl) F20 rfl) F91 rfl) ⟨(h92.1 T90 F91), trivial⟩
    by_cases h93 : z4 = 22
    · refine mr_tableIn (pc := 33) (v := 22) (tgt := 191) dX6_readAct_33 h93 rfl rfl (by decide) ?_
      have h94 : 22 ≤ z4 ∧ z4 ≤ 22 := (vc_X1_doActs_W12_23 h93 h50 h56 h62 h68 h75 h81 h87 h6)
      refine sv_aload_n (pc := 191) dX6_readAct_191 rfl rfl ?_
      refine mr_iconst (pc := 192) (z := 0) dX6_readAct_192 ?_
      refine mr_cVV (pc := 193) (c_X6_put_Wx hw T19 (rW (c := (-2147483648)) (d := 2147483647) (rR (x := 0)) rfl) (((((W69.2 h68).2 h75).2 h81).2 h87).1 h93)) (gOk _ _ _ _ _) dX6_readAct_193 (tX6_put _ _ _ _ _) ⟨wV_X6_put, wL_X6_put⟩ wM_X6_130 (gCX6 _ _ _ _ _) rfl (A_23 hw) rfl ⟨le_t rfl, le_t rfl⟩ ⟨le_t rfl, le_t rfl⟩ rfl (le_t rfl) fun μ95 T96 F97 h98 => ?_
      exact mr_vret dX6_readAct_196 rfl (le_t rfl) (le_t rfl) T96 (mF.call (mF.call (mF.call mF.refl F16 rfl) F20 rfl) F97 rfl) ⟨(h98.1 T96 F97), trivial⟩
    by_cases h99 : z4 = 23
    · refine mr_tableIn (pc := 33) (v := 23) (tgt := 191) dX6_readAct_33 h99 rfl rfl (by decide) ?_
      have h100 : 23 ≤ z4 ∧ z4 ≤ 23 := (vc_X1_doActs_W12_24 h99 h56 h62 h68 h75 h81 h87 h93 h6)
      refine sv_aload_n (pc := 191) dX6_readAct_191 rfl rfl ?_
      refine mr_iconst (pc := 192) (z := 0) dX6_readAct_192 ?_
      refine mr_cVV (pc := 193) (c_X6_put_Wx hw T19 (rW (c := (-2147483648)) (d := 2147483647) (rR (x := 0)) rfl) ((((((W69.2 h68).2 h75).2 h81).2 h87).2 h93).1 h99)) (gOk _ _ _ _ _) dX6_readAct_193 (tX6_put _ _ _ _ _) ⟨wV_X6_put, wL_X6_put⟩ wM_X6_130 (gCX6 _ _ _ _ _) rfl (A_23 hw) rfl ⟨le_t rfl, le_t rfl⟩ ⟨le_t rfl, le_t rfl⟩ rfl (le_t rfl) fun μ101 T102 F103 h104 => ?_
      exact mr_vret dX6_readAct_196 rfl (le_t rfl) (le_t rfl) T102 (mF.call (mF.call (mF.call mF.refl F16 rfl) F20 rfl) F103 rfl) ⟨(h104.1 T102 F103), trivial⟩
    by_cases h105 : z4 = 24
    · refine mr_tableIn (pc := 33) (v := 24) (tgt := 191) dX6_readAct_33 h105 rfl rfl (by decide) ?_
      have h106 : 24 ≤ z4 ∧ z4 ≤ 24 := (vc_X1_doActs_W12_25 h105 h62 h68 h75 h81 h87 h93 h99 h6)
      refine sv_aload_n (pc := 191) dX6_readAct_191 rfl rfl ?_
      refine mr_iconst (pc := 192) (z := 0) dX6_readAct_192 ?_
      refine mr_cVV (pc := 193) (c_X6_put_Wx hw T19 (rW (c := (-2147483648)) (d := 2147483647) (rR (x := 0)) rfl) (((((((W69.2 h68).2 h75).2 h81).2 h87).2 h93).2 h99).1 h105)) (gOk _ _ _ _ _) dX6_readAct_193 (tX6_put _ _ _ _ _) ⟨wV_X6_put, wL_X6_put⟩ wM_X6_130 (gCX6 _ _ _ _ _) rfl (A_23 hw) rfl ⟨le_t rfl, le_t rfl⟩ ⟨le_t rfl, le_t rfl⟩ rfl (le_t rfl) fun μ107 T108 F109 h110 => ?_
      exact mr_vret dX6_readAct_196 rfl (le_t rfl) (le_t rfl) T108 (mF.call (mF.call (mF.call mF.refl F16 rfl) F20 rfl) F109 rfl) ⟨(h110.1 T108 F109), trivial⟩
    by_cases h111 : z4 = 25
    · refine mr_tableIn (pc := 33) (v := 25) (tgt := 116) dX6_readAct_33 h111 rfl rfl (by decide) ?_
      have h112 : 25 ≤ z4 ∧ z4 ≤ 25 := (vc_X1_doActs_W12_26 h111 h68 h75 h81 h87 h93 h99 h105 h6)
      refine sv_aload_n (pc := 116) dX6_readAct_116 rfl rfl ?_
      refine sv_aload_n (pc := 117) dX6_readAct_117 rfl rfl ?_
      refine mr_iconst (pc := 118) (z := 0) dX6_readAct_118 ?_
      refine mr_ldc (pc := 119) (z := 65535) dX6_readAct_119 wG_X6_142 (by decide) ?_
      refine mr_cVI (pc := 121) (c_X6_number_Wx hw T19 (rW (c := (-2147483648)) (d := 2147483647) (rR (x := 0)) rfl) (rW (c := (-2147483648)) (d := 2147483647) (rR (x := 65535)) rfl) ((((((((W69.2 h68).2 h75).2 h81).2 h87).2 h93).2 h99).2 h105).1 h111)) (gOk _ _ _ _ _) dX6_readAct_121 (tX6_number _ _ _ _ _) ⟨wV_X6_number, wL_X6_number⟩ wM_X6_143 (gCX6 _ _ _ _ _) rfl (A_23 hw) rfl ⟨le_t rfl, le_t rfl⟩ ⟨le_t rfl, le_t rfl⟩ rfl (le_t rfl) fun z117 μ113 T114 F115 h116 => ?_
      refine mr_cVV (pc := 124) (c_X6_put_Wx hw T114 h116.1 ((h116.2.1 T114 F115) h116.1)) (gOk _ _ _ _ _) dX6_readAct_124 (tX6_put _ _ _ _ _) ⟨wV_X6_put, wL_X6_put⟩ wM_X6_130 (gCX6 _ _ _ _ _) rfl (A_23 hw) rfl ⟨le_t rfl, le_t rfl⟩ ⟨le_t rfl, le_t rfl⟩ rfl (le_t rfl) fun μ118 T119 F120 h121 => ?_
      refine sv_goto (pc := 127) (tgt := 196) dX6_readAct_127 (by decide) ?_
      exact mr_vret dX6_readAct_196 rfl (le_t rfl) (le_t rfl) T119 (mF.call (mF.call (mF.call (mF.call mF.refl F16 rfl) F20 rfl) F115 rfl) F120 rfl) ⟨(h121.1 T119 F120), trivial⟩
    have W123 := ((((((((W69.2 h68).2 h75).2 h81).2 h87).2 h93).2 h99).2 h105).2 h111)
    by_cases h122 : z4 = 26
    · refine mr_tableIn (pc := 33) (v := 26) (tgt := 116) dX6_readAct_33 h122 rfl rfl (by decide) ?_
      have h124 : 26 ≤ z4 ∧ z4 ≤ 26 := (vc_X1_doActs_W12_27 h122 h75 h81 h87 h93 h99 h105 h111 h6)
      refine sv_aload_n (pc := 116) dX6_readAct_116 rfl rfl ?_
      refine sv_aload_n (pc := 117) dX6_readAct_117 rfl rfl ?_
      refine mr_iconst (pc := 118) (z := 0) dX6_readAct_118 ?_
      refine mr_ldc (pc := 119) (z := 65535) dX6_readAct_119 wG_X6_142 (by decide) ?_
      refine mr_cVI (pc := 121) (c_X6_number_Wx hw T19 (rW (c := (-2147483648)) (d := 2147483647) (rR (x := 0)) rfl) (rW (c := (-2147483648)) (d := 2147483647) (rR (x := 65535)) rfl) (W123.1 h122)) (gOk _ _ _ _ _) dX6_readAct_121 (tX6_number _ _ _ _ _) ⟨wV_X6_number, wL_X6_number⟩ wM_X6_143 (gCX6 _ _ _ _ _) rfl (A_23 hw) rfl ⟨le_t rfl, le_t rfl⟩ ⟨le_t rfl, le_t rfl⟩ rfl (le_t rfl) fun z129 μ125 T126 F127 h128 => ?_
      refine mr_cVV (pc := 124) (c_X6_put_Wx hw T126 h128.1 ((h128.2.1 T126 F127) h128.1)) (gOk _ _ _ _ _) dX6_readAct_124 (tX6_put _ _ _ _ _) ⟨wV_X6_put, wL_X6_put⟩ wM_X6_130 (gCX6 _ _ _ _ _) rfl (A_23 hw) rfl ⟨le_t rfl, le_t rfl⟩ ⟨le_t rfl, le_t rfl⟩ rfl (le_t rfl) fun μ130 T131 F132 h133 => ?_
      refine sv_goto (pc := 127) (tgt := 196) dX6_readAct_127 (by decide) ?_
      exact mr_vret dX6_readAct_196 rfl (le_t rfl) (le_t rfl) T131 (mF.call (mF.call (mF.call (mF.call mF.refl F16 rfl) F20 rfl) F127 rfl) F132 rfl) ⟨(h133.1 T131 F132), trivial⟩
    by_cases h134 : z4 = 27
    · refine mr_tableIn (pc := 33) (v := 27) (tgt := 159) dX6_readAct_33 h134 rfl rfl (by decide) ?_
      have h135 : 27 ≤ z4 ∧ z4 ≤ 27 := (vc_X1_doActs_W12_28 h134 h81 h87 h93 h99 h105 h111 h122 h6)
      refine sv_aload_n (pc := 159) dX6_readAct_159 rfl rfl ?_
      refine sv_aload_n (pc := 160) dX6_readAct_160 rfl rfl ?_
      refine mr_iconst (pc := 161) (z := 1) dX6_readAct_161 ?_
      refine mr_bipush (pc := 162) (z := 9) dX6_readAct_162 (by decide) ?_
      refine mr_cVI (pc := 164) (c_X6_number_Wx hw T19 (rW (c := (-2147483648)) (d := 2147483647) (rR (x := 1)) rfl) (rW (c := (-2147483648)) (d := 2147483647) (rR (x := 9)) rfl) ((W123.2 h122).1 h134)) (gOk _ _ _ _ _) dX6_readAct_164 (tX6_number _ _ _ _ _) ⟨wV_X6_number, wL_X6_number⟩ wM_X6_143 (gCX6 _ _ _ _ _) rfl (A_23 hw) rfl ⟨le_t rfl, le_t rfl⟩ ⟨le_t rfl, le_t rfl⟩ rfl (le_t rfl) fun z140 μ136 T137 F138 h139 => ?_
      refine mr_cVV (pc := 167) (c_X6_put_Wx hw T137 h139.1 ((h139.2.1 T137 F138) h139.1)) (gOk _ _ _ _ _) dX6_readAct_167 (tX6_put _ _ _ _ _) ⟨wV_X6_put, wL_X6_put⟩ wM_X6_130 (gCX6 _ _ _ _ _) rfl (A_23 hw) rfl ⟨le_t rfl, le_t rfl⟩ ⟨le_t rfl, le_t rfl⟩ rfl (le_t rfl) fun μ141 T142 F143 h144 => ?_
      refine sv_goto (pc := 170) (tgt := 196) dX6_readAct_170 (by decide) ?_
      exact mr_vret dX6_readAct_196 rfl (le_t rfl) (le_t rfl) T142 (mF.call (mF.call (mF.call (mF.call mF.refl F16 rfl) F20 rfl) F138 rfl) F143 rfl) ⟨(h144.1 T142 F143), trivial⟩
    by_cases h145 : z4 = 28
    · refine mr_tableIn (pc := 33) (v := 28) (tgt := 173) dX6_readAct_33 h145 rfl rfl (by decide) ?_
      have h146 : 28 ≤ z4 ∧ z4 ≤ 28 := (vc_X1_doActs_W12_33 h145 h87 h93 h99 h105 h111 h122 h134 h6)
      refine sv_aload_n (pc := 173) dX6_readAct_173 rfl rfl ?_
      refine sv_aload_n (pc := 174) dX6_readAct_174 rfl rfl ?_
      refine mr_iconst (pc := 175) (z := 0) dX6_readAct_175 ?_
      refine sv_aload_n (pc := 176) dX6_readAct_176 rfl rfl ?_
      refine gf_X6_14 (pc := 177) dX6_readAct_177 wF_X6_56 (A_23 hw) T19 fun z147 q148 h149 => ?_
      refine mr_iconst (pc := 180) (z := 1) dX6_readAct_180 ?_
      refine mr_isub (pc := 181) (x := z147) (y := 1) dX6_readAct_181 ?_
      refine mr_wrapF fun z150 h151 h152 => ?_
      refine mr_cVI (pc := 182) (c_X6_number_Wx hw T19 (rW (c := (-2147483648)) (d := 2147483647) (rR (x := 0)) rfl) h151 (((((W123.2 h122).2 h134).1 h145) z147 q148 h149) z150 h151 h152)) (gOk _ _ _ _ _) dX6_readAct_182 (tX6_number _ _ _ _ _) ⟨wV_X6_number, wL_X6_number⟩ wM_X6_143 (gCX6 _ _ _ _ _) rfl (A_23 hw) rfl ⟨le_t rfl, le_t rfl⟩ ⟨le_t rfl, le_t rfl⟩ rfl (le_t rfl) fun z157 μ153 T154 F155 h156 => ?_
      refine mr_cVV (pc := 185) (c_X6_put_Wx hw T154 h156.1 ((h156.2.1 T154 F155) h156.1)) (gOk _ _ _ _ _) dX6_readAct_185 (tX6_put _ _ _ _ _) ⟨wV_X6_put, wL_X6_put⟩ wM_X6_130 (gCX6 _ _ _ _ _) rfl (A_23 hw) rfl ⟨le_t rfl, le_t rfl⟩ ⟨le_t rfl, le_t rfl⟩ rfl (le_t rfl) fun μ158 T159 F160 h161 => ?_
      refine sv_goto (pc := 188) (tgt := 196) dX6_readAct_188 (by decide) ?_
      exact mr_vret dX6_readAct_196 rfl (le_t rfl) (le_t rfl) T159 (mF.call (mF.call (mF.call (mF.call mF.refl F16 rfl) F20 rfl) F155 rfl) F160 rfl) ⟨(h161.1 T159 F160), trivial⟩
    refine mr_tableOut (pc := 33) (tgt := 191) dX6_readAct_33 h6 (vc_X1_doActs_W12_34 h22 h33 h44 h50 h56 h62 h68 h75 h81 h87 h93 h99 h105 h111 h122 h134 h145 h6) (by decide) ?_
    refine sv_aload_n (pc := 191) dX6_readAct_191 rfl rfl ?_
    refine mr_iconst (pc := 192) (z := 0) dX6_readAct_192 ?_
    refine mr_cVV (pc := 193) (c_X6_put_Wx hw T19 (rW (c := (-2147483648)) (d := 2147483647) (rR (x := 0)) rfl) (((W123.2 h122).2 h134).2 h145)) (gOk _ _ _ _ _) dX6_readAct_193 (tX6_put _ _ _ _ _) ⟨wV_X6_put, wL_X6_put⟩ wM_X6_130 (gCX6 _ _ _ _ _) rfl (A_23 hw) rfl ⟨le_t rfl, le_t rfl⟩ ⟨le_t rfl, le_t rfl⟩ rfl (le_t rfl) fun μ162 T163 F164 h165 => ?_
    exact mr_vret dX6_readAct_196 rfl (le_t rfl) (le_t rfl) T163 (mF.call (mF.call (mF.call mF.refl F16 rfl) F20 rfl) F164 rfl) ⟨(h165.1 T163 F164), trivial⟩
  have h166 : 0 ≤ z11 ∧ z11 ≤ 0 := (vc_X12_ring_22 h12 h10.1)
  refine sv_aload_n (pc := 17) dX6_readAct_17 rfl rfl ?_
  refine mr_iconst (pc := 18) (z := 2) dX6_readAct_18 ?_
  refine mr_cVV (pc := 19) (c_X6_fail_Wx hw hT (rW (c := 1) (d := 4) (rR (x := 2)) rfl) ((h10.2.1 h10.1).2 h12)) (gOk _ _ _ _ _) dX6_readAct_19 (tX6_fail _ _ _ _ _) ⟨wV_X6_fail, wL_X6_fail⟩ wM_X6_123 (gCX6 _ _ _ _ _) rfl (A_23 hw) rfl ⟨le_t rfl, le_t rfl⟩ ⟨le_t rfl, le_t rfl⟩ rfl (le_t rfl) fun μ167 T168 F169 h170 => ?_
  exact mr_vret dX6_readAct_22 rfl (le_t rfl) (le_t rfl) T168 (mF.call mF.refl F169 rfl) ⟨(h170.1 T168 F169), trivial⟩
def WL_X6_readRow_Wx_4 (w : mW) (Q : mM → Prop) (z17 : Int) (μ1916 : mM) (rec4 : (Int × Int × mM) → Prop) (s : (Int × Int × mM)) : Prop := ∀ z2433 : Int, ∀ z2432 : Int, ∀ μ2434 : mM, s = (z2433, z2432, μ2434) → (0 ≤ z2433 ∧ z2433 ≤ 1) → (0 ≤ z2432 ∧ z2432 ≤ 1000) → mT w μ2434 → mF [23009, 23011, 23018, 23019, 27999] w μ1916 μ2434 → ((1000 ≤ z2432) → WP_X6_expect_Wx w μ2434 (1059) (fun μ2469 => mT w μ2469 → mF [23009, 23018, 23019] w μ2434 μ2469 → Q μ2469)) ∧ ((z2432 < 1000) → ((z2433 = 0) → WP_X6_expect_Wx w μ2434 (1059) (fun μ2497 => mT w μ2497 → mF [23009, 23018, 23019] w μ2434 μ2497 → Q μ2497)) ∧ ((¬ z2433 = 0) → WP_X6_readAct_Wx w μ2434  (fun μ2502 => mT w μ2502 → mF [23009, 23011, 23018, 23019, 27999] w μ2434 μ2502 → ((z17 + 1) < (2000 : Int)) ∧ ∀ _ : True, ∀ z2508 : Int, μ2502 27 ((z17 + 1).toNat) = z2508 → ((-2147483648) ≤ z2508 ∧ z2508 ≤ 2147483647) → ∀ z2511 : Int, (-2147483648 ≤ z2511 ∧ z2511 ≤ 2147483647) → (z2511 - (z2508 + 1)) % 4294967296 = 0 → ∀ μ2514 : mM, mU μ2502 27 ((z17 + 1).toNat) z2511 μ2514 → mT w μ2514 → WP_X6_take_Wx w μ2514 (1044) (fun z2521 μ2517 => mT w μ2517 → mF [23009] w μ2514 μ2517 → (0 ≤ z2521 ∧ z2521 ≤ 1) → rec4 (z2521, (z2432 + 1), μ2517)))))
def WJ_X6_readRow_Wx_3 (w : mW) (Q : mM → Prop) (z17 : Int) (μ1875 : mM) (μ1916 : mM) : Prop := mT w μ1916 → mF [23009, 23018, 23019] w μ1875 μ1916 → loopF (WL_X6_readRow_Wx_4 w Q z17 μ1916) False 1002 ((1 : Int), (0 : Int), μ1916)
def WJ_X6_readRow_Wx_2 (w : mW) (Q : mM → Prop) (z17 : Int) (z32 : Int) (μ1875 : mM) : Prop := ((z32 = 0) → (WJ_X6_readRow_Wx_3 w Q z17 μ1875) μ1875) ∧ ((¬ z32 = 0) → WP_X6_expect_Wx w μ1875 (2) (fun μ2525 => mT w μ2525 → mF [23009, 23018, 23019] w μ1875 μ2525 → (WJ_X6_readRow_Wx_3 w Q z17 μ1875) μ2525))
def WL_X6_readRow_Wx_1 (w : mW) (Q : mM → Prop) (z17 : Int) (z32 : Int) (μ28 : mM) (rec1 : (Int × Int × mM) → Prop) (s : (Int × Int × mM)) : Prop := ∀ z1874 : Int, ∀ z1873 : Int, ∀ μ1875 : mM, s = (z1874, z1873, μ1875) → (0 ≤ z1874 ∧ z1874 ≤ 1) → (0 ≤ z1873 ∧ z1873 ≤ 1000) → mT w μ1875 → mF [23009, 23011, 23012, 23013, 23015, 23016, 23017, 23018, 23019, 27999, 28999, 29999, 30999, 31999] w μ28 μ1875 → ((1000 ≤ z1873) → (WJ_X6_readRow_Wx_2 w Q z17 z32 μ1875) ) ∧ ((z1873 < 1000) → ((z1874 = 0) → (WJ_X6_readRow_Wx_2 w Q z17 z32 μ1875) ) ∧ ((¬ z1874 = 0) → WP_X6_readTest_Wx w μ1875  (fun μ2535 => mT w μ2535 → mF [23009, 23011, 23012, 23013, 23015, 23016, 23017, 23018, 23019, 27999, 28999, 29999, 30999, 31999] w μ1875 μ2535 → (z17 < (2000 : Int)) ∧ ∀ _ : True, ∀ z2541 : Int, μ2535 27 (z17.toNat) = z2541 → ((-2147483648) ≤ z2541 ∧ z2541 ≤ 2147483647) → ∀ z2544 : Int, (-2147483648 ≤ z2544 ∧ z2544 ≤ 2147483647) → (z2544 - (z2541 + 1)) % 4294967296 = 0 → ∀ μ2547 : mM, mU μ2535 27 (z17.toNat) z2544 μ2547 → mT w μ2547 → WP_X6_take_Wx w μ2547 (1) (fun z2554 μ2550 => mT w μ2550 → mF [23009] w μ2547 μ2550 → (0 ≤ z2554 ∧ z2554 ≤ 1) → rec1 (z2554, (z1873 + 1), μ2550)))))
def WL_X6_readRow_Wx_8 (w : mW) (Q : mM → Prop) (z2575 : Int) (μ4474 : mM) (rec8 : (Int × Int × mM) → Prop) (s : (Int × Int × mM)) : Prop := ∀ z4991 : Int, ∀ z4990 : Int, ∀ μ4992 : mM, s = (z4991, z4990, μ4992) → (0 ≤ z4991 ∧ z4991 ≤ 1) → (0 ≤ z4990 ∧ z4990 ≤ 1000) → mT w μ4992 → mF [23009, 23011, 23018, 23019, 27999] w μ4474 μ4992 → ((1000 ≤ z4990) → WP_X6_expect_Wx w μ4992 (1059) (fun μ5027 => mT w μ5027 → mF [23009, 23018, 23019] w μ4992 μ5027 → Q μ5027)) ∧ ((z4990 < 1000) → ((z4991 = 0) → WP_X6_expect_Wx w μ4992 (1059) (fun μ5055 => mT w μ5055 → mF [23009, 23018, 23019] w μ4992 μ5055 → Q μ5055)) ∧ ((¬ z4991 = 0) → WP_X6_readAct_Wx w μ4992  (fun μ5060 => mT w μ5060 → mF [23009, 23011, 23018, 23019, 27999] w μ4992 μ5060 → ((z2575 + 1) < (2000 : Int)) ∧ ∀ _ : True, ∀ z5066 : Int, μ5060 27 ((z2575 + 1).toNat) = z5066 → ((-2147483648) ≤ z5066 ∧ z5066 ≤ 2147483647) → ∀ z5069 : Int, (-2147483648 ≤ z5069 ∧ z5069 ≤ 2147483647) → (z5069 - (z5066 + 1)) % 4294967296 = 0 → ∀ μ5072 : mM, mU μ5060 27 ((z2575 + 1).toNat) z5069 μ5072 → mT w μ5072 → WP_X6_take_Wx w μ5072 (1044) (fun z5079 μ5075 => mT w μ5075 → mF [23009] w μ5072 μ5075 → (0 ≤ z5079 ∧ z5079 ≤ 1) → rec8 (z5079, (z4990 + 1), μ5075)))))
def WJ_X6_readRow_Wx_7 (w : mW) (Q : mM → Prop) (z2575 : Int) (μ4433 : mM) (μ4474 : mM) : Prop := mT w μ4474 → mF [23009, 23018, 23019] w μ4433 μ4474 → loopF (WL_X6_readRow_Wx_8 w Q z2575 μ4474) False 1002 ((1 : Int), (0 : Int), μ4474)
def WJ_X6_readRow_Wx_6 (w : mW) (Q : mM → Prop) (z2575 : Int) (z2590 : Int) (μ4433 : mM) : Prop := ((z2590 = 0) → (WJ_X6_readRow_Wx_7 w Q z2575 μ4433) μ4433) ∧ ((¬ z2590 = 0) → WP_X6_expect_Wx w μ4433 (2) (fun μ5083 => mT w μ5083 → mF [23009, 23018, 23019] w μ4433 μ5083 → (WJ_X6_readRow_Wx_7 w Q z2575 μ4433) μ5083))
def WL_X6_readRow_Wx_5 (w : mW) (Q : mM → Prop) (z2575 : Int) (z2590 : Int) (μ2586 : mM) (rec5 : (Int × Int × mM) → Prop) (s : (Int × Int × mM)) : Prop := ∀ z4432 : Int, ∀ z4431 : Int, ∀ μ4433 : mM, s = (z4432, z4431, μ4433) → (0 ≤ z4432 ∧ z4432 ≤ 1) → (0 ≤ z4431 ∧ z4431 ≤ 1000) → mT w μ4433 → mF [23009, 23011, 23012, 23013, 23015, 23016, 23017, 23018, 23019, 27999, 28999, 29999, 30999, 31999] w μ2586 μ4433 → ((1000 ≤ z4431) → (WJ_X6_readRow_Wx_6 w Q z2575 z2590 μ4433) ) ∧ ((z4431 < 1000) → ((z4432 = 0) → (WJ_X6_readRow_Wx_6 w Q z2575 z2590 μ4433) ) ∧ ((¬ z4432 = 0) → WP_X6_readTest_Wx w μ4433  (fun μ5093 => mT w μ5093 → mF [23009, 23011, 23012, 23013, 23015, 23016, 23017, 23018, 23019, 27999, 28999, 29999, 30999, 31999] w μ4433 μ5093 → (z2575 < (2000 : Int)) ∧ ∀ _ : True, ∀ z5099 : Int, μ5093 27 (z2575.toNat) = z5099 → ((-2147483648) ≤ z5099 ∧ z5099 ≤ 2147483647) → ∀ z5102 : Int, (-2147483648 ≤ z5102 ∧ z5102 ≤ 2147483647) → (z5102 - (z5099 + 1)) % 4294967296 = 0 → ∀ μ5105 : mM, mU μ5093 27 (z2575.toNat) z5102 μ5105 → mT w μ5105 → WP_X6_take_Wx w μ5105 (1) (fun z5112 μ5108 => mT w μ5108 → mF [23009] w μ5105 μ5108 → (0 ≤ z5112 ∧ z5112 ≤ 1) → rec5 (z5112, (z4431 + 1), μ5108)))))
def WP_X6_readRow_Wx (w : mW) (μ : mM) (Q : mM → Prop) : Prop := ∀ z1 : Int, μ 23 9 = z1 → (0 ≤ z1 ∧ z1 ≤ 1000) → ∀ z4 : Int, μ 24 (z1.toNat) = z4 → ((-2147483648) ≤ z4 ∧ z4 ≤ 2147483647) → ((z4 = 0) → ∀ z9 : Int, μ 23 10 = z9 → (0 ≤ z9 ∧ z9 ≤ 30) → ((z9 < 30) → ∀ μ14 : mM, mU μ 23 (10) (z9 + 1) μ14 → mT w μ14 → ∀ z17 : Int, μ14 23 11 = z17 → (0 ≤ z17 ∧ z17 ≤ 2000) → WP_X6_put_Wx w μ14 (0) (fun μ20 => mT w μ20 → mF [23011, 27999] w μ14 μ20 → WP_X6_put_Wx w μ20 (0) (fun μ24 => mT w μ24 → mF [23011, 27999] w μ20 μ24 → WP_X6_take_Wx w μ24 (0) (fun z32 μ28 => mT w μ28 → mF [23009] w μ24 μ28 → (0 ≤ z32 ∧ z32 ≤ 1) → loopF (WL_X6_readRow_Wx_1 w Q z17 z32 μ28) False 1002 (z32, (0 : Int), μ28))))) ∧ ((30 ≤ z9) → WP_X6_fail_Wx w μ (4) (fun μ2556 => mT w μ2556 → mF [23009, 23018, 23019] w μ μ2556 → Q μ2556))) ∧ ((¬ z4 = 0) → WP_X6_isAct_Wx w μ z4 (fun z2564 _ => (0 ≤ z2564 ∧ z2564 ≤ 1) → ((¬ z2564 = 0) → ∀ z2567 : Int, μ 23 10 = z2567 → (0 ≤ z2567 ∧ z2567 ≤ 30) → ((z2567 < 30) → ∀ μ2572 : mM, mU μ 23 (10) (z2567 + 1) μ2572 → mT w μ2572 → ∀ z2575 : Int, μ2572 23 11 = z2575 → (0 ≤ z2575 ∧ z2575 ≤ 2000) → WP_X6_put_Wx w μ2572 (0) (fun μ2578 => mT w μ2578 → mF [23011, 27999] w μ2572 μ2578 → WP_X6_put_Wx w μ2578 (0) (fun μ2582 => mT w μ2582 → mF [23011, 27999] w μ2578 μ2582 → WP_X6_take_Wx w μ2582 (0) (fun z2590 μ2586 => mT w μ2586 → mF [23009] w μ2582 μ2586 → (0 ≤ z2590 ∧ z2590 ≤ 1) → loopF (WL_X6_readRow_Wx_5 w Q z2575 z2590 μ2586) False 1002 (z2590, (0 : Int), μ2586))))) ∧ ((30 ≤ z2567) → WP_X6_fail_Wx w μ (4) (fun μ5114 => mT w μ5114 → mF [23009, 23018, 23019] w μ μ5114 → Q μ5114))) ∧ ((z2564 = 0) → WP_X6_fail_Wx w μ (2) (fun μ5119 => mT w μ5119 → mF [23009, 23018, 23019] w μ μ5119 → Q μ5119))))
theorem vc_X6_readRow_Wx_9 {z17 : Int} (h0 : (z17 + 1) < 2000) (h1 : 0 ≤ z17 ∧ z17 ≤ 2000) : 0 ≤ z17 ∧ z17 ≤ 1998 := by omega
set_option maxRecDepth 4000 in
set_option maxHeartbeats 4000000 in
theorem c_X6_readRow_Wx {l : Launch} {D : va_G} {c : Nat → ClassId} {H0 : Heap} {sa : Nat × Nat × (Nat → Int32)} {w : mW} {μ : mM} (hw : mWF w) (hT : mT w μ) {Q : mM → Prop} (hQ : WP_X6_readRow_Wx w μ  Q) : sC (gG l D c H0 sa) mX6_readRow 16 0 0 [.ref 23] (mk w μ) (qV w [23009, 23010, 23011, 23012, 23013, 23015, 23016, 23017, 23018, 23019, 27999, 28999, 29999, 30999, 31999] μ (fun μ1 => Q μ1 ∧ True)) := by
  refine sC.of rfl (by decide) (le_t rfl) ?_
  refine mr_lvE (lv' := [(0, .ref 23)]) rfl ?_
  refine sv_aload_n (pc := 0) dX6_readRow_0 rfl rfl ?_
  refine gf_X6_0 (pc := 1) dX6_readRow_1 wF_X6_9 (A_23 hw) hT ?_
  refine sv_aload_n (pc := 4) dX6_readRow_4 rfl rfl ?_
  refine gf_X6_9 (pc := 5) dX6_readRow_5 wF_X6_63 (A_23 hw) hT fun z1 q2 h3 => ?_
  refine la_24 (pc := 8) dX6_readRow_8 (A_24 hw) hT (rIx (n := 1001) h3 rfl) fun z4 q5 h6 => ?_
  refine mr_if_eq (pc := 9) (tgt := 33) dX6_readRow_9 (by decide) h6 (fun h7 => ?_) (fun h7 => ?_)
  · have h8 : 0 ≤ z4 ∧ z4 ≤ 0 := (vc_X12_mask_1 h7 h6)
    refine sv_aload_n (pc := 33) dX6_readRow_33 rfl rfl ?_
    refine gf_X6_10 (pc := 34) dX6_readRow_34 wF_X6_44 (A_23 hw) hT fun z9 q10 h11 => ?_
    refine mr_bipush (pc := 37) (z := 30) dX6_readRow_37 (by decide) ?_
    refine mr_icmp_lt (pc := 39) (tgt := 48) dX6_readRow_39 (by decide) (r32 h11 rfl) (r32 (rR (x := 30)) rfl) (fun h12 => ?_) (fun h12 => ?_)
    · have h13 : 0 ≤ z9 ∧ z9 ≤ 29 := (vc_X11_right_W_20 h12 h11)
      refine sv_aload_n (pc := 48) dX6_readRow_48 rfl rfl ?_
      refine sv_dup (pc := 49) dX6_readRow_49 rfl ?_
      refine gk_X6_10 (pc := 50) dX6_readRow_50 wF_X6_44 (A_23 hw) q10 ?_
      refine mr_iconst (pc := 53) (z := 1) dX6_readRow_53 ?_
      refine mr_iadd (pc := 54) (x := z9) (y := 1) dX6_readRow_54 ?_
      refine pf_X6_10 (pc := 55) dX6_readRow_55 wF_X6_44 (A_23 hw) hT (rW (c := 0) (d := 30) (rAdd (e := 1) (f := 30) h13 (rR (x := 1)) rfl) rfl) fun μ14 u15 T16 => ?_
      refine sv_aload_n (pc := 58) dX6_readRow_58 rfl rfl ?_
      refine gf_X6_11 (pc := 59) dX6_readRow_59 wF_X6_47 (A_23 hw) T16 fun z17 q18 h19 => ?_
      refine mr_istore_n (pc := 62) (lv' := [(1, iv z17), (0, .ref 23)]) dX6_readRow_62 rfl (by decide) rfl ?_
      refine sv_aload_n (pc := 63) dX6_readRow_63 rfl rfl ?_
      refine mr_iconst (pc := 64) (z := 0) dX6_readRow_64 ?_
      refine mr_cVV (pc := 65) (c_X6_put_Wx hw T16 (rW (c := (-2147483648)) (d := 2147483647) (rR (x := 0)) rfl) (((((((hQ z1 q2 h3) z4 q5 h6).1 h7) z9 q10 h11).1 h12) μ14 u15 T16) z17 q18 h19)) (gOk _ _ _ _ _) dX6_readRow_65 (tX6_put _ _ _ _ _) ⟨wV_X6_put, wL_X6_put⟩ wM_X6_130 (gCX6 _ _ _ _ _) rfl (A_23 hw) rfl ⟨le_t rfl, le_t rfl⟩ ⟨le_t rfl, le_t rfl⟩ rfl (le_t rfl) fun μ20 T21 F22 h23 => ?_
      refine sv_aload_n (pc := 68) dX6_readRow_68 rfl rfl ?_
      refine mr_iconst (pc := 69) (z := 0) dX6_readRow_69 ?_
      refine mr_cVV (pc := 70) (c_X6_put_Wx hw T21 (rW (c := (-2147483648)) (d := 2147483647) (rR (x := 0)) rfl) (h23.1 T21 F22)) (gOk _ _ _ _ _) dX6_readRow_70 (tX6_put _ _ _ _ _) ⟨wV_X6_put, wL_X6_put⟩ wM_X6_130 (gCX6 _ _ _ _ _) rfl (A_23 hw) rfl ⟨le_t rfl, le_t rfl⟩ ⟨le_t rfl, le_t rfl⟩ rfl (le_t rfl) fun μ24 T25 F26 h27 => ?_
      refine sv_aload_n (pc := 73) dX6_readRow_73 rfl rfl ?_
      refine mr_iconst (pc := 74) (z := 0) dX6_readRow_74 ?_
      refine mr_cVI (pc := 75) (c_X6_take_Wx hw T25 (rW (c := (-2147483648)) (d := 2147483647) (rR (x := 0)) rfl) (h27.1 T25 F26)) (gOk _ _ _ _ _) dX6_readRow_75 (tX6_take _ _ _ _ _) ⟨wV_X6_take, wL_X6_take⟩ wM_X6_120 (gCX6 _ _ _ _ _) rfl (A_23 hw) rfl ⟨le_t rfl, le_t rfl⟩ ⟨le_t rfl, le_t rfl⟩ rfl (le_t rfl) fun z32 μ28 T29 F30 h31 => ?_
      refine mr_istore_n (pc := 78) (lv' := [(2, iv z32), (1, iv z17), (0, .ref 23)]) dX6_readRow_78 rfl (by decide) rfl ?_
      refine mr_iload_n (pc := 79) (z := z32) dX6_readRow_79 rfl rfl ?_
      refine mr_istore_n (pc := 80) (lv' := [(3, iv z32), (2, iv z32), (1, iv z17), (0, .ref 23)]) dX6_readRow_80 rfl (by decide) rfl ?_
      refine mr_iconst (pc := 81) (z := 0) dX6_readRow_81 ?_
      refine mr_istore (pc := 82) (lv' := [(4, iv 0), (3, iv z32), (2, iv z32), (1, iv z17), (0, .ref 23)]) dX6_readRow_82 (by decide) rfl ?_
      have L1876 : ∀ (nL1876 : Nat) (z1874 z1873 : Int) (μ1875 : mM), mT w μ1875 → mF [23009, 23011, 23012, 23013, 23015, 23016, 23017, 23018, 23019, 27999, 28999, 29999, 30999, 31999] w μ28 μ1875 → (0 ≤ z1874 ∧ z1874 ≤ 1) → (0 ≤ z1873 ∧ z1873 ≤ 1000) → (1001 - z1873) < (nL1876 : Int) → loopF (WL_X6_readRow_Wx_1 w Q z17 z32 μ28) False nL1876 (z1874, z1873, μ1875) → sV (gG l D c H0 sa) mX6_readRow (sRm 16 0 0) (sZ (gG l D c H0 sa) 0 0 (qV w [23009, 23010, 23011, 23012, 23013, 23015, 23016, 23017, 23018, 23019, 27999, 28999, 29999, 30999, 31999] μ (fun μ1 => Q μ1 ∧ True))) 84 [(0, .ref 23), (1, iv z17), (2, iv z32), (3, iv z1874), (4, iv z1873)] [] (mk w μ1875) 0 0 := by
        intro nL1876
        induction nL1876 with
        | zero => intro z1874 z1873 μ1875 T1879 F1880 h1877 h1878 h1882 W1883; exact ((vc_X1_doActs_W12_1 h1882 h1878)).elim
        | succ nL1876 ih1884 =>
          intro z1874 z1873 μ1875 T1879 F1880 h1877 h1878 h1882 W1883
          refine mr_iload (pc := 84) (z := z1873) dX6_readRow_84 rfl ?_
          refine mr_sipush (pc := 86) (z := 1000) dX6_readRow_86 (by decide) ?_
          have J1908 : ((WJ_X6_readRow_Wx_2 w Q z17 z32 μ1875) ) → sV (gG l D c H0 sa) mX6_readRow (sRm 16 0 0) (sZ (gG l D c H0 sa) 0 0 (qV w [23009, 23010, 23011, 23012, 23013, 23015, 23016, 23017, 23018, 23019, 27999, 28999, 29999, 30999, 31999] μ (fun μ1 => Q μ1 ∧ True))) 122 [(0, .ref 23), (1, iv z17), (2, iv z32)] [] (mk w μ1875) 0 0 := by
            intro W1909
            refine mr_iload_n (pc := 122) (z := z32) dX6_readRow_122 rfl rfl ?_
            have J1920 : ∀ (μ1916 : mM), (mT w μ1916) → (mF [23009, 23018, 23019] w μ1875 μ1916) → ((WJ_X6_readRow_Wx_3 w Q z17 μ1875) μ1916) → sV (gG l D c H0 sa) mX6_readRow (sRm 16 0 0) (sZ (gG l D c H0 sa) 0 0 (qV w [23009, 23010, 23011, 23012, 23013, 23015, 23016, 23017, 23018, 23019, 27999, 28999, 29999, 30999, 31999] μ (fun μ1 => Q μ1 ∧ True))) 131 [(0, .ref 23), (1, iv z17)] [] (mk w μ1916) 0 0 := by
              intro μ1916 T1917 F1918 W1921
              refine mr_iconst (pc := 131) (z := 1) dX6_readRow_131 ?_
              refine mr_istore_n (pc := 132) (lv' := [(3, iv 1), (0, .ref 23), (1, iv z17)]) dX6_readRow_132 rfl (by decide) rfl ?_
              refine mr_iconst (pc := 133) (z := 0) dX6_readRow_133 ?_
              refine mr_istore (pc := 134) (lv' := [(4, iv 0), (3, iv 1), (0, .ref 23), (1, iv z17)]) dX6_readRow_134 (by decide) rfl ?_
              have L2435 : ∀ (nL2435 : Nat) (z2433 z2432 : Int) (μ2434 : mM), mT w μ2434 → mF [23009, 23011, 23018, 23019, 27999] w μ1916 μ2434 → (0 ≤ z2433 ∧ z2433 ≤ 1) → (0 ≤ z2432 ∧ z2432 ≤ 1000) → (1001 - z2432) < (nL2435 : Int) → loopF (WL_X6_readRow_Wx_4 w Q z17 μ1916) False nL2435 (z2433, z2432, μ2434) → sV (gG l D c H0 sa) mX6_readRow (sRm 16 0 0) (sZ (gG l D c H0 sa) 0 0 (qV w [23009, 23010, 23011, 23012, 23013, 23015, 23016, 23017, 23018, 23019, 27999, 28999, 29999, 30999, 31999] μ (fun μ1 => Q μ1 ∧ True))) 136 [(0, .ref 23), (1, iv z17), (3, iv z2433), (4, iv z2432)] [] (mk w μ2434) 0 0 := by
                intro nL2435
                induction nL2435 with
                | zero => intro z2433 z2432 μ2434 T2438 F2439 h2436 h2437 h2441 W2442; exact ((vc_X1_doActs_W12_1 h2441 h2437)).elim
                | succ nL2435 ih2443 =>
                  intro z2433 z2432 μ2434 T2438 F2439 h2436 h2437 h2441 W2442
                  refine mr_iload (pc := 136) (z := z2432) dX6_readRow_136 rfl ?_
                  refine mr_sipush (pc := 138) (z := 1000) dX6_readRow_138 (by decide) ?_
                  refine mr_icmp_ge (pc := 141) (tgt := 178) dX6_readRow_141 (by decide) (r32 h2437 rfl) (r32 (rR (x := 1000)) rfl) (fun h2467 => ?_) (fun h2467 => ?_)
                  · have h2468 : 1000 ≤ z2432 ∧ z2432 ≤ 1000 := (vc_X6_putToken_v_1 h2467 h2437)
                    refine sv_aload_n (pc := 178) dX6_readRow_178 rfl rfl ?_
                    refine mr_sipush (pc := 179) (z := 1059) dX6_readRow_179 (by decide) ?_
                    refine mr_cVV (pc := 182) (c_X6_expect_Wx hw T2438 (rW (c := (-2147483648)) (d := 2147483647) (rR (x := 1059)) rfl) ((W2442 z2433 z2432 μ2434 rfl h2436 h2437 T2438 F2439).1 h2467)) (gOk _ _ _ _ _) dX6_readRow_182 (tX6_expect _ _ _ _ _) ⟨wV_X6_expect, wL_X6_expect⟩ wM_X6_136 (gCX6 _ _ _ _ _) rfl (A_23 hw) rfl ⟨le_t rfl, le_t rfl⟩ ⟨le_t rfl, le_t rfl⟩ rfl (le_t rfl) fun μ2469 T2470 F2471 h2472 => ?_
                    exact mr_vret dX6_readRow_185 rfl (le_t rfl) (le_t rfl) T2470 (mF.call (mF.call (mF.call (mF.call (mF.call (mF.call (mF.call (mF.up mF.refl (A_23 hw) u15 rfl) F22 rfl) F26 rfl) F30 rfl) F1880 rfl) F1918 rfl) F2439 rfl) F2471 rfl) ⟨(h2472.1 T2470 F2471), trivial⟩
                  have h2473 : 0 ≤ z2432 ∧ z2432 ≤ 999 := (vc_X6_putToken_v_4 h2467 h2437)
                  refine mr_iload_n (pc := 144) (z := z2433) dX6_readRow_144 rfl rfl ?_
                  refine mr_if_eq (pc := 145) (tgt := 178) dX6_readRow_145 (by decide) (r32 h2436 rfl) (fun h2495 => ?_) (fun h2495 => ?_)
                  · have h2496 : 0 ≤ z2433 ∧ z2433 ≤ 0 := (vc_X12_ring_22 h2495 h2436)
                    refine sv_aload_n (pc := 178) dX6_readRow_178 rfl rfl ?_
                    refine mr_sipush (pc := 179) (z := 1059) dX6_readRow_179 (by decide) ?_
                    refine mr_cVV (pc := 182) (c_X6_expect_Wx hw T2438 (rW (c := (-2147483648)) (d := 2147483647) (rR (x := 1059)) rfl) (((W2442 z2433 z2432 μ2434 rfl h2436 h2437 T2438 F2439).2 h2467).1 h2495)) (gOk _ _ _ _ _) dX6_readRow_182 (tX6_expect _ _ _ _ _) ⟨wV_X6_expect, wL_X6_expect⟩ wM_X6_136 (gCX6 _ _ _ _ _) rfl (A_23 hw) rfl ⟨le_t rfl, le_t rfl⟩ ⟨le_t rfl, le_t rfl⟩ rfl (le_t rfl) fun μ2497 T2498 F2499 h2500 => ?_
                    exact mr_vret dX6_readRow_185 rfl (le_t rfl) (le_t rfl) T2498 (mF.call (mF.call (mF.call (mF.call (mF.call (mF.call (mF.call (mF.up mF.refl (A_23 hw) u15 rfl) F22 rfl) F26 rfl) F30 rfl) F1880 rfl) F1918 rfl) F2439 rfl) F2499 rfl) ⟨(h2500.1 T2498 F2499), trivial⟩
                  have h2501 : 1 ≤ z2433 ∧ z2433 ≤ 1 := (vc_X12_ring_24 h2495 h2436)
                  refine sv_aload_n (pc := 148) dX6_readRow_148 rfl rfl ?_
                  refine mr_cVV (pc := 149) (c_X6_readAct_Wx hw T2438 (((W2442 z2433 z2432 μ2434 rfl h2436 h2437 T2438 F2439).2 h2467).2 h2495)) (gOk _ _ _ _ _) dX6_readRow_149 (tX6_readAct _ _ _ _ _) ⟨wV_X6_readAct, wL_X6_readAct⟩ wM_X6_139 (gCX6 _ _ _ _ _) rfl (A_23 hw) rfl ⟨le_t rfl, le_t rfl⟩ ⟨le_t rfl, le_t rfl⟩ rfl (le_t rfl) fun μ2502 T2503 F2504 h2505 => ?_
                  refine sv_aload_n (pc := 152) dX6_readRow_152 rfl rfl ?_
                  refine gf_X6_3 (pc := 153) dX6_readRow_153 wF_X6_21 (A_23 hw) T2503 ?_
                  refine mr_iload_n (pc := 156) (z := z17) dX6_readRow_156 rfl rfl ?_
                  refine mr_iconst (pc := 157) (z := 1) dX6_readRow_157 ?_
                  refine mr_iadd (pc := 158) (x := z17) (y := 1) dX6_readRow_158 ?_
                  refine sv_dup2 (pc := 159) dX6_readRow_159 rfl rfl ?_
                  have h2506 : (z17 + 1) < (2000 : Int) := (h2505.1 T2503 F2504).1
                  have h2507 : 0 ≤ z17 ∧ z17 ≤ 1998 := (vc_X6_readRow_Wx_9 h2506 h19)
                  refine la_27 (pc := 160) dX6_readRow_160 (A_27 hw) T2503 (rIx (n := 2000) (rAdd (e := 1) (f := 1999) h2507 (rR (x := 1)) rfl) rfl) fun z2508 q2509 h2510 => ?_
                  refine mr_iconst (pc := 161) (z := 1) dX6_readRow_161 ?_
                  refine mr_iadd (pc := 162) (x := z2508) (y := 1) dX6_readRow_162 ?_
                  refine mr_wrapF fun z2511 h2512 h2513 => ?_
                  refine ss_27 (pc := 163) dX6_readRow_163 (A_27 hw) T2503 (rIx (n := 2000) (rAdd (e := 1) (f := 1999) h2507 (rR (x := 1)) rfl) rfl) h2512 fun μ2514 u2515 T2516 => ?_
                  refine sv_aload_n (pc := 164) dX6_readRow_164 rfl rfl ?_
                  refine mr_sipush (pc := 165) (z := 1044) dX6_readRow_165 (by decide) ?_
                  refine mr_cVI (pc := 168) (c_X6_take_Wx hw T2516 (rW (c := (-2147483648)) (d := 2147483647) (rR (x := 1044)) rfl) (((((h2505.1 T2503 F2504).2 trivial) z2508 q2509 h2510) z2511 h2512 h2513) μ2514 u2515 T2516)) (gOk _ _ _ _ _) dX6_readRow_168 (tX6_take _ _ _ _ _) ⟨wV_X6_take, wL_X6_take⟩ wM_X6_120 (gCX6 _ _ _ _ _) rfl (A_23 hw) rfl ⟨le_t rfl, le_t rfl⟩ ⟨le_t rfl, le_t rfl⟩ rfl (le_t rfl) fun z2521 μ2517 T2518 F2519 h2520 => ?_
                  refine mr_istore_n (pc := 171) (lv' := [(3, iv z2521), (0, .ref 23), (1, iv z17), (4, iv z2432)]) dX6_readRow_171 rfl (by decide) rfl ?_
                  refine mr_iinc (pc := 172) (lv' := [(4, iv (z2432 + 1)), (3, iv z2521), (0, .ref 23), (1, iv z17)]) dX6_readRow_172 rfl (by decide) rfl ?_
                  refine sv_goto (pc := 175) (tgt := 136) dX6_readRow_175 (by decide) ?_
                  refine mr_lvS (lv' := [(0, .ref 23), (1, iv z17), (3, iv z2521), (4, iv (z2432 + 1))]) (List.forall_mem_cons.mpr ⟨rfl, List.forall_mem_cons.mpr ⟨rfl, List.forall_mem_cons.mpr ⟨rfl, List.forall_mem_cons.mpr ⟨rfl, fun _ h => absurd h List.not_mem_nil⟩⟩⟩⟩) ?_
                  exact ih2443 z2521 (z2432 + 1) μ2517 T2518 (mF.call (mF.up (mF.call (mF.call mF.refl F2439 rfl) F2504 rfl) (A_27 hw) u2515 rfl) F2519 rfl) h2520.1 (rW (c := 0) (d := 1000) (rAdd (e := 1) (f := 1000) h2473 (rR (x := 1)) rfl) rfl) (vc_X6_readTest_Wx_21 (nS h2441) h2467 h2473) ((h2520.2.1 T2518 F2519) h2520.1)
              refine mr_lvS (lv' := [(0, .ref 23), (1, iv z17), (3, iv 1), (4, iv 0)]) (List.forall_mem_cons.mpr ⟨rfl, List.forall_mem_cons.mpr ⟨rfl, List.forall_mem_cons.mpr ⟨rfl, List.forall_mem_cons.mpr ⟨rfl, fun _ h => absurd h List.not_mem_nil⟩⟩⟩⟩) ?_
              exact L2435 1002 1 0 μ1916 T1917 mF.refl (rW (c := 0) (d := 1) (rR (x := 1)) rfl) (rW (c := 0) (d := 1000) (rR (x := 0)) rfl) vc_X6_split_v_102 (W1921 T1917 F1918)
            refine mr_if_eq (pc := 123) (tgt := 131) dX6_readRow_123 (by decide) (r32 h31.1 rfl) (fun h2522 => ?_) (fun h2522 => ?_)
            · have h2523 : 0 ≤ z32 ∧ z32 ≤ 0 := (vc_X12_ring_22 h2522 h31.1)
              refine mr_lvS (lv' := [(0, .ref 23), (1, iv z17)]) (List.forall_mem_cons.mpr ⟨rfl, List.forall_mem_cons.mpr ⟨rfl, fun _ h => absurd h List.not_mem_nil⟩⟩) ?_
              exact J1920 μ1875 T1879 mF.refl ((W1909).1 h2522)
            have h2524 : 1 ≤ z32 ∧ z32 ≤ 1 := (vc_X12_ring_24 h2522 h31.1)
            refine sv_aload_n (pc := 126) dX6_readRow_126 rfl rfl ?_
            refine mr_iconst (pc := 127) (z := 2) dX6_readRow_127 ?_
            refine mr_cVV (pc := 128) (c_X6_expect_Wx hw T1879 (rW (c := (-2147483648)) (d := 2147483647) (rR (x := 2)) rfl) ((W1909).2 h2522)) (gOk _ _ _ _ _) dX6_readRow_128 (tX6_expect _ _ _ _ _) ⟨wV_X6_expect, wL_X6_expect⟩ wM_X6_136 (gCX6 _ _ _ _ _) rfl (A_23 hw) rfl ⟨le_t rfl, le_t rfl⟩ ⟨le_t rfl, le_t rfl⟩ rfl (le_t rfl) fun μ2525 T2526 F2527 h2528 => ?_
            refine mr_lvS (lv' := [(0, .ref 23), (1, iv z17)]) (List.forall_mem_cons.mpr ⟨rfl, List.forall_mem_cons.mpr ⟨rfl, fun _ h => absurd h List.not_mem_nil⟩⟩) ?_
            exact J1920 μ2525 T2526 (mF.call mF.refl F2527 rfl) (h2528.1 T2526 F2527)
          refine mr_icmp_ge (pc := 89) (tgt := 122) dX6_readRow_89 (by decide) (r32 h1878 rfl) (r32 (rR (x := 1000)) rfl) (fun h2529 => ?_) (fun h2529 => ?_)
          · have h2530 : 1000 ≤ z1873 ∧ z1873 ≤ 1000 := (vc_X6_putToken_v_1 h2529 h1878)
            refine mr_lvS (lv' := [(0, .ref 23), (1, iv z17), (2, iv z32)]) (List.forall_mem_cons.mpr ⟨rfl, List.forall_mem_cons.mpr ⟨rfl, List.forall_mem_cons.mpr ⟨rfl, fun _ h => absurd h List.not_mem_nil⟩⟩⟩) ?_
            exact J1908 ((W1883 z1874 z1873 μ1875 rfl h1877 h1878 T1879 F1880).1 h2529)
          have h2531 : 0 ≤ z1873 ∧ z1873 ≤ 999 := (vc_X6_putToken_v_4 h2529 h1878)
          refine mr_iload_n (pc := 92) (z := z1874) dX6_readRow_92 rfl rfl ?_
          refine mr_if_eq (pc := 93) (tgt := 122) dX6_readRow_93 (by decide) (r32 h1877 rfl) (fun h2532 => ?_) (fun h2532 => ?_)
          · have h2533 : 0 ≤ z1874 ∧ z1874 ≤ 0 := (vc_X12_ring_22 h2532 h1877)
            refine mr_lvS (lv' := [(0, .ref 23), (1, iv z17), (2, iv z32)]) (List.forall_mem_cons.mpr ⟨rfl, List.forall_mem_cons.mpr ⟨rfl, List.forall_mem_cons.mpr ⟨rfl, fun _ h => absurd h List.not_mem_nil⟩⟩⟩) ?_
            exact J1908 (((W1883 z1874 z1873 μ1875 rfl h1877 h1878 T1879 F1880).2 h2529).1 h2532)
          have h2534 : 1 ≤ z1874 ∧ z1874 ≤ 1 := (vc_X12_ring_24 h2532 h1877)
          refine sv_aload_n (pc := 96) dX6_readRow_96 rfl rfl ?_
          refine mr_cVV (pc := 97) (c_X6_readTest_Wx hw T1879 (((W1883 z1874 z1873 μ1875 rfl h1877 h1878 T1879 F1880).2 h2529).2 h2532)) (gOk _ _ _ _ _) dX6_readRow_97 (tX6_readTest _ _ _ _ _) ⟨wV_X6_readTest, wL_X6_readTest⟩ wM_X6_133 (gCX6 _ _ _ _ _) rfl (A_23 hw) rfl ⟨le_t rfl, le_t rfl⟩ ⟨le_t rfl, le_t rfl⟩ rfl (le_t rfl) fun μ2535 T2536 F2537 h2538 => ?_
          refine sv_aload_n (pc := 100) dX6_readRow_100 rfl rfl ?_
          refine gf_X6_3 (pc := 101) dX6_readRow_101 wF_X6_21 (A_23 hw) T2536 ?_
          refine mr_iload_n (pc := 104) (z := z17) dX6_readRow_104 rfl rfl ?_
          refine sv_dup2 (pc := 105) dX6_readRow_105 rfl rfl ?_
          have h2539 : z17 < (2000 : Int) := (h2538.1 T2536 F2537).1
          have h2540 : 0 ≤ z17 ∧ z17 ≤ 1999 := (vc_X6_put_Wx_2 h2539 h19)
          refine la_27 (pc := 106) dX6_readRow_106 (A_27 hw) T2536 (rIx (n := 2000) h2540 rfl) fun z2541 q2542 h2543 => ?_
          refine mr_iconst (pc := 107) (z := 1) dX6_readRow_107 ?_
          refine mr_iadd (pc := 108) (x := z2541) (y := 1) dX6_readRow_108 ?_
          refine mr_wrapF fun z2544 h2545 h2546 => ?_
          refine ss_27 (pc := 109) dX6_readRow_109 (A_27 hw) T2536 (rIx (n := 2000) h2540 rfl) h2545 fun μ2547 u2548 T2549 => ?_
          refine sv_aload_n (pc := 110) dX6_readRow_110 rfl rfl ?_
          refine mr_iconst (pc := 111) (z := 1) dX6_readRow_111 ?_
          refine mr_cVI (pc := 112) (c_X6_take_Wx hw T2549 (rW (c := (-2147483648)) (d := 2147483647) (rR (x := 1)) rfl) (((((h2538.1 T2536 F2537).2 trivial) z2541 q2542 h2543) z2544 h2545 h2546) μ2547 u2548 T2549)) (gOk _ _ _ _ _) dX6_readRow_112 (tX6_take _ _ _ _ _) ⟨wV_X6_take, wL_X6_take⟩ wM_X6_120 (gCX6 _ _ _ _ _) rfl (A_23 hw) rfl ⟨le_t rfl, le_t rfl⟩ ⟨le_t rfl, le_t rfl⟩ rfl (le_t rfl) fun z2554 μ2550 T2551 F2552 h2553 => ?_
          refine mr_istore_n (pc := 115) (lv' := [(3, iv z2554), (0, .ref 23), (1, iv z17), (2, iv z32), (4, iv z1873)]) dX6_readRow_115 rfl (by decide) rfl ?_
          refine mr_iinc (pc := 116) (lv' := [(4, iv (z1873 + 1)), (3, iv z2554), (0, .ref 23), (1, iv z17), (2, iv z32)]) dX6_readRow_116 rfl (by decide) rfl ?_
          refine sv_goto (pc := 119) (tgt := 84) dX6_readRow_119 (by decide) ?_
          refine mr_lvS (lv' := [(0, .ref 23), (1, iv z17), (2, iv z32), (3, iv z2554), (4, iv (z1873 + 1))]) (List.forall_mem_cons.mpr ⟨rfl, List.forall_mem_cons.mpr ⟨rfl, List.forall_mem_cons.mpr ⟨rfl, List.forall_mem_cons.mpr ⟨rfl, List.forall_mem_cons.mpr ⟨rfl, fun _ h => absurd h List.not_mem_nil⟩⟩⟩⟩⟩) ?_
          exact ih1884 z2554 (z1873 + 1) μ2550 T2551 (mF.call (mF.up (mF.call (mF.call mF.refl F1880 rfl) F2537 rfl) (A_27 hw) u2548 rfl) F2552 rfl) h2553.1 (rW (c := 0) (d := 1000) (rAdd (e := 1) (f := 1000) h2531 (rR (x := 1)) rfl) rfl) (vc_X6_readTest_Wx_21 (nS h1882) h2529 h2531) ((h2553.2.1 T2551 F2552) h2553.1)
      refine mr_lvS (lv' := [(0, .ref 23), (1, iv z17), (2, iv z32), (3, iv z32), (4, iv 0)]) (List.forall_mem_cons.mpr ⟨rfl, List.forall_mem_cons.mpr ⟨rfl, List.forall_mem_cons.mpr ⟨rfl, List.forall_mem_cons.mpr ⟨rfl, List.forall_mem_cons.mpr ⟨rfl, fun _ h => absurd h List.not_mem_nil⟩⟩⟩⟩⟩) ?_
      exact L1876 1002 z32 0 μ28 T29 mF.refl h31.1 (rW (c := 0) (d := 1000) (rR (x := 0)) rfl) vc_X6_split_v_102 ((h31.2.1 T29 F30) h31.1)
    have h2555 : 30 ≤ z9 ∧ z9 ≤ 30 := (vc_X11_right_W_22 h12 h11)
    refine sv_aload_n (pc := 42) dX6_readRow_42 rfl rfl ?_
    refine mr_iconst (pc := 43) (z := 4) dX6_readRow_43 ?_
    refine mr_cVV (pc := 44) (c_X6_fail_Wx hw hT (rW (c := 1) (d := 4) (rR (x := 4)) rfl) (((((hQ z1 q2 h3) z4 q5 h6).1 h7) z9 q10 h11).2 h12)) (gOk _ _ _ _ _) dX6_readRow_44 (tX6_fail _ _ _ _ _) ⟨wV_X6_fail, wL_X6_fail⟩ wM_X6_123 (gCX6 _ _ _ _ _) rfl (A_23 hw) rfl ⟨le_t rfl, le_t rfl⟩ ⟨le_t rfl, le_t rfl⟩ rfl (le_t rfl) fun μ2556 T2557 F2558 h2559 => ?_
    exact mr_vret dX6_readRow_47 rfl (le_t rfl) (le_t rfl) T2557 (mF.call mF.refl F2558 rfl) ⟨(h2559.1 T2557 F2558), trivial⟩
  refine sv_aload_n (pc := 12) dX6_readRow_12 rfl rfl ?_
  refine gf_X6_0 (pc := 13) dX6_readRow_13 wF_X6_9 (A_23 hw) hT ?_
  refine sv_aload_n (pc := 16) dX6_readRow_16 rfl rfl ?_
  refine gk_X6_9 (pc := 17) dX6_readRow_17 wF_X6_63 (A_23 hw) q2 ?_
  refine lk_24 (pc := 20) dX6_readRow_20 (A_24 hw) (rIx (n := 1001) h3 rfl) q5 ?_
  refine mr_cSP (pc := 21) (c_X6_isAct_Wx hw hT h6 (((hQ z1 q2 h3) z4 q5 h6).2 h7)) (gOk _ _ _ _ _) dX6_readRow_21 (tX6_isAct _ _ _ _ _) wS_X6_isAct wM_X6_127 ⟨le_t rfl, le_t rfl⟩ ⟨le_t rfl, le_t rfl⟩ rfl (le_t rfl) fun z2564 h2563 => ?_
  refine mr_if_ne (pc := 24) (tgt := 33) dX6_readRow_24 (by decide) (r32 h2563.1 rfl) (fun h2565 => ?_) (fun h2565 => ?_)
  · have h2566 : 1 ≤ z2564 ∧ z2564 ≤ 1 := (vc_X12_ring_24 h2565 h2563.1)
    refine sv_aload_n (pc := 33) dX6_readRow_33 rfl rfl ?_
    refine gf_X6_10 (pc := 34) dX6_readRow_34 wF_X6_44 (A_23 hw) hT fun z2567 q2568 h2569 => ?_
    refine mr_bipush (pc := 37) (z := 30) dX6_readRow_37 (by decide) ?_
    refine mr_icmp_lt (pc := 39) (tgt := 48) dX6_readRow_39 (by decide) (r32 h2569 rfl) (r32 (rR (x := 30)) rfl) (fun h2570 => ?_) (fun h2570 => ?_)
    · have h2571 : 0 ≤ z2567 ∧ z2567 ≤ 29 := (vc_X11_right_W_20 h2570 h2569)
      refine sv_aload_n (pc := 48) dX6_readRow_48 rfl rfl ?_
      refine sv_dup (pc := 49) dX6_readRow_49 rfl ?_
      refine gk_X6_10 (pc := 50) dX6_readRow_50 wF_X6_44 (A_23 hw) q2568 ?_
      refine mr_iconst (pc := 53) (z := 1) dX6_readRow_53 ?_
      refine mr_iadd (pc := 54) (x := z2567) (y := 1) dX6_readRow_54 ?_
      refine pf_X6_10 (pc := 55) dX6_readRow_55 wF_X6_44 (A_23 hw) hT (rW (c := 0) (d := 30) (rAdd (e := 1) (f := 30) h2571 (rR (x := 1)) rfl) rfl) fun μ2572 u2573 T2574 => ?_
      refine sv_aload_n (pc := 58) dX6_readRow_58 rfl rfl ?_
      refine gf_X6_11 (pc := 59) dX6_readRow_59 wF_X6_47 (A_23 hw) T2574 fun z2575 q2576 h2577 => ?_
      refine mr_istore_n (pc := 62) (lv' := [(1, iv z2575), (0, .ref 23)]) dX6_readRow_62 rfl (by decide) rfl ?_
      refine sv_aload_n (pc := 63) dX6_readRow_63 rfl rfl ?_
      refine mr_iconst (pc := 64) (z := 0) dX6_readRow_64 ?_
      refine mr_cVV (pc := 65) (c_X6_put_Wx hw T2574 (rW (c := (-2147483648)) (d := 2147483647) (rR (x := 0)) rfl) ((((((h2563.2.1 h2563.1).1 h2565) z2567 q2568 h2569).1 h2570) μ2572 u2573 T2574) z2575 q2576 h2577)) (gOk _ _ _ _ _) dX6_readRow_65 (tX6_put _ _ _ _ _) ⟨wV_X6_put, wL_X6_put⟩ wM_X6_130 (gCX6 _ _ _ _ _) rfl (A_23 hw) rfl ⟨le_t rfl, le_t rfl⟩ ⟨le_t rfl, le_t rfl⟩ rfl (le_t rfl) fun μ2578 T2579 F2580 h2581 => ?_
      refine sv_aload_n (pc := 68) dX6_readRow_68 rfl rfl ?_
      refine mr_iconst (pc := 69) (z := 0) dX6_readRow_69 ?_
      refine mr_cVV (pc := 70) (c_X6_put_Wx hw T2579 (rW (c := (-2147483648)) (d := 2147483647) (rR (x := 0)) rfl) (h2581.1 T2579 F2580)) (gOk _ _ _ _ _) dX6_readRow_70 (tX6_put _ _ _ _ _) ⟨wV_X6_put, wL_X6_put⟩ wM_X6_130 (gCX6 _ _ _ _ _) rfl (A_23 hw) rfl ⟨le_t rfl, le_t rfl⟩ ⟨le_t rfl, le_t rfl⟩ rfl (le_t rfl) fun μ2582 T2583 F2584 h2585 => ?_
      refine sv_aload_n (pc := 73) dX6_readRow_73 rfl rfl ?_
      refine mr_iconst (pc := 74) (z := 0) dX6_readRow_74 ?_
      refine mr_cVI (pc := 75) (c_X6_take_Wx hw T2583 (rW (c := (-2147483648)) (d := 2147483647) (rR (x := 0)) rfl) (h2585.1 T2583 F2584)) (gOk _ _ _ _ _) dX6_readRow_75 (tX6_take _ _ _ _ _) ⟨wV_X6_take, wL_X6_take⟩ wM_X6_120 (gCX6 _ _ _ _ _) rfl (A_23 hw) rfl ⟨le_t rfl, le_t rfl⟩ ⟨le_t rfl, le_t rfl⟩ rfl (le_t rfl) fun z2590 μ2586 T2587 F2588 h2589 => ?_
      refine mr_istore_n (pc := 78) (lv' := [(2, iv z2590), (1, iv z2575), (0, .ref 23)]) dX6_readRow_78 rfl (by decide) rfl ?_
      refine mr_iload_n (pc := 79) (z := z2590) dX6_readRow_79 rfl rfl ?_
      refine mr_istore_n (pc := 80) (lv' := [(3, iv z2590), (2, iv z2590), (1, iv z2575), (0, .ref 23)]) dX6_readRow_80 rfl (by decide) rfl ?_
      refine mr_iconst (pc := 81) (z := 0) dX6_readRow_81 ?_
      refine mr_istore (pc := 82) (lv' := [(4, iv 0), (3, iv z2590), (2, iv z2590), (1, iv z2575), (0, .ref 23)]) dX6_readRow_82 (by decide) rfl ?_
      have L4434 : ∀ (nL4434 : Nat) (z4432 z4431 : Int) (μ4433 : mM), mT w μ4433 → mF [23009, 23011, 23012, 23013, 23015, 23016, 23017, 23018, 23019, 27999, 28999, 29999, 30999, 31999] w μ2586 μ4433 → (0 ≤ z4432 ∧ z4432 ≤ 1) → (0 ≤ z4431 ∧ z4431 ≤ 1000) → (1001 - z4431) < (nL4434 : Int) → loopF (WL_X6_readRow_Wx_5 w Q z2575 z2590 μ2586) False nL4434 (z4432, z4431, μ4433) → sV (gG l D c H0 sa) mX6_readRow (sRm 16 0 0) (sZ (gG l D c H0 sa) 0 0 (qV w [23009, 23010, 23011, 23012, 23013, 23015, 23016, 23017, 23018, 23019, 27999, 28999, 29999, 30999, 31999] μ (fun μ1 => Q μ1 ∧ True))) 84 [(0, .ref 23), (1, iv z2575), (2, iv z2590), (3, iv z4432), (4, iv z4431)] [] (mk w μ4433) 0 0 := by
        intro nL4434
        induction nL4434 with
        | zero => intro z4432 z4431 μ4433 T4437 F4438 h4435 h4436 h4440 W4441; exact ((vc_X1_doActs_W12_1 h4440 h4436)).elim
        | succ nL4434 ih4442 =>
          intro z4432 z4431 μ4433 T4437 F4438 h4435 h4436 h4440 W4441
          refine mr_iload (pc := 84) (z := z4431) dX6_readRow_84 rfl ?_
          refine mr_sipush (pc := 86) (z := 1000) dX6_readRow_86 (by decide) ?_
          have J4466 : ((WJ_X6_readRow_Wx_6 w Q z2575 z2590 μ4433) ) → sV (gG l D c H0 sa) mX6_readRow (sRm 16 0 0) (sZ (gG l D c H0 sa) 0 0 (qV w [23009, 23010, 23011, 23012, 23013, 23015, 23016, 23017, 23018, 23019, 27999, 28999, 29999, 30999, 31999] μ (fun μ1 => Q μ1 ∧ True))) 122 [(0, .ref 23), (1, iv z2575), (2, iv z2590)] [] (mk w μ4433) 0 0 := by
            intro W4467
            refine mr_iload_n (pc := 122) (z := z2590) dX6_readRow_122 rfl rfl ?_
            have J4478 : ∀ (μ4474 : mM), (mT w μ4474) → (mF [23009, 23018, 23019] w μ4433 μ4474) → ((WJ_X6_readRow_Wx_7 w Q z2575 μ4433) μ4474) → sV (gG l D c H0 sa) mX6_readRow (sRm 16 0 0) (sZ (gG l D c H0 sa) 0 0 (qV w [23009, 23010, 23011, 23012, 23013, 23015, 23016, 23017, 23018, 23019, 27999, 28999, 29999, 30999, 31999] μ (fun μ1 => Q μ1 ∧ True))) 131 [(0, .ref 23), (1, iv z2575)] [] (mk w μ4474) 0 0 := by
              intro μ4474 T4475 F4476 W4479
              refine mr_iconst (pc := 131) (z := 1) dX6_readRow_131 ?_
              refine mr_istore_n (pc := 132) (lv' := [(3, iv 1), (0, .ref 23), (1, iv z2575)]) dX6_readRow_132 rfl (by decide) rfl ?_
              refine mr_iconst (pc := 133) (z := 0) dX6_readRow_133 ?_
              refine mr_istore (pc := 134) (lv' := [(4, iv 0), (3, iv 1), (0, .ref 23), (1, iv z2575)]) dX6_readRow_134 (by decide) rfl ?_
              have L4993 : ∀ (nL4993 : Nat) (z4991 z4990 : Int) (μ4992 : mM), mT w μ4992 → mF [23009, 23011, 23018, 23019, 27999] w μ4474 μ4992 → (0 ≤ z4991 ∧ z4991 ≤ 1) → (0 ≤ z4990 ∧ z4990 ≤ 1000) → (1001 - z4990) < (nL4993 : Int) → loopF (WL_X6_readRow_Wx_8 w Q z2575 μ4474) False nL4993 (z4991, z4990, μ4992) → sV (gG l D c H0 sa) mX6_readRow (sRm 16 0 0) (sZ (gG l D c H0 sa) 0 0 (qV w [23009, 23010, 23011, 23012, 23013, 23015, 23016, 23017, 23018, 23019, 27999, 28999, 29999, 30999, 31999] μ (fun μ1 => Q μ1 ∧ True))) 136 [(0, .ref 23), (1, iv z2575), (3, iv z4991), (4, iv z4990)] [] (mk w μ4992) 0 0 := by
                intro nL4993
                induction nL4993 with
                | zero => intro z4991 z4990 μ4992 T4996 F4997 h4994 h4995 h4999 W5000; exact ((vc_X1_doActs_W12_1 h4999 h4995)).elim
                | succ nL4993 ih5001 =>
                  intro z4991 z4990 μ4992 T4996 F4997 h4994 h4995 h4999 W5000
                  refine mr_iload (pc := 136) (z := z4990) dX6_readRow_136 rfl ?_
                  refine mr_sipush (pc := 138) (z := 1000) dX6_readRow_138 (by decide) ?_
                  refine mr_icmp_ge (pc := 141) (tgt := 178) dX6_readRow_141 (by decide) (r32 h4995 rfl) (r32 (rR (x := 1000)) rfl) (fun h5025 => ?_) (fun h5025 => ?_)
                  · have h5026 : 1000 ≤ z4990 ∧ z4990 ≤ 1000 := (vc_X6_putToken_v_1 h5025 h4995)
                    refine sv_aload_n (pc := 178) dX6_readRow_178 rfl rfl ?_
                    refine mr_sipush (pc := 179) (z := 1059) dX6_readRow_179 (by decide) ?_
                    refine mr_cVV (pc := 182) (c_X6_expect_Wx hw T4996 (rW (c := (-2147483648)) (d := 2147483647) (rR (x := 1059)) rfl) ((W5000 z4991 z4990 μ4992 rfl h4994 h4995 T4996 F4997).1 h5025)) (gOk _ _ _ _ _) dX6_readRow_182 (tX6_expect _ _ _ _ _) ⟨wV_X6_expect, wL_X6_expect⟩ wM_X6_136 (gCX6 _ _ _ _ _) rfl (A_23 hw) rfl ⟨le_t rfl, le_t rfl⟩ ⟨le_t rfl, le_t rfl⟩ rfl (le_t rfl) fun μ5027 T5028 F5029 h5030 => ?_
                    exact mr_vret dX6_readRow_185 rfl (le_t rfl) (le_t rfl) T5028 (mF.call (mF.call (mF.call (mF.call (mF.call (mF.call (mF.call (mF.up mF.refl (A_23 hw) u2573 rfl) F2580 rfl) F2584 rfl) F2588 rfl) F4438 rfl) F4476 rfl) F4997 rfl) F5029 rfl) ⟨(h5030.1 T5028 F5029), trivial⟩
                  have h5031 : 0 ≤ z4990 ∧ z4990 ≤ 999 := (vc_X6_putToken_v_4 h5025 h4995)
                  refine mr_iload_n (pc := 144) (z := z4991) dX6_readRow_144 rfl rfl ?_
                  refine mr_if_eq (pc := 145) (tgt := 178) dX6_readRow_145 (by decide) (r32 h4994 rfl) (fun h5053 => ?_) (fun h5053 => ?_)
                  · have h5054 : 0 ≤ z4991 ∧ z4991 ≤ 0 := (vc_X12_ring_22 h5053 h4994)
                    refine sv_aload_n (pc := 178) dX6_readRow_178 rfl rfl ?_
                    refine mr_sipush (pc := 179) (z := 1059) dX6_readRow_179 (by decide) ?_
                    refine mr_cVV (pc := 182) (c_X6_expect_Wx hw T4996 (rW (c := (-2147483648)) (d := 2147483647) (rR (x := 1059)) rfl) (((W5000 z4991 z4990 μ4992 rfl h4994 h4995 T4996 F4997).2 h5025).1 h5053)) (gOk _ _ _ _ _) dX6_readRow_182 (tX6_expect _ _ _ _ _) ⟨wV_X6_expect, wL_X6_expect⟩ wM_X6_136 (gCX6 _ _ _ _ _) rfl (A_23 hw) rfl ⟨le_t rfl, le_t rfl⟩ ⟨le_t rfl, le_t rfl⟩ rfl (le_t rfl) fun μ5055 T5056 F5057 h5058 => ?_
                    exact mr_vret dX6_readRow_185 rfl (le_t rfl) (le_t rfl) T5056 (mF.call (mF.call (mF.call (mF.call (mF.call (mF.call (mF.call (mF.up mF.refl (A_23 hw) u2573 rfl) F2580 rfl) F2584 rfl) F2588 rfl) F4438 rfl) F4476 rfl) F4997 rfl) F5057 rfl) ⟨(h5058.1 T5056 F5057), trivial⟩
                  have h5059 : 1 ≤ z4991 ∧ z4991 ≤ 1 := (vc_X12_ring_24 h5053 h4994)
                  refine sv_aload_n (pc := 148) dX6_readRow_148 rfl rfl ?_
                  refine mr_cVV (pc := 149) (c_X6_readAct_Wx hw T4996 (((W5000 z4991 z4990 μ4992 rfl h4994 h4995 T4996 F4997).2 h5025).2 h5053)) (gOk _ _ _ _ _) dX6_readRow_149 (tX6_readAct _ _ _ _ _) ⟨wV_X6_readAct, wL_X6_readAct⟩ wM_X6_139 (gCX6 _ _ _ _ _) rfl (A_23 hw) rfl ⟨le_t rfl, le_t rfl⟩ ⟨le_t rfl, le_t rfl⟩ rfl (le_t rfl) fun μ5060 T5061 F5062 h5063 => ?_
                  refine sv_aload_n (pc := 152) dX6_readRow_152 rfl rfl ?_
                  refine gf_X6_3 (pc := 153) dX6_readRow_153 wF_X6_21 (A_23 hw) T5061 ?_
                  refine mr_iload_n (pc := 156) (z := z2575) dX6_readRow_156 rfl rfl ?_
                  refine mr_iconst (pc := 157) (z := 1) dX6_readRow_157 ?_
                  refine mr_iadd (pc := 158) (x := z2575) (y := 1) dX6_readRow_158 ?_
                  refine sv_dup2 (pc := 159) dX6_readRow_159 rfl rfl ?_
                  have h5064 : (z2575 + 1) < (2000 : Int) := (h5063.1 T5061 F5062).1
                  have h5065 : 0 ≤ z2575 ∧ z2575 ≤ 1998 := (vc_X6_readRow_Wx_9 h5064 h2577)
                  refine la_27 (pc := 160) dX6_readRow_160 (A_27 hw) T5061 (rIx (n := 2000) (rAdd (e := 1) (f := 1999) h5065 (rR (x := 1)) rfl) rfl) fun z5066 q5067 h5068 => ?_
                  refine mr_iconst (pc := 161) (z := 1) dX6_readRow_161 ?_
                  refine mr_iadd (pc := 162) (x := z5066) (y := 1) dX6_readRow_162 ?_
                  refine mr_wrapF fun z5069 h5070 h5071 => ?_
                  refine ss_27 (pc := 163) dX6_readRow_163 (A_27 hw) T5061 (rIx (n := 2000) (rAdd (e := 1) (f := 1999) h5065 (rR (x := 1)) rfl) rfl) h5070 fun μ5072 u5073 T5074 => ?_
                  refine sv_aload_n (pc := 164) dX6_readRow_164 rfl rfl ?_
                  refine mr_sipush (pc := 165) (z := 1044) dX6_readRow_165 (by decide) ?_
                  refine mr_cVI (pc := 168) (c_X6_take_Wx hw T5074 (rW (c := (-2147483648)) (d := 2147483647) (rR (x := 1044)) rfl) (((((h5063.1 T5061 F5062).2 trivial) z5066 q5067 h5068) z5069 h5070 h5071) μ5072 u5073 T5074)) (gOk _ _ _ _ _) dX6_readRow_168 (tX6_take _ _ _ _ _) ⟨wV_X6_take, wL_X6_take⟩ wM_X6_120 (gCX6 _ _ _ _ _) rfl (A_23 hw) rfl ⟨le_t rfl, le_t rfl⟩ ⟨le_t rfl, le_t rfl⟩ rfl (le_t rfl) fun z5079 μ5075 T5076 F5077 h5078 => ?_
                  refine mr_istore_n (pc := 171) (lv' := [(3, iv z5079), (0, .ref 23), (1, iv z2575), (4, iv z4990)]) dX6_readRow_171 rfl (by decide) rfl ?_
                  refine mr_iinc (pc := 172) (lv' := [(4, iv (z4990 + 1)), (3, iv z5079), (0, .ref 23), (1, iv z2575)]) dX6_readRow_172 rfl (by decide) rfl ?_
                  refine sv_goto (pc := 175) (tgt := 136) dX6_readRow_175 (by decide) ?_
                  refine mr_lvS (lv' := [(0, .ref 23), (1, iv z2575), (3, iv z5079), (4, iv (z4990 + 1))]) (List.forall_mem_cons.mpr ⟨rfl, List.forall_mem_cons.mpr ⟨rfl, List.forall_mem_cons.mpr ⟨rfl, List.forall_mem_cons.mpr ⟨rfl, fun _ h => absurd h List.not_mem_nil⟩⟩⟩⟩) ?_
                  exact ih5001 z5079 (z4990 + 1) μ5075 T5076 (mF.call (mF.up (mF.call (mF.call mF.refl F4997 rfl) F5062 rfl) (A_27 hw) u5073 rfl) F5077 rfl) h5078.1 (rW (c := 0) (d := 1000) (rAdd (e := 1) (f := 1000) h5031 (rR (x := 1)) rfl) rfl) (vc_X6_readTest_Wx_21 (nS h4999) h5025 h5031) ((h5078.2.1 T5076 F5077) h5078.1)
              refine mr_lvS (lv' := [(0, .ref 23), (1, iv z2575), (3, iv 1), (4, iv 0)]) (List.forall_mem_cons.mpr ⟨rfl, List.forall_mem_cons.mpr ⟨rfl, List.forall_mem_cons.mpr ⟨rfl, List.forall_mem_cons.mpr ⟨rfl, fun _ h => absurd h List.not_mem_nil⟩⟩⟩⟩) ?_
              exact L4993 1002 1 0 μ4474 T4475 mF.refl (rW (c := 0) (d := 1) (rR (x := 1)) rfl) (rW (c := 0) (d := 1000) (rR (x := 0)) rfl) vc_X6_split_v_102 (W4479 T4475 F4476)
            refine mr_if_eq (pc := 123) (tgt := 131) dX6_readRow_123 (by decide) (r32 h2589.1 rfl) (fun h5080 => ?_) (fun h5080 => ?_)
            · have h5081 : 0 ≤ z2590 ∧ z2590 ≤ 0 := (vc_X12_ring_22 h5080 h2589.1)
              refine mr_lvS (lv' := [(0, .ref 23), (1, iv z2575)]) (List.forall_mem_cons.mpr ⟨rfl, List.forall_mem_cons.mpr ⟨rfl, fun _ h => absurd h List.not_mem_nil⟩⟩) ?_
              exact J4478 μ4433 T4437 mF.refl ((W4467).1 h5080)
            have h5082 : 1 ≤ z2590 ∧ z2590 ≤ 1 := (vc_X12_ring_24 h5080 h2589.1)
            refine sv_aload_n (pc := 126) dX6_readRow_126 rfl rfl ?_
            refine mr_iconst (pc := 127) (z := 2) dX6_readRow_127 ?_
            refine mr_cVV (pc := 128) (c_X6_expect_Wx hw T4437 (rW (c := (-2147483648)) (d := 2147483647) (rR (x := 2)) rfl) ((W4467).2 h5080)) (gOk _ _ _ _ _) dX6_readRow_128 (tX6_expect _ _ _ _ _) ⟨wV_X6_expect, wL_X6_expect⟩ wM_X6_136 (gCX6 _ _ _ _ _) rfl (A_23 hw) rfl ⟨le_t rfl, le_t rfl⟩ ⟨le_t rfl, le_t rfl⟩ rfl (le_t rfl) fun μ5083 T5084 F5085 h5086 => ?_
            refine mr_lvS (lv' := [(0, .ref 23), (1, iv z2575)]) (List.forall_mem_cons.mpr ⟨rfl, List.forall_mem_cons.mpr ⟨rfl, fun _ h => absurd h List.not_mem_nil⟩⟩) ?_
            exact J4478 μ5083 T5084 (mF.call mF.refl F5085 rfl) (h5086.1 T5084 F5085)
          refine mr_icmp_ge (pc := 89) (tgt := 122) dX6_readRow_89 (by decide) (r32 h4436 rfl) (r32 (rR (x := 1000)) rfl) (fun h5087 => ?_) (fun h5087 => ?_)
          · have h5088 : 1000 ≤ z4431 ∧ z4431 ≤ 1000 := (vc_X6_putToken_v_1 h5087 h4436)
            refine mr_lvS (lv' := [(0, .ref 23), (1, iv z2575), (2, iv z2590)]) (List.forall_mem_cons.mpr ⟨rfl, List.forall_mem_cons.mpr ⟨rfl, List.forall_mem_cons.mpr ⟨rfl, fun _ h => absurd h List.not_mem_nil⟩⟩⟩) ?_
            exact J4466 ((W4441 z4432 z4431 μ4433 rfl h4435 h4436 T4437 F4438).1 h5087)
          have h5089 : 0 ≤ z4431 ∧ z4431 ≤ 999 := (vc_X6_putToken_v_4 h5087 h4436)
          refine mr_iload_n (pc := 92) (z := z4432) dX6_readRow_92 rfl rfl ?_
          refine mr_if_eq (pc := 93) (tgt := 122) dX6_readRow_93 (by decide) (r32 h4435 rfl) (fun h5090 => ?_) (fun h5090 => ?_)
          · have h5091 : 0 ≤ z4432 ∧ z4432 ≤ 0 := (vc_X12_ring_22 h5090 h4435)
            refine mr_lvS (lv' := [(0, .ref 23), (1, iv z2575), (2, iv z2590)]) (List.forall_mem_cons.mpr ⟨rfl, List.forall_mem_cons.mpr ⟨rfl, List.forall_mem_cons.mpr ⟨rfl, fun _ h => absurd h List.not_mem_nil⟩⟩⟩) ?_
            exact J4466 (((W4441 z4432 z4431 μ4433 rfl h4435 h4436 T4437 F4438).2 h5087).1 h5090)
          have h5092 : 1 ≤ z4432 ∧ z4432 ≤ 1 := (vc_X12_ring_24 h5090 h4435)
          refine sv_aload_n (pc := 96) dX6_readRow_96 rfl rfl ?_
          refine mr_cVV (pc := 97) (c_X6_readTest_Wx hw T4437 (((W4441 z4432 z4431 μ4433 rfl h4435 h4436 T4437 F4438).2 h5087).2 h5090)) (gOk _ _ _ _ _) dX6_readRow_97 (tX6_readTest _ _ _ _ _) ⟨wV_X6_readTest, wL_X6_readTest⟩ wM_X6_133 (gCX6 _ _ _ _ _) rfl (A_23 hw) rfl ⟨le_t rfl, le_t rfl⟩ ⟨le_t rfl, le_t rfl⟩ rfl (le_t rfl) fun μ5093 T5094 F5095 h5096 => ?_
          refine sv_aload_n (pc := 100) dX6_readRow_100 rfl rfl ?_
          refine gf_X6_3 (pc := 101) dX6_readRow_101 wF_X6_21 (A_23 hw) T5094 ?_
          refine mr_iload_n (pc := 104) (z := z2575) dX6_readRow_104 rfl rfl ?_
          refine sv_dup2 (pc := 105) dX6_readRow_105 rfl rfl ?_
          have h5097 : z2575 < (2000 : Int) := (h5096.1 T5094 F5095).1
          have h5098 : 0 ≤ z2575 ∧ z2575 ≤ 1999 := (vc_X6_put_Wx_2 h5097 h2577)
          refine la_27 (pc := 106) dX6_readRow_106 (A_27 hw) T5094 (rIx (n := 2000) h5098 rfl) fun z5099 q5100 h5101 => ?_
          refine mr_iconst (pc := 107) (z := 1) dX6_readRow_107 ?_
          refine mr_iadd (pc := 108) (x := z5099) (y := 1) dX6_readRow_108 ?_
          refine mr_wrapF fun z5102 h5103 h5104 => ?_
          refine ss_27 (pc := 109) dX6_readRow_109 (A_27 hw) T5094 (rIx (n := 2000) h5098 rfl) h5103 fun μ5105 u5106 T5107 => ?_
          refine sv_aload_n (pc := 110) dX6_readRow_110 rfl rfl ?_
          refine mr_iconst (pc := 111) (z := 1) dX6_readRow_111 ?_
          refine mr_cVI (pc := 112) (c_X6_take_Wx hw T5107 (rW (c := (-2147483648)) (d := 2147483647) (rR (x := 1)) rfl) (((((h5096.1 T5094 F5095).2 trivial) z5099 q5100 h5101) z5102 h5103 h5104) μ5105 u5106 T5107)) (gOk _ _ _ _ _) dX6_readRow_112 (tX6_take _ _ _ _ _) ⟨wV_X6_take, wL_X6_take⟩ wM_X6_120 (gCX6 _ _ _ _ _) rfl (A_23 hw) rfl ⟨le_t rfl, le_t rfl⟩ ⟨le_t rfl, le_t rfl⟩ rfl (le_t rfl) fun z5112 μ5108 T5109 F5110 h5111 => ?_
          refine mr_istore_n (pc := 115) (lv' := [(3, iv z5112), (0, .ref 23), (1, iv z2575), (2, iv z2590), (4, iv z4431)]) dX6_readRow_115 rfl (by decide) rfl ?_
          refine mr_iinc (pc := 116) (lv' := [(4, iv (z4431 + 1)), (3, iv z5112), (0, .ref 23), (1, iv z2575), (2, iv z2590)]) dX6_readRow_116 rfl (by decide) rfl ?_
          refine sv_goto (pc := 119) (tgt := 84) dX6_readRow_119 (by decide) ?_
          refine mr_lvS (lv' := [(0, .ref 23), (1, iv z2575), (2, iv z2590), (3, iv z5112), (4, iv (z4431 + 1))]) (List.forall_mem_cons.mpr ⟨rfl, List.forall_mem_cons.mpr ⟨rfl, List.forall_mem_cons.mpr ⟨rfl, List.forall_mem_cons.mpr ⟨rfl, List.forall_mem_cons.mpr ⟨rfl, fun _ h => absurd h List.not_mem_nil⟩⟩⟩⟩⟩) ?_
          exact ih4442 z5112 (z4431 + 1) μ5108 T5109 (mF.call (mF.up (mF.call (mF.call mF.refl F4438 rfl) F5095 rfl) (A_27 hw) u5106 rfl) F5110 rfl) h5111.1 (rW (c := 0) (d := 1000) (rAdd (e := 1) (f := 1000) h5089 (rR (x := 1)) rfl) rfl) (vc_X6_readTest_Wx_21 (nS h4440) h5087 h5089) ((h5111.2.1 T5109 F5110) h5111.1)
      refine mr_lvS (lv' := [(0, .ref 23), (1, iv z2575), (2, iv z2590), (3, iv z2590), (4, iv 0)]) (List.forall_mem_cons.mpr ⟨rfl, List.forall_mem_cons.mpr ⟨rfl, List.forall_mem_cons.mpr ⟨rfl, List.forall_mem_cons.mpr ⟨rfl, List.forall_mem_cons.mpr ⟨rfl, fun _ h => absurd h List.not_mem_nil⟩⟩⟩⟩⟩) ?_
      exact L4434 1002 z2590 0 μ2586 T2587 mF.refl h2589.1 (rW (c := 0) (d := 1000) (rR (x := 0)) rfl) vc_X6_split_v_102 ((h2589.2.1 T2587 F2588) h2589.1)
    have h5113 : 30 ≤ z2567 ∧ z2567 ≤ 30 := (vc_X11_right_W_22 h2570 h2569)
    refine sv_aload_n (pc := 42) dX6_readRow_42 rfl rfl ?_
    refine mr_iconst (pc := 43) (z := 4) dX6_readRow_43 ?_
    refine mr_cVV (pc := 44) (c_X6_fail_Wx hw hT (rW (c := 1) (d := 4) (rR (x := 4)) rfl) ((((h2563.2.1 h2563.1).1 h2565) z2567 q2568 h2569).2 h2570)) (gOk _ _ _ _ _) dX6_readRow_44 (tX6_fail _ _ _ _ _) ⟨wV_X6_fail, wL_X6_fail⟩ wM_X6_123 (gCX6 _ _ _ _ _) rfl (A_23 hw) rfl ⟨le_t rfl, le_t rfl⟩ ⟨le_t rfl, le_t rfl⟩ rfl (le_t rfl) fun μ5114 T5115 F5116 h5117 => ?_
    exact mr_vret dX6_readRow_47 rfl (le_t rfl) (le_t rfl) T5115 (mF.call mF.refl F5116 rfl) ⟨(h5117.1 T5115 F5116), trivial⟩
  have h5118 : 0 ≤ z2564 ∧ z2564 ≤ 0 := (vc_X12_ring_22 h2565 h2563.1)
  refine sv_aload_n (pc := 27) dX6_readRow_27 rfl rfl ?_
  refine mr_iconst (pc := 28) (z := 2) dX6_readRow_28 ?_
  refine mr_cVV (pc := 29) (c_X6_fail_Wx hw hT (rW (c := 1) (d := 4) (rR (x := 2)) rfl) ((h2563.2.1 h2563.1).2 h2565)) (gOk _ _ _ _ _) dX6_readRow_29 (tX6_fail _ _ _ _ _) ⟨wV_X6_fail, wL_X6_fail⟩ wM_X6_123 (gCX6 _ _ _ _ _) rfl (A_23 hw) rfl ⟨le_t rfl, le_t rfl⟩ ⟨le_t rfl, le_t rfl⟩ rfl (le_t rfl) fun μ5119 T5120 F5121 h5122 => ?_
  exact mr_vret dX6_readRow_32 rfl (le_t rfl) (le_t rfl) T5120 (mF.call mF.refl F5121 rfl) ⟨(h5122.1 T5120 F5121), trivial⟩
def WL_X6_read_Wx_1 (w : mW) (Q : mM → Prop) (μ330 : mM) (rec1 : (Int × mM) → Prop) (s : (Int × mM)) : Prop := ∀ z493 : Int, ∀ μ494 : mM, s = (z493, μ494) → (0 ≤ z493 ∧ z493 ≤ 1001) → mT w μ494 → mF [23009, 23010, 23011, 23012, 23013, 23015, 23016, 23017, 23018, 23019, 27999, 28999, 29999, 30999, 31999] w μ330 μ494 → ((1000 < z493) → Q μ494) ∧ ((z493 ≤ 1000) → ∀ z519 : Int, μ494 23 9 = z519 → (0 ≤ z519 ∧ z519 ≤ 1000) → ∀ z522 : Int, μ494 24 (z519.toNat) = z522 → ((-2147483648) ≤ z522 ∧ z522 ≤ 2147483647) → ((z522 = (-1)) → Q μ494) ∧ ((¬ z522 = (-1)) → WP_X6_readRow_Wx w μ494  (fun μ532 => mT w μ532 → mF [23009, 23010, 23011, 23012, 23013, 23015, 23016, 23017, 23018, 23019, 27999, 28999, 29999, 30999, 31999] w μ494 μ532 → rec1 ((z493 + 1), μ532))))
def WP_X6_read_Wx (w : mW) (μ : mM) (p2 : Int) (p3 : Int) (Q : mM → Prop) : Prop := ∀ f_q : Int, μ 0 10 = f_q → (0 ≤ f_q ∧ f_q ≤ 1000) → ∀ μ305 : mM, mU μ 23 (18) (0 : Int) μ305 → mT w μ305 → ∀ μ308 : mM, mU μ305 23 (19) (0 : Int) μ308 → mT w μ308 → ∀ μ311 : mM, mU μ308 23 (10) (0 : Int) μ311 → mT w μ311 → ∀ μ314 : mM, mU μ311 23 (11) (0 : Int) μ314 → mT w μ314 → ∀ μ317 : mM, mU μ314 23 (12) (0 : Int) μ317 → mT w μ317 → ∀ μ320 : mM, mU μ317 23 (13) (0 : Int) μ320 → mT w μ320 → ∀ μ323 : mM, mU μ320 23 (14) p3 μ323 → mT w μ323 → ∀ μ326 : mM, mF [23008, 24999, 25999, 26999] w μ323 μ326 → mT w μ326 → μ326 24 (μ326 23 8).toNat = -1 → SqT (wrW (bC 1 μ326)) (bC 1 μ326) μ326 0 0 → ∀ μ330 : mM, mU μ326 23 (9) (0 : Int) μ330 → mT w μ330 → loopF (WL_X6_read_Wx_1 w Q μ330) False 1003 ((0 : Int), μ330)
theorem vc_X6_read_Wx_1 {f_q p2 : Int} (h0 : p2 = f_q) (h1 : 0 ≤ f_q ∧ f_q ≤ 1000) (h2 : 0 ≤ p2 ∧ p2 ≤ 1000) : p2 = f_q := by omega
set_option maxRecDepth 4000 in
set_option maxHeartbeats 4000000 in
theorem c_X6_read_Wx {l : Launch} {D : va_G} {c : Nat → ClassId} {H0 : Heap} {sa : Nat × Nat × (Nat → Int32)} {w : mW} {μ : mM} (hw : mWF w) (hT : mT w μ) (hA1 : mAt w 1 1) {p2 : Int} (hp2 : 0 ≤ p2 ∧ p2 ≤ 1000) {p3 : Int} (hp3 : 0 ≤ p3 ∧ p3 ≤ 12) {f_q : Int} (q_f_q : μ 0 10 = f_q) (hq0 : p2 = f_q) {Q : mM → Prop} (hQ : WP_X6_read_Wx w μ p2 p3 Q) : sC (gG l D c H0 sa) mX6_read 17 0 0 [.ref 23, .ref 1, iv p2, iv p3] (mk w μ) (qV w [23008, 23009, 23010, 23011, 23012, 23013, 23014, 23015, 23016, 23017, 23018, 23019, 24999, 25999, 26999, 27999, 28999, 29999, 30999, 31999] μ (fun μ1 => Q μ1 ∧ True)) := by
  refine sC.of rfl (by decide) (le_t rfl) ?_
  have ht_f_q : (0 ≤ f_q ∧ f_q ≤ 1000) := by rw [← q_f_q]; exact hT 0 0 (A_0 hw) 10
  refine mr_lvE (lv' := [(0, .ref 23), (1, .ref 1), (2, iv p2), (3, iv p3)]) rfl ?_
  refine sv_aload_n (pc := 0) dX6_read_0 rfl rfl ?_
  refine mr_iconst (pc := 1) (z := 0) dX6_read_1 ?_
  refine pf_X6_18 (pc := 2) dX6_read_2 wF_X6_37 (A_23 hw) hT (rW (c := 0) (d := 4) (rR (x := 0)) rfl) fun μ305 u306 T307 => ?_
  refine sv_aload_n (pc := 5) dX6_read_5 rfl rfl ?_
  refine mr_iconst (pc := 6) (z := 0) dX6_read_6 ?_
  refine pf_X6_19 (pc := 7) dX6_read_7 wF_X6_41 (A_23 hw) T307 (rW (c := 0) (d := 1000) (rR (x := 0)) rfl) fun μ308 u309 T310 => ?_
  refine sv_aload_n (pc := 10) dX6_read_10 rfl rfl ?_
  refine mr_iconst (pc := 11) (z := 0) dX6_read_11 ?_
  refine pf_X6_10 (pc := 12) dX6_read_12 wF_X6_44 (A_23 hw) T310 (rW (c := 0) (d := 30) (rR (x := 0)) rfl) fun μ311 u312 T313 => ?_
  refine sv_aload_n (pc := 15) dX6_read_15 rfl rfl ?_
  refine mr_iconst (pc := 16) (z := 0) dX6_read_16 ?_
  refine pf_X6_11 (pc := 17) dX6_read_17 wF_X6_47 (A_23 hw) T313 (rW (c := 0) (d := 2000) (rR (x := 0)) rfl) fun μ314 u315 T316 => ?_
  refine sv_aload_n (pc := 20) dX6_read_20 rfl rfl ?_
  refine mr_iconst (pc := 21) (z := 0) dX6_read_21 ?_
  refine pf_X6_12 (pc := 22) dX6_read_22 wF_X6_50 (A_23 hw) T316 (rW (c := 0) (d := 40) (rR (x := 0)) rfl) fun μ317 u318 T319 => ?_
  refine sv_aload_n (pc := 25) dX6_read_25 rfl rfl ?_
  refine mr_iconst (pc := 26) (z := 0) dX6_read_26 ?_
  refine pf_X6_13 (pc := 27) dX6_read_27 wF_X6_53 (A_23 hw) T319 (rW (c := 0) (d := 250) (rR (x := 0)) rfl) fun μ320 u321 T322 => ?_
  refine sv_aload_n (pc := 30) dX6_read_30 rfl rfl ?_
  refine mr_iload_n (pc := 31) (z := p3) dX6_read_31 rfl rfl ?_
  refine pf_X6_14 (pc := 32) dX6_read_32 wF_X6_56 (A_23 hw) T322 (rW (c := (-2147483648)) (d := 2147483647) hp3 rfl) fun μ323 u324 T325 => ?_
  refine sv_aload_n (pc := 35) dX6_read_35 rfl rfl ?_
  refine sv_aload_n (pc := 36) dX6_read_36 rfl rfl ?_
  refine mr_iload_n (pc := 37) (z := p2) dX6_read_37 rfl rfl ?_
  refine mr_cVV (pc := 38) (c_X6_split_v hw T325 (A_1 hw) hp2 (u324.f (Or.inl (mAt.ne (A_23 hw) (A_0 hw) rfl)) (u321.f (Or.inl (mAt.ne (A_23 hw) (A_0 hw) rfl)) (u318.f (Or.inl (mAt.ne (A_23 hw) (A_0 hw) rfl)) (u315.f (Or.inl (mAt.ne (A_23 hw) (A_0 hw) rfl)) (u312.f (Or.inl (mAt.ne (A_23 hw) (A_0 hw) rfl)) (u309.f (Or.inl (mAt.ne (A_23 hw) (A_0 hw) rfl)) (u306.f (Or.inl (mAt.ne (A_23 hw) (A_0 hw) rfl)) q_f_q))))))) (vc_X6_read_Wx_1 hq0 ht_f_q hp2)) (gOk _ _ _ _ _) dX6_read_38 (tX6_split _ _ _ _ _) ⟨wV_X6_split, wL_X6_split⟩ wM_X6_59 (gCX6 _ _ _ _ _) rfl (A_23 hw) rfl ⟨le_t rfl, le_t rfl⟩ ⟨le_t rfl, le_t rfl⟩ rfl (le_t rfl) fun μ326 T327 F328 h329 => ?_
  refine sv_aload_n (pc := 41) dX6_read_41 rfl rfl ?_
  refine mr_iconst (pc := 42) (z := 0) dX6_read_42 ?_
  refine pf_X6_9 (pc := 43) dX6_read_43 wF_X6_63 (A_23 hw) T327 (rW (c := 0) (d := 1000) (rR (x := 0)) rfl) fun μ330 u331 T332 => ?_
  refine mr_iconst (pc := 46) (z := 0) dX6_read_46 ?_
  refine mr_istore (pc := 47) (lv' := [(4, iv 0), (0, .ref 23), (1, .ref 1), (2, iv p2), (3, iv p3)]) dX6_read_47 (by decide) rfl ?_
  have L495 : ∀ (nL495 : Nat) (z493 : Int) (μ494 : mM), mT w μ494 → mF [23009, 23010, 23011, 23012, 23013, 23015, 23016, 23017, 23018, 23019, 27999, 28999, 29999, 30999, 31999] w μ330 μ494 → (0 ≤ z493 ∧ z493 ≤ 1001) → (1002 - z493) < (nL495 : Int) → loopF (WL_X6_read_Wx_1 w Q μ330) False nL495 (z493, μ494) → sV (gG l D c H0 sa) mX6_read (sRm 17 0 0) (sZ (gG l D c H0 sa) 0 0 (qV w [23008, 23009, 23010, 23011, 23012, 23013, 23014, 23015, 23016, 23017, 23018, 23019, 24999, 25999, 26999, 27999, 28999, 29999, 30999, 31999] μ (fun μ1 => Q μ1 ∧ True))) 49 [(0, .ref 23), (4, iv z493)] [] (mk w μ494) 0 0 := by
    intro nL495
    induction nL495 with
    | zero => intro z493 μ494 T497 F498 h496 h500 W501; exact ((vc_X6_readBranches_Wx6_1 h500 h496)).elim
    | succ nL495 ih502 =>
      intro z493 μ494 T497 F498 h496 h500 W501
      refine mr_iload (pc := 49) (z := z493) dX6_read_49 rfl ?_
      refine mr_sipush (pc := 51) (z := 1000) dX6_read_51 (by decide) ?_
      refine mr_icmp_gt (pc := 54) (tgt := 80) dX6_read_54 (by decide) (r32 h496 rfl) (r32 (rR (x := 1000)) rfl) (fun h516 => ?_) (fun h516 => ?_)
      · have h517 : 1001 ≤ z493 ∧ z493 ≤ 1001 := (vc_X6_readBranches_Wx6_2 h516 h496)
        exact mr_vret dX6_read_80 rfl (le_t rfl) (le_t rfl) T497 (mF.call (mF.up (mF.call (mF.up (mF.up (mF.up (mF.up (mF.up (mF.up (mF.up mF.refl (A_23 hw) u306 rfl) (A_23 hw) u309 rfl) (A_23 hw) u312 rfl) (A_23 hw) u315 rfl) (A_23 hw) u318 rfl) (A_23 hw) u321 rfl) (A_23 hw) u324 rfl) F328 rfl) (A_23 hw) u331 rfl) F498 rfl) ⟨((W501 z493 μ494 rfl h496 T497 F498).1 h516), trivial⟩
      have h518 : 0 ≤ z493 ∧ z493 ≤ 1000 := (vc_X6_readBranches_Wx6_3 h516 h496)
      refine sv_aload_n (pc := 57) dX6_read_57 rfl rfl ?_
      refine gf_X6_0 (pc := 58) dX6_read_58 wF_X6_9 (A_23 hw) T497 ?_
      refine sv_aload_n (pc := 61) dX6_read_61 rfl rfl ?_
      refine gf_X6_9 (pc := 62) dX6_read_62 wF_X6_63 (A_23 hw) T497 fun z519 q520 h521 => ?_
      refine la_24 (pc := 65) dX6_read_65 (A_24 hw) T497 (rIx (n := 1001) h521 rfl) fun z522 q523 h524 => ?_
      refine mr_iconst (pc := 66) (z := (-1)) dX6_read_66 ?_
      refine mr_icmp_eq (pc := 67) (tgt := 80) dX6_read_67 (by decide) h524 (r32 (rR (x := (-1))) rfl) (fun h530 => ?_) (fun h530 => ?_)
      · have h531 : (-1) ≤ z522 ∧ z522 ≤ (-1) := (vc_X10_verdictOn_17 h530 h524)
        exact mr_vret dX6_read_80 rfl (le_t rfl) (le_t rfl) T497 (mF.call (mF.up (mF.call (mF.up (mF.up (mF.up (mF.up (mF.up (mF.up (mF.up mF.refl (A_23 hw) u306 rfl) (A_23 hw) u309 rfl) (A_23 hw) u312 rfl) (A_23 hw) u315 rfl) (A_23 hw) u318 rfl) (A_23 hw) u321 rfl) (A_23 hw) u324 rfl) F328 rfl) (A_23 hw) u331 rfl) F498 rfl) ⟨(((((W501 z493 μ494 rfl h496 T497 F498).2 h516) z519 q520 h521) z522 q523 h524).1 h530), trivial⟩
      refine sv_aload_n (pc := 70) dX6_read_70 rfl rfl ?_
      refine mr_cVV (pc := 71) (c_X6_readRow_Wx hw T497 (((((W501 z493 μ494 rfl h496 T497 F498).2 h516) z519 q520 h521) z522 q523 h524).2 h530)) (gOk _ _ _ _ _) dX6_read_71 (tX6_readRow _ _ _ _ _) ⟨wV_X6_readRow, wL_X6_readRow⟩ wM_X6_66 (gCX6 _ _ _ _ _) rfl (A_23 hw) rfl ⟨le_t rfl, le_t rfl⟩ ⟨le_t rfl, le_t rfl⟩ rfl (le_t rfl) fun μ532 T533 F534 h535 => ?_
      refine mr_iinc (pc := 74) (lv' := [(4, iv (z493 + 1)), (0, .ref 23)]) dX6_read_74 rfl (by decide) rfl ?_
      refine sv_goto (pc := 77) (tgt := 49) dX6_read_77 (by decide) ?_
      refine mr_lvS (lv' := [(0, .ref 23), (4, iv (z493 + 1))]) (List.forall_mem_cons.mpr ⟨rfl, List.forall_mem_cons.mpr ⟨rfl, fun _ h => absurd h List.not_mem_nil⟩⟩) ?_
      exact ih502 (z493 + 1) μ532 T533 (mF.call (mF.call mF.refl F498 rfl) F534 rfl) (rW (c := 0) (d := 1001) (rAdd (e := 1) (f := 1001) h518 (rR (x := 1)) rfl) rfl) (vc_X6_readBranches_Wx6_7 (nS h500) h516 h518) (h535.1 T533 F534)
  refine mr_lvS (lv' := [(0, .ref 23), (4, iv 0)]) (List.forall_mem_cons.mpr ⟨rfl, List.forall_mem_cons.mpr ⟨rfl, fun _ h => absurd h List.not_mem_nil⟩⟩) ?_
  exact L495 1003 0 μ330 T332 mF.refl (rW (c := 0) (d := 1001) (rR (x := 0)) rfl) vc_X6_readBranches_Wx6_20 ((((((((((((hQ f_q q_f_q ht_f_q) μ305 u306 T307) μ308 u309 T310) μ311 u312 T313) μ314 u315 T316) μ317 u318 T319) μ320 u321 T322) μ323 u324 T325) μ326 F328 T327) h329.1) h329.2.1) μ330 u331 T332)
def WP_X12_isSign_W (w : mW) (μ : mM) (p1 : Int) (Q : Int → mM → Prop) : Prop := ∀ f_code : Int, μ 106 37 = f_code → (0 ≤ f_code ∧ f_code ≤ 4) → ∀ f_type : Int, μ 106 35 = f_type → (0 ≤ f_type ∧ f_type ≤ 3) → ∀ f_number : Int, μ 106 36 = f_number → ((-2147483648) ≤ f_number ∧ f_number ≤ 2147483647) → ((¬ f_code = 0) → Q (0 : Int) μ) ∧ ((f_code = 0) → ((¬ f_type = 3) → Q (0 : Int) μ) ∧ ((f_type = 3) → ((¬ f_number = p1) → Q (0 : Int) μ) ∧ ((f_number = p1) → Q (1 : Int) μ)))
theorem vc_X12_isSign_W_2 {f_code f_number f_type p1 : Int} (h0 : ¬ f_code = 0) (h1 : 1 ≤ f_code ∧ f_code ≤ 4) (h2 : (-2147483648) ≤ f_number ∧ f_number ≤ 2147483647) (h3 : 0 ≤ f_type ∧ f_type ≤ 3) (h4 : (-2147483648) ≤ p1 ∧ p1 ≤ 2147483647) : (0 : Int) = 1 → f_code = 0 ∧ f_type = 3 ∧ f_number = p1 := by omega
theorem vc_X12_isSign_W_3 {f_code f_number f_type p1 : Int} (h0 : ¬ f_code = 0) (h1 : 1 ≤ f_code ∧ f_code ≤ 4) (h2 : (-2147483648) ≤ f_number ∧ f_number ≤ 2147483647) (h3 : 0 ≤ f_type ∧ f_type ≤ 3) (h4 : (-2147483648) ≤ p1 ∧ p1 ≤ 2147483647) : (0 : Int) = 0 → ¬ f_code = 0 ∨ ¬ f_type = 3 ∨ ¬ f_number = p1 := by omega
theorem vc_X12_isSign_W_5 {f_type : Int} (h0 : ¬ f_type = 3) (h1 : 0 ≤ f_type ∧ f_type ≤ 3) : 0 ≤ f_type ∧ f_type ≤ 2 := by omega
theorem vc_X12_isSign_W_6 {f_code f_number f_type p1 : Int} (h0 : f_code = 0) (h1 : ¬ f_type = 3) (h2 : 0 ≤ f_code ∧ f_code ≤ 0) (h3 : (-2147483648) ≤ f_number ∧ f_number ≤ 2147483647) (h4 : 0 ≤ f_type ∧ f_type ≤ 2) (h5 : (-2147483648) ≤ p1 ∧ p1 ≤ 2147483647) : (0 : Int) = 1 → f_code = 0 ∧ f_type = 3 ∧ f_number = p1 := by omega
theorem vc_X12_isSign_W_7 {f_code f_number f_type p1 : Int} (h0 : f_code = 0) (h1 : ¬ f_type = 3) (h2 : 0 ≤ f_code ∧ f_code ≤ 0) (h3 : (-2147483648) ≤ f_number ∧ f_number ≤ 2147483647) (h4 : 0 ≤ f_type ∧ f_type ≤ 2) (h5 : (-2147483648) ≤ p1 ∧ p1 ≤ 2147483647) : (0 : Int) = 0 → ¬ f_code = 0 ∨ ¬ f_type = 3 ∨ ¬ f_number = p1 := by omega
theorem vc_X12_isSign_W_8 {f_type : Int} (h0 : f_type = 3) (h1 : 0 ≤ f_type ∧ f_type ≤ 3) : 3 ≤ f_type ∧ f_type ≤ 3 := by omega
theorem vc_X12_isSign_W_9 {f_code f_number f_type p1 : Int} (h0 : f_code = 0) (h1 : f_type = 3) (h2 : ¬ f_number = p1) (h3 : 0 ≤ f_code ∧ f_code ≤ 0) (h4 : (-2147483648) ≤ f_number ∧ f_number ≤ 2147483647) (h5 : 3 ≤ f_type ∧ f_type ≤ 3) (h6 : (-2147483648) ≤ p1 ∧ p1 ≤ 2147483647) : (0 : Int) = 1 → f_code = 0 ∧ f_type = 3 ∧ f_number = p1 := by omega
theorem vc_X12_isSign_W_10 {f_code f_number f_type p1 : Int} (h0 : f_code = 0) (h1 : f_type = 3) (h2 : ¬ f_number = p1) (h3 : 0 ≤ f_code ∧ f_code ≤ 0) (h4 : (-2147483648) ≤ f_number ∧ f_number ≤ 2147483647) (h5 : 3 ≤ f_type ∧ f_type ≤ 3) (h6 : (-2147483648) ≤ p1 ∧ p1 ≤ 2147483647) : (0 : Int) = 0 → ¬ f_code = 0 ∨ ¬ f_type = 3 ∨ ¬ f_number = p1 := by omega
theorem vc_X12_isSign_W_11 {f_code f_number f_type p1 : Int} (h0 : f_code = 0) (h1 : f_type = 3) (h2 : f_number = p1) (h3 : 0 ≤ f_code ∧ f_code ≤ 0) (h4 : (-2147483648) ≤ f_number ∧ f_number ≤ 2147483647) (h5 : 3 ≤ f_type ∧ f_type ≤ 3) (h6 : (-2147483648) ≤ p1 ∧ p1 ≤ 2147483647) : (1 : Int) = 1 → f_code = 0 ∧ f_type = 3 ∧ f_number = p1 := by omega
theorem vc_X12_isSign_W_12 {f_code f_number f_type p1 : Int} (h0 : f_code = 0) (h1 : f_type = 3) (h2 : f_number = p1) (h3 : 0 ≤ f_code ∧ f_code ≤ 0) (h4 : (-2147483648) ≤ f_number ∧ f_number ≤ 2147483647) (h5 : 3 ≤ f_type ∧ f_type ≤ 3) (h6 : (-2147483648) ≤ p1 ∧ p1 ≤ 2147483647) : (1 : Int) = 0 → ¬ f_code = 0 ∨ ¬ f_type = 3 ∨ ¬ f_number = p1 := by omega
set_option maxRecDepth 4000 in
set_option maxHeartbeats 4000000 in
theorem c_X12_isSign_W {l : Launch} {D : va_G} {c : Nat → ClassId} {H0 : Heap} {sa : Nat × Nat × (Nat → Int32)} {w : mW} {μ : mM} (hw : mWF w) (hT : mT w μ) {p1 : Int} (hp1 : (-2147483648) ≤ p1 ∧ p1 ≤ 2147483647) {f_code : Int} (q_f_code : μ 106 37 = f_code) {f_type : Int} (q_f_type : μ 106 35 = f_type) {f_number : Int} (q_f_number : μ 106 36 = f_number) {Q : Int → mM → Prop} (hQ : WP_X12_isSign_W w μ p1 Q) : sC (gG l D c H0 sa) mX12_isSign 1 0 0 [.ref 106, iv p1] (mk w μ) (qP w μ (fun z => (0 ≤ z ∧ z ≤ 1) ∧ (z = 1 → f_code = 0 ∧ f_type = 3 ∧ f_number = p1) ∧ (z = 0 → ¬ f_code = 0 ∨ ¬ f_type = 3 ∨ ¬ f_number = p1) ∧ Q z μ ∧ True)) := by
  refine sC.of rfl (by decide) (le_t rfl) ?_
  have ht_f_code : (0 ≤ f_code ∧ f_code ≤ 4) := by rw [← q_f_code]; exact hT 106 106 (A_106 hw) 37
  have ht_f_type : (0 ≤ f_type ∧ f_type ≤ 3) := by rw [← q_f_type]; exact hT 106 106 (A_106 hw) 35
  have ht_f_number : ((-2147483648) ≤ f_number ∧ f_number ≤ 2147483647) := by rw [← q_f_number]; exact hT 106 106 (A_106 hw) 36
  refine mr_lvE (lv' := [(0, .ref 106), (1, iv p1)]) rfl ?_
  refine sv_aload_n (pc := 0) dX12_isSign_0 rfl rfl ?_
  refine gk_X12_37 (pc := 1) dX12_isSign_1 wF_X12_215 (A_106 hw) q_f_code ?_
  refine mr_if_ne (pc := 4) (tgt := 27) dX12_isSign_4 (by decide) (r32 ht_f_code rfl) (fun h17 => ?_) (fun h17 => ?_)
  · have h18 : 1 ≤ f_code ∧ f_code ≤ 4 := (vc_X12_wrong_v_1 h17 ht_f_code)
    refine mr_iconst (pc := 27) (z := 0) dX12_isSign_27 ?_
    exact mr_zretP dX12_isSign_28 rfl (rW (c := 0) (d := 1) (rR (x := 0)) rfl) (le_t rfl) (le_t rfl) ⟨(rW (c := 0) (d := 1) (rR (x := 0)) rfl), (vc_X12_isSign_W_2 h17 h18 ht_f_number ht_f_type hp1), (vc_X12_isSign_W_3 h17 h18 ht_f_number ht_f_type hp1), ((((hQ f_code q_f_code ht_f_code) f_type q_f_type ht_f_type) f_number q_f_number ht_f_number).1 h17), trivial⟩
  have h19 : 0 ≤ f_code ∧ f_code ≤ 0 := (vc_X12_wrong_v_5 h17 ht_f_code)
  refine sv_aload_n (pc := 7) dX12_isSign_7 rfl rfl ?_
  refine gk_X12_35 (pc := 8) dX12_isSign_8 wF_X12_230 (A_106 hw) q_f_type ?_
  refine mr_iconst (pc := 11) (z := 3) dX12_isSign_11 ?_
  refine mr_icmp_ne (pc := 12) (tgt := 27) dX12_isSign_12 (by decide) (r32 ht_f_type rfl) (r32 (rR (x := 3)) rfl) (fun h22 => ?_) (fun h22 => ?_)
  · have h23 : 0 ≤ f_type ∧ f_type ≤ 2 := (vc_X12_isSign_W_5 h22 ht_f_type)
    refine mr_iconst (pc := 27) (z := 0) dX12_isSign_27 ?_
    exact mr_zretP dX12_isSign_28 rfl (rW (c := 0) (d := 1) (rR (x := 0)) rfl) (le_t rfl) (le_t rfl) ⟨(rW (c := 0) (d := 1) (rR (x := 0)) rfl), (vc_X12_isSign_W_6 h17 h22 h19 ht_f_number h23 hp1), (vc_X12_isSign_W_7 h17 h22 h19 ht_f_number h23 hp1), (((((hQ f_code q_f_code ht_f_code) f_type q_f_type ht_f_type) f_number q_f_number ht_f_number).2 h17).1 h22), trivial⟩
  have h24 : 3 ≤ f_type ∧ f_type ≤ 3 := (vc_X12_isSign_W_8 h22 ht_f_type)
  refine sv_aload_n (pc := 15) dX12_isSign_15 rfl rfl ?_
  refine gk_X12_36 (pc := 16) dX12_isSign_16 wF_X12_233 (A_106 hw) q_f_number ?_
  refine mr_iload_n (pc := 19) (z := p1) dX12_isSign_19 rfl rfl ?_
  refine mr_icmp_ne (pc := 20) (tgt := 27) dX12_isSign_20 (by decide) ht_f_number hp1 (fun h25 => ?_) (fun h25 => ?_)
  · refine mr_iconst (pc := 27) (z := 0) dX12_isSign_27 ?_
    exact mr_zretP dX12_isSign_28 rfl (rW (c := 0) (d := 1) (rR (x := 0)) rfl) (le_t rfl) (le_t rfl) ⟨(rW (c := 0) (d := 1) (rR (x := 0)) rfl), (vc_X12_isSign_W_9 h17 h22 h25 h19 ht_f_number h24 hp1), (vc_X12_isSign_W_10 h17 h22 h25 h19 ht_f_number h24 hp1), ((((((hQ f_code q_f_code ht_f_code) f_type q_f_type ht_f_type) f_number q_f_number ht_f_number).2 h17).2 h22).1 h25), trivial⟩
  refine mr_iconst (pc := 23) (z := 1) dX12_isSign_23 ?_
  refine sv_goto (pc := 24) (tgt := 28) dX12_isSign_24 (by decide) ?_
  exact mr_zretP dX12_isSign_28 rfl (rW (c := 0) (d := 1) (rR (x := 1)) rfl) (le_t rfl) (le_t rfl) ⟨(rW (c := 0) (d := 1) (rR (x := 1)) rfl), (vc_X12_isSign_W_11 h17 h22 h25 h19 ht_f_number h24 hp1), (vc_X12_isSign_W_12 h17 h22 h25 h19 ht_f_number h24 hp1), ((((((hQ f_code q_f_code ht_f_code) f_type q_f_type ht_f_type) f_number q_f_number ht_f_number).2 h17).2 h22).2 h25), trivial⟩
def WP_X12_isWord_W (w : mW) (μ : mM) (p1 : Int) (Q : Int → mM → Prop) : Prop := ∀ f_code : Int, μ 106 37 = f_code → (0 ≤ f_code ∧ f_code ≤ 4) → ∀ f_type : Int, μ 106 35 = f_type → (0 ≤ f_type ∧ f_type ≤ 3) → ∀ f_number : Int, μ 106 36 = f_number → ((-2147483648) ≤ f_number ∧ f_number ≤ 2147483647) → ((¬ f_code = 0) → Q (0 : Int) μ) ∧ ((f_code = 0) → ((¬ f_type = 1) → Q (0 : Int) μ) ∧ ((f_type = 1) → ((¬ f_number = p1) → Q (0 : Int) μ) ∧ ((f_number = p1) → Q (1 : Int) μ)))
theorem vc_X12_isWord_W_2 {f_code f_number f_type p1 : Int} (h0 : ¬ f_code = 0) (h1 : 1 ≤ f_code ∧ f_code ≤ 4) (h2 : (-2147483648) ≤ f_number ∧ f_number ≤ 2147483647) (h3 : 0 ≤ f_type ∧ f_type ≤ 3) (h4 : (-2147483648) ≤ p1 ∧ p1 ≤ 2147483647) : (0 : Int) = 1 → f_code = 0 ∧ f_type = 1 ∧ f_number = p1 := by omega
theorem vc_X12_isWord_W_3 {f_code f_number f_type p1 : Int} (h0 : ¬ f_code = 0) (h1 : 1 ≤ f_code ∧ f_code ≤ 4) (h2 : (-2147483648) ≤ f_number ∧ f_number ≤ 2147483647) (h3 : 0 ≤ f_type ∧ f_type ≤ 3) (h4 : (-2147483648) ≤ p1 ∧ p1 ≤ 2147483647) : (0 : Int) = 0 → ¬ f_code = 0 ∨ ¬ f_type = 1 ∨ ¬ f_number = p1 := by omega
theorem vc_X12_isWord_W_5 {f_code f_number f_type p1 : Int} (h0 : f_code = 0) (h1 : ¬ f_type = 1) (h2 : 0 ≤ f_code ∧ f_code ≤ 0) (h3 : (-2147483648) ≤ f_number ∧ f_number ≤ 2147483647) (h4 : 0 ≤ f_type ∧ f_type ≤ 3) (h5 : (-2147483648) ≤ p1 ∧ p1 ≤ 2147483647) : (0 : Int) = 1 → f_code = 0 ∧ f_type = 1 ∧ f_number = p1 := by omega
theorem vc_X12_isWord_W_6 {f_code f_number f_type p1 : Int} (h0 : f_code = 0) (h1 : ¬ f_type = 1) (h2 : 0 ≤ f_code ∧ f_code ≤ 0) (h3 : (-2147483648) ≤ f_number ∧ f_number ≤ 2147483647) (h4 : 0 ≤ f_type ∧ f_type ≤ 3) (h5 : (-2147483648) ≤ p1 ∧ p1 ≤ 2147483647) : (0 : Int) = 0 → ¬ f_code = 0 ∨ ¬ f_type = 1 ∨ ¬ f_number = p1 := by omega
theorem vc_X12_isWord_W_8 {f_code f_number f_type p1 : Int} (h0 : f_code = 0) (h1 : f_type = 1) (h2 : ¬ f_number = p1) (h3 : 0 ≤ f_code ∧ f_code ≤ 0) (h4 : (-2147483648) ≤ f_number ∧ f_number ≤ 2147483647) (h5 : 1 ≤ f_type ∧ f_type ≤ 1) (h6 : (-2147483648) ≤ p1 ∧ p1 ≤ 2147483647) : (0 : Int) = 1 → f_code = 0 ∧ f_type = 1 ∧ f_number = p1 := by omega
theorem vc_X12_isWord_W_9 {f_code f_number f_type p1 : Int} (h0 : f_code = 0) (h1 : f_type = 1) (h2 : ¬ f_number = p1) (h3 : 0 ≤ f_code ∧ f_code ≤ 0) (h4 : (-2147483648) ≤ f_number ∧ f_number ≤ 2147483647) (h5 : 1 ≤ f_type ∧ f_type ≤ 1) (h6 : (-2147483648) ≤ p1 ∧ p1 ≤ 2147483647) : (0 : Int) = 0 → ¬ f_code = 0 ∨ ¬ f_type = 1 ∨ ¬ f_number = p1 := by omega
theorem vc_X12_isWord_W_10 {f_code f_number f_type p1 : Int} (h0 : f_code = 0) (h1 : f_type = 1) (h2 : f_number = p1) (h3 : 0 ≤ f_code ∧ f_code ≤ 0) (h4 : (-2147483648) ≤ f_number ∧ f_number ≤ 2147483647) (h5 : 1 ≤ f_type ∧ f_type ≤ 1) (h6 : (-2147483648) ≤ p1 ∧ p1 ≤ 2147483647) : (1 : Int) = 1 → f_code = 0 ∧ f_type = 1 ∧ f_number = p1 := by omega
theorem vc_X12_isWord_W_11 {f_code f_number f_type p1 : Int} (h0 : f_code = 0) (h1 : f_type = 1) (h2 : f_number = p1) (h3 : 0 ≤ f_code ∧ f_code ≤ 0) (h4 : (-2147483648) ≤ f_number ∧ f_number ≤ 2147483647) (h5 : 1 ≤ f_type ∧ f_type ≤ 1) (h6 : (-2147483648) ≤ p1 ∧ p1 ≤ 2147483647) : (1 : Int) = 0 → ¬ f_code = 0 ∨ ¬ f_type = 1 ∨ ¬ f_number = p1 := by omega
set_option maxRecDepth 4000 in
set_option maxHeartbeats 4000000 in
theorem c_X12_isWord_W {l : Launch} {D : va_G} {c : Nat → ClassId} {H0 : Heap} {sa : Nat × Nat × (Nat → Int32)} {w : mW} {μ : mM} (hw : mWF w) (hT : mT w μ) {p1 : Int} (hp1 : (-2147483648) ≤ p1 ∧ p1 ≤ 2147483647) {f_code : Int} (q_f_code : μ 106 37 = f_code) {f_type : Int} (q_f_type : μ 106 35 = f_type) {f_number : Int} (q_f_number : μ 106 36 = f_number) {Q : Int → mM → Prop} (hQ : WP_X12_isWord_W w μ p1 Q) : sC (gG l D c H0 sa) mX12_isWord 1 0 0 [.ref 106, iv p1] (mk w μ) (qP w μ (fun z => (0 ≤ z ∧ z ≤ 1) ∧ (z = 1 → f_code = 0 ∧ f_type = 1 ∧ f_number = p1) ∧ (z = 0 → ¬ f_code = 0 ∨ ¬ f_type = 1 ∨ ¬ f_number = p1) ∧ Q z μ ∧ True)) := by
  refine sC.of rfl (by decide) (le_t rfl) ?_
  have ht_f_code : (0 ≤ f_code ∧ f_code ≤ 4) := by rw [← q_f_code]; exact hT 106 106 (A_106 hw) 37
  have ht_f_type : (0 ≤ f_type ∧ f_type ≤ 3) := by rw [← q_f_type]; exact hT 106 106 (A_106 hw) 35
  have ht_f_number : ((-2147483648) ≤ f_number ∧ f_number ≤ 2147483647) := by rw [← q_f_number]; exact hT 106 106 (A_106 hw) 36
  refine mr_lvE (lv' := [(0, .ref 106), (1, iv p1)]) rfl ?_
  refine sv_aload_n (pc := 0) dX12_isWord_0 rfl rfl ?_
  refine gk_X12_37 (pc := 1) dX12_isWord_1 wF_X12_215 (A_106 hw) q_f_code ?_
  refine mr_if_ne (pc := 4) (tgt := 27) dX12_isWord_4 (by decide) (r32 ht_f_code rfl) (fun h13 => ?_) (fun h13 => ?_)
  · have h14 : 1 ≤ f_code ∧ f_code ≤ 4 := (vc_X12_wrong_v_1 h13 ht_f_code)
    refine mr_iconst (pc := 27) (z := 0) dX12_isWord_27 ?_
    exact mr_zretP dX12_isWord_28 rfl (rW (c := 0) (d := 1) (rR (x := 0)) rfl) (le_t rfl) (le_t rfl) ⟨(rW (c := 0) (d := 1) (rR (x := 0)) rfl), (vc_X12_isWord_W_2 h13 h14 ht_f_number ht_f_type hp1), (vc_X12_isWord_W_3 h13 h14 ht_f_number ht_f_type hp1), ((((hQ f_code q_f_code ht_f_code) f_type q_f_type ht_f_type) f_number q_f_number ht_f_number).1 h13), trivial⟩
  have h15 : 0 ≤ f_code ∧ f_code ≤ 0 := (vc_X12_wrong_v_5 h13 ht_f_code)
  refine sv_aload_n (pc := 7) dX12_isWord_7 rfl rfl ?_
  refine gk_X12_35 (pc := 8) dX12_isWord_8 wF_X12_230 (A_106 hw) q_f_type ?_
  refine mr_iconst (pc := 11) (z := 1) dX12_isWord_11 ?_
  refine mr_icmp_ne (pc := 12) (tgt := 27) dX12_isWord_12 (by decide) (r32 ht_f_type rfl) (r32 (rR (x := 1)) rfl) (fun h17 => ?_) (fun h17 => ?_)
  · refine mr_iconst (pc := 27) (z := 0) dX12_isWord_27 ?_
    exact mr_zretP dX12_isWord_28 rfl (rW (c := 0) (d := 1) (rR (x := 0)) rfl) (le_t rfl) (le_t rfl) ⟨(rW (c := 0) (d := 1) (rR (x := 0)) rfl), (vc_X12_isWord_W_5 h13 h17 h15 ht_f_number ht_f_type hp1), (vc_X12_isWord_W_6 h13 h17 h15 ht_f_number ht_f_type hp1), (((((hQ f_code q_f_code ht_f_code) f_type q_f_type ht_f_type) f_number q_f_number ht_f_number).2 h13).1 h17), trivial⟩
  have h18 : 1 ≤ f_type ∧ f_type ≤ 1 := (vc_X10_firstWrongStep_16 h17 ht_f_type)
  refine sv_aload_n (pc := 15) dX12_isWord_15 rfl rfl ?_
  refine gk_X12_36 (pc := 16) dX12_isWord_16 wF_X12_233 (A_106 hw) q_f_number ?_
  refine mr_iload_n (pc := 19) (z := p1) dX12_isWord_19 rfl rfl ?_
  refine mr_icmp_ne (pc := 20) (tgt := 27) dX12_isWord_20 (by decide) ht_f_number hp1 (fun h19 => ?_) (fun h19 => ?_)
  · refine mr_iconst (pc := 27) (z := 0) dX12_isWord_27 ?_
    exact mr_zretP dX12_isWord_28 rfl (rW (c := 0) (d := 1) (rR (x := 0)) rfl) (le_t rfl) (le_t rfl) ⟨(rW (c := 0) (d := 1) (rR (x := 0)) rfl), (vc_X12_isWord_W_8 h13 h17 h19 h15 ht_f_number h18 hp1), (vc_X12_isWord_W_9 h13 h17 h19 h15 ht_f_number h18 hp1), ((((((hQ f_code q_f_code ht_f_code) f_type q_f_type ht_f_type) f_number q_f_number ht_f_number).2 h13).2 h17).1 h19), trivial⟩
  refine mr_iconst (pc := 23) (z := 1) dX12_isWord_23 ?_
  refine sv_goto (pc := 24) (tgt := 28) dX12_isWord_24 (by decide) ?_
  exact mr_zretP dX12_isWord_28 rfl (rW (c := 0) (d := 1) (rR (x := 1)) rfl) (le_t rfl) (le_t rfl) ⟨(rW (c := 0) (d := 1) (rR (x := 1)) rfl), (vc_X12_isWord_W_10 h13 h17 h19 h15 ht_f_number h18 hp1), (vc_X12_isWord_W_11 h13 h17 h19 h15 ht_f_number h18 hp1), ((((((hQ f_code q_f_code ht_f_code) f_type q_f_type ht_f_type) f_number q_f_number ht_f_number).2 h13).2 h17).2 h19), trivial⟩
def WP_X12_wrong_Wx (w : mW) (μ : mM) (p1 : Int) (Q : mM → Prop) : Prop := ∀ z1 : Int, μ 106 37 = z1 → (0 ≤ z1 ∧ z1 ≤ 4) → ((¬ z1 = 0) → Q μ) ∧ ((z1 = 0) → ∀ μ18 : mM, mU μ 106 (37) p1 μ18 → mT w μ18 → ∀ z21 : Int, μ18 106 34 = z21 → (0 ≤ z21 ∧ z21 ≤ 1000) → ∀ μ24 : mM, mU μ18 106 (38) z21 μ24 → mT w μ24 → Q μ24)
set_option maxRecDepth 4000 in
set_option maxHeartbeats 4000000 in
theorem c_X12_wrong_Wx {l : Launch} {D : va_G} {c : Nat → ClassId} {H0 : Heap} {sa : Nat × Nat × (Nat → Int32)} {w : mW} {μ : mM} (hw : mWF w) (hT : mT w μ) {p1 : Int} (hp1 : 1 ≤ p1 ∧ p1 ≤ 4) {Q : mM → Prop} (hQ : WP_X12_wrong_Wx w μ p1 Q) : sC (gG l D c H0 sa) mX12_wrong 1 0 0 [.ref 106, iv p1] (mk w μ) (qV w [106037, 106038] μ (fun μ1 => Q μ1 ∧ True)) := by
  refine sC.of rfl (by decide) (le_t rfl) ?_
  refine mr_lvE (lv' := [(0, .ref 106), (1, iv p1)]) rfl ?_
  refine sv_aload_n (pc := 0) dX12_wrong_0 rfl rfl ?_
  refine gf_X12_37 (pc := 1) dX12_wrong_1 wF_X12_215 (A_106 hw) hT fun z1 q2 h3 => ?_
  refine mr_if_ne (pc := 4) (tgt := 20) dX12_wrong_4 (by decide) (r32 h3 rfl) (fun h15 => ?_) (fun h15 => ?_)
  · have h16 : 1 ≤ z1 ∧ z1 ≤ 4 := (vc_X12_wrong_v_1 h15 h3)
    exact mr_vret dX12_wrong_20 rfl (le_t rfl) (le_t rfl) hT mF.refl ⟨((hQ z1 q2 h3).1 h15), trivial⟩
  have h17 : 0 ≤ z1 ∧ z1 ≤ 0 := (vc_X12_wrong_v_5 h15 h3)
  refine sv_aload_n (pc := 7) dX12_wrong_7 rfl rfl ?_
  refine mr_iload_n (pc := 8) (z := p1) dX12_wrong_8 rfl rfl ?_
  refine pf_X12_37 (pc := 9) dX12_wrong_9 wF_X12_215 (A_106 hw) hT (rW (c := 0) (d := 4) hp1 rfl) fun μ18 u19 T20 => ?_
  refine sv_aload_n (pc := 12) dX12_wrong_12 rfl rfl ?_
  refine sv_aload_n (pc := 13) dX12_wrong_13 rfl rfl ?_
  refine gf_X12_34 (pc := 14) dX12_wrong_14 wF_X12_218 (A_106 hw) T20 fun z21 q22 h23 => ?_
  refine pf_X12_38 (pc := 17) dX12_wrong_17 wF_X12_221 (A_106 hw) T20 h23 fun μ24 u25 T26 => ?_
  exact mr_vret dX12_wrong_20 rfl (le_t rfl) (le_t rfl) T26 (mF.up (mF.up mF.refl (A_106 hw) u19 rfl) (A_106 hw) u25 rfl) ⟨(((((hQ z1 q2 h3).2 h15) μ18 u19 T20) z21 q22 h23) μ24 u25 T26), trivial⟩
def WP_X12_sign_Wx (w : mW) (μ : mM) (p1 : Int) (Q : mM → Prop) : Prop := ∀ z1 : Int, μ 106 37 = z1 → (0 ≤ z1 ∧ z1 ≤ 4) → ∀ z4 : Int, μ 106 35 = z4 → (0 ≤ z4 ∧ z4 ≤ 3) → ∀ z7 : Int, μ 106 36 = z7 → ((-2147483648) ≤ z7 ∧ z7 ≤ 2147483647) → WP_X12_isSign_W w μ p1 (fun z14 _ => (0 ≤ z14 ∧ z14 ≤ 1) → ((¬ z14 = 0) → ∀ z30 : Int, μ 106 33 = z30 → (0 ≤ z30 ∧ z30 ≤ 1000) → ∀ z33 : Int, μ 106 1 = z33 → (0 ≤ z33 ∧ z33 ≤ 1000) → ∀ μ36 : mM, mF [106033, 106034, 106035, 106036, 106037, 106038] w μ μ36 → mT w μ36 → ∀ z40 : Int, μ36 106 37 = z40 → ∀ z42 : Int, μ36 106 33 = z42 → ∀ z44 : Int, μ36 106 34 = z44 → ∀ z46 : Int, μ36 106 35 = z46 → ∀ z48 : Int, μ36 106 36 = z48 → nxR μ μ36 → Q μ36) ∧ ((z14 = 0) → WP_X12_wrong_Wx w μ (2) (fun μ58 => mT w μ58 → mF [106037, 106038] w μ μ58 → ∀ z62 : Int, μ58 106 37 = z62 → (0 ≤ z62 ∧ z62 ≤ 4) → ∀ z65 : Int, μ58 106 33 = z65 → (0 ≤ z65 ∧ z65 ≤ 1000) → ∀ z68 : Int, μ58 106 1 = z68 → (0 ≤ z68 ∧ z68 ≤ 1000) → ∀ μ71 : mM, mF [106033, 106034, 106035, 106036, 106037, 106038] w μ58 μ71 → mT w μ71 → ∀ z75 : Int, μ71 106 37 = z75 → ∀ z77 : Int, μ71 106 33 = z77 → ∀ z79 : Int, μ71 106 34 = z79 → ∀ z81 : Int, μ71 106 35 = z81 → ∀ z83 : Int, μ71 106 36 = z83 → nxR μ58 μ71 → Q μ71)))
theorem vc_X12_sign_Wx_1 {p1 z1 z14 z4 z7 : Int} (h0 : ¬ z14 = 0) (h1 : (z14 = 1 → z1 = 0 ∧ z4 = 3 ∧ z7 = p1)) (h2 : (z14 = 0 → ¬ z1 = 0 ∨ ¬ z4 = 3 ∨ ¬ z7 = p1)) (h3 : (-2147483648) ≤ p1 ∧ p1 ≤ 2147483647) (h4 : 0 ≤ z1 ∧ z1 ≤ 4) (h5 : 0 ≤ z14 ∧ z14 ≤ 1) (h6 : 0 ≤ z4 ∧ z4 ≤ 3) (h7 : (-2147483648) ≤ z7 ∧ z7 ≤ 2147483647) : 1 ≤ z14 ∧ z14 ≤ 1 := by omega
theorem vc_X12_sign_Wx_2 {p1 z1 z14 z4 z7 : Int} (h0 : (z14 = 1 → z1 = 0 ∧ z4 = 3 ∧ z7 = p1)) (h1 : (z14 = 0 → ¬ z1 = 0 ∨ ¬ z4 = 3 ∨ ¬ z7 = p1)) (h2 : ¬ z14 = 0) (h3 : (-2147483648) ≤ p1 ∧ p1 ≤ 2147483647) (h4 : 0 ≤ z1 ∧ z1 ≤ 4) (h5 : 1 ≤ z14 ∧ z14 ≤ 1) (h6 : 0 ≤ z4 ∧ z4 ≤ 3) (h7 : (-2147483648) ≤ z7 ∧ z7 ≤ 2147483647) : z14 = 1 := by omega
theorem vc_X12_sign_Wx_3 {p1 z1 z14 z4 z7 : Int} (h0 : z1 = 0 ∧ z4 = 3 ∧ z7 = p1) (h1 : (z14 = 1 → z1 = 0 ∧ z4 = 3 ∧ z7 = p1)) (h2 : (z14 = 0 → ¬ z1 = 0 ∨ ¬ z4 = 3 ∨ ¬ z7 = p1)) (h3 : (-2147483648) ≤ p1 ∧ p1 ≤ 2147483647) (h4 : 0 ≤ z1 ∧ z1 ≤ 4) (h5 : 1 ≤ z14 ∧ z14 ≤ 1) (h6 : 0 ≤ z4 ∧ z4 ≤ 3) (h7 : (-2147483648) ≤ z7 ∧ z7 ≤ 2147483647) : 0 ≤ z1 ∧ z1 ≤ 0 := by omega
theorem vc_X12_sign_Wx_4 {p1 z1 z14 z4 z7 : Int} (h0 : z1 = 0 ∧ z4 = 3 ∧ z7 = p1) (h1 : (z14 = 1 → z1 = 0 ∧ z4 = 3 ∧ z7 = p1)) (h2 : (z14 = 0 → ¬ z1 = 0 ∨ ¬ z4 = 3 ∨ ¬ z7 = p1)) (h3 : (-2147483648) ≤ p1 ∧ p1 ≤ 2147483647) (h4 : 0 ≤ z1 ∧ z1 ≤ 0) (h5 : 1 ≤ z14 ∧ z14 ≤ 1) (h6 : 0 ≤ z4 ∧ z4 ≤ 3) (h7 : (-2147483648) ≤ z7 ∧ z7 ≤ 2147483647) : 3 ≤ z4 ∧ z4 ≤ 3 := by omega
theorem vc_X12_sign_Wx_5 {p1 z1 z14 z4 z7 : Int} (h0 : z14 = 0) (h1 : (z14 = 1 → z1 = 0 ∧ z4 = 3 ∧ z7 = p1)) (h2 : (z14 = 0 → ¬ z1 = 0 ∨ ¬ z4 = 3 ∨ ¬ z7 = p1)) (h3 : (-2147483648) ≤ p1 ∧ p1 ≤ 2147483647) (h4 : 0 ≤ z1 ∧ z1 ≤ 4) (h5 : 0 ≤ z14 ∧ z14 ≤ 1) (h6 : 0 ≤ z4 ∧ z4 ≤ 3) (h7 : (-2147483648) ≤ z7 ∧ z7 ≤ 2147483647) : 0 ≤ z14 ∧ z14 ≤ 0 := by omega
theorem vc_X12_sign_Wx_6 {p1 z1 z14 z4 z7 : Int} (h0 : (z14 = 1 → z1 = 0 ∧ z4 = 3 ∧ z7 = p1)) (h1 : (z14 = 0 → ¬ z1 = 0 ∨ ¬ z4 = 3 ∨ ¬ z7 = p1)) (h2 : z14 = 0) (h3 : (-2147483648) ≤ p1 ∧ p1 ≤ 2147483647) (h4 : 0 ≤ z1 ∧ z1 ≤ 4) (h5 : 0 ≤ z14 ∧ z14 ≤ 0) (h6 : 0 ≤ z4 ∧ z4 ≤ 3) (h7 : (-2147483648) ≤ z7 ∧ z7 ≤ 2147483647) : z14 = 0 := by omega
set_option maxRecDepth 4000 in
set_option maxHeartbeats 4000000 in
theorem c_X12_sign_Wx {l : Launch} {D : va_G} {c : Nat → ClassId} {H0 : Heap} {sa : Nat × Nat × (Nat → Int32)} {w : mW} {μ : mM} (hw : mWF w) (hT : mT w μ) {p1 : Int} (hp1 : (-2147483648) ≤ p1 ∧ p1 ≤ 2147483647) {Q : mM → Prop} (hQ : WP_X12_sign_Wx w μ p1 Q) : sC (gG l D c H0 sa) mX12_sign 3 0 0 [.ref 106, iv p1] (mk w μ) (qV w [106033, 106034, 106035, 106036, 106037, 106038] μ (fun μ1 => Q μ1 ∧ True)) := by
  refine sC.of rfl (by decide) (le_t rfl) ?_
  refine mr_lvE (lv' := [(0, .ref 106), (1, iv p1)]) rfl ?_
  refine sv_aload_n (pc := 0) dX12_sign_0 rfl rfl ?_
  refine mr_iload_n (pc := 1) (z := p1) dX12_sign_1 rfl rfl ?_
  obtain ⟨z1, q2⟩ : ∃ z, μ 106 37 = z := ⟨_, rfl⟩
  have h3 : (0 ≤ z1 ∧ z1 ≤ 4) := by rw [← q2]; exact hT 106 106 (A_106 hw) 37
  obtain ⟨z4, q5⟩ : ∃ z, μ 106 35 = z := ⟨_, rfl⟩
  have h6 : (0 ≤ z4 ∧ z4 ≤ 3) := by rw [← q5]; exact hT 106 106 (A_106 hw) 35
  obtain ⟨z7, q8⟩ : ∃ z, μ 106 36 = z := ⟨_, rfl⟩
  have h9 : ((-2147483648) ≤ z7 ∧ z7 ≤ 2147483647) := by rw [← q8]; exact hT 106 106 (A_106 hw) 36
  refine mr_cVP (pc := 2) (c_X12_isSign_W hw hT hp1 q2 q5 q8 (((hQ z1 q2 h3) z4 q5 h6) z7 q8 h9)) (gOk _ _ _ _ _) dX12_sign_2 (tX12_isSign _ _ _ _ _) ⟨wV_X12_isSign, wL_X12_isSign⟩ wM_X12_244 (gCX12 _ _ _ _ _) rfl (A_106 hw) rfl ⟨le_t rfl, le_t rfl⟩ ⟨le_t rfl, le_t rfl⟩ rfl (le_t rfl) fun z14 h13 => ?_
  refine mr_if_ne (pc := 5) (tgt := 13) dX12_sign_5 (by decide) (r32 h13.1 rfl) (fun h25 => ?_) (fun h25 => ?_)
  · have h26 : 1 ≤ z14 ∧ z14 ≤ 1 := (vc_X12_sign_Wx_1 h25 h13.2.1 h13.2.2.1 hp1 h3 h13.1 h6 h9)
    have h27 : z1 = 0 ∧ z4 = 3 ∧ z7 = p1 := (h13.2.1 (vc_X12_sign_Wx_2 h13.2.1 h13.2.2.1 h25 hp1 h3 h26 h6 h9))
    have h28 : 0 ≤ z1 ∧ z1 ≤ 0 := (vc_X12_sign_Wx_3 h27 h13.2.1 h13.2.2.1 hp1 h3 h26 h6 h9)
    have h29 : 3 ≤ z4 ∧ z4 ≤ 3 := (vc_X12_sign_Wx_4 h27 h13.2.1 h13.2.2.1 hp1 h28 h26 h6 h9)
    refine sv_aload_n (pc := 13) dX12_sign_13 rfl rfl ?_
    obtain ⟨z30, q31⟩ : ∃ z, μ 106 33 = z := ⟨_, rfl⟩
    have h32 : (0 ≤ z30 ∧ z30 ≤ 1000) := by rw [← q31]; exact hT 106 106 (A_106 hw) 33
    obtain ⟨z33, q34⟩ : ∃ z, μ 106 1 = z := ⟨_, rfl⟩
    have h35 : (0 ≤ z33 ∧ z33 ≤ 1000) := by rw [← q34]; exact hT 106 106 (A_106 hw) 1
    refine mr_cVV (pc := 14) (c_X12_next_v hw hT q2 q31 q34) (gOk _ _ _ _ _) dX12_sign_14 (tX12_next _ _ _ _ _) ⟨wV_X12_next, wL_X12_next⟩ wM_X12_247 (gCX12 _ _ _ _ _) rfl (A_106 hw) rfl ⟨le_t rfl, le_t rfl⟩ ⟨le_t rfl, le_t rfl⟩ rfl (le_t rfl) fun μ36 T37 F38 h39 => ?_
    obtain ⟨z40, z42, z44, z46, z48, q41, q43, q45, q47, q49, h50⟩ := h39
    have h51 : (0 ≤ z40 ∧ z40 ≤ 4) := by rw [← q41]; exact T37 106 106 (A_106 hw) 37
    have h52 : (0 ≤ z42 ∧ z42 ≤ 1000) := by rw [← q43]; exact T37 106 106 (A_106 hw) 33
    have h53 : (0 ≤ z44 ∧ z44 ≤ 1000) := by rw [← q45]; exact T37 106 106 (A_106 hw) 34
    have h54 : (0 ≤ z46 ∧ z46 ≤ 3) := by rw [← q47]; exact T37 106 106 (A_106 hw) 35
    have h55 : ((-2147483648) ≤ z48 ∧ z48 ≤ 2147483647) := by rw [← q49]; exact T37 106 106 (A_106 hw) 36
    exact mr_vret dX12_sign_17 rfl (le_t rfl) (le_t rfl) T37 (mF.call mF.refl F38 rfl) ⟨(((((((((((h13.2.2.2.1 h13.1).1 h25) z30 q31 h32) z33 q34 h35) μ36 F38 T37) z40 q41) z42 q43) z44 q45) z46 q47) z48 q49) h50.2.2.2.2.2.2.2.1), trivial⟩
  have h56 : 0 ≤ z14 ∧ z14 ≤ 0 := (vc_X12_sign_Wx_5 h25 h13.2.1 h13.2.2.1 hp1 h3 h13.1 h6 h9)
  have h57 : ¬ z1 = 0 ∨ ¬ z4 = 3 ∨ ¬ z7 = p1 := (h13.2.2.1 (vc_X12_sign_Wx_6 h13.2.1 h13.2.2.1 h25 hp1 h3 h56 h6 h9))
  refine sv_aload_n (pc := 8) dX12_sign_8 rfl rfl ?_
  refine mr_iconst (pc := 9) (z := 2) dX12_sign_9 ?_
  refine mr_cVV (pc := 10) (c_X12_wrong_Wx hw hT (rW (c := 1) (d := 4) (rR (x := 2)) rfl) ((h13.2.2.2.1 h13.1).2 h25)) (gOk _ _ _ _ _) dX12_sign_10 (tX12_wrong _ _ _ _ _) ⟨wV_X12_wrong, wL_X12_wrong⟩ wM_X12_240 (gCX12 _ _ _ _ _) rfl (A_106 hw) rfl ⟨le_t rfl, le_t rfl⟩ ⟨le_t rfl, le_t rfl⟩ rfl (le_t rfl) fun μ58 T59 F60 h61 => ?_
  refine sv_aload_n (pc := 13) dX12_sign_13 rfl rfl ?_
  obtain ⟨z62, q63⟩ : ∃ z, μ58 106 37 = z := ⟨_, rfl⟩
  have h64 : (0 ≤ z62 ∧ z62 ≤ 4) := by rw [← q63]; exact T59 106 106 (A_106 hw) 37
  obtain ⟨z65, q66⟩ : ∃ z, μ58 106 33 = z := ⟨_, rfl⟩
  have h67 : (0 ≤ z65 ∧ z65 ≤ 1000) := by rw [← q66]; exact T59 106 106 (A_106 hw) 33
  obtain ⟨z68, q69⟩ : ∃ z, μ58 106 1 = z := ⟨_, rfl⟩
  have h70 : (0 ≤ z68 ∧ z68 ≤ 1000) := by rw [← q69]; exact T59 106 106 (A_106 hw) 1
  refine mr_cVV (pc := 14) (c_X12_next_v hw T59 q63 q66 q69) (gOk _ _ _ _ _) dX12_sign_14 (tX12_next _ _ _ _ _) ⟨wV_X12_next, wL_X12_next⟩ wM_X12_247 (gCX12 _ _ _ _ _) rfl (A_106 hw) rfl ⟨le_t rfl, le_t rfl⟩ ⟨le_t rfl, le_t rfl⟩ rfl (le_t rfl) fun μ71 T72 F73 h74 => ?_
  obtain ⟨z75, z77, z79, z81, z83, q76, q78, q80, q82, q84, h85⟩ := h74
  have h86 : (0 ≤ z75 ∧ z75 ≤ 4) := by rw [← q76]; exact T72 106 106 (A_106 hw) 37
  have h87 : (0 ≤ z77 ∧ z77 ≤ 1000) := by rw [← q78]; exact T72 106 106 (A_106 hw) 33
  have h88 : (0 ≤ z79 ∧ z79 ≤ 1000) := by rw [← q80]; exact T72 106 106 (A_106 hw) 34
  have h89 : (0 ≤ z81 ∧ z81 ≤ 3) := by rw [← q82]; exact T72 106 106 (A_106 hw) 35
  have h90 : ((-2147483648) ≤ z83 ∧ z83 ≤ 2147483647) := by rw [← q84]; exact T72 106 106 (A_106 hw) 36
  exact mr_vret dX12_sign_17 rfl (le_t rfl) (le_t rfl) T72 (mF.call (mF.call mF.refl F60 rfl) F73 rfl) ⟨(((((((((((h61.1 T59 F60) z62 q63 h64) z65 q66 h67) z68 q69 h70) μ71 F73 T72) z75 q76) z77 q78) z79 q80) z81 q82) z83 q84) h85.2.2.2.2.2.2.2.1), trivial⟩
def WJ_X12_within_Wx_1 (w : mW) (μ : mM) (Q : Int → mM → Prop) (μ25 : mM) : Prop := mT w μ25 → mF [106037, 106038] w μ μ25 → ∀ z31 : Int, μ25 106 36 = z31 → ((-2147483648) ≤ z31 ∧ z31 ≤ 2147483647) → ∀ z34 : Int, μ25 106 37 = z34 → (0 ≤ z34 ∧ z34 ≤ 4) → ∀ z37 : Int, μ25 106 33 = z37 → (0 ≤ z37 ∧ z37 ≤ 1000) → ∀ z40 : Int, μ25 106 1 = z40 → (0 ≤ z40 ∧ z40 ≤ 1000) → ∀ μ43 : mM, mF [106033, 106034, 106035, 106036, 106037, 106038] w μ25 μ43 → mT w μ43 → ∀ z47 : Int, μ43 106 37 = z47 → ∀ z49 : Int, μ43 106 33 = z49 → ∀ z51 : Int, μ43 106 34 = z51 → ∀ z53 : Int, μ43 106 35 = z53 → ∀ z55 : Int, μ43 106 36 = z55 → nxR μ25 μ43 → Q z31 μ43
def WP_X12_within_Wx (w : mW) (μ : mM) (p1 : Int) (p2 : Int) (Q : Int → mM → Prop) : Prop := ∀ z1 : Int, μ 106 35 = z1 → (0 ≤ z1 ∧ z1 ≤ 3) → ((z1 = 2) → ∀ z65 : Int, μ 106 36 = z65 → ((-2147483648) ≤ z65 ∧ z65 ≤ 2147483647) → WP_X12_in_W w μ z65 p1 p2 (fun z72 _ => (0 ≤ z72 ∧ z72 ≤ 1) → ((¬ z72 = 0) → (WJ_X12_within_Wx_1 w μ Q) μ) ∧ ((z72 = 0) → WP_X12_wrong_Wx w μ (3) (fun μ78 => mT w μ78 → mF [106037, 106038] w μ μ78 → (WJ_X12_within_Wx_1 w μ Q) μ78)))) ∧ ((¬ z1 = 2) → WP_X12_wrong_Wx w μ (2) (fun μ82 => mT w μ82 → mF [106037, 106038] w μ μ82 → (WJ_X12_within_Wx_1 w μ Q) μ82))
theorem vc_X12_within_Wx_2 {p1 p2 z65 z72 : Int} (h0 : ¬ z72 = 0) (h1 : (z72 = 1 → p1 ≤ z65 ∧ z65 ≤ p2)) (h2 : (z72 = 0 → z65 < p1 ∨ p2 < z65)) (h3 : (-2147483648) ≤ p1 ∧ p1 ≤ 2147483647) (h4 : (-2147483648) ≤ p2 ∧ p2 ≤ 2147483647) (h5 : (-2147483648) ≤ z65 ∧ z65 ≤ 2147483647) (h6 : 0 ≤ z72 ∧ z72 ≤ 1) : 1 ≤ z72 ∧ z72 ≤ 1 := by omega
theorem vc_X12_within_Wx_3 {p1 p2 z65 z72 : Int} (h0 : (z72 = 1 → p1 ≤ z65 ∧ z65 ≤ p2)) (h1 : (z72 = 0 → z65 < p1 ∨ p2 < z65)) (h2 : ¬ z72 = 0) (h3 : (-2147483648) ≤ p1 ∧ p1 ≤ 2147483647) (h4 : (-2147483648) ≤ p2 ∧ p2 ≤ 2147483647) (h5 : (-2147483648) ≤ z65 ∧ z65 ≤ 2147483647) (h6 : 1 ≤ z72 ∧ z72 ≤ 1) : z72 = 1 := by omega
theorem vc_X12_within_Wx_4 {p1 p2 z65 z72 : Int} (h0 : z72 = 0) (h1 : (z72 = 1 → p1 ≤ z65 ∧ z65 ≤ p2)) (h2 : (z72 = 0 → z65 < p1 ∨ p2 < z65)) (h3 : (-2147483648) ≤ p1 ∧ p1 ≤ 2147483647) (h4 : (-2147483648) ≤ p2 ∧ p2 ≤ 2147483647) (h5 : (-2147483648) ≤ z65 ∧ z65 ≤ 2147483647) (h6 : 0 ≤ z72 ∧ z72 ≤ 1) : 0 ≤ z72 ∧ z72 ≤ 0 := by omega
theorem vc_X12_within_Wx_5 {p1 p2 z65 z72 : Int} (h0 : (z72 = 1 → p1 ≤ z65 ∧ z65 ≤ p2)) (h1 : (z72 = 0 → z65 < p1 ∨ p2 < z65)) (h2 : z72 = 0) (h3 : (-2147483648) ≤ p1 ∧ p1 ≤ 2147483647) (h4 : (-2147483648) ≤ p2 ∧ p2 ≤ 2147483647) (h5 : (-2147483648) ≤ z65 ∧ z65 ≤ 2147483647) (h6 : 0 ≤ z72 ∧ z72 ≤ 0) : z72 = 0 := by omega
set_option maxRecDepth 4000 in
set_option maxHeartbeats 4000000 in
theorem c_X12_within_Wx {l : Launch} {D : va_G} {c : Nat → ClassId} {H0 : Heap} {sa : Nat × Nat × (Nat → Int32)} {w : mW} {μ : mM} (hw : mWF w) (hT : mT w μ) {p1 : Int} (hp1 : (-2147483648) ≤ p1 ∧ p1 ≤ 2147483647) {p2 : Int} (hp2 : (-2147483648) ≤ p2 ∧ p2 ≤ 2147483647) {Q : Int → mM → Prop} (hQ : WP_X12_within_Wx w μ p1 p2 Q) : sC (gG l D c H0 sa) mX12_within 3 0 0 [.ref 106, iv p1, iv p2] (mk w μ) (qI w [106033, 106034, 106035, 106036, 106037, 106038] μ (fun z μ1 => ((-2147483648) ≤ z ∧ z ≤ 2147483647) ∧ Q z μ1 ∧ True)) := by
  refine sC.of rfl (by decide) (le_t rfl) ?_
  refine mr_lvE (lv' := [(0, .ref 106), (1, iv p1), (2, iv p2)]) rfl ?_
  refine sv_aload_n (pc := 0) dX12_within_0 rfl rfl ?_
  refine gf_X12_35 (pc := 1) dX12_within_1 wF_X12_230 (A_106 hw) hT fun z1 q2 h3 => ?_
  refine mr_iconst (pc := 4) (z := 2) dX12_within_4 ?_
  have J29 : ∀ (μ25 : mM), (mT w μ25) → (mF [106037, 106038] w μ μ25) → ((WJ_X12_within_Wx_1 w μ Q) μ25) → sV (gG l D c H0 sa) mX12_within (sRm 3 0 0) (sZ (gG l D c H0 sa) 0 0 (qI w [106033, 106034, 106035, 106036, 106037, 106038] μ (fun z μ1 => ((-2147483648) ≤ z ∧ z ≤ 2147483647) ∧ Q z μ1 ∧ True))) 33 [(0, .ref 106)] [] (mk w μ25) 0 0 := by
    intro μ25 T26 F27 W30
    refine sv_aload_n (pc := 33) dX12_within_33 rfl rfl ?_
    refine gf_X12_36 (pc := 34) dX12_within_34 wF_X12_233 (A_106 hw) T26 fun z31 q32 h33 => ?_
    refine mr_istore_n (pc := 37) (lv' := [(3, iv z31), (0, .ref 106)]) dX12_within_37 rfl (by decide) rfl ?_
    refine sv_aload_n (pc := 38) dX12_within_38 rfl rfl ?_
    obtain ⟨z34, q35⟩ : ∃ z, μ25 106 37 = z := ⟨_, rfl⟩
    have h36 : (0 ≤ z34 ∧ z34 ≤ 4) := by rw [← q35]; exact T26 106 106 (A_106 hw) 37
    obtain ⟨z37, q38⟩ : ∃ z, μ25 106 33 = z := ⟨_, rfl⟩
    have h39 : (0 ≤ z37 ∧ z37 ≤ 1000) := by rw [← q38]; exact T26 106 106 (A_106 hw) 33
    obtain ⟨z40, q41⟩ : ∃ z, μ25 106 1 = z := ⟨_, rfl⟩
    have h42 : (0 ≤ z40 ∧ z40 ≤ 1000) := by rw [← q41]; exact T26 106 106 (A_106 hw) 1
    refine mr_cVV (pc := 39) (c_X12_next_v hw T26 q35 q38 q41) (gOk _ _ _ _ _) dX12_within_39 (tX12_next _ _ _ _ _) ⟨wV_X12_next, wL_X12_next⟩ wM_X12_247 (gCX12 _ _ _ _ _) rfl (A_106 hw) rfl ⟨le_t rfl, le_t rfl⟩ ⟨le_t rfl, le_t rfl⟩ rfl (le_t rfl) fun μ43 T44 F45 h46 => ?_
    obtain ⟨z47, z49, z51, z53, z55, q48, q50, q52, q54, q56, h57⟩ := h46
    have h58 : (0 ≤ z47 ∧ z47 ≤ 4) := by rw [← q48]; exact T44 106 106 (A_106 hw) 37
    have h59 : (0 ≤ z49 ∧ z49 ≤ 1000) := by rw [← q50]; exact T44 106 106 (A_106 hw) 33
    have h60 : (0 ≤ z51 ∧ z51 ≤ 1000) := by rw [← q52]; exact T44 106 106 (A_106 hw) 34
    have h61 : (0 ≤ z53 ∧ z53 ≤ 3) := by rw [← q54]; exact T44 106 106 (A_106 hw) 35
    have h62 : ((-2147483648) ≤ z55 ∧ z55 ≤ 2147483647) := by rw [← q56]; exact T44 106 106 (A_106 hw) 36
    refine mr_iload_n (pc := 42) (z := z31) dX12_within_42 rfl rfl ?_
    exact mr_iret dX12_within_43 rfl (le_t rfl) (le_t rfl) T44 (mF.call (mF.call mF.refl F27 rfl) F45 rfl) ⟨h33, ((((((((((((W30 T26 F27) z31 q32 h33) z34 q35 h36) z37 q38 h39) z40 q41 h42) μ43 F45 T44) z47 q48) z49 q50) z51 q52) z53 q54) z55 q56) h57.2.2.2.2.2.2.2.1), trivial⟩
  refine mr_icmp_eq (pc := 5) (tgt := 16) dX12_within_5 (by decide) (r32 h3 rfl) (r32 (rR (x := 2)) rfl) (fun h63 => ?_) (fun h63 => ?_)
  · have h64 : 2 ≤ z1 ∧ z1 ≤ 2 := (vc_X10_firstWrongStep_8 h63 h3)
    refine sv_aload_n (pc := 16) dX12_within_16 rfl rfl ?_
    refine gf_X12_36 (pc := 17) dX12_within_17 wF_X12_233 (A_106 hw) hT fun z65 q66 h67 => ?_
    refine mr_iload_n (pc := 20) (z := p1) dX12_within_20 rfl rfl ?_
    refine mr_iload_n (pc := 21) (z := p2) dX12_within_21 rfl rfl ?_
    refine mr_cSP (pc := 22) (c_X12_in_W hw hT h67 hp1 hp2 (((hQ z1 q2 h3).1 h63) z65 q66 h67)) (gOk _ _ _ _ _) dX12_within_22 (tX12_in _ _ _ _ _) wS_X12_in wM_X12_18 ⟨le_t rfl, le_t rfl⟩ ⟨le_t rfl, le_t rfl⟩ rfl (le_t rfl) fun z72 h71 => ?_
    refine mr_if_ne (pc := 25) (tgt := 33) dX12_within_25 (by decide) (r32 h71.1 rfl) (fun h73 => ?_) (fun h73 => ?_)
    · have h74 : 1 ≤ z72 ∧ z72 ≤ 1 := (vc_X12_within_Wx_2 h73 h71.2.1 h71.2.2.1 hp1 hp2 h67 h71.1)
      have h75 : p1 ≤ z65 ∧ z65 ≤ p2 := (h71.2.1 (vc_X12_within_Wx_3 h71.2.1 h71.2.2.1 h73 hp1 hp2 h67 h74))
      refine mr_lvS (lv' := [(0, .ref 106)]) (List.forall_mem_cons.mpr ⟨rfl, fun _ h => absurd h List.not_mem_nil⟩) ?_
      exact J29 μ hT mF.refl ((h71.2.2.2.1 h71.1).1 h73)
    have h76 : 0 ≤ z72 ∧ z72 ≤ 0 := (vc_X12_within_Wx_4 h73 h71.2.1 h71.2.2.1 hp1 hp2 h67 h71.1)
    have h77 : z65 < p1 ∨ p2 < z65 := (h71.2.2.1 (vc_X12_within_Wx_5 h71.2.1 h71.2.2.1 h73 hp1 hp2 h67 h76))
    refine sv_aload_n (pc := 28) dX12_within_28 rfl rfl ?_
    refine mr_iconst (pc := 29) (z := 3) dX12_within_29 ?_
    refine mr_cVV (pc := 30) (c_X12_wrong_Wx hw hT (rW (c := 1) (d := 4) (rR (x := 3)) rfl) ((h71.2.2.2.1 h71.1).2 h73)) (gOk _ _ _ _ _) dX12_within_30 (tX12_wrong _ _ _ _ _) ⟨wV_X12_wrong, wL_X12_wrong⟩ wM_X12_240 (gCX12 _ _ _ _ _) rfl (A_106 hw) rfl ⟨le_t rfl, le_t rfl⟩ ⟨le_t rfl, le_t rfl⟩ rfl (le_t rfl) fun μ78 T79 F80 h81 => ?_
    refine mr_lvS (lv' := [(0, .ref 106)]) (List.forall_mem_cons.mpr ⟨rfl, fun _ h => absurd h List.not_mem_nil⟩) ?_
    exact J29 μ78 T79 (mF.call mF.refl F80 rfl) (h81.1 T79 F80)
  refine sv_aload_n (pc := 8) dX12_within_8 rfl rfl ?_
  refine mr_iconst (pc := 9) (z := 2) dX12_within_9 ?_
  refine mr_cVV (pc := 10) (c_X12_wrong_Wx hw hT (rW (c := 1) (d := 4) (rR (x := 2)) rfl) ((hQ z1 q2 h3).2 h63)) (gOk _ _ _ _ _) dX12_within_10 (tX12_wrong _ _ _ _ _) ⟨wV_X12_wrong, wL_X12_wrong⟩ wM_X12_240 (gCX12 _ _ _ _ _) rfl (A_106 hw) rfl ⟨le_t rfl, le_t rfl⟩ ⟨le_t rfl, le_t rfl⟩ rfl (le_t rfl) fun μ82 T83 F84 h85 => ?_
  refine sv_goto (pc := 13) (tgt := 33) dX12_within_13 (by decide) ?_
  refine mr_lvS (lv' := [(0, .ref 106)]) (List.forall_mem_cons.mpr ⟨rfl, fun _ h => absurd h List.not_mem_nil⟩) ?_
  exact J29 μ82 T83 (mF.call mF.refl F84 rfl) (h85.1 T83 F84)
def WL_X12_addressRead_Wx_1 (w : mW) (μ : mM) (Q : Int → mM → Prop) (rec1 : (Int × Int × mM) → Prop) (s : (Int × Int × mM)) : Prop := ∀ z120 : Int, ∀ z119 : Int, ∀ μ121 : mM, s = (z120, z119, μ121) → ((-2147483648) ≤ z120 ∧ z120 ≤ 2147483647) → (0 ≤ z119 ∧ z119 ≤ 4) → mT w μ121 → mF [106033, 106034, 106035, 106036, 106037, 106038] w μ μ121 → ((4 ≤ z119) → Q z120 μ121) ∧ ((z119 < 4) → ∀ z153 : Int, bShl z120 (8 : Int) = z153 → WP_X12_within_Wx w μ121 (0) (255) (fun z160 μ156 => mT w μ156 → mF [106033, 106034, 106035, 106036, 106037, 106038] w μ121 μ156 → ((-2147483648) ≤ z160 ∧ z160 ≤ 2147483647) → ∀ z161 : Int, bOr z153 z160 = z161 → ((3 ≤ z119) → rec1 (z161, (z119 + 1), μ156)) ∧ ((z119 < 3) → WP_X12_sign_Wx w μ156 (46) (fun μ173 => mT w μ173 → mF [106033, 106034, 106035, 106036, 106037, 106038] w μ156 μ173 → rec1 (z161, (z119 + 1), μ173)))))
def WP_X12_addressRead_Wx (w : mW) (μ : mM) (Q : Int → mM → Prop) : Prop := loopF (WL_X12_addressRead_Wx_1 w μ Q) False 6 ((0 : Int), (0 : Int), μ)
theorem vc_X12_addressRead_Wx_4 {z119 : Int} (h0 : 3 ≤ z119) (h1 : z119 < 4) (h2 : 0 ≤ z119 ∧ z119 ≤ 3) : 3 ≤ z119 ∧ z119 ≤ 3 := by omega
theorem vc_X12_addressRead_Wx_5 {N z119 : Int} (h0 : (5 - z119) < N + 1) (h1 : z119 < 4) (h2 : 3 ≤ z119) (h3 : 3 ≤ z119 ∧ z119 ≤ 3) : (5 - (z119 + 1)) < N := by omega
theorem vc_X12_addressRead_Wx_6 {z119 : Int} (h0 : z119 < 3) (h1 : z119 < 4) (h2 : 0 ≤ z119 ∧ z119 ≤ 3) : 0 ≤ z119 ∧ z119 ≤ 2 := by omega
theorem vc_X12_addressRead_Wx_7 {N z119 : Int} (h0 : (5 - z119) < N + 1) (h1 : z119 < 4) (h2 : z119 < 3) (h3 : 0 ≤ z119 ∧ z119 ≤ 2) : (5 - (z119 + 1)) < N := by omega
set_option maxRecDepth 4000 in
set_option maxHeartbeats 4000000 in
theorem c_X12_addressRead_Wx {l : Launch} {D : va_G} {c : Nat → ClassId} {H0 : Heap} {sa : Nat × Nat × (Nat → Int32)} {w : mW} {μ : mM} (hw : mWF w) (hT : mT w μ) {Q : Int → mM → Prop} (hQ : WP_X12_addressRead_Wx w μ  Q) : sC (gG l D c H0 sa) mX12_addressRead 4 0 0 [.ref 106] (mk w μ) (qI w [106033, 106034, 106035, 106036, 106037, 106038] μ (fun z μ1 => ((-2147483648) ≤ z ∧ z ≤ 2147483647) ∧ Q z μ1 ∧ True)) := by
  refine sC.of rfl (by decide) (le_t rfl) ?_
  refine mr_lvE (lv' := [(0, .ref 106)]) rfl ?_
  refine mr_iconst (pc := 0) (z := 0) dX12_addressRead_0 ?_
  refine mr_istore_n (pc := 1) (lv' := [(1, iv 0), (0, .ref 106)]) dX12_addressRead_1 rfl (by decide) rfl ?_
  refine mr_iconst (pc := 2) (z := 0) dX12_addressRead_2 ?_
  refine mr_istore_n (pc := 3) (lv' := [(2, iv 0), (1, iv 0), (0, .ref 106)]) dX12_addressRead_3 rfl (by decide) rfl ?_
  have L122 : ∀ (nL122 : Nat) (z120 z119 : Int) (μ121 : mM), mT w μ121 → mF [106033, 106034, 106035, 106036, 106037, 106038] w μ μ121 → ((-2147483648) ≤ z120 ∧ z120 ≤ 2147483647) → (0 ≤ z119 ∧ z119 ≤ 4) → (5 - z119) < (nL122 : Int) → loopF (WL_X12_addressRead_Wx_1 w μ Q) False nL122 (z120, z119, μ121) → sV (gG l D c H0 sa) mX12_addressRead (sRm 4 0 0) (sZ (gG l D c H0 sa) 0 0 (qI w [106033, 106034, 106035, 106036, 106037, 106038] μ (fun z μ1 => ((-2147483648) ≤ z ∧ z ≤ 2147483647) ∧ Q z μ1 ∧ True))) 4 [(0, .ref 106), (1, iv z120), (2, iv z119)] [] (mk w μ121) 0 0 := by
    intro nL122
    induction nL122 with
    | zero => intro z120 z119 μ121 T125 F126 h123 h124 h128 W129; exact ((vc_X3_putPrefix_2 h128 h124)).elim
    | succ nL122 ih130 =>
      intro z120 z119 μ121 T125 F126 h123 h124 h128 W129
      refine mr_iload_n (pc := 4) (z := z119) dX12_addressRead_4 rfl rfl ?_
      refine mr_iconst (pc := 5) (z := 4) dX12_addressRead_5 ?_
      refine mr_icmp_ge (pc := 6) (tgt := 40) dX12_addressRead_6 (by decide) (r32 h124 rfl) (r32 (rR (x := 4)) rfl) (fun h150 => ?_) (fun h150 => ?_)
      · have h151 : 4 ≤ z119 ∧ z119 ≤ 4 := (vc_X12_message_W_2 h150 h124)
        refine mr_iload_n (pc := 40) (z := z120) dX12_addressRead_40 rfl rfl ?_
        exact mr_iret dX12_addressRead_41 rfl (le_t rfl) (le_t rfl) T125 (mF.call mF.refl F126 rfl) ⟨h123, ((W129 z120 z119 μ121 rfl h123 h124 T125 F126).1 h150), trivial⟩
      have h152 : 0 ≤ z119 ∧ z119 ≤ 3 := (vc_X12_message_W_73 h150 h124)
      refine mr_iload_n (pc := 9) (z := z120) dX12_addressRead_9 rfl rfl ?_
      refine mr_bipush (pc := 10) (z := 8) dX12_addressRead_10 (by decide) ?_
      refine mr_ishl (pc := 12) (x := z120) (y := 8) dX12_addressRead_12 ?_
      refine mr_gen (P := fun z => (-2147483648) ≤ z ∧ z ≤ 2147483647) (r32i _) fun z153 q154 h155 => ?_
      refine sv_aload_n (pc := 13) dX12_addressRead_13 rfl rfl ?_
      refine mr_iconst (pc := 14) (z := 0) dX12_addressRead_14 ?_
      refine mr_sipush (pc := 15) (z := 255) dX12_addressRead_15 (by decide) ?_
      refine mr_cVI (pc := 18) (c_X12_within_Wx hw T125 (rW (c := (-2147483648)) (d := 2147483647) (rR (x := 0)) rfl) (rW (c := (-2147483648)) (d := 2147483647) (rR (x := 255)) rfl) (((W129 z120 z119 μ121 rfl h123 h124 T125 F126).2 h150) z153 q154)) (gOk _ _ _ _ _) dX12_addressRead_18 (tX12_within _ _ _ _ _) ⟨wV_X12_within, wL_X12_within⟩ wM_X12_314 (gCX12 _ _ _ _ _) rfl (A_106 hw) rfl ⟨le_t rfl, le_t rfl⟩ ⟨le_t rfl, le_t rfl⟩ rfl (le_t rfl) fun z160 μ156 T157 F158 h159 => ?_
      refine mr_ior (pc := 21) (x := z153) (y := z160) dX12_addressRead_21 ?_
      refine mr_gen (P := fun z => (-2147483648) ≤ z ∧ z ≤ 2147483647) (r32i _) fun z161 q162 h163 => ?_
      refine mr_istore_n (pc := 22) (lv' := [(1, iv z161), (0, .ref 106), (2, iv z119)]) dX12_addressRead_22 rfl (by decide) rfl ?_
      refine mr_iload_n (pc := 23) (z := z119) dX12_addressRead_23 rfl rfl ?_
      refine mr_iconst (pc := 24) (z := 3) dX12_addressRead_24 ?_
      refine mr_icmp_ge (pc := 25) (tgt := 34) dX12_addressRead_25 (by decide) (r32 h152 rfl) (r32 (rR (x := 3)) rfl) (fun h170 => ?_) (fun h170 => ?_)
      · have h171 : 3 ≤ z119 ∧ z119 ≤ 3 := (vc_X12_addressRead_Wx_4 h170 h150 h152)
        refine mr_iinc (pc := 34) (lv' := [(2, iv (z119 + 1)), (1, iv z161), (0, .ref 106)]) dX12_addressRead_34 rfl (by decide) rfl ?_
        refine sv_goto (pc := 37) (tgt := 4) dX12_addressRead_37 (by decide) ?_
        refine mr_lvS (lv' := [(0, .ref 106), (1, iv z161), (2, iv (z119 + 1))]) (List.forall_mem_cons.mpr ⟨rfl, List.forall_mem_cons.mpr ⟨rfl, List.forall_mem_cons.mpr ⟨rfl, fun _ h => absurd h List.not_mem_nil⟩⟩⟩) ?_
        exact ih130 z161 (z119 + 1) μ156 T157 (mF.call (mF.call mF.refl F126 rfl) F158 rfl) h163 (rW (c := 0) (d := 4) (rAdd (e := 4) (f := 4) h171 (rR (x := 1)) rfl) rfl) (vc_X12_addressRead_Wx_5 (nS h128) h150 h170 h171) ((((h159.2.1 T157 F158) h159.1) z161 q162).1 h170)
      have h172 : 0 ≤ z119 ∧ z119 ≤ 2 := (vc_X12_addressRead_Wx_6 h170 h150 h152)
      refine sv_aload_n (pc := 28) dX12_addressRead_28 rfl rfl ?_
      refine mr_bipush (pc := 29) (z := 46) dX12_addressRead_29 (by decide) ?_
      refine mr_cVV (pc := 31) (c_X12_sign_Wx hw T157 (rW (c := (-2147483648)) (d := 2147483647) (rR (x := 46)) rfl) ((((h159.2.1 T157 F158) h159.1) z161 q162).2 h170)) (gOk _ _ _ _ _) dX12_addressRead_31 (tX12_sign _ _ _ _ _) ⟨wV_X12_sign, wL_X12_sign⟩ wM_X12_317 (gCX12 _ _ _ _ _) rfl (A_106 hw) rfl ⟨le_t rfl, le_t rfl⟩ ⟨le_t rfl, le_t rfl⟩ rfl (le_t rfl) fun μ173 T174 F175 h176 => ?_
      refine mr_iinc (pc := 34) (lv' := [(2, iv (z119 + 1)), (1, iv z161), (0, .ref 106)]) dX12_addressRead_34 rfl (by decide) rfl ?_
      refine sv_goto (pc := 37) (tgt := 4) dX12_addressRead_37 (by decide) ?_
      refine mr_lvS (lv' := [(0, .ref 106), (1, iv z161), (2, iv (z119 + 1))]) (List.forall_mem_cons.mpr ⟨rfl, List.forall_mem_cons.mpr ⟨rfl, List.forall_mem_cons.mpr ⟨rfl, fun _ h => absurd h List.not_mem_nil⟩⟩⟩) ?_
      exact ih130 z161 (z119 + 1) μ173 T174 (mF.call (mF.call (mF.call mF.refl F126 rfl) F158 rfl) F175 rfl) h163 (rW (c := 0) (d := 4) (rAdd (e := 1) (f := 3) h172 (rR (x := 1)) rfl) rfl) (vc_X12_addressRead_Wx_7 (nS h128) h150 h170 h172) (h176.1 T174 F175)
  refine mr_lvS (lv' := [(0, .ref 106), (1, iv 0), (2, iv 0)]) (List.forall_mem_cons.mpr ⟨rfl, List.forall_mem_cons.mpr ⟨rfl, List.forall_mem_cons.mpr ⟨rfl, fun _ h => absurd h List.not_mem_nil⟩⟩⟩) ?_
  exact L122 6 0 0 μ hT mF.refl (rW (c := (-2147483648)) (d := 2147483647) (rR (x := 0)) rfl) (rW (c := 0) (d := 4) (rR (x := 0)) rfl) vc_X12_prefixOut_14 hQ
def WL_X12_follows_W_1 (w : mW) (μ : mM) (p1 : Int) (p2 : Int) (Q : mM → Prop) (rec1 : (Int × mM) → Prop) (s : (Int × mM)) : Prop := ∀ z269 : Int, ∀ μ270 : mM, s = (z269, μ270) → (0 ≤ z269 ∧ z269 ≤ 41) → mT w μ270 → mF [144999] w μ μ270 → ((41 ≤ z269) → Q μ270) ∧ ((z269 < 41) → ∀ z306 : Int, lShr p1 z269 = z306 → ∀ z309 : Int, lAnd z306 (1 : Int) = z309 → ∀ z312 : Int, lCmp z309 (1 : Int) = z312 → ((¬ z312 = 0) → rec1 ((z269 + 1), μ270)) ∧ ((z312 = 0) → ∀ z330 : Int, μ270 106 58 = z330 → (0 ≤ z330 ∧ z330 ≤ 12) → ∀ z333 : Int, μ270 144 (((41 * z330) + z269).toNat) = z333 → ((-9223372036854775808) ≤ z333 ∧ z333 ≤ 9223372036854775807) → ∀ z336 : Int, lOr z333 p2 = z336 → ∀ μ339 : mM, mU μ270 144 (((41 * z330) + z269).toNat) z336 μ339 → mT w μ339 → rec1 ((z269 + 1), μ339)))
def WP_X12_follows_W (w : mW) (μ : mM) (p1 : Int) (p2 : Int) (Q : mM → Prop) : Prop := loopF (WL_X12_follows_W_1 w μ p1 p2 Q) False 43 ((0 : Int), μ)
theorem vc_X12_follows_W_1 {z269 : Int} (h0 : (42 - z269) < ((0 : Nat) : Int)) (h1 : 0 ≤ z269 ∧ z269 ≤ 41) : False := by omega
theorem vc_X12_follows_W_2 {z269 : Int} (h0 : 41 ≤ z269) (h1 : 0 ≤ z269 ∧ z269 ≤ 41) : 41 ≤ z269 ∧ z269 ≤ 41 := by omega
theorem vc_X12_follows_W_3 {z269 : Int} (h0 : z269 < 41) (h1 : 0 ≤ z269 ∧ z269 ≤ 41) : 0 ≤ z269 ∧ z269 ≤ 40 := by omega
theorem vc_X12_follows_W_4 {N z269 : Int} (h0 : (42 - z269) < N + 1) (h1 : z269 < 41) (h2 : 0 ≤ z269 ∧ z269 ≤ 40) : (42 - (z269 + 1)) < N := by omega
theorem vc_X12_follows_W_6  : (42 - 0) < ((43 : Nat) : Int) := by omega
set_option maxRecDepth 4000 in
set_option maxHeartbeats 4000000 in
theorem c_X12_follows_W {l : Launch} {D : va_G} {c : Nat → ClassId} {H0 : Heap} {sa : Nat × Nat × (Nat → Int32)} {w : mW} {μ : mM} (hw : mWF w) (hT : mT w μ) {p1 : Int} (hp1 : (-9223372036854775808) ≤ p1 ∧ p1 ≤ 9223372036854775807) {p2 : Int} (hp2 : (-9223372036854775808) ≤ p2 ∧ p2 ≤ 9223372036854775807) {Q : mM → Prop} (hQ : WP_X12_follows_W w μ p1 p2 Q) : sC (gG l D c H0 sa) mX12_follows 1 0 0 [.ref 106, jv p1, jv p2] (mk w μ) (qV w [144999] μ (fun μ1 => Q μ1 ∧ True)) := by
  refine sC.of rfl (by decide) (le_t rfl) ?_
  refine mr_lvE (lv' := [(0, .ref 106), (1, jv p1), (3, jv p2)]) rfl ?_
  refine mr_iconst (pc := 0) (z := 0) dX12_follows_0 ?_
  refine mr_istore (pc := 1) (lv' := [(5, iv 0), (0, .ref 106), (1, jv p1), (3, jv p2)]) dX12_follows_1 (by decide) rfl ?_
  have L271 : ∀ (nL271 : Nat) (z269 : Int) (μ270 : mM), mT w μ270 → mF [144999] w μ μ270 → (0 ≤ z269 ∧ z269 ≤ 41) → (42 - z269) < (nL271 : Int) → loopF (WL_X12_follows_W_1 w μ p1 p2 Q) False nL271 (z269, μ270) → sV (gG l D c H0 sa) mX12_follows (sRm 1 0 0) (sZ (gG l D c H0 sa) 0 0 (qV w [144999] μ (fun μ1 => Q μ1 ∧ True))) 3 [(0, .ref 106), (1, jv p1), (3, jv p2), (5, iv z269)] [] (mk w μ270) 0 0 := by
    intro nL271
    induction nL271 with
    | zero => intro z269 μ270 T273 F274 h272 h276 W277; exact ((vc_X12_follows_W_1 h276 h272)).elim
    | succ nL271 ih278 =>
      intro z269 μ270 T273 F274 h272 h276 W277
      refine mr_iload (pc := 3) (z := z269) dX12_follows_3 rfl ?_
      refine mr_bipush (pc := 5) (z := 41) dX12_follows_5 (by decide) ?_
      refine mr_icmp_ge (pc := 7) (tgt := 46) dX12_follows_7 (by decide) (r32 h272 rfl) (r32 (rR (x := 41)) rfl) (fun h303 => ?_) (fun h303 => ?_)
      · have h304 : 41 ≤ z269 ∧ z269 ≤ 41 := (vc_X12_follows_W_2 h303 h272)
        exact mr_vret dX12_follows_46 rfl (le_t rfl) (le_t rfl) T273 (mF.call mF.refl F274 rfl) ⟨((W277 z269 μ270 rfl h272 T273 F274).1 h303), trivial⟩
      have h305 : 0 ≤ z269 ∧ z269 ≤ 40 := (vc_X12_follows_W_3 h303 h272)
      refine mr_lload_n (pc := 10) (z := p1) dX12_follows_10 rfl rfl ?_
      refine mr_iload (pc := 11) (z := z269) dX12_follows_11 rfl ?_
      refine mr_lshr (pc := 13) dX12_follows_13 ?_
      refine mr_genL (r64i _) fun z306 q307 h308 => ?_
      refine mr_lconst (pc := 14) (z := 1) dX12_follows_14 (by decide) ?_
      refine mr_land (pc := 15) dX12_follows_15 ?_
      refine mr_genL (r64i _) fun z309 q310 h311 => ?_
      refine mr_lconst (pc := 16) (z := 1) dX12_follows_16 (by decide) ?_
      refine mr_lcmp (pc := 17) dX12_follows_17 ?_
      refine mr_gen (P := fun z => (-1) ≤ z ∧ z ≤ 1) (lg_cmp_r _ _) fun z312 q313 h314 => ?_
      refine mr_if_ne (pc := 18) (tgt := 40) dX12_follows_18 (by decide) (r32 h314 rfl) (fun h328 => ?_) (fun h328 => ?_)
      · refine mr_iinc (pc := 40) (lv' := [(5, iv (z269 + 1)), (0, .ref 106), (1, jv p1), (3, jv p2)]) dX12_follows_40 rfl (by decide) rfl ?_
        refine sv_goto (pc := 43) (tgt := 3) dX12_follows_43 (by decide) ?_
        refine mr_lvS (lv' := [(0, .ref 106), (1, jv p1), (3, jv p2), (5, iv (z269 + 1))]) (List.forall_mem_cons.mpr ⟨rfl, List.forall_mem_cons.mpr ⟨rfl, List.forall_mem_cons.mpr ⟨rfl, List.forall_mem_cons.mpr ⟨rfl, fun _ h => absurd h List.not_mem_nil⟩⟩⟩⟩) ?_
        exact ih278 (z269 + 1) μ270 T273 (mF.call mF.refl F274 rfl) (rW (c := 0) (d := 41) (rAdd (e := 1) (f := 41) h305 (rR (x := 1)) rfl) rfl) (vc_X12_follows_W_4 (nS h276) h303 h305) ((((((W277 z269 μ270 rfl h272 T273 F274).2 h303) z306 q307) z309 q310) z312 q313).1 h328)
      have h329 : 0 ≤ z312 ∧ z312 ≤ 0 := (vc_X12_waysMatch_5 h328 h314)
      refine sv_aload_n (pc := 21) dX12_follows_21 rfl rfl ?_
      refine gf_X12_57 (pc := 22) dX12_follows_22 wF_X12_275 (A_106 hw) T273 ?_
      refine mr_bipush (pc := 25) (z := 41) dX12_follows_25 (by decide) ?_
      refine sv_aload_n (pc := 27) dX12_follows_27 rfl rfl ?_
      refine gf_X12_58 (pc := 28) dX12_follows_28 wF_X12_278 (A_106 hw) T273 fun z330 q331 h332 => ?_
      refine mr_imul (pc := 31) (x := 41) (y := z330) dX12_follows_31 ?_
      refine mr_iload (pc := 32) (z := z269) dX12_follows_32 rfl ?_
      refine mr_iadd (pc := 34) (x := (41 * z330)) (y := z269) dX12_follows_34 ?_
      refine sv_dup2 (pc := 35) dX12_follows_35 rfl rfl ?_
      refine la_144 (pc := 36) dX12_follows_36 (A_144 hw) T273 (rIx (n := 533) (rAdd (e := 0) (f := 532) (rMulL (n := 41) (e := 0) (f := 492) h332 rfl) h305 rfl) rfl) fun z333 q334 h335 => ?_
      refine mr_lload_n (pc := 37) (z := p2) dX12_follows_37 rfl rfl ?_
      refine mr_lor (pc := 38) dX12_follows_38 ?_
      refine mr_genL (r64i _) fun z336 q337 h338 => ?_
      refine ss_144 (pc := 39) dX12_follows_39 (A_144 hw) T273 (rIx (n := 533) (rAdd (e := 0) (f := 532) (rMulL (n := 41) (e := 0) (f := 492) h332 rfl) h305 rfl) rfl) h338 fun μ339 u340 T341 => ?_
      refine mr_iinc (pc := 40) (lv' := [(5, iv (z269 + 1)), (0, .ref 106), (1, jv p1), (3, jv p2)]) dX12_follows_40 rfl (by decide) rfl ?_
      refine sv_goto (pc := 43) (tgt := 3) dX12_follows_43 (by decide) ?_
      refine mr_lvS (lv' := [(0, .ref 106), (1, jv p1), (3, jv p2), (5, iv (z269 + 1))]) (List.forall_mem_cons.mpr ⟨rfl, List.forall_mem_cons.mpr ⟨rfl, List.forall_mem_cons.mpr ⟨rfl, List.forall_mem_cons.mpr ⟨rfl, fun _ h => absurd h List.not_mem_nil⟩⟩⟩⟩) ?_
      exact ih278 (z269 + 1) μ339 T341 (mF.up (mF.call mF.refl F274 rfl) (A_144 hw) u340 rfl) (rW (c := 0) (d := 41) (rAdd (e := 1) (f := 41) h305 (rR (x := 1)) rfl) rfl) (vc_X12_follows_W_4 (nS h276) h303 h305) ((((((((((W277 z269 μ270 rfl h272 T273 F274).2 h303) z306 q307) z309 q310) z312 q313).2 h328) z330 q331 h332) z333 q334 h335) z336 q337) μ339 u340 T341)
  refine mr_lvS (lv' := [(0, .ref 106), (1, jv p1), (3, jv p2), (5, iv 0)]) (List.forall_mem_cons.mpr ⟨rfl, List.forall_mem_cons.mpr ⟨rfl, List.forall_mem_cons.mpr ⟨rfl, List.forall_mem_cons.mpr ⟨rfl, fun _ h => absurd h List.not_mem_nil⟩⟩⟩⟩) ?_
  exact L271 43 0 μ hT mF.refl (rW (c := 0) (d := 41) (rR (x := 0)) rfl) vc_X12_follows_W_6 hQ
def WJ_X12_piece_Wx_5 (w : mW) (Q : mM → Prop) (z72 : Int) (z196 : Int) (z208 : Int) (μ222 : mM) (z233 : Int) : Prop := ((-9223372036854775808) ≤ z233 ∧ z233 ≤ 9223372036854775807) → ∀ μ237 : mM, mU μ222 149 ((z196 - 1).toNat) z233 μ237 → mT w μ237 → ((z208 = 0) → ∀ μ246 : mM, mU μ237 150 ((z196 - 1).toNat) (0 : Int) μ246 → mT w μ246 → Q μ246) ∧ ((¬ z208 = 0) → ((z72 = 0) → ∀ μ254 : mM, mU μ237 150 ((z196 - 1).toNat) (0 : Int) μ254 → mT w μ254 → Q μ254) ∧ ((¬ z72 = 0) → ∀ μ258 : mM, mU μ237 150 ((z196 - 1).toNat) (1 : Int) μ258 → mT w μ258 → Q μ258))
def WJ_X12_piece_Wx_4 (w : mW) (p2 : Int) (Q : mM → Prop) (z72 : Int) (z196 : Int) (z201 : Int) (μ204 : mM) (z208 : Int) (μ222 : mM) : Prop := mT w μ222 → mF [148999] w μ204 μ222 → ((z72 = 0) → (WJ_X12_piece_Wx_5 w Q z72 z196 z208 μ222) p2) ∧ ((¬ z72 = 0) → ∀ z264 : Int, lOr z201 p2 = z264 → (WJ_X12_piece_Wx_5 w Q z72 z196 z208 μ222) z264)
def WJ_X12_piece_Wx_3 (w : mW) (p1 : Int) (p2 : Int) (Q : mM → Prop) (μ42 : mM) (z72 : Int) (μ190 : mM) : Prop := mT w μ190 → mF [106033, 106034, 106035, 106036, 106037, 106038] w μ42 μ190 → ∀ z196 : Int, μ190 106 59 = z196 → (0 ≤ z196 ∧ z196 ≤ 6) → ((1 : Int) ≤ z196) ∧ ∀ _ : True, ∀ z201 : Int, μ190 149 ((z196 - 1).toNat) = z201 → ((-9223372036854775808) ≤ z201 ∧ z201 ≤ 9223372036854775807) → WP_X12_follows_W w μ190 z201 p1 (fun μ204 => mT w μ204 → mF [144999] w μ190 μ204 → ∀ z208 : Int, μ204 150 ((z196 - 1).toNat) = z208 → (0 ≤ z208 ∧ z208 ≤ 1) → ((z208 = 0) → (WJ_X12_piece_Wx_4 w p2 Q z72 z196 z201 μ204 z208) μ204) ∧ ((¬ z208 = 0) → ∀ z270 : Int, μ204 148 ((z196 - 1).toNat) = z270 → ((-9223372036854775808) ≤ z270 ∧ z270 ≤ 9223372036854775807) → ∀ z273 : Int, lOr z270 p1 = z273 → ∀ μ276 : mM, mU μ204 148 ((z196 - 1).toNat) z273 μ276 → mT w μ276 → (WJ_X12_piece_Wx_4 w p2 Q z72 z196 z201 μ204 z208) μ276))
def WJ_X12_piece_Wx_2 (w : mW) (p1 : Int) (p2 : Int) (Q : mM → Prop) (μ42 : mM) (z72 : Int) : Prop := (0 ≤ z72 ∧ z72 ≤ 1) → WP_X12_isSign_W w μ42 (42) (fun z80 _ => (0 ≤ z80 ∧ z80 ≤ 1) → ((¬ z80 = 0) → ∀ z285 : Int, μ42 106 33 = z285 → (0 ≤ z285 ∧ z285 ≤ 1000) → ∀ z288 : Int, μ42 106 1 = z288 → (0 ≤ z288 ∧ z288 ≤ 1000) → ∀ μ291 : mM, mF [106033, 106034, 106035, 106036, 106037, 106038] w μ42 μ291 → mT w μ291 → ∀ z295 : Int, μ291 106 37 = z295 → ∀ z297 : Int, μ291 106 33 = z297 → ∀ z299 : Int, μ291 106 34 = z299 → ∀ z301 : Int, μ291 106 35 = z301 → ∀ z303 : Int, μ291 106 36 = z303 → nxR μ42 μ291 → (WJ_X12_piece_Wx_3 w p1 p2 Q μ42 z72) μ291) ∧ ((z80 = 0) → WP_X12_isSign_W w μ42 (43) (fun z317 _ => (0 ≤ z317 ∧ z317 ≤ 1) → ((¬ z317 = 0) → ∀ z324 : Int, μ42 106 33 = z324 → (0 ≤ z324 ∧ z324 ≤ 1000) → ∀ z327 : Int, μ42 106 1 = z327 → (0 ≤ z327 ∧ z327 ≤ 1000) → ∀ μ330 : mM, mF [106033, 106034, 106035, 106036, 106037, 106038] w μ42 μ330 → mT w μ330 → ∀ z334 : Int, μ330 106 37 = z334 → ∀ z336 : Int, μ330 106 33 = z336 → ∀ z338 : Int, μ330 106 34 = z338 → ∀ z340 : Int, μ330 106 35 = z340 → ∀ z342 : Int, μ330 106 36 = z342 → nxR μ42 μ330 → (WJ_X12_piece_Wx_3 w p1 p2 Q μ42 z72) μ330) ∧ ((z317 = 0) → WP_X12_isSign_W w μ42 (63) (fun z356 _ => (0 ≤ z356 ∧ z356 ≤ 1) → ((z356 = 0) → (WJ_X12_piece_Wx_3 w p1 p2 Q μ42 z72) μ42) ∧ ((¬ z356 = 0) → ∀ z365 : Int, μ42 106 33 = z365 → (0 ≤ z365 ∧ z365 ≤ 1000) → ∀ z368 : Int, μ42 106 1 = z368 → (0 ≤ z368 ∧ z368 ≤ 1000) → ∀ μ371 : mM, mF [106033, 106034, 106035, 106036, 106037, 106038] w μ42 μ371 → mT w μ371 → ∀ z375 : Int, μ371 106 37 = z375 → ∀ z377 : Int, μ371 106 33 = z377 → ∀ z379 : Int, μ371 106 34 = z379 → ∀ z381 : Int, μ371 106 35 = z381 → ∀ z383 : Int, μ371 106 36 = z383 → nxR μ42 μ371 → (WJ_X12_piece_Wx_3 w p1 p2 Q μ42 z72) μ371))))))
def WJ_X12_piece_Wx_1 (w : mW) (μ : mM) (p1 : Int) (p2 : Int) (p3 : Int) (Q : mM → Prop) (μ42 : mM) : Prop := mT w μ42 → mF [144999] w μ μ42 → WP_X12_isSign_W w μ42 (42) (fun z52 _ => (0 ≤ z52 ∧ z52 ≤ 1) → ((¬ z52 = 0) → (WJ_X12_piece_Wx_2 w p1 p2 Q μ42) (1 : Int)) ∧ ((z52 = 0) → WP_X12_isSign_W w μ42 (63) (fun z403 _ => (0 ≤ z403 ∧ z403 ≤ 1) → ((z403 = 0) → (WJ_X12_piece_Wx_2 w p1 p2 Q μ42) p3) ∧ ((¬ z403 = 0) → (WJ_X12_piece_Wx_2 w p1 p2 Q μ42) (1 : Int)))))
def WP_X12_piece_Wx (w : mW) (μ : mM) (p1 : Int) (p2 : Int) (p3 : Int) (Q : mM → Prop) : Prop := ∀ z1 : Int, μ 106 37 = z1 → (0 ≤ z1 ∧ z1 ≤ 4) → ∀ z4 : Int, μ 106 35 = z4 → (0 ≤ z4 ∧ z4 ≤ 3) → ∀ z7 : Int, μ 106 36 = z7 → ((-2147483648) ≤ z7 ∧ z7 ≤ 2147483647) → WP_X12_isSign_W w μ (42) (fun z14 _ => (0 ≤ z14 ∧ z14 ≤ 1) → ((¬ z14 = 0) → WP_X12_follows_W w μ p2 p1 (fun μ418 => mT w μ418 → mF [144999] w μ μ418 → (WJ_X12_piece_Wx_1 w μ p1 p2 p3 Q) μ418)) ∧ ((z14 = 0) → WP_X12_isSign_W w μ (43) (fun z428 _ => (0 ≤ z428 ∧ z428 ≤ 1) → ((z428 = 0) → (WJ_X12_piece_Wx_1 w μ p1 p2 p3 Q) μ) ∧ ((¬ z428 = 0) → WP_X12_follows_W w μ p2 p1 (fun μ437 => mT w μ437 → mF [144999] w μ μ437 → (WJ_X12_piece_Wx_1 w μ p1 p2 p3 Q) μ437)))))
theorem vc_X12_piece_Wx_1 {z196 : Int} (h0 : 1 ≤ z196) (h1 : 0 ≤ z196 ∧ z196 ≤ 6) : 1 ≤ z196 ∧ z196 ≤ 6 := by omega
theorem vc_X12_piece_Wx_6 {z1 z4 z7 z80 : Int} (h0 : ¬ z80 = 0) (h1 : (z80 = 1 → z1 = 0 ∧ z4 = 3 ∧ z7 = (42 : Int))) (h2 : (z80 = 0 → ¬ z1 = 0 ∨ ¬ z4 = 3 ∨ ¬ z7 = (42 : Int))) (h3 : 0 ≤ z1 ∧ z1 ≤ 4) (h4 : 0 ≤ z4 ∧ z4 ≤ 3) (h5 : (-2147483648) ≤ z7 ∧ z7 ≤ 2147483647) (h6 : 0 ≤ z80 ∧ z80 ≤ 1) : 1 ≤ z80 ∧ z80 ≤ 1 := by omega
theorem vc_X12_piece_Wx_7 {z1 z14 z4 z52 z7 z80 : Int} (h0 : (z80 = 1 → z1 = 0 ∧ z4 = 3 ∧ z7 = (42 : Int))) (h1 : (z80 = 0 → ¬ z1 = 0 ∨ ¬ z4 = 3 ∨ ¬ z7 = (42 : Int))) (h2 : ¬ z80 = 0) (h3 : (z14 = 1 → z1 = 0 ∧ z4 = 3 ∧ z7 = (42 : Int))) (h4 : (z14 = 0 → ¬ z1 = 0 ∨ ¬ z4 = 3 ∨ ¬ z7 = (42 : Int))) (h5 : (z52 = 1 → z1 = 0 ∧ z4 = 3 ∧ z7 = (42 : Int))) (h6 : (z52 = 0 → ¬ z1 = 0 ∨ ¬ z4 = 3 ∨ ¬ z7 = (42 : Int))) (h7 : 0 ≤ z1 ∧ z1 ≤ 4) (h8 : 0 ≤ z14 ∧ z14 ≤ 1) (h9 : 0 ≤ z4 ∧ z4 ≤ 3) (h10 : 0 ≤ z52 ∧ z52 ≤ 1) (h11 : (-2147483648) ≤ z7 ∧ z7 ≤ 2147483647) (h12 : 1 ≤ z80 ∧ z80 ≤ 1) : z80 = 1 := by omega
theorem vc_X12_piece_Wx_8 {z1 z14 z4 z52 z7 z80 : Int} (h0 : z1 = 0 ∧ z4 = 3 ∧ z7 = (42 : Int)) (h1 : (z14 = 1 → z1 = 0 ∧ z4 = 3 ∧ z7 = (42 : Int))) (h2 : (z14 = 0 → ¬ z1 = 0 ∨ ¬ z4 = 3 ∨ ¬ z7 = (42 : Int))) (h3 : (z52 = 1 → z1 = 0 ∧ z4 = 3 ∧ z7 = (42 : Int))) (h4 : (z52 = 0 → ¬ z1 = 0 ∨ ¬ z4 = 3 ∨ ¬ z7 = (42 : Int))) (h5 : (z80 = 1 → z1 = 0 ∧ z4 = 3 ∧ z7 = (42 : Int))) (h6 : (z80 = 0 → ¬ z1 = 0 ∨ ¬ z4 = 3 ∨ ¬ z7 = (42 : Int))) (h7 : 0 ≤ z1 ∧ z1 ≤ 4) (h8 : 0 ≤ z14 ∧ z14 ≤ 1) (h9 : 0 ≤ z4 ∧ z4 ≤ 3) (h10 : 0 ≤ z52 ∧ z52 ≤ 1) (h11 : (-2147483648) ≤ z7 ∧ z7 ≤ 2147483647) (h12 : 1 ≤ z80 ∧ z80 ≤ 1) : 0 ≤ z1 ∧ z1 ≤ 0 := by omega
theorem vc_X12_piece_Wx_9 {z1 z14 z4 z52 z7 z80 : Int} (h0 : z1 = 0 ∧ z4 = 3 ∧ z7 = (42 : Int)) (h1 : (z14 = 1 → z1 = 0 ∧ z4 = 3 ∧ z7 = (42 : Int))) (h2 : (z14 = 0 → ¬ z1 = 0 ∨ ¬ z4 = 3 ∨ ¬ z7 = (42 : Int))) (h3 : (z52 = 1 → z1 = 0 ∧ z4 = 3 ∧ z7 = (42 : Int))) (h4 : (z52 = 0 → ¬ z1 = 0 ∨ ¬ z4 = 3 ∨ ¬ z7 = (42 : Int))) (h5 : (z80 = 1 → z1 = 0 ∧ z4 = 3 ∧ z7 = (42 : Int))) (h6 : (z80 = 0 → ¬ z1 = 0 ∨ ¬ z4 = 3 ∨ ¬ z7 = (42 : Int))) (h7 : 0 ≤ z1 ∧ z1 ≤ 0) (h8 : 0 ≤ z14 ∧ z14 ≤ 1) (h9 : 0 ≤ z4 ∧ z4 ≤ 3) (h10 : 0 ≤ z52 ∧ z52 ≤ 1) (h11 : (-2147483648) ≤ z7 ∧ z7 ≤ 2147483647) (h12 : 1 ≤ z80 ∧ z80 ≤ 1) : 42 ≤ z7 ∧ z7 ≤ 42 := by omega
theorem vc_X12_piece_Wx_10 {z1 z14 z4 z52 z7 z80 : Int} (h0 : z1 = 0 ∧ z4 = 3 ∧ z7 = (42 : Int)) (h1 : (z14 = 1 → z1 = 0 ∧ z4 = 3 ∧ z7 = (42 : Int))) (h2 : (z14 = 0 → ¬ z1 = 0 ∨ ¬ z4 = 3 ∨ ¬ z7 = (42 : Int))) (h3 : (z52 = 1 → z1 = 0 ∧ z4 = 3 ∧ z7 = (42 : Int))) (h4 : (z52 = 0 → ¬ z1 = 0 ∨ ¬ z4 = 3 ∨ ¬ z7 = (42 : Int))) (h5 : (z80 = 1 → z1 = 0 ∧ z4 = 3 ∧ z7 = (42 : Int))) (h6 : (z80 = 0 → ¬ z1 = 0 ∨ ¬ z4 = 3 ∨ ¬ z7 = (42 : Int))) (h7 : 0 ≤ z1 ∧ z1 ≤ 0) (h8 : 0 ≤ z14 ∧ z14 ≤ 1) (h9 : 0 ≤ z4 ∧ z4 ≤ 3) (h10 : 0 ≤ z52 ∧ z52 ≤ 1) (h11 : 42 ≤ z7 ∧ z7 ≤ 42) (h12 : 1 ≤ z80 ∧ z80 ≤ 1) : 3 ≤ z4 ∧ z4 ≤ 3 := by omega
theorem vc_X12_piece_Wx_11 {z1 z4 z7 z80 : Int} (h0 : z80 = 0) (h1 : (z80 = 1 → z1 = 0 ∧ z4 = 3 ∧ z7 = (42 : Int))) (h2 : (z80 = 0 → ¬ z1 = 0 ∨ ¬ z4 = 3 ∨ ¬ z7 = (42 : Int))) (h3 : 0 ≤ z1 ∧ z1 ≤ 4) (h4 : 0 ≤ z4 ∧ z4 ≤ 3) (h5 : (-2147483648) ≤ z7 ∧ z7 ≤ 2147483647) (h6 : 0 ≤ z80 ∧ z80 ≤ 1) : 0 ≤ z80 ∧ z80 ≤ 0 := by omega
theorem vc_X12_piece_Wx_12 {z1 z14 z4 z52 z7 z80 : Int} (h0 : (z80 = 1 → z1 = 0 ∧ z4 = 3 ∧ z7 = (42 : Int))) (h1 : (z80 = 0 → ¬ z1 = 0 ∨ ¬ z4 = 3 ∨ ¬ z7 = (42 : Int))) (h2 : z80 = 0) (h3 : (z14 = 1 → z1 = 0 ∧ z4 = 3 ∧ z7 = (42 : Int))) (h4 : (z14 = 0 → ¬ z1 = 0 ∨ ¬ z4 = 3 ∨ ¬ z7 = (42 : Int))) (h5 : (z52 = 1 → z1 = 0 ∧ z4 = 3 ∧ z7 = (42 : Int))) (h6 : (z52 = 0 → ¬ z1 = 0 ∨ ¬ z4 = 3 ∨ ¬ z7 = (42 : Int))) (h7 : 0 ≤ z1 ∧ z1 ≤ 4) (h8 : 0 ≤ z14 ∧ z14 ≤ 1) (h9 : 0 ≤ z4 ∧ z4 ≤ 3) (h10 : 0 ≤ z52 ∧ z52 ≤ 1) (h11 : (-2147483648) ≤ z7 ∧ z7 ≤ 2147483647) (h12 : 0 ≤ z80 ∧ z80 ≤ 0) : z80 = 0 := by omega
theorem vc_X12_piece_Wx_13 {z1 z317 z4 z7 : Int} (h0 : ¬ z317 = 0) (h1 : (z317 = 1 → z1 = 0 ∧ z4 = 3 ∧ z7 = (43 : Int))) (h2 : (z317 = 0 → ¬ z1 = 0 ∨ ¬ z4 = 3 ∨ ¬ z7 = (43 : Int))) (h3 : 0 ≤ z1 ∧ z1 ≤ 4) (h4 : 0 ≤ z317 ∧ z317 ≤ 1) (h5 : 0 ≤ z4 ∧ z4 ≤ 3) (h6 : (-2147483648) ≤ z7 ∧ z7 ≤ 2147483647) : 1 ≤ z317 ∧ z317 ≤ 1 := by omega
theorem vc_X12_piece_Wx_14 {z1 z14 z317 z4 z52 z7 z80 : Int} (h0 : (z317 = 1 → z1 = 0 ∧ z4 = 3 ∧ z7 = (43 : Int))) (h1 : (z317 = 0 → ¬ z1 = 0 ∨ ¬ z4 = 3 ∨ ¬ z7 = (43 : Int))) (h2 : ¬ z317 = 0) (h3 : (z14 = 1 → z1 = 0 ∧ z4 = 3 ∧ z7 = (42 : Int))) (h4 : (z14 = 0 → ¬ z1 = 0 ∨ ¬ z4 = 3 ∨ ¬ z7 = (42 : Int))) (h5 : (z52 = 1 → z1 = 0 ∧ z4 = 3 ∧ z7 = (42 : Int))) (h6 : (z52 = 0 → ¬ z1 = 0 ∨ ¬ z4 = 3 ∨ ¬ z7 = (42 : Int))) (h7 : (z80 = 1 → z1 = 0 ∧ z4 = 3 ∧ z7 = (42 : Int))) (h8 : (z80 = 0 → ¬ z1 = 0 ∨ ¬ z4 = 3 ∨ ¬ z7 = (42 : Int))) (h9 : ¬ z1 = 0 ∨ ¬ z4 = 3 ∨ ¬ z7 = (42 : Int)) (h10 : 0 ≤ z1 ∧ z1 ≤ 4) (h11 : 0 ≤ z14 ∧ z14 ≤ 1) (h12 : 1 ≤ z317 ∧ z317 ≤ 1) (h13 : 0 ≤ z4 ∧ z4 ≤ 3) (h14 : 0 ≤ z52 ∧ z52 ≤ 1) (h15 : (-2147483648) ≤ z7 ∧ z7 ≤ 2147483647) (h16 : 0 ≤ z80 ∧ z80 ≤ 0) : z317 = 1 := by omega
theorem vc_X12_piece_Wx_15 {z1 z317 z4 z52 z7 z80 : Int} (h0 : z1 = 0 ∧ z4 = 3 ∧ z7 = (43 : Int)) (h1 : (z52 = 1 → z1 = 0 ∧ z4 = 3 ∧ z7 = (42 : Int))) (h2 : (z52 = 0 → ¬ z1 = 0 ∨ ¬ z4 = 3 ∨ ¬ z7 = (42 : Int))) (h3 : (z80 = 1 → z1 = 0 ∧ z4 = 3 ∧ z7 = (42 : Int))) (h4 : (z80 = 0 → ¬ z1 = 0 ∨ ¬ z4 = 3 ∨ ¬ z7 = (42 : Int))) (h5 : ¬ z1 = 0 ∨ ¬ z4 = 3 ∨ ¬ z7 = (42 : Int)) (h6 : (z317 = 1 → z1 = 0 ∧ z4 = 3 ∧ z7 = (43 : Int))) (h7 : (z317 = 0 → ¬ z1 = 0 ∨ ¬ z4 = 3 ∨ ¬ z7 = (43 : Int))) (h8 : 0 ≤ z1 ∧ z1 ≤ 4) (h9 : 1 ≤ z317 ∧ z317 ≤ 1) (h10 : 0 ≤ z4 ∧ z4 ≤ 3) (h11 : 0 ≤ z52 ∧ z52 ≤ 1) (h12 : (-2147483648) ≤ z7 ∧ z7 ≤ 2147483647) (h13 : 0 ≤ z80 ∧ z80 ≤ 0) : 0 ≤ z1 ∧ z1 ≤ 0 := by omega
theorem vc_X12_piece_Wx_16 {z1 z317 z4 z52 z7 z80 : Int} (h0 : z1 = 0 ∧ z4 = 3 ∧ z7 = (43 : Int)) (h1 : (z52 = 1 → z1 = 0 ∧ z4 = 3 ∧ z7 = (42 : Int))) (h2 : (z52 = 0 → ¬ z1 = 0 ∨ ¬ z4 = 3 ∨ ¬ z7 = (42 : Int))) (h3 : (z80 = 1 → z1 = 0 ∧ z4 = 3 ∧ z7 = (42 : Int))) (h4 : (z80 = 0 → ¬ z1 = 0 ∨ ¬ z4 = 3 ∨ ¬ z7 = (42 : Int))) (h5 : ¬ z1 = 0 ∨ ¬ z4 = 3 ∨ ¬ z7 = (42 : Int)) (h6 : (z317 = 1 → z1 = 0 ∧ z4 = 3 ∧ z7 = (43 : Int))) (h7 : (z317 = 0 → ¬ z1 = 0 ∨ ¬ z4 = 3 ∨ ¬ z7 = (43 : Int))) (h8 : 0 ≤ z1 ∧ z1 ≤ 0) (h9 : 1 ≤ z317 ∧ z317 ≤ 1) (h10 : 0 ≤ z4 ∧ z4 ≤ 3) (h11 : 0 ≤ z52 ∧ z52 ≤ 1) (h12 : (-2147483648) ≤ z7 ∧ z7 ≤ 2147483647) (h13 : 0 ≤ z80 ∧ z80 ≤ 0) : 43 ≤ z7 ∧ z7 ≤ 43 := by omega
theorem vc_X12_piece_Wx_17 {z1 z317 z4 z52 z7 z80 : Int} (h0 : z1 = 0 ∧ z4 = 3 ∧ z7 = (43 : Int)) (h1 : (z52 = 1 → z1 = 0 ∧ z4 = 3 ∧ z7 = (42 : Int))) (h2 : (z52 = 0 → ¬ z1 = 0 ∨ ¬ z4 = 3 ∨ ¬ z7 = (42 : Int))) (h3 : (z80 = 1 → z1 = 0 ∧ z4 = 3 ∧ z7 = (42 : Int))) (h4 : (z80 = 0 → ¬ z1 = 0 ∨ ¬ z4 = 3 ∨ ¬ z7 = (42 : Int))) (h5 : ¬ z1 = 0 ∨ ¬ z4 = 3 ∨ ¬ z7 = (42 : Int)) (h6 : (z317 = 1 → z1 = 0 ∧ z4 = 3 ∧ z7 = (43 : Int))) (h7 : (z317 = 0 → ¬ z1 = 0 ∨ ¬ z4 = 3 ∨ ¬ z7 = (43 : Int))) (h8 : 0 ≤ z1 ∧ z1 ≤ 0) (h9 : 1 ≤ z317 ∧ z317 ≤ 1) (h10 : 0 ≤ z4 ∧ z4 ≤ 3) (h11 : 0 ≤ z52 ∧ z52 ≤ 1) (h12 : 43 ≤ z7 ∧ z7 ≤ 43) (h13 : 0 ≤ z80 ∧ z80 ≤ 0) : 3 ≤ z4 ∧ z4 ≤ 3 := by omega
theorem vc_X12_piece_Wx_18 {z1 z317 z4 z7 : Int} (h0 : z317 = 0) (h1 : (z317 = 1 → z1 = 0 ∧ z4 = 3 ∧ z7 = (43 : Int))) (h2 : (z317 = 0 → ¬ z1 = 0 ∨ ¬ z4 = 3 ∨ ¬ z7 = (43 : Int))) (h3 : 0 ≤ z1 ∧ z1 ≤ 4) (h4 : 0 ≤ z317 ∧ z317 ≤ 1) (h5 : 0 ≤ z4 ∧ z4 ≤ 3) (h6 : (-2147483648) ≤ z7 ∧ z7 ≤ 2147483647) : 0 ≤ z317 ∧ z317 ≤ 0 := by omega
theorem vc_X12_piece_Wx_19 {z1 z14 z317 z4 z52 z7 z80 : Int} (h0 : (z317 = 1 → z1 = 0 ∧ z4 = 3 ∧ z7 = (43 : Int))) (h1 : (z317 = 0 → ¬ z1 = 0 ∨ ¬ z4 = 3 ∨ ¬ z7 = (43 : Int))) (h2 : z317 = 0) (h3 : (z14 = 1 → z1 = 0 ∧ z4 = 3 ∧ z7 = (42 : Int))) (h4 : (z14 = 0 → ¬ z1 = 0 ∨ ¬ z4 = 3 ∨ ¬ z7 = (42 : Int))) (h5 : (z52 = 1 → z1 = 0 ∧ z4 = 3 ∧ z7 = (42 : Int))) (h6 : (z52 = 0 → ¬ z1 = 0 ∨ ¬ z4 = 3 ∨ ¬ z7 = (42 : Int))) (h7 : (z80 = 1 → z1 = 0 ∧ z4 = 3 ∧ z7 = (42 : Int))) (h8 : (z80 = 0 → ¬ z1 = 0 ∨ ¬ z4 = 3 ∨ ¬ z7 = (42 : Int))) (h9 : ¬ z1 = 0 ∨ ¬ z4 = 3 ∨ ¬ z7 = (42 : Int)) (h10 : 0 ≤ z1 ∧ z1 ≤ 4) (h11 : 0 ≤ z14 ∧ z14 ≤ 1) (h12 : 0 ≤ z317 ∧ z317 ≤ 0) (h13 : 0 ≤ z4 ∧ z4 ≤ 3) (h14 : 0 ≤ z52 ∧ z52 ≤ 1) (h15 : (-2147483648) ≤ z7 ∧ z7 ≤ 2147483647) (h16 : 0 ≤ z80 ∧ z80 ≤ 0) : z317 = 0 := by omega
theorem vc_X12_piece_Wx_20 {z1 z356 z4 z7 : Int} (h0 : z356 = 0) (h1 : (z356 = 1 → z1 = 0 ∧ z4 = 3 ∧ z7 = (63 : Int))) (h2 : (z356 = 0 → ¬ z1 = 0 ∨ ¬ z4 = 3 ∨ ¬ z7 = (63 : Int))) (h3 : 0 ≤ z1 ∧ z1 ≤ 4) (h4 : 0 ≤ z356 ∧ z356 ≤ 1) (h5 : 0 ≤ z4 ∧ z4 ≤ 3) (h6 : (-2147483648) ≤ z7 ∧ z7 ≤ 2147483647) : 0 ≤ z356 ∧ z356 ≤ 0 := by omega
theorem vc_X12_piece_Wx_21 {z1 z14 z317 z356 z4 z52 z7 z80 : Int} (h0 : (z356 = 1 → z1 = 0 ∧ z4 = 3 ∧ z7 = (63 : Int))) (h1 : (z356 = 0 → ¬ z1 = 0 ∨ ¬ z4 = 3 ∨ ¬ z7 = (63 : Int))) (h2 : z356 = 0) (h3 : (z14 = 1 → z1 = 0 ∧ z4 = 3 ∧ z7 = (42 : Int))) (h4 : (z14 = 0 → ¬ z1 = 0 ∨ ¬ z4 = 3 ∨ ¬ z7 = (42 : Int))) (h5 : (z52 = 1 → z1 = 0 ∧ z4 = 3 ∧ z7 = (42 : Int))) (h6 : (z52 = 0 → ¬ z1 = 0 ∨ ¬ z4 = 3 ∨ ¬ z7 = (42 : Int))) (h7 : (z80 = 1 → z1 = 0 ∧ z4 = 3 ∧ z7 = (42 : Int))) (h8 : (z80 = 0 → ¬ z1 = 0 ∨ ¬ z4 = 3 ∨ ¬ z7 = (42 : Int))) (h9 : ¬ z1 = 0 ∨ ¬ z4 = 3 ∨ ¬ z7 = (42 : Int)) (h10 : (z317 = 1 → z1 = 0 ∧ z4 = 3 ∧ z7 = (43 : Int))) (h11 : (z317 = 0 → ¬ z1 = 0 ∨ ¬ z4 = 3 ∨ ¬ z7 = (43 : Int))) (h12 : ¬ z1 = 0 ∨ ¬ z4 = 3 ∨ ¬ z7 = (43 : Int)) (h13 : 0 ≤ z1 ∧ z1 ≤ 4) (h14 : 0 ≤ z14 ∧ z14 ≤ 1) (h15 : 0 ≤ z317 ∧ z317 ≤ 0) (h16 : 0 ≤ z356 ∧ z356 ≤ 0) (h17 : 0 ≤ z4 ∧ z4 ≤ 3) (h18 : 0 ≤ z52 ∧ z52 ≤ 1) (h19 : (-2147483648) ≤ z7 ∧ z7 ≤ 2147483647) (h20 : 0 ≤ z80 ∧ z80 ≤ 0) : z356 = 0 := by omega
theorem vc_X12_piece_Wx_22 {z1 z356 z4 z7 : Int} (h0 : ¬ z356 = 0) (h1 : (z356 = 1 → z1 = 0 ∧ z4 = 3 ∧ z7 = (63 : Int))) (h2 : (z356 = 0 → ¬ z1 = 0 ∨ ¬ z4 = 3 ∨ ¬ z7 = (63 : Int))) (h3 : 0 ≤ z1 ∧ z1 ≤ 4) (h4 : 0 ≤ z356 ∧ z356 ≤ 1) (h5 : 0 ≤ z4 ∧ z4 ≤ 3) (h6 : (-2147483648) ≤ z7 ∧ z7 ≤ 2147483647) : 1 ≤ z356 ∧ z356 ≤ 1 := by omega
theorem vc_X12_piece_Wx_23 {z1 z14 z317 z356 z4 z52 z7 z80 : Int} (h0 : (z356 = 1 → z1 = 0 ∧ z4 = 3 ∧ z7 = (63 : Int))) (h1 : (z356 = 0 → ¬ z1 = 0 ∨ ¬ z4 = 3 ∨ ¬ z7 = (63 : Int))) (h2 : ¬ z356 = 0) (h3 : (z14 = 1 → z1 = 0 ∧ z4 = 3 ∧ z7 = (42 : Int))) (h4 : (z14 = 0 → ¬ z1 = 0 ∨ ¬ z4 = 3 ∨ ¬ z7 = (42 : Int))) (h5 : (z52 = 1 → z1 = 0 ∧ z4 = 3 ∧ z7 = (42 : Int))) (h6 : (z52 = 0 → ¬ z1 = 0 ∨ ¬ z4 = 3 ∨ ¬ z7 = (42 : Int))) (h7 : (z80 = 1 → z1 = 0 ∧ z4 = 3 ∧ z7 = (42 : Int))) (h8 : (z80 = 0 → ¬ z1 = 0 ∨ ¬ z4 = 3 ∨ ¬ z7 = (42 : Int))) (h9 : ¬ z1 = 0 ∨ ¬ z4 = 3 ∨ ¬ z7 = (42 : Int)) (h10 : (z317 = 1 → z1 = 0 ∧ z4 = 3 ∧ z7 = (43 : Int))) (h11 : (z317 = 0 → ¬ z1 = 0 ∨ ¬ z4 = 3 ∨ ¬ z7 = (43 : Int))) (h12 : ¬ z1 = 0 ∨ ¬ z4 = 3 ∨ ¬ z7 = (43 : Int)) (h13 : 0 ≤ z1 ∧ z1 ≤ 4) (h14 : 0 ≤ z14 ∧ z14 ≤ 1) (h15 : 0 ≤ z317 ∧ z317 ≤ 0) (h16 : 1 ≤ z356 ∧ z356 ≤ 1) (h17 : 0 ≤ z4 ∧ z4 ≤ 3) (h18 : 0 ≤ z52 ∧ z52 ≤ 1) (h19 : (-2147483648) ≤ z7 ∧ z7 ≤ 2147483647) (h20 : 0 ≤ z80 ∧ z80 ≤ 0) : z356 = 1 := by omega
theorem vc_X12_piece_Wx_24 {z1 z317 z356 z4 z7 z80 : Int} (h0 : z1 = 0 ∧ z4 = 3 ∧ z7 = (63 : Int)) (h1 : (z80 = 0 → ¬ z1 = 0 ∨ ¬ z4 = 3 ∨ ¬ z7 = (42 : Int))) (h2 : ¬ z1 = 0 ∨ ¬ z4 = 3 ∨ ¬ z7 = (42 : Int)) (h3 : (z317 = 1 → z1 = 0 ∧ z4 = 3 ∧ z7 = (43 : Int))) (h4 : (z317 = 0 → ¬ z1 = 0 ∨ ¬ z4 = 3 ∨ ¬ z7 = (43 : Int))) (h5 : ¬ z1 = 0 ∨ ¬ z4 = 3 ∨ ¬ z7 = (43 : Int)) (h6 : (z356 = 1 → z1 = 0 ∧ z4 = 3 ∧ z7 = (63 : Int))) (h7 : (z356 = 0 → ¬ z1 = 0 ∨ ¬ z4 = 3 ∨ ¬ z7 = (63 : Int))) (h8 : 0 ≤ z1 ∧ z1 ≤ 4) (h9 : 0 ≤ z317 ∧ z317 ≤ 0) (h10 : 1 ≤ z356 ∧ z356 ≤ 1) (h11 : 0 ≤ z4 ∧ z4 ≤ 3) (h12 : (-2147483648) ≤ z7 ∧ z7 ≤ 2147483647) (h13 : 0 ≤ z80 ∧ z80 ≤ 0) : 0 ≤ z1 ∧ z1 ≤ 0 := by omega
theorem vc_X12_piece_Wx_25 {z1 z317 z356 z4 z7 z80 : Int} (h0 : z1 = 0 ∧ z4 = 3 ∧ z7 = (63 : Int)) (h1 : (z80 = 0 → ¬ z1 = 0 ∨ ¬ z4 = 3 ∨ ¬ z7 = (42 : Int))) (h2 : ¬ z1 = 0 ∨ ¬ z4 = 3 ∨ ¬ z7 = (42 : Int)) (h3 : (z317 = 1 → z1 = 0 ∧ z4 = 3 ∧ z7 = (43 : Int))) (h4 : (z317 = 0 → ¬ z1 = 0 ∨ ¬ z4 = 3 ∨ ¬ z7 = (43 : Int))) (h5 : ¬ z1 = 0 ∨ ¬ z4 = 3 ∨ ¬ z7 = (43 : Int)) (h6 : (z356 = 1 → z1 = 0 ∧ z4 = 3 ∧ z7 = (63 : Int))) (h7 : (z356 = 0 → ¬ z1 = 0 ∨ ¬ z4 = 3 ∨ ¬ z7 = (63 : Int))) (h8 : 0 ≤ z1 ∧ z1 ≤ 0) (h9 : 0 ≤ z317 ∧ z317 ≤ 0) (h10 : 1 ≤ z356 ∧ z356 ≤ 1) (h11 : 0 ≤ z4 ∧ z4 ≤ 3) (h12 : (-2147483648) ≤ z7 ∧ z7 ≤ 2147483647) (h13 : 0 ≤ z80 ∧ z80 ≤ 0) : 63 ≤ z7 ∧ z7 ≤ 63 := by omega
theorem vc_X12_piece_Wx_26 {z1 z317 z356 z4 z7 z80 : Int} (h0 : z1 = 0 ∧ z4 = 3 ∧ z7 = (63 : Int)) (h1 : (z80 = 0 → ¬ z1 = 0 ∨ ¬ z4 = 3 ∨ ¬ z7 = (42 : Int))) (h2 : ¬ z1 = 0 ∨ ¬ z4 = 3 ∨ ¬ z7 = (42 : Int)) (h3 : (z317 = 1 → z1 = 0 ∧ z4 = 3 ∧ z7 = (43 : Int))) (h4 : (z317 = 0 → ¬ z1 = 0 ∨ ¬ z4 = 3 ∨ ¬ z7 = (43 : Int))) (h5 : ¬ z1 = 0 ∨ ¬ z4 = 3 ∨ ¬ z7 = (43 : Int)) (h6 : (z356 = 1 → z1 = 0 ∧ z4 = 3 ∧ z7 = (63 : Int))) (h7 : (z356 = 0 → ¬ z1 = 0 ∨ ¬ z4 = 3 ∨ ¬ z7 = (63 : Int))) (h8 : 0 ≤ z1 ∧ z1 ≤ 0) (h9 : 0 ≤ z317 ∧ z317 ≤ 0) (h10 : 1 ≤ z356 ∧ z356 ≤ 1) (h11 : 0 ≤ z4 ∧ z4 ≤ 3) (h12 : 63 ≤ z7 ∧ z7 ≤ 63) (h13 : 0 ≤ z80 ∧ z80 ≤ 0) : 3 ≤ z4 ∧ z4 ≤ 3 := by omega
theorem vc_X12_piece_Wx_27 {z1 z4 z52 z7 : Int} (h0 : ¬ z52 = 0) (h1 : (z52 = 1 → z1 = 0 ∧ z4 = 3 ∧ z7 = (42 : Int))) (h2 : (z52 = 0 → ¬ z1 = 0 ∨ ¬ z4 = 3 ∨ ¬ z7 = (42 : Int))) (h3 : 0 ≤ z1 ∧ z1 ≤ 4) (h4 : 0 ≤ z4 ∧ z4 ≤ 3) (h5 : 0 ≤ z52 ∧ z52 ≤ 1) (h6 : (-2147483648) ≤ z7 ∧ z7 ≤ 2147483647) : 1 ≤ z52 ∧ z52 ≤ 1 := by omega
theorem vc_X12_piece_Wx_28 {z1 z14 z4 z52 z7 : Int} (h0 : (z52 = 1 → z1 = 0 ∧ z4 = 3 ∧ z7 = (42 : Int))) (h1 : (z52 = 0 → ¬ z1 = 0 ∨ ¬ z4 = 3 ∨ ¬ z7 = (42 : Int))) (h2 : ¬ z52 = 0) (h3 : (z14 = 1 → z1 = 0 ∧ z4 = 3 ∧ z7 = (42 : Int))) (h4 : (z14 = 0 → ¬ z1 = 0 ∨ ¬ z4 = 3 ∨ ¬ z7 = (42 : Int))) (h5 : 0 ≤ z1 ∧ z1 ≤ 4) (h6 : 0 ≤ z14 ∧ z14 ≤ 1) (h7 : 0 ≤ z4 ∧ z4 ≤ 3) (h8 : 1 ≤ z52 ∧ z52 ≤ 1) (h9 : (-2147483648) ≤ z7 ∧ z7 ≤ 2147483647) : z52 = 1 := by omega
theorem vc_X12_piece_Wx_29 {z1 z14 z4 z52 z7 : Int} (h0 : z1 = 0 ∧ z4 = 3 ∧ z7 = (42 : Int)) (h1 : (z14 = 1 → z1 = 0 ∧ z4 = 3 ∧ z7 = (42 : Int))) (h2 : (z14 = 0 → ¬ z1 = 0 ∨ ¬ z4 = 3 ∨ ¬ z7 = (42 : Int))) (h3 : (z52 = 1 → z1 = 0 ∧ z4 = 3 ∧ z7 = (42 : Int))) (h4 : (z52 = 0 → ¬ z1 = 0 ∨ ¬ z4 = 3 ∨ ¬ z7 = (42 : Int))) (h5 : 0 ≤ z1 ∧ z1 ≤ 4) (h6 : 0 ≤ z14 ∧ z14 ≤ 1) (h7 : 0 ≤ z4 ∧ z4 ≤ 3) (h8 : 1 ≤ z52 ∧ z52 ≤ 1) (h9 : (-2147483648) ≤ z7 ∧ z7 ≤ 2147483647) : 0 ≤ z1 ∧ z1 ≤ 0 := by omega
theorem vc_X12_piece_Wx_30 {z1 z14 z4 z52 z7 : Int} (h0 : z1 = 0 ∧ z4 = 3 ∧ z7 = (42 : Int)) (h1 : (z14 = 1 → z1 = 0 ∧ z4 = 3 ∧ z7 = (42 : Int))) (h2 : (z14 = 0 → ¬ z1 = 0 ∨ ¬ z4 = 3 ∨ ¬ z7 = (42 : Int))) (h3 : (z52 = 1 → z1 = 0 ∧ z4 = 3 ∧ z7 = (42 : Int))) (h4 : (z52 = 0 → ¬ z1 = 0 ∨ ¬ z4 = 3 ∨ ¬ z7 = (42 : Int))) (h5 : 0 ≤ z1 ∧ z1 ≤ 0) (h6 : 0 ≤ z14 ∧ z14 ≤ 1) (h7 : 0 ≤ z4 ∧ z4 ≤ 3) (h8 : 1 ≤ z52 ∧ z52 ≤ 1) (h9 : (-2147483648) ≤ z7 ∧ z7 ≤ 2147483647) : 42 ≤ z7 ∧ z7 ≤ 42 := by omega
theorem vc_X12_piece_Wx_31 {z1 z14 z4 z52 z7 : Int} (h0 : z1 = 0 ∧ z4 = 3 ∧ z7 = (42 : Int)) (h1 : (z14 = 1 → z1 = 0 ∧ z4 = 3 ∧ z7 = (42 : Int))) (h2 : (z14 = 0 → ¬ z1 = 0 ∨ ¬ z4 = 3 ∨ ¬ z7 = (42 : Int))) (h3 : (z52 = 1 → z1 = 0 ∧ z4 = 3 ∧ z7 = (42 : Int))) (h4 : (z52 = 0 → ¬ z1 = 0 ∨ ¬ z4 = 3 ∨ ¬ z7 = (42 : Int))) (h5 : 0 ≤ z1 ∧ z1 ≤ 0) (h6 : 0 ≤ z14 ∧ z14 ≤ 1) (h7 : 0 ≤ z4 ∧ z4 ≤ 3) (h8 : 1 ≤ z52 ∧ z52 ≤ 1) (h9 : 42 ≤ z7 ∧ z7 ≤ 42) : 3 ≤ z4 ∧ z4 ≤ 3 := by omega
theorem vc_X12_piece_Wx_32 {z1 z4 z52 z7 : Int} (h0 : z52 = 0) (h1 : (z52 = 1 → z1 = 0 ∧ z4 = 3 ∧ z7 = (42 : Int))) (h2 : (z52 = 0 → ¬ z1 = 0 ∨ ¬ z4 = 3 ∨ ¬ z7 = (42 : Int))) (h3 : 0 ≤ z1 ∧ z1 ≤ 4) (h4 : 0 ≤ z4 ∧ z4 ≤ 3) (h5 : 0 ≤ z52 ∧ z52 ≤ 1) (h6 : (-2147483648) ≤ z7 ∧ z7 ≤ 2147483647) : 0 ≤ z52 ∧ z52 ≤ 0 := by omega
theorem vc_X12_piece_Wx_33 {z1 z14 z4 z52 z7 : Int} (h0 : (z52 = 1 → z1 = 0 ∧ z4 = 3 ∧ z7 = (42 : Int))) (h1 : (z52 = 0 → ¬ z1 = 0 ∨ ¬ z4 = 3 ∨ ¬ z7 = (42 : Int))) (h2 : z52 = 0) (h3 : (z14 = 1 → z1 = 0 ∧ z4 = 3 ∧ z7 = (42 : Int))) (h4 : (z14 = 0 → ¬ z1 = 0 ∨ ¬ z4 = 3 ∨ ¬ z7 = (42 : Int))) (h5 : 0 ≤ z1 ∧ z1 ≤ 4) (h6 : 0 ≤ z14 ∧ z14 ≤ 1) (h7 : 0 ≤ z4 ∧ z4 ≤ 3) (h8 : 0 ≤ z52 ∧ z52 ≤ 0) (h9 : (-2147483648) ≤ z7 ∧ z7 ≤ 2147483647) : z52 = 0 := by omega
theorem vc_X12_piece_Wx_34 {z1 z4 z403 z7 : Int} (h0 : z403 = 0) (h1 : (z403 = 1 → z1 = 0 ∧ z4 = 3 ∧ z7 = (63 : Int))) (h2 : (z403 = 0 → ¬ z1 = 0 ∨ ¬ z4 = 3 ∨ ¬ z7 = (63 : Int))) (h3 : 0 ≤ z1 ∧ z1 ≤ 4) (h4 : 0 ≤ z4 ∧ z4 ≤ 3) (h5 : 0 ≤ z403 ∧ z403 ≤ 1) (h6 : (-2147483648) ≤ z7 ∧ z7 ≤ 2147483647) : 0 ≤ z403 ∧ z403 ≤ 0 := by omega
theorem vc_X12_piece_Wx_35 {z1 z14 z4 z403 z52 z7 : Int} (h0 : (z403 = 1 → z1 = 0 ∧ z4 = 3 ∧ z7 = (63 : Int))) (h1 : (z403 = 0 → ¬ z1 = 0 ∨ ¬ z4 = 3 ∨ ¬ z7 = (63 : Int))) (h2 : z403 = 0) (h3 : (z14 = 1 → z1 = 0 ∧ z4 = 3 ∧ z7 = (42 : Int))) (h4 : (z14 = 0 → ¬ z1 = 0 ∨ ¬ z4 = 3 ∨ ¬ z7 = (42 : Int))) (h5 : (z52 = 1 → z1 = 0 ∧ z4 = 3 ∧ z7 = (42 : Int))) (h6 : (z52 = 0 → ¬ z1 = 0 ∨ ¬ z4 = 3 ∨ ¬ z7 = (42 : Int))) (h7 : ¬ z1 = 0 ∨ ¬ z4 = 3 ∨ ¬ z7 = (42 : Int)) (h8 : 0 ≤ z1 ∧ z1 ≤ 4) (h9 : 0 ≤ z14 ∧ z14 ≤ 1) (h10 : 0 ≤ z4 ∧ z4 ≤ 3) (h11 : 0 ≤ z403 ∧ z403 ≤ 0) (h12 : 0 ≤ z52 ∧ z52 ≤ 0) (h13 : (-2147483648) ≤ z7 ∧ z7 ≤ 2147483647) : z403 = 0 := by omega
theorem vc_X12_piece_Wx_36 {z1 z4 z403 z7 : Int} (h0 : ¬ z403 = 0) (h1 : (z403 = 1 → z1 = 0 ∧ z4 = 3 ∧ z7 = (63 : Int))) (h2 : (z403 = 0 → ¬ z1 = 0 ∨ ¬ z4 = 3 ∨ ¬ z7 = (63 : Int))) (h3 : 0 ≤ z1 ∧ z1 ≤ 4) (h4 : 0 ≤ z4 ∧ z4 ≤ 3) (h5 : 0 ≤ z403 ∧ z403 ≤ 1) (h6 : (-2147483648) ≤ z7 ∧ z7 ≤ 2147483647) : 1 ≤ z403 ∧ z403 ≤ 1 := by omega
theorem vc_X12_piece_Wx_37 {z1 z14 z4 z403 z52 z7 : Int} (h0 : (z403 = 1 → z1 = 0 ∧ z4 = 3 ∧ z7 = (63 : Int))) (h1 : (z403 = 0 → ¬ z1 = 0 ∨ ¬ z4 = 3 ∨ ¬ z7 = (63 : Int))) (h2 : ¬ z403 = 0) (h3 : (z14 = 1 → z1 = 0 ∧ z4 = 3 ∧ z7 = (42 : Int))) (h4 : (z14 = 0 → ¬ z1 = 0 ∨ ¬ z4 = 3 ∨ ¬ z7 = (42 : Int))) (h5 : (z52 = 1 → z1 = 0 ∧ z4 = 3 ∧ z7 = (42 : Int))) (h6 : (z52 = 0 → ¬ z1 = 0 ∨ ¬ z4 = 3 ∨ ¬ z7 = (42 : Int))) (h7 : ¬ z1 = 0 ∨ ¬ z4 = 3 ∨ ¬ z7 = (42 : Int)) (h8 : 0 ≤ z1 ∧ z1 ≤ 4) (h9 : 0 ≤ z14 ∧ z14 ≤ 1) (h10 : 0 ≤ z4 ∧ z4 ≤ 3) (h11 : 1 ≤ z403 ∧ z403 ≤ 1) (h12 : 0 ≤ z52 ∧ z52 ≤ 0) (h13 : (-2147483648) ≤ z7 ∧ z7 ≤ 2147483647) : z403 = 1 := by omega
theorem vc_X12_piece_Wx_38 {z1 z14 z4 z403 z52 z7 : Int} (h0 : z1 = 0 ∧ z4 = 3 ∧ z7 = (63 : Int)) (h1 : (z14 = 1 → z1 = 0 ∧ z4 = 3 ∧ z7 = (42 : Int))) (h2 : (z14 = 0 → ¬ z1 = 0 ∨ ¬ z4 = 3 ∨ ¬ z7 = (42 : Int))) (h3 : (z52 = 1 → z1 = 0 ∧ z4 = 3 ∧ z7 = (42 : Int))) (h4 : (z52 = 0 → ¬ z1 = 0 ∨ ¬ z4 = 3 ∨ ¬ z7 = (42 : Int))) (h5 : ¬ z1 = 0 ∨ ¬ z4 = 3 ∨ ¬ z7 = (42 : Int)) (h6 : (z403 = 1 → z1 = 0 ∧ z4 = 3 ∧ z7 = (63 : Int))) (h7 : (z403 = 0 → ¬ z1 = 0 ∨ ¬ z4 = 3 ∨ ¬ z7 = (63 : Int))) (h8 : 0 ≤ z1 ∧ z1 ≤ 4) (h9 : 0 ≤ z14 ∧ z14 ≤ 1) (h10 : 0 ≤ z4 ∧ z4 ≤ 3) (h11 : 1 ≤ z403 ∧ z403 ≤ 1) (h12 : 0 ≤ z52 ∧ z52 ≤ 0) (h13 : (-2147483648) ≤ z7 ∧ z7 ≤ 2147483647) : 0 ≤ z1 ∧ z1 ≤ 0 := by omega
theorem vc_X12_piece_Wx_39 {z1 z14 z4 z403 z52 z7 : Int} (h0 : z1 = 0 ∧ z4 = 3 ∧ z7 = (63 : Int)) (h1 : (z14 = 1 → z1 = 0 ∧ z4 = 3 ∧ z7 = (42 : Int))) (h2 : (z14 = 0 → ¬ z1 = 0 ∨ ¬ z4 = 3 ∨ ¬ z7 = (42 : Int))) (h3 : (z52 = 1 → z1 = 0 ∧ z4 = 3 ∧ z7 = (42 : Int))) (h4 : (z52 = 0 → ¬ z1 = 0 ∨ ¬ z4 = 3 ∨ ¬ z7 = (42 : Int))) (h5 : ¬ z1 = 0 ∨ ¬ z4 = 3 ∨ ¬ z7 = (42 : Int)) (h6 : (z403 = 1 → z1 = 0 ∧ z4 = 3 ∧ z7 = (63 : Int))) (h7 : (z403 = 0 → ¬ z1 = 0 ∨ ¬ z4 = 3 ∨ ¬ z7 = (63 : Int))) (h8 : 0 ≤ z1 ∧ z1 ≤ 0) (h9 : 0 ≤ z14 ∧ z14 ≤ 1) (h10 : 0 ≤ z4 ∧ z4 ≤ 3) (h11 : 1 ≤ z403 ∧ z403 ≤ 1) (h12 : 0 ≤ z52 ∧ z52 ≤ 0) (h13 : (-2147483648) ≤ z7 ∧ z7 ≤ 2147483647) : 63 ≤ z7 ∧ z7 ≤ 63 := by omega
theorem vc_X12_piece_Wx_40 {z1 z14 z4 z403 z52 z7 : Int} (h0 : z1 = 0 ∧ z4 = 3 ∧ z7 = (63 : Int)) (h1 : (z14 = 1 → z1 = 0 ∧ z4 = 3 ∧ z7 = (42 : Int))) (h2 : (z14 = 0 → ¬ z1 = 0 ∨ ¬ z4 = 3 ∨ ¬ z7 = (42 : Int))) (h3 : (z52 = 1 → z1 = 0 ∧ z4 = 3 ∧ z7 = (42 : Int))) (h4 : (z52 = 0 → ¬ z1 = 0 ∨ ¬ z4 = 3 ∨ ¬ z7 = (42 : Int))) (h5 : ¬ z1 = 0 ∨ ¬ z4 = 3 ∨ ¬ z7 = (42 : Int)) (h6 : (z403 = 1 → z1 = 0 ∧ z4 = 3 ∧ z7 = (63 : Int))) (h7 : (z403 = 0 → ¬ z1 = 0 ∨ ¬ z4 = 3 ∨ ¬ z7 = (63 : Int))) (h8 : 0 ≤ z1 ∧ z1 ≤ 0) (h9 : 0 ≤ z14 ∧ z14 ≤ 1) (h10 : 0 ≤ z4 ∧ z4 ≤ 3) (h11 : 1 ≤ z403 ∧ z403 ≤ 1) (h12 : 0 ≤ z52 ∧ z52 ≤ 0) (h13 : 63 ≤ z7 ∧ z7 ≤ 63) : 3 ≤ z4 ∧ z4 ≤ 3 := by omega
theorem vc_X12_piece_Wx_41 {z1 z14 z4 z7 : Int} (h0 : ¬ z14 = 0) (h1 : (z14 = 1 → z1 = 0 ∧ z4 = 3 ∧ z7 = (42 : Int))) (h2 : (z14 = 0 → ¬ z1 = 0 ∨ ¬ z4 = 3 ∨ ¬ z7 = (42 : Int))) (h3 : 0 ≤ z1 ∧ z1 ≤ 4) (h4 : 0 ≤ z14 ∧ z14 ≤ 1) (h5 : 0 ≤ z4 ∧ z4 ≤ 3) (h6 : (-2147483648) ≤ z7 ∧ z7 ≤ 2147483647) : 1 ≤ z14 ∧ z14 ≤ 1 := by omega
theorem vc_X12_piece_Wx_42 {z1 z14 z4 z7 : Int} (h0 : (z14 = 1 → z1 = 0 ∧ z4 = 3 ∧ z7 = (42 : Int))) (h1 : (z14 = 0 → ¬ z1 = 0 ∨ ¬ z4 = 3 ∨ ¬ z7 = (42 : Int))) (h2 : ¬ z14 = 0) (h3 : 0 ≤ z1 ∧ z1 ≤ 4) (h4 : 1 ≤ z14 ∧ z14 ≤ 1) (h5 : 0 ≤ z4 ∧ z4 ≤ 3) (h6 : (-2147483648) ≤ z7 ∧ z7 ≤ 2147483647) : z14 = 1 := by omega
theorem vc_X12_piece_Wx_43 {z1 z14 z4 z7 : Int} (h0 : z1 = 0 ∧ z4 = 3 ∧ z7 = (42 : Int)) (h1 : (z14 = 1 → z1 = 0 ∧ z4 = 3 ∧ z7 = (42 : Int))) (h2 : (z14 = 0 → ¬ z1 = 0 ∨ ¬ z4 = 3 ∨ ¬ z7 = (42 : Int))) (h3 : 0 ≤ z1 ∧ z1 ≤ 4) (h4 : 1 ≤ z14 ∧ z14 ≤ 1) (h5 : 0 ≤ z4 ∧ z4 ≤ 3) (h6 : (-2147483648) ≤ z7 ∧ z7 ≤ 2147483647) : 0 ≤ z1 ∧ z1 ≤ 0 := by omega
theorem vc_X12_piece_Wx_44 {z1 z14 z4 z7 : Int} (h0 : z1 = 0 ∧ z4 = 3 ∧ z7 = (42 : Int)) (h1 : (z14 = 1 → z1 = 0 ∧ z4 = 3 ∧ z7 = (42 : Int))) (h2 : (z14 = 0 → ¬ z1 = 0 ∨ ¬ z4 = 3 ∨ ¬ z7 = (42 : Int))) (h3 : 0 ≤ z1 ∧ z1 ≤ 0) (h4 : 1 ≤ z14 ∧ z14 ≤ 1) (h5 : 0 ≤ z4 ∧ z4 ≤ 3) (h6 : (-2147483648) ≤ z7 ∧ z7 ≤ 2147483647) : 42 ≤ z7 ∧ z7 ≤ 42 := by omega
theorem vc_X12_piece_Wx_45 {z1 z14 z4 z7 : Int} (h0 : z1 = 0 ∧ z4 = 3 ∧ z7 = (42 : Int)) (h1 : (z14 = 1 → z1 = 0 ∧ z4 = 3 ∧ z7 = (42 : Int))) (h2 : (z14 = 0 → ¬ z1 = 0 ∨ ¬ z4 = 3 ∨ ¬ z7 = (42 : Int))) (h3 : 0 ≤ z1 ∧ z1 ≤ 0) (h4 : 1 ≤ z14 ∧ z14 ≤ 1) (h5 : 0 ≤ z4 ∧ z4 ≤ 3) (h6 : 42 ≤ z7 ∧ z7 ≤ 42) : 3 ≤ z4 ∧ z4 ≤ 3 := by omega
theorem vc_X12_piece_Wx_46 {z1 z14 z4 z7 : Int} (h0 : z14 = 0) (h1 : (z14 = 1 → z1 = 0 ∧ z4 = 3 ∧ z7 = (42 : Int))) (h2 : (z14 = 0 → ¬ z1 = 0 ∨ ¬ z4 = 3 ∨ ¬ z7 = (42 : Int))) (h3 : 0 ≤ z1 ∧ z1 ≤ 4) (h4 : 0 ≤ z14 ∧ z14 ≤ 1) (h5 : 0 ≤ z4 ∧ z4 ≤ 3) (h6 : (-2147483648) ≤ z7 ∧ z7 ≤ 2147483647) : 0 ≤ z14 ∧ z14 ≤ 0 := by omega
theorem vc_X12_piece_Wx_47 {z1 z14 z4 z7 : Int} (h0 : (z14 = 1 → z1 = 0 ∧ z4 = 3 ∧ z7 = (42 : Int))) (h1 : (z14 = 0 → ¬ z1 = 0 ∨ ¬ z4 = 3 ∨ ¬ z7 = (42 : Int))) (h2 : z14 = 0) (h3 : 0 ≤ z1 ∧ z1 ≤ 4) (h4 : 0 ≤ z14 ∧ z14 ≤ 0) (h5 : 0 ≤ z4 ∧ z4 ≤ 3) (h6 : (-2147483648) ≤ z7 ∧ z7 ≤ 2147483647) : z14 = 0 := by omega
theorem vc_X12_piece_Wx_48 {z1 z4 z428 z7 : Int} (h0 : z428 = 0) (h1 : (z428 = 1 → z1 = 0 ∧ z4 = 3 ∧ z7 = (43 : Int))) (h2 : (z428 = 0 → ¬ z1 = 0 ∨ ¬ z4 = 3 ∨ ¬ z7 = (43 : Int))) (h3 : 0 ≤ z1 ∧ z1 ≤ 4) (h4 : 0 ≤ z4 ∧ z4 ≤ 3) (h5 : 0 ≤ z428 ∧ z428 ≤ 1) (h6 : (-2147483648) ≤ z7 ∧ z7 ≤ 2147483647) : 0 ≤ z428 ∧ z428 ≤ 0 := by omega
theorem vc_X12_piece_Wx_49 {z1 z14 z4 z428 z7 : Int} (h0 : (z428 = 1 → z1 = 0 ∧ z4 = 3 ∧ z7 = (43 : Int))) (h1 : (z428 = 0 → ¬ z1 = 0 ∨ ¬ z4 = 3 ∨ ¬ z7 = (43 : Int))) (h2 : z428 = 0) (h3 : (z14 = 1 → z1 = 0 ∧ z4 = 3 ∧ z7 = (42 : Int))) (h4 : (z14 = 0 → ¬ z1 = 0 ∨ ¬ z4 = 3 ∨ ¬ z7 = (42 : Int))) (h5 : ¬ z1 = 0 ∨ ¬ z4 = 3 ∨ ¬ z7 = (42 : Int)) (h6 : 0 ≤ z1 ∧ z1 ≤ 4) (h7 : 0 ≤ z14 ∧ z14 ≤ 0) (h8 : 0 ≤ z4 ∧ z4 ≤ 3) (h9 : 0 ≤ z428 ∧ z428 ≤ 0) (h10 : (-2147483648) ≤ z7 ∧ z7 ≤ 2147483647) : z428 = 0 := by omega
theorem vc_X12_piece_Wx_50 {z1 z4 z428 z7 : Int} (h0 : ¬ z428 = 0) (h1 : (z428 = 1 → z1 = 0 ∧ z4 = 3 ∧ z7 = (43 : Int))) (h2 : (z428 = 0 → ¬ z1 = 0 ∨ ¬ z4 = 3 ∨ ¬ z7 = (43 : Int))) (h3 : 0 ≤ z1 ∧ z1 ≤ 4) (h4 : 0 ≤ z4 ∧ z4 ≤ 3) (h5 : 0 ≤ z428 ∧ z428 ≤ 1) (h6 : (-2147483648) ≤ z7 ∧ z7 ≤ 2147483647) : 1 ≤ z428 ∧ z428 ≤ 1 := by omega
theorem vc_X12_piece_Wx_51 {z1 z14 z4 z428 z7 : Int} (h0 : (z428 = 1 → z1 = 0 ∧ z4 = 3 ∧ z7 = (43 : Int))) (h1 : (z428 = 0 → ¬ z1 = 0 ∨ ¬ z4 = 3 ∨ ¬ z7 = (43 : Int))) (h2 : ¬ z428 = 0) (h3 : (z14 = 1 → z1 = 0 ∧ z4 = 3 ∧ z7 = (42 : Int))) (h4 : (z14 = 0 → ¬ z1 = 0 ∨ ¬ z4 = 3 ∨ ¬ z7 = (42 : Int))) (h5 : ¬ z1 = 0 ∨ ¬ z4 = 3 ∨ ¬ z7 = (42 : Int)) (h6 : 0 ≤ z1 ∧ z1 ≤ 4) (h7 : 0 ≤ z14 ∧ z14 ≤ 0) (h8 : 0 ≤ z4 ∧ z4 ≤ 3) (h9 : 1 ≤ z428 ∧ z428 ≤ 1) (h10 : (-2147483648) ≤ z7 ∧ z7 ≤ 2147483647) : z428 = 1 := by omega
theorem vc_X12_piece_Wx_52 {z1 z14 z4 z428 z7 : Int} (h0 : z1 = 0 ∧ z4 = 3 ∧ z7 = (43 : Int)) (h1 : (z14 = 1 → z1 = 0 ∧ z4 = 3 ∧ z7 = (42 : Int))) (h2 : (z14 = 0 → ¬ z1 = 0 ∨ ¬ z4 = 3 ∨ ¬ z7 = (42 : Int))) (h3 : ¬ z1 = 0 ∨ ¬ z4 = 3 ∨ ¬ z7 = (42 : Int)) (h4 : (z428 = 1 → z1 = 0 ∧ z4 = 3 ∧ z7 = (43 : Int))) (h5 : (z428 = 0 → ¬ z1 = 0 ∨ ¬ z4 = 3 ∨ ¬ z7 = (43 : Int))) (h6 : 0 ≤ z1 ∧ z1 ≤ 4) (h7 : 0 ≤ z14 ∧ z14 ≤ 0) (h8 : 0 ≤ z4 ∧ z4 ≤ 3) (h9 : 1 ≤ z428 ∧ z428 ≤ 1) (h10 : (-2147483648) ≤ z7 ∧ z7 ≤ 2147483647) : 0 ≤ z1 ∧ z1 ≤ 0 := by omega
theorem vc_X12_piece_Wx_53 {z1 z14 z4 z428 z7 : Int} (h0 : z1 = 0 ∧ z4 = 3 ∧ z7 = (43 : Int)) (h1 : (z14 = 1 → z1 = 0 ∧ z4 = 3 ∧ z7 = (42 : Int))) (h2 : (z14 = 0 → ¬ z1 = 0 ∨ ¬ z4 = 3 ∨ ¬ z7 = (42 : Int))) (h3 : ¬ z1 = 0 ∨ ¬ z4 = 3 ∨ ¬ z7 = (42 : Int)) (h4 : (z428 = 1 → z1 = 0 ∧ z4 = 3 ∧ z7 = (43 : Int))) (h5 : (z428 = 0 → ¬ z1 = 0 ∨ ¬ z4 = 3 ∨ ¬ z7 = (43 : Int))) (h6 : 0 ≤ z1 ∧ z1 ≤ 0) (h7 : 0 ≤ z14 ∧ z14 ≤ 0) (h8 : 0 ≤ z4 ∧ z4 ≤ 3) (h9 : 1 ≤ z428 ∧ z428 ≤ 1) (h10 : (-2147483648) ≤ z7 ∧ z7 ≤ 2147483647) : 43 ≤ z7 ∧ z7 ≤ 43 := by omega
theorem vc_X12_piece_Wx_54 {z1 z14 z4 z428 z7 : Int} (h0 : z1 = 0 ∧ z4 = 3 ∧ z7 = (43 : Int)) (h1 : (z14 = 1 → z1 = 0 ∧ z4 = 3 ∧ z7 = (42 : Int))) (h2 : (z14 = 0 → ¬ z1 = 0 ∨ ¬ z4 = 3 ∨ ¬ z7 = (42 : Int))) (h3 : ¬ z1 = 0 ∨ ¬ z4 = 3 ∨ ¬ z7 = (42 : Int)) (h4 : (z428 = 1 → z1 = 0 ∧ z4 = 3 ∧ z7 = (43 : Int))) (h5 : (z428 = 0 → ¬ z1 = 0 ∨ ¬ z4 = 3 ∨ ¬ z7 = (43 : Int))) (h6 : 0 ≤ z1 ∧ z1 ≤ 0) (h7 : 0 ≤ z14 ∧ z14 ≤ 0) (h8 : 0 ≤ z4 ∧ z4 ≤ 3) (h9 : 1 ≤ z428 ∧ z428 ≤ 1) (h10 : 43 ≤ z7 ∧ z7 ≤ 43) : 3 ≤ z4 ∧ z4 ≤ 3 := by omega
set_option maxRecDepth 4000 in
set_option maxHeartbeats 4000000 in
theorem c_X12_piece_Wx {l : Launch} {D : va_G} {c : Nat → ClassId} {H0 : Heap} {sa : Nat × Nat × (Nat → Int32)} {w : mW} {μ : mM} (hw : mWF w) (hT : mT w μ) {p1 : Int} (hp1 : (-9223372036854775808) ≤ p1 ∧ p1 ≤ 9223372036854775807) {p2 : Int} (hp2 : (-9223372036854775808) ≤ p2 ∧ p2 ≤ 9223372036854775807) {p3 : Int} (hp3 : 0 ≤ p3 ∧ p3 ≤ 1) {Q : mM → Prop} (hQ : WP_X12_piece_Wx w μ p1 p2 p3 Q) : sC (gG l D c H0 sa) mX12_piece 3 0 0 [.ref 106, jv p1, jv p2, iv p3] (mk w μ) (qV w [106033, 106034, 106035, 106036, 106037, 106038, 144999, 148999, 149999, 150999] μ (fun μ1 => Q μ1 ∧ True)) := by
  refine sC.of rfl (by decide) (le_t rfl) ?_
  refine mr_lvE (lv' := [(0, .ref 106), (1, jv p1), (3, jv p2), (5, iv p3)]) rfl ?_
  refine mr_iload (pc := 0) (z := p3) dX12_piece_0 rfl ?_
  refine mr_istore (pc := 2) (lv' := [(6, iv p3), (0, .ref 106), (1, jv p1), (3, jv p2), (5, iv p3)]) dX12_piece_2 (by decide) rfl ?_
  refine sv_aload_n (pc := 4) dX12_piece_4 rfl rfl ?_
  refine mr_bipush (pc := 5) (z := 42) dX12_piece_5 (by decide) ?_
  obtain ⟨z1, q2⟩ : ∃ z, μ 106 37 = z := ⟨_, rfl⟩
  have h3 : (0 ≤ z1 ∧ z1 ≤ 4) := by rw [← q2]; exact hT 106 106 (A_106 hw) 37
  obtain ⟨z4, q5⟩ : ∃ z, μ 106 35 = z := ⟨_, rfl⟩
  have h6 : (0 ≤ z4 ∧ z4 ≤ 3) := by rw [← q5]; exact hT 106 106 (A_106 hw) 35
  obtain ⟨z7, q8⟩ : ∃ z, μ 106 36 = z := ⟨_, rfl⟩
  have h9 : ((-2147483648) ≤ z7 ∧ z7 ≤ 2147483647) := by rw [← q8]; exact hT 106 106 (A_106 hw) 36
  refine mr_cVP (pc := 7) (c_X12_isSign_W hw hT (rW (c := (-2147483648)) (d := 2147483647) (rR (x := 42)) rfl) q2 q5 q8 (((hQ z1 q2 h3) z4 q5 h6) z7 q8 h9)) (gOk _ _ _ _ _) dX12_piece_7 (tX12_isSign _ _ _ _ _) ⟨wV_X12_isSign, wL_X12_isSign⟩ wM_X12_244 (gCX12 _ _ _ _ _) rfl (A_106 hw) rfl ⟨le_t rfl, le_t rfl⟩ ⟨le_t rfl, le_t rfl⟩ rfl (le_t rfl) fun z14 h13 => ?_
  have J46 : ∀ (μ42 : mM), (mT w μ42) → (mF [144999] w μ μ42) → ((WJ_X12_piece_Wx_1 w μ p1 p2 p3 Q) μ42) → sV (gG l D c H0 sa) mX12_piece (sRm 3 0 0) (sZ (gG l D c H0 sa) 0 0 (qV w [106033, 106034, 106035, 106036, 106037, 106038, 144999, 148999, 149999, 150999] μ (fun μ1 => Q μ1 ∧ True))) 28 [(0, .ref 106), (1, jv p1), (3, jv p2), (6, iv p3)] [] (mk w μ42) 0 0 := by
    intro μ42 T43 F44 W47
    refine sv_aload_n (pc := 28) dX12_piece_28 rfl rfl ?_
    refine mr_bipush (pc := 29) (z := 42) dX12_piece_29 (by decide) ?_
    refine mr_cVP (pc := 31) (c_X12_isSign_W hw T43 (rW (c := (-2147483648)) (d := 2147483647) (rR (x := 42)) rfl) (F44.f (A_106 hw) rfl q2) (F44.f (A_106 hw) rfl q5) (F44.f (A_106 hw) rfl q8) (W47 T43 F44)) (gOk _ _ _ _ _) dX12_piece_31 (tX12_isSign _ _ _ _ _) ⟨wV_X12_isSign, wL_X12_isSign⟩ wM_X12_244 (gCX12 _ _ _ _ _) rfl (A_106 hw) rfl ⟨le_t rfl, le_t rfl⟩ ⟨le_t rfl, le_t rfl⟩ rfl (le_t rfl) fun z52 h51 => ?_
    have J74 : ∀ (z72 : Int), ((0 ≤ z72 ∧ z72 ≤ 1)) → ((WJ_X12_piece_Wx_2 w p1 p2 Q μ42) z72) → sV (gG l D c H0 sa) mX12_piece (sRm 3 0 0) (sZ (gG l D c H0 sa) 0 0 (qV w [106033, 106034, 106035, 106036, 106037, 106038, 144999, 148999, 149999, 150999] μ (fun μ1 => Q μ1 ∧ True))) 49 [(0, .ref 106), (1, jv p1), (3, jv p2), (6, iv z72)] [] (mk w μ42) 0 0 := by
      intro z72 h73 W75
      refine sv_aload_n (pc := 49) dX12_piece_49 rfl rfl ?_
      refine mr_bipush (pc := 50) (z := 42) dX12_piece_50 (by decide) ?_
      refine mr_cVP (pc := 52) (c_X12_isSign_W hw T43 (rW (c := (-2147483648)) (d := 2147483647) (rR (x := 42)) rfl) (F44.f (A_106 hw) rfl q2) (F44.f (A_106 hw) rfl q5) (F44.f (A_106 hw) rfl q8) (W75 h73)) (gOk _ _ _ _ _) dX12_piece_52 (tX12_isSign _ _ _ _ _) ⟨wV_X12_isSign, wL_X12_isSign⟩ wM_X12_244 (gCX12 _ _ _ _ _) rfl (A_106 hw) rfl ⟨le_t rfl, le_t rfl⟩ ⟨le_t rfl, le_t rfl⟩ rfl (le_t rfl) fun z80 h79 => ?_
      have J194 : ∀ (μ190 : mM), (mT w μ190) → (mF [106033, 106034, 106035, 106036, 106037, 106038] w μ42 μ190) → ((WJ_X12_piece_Wx_3 w p1 p2 Q μ42 z72) μ190) → sV (gG l D c H0 sa) mX12_piece (sRm 3 0 0) (sZ (gG l D c H0 sa) 0 0 (qV w [106033, 106034, 106035, 106036, 106037, 106038, 144999, 148999, 149999, 150999] μ (fun μ1 => Q μ1 ∧ True))) 80 [(0, .ref 106), (1, jv p1), (3, jv p2), (6, iv z72)] [] (mk w μ190) 0 0 := by
        intro μ190 T191 F192 W195
        refine sv_aload_n (pc := 80) dX12_piece_80 rfl rfl ?_
        refine gf_X12_59 (pc := 81) dX12_piece_81 wF_X12_254 (A_106 hw) T191 fun z196 q197 h198 => ?_
        have h199 : (1 : Int) ≤ z196 := ((W195 T191 F192) z196 q197 h198).1
        have h200 : 1 ≤ z196 ∧ z196 ≤ 6 := (vc_X12_piece_Wx_1 h199 h198)
        refine mr_iconst (pc := 84) (z := 1) dX12_piece_84 ?_
        refine mr_isub (pc := 85) (x := z196) (y := 1) dX12_piece_85 ?_
        refine mr_istore (pc := 86) (lv' := [(7, iv (z196 - 1)), (0, .ref 106), (1, jv p1), (3, jv p2), (6, iv z72)]) dX12_piece_86 (by decide) rfl ?_
        refine sv_aload_n (pc := 88) dX12_piece_88 rfl rfl ?_
        refine sv_aload_n (pc := 89) dX12_piece_89 rfl rfl ?_
        refine gf_X12_64 (pc := 90) dX12_piece_90 wF_X12_269 (A_106 hw) T191 ?_
        refine mr_iload (pc := 93) (z := (z196 - 1)) dX12_piece_93 rfl ?_
        refine la_149 (pc := 95) dX12_piece_95 (A_149 hw) T191 (rIx (n := 10) (rSub (e := 0) (f := 5) h200 (rR (x := 1)) rfl) rfl) fun z201 q202 h203 => ?_
        refine mr_lload_n (pc := 96) (z := p1) dX12_piece_96 rfl rfl ?_
        refine mr_cVV (pc := 97) (c_X12_follows_W hw T191 h203 hp1 ((((W195 T191 F192) z196 q197 h198).2 trivial) z201 q202 h203)) (gOk _ _ _ _ _) dX12_piece_97 (tX12_follows _ _ _ _ _) ⟨wV_X12_follows, wL_X12_follows⟩ wM_X12_281 (gCX12 _ _ _ _ _) rfl (A_106 hw) rfl ⟨le_t rfl, le_t rfl⟩ ⟨le_t rfl, le_t rfl⟩ rfl (le_t rfl) fun μ204 T205 F206 h207 => ?_
        refine sv_aload_n (pc := 100) dX12_piece_100 rfl rfl ?_
        refine gf_X12_65 (pc := 101) dX12_piece_101 wF_X12_272 (A_106 hw) T205 ?_
        refine mr_iload (pc := 104) (z := (z196 - 1)) dX12_piece_104 rfl ?_
        refine la_150 (pc := 106) dX12_piece_106 (A_150 hw) T205 (rIx (n := 10) (rSub (e := 0) (f := 5) h200 (rR (x := 1)) rfl) rfl) fun z208 q209 h210 => ?_
        have J226 : ∀ (μ222 : mM), (mT w μ222) → (mF [148999] w μ204 μ222) → ((WJ_X12_piece_Wx_4 w p2 Q z72 z196 z201 μ204 z208) μ222) → sV (gG l D c H0 sa) mX12_piece (sRm 3 0 0) (sZ (gG l D c H0 sa) 0 0 (qV w [106033, 106034, 106035, 106036, 106037, 106038, 144999, 148999, 149999, 150999] μ (fun μ1 => Q μ1 ∧ True))) 121 [(0, .ref 106), (3, jv p2), (6, iv z72), (7, iv (z196 - 1))] [] (mk w μ222) 0 0 := by
          intro μ222 T223 F224 W227
          refine sv_aload_n (pc := 121) dX12_piece_121 rfl rfl ?_
          refine gf_X12_64 (pc := 122) dX12_piece_122 wF_X12_269 (A_106 hw) T223 ?_
          refine mr_iload (pc := 125) (z := (z196 - 1)) dX12_piece_125 rfl ?_
          refine mr_iload (pc := 127) (z := z72) dX12_piece_127 rfl ?_
          have J235 : ∀ (z233 : Int), (((-9223372036854775808) ≤ z233 ∧ z233 ≤ 9223372036854775807)) → ((WJ_X12_piece_Wx_5 w Q z72 z196 z208 μ222) z233) → sV (gG l D c H0 sa) mX12_piece (sRm 3 0 0) (sZ (gG l D c H0 sa) 0 0 (qV w [106033, 106034, 106035, 106036, 106037, 106038, 144999, 148999, 149999, 150999] μ (fun μ1 => Q μ1 ∧ True))) 145 [(0, .ref 106), (6, iv z72), (7, iv (z196 - 1))] [jv z233, iv (z196 - 1), .ref 149] (mk w μ222) 0 0 := by
            intro z233 h234 W236
            refine ss_149 (pc := 145) dX12_piece_145 (A_149 hw) T223 (rIx (n := 10) (rSub (e := 0) (f := 5) h200 (rR (x := 1)) rfl) rfl) h234 fun μ237 u238 T239 => ?_
            refine sv_aload_n (pc := 146) dX12_piece_146 rfl rfl ?_
            refine gf_X12_65 (pc := 147) dX12_piece_147 wF_X12_272 (A_106 hw) T239 ?_
            refine mr_iload (pc := 150) (z := (z196 - 1)) dX12_piece_150 rfl ?_
            refine sv_aload_n (pc := 152) dX12_piece_152 rfl rfl ?_
            refine gf_X12_65 (pc := 153) dX12_piece_153 wF_X12_272 (A_106 hw) T239 ?_
            refine mr_iload (pc := 156) (z := (z196 - 1)) dX12_piece_156 rfl ?_
            refine lk_150 (pc := 158) dX12_piece_158 (A_150 hw) (rIx (n := 10) (rSub (e := 0) (f := 5) h200 (rR (x := 1)) rfl) rfl) (u238.f (Or.inl (mAt.ne (A_149 hw) (A_150 hw) rfl)) (F224.f (A_150 hw) rfl q209)) ?_
            refine mr_if_eq (pc := 159) (tgt := 171) dX12_piece_159 (by decide) (r32 h210 rfl) (fun h244 => ?_) (fun h244 => ?_)
            · have h245 : 0 ≤ z208 ∧ z208 ≤ 0 := (vc_X12_ring_22 h244 h210)
              refine mr_iconst (pc := 171) (z := 0) dX12_piece_171 ?_
              refine ss_150 (pc := 172) dX12_piece_172 (A_150 hw) T239 (rIx (n := 10) (rSub (e := 0) (f := 5) h200 (rR (x := 1)) rfl) rfl) (rW (c := 0) (d := 1) (rR (x := 0)) rfl) fun μ246 u247 T248 => ?_
              exact mr_vret dX12_piece_173 rfl (le_t rfl) (le_t rfl) T248 (mF.up (mF.up (mF.call (mF.call (mF.call (mF.call mF.refl F44 rfl) F192 rfl) F206 rfl) F224 rfl) (A_149 hw) u238 rfl) (A_150 hw) u247 rfl) ⟨((((W236 h234) μ237 u238 T239).1 h244) μ246 u247 T248), trivial⟩
            have h249 : 1 ≤ z208 ∧ z208 ≤ 1 := (vc_X12_ring_24 h244 h210)
            refine mr_iload (pc := 162) (z := z72) dX12_piece_162 rfl ?_
            refine mr_if_eq (pc := 164) (tgt := 171) dX12_piece_164 (by decide) (r32 h73 rfl) (fun h252 => ?_) (fun h252 => ?_)
            · have h253 : 0 ≤ z72 ∧ z72 ≤ 0 := (vc_X12_ring_22 h252 h73)
              refine mr_iconst (pc := 171) (z := 0) dX12_piece_171 ?_
              refine ss_150 (pc := 172) dX12_piece_172 (A_150 hw) T239 (rIx (n := 10) (rSub (e := 0) (f := 5) h200 (rR (x := 1)) rfl) rfl) (rW (c := 0) (d := 1) (rR (x := 0)) rfl) fun μ254 u255 T256 => ?_
              exact mr_vret dX12_piece_173 rfl (le_t rfl) (le_t rfl) T256 (mF.up (mF.up (mF.call (mF.call (mF.call (mF.call mF.refl F44 rfl) F192 rfl) F206 rfl) F224 rfl) (A_149 hw) u238 rfl) (A_150 hw) u255 rfl) ⟨(((((W236 h234) μ237 u238 T239).2 h244).1 h252) μ254 u255 T256), trivial⟩
            have h257 : 1 ≤ z72 ∧ z72 ≤ 1 := (vc_X12_ring_24 h252 h73)
            refine mr_iconst (pc := 167) (z := 1) dX12_piece_167 ?_
            refine sv_goto (pc := 168) (tgt := 172) dX12_piece_168 (by decide) ?_
            refine ss_150 (pc := 172) dX12_piece_172 (A_150 hw) T239 (rIx (n := 10) (rSub (e := 0) (f := 5) h200 (rR (x := 1)) rfl) rfl) (rW (c := 0) (d := 1) (rR (x := 1)) rfl) fun μ258 u259 T260 => ?_
            exact mr_vret dX12_piece_173 rfl (le_t rfl) (le_t rfl) T260 (mF.up (mF.up (mF.call (mF.call (mF.call (mF.call mF.refl F44 rfl) F192 rfl) F206 rfl) F224 rfl) (A_149 hw) u238 rfl) (A_150 hw) u259 rfl) ⟨(((((W236 h234) μ237 u238 T239).2 h244).2 h252) μ258 u259 T260), trivial⟩
          refine mr_if_eq (pc := 129) (tgt := 144) dX12_piece_129 (by decide) (r32 h73 rfl) (fun h261 => ?_) (fun h261 => ?_)
          · have h262 : 0 ≤ z72 ∧ z72 ≤ 0 := (vc_X12_ring_22 h261 h73)
            refine mr_lload_n (pc := 144) (z := p2) dX12_piece_144 rfl rfl ?_
            refine mr_lvS (lv' := [(0, .ref 106), (6, iv z72), (7, iv (z196 - 1))]) (List.forall_mem_cons.mpr ⟨rfl, List.forall_mem_cons.mpr ⟨rfl, List.forall_mem_cons.mpr ⟨rfl, fun _ h => absurd h List.not_mem_nil⟩⟩⟩) ?_
            exact J235 p2 hp2 ((W227 T223 F224).1 h261)
          have h263 : 1 ≤ z72 ∧ z72 ≤ 1 := (vc_X12_ring_24 h261 h73)
          refine sv_aload_n (pc := 132) dX12_piece_132 rfl rfl ?_
          refine gf_X12_64 (pc := 133) dX12_piece_133 wF_X12_269 (A_106 hw) T223 ?_
          refine mr_iload (pc := 136) (z := (z196 - 1)) dX12_piece_136 rfl ?_
          refine lk_149 (pc := 138) dX12_piece_138 (A_149 hw) (rIx (n := 10) (rSub (e := 0) (f := 5) h200 (rR (x := 1)) rfl) rfl) (F224.f (A_149 hw) rfl (F206.f (A_149 hw) rfl q202)) ?_
          refine mr_lload_n (pc := 139) (z := p2) dX12_piece_139 rfl rfl ?_
          refine mr_lor (pc := 140) dX12_piece_140 ?_
          refine mr_genL (r64i _) fun z264 q265 h266 => ?_
          refine sv_goto (pc := 141) (tgt := 145) dX12_piece_141 (by decide) ?_
          refine mr_lvS (lv' := [(0, .ref 106), (6, iv z72), (7, iv (z196 - 1))]) (List.forall_mem_cons.mpr ⟨rfl, List.forall_mem_cons.mpr ⟨rfl, List.forall_mem_cons.mpr ⟨rfl, fun _ h => absurd h List.not_mem_nil⟩⟩⟩) ?_
          exact J235 z264 h266 (((W227 T223 F224).2 h261) z264 q265)
        refine mr_if_eq (pc := 107) (tgt := 121) dX12_piece_107 (by decide) (r32 h210 rfl) (fun h267 => ?_) (fun h267 => ?_)
        · have h268 : 0 ≤ z208 ∧ z208 ≤ 0 := (vc_X12_ring_22 h267 h210)
          refine mr_lvS (lv' := [(0, .ref 106), (3, jv p2), (6, iv z72), (7, iv (z196 - 1))]) (List.forall_mem_cons.mpr ⟨rfl, List.forall_mem_cons.mpr ⟨rfl, List.forall_mem_cons.mpr ⟨rfl, List.forall_mem_cons.mpr ⟨rfl, fun _ h => absurd h List.not_mem_nil⟩⟩⟩⟩) ?_
          exact J226 μ204 T205 mF.refl (((h207.1 T205 F206) z208 q209 h210).1 h267)
        have h269 : 1 ≤ z208 ∧ z208 ≤ 1 := (vc_X12_ring_24 h267 h210)
        refine sv_aload_n (pc := 110) dX12_piece_110 rfl rfl ?_
        refine gf_X12_63 (pc := 111) dX12_piece_111 wF_X12_266 (A_106 hw) T205 ?_
        refine mr_iload (pc := 114) (z := (z196 - 1)) dX12_piece_114 rfl ?_
        refine sv_dup2 (pc := 116) dX12_piece_116 rfl rfl ?_
        refine la_148 (pc := 117) dX12_piece_117 (A_148 hw) T205 (rIx (n := 10) (rSub (e := 0) (f := 5) h200 (rR (x := 1)) rfl) rfl) fun z270 q271 h272 => ?_
        refine mr_lload_n (pc := 118) (z := p1) dX12_piece_118 rfl rfl ?_
        refine mr_lor (pc := 119) dX12_piece_119 ?_
        refine mr_genL (r64i _) fun z273 q274 h275 => ?_
        refine ss_148 (pc := 120) dX12_piece_120 (A_148 hw) T205 (rIx (n := 10) (rSub (e := 0) (f := 5) h200 (rR (x := 1)) rfl) rfl) h275 fun μ276 u277 T278 => ?_
        refine mr_lvS (lv' := [(0, .ref 106), (3, jv p2), (6, iv z72), (7, iv (z196 - 1))]) (List.forall_mem_cons.mpr ⟨rfl, List.forall_mem_cons.mpr ⟨rfl, List.forall_mem_cons.mpr ⟨rfl, List.forall_mem_cons.mpr ⟨rfl, fun _ h => absurd h List.not_mem_nil⟩⟩⟩⟩) ?_
        exact J226 μ276 T278 (mF.up mF.refl (A_148 hw) u277 rfl) ((((((h207.1 T205 F206) z208 q209 h210).2 h267) z270 q271 h272) z273 q274) μ276 u277 T278)
      refine mr_if_ne (pc := 55) (tgt := 76) dX12_piece_55 (by decide) (r32 h79.1 rfl) (fun h279 => ?_) (fun h279 => ?_)
      · have h280 : 1 ≤ z80 ∧ z80 ≤ 1 := (vc_X12_piece_Wx_6 h279 h79.2.1 h79.2.2.1 h3 h6 h9 h79.1)
        have h281 : z1 = 0 ∧ z4 = 3 ∧ z7 = (42 : Int) := (h79.2.1 (vc_X12_piece_Wx_7 h79.2.1 h79.2.2.1 h279 h13.2.1 h13.2.2.1 h51.2.1 h51.2.2.1 h3 h13.1 h6 h51.1 h9 h280))
        have h282 : 0 ≤ z1 ∧ z1 ≤ 0 := (vc_X12_piece_Wx_8 h281 h13.2.1 h13.2.2.1 h51.2.1 h51.2.2.1 h79.2.1 h79.2.2.1 h3 h13.1 h6 h51.1 h9 h280)
        have h283 : 42 ≤ z7 ∧ z7 ≤ 42 := (vc_X12_piece_Wx_9 h281 h13.2.1 h13.2.2.1 h51.2.1 h51.2.2.1 h79.2.1 h79.2.2.1 h282 h13.1 h6 h51.1 h9 h280)
        have h284 : 3 ≤ z4 ∧ z4 ≤ 3 := (vc_X12_piece_Wx_10 h281 h13.2.1 h13.2.2.1 h51.2.1 h51.2.2.1 h79.2.1 h79.2.2.1 h282 h13.1 h6 h51.1 h283 h280)
        refine sv_aload_n (pc := 76) dX12_piece_76 rfl rfl ?_
        obtain ⟨z285, q286⟩ : ∃ z, μ42 106 33 = z := ⟨_, rfl⟩
        have h287 : (0 ≤ z285 ∧ z285 ≤ 1000) := by rw [← q286]; exact T43 106 106 (A_106 hw) 33
        obtain ⟨z288, q289⟩ : ∃ z, μ42 106 1 = z := ⟨_, rfl⟩
        have h290 : (0 ≤ z288 ∧ z288 ≤ 1000) := by rw [← q289]; exact T43 106 106 (A_106 hw) 1
        refine mr_cVV (pc := 77) (c_X12_next_v hw T43 (F44.f (A_106 hw) rfl q2) q286 q289) (gOk _ _ _ _ _) dX12_piece_77 (tX12_next _ _ _ _ _) ⟨wV_X12_next, wL_X12_next⟩ wM_X12_247 (gCX12 _ _ _ _ _) rfl (A_106 hw) rfl ⟨le_t rfl, le_t rfl⟩ ⟨le_t rfl, le_t rfl⟩ rfl (le_t rfl) fun μ291 T292 F293 h294 => ?_
        obtain ⟨z295, z297, z299, z301, z303, q296, q298, q300, q302, q304, h305⟩ := h294
        have h306 : (0 ≤ z295 ∧ z295 ≤ 4) := by rw [← q296]; exact T292 106 106 (A_106 hw) 37
        have h307 : (0 ≤ z297 ∧ z297 ≤ 1000) := by rw [← q298]; exact T292 106 106 (A_106 hw) 33
        have h308 : (0 ≤ z299 ∧ z299 ≤ 1000) := by rw [← q300]; exact T292 106 106 (A_106 hw) 34
        have h309 : (0 ≤ z301 ∧ z301 ≤ 3) := by rw [← q302]; exact T292 106 106 (A_106 hw) 35
        have h310 : ((-2147483648) ≤ z303 ∧ z303 ≤ 2147483647) := by rw [← q304]; exact T292 106 106 (A_106 hw) 36
        exact J194 μ291 T292 (mF.call mF.refl F293 rfl) (((((((((((h79.2.2.2.1 h79.1).1 h279) z285 q286 h287) z288 q289 h290) μ291 F293 T292) z295 q296) z297 q298) z299 q300) z301 q302) z303 q304) h305.2.2.2.2.2.2.2.1)
      have h311 : 0 ≤ z80 ∧ z80 ≤ 0 := (vc_X12_piece_Wx_11 h279 h79.2.1 h79.2.2.1 h3 h6 h9 h79.1)
      have h312 : ¬ z1 = 0 ∨ ¬ z4 = 3 ∨ ¬ z7 = (42 : Int) := (h79.2.2.1 (vc_X12_piece_Wx_12 h79.2.1 h79.2.2.1 h279 h13.2.1 h13.2.2.1 h51.2.1 h51.2.2.1 h3 h13.1 h6 h51.1 h9 h311))
      refine sv_aload_n (pc := 58) dX12_piece_58 rfl rfl ?_
      refine mr_bipush (pc := 59) (z := 43) dX12_piece_59 (by decide) ?_
      refine mr_cVP (pc := 61) (c_X12_isSign_W hw T43 (rW (c := (-2147483648)) (d := 2147483647) (rR (x := 43)) rfl) (F44.f (A_106 hw) rfl q2) (F44.f (A_106 hw) rfl q5) (F44.f (A_106 hw) rfl q8) ((h79.2.2.2.1 h79.1).2 h279)) (gOk _ _ _ _ _) dX12_piece_61 (tX12_isSign _ _ _ _ _) ⟨wV_X12_isSign, wL_X12_isSign⟩ wM_X12_244 (gCX12 _ _ _ _ _) rfl (A_106 hw) rfl ⟨le_t rfl, le_t rfl⟩ ⟨le_t rfl, le_t rfl⟩ rfl (le_t rfl) fun z317 h316 => ?_
      refine mr_if_ne (pc := 64) (tgt := 76) dX12_piece_64 (by decide) (r32 h316.1 rfl) (fun h318 => ?_) (fun h318 => ?_)
      · have h319 : 1 ≤ z317 ∧ z317 ≤ 1 := (vc_X12_piece_Wx_13 h318 h316.2.1 h316.2.2.1 h3 h316.1 h6 h9)
        have h320 : z1 = 0 ∧ z4 = 3 ∧ z7 = (43 : Int) := (h316.2.1 (vc_X12_piece_Wx_14 h316.2.1 h316.2.2.1 h318 h13.2.1 h13.2.2.1 h51.2.1 h51.2.2.1 h79.2.1 h79.2.2.1 h312 h3 h13.1 h319 h6 h51.1 h9 h311))
        have h321 : 0 ≤ z1 ∧ z1 ≤ 0 := (vc_X12_piece_Wx_15 h320 h51.2.1 h51.2.2.1 h79.2.1 h79.2.2.1 h312 h316.2.1 h316.2.2.1 h3 h319 h6 h51.1 h9 h311)
        have h322 : 43 ≤ z7 ∧ z7 ≤ 43 := (vc_X12_piece_Wx_16 h320 h51.2.1 h51.2.2.1 h79.2.1 h79.2.2.1 h312 h316.2.1 h316.2.2.1 h321 h319 h6 h51.1 h9 h311)
        have h323 : 3 ≤ z4 ∧ z4 ≤ 3 := (vc_X12_piece_Wx_17 h320 h51.2.1 h51.2.2.1 h79.2.1 h79.2.2.1 h312 h316.2.1 h316.2.2.1 h321 h319 h6 h51.1 h322 h311)
        refine sv_aload_n (pc := 76) dX12_piece_76 rfl rfl ?_
        obtain ⟨z324, q325⟩ : ∃ z, μ42 106 33 = z := ⟨_, rfl⟩
        have h326 : (0 ≤ z324 ∧ z324 ≤ 1000) := by rw [← q325]; exact T43 106 106 (A_106 hw) 33
        obtain ⟨z327, q328⟩ : ∃ z, μ42 106 1 = z := ⟨_, rfl⟩
        have h329 : (0 ≤ z327 ∧ z327 ≤ 1000) := by rw [← q328]; exact T43 106 106 (A_106 hw) 1
        refine mr_cVV (pc := 77) (c_X12_next_v hw T43 (F44.f (A_106 hw) rfl q2) q325 q328) (gOk _ _ _ _ _) dX12_piece_77 (tX12_next _ _ _ _ _) ⟨wV_X12_next, wL_X12_next⟩ wM_X12_247 (gCX12 _ _ _ _ _) rfl (A_106 hw) rfl ⟨le_t rfl, le_t rfl⟩ ⟨le_t rfl, le_t rfl⟩ rfl (le_t rfl) fun μ330 T331 F332 h333 => ?_
        obtain ⟨z334, z336, z338, z340, z342, q335, q337, q339, q341, q343, h344⟩ := h333
        have h345 : (0 ≤ z334 ∧ z334 ≤ 4) := by rw [← q335]; exact T331 106 106 (A_106 hw) 37
        have h346 : (0 ≤ z336 ∧ z336 ≤ 1000) := by rw [← q337]; exact T331 106 106 (A_106 hw) 33
        have h347 : (0 ≤ z338 ∧ z338 ≤ 1000) := by rw [← q339]; exact T331 106 106 (A_106 hw) 34
        have h348 : (0 ≤ z340 ∧ z340 ≤ 3) := by rw [← q341]; exact T331 106 106 (A_106 hw) 35
        have h349 : ((-2147483648) ≤ z342 ∧ z342 ≤ 2147483647) := by rw [← q343]; exact T331 106 106 (A_106 hw) 36
        exact J194 μ330 T331 (mF.call mF.refl F332 rfl) (((((((((((h316.2.2.2.1 h316.1).1 h318) z324 q325 h326) z327 q328 h329) μ330 F332 T331) z334 q335) z336 q337) z338 q339) z340 q341) z342 q343) h344.2.2.2.2.2.2.2.1)
      have h350 : 0 ≤ z317 ∧ z317 ≤ 0 := (vc_X12_piece_Wx_18 h318 h316.2.1 h316.2.2.1 h3 h316.1 h6 h9)
      have h351 : ¬ z1 = 0 ∨ ¬ z4 = 3 ∨ ¬ z7 = (43 : Int) := (h316.2.2.1 (vc_X12_piece_Wx_19 h316.2.1 h316.2.2.1 h318 h13.2.1 h13.2.2.1 h51.2.1 h51.2.2.1 h79.2.1 h79.2.2.1 h312 h3 h13.1 h350 h6 h51.1 h9 h311))
      refine sv_aload_n (pc := 67) dX12_piece_67 rfl rfl ?_
      refine mr_bipush (pc := 68) (z := 63) dX12_piece_68 (by decide) ?_
      refine mr_cVP (pc := 70) (c_X12_isSign_W hw T43 (rW (c := (-2147483648)) (d := 2147483647) (rR (x := 63)) rfl) (F44.f (A_106 hw) rfl q2) (F44.f (A_106 hw) rfl q5) (F44.f (A_106 hw) rfl q8) ((h316.2.2.2.1 h316.1).2 h318)) (gOk _ _ _ _ _) dX12_piece_70 (tX12_isSign _ _ _ _ _) ⟨wV_X12_isSign, wL_X12_isSign⟩ wM_X12_244 (gCX12 _ _ _ _ _) rfl (A_106 hw) rfl ⟨le_t rfl, le_t rfl⟩ ⟨le_t rfl, le_t rfl⟩ rfl (le_t rfl) fun z356 h355 => ?_
      refine mr_if_eq (pc := 73) (tgt := 80) dX12_piece_73 (by decide) (r32 h355.1 rfl) (fun h357 => ?_) (fun h357 => ?_)
      · have h358 : 0 ≤ z356 ∧ z356 ≤ 0 := (vc_X12_piece_Wx_20 h357 h355.2.1 h355.2.2.1 h3 h355.1 h6 h9)
        have h359 : ¬ z1 = 0 ∨ ¬ z4 = 3 ∨ ¬ z7 = (63 : Int) := (h355.2.2.1 (vc_X12_piece_Wx_21 h355.2.1 h355.2.2.1 h357 h13.2.1 h13.2.2.1 h51.2.1 h51.2.2.1 h79.2.1 h79.2.2.1 h312 h316.2.1 h316.2.2.1 h351 h3 h13.1 h350 h358 h6 h51.1 h9 h311))
        exact J194 μ42 T43 mF.refl ((h355.2.2.2.1 h355.1).1 h357)
      have h360 : 1 ≤ z356 ∧ z356 ≤ 1 := (vc_X12_piece_Wx_22 h357 h355.2.1 h355.2.2.1 h3 h355.1 h6 h9)
      have h361 : z1 = 0 ∧ z4 = 3 ∧ z7 = (63 : Int) := (h355.2.1 (vc_X12_piece_Wx_23 h355.2.1 h355.2.2.1 h357 h13.2.1 h13.2.2.1 h51.2.1 h51.2.2.1 h79.2.1 h79.2.2.1 h312 h316.2.1 h316.2.2.1 h351 h3 h13.1 h350 h360 h6 h51.1 h9 h311))
      have h362 : 0 ≤ z1 ∧ z1 ≤ 0 := (vc_X12_piece_Wx_24 h361 h79.2.2.1 h312 h316.2.1 h316.2.2.1 h351 h355.2.1 h355.2.2.1 h3 h350 h360 h6 h9 h311)
      have h363 : 63 ≤ z7 ∧ z7 ≤ 63 := (vc_X12_piece_Wx_25 h361 h79.2.2.1 h312 h316.2.1 h316.2.2.1 h351 h355.2.1 h355.2.2.1 h362 h350 h360 h6 h9 h311)
      have h364 : 3 ≤ z4 ∧ z4 ≤ 3 := (vc_X12_piece_Wx_26 h361 h79.2.2.1 h312 h316.2.1 h316.2.2.1 h351 h355.2.1 h355.2.2.1 h362 h350 h360 h6 h363 h311)
      refine sv_aload_n (pc := 76) dX12_piece_76 rfl rfl ?_
      obtain ⟨z365, q366⟩ : ∃ z, μ42 106 33 = z := ⟨_, rfl⟩
      have h367 : (0 ≤ z365 ∧ z365 ≤ 1000) := by rw [← q366]; exact T43 106 106 (A_106 hw) 33
      obtain ⟨z368, q369⟩ : ∃ z, μ42 106 1 = z := ⟨_, rfl⟩
      have h370 : (0 ≤ z368 ∧ z368 ≤ 1000) := by rw [← q369]; exact T43 106 106 (A_106 hw) 1
      refine mr_cVV (pc := 77) (c_X12_next_v hw T43 (F44.f (A_106 hw) rfl q2) q366 q369) (gOk _ _ _ _ _) dX12_piece_77 (tX12_next _ _ _ _ _) ⟨wV_X12_next, wL_X12_next⟩ wM_X12_247 (gCX12 _ _ _ _ _) rfl (A_106 hw) rfl ⟨le_t rfl, le_t rfl⟩ ⟨le_t rfl, le_t rfl⟩ rfl (le_t rfl) fun μ371 T372 F373 h374 => ?_
      obtain ⟨z375, z377, z379, z381, z383, q376, q378, q380, q382, q384, h385⟩ := h374
      have h386 : (0 ≤ z375 ∧ z375 ≤ 4) := by rw [← q376]; exact T372 106 106 (A_106 hw) 37
      have h387 : (0 ≤ z377 ∧ z377 ≤ 1000) := by rw [← q378]; exact T372 106 106 (A_106 hw) 33
      have h388 : (0 ≤ z379 ∧ z379 ≤ 1000) := by rw [← q380]; exact T372 106 106 (A_106 hw) 34
      have h389 : (0 ≤ z381 ∧ z381 ≤ 3) := by rw [← q382]; exact T372 106 106 (A_106 hw) 35
      have h390 : ((-2147483648) ≤ z383 ∧ z383 ≤ 2147483647) := by rw [← q384]; exact T372 106 106 (A_106 hw) 36
      exact J194 μ371 T372 (mF.call mF.refl F373 rfl) (((((((((((h355.2.2.2.1 h355.1).2 h357) z365 q366 h367) z368 q369 h370) μ371 F373 T372) z375 q376) z377 q378) z379 q380) z381 q382) z383 q384) h385.2.2.2.2.2.2.2.1)
    refine mr_if_ne (pc := 34) (tgt := 46) dX12_piece_34 (by decide) (r32 h51.1 rfl) (fun h391 => ?_) (fun h391 => ?_)
    · have h392 : 1 ≤ z52 ∧ z52 ≤ 1 := (vc_X12_piece_Wx_27 h391 h51.2.1 h51.2.2.1 h3 h6 h51.1 h9)
      have h393 : z1 = 0 ∧ z4 = 3 ∧ z7 = (42 : Int) := (h51.2.1 (vc_X12_piece_Wx_28 h51.2.1 h51.2.2.1 h391 h13.2.1 h13.2.2.1 h3 h13.1 h6 h392 h9))
      have h394 : 0 ≤ z1 ∧ z1 ≤ 0 := (vc_X12_piece_Wx_29 h393 h13.2.1 h13.2.2.1 h51.2.1 h51.2.2.1 h3 h13.1 h6 h392 h9)
      have h395 : 42 ≤ z7 ∧ z7 ≤ 42 := (vc_X12_piece_Wx_30 h393 h13.2.1 h13.2.2.1 h51.2.1 h51.2.2.1 h394 h13.1 h6 h392 h9)
      have h396 : 3 ≤ z4 ∧ z4 ≤ 3 := (vc_X12_piece_Wx_31 h393 h13.2.1 h13.2.2.1 h51.2.1 h51.2.2.1 h394 h13.1 h6 h392 h395)
      refine mr_iconst (pc := 46) (z := 1) dX12_piece_46 ?_
      refine mr_istore (pc := 47) (lv' := [(6, iv 1), (0, .ref 106), (1, jv p1), (3, jv p2)]) dX12_piece_47 (by decide) rfl ?_
      refine mr_lvS (lv' := [(0, .ref 106), (1, jv p1), (3, jv p2), (6, iv 1)]) (List.forall_mem_cons.mpr ⟨rfl, List.forall_mem_cons.mpr ⟨rfl, List.forall_mem_cons.mpr ⟨rfl, List.forall_mem_cons.mpr ⟨rfl, fun _ h => absurd h List.not_mem_nil⟩⟩⟩⟩) ?_
      exact J74 1 (rW (c := 0) (d := 1) (rR (x := 1)) rfl) ((h51.2.2.2.1 h51.1).1 h391)
    have h397 : 0 ≤ z52 ∧ z52 ≤ 0 := (vc_X12_piece_Wx_32 h391 h51.2.1 h51.2.2.1 h3 h6 h51.1 h9)
    have h398 : ¬ z1 = 0 ∨ ¬ z4 = 3 ∨ ¬ z7 = (42 : Int) := (h51.2.2.1 (vc_X12_piece_Wx_33 h51.2.1 h51.2.2.1 h391 h13.2.1 h13.2.2.1 h3 h13.1 h6 h397 h9))
    refine sv_aload_n (pc := 37) dX12_piece_37 rfl rfl ?_
    refine mr_bipush (pc := 38) (z := 63) dX12_piece_38 (by decide) ?_
    refine mr_cVP (pc := 40) (c_X12_isSign_W hw T43 (rW (c := (-2147483648)) (d := 2147483647) (rR (x := 63)) rfl) (F44.f (A_106 hw) rfl q2) (F44.f (A_106 hw) rfl q5) (F44.f (A_106 hw) rfl q8) ((h51.2.2.2.1 h51.1).2 h391)) (gOk _ _ _ _ _) dX12_piece_40 (tX12_isSign _ _ _ _ _) ⟨wV_X12_isSign, wL_X12_isSign⟩ wM_X12_244 (gCX12 _ _ _ _ _) rfl (A_106 hw) rfl ⟨le_t rfl, le_t rfl⟩ ⟨le_t rfl, le_t rfl⟩ rfl (le_t rfl) fun z403 h402 => ?_
    refine mr_if_eq (pc := 43) (tgt := 49) dX12_piece_43 (by decide) (r32 h402.1 rfl) (fun h404 => ?_) (fun h404 => ?_)
    · have h405 : 0 ≤ z403 ∧ z403 ≤ 0 := (vc_X12_piece_Wx_34 h404 h402.2.1 h402.2.2.1 h3 h6 h402.1 h9)
      have h406 : ¬ z1 = 0 ∨ ¬ z4 = 3 ∨ ¬ z7 = (63 : Int) := (h402.2.2.1 (vc_X12_piece_Wx_35 h402.2.1 h402.2.2.1 h404 h13.2.1 h13.2.2.1 h51.2.1 h51.2.2.1 h398 h3 h13.1 h6 h405 h397 h9))
      exact J74 p3 hp3 ((h402.2.2.2.1 h402.1).1 h404)
    have h407 : 1 ≤ z403 ∧ z403 ≤ 1 := (vc_X12_piece_Wx_36 h404 h402.2.1 h402.2.2.1 h3 h6 h402.1 h9)
    have h408 : z1 = 0 ∧ z4 = 3 ∧ z7 = (63 : Int) := (h402.2.1 (vc_X12_piece_Wx_37 h402.2.1 h402.2.2.1 h404 h13.2.1 h13.2.2.1 h51.2.1 h51.2.2.1 h398 h3 h13.1 h6 h407 h397 h9))
    have h409 : 0 ≤ z1 ∧ z1 ≤ 0 := (vc_X12_piece_Wx_38 h408 h13.2.1 h13.2.2.1 h51.2.1 h51.2.2.1 h398 h402.2.1 h402.2.2.1 h3 h13.1 h6 h407 h397 h9)
    have h410 : 63 ≤ z7 ∧ z7 ≤ 63 := (vc_X12_piece_Wx_39 h408 h13.2.1 h13.2.2.1 h51.2.1 h51.2.2.1 h398 h402.2.1 h402.2.2.1 h409 h13.1 h6 h407 h397 h9)
    have h411 : 3 ≤ z4 ∧ z4 ≤ 3 := (vc_X12_piece_Wx_40 h408 h13.2.1 h13.2.2.1 h51.2.1 h51.2.2.1 h398 h402.2.1 h402.2.2.1 h409 h13.1 h6 h407 h397 h410)
    refine mr_iconst (pc := 46) (z := 1) dX12_piece_46 ?_
    refine mr_istore (pc := 47) (lv' := [(6, iv 1), (0, .ref 106), (1, jv p1), (3, jv p2)]) dX12_piece_47 (by decide) rfl ?_
    refine mr_lvS (lv' := [(0, .ref 106), (1, jv p1), (3, jv p2), (6, iv 1)]) (List.forall_mem_cons.mpr ⟨rfl, List.forall_mem_cons.mpr ⟨rfl, List.forall_mem_cons.mpr ⟨rfl, List.forall_mem_cons.mpr ⟨rfl, fun _ h => absurd h List.not_mem_nil⟩⟩⟩⟩) ?_
    exact J74 1 (rW (c := 0) (d := 1) (rR (x := 1)) rfl) ((h402.2.2.2.1 h402.1).2 h404)
  refine mr_if_ne (pc := 10) (tgt := 22) dX12_piece_10 (by decide) (r32 h13.1 rfl) (fun h412 => ?_) (fun h412 => ?_)
  · have h413 : 1 ≤ z14 ∧ z14 ≤ 1 := (vc_X12_piece_Wx_41 h412 h13.2.1 h13.2.2.1 h3 h13.1 h6 h9)
    have h414 : z1 = 0 ∧ z4 = 3 ∧ z7 = (42 : Int) := (h13.2.1 (vc_X12_piece_Wx_42 h13.2.1 h13.2.2.1 h412 h3 h413 h6 h9))
    have h415 : 0 ≤ z1 ∧ z1 ≤ 0 := (vc_X12_piece_Wx_43 h414 h13.2.1 h13.2.2.1 h3 h413 h6 h9)
    have h416 : 42 ≤ z7 ∧ z7 ≤ 42 := (vc_X12_piece_Wx_44 h414 h13.2.1 h13.2.2.1 h415 h413 h6 h9)
    have h417 : 3 ≤ z4 ∧ z4 ≤ 3 := (vc_X12_piece_Wx_45 h414 h13.2.1 h13.2.2.1 h415 h413 h6 h416)
    refine sv_aload_n (pc := 22) dX12_piece_22 rfl rfl ?_
    refine mr_lload_n (pc := 23) (z := p2) dX12_piece_23 rfl rfl ?_
    refine mr_lload_n (pc := 24) (z := p1) dX12_piece_24 rfl rfl ?_
    refine mr_cVV (pc := 25) (c_X12_follows_W hw hT hp2 hp1 ((h13.2.2.2.1 h13.1).1 h412)) (gOk _ _ _ _ _) dX12_piece_25 (tX12_follows _ _ _ _ _) ⟨wV_X12_follows, wL_X12_follows⟩ wM_X12_281 (gCX12 _ _ _ _ _) rfl (A_106 hw) rfl ⟨le_t rfl, le_t rfl⟩ ⟨le_t rfl, le_t rfl⟩ rfl (le_t rfl) fun μ418 T419 F420 h421 => ?_
    refine mr_lvS (lv' := [(0, .ref 106), (1, jv p1), (3, jv p2), (6, iv p3)]) (List.forall_mem_cons.mpr ⟨rfl, List.forall_mem_cons.mpr ⟨rfl, List.forall_mem_cons.mpr ⟨rfl, List.forall_mem_cons.mpr ⟨rfl, fun _ h => absurd h List.not_mem_nil⟩⟩⟩⟩) ?_
    exact J46 μ418 T419 (mF.call mF.refl F420 rfl) (h421.1 T419 F420)
  have h422 : 0 ≤ z14 ∧ z14 ≤ 0 := (vc_X12_piece_Wx_46 h412 h13.2.1 h13.2.2.1 h3 h13.1 h6 h9)
  have h423 : ¬ z1 = 0 ∨ ¬ z4 = 3 ∨ ¬ z7 = (42 : Int) := (h13.2.2.1 (vc_X12_piece_Wx_47 h13.2.1 h13.2.2.1 h412 h3 h422 h6 h9))
  refine sv_aload_n (pc := 13) dX12_piece_13 rfl rfl ?_
  refine mr_bipush (pc := 14) (z := 43) dX12_piece_14 (by decide) ?_
  refine mr_cVP (pc := 16) (c_X12_isSign_W hw hT (rW (c := (-2147483648)) (d := 2147483647) (rR (x := 43)) rfl) q2 q5 q8 ((h13.2.2.2.1 h13.1).2 h412)) (gOk _ _ _ _ _) dX12_piece_16 (tX12_isSign _ _ _ _ _) ⟨wV_X12_isSign, wL_X12_isSign⟩ wM_X12_244 (gCX12 _ _ _ _ _) rfl (A_106 hw) rfl ⟨le_t rfl, le_t rfl⟩ ⟨le_t rfl, le_t rfl⟩ rfl (le_t rfl) fun z428 h427 => ?_
  refine mr_if_eq (pc := 19) (tgt := 28) dX12_piece_19 (by decide) (r32 h427.1 rfl) (fun h429 => ?_) (fun h429 => ?_)
  · have h430 : 0 ≤ z428 ∧ z428 ≤ 0 := (vc_X12_piece_Wx_48 h429 h427.2.1 h427.2.2.1 h3 h6 h427.1 h9)
    have h431 : ¬ z1 = 0 ∨ ¬ z4 = 3 ∨ ¬ z7 = (43 : Int) := (h427.2.2.1 (vc_X12_piece_Wx_49 h427.2.1 h427.2.2.1 h429 h13.2.1 h13.2.2.1 h423 h3 h422 h6 h430 h9))
    refine mr_lvS (lv' := [(0, .ref 106), (1, jv p1), (3, jv p2), (6, iv p3)]) (List.forall_mem_cons.mpr ⟨rfl, List.forall_mem_cons.mpr ⟨rfl, List.forall_mem_cons.mpr ⟨rfl, List.forall_mem_cons.mpr ⟨rfl, fun _ h => absurd h List.not_mem_nil⟩⟩⟩⟩) ?_
    exact J46 μ hT mF.refl ((h427.2.2.2.1 h427.1).1 h429)
  have h432 : 1 ≤ z428 ∧ z428 ≤ 1 := (vc_X12_piece_Wx_50 h429 h427.2.1 h427.2.2.1 h3 h6 h427.1 h9)
  have h433 : z1 = 0 ∧ z4 = 3 ∧ z7 = (43 : Int) := (h427.2.1 (vc_X12_piece_Wx_51 h427.2.1 h427.2.2.1 h429 h13.2.1 h13.2.2.1 h423 h3 h422 h6 h432 h9))
  have h434 : 0 ≤ z1 ∧ z1 ≤ 0 := (vc_X12_piece_Wx_52 h433 h13.2.1 h13.2.2.1 h423 h427.2.1 h427.2.2.1 h3 h422 h6 h432 h9)
  have h435 : 43 ≤ z7 ∧ z7 ≤ 43 := (vc_X12_piece_Wx_53 h433 h13.2.1 h13.2.2.1 h423 h427.2.1 h427.2.2.1 h434 h422 h6 h432 h9)
  have h436 : 3 ≤ z4 ∧ z4 ≤ 3 := (vc_X12_piece_Wx_54 h433 h13.2.1 h13.2.2.1 h423 h427.2.1 h427.2.2.1 h434 h422 h6 h432 h435)
  refine sv_aload_n (pc := 22) dX12_piece_22 rfl rfl ?_
  refine mr_lload_n (pc := 23) (z := p2) dX12_piece_23 rfl rfl ?_
  refine mr_lload_n (pc := 24) (z := p1) dX12_piece_24 rfl rfl ?_
  refine mr_cVV (pc := 25) (c_X12_follows_W hw hT hp2 hp1 ((h427.2.2.2.1 h427.1).2 h429)) (gOk _ _ _ _ _) dX12_piece_25 (tX12_follows _ _ _ _ _) ⟨wV_X12_follows, wL_X12_follows⟩ wM_X12_281 (gCX12 _ _ _ _ _) rfl (A_106 hw) rfl ⟨le_t rfl, le_t rfl⟩ ⟨le_t rfl, le_t rfl⟩ rfl (le_t rfl) fun μ437 T438 F439 h440 => ?_
  refine mr_lvS (lv' := [(0, .ref 106), (1, jv p1), (3, jv p2), (6, iv p3)]) (List.forall_mem_cons.mpr ⟨rfl, List.forall_mem_cons.mpr ⟨rfl, List.forall_mem_cons.mpr ⟨rfl, List.forall_mem_cons.mpr ⟨rfl, fun _ h => absurd h List.not_mem_nil⟩⟩⟩⟩) ?_
  exact J46 μ437 T438 (mF.call mF.refl F439 rfl) (h440.1 T438 F439)
def WP_X12_freshRow_W (w : mW) (μ : mM) (Q : mM → Prop) : Prop := ∀ z1 : Int, μ 106 59 = z1 → (0 ≤ z1 ∧ z1 ≤ 6) → ∀ μ4 : mM, mU μ 148 (z1.toNat) (0 : Int) μ4 → mT w μ4 → ∀ μ7 : mM, mU μ4 149 (z1.toNat) (0 : Int) μ7 → mT w μ7 → ∀ μ10 : mM, mU μ7 150 (z1.toNat) (1 : Int) μ10 → mT w μ10 → Q μ10
set_option maxRecDepth 4000 in
set_option maxHeartbeats 4000000 in
theorem c_X12_freshRow_W {l : Launch} {D : va_G} {c : Nat → ClassId} {H0 : Heap} {sa : Nat × Nat × (Nat → Int32)} {w : mW} {μ : mM} (hw : mWF w) (hT : mT w μ) {Q : mM → Prop} (hQ : WP_X12_freshRow_W w μ  Q) : sC (gG l D c H0 sa) mX12_freshRow 1 0 0 [.ref 106] (mk w μ) (qV w [148999, 149999, 150999] μ (fun μ1 => Q μ1 ∧ True)) := by
  refine sC.of rfl (by decide) (le_t rfl) ?_
  refine mr_lvE (lv' := [(0, .ref 106)]) rfl ?_
  refine sv_aload_n (pc := 0) dX12_freshRow_0 rfl rfl ?_
  refine gf_X12_63 (pc := 1) dX12_freshRow_1 wF_X12_266 (A_106 hw) hT ?_
  refine sv_aload_n (pc := 4) dX12_freshRow_4 rfl rfl ?_
  refine gf_X12_59 (pc := 5) dX12_freshRow_5 wF_X12_254 (A_106 hw) hT fun z1 q2 h3 => ?_
  refine mr_lconst (pc := 8) (z := 0) dX12_freshRow_8 (by decide) ?_
  refine ss_148 (pc := 9) dX12_freshRow_9 (A_148 hw) hT (rIx (n := 10) h3 rfl) (rW (c := -9223372036854775808) (d := 9223372036854775807) (rR (x := 0)) rfl) fun μ4 u5 T6 => ?_
  refine sv_aload_n (pc := 10) dX12_freshRow_10 rfl rfl ?_
  refine gf_X12_64 (pc := 11) dX12_freshRow_11 wF_X12_269 (A_106 hw) T6 ?_
  refine sv_aload_n (pc := 14) dX12_freshRow_14 rfl rfl ?_
  refine gk_X12_59 (pc := 15) dX12_freshRow_15 wF_X12_254 (A_106 hw) (u5.f (Or.inl (mAt.ne (A_148 hw) (A_106 hw) rfl)) q2) ?_
  refine mr_lconst (pc := 18) (z := 0) dX12_freshRow_18 (by decide) ?_
  refine ss_149 (pc := 19) dX12_freshRow_19 (A_149 hw) T6 (rIx (n := 10) h3 rfl) (rW (c := -9223372036854775808) (d := 9223372036854775807) (rR (x := 0)) rfl) fun μ7 u8 T9 => ?_
  refine sv_aload_n (pc := 20) dX12_freshRow_20 rfl rfl ?_
  refine gf_X12_65 (pc := 21) dX12_freshRow_21 wF_X12_272 (A_106 hw) T9 ?_
  refine sv_aload_n (pc := 24) dX12_freshRow_24 rfl rfl ?_
  refine gk_X12_59 (pc := 25) dX12_freshRow_25 wF_X12_254 (A_106 hw) (u8.f (Or.inl (mAt.ne (A_149 hw) (A_106 hw) rfl)) (u5.f (Or.inl (mAt.ne (A_148 hw) (A_106 hw) rfl)) q2)) ?_
  refine mr_iconst (pc := 28) (z := 1) dX12_freshRow_28 ?_
  refine ss_150 (pc := 29) dX12_freshRow_29 (A_150 hw) T9 (rIx (n := 10) h3 rfl) (rW (c := 0) (d := 1) (rR (x := 1)) rfl) fun μ10 u11 T12 => ?_
  exact mr_vret dX12_freshRow_30 rfl (le_t rfl) (le_t rfl) T12 (mF.up (mF.up (mF.up mF.refl (A_148 hw) u5 rfl) (A_149 hw) u8 rfl) (A_150 hw) u11 rfl) ⟨((((hQ z1 q2 h3) μ4 u5 T6) μ7 u8 T9) μ10 u11 T12), trivial⟩
def WP_X12_openLevel_Wx (w : mW) (μ : mM) (Q : mM → Prop) : Prop := ∀ f_levels : Int, μ 106 59 = f_levels → (0 ≤ f_levels ∧ f_levels ≤ 6) → (f_levels ≤ (5 : Int)) ∧ ∀ _ : True, ∀ μ54 : mM, mU μ 145 (f_levels.toNat) (0 : Int) μ54 → mT w μ54 → ∀ μ57 : mM, mU μ54 146 (f_levels.toNat) (0 : Int) μ57 → mT w μ57 → ∀ μ60 : mM, mU μ57 147 (f_levels.toNat) (0 : Int) μ60 → mT w μ60 → WP_X12_freshRow_W w μ60  (fun μ63 => mT w μ63 → mF [148999, 149999, 150999] w μ60 μ63 → ∀ μ67 : mM, mU μ63 106 (59) (f_levels + 1) μ67 → mT w μ67 → Q μ67)
set_option maxRecDepth 4000 in
set_option maxHeartbeats 4000000 in
theorem c_X12_openLevel_Wx {l : Launch} {D : va_G} {c : Nat → ClassId} {H0 : Heap} {sa : Nat × Nat × (Nat → Int32)} {w : mW} {μ : mM} (hw : mWF w) (hT : mT w μ) {f_levels : Int} (q_f_levels : μ 106 59 = f_levels) {Q : mM → Prop} (hQ : WP_X12_openLevel_Wx w μ  Q) : sC (gG l D c H0 sa) mX12_openLevel 2 0 0 [.ref 106] (mk w μ) (qV w [106059, 145999, 146999, 147999, 148999, 149999, 150999] μ (fun μ1 => Q μ1 ∧ True)) := by
  refine sC.of rfl (by decide) (le_t rfl) ?_
  have ht_f_levels : (0 ≤ f_levels ∧ f_levels ≤ 6) := by rw [← q_f_levels]; exact hT 106 106 (A_106 hw) 59
  refine mr_lvE (lv' := [(0, .ref 106)]) rfl ?_
  have h52 : f_levels ≤ (5 : Int) := (hQ f_levels q_f_levels ht_f_levels).1
  have h53 : 0 ≤ f_levels ∧ f_levels ≤ 5 := (vc_X12_rule_W_30 h52 ht_f_levels)
  refine sv_aload_n (pc := 0) dX12_openLevel_0 rfl rfl ?_
  refine gf_X12_60 (pc := 1) dX12_openLevel_1 wF_X12_250 (A_106 hw) hT ?_
  refine sv_aload_n (pc := 4) dX12_openLevel_4 rfl rfl ?_
  refine gk_X12_59 (pc := 5) dX12_openLevel_5 wF_X12_254 (A_106 hw) q_f_levels ?_
  refine mr_lconst (pc := 8) (z := 0) dX12_openLevel_8 (by decide) ?_
  refine ss_145 (pc := 9) dX12_openLevel_9 (A_145 hw) hT (rIx (n := 10) h53 rfl) (rW (c := -9223372036854775808) (d := 9223372036854775807) (rR (x := 0)) rfl) fun μ54 u55 T56 => ?_
  refine sv_aload_n (pc := 10) dX12_openLevel_10 rfl rfl ?_
  refine gf_X12_61 (pc := 11) dX12_openLevel_11 wF_X12_257 (A_106 hw) T56 ?_
  refine sv_aload_n (pc := 14) dX12_openLevel_14 rfl rfl ?_
  refine gk_X12_59 (pc := 15) dX12_openLevel_15 wF_X12_254 (A_106 hw) (u55.f (Or.inl (mAt.ne (A_145 hw) (A_106 hw) rfl)) q_f_levels) ?_
  refine mr_lconst (pc := 18) (z := 0) dX12_openLevel_18 (by decide) ?_
  refine ss_146 (pc := 19) dX12_openLevel_19 (A_146 hw) T56 (rIx (n := 10) h53 rfl) (rW (c := -9223372036854775808) (d := 9223372036854775807) (rR (x := 0)) rfl) fun μ57 u58 T59 => ?_
  refine sv_aload_n (pc := 20) dX12_openLevel_20 rfl rfl ?_
  refine gf_X12_62 (pc := 21) dX12_openLevel_21 wF_X12_260 (A_106 hw) T59 ?_
  refine sv_aload_n (pc := 24) dX12_openLevel_24 rfl rfl ?_
  refine gk_X12_59 (pc := 25) dX12_openLevel_25 wF_X12_254 (A_106 hw) (u58.f (Or.inl (mAt.ne (A_146 hw) (A_106 hw) rfl)) (u55.f (Or.inl (mAt.ne (A_145 hw) (A_106 hw) rfl)) q_f_levels)) ?_
  refine mr_iconst (pc := 28) (z := 0) dX12_openLevel_28 ?_
  refine ss_147 (pc := 29) dX12_openLevel_29 (A_147 hw) T59 (rIx (n := 10) h53 rfl) (rW (c := 0) (d := 1) (rR (x := 0)) rfl) fun μ60 u61 T62 => ?_
  refine sv_aload_n (pc := 30) dX12_openLevel_30 rfl rfl ?_
  refine mr_cVV (pc := 31) (c_X12_freshRow_W hw T62 (((((hQ f_levels q_f_levels ht_f_levels).2 trivial) μ54 u55 T56) μ57 u58 T59) μ60 u61 T62)) (gOk _ _ _ _ _) dX12_openLevel_31 (tX12_freshRow _ _ _ _ _) ⟨wV_X12_freshRow, wL_X12_freshRow⟩ wM_X12_263 (gCX12 _ _ _ _ _) rfl (A_106 hw) rfl ⟨le_t rfl, le_t rfl⟩ ⟨le_t rfl, le_t rfl⟩ rfl (le_t rfl) fun μ63 T64 F65 h66 => ?_
  refine sv_aload_n (pc := 34) dX12_openLevel_34 rfl rfl ?_
  refine sv_dup (pc := 35) dX12_openLevel_35 rfl ?_
  refine gk_X12_59 (pc := 36) dX12_openLevel_36 wF_X12_254 (A_106 hw) (F65.f (A_106 hw) rfl (u61.f (Or.inl (mAt.ne (A_147 hw) (A_106 hw) rfl)) (u58.f (Or.inl (mAt.ne (A_146 hw) (A_106 hw) rfl)) (u55.f (Or.inl (mAt.ne (A_145 hw) (A_106 hw) rfl)) q_f_levels)))) ?_
  refine mr_iconst (pc := 39) (z := 1) dX12_openLevel_39 ?_
  refine mr_iadd (pc := 40) (x := f_levels) (y := 1) dX12_openLevel_40 ?_
  refine pf_X12_59 (pc := 41) dX12_openLevel_41 wF_X12_254 (A_106 hw) T64 (rW (c := 0) (d := 6) (rAdd (e := 1) (f := 6) h53 (rR (x := 1)) rfl) rfl) fun μ67 u68 T69 => ?_
  exact mr_vret dX12_openLevel_44 rfl (le_t rfl) (le_t rfl) T69 (mF.up (mF.call (mF.up (mF.up (mF.up mF.refl (A_145 hw) u55 rfl) (A_146 hw) u58 rfl) (A_147 hw) u61 rfl) F65 rfl) (A_106 hw) u68 rfl) ⟨((h66.1 T64 F65) μ67 u68 T69), trivial⟩
def WP_X12_endRow_Wx (w : mW) (μ : mM) (Q : mM → Prop) : Prop := ∀ f_levels : Int, μ 106 59 = f_levels → (0 ≤ f_levels ∧ f_levels ≤ 6) → ((1 : Int) ≤ f_levels) ∧ ∀ _ : True, ∀ z135 : Int, μ 145 ((f_levels - 1).toNat) = z135 → ((-9223372036854775808) ≤ z135 ∧ z135 ≤ 9223372036854775807) → ∀ z138 : Int, μ 148 ((f_levels - 1).toNat) = z138 → ((-9223372036854775808) ≤ z138 ∧ z138 ≤ 9223372036854775807) → ∀ z141 : Int, lOr z135 z138 = z141 → ∀ μ144 : mM, mU μ 145 ((f_levels - 1).toNat) z141 μ144 → mT w μ144 → ∀ z147 : Int, μ144 146 ((f_levels - 1).toNat) = z147 → ((-9223372036854775808) ≤ z147 ∧ z147 ≤ 9223372036854775807) → ∀ z150 : Int, μ144 149 ((f_levels - 1).toNat) = z150 → ((-9223372036854775808) ≤ z150 ∧ z150 ≤ 9223372036854775807) → ∀ z153 : Int, lOr z147 z150 = z153 → ∀ μ156 : mM, mU μ144 146 ((f_levels - 1).toNat) z153 μ156 → mT w μ156 → ∀ z159 : Int, μ156 147 ((f_levels - 1).toNat) = z159 → (0 ≤ z159 ∧ z159 ≤ 1) → ((¬ z159 = 0) → ∀ μ172 : mM, mU μ156 147 ((f_levels - 1).toNat) (1 : Int) μ172 → mT w μ172 → Q μ172) ∧ ((z159 = 0) → ∀ z176 : Int, μ156 150 ((f_levels - 1).toNat) = z176 → (0 ≤ z176 ∧ z176 ≤ 1) → ((z176 = 0) → ∀ μ183 : mM, mU μ156 147 ((f_levels - 1).toNat) (0 : Int) μ183 → mT w μ183 → Q μ183) ∧ ((¬ z176 = 0) → ∀ μ187 : mM, mU μ156 147 ((f_levels - 1).toNat) (1 : Int) μ187 → mT w μ187 → Q μ187))
set_option maxRecDepth 4000 in
set_option maxHeartbeats 4000000 in
theorem c_X12_endRow_Wx {l : Launch} {D : va_G} {c : Nat → ClassId} {H0 : Heap} {sa : Nat × Nat × (Nat → Int32)} {w : mW} {μ : mM} (hw : mWF w) (hT : mT w μ) {f_levels : Int} (q_f_levels : μ 106 59 = f_levels) {Q : mM → Prop} (hQ : WP_X12_endRow_Wx w μ  Q) : sC (gG l D c H0 sa) mX12_endRow 1 0 0 [.ref 106] (mk w μ) (qV w [145999, 146999, 147999] μ (fun μ1 => Q μ1 ∧ True)) := by
  refine sC.of rfl (by decide) (le_t rfl) ?_
  have ht_f_levels : (0 ≤ f_levels ∧ f_levels ≤ 6) := by rw [← q_f_levels]; exact hT 106 106 (A_106 hw) 59
  refine mr_lvE (lv' := [(0, .ref 106)]) rfl ?_
  have h133 : (1 : Int) ≤ f_levels := (hQ f_levels q_f_levels ht_f_levels).1
  have h134 : 1 ≤ f_levels ∧ f_levels ≤ 6 := (vc_X12_piece_Wx_1 h133 ht_f_levels)
  refine sv_aload_n (pc := 0) dX12_endRow_0 rfl rfl ?_
  refine gk_X12_59 (pc := 1) dX12_endRow_1 wF_X12_254 (A_106 hw) q_f_levels ?_
  refine mr_iconst (pc := 4) (z := 1) dX12_endRow_4 ?_
  refine mr_isub (pc := 5) (x := f_levels) (y := 1) dX12_endRow_5 ?_
  refine mr_istore_n (pc := 6) (lv' := [(1, iv (f_levels - 1)), (0, .ref 106)]) dX12_endRow_6 rfl (by decide) rfl ?_
  refine sv_aload_n (pc := 7) dX12_endRow_7 rfl rfl ?_
  refine gf_X12_60 (pc := 8) dX12_endRow_8 wF_X12_250 (A_106 hw) hT ?_
  refine mr_iload_n (pc := 11) (z := (f_levels - 1)) dX12_endRow_11 rfl rfl ?_
  refine sv_dup2 (pc := 12) dX12_endRow_12 rfl rfl ?_
  refine la_145 (pc := 13) dX12_endRow_13 (A_145 hw) hT (rIx (n := 10) (rSub (e := 0) (f := 5) h134 (rR (x := 1)) rfl) rfl) fun z135 q136 h137 => ?_
  refine sv_aload_n (pc := 14) dX12_endRow_14 rfl rfl ?_
  refine gf_X12_63 (pc := 15) dX12_endRow_15 wF_X12_266 (A_106 hw) hT ?_
  refine mr_iload_n (pc := 18) (z := (f_levels - 1)) dX12_endRow_18 rfl rfl ?_
  refine la_148 (pc := 19) dX12_endRow_19 (A_148 hw) hT (rIx (n := 10) (rSub (e := 0) (f := 5) h134 (rR (x := 1)) rfl) rfl) fun z138 q139 h140 => ?_
  refine mr_lor (pc := 20) dX12_endRow_20 ?_
  refine mr_genL (r64i _) fun z141 q142 h143 => ?_
  refine ss_145 (pc := 21) dX12_endRow_21 (A_145 hw) hT (rIx (n := 10) (rSub (e := 0) (f := 5) h134 (rR (x := 1)) rfl) rfl) h143 fun μ144 u145 T146 => ?_
  refine sv_aload_n (pc := 22) dX12_endRow_22 rfl rfl ?_
  refine gf_X12_61 (pc := 23) dX12_endRow_23 wF_X12_257 (A_106 hw) T146 ?_
  refine mr_iload_n (pc := 26) (z := (f_levels - 1)) dX12_endRow_26 rfl rfl ?_
  refine sv_dup2 (pc := 27) dX12_endRow_27 rfl rfl ?_
  refine la_146 (pc := 28) dX12_endRow_28 (A_146 hw) T146 (rIx (n := 10) (rSub (e := 0) (f := 5) h134 (rR (x := 1)) rfl) rfl) fun z147 q148 h149 => ?_
  refine sv_aload_n (pc := 29) dX12_endRow_29 rfl rfl ?_
  refine gf_X12_64 (pc := 30) dX12_endRow_30 wF_X12_269 (A_106 hw) T146 ?_
  refine mr_iload_n (pc := 33) (z := (f_levels - 1)) dX12_endRow_33 rfl rfl ?_
  refine la_149 (pc := 34) dX12_endRow_34 (A_149 hw) T146 (rIx (n := 10) (rSub (e := 0) (f := 5) h134 (rR (x := 1)) rfl) rfl) fun z150 q151 h152 => ?_
  refine mr_lor (pc := 35) dX12_endRow_35 ?_
  refine mr_genL (r64i _) fun z153 q154 h155 => ?_
  refine ss_146 (pc := 36) dX12_endRow_36 (A_146 hw) T146 (rIx (n := 10) (rSub (e := 0) (f := 5) h134 (rR (x := 1)) rfl) rfl) h155 fun μ156 u157 T158 => ?_
  refine sv_aload_n (pc := 37) dX12_endRow_37 rfl rfl ?_
  refine gf_X12_62 (pc := 38) dX12_endRow_38 wF_X12_260 (A_106 hw) T158 ?_
  refine mr_iload_n (pc := 41) (z := (f_levels - 1)) dX12_endRow_41 rfl rfl ?_
  refine sv_aload_n (pc := 42) dX12_endRow_42 rfl rfl ?_
  refine gf_X12_62 (pc := 43) dX12_endRow_43 wF_X12_260 (A_106 hw) T158 ?_
  refine mr_iload_n (pc := 46) (z := (f_levels - 1)) dX12_endRow_46 rfl rfl ?_
  refine la_147 (pc := 47) dX12_endRow_47 (A_147 hw) T158 (rIx (n := 10) (rSub (e := 0) (f := 5) h134 (rR (x := 1)) rfl) rfl) fun z159 q160 h161 => ?_
  have W162 := (((((((((((hQ f_levels q_f_levels ht_f_levels).2 trivial) z135 q136 h137) z138 q139 h140) z141 q142) μ144 u145 T146) z147 q148 h149) z150 q151 h152) z153 q154) μ156 u157 T158) z159 q160 h161)
  refine mr_if_ne (pc := 48) (tgt := 60) dX12_endRow_48 (by decide) (r32 h161 rfl) (fun h170 => ?_) (fun h170 => ?_)
  · have h171 : 1 ≤ z159 ∧ z159 ≤ 1 := (vc_X12_ring_24 h170 h161)
    refine mr_iconst (pc := 60) (z := 1) dX12_endRow_60 ?_
    refine sv_goto (pc := 61) (tgt := 65) dX12_endRow_61 (by decide) ?_
    refine ss_147 (pc := 65) dX12_endRow_65 (A_147 hw) T158 (rIx (n := 10) (rSub (e := 0) (f := 5) h134 (rR (x := 1)) rfl) rfl) (rW (c := 0) (d := 1) (rR (x := 1)) rfl) fun μ172 u173 T174 => ?_
    exact mr_vret dX12_endRow_66 rfl (le_t rfl) (le_t rfl) T174 (mF.up (mF.up (mF.up mF.refl (A_145 hw) u145 rfl) (A_146 hw) u157 rfl) (A_147 hw) u173 rfl) ⟨((W162.1 h170) μ172 u173 T174), trivial⟩
  have h175 : 0 ≤ z159 ∧ z159 ≤ 0 := (vc_X12_ring_22 h170 h161)
  refine sv_aload_n (pc := 51) dX12_endRow_51 rfl rfl ?_
  refine gf_X12_65 (pc := 52) dX12_endRow_52 wF_X12_272 (A_106 hw) T158 ?_
  refine mr_iload_n (pc := 55) (z := (f_levels - 1)) dX12_endRow_55 rfl rfl ?_
  refine la_150 (pc := 56) dX12_endRow_56 (A_150 hw) T158 (rIx (n := 10) (rSub (e := 0) (f := 5) h134 (rR (x := 1)) rfl) rfl) fun z176 q177 h178 => ?_
  refine mr_if_eq (pc := 57) (tgt := 64) dX12_endRow_57 (by decide) (r32 h178 rfl) (fun h181 => ?_) (fun h181 => ?_)
  · have h182 : 0 ≤ z176 ∧ z176 ≤ 0 := (vc_X12_ring_22 h181 h178)
    refine mr_iconst (pc := 64) (z := 0) dX12_endRow_64 ?_
    refine ss_147 (pc := 65) dX12_endRow_65 (A_147 hw) T158 (rIx (n := 10) (rSub (e := 0) (f := 5) h134 (rR (x := 1)) rfl) rfl) (rW (c := 0) (d := 1) (rR (x := 0)) rfl) fun μ183 u184 T185 => ?_
    exact mr_vret dX12_endRow_66 rfl (le_t rfl) (le_t rfl) T185 (mF.up (mF.up (mF.up mF.refl (A_145 hw) u145 rfl) (A_146 hw) u157 rfl) (A_147 hw) u184 rfl) ⟨((((W162.2 h170) z176 q177 h178).1 h181) μ183 u184 T185), trivial⟩
  have h186 : 1 ≤ z176 ∧ z176 ≤ 1 := (vc_X12_ring_24 h181 h178)
  refine mr_iconst (pc := 60) (z := 1) dX12_endRow_60 ?_
  refine sv_goto (pc := 61) (tgt := 65) dX12_endRow_61 (by decide) ?_
  refine ss_147 (pc := 65) dX12_endRow_65 (A_147 hw) T158 (rIx (n := 10) (rSub (e := 0) (f := 5) h134 (rR (x := 1)) rfl) rfl) (rW (c := 0) (d := 1) (rR (x := 1)) rfl) fun μ187 u188 T189 => ?_
  exact mr_vret dX12_endRow_66 rfl (le_t rfl) (le_t rfl) T189 (mF.up (mF.up (mF.up mF.refl (A_145 hw) u145 rfl) (A_146 hw) u157 rfl) (A_147 hw) u188 rfl) ⟨((((W162.2 h170) z176 q177 h178).2 h181) μ187 u188 T189), trivial⟩
def WJ_X12_wayTest_Wx_3 (w : mW) (Q : mM → Prop) (rec1 : (mM) → Prop) (z840 : Int) (μ858 : mM) (z864 : Int) (z867 : Int) (μ876 : mM) : Prop := mT w μ876 → mF [106037, 106038] w μ858 μ876 → ∀ z882 : Int, μ876 106 37 = z882 → (0 ≤ z882 ∧ z882 ≤ 4) → ((z882 = 0) → (z867 ≤ (39 : Int)) ∧ ∀ _ : True, ∀ μ889 : mM, mU μ876 143 (((41 * z864) + z867).toNat) z840 μ889 → mT w μ889 → ∀ μ892 : mM, mU μ889 144 (((41 * z864) + z867).toNat) (0 : Int) μ892 → mT w μ892 → ∀ μ895 : mM, mU μ892 142 (z864.toNat) (z867 + 1) μ895 → mT w μ895 → ∀ z898 : Int, μ895 106 33 = z898 → (0 ≤ z898 ∧ z898 ≤ 1000) → ∀ μ901 : mM, mF [106033, 106034, 106035, 106036, 106037, 106038] w μ895 μ901 → mT w μ901 → ∀ z905 : Int, μ901 106 37 = z905 → ∀ z907 : Int, μ901 106 33 = z907 → ∀ z909 : Int, μ901 106 34 = z909 → ∀ z911 : Int, μ901 106 35 = z911 → ∀ z913 : Int, μ901 106 36 = z913 → nxR μ895 μ901 → ∀ z921 : Int, lShl (1 : Int) z867 = z921 → ∀ z924 : Int, lShl (1 : Int) z867 = z924 → WP_X12_piece_Wx w μ901 z921 z924 (0) (fun μ927 => mT w μ927 → mF [106033, 106034, 106035, 106036, 106037, 106038, 144999, 148999, 149999, 150999] w μ901 μ927 → rec1 (μ927))) ∧ ((¬ z882 = 0) → Q μ876)
def WJ_X12_wayTest_Wx_2 (w : mW) (Q : mM → Prop) (rec1 : (mM) → Prop) (μ815 : mM) (z840 : Int) (μ858 : mM) : Prop := mT w μ858 → mF [106037, 106038] w μ815 μ858 → ∀ z864 : Int, μ858 106 58 = z864 → (0 ≤ z864 ∧ z864 ≤ 12) → ∀ z867 : Int, μ858 142 (z864.toNat) = z867 → (0 ≤ z867 ∧ z867 ≤ 40) → ((¬ z867 = 40) → (WJ_X12_wayTest_Wx_3 w Q rec1 z840 μ858 z864 z867) μ858) ∧ ((z867 = 40) → WP_X12_wrong_Wx w μ858 (4) (fun μ936 => mT w μ936 → mF [106037, 106038] w μ858 μ936 → (WJ_X12_wayTest_Wx_3 w Q rec1 z840 μ858 z864 z867) μ936))
def WJ_X12_wayTest_Wx_4 (w : mW) (Q : mM → Prop) (rec1 : (mM) → Prop) (μ815 : mM) (z1181 : Int) (z1184 : Int) (μ1193 : mM) : Prop := mT w μ1193 → mF [106037, 106038] w μ815 μ1193 → ∀ z1199 : Int, μ1193 106 37 = z1199 → (0 ≤ z1199 ∧ z1199 ≤ 4) → ((z1199 = 0) → (z1184 ≤ (39 : Int)) ∧ ∀ _ : True, ∀ μ1206 : mM, mU μ1193 143 (((41 * z1181) + z1184).toNat) ((-1) : Int) μ1206 → mT w μ1206 → ∀ μ1209 : mM, mU μ1206 144 (((41 * z1181) + z1184).toNat) (0 : Int) μ1209 → mT w μ1209 → ∀ μ1212 : mM, mU μ1209 142 (z1181.toNat) (z1184 + 1) μ1212 → mT w μ1212 → ∀ z1215 : Int, μ1212 106 33 = z1215 → (0 ≤ z1215 ∧ z1215 ≤ 1000) → ∀ μ1218 : mM, mF [106033, 106034, 106035, 106036, 106037, 106038] w μ1212 μ1218 → mT w μ1218 → ∀ z1222 : Int, μ1218 106 37 = z1222 → ∀ z1224 : Int, μ1218 106 33 = z1224 → ∀ z1226 : Int, μ1218 106 34 = z1226 → ∀ z1228 : Int, μ1218 106 35 = z1228 → ∀ z1230 : Int, μ1218 106 36 = z1230 → nxR μ1212 μ1218 → ∀ z1238 : Int, lShl (1 : Int) z1184 = z1238 → ∀ z1241 : Int, lShl (1 : Int) z1184 = z1241 → WP_X12_piece_Wx w μ1218 z1238 z1241 (0) (fun μ1244 => mT w μ1244 → mF [106033, 106034, 106035, 106036, 106037, 106038, 144999, 148999, 149999, 150999] w μ1218 μ1244 → rec1 (μ1244))) ∧ ((¬ z1199 = 0) → Q μ1193)
def WL_X12_wayTest_Wx_1 (w : mW) (p1 : Int) (Q : mM → Prop) (μ50 : mM) (rec1 : (mM) → Prop) (s : (mM)) : Prop := ∀ μ815 : mM, s = (μ815) → mT w μ815 → mF [106033, 106034, 106035, 106036, 106037, 106038, 106059, 137999, 138999, 139999, 142999, 143999, 144999, 145999, 146999, 147999, 148999, 149999, 150999] w μ50 μ815 → ∀ z823 : Int, μ815 106 37 = z823 → (0 ≤ z823 ∧ z823 ≤ 4) → ((¬ z823 = 0) → Q μ815) ∧ ((z823 = 0) → ∀ z829 : Int, μ815 106 59 = z829 → (0 ≤ z829 ∧ z829 ≤ 6) → ((z829 ≤ 0) → Q μ815) ∧ ((0 < z829) → ∀ z835 : Int, μ815 106 35 = z835 → (0 ≤ z835 ∧ z835 ≤ 3) → ((z835 = 2) → ∀ z840 : Int, μ815 106 36 = z840 → ((-2147483648) ≤ z840 ∧ z840 ≤ 2147483647) → WP_X12_in_W w μ815 z840 (0) (1000000) (fun z847 _ => (0 ≤ z847 ∧ z847 ≤ 1) → ((¬ z847 = 0) → (WJ_X12_wayTest_Wx_2 w Q rec1 μ815 z840) μ815) ∧ ((z847 = 0) → WP_X12_wrong_Wx w μ815 (3) (fun μ946 => mT w μ946 → mF [106037, 106038] w μ815 μ946 → (WJ_X12_wayTest_Wx_2 w Q rec1 μ815 z840) μ946)))) ∧ ((¬ z835 = 2) → ∀ z950 : Int, μ815 106 36 = z950 → ((-2147483648) ≤ z950 ∧ z950 ≤ 2147483647) → WP_X12_isWord_W w μ815 (7) (fun z957 _ => (0 ≤ z957 ∧ z957 ≤ 1) → ((z957 = 0) → WP_X12_isSign_W w μ815 (40) (fun z966 _ => (0 ≤ z966 ∧ z966 ≤ 1) → ((z966 = 0) → WP_X12_isSign_W w μ815 (124) (fun z974 _ => (0 ≤ z974 ∧ z974 ≤ 1) → ((z974 = 0) → WP_X12_isSign_W w μ815 (41) (fun z982 _ => (0 ≤ z982 ∧ z982 ≤ 1) → ((z982 = 0) → WP_X12_wrong_Wx w μ815 (2) (fun μ986 => mT w μ986 → mF [106037, 106038] w μ815 μ986 → rec1 (μ986))) ∧ ((¬ z982 = 0) → WP_X12_endRow_Wx w μ815  (fun μ994 => mT w μ994 → mF [145999, 146999, 147999] w μ815 μ994 → ∀ μ998 : mM, mU μ994 106 (59) (z829 - 1) μ998 → mT w μ998 → ∀ z1001 : Int, μ998 106 33 = z1001 → (0 ≤ z1001 ∧ z1001 ≤ 1000) → ∀ μ1004 : mM, mF [106033, 106034, 106035, 106036, 106037, 106038] w μ998 μ1004 → mT w μ1004 → ∀ z1008 : Int, μ1004 106 37 = z1008 → ∀ z1010 : Int, μ1004 106 33 = z1010 → ∀ z1012 : Int, μ1004 106 34 = z1012 → ∀ z1014 : Int, μ1004 106 35 = z1014 → ∀ z1016 : Int, μ1004 106 36 = z1016 → nxR μ998 μ1004 → (((z829 - 1) ≤ 0) → ∀ z1027 : Int, μ1004 145 ((0 : Int).toNat) = z1027 → ((-9223372036854775808) ≤ z1027 ∧ z1027 ≤ 9223372036854775807) → ∀ μ1030 : mM, mU μ1004 137 (p1.toNat) z1027 μ1030 → mT w μ1030 → ∀ z1033 : Int, μ1030 146 ((0 : Int).toNat) = z1033 → ((-9223372036854775808) ≤ z1033 ∧ z1033 ≤ 9223372036854775807) → ∀ μ1036 : mM, mU μ1030 138 (p1.toNat) z1033 μ1036 → mT w μ1036 → ∀ z1039 : Int, μ1036 147 ((0 : Int).toNat) = z1039 → (0 ≤ z1039 ∧ z1039 ≤ 1) → ∀ μ1042 : mM, mU μ1036 139 (p1.toNat) z1039 μ1042 → mT w μ1042 → rec1 (μ1042)) ∧ ((0 < (z829 - 1)) → ∀ z1046 : Int, μ1004 145 ((z829 - 1).toNat) = z1046 → ((-9223372036854775808) ≤ z1046 ∧ z1046 ≤ 9223372036854775807) → ∀ z1049 : Int, μ1004 146 ((z829 - 1).toNat) = z1049 → ((-9223372036854775808) ≤ z1049 ∧ z1049 ≤ 9223372036854775807) → ∀ z1052 : Int, μ1004 147 ((z829 - 1).toNat) = z1052 → (0 ≤ z1052 ∧ z1052 ≤ 1) → WP_X12_piece_Wx w μ1004 z1046 z1049 z1052 (fun μ1055 => mT w μ1055 → mF [106033, 106034, 106035, 106036, 106037, 106038, 144999, 148999, 149999, 150999] w μ1004 μ1055 → rec1 (μ1055))))))) ∧ ((¬ z974 = 0) → WP_X12_endRow_Wx w μ815  (fun μ1063 => mT w μ1063 → mF [145999, 146999, 147999] w μ815 μ1063 → ∀ μ1067 : mM, mU μ1063 106 (59) (z829 - 1) μ1067 → mT w μ1067 → WP_X12_freshRow_W w μ1067  (fun μ1070 => mT w μ1070 → mF [148999, 149999, 150999] w μ1067 μ1070 → ∀ μ1074 : mM, mU μ1070 106 (59) ((z829 - 1) + 1) μ1074 → mT w μ1074 → ∀ z1077 : Int, μ1074 106 33 = z1077 → (0 ≤ z1077 ∧ z1077 ≤ 1000) → ∀ μ1080 : mM, mF [106033, 106034, 106035, 106036, 106037, 106038] w μ1074 μ1080 → mT w μ1080 → ∀ z1084 : Int, μ1080 106 37 = z1084 → ∀ z1086 : Int, μ1080 106 33 = z1086 → ∀ z1088 : Int, μ1080 106 34 = z1088 → ∀ z1090 : Int, μ1080 106 35 = z1090 → ∀ z1092 : Int, μ1080 106 36 = z1092 → nxR μ1074 μ1080 → rec1 (μ1080)))))) ∧ ((¬ z966 = 0) → ((z829 < 6) → WP_X12_openLevel_Wx w μ815  (fun μ1112 => mT w μ1112 → mF [106059, 145999, 146999, 147999, 148999, 149999, 150999] w μ815 μ1112 → ∀ z1116 : Int, μ1112 106 33 = z1116 → (0 ≤ z1116 ∧ z1116 ≤ 1000) → ∀ μ1119 : mM, mF [106033, 106034, 106035, 106036, 106037, 106038] w μ1112 μ1119 → mT w μ1119 → ∀ z1123 : Int, μ1119 106 37 = z1123 → ∀ z1125 : Int, μ1119 106 33 = z1125 → ∀ z1127 : Int, μ1119 106 34 = z1127 → ∀ z1129 : Int, μ1119 106 35 = z1129 → ∀ z1131 : Int, μ1119 106 36 = z1131 → nxR μ1112 μ1119 → rec1 (μ1119))) ∧ ((6 ≤ z829) → WP_X12_wrong_Wx w μ815 (4) (fun μ1140 => mT w μ1140 → mF [106037, 106038] w μ815 μ1140 → ∀ z1144 : Int, μ1140 106 37 = z1144 → (0 ≤ z1144 ∧ z1144 ≤ 4) → ((z1144 = 0) → WP_X12_openLevel_Wx w μ1140  (fun μ1149 => mT w μ1149 → mF [106059, 145999, 146999, 147999, 148999, 149999, 150999] w μ1140 μ1149 → ∀ z1153 : Int, μ1149 106 33 = z1153 → (0 ≤ z1153 ∧ z1153 ≤ 1000) → ∀ μ1156 : mM, mF [106033, 106034, 106035, 106036, 106037, 106038] w μ1149 μ1156 → mT w μ1156 → ∀ z1160 : Int, μ1156 106 37 = z1160 → ∀ z1162 : Int, μ1156 106 33 = z1162 → ∀ z1164 : Int, μ1156 106 34 = z1164 → ∀ z1166 : Int, μ1156 106 35 = z1166 → ∀ z1168 : Int, μ1156 106 36 = z1168 → nxR μ1149 μ1156 → rec1 (μ1156))) ∧ ((¬ z1144 = 0) → Q μ1140)))))) ∧ ((¬ z957 = 0) → ∀ z1181 : Int, μ815 106 58 = z1181 → (0 ≤ z1181 ∧ z1181 ≤ 12) → ∀ z1184 : Int, μ815 142 (z1181.toNat) = z1184 → (0 ≤ z1184 ∧ z1184 ≤ 40) → ((¬ z1184 = 40) → (WJ_X12_wayTest_Wx_4 w Q rec1 μ815 z1181 z1184) μ815) ∧ ((z1184 = 40) → WP_X12_wrong_Wx w μ815 (4) (fun μ1253 => mT w μ1253 → mF [106037, 106038] w μ815 μ1253 → (WJ_X12_wayTest_Wx_4 w Q rec1 μ815 z1181 z1184) μ1253)))))))
def WP_X12_wayTest_Wx (w : mW) (μ : mM) (p1 : Int) (Q : mM → Prop) : Prop := ∀ z1 : Int, μ 106 37 = z1 → (0 ≤ z1 ∧ z1 ≤ 4) → ∀ z4 : Int, μ 106 35 = z4 → (0 ≤ z4 ∧ z4 ≤ 3) → ∀ z7 : Int, μ 106 36 = z7 → ((-2147483648) ≤ z7 ∧ z7 ≤ 2147483647) → WP_X12_isSign_W w μ (40) (fun z14 _ => (0 ≤ z14 ∧ z14 ≤ 1) → ((¬ z14 = 0) → ∀ z21 : Int, μ 106 33 = z21 → (0 ≤ z21 ∧ z21 ≤ 1000) → ∀ z24 : Int, μ 106 1 = z24 → (0 ≤ z24 ∧ z24 ≤ 1000) → ∀ μ27 : mM, mF [106033, 106034, 106035, 106036, 106037, 106038] w μ μ27 → mT w μ27 → ∀ z31 : Int, μ27 106 37 = z31 → ∀ z33 : Int, μ27 106 33 = z33 → ∀ z35 : Int, μ27 106 34 = z35 → ∀ z37 : Int, μ27 106 35 = z37 → ∀ z39 : Int, μ27 106 36 = z39 → nxR μ μ27 → ∀ μ47 : mM, mU μ27 106 (59) (0 : Int) μ47 → mT w μ47 → WP_X12_openLevel_Wx w μ47  (fun μ50 => mT w μ50 → mF [106059, 145999, 146999, 147999, 148999, 149999, 150999] w μ47 μ50 → loopF (WL_X12_wayTest_Wx_1 w p1 Q μ50) False 1010 (μ50))) ∧ ((z14 = 0) → WP_X12_wrong_Wx w μ (2) (fun μ1259 => mT w μ1259 → mF [106037, 106038] w μ μ1259 → Q μ1259)))
theorem vc_X12_wayTest_Wx_1 {z1 z14 z4 z7 : Int} (h0 : ¬ z14 = 0) (h1 : (z14 = 1 → z1 = 0 ∧ z4 = 3 ∧ z7 = (40 : Int))) (h2 : (z14 = 0 → ¬ z1 = 0 ∨ ¬ z4 = 3 ∨ ¬ z7 = (40 : Int))) (h3 : 0 ≤ z1 ∧ z1 ≤ 4) (h4 : 0 ≤ z14 ∧ z14 ≤ 1) (h5 : 0 ≤ z4 ∧ z4 ≤ 3) (h6 : (-2147483648) ≤ z7 ∧ z7 ≤ 2147483647) : 1 ≤ z14 ∧ z14 ≤ 1 := by omega
theorem vc_X12_wayTest_Wx_2 {z1 z14 z4 z7 : Int} (h0 : (z14 = 1 → z1 = 0 ∧ z4 = 3 ∧ z7 = (40 : Int))) (h1 : (z14 = 0 → ¬ z1 = 0 ∨ ¬ z4 = 3 ∨ ¬ z7 = (40 : Int))) (h2 : ¬ z14 = 0) (h3 : 0 ≤ z1 ∧ z1 ≤ 4) (h4 : 1 ≤ z14 ∧ z14 ≤ 1) (h5 : 0 ≤ z4 ∧ z4 ≤ 3) (h6 : (-2147483648) ≤ z7 ∧ z7 ≤ 2147483647) : z14 = 1 := by omega
theorem vc_X12_wayTest_Wx_3 {z1 z14 z4 z7 : Int} (h0 : z1 = 0 ∧ z4 = 3 ∧ z7 = (40 : Int)) (h1 : (z14 = 1 → z1 = 0 ∧ z4 = 3 ∧ z7 = (40 : Int))) (h2 : (z14 = 0 → ¬ z1 = 0 ∨ ¬ z4 = 3 ∨ ¬ z7 = (40 : Int))) (h3 : 0 ≤ z1 ∧ z1 ≤ 4) (h4 : 1 ≤ z14 ∧ z14 ≤ 1) (h5 : 0 ≤ z4 ∧ z4 ≤ 3) (h6 : (-2147483648) ≤ z7 ∧ z7 ≤ 2147483647) : 0 ≤ z1 ∧ z1 ≤ 0 := by omega
theorem vc_X12_wayTest_Wx_4 {z1 z14 z4 z7 : Int} (h0 : z1 = 0 ∧ z4 = 3 ∧ z7 = (40 : Int)) (h1 : (z14 = 1 → z1 = 0 ∧ z4 = 3 ∧ z7 = (40 : Int))) (h2 : (z14 = 0 → ¬ z1 = 0 ∨ ¬ z4 = 3 ∨ ¬ z7 = (40 : Int))) (h3 : 0 ≤ z1 ∧ z1 ≤ 0) (h4 : 1 ≤ z14 ∧ z14 ≤ 1) (h5 : 0 ≤ z4 ∧ z4 ≤ 3) (h6 : (-2147483648) ≤ z7 ∧ z7 ≤ 2147483647) : 40 ≤ z7 ∧ z7 ≤ 40 := by omega
theorem vc_X12_wayTest_Wx_5 {z1 z14 z4 z7 : Int} (h0 : z1 = 0 ∧ z4 = 3 ∧ z7 = (40 : Int)) (h1 : (z14 = 1 → z1 = 0 ∧ z4 = 3 ∧ z7 = (40 : Int))) (h2 : (z14 = 0 → ¬ z1 = 0 ∨ ¬ z4 = 3 ∨ ¬ z7 = (40 : Int))) (h3 : 0 ≤ z1 ∧ z1 ≤ 0) (h4 : 1 ≤ z14 ∧ z14 ≤ 1) (h5 : 0 ≤ z4 ∧ z4 ≤ 3) (h6 : 40 ≤ z7 ∧ z7 ≤ 40) : 3 ≤ z4 ∧ z4 ≤ 3 := by omega
theorem vc_X12_wayTest_Wx_8 {z829 : Int} (h0 : z829 ≤ 0) (h1 : 0 ≤ z829 ∧ z829 ≤ 6) : 0 ≤ z829 ∧ z829 ≤ 0 := by omega
theorem vc_X12_wayTest_Wx_9 {z829 : Int} (h0 : 0 < z829) (h1 : 0 ≤ z829 ∧ z829 ≤ 6) : 1 ≤ z829 ∧ z829 ≤ 6 := by omega
theorem vc_X12_wayTest_Wx_11 {z835 : Int} (h0 : ¬ z835 = 2) (h1 : 2 ≤ z835 ∧ z835 ≤ 2) : False := by omega
theorem vc_X12_wayTest_Wx_13 {z867 : Int} (h0 : z867 ≤ 39) (h1 : 0 ≤ z867 ∧ z867 ≤ 40) : 0 ≤ z867 ∧ z867 ≤ 39 := by omega
theorem vc_X12_wayTest_Wx_15 {z867 : Int} (h0 : ¬ z867 = 40) (h1 : 0 ≤ z867 ∧ z867 ≤ 40) : 0 ≤ z867 ∧ z867 ≤ 39 := by omega
theorem vc_X12_wayTest_Wx_16 {z867 : Int} (h0 : z867 = 40) (h1 : 0 ≤ z867 ∧ z867 ≤ 40) : 40 ≤ z867 ∧ z867 ≤ 40 := by omega
theorem vc_X12_wayTest_Wx_22 {z823 z835 z950 z957 : Int} (h0 : z957 = 0) (h1 : (z957 = 1 → z823 = 0 ∧ z835 = 1 ∧ z950 = (7 : Int))) (h2 : (z957 = 0 → ¬ z823 = 0 ∨ ¬ z835 = 1 ∨ ¬ z950 = (7 : Int))) (h3 : 0 ≤ z823 ∧ z823 ≤ 0) (h4 : 0 ≤ z835 ∧ z835 ≤ 3) (h5 : (-2147483648) ≤ z950 ∧ z950 ≤ 2147483647) (h6 : 0 ≤ z957 ∧ z957 ≤ 1) : 0 ≤ z957 ∧ z957 ≤ 0 := by omega
theorem vc_X12_wayTest_Wx_23 {z823 z835 z950 z957 : Int} (h0 : (z957 = 1 → z823 = 0 ∧ z835 = 1 ∧ z950 = (7 : Int))) (h1 : (z957 = 0 → ¬ z823 = 0 ∨ ¬ z835 = 1 ∨ ¬ z950 = (7 : Int))) (h2 : z957 = 0) (h3 : z823 = 0) (h4 : ¬ z835 = 2) (h5 : 0 ≤ z823 ∧ z823 ≤ 0) (h6 : 0 ≤ z835 ∧ z835 ≤ 3) (h7 : (-2147483648) ≤ z950 ∧ z950 ≤ 2147483647) (h8 : 0 ≤ z957 ∧ z957 ≤ 0) : z957 = 0 := by omega
theorem vc_X12_wayTest_Wx_24 {z823 z835 z950 z966 : Int} (h0 : z966 = 0) (h1 : (z966 = 1 → z823 = 0 ∧ z835 = 3 ∧ z950 = (40 : Int))) (h2 : (z966 = 0 → ¬ z823 = 0 ∨ ¬ z835 = 3 ∨ ¬ z950 = (40 : Int))) (h3 : 0 ≤ z823 ∧ z823 ≤ 0) (h4 : 0 ≤ z835 ∧ z835 ≤ 3) (h5 : (-2147483648) ≤ z950 ∧ z950 ≤ 2147483647) (h6 : 0 ≤ z966 ∧ z966 ≤ 1) : 0 ≤ z966 ∧ z966 ≤ 0 := by omega
theorem vc_X12_wayTest_Wx_25 {z823 z835 z950 z957 z966 : Int} (h0 : (z966 = 1 → z823 = 0 ∧ z835 = 3 ∧ z950 = (40 : Int))) (h1 : (z966 = 0 → ¬ z823 = 0 ∨ ¬ z835 = 3 ∨ ¬ z950 = (40 : Int))) (h2 : z966 = 0) (h3 : z823 = 0) (h4 : ¬ z835 = 2) (h5 : (z957 = 1 → z823 = 0 ∧ z835 = 1 ∧ z950 = (7 : Int))) (h6 : (z957 = 0 → ¬ z823 = 0 ∨ ¬ z835 = 1 ∨ ¬ z950 = (7 : Int))) (h7 : ¬ z823 = 0 ∨ ¬ z835 = 1 ∨ ¬ z950 = (7 : Int)) (h8 : 0 ≤ z823 ∧ z823 ≤ 0) (h9 : 0 ≤ z835 ∧ z835 ≤ 3) (h10 : (-2147483648) ≤ z950 ∧ z950 ≤ 2147483647) (h11 : 0 ≤ z957 ∧ z957 ≤ 0) (h12 : 0 ≤ z966 ∧ z966 ≤ 0) : z966 = 0 := by omega
theorem vc_X12_wayTest_Wx_26 {z823 z835 z950 z974 : Int} (h0 : z974 = 0) (h1 : (z974 = 1 → z823 = 0 ∧ z835 = 3 ∧ z950 = (124 : Int))) (h2 : (z974 = 0 → ¬ z823 = 0 ∨ ¬ z835 = 3 ∨ ¬ z950 = (124 : Int))) (h3 : 0 ≤ z823 ∧ z823 ≤ 0) (h4 : 0 ≤ z835 ∧ z835 ≤ 3) (h5 : (-2147483648) ≤ z950 ∧ z950 ≤ 2147483647) (h6 : 0 ≤ z974 ∧ z974 ≤ 1) : 0 ≤ z974 ∧ z974 ≤ 0 := by omega
theorem vc_X12_wayTest_Wx_27 {z823 z835 z950 z957 z966 z974 : Int} (h0 : (z974 = 1 → z823 = 0 ∧ z835 = 3 ∧ z950 = (124 : Int))) (h1 : (z974 = 0 → ¬ z823 = 0 ∨ ¬ z835 = 3 ∨ ¬ z950 = (124 : Int))) (h2 : z974 = 0) (h3 : z823 = 0) (h4 : ¬ z835 = 2) (h5 : (z957 = 1 → z823 = 0 ∧ z835 = 1 ∧ z950 = (7 : Int))) (h6 : (z957 = 0 → ¬ z823 = 0 ∨ ¬ z835 = 1 ∨ ¬ z950 = (7 : Int))) (h7 : ¬ z823 = 0 ∨ ¬ z835 = 1 ∨ ¬ z950 = (7 : Int)) (h8 : (z966 = 1 → z823 = 0 ∧ z835 = 3 ∧ z950 = (40 : Int))) (h9 : (z966 = 0 → ¬ z823 = 0 ∨ ¬ z835 = 3 ∨ ¬ z950 = (40 : Int))) (h10 : ¬ z823 = 0 ∨ ¬ z835 = 3 ∨ ¬ z950 = (40 : Int)) (h11 : 0 ≤ z823 ∧ z823 ≤ 0) (h12 : 0 ≤ z835 ∧ z835 ≤ 3) (h13 : (-2147483648) ≤ z950 ∧ z950 ≤ 2147483647) (h14 : 0 ≤ z957 ∧ z957 ≤ 0) (h15 : 0 ≤ z966 ∧ z966 ≤ 0) (h16 : 0 ≤ z974 ∧ z974 ≤ 0) : z974 = 0 := by omega
theorem vc_X12_wayTest_Wx_28 {z823 z835 z950 z982 : Int} (h0 : z982 = 0) (h1 : (z982 = 1 → z823 = 0 ∧ z835 = 3 ∧ z950 = (41 : Int))) (h2 : (z982 = 0 → ¬ z823 = 0 ∨ ¬ z835 = 3 ∨ ¬ z950 = (41 : Int))) (h3 : 0 ≤ z823 ∧ z823 ≤ 0) (h4 : 0 ≤ z835 ∧ z835 ≤ 3) (h5 : (-2147483648) ≤ z950 ∧ z950 ≤ 2147483647) (h6 : 0 ≤ z982 ∧ z982 ≤ 1) : 0 ≤ z982 ∧ z982 ≤ 0 := by omega
theorem vc_X12_wayTest_Wx_29 {z823 z835 z950 z957 z966 z974 z982 : Int} (h0 : (z982 = 1 → z823 = 0 ∧ z835 = 3 ∧ z950 = (41 : Int))) (h1 : (z982 = 0 → ¬ z823 = 0 ∨ ¬ z835 = 3 ∨ ¬ z950 = (41 : Int))) (h2 : z982 = 0) (h3 : z823 = 0) (h4 : ¬ z835 = 2) (h5 : (z957 = 1 → z823 = 0 ∧ z835 = 1 ∧ z950 = (7 : Int))) (h6 : (z957 = 0 → ¬ z823 = 0 ∨ ¬ z835 = 1 ∨ ¬ z950 = (7 : Int))) (h7 : ¬ z823 = 0 ∨ ¬ z835 = 1 ∨ ¬ z950 = (7 : Int)) (h8 : (z966 = 1 → z823 = 0 ∧ z835 = 3 ∧ z950 = (40 : Int))) (h9 : (z966 = 0 → ¬ z823 = 0 ∨ ¬ z835 = 3 ∨ ¬ z950 = (40 : Int))) (h10 : ¬ z823 = 0 ∨ ¬ z835 = 3 ∨ ¬ z950 = (40 : Int)) (h11 : (z974 = 1 → z823 = 0 ∧ z835 = 3 ∧ z950 = (124 : Int))) (h12 : (z974 = 0 → ¬ z823 = 0 ∨ ¬ z835 = 3 ∨ ¬ z950 = (124 : Int))) (h13 : ¬ z823 = 0 ∨ ¬ z835 = 3 ∨ ¬ z950 = (124 : Int)) (h14 : 0 ≤ z823 ∧ z823 ≤ 0) (h15 : 0 ≤ z835 ∧ z835 ≤ 3) (h16 : (-2147483648) ≤ z950 ∧ z950 ≤ 2147483647) (h17 : 0 ≤ z957 ∧ z957 ≤ 0) (h18 : 0 ≤ z966 ∧ z966 ≤ 0) (h19 : 0 ≤ z974 ∧ z974 ≤ 0) (h20 : 0 ≤ z982 ∧ z982 ≤ 0) : z982 = 0 := by omega
theorem vc_X12_wayTest_Wx_30 {z823 z835 z950 z982 : Int} (h0 : ¬ z982 = 0) (h1 : (z982 = 1 → z823 = 0 ∧ z835 = 3 ∧ z950 = (41 : Int))) (h2 : (z982 = 0 → ¬ z823 = 0 ∨ ¬ z835 = 3 ∨ ¬ z950 = (41 : Int))) (h3 : 0 ≤ z823 ∧ z823 ≤ 0) (h4 : 0 ≤ z835 ∧ z835 ≤ 3) (h5 : (-2147483648) ≤ z950 ∧ z950 ≤ 2147483647) (h6 : 0 ≤ z982 ∧ z982 ≤ 1) : 1 ≤ z982 ∧ z982 ≤ 1 := by omega
theorem vc_X12_wayTest_Wx_31 {z823 z835 z950 z957 z966 z974 z982 : Int} (h0 : (z982 = 1 → z823 = 0 ∧ z835 = 3 ∧ z950 = (41 : Int))) (h1 : (z982 = 0 → ¬ z823 = 0 ∨ ¬ z835 = 3 ∨ ¬ z950 = (41 : Int))) (h2 : ¬ z982 = 0) (h3 : z823 = 0) (h4 : ¬ z835 = 2) (h5 : (z957 = 1 → z823 = 0 ∧ z835 = 1 ∧ z950 = (7 : Int))) (h6 : (z957 = 0 → ¬ z823 = 0 ∨ ¬ z835 = 1 ∨ ¬ z950 = (7 : Int))) (h7 : ¬ z823 = 0 ∨ ¬ z835 = 1 ∨ ¬ z950 = (7 : Int)) (h8 : (z966 = 1 → z823 = 0 ∧ z835 = 3 ∧ z950 = (40 : Int))) (h9 : (z966 = 0 → ¬ z823 = 0 ∨ ¬ z835 = 3 ∨ ¬ z950 = (40 : Int))) (h10 : ¬ z823 = 0 ∨ ¬ z835 = 3 ∨ ¬ z950 = (40 : Int)) (h11 : (z974 = 1 → z823 = 0 ∧ z835 = 3 ∧ z950 = (124 : Int))) (h12 : (z974 = 0 → ¬ z823 = 0 ∨ ¬ z835 = 3 ∨ ¬ z950 = (124 : Int))) (h13 : ¬ z823 = 0 ∨ ¬ z835 = 3 ∨ ¬ z950 = (124 : Int)) (h14 : 0 ≤ z823 ∧ z823 ≤ 0) (h15 : 0 ≤ z835 ∧ z835 ≤ 3) (h16 : (-2147483648) ≤ z950 ∧ z950 ≤ 2147483647) (h17 : 0 ≤ z957 ∧ z957 ≤ 0) (h18 : 0 ≤ z966 ∧ z966 ≤ 0) (h19 : 0 ≤ z974 ∧ z974 ≤ 0) (h20 : 1 ≤ z982 ∧ z982 ≤ 1) : z982 = 1 := by omega
theorem vc_X12_wayTest_Wx_32 {z823 z835 z950 z966 z974 z982 : Int} (h0 : z823 = 0 ∧ z835 = 3 ∧ z950 = (41 : Int)) (h1 : (z966 = 0 → ¬ z823 = 0 ∨ ¬ z835 = 3 ∨ ¬ z950 = (40 : Int))) (h2 : ¬ z823 = 0 ∨ ¬ z835 = 3 ∨ ¬ z950 = (40 : Int)) (h3 : (z974 = 1 → z823 = 0 ∧ z835 = 3 ∧ z950 = (124 : Int))) (h4 : (z974 = 0 → ¬ z823 = 0 ∨ ¬ z835 = 3 ∨ ¬ z950 = (124 : Int))) (h5 : ¬ z823 = 0 ∨ ¬ z835 = 3 ∨ ¬ z950 = (124 : Int)) (h6 : (z982 = 1 → z823 = 0 ∧ z835 = 3 ∧ z950 = (41 : Int))) (h7 : (z982 = 0 → ¬ z823 = 0 ∨ ¬ z835 = 3 ∨ ¬ z950 = (41 : Int))) (h8 : 0 ≤ z823 ∧ z823 ≤ 0) (h9 : 0 ≤ z835 ∧ z835 ≤ 3) (h10 : (-2147483648) ≤ z950 ∧ z950 ≤ 2147483647) (h11 : 0 ≤ z966 ∧ z966 ≤ 0) (h12 : 0 ≤ z974 ∧ z974 ≤ 0) (h13 : 1 ≤ z982 ∧ z982 ≤ 1) : 3 ≤ z835 ∧ z835 ≤ 3 := by omega
theorem vc_X12_wayTest_Wx_33 {z823 z835 z950 z966 z974 z982 : Int} (h0 : z823 = 0 ∧ z835 = 3 ∧ z950 = (41 : Int)) (h1 : (z966 = 0 → ¬ z823 = 0 ∨ ¬ z835 = 3 ∨ ¬ z950 = (40 : Int))) (h2 : ¬ z823 = 0 ∨ ¬ z835 = 3 ∨ ¬ z950 = (40 : Int)) (h3 : (z974 = 1 → z823 = 0 ∧ z835 = 3 ∧ z950 = (124 : Int))) (h4 : (z974 = 0 → ¬ z823 = 0 ∨ ¬ z835 = 3 ∨ ¬ z950 = (124 : Int))) (h5 : ¬ z823 = 0 ∨ ¬ z835 = 3 ∨ ¬ z950 = (124 : Int)) (h6 : (z982 = 1 → z823 = 0 ∧ z835 = 3 ∧ z950 = (41 : Int))) (h7 : (z982 = 0 → ¬ z823 = 0 ∨ ¬ z835 = 3 ∨ ¬ z950 = (41 : Int))) (h8 : 0 ≤ z823 ∧ z823 ≤ 0) (h9 : 3 ≤ z835 ∧ z835 ≤ 3) (h10 : (-2147483648) ≤ z950 ∧ z950 ≤ 2147483647) (h11 : 0 ≤ z966 ∧ z966 ≤ 0) (h12 : 0 ≤ z974 ∧ z974 ≤ 0) (h13 : 1 ≤ z982 ∧ z982 ≤ 1) : 41 ≤ z950 ∧ z950 ≤ 41 := by omega
theorem vc_X12_wayTest_Wx_34 {z829 : Int} (h0 : (z829 - 1) ≤ 0) (h1 : 0 < z829) (h2 : 1 ≤ z829 ∧ z829 ≤ 6) : 1 ≤ z829 ∧ z829 ≤ 1 := by omega
theorem vc_X12_wayTest_Wx_35 {z829 : Int} (h0 : 0 < (z829 - 1)) (h1 : 0 < z829) (h2 : 1 ≤ z829 ∧ z829 ≤ 6) : 2 ≤ z829 ∧ z829 ≤ 6 := by omega
theorem vc_X12_wayTest_Wx_36 {z823 z835 z950 z974 : Int} (h0 : ¬ z974 = 0) (h1 : (z974 = 1 → z823 = 0 ∧ z835 = 3 ∧ z950 = (124 : Int))) (h2 : (z974 = 0 → ¬ z823 = 0 ∨ ¬ z835 = 3 ∨ ¬ z950 = (124 : Int))) (h3 : 0 ≤ z823 ∧ z823 ≤ 0) (h4 : 0 ≤ z835 ∧ z835 ≤ 3) (h5 : (-2147483648) ≤ z950 ∧ z950 ≤ 2147483647) (h6 : 0 ≤ z974 ∧ z974 ≤ 1) : 1 ≤ z974 ∧ z974 ≤ 1 := by omega
theorem vc_X12_wayTest_Wx_37 {z823 z835 z950 z957 z966 z974 : Int} (h0 : (z974 = 1 → z823 = 0 ∧ z835 = 3 ∧ z950 = (124 : Int))) (h1 : (z974 = 0 → ¬ z823 = 0 ∨ ¬ z835 = 3 ∨ ¬ z950 = (124 : Int))) (h2 : ¬ z974 = 0) (h3 : z823 = 0) (h4 : ¬ z835 = 2) (h5 : (z957 = 1 → z823 = 0 ∧ z835 = 1 ∧ z950 = (7 : Int))) (h6 : (z957 = 0 → ¬ z823 = 0 ∨ ¬ z835 = 1 ∨ ¬ z950 = (7 : Int))) (h7 : ¬ z823 = 0 ∨ ¬ z835 = 1 ∨ ¬ z950 = (7 : Int)) (h8 : (z966 = 1 → z823 = 0 ∧ z835 = 3 ∧ z950 = (40 : Int))) (h9 : (z966 = 0 → ¬ z823 = 0 ∨ ¬ z835 = 3 ∨ ¬ z950 = (40 : Int))) (h10 : ¬ z823 = 0 ∨ ¬ z835 = 3 ∨ ¬ z950 = (40 : Int)) (h11 : 0 ≤ z823 ∧ z823 ≤ 0) (h12 : 0 ≤ z835 ∧ z835 ≤ 3) (h13 : (-2147483648) ≤ z950 ∧ z950 ≤ 2147483647) (h14 : 0 ≤ z957 ∧ z957 ≤ 0) (h15 : 0 ≤ z966 ∧ z966 ≤ 0) (h16 : 1 ≤ z974 ∧ z974 ≤ 1) : z974 = 1 := by omega
theorem vc_X12_wayTest_Wx_38 {z823 z835 z950 z957 z966 z974 : Int} (h0 : z823 = 0 ∧ z835 = 3 ∧ z950 = (124 : Int)) (h1 : (z957 = 0 → ¬ z823 = 0 ∨ ¬ z835 = 1 ∨ ¬ z950 = (7 : Int))) (h2 : ¬ z823 = 0 ∨ ¬ z835 = 1 ∨ ¬ z950 = (7 : Int)) (h3 : (z966 = 1 → z823 = 0 ∧ z835 = 3 ∧ z950 = (40 : Int))) (h4 : (z966 = 0 → ¬ z823 = 0 ∨ ¬ z835 = 3 ∨ ¬ z950 = (40 : Int))) (h5 : ¬ z823 = 0 ∨ ¬ z835 = 3 ∨ ¬ z950 = (40 : Int)) (h6 : (z974 = 1 → z823 = 0 ∧ z835 = 3 ∧ z950 = (124 : Int))) (h7 : (z974 = 0 → ¬ z823 = 0 ∨ ¬ z835 = 3 ∨ ¬ z950 = (124 : Int))) (h8 : 0 ≤ z823 ∧ z823 ≤ 0) (h9 : 0 ≤ z835 ∧ z835 ≤ 3) (h10 : (-2147483648) ≤ z950 ∧ z950 ≤ 2147483647) (h11 : 0 ≤ z957 ∧ z957 ≤ 0) (h12 : 0 ≤ z966 ∧ z966 ≤ 0) (h13 : 1 ≤ z974 ∧ z974 ≤ 1) : 3 ≤ z835 ∧ z835 ≤ 3 := by omega
theorem vc_X12_wayTest_Wx_39 {z823 z835 z950 z957 z966 z974 : Int} (h0 : z823 = 0 ∧ z835 = 3 ∧ z950 = (124 : Int)) (h1 : (z957 = 0 → ¬ z823 = 0 ∨ ¬ z835 = 1 ∨ ¬ z950 = (7 : Int))) (h2 : ¬ z823 = 0 ∨ ¬ z835 = 1 ∨ ¬ z950 = (7 : Int)) (h3 : (z966 = 1 → z823 = 0 ∧ z835 = 3 ∧ z950 = (40 : Int))) (h4 : (z966 = 0 → ¬ z823 = 0 ∨ ¬ z835 = 3 ∨ ¬ z950 = (40 : Int))) (h5 : ¬ z823 = 0 ∨ ¬ z835 = 3 ∨ ¬ z950 = (40 : Int)) (h6 : (z974 = 1 → z823 = 0 ∧ z835 = 3 ∧ z950 = (124 : Int))) (h7 : (z974 = 0 → ¬ z823 = 0 ∨ ¬ z835 = 3 ∨ ¬ z950 = (124 : Int))) (h8 : 0 ≤ z823 ∧ z823 ≤ 0) (h9 : 3 ≤ z835 ∧ z835 ≤ 3) (h10 : (-2147483648) ≤ z950 ∧ z950 ≤ 2147483647) (h11 : 0 ≤ z957 ∧ z957 ≤ 0) (h12 : 0 ≤ z966 ∧ z966 ≤ 0) (h13 : 1 ≤ z974 ∧ z974 ≤ 1) : 124 ≤ z950 ∧ z950 ≤ 124 := by omega
theorem vc_X12_wayTest_Wx_40 {z823 z835 z950 z966 : Int} (h0 : ¬ z966 = 0) (h1 : (z966 = 1 → z823 = 0 ∧ z835 = 3 ∧ z950 = (40 : Int))) (h2 : (z966 = 0 → ¬ z823 = 0 ∨ ¬ z835 = 3 ∨ ¬ z950 = (40 : Int))) (h3 : 0 ≤ z823 ∧ z823 ≤ 0) (h4 : 0 ≤ z835 ∧ z835 ≤ 3) (h5 : (-2147483648) ≤ z950 ∧ z950 ≤ 2147483647) (h6 : 0 ≤ z966 ∧ z966 ≤ 1) : 1 ≤ z966 ∧ z966 ≤ 1 := by omega
theorem vc_X12_wayTest_Wx_41 {z823 z835 z950 z957 z966 : Int} (h0 : (z966 = 1 → z823 = 0 ∧ z835 = 3 ∧ z950 = (40 : Int))) (h1 : (z966 = 0 → ¬ z823 = 0 ∨ ¬ z835 = 3 ∨ ¬ z950 = (40 : Int))) (h2 : ¬ z966 = 0) (h3 : z823 = 0) (h4 : ¬ z835 = 2) (h5 : (z957 = 1 → z823 = 0 ∧ z835 = 1 ∧ z950 = (7 : Int))) (h6 : (z957 = 0 → ¬ z823 = 0 ∨ ¬ z835 = 1 ∨ ¬ z950 = (7 : Int))) (h7 : ¬ z823 = 0 ∨ ¬ z835 = 1 ∨ ¬ z950 = (7 : Int)) (h8 : 0 ≤ z823 ∧ z823 ≤ 0) (h9 : 0 ≤ z835 ∧ z835 ≤ 3) (h10 : (-2147483648) ≤ z950 ∧ z950 ≤ 2147483647) (h11 : 0 ≤ z957 ∧ z957 ≤ 0) (h12 : 1 ≤ z966 ∧ z966 ≤ 1) : z966 = 1 := by omega
theorem vc_X12_wayTest_Wx_42 {z823 z835 z950 z957 z966 : Int} (h0 : z823 = 0 ∧ z835 = 3 ∧ z950 = (40 : Int)) (h1 : z823 = 0) (h2 : ¬ z835 = 2) (h3 : (z957 = 1 → z823 = 0 ∧ z835 = 1 ∧ z950 = (7 : Int))) (h4 : (z957 = 0 → ¬ z823 = 0 ∨ ¬ z835 = 1 ∨ ¬ z950 = (7 : Int))) (h5 : ¬ z823 = 0 ∨ ¬ z835 = 1 ∨ ¬ z950 = (7 : Int)) (h6 : (z966 = 1 → z823 = 0 ∧ z835 = 3 ∧ z950 = (40 : Int))) (h7 : (z966 = 0 → ¬ z823 = 0 ∨ ¬ z835 = 3 ∨ ¬ z950 = (40 : Int))) (h8 : 0 ≤ z823 ∧ z823 ≤ 0) (h9 : 0 ≤ z835 ∧ z835 ≤ 3) (h10 : (-2147483648) ≤ z950 ∧ z950 ≤ 2147483647) (h11 : 0 ≤ z957 ∧ z957 ≤ 0) (h12 : 1 ≤ z966 ∧ z966 ≤ 1) : 3 ≤ z835 ∧ z835 ≤ 3 := by omega
theorem vc_X12_wayTest_Wx_43 {z823 z835 z950 z957 z966 : Int} (h0 : z823 = 0 ∧ z835 = 3 ∧ z950 = (40 : Int)) (h1 : z823 = 0) (h2 : ¬ z835 = 2) (h3 : (z957 = 1 → z823 = 0 ∧ z835 = 1 ∧ z950 = (7 : Int))) (h4 : (z957 = 0 → ¬ z823 = 0 ∨ ¬ z835 = 1 ∨ ¬ z950 = (7 : Int))) (h5 : ¬ z823 = 0 ∨ ¬ z835 = 1 ∨ ¬ z950 = (7 : Int)) (h6 : (z966 = 1 → z823 = 0 ∧ z835 = 3 ∧ z950 = (40 : Int))) (h7 : (z966 = 0 → ¬ z823 = 0 ∨ ¬ z835 = 3 ∨ ¬ z950 = (40 : Int))) (h8 : 0 ≤ z823 ∧ z823 ≤ 0) (h9 : 3 ≤ z835 ∧ z835 ≤ 3) (h10 : (-2147483648) ≤ z950 ∧ z950 ≤ 2147483647) (h11 : 0 ≤ z957 ∧ z957 ≤ 0) (h12 : 1 ≤ z966 ∧ z966 ≤ 1) : 40 ≤ z950 ∧ z950 ≤ 40 := by omega
theorem vc_X12_wayTest_Wx_44 {z829 : Int} (h0 : z829 < 6) (h1 : 0 < z829) (h2 : 1 ≤ z829 ∧ z829 ≤ 6) : 1 ≤ z829 ∧ z829 ≤ 5 := by omega
theorem vc_X12_wayTest_Wx_46 {z829 : Int} (h0 : 6 ≤ z829) (h1 : 0 < z829) (h2 : 1 ≤ z829 ∧ z829 ≤ 6) : 6 ≤ z829 ∧ z829 ≤ 6 := by omega
theorem vc_X12_wayTest_Wx_49 {z823 z835 z950 z957 : Int} (h0 : ¬ z957 = 0) (h1 : (z957 = 1 → z823 = 0 ∧ z835 = 1 ∧ z950 = (7 : Int))) (h2 : (z957 = 0 → ¬ z823 = 0 ∨ ¬ z835 = 1 ∨ ¬ z950 = (7 : Int))) (h3 : 0 ≤ z823 ∧ z823 ≤ 0) (h4 : 0 ≤ z835 ∧ z835 ≤ 3) (h5 : (-2147483648) ≤ z950 ∧ z950 ≤ 2147483647) (h6 : 0 ≤ z957 ∧ z957 ≤ 1) : 1 ≤ z957 ∧ z957 ≤ 1 := by omega
theorem vc_X12_wayTest_Wx_50 {z823 z835 z950 z957 : Int} (h0 : (z957 = 1 → z823 = 0 ∧ z835 = 1 ∧ z950 = (7 : Int))) (h1 : (z957 = 0 → ¬ z823 = 0 ∨ ¬ z835 = 1 ∨ ¬ z950 = (7 : Int))) (h2 : ¬ z957 = 0) (h3 : z823 = 0) (h4 : ¬ z835 = 2) (h5 : 0 ≤ z823 ∧ z823 ≤ 0) (h6 : 0 ≤ z835 ∧ z835 ≤ 3) (h7 : (-2147483648) ≤ z950 ∧ z950 ≤ 2147483647) (h8 : 1 ≤ z957 ∧ z957 ≤ 1) : z957 = 1 := by omega
theorem vc_X12_wayTest_Wx_51 {z823 z835 z950 z957 : Int} (h0 : z823 = 0 ∧ z835 = 1 ∧ z950 = (7 : Int)) (h1 : z823 = 0) (h2 : ¬ z835 = 2) (h3 : (z957 = 1 → z823 = 0 ∧ z835 = 1 ∧ z950 = (7 : Int))) (h4 : (z957 = 0 → ¬ z823 = 0 ∨ ¬ z835 = 1 ∨ ¬ z950 = (7 : Int))) (h5 : 0 ≤ z823 ∧ z823 ≤ 0) (h6 : 0 ≤ z835 ∧ z835 ≤ 3) (h7 : (-2147483648) ≤ z950 ∧ z950 ≤ 2147483647) (h8 : 1 ≤ z957 ∧ z957 ≤ 1) : 1 ≤ z835 ∧ z835 ≤ 1 := by omega
theorem vc_X12_wayTest_Wx_52 {z823 z835 z950 z957 : Int} (h0 : z823 = 0 ∧ z835 = 1 ∧ z950 = (7 : Int)) (h1 : z823 = 0) (h2 : ¬ z835 = 2) (h3 : (z957 = 1 → z823 = 0 ∧ z835 = 1 ∧ z950 = (7 : Int))) (h4 : (z957 = 0 → ¬ z823 = 0 ∨ ¬ z835 = 1 ∨ ¬ z950 = (7 : Int))) (h5 : 0 ≤ z823 ∧ z823 ≤ 0) (h6 : 1 ≤ z835 ∧ z835 ≤ 1) (h7 : (-2147483648) ≤ z950 ∧ z950 ≤ 2147483647) (h8 : 1 ≤ z957 ∧ z957 ≤ 1) : 7 ≤ z950 ∧ z950 ≤ 7 := by omega
theorem vc_X12_wayTest_Wx_53 {z835 : Int} (h0 : z835 = 2) (h1 : 1 ≤ z835 ∧ z835 ≤ 1) : False := by omega
theorem vc_X12_wayTest_Wx_59 {z1 z14 z4 z7 : Int} (h0 : z14 = 0) (h1 : (z14 = 1 → z1 = 0 ∧ z4 = 3 ∧ z7 = (40 : Int))) (h2 : (z14 = 0 → ¬ z1 = 0 ∨ ¬ z4 = 3 ∨ ¬ z7 = (40 : Int))) (h3 : 0 ≤ z1 ∧ z1 ≤ 4) (h4 : 0 ≤ z14 ∧ z14 ≤ 1) (h5 : 0 ≤ z4 ∧ z4 ≤ 3) (h6 : (-2147483648) ≤ z7 ∧ z7 ≤ 2147483647) : 0 ≤ z14 ∧ z14 ≤ 0 := by omega
theorem vc_X12_wayTest_Wx_60 {z1 z14 z4 z7 : Int} (h0 : (z14 = 1 → z1 = 0 ∧ z4 = 3 ∧ z7 = (40 : Int))) (h1 : (z14 = 0 → ¬ z1 = 0 ∨ ¬ z4 = 3 ∨ ¬ z7 = (40 : Int))) (h2 : z14 = 0) (h3 : 0 ≤ z1 ∧ z1 ≤ 4) (h4 : 0 ≤ z14 ∧ z14 ≤ 0) (h5 : 0 ≤ z4 ∧ z4 ≤ 3) (h6 : (-2147483648) ≤ z7 ∧ z7 ≤ 2147483647) : z14 = 0 := by omega
set_option maxRecDepth 4000 in
set_option maxHeartbeats 4000000 in
theorem c_X12_wayTest_Wx {l : Launch} {D : va_G} {c : Nat → ClassId} {H0 : Heap} {sa : Nat × Nat × (Nat → Int32)} {w : mW} {μ : mM} (hw : mWF w) (hT : mT w μ) {p1 : Int} (hp1 : 0 ≤ p1 ∧ p1 ≤ 3899) {Q : mM → Prop} (hQ : WP_X12_wayTest_Wx w μ p1 Q) : sC (gG l D c H0 sa) mX12_wayTest 4 0 0 [.ref 106, iv p1] (mk w μ) (qV w [106033, 106034, 106035, 106036, 106037, 106038, 106059, 137999, 138999, 139999, 142999, 143999, 144999, 145999, 146999, 147999, 148999, 149999, 150999] μ (fun μ1 => Q μ1 ∧ True)) := by
  refine sC.of rfl (by decide) (le_t rfl) ?_
  refine mr_lvE (lv' := [(0, .ref 106), (1, iv p1)]) rfl ?_
  refine sv_aload_n (pc := 0) dX12_wayTest_0 rfl rfl ?_
  refine mr_bipush (pc := 1) (z := 40) dX12_wayTest_1 (by decide) ?_
  obtain ⟨z1, q2⟩ : ∃ z, μ 106 37 = z := ⟨_, rfl⟩
  have h3 : (0 ≤ z1 ∧ z1 ≤ 4) := by rw [← q2]; exact hT 106 106 (A_106 hw) 37
  obtain ⟨z4, q5⟩ : ∃ z, μ 106 35 = z := ⟨_, rfl⟩
  have h6 : (0 ≤ z4 ∧ z4 ≤ 3) := by rw [← q5]; exact hT 106 106 (A_106 hw) 35
  obtain ⟨z7, q8⟩ : ∃ z, μ 106 36 = z := ⟨_, rfl⟩
  have h9 : ((-2147483648) ≤ z7 ∧ z7 ≤ 2147483647) := by rw [← q8]; exact hT 106 106 (A_106 hw) 36
  refine mr_cVP (pc := 3) (c_X12_isSign_W hw hT (rW (c := (-2147483648)) (d := 2147483647) (rR (x := 40)) rfl) q2 q5 q8 (((hQ z1 q2 h3) z4 q5 h6) z7 q8 h9)) (gOk _ _ _ _ _) dX12_wayTest_3 (tX12_isSign _ _ _ _ _) ⟨wV_X12_isSign, wL_X12_isSign⟩ wM_X12_244 (gCX12 _ _ _ _ _) rfl (A_106 hw) rfl ⟨le_t rfl, le_t rfl⟩ ⟨le_t rfl, le_t rfl⟩ rfl (le_t rfl) fun z14 h13 => ?_
  refine mr_if_ne (pc := 6) (tgt := 15) dX12_wayTest_6 (by decide) (r32 h13.1 rfl) (fun h15 => ?_) (fun h15 => ?_)
  · have h16 : 1 ≤ z14 ∧ z14 ≤ 1 := (vc_X12_wayTest_Wx_1 h15 h13.2.1 h13.2.2.1 h3 h13.1 h6 h9)
    have h17 : z1 = 0 ∧ z4 = 3 ∧ z7 = (40 : Int) := (h13.2.1 (vc_X12_wayTest_Wx_2 h13.2.1 h13.2.2.1 h15 h3 h16 h6 h9))
    have h18 : 0 ≤ z1 ∧ z1 ≤ 0 := (vc_X12_wayTest_Wx_3 h17 h13.2.1 h13.2.2.1 h3 h16 h6 h9)
    have h19 : 40 ≤ z7 ∧ z7 ≤ 40 := (vc_X12_wayTest_Wx_4 h17 h13.2.1 h13.2.2.1 h18 h16 h6 h9)
    have h20 : 3 ≤ z4 ∧ z4 ≤ 3 := (vc_X12_wayTest_Wx_5 h17 h13.2.1 h13.2.2.1 h18 h16 h6 h19)
    refine sv_aload_n (pc := 15) dX12_wayTest_15 rfl rfl ?_
    obtain ⟨z21, q22⟩ : ∃ z, μ 106 33 = z := ⟨_, rfl⟩
    have h23 : (0 ≤ z21 ∧ z21 ≤ 1000) := by rw [← q22]; exact hT 106 106 (A_106 hw) 33
    obtain ⟨z24, q25⟩ : ∃ z, μ 106 1 = z := ⟨_, rfl⟩
    have h26 : (0 ≤ z24 ∧ z24 ≤ 1000) := by rw [← q25]; exact hT 106 106 (A_106 hw) 1
    refine mr_cVV (pc := 16) (c_X12_next_v hw hT q2 q22 q25) (gOk _ _ _ _ _) dX12_wayTest_16 (tX12_next _ _ _ _ _) ⟨wV_X12_next, wL_X12_next⟩ wM_X12_247 (gCX12 _ _ _ _ _) rfl (A_106 hw) rfl ⟨le_t rfl, le_t rfl⟩ ⟨le_t rfl, le_t rfl⟩ rfl (le_t rfl) fun μ27 T28 F29 h30 => ?_
    obtain ⟨z31, z33, z35, z37, z39, q32, q34, q36, q38, q40, h41⟩ := h30
    have h42 : (0 ≤ z31 ∧ z31 ≤ 4) := by rw [← q32]; exact T28 106 106 (A_106 hw) 37
    have h43 : (0 ≤ z33 ∧ z33 ≤ 1000) := by rw [← q34]; exact T28 106 106 (A_106 hw) 33
    have h44 : (0 ≤ z35 ∧ z35 ≤ 1000) := by rw [← q36]; exact T28 106 106 (A_106 hw) 34
    have h45 : (0 ≤ z37 ∧ z37 ≤ 3) := by rw [← q38]; exact T28 106 106 (A_106 hw) 35
    have h46 : ((-2147483648) ≤ z39 ∧ z39 ≤ 2147483647) := by rw [← q40]; exact T28 106 106 (A_106 hw) 36
    refine sv_aload_n (pc := 19) dX12_wayTest_19 rfl rfl ?_
    refine mr_iconst (pc := 20) (z := 0) dX12_wayTest_20 ?_
    refine pf_X12_59 (pc := 21) dX12_wayTest_21 wF_X12_254 (A_106 hw) T28 (rW (c := 0) (d := 6) (rR (x := 0)) rfl) fun μ47 u48 T49 => ?_
    refine sv_aload_n (pc := 24) dX12_wayTest_24 rfl rfl ?_
    have W54 := ((((((((((((h13.2.2.2.1 h13.1).1 h15) z21 q22 h23) z24 q25 h26) μ27 F29 T28) z31 q32) z33 q34) z35 q36) z37 q38) z39 q40) h41.2.2.2.2.2.2.2.1) μ47 u48 T49)
    refine mr_cVV (pc := 25) (c_X12_openLevel_Wx hw T49 u48.1 W54) (gOk _ _ _ _ _) dX12_wayTest_25 (tX12_openLevel _ _ _ _ _) ⟨wV_X12_openLevel, wL_X12_openLevel⟩ wM_X12_285 (gCX12 _ _ _ _ _) rfl (A_106 hw) rfl ⟨le_t rfl, le_t rfl⟩ ⟨le_t rfl, le_t rfl⟩ rfl (le_t rfl) fun μ50 T51 F52 h53 => ?_
    have L816 : ∀ (nL816 : Nat) (μ815 : mM), mT w μ815 → mF [106033, 106034, 106035, 106036, 106037, 106038, 106059, 137999, 138999, 139999, 142999, 143999, 144999, 145999, 146999, 147999, 148999, 149999, 150999] w μ50 μ815 → True → loopF (WL_X12_wayTest_Wx_1 w p1 Q μ50) False nL816 (μ815) → sV (gG l D c H0 sa) mX12_wayTest (sRm 4 0 0) (sZ (gG l D c H0 sa) 0 0 (qV w [106033, 106034, 106035, 106036, 106037, 106038, 106059, 137999, 138999, 139999, 142999, 143999, 144999, 145999, 146999, 147999, 148999, 149999, 150999] μ (fun μ1 => Q μ1 ∧ True))) 28 [(0, .ref 106), (1, iv p1)] [] (mk w μ815) 0 0 := by
      intro nL816
      induction nL816 with
      | zero => intro μ815 T817 F818 h820 W821; exact False.elim W821
      | succ nL816 ih822 =>
        intro μ815 T817 F818 h820 W821
        refine sv_aload_n (pc := 28) dX12_wayTest_28 rfl rfl ?_
        refine gf_X12_37 (pc := 29) dX12_wayTest_29 wF_X12_215 (A_106 hw) T817 fun z823 q824 h825 => ?_
        refine mr_if_ne (pc := 32) (tgt := 400) dX12_wayTest_32 (by decide) (r32 h825 rfl) (fun h826 => ?_) (fun h826 => ?_)
        · have h827 : 1 ≤ z823 ∧ z823 ≤ 4 := (vc_X12_wrong_v_1 h826 h825)
          exact mr_vret dX12_wayTest_400 rfl (le_t rfl) (le_t rfl) T817 (mF.call (mF.call (mF.up (mF.call mF.refl F29 rfl) (A_106 hw) u48 rfl) F52 rfl) F818 rfl) ⟨(((W821 μ815 rfl  T817 F818) z823 q824 h825).1 h826), trivial⟩
        have h828 : 0 ≤ z823 ∧ z823 ≤ 0 := (vc_X12_wrong_v_5 h826 h825)
        refine sv_aload_n (pc := 35) dX12_wayTest_35 rfl rfl ?_
        refine gf_X12_59 (pc := 36) dX12_wayTest_36 wF_X12_254 (A_106 hw) T817 fun z829 q830 h831 => ?_
        refine mr_if_le (pc := 39) (tgt := 400) dX12_wayTest_39 (by decide) (r32 h831 rfl) (fun h832 => ?_) (fun h832 => ?_)
        · have h833 : 0 ≤ z829 ∧ z829 ≤ 0 := (vc_X12_wayTest_Wx_8 h832 h831)
          exact mr_vret dX12_wayTest_400 rfl (le_t rfl) (le_t rfl) T817 (mF.call (mF.call (mF.up (mF.call mF.refl F29 rfl) (A_106 hw) u48 rfl) F52 rfl) F818 rfl) ⟨(((((W821 μ815 rfl  T817 F818) z823 q824 h825).2 h826) z829 q830 h831).1 h832), trivial⟩
        have h834 : 1 ≤ z829 ∧ z829 ≤ 6 := (vc_X12_wayTest_Wx_9 h832 h831)
        refine sv_aload_n (pc := 42) dX12_wayTest_42 rfl rfl ?_
        refine gf_X12_35 (pc := 43) dX12_wayTest_43 wF_X12_230 (A_106 hw) T817 fun z835 q836 h837 => ?_
        refine mr_iconst (pc := 46) (z := 2) dX12_wayTest_46 ?_
        refine mr_icmp_eq (pc := 47) (tgt := 59) dX12_wayTest_47 (by decide) (r32 h837 rfl) (r32 (rR (x := 2)) rfl) (fun h838 => ?_) (fun h838 => ?_)
        · have h839 : 2 ≤ z835 ∧ z835 ≤ 2 := (vc_X10_firstWrongStep_8 h838 h837)
          refine sv_aload_n (pc := 59) dX12_wayTest_59 rfl rfl ?_
          refine gk_X12_35 (pc := 60) dX12_wayTest_60 wF_X12_230 (A_106 hw) q836 ?_
          refine mr_iconst (pc := 63) (z := 2) dX12_wayTest_63 ?_
          refine mr_icmp_ne (pc := 64) (tgt := 86) dX12_wayTest_64 (by decide) (r32 h839 rfl) (r32 (rR (x := 2)) rfl) (fun h => ((vc_X12_wayTest_Wx_11 h h839)).elim) (fun _ => ?_)
          refine sv_aload_n (pc := 67) dX12_wayTest_67 rfl rfl ?_
          refine gf_X12_36 (pc := 68) dX12_wayTest_68 wF_X12_233 (A_106 hw) T817 fun z840 q841 h842 => ?_
          refine mr_iconst (pc := 71) (z := 0) dX12_wayTest_71 ?_
          refine mr_ldcw (pc := 72) (z := 1000000) dX12_wayTest_72 wG_X12_291 (by decide) ?_
          have W848 := ((((((((W821 μ815 rfl  T817 F818) z823 q824 h825).2 h826) z829 q830 h831).2 h832) z835 q836 h837).1 h838) z840 q841 h842)
          refine mr_cSP (pc := 75) (c_X12_in_W hw T817 h842 (rW (c := (-2147483648)) (d := 2147483647) (rR (x := 0)) rfl) (rW (c := (-2147483648)) (d := 2147483647) (rR (x := 1000000)) rfl) W848) (gOk _ _ _ _ _) dX12_wayTest_75 (tX12_in _ _ _ _ _) wS_X12_in wM_X12_18 ⟨le_t rfl, le_t rfl⟩ ⟨le_t rfl, le_t rfl⟩ rfl (le_t rfl) fun z847 h846 => ?_
          have J862 : ∀ (μ858 : mM), (mT w μ858) → (mF [106037, 106038] w μ815 μ858) → ((WJ_X12_wayTest_Wx_2 w Q (loopF (WL_X12_wayTest_Wx_1 w p1 Q μ50) False nL816) μ815 z840) μ858) → sV (gG l D c H0 sa) mX12_wayTest (sRm 4 0 0) (sZ (gG l D c H0 sa) 0 0 (qV w [106033, 106034, 106035, 106036, 106037, 106038, 106059, 137999, 138999, 139999, 142999, 143999, 144999, 145999, 146999, 147999, 148999, 149999, 150999] μ (fun μ1 => Q μ1 ∧ True))) 86 [(0, .ref 106), (1, iv p1)] [] (mk w μ858) 0 0 := by
            intro μ858 T859 F860 W863
            refine sv_aload_n (pc := 86) dX12_wayTest_86 rfl rfl ?_
            refine gf_X12_55 (pc := 87) dX12_wayTest_87 wF_X12_292 (A_106 hw) T859 ?_
            refine sv_aload_n (pc := 90) dX12_wayTest_90 rfl rfl ?_
            refine gf_X12_58 (pc := 91) dX12_wayTest_91 wF_X12_278 (A_106 hw) T859 fun z864 q865 h866 => ?_
            refine la_142 (pc := 94) dX12_wayTest_94 (A_142 hw) T859 (rIx (n := 13) h866 rfl) fun z867 q868 h869 => ?_
            refine mr_bipush (pc := 95) (z := 40) dX12_wayTest_95 (by decide) ?_
            have J880 : ∀ (μ876 : mM), (mT w μ876) → (mF [106037, 106038] w μ858 μ876) → ((WJ_X12_wayTest_Wx_3 w Q (loopF (WL_X12_wayTest_Wx_1 w p1 Q μ50) False nL816) z840 μ858 z864 z867) μ876) → sV (gG l D c H0 sa) mX12_wayTest (sRm 4 0 0) (sZ (gG l D c H0 sa) 0 0 (qV w [106033, 106034, 106035, 106036, 106037, 106038, 106059, 137999, 138999, 139999, 142999, 143999, 144999, 145999, 146999, 147999, 148999, 149999, 150999] μ (fun μ1 => Q μ1 ∧ True))) 105 [(0, .ref 106), (1, iv p1)] [] (mk w μ876) 0 0 := by
              intro μ876 T877 F878 W881
              refine sv_aload_n (pc := 105) dX12_wayTest_105 rfl rfl ?_
              refine gf_X12_37 (pc := 106) dX12_wayTest_106 wF_X12_215 (A_106 hw) T877 fun z882 q883 h884 => ?_
              refine mr_if_eq (pc := 109) (tgt := 113) dX12_wayTest_109 (by decide) (r32 h884 rfl) (fun h885 => ?_) (fun h885 => ?_)
              · have h886 : 0 ≤ z882 ∧ z882 ≤ 0 := (vc_X12_wrong_v_5 h885 h884)
                refine sv_aload_n (pc := 113) dX12_wayTest_113 rfl rfl ?_
                refine gf_X12_55 (pc := 114) dX12_wayTest_114 wF_X12_292 (A_106 hw) T877 ?_
                refine sv_aload_n (pc := 117) dX12_wayTest_117 rfl rfl ?_
                refine gk_X12_58 (pc := 118) dX12_wayTest_118 wF_X12_278 (A_106 hw) (F878.f (A_106 hw) rfl q865) ?_
                refine lk_142 (pc := 121) dX12_wayTest_121 (A_142 hw) (rIx (n := 13) h866 rfl) (F878.f (A_142 hw) rfl q868) ?_
                have h887 : z867 ≤ (39 : Int) := (((W881 T877 F878) z882 q883 h884).1 h885).1
                have h888 : 0 ≤ z867 ∧ z867 ≤ 39 := (vc_X12_wayTest_Wx_13 h887 h869)
                refine mr_istore_n (pc := 122) (lv' := [(2, iv z867), (0, .ref 106), (1, iv p1)]) dX12_wayTest_122 rfl (by decide) rfl ?_
                refine sv_aload_n (pc := 123) dX12_wayTest_123 rfl rfl ?_
                refine gf_X12_56 (pc := 124) dX12_wayTest_124 wF_X12_295 (A_106 hw) T877 ?_
                refine mr_bipush (pc := 127) (z := 41) dX12_wayTest_127 (by decide) ?_
                refine sv_aload_n (pc := 129) dX12_wayTest_129 rfl rfl ?_
                refine gk_X12_58 (pc := 130) dX12_wayTest_130 wF_X12_278 (A_106 hw) (F878.f (A_106 hw) rfl q865) ?_
                refine mr_imul (pc := 133) (x := 41) (y := z864) dX12_wayTest_133 ?_
                refine mr_iload_n (pc := 134) (z := z867) dX12_wayTest_134 rfl rfl ?_
                refine mr_iadd (pc := 135) (x := (41 * z864)) (y := z867) dX12_wayTest_135 ?_
                refine sv_aload_n (pc := 136) dX12_wayTest_136 rfl rfl ?_
                refine gk_X12_35 (pc := 137) dX12_wayTest_137 wF_X12_230 (A_106 hw) (F878.f (A_106 hw) rfl (F860.f (A_106 hw) rfl q836)) ?_
                refine mr_iconst (pc := 140) (z := 2) dX12_wayTest_140 ?_
                refine mr_icmp_ne (pc := 141) (tgt := 151) dX12_wayTest_141 (by decide) (r32 h839 rfl) (r32 (rR (x := 2)) rfl) (fun h => ((vc_X12_wayTest_Wx_11 h h839)).elim) (fun _ => ?_)
                refine sv_aload_n (pc := 144) dX12_wayTest_144 rfl rfl ?_
                refine gk_X12_36 (pc := 145) dX12_wayTest_145 wF_X12_233 (A_106 hw) (F878.f (A_106 hw) rfl (F860.f (A_106 hw) rfl q841)) ?_
                refine sv_goto (pc := 148) (tgt := 152) dX12_wayTest_148 (by decide) ?_
                refine ss_143 (pc := 152) dX12_wayTest_152 (A_143 hw) T877 (rIx (n := 533) (rAdd (e := 0) (f := 531) (rMulL (n := 41) (e := 0) (f := 492) h866 rfl) h888 rfl) rfl) h842 fun μ889 u890 T891 => ?_
                refine sv_aload_n (pc := 153) dX12_wayTest_153 rfl rfl ?_
                refine gf_X12_57 (pc := 154) dX12_wayTest_154 wF_X12_275 (A_106 hw) T891 ?_
                refine mr_bipush (pc := 157) (z := 41) dX12_wayTest_157 (by decide) ?_
                refine sv_aload_n (pc := 159) dX12_wayTest_159 rfl rfl ?_
                refine gk_X12_58 (pc := 160) dX12_wayTest_160 wF_X12_278 (A_106 hw) (u890.f (Or.inl (mAt.ne (A_143 hw) (A_106 hw) rfl)) (F878.f (A_106 hw) rfl q865)) ?_
                refine mr_imul (pc := 163) (x := 41) (y := z864) dX12_wayTest_163 ?_
                refine mr_iload_n (pc := 164) (z := z867) dX12_wayTest_164 rfl rfl ?_
                refine mr_iadd (pc := 165) (x := (41 * z864)) (y := z867) dX12_wayTest_165 ?_
                refine mr_lconst (pc := 166) (z := 0) dX12_wayTest_166 (by decide) ?_
                refine ss_144 (pc := 167) dX12_wayTest_167 (A_144 hw) T891 (rIx (n := 533) (rAdd (e := 0) (f := 531) (rMulL (n := 41) (e := 0) (f := 492) h866 rfl) h888 rfl) rfl) (rW (c := -9223372036854775808) (d := 9223372036854775807) (rR (x := 0)) rfl) fun μ892 u893 T894 => ?_
                refine sv_aload_n (pc := 168) dX12_wayTest_168 rfl rfl ?_
                refine gf_X12_55 (pc := 169) dX12_wayTest_169 wF_X12_292 (A_106 hw) T894 ?_
                refine sv_aload_n (pc := 172) dX12_wayTest_172 rfl rfl ?_
                refine gk_X12_58 (pc := 173) dX12_wayTest_173 wF_X12_278 (A_106 hw) (u893.f (Or.inl (mAt.ne (A_144 hw) (A_106 hw) rfl)) (u890.f (Or.inl (mAt.ne (A_143 hw) (A_106 hw) rfl)) (F878.f (A_106 hw) rfl q865))) ?_
                refine sv_dup2 (pc := 176) dX12_wayTest_176 rfl rfl ?_
                refine lk_142 (pc := 177) dX12_wayTest_177 (A_142 hw) (rIx (n := 13) h866 rfl) (u893.f (Or.inl (mAt.ne (A_144 hw) (A_142 hw) rfl)) (u890.f (Or.inl (mAt.ne (A_143 hw) (A_142 hw) rfl)) (F878.f (A_142 hw) rfl q868))) ?_
                refine mr_iconst (pc := 178) (z := 1) dX12_wayTest_178 ?_
                refine mr_iadd (pc := 179) (x := z867) (y := 1) dX12_wayTest_179 ?_
                refine ss_142 (pc := 180) dX12_wayTest_180 (A_142 hw) T894 (rIx (n := 13) h866 rfl) (rW (c := 0) (d := 40) (rAdd (e := 1) (f := 40) h888 (rR (x := 1)) rfl) rfl) fun μ895 u896 T897 => ?_
                refine sv_aload_n (pc := 181) dX12_wayTest_181 rfl rfl ?_
                obtain ⟨z898, q899⟩ : ∃ z, μ895 106 33 = z := ⟨_, rfl⟩
                have h900 : (0 ≤ z898 ∧ z898 ≤ 1000) := by rw [← q899]; exact T897 106 106 (A_106 hw) 33
                refine mr_cVV (pc := 182) (c_X12_next_v hw T897 (u896.f (Or.inl (mAt.ne (A_142 hw) (A_106 hw) rfl)) (u893.f (Or.inl (mAt.ne (A_144 hw) (A_106 hw) rfl)) (u890.f (Or.inl (mAt.ne (A_143 hw) (A_106 hw) rfl)) q883))) q899 (u896.f (Or.inl (mAt.ne (A_142 hw) (A_106 hw) rfl)) (u893.f (Or.inl (mAt.ne (A_144 hw) (A_106 hw) rfl)) (u890.f (Or.inl (mAt.ne (A_143 hw) (A_106 hw) rfl)) (F878.f (A_106 hw) rfl (F860.f (A_106 hw) rfl (F818.f (A_106 hw) rfl (F52.f (A_106 hw) rfl (u48.f (Or.inr (by decide)) (F29.f (A_106 hw) rfl q25)))))))))) (gOk _ _ _ _ _) dX12_wayTest_182 (tX12_next _ _ _ _ _) ⟨wV_X12_next, wL_X12_next⟩ wM_X12_247 (gCX12 _ _ _ _ _) rfl (A_106 hw) rfl ⟨le_t rfl, le_t rfl⟩ ⟨le_t rfl, le_t rfl⟩ rfl (le_t rfl) fun μ901 T902 F903 h904 => ?_
                obtain ⟨z905, z907, z909, z911, z913, q906, q908, q910, q912, q914, h915⟩ := h904
                have h916 : (0 ≤ z905 ∧ z905 ≤ 4) := by rw [← q906]; exact T902 106 106 (A_106 hw) 37
                have h917 : (0 ≤ z907 ∧ z907 ≤ 1000) := by rw [← q908]; exact T902 106 106 (A_106 hw) 33
                have h918 : (0 ≤ z909 ∧ z909 ≤ 1000) := by rw [← q910]; exact T902 106 106 (A_106 hw) 34
                have h919 : (0 ≤ z911 ∧ z911 ≤ 3) := by rw [← q912]; exact T902 106 106 (A_106 hw) 35
                have h920 : ((-2147483648) ≤ z913 ∧ z913 ≤ 2147483647) := by rw [← q914]; exact T902 106 106 (A_106 hw) 36
                refine sv_aload_n (pc := 185) dX12_wayTest_185 rfl rfl ?_
                refine mr_lconst (pc := 186) (z := 1) dX12_wayTest_186 (by decide) ?_
                refine mr_iload_n (pc := 187) (z := z867) dX12_wayTest_187 rfl rfl ?_
                refine mr_lshl (pc := 188) dX12_wayTest_188 ?_
                refine mr_genL (r64i _) fun z921 q922 h923 => ?_
                refine mr_lconst (pc := 189) (z := 1) dX12_wayTest_189 (by decide) ?_
                refine mr_iload_n (pc := 190) (z := z867) dX12_wayTest_190 rfl rfl ?_
                refine mr_lshl (pc := 191) dX12_wayTest_191 ?_
                refine mr_genL (r64i _) fun z924 q925 h926 => ?_
                refine mr_iconst (pc := 192) (z := 0) dX12_wayTest_192 ?_
                have W931 := (((((((((((((((((W881 T877 F878) z882 q883 h884).1 h885).2 trivial) μ889 u890 T891) μ892 u893 T894) μ895 u896 T897) z898 q899 h900) μ901 F903 T902) z905 q906) z907 q908) z909 q910) z911 q912) z913 q914) h915.2.2.2.2.2.2.2.1) z921 q922) z924 q925)
                refine mr_cVV (pc := 193) (c_X12_piece_Wx hw T902 h923 h926 (rW (c := 0) (d := 1) (rR (x := 0)) rfl) W931) (gOk _ _ _ _ _) dX12_wayTest_193 (tX12_piece _ _ _ _ _) ⟨wV_X12_piece, wL_X12_piece⟩ wM_X12_298 (gCX12 _ _ _ _ _) rfl (A_106 hw) rfl ⟨le_t rfl, le_t rfl⟩ ⟨le_t rfl, le_t rfl⟩ rfl (le_t rfl) fun μ927 T928 F929 h930 => ?_
                refine sv_goto (pc := 196) (tgt := 28) dX12_wayTest_196 (by decide) ?_
                refine mr_lvS (lv' := [(0, .ref 106), (1, iv p1)]) (List.forall_mem_cons.mpr ⟨rfl, List.forall_mem_cons.mpr ⟨rfl, fun _ h => absurd h List.not_mem_nil⟩⟩) ?_
                exact ih822 μ927 T928 (mF.call (mF.call (mF.up (mF.up (mF.up (mF.call (mF.call (mF.call mF.refl F818 rfl) F860 rfl) F878 rfl) (A_143 hw) u890 rfl) (A_144 hw) u893 rfl) (A_142 hw) u896 rfl) F903 rfl) F929 rfl) trivial (h930.1 T928 F929)
              have h932 : 1 ≤ z882 ∧ z882 ≤ 4 := (vc_X12_wrong_v_1 h885 h884)
              exact mr_vret dX12_wayTest_112 rfl (le_t rfl) (le_t rfl) T877 (mF.call (mF.call (mF.call (mF.call (mF.up (mF.call mF.refl F29 rfl) (A_106 hw) u48 rfl) F52 rfl) F818 rfl) F860 rfl) F878 rfl) ⟨(((W881 T877 F878) z882 q883 h884).2 h885), trivial⟩
            refine mr_icmp_ne (pc := 97) (tgt := 105) dX12_wayTest_97 (by decide) (r32 h869 rfl) (r32 (rR (x := 40)) rfl) (fun h933 => ?_) (fun h933 => ?_)
            · have h934 : 0 ≤ z867 ∧ z867 ≤ 39 := (vc_X12_wayTest_Wx_15 h933 h869)
              exact J880 μ858 T859 mF.refl ((((W863 T859 F860) z864 q865 h866) z867 q868 h869).1 h933)
            have h935 : 40 ≤ z867 ∧ z867 ≤ 40 := (vc_X12_wayTest_Wx_16 h933 h869)
            refine sv_aload_n (pc := 100) dX12_wayTest_100 rfl rfl ?_
            refine mr_iconst (pc := 101) (z := 4) dX12_wayTest_101 ?_
            refine mr_cVV (pc := 102) (c_X12_wrong_Wx hw T859 (rW (c := 1) (d := 4) (rR (x := 4)) rfl) ((((W863 T859 F860) z864 q865 h866) z867 q868 h869).2 h933)) (gOk _ _ _ _ _) dX12_wayTest_102 (tX12_wrong _ _ _ _ _) ⟨wV_X12_wrong, wL_X12_wrong⟩ wM_X12_240 (gCX12 _ _ _ _ _) rfl (A_106 hw) rfl ⟨le_t rfl, le_t rfl⟩ ⟨le_t rfl, le_t rfl⟩ rfl (le_t rfl) fun μ936 T937 F938 h939 => ?_
            exact J880 μ936 T937 (mF.call mF.refl F938 rfl) (h939.1 T937 F938)
          refine mr_if_ne (pc := 78) (tgt := 86) dX12_wayTest_78 (by decide) (r32 h846.1 rfl) (fun h940 => ?_) (fun h940 => ?_)
          · have h941 : 1 ≤ z847 ∧ z847 ≤ 1 := (vc_X12_route_W_17 h940 h846.2.1 h846.2.2.1 h842 h846.1)
            have h942 : (0 : Int) ≤ z840 ∧ z840 ≤ (1000000 : Int) := (h846.2.1 (vc_X12_route_W_18 h846.2.1 h846.2.2.1 h940 h842 h941))
            have h943 : 0 ≤ z840 ∧ z840 ≤ 1000000 := (vc_X12_route_W_19 h942 h846.2.1 h846.2.2.1 h842 h941)
            exact J862 μ815 T817 mF.refl ((h846.2.2.2.1 h846.1).1 h940)
          have h944 : 0 ≤ z847 ∧ z847 ≤ 0 := (vc_X12_route_W_32 h940 h846.2.1 h846.2.2.1 h842 h846.1)
          have h945 : z840 < (0 : Int) ∨ (1000000 : Int) < z840 := (h846.2.2.1 (vc_X12_route_W_33 h846.2.1 h846.2.2.1 h940 h842 h944))
          refine sv_aload_n (pc := 81) dX12_wayTest_81 rfl rfl ?_
          refine mr_iconst (pc := 82) (z := 3) dX12_wayTest_82 ?_
          refine mr_cVV (pc := 83) (c_X12_wrong_Wx hw T817 (rW (c := 1) (d := 4) (rR (x := 3)) rfl) ((h846.2.2.2.1 h846.1).2 h940)) (gOk _ _ _ _ _) dX12_wayTest_83 (tX12_wrong _ _ _ _ _) ⟨wV_X12_wrong, wL_X12_wrong⟩ wM_X12_240 (gCX12 _ _ _ _ _) rfl (A_106 hw) rfl ⟨le_t rfl, le_t rfl⟩ ⟨le_t rfl, le_t rfl⟩ rfl (le_t rfl) fun μ946 T947 F948 h949 => ?_
          exact J862 μ946 T947 (mF.call mF.refl F948 rfl) (h949.1 T947 F948)
        refine sv_aload_n (pc := 50) dX12_wayTest_50 rfl rfl ?_
        refine mr_bipush (pc := 51) (z := 7) dX12_wayTest_51 (by decide) ?_
        obtain ⟨z950, q951⟩ : ∃ z, μ815 106 36 = z := ⟨_, rfl⟩
        have h952 : ((-2147483648) ≤ z950 ∧ z950 ≤ 2147483647) := by rw [← q951]; exact T817 106 106 (A_106 hw) 36
        have W958 := ((((((((W821 μ815 rfl  T817 F818) z823 q824 h825).2 h826) z829 q830 h831).2 h832) z835 q836 h837).2 h838) z950 q951 h952)
        refine mr_cVP (pc := 53) (c_X12_isWord_W hw T817 (rW (c := (-2147483648)) (d := 2147483647) (rR (x := 7)) rfl) q824 q836 q951 W958) (gOk _ _ _ _ _) dX12_wayTest_53 (tX12_isWord _ _ _ _ _) ⟨wV_X12_isWord, wL_X12_isWord⟩ wM_X12_288 (gCX12 _ _ _ _ _) rfl (A_106 hw) rfl ⟨le_t rfl, le_t rfl⟩ ⟨le_t rfl, le_t rfl⟩ rfl (le_t rfl) fun z957 h956 => ?_
        refine mr_if_eq (pc := 56) (tgt := 199) dX12_wayTest_56 (by decide) (r32 h956.1 rfl) (fun h959 => ?_) (fun h959 => ?_)
        · have h960 : 0 ≤ z957 ∧ z957 ≤ 0 := (vc_X12_wayTest_Wx_22 h959 h956.2.1 h956.2.2.1 h828 h837 h952 h956.1)
          have h961 : ¬ z823 = 0 ∨ ¬ z835 = 1 ∨ ¬ z950 = (7 : Int) := (h956.2.2.1 (vc_X12_wayTest_Wx_23 h956.2.1 h956.2.2.1 h959 h826 h838 h828 h837 h952 h960))
          refine sv_aload_n (pc := 199) dX12_wayTest_199 rfl rfl ?_
          refine mr_bipush (pc := 200) (z := 40) dX12_wayTest_200 (by decide) ?_
          refine mr_cVP (pc := 202) (c_X12_isSign_W hw T817 (rW (c := (-2147483648)) (d := 2147483647) (rR (x := 40)) rfl) q824 q836 q951 ((h956.2.2.2.1 h956.1).1 h959)) (gOk _ _ _ _ _) dX12_wayTest_202 (tX12_isSign _ _ _ _ _) ⟨wV_X12_isSign, wL_X12_isSign⟩ wM_X12_244 (gCX12 _ _ _ _ _) rfl (A_106 hw) rfl ⟨le_t rfl, le_t rfl⟩ ⟨le_t rfl, le_t rfl⟩ rfl (le_t rfl) fun z966 h965 => ?_
          refine mr_if_eq (pc := 205) (tgt := 241) dX12_wayTest_205 (by decide) (r32 h965.1 rfl) (fun h967 => ?_) (fun h967 => ?_)
          · have h968 : 0 ≤ z966 ∧ z966 ≤ 0 := (vc_X12_wayTest_Wx_24 h967 h965.2.1 h965.2.2.1 h828 h837 h952 h965.1)
            have h969 : ¬ z823 = 0 ∨ ¬ z835 = 3 ∨ ¬ z950 = (40 : Int) := (h965.2.2.1 (vc_X12_wayTest_Wx_25 h965.2.1 h965.2.2.1 h967 h826 h838 h956.2.1 h956.2.2.1 h961 h828 h837 h952 h960 h968))
            refine sv_aload_n (pc := 241) dX12_wayTest_241 rfl rfl ?_
            refine mr_bipush (pc := 242) (z := 124) dX12_wayTest_242 (by decide) ?_
            refine mr_cVP (pc := 244) (c_X12_isSign_W hw T817 (rW (c := (-2147483648)) (d := 2147483647) (rR (x := 124)) rfl) q824 q836 q951 ((h965.2.2.2.1 h965.1).1 h967)) (gOk _ _ _ _ _) dX12_wayTest_244 (tX12_isSign _ _ _ _ _) ⟨wV_X12_isSign, wL_X12_isSign⟩ wM_X12_244 (gCX12 _ _ _ _ _) rfl (A_106 hw) rfl ⟨le_t rfl, le_t rfl⟩ ⟨le_t rfl, le_t rfl⟩ rfl (le_t rfl) fun z974 h973 => ?_
            refine mr_if_eq (pc := 247) (tgt := 285) dX12_wayTest_247 (by decide) (r32 h973.1 rfl) (fun h975 => ?_) (fun h975 => ?_)
            · have h976 : 0 ≤ z974 ∧ z974 ≤ 0 := (vc_X12_wayTest_Wx_26 h975 h973.2.1 h973.2.2.1 h828 h837 h952 h973.1)
              have h977 : ¬ z823 = 0 ∨ ¬ z835 = 3 ∨ ¬ z950 = (124 : Int) := (h973.2.2.1 (vc_X12_wayTest_Wx_27 h973.2.1 h973.2.2.1 h975 h826 h838 h956.2.1 h956.2.2.1 h961 h965.2.1 h965.2.2.1 h969 h828 h837 h952 h960 h968 h976))
              refine sv_aload_n (pc := 285) dX12_wayTest_285 rfl rfl ?_
              refine mr_bipush (pc := 286) (z := 41) dX12_wayTest_286 (by decide) ?_
              refine mr_cVP (pc := 288) (c_X12_isSign_W hw T817 (rW (c := (-2147483648)) (d := 2147483647) (rR (x := 41)) rfl) q824 q836 q951 ((h973.2.2.2.1 h973.1).1 h975)) (gOk _ _ _ _ _) dX12_wayTest_288 (tX12_isSign _ _ _ _ _) ⟨wV_X12_isSign, wL_X12_isSign⟩ wM_X12_244 (gCX12 _ _ _ _ _) rfl (A_106 hw) rfl ⟨le_t rfl, le_t rfl⟩ ⟨le_t rfl, le_t rfl⟩ rfl (le_t rfl) fun z982 h981 => ?_
              refine mr_if_eq (pc := 291) (tgt := 392) dX12_wayTest_291 (by decide) (r32 h981.1 rfl) (fun h983 => ?_) (fun h983 => ?_)
              · have h984 : 0 ≤ z982 ∧ z982 ≤ 0 := (vc_X12_wayTest_Wx_28 h983 h981.2.1 h981.2.2.1 h828 h837 h952 h981.1)
                have h985 : ¬ z823 = 0 ∨ ¬ z835 = 3 ∨ ¬ z950 = (41 : Int) := (h981.2.2.1 (vc_X12_wayTest_Wx_29 h981.2.1 h981.2.2.1 h983 h826 h838 h956.2.1 h956.2.2.1 h961 h965.2.1 h965.2.2.1 h969 h973.2.1 h973.2.2.1 h977 h828 h837 h952 h960 h968 h976 h984))
                refine sv_aload_n (pc := 392) dX12_wayTest_392 rfl rfl ?_
                refine mr_iconst (pc := 393) (z := 2) dX12_wayTest_393 ?_
                refine mr_cVV (pc := 394) (c_X12_wrong_Wx hw T817 (rW (c := 1) (d := 4) (rR (x := 2)) rfl) ((h981.2.2.2.1 h981.1).1 h983)) (gOk _ _ _ _ _) dX12_wayTest_394 (tX12_wrong _ _ _ _ _) ⟨wV_X12_wrong, wL_X12_wrong⟩ wM_X12_240 (gCX12 _ _ _ _ _) rfl (A_106 hw) rfl ⟨le_t rfl, le_t rfl⟩ ⟨le_t rfl, le_t rfl⟩ rfl (le_t rfl) fun μ986 T987 F988 h989 => ?_
                refine sv_goto (pc := 397) (tgt := 28) dX12_wayTest_397 (by decide) ?_
                exact ih822 μ986 T987 (mF.call (mF.call mF.refl F818 rfl) F988 rfl) trivial (h989.1 T987 F988)
              have h990 : 1 ≤ z982 ∧ z982 ≤ 1 := (vc_X12_wayTest_Wx_30 h983 h981.2.1 h981.2.2.1 h828 h837 h952 h981.1)
              have h991 : z823 = 0 ∧ z835 = 3 ∧ z950 = (41 : Int) := (h981.2.1 (vc_X12_wayTest_Wx_31 h981.2.1 h981.2.2.1 h983 h826 h838 h956.2.1 h956.2.2.1 h961 h965.2.1 h965.2.2.1 h969 h973.2.1 h973.2.2.1 h977 h828 h837 h952 h960 h968 h976 h990))
              have h992 : 3 ≤ z835 ∧ z835 ≤ 3 := (vc_X12_wayTest_Wx_32 h991 h965.2.2.1 h969 h973.2.1 h973.2.2.1 h977 h981.2.1 h981.2.2.1 h828 h837 h952 h968 h976 h990)
              have h993 : 41 ≤ z950 ∧ z950 ≤ 41 := (vc_X12_wayTest_Wx_33 h991 h965.2.2.1 h969 h973.2.1 h973.2.2.1 h977 h981.2.1 h981.2.2.1 h828 h992 h952 h968 h976 h990)
              refine sv_aload_n (pc := 294) dX12_wayTest_294 rfl rfl ?_
              refine mr_cVV (pc := 295) (c_X12_endRow_Wx hw T817 q830 ((h981.2.2.2.1 h981.1).2 h983)) (gOk _ _ _ _ _) dX12_wayTest_295 (tX12_endRow _ _ _ _ _) ⟨wV_X12_endRow, wL_X12_endRow⟩ wM_X12_302 (gCX12 _ _ _ _ _) rfl (A_106 hw) rfl ⟨le_t rfl, le_t rfl⟩ ⟨le_t rfl, le_t rfl⟩ rfl (le_t rfl) fun μ994 T995 F996 h997 => ?_
              refine sv_aload_n (pc := 298) dX12_wayTest_298 rfl rfl ?_
              refine sv_dup (pc := 299) dX12_wayTest_299 rfl ?_
              refine gk_X12_59 (pc := 300) dX12_wayTest_300 wF_X12_254 (A_106 hw) (F996.f (A_106 hw) rfl q830) ?_
              refine mr_iconst (pc := 303) (z := 1) dX12_wayTest_303 ?_
              refine mr_isub (pc := 304) (x := z829) (y := 1) dX12_wayTest_304 ?_
              refine pf_X12_59 (pc := 305) dX12_wayTest_305 wF_X12_254 (A_106 hw) T995 (rW (c := 0) (d := 6) (rSub (e := 0) (f := 5) h834 (rR (x := 1)) rfl) rfl) fun μ998 u999 T1000 => ?_
              refine sv_aload_n (pc := 308) dX12_wayTest_308 rfl rfl ?_
              obtain ⟨z1001, q1002⟩ : ∃ z, μ998 106 33 = z := ⟨_, rfl⟩
              have h1003 : (0 ≤ z1001 ∧ z1001 ≤ 1000) := by rw [← q1002]; exact T1000 106 106 (A_106 hw) 33
              refine mr_cVV (pc := 309) (c_X12_next_v hw T1000 (u999.f (Or.inr (by decide)) (F996.f (A_106 hw) rfl q824)) q1002 (u999.f (Or.inr (by decide)) (F996.f (A_106 hw) rfl (F818.f (A_106 hw) rfl (F52.f (A_106 hw) rfl (u48.f (Or.inr (by decide)) (F29.f (A_106 hw) rfl q25))))))) (gOk _ _ _ _ _) dX12_wayTest_309 (tX12_next _ _ _ _ _) ⟨wV_X12_next, wL_X12_next⟩ wM_X12_247 (gCX12 _ _ _ _ _) rfl (A_106 hw) rfl ⟨le_t rfl, le_t rfl⟩ ⟨le_t rfl, le_t rfl⟩ rfl (le_t rfl) fun μ1004 T1005 F1006 h1007 => ?_
              obtain ⟨z1008, z1010, z1012, z1014, z1016, q1009, q1011, q1013, q1015, q1017, h1018⟩ := h1007
              have h1019 : (0 ≤ z1008 ∧ z1008 ≤ 4) := by rw [← q1009]; exact T1005 106 106 (A_106 hw) 37
              have h1020 : (0 ≤ z1010 ∧ z1010 ≤ 1000) := by rw [← q1011]; exact T1005 106 106 (A_106 hw) 33
              have h1021 : (0 ≤ z1012 ∧ z1012 ≤ 1000) := by rw [← q1013]; exact T1005 106 106 (A_106 hw) 34
              have h1022 : (0 ≤ z1014 ∧ z1014 ≤ 3) := by rw [← q1015]; exact T1005 106 106 (A_106 hw) 35
              have h1023 : ((-2147483648) ≤ z1016 ∧ z1016 ≤ 2147483647) := by rw [← q1017]; exact T1005 106 106 (A_106 hw) 36
              refine sv_aload_n (pc := 312) dX12_wayTest_312 rfl rfl ?_
              refine gk_X12_59 (pc := 313) dX12_wayTest_313 wF_X12_254 (A_106 hw) (F1006.f (A_106 hw) rfl u999.1) ?_
              have W1024 := ((((((((((h997.1 T995 F996) μ998 u999 T1000) z1001 q1002 h1003) μ1004 F1006 T1005) z1008 q1009) z1010 q1011) z1012 q1013) z1014 q1015) z1016 q1017) h1018.2.2.2.2.2.2.2.1)
              refine mr_if_le (pc := 316) (tgt := 353) dX12_wayTest_316 (by decide) (r32 (rSub (e := 0) (f := 5) h834 (rR (x := 1)) rfl) rfl) (fun h1025 => ?_) (fun h1025 => ?_)
              · have h1026 : 1 ≤ z829 ∧ z829 ≤ 1 := (vc_X12_wayTest_Wx_34 h1025 h832 h834)
                refine sv_aload_n (pc := 353) dX12_wayTest_353 rfl rfl ?_
                refine gf_X12_50 (pc := 354) dX12_wayTest_354 wF_X12_305 (A_106 hw) T1005 ?_
                refine mr_iload_n (pc := 357) (z := p1) dX12_wayTest_357 rfl rfl ?_
                refine sv_aload_n (pc := 358) dX12_wayTest_358 rfl rfl ?_
                refine gf_X12_60 (pc := 359) dX12_wayTest_359 wF_X12_250 (A_106 hw) T1005 ?_
                refine mr_iconst (pc := 362) (z := 0) dX12_wayTest_362 ?_
                refine la_145 (pc := 363) dX12_wayTest_363 (A_145 hw) T1005 (rIx (n := 10) (rR (x := 0)) rfl) fun z1027 q1028 h1029 => ?_
                refine ss_137 (pc := 364) dX12_wayTest_364 (A_137 hw) T1005 (rIx (n := 3900) hp1 rfl) h1029 fun μ1030 u1031 T1032 => ?_
                refine sv_aload_n (pc := 365) dX12_wayTest_365 rfl rfl ?_
                refine gf_X12_51 (pc := 366) dX12_wayTest_366 wF_X12_308 (A_106 hw) T1032 ?_
                refine mr_iload_n (pc := 369) (z := p1) dX12_wayTest_369 rfl rfl ?_
                refine sv_aload_n (pc := 370) dX12_wayTest_370 rfl rfl ?_
                refine gf_X12_61 (pc := 371) dX12_wayTest_371 wF_X12_257 (A_106 hw) T1032 ?_
                refine mr_iconst (pc := 374) (z := 0) dX12_wayTest_374 ?_
                refine la_146 (pc := 375) dX12_wayTest_375 (A_146 hw) T1032 (rIx (n := 10) (rR (x := 0)) rfl) fun z1033 q1034 h1035 => ?_
                refine ss_138 (pc := 376) dX12_wayTest_376 (A_138 hw) T1032 (rIx (n := 3900) hp1 rfl) h1035 fun μ1036 u1037 T1038 => ?_
                refine sv_aload_n (pc := 377) dX12_wayTest_377 rfl rfl ?_
                refine gf_X12_52 (pc := 378) dX12_wayTest_378 wF_X12_311 (A_106 hw) T1038 ?_
                refine mr_iload_n (pc := 381) (z := p1) dX12_wayTest_381 rfl rfl ?_
                refine sv_aload_n (pc := 382) dX12_wayTest_382 rfl rfl ?_
                refine gf_X12_62 (pc := 383) dX12_wayTest_383 wF_X12_260 (A_106 hw) T1038 ?_
                refine mr_iconst (pc := 386) (z := 0) dX12_wayTest_386 ?_
                refine la_147 (pc := 387) dX12_wayTest_387 (A_147 hw) T1038 (rIx (n := 10) (rR (x := 0)) rfl) fun z1039 q1040 h1041 => ?_
                refine ss_139 (pc := 388) dX12_wayTest_388 (A_139 hw) T1038 (rIx (n := 3900) hp1 rfl) h1041 fun μ1042 u1043 T1044 => ?_
                refine sv_goto (pc := 389) (tgt := 28) dX12_wayTest_389 (by decide) ?_
                exact ih822 μ1042 T1044 (mF.up (mF.up (mF.up (mF.call (mF.up (mF.call (mF.call mF.refl F818 rfl) F996 rfl) (A_106 hw) u999 rfl) F1006 rfl) (A_137 hw) u1031 rfl) (A_138 hw) u1037 rfl) (A_139 hw) u1043 rfl) trivial (((((((W1024.1 h1025) z1027 q1028 h1029) μ1030 u1031 T1032) z1033 q1034 h1035) μ1036 u1037 T1038) z1039 q1040 h1041) μ1042 u1043 T1044)
              have h1045 : 2 ≤ z829 ∧ z829 ≤ 6 := (vc_X12_wayTest_Wx_35 h1025 h832 h834)
              refine sv_aload_n (pc := 319) dX12_wayTest_319 rfl rfl ?_
              refine sv_aload_n (pc := 320) dX12_wayTest_320 rfl rfl ?_
              refine gf_X12_60 (pc := 321) dX12_wayTest_321 wF_X12_250 (A_106 hw) T1005 ?_
              refine sv_aload_n (pc := 324) dX12_wayTest_324 rfl rfl ?_
              refine gk_X12_59 (pc := 325) dX12_wayTest_325 wF_X12_254 (A_106 hw) (F1006.f (A_106 hw) rfl u999.1) ?_
              refine la_145 (pc := 328) dX12_wayTest_328 (A_145 hw) T1005 (rIx (n := 10) (rSub (e := 1) (f := 5) h1045 (rR (x := 1)) rfl) rfl) fun z1046 q1047 h1048 => ?_
              refine sv_aload_n (pc := 329) dX12_wayTest_329 rfl rfl ?_
              refine gf_X12_61 (pc := 330) dX12_wayTest_330 wF_X12_257 (A_106 hw) T1005 ?_
              refine sv_aload_n (pc := 333) dX12_wayTest_333 rfl rfl ?_
              refine gk_X12_59 (pc := 334) dX12_wayTest_334 wF_X12_254 (A_106 hw) (F1006.f (A_106 hw) rfl u999.1) ?_
              refine la_146 (pc := 337) dX12_wayTest_337 (A_146 hw) T1005 (rIx (n := 10) (rSub (e := 1) (f := 5) h1045 (rR (x := 1)) rfl) rfl) fun z1049 q1050 h1051 => ?_
              refine sv_aload_n (pc := 338) dX12_wayTest_338 rfl rfl ?_
              refine gf_X12_62 (pc := 339) dX12_wayTest_339 wF_X12_260 (A_106 hw) T1005 ?_
              refine sv_aload_n (pc := 342) dX12_wayTest_342 rfl rfl ?_
              refine gk_X12_59 (pc := 343) dX12_wayTest_343 wF_X12_254 (A_106 hw) (F1006.f (A_106 hw) rfl u999.1) ?_
              refine la_147 (pc := 346) dX12_wayTest_346 (A_147 hw) T1005 (rIx (n := 10) (rSub (e := 1) (f := 5) h1045 (rR (x := 1)) rfl) rfl) fun z1052 q1053 h1054 => ?_
              refine mr_cVV (pc := 347) (c_X12_piece_Wx hw T1005 h1048 h1051 h1054 ((((W1024.2 h1025) z1046 q1047 h1048) z1049 q1050 h1051) z1052 q1053 h1054)) (gOk _ _ _ _ _) dX12_wayTest_347 (tX12_piece _ _ _ _ _) ⟨wV_X12_piece, wL_X12_piece⟩ wM_X12_298 (gCX12 _ _ _ _ _) rfl (A_106 hw) rfl ⟨le_t rfl, le_t rfl⟩ ⟨le_t rfl, le_t rfl⟩ rfl (le_t rfl) fun μ1055 T1056 F1057 h1058 => ?_
              refine sv_goto (pc := 350) (tgt := 28) dX12_wayTest_350 (by decide) ?_
              exact ih822 μ1055 T1056 (mF.call (mF.call (mF.up (mF.call (mF.call mF.refl F818 rfl) F996 rfl) (A_106 hw) u999 rfl) F1006 rfl) F1057 rfl) trivial (h1058.1 T1056 F1057)
            have h1059 : 1 ≤ z974 ∧ z974 ≤ 1 := (vc_X12_wayTest_Wx_36 h975 h973.2.1 h973.2.2.1 h828 h837 h952 h973.1)
            have h1060 : z823 = 0 ∧ z835 = 3 ∧ z950 = (124 : Int) := (h973.2.1 (vc_X12_wayTest_Wx_37 h973.2.1 h973.2.2.1 h975 h826 h838 h956.2.1 h956.2.2.1 h961 h965.2.1 h965.2.2.1 h969 h828 h837 h952 h960 h968 h1059))
            have h1061 : 3 ≤ z835 ∧ z835 ≤ 3 := (vc_X12_wayTest_Wx_38 h1060 h956.2.2.1 h961 h965.2.1 h965.2.2.1 h969 h973.2.1 h973.2.2.1 h828 h837 h952 h960 h968 h1059)
            have h1062 : 124 ≤ z950 ∧ z950 ≤ 124 := (vc_X12_wayTest_Wx_39 h1060 h956.2.2.1 h961 h965.2.1 h965.2.2.1 h969 h973.2.1 h973.2.2.1 h828 h1061 h952 h960 h968 h1059)
            refine sv_aload_n (pc := 250) dX12_wayTest_250 rfl rfl ?_
            refine mr_cVV (pc := 251) (c_X12_endRow_Wx hw T817 q830 ((h973.2.2.2.1 h973.1).2 h975)) (gOk _ _ _ _ _) dX12_wayTest_251 (tX12_endRow _ _ _ _ _) ⟨wV_X12_endRow, wL_X12_endRow⟩ wM_X12_302 (gCX12 _ _ _ _ _) rfl (A_106 hw) rfl ⟨le_t rfl, le_t rfl⟩ ⟨le_t rfl, le_t rfl⟩ rfl (le_t rfl) fun μ1063 T1064 F1065 h1066 => ?_
            refine sv_aload_n (pc := 254) dX12_wayTest_254 rfl rfl ?_
            refine sv_dup (pc := 255) dX12_wayTest_255 rfl ?_
            refine gk_X12_59 (pc := 256) dX12_wayTest_256 wF_X12_254 (A_106 hw) (F1065.f (A_106 hw) rfl q830) ?_
            refine mr_iconst (pc := 259) (z := 1) dX12_wayTest_259 ?_
            refine mr_isub (pc := 260) (x := z829) (y := 1) dX12_wayTest_260 ?_
            refine pf_X12_59 (pc := 261) dX12_wayTest_261 wF_X12_254 (A_106 hw) T1064 (rW (c := 0) (d := 6) (rSub (e := 0) (f := 5) h834 (rR (x := 1)) rfl) rfl) fun μ1067 u1068 T1069 => ?_
            refine sv_aload_n (pc := 264) dX12_wayTest_264 rfl rfl ?_
            refine mr_cVV (pc := 265) (c_X12_freshRow_W hw T1069 ((h1066.1 T1064 F1065) μ1067 u1068 T1069)) (gOk _ _ _ _ _) dX12_wayTest_265 (tX12_freshRow _ _ _ _ _) ⟨wV_X12_freshRow, wL_X12_freshRow⟩ wM_X12_263 (gCX12 _ _ _ _ _) rfl (A_106 hw) rfl ⟨le_t rfl, le_t rfl⟩ ⟨le_t rfl, le_t rfl⟩ rfl (le_t rfl) fun μ1070 T1071 F1072 h1073 => ?_
            refine sv_aload_n (pc := 268) dX12_wayTest_268 rfl rfl ?_
            refine sv_dup (pc := 269) dX12_wayTest_269 rfl ?_
            refine gk_X12_59 (pc := 270) dX12_wayTest_270 wF_X12_254 (A_106 hw) (F1072.f (A_106 hw) rfl u1068.1) ?_
            refine mr_iconst (pc := 273) (z := 1) dX12_wayTest_273 ?_
            refine mr_iadd (pc := 274) (x := (z829 - 1)) (y := 1) dX12_wayTest_274 ?_
            refine pf_X12_59 (pc := 275) dX12_wayTest_275 wF_X12_254 (A_106 hw) T1071 (rW (c := 0) (d := 6) (rAdd (e := 1) (f := 6) (rSub (e := 0) (f := 5) h834 (rR (x := 1)) rfl) (rR (x := 1)) rfl) rfl) fun μ1074 u1075 T1076 => ?_
            refine sv_aload_n (pc := 278) dX12_wayTest_278 rfl rfl ?_
            obtain ⟨z1077, q1078⟩ : ∃ z, μ1074 106 33 = z := ⟨_, rfl⟩
            have h1079 : (0 ≤ z1077 ∧ z1077 ≤ 1000) := by rw [← q1078]; exact T1076 106 106 (A_106 hw) 33
            refine mr_cVV (pc := 279) (c_X12_next_v hw T1076 (u1075.f (Or.inr (by decide)) (F1072.f (A_106 hw) rfl (u1068.f (Or.inr (by decide)) (F1065.f (A_106 hw) rfl q824)))) q1078 (u1075.f (Or.inr (by decide)) (F1072.f (A_106 hw) rfl (u1068.f (Or.inr (by decide)) (F1065.f (A_106 hw) rfl (F818.f (A_106 hw) rfl (F52.f (A_106 hw) rfl (u48.f (Or.inr (by decide)) (F29.f (A_106 hw) rfl q25))))))))) (gOk _ _ _ _ _) dX12_wayTest_279 (tX12_next _ _ _ _ _) ⟨wV_X12_next, wL_X12_next⟩ wM_X12_247 (gCX12 _ _ _ _ _) rfl (A_106 hw) rfl ⟨le_t rfl, le_t rfl⟩ ⟨le_t rfl, le_t rfl⟩ rfl (le_t rfl) fun μ1080 T1081 F1082 h1083 => ?_
            obtain ⟨z1084, z1086, z1088, z1090, z1092, q1085, q1087, q1089, q1091, q1093, h1094⟩ := h1083
            have h1095 : (0 ≤ z1084 ∧ z1084 ≤ 4) := by rw [← q1085]; exact T1081 106 106 (A_106 hw) 37
            have h1096 : (0 ≤ z1086 ∧ z1086 ≤ 1000) := by rw [← q1087]; exact T1081 106 106 (A_106 hw) 33
            have h1097 : (0 ≤ z1088 ∧ z1088 ≤ 1000) := by rw [← q1089]; exact T1081 106 106 (A_106 hw) 34
            have h1098 : (0 ≤ z1090 ∧ z1090 ≤ 3) := by rw [← q1091]; exact T1081 106 106 (A_106 hw) 35
            have h1099 : ((-2147483648) ≤ z1092 ∧ z1092 ≤ 2147483647) := by rw [← q1093]; exact T1081 106 106 (A_106 hw) 36
            refine sv_goto (pc := 282) (tgt := 28) dX12_wayTest_282 (by decide) ?_
            exact ih822 μ1080 T1081 (mF.call (mF.up (mF.call (mF.up (mF.call (mF.call mF.refl F818 rfl) F1065 rfl) (A_106 hw) u1068 rfl) F1072 rfl) (A_106 hw) u1075 rfl) F1082 rfl) trivial ((((((((((h1073.1 T1071 F1072) μ1074 u1075 T1076) z1077 q1078 h1079) μ1080 F1082 T1081) z1084 q1085) z1086 q1087) z1088 q1089) z1090 q1091) z1092 q1093) h1094.2.2.2.2.2.2.2.1)
          have h1100 : 1 ≤ z966 ∧ z966 ≤ 1 := (vc_X12_wayTest_Wx_40 h967 h965.2.1 h965.2.2.1 h828 h837 h952 h965.1)
          have h1101 : z823 = 0 ∧ z835 = 3 ∧ z950 = (40 : Int) := (h965.2.1 (vc_X12_wayTest_Wx_41 h965.2.1 h965.2.2.1 h967 h826 h838 h956.2.1 h956.2.2.1 h961 h828 h837 h952 h960 h1100))
          have h1102 : 3 ≤ z835 ∧ z835 ≤ 3 := (vc_X12_wayTest_Wx_42 h1101 h826 h838 h956.2.1 h956.2.2.1 h961 h965.2.1 h965.2.2.1 h828 h837 h952 h960 h1100)
          have h1103 : 40 ≤ z950 ∧ z950 ≤ 40 := (vc_X12_wayTest_Wx_43 h1101 h826 h838 h956.2.1 h956.2.2.1 h961 h965.2.1 h965.2.2.1 h828 h1102 h952 h960 h1100)
          refine sv_aload_n (pc := 208) dX12_wayTest_208 rfl rfl ?_
          refine gk_X12_59 (pc := 209) dX12_wayTest_209 wF_X12_254 (A_106 hw) q830 ?_
          refine mr_bipush (pc := 212) (z := 6) dX12_wayTest_212 (by decide) ?_
          refine mr_icmp_lt (pc := 214) (tgt := 222) dX12_wayTest_214 (by decide) (r32 h834 rfl) (r32 (rR (x := 6)) rfl) (fun h1110 => ?_) (fun h1110 => ?_)
          · have h1111 : 1 ≤ z829 ∧ z829 ≤ 5 := (vc_X12_wayTest_Wx_44 h1110 h832 h834)
            refine sv_aload_n (pc := 222) dX12_wayTest_222 rfl rfl ?_
            refine gk_X12_37 (pc := 223) dX12_wayTest_223 wF_X12_215 (A_106 hw) q824 ?_
            refine mr_if_eq (pc := 226) (tgt := 230) dX12_wayTest_226 (by decide) (r32 h828 rfl) (fun _ => ?_) (fun h => ((vc_X10_firstWrongStep_7 h h828)).elim)
            refine sv_aload_n (pc := 230) dX12_wayTest_230 rfl rfl ?_
            refine mr_cVV (pc := 231) (c_X12_openLevel_Wx hw T817 q830 (((h965.2.2.2.1 h965.1).2 h967).1 h1110)) (gOk _ _ _ _ _) dX12_wayTest_231 (tX12_openLevel _ _ _ _ _) ⟨wV_X12_openLevel, wL_X12_openLevel⟩ wM_X12_285 (gCX12 _ _ _ _ _) rfl (A_106 hw) rfl ⟨le_t rfl, le_t rfl⟩ ⟨le_t rfl, le_t rfl⟩ rfl (le_t rfl) fun μ1112 T1113 F1114 h1115 => ?_
            refine sv_aload_n (pc := 234) dX12_wayTest_234 rfl rfl ?_
            obtain ⟨z1116, q1117⟩ : ∃ z, μ1112 106 33 = z := ⟨_, rfl⟩
            have h1118 : (0 ≤ z1116 ∧ z1116 ≤ 1000) := by rw [← q1117]; exact T1113 106 106 (A_106 hw) 33
            refine mr_cVV (pc := 235) (c_X12_next_v hw T1113 (F1114.f (A_106 hw) rfl q824) q1117 (F1114.f (A_106 hw) rfl (F818.f (A_106 hw) rfl (F52.f (A_106 hw) rfl (u48.f (Or.inr (by decide)) (F29.f (A_106 hw) rfl q25)))))) (gOk _ _ _ _ _) dX12_wayTest_235 (tX12_next _ _ _ _ _) ⟨wV_X12_next, wL_X12_next⟩ wM_X12_247 (gCX12 _ _ _ _ _) rfl (A_106 hw) rfl ⟨le_t rfl, le_t rfl⟩ ⟨le_t rfl, le_t rfl⟩ rfl (le_t rfl) fun μ1119 T1120 F1121 h1122 => ?_
            obtain ⟨z1123, z1125, z1127, z1129, z1131, q1124, q1126, q1128, q1130, q1132, h1133⟩ := h1122
            have h1134 : (0 ≤ z1123 ∧ z1123 ≤ 4) := by rw [← q1124]; exact T1120 106 106 (A_106 hw) 37
            have h1135 : (0 ≤ z1125 ∧ z1125 ≤ 1000) := by rw [← q1126]; exact T1120 106 106 (A_106 hw) 33
            have h1136 : (0 ≤ z1127 ∧ z1127 ≤ 1000) := by rw [← q1128]; exact T1120 106 106 (A_106 hw) 34
            have h1137 : (0 ≤ z1129 ∧ z1129 ≤ 3) := by rw [← q1130]; exact T1120 106 106 (A_106 hw) 35
            have h1138 : ((-2147483648) ≤ z1131 ∧ z1131 ≤ 2147483647) := by rw [← q1132]; exact T1120 106 106 (A_106 hw) 36
            refine sv_goto (pc := 238) (tgt := 28) dX12_wayTest_238 (by decide) ?_
            exact ih822 μ1119 T1120 (mF.call (mF.call (mF.call mF.refl F818 rfl) F1114 rfl) F1121 rfl) trivial (((((((((h1115.1 T1113 F1114) z1116 q1117 h1118) μ1119 F1121 T1120) z1123 q1124) z1125 q1126) z1127 q1128) z1129 q1130) z1131 q1132) h1133.2.2.2.2.2.2.2.1)
          have h1139 : 6 ≤ z829 ∧ z829 ≤ 6 := (vc_X12_wayTest_Wx_46 h1110 h832 h834)
          refine sv_aload_n (pc := 217) dX12_wayTest_217 rfl rfl ?_
          refine mr_iconst (pc := 218) (z := 4) dX12_wayTest_218 ?_
          refine mr_cVV (pc := 219) (c_X12_wrong_Wx hw T817 (rW (c := 1) (d := 4) (rR (x := 4)) rfl) (((h965.2.2.2.1 h965.1).2 h967).2 h1110)) (gOk _ _ _ _ _) dX12_wayTest_219 (tX12_wrong _ _ _ _ _) ⟨wV_X12_wrong, wL_X12_wrong⟩ wM_X12_240 (gCX12 _ _ _ _ _) rfl (A_106 hw) rfl ⟨le_t rfl, le_t rfl⟩ ⟨le_t rfl, le_t rfl⟩ rfl (le_t rfl) fun μ1140 T1141 F1142 h1143 => ?_
          refine sv_aload_n (pc := 222) dX12_wayTest_222 rfl rfl ?_
          refine gf_X12_37 (pc := 223) dX12_wayTest_223 wF_X12_215 (A_106 hw) T1141 fun z1144 q1145 h1146 => ?_
          refine mr_if_eq (pc := 226) (tgt := 230) dX12_wayTest_226 (by decide) (r32 h1146 rfl) (fun h1147 => ?_) (fun h1147 => ?_)
          · have h1148 : 0 ≤ z1144 ∧ z1144 ≤ 0 := (vc_X12_wrong_v_5 h1147 h1146)
            refine sv_aload_n (pc := 230) dX12_wayTest_230 rfl rfl ?_
            refine mr_cVV (pc := 231) (c_X12_openLevel_Wx hw T1141 (F1142.f (A_106 hw) rfl q830) (((h1143.1 T1141 F1142) z1144 q1145 h1146).1 h1147)) (gOk _ _ _ _ _) dX12_wayTest_231 (tX12_openLevel _ _ _ _ _) ⟨wV_X12_openLevel, wL_X12_openLevel⟩ wM_X12_285 (gCX12 _ _ _ _ _) rfl (A_106 hw) rfl ⟨le_t rfl, le_t rfl⟩ ⟨le_t rfl, le_t rfl⟩ rfl (le_t rfl) fun μ1149 T1150 F1151 h1152 => ?_
            refine sv_aload_n (pc := 234) dX12_wayTest_234 rfl rfl ?_
            obtain ⟨z1153, q1154⟩ : ∃ z, μ1149 106 33 = z := ⟨_, rfl⟩
            have h1155 : (0 ≤ z1153 ∧ z1153 ≤ 1000) := by rw [← q1154]; exact T1150 106 106 (A_106 hw) 33
            refine mr_cVV (pc := 235) (c_X12_next_v hw T1150 (F1151.f (A_106 hw) rfl q1145) q1154 (F1151.f (A_106 hw) rfl (F1142.f (A_106 hw) rfl (F818.f (A_106 hw) rfl (F52.f (A_106 hw) rfl (u48.f (Or.inr (by decide)) (F29.f (A_106 hw) rfl q25))))))) (gOk _ _ _ _ _) dX12_wayTest_235 (tX12_next _ _ _ _ _) ⟨wV_X12_next, wL_X12_next⟩ wM_X12_247 (gCX12 _ _ _ _ _) rfl (A_106 hw) rfl ⟨le_t rfl, le_t rfl⟩ ⟨le_t rfl, le_t rfl⟩ rfl (le_t rfl) fun μ1156 T1157 F1158 h1159 => ?_
            obtain ⟨z1160, z1162, z1164, z1166, z1168, q1161, q1163, q1165, q1167, q1169, h1170⟩ := h1159
            have h1171 : (0 ≤ z1160 ∧ z1160 ≤ 4) := by rw [← q1161]; exact T1157 106 106 (A_106 hw) 37
            have h1172 : (0 ≤ z1162 ∧ z1162 ≤ 1000) := by rw [← q1163]; exact T1157 106 106 (A_106 hw) 33
            have h1173 : (0 ≤ z1164 ∧ z1164 ≤ 1000) := by rw [← q1165]; exact T1157 106 106 (A_106 hw) 34
            have h1174 : (0 ≤ z1166 ∧ z1166 ≤ 3) := by rw [← q1167]; exact T1157 106 106 (A_106 hw) 35
            have h1175 : ((-2147483648) ≤ z1168 ∧ z1168 ≤ 2147483647) := by rw [← q1169]; exact T1157 106 106 (A_106 hw) 36
            refine sv_goto (pc := 238) (tgt := 28) dX12_wayTest_238 (by decide) ?_
            exact ih822 μ1156 T1157 (mF.call (mF.call (mF.call (mF.call mF.refl F818 rfl) F1142 rfl) F1151 rfl) F1158 rfl) trivial (((((((((h1152.1 T1150 F1151) z1153 q1154 h1155) μ1156 F1158 T1157) z1160 q1161) z1162 q1163) z1164 q1165) z1166 q1167) z1168 q1169) h1170.2.2.2.2.2.2.2.1)
          have h1176 : 1 ≤ z1144 ∧ z1144 ≤ 4 := (vc_X12_wrong_v_1 h1147 h1146)
          exact mr_vret dX12_wayTest_229 rfl (le_t rfl) (le_t rfl) T1141 (mF.call (mF.call (mF.call (mF.up (mF.call mF.refl F29 rfl) (A_106 hw) u48 rfl) F52 rfl) F818 rfl) F1142 rfl) ⟨(((h1143.1 T1141 F1142) z1144 q1145 h1146).2 h1147), trivial⟩
        have h1177 : 1 ≤ z957 ∧ z957 ≤ 1 := (vc_X12_wayTest_Wx_49 h959 h956.2.1 h956.2.2.1 h828 h837 h952 h956.1)
        have h1178 : z823 = 0 ∧ z835 = 1 ∧ z950 = (7 : Int) := (h956.2.1 (vc_X12_wayTest_Wx_50 h956.2.1 h956.2.2.1 h959 h826 h838 h828 h837 h952 h1177))
        have h1179 : 1 ≤ z835 ∧ z835 ≤ 1 := (vc_X12_wayTest_Wx_51 h1178 h826 h838 h956.2.1 h956.2.2.1 h828 h837 h952 h1177)
        have h1180 : 7 ≤ z950 ∧ z950 ≤ 7 := (vc_X12_wayTest_Wx_52 h1178 h826 h838 h956.2.1 h956.2.2.1 h828 h1179 h952 h1177)
        refine sv_aload_n (pc := 59) dX12_wayTest_59 rfl rfl ?_
        refine gk_X12_35 (pc := 60) dX12_wayTest_60 wF_X12_230 (A_106 hw) q836 ?_
        refine mr_iconst (pc := 63) (z := 2) dX12_wayTest_63 ?_
        refine mr_icmp_ne (pc := 64) (tgt := 86) dX12_wayTest_64 (by decide) (r32 h1179 rfl) (r32 (rR (x := 2)) rfl) (fun _ => ?_) (fun h => ((vc_X12_wayTest_Wx_53 h h1179)).elim)
        refine sv_aload_n (pc := 86) dX12_wayTest_86 rfl rfl ?_
        refine gf_X12_55 (pc := 87) dX12_wayTest_87 wF_X12_292 (A_106 hw) T817 ?_
        refine sv_aload_n (pc := 90) dX12_wayTest_90 rfl rfl ?_
        refine gf_X12_58 (pc := 91) dX12_wayTest_91 wF_X12_278 (A_106 hw) T817 fun z1181 q1182 h1183 => ?_
        refine la_142 (pc := 94) dX12_wayTest_94 (A_142 hw) T817 (rIx (n := 13) h1183 rfl) fun z1184 q1185 h1186 => ?_
        refine mr_bipush (pc := 95) (z := 40) dX12_wayTest_95 (by decide) ?_
        have J1197 : ∀ (μ1193 : mM), (mT w μ1193) → (mF [106037, 106038] w μ815 μ1193) → ((WJ_X12_wayTest_Wx_4 w Q (loopF (WL_X12_wayTest_Wx_1 w p1 Q μ50) False nL816) μ815 z1181 z1184) μ1193) → sV (gG l D c H0 sa) mX12_wayTest (sRm 4 0 0) (sZ (gG l D c H0 sa) 0 0 (qV w [106033, 106034, 106035, 106036, 106037, 106038, 106059, 137999, 138999, 139999, 142999, 143999, 144999, 145999, 146999, 147999, 148999, 149999, 150999] μ (fun μ1 => Q μ1 ∧ True))) 105 [(0, .ref 106), (1, iv p1)] [] (mk w μ1193) 0 0 := by
          intro μ1193 T1194 F1195 W1198
          refine sv_aload_n (pc := 105) dX12_wayTest_105 rfl rfl ?_
          refine gf_X12_37 (pc := 106) dX12_wayTest_106 wF_X12_215 (A_106 hw) T1194 fun z1199 q1200 h1201 => ?_
          refine mr_if_eq (pc := 109) (tgt := 113) dX12_wayTest_109 (by decide) (r32 h1201 rfl) (fun h1202 => ?_) (fun h1202 => ?_)
          · have h1203 : 0 ≤ z1199 ∧ z1199 ≤ 0 := (vc_X12_wrong_v_5 h1202 h1201)
            refine sv_aload_n (pc := 113) dX12_wayTest_113 rfl rfl ?_
            refine gf_X12_55 (pc := 114) dX12_wayTest_114 wF_X12_292 (A_106 hw) T1194 ?_
            refine sv_aload_n (pc := 117) dX12_wayTest_117 rfl rfl ?_
            refine gk_X12_58 (pc := 118) dX12_wayTest_118 wF_X12_278 (A_106 hw) (F1195.f (A_106 hw) rfl q1182) ?_
            refine lk_142 (pc := 121) dX12_wayTest_121 (A_142 hw) (rIx (n := 13) h1183 rfl) (F1195.f (A_142 hw) rfl q1185) ?_
            have h1204 : z1184 ≤ (39 : Int) := (((W1198 T1194 F1195) z1199 q1200 h1201).1 h1202).1
            have h1205 : 0 ≤ z1184 ∧ z1184 ≤ 39 := (vc_X12_wayTest_Wx_13 h1204 h1186)
            refine mr_istore_n (pc := 122) (lv' := [(2, iv z1184), (0, .ref 106), (1, iv p1)]) dX12_wayTest_122 rfl (by decide) rfl ?_
            refine sv_aload_n (pc := 123) dX12_wayTest_123 rfl rfl ?_
            refine gf_X12_56 (pc := 124) dX12_wayTest_124 wF_X12_295 (A_106 hw) T1194 ?_
            refine mr_bipush (pc := 127) (z := 41) dX12_wayTest_127 (by decide) ?_
            refine sv_aload_n (pc := 129) dX12_wayTest_129 rfl rfl ?_
            refine gk_X12_58 (pc := 130) dX12_wayTest_130 wF_X12_278 (A_106 hw) (F1195.f (A_106 hw) rfl q1182) ?_
            refine mr_imul (pc := 133) (x := 41) (y := z1181) dX12_wayTest_133 ?_
            refine mr_iload_n (pc := 134) (z := z1184) dX12_wayTest_134 rfl rfl ?_
            refine mr_iadd (pc := 135) (x := (41 * z1181)) (y := z1184) dX12_wayTest_135 ?_
            refine sv_aload_n (pc := 136) dX12_wayTest_136 rfl rfl ?_
            refine gk_X12_35 (pc := 137) dX12_wayTest_137 wF_X12_230 (A_106 hw) (F1195.f (A_106 hw) rfl q836) ?_
            refine mr_iconst (pc := 140) (z := 2) dX12_wayTest_140 ?_
            refine mr_icmp_ne (pc := 141) (tgt := 151) dX12_wayTest_141 (by decide) (r32 h1179 rfl) (r32 (rR (x := 2)) rfl) (fun _ => ?_) (fun h => ((vc_X12_wayTest_Wx_53 h h1179)).elim)
            refine mr_iconst (pc := 151) (z := (-1)) dX12_wayTest_151 ?_
            refine ss_143 (pc := 152) dX12_wayTest_152 (A_143 hw) T1194 (rIx (n := 533) (rAdd (e := 0) (f := 531) (rMulL (n := 41) (e := 0) (f := 492) h1183 rfl) h1205 rfl) rfl) (rW (c := (-2147483648)) (d := 2147483647) (rR (x := (-1))) rfl) fun μ1206 u1207 T1208 => ?_
            refine sv_aload_n (pc := 153) dX12_wayTest_153 rfl rfl ?_
            refine gf_X12_57 (pc := 154) dX12_wayTest_154 wF_X12_275 (A_106 hw) T1208 ?_
            refine mr_bipush (pc := 157) (z := 41) dX12_wayTest_157 (by decide) ?_
            refine sv_aload_n (pc := 159) dX12_wayTest_159 rfl rfl ?_
            refine gk_X12_58 (pc := 160) dX12_wayTest_160 wF_X12_278 (A_106 hw) (u1207.f (Or.inl (mAt.ne (A_143 hw) (A_106 hw) rfl)) (F1195.f (A_106 hw) rfl q1182)) ?_
            refine mr_imul (pc := 163) (x := 41) (y := z1181) dX12_wayTest_163 ?_
            refine mr_iload_n (pc := 164) (z := z1184) dX12_wayTest_164 rfl rfl ?_
            refine mr_iadd (pc := 165) (x := (41 * z1181)) (y := z1184) dX12_wayTest_165 ?_
            refine mr_lconst (pc := 166) (z := 0) dX12_wayTest_166 (by decide) ?_
            refine ss_144 (pc := 167) dX12_wayTest_167 (A_144 hw) T1208 (rIx (n := 533) (rAdd (e := 0) (f := 531) (rMulL (n := 41) (e := 0) (f := 492) h1183 rfl) h1205 rfl) rfl) (rW (c := -9223372036854775808) (d := 9223372036854775807) (rR (x := 0)) rfl) fun μ1209 u1210 T1211 => ?_
            refine sv_aload_n (pc := 168) dX12_wayTest_168 rfl rfl ?_
            refine gf_X12_55 (pc := 169) dX12_wayTest_169 wF_X12_292 (A_106 hw) T1211 ?_
            refine sv_aload_n (pc := 172) dX12_wayTest_172 rfl rfl ?_
            refine gk_X12_58 (pc := 173) dX12_wayTest_173 wF_X12_278 (A_106 hw) (u1210.f (Or.inl (mAt.ne (A_144 hw) (A_106 hw) rfl)) (u1207.f (Or.inl (mAt.ne (A_143 hw) (A_106 hw) rfl)) (F1195.f (A_106 hw) rfl q1182))) ?_
            refine sv_dup2 (pc := 176) dX12_wayTest_176 rfl rfl ?_
            refine lk_142 (pc := 177) dX12_wayTest_177 (A_142 hw) (rIx (n := 13) h1183 rfl) (u1210.f (Or.inl (mAt.ne (A_144 hw) (A_142 hw) rfl)) (u1207.f (Or.inl (mAt.ne (A_143 hw) (A_142 hw) rfl)) (F1195.f (A_142 hw) rfl q1185))) ?_
            refine mr_iconst (pc := 178) (z := 1) dX12_wayTest_178 ?_
            refine mr_iadd (pc := 179) (x := z1184) (y := 1) dX12_wayTest_179 ?_
            refine ss_142 (pc := 180) dX12_wayTest_180 (A_142 hw) T1211 (rIx (n := 13) h1183 rfl) (rW (c := 0) (d := 40) (rAdd (e := 1) (f := 40) h1205 (rR (x := 1)) rfl) rfl) fun μ1212 u1213 T1214 => ?_
            refine sv_aload_n (pc := 181) dX12_wayTest_181 rfl rfl ?_
            obtain ⟨z1215, q1216⟩ : ∃ z, μ1212 106 33 = z := ⟨_, rfl⟩
            have h1217 : (0 ≤ z1215 ∧ z1215 ≤ 1000) := by rw [← q1216]; exact T1214 106 106 (A_106 hw) 33
            refine mr_cVV (pc := 182) (c_X12_next_v hw T1214 (u1213.f (Or.inl (mAt.ne (A_142 hw) (A_106 hw) rfl)) (u1210.f (Or.inl (mAt.ne (A_144 hw) (A_106 hw) rfl)) (u1207.f (Or.inl (mAt.ne (A_143 hw) (A_106 hw) rfl)) q1200))) q1216 (u1213.f (Or.inl (mAt.ne (A_142 hw) (A_106 hw) rfl)) (u1210.f (Or.inl (mAt.ne (A_144 hw) (A_106 hw) rfl)) (u1207.f (Or.inl (mAt.ne (A_143 hw) (A_106 hw) rfl)) (F1195.f (A_106 hw) rfl (F818.f (A_106 hw) rfl (F52.f (A_106 hw) rfl (u48.f (Or.inr (by decide)) (F29.f (A_106 hw) rfl q25))))))))) (gOk _ _ _ _ _) dX12_wayTest_182 (tX12_next _ _ _ _ _) ⟨wV_X12_next, wL_X12_next⟩ wM_X12_247 (gCX12 _ _ _ _ _) rfl (A_106 hw) rfl ⟨le_t rfl, le_t rfl⟩ ⟨le_t rfl, le_t rfl⟩ rfl (le_t rfl) fun μ1218 T1219 F1220 h1221 => ?_
            obtain ⟨z1222, z1224, z1226, z1228, z1230, q1223, q1225, q1227, q1229, q1231, h1232⟩ := h1221
            have h1233 : (0 ≤ z1222 ∧ z1222 ≤ 4) := by rw [← q1223]; exact T1219 106 106 (A_106 hw) 37
            have h1234 : (0 ≤ z1224 ∧ z1224 ≤ 1000) := by rw [← q1225]; exact T1219 106 106 (A_106 hw) 33
            have h1235 : (0 ≤ z1226 ∧ z1226 ≤ 1000) := by rw [← q1227]; exact T1219 106 106 (A_106 hw) 34
            have h1236 : (0 ≤ z1228 ∧ z1228 ≤ 3) := by rw [← q1229]; exact T1219 106 106 (A_106 hw) 35
            have h1237 : ((-2147483648) ≤ z1230 ∧ z1230 ≤ 2147483647) := by rw [← q1231]; exact T1219 106 106 (A_106 hw) 36
            refine sv_aload_n (pc := 185) dX12_wayTest_185 rfl rfl ?_
            refine mr_lconst (pc := 186) (z := 1) dX12_wayTest_186 (by decide) ?_
            refine mr_iload_n (pc := 187) (z := z1184) dX12_wayTest_187 rfl rfl ?_
            refine mr_lshl (pc := 188) dX12_wayTest_188 ?_
            refine mr_genL (r64i _) fun z1238 q1239 h1240 => ?_
            refine mr_lconst (pc := 189) (z := 1) dX12_wayTest_189 (by decide) ?_
            refine mr_iload_n (pc := 190) (z := z1184) dX12_wayTest_190 rfl rfl ?_
            refine mr_lshl (pc := 191) dX12_wayTest_191 ?_
            refine mr_genL (r64i _) fun z1241 q1242 h1243 => ?_
            refine mr_iconst (pc := 192) (z := 0) dX12_wayTest_192 ?_
            have W1248 := (((((((((((((((((W1198 T1194 F1195) z1199 q1200 h1201).1 h1202).2 trivial) μ1206 u1207 T1208) μ1209 u1210 T1211) μ1212 u1213 T1214) z1215 q1216 h1217) μ1218 F1220 T1219) z1222 q1223) z1224 q1225) z1226 q1227) z1228 q1229) z1230 q1231) h1232.2.2.2.2.2.2.2.1) z1238 q1239) z1241 q1242)
            refine mr_cVV (pc := 193) (c_X12_piece_Wx hw T1219 h1240 h1243 (rW (c := 0) (d := 1) (rR (x := 0)) rfl) W1248) (gOk _ _ _ _ _) dX12_wayTest_193 (tX12_piece _ _ _ _ _) ⟨wV_X12_piece, wL_X12_piece⟩ wM_X12_298 (gCX12 _ _ _ _ _) rfl (A_106 hw) rfl ⟨le_t rfl, le_t rfl⟩ ⟨le_t rfl, le_t rfl⟩ rfl (le_t rfl) fun μ1244 T1245 F1246 h1247 => ?_
            refine sv_goto (pc := 196) (tgt := 28) dX12_wayTest_196 (by decide) ?_
            refine mr_lvS (lv' := [(0, .ref 106), (1, iv p1)]) (List.forall_mem_cons.mpr ⟨rfl, List.forall_mem_cons.mpr ⟨rfl, fun _ h => absurd h List.not_mem_nil⟩⟩) ?_
            exact ih822 μ1244 T1245 (mF.call (mF.call (mF.up (mF.up (mF.up (mF.call (mF.call mF.refl F818 rfl) F1195 rfl) (A_143 hw) u1207 rfl) (A_144 hw) u1210 rfl) (A_142 hw) u1213 rfl) F1220 rfl) F1246 rfl) trivial (h1247.1 T1245 F1246)
          have h1249 : 1 ≤ z1199 ∧ z1199 ≤ 4 := (vc_X12_wrong_v_1 h1202 h1201)
          exact mr_vret dX12_wayTest_112 rfl (le_t rfl) (le_t rfl) T1194 (mF.call (mF.call (mF.call (mF.up (mF.call mF.refl F29 rfl) (A_106 hw) u48 rfl) F52 rfl) F818 rfl) F1195 rfl) ⟨(((W1198 T1194 F1195) z1199 q1200 h1201).2 h1202), trivial⟩
        refine mr_icmp_ne (pc := 97) (tgt := 105) dX12_wayTest_97 (by decide) (r32 h1186 rfl) (r32 (rR (x := 40)) rfl) (fun h1250 => ?_) (fun h1250 => ?_)
        · have h1251 : 0 ≤ z1184 ∧ z1184 ≤ 39 := (vc_X12_wayTest_Wx_15 h1250 h1186)
          exact J1197 μ815 T817 mF.refl (((((h956.2.2.2.1 h956.1).2 h959) z1181 q1182 h1183) z1184 q1185 h1186).1 h1250)
        have h1252 : 40 ≤ z1184 ∧ z1184 ≤ 40 := (vc_X12_wayTest_Wx_16 h1250 h1186)
        refine sv_aload_n (pc := 100) dX12_wayTest_100 rfl rfl ?_
        refine mr_iconst (pc := 101) (z := 4) dX12_wayTest_101 ?_
        refine mr_cVV (pc := 102) (c_X12_wrong_Wx hw T817 (rW (c := 1) (d := 4) (rR (x := 4)) rfl) (((((h956.2.2.2.1 h956.1).2 h959) z1181 q1182 h1183) z1184 q1185 h1186).2 h1250)) (gOk _ _ _ _ _) dX12_wayTest_102 (tX12_wrong _ _ _ _ _) ⟨wV_X12_wrong, wL_X12_wrong⟩ wM_X12_240 (gCX12 _ _ _ _ _) rfl (A_106 hw) rfl ⟨le_t rfl, le_t rfl⟩ ⟨le_t rfl, le_t rfl⟩ rfl (le_t rfl) fun μ1253 T1254 F1255 h1256 => ?_
        exact J1197 μ1253 T1254 (mF.call mF.refl F1255 rfl) (h1256.1 T1254 F1255)
    exact L816 1010 μ50 T51 mF.refl trivial (h53.1 T51 F52)
  have h1257 : 0 ≤ z14 ∧ z14 ≤ 0 := (vc_X12_wayTest_Wx_59 h15 h13.2.1 h13.2.2.1 h3 h13.1 h6 h9)
  have h1258 : ¬ z1 = 0 ∨ ¬ z4 = 3 ∨ ¬ z7 = (40 : Int) := (h13.2.2.1 (vc_X12_wayTest_Wx_60 h13.2.1 h13.2.2.1 h15 h3 h1257 h6 h9))
  refine sv_aload_n (pc := 9) dX12_wayTest_9 rfl rfl ?_
  refine mr_iconst (pc := 10) (z := 2) dX12_wayTest_10 ?_
  refine mr_cVV (pc := 11) (c_X12_wrong_Wx hw hT (rW (c := 1) (d := 4) (rR (x := 2)) rfl) ((h13.2.2.2.1 h13.1).2 h15)) (gOk _ _ _ _ _) dX12_wayTest_11 (tX12_wrong _ _ _ _ _) ⟨wV_X12_wrong, wL_X12_wrong⟩ wM_X12_240 (gCX12 _ _ _ _ _) rfl (A_106 hw) rfl ⟨le_t rfl, le_t rfl⟩ ⟨le_t rfl, le_t rfl⟩ rfl (le_t rfl) fun μ1259 T1260 F1261 h1262 => ?_
  exact mr_vret dX12_wayTest_14 rfl (le_t rfl) (le_t rfl) T1260 (mF.call mF.refl F1261 rfl) ⟨(h1262.1 T1260 F1261), trivial⟩
def WJ_X12_test_Wx_3 (w : mW) (Q : mM → Prop) (z1447 : Int) (z1552 : Int) (z1555 : Int) (μ1576 : mM) (z1588 : Int) (μ3057 : mM) : Prop := mT w μ3057 → mF [106037, 106038] w μ1576 μ3057 → ∀ μ3063 : mM, mU μ3057 135 (((300 * z1552) + z1555).toNat) z1588 μ3063 → mT w μ3063 → ∀ z3066 : Int, μ3063 106 37 = z3066 → (0 ≤ z3066 ∧ z3066 ≤ 4) → ∀ μ3069 : mM, mF [106033, 106034, 106035, 106036, 106037, 106038] w μ3063 μ3069 → mT w μ3069 → ∀ z3073 : Int, μ3069 106 37 = z3073 → ∀ z3075 : Int, μ3069 106 33 = z3075 → ∀ z3077 : Int, μ3069 106 34 = z3077 → ∀ z3079 : Int, μ3069 106 35 = z3079 → ∀ z3081 : Int, μ3069 106 36 = z3081 → nxR μ3063 μ3069 → ((¬ z1447 = 12) → WP_X12_within_Wx w μ3069 (0) (1000000) (fun z3096 μ3092 => mT w μ3092 → mF [106033, 106034, 106035, 106036, 106037, 106038] w μ3069 μ3092 → ((-2147483648) ≤ z3096 ∧ z3096 ≤ 2147483647) → ∀ μ3097 : mM, mU μ3092 134 (((300 * z1552) + z1555).toNat) z3096 μ3097 → mT w μ3097 → Q μ3097)) ∧ ((z1447 = 12) → WP_X12_within_Wx w μ3069 (0) (1000) (fun z3105 μ3101 => mT w μ3101 → mF [106033, 106034, 106035, 106036, 106037, 106038] w μ3069 μ3101 → ((-2147483648) ≤ z3105 ∧ z3105 ≤ 2147483647) → ∀ μ3106 : mM, mU μ3101 134 (((300 * z1552) + z1555).toNat) z3105 μ3106 → mT w μ3106 → Q μ3106))
def WJ_X12_test_Wx_4 (w : mW) (Q : mM → Prop) (z1552 : Int) (z1555 : Int) (μ1576 : mM) (z1588 : Int) (μ3176 : mM) : Prop := mT w μ3176 → mF [106037, 106038] w μ1576 μ3176 → ∀ μ3182 : mM, mU μ3176 134 (((300 * z1552) + z1555).toNat) z1588 μ3182 → mT w μ3182 → ∀ z3185 : Int, μ3182 106 37 = z3185 → (0 ≤ z3185 ∧ z3185 ≤ 4) → ∀ μ3188 : mM, mF [106033, 106034, 106035, 106036, 106037, 106038] w μ3182 μ3188 → mT w μ3188 → ∀ z3192 : Int, μ3188 106 37 = z3192 → ∀ z3194 : Int, μ3188 106 33 = z3194 → ∀ z3196 : Int, μ3188 106 34 = z3196 → ∀ z3198 : Int, μ3188 106 35 = z3198 → ∀ z3200 : Int, μ3188 106 36 = z3200 → nxR μ3182 μ3188 → Q μ3188
def WJ_X12_test_Wx_5 (w : mW) (Q : mM → Prop) (z1552 : Int) (z1555 : Int) (μ1576 : mM) (z1588 : Int) (μ3249 : mM) : Prop := mT w μ3249 → mF [106037, 106038] w μ1576 μ3249 → ∀ μ3255 : mM, mU μ3249 134 (((300 * z1552) + z1555).toNat) z1588 μ3255 → mT w μ3255 → ∀ z3258 : Int, μ3255 106 37 = z3258 → (0 ≤ z3258 ∧ z3258 ≤ 4) → ∀ μ3261 : mM, mF [106033, 106034, 106035, 106036, 106037, 106038] w μ3255 μ3261 → mT w μ3261 → ∀ z3265 : Int, μ3261 106 37 = z3265 → ∀ z3267 : Int, μ3261 106 33 = z3267 → ∀ z3269 : Int, μ3261 106 34 = z3269 → ∀ z3271 : Int, μ3261 106 35 = z3271 → ∀ z3273 : Int, μ3261 106 36 = z3273 → nxR μ3255 μ3261 → Q μ3261
def WJ_X12_test_Wx_6 (w : mW) (Q : mM → Prop) (z1552 : Int) (z1555 : Int) (μ3334 : mM) (μ3376 : mM) : Prop := mT w μ3376 → mF [106037, 106038] w μ3334 μ3376 → WP_X12_within_Wx w μ3376 (0) (32) (fun z3386 μ3382 => mT w μ3382 → mF [106033, 106034, 106035, 106036, 106037, 106038] w μ3376 μ3382 → ((-2147483648) ≤ z3386 ∧ z3386 ≤ 2147483647) → ∀ μ3387 : mM, mU μ3382 135 (((300 * z1552) + z1555).toNat) z3386 μ3387 → mT w μ3387 → ∀ μ3390 : mM, mU μ3387 136 (((300 * z1552) + z1555).toNat) (32 : Int) μ3390 → mT w μ3390 → ∀ z3393 : Int, μ3390 106 37 = z3393 → (0 ≤ z3393 ∧ z3393 ≤ 4) → ∀ z3396 : Int, μ3390 106 35 = z3396 → (0 ≤ z3396 ∧ z3396 ≤ 3) → ∀ z3399 : Int, μ3390 106 36 = z3399 → ((-2147483648) ≤ z3399 ∧ z3399 ≤ 2147483647) → WP_X12_isWord_W w μ3390 (5) (fun z3406 _ => (0 ≤ z3406 ∧ z3406 ≤ 1) → ((z3406 = 0) → Q μ3390) ∧ ((¬ z3406 = 0) → ∀ z3454 : Int, μ3390 106 33 = z3454 → (0 ≤ z3454 ∧ z3454 ≤ 1000) → ∀ μ3457 : mM, mF [106033, 106034, 106035, 106036, 106037, 106038] w μ3390 μ3457 → mT w μ3457 → ∀ z3461 : Int, μ3457 106 37 = z3461 → ∀ z3463 : Int, μ3457 106 33 = z3463 → ∀ z3465 : Int, μ3457 106 34 = z3465 → ∀ z3467 : Int, μ3457 106 35 = z3467 → ∀ z3469 : Int, μ3457 106 36 = z3469 → nxR μ3390 μ3457 → WP_X12_within_Wx w μ3457 z3386 (32) (fun z3481 μ3477 => mT w μ3477 → mF [106033, 106034, 106035, 106036, 106037, 106038] w μ3457 μ3477 → ((-2147483648) ≤ z3481 ∧ z3481 ≤ 2147483647) → ∀ μ3483 : mM, mU μ3477 136 (((300 * z1552) + z1555).toNat) z3481 μ3483 → mT w μ3483 → Q μ3483))))
def WJ_X12_test_Wx_2 (w : mW) (Q : mM → Prop) (z1431 : Int) (μ1432 : mM) (z1447 : Int) (μ1541 : mM) : Prop := mT w μ1541 → mF [106037, 106038] w μ1432 μ1541 → ∀ z1547 : Int, μ1541 106 37 = z1547 → (0 ≤ z1547 ∧ z1547 ≤ 4) → ((z1547 = 0) → ∀ z1552 : Int, μ1541 106 58 = z1552 → (0 ≤ z1552 ∧ z1552 ≤ 12) → ∀ z1555 : Int, μ1541 130 (z1552.toNat) = z1555 → (0 ≤ z1555 ∧ z1555 ≤ 300) → (z1555 ≤ (299 : Int)) ∧ ∀ _ : True, ∀ μ1561 : mM, mU μ1541 130 (z1552.toNat) (z1555 + 1) μ1561 → mT w μ1561 → ∀ μ1564 : mM, mU μ1561 132 (((300 * z1552) + z1555).toNat) z1447 μ1564 → mT w μ1564 → ∀ μ1567 : mM, mU μ1564 133 (((300 * z1552) + z1555).toNat) z1431 μ1567 → mT w μ1567 → ∀ z1570 : Int, μ1567 106 33 = z1570 → (0 ≤ z1570 ∧ z1570 ≤ 1000) → ∀ z1573 : Int, μ1567 106 1 = z1573 → (0 ≤ z1573 ∧ z1573 ≤ 1000) → ∀ μ1576 : mM, mF [106033, 106034, 106035, 106036, 106037, 106038] w μ1567 μ1576 → mT w μ1576 → ∀ z1580 : Int, μ1576 106 37 = z1580 → ∀ z1582 : Int, μ1576 106 33 = z1582 → ∀ z1584 : Int, μ1576 106 34 = z1584 → ∀ z1586 : Int, μ1576 106 35 = z1586 → ∀ z1588 : Int, μ1576 106 36 = z1588 → nxR μ1567 μ1576 → ((¬ z1447 = 4) → ((¬ z1447 = 6) → ((¬ z1447 = 8) → ((¬ z1447 = 9) → ((¬ z1447 = 10) → ((¬ z1447 = 15) → ((¬ z1447 = 14) → WP_X12_isSign_W w μ1576 (60) (fun z3021 _ => (0 ≤ z3021 ∧ z3021 ≤ 1) → ((¬ z3021 = 0) → (WJ_X12_test_Wx_3 w Q z1447 z1552 z1555 μ1576 z1588) μ1576) ∧ ((z3021 = 0) → WP_X12_isSign_W w μ1576 (61) (fun z3121 _ => (0 ≤ z3121 ∧ z3121 ≤ 1) → ((¬ z3121 = 0) → (WJ_X12_test_Wx_3 w Q z1447 z1552 z1555 μ1576 z1588) μ1576) ∧ ((z3121 = 0) → WP_X12_isSign_W w μ1576 (62) (fun z3134 _ => (0 ≤ z3134 ∧ z3134 ≤ 1) → ((¬ z3134 = 0) → (WJ_X12_test_Wx_3 w Q z1447 z1552 z1555 μ1576 z1588) μ1576) ∧ ((z3134 = 0) → WP_X12_wrong_Wx w μ1576 (2) (fun μ3143 => mT w μ3143 → mF [106037, 106038] w μ1576 μ3143 → (WJ_X12_test_Wx_3 w Q z1447 z1552 z1555 μ1576 z1588) μ3143)))))))) ∧ ((z1447 = 14) → WP_X12_within_Wx w μ1576 (0) (2) (fun z3152 μ3148 => mT w μ3148 → mF [106033, 106034, 106035, 106036, 106037, 106038] w μ1576 μ3148 → ((-2147483648) ≤ z3152 ∧ z3152 ≤ 2147483647) → ∀ μ3153 : mM, mU μ3148 134 (((300 * z1552) + z1555).toNat) z3152 μ3153 → mT w μ3153 → Q μ3153))) ∧ ((z1447 = 15) → ((¬ z1586 = 1) → WP_X12_wrong_Wx w μ1576 (2) (fun μ3209 => mT w μ3209 → mF [106037, 106038] w μ1576 μ3209 → (WJ_X12_test_Wx_4 w Q z1552 z1555 μ1576 z1588) μ3209)) ∧ ((z1586 = 1) → WP_X12_in_W w μ1576 z1588 (20) (22) (fun z3218 _ => (0 ≤ z3218 ∧ z3218 ≤ 1) → ((¬ z3218 = 0) → (WJ_X12_test_Wx_4 w Q z1552 z1555 μ1576 z1588) μ1576) ∧ ((z3218 = 0) → WP_X12_wrong_Wx w μ1576 (2) (fun μ3225 => mT w μ3225 → mF [106037, 106038] w μ1576 μ3225 → (WJ_X12_test_Wx_4 w Q z1552 z1555 μ1576 z1588) μ3225)))))) ∧ ((z1447 = 10) → ((¬ z1586 = 1) → WP_X12_wrong_Wx w μ1576 (2) (fun μ3282 => mT w μ3282 → mF [106037, 106038] w μ1576 μ3282 → (WJ_X12_test_Wx_5 w Q z1552 z1555 μ1576 z1588) μ3282)) ∧ ((z1586 = 1) → WP_X12_in_W w μ1576 z1588 (16) (19) (fun z3291 _ => (0 ≤ z3291 ∧ z3291 ≤ 1) → ((¬ z3291 = 0) → (WJ_X12_test_Wx_5 w Q z1552 z1555 μ1576 z1588) μ1576) ∧ ((z3291 = 0) → WP_X12_wrong_Wx w μ1576 (2) (fun μ3298 => mT w μ3298 → mF [106037, 106038] w μ1576 μ3298 → (WJ_X12_test_Wx_5 w Q z1552 z1555 μ1576 z1588) μ3298)))))) ∧ ((z1447 = 9) → WP_X12_within_Wx w μ1576 (0) (9) (fun z3307 μ3303 => mT w μ3303 → mF [106033, 106034, 106035, 106036, 106037, 106038] w μ1576 μ3303 → ((-2147483648) ≤ z3307 ∧ z3307 ≤ 2147483647) → ∀ μ3308 : mM, mU μ3303 134 (((300 * z1552) + z1555).toNat) z3307 μ3308 → mT w μ3308 → Q μ3308))) ∧ ((z1447 = 8) → WP_X12_within_Wx w μ1576 (0) (65535) (fun z3316 μ3312 => mT w μ3312 → mF [106033, 106034, 106035, 106036, 106037, 106038] w μ1576 μ3312 → ((-2147483648) ≤ z3316 ∧ z3316 ≤ 2147483647) → ∀ μ3317 : mM, mU μ3312 134 (((300 * z1552) + z1555).toNat) z3316 μ3317 → mT w μ3317 → Q μ3317))) ∧ ((z1447 = 6) → WP_X12_wayTest_Wx w μ1576 ((300 * z1552) + z1555) (fun μ3321 => mT w μ3321 → mF [106033, 106034, 106035, 106036, 106037, 106038, 106059, 137999, 138999, 139999, 142999, 143999, 144999, 145999, 146999, 147999, 148999, 149999, 150999] w μ1576 μ3321 → Q μ3321))) ∧ ((z1447 = 4) → WP_X12_addressRead_Wx w μ1576  (fun z3330 μ3326 => mT w μ3326 → mF [106033, 106034, 106035, 106036, 106037, 106038] w μ1576 μ3326 → ((-2147483648) ≤ z3330 ∧ z3330 ≤ 2147483647) → ∀ μ3331 : mM, mU μ3326 134 (((300 * z1552) + z1555).toNat) z3330 μ3331 → mT w μ3331 → WP_X12_sign_Wx w μ3331 (47) (fun μ3334 => mT w μ3334 → mF [106033, 106034, 106035, 106036, 106037, 106038] w μ3331 μ3334 → ∀ z3338 : Int, μ3334 106 37 = z3338 → (0 ≤ z3338 ∧ z3338 ≤ 4) → ((¬ z3338 = 0) → (WJ_X12_test_Wx_6 w Q z1552 z1555 μ3334) μ3334) ∧ ((z3338 = 0) → ∀ z3489 : Int, μ3334 106 35 = z3489 → (0 ≤ z3489 ∧ z3489 ≤ 3) → ((¬ z3489 = 2) → (WJ_X12_test_Wx_6 w Q z1552 z1555 μ3334) μ3334) ∧ ((z3489 = 2) → ∀ z3494 : Int, μ3334 106 36 = z3494 → ((-2147483648) ≤ z3494 ∧ z3494 ≤ 2147483647) → WP_X12_in_W w μ3334 z3494 (0) (32) (fun z3501 _ => (0 ≤ z3501 ∧ z3501 ≤ 1) → ((z3501 = 0) → (WJ_X12_test_Wx_6 w Q z1552 z1555 μ3334) μ3334) ∧ ((¬ z3501 = 0) → WP_X12_mask_W w μ3334 z3494 (fun z3513 _ => ((-2147483648) ≤ z3513 ∧ z3513 ≤ 2147483647) → ∀ z3514 : Int, bXor z3513 ((-1) : Int) = z3514 → ∀ z3517 : Int, bAnd z3330 z3514 = z3517 → ((z3517 = 0) → (WJ_X12_test_Wx_6 w Q z1552 z1555 μ3334) μ3334) ∧ ((¬ z3517 = 0) → WP_X12_wrong_Wx w μ3334 (3) (fun μ3522 => mT w μ3522 → mF [106037, 106038] w μ3334 μ3522 → (WJ_X12_test_Wx_6 w Q z1552 z1555 μ3334) μ3522))))))))))) ∧ ((¬ z1547 = 0) → Q μ1541)
def WL_X12_test_Wx_1 (w : mW) (μ : mM) (Q : mM → Prop) (rec1 : (Int × mM) → Prop) (s : (Int × mM)) : Prop := ∀ z1431 : Int, ∀ μ1432 : mM, s = (z1431, μ1432) → (0 ≤ z1431 ∧ z1431 ≤ 1) → mT w μ1432 → mF [106033, 106034, 106035, 106036, 106037, 106038] w μ μ1432 → ∀ z1441 : Int, μ1432 106 37 = z1441 → (0 ≤ z1441 ∧ z1441 ≤ 4) → ∀ z1444 : Int, μ1432 106 35 = z1444 → (0 ≤ z1444 ∧ z1444 ≤ 3) → ∀ z1447 : Int, μ1432 106 36 = z1447 → ((-2147483648) ≤ z1447 ∧ z1447 ≤ 2147483647) → WP_X12_isWord_W w μ1432 (3) (fun z1454 _ => (0 ≤ z1454 ∧ z1454 ≤ 1) → ((z1454 = 0) → ((¬ z1444 = 1) → WP_X12_wrong_Wx w μ1432 (2) (fun μ3528 => mT w μ3528 → mF [106037, 106038] w μ1432 μ3528 → (WJ_X12_test_Wx_2 w Q z1431 μ1432 z1447) μ3528)) ∧ ((z1444 = 1) → ((z1447 = 4) → (WJ_X12_test_Wx_2 w Q z1431 μ1432 z1447) μ1432) ∧ ((¬ z1447 = 4) → ((z1447 = 6) → (WJ_X12_test_Wx_2 w Q z1431 μ1432 z1447) μ1432) ∧ ((¬ z1447 = 6) → WP_X12_in_W w μ1432 z1447 (8) (15) (fun z3541 _ => (0 ≤ z3541 ∧ z3541 ≤ 1) → ((¬ z3541 = 0) → (WJ_X12_test_Wx_2 w Q z1431 μ1432 z1447) μ1432) ∧ ((z3541 = 0) → WP_X12_wrong_Wx w μ1432 (2) (fun μ3548 => mT w μ3548 → mF [106037, 106038] w μ1432 μ3548 → (WJ_X12_test_Wx_2 w Q z1431 μ1432 z1447) μ3548))))))) ∧ ((¬ z1454 = 0) → ((¬ z1431 = 0) → ∀ z3561 : Int, μ1432 106 33 = z3561 → (0 ≤ z3561 ∧ z3561 ≤ 1000) → ∀ z3564 : Int, μ1432 106 1 = z3564 → (0 ≤ z3564 ∧ z3564 ≤ 1000) → ∀ μ3567 : mM, mF [106033, 106034, 106035, 106036, 106037, 106038] w μ1432 μ3567 → mT w μ3567 → ∀ z3571 : Int, μ3567 106 37 = z3571 → ∀ z3573 : Int, μ3567 106 33 = z3573 → ∀ z3575 : Int, μ3567 106 34 = z3575 → ∀ z3577 : Int, μ3567 106 35 = z3577 → ∀ z3579 : Int, μ3567 106 36 = z3579 → nxR μ1432 μ3567 → rec1 ((0 : Int), μ3567)) ∧ ((z1431 = 0) → ∀ z3588 : Int, μ1432 106 33 = z3588 → (0 ≤ z3588 ∧ z3588 ≤ 1000) → ∀ z3591 : Int, μ1432 106 1 = z3591 → (0 ≤ z3591 ∧ z3591 ≤ 1000) → ∀ μ3594 : mM, mF [106033, 106034, 106035, 106036, 106037, 106038] w μ1432 μ3594 → mT w μ3594 → ∀ z3598 : Int, μ3594 106 37 = z3598 → ∀ z3600 : Int, μ3594 106 33 = z3600 → ∀ z3602 : Int, μ3594 106 34 = z3602 → ∀ z3604 : Int, μ3594 106 35 = z3604 → ∀ z3606 : Int, μ3594 106 36 = z3606 → nxR μ1432 μ3594 → rec1 ((1 : Int), μ3594))))
def WP_X12_test_Wx (w : mW) (μ : mM) (Q : mM → Prop) : Prop := loopF (WL_X12_test_Wx_1 w μ Q) False 1010 ((0 : Int), μ)
theorem vc_X12_test_Wx_1 {z1441 z1444 z1447 z1454 : Int} (h0 : z1454 = 0) (h1 : (z1454 = 1 → z1441 = 0 ∧ z1444 = 1 ∧ z1447 = (3 : Int))) (h2 : (z1454 = 0 → ¬ z1441 = 0 ∨ ¬ z1444 = 1 ∨ ¬ z1447 = (3 : Int))) (h3 : 0 ≤ z1441 ∧ z1441 ≤ 4) (h4 : 0 ≤ z1444 ∧ z1444 ≤ 3) (h5 : (-2147483648) ≤ z1447 ∧ z1447 ≤ 2147483647) (h6 : 0 ≤ z1454 ∧ z1454 ≤ 1) : 0 ≤ z1454 ∧ z1454 ≤ 0 := by omega
theorem vc_X12_test_Wx_2 {z1441 z1444 z1447 z1454 : Int} (h0 : (z1454 = 1 → z1441 = 0 ∧ z1444 = 1 ∧ z1447 = (3 : Int))) (h1 : (z1454 = 0 → ¬ z1441 = 0 ∨ ¬ z1444 = 1 ∨ ¬ z1447 = (3 : Int))) (h2 : z1454 = 0) (h3 : 0 ≤ z1441 ∧ z1441 ≤ 4) (h4 : 0 ≤ z1444 ∧ z1444 ≤ 3) (h5 : (-2147483648) ≤ z1447 ∧ z1447 ≤ 2147483647) (h6 : 0 ≤ z1454 ∧ z1454 ≤ 0) : z1454 = 0 := by omega
theorem vc_X12_test_Wx_5 {z1447 : Int} (h0 : z1447 = 12) (h1 : ¬ z1447 = 4) (h2 : ¬ z1447 = 6) (h3 : ¬ z1447 = 8) (h4 : ¬ z1447 = 9) (h5 : ¬ z1447 = 10) (h6 : ¬ z1447 = 15) (h7 : ¬ z1447 = 14) (h8 : (-2147483648) ≤ z1447 ∧ z1447 ≤ 2147483647) : 12 ≤ z1447 ∧ z1447 ≤ 12 := by omega
theorem vc_X12_test_Wx_6 {z1580 z1586 z1588 z3021 : Int} (h0 : ¬ z3021 = 0) (h1 : (z3021 = 1 → z1580 = 0 ∧ z1586 = 3 ∧ z1588 = (60 : Int))) (h2 : (z3021 = 0 → ¬ z1580 = 0 ∨ ¬ z1586 = 3 ∨ ¬ z1588 = (60 : Int))) (h3 : 0 ≤ z1580 ∧ z1580 ≤ 4) (h4 : 0 ≤ z1586 ∧ z1586 ≤ 3) (h5 : (-2147483648) ≤ z1588 ∧ z1588 ≤ 2147483647) (h6 : 0 ≤ z3021 ∧ z3021 ≤ 1) : 1 ≤ z3021 ∧ z3021 ≤ 1 := by omega
theorem vc_X12_test_Wx_7 {z1547 z1580 z1582 z1584 z1586 z1588 z3021 : Int} (h0 : (z3021 = 1 → z1580 = 0 ∧ z1586 = 3 ∧ z1588 = (60 : Int))) (h1 : (z3021 = 0 → ¬ z1580 = 0 ∨ ¬ z1586 = 3 ∨ ¬ z1588 = (60 : Int))) (h2 : ¬ z3021 = 0) (h3 : z1580 = 0 → z1547 = 0) (h4 : z1547 = 0 ∨ 1 ≤ z1580) (h5 : z1580 = 0 → z1584 ≤ z1582) (h6 : z1580 = 0 → z1586 = 0 ∨ z1584 + 1 ≤ z1582) (h7 : z1580 = 0 → z1586 = 1 → z1584 + 2 ≤ z1582) (h8 : z1580 = 0 → z1586 = 1 → z1588 = 0 ∨ z1588 = 4 ∨ z1588 = 5 ∨ z1584 + 3 ≤ z1582) (h9 : 0 ≤ z1547 ∧ z1547 ≤ 0) (h10 : 0 ≤ z1580 ∧ z1580 ≤ 4) (h11 : 0 ≤ z1582 ∧ z1582 ≤ 1000) (h12 : 0 ≤ z1584 ∧ z1584 ≤ 1000) (h13 : 0 ≤ z1586 ∧ z1586 ≤ 3) (h14 : (-2147483648) ≤ z1588 ∧ z1588 ≤ 2147483647) (h15 : 1 ≤ z3021 ∧ z3021 ≤ 1) : z3021 = 1 := by omega
theorem vc_X12_test_Wx_8 {z1547 z1580 z1582 z1584 z1586 z1588 z3021 : Int} (h0 : z1580 = 0 ∧ z1586 = 3 ∧ z1588 = (60 : Int)) (h1 : z1547 = 0 ∨ 1 ≤ z1580) (h2 : z1580 = 0 → z1584 ≤ z1582) (h3 : z1580 = 0 → z1586 = 0 ∨ z1584 + 1 ≤ z1582) (h4 : z1580 = 0 → z1586 = 1 → z1584 + 2 ≤ z1582) (h5 : z1580 = 0 → z1586 = 1 → z1588 = 0 ∨ z1588 = 4 ∨ z1588 = 5 ∨ z1584 + 3 ≤ z1582) (h6 : (z3021 = 1 → z1580 = 0 ∧ z1586 = 3 ∧ z1588 = (60 : Int))) (h7 : (z3021 = 0 → ¬ z1580 = 0 ∨ ¬ z1586 = 3 ∨ ¬ z1588 = (60 : Int))) (h8 : 0 ≤ z1547 ∧ z1547 ≤ 0) (h9 : 0 ≤ z1580 ∧ z1580 ≤ 4) (h10 : 0 ≤ z1582 ∧ z1582 ≤ 1000) (h11 : 0 ≤ z1584 ∧ z1584 ≤ 1000) (h12 : 0 ≤ z1586 ∧ z1586 ≤ 3) (h13 : (-2147483648) ≤ z1588 ∧ z1588 ≤ 2147483647) (h14 : 1 ≤ z3021 ∧ z3021 ≤ 1) : 60 ≤ z1588 ∧ z1588 ≤ 60 := by omega
theorem vc_X12_test_Wx_9 {z1547 z1580 z1582 z1584 z1586 z1588 z3021 : Int} (h0 : z1580 = 0 ∧ z1586 = 3 ∧ z1588 = (60 : Int)) (h1 : z1547 = 0 ∨ 1 ≤ z1580) (h2 : z1580 = 0 → z1584 ≤ z1582) (h3 : z1580 = 0 → z1586 = 0 ∨ z1584 + 1 ≤ z1582) (h4 : z1580 = 0 → z1586 = 1 → z1584 + 2 ≤ z1582) (h5 : z1580 = 0 → z1586 = 1 → z1588 = 0 ∨ z1588 = 4 ∨ z1588 = 5 ∨ z1584 + 3 ≤ z1582) (h6 : (z3021 = 1 → z1580 = 0 ∧ z1586 = 3 ∧ z1588 = (60 : Int))) (h7 : (z3021 = 0 → ¬ z1580 = 0 ∨ ¬ z1586 = 3 ∨ ¬ z1588 = (60 : Int))) (h8 : 0 ≤ z1547 ∧ z1547 ≤ 0) (h9 : 0 ≤ z1580 ∧ z1580 ≤ 4) (h10 : 0 ≤ z1582 ∧ z1582 ≤ 1000) (h11 : 0 ≤ z1584 ∧ z1584 ≤ 1000) (h12 : 0 ≤ z1586 ∧ z1586 ≤ 3) (h13 : 60 ≤ z1588 ∧ z1588 ≤ 60) (h14 : 1 ≤ z3021 ∧ z3021 ≤ 1) : 3 ≤ z1586 ∧ z1586 ≤ 3 := by omega
theorem vc_X12_test_Wx_10 {z1547 z1580 z1582 z1584 z1586 z1588 z3021 : Int} (h0 : z1580 = 0 ∧ z1586 = 3 ∧ z1588 = (60 : Int)) (h1 : z1547 = 0 ∨ 1 ≤ z1580) (h2 : z1580 = 0 → z1584 ≤ z1582) (h3 : z1580 = 0 → z1586 = 0 ∨ z1584 + 1 ≤ z1582) (h4 : z1580 = 0 → z1586 = 1 → z1584 + 2 ≤ z1582) (h5 : z1580 = 0 → z1586 = 1 → z1588 = 0 ∨ z1588 = 4 ∨ z1588 = 5 ∨ z1584 + 3 ≤ z1582) (h6 : (z3021 = 1 → z1580 = 0 ∧ z1586 = 3 ∧ z1588 = (60 : Int))) (h7 : (z3021 = 0 → ¬ z1580 = 0 ∨ ¬ z1586 = 3 ∨ ¬ z1588 = (60 : Int))) (h8 : 0 ≤ z1547 ∧ z1547 ≤ 0) (h9 : 0 ≤ z1580 ∧ z1580 ≤ 4) (h10 : 0 ≤ z1582 ∧ z1582 ≤ 1000) (h11 : 0 ≤ z1584 ∧ z1584 ≤ 1000) (h12 : 3 ≤ z1586 ∧ z1586 ≤ 3) (h13 : 60 ≤ z1588 ∧ z1588 ≤ 60) (h14 : 1 ≤ z3021 ∧ z3021 ≤ 1) : 0 ≤ z1580 ∧ z1580 ≤ 0 := by omega
theorem vc_X12_test_Wx_11 {z1580 z1586 z1588 z3021 : Int} (h0 : z3021 = 0) (h1 : (z3021 = 1 → z1580 = 0 ∧ z1586 = 3 ∧ z1588 = (60 : Int))) (h2 : (z3021 = 0 → ¬ z1580 = 0 ∨ ¬ z1586 = 3 ∨ ¬ z1588 = (60 : Int))) (h3 : 0 ≤ z1580 ∧ z1580 ≤ 4) (h4 : 0 ≤ z1586 ∧ z1586 ≤ 3) (h5 : (-2147483648) ≤ z1588 ∧ z1588 ≤ 2147483647) (h6 : 0 ≤ z3021 ∧ z3021 ≤ 1) : 0 ≤ z3021 ∧ z3021 ≤ 0 := by omega
theorem vc_X12_test_Wx_12 {z1547 z1580 z1582 z1584 z1586 z1588 z3021 : Int} (h0 : (z3021 = 1 → z1580 = 0 ∧ z1586 = 3 ∧ z1588 = (60 : Int))) (h1 : (z3021 = 0 → ¬ z1580 = 0 ∨ ¬ z1586 = 3 ∨ ¬ z1588 = (60 : Int))) (h2 : z3021 = 0) (h3 : z1580 = 0 → z1547 = 0) (h4 : z1547 = 0 ∨ 1 ≤ z1580) (h5 : z1580 = 0 → z1584 ≤ z1582) (h6 : z1580 = 0 → z1586 = 0 ∨ z1584 + 1 ≤ z1582) (h7 : z1580 = 0 → z1586 = 1 → z1584 + 2 ≤ z1582) (h8 : z1580 = 0 → z1586 = 1 → z1588 = 0 ∨ z1588 = 4 ∨ z1588 = 5 ∨ z1584 + 3 ≤ z1582) (h9 : 0 ≤ z1547 ∧ z1547 ≤ 0) (h10 : 0 ≤ z1580 ∧ z1580 ≤ 4) (h11 : 0 ≤ z1582 ∧ z1582 ≤ 1000) (h12 : 0 ≤ z1584 ∧ z1584 ≤ 1000) (h13 : 0 ≤ z1586 ∧ z1586 ≤ 3) (h14 : (-2147483648) ≤ z1588 ∧ z1588 ≤ 2147483647) (h15 : 0 ≤ z3021 ∧ z3021 ≤ 0) : z3021 = 0 := by omega
theorem vc_X12_test_Wx_13 {z1580 z1586 z1588 z3121 : Int} (h0 : ¬ z3121 = 0) (h1 : (z3121 = 1 → z1580 = 0 ∧ z1586 = 3 ∧ z1588 = (61 : Int))) (h2 : (z3121 = 0 → ¬ z1580 = 0 ∨ ¬ z1586 = 3 ∨ ¬ z1588 = (61 : Int))) (h3 : 0 ≤ z1580 ∧ z1580 ≤ 4) (h4 : 0 ≤ z1586 ∧ z1586 ≤ 3) (h5 : (-2147483648) ≤ z1588 ∧ z1588 ≤ 2147483647) (h6 : 0 ≤ z3121 ∧ z3121 ≤ 1) : 1 ≤ z3121 ∧ z3121 ≤ 1 := by omega
theorem vc_X12_test_Wx_14 {z1547 z1580 z1582 z1584 z1586 z1588 z3021 z3121 : Int} (h0 : (z3121 = 1 → z1580 = 0 ∧ z1586 = 3 ∧ z1588 = (61 : Int))) (h1 : (z3121 = 0 → ¬ z1580 = 0 ∨ ¬ z1586 = 3 ∨ ¬ z1588 = (61 : Int))) (h2 : ¬ z3121 = 0) (h3 : z1580 = 0 → z1547 = 0) (h4 : z1547 = 0 ∨ 1 ≤ z1580) (h5 : z1580 = 0 → z1584 ≤ z1582) (h6 : z1580 = 0 → z1586 = 0 ∨ z1584 + 1 ≤ z1582) (h7 : z1580 = 0 → z1586 = 1 → z1584 + 2 ≤ z1582) (h8 : z1580 = 0 → z1586 = 1 → z1588 = 0 ∨ z1588 = 4 ∨ z1588 = 5 ∨ z1584 + 3 ≤ z1582) (h9 : (z3021 = 1 → z1580 = 0 ∧ z1586 = 3 ∧ z1588 = (60 : Int))) (h10 : (z3021 = 0 → ¬ z1580 = 0 ∨ ¬ z1586 = 3 ∨ ¬ z1588 = (60 : Int))) (h11 : ¬ z1580 = 0 ∨ ¬ z1586 = 3 ∨ ¬ z1588 = (60 : Int)) (h12 : 0 ≤ z1547 ∧ z1547 ≤ 0) (h13 : 0 ≤ z1580 ∧ z1580 ≤ 4) (h14 : 0 ≤ z1582 ∧ z1582 ≤ 1000) (h15 : 0 ≤ z1584 ∧ z1584 ≤ 1000) (h16 : 0 ≤ z1586 ∧ z1586 ≤ 3) (h17 : (-2147483648) ≤ z1588 ∧ z1588 ≤ 2147483647) (h18 : 0 ≤ z3021 ∧ z3021 ≤ 0) (h19 : 1 ≤ z3121 ∧ z3121 ≤ 1) : z3121 = 1 := by omega
theorem vc_X12_test_Wx_15 {z1580 z1582 z1584 z1586 z1588 z3021 z3121 : Int} (h0 : z1580 = 0 ∧ z1586 = 3 ∧ z1588 = (61 : Int)) (h1 : z1580 = 0 → z1586 = 1 → z1584 + 2 ≤ z1582) (h2 : z1580 = 0 → z1586 = 1 → z1588 = 0 ∨ z1588 = 4 ∨ z1588 = 5 ∨ z1584 + 3 ≤ z1582) (h3 : (z3021 = 1 → z1580 = 0 ∧ z1586 = 3 ∧ z1588 = (60 : Int))) (h4 : (z3021 = 0 → ¬ z1580 = 0 ∨ ¬ z1586 = 3 ∨ ¬ z1588 = (60 : Int))) (h5 : ¬ z1580 = 0 ∨ ¬ z1586 = 3 ∨ ¬ z1588 = (60 : Int)) (h6 : (z3121 = 1 → z1580 = 0 ∧ z1586 = 3 ∧ z1588 = (61 : Int))) (h7 : (z3121 = 0 → ¬ z1580 = 0 ∨ ¬ z1586 = 3 ∨ ¬ z1588 = (61 : Int))) (h8 : 0 ≤ z1580 ∧ z1580 ≤ 4) (h9 : 0 ≤ z1582 ∧ z1582 ≤ 1000) (h10 : 0 ≤ z1584 ∧ z1584 ≤ 1000) (h11 : 0 ≤ z1586 ∧ z1586 ≤ 3) (h12 : (-2147483648) ≤ z1588 ∧ z1588 ≤ 2147483647) (h13 : 0 ≤ z3021 ∧ z3021 ≤ 0) (h14 : 1 ≤ z3121 ∧ z3121 ≤ 1) : 61 ≤ z1588 ∧ z1588 ≤ 61 := by omega
theorem vc_X12_test_Wx_16 {z1580 z1582 z1584 z1586 z1588 z3021 z3121 : Int} (h0 : z1580 = 0 ∧ z1586 = 3 ∧ z1588 = (61 : Int)) (h1 : z1580 = 0 → z1586 = 1 → z1584 + 2 ≤ z1582) (h2 : z1580 = 0 → z1586 = 1 → z1588 = 0 ∨ z1588 = 4 ∨ z1588 = 5 ∨ z1584 + 3 ≤ z1582) (h3 : (z3021 = 1 → z1580 = 0 ∧ z1586 = 3 ∧ z1588 = (60 : Int))) (h4 : (z3021 = 0 → ¬ z1580 = 0 ∨ ¬ z1586 = 3 ∨ ¬ z1588 = (60 : Int))) (h5 : ¬ z1580 = 0 ∨ ¬ z1586 = 3 ∨ ¬ z1588 = (60 : Int)) (h6 : (z3121 = 1 → z1580 = 0 ∧ z1586 = 3 ∧ z1588 = (61 : Int))) (h7 : (z3121 = 0 → ¬ z1580 = 0 ∨ ¬ z1586 = 3 ∨ ¬ z1588 = (61 : Int))) (h8 : 0 ≤ z1580 ∧ z1580 ≤ 4) (h9 : 0 ≤ z1582 ∧ z1582 ≤ 1000) (h10 : 0 ≤ z1584 ∧ z1584 ≤ 1000) (h11 : 0 ≤ z1586 ∧ z1586 ≤ 3) (h12 : 61 ≤ z1588 ∧ z1588 ≤ 61) (h13 : 0 ≤ z3021 ∧ z3021 ≤ 0) (h14 : 1 ≤ z3121 ∧ z3121 ≤ 1) : 3 ≤ z1586 ∧ z1586 ≤ 3 := by omega
theorem vc_X12_test_Wx_17 {z1580 z1582 z1584 z1586 z1588 z3021 z3121 : Int} (h0 : z1580 = 0 ∧ z1586 = 3 ∧ z1588 = (61 : Int)) (h1 : z1580 = 0 → z1586 = 1 → z1584 + 2 ≤ z1582) (h2 : z1580 = 0 → z1586 = 1 → z1588 = 0 ∨ z1588 = 4 ∨ z1588 = 5 ∨ z1584 + 3 ≤ z1582) (h3 : (z3021 = 1 → z1580 = 0 ∧ z1586 = 3 ∧ z1588 = (60 : Int))) (h4 : (z3021 = 0 → ¬ z1580 = 0 ∨ ¬ z1586 = 3 ∨ ¬ z1588 = (60 : Int))) (h5 : ¬ z1580 = 0 ∨ ¬ z1586 = 3 ∨ ¬ z1588 = (60 : Int)) (h6 : (z3121 = 1 → z1580 = 0 ∧ z1586 = 3 ∧ z1588 = (61 : Int))) (h7 : (z3121 = 0 → ¬ z1580 = 0 ∨ ¬ z1586 = 3 ∨ ¬ z1588 = (61 : Int))) (h8 : 0 ≤ z1580 ∧ z1580 ≤ 4) (h9 : 0 ≤ z1582 ∧ z1582 ≤ 1000) (h10 : 0 ≤ z1584 ∧ z1584 ≤ 1000) (h11 : 3 ≤ z1586 ∧ z1586 ≤ 3) (h12 : 61 ≤ z1588 ∧ z1588 ≤ 61) (h13 : 0 ≤ z3021 ∧ z3021 ≤ 0) (h14 : 1 ≤ z3121 ∧ z3121 ≤ 1) : 0 ≤ z1580 ∧ z1580 ≤ 0 := by omega
theorem vc_X12_test_Wx_18 {z1580 z1586 z1588 z3121 : Int} (h0 : z3121 = 0) (h1 : (z3121 = 1 → z1580 = 0 ∧ z1586 = 3 ∧ z1588 = (61 : Int))) (h2 : (z3121 = 0 → ¬ z1580 = 0 ∨ ¬ z1586 = 3 ∨ ¬ z1588 = (61 : Int))) (h3 : 0 ≤ z1580 ∧ z1580 ≤ 4) (h4 : 0 ≤ z1586 ∧ z1586 ≤ 3) (h5 : (-2147483648) ≤ z1588 ∧ z1588 ≤ 2147483647) (h6 : 0 ≤ z3121 ∧ z3121 ≤ 1) : 0 ≤ z3121 ∧ z3121 ≤ 0 := by omega
theorem vc_X12_test_Wx_19 {z1547 z1580 z1582 z1584 z1586 z1588 z3021 z3121 : Int} (h0 : (z3121 = 1 → z1580 = 0 ∧ z1586 = 3 ∧ z1588 = (61 : Int))) (h1 : (z3121 = 0 → ¬ z1580 = 0 ∨ ¬ z1586 = 3 ∨ ¬ z1588 = (61 : Int))) (h2 : z3121 = 0) (h3 : z1580 = 0 → z1547 = 0) (h4 : z1547 = 0 ∨ 1 ≤ z1580) (h5 : z1580 = 0 → z1584 ≤ z1582) (h6 : z1580 = 0 → z1586 = 0 ∨ z1584 + 1 ≤ z1582) (h7 : z1580 = 0 → z1586 = 1 → z1584 + 2 ≤ z1582) (h8 : z1580 = 0 → z1586 = 1 → z1588 = 0 ∨ z1588 = 4 ∨ z1588 = 5 ∨ z1584 + 3 ≤ z1582) (h9 : (z3021 = 1 → z1580 = 0 ∧ z1586 = 3 ∧ z1588 = (60 : Int))) (h10 : (z3021 = 0 → ¬ z1580 = 0 ∨ ¬ z1586 = 3 ∨ ¬ z1588 = (60 : Int))) (h11 : ¬ z1580 = 0 ∨ ¬ z1586 = 3 ∨ ¬ z1588 = (60 : Int)) (h12 : 0 ≤ z1547 ∧ z1547 ≤ 0) (h13 : 0 ≤ z1580 ∧ z1580 ≤ 4) (h14 : 0 ≤ z1582 ∧ z1582 ≤ 1000) (h15 : 0 ≤ z1584 ∧ z1584 ≤ 1000) (h16 : 0 ≤ z1586 ∧ z1586 ≤ 3) (h17 : (-2147483648) ≤ z1588 ∧ z1588 ≤ 2147483647) (h18 : 0 ≤ z3021 ∧ z3021 ≤ 0) (h19 : 0 ≤ z3121 ∧ z3121 ≤ 0) : z3121 = 0 := by omega
theorem vc_X12_test_Wx_20 {z1580 z1586 z1588 z3134 : Int} (h0 : ¬ z3134 = 0) (h1 : (z3134 = 1 → z1580 = 0 ∧ z1586 = 3 ∧ z1588 = (62 : Int))) (h2 : (z3134 = 0 → ¬ z1580 = 0 ∨ ¬ z1586 = 3 ∨ ¬ z1588 = (62 : Int))) (h3 : 0 ≤ z1580 ∧ z1580 ≤ 4) (h4 : 0 ≤ z1586 ∧ z1586 ≤ 3) (h5 : (-2147483648) ≤ z1588 ∧ z1588 ≤ 2147483647) (h6 : 0 ≤ z3134 ∧ z3134 ≤ 1) : 1 ≤ z3134 ∧ z3134 ≤ 1 := by omega
theorem vc_X12_test_Wx_21 {z1547 z1580 z1582 z1584 z1586 z1588 z3021 z3121 z3134 : Int} (h0 : (z3134 = 1 → z1580 = 0 ∧ z1586 = 3 ∧ z1588 = (62 : Int))) (h1 : (z3134 = 0 → ¬ z1580 = 0 ∨ ¬ z1586 = 3 ∨ ¬ z1588 = (62 : Int))) (h2 : ¬ z3134 = 0) (h3 : z1580 = 0 → z1547 = 0) (h4 : z1547 = 0 ∨ 1 ≤ z1580) (h5 : z1580 = 0 → z1584 ≤ z1582) (h6 : z1580 = 0 → z1586 = 0 ∨ z1584 + 1 ≤ z1582) (h7 : z1580 = 0 → z1586 = 1 → z1584 + 2 ≤ z1582) (h8 : z1580 = 0 → z1586 = 1 → z1588 = 0 ∨ z1588 = 4 ∨ z1588 = 5 ∨ z1584 + 3 ≤ z1582) (h9 : (z3021 = 1 → z1580 = 0 ∧ z1586 = 3 ∧ z1588 = (60 : Int))) (h10 : (z3021 = 0 → ¬ z1580 = 0 ∨ ¬ z1586 = 3 ∨ ¬ z1588 = (60 : Int))) (h11 : ¬ z1580 = 0 ∨ ¬ z1586 = 3 ∨ ¬ z1588 = (60 : Int)) (h12 : (z3121 = 1 → z1580 = 0 ∧ z1586 = 3 ∧ z1588 = (61 : Int))) (h13 : (z3121 = 0 → ¬ z1580 = 0 ∨ ¬ z1586 = 3 ∨ ¬ z1588 = (61 : Int))) (h14 : ¬ z1580 = 0 ∨ ¬ z1586 = 3 ∨ ¬ z1588 = (61 : Int)) (h15 : 0 ≤ z1547 ∧ z1547 ≤ 0) (h16 : 0 ≤ z1580 ∧ z1580 ≤ 4) (h17 : 0 ≤ z1582 ∧ z1582 ≤ 1000) (h18 : 0 ≤ z1584 ∧ z1584 ≤ 1000) (h19 : 0 ≤ z1586 ∧ z1586 ≤ 3) (h20 : (-2147483648) ≤ z1588 ∧ z1588 ≤ 2147483647) (h21 : 0 ≤ z3021 ∧ z3021 ≤ 0) (h22 : 0 ≤ z3121 ∧ z3121 ≤ 0) (h23 : 1 ≤ z3134 ∧ z3134 ≤ 1) : z3134 = 1 := by omega
theorem vc_X12_test_Wx_22 {z1580 z1586 z1588 z3021 z3121 z3134 : Int} (h0 : z1580 = 0 ∧ z1586 = 3 ∧ z1588 = (62 : Int)) (h1 : (z3021 = 0 → ¬ z1580 = 0 ∨ ¬ z1586 = 3 ∨ ¬ z1588 = (60 : Int))) (h2 : ¬ z1580 = 0 ∨ ¬ z1586 = 3 ∨ ¬ z1588 = (60 : Int)) (h3 : (z3121 = 1 → z1580 = 0 ∧ z1586 = 3 ∧ z1588 = (61 : Int))) (h4 : (z3121 = 0 → ¬ z1580 = 0 ∨ ¬ z1586 = 3 ∨ ¬ z1588 = (61 : Int))) (h5 : ¬ z1580 = 0 ∨ ¬ z1586 = 3 ∨ ¬ z1588 = (61 : Int)) (h6 : (z3134 = 1 → z1580 = 0 ∧ z1586 = 3 ∧ z1588 = (62 : Int))) (h7 : (z3134 = 0 → ¬ z1580 = 0 ∨ ¬ z1586 = 3 ∨ ¬ z1588 = (62 : Int))) (h8 : 0 ≤ z1580 ∧ z1580 ≤ 4) (h9 : 0 ≤ z1586 ∧ z1586 ≤ 3) (h10 : (-2147483648) ≤ z1588 ∧ z1588 ≤ 2147483647) (h11 : 0 ≤ z3021 ∧ z3021 ≤ 0) (h12 : 0 ≤ z3121 ∧ z3121 ≤ 0) (h13 : 1 ≤ z3134 ∧ z3134 ≤ 1) : 62 ≤ z1588 ∧ z1588 ≤ 62 := by omega
theorem vc_X12_test_Wx_23 {z1580 z1586 z1588 z3021 z3121 z3134 : Int} (h0 : z1580 = 0 ∧ z1586 = 3 ∧ z1588 = (62 : Int)) (h1 : (z3021 = 0 → ¬ z1580 = 0 ∨ ¬ z1586 = 3 ∨ ¬ z1588 = (60 : Int))) (h2 : ¬ z1580 = 0 ∨ ¬ z1586 = 3 ∨ ¬ z1588 = (60 : Int)) (h3 : (z3121 = 1 → z1580 = 0 ∧ z1586 = 3 ∧ z1588 = (61 : Int))) (h4 : (z3121 = 0 → ¬ z1580 = 0 ∨ ¬ z1586 = 3 ∨ ¬ z1588 = (61 : Int))) (h5 : ¬ z1580 = 0 ∨ ¬ z1586 = 3 ∨ ¬ z1588 = (61 : Int)) (h6 : (z3134 = 1 → z1580 = 0 ∧ z1586 = 3 ∧ z1588 = (62 : Int))) (h7 : (z3134 = 0 → ¬ z1580 = 0 ∨ ¬ z1586 = 3 ∨ ¬ z1588 = (62 : Int))) (h8 : 0 ≤ z1580 ∧ z1580 ≤ 4) (h9 : 0 ≤ z1586 ∧ z1586 ≤ 3) (h10 : 62 ≤ z1588 ∧ z1588 ≤ 62) (h11 : 0 ≤ z3021 ∧ z3021 ≤ 0) (h12 : 0 ≤ z3121 ∧ z3121 ≤ 0) (h13 : 1 ≤ z3134 ∧ z3134 ≤ 1) : 3 ≤ z1586 ∧ z1586 ≤ 3 := by omega
theorem vc_X12_test_Wx_24 {z1580 z1586 z1588 z3021 z3121 z3134 : Int} (h0 : z1580 = 0 ∧ z1586 = 3 ∧ z1588 = (62 : Int)) (h1 : (z3021 = 0 → ¬ z1580 = 0 ∨ ¬ z1586 = 3 ∨ ¬ z1588 = (60 : Int))) (h2 : ¬ z1580 = 0 ∨ ¬ z1586 = 3 ∨ ¬ z1588 = (60 : Int)) (h3 : (z3121 = 1 → z1580 = 0 ∧ z1586 = 3 ∧ z1588 = (61 : Int))) (h4 : (z3121 = 0 → ¬ z1580 = 0 ∨ ¬ z1586 = 3 ∨ ¬ z1588 = (61 : Int))) (h5 : ¬ z1580 = 0 ∨ ¬ z1586 = 3 ∨ ¬ z1588 = (61 : Int)) (h6 : (z3134 = 1 → z1580 = 0 ∧ z1586 = 3 ∧ z1588 = (62 : Int))) (h7 : (z3134 = 0 → ¬ z1580 = 0 ∨ ¬ z1586 = 3 ∨ ¬ z1588 = (62 : Int))) (h8 : 0 ≤ z1580 ∧ z1580 ≤ 4) (h9 : 3 ≤ z1586 ∧ z1586 ≤ 3) (h10 : 62 ≤ z1588 ∧ z1588 ≤ 62) (h11 : 0 ≤ z3021 ∧ z3021 ≤ 0) (h12 : 0 ≤ z3121 ∧ z3121 ≤ 0) (h13 : 1 ≤ z3134 ∧ z3134 ≤ 1) : 0 ≤ z1580 ∧ z1580 ≤ 0 := by omega
theorem vc_X12_test_Wx_25 {z1580 z1586 z1588 z3134 : Int} (h0 : z3134 = 0) (h1 : (z3134 = 1 → z1580 = 0 ∧ z1586 = 3 ∧ z1588 = (62 : Int))) (h2 : (z3134 = 0 → ¬ z1580 = 0 ∨ ¬ z1586 = 3 ∨ ¬ z1588 = (62 : Int))) (h3 : 0 ≤ z1580 ∧ z1580 ≤ 4) (h4 : 0 ≤ z1586 ∧ z1586 ≤ 3) (h5 : (-2147483648) ≤ z1588 ∧ z1588 ≤ 2147483647) (h6 : 0 ≤ z3134 ∧ z3134 ≤ 1) : 0 ≤ z3134 ∧ z3134 ≤ 0 := by omega
theorem vc_X12_test_Wx_26 {z1547 z1580 z1582 z1584 z1586 z1588 z3021 z3121 z3134 : Int} (h0 : (z3134 = 1 → z1580 = 0 ∧ z1586 = 3 ∧ z1588 = (62 : Int))) (h1 : (z3134 = 0 → ¬ z1580 = 0 ∨ ¬ z1586 = 3 ∨ ¬ z1588 = (62 : Int))) (h2 : z3134 = 0) (h3 : z1580 = 0 → z1547 = 0) (h4 : z1547 = 0 ∨ 1 ≤ z1580) (h5 : z1580 = 0 → z1584 ≤ z1582) (h6 : z1580 = 0 → z1586 = 0 ∨ z1584 + 1 ≤ z1582) (h7 : z1580 = 0 → z1586 = 1 → z1584 + 2 ≤ z1582) (h8 : z1580 = 0 → z1586 = 1 → z1588 = 0 ∨ z1588 = 4 ∨ z1588 = 5 ∨ z1584 + 3 ≤ z1582) (h9 : (z3021 = 1 → z1580 = 0 ∧ z1586 = 3 ∧ z1588 = (60 : Int))) (h10 : (z3021 = 0 → ¬ z1580 = 0 ∨ ¬ z1586 = 3 ∨ ¬ z1588 = (60 : Int))) (h11 : ¬ z1580 = 0 ∨ ¬ z1586 = 3 ∨ ¬ z1588 = (60 : Int)) (h12 : (z3121 = 1 → z1580 = 0 ∧ z1586 = 3 ∧ z1588 = (61 : Int))) (h13 : (z3121 = 0 → ¬ z1580 = 0 ∨ ¬ z1586 = 3 ∨ ¬ z1588 = (61 : Int))) (h14 : ¬ z1580 = 0 ∨ ¬ z1586 = 3 ∨ ¬ z1588 = (61 : Int)) (h15 : 0 ≤ z1547 ∧ z1547 ≤ 0) (h16 : 0 ≤ z1580 ∧ z1580 ≤ 4) (h17 : 0 ≤ z1582 ∧ z1582 ≤ 1000) (h18 : 0 ≤ z1584 ∧ z1584 ≤ 1000) (h19 : 0 ≤ z1586 ∧ z1586 ≤ 3) (h20 : (-2147483648) ≤ z1588 ∧ z1588 ≤ 2147483647) (h21 : 0 ≤ z3021 ∧ z3021 ≤ 0) (h22 : 0 ≤ z3121 ∧ z3121 ≤ 0) (h23 : 0 ≤ z3134 ∧ z3134 ≤ 0) : z3134 = 0 := by omega
theorem vc_X12_test_Wx_27 {z1441 z1444 z1447 : Int} (h0 : z1447 = 14) (h1 : ¬ z1441 = 0 ∨ ¬ z1444 = 1 ∨ ¬ z1447 = (3 : Int)) (h2 : ¬ z1447 = 4) (h3 : ¬ z1447 = 6) (h4 : ¬ z1447 = 8) (h5 : ¬ z1447 = 9) (h6 : ¬ z1447 = 10) (h7 : ¬ z1447 = 15) (h8 : 0 ≤ z1441 ∧ z1441 ≤ 4) (h9 : 0 ≤ z1444 ∧ z1444 ≤ 3) (h10 : (-2147483648) ≤ z1447 ∧ z1447 ≤ 2147483647) : 14 ≤ z1447 ∧ z1447 ≤ 14 := by omega
theorem vc_X12_test_Wx_28 {z1441 z1444 z1447 z1454 : Int} (h0 : z1447 = 15) (h1 : (z1454 = 0 → ¬ z1441 = 0 ∨ ¬ z1444 = 1 ∨ ¬ z1447 = (3 : Int))) (h2 : ¬ z1441 = 0 ∨ ¬ z1444 = 1 ∨ ¬ z1447 = (3 : Int)) (h3 : ¬ z1447 = 4) (h4 : ¬ z1447 = 6) (h5 : ¬ z1447 = 8) (h6 : ¬ z1447 = 9) (h7 : ¬ z1447 = 10) (h8 : 0 ≤ z1441 ∧ z1441 ≤ 4) (h9 : 0 ≤ z1444 ∧ z1444 ≤ 3) (h10 : (-2147483648) ≤ z1447 ∧ z1447 ≤ 2147483647) (h11 : 0 ≤ z1454 ∧ z1454 ≤ 0) : 15 ≤ z1447 ∧ z1447 ≤ 15 := by omega
theorem vc_X12_test_Wx_29 {z1580 z1582 z1584 z1586 z1588 : Int} (h0 : z1586 = 1) (h1 : z1580 = 0 → z1586 = 0 ∨ z1584 + 1 ≤ z1582) (h2 : z1580 = 0 → z1586 = 1 → z1584 + 2 ≤ z1582) (h3 : z1580 = 0 → z1586 = 1 → z1588 = 0 ∨ z1588 = 4 ∨ z1588 = 5 ∨ z1584 + 3 ≤ z1582) (h4 : 0 ≤ z1580 ∧ z1580 ≤ 4) (h5 : 0 ≤ z1582 ∧ z1582 ≤ 1000) (h6 : 0 ≤ z1584 ∧ z1584 ≤ 1000) (h7 : 0 ≤ z1586 ∧ z1586 ≤ 3) (h8 : (-2147483648) ≤ z1588 ∧ z1588 ≤ 2147483647) : 1 ≤ z1586 ∧ z1586 ≤ 1 := by omega
theorem vc_X12_test_Wx_30 {z1588 z3218 : Int} (h0 : ¬ z3218 = 0) (h1 : (z3218 = 1 → (20 : Int) ≤ z1588 ∧ z1588 ≤ (22 : Int))) (h2 : (z3218 = 0 → z1588 < (20 : Int) ∨ (22 : Int) < z1588)) (h3 : (-2147483648) ≤ z1588 ∧ z1588 ≤ 2147483647) (h4 : 0 ≤ z3218 ∧ z3218 ≤ 1) : 1 ≤ z3218 ∧ z3218 ≤ 1 := by omega
theorem vc_X12_test_Wx_31 {z1580 z1582 z1584 z1586 z1588 z3218 : Int} (h0 : (z3218 = 1 → (20 : Int) ≤ z1588 ∧ z1588 ≤ (22 : Int))) (h1 : (z3218 = 0 → z1588 < (20 : Int) ∨ (22 : Int) < z1588)) (h2 : ¬ z3218 = 0) (h3 : z1580 = 0 → z1586 = 1 → z1588 = 0 ∨ z1588 = 4 ∨ z1588 = 5 ∨ z1584 + 3 ≤ z1582) (h4 : 0 ≤ z1580 ∧ z1580 ≤ 4) (h5 : 0 ≤ z1582 ∧ z1582 ≤ 1000) (h6 : 0 ≤ z1584 ∧ z1584 ≤ 1000) (h7 : 1 ≤ z1586 ∧ z1586 ≤ 1) (h8 : (-2147483648) ≤ z1588 ∧ z1588 ≤ 2147483647) (h9 : 1 ≤ z3218 ∧ z3218 ≤ 1) : z3218 = 1 := by omega
theorem vc_X12_test_Wx_32 {z1580 z1582 z1584 z1586 z1588 z3218 : Int} (h0 : (20 : Int) ≤ z1588 ∧ z1588 ≤ (22 : Int)) (h1 : z1580 = 0 → z1586 = 1 → z1588 = 0 ∨ z1588 = 4 ∨ z1588 = 5 ∨ z1584 + 3 ≤ z1582) (h2 : (z3218 = 1 → (20 : Int) ≤ z1588 ∧ z1588 ≤ (22 : Int))) (h3 : (z3218 = 0 → z1588 < (20 : Int) ∨ (22 : Int) < z1588)) (h4 : 0 ≤ z1580 ∧ z1580 ≤ 4) (h5 : 0 ≤ z1582 ∧ z1582 ≤ 1000) (h6 : 0 ≤ z1584 ∧ z1584 ≤ 1000) (h7 : 1 ≤ z1586 ∧ z1586 ≤ 1) (h8 : (-2147483648) ≤ z1588 ∧ z1588 ≤ 2147483647) (h9 : 1 ≤ z3218 ∧ z3218 ≤ 1) : 20 ≤ z1588 ∧ z1588 ≤ 22 := by omega
theorem vc_X12_test_Wx_33 {z1588 z3218 : Int} (h0 : z3218 = 0) (h1 : (z3218 = 1 → (20 : Int) ≤ z1588 ∧ z1588 ≤ (22 : Int))) (h2 : (z3218 = 0 → z1588 < (20 : Int) ∨ (22 : Int) < z1588)) (h3 : (-2147483648) ≤ z1588 ∧ z1588 ≤ 2147483647) (h4 : 0 ≤ z3218 ∧ z3218 ≤ 1) : 0 ≤ z3218 ∧ z3218 ≤ 0 := by omega
theorem vc_X12_test_Wx_34 {z1580 z1582 z1584 z1586 z1588 z3218 : Int} (h0 : (z3218 = 1 → (20 : Int) ≤ z1588 ∧ z1588 ≤ (22 : Int))) (h1 : (z3218 = 0 → z1588 < (20 : Int) ∨ (22 : Int) < z1588)) (h2 : z3218 = 0) (h3 : z1580 = 0 → z1586 = 1 → z1588 = 0 ∨ z1588 = 4 ∨ z1588 = 5 ∨ z1584 + 3 ≤ z1582) (h4 : 0 ≤ z1580 ∧ z1580 ≤ 4) (h5 : 0 ≤ z1582 ∧ z1582 ≤ 1000) (h6 : 0 ≤ z1584 ∧ z1584 ≤ 1000) (h7 : 1 ≤ z1586 ∧ z1586 ≤ 1) (h8 : (-2147483648) ≤ z1588 ∧ z1588 ≤ 2147483647) (h9 : 0 ≤ z3218 ∧ z3218 ≤ 0) : z3218 = 0 := by omega
theorem vc_X12_test_Wx_35 {z1441 z1444 z1447 z1454 : Int} (h0 : z1447 = 10) (h1 : (z1454 = 1 → z1441 = 0 ∧ z1444 = 1 ∧ z1447 = (3 : Int))) (h2 : (z1454 = 0 → ¬ z1441 = 0 ∨ ¬ z1444 = 1 ∨ ¬ z1447 = (3 : Int))) (h3 : ¬ z1441 = 0 ∨ ¬ z1444 = 1 ∨ ¬ z1447 = (3 : Int)) (h4 : ¬ z1447 = 4) (h5 : ¬ z1447 = 6) (h6 : ¬ z1447 = 8) (h7 : ¬ z1447 = 9) (h8 : 0 ≤ z1441 ∧ z1441 ≤ 4) (h9 : 0 ≤ z1444 ∧ z1444 ≤ 3) (h10 : (-2147483648) ≤ z1447 ∧ z1447 ≤ 2147483647) (h11 : 0 ≤ z1454 ∧ z1454 ≤ 0) : 10 ≤ z1447 ∧ z1447 ≤ 10 := by omega
theorem vc_X12_test_Wx_36 {z1588 z3291 : Int} (h0 : ¬ z3291 = 0) (h1 : (z3291 = 1 → (16 : Int) ≤ z1588 ∧ z1588 ≤ (19 : Int))) (h2 : (z3291 = 0 → z1588 < (16 : Int) ∨ (19 : Int) < z1588)) (h3 : (-2147483648) ≤ z1588 ∧ z1588 ≤ 2147483647) (h4 : 0 ≤ z3291 ∧ z3291 ≤ 1) : 1 ≤ z3291 ∧ z3291 ≤ 1 := by omega
theorem vc_X12_test_Wx_37 {z1580 z1582 z1584 z1586 z1588 z3291 : Int} (h0 : (z3291 = 1 → (16 : Int) ≤ z1588 ∧ z1588 ≤ (19 : Int))) (h1 : (z3291 = 0 → z1588 < (16 : Int) ∨ (19 : Int) < z1588)) (h2 : ¬ z3291 = 0) (h3 : z1580 = 0 → z1586 = 1 → z1588 = 0 ∨ z1588 = 4 ∨ z1588 = 5 ∨ z1584 + 3 ≤ z1582) (h4 : 0 ≤ z1580 ∧ z1580 ≤ 4) (h5 : 0 ≤ z1582 ∧ z1582 ≤ 1000) (h6 : 0 ≤ z1584 ∧ z1584 ≤ 1000) (h7 : 1 ≤ z1586 ∧ z1586 ≤ 1) (h8 : (-2147483648) ≤ z1588 ∧ z1588 ≤ 2147483647) (h9 : 1 ≤ z3291 ∧ z3291 ≤ 1) : z3291 = 1 := by omega
theorem vc_X12_test_Wx_38 {z1580 z1582 z1584 z1586 z1588 z3291 : Int} (h0 : (16 : Int) ≤ z1588 ∧ z1588 ≤ (19 : Int)) (h1 : z1580 = 0 → z1586 = 1 → z1588 = 0 ∨ z1588 = 4 ∨ z1588 = 5 ∨ z1584 + 3 ≤ z1582) (h2 : (z3291 = 1 → (16 : Int) ≤ z1588 ∧ z1588 ≤ (19 : Int))) (h3 : (z3291 = 0 → z1588 < (16 : Int) ∨ (19 : Int) < z1588)) (h4 : 0 ≤ z1580 ∧ z1580 ≤ 4) (h5 : 0 ≤ z1582 ∧ z1582 ≤ 1000) (h6 : 0 ≤ z1584 ∧ z1584 ≤ 1000) (h7 : 1 ≤ z1586 ∧ z1586 ≤ 1) (h8 : (-2147483648) ≤ z1588 ∧ z1588 ≤ 2147483647) (h9 : 1 ≤ z3291 ∧ z3291 ≤ 1) : 16 ≤ z1588 ∧ z1588 ≤ 19 := by omega
theorem vc_X12_test_Wx_39 {z1588 z3291 : Int} (h0 : z3291 = 0) (h1 : (z3291 = 1 → (16 : Int) ≤ z1588 ∧ z1588 ≤ (19 : Int))) (h2 : (z3291 = 0 → z1588 < (16 : Int) ∨ (19 : Int) < z1588)) (h3 : (-2147483648) ≤ z1588 ∧ z1588 ≤ 2147483647) (h4 : 0 ≤ z3291 ∧ z3291 ≤ 1) : 0 ≤ z3291 ∧ z3291 ≤ 0 := by omega
theorem vc_X12_test_Wx_40 {z1580 z1582 z1584 z1586 z1588 z3291 : Int} (h0 : (z3291 = 1 → (16 : Int) ≤ z1588 ∧ z1588 ≤ (19 : Int))) (h1 : (z3291 = 0 → z1588 < (16 : Int) ∨ (19 : Int) < z1588)) (h2 : z3291 = 0) (h3 : z1580 = 0 → z1586 = 1 → z1588 = 0 ∨ z1588 = 4 ∨ z1588 = 5 ∨ z1584 + 3 ≤ z1582) (h4 : 0 ≤ z1580 ∧ z1580 ≤ 4) (h5 : 0 ≤ z1582 ∧ z1582 ≤ 1000) (h6 : 0 ≤ z1584 ∧ z1584 ≤ 1000) (h7 : 1 ≤ z1586 ∧ z1586 ≤ 1) (h8 : (-2147483648) ≤ z1588 ∧ z1588 ≤ 2147483647) (h9 : 0 ≤ z3291 ∧ z3291 ≤ 0) : z3291 = 0 := by omega
theorem vc_X12_test_Wx_41 {z1441 z1444 z1447 z1454 : Int} (h0 : z1447 = 9) (h1 : (z1454 = 1 → z1441 = 0 ∧ z1444 = 1 ∧ z1447 = (3 : Int))) (h2 : (z1454 = 0 → ¬ z1441 = 0 ∨ ¬ z1444 = 1 ∨ ¬ z1447 = (3 : Int))) (h3 : ¬ z1441 = 0 ∨ ¬ z1444 = 1 ∨ ¬ z1447 = (3 : Int)) (h4 : ¬ z1447 = 4) (h5 : ¬ z1447 = 6) (h6 : ¬ z1447 = 8) (h7 : 0 ≤ z1441 ∧ z1441 ≤ 4) (h8 : 0 ≤ z1444 ∧ z1444 ≤ 3) (h9 : (-2147483648) ≤ z1447 ∧ z1447 ≤ 2147483647) (h10 : 0 ≤ z1454 ∧ z1454 ≤ 0) : 9 ≤ z1447 ∧ z1447 ≤ 9 := by omega
theorem vc_X12_test_Wx_42 {z1441 z1444 z1447 z1454 : Int} (h0 : z1447 = 8) (h1 : (z1454 = 1 → z1441 = 0 ∧ z1444 = 1 ∧ z1447 = (3 : Int))) (h2 : (z1454 = 0 → ¬ z1441 = 0 ∨ ¬ z1444 = 1 ∨ ¬ z1447 = (3 : Int))) (h3 : ¬ z1441 = 0 ∨ ¬ z1444 = 1 ∨ ¬ z1447 = (3 : Int)) (h4 : ¬ z1447 = 4) (h5 : ¬ z1447 = 6) (h6 : 0 ≤ z1441 ∧ z1441 ≤ 4) (h7 : 0 ≤ z1444 ∧ z1444 ≤ 3) (h8 : (-2147483648) ≤ z1447 ∧ z1447 ≤ 2147483647) (h9 : 0 ≤ z1454 ∧ z1454 ≤ 0) : 8 ≤ z1447 ∧ z1447 ≤ 8 := by omega
theorem vc_X12_test_Wx_43 {z1441 z1444 z1447 z1454 : Int} (h0 : z1447 = 6) (h1 : (z1454 = 1 → z1441 = 0 ∧ z1444 = 1 ∧ z1447 = (3 : Int))) (h2 : (z1454 = 0 → ¬ z1441 = 0 ∨ ¬ z1444 = 1 ∨ ¬ z1447 = (3 : Int))) (h3 : ¬ z1441 = 0 ∨ ¬ z1444 = 1 ∨ ¬ z1447 = (3 : Int)) (h4 : ¬ z1447 = 4) (h5 : 0 ≤ z1441 ∧ z1441 ≤ 4) (h6 : 0 ≤ z1444 ∧ z1444 ≤ 3) (h7 : (-2147483648) ≤ z1447 ∧ z1447 ≤ 2147483647) (h8 : 0 ≤ z1454 ∧ z1454 ≤ 0) : 6 ≤ z1447 ∧ z1447 ≤ 6 := by omega
theorem vc_X12_test_Wx_44 {z1441 z1444 z1447 z1454 : Int} (h0 : z1447 = 4) (h1 : (z1454 = 1 → z1441 = 0 ∧ z1444 = 1 ∧ z1447 = (3 : Int))) (h2 : (z1454 = 0 → ¬ z1441 = 0 ∨ ¬ z1444 = 1 ∨ ¬ z1447 = (3 : Int))) (h3 : ¬ z1441 = 0 ∨ ¬ z1444 = 1 ∨ ¬ z1447 = (3 : Int)) (h4 : 0 ≤ z1441 ∧ z1441 ≤ 4) (h5 : 0 ≤ z1444 ∧ z1444 ≤ 3) (h6 : (-2147483648) ≤ z1447 ∧ z1447 ≤ 2147483647) (h7 : 0 ≤ z1454 ∧ z1454 ≤ 0) : 4 ≤ z1447 ∧ z1447 ≤ 4 := by omega
theorem vc_X12_test_Wx_45 {z3393 z3396 z3399 z3406 : Int} (h0 : z3406 = 0) (h1 : (z3406 = 1 → z3393 = 0 ∧ z3396 = 1 ∧ z3399 = (5 : Int))) (h2 : (z3406 = 0 → ¬ z3393 = 0 ∨ ¬ z3396 = 1 ∨ ¬ z3399 = (5 : Int))) (h3 : 0 ≤ z3393 ∧ z3393 ≤ 4) (h4 : 0 ≤ z3396 ∧ z3396 ≤ 3) (h5 : (-2147483648) ≤ z3399 ∧ z3399 ≤ 2147483647) (h6 : 0 ≤ z3406 ∧ z3406 ≤ 1) : 0 ≤ z3406 ∧ z3406 ≤ 0 := by omega
theorem vc_X12_test_Wx_46 {z3393 z3396 z3399 z3406 : Int} (h0 : (z3406 = 1 → z3393 = 0 ∧ z3396 = 1 ∧ z3399 = (5 : Int))) (h1 : (z3406 = 0 → ¬ z3393 = 0 ∨ ¬ z3396 = 1 ∨ ¬ z3399 = (5 : Int))) (h2 : z3406 = 0) (h3 : 0 ≤ z3393 ∧ z3393 ≤ 4) (h4 : 0 ≤ z3396 ∧ z3396 ≤ 3) (h5 : (-2147483648) ≤ z3399 ∧ z3399 ≤ 2147483647) (h6 : 0 ≤ z3406 ∧ z3406 ≤ 0) : z3406 = 0 := by omega
theorem vc_X12_test_Wx_47 {z3393 z3396 z3399 z3406 : Int} (h0 : ¬ z3406 = 0) (h1 : (z3406 = 1 → z3393 = 0 ∧ z3396 = 1 ∧ z3399 = (5 : Int))) (h2 : (z3406 = 0 → ¬ z3393 = 0 ∨ ¬ z3396 = 1 ∨ ¬ z3399 = (5 : Int))) (h3 : 0 ≤ z3393 ∧ z3393 ≤ 4) (h4 : 0 ≤ z3396 ∧ z3396 ≤ 3) (h5 : (-2147483648) ≤ z3399 ∧ z3399 ≤ 2147483647) (h6 : 0 ≤ z3406 ∧ z3406 ≤ 1) : 1 ≤ z3406 ∧ z3406 ≤ 1 := by omega
theorem vc_X12_test_Wx_48 {z3393 z3396 z3399 z3406 : Int} (h0 : (z3406 = 1 → z3393 = 0 ∧ z3396 = 1 ∧ z3399 = (5 : Int))) (h1 : (z3406 = 0 → ¬ z3393 = 0 ∨ ¬ z3396 = 1 ∨ ¬ z3399 = (5 : Int))) (h2 : ¬ z3406 = 0) (h3 : 0 ≤ z3393 ∧ z3393 ≤ 4) (h4 : 0 ≤ z3396 ∧ z3396 ≤ 3) (h5 : (-2147483648) ≤ z3399 ∧ z3399 ≤ 2147483647) (h6 : 1 ≤ z3406 ∧ z3406 ≤ 1) : z3406 = 1 := by omega
theorem vc_X12_test_Wx_49 {z3393 z3396 z3399 z3406 : Int} (h0 : z3393 = 0 ∧ z3396 = 1 ∧ z3399 = (5 : Int)) (h1 : (z3406 = 1 → z3393 = 0 ∧ z3396 = 1 ∧ z3399 = (5 : Int))) (h2 : (z3406 = 0 → ¬ z3393 = 0 ∨ ¬ z3396 = 1 ∨ ¬ z3399 = (5 : Int))) (h3 : 0 ≤ z3393 ∧ z3393 ≤ 4) (h4 : 0 ≤ z3396 ∧ z3396 ≤ 3) (h5 : (-2147483648) ≤ z3399 ∧ z3399 ≤ 2147483647) (h6 : 1 ≤ z3406 ∧ z3406 ≤ 1) : 1 ≤ z3396 ∧ z3396 ≤ 1 := by omega
theorem vc_X12_test_Wx_50 {z3393 z3396 z3399 z3406 : Int} (h0 : z3393 = 0 ∧ z3396 = 1 ∧ z3399 = (5 : Int)) (h1 : (z3406 = 1 → z3393 = 0 ∧ z3396 = 1 ∧ z3399 = (5 : Int))) (h2 : (z3406 = 0 → ¬ z3393 = 0 ∨ ¬ z3396 = 1 ∨ ¬ z3399 = (5 : Int))) (h3 : 0 ≤ z3393 ∧ z3393 ≤ 4) (h4 : 1 ≤ z3396 ∧ z3396 ≤ 1) (h5 : (-2147483648) ≤ z3399 ∧ z3399 ≤ 2147483647) (h6 : 1 ≤ z3406 ∧ z3406 ≤ 1) : 5 ≤ z3399 ∧ z3399 ≤ 5 := by omega
theorem vc_X12_test_Wx_51 {z3393 z3396 z3399 z3406 : Int} (h0 : z3393 = 0 ∧ z3396 = 1 ∧ z3399 = (5 : Int)) (h1 : (z3406 = 1 → z3393 = 0 ∧ z3396 = 1 ∧ z3399 = (5 : Int))) (h2 : (z3406 = 0 → ¬ z3393 = 0 ∨ ¬ z3396 = 1 ∨ ¬ z3399 = (5 : Int))) (h3 : 0 ≤ z3393 ∧ z3393 ≤ 4) (h4 : 1 ≤ z3396 ∧ z3396 ≤ 1) (h5 : 5 ≤ z3399 ∧ z3399 ≤ 5) (h6 : 1 ≤ z3406 ∧ z3406 ≤ 1) : 0 ≤ z3393 ∧ z3393 ≤ 0 := by omega
theorem vc_X12_test_Wx_62 {z1441 z1444 z1447 z1454 : Int} (h0 : z1444 = 1) (h1 : (z1454 = 1 → z1441 = 0 ∧ z1444 = 1 ∧ z1447 = (3 : Int))) (h2 : (z1454 = 0 → ¬ z1441 = 0 ∨ ¬ z1444 = 1 ∨ ¬ z1447 = (3 : Int))) (h3 : ¬ z1441 = 0 ∨ ¬ z1444 = 1 ∨ ¬ z1447 = (3 : Int)) (h4 : 0 ≤ z1441 ∧ z1441 ≤ 4) (h5 : 0 ≤ z1444 ∧ z1444 ≤ 3) (h6 : (-2147483648) ≤ z1447 ∧ z1447 ≤ 2147483647) (h7 : 0 ≤ z1454 ∧ z1454 ≤ 0) : 1 ≤ z1444 ∧ z1444 ≤ 1 := by omega
theorem vc_X12_test_Wx_63 {z1441 z1444 z1447 z1454 : Int} (h0 : z1447 = 4) (h1 : (z1454 = 1 → z1441 = 0 ∧ z1444 = 1 ∧ z1447 = (3 : Int))) (h2 : (z1454 = 0 → ¬ z1441 = 0 ∨ ¬ z1444 = 1 ∨ ¬ z1447 = (3 : Int))) (h3 : ¬ z1441 = 0 ∨ ¬ z1444 = 1 ∨ ¬ z1447 = (3 : Int)) (h4 : 0 ≤ z1441 ∧ z1441 ≤ 4) (h5 : 1 ≤ z1444 ∧ z1444 ≤ 1) (h6 : (-2147483648) ≤ z1447 ∧ z1447 ≤ 2147483647) (h7 : 0 ≤ z1454 ∧ z1454 ≤ 0) : 4 ≤ z1447 ∧ z1447 ≤ 4 := by omega
theorem vc_X12_test_Wx_64 {z1441 z1444 z1447 z1454 : Int} (h0 : z1447 = 6) (h1 : (z1454 = 1 → z1441 = 0 ∧ z1444 = 1 ∧ z1447 = (3 : Int))) (h2 : (z1454 = 0 → ¬ z1441 = 0 ∨ ¬ z1444 = 1 ∨ ¬ z1447 = (3 : Int))) (h3 : ¬ z1441 = 0 ∨ ¬ z1444 = 1 ∨ ¬ z1447 = (3 : Int)) (h4 : ¬ z1447 = 4) (h5 : 0 ≤ z1441 ∧ z1441 ≤ 4) (h6 : 1 ≤ z1444 ∧ z1444 ≤ 1) (h7 : (-2147483648) ≤ z1447 ∧ z1447 ≤ 2147483647) (h8 : 0 ≤ z1454 ∧ z1454 ≤ 0) : 6 ≤ z1447 ∧ z1447 ≤ 6 := by omega
theorem vc_X12_test_Wx_65 {z1447 z3541 : Int} (h0 : ¬ z3541 = 0) (h1 : (z3541 = 1 → (8 : Int) ≤ z1447 ∧ z1447 ≤ (15 : Int))) (h2 : (z3541 = 0 → z1447 < (8 : Int) ∨ (15 : Int) < z1447)) (h3 : (-2147483648) ≤ z1447 ∧ z1447 ≤ 2147483647) (h4 : 0 ≤ z3541 ∧ z3541 ≤ 1) : 1 ≤ z3541 ∧ z3541 ≤ 1 := by omega
theorem vc_X12_test_Wx_66 {z1441 z1444 z1447 z1454 z3541 : Int} (h0 : (z3541 = 1 → (8 : Int) ≤ z1447 ∧ z1447 ≤ (15 : Int))) (h1 : (z3541 = 0 → z1447 < (8 : Int) ∨ (15 : Int) < z1447)) (h2 : ¬ z3541 = 0) (h3 : (z1454 = 1 → z1441 = 0 ∧ z1444 = 1 ∧ z1447 = (3 : Int))) (h4 : (z1454 = 0 → ¬ z1441 = 0 ∨ ¬ z1444 = 1 ∨ ¬ z1447 = (3 : Int))) (h5 : ¬ z1441 = 0 ∨ ¬ z1444 = 1 ∨ ¬ z1447 = (3 : Int)) (h6 : ¬ z1447 = 4) (h7 : ¬ z1447 = 6) (h8 : 0 ≤ z1441 ∧ z1441 ≤ 4) (h9 : 1 ≤ z1444 ∧ z1444 ≤ 1) (h10 : (-2147483648) ≤ z1447 ∧ z1447 ≤ 2147483647) (h11 : 0 ≤ z1454 ∧ z1454 ≤ 0) (h12 : 1 ≤ z3541 ∧ z3541 ≤ 1) : z3541 = 1 := by omega
theorem vc_X12_test_Wx_67 {z1441 z1444 z1447 z1454 z3541 : Int} (h0 : (8 : Int) ≤ z1447 ∧ z1447 ≤ (15 : Int)) (h1 : (z1454 = 1 → z1441 = 0 ∧ z1444 = 1 ∧ z1447 = (3 : Int))) (h2 : (z1454 = 0 → ¬ z1441 = 0 ∨ ¬ z1444 = 1 ∨ ¬ z1447 = (3 : Int))) (h3 : ¬ z1441 = 0 ∨ ¬ z1444 = 1 ∨ ¬ z1447 = (3 : Int)) (h4 : ¬ z1447 = 4) (h5 : ¬ z1447 = 6) (h6 : (z3541 = 1 → (8 : Int) ≤ z1447 ∧ z1447 ≤ (15 : Int))) (h7 : (z3541 = 0 → z1447 < (8 : Int) ∨ (15 : Int) < z1447)) (h8 : 0 ≤ z1441 ∧ z1441 ≤ 4) (h9 : 1 ≤ z1444 ∧ z1444 ≤ 1) (h10 : (-2147483648) ≤ z1447 ∧ z1447 ≤ 2147483647) (h11 : 0 ≤ z1454 ∧ z1454 ≤ 0) (h12 : 1 ≤ z3541 ∧ z3541 ≤ 1) : 8 ≤ z1447 ∧ z1447 ≤ 15 := by omega
theorem vc_X12_test_Wx_68 {z1447 z3541 : Int} (h0 : z3541 = 0) (h1 : (z3541 = 1 → (8 : Int) ≤ z1447 ∧ z1447 ≤ (15 : Int))) (h2 : (z3541 = 0 → z1447 < (8 : Int) ∨ (15 : Int) < z1447)) (h3 : (-2147483648) ≤ z1447 ∧ z1447 ≤ 2147483647) (h4 : 0 ≤ z3541 ∧ z3541 ≤ 1) : 0 ≤ z3541 ∧ z3541 ≤ 0 := by omega
theorem vc_X12_test_Wx_69 {z1441 z1444 z1447 z1454 z3541 : Int} (h0 : (z3541 = 1 → (8 : Int) ≤ z1447 ∧ z1447 ≤ (15 : Int))) (h1 : (z3541 = 0 → z1447 < (8 : Int) ∨ (15 : Int) < z1447)) (h2 : z3541 = 0) (h3 : (z1454 = 1 → z1441 = 0 ∧ z1444 = 1 ∧ z1447 = (3 : Int))) (h4 : (z1454 = 0 → ¬ z1441 = 0 ∨ ¬ z1444 = 1 ∨ ¬ z1447 = (3 : Int))) (h5 : ¬ z1441 = 0 ∨ ¬ z1444 = 1 ∨ ¬ z1447 = (3 : Int)) (h6 : ¬ z1447 = 4) (h7 : ¬ z1447 = 6) (h8 : 0 ≤ z1441 ∧ z1441 ≤ 4) (h9 : 1 ≤ z1444 ∧ z1444 ≤ 1) (h10 : (-2147483648) ≤ z1447 ∧ z1447 ≤ 2147483647) (h11 : 0 ≤ z1454 ∧ z1454 ≤ 0) (h12 : 0 ≤ z3541 ∧ z3541 ≤ 0) : z3541 = 0 := by omega
theorem vc_X12_test_Wx_70 {z1441 z1444 z1447 z1454 : Int} (h0 : ¬ z1454 = 0) (h1 : (z1454 = 1 → z1441 = 0 ∧ z1444 = 1 ∧ z1447 = (3 : Int))) (h2 : (z1454 = 0 → ¬ z1441 = 0 ∨ ¬ z1444 = 1 ∨ ¬ z1447 = (3 : Int))) (h3 : 0 ≤ z1441 ∧ z1441 ≤ 4) (h4 : 0 ≤ z1444 ∧ z1444 ≤ 3) (h5 : (-2147483648) ≤ z1447 ∧ z1447 ≤ 2147483647) (h6 : 0 ≤ z1454 ∧ z1454 ≤ 1) : 1 ≤ z1454 ∧ z1454 ≤ 1 := by omega
theorem vc_X12_test_Wx_71 {z1441 z1444 z1447 z1454 : Int} (h0 : (z1454 = 1 → z1441 = 0 ∧ z1444 = 1 ∧ z1447 = (3 : Int))) (h1 : (z1454 = 0 → ¬ z1441 = 0 ∨ ¬ z1444 = 1 ∨ ¬ z1447 = (3 : Int))) (h2 : ¬ z1454 = 0) (h3 : 0 ≤ z1441 ∧ z1441 ≤ 4) (h4 : 0 ≤ z1444 ∧ z1444 ≤ 3) (h5 : (-2147483648) ≤ z1447 ∧ z1447 ≤ 2147483647) (h6 : 1 ≤ z1454 ∧ z1454 ≤ 1) : z1454 = 1 := by omega
theorem vc_X12_test_Wx_72 {z1441 z1444 z1447 z1454 : Int} (h0 : z1441 = 0 ∧ z1444 = 1 ∧ z1447 = (3 : Int)) (h1 : (z1454 = 1 → z1441 = 0 ∧ z1444 = 1 ∧ z1447 = (3 : Int))) (h2 : (z1454 = 0 → ¬ z1441 = 0 ∨ ¬ z1444 = 1 ∨ ¬ z1447 = (3 : Int))) (h3 : 0 ≤ z1441 ∧ z1441 ≤ 4) (h4 : 0 ≤ z1444 ∧ z1444 ≤ 3) (h5 : (-2147483648) ≤ z1447 ∧ z1447 ≤ 2147483647) (h6 : 1 ≤ z1454 ∧ z1454 ≤ 1) : 3 ≤ z1447 ∧ z1447 ≤ 3 := by omega
theorem vc_X12_test_Wx_73 {z1441 z1444 z1447 z1454 : Int} (h0 : z1441 = 0 ∧ z1444 = 1 ∧ z1447 = (3 : Int)) (h1 : (z1454 = 1 → z1441 = 0 ∧ z1444 = 1 ∧ z1447 = (3 : Int))) (h2 : (z1454 = 0 → ¬ z1441 = 0 ∨ ¬ z1444 = 1 ∨ ¬ z1447 = (3 : Int))) (h3 : 0 ≤ z1441 ∧ z1441 ≤ 4) (h4 : 0 ≤ z1444 ∧ z1444 ≤ 3) (h5 : 3 ≤ z1447 ∧ z1447 ≤ 3) (h6 : 1 ≤ z1454 ∧ z1454 ≤ 1) : 1 ≤ z1444 ∧ z1444 ≤ 1 := by omega
theorem vc_X12_test_Wx_74 {z1441 z1444 z1447 z1454 : Int} (h0 : z1441 = 0 ∧ z1444 = 1 ∧ z1447 = (3 : Int)) (h1 : (z1454 = 1 → z1441 = 0 ∧ z1444 = 1 ∧ z1447 = (3 : Int))) (h2 : (z1454 = 0 → ¬ z1441 = 0 ∨ ¬ z1444 = 1 ∨ ¬ z1447 = (3 : Int))) (h3 : 0 ≤ z1441 ∧ z1441 ≤ 4) (h4 : 1 ≤ z1444 ∧ z1444 ≤ 1) (h5 : 3 ≤ z1447 ∧ z1447 ≤ 3) (h6 : 1 ≤ z1454 ∧ z1454 ≤ 1) : 0 ≤ z1441 ∧ z1441 ≤ 0 := by omega
set_option maxRecDepth 4000 in
set_option maxHeartbeats 4000000 in
theorem c_X12_test_Wx {l : Launch} {D : va_G} {c : Nat → ClassId} {H0 : Heap} {sa : Nat × Nat × (Nat → Int32)} {w : mW} {μ : mM} (hw : mWF w) (hT : mT w μ) {Q : mM → Prop} (hQ : WP_X12_test_Wx w μ  Q) : sC (gG l D c H0 sa) mX12_test 5 0 0 [.ref 106] (mk w μ) (qV w [106033, 106034, 106035, 106036, 106037, 106038, 106059, 130999, 132999, 133999, 134999, 135999, 136999, 137999, 138999, 139999, 142999, 143999, 144999, 145999, 146999, 147999, 148999, 149999, 150999] μ (fun μ1 => Q μ1 ∧ True)) := by
  refine sC.of rfl (by decide) (le_t rfl) ?_
  refine mr_lvE (lv' := [(0, .ref 106)]) rfl ?_
  refine mr_iconst (pc := 0) (z := 0) dX12_test_0 ?_
  refine mr_istore_n (pc := 1) (lv' := [(1, iv 0), (0, .ref 106)]) dX12_test_1 rfl (by decide) rfl ?_
  have L1433 : ∀ (nL1433 : Nat) (z1431 : Int) (μ1432 : mM), mT w μ1432 → mF [106033, 106034, 106035, 106036, 106037, 106038] w μ μ1432 → (0 ≤ z1431 ∧ z1431 ≤ 1) → True → loopF (WL_X12_test_Wx_1 w μ Q) False nL1433 (z1431, μ1432) → sV (gG l D c H0 sa) mX12_test (sRm 5 0 0) (sZ (gG l D c H0 sa) 0 0 (qV w [106033, 106034, 106035, 106036, 106037, 106038, 106059, 130999, 132999, 133999, 134999, 135999, 136999, 137999, 138999, 139999, 142999, 143999, 144999, 145999, 146999, 147999, 148999, 149999, 150999] μ (fun μ1 => Q μ1 ∧ True))) 2 [(0, .ref 106), (1, iv z1431)] [] (mk w μ1432) 0 0 := by
    intro nL1433
    induction nL1433 with
    | zero => intro z1431 μ1432 T1435 F1436 h1434 h1438 W1439; exact False.elim W1439
    | succ nL1433 ih1440 =>
      intro z1431 μ1432 T1435 F1436 h1434 h1438 W1439
      refine sv_aload_n (pc := 2) dX12_test_2 rfl rfl ?_
      refine mr_iconst (pc := 3) (z := 3) dX12_test_3 ?_
      obtain ⟨z1441, q1442⟩ : ∃ z, μ1432 106 37 = z := ⟨_, rfl⟩
      have h1443 : (0 ≤ z1441 ∧ z1441 ≤ 4) := by rw [← q1442]; exact T1435 106 106 (A_106 hw) 37
      obtain ⟨z1444, q1445⟩ : ∃ z, μ1432 106 35 = z := ⟨_, rfl⟩
      have h1446 : (0 ≤ z1444 ∧ z1444 ≤ 3) := by rw [← q1445]; exact T1435 106 106 (A_106 hw) 35
      obtain ⟨z1447, q1448⟩ : ∃ z, μ1432 106 36 = z := ⟨_, rfl⟩
      have h1449 : ((-2147483648) ≤ z1447 ∧ z1447 ≤ 2147483647) := by rw [← q1448]; exact T1435 106 106 (A_106 hw) 36
      have W1455 := ((((W1439 z1431 μ1432 rfl h1434 T1435 F1436) z1441 q1442 h1443) z1444 q1445 h1446) z1447 q1448 h1449)
      refine mr_cVP (pc := 4) (c_X12_isWord_W hw T1435 (rW (c := (-2147483648)) (d := 2147483647) (rR (x := 3)) rfl) q1442 q1445 q1448 W1455) (gOk _ _ _ _ _) dX12_test_4 (tX12_isWord _ _ _ _ _) ⟨wV_X12_isWord, wL_X12_isWord⟩ wM_X12_288 (gCX12 _ _ _ _ _) rfl (A_106 hw) rfl ⟨le_t rfl, le_t rfl⟩ ⟨le_t rfl, le_t rfl⟩ rfl (le_t rfl) fun z1454 h1453 => ?_
      refine mr_if_eq (pc := 7) (tgt := 27) dX12_test_7 (by decide) (r32 h1453.1 rfl) (fun h1517 => ?_) (fun h1517 => ?_)
      · have h1518 : 0 ≤ z1454 ∧ z1454 ≤ 0 := (vc_X12_test_Wx_1 h1517 h1453.2.1 h1453.2.2.1 h1443 h1446 h1449 h1453.1)
        have h1519 : ¬ z1441 = 0 ∨ ¬ z1444 = 1 ∨ ¬ z1447 = (3 : Int) := (h1453.2.2.1 (vc_X12_test_Wx_2 h1453.2.1 h1453.2.2.1 h1517 h1443 h1446 h1449 h1518))
        refine sv_aload_n (pc := 27) dX12_test_27 rfl rfl ?_
        refine gk_X12_35 (pc := 28) dX12_test_28 wF_X12_230 (A_106 hw) q1445 ?_
        refine mr_iconst (pc := 31) (z := 1) dX12_test_31 ?_
        have J1545 : ∀ (μ1541 : mM), (mT w μ1541) → (mF [106037, 106038] w μ1432 μ1541) → ((WJ_X12_test_Wx_2 w Q z1431 μ1432 z1447) μ1541) → sV (gG l D c H0 sa) mX12_test (sRm 5 0 0) (sZ (gG l D c H0 sa) 0 0 (qV w [106033, 106034, 106035, 106036, 106037, 106038, 106059, 130999, 132999, 133999, 134999, 135999, 136999, 137999, 138999, 139999, 142999, 143999, 144999, 145999, 146999, 147999, 148999, 149999, 150999] μ (fun μ1 => Q μ1 ∧ True))) 71 [(0, .ref 106), (1, iv z1431)] [] (mk w μ1541) 0 0 := by
          intro μ1541 T1542 F1543 W1546
          refine sv_aload_n (pc := 71) dX12_test_71 rfl rfl ?_
          refine gf_X12_37 (pc := 72) dX12_test_72 wF_X12_215 (A_106 hw) T1542 fun z1547 q1548 h1549 => ?_
          refine mr_if_eq (pc := 75) (tgt := 79) dX12_test_75 (by decide) (r32 h1549 rfl) (fun h1550 => ?_) (fun h1550 => ?_)
          · have h1551 : 0 ≤ z1547 ∧ z1547 ≤ 0 := (vc_X12_wrong_v_5 h1550 h1549)
            refine mr_sipush (pc := 79) (z := 300) dX12_test_79 (by decide) ?_
            refine sv_aload_n (pc := 82) dX12_test_82 rfl rfl ?_
            refine gf_X12_58 (pc := 83) dX12_test_83 wF_X12_278 (A_106 hw) T1542 fun z1552 q1553 h1554 => ?_
            refine mr_imul (pc := 86) (x := 300) (y := z1552) dX12_test_86 ?_
            refine sv_aload_n (pc := 87) dX12_test_87 rfl rfl ?_
            refine gf_X12_43 (pc := 88) dX12_test_88 wF_X12_320 (A_106 hw) T1542 ?_
            refine sv_aload_n (pc := 91) dX12_test_91 rfl rfl ?_
            refine gk_X12_58 (pc := 92) dX12_test_92 wF_X12_278 (A_106 hw) q1553 ?_
            refine la_130 (pc := 95) dX12_test_95 (A_130 hw) T1542 (rIx (n := 13) h1554 rfl) fun z1555 q1556 h1557 => ?_
            have W1558 := (((((W1546 T1542 F1543) z1547 q1548 h1549).1 h1550) z1552 q1553 h1554) z1555 q1556 h1557)
            have h1559 : z1555 ≤ (299 : Int) := W1558.1
            have h1560 : 0 ≤ z1555 ∧ z1555 ≤ 299 := (vc_X12_octet1_1 h1559 h1557)
            refine mr_iadd (pc := 96) (x := (300 * z1552)) (y := z1555) dX12_test_96 ?_
            refine mr_istore_n (pc := 97) (lv' := [(2, iv ((300 * z1552) + z1555)), (0, .ref 106), (1, iv z1431)]) dX12_test_97 rfl (by decide) rfl ?_
            refine sv_aload_n (pc := 98) dX12_test_98 rfl rfl ?_
            refine gf_X12_43 (pc := 99) dX12_test_99 wF_X12_320 (A_106 hw) T1542 ?_
            refine sv_aload_n (pc := 102) dX12_test_102 rfl rfl ?_
            refine gk_X12_58 (pc := 103) dX12_test_103 wF_X12_278 (A_106 hw) q1553 ?_
            refine sv_dup2 (pc := 106) dX12_test_106 rfl rfl ?_
            refine lk_130 (pc := 107) dX12_test_107 (A_130 hw) (rIx (n := 13) h1554 rfl) q1556 ?_
            refine mr_iconst (pc := 108) (z := 1) dX12_test_108 ?_
            refine mr_iadd (pc := 109) (x := z1555) (y := 1) dX12_test_109 ?_
            refine ss_130 (pc := 110) dX12_test_110 (A_130 hw) T1542 (rIx (n := 13) h1554 rfl) (rW (c := 0) (d := 300) (rAdd (e := 1) (f := 300) h1560 (rR (x := 1)) rfl) rfl) fun μ1561 u1562 T1563 => ?_
            refine sv_aload_n (pc := 111) dX12_test_111 rfl rfl ?_
            refine gk_X12_36 (pc := 112) dX12_test_112 wF_X12_233 (A_106 hw) (u1562.f (Or.inl (mAt.ne (A_130 hw) (A_106 hw) rfl)) (F1543.f (A_106 hw) rfl q1448)) ?_
            refine mr_istore_n (pc := 115) (lv' := [(3, iv z1447), (2, iv ((300 * z1552) + z1555)), (0, .ref 106), (1, iv z1431)]) dX12_test_115 rfl (by decide) rfl ?_
            refine sv_aload_n (pc := 116) dX12_test_116 rfl rfl ?_
            refine gf_X12_45 (pc := 117) dX12_test_117 wF_X12_323 (A_106 hw) T1563 ?_
            refine mr_iload_n (pc := 120) (z := ((300 * z1552) + z1555)) dX12_test_120 rfl rfl ?_
            refine mr_iload_n (pc := 121) (z := z1447) dX12_test_121 rfl rfl ?_
            refine ss_132 (pc := 122) dX12_test_122 (A_132 hw) T1563 (rIx (n := 3900) (rAdd (e := 0) (f := 3899) (rMulL (n := 300) (e := 0) (f := 3600) h1554 rfl) h1560 rfl) rfl) h1449 fun μ1564 u1565 T1566 => ?_
            refine sv_aload_n (pc := 123) dX12_test_123 rfl rfl ?_
            refine gf_X12_46 (pc := 124) dX12_test_124 wF_X12_326 (A_106 hw) T1566 ?_
            refine mr_iload_n (pc := 127) (z := ((300 * z1552) + z1555)) dX12_test_127 rfl rfl ?_
            refine mr_iload_n (pc := 128) (z := z1431) dX12_test_128 rfl rfl ?_
            refine ss_133 (pc := 129) dX12_test_129 (A_133 hw) T1566 (rIx (n := 3900) (rAdd (e := 0) (f := 3899) (rMulL (n := 300) (e := 0) (f := 3600) h1554 rfl) h1560 rfl) rfl) h1434 fun μ1567 u1568 T1569 => ?_
            refine sv_aload_n (pc := 130) dX12_test_130 rfl rfl ?_
            obtain ⟨z1570, q1571⟩ : ∃ z, μ1567 106 33 = z := ⟨_, rfl⟩
            have h1572 : (0 ≤ z1570 ∧ z1570 ≤ 1000) := by rw [← q1571]; exact T1569 106 106 (A_106 hw) 33
            obtain ⟨z1573, q1574⟩ : ∃ z, μ1567 106 1 = z := ⟨_, rfl⟩
            have h1575 : (0 ≤ z1573 ∧ z1573 ≤ 1000) := by rw [← q1574]; exact T1569 106 106 (A_106 hw) 1
            refine mr_cVV (pc := 131) (c_X12_next_v hw T1569 (u1568.f (Or.inl (mAt.ne (A_133 hw) (A_106 hw) rfl)) (u1565.f (Or.inl (mAt.ne (A_132 hw) (A_106 hw) rfl)) (u1562.f (Or.inl (mAt.ne (A_130 hw) (A_106 hw) rfl)) q1548))) q1571 q1574) (gOk _ _ _ _ _) dX12_test_131 (tX12_next _ _ _ _ _) ⟨wV_X12_next, wL_X12_next⟩ wM_X12_247 (gCX12 _ _ _ _ _) rfl (A_106 hw) rfl ⟨le_t rfl, le_t rfl⟩ ⟨le_t rfl, le_t rfl⟩ rfl (le_t rfl) fun μ1576 T1577 F1578 h1579 => ?_
            obtain ⟨z1580, z1582, z1584, z1586, z1588, q1581, q1583, q1585, q1587, q1589, h1590⟩ := h1579
            have h1591 : (0 ≤ z1580 ∧ z1580 ≤ 4) := by rw [← q1581]; exact T1577 106 106 (A_106 hw) 37
            have h1592 : (0 ≤ z1582 ∧ z1582 ≤ 1000) := by rw [← q1583]; exact T1577 106 106 (A_106 hw) 33
            have h1593 : (0 ≤ z1584 ∧ z1584 ≤ 1000) := by rw [← q1585]; exact T1577 106 106 (A_106 hw) 34
            have h1594 : (0 ≤ z1586 ∧ z1586 ≤ 3) := by rw [← q1587]; exact T1577 106 106 (A_106 hw) 35
            have h1595 : ((-2147483648) ≤ z1588 ∧ z1588 ≤ 2147483647) := by rw [← q1589]; exact T1577 106 106 (A_106 hw) 36
            refine mr_iload_n (pc := 134) (z := z1447) dX12_test_134 rfl rfl ?_
            refine mr_iconst (pc := 135) (z := 4) dX12_test_135 ?_
            have W1596 := (((((((((((((W1558.2 trivial) μ1561 u1562 T1563) μ1564 u1565 T1566) μ1567 u1568 T1569) z1570 q1571 h1572) z1573 q1574 h1575) μ1576 F1578 T1577) z1580 q1581) z1582 q1583) z1584 q1585) z1586 q1587) z1588 q1589) h1590.2.2.2.2.2.2.2.1)
            refine mr_icmp_ne (pc := 136) (tgt := 261) dX12_test_136 (by decide) h1449 (r32 (rR (x := 4)) rfl) (fun h1934 => ?_) (fun h1934 => ?_)
            · refine mr_iload_n (pc := 261) (z := z1447) dX12_test_261 rfl rfl ?_
              refine mr_bipush (pc := 262) (z := 6) dX12_test_262 (by decide) ?_
              refine mr_icmp_ne (pc := 264) (tgt := 275) dX12_test_264 (by decide) h1449 (r32 (rR (x := 6)) rfl) (fun h2154 => ?_) (fun h2154 => ?_)
              · refine mr_iload_n (pc := 275) (z := z1447) dX12_test_275 rfl rfl ?_
                refine mr_bipush (pc := 276) (z := 8) dX12_test_276 (by decide) ?_
                refine mr_icmp_ne (pc := 278) (tgt := 298) dX12_test_278 (by decide) h1449 (r32 (rR (x := 8)) rfl) (fun h2369 => ?_) (fun h2369 => ?_)
                · refine mr_iload_n (pc := 298) (z := z1447) dX12_test_298 rfl rfl ?_
                  refine mr_bipush (pc := 299) (z := 9) dX12_test_299 (by decide) ?_
                  refine mr_icmp_ne (pc := 301) (tgt := 320) dX12_test_301 (by decide) h1449 (r32 (rR (x := 9)) rfl) (fun h2575 => ?_) (fun h2575 => ?_)
                  · refine mr_iload_n (pc := 320) (z := z1447) dX12_test_320 rfl rfl ?_
                    refine mr_bipush (pc := 321) (z := 10) dX12_test_321 (by decide) ?_
                    refine mr_icmp_ne (pc := 323) (tgt := 370) dX12_test_323 (by decide) h1449 (r32 (rR (x := 10)) rfl) (fun h2772 => ?_) (fun h2772 => ?_)
                    · refine mr_iload_n (pc := 370) (z := z1447) dX12_test_370 rfl rfl ?_
                      refine mr_bipush (pc := 371) (z := 15) dX12_test_371 (by decide) ?_
                      refine mr_icmp_ne (pc := 373) (tgt := 420) dX12_test_373 (by decide) h1449 (r32 (rR (x := 15)) rfl) (fun h2919 => ?_) (fun h2919 => ?_)
                      · refine mr_iload_n (pc := 420) (z := z1447) dX12_test_420 rfl rfl ?_
                        refine mr_bipush (pc := 421) (z := 14) dX12_test_421 (by decide) ?_
                        refine mr_icmp_ne (pc := 423) (tgt := 441) dX12_test_423 (by decide) h1449 (r32 (rR (x := 14)) rfl) (fun h3016 => ?_) (fun h3016 => ?_)
                        · refine sv_aload_n (pc := 441) dX12_test_441 rfl rfl ?_
                          refine mr_bipush (pc := 442) (z := 60) dX12_test_442 (by decide) ?_
                          refine mr_cVP (pc := 444) (c_X12_isSign_W hw T1577 (rW (c := (-2147483648)) (d := 2147483647) (rR (x := 60)) rfl) q1581 q1587 q1589 (((((((W1596.1 h1934).1 h2154).1 h2369).1 h2575).1 h2772).1 h2919).1 h3016)) (gOk _ _ _ _ _) dX12_test_444 (tX12_isSign _ _ _ _ _) ⟨wV_X12_isSign, wL_X12_isSign⟩ wM_X12_244 (gCX12 _ _ _ _ _) rfl (A_106 hw) rfl ⟨le_t rfl, le_t rfl⟩ ⟨le_t rfl, le_t rfl⟩ rfl (le_t rfl) fun z3021 h3020 => ?_
                          have J3061 : ∀ (μ3057 : mM), (mT w μ3057) → (mF [106037, 106038] w μ1576 μ3057) → ((WJ_X12_test_Wx_3 w Q z1447 z1552 z1555 μ1576 z1588) μ3057) → sV (gG l D c H0 sa) mX12_test (sRm 5 0 0) (sZ (gG l D c H0 sa) 0 0 (qV w [106033, 106034, 106035, 106036, 106037, 106038, 106059, 130999, 132999, 133999, 134999, 135999, 136999, 137999, 138999, 139999, 142999, 143999, 144999, 145999, 146999, 147999, 148999, 149999, 150999] μ (fun μ1 => Q μ1 ∧ True))) 473 [(0, .ref 106), (2, iv ((300 * z1552) + z1555)), (3, iv z1447)] [] (mk w μ3057) 0 0 := by
                            intro μ3057 T3058 F3059 W3062
                            refine sv_aload_n (pc := 473) dX12_test_473 rfl rfl ?_
                            refine gf_X12_48 (pc := 474) dX12_test_474 wF_X12_336 (A_106 hw) T3058 ?_
                            refine mr_iload_n (pc := 477) (z := ((300 * z1552) + z1555)) dX12_test_477 rfl rfl ?_
                            refine sv_aload_n (pc := 478) dX12_test_478 rfl rfl ?_
                            refine gk_X12_36 (pc := 479) dX12_test_479 wF_X12_233 (A_106 hw) (F3059.f (A_106 hw) rfl q1589) ?_
                            refine ss_135 (pc := 482) dX12_test_482 (A_135 hw) T3058 (rIx (n := 3900) (rAdd (e := 0) (f := 3899) (rMulL (n := 300) (e := 0) (f := 3600) h1554 rfl) h1560 rfl) rfl) h1595 fun μ3063 u3064 T3065 => ?_
                            refine sv_aload_n (pc := 483) dX12_test_483 rfl rfl ?_
                            obtain ⟨z3066, q3067⟩ : ∃ z, μ3063 106 37 = z := ⟨_, rfl⟩
                            have h3068 : (0 ≤ z3066 ∧ z3066 ≤ 4) := by rw [← q3067]; exact T3065 106 106 (A_106 hw) 37
                            refine mr_cVV (pc := 484) (c_X12_next_v hw T3065 q3067 (u3064.f (Or.inl (mAt.ne (A_135 hw) (A_106 hw) rfl)) (F3059.f (A_106 hw) rfl q1583)) (u3064.f (Or.inl (mAt.ne (A_135 hw) (A_106 hw) rfl)) (F3059.f (A_106 hw) rfl (F1578.f (A_106 hw) rfl q1574)))) (gOk _ _ _ _ _) dX12_test_484 (tX12_next _ _ _ _ _) ⟨wV_X12_next, wL_X12_next⟩ wM_X12_247 (gCX12 _ _ _ _ _) rfl (A_106 hw) rfl ⟨le_t rfl, le_t rfl⟩ ⟨le_t rfl, le_t rfl⟩ rfl (le_t rfl) fun μ3069 T3070 F3071 h3072 => ?_
                            obtain ⟨z3073, z3075, z3077, z3079, z3081, q3074, q3076, q3078, q3080, q3082, h3083⟩ := h3072
                            have h3084 : (0 ≤ z3073 ∧ z3073 ≤ 4) := by rw [← q3074]; exact T3070 106 106 (A_106 hw) 37
                            have h3085 : (0 ≤ z3075 ∧ z3075 ≤ 1000) := by rw [← q3076]; exact T3070 106 106 (A_106 hw) 33
                            have h3086 : (0 ≤ z3077 ∧ z3077 ≤ 1000) := by rw [← q3078]; exact T3070 106 106 (A_106 hw) 34
                            have h3087 : (0 ≤ z3079 ∧ z3079 ≤ 3) := by rw [← q3080]; exact T3070 106 106 (A_106 hw) 35
                            have h3088 : ((-2147483648) ≤ z3081 ∧ z3081 ≤ 2147483647) := by rw [← q3082]; exact T3070 106 106 (A_106 hw) 36
                            refine sv_aload_n (pc := 487) dX12_test_487 rfl rfl ?_
                            refine gf_X12_47 (pc := 488) dX12_test_488 wF_X12_329 (A_106 hw) T3070 ?_
                            refine mr_iload_n (pc := 491) (z := ((300 * z1552) + z1555)) dX12_test_491 rfl rfl ?_
                            refine sv_aload_n (pc := 492) dX12_test_492 rfl rfl ?_
                            refine mr_iconst (pc := 493) (z := 0) dX12_test_493 ?_
                            refine mr_iload_n (pc := 494) (z := z1447) dX12_test_494 rfl rfl ?_
                            refine mr_bipush (pc := 495) (z := 12) dX12_test_495 (by decide) ?_
                            have W3089 := ((((((((((W3062 T3058 F3059) μ3063 u3064 T3065) z3066 q3067 h3068) μ3069 F3071 T3070) z3073 q3074) z3075 q3076) z3077 q3078) z3079 q3080) z3081 q3082) h3083.2.2.2.2.2.2.2.1)
                            refine mr_icmp_ne (pc := 497) (tgt := 506) dX12_test_497 (by decide) h1449 (r32 (rR (x := 12)) rfl) (fun h3091 => ?_) (fun h3091 => ?_)
                            · refine mr_ldcw (pc := 506) (z := 1000000) dX12_test_506 wG_X12_291 (by decide) ?_
                              refine mr_cVI (pc := 509) (c_X12_within_Wx hw T3070 (rW (c := (-2147483648)) (d := 2147483647) (rR (x := 0)) rfl) (rW (c := (-2147483648)) (d := 2147483647) (rR (x := 1000000)) rfl) (W3089.1 h3091)) (gOk _ _ _ _ _) dX12_test_509 (tX12_within _ _ _ _ _) ⟨wV_X12_within, wL_X12_within⟩ wM_X12_314 (gCX12 _ _ _ _ _) rfl (A_106 hw) rfl ⟨le_t rfl, le_t rfl⟩ ⟨le_t rfl, le_t rfl⟩ rfl (le_t rfl) fun z3096 μ3092 T3093 F3094 h3095 => ?_
                              refine ss_134 (pc := 512) dX12_test_512 (A_134 hw) T3093 (rIx (n := 3900) (rAdd (e := 0) (f := 3899) (rMulL (n := 300) (e := 0) (f := 3600) h1554 rfl) h1560 rfl) rfl) h3095.1 fun μ3097 u3098 T3099 => ?_
                              exact mr_vret dX12_test_513 rfl (le_t rfl) (le_t rfl) T3099 (mF.up (mF.call (mF.call (mF.up (mF.call (mF.call (mF.up (mF.up (mF.up (mF.call (mF.call mF.refl F1436 rfl) F1543 rfl) (A_130 hw) u1562 rfl) (A_132 hw) u1565 rfl) (A_133 hw) u1568 rfl) F1578 rfl) F3059 rfl) (A_135 hw) u3064 rfl) F3071 rfl) F3094 rfl) (A_134 hw) u3098 rfl) ⟨(((h3095.2.1 T3093 F3094) h3095.1) μ3097 u3098 T3099), trivial⟩
                            have h3100 : 12 ≤ z1447 ∧ z1447 ≤ 12 := (vc_X12_test_Wx_5 h3091 h1934 h2154 h2369 h2575 h2772 h2919 h3016 h1449)
                            refine mr_sipush (pc := 500) (z := 1000) dX12_test_500 (by decide) ?_
                            refine sv_goto (pc := 503) (tgt := 509) dX12_test_503 (by decide) ?_
                            refine mr_cVI (pc := 509) (c_X12_within_Wx hw T3070 (rW (c := (-2147483648)) (d := 2147483647) (rR (x := 0)) rfl) (rW (c := (-2147483648)) (d := 2147483647) (rR (x := 1000)) rfl) (W3089.2 h3091)) (gOk _ _ _ _ _) dX12_test_509 (tX12_within _ _ _ _ _) ⟨wV_X12_within, wL_X12_within⟩ wM_X12_314 (gCX12 _ _ _ _ _) rfl (A_106 hw) rfl ⟨le_t rfl, le_t rfl⟩ ⟨le_t rfl, le_t rfl⟩ rfl (le_t rfl) fun z3105 μ3101 T3102 F3103 h3104 => ?_
                            refine ss_134 (pc := 512) dX12_test_512 (A_134 hw) T3102 (rIx (n := 3900) (rAdd (e := 0) (f := 3899) (rMulL (n := 300) (e := 0) (f := 3600) h1554 rfl) h1560 rfl) rfl) h3104.1 fun μ3106 u3107 T3108 => ?_
                            exact mr_vret dX12_test_513 rfl (le_t rfl) (le_t rfl) T3108 (mF.up (mF.call (mF.call (mF.up (mF.call (mF.call (mF.up (mF.up (mF.up (mF.call (mF.call mF.refl F1436 rfl) F1543 rfl) (A_130 hw) u1562 rfl) (A_132 hw) u1565 rfl) (A_133 hw) u1568 rfl) F1578 rfl) F3059 rfl) (A_135 hw) u3064 rfl) F3071 rfl) F3103 rfl) (A_134 hw) u3107 rfl) ⟨(((h3104.2.1 T3102 F3103) h3104.1) μ3106 u3107 T3108), trivial⟩
                          refine mr_if_ne (pc := 447) (tgt := 473) dX12_test_447 (by decide) (r32 h3020.1 rfl) (fun h3109 => ?_) (fun h3109 => ?_)
                          · have h3110 : 1 ≤ z3021 ∧ z3021 ≤ 1 := (vc_X12_test_Wx_6 h3109 h3020.2.1 h3020.2.2.1 h1591 h1594 h1595 h3020.1)
                            have h3111 : z1580 = 0 ∧ z1586 = 3 ∧ z1588 = (60 : Int) := (h3020.2.1 (vc_X12_test_Wx_7 h3020.2.1 h3020.2.2.1 h3109 h1590.2.1 h1590.2.2.1 h1590.2.2.2.1 h1590.2.2.2.2.1 h1590.2.2.2.2.2.1 h1590.2.2.2.2.2.2.1 h1551 h1591 h1592 h1593 h1594 h1595 h3110))
                            have h3112 : 60 ≤ z1588 ∧ z1588 ≤ 60 := (vc_X12_test_Wx_8 h3111 h1590.2.2.1 h1590.2.2.2.1 h1590.2.2.2.2.1 h1590.2.2.2.2.2.1 h1590.2.2.2.2.2.2.1 h3020.2.1 h3020.2.2.1 h1551 h1591 h1592 h1593 h1594 h1595 h3110)
                            have h3113 : 3 ≤ z1586 ∧ z1586 ≤ 3 := (vc_X12_test_Wx_9 h3111 h1590.2.2.1 h1590.2.2.2.1 h1590.2.2.2.2.1 h1590.2.2.2.2.2.1 h1590.2.2.2.2.2.2.1 h3020.2.1 h3020.2.2.1 h1551 h1591 h1592 h1593 h1594 h3112 h3110)
                            have h3114 : 0 ≤ z1580 ∧ z1580 ≤ 0 := (vc_X12_test_Wx_10 h3111 h1590.2.2.1 h1590.2.2.2.1 h1590.2.2.2.2.1 h1590.2.2.2.2.2.1 h1590.2.2.2.2.2.2.1 h3020.2.1 h3020.2.2.1 h1551 h1591 h1592 h1593 h3113 h3112 h3110)
                            refine mr_lvS (lv' := [(0, .ref 106), (2, iv ((300 * z1552) + z1555)), (3, iv z1447)]) (List.forall_mem_cons.mpr ⟨rfl, List.forall_mem_cons.mpr ⟨rfl, List.forall_mem_cons.mpr ⟨rfl, fun _ h => absurd h List.not_mem_nil⟩⟩⟩) ?_
                            exact J3061 μ1576 T1577 mF.refl ((h3020.2.2.2.1 h3020.1).1 h3109)
                          have h3115 : 0 ≤ z3021 ∧ z3021 ≤ 0 := (vc_X12_test_Wx_11 h3109 h3020.2.1 h3020.2.2.1 h1591 h1594 h1595 h3020.1)
                          have h3116 : ¬ z1580 = 0 ∨ ¬ z1586 = 3 ∨ ¬ z1588 = (60 : Int) := (h3020.2.2.1 (vc_X12_test_Wx_12 h3020.2.1 h3020.2.2.1 h3109 h1590.2.1 h1590.2.2.1 h1590.2.2.2.1 h1590.2.2.2.2.1 h1590.2.2.2.2.2.1 h1590.2.2.2.2.2.2.1 h1551 h1591 h1592 h1593 h1594 h1595 h3115))
                          refine sv_aload_n (pc := 450) dX12_test_450 rfl rfl ?_
                          refine mr_bipush (pc := 451) (z := 61) dX12_test_451 (by decide) ?_
                          refine mr_cVP (pc := 453) (c_X12_isSign_W hw T1577 (rW (c := (-2147483648)) (d := 2147483647) (rR (x := 61)) rfl) q1581 q1587 q1589 ((h3020.2.2.2.1 h3020.1).2 h3109)) (gOk _ _ _ _ _) dX12_test_453 (tX12_isSign _ _ _ _ _) ⟨wV_X12_isSign, wL_X12_isSign⟩ wM_X12_244 (gCX12 _ _ _ _ _) rfl (A_106 hw) rfl ⟨le_t rfl, le_t rfl⟩ ⟨le_t rfl, le_t rfl⟩ rfl (le_t rfl) fun z3121 h3120 => ?_
                          refine mr_if_ne (pc := 456) (tgt := 473) dX12_test_456 (by decide) (r32 h3120.1 rfl) (fun h3122 => ?_) (fun h3122 => ?_)
                          · have h3123 : 1 ≤ z3121 ∧ z3121 ≤ 1 := (vc_X12_test_Wx_13 h3122 h3120.2.1 h3120.2.2.1 h1591 h1594 h1595 h3120.1)
                            have h3124 : z1580 = 0 ∧ z1586 = 3 ∧ z1588 = (61 : Int) := (h3120.2.1 (vc_X12_test_Wx_14 h3120.2.1 h3120.2.2.1 h3122 h1590.2.1 h1590.2.2.1 h1590.2.2.2.1 h1590.2.2.2.2.1 h1590.2.2.2.2.2.1 h1590.2.2.2.2.2.2.1 h3020.2.1 h3020.2.2.1 h3116 h1551 h1591 h1592 h1593 h1594 h1595 h3115 h3123))
                            have h3125 : 61 ≤ z1588 ∧ z1588 ≤ 61 := (vc_X12_test_Wx_15 h3124 h1590.2.2.2.2.2.1 h1590.2.2.2.2.2.2.1 h3020.2.1 h3020.2.2.1 h3116 h3120.2.1 h3120.2.2.1 h1591 h1592 h1593 h1594 h1595 h3115 h3123)
                            have h3126 : 3 ≤ z1586 ∧ z1586 ≤ 3 := (vc_X12_test_Wx_16 h3124 h1590.2.2.2.2.2.1 h1590.2.2.2.2.2.2.1 h3020.2.1 h3020.2.2.1 h3116 h3120.2.1 h3120.2.2.1 h1591 h1592 h1593 h1594 h3125 h3115 h3123)
                            have h3127 : 0 ≤ z1580 ∧ z1580 ≤ 0 := (vc_X12_test_Wx_17 h3124 h1590.2.2.2.2.2.1 h1590.2.2.2.2.2.2.1 h3020.2.1 h3020.2.2.1 h3116 h3120.2.1 h3120.2.2.1 h1591 h1592 h1593 h3126 h3125 h3115 h3123)
                            refine mr_lvS (lv' := [(0, .ref 106), (2, iv ((300 * z1552) + z1555)), (3, iv z1447)]) (List.forall_mem_cons.mpr ⟨rfl, List.forall_mem_cons.mpr ⟨rfl, List.forall_mem_cons.mpr ⟨rfl, fun _ h => absurd h List.not_mem_nil⟩⟩⟩) ?_
                            exact J3061 μ1576 T1577 mF.refl ((h3120.2.2.2.1 h3120.1).1 h3122)
                          have h3128 : 0 ≤ z3121 ∧ z3121 ≤ 0 := (vc_X12_test_Wx_18 h3122 h3120.2.1 h3120.2.2.1 h1591 h1594 h1595 h3120.1)
                          have h3129 : ¬ z1580 = 0 ∨ ¬ z1586 = 3 ∨ ¬ z1588 = (61 : Int) := (h3120.2.2.1 (vc_X12_test_Wx_19 h3120.2.1 h3120.2.2.1 h3122 h1590.2.1 h1590.2.2.1 h1590.2.2.2.1 h1590.2.2.2.2.1 h1590.2.2.2.2.2.1 h1590.2.2.2.2.2.2.1 h3020.2.1 h3020.2.2.1 h3116 h1551 h1591 h1592 h1593 h1594 h1595 h3115 h3128))
                          refine sv_aload_n (pc := 459) dX12_test_459 rfl rfl ?_
                          refine mr_bipush (pc := 460) (z := 62) dX12_test_460 (by decide) ?_
                          refine mr_cVP (pc := 462) (c_X12_isSign_W hw T1577 (rW (c := (-2147483648)) (d := 2147483647) (rR (x := 62)) rfl) q1581 q1587 q1589 ((h3120.2.2.2.1 h3120.1).2 h3122)) (gOk _ _ _ _ _) dX12_test_462 (tX12_isSign _ _ _ _ _) ⟨wV_X12_isSign, wL_X12_isSign⟩ wM_X12_244 (gCX12 _ _ _ _ _) rfl (A_106 hw) rfl ⟨le_t rfl, le_t rfl⟩ ⟨le_t rfl, le_t rfl⟩ rfl (le_t rfl) fun z3134 h3133 => ?_
                          refine mr_if_ne (pc := 465) (tgt := 473) dX12_test_465 (by decide) (r32 h3133.1 rfl) (fun h3135 => ?_) (fun h3135 => ?_)
                          · have h3136 : 1 ≤ z3134 ∧ z3134 ≤ 1 := (vc_X12_test_Wx_20 h3135 h3133.2.1 h3133.2.2.1 h1591 h1594 h1595 h3133.1)
                            have h3137 : z1580 = 0 ∧ z1586 = 3 ∧ z1588 = (62 : Int) := (h3133.2.1 (vc_X12_test_Wx_21 h3133.2.1 h3133.2.2.1 h3135 h1590.2.1 h1590.2.2.1 h1590.2.2.2.1 h1590.2.2.2.2.1 h1590.2.2.2.2.2.1 h1590.2.2.2.2.2.2.1 h3020.2.1 h3020.2.2.1 h3116 h3120.2.1 h3120.2.2.1 h3129 h1551 h1591 h1592 h1593 h1594 h1595 h3115 h3128 h3136))
                            have h3138 : 62 ≤ z1588 ∧ z1588 ≤ 62 := (vc_X12_test_Wx_22 h3137 h3020.2.2.1 h3116 h3120.2.1 h3120.2.2.1 h3129 h3133.2.1 h3133.2.2.1 h1591 h1594 h1595 h3115 h3128 h3136)
                            have h3139 : 3 ≤ z1586 ∧ z1586 ≤ 3 := (vc_X12_test_Wx_23 h3137 h3020.2.2.1 h3116 h3120.2.1 h3120.2.2.1 h3129 h3133.2.1 h3133.2.2.1 h1591 h1594 h3138 h3115 h3128 h3136)
                            have h3140 : 0 ≤ z1580 ∧ z1580 ≤ 0 := (vc_X12_test_Wx_24 h3137 h3020.2.2.1 h3116 h3120.2.1 h3120.2.2.1 h3129 h3133.2.1 h3133.2.2.1 h1591 h3139 h3138 h3115 h3128 h3136)
                            refine mr_lvS (lv' := [(0, .ref 106), (2, iv ((300 * z1552) + z1555)), (3, iv z1447)]) (List.forall_mem_cons.mpr ⟨rfl, List.forall_mem_cons.mpr ⟨rfl, List.forall_mem_cons.mpr ⟨rfl, fun _ h => absurd h List.not_mem_nil⟩⟩⟩) ?_
                            exact J3061 μ1576 T1577 mF.refl ((h3133.2.2.2.1 h3133.1).1 h3135)
                          have h3141 : 0 ≤ z3134 ∧ z3134 ≤ 0 := (vc_X12_test_Wx_25 h3135 h3133.2.1 h3133.2.2.1 h1591 h1594 h1595 h3133.1)
                          have h3142 : ¬ z1580 = 0 ∨ ¬ z1586 = 3 ∨ ¬ z1588 = (62 : Int) := (h3133.2.2.1 (vc_X12_test_Wx_26 h3133.2.1 h3133.2.2.1 h3135 h1590.2.1 h1590.2.2.1 h1590.2.2.2.1 h1590.2.2.2.2.1 h1590.2.2.2.2.2.1 h1590.2.2.2.2.2.2.1 h3020.2.1 h3020.2.2.1 h3116 h3120.2.1 h3120.2.2.1 h3129 h1551 h1591 h1592 h1593 h1594 h1595 h3115 h3128 h3141))
                          refine sv_aload_n (pc := 468) dX12_test_468 rfl rfl ?_
                          refine mr_iconst (pc := 469) (z := 2) dX12_test_469 ?_
                          refine mr_cVV (pc := 470) (c_X12_wrong_Wx hw T1577 (rW (c := 1) (d := 4) (rR (x := 2)) rfl) ((h3133.2.2.2.1 h3133.1).2 h3135)) (gOk _ _ _ _ _) dX12_test_470 (tX12_wrong _ _ _ _ _) ⟨wV_X12_wrong, wL_X12_wrong⟩ wM_X12_240 (gCX12 _ _ _ _ _) rfl (A_106 hw) rfl ⟨le_t rfl, le_t rfl⟩ ⟨le_t rfl, le_t rfl⟩ rfl (le_t rfl) fun μ3143 T3144 F3145 h3146 => ?_
                          refine mr_lvS (lv' := [(0, .ref 106), (2, iv ((300 * z1552) + z1555)), (3, iv z1447)]) (List.forall_mem_cons.mpr ⟨rfl, List.forall_mem_cons.mpr ⟨rfl, List.forall_mem_cons.mpr ⟨rfl, fun _ h => absurd h List.not_mem_nil⟩⟩⟩) ?_
                          exact J3061 μ3143 T3144 (mF.call mF.refl F3145 rfl) (h3146.1 T3144 F3145)
                        have h3147 : 14 ≤ z1447 ∧ z1447 ≤ 14 := (vc_X12_test_Wx_27 h3016 h1519 h1934 h2154 h2369 h2575 h2772 h2919 h1443 h1446 h1449)
                        refine sv_aload_n (pc := 426) dX12_test_426 rfl rfl ?_
                        refine gf_X12_47 (pc := 427) dX12_test_427 wF_X12_329 (A_106 hw) T1577 ?_
                        refine mr_iload_n (pc := 430) (z := ((300 * z1552) + z1555)) dX12_test_430 rfl rfl ?_
                        refine sv_aload_n (pc := 431) dX12_test_431 rfl rfl ?_
                        refine mr_iconst (pc := 432) (z := 0) dX12_test_432 ?_
                        refine mr_iconst (pc := 433) (z := 2) dX12_test_433 ?_
                        refine mr_cVI (pc := 434) (c_X12_within_Wx hw T1577 (rW (c := (-2147483648)) (d := 2147483647) (rR (x := 0)) rfl) (rW (c := (-2147483648)) (d := 2147483647) (rR (x := 2)) rfl) (((((((W1596.1 h1934).1 h2154).1 h2369).1 h2575).1 h2772).1 h2919).2 h3016)) (gOk _ _ _ _ _) dX12_test_434 (tX12_within _ _ _ _ _) ⟨wV_X12_within, wL_X12_within⟩ wM_X12_314 (gCX12 _ _ _ _ _) rfl (A_106 hw) rfl ⟨le_t rfl, le_t rfl⟩ ⟨le_t rfl, le_t rfl⟩ rfl (le_t rfl) fun z3152 μ3148 T3149 F3150 h3151 => ?_
                        refine ss_134 (pc := 437) dX12_test_437 (A_134 hw) T3149 (rIx (n := 3900) (rAdd (e := 0) (f := 3899) (rMulL (n := 300) (e := 0) (f := 3600) h1554 rfl) h1560 rfl) rfl) h3151.1 fun μ3153 u3154 T3155 => ?_
                        refine sv_goto (pc := 438) (tgt := 513) dX12_test_438 (by decide) ?_
                        exact mr_vret dX12_test_513 rfl (le_t rfl) (le_t rfl) T3155 (mF.up (mF.call (mF.call (mF.up (mF.up (mF.up (mF.call (mF.call mF.refl F1436 rfl) F1543 rfl) (A_130 hw) u1562 rfl) (A_132 hw) u1565 rfl) (A_133 hw) u1568 rfl) F1578 rfl) F3150 rfl) (A_134 hw) u3154 rfl) ⟨(((h3151.2.1 T3149 F3150) h3151.1) μ3153 u3154 T3155), trivial⟩
                      have h3156 : 15 ≤ z1447 ∧ z1447 ≤ 15 := (vc_X12_test_Wx_28 h2919 h1453.2.2.1 h1519 h1934 h2154 h2369 h2575 h2772 h1443 h1446 h1449 h1518)
                      refine sv_aload_n (pc := 376) dX12_test_376 rfl rfl ?_
                      refine gk_X12_35 (pc := 377) dX12_test_377 wF_X12_230 (A_106 hw) q1587 ?_
                      refine mr_iconst (pc := 380) (z := 1) dX12_test_380 ?_
                      have J3180 : ∀ (μ3176 : mM), (mT w μ3176) → (mF [106037, 106038] w μ1576 μ3176) → ((WJ_X12_test_Wx_4 w Q z1552 z1555 μ1576 z1588) μ3176) → sV (gG l D c H0 sa) mX12_test (sRm 5 0 0) (sZ (gG l D c H0 sa) 0 0 (qV w [106033, 106034, 106035, 106036, 106037, 106038, 106059, 130999, 132999, 133999, 134999, 135999, 136999, 137999, 138999, 139999, 142999, 143999, 144999, 145999, 146999, 147999, 148999, 149999, 150999] μ (fun μ1 => Q μ1 ∧ True))) 403 [(0, .ref 106), (2, iv ((300 * z1552) + z1555))] [] (mk w μ3176) 0 0 := by
                        intro μ3176 T3177 F3178 W3181
                        refine sv_aload_n (pc := 403) dX12_test_403 rfl rfl ?_
                        refine gf_X12_47 (pc := 404) dX12_test_404 wF_X12_329 (A_106 hw) T3177 ?_
                        refine mr_iload_n (pc := 407) (z := ((300 * z1552) + z1555)) dX12_test_407 rfl rfl ?_
                        refine sv_aload_n (pc := 408) dX12_test_408 rfl rfl ?_
                        refine gk_X12_36 (pc := 409) dX12_test_409 wF_X12_233 (A_106 hw) (F3178.f (A_106 hw) rfl q1589) ?_
                        refine ss_134 (pc := 412) dX12_test_412 (A_134 hw) T3177 (rIx (n := 3900) (rAdd (e := 0) (f := 3899) (rMulL (n := 300) (e := 0) (f := 3600) h1554 rfl) h1560 rfl) rfl) h1595 fun μ3182 u3183 T3184 => ?_
                        refine sv_aload_n (pc := 413) dX12_test_413 rfl rfl ?_
                        obtain ⟨z3185, q3186⟩ : ∃ z, μ3182 106 37 = z := ⟨_, rfl⟩
                        have h3187 : (0 ≤ z3185 ∧ z3185 ≤ 4) := by rw [← q3186]; exact T3184 106 106 (A_106 hw) 37
                        refine mr_cVV (pc := 414) (c_X12_next_v hw T3184 q3186 (u3183.f (Or.inl (mAt.ne (A_134 hw) (A_106 hw) rfl)) (F3178.f (A_106 hw) rfl q1583)) (u3183.f (Or.inl (mAt.ne (A_134 hw) (A_106 hw) rfl)) (F3178.f (A_106 hw) rfl (F1578.f (A_106 hw) rfl q1574)))) (gOk _ _ _ _ _) dX12_test_414 (tX12_next _ _ _ _ _) ⟨wV_X12_next, wL_X12_next⟩ wM_X12_247 (gCX12 _ _ _ _ _) rfl (A_106 hw) rfl ⟨le_t rfl, le_t rfl⟩ ⟨le_t rfl, le_t rfl⟩ rfl (le_t rfl) fun μ3188 T3189 F3190 h3191 => ?_
                        obtain ⟨z3192, z3194, z3196, z3198, z3200, q3193, q3195, q3197, q3199, q3201, h3202⟩ := h3191
                        have h3203 : (0 ≤ z3192 ∧ z3192 ≤ 4) := by rw [← q3193]; exact T3189 106 106 (A_106 hw) 37
                        have h3204 : (0 ≤ z3194 ∧ z3194 ≤ 1000) := by rw [← q3195]; exact T3189 106 106 (A_106 hw) 33
                        have h3205 : (0 ≤ z3196 ∧ z3196 ≤ 1000) := by rw [← q3197]; exact T3189 106 106 (A_106 hw) 34
                        have h3206 : (0 ≤ z3198 ∧ z3198 ≤ 3) := by rw [← q3199]; exact T3189 106 106 (A_106 hw) 35
                        have h3207 : ((-2147483648) ≤ z3200 ∧ z3200 ≤ 2147483647) := by rw [← q3201]; exact T3189 106 106 (A_106 hw) 36
                        refine sv_goto (pc := 417) (tgt := 513) dX12_test_417 (by decide) ?_
                        exact mr_vret dX12_test_513 rfl (le_t rfl) (le_t rfl) T3189 (mF.call (mF.up (mF.call (mF.call (mF.up (mF.up (mF.up (mF.call (mF.call mF.refl F1436 rfl) F1543 rfl) (A_130 hw) u1562 rfl) (A_132 hw) u1565 rfl) (A_133 hw) u1568 rfl) F1578 rfl) F3178 rfl) (A_134 hw) u3183 rfl) F3190 rfl) ⟨((((((((((W3181 T3177 F3178) μ3182 u3183 T3184) z3185 q3186 h3187) μ3188 F3190 T3189) z3192 q3193) z3194 q3195) z3196 q3197) z3198 q3199) z3200 q3201) h3202.2.2.2.2.2.2.2.1), trivial⟩
                      refine mr_icmp_ne (pc := 381) (tgt := 398) dX12_test_381 (by decide) (r32 h1594 rfl) (r32 (rR (x := 1)) rfl) (fun h3208 => ?_) (fun h3208 => ?_)
                      · refine sv_aload_n (pc := 398) dX12_test_398 rfl rfl ?_
                        refine mr_iconst (pc := 399) (z := 2) dX12_test_399 ?_
                        refine mr_cVV (pc := 400) (c_X12_wrong_Wx hw T1577 (rW (c := 1) (d := 4) (rR (x := 2)) rfl) (((((((W1596.1 h1934).1 h2154).1 h2369).1 h2575).1 h2772).2 h2919).1 h3208)) (gOk _ _ _ _ _) dX12_test_400 (tX12_wrong _ _ _ _ _) ⟨wV_X12_wrong, wL_X12_wrong⟩ wM_X12_240 (gCX12 _ _ _ _ _) rfl (A_106 hw) rfl ⟨le_t rfl, le_t rfl⟩ ⟨le_t rfl, le_t rfl⟩ rfl (le_t rfl) fun μ3209 T3210 F3211 h3212 => ?_
                        refine mr_lvS (lv' := [(0, .ref 106), (2, iv ((300 * z1552) + z1555))]) (List.forall_mem_cons.mpr ⟨rfl, List.forall_mem_cons.mpr ⟨rfl, fun _ h => absurd h List.not_mem_nil⟩⟩) ?_
                        exact J3180 μ3209 T3210 (mF.call mF.refl F3211 rfl) (h3212.1 T3210 F3211)
                      have h3213 : 1 ≤ z1586 ∧ z1586 ≤ 1 := (vc_X12_test_Wx_29 h3208 h1590.2.2.2.2.1 h1590.2.2.2.2.2.1 h1590.2.2.2.2.2.2.1 h1591 h1592 h1593 h1594 h1595)
                      refine sv_aload_n (pc := 384) dX12_test_384 rfl rfl ?_
                      refine gk_X12_36 (pc := 385) dX12_test_385 wF_X12_233 (A_106 hw) q1589 ?_
                      refine mr_bipush (pc := 388) (z := 20) dX12_test_388 (by decide) ?_
                      refine mr_bipush (pc := 390) (z := 22) dX12_test_390 (by decide) ?_
                      refine mr_cSP (pc := 392) (c_X12_in_W hw T1577 h1595 (rW (c := (-2147483648)) (d := 2147483647) (rR (x := 20)) rfl) (rW (c := (-2147483648)) (d := 2147483647) (rR (x := 22)) rfl) (((((((W1596.1 h1934).1 h2154).1 h2369).1 h2575).1 h2772).2 h2919).2 h3208)) (gOk _ _ _ _ _) dX12_test_392 (tX12_in _ _ _ _ _) wS_X12_in wM_X12_18 ⟨le_t rfl, le_t rfl⟩ ⟨le_t rfl, le_t rfl⟩ rfl (le_t rfl) fun z3218 h3217 => ?_
                      refine mr_if_ne (pc := 395) (tgt := 403) dX12_test_395 (by decide) (r32 h3217.1 rfl) (fun h3219 => ?_) (fun h3219 => ?_)
                      · have h3220 : 1 ≤ z3218 ∧ z3218 ≤ 1 := (vc_X12_test_Wx_30 h3219 h3217.2.1 h3217.2.2.1 h1595 h3217.1)
                        have h3221 : (20 : Int) ≤ z1588 ∧ z1588 ≤ (22 : Int) := (h3217.2.1 (vc_X12_test_Wx_31 h3217.2.1 h3217.2.2.1 h3219 h1590.2.2.2.2.2.2.1 h1591 h1592 h1593 h3213 h1595 h3220))
                        have h3222 : 20 ≤ z1588 ∧ z1588 ≤ 22 := (vc_X12_test_Wx_32 h3221 h1590.2.2.2.2.2.2.1 h3217.2.1 h3217.2.2.1 h1591 h1592 h1593 h3213 h1595 h3220)
                        refine mr_lvS (lv' := [(0, .ref 106), (2, iv ((300 * z1552) + z1555))]) (List.forall_mem_cons.mpr ⟨rfl, List.forall_mem_cons.mpr ⟨rfl, fun _ h => absurd h List.not_mem_nil⟩⟩) ?_
                        exact J3180 μ1576 T1577 mF.refl ((h3217.2.2.2.1 h3217.1).1 h3219)
                      have h3223 : 0 ≤ z3218 ∧ z3218 ≤ 0 := (vc_X12_test_Wx_33 h3219 h3217.2.1 h3217.2.2.1 h1595 h3217.1)
                      have h3224 : z1588 < (20 : Int) ∨ (22 : Int) < z1588 := (h3217.2.2.1 (vc_X12_test_Wx_34 h3217.2.1 h3217.2.2.1 h3219 h1590.2.2.2.2.2.2.1 h1591 h1592 h1593 h3213 h1595 h3223))
                      refine sv_aload_n (pc := 398) dX12_test_398 rfl rfl ?_
                      refine mr_iconst (pc := 399) (z := 2) dX12_test_399 ?_
                      refine mr_cVV (pc := 400) (c_X12_wrong_Wx hw T1577 (rW (c := 1) (d := 4) (rR (x := 2)) rfl) ((h3217.2.2.2.1 h3217.1).2 h3219)) (gOk _ _ _ _ _) dX12_test_400 (tX12_wrong _ _ _ _ _) ⟨wV_X12_wrong, wL_X12_wrong⟩ wM_X12_240 (gCX12 _ _ _ _ _) rfl (A_106 hw) rfl ⟨le_t rfl, le_t rfl⟩ ⟨le_t rfl, le_t rfl⟩ rfl (le_t rfl) fun μ3225 T3226 F3227 h3228 => ?_
                      refine mr_lvS (lv' := [(0, .ref 106), (2, iv ((300 * z1552) + z1555))]) (List.forall_mem_cons.mpr ⟨rfl, List.forall_mem_cons.mpr ⟨rfl, fun _ h => absurd h List.not_mem_nil⟩⟩) ?_
                      exact J3180 μ3225 T3226 (mF.call mF.refl F3227 rfl) (h3228.1 T3226 F3227)
                    have h3229 : 10 ≤ z1447 ∧ z1447 ≤ 10 := (vc_X12_test_Wx_35 h2772 h1453.2.1 h1453.2.2.1 h1519 h1934 h2154 h2369 h2575 h1443 h1446 h1449 h1518)
                    refine sv_aload_n (pc := 326) dX12_test_326 rfl rfl ?_
                    refine gk_X12_35 (pc := 327) dX12_test_327 wF_X12_230 (A_106 hw) q1587 ?_
                    refine mr_iconst (pc := 330) (z := 1) dX12_test_330 ?_
                    have J3253 : ∀ (μ3249 : mM), (mT w μ3249) → (mF [106037, 106038] w μ1576 μ3249) → ((WJ_X12_test_Wx_5 w Q z1552 z1555 μ1576 z1588) μ3249) → sV (gG l D c H0 sa) mX12_test (sRm 5 0 0) (sZ (gG l D c H0 sa) 0 0 (qV w [106033, 106034, 106035, 106036, 106037, 106038, 106059, 130999, 132999, 133999, 134999, 135999, 136999, 137999, 138999, 139999, 142999, 143999, 144999, 145999, 146999, 147999, 148999, 149999, 150999] μ (fun μ1 => Q μ1 ∧ True))) 353 [(0, .ref 106), (2, iv ((300 * z1552) + z1555))] [] (mk w μ3249) 0 0 := by
                      intro μ3249 T3250 F3251 W3254
                      refine sv_aload_n (pc := 353) dX12_test_353 rfl rfl ?_
                      refine gf_X12_47 (pc := 354) dX12_test_354 wF_X12_329 (A_106 hw) T3250 ?_
                      refine mr_iload_n (pc := 357) (z := ((300 * z1552) + z1555)) dX12_test_357 rfl rfl ?_
                      refine sv_aload_n (pc := 358) dX12_test_358 rfl rfl ?_
                      refine gk_X12_36 (pc := 359) dX12_test_359 wF_X12_233 (A_106 hw) (F3251.f (A_106 hw) rfl q1589) ?_
                      refine ss_134 (pc := 362) dX12_test_362 (A_134 hw) T3250 (rIx (n := 3900) (rAdd (e := 0) (f := 3899) (rMulL (n := 300) (e := 0) (f := 3600) h1554 rfl) h1560 rfl) rfl) h1595 fun μ3255 u3256 T3257 => ?_
                      refine sv_aload_n (pc := 363) dX12_test_363 rfl rfl ?_
                      obtain ⟨z3258, q3259⟩ : ∃ z, μ3255 106 37 = z := ⟨_, rfl⟩
                      have h3260 : (0 ≤ z3258 ∧ z3258 ≤ 4) := by rw [← q3259]; exact T3257 106 106 (A_106 hw) 37
                      refine mr_cVV (pc := 364) (c_X12_next_v hw T3257 q3259 (u3256.f (Or.inl (mAt.ne (A_134 hw) (A_106 hw) rfl)) (F3251.f (A_106 hw) rfl q1583)) (u3256.f (Or.inl (mAt.ne (A_134 hw) (A_106 hw) rfl)) (F3251.f (A_106 hw) rfl (F1578.f (A_106 hw) rfl q1574)))) (gOk _ _ _ _ _) dX12_test_364 (tX12_next _ _ _ _ _) ⟨wV_X12_next, wL_X12_next⟩ wM_X12_247 (gCX12 _ _ _ _ _) rfl (A_106 hw) rfl ⟨le_t rfl, le_t rfl⟩ ⟨le_t rfl, le_t rfl⟩ rfl (le_t rfl) fun μ3261 T3262 F3263 h3264 => ?_
                      obtain ⟨z3265, z3267, z3269, z3271, z3273, q3266, q3268, q3270, q3272, q3274, h3275⟩ := h3264
                      have h3276 : (0 ≤ z3265 ∧ z3265 ≤ 4) := by rw [← q3266]; exact T3262 106 106 (A_106 hw) 37
                      have h3277 : (0 ≤ z3267 ∧ z3267 ≤ 1000) := by rw [← q3268]; exact T3262 106 106 (A_106 hw) 33
                      have h3278 : (0 ≤ z3269 ∧ z3269 ≤ 1000) := by rw [← q3270]; exact T3262 106 106 (A_106 hw) 34
                      have h3279 : (0 ≤ z3271 ∧ z3271 ≤ 3) := by rw [← q3272]; exact T3262 106 106 (A_106 hw) 35
                      have h3280 : ((-2147483648) ≤ z3273 ∧ z3273 ≤ 2147483647) := by rw [← q3274]; exact T3262 106 106 (A_106 hw) 36
                      refine sv_goto (pc := 367) (tgt := 513) dX12_test_367 (by decide) ?_
                      exact mr_vret dX12_test_513 rfl (le_t rfl) (le_t rfl) T3262 (mF.call (mF.up (mF.call (mF.call (mF.up (mF.up (mF.up (mF.call (mF.call mF.refl F1436 rfl) F1543 rfl) (A_130 hw) u1562 rfl) (A_132 hw) u1565 rfl) (A_133 hw) u1568 rfl) F1578 rfl) F3251 rfl) (A_134 hw) u3256 rfl) F3263 rfl) ⟨((((((((((W3254 T3250 F3251) μ3255 u3256 T3257) z3258 q3259 h3260) μ3261 F3263 T3262) z3265 q3266) z3267 q3268) z3269 q3270) z3271 q3272) z3273 q3274) h3275.2.2.2.2.2.2.2.1), trivial⟩
                    refine mr_icmp_ne (pc := 331) (tgt := 348) dX12_test_331 (by decide) (r32 h1594 rfl) (r32 (rR (x := 1)) rfl) (fun h3281 => ?_) (fun h3281 => ?_)
                    · refine sv_aload_n (pc := 348) dX12_test_348 rfl rfl ?_
                      refine mr_iconst (pc := 349) (z := 2) dX12_test_349 ?_
                      refine mr_cVV (pc := 350) (c_X12_wrong_Wx hw T1577 (rW (c := 1) (d := 4) (rR (x := 2)) rfl) ((((((W1596.1 h1934).1 h2154).1 h2369).1 h2575).2 h2772).1 h3281)) (gOk _ _ _ _ _) dX12_test_350 (tX12_wrong _ _ _ _ _) ⟨wV_X12_wrong, wL_X12_wrong⟩ wM_X12_240 (gCX12 _ _ _ _ _) rfl (A_106 hw) rfl ⟨le_t rfl, le_t rfl⟩ ⟨le_t rfl, le_t rfl⟩ rfl (le_t rfl) fun μ3282 T3283 F3284 h3285 => ?_
                      refine mr_lvS (lv' := [(0, .ref 106), (2, iv ((300 * z1552) + z1555))]) (List.forall_mem_cons.mpr ⟨rfl, List.forall_mem_cons.mpr ⟨rfl, fun _ h => absurd h List.not_mem_nil⟩⟩) ?_
                      exact J3253 μ3282 T3283 (mF.call mF.refl F3284 rfl) (h3285.1 T3283 F3284)
                    have h3286 : 1 ≤ z1586 ∧ z1586 ≤ 1 := (vc_X12_test_Wx_29 h3281 h1590.2.2.2.2.1 h1590.2.2.2.2.2.1 h1590.2.2.2.2.2.2.1 h1591 h1592 h1593 h1594 h1595)
                    refine sv_aload_n (pc := 334) dX12_test_334 rfl rfl ?_
                    refine gk_X12_36 (pc := 335) dX12_test_335 wF_X12_233 (A_106 hw) q1589 ?_
                    refine mr_bipush (pc := 338) (z := 16) dX12_test_338 (by decide) ?_
                    refine mr_bipush (pc := 340) (z := 19) dX12_test_340 (by decide) ?_
                    refine mr_cSP (pc := 342) (c_X12_in_W hw T1577 h1595 (rW (c := (-2147483648)) (d := 2147483647) (rR (x := 16)) rfl) (rW (c := (-2147483648)) (d := 2147483647) (rR (x := 19)) rfl) ((((((W1596.1 h1934).1 h2154).1 h2369).1 h2575).2 h2772).2 h3281)) (gOk _ _ _ _ _) dX12_test_342 (tX12_in _ _ _ _ _) wS_X12_in wM_X12_18 ⟨le_t rfl, le_t rfl⟩ ⟨le_t rfl, le_t rfl⟩ rfl (le_t rfl) fun z3291 h3290 => ?_
                    refine mr_if_ne (pc := 345) (tgt := 353) dX12_test_345 (by decide) (r32 h3290.1 rfl) (fun h3292 => ?_) (fun h3292 => ?_)
                    · have h3293 : 1 ≤ z3291 ∧ z3291 ≤ 1 := (vc_X12_test_Wx_36 h3292 h3290.2.1 h3290.2.2.1 h1595 h3290.1)
                      have h3294 : (16 : Int) ≤ z1588 ∧ z1588 ≤ (19 : Int) := (h3290.2.1 (vc_X12_test_Wx_37 h3290.2.1 h3290.2.2.1 h3292 h1590.2.2.2.2.2.2.1 h1591 h1592 h1593 h3286 h1595 h3293))
                      have h3295 : 16 ≤ z1588 ∧ z1588 ≤ 19 := (vc_X12_test_Wx_38 h3294 h1590.2.2.2.2.2.2.1 h3290.2.1 h3290.2.2.1 h1591 h1592 h1593 h3286 h1595 h3293)
                      refine mr_lvS (lv' := [(0, .ref 106), (2, iv ((300 * z1552) + z1555))]) (List.forall_mem_cons.mpr ⟨rfl, List.forall_mem_cons.mpr ⟨rfl, fun _ h => absurd h List.not_mem_nil⟩⟩) ?_
                      exact J3253 μ1576 T1577 mF.refl ((h3290.2.2.2.1 h3290.1).1 h3292)
                    have h3296 : 0 ≤ z3291 ∧ z3291 ≤ 0 := (vc_X12_test_Wx_39 h3292 h3290.2.1 h3290.2.2.1 h1595 h3290.1)
                    have h3297 : z1588 < (16 : Int) ∨ (19 : Int) < z1588 := (h3290.2.2.1 (vc_X12_test_Wx_40 h3290.2.1 h3290.2.2.1 h3292 h1590.2.2.2.2.2.2.1 h1591 h1592 h1593 h3286 h1595 h3296))
                    refine sv_aload_n (pc := 348) dX12_test_348 rfl rfl ?_
                    refine mr_iconst (pc := 349) (z := 2) dX12_test_349 ?_
                    refine mr_cVV (pc := 350) (c_X12_wrong_Wx hw T1577 (rW (c := 1) (d := 4) (rR (x := 2)) rfl) ((h3290.2.2.2.1 h3290.1).2 h3292)) (gOk _ _ _ _ _) dX12_test_350 (tX12_wrong _ _ _ _ _) ⟨wV_X12_wrong, wL_X12_wrong⟩ wM_X12_240 (gCX12 _ _ _ _ _) rfl (A_106 hw) rfl ⟨le_t rfl, le_t rfl⟩ ⟨le_t rfl, le_t rfl⟩ rfl (le_t rfl) fun μ3298 T3299 F3300 h3301 => ?_
                    refine mr_lvS (lv' := [(0, .ref 106), (2, iv ((300 * z1552) + z1555))]) (List.forall_mem_cons.mpr ⟨rfl, List.forall_mem_cons.mpr ⟨rfl, fun _ h => absurd h List.not_mem_nil⟩⟩) ?_
                    exact J3253 μ3298 T3299 (mF.call mF.refl F3300 rfl) (h3301.1 T3299 F3300)
                  have h3302 : 9 ≤ z1447 ∧ z1447 ≤ 9 := (vc_X12_test_Wx_41 h2575 h1453.2.1 h1453.2.2.1 h1519 h1934 h2154 h2369 h1443 h1446 h1449 h1518)
                  refine sv_aload_n (pc := 304) dX12_test_304 rfl rfl ?_
                  refine gf_X12_47 (pc := 305) dX12_test_305 wF_X12_329 (A_106 hw) T1577 ?_
                  refine mr_iload_n (pc := 308) (z := ((300 * z1552) + z1555)) dX12_test_308 rfl rfl ?_
                  refine sv_aload_n (pc := 309) dX12_test_309 rfl rfl ?_
                  refine mr_iconst (pc := 310) (z := 0) dX12_test_310 ?_
                  refine mr_bipush (pc := 311) (z := 9) dX12_test_311 (by decide) ?_
                  refine mr_cVI (pc := 313) (c_X12_within_Wx hw T1577 (rW (c := (-2147483648)) (d := 2147483647) (rR (x := 0)) rfl) (rW (c := (-2147483648)) (d := 2147483647) (rR (x := 9)) rfl) ((((W1596.1 h1934).1 h2154).1 h2369).2 h2575)) (gOk _ _ _ _ _) dX12_test_313 (tX12_within _ _ _ _ _) ⟨wV_X12_within, wL_X12_within⟩ wM_X12_314 (gCX12 _ _ _ _ _) rfl (A_106 hw) rfl ⟨le_t rfl, le_t rfl⟩ ⟨le_t rfl, le_t rfl⟩ rfl (le_t rfl) fun z3307 μ3303 T3304 F3305 h3306 => ?_
                  refine ss_134 (pc := 316) dX12_test_316 (A_134 hw) T3304 (rIx (n := 3900) (rAdd (e := 0) (f := 3899) (rMulL (n := 300) (e := 0) (f := 3600) h1554 rfl) h1560 rfl) rfl) h3306.1 fun μ3308 u3309 T3310 => ?_
                  refine sv_goto (pc := 317) (tgt := 513) dX12_test_317 (by decide) ?_
                  exact mr_vret dX12_test_513 rfl (le_t rfl) (le_t rfl) T3310 (mF.up (mF.call (mF.call (mF.up (mF.up (mF.up (mF.call (mF.call mF.refl F1436 rfl) F1543 rfl) (A_130 hw) u1562 rfl) (A_132 hw) u1565 rfl) (A_133 hw) u1568 rfl) F1578 rfl) F3305 rfl) (A_134 hw) u3309 rfl) ⟨(((h3306.2.1 T3304 F3305) h3306.1) μ3308 u3309 T3310), trivial⟩
                have h3311 : 8 ≤ z1447 ∧ z1447 ≤ 8 := (vc_X12_test_Wx_42 h2369 h1453.2.1 h1453.2.2.1 h1519 h1934 h2154 h1443 h1446 h1449 h1518)
                refine sv_aload_n (pc := 281) dX12_test_281 rfl rfl ?_
                refine gf_X12_47 (pc := 282) dX12_test_282 wF_X12_329 (A_106 hw) T1577 ?_
                refine mr_iload_n (pc := 285) (z := ((300 * z1552) + z1555)) dX12_test_285 rfl rfl ?_
                refine sv_aload_n (pc := 286) dX12_test_286 rfl rfl ?_
                refine mr_iconst (pc := 287) (z := 0) dX12_test_287 ?_
                refine mr_ldcw (pc := 288) (z := 65535) dX12_test_288 wG_X12_345 (by decide) ?_
                refine mr_cVI (pc := 291) (c_X12_within_Wx hw T1577 (rW (c := (-2147483648)) (d := 2147483647) (rR (x := 0)) rfl) (rW (c := (-2147483648)) (d := 2147483647) (rR (x := 65535)) rfl) (((W1596.1 h1934).1 h2154).2 h2369)) (gOk _ _ _ _ _) dX12_test_291 (tX12_within _ _ _ _ _) ⟨wV_X12_within, wL_X12_within⟩ wM_X12_314 (gCX12 _ _ _ _ _) rfl (A_106 hw) rfl ⟨le_t rfl, le_t rfl⟩ ⟨le_t rfl, le_t rfl⟩ rfl (le_t rfl) fun z3316 μ3312 T3313 F3314 h3315 => ?_
                refine ss_134 (pc := 294) dX12_test_294 (A_134 hw) T3313 (rIx (n := 3900) (rAdd (e := 0) (f := 3899) (rMulL (n := 300) (e := 0) (f := 3600) h1554 rfl) h1560 rfl) rfl) h3315.1 fun μ3317 u3318 T3319 => ?_
                refine sv_goto (pc := 295) (tgt := 513) dX12_test_295 (by decide) ?_
                exact mr_vret dX12_test_513 rfl (le_t rfl) (le_t rfl) T3319 (mF.up (mF.call (mF.call (mF.up (mF.up (mF.up (mF.call (mF.call mF.refl F1436 rfl) F1543 rfl) (A_130 hw) u1562 rfl) (A_132 hw) u1565 rfl) (A_133 hw) u1568 rfl) F1578 rfl) F3314 rfl) (A_134 hw) u3318 rfl) ⟨(((h3315.2.1 T3313 F3314) h3315.1) μ3317 u3318 T3319), trivial⟩
              have h3320 : 6 ≤ z1447 ∧ z1447 ≤ 6 := (vc_X12_test_Wx_43 h2154 h1453.2.1 h1453.2.2.1 h1519 h1934 h1443 h1446 h1449 h1518)
              refine sv_aload_n (pc := 267) dX12_test_267 rfl rfl ?_
              refine mr_iload_n (pc := 268) (z := ((300 * z1552) + z1555)) dX12_test_268 rfl rfl ?_
              refine mr_cVV (pc := 269) (c_X12_wayTest_Wx hw T1577 (rAdd (e := 0) (f := 3899) (rMulL (n := 300) (e := 0) (f := 3600) h1554 rfl) h1560 rfl) ((W1596.1 h1934).2 h2154)) (gOk _ _ _ _ _) dX12_test_269 (tX12_wayTest _ _ _ _ _) ⟨wV_X12_wayTest, wL_X12_wayTest⟩ wM_X12_342 (gCX12 _ _ _ _ _) rfl (A_106 hw) rfl ⟨le_t rfl, le_t rfl⟩ ⟨le_t rfl, le_t rfl⟩ rfl (le_t rfl) fun μ3321 T3322 F3323 h3324 => ?_
              refine sv_goto (pc := 272) (tgt := 513) dX12_test_272 (by decide) ?_
              exact mr_vret dX12_test_513 rfl (le_t rfl) (le_t rfl) T3322 (mF.call (mF.call (mF.up (mF.up (mF.up (mF.call (mF.call mF.refl F1436 rfl) F1543 rfl) (A_130 hw) u1562 rfl) (A_132 hw) u1565 rfl) (A_133 hw) u1568 rfl) F1578 rfl) F3323 rfl) ⟨(h3324.1 T3322 F3323), trivial⟩
            have h3325 : 4 ≤ z1447 ∧ z1447 ≤ 4 := (vc_X12_test_Wx_44 h1934 h1453.2.1 h1453.2.2.1 h1519 h1443 h1446 h1449 h1518)
            refine sv_aload_n (pc := 139) dX12_test_139 rfl rfl ?_
            refine gf_X12_47 (pc := 140) dX12_test_140 wF_X12_329 (A_106 hw) T1577 ?_
            refine mr_iload_n (pc := 143) (z := ((300 * z1552) + z1555)) dX12_test_143 rfl rfl ?_
            refine sv_aload_n (pc := 144) dX12_test_144 rfl rfl ?_
            refine mr_cVI (pc := 145) (c_X12_addressRead_Wx hw T1577 (W1596.2 h1934)) (gOk _ _ _ _ _) dX12_test_145 (tX12_addressRead _ _ _ _ _) ⟨wV_X12_addressRead, wL_X12_addressRead⟩ wM_X12_332 (gCX12 _ _ _ _ _) rfl (A_106 hw) rfl ⟨le_t rfl, le_t rfl⟩ ⟨le_t rfl, le_t rfl⟩ rfl (le_t rfl) fun z3330 μ3326 T3327 F3328 h3329 => ?_
            refine ss_134 (pc := 148) dX12_test_148 (A_134 hw) T3327 (rIx (n := 3900) (rAdd (e := 0) (f := 3899) (rMulL (n := 300) (e := 0) (f := 3600) h1554 rfl) h1560 rfl) rfl) h3329.1 fun μ3331 u3332 T3333 => ?_
            refine sv_aload_n (pc := 149) dX12_test_149 rfl rfl ?_
            refine mr_bipush (pc := 150) (z := 47) dX12_test_150 (by decide) ?_
            refine mr_cVV (pc := 152) (c_X12_sign_Wx hw T3333 (rW (c := (-2147483648)) (d := 2147483647) (rR (x := 47)) rfl) (((h3329.2.1 T3327 F3328) h3329.1) μ3331 u3332 T3333)) (gOk _ _ _ _ _) dX12_test_152 (tX12_sign _ _ _ _ _) ⟨wV_X12_sign, wL_X12_sign⟩ wM_X12_317 (gCX12 _ _ _ _ _) rfl (A_106 hw) rfl ⟨le_t rfl, le_t rfl⟩ ⟨le_t rfl, le_t rfl⟩ rfl (le_t rfl) fun μ3334 T3335 F3336 h3337 => ?_
            refine sv_aload_n (pc := 155) dX12_test_155 rfl rfl ?_
            refine gf_X12_37 (pc := 156) dX12_test_156 wF_X12_215 (A_106 hw) T3335 fun z3338 q3339 h3340 => ?_
            have J3380 : ∀ (μ3376 : mM), (mT w μ3376) → (mF [106037, 106038] w μ3334 μ3376) → ((WJ_X12_test_Wx_6 w Q z1552 z1555 μ3334) μ3376) → sV (gG l D c H0 sa) mX12_test (sRm 5 0 0) (sZ (gG l D c H0 sa) 0 0 (qV w [106033, 106034, 106035, 106036, 106037, 106038, 106059, 130999, 132999, 133999, 134999, 135999, 136999, 137999, 138999, 139999, 142999, 143999, 144999, 145999, 146999, 147999, 148999, 149999, 150999] μ (fun μ1 => Q μ1 ∧ True))) 207 [(0, .ref 106), (2, iv ((300 * z1552) + z1555))] [] (mk w μ3376) 0 0 := by
              intro μ3376 T3377 F3378 W3381
              refine sv_aload_n (pc := 207) dX12_test_207 rfl rfl ?_
              refine gf_X12_48 (pc := 208) dX12_test_208 wF_X12_336 (A_106 hw) T3377 ?_
              refine mr_iload_n (pc := 211) (z := ((300 * z1552) + z1555)) dX12_test_211 rfl rfl ?_
              refine sv_aload_n (pc := 212) dX12_test_212 rfl rfl ?_
              refine mr_iconst (pc := 213) (z := 0) dX12_test_213 ?_
              refine mr_bipush (pc := 214) (z := 32) dX12_test_214 (by decide) ?_
              refine mr_cVI (pc := 216) (c_X12_within_Wx hw T3377 (rW (c := (-2147483648)) (d := 2147483647) (rR (x := 0)) rfl) (rW (c := (-2147483648)) (d := 2147483647) (rR (x := 32)) rfl) (W3381 T3377 F3378)) (gOk _ _ _ _ _) dX12_test_216 (tX12_within _ _ _ _ _) ⟨wV_X12_within, wL_X12_within⟩ wM_X12_314 (gCX12 _ _ _ _ _) rfl (A_106 hw) rfl ⟨le_t rfl, le_t rfl⟩ ⟨le_t rfl, le_t rfl⟩ rfl (le_t rfl) fun z3386 μ3382 T3383 F3384 h3385 => ?_
              refine ss_135 (pc := 219) dX12_test_219 (A_135 hw) T3383 (rIx (n := 3900) (rAdd (e := 0) (f := 3899) (rMulL (n := 300) (e := 0) (f := 3600) h1554 rfl) h1560 rfl) rfl) h3385.1 fun μ3387 u3388 T3389 => ?_
              refine sv_aload_n (pc := 220) dX12_test_220 rfl rfl ?_
              refine gf_X12_49 (pc := 221) dX12_test_221 wF_X12_339 (A_106 hw) T3389 ?_
              refine mr_iload_n (pc := 224) (z := ((300 * z1552) + z1555)) dX12_test_224 rfl rfl ?_
              refine mr_bipush (pc := 225) (z := 32) dX12_test_225 (by decide) ?_
              refine ss_136 (pc := 227) dX12_test_227 (A_136 hw) T3389 (rIx (n := 3900) (rAdd (e := 0) (f := 3899) (rMulL (n := 300) (e := 0) (f := 3600) h1554 rfl) h1560 rfl) rfl) (rW (c := (-2147483648)) (d := 2147483647) (rR (x := 32)) rfl) fun μ3390 u3391 T3392 => ?_
              refine sv_aload_n (pc := 228) dX12_test_228 rfl rfl ?_
              refine mr_iconst (pc := 229) (z := 5) dX12_test_229 ?_
              obtain ⟨z3393, q3394⟩ : ∃ z, μ3390 106 37 = z := ⟨_, rfl⟩
              have h3395 : (0 ≤ z3393 ∧ z3393 ≤ 4) := by rw [← q3394]; exact T3392 106 106 (A_106 hw) 37
              obtain ⟨z3396, q3397⟩ : ∃ z, μ3390 106 35 = z := ⟨_, rfl⟩
              have h3398 : (0 ≤ z3396 ∧ z3396 ≤ 3) := by rw [← q3397]; exact T3392 106 106 (A_106 hw) 35
              obtain ⟨z3399, q3400⟩ : ∃ z, μ3390 106 36 = z := ⟨_, rfl⟩
              have h3401 : ((-2147483648) ≤ z3399 ∧ z3399 ≤ 2147483647) := by rw [← q3400]; exact T3392 106 106 (A_106 hw) 36
              have W3407 := (((((((h3385.2.1 T3383 F3384) h3385.1) μ3387 u3388 T3389) μ3390 u3391 T3392) z3393 q3394 h3395) z3396 q3397 h3398) z3399 q3400 h3401)
              refine mr_cVP (pc := 230) (c_X12_isWord_W hw T3392 (rW (c := (-2147483648)) (d := 2147483647) (rR (x := 5)) rfl) q3394 q3397 q3400 W3407) (gOk _ _ _ _ _) dX12_test_230 (tX12_isWord _ _ _ _ _) ⟨wV_X12_isWord, wL_X12_isWord⟩ wM_X12_288 (gCX12 _ _ _ _ _) rfl (A_106 hw) rfl ⟨le_t rfl, le_t rfl⟩ ⟨le_t rfl, le_t rfl⟩ rfl (le_t rfl) fun z3406 h3405 => ?_
              refine mr_if_eq (pc := 233) (tgt := 513) dX12_test_233 (by decide) (r32 h3405.1 rfl) (fun h3446 => ?_) (fun h3446 => ?_)
              · have h3447 : 0 ≤ z3406 ∧ z3406 ≤ 0 := (vc_X12_test_Wx_45 h3446 h3405.2.1 h3405.2.2.1 h3395 h3398 h3401 h3405.1)
                have h3448 : ¬ z3393 = 0 ∨ ¬ z3396 = 1 ∨ ¬ z3399 = (5 : Int) := (h3405.2.2.1 (vc_X12_test_Wx_46 h3405.2.1 h3405.2.2.1 h3446 h3395 h3398 h3401 h3447))
                exact mr_vret dX12_test_513 rfl (le_t rfl) (le_t rfl) T3392 (mF.up (mF.up (mF.call (mF.call (mF.call (mF.up (mF.call (mF.call (mF.up (mF.up (mF.up (mF.call (mF.call mF.refl F1436 rfl) F1543 rfl) (A_130 hw) u1562 rfl) (A_132 hw) u1565 rfl) (A_133 hw) u1568 rfl) F1578 rfl) F3328 rfl) (A_134 hw) u3332 rfl) F3336 rfl) F3378 rfl) F3384 rfl) (A_135 hw) u3388 rfl) (A_136 hw) u3391 rfl) ⟨((h3405.2.2.2.1 h3405.1).1 h3446), trivial⟩
              have h3449 : 1 ≤ z3406 ∧ z3406 ≤ 1 := (vc_X12_test_Wx_47 h3446 h3405.2.1 h3405.2.2.1 h3395 h3398 h3401 h3405.1)
              have h3450 : z3393 = 0 ∧ z3396 = 1 ∧ z3399 = (5 : Int) := (h3405.2.1 (vc_X12_test_Wx_48 h3405.2.1 h3405.2.2.1 h3446 h3395 h3398 h3401 h3449))
              have h3451 : 1 ≤ z3396 ∧ z3396 ≤ 1 := (vc_X12_test_Wx_49 h3450 h3405.2.1 h3405.2.2.1 h3395 h3398 h3401 h3449)
              have h3452 : 5 ≤ z3399 ∧ z3399 ≤ 5 := (vc_X12_test_Wx_50 h3450 h3405.2.1 h3405.2.2.1 h3395 h3451 h3401 h3449)
              have h3453 : 0 ≤ z3393 ∧ z3393 ≤ 0 := (vc_X12_test_Wx_51 h3450 h3405.2.1 h3405.2.2.1 h3395 h3451 h3452 h3449)
              refine sv_aload_n (pc := 236) dX12_test_236 rfl rfl ?_
              obtain ⟨z3454, q3455⟩ : ∃ z, μ3390 106 33 = z := ⟨_, rfl⟩
              have h3456 : (0 ≤ z3454 ∧ z3454 ≤ 1000) := by rw [← q3455]; exact T3392 106 106 (A_106 hw) 33
              refine mr_cVV (pc := 237) (c_X12_next_v hw T3392 q3394 q3455 (u3391.f (Or.inl (mAt.ne (A_136 hw) (A_106 hw) rfl)) (u3388.f (Or.inl (mAt.ne (A_135 hw) (A_106 hw) rfl)) (F3384.f (A_106 hw) rfl (F3378.f (A_106 hw) rfl (F3336.f (A_106 hw) rfl (u3332.f (Or.inl (mAt.ne (A_134 hw) (A_106 hw) rfl)) (F3328.f (A_106 hw) rfl (F1578.f (A_106 hw) rfl q1574))))))))) (gOk _ _ _ _ _) dX12_test_237 (tX12_next _ _ _ _ _) ⟨wV_X12_next, wL_X12_next⟩ wM_X12_247 (gCX12 _ _ _ _ _) rfl (A_106 hw) rfl ⟨le_t rfl, le_t rfl⟩ ⟨le_t rfl, le_t rfl⟩ rfl (le_t rfl) fun μ3457 T3458 F3459 h3460 => ?_
              obtain ⟨z3461, z3463, z3465, z3467, z3469, q3462, q3464, q3466, q3468, q3470, h3471⟩ := h3460
              have h3472 : (0 ≤ z3461 ∧ z3461 ≤ 4) := by rw [← q3462]; exact T3458 106 106 (A_106 hw) 37
              have h3473 : (0 ≤ z3463 ∧ z3463 ≤ 1000) := by rw [← q3464]; exact T3458 106 106 (A_106 hw) 33
              have h3474 : (0 ≤ z3465 ∧ z3465 ≤ 1000) := by rw [← q3466]; exact T3458 106 106 (A_106 hw) 34
              have h3475 : (0 ≤ z3467 ∧ z3467 ≤ 3) := by rw [← q3468]; exact T3458 106 106 (A_106 hw) 35
              have h3476 : ((-2147483648) ≤ z3469 ∧ z3469 ≤ 2147483647) := by rw [← q3470]; exact T3458 106 106 (A_106 hw) 36
              refine sv_aload_n (pc := 240) dX12_test_240 rfl rfl ?_
              refine gf_X12_49 (pc := 241) dX12_test_241 wF_X12_339 (A_106 hw) T3458 ?_
              refine mr_iload_n (pc := 244) (z := ((300 * z1552) + z1555)) dX12_test_244 rfl rfl ?_
              refine sv_aload_n (pc := 245) dX12_test_245 rfl rfl ?_
              refine sv_aload_n (pc := 246) dX12_test_246 rfl rfl ?_
              refine gf_X12_48 (pc := 247) dX12_test_247 wF_X12_336 (A_106 hw) T3458 ?_
              refine mr_iload_n (pc := 250) (z := ((300 * z1552) + z1555)) dX12_test_250 rfl rfl ?_
              refine lk_135 (pc := 251) dX12_test_251 (A_135 hw) (rIx (n := 3900) (rAdd (e := 0) (f := 3899) (rMulL (n := 300) (e := 0) (f := 3600) h1554 rfl) h1560 rfl) rfl) (F3459.f (A_135 hw) rfl (u3391.f (Or.inl (mAt.ne (A_136 hw) (A_135 hw) rfl)) u3388.1)) ?_
              refine mr_bipush (pc := 252) (z := 32) dX12_test_252 (by decide) ?_
              have W3482 := ((((((((((h3405.2.2.2.1 h3405.1).2 h3446) z3454 q3455 h3456) μ3457 F3459 T3458) z3461 q3462) z3463 q3464) z3465 q3466) z3467 q3468) z3469 q3470) h3471.2.2.2.2.2.2.2.1)
              refine mr_cVI (pc := 254) (c_X12_within_Wx hw T3458 h3385.1 (rW (c := (-2147483648)) (d := 2147483647) (rR (x := 32)) rfl) W3482) (gOk _ _ _ _ _) dX12_test_254 (tX12_within _ _ _ _ _) ⟨wV_X12_within, wL_X12_within⟩ wM_X12_314 (gCX12 _ _ _ _ _) rfl (A_106 hw) rfl ⟨le_t rfl, le_t rfl⟩ ⟨le_t rfl, le_t rfl⟩ rfl (le_t rfl) fun z3481 μ3477 T3478 F3479 h3480 => ?_
              refine ss_136 (pc := 257) dX12_test_257 (A_136 hw) T3478 (rIx (n := 3900) (rAdd (e := 0) (f := 3899) (rMulL (n := 300) (e := 0) (f := 3600) h1554 rfl) h1560 rfl) rfl) h3480.1 fun μ3483 u3484 T3485 => ?_
              refine sv_goto (pc := 258) (tgt := 513) dX12_test_258 (by decide) ?_
              exact mr_vret dX12_test_513 rfl (le_t rfl) (le_t rfl) T3485 (mF.up (mF.call (mF.call (mF.up (mF.up (mF.call (mF.call (mF.call (mF.up (mF.call (mF.call (mF.up (mF.up (mF.up (mF.call (mF.call mF.refl F1436 rfl) F1543 rfl) (A_130 hw) u1562 rfl) (A_132 hw) u1565 rfl) (A_133 hw) u1568 rfl) F1578 rfl) F3328 rfl) (A_134 hw) u3332 rfl) F3336 rfl) F3378 rfl) F3384 rfl) (A_135 hw) u3388 rfl) (A_136 hw) u3391 rfl) F3459 rfl) F3479 rfl) (A_136 hw) u3484 rfl) ⟨(((h3480.2.1 T3478 F3479) h3480.1) μ3483 u3484 T3485), trivial⟩
            refine mr_if_ne (pc := 159) (tgt := 207) dX12_test_159 (by decide) (r32 h3340 rfl) (fun h3486 => ?_) (fun h3486 => ?_)
            · have h3487 : 1 ≤ z3338 ∧ z3338 ≤ 4 := (vc_X12_wrong_v_1 h3486 h3340)
              refine mr_lvS (lv' := [(0, .ref 106), (2, iv ((300 * z1552) + z1555))]) (List.forall_mem_cons.mpr ⟨rfl, List.forall_mem_cons.mpr ⟨rfl, fun _ h => absurd h List.not_mem_nil⟩⟩) ?_
              exact J3380 μ3334 T3335 mF.refl (((h3337.1 T3335 F3336) z3338 q3339 h3340).1 h3486)
            have h3488 : 0 ≤ z3338 ∧ z3338 ≤ 0 := (vc_X12_wrong_v_5 h3486 h3340)
            refine sv_aload_n (pc := 162) dX12_test_162 rfl rfl ?_
            refine gf_X12_35 (pc := 163) dX12_test_163 wF_X12_230 (A_106 hw) T3335 fun z3489 q3490 h3491 => ?_
            refine mr_iconst (pc := 166) (z := 2) dX12_test_166 ?_
            refine mr_icmp_ne (pc := 167) (tgt := 207) dX12_test_167 (by decide) (r32 h3491 rfl) (r32 (rR (x := 2)) rfl) (fun h3492 => ?_) (fun h3492 => ?_)
            · refine mr_lvS (lv' := [(0, .ref 106), (2, iv ((300 * z1552) + z1555))]) (List.forall_mem_cons.mpr ⟨rfl, List.forall_mem_cons.mpr ⟨rfl, fun _ h => absurd h List.not_mem_nil⟩⟩) ?_
              exact J3380 μ3334 T3335 mF.refl (((((h3337.1 T3335 F3336) z3338 q3339 h3340).2 h3486) z3489 q3490 h3491).1 h3492)
            have h3493 : 2 ≤ z3489 ∧ z3489 ≤ 2 := (vc_X10_firstWrongStep_8 h3492 h3491)
            refine sv_aload_n (pc := 170) dX12_test_170 rfl rfl ?_
            refine gf_X12_36 (pc := 171) dX12_test_171 wF_X12_233 (A_106 hw) T3335 fun z3494 q3495 h3496 => ?_
            refine mr_iconst (pc := 174) (z := 0) dX12_test_174 ?_
            refine mr_bipush (pc := 175) (z := 32) dX12_test_175 (by decide) ?_
            have W3502 := ((((((h3337.1 T3335 F3336) z3338 q3339 h3340).2 h3486) z3489 q3490 h3491).2 h3492) z3494 q3495 h3496)
            refine mr_cSP (pc := 177) (c_X12_in_W hw T3335 h3496 (rW (c := (-2147483648)) (d := 2147483647) (rR (x := 0)) rfl) (rW (c := (-2147483648)) (d := 2147483647) (rR (x := 32)) rfl) W3502) (gOk _ _ _ _ _) dX12_test_177 (tX12_in _ _ _ _ _) wS_X12_in wM_X12_18 ⟨le_t rfl, le_t rfl⟩ ⟨le_t rfl, le_t rfl⟩ rfl (le_t rfl) fun z3501 h3500 => ?_
            refine mr_if_eq (pc := 180) (tgt := 207) dX12_test_180 (by decide) (r32 h3500.1 rfl) (fun h3503 => ?_) (fun h3503 => ?_)
            · have h3504 : 0 ≤ z3501 ∧ z3501 ≤ 0 := (vc_X12_prefix_W_1 h3503 h3500.2.1 h3500.2.2.1 h3496 h3500.1)
              have h3505 : z3494 < (0 : Int) ∨ (32 : Int) < z3494 := (h3500.2.2.1 (vc_X12_prefix_W_2 h3500.2.1 h3500.2.2.1 h3503 h3496 h3504))
              refine mr_lvS (lv' := [(0, .ref 106), (2, iv ((300 * z1552) + z1555))]) (List.forall_mem_cons.mpr ⟨rfl, List.forall_mem_cons.mpr ⟨rfl, fun _ h => absurd h List.not_mem_nil⟩⟩) ?_
              exact J3380 μ3334 T3335 mF.refl ((h3500.2.2.2.1 h3500.1).1 h3503)
            have h3506 : 1 ≤ z3501 ∧ z3501 ≤ 1 := (vc_X12_prefix_W_3 h3503 h3500.2.1 h3500.2.2.1 h3496 h3500.1)
            have h3507 : (0 : Int) ≤ z3494 ∧ z3494 ≤ (32 : Int) := (h3500.2.1 (vc_X12_prefix_W_4 h3500.2.1 h3500.2.2.1 h3503 h3496 h3506))
            have h3508 : 0 ≤ z3494 ∧ z3494 ≤ 32 := (vc_X12_prefix_W_5 h3507 h3500.2.1 h3500.2.2.1 h3496 h3506)
            refine sv_aload_n (pc := 183) dX12_test_183 rfl rfl ?_
            refine gf_X12_47 (pc := 184) dX12_test_184 wF_X12_329 (A_106 hw) T3335 ?_
            refine mr_iload_n (pc := 187) (z := ((300 * z1552) + z1555)) dX12_test_187 rfl rfl ?_
            refine lk_134 (pc := 188) dX12_test_188 (A_134 hw) (rIx (n := 3900) (rAdd (e := 0) (f := 3899) (rMulL (n := 300) (e := 0) (f := 3600) h1554 rfl) h1560 rfl) rfl) (F3336.f (A_134 hw) rfl u3332.1) ?_
            refine sv_aload_n (pc := 189) dX12_test_189 rfl rfl ?_
            refine gk_X12_36 (pc := 190) dX12_test_190 wF_X12_233 (A_106 hw) q3495 ?_
            refine mr_cSP (pc := 193) (c_X12_mask_W hw T3335 (rW (c := (-2147483648)) (d := 2147483647) h3508 rfl) ((h3500.2.2.2.1 h3500.1).2 h3503)) (gOk _ _ _ _ _) dX12_test_193 (tX12_mask _ _ _ _ _) wS_X12_mask wM_X12_11 ⟨le_t rfl, le_t rfl⟩ ⟨le_t rfl, le_t rfl⟩ rfl (le_t rfl) fun z3513 h3512 => ?_
            refine mr_iconst (pc := 196) (z := (-1)) dX12_test_196 ?_
            refine mr_ixor (pc := 197) (x := z3513) (y := (-1)) dX12_test_197 ?_
            refine mr_gen (P := fun z => (-2147483648) ≤ z ∧ z ≤ 2147483647) (r32i _) fun z3514 q3515 h3516 => ?_
            refine mr_iand (pc := 198) (x := z3330) (y := z3514) dX12_test_198 ?_
            refine mr_gen (P := fun z => (-2147483648) ≤ z ∧ z ≤ 2147483647) (r32i _) fun z3517 q3518 h3519 => ?_
            refine mr_if_eq (pc := 199) (tgt := 207) dX12_test_199 (by decide) h3519 (fun h3520 => ?_) (fun h3520 => ?_)
            · have h3521 : 0 ≤ z3517 ∧ z3517 ≤ 0 := (vc_X12_mask_1 h3520 h3519)
              refine mr_lvS (lv' := [(0, .ref 106), (2, iv ((300 * z1552) + z1555))]) (List.forall_mem_cons.mpr ⟨rfl, List.forall_mem_cons.mpr ⟨rfl, fun _ h => absurd h List.not_mem_nil⟩⟩) ?_
              exact J3380 μ3334 T3335 mF.refl ((((h3512.2.1 h3512.1) z3514 q3515) z3517 q3518).1 h3520)
            refine sv_aload_n (pc := 202) dX12_test_202 rfl rfl ?_
            refine mr_iconst (pc := 203) (z := 3) dX12_test_203 ?_
            refine mr_cVV (pc := 204) (c_X12_wrong_Wx hw T3335 (rW (c := 1) (d := 4) (rR (x := 3)) rfl) ((((h3512.2.1 h3512.1) z3514 q3515) z3517 q3518).2 h3520)) (gOk _ _ _ _ _) dX12_test_204 (tX12_wrong _ _ _ _ _) ⟨wV_X12_wrong, wL_X12_wrong⟩ wM_X12_240 (gCX12 _ _ _ _ _) rfl (A_106 hw) rfl ⟨le_t rfl, le_t rfl⟩ ⟨le_t rfl, le_t rfl⟩ rfl (le_t rfl) fun μ3522 T3523 F3524 h3525 => ?_
            refine mr_lvS (lv' := [(0, .ref 106), (2, iv ((300 * z1552) + z1555))]) (List.forall_mem_cons.mpr ⟨rfl, List.forall_mem_cons.mpr ⟨rfl, fun _ h => absurd h List.not_mem_nil⟩⟩) ?_
            exact J3380 μ3522 T3523 (mF.call mF.refl F3524 rfl) (h3525.1 T3523 F3524)
          have h3526 : 1 ≤ z1547 ∧ z1547 ≤ 4 := (vc_X12_wrong_v_1 h1550 h1549)
          exact mr_vret dX12_test_78 rfl (le_t rfl) (le_t rfl) T1542 (mF.call (mF.call mF.refl F1436 rfl) F1543 rfl) ⟨(((W1546 T1542 F1543) z1547 q1548 h1549).2 h1550), trivial⟩
        refine mr_icmp_ne (pc := 32) (tgt := 66) dX12_test_32 (by decide) (r32 h1446 rfl) (r32 (rR (x := 1)) rfl) (fun h3527 => ?_) (fun h3527 => ?_)
        · refine sv_aload_n (pc := 66) dX12_test_66 rfl rfl ?_
          refine mr_iconst (pc := 67) (z := 2) dX12_test_67 ?_
          refine mr_cVV (pc := 68) (c_X12_wrong_Wx hw T1435 (rW (c := 1) (d := 4) (rR (x := 2)) rfl) (((h1453.2.2.2.1 h1453.1).1 h1517).1 h3527)) (gOk _ _ _ _ _) dX12_test_68 (tX12_wrong _ _ _ _ _) ⟨wV_X12_wrong, wL_X12_wrong⟩ wM_X12_240 (gCX12 _ _ _ _ _) rfl (A_106 hw) rfl ⟨le_t rfl, le_t rfl⟩ ⟨le_t rfl, le_t rfl⟩ rfl (le_t rfl) fun μ3528 T3529 F3530 h3531 => ?_
          exact J1545 μ3528 T3529 (mF.call mF.refl F3530 rfl) (h3531.1 T3529 F3530)
        have h3532 : 1 ≤ z1444 ∧ z1444 ≤ 1 := (vc_X12_test_Wx_62 h3527 h1453.2.1 h1453.2.2.1 h1519 h1443 h1446 h1449 h1518)
        refine sv_aload_n (pc := 35) dX12_test_35 rfl rfl ?_
        refine gk_X12_36 (pc := 36) dX12_test_36 wF_X12_233 (A_106 hw) q1448 ?_
        refine mr_iconst (pc := 39) (z := 4) dX12_test_39 ?_
        refine mr_icmp_eq (pc := 40) (tgt := 71) dX12_test_40 (by decide) h1449 (r32 (rR (x := 4)) rfl) (fun h3533 => ?_) (fun h3533 => ?_)
        · have h3534 : 4 ≤ z1447 ∧ z1447 ≤ 4 := (vc_X12_test_Wx_63 h3533 h1453.2.1 h1453.2.2.1 h1519 h1443 h3532 h1449 h1518)
          exact J1545 μ1432 T1435 mF.refl ((((h1453.2.2.2.1 h1453.1).1 h1517).2 h3527).1 h3533)
        refine sv_aload_n (pc := 43) dX12_test_43 rfl rfl ?_
        refine gk_X12_36 (pc := 44) dX12_test_44 wF_X12_233 (A_106 hw) q1448 ?_
        refine mr_bipush (pc := 47) (z := 6) dX12_test_47 (by decide) ?_
        refine mr_icmp_eq (pc := 49) (tgt := 71) dX12_test_49 (by decide) h1449 (r32 (rR (x := 6)) rfl) (fun h3535 => ?_) (fun h3535 => ?_)
        · have h3536 : 6 ≤ z1447 ∧ z1447 ≤ 6 := (vc_X12_test_Wx_64 h3535 h1453.2.1 h1453.2.2.1 h1519 h3533 h1443 h3532 h1449 h1518)
          exact J1545 μ1432 T1435 mF.refl (((((h1453.2.2.2.1 h1453.1).1 h1517).2 h3527).2 h3533).1 h3535)
        refine sv_aload_n (pc := 52) dX12_test_52 rfl rfl ?_
        refine gk_X12_36 (pc := 53) dX12_test_53 wF_X12_233 (A_106 hw) q1448 ?_
        refine mr_bipush (pc := 56) (z := 8) dX12_test_56 (by decide) ?_
        refine mr_bipush (pc := 58) (z := 15) dX12_test_58 (by decide) ?_
        refine mr_cSP (pc := 60) (c_X12_in_W hw T1435 h1449 (rW (c := (-2147483648)) (d := 2147483647) (rR (x := 8)) rfl) (rW (c := (-2147483648)) (d := 2147483647) (rR (x := 15)) rfl) (((((h1453.2.2.2.1 h1453.1).1 h1517).2 h3527).2 h3533).2 h3535)) (gOk _ _ _ _ _) dX12_test_60 (tX12_in _ _ _ _ _) wS_X12_in wM_X12_18 ⟨le_t rfl, le_t rfl⟩ ⟨le_t rfl, le_t rfl⟩ rfl (le_t rfl) fun z3541 h3540 => ?_
        refine mr_if_ne (pc := 63) (tgt := 71) dX12_test_63 (by decide) (r32 h3540.1 rfl) (fun h3542 => ?_) (fun h3542 => ?_)
        · have h3543 : 1 ≤ z3541 ∧ z3541 ≤ 1 := (vc_X12_test_Wx_65 h3542 h3540.2.1 h3540.2.2.1 h1449 h3540.1)
          have h3544 : (8 : Int) ≤ z1447 ∧ z1447 ≤ (15 : Int) := (h3540.2.1 (vc_X12_test_Wx_66 h3540.2.1 h3540.2.2.1 h3542 h1453.2.1 h1453.2.2.1 h1519 h3533 h3535 h1443 h3532 h1449 h1518 h3543))
          have h3545 : 8 ≤ z1447 ∧ z1447 ≤ 15 := (vc_X12_test_Wx_67 h3544 h1453.2.1 h1453.2.2.1 h1519 h3533 h3535 h3540.2.1 h3540.2.2.1 h1443 h3532 h1449 h1518 h3543)
          exact J1545 μ1432 T1435 mF.refl ((h3540.2.2.2.1 h3540.1).1 h3542)
        have h3546 : 0 ≤ z3541 ∧ z3541 ≤ 0 := (vc_X12_test_Wx_68 h3542 h3540.2.1 h3540.2.2.1 h1449 h3540.1)
        have h3547 : z1447 < (8 : Int) ∨ (15 : Int) < z1447 := (h3540.2.2.1 (vc_X12_test_Wx_69 h3540.2.1 h3540.2.2.1 h3542 h1453.2.1 h1453.2.2.1 h1519 h3533 h3535 h1443 h3532 h1449 h1518 h3546))
        refine sv_aload_n (pc := 66) dX12_test_66 rfl rfl ?_
        refine mr_iconst (pc := 67) (z := 2) dX12_test_67 ?_
        refine mr_cVV (pc := 68) (c_X12_wrong_Wx hw T1435 (rW (c := 1) (d := 4) (rR (x := 2)) rfl) ((h3540.2.2.2.1 h3540.1).2 h3542)) (gOk _ _ _ _ _) dX12_test_68 (tX12_wrong _ _ _ _ _) ⟨wV_X12_wrong, wL_X12_wrong⟩ wM_X12_240 (gCX12 _ _ _ _ _) rfl (A_106 hw) rfl ⟨le_t rfl, le_t rfl⟩ ⟨le_t rfl, le_t rfl⟩ rfl (le_t rfl) fun μ3548 T3549 F3550 h3551 => ?_
        exact J1545 μ3548 T3549 (mF.call mF.refl F3550 rfl) (h3551.1 T3549 F3550)
      have h3552 : 1 ≤ z1454 ∧ z1454 ≤ 1 := (vc_X12_test_Wx_70 h1517 h1453.2.1 h1453.2.2.1 h1443 h1446 h1449 h1453.1)
      have h3553 : z1441 = 0 ∧ z1444 = 1 ∧ z1447 = (3 : Int) := (h1453.2.1 (vc_X12_test_Wx_71 h1453.2.1 h1453.2.2.1 h1517 h1443 h1446 h1449 h3552))
      have h3554 : 3 ≤ z1447 ∧ z1447 ≤ 3 := (vc_X12_test_Wx_72 h3553 h1453.2.1 h1453.2.2.1 h1443 h1446 h1449 h3552)
      have h3555 : 1 ≤ z1444 ∧ z1444 ≤ 1 := (vc_X12_test_Wx_73 h3553 h1453.2.1 h1453.2.2.1 h1443 h1446 h3554 h3552)
      have h3556 : 0 ≤ z1441 ∧ z1441 ≤ 0 := (vc_X12_test_Wx_74 h3553 h1453.2.1 h1453.2.2.1 h1443 h3555 h3554 h3552)
      refine mr_iload_n (pc := 10) (z := z1431) dX12_test_10 rfl rfl ?_
      refine mr_if_ne (pc := 11) (tgt := 18) dX12_test_11 (by decide) (r32 h1434 rfl) (fun h3559 => ?_) (fun h3559 => ?_)
      · have h3560 : 1 ≤ z1431 ∧ z1431 ≤ 1 := (vc_X12_ring_24 h3559 h1434)
        refine mr_iconst (pc := 18) (z := 0) dX12_test_18 ?_
        refine mr_istore_n (pc := 19) (lv' := [(1, iv 0), (0, .ref 106)]) dX12_test_19 rfl (by decide) rfl ?_
        refine sv_aload_n (pc := 20) dX12_test_20 rfl rfl ?_
        obtain ⟨z3561, q3562⟩ : ∃ z, μ1432 106 33 = z := ⟨_, rfl⟩
        have h3563 : (0 ≤ z3561 ∧ z3561 ≤ 1000) := by rw [← q3562]; exact T1435 106 106 (A_106 hw) 33
        obtain ⟨z3564, q3565⟩ : ∃ z, μ1432 106 1 = z := ⟨_, rfl⟩
        have h3566 : (0 ≤ z3564 ∧ z3564 ≤ 1000) := by rw [← q3565]; exact T1435 106 106 (A_106 hw) 1
        refine mr_cVV (pc := 21) (c_X12_next_v hw T1435 q1442 q3562 q3565) (gOk _ _ _ _ _) dX12_test_21 (tX12_next _ _ _ _ _) ⟨wV_X12_next, wL_X12_next⟩ wM_X12_247 (gCX12 _ _ _ _ _) rfl (A_106 hw) rfl ⟨le_t rfl, le_t rfl⟩ ⟨le_t rfl, le_t rfl⟩ rfl (le_t rfl) fun μ3567 T3568 F3569 h3570 => ?_
        obtain ⟨z3571, z3573, z3575, z3577, z3579, q3572, q3574, q3576, q3578, q3580, h3581⟩ := h3570
        have h3582 : (0 ≤ z3571 ∧ z3571 ≤ 4) := by rw [← q3572]; exact T3568 106 106 (A_106 hw) 37
        have h3583 : (0 ≤ z3573 ∧ z3573 ≤ 1000) := by rw [← q3574]; exact T3568 106 106 (A_106 hw) 33
        have h3584 : (0 ≤ z3575 ∧ z3575 ≤ 1000) := by rw [← q3576]; exact T3568 106 106 (A_106 hw) 34
        have h3585 : (0 ≤ z3577 ∧ z3577 ≤ 3) := by rw [← q3578]; exact T3568 106 106 (A_106 hw) 35
        have h3586 : ((-2147483648) ≤ z3579 ∧ z3579 ≤ 2147483647) := by rw [← q3580]; exact T3568 106 106 (A_106 hw) 36
        refine sv_goto (pc := 24) (tgt := 2) dX12_test_24 (by decide) ?_
        refine mr_lvS (lv' := [(0, .ref 106), (1, iv 0)]) (List.forall_mem_cons.mpr ⟨rfl, List.forall_mem_cons.mpr ⟨rfl, fun _ h => absurd h List.not_mem_nil⟩⟩) ?_
        exact ih1440 0 μ3567 T3568 (mF.call (mF.call mF.refl F1436 rfl) F3569 rfl) (rW (c := 0) (d := 1) (rR (x := 0)) rfl) trivial ((((((((((((h1453.2.2.2.1 h1453.1).2 h1517).1 h3559) z3561 q3562 h3563) z3564 q3565 h3566) μ3567 F3569 T3568) z3571 q3572) z3573 q3574) z3575 q3576) z3577 q3578) z3579 q3580) h3581.2.2.2.2.2.2.2.1)
      have h3587 : 0 ≤ z1431 ∧ z1431 ≤ 0 := (vc_X12_ring_22 h3559 h1434)
      refine mr_iconst (pc := 14) (z := 1) dX12_test_14 ?_
      refine sv_goto (pc := 15) (tgt := 19) dX12_test_15 (by decide) ?_
      refine mr_istore_n (pc := 19) (lv' := [(1, iv 1), (0, .ref 106)]) dX12_test_19 rfl (by decide) rfl ?_
      refine sv_aload_n (pc := 20) dX12_test_20 rfl rfl ?_
      obtain ⟨z3588, q3589⟩ : ∃ z, μ1432 106 33 = z := ⟨_, rfl⟩
      have h3590 : (0 ≤ z3588 ∧ z3588 ≤ 1000) := by rw [← q3589]; exact T1435 106 106 (A_106 hw) 33
      obtain ⟨z3591, q3592⟩ : ∃ z, μ1432 106 1 = z := ⟨_, rfl⟩
      have h3593 : (0 ≤ z3591 ∧ z3591 ≤ 1000) := by rw [← q3592]; exact T1435 106 106 (A_106 hw) 1
      refine mr_cVV (pc := 21) (c_X12_next_v hw T1435 q1442 q3589 q3592) (gOk _ _ _ _ _) dX12_test_21 (tX12_next _ _ _ _ _) ⟨wV_X12_next, wL_X12_next⟩ wM_X12_247 (gCX12 _ _ _ _ _) rfl (A_106 hw) rfl ⟨le_t rfl, le_t rfl⟩ ⟨le_t rfl, le_t rfl⟩ rfl (le_t rfl) fun μ3594 T3595 F3596 h3597 => ?_
      obtain ⟨z3598, z3600, z3602, z3604, z3606, q3599, q3601, q3603, q3605, q3607, h3608⟩ := h3597
      have h3609 : (0 ≤ z3598 ∧ z3598 ≤ 4) := by rw [← q3599]; exact T3595 106 106 (A_106 hw) 37
      have h3610 : (0 ≤ z3600 ∧ z3600 ≤ 1000) := by rw [← q3601]; exact T3595 106 106 (A_106 hw) 33
      have h3611 : (0 ≤ z3602 ∧ z3602 ≤ 1000) := by rw [← q3603]; exact T3595 106 106 (A_106 hw) 34
      have h3612 : (0 ≤ z3604 ∧ z3604 ≤ 3) := by rw [← q3605]; exact T3595 106 106 (A_106 hw) 35
      have h3613 : ((-2147483648) ≤ z3606 ∧ z3606 ≤ 2147483647) := by rw [← q3607]; exact T3595 106 106 (A_106 hw) 36
      refine sv_goto (pc := 24) (tgt := 2) dX12_test_24 (by decide) ?_
      refine mr_lvS (lv' := [(0, .ref 106), (1, iv 1)]) (List.forall_mem_cons.mpr ⟨rfl, List.forall_mem_cons.mpr ⟨rfl, fun _ h => absurd h List.not_mem_nil⟩⟩) ?_
      exact ih1440 1 μ3594 T3595 (mF.call (mF.call mF.refl F1436 rfl) F3596 rfl) (rW (c := 0) (d := 1) (rR (x := 1)) rfl) trivial ((((((((((((h1453.2.2.2.1 h1453.1).2 h1517).2 h3559) z3588 q3589 h3590) z3591 q3592 h3593) μ3594 F3596 T3595) z3598 q3599) z3600 q3601) z3602 q3603) z3604 q3605) z3606 q3607) h3608.2.2.2.2.2.2.2.1)
  refine mr_lvS (lv' := [(0, .ref 106), (1, iv 0)]) (List.forall_mem_cons.mpr ⟨rfl, List.forall_mem_cons.mpr ⟨rfl, fun _ h => absurd h List.not_mem_nil⟩⟩) ?_
  exact L1433 1010 0 μ hT mF.refl (rW (c := 0) (d := 1) (rR (x := 0)) rfl) trivial hQ
