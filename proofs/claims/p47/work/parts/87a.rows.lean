theorem vc_X6_isAct_g_2 {p1 : Int} (h0 : p1 = 12) (h1 : 12 ≤ p1 ∧ p1 ≤ 12) : (1 : Int) = 1 → p1 = 12 ∨ p1 = 13 ∨ (23 ≤ p1 ∧ p1 ≤ 28) := by omega
theorem vc_X6_isAct_g_4 {p1 : Int} (h0 : ¬ p1 = 12) (h1 : p1 = 13) (h2 : 13 ≤ p1 ∧ p1 ≤ 13) : (1 : Int) = 1 → p1 = 12 ∨ p1 = 13 ∨ (23 ≤ p1 ∧ p1 ≤ 28) := by omega
theorem vc_X6_isAct_g_5 {p1 : Int} (h0 : p1 < 23) (h1 : ¬ p1 = 12) (h2 : ¬ p1 = 13) (h3 : (-2147483648) ≤ p1 ∧ p1 ≤ 2147483647) : (-2147483648) ≤ p1 ∧ p1 ≤ 22 := by omega
theorem vc_X6_isAct_g_6 {p1 : Int} (h0 : ¬ p1 = 12) (h1 : ¬ p1 = 13) (h2 : p1 < 23) (h3 : (-2147483648) ≤ p1 ∧ p1 ≤ 22) : (0 : Int) = 1 → p1 = 12 ∨ p1 = 13 ∨ (23 ≤ p1 ∧ p1 ≤ 28) := by omega
theorem vc_X6_isAct_g_7 {p1 : Int} (h0 : 23 ≤ p1) (h1 : ¬ p1 = 12) (h2 : ¬ p1 = 13) (h3 : (-2147483648) ≤ p1 ∧ p1 ≤ 2147483647) : 23 ≤ p1 ∧ p1 ≤ 2147483647 := by omega
theorem vc_X6_isAct_g_8 {p1 : Int} (h0 : 28 < p1) (h1 : ¬ p1 = 12) (h2 : ¬ p1 = 13) (h3 : 23 ≤ p1) (h4 : 23 ≤ p1 ∧ p1 ≤ 2147483647) : 29 ≤ p1 ∧ p1 ≤ 2147483647 := by omega
theorem vc_X6_isAct_g_9 {p1 : Int} (h0 : ¬ p1 = 12) (h1 : ¬ p1 = 13) (h2 : 23 ≤ p1) (h3 : 28 < p1) (h4 : 29 ≤ p1 ∧ p1 ≤ 2147483647) : (0 : Int) = 1 → p1 = 12 ∨ p1 = 13 ∨ (23 ≤ p1 ∧ p1 ≤ 28) := by omega
theorem vc_X6_isAct_g_10 {p1 : Int} (h0 : p1 ≤ 28) (h1 : ¬ p1 = 12) (h2 : ¬ p1 = 13) (h3 : 23 ≤ p1) (h4 : 23 ≤ p1 ∧ p1 ≤ 2147483647) : 23 ≤ p1 ∧ p1 ≤ 28 := by omega
theorem vc_X6_isAct_g_11 {p1 : Int} (h0 : ¬ p1 = 12) (h1 : ¬ p1 = 13) (h2 : 23 ≤ p1) (h3 : p1 ≤ 28) (h4 : 23 ≤ p1 ∧ p1 ≤ 28) : (1 : Int) = 1 → p1 = 12 ∨ p1 = 13 ∨ (23 ≤ p1 ∧ p1 ≤ 28) := by omega
set_option maxRecDepth 4000 in
set_option maxHeartbeats 4000000 in
theorem c_X6_isAct_g {l : Launch} {D : va_G} {c : Nat → ClassId} {H0 : Heap} {sa : Nat × Nat × (Nat → Int32)} {w : mW} {μ : mM} (hw : mWF w) (hT : mT w μ) {p1 : Int} (hp1 : (-2147483648) ≤ p1 ∧ p1 ≤ 2147483647) : sC (gG l D c H0 sa) mX6_isAct 1 0 0 [iv p1] (mk w μ) (qP w μ (fun z => (0 ≤ z ∧ z ≤ 1) ∧ (z = 1 → p1 = 12 ∨ p1 = 13 ∨ (23 ≤ p1 ∧ p1 ≤ 28)) ∧ True)) := by
  refine sC.of rfl (by decide) (le_t rfl) ?_
  refine mr_lvE (lv' := [(0, iv p1)]) rfl ?_
  refine mr_iload_n (pc := 0) (z := p1) dX6_isAct_0 rfl rfl ?_
  refine mr_bipush (pc := 1) (z := 12) dX6_isAct_1 (by decide) ?_
  refine mr_icmp_eq (pc := 3) (tgt := 24) dX6_isAct_3 (by decide) hp1 (r32 (rR (x := 12)) rfl) (fun h7 => ?_) (fun h7 => ?_)
  · have h8 : 12 ≤ p1 ∧ p1 ≤ 12 := (vc_X1_doActs_12_12 h7 hp1)
    refine mr_iconst (pc := 24) (z := 1) dX6_isAct_24 ?_
    refine sv_goto (pc := 25) (tgt := 29) dX6_isAct_25 (by decide) ?_
    exact mr_zretP dX6_isAct_29 rfl (rW (c := 0) (d := 1) (rR (x := 1)) rfl) (le_t rfl) (le_t rfl) ⟨(rW (c := 0) (d := 1) (rR (x := 1)) rfl), (vc_X6_isAct_g_2 h7 h8), trivial⟩
  refine mr_iload_n (pc := 6) (z := p1) dX6_isAct_6 rfl rfl ?_
  refine mr_bipush (pc := 7) (z := 13) dX6_isAct_7 (by decide) ?_
  refine mr_icmp_eq (pc := 9) (tgt := 24) dX6_isAct_9 (by decide) hp1 (r32 (rR (x := 13)) rfl) (fun h14 => ?_) (fun h14 => ?_)
  · have h15 : 13 ≤ p1 ∧ p1 ≤ 13 := (vc_X1_doActs_12_14 h14 h7 hp1)
    refine mr_iconst (pc := 24) (z := 1) dX6_isAct_24 ?_
    refine sv_goto (pc := 25) (tgt := 29) dX6_isAct_25 (by decide) ?_
    exact mr_zretP dX6_isAct_29 rfl (rW (c := 0) (d := 1) (rR (x := 1)) rfl) (le_t rfl) (le_t rfl) ⟨(rW (c := 0) (d := 1) (rR (x := 1)) rfl), (vc_X6_isAct_g_4 h7 h14 h15), trivial⟩
  refine mr_iload_n (pc := 12) (z := p1) dX6_isAct_12 rfl rfl ?_
  refine mr_bipush (pc := 13) (z := 23) dX6_isAct_13 (by decide) ?_
  refine mr_icmp_lt (pc := 15) (tgt := 28) dX6_isAct_15 (by decide) hp1 (r32 (rR (x := 23)) rfl) (fun h20 => ?_) (fun h20 => ?_)
  · have h21 : (-2147483648) ≤ p1 ∧ p1 ≤ 22 := (vc_X6_isAct_g_5 h20 h7 h14 hp1)
    refine mr_iconst (pc := 28) (z := 0) dX6_isAct_28 ?_
    exact mr_zretP dX6_isAct_29 rfl (rW (c := 0) (d := 1) (rR (x := 0)) rfl) (le_t rfl) (le_t rfl) ⟨(rW (c := 0) (d := 1) (rR (x := 0)) rfl), (vc_X6_isAct_g_6 h7 h14 h20 h21), trivial⟩
  have h22 : 23 ≤ p1 ∧ p1 ≤ 2147483647 := (vc_X6_isAct_g_7 h20 h7 h14 hp1)
  refine mr_iload_n (pc := 18) (z := p1) dX6_isAct_18 rfl rfl ?_
  refine mr_bipush (pc := 19) (z := 28) dX6_isAct_19 (by decide) ?_
  refine mr_icmp_gt (pc := 21) (tgt := 28) dX6_isAct_21 (by decide) (r32 h22 rfl) (r32 (rR (x := 28)) rfl) (fun h25 => ?_) (fun h25 => ?_)
  · have h26 : 29 ≤ p1 ∧ p1 ≤ 2147483647 := (vc_X6_isAct_g_8 h25 h7 h14 h20 h22)
    refine mr_iconst (pc := 28) (z := 0) dX6_isAct_28 ?_
    exact mr_zretP dX6_isAct_29 rfl (rW (c := 0) (d := 1) (rR (x := 0)) rfl) (le_t rfl) (le_t rfl) ⟨(rW (c := 0) (d := 1) (rR (x := 0)) rfl), (vc_X6_isAct_g_9 h7 h14 h20 h25 h26), trivial⟩
  have h27 : 23 ≤ p1 ∧ p1 ≤ 28 := (vc_X6_isAct_g_10 h25 h7 h14 h20 h22)
  refine mr_iconst (pc := 24) (z := 1) dX6_isAct_24 ?_
  refine sv_goto (pc := 25) (tgt := 29) dX6_isAct_25 (by decide) ?_
  exact mr_zretP dX6_isAct_29 rfl (rW (c := 0) (d := 1) (rR (x := 1)) rfl) (le_t rfl) (le_t rfl) ⟨(rW (c := 0) (d := 1) (rR (x := 1)) rfl), (vc_X6_isAct_g_11 h7 h14 h20 h25 h27), trivial⟩
theorem vc_X6_isTest_g_2 {p1 : Int} (h0 : p1 = 4) (h1 : 4 ≤ p1 ∧ p1 ≤ 4) : (1 : Int) = 1 → p1 = 4 ∨ p1 = 6 ∨ (8 ≤ p1 ∧ p1 ≤ 15) := by omega
theorem vc_X6_isTest_g_4 {p1 : Int} (h0 : ¬ p1 = 4) (h1 : p1 = 6) (h2 : 6 ≤ p1 ∧ p1 ≤ 6) : (1 : Int) = 1 → p1 = 4 ∨ p1 = 6 ∨ (8 ≤ p1 ∧ p1 ≤ 15) := by omega
theorem vc_X6_isTest_g_5 {p1 : Int} (h0 : p1 < 8) (h1 : ¬ p1 = 4) (h2 : ¬ p1 = 6) (h3 : (-2147483648) ≤ p1 ∧ p1 ≤ 2147483647) : (-2147483648) ≤ p1 ∧ p1 ≤ 7 := by omega
theorem vc_X6_isTest_g_6 {p1 : Int} (h0 : ¬ p1 = 4) (h1 : ¬ p1 = 6) (h2 : p1 < 8) (h3 : (-2147483648) ≤ p1 ∧ p1 ≤ 7) : (0 : Int) = 1 → p1 = 4 ∨ p1 = 6 ∨ (8 ≤ p1 ∧ p1 ≤ 15) := by omega
theorem vc_X6_isTest_g_7 {p1 : Int} (h0 : 8 ≤ p1) (h1 : ¬ p1 = 4) (h2 : ¬ p1 = 6) (h3 : (-2147483648) ≤ p1 ∧ p1 ≤ 2147483647) : 8 ≤ p1 ∧ p1 ≤ 2147483647 := by omega
theorem vc_X6_isTest_g_8 {p1 : Int} (h0 : 15 < p1) (h1 : ¬ p1 = 4) (h2 : ¬ p1 = 6) (h3 : 8 ≤ p1) (h4 : 8 ≤ p1 ∧ p1 ≤ 2147483647) : 16 ≤ p1 ∧ p1 ≤ 2147483647 := by omega
theorem vc_X6_isTest_g_9 {p1 : Int} (h0 : ¬ p1 = 4) (h1 : ¬ p1 = 6) (h2 : 8 ≤ p1) (h3 : 15 < p1) (h4 : 16 ≤ p1 ∧ p1 ≤ 2147483647) : (0 : Int) = 1 → p1 = 4 ∨ p1 = 6 ∨ (8 ≤ p1 ∧ p1 ≤ 15) := by omega
theorem vc_X6_isTest_g_10 {p1 : Int} (h0 : p1 ≤ 15) (h1 : ¬ p1 = 4) (h2 : ¬ p1 = 6) (h3 : 8 ≤ p1) (h4 : 8 ≤ p1 ∧ p1 ≤ 2147483647) : 8 ≤ p1 ∧ p1 ≤ 15 := by omega
theorem vc_X6_isTest_g_11 {p1 : Int} (h0 : ¬ p1 = 4) (h1 : ¬ p1 = 6) (h2 : 8 ≤ p1) (h3 : p1 ≤ 15) (h4 : 8 ≤ p1 ∧ p1 ≤ 15) : (1 : Int) = 1 → p1 = 4 ∨ p1 = 6 ∨ (8 ≤ p1 ∧ p1 ≤ 15) := by omega
set_option maxRecDepth 4000 in
set_option maxHeartbeats 4000000 in
theorem c_X6_isTest_g {l : Launch} {D : va_G} {c : Nat → ClassId} {H0 : Heap} {sa : Nat × Nat × (Nat → Int32)} {w : mW} {μ : mM} (hw : mWF w) (hT : mT w μ) {p1 : Int} (hp1 : (-2147483648) ≤ p1 ∧ p1 ≤ 2147483647) : sC (gG l D c H0 sa) mX6_isTest 1 0 0 [iv p1] (mk w μ) (qP w μ (fun z => (0 ≤ z ∧ z ≤ 1) ∧ (z = 1 → p1 = 4 ∨ p1 = 6 ∨ (8 ≤ p1 ∧ p1 ≤ 15)) ∧ True)) := by
  refine sC.of rfl (by decide) (le_t rfl) ?_
  refine mr_lvE (lv' := [(0, iv p1)]) rfl ?_
  refine mr_iload_n (pc := 0) (z := p1) dX6_isTest_0 rfl rfl ?_
  refine mr_iconst (pc := 1) (z := 4) dX6_isTest_1 ?_
  refine mr_icmp_eq (pc := 2) (tgt := 23) dX6_isTest_2 (by decide) hp1 (r32 (rR (x := 4)) rfl) (fun h7 => ?_) (fun h7 => ?_)
  · have h8 : 4 ≤ p1 ∧ p1 ≤ 4 := (vc_X1_isSo_5 h7 hp1)
    refine mr_iconst (pc := 23) (z := 1) dX6_isTest_23 ?_
    refine sv_goto (pc := 24) (tgt := 28) dX6_isTest_24 (by decide) ?_
    exact mr_zretP dX6_isTest_28 rfl (rW (c := 0) (d := 1) (rR (x := 1)) rfl) (le_t rfl) (le_t rfl) ⟨(rW (c := 0) (d := 1) (rR (x := 1)) rfl), (vc_X6_isTest_g_2 h7 h8), trivial⟩
  refine mr_iload_n (pc := 5) (z := p1) dX6_isTest_5 rfl rfl ?_
  refine mr_bipush (pc := 6) (z := 6) dX6_isTest_6 (by decide) ?_
  refine mr_icmp_eq (pc := 8) (tgt := 23) dX6_isTest_8 (by decide) hp1 (r32 (rR (x := 6)) rfl) (fun h14 => ?_) (fun h14 => ?_)
  · have h15 : 6 ≤ p1 ∧ p1 ≤ 6 := (vc_X12_isSo_24 h14 h7 hp1)
    refine mr_iconst (pc := 23) (z := 1) dX6_isTest_23 ?_
    refine sv_goto (pc := 24) (tgt := 28) dX6_isTest_24 (by decide) ?_
    exact mr_zretP dX6_isTest_28 rfl (rW (c := 0) (d := 1) (rR (x := 1)) rfl) (le_t rfl) (le_t rfl) ⟨(rW (c := 0) (d := 1) (rR (x := 1)) rfl), (vc_X6_isTest_g_4 h7 h14 h15), trivial⟩
  refine mr_iload_n (pc := 11) (z := p1) dX6_isTest_11 rfl rfl ?_
  refine mr_bipush (pc := 12) (z := 8) dX6_isTest_12 (by decide) ?_
  refine mr_icmp_lt (pc := 14) (tgt := 27) dX6_isTest_14 (by decide) hp1 (r32 (rR (x := 8)) rfl) (fun h20 => ?_) (fun h20 => ?_)
  · have h21 : (-2147483648) ≤ p1 ∧ p1 ≤ 7 := (vc_X6_isTest_g_5 h20 h7 h14 hp1)
    refine mr_iconst (pc := 27) (z := 0) dX6_isTest_27 ?_
    exact mr_zretP dX6_isTest_28 rfl (rW (c := 0) (d := 1) (rR (x := 0)) rfl) (le_t rfl) (le_t rfl) ⟨(rW (c := 0) (d := 1) (rR (x := 0)) rfl), (vc_X6_isTest_g_6 h7 h14 h20 h21), trivial⟩
  have h22 : 8 ≤ p1 ∧ p1 ≤ 2147483647 := (vc_X6_isTest_g_7 h20 h7 h14 hp1)
  refine mr_iload_n (pc := 17) (z := p1) dX6_isTest_17 rfl rfl ?_
  refine mr_bipush (pc := 18) (z := 15) dX6_isTest_18 (by decide) ?_
  refine mr_icmp_gt (pc := 20) (tgt := 27) dX6_isTest_20 (by decide) (r32 h22 rfl) (r32 (rR (x := 15)) rfl) (fun h25 => ?_) (fun h25 => ?_)
  · have h26 : 16 ≤ p1 ∧ p1 ≤ 2147483647 := (vc_X6_isTest_g_8 h25 h7 h14 h20 h22)
    refine mr_iconst (pc := 27) (z := 0) dX6_isTest_27 ?_
    exact mr_zretP dX6_isTest_28 rfl (rW (c := 0) (d := 1) (rR (x := 0)) rfl) (le_t rfl) (le_t rfl) ⟨(rW (c := 0) (d := 1) (rR (x := 0)) rfl), (vc_X6_isTest_g_9 h7 h14 h20 h25 h26), trivial⟩
  have h27 : 8 ≤ p1 ∧ p1 ≤ 15 := (vc_X6_isTest_g_10 h25 h7 h14 h20 h22)
  refine mr_iconst (pc := 23) (z := 1) dX6_isTest_23 ?_
  refine sv_goto (pc := 24) (tgt := 28) dX6_isTest_24 (by decide) ?_
  exact mr_zretP dX6_isTest_28 rfl (rW (c := 0) (d := 1) (rR (x := 1)) rfl) (le_t rfl) (le_t rfl) ⟨(rW (c := 0) (d := 1) (rR (x := 1)) rfl), (vc_X6_isTest_g_11 h7 h14 h20 h25 h27), trivial⟩
theorem vc_X6_beginsPiece_g_1 {p1 : Int} (h0 : p1 = (-2)) (h1 : (-2147483648) ≤ p1 ∧ p1 ≤ 2147483647) : (-2) ≤ p1 ∧ p1 ≤ (-2) := by omega
theorem vc_X6_beginsPiece_g_2 {p1 : Int} (h0 : p1 = (-2)) (h1 : (-2) ≤ p1 ∧ p1 ≤ (-2)) : (1 : Int) = 1 → p1 = -2 ∨ p1 = 7 ∨ p1 = 1040 := by omega
theorem vc_X6_beginsPiece_g_3 {p1 : Int} (h0 : p1 = 7) (h1 : ¬ p1 = (-2)) (h2 : (-2147483648) ≤ p1 ∧ p1 ≤ 2147483647) : 7 ≤ p1 ∧ p1 ≤ 7 := by omega
theorem vc_X6_beginsPiece_g_4 {p1 : Int} (h0 : ¬ p1 = (-2)) (h1 : p1 = 7) (h2 : 7 ≤ p1 ∧ p1 ≤ 7) : (1 : Int) = 1 → p1 = -2 ∨ p1 = 7 ∨ p1 = 1040 := by omega
theorem vc_X6_beginsPiece_g_5 {p1 : Int} (h0 : ¬ p1 = (-2)) (h1 : ¬ p1 = 7) (h2 : ¬ p1 = 1040) (h3 : (-2147483648) ≤ p1 ∧ p1 ≤ 2147483647) : (0 : Int) = 1 → p1 = -2 ∨ p1 = 7 ∨ p1 = 1040 := by omega
theorem vc_X6_beginsPiece_g_6 {p1 : Int} (h0 : p1 = 1040) (h1 : ¬ p1 = (-2)) (h2 : ¬ p1 = 7) (h3 : (-2147483648) ≤ p1 ∧ p1 ≤ 2147483647) : 1040 ≤ p1 ∧ p1 ≤ 1040 := by omega
theorem vc_X6_beginsPiece_g_7 {p1 : Int} (h0 : ¬ p1 = (-2)) (h1 : ¬ p1 = 7) (h2 : p1 = 1040) (h3 : 1040 ≤ p1 ∧ p1 ≤ 1040) : (1 : Int) = 1 → p1 = -2 ∨ p1 = 7 ∨ p1 = 1040 := by omega
set_option maxRecDepth 4000 in
set_option maxHeartbeats 4000000 in
theorem c_X6_beginsPiece_g {l : Launch} {D : va_G} {c : Nat → ClassId} {H0 : Heap} {sa : Nat × Nat × (Nat → Int32)} {w : mW} {μ : mM} (hw : mWF w) (hT : mT w μ) {p1 : Int} (hp1 : (-2147483648) ≤ p1 ∧ p1 ≤ 2147483647) : sC (gG l D c H0 sa) mX6_beginsPiece 1 0 0 [iv p1] (mk w μ) (qP w μ (fun z => (0 ≤ z ∧ z ≤ 1) ∧ (z = 1 → p1 = -2 ∨ p1 = 7 ∨ p1 = 1040) ∧ True)) := by
  refine sC.of rfl (by decide) (le_t rfl) ?_
  refine mr_lvE (lv' := [(0, iv p1)]) rfl ?_
  refine mr_iload_n (pc := 0) (z := p1) dX6_beginsPiece_0 rfl rfl ?_
  refine mr_bipush (pc := 1) (z := (-2)) dX6_beginsPiece_1 (by decide) ?_
  refine mr_icmp_eq (pc := 3) (tgt := 19) dX6_beginsPiece_3 (by decide) hp1 (r32 (rR (x := (-2))) rfl) (fun h4 => ?_) (fun h4 => ?_)
  · have h5 : (-2) ≤ p1 ∧ p1 ≤ (-2) := (vc_X6_beginsPiece_g_1 h4 hp1)
    refine mr_iconst (pc := 19) (z := 1) dX6_beginsPiece_19 ?_
    refine sv_goto (pc := 20) (tgt := 24) dX6_beginsPiece_20 (by decide) ?_
    exact mr_zretP dX6_beginsPiece_24 rfl (rW (c := 0) (d := 1) (rR (x := 1)) rfl) (le_t rfl) (le_t rfl) ⟨(rW (c := 0) (d := 1) (rR (x := 1)) rfl), (vc_X6_beginsPiece_g_2 h4 h5), trivial⟩
  refine mr_iload_n (pc := 6) (z := p1) dX6_beginsPiece_6 rfl rfl ?_
  refine mr_bipush (pc := 7) (z := 7) dX6_beginsPiece_7 (by decide) ?_
  refine mr_icmp_eq (pc := 9) (tgt := 19) dX6_beginsPiece_9 (by decide) hp1 (r32 (rR (x := 7)) rfl) (fun h8 => ?_) (fun h8 => ?_)
  · have h9 : 7 ≤ p1 ∧ p1 ≤ 7 := (vc_X6_beginsPiece_g_3 h8 h4 hp1)
    refine mr_iconst (pc := 19) (z := 1) dX6_beginsPiece_19 ?_
    refine sv_goto (pc := 20) (tgt := 24) dX6_beginsPiece_20 (by decide) ?_
    exact mr_zretP dX6_beginsPiece_24 rfl (rW (c := 0) (d := 1) (rR (x := 1)) rfl) (le_t rfl) (le_t rfl) ⟨(rW (c := 0) (d := 1) (rR (x := 1)) rfl), (vc_X6_beginsPiece_g_4 h4 h8 h9), trivial⟩
  refine mr_iload_n (pc := 12) (z := p1) dX6_beginsPiece_12 rfl rfl ?_
  refine mr_sipush (pc := 13) (z := 1040) dX6_beginsPiece_13 (by decide) ?_
  refine mr_icmp_ne (pc := 16) (tgt := 23) dX6_beginsPiece_16 (by decide) hp1 (r32 (rR (x := 1040)) rfl) (fun h11 => ?_) (fun h11 => ?_)
  · refine mr_iconst (pc := 23) (z := 0) dX6_beginsPiece_23 ?_
    exact mr_zretP dX6_beginsPiece_24 rfl (rW (c := 0) (d := 1) (rR (x := 0)) rfl) (le_t rfl) (le_t rfl) ⟨(rW (c := 0) (d := 1) (rR (x := 0)) rfl), (vc_X6_beginsPiece_g_5 h4 h8 h11 hp1), trivial⟩
  have h12 : 1040 ≤ p1 ∧ p1 ≤ 1040 := (vc_X6_beginsPiece_g_6 h11 h4 h8 hp1)
  refine mr_iconst (pc := 19) (z := 1) dX6_beginsPiece_19 ?_
  refine sv_goto (pc := 20) (tgt := 24) dX6_beginsPiece_20 (by decide) ?_
  exact mr_zretP dX6_beginsPiece_24 rfl (rW (c := 0) (d := 1) (rR (x := 1)) rfl) (le_t rfl) (le_t rfl) ⟨(rW (c := 0) (d := 1) (rR (x := 1)) rfl), (vc_X6_beginsPiece_g_7 h4 h8 h11 h12), trivial⟩
theorem vc_X6_step_g_1 {f_at f_end : Int} (h0 : f_at ≤ f_end) (h1 : f_end ≤ f_at) (h2 : 0 ≤ f_at ∧ f_at ≤ 1000) (h3 : 0 ≤ f_end ∧ f_end ≤ 1000) : f_at ≤ f_end := by omega
theorem vc_X6_step_g_2 {f_at f_end : Int} (h0 : f_at ≤ f_end) (h1 : f_end ≤ f_at) (h2 : 0 ≤ f_at ∧ f_at ≤ 1000) (h3 : 0 ≤ f_end ∧ f_end ≤ 1000) : f_at ≤ f_at := by omega
theorem vc_X6_step_g_3 {f_at f_end : Int} (h0 : f_at ≤ f_end) (h1 : f_end ≤ f_at) (h2 : 0 ≤ f_at ∧ f_at ≤ 1000) (h3 : 0 ≤ f_end ∧ f_end ≤ 1000) : f_at < f_end → f_at + 1 ≤ f_at := by omega
theorem vc_X6_step_g_4 {f_at f_end : Int} (h0 : f_at < f_end) (h1 : f_at ≤ f_end) (h2 : 0 ≤ f_at ∧ f_at ≤ 1000) (h3 : 0 ≤ f_end ∧ f_end ≤ 1000) : 0 ≤ f_at ∧ f_at ≤ 999 := by omega
theorem vc_X6_step_g_5 {f_at f_end : Int} (h0 : f_at < f_end) (h1 : f_at ≤ f_end) (h2 : 0 ≤ f_at ∧ f_at ≤ 999) (h3 : 0 ≤ f_end ∧ f_end ≤ 1000) : 1 ≤ f_end ∧ f_end ≤ 1000 := by omega
theorem vc_X6_step_g_6 {f_at f_end : Int} (h0 : f_at ≤ f_end) (h1 : f_at < f_end) (h2 : 0 ≤ f_at ∧ f_at ≤ 999) (h3 : 1 ≤ f_end ∧ f_end ≤ 1000) : (f_at + 1) ≤ f_end := by omega
theorem vc_X6_step_g_7 {f_at f_end : Int} (h0 : f_at ≤ f_end) (h1 : f_at < f_end) (h2 : 0 ≤ f_at ∧ f_at ≤ 999) (h3 : 1 ≤ f_end ∧ f_end ≤ 1000) : f_at ≤ (f_at + 1) := by omega
theorem vc_X6_step_g_8 {f_at f_end : Int} (h0 : f_at ≤ f_end) (h1 : f_at < f_end) (h2 : 0 ≤ f_at ∧ f_at ≤ 999) (h3 : 1 ≤ f_end ∧ f_end ≤ 1000) : f_at < f_end → f_at + 1 ≤ (f_at + 1) := by omega
set_option maxRecDepth 4000 in
set_option maxHeartbeats 4000000 in
theorem c_X6_step_g {l : Launch} {D : va_G} {c : Nat → ClassId} {H0 : Heap} {sa : Nat × Nat × (Nat → Int32)} {w : mW} {μ : mM} (hw : mWF w) (hT : mT w μ) {f_at : Int} (q_f_at : μ 23 9 = f_at) {f_end : Int} (q_f_end : μ 23 8 = f_end) (hq0 : f_at ≤ f_end) : sC (gG l D c H0 sa) mX6_step 1 0 0 [.ref 23] (mk w μ) (qV w [23009] μ (fun μ1 => ∃ o_at : Int, μ1 23 9 = o_at ∧ (o_at ≤ f_end) ∧ (f_at ≤ o_at) ∧ (f_at < f_end → f_at + 1 ≤ o_at) ∧ True)) := by
  refine sC.of rfl (by decide) (le_t rfl) ?_
  have ht_f_at : (0 ≤ f_at ∧ f_at ≤ 1000) := by rw [← q_f_at]; exact hT 23 23 (A_23 hw) 9
  have ht_f_end : (0 ≤ f_end ∧ f_end ≤ 1000) := by rw [← q_f_end]; exact hT 23 23 (A_23 hw) 8
  refine mr_lvE (lv' := [(0, .ref 23)]) rfl ?_
  refine sv_aload_n (pc := 0) dX6_step_0 rfl rfl ?_
  refine gk_X6_9 (pc := 1) dX6_step_1 wF_X6_63 (A_23 hw) q_f_at ?_
  refine sv_aload_n (pc := 4) dX6_step_4 rfl rfl ?_
  refine gk_X6_8 (pc := 5) dX6_step_5 wF_X6_83 (A_23 hw) q_f_end ?_
  refine mr_icmp_ge (pc := 8) (tgt := 21) dX6_step_8 (by decide) (r32 ht_f_at rfl) (r32 ht_f_end rfl) (fun h21 => ?_) (fun h21 => ?_)
  · exact mr_vret dX6_step_21 rfl (le_t rfl) (le_t rfl) hT mF.refl ⟨f_at, q_f_at, (vc_X6_step_g_1 hq0 h21 ht_f_at ht_f_end), (vc_X6_step_g_2 hq0 h21 ht_f_at ht_f_end), (vc_X6_step_g_3 hq0 h21 ht_f_at ht_f_end), trivial⟩
  have h22 : 0 ≤ f_at ∧ f_at ≤ 999 := (vc_X6_step_g_4 h21 hq0 ht_f_at ht_f_end)
  have h23 : 1 ≤ f_end ∧ f_end ≤ 1000 := (vc_X6_step_g_5 h21 hq0 h22 ht_f_end)
  refine sv_aload_n (pc := 11) dX6_step_11 rfl rfl ?_
  refine sv_dup (pc := 12) dX6_step_12 rfl ?_
  refine gk_X6_9 (pc := 13) dX6_step_13 wF_X6_63 (A_23 hw) q_f_at ?_
  refine mr_iconst (pc := 16) (z := 1) dX6_step_16 ?_
  refine mr_iadd (pc := 17) (x := f_at) (y := 1) dX6_step_17 ?_
  refine pf_X6_9 (pc := 18) dX6_step_18 wF_X6_63 (A_23 hw) hT (rW (c := 0) (d := 1000) (rAdd (e := 1) (f := 1000) h22 (rR (x := 1)) rfl) rfl) fun μ24 u25 T26 => ?_
  exact mr_vret dX6_step_21 rfl (le_t rfl) (le_t rfl) T26 (mF.up mF.refl (A_23 hw) u25 rfl) ⟨(f_at + 1), u25.1, (vc_X6_step_g_6 hq0 h21 h22 h23), (vc_X6_step_g_7 hq0 h21 h22 h23), (vc_X6_step_g_8 hq0 h21 h22 h23), trivial⟩
theorem vc_X6_take_g_1 {f_te : Int} (h0 : f_te = -1) (h1 : (-2147483648) ≤ f_te ∧ f_te ≤ 2147483647) : (-1) ≤ f_te ∧ f_te ≤ (-1) := by omega
theorem vc_X6_take_g_2 {f_at f_end f_te p1 z35 : Int} (h0 : f_at ≤ f_end) (h1 : (f_at = f_end → z35 = f_te)) (h2 : f_te = -1) (h3 : z35 = p1) (h4 : 0 ≤ f_at ∧ f_at ≤ 1000) (h5 : 0 ≤ f_end ∧ f_end ≤ 1000) (h6 : (-1) ≤ f_te ∧ f_te ≤ (-1)) (h7 : (-2147483648) ≤ p1 ∧ p1 ≤ 2147483647) (h8 : (-2147483648) ≤ z35 ∧ z35 ≤ 2147483647) : f_at ≤ f_end := by omega
theorem vc_X6_take_g_3 {f_at f_end f_te p1 z35 z43 : Int} (h0 : f_at ≤ f_end) (h1 : (f_at = f_end → z35 = f_te)) (h2 : z43 ≤ f_end) (h3 : f_at ≤ z43) (h4 : f_at < f_end → f_at + 1 ≤ z43) (h5 : f_te = -1) (h6 : z35 = p1) (h7 : 0 ≤ f_at ∧ f_at ≤ 1000) (h8 : 0 ≤ f_end ∧ f_end ≤ 1000) (h9 : (-1) ≤ f_te ∧ f_te ≤ (-1)) (h10 : (-2147483648) ≤ p1 ∧ p1 ≤ 2147483647) (h11 : (-2147483648) ≤ z35 ∧ z35 ≤ 2147483647) (h12 : 0 ≤ z43 ∧ z43 ≤ 1000) : z43 ≤ f_end := by omega
theorem vc_X6_take_g_4 {f_at f_end f_te p1 z35 z43 : Int} (h0 : f_at ≤ f_end) (h1 : (f_at = f_end → z35 = f_te)) (h2 : z43 ≤ f_end) (h3 : f_at ≤ z43) (h4 : f_at < f_end → f_at + 1 ≤ z43) (h5 : f_te = -1) (h6 : z35 = p1) (h7 : 0 ≤ f_at ∧ f_at ≤ 1000) (h8 : 0 ≤ f_end ∧ f_end ≤ 1000) (h9 : (-1) ≤ f_te ∧ f_te ≤ (-1)) (h10 : (-2147483648) ≤ p1 ∧ p1 ≤ 2147483647) (h11 : (-2147483648) ≤ z35 ∧ z35 ≤ 2147483647) (h12 : 0 ≤ z43 ∧ z43 ≤ 1000) : f_at ≤ z43 := by omega
theorem vc_X6_take_g_5 {f_at f_end f_te p1 z35 z43 : Int} (h0 : f_at ≤ f_end) (h1 : (f_at = f_end → z35 = f_te)) (h2 : z35 = p1) (h3 : z43 ≤ f_end) (h4 : f_at ≤ z43) (h5 : f_at < f_end → f_at + 1 ≤ z43) (h6 : f_te = -1) (h7 : 0 ≤ f_at ∧ f_at ≤ 1000) (h8 : 0 ≤ f_end ∧ f_end ≤ 1000) (h9 : (-1) ≤ f_te ∧ f_te ≤ (-1)) (h10 : (-2147483648) ≤ p1 ∧ p1 ≤ 2147483647) (h11 : (-2147483648) ≤ z35 ∧ z35 ≤ 2147483647) (h12 : 0 ≤ z43 ∧ z43 ≤ 1000) : (1 : Int) = 1 → p1 = -1 ∨ f_at + 1 ≤ z43 := by omega
theorem vc_X6_take_g_6 {f_at f_end f_te p1 z35 z43 : Int} (h0 : f_at ≤ f_end) (h1 : (f_at = f_end → z35 = f_te)) (h2 : z43 ≤ f_end) (h3 : f_at ≤ z43) (h4 : f_at < f_end → f_at + 1 ≤ z43) (h5 : f_te = -1) (h6 : z35 = p1) (h7 : 0 ≤ f_at ∧ f_at ≤ 1000) (h8 : 0 ≤ f_end ∧ f_end ≤ 1000) (h9 : (-1) ≤ f_te ∧ f_te ≤ (-1)) (h10 : (-2147483648) ≤ p1 ∧ p1 ≤ 2147483647) (h11 : (-2147483648) ≤ z35 ∧ z35 ≤ 2147483647) (h12 : 0 ≤ z43 ∧ z43 ≤ 1000) : (1 : Int) = 0 → z43 = f_at := by omega
theorem vc_X6_take_g_7 {f_at f_end f_te p1 z35 : Int} (h0 : f_at ≤ f_end) (h1 : (f_at = f_end → z35 = f_te)) (h2 : f_te = -1) (h3 : ¬ z35 = p1) (h4 : 0 ≤ f_at ∧ f_at ≤ 1000) (h5 : 0 ≤ f_end ∧ f_end ≤ 1000) (h6 : (-1) ≤ f_te ∧ f_te ≤ (-1)) (h7 : (-2147483648) ≤ p1 ∧ p1 ≤ 2147483647) (h8 : (-2147483648) ≤ z35 ∧ z35 ≤ 2147483647) : f_at ≤ f_end := by omega
theorem vc_X6_take_g_8 {f_at f_end f_te p1 z35 : Int} (h0 : f_at ≤ f_end) (h1 : (f_at = f_end → z35 = f_te)) (h2 : f_te = -1) (h3 : ¬ z35 = p1) (h4 : 0 ≤ f_at ∧ f_at ≤ 1000) (h5 : 0 ≤ f_end ∧ f_end ≤ 1000) (h6 : (-1) ≤ f_te ∧ f_te ≤ (-1)) (h7 : (-2147483648) ≤ p1 ∧ p1 ≤ 2147483647) (h8 : (-2147483648) ≤ z35 ∧ z35 ≤ 2147483647) : f_at ≤ f_at := by omega
theorem vc_X6_take_g_9 {f_at f_end f_te p1 z35 : Int} (h0 : f_at ≤ f_end) (h1 : (f_at = f_end → z35 = f_te)) (h2 : ¬ z35 = p1) (h3 : f_te = -1) (h4 : 0 ≤ f_at ∧ f_at ≤ 1000) (h5 : 0 ≤ f_end ∧ f_end ≤ 1000) (h6 : (-1) ≤ f_te ∧ f_te ≤ (-1)) (h7 : (-2147483648) ≤ p1 ∧ p1 ≤ 2147483647) (h8 : (-2147483648) ≤ z35 ∧ z35 ≤ 2147483647) : (0 : Int) = 1 → p1 = -1 ∨ f_at + 1 ≤ f_at := by omega
theorem vc_X6_take_g_10 {f_at f_end f_te p1 z35 : Int} (h0 : f_at ≤ f_end) (h1 : (f_at = f_end → z35 = f_te)) (h2 : f_te = -1) (h3 : ¬ z35 = p1) (h4 : 0 ≤ f_at ∧ f_at ≤ 1000) (h5 : 0 ≤ f_end ∧ f_end ≤ 1000) (h6 : (-1) ≤ f_te ∧ f_te ≤ (-1)) (h7 : (-2147483648) ≤ p1 ∧ p1 ≤ 2147483647) (h8 : (-2147483648) ≤ z35 ∧ z35 ≤ 2147483647) : (0 : Int) = 0 → f_at = f_at := by omega
set_option maxRecDepth 4000 in
set_option maxHeartbeats 4000000 in
theorem c_X6_take_g {l : Launch} {D : va_G} {c : Nat → ClassId} {H0 : Heap} {sa : Nat × Nat × (Nat → Int32)} {w : mW} {μ : mM} (hw : mWF w) (hT : mT w μ) {p1 : Int} (hp1 : (-2147483648) ≤ p1 ∧ p1 ≤ 2147483647) {f_at : Int} (q_f_at : μ 23 9 = f_at) {f_end : Int} (q_f_end : μ 23 8 = f_end) {f_te : Int} (q_f_te : μ 24 (f_end.toNat) = f_te) (hq0 : f_at ≤ f_end) (hq1 : f_te = -1) : sC (gG l D c H0 sa) mX6_take 2 0 0 [.ref 23, iv p1] (mk w μ) (qI w [23009] μ (fun z μ1 => ∃ o_at : Int, μ1 23 9 = o_at ∧ (0 ≤ z ∧ z ≤ 1) ∧ (o_at ≤ f_end) ∧ (f_at ≤ o_at) ∧ (z = 1 → p1 = -1 ∨ f_at + 1 ≤ o_at) ∧ (z = 0 → o_at = f_at) ∧ True)) := by
  refine sC.of rfl (by decide) (le_t rfl) ?_
  have ht_f_at : (0 ≤ f_at ∧ f_at ≤ 1000) := by rw [← q_f_at]; exact hT 23 23 (A_23 hw) 9
  have ht_f_end : (0 ≤ f_end ∧ f_end ≤ 1000) := by rw [← q_f_end]; exact hT 23 23 (A_23 hw) 8
  have ht_f_te : ((-2147483648) ≤ f_te ∧ f_te ≤ 2147483647) := by rw [← q_f_te]; exact hT 24 24 (A_24 hw) (f_end.toNat)
  have h1 : (-1) ≤ f_te ∧ f_te ≤ (-1) := (vc_X6_take_g_1 hq1 ht_f_te)
  refine mr_lvE (lv' := [(0, .ref 23), (1, iv p1)]) rfl ?_
  refine sv_aload_n (pc := 0) dX6_take_0 rfl rfl ?_
  refine gf_X6_0 (pc := 1) dX6_take_1 wF_X6_9 (A_23 hw) hT ?_
  refine sv_aload_n (pc := 4) dX6_take_4 rfl rfl ?_
  refine gk_X6_9 (pc := 5) dX6_take_5 wF_X6_63 (A_23 hw) q_f_at ?_
  refine la_24 (pc := 8) dX6_take_8 (A_24 hw) hT (rIx (n := 1001) ht_f_at rfl) fun z35 q36 h37 => ?_
  refine mr_iload_n (pc := 9) (z := p1) dX6_take_9 rfl rfl ?_
  refine mr_icmp_eq (pc := 10) (tgt := 15) dX6_take_10 (by decide) h37 hp1 (fun h38 => ?_) (fun h38 => ?_)
  · refine sv_aload_n (pc := 15) dX6_take_15 rfl rfl ?_
    refine mr_cVV (pc := 16) (c_X6_step_g hw hT q_f_at q_f_end (vc_X6_take_g_2 hq0 (cgr q36 q_f_te) hq1 h38 ht_f_at ht_f_end h1 hp1 h37)) (gOk _ _ _ _ _) dX6_take_16 (tX6_step _ _ _ _ _) ⟨wV_X6_step, wL_X6_step⟩ wM_X6_117 (gCX6 _ _ _ _ _) rfl (A_23 hw) rfl ⟨le_t rfl, le_t rfl⟩ ⟨le_t rfl, le_t rfl⟩ rfl (le_t rfl) fun μ39 T40 F41 h42 => ?_
    obtain ⟨z43, q44, h45⟩ := h42
    have h46 : (0 ≤ z43 ∧ z43 ≤ 1000) := by rw [← q44]; exact T40 23 23 (A_23 hw) 9
    refine mr_iconst (pc := 19) (z := 1) dX6_take_19 ?_
    exact mr_zret dX6_take_20 rfl (rW (c := 0) (d := 1) (rR (x := 1)) rfl) (le_t rfl) (le_t rfl) T40 (mF.call mF.refl F41 rfl) ⟨z43, q44, (rW (c := 0) (d := 1) (rR (x := 1)) rfl), (vc_X6_take_g_3 hq0 (cgr q36 q_f_te) h45.1 h45.2.1 h45.2.2.1 hq1 h38 ht_f_at ht_f_end h1 hp1 h37 h46), (vc_X6_take_g_4 hq0 (cgr q36 q_f_te) h45.1 h45.2.1 h45.2.2.1 hq1 h38 ht_f_at ht_f_end h1 hp1 h37 h46), (vc_X6_take_g_5 hq0 (cgr q36 q_f_te) h38 h45.1 h45.2.1 h45.2.2.1 hq1 ht_f_at ht_f_end h1 hp1 h37 h46), (vc_X6_take_g_6 hq0 (cgr q36 q_f_te) h45.1 h45.2.1 h45.2.2.1 hq1 h38 ht_f_at ht_f_end h1 hp1 h37 h46), trivial⟩
  refine mr_iconst (pc := 13) (z := 0) dX6_take_13 ?_
  exact mr_zret dX6_take_14 rfl (rW (c := 0) (d := 1) (rR (x := 0)) rfl) (le_t rfl) (le_t rfl) hT mF.refl ⟨f_at, q_f_at, (rW (c := 0) (d := 1) (rR (x := 0)) rfl), (vc_X6_take_g_7 hq0 (cgr q36 q_f_te) hq1 h38 ht_f_at ht_f_end h1 hp1 h37), (vc_X6_take_g_8 hq0 (cgr q36 q_f_te) hq1 h38 ht_f_at ht_f_end h1 hp1 h37), (vc_X6_take_g_9 hq0 (cgr q36 q_f_te) h38 hq1 ht_f_at ht_f_end h1 hp1 h37), (vc_X6_take_g_10 hq0 (cgr q36 q_f_te) hq1 h38 ht_f_at ht_f_end h1 hp1 h37), trivial⟩
theorem vc_X6_fail_g_2 {f_at f_end : Int} (h0 : f_at ≤ f_end) (h1 : 0 ≤ f_at ∧ f_at ≤ 1000) (h2 : 0 ≤ f_end ∧ f_end ≤ 1000) : f_end = f_end := by omega
theorem vc_X6_fail_g_6 {z76 : Int} (h0 : z76 = (-3)) (h1 : (-2147483648) ≤ z76 ∧ z76 ≤ 2147483647) : (-3) ≤ z76 ∧ z76 ≤ (-3) := by omega
set_option maxRecDepth 4000 in
set_option maxHeartbeats 4000000 in
theorem c_X6_fail_g {l : Launch} {D : va_G} {c : Nat → ClassId} {H0 : Heap} {sa : Nat × Nat × (Nat → Int32)} {w : mW} {μ : mM} (hw : mWF w) (hT : mT w μ) {p1 : Int} (hp1 : 1 ≤ p1 ∧ p1 ≤ 4) {f_at : Int} (q_f_at : μ 23 9 = f_at) {f_end : Int} (q_f_end : μ 23 8 = f_end) {f_ft : Int} (q_f_ft : μ 23 18 = f_ft) (hq0 : f_at ≤ f_end) : sC (gG l D c H0 sa) mX6_fail 1 0 0 [.ref 23, iv p1] (mk w μ) (qV w [23009, 23018, 23019] μ (fun μ1 => ∃ o_at o_ft : Int, μ1 23 9 = o_at ∧ μ1 23 18 = o_ft ∧ (o_at = f_end) ∧ (1 ≤ o_ft) ∧ True)) := by
  refine sC.of rfl (by decide) (le_t rfl) ?_
  have ht_f_at : (0 ≤ f_at ∧ f_at ≤ 1000) := by rw [← q_f_at]; exact hT 23 23 (A_23 hw) 9
  have ht_f_end : (0 ≤ f_end ∧ f_end ≤ 1000) := by rw [← q_f_end]; exact hT 23 23 (A_23 hw) 8
  have ht_f_ft : (0 ≤ f_ft ∧ f_ft ≤ 4) := by rw [← q_f_ft]; exact hT 23 23 (A_23 hw) 18
  refine mr_lvE (lv' := [(0, .ref 23), (1, iv p1)]) rfl ?_
  refine sv_aload_n (pc := 0) dX6_fail_0 rfl rfl ?_
  refine gk_X6_18 (pc := 1) dX6_fail_1 wF_X6_37 (A_23 hw) q_f_ft ?_
  refine mr_if_ne (pc := 4) (tgt := 43) dX6_fail_4 (by decide) (r32 ht_f_ft rfl) (fun h70 => ?_) (fun h70 => ?_)
  · have h71 : 1 ≤ f_ft ∧ f_ft ≤ 4 := (vc_X12_wrong_1 h70 ht_f_ft)
    refine sv_aload_n (pc := 43) dX6_fail_43 rfl rfl ?_
    refine sv_aload_n (pc := 44) dX6_fail_44 rfl rfl ?_
    refine gk_X6_8 (pc := 45) dX6_fail_45 wF_X6_83 (A_23 hw) q_f_end ?_
    refine pf_X6_9 (pc := 48) dX6_fail_48 wF_X6_63 (A_23 hw) hT ht_f_end fun μ72 u73 T74 => ?_
    exact mr_vret dX6_fail_51 rfl (le_t rfl) (le_t rfl) T74 (mF.up mF.refl (A_23 hw) u73 rfl) ⟨f_end, f_ft, u73.1, (u73.f (Or.inr (by decide)) q_f_ft), (vc_X6_fail_g_2 hq0 ht_f_at ht_f_end), (vc_X12_wrong_2 h70 h71), trivial⟩
  have h75 : 0 ≤ f_ft ∧ f_ft ≤ 0 := (vc_X12_wrong_4 h70 ht_f_ft)
  refine sv_aload_n (pc := 7) dX6_fail_7 rfl rfl ?_
  refine sv_aload_n (pc := 8) dX6_fail_8 rfl rfl ?_
  refine gf_X6_0 (pc := 9) dX6_fail_9 wF_X6_9 (A_23 hw) hT ?_
  refine sv_aload_n (pc := 12) dX6_fail_12 rfl rfl ?_
  refine gk_X6_9 (pc := 13) dX6_fail_13 wF_X6_63 (A_23 hw) q_f_at ?_
  refine la_24 (pc := 16) dX6_fail_16 (A_24 hw) hT (rIx (n := 1001) ht_f_at rfl) fun z76 q77 h78 => ?_
  refine mr_bipush (pc := 17) (z := (-3)) dX6_fail_17 (by decide) ?_
  have J82 : ∀ (z80 : Int), ((1 ≤ z80 ∧ z80 ≤ 4)) → sV (gG l D c H0 sa) mX6_fail (sRm 1 0 0) (sZ (gG l D c H0 sa) 0 0 (qV w [23009, 23018, 23019] μ (fun μ1 => ∃ o_at o_ft : Int, μ1 23 9 = o_at ∧ μ1 23 18 = o_ft ∧ (o_at = f_end) ∧ (1 ≤ o_ft) ∧ True))) 27 [(0, .ref 23)] [iv z80, .ref 23] (mk w μ) 0 0 := by
    intro z80 h81
    refine pf_X6_18 (pc := 27) dX6_fail_27 wF_X6_37 (A_23 hw) hT (rW (c := 0) (d := 4) h81 rfl) fun μ83 u84 T85 => ?_
    refine sv_aload_n (pc := 30) dX6_fail_30 rfl rfl ?_
    refine sv_aload_n (pc := 31) dX6_fail_31 rfl rfl ?_
    refine gf_X6_2 (pc := 32) dX6_fail_32 wF_X6_18 (A_23 hw) T85 ?_
    refine sv_aload_n (pc := 35) dX6_fail_35 rfl rfl ?_
    refine gk_X6_9 (pc := 36) dX6_fail_36 wF_X6_63 (A_23 hw) (u84.f (Or.inr (by decide)) q_f_at) ?_
    refine la_26 (pc := 39) dX6_fail_39 (A_26 hw) T85 (rIx (n := 1001) ht_f_at rfl) fun z86 q87 h88 => ?_
    refine pf_X6_19 (pc := 40) dX6_fail_40 wF_X6_41 (A_23 hw) T85 h88 fun μ89 u90 T91 => ?_
    refine sv_aload_n (pc := 43) dX6_fail_43 rfl rfl ?_
    refine sv_aload_n (pc := 44) dX6_fail_44 rfl rfl ?_
    refine gk_X6_8 (pc := 45) dX6_fail_45 wF_X6_83 (A_23 hw) (u90.f (Or.inr (by decide)) (u84.f (Or.inr (by decide)) q_f_end)) ?_
    refine pf_X6_9 (pc := 48) dX6_fail_48 wF_X6_63 (A_23 hw) T91 ht_f_end fun μ92 u93 T94 => ?_
    exact mr_vret dX6_fail_51 rfl (le_t rfl) (le_t rfl) T94 (mF.up (mF.up (mF.up mF.refl (A_23 hw) u84 rfl) (A_23 hw) u90 rfl) (A_23 hw) u93 rfl) ⟨f_end, z80, u93.1, (u93.f (Or.inr (by decide)) (u90.f (Or.inr (by decide)) u84.1)), (vc_X6_fail_g_2 hq0 ht_f_at ht_f_end), (vc_X12_wrong_5 h81), trivial⟩
  refine mr_icmp_ne (pc := 19) (tgt := 26) dX6_fail_19 (by decide) h78 (r32 (rR (x := (-3))) rfl) (fun h95 => ?_) (fun h95 => ?_)
  · refine mr_iload_n (pc := 26) (z := p1) dX6_fail_26 rfl rfl ?_
    refine mr_lvS (lv' := [(0, .ref 23)]) (List.forall_mem_cons.mpr ⟨rfl, fun _ h => absurd h List.not_mem_nil⟩) ?_
    exact J82 p1 hp1
  have h96 : (-3) ≤ z76 ∧ z76 ≤ (-3) := (vc_X6_fail_g_6 h95 h78)
  refine mr_iconst (pc := 22) (z := 1) dX6_fail_22 ?_
  refine sv_goto (pc := 23) (tgt := 27) dX6_fail_23 (by decide) ?_
  refine mr_lvS (lv' := [(0, .ref 23)]) (List.forall_mem_cons.mpr ⟨rfl, fun _ h => absurd h List.not_mem_nil⟩) ?_
  exact J82 1 (rW (c := 1) (d := 4) (rR (x := 1)) rfl)
theorem vc_X6_expect_g_2 {f_at f_end f_ft : Int} (h0 : f_at ≤ f_end) (h1 : f_ft = 0 ∨ f_at = f_end) (h2 : 0 ≤ f_at ∧ f_at ≤ 1000) (h3 : 0 ≤ f_end ∧ f_end ≤ 1000) (h4 : 0 ≤ f_ft ∧ f_ft ≤ 4) : f_at ≤ f_end := by omega
theorem vc_X6_expect_g_3 {f_te : Int} (h0 : f_te = -1) (h1 : (-1) ≤ f_te ∧ f_te ≤ (-1)) : f_te = -1 := by omega
theorem vc_X6_expect_g_4 {f_at p1 z84 z85 : Int} (h0 : ¬ z84 = 0) (h1 : (z84 = 1 → p1 = -1 ∨ f_at + 1 ≤ z85)) (h2 : (z84 = 0 → z85 = f_at)) (h3 : 0 ≤ f_at ∧ f_at ≤ 1000) (h4 : (-2147483648) ≤ p1 ∧ p1 ≤ 2147483647) (h5 : 0 ≤ z84 ∧ z84 ≤ 1) (h6 : 0 ≤ z85 ∧ z85 ≤ 1000) : 1 ≤ z84 ∧ z84 ≤ 1 := by omega
theorem vc_X6_expect_g_5 {f_at f_end f_ft p1 z84 z85 : Int} (h0 : (z84 = 1 → p1 = -1 ∨ f_at + 1 ≤ z85)) (h1 : (z84 = 0 → z85 = f_at)) (h2 : ¬ z84 = 0) (h3 : f_at ≤ f_end) (h4 : f_ft = 0 ∨ f_at = f_end) (h5 : z85 ≤ f_end) (h6 : f_at ≤ z85) (h7 : 0 ≤ f_at ∧ f_at ≤ 1000) (h8 : 0 ≤ f_end ∧ f_end ≤ 1000) (h9 : 0 ≤ f_ft ∧ f_ft ≤ 4) (h10 : (-2147483648) ≤ p1 ∧ p1 ≤ 2147483647) (h11 : 1 ≤ z84 ∧ z84 ≤ 1) (h12 : 0 ≤ z85 ∧ z85 ≤ 1000) : z84 = 1 := by omega
theorem vc_X6_expect_g_6 {f_at f_end f_ft p1 z84 z85 : Int} (h0 : f_at ≤ f_end) (h1 : f_ft = 0 ∨ f_at = f_end) (h2 : z85 ≤ f_end) (h3 : f_at ≤ z85) (h4 : (z84 = 1 → p1 = -1 ∨ f_at + 1 ≤ z85)) (h5 : (z84 = 0 → z85 = f_at)) (h6 : p1 = -1 ∨ f_at + 1 ≤ z85) (h7 : ¬ z84 = 0) (h8 : 0 ≤ f_at ∧ f_at ≤ 1000) (h9 : 0 ≤ f_end ∧ f_end ≤ 1000) (h10 : 0 ≤ f_ft ∧ f_ft ≤ 4) (h11 : (-2147483648) ≤ p1 ∧ p1 ≤ 2147483647) (h12 : 1 ≤ z84 ∧ z84 ≤ 1) (h13 : 0 ≤ z85 ∧ z85 ≤ 1000) : z85 ≤ f_end := by omega
theorem vc_X6_expect_g_7 {f_at f_end f_ft p1 z84 z85 : Int} (h0 : f_at ≤ f_end) (h1 : f_ft = 0 ∨ f_at = f_end) (h2 : z85 ≤ f_end) (h3 : f_at ≤ z85) (h4 : (z84 = 1 → p1 = -1 ∨ f_at + 1 ≤ z85)) (h5 : (z84 = 0 → z85 = f_at)) (h6 : p1 = -1 ∨ f_at + 1 ≤ z85) (h7 : ¬ z84 = 0) (h8 : 0 ≤ f_at ∧ f_at ≤ 1000) (h9 : 0 ≤ f_end ∧ f_end ≤ 1000) (h10 : 0 ≤ f_ft ∧ f_ft ≤ 4) (h11 : (-2147483648) ≤ p1 ∧ p1 ≤ 2147483647) (h12 : 1 ≤ z84 ∧ z84 ≤ 1) (h13 : 0 ≤ z85 ∧ z85 ≤ 1000) : f_at ≤ z85 := by omega
theorem vc_X6_expect_g_8 {f_at f_end f_ft p1 z84 z85 : Int} (h0 : f_ft = 0 ∨ f_at = f_end) (h1 : f_at ≤ f_end) (h2 : z85 ≤ f_end) (h3 : f_at ≤ z85) (h4 : (z84 = 1 → p1 = -1 ∨ f_at + 1 ≤ z85)) (h5 : (z84 = 0 → z85 = f_at)) (h6 : p1 = -1 ∨ f_at + 1 ≤ z85) (h7 : 0 ≤ f_at ∧ f_at ≤ 1000) (h8 : 0 ≤ f_end ∧ f_end ≤ 1000) (h9 : 0 ≤ f_ft ∧ f_ft ≤ 4) (h10 : (-2147483648) ≤ p1 ∧ p1 ≤ 2147483647) (h11 : 1 ≤ z84 ∧ z84 ≤ 1) (h12 : 0 ≤ z85 ∧ z85 ≤ 1000) : f_ft = 0 ∨ 1 ≤ f_ft := by omega
theorem vc_X6_expect_g_9 {f_at f_end f_ft p1 z84 z85 : Int} (h0 : f_at ≤ f_end) (h1 : f_ft = 0 ∨ f_at = f_end) (h2 : z85 ≤ f_end) (h3 : f_at ≤ z85) (h4 : (z84 = 1 → p1 = -1 ∨ f_at + 1 ≤ z85)) (h5 : (z84 = 0 → z85 = f_at)) (h6 : p1 = -1 ∨ f_at + 1 ≤ z85) (h7 : ¬ z84 = 0) (h8 : 0 ≤ f_at ∧ f_at ≤ 1000) (h9 : 0 ≤ f_end ∧ f_end ≤ 1000) (h10 : 0 ≤ f_ft ∧ f_ft ≤ 4) (h11 : (-2147483648) ≤ p1 ∧ p1 ≤ 2147483647) (h12 : 1 ≤ z84 ∧ z84 ≤ 1) (h13 : 0 ≤ z85 ∧ z85 ≤ 1000) : f_ft = 0 ∨ z85 = f_end := by omega
theorem vc_X6_expect_g_10 {f_at f_end f_ft p1 z84 z85 : Int} (h0 : f_at ≤ f_end) (h1 : f_ft = 0 ∨ f_at = f_end) (h2 : z85 ≤ f_end) (h3 : f_at ≤ z85) (h4 : (z84 = 1 → p1 = -1 ∨ f_at + 1 ≤ z85)) (h5 : (z84 = 0 → z85 = f_at)) (h6 : p1 = -1 ∨ f_at + 1 ≤ z85) (h7 : ¬ z84 = 0) (h8 : 0 ≤ f_at ∧ f_at ≤ 1000) (h9 : 0 ≤ f_end ∧ f_end ≤ 1000) (h10 : 0 ≤ f_ft ∧ f_ft ≤ 4) (h11 : (-2147483648) ≤ p1 ∧ p1 ≤ 2147483647) (h12 : 1 ≤ z84 ∧ z84 ≤ 1) (h13 : 0 ≤ z85 ∧ z85 ≤ 1000) : f_ft = 0 → p1 = -1 ∨ f_at + 1 ≤ z85 := by omega
theorem vc_X6_expect_g_11 {f_at p1 z84 z85 : Int} (h0 : z84 = 0) (h1 : (z84 = 1 → p1 = -1 ∨ f_at + 1 ≤ z85)) (h2 : (z84 = 0 → z85 = f_at)) (h3 : 0 ≤ f_at ∧ f_at ≤ 1000) (h4 : (-2147483648) ≤ p1 ∧ p1 ≤ 2147483647) (h5 : 0 ≤ z84 ∧ z84 ≤ 1) (h6 : 0 ≤ z85 ∧ z85 ≤ 1000) : 0 ≤ z84 ∧ z84 ≤ 0 := by omega
theorem vc_X6_expect_g_12 {f_at f_end f_ft p1 z84 z85 : Int} (h0 : (z84 = 1 → p1 = -1 ∨ f_at + 1 ≤ z85)) (h1 : (z84 = 0 → z85 = f_at)) (h2 : z84 = 0) (h3 : f_at ≤ f_end) (h4 : f_ft = 0 ∨ f_at = f_end) (h5 : z85 ≤ f_end) (h6 : f_at ≤ z85) (h7 : 0 ≤ f_at ∧ f_at ≤ 1000) (h8 : 0 ≤ f_end ∧ f_end ≤ 1000) (h9 : 0 ≤ f_ft ∧ f_ft ≤ 4) (h10 : (-2147483648) ≤ p1 ∧ p1 ≤ 2147483647) (h11 : 0 ≤ z84 ∧ z84 ≤ 0) (h12 : 0 ≤ z85 ∧ z85 ≤ 1000) : z84 = 0 := by omega
theorem vc_X6_expect_g_13 {f_at f_end f_ft p1 z84 z85 : Int} (h0 : f_at ≤ f_end) (h1 : f_ft = 0 ∨ f_at = f_end) (h2 : z85 ≤ f_end) (h3 : f_at ≤ z85) (h4 : (z84 = 1 → p1 = -1 ∨ f_at + 1 ≤ z85)) (h5 : (z84 = 0 → z85 = f_at)) (h6 : z85 = f_at) (h7 : z84 = 0) (h8 : 0 ≤ f_at ∧ f_at ≤ 1000) (h9 : 0 ≤ f_end ∧ f_end ≤ 1000) (h10 : 0 ≤ f_ft ∧ f_ft ≤ 4) (h11 : (-2147483648) ≤ p1 ∧ p1 ≤ 2147483647) (h12 : 0 ≤ z84 ∧ z84 ≤ 0) (h13 : 0 ≤ z85 ∧ z85 ≤ 1000) : z85 ≤ f_end := by omega
theorem vc_X6_expect_g_15 {f_at f_end f_ft p1 z84 z85 z98 : Int} (h0 : f_at ≤ f_end) (h1 : f_ft = 0 ∨ f_at = f_end) (h2 : z85 ≤ f_end) (h3 : z98 = f_end) (h4 : f_at ≤ z85) (h5 : (z84 = 1 → p1 = -1 ∨ f_at + 1 ≤ z85)) (h6 : (z84 = 0 → z85 = f_at)) (h7 : z85 = f_at) (h8 : 0 ≤ f_at ∧ f_at ≤ 1000) (h9 : 0 ≤ f_end ∧ f_end ≤ 1000) (h10 : 0 ≤ f_ft ∧ f_ft ≤ 4) (h11 : (-2147483648) ≤ p1 ∧ p1 ≤ 2147483647) (h12 : 0 ≤ z84 ∧ z84 ≤ 0) (h13 : 0 ≤ z85 ∧ z85 ≤ 1000) (h14 : 0 ≤ z98 ∧ z98 ≤ 1000) : f_end ≤ f_end := by omega
theorem vc_X6_expect_g_16 {f_at f_end f_ft p1 z84 z85 z98 : Int} (h0 : f_at ≤ f_end) (h1 : f_ft = 0 ∨ f_at = f_end) (h2 : z85 ≤ f_end) (h3 : f_at ≤ z85) (h4 : (z84 = 1 → p1 = -1 ∨ f_at + 1 ≤ z85)) (h5 : (z84 = 0 → z85 = f_at)) (h6 : z85 = f_at) (h7 : z98 = f_end) (h8 : z84 = 0) (h9 : 0 ≤ f_at ∧ f_at ≤ 1000) (h10 : 0 ≤ f_end ∧ f_end ≤ 1000) (h11 : 0 ≤ f_ft ∧ f_ft ≤ 4) (h12 : (-2147483648) ≤ p1 ∧ p1 ≤ 2147483647) (h13 : 0 ≤ z84 ∧ z84 ≤ 0) (h14 : 0 ≤ z85 ∧ z85 ≤ 1000) (h15 : 0 ≤ z98 ∧ z98 ≤ 1000) : f_at ≤ f_end := by omega
theorem vc_X6_expect_g_17 {f_at f_end f_ft p1 z100 z84 z85 z98 : Int} (h0 : f_ft = 0 ∨ f_at = f_end) (h1 : 1 ≤ z100) (h2 : f_at ≤ f_end) (h3 : z85 ≤ f_end) (h4 : f_at ≤ z85) (h5 : (z84 = 1 → p1 = -1 ∨ f_at + 1 ≤ z85)) (h6 : (z84 = 0 → z85 = f_at)) (h7 : z85 = f_at) (h8 : z98 = f_end) (h9 : 0 ≤ f_at ∧ f_at ≤ 1000) (h10 : 0 ≤ f_end ∧ f_end ≤ 1000) (h11 : 0 ≤ f_ft ∧ f_ft ≤ 4) (h12 : (-2147483648) ≤ p1 ∧ p1 ≤ 2147483647) (h13 : 1 ≤ z100 ∧ z100 ≤ 4) (h14 : 0 ≤ z84 ∧ z84 ≤ 0) (h15 : 0 ≤ z85 ∧ z85 ≤ 1000) (h16 : 0 ≤ z98 ∧ z98 ≤ 1000) : f_ft = 0 ∨ 1 ≤ z100 := by omega
theorem vc_X6_expect_g_18 {f_at f_end f_ft p1 z100 z84 z85 z98 : Int} (h0 : f_at ≤ f_end) (h1 : f_ft = 0 ∨ f_at = f_end) (h2 : z85 ≤ f_end) (h3 : z98 = f_end) (h4 : 1 ≤ z100) (h5 : f_at ≤ z85) (h6 : (z84 = 1 → p1 = -1 ∨ f_at + 1 ≤ z85)) (h7 : (z84 = 0 → z85 = f_at)) (h8 : z85 = f_at) (h9 : 0 ≤ f_at ∧ f_at ≤ 1000) (h10 : 0 ≤ f_end ∧ f_end ≤ 1000) (h11 : 0 ≤ f_ft ∧ f_ft ≤ 4) (h12 : (-2147483648) ≤ p1 ∧ p1 ≤ 2147483647) (h13 : 1 ≤ z100 ∧ z100 ≤ 4) (h14 : 0 ≤ z84 ∧ z84 ≤ 0) (h15 : 0 ≤ z85 ∧ z85 ≤ 1000) (h16 : 0 ≤ z98 ∧ z98 ≤ 1000) : z100 = 0 ∨ f_end = f_end := by omega
theorem vc_X6_expect_g_19 {f_at f_end f_ft p1 z100 z84 z85 z98 : Int} (h0 : f_at ≤ f_end) (h1 : f_ft = 0 ∨ f_at = f_end) (h2 : z85 ≤ f_end) (h3 : f_at ≤ z85) (h4 : (z84 = 1 → p1 = -1 ∨ f_at + 1 ≤ z85)) (h5 : (z84 = 0 → z85 = f_at)) (h6 : z85 = f_at) (h7 : z98 = f_end) (h8 : 1 ≤ z100) (h9 : z84 = 0) (h10 : 0 ≤ f_at ∧ f_at ≤ 1000) (h11 : 0 ≤ f_end ∧ f_end ≤ 1000) (h12 : 0 ≤ f_ft ∧ f_ft ≤ 4) (h13 : (-2147483648) ≤ p1 ∧ p1 ≤ 2147483647) (h14 : 1 ≤ z100 ∧ z100 ≤ 4) (h15 : 0 ≤ z84 ∧ z84 ≤ 0) (h16 : 0 ≤ z85 ∧ z85 ≤ 1000) (h17 : 0 ≤ z98 ∧ z98 ≤ 1000) : z100 = 0 → p1 = -1 ∨ f_at + 1 ≤ f_end := by omega
set_option maxRecDepth 4000 in
set_option maxHeartbeats 4000000 in
theorem c_X6_expect_g {l : Launch} {D : va_G} {c : Nat → ClassId} {H0 : Heap} {sa : Nat × Nat × (Nat → Int32)} {w : mW} {μ : mM} (hw : mWF w) (hT : mT w μ) {p1 : Int} (hp1 : (-2147483648) ≤ p1 ∧ p1 ≤ 2147483647) {f_at : Int} (q_f_at : μ 23 9 = f_at) {f_end : Int} (q_f_end : μ 23 8 = f_end) {f_ft : Int} (q_f_ft : μ 23 18 = f_ft) {f_te : Int} (q_f_te : μ 24 (f_end.toNat) = f_te) (hq0 : f_at ≤ f_end) (hq1 : f_te = -1) (hq2 : f_ft = 0 ∨ f_at = f_end) : sC (gG l D c H0 sa) mX6_expect 3 0 0 [.ref 23, iv p1] (mk w μ) (qV w [23009, 23018, 23019] μ (fun μ1 => ∃ o_at o_ft : Int, μ1 23 9 = o_at ∧ μ1 23 18 = o_ft ∧ (o_at ≤ f_end) ∧ (f_at ≤ o_at) ∧ (f_ft = 0 ∨ 1 ≤ o_ft) ∧ (o_ft = 0 ∨ o_at = f_end) ∧ (o_ft = 0 → p1 = -1 ∨ f_at + 1 ≤ o_at) ∧ True)) := by
  refine sC.of rfl (by decide) (le_t rfl) ?_
  have ht_f_at : (0 ≤ f_at ∧ f_at ≤ 1000) := by rw [← q_f_at]; exact hT 23 23 (A_23 hw) 9
  have ht_f_end : (0 ≤ f_end ∧ f_end ≤ 1000) := by rw [← q_f_end]; exact hT 23 23 (A_23 hw) 8
  have ht_f_ft : (0 ≤ f_ft ∧ f_ft ≤ 4) := by rw [← q_f_ft]; exact hT 23 23 (A_23 hw) 18
  have ht_f_te : ((-2147483648) ≤ f_te ∧ f_te ≤ 2147483647) := by rw [← q_f_te]; exact hT 24 24 (A_24 hw) (f_end.toNat)
  have h1 : (-1) ≤ f_te ∧ f_te ≤ (-1) := (vc_X6_take_g_1 hq1 ht_f_te)
  refine mr_lvE (lv' := [(0, .ref 23), (1, iv p1)]) rfl ?_
  refine sv_aload_n (pc := 0) dX6_expect_0 rfl rfl ?_
  refine mr_iload_n (pc := 1) (z := p1) dX6_expect_1 rfl rfl ?_
  refine mr_cVI (pc := 2) (c_X6_take_g hw hT hp1 q_f_at q_f_end q_f_te (vc_X6_expect_g_2 hq0 hq2 ht_f_at ht_f_end ht_f_ft) (vc_X6_expect_g_3 hq1 h1)) (gOk _ _ _ _ _) dX6_expect_2 (tX6_take _ _ _ _ _) ⟨wV_X6_take, wL_X6_take⟩ wM_X6_120 (gCX6 _ _ _ _ _) rfl (A_23 hw) rfl ⟨le_t rfl, le_t rfl⟩ ⟨le_t rfl, le_t rfl⟩ rfl (le_t rfl) fun z84 μ80 T81 F82 h83 => ?_
  obtain ⟨z85, q86, h87⟩ := h83
  have h88 : (0 ≤ z85 ∧ z85 ≤ 1000) := by rw [← q86]; exact T81 23 23 (A_23 hw) 9
  refine mr_if_ne (pc := 5) (tgt := 13) dX6_expect_5 (by decide) (r32 h87.1 rfl) (fun h89 => ?_) (fun h89 => ?_)
  · have h90 : 1 ≤ z84 ∧ z84 ≤ 1 := (vc_X6_expect_g_4 h89 h87.2.2.2.1 h87.2.2.2.2.1 ht_f_at hp1 h87.1 h88)
    have h91 : p1 = -1 ∨ f_at + 1 ≤ z85 := (h87.2.2.2.1 (vc_X6_expect_g_5 h87.2.2.2.1 h87.2.2.2.2.1 h89 hq0 hq2 h87.2.1 h87.2.2.1 ht_f_at ht_f_end ht_f_ft hp1 h90 h88))
    exact mr_vret dX6_expect_13 rfl (le_t rfl) (le_t rfl) T81 (mF.call mF.refl F82 rfl) ⟨z85, f_ft, q86, (F82.f (A_23 hw) rfl q_f_ft), (vc_X6_expect_g_6 hq0 hq2 h87.2.1 h87.2.2.1 h87.2.2.2.1 h87.2.2.2.2.1 h91 h89 ht_f_at ht_f_end ht_f_ft hp1 h90 h88), (vc_X6_expect_g_7 hq0 hq2 h87.2.1 h87.2.2.1 h87.2.2.2.1 h87.2.2.2.2.1 h91 h89 ht_f_at ht_f_end ht_f_ft hp1 h90 h88), (vc_X6_expect_g_8 hq2 hq0 h87.2.1 h87.2.2.1 h87.2.2.2.1 h87.2.2.2.2.1 h91 ht_f_at ht_f_end ht_f_ft hp1 h90 h88), (vc_X6_expect_g_9 hq0 hq2 h87.2.1 h87.2.2.1 h87.2.2.2.1 h87.2.2.2.2.1 h91 h89 ht_f_at ht_f_end ht_f_ft hp1 h90 h88), (vc_X6_expect_g_10 hq0 hq2 h87.2.1 h87.2.2.1 h87.2.2.2.1 h87.2.2.2.2.1 h91 h89 ht_f_at ht_f_end ht_f_ft hp1 h90 h88), trivial⟩
  have h92 : 0 ≤ z84 ∧ z84 ≤ 0 := (vc_X6_expect_g_11 h89 h87.2.2.2.1 h87.2.2.2.2.1 ht_f_at hp1 h87.1 h88)
  have h93 : z85 = f_at := (h87.2.2.2.2.1 (vc_X6_expect_g_12 h87.2.2.2.1 h87.2.2.2.2.1 h89 hq0 hq2 h87.2.1 h87.2.2.1 ht_f_at ht_f_end ht_f_ft hp1 h92 h88))
  refine sv_aload_n (pc := 8) dX6_expect_8 rfl rfl ?_
  refine mr_iconst (pc := 9) (z := 2) dX6_expect_9 ?_
  refine mr_cVV (pc := 10) (c_X6_fail_g hw T81 (rW (c := 1) (d := 4) (rR (x := 2)) rfl) q86 (F82.f (A_23 hw) rfl q_f_end) (F82.f (A_23 hw) rfl q_f_ft) (vc_X6_expect_g_13 hq0 hq2 h87.2.1 h87.2.2.1 h87.2.2.2.1 h87.2.2.2.2.1 h93 h89 ht_f_at ht_f_end ht_f_ft hp1 h92 h88)) (gOk _ _ _ _ _) dX6_expect_10 (tX6_fail _ _ _ _ _) ⟨wV_X6_fail, wL_X6_fail⟩ wM_X6_123 (gCX6 _ _ _ _ _) rfl (A_23 hw) rfl ⟨le_t rfl, le_t rfl⟩ ⟨le_t rfl, le_t rfl⟩ rfl (le_t rfl) fun μ94 T95 F96 h97 => ?_
  obtain ⟨z98, z100, q99, q101, h102⟩ := h97
  have h103 : (0 ≤ z98 ∧ z98 ≤ 1000) := by rw [← q99]; exact T95 23 23 (A_23 hw) 9
  have h104 : (0 ≤ z100 ∧ z100 ≤ 4) := by rw [← q101]; exact T95 23 23 (A_23 hw) 18
  have q105 : μ94 23 9 = f_end := q99.trans h102.1
  have h106 : 1 ≤ z100 ∧ z100 ≤ 4 := (vc_X12_next_128 h102.2.1 h104)
  exact mr_vret dX6_expect_13 rfl (le_t rfl) (le_t rfl) T95 (mF.call (mF.call mF.refl F82 rfl) F96 rfl) ⟨f_end, z100, q105, q101, (vc_X6_expect_g_15 hq0 hq2 h87.2.1 h102.1 h87.2.2.1 h87.2.2.2.1 h87.2.2.2.2.1 h93 ht_f_at ht_f_end ht_f_ft hp1 h92 h88 h103), (vc_X6_expect_g_16 hq0 hq2 h87.2.1 h87.2.2.1 h87.2.2.2.1 h87.2.2.2.2.1 h93 h102.1 h89 ht_f_at ht_f_end ht_f_ft hp1 h92 h88 h103), (vc_X6_expect_g_17 hq2 h102.2.1 hq0 h87.2.1 h87.2.2.1 h87.2.2.2.1 h87.2.2.2.2.1 h93 h102.1 ht_f_at ht_f_end ht_f_ft hp1 h106 h92 h88 h103), (vc_X6_expect_g_18 hq0 hq2 h87.2.1 h102.1 h102.2.1 h87.2.2.1 h87.2.2.2.1 h87.2.2.2.2.1 h93 ht_f_at ht_f_end ht_f_ft hp1 h106 h92 h88 h103), (vc_X6_expect_g_19 hq0 hq2 h87.2.1 h87.2.2.1 h87.2.2.2.1 h87.2.2.2.2.1 h93 h102.1 h102.2.1 h89 ht_f_at ht_f_end ht_f_ft hp1 h106 h92 h88 h103), trivial⟩
theorem vc_X6_number_g_2 {p2 : Int} (h0 : p2 ≤ 1000000) (h1 : (-2147483648) ≤ p2 ∧ p2 ≤ 2147483647) : (-2147483648) ≤ p2 ∧ p2 ≤ 1000000 := by omega
theorem vc_X6_number_g_3 {f_at f_end f_te z177 : Int} (h0 : z177 = (-2)) (h1 : (f_at = f_end → z177 = f_te)) (h2 : 0 ≤ f_at ∧ f_at ≤ 1000) (h3 : 0 ≤ f_end ∧ f_end ≤ 1000) (h4 : (-1) ≤ f_te ∧ f_te ≤ (-1)) (h5 : (-2147483648) ≤ z177 ∧ z177 ≤ 2147483647) : (-2) ≤ z177 ∧ z177 ≤ (-2) := by omega
theorem vc_X6_number_g_4 {p1 z182 : Int} (h0 : z182 < p1) (h1 : 0 ≤ p1 ∧ p1 ≤ 2147483647) (h2 : (-2147483648) ≤ z182 ∧ z182 ≤ 2147483647) : (-2147483648) ≤ z182 ∧ z182 ≤ 2147483646 := by omega
theorem vc_X6_number_g_5 {f_at f_end f_ft f_te z177 : Int} (h0 : f_at ≤ f_end) (h1 : f_ft = 0 ∨ f_at = f_end) (h2 : (f_at = f_end → z177 = f_te)) (h3 : f_te = -1) (h4 : z177 = (-2)) (h5 : 0 ≤ f_at ∧ f_at ≤ 1000) (h6 : 0 ≤ f_end ∧ f_end ≤ 1000) (h7 : 0 ≤ f_ft ∧ f_ft ≤ 4) (h8 : (-1) ≤ f_te ∧ f_te ≤ (-1)) (h9 : (-2) ≤ z177 ∧ z177 ≤ (-2)) : f_at ≤ f_end := by omega
theorem vc_X6_number_g_7 {f_at f_end f_ft f_te z177 z191 : Int} (h0 : f_at ≤ f_end) (h1 : f_ft = 0 ∨ f_at = f_end) (h2 : (f_at = f_end → z177 = f_te)) (h3 : z191 = f_end) (h4 : f_te = -1) (h5 : z177 = (-2)) (h6 : 0 ≤ f_at ∧ f_at ≤ 1000) (h7 : 0 ≤ f_end ∧ f_end ≤ 1000) (h8 : 0 ≤ f_ft ∧ f_ft ≤ 4) (h9 : (-1) ≤ f_te ∧ f_te ≤ (-1)) (h10 : (-2) ≤ z177 ∧ z177 ≤ (-2)) (h11 : 0 ≤ z191 ∧ z191 ≤ 1000) : f_end ≤ f_end := by omega
theorem vc_X6_number_g_8 {f_at f_end f_ft f_te z177 z191 : Int} (h0 : f_at ≤ f_end) (h1 : f_ft = 0 ∨ f_at = f_end) (h2 : (f_at = f_end → z177 = f_te)) (h3 : z191 = f_end) (h4 : f_te = -1) (h5 : z177 = (-2)) (h6 : 0 ≤ f_at ∧ f_at ≤ 1000) (h7 : 0 ≤ f_end ∧ f_end ≤ 1000) (h8 : 0 ≤ f_ft ∧ f_ft ≤ 4) (h9 : (-1) ≤ f_te ∧ f_te ≤ (-1)) (h10 : (-2) ≤ z177 ∧ z177 ≤ (-2)) (h11 : 0 ≤ z191 ∧ z191 ≤ 1000) : f_at ≤ f_end := by omega
theorem vc_X6_number_g_9 {f_at f_end f_ft f_te z177 z191 z193 : Int} (h0 : f_ft = 0 ∨ f_at = f_end) (h1 : 1 ≤ z193) (h2 : f_at ≤ f_end) (h3 : (f_at = f_end → z177 = f_te)) (h4 : z191 = f_end) (h5 : 0 ≤ f_at ∧ f_at ≤ 1000) (h6 : 0 ≤ f_end ∧ f_end ≤ 1000) (h7 : 0 ≤ f_ft ∧ f_ft ≤ 4) (h8 : (-1) ≤ f_te ∧ f_te ≤ (-1)) (h9 : (-2) ≤ z177 ∧ z177 ≤ (-2)) (h10 : 0 ≤ z191 ∧ z191 ≤ 1000) (h11 : 1 ≤ z193 ∧ z193 ≤ 4) : f_ft = 0 ∨ 1 ≤ z193 := by omega
theorem vc_X6_number_g_10 {f_at f_end f_ft f_te z177 z191 z193 : Int} (h0 : f_at ≤ f_end) (h1 : f_ft = 0 ∨ f_at = f_end) (h2 : (f_at = f_end → z177 = f_te)) (h3 : z191 = f_end) (h4 : 1 ≤ z193) (h5 : f_te = -1) (h6 : z177 = (-2)) (h7 : 0 ≤ f_at ∧ f_at ≤ 1000) (h8 : 0 ≤ f_end ∧ f_end ≤ 1000) (h9 : 0 ≤ f_ft ∧ f_ft ≤ 4) (h10 : (-1) ≤ f_te ∧ f_te ≤ (-1)) (h11 : (-2) ≤ z177 ∧ z177 ≤ (-2)) (h12 : 0 ≤ z191 ∧ z191 ≤ 1000) (h13 : 1 ≤ z193 ∧ z193 ≤ 4) : z193 = 0 ∨ f_end = f_end := by omega
theorem vc_X6_number_g_11 {f_at f_end f_ft f_te z177 z191 z193 : Int} (h0 : f_at ≤ f_end) (h1 : f_ft = 0 ∨ f_at = f_end) (h2 : (f_at = f_end → z177 = f_te)) (h3 : z191 = f_end) (h4 : 1 ≤ z193) (h5 : f_te = -1) (h6 : z177 = (-2)) (h7 : 0 ≤ f_at ∧ f_at ≤ 1000) (h8 : 0 ≤ f_end ∧ f_end ≤ 1000) (h9 : 0 ≤ f_ft ∧ f_ft ≤ 4) (h10 : (-1) ≤ f_te ∧ f_te ≤ (-1)) (h11 : (-2) ≤ z177 ∧ z177 ≤ (-2)) (h12 : 0 ≤ z191 ∧ z191 ≤ 1000) (h13 : 1 ≤ z193 ∧ z193 ≤ 4) : z193 = 0 → f_at + 1 ≤ f_end := by omega
theorem vc_X6_number_g_12 {p1 z182 : Int} (h0 : p1 ≤ z182) (h1 : 0 ≤ p1 ∧ p1 ≤ 2147483647) (h2 : (-2147483648) ≤ z182 ∧ z182 ≤ 2147483647) : 0 ≤ z182 ∧ z182 ≤ 2147483647 := by omega
theorem vc_X6_number_g_13 {p1 p2 z182 : Int} (h0 : z182 ≤ p2) (h1 : p2 ≤ 1000000) (h2 : p1 ≤ z182) (h3 : 0 ≤ p1 ∧ p1 ≤ 2147483647) (h4 : (-2147483648) ≤ p2 ∧ p2 ≤ 1000000) (h5 : 0 ≤ z182 ∧ z182 ≤ 2147483647) : 0 ≤ z182 ∧ z182 ≤ 1000000 := by omega
theorem vc_X6_number_g_14 {p1 p2 z182 : Int} (h0 : z182 ≤ p2) (h1 : p2 ≤ 1000000) (h2 : p1 ≤ z182) (h3 : 0 ≤ p1 ∧ p1 ≤ 2147483647) (h4 : (-2147483648) ≤ p2 ∧ p2 ≤ 1000000) (h5 : 0 ≤ z182 ∧ z182 ≤ 1000000) : 0 ≤ p2 ∧ p2 ≤ 1000000 := by omega
theorem vc_X6_number_g_15 {f_at f_end f_ft f_te z177 z208 : Int} (h0 : f_at ≤ f_end) (h1 : f_ft = 0 ∨ f_at = f_end) (h2 : (f_at = f_end → z177 = f_te)) (h3 : z208 ≤ f_end) (h4 : f_at ≤ z208) (h5 : f_at < f_end → f_at + 1 ≤ z208) (h6 : f_te = -1) (h7 : z177 = (-2)) (h8 : 0 ≤ f_at ∧ f_at ≤ 1000) (h9 : 0 ≤ f_end ∧ f_end ≤ 1000) (h10 : 0 ≤ f_ft ∧ f_ft ≤ 4) (h11 : (-1) ≤ f_te ∧ f_te ≤ (-1)) (h12 : (-2) ≤ z177 ∧ z177 ≤ (-2)) (h13 : 0 ≤ z208 ∧ z208 ≤ 1000) : z208 ≤ f_end := by omega
theorem vc_X6_number_g_16 {f_at f_end f_ft f_te z177 z208 : Int} (h0 : f_at ≤ f_end) (h1 : f_ft = 0 ∨ f_at = f_end) (h2 : (f_at = f_end → z177 = f_te)) (h3 : z208 ≤ f_end) (h4 : f_at ≤ z208) (h5 : f_at < f_end → f_at + 1 ≤ z208) (h6 : f_te = -1) (h7 : z177 = (-2)) (h8 : 0 ≤ f_at ∧ f_at ≤ 1000) (h9 : 0 ≤ f_end ∧ f_end ≤ 1000) (h10 : 0 ≤ f_ft ∧ f_ft ≤ 4) (h11 : (-1) ≤ f_te ∧ f_te ≤ (-1)) (h12 : (-2) ≤ z177 ∧ z177 ≤ (-2)) (h13 : 0 ≤ z208 ∧ z208 ≤ 1000) : f_at ≤ z208 := by omega
theorem vc_X6_number_g_17 {f_at f_end f_ft f_te z177 z208 : Int} (h0 : f_ft = 0 ∨ f_at = f_end) (h1 : f_at ≤ f_end) (h2 : (f_at = f_end → z177 = f_te)) (h3 : z208 ≤ f_end) (h4 : f_at ≤ z208) (h5 : f_at < f_end → f_at + 1 ≤ z208) (h6 : 0 ≤ f_at ∧ f_at ≤ 1000) (h7 : 0 ≤ f_end ∧ f_end ≤ 1000) (h8 : 0 ≤ f_ft ∧ f_ft ≤ 4) (h9 : (-1) ≤ f_te ∧ f_te ≤ (-1)) (h10 : (-2) ≤ z177 ∧ z177 ≤ (-2)) (h11 : 0 ≤ z208 ∧ z208 ≤ 1000) : f_ft = 0 ∨ 1 ≤ f_ft := by omega
theorem vc_X6_number_g_18 {f_at f_end f_ft f_te z177 z208 : Int} (h0 : f_at ≤ f_end) (h1 : f_ft = 0 ∨ f_at = f_end) (h2 : (f_at = f_end → z177 = f_te)) (h3 : z208 ≤ f_end) (h4 : f_at ≤ z208) (h5 : f_at < f_end → f_at + 1 ≤ z208) (h6 : f_te = -1) (h7 : z177 = (-2)) (h8 : 0 ≤ f_at ∧ f_at ≤ 1000) (h9 : 0 ≤ f_end ∧ f_end ≤ 1000) (h10 : 0 ≤ f_ft ∧ f_ft ≤ 4) (h11 : (-1) ≤ f_te ∧ f_te ≤ (-1)) (h12 : (-2) ≤ z177 ∧ z177 ≤ (-2)) (h13 : 0 ≤ z208 ∧ z208 ≤ 1000) : f_ft = 0 ∨ z208 = f_end := by omega
theorem vc_X6_number_g_19 {f_at f_end f_ft f_te z177 z208 : Int} (h0 : f_at ≤ f_end) (h1 : f_ft = 0 ∨ f_at = f_end) (h2 : (f_at = f_end → z177 = f_te)) (h3 : z208 ≤ f_end) (h4 : f_at ≤ z208) (h5 : f_at < f_end → f_at + 1 ≤ z208) (h6 : f_te = -1) (h7 : z177 = (-2)) (h8 : 0 ≤ f_at ∧ f_at ≤ 1000) (h9 : 0 ≤ f_end ∧ f_end ≤ 1000) (h10 : 0 ≤ f_ft ∧ f_ft ≤ 4) (h11 : (-1) ≤ f_te ∧ f_te ≤ (-1)) (h12 : (-2) ≤ z177 ∧ z177 ≤ (-2)) (h13 : 0 ≤ z208 ∧ z208 ≤ 1000) : f_ft = 0 → f_at + 1 ≤ z208 := by omega
theorem vc_X6_number_g_26 {f_at f_end f_ft f_te z177 : Int} (h0 : f_at ≤ f_end) (h1 : f_ft = 0 ∨ f_at = f_end) (h2 : (f_at = f_end → z177 = f_te)) (h3 : f_te = -1) (h4 : ¬ z177 = (-2)) (h5 : 0 ≤ f_at ∧ f_at ≤ 1000) (h6 : 0 ≤ f_end ∧ f_end ≤ 1000) (h7 : 0 ≤ f_ft ∧ f_ft ≤ 4) (h8 : (-1) ≤ f_te ∧ f_te ≤ (-1)) (h9 : (-2147483648) ≤ z177 ∧ z177 ≤ 2147483647) : f_at ≤ f_end := by omega
theorem vc_X6_number_g_28 {f_at f_end f_ft f_te z177 z229 : Int} (h0 : f_at ≤ f_end) (h1 : f_ft = 0 ∨ f_at = f_end) (h2 : (f_at = f_end → z177 = f_te)) (h3 : z229 = f_end) (h4 : f_te = -1) (h5 : ¬ z177 = (-2)) (h6 : 0 ≤ f_at ∧ f_at ≤ 1000) (h7 : 0 ≤ f_end ∧ f_end ≤ 1000) (h8 : 0 ≤ f_ft ∧ f_ft ≤ 4) (h9 : (-1) ≤ f_te ∧ f_te ≤ (-1)) (h10 : (-2147483648) ≤ z177 ∧ z177 ≤ 2147483647) (h11 : 0 ≤ z229 ∧ z229 ≤ 1000) : f_end ≤ f_end := by omega
theorem vc_X6_number_g_29 {f_at f_end f_ft f_te z177 z229 : Int} (h0 : f_at ≤ f_end) (h1 : f_ft = 0 ∨ f_at = f_end) (h2 : (f_at = f_end → z177 = f_te)) (h3 : z229 = f_end) (h4 : f_te = -1) (h5 : ¬ z177 = (-2)) (h6 : 0 ≤ f_at ∧ f_at ≤ 1000) (h7 : 0 ≤ f_end ∧ f_end ≤ 1000) (h8 : 0 ≤ f_ft ∧ f_ft ≤ 4) (h9 : (-1) ≤ f_te ∧ f_te ≤ (-1)) (h10 : (-2147483648) ≤ z177 ∧ z177 ≤ 2147483647) (h11 : 0 ≤ z229 ∧ z229 ≤ 1000) : f_at ≤ f_end := by omega
theorem vc_X6_number_g_30 {f_at f_end f_ft f_te z177 z229 z231 : Int} (h0 : f_ft = 0 ∨ f_at = f_end) (h1 : 1 ≤ z231) (h2 : f_at ≤ f_end) (h3 : (f_at = f_end → z177 = f_te)) (h4 : z229 = f_end) (h5 : 0 ≤ f_at ∧ f_at ≤ 1000) (h6 : 0 ≤ f_end ∧ f_end ≤ 1000) (h7 : 0 ≤ f_ft ∧ f_ft ≤ 4) (h8 : (-1) ≤ f_te ∧ f_te ≤ (-1)) (h9 : (-2147483648) ≤ z177 ∧ z177 ≤ 2147483647) (h10 : 0 ≤ z229 ∧ z229 ≤ 1000) (h11 : 1 ≤ z231 ∧ z231 ≤ 4) : f_ft = 0 ∨ 1 ≤ z231 := by omega
theorem vc_X6_number_g_31 {f_at f_end f_ft f_te z177 z229 z231 : Int} (h0 : f_at ≤ f_end) (h1 : f_ft = 0 ∨ f_at = f_end) (h2 : (f_at = f_end → z177 = f_te)) (h3 : z229 = f_end) (h4 : 1 ≤ z231) (h5 : f_te = -1) (h6 : ¬ z177 = (-2)) (h7 : 0 ≤ f_at ∧ f_at ≤ 1000) (h8 : 0 ≤ f_end ∧ f_end ≤ 1000) (h9 : 0 ≤ f_ft ∧ f_ft ≤ 4) (h10 : (-1) ≤ f_te ∧ f_te ≤ (-1)) (h11 : (-2147483648) ≤ z177 ∧ z177 ≤ 2147483647) (h12 : 0 ≤ z229 ∧ z229 ≤ 1000) (h13 : 1 ≤ z231 ∧ z231 ≤ 4) : z231 = 0 ∨ f_end = f_end := by omega
theorem vc_X6_number_g_32 {f_at f_end f_ft f_te z177 z229 z231 : Int} (h0 : f_at ≤ f_end) (h1 : f_ft = 0 ∨ f_at = f_end) (h2 : (f_at = f_end → z177 = f_te)) (h3 : z229 = f_end) (h4 : 1 ≤ z231) (h5 : f_te = -1) (h6 : ¬ z177 = (-2)) (h7 : 0 ≤ f_at ∧ f_at ≤ 1000) (h8 : 0 ≤ f_end ∧ f_end ≤ 1000) (h9 : 0 ≤ f_ft ∧ f_ft ≤ 4) (h10 : (-1) ≤ f_te ∧ f_te ≤ (-1)) (h11 : (-2147483648) ≤ z177 ∧ z177 ≤ 2147483647) (h12 : 0 ≤ z229 ∧ z229 ≤ 1000) (h13 : 1 ≤ z231 ∧ z231 ≤ 4) : z231 = 0 → f_at + 1 ≤ f_end := by omega
set_option maxRecDepth 4000 in
set_option maxHeartbeats 4000000 in
theorem c_X6_number_g {l : Launch} {D : va_G} {c : Nat → ClassId} {H0 : Heap} {sa : Nat × Nat × (Nat → Int32)} {w : mW} {μ : mM} (hw : mWF w) (hT : mT w μ) {p1 : Int} (hp1 : 0 ≤ p1 ∧ p1 ≤ 2147483647) {p2 : Int} (hp2 : (-2147483648) ≤ p2 ∧ p2 ≤ 2147483647) {f_at : Int} (q_f_at : μ 23 9 = f_at) {f_end : Int} (q_f_end : μ 23 8 = f_end) {f_ft : Int} (q_f_ft : μ 23 18 = f_ft) {f_te : Int} (q_f_te : μ 24 (f_end.toNat) = f_te) (hq0 : f_at ≤ f_end) (hq1 : f_te = -1) (hq2 : f_ft = 0 ∨ f_at = f_end) (hq3 : p2 ≤ 1000000) : sC (gG l D c H0 sa) mX6_number 2 0 0 [.ref 23, iv p1, iv p2] (mk w μ) (qI w [23009, 23018, 23019] μ (fun z μ1 => ∃ o_at o_ft : Int, μ1 23 9 = o_at ∧ μ1 23 18 = o_ft ∧ (0 ≤ z ∧ z ≤ 1000000) ∧ (o_at ≤ f_end) ∧ (f_at ≤ o_at) ∧ (f_ft = 0 ∨ 1 ≤ o_ft) ∧ (o_ft = 0 ∨ o_at = f_end) ∧ (o_ft = 0 → f_at + 1 ≤ o_at) ∧ True)) := by
  refine sC.of rfl (by decide) (le_t rfl) ?_
  have ht_f_at : (0 ≤ f_at ∧ f_at ≤ 1000) := by rw [← q_f_at]; exact hT 23 23 (A_23 hw) 9
  have ht_f_end : (0 ≤ f_end ∧ f_end ≤ 1000) := by rw [← q_f_end]; exact hT 23 23 (A_23 hw) 8
  have ht_f_ft : (0 ≤ f_ft ∧ f_ft ≤ 4) := by rw [← q_f_ft]; exact hT 23 23 (A_23 hw) 18
  have ht_f_te : ((-2147483648) ≤ f_te ∧ f_te ≤ 2147483647) := by rw [← q_f_te]; exact hT 24 24 (A_24 hw) (f_end.toNat)
  have h1 : (-1) ≤ f_te ∧ f_te ≤ (-1) := (vc_X6_take_g_1 hq1 ht_f_te)
  have h2 : (-2147483648) ≤ p2 ∧ p2 ≤ 1000000 := (vc_X6_number_g_2 hq3 hp2)
  refine mr_lvE (lv' := [(0, .ref 23), (1, iv p1), (2, iv p2)]) rfl ?_
  refine sv_aload_n (pc := 0) dX6_number_0 rfl rfl ?_
  refine gf_X6_0 (pc := 1) dX6_number_1 wF_X6_9 (A_23 hw) hT ?_
  refine sv_aload_n (pc := 4) dX6_number_4 rfl rfl ?_
  refine gk_X6_9 (pc := 5) dX6_number_5 wF_X6_63 (A_23 hw) q_f_at ?_
  refine la_24 (pc := 8) dX6_number_8 (A_24 hw) hT (rIx (n := 1001) ht_f_at rfl) fun z177 q178 h179 => ?_
  refine mr_bipush (pc := 9) (z := (-2)) dX6_number_9 (by decide) ?_
  refine mr_icmp_eq (pc := 11) (tgt := 21) dX6_number_11 (by decide) h179 (r32 (rR (x := (-2))) rfl) (fun h180 => ?_) (fun h180 => ?_)
  · have h181 : (-2) ≤ z177 ∧ z177 ≤ (-2) := (vc_X6_number_g_3 h180 (cgr q178 q_f_te) ht_f_at ht_f_end h1 h179)
    refine sv_aload_n (pc := 21) dX6_number_21 rfl rfl ?_
    refine gf_X6_1 (pc := 22) dX6_number_22 wF_X6_15 (A_23 hw) hT ?_
    refine sv_aload_n (pc := 25) dX6_number_25 rfl rfl ?_
    refine gk_X6_9 (pc := 26) dX6_number_26 wF_X6_63 (A_23 hw) q_f_at ?_
    refine la_25 (pc := 29) dX6_number_29 (A_25 hw) hT (rIx (n := 1001) ht_f_at rfl) fun z182 q183 h184 => ?_
    refine mr_istore_n (pc := 30) (lv' := [(3, iv z182), (0, .ref 23), (1, iv p1), (2, iv p2)]) dX6_number_30 rfl (by decide) rfl ?_
    refine mr_iload_n (pc := 31) (z := z182) dX6_number_31 rfl rfl ?_
    refine mr_iload_n (pc := 32) (z := p1) dX6_number_32 rfl rfl ?_
    refine mr_icmp_lt (pc := 33) (tgt := 41) dX6_number_33 (by decide) h184 (r32 hp1 rfl) (fun h185 => ?_) (fun h185 => ?_)
    · have h186 : (-2147483648) ≤ z182 ∧ z182 ≤ 2147483646 := (vc_X6_number_g_4 h185 hp1 h184)
      refine sv_aload_n (pc := 41) dX6_number_41 rfl rfl ?_
      refine mr_iconst (pc := 42) (z := 3) dX6_number_42 ?_
      refine mr_cVV (pc := 43) (c_X6_fail_g hw hT (rW (c := 1) (d := 4) (rR (x := 3)) rfl) q_f_at q_f_end q_f_ft (vc_X6_number_g_5 hq0 hq2 (cgr q178 q_f_te) hq1 h180 ht_f_at ht_f_end ht_f_ft h1 h181)) (gOk _ _ _ _ _) dX6_number_43 (tX6_fail _ _ _ _ _) ⟨wV_X6_fail, wL_X6_fail⟩ wM_X6_123 (gCX6 _ _ _ _ _) rfl (A_23 hw) rfl ⟨le_t rfl, le_t rfl⟩ ⟨le_t rfl, le_t rfl⟩ rfl (le_t rfl) fun μ187 T188 F189 h190 => ?_
      obtain ⟨z191, z193, q192, q194, h195⟩ := h190
      have h196 : (0 ≤ z191 ∧ z191 ≤ 1000) := by rw [← q192]; exact T188 23 23 (A_23 hw) 9
      have h197 : (0 ≤ z193 ∧ z193 ≤ 4) := by rw [← q194]; exact T188 23 23 (A_23 hw) 18
      have q198 : μ187 23 9 = f_end := q192.trans h195.1
      have h199 : 1 ≤ z193 ∧ z193 ≤ 4 := (vc_X12_next_128 h195.2.1 h197)
      refine mr_iconst (pc := 46) (z := 0) dX6_number_46 ?_
      exact mr_iret dX6_number_47 rfl (le_t rfl) (le_t rfl) T188 (mF.call mF.refl F189 rfl) ⟨f_end, z193, q198, q194, (rW (c := 0) (d := 1000000) (rR (x := 0)) rfl), (vc_X6_number_g_7 hq0 hq2 (cgr q178 q_f_te) h195.1 hq1 h180 ht_f_at ht_f_end ht_f_ft h1 h181 h196), (vc_X6_number_g_8 hq0 hq2 (cgr q178 q_f_te) h195.1 hq1 h180 ht_f_at ht_f_end ht_f_ft h1 h181 h196), (vc_X6_number_g_9 hq2 h195.2.1 hq0 (cgr q178 q_f_te) h195.1 ht_f_at ht_f_end ht_f_ft h1 h181 h196 h199), (vc_X6_number_g_10 hq0 hq2 (cgr q178 q_f_te) h195.1 h195.2.1 hq1 h180 ht_f_at ht_f_end ht_f_ft h1 h181 h196 h199), (vc_X6_number_g_11 hq0 hq2 (cgr q178 q_f_te) h195.1 h195.2.1 hq1 h180 ht_f_at ht_f_end ht_f_ft h1 h181 h196 h199), trivial⟩
    have h200 : 0 ≤ z182 ∧ z182 ≤ 2147483647 := (vc_X6_number_g_12 h185 hp1 h184)
    refine mr_iload_n (pc := 36) (z := z182) dX6_number_36 rfl rfl ?_
    refine mr_iload_n (pc := 37) (z := p2) dX6_number_37 rfl rfl ?_
    refine mr_icmp_le (pc := 38) (tgt := 48) dX6_number_38 (by decide) (r32 h200 rfl) (r32 h2 rfl) (fun h201 => ?_) (fun h201 => ?_)
    · have h202 : 0 ≤ z182 ∧ z182 ≤ 1000000 := (vc_X6_number_g_13 h201 hq3 h185 hp1 h2 h200)
      have h203 : 0 ≤ p2 ∧ p2 ≤ 1000000 := (vc_X6_number_g_14 h201 hq3 h185 hp1 h2 h202)
      refine sv_aload_n (pc := 48) dX6_number_48 rfl rfl ?_
      refine mr_cVV (pc := 49) (c_X6_step_g hw hT q_f_at q_f_end (vc_X6_number_g_5 hq0 hq2 (cgr q178 q_f_te) hq1 h180 ht_f_at ht_f_end ht_f_ft h1 h181)) (gOk _ _ _ _ _) dX6_number_49 (tX6_step _ _ _ _ _) ⟨wV_X6_step, wL_X6_step⟩ wM_X6_117 (gCX6 _ _ _ _ _) rfl (A_23 hw) rfl ⟨le_t rfl, le_t rfl⟩ ⟨le_t rfl, le_t rfl⟩ rfl (le_t rfl) fun μ204 T205 F206 h207 => ?_
      obtain ⟨z208, q209, h210⟩ := h207
      have h211 : (0 ≤ z208 ∧ z208 ≤ 1000) := by rw [← q209]; exact T205 23 23 (A_23 hw) 9
      refine mr_iload_n (pc := 52) (z := z182) dX6_number_52 rfl rfl ?_
      exact mr_iret dX6_number_53 rfl (le_t rfl) (le_t rfl) T205 (mF.call mF.refl F206 rfl) ⟨z208, f_ft, q209, (F206.f (A_23 hw) rfl q_f_ft), h202, (vc_X6_number_g_15 hq0 hq2 (cgr q178 q_f_te) h210.1 h210.2.1 h210.2.2.1 hq1 h180 ht_f_at ht_f_end ht_f_ft h1 h181 h211), (vc_X6_number_g_16 hq0 hq2 (cgr q178 q_f_te) h210.1 h210.2.1 h210.2.2.1 hq1 h180 ht_f_at ht_f_end ht_f_ft h1 h181 h211), (vc_X6_number_g_17 hq2 hq0 (cgr q178 q_f_te) h210.1 h210.2.1 h210.2.2.1 ht_f_at ht_f_end ht_f_ft h1 h181 h211), (vc_X6_number_g_18 hq0 hq2 (cgr q178 q_f_te) h210.1 h210.2.1 h210.2.2.1 hq1 h180 ht_f_at ht_f_end ht_f_ft h1 h181 h211), (vc_X6_number_g_19 hq0 hq2 (cgr q178 q_f_te) h210.1 h210.2.1 h210.2.2.1 hq1 h180 ht_f_at ht_f_end ht_f_ft h1 h181 h211), trivial⟩
    refine sv_aload_n (pc := 41) dX6_number_41 rfl rfl ?_
    refine mr_iconst (pc := 42) (z := 3) dX6_number_42 ?_
    refine mr_cVV (pc := 43) (c_X6_fail_g hw hT (rW (c := 1) (d := 4) (rR (x := 3)) rfl) q_f_at q_f_end q_f_ft (vc_X6_number_g_5 hq0 hq2 (cgr q178 q_f_te) hq1 h180 ht_f_at ht_f_end ht_f_ft h1 h181)) (gOk _ _ _ _ _) dX6_number_43 (tX6_fail _ _ _ _ _) ⟨wV_X6_fail, wL_X6_fail⟩ wM_X6_123 (gCX6 _ _ _ _ _) rfl (A_23 hw) rfl ⟨le_t rfl, le_t rfl⟩ ⟨le_t rfl, le_t rfl⟩ rfl (le_t rfl) fun μ212 T213 F214 h215 => ?_
    obtain ⟨z216, z218, q217, q219, h220⟩ := h215
    have h221 : (0 ≤ z216 ∧ z216 ≤ 1000) := by rw [← q217]; exact T213 23 23 (A_23 hw) 9
    have h222 : (0 ≤ z218 ∧ z218 ≤ 4) := by rw [← q219]; exact T213 23 23 (A_23 hw) 18
    have q223 : μ212 23 9 = f_end := q217.trans h220.1
    have h224 : 1 ≤ z218 ∧ z218 ≤ 4 := (vc_X12_next_128 h220.2.1 h222)
    refine mr_iconst (pc := 46) (z := 0) dX6_number_46 ?_
    exact mr_iret dX6_number_47 rfl (le_t rfl) (le_t rfl) T213 (mF.call mF.refl F214 rfl) ⟨f_end, z218, q223, q219, (rW (c := 0) (d := 1000000) (rR (x := 0)) rfl), (vc_X6_number_g_7 hq0 hq2 (cgr q178 q_f_te) h220.1 hq1 h180 ht_f_at ht_f_end ht_f_ft h1 h181 h221), (vc_X6_number_g_8 hq0 hq2 (cgr q178 q_f_te) h220.1 hq1 h180 ht_f_at ht_f_end ht_f_ft h1 h181 h221), (vc_X6_number_g_9 hq2 h220.2.1 hq0 (cgr q178 q_f_te) h220.1 ht_f_at ht_f_end ht_f_ft h1 h181 h221 h224), (vc_X6_number_g_10 hq0 hq2 (cgr q178 q_f_te) h220.1 h220.2.1 hq1 h180 ht_f_at ht_f_end ht_f_ft h1 h181 h221 h224), (vc_X6_number_g_11 hq0 hq2 (cgr q178 q_f_te) h220.1 h220.2.1 hq1 h180 ht_f_at ht_f_end ht_f_ft h1 h181 h221 h224), trivial⟩
  refine sv_aload_n (pc := 14) dX6_number_14 rfl rfl ?_
  refine mr_iconst (pc := 15) (z := 2) dX6_number_15 ?_
  refine mr_cVV (pc := 16) (c_X6_fail_g hw hT (rW (c := 1) (d := 4) (rR (x := 2)) rfl) q_f_at q_f_end q_f_ft (vc_X6_number_g_26 hq0 hq2 (cgr q178 q_f_te) hq1 h180 ht_f_at ht_f_end ht_f_ft h1 h179)) (gOk _ _ _ _ _) dX6_number_16 (tX6_fail _ _ _ _ _) ⟨wV_X6_fail, wL_X6_fail⟩ wM_X6_123 (gCX6 _ _ _ _ _) rfl (A_23 hw) rfl ⟨le_t rfl, le_t rfl⟩ ⟨le_t rfl, le_t rfl⟩ rfl (le_t rfl) fun μ225 T226 F227 h228 => ?_
  obtain ⟨z229, z231, q230, q232, h233⟩ := h228
  have h234 : (0 ≤ z229 ∧ z229 ≤ 1000) := by rw [← q230]; exact T226 23 23 (A_23 hw) 9
  have h235 : (0 ≤ z231 ∧ z231 ≤ 4) := by rw [← q232]; exact T226 23 23 (A_23 hw) 18
  have q236 : μ225 23 9 = f_end := q230.trans h233.1
  have h237 : 1 ≤ z231 ∧ z231 ≤ 4 := (vc_X12_next_128 h233.2.1 h235)
  refine mr_iconst (pc := 19) (z := 0) dX6_number_19 ?_
  exact mr_iret dX6_number_20 rfl (le_t rfl) (le_t rfl) T226 (mF.call mF.refl F227 rfl) ⟨f_end, z231, q236, q232, (rW (c := 0) (d := 1000000) (rR (x := 0)) rfl), (vc_X6_number_g_28 hq0 hq2 (cgr q178 q_f_te) h233.1 hq1 h180 ht_f_at ht_f_end ht_f_ft h1 h179 h234), (vc_X6_number_g_29 hq0 hq2 (cgr q178 q_f_te) h233.1 hq1 h180 ht_f_at ht_f_end ht_f_ft h1 h179 h234), (vc_X6_number_g_30 hq2 h233.2.1 hq0 (cgr q178 q_f_te) h233.1 ht_f_at ht_f_end ht_f_ft h1 h179 h234 h237), (vc_X6_number_g_31 hq0 hq2 (cgr q178 q_f_te) h233.1 h233.2.1 hq1 h180 ht_f_at ht_f_end ht_f_ft h1 h179 h234 h237), (vc_X6_number_g_32 hq0 hq2 (cgr q178 q_f_te) h233.1 h233.2.1 hq1 h180 ht_f_at ht_f_end ht_f_ft h1 h179 h234 h237), trivial⟩
theorem vc_X6_oneOf_g_2 {f_at f_end f_te p1 z125 : Int} (h0 : z125 < p1) (h1 : (f_at = f_end → z125 = f_te)) (h2 : 0 ≤ f_at ∧ f_at ≤ 1000) (h3 : 0 ≤ f_end ∧ f_end ≤ 1000) (h4 : (-1) ≤ f_te ∧ f_te ≤ (-1)) (h5 : 0 ≤ p1 ∧ p1 ≤ 30) (h6 : (-2147483648) ≤ z125 ∧ z125 ≤ 2147483647) : (-2147483648) ≤ z125 ∧ z125 ≤ 29 := by omega
theorem vc_X6_oneOf_g_3 {f_at f_end f_ft f_te p1 z125 : Int} (h0 : f_at ≤ f_end) (h1 : f_ft = 0 ∨ f_at = f_end) (h2 : (f_at = f_end → z125 = f_te)) (h3 : f_te = -1) (h4 : z125 < p1) (h5 : 0 ≤ f_at ∧ f_at ≤ 1000) (h6 : 0 ≤ f_end ∧ f_end ≤ 1000) (h7 : 0 ≤ f_ft ∧ f_ft ≤ 4) (h8 : (-1) ≤ f_te ∧ f_te ≤ (-1)) (h9 : 0 ≤ p1 ∧ p1 ≤ 30) (h10 : (-2147483648) ≤ z125 ∧ z125 ≤ 29) : f_at ≤ f_end := by omega
theorem vc_X6_oneOf_g_5 {f_at f_end f_ft f_te p1 z125 z134 : Int} (h0 : f_at ≤ f_end) (h1 : f_ft = 0 ∨ f_at = f_end) (h2 : (f_at = f_end → z125 = f_te)) (h3 : z134 = f_end) (h4 : f_te = -1) (h5 : z125 < p1) (h6 : 0 ≤ f_at ∧ f_at ≤ 1000) (h7 : 0 ≤ f_end ∧ f_end ≤ 1000) (h8 : 0 ≤ f_ft ∧ f_ft ≤ 4) (h9 : (-1) ≤ f_te ∧ f_te ≤ (-1)) (h10 : 0 ≤ p1 ∧ p1 ≤ 30) (h11 : (-2147483648) ≤ z125 ∧ z125 ≤ 29) (h12 : 0 ≤ z134 ∧ z134 ≤ 1000) : f_end ≤ f_end := by omega
theorem vc_X6_oneOf_g_6 {f_at f_end f_ft f_te p1 z125 z134 : Int} (h0 : f_at ≤ f_end) (h1 : f_ft = 0 ∨ f_at = f_end) (h2 : (f_at = f_end → z125 = f_te)) (h3 : z134 = f_end) (h4 : f_te = -1) (h5 : z125 < p1) (h6 : 0 ≤ f_at ∧ f_at ≤ 1000) (h7 : 0 ≤ f_end ∧ f_end ≤ 1000) (h8 : 0 ≤ f_ft ∧ f_ft ≤ 4) (h9 : (-1) ≤ f_te ∧ f_te ≤ (-1)) (h10 : 0 ≤ p1 ∧ p1 ≤ 30) (h11 : (-2147483648) ≤ z125 ∧ z125 ≤ 29) (h12 : 0 ≤ z134 ∧ z134 ≤ 1000) : f_at ≤ f_end := by omega
theorem vc_X6_oneOf_g_7 {f_at f_end f_ft f_te z125 z134 z136 : Int} (h0 : f_ft = 0 ∨ f_at = f_end) (h1 : 1 ≤ z136) (h2 : f_at ≤ f_end) (h3 : (f_at = f_end → z125 = f_te)) (h4 : z134 = f_end) (h5 : 0 ≤ f_at ∧ f_at ≤ 1000) (h6 : 0 ≤ f_end ∧ f_end ≤ 1000) (h7 : 0 ≤ f_ft ∧ f_ft ≤ 4) (h8 : (-1) ≤ f_te ∧ f_te ≤ (-1)) (h9 : (-2147483648) ≤ z125 ∧ z125 ≤ 29) (h10 : 0 ≤ z134 ∧ z134 ≤ 1000) (h11 : 1 ≤ z136 ∧ z136 ≤ 4) : f_ft = 0 ∨ 1 ≤ z136 := by omega
theorem vc_X6_oneOf_g_8 {f_at f_end f_ft f_te p1 z125 z134 z136 : Int} (h0 : f_at ≤ f_end) (h1 : f_ft = 0 ∨ f_at = f_end) (h2 : (f_at = f_end → z125 = f_te)) (h3 : z134 = f_end) (h4 : 1 ≤ z136) (h5 : f_te = -1) (h6 : z125 < p1) (h7 : 0 ≤ f_at ∧ f_at ≤ 1000) (h8 : 0 ≤ f_end ∧ f_end ≤ 1000) (h9 : 0 ≤ f_ft ∧ f_ft ≤ 4) (h10 : (-1) ≤ f_te ∧ f_te ≤ (-1)) (h11 : 0 ≤ p1 ∧ p1 ≤ 30) (h12 : (-2147483648) ≤ z125 ∧ z125 ≤ 29) (h13 : 0 ≤ z134 ∧ z134 ≤ 1000) (h14 : 1 ≤ z136 ∧ z136 ≤ 4) : z136 = 0 ∨ f_end = f_end := by omega
theorem vc_X6_oneOf_g_9 {f_at f_end f_ft f_te p1 z125 z134 z136 : Int} (h0 : f_at ≤ f_end) (h1 : f_ft = 0 ∨ f_at = f_end) (h2 : (f_at = f_end → z125 = f_te)) (h3 : z134 = f_end) (h4 : 1 ≤ z136) (h5 : f_te = -1) (h6 : z125 < p1) (h7 : 0 ≤ f_at ∧ f_at ≤ 1000) (h8 : 0 ≤ f_end ∧ f_end ≤ 1000) (h9 : 0 ≤ f_ft ∧ f_ft ≤ 4) (h10 : (-1) ≤ f_te ∧ f_te ≤ (-1)) (h11 : 0 ≤ p1 ∧ p1 ≤ 30) (h12 : (-2147483648) ≤ z125 ∧ z125 ≤ 29) (h13 : 0 ≤ z134 ∧ z134 ≤ 1000) (h14 : 1 ≤ z136 ∧ z136 ≤ 4) : z136 = 0 → f_at + 1 ≤ f_end := by omega
theorem vc_X6_oneOf_g_10 {f_at f_end f_te p1 z125 : Int} (h0 : p1 ≤ z125) (h1 : (f_at = f_end → z125 = f_te)) (h2 : 0 ≤ f_at ∧ f_at ≤ 1000) (h3 : 0 ≤ f_end ∧ f_end ≤ 1000) (h4 : (-1) ≤ f_te ∧ f_te ≤ (-1)) (h5 : 0 ≤ p1 ∧ p1 ≤ 30) (h6 : (-2147483648) ≤ z125 ∧ z125 ≤ 2147483647) : 0 ≤ z125 ∧ z125 ≤ 2147483647 := by omega
theorem vc_X6_oneOf_g_11 {f_at f_end f_te p1 p2 z125 : Int} (h0 : z125 ≤ p2) (h1 : (f_at = f_end → z125 = f_te)) (h2 : p1 ≤ z125) (h3 : 0 ≤ f_at ∧ f_at ≤ 1000) (h4 : 0 ≤ f_end ∧ f_end ≤ 1000) (h5 : (-1) ≤ f_te ∧ f_te ≤ (-1)) (h6 : 0 ≤ p1 ∧ p1 ≤ 30) (h7 : 0 ≤ p2 ∧ p2 ≤ 30) (h8 : 0 ≤ z125 ∧ z125 ≤ 2147483647) : 0 ≤ z125 ∧ z125 ≤ 30 := by omega
theorem vc_X6_oneOf_g_12 {f_at f_end f_ft f_te p1 p2 z125 : Int} (h0 : f_at ≤ f_end) (h1 : f_ft = 0 ∨ f_at = f_end) (h2 : (f_at = f_end → z125 = f_te)) (h3 : f_te = -1) (h4 : p1 ≤ z125) (h5 : z125 ≤ p2) (h6 : 0 ≤ f_at ∧ f_at ≤ 1000) (h7 : 0 ≤ f_end ∧ f_end ≤ 1000) (h8 : 0 ≤ f_ft ∧ f_ft ≤ 4) (h9 : (-1) ≤ f_te ∧ f_te ≤ (-1)) (h10 : 0 ≤ p1 ∧ p1 ≤ 30) (h11 : 0 ≤ p2 ∧ p2 ≤ 30) (h12 : 0 ≤ z125 ∧ z125 ≤ 30) : f_at ≤ f_end := by omega
theorem vc_X6_oneOf_g_13 {f_at f_end f_ft f_te p1 p2 z125 z150 : Int} (h0 : f_at ≤ f_end) (h1 : f_ft = 0 ∨ f_at = f_end) (h2 : (f_at = f_end → z125 = f_te)) (h3 : z150 ≤ f_end) (h4 : f_at ≤ z150) (h5 : f_at < f_end → f_at + 1 ≤ z150) (h6 : f_te = -1) (h7 : p1 ≤ z125) (h8 : z125 ≤ p2) (h9 : 0 ≤ f_at ∧ f_at ≤ 1000) (h10 : 0 ≤ f_end ∧ f_end ≤ 1000) (h11 : 0 ≤ f_ft ∧ f_ft ≤ 4) (h12 : (-1) ≤ f_te ∧ f_te ≤ (-1)) (h13 : 0 ≤ p1 ∧ p1 ≤ 30) (h14 : 0 ≤ p2 ∧ p2 ≤ 30) (h15 : 0 ≤ z125 ∧ z125 ≤ 30) (h16 : 0 ≤ z150 ∧ z150 ≤ 1000) : z150 ≤ f_end := by omega
theorem vc_X6_oneOf_g_14 {f_at f_end f_ft f_te p1 p2 z125 z150 : Int} (h0 : f_at ≤ f_end) (h1 : f_ft = 0 ∨ f_at = f_end) (h2 : (f_at = f_end → z125 = f_te)) (h3 : z150 ≤ f_end) (h4 : f_at ≤ z150) (h5 : f_at < f_end → f_at + 1 ≤ z150) (h6 : f_te = -1) (h7 : p1 ≤ z125) (h8 : z125 ≤ p2) (h9 : 0 ≤ f_at ∧ f_at ≤ 1000) (h10 : 0 ≤ f_end ∧ f_end ≤ 1000) (h11 : 0 ≤ f_ft ∧ f_ft ≤ 4) (h12 : (-1) ≤ f_te ∧ f_te ≤ (-1)) (h13 : 0 ≤ p1 ∧ p1 ≤ 30) (h14 : 0 ≤ p2 ∧ p2 ≤ 30) (h15 : 0 ≤ z125 ∧ z125 ≤ 30) (h16 : 0 ≤ z150 ∧ z150 ≤ 1000) : f_at ≤ z150 := by omega
theorem vc_X6_oneOf_g_15 {f_at f_end f_ft f_te z125 z150 : Int} (h0 : f_ft = 0 ∨ f_at = f_end) (h1 : f_at ≤ f_end) (h2 : (f_at = f_end → z125 = f_te)) (h3 : z150 ≤ f_end) (h4 : f_at ≤ z150) (h5 : f_at < f_end → f_at + 1 ≤ z150) (h6 : 0 ≤ f_at ∧ f_at ≤ 1000) (h7 : 0 ≤ f_end ∧ f_end ≤ 1000) (h8 : 0 ≤ f_ft ∧ f_ft ≤ 4) (h9 : (-1) ≤ f_te ∧ f_te ≤ (-1)) (h10 : 0 ≤ z125 ∧ z125 ≤ 30) (h11 : 0 ≤ z150 ∧ z150 ≤ 1000) : f_ft = 0 ∨ 1 ≤ f_ft := by omega
theorem vc_X6_oneOf_g_16 {f_at f_end f_ft f_te p1 p2 z125 z150 : Int} (h0 : f_at ≤ f_end) (h1 : f_ft = 0 ∨ f_at = f_end) (h2 : (f_at = f_end → z125 = f_te)) (h3 : z150 ≤ f_end) (h4 : f_at ≤ z150) (h5 : f_at < f_end → f_at + 1 ≤ z150) (h6 : f_te = -1) (h7 : p1 ≤ z125) (h8 : z125 ≤ p2) (h9 : 0 ≤ f_at ∧ f_at ≤ 1000) (h10 : 0 ≤ f_end ∧ f_end ≤ 1000) (h11 : 0 ≤ f_ft ∧ f_ft ≤ 4) (h12 : (-1) ≤ f_te ∧ f_te ≤ (-1)) (h13 : 0 ≤ p1 ∧ p1 ≤ 30) (h14 : 0 ≤ p2 ∧ p2 ≤ 30) (h15 : 0 ≤ z125 ∧ z125 ≤ 30) (h16 : 0 ≤ z150 ∧ z150 ≤ 1000) : f_ft = 0 ∨ z150 = f_end := by omega
theorem vc_X6_oneOf_g_17 {f_at f_end f_ft f_te p1 p2 z125 z150 : Int} (h0 : f_at ≤ f_end) (h1 : f_ft = 0 ∨ f_at = f_end) (h2 : (f_at = f_end → z125 = f_te)) (h3 : z150 ≤ f_end) (h4 : f_at ≤ z150) (h5 : f_at < f_end → f_at + 1 ≤ z150) (h6 : f_te = -1) (h7 : p1 ≤ z125) (h8 : z125 ≤ p2) (h9 : 0 ≤ f_at ∧ f_at ≤ 1000) (h10 : 0 ≤ f_end ∧ f_end ≤ 1000) (h11 : 0 ≤ f_ft ∧ f_ft ≤ 4) (h12 : (-1) ≤ f_te ∧ f_te ≤ (-1)) (h13 : 0 ≤ p1 ∧ p1 ≤ 30) (h14 : 0 ≤ p2 ∧ p2 ≤ 30) (h15 : 0 ≤ z125 ∧ z125 ≤ 30) (h16 : 0 ≤ z150 ∧ z150 ≤ 1000) : f_ft = 0 → f_at + 1 ≤ z150 := by omega
theorem vc_X6_oneOf_g_18 {f_at f_end f_te p1 p2 z125 : Int} (h0 : p2 < z125) (h1 : (f_at = f_end → z125 = f_te)) (h2 : p1 ≤ z125) (h3 : 0 ≤ f_at ∧ f_at ≤ 1000) (h4 : 0 ≤ f_end ∧ f_end ≤ 1000) (h5 : (-1) ≤ f_te ∧ f_te ≤ (-1)) (h6 : 0 ≤ p1 ∧ p1 ≤ 30) (h7 : 0 ≤ p2 ∧ p2 ≤ 30) (h8 : 0 ≤ z125 ∧ z125 ≤ 2147483647) : 1 ≤ z125 ∧ z125 ≤ 2147483647 := by omega
theorem vc_X6_oneOf_g_19 {f_at f_end f_ft f_te p1 p2 z125 : Int} (h0 : f_at ≤ f_end) (h1 : f_ft = 0 ∨ f_at = f_end) (h2 : (f_at = f_end → z125 = f_te)) (h3 : f_te = -1) (h4 : p1 ≤ z125) (h5 : p2 < z125) (h6 : 0 ≤ f_at ∧ f_at ≤ 1000) (h7 : 0 ≤ f_end ∧ f_end ≤ 1000) (h8 : 0 ≤ f_ft ∧ f_ft ≤ 4) (h9 : (-1) ≤ f_te ∧ f_te ≤ (-1)) (h10 : 0 ≤ p1 ∧ p1 ≤ 30) (h11 : 0 ≤ p2 ∧ p2 ≤ 30) (h12 : 1 ≤ z125 ∧ z125 ≤ 2147483647) : f_at ≤ f_end := by omega
theorem vc_X6_oneOf_g_21 {f_at f_end f_ft f_te p1 p2 z125 z159 : Int} (h0 : f_at ≤ f_end) (h1 : f_ft = 0 ∨ f_at = f_end) (h2 : (f_at = f_end → z125 = f_te)) (h3 : z159 = f_end) (h4 : f_te = -1) (h5 : p1 ≤ z125) (h6 : p2 < z125) (h7 : 0 ≤ f_at ∧ f_at ≤ 1000) (h8 : 0 ≤ f_end ∧ f_end ≤ 1000) (h9 : 0 ≤ f_ft ∧ f_ft ≤ 4) (h10 : (-1) ≤ f_te ∧ f_te ≤ (-1)) (h11 : 0 ≤ p1 ∧ p1 ≤ 30) (h12 : 0 ≤ p2 ∧ p2 ≤ 30) (h13 : 1 ≤ z125 ∧ z125 ≤ 2147483647) (h14 : 0 ≤ z159 ∧ z159 ≤ 1000) : f_end ≤ f_end := by omega
theorem vc_X6_oneOf_g_22 {f_at f_end f_ft f_te p1 p2 z125 z159 : Int} (h0 : f_at ≤ f_end) (h1 : f_ft = 0 ∨ f_at = f_end) (h2 : (f_at = f_end → z125 = f_te)) (h3 : z159 = f_end) (h4 : f_te = -1) (h5 : p1 ≤ z125) (h6 : p2 < z125) (h7 : 0 ≤ f_at ∧ f_at ≤ 1000) (h8 : 0 ≤ f_end ∧ f_end ≤ 1000) (h9 : 0 ≤ f_ft ∧ f_ft ≤ 4) (h10 : (-1) ≤ f_te ∧ f_te ≤ (-1)) (h11 : 0 ≤ p1 ∧ p1 ≤ 30) (h12 : 0 ≤ p2 ∧ p2 ≤ 30) (h13 : 1 ≤ z125 ∧ z125 ≤ 2147483647) (h14 : 0 ≤ z159 ∧ z159 ≤ 1000) : f_at ≤ f_end := by omega
theorem vc_X6_oneOf_g_23 {f_at f_end f_ft f_te z125 z159 z161 : Int} (h0 : f_ft = 0 ∨ f_at = f_end) (h1 : 1 ≤ z161) (h2 : f_at ≤ f_end) (h3 : (f_at = f_end → z125 = f_te)) (h4 : z159 = f_end) (h5 : 0 ≤ f_at ∧ f_at ≤ 1000) (h6 : 0 ≤ f_end ∧ f_end ≤ 1000) (h7 : 0 ≤ f_ft ∧ f_ft ≤ 4) (h8 : (-1) ≤ f_te ∧ f_te ≤ (-1)) (h9 : 1 ≤ z125 ∧ z125 ≤ 2147483647) (h10 : 0 ≤ z159 ∧ z159 ≤ 1000) (h11 : 1 ≤ z161 ∧ z161 ≤ 4) : f_ft = 0 ∨ 1 ≤ z161 := by omega
theorem vc_X6_oneOf_g_24 {f_at f_end f_ft f_te p1 p2 z125 z159 z161 : Int} (h0 : f_at ≤ f_end) (h1 : f_ft = 0 ∨ f_at = f_end) (h2 : (f_at = f_end → z125 = f_te)) (h3 : z159 = f_end) (h4 : 1 ≤ z161) (h5 : f_te = -1) (h6 : p1 ≤ z125) (h7 : p2 < z125) (h8 : 0 ≤ f_at ∧ f_at ≤ 1000) (h9 : 0 ≤ f_end ∧ f_end ≤ 1000) (h10 : 0 ≤ f_ft ∧ f_ft ≤ 4) (h11 : (-1) ≤ f_te ∧ f_te ≤ (-1)) (h12 : 0 ≤ p1 ∧ p1 ≤ 30) (h13 : 0 ≤ p2 ∧ p2 ≤ 30) (h14 : 1 ≤ z125 ∧ z125 ≤ 2147483647) (h15 : 0 ≤ z159 ∧ z159 ≤ 1000) (h16 : 1 ≤ z161 ∧ z161 ≤ 4) : z161 = 0 ∨ f_end = f_end := by omega
theorem vc_X6_oneOf_g_25 {f_at f_end f_ft f_te p1 p2 z125 z159 z161 : Int} (h0 : f_at ≤ f_end) (h1 : f_ft = 0 ∨ f_at = f_end) (h2 : (f_at = f_end → z125 = f_te)) (h3 : z159 = f_end) (h4 : 1 ≤ z161) (h5 : f_te = -1) (h6 : p1 ≤ z125) (h7 : p2 < z125) (h8 : 0 ≤ f_at ∧ f_at ≤ 1000) (h9 : 0 ≤ f_end ∧ f_end ≤ 1000) (h10 : 0 ≤ f_ft ∧ f_ft ≤ 4) (h11 : (-1) ≤ f_te ∧ f_te ≤ (-1)) (h12 : 0 ≤ p1 ∧ p1 ≤ 30) (h13 : 0 ≤ p2 ∧ p2 ≤ 30) (h14 : 1 ≤ z125 ∧ z125 ≤ 2147483647) (h15 : 0 ≤ z159 ∧ z159 ≤ 1000) (h16 : 1 ≤ z161 ∧ z161 ≤ 4) : z161 = 0 → f_at + 1 ≤ f_end := by omega
set_option maxRecDepth 4000 in
set_option maxHeartbeats 4000000 in
theorem c_X6_oneOf_g {l : Launch} {D : va_G} {c : Nat → ClassId} {H0 : Heap} {sa : Nat × Nat × (Nat → Int32)} {w : mW} {μ : mM} (hw : mWF w) (hT : mT w μ) {p1 : Int} (hp1 : 0 ≤ p1 ∧ p1 ≤ 30) {p2 : Int} (hp2 : 0 ≤ p2 ∧ p2 ≤ 30) {f_at : Int} (q_f_at : μ 23 9 = f_at) {f_end : Int} (q_f_end : μ 23 8 = f_end) {f_ft : Int} (q_f_ft : μ 23 18 = f_ft) {f_te : Int} (q_f_te : μ 24 (f_end.toNat) = f_te) (hq0 : f_at ≤ f_end) (hq1 : f_te = -1) (hq2 : f_ft = 0 ∨ f_at = f_end) : sC (gG l D c H0 sa) mX6_oneOf 2 0 0 [.ref 23, iv p1, iv p2] (mk w μ) (qI w [23009, 23018, 23019] μ (fun z μ1 => ∃ o_at o_ft : Int, μ1 23 9 = o_at ∧ μ1 23 18 = o_ft ∧ (0 ≤ z ∧ z ≤ 30) ∧ (o_at ≤ f_end) ∧ (f_at ≤ o_at) ∧ (f_ft = 0 ∨ 1 ≤ o_ft) ∧ (o_ft = 0 ∨ o_at = f_end) ∧ (o_ft = 0 → f_at + 1 ≤ o_at) ∧ True)) := by
  refine sC.of rfl (by decide) (le_t rfl) ?_
  have ht_f_at : (0 ≤ f_at ∧ f_at ≤ 1000) := by rw [← q_f_at]; exact hT 23 23 (A_23 hw) 9
  have ht_f_end : (0 ≤ f_end ∧ f_end ≤ 1000) := by rw [← q_f_end]; exact hT 23 23 (A_23 hw) 8
  have ht_f_ft : (0 ≤ f_ft ∧ f_ft ≤ 4) := by rw [← q_f_ft]; exact hT 23 23 (A_23 hw) 18
  have ht_f_te : ((-2147483648) ≤ f_te ∧ f_te ≤ 2147483647) := by rw [← q_f_te]; exact hT 24 24 (A_24 hw) (f_end.toNat)
  have h1 : (-1) ≤ f_te ∧ f_te ≤ (-1) := (vc_X6_take_g_1 hq1 ht_f_te)
  refine mr_lvE (lv' := [(0, .ref 23), (1, iv p1), (2, iv p2)]) rfl ?_
  refine sv_aload_n (pc := 0) dX6_oneOf_0 rfl rfl ?_
  refine gf_X6_0 (pc := 1) dX6_oneOf_1 wF_X6_9 (A_23 hw) hT ?_
  refine sv_aload_n (pc := 4) dX6_oneOf_4 rfl rfl ?_
  refine gk_X6_9 (pc := 5) dX6_oneOf_5 wF_X6_63 (A_23 hw) q_f_at ?_
  refine la_24 (pc := 8) dX6_oneOf_8 (A_24 hw) hT (rIx (n := 1001) ht_f_at rfl) fun z125 q126 h127 => ?_
  refine mr_istore_n (pc := 9) (lv' := [(3, iv z125), (0, .ref 23), (1, iv p1), (2, iv p2)]) dX6_oneOf_9 rfl (by decide) rfl ?_
  refine mr_iload_n (pc := 10) (z := z125) dX6_oneOf_10 rfl rfl ?_
  refine mr_iload_n (pc := 11) (z := p1) dX6_oneOf_11 rfl rfl ?_
  refine mr_icmp_lt (pc := 12) (tgt := 20) dX6_oneOf_12 (by decide) h127 (r32 hp1 rfl) (fun h128 => ?_) (fun h128 => ?_)
  · have h129 : (-2147483648) ≤ z125 ∧ z125 ≤ 29 := (vc_X6_oneOf_g_2 h128 (cgr q126 q_f_te) ht_f_at ht_f_end h1 hp1 h127)
    refine sv_aload_n (pc := 20) dX6_oneOf_20 rfl rfl ?_
    refine mr_iconst (pc := 21) (z := 2) dX6_oneOf_21 ?_
    refine mr_cVV (pc := 22) (c_X6_fail_g hw hT (rW (c := 1) (d := 4) (rR (x := 2)) rfl) q_f_at q_f_end q_f_ft (vc_X6_oneOf_g_3 hq0 hq2 (cgr q126 q_f_te) hq1 h128 ht_f_at ht_f_end ht_f_ft h1 hp1 h129)) (gOk _ _ _ _ _) dX6_oneOf_22 (tX6_fail _ _ _ _ _) ⟨wV_X6_fail, wL_X6_fail⟩ wM_X6_123 (gCX6 _ _ _ _ _) rfl (A_23 hw) rfl ⟨le_t rfl, le_t rfl⟩ ⟨le_t rfl, le_t rfl⟩ rfl (le_t rfl) fun μ130 T131 F132 h133 => ?_
    obtain ⟨z134, z136, q135, q137, h138⟩ := h133
    have h139 : (0 ≤ z134 ∧ z134 ≤ 1000) := by rw [← q135]; exact T131 23 23 (A_23 hw) 9
    have h140 : (0 ≤ z136 ∧ z136 ≤ 4) := by rw [← q137]; exact T131 23 23 (A_23 hw) 18
    have q141 : μ130 23 9 = f_end := q135.trans h138.1
    have h142 : 1 ≤ z136 ∧ z136 ≤ 4 := (vc_X12_next_128 h138.2.1 h140)
    refine mr_iload_n (pc := 25) (z := p1) dX6_oneOf_25 rfl rfl ?_
    exact mr_iret dX6_oneOf_26 rfl (le_t rfl) (le_t rfl) T131 (mF.call mF.refl F132 rfl) ⟨f_end, z136, q141, q137, hp1, (vc_X6_oneOf_g_5 hq0 hq2 (cgr q126 q_f_te) h138.1 hq1 h128 ht_f_at ht_f_end ht_f_ft h1 hp1 h129 h139), (vc_X6_oneOf_g_6 hq0 hq2 (cgr q126 q_f_te) h138.1 hq1 h128 ht_f_at ht_f_end ht_f_ft h1 hp1 h129 h139), (vc_X6_oneOf_g_7 hq2 h138.2.1 hq0 (cgr q126 q_f_te) h138.1 ht_f_at ht_f_end ht_f_ft h1 h129 h139 h142), (vc_X6_oneOf_g_8 hq0 hq2 (cgr q126 q_f_te) h138.1 h138.2.1 hq1 h128 ht_f_at ht_f_end ht_f_ft h1 hp1 h129 h139 h142), (vc_X6_oneOf_g_9 hq0 hq2 (cgr q126 q_f_te) h138.1 h138.2.1 hq1 h128 ht_f_at ht_f_end ht_f_ft h1 hp1 h129 h139 h142), trivial⟩
  have h143 : 0 ≤ z125 ∧ z125 ≤ 2147483647 := (vc_X6_oneOf_g_10 h128 (cgr q126 q_f_te) ht_f_at ht_f_end h1 hp1 h127)
  refine mr_iload_n (pc := 15) (z := z125) dX6_oneOf_15 rfl rfl ?_
  refine mr_iload_n (pc := 16) (z := p2) dX6_oneOf_16 rfl rfl ?_
  refine mr_icmp_le (pc := 17) (tgt := 27) dX6_oneOf_17 (by decide) (r32 h143 rfl) (r32 hp2 rfl) (fun h144 => ?_) (fun h144 => ?_)
  · have h145 : 0 ≤ z125 ∧ z125 ≤ 30 := (vc_X6_oneOf_g_11 h144 (cgr q126 q_f_te) h128 ht_f_at ht_f_end h1 hp1 hp2 h143)
    refine sv_aload_n (pc := 27) dX6_oneOf_27 rfl rfl ?_
    refine mr_cVV (pc := 28) (c_X6_step_g hw hT q_f_at q_f_end (vc_X6_oneOf_g_12 hq0 hq2 (cgr q126 q_f_te) hq1 h128 h144 ht_f_at ht_f_end ht_f_ft h1 hp1 hp2 h145)) (gOk _ _ _ _ _) dX6_oneOf_28 (tX6_step _ _ _ _ _) ⟨wV_X6_step, wL_X6_step⟩ wM_X6_117 (gCX6 _ _ _ _ _) rfl (A_23 hw) rfl ⟨le_t rfl, le_t rfl⟩ ⟨le_t rfl, le_t rfl⟩ rfl (le_t rfl) fun μ146 T147 F148 h149 => ?_
    obtain ⟨z150, q151, h152⟩ := h149
    have h153 : (0 ≤ z150 ∧ z150 ≤ 1000) := by rw [← q151]; exact T147 23 23 (A_23 hw) 9
    refine mr_iload_n (pc := 31) (z := z125) dX6_oneOf_31 rfl rfl ?_
    exact mr_iret dX6_oneOf_32 rfl (le_t rfl) (le_t rfl) T147 (mF.call mF.refl F148 rfl) ⟨z150, f_ft, q151, (F148.f (A_23 hw) rfl q_f_ft), h145, (vc_X6_oneOf_g_13 hq0 hq2 (cgr q126 q_f_te) h152.1 h152.2.1 h152.2.2.1 hq1 h128 h144 ht_f_at ht_f_end ht_f_ft h1 hp1 hp2 h145 h153), (vc_X6_oneOf_g_14 hq0 hq2 (cgr q126 q_f_te) h152.1 h152.2.1 h152.2.2.1 hq1 h128 h144 ht_f_at ht_f_end ht_f_ft h1 hp1 hp2 h145 h153), (vc_X6_oneOf_g_15 hq2 hq0 (cgr q126 q_f_te) h152.1 h152.2.1 h152.2.2.1 ht_f_at ht_f_end ht_f_ft h1 h145 h153), (vc_X6_oneOf_g_16 hq0 hq2 (cgr q126 q_f_te) h152.1 h152.2.1 h152.2.2.1 hq1 h128 h144 ht_f_at ht_f_end ht_f_ft h1 hp1 hp2 h145 h153), (vc_X6_oneOf_g_17 hq0 hq2 (cgr q126 q_f_te) h152.1 h152.2.1 h152.2.2.1 hq1 h128 h144 ht_f_at ht_f_end ht_f_ft h1 hp1 hp2 h145 h153), trivial⟩
  have h154 : 1 ≤ z125 ∧ z125 ≤ 2147483647 := (vc_X6_oneOf_g_18 h144 (cgr q126 q_f_te) h128 ht_f_at ht_f_end h1 hp1 hp2 h143)
  refine sv_aload_n (pc := 20) dX6_oneOf_20 rfl rfl ?_
  refine mr_iconst (pc := 21) (z := 2) dX6_oneOf_21 ?_
  refine mr_cVV (pc := 22) (c_X6_fail_g hw hT (rW (c := 1) (d := 4) (rR (x := 2)) rfl) q_f_at q_f_end q_f_ft (vc_X6_oneOf_g_19 hq0 hq2 (cgr q126 q_f_te) hq1 h128 h144 ht_f_at ht_f_end ht_f_ft h1 hp1 hp2 h154)) (gOk _ _ _ _ _) dX6_oneOf_22 (tX6_fail _ _ _ _ _) ⟨wV_X6_fail, wL_X6_fail⟩ wM_X6_123 (gCX6 _ _ _ _ _) rfl (A_23 hw) rfl ⟨le_t rfl, le_t rfl⟩ ⟨le_t rfl, le_t rfl⟩ rfl (le_t rfl) fun μ155 T156 F157 h158 => ?_
  obtain ⟨z159, z161, q160, q162, h163⟩ := h158
  have h164 : (0 ≤ z159 ∧ z159 ≤ 1000) := by rw [← q160]; exact T156 23 23 (A_23 hw) 9
  have h165 : (0 ≤ z161 ∧ z161 ≤ 4) := by rw [← q162]; exact T156 23 23 (A_23 hw) 18
  have q166 : μ155 23 9 = f_end := q160.trans h163.1
  have h167 : 1 ≤ z161 ∧ z161 ≤ 4 := (vc_X12_next_128 h163.2.1 h165)
  refine mr_iload_n (pc := 25) (z := p1) dX6_oneOf_25 rfl rfl ?_
  exact mr_iret dX6_oneOf_26 rfl (le_t rfl) (le_t rfl) T156 (mF.call mF.refl F157 rfl) ⟨f_end, z161, q166, q162, hp1, (vc_X6_oneOf_g_21 hq0 hq2 (cgr q126 q_f_te) h163.1 hq1 h128 h144 ht_f_at ht_f_end ht_f_ft h1 hp1 hp2 h154 h164), (vc_X6_oneOf_g_22 hq0 hq2 (cgr q126 q_f_te) h163.1 hq1 h128 h144 ht_f_at ht_f_end ht_f_ft h1 hp1 hp2 h154 h164), (vc_X6_oneOf_g_23 hq2 h163.2.1 hq0 (cgr q126 q_f_te) h163.1 ht_f_at ht_f_end ht_f_ft h1 h154 h164 h167), (vc_X6_oneOf_g_24 hq0 hq2 (cgr q126 q_f_te) h163.1 h163.2.1 hq1 h128 h144 ht_f_at ht_f_end ht_f_ft h1 hp1 hp2 h154 h164 h167), (vc_X6_oneOf_g_25 hq0 hq2 (cgr q126 q_f_te) h163.1 h163.2.1 hq1 h128 h144 ht_f_at ht_f_end ht_f_ft h1 hp1 hp2 h154 h164 h167), trivial⟩
theorem vc_X6_relation_g_2 {f_at f_end f_te z131 : Int} (h0 : z131 = 1060) (h1 : (f_at = f_end → z131 = f_te)) (h2 : 0 ≤ f_at ∧ f_at ≤ 1000) (h3 : 0 ≤ f_end ∧ f_end ≤ 1000) (h4 : (-1) ≤ f_te ∧ f_te ≤ (-1)) (h5 : (-2147483648) ≤ z131 ∧ z131 ≤ 2147483647) : 1060 ≤ z131 ∧ z131 ≤ 1060 := by omega
theorem vc_X6_relation_g_3 {f_at f_end f_ft f_te z131 : Int} (h0 : f_at ≤ f_end) (h1 : f_ft = 0 ∨ f_at = f_end) (h2 : (f_at = f_end → z131 = f_te)) (h3 : f_te = -1) (h4 : z131 = 1060) (h5 : 0 ≤ f_at ∧ f_at ≤ 1000) (h6 : 0 ≤ f_end ∧ f_end ≤ 1000) (h7 : 0 ≤ f_ft ∧ f_ft ≤ 4) (h8 : (-1) ≤ f_te ∧ f_te ≤ (-1)) (h9 : 1060 ≤ z131 ∧ z131 ≤ 1060) : f_at ≤ f_end := by omega
theorem vc_X6_relation_g_4 {f_at f_end f_ft f_te z131 z140 : Int} (h0 : f_at ≤ f_end) (h1 : f_ft = 0 ∨ f_at = f_end) (h2 : (f_at = f_end → z131 = f_te)) (h3 : z140 ≤ f_end) (h4 : f_at ≤ z140) (h5 : f_at < f_end → f_at + 1 ≤ z140) (h6 : f_te = -1) (h7 : z131 = 1060) (h8 : 0 ≤ f_at ∧ f_at ≤ 1000) (h9 : 0 ≤ f_end ∧ f_end ≤ 1000) (h10 : 0 ≤ f_ft ∧ f_ft ≤ 4) (h11 : (-1) ≤ f_te ∧ f_te ≤ (-1)) (h12 : 1060 ≤ z131 ∧ z131 ≤ 1060) (h13 : 0 ≤ z140 ∧ z140 ≤ 1000) : z140 ≤ f_end := by omega
theorem vc_X6_relation_g_5 {f_at f_end f_ft f_te z131 z140 : Int} (h0 : f_at ≤ f_end) (h1 : f_ft = 0 ∨ f_at = f_end) (h2 : (f_at = f_end → z131 = f_te)) (h3 : z140 ≤ f_end) (h4 : f_at ≤ z140) (h5 : f_at < f_end → f_at + 1 ≤ z140) (h6 : f_te = -1) (h7 : z131 = 1060) (h8 : 0 ≤ f_at ∧ f_at ≤ 1000) (h9 : 0 ≤ f_end ∧ f_end ≤ 1000) (h10 : 0 ≤ f_ft ∧ f_ft ≤ 4) (h11 : (-1) ≤ f_te ∧ f_te ≤ (-1)) (h12 : 1060 ≤ z131 ∧ z131 ≤ 1060) (h13 : 0 ≤ z140 ∧ z140 ≤ 1000) : f_at ≤ z140 := by omega
theorem vc_X6_relation_g_6 {f_at f_end f_ft f_te z131 z140 : Int} (h0 : f_ft = 0 ∨ f_at = f_end) (h1 : f_at ≤ f_end) (h2 : (f_at = f_end → z131 = f_te)) (h3 : z140 ≤ f_end) (h4 : f_at ≤ z140) (h5 : f_at < f_end → f_at + 1 ≤ z140) (h6 : 0 ≤ f_at ∧ f_at ≤ 1000) (h7 : 0 ≤ f_end ∧ f_end ≤ 1000) (h8 : 0 ≤ f_ft ∧ f_ft ≤ 4) (h9 : (-1) ≤ f_te ∧ f_te ≤ (-1)) (h10 : 1060 ≤ z131 ∧ z131 ≤ 1060) (h11 : 0 ≤ z140 ∧ z140 ≤ 1000) : f_ft = 0 ∨ 1 ≤ f_ft := by omega
theorem vc_X6_relation_g_7 {f_at f_end f_ft f_te z131 z140 : Int} (h0 : f_at ≤ f_end) (h1 : f_ft = 0 ∨ f_at = f_end) (h2 : (f_at = f_end → z131 = f_te)) (h3 : z140 ≤ f_end) (h4 : f_at ≤ z140) (h5 : f_at < f_end → f_at + 1 ≤ z140) (h6 : f_te = -1) (h7 : z131 = 1060) (h8 : 0 ≤ f_at ∧ f_at ≤ 1000) (h9 : 0 ≤ f_end ∧ f_end ≤ 1000) (h10 : 0 ≤ f_ft ∧ f_ft ≤ 4) (h11 : (-1) ≤ f_te ∧ f_te ≤ (-1)) (h12 : 1060 ≤ z131 ∧ z131 ≤ 1060) (h13 : 0 ≤ z140 ∧ z140 ≤ 1000) : f_ft = 0 ∨ z140 = f_end := by omega
theorem vc_X6_relation_g_8 {f_at f_end f_ft f_te z131 z140 : Int} (h0 : f_at ≤ f_end) (h1 : f_ft = 0 ∨ f_at = f_end) (h2 : (f_at = f_end → z131 = f_te)) (h3 : z140 ≤ f_end) (h4 : f_at ≤ z140) (h5 : f_at < f_end → f_at + 1 ≤ z140) (h6 : f_te = -1) (h7 : z131 = 1060) (h8 : 0 ≤ f_at ∧ f_at ≤ 1000) (h9 : 0 ≤ f_end ∧ f_end ≤ 1000) (h10 : 0 ≤ f_ft ∧ f_ft ≤ 4) (h11 : (-1) ≤ f_te ∧ f_te ≤ (-1)) (h12 : 1060 ≤ z131 ∧ z131 ≤ 1060) (h13 : 0 ≤ z140 ∧ z140 ≤ 1000) : f_ft = 0 → f_at + 1 ≤ z140 := by omega
theorem vc_X6_relation_g_9 {f_at f_end f_te z131 : Int} (h0 : z131 = 1061) (h1 : (f_at = f_end → z131 = f_te)) (h2 : ¬ z131 = 1060) (h3 : 0 ≤ f_at ∧ f_at ≤ 1000) (h4 : 0 ≤ f_end ∧ f_end ≤ 1000) (h5 : (-1) ≤ f_te ∧ f_te ≤ (-1)) (h6 : (-2147483648) ≤ z131 ∧ z131 ≤ 2147483647) : 1061 ≤ z131 ∧ z131 ≤ 1061 := by omega
theorem vc_X6_relation_g_10 {f_at f_end f_ft f_te z131 : Int} (h0 : f_at ≤ f_end) (h1 : f_ft = 0 ∨ f_at = f_end) (h2 : (f_at = f_end → z131 = f_te)) (h3 : f_te = -1) (h4 : ¬ z131 = 1060) (h5 : z131 = 1061) (h6 : 0 ≤ f_at ∧ f_at ≤ 1000) (h7 : 0 ≤ f_end ∧ f_end ≤ 1000) (h8 : 0 ≤ f_ft ∧ f_ft ≤ 4) (h9 : (-1) ≤ f_te ∧ f_te ≤ (-1)) (h10 : 1061 ≤ z131 ∧ z131 ≤ 1061) : f_at ≤ f_end := by omega
theorem vc_X6_relation_g_11 {f_at f_end f_ft f_te z131 z150 : Int} (h0 : f_at ≤ f_end) (h1 : f_ft = 0 ∨ f_at = f_end) (h2 : (f_at = f_end → z131 = f_te)) (h3 : z150 ≤ f_end) (h4 : f_at ≤ z150) (h5 : f_at < f_end → f_at + 1 ≤ z150) (h6 : f_te = -1) (h7 : ¬ z131 = 1060) (h8 : z131 = 1061) (h9 : 0 ≤ f_at ∧ f_at ≤ 1000) (h10 : 0 ≤ f_end ∧ f_end ≤ 1000) (h11 : 0 ≤ f_ft ∧ f_ft ≤ 4) (h12 : (-1) ≤ f_te ∧ f_te ≤ (-1)) (h13 : 1061 ≤ z131 ∧ z131 ≤ 1061) (h14 : 0 ≤ z150 ∧ z150 ≤ 1000) : z150 ≤ f_end := by omega
theorem vc_X6_relation_g_12 {f_at f_end f_ft f_te z131 z150 : Int} (h0 : f_at ≤ f_end) (h1 : f_ft = 0 ∨ f_at = f_end) (h2 : (f_at = f_end → z131 = f_te)) (h3 : z150 ≤ f_end) (h4 : f_at ≤ z150) (h5 : f_at < f_end → f_at + 1 ≤ z150) (h6 : f_te = -1) (h7 : ¬ z131 = 1060) (h8 : z131 = 1061) (h9 : 0 ≤ f_at ∧ f_at ≤ 1000) (h10 : 0 ≤ f_end ∧ f_end ≤ 1000) (h11 : 0 ≤ f_ft ∧ f_ft ≤ 4) (h12 : (-1) ≤ f_te ∧ f_te ≤ (-1)) (h13 : 1061 ≤ z131 ∧ z131 ≤ 1061) (h14 : 0 ≤ z150 ∧ z150 ≤ 1000) : f_at ≤ z150 := by omega
theorem vc_X6_relation_g_13 {f_at f_end f_ft f_te z131 z150 : Int} (h0 : f_ft = 0 ∨ f_at = f_end) (h1 : f_at ≤ f_end) (h2 : (f_at = f_end → z131 = f_te)) (h3 : z150 ≤ f_end) (h4 : f_at ≤ z150) (h5 : f_at < f_end → f_at + 1 ≤ z150) (h6 : 0 ≤ f_at ∧ f_at ≤ 1000) (h7 : 0 ≤ f_end ∧ f_end ≤ 1000) (h8 : 0 ≤ f_ft ∧ f_ft ≤ 4) (h9 : (-1) ≤ f_te ∧ f_te ≤ (-1)) (h10 : 1061 ≤ z131 ∧ z131 ≤ 1061) (h11 : 0 ≤ z150 ∧ z150 ≤ 1000) : f_ft = 0 ∨ 1 ≤ f_ft := by omega
theorem vc_X6_relation_g_14 {f_at f_end f_ft f_te z131 z150 : Int} (h0 : f_at ≤ f_end) (h1 : f_ft = 0 ∨ f_at = f_end) (h2 : (f_at = f_end → z131 = f_te)) (h3 : z150 ≤ f_end) (h4 : f_at ≤ z150) (h5 : f_at < f_end → f_at + 1 ≤ z150) (h6 : f_te = -1) (h7 : ¬ z131 = 1060) (h8 : z131 = 1061) (h9 : 0 ≤ f_at ∧ f_at ≤ 1000) (h10 : 0 ≤ f_end ∧ f_end ≤ 1000) (h11 : 0 ≤ f_ft ∧ f_ft ≤ 4) (h12 : (-1) ≤ f_te ∧ f_te ≤ (-1)) (h13 : 1061 ≤ z131 ∧ z131 ≤ 1061) (h14 : 0 ≤ z150 ∧ z150 ≤ 1000) : f_ft = 0 ∨ z150 = f_end := by omega
theorem vc_X6_relation_g_15 {f_at f_end f_ft f_te z131 z150 : Int} (h0 : f_at ≤ f_end) (h1 : f_ft = 0 ∨ f_at = f_end) (h2 : (f_at = f_end → z131 = f_te)) (h3 : z150 ≤ f_end) (h4 : f_at ≤ z150) (h5 : f_at < f_end → f_at + 1 ≤ z150) (h6 : f_te = -1) (h7 : ¬ z131 = 1060) (h8 : z131 = 1061) (h9 : 0 ≤ f_at ∧ f_at ≤ 1000) (h10 : 0 ≤ f_end ∧ f_end ≤ 1000) (h11 : 0 ≤ f_ft ∧ f_ft ≤ 4) (h12 : (-1) ≤ f_te ∧ f_te ≤ (-1)) (h13 : 1061 ≤ z131 ∧ z131 ≤ 1061) (h14 : 0 ≤ z150 ∧ z150 ≤ 1000) : f_ft = 0 → f_at + 1 ≤ z150 := by omega
theorem vc_X6_relation_g_16 {f_at f_end f_te z131 : Int} (h0 : z131 = 1062) (h1 : (f_at = f_end → z131 = f_te)) (h2 : ¬ z131 = 1060) (h3 : ¬ z131 = 1061) (h4 : 0 ≤ f_at ∧ f_at ≤ 1000) (h5 : 0 ≤ f_end ∧ f_end ≤ 1000) (h6 : (-1) ≤ f_te ∧ f_te ≤ (-1)) (h7 : (-2147483648) ≤ z131 ∧ z131 ≤ 2147483647) : 1062 ≤ z131 ∧ z131 ≤ 1062 := by omega
theorem vc_X6_relation_g_17 {f_at f_end f_ft f_te z131 : Int} (h0 : f_at ≤ f_end) (h1 : f_ft = 0 ∨ f_at = f_end) (h2 : (f_at = f_end → z131 = f_te)) (h3 : f_te = -1) (h4 : ¬ z131 = 1060) (h5 : ¬ z131 = 1061) (h6 : z131 = 1062) (h7 : 0 ≤ f_at ∧ f_at ≤ 1000) (h8 : 0 ≤ f_end ∧ f_end ≤ 1000) (h9 : 0 ≤ f_ft ∧ f_ft ≤ 4) (h10 : (-1) ≤ f_te ∧ f_te ≤ (-1)) (h11 : 1062 ≤ z131 ∧ z131 ≤ 1062) : f_at ≤ f_end := by omega
theorem vc_X6_relation_g_18 {f_at f_end f_ft f_te z131 z160 : Int} (h0 : f_at ≤ f_end) (h1 : f_ft = 0 ∨ f_at = f_end) (h2 : (f_at = f_end → z131 = f_te)) (h3 : z160 ≤ f_end) (h4 : f_at ≤ z160) (h5 : f_at < f_end → f_at + 1 ≤ z160) (h6 : f_te = -1) (h7 : ¬ z131 = 1060) (h8 : ¬ z131 = 1061) (h9 : z131 = 1062) (h10 : 0 ≤ f_at ∧ f_at ≤ 1000) (h11 : 0 ≤ f_end ∧ f_end ≤ 1000) (h12 : 0 ≤ f_ft ∧ f_ft ≤ 4) (h13 : (-1) ≤ f_te ∧ f_te ≤ (-1)) (h14 : 1062 ≤ z131 ∧ z131 ≤ 1062) (h15 : 0 ≤ z160 ∧ z160 ≤ 1000) : z160 ≤ f_end := by omega
theorem vc_X6_relation_g_19 {f_at f_end f_ft f_te z131 z160 : Int} (h0 : f_at ≤ f_end) (h1 : f_ft = 0 ∨ f_at = f_end) (h2 : (f_at = f_end → z131 = f_te)) (h3 : z160 ≤ f_end) (h4 : f_at ≤ z160) (h5 : f_at < f_end → f_at + 1 ≤ z160) (h6 : f_te = -1) (h7 : ¬ z131 = 1060) (h8 : ¬ z131 = 1061) (h9 : z131 = 1062) (h10 : 0 ≤ f_at ∧ f_at ≤ 1000) (h11 : 0 ≤ f_end ∧ f_end ≤ 1000) (h12 : 0 ≤ f_ft ∧ f_ft ≤ 4) (h13 : (-1) ≤ f_te ∧ f_te ≤ (-1)) (h14 : 1062 ≤ z131 ∧ z131 ≤ 1062) (h15 : 0 ≤ z160 ∧ z160 ≤ 1000) : f_at ≤ z160 := by omega
theorem vc_X6_relation_g_20 {f_at f_end f_ft f_te z131 z160 : Int} (h0 : f_ft = 0 ∨ f_at = f_end) (h1 : f_at ≤ f_end) (h2 : (f_at = f_end → z131 = f_te)) (h3 : z160 ≤ f_end) (h4 : f_at ≤ z160) (h5 : f_at < f_end → f_at + 1 ≤ z160) (h6 : 0 ≤ f_at ∧ f_at ≤ 1000) (h7 : 0 ≤ f_end ∧ f_end ≤ 1000) (h8 : 0 ≤ f_ft ∧ f_ft ≤ 4) (h9 : (-1) ≤ f_te ∧ f_te ≤ (-1)) (h10 : 1062 ≤ z131 ∧ z131 ≤ 1062) (h11 : 0 ≤ z160 ∧ z160 ≤ 1000) : f_ft = 0 ∨ 1 ≤ f_ft := by omega
theorem vc_X6_relation_g_21 {f_at f_end f_ft f_te z131 z160 : Int} (h0 : f_at ≤ f_end) (h1 : f_ft = 0 ∨ f_at = f_end) (h2 : (f_at = f_end → z131 = f_te)) (h3 : z160 ≤ f_end) (h4 : f_at ≤ z160) (h5 : f_at < f_end → f_at + 1 ≤ z160) (h6 : f_te = -1) (h7 : ¬ z131 = 1060) (h8 : ¬ z131 = 1061) (h9 : z131 = 1062) (h10 : 0 ≤ f_at ∧ f_at ≤ 1000) (h11 : 0 ≤ f_end ∧ f_end ≤ 1000) (h12 : 0 ≤ f_ft ∧ f_ft ≤ 4) (h13 : (-1) ≤ f_te ∧ f_te ≤ (-1)) (h14 : 1062 ≤ z131 ∧ z131 ≤ 1062) (h15 : 0 ≤ z160 ∧ z160 ≤ 1000) : f_ft = 0 ∨ z160 = f_end := by omega
theorem vc_X6_relation_g_22 {f_at f_end f_ft f_te z131 z160 : Int} (h0 : f_at ≤ f_end) (h1 : f_ft = 0 ∨ f_at = f_end) (h2 : (f_at = f_end → z131 = f_te)) (h3 : z160 ≤ f_end) (h4 : f_at ≤ z160) (h5 : f_at < f_end → f_at + 1 ≤ z160) (h6 : f_te = -1) (h7 : ¬ z131 = 1060) (h8 : ¬ z131 = 1061) (h9 : z131 = 1062) (h10 : 0 ≤ f_at ∧ f_at ≤ 1000) (h11 : 0 ≤ f_end ∧ f_end ≤ 1000) (h12 : 0 ≤ f_ft ∧ f_ft ≤ 4) (h13 : (-1) ≤ f_te ∧ f_te ≤ (-1)) (h14 : 1062 ≤ z131 ∧ z131 ≤ 1062) (h15 : 0 ≤ z160 ∧ z160 ≤ 1000) : f_ft = 0 → f_at + 1 ≤ z160 := by omega
theorem vc_X6_relation_g_23 {f_at f_end f_ft f_te z131 : Int} (h0 : f_at ≤ f_end) (h1 : f_ft = 0 ∨ f_at = f_end) (h2 : (f_at = f_end → z131 = f_te)) (h3 : f_te = -1) (h4 : ¬ z131 = 1060) (h5 : ¬ z131 = 1061) (h6 : ¬ z131 = 1062) (h7 : 0 ≤ f_at ∧ f_at ≤ 1000) (h8 : 0 ≤ f_end ∧ f_end ≤ 1000) (h9 : 0 ≤ f_ft ∧ f_ft ≤ 4) (h10 : (-1) ≤ f_te ∧ f_te ≤ (-1)) (h11 : (-2147483648) ≤ z131 ∧ z131 ≤ 2147483647) : f_at ≤ f_end := by omega
theorem vc_X6_relation_g_25 {f_at f_end f_ft f_te z131 z168 : Int} (h0 : f_at ≤ f_end) (h1 : f_ft = 0 ∨ f_at = f_end) (h2 : (f_at = f_end → z131 = f_te)) (h3 : z168 = f_end) (h4 : f_te = -1) (h5 : ¬ z131 = 1060) (h6 : ¬ z131 = 1061) (h7 : ¬ z131 = 1062) (h8 : 0 ≤ f_at ∧ f_at ≤ 1000) (h9 : 0 ≤ f_end ∧ f_end ≤ 1000) (h10 : 0 ≤ f_ft ∧ f_ft ≤ 4) (h11 : (-1) ≤ f_te ∧ f_te ≤ (-1)) (h12 : (-2147483648) ≤ z131 ∧ z131 ≤ 2147483647) (h13 : 0 ≤ z168 ∧ z168 ≤ 1000) : f_end ≤ f_end := by omega
theorem vc_X6_relation_g_26 {f_at f_end f_ft f_te z131 z168 : Int} (h0 : f_at ≤ f_end) (h1 : f_ft = 0 ∨ f_at = f_end) (h2 : (f_at = f_end → z131 = f_te)) (h3 : z168 = f_end) (h4 : f_te = -1) (h5 : ¬ z131 = 1060) (h6 : ¬ z131 = 1061) (h7 : ¬ z131 = 1062) (h8 : 0 ≤ f_at ∧ f_at ≤ 1000) (h9 : 0 ≤ f_end ∧ f_end ≤ 1000) (h10 : 0 ≤ f_ft ∧ f_ft ≤ 4) (h11 : (-1) ≤ f_te ∧ f_te ≤ (-1)) (h12 : (-2147483648) ≤ z131 ∧ z131 ≤ 2147483647) (h13 : 0 ≤ z168 ∧ z168 ≤ 1000) : f_at ≤ f_end := by omega
theorem vc_X6_relation_g_28 {f_at f_end f_ft f_te z131 z168 z170 : Int} (h0 : f_at ≤ f_end) (h1 : f_ft = 0 ∨ f_at = f_end) (h2 : (f_at = f_end → z131 = f_te)) (h3 : z168 = f_end) (h4 : 1 ≤ z170) (h5 : f_te = -1) (h6 : ¬ z131 = 1060) (h7 : ¬ z131 = 1061) (h8 : ¬ z131 = 1062) (h9 : 0 ≤ f_at ∧ f_at ≤ 1000) (h10 : 0 ≤ f_end ∧ f_end ≤ 1000) (h11 : 0 ≤ f_ft ∧ f_ft ≤ 4) (h12 : (-1) ≤ f_te ∧ f_te ≤ (-1)) (h13 : (-2147483648) ≤ z131 ∧ z131 ≤ 2147483647) (h14 : 0 ≤ z168 ∧ z168 ≤ 1000) (h15 : 1 ≤ z170 ∧ z170 ≤ 4) : z170 = 0 ∨ f_end = f_end := by omega
theorem vc_X6_relation_g_29 {f_at f_end f_ft f_te z131 z168 z170 : Int} (h0 : f_at ≤ f_end) (h1 : f_ft = 0 ∨ f_at = f_end) (h2 : (f_at = f_end → z131 = f_te)) (h3 : z168 = f_end) (h4 : 1 ≤ z170) (h5 : f_te = -1) (h6 : ¬ z131 = 1060) (h7 : ¬ z131 = 1061) (h8 : ¬ z131 = 1062) (h9 : 0 ≤ f_at ∧ f_at ≤ 1000) (h10 : 0 ≤ f_end ∧ f_end ≤ 1000) (h11 : 0 ≤ f_ft ∧ f_ft ≤ 4) (h12 : (-1) ≤ f_te ∧ f_te ≤ (-1)) (h13 : (-2147483648) ≤ z131 ∧ z131 ≤ 2147483647) (h14 : 0 ≤ z168 ∧ z168 ≤ 1000) (h15 : 1 ≤ z170 ∧ z170 ≤ 4) : z170 = 0 → f_at + 1 ≤ f_end := by omega
set_option maxRecDepth 4000 in
set_option maxHeartbeats 4000000 in
theorem c_X6_relation_g {l : Launch} {D : va_G} {c : Nat → ClassId} {H0 : Heap} {sa : Nat × Nat × (Nat → Int32)} {w : mW} {μ : mM} (hw : mWF w) (hT : mT w μ) {f_at : Int} (q_f_at : μ 23 9 = f_at) {f_end : Int} (q_f_end : μ 23 8 = f_end) {f_ft : Int} (q_f_ft : μ 23 18 = f_ft) {f_te : Int} (q_f_te : μ 24 (f_end.toNat) = f_te) (hq0 : f_at ≤ f_end) (hq1 : f_te = -1) (hq2 : f_ft = 0 ∨ f_at = f_end) : sC (gG l D c H0 sa) mX6_relation 2 0 0 [.ref 23] (mk w μ) (qI w [23009, 23018, 23019] μ (fun z μ1 => ∃ o_at o_ft : Int, μ1 23 9 = o_at ∧ μ1 23 18 = o_ft ∧ (0 ≤ z ∧ z ≤ 2) ∧ (o_at ≤ f_end) ∧ (f_at ≤ o_at) ∧ (f_ft = 0 ∨ 1 ≤ o_ft) ∧ (o_ft = 0 ∨ o_at = f_end) ∧ (o_ft = 0 → f_at + 1 ≤ o_at) ∧ True)) := by
  refine sC.of rfl (by decide) (le_t rfl) ?_
  have ht_f_at : (0 ≤ f_at ∧ f_at ≤ 1000) := by rw [← q_f_at]; exact hT 23 23 (A_23 hw) 9
  have ht_f_end : (0 ≤ f_end ∧ f_end ≤ 1000) := by rw [← q_f_end]; exact hT 23 23 (A_23 hw) 8
  have ht_f_ft : (0 ≤ f_ft ∧ f_ft ≤ 4) := by rw [← q_f_ft]; exact hT 23 23 (A_23 hw) 18
  have ht_f_te : ((-2147483648) ≤ f_te ∧ f_te ≤ 2147483647) := by rw [← q_f_te]; exact hT 24 24 (A_24 hw) (f_end.toNat)
  have h1 : (-1) ≤ f_te ∧ f_te ≤ (-1) := (vc_X6_take_g_1 hq1 ht_f_te)
  refine mr_lvE (lv' := [(0, .ref 23)]) rfl ?_
  refine sv_aload_n (pc := 0) dX6_relation_0 rfl rfl ?_
  refine gf_X6_0 (pc := 1) dX6_relation_1 wF_X6_9 (A_23 hw) hT ?_
  refine sv_aload_n (pc := 4) dX6_relation_4 rfl rfl ?_
  refine gk_X6_9 (pc := 5) dX6_relation_5 wF_X6_63 (A_23 hw) q_f_at ?_
  refine la_24 (pc := 8) dX6_relation_8 (A_24 hw) hT (rIx (n := 1001) ht_f_at rfl) fun z131 q132 h133 => ?_
  refine mr_istore_n (pc := 9) (lv' := [(1, iv z131), (0, .ref 23)]) dX6_relation_9 rfl (by decide) rfl ?_
  refine mr_iload_n (pc := 10) (z := z131) dX6_relation_10 rfl rfl ?_
  refine mr_sipush (pc := 11) (z := 1060) dX6_relation_11 (by decide) ?_
  refine mr_icmp_eq (pc := 14) (tgt := 38) dX6_relation_14 (by decide) h133 (r32 (rR (x := 1060)) rfl) (fun h134 => ?_) (fun h134 => ?_)
  · have h135 : 1060 ≤ z131 ∧ z131 ≤ 1060 := (vc_X6_relation_g_2 h134 (cgr q132 q_f_te) ht_f_at ht_f_end h1 h133)
    refine sv_aload_n (pc := 38) dX6_relation_38 rfl rfl ?_
    refine mr_cVV (pc := 39) (c_X6_step_g hw hT q_f_at q_f_end (vc_X6_relation_g_3 hq0 hq2 (cgr q132 q_f_te) hq1 h134 ht_f_at ht_f_end ht_f_ft h1 h135)) (gOk _ _ _ _ _) dX6_relation_39 (tX6_step _ _ _ _ _) ⟨wV_X6_step, wL_X6_step⟩ wM_X6_117 (gCX6 _ _ _ _ _) rfl (A_23 hw) rfl ⟨le_t rfl, le_t rfl⟩ ⟨le_t rfl, le_t rfl⟩ rfl (le_t rfl) fun μ136 T137 F138 h139 => ?_
    obtain ⟨z140, q141, h142⟩ := h139
    have h143 : (0 ≤ z140 ∧ z140 ≤ 1000) := by rw [← q141]; exact T137 23 23 (A_23 hw) 9
    refine mr_iload_n (pc := 42) (z := z131) dX6_relation_42 rfl rfl ?_
    refine mr_sipush (pc := 43) (z := 1000) dX6_relation_43 (by decide) ?_
    refine mr_isub (pc := 46) (x := z131) (y := 1000) dX6_relation_46 ?_
    refine mr_bipush (pc := 47) (z := 60) dX6_relation_47 (by decide) ?_
    refine mr_isub (pc := 49) (x := (z131 - 1000)) (y := 60) dX6_relation_49 ?_
    exact mr_iret dX6_relation_50 rfl (le_t rfl) (le_t rfl) T137 (mF.call mF.refl F138 rfl) ⟨z140, f_ft, q141, (F138.f (A_23 hw) rfl q_f_ft), (rW (c := 0) (d := 2) (rSub (e := 0) (f := 0) (rSub (e := 60) (f := 60) h135 (rR (x := 1000)) rfl) (rR (x := 60)) rfl) rfl), (vc_X6_relation_g_4 hq0 hq2 (cgr q132 q_f_te) h142.1 h142.2.1 h142.2.2.1 hq1 h134 ht_f_at ht_f_end ht_f_ft h1 h135 h143), (vc_X6_relation_g_5 hq0 hq2 (cgr q132 q_f_te) h142.1 h142.2.1 h142.2.2.1 hq1 h134 ht_f_at ht_f_end ht_f_ft h1 h135 h143), (vc_X6_relation_g_6 hq2 hq0 (cgr q132 q_f_te) h142.1 h142.2.1 h142.2.2.1 ht_f_at ht_f_end ht_f_ft h1 h135 h143), (vc_X6_relation_g_7 hq0 hq2 (cgr q132 q_f_te) h142.1 h142.2.1 h142.2.2.1 hq1 h134 ht_f_at ht_f_end ht_f_ft h1 h135 h143), (vc_X6_relation_g_8 hq0 hq2 (cgr q132 q_f_te) h142.1 h142.2.1 h142.2.2.1 hq1 h134 ht_f_at ht_f_end ht_f_ft h1 h135 h143), trivial⟩
  refine mr_iload_n (pc := 17) (z := z131) dX6_relation_17 rfl rfl ?_
  refine mr_sipush (pc := 18) (z := 1061) dX6_relation_18 (by decide) ?_
  refine mr_icmp_eq (pc := 21) (tgt := 38) dX6_relation_21 (by decide) h133 (r32 (rR (x := 1061)) rfl) (fun h144 => ?_) (fun h144 => ?_)
  · have h145 : 1061 ≤ z131 ∧ z131 ≤ 1061 := (vc_X6_relation_g_9 h144 (cgr q132 q_f_te) h134 ht_f_at ht_f_end h1 h133)
    refine sv_aload_n (pc := 38) dX6_relation_38 rfl rfl ?_
    refine mr_cVV (pc := 39) (c_X6_step_g hw hT q_f_at q_f_end (vc_X6_relation_g_10 hq0 hq2 (cgr q132 q_f_te) hq1 h134 h144 ht_f_at ht_f_end ht_f_ft h1 h145)) (gOk _ _ _ _ _) dX6_relation_39 (tX6_step _ _ _ _ _) ⟨wV_X6_step, wL_X6_step⟩ wM_X6_117 (gCX6 _ _ _ _ _) rfl (A_23 hw) rfl ⟨le_t rfl, le_t rfl⟩ ⟨le_t rfl, le_t rfl⟩ rfl (le_t rfl) fun μ146 T147 F148 h149 => ?_
    obtain ⟨z150, q151, h152⟩ := h149
    have h153 : (0 ≤ z150 ∧ z150 ≤ 1000) := by rw [← q151]; exact T147 23 23 (A_23 hw) 9
    refine mr_iload_n (pc := 42) (z := z131) dX6_relation_42 rfl rfl ?_
    refine mr_sipush (pc := 43) (z := 1000) dX6_relation_43 (by decide) ?_
    refine mr_isub (pc := 46) (x := z131) (y := 1000) dX6_relation_46 ?_
    refine mr_bipush (pc := 47) (z := 60) dX6_relation_47 (by decide) ?_
    refine mr_isub (pc := 49) (x := (z131 - 1000)) (y := 60) dX6_relation_49 ?_
    exact mr_iret dX6_relation_50 rfl (le_t rfl) (le_t rfl) T147 (mF.call mF.refl F148 rfl) ⟨z150, f_ft, q151, (F148.f (A_23 hw) rfl q_f_ft), (rW (c := 0) (d := 2) (rSub (e := 1) (f := 1) (rSub (e := 61) (f := 61) h145 (rR (x := 1000)) rfl) (rR (x := 60)) rfl) rfl), (vc_X6_relation_g_11 hq0 hq2 (cgr q132 q_f_te) h152.1 h152.2.1 h152.2.2.1 hq1 h134 h144 ht_f_at ht_f_end ht_f_ft h1 h145 h153), (vc_X6_relation_g_12 hq0 hq2 (cgr q132 q_f_te) h152.1 h152.2.1 h152.2.2.1 hq1 h134 h144 ht_f_at ht_f_end ht_f_ft h1 h145 h153), (vc_X6_relation_g_13 hq2 hq0 (cgr q132 q_f_te) h152.1 h152.2.1 h152.2.2.1 ht_f_at ht_f_end ht_f_ft h1 h145 h153), (vc_X6_relation_g_14 hq0 hq2 (cgr q132 q_f_te) h152.1 h152.2.1 h152.2.2.1 hq1 h134 h144 ht_f_at ht_f_end ht_f_ft h1 h145 h153), (vc_X6_relation_g_15 hq0 hq2 (cgr q132 q_f_te) h152.1 h152.2.1 h152.2.2.1 hq1 h134 h144 ht_f_at ht_f_end ht_f_ft h1 h145 h153), trivial⟩
  refine mr_iload_n (pc := 24) (z := z131) dX6_relation_24 rfl rfl ?_
  refine mr_sipush (pc := 25) (z := 1062) dX6_relation_25 (by decide) ?_
  refine mr_icmp_eq (pc := 28) (tgt := 38) dX6_relation_28 (by decide) h133 (r32 (rR (x := 1062)) rfl) (fun h154 => ?_) (fun h154 => ?_)
  · have h155 : 1062 ≤ z131 ∧ z131 ≤ 1062 := (vc_X6_relation_g_16 h154 (cgr q132 q_f_te) h134 h144 ht_f_at ht_f_end h1 h133)
    refine sv_aload_n (pc := 38) dX6_relation_38 rfl rfl ?_
    refine mr_cVV (pc := 39) (c_X6_step_g hw hT q_f_at q_f_end (vc_X6_relation_g_17 hq0 hq2 (cgr q132 q_f_te) hq1 h134 h144 h154 ht_f_at ht_f_end ht_f_ft h1 h155)) (gOk _ _ _ _ _) dX6_relation_39 (tX6_step _ _ _ _ _) ⟨wV_X6_step, wL_X6_step⟩ wM_X6_117 (gCX6 _ _ _ _ _) rfl (A_23 hw) rfl ⟨le_t rfl, le_t rfl⟩ ⟨le_t rfl, le_t rfl⟩ rfl (le_t rfl) fun μ156 T157 F158 h159 => ?_
    obtain ⟨z160, q161, h162⟩ := h159
    have h163 : (0 ≤ z160 ∧ z160 ≤ 1000) := by rw [← q161]; exact T157 23 23 (A_23 hw) 9
    refine mr_iload_n (pc := 42) (z := z131) dX6_relation_42 rfl rfl ?_
    refine mr_sipush (pc := 43) (z := 1000) dX6_relation_43 (by decide) ?_
    refine mr_isub (pc := 46) (x := z131) (y := 1000) dX6_relation_46 ?_
    refine mr_bipush (pc := 47) (z := 60) dX6_relation_47 (by decide) ?_
    refine mr_isub (pc := 49) (x := (z131 - 1000)) (y := 60) dX6_relation_49 ?_
    exact mr_iret dX6_relation_50 rfl (le_t rfl) (le_t rfl) T157 (mF.call mF.refl F158 rfl) ⟨z160, f_ft, q161, (F158.f (A_23 hw) rfl q_f_ft), (rW (c := 0) (d := 2) (rSub (e := 2) (f := 2) (rSub (e := 62) (f := 62) h155 (rR (x := 1000)) rfl) (rR (x := 60)) rfl) rfl), (vc_X6_relation_g_18 hq0 hq2 (cgr q132 q_f_te) h162.1 h162.2.1 h162.2.2.1 hq1 h134 h144 h154 ht_f_at ht_f_end ht_f_ft h1 h155 h163), (vc_X6_relation_g_19 hq0 hq2 (cgr q132 q_f_te) h162.1 h162.2.1 h162.2.2.1 hq1 h134 h144 h154 ht_f_at ht_f_end ht_f_ft h1 h155 h163), (vc_X6_relation_g_20 hq2 hq0 (cgr q132 q_f_te) h162.1 h162.2.1 h162.2.2.1 ht_f_at ht_f_end ht_f_ft h1 h155 h163), (vc_X6_relation_g_21 hq0 hq2 (cgr q132 q_f_te) h162.1 h162.2.1 h162.2.2.1 hq1 h134 h144 h154 ht_f_at ht_f_end ht_f_ft h1 h155 h163), (vc_X6_relation_g_22 hq0 hq2 (cgr q132 q_f_te) h162.1 h162.2.1 h162.2.2.1 hq1 h134 h144 h154 ht_f_at ht_f_end ht_f_ft h1 h155 h163), trivial⟩
  refine sv_aload_n (pc := 31) dX6_relation_31 rfl rfl ?_
  refine mr_iconst (pc := 32) (z := 2) dX6_relation_32 ?_
  refine mr_cVV (pc := 33) (c_X6_fail_g hw hT (rW (c := 1) (d := 4) (rR (x := 2)) rfl) q_f_at q_f_end q_f_ft (vc_X6_relation_g_23 hq0 hq2 (cgr q132 q_f_te) hq1 h134 h144 h154 ht_f_at ht_f_end ht_f_ft h1 h133)) (gOk _ _ _ _ _) dX6_relation_33 (tX6_fail _ _ _ _ _) ⟨wV_X6_fail, wL_X6_fail⟩ wM_X6_123 (gCX6 _ _ _ _ _) rfl (A_23 hw) rfl ⟨le_t rfl, le_t rfl⟩ ⟨le_t rfl, le_t rfl⟩ rfl (le_t rfl) fun μ164 T165 F166 h167 => ?_
  obtain ⟨z168, z170, q169, q171, h172⟩ := h167
  have h173 : (0 ≤ z168 ∧ z168 ≤ 1000) := by rw [← q169]; exact T165 23 23 (A_23 hw) 9
  have h174 : (0 ≤ z170 ∧ z170 ≤ 4) := by rw [← q171]; exact T165 23 23 (A_23 hw) 18
  have q175 : μ164 23 9 = f_end := q169.trans h172.1
  have h176 : 1 ≤ z170 ∧ z170 ≤ 4 := (vc_X12_next_128 h172.2.1 h174)
  refine mr_iconst (pc := 36) (z := 0) dX6_relation_36 ?_
  exact mr_iret dX6_relation_37 rfl (le_t rfl) (le_t rfl) T165 (mF.call mF.refl F166 rfl) ⟨f_end, z170, q175, q171, (rW (c := 0) (d := 2) (rR (x := 0)) rfl), (vc_X6_relation_g_25 hq0 hq2 (cgr q132 q_f_te) h172.1 hq1 h134 h144 h154 ht_f_at ht_f_end ht_f_ft h1 h133 h173), (vc_X6_relation_g_26 hq0 hq2 (cgr q132 q_f_te) h172.1 hq1 h134 h144 h154 ht_f_at ht_f_end ht_f_ft h1 h133 h173), (vc_X6_number_g_30 hq2 h172.2.1 hq0 (cgr q132 q_f_te) h172.1 ht_f_at ht_f_end ht_f_ft h1 h133 h173 h176), (vc_X6_relation_g_28 hq0 hq2 (cgr q132 q_f_te) h172.1 h172.2.1 hq1 h134 h144 h154 ht_f_at ht_f_end ht_f_ft h1 h133 h173 h176), (vc_X6_relation_g_29 hq0 hq2 (cgr q132 q_f_te) h172.1 h172.2.1 hq1 h134 h144 h154 ht_f_at ht_f_end ht_f_ft h1 h133 h173 h176), trivial⟩
theorem vc_X6_put_g_1 {f_cs : Int} (h0 : 2000 ≤ f_cs) (h1 : 0 ≤ f_cs ∧ f_cs ≤ 2000) : 2000 ≤ f_cs ∧ f_cs ≤ 2000 := by omega
theorem vc_X6_put_g_2 {f_cs : Int} (h0 : 2000 ≤ f_cs) (h1 : 2000 ≤ f_cs ∧ f_cs ≤ 2000) : f_cs ≤ f_cs := by omega
theorem vc_X6_put_g_3 {f_cs : Int} (h0 : 2000 ≤ f_cs) (h1 : 2000 ≤ f_cs ∧ f_cs ≤ 2000) : 2000 ≤ f_cs ∨ f_cs = f_cs + 1 := by omega
theorem vc_X6_put_g_4 {f_cs : Int} (h0 : 2000 ≤ f_cs) (h1 : 2000 ≤ f_cs ∧ f_cs ≤ 2000) : 2000 ≤ f_cs := by omega
theorem vc_X6_put_g_5 {f_cs : Int} (h0 : f_cs < 2000) (h1 : 0 ≤ f_cs ∧ f_cs ≤ 2000) : 0 ≤ f_cs ∧ f_cs ≤ 1999 := by omega
theorem vc_X6_put_g_6 {f_cs : Int} (h0 : f_cs < 2000) (h1 : 0 ≤ f_cs ∧ f_cs ≤ 1999) : f_cs ≤ (f_cs + 1) := by omega
theorem vc_X6_put_g_7 {f_cs : Int} (h0 : f_cs < 2000) (h1 : 0 ≤ f_cs ∧ f_cs ≤ 1999) : 2000 ≤ f_cs ∨ (f_cs + 1) = f_cs + 1 := by omega
theorem vc_X6_put_g_8 {f_cs : Int} (h0 : f_cs < 2000) (h1 : 0 ≤ f_cs ∧ f_cs ≤ 1999) : 0 ≤ f_cs ∧ f_cs ≤ f_cs := by omega
set_option maxRecDepth 4000 in
set_option maxHeartbeats 4000000 in
theorem c_X6_put_g {l : Launch} {D : va_G} {c : Nat → ClassId} {H0 : Heap} {sa : Nat × Nat × (Nat → Int32)} {w : mW} {μ : mM} (hw : mWF w) (hT : mT w μ) {p1 : Int} (hp1 : (-2147483648) ≤ p1 ∧ p1 ≤ 2147483647) {f_cs : Int} (q_f_cs : μ 23 11 = f_cs) : sC (gG l D c H0 sa) mX6_put 1 0 0 [.ref 23, iv p1] (mk w μ) (qV w [23011, 27999] μ (fun μ1 => ∃ o_cs : Int, μ1 23 11 = o_cs ∧ (f_cs ≤ o_cs) ∧ (2000 ≤ f_cs ∨ o_cs = f_cs + 1) ∧ (preL μ f_cs μ1) ∧ (2000 ≤ f_cs ∨ μ1 27 f_cs.toNat = p1) ∧ True)) := by
  refine sC.of rfl (by decide) (le_t rfl) ?_
  have ht_f_cs : (0 ≤ f_cs ∧ f_cs ≤ 2000) := by rw [← q_f_cs]; exact hT 23 23 (A_23 hw) 11
  refine mr_lvE (lv' := [(0, .ref 23), (1, iv p1)]) rfl ?_
  refine sv_aload_n (pc := 0) dX6_put_0 rfl rfl ?_
  refine gk_X6_11 (pc := 1) dX6_put_1 wF_X6_47 (A_23 hw) q_f_cs ?_
  refine mr_sipush (pc := 4) (z := 2000) dX6_put_4 (by decide) ?_
  refine mr_icmp_ge (pc := 7) (tgt := 30) dX6_put_7 (by decide) (r32 ht_f_cs rfl) (r32 (rR (x := 2000)) rfl) (fun h33 => ?_) (fun h33 => ?_)
  · have h34 : 2000 ≤ f_cs ∧ f_cs ≤ 2000 := (vc_X6_put_g_1 h33 ht_f_cs)
    exact mr_vret dX6_put_30 rfl (le_t rfl) (le_t rfl) hT mF.refl ⟨f_cs, q_f_cs, (vc_X6_put_g_2 h33 h34), (vc_X6_put_g_3 h33 h34), preL.refl, (Or.inl (vc_X6_put_g_4 h33 h34)), trivial⟩
  have h35 : 0 ≤ f_cs ∧ f_cs ≤ 1999 := (vc_X6_put_g_5 h33 ht_f_cs)
  refine sv_aload_n (pc := 10) dX6_put_10 rfl rfl ?_
  refine gf_X6_3 (pc := 11) dX6_put_11 wF_X6_21 (A_23 hw) hT ?_
  refine sv_aload_n (pc := 14) dX6_put_14 rfl rfl ?_
  refine gk_X6_11 (pc := 15) dX6_put_15 wF_X6_47 (A_23 hw) q_f_cs ?_
  refine mr_iload_n (pc := 18) (z := p1) dX6_put_18 rfl rfl ?_
  refine ss_27 (pc := 19) dX6_put_19 (A_27 hw) hT (rIx (n := 2000) h35 rfl) hp1 fun μ36 u37 T38 => ?_
  refine sv_aload_n (pc := 20) dX6_put_20 rfl rfl ?_
  refine sv_dup (pc := 21) dX6_put_21 rfl ?_
  refine gk_X6_11 (pc := 22) dX6_put_22 wF_X6_47 (A_23 hw) (u37.f (Or.inl (mAt.ne (A_27 hw) (A_23 hw) rfl)) q_f_cs) ?_
  refine mr_iconst (pc := 25) (z := 1) dX6_put_25 ?_
  refine mr_iadd (pc := 26) (x := f_cs) (y := 1) dX6_put_26 ?_
  refine pf_X6_11 (pc := 27) dX6_put_27 wF_X6_47 (A_23 hw) T38 (rW (c := 0) (d := 2000) (rAdd (e := 1) (f := 2000) h35 (rR (x := 1)) rfl) rfl) fun μ39 u40 T41 => ?_
  exact mr_vret dX6_put_30 rfl (le_t rfl) (le_t rfl) T41 (mF.up (mF.up mF.refl (A_27 hw) u37 rfl) (A_23 hw) u40 rfl) ⟨(f_cs + 1), u40.1, (vc_X6_put_g_6 h33 h35), (vc_X6_put_g_7 h33 h35), (preL.upO (preL.up preL.refl u37 (vc_X6_put_g_8 h33 h35)) u40 (by decide)), (Or.inr (u40.f (Or.inl (mAt.ne (A_23 hw) (A_27 hw) rfl)) u37.1)), trivial⟩
theorem vc_X6_putTest_g_1 {f_cs z125 : Int} (h0 : f_cs ≤ z125) (h1 : 2000 ≤ f_cs ∨ z125 = f_cs + 1) (h2 : 0 ≤ f_cs ∧ f_cs ≤ 2000) (h3 : 0 ≤ z125 ∧ z125 ≤ 2000) : f_cs ≤ f_cs := by omega
theorem vc_X6_putTest_g_2 {f_cs z125 z134 : Int} (h0 : f_cs ≤ z125) (h1 : 2000 ≤ f_cs ∨ z125 = f_cs + 1) (h2 : z125 ≤ z134) (h3 : 2000 ≤ z125 ∨ z134 = z125 + 1) (h4 : 0 ≤ f_cs ∧ f_cs ≤ 2000) (h5 : 0 ≤ z125 ∧ z125 ≤ 2000) (h6 : 0 ≤ z134 ∧ z134 ≤ 2000) : f_cs ≤ z125 := by omega
theorem vc_X6_putTest_g_3 {f_cs z125 z134 z143 : Int} (h0 : f_cs ≤ z125) (h1 : 2000 ≤ f_cs ∨ z125 = f_cs + 1) (h2 : z125 ≤ z134) (h3 : 2000 ≤ z125 ∨ z134 = z125 + 1) (h4 : z134 ≤ z143) (h5 : 2000 ≤ z134 ∨ z143 = z134 + 1) (h6 : 0 ≤ f_cs ∧ f_cs ≤ 2000) (h7 : 0 ≤ z125 ∧ z125 ≤ 2000) (h8 : 0 ≤ z134 ∧ z134 ≤ 2000) (h9 : 0 ≤ z143 ∧ z143 ≤ 2000) : f_cs ≤ z134 := by omega
theorem vc_X6_putTest_g_4 {f_cs z125 z134 z143 z152 : Int} (h0 : f_cs ≤ z125) (h1 : 2000 ≤ f_cs ∨ z125 = f_cs + 1) (h2 : z134 ≤ z143) (h3 : 2000 ≤ z134 ∨ z143 = z134 + 1) (h4 : z143 ≤ z152) (h5 : 2000 ≤ z143 ∨ z152 = z143 + 1) (h6 : z125 ≤ z134) (h7 : 2000 ≤ z125 ∨ z134 = z125 + 1) (h8 : 0 ≤ f_cs ∧ f_cs ≤ 2000) (h9 : 0 ≤ z125 ∧ z125 ≤ 2000) (h10 : 0 ≤ z134 ∧ z134 ≤ 2000) (h11 : 0 ≤ z143 ∧ z143 ≤ 2000) (h12 : 0 ≤ z152 ∧ z152 ≤ 2000) : f_cs ≤ z143 := by omega
theorem vc_X6_putTest_g_5 {f_cs z125 z134 z143 z152 z161 : Int} (h0 : f_cs ≤ z125) (h1 : 2000 ≤ f_cs ∨ z125 = f_cs + 1) (h2 : z143 ≤ z152) (h3 : 2000 ≤ z143 ∨ z152 = z143 + 1) (h4 : z152 ≤ z161) (h5 : 2000 ≤ z152 ∨ z161 = z152 + 1) (h6 : z125 ≤ z134) (h7 : 2000 ≤ z125 ∨ z134 = z125 + 1) (h8 : z134 ≤ z143) (h9 : 2000 ≤ z134 ∨ z143 = z134 + 1) (h10 : 0 ≤ f_cs ∧ f_cs ≤ 2000) (h11 : 0 ≤ z125 ∧ z125 ≤ 2000) (h12 : 0 ≤ z134 ∧ z134 ≤ 2000) (h13 : 0 ≤ z143 ∧ z143 ≤ 2000) (h14 : 0 ≤ z152 ∧ z152 ≤ 2000) (h15 : 0 ≤ z161 ∧ z161 ≤ 2000) : f_cs ≤ z152 := by omega
theorem vc_X6_putTest_g_6 {f_cs z125 z134 z143 z152 z161 : Int} (h0 : f_cs ≤ z125) (h1 : 2000 ≤ f_cs ∨ z125 = f_cs + 1) (h2 : z152 ≤ z161) (h3 : 2000 ≤ z152 ∨ z161 = z152 + 1) (h4 : z125 ≤ z134) (h5 : 2000 ≤ z125 ∨ z134 = z125 + 1) (h6 : z143 ≤ z152) (h7 : 2000 ≤ z143 ∨ z152 = z143 + 1) (h8 : z134 ≤ z143) (h9 : 2000 ≤ z134 ∨ z143 = z134 + 1) (h10 : 0 ≤ f_cs ∧ f_cs ≤ 2000) (h11 : 0 ≤ z125 ∧ z125 ≤ 2000) (h12 : 0 ≤ z134 ∧ z134 ≤ 2000) (h13 : 0 ≤ z143 ∧ z143 ≤ 2000) (h14 : 0 ≤ z152 ∧ z152 ≤ 2000) (h15 : 0 ≤ z161 ∧ z161 ≤ 2000) : f_cs ≤ z161 := by omega
theorem vc_X6_putTest_g_7 {f_cs z125 z134 z143 z152 z161 : Int} (h0 : f_cs ≤ z125) (h1 : 2000 ≤ f_cs ∨ z125 = f_cs + 1) (h2 : z152 ≤ z161) (h3 : 2000 ≤ z152 ∨ z161 = z152 + 1) (h4 : z125 ≤ z134) (h5 : 2000 ≤ z125 ∨ z134 = z125 + 1) (h6 : z143 ≤ z152) (h7 : 2000 ≤ z143 ∨ z152 = z143 + 1) (h8 : z134 ≤ z143) (h9 : 2000 ≤ z134 ∨ z143 = z134 + 1) (h10 : 0 ≤ f_cs ∧ f_cs ≤ 2000) (h11 : 0 ≤ z125 ∧ z125 ≤ 2000) (h12 : 0 ≤ z134 ∧ z134 ≤ 2000) (h13 : 0 ≤ z143 ∧ z143 ≤ 2000) (h14 : 0 ≤ z152 ∧ z152 ≤ 2000) (h15 : 0 ≤ z161 ∧ z161 ≤ 2000) : 1996 ≤ f_cs ∨ z161 = f_cs + 5 := by omega
set_option maxRecDepth 4000 in
set_option maxHeartbeats 4000000 in
theorem c_X6_putTest_g {l : Launch} {D : va_G} {c : Nat → ClassId} {H0 : Heap} {sa : Nat × Nat × (Nat → Int32)} {w : mW} {μ : mM} (hw : mWF w) (hT : mT w μ) {p1 : Int} (hp1 : (-2147483648) ≤ p1 ∧ p1 ≤ 2147483647) {p2 : Int} (hp2 : (-2147483648) ≤ p2 ∧ p2 ≤ 2147483647) {p3 : Int} (hp3 : (-2147483648) ≤ p3 ∧ p3 ≤ 2147483647) {p4 : Int} (hp4 : (-2147483648) ≤ p4 ∧ p4 ≤ 2147483647) {p5 : Int} (hp5 : (-2147483648) ≤ p5 ∧ p5 ≤ 2147483647) {f_cs : Int} (q_f_cs : μ 23 11 = f_cs) : sC (gG l D c H0 sa) mX6_putTest 2 0 0 [.ref 23, iv p1, iv p2, iv p3, iv p4, iv p5] (mk w μ) (qV w [23011, 27999] μ (fun μ1 => ∃ o_cs : Int, μ1 23 11 = o_cs ∧ (f_cs ≤ o_cs) ∧ (1996 ≤ f_cs ∨ o_cs = f_cs + 5) ∧ (preL μ f_cs μ1) ∧ True)) := by
  refine sC.of rfl (by decide) (le_t rfl) ?_
  have ht_f_cs : (0 ≤ f_cs ∧ f_cs ≤ 2000) := by rw [← q_f_cs]; exact hT 23 23 (A_23 hw) 11
  refine mr_lvE (lv' := [(0, .ref 23), (1, iv p1), (2, iv p2), (3, iv p3), (4, iv p4), (5, iv p5)]) rfl ?_
  refine sv_aload_n (pc := 0) dX6_putTest_0 rfl rfl ?_
  refine mr_iload_n (pc := 1) (z := p1) dX6_putTest_1 rfl rfl ?_
  refine mr_cVV (pc := 2) (c_X6_put_g hw hT hp1 q_f_cs) (gOk _ _ _ _ _) dX6_putTest_2 (tX6_put _ _ _ _ _) ⟨wV_X6_put, wL_X6_put⟩ wM_X6_130 (gCX6 _ _ _ _ _) rfl (A_23 hw) rfl ⟨le_t rfl, le_t rfl⟩ ⟨le_t rfl, le_t rfl⟩ rfl (le_t rfl) fun μ121 T122 F123 h124 => ?_
  obtain ⟨z125, q126, h127⟩ := h124
  have h128 : (0 ≤ z125 ∧ z125 ≤ 2000) := by rw [← q126]; exact T122 23 23 (A_23 hw) 11
  have P129 := preL.trans preL.refl h127.2.2.1 (vc_X6_putTest_g_1 h127.1 h127.2.1 ht_f_cs h128)
  refine sv_aload_n (pc := 5) dX6_putTest_5 rfl rfl ?_
  refine mr_iload_n (pc := 6) (z := p2) dX6_putTest_6 rfl rfl ?_
  refine mr_cVV (pc := 7) (c_X6_put_g hw T122 hp2 q126) (gOk _ _ _ _ _) dX6_putTest_7 (tX6_put _ _ _ _ _) ⟨wV_X6_put, wL_X6_put⟩ wM_X6_130 (gCX6 _ _ _ _ _) rfl (A_23 hw) rfl ⟨le_t rfl, le_t rfl⟩ ⟨le_t rfl, le_t rfl⟩ rfl (le_t rfl) fun μ130 T131 F132 h133 => ?_
  obtain ⟨z134, q135, h136⟩ := h133
  have h137 : (0 ≤ z134 ∧ z134 ≤ 2000) := by rw [← q135]; exact T131 23 23 (A_23 hw) 11
  have P138 := preL.trans P129 h136.2.2.1 (vc_X6_putTest_g_2 h127.1 h127.2.1 h136.1 h136.2.1 ht_f_cs h128 h137)
  refine sv_aload_n (pc := 10) dX6_putTest_10 rfl rfl ?_
  refine mr_iload_n (pc := 11) (z := p3) dX6_putTest_11 rfl rfl ?_
  refine mr_cVV (pc := 12) (c_X6_put_g hw T131 hp3 q135) (gOk _ _ _ _ _) dX6_putTest_12 (tX6_put _ _ _ _ _) ⟨wV_X6_put, wL_X6_put⟩ wM_X6_130 (gCX6 _ _ _ _ _) rfl (A_23 hw) rfl ⟨le_t rfl, le_t rfl⟩ ⟨le_t rfl, le_t rfl⟩ rfl (le_t rfl) fun μ139 T140 F141 h142 => ?_
  obtain ⟨z143, q144, h145⟩ := h142
  have h146 : (0 ≤ z143 ∧ z143 ≤ 2000) := by rw [← q144]; exact T140 23 23 (A_23 hw) 11
  have P147 := preL.trans P138 h145.2.2.1 (vc_X6_putTest_g_3 h127.1 h127.2.1 h136.1 h136.2.1 h145.1 h145.2.1 ht_f_cs h128 h137 h146)
  refine sv_aload_n (pc := 15) dX6_putTest_15 rfl rfl ?_
  refine mr_iload (pc := 16) (z := p4) dX6_putTest_16 rfl ?_
  refine mr_cVV (pc := 18) (c_X6_put_g hw T140 hp4 q144) (gOk _ _ _ _ _) dX6_putTest_18 (tX6_put _ _ _ _ _) ⟨wV_X6_put, wL_X6_put⟩ wM_X6_130 (gCX6 _ _ _ _ _) rfl (A_23 hw) rfl ⟨le_t rfl, le_t rfl⟩ ⟨le_t rfl, le_t rfl⟩ rfl (le_t rfl) fun μ148 T149 F150 h151 => ?_
  obtain ⟨z152, q153, h154⟩ := h151
  have h155 : (0 ≤ z152 ∧ z152 ≤ 2000) := by rw [← q153]; exact T149 23 23 (A_23 hw) 11
  have P156 := preL.trans P147 h154.2.2.1 (vc_X6_putTest_g_4 h127.1 h127.2.1 h145.1 h145.2.1 h154.1 h154.2.1 h136.1 h136.2.1 ht_f_cs h128 h137 h146 h155)
  refine sv_aload_n (pc := 21) dX6_putTest_21 rfl rfl ?_
  refine mr_iload (pc := 22) (z := p5) dX6_putTest_22 rfl ?_
  refine mr_cVV (pc := 24) (c_X6_put_g hw T149 hp5 q153) (gOk _ _ _ _ _) dX6_putTest_24 (tX6_put _ _ _ _ _) ⟨wV_X6_put, wL_X6_put⟩ wM_X6_130 (gCX6 _ _ _ _ _) rfl (A_23 hw) rfl ⟨le_t rfl, le_t rfl⟩ ⟨le_t rfl, le_t rfl⟩ rfl (le_t rfl) fun μ157 T158 F159 h160 => ?_
  obtain ⟨z161, q162, h163⟩ := h160
  have h164 : (0 ≤ z161 ∧ z161 ≤ 2000) := by rw [← q162]; exact T158 23 23 (A_23 hw) 11
  have P165 := preL.trans P156 h163.2.2.1 (vc_X6_putTest_g_5 h127.1 h127.2.1 h154.1 h154.2.1 h163.1 h163.2.1 h136.1 h136.2.1 h145.1 h145.2.1 ht_f_cs h128 h137 h146 h155 h164)
  exact mr_vret dX6_putTest_27 rfl (le_t rfl) (le_t rfl) T158 (mF.call (mF.call (mF.call (mF.call (mF.call mF.refl F123 rfl) F132 rfl) F141 rfl) F150 rfl) F159 rfl) ⟨z161, q162, (vc_X6_putTest_g_6 h127.1 h127.2.1 h163.1 h163.2.1 h136.1 h136.2.1 h154.1 h154.2.1 h145.1 h145.2.1 ht_f_cs h128 h137 h146 h155 h164), (vc_X6_putTest_g_7 h127.1 h127.2.1 h163.1 h163.2.1 h136.1 h136.2.1 h154.1 h154.2.1 h145.1 h145.2.1 ht_f_cs h128 h137 h146 h155 h164), P165, trivial⟩
theorem vc_X6_readPlace_g_3 {z371 : Int} (h0 : z371 < 40) (h1 : 0 ≤ z371 ∧ z371 ≤ 40) : 0 ≤ z371 ∧ z371 ≤ 39 := by omega
theorem vc_X6_readPlace_g_6 {f_at f_end f_ft z401 : Int} (h0 : f_at ≤ f_end) (h1 : f_ft = 0 ∨ f_at = f_end) (h2 : z401 ≤ f_end) (h3 : f_at ≤ z401) (h4 : f_at < f_end → f_at + 1 ≤ z401) (h5 : 0 ≤ f_at ∧ f_at ≤ 1000) (h6 : 0 ≤ f_end ∧ f_end ≤ 1000) (h7 : 0 ≤ f_ft ∧ f_ft ≤ 4) (h8 : 0 ≤ z401 ∧ z401 ≤ 1000) : z401 ≤ f_end := by omega
theorem vc_X6_readPlace_g_7 {f_at f_end f_ft z401 : Int} (h0 : f_at ≤ f_end) (h1 : f_ft = 0 ∨ f_at = f_end) (h2 : z401 ≤ f_end) (h3 : f_at ≤ z401) (h4 : f_at < f_end → f_at + 1 ≤ z401) (h5 : 0 ≤ f_at ∧ f_at ≤ 1000) (h6 : 0 ≤ f_end ∧ f_end ≤ 1000) (h7 : 0 ≤ f_ft ∧ f_ft ≤ 4) (h8 : 0 ≤ z401 ∧ z401 ≤ 1000) : f_at ≤ z401 := by omega
theorem vc_X6_readPlace_g_8 {f_at f_end f_ft z401 : Int} (h0 : f_ft = 0 ∨ f_at = f_end) (h1 : f_at ≤ f_end) (h2 : z401 ≤ f_end) (h3 : f_at ≤ z401) (h4 : f_at < f_end → f_at + 1 ≤ z401) (h5 : 0 ≤ f_at ∧ f_at ≤ 1000) (h6 : 0 ≤ f_end ∧ f_end ≤ 1000) (h7 : 0 ≤ f_ft ∧ f_ft ≤ 4) (h8 : 0 ≤ z401 ∧ z401 ≤ 1000) : f_ft = 0 ∨ 1 ≤ f_ft := by omega
theorem vc_X6_readPlace_g_9 {f_at f_end f_ft z401 : Int} (h0 : f_at ≤ f_end) (h1 : f_ft = 0 ∨ f_at = f_end) (h2 : z401 ≤ f_end) (h3 : f_at ≤ z401) (h4 : f_at < f_end → f_at + 1 ≤ z401) (h5 : 0 ≤ f_at ∧ f_at ≤ 1000) (h6 : 0 ≤ f_end ∧ f_end ≤ 1000) (h7 : 0 ≤ f_ft ∧ f_ft ≤ 4) (h8 : 0 ≤ z401 ∧ z401 ≤ 1000) : f_ft = 0 ∨ z401 = f_end := by omega
theorem vc_X6_readPlace_g_10 {z371 : Int} (h0 : 40 ≤ z371) (h1 : 0 ≤ z371 ∧ z371 ≤ 40) : 40 ≤ z371 ∧ z371 ≤ 40 := by omega
theorem vc_X6_readPlace_g_12 {f_at f_end f_ft z410 : Int} (h0 : f_at ≤ f_end) (h1 : f_ft = 0 ∨ f_at = f_end) (h2 : z410 = f_end) (h3 : 0 ≤ f_at ∧ f_at ≤ 1000) (h4 : 0 ≤ f_end ∧ f_end ≤ 1000) (h5 : 0 ≤ f_ft ∧ f_ft ≤ 4) (h6 : 0 ≤ z410 ∧ z410 ≤ 1000) : f_end ≤ f_end := by omega
theorem vc_X6_readPlace_g_13 {f_at f_end f_ft z410 : Int} (h0 : f_at ≤ f_end) (h1 : f_ft = 0 ∨ f_at = f_end) (h2 : z410 = f_end) (h3 : 0 ≤ f_at ∧ f_at ≤ 1000) (h4 : 0 ≤ f_end ∧ f_end ≤ 1000) (h5 : 0 ≤ f_ft ∧ f_ft ≤ 4) (h6 : 0 ≤ z410 ∧ z410 ≤ 1000) : f_at ≤ f_end := by omega
theorem vc_X6_readPlace_g_14 {f_at f_end f_ft z410 z412 : Int} (h0 : f_ft = 0 ∨ f_at = f_end) (h1 : 1 ≤ z412) (h2 : f_at ≤ f_end) (h3 : z410 = f_end) (h4 : 0 ≤ f_at ∧ f_at ≤ 1000) (h5 : 0 ≤ f_end ∧ f_end ≤ 1000) (h6 : 0 ≤ f_ft ∧ f_ft ≤ 4) (h7 : 0 ≤ z410 ∧ z410 ≤ 1000) (h8 : 1 ≤ z412 ∧ z412 ≤ 4) : f_ft = 0 ∨ 1 ≤ z412 := by omega
theorem vc_X6_readPlace_g_15 {f_at f_end f_ft z410 z412 : Int} (h0 : f_at ≤ f_end) (h1 : f_ft = 0 ∨ f_at = f_end) (h2 : z410 = f_end) (h3 : 1 ≤ z412) (h4 : 0 ≤ f_at ∧ f_at ≤ 1000) (h5 : 0 ≤ f_end ∧ f_end ≤ 1000) (h6 : 0 ≤ f_ft ∧ f_ft ≤ 4) (h7 : 0 ≤ z410 ∧ z410 ≤ 1000) (h8 : 1 ≤ z412 ∧ z412 ≤ 4) : z412 = 0 ∨ f_end = f_end := by omega
theorem vc_X6_readPlace_g_30 {z420 : Int} (h0 : 1000000 < z420) (h1 : (-2147483648) ≤ z420 ∧ z420 ≤ 2147483647) : 1000001 ≤ z420 ∧ z420 ≤ 2147483647 := by omega
set_option maxRecDepth 4000 in
set_option maxHeartbeats 4000000 in
theorem c_X6_readPlace_g {l : Launch} {D : va_G} {c : Nat → ClassId} {H0 : Heap} {sa : Nat × Nat × (Nat → Int32)} {w : mW} {μ : mM} (hw : mWF w) (hT : mT w μ) {f_at : Int} (q_f_at : μ 23 9 = f_at) {f_end : Int} (q_f_end : μ 23 8 = f_end) {f_ft : Int} (q_f_ft : μ 23 18 = f_ft) {f_te : Int} (q_f_te : μ 24 (f_end.toNat) = f_te) (hq0 : f_at ≤ f_end) (hq1 : f_te = -1) (hq2 : f_ft = 0 ∨ f_at = f_end) : sC (gG l D c H0 sa) mX6_readPlace 2 0 0 [.ref 23] (mk w μ) (qV w [23009, 23012, 23015, 23016, 23017, 23018, 23019, 28999, 29999] μ (fun μ1 => ∃ o_at o_ft : Int, μ1 23 9 = o_at ∧ μ1 23 18 = o_ft ∧ (o_at ≤ f_end) ∧ (f_at ≤ o_at) ∧ (f_ft = 0 ∨ 1 ≤ o_ft) ∧ (o_ft = 0 ∨ o_at = f_end) ∧ True)) := by
  refine sC.of rfl (by decide) (le_t rfl) ?_
  have ht_f_at : (0 ≤ f_at ∧ f_at ≤ 1000) := by rw [← q_f_at]; exact hT 23 23 (A_23 hw) 9
  have ht_f_end : (0 ≤ f_end ∧ f_end ≤ 1000) := by rw [← q_f_end]; exact hT 23 23 (A_23 hw) 8
  have ht_f_ft : (0 ≤ f_ft ∧ f_ft ≤ 4) := by rw [← q_f_ft]; exact hT 23 23 (A_23 hw) 18
  have ht_f_te : ((-2147483648) ≤ f_te ∧ f_te ≤ 2147483647) := by rw [← q_f_te]; exact hT 24 24 (A_24 hw) (f_end.toNat)
  have h1 : (-1) ≤ f_te ∧ f_te ≤ (-1) := (vc_X6_take_g_1 hq1 ht_f_te)
  refine mr_lvE (lv' := [(0, .ref 23)]) rfl ?_
  refine sv_aload_n (pc := 0) dX6_readPlace_0 rfl rfl ?_
  refine gf_X6_0 (pc := 1) dX6_readPlace_1 wF_X6_9 (A_23 hw) hT ?_
  refine sv_aload_n (pc := 4) dX6_readPlace_4 rfl rfl ?_
  refine gk_X6_9 (pc := 5) dX6_readPlace_5 wF_X6_63 (A_23 hw) q_f_at ?_
  refine la_24 (pc := 8) dX6_readPlace_8 (A_24 hw) hT (rIx (n := 1001) ht_f_at rfl) fun z362 q363 h364 => ?_
  refine mr_bipush (pc := 9) (z := (-2)) dX6_readPlace_9 (by decide) ?_
  have J368 : ∀ (z366 : Int), ((0 ≤ z366 ∧ z366 ≤ 1)) → sV (gG l D c H0 sa) mX6_readPlace (sRm 2 0 0) (sZ (gG l D c H0 sa) 0 0 (qV w [23009, 23012, 23015, 23016, 23017, 23018, 23019, 28999, 29999] μ (fun μ1 => ∃ o_at o_ft : Int, μ1 23 9 = o_at ∧ μ1 23 18 = o_ft ∧ (o_at ≤ f_end) ∧ (f_at ≤ o_at) ∧ (f_ft = 0 ∨ 1 ≤ o_ft) ∧ (o_ft = 0 ∨ o_at = f_end) ∧ True))) 19 [(0, .ref 23)] [iv z366] (mk w μ) 0 0 := by
    intro z366 h367
    refine mr_istore_n (pc := 19) (lv' := [(1, iv z366), (0, .ref 23)]) dX6_readPlace_19 rfl (by decide) rfl ?_
    refine mr_iload_n (pc := 20) (z := z366) dX6_readPlace_20 rfl rfl ?_
    refine mr_if_eq (pc := 21) (tgt := 44) dX6_readPlace_21 (by decide) (r32 h367 rfl) (fun h369 => ?_) (fun h369 => ?_)
    · have h370 : 0 ≤ z366 ∧ z366 ≤ 0 := (vc_X12_ring_22 h369 h367)
      refine sv_aload_n (pc := 44) dX6_readPlace_44 rfl rfl ?_
      refine gf_X6_12 (pc := 45) dX6_readPlace_45 wF_X6_50 (A_23 hw) hT fun z371 q372 h373 => ?_
      refine mr_bipush (pc := 48) (z := 40) dX6_readPlace_48 (by decide) ?_
      refine mr_icmp_lt (pc := 50) (tgt := 59) dX6_readPlace_50 (by decide) (r32 h373 rfl) (r32 (rR (x := 40)) rfl) (fun h374 => ?_) (fun h374 => ?_)
      · have h375 : 0 ≤ z371 ∧ z371 ≤ 39 := (vc_X6_readPlace_g_3 h374 h373)
        refine sv_aload_n (pc := 59) dX6_readPlace_59 rfl rfl ?_
        refine gf_X6_4 (pc := 60) dX6_readPlace_60 wF_X6_24 (A_23 hw) hT ?_
        refine sv_aload_n (pc := 63) dX6_readPlace_63 rfl rfl ?_
        refine gk_X6_12 (pc := 64) dX6_readPlace_64 wF_X6_50 (A_23 hw) q372 ?_
        refine mr_iload_n (pc := 67) (z := z366) dX6_readPlace_67 rfl rfl ?_
        refine mr_if_eq (pc := 68) (tgt := 83) dX6_readPlace_68 (by decide) (r32 h370 rfl) (fun _ => ?_) (fun h => ((vc_X10_firstWrongStep_7 h h370)).elim)
        refine mr_iconst (pc := 83) (z := (-1)) dX6_readPlace_83 ?_
        refine ss_28 (pc := 84) dX6_readPlace_84 (A_28 hw) hT (rIx (n := 40) h375 rfl) (rW (c := (-2147483648)) (d := 2147483647) (rR (x := (-1))) rfl) fun μ376 u377 T378 => ?_
        refine sv_aload_n (pc := 85) dX6_readPlace_85 rfl rfl ?_
        refine gf_X6_5 (pc := 86) dX6_readPlace_86 wF_X6_27 (A_23 hw) T378 ?_
        refine sv_aload_n (pc := 89) dX6_readPlace_89 rfl rfl ?_
        refine gk_X6_12 (pc := 90) dX6_readPlace_90 wF_X6_50 (A_23 hw) (u377.f (Or.inl (mAt.ne (A_28 hw) (A_23 hw) rfl)) q372) ?_
        refine mr_lconst (pc := 93) (z := 0) dX6_readPlace_93 (by decide) ?_
        refine ss_29 (pc := 94) dX6_readPlace_94 (A_29 hw) T378 (rIx (n := 40) h375 rfl) (rW (c := -9223372036854775808) (d := 9223372036854775807) (rR (x := 0)) rfl) fun μ379 u380 T381 => ?_
        refine sv_aload_n (pc := 95) dX6_readPlace_95 rfl rfl ?_
        refine mr_iconst (pc := 96) (z := 0) dX6_readPlace_96 ?_
        refine pf_X6_15 (pc := 97) dX6_readPlace_97 wF_X6_186 (A_23 hw) T381 (rW (c := 0) (d := 1) (rR (x := 0)) rfl) fun μ382 u383 T384 => ?_
        refine sv_aload_n (pc := 100) dX6_readPlace_100 rfl rfl ?_
        refine mr_lconst (pc := 101) (z := 1) dX6_readPlace_101 (by decide) ?_
        refine sv_aload_n (pc := 102) dX6_readPlace_102 rfl rfl ?_
        refine gk_X6_12 (pc := 103) dX6_readPlace_103 wF_X6_50 (A_23 hw) (u383.f (Or.inr (by decide)) (u380.f (Or.inl (mAt.ne (A_29 hw) (A_23 hw) rfl)) (u377.f (Or.inl (mAt.ne (A_28 hw) (A_23 hw) rfl)) q372))) ?_
        refine mr_lshl (pc := 106) dX6_readPlace_106 ?_
        refine mr_genL (r64i _) fun z385 q386 h387 => ?_
        refine pf_X6_16 (pc := 107) dX6_readPlace_107 wF_X6_179 (A_23 hw) T384 h387 fun μ388 u389 T390 => ?_
        refine sv_aload_n (pc := 110) dX6_readPlace_110 rfl rfl ?_
        refine sv_aload_n (pc := 111) dX6_readPlace_111 rfl rfl ?_
        refine gk_X6_16 (pc := 112) dX6_readPlace_112 wF_X6_179 (A_23 hw) u389.1 ?_
        refine pf_X6_17 (pc := 115) dX6_readPlace_115 wF_X6_183 (A_23 hw) T390 h387 fun μ391 u392 T393 => ?_
        refine sv_aload_n (pc := 118) dX6_readPlace_118 rfl rfl ?_
        refine sv_dup (pc := 119) dX6_readPlace_119 rfl ?_
        refine gk_X6_12 (pc := 120) dX6_readPlace_120 wF_X6_50 (A_23 hw) (u392.f (Or.inr (by decide)) (u389.f (Or.inr (by decide)) (u383.f (Or.inr (by decide)) (u380.f (Or.inl (mAt.ne (A_29 hw) (A_23 hw) rfl)) (u377.f (Or.inl (mAt.ne (A_28 hw) (A_23 hw) rfl)) q372))))) ?_
        refine mr_iconst (pc := 123) (z := 1) dX6_readPlace_123 ?_
        refine mr_iadd (pc := 124) (x := z371) (y := 1) dX6_readPlace_124 ?_
        refine pf_X6_12 (pc := 125) dX6_readPlace_125 wF_X6_50 (A_23 hw) T393 (rW (c := 0) (d := 40) (rAdd (e := 1) (f := 40) h375 (rR (x := 1)) rfl) rfl) fun μ394 u395 T396 => ?_
        refine sv_aload_n (pc := 128) dX6_readPlace_128 rfl rfl ?_
        refine mr_cVV (pc := 129) (c_X6_step_g hw T396 (u395.f (Or.inr (by decide)) (u392.f (Or.inr (by decide)) (u389.f (Or.inr (by decide)) (u383.f (Or.inr (by decide)) (u380.f (Or.inl (mAt.ne (A_29 hw) (A_23 hw) rfl)) (u377.f (Or.inl (mAt.ne (A_28 hw) (A_23 hw) rfl)) q_f_at)))))) (u395.f (Or.inr (by decide)) (u392.f (Or.inr (by decide)) (u389.f (Or.inr (by decide)) (u383.f (Or.inr (by decide)) (u380.f (Or.inl (mAt.ne (A_29 hw) (A_23 hw) rfl)) (u377.f (Or.inl (mAt.ne (A_28 hw) (A_23 hw) rfl)) q_f_end)))))) (vc_X6_expect_g_2 hq0 hq2 ht_f_at ht_f_end ht_f_ft)) (gOk _ _ _ _ _) dX6_readPlace_129 (tX6_step _ _ _ _ _) ⟨wV_X6_step, wL_X6_step⟩ wM_X6_117 (gCX6 _ _ _ _ _) rfl (A_23 hw) rfl ⟨le_t rfl, le_t rfl⟩ ⟨le_t rfl, le_t rfl⟩ rfl (le_t rfl) fun μ397 T398 F399 h400 => ?_
        obtain ⟨z401, q402, h403⟩ := h400
        have h404 : (0 ≤ z401 ∧ z401 ≤ 1000) := by rw [← q402]; exact T398 23 23 (A_23 hw) 9
        exact mr_vret dX6_readPlace_132 rfl (le_t rfl) (le_t rfl) T398 (mF.call (mF.up (mF.up (mF.up (mF.up (mF.up (mF.up mF.refl (A_28 hw) u377 rfl) (A_29 hw) u380 rfl) (A_23 hw) u383 rfl) (A_23 hw) u389 rfl) (A_23 hw) u392 rfl) (A_23 hw) u395 rfl) F399 rfl) ⟨z401, f_ft, q402, (F399.f (A_23 hw) rfl (u395.f (Or.inr (by decide)) (u392.f (Or.inr (by decide)) (u389.f (Or.inr (by decide)) (u383.f (Or.inr (by decide)) (u380.f (Or.inl (mAt.ne (A_29 hw) (A_23 hw) rfl)) (u377.f (Or.inl (mAt.ne (A_28 hw) (A_23 hw) rfl)) q_f_ft))))))), (vc_X6_readPlace_g_6 hq0 hq2 h403.1 h403.2.1 h403.2.2.1 ht_f_at ht_f_end ht_f_ft h404), (vc_X6_readPlace_g_7 hq0 hq2 h403.1 h403.2.1 h403.2.2.1 ht_f_at ht_f_end ht_f_ft h404), (vc_X6_readPlace_g_8 hq2 hq0 h403.1 h403.2.1 h403.2.2.1 ht_f_at ht_f_end ht_f_ft h404), (vc_X6_readPlace_g_9 hq0 hq2 h403.1 h403.2.1 h403.2.2.1 ht_f_at ht_f_end ht_f_ft h404), trivial⟩
      have h405 : 40 ≤ z371 ∧ z371 ≤ 40 := (vc_X6_readPlace_g_10 h374 h373)
      refine sv_aload_n (pc := 53) dX6_readPlace_53 rfl rfl ?_
      refine mr_iconst (pc := 54) (z := 4) dX6_readPlace_54 ?_
      refine mr_cVV (pc := 55) (c_X6_fail_g hw hT (rW (c := 1) (d := 4) (rR (x := 4)) rfl) q_f_at q_f_end q_f_ft (vc_X6_expect_g_2 hq0 hq2 ht_f_at ht_f_end ht_f_ft)) (gOk _ _ _ _ _) dX6_readPlace_55 (tX6_fail _ _ _ _ _) ⟨wV_X6_fail, wL_X6_fail⟩ wM_X6_123 (gCX6 _ _ _ _ _) rfl (A_23 hw) rfl ⟨le_t rfl, le_t rfl⟩ ⟨le_t rfl, le_t rfl⟩ rfl (le_t rfl) fun μ406 T407 F408 h409 => ?_
      obtain ⟨z410, z412, q411, q413, h414⟩ := h409
      have h415 : (0 ≤ z410 ∧ z410 ≤ 1000) := by rw [← q411]; exact T407 23 23 (A_23 hw) 9
      have h416 : (0 ≤ z412 ∧ z412 ≤ 4) := by rw [← q413]; exact T407 23 23 (A_23 hw) 18
      have q417 : μ406 23 9 = f_end := q411.trans h414.1
      have h418 : 1 ≤ z412 ∧ z412 ≤ 4 := (vc_X12_next_128 h414.2.1 h416)
      exact mr_vret dX6_readPlace_58 rfl (le_t rfl) (le_t rfl) T407 (mF.call mF.refl F408 rfl) ⟨f_end, z412, q417, q413, (vc_X6_readPlace_g_12 hq0 hq2 h414.1 ht_f_at ht_f_end ht_f_ft h415), (vc_X6_readPlace_g_13 hq0 hq2 h414.1 ht_f_at ht_f_end ht_f_ft h415), (vc_X6_readPlace_g_14 hq2 h414.2.1 hq0 h414.1 ht_f_at ht_f_end ht_f_ft h415 h418), (vc_X6_readPlace_g_15 hq0 hq2 h414.1 h414.2.1 ht_f_at ht_f_end ht_f_ft h415 h418), trivial⟩
    have h419 : 1 ≤ z366 ∧ z366 ≤ 1 := (vc_X12_ring_24 h369 h367)
    refine sv_aload_n (pc := 24) dX6_readPlace_24 rfl rfl ?_
    refine gf_X6_1 (pc := 25) dX6_readPlace_25 wF_X6_15 (A_23 hw) hT ?_
    refine sv_aload_n (pc := 28) dX6_readPlace_28 rfl rfl ?_
    refine gk_X6_9 (pc := 29) dX6_readPlace_29 wF_X6_63 (A_23 hw) q_f_at ?_
    refine la_25 (pc := 32) dX6_readPlace_32 (A_25 hw) hT (rIx (n := 1001) ht_f_at rfl) fun z420 q421 h422 => ?_
    refine mr_ldc (pc := 33) (z := 1000000) dX6_readPlace_33 wG_X6_147 (by decide) ?_
    refine mr_icmp_le (pc := 35) (tgt := 44) dX6_readPlace_35 (by decide) h422 (r32 (rR (x := 1000000)) rfl) (fun h423 => ?_) (fun h423 => ?_)
    · have h424 : (-2147483648) ≤ z420 ∧ z420 ≤ 1000000 := (vc_X6_number_g_2 h423 h422)
      refine sv_aload_n (pc := 44) dX6_readPlace_44 rfl rfl ?_
      refine gf_X6_12 (pc := 45) dX6_readPlace_45 wF_X6_50 (A_23 hw) hT fun z425 q426 h427 => ?_
      refine mr_bipush (pc := 48) (z := 40) dX6_readPlace_48 (by decide) ?_
      refine mr_icmp_lt (pc := 50) (tgt := 59) dX6_readPlace_50 (by decide) (r32 h427 rfl) (r32 (rR (x := 40)) rfl) (fun h428 => ?_) (fun h428 => ?_)
      · have h429 : 0 ≤ z425 ∧ z425 ≤ 39 := (vc_X6_readPlace_g_3 h428 h427)
        refine sv_aload_n (pc := 59) dX6_readPlace_59 rfl rfl ?_
        refine gf_X6_4 (pc := 60) dX6_readPlace_60 wF_X6_24 (A_23 hw) hT ?_
        refine sv_aload_n (pc := 63) dX6_readPlace_63 rfl rfl ?_
        refine gk_X6_12 (pc := 64) dX6_readPlace_64 wF_X6_50 (A_23 hw) q426 ?_
        refine mr_iload_n (pc := 67) (z := z366) dX6_readPlace_67 rfl rfl ?_
        refine mr_if_eq (pc := 68) (tgt := 83) dX6_readPlace_68 (by decide) (r32 h419 rfl) (fun h => ((vc_X12_letWay_13 h h419)).elim) (fun _ => ?_)
        refine sv_aload_n (pc := 71) dX6_readPlace_71 rfl rfl ?_
        refine gf_X6_1 (pc := 72) dX6_readPlace_72 wF_X6_15 (A_23 hw) hT ?_
        refine sv_aload_n (pc := 75) dX6_readPlace_75 rfl rfl ?_
        refine gk_X6_9 (pc := 76) dX6_readPlace_76 wF_X6_63 (A_23 hw) q_f_at ?_
        refine lk_25 (pc := 79) dX6_readPlace_79 (A_25 hw) (rIx (n := 1001) ht_f_at rfl) q421 ?_
        refine sv_goto (pc := 80) (tgt := 84) dX6_readPlace_80 (by decide) ?_
        refine ss_28 (pc := 84) dX6_readPlace_84 (A_28 hw) hT (rIx (n := 40) h429 rfl) (rW (c := (-2147483648)) (d := 2147483647) h424 rfl) fun μ430 u431 T432 => ?_
        refine sv_aload_n (pc := 85) dX6_readPlace_85 rfl rfl ?_
        refine gf_X6_5 (pc := 86) dX6_readPlace_86 wF_X6_27 (A_23 hw) T432 ?_
        refine sv_aload_n (pc := 89) dX6_readPlace_89 rfl rfl ?_
        refine gk_X6_12 (pc := 90) dX6_readPlace_90 wF_X6_50 (A_23 hw) (u431.f (Or.inl (mAt.ne (A_28 hw) (A_23 hw) rfl)) q426) ?_
        refine mr_lconst (pc := 93) (z := 0) dX6_readPlace_93 (by decide) ?_
        refine ss_29 (pc := 94) dX6_readPlace_94 (A_29 hw) T432 (rIx (n := 40) h429 rfl) (rW (c := -9223372036854775808) (d := 9223372036854775807) (rR (x := 0)) rfl) fun μ433 u434 T435 => ?_
        refine sv_aload_n (pc := 95) dX6_readPlace_95 rfl rfl ?_
        refine mr_iconst (pc := 96) (z := 0) dX6_readPlace_96 ?_
        refine pf_X6_15 (pc := 97) dX6_readPlace_97 wF_X6_186 (A_23 hw) T435 (rW (c := 0) (d := 1) (rR (x := 0)) rfl) fun μ436 u437 T438 => ?_
        refine sv_aload_n (pc := 100) dX6_readPlace_100 rfl rfl ?_
        refine mr_lconst (pc := 101) (z := 1) dX6_readPlace_101 (by decide) ?_
        refine sv_aload_n (pc := 102) dX6_readPlace_102 rfl rfl ?_
        refine gk_X6_12 (pc := 103) dX6_readPlace_103 wF_X6_50 (A_23 hw) (u437.f (Or.inr (by decide)) (u434.f (Or.inl (mAt.ne (A_29 hw) (A_23 hw) rfl)) (u431.f (Or.inl (mAt.ne (A_28 hw) (A_23 hw) rfl)) q426))) ?_
        refine mr_lshl (pc := 106) dX6_readPlace_106 ?_
        refine mr_genL (r64i _) fun z439 q440 h441 => ?_
        refine pf_X6_16 (pc := 107) dX6_readPlace_107 wF_X6_179 (A_23 hw) T438 h441 fun μ442 u443 T444 => ?_
        refine sv_aload_n (pc := 110) dX6_readPlace_110 rfl rfl ?_
        refine sv_aload_n (pc := 111) dX6_readPlace_111 rfl rfl ?_
        refine gk_X6_16 (pc := 112) dX6_readPlace_112 wF_X6_179 (A_23 hw) u443.1 ?_
        refine pf_X6_17 (pc := 115) dX6_readPlace_115 wF_X6_183 (A_23 hw) T444 h441 fun μ445 u446 T447 => ?_
        refine sv_aload_n (pc := 118) dX6_readPlace_118 rfl rfl ?_
        refine sv_dup (pc := 119) dX6_readPlace_119 rfl ?_
        refine gk_X6_12 (pc := 120) dX6_readPlace_120 wF_X6_50 (A_23 hw) (u446.f (Or.inr (by decide)) (u443.f (Or.inr (by decide)) (u437.f (Or.inr (by decide)) (u434.f (Or.inl (mAt.ne (A_29 hw) (A_23 hw) rfl)) (u431.f (Or.inl (mAt.ne (A_28 hw) (A_23 hw) rfl)) q426))))) ?_
        refine mr_iconst (pc := 123) (z := 1) dX6_readPlace_123 ?_
        refine mr_iadd (pc := 124) (x := z425) (y := 1) dX6_readPlace_124 ?_
        refine pf_X6_12 (pc := 125) dX6_readPlace_125 wF_X6_50 (A_23 hw) T447 (rW (c := 0) (d := 40) (rAdd (e := 1) (f := 40) h429 (rR (x := 1)) rfl) rfl) fun μ448 u449 T450 => ?_
        refine sv_aload_n (pc := 128) dX6_readPlace_128 rfl rfl ?_
        refine mr_cVV (pc := 129) (c_X6_step_g hw T450 (u449.f (Or.inr (by decide)) (u446.f (Or.inr (by decide)) (u443.f (Or.inr (by decide)) (u437.f (Or.inr (by decide)) (u434.f (Or.inl (mAt.ne (A_29 hw) (A_23 hw) rfl)) (u431.f (Or.inl (mAt.ne (A_28 hw) (A_23 hw) rfl)) q_f_at)))))) (u449.f (Or.inr (by decide)) (u446.f (Or.inr (by decide)) (u443.f (Or.inr (by decide)) (u437.f (Or.inr (by decide)) (u434.f (Or.inl (mAt.ne (A_29 hw) (A_23 hw) rfl)) (u431.f (Or.inl (mAt.ne (A_28 hw) (A_23 hw) rfl)) q_f_end)))))) (vc_X6_expect_g_2 hq0 hq2 ht_f_at ht_f_end ht_f_ft)) (gOk _ _ _ _ _) dX6_readPlace_129 (tX6_step _ _ _ _ _) ⟨wV_X6_step, wL_X6_step⟩ wM_X6_117 (gCX6 _ _ _ _ _) rfl (A_23 hw) rfl ⟨le_t rfl, le_t rfl⟩ ⟨le_t rfl, le_t rfl⟩ rfl (le_t rfl) fun μ451 T452 F453 h454 => ?_
        obtain ⟨z455, q456, h457⟩ := h454
        have h458 : (0 ≤ z455 ∧ z455 ≤ 1000) := by rw [← q456]; exact T452 23 23 (A_23 hw) 9
        exact mr_vret dX6_readPlace_132 rfl (le_t rfl) (le_t rfl) T452 (mF.call (mF.up (mF.up (mF.up (mF.up (mF.up (mF.up mF.refl (A_28 hw) u431 rfl) (A_29 hw) u434 rfl) (A_23 hw) u437 rfl) (A_23 hw) u443 rfl) (A_23 hw) u446 rfl) (A_23 hw) u449 rfl) F453 rfl) ⟨z455, f_ft, q456, (F453.f (A_23 hw) rfl (u449.f (Or.inr (by decide)) (u446.f (Or.inr (by decide)) (u443.f (Or.inr (by decide)) (u437.f (Or.inr (by decide)) (u434.f (Or.inl (mAt.ne (A_29 hw) (A_23 hw) rfl)) (u431.f (Or.inl (mAt.ne (A_28 hw) (A_23 hw) rfl)) q_f_ft))))))), (vc_X6_readPlace_g_6 hq0 hq2 h457.1 h457.2.1 h457.2.2.1 ht_f_at ht_f_end ht_f_ft h458), (vc_X6_readPlace_g_7 hq0 hq2 h457.1 h457.2.1 h457.2.2.1 ht_f_at ht_f_end ht_f_ft h458), (vc_X6_readPlace_g_8 hq2 hq0 h457.1 h457.2.1 h457.2.2.1 ht_f_at ht_f_end ht_f_ft h458), (vc_X6_readPlace_g_9 hq0 hq2 h457.1 h457.2.1 h457.2.2.1 ht_f_at ht_f_end ht_f_ft h458), trivial⟩
      have h459 : 40 ≤ z425 ∧ z425 ≤ 40 := (vc_X6_readPlace_g_10 h428 h427)
      refine sv_aload_n (pc := 53) dX6_readPlace_53 rfl rfl ?_
      refine mr_iconst (pc := 54) (z := 4) dX6_readPlace_54 ?_
      refine mr_cVV (pc := 55) (c_X6_fail_g hw hT (rW (c := 1) (d := 4) (rR (x := 4)) rfl) q_f_at q_f_end q_f_ft (vc_X6_expect_g_2 hq0 hq2 ht_f_at ht_f_end ht_f_ft)) (gOk _ _ _ _ _) dX6_readPlace_55 (tX6_fail _ _ _ _ _) ⟨wV_X6_fail, wL_X6_fail⟩ wM_X6_123 (gCX6 _ _ _ _ _) rfl (A_23 hw) rfl ⟨le_t rfl, le_t rfl⟩ ⟨le_t rfl, le_t rfl⟩ rfl (le_t rfl) fun μ460 T461 F462 h463 => ?_
      obtain ⟨z464, z466, q465, q467, h468⟩ := h463
      have h469 : (0 ≤ z464 ∧ z464 ≤ 1000) := by rw [← q465]; exact T461 23 23 (A_23 hw) 9
      have h470 : (0 ≤ z466 ∧ z466 ≤ 4) := by rw [← q467]; exact T461 23 23 (A_23 hw) 18
      have q471 : μ460 23 9 = f_end := q465.trans h468.1
      have h472 : 1 ≤ z466 ∧ z466 ≤ 4 := (vc_X12_next_128 h468.2.1 h470)
      exact mr_vret dX6_readPlace_58 rfl (le_t rfl) (le_t rfl) T461 (mF.call mF.refl F462 rfl) ⟨f_end, z466, q471, q467, (vc_X6_readPlace_g_12 hq0 hq2 h468.1 ht_f_at ht_f_end ht_f_ft h469), (vc_X6_readPlace_g_13 hq0 hq2 h468.1 ht_f_at ht_f_end ht_f_ft h469), (vc_X6_readPlace_g_14 hq2 h468.2.1 hq0 h468.1 ht_f_at ht_f_end ht_f_ft h469 h472), (vc_X6_readPlace_g_15 hq0 hq2 h468.1 h468.2.1 ht_f_at ht_f_end ht_f_ft h469 h472), trivial⟩
    have h473 : 1000001 ≤ z420 ∧ z420 ≤ 2147483647 := (vc_X6_readPlace_g_30 h423 h422)
    refine sv_aload_n (pc := 38) dX6_readPlace_38 rfl rfl ?_
    refine mr_iconst (pc := 39) (z := 3) dX6_readPlace_39 ?_
    refine mr_cVV (pc := 40) (c_X6_fail_g hw hT (rW (c := 1) (d := 4) (rR (x := 3)) rfl) q_f_at q_f_end q_f_ft (vc_X6_expect_g_2 hq0 hq2 ht_f_at ht_f_end ht_f_ft)) (gOk _ _ _ _ _) dX6_readPlace_40 (tX6_fail _ _ _ _ _) ⟨wV_X6_fail, wL_X6_fail⟩ wM_X6_123 (gCX6 _ _ _ _ _) rfl (A_23 hw) rfl ⟨le_t rfl, le_t rfl⟩ ⟨le_t rfl, le_t rfl⟩ rfl (le_t rfl) fun μ474 T475 F476 h477 => ?_
    obtain ⟨z478, z480, q479, q481, h482⟩ := h477
    have h483 : (0 ≤ z478 ∧ z478 ≤ 1000) := by rw [← q479]; exact T475 23 23 (A_23 hw) 9
    have h484 : (0 ≤ z480 ∧ z480 ≤ 4) := by rw [← q481]; exact T475 23 23 (A_23 hw) 18
    have q485 : μ474 23 9 = f_end := q479.trans h482.1
    have h486 : 1 ≤ z480 ∧ z480 ≤ 4 := (vc_X12_next_128 h482.2.1 h484)
    exact mr_vret dX6_readPlace_43 rfl (le_t rfl) (le_t rfl) T475 (mF.call mF.refl F476 rfl) ⟨f_end, z480, q485, q481, (vc_X6_readPlace_g_12 hq0 hq2 h482.1 ht_f_at ht_f_end ht_f_ft h483), (vc_X6_readPlace_g_13 hq0 hq2 h482.1 ht_f_at ht_f_end ht_f_ft h483), (vc_X6_readPlace_g_14 hq2 h482.2.1 hq0 h482.1 ht_f_at ht_f_end ht_f_ft h483 h486), (vc_X6_readPlace_g_15 hq0 hq2 h482.1 h482.2.1 ht_f_at ht_f_end ht_f_ft h483 h486), trivial⟩
  refine mr_icmp_ne (pc := 11) (tgt := 18) dX6_readPlace_11 (by decide) h364 (r32 (rR (x := (-2))) rfl) (fun h487 => ?_) (fun h487 => ?_)
  · refine mr_iconst (pc := 18) (z := 0) dX6_readPlace_18 ?_
    exact J368 0 (rW (c := 0) (d := 1) (rR (x := 0)) rfl)
  have h488 : (-2) ≤ z362 ∧ z362 ≤ (-2) := (vc_X6_beginsPiece_g_1 h487 h364)
  refine mr_iconst (pc := 14) (z := 1) dX6_readPlace_14 ?_
  refine sv_goto (pc := 15) (tgt := 19) dX6_readPlace_15 (by decide) ?_
  exact J368 1 (rW (c := 0) (d := 1) (rR (x := 1)) rfl)
theorem vc_X6_readRepeat_g_3 {f_at f_end f_ft z387 : Int} (h0 : f_at ≤ f_end) (h1 : f_ft = 0 ∨ f_at = f_end) (h2 : z387 ≤ f_end) (h3 : f_at ≤ z387) (h4 : f_ft = 0 ∨ z387 = f_end) (h5 : f_at ≤ f_at) (h6 : f_ft = 0 ∨ 1 ≤ f_ft) (h7 : 0 ≤ f_at ∧ f_at ≤ 1000) (h8 : 0 ≤ f_end ∧ f_end ≤ 1000) (h9 : 0 ≤ f_ft ∧ f_ft ≤ 4) (h10 : 0 ≤ z387 ∧ z387 ≤ 1000) : z387 ≤ f_end := by omega
theorem vc_X6_readRepeat_g_4 {f_at f_end f_ft z387 : Int} (h0 : f_at ≤ f_end) (h1 : f_ft = 0 ∨ f_at = f_end) (h2 : f_at ≤ f_at) (h3 : z387 ≤ f_end) (h4 : f_at ≤ z387) (h5 : f_ft = 0 ∨ z387 = f_end) (h6 : f_ft = 0 ∨ 1 ≤ f_ft) (h7 : 0 ≤ f_at ∧ f_at ≤ 1000) (h8 : 0 ≤ f_end ∧ f_end ≤ 1000) (h9 : 0 ≤ f_ft ∧ f_ft ≤ 4) (h10 : 0 ≤ z387 ∧ z387 ≤ 1000) : f_at ≤ z387 := by omega
theorem vc_X6_readRepeat_g_5 {f_at f_end f_ft z387 : Int} (h0 : f_ft = 0 ∨ f_at = f_end) (h1 : f_ft = 0 ∨ 1 ≤ f_ft) (h2 : f_ft = 0 ∨ z387 = f_end) (h3 : f_at ≤ f_end) (h4 : f_at ≤ f_at) (h5 : z387 ≤ f_end) (h6 : f_at ≤ z387) (h7 : 0 ≤ f_at ∧ f_at ≤ 1000) (h8 : 0 ≤ f_end ∧ f_end ≤ 1000) (h9 : 0 ≤ f_ft ∧ f_ft ≤ 4) (h10 : 0 ≤ z387 ∧ z387 ≤ 1000) : f_ft = 0 ∨ 1 ≤ f_ft := by omega
theorem vc_X6_readRepeat_g_6 {f_at f_end f_ft z387 : Int} (h0 : f_at ≤ f_end) (h1 : f_ft = 0 ∨ f_at = f_end) (h2 : f_ft = 0 ∨ 1 ≤ f_ft) (h3 : z387 ≤ f_end) (h4 : f_at ≤ z387) (h5 : f_ft = 0 ∨ z387 = f_end) (h6 : f_at ≤ f_at) (h7 : 0 ≤ f_at ∧ f_at ≤ 1000) (h8 : 0 ≤ f_end ∧ f_end ≤ 1000) (h9 : 0 ≤ f_ft ∧ f_ft ≤ 4) (h10 : 0 ≤ z387 ∧ z387 ≤ 1000) : f_ft = 0 ∨ z387 = f_end := by omega
theorem vc_X6_readRepeat_g_12 {f_at f_end f_ft : Int} (h0 : f_at ≤ f_end) (h1 : f_ft = 0 ∨ f_at = f_end) (h2 : f_at ≤ f_at) (h3 : f_ft = 0 ∨ 1 ≤ f_ft) (h4 : 0 ≤ f_at ∧ f_at ≤ 1000) (h5 : 0 ≤ f_end ∧ f_end ≤ 1000) (h6 : 0 ≤ f_ft ∧ f_ft ≤ 4) : f_at ≤ f_end := by omega
theorem vc_X6_readRepeat_g_13 {f_at f_end f_ft z436 : Int} (h0 : f_at ≤ f_end) (h1 : f_ft = 0 ∨ f_at = f_end) (h2 : z436 ≤ f_end) (h3 : f_at ≤ z436) (h4 : f_at < f_end → f_at + 1 ≤ z436) (h5 : f_at ≤ f_at) (h6 : f_ft = 0 ∨ 1 ≤ f_ft) (h7 : 0 ≤ f_at ∧ f_at ≤ 1000) (h8 : 0 ≤ f_end ∧ f_end ≤ 1000) (h9 : 0 ≤ f_ft ∧ f_ft ≤ 4) (h10 : 0 ≤ z436 ∧ z436 ≤ 1000) : z436 ≤ f_end := by omega
theorem vc_X6_readRepeat_g_14 {f_at f_end f_ft z436 : Int} (h0 : f_at ≤ f_end) (h1 : f_ft = 0 ∨ f_at = f_end) (h2 : f_at ≤ f_at) (h3 : z436 ≤ f_end) (h4 : f_at ≤ z436) (h5 : f_at < f_end → f_at + 1 ≤ z436) (h6 : f_ft = 0 ∨ 1 ≤ f_ft) (h7 : 0 ≤ f_at ∧ f_at ≤ 1000) (h8 : 0 ≤ f_end ∧ f_end ≤ 1000) (h9 : 0 ≤ f_ft ∧ f_ft ≤ 4) (h10 : 0 ≤ z436 ∧ z436 ≤ 1000) : f_at ≤ z436 := by omega
theorem vc_X6_readRepeat_g_15 {f_at f_end f_ft z436 : Int} (h0 : f_ft = 0 ∨ f_at = f_end) (h1 : f_ft = 0 ∨ 1 ≤ f_ft) (h2 : f_at ≤ f_end) (h3 : f_at ≤ f_at) (h4 : z436 ≤ f_end) (h5 : f_at ≤ z436) (h6 : f_at < f_end → f_at + 1 ≤ z436) (h7 : 0 ≤ f_at ∧ f_at ≤ 1000) (h8 : 0 ≤ f_end ∧ f_end ≤ 1000) (h9 : 0 ≤ f_ft ∧ f_ft ≤ 4) (h10 : 0 ≤ z436 ∧ z436 ≤ 1000) : f_ft = 0 ∨ 1 ≤ f_ft := by omega
theorem vc_X6_readRepeat_g_16 {f_at f_end f_ft z436 : Int} (h0 : f_at ≤ f_end) (h1 : f_ft = 0 ∨ f_at = f_end) (h2 : f_ft = 0 ∨ 1 ≤ f_ft) (h3 : z436 ≤ f_end) (h4 : f_at ≤ z436) (h5 : f_at < f_end → f_at + 1 ≤ z436) (h6 : f_at ≤ f_at) (h7 : 0 ≤ f_at ∧ f_at ≤ 1000) (h8 : 0 ≤ f_end ∧ f_end ≤ 1000) (h9 : 0 ≤ f_ft ∧ f_ft ≤ 4) (h10 : 0 ≤ z436 ∧ z436 ≤ 1000) : f_ft = 0 ∨ z436 = f_end := by omega
theorem vc_X6_readRepeat_g_23 {f_at f_end f_ft : Int} (h0 : f_at ≤ f_end) (h1 : f_ft = 0 ∨ f_at = f_end) (h2 : f_at ≤ f_at) (h3 : f_ft = 0 ∨ 1 ≤ f_ft) (h4 : 0 ≤ f_at ∧ f_at ≤ 1000) (h5 : 0 ≤ f_end ∧ f_end ≤ 1000) (h6 : 0 ≤ f_ft ∧ f_ft ≤ 4) : f_at ≤ f_at := by omega
theorem vc_X6_readRepeat_g_24 {f_at f_end f_ft : Int} (h0 : f_ft = 0 ∨ f_at = f_end) (h1 : f_ft = 0 ∨ 1 ≤ f_ft) (h2 : f_at ≤ f_end) (h3 : f_at ≤ f_at) (h4 : 0 ≤ f_at ∧ f_at ≤ 1000) (h5 : 0 ≤ f_end ∧ f_end ≤ 1000) (h6 : 0 ≤ f_ft ∧ f_ft ≤ 4) : f_ft = 0 ∨ 1 ≤ f_ft := by omega
theorem vc_X6_readRepeat_g_25 {f_at f_end f_ft : Int} (h0 : f_at ≤ f_end) (h1 : f_ft = 0 ∨ f_at = f_end) (h2 : f_at ≤ f_at) (h3 : f_ft = 0 ∨ 1 ≤ f_ft) (h4 : 0 ≤ f_at ∧ f_at ≤ 1000) (h5 : 0 ≤ f_end ∧ f_end ≤ 1000) (h6 : 0 ≤ f_ft ∧ f_ft ≤ 4) : f_ft = 0 ∨ f_at = f_end := by omega
theorem vc_X6_readRepeat_g_31 {f_at f_end f_ft : Int} (h0 : f_at ≤ f_end) (h1 : f_ft = 0 ∨ f_at = f_end) (h2 : 0 ≤ f_at ∧ f_at ≤ 1000) (h3 : 0 ≤ f_end ∧ f_end ≤ 1000) (h4 : 0 ≤ f_ft ∧ f_ft ≤ 4) : f_at ≤ f_at := by omega
theorem vc_X6_readRepeat_g_32 {f_at f_end f_ft : Int} (h0 : f_ft = 0 ∨ f_at = f_end) (h1 : f_at ≤ f_end) (h2 : 0 ≤ f_at ∧ f_at ≤ 1000) (h3 : 0 ≤ f_end ∧ f_end ≤ 1000) (h4 : 0 ≤ f_ft ∧ f_ft ≤ 4) : f_ft = 0 ∨ 1 ≤ f_ft := by omega
theorem vc_X6_readRepeat_g_33 {f_at f_end f_ft : Int} (h0 : f_at ≤ f_end) (h1 : f_ft = 0 ∨ f_at = f_end) (h2 : 0 ≤ f_at ∧ f_at ≤ 1000) (h3 : 0 ≤ f_end ∧ f_end ≤ 1000) (h4 : 0 ≤ f_ft ∧ f_ft ≤ 4) : f_ft = 0 ∨ f_at = f_end := by omega
theorem vc_X6_readRepeat_g_34 {z296 : Int} (h0 : z296 = 1063) (h1 : (-2147483648) ≤ z296 ∧ z296 ≤ 2147483647) : 1063 ≤ z296 ∧ z296 ≤ 1063 := by omega
theorem vc_X6_readRepeat_g_35 {z296 : Int} (h0 : z296 = 1043) (h1 : (-2147483648) ≤ z296 ∧ z296 ≤ 2147483647) : 1043 ≤ z296 ∧ z296 ≤ 1043 := by omega
theorem vc_X6_readRepeat_g_36 {z296 : Int} (h0 : z296 = 1042) (h1 : (-2147483648) ≤ z296 ∧ z296 ≤ 2147483647) : 1042 ≤ z296 ∧ z296 ≤ 1042 := by omega
set_option maxRecDepth 4000 in
set_option maxHeartbeats 4000000 in
theorem c_X6_readRepeat_g {l : Launch} {D : va_G} {c : Nat → ClassId} {H0 : Heap} {sa : Nat × Nat × (Nat → Int32)} {w : mW} {μ : mM} (hw : mWF w) (hT : mT w μ) {f_at : Int} (q_f_at : μ 23 9 = f_at) {f_end : Int} (q_f_end : μ 23 8 = f_end) {f_ft : Int} (q_f_ft : μ 23 18 = f_ft) {f_te : Int} (q_f_te : μ 24 (f_end.toNat) = f_te) (hq0 : f_at ≤ f_end) (hq1 : f_te = -1) (hq2 : f_ft = 0 ∨ f_at = f_end) : sC (gG l D c H0 sa) mX6_readRepeat 2 0 0 [.ref 23] (mk w μ) (qV w [23009, 23015, 29999] μ (fun μ1 => ∃ o_at o_ft : Int, μ1 23 9 = o_at ∧ μ1 23 18 = o_ft ∧ (o_at ≤ f_end) ∧ (f_at ≤ o_at) ∧ (f_ft = 0 ∨ 1 ≤ o_ft) ∧ (o_ft = 0 ∨ o_at = f_end) ∧ True)) := by
  refine sC.of rfl (by decide) (le_t rfl) ?_
  have ht_f_at : (0 ≤ f_at ∧ f_at ≤ 1000) := by rw [← q_f_at]; exact hT 23 23 (A_23 hw) 9
  have ht_f_end : (0 ≤ f_end ∧ f_end ≤ 1000) := by rw [← q_f_end]; exact hT 23 23 (A_23 hw) 8
  have ht_f_ft : (0 ≤ f_ft ∧ f_ft ≤ 4) := by rw [← q_f_ft]; exact hT 23 23 (A_23 hw) 18
  have ht_f_te : ((-2147483648) ≤ f_te ∧ f_te ≤ 2147483647) := by rw [← q_f_te]; exact hT 24 24 (A_24 hw) (f_end.toNat)
  have h1 : (-1) ≤ f_te ∧ f_te ≤ (-1) := (vc_X6_take_g_1 hq1 ht_f_te)
  refine mr_lvE (lv' := [(0, .ref 23)]) rfl ?_
  refine sv_aload_n (pc := 0) dX6_readRepeat_0 rfl rfl ?_
  refine gf_X6_0 (pc := 1) dX6_readRepeat_1 wF_X6_9 (A_23 hw) hT ?_
  refine sv_aload_n (pc := 4) dX6_readRepeat_4 rfl rfl ?_
  refine gk_X6_9 (pc := 5) dX6_readRepeat_5 wF_X6_63 (A_23 hw) q_f_at ?_
  refine la_24 (pc := 8) dX6_readRepeat_8 (A_24 hw) hT (rIx (n := 1001) ht_f_at rfl) fun z296 q297 h298 => ?_
  refine mr_sipush (pc := 9) (z := 1042) dX6_readRepeat_9 (by decide) ?_
  have J302 : ∀ (z300 : Int), ((0 ≤ z300 ∧ z300 ≤ 1)) → sV (gG l D c H0 sa) mX6_readRepeat (sRm 2 0 0) (sZ (gG l D c H0 sa) 0 0 (qV w [23009, 23015, 29999] μ (fun μ1 => ∃ o_at o_ft : Int, μ1 23 9 = o_at ∧ μ1 23 18 = o_ft ∧ (o_at ≤ f_end) ∧ (f_at ≤ o_at) ∧ (f_ft = 0 ∨ 1 ≤ o_ft) ∧ (o_ft = 0 ∨ o_at = f_end) ∧ True))) 20 [(0, .ref 23)] [iv z300] (mk w μ) 0 0 := by
    intro z300 h301
    refine mr_istore_n (pc := 20) (lv' := [(1, iv z300), (0, .ref 23)]) dX6_readRepeat_20 rfl (by decide) rfl ?_
    refine sv_aload_n (pc := 21) dX6_readRepeat_21 rfl rfl ?_
    refine gf_X6_0 (pc := 22) dX6_readRepeat_22 wF_X6_9 (A_23 hw) hT ?_
    refine sv_aload_n (pc := 25) dX6_readRepeat_25 rfl rfl ?_
    refine gk_X6_9 (pc := 26) dX6_readRepeat_26 wF_X6_63 (A_23 hw) q_f_at ?_
    refine lk_24 (pc := 29) dX6_readRepeat_29 (A_24 hw) (rIx (n := 1001) ht_f_at rfl) q297 ?_
    refine mr_sipush (pc := 30) (z := 1043) dX6_readRepeat_30 (by decide) ?_
    have J306 : ∀ (z304 : Int), ((0 ≤ z304 ∧ z304 ≤ 1)) → sV (gG l D c H0 sa) mX6_readRepeat (sRm 2 0 0) (sZ (gG l D c H0 sa) 0 0 (qV w [23009, 23015, 29999] μ (fun μ1 => ∃ o_at o_ft : Int, μ1 23 9 = o_at ∧ μ1 23 18 = o_ft ∧ (o_at ≤ f_end) ∧ (f_at ≤ o_at) ∧ (f_ft = 0 ∨ 1 ≤ o_ft) ∧ (o_ft = 0 ∨ o_at = f_end) ∧ True))) 41 [(0, .ref 23), (1, iv z300)] [iv z304] (mk w μ) 0 0 := by
      intro z304 h305
      refine mr_istore_n (pc := 41) (lv' := [(2, iv z304), (0, .ref 23), (1, iv z300)]) dX6_readRepeat_41 rfl (by decide) rfl ?_
      refine sv_aload_n (pc := 42) dX6_readRepeat_42 rfl rfl ?_
      refine gf_X6_0 (pc := 43) dX6_readRepeat_43 wF_X6_9 (A_23 hw) hT ?_
      refine sv_aload_n (pc := 46) dX6_readRepeat_46 rfl rfl ?_
      refine gk_X6_9 (pc := 47) dX6_readRepeat_47 wF_X6_63 (A_23 hw) q_f_at ?_
      refine lk_24 (pc := 50) dX6_readRepeat_50 (A_24 hw) (rIx (n := 1001) ht_f_at rfl) q297 ?_
      refine mr_sipush (pc := 51) (z := 1063) dX6_readRepeat_51 (by decide) ?_
      have J310 : ∀ (z308 : Int), ((0 ≤ z308 ∧ z308 ≤ 1)) → sV (gG l D c H0 sa) mX6_readRepeat (sRm 2 0 0) (sZ (gG l D c H0 sa) 0 0 (qV w [23009, 23015, 29999] μ (fun μ1 => ∃ o_at o_ft : Int, μ1 23 9 = o_at ∧ μ1 23 18 = o_ft ∧ (o_at ≤ f_end) ∧ (f_at ≤ o_at) ∧ (f_ft = 0 ∨ 1 ≤ o_ft) ∧ (o_ft = 0 ∨ o_at = f_end) ∧ True))) 62 [(0, .ref 23), (1, iv z300), (2, iv z304)] [iv z308] (mk w μ) 0 0 := by
        intro z308 h309
        refine mr_istore_n (pc := 62) (lv' := [(3, iv z308), (0, .ref 23), (1, iv z300), (2, iv z304)]) dX6_readRepeat_62 rfl (by decide) rfl ?_
        refine mr_iload_n (pc := 63) (z := z300) dX6_readRepeat_63 rfl rfl ?_
        have J343 : ∀ (μ335 : mM), (mT w μ335) → (mF [29999] w μ μ335) → ((μ335 23 (9) ≤ f_end)) → ((f_at ≤ μ335 23 (9))) → ((f_ft = 0 ∨ 1 ≤ μ335 23 (18))) → ((μ335 23 (18) = 0 ∨ μ335 23 (9) = f_end)) → sV (gG l D c H0 sa) mX6_readRepeat (sRm 2 0 0) (sZ (gG l D c H0 sa) 0 0 (qV w [23009, 23015, 29999] μ (fun μ1 => ∃ o_at o_ft : Int, μ1 23 9 = o_at ∧ μ1 23 18 = o_ft ∧ (o_at ≤ f_end) ∧ (f_at ≤ o_at) ∧ (f_ft = 0 ∨ 1 ≤ o_ft) ∧ (o_ft = 0 ∨ o_at = f_end) ∧ True))) 83 [(0, .ref 23), (1, iv z300), (2, iv z304), (3, iv z308)] [] (mk w μ335) 0 0 := by
          intro μ335 T336 F337 h339 h340 h341 h342
          have h344 : f_at ≤ f_end := by have h := h339; rw [(F337.f (A_23 hw) rfl q_f_at)] at h; exact h
          have h345 : f_at ≤ f_at := by have h := h340; rw [(F337.f (A_23 hw) rfl q_f_at)] at h; exact h
          have h346 : f_ft = 0 ∨ 1 ≤ f_ft := by have h := h341; rw [(F337.f (A_23 hw) rfl q_f_ft)] at h; exact h
          have h347 : f_ft = 0 ∨ f_at = f_end := by have h := h342; rw [(F337.f (A_23 hw) rfl q_f_ft), (F337.f (A_23 hw) rfl q_f_at)] at h; exact h
          refine mr_iload_n (pc := 83) (z := z300) dX6_readRepeat_83 rfl rfl ?_
          have J386 : ∀ (μ378 : mM), (mT w μ378) → (mF [23009] w μ335 μ378) → ((μ378 23 (9) ≤ f_end)) → ((f_at ≤ μ378 23 (9))) → ((f_ft = 0 ∨ 1 ≤ μ378 23 (18))) → ((μ378 23 (18) = 0 ∨ μ378 23 (9) = f_end)) → sV (gG l D c H0 sa) mX6_readRepeat (sRm 2 0 0) (sZ (gG l D c H0 sa) 0 0 (qV w [23009, 23015, 29999] μ (fun μ1 => ∃ o_at o_ft : Int, μ1 23 9 = o_at ∧ μ1 23 18 = o_ft ∧ (o_at ≤ f_end) ∧ (f_at ≤ o_at) ∧ (f_ft = 0 ∨ 1 ≤ o_ft) ∧ (o_ft = 0 ∨ o_at = f_end) ∧ True))) 99 [(0, .ref 23), (1, iv z300), (3, iv z308)] [] (mk w μ378) 0 0 := by
            intro μ378 T379 F380 h382 h383 h384 h385
            obtain ⟨z387, q388⟩ : ∃ z, μ378 23 9 = z := ⟨_, rfl⟩
            have h389 : (0 ≤ z387 ∧ z387 ≤ 1000) := by rw [← q388]; exact T379 23 23 (A_23 hw) 9
            have h390 : z387 ≤ f_end := by have h := h382; rw [q388] at h; exact h
            have h391 : f_at ≤ z387 := by have h := h383; rw [q388] at h; exact h
            have h392 : f_ft = 0 ∨ 1 ≤ f_ft := by have h := h384; rw [(F380.f (A_23 hw) rfl (F337.f (A_23 hw) rfl q_f_ft))] at h; exact h
            have h393 : f_ft = 0 ∨ z387 = f_end := by have h := h385; rw [(F380.f (A_23 hw) rfl (F337.f (A_23 hw) rfl q_f_ft)), q388] at h; exact h
            refine sv_aload_n (pc := 99) dX6_readRepeat_99 rfl rfl ?_
            refine sv_aload_n (pc := 100) dX6_readRepeat_100 rfl rfl ?_
            refine gf_X6_15 (pc := 101) dX6_readRepeat_101 wF_X6_186 (A_23 hw) T379 fun z394 q395 h396 => ?_
            refine mr_if_ne (pc := 104) (tgt := 115) dX6_readRepeat_104 (by decide) (r32 h396 rfl) (fun h403 => ?_) (fun h403 => ?_)
            · have h404 : 1 ≤ z394 ∧ z394 ≤ 1 := (vc_X12_ring_24 h403 h396)
              refine mr_iconst (pc := 115) (z := 1) dX6_readRepeat_115 ?_
              refine sv_goto (pc := 116) (tgt := 120) dX6_readRepeat_116 (by decide) ?_
              refine pf_X6_15 (pc := 120) dX6_readRepeat_120 wF_X6_186 (A_23 hw) T379 (rW (c := 0) (d := 1) (rR (x := 1)) rfl) fun μ405 u406 T407 => ?_
              exact mr_vret dX6_readRepeat_123 rfl (le_t rfl) (le_t rfl) T407 (mF.up (mF.call (mF.call mF.refl F337 rfl) F380 rfl) (A_23 hw) u406 rfl) ⟨z387, f_ft, (u406.f (Or.inr (by decide)) q388), (u406.f (Or.inr (by decide)) (F380.f (A_23 hw) rfl (F337.f (A_23 hw) rfl q_f_ft))), (vc_X6_readRepeat_g_3 hq0 hq2 h390 h391 h393 h345 h346 ht_f_at ht_f_end ht_f_ft h389), (vc_X6_readRepeat_g_4 hq0 hq2 h345 h390 h391 h393 h346 ht_f_at ht_f_end ht_f_ft h389), (vc_X6_readRepeat_g_5 hq2 h346 h393 hq0 h345 h390 h391 ht_f_at ht_f_end ht_f_ft h389), (vc_X6_readRepeat_g_6 hq0 hq2 h346 h390 h391 h393 h345 ht_f_at ht_f_end ht_f_ft h389), trivial⟩
            have h408 : 0 ≤ z394 ∧ z394 ≤ 0 := (vc_X12_ring_22 h403 h396)
            refine mr_iload_n (pc := 107) (z := z300) dX6_readRepeat_107 rfl rfl ?_
            refine mr_if_ne (pc := 108) (tgt := 115) dX6_readRepeat_108 (by decide) (r32 h301 rfl) (fun h413 => ?_) (fun h413 => ?_)
            · have h414 : 1 ≤ z300 ∧ z300 ≤ 1 := (vc_X12_ring_24 h413 h301)
              refine mr_iconst (pc := 115) (z := 1) dX6_readRepeat_115 ?_
              refine sv_goto (pc := 116) (tgt := 120) dX6_readRepeat_116 (by decide) ?_
              refine pf_X6_15 (pc := 120) dX6_readRepeat_120 wF_X6_186 (A_23 hw) T379 (rW (c := 0) (d := 1) (rR (x := 1)) rfl) fun μ415 u416 T417 => ?_
              exact mr_vret dX6_readRepeat_123 rfl (le_t rfl) (le_t rfl) T417 (mF.up (mF.call (mF.call mF.refl F337 rfl) F380 rfl) (A_23 hw) u416 rfl) ⟨z387, f_ft, (u416.f (Or.inr (by decide)) q388), (u416.f (Or.inr (by decide)) (F380.f (A_23 hw) rfl (F337.f (A_23 hw) rfl q_f_ft))), (vc_X6_readRepeat_g_3 hq0 hq2 h390 h391 h393 h345 h346 ht_f_at ht_f_end ht_f_ft h389), (vc_X6_readRepeat_g_4 hq0 hq2 h345 h390 h391 h393 h346 ht_f_at ht_f_end ht_f_ft h389), (vc_X6_readRepeat_g_5 hq2 h346 h393 hq0 h345 h390 h391 ht_f_at ht_f_end ht_f_ft h389), (vc_X6_readRepeat_g_6 hq0 hq2 h346 h390 h391 h393 h345 ht_f_at ht_f_end ht_f_ft h389), trivial⟩
            have h418 : 0 ≤ z300 ∧ z300 ≤ 0 := (vc_X12_ring_22 h413 h301)
            refine mr_iload_n (pc := 111) (z := z308) dX6_readRepeat_111 rfl rfl ?_
            refine mr_if_eq (pc := 112) (tgt := 119) dX6_readRepeat_112 (by decide) (r32 h309 rfl) (fun h421 => ?_) (fun h421 => ?_)
            · have h422 : 0 ≤ z308 ∧ z308 ≤ 0 := (vc_X12_ring_22 h421 h309)
              refine mr_iconst (pc := 119) (z := 0) dX6_readRepeat_119 ?_
              refine pf_X6_15 (pc := 120) dX6_readRepeat_120 wF_X6_186 (A_23 hw) T379 (rW (c := 0) (d := 1) (rR (x := 0)) rfl) fun μ423 u424 T425 => ?_
              exact mr_vret dX6_readRepeat_123 rfl (le_t rfl) (le_t rfl) T425 (mF.up (mF.call (mF.call mF.refl F337 rfl) F380 rfl) (A_23 hw) u424 rfl) ⟨z387, f_ft, (u424.f (Or.inr (by decide)) q388), (u424.f (Or.inr (by decide)) (F380.f (A_23 hw) rfl (F337.f (A_23 hw) rfl q_f_ft))), (vc_X6_readRepeat_g_3 hq0 hq2 h390 h391 h393 h345 h346 ht_f_at ht_f_end ht_f_ft h389), (vc_X6_readRepeat_g_4 hq0 hq2 h345 h390 h391 h393 h346 ht_f_at ht_f_end ht_f_ft h389), (vc_X6_readRepeat_g_5 hq2 h346 h393 hq0 h345 h390 h391 ht_f_at ht_f_end ht_f_ft h389), (vc_X6_readRepeat_g_6 hq0 hq2 h346 h390 h391 h393 h345 ht_f_at ht_f_end ht_f_ft h389), trivial⟩
            have h426 : 1 ≤ z308 ∧ z308 ≤ 1 := (vc_X12_ring_24 h421 h309)
            refine mr_iconst (pc := 115) (z := 1) dX6_readRepeat_115 ?_
            refine sv_goto (pc := 116) (tgt := 120) dX6_readRepeat_116 (by decide) ?_
            refine pf_X6_15 (pc := 120) dX6_readRepeat_120 wF_X6_186 (A_23 hw) T379 (rW (c := 0) (d := 1) (rR (x := 1)) rfl) fun μ427 u428 T429 => ?_
            exact mr_vret dX6_readRepeat_123 rfl (le_t rfl) (le_t rfl) T429 (mF.up (mF.call (mF.call mF.refl F337 rfl) F380 rfl) (A_23 hw) u428 rfl) ⟨z387, f_ft, (u428.f (Or.inr (by decide)) q388), (u428.f (Or.inr (by decide)) (F380.f (A_23 hw) rfl (F337.f (A_23 hw) rfl q_f_ft))), (vc_X6_readRepeat_g_3 hq0 hq2 h390 h391 h393 h345 h346 ht_f_at ht_f_end ht_f_ft h389), (vc_X6_readRepeat_g_4 hq0 hq2 h345 h390 h391 h393 h346 ht_f_at ht_f_end ht_f_ft h389), (vc_X6_readRepeat_g_5 hq2 h346 h393 hq0 h345 h390 h391 ht_f_at ht_f_end ht_f_ft h389), (vc_X6_readRepeat_g_6 hq0 hq2 h346 h390 h391 h393 h345 ht_f_at ht_f_end ht_f_ft h389), trivial⟩
          refine mr_if_ne (pc := 84) (tgt := 95) dX6_readRepeat_84 (by decide) (r32 h301 rfl) (fun h430 => ?_) (fun h430 => ?_)
          · have h431 : 1 ≤ z300 ∧ z300 ≤ 1 := (vc_X12_ring_24 h430 h301)
            refine sv_aload_n (pc := 95) dX6_readRepeat_95 rfl rfl ?_
            refine mr_cVV (pc := 96) (c_X6_step_g hw T336 (F337.f (A_23 hw) rfl q_f_at) (F337.f (A_23 hw) rfl q_f_end) (vc_X6_readRepeat_g_12 hq0 hq2 h345 h346 ht_f_at ht_f_end ht_f_ft)) (gOk _ _ _ _ _) dX6_readRepeat_96 (tX6_step _ _ _ _ _) ⟨wV_X6_step, wL_X6_step⟩ wM_X6_117 (gCX6 _ _ _ _ _) rfl (A_23 hw) rfl ⟨le_t rfl, le_t rfl⟩ ⟨le_t rfl, le_t rfl⟩ rfl (le_t rfl) fun μ432 T433 F434 h435 => ?_
            obtain ⟨z436, q437, h438⟩ := h435
            have h439 : (0 ≤ z436 ∧ z436 ≤ 1000) := by rw [← q437]; exact T433 23 23 (A_23 hw) 9
            refine mr_lvS (lv' := [(0, .ref 23), (1, iv z300), (3, iv z308)]) (List.forall_mem_cons.mpr ⟨rfl, List.forall_mem_cons.mpr ⟨rfl, List.forall_mem_cons.mpr ⟨rfl, fun _ h => absurd h List.not_mem_nil⟩⟩⟩) ?_
            exact J386 μ432 T433 (mF.call mF.refl F434 rfl) (by rw [q437]; exact (vc_X6_readRepeat_g_13 hq0 hq2 h438.1 h438.2.1 h438.2.2.1 h345 h346 ht_f_at ht_f_end ht_f_ft h439)) (by rw [q437]; exact (vc_X6_readRepeat_g_14 hq0 hq2 h345 h438.1 h438.2.1 h438.2.2.1 h346 ht_f_at ht_f_end ht_f_ft h439)) (by rw [(F434.f (A_23 hw) rfl (F337.f (A_23 hw) rfl q_f_ft))]; exact (vc_X6_readRepeat_g_15 hq2 h346 hq0 h345 h438.1 h438.2.1 h438.2.2.1 ht_f_at ht_f_end ht_f_ft h439)) (by rw [(F434.f (A_23 hw) rfl (F337.f (A_23 hw) rfl q_f_ft)), q437]; exact (vc_X6_readRepeat_g_16 hq0 hq2 h346 h438.1 h438.2.1 h438.2.2.1 h345 ht_f_at ht_f_end ht_f_ft h439))
          have h440 : 0 ≤ z300 ∧ z300 ≤ 0 := (vc_X12_ring_22 h430 h301)
          refine mr_iload_n (pc := 87) (z := z304) dX6_readRepeat_87 rfl rfl ?_
          refine mr_if_ne (pc := 88) (tgt := 95) dX6_readRepeat_88 (by decide) (r32 h305 rfl) (fun h441 => ?_) (fun h441 => ?_)
          · have h442 : 1 ≤ z304 ∧ z304 ≤ 1 := (vc_X12_ring_24 h441 h305)
            refine sv_aload_n (pc := 95) dX6_readRepeat_95 rfl rfl ?_
            refine mr_cVV (pc := 96) (c_X6_step_g hw T336 (F337.f (A_23 hw) rfl q_f_at) (F337.f (A_23 hw) rfl q_f_end) (vc_X6_readRepeat_g_12 hq0 hq2 h345 h346 ht_f_at ht_f_end ht_f_ft)) (gOk _ _ _ _ _) dX6_readRepeat_96 (tX6_step _ _ _ _ _) ⟨wV_X6_step, wL_X6_step⟩ wM_X6_117 (gCX6 _ _ _ _ _) rfl (A_23 hw) rfl ⟨le_t rfl, le_t rfl⟩ ⟨le_t rfl, le_t rfl⟩ rfl (le_t rfl) fun μ443 T444 F445 h446 => ?_
            obtain ⟨z447, q448, h449⟩ := h446
            have h450 : (0 ≤ z447 ∧ z447 ≤ 1000) := by rw [← q448]; exact T444 23 23 (A_23 hw) 9
            refine mr_lvS (lv' := [(0, .ref 23), (1, iv z300), (3, iv z308)]) (List.forall_mem_cons.mpr ⟨rfl, List.forall_mem_cons.mpr ⟨rfl, List.forall_mem_cons.mpr ⟨rfl, fun _ h => absurd h List.not_mem_nil⟩⟩⟩) ?_
            exact J386 μ443 T444 (mF.call mF.refl F445 rfl) (by rw [q448]; exact (vc_X6_readRepeat_g_13 hq0 hq2 h449.1 h449.2.1 h449.2.2.1 h345 h346 ht_f_at ht_f_end ht_f_ft h450)) (by rw [q448]; exact (vc_X6_readRepeat_g_14 hq0 hq2 h345 h449.1 h449.2.1 h449.2.2.1 h346 ht_f_at ht_f_end ht_f_ft h450)) (by rw [(F445.f (A_23 hw) rfl (F337.f (A_23 hw) rfl q_f_ft))]; exact (vc_X6_readRepeat_g_15 hq2 h346 hq0 h345 h449.1 h449.2.1 h449.2.2.1 ht_f_at ht_f_end ht_f_ft h450)) (by rw [(F445.f (A_23 hw) rfl (F337.f (A_23 hw) rfl q_f_ft)), q448]; exact (vc_X6_readRepeat_g_16 hq0 hq2 h346 h449.1 h449.2.1 h449.2.2.1 h345 ht_f_at ht_f_end ht_f_ft h450))
          have h451 : 0 ≤ z304 ∧ z304 ≤ 0 := (vc_X12_ring_22 h441 h305)
          refine mr_iload_n (pc := 91) (z := z308) dX6_readRepeat_91 rfl rfl ?_
          refine mr_if_eq (pc := 92) (tgt := 99) dX6_readRepeat_92 (by decide) (r32 h309 rfl) (fun h452 => ?_) (fun h452 => ?_)
          · have h453 : 0 ≤ z308 ∧ z308 ≤ 0 := (vc_X12_ring_22 h452 h309)
            refine mr_lvS (lv' := [(0, .ref 23), (1, iv z300), (3, iv z308)]) (List.forall_mem_cons.mpr ⟨rfl, List.forall_mem_cons.mpr ⟨rfl, List.forall_mem_cons.mpr ⟨rfl, fun _ h => absurd h List.not_mem_nil⟩⟩⟩) ?_
            exact J386 μ335 T336 mF.refl (by rw [(F337.f (A_23 hw) rfl q_f_at)]; exact (vc_X6_readRepeat_g_12 hq0 hq2 h345 h346 ht_f_at ht_f_end ht_f_ft)) (by rw [(F337.f (A_23 hw) rfl q_f_at)]; exact (vc_X6_readRepeat_g_23 hq0 hq2 h345 h346 ht_f_at ht_f_end ht_f_ft)) (by rw [(F337.f (A_23 hw) rfl q_f_ft)]; exact (vc_X6_readRepeat_g_24 hq2 h346 hq0 h345 ht_f_at ht_f_end ht_f_ft)) (by rw [(F337.f (A_23 hw) rfl q_f_ft), (F337.f (A_23 hw) rfl q_f_at)]; exact (vc_X6_readRepeat_g_25 hq0 hq2 h345 h346 ht_f_at ht_f_end ht_f_ft))
          have h454 : 1 ≤ z308 ∧ z308 ≤ 1 := (vc_X12_ring_24 h452 h309)
          refine sv_aload_n (pc := 95) dX6_readRepeat_95 rfl rfl ?_
          refine mr_cVV (pc := 96) (c_X6_step_g hw T336 (F337.f (A_23 hw) rfl q_f_at) (F337.f (A_23 hw) rfl q_f_end) (vc_X6_readRepeat_g_12 hq0 hq2 h345 h346 ht_f_at ht_f_end ht_f_ft)) (gOk _ _ _ _ _) dX6_readRepeat_96 (tX6_step _ _ _ _ _) ⟨wV_X6_step, wL_X6_step⟩ wM_X6_117 (gCX6 _ _ _ _ _) rfl (A_23 hw) rfl ⟨le_t rfl, le_t rfl⟩ ⟨le_t rfl, le_t rfl⟩ rfl (le_t rfl) fun μ455 T456 F457 h458 => ?_
          obtain ⟨z459, q460, h461⟩ := h458
          have h462 : (0 ≤ z459 ∧ z459 ≤ 1000) := by rw [← q460]; exact T456 23 23 (A_23 hw) 9
          refine mr_lvS (lv' := [(0, .ref 23), (1, iv z300), (3, iv z308)]) (List.forall_mem_cons.mpr ⟨rfl, List.forall_mem_cons.mpr ⟨rfl, List.forall_mem_cons.mpr ⟨rfl, fun _ h => absurd h List.not_mem_nil⟩⟩⟩) ?_
          exact J386 μ455 T456 (mF.call mF.refl F457 rfl) (by rw [q460]; exact (vc_X6_readRepeat_g_13 hq0 hq2 h461.1 h461.2.1 h461.2.2.1 h345 h346 ht_f_at ht_f_end ht_f_ft h462)) (by rw [q460]; exact (vc_X6_readRepeat_g_14 hq0 hq2 h345 h461.1 h461.2.1 h461.2.2.1 h346 ht_f_at ht_f_end ht_f_ft h462)) (by rw [(F457.f (A_23 hw) rfl (F337.f (A_23 hw) rfl q_f_ft))]; exact (vc_X6_readRepeat_g_15 hq2 h346 hq0 h345 h461.1 h461.2.1 h461.2.2.1 ht_f_at ht_f_end ht_f_ft h462)) (by rw [(F457.f (A_23 hw) rfl (F337.f (A_23 hw) rfl q_f_ft)), q460]; exact (vc_X6_readRepeat_g_16 hq0 hq2 h346 h461.1 h461.2.1 h461.2.2.1 h345 ht_f_at ht_f_end ht_f_ft h462))
        refine mr_if_ne (pc := 64) (tgt := 71) dX6_readRepeat_64 (by decide) (r32 h301 rfl) (fun h463 => ?_) (fun h463 => ?_)
        · have h464 : 1 ≤ z300 ∧ z300 ≤ 1 := (vc_X12_ring_24 h463 h301)
          refine sv_aload_n (pc := 71) dX6_readRepeat_71 rfl rfl ?_
          refine sv_aload_n (pc := 72) dX6_readRepeat_72 rfl rfl ?_
          refine gf_X6_17 (pc := 73) dX6_readRepeat_73 wF_X6_183 (A_23 hw) hT fun z465 q466 h467 => ?_
          refine sv_aload_n (pc := 76) dX6_readRepeat_76 rfl rfl ?_
          refine gf_X6_16 (pc := 77) dX6_readRepeat_77 wF_X6_179 (A_23 hw) hT fun z468 q469 h470 => ?_
          refine mr_cVV (pc := 80) (c_X6_join hw hT h467 h470) (gOk _ _ _ _ _) dX6_readRepeat_80 (tX6_join _ _ _ _ _) ⟨wV_X6_join, wL_X6_join⟩ wM_X6_202 (gCX6 _ _ _ _ _) rfl (A_23 hw) rfl ⟨le_t rfl, le_t rfl⟩ ⟨le_t rfl, le_t rfl⟩ rfl (le_t rfl) fun μ471 T472 F473 h474 => ?_
          refine mr_lvS (lv' := [(0, .ref 23), (1, iv z300), (2, iv z304), (3, iv z308)]) (List.forall_mem_cons.mpr ⟨rfl, List.forall_mem_cons.mpr ⟨rfl, List.forall_mem_cons.mpr ⟨rfl, List.forall_mem_cons.mpr ⟨rfl, fun _ h => absurd h List.not_mem_nil⟩⟩⟩⟩) ?_
          exact J343 μ471 T472 (mF.call mF.refl F473 rfl) (by rw [(F473.f (A_23 hw) rfl q_f_at)]; exact (vc_X6_expect_g_2 hq0 hq2 ht_f_at ht_f_end ht_f_ft)) (by rw [(F473.f (A_23 hw) rfl q_f_at)]; exact (vc_X6_readRepeat_g_31 hq0 hq2 ht_f_at ht_f_end ht_f_ft)) (by rw [(F473.f (A_23 hw) rfl q_f_ft)]; exact (vc_X6_readRepeat_g_32 hq2 hq0 ht_f_at ht_f_end ht_f_ft)) (by rw [(F473.f (A_23 hw) rfl q_f_ft), (F473.f (A_23 hw) rfl q_f_at)]; exact (vc_X6_readRepeat_g_33 hq0 hq2 ht_f_at ht_f_end ht_f_ft))
        have h475 : 0 ≤ z300 ∧ z300 ≤ 0 := (vc_X12_ring_22 h463 h301)
        refine mr_iload_n (pc := 67) (z := z304) dX6_readRepeat_67 rfl rfl ?_
        refine mr_if_eq (pc := 68) (tgt := 83) dX6_readRepeat_68 (by decide) (r32 h305 rfl) (fun h476 => ?_) (fun h476 => ?_)
        · have h477 : 0 ≤ z304 ∧ z304 ≤ 0 := (vc_X12_ring_22 h476 h305)
          refine mr_lvS (lv' := [(0, .ref 23), (1, iv z300), (2, iv z304), (3, iv z308)]) (List.forall_mem_cons.mpr ⟨rfl, List.forall_mem_cons.mpr ⟨rfl, List.forall_mem_cons.mpr ⟨rfl, List.forall_mem_cons.mpr ⟨rfl, fun _ h => absurd h List.not_mem_nil⟩⟩⟩⟩) ?_
          exact J343 μ hT mF.refl (by rw [q_f_at]; exact (vc_X6_expect_g_2 hq0 hq2 ht_f_at ht_f_end ht_f_ft)) (by rw [q_f_at]; exact (vc_X6_readRepeat_g_31 hq0 hq2 ht_f_at ht_f_end ht_f_ft)) (by rw [q_f_ft]; exact (vc_X6_readRepeat_g_32 hq2 hq0 ht_f_at ht_f_end ht_f_ft)) (by rw [q_f_ft, q_f_at]; exact (vc_X6_readRepeat_g_33 hq0 hq2 ht_f_at ht_f_end ht_f_ft))
        have h478 : 1 ≤ z304 ∧ z304 ≤ 1 := (vc_X12_ring_24 h476 h305)
        refine sv_aload_n (pc := 71) dX6_readRepeat_71 rfl rfl ?_
        refine sv_aload_n (pc := 72) dX6_readRepeat_72 rfl rfl ?_
        refine gf_X6_17 (pc := 73) dX6_readRepeat_73 wF_X6_183 (A_23 hw) hT fun z479 q480 h481 => ?_
        refine sv_aload_n (pc := 76) dX6_readRepeat_76 rfl rfl ?_
        refine gf_X6_16 (pc := 77) dX6_readRepeat_77 wF_X6_179 (A_23 hw) hT fun z482 q483 h484 => ?_
        refine mr_cVV (pc := 80) (c_X6_join hw hT h481 h484) (gOk _ _ _ _ _) dX6_readRepeat_80 (tX6_join _ _ _ _ _) ⟨wV_X6_join, wL_X6_join⟩ wM_X6_202 (gCX6 _ _ _ _ _) rfl (A_23 hw) rfl ⟨le_t rfl, le_t rfl⟩ ⟨le_t rfl, le_t rfl⟩ rfl (le_t rfl) fun μ485 T486 F487 h488 => ?_
        refine mr_lvS (lv' := [(0, .ref 23), (1, iv z300), (2, iv z304), (3, iv z308)]) (List.forall_mem_cons.mpr ⟨rfl, List.forall_mem_cons.mpr ⟨rfl, List.forall_mem_cons.mpr ⟨rfl, List.forall_mem_cons.mpr ⟨rfl, fun _ h => absurd h List.not_mem_nil⟩⟩⟩⟩) ?_
        exact J343 μ485 T486 (mF.call mF.refl F487 rfl) (by rw [(F487.f (A_23 hw) rfl q_f_at)]; exact (vc_X6_expect_g_2 hq0 hq2 ht_f_at ht_f_end ht_f_ft)) (by rw [(F487.f (A_23 hw) rfl q_f_at)]; exact (vc_X6_readRepeat_g_31 hq0 hq2 ht_f_at ht_f_end ht_f_ft)) (by rw [(F487.f (A_23 hw) rfl q_f_ft)]; exact (vc_X6_readRepeat_g_32 hq2 hq0 ht_f_at ht_f_end ht_f_ft)) (by rw [(F487.f (A_23 hw) rfl q_f_ft), (F487.f (A_23 hw) rfl q_f_at)]; exact (vc_X6_readRepeat_g_33 hq0 hq2 ht_f_at ht_f_end ht_f_ft))
      refine mr_icmp_ne (pc := 54) (tgt := 61) dX6_readRepeat_54 (by decide) h298 (r32 (rR (x := 1063)) rfl) (fun h489 => ?_) (fun h489 => ?_)
      · refine mr_iconst (pc := 61) (z := 0) dX6_readRepeat_61 ?_
        refine mr_lvS (lv' := [(0, .ref 23), (1, iv z300), (2, iv z304)]) (List.forall_mem_cons.mpr ⟨rfl, List.forall_mem_cons.mpr ⟨rfl, List.forall_mem_cons.mpr ⟨rfl, fun _ h => absurd h List.not_mem_nil⟩⟩⟩) ?_
        exact J310 0 (rW (c := 0) (d := 1) (rR (x := 0)) rfl)
      have h490 : 1063 ≤ z296 ∧ z296 ≤ 1063 := (vc_X6_readRepeat_g_34 h489 h298)
      refine mr_iconst (pc := 57) (z := 1) dX6_readRepeat_57 ?_
      refine sv_goto (pc := 58) (tgt := 62) dX6_readRepeat_58 (by decide) ?_
      refine mr_lvS (lv' := [(0, .ref 23), (1, iv z300), (2, iv z304)]) (List.forall_mem_cons.mpr ⟨rfl, List.forall_mem_cons.mpr ⟨rfl, List.forall_mem_cons.mpr ⟨rfl, fun _ h => absurd h List.not_mem_nil⟩⟩⟩) ?_
      exact J310 1 (rW (c := 0) (d := 1) (rR (x := 1)) rfl)
    refine mr_icmp_ne (pc := 33) (tgt := 40) dX6_readRepeat_33 (by decide) h298 (r32 (rR (x := 1043)) rfl) (fun h491 => ?_) (fun h491 => ?_)
    · refine mr_iconst (pc := 40) (z := 0) dX6_readRepeat_40 ?_
      refine mr_lvS (lv' := [(0, .ref 23), (1, iv z300)]) (List.forall_mem_cons.mpr ⟨rfl, List.forall_mem_cons.mpr ⟨rfl, fun _ h => absurd h List.not_mem_nil⟩⟩) ?_
      exact J306 0 (rW (c := 0) (d := 1) (rR (x := 0)) rfl)
    have h492 : 1043 ≤ z296 ∧ z296 ≤ 1043 := (vc_X6_readRepeat_g_35 h491 h298)
    refine mr_iconst (pc := 36) (z := 1) dX6_readRepeat_36 ?_
    refine sv_goto (pc := 37) (tgt := 41) dX6_readRepeat_37 (by decide) ?_
    refine mr_lvS (lv' := [(0, .ref 23), (1, iv z300)]) (List.forall_mem_cons.mpr ⟨rfl, List.forall_mem_cons.mpr ⟨rfl, fun _ h => absurd h List.not_mem_nil⟩⟩) ?_
    exact J306 1 (rW (c := 0) (d := 1) (rR (x := 1)) rfl)
  refine mr_icmp_ne (pc := 12) (tgt := 19) dX6_readRepeat_12 (by decide) h298 (r32 (rR (x := 1042)) rfl) (fun h493 => ?_) (fun h493 => ?_)
  · refine mr_iconst (pc := 19) (z := 0) dX6_readRepeat_19 ?_
    exact J302 0 (rW (c := 0) (d := 1) (rR (x := 0)) rfl)
  have h494 : 1042 ≤ z296 ∧ z296 ≤ 1042 := (vc_X6_readRepeat_g_36 h493 h298)
  refine mr_iconst (pc := 15) (z := 1) dX6_readRepeat_15 ?_
  refine sv_goto (pc := 16) (tgt := 20) dX6_readRepeat_16 (by decide) ?_
  exact J302 1 (rW (c := 0) (d := 1) (rR (x := 1)) rfl)
theorem vc_X6_readGroup_6_2 {p1 : Int} (h0 : p1 < 6) (h1 : 6 ≤ p1 ∧ p1 ≤ 6) : False := by omega
set_option maxRecDepth 4000 in
set_option maxHeartbeats 4000000 in
theorem c_X6_readGroup_6 {l : Launch} {D : va_G} {c : Nat → ClassId} {H0 : Heap} {sa : Nat × Nat × (Nat → Int32)} {w : mW} {μ : mM} (hw : mWF w) (hT : mT w μ) {p1 : Int} (hp1 : 6 ≤ p1 ∧ p1 ≤ 6) {f_at : Int} (q_f_at : μ 23 9 = f_at) {f_end : Int} (q_f_end : μ 23 8 = f_end) {f_ft : Int} (q_f_ft : μ 23 18 = f_ft) {f_te : Int} (q_f_te : μ 24 (f_end.toNat) = f_te) (hq0 : f_at ≤ f_end) (hq1 : f_te = -1) (hq2 : f_ft = 0 ∨ f_at = f_end) : sC (gG l D c H0 sa) mX6_readGroup 2 0 0 [.ref 23, iv p1] (mk w μ) (qV w [23009, 23018, 23019] μ (fun μ1 => ∃ o_at o_ft : Int, μ1 23 9 = o_at ∧ μ1 23 18 = o_ft ∧ (o_at ≤ f_end) ∧ (f_at ≤ o_at) ∧ (f_ft = 0 ∨ 1 ≤ o_ft) ∧ (o_ft = 0 ∨ o_at = f_end) ∧ True)) := by
  refine sC.of rfl (by decide) (le_t rfl) ?_
  have ht_f_at : (0 ≤ f_at ∧ f_at ≤ 1000) := by rw [← q_f_at]; exact hT 23 23 (A_23 hw) 9
  have ht_f_end : (0 ≤ f_end ∧ f_end ≤ 1000) := by rw [← q_f_end]; exact hT 23 23 (A_23 hw) 8
  have ht_f_ft : (0 ≤ f_ft ∧ f_ft ≤ 4) := by rw [← q_f_ft]; exact hT 23 23 (A_23 hw) 18
  have ht_f_te : ((-2147483648) ≤ f_te ∧ f_te ≤ 2147483647) := by rw [← q_f_te]; exact hT 24 24 (A_24 hw) (f_end.toNat)
  have h1 : (-1) ≤ f_te ∧ f_te ≤ (-1) := (vc_X6_take_g_1 hq1 ht_f_te)
  refine mr_lvE (lv' := [(0, .ref 23), (1, iv p1)]) rfl ?_
  refine mr_iload_n (pc := 0) (z := p1) dX6_readGroup_0 rfl rfl ?_
  refine mr_bipush (pc := 1) (z := 6) dX6_readGroup_1 (by decide) ?_
  refine mr_icmp_lt (pc := 3) (tgt := 12) dX6_readGroup_3 (by decide) (r32 hp1 rfl) (r32 (rR (x := 6)) rfl) (fun h => ((vc_X6_readGroup_6_2 h hp1)).elim) (fun _ => ?_)
  refine sv_aload_n (pc := 6) dX6_readGroup_6 rfl rfl ?_
  refine mr_iconst (pc := 7) (z := 4) dX6_readGroup_7 ?_
  refine mr_cVV (pc := 8) (c_X6_fail_g hw hT (rW (c := 1) (d := 4) (rR (x := 4)) rfl) q_f_at q_f_end q_f_ft (vc_X6_expect_g_2 hq0 hq2 ht_f_at ht_f_end ht_f_ft)) (gOk _ _ _ _ _) dX6_readGroup_8 (tX6_fail _ _ _ _ _) ⟨wV_X6_fail, wL_X6_fail⟩ wM_X6_123 (gCX6 _ _ _ _ _) rfl (A_23 hw) rfl ⟨le_t rfl, le_t rfl⟩ ⟨le_t rfl, le_t rfl⟩ rfl (le_t rfl) fun μ41 T42 F43 h44 => ?_
  obtain ⟨z45, z47, q46, q48, h49⟩ := h44
  have h50 : (0 ≤ z45 ∧ z45 ≤ 1000) := by rw [← q46]; exact T42 23 23 (A_23 hw) 9
  have h51 : (0 ≤ z47 ∧ z47 ≤ 4) := by rw [← q48]; exact T42 23 23 (A_23 hw) 18
  have q52 : μ41 23 9 = f_end := q46.trans h49.1
  have h53 : 1 ≤ z47 ∧ z47 ≤ 4 := (vc_X12_next_128 h49.2.1 h51)
  exact mr_vret dX6_readGroup_11 rfl (le_t rfl) (le_t rfl) T42 (mF.call mF.refl F43 rfl) ⟨f_end, z47, q52, q48, (vc_X6_readPlace_g_12 hq0 hq2 h49.1 ht_f_at ht_f_end ht_f_ft h50), (vc_X6_readPlace_g_13 hq0 hq2 h49.1 ht_f_at ht_f_end ht_f_ft h50), (vc_X6_readPlace_g_14 hq2 h49.2.1 hq0 h49.1 ht_f_at ht_f_end ht_f_ft h50 h53), (vc_X6_readPlace_g_15 hq0 hq2 h49.1 h49.2.1 ht_f_at ht_f_end ht_f_ft h50 h53), trivial⟩
theorem vc_X6_readBranches_6_2 {z9429 : Int} (h0 : (1002 - z9429) < ((0 : Nat) : Int)) (h1 : 0 ≤ z9429 ∧ z9429 ≤ 1001) : False := by omega
theorem vc_X6_readBranches_6_3 {z9429 : Int} (h0 : 1000 < z9429) (h1 : 0 ≤ z9429 ∧ z9429 ≤ 1001) : 1001 ≤ z9429 ∧ z9429 ≤ 1001 := by omega
theorem vc_X6_readBranches_6_4 {f_at f_end f_ft f_la f_lf : Int} (h0 : f_at ≤ f_end) (h1 : f_ft = 0 ∨ f_at = f_end) (h2 : f_la ≤ f_end) (h3 : f_at ≤ f_la) (h4 : f_lf = 0 ∨ f_la = f_end) (h5 : f_ft = 0 ∨ 1 ≤ f_lf) (h6 : 0 ≤ f_at ∧ f_at ≤ 1000) (h7 : 0 ≤ f_end ∧ f_end ≤ 1000) (h8 : 0 ≤ f_ft ∧ f_ft ≤ 4) (h9 : 0 ≤ f_la ∧ f_la ≤ 1000) (h10 : 0 ≤ f_lf ∧ f_lf ≤ 4) : f_la ≤ f_end := by omega
theorem vc_X6_readBranches_6_5 {f_at f_end f_ft f_la f_lf : Int} (h0 : f_at ≤ f_end) (h1 : f_ft = 0 ∨ f_at = f_end) (h2 : f_la ≤ f_end) (h3 : f_at ≤ f_la) (h4 : f_lf = 0 ∨ f_la = f_end) (h5 : f_ft = 0 ∨ 1 ≤ f_lf) (h6 : 0 ≤ f_at ∧ f_at ≤ 1000) (h7 : 0 ≤ f_end ∧ f_end ≤ 1000) (h8 : 0 ≤ f_ft ∧ f_ft ≤ 4) (h9 : 0 ≤ f_la ∧ f_la ≤ 1000) (h10 : 0 ≤ f_lf ∧ f_lf ≤ 4) : f_at ≤ f_la := by omega
theorem vc_X6_readBranches_6_6 {f_at f_end f_ft f_la f_lf : Int} (h0 : f_ft = 0 ∨ f_at = f_end) (h1 : f_ft = 0 ∨ 1 ≤ f_lf) (h2 : f_lf = 0 ∨ f_la = f_end) (h3 : f_at ≤ f_end) (h4 : f_la ≤ f_end) (h5 : f_at ≤ f_la) (h6 : 0 ≤ f_at ∧ f_at ≤ 1000) (h7 : 0 ≤ f_end ∧ f_end ≤ 1000) (h8 : 0 ≤ f_ft ∧ f_ft ≤ 4) (h9 : 0 ≤ f_la ∧ f_la ≤ 1000) (h10 : 0 ≤ f_lf ∧ f_lf ≤ 4) : f_ft = 0 ∨ 1 ≤ f_lf := by omega
theorem vc_X6_readBranches_6_7 {f_at f_end f_ft f_la f_lf : Int} (h0 : f_at ≤ f_end) (h1 : f_ft = 0 ∨ f_at = f_end) (h2 : f_la ≤ f_end) (h3 : f_at ≤ f_la) (h4 : f_ft = 0 ∨ 1 ≤ f_lf) (h5 : f_lf = 0 ∨ f_la = f_end) (h6 : 0 ≤ f_at ∧ f_at ≤ 1000) (h7 : 0 ≤ f_end ∧ f_end ≤ 1000) (h8 : 0 ≤ f_ft ∧ f_ft ≤ 4) (h9 : 0 ≤ f_la ∧ f_la ≤ 1000) (h10 : 0 ≤ f_lf ∧ f_lf ≤ 4) : f_lf = 0 ∨ f_la = f_end := by omega
theorem vc_X6_readBranches_6_8 {z9429 : Int} (h0 : z9429 ≤ 1000) (h1 : 0 ≤ z9429 ∧ z9429 ≤ 1001) : 0 ≤ z9429 ∧ z9429 ≤ 1000 := by omega
theorem vc_X6_readBranches_6_12 {f_at f_end f_ft f_la f_lf f_ma f_mf : Int} (h0 : f_at ≤ f_end) (h1 : f_ft = 0 ∨ f_at = f_end) (h2 : f_la ≤ f_end) (h3 : f_lf = 0 ∨ f_la = f_end) (h4 : f_ma ≤ f_end) (h5 : f_at ≤ f_ma) (h6 : f_mf = 0 ∨ f_ma = f_end) (h7 : f_at ≤ f_la) (h8 : f_ft = 0 ∨ 1 ≤ f_lf) (h9 : f_ft = 0 ∨ 1 ≤ f_mf) (h10 : 0 ≤ f_at ∧ f_at ≤ 1000) (h11 : 0 ≤ f_end ∧ f_end ≤ 1000) (h12 : 0 ≤ f_ft ∧ f_ft ≤ 4) (h13 : 0 ≤ f_la ∧ f_la ≤ 1000) (h14 : 0 ≤ f_lf ∧ f_lf ≤ 4) (h15 : 0 ≤ f_ma ∧ f_ma ≤ 1000) (h16 : 0 ≤ f_mf ∧ f_mf ≤ 4) : f_ma ≤ f_end := by omega
theorem vc_X6_readBranches_6_14 {f_at f_end f_ft f_la f_lf f_ma f_mf z11675 z11676 : Int} (h0 : f_at ≤ f_end) (h1 : f_ft = 0 ∨ f_at = f_end) (h2 : f_la ≤ f_end) (h3 : f_lf = 0 ∨ f_la = f_end) (h4 : f_ma ≤ f_end) (h5 : f_mf = 0 ∨ f_ma = f_end) (h6 : z11676 ≤ f_end) (h7 : f_ma ≤ z11676) (h8 : (z11675 = 1 → (1124 : Int) = -1 ∨ f_ma + 1 ≤ z11676)) (h9 : (z11675 = 0 → z11676 = f_ma)) (h10 : f_at ≤ f_la) (h11 : f_ft = 0 ∨ 1 ≤ f_lf) (h12 : f_at ≤ f_ma) (h13 : f_ft = 0 ∨ 1 ≤ f_mf) (h14 : 0 ≤ f_at ∧ f_at ≤ 1000) (h15 : 0 ≤ f_end ∧ f_end ≤ 1000) (h16 : 0 ≤ f_ft ∧ f_ft ≤ 4) (h17 : 0 ≤ f_la ∧ f_la ≤ 1000) (h18 : 0 ≤ f_lf ∧ f_lf ≤ 4) (h19 : 0 ≤ f_ma ∧ f_ma ≤ 1000) (h20 : 0 ≤ f_mf ∧ f_mf ≤ 4) (h21 : 0 ≤ z11675 ∧ z11675 ≤ 1) (h22 : 0 ≤ z11676 ∧ z11676 ≤ 1000) : z11676 ≤ f_end := by omega
theorem vc_X6_readBranches_6_15 {f_at f_end f_ft f_la f_lf f_ma f_mf z11675 z11676 : Int} (h0 : f_at ≤ f_end) (h1 : f_ft = 0 ∨ f_at = f_end) (h2 : f_at ≤ f_la) (h3 : f_at ≤ f_ma) (h4 : z11676 ≤ f_end) (h5 : f_ma ≤ z11676) (h6 : (z11675 = 1 → (1124 : Int) = -1 ∨ f_ma + 1 ≤ z11676)) (h7 : (z11675 = 0 → z11676 = f_ma)) (h8 : f_la ≤ f_end) (h9 : f_ft = 0 ∨ 1 ≤ f_lf) (h10 : f_lf = 0 ∨ f_la = f_end) (h11 : f_ma ≤ f_end) (h12 : f_ft = 0 ∨ 1 ≤ f_mf) (h13 : f_mf = 0 ∨ f_ma = f_end) (h14 : 0 ≤ f_at ∧ f_at ≤ 1000) (h15 : 0 ≤ f_end ∧ f_end ≤ 1000) (h16 : 0 ≤ f_ft ∧ f_ft ≤ 4) (h17 : 0 ≤ f_la ∧ f_la ≤ 1000) (h18 : 0 ≤ f_lf ∧ f_lf ≤ 4) (h19 : 0 ≤ f_ma ∧ f_ma ≤ 1000) (h20 : 0 ≤ f_mf ∧ f_mf ≤ 4) (h21 : 0 ≤ z11675 ∧ z11675 ≤ 1) (h22 : 0 ≤ z11676 ∧ z11676 ≤ 1000) : f_at ≤ z11676 := by omega
theorem vc_X6_readBranches_6_16 {f_at f_end f_ft f_la f_lf f_ma f_mf z11675 z11676 : Int} (h0 : f_ft = 0 ∨ f_at = f_end) (h1 : f_ft = 0 ∨ 1 ≤ f_lf) (h2 : f_ft = 0 ∨ 1 ≤ f_mf) (h3 : f_mf = 0 ∨ f_ma = f_end) (h4 : f_at ≤ f_end) (h5 : f_la ≤ f_end) (h6 : f_at ≤ f_la) (h7 : f_lf = 0 ∨ f_la = f_end) (h8 : f_ma ≤ f_end) (h9 : f_at ≤ f_ma) (h10 : z11676 ≤ f_end) (h11 : f_ma ≤ z11676) (h12 : (z11675 = 1 → (1124 : Int) = -1 ∨ f_ma + 1 ≤ z11676)) (h13 : (z11675 = 0 → z11676 = f_ma)) (h14 : 0 ≤ f_at ∧ f_at ≤ 1000) (h15 : 0 ≤ f_end ∧ f_end ≤ 1000) (h16 : 0 ≤ f_ft ∧ f_ft ≤ 4) (h17 : 0 ≤ f_la ∧ f_la ≤ 1000) (h18 : 0 ≤ f_lf ∧ f_lf ≤ 4) (h19 : 0 ≤ f_ma ∧ f_ma ≤ 1000) (h20 : 0 ≤ f_mf ∧ f_mf ≤ 4) (h21 : 0 ≤ z11675 ∧ z11675 ≤ 1) (h22 : 0 ≤ z11676 ∧ z11676 ≤ 1000) : f_ft = 0 ∨ 1 ≤ f_mf := by omega
theorem vc_X6_readBranches_6_17 {f_at f_end f_ft f_la f_lf f_ma f_mf z11675 z11676 : Int} (h0 : f_at ≤ f_end) (h1 : f_ft = 0 ∨ f_at = f_end) (h2 : f_la ≤ f_end) (h3 : f_lf = 0 ∨ f_la = f_end) (h4 : f_ma ≤ f_end) (h5 : f_ft = 0 ∨ 1 ≤ f_mf) (h6 : f_mf = 0 ∨ f_ma = f_end) (h7 : z11676 ≤ f_end) (h8 : f_ma ≤ z11676) (h9 : (z11675 = 1 → (1124 : Int) = -1 ∨ f_ma + 1 ≤ z11676)) (h10 : (z11675 = 0 → z11676 = f_ma)) (h11 : f_at ≤ f_la) (h12 : f_ft = 0 ∨ 1 ≤ f_lf) (h13 : f_at ≤ f_ma) (h14 : 0 ≤ f_at ∧ f_at ≤ 1000) (h15 : 0 ≤ f_end ∧ f_end ≤ 1000) (h16 : 0 ≤ f_ft ∧ f_ft ≤ 4) (h17 : 0 ≤ f_la ∧ f_la ≤ 1000) (h18 : 0 ≤ f_lf ∧ f_lf ≤ 4) (h19 : 0 ≤ f_ma ∧ f_ma ≤ 1000) (h20 : 0 ≤ f_mf ∧ f_mf ≤ 4) (h21 : 0 ≤ z11675 ∧ z11675 ≤ 1) (h22 : 0 ≤ z11676 ∧ z11676 ≤ 1000) : f_mf = 0 ∨ z11676 = f_end := by omega
theorem vc_X6_readBranches_6_18 {N z9429 : Int} (h0 : (1002 - z9429) < N + 1) (h1 : z9429 ≤ 1000) (h2 : 0 ≤ z9429 ∧ z9429 ≤ 1000) : (1002 - (z9429 + 1)) < N := by omega
theorem vc_X6_readBranches_6_25 {z11689 z11696 : Int} (h0 : z11696 = 0) (h1 : (z11696 = 1 → z11689 = -2 ∨ z11689 = 7 ∨ z11689 = 1040)) (h2 : (-2147483648) ≤ z11689 ∧ z11689 ≤ 2147483647) (h3 : 0 ≤ z11696 ∧ z11696 ≤ 1) : 0 ≤ z11696 ∧ z11696 ≤ 0 := by omega
theorem vc_X6_readBranches_6_26 {z11689 z11696 : Int} (h0 : ¬ z11696 = 0) (h1 : (z11696 = 1 → z11689 = -2 ∨ z11689 = 7 ∨ z11689 = 1040)) (h2 : (-2147483648) ≤ z11689 ∧ z11689 ≤ 2147483647) (h3 : 0 ≤ z11696 ∧ z11696 ≤ 1) : 1 ≤ z11696 ∧ z11696 ≤ 1 := by omega
theorem vc_X6_readBranches_6_27 {z11689 z11696 : Int} (h0 : (z11696 = 1 → z11689 = -2 ∨ z11689 = 7 ∨ z11689 = 1040)) (h1 : ¬ z11696 = 0) (h2 : (-2147483648) ≤ z11689 ∧ z11689 ≤ 2147483647) (h3 : 1 ≤ z11696 ∧ z11696 ≤ 1) : z11696 = 1 := by omega
theorem vc_X6_readBranches_6_28 {f_at f_end f_ft f_la f_lf f_ma f_mf z11733 z11738 : Int} (h0 : f_at ≤ f_end) (h1 : f_ft = 0 ∨ f_at = f_end) (h2 : f_la ≤ f_end) (h3 : f_lf = 0 ∨ f_la = f_end) (h4 : f_ma ≤ f_end) (h5 : f_mf = 0 ∨ f_ma = f_end) (h6 : z11733 ≤ f_end) (h7 : f_at ≤ z11733) (h8 : z11738 = 0 ∨ z11733 = f_end) (h9 : f_at ≤ f_la) (h10 : f_ft = 0 ∨ 1 ≤ f_lf) (h11 : f_at ≤ f_ma) (h12 : f_ft = 0 ∨ 1 ≤ f_mf) (h13 : f_ft = 0 ∨ 1 ≤ z11738) (h14 : 0 ≤ f_at ∧ f_at ≤ 1000) (h15 : 0 ≤ f_end ∧ f_end ≤ 1000) (h16 : 0 ≤ f_ft ∧ f_ft ≤ 4) (h17 : 0 ≤ f_la ∧ f_la ≤ 1000) (h18 : 0 ≤ f_lf ∧ f_lf ≤ 4) (h19 : 0 ≤ f_ma ∧ f_ma ≤ 1000) (h20 : 0 ≤ f_mf ∧ f_mf ≤ 4) (h21 : 0 ≤ z11733 ∧ z11733 ≤ 1000) (h22 : 0 ≤ z11738 ∧ z11738 ≤ 4) : z11733 ≤ f_end := by omega
theorem vc_X6_readBranches_6_29 {f_at f_end f_ft f_la f_lf f_ma f_mf z11733 z11738 : Int} (h0 : f_at ≤ f_end) (h1 : f_ft = 0 ∨ f_at = f_end) (h2 : f_la ≤ f_end) (h3 : f_lf = 0 ∨ f_la = f_end) (h4 : f_ma ≤ f_end) (h5 : f_mf = 0 ∨ f_ma = f_end) (h6 : z11733 ≤ f_end) (h7 : f_at ≤ z11733) (h8 : f_ft = 0 ∨ 1 ≤ z11738) (h9 : z11738 = 0 ∨ z11733 = f_end) (h10 : f_at ≤ f_la) (h11 : f_ft = 0 ∨ 1 ≤ f_lf) (h12 : f_at ≤ f_ma) (h13 : f_ft = 0 ∨ 1 ≤ f_mf) (h14 : 0 ≤ f_at ∧ f_at ≤ 1000) (h15 : 0 ≤ f_end ∧ f_end ≤ 1000) (h16 : 0 ≤ f_ft ∧ f_ft ≤ 4) (h17 : 0 ≤ f_la ∧ f_la ≤ 1000) (h18 : 0 ≤ f_lf ∧ f_lf ≤ 4) (h19 : 0 ≤ f_ma ∧ f_ma ≤ 1000) (h20 : 0 ≤ f_mf ∧ f_mf ≤ 4) (h21 : 0 ≤ z11733 ∧ z11733 ≤ 1000) (h22 : 0 ≤ z11738 ∧ z11738 ≤ 4) : z11738 = 0 ∨ z11733 = f_end := by omega
theorem vc_X6_readBranches_6_30 {f_at f_end f_ft f_la f_lf f_ma f_mf z11733 z11738 z11747 z11749 : Int} (h0 : f_at ≤ f_end) (h1 : f_ft = 0 ∨ f_at = f_end) (h2 : f_la ≤ f_end) (h3 : f_lf = 0 ∨ f_la = f_end) (h4 : f_ma ≤ f_end) (h5 : f_mf = 0 ∨ f_ma = f_end) (h6 : z11733 ≤ f_end) (h7 : z11738 = 0 ∨ z11733 = f_end) (h8 : z11747 ≤ f_end) (h9 : z11733 ≤ z11747) (h10 : z11749 = 0 ∨ z11747 = f_end) (h11 : f_at ≤ f_la) (h12 : f_ft = 0 ∨ 1 ≤ f_lf) (h13 : f_at ≤ f_ma) (h14 : f_ft = 0 ∨ 1 ≤ f_mf) (h15 : f_at ≤ z11733) (h16 : f_ft = 0 ∨ 1 ≤ z11738) (h17 : z11738 = 0 ∨ 1 ≤ z11749) (h18 : 0 ≤ f_at ∧ f_at ≤ 1000) (h19 : 0 ≤ f_end ∧ f_end ≤ 1000) (h20 : 0 ≤ f_ft ∧ f_ft ≤ 4) (h21 : 0 ≤ f_la ∧ f_la ≤ 1000) (h22 : 0 ≤ f_lf ∧ f_lf ≤ 4) (h23 : 0 ≤ f_ma ∧ f_ma ≤ 1000) (h24 : 0 ≤ f_mf ∧ f_mf ≤ 4) (h25 : 0 ≤ z11733 ∧ z11733 ≤ 1000) (h26 : 0 ≤ z11738 ∧ z11738 ≤ 4) (h27 : 0 ≤ z11747 ∧ z11747 ≤ 1000) (h28 : 0 ≤ z11749 ∧ z11749 ≤ 4) : z11747 ≤ f_end := by omega
theorem vc_X6_readBranches_6_31 {f_at f_end f_ft f_la f_lf f_ma f_mf z11733 z11738 z11747 z11749 : Int} (h0 : f_at ≤ f_end) (h1 : f_ft = 0 ∨ f_at = f_end) (h2 : f_at ≤ f_la) (h3 : f_at ≤ f_ma) (h4 : f_at ≤ z11733) (h5 : z11747 ≤ f_end) (h6 : z11733 ≤ z11747) (h7 : z11749 = 0 ∨ z11747 = f_end) (h8 : f_la ≤ f_end) (h9 : f_ft = 0 ∨ 1 ≤ f_lf) (h10 : f_lf = 0 ∨ f_la = f_end) (h11 : f_ma ≤ f_end) (h12 : f_ft = 0 ∨ 1 ≤ f_mf) (h13 : f_mf = 0 ∨ f_ma = f_end) (h14 : z11733 ≤ f_end) (h15 : f_ft = 0 ∨ 1 ≤ z11738) (h16 : z11738 = 0 ∨ z11733 = f_end) (h17 : z11738 = 0 ∨ 1 ≤ z11749) (h18 : 0 ≤ f_at ∧ f_at ≤ 1000) (h19 : 0 ≤ f_end ∧ f_end ≤ 1000) (h20 : 0 ≤ f_ft ∧ f_ft ≤ 4) (h21 : 0 ≤ f_la ∧ f_la ≤ 1000) (h22 : 0 ≤ f_lf ∧ f_lf ≤ 4) (h23 : 0 ≤ f_ma ∧ f_ma ≤ 1000) (h24 : 0 ≤ f_mf ∧ f_mf ≤ 4) (h25 : 0 ≤ z11733 ∧ z11733 ≤ 1000) (h26 : 0 ≤ z11738 ∧ z11738 ≤ 4) (h27 : 0 ≤ z11747 ∧ z11747 ≤ 1000) (h28 : 0 ≤ z11749 ∧ z11749 ≤ 4) : f_at ≤ z11747 := by omega
theorem vc_X6_readBranches_6_32 {f_at f_end f_ft f_la f_lf f_ma f_mf z11733 z11738 z11747 z11749 : Int} (h0 : f_ft = 0 ∨ f_at = f_end) (h1 : f_ft = 0 ∨ 1 ≤ f_lf) (h2 : f_ft = 0 ∨ 1 ≤ f_mf) (h3 : f_ft = 0 ∨ 1 ≤ z11738) (h4 : z11738 = 0 ∨ 1 ≤ z11749) (h5 : z11749 = 0 ∨ z11747 = f_end) (h6 : f_at ≤ f_end) (h7 : f_la ≤ f_end) (h8 : f_at ≤ f_la) (h9 : f_lf = 0 ∨ f_la = f_end) (h10 : f_ma ≤ f_end) (h11 : f_at ≤ f_ma) (h12 : f_mf = 0 ∨ f_ma = f_end) (h13 : z11733 ≤ f_end) (h14 : f_at ≤ z11733) (h15 : z11738 = 0 ∨ z11733 = f_end) (h16 : z11747 ≤ f_end) (h17 : z11733 ≤ z11747) (h18 : 0 ≤ f_at ∧ f_at ≤ 1000) (h19 : 0 ≤ f_end ∧ f_end ≤ 1000) (h20 : 0 ≤ f_ft ∧ f_ft ≤ 4) (h21 : 0 ≤ f_la ∧ f_la ≤ 1000) (h22 : 0 ≤ f_lf ∧ f_lf ≤ 4) (h23 : 0 ≤ f_ma ∧ f_ma ≤ 1000) (h24 : 0 ≤ f_mf ∧ f_mf ≤ 4) (h25 : 0 ≤ z11733 ∧ z11733 ≤ 1000) (h26 : 0 ≤ z11738 ∧ z11738 ≤ 4) (h27 : 0 ≤ z11747 ∧ z11747 ≤ 1000) (h28 : 0 ≤ z11749 ∧ z11749 ≤ 4) : f_ft = 0 ∨ 1 ≤ z11749 := by omega
theorem vc_X6_readBranches_6_33 {f_at f_end f_ft f_la f_lf f_ma f_mf z11733 z11738 z11747 z11749 : Int} (h0 : f_at ≤ f_end) (h1 : f_ft = 0 ∨ f_at = f_end) (h2 : f_la ≤ f_end) (h3 : f_lf = 0 ∨ f_la = f_end) (h4 : f_ma ≤ f_end) (h5 : f_mf = 0 ∨ f_ma = f_end) (h6 : z11733 ≤ f_end) (h7 : z11738 = 0 ∨ z11733 = f_end) (h8 : z11747 ≤ f_end) (h9 : z11733 ≤ z11747) (h10 : z11738 = 0 ∨ 1 ≤ z11749) (h11 : z11749 = 0 ∨ z11747 = f_end) (h12 : f_at ≤ f_la) (h13 : f_ft = 0 ∨ 1 ≤ f_lf) (h14 : f_at ≤ f_ma) (h15 : f_ft = 0 ∨ 1 ≤ f_mf) (h16 : f_at ≤ z11733) (h17 : f_ft = 0 ∨ 1 ≤ z11738) (h18 : 0 ≤ f_at ∧ f_at ≤ 1000) (h19 : 0 ≤ f_end ∧ f_end ≤ 1000) (h20 : 0 ≤ f_ft ∧ f_ft ≤ 4) (h21 : 0 ≤ f_la ∧ f_la ≤ 1000) (h22 : 0 ≤ f_lf ∧ f_lf ≤ 4) (h23 : 0 ≤ f_ma ∧ f_ma ≤ 1000) (h24 : 0 ≤ f_mf ∧ f_mf ≤ 4) (h25 : 0 ≤ z11733 ∧ z11733 ≤ 1000) (h26 : 0 ≤ z11738 ∧ z11738 ≤ 4) (h27 : 0 ≤ z11747 ∧ z11747 ≤ 1000) (h28 : 0 ≤ z11749 ∧ z11749 ≤ 4) : z11749 = 0 ∨ z11747 = f_end := by omega
theorem vc_X6_readBranches_6_37 {f_at f_end f_ft f_la f_lf f_ma f_mf : Int} (h0 : f_at ≤ f_end) (h1 : f_ft = 0 ∨ f_at = f_end) (h2 : f_la ≤ f_end) (h3 : f_lf = 0 ∨ f_la = f_end) (h4 : f_ma ≤ f_end) (h5 : f_at ≤ f_ma) (h6 : f_ft = 0 ∨ 1 ≤ f_mf) (h7 : f_mf = 0 ∨ f_ma = f_end) (h8 : f_at ≤ f_la) (h9 : f_ft = 0 ∨ 1 ≤ f_lf) (h10 : 0 ≤ f_at ∧ f_at ≤ 1000) (h11 : 0 ≤ f_end ∧ f_end ≤ 1000) (h12 : 0 ≤ f_ft ∧ f_ft ≤ 4) (h13 : 0 ≤ f_la ∧ f_la ≤ 1000) (h14 : 0 ≤ f_lf ∧ f_lf ≤ 4) (h15 : 0 ≤ f_ma ∧ f_ma ≤ 1000) (h16 : 0 ≤ f_mf ∧ f_mf ≤ 4) : f_mf = 0 ∨ f_ma = f_end := by omega
theorem vc_X6_readBranches_6_38 {f_at f_end f_ft f_la f_lf f_ma f_mf z11821 z11823 : Int} (h0 : f_at ≤ f_end) (h1 : f_ft = 0 ∨ f_at = f_end) (h2 : f_la ≤ f_end) (h3 : f_lf = 0 ∨ f_la = f_end) (h4 : f_ma ≤ f_end) (h5 : f_mf = 0 ∨ f_ma = f_end) (h6 : z11821 ≤ f_end) (h7 : f_ma ≤ z11821) (h8 : z11823 = 0 ∨ z11821 = f_end) (h9 : f_at ≤ f_la) (h10 : f_ft = 0 ∨ 1 ≤ f_lf) (h11 : f_at ≤ f_ma) (h12 : f_ft = 0 ∨ 1 ≤ f_mf) (h13 : f_mf = 0 ∨ 1 ≤ z11823) (h14 : 0 ≤ f_at ∧ f_at ≤ 1000) (h15 : 0 ≤ f_end ∧ f_end ≤ 1000) (h16 : 0 ≤ f_ft ∧ f_ft ≤ 4) (h17 : 0 ≤ f_la ∧ f_la ≤ 1000) (h18 : 0 ≤ f_lf ∧ f_lf ≤ 4) (h19 : 0 ≤ f_ma ∧ f_ma ≤ 1000) (h20 : 0 ≤ f_mf ∧ f_mf ≤ 4) (h21 : 0 ≤ z11821 ∧ z11821 ≤ 1000) (h22 : 0 ≤ z11823 ∧ z11823 ≤ 4) : z11821 ≤ f_end := by omega
theorem vc_X6_readBranches_6_39 {f_at f_end f_ft f_la f_lf f_ma f_mf z11821 z11823 : Int} (h0 : f_at ≤ f_end) (h1 : f_ft = 0 ∨ f_at = f_end) (h2 : f_at ≤ f_la) (h3 : f_at ≤ f_ma) (h4 : z11821 ≤ f_end) (h5 : f_ma ≤ z11821) (h6 : z11823 = 0 ∨ z11821 = f_end) (h7 : f_la ≤ f_end) (h8 : f_ft = 0 ∨ 1 ≤ f_lf) (h9 : f_lf = 0 ∨ f_la = f_end) (h10 : f_ma ≤ f_end) (h11 : f_ft = 0 ∨ 1 ≤ f_mf) (h12 : f_mf = 0 ∨ f_ma = f_end) (h13 : f_mf = 0 ∨ 1 ≤ z11823) (h14 : 0 ≤ f_at ∧ f_at ≤ 1000) (h15 : 0 ≤ f_end ∧ f_end ≤ 1000) (h16 : 0 ≤ f_ft ∧ f_ft ≤ 4) (h17 : 0 ≤ f_la ∧ f_la ≤ 1000) (h18 : 0 ≤ f_lf ∧ f_lf ≤ 4) (h19 : 0 ≤ f_ma ∧ f_ma ≤ 1000) (h20 : 0 ≤ f_mf ∧ f_mf ≤ 4) (h21 : 0 ≤ z11821 ∧ z11821 ≤ 1000) (h22 : 0 ≤ z11823 ∧ z11823 ≤ 4) : f_at ≤ z11821 := by omega
theorem vc_X6_readBranches_6_40 {f_at f_end f_ft f_la f_lf f_ma f_mf z11821 z11823 : Int} (h0 : f_ft = 0 ∨ f_at = f_end) (h1 : f_ft = 0 ∨ 1 ≤ f_lf) (h2 : f_ft = 0 ∨ 1 ≤ f_mf) (h3 : f_mf = 0 ∨ 1 ≤ z11823) (h4 : z11823 = 0 ∨ z11821 = f_end) (h5 : f_at ≤ f_end) (h6 : f_la ≤ f_end) (h7 : f_at ≤ f_la) (h8 : f_lf = 0 ∨ f_la = f_end) (h9 : f_ma ≤ f_end) (h10 : f_at ≤ f_ma) (h11 : f_mf = 0 ∨ f_ma = f_end) (h12 : z11821 ≤ f_end) (h13 : f_ma ≤ z11821) (h14 : 0 ≤ f_at ∧ f_at ≤ 1000) (h15 : 0 ≤ f_end ∧ f_end ≤ 1000) (h16 : 0 ≤ f_ft ∧ f_ft ≤ 4) (h17 : 0 ≤ f_la ∧ f_la ≤ 1000) (h18 : 0 ≤ f_lf ∧ f_lf ≤ 4) (h19 : 0 ≤ f_ma ∧ f_ma ≤ 1000) (h20 : 0 ≤ f_mf ∧ f_mf ≤ 4) (h21 : 0 ≤ z11821 ∧ z11821 ≤ 1000) (h22 : 0 ≤ z11823 ∧ z11823 ≤ 4) : f_ft = 0 ∨ 1 ≤ z11823 := by omega
theorem vc_X6_readBranches_6_41 {f_at f_end f_ft f_la f_lf f_ma f_mf z11821 z11823 : Int} (h0 : f_at ≤ f_end) (h1 : f_ft = 0 ∨ f_at = f_end) (h2 : f_la ≤ f_end) (h3 : f_lf = 0 ∨ f_la = f_end) (h4 : f_ma ≤ f_end) (h5 : f_mf = 0 ∨ f_ma = f_end) (h6 : z11821 ≤ f_end) (h7 : f_ma ≤ z11821) (h8 : f_mf = 0 ∨ 1 ≤ z11823) (h9 : z11823 = 0 ∨ z11821 = f_end) (h10 : f_at ≤ f_la) (h11 : f_ft = 0 ∨ 1 ≤ f_lf) (h12 : f_at ≤ f_ma) (h13 : f_ft = 0 ∨ 1 ≤ f_mf) (h14 : 0 ≤ f_at ∧ f_at ≤ 1000) (h15 : 0 ≤ f_end ∧ f_end ≤ 1000) (h16 : 0 ≤ f_ft ∧ f_ft ≤ 4) (h17 : 0 ≤ f_la ∧ f_la ≤ 1000) (h18 : 0 ≤ f_lf ∧ f_lf ≤ 4) (h19 : 0 ≤ f_ma ∧ f_ma ≤ 1000) (h20 : 0 ≤ f_mf ∧ f_mf ≤ 4) (h21 : 0 ≤ z11821 ∧ z11821 ≤ 1000) (h22 : 0 ≤ z11823 ∧ z11823 ≤ 4) : z11823 = 0 ∨ z11821 = f_end := by omega
theorem vc_X6_readBranches_6_42 {z11689 z11696 : Int} (h0 : z11689 = 1040) (h1 : (z11696 = 1 → z11689 = -2 ∨ z11689 = 7 ∨ z11689 = 1040)) (h2 : z11689 = -2 ∨ z11689 = 7 ∨ z11689 = 1040) (h3 : (-2147483648) ≤ z11689 ∧ z11689 ≤ 2147483647) (h4 : 1 ≤ z11696 ∧ z11696 ≤ 1) : 1040 ≤ z11689 ∧ z11689 ≤ 1040 := by omega
theorem vc_X6_readBranches_6_47  : (1002 - 0) < ((1003 : Nat) : Int) := by omega
set_option maxRecDepth 4000 in
set_option maxHeartbeats 4000000 in
theorem c_X6_readBranches_6 {l : Launch} {D : va_G} {c : Nat → ClassId} {H0 : Heap} {sa : Nat × Nat × (Nat → Int32)} {w : mW} {μ : mM} (hw : mWF w) (hT : mT w μ) {p1 : Int} (hp1 : 6 ≤ p1 ∧ p1 ≤ 6) {f_at : Int} (q_f_at : μ 23 9 = f_at) {f_end : Int} (q_f_end : μ 23 8 = f_end) {f_ft : Int} (q_f_ft : μ 23 18 = f_ft) {f_te : Int} (q_f_te : μ 24 (f_end.toNat) = f_te) (hq0 : f_at ≤ f_end) (hq1 : f_te = -1) (hq2 : f_ft = 0 ∨ f_at = f_end) : sC (gG l D c H0 sa) mX6_readBranches 3 0 0 [.ref 23, iv p1] (mk w μ) (qV w [23009, 23012, 23015, 23016, 23017, 23018, 23019, 28999, 29999] μ (fun μ1 => ∃ o_at o_ft : Int, μ1 23 9 = o_at ∧ μ1 23 18 = o_ft ∧ (o_at ≤ f_end) ∧ (f_at ≤ o_at) ∧ (f_ft = 0 ∨ 1 ≤ o_ft) ∧ (o_ft = 0 ∨ o_at = f_end) ∧ True)) := by
  refine sC.of rfl (by decide) (le_t rfl) ?_
  have ht_f_at : (0 ≤ f_at ∧ f_at ≤ 1000) := by rw [← q_f_at]; exact hT 23 23 (A_23 hw) 9
  have ht_f_end : (0 ≤ f_end ∧ f_end ≤ 1000) := by rw [← q_f_end]; exact hT 23 23 (A_23 hw) 8
  have ht_f_ft : (0 ≤ f_ft ∧ f_ft ≤ 4) := by rw [← q_f_ft]; exact hT 23 23 (A_23 hw) 18
  have ht_f_te : ((-2147483648) ≤ f_te ∧ f_te ≤ 2147483647) := by rw [← q_f_te]; exact hT 24 24 (A_24 hw) (f_end.toNat)
  have h1 : (-1) ≤ f_te ∧ f_te ≤ (-1) := (vc_X6_take_g_1 hq1 ht_f_te)
  refine mr_lvE (lv' := [(0, .ref 23), (1, iv p1)]) rfl ?_
  refine mr_iconst (pc := 0) (z := 0) dX6_readBranches_0 ?_
  refine mr_istore_n (pc := 1) (lv' := [(2, iv 0), (0, .ref 23), (1, iv p1)]) dX6_readBranches_1 rfl (by decide) rfl ?_
  refine mr_lconst (pc := 2) (z := 0) dX6_readBranches_2 (by decide) ?_
  refine mr_lstore_n (pc := 3) (lv' := [(3, jv 0), (2, iv 0), (0, .ref 23), (1, iv p1)]) dX6_readBranches_3 rfl (by decide) rfl ?_
  refine mr_lconst (pc := 4) (z := 0) dX6_readBranches_4 (by decide) ?_
  refine mr_lstore (pc := 5) (lv' := [(5, jv 0), (3, jv 0), (2, iv 0), (0, .ref 23), (1, iv p1)]) dX6_readBranches_5 (by decide) rfl ?_
  refine mr_iconst (pc := 7) (z := 1) dX6_readBranches_7 ?_
  refine mr_istore (pc := 8) (lv' := [(7, iv 1), (5, jv 0), (3, jv 0), (2, iv 0), (0, .ref 23), (1, iv p1)]) dX6_readBranches_8 (by decide) rfl ?_
  refine mr_iconst (pc := 10) (z := 0) dX6_readBranches_10 ?_
  refine mr_istore (pc := 11) (lv' := [(8, iv 0), (7, iv 1), (5, jv 0), (3, jv 0), (2, iv 0), (0, .ref 23), (1, iv p1)]) dX6_readBranches_11 (by decide) rfl ?_
  have L9435 : ∀ (nL9435 : Nat) (z9433 z9432 z9431 z9430 z9429 : Int) (μ9434 : mM) (f_la : Int) (f_lf : Int), mT w μ9434 → mF [23009, 23012, 23015, 23016, 23017, 23018, 23019, 28999, 29999] w μ μ9434 → μ9434 23 (9) = f_la → μ9434 23 (18) = f_lf → (0 ≤ z9433 ∧ z9433 ≤ 1) → ((-9223372036854775808) ≤ z9432 ∧ z9432 ≤ 9223372036854775807) → ((-9223372036854775808) ≤ z9431 ∧ z9431 ≤ 9223372036854775807) → (0 ≤ z9430 ∧ z9430 ≤ 1) → (0 ≤ z9429 ∧ z9429 ≤ 1001) → (f_la ≤ f_end) → (f_at ≤ f_la) → (f_ft = 0 ∨ 1 ≤ f_lf) → (f_lf = 0 ∨ f_la = f_end) → (1002 - z9429) < (nL9435 : Int) → sV (gG l D c H0 sa) mX6_readBranches (sRm 3 0 0) (sZ (gG l D c H0 sa) 0 0 (qV w [23009, 23012, 23015, 23016, 23017, 23018, 23019, 28999, 29999] μ (fun μ1 => ∃ o_at o_ft : Int, μ1 23 9 = o_at ∧ μ1 23 18 = o_ft ∧ (o_at ≤ f_end) ∧ (f_at ≤ o_at) ∧ (f_ft = 0 ∨ 1 ≤ o_ft) ∧ (o_ft = 0 ∨ o_at = f_end) ∧ True))) 13 [(0, .ref 23), (1, iv p1), (2, iv z9433), (3, jv z9432), (5, jv z9431), (7, iv z9430), (8, iv z9429)] [] (mk w μ9434) 0 0 := by
    intro nL9435
    induction nL9435 with
    | zero => intro z9433 z9432 z9431 z9430 z9429 μ9434 f_la f_lf T9441 F9442 q9449 q9450 h9436 h9437 h9438 h9439 h9440 h9444 h9445 h9446 h9447 h9448; exact ((vc_X6_readBranches_6_2 h9448 h9440)).elim
    | succ nL9435 ih9451 =>
      intro z9433 z9432 z9431 z9430 z9429 μ9434 f_la f_lf T9441 F9442 q9449 q9450 h9436 h9437 h9438 h9439 h9440 h9444 h9445 h9446 h9447 h9448
      have h9452 : (0 ≤ f_la ∧ f_la ≤ 1000) := by rw [← q9449]; exact T9441 23 23 (A_23 hw) (9)
      have h9453 : (0 ≤ f_lf ∧ f_lf ≤ 4) := by rw [← q9450]; exact T9441 23 23 (A_23 hw) (18)
      refine mr_iload (pc := 13) (z := z9429) dX6_readBranches_13 rfl ?_
      refine mr_sipush (pc := 15) (z := 1000) dX6_readBranches_15 (by decide) ?_
      refine mr_icmp_gt (pc := 18) (tgt := 211) dX6_readBranches_18 (by decide) (r32 h9440 rfl) (r32 (rR (x := 1000)) rfl) (fun h9704 => ?_) (fun h9704 => ?_)
      · have h9705 : 1001 ≤ z9429 ∧ z9429 ≤ 1001 := (vc_X6_readBranches_6_3 h9704 h9440)
        refine sv_aload_n (pc := 211) dX6_readBranches_211 rfl rfl ?_
        refine mr_iload_n (pc := 212) (z := z9433) dX6_readBranches_212 rfl rfl ?_
        refine pf_X6_15 (pc := 213) dX6_readBranches_213 wF_X6_186 (A_23 hw) T9441 h9436 fun μ9706 u9707 T9708 => ?_
        refine sv_aload_n (pc := 216) dX6_readBranches_216 rfl rfl ?_
        refine mr_lload_n (pc := 217) (z := z9432) dX6_readBranches_217 rfl rfl ?_
        refine pf_X6_16 (pc := 218) dX6_readBranches_218 wF_X6_179 (A_23 hw) T9708 h9437 fun μ9709 u9710 T9711 => ?_
        refine sv_aload_n (pc := 221) dX6_readBranches_221 rfl rfl ?_
        refine mr_lload (pc := 222) (z := z9431) dX6_readBranches_222 rfl ?_
        refine pf_X6_17 (pc := 224) dX6_readBranches_224 wF_X6_183 (A_23 hw) T9711 h9438 fun μ9712 u9713 T9714 => ?_
        exact mr_vret dX6_readBranches_227 rfl (le_t rfl) (le_t rfl) T9714 (mF.up (mF.up (mF.up (mF.call mF.refl F9442 rfl) (A_23 hw) u9707 rfl) (A_23 hw) u9710 rfl) (A_23 hw) u9713 rfl) ⟨f_la, f_lf, (u9713.f (Or.inr (by decide)) (u9710.f (Or.inr (by decide)) (u9707.f (Or.inr (by decide)) q9449))), (u9713.f (Or.inr (by decide)) (u9710.f (Or.inr (by decide)) (u9707.f (Or.inr (by decide)) q9450))), (vc_X6_readBranches_6_4 hq0 hq2 h9444 h9445 h9447 h9446 ht_f_at ht_f_end ht_f_ft h9452 h9453), (vc_X6_readBranches_6_5 hq0 hq2 h9444 h9445 h9447 h9446 ht_f_at ht_f_end ht_f_ft h9452 h9453), (vc_X6_readBranches_6_6 hq2 h9446 h9447 hq0 h9444 h9445 ht_f_at ht_f_end ht_f_ft h9452 h9453), (vc_X6_readBranches_6_7 hq0 hq2 h9444 h9445 h9446 h9447 ht_f_at ht_f_end ht_f_ft h9452 h9453), trivial⟩
      have h9715 : 0 ≤ z9429 ∧ z9429 ≤ 1000 := (vc_X6_readBranches_6_8 h9704 h9440)
      refine mr_iload (pc := 21) (z := z9430) dX6_readBranches_21 rfl ?_
      refine mr_if_eq (pc := 23) (tgt := 211) dX6_readBranches_23 (by decide) (r32 h9439 rfl) (fun h9964 => ?_) (fun h9964 => ?_)
      · have h9965 : 0 ≤ z9430 ∧ z9430 ≤ 0 := (vc_X12_ring_22 h9964 h9439)
        refine sv_aload_n (pc := 211) dX6_readBranches_211 rfl rfl ?_
        refine mr_iload_n (pc := 212) (z := z9433) dX6_readBranches_212 rfl rfl ?_
        refine pf_X6_15 (pc := 213) dX6_readBranches_213 wF_X6_186 (A_23 hw) T9441 h9436 fun μ9966 u9967 T9968 => ?_
        refine sv_aload_n (pc := 216) dX6_readBranches_216 rfl rfl ?_
        refine mr_lload_n (pc := 217) (z := z9432) dX6_readBranches_217 rfl rfl ?_
        refine pf_X6_16 (pc := 218) dX6_readBranches_218 wF_X6_179 (A_23 hw) T9968 h9437 fun μ9969 u9970 T9971 => ?_
        refine sv_aload_n (pc := 221) dX6_readBranches_221 rfl rfl ?_
        refine mr_lload (pc := 222) (z := z9431) dX6_readBranches_222 rfl ?_
        refine pf_X6_17 (pc := 224) dX6_readBranches_224 wF_X6_183 (A_23 hw) T9971 h9438 fun μ9972 u9973 T9974 => ?_
        exact mr_vret dX6_readBranches_227 rfl (le_t rfl) (le_t rfl) T9974 (mF.up (mF.up (mF.up (mF.call mF.refl F9442 rfl) (A_23 hw) u9967 rfl) (A_23 hw) u9970 rfl) (A_23 hw) u9973 rfl) ⟨f_la, f_lf, (u9973.f (Or.inr (by decide)) (u9970.f (Or.inr (by decide)) (u9967.f (Or.inr (by decide)) q9449))), (u9973.f (Or.inr (by decide)) (u9970.f (Or.inr (by decide)) (u9967.f (Or.inr (by decide)) q9450))), (vc_X6_readBranches_6_4 hq0 hq2 h9444 h9445 h9447 h9446 ht_f_at ht_f_end ht_f_ft h9452 h9453), (vc_X6_readBranches_6_5 hq0 hq2 h9444 h9445 h9447 h9446 ht_f_at ht_f_end ht_f_ft h9452 h9453), (vc_X6_readBranches_6_6 hq2 h9446 h9447 hq0 h9444 h9445 ht_f_at ht_f_end ht_f_ft h9452 h9453), (vc_X6_readBranches_6_7 hq0 hq2 h9444 h9445 h9446 h9447 ht_f_at ht_f_end ht_f_ft h9452 h9453), trivial⟩
      have h9975 : 1 ≤ z9430 ∧ z9430 ≤ 1 := (vc_X12_ring_24 h9964 h9439)
      refine mr_iconst (pc := 26) (z := 1) dX6_readBranches_26 ?_
      refine mr_istore (pc := 27) (lv' := [(9, iv 1), (0, .ref 23), (1, iv p1), (2, iv z9433), (3, jv z9432), (5, jv z9431), (7, iv z9430), (8, iv z9429)]) dX6_readBranches_27 (by decide) rfl ?_
      refine mr_lconst (pc := 29) (z := 0) dX6_readBranches_29 (by decide) ?_
      refine mr_lstore (pc := 30) (lv' := [(10, jv 0), (9, iv 1), (0, .ref 23), (1, iv p1), (2, iv z9433), (3, jv z9432), (5, jv z9431), (7, iv z9430), (8, iv z9429)]) dX6_readBranches_30 (by decide) rfl ?_
      refine mr_lconst (pc := 32) (z := 0) dX6_readBranches_32 (by decide) ?_
      refine mr_lstore (pc := 33) (lv' := [(12, jv 0), (10, jv 0), (9, iv 1), (0, .ref 23), (1, iv p1), (2, iv z9433), (3, jv z9432), (5, jv z9431), (7, iv z9430), (8, iv z9429)]) dX6_readBranches_33 (by decide) rfl ?_
      refine mr_iconst (pc := 35) (z := 0) dX6_readBranches_35 ?_
      refine mr_istore (pc := 36) (lv' := [(14, iv 0), (12, jv 0), (10, jv 0), (9, iv 1), (0, .ref 23), (1, iv p1), (2, iv z9433), (3, jv z9432), (5, jv z9431), (7, iv z9430), (8, iv z9429)]) dX6_readBranches_36 (by decide) rfl ?_
      have L11548 : ∀ (nL11548 : Nat) (z11546 z11545 z11544 z11543 : Int) (μ11547 : mM) (f_ma : Int) (f_mf : Int), mT w μ11547 → mF [23009, 23012, 23015, 23016, 23017, 23018, 23019, 28999, 29999] w μ9434 μ11547 → μ11547 23 (9) = f_ma → μ11547 23 (18) = f_mf → (0 ≤ z11546 ∧ z11546 ≤ 1) → ((-9223372036854775808) ≤ z11545 ∧ z11545 ≤ 9223372036854775807) → ((-9223372036854775808) ≤ z11544 ∧ z11544 ≤ 9223372036854775807) → (0 ≤ z11543 ∧ z11543 ≤ 1001) → (f_ma ≤ f_end) → (f_at ≤ f_ma) → (f_ft = 0 ∨ 1 ≤ f_mf) → (f_mf = 0 ∨ f_ma = f_end) → (1002 - z11543) < (nL11548 : Int) → sV (gG l D c H0 sa) mX6_readBranches (sRm 3 0 0) (sZ (gG l D c H0 sa) 0 0 (qV w [23009, 23012, 23015, 23016, 23017, 23018, 23019, 28999, 29999] μ (fun μ1 => ∃ o_at o_ft : Int, μ1 23 9 = o_at ∧ μ1 23 18 = o_ft ∧ (o_at ≤ f_end) ∧ (f_at ≤ o_at) ∧ (f_ft = 0 ∨ 1 ≤ o_ft) ∧ (o_ft = 0 ∨ o_at = f_end) ∧ True))) 38 [(0, .ref 23), (1, iv p1), (2, iv z9433), (3, jv z9432), (5, jv z9431), (8, iv z9429), (9, iv z11546), (10, jv z11545), (12, jv z11544), (14, iv z11543)] [] (mk w μ11547) 0 0 := by
        intro nL11548
        induction nL11548 with
        | zero => intro z11546 z11545 z11544 z11543 μ11547 f_ma f_mf T11553 F11554 q11561 q11562 h11549 h11550 h11551 h11552 h11556 h11557 h11558 h11559 h11560; exact ((vc_X6_readBranches_6_2 h11560 h11552)).elim
        | succ nL11548 ih11563 =>
          intro z11546 z11545 z11544 z11543 μ11547 f_ma f_mf T11553 F11554 q11561 q11562 h11549 h11550 h11551 h11552 h11556 h11557 h11558 h11559 h11560
          have h11564 : (0 ≤ f_ma ∧ f_ma ≤ 1000) := by rw [← q11561]; exact T11553 23 23 (A_23 hw) (9)
          have h11565 : (0 ≤ f_mf ∧ f_mf ≤ 4) := by rw [← q11562]; exact T11553 23 23 (A_23 hw) (18)
          refine mr_iload (pc := 38) (z := z11543) dX6_readBranches_38 rfl ?_
          refine mr_sipush (pc := 40) (z := 1000) dX6_readBranches_40 (by decide) ?_
          have J11657 : sV (gG l D c H0 sa) mX6_readBranches (sRm 3 0 0) (sZ (gG l D c H0 sa) 0 0 (qV w [23009, 23012, 23015, 23016, 23017, 23018, 23019, 28999, 29999] μ (fun μ1 => ∃ o_at o_ft : Int, μ1 23 9 = o_at ∧ μ1 23 18 = o_ft ∧ (o_at ≤ f_end) ∧ (f_at ≤ o_at) ∧ (f_ft = 0 ∨ 1 ≤ o_ft) ∧ (o_ft = 0 ∨ o_at = f_end) ∧ True))) 169 [(0, .ref 23), (1, iv p1), (2, iv z9433), (3, jv z9432), (5, jv z9431), (8, iv z9429), (9, iv z11546), (10, jv z11545), (12, jv z11544)] [] (mk w μ11547) 0 0 := by
            refine mr_iload_n (pc := 169) (z := z9433) dX6_readBranches_169 rfl rfl ?_
            have J11664 : ∀ (z11662 : Int), ((0 ≤ z11662 ∧ z11662 ≤ 1)) → sV (gG l D c H0 sa) mX6_readBranches (sRm 3 0 0) (sZ (gG l D c H0 sa) 0 0 (qV w [23009, 23012, 23015, 23016, 23017, 23018, 23019, 28999, 29999] μ (fun μ1 => ∃ o_at o_ft : Int, μ1 23 9 = o_at ∧ μ1 23 18 = o_ft ∧ (o_at ≤ f_end) ∧ (f_at ≤ o_at) ∧ (f_ft = 0 ∨ 1 ≤ o_ft) ∧ (o_ft = 0 ∨ o_at = f_end) ∧ True))) 183 [(0, .ref 23), (1, iv p1), (3, jv z9432), (5, jv z9431), (8, iv z9429), (10, jv z11545), (12, jv z11544)] [iv z11662] (mk w μ11547) 0 0 := by
              intro z11662 h11663
              refine mr_istore_n (pc := 183) (lv' := [(2, iv z11662), (0, .ref 23), (1, iv p1), (3, jv z9432), (5, jv z9431), (8, iv z9429), (10, jv z11545), (12, jv z11544)]) dX6_readBranches_183 rfl (by decide) rfl ?_
              refine mr_lload_n (pc := 184) (z := z9432) dX6_readBranches_184 rfl rfl ?_
              refine mr_lload (pc := 185) (z := z11545) dX6_readBranches_185 rfl ?_
              refine mr_lor (pc := 187) dX6_readBranches_187 ?_
              refine mr_genL (r64i _) fun z11665 q11666 h11667 => ?_
              refine mr_lstore_n (pc := 188) (lv' := [(3, jv z11665), (2, iv z11662), (0, .ref 23), (1, iv p1), (5, jv z9431), (8, iv z9429), (10, jv z11545), (12, jv z11544)]) dX6_readBranches_188 rfl (by decide) rfl ?_
              refine mr_lload (pc := 189) (z := z9431) dX6_readBranches_189 rfl ?_
              refine mr_lload (pc := 191) (z := z11544) dX6_readBranches_191 rfl ?_
              refine mr_lor (pc := 193) dX6_readBranches_193 ?_
              refine mr_genL (r64i _) fun z11668 q11669 h11670 => ?_
              refine mr_lstore (pc := 194) (lv' := [(5, jv z11668), (3, jv z11665), (2, iv z11662), (0, .ref 23), (1, iv p1), (8, iv z9429), (10, jv z11545), (12, jv z11544)]) dX6_readBranches_194 (by decide) rfl ?_
              refine sv_aload_n (pc := 196) dX6_readBranches_196 rfl rfl ?_
              refine mr_sipush (pc := 197) (z := 1124) dX6_readBranches_197 (by decide) ?_
              refine mr_cVI (pc := 200) (c_X6_take_g hw T11553 (rW (c := (-2147483648)) (d := 2147483647) (rR (x := 1124)) rfl) q11561 (F11554.f (A_23 hw) rfl (F9442.f (A_23 hw) rfl q_f_end)) (F11554.f (A_24 hw) rfl (F9442.f (A_24 hw) rfl q_f_te)) (vc_X6_readBranches_6_12 hq0 hq2 h9444 h9447 h11556 h11557 h11559 h9445 h9446 h11558 ht_f_at ht_f_end ht_f_ft h9452 h9453 h11564 h11565) (vc_X6_expect_g_3 hq1 h1)) (gOk _ _ _ _ _) dX6_readBranches_200 (tX6_take _ _ _ _ _) ⟨wV_X6_take, wL_X6_take⟩ wM_X6_120 (gCX6 _ _ _ _ _) rfl (A_23 hw) rfl ⟨le_t rfl, le_t rfl⟩ ⟨le_t rfl, le_t rfl⟩ rfl (le_t rfl) fun z11675 μ11671 T11672 F11673 h11674 => ?_
              obtain ⟨z11676, q11677, h11678⟩ := h11674
              have h11679 : (0 ≤ z11676 ∧ z11676 ≤ 1000) := by rw [← q11677]; exact T11672 23 23 (A_23 hw) 9
              refine mr_istore (pc := 203) (lv' := [(7, iv z11675), (5, jv z11668), (3, jv z11665), (2, iv z11662), (0, .ref 23), (1, iv p1), (8, iv z9429), (10, jv z11545), (12, jv z11544)]) dX6_readBranches_203 (by decide) rfl ?_
              refine mr_iinc (pc := 205) (lv' := [(8, iv (z9429 + 1)), (7, iv z11675), (5, jv z11668), (3, jv z11665), (2, iv z11662), (0, .ref 23), (1, iv p1), (10, jv z11545), (12, jv z11544)]) dX6_readBranches_205 rfl (by decide) rfl ?_
              refine sv_goto (pc := 208) (tgt := 13) dX6_readBranches_208 (by decide) ?_
              refine mr_lvS (lv' := [(0, .ref 23), (1, iv p1), (2, iv z11662), (3, jv z11665), (5, jv z11668), (7, iv z11675), (8, iv (z9429 + 1))]) (List.forall_mem_cons.mpr ⟨rfl, List.forall_mem_cons.mpr ⟨rfl, List.forall_mem_cons.mpr ⟨rfl, List.forall_mem_cons.mpr ⟨rfl, List.forall_mem_cons.mpr ⟨rfl, List.forall_mem_cons.mpr ⟨rfl, List.forall_mem_cons.mpr ⟨rfl, fun _ h => absurd h List.not_mem_nil⟩⟩⟩⟩⟩⟩⟩) ?_
              exact ih9451 z11662 z11665 z11668 z11675 (z9429 + 1) μ11671 z11676 f_mf T11672 (mF.call (mF.call (mF.call mF.refl F9442 rfl) F11554 rfl) F11673 rfl) q11677 (F11673.f (A_23 hw) rfl q11562) h11663 h11667 h11670 h11678.1 (rW (c := 0) (d := 1001) (rAdd (e := 1) (f := 1001) h9715 (rR (x := 1)) rfl) rfl) (vc_X6_readBranches_6_14 hq0 hq2 h9444 h9447 h11556 h11559 h11678.2.1 h11678.2.2.1 h11678.2.2.2.1 h11678.2.2.2.2.1 h9445 h9446 h11557 h11558 ht_f_at ht_f_end ht_f_ft h9452 h9453 h11564 h11565 h11678.1 h11679) (vc_X6_readBranches_6_15 hq0 hq2 h9445 h11557 h11678.2.1 h11678.2.2.1 h11678.2.2.2.1 h11678.2.2.2.2.1 h9444 h9446 h9447 h11556 h11558 h11559 ht_f_at ht_f_end ht_f_ft h9452 h9453 h11564 h11565 h11678.1 h11679) (vc_X6_readBranches_6_16 hq2 h9446 h11558 h11559 hq0 h9444 h9445 h9447 h11556 h11557 h11678.2.1 h11678.2.2.1 h11678.2.2.2.1 h11678.2.2.2.2.1 ht_f_at ht_f_end ht_f_ft h9452 h9453 h11564 h11565 h11678.1 h11679) (vc_X6_readBranches_6_17 hq0 hq2 h9444 h9447 h11556 h11558 h11559 h11678.2.1 h11678.2.2.1 h11678.2.2.2.1 h11678.2.2.2.2.1 h9445 h9446 h11557 ht_f_at ht_f_end ht_f_ft h9452 h9453 h11564 h11565 h11678.1 h11679) (vc_X6_readBranches_6_18 (nS h9448) h9704 h9715)
            refine mr_if_ne (pc := 170) (tgt := 178) dX6_readBranches_170 (by decide) (r32 h9436 rfl) (fun h11680 => ?_) (fun h11680 => ?_)
            · have h11681 : 1 ≤ z9433 ∧ z9433 ≤ 1 := (vc_X12_ring_24 h11680 h9436)
              refine mr_iconst (pc := 178) (z := 1) dX6_readBranches_178 ?_
              refine sv_goto (pc := 179) (tgt := 183) dX6_readBranches_179 (by decide) ?_
              refine mr_lvS (lv' := [(0, .ref 23), (1, iv p1), (3, jv z9432), (5, jv z9431), (8, iv z9429), (10, jv z11545), (12, jv z11544)]) (List.forall_mem_cons.mpr ⟨rfl, List.forall_mem_cons.mpr ⟨rfl, List.forall_mem_cons.mpr ⟨rfl, List.forall_mem_cons.mpr ⟨rfl, List.forall_mem_cons.mpr ⟨rfl, List.forall_mem_cons.mpr ⟨rfl, List.forall_mem_cons.mpr ⟨rfl, fun _ h => absurd h List.not_mem_nil⟩⟩⟩⟩⟩⟩⟩) ?_
              exact J11664 1 (rW (c := 0) (d := 1) (rR (x := 1)) rfl)
            have h11682 : 0 ≤ z9433 ∧ z9433 ≤ 0 := (vc_X12_ring_22 h11680 h9436)
            refine mr_iload (pc := 173) (z := z11546) dX6_readBranches_173 rfl ?_
            refine mr_if_eq (pc := 175) (tgt := 182) dX6_readBranches_175 (by decide) (r32 h11549 rfl) (fun h11683 => ?_) (fun h11683 => ?_)
            · have h11684 : 0 ≤ z11546 ∧ z11546 ≤ 0 := (vc_X12_ring_22 h11683 h11549)
              refine mr_iconst (pc := 182) (z := 0) dX6_readBranches_182 ?_
              refine mr_lvS (lv' := [(0, .ref 23), (1, iv p1), (3, jv z9432), (5, jv z9431), (8, iv z9429), (10, jv z11545), (12, jv z11544)]) (List.forall_mem_cons.mpr ⟨rfl, List.forall_mem_cons.mpr ⟨rfl, List.forall_mem_cons.mpr ⟨rfl, List.forall_mem_cons.mpr ⟨rfl, List.forall_mem_cons.mpr ⟨rfl, List.forall_mem_cons.mpr ⟨rfl, List.forall_mem_cons.mpr ⟨rfl, fun _ h => absurd h List.not_mem_nil⟩⟩⟩⟩⟩⟩⟩) ?_
              exact J11664 0 (rW (c := 0) (d := 1) (rR (x := 0)) rfl)
            have h11685 : 1 ≤ z11546 ∧ z11546 ≤ 1 := (vc_X12_ring_24 h11683 h11549)
            refine mr_iconst (pc := 178) (z := 1) dX6_readBranches_178 ?_
            refine sv_goto (pc := 179) (tgt := 183) dX6_readBranches_179 (by decide) ?_
            refine mr_lvS (lv' := [(0, .ref 23), (1, iv p1), (3, jv z9432), (5, jv z9431), (8, iv z9429), (10, jv z11545), (12, jv z11544)]) (List.forall_mem_cons.mpr ⟨rfl, List.forall_mem_cons.mpr ⟨rfl, List.forall_mem_cons.mpr ⟨rfl, List.forall_mem_cons.mpr ⟨rfl, List.forall_mem_cons.mpr ⟨rfl, List.forall_mem_cons.mpr ⟨rfl, List.forall_mem_cons.mpr ⟨rfl, fun _ h => absurd h List.not_mem_nil⟩⟩⟩⟩⟩⟩⟩) ?_
            exact J11664 1 (rW (c := 0) (d := 1) (rR (x := 1)) rfl)
          refine mr_icmp_gt (pc := 43) (tgt := 169) dX6_readBranches_43 (by decide) (r32 h11552 rfl) (r32 (rR (x := 1000)) rfl) (fun h11686 => ?_) (fun h11686 => ?_)
          · have h11687 : 1001 ≤ z11543 ∧ z11543 ≤ 1001 := (vc_X6_readBranches_6_3 h11686 h11552)
            refine mr_lvS (lv' := [(0, .ref 23), (1, iv p1), (2, iv z9433), (3, jv z9432), (5, jv z9431), (8, iv z9429), (9, iv z11546), (10, jv z11545), (12, jv z11544)]) (List.forall_mem_cons.mpr ⟨rfl, List.forall_mem_cons.mpr ⟨rfl, List.forall_mem_cons.mpr ⟨rfl, List.forall_mem_cons.mpr ⟨rfl, List.forall_mem_cons.mpr ⟨rfl, List.forall_mem_cons.mpr ⟨rfl, List.forall_mem_cons.mpr ⟨rfl, List.forall_mem_cons.mpr ⟨rfl, List.forall_mem_cons.mpr ⟨rfl, fun _ h => absurd h List.not_mem_nil⟩⟩⟩⟩⟩⟩⟩⟩⟩) ?_
            exact J11657 
          have h11688 : 0 ≤ z11543 ∧ z11543 ≤ 1000 := (vc_X6_readBranches_6_8 h11686 h11552)
          refine sv_aload_n (pc := 46) dX6_readBranches_46 rfl rfl ?_
          refine gf_X6_0 (pc := 47) dX6_readBranches_47 wF_X6_9 (A_23 hw) T11553 ?_
          refine sv_aload_n (pc := 50) dX6_readBranches_50 rfl rfl ?_
          refine gk_X6_9 (pc := 51) dX6_readBranches_51 wF_X6_63 (A_23 hw) q11561 ?_
          refine la_24 (pc := 54) dX6_readBranches_54 (A_24 hw) T11553 (rIx (n := 1001) h11564 rfl) fun z11689 q11690 h11691 => ?_
          refine mr_cSP (pc := 55) (c_X6_beginsPiece_g hw T11553 h11691) (gOk _ _ _ _ _) dX6_readBranches_55 (tX6_beginsPiece _ _ _ _ _) wS_X6_beginsPiece wM_X6_190 ⟨le_t rfl, le_t rfl⟩ ⟨le_t rfl, le_t rfl⟩ rfl (le_t rfl) fun z11696 h11695 => ?_
          refine mr_if_eq (pc := 58) (tgt := 169) dX6_readBranches_58 (by decide) (r32 h11695.1 rfl) (fun h11697 => ?_) (fun h11697 => ?_)
          · have h11698 : 0 ≤ z11696 ∧ z11696 ≤ 0 := (vc_X6_readBranches_6_25 h11697 h11695.2.1 h11691 h11695.1)
            refine mr_lvS (lv' := [(0, .ref 23), (1, iv p1), (2, iv z9433), (3, jv z9432), (5, jv z9431), (8, iv z9429), (9, iv z11546), (10, jv z11545), (12, jv z11544)]) (List.forall_mem_cons.mpr ⟨rfl, List.forall_mem_cons.mpr ⟨rfl, List.forall_mem_cons.mpr ⟨rfl, List.forall_mem_cons.mpr ⟨rfl, List.forall_mem_cons.mpr ⟨rfl, List.forall_mem_cons.mpr ⟨rfl, List.forall_mem_cons.mpr ⟨rfl, List.forall_mem_cons.mpr ⟨rfl, List.forall_mem_cons.mpr ⟨rfl, fun _ h => absurd h List.not_mem_nil⟩⟩⟩⟩⟩⟩⟩⟩⟩) ?_
            exact J11657 
          have h11699 : 1 ≤ z11696 ∧ z11696 ≤ 1 := (vc_X6_readBranches_6_26 h11697 h11695.2.1 h11691 h11695.1)
          have h11700 : z11689 = -2 ∨ z11689 = 7 ∨ z11689 = 1040 := (h11695.2.1 (vc_X6_readBranches_6_27 h11695.2.1 h11697 h11691 h11699))
          refine sv_aload_n (pc := 61) dX6_readBranches_61 rfl rfl ?_
          refine gf_X6_0 (pc := 62) dX6_readBranches_62 wF_X6_9 (A_23 hw) T11553 ?_
          refine sv_aload_n (pc := 65) dX6_readBranches_65 rfl rfl ?_
          refine gk_X6_9 (pc := 66) dX6_readBranches_66 wF_X6_63 (A_23 hw) q11561 ?_
          refine lk_24 (pc := 69) dX6_readBranches_69 (A_24 hw) (rIx (n := 1001) h11564 rfl) q11690 ?_
          refine mr_sipush (pc := 70) (z := 1040) dX6_readBranches_70 (by decide) ?_
          have J11732 : ∀ (μ11724 : mM), (mT w μ11724) → (mF [23009, 23012, 23015, 23016, 23017, 23018, 23019, 28999, 29999] w μ11547 μ11724) → ((μ11724 23 (9) ≤ f_end)) → ((f_at ≤ μ11724 23 (9))) → ((f_ft = 0 ∨ 1 ≤ μ11724 23 (18))) → ((μ11724 23 (18) = 0 ∨ μ11724 23 (9) = f_end)) → sV (gG l D c H0 sa) mX6_readBranches (sRm 3 0 0) (sZ (gG l D c H0 sa) 0 0 (qV w [23009, 23012, 23015, 23016, 23017, 23018, 23019, 28999, 29999] μ (fun μ1 => ∃ o_at o_ft : Int, μ1 23 9 = o_at ∧ μ1 23 18 = o_ft ∧ (o_at ≤ f_end) ∧ (f_at ≤ o_at) ∧ (f_ft = 0 ∨ 1 ≤ o_ft) ∧ (o_ft = 0 ∨ o_at = f_end) ∧ True))) 88 [(0, .ref 23), (1, iv p1), (2, iv z9433), (3, jv z9432), (5, jv z9431), (8, iv z9429), (9, iv z11546), (10, jv z11545), (12, jv z11544), (14, iv z11543)] [] (mk w μ11724) 0 0 := by
            intro μ11724 T11725 F11726 h11728 h11729 h11730 h11731
            obtain ⟨z11733, q11734⟩ : ∃ z, μ11724 23 9 = z := ⟨_, rfl⟩
            have h11735 : (0 ≤ z11733 ∧ z11733 ≤ 1000) := by rw [← q11734]; exact T11725 23 23 (A_23 hw) 9
            have h11736 : z11733 ≤ f_end := by have h := h11728; rw [q11734] at h; exact h
            have h11737 : f_at ≤ z11733 := by have h := h11729; rw [q11734] at h; exact h
            obtain ⟨z11738, q11739⟩ : ∃ z, μ11724 23 18 = z := ⟨_, rfl⟩
            have h11740 : (0 ≤ z11738 ∧ z11738 ≤ 4) := by rw [← q11739]; exact T11725 23 23 (A_23 hw) 18
            have h11741 : f_ft = 0 ∨ 1 ≤ z11738 := by have h := h11730; rw [q11739] at h; exact h
            have h11742 : z11738 = 0 ∨ z11733 = f_end := by have h := h11731; rw [q11739, q11734] at h; exact h
            refine sv_aload_n (pc := 88) dX6_readBranches_88 rfl rfl ?_
            refine mr_cVV (pc := 89) (c_X6_readRepeat_g hw T11725 q11734 (F11726.f (A_23 hw) rfl (F11554.f (A_23 hw) rfl (F9442.f (A_23 hw) rfl q_f_end))) q11739 (F11726.f (A_24 hw) rfl (F11554.f (A_24 hw) rfl (F9442.f (A_24 hw) rfl q_f_te))) (vc_X6_readBranches_6_28 hq0 hq2 h9444 h9447 h11556 h11559 h11736 h11737 h11742 h9445 h9446 h11557 h11558 h11741 ht_f_at ht_f_end ht_f_ft h9452 h9453 h11564 h11565 h11735 h11740) (vc_X6_expect_g_3 hq1 h1) (vc_X6_readBranches_6_29 hq0 hq2 h9444 h9447 h11556 h11559 h11736 h11737 h11741 h11742 h9445 h9446 h11557 h11558 ht_f_at ht_f_end ht_f_ft h9452 h9453 h11564 h11565 h11735 h11740)) (gOk _ _ _ _ _) dX6_readBranches_89 (tX6_readRepeat _ _ _ _ _) ⟨wV_X6_readRepeat, wL_X6_readRepeat⟩ wM_X6_199 (gCX6 _ _ _ _ _) rfl (A_23 hw) rfl ⟨le_t rfl, le_t rfl⟩ ⟨le_t rfl, le_t rfl⟩ rfl (le_t rfl) fun μ11743 T11744 F11745 h11746 => ?_
            obtain ⟨z11747, z11749, q11748, q11750, h11751⟩ := h11746
            have h11752 : (0 ≤ z11747 ∧ z11747 ≤ 1000) := by rw [← q11748]; exact T11744 23 23 (A_23 hw) 9
            have h11753 : (0 ≤ z11749 ∧ z11749 ≤ 4) := by rw [← q11750]; exact T11744 23 23 (A_23 hw) 18
            refine sv_aload_n (pc := 92) dX6_readBranches_92 rfl rfl ?_
            refine mr_lload (pc := 93) (z := z11544) dX6_readBranches_93 rfl ?_
            refine sv_aload_n (pc := 95) dX6_readBranches_95 rfl rfl ?_
            refine gf_X6_16 (pc := 96) dX6_readBranches_96 wF_X6_179 (A_23 hw) T11744 fun z11754 q11755 h11756 => ?_
            refine mr_cVV (pc := 99) (c_X6_join hw T11744 h11551 h11756) (gOk _ _ _ _ _) dX6_readBranches_99 (tX6_join _ _ _ _ _) ⟨wV_X6_join, wL_X6_join⟩ wM_X6_202 (gCX6 _ _ _ _ _) rfl (A_23 hw) rfl ⟨le_t rfl, le_t rfl⟩ ⟨le_t rfl, le_t rfl⟩ rfl (le_t rfl) fun μ11757 T11758 F11759 h11760 => ?_
            refine mr_iload (pc := 102) (z := z11546) dX6_readBranches_102 rfl ?_
            have J11768 : ∀ (z11766 : Int), (((-9223372036854775808) ≤ z11766 ∧ z11766 ≤ 9223372036854775807)) → sV (gG l D c H0 sa) mX6_readBranches (sRm 3 0 0) (sZ (gG l D c H0 sa) 0 0 (qV w [23009, 23012, 23015, 23016, 23017, 23018, 23019, 28999, 29999] μ (fun μ1 => ∃ o_at o_ft : Int, μ1 23 9 = o_at ∧ μ1 23 18 = o_ft ∧ (o_at ≤ f_end) ∧ (f_at ≤ o_at) ∧ (f_ft = 0 ∨ 1 ≤ o_ft) ∧ (o_ft = 0 ∨ o_at = f_end) ∧ True))) 119 [(0, .ref 23), (1, iv p1), (2, iv z9433), (3, jv z9432), (5, jv z9431), (8, iv z9429), (9, iv z11546), (12, jv z11544), (14, iv z11543)] [jv z11766] (mk w μ11757) 0 0 := by
              intro z11766 h11767
              refine mr_lstore (pc := 119) (lv' := [(10, jv z11766), (0, .ref 23), (1, iv p1), (2, iv z9433), (3, jv z9432), (5, jv z9431), (8, iv z9429), (9, iv z11546), (12, jv z11544), (14, iv z11543)]) dX6_readBranches_119 (by decide) rfl ?_
              refine sv_aload_n (pc := 121) dX6_readBranches_121 rfl rfl ?_
              refine gf_X6_15 (pc := 122) dX6_readBranches_122 wF_X6_186 (A_23 hw) T11758 fun z11769 q11770 h11771 => ?_
              have J11785 : ∀ (z11783 : Int), (((-9223372036854775808) ≤ z11783 ∧ z11783 ≤ 9223372036854775807)) → sV (gG l D c H0 sa) mX6_readBranches (sRm 3 0 0) (sZ (gG l D c H0 sa) 0 0 (qV w [23009, 23012, 23015, 23016, 23017, 23018, 23019, 28999, 29999] μ (fun μ1 => ∃ o_at o_ft : Int, μ1 23 9 = o_at ∧ μ1 23 18 = o_ft ∧ (o_at ≤ f_end) ∧ (f_at ≤ o_at) ∧ (f_ft = 0 ∨ 1 ≤ o_ft) ∧ (o_ft = 0 ∨ o_at = f_end) ∧ True))) 142 [(0, .ref 23), (1, iv p1), (2, iv z9433), (3, jv z9432), (5, jv z9431), (8, iv z9429), (9, iv z11546), (10, jv z11766), (14, iv z11543)] [jv z11783] (mk w μ11757) 0 0 := by
                intro z11783 h11784
                refine mr_lstore (pc := 142) (lv' := [(12, jv z11783), (0, .ref 23), (1, iv p1), (2, iv z9433), (3, jv z9432), (5, jv z9431), (8, iv z9429), (9, iv z11546), (10, jv z11766), (14, iv z11543)]) dX6_readBranches_142 (by decide) rfl ?_
                refine mr_iload (pc := 144) (z := z11546) dX6_readBranches_144 rfl ?_
                refine mr_if_eq (pc := 146) (tgt := 160) dX6_readBranches_146 (by decide) (r32 h11549 rfl) (fun h11790 => ?_) (fun h11790 => ?_)
                · have h11791 : 0 ≤ z11546 ∧ z11546 ≤ 0 := (vc_X12_ring_22 h11790 h11549)
                  refine mr_iconst (pc := 160) (z := 0) dX6_readBranches_160 ?_
                  refine mr_istore (pc := 161) (lv' := [(9, iv 0), (12, jv z11783), (0, .ref 23), (1, iv p1), (2, iv z9433), (3, jv z9432), (5, jv z9431), (8, iv z9429), (10, jv z11766), (14, iv z11543)]) dX6_readBranches_161 (by decide) rfl ?_
                  refine mr_iinc (pc := 163) (lv' := [(14, iv (z11543 + 1)), (9, iv 0), (12, jv z11783), (0, .ref 23), (1, iv p1), (2, iv z9433), (3, jv z9432), (5, jv z9431), (8, iv z9429), (10, jv z11766)]) dX6_readBranches_163 rfl (by decide) rfl ?_
                  refine sv_goto (pc := 166) (tgt := 38) dX6_readBranches_166 (by decide) ?_
                  refine mr_lvS (lv' := [(0, .ref 23), (1, iv p1), (2, iv z9433), (3, jv z9432), (5, jv z9431), (8, iv z9429), (9, iv 0), (10, jv z11766), (12, jv z11783), (14, iv (z11543 + 1))]) (List.forall_mem_cons.mpr ⟨rfl, List.forall_mem_cons.mpr ⟨rfl, List.forall_mem_cons.mpr ⟨rfl, List.forall_mem_cons.mpr ⟨rfl, List.forall_mem_cons.mpr ⟨rfl, List.forall_mem_cons.mpr ⟨rfl, List.forall_mem_cons.mpr ⟨rfl, List.forall_mem_cons.mpr ⟨rfl, List.forall_mem_cons.mpr ⟨rfl, List.forall_mem_cons.mpr ⟨rfl, fun _ h => absurd h List.not_mem_nil⟩⟩⟩⟩⟩⟩⟩⟩⟩⟩) ?_
                  exact ih11563 0 z11766 z11783 (z11543 + 1) μ11757 z11747 z11749 T11758 (mF.call (mF.call (mF.call (mF.call mF.refl F11554 rfl) F11726 rfl) F11745 rfl) F11759 rfl) (F11759.f (A_23 hw) rfl q11748) (F11759.f (A_23 hw) rfl q11750) (rW (c := 0) (d := 1) (rR (x := 0)) rfl) h11767 h11784 (rW (c := 0) (d := 1001) (rAdd (e := 1) (f := 1001) h11688 (rR (x := 1)) rfl) rfl) (vc_X6_readBranches_6_30 hq0 hq2 h9444 h9447 h11556 h11559 h11736 h11742 h11751.1 h11751.2.1 h11751.2.2.2.1 h9445 h9446 h11557 h11558 h11737 h11741 h11751.2.2.1 ht_f_at ht_f_end ht_f_ft h9452 h9453 h11564 h11565 h11735 h11740 h11752 h11753) (vc_X6_readBranches_6_31 hq0 hq2 h9445 h11557 h11737 h11751.1 h11751.2.1 h11751.2.2.2.1 h9444 h9446 h9447 h11556 h11558 h11559 h11736 h11741 h11742 h11751.2.2.1 ht_f_at ht_f_end ht_f_ft h9452 h9453 h11564 h11565 h11735 h11740 h11752 h11753) (vc_X6_readBranches_6_32 hq2 h9446 h11558 h11741 h11751.2.2.1 h11751.2.2.2.1 hq0 h9444 h9445 h9447 h11556 h11557 h11559 h11736 h11737 h11742 h11751.1 h11751.2.1 ht_f_at ht_f_end ht_f_ft h9452 h9453 h11564 h11565 h11735 h11740 h11752 h11753) (vc_X6_readBranches_6_33 hq0 hq2 h9444 h9447 h11556 h11559 h11736 h11742 h11751.1 h11751.2.1 h11751.2.2.1 h11751.2.2.2.1 h9445 h9446 h11557 h11558 h11737 h11741 ht_f_at ht_f_end ht_f_ft h9452 h9453 h11564 h11565 h11735 h11740 h11752 h11753) (vc_X6_readBranches_6_18 (nS h11560) h11686 h11688)
                have h11792 : 1 ≤ z11546 ∧ z11546 ≤ 1 := (vc_X12_ring_24 h11790 h11549)
                refine sv_aload_n (pc := 149) dX6_readBranches_149 rfl rfl ?_
                refine gk_X6_15 (pc := 150) dX6_readBranches_150 wF_X6_186 (A_23 hw) q11770 ?_
                refine mr_if_eq (pc := 153) (tgt := 160) dX6_readBranches_153 (by decide) (r32 h11771 rfl) (fun h11795 => ?_) (fun h11795 => ?_)
                · have h11796 : 0 ≤ z11769 ∧ z11769 ≤ 0 := (vc_X12_ring_22 h11795 h11771)
                  refine mr_iconst (pc := 160) (z := 0) dX6_readBranches_160 ?_
                  refine mr_istore (pc := 161) (lv' := [(9, iv 0), (12, jv z11783), (0, .ref 23), (1, iv p1), (2, iv z9433), (3, jv z9432), (5, jv z9431), (8, iv z9429), (10, jv z11766), (14, iv z11543)]) dX6_readBranches_161 (by decide) rfl ?_
                  refine mr_iinc (pc := 163) (lv' := [(14, iv (z11543 + 1)), (9, iv 0), (12, jv z11783), (0, .ref 23), (1, iv p1), (2, iv z9433), (3, jv z9432), (5, jv z9431), (8, iv z9429), (10, jv z11766)]) dX6_readBranches_163 rfl (by decide) rfl ?_
                  refine sv_goto (pc := 166) (tgt := 38) dX6_readBranches_166 (by decide) ?_
                  refine mr_lvS (lv' := [(0, .ref 23), (1, iv p1), (2, iv z9433), (3, jv z9432), (5, jv z9431), (8, iv z9429), (9, iv 0), (10, jv z11766), (12, jv z11783), (14, iv (z11543 + 1))]) (List.forall_mem_cons.mpr ⟨rfl, List.forall_mem_cons.mpr ⟨rfl, List.forall_mem_cons.mpr ⟨rfl, List.forall_mem_cons.mpr ⟨rfl, List.forall_mem_cons.mpr ⟨rfl, List.forall_mem_cons.mpr ⟨rfl, List.forall_mem_cons.mpr ⟨rfl, List.forall_mem_cons.mpr ⟨rfl, List.forall_mem_cons.mpr ⟨rfl, List.forall_mem_cons.mpr ⟨rfl, fun _ h => absurd h List.not_mem_nil⟩⟩⟩⟩⟩⟩⟩⟩⟩⟩) ?_
                  exact ih11563 0 z11766 z11783 (z11543 + 1) μ11757 z11747 z11749 T11758 (mF.call (mF.call (mF.call (mF.call mF.refl F11554 rfl) F11726 rfl) F11745 rfl) F11759 rfl) (F11759.f (A_23 hw) rfl q11748) (F11759.f (A_23 hw) rfl q11750) (rW (c := 0) (d := 1) (rR (x := 0)) rfl) h11767 h11784 (rW (c := 0) (d := 1001) (rAdd (e := 1) (f := 1001) h11688 (rR (x := 1)) rfl) rfl) (vc_X6_readBranches_6_30 hq0 hq2 h9444 h9447 h11556 h11559 h11736 h11742 h11751.1 h11751.2.1 h11751.2.2.2.1 h9445 h9446 h11557 h11558 h11737 h11741 h11751.2.2.1 ht_f_at ht_f_end ht_f_ft h9452 h9453 h11564 h11565 h11735 h11740 h11752 h11753) (vc_X6_readBranches_6_31 hq0 hq2 h9445 h11557 h11737 h11751.1 h11751.2.1 h11751.2.2.2.1 h9444 h9446 h9447 h11556 h11558 h11559 h11736 h11741 h11742 h11751.2.2.1 ht_f_at ht_f_end ht_f_ft h9452 h9453 h11564 h11565 h11735 h11740 h11752 h11753) (vc_X6_readBranches_6_32 hq2 h9446 h11558 h11741 h11751.2.2.1 h11751.2.2.2.1 hq0 h9444 h9445 h9447 h11556 h11557 h11559 h11736 h11737 h11742 h11751.1 h11751.2.1 ht_f_at ht_f_end ht_f_ft h9452 h9453 h11564 h11565 h11735 h11740 h11752 h11753) (vc_X6_readBranches_6_33 hq0 hq2 h9444 h9447 h11556 h11559 h11736 h11742 h11751.1 h11751.2.1 h11751.2.2.1 h11751.2.2.2.1 h9445 h9446 h11557 h11558 h11737 h11741 ht_f_at ht_f_end ht_f_ft h9452 h9453 h11564 h11565 h11735 h11740 h11752 h11753) (vc_X6_readBranches_6_18 (nS h11560) h11686 h11688)
                have h11797 : 1 ≤ z11769 ∧ z11769 ≤ 1 := (vc_X12_ring_24 h11795 h11771)
                refine mr_iconst (pc := 156) (z := 1) dX6_readBranches_156 ?_
                refine sv_goto (pc := 157) (tgt := 161) dX6_readBranches_157 (by decide) ?_
                refine mr_istore (pc := 161) (lv' := [(9, iv 1), (12, jv z11783), (0, .ref 23), (1, iv p1), (2, iv z9433), (3, jv z9432), (5, jv z9431), (8, iv z9429), (10, jv z11766), (14, iv z11543)]) dX6_readBranches_161 (by decide) rfl ?_
                refine mr_iinc (pc := 163) (lv' := [(14, iv (z11543 + 1)), (9, iv 1), (12, jv z11783), (0, .ref 23), (1, iv p1), (2, iv z9433), (3, jv z9432), (5, jv z9431), (8, iv z9429), (10, jv z11766)]) dX6_readBranches_163 rfl (by decide) rfl ?_
                refine sv_goto (pc := 166) (tgt := 38) dX6_readBranches_166 (by decide) ?_
                refine mr_lvS (lv' := [(0, .ref 23), (1, iv p1), (2, iv z9433), (3, jv z9432), (5, jv z9431), (8, iv z9429), (9, iv 1), (10, jv z11766), (12, jv z11783), (14, iv (z11543 + 1))]) (List.forall_mem_cons.mpr ⟨rfl, List.forall_mem_cons.mpr ⟨rfl, List.forall_mem_cons.mpr ⟨rfl, List.forall_mem_cons.mpr ⟨rfl, List.forall_mem_cons.mpr ⟨rfl, List.forall_mem_cons.mpr ⟨rfl, List.forall_mem_cons.mpr ⟨rfl, List.forall_mem_cons.mpr ⟨rfl, List.forall_mem_cons.mpr ⟨rfl, List.forall_mem_cons.mpr ⟨rfl, fun _ h => absurd h List.not_mem_nil⟩⟩⟩⟩⟩⟩⟩⟩⟩⟩) ?_
                exact ih11563 1 z11766 z11783 (z11543 + 1) μ11757 z11747 z11749 T11758 (mF.call (mF.call (mF.call (mF.call mF.refl F11554 rfl) F11726 rfl) F11745 rfl) F11759 rfl) (F11759.f (A_23 hw) rfl q11748) (F11759.f (A_23 hw) rfl q11750) (rW (c := 0) (d := 1) (rR (x := 1)) rfl) h11767 h11784 (rW (c := 0) (d := 1001) (rAdd (e := 1) (f := 1001) h11688 (rR (x := 1)) rfl) rfl) (vc_X6_readBranches_6_30 hq0 hq2 h9444 h9447 h11556 h11559 h11736 h11742 h11751.1 h11751.2.1 h11751.2.2.2.1 h9445 h9446 h11557 h11558 h11737 h11741 h11751.2.2.1 ht_f_at ht_f_end ht_f_ft h9452 h9453 h11564 h11565 h11735 h11740 h11752 h11753) (vc_X6_readBranches_6_31 hq0 hq2 h9445 h11557 h11737 h11751.1 h11751.2.1 h11751.2.2.2.1 h9444 h9446 h9447 h11556 h11558 h11559 h11736 h11741 h11742 h11751.2.2.1 ht_f_at ht_f_end ht_f_ft h9452 h9453 h11564 h11565 h11735 h11740 h11752 h11753) (vc_X6_readBranches_6_32 hq2 h9446 h11558 h11741 h11751.2.2.1 h11751.2.2.2.1 hq0 h9444 h9445 h9447 h11556 h11557 h11559 h11736 h11737 h11742 h11751.1 h11751.2.1 ht_f_at ht_f_end ht_f_ft h9452 h9453 h11564 h11565 h11735 h11740 h11752 h11753) (vc_X6_readBranches_6_33 hq0 hq2 h9444 h9447 h11556 h11559 h11736 h11742 h11751.1 h11751.2.1 h11751.2.2.1 h11751.2.2.2.1 h9445 h9446 h11557 h11558 h11737 h11741 ht_f_at ht_f_end ht_f_ft h9452 h9453 h11564 h11565 h11735 h11740 h11752 h11753) (vc_X6_readBranches_6_18 (nS h11560) h11686 h11688)
              refine mr_if_eq (pc := 125) (tgt := 138) dX6_readBranches_125 (by decide) (r32 h11771 rfl) (fun h11798 => ?_) (fun h11798 => ?_)
              · have h11799 : 0 ≤ z11769 ∧ z11769 ≤ 0 := (vc_X12_ring_22 h11798 h11771)
                refine sv_aload_n (pc := 138) dX6_readBranches_138 rfl rfl ?_
                refine gf_X6_17 (pc := 139) dX6_readBranches_139 wF_X6_183 (A_23 hw) T11758 fun z11800 q11801 h11802 => ?_
                refine mr_lvS (lv' := [(0, .ref 23), (1, iv p1), (2, iv z9433), (3, jv z9432), (5, jv z9431), (8, iv z9429), (9, iv z11546), (10, jv z11766), (14, iv z11543)]) (List.forall_mem_cons.mpr ⟨rfl, List.forall_mem_cons.mpr ⟨rfl, List.forall_mem_cons.mpr ⟨rfl, List.forall_mem_cons.mpr ⟨rfl, List.forall_mem_cons.mpr ⟨rfl, List.forall_mem_cons.mpr ⟨rfl, List.forall_mem_cons.mpr ⟨rfl, List.forall_mem_cons.mpr ⟨rfl, List.forall_mem_cons.mpr ⟨rfl, fun _ h => absurd h List.not_mem_nil⟩⟩⟩⟩⟩⟩⟩⟩⟩) ?_
                exact J11785 z11800 h11802
              have h11803 : 1 ≤ z11769 ∧ z11769 ≤ 1 := (vc_X12_ring_24 h11798 h11771)
              refine mr_lload (pc := 128) (z := z11544) dX6_readBranches_128 rfl ?_
              refine sv_aload_n (pc := 130) dX6_readBranches_130 rfl rfl ?_
              refine gf_X6_17 (pc := 131) dX6_readBranches_131 wF_X6_183 (A_23 hw) T11758 fun z11804 q11805 h11806 => ?_
              refine mr_lor (pc := 134) dX6_readBranches_134 ?_
              refine mr_genL (r64i _) fun z11807 q11808 h11809 => ?_
              refine sv_goto (pc := 135) (tgt := 142) dX6_readBranches_135 (by decide) ?_
              refine mr_lvS (lv' := [(0, .ref 23), (1, iv p1), (2, iv z9433), (3, jv z9432), (5, jv z9431), (8, iv z9429), (9, iv z11546), (10, jv z11766), (14, iv z11543)]) (List.forall_mem_cons.mpr ⟨rfl, List.forall_mem_cons.mpr ⟨rfl, List.forall_mem_cons.mpr ⟨rfl, List.forall_mem_cons.mpr ⟨rfl, List.forall_mem_cons.mpr ⟨rfl, List.forall_mem_cons.mpr ⟨rfl, List.forall_mem_cons.mpr ⟨rfl, List.forall_mem_cons.mpr ⟨rfl, List.forall_mem_cons.mpr ⟨rfl, fun _ h => absurd h List.not_mem_nil⟩⟩⟩⟩⟩⟩⟩⟩⟩) ?_
              exact J11785 z11807 h11809
            refine mr_if_eq (pc := 104) (tgt := 117) dX6_readBranches_104 (by decide) (r32 h11549 rfl) (fun h11810 => ?_) (fun h11810 => ?_)
            · have h11811 : 0 ≤ z11546 ∧ z11546 ≤ 0 := (vc_X12_ring_22 h11810 h11549)
              refine mr_lload (pc := 117) (z := z11545) dX6_readBranches_117 rfl ?_
              refine mr_lvS (lv' := [(0, .ref 23), (1, iv p1), (2, iv z9433), (3, jv z9432), (5, jv z9431), (8, iv z9429), (9, iv z11546), (12, jv z11544), (14, iv z11543)]) (List.forall_mem_cons.mpr ⟨rfl, List.forall_mem_cons.mpr ⟨rfl, List.forall_mem_cons.mpr ⟨rfl, List.forall_mem_cons.mpr ⟨rfl, List.forall_mem_cons.mpr ⟨rfl, List.forall_mem_cons.mpr ⟨rfl, List.forall_mem_cons.mpr ⟨rfl, List.forall_mem_cons.mpr ⟨rfl, List.forall_mem_cons.mpr ⟨rfl, fun _ h => absurd h List.not_mem_nil⟩⟩⟩⟩⟩⟩⟩⟩⟩) ?_
              exact J11768 z11545 h11550
            have h11812 : 1 ≤ z11546 ∧ z11546 ≤ 1 := (vc_X12_ring_24 h11810 h11549)
            refine mr_lload (pc := 107) (z := z11545) dX6_readBranches_107 rfl ?_
            refine sv_aload_n (pc := 109) dX6_readBranches_109 rfl rfl ?_
            refine gk_X6_16 (pc := 110) dX6_readBranches_110 wF_X6_179 (A_23 hw) (F11759.f (A_23 hw) rfl q11755) ?_
            refine mr_lor (pc := 113) dX6_readBranches_113 ?_
            refine mr_genL (r64i _) fun z11813 q11814 h11815 => ?_
            refine sv_goto (pc := 114) (tgt := 119) dX6_readBranches_114 (by decide) ?_
            refine mr_lvS (lv' := [(0, .ref 23), (1, iv p1), (2, iv z9433), (3, jv z9432), (5, jv z9431), (8, iv z9429), (9, iv z11546), (12, jv z11544), (14, iv z11543)]) (List.forall_mem_cons.mpr ⟨rfl, List.forall_mem_cons.mpr ⟨rfl, List.forall_mem_cons.mpr ⟨rfl, List.forall_mem_cons.mpr ⟨rfl, List.forall_mem_cons.mpr ⟨rfl, List.forall_mem_cons.mpr ⟨rfl, List.forall_mem_cons.mpr ⟨rfl, List.forall_mem_cons.mpr ⟨rfl, List.forall_mem_cons.mpr ⟨rfl, fun _ h => absurd h List.not_mem_nil⟩⟩⟩⟩⟩⟩⟩⟩⟩) ?_
            exact J11768 z11813 h11815
          refine mr_icmp_ne (pc := 73) (tgt := 84) dX6_readBranches_73 (by decide) h11691 (r32 (rR (x := 1040)) rfl) (fun h11816 => ?_) (fun h11816 => ?_)
          · refine sv_aload_n (pc := 84) dX6_readBranches_84 rfl rfl ?_
            refine mr_cVV (pc := 85) (c_X6_readPlace_g hw T11553 q11561 (F11554.f (A_23 hw) rfl (F9442.f (A_23 hw) rfl q_f_end)) q11562 (F11554.f (A_24 hw) rfl (F9442.f (A_24 hw) rfl q_f_te)) (vc_X6_readBranches_6_12 hq0 hq2 h9444 h9447 h11556 h11557 h11559 h9445 h9446 h11558 ht_f_at ht_f_end ht_f_ft h9452 h9453 h11564 h11565) (vc_X6_expect_g_3 hq1 h1) (vc_X6_readBranches_6_37 hq0 hq2 h9444 h9447 h11556 h11557 h11558 h11559 h9445 h9446 ht_f_at ht_f_end ht_f_ft h9452 h9453 h11564 h11565)) (gOk _ _ _ _ _) dX6_readBranches_85 (tX6_readPlace _ _ _ _ _) ⟨wV_X6_readPlace, wL_X6_readPlace⟩ wM_X6_196 (gCX6 _ _ _ _ _) rfl (A_23 hw) rfl ⟨le_t rfl, le_t rfl⟩ ⟨le_t rfl, le_t rfl⟩ rfl (le_t rfl) fun μ11817 T11818 F11819 h11820 => ?_
            obtain ⟨z11821, z11823, q11822, q11824, h11825⟩ := h11820
            have h11826 : (0 ≤ z11821 ∧ z11821 ≤ 1000) := by rw [← q11822]; exact T11818 23 23 (A_23 hw) 9
            have h11827 : (0 ≤ z11823 ∧ z11823 ≤ 4) := by rw [← q11824]; exact T11818 23 23 (A_23 hw) 18
            exact J11732 μ11817 T11818 (mF.call mF.refl F11819 rfl) (by rw [q11822]; exact (vc_X6_readBranches_6_38 hq0 hq2 h9444 h9447 h11556 h11559 h11825.1 h11825.2.1 h11825.2.2.2.1 h9445 h9446 h11557 h11558 h11825.2.2.1 ht_f_at ht_f_end ht_f_ft h9452 h9453 h11564 h11565 h11826 h11827)) (by rw [q11822]; exact (vc_X6_readBranches_6_39 hq0 hq2 h9445 h11557 h11825.1 h11825.2.1 h11825.2.2.2.1 h9444 h9446 h9447 h11556 h11558 h11559 h11825.2.2.1 ht_f_at ht_f_end ht_f_ft h9452 h9453 h11564 h11565 h11826 h11827)) (by rw [q11824]; exact (vc_X6_readBranches_6_40 hq2 h9446 h11558 h11825.2.2.1 h11825.2.2.2.1 hq0 h9444 h9445 h9447 h11556 h11557 h11559 h11825.1 h11825.2.1 ht_f_at ht_f_end ht_f_ft h9452 h9453 h11564 h11565 h11826 h11827)) (by rw [q11824, q11822]; exact (vc_X6_readBranches_6_41 hq0 hq2 h9444 h9447 h11556 h11559 h11825.1 h11825.2.1 h11825.2.2.1 h11825.2.2.2.1 h9445 h9446 h11557 h11558 ht_f_at ht_f_end ht_f_ft h9452 h9453 h11564 h11565 h11826 h11827))
          have h11828 : 1040 ≤ z11689 ∧ z11689 ≤ 1040 := (vc_X6_readBranches_6_42 h11816 h11695.2.1 h11700 h11691 h11699)
          refine sv_aload_n (pc := 76) dX6_readBranches_76 rfl rfl ?_
          refine mr_iload_n (pc := 77) (z := p1) dX6_readBranches_77 rfl rfl ?_
          refine mr_cVV (pc := 78) (c_X6_readGroup_6 hw T11553 hp1 q11561 (F11554.f (A_23 hw) rfl (F9442.f (A_23 hw) rfl q_f_end)) q11562 (F11554.f (A_24 hw) rfl (F9442.f (A_24 hw) rfl q_f_te)) (vc_X6_readBranches_6_12 hq0 hq2 h9444 h9447 h11556 h11557 h11559 h9445 h9446 h11558 ht_f_at ht_f_end ht_f_ft h9452 h9453 h11564 h11565) (vc_X6_expect_g_3 hq1 h1) (vc_X6_readBranches_6_37 hq0 hq2 h9444 h9447 h11556 h11557 h11558 h11559 h9445 h9446 ht_f_at ht_f_end ht_f_ft h9452 h9453 h11564 h11565)) (gOk _ _ _ _ _) dX6_readBranches_78 (tX6_readGroup _ _ _ _ _) ⟨wV_X6_readGroup, wL_X6_readGroup⟩ wM_X6_193 (gCX6 _ _ _ _ _) rfl (A_23 hw) rfl ⟨le_t rfl, le_t rfl⟩ ⟨le_t rfl, le_t rfl⟩ rfl (le_t rfl) fun μ11829 T11830 F11831 h11832 => ?_
          obtain ⟨z11833, z11835, q11834, q11836, h11837⟩ := h11832
          have h11838 : (0 ≤ z11833 ∧ z11833 ≤ 1000) := by rw [← q11834]; exact T11830 23 23 (A_23 hw) 9
          have h11839 : (0 ≤ z11835 ∧ z11835 ≤ 4) := by rw [← q11836]; exact T11830 23 23 (A_23 hw) 18
          refine sv_goto (pc := 81) (tgt := 88) dX6_readBranches_81 (by decide) ?_
          exact J11732 μ11829 T11830 (mF.call mF.refl F11831 rfl) (by rw [q11834]; exact (vc_X6_readBranches_6_38 hq0 hq2 h9444 h9447 h11556 h11559 h11837.1 h11837.2.1 h11837.2.2.2.1 h9445 h9446 h11557 h11558 h11837.2.2.1 ht_f_at ht_f_end ht_f_ft h9452 h9453 h11564 h11565 h11838 h11839)) (by rw [q11834]; exact (vc_X6_readBranches_6_39 hq0 hq2 h9445 h11557 h11837.1 h11837.2.1 h11837.2.2.2.1 h9444 h9446 h9447 h11556 h11558 h11559 h11837.2.2.1 ht_f_at ht_f_end ht_f_ft h9452 h9453 h11564 h11565 h11838 h11839)) (by rw [q11836]; exact (vc_X6_readBranches_6_40 hq2 h9446 h11558 h11837.2.2.1 h11837.2.2.2.1 hq0 h9444 h9445 h9447 h11556 h11557 h11559 h11837.1 h11837.2.1 ht_f_at ht_f_end ht_f_ft h9452 h9453 h11564 h11565 h11838 h11839)) (by rw [q11836, q11834]; exact (vc_X6_readBranches_6_41 hq0 hq2 h9444 h9447 h11556 h11559 h11837.1 h11837.2.1 h11837.2.2.1 h11837.2.2.2.1 h9445 h9446 h11557 h11558 ht_f_at ht_f_end ht_f_ft h9452 h9453 h11564 h11565 h11838 h11839))
      refine mr_lvS (lv' := [(0, .ref 23), (1, iv p1), (2, iv z9433), (3, jv z9432), (5, jv z9431), (8, iv z9429), (9, iv 1), (10, jv 0), (12, jv 0), (14, iv 0)]) (List.forall_mem_cons.mpr ⟨rfl, List.forall_mem_cons.mpr ⟨rfl, List.forall_mem_cons.mpr ⟨rfl, List.forall_mem_cons.mpr ⟨rfl, List.forall_mem_cons.mpr ⟨rfl, List.forall_mem_cons.mpr ⟨rfl, List.forall_mem_cons.mpr ⟨rfl, List.forall_mem_cons.mpr ⟨rfl, List.forall_mem_cons.mpr ⟨rfl, List.forall_mem_cons.mpr ⟨rfl, fun _ h => absurd h List.not_mem_nil⟩⟩⟩⟩⟩⟩⟩⟩⟩⟩) ?_
      exact L11548 1003 1 0 0 0 μ9434 f_la f_lf T9441 mF.refl q9449 q9450 (rW (c := 0) (d := 1) (rR (x := 1)) rfl) (rW (c := -9223372036854775808) (d := 9223372036854775807) (rR (x := 0)) rfl) (rW (c := -9223372036854775808) (d := 9223372036854775807) (rR (x := 0)) rfl) (rW (c := 0) (d := 1001) (rR (x := 0)) rfl) (vc_X6_readBranches_6_4 hq0 hq2 h9444 h9445 h9447 h9446 ht_f_at ht_f_end ht_f_ft h9452 h9453) (vc_X6_readBranches_6_5 hq0 hq2 h9444 h9445 h9447 h9446 ht_f_at ht_f_end ht_f_ft h9452 h9453) (vc_X6_readBranches_6_6 hq2 h9446 h9447 hq0 h9444 h9445 ht_f_at ht_f_end ht_f_ft h9452 h9453) (vc_X6_readBranches_6_7 hq0 hq2 h9444 h9445 h9446 h9447 ht_f_at ht_f_end ht_f_ft h9452 h9453) vc_X6_readBranches_6_47
  refine mr_lvS (lv' := [(0, .ref 23), (1, iv p1), (2, iv 0), (3, jv 0), (5, jv 0), (7, iv 1), (8, iv 0)]) (List.forall_mem_cons.mpr ⟨rfl, List.forall_mem_cons.mpr ⟨rfl, List.forall_mem_cons.mpr ⟨rfl, List.forall_mem_cons.mpr ⟨rfl, List.forall_mem_cons.mpr ⟨rfl, List.forall_mem_cons.mpr ⟨rfl, List.forall_mem_cons.mpr ⟨rfl, fun _ h => absurd h List.not_mem_nil⟩⟩⟩⟩⟩⟩⟩) ?_
  exact L9435 1003 0 0 0 1 0 μ f_at f_ft hT mF.refl q_f_at q_f_ft (rW (c := 0) (d := 1) (rR (x := 0)) rfl) (rW (c := -9223372036854775808) (d := 9223372036854775807) (rR (x := 0)) rfl) (rW (c := -9223372036854775808) (d := 9223372036854775807) (rR (x := 0)) rfl) (rW (c := 0) (d := 1) (rR (x := 1)) rfl) (rW (c := 0) (d := 1001) (rR (x := 0)) rfl) (vc_X6_expect_g_2 hq0 hq2 ht_f_at ht_f_end ht_f_ft) (vc_X6_readRepeat_g_31 hq0 hq2 ht_f_at ht_f_end ht_f_ft) (vc_X6_readRepeat_g_32 hq2 hq0 ht_f_at ht_f_end ht_f_ft) (vc_X6_readRepeat_g_33 hq0 hq2 ht_f_at ht_f_end ht_f_ft) vc_X6_readBranches_6_47
theorem vc_X6_readGroup_5_2 {p1 : Int} (h0 : 6 ≤ p1) (h1 : 5 ≤ p1 ∧ p1 ≤ 5) : False := by omega
theorem vc_X6_readGroup_5_7 {z153 : Int} (h0 : z153 = 1041) (h1 : (-2147483648) ≤ z153 ∧ z153 ≤ 2147483647) : 1041 ≤ z153 ∧ z153 ≤ 1041 := by omega
theorem vc_X6_readGroup_5_8 {f_at f_end f_ft z138 z146 z148 : Int} (h0 : f_at ≤ f_end) (h1 : f_ft = 0 ∨ f_at = f_end) (h2 : z138 ≤ f_end) (h3 : f_at < f_end → f_at + 1 ≤ z138) (h4 : z146 ≤ f_end) (h5 : z138 ≤ z146) (h6 : z148 = 0 ∨ z146 = f_end) (h7 : f_at ≤ z138) (h8 : f_ft = 0 ∨ 1 ≤ z148) (h9 : 0 ≤ f_at ∧ f_at ≤ 1000) (h10 : 0 ≤ f_end ∧ f_end ≤ 1000) (h11 : 0 ≤ f_ft ∧ f_ft ≤ 4) (h12 : 0 ≤ z138 ∧ z138 ≤ 1000) (h13 : 0 ≤ z146 ∧ z146 ≤ 1000) (h14 : 0 ≤ z148 ∧ z148 ≤ 4) : z146 ≤ f_end := by omega
theorem vc_X6_readGroup_5_9 {f_at f_end f_ft z138 z146 z148 z162 : Int} (h0 : f_at ≤ f_end) (h1 : f_ft = 0 ∨ f_at = f_end) (h2 : z138 ≤ f_end) (h3 : f_at < f_end → f_at + 1 ≤ z138) (h4 : z146 ≤ f_end) (h5 : z148 = 0 ∨ z146 = f_end) (h6 : z162 ≤ f_end) (h7 : z146 ≤ z162) (h8 : z146 < f_end → z146 + 1 ≤ z162) (h9 : f_at ≤ z138) (h10 : z138 ≤ z146) (h11 : f_ft = 0 ∨ 1 ≤ z148) (h12 : 0 ≤ f_at ∧ f_at ≤ 1000) (h13 : 0 ≤ f_end ∧ f_end ≤ 1000) (h14 : 0 ≤ f_ft ∧ f_ft ≤ 4) (h15 : 0 ≤ z138 ∧ z138 ≤ 1000) (h16 : 0 ≤ z146 ∧ z146 ≤ 1000) (h17 : 0 ≤ z148 ∧ z148 ≤ 4) (h18 : 0 ≤ z162 ∧ z162 ≤ 1000) : z162 ≤ f_end := by omega
theorem vc_X6_readGroup_5_10 {f_at f_end f_ft z138 z146 z148 z162 : Int} (h0 : f_at ≤ f_end) (h1 : f_ft = 0 ∨ f_at = f_end) (h2 : f_at ≤ z138) (h3 : f_at < f_end → f_at + 1 ≤ z138) (h4 : z162 ≤ f_end) (h5 : z146 ≤ z162) (h6 : z146 < f_end → z146 + 1 ≤ z162) (h7 : z138 ≤ f_end) (h8 : z146 ≤ f_end) (h9 : z138 ≤ z146) (h10 : f_ft = 0 ∨ 1 ≤ z148) (h11 : z148 = 0 ∨ z146 = f_end) (h12 : 0 ≤ f_at ∧ f_at ≤ 1000) (h13 : 0 ≤ f_end ∧ f_end ≤ 1000) (h14 : 0 ≤ f_ft ∧ f_ft ≤ 4) (h15 : 0 ≤ z138 ∧ z138 ≤ 1000) (h16 : 0 ≤ z146 ∧ z146 ≤ 1000) (h17 : 0 ≤ z148 ∧ z148 ≤ 4) (h18 : 0 ≤ z162 ∧ z162 ≤ 1000) : f_at ≤ z162 := by omega
theorem vc_X6_readGroup_5_11 {f_at f_end f_ft z138 z146 z148 z162 : Int} (h0 : f_ft = 0 ∨ f_at = f_end) (h1 : f_ft = 0 ∨ 1 ≤ z148) (h2 : z148 = 0 ∨ z146 = f_end) (h3 : f_at ≤ f_end) (h4 : z138 ≤ f_end) (h5 : f_at ≤ z138) (h6 : f_at < f_end → f_at + 1 ≤ z138) (h7 : z146 ≤ f_end) (h8 : z138 ≤ z146) (h9 : z162 ≤ f_end) (h10 : z146 ≤ z162) (h11 : z146 < f_end → z146 + 1 ≤ z162) (h12 : 0 ≤ f_at ∧ f_at ≤ 1000) (h13 : 0 ≤ f_end ∧ f_end ≤ 1000) (h14 : 0 ≤ f_ft ∧ f_ft ≤ 4) (h15 : 0 ≤ z138 ∧ z138 ≤ 1000) (h16 : 0 ≤ z146 ∧ z146 ≤ 1000) (h17 : 0 ≤ z148 ∧ z148 ≤ 4) (h18 : 0 ≤ z162 ∧ z162 ≤ 1000) : f_ft = 0 ∨ 1 ≤ z148 := by omega
theorem vc_X6_readGroup_5_12 {f_at f_end f_ft z138 z146 z148 z162 : Int} (h0 : f_at ≤ f_end) (h1 : f_ft = 0 ∨ f_at = f_end) (h2 : z138 ≤ f_end) (h3 : f_at < f_end → f_at + 1 ≤ z138) (h4 : z146 ≤ f_end) (h5 : f_ft = 0 ∨ 1 ≤ z148) (h6 : z148 = 0 ∨ z146 = f_end) (h7 : z162 ≤ f_end) (h8 : z146 ≤ z162) (h9 : z146 < f_end → z146 + 1 ≤ z162) (h10 : f_at ≤ z138) (h11 : z138 ≤ z146) (h12 : 0 ≤ f_at ∧ f_at ≤ 1000) (h13 : 0 ≤ f_end ∧ f_end ≤ 1000) (h14 : 0 ≤ f_ft ∧ f_ft ≤ 4) (h15 : 0 ≤ z138 ∧ z138 ≤ 1000) (h16 : 0 ≤ z146 ∧ z146 ≤ 1000) (h17 : 0 ≤ z148 ∧ z148 ≤ 4) (h18 : 0 ≤ z162 ∧ z162 ≤ 1000) : z148 = 0 ∨ z162 = f_end := by omega
theorem vc_X6_readGroup_5_14 {f_at f_end f_ft z138 z146 z148 z170 : Int} (h0 : f_at ≤ f_end) (h1 : f_ft = 0 ∨ f_at = f_end) (h2 : z138 ≤ f_end) (h3 : f_at < f_end → f_at + 1 ≤ z138) (h4 : z146 ≤ f_end) (h5 : z148 = 0 ∨ z146 = f_end) (h6 : z170 = f_end) (h7 : f_at ≤ z138) (h8 : z138 ≤ z146) (h9 : f_ft = 0 ∨ 1 ≤ z148) (h10 : 0 ≤ f_at ∧ f_at ≤ 1000) (h11 : 0 ≤ f_end ∧ f_end ≤ 1000) (h12 : 0 ≤ f_ft ∧ f_ft ≤ 4) (h13 : 0 ≤ z138 ∧ z138 ≤ 1000) (h14 : 0 ≤ z146 ∧ z146 ≤ 1000) (h15 : 0 ≤ z148 ∧ z148 ≤ 4) (h16 : 0 ≤ z170 ∧ z170 ≤ 1000) : f_end ≤ f_end := by omega
theorem vc_X6_readGroup_5_15 {f_at f_end f_ft z138 z146 z148 z170 : Int} (h0 : f_at ≤ f_end) (h1 : f_ft = 0 ∨ f_at = f_end) (h2 : z138 ≤ f_end) (h3 : f_at ≤ z138) (h4 : f_at < f_end → f_at + 1 ≤ z138) (h5 : z146 ≤ f_end) (h6 : z148 = 0 ∨ z146 = f_end) (h7 : z170 = f_end) (h8 : z138 ≤ z146) (h9 : f_ft = 0 ∨ 1 ≤ z148) (h10 : 0 ≤ f_at ∧ f_at ≤ 1000) (h11 : 0 ≤ f_end ∧ f_end ≤ 1000) (h12 : 0 ≤ f_ft ∧ f_ft ≤ 4) (h13 : 0 ≤ z138 ∧ z138 ≤ 1000) (h14 : 0 ≤ z146 ∧ z146 ≤ 1000) (h15 : 0 ≤ z148 ∧ z148 ≤ 4) (h16 : 0 ≤ z170 ∧ z170 ≤ 1000) : f_at ≤ f_end := by omega
theorem vc_X6_readGroup_5_16 {f_at f_end f_ft z138 z146 z148 z170 z172 : Int} (h0 : f_ft = 0 ∨ f_at = f_end) (h1 : f_ft = 0 ∨ 1 ≤ z148) (h2 : 1 ≤ z172) (h3 : f_at ≤ f_end) (h4 : z138 ≤ f_end) (h5 : f_at ≤ z138) (h6 : f_at < f_end → f_at + 1 ≤ z138) (h7 : z146 ≤ f_end) (h8 : z148 = 0 ∨ z146 = f_end) (h9 : z170 = f_end) (h10 : 0 ≤ f_at ∧ f_at ≤ 1000) (h11 : 0 ≤ f_end ∧ f_end ≤ 1000) (h12 : 0 ≤ f_ft ∧ f_ft ≤ 4) (h13 : 0 ≤ z138 ∧ z138 ≤ 1000) (h14 : 0 ≤ z146 ∧ z146 ≤ 1000) (h15 : 0 ≤ z148 ∧ z148 ≤ 4) (h16 : 0 ≤ z170 ∧ z170 ≤ 1000) (h17 : 1 ≤ z172 ∧ z172 ≤ 4) : f_ft = 0 ∨ 1 ≤ z172 := by omega
theorem vc_X6_readGroup_5_17 {f_at f_end f_ft z138 z146 z148 z170 z172 : Int} (h0 : f_at ≤ f_end) (h1 : f_ft = 0 ∨ f_at = f_end) (h2 : z138 ≤ f_end) (h3 : f_at < f_end → f_at + 1 ≤ z138) (h4 : z146 ≤ f_end) (h5 : z148 = 0 ∨ z146 = f_end) (h6 : z170 = f_end) (h7 : 1 ≤ z172) (h8 : f_at ≤ z138) (h9 : z138 ≤ z146) (h10 : f_ft = 0 ∨ 1 ≤ z148) (h11 : 0 ≤ f_at ∧ f_at ≤ 1000) (h12 : 0 ≤ f_end ∧ f_end ≤ 1000) (h13 : 0 ≤ f_ft ∧ f_ft ≤ 4) (h14 : 0 ≤ z138 ∧ z138 ≤ 1000) (h15 : 0 ≤ z146 ∧ z146 ≤ 1000) (h16 : 0 ≤ z148 ∧ z148 ≤ 4) (h17 : 0 ≤ z170 ∧ z170 ≤ 1000) (h18 : 1 ≤ z172 ∧ z172 ≤ 4) : z172 = 0 ∨ f_end = f_end := by omega
set_option maxRecDepth 4000 in
set_option maxHeartbeats 4000000 in
theorem c_X6_readGroup_5 {l : Launch} {D : va_G} {c : Nat → ClassId} {H0 : Heap} {sa : Nat × Nat × (Nat → Int32)} {w : mW} {μ : mM} (hw : mWF w) (hT : mT w μ) {p1 : Int} (hp1 : 5 ≤ p1 ∧ p1 ≤ 5) {f_at : Int} (q_f_at : μ 23 9 = f_at) {f_end : Int} (q_f_end : μ 23 8 = f_end) {f_ft : Int} (q_f_ft : μ 23 18 = f_ft) {f_te : Int} (q_f_te : μ 24 (f_end.toNat) = f_te) (hq0 : f_at ≤ f_end) (hq1 : f_te = -1) (hq2 : f_ft = 0 ∨ f_at = f_end) : sC (gG l D c H0 sa) mX6_readGroup 4 0 0 [.ref 23, iv p1] (mk w μ) (qV w [23009, 23012, 23015, 23016, 23017, 23018, 23019, 28999, 29999] μ (fun μ1 => ∃ o_at o_ft : Int, μ1 23 9 = o_at ∧ μ1 23 18 = o_ft ∧ (o_at ≤ f_end) ∧ (f_at ≤ o_at) ∧ (f_ft = 0 ∨ 1 ≤ o_ft) ∧ (o_ft = 0 ∨ o_at = f_end) ∧ True)) := by
  refine sC.of rfl (by decide) (le_t rfl) ?_
  have ht_f_at : (0 ≤ f_at ∧ f_at ≤ 1000) := by rw [← q_f_at]; exact hT 23 23 (A_23 hw) 9
  have ht_f_end : (0 ≤ f_end ∧ f_end ≤ 1000) := by rw [← q_f_end]; exact hT 23 23 (A_23 hw) 8
  have ht_f_ft : (0 ≤ f_ft ∧ f_ft ≤ 4) := by rw [← q_f_ft]; exact hT 23 23 (A_23 hw) 18
  have ht_f_te : ((-2147483648) ≤ f_te ∧ f_te ≤ 2147483647) := by rw [← q_f_te]; exact hT 24 24 (A_24 hw) (f_end.toNat)
  have h1 : (-1) ≤ f_te ∧ f_te ≤ (-1) := (vc_X6_take_g_1 hq1 ht_f_te)
  refine mr_lvE (lv' := [(0, .ref 23), (1, iv p1)]) rfl ?_
  refine mr_iload_n (pc := 0) (z := p1) dX6_readGroup_0 rfl rfl ?_
  refine mr_bipush (pc := 1) (z := 6) dX6_readGroup_1 (by decide) ?_
  refine mr_icmp_lt (pc := 3) (tgt := 12) dX6_readGroup_3 (by decide) (r32 hp1 rfl) (r32 (rR (x := 6)) rfl) (fun _ => ?_) (fun h => ((vc_X6_readGroup_5_2 h hp1)).elim)
  refine sv_aload_n (pc := 12) dX6_readGroup_12 rfl rfl ?_
  refine mr_cVV (pc := 13) (c_X6_step_g hw hT q_f_at q_f_end (vc_X6_expect_g_2 hq0 hq2 ht_f_at ht_f_end ht_f_ft)) (gOk _ _ _ _ _) dX6_readGroup_13 (tX6_step _ _ _ _ _) ⟨wV_X6_step, wL_X6_step⟩ wM_X6_117 (gCX6 _ _ _ _ _) rfl (A_23 hw) rfl ⟨le_t rfl, le_t rfl⟩ ⟨le_t rfl, le_t rfl⟩ rfl (le_t rfl) fun μ134 T135 F136 h137 => ?_
  obtain ⟨z138, q139, h140⟩ := h137
  have h141 : (0 ≤ z138 ∧ z138 ≤ 1000) := by rw [← q139]; exact T135 23 23 (A_23 hw) 9
  refine sv_aload_n (pc := 16) dX6_readGroup_16 rfl rfl ?_
  refine mr_iload_n (pc := 17) (z := p1) dX6_readGroup_17 rfl rfl ?_
  refine mr_iconst (pc := 18) (z := 1) dX6_readGroup_18 ?_
  refine mr_iadd (pc := 19) (x := p1) (y := 1) dX6_readGroup_19 ?_
  refine mr_cVV (pc := 20) (c_X6_readBranches_6 hw T135 (rAdd (e := 6) (f := 6) hp1 (rR (x := 1)) rfl) q139 (F136.f (A_23 hw) rfl q_f_end) (F136.f (A_23 hw) rfl q_f_ft) (F136.f (A_24 hw) rfl q_f_te) (vc_X6_readPlace_g_6 hq0 hq2 h140.1 h140.2.1 h140.2.2.1 ht_f_at ht_f_end ht_f_ft h141) (vc_X6_expect_g_3 hq1 h1) (vc_X6_readPlace_g_9 hq0 hq2 h140.1 h140.2.1 h140.2.2.1 ht_f_at ht_f_end ht_f_ft h141)) (gOk _ _ _ _ _) dX6_readGroup_20 (tX6_readBranches _ _ _ _ _) ⟨wV_X6_readBranches, wL_X6_readBranches⟩ wM_X6_176 (gCX6 _ _ _ _ _) rfl (A_23 hw) rfl ⟨le_t rfl, le_t rfl⟩ ⟨le_t rfl, le_t rfl⟩ rfl (le_t rfl) fun μ142 T143 F144 h145 => ?_
  obtain ⟨z146, z148, q147, q149, h150⟩ := h145
  have h151 : (0 ≤ z146 ∧ z146 ≤ 1000) := by rw [← q147]; exact T143 23 23 (A_23 hw) 9
  have h152 : (0 ≤ z148 ∧ z148 ≤ 4) := by rw [← q149]; exact T143 23 23 (A_23 hw) 18
  refine sv_aload_n (pc := 23) dX6_readGroup_23 rfl rfl ?_
  refine gf_X6_0 (pc := 24) dX6_readGroup_24 wF_X6_9 (A_23 hw) T143 ?_
  refine sv_aload_n (pc := 27) dX6_readGroup_27 rfl rfl ?_
  refine gk_X6_9 (pc := 28) dX6_readGroup_28 wF_X6_63 (A_23 hw) q147 ?_
  refine la_24 (pc := 31) dX6_readGroup_31 (A_24 hw) T143 (rIx (n := 1001) h151 rfl) fun z153 q154 h155 => ?_
  refine mr_sipush (pc := 32) (z := 1041) dX6_readGroup_32 (by decide) ?_
  refine mr_icmp_eq (pc := 35) (tgt := 44) dX6_readGroup_35 (by decide) h155 (r32 (rR (x := 1041)) rfl) (fun h156 => ?_) (fun h156 => ?_)
  · have h157 : 1041 ≤ z153 ∧ z153 ≤ 1041 := (vc_X6_readGroup_5_7 h156 h155)
    refine sv_aload_n (pc := 44) dX6_readGroup_44 rfl rfl ?_
    refine mr_cVV (pc := 45) (c_X6_step_g hw T143 q147 (F144.f (A_23 hw) rfl (F136.f (A_23 hw) rfl q_f_end)) (vc_X6_readGroup_5_8 hq0 hq2 h140.1 h140.2.2.1 h150.1 h150.2.1 h150.2.2.2.1 h140.2.1 h150.2.2.1 ht_f_at ht_f_end ht_f_ft h141 h151 h152)) (gOk _ _ _ _ _) dX6_readGroup_45 (tX6_step _ _ _ _ _) ⟨wV_X6_step, wL_X6_step⟩ wM_X6_117 (gCX6 _ _ _ _ _) rfl (A_23 hw) rfl ⟨le_t rfl, le_t rfl⟩ ⟨le_t rfl, le_t rfl⟩ rfl (le_t rfl) fun μ158 T159 F160 h161 => ?_
    obtain ⟨z162, q163, h164⟩ := h161
    have h165 : (0 ≤ z162 ∧ z162 ≤ 1000) := by rw [← q163]; exact T159 23 23 (A_23 hw) 9
    exact mr_vret dX6_readGroup_48 rfl (le_t rfl) (le_t rfl) T159 (mF.call (mF.call (mF.call mF.refl F136 rfl) F144 rfl) F160 rfl) ⟨z162, z148, q163, (F160.f (A_23 hw) rfl q149), (vc_X6_readGroup_5_9 hq0 hq2 h140.1 h140.2.2.1 h150.1 h150.2.2.2.1 h164.1 h164.2.1 h164.2.2.1 h140.2.1 h150.2.1 h150.2.2.1 ht_f_at ht_f_end ht_f_ft h141 h151 h152 h165), (vc_X6_readGroup_5_10 hq0 hq2 h140.2.1 h140.2.2.1 h164.1 h164.2.1 h164.2.2.1 h140.1 h150.1 h150.2.1 h150.2.2.1 h150.2.2.2.1 ht_f_at ht_f_end ht_f_ft h141 h151 h152 h165), (vc_X6_readGroup_5_11 hq2 h150.2.2.1 h150.2.2.2.1 hq0 h140.1 h140.2.1 h140.2.2.1 h150.1 h150.2.1 h164.1 h164.2.1 h164.2.2.1 ht_f_at ht_f_end ht_f_ft h141 h151 h152 h165), (vc_X6_readGroup_5_12 hq0 hq2 h140.1 h140.2.2.1 h150.1 h150.2.2.1 h150.2.2.2.1 h164.1 h164.2.1 h164.2.2.1 h140.2.1 h150.2.1 ht_f_at ht_f_end ht_f_ft h141 h151 h152 h165), trivial⟩
  refine sv_aload_n (pc := 38) dX6_readGroup_38 rfl rfl ?_
  refine mr_iconst (pc := 39) (z := 2) dX6_readGroup_39 ?_
  refine mr_cVV (pc := 40) (c_X6_fail_g hw T143 (rW (c := 1) (d := 4) (rR (x := 2)) rfl) q147 (F144.f (A_23 hw) rfl (F136.f (A_23 hw) rfl q_f_end)) q149 (vc_X6_readGroup_5_8 hq0 hq2 h140.1 h140.2.2.1 h150.1 h150.2.1 h150.2.2.2.1 h140.2.1 h150.2.2.1 ht_f_at ht_f_end ht_f_ft h141 h151 h152)) (gOk _ _ _ _ _) dX6_readGroup_40 (tX6_fail _ _ _ _ _) ⟨wV_X6_fail, wL_X6_fail⟩ wM_X6_123 (gCX6 _ _ _ _ _) rfl (A_23 hw) rfl ⟨le_t rfl, le_t rfl⟩ ⟨le_t rfl, le_t rfl⟩ rfl (le_t rfl) fun μ166 T167 F168 h169 => ?_
  obtain ⟨z170, z172, q171, q173, h174⟩ := h169
  have h175 : (0 ≤ z170 ∧ z170 ≤ 1000) := by rw [← q171]; exact T167 23 23 (A_23 hw) 9
  have h176 : (0 ≤ z172 ∧ z172 ≤ 4) := by rw [← q173]; exact T167 23 23 (A_23 hw) 18
  have q177 : μ166 23 9 = f_end := q171.trans h174.1
  have h178 : 1 ≤ z172 ∧ z172 ≤ 4 := (vc_X12_next_128 h174.2.1 h176)
  exact mr_vret dX6_readGroup_43 rfl (le_t rfl) (le_t rfl) T167 (mF.call (mF.call (mF.call mF.refl F136 rfl) F144 rfl) F168 rfl) ⟨f_end, z172, q177, q173, (vc_X6_readGroup_5_14 hq0 hq2 h140.1 h140.2.2.1 h150.1 h150.2.2.2.1 h174.1 h140.2.1 h150.2.1 h150.2.2.1 ht_f_at ht_f_end ht_f_ft h141 h151 h152 h175), (vc_X6_readGroup_5_15 hq0 hq2 h140.1 h140.2.1 h140.2.2.1 h150.1 h150.2.2.2.1 h174.1 h150.2.1 h150.2.2.1 ht_f_at ht_f_end ht_f_ft h141 h151 h152 h175), (vc_X6_readGroup_5_16 hq2 h150.2.2.1 h174.2.1 hq0 h140.1 h140.2.1 h140.2.2.1 h150.1 h150.2.2.2.1 h174.1 ht_f_at ht_f_end ht_f_ft h141 h151 h152 h175 h178), (vc_X6_readGroup_5_17 hq0 hq2 h140.1 h140.2.2.1 h150.1 h150.2.2.2.1 h174.1 h174.2.1 h140.2.1 h150.2.1 h150.2.2.1 ht_f_at ht_f_end ht_f_ft h141 h151 h152 h175 h178), trivial⟩
set_option maxRecDepth 4000 in
set_option maxHeartbeats 4000000 in
theorem c_X6_readBranches_5 {l : Launch} {D : va_G} {c : Nat → ClassId} {H0 : Heap} {sa : Nat × Nat × (Nat → Int32)} {w : mW} {μ : mM} (hw : mWF w) (hT : mT w μ) {p1 : Int} (hp1 : 5 ≤ p1 ∧ p1 ≤ 5) {f_at : Int} (q_f_at : μ 23 9 = f_at) {f_end : Int} (q_f_end : μ 23 8 = f_end) {f_ft : Int} (q_f_ft : μ 23 18 = f_ft) {f_te : Int} (q_f_te : μ 24 (f_end.toNat) = f_te) (hq0 : f_at ≤ f_end) (hq1 : f_te = -1) (hq2 : f_ft = 0 ∨ f_at = f_end) : sC (gG l D c H0 sa) mX6_readBranches 5 0 0 [.ref 23, iv p1] (mk w μ) (qV w [23009, 23012, 23015, 23016, 23017, 23018, 23019, 28999, 29999] μ (fun μ1 => ∃ o_at o_ft : Int, μ1 23 9 = o_at ∧ μ1 23 18 = o_ft ∧ (o_at ≤ f_end) ∧ (f_at ≤ o_at) ∧ (f_ft = 0 ∨ 1 ≤ o_ft) ∧ (o_ft = 0 ∨ o_at = f_end) ∧ True)) := by
  refine sC.of rfl (by decide) (le_t rfl) ?_
  have ht_f_at : (0 ≤ f_at ∧ f_at ≤ 1000) := by rw [← q_f_at]; exact hT 23 23 (A_23 hw) 9
  have ht_f_end : (0 ≤ f_end ∧ f_end ≤ 1000) := by rw [← q_f_end]; exact hT 23 23 (A_23 hw) 8
  have ht_f_ft : (0 ≤ f_ft ∧ f_ft ≤ 4) := by rw [← q_f_ft]; exact hT 23 23 (A_23 hw) 18
  have ht_f_te : ((-2147483648) ≤ f_te ∧ f_te ≤ 2147483647) := by rw [← q_f_te]; exact hT 24 24 (A_24 hw) (f_end.toNat)
  have h1 : (-1) ≤ f_te ∧ f_te ≤ (-1) := (vc_X6_take_g_1 hq1 ht_f_te)
  refine mr_lvE (lv' := [(0, .ref 23), (1, iv p1)]) rfl ?_
  refine mr_iconst (pc := 0) (z := 0) dX6_readBranches_0 ?_
  refine mr_istore_n (pc := 1) (lv' := [(2, iv 0), (0, .ref 23), (1, iv p1)]) dX6_readBranches_1 rfl (by decide) rfl ?_
  refine mr_lconst (pc := 2) (z := 0) dX6_readBranches_2 (by decide) ?_
  refine mr_lstore_n (pc := 3) (lv' := [(3, jv 0), (2, iv 0), (0, .ref 23), (1, iv p1)]) dX6_readBranches_3 rfl (by decide) rfl ?_
  refine mr_lconst (pc := 4) (z := 0) dX6_readBranches_4 (by decide) ?_
  refine mr_lstore (pc := 5) (lv' := [(5, jv 0), (3, jv 0), (2, iv 0), (0, .ref 23), (1, iv p1)]) dX6_readBranches_5 (by decide) rfl ?_
  refine mr_iconst (pc := 7) (z := 1) dX6_readBranches_7 ?_
  refine mr_istore (pc := 8) (lv' := [(7, iv 1), (5, jv 0), (3, jv 0), (2, iv 0), (0, .ref 23), (1, iv p1)]) dX6_readBranches_8 (by decide) rfl ?_
  refine mr_iconst (pc := 10) (z := 0) dX6_readBranches_10 ?_
  refine mr_istore (pc := 11) (lv' := [(8, iv 0), (7, iv 1), (5, jv 0), (3, jv 0), (2, iv 0), (0, .ref 23), (1, iv p1)]) dX6_readBranches_11 (by decide) rfl ?_
  have L9435 : ∀ (nL9435 : Nat) (z9433 z9432 z9431 z9430 z9429 : Int) (μ9434 : mM) (f_la : Int) (f_lf : Int), mT w μ9434 → mF [23009, 23012, 23015, 23016, 23017, 23018, 23019, 28999, 29999] w μ μ9434 → μ9434 23 (9) = f_la → μ9434 23 (18) = f_lf → (0 ≤ z9433 ∧ z9433 ≤ 1) → ((-9223372036854775808) ≤ z9432 ∧ z9432 ≤ 9223372036854775807) → ((-9223372036854775808) ≤ z9431 ∧ z9431 ≤ 9223372036854775807) → (0 ≤ z9430 ∧ z9430 ≤ 1) → (0 ≤ z9429 ∧ z9429 ≤ 1001) → (f_la ≤ f_end) → (f_at ≤ f_la) → (f_ft = 0 ∨ 1 ≤ f_lf) → (f_lf = 0 ∨ f_la = f_end) → (1002 - z9429) < (nL9435 : Int) → sV (gG l D c H0 sa) mX6_readBranches (sRm 5 0 0) (sZ (gG l D c H0 sa) 0 0 (qV w [23009, 23012, 23015, 23016, 23017, 23018, 23019, 28999, 29999] μ (fun μ1 => ∃ o_at o_ft : Int, μ1 23 9 = o_at ∧ μ1 23 18 = o_ft ∧ (o_at ≤ f_end) ∧ (f_at ≤ o_at) ∧ (f_ft = 0 ∨ 1 ≤ o_ft) ∧ (o_ft = 0 ∨ o_at = f_end) ∧ True))) 13 [(0, .ref 23), (1, iv p1), (2, iv z9433), (3, jv z9432), (5, jv z9431), (7, iv z9430), (8, iv z9429)] [] (mk w μ9434) 0 0 := by
    intro nL9435
    induction nL9435 with
    | zero => intro z9433 z9432 z9431 z9430 z9429 μ9434 f_la f_lf T9441 F9442 q9449 q9450 h9436 h9437 h9438 h9439 h9440 h9444 h9445 h9446 h9447 h9448; exact ((vc_X6_readBranches_6_2 h9448 h9440)).elim
    | succ nL9435 ih9451 =>
      intro z9433 z9432 z9431 z9430 z9429 μ9434 f_la f_lf T9441 F9442 q9449 q9450 h9436 h9437 h9438 h9439 h9440 h9444 h9445 h9446 h9447 h9448
      have h9452 : (0 ≤ f_la ∧ f_la ≤ 1000) := by rw [← q9449]; exact T9441 23 23 (A_23 hw) (9)
      have h9453 : (0 ≤ f_lf ∧ f_lf ≤ 4) := by rw [← q9450]; exact T9441 23 23 (A_23 hw) (18)
      refine mr_iload (pc := 13) (z := z9429) dX6_readBranches_13 rfl ?_
      refine mr_sipush (pc := 15) (z := 1000) dX6_readBranches_15 (by decide) ?_
      refine mr_icmp_gt (pc := 18) (tgt := 211) dX6_readBranches_18 (by decide) (r32 h9440 rfl) (r32 (rR (x := 1000)) rfl) (fun h9704 => ?_) (fun h9704 => ?_)
      · have h9705 : 1001 ≤ z9429 ∧ z9429 ≤ 1001 := (vc_X6_readBranches_6_3 h9704 h9440)
        refine sv_aload_n (pc := 211) dX6_readBranches_211 rfl rfl ?_
        refine mr_iload_n (pc := 212) (z := z9433) dX6_readBranches_212 rfl rfl ?_
        refine pf_X6_15 (pc := 213) dX6_readBranches_213 wF_X6_186 (A_23 hw) T9441 h9436 fun μ9706 u9707 T9708 => ?_
        refine sv_aload_n (pc := 216) dX6_readBranches_216 rfl rfl ?_
        refine mr_lload_n (pc := 217) (z := z9432) dX6_readBranches_217 rfl rfl ?_
        refine pf_X6_16 (pc := 218) dX6_readBranches_218 wF_X6_179 (A_23 hw) T9708 h9437 fun μ9709 u9710 T9711 => ?_
        refine sv_aload_n (pc := 221) dX6_readBranches_221 rfl rfl ?_
        refine mr_lload (pc := 222) (z := z9431) dX6_readBranches_222 rfl ?_
        refine pf_X6_17 (pc := 224) dX6_readBranches_224 wF_X6_183 (A_23 hw) T9711 h9438 fun μ9712 u9713 T9714 => ?_
        exact mr_vret dX6_readBranches_227 rfl (le_t rfl) (le_t rfl) T9714 (mF.up (mF.up (mF.up (mF.call mF.refl F9442 rfl) (A_23 hw) u9707 rfl) (A_23 hw) u9710 rfl) (A_23 hw) u9713 rfl) ⟨f_la, f_lf, (u9713.f (Or.inr (by decide)) (u9710.f (Or.inr (by decide)) (u9707.f (Or.inr (by decide)) q9449))), (u9713.f (Or.inr (by decide)) (u9710.f (Or.inr (by decide)) (u9707.f (Or.inr (by decide)) q9450))), (vc_X6_readBranches_6_4 hq0 hq2 h9444 h9445 h9447 h9446 ht_f_at ht_f_end ht_f_ft h9452 h9453), (vc_X6_readBranches_6_5 hq0 hq2 h9444 h9445 h9447 h9446 ht_f_at ht_f_end ht_f_ft h9452 h9453), (vc_X6_readBranches_6_6 hq2 h9446 h9447 hq0 h9444 h9445 ht_f_at ht_f_end ht_f_ft h9452 h9453), (vc_X6_readBranches_6_7 hq0 hq2 h9444 h9445 h9446 h9447 ht_f_at ht_f_end ht_f_ft h9452 h9453), trivial⟩
      have h9715 : 0 ≤ z9429 ∧ z9429 ≤ 1000 := (vc_X6_readBranches_6_8 h9704 h9440)
      refine mr_iload (pc := 21) (z := z9430) dX6_readBranches_21 rfl ?_
      refine mr_if_eq (pc := 23) (tgt := 211) dX6_readBranches_23 (by decide) (r32 h9439 rfl) (fun h9964 => ?_) (fun h9964 => ?_)
      · have h9965 : 0 ≤ z9430 ∧ z9430 ≤ 0 := (vc_X12_ring_22 h9964 h9439)
        refine sv_aload_n (pc := 211) dX6_readBranches_211 rfl rfl ?_
        refine mr_iload_n (pc := 212) (z := z9433) dX6_readBranches_212 rfl rfl ?_
        refine pf_X6_15 (pc := 213) dX6_readBranches_213 wF_X6_186 (A_23 hw) T9441 h9436 fun μ9966 u9967 T9968 => ?_
        refine sv_aload_n (pc := 216) dX6_readBranches_216 rfl rfl ?_
        refine mr_lload_n (pc := 217) (z := z9432) dX6_readBranches_217 rfl rfl ?_
        refine pf_X6_16 (pc := 218) dX6_readBranches_218 wF_X6_179 (A_23 hw) T9968 h9437 fun μ9969 u9970 T9971 => ?_
        refine sv_aload_n (pc := 221) dX6_readBranches_221 rfl rfl ?_
        refine mr_lload (pc := 222) (z := z9431) dX6_readBranches_222 rfl ?_
        refine pf_X6_17 (pc := 224) dX6_readBranches_224 wF_X6_183 (A_23 hw) T9971 h9438 fun μ9972 u9973 T9974 => ?_
        exact mr_vret dX6_readBranches_227 rfl (le_t rfl) (le_t rfl) T9974 (mF.up (mF.up (mF.up (mF.call mF.refl F9442 rfl) (A_23 hw) u9967 rfl) (A_23 hw) u9970 rfl) (A_23 hw) u9973 rfl) ⟨f_la, f_lf, (u9973.f (Or.inr (by decide)) (u9970.f (Or.inr (by decide)) (u9967.f (Or.inr (by decide)) q9449))), (u9973.f (Or.inr (by decide)) (u9970.f (Or.inr (by decide)) (u9967.f (Or.inr (by decide)) q9450))), (vc_X6_readBranches_6_4 hq0 hq2 h9444 h9445 h9447 h9446 ht_f_at ht_f_end ht_f_ft h9452 h9453), (vc_X6_readBranches_6_5 hq0 hq2 h9444 h9445 h9447 h9446 ht_f_at ht_f_end ht_f_ft h9452 h9453), (vc_X6_readBranches_6_6 hq2 h9446 h9447 hq0 h9444 h9445 ht_f_at ht_f_end ht_f_ft h9452 h9453), (vc_X6_readBranches_6_7 hq0 hq2 h9444 h9445 h9446 h9447 ht_f_at ht_f_end ht_f_ft h9452 h9453), trivial⟩
      have h9975 : 1 ≤ z9430 ∧ z9430 ≤ 1 := (vc_X12_ring_24 h9964 h9439)
      refine mr_iconst (pc := 26) (z := 1) dX6_readBranches_26 ?_
      refine mr_istore (pc := 27) (lv' := [(9, iv 1), (0, .ref 23), (1, iv p1), (2, iv z9433), (3, jv z9432), (5, jv z9431), (7, iv z9430), (8, iv z9429)]) dX6_readBranches_27 (by decide) rfl ?_
      refine mr_lconst (pc := 29) (z := 0) dX6_readBranches_29 (by decide) ?_
      refine mr_lstore (pc := 30) (lv' := [(10, jv 0), (9, iv 1), (0, .ref 23), (1, iv p1), (2, iv z9433), (3, jv z9432), (5, jv z9431), (7, iv z9430), (8, iv z9429)]) dX6_readBranches_30 (by decide) rfl ?_
      refine mr_lconst (pc := 32) (z := 0) dX6_readBranches_32 (by decide) ?_
      refine mr_lstore (pc := 33) (lv' := [(12, jv 0), (10, jv 0), (9, iv 1), (0, .ref 23), (1, iv p1), (2, iv z9433), (3, jv z9432), (5, jv z9431), (7, iv z9430), (8, iv z9429)]) dX6_readBranches_33 (by decide) rfl ?_
      refine mr_iconst (pc := 35) (z := 0) dX6_readBranches_35 ?_
      refine mr_istore (pc := 36) (lv' := [(14, iv 0), (12, jv 0), (10, jv 0), (9, iv 1), (0, .ref 23), (1, iv p1), (2, iv z9433), (3, jv z9432), (5, jv z9431), (7, iv z9430), (8, iv z9429)]) dX6_readBranches_36 (by decide) rfl ?_
      have L11548 : ∀ (nL11548 : Nat) (z11546 z11545 z11544 z11543 : Int) (μ11547 : mM) (f_ma : Int) (f_mf : Int), mT w μ11547 → mF [23009, 23012, 23015, 23016, 23017, 23018, 23019, 28999, 29999] w μ9434 μ11547 → μ11547 23 (9) = f_ma → μ11547 23 (18) = f_mf → (0 ≤ z11546 ∧ z11546 ≤ 1) → ((-9223372036854775808) ≤ z11545 ∧ z11545 ≤ 9223372036854775807) → ((-9223372036854775808) ≤ z11544 ∧ z11544 ≤ 9223372036854775807) → (0 ≤ z11543 ∧ z11543 ≤ 1001) → (f_ma ≤ f_end) → (f_at ≤ f_ma) → (f_ft = 0 ∨ 1 ≤ f_mf) → (f_mf = 0 ∨ f_ma = f_end) → (1002 - z11543) < (nL11548 : Int) → sV (gG l D c H0 sa) mX6_readBranches (sRm 5 0 0) (sZ (gG l D c H0 sa) 0 0 (qV w [23009, 23012, 23015, 23016, 23017, 23018, 23019, 28999, 29999] μ (fun μ1 => ∃ o_at o_ft : Int, μ1 23 9 = o_at ∧ μ1 23 18 = o_ft ∧ (o_at ≤ f_end) ∧ (f_at ≤ o_at) ∧ (f_ft = 0 ∨ 1 ≤ o_ft) ∧ (o_ft = 0 ∨ o_at = f_end) ∧ True))) 38 [(0, .ref 23), (1, iv p1), (2, iv z9433), (3, jv z9432), (5, jv z9431), (8, iv z9429), (9, iv z11546), (10, jv z11545), (12, jv z11544), (14, iv z11543)] [] (mk w μ11547) 0 0 := by
        intro nL11548
        induction nL11548 with
        | zero => intro z11546 z11545 z11544 z11543 μ11547 f_ma f_mf T11553 F11554 q11561 q11562 h11549 h11550 h11551 h11552 h11556 h11557 h11558 h11559 h11560; exact ((vc_X6_readBranches_6_2 h11560 h11552)).elim
        | succ nL11548 ih11563 =>
          intro z11546 z11545 z11544 z11543 μ11547 f_ma f_mf T11553 F11554 q11561 q11562 h11549 h11550 h11551 h11552 h11556 h11557 h11558 h11559 h11560
          have h11564 : (0 ≤ f_ma ∧ f_ma ≤ 1000) := by rw [← q11561]; exact T11553 23 23 (A_23 hw) (9)
          have h11565 : (0 ≤ f_mf ∧ f_mf ≤ 4) := by rw [← q11562]; exact T11553 23 23 (A_23 hw) (18)
          refine mr_iload (pc := 38) (z := z11543) dX6_readBranches_38 rfl ?_
          refine mr_sipush (pc := 40) (z := 1000) dX6_readBranches_40 (by decide) ?_
          have J11657 : sV (gG l D c H0 sa) mX6_readBranches (sRm 5 0 0) (sZ (gG l D c H0 sa) 0 0 (qV w [23009, 23012, 23015, 23016, 23017, 23018, 23019, 28999, 29999] μ (fun μ1 => ∃ o_at o_ft : Int, μ1 23 9 = o_at ∧ μ1 23 18 = o_ft ∧ (o_at ≤ f_end) ∧ (f_at ≤ o_at) ∧ (f_ft = 0 ∨ 1 ≤ o_ft) ∧ (o_ft = 0 ∨ o_at = f_end) ∧ True))) 169 [(0, .ref 23), (1, iv p1), (2, iv z9433), (3, jv z9432), (5, jv z9431), (8, iv z9429), (9, iv z11546), (10, jv z11545), (12, jv z11544)] [] (mk w μ11547) 0 0 := by
            refine mr_iload_n (pc := 169) (z := z9433) dX6_readBranches_169 rfl rfl ?_
            have J11664 : ∀ (z11662 : Int), ((0 ≤ z11662 ∧ z11662 ≤ 1)) → sV (gG l D c H0 sa) mX6_readBranches (sRm 5 0 0) (sZ (gG l D c H0 sa) 0 0 (qV w [23009, 23012, 23015, 23016, 23017, 23018, 23019, 28999, 29999] μ (fun μ1 => ∃ o_at o_ft : Int, μ1 23 9 = o_at ∧ μ1 23 18 = o_ft ∧ (o_at ≤ f_end) ∧ (f_at ≤ o_at) ∧ (f_ft = 0 ∨ 1 ≤ o_ft) ∧ (o_ft = 0 ∨ o_at = f_end) ∧ True))) 183 [(0, .ref 23), (1, iv p1), (3, jv z9432), (5, jv z9431), (8, iv z9429), (10, jv z11545), (12, jv z11544)] [iv z11662] (mk w μ11547) 0 0 := by
              intro z11662 h11663
              refine mr_istore_n (pc := 183) (lv' := [(2, iv z11662), (0, .ref 23), (1, iv p1), (3, jv z9432), (5, jv z9431), (8, iv z9429), (10, jv z11545), (12, jv z11544)]) dX6_readBranches_183 rfl (by decide) rfl ?_
              refine mr_lload_n (pc := 184) (z := z9432) dX6_readBranches_184 rfl rfl ?_
              refine mr_lload (pc := 185) (z := z11545) dX6_readBranches_185 rfl ?_
              refine mr_lor (pc := 187) dX6_readBranches_187 ?_
              refine mr_genL (r64i _) fun z11665 q11666 h11667 => ?_
              refine mr_lstore_n (pc := 188) (lv' := [(3, jv z11665), (2, iv z11662), (0, .ref 23), (1, iv p1), (5, jv z9431), (8, iv z9429), (10, jv z11545), (12, jv z11544)]) dX6_readBranches_188 rfl (by decide) rfl ?_
              refine mr_lload (pc := 189) (z := z9431) dX6_readBranches_189 rfl ?_
              refine mr_lload (pc := 191) (z := z11544) dX6_readBranches_191 rfl ?_
              refine mr_lor (pc := 193) dX6_readBranches_193 ?_
              refine mr_genL (r64i _) fun z11668 q11669 h11670 => ?_
              refine mr_lstore (pc := 194) (lv' := [(5, jv z11668), (3, jv z11665), (2, iv z11662), (0, .ref 23), (1, iv p1), (8, iv z9429), (10, jv z11545), (12, jv z11544)]) dX6_readBranches_194 (by decide) rfl ?_
              refine sv_aload_n (pc := 196) dX6_readBranches_196 rfl rfl ?_
              refine mr_sipush (pc := 197) (z := 1124) dX6_readBranches_197 (by decide) ?_
              refine mr_cVI (pc := 200) (c_X6_take_g hw T11553 (rW (c := (-2147483648)) (d := 2147483647) (rR (x := 1124)) rfl) q11561 (F11554.f (A_23 hw) rfl (F9442.f (A_23 hw) rfl q_f_end)) (F11554.f (A_24 hw) rfl (F9442.f (A_24 hw) rfl q_f_te)) (vc_X6_readBranches_6_12 hq0 hq2 h9444 h9447 h11556 h11557 h11559 h9445 h9446 h11558 ht_f_at ht_f_end ht_f_ft h9452 h9453 h11564 h11565) (vc_X6_expect_g_3 hq1 h1)) (gOk _ _ _ _ _) dX6_readBranches_200 (tX6_take _ _ _ _ _) ⟨wV_X6_take, wL_X6_take⟩ wM_X6_120 (gCX6 _ _ _ _ _) rfl (A_23 hw) rfl ⟨le_t rfl, le_t rfl⟩ ⟨le_t rfl, le_t rfl⟩ rfl (le_t rfl) fun z11675 μ11671 T11672 F11673 h11674 => ?_
              obtain ⟨z11676, q11677, h11678⟩ := h11674
              have h11679 : (0 ≤ z11676 ∧ z11676 ≤ 1000) := by rw [← q11677]; exact T11672 23 23 (A_23 hw) 9
              refine mr_istore (pc := 203) (lv' := [(7, iv z11675), (5, jv z11668), (3, jv z11665), (2, iv z11662), (0, .ref 23), (1, iv p1), (8, iv z9429), (10, jv z11545), (12, jv z11544)]) dX6_readBranches_203 (by decide) rfl ?_
              refine mr_iinc (pc := 205) (lv' := [(8, iv (z9429 + 1)), (7, iv z11675), (5, jv z11668), (3, jv z11665), (2, iv z11662), (0, .ref 23), (1, iv p1), (10, jv z11545), (12, jv z11544)]) dX6_readBranches_205 rfl (by decide) rfl ?_
              refine sv_goto (pc := 208) (tgt := 13) dX6_readBranches_208 (by decide) ?_
              refine mr_lvS (lv' := [(0, .ref 23), (1, iv p1), (2, iv z11662), (3, jv z11665), (5, jv z11668), (7, iv z11675), (8, iv (z9429 + 1))]) (List.forall_mem_cons.mpr ⟨rfl, List.forall_mem_cons.mpr ⟨rfl, List.forall_mem_cons.mpr ⟨rfl, List.forall_mem_cons.mpr ⟨rfl, List.forall_mem_cons.mpr ⟨rfl, List.forall_mem_cons.mpr ⟨rfl, List.forall_mem_cons.mpr ⟨rfl, fun _ h => absurd h List.not_mem_nil⟩⟩⟩⟩⟩⟩⟩) ?_
              exact ih9451 z11662 z11665 z11668 z11675 (z9429 + 1) μ11671 z11676 f_mf T11672 (mF.call (mF.call (mF.call mF.refl F9442 rfl) F11554 rfl) F11673 rfl) q11677 (F11673.f (A_23 hw) rfl q11562) h11663 h11667 h11670 h11678.1 (rW (c := 0) (d := 1001) (rAdd (e := 1) (f := 1001) h9715 (rR (x := 1)) rfl) rfl) (vc_X6_readBranches_6_14 hq0 hq2 h9444 h9447 h11556 h11559 h11678.2.1 h11678.2.2.1 h11678.2.2.2.1 h11678.2.2.2.2.1 h9445 h9446 h11557 h11558 ht_f_at ht_f_end ht_f_ft h9452 h9453 h11564 h11565 h11678.1 h11679) (vc_X6_readBranches_6_15 hq0 hq2 h9445 h11557 h11678.2.1 h11678.2.2.1 h11678.2.2.2.1 h11678.2.2.2.2.1 h9444 h9446 h9447 h11556 h11558 h11559 ht_f_at ht_f_end ht_f_ft h9452 h9453 h11564 h11565 h11678.1 h11679) (vc_X6_readBranches_6_16 hq2 h9446 h11558 h11559 hq0 h9444 h9445 h9447 h11556 h11557 h11678.2.1 h11678.2.2.1 h11678.2.2.2.1 h11678.2.2.2.2.1 ht_f_at ht_f_end ht_f_ft h9452 h9453 h11564 h11565 h11678.1 h11679) (vc_X6_readBranches_6_17 hq0 hq2 h9444 h9447 h11556 h11558 h11559 h11678.2.1 h11678.2.2.1 h11678.2.2.2.1 h11678.2.2.2.2.1 h9445 h9446 h11557 ht_f_at ht_f_end ht_f_ft h9452 h9453 h11564 h11565 h11678.1 h11679) (vc_X6_readBranches_6_18 (nS h9448) h9704 h9715)
            refine mr_if_ne (pc := 170) (tgt := 178) dX6_readBranches_170 (by decide) (r32 h9436 rfl) (fun h11680 => ?_) (fun h11680 => ?_)
            · have h11681 : 1 ≤ z9433 ∧ z9433 ≤ 1 := (vc_X12_ring_24 h11680 h9436)
              refine mr_iconst (pc := 178) (z := 1) dX6_readBranches_178 ?_
              refine sv_goto (pc := 179) (tgt := 183) dX6_readBranches_179 (by decide) ?_
              refine mr_lvS (lv' := [(0, .ref 23), (1, iv p1), (3, jv z9432), (5, jv z9431), (8, iv z9429), (10, jv z11545), (12, jv z11544)]) (List.forall_mem_cons.mpr ⟨rfl, List.forall_mem_cons.mpr ⟨rfl, List.forall_mem_cons.mpr ⟨rfl, List.forall_mem_cons.mpr ⟨rfl, List.forall_mem_cons.mpr ⟨rfl, List.forall_mem_cons.mpr ⟨rfl, List.forall_mem_cons.mpr ⟨rfl, fun _ h => absurd h List.not_mem_nil⟩⟩⟩⟩⟩⟩⟩) ?_
              exact J11664 1 (rW (c := 0) (d := 1) (rR (x := 1)) rfl)
            have h11682 : 0 ≤ z9433 ∧ z9433 ≤ 0 := (vc_X12_ring_22 h11680 h9436)
            refine mr_iload (pc := 173) (z := z11546) dX6_readBranches_173 rfl ?_
            refine mr_if_eq (pc := 175) (tgt := 182) dX6_readBranches_175 (by decide) (r32 h11549 rfl) (fun h11683 => ?_) (fun h11683 => ?_)
            · have h11684 : 0 ≤ z11546 ∧ z11546 ≤ 0 := (vc_X12_ring_22 h11683 h11549)
              refine mr_iconst (pc := 182) (z := 0) dX6_readBranches_182 ?_
              refine mr_lvS (lv' := [(0, .ref 23), (1, iv p1), (3, jv z9432), (5, jv z9431), (8, iv z9429), (10, jv z11545), (12, jv z11544)]) (List.forall_mem_cons.mpr ⟨rfl, List.forall_mem_cons.mpr ⟨rfl, List.forall_mem_cons.mpr ⟨rfl, List.forall_mem_cons.mpr ⟨rfl, List.forall_mem_cons.mpr ⟨rfl, List.forall_mem_cons.mpr ⟨rfl, List.forall_mem_cons.mpr ⟨rfl, fun _ h => absurd h List.not_mem_nil⟩⟩⟩⟩⟩⟩⟩) ?_
              exact J11664 0 (rW (c := 0) (d := 1) (rR (x := 0)) rfl)
            have h11685 : 1 ≤ z11546 ∧ z11546 ≤ 1 := (vc_X12_ring_24 h11683 h11549)
            refine mr_iconst (pc := 178) (z := 1) dX6_readBranches_178 ?_
            refine sv_goto (pc := 179) (tgt := 183) dX6_readBranches_179 (by decide) ?_
            refine mr_lvS (lv' := [(0, .ref 23), (1, iv p1), (3, jv z9432), (5, jv z9431), (8, iv z9429), (10, jv z11545), (12, jv z11544)]) (List.forall_mem_cons.mpr ⟨rfl, List.forall_mem_cons.mpr ⟨rfl, List.forall_mem_cons.mpr ⟨rfl, List.forall_mem_cons.mpr ⟨rfl, List.forall_mem_cons.mpr ⟨rfl, List.forall_mem_cons.mpr ⟨rfl, List.forall_mem_cons.mpr ⟨rfl, fun _ h => absurd h List.not_mem_nil⟩⟩⟩⟩⟩⟩⟩) ?_
            exact J11664 1 (rW (c := 0) (d := 1) (rR (x := 1)) rfl)
          refine mr_icmp_gt (pc := 43) (tgt := 169) dX6_readBranches_43 (by decide) (r32 h11552 rfl) (r32 (rR (x := 1000)) rfl) (fun h11686 => ?_) (fun h11686 => ?_)
          · have h11687 : 1001 ≤ z11543 ∧ z11543 ≤ 1001 := (vc_X6_readBranches_6_3 h11686 h11552)
            refine mr_lvS (lv' := [(0, .ref 23), (1, iv p1), (2, iv z9433), (3, jv z9432), (5, jv z9431), (8, iv z9429), (9, iv z11546), (10, jv z11545), (12, jv z11544)]) (List.forall_mem_cons.mpr ⟨rfl, List.forall_mem_cons.mpr ⟨rfl, List.forall_mem_cons.mpr ⟨rfl, List.forall_mem_cons.mpr ⟨rfl, List.forall_mem_cons.mpr ⟨rfl, List.forall_mem_cons.mpr ⟨rfl, List.forall_mem_cons.mpr ⟨rfl, List.forall_mem_cons.mpr ⟨rfl, List.forall_mem_cons.mpr ⟨rfl, fun _ h => absurd h List.not_mem_nil⟩⟩⟩⟩⟩⟩⟩⟩⟩) ?_
            exact J11657 
          have h11688 : 0 ≤ z11543 ∧ z11543 ≤ 1000 := (vc_X6_readBranches_6_8 h11686 h11552)
          refine sv_aload_n (pc := 46) dX6_readBranches_46 rfl rfl ?_
          refine gf_X6_0 (pc := 47) dX6_readBranches_47 wF_X6_9 (A_23 hw) T11553 ?_
          refine sv_aload_n (pc := 50) dX6_readBranches_50 rfl rfl ?_
          refine gk_X6_9 (pc := 51) dX6_readBranches_51 wF_X6_63 (A_23 hw) q11561 ?_
          refine la_24 (pc := 54) dX6_readBranches_54 (A_24 hw) T11553 (rIx (n := 1001) h11564 rfl) fun z11689 q11690 h11691 => ?_
          refine mr_cSP (pc := 55) (c_X6_beginsPiece_g hw T11553 h11691) (gOk _ _ _ _ _) dX6_readBranches_55 (tX6_beginsPiece _ _ _ _ _) wS_X6_beginsPiece wM_X6_190 ⟨le_t rfl, le_t rfl⟩ ⟨le_t rfl, le_t rfl⟩ rfl (le_t rfl) fun z11696 h11695 => ?_
          refine mr_if_eq (pc := 58) (tgt := 169) dX6_readBranches_58 (by decide) (r32 h11695.1 rfl) (fun h11697 => ?_) (fun h11697 => ?_)
          · have h11698 : 0 ≤ z11696 ∧ z11696 ≤ 0 := (vc_X6_readBranches_6_25 h11697 h11695.2.1 h11691 h11695.1)
            refine mr_lvS (lv' := [(0, .ref 23), (1, iv p1), (2, iv z9433), (3, jv z9432), (5, jv z9431), (8, iv z9429), (9, iv z11546), (10, jv z11545), (12, jv z11544)]) (List.forall_mem_cons.mpr ⟨rfl, List.forall_mem_cons.mpr ⟨rfl, List.forall_mem_cons.mpr ⟨rfl, List.forall_mem_cons.mpr ⟨rfl, List.forall_mem_cons.mpr ⟨rfl, List.forall_mem_cons.mpr ⟨rfl, List.forall_mem_cons.mpr ⟨rfl, List.forall_mem_cons.mpr ⟨rfl, List.forall_mem_cons.mpr ⟨rfl, fun _ h => absurd h List.not_mem_nil⟩⟩⟩⟩⟩⟩⟩⟩⟩) ?_
            exact J11657 
          have h11699 : 1 ≤ z11696 ∧ z11696 ≤ 1 := (vc_X6_readBranches_6_26 h11697 h11695.2.1 h11691 h11695.1)
          have h11700 : z11689 = -2 ∨ z11689 = 7 ∨ z11689 = 1040 := (h11695.2.1 (vc_X6_readBranches_6_27 h11695.2.1 h11697 h11691 h11699))
          refine sv_aload_n (pc := 61) dX6_readBranches_61 rfl rfl ?_
          refine gf_X6_0 (pc := 62) dX6_readBranches_62 wF_X6_9 (A_23 hw) T11553 ?_
          refine sv_aload_n (pc := 65) dX6_readBranches_65 rfl rfl ?_
          refine gk_X6_9 (pc := 66) dX6_readBranches_66 wF_X6_63 (A_23 hw) q11561 ?_
          refine lk_24 (pc := 69) dX6_readBranches_69 (A_24 hw) (rIx (n := 1001) h11564 rfl) q11690 ?_
          refine mr_sipush (pc := 70) (z := 1040) dX6_readBranches_70 (by decide) ?_
          have J11732 : ∀ (μ11724 : mM), (mT w μ11724) → (mF [23009, 23012, 23015, 23016, 23017, 23018, 23019, 28999, 29999] w μ11547 μ11724) → ((μ11724 23 (9) ≤ f_end)) → ((f_at ≤ μ11724 23 (9))) → ((f_ft = 0 ∨ 1 ≤ μ11724 23 (18))) → ((μ11724 23 (18) = 0 ∨ μ11724 23 (9) = f_end)) → sV (gG l D c H0 sa) mX6_readBranches (sRm 5 0 0) (sZ (gG l D c H0 sa) 0 0 (qV w [23009, 23012, 23015, 23016, 23017, 23018, 23019, 28999, 29999] μ (fun μ1 => ∃ o_at o_ft : Int, μ1 23 9 = o_at ∧ μ1 23 18 = o_ft ∧ (o_at ≤ f_end) ∧ (f_at ≤ o_at) ∧ (f_ft = 0 ∨ 1 ≤ o_ft) ∧ (o_ft = 0 ∨ o_at = f_end) ∧ True))) 88 [(0, .ref 23), (1, iv p1), (2, iv z9433), (3, jv z9432), (5, jv z9431), (8, iv z9429), (9, iv z11546), (10, jv z11545), (12, jv z11544), (14, iv z11543)] [] (mk w μ11724) 0 0 := by
            intro μ11724 T11725 F11726 h11728 h11729 h11730 h11731
            obtain ⟨z11733, q11734⟩ : ∃ z, μ11724 23 9 = z := ⟨_, rfl⟩
            have h11735 : (0 ≤ z11733 ∧ z11733 ≤ 1000) := by rw [← q11734]; exact T11725 23 23 (A_23 hw) 9
            have h11736 : z11733 ≤ f_end := by have h := h11728; rw [q11734] at h; exact h
            have h11737 : f_at ≤ z11733 := by have h := h11729; rw [q11734] at h; exact h
            obtain ⟨z11738, q11739⟩ : ∃ z, μ11724 23 18 = z := ⟨_, rfl⟩
            have h11740 : (0 ≤ z11738 ∧ z11738 ≤ 4) := by rw [← q11739]; exact T11725 23 23 (A_23 hw) 18
            have h11741 : f_ft = 0 ∨ 1 ≤ z11738 := by have h := h11730; rw [q11739] at h; exact h
            have h11742 : z11738 = 0 ∨ z11733 = f_end := by have h := h11731; rw [q11739, q11734] at h; exact h
            refine sv_aload_n (pc := 88) dX6_readBranches_88 rfl rfl ?_
            refine mr_cVV (pc := 89) (c_X6_readRepeat_g hw T11725 q11734 (F11726.f (A_23 hw) rfl (F11554.f (A_23 hw) rfl (F9442.f (A_23 hw) rfl q_f_end))) q11739 (F11726.f (A_24 hw) rfl (F11554.f (A_24 hw) rfl (F9442.f (A_24 hw) rfl q_f_te))) (vc_X6_readBranches_6_28 hq0 hq2 h9444 h9447 h11556 h11559 h11736 h11737 h11742 h9445 h9446 h11557 h11558 h11741 ht_f_at ht_f_end ht_f_ft h9452 h9453 h11564 h11565 h11735 h11740) (vc_X6_expect_g_3 hq1 h1) (vc_X6_readBranches_6_29 hq0 hq2 h9444 h9447 h11556 h11559 h11736 h11737 h11741 h11742 h9445 h9446 h11557 h11558 ht_f_at ht_f_end ht_f_ft h9452 h9453 h11564 h11565 h11735 h11740)) (gOk _ _ _ _ _) dX6_readBranches_89 (tX6_readRepeat _ _ _ _ _) ⟨wV_X6_readRepeat, wL_X6_readRepeat⟩ wM_X6_199 (gCX6 _ _ _ _ _) rfl (A_23 hw) rfl ⟨le_t rfl, le_t rfl⟩ ⟨le_t rfl, le_t rfl⟩ rfl (le_t rfl) fun μ11743 T11744 F11745 h11746 => ?_
            obtain ⟨z11747, z11749, q11748, q11750, h11751⟩ := h11746
            have h11752 : (0 ≤ z11747 ∧ z11747 ≤ 1000) := by rw [← q11748]; exact T11744 23 23 (A_23 hw) 9
            have h11753 : (0 ≤ z11749 ∧ z11749 ≤ 4) := by rw [← q11750]; exact T11744 23 23 (A_23 hw) 18
            refine sv_aload_n (pc := 92) dX6_readBranches_92 rfl rfl ?_
            refine mr_lload (pc := 93) (z := z11544) dX6_readBranches_93 rfl ?_
            refine sv_aload_n (pc := 95) dX6_readBranches_95 rfl rfl ?_
            refine gf_X6_16 (pc := 96) dX6_readBranches_96 wF_X6_179 (A_23 hw) T11744 fun z11754 q11755 h11756 => ?_
            refine mr_cVV (pc := 99) (c_X6_join hw T11744 h11551 h11756) (gOk _ _ _ _ _) dX6_readBranches_99 (tX6_join _ _ _ _ _) ⟨wV_X6_join, wL_X6_join⟩ wM_X6_202 (gCX6 _ _ _ _ _) rfl (A_23 hw) rfl ⟨le_t rfl, le_t rfl⟩ ⟨le_t rfl, le_t rfl⟩ rfl (le_t rfl) fun μ11757 T11758 F11759 h11760 => ?_
            refine mr_iload (pc := 102) (z := z11546) dX6_readBranches_102 rfl ?_
            have J11768 : ∀ (z11766 : Int), (((-9223372036854775808) ≤ z11766 ∧ z11766 ≤ 9223372036854775807)) → sV (gG l D c H0 sa) mX6_readBranches (sRm 5 0 0) (sZ (gG l D c H0 sa) 0 0 (qV w [23009, 23012, 23015, 23016, 23017, 23018, 23019, 28999, 29999] μ (fun μ1 => ∃ o_at o_ft : Int, μ1 23 9 = o_at ∧ μ1 23 18 = o_ft ∧ (o_at ≤ f_end) ∧ (f_at ≤ o_at) ∧ (f_ft = 0 ∨ 1 ≤ o_ft) ∧ (o_ft = 0 ∨ o_at = f_end) ∧ True))) 119 [(0, .ref 23), (1, iv p1), (2, iv z9433), (3, jv z9432), (5, jv z9431), (8, iv z9429), (9, iv z11546), (12, jv z11544), (14, iv z11543)] [jv z11766] (mk w μ11757) 0 0 := by
              intro z11766 h11767
              refine mr_lstore (pc := 119) (lv' := [(10, jv z11766), (0, .ref 23), (1, iv p1), (2, iv z9433), (3, jv z9432), (5, jv z9431), (8, iv z9429), (9, iv z11546), (12, jv z11544), (14, iv z11543)]) dX6_readBranches_119 (by decide) rfl ?_
              refine sv_aload_n (pc := 121) dX6_readBranches_121 rfl rfl ?_
              refine gf_X6_15 (pc := 122) dX6_readBranches_122 wF_X6_186 (A_23 hw) T11758 fun z11769 q11770 h11771 => ?_
              have J11785 : ∀ (z11783 : Int), (((-9223372036854775808) ≤ z11783 ∧ z11783 ≤ 9223372036854775807)) → sV (gG l D c H0 sa) mX6_readBranches (sRm 5 0 0) (sZ (gG l D c H0 sa) 0 0 (qV w [23009, 23012, 23015, 23016, 23017, 23018, 23019, 28999, 29999] μ (fun μ1 => ∃ o_at o_ft : Int, μ1 23 9 = o_at ∧ μ1 23 18 = o_ft ∧ (o_at ≤ f_end) ∧ (f_at ≤ o_at) ∧ (f_ft = 0 ∨ 1 ≤ o_ft) ∧ (o_ft = 0 ∨ o_at = f_end) ∧ True))) 142 [(0, .ref 23), (1, iv p1), (2, iv z9433), (3, jv z9432), (5, jv z9431), (8, iv z9429), (9, iv z11546), (10, jv z11766), (14, iv z11543)] [jv z11783] (mk w μ11757) 0 0 := by
                intro z11783 h11784
                refine mr_lstore (pc := 142) (lv' := [(12, jv z11783), (0, .ref 23), (1, iv p1), (2, iv z9433), (3, jv z9432), (5, jv z9431), (8, iv z9429), (9, iv z11546), (10, jv z11766), (14, iv z11543)]) dX6_readBranches_142 (by decide) rfl ?_
                refine mr_iload (pc := 144) (z := z11546) dX6_readBranches_144 rfl ?_
                refine mr_if_eq (pc := 146) (tgt := 160) dX6_readBranches_146 (by decide) (r32 h11549 rfl) (fun h11790 => ?_) (fun h11790 => ?_)
                · have h11791 : 0 ≤ z11546 ∧ z11546 ≤ 0 := (vc_X12_ring_22 h11790 h11549)
                  refine mr_iconst (pc := 160) (z := 0) dX6_readBranches_160 ?_
                  refine mr_istore (pc := 161) (lv' := [(9, iv 0), (12, jv z11783), (0, .ref 23), (1, iv p1), (2, iv z9433), (3, jv z9432), (5, jv z9431), (8, iv z9429), (10, jv z11766), (14, iv z11543)]) dX6_readBranches_161 (by decide) rfl ?_
                  refine mr_iinc (pc := 163) (lv' := [(14, iv (z11543 + 1)), (9, iv 0), (12, jv z11783), (0, .ref 23), (1, iv p1), (2, iv z9433), (3, jv z9432), (5, jv z9431), (8, iv z9429), (10, jv z11766)]) dX6_readBranches_163 rfl (by decide) rfl ?_
                  refine sv_goto (pc := 166) (tgt := 38) dX6_readBranches_166 (by decide) ?_
                  refine mr_lvS (lv' := [(0, .ref 23), (1, iv p1), (2, iv z9433), (3, jv z9432), (5, jv z9431), (8, iv z9429), (9, iv 0), (10, jv z11766), (12, jv z11783), (14, iv (z11543 + 1))]) (List.forall_mem_cons.mpr ⟨rfl, List.forall_mem_cons.mpr ⟨rfl, List.forall_mem_cons.mpr ⟨rfl, List.forall_mem_cons.mpr ⟨rfl, List.forall_mem_cons.mpr ⟨rfl, List.forall_mem_cons.mpr ⟨rfl, List.forall_mem_cons.mpr ⟨rfl, List.forall_mem_cons.mpr ⟨rfl, List.forall_mem_cons.mpr ⟨rfl, List.forall_mem_cons.mpr ⟨rfl, fun _ h => absurd h List.not_mem_nil⟩⟩⟩⟩⟩⟩⟩⟩⟩⟩) ?_
                  exact ih11563 0 z11766 z11783 (z11543 + 1) μ11757 z11747 z11749 T11758 (mF.call (mF.call (mF.call (mF.call mF.refl F11554 rfl) F11726 rfl) F11745 rfl) F11759 rfl) (F11759.f (A_23 hw) rfl q11748) (F11759.f (A_23 hw) rfl q11750) (rW (c := 0) (d := 1) (rR (x := 0)) rfl) h11767 h11784 (rW (c := 0) (d := 1001) (rAdd (e := 1) (f := 1001) h11688 (rR (x := 1)) rfl) rfl) (vc_X6_readBranches_6_30 hq0 hq2 h9444 h9447 h11556 h11559 h11736 h11742 h11751.1 h11751.2.1 h11751.2.2.2.1 h9445 h9446 h11557 h11558 h11737 h11741 h11751.2.2.1 ht_f_at ht_f_end ht_f_ft h9452 h9453 h11564 h11565 h11735 h11740 h11752 h11753) (vc_X6_readBranches_6_31 hq0 hq2 h9445 h11557 h11737 h11751.1 h11751.2.1 h11751.2.2.2.1 h9444 h9446 h9447 h11556 h11558 h11559 h11736 h11741 h11742 h11751.2.2.1 ht_f_at ht_f_end ht_f_ft h9452 h9453 h11564 h11565 h11735 h11740 h11752 h11753) (vc_X6_readBranches_6_32 hq2 h9446 h11558 h11741 h11751.2.2.1 h11751.2.2.2.1 hq0 h9444 h9445 h9447 h11556 h11557 h11559 h11736 h11737 h11742 h11751.1 h11751.2.1 ht_f_at ht_f_end ht_f_ft h9452 h9453 h11564 h11565 h11735 h11740 h11752 h11753) (vc_X6_readBranches_6_33 hq0 hq2 h9444 h9447 h11556 h11559 h11736 h11742 h11751.1 h11751.2.1 h11751.2.2.1 h11751.2.2.2.1 h9445 h9446 h11557 h11558 h11737 h11741 ht_f_at ht_f_end ht_f_ft h9452 h9453 h11564 h11565 h11735 h11740 h11752 h11753) (vc_X6_readBranches_6_18 (nS h11560) h11686 h11688)
                have h11792 : 1 ≤ z11546 ∧ z11546 ≤ 1 := (vc_X12_ring_24 h11790 h11549)
                refine sv_aload_n (pc := 149) dX6_readBranches_149 rfl rfl ?_
                refine gk_X6_15 (pc := 150) dX6_readBranches_150 wF_X6_186 (A_23 hw) q11770 ?_
                refine mr_if_eq (pc := 153) (tgt := 160) dX6_readBranches_153 (by decide) (r32 h11771 rfl) (fun h11795 => ?_) (fun h11795 => ?_)
                · have h11796 : 0 ≤ z11769 ∧ z11769 ≤ 0 := (vc_X12_ring_22 h11795 h11771)
                  refine mr_iconst (pc := 160) (z := 0) dX6_readBranches_160 ?_
                  refine mr_istore (pc := 161) (lv' := [(9, iv 0), (12, jv z11783), (0, .ref 23), (1, iv p1), (2, iv z9433), (3, jv z9432), (5, jv z9431), (8, iv z9429), (10, jv z11766), (14, iv z11543)]) dX6_readBranches_161 (by decide) rfl ?_
                  refine mr_iinc (pc := 163) (lv' := [(14, iv (z11543 + 1)), (9, iv 0), (12, jv z11783), (0, .ref 23), (1, iv p1), (2, iv z9433), (3, jv z9432), (5, jv z9431), (8, iv z9429), (10, jv z11766)]) dX6_readBranches_163 rfl (by decide) rfl ?_
                  refine sv_goto (pc := 166) (tgt := 38) dX6_readBranches_166 (by decide) ?_
                  refine mr_lvS (lv' := [(0, .ref 23), (1, iv p1), (2, iv z9433), (3, jv z9432), (5, jv z9431), (8, iv z9429), (9, iv 0), (10, jv z11766), (12, jv z11783), (14, iv (z11543 + 1))]) (List.forall_mem_cons.mpr ⟨rfl, List.forall_mem_cons.mpr ⟨rfl, List.forall_mem_cons.mpr ⟨rfl, List.forall_mem_cons.mpr ⟨rfl, List.forall_mem_cons.mpr ⟨rfl, List.forall_mem_cons.mpr ⟨rfl, List.forall_mem_cons.mpr ⟨rfl, List.forall_mem_cons.mpr ⟨rfl, List.forall_mem_cons.mpr ⟨rfl, List.forall_mem_cons.mpr ⟨rfl, fun _ h => absurd h List.not_mem_nil⟩⟩⟩⟩⟩⟩⟩⟩⟩⟩) ?_
                  exact ih11563 0 z11766 z11783 (z11543 + 1) μ11757 z11747 z11749 T11758 (mF.call (mF.call (mF.call (mF.call mF.refl F11554 rfl) F11726 rfl) F11745 rfl) F11759 rfl) (F11759.f (A_23 hw) rfl q11748) (F11759.f (A_23 hw) rfl q11750) (rW (c := 0) (d := 1) (rR (x := 0)) rfl) h11767 h11784 (rW (c := 0) (d := 1001) (rAdd (e := 1) (f := 1001) h11688 (rR (x := 1)) rfl) rfl) (vc_X6_readBranches_6_30 hq0 hq2 h9444 h9447 h11556 h11559 h11736 h11742 h11751.1 h11751.2.1 h11751.2.2.2.1 h9445 h9446 h11557 h11558 h11737 h11741 h11751.2.2.1 ht_f_at ht_f_end ht_f_ft h9452 h9453 h11564 h11565 h11735 h11740 h11752 h11753) (vc_X6_readBranches_6_31 hq0 hq2 h9445 h11557 h11737 h11751.1 h11751.2.1 h11751.2.2.2.1 h9444 h9446 h9447 h11556 h11558 h11559 h11736 h11741 h11742 h11751.2.2.1 ht_f_at ht_f_end ht_f_ft h9452 h9453 h11564 h11565 h11735 h11740 h11752 h11753) (vc_X6_readBranches_6_32 hq2 h9446 h11558 h11741 h11751.2.2.1 h11751.2.2.2.1 hq0 h9444 h9445 h9447 h11556 h11557 h11559 h11736 h11737 h11742 h11751.1 h11751.2.1 ht_f_at ht_f_end ht_f_ft h9452 h9453 h11564 h11565 h11735 h11740 h11752 h11753) (vc_X6_readBranches_6_33 hq0 hq2 h9444 h9447 h11556 h11559 h11736 h11742 h11751.1 h11751.2.1 h11751.2.2.1 h11751.2.2.2.1 h9445 h9446 h11557 h11558 h11737 h11741 ht_f_at ht_f_end ht_f_ft h9452 h9453 h11564 h11565 h11735 h11740 h11752 h11753) (vc_X6_readBranches_6_18 (nS h11560) h11686 h11688)
                have h11797 : 1 ≤ z11769 ∧ z11769 ≤ 1 := (vc_X12_ring_24 h11795 h11771)
                refine mr_iconst (pc := 156) (z := 1) dX6_readBranches_156 ?_
                refine sv_goto (pc := 157) (tgt := 161) dX6_readBranches_157 (by decide) ?_
                refine mr_istore (pc := 161) (lv' := [(9, iv 1), (12, jv z11783), (0, .ref 23), (1, iv p1), (2, iv z9433), (3, jv z9432), (5, jv z9431), (8, iv z9429), (10, jv z11766), (14, iv z11543)]) dX6_readBranches_161 (by decide) rfl ?_
                refine mr_iinc (pc := 163) (lv' := [(14, iv (z11543 + 1)), (9, iv 1), (12, jv z11783), (0, .ref 23), (1, iv p1), (2, iv z9433), (3, jv z9432), (5, jv z9431), (8, iv z9429), (10, jv z11766)]) dX6_readBranches_163 rfl (by decide) rfl ?_
                refine sv_goto (pc := 166) (tgt := 38) dX6_readBranches_166 (by decide) ?_
                refine mr_lvS (lv' := [(0, .ref 23), (1, iv p1), (2, iv z9433), (3, jv z9432), (5, jv z9431), (8, iv z9429), (9, iv 1), (10, jv z11766), (12, jv z11783), (14, iv (z11543 + 1))]) (List.forall_mem_cons.mpr ⟨rfl, List.forall_mem_cons.mpr ⟨rfl, List.forall_mem_cons.mpr ⟨rfl, List.forall_mem_cons.mpr ⟨rfl, List.forall_mem_cons.mpr ⟨rfl, List.forall_mem_cons.mpr ⟨rfl, List.forall_mem_cons.mpr ⟨rfl, List.forall_mem_cons.mpr ⟨rfl, List.forall_mem_cons.mpr ⟨rfl, List.forall_mem_cons.mpr ⟨rfl, fun _ h => absurd h List.not_mem_nil⟩⟩⟩⟩⟩⟩⟩⟩⟩⟩) ?_
                exact ih11563 1 z11766 z11783 (z11543 + 1) μ11757 z11747 z11749 T11758 (mF.call (mF.call (mF.call (mF.call mF.refl F11554 rfl) F11726 rfl) F11745 rfl) F11759 rfl) (F11759.f (A_23 hw) rfl q11748) (F11759.f (A_23 hw) rfl q11750) (rW (c := 0) (d := 1) (rR (x := 1)) rfl) h11767 h11784 (rW (c := 0) (d := 1001) (rAdd (e := 1) (f := 1001) h11688 (rR (x := 1)) rfl) rfl) (vc_X6_readBranches_6_30 hq0 hq2 h9444 h9447 h11556 h11559 h11736 h11742 h11751.1 h11751.2.1 h11751.2.2.2.1 h9445 h9446 h11557 h11558 h11737 h11741 h11751.2.2.1 ht_f_at ht_f_end ht_f_ft h9452 h9453 h11564 h11565 h11735 h11740 h11752 h11753) (vc_X6_readBranches_6_31 hq0 hq2 h9445 h11557 h11737 h11751.1 h11751.2.1 h11751.2.2.2.1 h9444 h9446 h9447 h11556 h11558 h11559 h11736 h11741 h11742 h11751.2.2.1 ht_f_at ht_f_end ht_f_ft h9452 h9453 h11564 h11565 h11735 h11740 h11752 h11753) (vc_X6_readBranches_6_32 hq2 h9446 h11558 h11741 h11751.2.2.1 h11751.2.2.2.1 hq0 h9444 h9445 h9447 h11556 h11557 h11559 h11736 h11737 h11742 h11751.1 h11751.2.1 ht_f_at ht_f_end ht_f_ft h9452 h9453 h11564 h11565 h11735 h11740 h11752 h11753) (vc_X6_readBranches_6_33 hq0 hq2 h9444 h9447 h11556 h11559 h11736 h11742 h11751.1 h11751.2.1 h11751.2.2.1 h11751.2.2.2.1 h9445 h9446 h11557 h11558 h11737 h11741 ht_f_at ht_f_end ht_f_ft h9452 h9453 h11564 h11565 h11735 h11740 h11752 h11753) (vc_X6_readBranches_6_18 (nS h11560) h11686 h11688)
              refine mr_if_eq (pc := 125) (tgt := 138) dX6_readBranches_125 (by decide) (r32 h11771 rfl) (fun h11798 => ?_) (fun h11798 => ?_)
              · have h11799 : 0 ≤ z11769 ∧ z11769 ≤ 0 := (vc_X12_ring_22 h11798 h11771)
                refine sv_aload_n (pc := 138) dX6_readBranches_138 rfl rfl ?_
                refine gf_X6_17 (pc := 139) dX6_readBranches_139 wF_X6_183 (A_23 hw) T11758 fun z11800 q11801 h11802 => ?_
                refine mr_lvS (lv' := [(0, .ref 23), (1, iv p1), (2, iv z9433), (3, jv z9432), (5, jv z9431), (8, iv z9429), (9, iv z11546), (10, jv z11766), (14, iv z11543)]) (List.forall_mem_cons.mpr ⟨rfl, List.forall_mem_cons.mpr ⟨rfl, List.forall_mem_cons.mpr ⟨rfl, List.forall_mem_cons.mpr ⟨rfl, List.forall_mem_cons.mpr ⟨rfl, List.forall_mem_cons.mpr ⟨rfl, List.forall_mem_cons.mpr ⟨rfl, List.forall_mem_cons.mpr ⟨rfl, List.forall_mem_cons.mpr ⟨rfl, fun _ h => absurd h List.not_mem_nil⟩⟩⟩⟩⟩⟩⟩⟩⟩) ?_
                exact J11785 z11800 h11802
              have h11803 : 1 ≤ z11769 ∧ z11769 ≤ 1 := (vc_X12_ring_24 h11798 h11771)
              refine mr_lload (pc := 128) (z := z11544) dX6_readBranches_128 rfl ?_
              refine sv_aload_n (pc := 130) dX6_readBranches_130 rfl rfl ?_
              refine gf_X6_17 (pc := 131) dX6_readBranches_131 wF_X6_183 (A_23 hw) T11758 fun z11804 q11805 h11806 => ?_
              refine mr_lor (pc := 134) dX6_readBranches_134 ?_
              refine mr_genL (r64i _) fun z11807 q11808 h11809 => ?_
              refine sv_goto (pc := 135) (tgt := 142) dX6_readBranches_135 (by decide) ?_
              refine mr_lvS (lv' := [(0, .ref 23), (1, iv p1), (2, iv z9433), (3, jv z9432), (5, jv z9431), (8, iv z9429), (9, iv z11546), (10, jv z11766), (14, iv z11543)]) (List.forall_mem_cons.mpr ⟨rfl, List.forall_mem_cons.mpr ⟨rfl, List.forall_mem_cons.mpr ⟨rfl, List.forall_mem_cons.mpr ⟨rfl, List.forall_mem_cons.mpr ⟨rfl, List.forall_mem_cons.mpr ⟨rfl, List.forall_mem_cons.mpr ⟨rfl, List.forall_mem_cons.mpr ⟨rfl, List.forall_mem_cons.mpr ⟨rfl, fun _ h => absurd h List.not_mem_nil⟩⟩⟩⟩⟩⟩⟩⟩⟩) ?_
              exact J11785 z11807 h11809
            refine mr_if_eq (pc := 104) (tgt := 117) dX6_readBranches_104 (by decide) (r32 h11549 rfl) (fun h11810 => ?_) (fun h11810 => ?_)
            · have h11811 : 0 ≤ z11546 ∧ z11546 ≤ 0 := (vc_X12_ring_22 h11810 h11549)
              refine mr_lload (pc := 117) (z := z11545) dX6_readBranches_117 rfl ?_
              refine mr_lvS (lv' := [(0, .ref 23), (1, iv p1), (2, iv z9433), (3, jv z9432), (5, jv z9431), (8, iv z9429), (9, iv z11546), (12, jv z11544), (14, iv z11543)]) (List.forall_mem_cons.mpr ⟨rfl, List.forall_mem_cons.mpr ⟨rfl, List.forall_mem_cons.mpr ⟨rfl, List.forall_mem_cons.mpr ⟨rfl, List.forall_mem_cons.mpr ⟨rfl, List.forall_mem_cons.mpr ⟨rfl, List.forall_mem_cons.mpr ⟨rfl, List.forall_mem_cons.mpr ⟨rfl, List.forall_mem_cons.mpr ⟨rfl, fun _ h => absurd h List.not_mem_nil⟩⟩⟩⟩⟩⟩⟩⟩⟩) ?_
              exact J11768 z11545 h11550
            have h11812 : 1 ≤ z11546 ∧ z11546 ≤ 1 := (vc_X12_ring_24 h11810 h11549)
            refine mr_lload (pc := 107) (z := z11545) dX6_readBranches_107 rfl ?_
            refine sv_aload_n (pc := 109) dX6_readBranches_109 rfl rfl ?_
            refine gk_X6_16 (pc := 110) dX6_readBranches_110 wF_X6_179 (A_23 hw) (F11759.f (A_23 hw) rfl q11755) ?_
            refine mr_lor (pc := 113) dX6_readBranches_113 ?_
            refine mr_genL (r64i _) fun z11813 q11814 h11815 => ?_
            refine sv_goto (pc := 114) (tgt := 119) dX6_readBranches_114 (by decide) ?_
            refine mr_lvS (lv' := [(0, .ref 23), (1, iv p1), (2, iv z9433), (3, jv z9432), (5, jv z9431), (8, iv z9429), (9, iv z11546), (12, jv z11544), (14, iv z11543)]) (List.forall_mem_cons.mpr ⟨rfl, List.forall_mem_cons.mpr ⟨rfl, List.forall_mem_cons.mpr ⟨rfl, List.forall_mem_cons.mpr ⟨rfl, List.forall_mem_cons.mpr ⟨rfl, List.forall_mem_cons.mpr ⟨rfl, List.forall_mem_cons.mpr ⟨rfl, List.forall_mem_cons.mpr ⟨rfl, List.forall_mem_cons.mpr ⟨rfl, fun _ h => absurd h List.not_mem_nil⟩⟩⟩⟩⟩⟩⟩⟩⟩) ?_
            exact J11768 z11813 h11815
          refine mr_icmp_ne (pc := 73) (tgt := 84) dX6_readBranches_73 (by decide) h11691 (r32 (rR (x := 1040)) rfl) (fun h11816 => ?_) (fun h11816 => ?_)
          · refine sv_aload_n (pc := 84) dX6_readBranches_84 rfl rfl ?_
            refine mr_cVV (pc := 85) (c_X6_readPlace_g hw T11553 q11561 (F11554.f (A_23 hw) rfl (F9442.f (A_23 hw) rfl q_f_end)) q11562 (F11554.f (A_24 hw) rfl (F9442.f (A_24 hw) rfl q_f_te)) (vc_X6_readBranches_6_12 hq0 hq2 h9444 h9447 h11556 h11557 h11559 h9445 h9446 h11558 ht_f_at ht_f_end ht_f_ft h9452 h9453 h11564 h11565) (vc_X6_expect_g_3 hq1 h1) (vc_X6_readBranches_6_37 hq0 hq2 h9444 h9447 h11556 h11557 h11558 h11559 h9445 h9446 ht_f_at ht_f_end ht_f_ft h9452 h9453 h11564 h11565)) (gOk _ _ _ _ _) dX6_readBranches_85 (tX6_readPlace _ _ _ _ _) ⟨wV_X6_readPlace, wL_X6_readPlace⟩ wM_X6_196 (gCX6 _ _ _ _ _) rfl (A_23 hw) rfl ⟨le_t rfl, le_t rfl⟩ ⟨le_t rfl, le_t rfl⟩ rfl (le_t rfl) fun μ11817 T11818 F11819 h11820 => ?_
            obtain ⟨z11821, z11823, q11822, q11824, h11825⟩ := h11820
            have h11826 : (0 ≤ z11821 ∧ z11821 ≤ 1000) := by rw [← q11822]; exact T11818 23 23 (A_23 hw) 9
            have h11827 : (0 ≤ z11823 ∧ z11823 ≤ 4) := by rw [← q11824]; exact T11818 23 23 (A_23 hw) 18
            exact J11732 μ11817 T11818 (mF.call mF.refl F11819 rfl) (by rw [q11822]; exact (vc_X6_readBranches_6_38 hq0 hq2 h9444 h9447 h11556 h11559 h11825.1 h11825.2.1 h11825.2.2.2.1 h9445 h9446 h11557 h11558 h11825.2.2.1 ht_f_at ht_f_end ht_f_ft h9452 h9453 h11564 h11565 h11826 h11827)) (by rw [q11822]; exact (vc_X6_readBranches_6_39 hq0 hq2 h9445 h11557 h11825.1 h11825.2.1 h11825.2.2.2.1 h9444 h9446 h9447 h11556 h11558 h11559 h11825.2.2.1 ht_f_at ht_f_end ht_f_ft h9452 h9453 h11564 h11565 h11826 h11827)) (by rw [q11824]; exact (vc_X6_readBranches_6_40 hq2 h9446 h11558 h11825.2.2.1 h11825.2.2.2.1 hq0 h9444 h9445 h9447 h11556 h11557 h11559 h11825.1 h11825.2.1 ht_f_at ht_f_end ht_f_ft h9452 h9453 h11564 h11565 h11826 h11827)) (by rw [q11824, q11822]; exact (vc_X6_readBranches_6_41 hq0 hq2 h9444 h9447 h11556 h11559 h11825.1 h11825.2.1 h11825.2.2.1 h11825.2.2.2.1 h9445 h9446 h11557 h11558 ht_f_at ht_f_end ht_f_ft h9452 h9453 h11564 h11565 h11826 h11827))
          have h11828 : 1040 ≤ z11689 ∧ z11689 ≤ 1040 := (vc_X6_readBranches_6_42 h11816 h11695.2.1 h11700 h11691 h11699)
          refine sv_aload_n (pc := 76) dX6_readBranches_76 rfl rfl ?_
          refine mr_iload_n (pc := 77) (z := p1) dX6_readBranches_77 rfl rfl ?_
          refine mr_cVV (pc := 78) (c_X6_readGroup_5 hw T11553 hp1 q11561 (F11554.f (A_23 hw) rfl (F9442.f (A_23 hw) rfl q_f_end)) q11562 (F11554.f (A_24 hw) rfl (F9442.f (A_24 hw) rfl q_f_te)) (vc_X6_readBranches_6_12 hq0 hq2 h9444 h9447 h11556 h11557 h11559 h9445 h9446 h11558 ht_f_at ht_f_end ht_f_ft h9452 h9453 h11564 h11565) (vc_X6_expect_g_3 hq1 h1) (vc_X6_readBranches_6_37 hq0 hq2 h9444 h9447 h11556 h11557 h11558 h11559 h9445 h9446 ht_f_at ht_f_end ht_f_ft h9452 h9453 h11564 h11565)) (gOk _ _ _ _ _) dX6_readBranches_78 (tX6_readGroup _ _ _ _ _) ⟨wV_X6_readGroup, wL_X6_readGroup⟩ wM_X6_193 (gCX6 _ _ _ _ _) rfl (A_23 hw) rfl ⟨le_t rfl, le_t rfl⟩ ⟨le_t rfl, le_t rfl⟩ rfl (le_t rfl) fun μ11829 T11830 F11831 h11832 => ?_
          obtain ⟨z11833, z11835, q11834, q11836, h11837⟩ := h11832
          have h11838 : (0 ≤ z11833 ∧ z11833 ≤ 1000) := by rw [← q11834]; exact T11830 23 23 (A_23 hw) 9
          have h11839 : (0 ≤ z11835 ∧ z11835 ≤ 4) := by rw [← q11836]; exact T11830 23 23 (A_23 hw) 18
          refine sv_goto (pc := 81) (tgt := 88) dX6_readBranches_81 (by decide) ?_
          exact J11732 μ11829 T11830 (mF.call mF.refl F11831 rfl) (by rw [q11834]; exact (vc_X6_readBranches_6_38 hq0 hq2 h9444 h9447 h11556 h11559 h11837.1 h11837.2.1 h11837.2.2.2.1 h9445 h9446 h11557 h11558 h11837.2.2.1 ht_f_at ht_f_end ht_f_ft h9452 h9453 h11564 h11565 h11838 h11839)) (by rw [q11834]; exact (vc_X6_readBranches_6_39 hq0 hq2 h9445 h11557 h11837.1 h11837.2.1 h11837.2.2.2.1 h9444 h9446 h9447 h11556 h11558 h11559 h11837.2.2.1 ht_f_at ht_f_end ht_f_ft h9452 h9453 h11564 h11565 h11838 h11839)) (by rw [q11836]; exact (vc_X6_readBranches_6_40 hq2 h9446 h11558 h11837.2.2.1 h11837.2.2.2.1 hq0 h9444 h9445 h9447 h11556 h11557 h11559 h11837.1 h11837.2.1 ht_f_at ht_f_end ht_f_ft h9452 h9453 h11564 h11565 h11838 h11839)) (by rw [q11836, q11834]; exact (vc_X6_readBranches_6_41 hq0 hq2 h9444 h9447 h11556 h11559 h11837.1 h11837.2.1 h11837.2.2.1 h11837.2.2.2.1 h9445 h9446 h11557 h11558 ht_f_at ht_f_end ht_f_ft h9452 h9453 h11564 h11565 h11838 h11839))
      refine mr_lvS (lv' := [(0, .ref 23), (1, iv p1), (2, iv z9433), (3, jv z9432), (5, jv z9431), (8, iv z9429), (9, iv 1), (10, jv 0), (12, jv 0), (14, iv 0)]) (List.forall_mem_cons.mpr ⟨rfl, List.forall_mem_cons.mpr ⟨rfl, List.forall_mem_cons.mpr ⟨rfl, List.forall_mem_cons.mpr ⟨rfl, List.forall_mem_cons.mpr ⟨rfl, List.forall_mem_cons.mpr ⟨rfl, List.forall_mem_cons.mpr ⟨rfl, List.forall_mem_cons.mpr ⟨rfl, List.forall_mem_cons.mpr ⟨rfl, List.forall_mem_cons.mpr ⟨rfl, fun _ h => absurd h List.not_mem_nil⟩⟩⟩⟩⟩⟩⟩⟩⟩⟩) ?_
      exact L11548 1003 1 0 0 0 μ9434 f_la f_lf T9441 mF.refl q9449 q9450 (rW (c := 0) (d := 1) (rR (x := 1)) rfl) (rW (c := -9223372036854775808) (d := 9223372036854775807) (rR (x := 0)) rfl) (rW (c := -9223372036854775808) (d := 9223372036854775807) (rR (x := 0)) rfl) (rW (c := 0) (d := 1001) (rR (x := 0)) rfl) (vc_X6_readBranches_6_4 hq0 hq2 h9444 h9445 h9447 h9446 ht_f_at ht_f_end ht_f_ft h9452 h9453) (vc_X6_readBranches_6_5 hq0 hq2 h9444 h9445 h9447 h9446 ht_f_at ht_f_end ht_f_ft h9452 h9453) (vc_X6_readBranches_6_6 hq2 h9446 h9447 hq0 h9444 h9445 ht_f_at ht_f_end ht_f_ft h9452 h9453) (vc_X6_readBranches_6_7 hq0 hq2 h9444 h9445 h9446 h9447 ht_f_at ht_f_end ht_f_ft h9452 h9453) vc_X6_readBranches_6_47
  refine mr_lvS (lv' := [(0, .ref 23), (1, iv p1), (2, iv 0), (3, jv 0), (5, jv 0), (7, iv 1), (8, iv 0)]) (List.forall_mem_cons.mpr ⟨rfl, List.forall_mem_cons.mpr ⟨rfl, List.forall_mem_cons.mpr ⟨rfl, List.forall_mem_cons.mpr ⟨rfl, List.forall_mem_cons.mpr ⟨rfl, List.forall_mem_cons.mpr ⟨rfl, List.forall_mem_cons.mpr ⟨rfl, fun _ h => absurd h List.not_mem_nil⟩⟩⟩⟩⟩⟩⟩) ?_
  exact L9435 1003 0 0 0 1 0 μ f_at f_ft hT mF.refl q_f_at q_f_ft (rW (c := 0) (d := 1) (rR (x := 0)) rfl) (rW (c := -9223372036854775808) (d := 9223372036854775807) (rR (x := 0)) rfl) (rW (c := -9223372036854775808) (d := 9223372036854775807) (rR (x := 0)) rfl) (rW (c := 0) (d := 1) (rR (x := 1)) rfl) (rW (c := 0) (d := 1001) (rR (x := 0)) rfl) (vc_X6_expect_g_2 hq0 hq2 ht_f_at ht_f_end ht_f_ft) (vc_X6_readRepeat_g_31 hq0 hq2 ht_f_at ht_f_end ht_f_ft) (vc_X6_readRepeat_g_32 hq2 hq0 ht_f_at ht_f_end ht_f_ft) (vc_X6_readRepeat_g_33 hq0 hq2 ht_f_at ht_f_end ht_f_ft) vc_X6_readBranches_6_47
