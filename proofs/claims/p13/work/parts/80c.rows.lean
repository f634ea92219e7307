theorem vc_X2_leastBelow_4_1 {p3 : Int} (h0 : 32 ≤ p3) (h1 : 4 ≤ p3 ∧ p3 ≤ 4) : False := by omega
theorem vc_X2_leastBelow_4_2 {n0 p1 : Int} (h0 : p1 < n0) (h1 : 0 ≤ p1 ∧ p1 ≤ 9) : p1 < n0 := by omega
theorem vc_X2_leastBelow_4_3 {z5 : Int} (h0 : ¬ z5 = 0) (h1 : 0 ≤ z5 ∧ z5 ≤ 1) : 1 ≤ z5 ∧ z5 ≤ 1 := by omega
theorem vc_X2_leastBelow_4_4 {z24 : Int} (h0 : z24 = 0) (h1 : (-2147483648) ≤ z24 ∧ z24 ≤ 2147483647) : 0 ≤ z24 ∧ z24 ≤ 0 := by omega
theorem vc_X2_leastBelow_4_5 {z5 : Int} (h0 : z5 = 0) (h1 : 0 ≤ z5 ∧ z5 ≤ 1) : 0 ≤ z5 ∧ z5 ≤ 0 := by omega
set_option maxRecDepth 4000 in
set_option maxHeartbeats 4000000 in
theorem c_X2_leastBelow_4 {l : Launch} {D : va_G} {c : Nat → ClassId} {H0 : Heap} {sa : Nat × Nat × (Nat → Int32)} {w : mW} {μ : mM} (hw : mWF w) (hT : mT w μ) {p1 : Int} (hp1 : 0 ≤ p1 ∧ p1 ≤ 9) {p2 : Int} (hp2 : (-2147483648) ≤ p2 ∧ p2 ≤ 2147483647) {p3 : Int} (hp3 : 4 ≤ p3 ∧ p3 ≤ 4) (hq0 : p1 < w.2.2.2 0) : sC (gG l D c H0 sa) mX2_leastBelow 31 0 0 [.ref 87, iv p1, iv p2, iv p3] (mk w μ) (qI w [87007] μ (fun z μ1 => ((-2147483648) ≤ z ∧ z ≤ 2147483647) ∧ True)) := by
  refine sC.of rfl (by decide) (le_t rfl) ?_
  refine mr_lvE (lv' := [(0, .ref 87), (1, iv p1), (2, iv p2), (3, iv p3)]) rfl ?_
  refine mr_iload_n (pc := 0) (z := p3) dX2_leastBelow_0 rfl rfl ?_
  refine mr_bipush (pc := 1) (z := 32) dX2_leastBelow_1 (by decide) ?_
  refine mr_icmp_ge (pc := 3) (tgt := 16) dX2_leastBelow_3 (by decide) (r32 hp3 rfl) (r32 (rR (x := 32)) rfl) (fun h => ((vc_X2_leastBelow_4_1 h hp3)).elim) (fun _ => ?_)
  refine sv_aload_n (pc := 6) dX2_leastBelow_6 rfl rfl ?_
  refine mr_iload_n (pc := 7) (z := p1) dX2_leastBelow_7 rfl rfl ?_
  refine mr_iload_n (pc := 8) (z := p2) dX2_leastBelow_8 rfl rfl ?_
  refine mr_iload_n (pc := 9) (z := p3) dX2_leastBelow_9 rfl rfl ?_
  refine mr_cVP (pc := 10) (c_X2_isSplit hw hT hp1 hp2 (rW (c := (-2147483648)) (d := 2147483647) hp3 rfl) (vc_X2_leastBelow_4_2 hq0 hp1)) (gOk _ _ _ _ _) dX2_leastBelow_10 (tX2_isSplit _ _ _ _ _) ⟨wV_X2_isSplit, wL_X2_isSplit⟩ wM_X2_106 (gCX2 _ _ _ _ _) rfl (A_87 hw) rfl ⟨le_t rfl, le_t rfl⟩ ⟨le_t rfl, le_t rfl⟩ rfl (le_t rfl) fun z5 h4 => ?_
  refine mr_if_ne (pc := 13) (tgt := 26) dX2_leastBelow_13 (by decide) (r32 h4.1 rfl) (fun h6 => ?_) (fun h6 => ?_)
  · have h7 : 1 ≤ z5 ∧ z5 ≤ 1 := (vc_X2_leastBelow_4_3 h6 h4.1)
    refine sv_aload_n (pc := 26) dX2_leastBelow_26 rfl rfl ?_
    refine mr_iload_n (pc := 27) (z := p1) dX2_leastBelow_27 rfl rfl ?_
    refine mr_iload_n (pc := 28) (z := p2) dX2_leastBelow_28 rfl rfl ?_
    refine mr_iload_n (pc := 29) (z := p3) dX2_leastBelow_29 rfl rfl ?_
    refine mr_iconst (pc := 30) (z := 1) dX2_leastBelow_30 ?_
    refine mr_iadd (pc := 31) (x := p3) (y := 1) dX2_leastBelow_31 ?_
    refine mr_cVI (pc := 32) (c_X2_leastBelow_5 hw hT hp1 hp2 (rAdd (e := 5) (f := 5) hp3 (rR (x := 1)) rfl) (vc_X2_leastBelow_4_2 hq0 hp1)) (gOk _ _ _ _ _) dX2_leastBelow_32 (tX2_leastBelow _ _ _ _ _) ⟨wV_X2_leastBelow, wL_X2_leastBelow⟩ wM_X2_101 (gCX2 _ _ _ _ _) rfl (A_87 hw) rfl ⟨le_t rfl, le_t rfl⟩ ⟨le_t rfl, le_t rfl⟩ rfl (le_t rfl) fun z12 μ8 T9 F10 h11 => ?_
    refine mr_istore (pc := 35) (lv' := [(4, iv z12), (0, .ref 87), (1, iv p1), (2, iv p2), (3, iv p3)]) dX2_leastBelow_35 (by decide) rfl ?_
    refine sv_aload_n (pc := 37) dX2_leastBelow_37 rfl rfl ?_
    refine mr_iload_n (pc := 38) (z := p1) dX2_leastBelow_38 rfl rfl ?_
    refine mr_iload_n (pc := 39) (z := p2) dX2_leastBelow_39 rfl rfl ?_
    refine mr_iconst (pc := 40) (z := 1) dX2_leastBelow_40 ?_
    refine mr_bipush (pc := 41) (z := 31) dX2_leastBelow_41 (by decide) ?_
    refine mr_iload_n (pc := 43) (z := p3) dX2_leastBelow_43 rfl rfl ?_
    refine mr_isub (pc := 44) (x := 31) (y := p3) dX2_leastBelow_44 ?_
    refine mr_ishl (pc := 45) (x := 1) (y := (31 - p3)) dX2_leastBelow_45 ?_
    refine mr_gen (P := fun z => (-2147483648) ≤ z ∧ z ≤ 2147483647) (r32i _) fun z13 q14 h15 => ?_
    refine mr_ior (pc := 46) (x := p2) (y := z13) dX2_leastBelow_46 ?_
    refine mr_gen (P := fun z => (-2147483648) ≤ z ∧ z ≤ 2147483647) (r32i _) fun z16 q17 h18 => ?_
    refine mr_iload_n (pc := 47) (z := p3) dX2_leastBelow_47 rfl rfl ?_
    refine mr_iconst (pc := 48) (z := 1) dX2_leastBelow_48 ?_
    refine mr_iadd (pc := 49) (x := p3) (y := 1) dX2_leastBelow_49 ?_
    refine mr_cVI (pc := 50) (c_X2_leastBelow_5 hw T9 hp1 h18 (rAdd (e := 5) (f := 5) hp3 (rR (x := 1)) rfl) (vc_X2_leastBelow_4_2 hq0 hp1)) (gOk _ _ _ _ _) dX2_leastBelow_50 (tX2_leastBelow _ _ _ _ _) ⟨wV_X2_leastBelow, wL_X2_leastBelow⟩ wM_X2_101 (gCX2 _ _ _ _ _) rfl (A_87 hw) rfl ⟨le_t rfl, le_t rfl⟩ ⟨le_t rfl, le_t rfl⟩ rfl (le_t rfl) fun z23 μ19 T20 F21 h22 => ?_
    refine mr_istore (pc := 53) (lv' := [(5, iv z23), (4, iv z12), (0, .ref 87), (1, iv p1), (2, iv p2), (3, iv p3)]) dX2_leastBelow_53 (by decide) rfl ?_
    refine mr_iload (pc := 55) (z := z12) dX2_leastBelow_55 rfl ?_
    refine mr_iload (pc := 57) (z := z23) dX2_leastBelow_57 rfl ?_
    refine mr_iand (pc := 59) (x := z12) (y := z23) dX2_leastBelow_59 ?_
    refine mr_gen (P := fun z => (-2147483648) ≤ z ∧ z ≤ 2147483647) (r32i _) fun z24 q25 h26 => ?_
    refine mr_if_eq (pc := 60) (tgt := 69) dX2_leastBelow_60 (by decide) h26 (fun h27 => ?_) (fun h27 => ?_)
    · have h28 : 0 ≤ z24 ∧ z24 ≤ 0 := (vc_X2_leastBelow_4_4 h27 h26)
      refine sv_aload_n (pc := 69) dX2_leastBelow_69 rfl rfl ?_
      refine sv_dup (pc := 70) dX2_leastBelow_70 rfl ?_
      refine gf_X2_7 (pc := 71) dX2_leastBelow_71 wF_X2_98 (A_87 hw) T20 fun z29 q30 h31 => ?_
      refine mr_iconst (pc := 74) (z := 1) dX2_leastBelow_74 ?_
      refine mr_iadd (pc := 75) (x := z29) (y := 1) dX2_leastBelow_75 ?_
      refine mr_wrap fun z32 h33 => ?_
      refine pf_X2_7 (pc := 76) dX2_leastBelow_76 wF_X2_98 (A_87 hw) T20 h33 fun μ34 u35 T36 => ?_
      refine mr_iload (pc := 79) (z := z12) dX2_leastBelow_79 rfl ?_
      refine mr_iload (pc := 81) (z := z23) dX2_leastBelow_81 rfl ?_
      refine mr_ior (pc := 83) (x := z12) (y := z23) dX2_leastBelow_83 ?_
      refine mr_gen (P := fun z => (-2147483648) ≤ z ∧ z ≤ 2147483647) (r32i _) fun z37 q38 h39 => ?_
      exact mr_iret dX2_leastBelow_84 rfl (le_t rfl) (le_t rfl) T36 (mF.up (mF.call (mF.call mF.refl F10 rfl) F21 rfl) (A_87 hw) u35 rfl) ⟨h39, trivial⟩
    refine mr_iload (pc := 63) (z := z12) dX2_leastBelow_63 rfl ?_
    refine mr_iload (pc := 65) (z := z23) dX2_leastBelow_65 rfl ?_
    refine mr_iand (pc := 67) (x := z12) (y := z23) dX2_leastBelow_67 ?_
    refine mr_gen (P := fun z => (-2147483648) ≤ z ∧ z ≤ 2147483647) (r32i _) fun z40 q41 h42 => ?_
    exact mr_iret dX2_leastBelow_68 rfl (le_t rfl) (le_t rfl) T20 (mF.call (mF.call mF.refl F10 rfl) F21 rfl) ⟨h42, trivial⟩
  have h43 : 0 ≤ z5 ∧ z5 ≤ 0 := (vc_X2_leastBelow_4_5 h6 h4.1)
  refine sv_aload_n (pc := 16) dX2_leastBelow_16 rfl rfl ?_
  refine mr_iload_n (pc := 17) (z := p1) dX2_leastBelow_17 rfl rfl ?_
  refine mr_iload_n (pc := 18) (z := p2) dX2_leastBelow_18 rfl rfl ?_
  refine mr_cVP (pc := 19) (c_X2_tieFor hw hT hp1 hp2 (vc_X2_leastBelow_4_2 hq0 hp1)) (gOk _ _ _ _ _) dX2_leastBelow_19 (tX2_tieFor _ _ _ _ _) ⟨wV_X2_tieFor, wL_X2_tieFor⟩ wM_X2_60 (gCX2 _ _ _ _ _) rfl (A_87 hw) rfl ⟨le_t rfl, le_t rfl⟩ ⟨le_t rfl, le_t rfl⟩ rfl (le_t rfl) fun z48 h47 => ?_
  refine mr_cSP (pc := 22) (c_X2_aimBit hw hT h47.1) (gOk _ _ _ _ _) dX2_leastBelow_22 (tX2_aimBit _ _ _ _ _) wS_X2_aimBit wM_X2_110 ⟨le_t rfl, le_t rfl⟩ ⟨le_t rfl, le_t rfl⟩ rfl (le_t rfl) fun z53 h52 => ?_
  exact mr_iret dX2_leastBelow_25 rfl (le_t rfl) (le_t rfl) hT mF.refl ⟨h52.1, trivial⟩
theorem vc_X2_leastBelow_3_1 {p3 : Int} (h0 : 32 ≤ p3) (h1 : 3 ≤ p3 ∧ p3 ≤ 3) : False := by omega
theorem vc_X2_leastBelow_3_2 {n0 p1 : Int} (h0 : p1 < n0) (h1 : 0 ≤ p1 ∧ p1 ≤ 9) : p1 < n0 := by omega
theorem vc_X2_leastBelow_3_3 {z5 : Int} (h0 : ¬ z5 = 0) (h1 : 0 ≤ z5 ∧ z5 ≤ 1) : 1 ≤ z5 ∧ z5 ≤ 1 := by omega
theorem vc_X2_leastBelow_3_4 {z24 : Int} (h0 : z24 = 0) (h1 : (-2147483648) ≤ z24 ∧ z24 ≤ 2147483647) : 0 ≤ z24 ∧ z24 ≤ 0 := by omega
theorem vc_X2_leastBelow_3_5 {z5 : Int} (h0 : z5 = 0) (h1 : 0 ≤ z5 ∧ z5 ≤ 1) : 0 ≤ z5 ∧ z5 ≤ 0 := by omega
set_option maxRecDepth 4000 in
set_option maxHeartbeats 4000000 in
theorem c_X2_leastBelow_3 {l : Launch} {D : va_G} {c : Nat → ClassId} {H0 : Heap} {sa : Nat × Nat × (Nat → Int32)} {w : mW} {μ : mM} (hw : mWF w) (hT : mT w μ) {p1 : Int} (hp1 : 0 ≤ p1 ∧ p1 ≤ 9) {p2 : Int} (hp2 : (-2147483648) ≤ p2 ∧ p2 ≤ 2147483647) {p3 : Int} (hp3 : 3 ≤ p3 ∧ p3 ≤ 3) (hq0 : p1 < w.2.2.2 0) : sC (gG l D c H0 sa) mX2_leastBelow 32 0 0 [.ref 87, iv p1, iv p2, iv p3] (mk w μ) (qI w [87007] μ (fun z μ1 => ((-2147483648) ≤ z ∧ z ≤ 2147483647) ∧ True)) := by
  refine sC.of rfl (by decide) (le_t rfl) ?_
  refine mr_lvE (lv' := [(0, .ref 87), (1, iv p1), (2, iv p2), (3, iv p3)]) rfl ?_
  refine mr_iload_n (pc := 0) (z := p3) dX2_leastBelow_0 rfl rfl ?_
  refine mr_bipush (pc := 1) (z := 32) dX2_leastBelow_1 (by decide) ?_
  refine mr_icmp_ge (pc := 3) (tgt := 16) dX2_leastBelow_3 (by decide) (r32 hp3 rfl) (r32 (rR (x := 32)) rfl) (fun h => ((vc_X2_leastBelow_3_1 h hp3)).elim) (fun _ => ?_)
  refine sv_aload_n (pc := 6) dX2_leastBelow_6 rfl rfl ?_
  refine mr_iload_n (pc := 7) (z := p1) dX2_leastBelow_7 rfl rfl ?_
  refine mr_iload_n (pc := 8) (z := p2) dX2_leastBelow_8 rfl rfl ?_
  refine mr_iload_n (pc := 9) (z := p3) dX2_leastBelow_9 rfl rfl ?_
  refine mr_cVP (pc := 10) (c_X2_isSplit hw hT hp1 hp2 (rW (c := (-2147483648)) (d := 2147483647) hp3 rfl) (vc_X2_leastBelow_3_2 hq0 hp1)) (gOk _ _ _ _ _) dX2_leastBelow_10 (tX2_isSplit _ _ _ _ _) ⟨wV_X2_isSplit, wL_X2_isSplit⟩ wM_X2_106 (gCX2 _ _ _ _ _) rfl (A_87 hw) rfl ⟨le_t rfl, le_t rfl⟩ ⟨le_t rfl, le_t rfl⟩ rfl (le_t rfl) fun z5 h4 => ?_
  refine mr_if_ne (pc := 13) (tgt := 26) dX2_leastBelow_13 (by decide) (r32 h4.1 rfl) (fun h6 => ?_) (fun h6 => ?_)
  · have h7 : 1 ≤ z5 ∧ z5 ≤ 1 := (vc_X2_leastBelow_3_3 h6 h4.1)
    refine sv_aload_n (pc := 26) dX2_leastBelow_26 rfl rfl ?_
    refine mr_iload_n (pc := 27) (z := p1) dX2_leastBelow_27 rfl rfl ?_
    refine mr_iload_n (pc := 28) (z := p2) dX2_leastBelow_28 rfl rfl ?_
    refine mr_iload_n (pc := 29) (z := p3) dX2_leastBelow_29 rfl rfl ?_
    refine mr_iconst (pc := 30) (z := 1) dX2_leastBelow_30 ?_
    refine mr_iadd (pc := 31) (x := p3) (y := 1) dX2_leastBelow_31 ?_
    refine mr_cVI (pc := 32) (c_X2_leastBelow_4 hw hT hp1 hp2 (rAdd (e := 4) (f := 4) hp3 (rR (x := 1)) rfl) (vc_X2_leastBelow_3_2 hq0 hp1)) (gOk _ _ _ _ _) dX2_leastBelow_32 (tX2_leastBelow _ _ _ _ _) ⟨wV_X2_leastBelow, wL_X2_leastBelow⟩ wM_X2_101 (gCX2 _ _ _ _ _) rfl (A_87 hw) rfl ⟨le_t rfl, le_t rfl⟩ ⟨le_t rfl, le_t rfl⟩ rfl (le_t rfl) fun z12 μ8 T9 F10 h11 => ?_
    refine mr_istore (pc := 35) (lv' := [(4, iv z12), (0, .ref 87), (1, iv p1), (2, iv p2), (3, iv p3)]) dX2_leastBelow_35 (by decide) rfl ?_
    refine sv_aload_n (pc := 37) dX2_leastBelow_37 rfl rfl ?_
    refine mr_iload_n (pc := 38) (z := p1) dX2_leastBelow_38 rfl rfl ?_
    refine mr_iload_n (pc := 39) (z := p2) dX2_leastBelow_39 rfl rfl ?_
    refine mr_iconst (pc := 40) (z := 1) dX2_leastBelow_40 ?_
    refine mr_bipush (pc := 41) (z := 31) dX2_leastBelow_41 (by decide) ?_
    refine mr_iload_n (pc := 43) (z := p3) dX2_leastBelow_43 rfl rfl ?_
    refine mr_isub (pc := 44) (x := 31) (y := p3) dX2_leastBelow_44 ?_
    refine mr_ishl (pc := 45) (x := 1) (y := (31 - p3)) dX2_leastBelow_45 ?_
    refine mr_gen (P := fun z => (-2147483648) ≤ z ∧ z ≤ 2147483647) (r32i _) fun z13 q14 h15 => ?_
    refine mr_ior (pc := 46) (x := p2) (y := z13) dX2_leastBelow_46 ?_
    refine mr_gen (P := fun z => (-2147483648) ≤ z ∧ z ≤ 2147483647) (r32i _) fun z16 q17 h18 => ?_
    refine mr_iload_n (pc := 47) (z := p3) dX2_leastBelow_47 rfl rfl ?_
    refine mr_iconst (pc := 48) (z := 1) dX2_leastBelow_48 ?_
    refine mr_iadd (pc := 49) (x := p3) (y := 1) dX2_leastBelow_49 ?_
    refine mr_cVI (pc := 50) (c_X2_leastBelow_4 hw T9 hp1 h18 (rAdd (e := 4) (f := 4) hp3 (rR (x := 1)) rfl) (vc_X2_leastBelow_3_2 hq0 hp1)) (gOk _ _ _ _ _) dX2_leastBelow_50 (tX2_leastBelow _ _ _ _ _) ⟨wV_X2_leastBelow, wL_X2_leastBelow⟩ wM_X2_101 (gCX2 _ _ _ _ _) rfl (A_87 hw) rfl ⟨le_t rfl, le_t rfl⟩ ⟨le_t rfl, le_t rfl⟩ rfl (le_t rfl) fun z23 μ19 T20 F21 h22 => ?_
    refine mr_istore (pc := 53) (lv' := [(5, iv z23), (4, iv z12), (0, .ref 87), (1, iv p1), (2, iv p2), (3, iv p3)]) dX2_leastBelow_53 (by decide) rfl ?_
    refine mr_iload (pc := 55) (z := z12) dX2_leastBelow_55 rfl ?_
    refine mr_iload (pc := 57) (z := z23) dX2_leastBelow_57 rfl ?_
    refine mr_iand (pc := 59) (x := z12) (y := z23) dX2_leastBelow_59 ?_
    refine mr_gen (P := fun z => (-2147483648) ≤ z ∧ z ≤ 2147483647) (r32i _) fun z24 q25 h26 => ?_
    refine mr_if_eq (pc := 60) (tgt := 69) dX2_leastBelow_60 (by decide) h26 (fun h27 => ?_) (fun h27 => ?_)
    · have h28 : 0 ≤ z24 ∧ z24 ≤ 0 := (vc_X2_leastBelow_3_4 h27 h26)
      refine sv_aload_n (pc := 69) dX2_leastBelow_69 rfl rfl ?_
      refine sv_dup (pc := 70) dX2_leastBelow_70 rfl ?_
      refine gf_X2_7 (pc := 71) dX2_leastBelow_71 wF_X2_98 (A_87 hw) T20 fun z29 q30 h31 => ?_
      refine mr_iconst (pc := 74) (z := 1) dX2_leastBelow_74 ?_
      refine mr_iadd (pc := 75) (x := z29) (y := 1) dX2_leastBelow_75 ?_
      refine mr_wrap fun z32 h33 => ?_
      refine pf_X2_7 (pc := 76) dX2_leastBelow_76 wF_X2_98 (A_87 hw) T20 h33 fun μ34 u35 T36 => ?_
      refine mr_iload (pc := 79) (z := z12) dX2_leastBelow_79 rfl ?_
      refine mr_iload (pc := 81) (z := z23) dX2_leastBelow_81 rfl ?_
      refine mr_ior (pc := 83) (x := z12) (y := z23) dX2_leastBelow_83 ?_
      refine mr_gen (P := fun z => (-2147483648) ≤ z ∧ z ≤ 2147483647) (r32i _) fun z37 q38 h39 => ?_
      exact mr_iret dX2_leastBelow_84 rfl (le_t rfl) (le_t rfl) T36 (mF.up (mF.call (mF.call mF.refl F10 rfl) F21 rfl) (A_87 hw) u35 rfl) ⟨h39, trivial⟩
    refine mr_iload (pc := 63) (z := z12) dX2_leastBelow_63 rfl ?_
    refine mr_iload (pc := 65) (z := z23) dX2_leastBelow_65 rfl ?_
    refine mr_iand (pc := 67) (x := z12) (y := z23) dX2_leastBelow_67 ?_
    refine mr_gen (P := fun z => (-2147483648) ≤ z ∧ z ≤ 2147483647) (r32i _) fun z40 q41 h42 => ?_
    exact mr_iret dX2_leastBelow_68 rfl (le_t rfl) (le_t rfl) T20 (mF.call (mF.call mF.refl F10 rfl) F21 rfl) ⟨h42, trivial⟩
  have h43 : 0 ≤ z5 ∧ z5 ≤ 0 := (vc_X2_leastBelow_3_5 h6 h4.1)
  refine sv_aload_n (pc := 16) dX2_leastBelow_16 rfl rfl ?_
  refine mr_iload_n (pc := 17) (z := p1) dX2_leastBelow_17 rfl rfl ?_
  refine mr_iload_n (pc := 18) (z := p2) dX2_leastBelow_18 rfl rfl ?_
  refine mr_cVP (pc := 19) (c_X2_tieFor hw hT hp1 hp2 (vc_X2_leastBelow_3_2 hq0 hp1)) (gOk _ _ _ _ _) dX2_leastBelow_19 (tX2_tieFor _ _ _ _ _) ⟨wV_X2_tieFor, wL_X2_tieFor⟩ wM_X2_60 (gCX2 _ _ _ _ _) rfl (A_87 hw) rfl ⟨le_t rfl, le_t rfl⟩ ⟨le_t rfl, le_t rfl⟩ rfl (le_t rfl) fun z48 h47 => ?_
  refine mr_cSP (pc := 22) (c_X2_aimBit hw hT h47.1) (gOk _ _ _ _ _) dX2_leastBelow_22 (tX2_aimBit _ _ _ _ _) wS_X2_aimBit wM_X2_110 ⟨le_t rfl, le_t rfl⟩ ⟨le_t rfl, le_t rfl⟩ rfl (le_t rfl) fun z53 h52 => ?_
  exact mr_iret dX2_leastBelow_25 rfl (le_t rfl) (le_t rfl) hT mF.refl ⟨h52.1, trivial⟩
theorem vc_X2_leastBelow_2_1 {p3 : Int} (h0 : 32 ≤ p3) (h1 : 2 ≤ p3 ∧ p3 ≤ 2) : False := by omega
theorem vc_X2_leastBelow_2_2 {n0 p1 : Int} (h0 : p1 < n0) (h1 : 0 ≤ p1 ∧ p1 ≤ 9) : p1 < n0 := by omega
theorem vc_X2_leastBelow_2_3 {z5 : Int} (h0 : ¬ z5 = 0) (h1 : 0 ≤ z5 ∧ z5 ≤ 1) : 1 ≤ z5 ∧ z5 ≤ 1 := by omega
theorem vc_X2_leastBelow_2_4 {z24 : Int} (h0 : z24 = 0) (h1 : (-2147483648) ≤ z24 ∧ z24 ≤ 2147483647) : 0 ≤ z24 ∧ z24 ≤ 0 := by omega
theorem vc_X2_leastBelow_2_5 {z5 : Int} (h0 : z5 = 0) (h1 : 0 ≤ z5 ∧ z5 ≤ 1) : 0 ≤ z5 ∧ z5 ≤ 0 := by omega
set_option maxRecDepth 4000 in
set_option maxHeartbeats 4000000 in
theorem c_X2_leastBelow_2 {l : Launch} {D : va_G} {c : Nat → ClassId} {H0 : Heap} {sa : Nat × Nat × (Nat → Int32)} {w : mW} {μ : mM} (hw : mWF w) (hT : mT w μ) {p1 : Int} (hp1 : 0 ≤ p1 ∧ p1 ≤ 9) {p2 : Int} (hp2 : (-2147483648) ≤ p2 ∧ p2 ≤ 2147483647) {p3 : Int} (hp3 : 2 ≤ p3 ∧ p3 ≤ 2) (hq0 : p1 < w.2.2.2 0) : sC (gG l D c H0 sa) mX2_leastBelow 33 0 0 [.ref 87, iv p1, iv p2, iv p3] (mk w μ) (qI w [87007] μ (fun z μ1 => ((-2147483648) ≤ z ∧ z ≤ 2147483647) ∧ True)) := by
  refine sC.of rfl (by decide) (le_t rfl) ?_
  refine mr_lvE (lv' := [(0, .ref 87), (1, iv p1), (2, iv p2), (3, iv p3)]) rfl ?_
  refine mr_iload_n (pc := 0) (z := p3) dX2_leastBelow_0 rfl rfl ?_
  refine mr_bipush (pc := 1) (z := 32) dX2_leastBelow_1 (by decide) ?_
  refine mr_icmp_ge (pc := 3) (tgt := 16) dX2_leastBelow_3 (by decide) (r32 hp3 rfl) (r32 (rR (x := 32)) rfl) (fun h => ((vc_X2_leastBelow_2_1 h hp3)).elim) (fun _ => ?_)
  refine sv_aload_n (pc := 6) dX2_leastBelow_6 rfl rfl ?_
  refine mr_iload_n (pc := 7) (z := p1) dX2_leastBelow_7 rfl rfl ?_
  refine mr_iload_n (pc := 8) (z := p2) dX2_leastBelow_8 rfl rfl ?_
  refine mr_iload_n (pc := 9) (z := p3) dX2_leastBelow_9 rfl rfl ?_
  refine mr_cVP (pc := 10) (c_X2_isSplit hw hT hp1 hp2 (rW (c := (-2147483648)) (d := 2147483647) hp3 rfl) (vc_X2_leastBelow_2_2 hq0 hp1)) (gOk _ _ _ _ _) dX2_leastBelow_10 (tX2_isSplit _ _ _ _ _) ⟨wV_X2_isSplit, wL_X2_isSplit⟩ wM_X2_106 (gCX2 _ _ _ _ _) rfl (A_87 hw) rfl ⟨le_t rfl, le_t rfl⟩ ⟨le_t rfl, le_t rfl⟩ rfl (le_t rfl) fun z5 h4 => ?_
  refine mr_if_ne (pc := 13) (tgt := 26) dX2_leastBelow_13 (by decide) (r32 h4.1 rfl) (fun h6 => ?_) (fun h6 => ?_)
  · have h7 : 1 ≤ z5 ∧ z5 ≤ 1 := (vc_X2_leastBelow_2_3 h6 h4.1)
    refine sv_aload_n (pc := 26) dX2_leastBelow_26 rfl rfl ?_
    refine mr_iload_n (pc := 27) (z := p1) dX2_leastBelow_27 rfl rfl ?_
    refine mr_iload_n (pc := 28) (z := p2) dX2_leastBelow_28 rfl rfl ?_
    refine mr_iload_n (pc := 29) (z := p3) dX2_leastBelow_29 rfl rfl ?_
    refine mr_iconst (pc := 30) (z := 1) dX2_leastBelow_30 ?_
    refine mr_iadd (pc := 31) (x := p3) (y := 1) dX2_leastBelow_31 ?_
    refine mr_cVI (pc := 32) (c_X2_leastBelow_3 hw hT hp1 hp2 (rAdd (e := 3) (f := 3) hp3 (rR (x := 1)) rfl) (vc_X2_leastBelow_2_2 hq0 hp1)) (gOk _ _ _ _ _) dX2_leastBelow_32 (tX2_leastBelow _ _ _ _ _) ⟨wV_X2_leastBelow, wL_X2_leastBelow⟩ wM_X2_101 (gCX2 _ _ _ _ _) rfl (A_87 hw) rfl ⟨le_t rfl, le_t rfl⟩ ⟨le_t rfl, le_t rfl⟩ rfl (le_t rfl) fun z12 μ8 T9 F10 h11 => ?_
    refine mr_istore (pc := 35) (lv' := [(4, iv z12), (0, .ref 87), (1, iv p1), (2, iv p2), (3, iv p3)]) dX2_leastBelow_35 (by decide) rfl ?_
    refine sv_aload_n (pc := 37) dX2_leastBelow_37 rfl rfl ?_
    refine mr_iload_n (pc := 38) (z := p1) dX2_leastBelow_38 rfl rfl ?_
    refine mr_iload_n (pc := 39) (z := p2) dX2_leastBelow_39 rfl rfl ?_
    refine mr_iconst (pc := 40) (z := 1) dX2_leastBelow_40 ?_
    refine mr_bipush (pc := 41) (z := 31) dX2_leastBelow_41 (by decide) ?_
    refine mr_iload_n (pc := 43) (z := p3) dX2_leastBelow_43 rfl rfl ?_
    refine mr_isub (pc := 44) (x := 31) (y := p3) dX2_leastBelow_44 ?_
    refine mr_ishl (pc := 45) (x := 1) (y := (31 - p3)) dX2_leastBelow_45 ?_
    refine mr_gen (P := fun z => (-2147483648) ≤ z ∧ z ≤ 2147483647) (r32i _) fun z13 q14 h15 => ?_
    refine mr_ior (pc := 46) (x := p2) (y := z13) dX2_leastBelow_46 ?_
    refine mr_gen (P := fun z => (-2147483648) ≤ z ∧ z ≤ 2147483647) (r32i _) fun z16 q17 h18 => ?_
    refine mr_iload_n (pc := 47) (z := p3) dX2_leastBelow_47 rfl rfl ?_
    refine mr_iconst (pc := 48) (z := 1) dX2_leastBelow_48 ?_
    refine mr_iadd (pc := 49) (x := p3) (y := 1) dX2_leastBelow_49 ?_
    refine mr_cVI (pc := 50) (c_X2_leastBelow_3 hw T9 hp1 h18 (rAdd (e := 3) (f := 3) hp3 (rR (x := 1)) rfl) (vc_X2_leastBelow_2_2 hq0 hp1)) (gOk _ _ _ _ _) dX2_leastBelow_50 (tX2_leastBelow _ _ _ _ _) ⟨wV_X2_leastBelow, wL_X2_leastBelow⟩ wM_X2_101 (gCX2 _ _ _ _ _) rfl (A_87 hw) rfl ⟨le_t rfl, le_t rfl⟩ ⟨le_t rfl, le_t rfl⟩ rfl (le_t rfl) fun z23 μ19 T20 F21 h22 => ?_
    refine mr_istore (pc := 53) (lv' := [(5, iv z23), (4, iv z12), (0, .ref 87), (1, iv p1), (2, iv p2), (3, iv p3)]) dX2_leastBelow_53 (by decide) rfl ?_
    refine mr_iload (pc := 55) (z := z12) dX2_leastBelow_55 rfl ?_
    refine mr_iload (pc := 57) (z := z23) dX2_leastBelow_57 rfl ?_
    refine mr_iand (pc := 59) (x := z12) (y := z23) dX2_leastBelow_59 ?_
    refine mr_gen (P := fun z => (-2147483648) ≤ z ∧ z ≤ 2147483647) (r32i _) fun z24 q25 h26 => ?_
    refine mr_if_eq (pc := 60) (tgt := 69) dX2_leastBelow_60 (by decide) h26 (fun h27 => ?_) (fun h27 => ?_)
    · have h28 : 0 ≤ z24 ∧ z24 ≤ 0 := (vc_X2_leastBelow_2_4 h27 h26)
      refine sv_aload_n (pc := 69) dX2_leastBelow_69 rfl rfl ?_
      refine sv_dup (pc := 70) dX2_leastBelow_70 rfl ?_
      refine gf_X2_7 (pc := 71) dX2_leastBelow_71 wF_X2_98 (A_87 hw) T20 fun z29 q30 h31 => ?_
      refine mr_iconst (pc := 74) (z := 1) dX2_leastBelow_74 ?_
      refine mr_iadd (pc := 75) (x := z29) (y := 1) dX2_leastBelow_75 ?_
      refine mr_wrap fun z32 h33 => ?_
      refine pf_X2_7 (pc := 76) dX2_leastBelow_76 wF_X2_98 (A_87 hw) T20 h33 fun μ34 u35 T36 => ?_
      refine mr_iload (pc := 79) (z := z12) dX2_leastBelow_79 rfl ?_
      refine mr_iload (pc := 81) (z := z23) dX2_leastBelow_81 rfl ?_
      refine mr_ior (pc := 83) (x := z12) (y := z23) dX2_leastBelow_83 ?_
      refine mr_gen (P := fun z => (-2147483648) ≤ z ∧ z ≤ 2147483647) (r32i _) fun z37 q38 h39 => ?_
      exact mr_iret dX2_leastBelow_84 rfl (le_t rfl) (le_t rfl) T36 (mF.up (mF.call (mF.call mF.refl F10 rfl) F21 rfl) (A_87 hw) u35 rfl) ⟨h39, trivial⟩
    refine mr_iload (pc := 63) (z := z12) dX2_leastBelow_63 rfl ?_
    refine mr_iload (pc := 65) (z := z23) dX2_leastBelow_65 rfl ?_
    refine mr_iand (pc := 67) (x := z12) (y := z23) dX2_leastBelow_67 ?_
    refine mr_gen (P := fun z => (-2147483648) ≤ z ∧ z ≤ 2147483647) (r32i _) fun z40 q41 h42 => ?_
    exact mr_iret dX2_leastBelow_68 rfl (le_t rfl) (le_t rfl) T20 (mF.call (mF.call mF.refl F10 rfl) F21 rfl) ⟨h42, trivial⟩
  have h43 : 0 ≤ z5 ∧ z5 ≤ 0 := (vc_X2_leastBelow_2_5 h6 h4.1)
  refine sv_aload_n (pc := 16) dX2_leastBelow_16 rfl rfl ?_
  refine mr_iload_n (pc := 17) (z := p1) dX2_leastBelow_17 rfl rfl ?_
  refine mr_iload_n (pc := 18) (z := p2) dX2_leastBelow_18 rfl rfl ?_
  refine mr_cVP (pc := 19) (c_X2_tieFor hw hT hp1 hp2 (vc_X2_leastBelow_2_2 hq0 hp1)) (gOk _ _ _ _ _) dX2_leastBelow_19 (tX2_tieFor _ _ _ _ _) ⟨wV_X2_tieFor, wL_X2_tieFor⟩ wM_X2_60 (gCX2 _ _ _ _ _) rfl (A_87 hw) rfl ⟨le_t rfl, le_t rfl⟩ ⟨le_t rfl, le_t rfl⟩ rfl (le_t rfl) fun z48 h47 => ?_
  refine mr_cSP (pc := 22) (c_X2_aimBit hw hT h47.1) (gOk _ _ _ _ _) dX2_leastBelow_22 (tX2_aimBit _ _ _ _ _) wS_X2_aimBit wM_X2_110 ⟨le_t rfl, le_t rfl⟩ ⟨le_t rfl, le_t rfl⟩ rfl (le_t rfl) fun z53 h52 => ?_
  exact mr_iret dX2_leastBelow_25 rfl (le_t rfl) (le_t rfl) hT mF.refl ⟨h52.1, trivial⟩
theorem vc_X2_leastBelow_1_1 {p3 : Int} (h0 : 32 ≤ p3) (h1 : 1 ≤ p3 ∧ p3 ≤ 1) : False := by omega
theorem vc_X2_leastBelow_1_2 {n0 p1 : Int} (h0 : p1 < n0) (h1 : 0 ≤ p1 ∧ p1 ≤ 9) : p1 < n0 := by omega
theorem vc_X2_leastBelow_1_3 {z5 : Int} (h0 : ¬ z5 = 0) (h1 : 0 ≤ z5 ∧ z5 ≤ 1) : 1 ≤ z5 ∧ z5 ≤ 1 := by omega
theorem vc_X2_leastBelow_1_4 {z24 : Int} (h0 : z24 = 0) (h1 : (-2147483648) ≤ z24 ∧ z24 ≤ 2147483647) : 0 ≤ z24 ∧ z24 ≤ 0 := by omega
theorem vc_X2_leastBelow_1_5 {z5 : Int} (h0 : z5 = 0) (h1 : 0 ≤ z5 ∧ z5 ≤ 1) : 0 ≤ z5 ∧ z5 ≤ 0 := by omega
set_option maxRecDepth 4000 in
set_option maxHeartbeats 4000000 in
theorem c_X2_leastBelow_1 {l : Launch} {D : va_G} {c : Nat → ClassId} {H0 : Heap} {sa : Nat × Nat × (Nat → Int32)} {w : mW} {μ : mM} (hw : mWF w) (hT : mT w μ) {p1 : Int} (hp1 : 0 ≤ p1 ∧ p1 ≤ 9) {p2 : Int} (hp2 : (-2147483648) ≤ p2 ∧ p2 ≤ 2147483647) {p3 : Int} (hp3 : 1 ≤ p3 ∧ p3 ≤ 1) (hq0 : p1 < w.2.2.2 0) : sC (gG l D c H0 sa) mX2_leastBelow 34 0 0 [.ref 87, iv p1, iv p2, iv p3] (mk w μ) (qI w [87007] μ (fun z μ1 => ((-2147483648) ≤ z ∧ z ≤ 2147483647) ∧ True)) := by
  refine sC.of rfl (by decide) (le_t rfl) ?_
  refine mr_lvE (lv' := [(0, .ref 87), (1, iv p1), (2, iv p2), (3, iv p3)]) rfl ?_
  refine mr_iload_n (pc := 0) (z := p3) dX2_leastBelow_0 rfl rfl ?_
  refine mr_bipush (pc := 1) (z := 32) dX2_leastBelow_1 (by decide) ?_
  refine mr_icmp_ge (pc := 3) (tgt := 16) dX2_leastBelow_3 (by decide) (r32 hp3 rfl) (r32 (rR (x := 32)) rfl) (fun h => ((vc_X2_leastBelow_1_1 h hp3)).elim) (fun _ => ?_)
  refine sv_aload_n (pc := 6) dX2_leastBelow_6 rfl rfl ?_
  refine mr_iload_n (pc := 7) (z := p1) dX2_leastBelow_7 rfl rfl ?_
  refine mr_iload_n (pc := 8) (z := p2) dX2_leastBelow_8 rfl rfl ?_
  refine mr_iload_n (pc := 9) (z := p3) dX2_leastBelow_9 rfl rfl ?_
  refine mr_cVP (pc := 10) (c_X2_isSplit hw hT hp1 hp2 (rW (c := (-2147483648)) (d := 2147483647) hp3 rfl) (vc_X2_leastBelow_1_2 hq0 hp1)) (gOk _ _ _ _ _) dX2_leastBelow_10 (tX2_isSplit _ _ _ _ _) ⟨wV_X2_isSplit, wL_X2_isSplit⟩ wM_X2_106 (gCX2 _ _ _ _ _) rfl (A_87 hw) rfl ⟨le_t rfl, le_t rfl⟩ ⟨le_t rfl, le_t rfl⟩ rfl (le_t rfl) fun z5 h4 => ?_
  refine mr_if_ne (pc := 13) (tgt := 26) dX2_leastBelow_13 (by decide) (r32 h4.1 rfl) (fun h6 => ?_) (fun h6 => ?_)
  · have h7 : 1 ≤ z5 ∧ z5 ≤ 1 := (vc_X2_leastBelow_1_3 h6 h4.1)
    refine sv_aload_n (pc := 26) dX2_leastBelow_26 rfl rfl ?_
    refine mr_iload_n (pc := 27) (z := p1) dX2_leastBelow_27 rfl rfl ?_
    refine mr_iload_n (pc := 28) (z := p2) dX2_leastBelow_28 rfl rfl ?_
    refine mr_iload_n (pc := 29) (z := p3) dX2_leastBelow_29 rfl rfl ?_
    refine mr_iconst (pc := 30) (z := 1) dX2_leastBelow_30 ?_
    refine mr_iadd (pc := 31) (x := p3) (y := 1) dX2_leastBelow_31 ?_
    refine mr_cVI (pc := 32) (c_X2_leastBelow_2 hw hT hp1 hp2 (rAdd (e := 2) (f := 2) hp3 (rR (x := 1)) rfl) (vc_X2_leastBelow_1_2 hq0 hp1)) (gOk _ _ _ _ _) dX2_leastBelow_32 (tX2_leastBelow _ _ _ _ _) ⟨wV_X2_leastBelow, wL_X2_leastBelow⟩ wM_X2_101 (gCX2 _ _ _ _ _) rfl (A_87 hw) rfl ⟨le_t rfl, le_t rfl⟩ ⟨le_t rfl, le_t rfl⟩ rfl (le_t rfl) fun z12 μ8 T9 F10 h11 => ?_
    refine mr_istore (pc := 35) (lv' := [(4, iv z12), (0, .ref 87), (1, iv p1), (2, iv p2), (3, iv p3)]) dX2_leastBelow_35 (by decide) rfl ?_
    refine sv_aload_n (pc := 37) dX2_leastBelow_37 rfl rfl ?_
    refine mr_iload_n (pc := 38) (z := p1) dX2_leastBelow_38 rfl rfl ?_
    refine mr_iload_n (pc := 39) (z := p2) dX2_leastBelow_39 rfl rfl ?_
    refine mr_iconst (pc := 40) (z := 1) dX2_leastBelow_40 ?_
    refine mr_bipush (pc := 41) (z := 31) dX2_leastBelow_41 (by decide) ?_
    refine mr_iload_n (pc := 43) (z := p3) dX2_leastBelow_43 rfl rfl ?_
    refine mr_isub (pc := 44) (x := 31) (y := p3) dX2_leastBelow_44 ?_
    refine mr_ishl (pc := 45) (x := 1) (y := (31 - p3)) dX2_leastBelow_45 ?_
    refine mr_gen (P := fun z => (-2147483648) ≤ z ∧ z ≤ 2147483647) (r32i _) fun z13 q14 h15 => ?_
    refine mr_ior (pc := 46) (x := p2) (y := z13) dX2_leastBelow_46 ?_
    refine mr_gen (P := fun z => (-2147483648) ≤ z ∧ z ≤ 2147483647) (r32i _) fun z16 q17 h18 => ?_
    refine mr_iload_n (pc := 47) (z := p3) dX2_leastBelow_47 rfl rfl ?_
    refine mr_iconst (pc := 48) (z := 1) dX2_leastBelow_48 ?_
    refine mr_iadd (pc := 49) (x := p3) (y := 1) dX2_leastBelow_49 ?_
    refine mr_cVI (pc := 50) (c_X2_leastBelow_2 hw T9 hp1 h18 (rAdd (e := 2) (f := 2) hp3 (rR (x := 1)) rfl) (vc_X2_leastBelow_1_2 hq0 hp1)) (gOk _ _ _ _ _) dX2_leastBelow_50 (tX2_leastBelow _ _ _ _ _) ⟨wV_X2_leastBelow, wL_X2_leastBelow⟩ wM_X2_101 (gCX2 _ _ _ _ _) rfl (A_87 hw) rfl ⟨le_t rfl, le_t rfl⟩ ⟨le_t rfl, le_t rfl⟩ rfl (le_t rfl) fun z23 μ19 T20 F21 h22 => ?_
    refine mr_istore (pc := 53) (lv' := [(5, iv z23), (4, iv z12), (0, .ref 87), (1, iv p1), (2, iv p2), (3, iv p3)]) dX2_leastBelow_53 (by decide) rfl ?_
    refine mr_iload (pc := 55) (z := z12) dX2_leastBelow_55 rfl ?_
    refine mr_iload (pc := 57) (z := z23) dX2_leastBelow_57 rfl ?_
    refine mr_iand (pc := 59) (x := z12) (y := z23) dX2_leastBelow_59 ?_
    refine mr_gen (P := fun z => (-2147483648) ≤ z ∧ z ≤ 2147483647) (r32i _) fun z24 q25 h26 => ?_
    refine mr_if_eq (pc := 60) (tgt := 69) dX2_leastBelow_60 (by decide) h26 (fun h27 => ?_) (fun h27 => ?_)
    · have h28 : 0 ≤ z24 ∧ z24 ≤ 0 := (vc_X2_leastBelow_1_4 h27 h26)
      refine sv_aload_n (pc := 69) dX2_leastBelow_69 rfl rfl ?_
      refine sv_dup (pc := 70) dX2_leastBelow_70 rfl ?_
      refine gf_X2_7 (pc := 71) dX2_leastBelow_71 wF_X2_98 (A_87 hw) T20 fun z29 q30 h31 => ?_
      refine mr_iconst (pc := 74) (z := 1) dX2_leastBelow_74 ?_
      refine mr_iadd (pc := 75) (x := z29) (y := 1) dX2_leastBelow_75 ?_
      refine mr_wrap fun z32 h33 => ?_
      refine pf_X2_7 (pc := 76) dX2_leastBelow_76 wF_X2_98 (A_87 hw) T20 h33 fun μ34 u35 T36 => ?_
      refine mr_iload (pc := 79) (z := z12) dX2_leastBelow_79 rfl ?_
      refine mr_iload (pc := 81) (z := z23) dX2_leastBelow_81 rfl ?_
      refine mr_ior (pc := 83) (x := z12) (y := z23) dX2_leastBelow_83 ?_
      refine mr_gen (P := fun z => (-2147483648) ≤ z ∧ z ≤ 2147483647) (r32i _) fun z37 q38 h39 => ?_
      exact mr_iret dX2_leastBelow_84 rfl (le_t rfl) (le_t rfl) T36 (mF.up (mF.call (mF.call mF.refl F10 rfl) F21 rfl) (A_87 hw) u35 rfl) ⟨h39, trivial⟩
    refine mr_iload (pc := 63) (z := z12) dX2_leastBelow_63 rfl ?_
    refine mr_iload (pc := 65) (z := z23) dX2_leastBelow_65 rfl ?_
    refine mr_iand (pc := 67) (x := z12) (y := z23) dX2_leastBelow_67 ?_
    refine mr_gen (P := fun z => (-2147483648) ≤ z ∧ z ≤ 2147483647) (r32i _) fun z40 q41 h42 => ?_
    exact mr_iret dX2_leastBelow_68 rfl (le_t rfl) (le_t rfl) T20 (mF.call (mF.call mF.refl F10 rfl) F21 rfl) ⟨h42, trivial⟩
  have h43 : 0 ≤ z5 ∧ z5 ≤ 0 := (vc_X2_leastBelow_1_5 h6 h4.1)
  refine sv_aload_n (pc := 16) dX2_leastBelow_16 rfl rfl ?_
  refine mr_iload_n (pc := 17) (z := p1) dX2_leastBelow_17 rfl rfl ?_
  refine mr_iload_n (pc := 18) (z := p2) dX2_leastBelow_18 rfl rfl ?_
  refine mr_cVP (pc := 19) (c_X2_tieFor hw hT hp1 hp2 (vc_X2_leastBelow_1_2 hq0 hp1)) (gOk _ _ _ _ _) dX2_leastBelow_19 (tX2_tieFor _ _ _ _ _) ⟨wV_X2_tieFor, wL_X2_tieFor⟩ wM_X2_60 (gCX2 _ _ _ _ _) rfl (A_87 hw) rfl ⟨le_t rfl, le_t rfl⟩ ⟨le_t rfl, le_t rfl⟩ rfl (le_t rfl) fun z48 h47 => ?_
  refine mr_cSP (pc := 22) (c_X2_aimBit hw hT h47.1) (gOk _ _ _ _ _) dX2_leastBelow_22 (tX2_aimBit _ _ _ _ _) wS_X2_aimBit wM_X2_110 ⟨le_t rfl, le_t rfl⟩ ⟨le_t rfl, le_t rfl⟩ rfl (le_t rfl) fun z53 h52 => ?_
  exact mr_iret dX2_leastBelow_25 rfl (le_t rfl) (le_t rfl) hT mF.refl ⟨h52.1, trivial⟩
theorem vc_X2_leastBelow_0_1 {p3 : Int} (h0 : 32 ≤ p3) (h1 : 0 ≤ p3 ∧ p3 ≤ 0) : False := by omega
theorem vc_X2_leastBelow_0_2 {n0 p1 : Int} (h0 : p1 < n0) (h1 : 0 ≤ p1 ∧ p1 ≤ 9) : p1 < n0 := by omega
theorem vc_X2_leastBelow_0_3 {z5 : Int} (h0 : ¬ z5 = 0) (h1 : 0 ≤ z5 ∧ z5 ≤ 1) : 1 ≤ z5 ∧ z5 ≤ 1 := by omega
theorem vc_X2_leastBelow_0_4 {z24 : Int} (h0 : z24 = 0) (h1 : (-2147483648) ≤ z24 ∧ z24 ≤ 2147483647) : 0 ≤ z24 ∧ z24 ≤ 0 := by omega
theorem vc_X2_leastBelow_0_5 {z5 : Int} (h0 : z5 = 0) (h1 : 0 ≤ z5 ∧ z5 ≤ 1) : 0 ≤ z5 ∧ z5 ≤ 0 := by omega
set_option maxRecDepth 4000 in
set_option maxHeartbeats 4000000 in
theorem c_X2_leastBelow_0 {l : Launch} {D : va_G} {c : Nat → ClassId} {H0 : Heap} {sa : Nat × Nat × (Nat → Int32)} {w : mW} {μ : mM} (hw : mWF w) (hT : mT w μ) {p1 : Int} (hp1 : 0 ≤ p1 ∧ p1 ≤ 9) {p2 : Int} (hp2 : (-2147483648) ≤ p2 ∧ p2 ≤ 2147483647) {p3 : Int} (hp3 : 0 ≤ p3 ∧ p3 ≤ 0) (hq0 : p1 < w.2.2.2 0) : sC (gG l D c H0 sa) mX2_leastBelow 35 0 0 [.ref 87, iv p1, iv p2, iv p3] (mk w μ) (qI w [87007] μ (fun z μ1 => ((-2147483648) ≤ z ∧ z ≤ 2147483647) ∧ True)) := by
  refine sC.of rfl (by decide) (le_t rfl) ?_
  refine mr_lvE (lv' := [(0, .ref 87), (1, iv p1), (2, iv p2), (3, iv p3)]) rfl ?_
  refine mr_iload_n (pc := 0) (z := p3) dX2_leastBelow_0 rfl rfl ?_
  refine mr_bipush (pc := 1) (z := 32) dX2_leastBelow_1 (by decide) ?_
  refine mr_icmp_ge (pc := 3) (tgt := 16) dX2_leastBelow_3 (by decide) (r32 hp3 rfl) (r32 (rR (x := 32)) rfl) (fun h => ((vc_X2_leastBelow_0_1 h hp3)).elim) (fun _ => ?_)
  refine sv_aload_n (pc := 6) dX2_leastBelow_6 rfl rfl ?_
  refine mr_iload_n (pc := 7) (z := p1) dX2_leastBelow_7 rfl rfl ?_
  refine mr_iload_n (pc := 8) (z := p2) dX2_leastBelow_8 rfl rfl ?_
  refine mr_iload_n (pc := 9) (z := p3) dX2_leastBelow_9 rfl rfl ?_
  refine mr_cVP (pc := 10) (c_X2_isSplit hw hT hp1 hp2 (rW (c := (-2147483648)) (d := 2147483647) hp3 rfl) (vc_X2_leastBelow_0_2 hq0 hp1)) (gOk _ _ _ _ _) dX2_leastBelow_10 (tX2_isSplit _ _ _ _ _) ⟨wV_X2_isSplit, wL_X2_isSplit⟩ wM_X2_106 (gCX2 _ _ _ _ _) rfl (A_87 hw) rfl ⟨le_t rfl, le_t rfl⟩ ⟨le_t rfl, le_t rfl⟩ rfl (le_t rfl) fun z5 h4 => ?_
  refine mr_if_ne (pc := 13) (tgt := 26) dX2_leastBelow_13 (by decide) (r32 h4.1 rfl) (fun h6 => ?_) (fun h6 => ?_)
  · have h7 : 1 ≤ z5 ∧ z5 ≤ 1 := (vc_X2_leastBelow_0_3 h6 h4.1)
    refine sv_aload_n (pc := 26) dX2_leastBelow_26 rfl rfl ?_
    refine mr_iload_n (pc := 27) (z := p1) dX2_leastBelow_27 rfl rfl ?_
    refine mr_iload_n (pc := 28) (z := p2) dX2_leastBelow_28 rfl rfl ?_
    refine mr_iload_n (pc := 29) (z := p3) dX2_leastBelow_29 rfl rfl ?_
    refine mr_iconst (pc := 30) (z := 1) dX2_leastBelow_30 ?_
    refine mr_iadd (pc := 31) (x := p3) (y := 1) dX2_leastBelow_31 ?_
    refine mr_cVI (pc := 32) (c_X2_leastBelow_1 hw hT hp1 hp2 (rAdd (e := 1) (f := 1) hp3 (rR (x := 1)) rfl) (vc_X2_leastBelow_0_2 hq0 hp1)) (gOk _ _ _ _ _) dX2_leastBelow_32 (tX2_leastBelow _ _ _ _ _) ⟨wV_X2_leastBelow, wL_X2_leastBelow⟩ wM_X2_101 (gCX2 _ _ _ _ _) rfl (A_87 hw) rfl ⟨le_t rfl, le_t rfl⟩ ⟨le_t rfl, le_t rfl⟩ rfl (le_t rfl) fun z12 μ8 T9 F10 h11 => ?_
    refine mr_istore (pc := 35) (lv' := [(4, iv z12), (0, .ref 87), (1, iv p1), (2, iv p2), (3, iv p3)]) dX2_leastBelow_35 (by decide) rfl ?_
    refine sv_aload_n (pc := 37) dX2_leastBelow_37 rfl rfl ?_
    refine mr_iload_n (pc := 38) (z := p1) dX2_leastBelow_38 rfl rfl ?_
    refine mr_iload_n (pc := 39) (z := p2) dX2_leastBelow_39 rfl rfl ?_
    refine mr_iconst (pc := 40) (z := 1) dX2_leastBelow_40 ?_
    refine mr_bipush (pc := 41) (z := 31) dX2_leastBelow_41 (by decide) ?_
    refine mr_iload_n (pc := 43) (z := p3) dX2_leastBelow_43 rfl rfl ?_
    refine mr_isub (pc := 44) (x := 31) (y := p3) dX2_leastBelow_44 ?_
    refine mr_ishl (pc := 45) (x := 1) (y := (31 - p3)) dX2_leastBelow_45 ?_
    refine mr_gen (P := fun z => (-2147483648) ≤ z ∧ z ≤ 2147483647) (r32i _) fun z13 q14 h15 => ?_
    refine mr_ior (pc := 46) (x := p2) (y := z13) dX2_leastBelow_46 ?_
    refine mr_gen (P := fun z => (-2147483648) ≤ z ∧ z ≤ 2147483647) (r32i _) fun z16 q17 h18 => ?_
    refine mr_iload_n (pc := 47) (z := p3) dX2_leastBelow_47 rfl rfl ?_
    refine mr_iconst (pc := 48) (z := 1) dX2_leastBelow_48 ?_
    refine mr_iadd (pc := 49) (x := p3) (y := 1) dX2_leastBelow_49 ?_
    refine mr_cVI (pc := 50) (c_X2_leastBelow_1 hw T9 hp1 h18 (rAdd (e := 1) (f := 1) hp3 (rR (x := 1)) rfl) (vc_X2_leastBelow_0_2 hq0 hp1)) (gOk _ _ _ _ _) dX2_leastBelow_50 (tX2_leastBelow _ _ _ _ _) ⟨wV_X2_leastBelow, wL_X2_leastBelow⟩ wM_X2_101 (gCX2 _ _ _ _ _) rfl (A_87 hw) rfl ⟨le_t rfl, le_t rfl⟩ ⟨le_t rfl, le_t rfl⟩ rfl (le_t rfl) fun z23 μ19 T20 F21 h22 => ?_
    refine mr_istore (pc := 53) (lv' := [(5, iv z23), (4, iv z12), (0, .ref 87), (1, iv p1), (2, iv p2), (3, iv p3)]) dX2_leastBelow_53 (by decide) rfl ?_
    refine mr_iload (pc := 55) (z := z12) dX2_leastBelow_55 rfl ?_
    refine mr_iload (pc := 57) (z := z23) dX2_leastBelow_57 rfl ?_
    refine mr_iand (pc := 59) (x := z12) (y := z23) dX2_leastBelow_59 ?_
    refine mr_gen (P := fun z => (-2147483648) ≤ z ∧ z ≤ 2147483647) (r32i _) fun z24 q25 h26 => ?_
    refine mr_if_eq (pc := 60) (tgt := 69) dX2_leastBelow_60 (by decide) h26 (fun h27 => ?_) (fun h27 => ?_)
    · have h28 : 0 ≤ z24 ∧ z24 ≤ 0 := (vc_X2_leastBelow_0_4 h27 h26)
      refine sv_aload_n (pc := 69) dX2_leastBelow_69 rfl rfl ?_
      refine sv_dup (pc := 70) dX2_leastBelow_70 rfl ?_
      refine gf_X2_7 (pc := 71) dX2_leastBelow_71 wF_X2_98 (A_87 hw) T20 fun z29 q30 h31 => ?_
      refine mr_iconst (pc := 74) (z := 1) dX2_leastBelow_74 ?_
      refine mr_iadd (pc := 75) (x := z29) (y := 1) dX2_leastBelow_75 ?_
      refine mr_wrap fun z32 h33 => ?_
      refine pf_X2_7 (pc := 76) dX2_leastBelow_76 wF_X2_98 (A_87 hw) T20 h33 fun μ34 u35 T36 => ?_
      refine mr_iload (pc := 79) (z := z12) dX2_leastBelow_79 rfl ?_
      refine mr_iload (pc := 81) (z := z23) dX2_leastBelow_81 rfl ?_
      refine mr_ior (pc := 83) (x := z12) (y := z23) dX2_leastBelow_83 ?_
      refine mr_gen (P := fun z => (-2147483648) ≤ z ∧ z ≤ 2147483647) (r32i _) fun z37 q38 h39 => ?_
      exact mr_iret dX2_leastBelow_84 rfl (le_t rfl) (le_t rfl) T36 (mF.up (mF.call (mF.call mF.refl F10 rfl) F21 rfl) (A_87 hw) u35 rfl) ⟨h39, trivial⟩
    refine mr_iload (pc := 63) (z := z12) dX2_leastBelow_63 rfl ?_
    refine mr_iload (pc := 65) (z := z23) dX2_leastBelow_65 rfl ?_
    refine mr_iand (pc := 67) (x := z12) (y := z23) dX2_leastBelow_67 ?_
    refine mr_gen (P := fun z => (-2147483648) ≤ z ∧ z ≤ 2147483647) (r32i _) fun z40 q41 h42 => ?_
    exact mr_iret dX2_leastBelow_68 rfl (le_t rfl) (le_t rfl) T20 (mF.call (mF.call mF.refl F10 rfl) F21 rfl) ⟨h42, trivial⟩
  have h43 : 0 ≤ z5 ∧ z5 ≤ 0 := (vc_X2_leastBelow_0_5 h6 h4.1)
  refine sv_aload_n (pc := 16) dX2_leastBelow_16 rfl rfl ?_
  refine mr_iload_n (pc := 17) (z := p1) dX2_leastBelow_17 rfl rfl ?_
  refine mr_iload_n (pc := 18) (z := p2) dX2_leastBelow_18 rfl rfl ?_
  refine mr_cVP (pc := 19) (c_X2_tieFor hw hT hp1 hp2 (vc_X2_leastBelow_0_2 hq0 hp1)) (gOk _ _ _ _ _) dX2_leastBelow_19 (tX2_tieFor _ _ _ _ _) ⟨wV_X2_tieFor, wL_X2_tieFor⟩ wM_X2_60 (gCX2 _ _ _ _ _) rfl (A_87 hw) rfl ⟨le_t rfl, le_t rfl⟩ ⟨le_t rfl, le_t rfl⟩ rfl (le_t rfl) fun z48 h47 => ?_
  refine mr_cSP (pc := 22) (c_X2_aimBit hw hT h47.1) (gOk _ _ _ _ _) dX2_leastBelow_22 (tX2_aimBit _ _ _ _ _) wS_X2_aimBit wM_X2_110 ⟨le_t rfl, le_t rfl⟩ ⟨le_t rfl, le_t rfl⟩ rfl (le_t rfl) fun z53 h52 => ?_
  exact mr_iret dX2_leastBelow_25 rfl (le_t rfl) (le_t rfl) hT mF.refl ⟨h52.1, trivial⟩
theorem vc_X2_leastTable_1 {n0 p1 : Int} (h0 : p1 < n0) (h1 : 0 ≤ p1 ∧ p1 ≤ 9) : p1 < n0 := by omega
theorem vc_X2_leastTable_2 {z9 : Int} (h0 : z9 = 0) (h1 : 0 ≤ z9 ∧ z9 ≤ 2097152) : 0 ≤ z9 ∧ z9 ≤ 0 := by omega
theorem vc_X2_leastTable_3 {z9 : Int} (h0 : ¬ z9 = 0) (h1 : 0 ≤ z9 ∧ z9 ≤ 2097152) : 1 ≤ z9 ∧ z9 ≤ 2097152 := by omega
set_option maxRecDepth 4000 in
set_option maxHeartbeats 4000000 in
theorem c_X2_leastTable {l : Launch} {D : va_G} {c : Nat → ClassId} {H0 : Heap} {sa : Nat × Nat × (Nat → Int32)} {w : mW} {μ : mM} (hw : mWF w) (hT : mT w μ) {p1 : Int} (hp1 : 0 ≤ p1 ∧ p1 ≤ 9) (hq0 : p1 < w.2.2.2 0) : sC (gG l D c H0 sa) mX2_leastTable 36 0 0 [.ref 87, iv p1] (mk w μ) (qI w [87007] μ (fun z μ1 => ((-2147483648) ≤ z ∧ z ≤ 2147483647) ∧ True)) := by
  refine sC.of rfl (by decide) (le_t rfl) ?_
  refine mr_lvE (lv' := [(0, .ref 87), (1, iv p1)]) rfl ?_
  refine sv_aload_n (pc := 0) dX2_leastTable_0 rfl rfl ?_
  refine mr_iconst (pc := 1) (z := 0) dX2_leastTable_1 ?_
  refine pf_X2_7 (pc := 2) dX2_leastTable_2 wF_X2_98 (A_87 hw) hT (rW (c := (-2147483648)) (d := 2147483647) (rR (x := 0)) rfl) fun μ1 u2 T3 => ?_
  refine sv_aload_n (pc := 5) dX2_leastTable_5 rfl rfl ?_
  refine mr_iload_n (pc := 6) (z := p1) dX2_leastTable_6 rfl rfl ?_
  refine mr_iconst (pc := 7) (z := 0) dX2_leastTable_7 ?_
  refine mr_iconst (pc := 8) (z := 0) dX2_leastTable_8 ?_
  refine mr_cVI (pc := 9) (c_X2_leastBelow_0 hw T3 hp1 (rW (c := (-2147483648)) (d := 2147483647) (rR (x := 0)) rfl) (rR (x := 0)) (vc_X2_leastTable_1 hq0 hp1)) (gOk _ _ _ _ _) dX2_leastTable_9 (tX2_leastBelow _ _ _ _ _) ⟨wV_X2_leastBelow, wL_X2_leastBelow⟩ wM_X2_101 (gCX2 _ _ _ _ _) rfl (A_87 hw) rfl ⟨le_t rfl, le_t rfl⟩ ⟨le_t rfl, le_t rfl⟩ rfl (le_t rfl) fun z8 μ4 T5 F6 h7 => ?_
  refine mr_istore_n (pc := 12) (lv' := [(2, iv z8), (0, .ref 87), (1, iv p1)]) dX2_leastTable_12 rfl (by decide) rfl ?_
  refine mr_iload_n (pc := 13) (z := z8) dX2_leastTable_13 rfl rfl ?_
  refine mr_ldc (pc := 14) (z := 2097152) dX2_leastTable_14 wG_X2_105 (by decide) ?_
  refine mr_iand (pc := 16) (x := z8) (y := 2097152) dX2_leastTable_16 ?_
  refine mr_gen (P := fun z => 0 ≤ z ∧ z ≤ 2097152) (rAndR (rR (x := 2097152)) rfl) fun z9 q10 h11 => ?_
  refine mr_if_eq (pc := 17) (tgt := 27) dX2_leastTable_17 (by decide) (r32 h11 rfl) (fun h22 => ?_) (fun h22 => ?_)
  · have h23 : 0 ≤ z9 ∧ z9 ≤ 0 := (vc_X2_leastTable_2 h22 h11)
    refine sv_aload_n (pc := 27) dX2_leastTable_27 rfl rfl ?_
    refine gf_X2_7 (pc := 28) dX2_leastTable_28 wF_X2_98 (A_87 hw) T5 fun z24 q25 h26 => ?_
    refine mr_iconst (pc := 31) (z := 1) dX2_leastTable_31 ?_
    refine mr_iadd (pc := 32) (x := z24) (y := 1) dX2_leastTable_32 ?_
    refine mr_wrap fun z27 h28 => ?_
    exact mr_iret dX2_leastTable_33 rfl (le_t rfl) (le_t rfl) T5 (mF.call (mF.up mF.refl (A_87 hw) u2 rfl) F6 rfl) ⟨h28, trivial⟩
  have h29 : 1 ≤ z9 ∧ z9 ≤ 2097152 := (vc_X2_leastTable_3 h22 h11)
  refine sv_aload_n (pc := 20) dX2_leastTable_20 rfl rfl ?_
  refine gf_X2_7 (pc := 21) dX2_leastTable_21 wF_X2_98 (A_87 hw) T5 fun z30 q31 h32 => ?_
  refine sv_goto (pc := 24) (tgt := 33) dX2_leastTable_24 (by decide) ?_
  exact mr_iret dX2_leastTable_33 rfl (le_t rfl) (le_t rfl) T5 (mF.call (mF.up mF.refl (A_87 hw) u2 rfl) F6 rfl) ⟨h32, trivial⟩
theorem vc_X11_least_1 {p1 z1 z8 : Int} (h0 : z8 = 0) (h1 : (z8 = 1 → 0 ≤ p1 ∧ p1 < z1)) (h2 : (z8 = 0 → p1 < 0 ∨ z1 ≤ p1)) (h3 : (-2147483648) ≤ p1 ∧ p1 ≤ 2147483647) (h4 : 0 ≤ z1 ∧ z1 ≤ 10) (h5 : 0 ≤ z8 ∧ z8 ≤ 1) : 0 ≤ z8 ∧ z8 ≤ 0 := by omega
theorem vc_X11_least_2 {n0 p1 z1 z8 : Int} (h0 : (z8 = 1 → 0 ≤ p1 ∧ p1 < z1)) (h1 : (z8 = 0 → p1 < 0 ∨ z1 ≤ p1)) (h2 : z8 = 0) (h3 : z1 = n0) (h4 : (-2147483648) ≤ p1 ∧ p1 ≤ 2147483647) (h5 : 0 ≤ z1 ∧ z1 ≤ 10) (h6 : 0 ≤ z8 ∧ z8 ≤ 0) : z8 = 0 := by omega
theorem vc_X11_least_3 {p1 z1 z8 : Int} (h0 : ¬ z8 = 0) (h1 : (z8 = 1 → 0 ≤ p1 ∧ p1 < z1)) (h2 : (z8 = 0 → p1 < 0 ∨ z1 ≤ p1)) (h3 : (-2147483648) ≤ p1 ∧ p1 ≤ 2147483647) (h4 : 0 ≤ z1 ∧ z1 ≤ 10) (h5 : 0 ≤ z8 ∧ z8 ≤ 1) : 1 ≤ z8 ∧ z8 ≤ 1 := by omega
theorem vc_X11_least_4 {n0 p1 z1 z8 : Int} (h0 : (z8 = 1 → 0 ≤ p1 ∧ p1 < z1)) (h1 : (z8 = 0 → p1 < 0 ∨ z1 ≤ p1)) (h2 : ¬ z8 = 0) (h3 : z1 = n0) (h4 : (-2147483648) ≤ p1 ∧ p1 ≤ 2147483647) (h5 : 0 ≤ z1 ∧ z1 ≤ 10) (h6 : 1 ≤ z8 ∧ z8 ≤ 1) : z8 = 1 := by omega
theorem vc_X11_least_5 {n0 p1 z1 z8 : Int} (h0 : 0 ≤ p1 ∧ p1 < z1) (h1 : z1 = n0) (h2 : (z8 = 1 → 0 ≤ p1 ∧ p1 < z1)) (h3 : (z8 = 0 → p1 < 0 ∨ z1 ≤ p1)) (h4 : (-2147483648) ≤ p1 ∧ p1 ≤ 2147483647) (h5 : 0 ≤ z1 ∧ z1 ≤ 10) (h6 : 1 ≤ z8 ∧ z8 ≤ 1) : 0 ≤ p1 ∧ p1 ≤ 9 := by omega
theorem vc_X11_least_6 {n0 p1 z1 z8 : Int} (h0 : 0 ≤ p1 ∧ p1 < z1) (h1 : z1 = n0) (h2 : (z8 = 1 → 0 ≤ p1 ∧ p1 < z1)) (h3 : (z8 = 0 → p1 < 0 ∨ z1 ≤ p1)) (h4 : 0 ≤ p1 ∧ p1 ≤ 9) (h5 : 0 ≤ z1 ∧ z1 ≤ 10) (h6 : 1 ≤ z8 ∧ z8 ≤ 1) : 1 ≤ z1 ∧ z1 ≤ 10 := by omega
theorem vc_X11_least_7 {n0 p1 z1 z8 : Int} (h0 : z1 = n0) (h1 : (z8 = 1 → 0 ≤ p1 ∧ p1 < z1)) (h2 : (z8 = 0 → p1 < 0 ∨ z1 ≤ p1)) (h3 : 0 ≤ p1 ∧ p1 < z1) (h4 : ¬ z8 = 0) (h5 : 0 ≤ p1 ∧ p1 ≤ 9) (h6 : 1 ≤ z1 ∧ z1 ≤ 10) (h7 : 1 ≤ z8 ∧ z8 ≤ 1) : p1 < n0 := by omega
set_option maxRecDepth 4000 in
set_option maxHeartbeats 4000000 in
theorem c_X11_least {l : Launch} {D : va_G} {c : Nat → ClassId} {H0 : Heap} {sa : Nat × Nat × (Nat → Int32)} {w : mW} {μ : mM} (hw : mWF w) (hT : mT w μ) {p1 : Int} (hp1 : (-2147483648) ≤ p1 ∧ p1 ≤ 2147483647) : sC (gG l D c H0 sa) mX11_least 37 0 0 [.ref 0, iv p1] (mk w μ) (qI w [87007] μ (fun z μ1 => ((-2147483648) ≤ z ∧ z ≤ 2147483647) ∧ True)) := by
  refine sC.of rfl (by decide) (le_t rfl) ?_
  refine mr_lvE (lv' := [(0, .ref 0), (1, iv p1)]) rfl ?_
  refine sv_aload_n (pc := 0) dX11_least_0 rfl rfl ?_
  refine mr_iload_n (pc := 1) (z := p1) dX11_least_1 rfl rfl ?_
  obtain ⟨z1, q2⟩ : ∃ z, μ 6 15 = z := ⟨_, rfl⟩
  have h3 : (z1 = w.2.2.2 0 ∧ 0 ≤ z1 ∧ z1 ≤ 10) := by rw [← q2]; exact hT 6 6 (A_6 hw) 15
  refine mr_cVP (pc := 2) (c_X11_isDomain hw hT hp1 q2) (gOk _ _ _ _ _) dX11_least_2 (tX11_isDomain _ _ _ _ _) ⟨wV_X11_isDomain, wL_X11_isDomain⟩ wM_X11_105 (gCX11 _ _ _ _ _) rfl (A_0 hw) rfl ⟨le_t rfl, le_t rfl⟩ ⟨le_t rfl, le_t rfl⟩ rfl (le_t rfl) fun z8 h7 => ?_
  refine mr_if_eq (pc := 5) (tgt := 19) dX11_least_5 (by decide) (r32 h7.1 rfl) (fun h20 => ?_) (fun h20 => ?_)
  · have h21 : 0 ≤ z8 ∧ z8 ≤ 0 := (vc_X11_least_1 h20 h7.2.1 h7.2.2.1 hp1 h3.2 h7.1)
    have h22 : p1 < 0 ∨ z1 ≤ p1 := (h7.2.2.1 (vc_X11_least_2 h7.2.1 h7.2.2.1 h20 h3.1 hp1 h3.2 h21))
    refine mr_iconst (pc := 19) (z := (-1)) dX11_least_19 ?_
    exact mr_iret dX11_least_20 rfl (le_t rfl) (le_t rfl) hT mF.refl ⟨(rW (c := (-2147483648)) (d := 2147483647) (rR (x := (-1))) rfl), trivial⟩
  have h23 : 1 ≤ z8 ∧ z8 ≤ 1 := (vc_X11_least_3 h20 h7.2.1 h7.2.2.1 hp1 h3.2 h7.1)
  have h24 : 0 ≤ p1 ∧ p1 < z1 := (h7.2.1 (vc_X11_least_4 h7.2.1 h7.2.2.1 h20 h3.1 hp1 h3.2 h23))
  have h25 : 0 ≤ p1 ∧ p1 ≤ 9 := (vc_X11_least_5 h24 h3.1 h7.2.1 h7.2.2.1 hp1 h3.2 h23)
  have h26 : 1 ≤ z1 ∧ z1 ≤ 10 := (vc_X11_least_6 h24 h3.1 h7.2.1 h7.2.2.1 h25 h3.2 h23)
  refine sv_aload_n (pc := 8) dX11_least_8 rfl rfl ?_
  refine gf_X11_8 (pc := 9) dX11_least_9 wF_X11_65 (A_0 hw) hT ?_
  refine mr_iload_n (pc := 12) (z := p1) dX11_least_12 rfl rfl ?_
  refine mr_cVI (pc := 13) (c_X2_leastTable hw hT h25 (vc_X11_least_7 h3.1 h7.2.1 h7.2.2.1 h24 h20 h25 h26 h23)) (gOk _ _ _ _ _) dX11_least_13 (tX2_leastTable _ _ _ _ _) ⟨wV_X2_leastTable, wL_X2_leastTable⟩ wM_X11_385 (gCX2 _ _ _ _ _) rfl (A_87 hw) rfl ⟨le_t rfl, le_t rfl⟩ ⟨le_t rfl, le_t rfl⟩ rfl (le_t rfl) fun z31 μ27 T28 F29 h30 => ?_
  refine sv_goto (pc := 16) (tgt := 20) dX11_least_16 (by decide) ?_
  exact mr_iret dX11_least_20 rfl (le_t rfl) (le_t rfl) T28 (mF.call mF.refl F29 rfl) ⟨h30.1, trivial⟩
theorem vc_X10_tieBetween_end_1 {z209 : Int} (h0 : (21 - z209) < ((0 : Nat) : Int)) (h1 : 0 ≤ z209 ∧ z209 ≤ 20) : False := by omega
theorem vc_X10_tieBetween_end_2 {n1 z209 z217 : Int} (h0 : z217 = n1) (h1 : z217 ≤ z209) (h2 : 0 ≤ z209 ∧ z209 ≤ 20) (h3 : 0 ≤ z217 ∧ z217 ≤ 20) : (-1 : Int) < n1 := by omega
theorem vc_X10_tieBetween_end_3 {n1 z209 z217 : Int} (h0 : z209 < z217) (h1 : z217 = n1) (h2 : 0 ≤ z209 ∧ z209 ≤ 20) (h3 : 0 ≤ z217 ∧ z217 ≤ 20) : 0 ≤ z209 ∧ z209 ≤ 19 := by omega
theorem vc_X10_tieBetween_end_4 {n1 z209 z217 : Int} (h0 : z209 < z217) (h1 : z217 = n1) (h2 : 0 ≤ z209 ∧ z209 ≤ 19) (h3 : 0 ≤ z217 ∧ z217 ≤ 20) : 1 ≤ z217 ∧ z217 ≤ 20 := by omega
theorem vc_X10_tieBetween_end_5 {n1 z209 z217 : Int} (h0 : z217 = n1) (h1 : z209 < z217) (h2 : 0 ≤ z209 ∧ z209 ≤ 19) (h3 : 1 ≤ z217 ∧ z217 ≤ 20) : z209 < n1 := by omega
theorem vc_X10_tieBetween_end_6 {N n1 z209 z217 : Int} (h0 : (21 - z209) < N + 1) (h1 : z209 < z217) (h2 : z217 = n1) (h3 : 0 ≤ z209 ∧ z209 ≤ 19) (h4 : 1 ≤ z217 ∧ z217 ≤ 20) : (21 - (z209 + 1)) < N := by omega
theorem vc_X10_tieBetween_end_7 {n0 p1 p2 z226 : Int} (h0 : z226 = p2) (h1 : z226 < n0) (h2 : ¬ z226 = p1) (h3 : (-2147483648) ≤ p1 ∧ p1 ≤ 2147483647) (h4 : (-2147483648) ≤ p2 ∧ p2 ≤ 2147483647) (h5 : 0 ≤ z226 ∧ z226 ≤ 9) : 0 ≤ p2 ∧ p2 ≤ 9 := by omega
theorem vc_X10_tieBetween_end_8 {n0 p1 z226 z233 : Int} (h0 : z233 = p1) (h1 : ¬ z226 = p1) (h2 : z233 < n0) (h3 : (-2147483648) ≤ p1 ∧ p1 ≤ 2147483647) (h4 : 0 ≤ z226 ∧ z226 ≤ 9) (h5 : 0 ≤ z233 ∧ z233 ≤ 9) : 0 ≤ p1 ∧ p1 ≤ 9 := by omega
theorem vc_X10_tieBetween_end_9 {n0 p1 p2 z226 z233 : Int} (h0 : z226 < n0) (h1 : ¬ z226 = p1) (h2 : z226 = p2) (h3 : z233 < n0) (h4 : z233 = p1) (h5 : 0 ≤ p1 ∧ p1 ≤ 9) (h6 : 0 ≤ p2 ∧ p2 ≤ 9) (h7 : 0 ≤ z226 ∧ z226 ≤ 9) (h8 : 0 ≤ z233 ∧ z233 ≤ 9) : z226 = p1 ∨ z233 = p1 := by omega
theorem vc_X10_tieBetween_end_10 {n0 p1 z226 : Int} (h0 : z226 = p1) (h1 : z226 < n0) (h2 : (-2147483648) ≤ p1 ∧ p1 ≤ 2147483647) (h3 : 0 ≤ z226 ∧ z226 ≤ 9) : 0 ≤ p1 ∧ p1 ≤ 9 := by omega
theorem vc_X10_tieBetween_end_11 {n0 p2 z240 : Int} (h0 : z240 = p2) (h1 : z240 < n0) (h2 : (-2147483648) ≤ p2 ∧ p2 ≤ 2147483647) (h3 : 0 ≤ z240 ∧ z240 ≤ 9) : 0 ≤ p2 ∧ p2 ≤ 9 := by omega
theorem vc_X10_tieBetween_end_12 {n0 p1 p2 z226 z240 : Int} (h0 : z226 < n0) (h1 : z226 = p1) (h2 : z240 < n0) (h3 : z240 = p2) (h4 : 0 ≤ p1 ∧ p1 ≤ 9) (h5 : 0 ≤ p2 ∧ p2 ≤ 9) (h6 : 0 ≤ z226 ∧ z226 ≤ 9) (h7 : 0 ≤ z240 ∧ z240 ≤ 9) : z226 = p1 ∨ z240 = p1 := by omega
theorem vc_X10_tieBetween_end_13 {n0 p1 p2 z226 z240 : Int} (h0 : z226 = p2) (h1 : z226 < n0) (h2 : z226 = p1) (h3 : ¬ z240 = p2) (h4 : 0 ≤ p1 ∧ p1 ≤ 9) (h5 : (-2147483648) ≤ p2 ∧ p2 ≤ 2147483647) (h6 : 0 ≤ z226 ∧ z226 ≤ 9) (h7 : 0 ≤ z240 ∧ z240 ≤ 9) : 0 ≤ p2 ∧ p2 ≤ 9 := by omega
theorem vc_X10_tieBetween_end_14 {n0 p1 p2 z226 z240 : Int} (h0 : z226 < n0) (h1 : z226 = p1) (h2 : z240 < n0) (h3 : ¬ z240 = p2) (h4 : z226 = p2) (h5 : z240 = p1) (h6 : 0 ≤ p1 ∧ p1 ≤ 9) (h7 : 0 ≤ p2 ∧ p2 ≤ 9) (h8 : 0 ≤ z226 ∧ z226 ≤ 9) (h9 : 0 ≤ z240 ∧ z240 ≤ 9) : z226 = p1 ∨ z240 = p1 := by omega
theorem vc_X10_tieBetween_end_15  : (21 - 0) < ((22 : Nat) : Int) := by omega
set_option maxRecDepth 4000 in
set_option maxHeartbeats 4000000 in
theorem c_X10_tieBetween_end {l : Launch} {D : va_G} {c : Nat → ClassId} {H0 : Heap} {sa : Nat × Nat × (Nat → Int32)} {w : mW} {μ : mM} (hw : mWF w) (hT : mT w μ) {p1 : Int} (hp1 : (-2147483648) ≤ p1 ∧ p1 ≤ 2147483647) {p2 : Int} (hp2 : (-2147483648) ≤ p2 ∧ p2 ≤ 2147483647) : sC (gG l D c H0 sa) mX10_tieBetween 1 0 0 [.ref 6, iv p1, iv p2] (mk w μ) (qP w μ (fun z => ((-1) ≤ z ∧ z ≤ 19) ∧ (z < w.2.2.2 1) ∧ (z < 0 ∨ ∃ b : Nat, μ 11 z.toNat = (b : Int) ∧ (μ b 0 = p1 ∨ μ b 1 = p1)) ∧ True)) := by
  refine sC.of rfl (by decide) (le_t rfl) ?_
  refine mr_lvE (lv' := [(0, .ref 6), (1, iv p1), (2, iv p2)]) rfl ?_
  refine mr_iconst (pc := 0) (z := 0) dX10_tieBetween_0 ?_
  refine mr_istore_n (pc := 1) (lv' := [(3, iv 0), (0, .ref 6), (1, iv p1), (2, iv p2)]) dX10_tieBetween_1 rfl (by decide) rfl ?_
  have L210 : ∀ (nL210 : Nat) (z209 : Int), True → (0 ≤ z209 ∧ z209 ≤ 20) → (21 - z209) < (nL210 : Int) → sV (gG l D c H0 sa) mX10_tieBetween (sRm 1 0 0) (sZ (gG l D c H0 sa) 0 0 (qP w μ (fun z => ((-1) ≤ z ∧ z ≤ 19) ∧ (z < w.2.2.2 1) ∧ (z < 0 ∨ ∃ b : Nat, μ 11 z.toNat = (b : Int) ∧ (μ b 0 = p1 ∨ μ b 1 = p1)) ∧ True))) 2 [(0, .ref 6), (1, iv p1), (2, iv p2), (3, iv z209)] [] (mk w μ) 0 0 := by
    intro nL210
    induction nL210 with
    | zero => intro z209 _ h211 h215; exact ((vc_X10_tieBetween_end_1 h215 h211)).elim
    | succ nL210 ih216 =>
      intro z209 _ h211 h215
      refine mr_iload_n (pc := 2) (z := z209) dX10_tieBetween_2 rfl rfl ?_
      refine sv_aload_n (pc := 3) dX10_tieBetween_3 rfl rfl ?_
      refine gf_X10_16 (pc := 4) dX10_tieBetween_4 wF_X10_72 (A_6 hw) hT fun z217 q218 h219 => ?_
      refine mr_icmp_ge (pc := 7) (tgt := 62) dX10_tieBetween_7 (by decide) (r32 h211 rfl) (r32 h219.2 rfl) (fun h220 => ?_) (fun h220 => ?_)
      · refine mr_iconst (pc := 62) (z := (-1)) dX10_tieBetween_62 ?_
        exact mr_iretP dX10_tieBetween_63 rfl (le_t rfl) (le_t rfl) ⟨(rW (c := (-1)) (d := 19) (rR (x := (-1))) rfl), (vc_X10_tieBetween_end_2 h219.1 h220 h211 h219.2), (Or.inl (by decide)), trivial⟩
      have h221 : 0 ≤ z209 ∧ z209 ≤ 19 := (vc_X10_tieBetween_end_3 h220 h219.1 h211 h219.2)
      have h222 : 1 ≤ z217 ∧ z217 ≤ 20 := (vc_X10_tieBetween_end_4 h220 h219.1 h221 h219.2)
      refine sv_aload_n (pc := 10) dX10_tieBetween_10 rfl rfl ?_
      refine gf_X10_4 (pc := 11) dX10_tieBetween_11 wF_X10_29 (A_6 hw) hT ?_
      refine mr_iload_n (pc := 14) (z := z209) dX10_tieBetween_14 rfl rfl ?_
      refine la_11 (pc := 15) dX10_tieBetween_15 (A_11 hw) hT (rIx (n := 20) h221 rfl) (vc_X10_tieBetween_end_5 h219.1 h220 h221 h222) fun b223 q224 A225 => ?_
      refine mr_astore (pc := 16) (lv' := [(4, .ref b223), (0, .ref 6), (1, iv p1), (2, iv p2), (3, iv z209)]) dX10_tieBetween_16 (by decide) rfl ?_
      refine sv_aload (pc := 18) dX10_tieBetween_18 rfl ?_
      refine gf_X9_0 (pc := 20) dX10_tieBetween_20 wF_X10_78 A225 hT fun z226 q227 h228 => ?_
      have h229 : 0 ≤ z226 ∧ z226 ≤ 9 := ⟨h228.1, h228.2.1⟩
      refine mr_iload_n (pc := 23) (z := p1) dX10_tieBetween_23 rfl rfl ?_
      refine mr_icmp_ne (pc := 24) (tgt := 36) dX10_tieBetween_24 (by decide) (r32 h229 rfl) hp1 (fun h230 => ?_) (fun h230 => ?_)
      · refine sv_aload (pc := 36) dX10_tieBetween_36 rfl ?_
        refine gk_X9_0 (pc := 38) dX10_tieBetween_38 wF_X10_78 A225 q227 ?_
        refine mr_iload_n (pc := 41) (z := p2) dX10_tieBetween_41 rfl rfl ?_
        refine mr_icmp_ne (pc := 42) (tgt := 56) dX10_tieBetween_42 (by decide) (r32 h229 rfl) hp2 (fun h231 => ?_) (fun h231 => ?_)
        · refine mr_iinc (pc := 56) (lv' := [(3, iv (z209 + 1)), (4, .ref b223), (0, .ref 6), (1, iv p1), (2, iv p2)]) dX10_tieBetween_56 rfl (by decide) rfl ?_
          refine sv_goto (pc := 59) (tgt := 2) dX10_tieBetween_59 (by decide) ?_
          refine mr_lvS (lv' := [(0, .ref 6), (1, iv p1), (2, iv p2), (3, iv (z209 + 1))]) (List.forall_mem_cons.mpr ⟨rfl, List.forall_mem_cons.mpr ⟨rfl, List.forall_mem_cons.mpr ⟨rfl, List.forall_mem_cons.mpr ⟨rfl, fun _ h => absurd h List.not_mem_nil⟩⟩⟩⟩) ?_
          exact ih216 (z209 + 1) trivial (rW (c := 0) (d := 20) (rAdd (e := 1) (f := 20) h221 (rR (x := 1)) rfl) rfl) (vc_X10_tieBetween_end_6 (nS h215) h220 h219.1 h221 h222)
        have h232 : 0 ≤ p2 ∧ p2 ≤ 9 := (vc_X10_tieBetween_end_7 h231 h228.2.2 h230 hp1 hp2 h229)
        refine sv_aload (pc := 45) dX10_tieBetween_45 rfl ?_
        refine gf_X9_1 (pc := 47) dX10_tieBetween_47 wF_X10_81 A225 hT fun z233 q234 h235 => ?_
        have h236 : 0 ≤ z233 ∧ z233 ≤ 9 := ⟨h235.1, h235.2.1⟩
        refine mr_iload_n (pc := 50) (z := p1) dX10_tieBetween_50 rfl rfl ?_
        refine mr_icmp_ne (pc := 51) (tgt := 56) dX10_tieBetween_51 (by decide) (r32 h236 rfl) hp1 (fun h237 => ?_) (fun h237 => ?_)
        · refine mr_iinc (pc := 56) (lv' := [(3, iv (z209 + 1)), (4, .ref b223), (0, .ref 6), (1, iv p1), (2, iv p2)]) dX10_tieBetween_56 rfl (by decide) rfl ?_
          refine sv_goto (pc := 59) (tgt := 2) dX10_tieBetween_59 (by decide) ?_
          refine mr_lvS (lv' := [(0, .ref 6), (1, iv p1), (2, iv p2), (3, iv (z209 + 1))]) (List.forall_mem_cons.mpr ⟨rfl, List.forall_mem_cons.mpr ⟨rfl, List.forall_mem_cons.mpr ⟨rfl, List.forall_mem_cons.mpr ⟨rfl, fun _ h => absurd h List.not_mem_nil⟩⟩⟩⟩) ?_
          exact ih216 (z209 + 1) trivial (rW (c := 0) (d := 20) (rAdd (e := 1) (f := 20) h221 (rR (x := 1)) rfl) rfl) (vc_X10_tieBetween_end_6 (nS h215) h220 h219.1 h221 h222)
        have h238 : 0 ≤ p1 ∧ p1 ≤ 9 := (vc_X10_tieBetween_end_8 h237 h230 h235.2.2 hp1 h229 h236)
        refine mr_iload_n (pc := 54) (z := z209) dX10_tieBetween_54 rfl rfl ?_
        exact mr_iretP dX10_tieBetween_55 rfl (le_t rfl) (le_t rfl) ⟨(rW (c := (-1)) (d := 19) h221 rfl), (vc_X10_tieBetween_end_5 h219.1 h220 h221 h222), (Or.inr ⟨b223, q224, by rw [q227, q234]; exact (vc_X10_tieBetween_end_9 h228.2.2 h230 h231 h235.2.2 h237 h238 h232 h229 h236)⟩), trivial⟩
      have h239 : 0 ≤ p1 ∧ p1 ≤ 9 := (vc_X10_tieBetween_end_10 h230 h228.2.2 hp1 h229)
      refine sv_aload (pc := 27) dX10_tieBetween_27 rfl ?_
      refine gf_X9_1 (pc := 29) dX10_tieBetween_29 wF_X10_81 A225 hT fun z240 q241 h242 => ?_
      have h243 : 0 ≤ z240 ∧ z240 ≤ 9 := ⟨h242.1, h242.2.1⟩
      refine mr_iload_n (pc := 32) (z := p2) dX10_tieBetween_32 rfl rfl ?_
      refine mr_icmp_eq (pc := 33) (tgt := 54) dX10_tieBetween_33 (by decide) (r32 h243 rfl) hp2 (fun h244 => ?_) (fun h244 => ?_)
      · have h245 : 0 ≤ p2 ∧ p2 ≤ 9 := (vc_X10_tieBetween_end_11 h244 h242.2.2 hp2 h243)
        refine mr_iload_n (pc := 54) (z := z209) dX10_tieBetween_54 rfl rfl ?_
        exact mr_iretP dX10_tieBetween_55 rfl (le_t rfl) (le_t rfl) ⟨(rW (c := (-1)) (d := 19) h221 rfl), (vc_X10_tieBetween_end_5 h219.1 h220 h221 h222), (Or.inr ⟨b223, q224, by rw [q227, q241]; exact (vc_X10_tieBetween_end_12 h228.2.2 h230 h242.2.2 h244 h239 h245 h229 h243)⟩), trivial⟩
      refine sv_aload (pc := 36) dX10_tieBetween_36 rfl ?_
      refine gk_X9_0 (pc := 38) dX10_tieBetween_38 wF_X10_78 A225 q227 ?_
      refine mr_iload_n (pc := 41) (z := p2) dX10_tieBetween_41 rfl rfl ?_
      refine mr_icmp_ne (pc := 42) (tgt := 56) dX10_tieBetween_42 (by decide) (r32 h229 rfl) hp2 (fun h246 => ?_) (fun h246 => ?_)
      · refine mr_iinc (pc := 56) (lv' := [(3, iv (z209 + 1)), (4, .ref b223), (0, .ref 6), (1, iv p1), (2, iv p2)]) dX10_tieBetween_56 rfl (by decide) rfl ?_
        refine sv_goto (pc := 59) (tgt := 2) dX10_tieBetween_59 (by decide) ?_
        refine mr_lvS (lv' := [(0, .ref 6), (1, iv p1), (2, iv p2), (3, iv (z209 + 1))]) (List.forall_mem_cons.mpr ⟨rfl, List.forall_mem_cons.mpr ⟨rfl, List.forall_mem_cons.mpr ⟨rfl, List.forall_mem_cons.mpr ⟨rfl, fun _ h => absurd h List.not_mem_nil⟩⟩⟩⟩) ?_
        exact ih216 (z209 + 1) trivial (rW (c := 0) (d := 20) (rAdd (e := 1) (f := 20) h221 (rR (x := 1)) rfl) rfl) (vc_X10_tieBetween_end_6 (nS h215) h220 h219.1 h221 h222)
      have h247 : 0 ≤ p2 ∧ p2 ≤ 9 := (vc_X10_tieBetween_end_13 h246 h228.2.2 h230 h244 h239 hp2 h229 h243)
      refine sv_aload (pc := 45) dX10_tieBetween_45 rfl ?_
      refine gk_X9_1 (pc := 47) dX10_tieBetween_47 wF_X10_81 A225 q241 ?_
      refine mr_iload_n (pc := 50) (z := p1) dX10_tieBetween_50 rfl rfl ?_
      refine mr_icmp_ne (pc := 51) (tgt := 56) dX10_tieBetween_51 (by decide) (r32 h243 rfl) (r32 h239 rfl) (fun h248 => ?_) (fun h248 => ?_)
      · refine mr_iinc (pc := 56) (lv' := [(3, iv (z209 + 1)), (4, .ref b223), (0, .ref 6), (1, iv p1), (2, iv p2)]) dX10_tieBetween_56 rfl (by decide) rfl ?_
        refine sv_goto (pc := 59) (tgt := 2) dX10_tieBetween_59 (by decide) ?_
        refine mr_lvS (lv' := [(0, .ref 6), (1, iv p1), (2, iv p2), (3, iv (z209 + 1))]) (List.forall_mem_cons.mpr ⟨rfl, List.forall_mem_cons.mpr ⟨rfl, List.forall_mem_cons.mpr ⟨rfl, List.forall_mem_cons.mpr ⟨rfl, fun _ h => absurd h List.not_mem_nil⟩⟩⟩⟩) ?_
        exact ih216 (z209 + 1) trivial (rW (c := 0) (d := 20) (rAdd (e := 1) (f := 20) h221 (rR (x := 1)) rfl) rfl) (vc_X10_tieBetween_end_6 (nS h215) h220 h219.1 h221 h222)
      refine mr_iload_n (pc := 54) (z := z209) dX10_tieBetween_54 rfl rfl ?_
      exact mr_iretP dX10_tieBetween_55 rfl (le_t rfl) (le_t rfl) ⟨(rW (c := (-1)) (d := 19) h221 rfl), (vc_X10_tieBetween_end_5 h219.1 h220 h221 h222), (Or.inr ⟨b223, q224, by rw [q227, q241]; exact (vc_X10_tieBetween_end_14 h228.2.2 h230 h242.2.2 h244 h246 h248 h239 h247 h229 h243)⟩), trivial⟩
  refine mr_lvS (lv' := [(0, .ref 6), (1, iv p1), (2, iv p2), (3, iv 0)]) (List.forall_mem_cons.mpr ⟨rfl, List.forall_mem_cons.mpr ⟨rfl, List.forall_mem_cons.mpr ⟨rfl, List.forall_mem_cons.mpr ⟨rfl, fun _ h => absurd h List.not_mem_nil⟩⟩⟩⟩) ?_
  exact L210 22 0 trivial (rW (c := 0) (d := 20) (rR (x := 0)) rfl) vc_X10_tieBetween_end_15
theorem vc_X9_sideOf_e_1 {n0 p1 z1 z5 : Int} (h0 : ¬ p1 = z5) (h1 : z5 < n0) (h2 : z1 = p1 ∨ z5 = p1) (h3 : ¬ p1 = z1) (h4 : z1 < n0) (h5 : (-2147483648) ≤ p1 ∧ p1 ≤ 2147483647) (h6 : 0 ≤ z1 ∧ z1 ≤ 9) (h7 : 0 ≤ z5 ∧ z5 ≤ 9) : False := by omega
theorem vc_X9_sideOf_e_2 {n0 p1 z1 z5 : Int} (h0 : p1 = z5) (h1 : z5 < n0) (h2 : z1 = p1 ∨ z5 = p1) (h3 : ¬ p1 = z1) (h4 : (-2147483648) ≤ p1 ∧ p1 ≤ 2147483647) (h5 : 0 ≤ z1 ∧ z1 ≤ 9) (h6 : 0 ≤ z5 ∧ z5 ≤ 9) : 0 ≤ p1 ∧ p1 ≤ 9 := by omega
theorem vc_X9_sideOf_e_3 {n0 p1 z1 z5 : Int} (h0 : p1 = z1) (h1 : z1 < n0) (h2 : z1 = p1 ∨ z5 = p1) (h3 : (-2147483648) ≤ p1 ∧ p1 ≤ 2147483647) (h4 : 0 ≤ z1 ∧ z1 ≤ 9) (h5 : 0 ≤ z5 ∧ z5 ≤ 9) : 0 ≤ p1 ∧ p1 ≤ 9 := by omega
set_option maxRecDepth 4000 in
set_option maxHeartbeats 4000000 in
theorem c_X9_sideOf_e {l : Launch} {D : va_G} {c : Nat → ClassId} {H0 : Heap} {sa : Nat × Nat × (Nat → Int32)} {w : mW} {μ : mM} (hw : mWF w) (hT : mT w μ) {a0 : Nat} (hA0 : mAt w a0 220) {p1 : Int} (hp1 : (-2147483648) ≤ p1 ∧ p1 ≤ 2147483647) (hend : μ a0 0 = p1 ∨ μ a0 1 = p1) : sC (gG l D c H0 sa) mX9_sideOf 1 0 0 [.ref a0, iv p1] (mk w μ) (qP w μ (fun z => (0 ≤ z ∧ z ≤ 1) ∧ True)) := by
  refine sC.of rfl (by decide) (le_t rfl) ?_
  obtain ⟨z1, q2⟩ : ∃ z, μ a0 0 = z := ⟨_, rfl⟩
  have h3 : (0 ≤ z1 ∧ z1 ≤ 9 ∧ z1 < w.2.2.2 0) := by rw [← q2]; exact hT a0 220 hA0 0
  have h4 : 0 ≤ z1 ∧ z1 ≤ 9 := ⟨h3.1, h3.2.1⟩
  obtain ⟨z5, q6⟩ : ∃ z, μ a0 1 = z := ⟨_, rfl⟩
  have h7 : (0 ≤ z5 ∧ z5 ≤ 9 ∧ z5 < w.2.2.2 0) := by rw [← q6]; exact hT a0 220 hA0 1
  have h8 : 0 ≤ z5 ∧ z5 ≤ 9 := ⟨h7.1, h7.2.1⟩
  refine mr_lvE (lv' := [(0, .ref a0), (1, iv p1)]) rfl ?_
  have h18 : z1 = p1 ∨ z5 = p1 := by have h := hend; rw [q2, q6] at h; exact h
  refine mr_iload_n (pc := 0) (z := p1) dX9_sideOf_0 rfl rfl ?_
  refine sv_aload_n (pc := 1) dX9_sideOf_1 rfl rfl ?_
  refine gk_X9_0 (pc := 2) dX9_sideOf_2 wF_X9_9 hA0 q2 ?_
  refine mr_icmp_ne (pc := 5) (tgt := 10) dX9_sideOf_5 (by decide) hp1 (r32 h4 rfl) (fun h19 => ?_) (fun h19 => ?_)
  · refine mr_iload_n (pc := 10) (z := p1) dX9_sideOf_10 rfl rfl ?_
    refine sv_aload_n (pc := 11) dX9_sideOf_11 rfl rfl ?_
    refine gk_X9_1 (pc := 12) dX9_sideOf_12 wF_X9_15 hA0 q6 ?_
    refine mr_icmp_ne (pc := 15) (tgt := 22) dX9_sideOf_15 (by decide) hp1 (r32 h8 rfl) (fun h => ((vc_X9_sideOf_e_1 h h7.2.2 h18 h19 h3.2.2 hp1 h4 h8)).elim) (fun h20 => ?_)
    have h21 : 0 ≤ p1 ∧ p1 ≤ 9 := (vc_X9_sideOf_e_2 h20 h7.2.2 h18 h19 hp1 h4 h8)
    refine mr_iconst (pc := 18) (z := 1) dX9_sideOf_18 ?_
    refine sv_goto (pc := 19) (tgt := 23) dX9_sideOf_19 (by decide) ?_
    exact mr_iretP dX9_sideOf_23 rfl (le_t rfl) (le_t rfl) ⟨(rW (c := 0) (d := 1) (rR (x := 1)) rfl), trivial⟩
  have h22 : 0 ≤ p1 ∧ p1 ≤ 9 := (vc_X9_sideOf_e_3 h19 h3.2.2 h18 hp1 h4 h8)
  refine mr_iconst (pc := 8) (z := 0) dX9_sideOf_8 ?_
  exact mr_iretP dX9_sideOf_9 rfl (le_t rfl) (le_t rfl) ⟨(rW (c := 0) (d := 1) (rR (x := 0)) rfl), trivial⟩
theorem vc_X11_judge_1 {p1 : Int} (h0 : p1 < 0) (h1 : (-2147483648) ≤ p1 ∧ p1 ≤ 2147483647) : (-2147483648) ≤ p1 ∧ p1 ≤ (-1) := by omega
theorem vc_X11_judge_2 {p1 : Int} (h0 : 0 ≤ p1) (h1 : (-2147483648) ≤ p1 ∧ p1 ≤ 2147483647) : 0 ≤ p1 ∧ p1 ≤ 2147483647 := by omega
theorem vc_X11_judge_3 {n2 p1 z4 : Int} (h0 : p1 < z4) (h1 : 0 ≤ p1) (h2 : z4 = n2) (h3 : 0 ≤ p1 ∧ p1 ≤ 2147483647) (h4 : 0 ≤ z4 ∧ z4 ≤ 12) : 0 ≤ p1 ∧ p1 ≤ 11 := by omega
theorem vc_X11_judge_4 {n2 p1 z4 : Int} (h0 : p1 < z4) (h1 : 0 ≤ p1) (h2 : z4 = n2) (h3 : 0 ≤ p1 ∧ p1 ≤ 11) (h4 : 0 ≤ z4 ∧ z4 ≤ 12) : 1 ≤ z4 ∧ z4 ≤ 12 := by omega
theorem vc_X11_judge_5 {p2 z10 z17 : Int} (h0 : z17 = 0) (h1 : (z17 = 1 → 0 ≤ p2 ∧ p2 < z10)) (h2 : (z17 = 0 → p2 < 0 ∨ z10 ≤ p2)) (h3 : (-2147483648) ≤ p2 ∧ p2 ≤ 2147483647) (h4 : 0 ≤ z10 ∧ z10 ≤ 10) (h5 : 0 ≤ z17 ∧ z17 ≤ 1) : 0 ≤ z17 ∧ z17 ≤ 0 := by omega
theorem vc_X11_judge_6 {n0 p2 z10 z17 : Int} (h0 : (z17 = 1 → 0 ≤ p2 ∧ p2 < z10)) (h1 : (z17 = 0 → p2 < 0 ∨ z10 ≤ p2)) (h2 : z17 = 0) (h3 : z10 = n0) (h4 : (-2147483648) ≤ p2 ∧ p2 ≤ 2147483647) (h5 : 0 ≤ z10 ∧ z10 ≤ 10) (h6 : 0 ≤ z17 ∧ z17 ≤ 0) : z17 = 0 := by omega
theorem vc_X11_judge_7 {p2 z10 z17 : Int} (h0 : ¬ z17 = 0) (h1 : (z17 = 1 → 0 ≤ p2 ∧ p2 < z10)) (h2 : (z17 = 0 → p2 < 0 ∨ z10 ≤ p2)) (h3 : (-2147483648) ≤ p2 ∧ p2 ≤ 2147483647) (h4 : 0 ≤ z10 ∧ z10 ≤ 10) (h5 : 0 ≤ z17 ∧ z17 ≤ 1) : 1 ≤ z17 ∧ z17 ≤ 1 := by omega
theorem vc_X11_judge_8 {n0 p2 z10 z17 : Int} (h0 : (z17 = 1 → 0 ≤ p2 ∧ p2 < z10)) (h1 : (z17 = 0 → p2 < 0 ∨ z10 ≤ p2)) (h2 : ¬ z17 = 0) (h3 : z10 = n0) (h4 : (-2147483648) ≤ p2 ∧ p2 ≤ 2147483647) (h5 : 0 ≤ z10 ∧ z10 ≤ 10) (h6 : 1 ≤ z17 ∧ z17 ≤ 1) : z17 = 1 := by omega
theorem vc_X11_judge_9 {n0 p2 z10 z17 : Int} (h0 : 0 ≤ p2 ∧ p2 < z10) (h1 : z10 = n0) (h2 : (z17 = 1 → 0 ≤ p2 ∧ p2 < z10)) (h3 : (z17 = 0 → p2 < 0 ∨ z10 ≤ p2)) (h4 : (-2147483648) ≤ p2 ∧ p2 ≤ 2147483647) (h5 : 0 ≤ z10 ∧ z10 ≤ 10) (h6 : 1 ≤ z17 ∧ z17 ≤ 1) : 0 ≤ p2 ∧ p2 ≤ 9 := by omega
theorem vc_X11_judge_10 {p3 z10 z28 : Int} (h0 : ¬ z28 = 0) (h1 : (z28 = 1 → 0 ≤ p3 ∧ p3 < z10)) (h2 : (z28 = 0 → p3 < 0 ∨ z10 ≤ p3)) (h3 : (-2147483648) ≤ p3 ∧ p3 ≤ 2147483647) (h4 : 0 ≤ z10 ∧ z10 ≤ 10) (h5 : 0 ≤ z28 ∧ z28 ≤ 1) : 1 ≤ z28 ∧ z28 ≤ 1 := by omega
theorem vc_X11_judge_11 {n0 p2 p3 z10 z17 z28 : Int} (h0 : (z28 = 1 → 0 ≤ p3 ∧ p3 < z10)) (h1 : (z28 = 0 → p3 < 0 ∨ z10 ≤ p3)) (h2 : ¬ z28 = 0) (h3 : z10 = n0) (h4 : (z17 = 1 → 0 ≤ p2 ∧ p2 < z10)) (h5 : (z17 = 0 → p2 < 0 ∨ z10 ≤ p2)) (h6 : 0 ≤ p2 ∧ p2 < z10) (h7 : 0 ≤ p2 ∧ p2 ≤ 9) (h8 : (-2147483648) ≤ p3 ∧ p3 ≤ 2147483647) (h9 : 0 ≤ z10 ∧ z10 ≤ 10) (h10 : 1 ≤ z17 ∧ z17 ≤ 1) (h11 : 1 ≤ z28 ∧ z28 ≤ 1) : z28 = 1 := by omega
theorem vc_X11_judge_12 {n0 p2 p3 z10 z17 z28 : Int} (h0 : 0 ≤ p3 ∧ p3 < z10) (h1 : z10 = n0) (h2 : (z17 = 1 → 0 ≤ p2 ∧ p2 < z10)) (h3 : (z17 = 0 → p2 < 0 ∨ z10 ≤ p2)) (h4 : 0 ≤ p2 ∧ p2 < z10) (h5 : (z28 = 1 → 0 ≤ p3 ∧ p3 < z10)) (h6 : (z28 = 0 → p3 < 0 ∨ z10 ≤ p3)) (h7 : 0 ≤ p2 ∧ p2 ≤ 9) (h8 : (-2147483648) ≤ p3 ∧ p3 ≤ 2147483647) (h9 : 0 ≤ z10 ∧ z10 ≤ 10) (h10 : 1 ≤ z17 ∧ z17 ≤ 1) (h11 : 1 ≤ z28 ∧ z28 ≤ 1) : 0 ≤ p3 ∧ p3 ≤ 9 := by omega
theorem vc_X11_judge_13 {n0 p2 p3 z10 z17 z28 : Int} (h0 : 0 ≤ p3 ∧ p3 < z10) (h1 : z10 = n0) (h2 : (z17 = 1 → 0 ≤ p2 ∧ p2 < z10)) (h3 : (z17 = 0 → p2 < 0 ∨ z10 ≤ p2)) (h4 : 0 ≤ p2 ∧ p2 < z10) (h5 : (z28 = 1 → 0 ≤ p3 ∧ p3 < z10)) (h6 : (z28 = 0 → p3 < 0 ∨ z10 ≤ p3)) (h7 : 0 ≤ p2 ∧ p2 ≤ 9) (h8 : 0 ≤ p3 ∧ p3 ≤ 9) (h9 : 0 ≤ z10 ∧ z10 ≤ 10) (h10 : 1 ≤ z17 ∧ z17 ≤ 1) (h11 : 1 ≤ z28 ∧ z28 ≤ 1) : 1 ≤ z10 ∧ z10 ≤ 10 := by omega
theorem vc_X11_judge_14 {n1 z38 : Int} (h0 : 0 ≤ z38) (h1 : z38 < n1) (h2 : (-1) ≤ z38 ∧ z38 ≤ 19) : 0 ≤ z38 ∧ z38 ≤ 19 := by omega
theorem vc_X11_judge_15 {z41 : Int} (h0 : ¬ z41 = 0) (h1 : 0 ≤ z41 ∧ z41 ≤ 1) : 1 ≤ z41 ∧ z41 ≤ 1 := by omega
theorem vc_X11_judge_16 {n1 z38 : Int} (h0 : z38 < n1) (h1 : 0 ≤ z38) (h2 : 0 ≤ z38 ∧ z38 ≤ 19) : z38 < n1 := by omega
theorem vc_X11_judge_17 {n1 z38 : Int} (h0 : z38 < n1) (h1 : 0 ≤ z38) (h2 : 0 ≤ z38 ∧ z38 ≤ 19) : ¬ z38 < 0 := by omega
theorem vc_X11_judge_18 {z59 : Int} (h0 : z59 = 0) (h1 : 0 ≤ z59 ∧ z59 ≤ 1) : 0 ≤ z59 ∧ z59 ≤ 0 := by omega
theorem vc_X11_judge_19 {z59 : Int} (h0 : ¬ z59 = 0) (h1 : 0 ≤ z59 ∧ z59 ≤ 1) : 1 ≤ z59 ∧ z59 ≤ 1 := by omega
theorem vc_X11_judge_20 {z41 : Int} (h0 : z41 = 0) (h1 : 0 ≤ z41 ∧ z41 ≤ 1) : 0 ≤ z41 ∧ z41 ≤ 0 := by omega
theorem vc_X11_judge_21 {n1 z38 : Int} (h0 : z38 < 0) (h1 : z38 < n1) (h2 : (-1) ≤ z38 ∧ z38 ≤ 19) : (-1) ≤ z38 ∧ z38 ≤ (-1) := by omega
theorem vc_X11_judge_22 {p3 z10 z28 : Int} (h0 : z28 = 0) (h1 : (z28 = 1 → 0 ≤ p3 ∧ p3 < z10)) (h2 : (z28 = 0 → p3 < 0 ∨ z10 ≤ p3)) (h3 : (-2147483648) ≤ p3 ∧ p3 ≤ 2147483647) (h4 : 0 ≤ z10 ∧ z10 ≤ 10) (h5 : 0 ≤ z28 ∧ z28 ≤ 1) : 0 ≤ z28 ∧ z28 ≤ 0 := by omega
theorem vc_X11_judge_23 {n0 p2 p3 z10 z17 z28 : Int} (h0 : (z28 = 1 → 0 ≤ p3 ∧ p3 < z10)) (h1 : (z28 = 0 → p3 < 0 ∨ z10 ≤ p3)) (h2 : z28 = 0) (h3 : z10 = n0) (h4 : (z17 = 1 → 0 ≤ p2 ∧ p2 < z10)) (h5 : (z17 = 0 → p2 < 0 ∨ z10 ≤ p2)) (h6 : 0 ≤ p2 ∧ p2 < z10) (h7 : 0 ≤ p2 ∧ p2 ≤ 9) (h8 : (-2147483648) ≤ p3 ∧ p3 ≤ 2147483647) (h9 : 0 ≤ z10 ∧ z10 ≤ 10) (h10 : 1 ≤ z17 ∧ z17 ≤ 1) (h11 : 0 ≤ z28 ∧ z28 ≤ 0) : z28 = 0 := by omega
set_option maxRecDepth 4000 in
set_option maxHeartbeats 4000000 in
theorem c_X11_judge {l : Launch} {D : va_G} {c : Nat → ClassId} {H0 : Heap} {sa : Nat × Nat × (Nat → Int32)} {w : mW} {μ : mM} (hw : mWF w) (hT : mT w μ) {p1 : Int} (hp1 : (-2147483648) ≤ p1 ∧ p1 ≤ 2147483647) {p2 : Int} (hp2 : (-2147483648) ≤ p2 ∧ p2 ≤ 2147483647) {p3 : Int} (hp3 : (-2147483648) ≤ p3 ∧ p3 ≤ 2147483647) (hIPC : PC w μ) : sC (gG l D c H0 sa) mX11_judge 41 0 0 [.ref 0, iv p1, iv p2, iv p3] (mk w μ) (qI w [21002, 21003, 21004, 21005, 21006, 21007, 200004, 200006, 200007, 200008, 201999, 202999] μ (fun z μ1 => ((-2147483648) ≤ z ∧ z ≤ 2147483647) ∧ True)) := by
  refine sC.of rfl (by decide) (le_t rfl) ?_
  refine mr_lvE (lv' := [(0, .ref 0), (1, iv p1), (2, iv p2), (3, iv p3)]) rfl ?_
  refine mr_iload_n (pc := 0) (z := p1) dX11_judge_0 rfl rfl ?_
  refine mr_if_lt (pc := 1) (tgt := 31) dX11_judge_1 (by decide) hp1 (fun h1 => ?_) (fun h1 => ?_)
  · have h2 : (-2147483648) ≤ p1 ∧ p1 ≤ (-1) := (vc_X11_judge_1 h1 hp1)
    refine mr_iconst (pc := 31) (z := (-1)) dX11_judge_31 ?_
    exact mr_iret dX11_judge_32 rfl (le_t rfl) (le_t rfl) hT mF.refl ⟨(rW (c := (-2147483648)) (d := 2147483647) (rR (x := (-1))) rfl), trivial⟩
  have h3 : 0 ≤ p1 ∧ p1 ≤ 2147483647 := (vc_X11_judge_2 h1 hp1)
  refine mr_iload_n (pc := 4) (z := p1) dX11_judge_4 rfl rfl ?_
  refine sv_aload_n (pc := 5) dX11_judge_5 rfl rfl ?_
  refine gf_X11_4 (pc := 6) dX11_judge_6 wF_X11_35 (A_0 hw) hT ?_
  refine gf_X1_8 (pc := 9) dX11_judge_9 wF_X11_205 (A_21 hw) hT fun z4 q5 h6 => ?_
  refine mr_icmp_ge (pc := 12) (tgt := 31) dX11_judge_12 (by decide) (r32 h3 rfl) (r32 h6.2 rfl) (fun h7 => ?_) (fun h7 => ?_)
  · refine mr_iconst (pc := 31) (z := (-1)) dX11_judge_31 ?_
    exact mr_iret dX11_judge_32 rfl (le_t rfl) (le_t rfl) hT mF.refl ⟨(rW (c := (-2147483648)) (d := 2147483647) (rR (x := (-1))) rfl), trivial⟩
  have h8 : 0 ≤ p1 ∧ p1 ≤ 11 := (vc_X11_judge_3 h7 h1 h6.1 h3 h6.2)
  have h9 : 1 ≤ z4 ∧ z4 ≤ 12 := (vc_X11_judge_4 h7 h1 h6.1 h8 h6.2)
  refine sv_aload_n (pc := 15) dX11_judge_15 rfl rfl ?_
  refine mr_iload_n (pc := 16) (z := p2) dX11_judge_16 rfl rfl ?_
  obtain ⟨z10, q11⟩ : ∃ z, μ 6 15 = z := ⟨_, rfl⟩
  have h12 : (z10 = w.2.2.2 0 ∧ 0 ≤ z10 ∧ z10 ≤ 10) := by rw [← q11]; exact hT 6 6 (A_6 hw) 15
  refine mr_cVP (pc := 17) (c_X11_isDomain hw hT hp2 q11) (gOk _ _ _ _ _) dX11_judge_17 (tX11_isDomain _ _ _ _ _) ⟨wV_X11_isDomain, wL_X11_isDomain⟩ wM_X11_105 (gCX11 _ _ _ _ _) rfl (A_0 hw) rfl ⟨le_t rfl, le_t rfl⟩ ⟨le_t rfl, le_t rfl⟩ rfl (le_t rfl) fun z17 h16 => ?_
  refine mr_if_eq (pc := 20) (tgt := 31) dX11_judge_20 (by decide) (r32 h16.1 rfl) (fun h18 => ?_) (fun h18 => ?_)
  · have h19 : 0 ≤ z17 ∧ z17 ≤ 0 := (vc_X11_judge_5 h18 h16.2.1 h16.2.2.1 hp2 h12.2 h16.1)
    have h20 : p2 < 0 ∨ z10 ≤ p2 := (h16.2.2.1 (vc_X11_judge_6 h16.2.1 h16.2.2.1 h18 h12.1 hp2 h12.2 h19))
    refine mr_iconst (pc := 31) (z := (-1)) dX11_judge_31 ?_
    exact mr_iret dX11_judge_32 rfl (le_t rfl) (le_t rfl) hT mF.refl ⟨(rW (c := (-2147483648)) (d := 2147483647) (rR (x := (-1))) rfl), trivial⟩
  have h21 : 1 ≤ z17 ∧ z17 ≤ 1 := (vc_X11_judge_7 h18 h16.2.1 h16.2.2.1 hp2 h12.2 h16.1)
  have h22 : 0 ≤ p2 ∧ p2 < z10 := (h16.2.1 (vc_X11_judge_8 h16.2.1 h16.2.2.1 h18 h12.1 hp2 h12.2 h21))
  have h23 : 0 ≤ p2 ∧ p2 ≤ 9 := (vc_X11_judge_9 h22 h12.1 h16.2.1 h16.2.2.1 hp2 h12.2 h21)
  refine sv_aload_n (pc := 23) dX11_judge_23 rfl rfl ?_
  refine mr_iload_n (pc := 24) (z := p3) dX11_judge_24 rfl rfl ?_
  refine mr_cVP (pc := 25) (c_X11_isDomain hw hT hp3 q11) (gOk _ _ _ _ _) dX11_judge_25 (tX11_isDomain _ _ _ _ _) ⟨wV_X11_isDomain, wL_X11_isDomain⟩ wM_X11_105 (gCX11 _ _ _ _ _) rfl (A_0 hw) rfl ⟨le_t rfl, le_t rfl⟩ ⟨le_t rfl, le_t rfl⟩ rfl (le_t rfl) fun z28 h27 => ?_
  refine mr_if_ne (pc := 28) (tgt := 33) dX11_judge_28 (by decide) (r32 h27.1 rfl) (fun h29 => ?_) (fun h29 => ?_)
  · have h30 : 1 ≤ z28 ∧ z28 ≤ 1 := (vc_X11_judge_10 h29 h27.2.1 h27.2.2.1 hp3 h12.2 h27.1)
    have h31 : 0 ≤ p3 ∧ p3 < z10 := (h27.2.1 (vc_X11_judge_11 h27.2.1 h27.2.2.1 h29 h12.1 h16.2.1 h16.2.2.1 h22 h23 hp3 h12.2 h21 h30))
    have h32 : 0 ≤ p3 ∧ p3 ≤ 9 := (vc_X11_judge_12 h31 h12.1 h16.2.1 h16.2.2.1 h22 h27.2.1 h27.2.2.1 h23 hp3 h12.2 h21 h30)
    have h33 : 1 ≤ z10 ∧ z10 ≤ 10 := (vc_X11_judge_13 h31 h12.1 h16.2.1 h16.2.2.1 h22 h27.2.1 h27.2.2.1 h23 h32 h12.2 h21 h30)
    refine sv_aload_n (pc := 33) dX11_judge_33 rfl rfl ?_
    refine gf_X11_3 (pc := 34) dX11_judge_34 wF_X11_26 (A_0 hw) hT ?_
    refine mr_iload_n (pc := 37) (z := p2) dX11_judge_37 rfl rfl ?_
    refine mr_iload_n (pc := 38) (z := p3) dX11_judge_38 rfl rfl ?_
    refine mr_cVP (pc := 39) (c_X10_tieBetween_end hw hT (rW (c := (-2147483648)) (d := 2147483647) h23 rfl) (rW (c := (-2147483648)) (d := 2147483647) h32 rfl)) (gOk _ _ _ _ _) dX11_judge_39 (tX10_tieBetween _ _ _ _ _) ⟨wV_X10_tieBetween, wL_X10_tieBetween⟩ wM_X11_109 (gCX10 _ _ _ _ _) rfl (A_6 hw) rfl ⟨le_t rfl, le_t rfl⟩ ⟨le_t rfl, le_t rfl⟩ rfl (le_t rfl) fun z38 h37 => ?_
    refine mr_istore (pc := 42) (lv' := [(4, iv z38), (0, .ref 0), (1, iv p1), (2, iv p2), (3, iv p3)]) dX11_judge_42 (by decide) rfl ?_
    refine mr_iload (pc := 44) (z := z38) dX11_judge_44 rfl ?_
    refine mr_if_ge (pc := 46) (tgt := 51) dX11_judge_46 (by decide) (r32 h37.1 rfl) (fun h39 => ?_) (fun h39 => ?_)
    · have h40 : 0 ≤ z38 ∧ z38 ≤ 19 := (vc_X11_judge_14 h39 h37.2.1 h37.1)
      refine sv_aload_n (pc := 51) dX11_judge_51 rfl rfl ?_
      refine gf_X11_2 (pc := 52) dX11_judge_52 wF_X11_19 (A_0 hw) hT ?_
      refine gf_X7_2 (pc := 55) dX11_judge_55 wF_X11_246 (A_3 hw) hT fun z41 q42 h43 => ?_
      refine mr_if_ne (pc := 58) (tgt := 64) dX11_judge_58 (by decide) (r32 h43 rfl) (fun h44 => ?_) (fun h44 => ?_)
      · have h45 : 1 ≤ z41 ∧ z41 ≤ 1 := (vc_X11_judge_15 h44 h43)
        refine sv_aload_n (pc := 64) dX11_judge_64 rfl rfl ?_
        refine gf_X11_3 (pc := 65) dX11_judge_65 wF_X11_26 (A_0 hw) hT ?_
        refine gf_X10_4 (pc := 68) dX11_judge_68 wF_X11_122 (A_6 hw) hT ?_
        refine mr_iload (pc := 71) (z := z38) dX11_judge_71 rfl ?_
        refine la_11 (pc := 73) dX11_judge_73 (A_11 hw) hT (rIx (n := 20) h40 rfl) (vc_X11_judge_16 h37.2.1 h39 h40) fun b46 q47 A48 => ?_
        have H49 : μ b46 0 = p2 ∨ μ b46 1 = p2 := tieEnd (h37.2.2.1) (vc_X11_judge_17 h37.2.1 h39 h40) q47
        refine mr_astore (pc := 74) (lv' := [(5, .ref b46), (4, iv z38), (0, .ref 0), (1, iv p1), (2, iv p2), (3, iv p3)]) dX11_judge_74 (by decide) rfl ?_
        refine sv_aload_n (pc := 76) dX11_judge_76 rfl rfl ?_
        refine gf_X11_4 (pc := 77) dX11_judge_77 wF_X11_35 (A_0 hw) hT ?_
        refine mr_iload_n (pc := 80) (z := p1) dX11_judge_80 rfl rfl ?_
        refine sv_aload_n (pc := 81) dX11_judge_81 rfl rfl ?_
        refine gf_X11_2 (pc := 82) dX11_judge_82 wF_X11_19 (A_0 hw) hT ?_
        refine sv_aload (pc := 85) dX11_judge_85 rfl ?_
        refine sv_aload (pc := 87) dX11_judge_87 rfl ?_
        refine mr_iload_n (pc := 89) (z := p2) dX11_judge_89 rfl rfl ?_
        refine mr_cVP (pc := 90) (c_X9_sideOf_e hw hT A48 (rW (c := (-2147483648)) (d := 2147483647) h23 rfl) H49) (gOk _ _ _ _ _) dX11_judge_90 (tX9_sideOf _ _ _ _ _) ⟨wV_X9_sideOf, wL_X9_sideOf⟩ wM_X11_249 (gCX9 _ _ _ _ _) rfl A48 rfl ⟨le_t rfl, le_t rfl⟩ ⟨le_t rfl, le_t rfl⟩ rfl (le_t rfl) fun z54 h53 => ?_
        refine mr_cVI (pc := 93) (c_X1_lets hw hT (rW (c := (-2147483648)) (d := 2147483647) h8 rfl) (A_3 hw) A48 h53.1 hIPC) (gOk _ _ _ _ _) dX11_judge_93 (tX1_lets _ _ _ _ _) ⟨wV_X1_lets, wL_X1_lets⟩ wM_X11_252 (gCX1 _ _ _ _ _) rfl (A_21 hw) rfl ⟨le_t rfl, le_t rfl⟩ ⟨le_t rfl, le_t rfl⟩ rfl (le_t rfl) fun z59 μ55 T56 F57 h58 => ?_
        refine mr_if_eq (pc := 96) (tgt := 103) dX11_judge_96 (by decide) (r32 h58.1 rfl) (fun h62 => ?_) (fun h62 => ?_)
        · have h63 : 0 ≤ z59 ∧ z59 ≤ 0 := (vc_X11_judge_18 h62 h58.1)
          refine mr_iconst (pc := 103) (z := 0) dX11_judge_103 ?_
          exact mr_iret dX11_judge_104 rfl (le_t rfl) (le_t rfl) T56 (mF.call mF.refl F57 rfl) ⟨(rW (c := (-2147483648)) (d := 2147483647) (rR (x := 0)) rfl), trivial⟩
        have h64 : 1 ≤ z59 ∧ z59 ≤ 1 := (vc_X11_judge_19 h62 h58.1)
        refine mr_iconst (pc := 99) (z := 1) dX11_judge_99 ?_
        refine sv_goto (pc := 100) (tgt := 104) dX11_judge_100 (by decide) ?_
        exact mr_iret dX11_judge_104 rfl (le_t rfl) (le_t rfl) T56 (mF.call mF.refl F57 rfl) ⟨(rW (c := (-2147483648)) (d := 2147483647) (rR (x := 1)) rfl), trivial⟩
      have h65 : 0 ≤ z41 ∧ z41 ≤ 0 := (vc_X11_judge_20 h44 h43)
      refine mr_bipush (pc := 61) (z := (-2)) dX11_judge_61 (by decide) ?_
      exact mr_iret dX11_judge_63 rfl (le_t rfl) (le_t rfl) hT mF.refl ⟨(rW (c := (-2147483648)) (d := 2147483647) (rR (x := (-2))) rfl), trivial⟩
    have h66 : (-1) ≤ z38 ∧ z38 ≤ (-1) := (vc_X11_judge_21 h39 h37.2.1 h37.1)
    refine mr_iconst (pc := 49) (z := (-1)) dX11_judge_49 ?_
    exact mr_iret dX11_judge_50 rfl (le_t rfl) (le_t rfl) hT mF.refl ⟨(rW (c := (-2147483648)) (d := 2147483647) (rR (x := (-1))) rfl), trivial⟩
  have h67 : 0 ≤ z28 ∧ z28 ≤ 0 := (vc_X11_judge_22 h29 h27.2.1 h27.2.2.1 hp3 h12.2 h27.1)
  have h68 : p3 < 0 ∨ z10 ≤ p3 := (h27.2.2.1 (vc_X11_judge_23 h27.2.1 h27.2.2.1 h29 h12.1 h16.2.1 h16.2.2.1 h22 h23 hp3 h12.2 h21 h67))
  refine mr_iconst (pc := 31) (z := (-1)) dX11_judge_31 ?_
  exact mr_iret dX11_judge_32 rfl (le_t rfl) (le_t rfl) hT mF.refl ⟨(rW (c := (-2147483648)) (d := 2147483647) (rR (x := (-1))) rfl), trivial⟩
