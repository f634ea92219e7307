section
theorem vc_X2_leastBelow_25_1 {p3 : Int} (h0 : 32 ≤ p3) (h1 : 25 ≤ p3 ∧ p3 ≤ 25) : False := by omega
set_option maxRecDepth 4000 in
set_option maxHeartbeats 4000000 in
theorem c_X2_leastBelow_25 {l : Launch} {D : va_G} {c : Nat → ClassId} {H0 : Heap} {sa : Nat × Nat × (Nat → Int32)} {w : mW} {μ : mM} (hw : mWF w) (hT : mT w μ) {p1 : Int} (hp1 : 0 ≤ p1 ∧ p1 ≤ 9) {p2 : Int} (hp2 : (-2147483648) ≤ p2 ∧ p2 ≤ 2147483647) {p3 : Int} (hp3 : 25 ≤ p3 ∧ p3 ≤ 25) (hq0 : p1 < w.2.2.2 0) : sC (gG l D c H0 sa) mX2_leastBelow 10 0 0 [.ref 87, iv p1, iv p2, iv p3] (mk w μ) (qI w [87007] μ (fun z μ1 => ((-2147483648) ≤ z ∧ z ≤ 2147483647) ∧ True)) := by
  refine sC.of rfl (by decide) (le_t rfl) ?_
  refine mr_lvE (lv' := [(0, .ref 87), (1, iv p1), (2, iv p2), (3, iv p3)]) rfl ?_
  refine mr_iload_n (pc := 0) (z := p3) dX2_leastBelow_0 rfl rfl ?_
  refine mr_bipush (pc := 1) (z := 32) dX2_leastBelow_1 (by decide) ?_
  refine mr_icmp_ge (pc := 3) (tgt := 16) dX2_leastBelow_3 (by decide) (r32 hp3 rfl) (r32 (rR (x := 32)) rfl) (fun h => ((vc_X2_leastBelow_25_1 h hp3)).elim) (fun _ => ?_)
  refine sv_aload_n (pc := 6) dX2_leastBelow_6 rfl rfl ?_
  refine mr_iload_n (pc := 7) (z := p1) dX2_leastBelow_7 rfl rfl ?_
  refine mr_iload_n (pc := 8) (z := p2) dX2_leastBelow_8 rfl rfl ?_
  refine mr_iload_n (pc := 9) (z := p3) dX2_leastBelow_9 rfl rfl ?_
  refine mr_cVP (pc := 10) (c_X2_isSplit hw hT hp1 hp2 (rW (c := (-2147483648)) (d := 2147483647) hp3 rfl) (vc_X9_end_1 hq0 hp1)) (gOk _ _ _ _ _) dX2_leastBelow_10 (tX2_isSplit _ _ _ _ _) ⟨wV_X2_isSplit, wL_X2_isSplit⟩ wM_X2_106 (gCX2 _ _ _ _ _) rfl (A_87 hw) rfl ⟨le_t rfl, le_t rfl⟩ ⟨le_t rfl, le_t rfl⟩ rfl (le_t rfl) fun z5 h4 => ?_
  refine mr_if_ne (pc := 13) (tgt := 26) dX2_leastBelow_13 (by decide) (r32 h4.1 rfl) (fun h6 => ?_) (fun h6 => ?_)
  · have h7 : 1 ≤ z5 ∧ z5 ≤ 1 := (vc_X12_ring_24 h6 h4.1)
    refine sv_aload_n (pc := 26) dX2_leastBelow_26 rfl rfl ?_
    refine mr_iload_n (pc := 27) (z := p1) dX2_leastBelow_27 rfl rfl ?_
    refine mr_iload_n (pc := 28) (z := p2) dX2_leastBelow_28 rfl rfl ?_
    refine mr_iload_n (pc := 29) (z := p3) dX2_leastBelow_29 rfl rfl ?_
    refine mr_iconst (pc := 30) (z := 1) dX2_leastBelow_30 ?_
    refine mr_iadd (pc := 31) (x := p3) (y := 1) dX2_leastBelow_31 ?_
    refine mr_cVI (pc := 32) (c_X2_leastBelow_26 hw hT hp1 hp2 (rAdd (e := 26) (f := 26) hp3 (rR (x := 1)) rfl) (vc_X9_end_1 hq0 hp1)) (gOk _ _ _ _ _) dX2_leastBelow_32 (tX2_leastBelow _ _ _ _ _) ⟨wV_X2_leastBelow, wL_X2_leastBelow⟩ wM_X2_101 (gCX2 _ _ _ _ _) rfl (A_87 hw) rfl ⟨le_t rfl, le_t rfl⟩ ⟨le_t rfl, le_t rfl⟩ rfl (le_t rfl) fun z12 μ8 T9 F10 h11 => ?_
    refine mr_istore (pc := 35) (lv' := [(4, iv z12), (0, .ref 87), (1, iv p1), (2, iv p2), (3, iv p3)]) dX2_leastBelow_35 (by decide) rfl ?_
    refine sv_aload_n (pc := 37) dX2_leastBelow_37 rfl rfl ?_
    refine mr_iload_n (pc := 38) (z := p1) dX2_leastBelow_38 rfl rfl ?_
    refine mr_iload_n (pc := 39) (z := p2) dX2_leastBelow_39 rfl rfl ?_
    refine mr_iconst (pc := 40) (z := 1) dX2_leastBelow_40 ?_
    refine mr_bipush (pc := 41) (z := 31) dX2_leastBelow_41 (by decide) ?_
    refine mr_iload_n (pc := 43) (z := p3) dX2_leastBelow_43 rfl rfl ?_
    refine mr_isub (pc := 44) (x := 31) (y := p3) dX2_leastBelow_44 ?_
    refine mr_ishl (pc := 45) (x := 1) (y := (31 - p3)) dX2_leastBelow_45 ?_
    refine mr_gen (P := fun z => (-2147483648) ≤ z ∧ z ≤ 2147483647) (r32i _) fun z13 q14 h15 => ?_
    refine mr_ior (pc := 46) (x := p2) (y := z13) dX2_leastBelow_46 ?_
    refine mr_gen (P := fun z => (-2147483648) ≤ z ∧ z ≤ 2147483647) (r32i _) fun z16 q17 h18 => ?_
    refine mr_iload_n (pc := 47) (z := p3) dX2_leastBelow_47 rfl rfl ?_
    refine mr_iconst (pc := 48) (z := 1) dX2_leastBelow_48 ?_
    refine mr_iadd (pc := 49) (x := p3) (y := 1) dX2_leastBelow_49 ?_
    refine mr_cVI (pc := 50) (c_X2_leastBelow_26 hw T9 hp1 h18 (rAdd (e := 26) (f := 26) hp3 (rR (x := 1)) rfl) (vc_X9_end_1 hq0 hp1)) (gOk _ _ _ _ _) dX2_leastBelow_50 (tX2_leastBelow _ _ _ _ _) ⟨wV_X2_leastBelow, wL_X2_leastBelow⟩ wM_X2_101 (gCX2 _ _ _ _ _) rfl (A_87 hw) rfl ⟨le_t rfl, le_t rfl⟩ ⟨le_t rfl, le_t rfl⟩ rfl (le_t rfl) fun z23 μ19 T20 F21 h22 => ?_
    refine mr_istore (pc := 53) (lv' := [(5, iv z23), (4, iv z12), (0, .ref 87), (1, iv p1), (2, iv p2), (3, iv p3)]) dX2_leastBelow_53 (by decide) rfl ?_
    refine mr_iload (pc := 55) (z := z12) dX2_leastBelow_55 rfl ?_
    refine mr_iload (pc := 57) (z := z23) dX2_leastBelow_57 rfl ?_
    refine mr_iand (pc := 59) (x := z12) (y := z23) dX2_leastBelow_59 ?_
    refine mr_gen (P := fun z => (-2147483648) ≤ z ∧ z ≤ 2147483647) (r32i _) fun z24 q25 h26 => ?_
    refine mr_if_eq (pc := 60) (tgt := 69) dX2_leastBelow_60 (by decide) h26 (fun h27 => ?_) (fun h27 => ?_)
    · have h28 : 0 ≤ z24 ∧ z24 ≤ 0 := (vc_X12_mask_1 h27 h26)
      refine sv_aload_n (pc := 69) dX2_leastBelow_69 rfl rfl ?_
      refine sv_dup (pc := 70) dX2_leastBelow_70 rfl ?_
      refine gf_X2_7 (pc := 71) dX2_leastBelow_71 wF_X2_98 (A_87 hw) T20 fun z29 q30 h31 => ?_
      refine mr_iconst (pc := 74) (z := 1) dX2_leastBelow_74 ?_
      refine mr_iadd (pc := 75) (x := z29) (y := 1) dX2_leastBelow_75 ?_
      refine mr_wrap fun z32 h33 => ?_
      refine pf_X2_7 (pc := 76) dX2_leastBelow_76 wF_X2_98 (A_87 hw) T20 h33 fun μ34 u35 T36 => ?_
      refine mr_iload (pc := 79) (z := z12) dX2_leastBelow_79 rfl ?_
      refine mr_iload (pc := 81) (z := z23) dX2_leastBelow_81 rfl ?_
      refine mr_ior (pc := 83) (x := z12) (y := z23) dX2_leastBelow_83 ?_
      refine mr_gen (P := fun z => (-2147483648) ≤ z ∧ z ≤ 2147483647) (r32i _) fun z37 q38 h39 => ?_
      exact mr_iret dX2_leastBelow_84 rfl (le_t rfl) (le_t rfl) T36 (mF.up (mF.call (mF.call mF.refl F10 rfl) F21 rfl) (A_87 hw) u35 rfl) ⟨h39, trivial⟩
    refine mr_iload (pc := 63) (z := z12) dX2_leastBelow_63 rfl ?_
    refine mr_iload (pc := 65) (z := z23) dX2_leastBelow_65 rfl ?_
    refine mr_iand (pc := 67) (x := z12) (y := z23) dX2_leastBelow_67 ?_
    refine mr_gen (P := fun z => (-2147483648) ≤ z ∧ z ≤ 2147483647) (r32i _) fun z40 q41 h42 => ?_
    exact mr_iret dX2_leastBelow_68 rfl (le_t rfl) (le_t rfl) T20 (mF.call (mF.call mF.refl F10 rfl) F21 rfl) ⟨h42, trivial⟩
  have h43 : 0 ≤ z5 ∧ z5 ≤ 0 := (vc_X12_ring_22 h6 h4.1)
  refine sv_aload_n (pc := 16) dX2_leastBelow_16 rfl rfl ?_
  refine mr_iload_n (pc := 17) (z := p1) dX2_leastBelow_17 rfl rfl ?_
  refine mr_iload_n (pc := 18) (z := p2) dX2_leastBelow_18 rfl rfl ?_
  refine mr_cVP (pc := 19) (c_X2_tieFor hw hT hp1 hp2 (vc_X9_end_1 hq0 hp1)) (gOk _ _ _ _ _) dX2_leastBelow_19 (tX2_tieFor _ _ _ _ _) ⟨wV_X2_tieFor, wL_X2_tieFor⟩ wM_X2_60 (gCX2 _ _ _ _ _) rfl (A_87 hw) rfl ⟨le_t rfl, le_t rfl⟩ ⟨le_t rfl, le_t rfl⟩ rfl (le_t rfl) fun z48 h47 => ?_
  refine mr_cSP (pc := 22) (c_X2_aimBit hw hT h47.1) (gOk _ _ _ _ _) dX2_leastBelow_22 (tX2_aimBit _ _ _ _ _) wS_X2_aimBit wM_X2_110 ⟨le_t rfl, le_t rfl⟩ ⟨le_t rfl, le_t rfl⟩ rfl (le_t rfl) fun z53 h52 => ?_
  exact mr_iret dX2_leastBelow_25 rfl (le_t rfl) (le_t rfl) hT mF.refl ⟨h52.1, trivial⟩
theorem vc_X2_leastBelow_24_1 {p3 : Int} (h0 : 32 ≤ p3) (h1 : 24 ≤ p3 ∧ p3 ≤ 24) : False := by omega
set_option maxRecDepth 4000 in
set_option maxHeartbeats 4000000 in
theorem c_X2_leastBelow_24 {l : Launch} {D : va_G} {c : Nat → ClassId} {H0 : Heap} {sa : Nat × Nat × (Nat → Int32)} {w : mW} {μ : mM} (hw : mWF w) (hT : mT w μ) {p1 : Int} (hp1 : 0 ≤ p1 ∧ p1 ≤ 9) {p2 : Int} (hp2 : (-2147483648) ≤ p2 ∧ p2 ≤ 2147483647) {p3 : Int} (hp3 : 24 ≤ p3 ∧ p3 ≤ 24) (hq0 : p1 < w.2.2.2 0) : sC (gG l D c H0 sa) mX2_leastBelow 11 0 0 [.ref 87, iv p1, iv p2, iv p3] (mk w μ) (qI w [87007] μ (fun z μ1 => ((-2147483648) ≤ z ∧ z ≤ 2147483647) ∧ True)) := by
  refine sC.of rfl (by decide) (le_t rfl) ?_
  refine mr_lvE (lv' := [(0, .ref 87), (1, iv p1), (2, iv p2), (3, iv p3)]) rfl ?_
  refine mr_iload_n (pc := 0) (z := p3) dX2_leastBelow_0 rfl rfl ?_
  refine mr_bipush (pc := 1) (z := 32) dX2_leastBelow_1 (by decide) ?_
  refine mr_icmp_ge (pc := 3) (tgt := 16) dX2_leastBelow_3 (by decide) (r32 hp3 rfl) (r32 (rR (x := 32)) rfl) (fun h => ((vc_X2_leastBelow_24_1 h hp3)).elim) (fun _ => ?_)
  refine sv_aload_n (pc := 6) dX2_leastBelow_6 rfl rfl ?_
  refine mr_iload_n (pc := 7) (z := p1) dX2_leastBelow_7 rfl rfl ?_
  refine mr_iload_n (pc := 8) (z := p2) dX2_leastBelow_8 rfl rfl ?_
  refine mr_iload_n (pc := 9) (z := p3) dX2_leastBelow_9 rfl rfl ?_
  refine mr_cVP (pc := 10) (c_X2_isSplit hw hT hp1 hp2 (rW (c := (-2147483648)) (d := 2147483647) hp3 rfl) (vc_X9_end_1 hq0 hp1)) (gOk _ _ _ _ _) dX2_leastBelow_10 (tX2_isSplit _ _ _ _ _) ⟨wV_X2_isSplit, wL_X2_isSplit⟩ wM_X2_106 (gCX2 _ _ _ _ _) rfl (A_87 hw) rfl ⟨le_t rfl, le_t rfl⟩ ⟨le_t rfl, le_t rfl⟩ rfl (le_t rfl) fun z5 h4 => ?_
  refine mr_if_ne (pc := 13) (tgt := 26) dX2_leastBelow_13 (by decide) (r32 h4.1 rfl) (fun h6 => ?_) (fun h6 => ?_)
  · have h7 : 1 ≤ z5 ∧ z5 ≤ 1 := (vc_X12_ring_24 h6 h4.1)
    refine sv_aload_n (pc := 26) dX2_leastBelow_26 rfl rfl ?_
    refine mr_iload_n (pc := 27) (z := p1) dX2_leastBelow_27 rfl rfl ?_
    refine mr_iload_n (pc := 28) (z := p2) dX2_leastBelow_28 rfl rfl ?_
    refine mr_iload_n (pc := 29) (z := p3) dX2_leastBelow_29 rfl rfl ?_
    refine mr_iconst (pc := 30) (z := 1) dX2_leastBelow_30 ?_
    refine mr_iadd (pc := 31) (x := p3) (y := 1) dX2_leastBelow_31 ?_
    refine mr_cVI (pc := 32) (c_X2_leastBelow_25 hw hT hp1 hp2 (rAdd (e := 25) (f := 25) hp3 (rR (x := 1)) rfl) (vc_X9_end_1 hq0 hp1)) (gOk _ _ _ _ _) dX2_leastBelow_32 (tX2_leastBelow _ _ _ _ _) ⟨wV_X2_leastBelow, wL_X2_leastBelow⟩ wM_X2_101 (gCX2 _ _ _ _ _) rfl (A_87 hw) rfl ⟨le_t rfl, le_t rfl⟩ ⟨le_t rfl, le_t rfl⟩ rfl (le_t rfl) fun z12 μ8 T9 F10 h11 => ?_
    refine mr_istore (pc := 35) (lv' := [(4, iv z12), (0, .ref 87), (1, iv p1), (2, iv p2), (3, iv p3)]) dX2_leastBelow_35 (by decide) rfl ?_
    refine sv_aload_n (pc := 37) dX2_leastBelow_37 rfl rfl ?_
    refine mr_iload_n (pc := 38) (z := p1) dX2_leastBelow_38 rfl rfl ?_
    refine mr_iload_n (pc := 39) (z := p2) dX2_leastBelow_39 rfl rfl ?_
    refine mr_iconst (pc := 40) (z := 1) dX2_leastBelow_40 ?_
    refine mr_bipush (pc := 41) (z := 31) dX2_leastBelow_41 (by decide) ?_
    refine mr_iload_n (pc := 43) (z := p3) dX2_leastBelow_43 rfl rfl ?_
    refine mr_isub (pc := 44) (x := 31) (y := p3) dX2_leastBelow_44 ?_
    refine mr_ishl (pc := 45) (x := 1) (y := (31 - p3)) dX2_leastBelow_45 ?_
    refine mr_gen (P := fun z => (-2147483648) ≤ z ∧ z ≤ 2147483647) (r32i _) fun z13 q14 h15 => ?_
    refine mr_ior (pc := 46) (x := p2) (y := z13) dX2_leastBelow_46 ?_
    refine mr_gen (P := fun z => (-2147483648) ≤ z ∧ z ≤ 2147483647) (r32i _) fun z16 q17 h18 => ?_
    refine mr_iload_n (pc := 47) (z := p3) dX2_leastBelow_47 rfl rfl ?_
    refine mr_iconst (pc := 48) (z := 1) dX2_leastBelow_48 ?_
    refine mr_iadd (pc := 49) (x := p3) (y := 1) dX2_leastBelow_49 ?_
    refine mr_cVI (pc := 50) (c_X2_leastBelow_25 hw T9 hp1 h18 (rAdd (e := 25) (f := 25) hp3 (rR (x := 1)) rfl) (vc_X9_end_1 hq0 hp1)) (gOk _ _ _ _ _) dX2_leastBelow_50 (tX2_leastBelow _ _ _ _ _) ⟨wV_X2_leastBelow, wL_X2_leastBelow⟩ wM_X2_101 (gCX2 _ _ _ _ _) rfl (A_87 hw) rfl ⟨le_t rfl, le_t rfl⟩ ⟨le_t rfl, le_t rfl⟩ rfl (le_t rfl) fun z23 μ19 T20 F21 h22 => ?_
    refine mr_istore (pc := 53) (lv' := [(5, iv z23), (4, iv z12), (0, .ref 87), (1, iv p1), (2, iv p2), (3, iv p3)]) dX2_leastBelow_53 (by decide) rfl ?_
    refine mr_iload (pc := 55) (z := z12) dX2_leastBelow_55 rfl ?_
    refine mr_iload (pc := 57) (z := z23) dX2_leastBelow_57 rfl ?_
    refine mr_iand (pc := 59) (x := z12) (y := z23) dX2_leastBelow_59 ?_
    refine mr_gen (P := fun z => (-2147483648) ≤ z ∧ z ≤ 2147483647) (r32i _) fun z24 q25 h26 => ?_
    refine mr_if_eq (pc := 60) (tgt := 69) dX2_leastBelow_60 (by decide) h26 (fun h27 => ?_) (fun h27 => ?_)
    · have h28 : 0 ≤ z24 ∧ z24 ≤ 0 := (vc_X12_mask_1 h27 h26)
      refine sv_aload_n (pc := 69) dX2_leastBelow_69 rfl rfl ?_
      refine sv_dup (pc := 70) dX2_leastBelow_70 rfl ?_
      refine gf_X2_7 (pc := 71) dX2_leastBelow_71 wF_X2_98 (A_87 hw) T20 fun z29 q30 h31 => ?_
      refine mr_iconst (pc := 74) (z := 1) dX2_leastBelow_74 ?_
      refine mr_iadd (pc := 75) (x := z29) (y := 1) dX2_leastBelow_75 ?_
      refine mr_wrap fun z32 h33 => ?_
      refine pf_X2_7 (pc := 76) dX2_leastBelow_76 wF_X2_98 (A_87 hw) T20 h33 fun μ34 u35 T36 => ?_
      refine mr_iload (pc := 79) (z := z12) dX2_leastBelow_79 rfl ?_
      refine mr_iload (pc := 81) (z := z23) dX2_leastBelow_81 rfl ?_
      refine mr_ior (pc := 83) (x := z12) (y := z23) dX2_leastBelow_83 ?_
      refine mr_gen (P := fun z => (-2147483648) ≤ z ∧ z ≤ 2147483647) (r32i _) fun z37 q38 h39 => ?_
      exact mr_iret dX2_leastBelow_84 rfl (le_t rfl) (le_t rfl) T36 (mF.up (mF.call (mF.call mF.refl F10 rfl) F21 rfl) (A_87 hw) u35 rfl) ⟨h39, trivial⟩
    refine mr_iload (pc := 63) (z := z12) dX2_leastBelow_63 rfl ?_
    refine mr_iload (pc := 65) (z := z23) dX2_leastBelow_65 rfl ?_
    refine mr_iand (pc := 67) (x := z12) (y := z23) dX2_leastBelow_67 ?_
    refine mr_gen (P := fun z => (-2147483648) ≤ z ∧ z ≤ 2147483647) (r32i _) fun z40 q41 h42 => ?_
    exact mr_iret dX2_leastBelow_68 rfl (le_t rfl) (le_t rfl) T20 (mF.call (mF.call mF.refl F10 rfl) F21 rfl) ⟨h42, trivial⟩
  have h43 : 0 ≤ z5 ∧ z5 ≤ 0 := (vc_X12_ring_22 h6 h4.1)
  refine sv_aload_n (pc := 16) dX2_leastBelow_16 rfl rfl ?_
  refine mr_iload_n (pc := 17) (z := p1) dX2_leastBelow_17 rfl rfl ?_
  refine mr_iload_n (pc := 18) (z := p2) dX2_leastBelow_18 rfl rfl ?_
  refine mr_cVP (pc := 19) (c_X2_tieFor hw hT hp1 hp2 (vc_X9_end_1 hq0 hp1)) (gOk _ _ _ _ _) dX2_leastBelow_19 (tX2_tieFor _ _ _ _ _) ⟨wV_X2_tieFor, wL_X2_tieFor⟩ wM_X2_60 (gCX2 _ _ _ _ _) rfl (A_87 hw) rfl ⟨le_t rfl, le_t rfl⟩ ⟨le_t rfl, le_t rfl⟩ rfl (le_t rfl) fun z48 h47 => ?_
  refine mr_cSP (pc := 22) (c_X2_aimBit hw hT h47.1) (gOk _ _ _ _ _) dX2_leastBelow_22 (tX2_aimBit _ _ _ _ _) wS_X2_aimBit wM_X2_110 ⟨le_t rfl, le_t rfl⟩ ⟨le_t rfl, le_t rfl⟩ rfl (le_t rfl) fun z53 h52 => ?_
  exact mr_iret dX2_leastBelow_25 rfl (le_t rfl) (le_t rfl) hT mF.refl ⟨h52.1, trivial⟩
theorem vc_X2_leastBelow_23_1 {p3 : Int} (h0 : 32 ≤ p3) (h1 : 23 ≤ p3 ∧ p3 ≤ 23) : False := by omega
set_option maxRecDepth 4000 in
set_option maxHeartbeats 4000000 in
theorem c_X2_leastBelow_23 {l : Launch} {D : va_G} {c : Nat → ClassId} {H0 : Heap} {sa : Nat × Nat × (Nat → Int32)} {w : mW} {μ : mM} (hw : mWF w) (hT : mT w μ) {p1 : Int} (hp1 : 0 ≤ p1 ∧ p1 ≤ 9) {p2 : Int} (hp2 : (-2147483648) ≤ p2 ∧ p2 ≤ 2147483647) {p3 : Int} (hp3 : 23 ≤ p3 ∧ p3 ≤ 23) (hq0 : p1 < w.2.2.2 0) : sC (gG l D c H0 sa) mX2_leastBelow 12 0 0 [.ref 87, iv p1, iv p2, iv p3] (mk w μ) (qI w [87007] μ (fun z μ1 => ((-2147483648) ≤ z ∧ z ≤ 2147483647) ∧ True)) := by
  refine sC.of rfl (by decide) (le_t rfl) ?_
  refine mr_lvE (lv' := [(0, .ref 87), (1, iv p1), (2, iv p2), (3, iv p3)]) rfl ?_
  refine mr_iload_n (pc := 0) (z := p3) dX2_leastBelow_0 rfl rfl ?_
  refine mr_bipush (pc := 1) (z := 32) dX2_leastBelow_1 (by decide) ?_
  refine mr_icmp_ge (pc := 3) (tgt := 16) dX2_leastBelow_3 (by decide) (r32 hp3 rfl) (r32 (rR (x := 32)) rfl) (fun h => ((vc_X2_leastBelow_23_1 h hp3)).elim) (fun _ => ?_)
  refine sv_aload_n (pc := 6) dX2_leastBelow_6 rfl rfl ?_
  refine mr_iload_n (pc := 7) (z := p1) dX2_leastBelow_7 rfl rfl ?_
  refine mr_iload_n (pc := 8) (z := p2) dX2_leastBelow_8 rfl rfl ?_
  refine mr_iload_n (pc := 9) (z := p3) dX2_leastBelow_9 rfl rfl ?_
  refine mr_cVP (pc := 10) (c_X2_isSplit hw hT hp1 hp2 (rW (c := (-2147483648)) (d := 2147483647) hp3 rfl) (vc_X9_end_1 hq0 hp1)) (gOk _ _ _ _ _) dX2_leastBelow_10 (tX2_isSplit _ _ _ _ _) ⟨wV_X2_isSplit, wL_X2_isSplit⟩ wM_X2_106 (gCX2 _ _ _ _ _) rfl (A_87 hw) rfl ⟨le_t rfl, le_t rfl⟩ ⟨le_t rfl, le_t rfl⟩ rfl (le_t rfl) fun z5 h4 => ?_
  refine mr_if_ne (pc := 13) (tgt := 26) dX2_leastBelow_13 (by decide) (r32 h4.1 rfl) (fun h6 => ?_) (fun h6 => ?_)
  · have h7 : 1 ≤ z5 ∧ z5 ≤ 1 := (vc_X12_ring_24 h6 h4.1)
    refine sv_aload_n (pc := 26) dX2_leastBelow_26 rfl rfl ?_
    refine mr_iload_n (pc := 27) (z := p1) dX2_leastBelow_27 rfl rfl ?_
    refine mr_iload_n (pc := 28) (z := p2) dX2_leastBelow_28 rfl rfl ?_
    refine mr_iload_n (pc := 29) (z := p3) dX2_leastBelow_29 rfl rfl ?_
    refine mr_iconst (pc := 30) (z := 1) dX2_leastBelow_30 ?_
    refine mr_iadd (pc := 31) (x := p3) (y := 1) dX2_leastBelow_31 ?_
    refine mr_cVI (pc := 32) (c_X2_leastBelow_24 hw hT hp1 hp2 (rAdd (e := 24) (f := 24) hp3 (rR (x := 1)) rfl) (vc_X9_end_1 hq0 hp1)) (gOk _ _ _ _ _) dX2_leastBelow_32 (tX2_leastBelow _ _ _ _ _) ⟨wV_X2_leastBelow, wL_X2_leastBelow⟩ wM_X2_101 (gCX2 _ _ _ _ _) rfl (A_87 hw) rfl ⟨le_t rfl, le_t rfl⟩ ⟨le_t rfl, le_t rfl⟩ rfl (le_t rfl) fun z12 μ8 T9 F10 h11 => ?_
    refine mr_istore (pc := 35) (lv' := [(4, iv z12), (0, .ref 87), (1, iv p1), (2, iv p2), (3, iv p3)]) dX2_leastBelow_35 (by decide) rfl ?_
    refine sv_aload_n (pc := 37) dX2_leastBelow_37 rfl rfl ?_
    refine mr_iload_n (pc := 38) (z := p1) dX2_leastBelow_38 rfl rfl ?_
    refine mr_iload_n (pc := 39) (z := p2) dX2_leastBelow_39 rfl rfl ?_
    refine mr_iconst (pc := 40) (z := 1) dX2_leastBelow_40 ?_
    refine mr_bipush (pc := 41) (z := 31) dX2_leastBelow_41 (by decide) ?_
    refine mr_iload_n (pc := 43) (z := p3) dX2_leastBelow_43 rfl rfl ?_
    refine mr_isub (pc := 44) (x := 31) (y := p3) dX2_leastBelow_44 ?_
    refine mr_ishl (pc := 45) (x := 1) (y := (31 - p3)) dX2_leastBelow_45 ?_
    refine mr_gen (P := fun z => (-2147483648) ≤ z ∧ z ≤ 2147483647) (r32i _) fun z13 q14 h15 => ?_
    refine mr_ior (pc := 46) (x := p2) (y := z13) dX2_leastBelow_46 ?_
    refine mr_gen (P := fun z => (-2147483648) ≤ z ∧ z ≤ 2147483647) (r32i _) fun z16 q17 h18 => ?_
    refine mr_iload_n (pc := 47) (z := p3) dX2_leastBelow_47 rfl rfl ?_
    refine mr_iconst (pc := 48) (z := 1) dX2_leastBelow_48 ?_
    refine mr_iadd (pc := 49) (x := p3) (y := 1) dX2_leastBelow_49 ?_
    refine mr_cVI (pc := 50) (c_X2_leastBelow_24 hw T9 hp1 h18 (rAdd (e := 24) (f := 24) hp3 (rR (x := 1)) rfl) (vc_X9_end_1 hq0 hp1)) (gOk _ _ _ _ _) dX2_leastBelow_50 (tX2_leastBelow _ _ _ _ _) ⟨wV_X2_leastBelow, wL_X2_leastBelow⟩ wM_X2_101 (gCX2 _ _ _ _ _) rfl (A_87 hw) rfl ⟨le_t rfl, le_t rfl⟩ ⟨le_t rfl, le_t rfl⟩ rfl (le_t rfl) fun z23 μ19 T20 F21 h22 => ?_
    refine mr_istore (pc := 53) (lv' := [(5, iv z23), (4, iv z12), (0, .ref 87), (1, iv p1), (2, iv p2), (3, iv p3)]) dX2_leastBelow_53 (by decide) rfl ?_
    refine mr_iload (pc := 55) (z := z12) dX2_leastBelow_55 rfl ?_
    refine mr_iload (pc := 57) (z := z23) dX2_leastBelow_57 rfl ?_
    refine mr_iand (pc := 59) (x := z12) (y := z23) dX2_leastBelow_59 ?_
    refine mr_gen (P := fun z => (-2147483648) ≤ z ∧ z ≤ 2147483647) (r32i _) fun z24 q25 h26 => ?_
    refine mr_if_eq (pc := 60) (tgt := 69) dX2_leastBelow_60 (by decide) h26 (fun h27 => ?_) (fun h27 => ?_)
    · have h28 : 0 ≤ z24 ∧ z24 ≤ 0 := (vc_X12_mask_1 h27 h26)
      refine sv_aload_n (pc := 69) dX2_leastBelow_69 rfl rfl ?_
      refine sv_dup (pc := 70) dX2_leastBelow_70 rfl ?_
      refine gf_X2_7 (pc := 71) dX2_leastBelow_71 wF_X2_98 (A_87 hw) T20 fun z29 q30 h31 => ?_
      refine mr_iconst (pc := 74) (z := 1) dX2_leastBelow_74 ?_
      refine mr_iadd (pc := 75) (x := z29) (y := 1) dX2_leastBelow_75 ?_
      refine mr_wrap fun z32 h33 => ?_
      refine pf_X2_7 (pc := 76) dX2_leastBelow_76 wF_X2_98 (A_87 hw) T20 h33 fun μ34 u35 T36 => ?_
      refine mr_iload (pc := 79) (z := z12) dX2_leastBelow_79 rfl ?_
      refine mr_iload (pc := 81) (z := z23) dX2_leastBelow_81 rfl ?_
      refine mr_ior (pc := 83) (x := z12) (y := z23) dX2_leastBelow_83 ?_
      refine mr_gen (P := fun z => (-2147483648) ≤ z ∧ z ≤ 2147483647) (r32i _) fun z37 q38 h39 => ?_
      exact mr_iret dX2_leastBelow_84 rfl (le_t rfl) (le_t rfl) T36 (mF.up (mF.call (mF.call mF.refl F10 rfl) F21 rfl) (A_87 hw) u35 rfl) ⟨h39, trivial⟩
    refine mr_iload (pc := 63) (z := z12) dX2_leastBelow_63 rfl ?_
    refine mr_iload (pc := 65) (z := z23) dX2_leastBelow_65 rfl ?_
    refine mr_iand (pc := 67) (x := z12) (y := z23) dX2_leastBelow_67 ?_
    refine mr_gen (P := fun z => (-2147483648) ≤ z ∧ z ≤ 2147483647) (r32i _) fun z40 q41 h42 => ?_
    exact mr_iret dX2_leastBelow_68 rfl (le_t rfl) (le_t rfl) T20 (mF.call (mF.call mF.refl F10 rfl) F21 rfl) ⟨h42, trivial⟩
  have h43 : 0 ≤ z5 ∧ z5 ≤ 0 := (vc_X12_ring_22 h6 h4.1)
  refine sv_aload_n (pc := 16) dX2_leastBelow_16 rfl rfl ?_
  refine mr_iload_n (pc := 17) (z := p1) dX2_leastBelow_17 rfl rfl ?_
  refine mr_iload_n (pc := 18) (z := p2) dX2_leastBelow_18 rfl rfl ?_
  refine mr_cVP (pc := 19) (c_X2_tieFor hw hT hp1 hp2 (vc_X9_end_1 hq0 hp1)) (gOk _ _ _ _ _) dX2_leastBelow_19 (tX2_tieFor _ _ _ _ _) ⟨wV_X2_tieFor, wL_X2_tieFor⟩ wM_X2_60 (gCX2 _ _ _ _ _) rfl (A_87 hw) rfl ⟨le_t rfl, le_t rfl⟩ ⟨le_t rfl, le_t rfl⟩ rfl (le_t rfl) fun z48 h47 => ?_
  refine mr_cSP (pc := 22) (c_X2_aimBit hw hT h47.1) (gOk _ _ _ _ _) dX2_leastBelow_22 (tX2_aimBit _ _ _ _ _) wS_X2_aimBit wM_X2_110 ⟨le_t rfl, le_t rfl⟩ ⟨le_t rfl, le_t rfl⟩ rfl (le_t rfl) fun z53 h52 => ?_
  exact mr_iret dX2_leastBelow_25 rfl (le_t rfl) (le_t rfl) hT mF.refl ⟨h52.1, trivial⟩
theorem vc_X2_leastBelow_22_1 {p3 : Int} (h0 : 32 ≤ p3) (h1 : 22 ≤ p3 ∧ p3 ≤ 22) : False := by omega
set_option maxRecDepth 4000 in
set_option maxHeartbeats 4000000 in
theorem c_X2_leastBelow_22 {l : Launch} {D : va_G} {c : Nat → ClassId} {H0 : Heap} {sa : Nat × Nat × (Nat → Int32)} {w : mW} {μ : mM} (hw : mWF w) (hT : mT w μ) {p1 : Int} (hp1 : 0 ≤ p1 ∧ p1 ≤ 9) {p2 : Int} (hp2 : (-2147483648) ≤ p2 ∧ p2 ≤ 2147483647) {p3 : Int} (hp3 : 22 ≤ p3 ∧ p3 ≤ 22) (hq0 : p1 < w.2.2.2 0) : sC (gG l D c H0 sa) mX2_leastBelow 13 0 0 [.ref 87, iv p1, iv p2, iv p3] (mk w μ) (qI w [87007] μ (fun z μ1 => ((-2147483648) ≤ z ∧ z ≤ 2147483647) ∧ True)) := by
  refine sC.of rfl (by decide) (le_t rfl) ?_
  refine mr_lvE (lv' := [(0, .ref 87), (1, iv p1), (2, iv p2), (3, iv p3)]) rfl ?_
  refine mr_iload_n (pc := 0) (z := p3) dX2_leastBelow_0 rfl rfl ?_
  refine mr_bipush (pc := 1) (z := 32) dX2_leastBelow_1 (by decide) ?_
  refine mr_icmp_ge (pc := 3) (tgt := 16) dX2_leastBelow_3 (by decide) (r32 hp3 rfl) (r32 (rR (x := 32)) rfl) (fun h => ((vc_X2_leastBelow_22_1 h hp3)).elim) (fun _ => ?_)
  refine sv_aload_n (pc := 6) dX2_leastBelow_6 rfl rfl ?_
  refine mr_iload_n (pc := 7) (z := p1) dX2_leastBelow_7 rfl rfl ?_
  refine mr_iload_n (pc := 8) (z := p2) dX2_leastBelow_8 rfl rfl ?_
  refine mr_iload_n (pc := 9) (z := p3) dX2_leastBelow_9 rfl rfl ?_
  refine mr_cVP (pc := 10) (c_X2_isSplit hw hT hp1 hp2 (rW (c := (-2147483648)) (d := 2147483647) hp3 rfl) (vc_X9_end_1 hq0 hp1)) (gOk _ _ _ _ _) dX2_leastBelow_10 (tX2_isSplit _ _ _ _ _) ⟨wV_X2_isSplit, wL_X2_isSplit⟩ wM_X2_106 (gCX2 _ _ _ _ _) rfl (A_87 hw) rfl ⟨le_t rfl, le_t rfl⟩ ⟨le_t rfl, le_t rfl⟩ rfl (le_t rfl) fun z5 h4 => ?_
  refine mr_if_ne (pc := 13) (tgt := 26) dX2_leastBelow_13 (by decide) (r32 h4.1 rfl) (fun h6 => ?_) (fun h6 => ?_)
  · have h7 : 1 ≤ z5 ∧ z5 ≤ 1 := (vc_X12_ring_24 h6 h4.1)
    refine sv_aload_n (pc := 26) dX2_leastBelow_26 rfl rfl ?_
    refine mr_iload_n (pc := 27) (z := p1) dX2_leastBelow_27 rfl rfl ?_
    refine mr_iload_n (pc := 28) (z := p2) dX2_leastBelow_28 rfl rfl ?_
    refine mr_iload_n (pc := 29) (z := p3) dX2_leastBelow_29 rfl rfl ?_
    refine mr_iconst (pc := 30) (z := 1) dX2_leastBelow_30 ?_
    refine mr_iadd (pc := 31) (x := p3) (y := 1) dX2_leastBelow_31 ?_
    refine mr_cVI (pc := 32) (c_X2_leastBelow_23 hw hT hp1 hp2 (rAdd (e := 23) (f := 23) hp3 (rR (x := 1)) rfl) (vc_X9_end_1 hq0 hp1)) (gOk _ _ _ _ _) dX2_leastBelow_32 (tX2_leastBelow _ _ _ _ _) ⟨wV_X2_leastBelow, wL_X2_leastBelow⟩ wM_X2_101 (gCX2 _ _ _ _ _) rfl (A_87 hw) rfl ⟨le_t rfl, le_t rfl⟩ ⟨le_t rfl, le_t rfl⟩ rfl (le_t rfl) fun z12 μ8 T9 F10 h11 => ?_
    refine mr_istore (pc := 35) (lv' := [(4, iv z12), (0, .ref 87), (1, iv p1), (2, iv p2), (3, iv p3)]) dX2_leastBelow_35 (by decide) rfl ?_
    refine sv_aload_n (pc := 37) dX2_leastBelow_37 rfl rfl ?_
    refine mr_iload_n (pc := 38) (z := p1) dX2_leastBelow_38 rfl rfl ?_
    refine mr_iload_n (pc := 39) (z := p2) dX2_leastBelow_39 rfl rfl ?_
    refine mr_iconst (pc := 40) (z := 1) dX2_leastBelow_40 ?_
    refine mr_bipush (pc := 41) (z := 31) dX2_leastBelow_41 (by decide) ?_
    refine mr_iload_n (pc := 43) (z := p3) dX2_leastBelow_43 rfl rfl ?_
    refine mr_isub (pc := 44) (x := 31) (y := p3) dX2_leastBelow_44 ?_
    refine mr_ishl (pc := 45) (x := 1) (y := (31 - p3)) dX2_leastBelow_45 ?_
    refine mr_gen (P := fun z => (-2147483648) ≤ z ∧ z ≤ 2147483647) (r32i _) fun z13 q14 h15 => ?_
    refine mr_ior (pc := 46) (x := p2) (y := z13) dX2_leastBelow_46 ?_
    refine mr_gen (P := fun z => (-2147483648) ≤ z ∧ z ≤ 2147483647) (r32i _) fun z16 q17 h18 => ?_
    refine mr_iload_n (pc := 47) (z := p3) dX2_leastBelow_47 rfl rfl ?_
    refine mr_iconst (pc := 48) (z := 1) dX2_leastBelow_48 ?_
    refine mr_iadd (pc := 49) (x := p3) (y := 1) dX2_leastBelow_49 ?_
    refine mr_cVI (pc := 50) (c_X2_leastBelow_23 hw T9 hp1 h18 (rAdd (e := 23) (f := 23) hp3 (rR (x := 1)) rfl) (vc_X9_end_1 hq0 hp1)) (gOk _ _ _ _ _) dX2_leastBelow_50 (tX2_leastBelow _ _ _ _ _) ⟨wV_X2_leastBelow, wL_X2_leastBelow⟩ wM_X2_101 (gCX2 _ _ _ _ _) rfl (A_87 hw) rfl ⟨le_t rfl, le_t rfl⟩ ⟨le_t rfl, le_t rfl⟩ rfl (le_t rfl) fun z23 μ19 T20 F21 h22 => ?_
    refine mr_istore (pc := 53) (lv' := [(5, iv z23), (4, iv z12), (0, .ref 87), (1, iv p1), (2, iv p2), (3, iv p3)]) dX2_leastBelow_53 (by decide) rfl ?_
    refine mr_iload (pc := 55) (z := z12) dX2_leastBelow_55 rfl ?_
    refine mr_iload (pc := 57) (z := z23) dX2_leastBelow_57 rfl ?_
    refine mr_iand (pc := 59) (x := z12) (y := z23) dX2_leastBelow_59 ?_
    refine mr_gen (P := fun z => (-2147483648) ≤ z ∧ z ≤ 2147483647) (r32i _) fun z24 q25 h26 => ?_
    refine mr_if_eq (pc := 60) (tgt := 69) dX2_leastBelow_60 (by decide) h26 (fun h27 => ?_) (fun h27 => ?_)
    · have h28 : 0 ≤ z24 ∧ z24 ≤ 0 := (vc_X12_mask_1 h27 h26)
      refine sv_aload_n (pc := 69) dX2_leastBelow_69 rfl rfl ?_
      refine sv_dup (pc := 70) dX2_leastBelow_70 rfl ?_
      refine gf_X2_7 (pc := 71) dX2_leastBelow_71 wF_X2_98 (A_87 hw) T20 fun z29 q30 h31 => ?_
      refine mr_iconst (pc := 74) (z := 1) dX2_leastBelow_74 ?_
      refine mr_iadd (pc := 75) (x := z29) (y := 1) dX2_leastBelow_75 ?_
      refine mr_wrap fun z32 h33 => ?_
      refine pf_X2_7 (pc := 76) dX2_leastBelow_76 wF_X2_98 (A_87 hw) T20 h33 fun μ34 u35 T36 => ?_
      refine mr_iload (pc := 79) (z := z12) dX2_leastBelow_79 rfl ?_
      refine mr_iload (pc := 81) (z := z23) dX2_leastBelow_81 rfl ?_
      refine mr_ior (pc := 83) (x := z12) (y := z23) dX2_leastBelow_83 ?_
      refine mr_gen (P := fun z => (-2147483648) ≤ z ∧ z ≤ 2147483647) (r32i _) fun z37 q38 h39 => ?_
      exact mr_iret dX2_leastBelow_84 rfl (le_t rfl) (le_t rfl) T36 (mF.up (mF.call (mF.call mF.refl F10 rfl) F21 rfl) (A_87 hw) u35 rfl) ⟨h39, trivial⟩
    refine mr_iload (pc := 63) (z := z12) dX2_leastBelow_63 rfl ?_
    refine mr_iload (pc := 65) (z := z23) dX2_leastBelow_65 rfl ?_
    refine mr_iand (pc := 67) (x := z12) (y := z23) dX2_leastBelow_67 ?_
    refine mr_gen (P := fun z => (-2147483648) ≤ z ∧ z ≤ 2147483647) (r32i _) fun z40 q41 h42 => ?_
    exact mr_iret dX2_leastBelow_68 rfl (le_t rfl) (le_t rfl) T20 (mF.call (mF.call mF.refl F10 rfl) F21 rfl) ⟨h42, trivial⟩
  have h43 : 0 ≤ z5 ∧ z5 ≤ 0 := (vc_X12_ring_22 h6 h4.1)
  refine sv_aload_n (pc := 16) dX2_leastBelow_16 rfl rfl ?_
  refine mr_iload_n (pc := 17) (z := p1) dX2_leastBelow_17 rfl rfl ?_
  refine mr_iload_n (pc := 18) (z := p2) dX2_leastBelow_18 rfl rfl ?_
  refine mr_cVP (pc := 19) (c_X2_tieFor hw hT hp1 hp2 (vc_X9_end_1 hq0 hp1)) (gOk _ _ _ _ _) dX2_leastBelow_19 (tX2_tieFor _ _ _ _ _) ⟨wV_X2_tieFor, wL_X2_tieFor⟩ wM_X2_60 (gCX2 _ _ _ _ _) rfl (A_87 hw) rfl ⟨le_t rfl, le_t rfl⟩ ⟨le_t rfl, le_t rfl⟩ rfl (le_t rfl) fun z48 h47 => ?_
  refine mr_cSP (pc := 22) (c_X2_aimBit hw hT h47.1) (gOk _ _ _ _ _) dX2_leastBelow_22 (tX2_aimBit _ _ _ _ _) wS_X2_aimBit wM_X2_110 ⟨le_t rfl, le_t rfl⟩ ⟨le_t rfl, le_t rfl⟩ rfl (le_t rfl) fun z53 h52 => ?_
  exact mr_iret dX2_leastBelow_25 rfl (le_t rfl) (le_t rfl) hT mF.refl ⟨h52.1, trivial⟩
theorem vc_X2_leastBelow_21_1 {p3 : Int} (h0 : 32 ≤ p3) (h1 : 21 ≤ p3 ∧ p3 ≤ 21) : False := by omega
set_option maxRecDepth 4000 in
set_option maxHeartbeats 4000000 in
theorem c_X2_leastBelow_21 {l : Launch} {D : va_G} {c : Nat → ClassId} {H0 : Heap} {sa : Nat × Nat × (Nat → Int32)} {w : mW} {μ : mM} (hw : mWF w) (hT : mT w μ) {p1 : Int} (hp1 : 0 ≤ p1 ∧ p1 ≤ 9) {p2 : Int} (hp2 : (-2147483648) ≤ p2 ∧ p2 ≤ 2147483647) {p3 : Int} (hp3 : 21 ≤ p3 ∧ p3 ≤ 21) (hq0 : p1 < w.2.2.2 0) : sC (gG l D c H0 sa) mX2_leastBelow 14 0 0 [.ref 87, iv p1, iv p2, iv p3] (mk w μ) (qI w [87007] μ (fun z μ1 => ((-2147483648) ≤ z ∧ z ≤ 2147483647) ∧ True)) := by
  refine sC.of rfl (by decide) (le_t rfl) ?_
  refine mr_lvE (lv' := [(0, .ref 87), (1, iv p1), (2, iv p2), (3, iv p3)]) rfl ?_
  refine mr_iload_n (pc := 0) (z := p3) dX2_leastBelow_0 rfl rfl ?_
  refine mr_bipush (pc := 1) (z := 32) dX2_leastBelow_1 (by decide) ?_
  refine mr_icmp_ge (pc := 3) (tgt := 16) dX2_leastBelow_3 (by decide) (r32 hp3 rfl) (r32 (rR (x := 32)) rfl) (fun h => ((vc_X2_leastBelow_21_1 h hp3)).elim) (fun _ => ?_)
  refine sv_aload_n (pc := 6) dX2_leastBelow_6 rfl rfl ?_
  refine mr_iload_n (pc := 7) (z := p1) dX2_leastBelow_7 rfl rfl ?_
  refine mr_iload_n (pc := 8) (z := p2) dX2_leastBelow_8 rfl rfl ?_
  refine mr_iload_n (pc := 9) (z := p3) dX2_leastBelow_9 rfl rfl ?_
  refine mr_cVP (pc := 10) (c_X2_isSplit hw hT hp1 hp2 (rW (c := (-2147483648)) (d := 2147483647) hp3 rfl) (vc_X9_end_1 hq0 hp1)) (gOk _ _ _ _ _) dX2_leastBelow_10 (tX2_isSplit _ _ _ _ _) ⟨wV_X2_isSplit, wL_X2_isSplit⟩ wM_X2_106 (gCX2 _ _ _ _ _) rfl (A_87 hw) rfl ⟨le_t rfl, le_t rfl⟩ ⟨le_t rfl, le_t rfl⟩ rfl (le_t rfl) fun z5 h4 => ?_
  refine mr_if_ne (pc := 13) (tgt := 26) dX2_leastBelow_13 (by decide) (r32 h4.1 rfl) (fun h6 => ?_) (fun h6 => ?_)
  · have h7 : 1 ≤ z5 ∧ z5 ≤ 1 := (vc_X12_ring_24 h6 h4.1)
    refine sv_aload_n (pc := 26) dX2_leastBelow_26 rfl rfl ?_
    refine mr_iload_n (pc := 27) (z := p1) dX2_leastBelow_27 rfl rfl ?_
    refine mr_iload_n (pc := 28) (z := p2) dX2_leastBelow_28 rfl rfl ?_
    refine mr_iload_n (pc := 29) (z := p3) dX2_leastBelow_29 rfl rfl ?_
    refine mr_iconst (pc := 30) (z := 1) dX2_leastBelow_30 ?_
    refine mr_iadd (pc := 31) (x := p3) (y := 1) dX2_leastBelow_31 ?_
    refine mr_cVI (pc := 32) (c_X2_leastBelow_22 hw hT hp1 hp2 (rAdd (e := 22) (f := 22) hp3 (rR (x := 1)) rfl) (vc_X9_end_1 hq0 hp1)) (gOk _ _ _ _ _) dX2_leastBelow_32 (tX2_leastBelow _ _ _ _ _) ⟨wV_X2_leastBelow, wL_X2_leastBelow⟩ wM_X2_101 (gCX2 _ _ _ _ _) rfl (A_87 hw) rfl ⟨le_t rfl, le_t rfl⟩ ⟨le_t rfl, le_t rfl⟩ rfl (le_t rfl) fun z12 μ8 T9 F10 h11 => ?_
    refine mr_istore (pc := 35) (lv' := [(4, iv z12), (0, .ref 87), (1, iv p1), (2, iv p2), (3, iv p3)]) dX2_leastBelow_35 (by decide) rfl ?_
    refine sv_aload_n (pc := 37) dX2_leastBelow_37 rfl rfl ?_
    refine mr_iload_n (pc := 38) (z := p1) dX2_leastBelow_38 rfl rfl ?_
    refine mr_iload_n (pc := 39) (z := p2) dX2_leastBelow_39 rfl rfl ?_
    refine mr_iconst (pc := 40) (z := 1) dX2_leastBelow_40 ?_
    refine mr_bipush (pc := 41) (z := 31) dX2_leastBelow_41 (by decide) ?_
    refine mr_iload_n (pc := 43) (z := p3) dX2_leastBelow_43 rfl rfl ?_
    refine mr_isub (pc := 44) (x := 31) (y := p3) dX2_leastBelow_44 ?_
    refine mr_ishl (pc := 45) (x := 1) (y := (31 - p3)) dX2_leastBelow_45 ?_
    refine mr_gen (P := fun z => (-2147483648) ≤ z ∧ z ≤ 2147483647) (r32i _) fun z13 q14 h15 => ?_
    refine mr_ior (pc := 46) (x := p2) (y := z13) dX2_leastBelow_46 ?_
    refine mr_gen (P := fun z => (-2147483648) ≤ z ∧ z ≤ 2147483647) (r32i _) fun z16 q17 h18 => ?_
    refine mr_iload_n (pc := 47) (z := p3) dX2_leastBelow_47 rfl rfl ?_
    refine mr_iconst (pc := 48) (z := 1) dX2_leastBelow_48 ?_
    refine mr_iadd (pc := 49) (x := p3) (y := 1) dX2_leastBelow_49 ?_
    refine mr_cVI (pc := 50) (c_X2_leastBelow_22 hw T9 hp1 h18 (rAdd (e := 22) (f := 22) hp3 (rR (x := 1)) rfl) (vc_X9_end_1 hq0 hp1)) (gOk _ _ _ _ _) dX2_leastBelow_50 (tX2_leastBelow _ _ _ _ _) ⟨wV_X2_leastBelow, wL_X2_leastBelow⟩ wM_X2_101 (gCX2 _ _ _ _ _) rfl (A_87 hw) rfl ⟨le_t rfl, le_t rfl⟩ ⟨le_t rfl, le_t rfl⟩ rfl (le_t rfl) fun z23 μ19 T20 F21 h22 => ?_
    refine mr_istore (pc := 53) (lv' := [(5, iv z23), (4, iv z12), (0, .ref 87), (1, iv p1), (2, iv p2), (3, iv p3)]) dX2_leastBelow_53 (by decide) rfl ?_
    refine mr_iload (pc := 55) (z := z12) dX2_leastBelow_55 rfl ?_
    refine mr_iload (pc := 57) (z := z23) dX2_leastBelow_57 rfl ?_
    refine mr_iand (pc := 59) (x := z12) (y := z23) dX2_leastBelow_59 ?_
    refine mr_gen (P := fun z => (-2147483648) ≤ z ∧ z ≤ 2147483647) (r32i _) fun z24 q25 h26 => ?_
    refine mr_if_eq (pc := 60) (tgt := 69) dX2_leastBelow_60 (by decide) h26 (fun h27 => ?_) (fun h27 => ?_)
    · have h28 : 0 ≤ z24 ∧ z24 ≤ 0 := (vc_X12_mask_1 h27 h26)
      refine sv_aload_n (pc := 69) dX2_leastBelow_69 rfl rfl ?_
      refine sv_dup (pc := 70) dX2_leastBelow_70 rfl ?_
      refine gf_X2_7 (pc := 71) dX2_leastBelow_71 wF_X2_98 (A_87 hw) T20 fun z29 q30 h31 => ?_
      refine mr_iconst (pc := 74) (z := 1) dX2_leastBelow_74 ?_
      refine mr_iadd (pc := 75) (x := z29) (y := 1) dX2_leastBelow_75 ?_
      refine mr_wrap fun z32 h33 => ?_
      refine pf_X2_7 (pc := 76) dX2_leastBelow_76 wF_X2_98 (A_87 hw) T20 h33 fun μ34 u35 T36 => ?_
      refine mr_iload (pc := 79) (z := z12) dX2_leastBelow_79 rfl ?_
      refine mr_iload (pc := 81) (z := z23) dX2_leastBelow_81 rfl ?_
      refine mr_ior (pc := 83) (x := z12) (y := z23) dX2_leastBelow_83 ?_
      refine mr_gen (P := fun z => (-2147483648) ≤ z ∧ z ≤ 2147483647) (r32i _) fun z37 q38 h39 => ?_
      exact mr_iret dX2_leastBelow_84 rfl (le_t rfl) (le_t rfl) T36 (mF.up (mF.call (mF.call mF.refl F10 rfl) F21 rfl) (A_87 hw) u35 rfl) ⟨h39, trivial⟩
    refine mr_iload (pc := 63) (z := z12) dX2_leastBelow_63 rfl ?_
    refine mr_iload (pc := 65) (z := z23) dX2_leastBelow_65 rfl ?_
    refine mr_iand (pc := 67) (x := z12) (y := z23) dX2_leastBelow_67 ?_
    refine mr_gen (P := fun z => (-2147483648) ≤ z ∧ z ≤ 2147483647) (r32i _) fun z40 q41 h42 => ?_
    exact mr_iret dX2_leastBelow_68 rfl (le_t rfl) (le_t rfl) T20 (mF.call (mF.call mF.refl F10 rfl) F21 rfl) ⟨h42, trivial⟩
  have h43 : 0 ≤ z5 ∧ z5 ≤ 0 := (vc_X12_ring_22 h6 h4.1)
  refine sv_aload_n (pc := 16) dX2_leastBelow_16 rfl rfl ?_
  refine mr_iload_n (pc := 17) (z := p1) dX2_leastBelow_17 rfl rfl ?_
  refine mr_iload_n (pc := 18) (z := p2) dX2_leastBelow_18 rfl rfl ?_
  refine mr_cVP (pc := 19) (c_X2_tieFor hw hT hp1 hp2 (vc_X9_end_1 hq0 hp1)) (gOk _ _ _ _ _) dX2_leastBelow_19 (tX2_tieFor _ _ _ _ _) ⟨wV_X2_tieFor, wL_X2_tieFor⟩ wM_X2_60 (gCX2 _ _ _ _ _) rfl (A_87 hw) rfl ⟨le_t rfl, le_t rfl⟩ ⟨le_t rfl, le_t rfl⟩ rfl (le_t rfl) fun z48 h47 => ?_
  refine mr_cSP (pc := 22) (c_X2_aimBit hw hT h47.1) (gOk _ _ _ _ _) dX2_leastBelow_22 (tX2_aimBit _ _ _ _ _) wS_X2_aimBit wM_X2_110 ⟨le_t rfl, le_t rfl⟩ ⟨le_t rfl, le_t rfl⟩ rfl (le_t rfl) fun z53 h52 => ?_
  exact mr_iret dX2_leastBelow_25 rfl (le_t rfl) (le_t rfl) hT mF.refl ⟨h52.1, trivial⟩
theorem vc_X2_leastBelow_20_1 {p3 : Int} (h0 : 32 ≤ p3) (h1 : 20 ≤ p3 ∧ p3 ≤ 20) : False := by omega
set_option maxRecDepth 4000 in
set_option maxHeartbeats 4000000 in
theorem c_X2_leastBelow_20 {l : Launch} {D : va_G} {c : Nat → ClassId} {H0 : Heap} {sa : Nat × Nat × (Nat → Int32)} {w : mW} {μ : mM} (hw : mWF w) (hT : mT w μ) {p1 : Int} (hp1 : 0 ≤ p1 ∧ p1 ≤ 9) {p2 : Int} (hp2 : (-2147483648) ≤ p2 ∧ p2 ≤ 2147483647) {p3 : Int} (hp3 : 20 ≤ p3 ∧ p3 ≤ 20) (hq0 : p1 < w.2.2.2 0) : sC (gG l D c H0 sa) mX2_leastBelow 15 0 0 [.ref 87, iv p1, iv p2, iv p3] (mk w μ) (qI w [87007] μ (fun z μ1 => ((-2147483648) ≤ z ∧ z ≤ 2147483647) ∧ True)) := by
  refine sC.of rfl (by decide) (le_t rfl) ?_
  refine mr_lvE (lv' := [(0, .ref 87), (1, iv p1), (2, iv p2), (3, iv p3)]) rfl ?_
  refine mr_iload_n (pc := 0) (z := p3) dX2_leastBelow_0 rfl rfl ?_
  refine mr_bipush (pc := 1) (z := 32) dX2_leastBelow_1 (by decide) ?_
  refine mr_icmp_ge (pc := 3) (tgt := 16) dX2_leastBelow_3 (by decide) (r32 hp3 rfl) (r32 (rR (x := 32)) rfl) (fun h => ((vc_X2_leastBelow_20_1 h hp3)).elim) (fun _ => ?_)
  refine sv_aload_n (pc := 6) dX2_leastBelow_6 rfl rfl ?_
  refine mr_iload_n (pc := 7) (z := p1) dX2_leastBelow_7 rfl rfl ?_
  refine mr_iload_n (pc := 8) (z := p2) dX2_leastBelow_8 rfl rfl ?_
  refine mr_iload_n (pc := 9) (z := p3) dX2_leastBelow_9 rfl rfl ?_
  refine mr_cVP (pc := 10) (c_X2_isSplit hw hT hp1 hp2 (rW (c := (-2147483648)) (d := 2147483647) hp3 rfl) (vc_X9_end_1 hq0 hp1)) (gOk _ _ _ _ _) dX2_leastBelow_10 (tX2_isSplit _ _ _ _ _) ⟨wV_X2_isSplit, wL_X2_isSplit⟩ wM_X2_106 (gCX2 _ _ _ _ _) rfl (A_87 hw) rfl ⟨le_t rfl, le_t rfl⟩ ⟨le_t rfl, le_t rfl⟩ rfl (le_t rfl) fun z5 h4 => ?_
  refine mr_if_ne (pc := 13) (tgt := 26) dX2_leastBelow_13 (by decide) (r32 h4.1 rfl) (fun h6 => ?_) (fun h6 => ?_)
  · have h7 : 1 ≤ z5 ∧ z5 ≤ 1 := (vc_X12_ring_24 h6 h4.1)
    refine sv_aload_n (pc := 26) dX2_leastBelow_26 rfl rfl ?_
    refine mr_iload_n (pc := 27) (z := p1) dX2_leastBelow_27 rfl rfl ?_
    refine mr_iload_n (pc := 28) (z := p2) dX2_leastBelow_28 rfl rfl ?_
    refine mr_iload_n (pc := 29) (z := p3) dX2_leastBelow_29 rfl rfl ?_
    refine mr_iconst (pc := 30) (z := 1) dX2_leastBelow_30 ?_
    refine mr_iadd (pc := 31) (x := p3) (y := 1) dX2_leastBelow_31 ?_
    refine mr_cVI (pc := 32) (c_X2_leastBelow_21 hw hT hp1 hp2 (rAdd (e := 21) (f := 21) hp3 (rR (x := 1)) rfl) (vc_X9_end_1 hq0 hp1)) (gOk _ _ _ _ _) dX2_leastBelow_32 (tX2_leastBelow _ _ _ _ _) ⟨wV_X2_leastBelow, wL_X2_leastBelow⟩ wM_X2_101 (gCX2 _ _ _ _ _) rfl (A_87 hw) rfl ⟨le_t rfl, le_t rfl⟩ ⟨le_t rfl, le_t rfl⟩ rfl (le_t rfl) fun z12 μ8 T9 F10 h11 => ?_
    refine mr_istore (pc := 35) (lv' := [(4, iv z12), (0, .ref 87), (1, iv p1), (2, iv p2), (3, iv p3)]) dX2_leastBelow_35 (by decide) rfl ?_
    refine sv_aload_n (pc := 37) dX2_leastBelow_37 rfl rfl ?_
    refine mr_iload_n (pc := 38) (z := p1) dX2_leastBelow_38 rfl rfl ?_
    refine mr_iload_n (pc := 39) (z := p2) dX2_leastBelow_39 rfl rfl ?_
    refine mr_iconst (pc := 40) (z := 1) dX2_leastBelow_40 ?_
    refine mr_bipush (pc := 41) (z := 31) dX2_leastBelow_41 (by decide) ?_
    refine mr_iload_n (pc := 43) (z := p3) dX2_leastBelow_43 rfl rfl ?_
    refine mr_isub (pc := 44) (x := 31) (y := p3) dX2_leastBelow_44 ?_
    refine mr_ishl (pc := 45) (x := 1) (y := (31 - p3)) dX2_leastBelow_45 ?_
    refine mr_gen (P := fun z => (-2147483648) ≤ z ∧ z ≤ 2147483647) (r32i _) fun z13 q14 h15 => ?_
    refine mr_ior (pc := 46) (x := p2) (y := z13) dX2_leastBelow_46 ?_
    refine mr_gen (P := fun z => (-2147483648) ≤ z ∧ z ≤ 2147483647) (r32i _) fun z16 q17 h18 => ?_
    refine mr_iload_n (pc := 47) (z := p3) dX2_leastBelow_47 rfl rfl ?_
    refine mr_iconst (pc := 48) (z := 1) dX2_leastBelow_48 ?_
    refine mr_iadd (pc := 49) (x := p3) (y := 1) dX2_leastBelow_49 ?_
    refine mr_cVI (pc := 50) (c_X2_leastBelow_21 hw T9 hp1 h18 (rAdd (e := 21) (f := 21) hp3 (rR (x := 1)) rfl) (vc_X9_end_1 hq0 hp1)) (gOk _ _ _ _ _) dX2_leastBelow_50 (tX2_leastBelow _ _ _ _ _) ⟨wV_X2_leastBelow, wL_X2_leastBelow⟩ wM_X2_101 (gCX2 _ _ _ _ _) rfl (A_87 hw) rfl ⟨le_t rfl, le_t rfl⟩ ⟨le_t rfl, le_t rfl⟩ rfl (le_t rfl) fun z23 μ19 T20 F21 h22 => ?_
    refine mr_istore (pc := 53) (lv' := [(5, iv z23), (4, iv z12), (0, .ref 87), (1, iv p1), (2, iv p2), (3, iv p3)]) dX2_leastBelow_53 (by decide) rfl ?_
    refine mr_iload (pc := 55) (z := z12) dX2_leastBelow_55 rfl ?_
    refine mr_iload (pc := 57) (z := z23) dX2_leastBelow_57 rfl ?_
    refine mr_iand (pc := 59) (x := z12) (y := z23) dX2_leastBelow_59 ?_
    refine mr_gen (P := fun z => (-2147483648) ≤ z ∧ z ≤ 2147483647) (r32i _) fun z24 q25 h26 => ?_
    refine mr_if_eq (pc := 60) (tgt := 69) dX2_leastBelow_60 (by decide) h26 (fun h27 => ?_) (fun h27 => ?_)
    · have h28 : 0 ≤ z24 ∧ z24 ≤ 0 := (vc_X12_mask_1 h27 h26)
      refine sv_aload_n (pc := 69) dX2_leastBelow_69 rfl rfl ?_
      refine sv_dup (pc := 70) dX2_leastBelow_70 rfl ?_
      refine gf_X2_7 (pc := 71) dX2_leastBelow_71 wF_X2_98 (A_87 hw) T20 fun z29 q30 h31 => ?_
      refine mr_iconst (pc := 74) (z := 1) dX2_leastBelow_74 ?_
      refine mr_iadd (pc := 75) (x := z29) (y := 1) dX2_leastBelow_75 ?_
      refine mr_wrap fun z32 h33 => ?_
      refine pf_X2_7 (pc := 76) dX2_leastBelow_76 wF_X2_98 (A_87 hw) T20 h33 fun μ34 u35 T36 => ?_
      refine mr_iload (pc := 79) (z := z12) dX2_leastBelow_79 rfl ?_
      refine mr_iload (pc := 81) (z := z23) dX2_leastBelow_81 rfl ?_
      refine mr_ior (pc := 83) (x := z12) (y := z23) dX2_leastBelow_83 ?_
      refine mr_gen (P := fun z => (-2147483648) ≤ z ∧ z ≤ 2147483647) (r32i _) fun z37 q38 h39 => ?_
      exact mr_iret dX2_leastBelow_84 rfl (le_t rfl) (le_t rfl) T36 (mF.up (mF.call (mF.call mF.refl F10 rfl) F21 rfl) (A_87 hw) u35 rfl) ⟨h39, trivial⟩
    refine mr_iload (pc := 63) (z := z12) dX2_leastBelow_63 rfl ?_
    refine mr_iload (pc := 65) (z := z23) dX2_leastBelow_65 rfl ?_
    refine mr_iand (pc := 67) (x := z12) (y := z23) dX2_leastBelow_67 ?_
    refine mr_gen (P := fun z => (-2147483648) ≤ z ∧ z ≤ 2147483647) (r32i _) fun z40 q41 h42 => ?_
    exact mr_iret dX2_leastBelow_68 rfl (le_t rfl) (le_t rfl) T20 (mF.call (mF.call mF.refl F10 rfl) F21 rfl) ⟨h42, trivial⟩
  have h43 : 0 ≤ z5 ∧ z5 ≤ 0 := (vc_X12_ring_22 h6 h4.1)
  refine sv_aload_n (pc := 16) dX2_leastBelow_16 rfl rfl ?_
  refine mr_iload_n (pc := 17) (z := p1) dX2_leastBelow_17 rfl rfl ?_
  refine mr_iload_n (pc := 18) (z := p2) dX2_leastBelow_18 rfl rfl ?_
  refine mr_cVP (pc := 19) (c_X2_tieFor hw hT hp1 hp2 (vc_X9_end_1 hq0 hp1)) (gOk _ _ _ _ _) dX2_leastBelow_19 (tX2_tieFor _ _ _ _ _) ⟨wV_X2_tieFor, wL_X2_tieFor⟩ wM_X2_60 (gCX2 _ _ _ _ _) rfl (A_87 hw) rfl ⟨le_t rfl, le_t rfl⟩ ⟨le_t rfl, le_t rfl⟩ rfl (le_t rfl) fun z48 h47 => ?_
  refine mr_cSP (pc := 22) (c_X2_aimBit hw hT h47.1) (gOk _ _ _ _ _) dX2_leastBelow_22 (tX2_aimBit _ _ _ _ _) wS_X2_aimBit wM_X2_110 ⟨le_t rfl, le_t rfl⟩ ⟨le_t rfl, le_t rfl⟩ rfl (le_t rfl) fun z53 h52 => ?_
  exact mr_iret dX2_leastBelow_25 rfl (le_t rfl) (le_t rfl) hT mF.refl ⟨h52.1, trivial⟩
theorem vc_X2_leastBelow_19_1 {p3 : Int} (h0 : 32 ≤ p3) (h1 : 19 ≤ p3 ∧ p3 ≤ 19) : False := by omega
set_option maxRecDepth 4000 in
set_option maxHeartbeats 4000000 in
theorem c_X2_leastBelow_19 {l : Launch} {D : va_G} {c : Nat → ClassId} {H0 : Heap} {sa : Nat × Nat × (Nat → Int32)} {w : mW} {μ : mM} (hw : mWF w) (hT : mT w μ) {p1 : Int} (hp1 : 0 ≤ p1 ∧ p1 ≤ 9) {p2 : Int} (hp2 : (-2147483648) ≤ p2 ∧ p2 ≤ 2147483647) {p3 : Int} (hp3 : 19 ≤ p3 ∧ p3 ≤ 19) (hq0 : p1 < w.2.2.2 0) : sC (gG l D c H0 sa) mX2_leastBelow 16 0 0 [.ref 87, iv p1, iv p2, iv p3] (mk w μ) (qI w [87007] μ (fun z μ1 => ((-2147483648) ≤ z ∧ z ≤ 2147483647) ∧ True)) := by
  refine sC.of rfl (by decide) (le_t rfl) ?_
  refine mr_lvE (lv' := [(0, .ref 87), (1, iv p1), (2, iv p2), (3, iv p3)]) rfl ?_
  refine mr_iload_n (pc := 0) (z := p3) dX2_leastBelow_0 rfl rfl ?_
  refine mr_bipush (pc := 1) (z := 32) dX2_leastBelow_1 (by decide) ?_
  refine mr_icmp_ge (pc := 3) (tgt := 16) dX2_leastBelow_3 (by decide) (r32 hp3 rfl) (r32 (rR (x := 32)) rfl) (fun h => ((vc_X2_leastBelow_19_1 h hp3)).elim) (fun _ => ?_)
  refine sv_aload_n (pc := 6) dX2_leastBelow_6 rfl rfl ?_
  refine mr_iload_n (pc := 7) (z := p1) dX2_leastBelow_7 rfl rfl ?_
  refine mr_iload_n (pc := 8) (z := p2) dX2_leastBelow_8 rfl rfl ?_
  refine mr_iload_n (pc := 9) (z := p3) dX2_leastBelow_9 rfl rfl ?_
  refine mr_cVP (pc := 10) (c_X2_isSplit hw hT hp1 hp2 (rW (c := (-2147483648)) (d := 2147483647) hp3 rfl) (vc_X9_end_1 hq0 hp1)) (gOk _ _ _ _ _) dX2_leastBelow_10 (tX2_isSplit _ _ _ _ _) ⟨wV_X2_isSplit, wL_X2_isSplit⟩ wM_X2_106 (gCX2 _ _ _ _ _) rfl (A_87 hw) rfl ⟨le_t rfl, le_t rfl⟩ ⟨le_t rfl, le_t rfl⟩ rfl (le_t rfl) fun z5 h4 => ?_
  refine mr_if_ne (pc := 13) (tgt := 26) dX2_leastBelow_13 (by decide) (r32 h4.1 rfl) (fun h6 => ?_) (fun h6 => ?_)
  · have h7 : 1 ≤ z5 ∧ z5 ≤ 1 := (vc_X12_ring_24 h6 h4.1)
    refine sv_aload_n (pc := 26) dX2_leastBelow_26 rfl rfl ?_
    refine mr_iload_n (pc := 27) (z := p1) dX2_leastBelow_27 rfl rfl ?_
    refine mr_iload_n (pc := 28) (z := p2) dX2_leastBelow_28 rfl rfl ?_
    refine mr_iload_n (pc := 29) (z := p3) dX2_leastBelow_29 rfl rfl ?_
    refine mr_iconst (pc := 30) (z := 1) dX2_leastBelow_30 ?_
    refine mr_iadd (pc := 31) (x := p3) (y := 1) dX2_leastBelow_31 ?_
    refine mr_cVI (pc := 32) (c_X2_leastBelow_20 hw hT hp1 hp2 (rAdd (e := 20) (f := 20) hp3 (rR (x := 1)) rfl) (vc_X9_end_1 hq0 hp1)) (gOk _ _ _ _ _) dX2_leastBelow_32 (tX2_leastBelow _ _ _ _ _) ⟨wV_X2_leastBelow, wL_X2_leastBelow⟩ wM_X2_101 (gCX2 _ _ _ _ _) rfl (A_87 hw) rfl ⟨le_t rfl, le_t rfl⟩ ⟨le_t rfl, le_t rfl⟩ rfl (le_t rfl) fun z12 μ8 T9 F10 h11 => ?_
    refine mr_istore (pc := 35) (lv' := [(4, iv z12), (0, .ref 87), (1, iv p1), (2, iv p2), (3, iv p3)]) dX2_leastBelow_35 (by decide) rfl ?_
    refine sv_aload_n (pc := 37) dX2_leastBelow_37 rfl rfl ?_
    refine mr_iload_n (pc := 38) (z := p1) dX2_leastBelow_38 rfl rfl ?_
    refine mr_iload_n (pc := 39) (z := p2) dX2_leastBelow_39 rfl rfl ?_
    refine mr_iconst (pc := 40) (z := 1) dX2_leastBelow_40 ?_
    refine mr_bipush (pc := 41) (z := 31) dX2_leastBelow_41 (by decide) ?_
    refine mr_iload_n (pc := 43) (z := p3) dX2_leastBelow_43 rfl rfl ?_
    refine mr_isub (pc := 44) (x := 31) (y := p3) dX2_leastBelow_44 ?_
    refine mr_ishl (pc := 45) (x := 1) (y := (31 - p3)) dX2_leastBelow_45 ?_
    refine mr_gen (P := fun z => (-2147483648) ≤ z ∧ z ≤ 2147483647) (r32i _) fun z13 q14 h15 => ?_
    refine mr_ior (pc := 46) (x := p2) (y := z13) dX2_leastBelow_46 ?_
    refine mr_gen (P := fun z => (-2147483648) ≤ z ∧ z ≤ 2147483647) (r32i _) fun z16 q17 h18 => ?_
    refine mr_iload_n (pc := 47) (z := p3) dX2_leastBelow_47 rfl rfl ?_
    refine mr_iconst (pc := 48) (z := 1) dX2_leastBelow_48 ?_
    refine mr_iadd (pc := 49) (x := p3) (y := 1) dX2_leastBelow_49 ?_
    refine mr_cVI (pc := 50) (c_X2_leastBelow_20 hw T9 hp1 h18 (rAdd (e := 20) (f := 20) hp3 (rR (x := 1)) rfl) (vc_X9_end_1 hq0 hp1)) (gOk _ _ _ _ _) dX2_leastBelow_50 (tX2_leastBelow _ _ _ _ _) ⟨wV_X2_leastBelow, wL_X2_leastBelow⟩ wM_X2_101 (gCX2 _ _ _ _ _) rfl (A_87 hw) rfl ⟨le_t rfl, le_t rfl⟩ ⟨le_t rfl, le_t rfl⟩ rfl (le_t rfl) fun z23 μ19 T20 F21 h22 => ?_
    refine mr_istore (pc := 53) (lv' := [(5, iv z23), (4, iv z12), (0, .ref 87), (1, iv p1), (2, iv p2), (3, iv p3)]) dX2_leastBelow_53 (by decide) rfl ?_
    refine mr_iload (pc := 55) (z := z12) dX2_leastBelow_55 rfl ?_
    refine mr_iload (pc := 57) (z := z23) dX2_leastBelow_57 rfl ?_
    refine mr_iand (pc := 59) (x := z12) (y := z23) dX2_leastBelow_59 ?_
    refine mr_gen (P := fun z => (-2147483648) ≤ z ∧ z ≤ 2147483647) (r32i _) fun z24 q25 h26 => ?_
    refine mr_if_eq (pc := 60) (tgt := 69) dX2_leastBelow_60 (by decide) h26 (fun h27 => ?_) (fun h27 => ?_)
    · have h28 : 0 ≤ z24 ∧ z24 ≤ 0 := (vc_X12_mask_1 h27 h26)
      refine sv_aload_n (pc := 69) dX2_leastBelow_69 rfl rfl ?_
      refine sv_dup (pc := 70) dX2_leastBelow_70 rfl ?_
      refine gf_X2_7 (pc := 71) dX2_leastBelow_71 wF_X2_98 (A_87 hw) T20 fun z29 q30 h31 => ?_
      refine mr_iconst (pc := 74) (z := 1) dX2_leastBelow_74 ?_
      refine mr_iadd (pc := 75) (x := z29) (y := 1) dX2_leastBelow_75 ?_
      refine mr_wrap fun z32 h33 => ?_
      refine pf_X2_7 (pc := 76) dX2_leastBelow_76 wF_X2_98 (A_87 hw) T20 h33 fun μ34 u35 T36 => ?_
      refine mr_iload (pc := 79) (z := z12) dX2_leastBelow_79 rfl ?_
      refine mr_iload (pc := 81) (z := z23) dX2_leastBelow_81 rfl ?_
      refine mr_ior (pc := 83) (x := z12) (y := z23) dX2_leastBelow_83 ?_
      refine mr_gen (P := fun z => (-2147483648) ≤ z ∧ z ≤ 2147483647) (r32i _) fun z37 q38 h39 => ?_
      exact mr_iret dX2_leastBelow_84 rfl (le_t rfl) (le_t rfl) T36 (mF.up (mF.call (mF.call mF.refl F10 rfl) F21 rfl) (A_87 hw) u35 rfl) ⟨h39, trivial⟩
    refine mr_iload (pc := 63) (z := z12) dX2_leastBelow_63 rfl ?_
    refine mr_iload (pc := 65) (z := z23) dX2_leastBelow_65 rfl ?_
    refine mr_iand (pc := 67) (x := z12) (y := z23) dX2_leastBelow_67 ?_
    refine mr_gen (P := fun z => (-2147483648) ≤ z ∧ z ≤ 2147483647) (r32i _) fun z40 q41 h42 => ?_
    exact mr_iret dX2_leastBelow_68 rfl (le_t rfl) (le_t rfl) T20 (mF.call (mF.call mF.refl F10 rfl) F21 rfl) ⟨h42, trivial⟩
  have h43 : 0 ≤ z5 ∧ z5 ≤ 0 := (vc_X12_ring_22 h6 h4.1)
  refine sv_aload_n (pc := 16) dX2_leastBelow_16 rfl rfl ?_
  refine mr_iload_n (pc := 17) (z := p1) dX2_leastBelow_17 rfl rfl ?_
  refine mr_iload_n (pc := 18) (z := p2) dX2_leastBelow_18 rfl rfl ?_
  refine mr_cVP (pc := 19) (c_X2_tieFor hw hT hp1 hp2 (vc_X9_end_1 hq0 hp1)) (gOk _ _ _ _ _) dX2_leastBelow_19 (tX2_tieFor _ _ _ _ _) ⟨wV_X2_tieFor, wL_X2_tieFor⟩ wM_X2_60 (gCX2 _ _ _ _ _) rfl (A_87 hw) rfl ⟨le_t rfl, le_t rfl⟩ ⟨le_t rfl, le_t rfl⟩ rfl (le_t rfl) fun z48 h47 => ?_
  refine mr_cSP (pc := 22) (c_X2_aimBit hw hT h47.1) (gOk _ _ _ _ _) dX2_leastBelow_22 (tX2_aimBit _ _ _ _ _) wS_X2_aimBit wM_X2_110 ⟨le_t rfl, le_t rfl⟩ ⟨le_t rfl, le_t rfl⟩ rfl (le_t rfl) fun z53 h52 => ?_
  exact mr_iret dX2_leastBelow_25 rfl (le_t rfl) (le_t rfl) hT mF.refl ⟨h52.1, trivial⟩
theorem vc_X2_leastBelow_18_1 {p3 : Int} (h0 : 32 ≤ p3) (h1 : 18 ≤ p3 ∧ p3 ≤ 18) : False := by omega
set_option maxRecDepth 4000 in
set_option maxHeartbeats 4000000 in
theorem c_X2_leastBelow_18 {l : Launch} {D : va_G} {c : Nat → ClassId} {H0 : Heap} {sa : Nat × Nat × (Nat → Int32)} {w : mW} {μ : mM} (hw : mWF w) (hT : mT w μ) {p1 : Int} (hp1 : 0 ≤ p1 ∧ p1 ≤ 9) {p2 : Int} (hp2 : (-2147483648) ≤ p2 ∧ p2 ≤ 2147483647) {p3 : Int} (hp3 : 18 ≤ p3 ∧ p3 ≤ 18) (hq0 : p1 < w.2.2.2 0) : sC (gG l D c H0 sa) mX2_leastBelow 17 0 0 [.ref 87, iv p1, iv p2, iv p3] (mk w μ) (qI w [87007] μ (fun z μ1 => ((-2147483648) ≤ z ∧ z ≤ 2147483647) ∧ True)) := by
  refine sC.of rfl (by decide) (le_t rfl) ?_
  refine mr_lvE (lv' := [(0, .ref 87), (1, iv p1), (2, iv p2), (3, iv p3)]) rfl ?_
  refine mr_iload_n (pc := 0) (z := p3) dX2_leastBelow_0 rfl rfl ?_
  refine mr_bipush (pc := 1) (z := 32) dX2_leastBelow_1 (by decide) ?_
  refine mr_icmp_ge (pc := 3) (tgt := 16) dX2_leastBelow_3 (by decide) (r32 hp3 rfl) (r32 (rR (x := 32)) rfl) (fun h => ((vc_X2_leastBelow_18_1 h hp3)).elim) (fun _ => ?_)
  refine sv_aload_n (pc := 6) dX2_leastBelow_6 rfl rfl ?_
  refine mr_iload_n (pc := 7) (z := p1) dX2_leastBelow_7 rfl rfl ?_
  refine mr_iload_n (pc := 8) (z := p2) dX2_leastBelow_8 rfl rfl ?_
  refine mr_iload_n (pc := 9) (z := p3) dX2_leastBelow_9 rfl rfl ?_
  refine mr_cVP (pc := 10) (c_X2_isSplit hw hT hp1 hp2 (rW (c := (-2147483648)) (d := 2147483647) hp3 rfl) (vc_X9_end_1 hq0 hp1)) (gOk _ _ _ _ _) dX2_leastBelow_10 (tX2_isSplit _ _ _ _ _) ⟨wV_X2_isSplit, wL_X2_isSplit⟩ wM_X2_106 (gCX2 _ _ _ _ _) rfl (A_87 hw) rfl ⟨le_t rfl, le_t rfl⟩ ⟨le_t rfl, le_t rfl⟩ rfl (le_t rfl) fun z5 h4 => ?_
  refine mr_if_ne (pc := 13) (tgt := 26) dX2_leastBelow_13 (by decide) (r32 h4.1 rfl) (fun h6 => ?_) (fun h6 => ?_)
  · have h7 : 1 ≤ z5 ∧ z5 ≤ 1 := (vc_X12_ring_24 h6 h4.1)
    refine sv_aload_n (pc := 26) dX2_leastBelow_26 rfl rfl ?_
    refine mr_iload_n (pc := 27) (z := p1) dX2_leastBelow_27 rfl rfl ?_
    refine mr_iload_n (pc := 28) (z := p2) dX2_leastBelow_28 rfl rfl ?_
    refine mr_iload_n (pc := 29) (z := p3) dX2_leastBelow_29 rfl rfl ?_
    refine mr_iconst (pc := 30) (z := 1) dX2_leastBelow_30 ?_
    refine mr_iadd (pc := 31) (x := p3) (y := 1) dX2_leastBelow_31 ?_
    refine mr_cVI (pc := 32) (c_X2_leastBelow_19 hw hT hp1 hp2 (rAdd (e := 19) (f := 19) hp3 (rR (x := 1)) rfl) (vc_X9_end_1 hq0 hp1)) (gOk _ _ _ _ _) dX2_leastBelow_32 (tX2_leastBelow _ _ _ _ _) ⟨wV_X2_leastBelow, wL_X2_leastBelow⟩ wM_X2_101 (gCX2 _ _ _ _ _) rfl (A_87 hw) rfl ⟨le_t rfl, le_t rfl⟩ ⟨le_t rfl, le_t rfl⟩ rfl (le_t rfl) fun z12 μ8 T9 F10 h11 => ?_
    refine mr_istore (pc := 35) (lv' := [(4, iv z12), (0, .ref 87), (1, iv p1), (2, iv p2), (3, iv p3)]) dX2_leastBelow_35 (by decide) rfl ?_
    refine sv_aload_n (pc := 37) dX2_leastBelow_37 rfl rfl ?_
    refine mr_iload_n (pc := 38) (z := p1) dX2_leastBelow_38 rfl rfl ?_
    refine mr_iload_n (pc := 39) (z := p2) dX2_leastBelow_39 rfl rfl ?_
    refine mr_iconst (pc := 40) (z := 1) dX2_leastBelow_40 ?_
    refine mr_bipush (pc := 41) (z := 31) dX2_leastBelow_41 (by decide) ?_
    refine mr_iload_n (pc := 43) (z := p3) dX2_leastBelow_43 rfl rfl ?_
    refine mr_isub (pc := 44) (x := 31) (y := p3) dX2_leastBelow_44 ?_
    refine mr_ishl (pc := 45) (x := 1) (y := (31 - p3)) dX2_leastBelow_45 ?_
    refine mr_gen (P := fun z => (-2147483648) ≤ z ∧ z ≤ 2147483647) (r32i _) fun z13 q14 h15 => ?_
    refine mr_ior (pc := 46) (x := p2) (y := z13) dX2_leastBelow_46 ?_
    refine mr_gen (P := fun z => (-2147483648) ≤ z ∧ z ≤ 2147483647) (r32i _) fun z16 q17 h18 => ?_
    refine mr_iload_n (pc := 47) (z := p3) dX2_leastBelow_47 rfl rfl ?_
    refine mr_iconst (pc := 48) (z := 1) dX2_leastBelow_48 ?_
    refine mr_iadd (pc := 49) (x := p3) (y := 1) dX2_leastBelow_49 ?_
    refine mr_cVI (pc := 50) (c_X2_leastBelow_19 hw T9 hp1 h18 (rAdd (e := 19) (f := 19) hp3 (rR (x := 1)) rfl) (vc_X9_end_1 hq0 hp1)) (gOk _ _ _ _ _) dX2_leastBelow_50 (tX2_leastBelow _ _ _ _ _) ⟨wV_X2_leastBelow, wL_X2_leastBelow⟩ wM_X2_101 (gCX2 _ _ _ _ _) rfl (A_87 hw) rfl ⟨le_t rfl, le_t rfl⟩ ⟨le_t rfl, le_t rfl⟩ rfl (le_t rfl) fun z23 μ19 T20 F21 h22 => ?_
    refine mr_istore (pc := 53) (lv' := [(5, iv z23), (4, iv z12), (0, .ref 87), (1, iv p1), (2, iv p2), (3, iv p3)]) dX2_leastBelow_53 (by decide) rfl ?_
    refine mr_iload (pc := 55) (z := z12) dX2_leastBelow_55 rfl ?_
    refine mr_iload (pc := 57) (z := z23) dX2_leastBelow_57 rfl ?_
    refine mr_iand (pc := 59) (x := z12) (y := z23) dX2_leastBelow_59 ?_
    refine mr_gen (P := fun z => (-2147483648) ≤ z ∧ z ≤ 2147483647) (r32i _) fun z24 q25 h26 => ?_
    refine mr_if_eq (pc := 60) (tgt := 69) dX2_leastBelow_60 (by decide) h26 (fun h27 => ?_) (fun h27 => ?_)
    · have h28 : 0 ≤ z24 ∧ z24 ≤ 0 := (vc_X12_mask_1 h27 h26)
      refine sv_aload_n (pc := 69) dX2_leastBelow_69 rfl rfl ?_
      refine sv_dup (pc := 70) dX2_leastBelow_70 rfl ?_
      refine gf_X2_7 (pc := 71) dX2_leastBelow_71 wF_X2_98 (A_87 hw) T20 fun z29 q30 h31 => ?_
      refine mr_iconst (pc := 74) (z := 1) dX2_leastBelow_74 ?_
      refine mr_iadd (pc := 75) (x := z29) (y := 1) dX2_leastBelow_75 ?_
      refine mr_wrap fun z32 h33 => ?_
      refine pf_X2_7 (pc := 76) dX2_leastBelow_76 wF_X2_98 (A_87 hw) T20 h33 fun μ34 u35 T36 => ?_
      refine mr_iload (pc := 79) (z := z12) dX2_leastBelow_79 rfl ?_
      refine mr_iload (pc := 81) (z := z23) dX2_leastBelow_81 rfl ?_
      refine mr_ior (pc := 83) (x := z12) (y := z23) dX2_leastBelow_83 ?_
      refine mr_gen (P := fun z => (-2147483648) ≤ z ∧ z ≤ 2147483647) (r32i _) fun z37 q38 h39 => ?_
      exact mr_iret dX2_leastBelow_84 rfl (le_t rfl) (le_t rfl) T36 (mF.up (mF.call (mF.call mF.refl F10 rfl) F21 rfl) (A_87 hw) u35 rfl) ⟨h39, trivial⟩
    refine mr_iload (pc := 63) (z := z12) dX2_leastBelow_63 rfl ?_
    refine mr_iload (pc := 65) (z := z23) dX2_leastBelow_65 rfl ?_
    refine mr_iand (pc := 67) (x := z12) (y := z23) dX2_leastBelow_67 ?_
    refine mr_gen (P := fun z => (-2147483648) ≤ z ∧ z ≤ 2147483647) (r32i _) fun z40 q41 h42 => ?_
    exact mr_iret dX2_leastBelow_68 rfl (le_t rfl) (le_t rfl) T20 (mF.call (mF.call mF.refl F10 rfl) F21 rfl) ⟨h42, trivial⟩
  have h43 : 0 ≤ z5 ∧ z5 ≤ 0 := (vc_X12_ring_22 h6 h4.1)
  refine sv_aload_n (pc := 16) dX2_leastBelow_16 rfl rfl ?_
  refine mr_iload_n (pc := 17) (z := p1) dX2_leastBelow_17 rfl rfl ?_
  refine mr_iload_n (pc := 18) (z := p2) dX2_leastBelow_18 rfl rfl ?_
  refine mr_cVP (pc := 19) (c_X2_tieFor hw hT hp1 hp2 (vc_X9_end_1 hq0 hp1)) (gOk _ _ _ _ _) dX2_leastBelow_19 (tX2_tieFor _ _ _ _ _) ⟨wV_X2_tieFor, wL_X2_tieFor⟩ wM_X2_60 (gCX2 _ _ _ _ _) rfl (A_87 hw) rfl ⟨le_t rfl, le_t rfl⟩ ⟨le_t rfl, le_t rfl⟩ rfl (le_t rfl) fun z48 h47 => ?_
  refine mr_cSP (pc := 22) (c_X2_aimBit hw hT h47.1) (gOk _ _ _ _ _) dX2_leastBelow_22 (tX2_aimBit _ _ _ _ _) wS_X2_aimBit wM_X2_110 ⟨le_t rfl, le_t rfl⟩ ⟨le_t rfl, le_t rfl⟩ rfl (le_t rfl) fun z53 h52 => ?_
  exact mr_iret dX2_leastBelow_25 rfl (le_t rfl) (le_t rfl) hT mF.refl ⟨h52.1, trivial⟩
theorem vc_X2_leastBelow_17_1 {p3 : Int} (h0 : 32 ≤ p3) (h1 : 17 ≤ p3 ∧ p3 ≤ 17) : False := by omega
set_option maxRecDepth 4000 in
set_option maxHeartbeats 4000000 in
theorem c_X2_leastBelow_17 {l : Launch} {D : va_G} {c : Nat → ClassId} {H0 : Heap} {sa : Nat × Nat × (Nat → Int32)} {w : mW} {μ : mM} (hw : mWF w) (hT : mT w μ) {p1 : Int} (hp1 : 0 ≤ p1 ∧ p1 ≤ 9) {p2 : Int} (hp2 : (-2147483648) ≤ p2 ∧ p2 ≤ 2147483647) {p3 : Int} (hp3 : 17 ≤ p3 ∧ p3 ≤ 17) (hq0 : p1 < w.2.2.2 0) : sC (gG l D c H0 sa) mX2_leastBelow 18 0 0 [.ref 87, iv p1, iv p2, iv p3] (mk w μ) (qI w [87007] μ (fun z μ1 => ((-2147483648) ≤ z ∧ z ≤ 2147483647) ∧ True)) := by
  refine sC.of rfl (by decide) (le_t rfl) ?_
  refine mr_lvE (lv' := [(0, .ref 87), (1, iv p1), (2, iv p2), (3, iv p3)]) rfl ?_
  refine mr_iload_n (pc := 0) (z := p3) dX2_leastBelow_0 rfl rfl ?_
  refine mr_bipush (pc := 1) (z := 32) dX2_leastBelow_1 (by decide) ?_
  refine mr_icmp_ge (pc := 3) (tgt := 16) dX2_leastBelow_3 (by decide) (r32 hp3 rfl) (r32 (rR (x := 32)) rfl) (fun h => ((vc_X2_leastBelow_17_1 h hp3)).elim) (fun _ => ?_)
  refine sv_aload_n (pc := 6) dX2_leastBelow_6 rfl rfl ?_
  refine mr_iload_n (pc := 7) (z := p1) dX2_leastBelow_7 rfl rfl ?_
  refine mr_iload_n (pc := 8) (z := p2) dX2_leastBelow_8 rfl rfl ?_
  refine mr_iload_n (pc := 9) (z := p3) dX2_leastBelow_9 rfl rfl ?_
  refine mr_cVP (pc := 10) (c_X2_isSplit hw hT hp1 hp2 (rW (c := (-2147483648)) (d := 2147483647) hp3 rfl) (vc_X9_end_1 hq0 hp1)) (gOk _ _ _ _ _) dX2_leastBelow_10 (tX2_isSplit _ _ _ _ _) ⟨wV_X2_isSplit, wL_X2_isSplit⟩ wM_X2_106 (gCX2 _ _ _ _ _) rfl (A_87 hw) rfl ⟨le_t rfl, le_t rfl⟩ ⟨le_t rfl, le_t rfl⟩ rfl (le_t rfl) fun z5 h4 => ?_
  refine mr_if_ne (pc := 13) (tgt := 26) dX2_leastBelow_13 (by decide) (r32 h4.1 rfl) (fun h6 => ?_) (fun h6 => ?_)
  · have h7 : 1 ≤ z5 ∧ z5 ≤ 1 := (vc_X12_ring_24 h6 h4.1)
    refine sv_aload_n (pc := 26) dX2_leastBelow_26 rfl rfl ?_
    refine mr_iload_n (pc := 27) (z := p1) dX2_leastBelow_27 rfl rfl ?_
    refine mr_iload_n (pc := 28) (z := p2) dX2_leastBelow_28 rfl rfl ?_
    refine mr_iload_n (pc := 29) (z := p3) dX2_leastBelow_29 rfl rfl ?_
    refine mr_iconst (pc := 30) (z := 1) dX2_leastBelow_30 ?_
    refine mr_iadd (pc := 31) (x := p3) (y := 1) dX2_leastBelow_31 ?_
    refine mr_cVI (pc := 32) (c_X2_leastBelow_18 hw hT hp1 hp2 (rAdd (e := 18) (f := 18) hp3 (rR (x := 1)) rfl) (vc_X9_end_1 hq0 hp1)) (gOk _ _ _ _ _) dX2_leastBelow_32 (tX2_leastBelow _ _ _ _ _) ⟨wV_X2_leastBelow, wL_X2_leastBelow⟩ wM_X2_101 (gCX2 _ _ _ _ _) rfl (A_87 hw) rfl ⟨le_t rfl, le_t rfl⟩ ⟨le_t rfl, le_t rfl⟩ rfl (le_t rfl) fun z12 μ8 T9 F10 h11 => ?_
    refine mr_istore (pc := 35) (lv' := [(4, iv z12), (0, .ref 87), (1, iv p1), (2, iv p2), (3, iv p3)]) dX2_leastBelow_35 (by decide) rfl ?_
    refine sv_aload_n (pc := 37) dX2_leastBelow_37 rfl rfl ?_
    refine mr_iload_n (pc := 38) (z := p1) dX2_leastBelow_38 rfl rfl ?_
    refine mr_iload_n (pc := 39) (z := p2) dX2_leastBelow_39 rfl rfl ?_
    refine mr_iconst (pc := 40) (z := 1) dX2_leastBelow_40 ?_
    refine mr_bipush (pc := 41) (z := 31) dX2_leastBelow_41 (by decide) ?_
    refine mr_iload_n (pc := 43) (z := p3) dX2_leastBelow_43 rfl rfl ?_
    refine mr_isub (pc := 44) (x := 31) (y := p3) dX2_leastBelow_44 ?_
    refine mr_ishl (pc := 45) (x := 1) (y := (31 - p3)) dX2_leastBelow_45 ?_
    refine mr_gen (P := fun z => (-2147483648) ≤ z ∧ z ≤ 2147483647) (r32i _) fun z13 q14 h15 => ?_
    refine mr_ior (pc := 46) (x := p2) (y := z13) dX2_leastBelow_46 ?_
    refine mr_gen (P := fun z => (-2147483648) ≤ z ∧ z ≤ 2147483647) (r32i _) fun z16 q17 h18 => ?_
    refine mr_iload_n (pc := 47) (z := p3) dX2_leastBelow_47 rfl rfl ?_
    refine mr_iconst (pc := 48) (z := 1) dX2_leastBelow_48 ?_
    refine mr_iadd (pc := 49) (x := p3) (y := 1) dX2_leastBelow_49 ?_
    refine mr_cVI (pc := 50) (c_X2_leastBelow_18 hw T9 hp1 h18 (rAdd (e := 18) (f := 18) hp3 (rR (x := 1)) rfl) (vc_X9_end_1 hq0 hp1)) (gOk _ _ _ _ _) dX2_leastBelow_50 (tX2_leastBelow _ _ _ _ _) ⟨wV_X2_leastBelow, wL_X2_leastBelow⟩ wM_X2_101 (gCX2 _ _ _ _ _) rfl (A_87 hw) rfl ⟨le_t rfl, le_t rfl⟩ ⟨le_t rfl, le_t rfl⟩ rfl (le_t rfl) fun z23 μ19 T20 F21 h22 => ?_
    refine mr_istore (pc := 53) (lv' := [(5, iv z23), (4, iv z12), (0, .ref 87), (1, iv p1), (2, iv p2), (3, iv p3)]) dX2_leastBelow_53 (by decide) rfl ?_
    refine mr_iload (pc := 55) (z := z12) dX2_leastBelow_55 rfl ?_
    refine mr_iload (pc := 57) (z := z23) dX2_leastBelow_57 rfl ?_
    refine mr_iand (pc := 59) (x := z12) (y := z23) dX2_leastBelow_59 ?_
    refine mr_gen (P := fun z => (-2147483648) ≤ z ∧ z ≤ 2147483647) (r32i _) fun z24 q25 h26 => ?_
    refine mr_if_eq (pc := 60) (tgt := 69) dX2_leastBelow_60 (by decide) h26 (fun h27 => ?_) (fun h27 => ?_)
    · have h28 : 0 ≤ z24 ∧ z24 ≤ 0 := (vc_X12_mask_1 h27 h26)
      refine sv_aload_n (pc := 69) dX2_leastBelow_69 rfl rfl ?_
      refine sv_dup (pc := 70) dX2_leastBelow_70 rfl ?_
      refine gf_X2_7 (pc := 71) dX2_leastBelow_71 wF_X2_98 (A_87 hw) T20 fun z29 q30 h31 => ?_
      refine mr_iconst (pc := 74) (z := 1) dX2_leastBelow_74 ?_
      refine mr_iadd (pc := 75) (x := z29) (y := 1) dX2_leastBelow_75 ?_
      refine mr_wrap fun z32 h33 => ?_
      refine pf_X2_7 (pc := 76) dX2_leastBelow_76 wF_X2_98 (A_87 hw) T20 h33 fun μ34 u35 T36 => ?_
      refine mr_iload (pc := 79) (z := z12) dX2_leastBelow_79 rfl ?_
      refine mr_iload (pc := 81) (z := z23) dX2_leastBelow_81 rfl ?_
      refine mr_ior (pc := 83) (x := z12) (y := z23) dX2_leastBelow_83 ?_
      refine mr_gen (P := fun z => (-2147483648) ≤ z ∧ z ≤ 2147483647) (r32i _) fun z37 q38 h39 => ?_
      exact mr_iret dX2_leastBelow_84 rfl (le_t rfl) (le_t rfl) T36 (mF.up (mF.call (mF.call mF.refl F10 rfl) F21 rfl) (A_87 hw) u35 rfl) ⟨h39, trivial⟩
    refine mr_iload (pc := 63) (z := z12) dX2_leastBelow_63 rfl ?_
    refine mr_iload (pc := 65) (z := z23) dX2_leastBelow_65 rfl ?_
    refine mr_iand (pc := 67) (x := z12) (y := z23) dX2_leastBelow_67 ?_
    refine mr_gen (P := fun z => (-2147483648) ≤ z ∧ z ≤ 2147483647) (r32i _) fun z40 q41 h42 => ?_
    exact mr_iret dX2_leastBelow_68 rfl (le_t rfl) (le_t rfl) T20 (mF.call (mF.call mF.refl F10 rfl) F21 rfl) ⟨h42, trivial⟩
  have h43 : 0 ≤ z5 ∧ z5 ≤ 0 := (vc_X12_ring_22 h6 h4.1)
  refine sv_aload_n (pc := 16) dX2_leastBelow_16 rfl rfl ?_
  refine mr_iload_n (pc := 17) (z := p1) dX2_leastBelow_17 rfl rfl ?_
  refine mr_iload_n (pc := 18) (z := p2) dX2_leastBelow_18 rfl rfl ?_
  refine mr_cVP (pc := 19) (c_X2_tieFor hw hT hp1 hp2 (vc_X9_end_1 hq0 hp1)) (gOk _ _ _ _ _) dX2_leastBelow_19 (tX2_tieFor _ _ _ _ _) ⟨wV_X2_tieFor, wL_X2_tieFor⟩ wM_X2_60 (gCX2 _ _ _ _ _) rfl (A_87 hw) rfl ⟨le_t rfl, le_t rfl⟩ ⟨le_t rfl, le_t rfl⟩ rfl (le_t rfl) fun z48 h47 => ?_
  refine mr_cSP (pc := 22) (c_X2_aimBit hw hT h47.1) (gOk _ _ _ _ _) dX2_leastBelow_22 (tX2_aimBit _ _ _ _ _) wS_X2_aimBit wM_X2_110 ⟨le_t rfl, le_t rfl⟩ ⟨le_t rfl, le_t rfl⟩ rfl (le_t rfl) fun z53 h52 => ?_
  exact mr_iret dX2_leastBelow_25 rfl (le_t rfl) (le_t rfl) hT mF.refl ⟨h52.1, trivial⟩
theorem vc_X2_leastBelow_16_1 {p3 : Int} (h0 : 32 ≤ p3) (h1 : 16 ≤ p3 ∧ p3 ≤ 16) : False := by omega
set_option maxRecDepth 4000 in
set_option maxHeartbeats 4000000 in
theorem c_X2_leastBelow_16 {l : Launch} {D : va_G} {c : Nat → ClassId} {H0 : Heap} {sa : Nat × Nat × (Nat → Int32)} {w : mW} {μ : mM} (hw : mWF w) (hT : mT w μ) {p1 : Int} (hp1 : 0 ≤ p1 ∧ p1 ≤ 9) {p2 : Int} (hp2 : (-2147483648) ≤ p2 ∧ p2 ≤ 2147483647) {p3 : Int} (hp3 : 16 ≤ p3 ∧ p3 ≤ 16) (hq0 : p1 < w.2.2.2 0) : sC (gG l D c H0 sa) mX2_leastBelow 19 0 0 [.ref 87, iv p1, iv p2, iv p3] (mk w μ) (qI w [87007] μ (fun z μ1 => ((-2147483648) ≤ z ∧ z ≤ 2147483647) ∧ True)) := by
  refine sC.of rfl (by decide) (le_t rfl) ?_
  refine mr_lvE (lv' := [(0, .ref 87), (1, iv p1), (2, iv p2), (3, iv p3)]) rfl ?_
  refine mr_iload_n (pc := 0) (z := p3) dX2_leastBelow_0 rfl rfl ?_
  refine mr_bipush (pc := 1) (z := 32) dX2_leastBelow_1 (by decide) ?_
  refine mr_icmp_ge (pc := 3) (tgt := 16) dX2_leastBelow_3 (by decide) (r32 hp3 rfl) (r32 (rR (x := 32)) rfl) (fun h => ((vc_X2_leastBelow_16_1 h hp3)).elim) (fun _ => ?_)
  refine sv_aload_n (pc := 6) dX2_leastBelow_6 rfl rfl ?_
  refine mr_iload_n (pc := 7) (z := p1) dX2_leastBelow_7 rfl rfl ?_
  refine mr_iload_n (pc := 8) (z := p2) dX2_leastBelow_8 rfl rfl ?_
  refine mr_iload_n (pc := 9) (z := p3) dX2_leastBelow_9 rfl rfl ?_
  refine mr_cVP (pc := 10) (c_X2_isSplit hw hT hp1 hp2 (rW (c := (-2147483648)) (d := 2147483647) hp3 rfl) (vc_X9_end_1 hq0 hp1)) (gOk _ _ _ _ _) dX2_leastBelow_10 (tX2_isSplit _ _ _ _ _) ⟨wV_X2_isSplit, wL_X2_isSplit⟩ wM_X2_106 (gCX2 _ _ _ _ _) rfl (A_87 hw) rfl ⟨le_t rfl, le_t rfl⟩ ⟨le_t rfl, le_t rfl⟩ rfl (le_t rfl) fun z5 h4 => ?_
  refine mr_if_ne (pc := 13) (tgt := 26) dX2_leastBelow_13 (by decide) (r32 h4.1 rfl) (fun h6 => ?_) (fun h6 => ?_)
  · have h7 : 1 ≤ z5 ∧ z5 ≤ 1 := (vc_X12_ring_24 h6 h4.1)
    refine sv_aload_n (pc := 26) dX2_leastBelow_26 rfl rfl ?_
    refine mr_iload_n (pc := 27) (z := p1) dX2_leastBelow_27 rfl rfl ?_
    refine mr_iload_n (pc := 28) (z := p2) dX2_leastBelow_28 rfl rfl ?_
    refine mr_iload_n (pc := 29) (z := p3) dX2_leastBelow_29 rfl rfl ?_
    refine mr_iconst (pc := 30) (z := 1) dX2_leastBelow_30 ?_
    refine mr_iadd (pc := 31) (x := p3) (y := 1) dX2_leastBelow_31 ?_
    refine mr_cVI (pc := 32) (c_X2_leastBelow_17 hw hT hp1 hp2 (rAdd (e := 17) (f := 17) hp3 (rR (x := 1)) rfl) (vc_X9_end_1 hq0 hp1)) (gOk _ _ _ _ _) dX2_leastBelow_32 (tX2_leastBelow _ _ _ _ _) ⟨wV_X2_leastBelow, wL_X2_leastBelow⟩ wM_X2_101 (gCX2 _ _ _ _ _) rfl (A_87 hw) rfl ⟨le_t rfl, le_t rfl⟩ ⟨le_t rfl, le_t rfl⟩ rfl (le_t rfl) fun z12 μ8 T9 F10 h11 => ?_
    refine mr_istore (pc := 35) (lv' := [(4, iv z12), (0, .ref 87), (1, iv p1), (2, iv p2), (3, iv p3)]) dX2_leastBelow_35 (by decide) rfl ?_
    refine sv_aload_n (pc := 37) dX2_leastBelow_37 rfl rfl ?_
    refine mr_iload_n (pc := 38) (z := p1) dX2_leastBelow_38 rfl rfl ?_
    refine mr_iload_n (pc := 39) (z := p2) dX2_leastBelow_39 rfl rfl ?_
    refine mr_iconst (pc := 40) (z := 1) dX2_leastBelow_40 ?_
    refine mr_bipush (pc := 41) (z := 31) dX2_leastBelow_41 (by decide) ?_
    refine mr_iload_n (pc := 43) (z := p3) dX2_leastBelow_43 rfl rfl ?_
    refine mr_isub (pc := 44) (x := 31) (y := p3) dX2_leastBelow_44 ?_
    refine mr_ishl (pc := 45) (x := 1) (y := (31 - p3)) dX2_leastBelow_45 ?_
    refine mr_gen (P := fun z => (-2147483648) ≤ z ∧ z ≤ 2147483647) (r32i _) fun z13 q14 h15 => ?_
    refine mr_ior (pc := 46) (x := p2) (y := z13) dX2_leastBelow_46 ?_
    refine mr_gen (P := fun z => (-2147483648) ≤ z ∧ z ≤ 2147483647) (r32i _) fun z16 q17 h18 => ?_
    refine mr_iload_n (pc := 47) (z := p3) dX2_leastBelow_47 rfl rfl ?_
    refine mr_iconst (pc := 48) (z := 1) dX2_leastBelow_48 ?_
    refine mr_iadd (pc := 49) (x := p3) (y := 1) dX2_leastBelow_49 ?_
    refine mr_cVI (pc := 50) (c_X2_leastBelow_17 hw T9 hp1 h18 (rAdd (e := 17) (f := 17) hp3 (rR (x := 1)) rfl) (vc_X9_end_1 hq0 hp1)) (gOk _ _ _ _ _) dX2_leastBelow_50 (tX2_leastBelow _ _ _ _ _) ⟨wV_X2_leastBelow, wL_X2_leastBelow⟩ wM_X2_101 (gCX2 _ _ _ _ _) rfl (A_87 hw) rfl ⟨le_t rfl, le_t rfl⟩ ⟨le_t rfl, le_t rfl⟩ rfl (le_t rfl) fun z23 μ19 T20 F21 h22 => ?_
    refine mr_istore (pc := 53) (lv' := [(5, iv z23), (4, iv z12), (0, .ref 87), (1, iv p1), (2, iv p2), (3, iv p3)]) dX2_leastBelow_53 (by decide) rfl ?_
    refine mr_iload (pc := 55) (z := z12) dX2_leastBelow_55 rfl ?_
    refine mr_iload (pc := 57) (z := z23) dX2_leastBelow_57 rfl ?_
    refine mr_iand (pc := 59) (x := z12) (y := z23) dX2_leastBelow_59 ?_
    refine mr_gen (P := fun z => (-2147483648) ≤ z ∧ z ≤ 2147483647) (r32i _) fun z24 q25 h26 => ?_
    refine mr_if_eq (pc := 60) (tgt := 69) dX2_leastBelow_60 (by decide) h26 (fun h27 => ?_) (fun h27 => ?_)
    · have h28 : 0 ≤ z24 ∧ z24 ≤ 0 := (vc_X12_mask_1 h27 h26)
      refine sv_aload_n (pc := 69) dX2_leastBelow_69 rfl rfl ?_
      refine sv_dup (pc := 70) dX2_leastBelow_70 rfl ?_
      refine gf_X2_7 (pc := 71) dX2_leastBelow_71 wF_X2_98 (A_87 hw) T20 fun z29 q30 h31 => ?_
      refine mr_iconst (pc := 74) (z := 1) dX2_leastBelow_74 ?_
      refine mr_iadd (pc := 75) (x := z29) (y := 1) dX2_leastBelow_75 ?_
      refine mr_wrap fun z32 h33 => ?_
      refine pf_X2_7 (pc := 76) dX2_leastBelow_76 wF_X2_98 (A_87 hw) T20 h33 fun μ34 u35 T36 => ?_
      refine mr_iload (pc := 79) (z := z12) dX2_leastBelow_79 rfl ?_
      refine mr_iload (pc := 81) (z := z23) dX2_leastBelow_81 rfl ?_
      refine mr_ior (pc := 83) (x := z12) (y := z23) dX2_leastBelow_83 ?_
      refine mr_gen (P := fun z => (-2147483648) ≤ z ∧ z ≤ 2147483647) (r32i _) fun z37 q38 h39 => ?_
      exact mr_iret dX2_leastBelow_84 rfl (le_t rfl) (le_t rfl) T36 (mF.up (mF.call (mF.call mF.refl F10 rfl) F21 rfl) (A_87 hw) u35 rfl) ⟨h39, trivial⟩
    refine mr_iload (pc := 63) (z := z12) dX2_leastBelow_63 rfl ?_
    refine mr_iload (pc := 65) (z := z23) dX2_leastBelow_65 rfl ?_
    refine mr_iand (pc := 67) (x := z12) (y := z23) dX2_leastBelow_67 ?_
    refine mr_gen (P := fun z => (-2147483648) ≤ z ∧ z ≤ 2147483647) (r32i _) fun z40 q41 h42 => ?_
    exact mr_iret dX2_leastBelow_68 rfl (le_t rfl) (le_t rfl) T20 (mF.call (mF.call mF.refl F10 rfl) F21 rfl) ⟨h42, trivial⟩
  have h43 : 0 ≤ z5 ∧ z5 ≤ 0 := (vc_X12_ring_22 h6 h4.1)
  refine sv_aload_n (pc := 16) dX2_leastBelow_16 rfl rfl ?_
  refine mr_iload_n (pc := 17) (z := p1) dX2_leastBelow_17 rfl rfl ?_
  refine mr_iload_n (pc := 18) (z := p2) dX2_leastBelow_18 rfl rfl ?_
  refine mr_cVP (pc := 19) (c_X2_tieFor hw hT hp1 hp2 (vc_X9_end_1 hq0 hp1)) (gOk _ _ _ _ _) dX2_leastBelow_19 (tX2_tieFor _ _ _ _ _) ⟨wV_X2_tieFor, wL_X2_tieFor⟩ wM_X2_60 (gCX2 _ _ _ _ _) rfl (A_87 hw) rfl ⟨le_t rfl, le_t rfl⟩ ⟨le_t rfl, le_t rfl⟩ rfl (le_t rfl) fun z48 h47 => ?_
  refine mr_cSP (pc := 22) (c_X2_aimBit hw hT h47.1) (gOk _ _ _ _ _) dX2_leastBelow_22 (tX2_aimBit _ _ _ _ _) wS_X2_aimBit wM_X2_110 ⟨le_t rfl, le_t rfl⟩ ⟨le_t rfl, le_t rfl⟩ rfl (le_t rfl) fun z53 h52 => ?_
  exact mr_iret dX2_leastBelow_25 rfl (le_t rfl) (le_t rfl) hT mF.refl ⟨h52.1, trivial⟩
theorem vc_X2_leastBelow_15_1 {p3 : Int} (h0 : 32 ≤ p3) (h1 : 15 ≤ p3 ∧ p3 ≤ 15) : False := by omega
set_option maxRecDepth 4000 in
set_option maxHeartbeats 4000000 in
theorem c_X2_leastBelow_15 {l : Launch} {D : va_G} {c : Nat → ClassId} {H0 : Heap} {sa : Nat × Nat × (Nat → Int32)} {w : mW} {μ : mM} (hw : mWF w) (hT : mT w μ) {p1 : Int} (hp1 : 0 ≤ p1 ∧ p1 ≤ 9) {p2 : Int} (hp2 : (-2147483648) ≤ p2 ∧ p2 ≤ 2147483647) {p3 : Int} (hp3 : 15 ≤ p3 ∧ p3 ≤ 15) (hq0 : p1 < w.2.2.2 0) : sC (gG l D c H0 sa) mX2_leastBelow 20 0 0 [.ref 87, iv p1, iv p2, iv p3] (mk w μ) (qI w [87007] μ (fun z μ1 => ((-2147483648) ≤ z ∧ z ≤ 2147483647) ∧ True)) := by
  refine sC.of rfl (by decide) (le_t rfl) ?_
  refine mr_lvE (lv' := [(0, .ref 87), (1, iv p1), (2, iv p2), (3, iv p3)]) rfl ?_
  refine mr_iload_n (pc := 0) (z := p3) dX2_leastBelow_0 rfl rfl ?_
  refine mr_bipush (pc := 1) (z := 32) dX2_leastBelow_1 (by decide) ?_
  refine mr_icmp_ge (pc := 3) (tgt := 16) dX2_leastBelow_3 (by decide) (r32 hp3 rfl) (r32 (rR (x := 32)) rfl) (fun h => ((vc_X2_leastBelow_15_1 h hp3)).elim) (fun _ => ?_)
  refine sv_aload_n (pc := 6) dX2_leastBelow_6 rfl rfl ?_
  refine mr_iload_n (pc := 7) (z := p1) dX2_leastBelow_7 rfl rfl ?_
  refine mr_iload_n (pc := 8) (z := p2) dX2_leastBelow_8 rfl rfl ?_
  refine mr_iload_n (pc := 9) (z := p3) dX2_leastBelow_9 rfl rfl ?_
  refine mr_cVP (pc := 10) (c_X2_isSplit hw hT hp1 hp2 (rW (c := (-2147483648)) (d := 2147483647) hp3 rfl) (vc_X9_end_1 hq0 hp1)) (gOk _ _ _ _ _) dX2_leastBelow_10 (tX2_isSplit _ _ _ _ _) ⟨wV_X2_isSplit, wL_X2_isSplit⟩ wM_X2_106 (gCX2 _ _ _ _ _) rfl (A_87 hw) rfl ⟨le_t rfl, le_t rfl⟩ ⟨le_t rfl, le_t rfl⟩ rfl (le_t rfl) fun z5 h4 => ?_
  refine mr_if_ne (pc := 13) (tgt := 26) dX2_leastBelow_13 (by decide) (r32 h4.1 rfl) (fun h6 => ?_) (fun h6 => ?_)
  · have h7 : 1 ≤ z5 ∧ z5 ≤ 1 := (vc_X12_ring_24 h6 h4.1)
    refine sv_aload_n (pc := 26) dX2_leastBelow_26 rfl rfl ?_
    refine mr_iload_n (pc := 27) (z := p1) dX2_leastBelow_27 rfl rfl ?_
    refine mr_iload_n (pc := 28) (z := p2) dX2_leastBelow_28 rfl rfl ?_
    refine mr_iload_n (pc := 29) (z := p3) dX2_leastBelow_29 rfl rfl ?_
    refine mr_iconst (pc := 30) (z := 1) dX2_leastBelow_30 ?_
    refine mr_iadd (pc := 31) (x := p3) (y := 1) dX2_leastBelow_31 ?_
    refine mr_cVI (pc := 32) (c_X2_leastBelow_16 hw hT hp1 hp2 (rAdd (e := 16) (f := 16) hp3 (rR (x := 1)) rfl) (vc_X9_end_1 hq0 hp1)) (gOk _ _ _ _ _) dX2_leastBelow_32 (tX2_leastBelow _ _ _ _ _) ⟨wV_X2_leastBelow, wL_X2_leastBelow⟩ wM_X2_101 (gCX2 _ _ _ _ _) rfl (A_87 hw) rfl ⟨le_t rfl, le_t rfl⟩ ⟨le_t rfl, le_t rfl⟩ rfl (le_t rfl) fun z12 μ8 T9 F10 h11 => ?_
    refine mr_istore (pc := 35) (lv' := [(4, iv z12), (0, .ref 87), (1, iv p1), (2, iv p2), (3, iv p3)]) dX2_leastBelow_35 (by decide) rfl ?_
    refine sv_aload_n (pc := 37) dX2_leastBelow_37 rfl rfl ?_
    refine mr_iload_n (pc := 38) (z := p1) dX2_leastBelow_38 rfl rfl ?_
    refine mr_iload_n (pc := 39) (z := p2) dX2_leastBelow_39 rfl rfl ?_
    refine mr_iconst (pc := 40) (z := 1) dX2_leastBelow_40 ?_
    refine mr_bipush (pc := 41) (z := 31) dX2_leastBelow_41 (by decide) ?_
    refine mr_iload_n (pc := 43) (z := p3) dX2_leastBelow_43 rfl rfl ?_
    refine mr_isub (pc := 44) (x := 31) (y := p3) dX2_leastBelow_44 ?_
    refine mr_ishl (pc := 45) (x := 1) (y := (31 - p3)) dX2_leastBelow_45 ?_
    refine mr_gen (P := fun z => (-2147483648) ≤ z ∧ z ≤ 2147483647) (r32i _) fun z13 q14 h15 => ?_
    refine mr_ior (pc := 46) (x := p2) (y := z13) dX2_leastBelow_46 ?_
    refine mr_gen (P := fun z => (-2147483648) ≤ z ∧ z ≤ 2147483647) (r32i _) fun z16 q17 h18 => ?_
    refine mr_iload_n (pc := 47) (z := p3) dX2_leastBelow_47 rfl rfl ?_
    refine mr_iconst (pc := 48) (z := 1) dX2_leastBelow_48 ?_
    refine mr_iadd (pc := 49) (x := p3) (y := 1) dX2_leastBelow_49 ?_
    refine mr_cVI (pc := 50) (c_X2_leastBelow_16 hw T9 hp1 h18 (rAdd (e := 16) (f := 16) hp3 (rR (x := 1)) rfl) (vc_X9_end_1 hq0 hp1)) (gOk _ _ _ _ _) dX2_leastBelow_50 (tX2_leastBelow _ _ _ _ _) ⟨wV_X2_leastBelow, wL_X2_leastBelow⟩ wM_X2_101 (gCX2 _ _ _ _ _) rfl (A_87 hw) rfl ⟨le_t rfl, le_t rfl⟩ ⟨le_t rfl, le_t rfl⟩ rfl (le_t rfl) fun z23 μ19 T20 F21 h22 => ?_
    refine mr_istore (pc := 53) (lv' := [(5, iv z23), (4, iv z12), (0, .ref 87), (1, iv p1), (2, iv p2), (3, iv p3)]) dX2_leastBelow_53 (by decide) rfl ?_
    refine mr_iload (pc := 55) (z := z12) dX2_leastBelow_55 rfl ?_
    refine mr_iload (pc := 57) (z := z23) dX2_leastBelow_57 rfl ?_
    refine mr_iand (pc := 59) (x := z12) (y := z23) dX2_leastBelow_59 ?_
    refine mr_gen (P := fun z => (-2147483648) ≤ z ∧ z ≤ 2147483647) (r32i _) fun z24 q25 h26 => ?_
    refine mr_if_eq (pc := 60) (tgt := 69) dX2_leastBelow_60 (by decide) h26 (fun h27 => ?_) (fun h27 => ?_)
    · have h28 : 0 ≤ z24 ∧ z24 ≤ 0 := (vc_X12_mask_1 h27 h26)
      refine sv_aload_n (pc := 69) dX2_leastBelow_69 rfl rfl ?_
      refine sv_dup (pc := 70) dX2_leastBelow_70 rfl ?_
      refine gf_X2_7 (pc := 71) dX2_leastBelow_71 wF_X2_98 (A_87 hw) T20 fun z29 q30 h31 => ?_
      refine mr_iconst (pc := 74) (z := 1) dX2_leastBelow_74 ?_
      refine mr_iadd (pc := 75) (x := z29) (y := 1) dX2_leastBelow_75 ?_
      refine mr_wrap fun z32 h33 => ?_
      refine pf_X2_7 (pc := 76) dX2_leastBelow_76 wF_X2_98 (A_87 hw) T20 h33 fun μ34 u35 T36 => ?_
      refine mr_iload (pc := 79) (z := z12) dX2_leastBelow_79 rfl ?_
      refine mr_iload (pc := 81) (z := z23) dX2_leastBelow_81 rfl ?_
      refine mr_ior (pc := 83) (x := z12) (y := z23) dX2_leastBelow_83 ?_
      refine mr_gen (P := fun z => (-2147483648) ≤ z ∧ z ≤ 2147483647) (r32i _) fun z37 q38 h39 => ?_
      exact mr_iret dX2_leastBelow_84 rfl (le_t rfl) (le_t rfl) T36 (mF.up (mF.call (mF.call mF.refl F10 rfl) F21 rfl) (A_87 hw) u35 rfl) ⟨h39, trivial⟩
    refine mr_iload (pc := 63) (z := z12) dX2_leastBelow_63 rfl ?_
    refine mr_iload (pc := 65) (z := z23) dX2_leastBelow_65 rfl ?_
    refine mr_iand (pc := 67) (x := z12) (y := z23) dX2_leastBelow_67 ?_
    refine mr_gen (P := fun z => (-2147483648) ≤ z ∧ z ≤ 2147483647) (r32i _) fun z40 q41 h42 => ?_
    exact mr_iret dX2_leastBelow_68 rfl (le_t rfl) (le_t rfl) T20 (mF.call (mF.call mF.refl F10 rfl) F21 rfl) ⟨h42, trivial⟩
  have h43 : 0 ≤ z5 ∧ z5 ≤ 0 := (vc_X12_ring_22 h6 h4.1)
  refine sv_aload_n (pc := 16) dX2_leastBelow_16 rfl rfl ?_
  refine mr_iload_n (pc := 17) (z := p1) dX2_leastBelow_17 rfl rfl ?_
  refine mr_iload_n (pc := 18) (z := p2) dX2_leastBelow_18 rfl rfl ?_
  refine mr_cVP (pc := 19) (c_X2_tieFor hw hT hp1 hp2 (vc_X9_end_1 hq0 hp1)) (gOk _ _ _ _ _) dX2_leastBelow_19 (tX2_tieFor _ _ _ _ _) ⟨wV_X2_tieFor, wL_X2_tieFor⟩ wM_X2_60 (gCX2 _ _ _ _ _) rfl (A_87 hw) rfl ⟨le_t rfl, le_t rfl⟩ ⟨le_t rfl, le_t rfl⟩ rfl (le_t rfl) fun z48 h47 => ?_
  refine mr_cSP (pc := 22) (c_X2_aimBit hw hT h47.1) (gOk _ _ _ _ _) dX2_leastBelow_22 (tX2_aimBit _ _ _ _ _) wS_X2_aimBit wM_X2_110 ⟨le_t rfl, le_t rfl⟩ ⟨le_t rfl, le_t rfl⟩ rfl (le_t rfl) fun z53 h52 => ?_
  exact mr_iret dX2_leastBelow_25 rfl (le_t rfl) (le_t rfl) hT mF.refl ⟨h52.1, trivial⟩
theorem vc_X2_leastBelow_14_1 {p3 : Int} (h0 : 32 ≤ p3) (h1 : 14 ≤ p3 ∧ p3 ≤ 14) : False := by omega
set_option maxRecDepth 4000 in
set_option maxHeartbeats 4000000 in
theorem c_X2_leastBelow_14 {l : Launch} {D : va_G} {c : Nat → ClassId} {H0 : Heap} {sa : Nat × Nat × (Nat → Int32)} {w : mW} {μ : mM} (hw : mWF w) (hT : mT w μ) {p1 : Int} (hp1 : 0 ≤ p1 ∧ p1 ≤ 9) {p2 : Int} (hp2 : (-2147483648) ≤ p2 ∧ p2 ≤ 2147483647) {p3 : Int} (hp3 : 14 ≤ p3 ∧ p3 ≤ 14) (hq0 : p1 < w.2.2.2 0) : sC (gG l D c H0 sa) mX2_leastBelow 21 0 0 [.ref 87, iv p1, iv p2, iv p3] (mk w μ) (qI w [87007] μ (fun z μ1 => ((-2147483648) ≤ z ∧ z ≤ 2147483647) ∧ True)) := by
  refine sC.of rfl (by decide) (le_t rfl) ?_
  refine mr_lvE (lv' := [(0, .ref 87), (1, iv p1), (2, iv p2), (3, iv p3)]) rfl ?_
  refine mr_iload_n (pc := 0) (z := p3) dX2_leastBelow_0 rfl rfl ?_
  refine mr_bipush (pc := 1) (z := 32) dX2_leastBelow_1 (by decide) ?_
  refine mr_icmp_ge (pc := 3) (tgt := 16) dX2_leastBelow_3 (by decide) (r32 hp3 rfl) (r32 (rR (x := 32)) rfl) (fun h => ((vc_X2_leastBelow_14_1 h hp3)).elim) (fun _ => ?_)
  refine sv_aload_n (pc := 6) dX2_leastBelow_6 rfl rfl ?_
  refine mr_iload_n (pc := 7) (z := p1) dX2_leastBelow_7 rfl rfl ?_
  refine mr_iload_n (pc := 8) (z := p2) dX2_leastBelow_8 rfl rfl ?_
  refine mr_iload_n (pc := 9) (z := p3) dX2_leastBelow_9 rfl rfl ?_
  refine mr_cVP (pc := 10) (c_X2_isSplit hw hT hp1 hp2 (rW (c := (-2147483648)) (d := 2147483647) hp3 rfl) (vc_X9_end_1 hq0 hp1)) (gOk _ _ _ _ _) dX2_leastBelow_10 (tX2_isSplit _ _ _ _ _) ⟨wV_X2_isSplit, wL_X2_isSplit⟩ wM_X2_106 (gCX2 _ _ _ _ _) rfl (A_87 hw) rfl ⟨le_t rfl, le_t rfl⟩ ⟨le_t rfl, le_t rfl⟩ rfl (le_t rfl) fun z5 h4 => ?_
  refine mr_if_ne (pc := 13) (tgt := 26) dX2_leastBelow_13 (by decide) (r32 h4.1 rfl) (fun h6 => ?_) (fun h6 => ?_)
  · have h7 : 1 ≤ z5 ∧ z5 ≤ 1 := (vc_X12_ring_24 h6 h4.1)
    refine sv_aload_n (pc := 26) dX2_leastBelow_26 rfl rfl ?_
    refine mr_iload_n (pc := 27) (z := p1) dX2_leastBelow_27 rfl rfl ?_
    refine mr_iload_n (pc := 28) (z := p2) dX2_leastBelow_28 rfl rfl ?_
    refine mr_iload_n (pc := 29) (z := p3) dX2_leastBelow_29 rfl rfl ?_
    refine mr_iconst (pc := 30) (z := 1) dX2_leastBelow_30 ?_
    refine mr_iadd (pc := 31) (x := p3) (y := 1) dX2_leastBelow_31 ?_
    refine mr_cVI (pc := 32) (c_X2_leastBelow_15 hw hT hp1 hp2 (rAdd (e := 15) (f := 15) hp3 (rR (x := 1)) rfl) (vc_X9_end_1 hq0 hp1)) (gOk _ _ _ _ _) dX2_leastBelow_32 (tX2_leastBelow _ _ _ _ _) ⟨wV_X2_leastBelow, wL_X2_leastBelow⟩ wM_X2_101 (gCX2 _ _ _ _ _) rfl (A_87 hw) rfl ⟨le_t rfl, le_t rfl⟩ ⟨le_t rfl, le_t rfl⟩ rfl (le_t rfl) fun z12 μ8 T9 F10 h11 => ?_
    refine mr_istore (pc := 35) (lv' := [(4, iv z12), (0, .ref 87), (1, iv p1), (2, iv p2), (3, iv p3)]) dX2_leastBelow_35 (by decide) rfl ?_
    refine sv_aload_n (pc := 37) dX2_leastBelow_37 rfl rfl ?_
    refine mr_iload_n (pc := 38) (z := p1) dX2_leastBelow_38 rfl rfl ?_
    refine mr_iload_n (pc := 39) (z := p2) dX2_leastBelow_39 rfl rfl ?_
    refine mr_iconst (pc := 40) (z := 1) dX2_leastBelow_40 ?_
    refine mr_bipush (pc := 41) (z := 31) dX2_leastBelow_41 (by decide) ?_
    refine mr_iload_n (pc := 43) (z := p3) dX2_leastBelow_43 rfl rfl ?_
    refine mr_isub (pc := 44) (x := 31) (y := p3) dX2_leastBelow_44 ?_
    refine mr_ishl (pc := 45) (x := 1) (y := (31 - p3)) dX2_leastBelow_45 ?_
    refine mr_gen (P := fun z => (-2147483648) ≤ z ∧ z ≤ 2147483647) (r32i _) fun z13 q14 h15 => ?_
    refine mr_ior (pc := 46) (x := p2) (y := z13) dX2_leastBelow_46 ?_
    refine mr_gen (P := fun z => (-2147483648) ≤ z ∧ z ≤ 2147483647) (r32i _) fun z16 q17 h18 => ?_
    refine mr_iload_n (pc := 47) (z := p3) dX2_leastBelow_47 rfl rfl ?_
    refine mr_iconst (pc := 48) (z := 1) dX2_leastBelow_48 ?_
    refine mr_iadd (pc := 49) (x := p3) (y := 1) dX2_leastBelow_49 ?_
    refine mr_cVI (pc := 50) (c_X2_leastBelow_15 hw T9 hp1 h18 (rAdd (e := 15) (f := 15) hp3 (rR (x := 1)) rfl) (vc_X9_end_1 hq0 hp1)) (gOk _ _ _ _ _) dX2_leastBelow_50 (tX2_leastBelow _ _ _ _ _) ⟨wV_X2_leastBelow, wL_X2_leastBelow⟩ wM_X2_101 (gCX2 _ _ _ _ _) rfl (A_87 hw) rfl ⟨le_t rfl, le_t rfl⟩ ⟨le_t rfl, le_t rfl⟩ rfl (le_t rfl) fun z23 μ19 T20 F21 h22 => ?_
    refine mr_istore (pc := 53) (lv' := [(5, iv z23), (4, iv z12), (0, .ref 87), (1, iv p1), (2, iv p2), (3, iv p3)]) dX2_leastBelow_53 (by decide) rfl ?_
    refine mr_iload (pc := 55) (z := z12) dX2_leastBelow_55 rfl ?_
    refine mr_iload (pc := 57) (z := z23) dX2_leastBelow_57 rfl ?_
    refine mr_iand (pc := 59) (x := z12) (y := z23) dX2_leastBelow_59 ?_
    refine mr_gen (P := fun z => (-2147483648) ≤ z ∧ z ≤ 2147483647) (r32i _) fun z24 q25 h26 => ?_
    refine mr_if_eq (pc := 60) (tgt := 69) dX2_leastBelow_60 (by decide) h26 (fun h27 => ?_) (fun h27 => ?_)
    · have h28 : 0 ≤ z24 ∧ z24 ≤ 0 := (vc_X12_mask_1 h27 h26)
      refine sv_aload_n (pc := 69) dX2_leastBelow_69 rfl rfl ?_
      refine sv_dup (pc := 70) dX2_leastBelow_70 rfl ?_
      refine gf_X2_7 (pc := 71) dX2_leastBelow_71 wF_X2_98 (A_87 hw) T20 fun z29 q30 h31 => ?_
      refine mr_iconst (pc := 74) (z := 1) dX2_leastBelow_74 ?_
      refine mr_iadd (pc := 75) (x := z29) (y := 1) dX2_leastBelow_75 ?_
      refine mr_wrap fun z32 h33 => ?_
      refine pf_X2_7 (pc := 76) dX2_leastBelow_76 wF_X2_98 (A_87 hw) T20 h33 fun μ34 u35 T36 => ?_
      refine mr_iload (pc := 79) (z := z12) dX2_leastBelow_79 rfl ?_
      refine mr_iload (pc := 81) (z := z23) dX2_leastBelow_81 rfl ?_
      refine mr_ior (pc := 83) (x := z12) (y := z23) dX2_leastBelow_83 ?_
      refine mr_gen (P := fun z => (-2147483648) ≤ z ∧ z ≤ 2147483647) (r32i _) fun z37 q38 h39 => ?_
      exact mr_iret dX2_leastBelow_84 rfl (le_t rfl) (le_t rfl) T36 (mF.up (mF.call (mF.call mF.refl F10 rfl) F21 rfl) (A_87 hw) u35 rfl) ⟨h39, trivial⟩
    refine mr_iload (pc := 63) (z := z12) dX2_leastBelow_63 rfl ?_
    refine mr_iload (pc := 65) (z := z23) dX2_leastBelow_65 rfl ?_
    refine mr_iand (pc := 67) (x := z12) (y := z23) dX2_leastBelow_67 ?_
    refine mr_gen (P := fun z => (-2147483648) ≤ z ∧ z ≤ 2147483647) (r32i _) fun z40 q41 h42 => ?_
    exact mr_iret dX2_leastBelow_68 rfl (le_t rfl) (le_t rfl) T20 (mF.call (mF.call mF.refl F10 rfl) F21 rfl) ⟨h42, trivial⟩
  have h43 : 0 ≤ z5 ∧ z5 ≤ 0 := (vc_X12_ring_22 h6 h4.1)
  refine sv_aload_n (pc := 16) dX2_leastBelow_16 rfl rfl ?_
  refine mr_iload_n (pc := 17) (z := p1) dX2_leastBelow_17 rfl rfl ?_
  refine mr_iload_n (pc := 18) (z := p2) dX2_leastBelow_18 rfl rfl ?_
  refine mr_cVP (pc := 19) (c_X2_tieFor hw hT hp1 hp2 (vc_X9_end_1 hq0 hp1)) (gOk _ _ _ _ _) dX2_leastBelow_19 (tX2_tieFor _ _ _ _ _) ⟨wV_X2_tieFor, wL_X2_tieFor⟩ wM_X2_60 (gCX2 _ _ _ _ _) rfl (A_87 hw) rfl ⟨le_t rfl, le_t rfl⟩ ⟨le_t rfl, le_t rfl⟩ rfl (le_t rfl) fun z48 h47 => ?_
  refine mr_cSP (pc := 22) (c_X2_aimBit hw hT h47.1) (gOk _ _ _ _ _) dX2_leastBelow_22 (tX2_aimBit _ _ _ _ _) wS_X2_aimBit wM_X2_110 ⟨le_t rfl, le_t rfl⟩ ⟨le_t rfl, le_t rfl⟩ rfl (le_t rfl) fun z53 h52 => ?_
  exact mr_iret dX2_leastBelow_25 rfl (le_t rfl) (le_t rfl) hT mF.refl ⟨h52.1, trivial⟩
theorem vc_X2_leastBelow_13_1 {p3 : Int} (h0 : 32 ≤ p3) (h1 : 13 ≤ p3 ∧ p3 ≤ 13) : False := by omega
set_option maxRecDepth 4000 in
set_option maxHeartbeats 4000000 in
theorem c_X2_leastBelow_13 {l : Launch} {D : va_G} {c : Nat → ClassId} {H0 : Heap} {sa : Nat × Nat × (Nat → Int32)} {w : mW} {μ : mM} (hw : mWF w) (hT : mT w μ) {p1 : Int} (hp1 : 0 ≤ p1 ∧ p1 ≤ 9) {p2 : Int} (hp2 : (-2147483648) ≤ p2 ∧ p2 ≤ 2147483647) {p3 : Int} (hp3 : 13 ≤ p3 ∧ p3 ≤ 13) (hq0 : p1 < w.2.2.2 0) : sC (gG l D c H0 sa) mX2_leastBelow 22 0 0 [.ref 87, iv p1, iv p2, iv p3] (mk w μ) (qI w [87007] μ (fun z μ1 => ((-2147483648) ≤ z ∧ z ≤ 2147483647) ∧ True)) := by
  refine sC.of rfl (by decide) (le_t rfl) ?_
  refine mr_lvE (lv' := [(0, .ref 87), (1, iv p1), (2, iv p2), (3, iv p3)]) rfl ?_
  refine mr_iload_n (pc := 0) (z := p3) dX2_leastBelow_0 rfl rfl ?_
  refine mr_bipush (pc := 1) (z := 32) dX2_leastBelow_1 (by decide) ?_
  refine mr_icmp_ge (pc := 3) (tgt := 16) dX2_leastBelow_3 (by decide) (r32 hp3 rfl) (r32 (rR (x := 32)) rfl) (fun h => ((vc_X2_leastBelow_13_1 h hp3)).elim) (fun _ => ?_)
  refine sv_aload_n (pc := 6) dX2_leastBelow_6 rfl rfl ?_
  refine mr_iload_n (pc := 7) (z := p1) dX2_leastBelow_7 rfl rfl ?_
  refine mr_iload_n (pc := 8) (z := p2) dX2_leastBelow_8 rfl rfl ?_
  refine mr_iload_n (pc := 9) (z := p3) dX2_leastBelow_9 rfl rfl ?_
  refine mr_cVP (pc := 10) (c_X2_isSplit hw hT hp1 hp2 (rW (c := (-2147483648)) (d := 2147483647) hp3 rfl) (vc_X9_end_1 hq0 hp1)) (gOk _ _ _ _ _) dX2_leastBelow_10 (tX2_isSplit _ _ _ _ _) ⟨wV_X2_isSplit, wL_X2_isSplit⟩ wM_X2_106 (gCX2 _ _ _ _ _) rfl (A_87 hw) rfl ⟨le_t rfl, le_t rfl⟩ ⟨le_t rfl, le_t rfl⟩ rfl (le_t rfl) fun z5 h4 => ?_
  refine mr_if_ne (pc := 13) (tgt := 26) dX2_leastBelow_13 (by decide) (r32 h4.1 rfl) (fun h6 => ?_) (fun h6 => ?_)
  · have h7 : 1 ≤ z5 ∧ z5 ≤ 1 := (vc_X12_ring_24 h6 h4.1)
    refine sv_aload_n (pc := 26) dX2_leastBelow_26 rfl rfl ?_
    refine mr_iload_n (pc := 27) (z := p1) dX2_leastBelow_27 rfl rfl ?_
    refine mr_iload_n (pc := 28) (z := p2) dX2_leastBelow_28 rfl rfl ?_
    refine mr_iload_n (pc := 29) (z := p3) dX2_leastBelow_29 rfl rfl ?_
    refine mr_iconst (pc := 30) (z := 1) dX2_leastBelow_30 ?_
    refine mr_iadd (pc := 31) (x := p3) (y := 1) dX2_leastBelow_31 ?_
    refine mr_cVI (pc := 32) (c_X2_leastBelow_14 hw hT hp1 hp2 (rAdd (e := 14) (f := 14) hp3 (rR (x := 1)) rfl) (vc_X9_end_1 hq0 hp1)) (gOk _ _ _ _ _) dX2_leastBelow_32 (tX2_leastBelow _ _ _ _ _) ⟨wV_X2_leastBelow, wL_X2_leastBelow⟩ wM_X2_101 (gCX2 _ _ _ _ _) rfl (A_87 hw) rfl ⟨le_t rfl, le_t rfl⟩ ⟨le_t rfl, le_t rfl⟩ rfl (le_t rfl) fun z12 μ8 T9 F10 h11 => ?_
    refine mr_istore (pc := 35) (lv' := [(4, iv z12), (0, .ref 87), (1, iv p1), (2, iv p2), (3, iv p3)]) dX2_leastBelow_35 (by decide) rfl ?_
    refine sv_aload_n (pc := 37) dX2_leastBelow_37 rfl rfl ?_
    refine mr_iload_n (pc := 38) (z := p1) dX2_leastBelow_38 rfl rfl ?_
    refine mr_iload_n (pc := 39) (z := p2) dX2_leastBelow_39 rfl rfl ?_
    refine mr_iconst (pc := 40) (z := 1) dX2_leastBelow_40 ?_
    refine mr_bipush (pc := 41) (z := 31) dX2_leastBelow_41 (by decide) ?_
    refine mr_iload_n (pc := 43) (z := p3) dX2_leastBelow_43 rfl rfl ?_
    refine mr_isub (pc := 44) (x := 31) (y := p3) dX2_leastBelow_44 ?_
    refine mr_ishl (pc := 45) (x := 1) (y := (31 - p3)) dX2_leastBelow_45 ?_
    refine mr_gen (P := fun z => (-2147483648) ≤ z ∧ z ≤ 2147483647) (r32i _) fun z13 q14 h15 => ?_
    refine mr_ior (pc := 46) (x := p2) (y := z13) dX2_leastBelow_46 ?_
    refine mr_gen (P := fun z => (-2147483648) ≤ z ∧ z ≤ 2147483647) (r32i _) fun z16 q17 h18 => ?_
    refine mr_iload_n (pc := 47) (z := p3) dX2_leastBelow_47 rfl rfl ?_
    refine mr_iconst (pc := 48) (z := 1) dX2_leastBelow_48 ?_
    refine mr_iadd (pc := 49) (x := p3) (y := 1) dX2_leastBelow_49 ?_
    refine mr_cVI (pc := 50) (c_X2_leastBelow_14 hw T9 hp1 h18 (rAdd (e := 14) (f := 14) hp3 (rR (x := 1)) rfl) (vc_X9_end_1 hq0 hp1)) (gOk _ _ _ _ _) dX2_leastBelow_50 (tX2_leastBelow _ _ _ _ _) ⟨wV_X2_leastBelow, wL_X2_leastBelow⟩ wM_X2_101 (gCX2 _ _ _ _ _) rfl (A_87 hw) rfl ⟨le_t rfl, le_t rfl⟩ ⟨le_t rfl, le_t rfl⟩ rfl (le_t rfl) fun z23 μ19 T20 F21 h22 => ?_
    refine mr_istore (pc := 53) (lv' := [(5, iv z23), (4, iv z12), (0, .ref 87), (1, iv p1), (2, iv p2), (3, iv p3)]) dX2_leastBelow_53 (by decide) rfl ?_
    refine mr_iload (pc := 55) (z := z12) dX2_leastBelow_55 rfl ?_
    refine mr_iload (pc := 57) (z := z23) dX2_leastBelow_57 rfl ?_
    refine mr_iand (pc := 59) (x := z12) (y := z23) dX2_leastBelow_59 ?_
    refine mr_gen (P := fun z => (-2147483648) ≤ z ∧ z ≤ 2147483647) (r32i _) fun z24 q25 h26 => ?_
    refine mr_if_eq (pc := 60) (tgt := 69) dX2_leastBelow_60 (by decide) h26 (fun h27 => ?_) (fun h27 => ?_)
    · have h28 : 0 ≤ z24 ∧ z24 ≤ 0 := (vc_X12_mask_1 h27 h26)
      refine sv_aload_n (pc := 69) dX2_leastBelow_69 rfl rfl ?_
      refine sv_dup (pc := 70) dX2_leastBelow_70 rfl ?_
      refine gf_X2_7 (pc := 71) dX2_leastBelow_71 wF_X2_98 (A_87 hw) T20 fun z29 q30 h31 => ?_
      refine mr_iconst (pc := 74) (z := 1) dX2_leastBelow_74 ?_
      refine mr_iadd (pc := 75) (x := z29) (y := 1) dX2_leastBelow_75 ?_
      refine mr_wrap fun z32 h33 => ?_
      refine pf_X2_7 (pc := 76) dX2_leastBelow_76 wF_X2_98 (A_87 hw) T20 h33 fun μ34 u35 T36 => ?_
      refine mr_iload (pc := 79) (z := z12) dX2_leastBelow_79 rfl ?_
      refine mr_iload (pc := 81) (z := z23) dX2_leastBelow_81 rfl ?_
      refine mr_ior (pc := 83) (x := z12) (y := z23) dX2_leastBelow_83 ?_
      refine mr_gen (P := fun z => (-2147483648) ≤ z ∧ z ≤ 2147483647) (r32i _) fun z37 q38 h39 => ?_
      exact mr_iret dX2_leastBelow_84 rfl (le_t rfl) (le_t rfl) T36 (mF.up (mF.call (mF.call mF.refl F10 rfl) F21 rfl) (A_87 hw) u35 rfl) ⟨h39, trivial⟩
    refine mr_iload (pc := 63) (z := z12) dX2_leastBelow_63 rfl ?_
    refine mr_iload (pc := 65) (z := z23) dX2_leastBelow_65 rfl ?_
    refine mr_iand (pc := 67) (x := z12) (y := z23) dX2_leastBelow_67 ?_
    refine mr_gen (P := fun z => (-2147483648) ≤ z ∧ z ≤ 2147483647) (r32i _) fun z40 q41 h42 => ?_
    exact mr_iret dX2_leastBelow_68 rfl (le_t rfl) (le_t rfl) T20 (mF.call (mF.call mF.refl F10 rfl) F21 rfl) ⟨h42, trivial⟩
  have h43 : 0 ≤ z5 ∧ z5 ≤ 0 := (vc_X12_ring_22 h6 h4.1)
  refine sv_aload_n (pc := 16) dX2_leastBelow_16 rfl rfl ?_
  refine mr_iload_n (pc := 17) (z := p1) dX2_leastBelow_17 rfl rfl ?_
  refine mr_iload_n (pc := 18) (z := p2) dX2_leastBelow_18 rfl rfl ?_
  refine mr_cVP (pc := 19) (c_X2_tieFor hw hT hp1 hp2 (vc_X9_end_1 hq0 hp1)) (gOk _ _ _ _ _) dX2_leastBelow_19 (tX2_tieFor _ _ _ _ _) ⟨wV_X2_tieFor, wL_X2_tieFor⟩ wM_X2_60 (gCX2 _ _ _ _ _) rfl (A_87 hw) rfl ⟨le_t rfl, le_t rfl⟩ ⟨le_t rfl, le_t rfl⟩ rfl (le_t rfl) fun z48 h47 => ?_
  refine mr_cSP (pc := 22) (c_X2_aimBit hw hT h47.1) (gOk _ _ _ _ _) dX2_leastBelow_22 (tX2_aimBit _ _ _ _ _) wS_X2_aimBit wM_X2_110 ⟨le_t rfl, le_t rfl⟩ ⟨le_t rfl, le_t rfl⟩ rfl (le_t rfl) fun z53 h52 => ?_
  exact mr_iret dX2_leastBelow_25 rfl (le_t rfl) (le_t rfl) hT mF.refl ⟨h52.1, trivial⟩
theorem vc_X2_leastBelow_12_1 {p3 : Int} (h0 : 32 ≤ p3) (h1 : 12 ≤ p3 ∧ p3 ≤ 12) : False := by omega
set_option maxRecDepth 4000 in
set_option maxHeartbeats 4000000 in
theorem c_X2_leastBelow_12 {l : Launch} {D : va_G} {c : Nat → ClassId} {H0 : Heap} {sa : Nat × Nat × (Nat → Int32)} {w : mW} {μ : mM} (hw : mWF w) (hT : mT w μ) {p1 : Int} (hp1 : 0 ≤ p1 ∧ p1 ≤ 9) {p2 : Int} (hp2 : (-2147483648) ≤ p2 ∧ p2 ≤ 2147483647) {p3 : Int} (hp3 : 12 ≤ p3 ∧ p3 ≤ 12) (hq0 : p1 < w.2.2.2 0) : sC (gG l D c H0 sa) mX2_leastBelow 23 0 0 [.ref 87, iv p1, iv p2, iv p3] (mk w μ) (qI w [87007] μ (fun z μ1 => ((-2147483648) ≤ z ∧ z ≤ 2147483647) ∧ True)) := by
  refine sC.of rfl (by decide) (le_t rfl) ?_
  refine mr_lvE (lv' := [(0, .ref 87), (1, iv p1), (2, iv p2), (3, iv p3)]) rfl ?_
  refine mr_iload_n (pc := 0) (z := p3) dX2_leastBelow_0 rfl rfl ?_
  refine mr_bipush (pc := 1) (z := 32) dX2_leastBelow_1 (by decide) ?_
  refine mr_icmp_ge (pc := 3) (tgt := 16) dX2_leastBelow_3 (by decide) (r32 hp3 rfl) (r32 (rR (x := 32)) rfl) (fun h => ((vc_X2_leastBelow_12_1 h hp3)).elim) (fun _ => ?_)
  refine sv_aload_n (pc := 6) dX2_leastBelow_6 rfl rfl ?_
  refine mr_iload_n (pc := 7) (z := p1) dX2_leastBelow_7 rfl rfl ?_
  refine mr_iload_n (pc := 8) (z := p2) dX2_leastBelow_8 rfl rfl ?_
  refine mr_iload_n (pc := 9) (z := p3) dX2_leastBelow_9 rfl rfl ?_
  refine mr_cVP (pc := 10) (c_X2_isSplit hw hT hp1 hp2 (rW (c := (-2147483648)) (d := 2147483647) hp3 rfl) (vc_X9_end_1 hq0 hp1)) (gOk _ _ _ _ _) dX2_leastBelow_10 (tX2_isSplit _ _ _ _ _) ⟨wV_X2_isSplit, wL_X2_isSplit⟩ wM_X2_106 (gCX2 _ _ _ _ _) rfl (A_87 hw) rfl ⟨le_t rfl, le_t rfl⟩ ⟨le_t rfl, le_t rfl⟩ rfl (le_t rfl) fun z5 h4 => ?_
  refine mr_if_ne (pc := 13) (tgt := 26) dX2_leastBelow_13 (by decide) (r32 h4.1 rfl) (fun h6 => ?_) (fun h6 => ?_)
  · have h7 : 1 ≤ z5 ∧ z5 ≤ 1 := (vc_X12_ring_24 h6 h4.1)
    refine sv_aload_n (pc := 26) dX2_leastBelow_26 rfl rfl ?_
    refine mr_iload_n (pc := 27) (z := p1) dX2_leastBelow_27 rfl rfl ?_
    refine mr_iload_n (pc := 28) (z := p2) dX2_leastBelow_28 rfl rfl ?_
    refine mr_iload_n (pc := 29) (z := p3) dX2_leastBelow_29 rfl rfl ?_
    refine mr_iconst (pc := 30) (z := 1) dX2_leastBelow_30 ?_
    refine mr_iadd (pc := 31) (x := p3) (y := 1) dX2_leastBelow_31 ?_
    refine mr_cVI (pc := 32) (c_X2_leastBelow_13 hw hT hp1 hp2 (rAdd (e := 13) (f := 13) hp3 (rR (x := 1)) rfl) (vc_X9_end_1 hq0 hp1)) (gOk _ _ _ _ _) dX2_leastBelow_32 (tX2_leastBelow _ _ _ _ _) ⟨wV_X2_leastBelow, wL_X2_leastBelow⟩ wM_X2_101 (gCX2 _ _ _ _ _) rfl (A_87 hw) rfl ⟨le_t rfl, le_t rfl⟩ ⟨le_t rfl, le_t rfl⟩ rfl (le_t rfl) fun z12 μ8 T9 F10 h11 => ?_
    refine mr_istore (pc := 35) (lv' := [(4, iv z12), (0, .ref 87), (1, iv p1), (2, iv p2), (3, iv p3)]) dX2_leastBelow_35 (by decide) rfl ?_
    refine sv_aload_n (pc := 37) dX2_leastBelow_37 rfl rfl ?_
    refine mr_iload_n (pc := 38) (z := p1) dX2_leastBelow_38 rfl rfl ?_
    refine mr_iload_n (pc := 39) (z := p2) dX2_leastBelow_39 rfl rfl ?_
    refine mr_iconst (pc := 40) (z := 1) dX2_leastBelow_40 ?_
    refine mr_bipush (pc := 41) (z := 31) dX2_leastBelow_41 (by decide) ?_
    refine mr_iload_n (pc := 43) (z := p3) dX2_leastBelow_43 rfl rfl ?_
    refine mr_isub (pc := 44) (x := 31) (y := p3) dX2_leastBelow_44 ?_
    refine mr_ishl (pc := 45) (x := 1) (y := (31 - p3)) dX2_leastBelow_45 ?_
    refine mr_gen (P := fun z => (-2147483648) ≤ z ∧ z ≤ 2147483647) (r32i _) fun z13 q14 h15 => ?_
    refine mr_ior (pc := 46) (x := p2) (y := z13) dX2_leastBelow_46 ?_
    refine mr_gen (P := fun z => (-2147483648) ≤ z ∧ z ≤ 2147483647) (r32i _) fun z16 q17 h18 => ?_
    refine mr_iload_n (pc := 47) (z := p3) dX2_leastBelow_47 rfl rfl ?_
    refine mr_iconst (pc := 48) (z := 1) dX2_leastBelow_48 ?_
    refine mr_iadd (pc := 49) (x := p3) (y := 1) dX2_leastBelow_49 ?_
    refine mr_cVI (pc := 50) (c_X2_leastBelow_13 hw T9 hp1 h18 (rAdd (e := 13) (f := 13) hp3 (rR (x := 1)) rfl) (vc_X9_end_1 hq0 hp1)) (gOk _ _ _ _ _) dX2_leastBelow_50 (tX2_leastBelow _ _ _ _ _) ⟨wV_X2_leastBelow, wL_X2_leastBelow⟩ wM_X2_101 (gCX2 _ _ _ _ _) rfl (A_87 hw) rfl ⟨le_t rfl, le_t rfl⟩ ⟨le_t rfl, le_t rfl⟩ rfl (le_t rfl) fun z23 μ19 T20 F21 h22 => ?_
    refine mr_istore (pc := 53) (lv' := [(5, iv z23), (4, iv z12), (0, .ref 87), (1, iv p1), (2, iv p2), (3, iv p3)]) dX2_leastBelow_53 (by decide) rfl ?_
    refine mr_iload (pc := 55) (z := z12) dX2_leastBelow_55 rfl ?_
    refine mr_iload (pc := 57) (z := z23) dX2_leastBelow_57 rfl ?_
    refine mr_iand (pc := 59) (x := z12) (y := z23) dX2_leastBelow_59 ?_
    refine mr_gen (P := fun z => (-2147483648) ≤ z ∧ z ≤ 2147483647) (r32i _) fun z24 q25 h26 => ?_
    refine mr_if_eq (pc := 60) (tgt := 69) dX2_leastBelow_60 (by decide) h26 (fun h27 => ?_) (fun h27 => ?_)
    · have h28 : 0 ≤ z24 ∧ z24 ≤ 0 := (vc_X12_mask_1 h27 h26)
      refine sv_aload_n (pc := 69) dX2_leastBelow_69 rfl rfl ?_
      refine sv_dup (pc := 70) dX2_leastBelow_70 rfl ?_
      refine gf_X2_7 (pc := 71) dX2_leastBelow_71 wF_X2_98 (A_87 hw) T20 fun z29 q30 h31 => ?_
      refine mr_iconst (pc := 74) (z := 1) dX2_leastBelow_74 ?_
      refine mr_iadd (pc := 75) (x := z29) (y := 1) dX2_leastBelow_75 ?_
      refine mr_wrap fun z32 h33 => ?_
      refine pf_X2_7 (pc := 76) dX2_leastBelow_76 wF_X2_98 (A_87 hw) T20 h33 fun μ34 u35 T36 => ?_
      refine mr_iload (pc := 79) (z := z12) dX2_leastBelow_79 rfl ?_
      refine mr_iload (pc := 81) (z := z23) dX2_leastBelow_81 rfl ?_
      refine mr_ior (pc := 83) (x := z12) (y := z23) dX2_leastBelow_83 ?_
      refine mr_gen (P := fun z => (-2147483648) ≤ z ∧ z ≤ 2147483647) (r32i _) fun z37 q38 h39 => ?_
      exact mr_iret dX2_leastBelow_84 rfl (le_t rfl) (le_t rfl) T36 (mF.up (mF.call (mF.call mF.refl F10 rfl) F21 rfl) (A_87 hw) u35 rfl) ⟨h39, trivial⟩
    refine mr_iload (pc := 63) (z := z12) dX2_leastBelow_63 rfl ?_
    refine mr_iload (pc := 65) (z := z23) dX2_leastBelow_65 rfl ?_
    refine mr_iand (pc := 67) (x := z12) (y := z23) dX2_leastBelow_67 ?_
    refine mr_gen (P := fun z => (-2147483648) ≤ z ∧ z ≤ 2147483647) (r32i _) fun z40 q41 h42 => ?_
    exact mr_iret dX2_leastBelow_68 rfl (le_t rfl) (le_t rfl) T20 (mF.call (mF.call mF.refl F10 rfl) F21 rfl) ⟨h42, trivial⟩
  have h43 : 0 ≤ z5 ∧ z5 ≤ 0 := (vc_X12_ring_22 h6 h4.1)
  refine sv_aload_n (pc := 16) dX2_leastBelow_16 rfl rfl ?_
  refine mr_iload_n (pc := 17) (z := p1) dX2_leastBelow_17 rfl rfl ?_
  refine mr_iload_n (pc := 18) (z := p2) dX2_leastBelow_18 rfl rfl ?_
  refine mr_cVP (pc := 19) (c_X2_tieFor hw hT hp1 hp2 (vc_X9_end_1 hq0 hp1)) (gOk _ _ _ _ _) dX2_leastBelow_19 (tX2_tieFor _ _ _ _ _) ⟨wV_X2_tieFor, wL_X2_tieFor⟩ wM_X2_60 (gCX2 _ _ _ _ _) rfl (A_87 hw) rfl ⟨le_t rfl, le_t rfl⟩ ⟨le_t rfl, le_t rfl⟩ rfl (le_t rfl) fun z48 h47 => ?_
  refine mr_cSP (pc := 22) (c_X2_aimBit hw hT h47.1) (gOk _ _ _ _ _) dX2_leastBelow_22 (tX2_aimBit _ _ _ _ _) wS_X2_aimBit wM_X2_110 ⟨le_t rfl, le_t rfl⟩ ⟨le_t rfl, le_t rfl⟩ rfl (le_t rfl) fun z53 h52 => ?_
  exact mr_iret dX2_leastBelow_25 rfl (le_t rfl) (le_t rfl) hT mF.refl ⟨h52.1, trivial⟩
theorem vc_X2_leastBelow_11_1 {p3 : Int} (h0 : 32 ≤ p3) (h1 : 11 ≤ p3 ∧ p3 ≤ 11) : False := by omega
set_option maxRecDepth 4000 in
set_option maxHeartbeats 4000000 in
theorem c_X2_leastBelow_11 {l : Launch} {D : va_G} {c : Nat → ClassId} {H0 : Heap} {sa : Nat × Nat × (Nat → Int32)} {w : mW} {μ : mM} (hw : mWF w) (hT : mT w μ) {p1 : Int} (hp1 : 0 ≤ p1 ∧ p1 ≤ 9) {p2 : Int} (hp2 : (-2147483648) ≤ p2 ∧ p2 ≤ 2147483647) {p3 : Int} (hp3 : 11 ≤ p3 ∧ p3 ≤ 11) (hq0 : p1 < w.2.2.2 0) : sC (gG l D c H0 sa) mX2_leastBelow 24 0 0 [.ref 87, iv p1, iv p2, iv p3] (mk w μ) (qI w [87007] μ (fun z μ1 => ((-2147483648) ≤ z ∧ z ≤ 2147483647) ∧ True)) := by
  refine sC.of rfl (by decide) (le_t rfl) ?_
  refine mr_lvE (lv' := [(0, .ref 87), (1, iv p1), (2, iv p2), (3, iv p3)]) rfl ?_
  refine mr_iload_n (pc := 0) (z := p3) dX2_leastBelow_0 rfl rfl ?_
  refine mr_bipush (pc := 1) (z := 32) dX2_leastBelow_1 (by decide) ?_
  refine mr_icmp_ge (pc := 3) (tgt := 16) dX2_leastBelow_3 (by decide) (r32 hp3 rfl) (r32 (rR (x := 32)) rfl) (fun h => ((vc_X2_leastBelow_11_1 h hp3)).elim) (fun _ => ?_)
  refine sv_aload_n (pc := 6) dX2_leastBelow_6 rfl rfl ?_
  refine mr_iload_n (pc := 7) (z := p1) dX2_leastBelow_7 rfl rfl ?_
  refine mr_iload_n (pc := 8) (z := p2) dX2_leastBelow_8 rfl rfl ?_
  refine mr_iload_n (pc := 9) (z := p3) dX2_leastBelow_9 rfl rfl ?_
  refine mr_cVP (pc := 10) (c_X2_isSplit hw hT hp1 hp2 (rW (c := (-2147483648)) (d := 2147483647) hp3 rfl) (vc_X9_end_1 hq0 hp1)) (gOk _ _ _ _ _) dX2_leastBelow_10 (tX2_isSplit _ _ _ _ _) ⟨wV_X2_isSplit, wL_X2_isSplit⟩ wM_X2_106 (gCX2 _ _ _ _ _) rfl (A_87 hw) rfl ⟨le_t rfl, le_t rfl⟩ ⟨le_t rfl, le_t rfl⟩ rfl (le_t rfl) fun z5 h4 => ?_
  refine mr_if_ne (pc := 13) (tgt := 26) dX2_leastBelow_13 (by decide) (r32 h4.1 rfl) (fun h6 => ?_) (fun h6 => ?_)
  · have h7 : 1 ≤ z5 ∧ z5 ≤ 1 := (vc_X12_ring_24 h6 h4.1)
    refine sv_aload_n (pc := 26) dX2_leastBelow_26 rfl rfl ?_
    refine mr_iload_n (pc := 27) (z := p1) dX2_leastBelow_27 rfl rfl ?_
    refine mr_iload_n (pc := 28) (z := p2) dX2_leastBelow_28 rfl rfl ?_
    refine mr_iload_n (pc := 29) (z := p3) dX2_leastBelow_29 rfl rfl ?_
    refine mr_iconst (pc := 30) (z := 1) dX2_leastBelow_30 ?_
    refine mr_iadd (pc := 31) (x := p3) (y := 1) dX2_leastBelow_31 ?_
    refine mr_cVI (pc := 32) (c_X2_leastBelow_12 hw hT hp1 hp2 (rAdd (e := 12) (f := 12) hp3 (rR (x := 1)) rfl) (vc_X9_end_1 hq0 hp1)) (gOk _ _ _ _ _) dX2_leastBelow_32 (tX2_leastBelow _ _ _ _ _) ⟨wV_X2_leastBelow, wL_X2_leastBelow⟩ wM_X2_101 (gCX2 _ _ _ _ _) rfl (A_87 hw) rfl ⟨le_t rfl, le_t rfl⟩ ⟨le_t rfl, le_t rfl⟩ rfl (le_t rfl) fun z12 μ8 T9 F10 h11 => ?_
    refine mr_istore (pc := 35) (lv' := [(4, iv z12), (0, .ref 87), (1, iv p1), (2, iv p2), (3, iv p3)]) dX2_leastBelow_35 (by decide) rfl ?_
    refine sv_aload_n (pc := 37) dX2_leastBelow_37 rfl rfl ?_
    refine mr_iload_n (pc := 38) (z := p1) dX2_leastBelow_38 rfl rfl ?_
    refine mr_iload_n (pc := 39) (z := p2) dX2_leastBelow_39 rfl rfl ?_
    refine mr_iconst (pc := 40) (z := 1) dX2_leastBelow_40 ?_
    refine mr_bipush (pc := 41) (z := 31) dX2_leastBelow_41 (by decide) ?_
    refine mr_iload_n (pc := 43) (z := p3) dX2_leastBelow_43 rfl rfl ?_
    refine mr_isub (pc := 44) (x := 31) (y := p3) dX2_leastBelow_44 ?_
    refine mr_ishl (pc := 45) (x := 1) (y := (31 - p3)) dX2_leastBelow_45 ?_
    refine mr_gen (P := fun z => (-2147483648) ≤ z ∧ z ≤ 2147483647) (r32i _) fun z13 q14 h15 => ?_
    refine mr_ior (pc := 46) (x := p2) (y := z13) dX2_leastBelow_46 ?_
    refine mr_gen (P := fun z => (-2147483648) ≤ z ∧ z ≤ 2147483647) (r32i _) fun z16 q17 h18 => ?_
    refine mr_iload_n (pc := 47) (z := p3) dX2_leastBelow_47 rfl rfl ?_
    refine mr_iconst (pc := 48) (z := 1) dX2_leastBelow_48 ?_
    refine mr_iadd (pc := 49) (x := p3) (y := 1) dX2_leastBelow_49 ?_
    refine mr_cVI (pc := 50) (c_X2_leastBelow_12 hw T9 hp1 h18 (rAdd (e := 12) (f := 12) hp3 (rR (x := 1)) rfl) (vc_X9_end_1 hq0 hp1)) (gOk _ _ _ _ _) dX2_leastBelow_50 (tX2_leastBelow _ _ _ _ _) ⟨wV_X2_leastBelow, wL_X2_leastBelow⟩ wM_X2_101 (gCX2 _ _ _ _ _) rfl (A_87 hw) rfl ⟨le_t rfl, le_t rfl⟩ ⟨le_t rfl, le_t rfl⟩ rfl (le_t rfl) fun z23 μ19 T20 F21 h22 => ?_
    refine mr_istore (pc := 53) (lv' := [(5, iv z23), (4, iv z12), (0, .ref 87), (1, iv p1), (2, iv p2), (3, iv p3)]) dX2_leastBelow_53 (by decide) rfl ?_
    refine mr_iload (pc := 55) (z := z12) dX2_leastBelow_55 rfl ?_
    refine mr_iload (pc := 57) (z := z23) dX2_leastBelow_57 rfl ?_
    refine mr_iand (pc := 59) (x := z12) (y := z23) dX2_leastBelow_59 ?_
    refine mr_gen (P := fun z => (-2147483648) ≤ z ∧ z ≤ 2147483647) (r32i _) fun z24 q25 h26 => ?_
    refine mr_if_eq (pc := 60) (tgt := 69) dX2_leastBelow_60 (by decide) h26 (fun h27 => ?_) (fun h27 => ?_)
    · have h28 : 0 ≤ z24 ∧ z24 ≤ 0 := (vc_X12_mask_1 h27 h26)
      refine sv_aload_n (pc := 69) dX2_leastBelow_69 rfl rfl ?_
      refine sv_dup (pc := 70) dX2_leastBelow_70 rfl ?_
      refine gf_X2_7 (pc := 71) dX2_leastBelow_71 wF_X2_98 (A_87 hw) T20 fun z29 q30 h31 => ?_
      refine mr_iconst (pc := 74) (z := 1) dX2_leastBelow_74 ?_
      refine mr_iadd (pc := 75) (x := z29) (y := 1) dX2_leastBelow_75 ?_
      refine mr_wrap fun z32 h33 => ?_
      refine pf_X2_7 (pc := 76) dX2_leastBelow_76 wF_X2_98 (A_87 hw) T20 h33 fun μ34 u35 T36 => ?_
      refine mr_iload (pc := 79) (z := z12) dX2_leastBelow_79 rfl ?_
      refine mr_iload (pc := 81) (z := z23) dX2_leastBelow_81 rfl ?_
      refine mr_ior (pc := 83) (x := z12) (y := z23) dX2_leastBelow_83 ?_
      refine mr_gen (P := fun z => (-2147483648) ≤ z ∧ z ≤ 2147483647) (r32i _) fun z37 q38 h39 => ?_
      exact mr_iret dX2_leastBelow_84 rfl (le_t rfl) (le_t rfl) T36 (mF.up (mF.call (mF.call mF.refl F10 rfl) F21 rfl) (A_87 hw) u35 rfl) ⟨h39, trivial⟩
    refine mr_iload (pc := 63) (z := z12) dX2_leastBelow_63 rfl ?_
    refine mr_iload (pc := 65) (z := z23) dX2_leastBelow_65 rfl ?_
    refine mr_iand (pc := 67) (x := z12) (y := z23) dX2_leastBelow_67 ?_
    refine mr_gen (P := fun z => (-2147483648) ≤ z ∧ z ≤ 2147483647) (r32i _) fun z40 q41 h42 => ?_
    exact mr_iret dX2_leastBelow_68 rfl (le_t rfl) (le_t rfl) T20 (mF.call (mF.call mF.refl F10 rfl) F21 rfl) ⟨h42, trivial⟩
  have h43 : 0 ≤ z5 ∧ z5 ≤ 0 := (vc_X12_ring_22 h6 h4.1)
  refine sv_aload_n (pc := 16) dX2_leastBelow_16 rfl rfl ?_
  refine mr_iload_n (pc := 17) (z := p1) dX2_leastBelow_17 rfl rfl ?_
  refine mr_iload_n (pc := 18) (z := p2) dX2_leastBelow_18 rfl rfl ?_
  refine mr_cVP (pc := 19) (c_X2_tieFor hw hT hp1 hp2 (vc_X9_end_1 hq0 hp1)) (gOk _ _ _ _ _) dX2_leastBelow_19 (tX2_tieFor _ _ _ _ _) ⟨wV_X2_tieFor, wL_X2_tieFor⟩ wM_X2_60 (gCX2 _ _ _ _ _) rfl (A_87 hw) rfl ⟨le_t rfl, le_t rfl⟩ ⟨le_t rfl, le_t rfl⟩ rfl (le_t rfl) fun z48 h47 => ?_
  refine mr_cSP (pc := 22) (c_X2_aimBit hw hT h47.1) (gOk _ _ _ _ _) dX2_leastBelow_22 (tX2_aimBit _ _ _ _ _) wS_X2_aimBit wM_X2_110 ⟨le_t rfl, le_t rfl⟩ ⟨le_t rfl, le_t rfl⟩ rfl (le_t rfl) fun z53 h52 => ?_
  exact mr_iret dX2_leastBelow_25 rfl (le_t rfl) (le_t rfl) hT mF.refl ⟨h52.1, trivial⟩
theorem vc_X2_leastBelow_10_1 {p3 : Int} (h0 : 32 ≤ p3) (h1 : 10 ≤ p3 ∧ p3 ≤ 10) : False := by omega
set_option maxRecDepth 4000 in
set_option maxHeartbeats 4000000 in
theorem c_X2_leastBelow_10 {l : Launch} {D : va_G} {c : Nat → ClassId} {H0 : Heap} {sa : Nat × Nat × (Nat → Int32)} {w : mW} {μ : mM} (hw : mWF w) (hT : mT w μ) {p1 : Int} (hp1 : 0 ≤ p1 ∧ p1 ≤ 9) {p2 : Int} (hp2 : (-2147483648) ≤ p2 ∧ p2 ≤ 2147483647) {p3 : Int} (hp3 : 10 ≤ p3 ∧ p3 ≤ 10) (hq0 : p1 < w.2.2.2 0) : sC (gG l D c H0 sa) mX2_leastBelow 25 0 0 [.ref 87, iv p1, iv p2, iv p3] (mk w μ) (qI w [87007] μ (fun z μ1 => ((-2147483648) ≤ z ∧ z ≤ 2147483647) ∧ True)) := by
  refine sC.of rfl (by decide) (le_t rfl) ?_
  refine mr_lvE (lv' := [(0, .ref 87), (1, iv p1), (2, iv p2), (3, iv p3)]) rfl ?_
  refine mr_iload_n (pc := 0) (z := p3) dX2_leastBelow_0 rfl rfl ?_
  refine mr_bipush (pc := 1) (z := 32) dX2_leastBelow_1 (by decide) ?_
  refine mr_icmp_ge (pc := 3) (tgt := 16) dX2_leastBelow_3 (by decide) (r32 hp3 rfl) (r32 (rR (x := 32)) rfl) (fun h => ((vc_X2_leastBelow_10_1 h hp3)).elim) (fun _ => ?_)
  refine sv_aload_n (pc := 6) dX2_leastBelow_6 rfl rfl ?_
  refine mr_iload_n (pc := 7) (z := p1) dX2_leastBelow_7 rfl rfl ?_
  refine mr_iload_n (pc := 8) (z := p2) dX2_leastBelow_8 rfl rfl ?_
  refine mr_iload_n (pc := 9) (z := p3) dX2_leastBelow_9 rfl rfl ?_
  refine mr_cVP (pc := 10) (c_X2_isSplit hw hT hp1 hp2 (rW (c := (-2147483648)) (d := 2147483647) hp3 rfl) (vc_X9_end_1 hq0 hp1)) (gOk _ _ _ _ _) dX2_leastBelow_10 (tX2_isSplit _ _ _ _ _) ⟨wV_X2_isSplit, wL_X2_isSplit⟩ wM_X2_106 (gCX2 _ _ _ _ _) rfl (A_87 hw) rfl ⟨le_t rfl, le_t rfl⟩ ⟨le_t rfl, le_t rfl⟩ rfl (le_t rfl) fun z5 h4 => ?_
  refine mr_if_ne (pc := 13) (tgt := 26) dX2_leastBelow_13 (by decide) (r32 h4.1 rfl) (fun h6 => ?_) (fun h6 => ?_)
  · have h7 : 1 ≤ z5 ∧ z5 ≤ 1 := (vc_X12_ring_24 h6 h4.1)
    refine sv_aload_n (pc := 26) dX2_leastBelow_26 rfl rfl ?_
    refine mr_iload_n (pc := 27) (z := p1) dX2_leastBelow_27 rfl rfl ?_
    refine mr_iload_n (pc := 28) (z := p2) dX2_leastBelow_28 rfl rfl ?_
    refine mr_iload_n (pc := 29) (z := p3) dX2_leastBelow_29 rfl rfl ?_
    refine mr_iconst (pc := 30) (z := 1) dX2_leastBelow_30 ?_
    refine mr_iadd (pc := 31) (x := p3) (y := 1) dX2_leastBelow_31 ?_
    refine mr_cVI (pc := 32) (c_X2_leastBelow_11 hw hT hp1 hp2 (rAdd (e := 11) (f := 11) hp3 (rR (x := 1)) rfl) (vc_X9_end_1 hq0 hp1)) (gOk _ _ _ _ _) dX2_leastBelow_32 (tX2_leastBelow _ _ _ _ _) ⟨wV_X2_leastBelow, wL_X2_leastBelow⟩ wM_X2_101 (gCX2 _ _ _ _ _) rfl (A_87 hw) rfl ⟨le_t rfl, le_t rfl⟩ ⟨le_t rfl, le_t rfl⟩ rfl (le_t rfl) fun z12 μ8 T9 F10 h11 => ?_
    refine mr_istore (pc := 35) (lv' := [(4, iv z12), (0, .ref 87), (1, iv p1), (2, iv p2), (3, iv p3)]) dX2_leastBelow_35 (by decide) rfl ?_
    refine sv_aload_n (pc := 37) dX2_leastBelow_37 rfl rfl ?_
    refine mr_iload_n (pc := 38) (z := p1) dX2_leastBelow_38 rfl rfl ?_
    refine mr_iload_n (pc := 39) (z := p2) dX2_leastBelow_39 rfl rfl ?_
    refine mr_iconst (pc := 40) (z := 1) dX2_leastBelow_40 ?_
    refine mr_bipush (pc := 41) (z := 31) dX2_leastBelow_41 (by decide) ?_
    refine mr_iload_n (pc := 43) (z := p3) dX2_leastBelow_43 rfl rfl ?_
    refine mr_isub (pc := 44) (x := 31) (y := p3) dX2_leastBelow_44 ?_
    refine mr_ishl (pc := 45) (x := 1) (y := (31 - p3)) dX2_leastBelow_45 ?_
    refine mr_gen (P := fun z => (-2147483648) ≤ z ∧ z ≤ 2147483647) (r32i _) fun z13 q14 h15 => ?_
    refine mr_ior (pc := 46) (x := p2) (y := z13) dX2_leastBelow_46 ?_
    refine mr_gen (P := fun z => (-2147483648) ≤ z ∧ z ≤ 2147483647) (r32i _) fun z16 q17 h18 => ?_
    refine mr_iload_n (pc := 47) (z := p3) dX2_leastBelow_47 rfl rfl ?_
    refine mr_iconst (pc := 48) (z := 1) dX2_leastBelow_48 ?_
    refine mr_iadd (pc := 49) (x := p3) (y := 1) dX2_leastBelow_49 ?_
    refine mr_cVI (pc := 50) (c_X2_leastBelow_11 hw T9 hp1 h18 (rAdd (e := 11) (f := 11) hp3 (rR (x := 1)) rfl) (vc_X9_end_1 hq0 hp1)) (gOk _ _ _ _ _) dX2_leastBelow_50 (tX2_leastBelow _ _ _ _ _) ⟨wV_X2_leastBelow, wL_X2_leastBelow⟩ wM_X2_101 (gCX2 _ _ _ _ _) rfl (A_87 hw) rfl ⟨le_t rfl, le_t rfl⟩ ⟨le_t rfl, le_t rfl⟩ rfl (le_t rfl) fun z23 μ19 T20 F21 h22 => ?_
    refine mr_istore (pc := 53) (lv' := [(5, iv z23), (4, iv z12), (0, .ref 87), (1, iv p1), (2, iv p2), (3, iv p3)]) dX2_leastBelow_53 (by decide) rfl ?_
    refine mr_iload (pc := 55) (z := z12) dX2_leastBelow_55 rfl ?_
    refine mr_iload (pc := 57) (z := z23) dX2_leastBelow_57 rfl ?_
    refine mr_iand (pc := 59) (x := z12) (y := z23) dX2_leastBelow_59 ?_
    refine mr_gen (P := fun z => (-2147483648) ≤ z ∧ z ≤ 2147483647) (r32i _) fun z24 q25 h26 => ?_
    refine mr_if_eq (pc := 60) (tgt := 69) dX2_leastBelow_60 (by decide) h26 (fun h27 => ?_) (fun h27 => ?_)
    · have h28 : 0 ≤ z24 ∧ z24 ≤ 0 := (vc_X12_mask_1 h27 h26)
      refine sv_aload_n (pc := 69) dX2_leastBelow_69 rfl rfl ?_
      refine sv_dup (pc := 70) dX2_leastBelow_70 rfl ?_
      refine gf_X2_7 (pc := 71) dX2_leastBelow_71 wF_X2_98 (A_87 hw) T20 fun z29 q30 h31 => ?_
      refine mr_iconst (pc := 74) (z := 1) dX2_leastBelow_74 ?_
      refine mr_iadd (pc := 75) (x := z29) (y := 1) dX2_leastBelow_75 ?_
      refine mr_wrap fun z32 h33 => ?_
      refine pf_X2_7 (pc := 76) dX2_leastBelow_76 wF_X2_98 (A_87 hw) T20 h33 fun μ34 u35 T36 => ?_
      refine mr_iload (pc := 79) (z := z12) dX2_leastBelow_79 rfl ?_
      refine mr_iload (pc := 81) (z := z23) dX2_leastBelow_81 rfl ?_
      refine mr_ior (pc := 83) (x := z12) (y := z23) dX2_leastBelow_83 ?_
      refine mr_gen (P := fun z => (-2147483648) ≤ z ∧ z ≤ 2147483647) (r32i _) fun z37 q38 h39 => ?_
      exact mr_iret dX2_leastBelow_84 rfl (le_t rfl) (le_t rfl) T36 (mF.up (mF.call (mF.call mF.refl F10 rfl) F21 rfl) (A_87 hw) u35 rfl) ⟨h39, trivial⟩
    refine mr_iload (pc := 63) (z := z12) dX2_leastBelow_63 rfl ?_
    refine mr_iload (pc := 65) (z := z23) dX2_leastBelow_65 rfl ?_
    refine mr_iand (pc := 67) (x := z12) (y := z23) dX2_leastBelow_67 ?_
    refine mr_gen (P := fun z => (-2147483648) ≤ z ∧ z ≤ 2147483647) (r32i _) fun z40 q41 h42 => ?_
    exact mr_iret dX2_leastBelow_68 rfl (le_t rfl) (le_t rfl) T20 (mF.call (mF.call mF.refl F10 rfl) F21 rfl) ⟨h42, trivial⟩
  have h43 : 0 ≤ z5 ∧ z5 ≤ 0 := (vc_X12_ring_22 h6 h4.1)
  refine sv_aload_n (pc := 16) dX2_leastBelow_16 rfl rfl ?_
  refine mr_iload_n (pc := 17) (z := p1) dX2_leastBelow_17 rfl rfl ?_
  refine mr_iload_n (pc := 18) (z := p2) dX2_leastBelow_18 rfl rfl ?_
  refine mr_cVP (pc := 19) (c_X2_tieFor hw hT hp1 hp2 (vc_X9_end_1 hq0 hp1)) (gOk _ _ _ _ _) dX2_leastBelow_19 (tX2_tieFor _ _ _ _ _) ⟨wV_X2_tieFor, wL_X2_tieFor⟩ wM_X2_60 (gCX2 _ _ _ _ _) rfl (A_87 hw) rfl ⟨le_t rfl, le_t rfl⟩ ⟨le_t rfl, le_t rfl⟩ rfl (le_t rfl) fun z48 h47 => ?_
  refine mr_cSP (pc := 22) (c_X2_aimBit hw hT h47.1) (gOk _ _ _ _ _) dX2_leastBelow_22 (tX2_aimBit _ _ _ _ _) wS_X2_aimBit wM_X2_110 ⟨le_t rfl, le_t rfl⟩ ⟨le_t rfl, le_t rfl⟩ rfl (le_t rfl) fun z53 h52 => ?_
  exact mr_iret dX2_leastBelow_25 rfl (le_t rfl) (le_t rfl) hT mF.refl ⟨h52.1, trivial⟩
theorem vc_X2_leastBelow_9_1 {p3 : Int} (h0 : 32 ≤ p3) (h1 : 9 ≤ p3 ∧ p3 ≤ 9) : False := by omega
set_option maxRecDepth 4000 in
set_option maxHeartbeats 4000000 in
theorem c_X2_leastBelow_9 {l : Launch} {D : va_G} {c : Nat → ClassId} {H0 : Heap} {sa : Nat × Nat × (Nat → Int32)} {w : mW} {μ : mM} (hw : mWF w) (hT : mT w μ) {p1 : Int} (hp1 : 0 ≤ p1 ∧ p1 ≤ 9) {p2 : Int} (hp2 : (-2147483648) ≤ p2 ∧ p2 ≤ 2147483647) {p3 : Int} (hp3 : 9 ≤ p3 ∧ p3 ≤ 9) (hq0 : p1 < w.2.2.2 0) : sC (gG l D c H0 sa) mX2_leastBelow 26 0 0 [.ref 87, iv p1, iv p2, iv p3] (mk w μ) (qI w [87007] μ (fun z μ1 => ((-2147483648) ≤ z ∧ z ≤ 2147483647) ∧ True)) := by
  refine sC.of rfl (by decide) (le_t rfl) ?_
  refine mr_lvE (lv' := [(0, .ref 87), (1, iv p1), (2, iv p2), (3, iv p3)]) rfl ?_
  refine mr_iload_n (pc := 0) (z := p3) dX2_leastBelow_0 rfl rfl ?_
  refine mr_bipush (pc := 1) (z := 32) dX2_leastBelow_1 (by decide) ?_
  refine mr_icmp_ge (pc := 3) (tgt := 16) dX2_leastBelow_3 (by decide) (r32 hp3 rfl) (r32 (rR (x := 32)) rfl) (fun h => ((vc_X2_leastBelow_9_1 h hp3)).elim) (fun _ => ?_)
  refine sv_aload_n (pc := 6) dX2_leastBelow_6 rfl rfl ?_
  refine mr_iload_n (pc := 7) (z := p1) dX2_leastBelow_7 rfl rfl ?_
  refine mr_iload_n (pc := 8) (z := p2) dX2_leastBelow_8 rfl rfl ?_
  refine mr_iload_n (pc := 9) (z := p3) dX2_leastBelow_9 rfl rfl ?_
  refine mr_cVP (pc := 10) (c_X2_isSplit hw hT hp1 hp2 (rW (c := (-2147483648)) (d := 2147483647) hp3 rfl) (vc_X9_end_1 hq0 hp1)) (gOk _ _ _ _ _) dX2_leastBelow_10 (tX2_isSplit _ _ _ _ _) ⟨wV_X2_isSplit, wL_X2_isSplit⟩ wM_X2_106 (gCX2 _ _ _ _ _) rfl (A_87 hw) rfl ⟨le_t rfl, le_t rfl⟩ ⟨le_t rfl, le_t rfl⟩ rfl (le_t rfl) fun z5 h4 => ?_
  refine mr_if_ne (pc := 13) (tgt := 26) dX2_leastBelow_13 (by decide) (r32 h4.1 rfl) (fun h6 => ?_) (fun h6 => ?_)
  · have h7 : 1 ≤ z5 ∧ z5 ≤ 1 := (vc_X12_ring_24 h6 h4.1)
    refine sv_aload_n (pc := 26) dX2_leastBelow_26 rfl rfl ?_
    refine mr_iload_n (pc := 27) (z := p1) dX2_leastBelow_27 rfl rfl ?_
    refine mr_iload_n (pc := 28) (z := p2) dX2_leastBelow_28 rfl rfl ?_
    refine mr_iload_n (pc := 29) (z := p3) dX2_leastBelow_29 rfl rfl ?_
    refine mr_iconst (pc := 30) (z := 1) dX2_leastBelow_30 ?_
    refine mr_iadd (pc := 31) (x := p3) (y := 1) dX2_leastBelow_31 ?_
    refine mr_cVI (pc := 32) (c_X2_leastBelow_10 hw hT hp1 hp2 (rAdd (e := 10) (f := 10) hp3 (rR (x := 1)) rfl) (vc_X9_end_1 hq0 hp1)) (gOk _ _ _ _ _) dX2_leastBelow_32 (tX2_leastBelow _ _ _ _ _) ⟨wV_X2_leastBelow, wL_X2_leastBelow⟩ wM_X2_101 (gCX2 _ _ _ _ _) rfl (A_87 hw) rfl ⟨le_t rfl, le_t rfl⟩ ⟨le_t rfl, le_t rfl⟩ rfl (le_t rfl) fun z12 μ8 T9 F10 h11 => ?_
    refine mr_istore (pc := 35) (lv' := [(4, iv z12), (0, .ref 87), (1, iv p1), (2, iv p2), (3, iv p3)]) dX2_leastBelow_35 (by decide) rfl ?_
    refine sv_aload_n (pc := 37) dX2_leastBelow_37 rfl rfl ?_
    refine mr_iload_n (pc := 38) (z := p1) dX2_leastBelow_38 rfl rfl ?_
    refine mr_iload_n (pc := 39) (z := p2) dX2_leastBelow_39 rfl rfl ?_
    refine mr_iconst (pc := 40) (z := 1) dX2_leastBelow_40 ?_
    refine mr_bipush (pc := 41) (z := 31) dX2_leastBelow_41 (by decide) ?_
    refine mr_iload_n (pc := 43) (z := p3) dX2_leastBelow_43 rfl rfl ?_
    refine mr_isub (pc := 44) (x := 31) (y := p3) dX2_leastBelow_44 ?_
    refine mr_ishl (pc := 45) (x := 1) (y := (31 - p3)) dX2_leastBelow_45 ?_
    refine mr_gen (P := fun z => (-2147483648) ≤ z ∧ z ≤ 2147483647) (r32i _) fun z13 q14 h15 => ?_
    refine mr_ior (pc := 46) (x := p2) (y := z13) dX2_leastBelow_46 ?_
    refine mr_gen (P := fun z => (-2147483648) ≤ z ∧ z ≤ 2147483647) (r32i _) fun z16 q17 h18 => ?_
    refine mr_iload_n (pc := 47) (z := p3) dX2_leastBelow_47 rfl rfl ?_
    refine mr_iconst (pc := 48) (z := 1) dX2_leastBelow_48 ?_
    refine mr_iadd (pc := 49) (x := p3) (y := 1) dX2_leastBelow_49 ?_
    refine mr_cVI (pc := 50) (c_X2_leastBelow_10 hw T9 hp1 h18 (rAdd (e := 10) (f := 10) hp3 (rR (x := 1)) rfl) (vc_X9_end_1 hq0 hp1)) (gOk _ _ _ _ _) dX2_leastBelow_50 (tX2_leastBelow _ _ _ _ _) ⟨wV_X2_leastBelow, wL_X2_leastBelow⟩ wM_X2_101 (gCX2 _ _ _ _ _) rfl (A_87 hw) rfl ⟨le_t rfl, le_t rfl⟩ ⟨le_t rfl, le_t rfl⟩ rfl (le_t rfl) fun z23 μ19 T20 F21 h22 => ?_
    refine mr_istore (pc := 53) (lv' := [(5, iv z23), (4, iv z12), (0, .ref 87), (1, iv p1), (2, iv p2), (3, iv p3)]) dX2_leastBelow_53 (by decide) rfl ?_
    refine mr_iload (pc := 55) (z := z12) dX2_leastBelow_55 rfl ?_
    refine mr_iload (pc := 57) (z := z23) dX2_leastBelow_57 rfl ?_
    refine mr_iand (pc := 59) (x := z12) (y := z23) dX2_leastBelow_59 ?_
    refine mr_gen (P := fun z => (-2147483648) ≤ z ∧ z ≤ 2147483647) (r32i _) fun z24 q25 h26 => ?_
    refine mr_if_eq (pc := 60) (tgt := 69) dX2_leastBelow_60 (by decide) h26 (fun h27 => ?_) (fun h27 => ?_)
    · have h28 : 0 ≤ z24 ∧ z24 ≤ 0 := (vc_X12_mask_1 h27 h26)
      refine sv_aload_n (pc := 69) dX2_leastBelow_69 rfl rfl ?_
      refine sv_dup (pc := 70) dX2_leastBelow_70 rfl ?_
      refine gf_X2_7 (pc := 71) dX2_leastBelow_71 wF_X2_98 (A_87 hw) T20 fun z29 q30 h31 => ?_
      refine mr_iconst (pc := 74) (z := 1) dX2_leastBelow_74 ?_
      refine mr_iadd (pc := 75) (x := z29) (y := 1) dX2_leastBelow_75 ?_
      refine mr_wrap fun z32 h33 => ?_
      refine pf_X2_7 (pc := 76) dX2_leastBelow_76 wF_X2_98 (A_87 hw) T20 h33 fun μ34 u35 T36 => ?_
      refine mr_iload (pc := 79) (z := z12) dX2_leastBelow_79 rfl ?_
      refine mr_iload (pc := 81) (z := z23) dX2_leastBelow_81 rfl ?_
      refine mr_ior (pc := 83) (x := z12) (y := z23) dX2_leastBelow_83 ?_
      refine mr_gen (P := fun z => (-2147483648) ≤ z ∧ z ≤ 2147483647) (r32i _) fun z37 q38 h39 => ?_
      exact mr_iret dX2_leastBelow_84 rfl (le_t rfl) (le_t rfl) T36 (mF.up (mF.call (mF.call mF.refl F10 rfl) F21 rfl) (A_87 hw) u35 rfl) ⟨h39, trivial⟩
    refine mr_iload (pc := 63) (z := z12) dX2_leastBelow_63 rfl ?_
    refine mr_iload (pc := 65) (z := z23) dX2_leastBelow_65 rfl ?_
    refine mr_iand (pc := 67) (x := z12) (y := z23) dX2_leastBelow_67 ?_
    refine mr_gen (P := fun z => (-2147483648) ≤ z ∧ z ≤ 2147483647) (r32i _) fun z40 q41 h42 => ?_
    exact mr_iret dX2_leastBelow_68 rfl (le_t rfl) (le_t rfl) T20 (mF.call (mF.call mF.refl F10 rfl) F21 rfl) ⟨h42, trivial⟩
  have h43 : 0 ≤ z5 ∧ z5 ≤ 0 := (vc_X12_ring_22 h6 h4.1)
  refine sv_aload_n (pc := 16) dX2_leastBelow_16 rfl rfl ?_
  refine mr_iload_n (pc := 17) (z := p1) dX2_leastBelow_17 rfl rfl ?_
  refine mr_iload_n (pc := 18) (z := p2) dX2_leastBelow_18 rfl rfl ?_
  refine mr_cVP (pc := 19) (c_X2_tieFor hw hT hp1 hp2 (vc_X9_end_1 hq0 hp1)) (gOk _ _ _ _ _) dX2_leastBelow_19 (tX2_tieFor _ _ _ _ _) ⟨wV_X2_tieFor, wL_X2_tieFor⟩ wM_X2_60 (gCX2 _ _ _ _ _) rfl (A_87 hw) rfl ⟨le_t rfl, le_t rfl⟩ ⟨le_t rfl, le_t rfl⟩ rfl (le_t rfl) fun z48 h47 => ?_
  refine mr_cSP (pc := 22) (c_X2_aimBit hw hT h47.1) (gOk _ _ _ _ _) dX2_leastBelow_22 (tX2_aimBit _ _ _ _ _) wS_X2_aimBit wM_X2_110 ⟨le_t rfl, le_t rfl⟩ ⟨le_t rfl, le_t rfl⟩ rfl (le_t rfl) fun z53 h52 => ?_
  exact mr_iret dX2_leastBelow_25 rfl (le_t rfl) (le_t rfl) hT mF.refl ⟨h52.1, trivial⟩
theorem vc_X2_leastBelow_8_1 {p3 : Int} (h0 : 32 ≤ p3) (h1 : 8 ≤ p3 ∧ p3 ≤ 8) : False := by omega
set_option maxRecDepth 4000 in
set_option maxHeartbeats 4000000 in
theorem c_X2_leastBelow_8 {l : Launch} {D : va_G} {c : Nat → ClassId} {H0 : Heap} {sa : Nat × Nat × (Nat → Int32)} {w : mW} {μ : mM} (hw : mWF w) (hT : mT w μ) {p1 : Int} (hp1 : 0 ≤ p1 ∧ p1 ≤ 9) {p2 : Int} (hp2 : (-2147483648) ≤ p2 ∧ p2 ≤ 2147483647) {p3 : Int} (hp3 : 8 ≤ p3 ∧ p3 ≤ 8) (hq0 : p1 < w.2.2.2 0) : sC (gG l D c H0 sa) mX2_leastBelow 27 0 0 [.ref 87, iv p1, iv p2, iv p3] (mk w μ) (qI w [87007] μ (fun z μ1 => ((-2147483648) ≤ z ∧ z ≤ 2147483647) ∧ True)) := by
  refine sC.of rfl (by decide) (le_t rfl) ?_
  refine mr_lvE (lv' := [(0, .ref 87), (1, iv p1), (2, iv p2), (3, iv p3)]) rfl ?_
  refine mr_iload_n (pc := 0) (z := p3) dX2_leastBelow_0 rfl rfl ?_
  refine mr_bipush (pc := 1) (z := 32) dX2_leastBelow_1 (by decide) ?_
  refine mr_icmp_ge (pc := 3) (tgt := 16) dX2_leastBelow_3 (by decide) (r32 hp3 rfl) (r32 (rR (x := 32)) rfl) (fun h => ((vc_X2_leastBelow_8_1 h hp3)).elim) (fun _ => ?_)
  refine sv_aload_n (pc := 6) dX2_leastBelow_6 rfl rfl ?_
  refine mr_iload_n (pc := 7) (z := p1) dX2_leastBelow_7 rfl rfl ?_
  refine mr_iload_n (pc := 8) (z := p2) dX2_leastBelow_8 rfl rfl ?_
  refine mr_iload_n (pc := 9) (z := p3) dX2_leastBelow_9 rfl rfl ?_
  refine mr_cVP (pc := 10) (c_X2_isSplit hw hT hp1 hp2 (rW (c := (-2147483648)) (d := 2147483647) hp3 rfl) (vc_X9_end_1 hq0 hp1)) (gOk _ _ _ _ _) dX2_leastBelow_10 (tX2_isSplit _ _ _ _ _) ⟨wV_X2_isSplit, wL_X2_isSplit⟩ wM_X2_106 (gCX2 _ _ _ _ _) rfl (A_87 hw) rfl ⟨le_t rfl, le_t rfl⟩ ⟨le_t rfl, le_t rfl⟩ rfl (le_t rfl) fun z5 h4 => ?_
  refine mr_if_ne (pc := 13) (tgt := 26) dX2_leastBelow_13 (by decide) (r32 h4.1 rfl) (fun h6 => ?_) (fun h6 => ?_)
  · have h7 : 1 ≤ z5 ∧ z5 ≤ 1 := (vc_X12_ring_24 h6 h4.1)
    refine sv_aload_n (pc := 26) dX2_leastBelow_26 rfl rfl ?_
    refine mr_iload_n (pc := 27) (z := p1) dX2_leastBelow_27 rfl rfl ?_
    refine mr_iload_n (pc := 28) (z := p2) dX2_leastBelow_28 rfl rfl ?_
    refine mr_iload_n (pc := 29) (z := p3) dX2_leastBelow_29 rfl rfl ?_
    refine mr_iconst (pc := 30) (z := 1) dX2_leastBelow_30 ?_
    refine mr_iadd (pc := 31) (x := p3) (y := 1) dX2_leastBelow_31 ?_
    refine mr_cVI (pc := 32) (c_X2_leastBelow_9 hw hT hp1 hp2 (rAdd (e := 9) (f := 9) hp3 (rR (x := 1)) rfl) (vc_X9_end_1 hq0 hp1)) (gOk _ _ _ _ _) dX2_leastBelow_32 (tX2_leastBelow _ _ _ _ _) ⟨wV_X2_leastBelow, wL_X2_leastBelow⟩ wM_X2_101 (gCX2 _ _ _ _ _) rfl (A_87 hw) rfl ⟨le_t rfl, le_t rfl⟩ ⟨le_t rfl, le_t rfl⟩ rfl (le_t rfl) fun z12 μ8 T9 F10 h11 => ?_
    refine mr_istore (pc := 35) (lv' := [(4, iv z12), (0, .ref 87), (1, iv p1), (2, iv p2), (3, iv p3)]) dX2_leastBelow_35 (by decide) rfl ?_
    refine sv_aload_n (pc := 37) dX2_leastBelow_37 rfl rfl ?_
    refine mr_iload_n (pc := 38) (z := p1) dX2_leastBelow_38 rfl rfl ?_
    refine mr_iload_n (pc := 39) (z := p2) dX2_leastBelow_39 rfl rfl ?_
    refine mr_iconst (pc := 40) (z := 1) dX2_leastBelow_40 ?_
    refine mr_bipush (pc := 41) (z := 31) dX2_leastBelow_41 (by decide) ?_
    refine mr_iload_n (pc := 43) (z := p3) dX2_leastBelow_43 rfl rfl ?_
    refine mr_isub (pc := 44) (x := 31) (y := p3) dX2_leastBelow_44 ?_
    refine mr_ishl (pc := 45) (x := 1) (y := (31 - p3)) dX2_leastBelow_45 ?_
    refine mr_gen (P := fun z => (-2147483648) ≤ z ∧ z ≤ 2147483647) (r32i _) fun z13 q14 h15 => ?_
    refine mr_ior (pc := 46) (x := p2) (y := z13) dX2_leastBelow_46 ?_
    refine mr_gen (P := fun z => (-2147483648) ≤ z ∧ z ≤ 2147483647) (r32i _) fun z16 q17 h18 => ?_
    refine mr_iload_n (pc := 47) (z := p3) dX2_leastBelow_47 rfl rfl ?_
    refine mr_iconst (pc := 48) (z := 1) dX2_leastBelow_48 ?_
    refine mr_iadd (pc := 49) (x := p3) (y := 1) dX2_leastBelow_49 ?_
    refine mr_cVI (pc := 50) (c_X2_leastBelow_9 hw T9 hp1 h18 (rAdd (e := 9) (f := 9) hp3 (rR (x := 1)) rfl) (vc_X9_end_1 hq0 hp1)) (gOk _ _ _ _ _) dX2_leastBelow_50 (tX2_leastBelow _ _ _ _ _) ⟨wV_X2_leastBelow, wL_X2_leastBelow⟩ wM_X2_101 (gCX2 _ _ _ _ _) rfl (A_87 hw) rfl ⟨le_t rfl, le_t rfl⟩ ⟨le_t rfl, le_t rfl⟩ rfl (le_t rfl) fun z23 μ19 T20 F21 h22 => ?_
    refine mr_istore (pc := 53) (lv' := [(5, iv z23), (4, iv z12), (0, .ref 87), (1, iv p1), (2, iv p2), (3, iv p3)]) dX2_leastBelow_53 (by decide) rfl ?_
    refine mr_iload (pc := 55) (z := z12) dX2_leastBelow_55 rfl ?_
    refine mr_iload (pc := 57) (z := z23) dX2_leastBelow_57 rfl ?_
    refine mr_iand (pc := 59) (x := z12) (y := z23) dX2_leastBelow_59 ?_
    refine mr_gen (P := fun z => (-2147483648) ≤ z ∧ z ≤ 2147483647) (r32i _) fun z24 q25 h26 => ?_
    refine mr_if_eq (pc := 60) (tgt := 69) dX2_leastBelow_60 (by decide) h26 (fun h27 => ?_) (fun h27 => ?_)
    · have h28 : 0 ≤ z24 ∧ z24 ≤ 0 := (vc_X12_mask_1 h27 h26)
      refine sv_aload_n (pc := 69) dX2_leastBelow_69 rfl rfl ?_
      refine sv_dup (pc := 70) dX2_leastBelow_70 rfl ?_
      refine gf_X2_7 (pc := 71) dX2_leastBelow_71 wF_X2_98 (A_87 hw) T20 fun z29 q30 h31 => ?_
      refine mr_iconst (pc := 74) (z := 1) dX2_leastBelow_74 ?_
      refine mr_iadd (pc := 75) (x := z29) (y := 1) dX2_leastBelow_75 ?_
      refine mr_wrap fun z32 h33 => ?_
      refine pf_X2_7 (pc := 76) dX2_leastBelow_76 wF_X2_98 (A_87 hw) T20 h33 fun μ34 u35 T36 => ?_
      refine mr_iload (pc := 79) (z := z12) dX2_leastBelow_79 rfl ?_
      refine mr_iload (pc := 81) (z := z23) dX2_leastBelow_81 rfl ?_
      refine mr_ior (pc := 83) (x := z12) (y := z23) dX2_leastBelow_83 ?_
      refine mr_gen (P := fun z => (-2147483648) ≤ z ∧ z ≤ 2147483647) (r32i _) fun z37 q38 h39 => ?_
      exact mr_iret dX2_leastBelow_84 rfl (le_t rfl) (le_t rfl) T36 (mF.up (mF.call (mF.call mF.refl F10 rfl) F21 rfl) (A_87 hw) u35 rfl) ⟨h39, trivial⟩
    refine mr_iload (pc := 63) (z := z12) dX2_leastBelow_63 rfl ?_
    refine mr_iload (pc := 65) (z := z23) dX2_leastBelow_65 rfl ?_
    refine mr_iand (pc := 67) (x := z12) (y := z23) dX2_leastBelow_67 ?_
    refine mr_gen (P := fun z => (-2147483648) ≤ z ∧ z ≤ 2147483647) (r32i _) fun z40 q41 h42 => ?_
    exact mr_iret dX2_leastBelow_68 rfl (le_t rfl) (le_t rfl) T20 (mF.call (mF.call mF.refl F10 rfl) F21 rfl) ⟨h42, trivial⟩
  have h43 : 0 ≤ z5 ∧ z5 ≤ 0 := (vc_X12_ring_22 h6 h4.1)
  refine sv_aload_n (pc := 16) dX2_leastBelow_16 rfl rfl ?_
  refine mr_iload_n (pc := 17) (z := p1) dX2_leastBelow_17 rfl rfl ?_
  refine mr_iload_n (pc := 18) (z := p2) dX2_leastBelow_18 rfl rfl ?_
  refine mr_cVP (pc := 19) (c_X2_tieFor hw hT hp1 hp2 (vc_X9_end_1 hq0 hp1)) (gOk _ _ _ _ _) dX2_leastBelow_19 (tX2_tieFor _ _ _ _ _) ⟨wV_X2_tieFor, wL_X2_tieFor⟩ wM_X2_60 (gCX2 _ _ _ _ _) rfl (A_87 hw) rfl ⟨le_t rfl, le_t rfl⟩ ⟨le_t rfl, le_t rfl⟩ rfl (le_t rfl) fun z48 h47 => ?_
  refine mr_cSP (pc := 22) (c_X2_aimBit hw hT h47.1) (gOk _ _ _ _ _) dX2_leastBelow_22 (tX2_aimBit _ _ _ _ _) wS_X2_aimBit wM_X2_110 ⟨le_t rfl, le_t rfl⟩ ⟨le_t rfl, le_t rfl⟩ rfl (le_t rfl) fun z53 h52 => ?_
  exact mr_iret dX2_leastBelow_25 rfl (le_t rfl) (le_t rfl) hT mF.refl ⟨h52.1, trivial⟩
theorem vc_X2_leastBelow_7_1 {p3 : Int} (h0 : 32 ≤ p3) (h1 : 7 ≤ p3 ∧ p3 ≤ 7) : False := by omega
set_option maxRecDepth 4000 in
set_option maxHeartbeats 4000000 in
theorem c_X2_leastBelow_7 {l : Launch} {D : va_G} {c : Nat → ClassId} {H0 : Heap} {sa : Nat × Nat × (Nat → Int32)} {w : mW} {μ : mM} (hw : mWF w) (hT : mT w μ) {p1 : Int} (hp1 : 0 ≤ p1 ∧ p1 ≤ 9) {p2 : Int} (hp2 : (-2147483648) ≤ p2 ∧ p2 ≤ 2147483647) {p3 : Int} (hp3 : 7 ≤ p3 ∧ p3 ≤ 7) (hq0 : p1 < w.2.2.2 0) : sC (gG l D c H0 sa) mX2_leastBelow 28 0 0 [.ref 87, iv p1, iv p2, iv p3] (mk w μ) (qI w [87007] μ (fun z μ1 => ((-2147483648) ≤ z ∧ z ≤ 2147483647) ∧ True)) := by
  refine sC.of rfl (by decide) (le_t rfl) ?_
  refine mr_lvE (lv' := [(0, .ref 87), (1, iv p1), (2, iv p2), (3, iv p3)]) rfl ?_
  refine mr_iload_n (pc := 0) (z := p3) dX2_leastBelow_0 rfl rfl ?_
  refine mr_bipush (pc := 1) (z := 32) dX2_leastBelow_1 (by decide) ?_
  refine mr_icmp_ge (pc := 3) (tgt := 16) dX2_leastBelow_3 (by decide) (r32 hp3 rfl) (r32 (rR (x := 32)) rfl) (fun h => ((vc_X2_leastBelow_7_1 h hp3)).elim) (fun _ => ?_)
  refine sv_aload_n (pc := 6) dX2_leastBelow_6 rfl rfl ?_
  refine mr_iload_n (pc := 7) (z := p1) dX2_leastBelow_7 rfl rfl ?_
  refine mr_iload_n (pc := 8) (z := p2) dX2_leastBelow_8 rfl rfl ?_
  refine mr_iload_n (pc := 9) (z := p3) dX2_leastBelow_9 rfl rfl ?_
  refine mr_cVP (pc := 10) (c_X2_isSplit hw hT hp1 hp2 (rW (c := (-2147483648)) (d := 2147483647) hp3 rfl) (vc_X9_end_1 hq0 hp1)) (gOk _ _ _ _ _) dX2_leastBelow_10 (tX2_isSplit _ _ _ _ _) ⟨wV_X2_isSplit, wL_X2_isSplit⟩ wM_X2_106 (gCX2 _ _ _ _ _) rfl (A_87 hw) rfl ⟨le_t rfl, le_t rfl⟩ ⟨le_t rfl, le_t rfl⟩ rfl (le_t rfl) fun z5 h4 => ?_
  refine mr_if_ne (pc := 13) (tgt := 26) dX2_leastBelow_13 (by decide) (r32 h4.1 rfl) (fun h6 => ?_) (fun h6 => ?_)
  · have h7 : 1 ≤ z5 ∧ z5 ≤ 1 := (vc_X12_ring_24 h6 h4.1)
    refine sv_aload_n (pc := 26) dX2_leastBelow_26 rfl rfl ?_
    refine mr_iload_n (pc := 27) (z := p1) dX2_leastBelow_27 rfl rfl ?_
    refine mr_iload_n (pc := 28) (z := p2) dX2_leastBelow_28 rfl rfl ?_
    refine mr_iload_n (pc := 29) (z := p3) dX2_leastBelow_29 rfl rfl ?_
    refine mr_iconst (pc := 30) (z := 1) dX2_leastBelow_30 ?_
    refine mr_iadd (pc := 31) (x := p3) (y := 1) dX2_leastBelow_31 ?_
    refine mr_cVI (pc := 32) (c_X2_leastBelow_8 hw hT hp1 hp2 (rAdd (e := 8) (f := 8) hp3 (rR (x := 1)) rfl) (vc_X9_end_1 hq0 hp1)) (gOk _ _ _ _ _) dX2_leastBelow_32 (tX2_leastBelow _ _ _ _ _) ⟨wV_X2_leastBelow, wL_X2_leastBelow⟩ wM_X2_101 (gCX2 _ _ _ _ _) rfl (A_87 hw) rfl ⟨le_t rfl, le_t rfl⟩ ⟨le_t rfl, le_t rfl⟩ rfl (le_t rfl) fun z12 μ8 T9 F10 h11 => ?_
    refine mr_istore (pc := 35) (lv' := [(4, iv z12), (0, .ref 87), (1, iv p1), (2, iv p2), (3, iv p3)]) dX2_leastBelow_35 (by decide) rfl ?_
    refine sv_aload_n (pc := 37) dX2_leastBelow_37 rfl rfl ?_
    refine mr_iload_n (pc := 38) (z := p1) dX2_leastBelow_38 rfl rfl ?_
    refine mr_iload_n (pc := 39) (z := p2) dX2_leastBelow_39 rfl rfl ?_
    refine mr_iconst (pc := 40) (z := 1) dX2_leastBelow_40 ?_
    refine mr_bipush (pc := 41) (z := 31) dX2_leastBelow_41 (by decide) ?_
    refine mr_iload_n (pc := 43) (z := p3) dX2_leastBelow_43 rfl rfl ?_
    refine mr_isub (pc := 44) (x := 31) (y := p3) dX2_leastBelow_44 ?_
    refine mr_ishl (pc := 45) (x := 1) (y := (31 - p3)) dX2_leastBelow_45 ?_
    refine mr_gen (P := fun z => (-2147483648) ≤ z ∧ z ≤ 2147483647) (r32i _) fun z13 q14 h15 => ?_
    refine mr_ior (pc := 46) (x := p2) (y := z13) dX2_leastBelow_46 ?_
    refine mr_gen (P := fun z => (-2147483648) ≤ z ∧ z ≤ 2147483647) (r32i _) fun z16 q17 h18 => ?_
    refine mr_iload_n (pc := 47) (z := p3) dX2_leastBelow_47 rfl rfl ?_
    refine mr_iconst (pc := 48) (z := 1) dX2_leastBelow_48 ?_
    refine mr_iadd (pc := 49) (x := p3) (y := 1) dX2_leastBelow_49 ?_
    refine mr_cVI (pc := 50) (c_X2_leastBelow_8 hw T9 hp1 h18 (rAdd (e := 8) (f := 8) hp3 (rR (x := 1)) rfl) (vc_X9_end_1 hq0 hp1)) (gOk _ _ _ _ _) dX2_leastBelow_50 (tX2_leastBelow _ _ _ _ _) ⟨wV_X2_leastBelow, wL_X2_leastBelow⟩ wM_X2_101 (gCX2 _ _ _ _ _) rfl (A_87 hw) rfl ⟨le_t rfl, le_t rfl⟩ ⟨le_t rfl, le_t rfl⟩ rfl (le_t rfl) fun z23 μ19 T20 F21 h22 => ?_
    refine mr_istore (pc := 53) (lv' := [(5, iv z23), (4, iv z12), (0, .ref 87), (1, iv p1), (2, iv p2), (3, iv p3)]) dX2_leastBelow_53 (by decide) rfl ?_
    refine mr_iload (pc := 55) (z := z12) dX2_leastBelow_55 rfl ?_
    refine mr_iload (pc := 57) (z := z23) dX2_leastBelow_57 rfl ?_
    refine mr_iand (pc := 59) (x := z12) (y := z23) dX2_leastBelow_59 ?_
    refine mr_gen (P := fun z => (-2147483648) ≤ z ∧ z ≤ 2147483647) (r32i _) fun z24 q25 h26 => ?_
    refine mr_if_eq (pc := 60) (tgt := 69) dX2_leastBelow_60 (by decide) h26 (fun h27 => ?_) (fun h27 => ?_)
    · have h28 : 0 ≤ z24 ∧ z24 ≤ 0 := (vc_X12_mask_1 h27 h26)
      refine sv_aload_n (pc := 69) dX2_leastBelow_69 rfl rfl ?_
      refine sv_dup (pc := 70) dX2_leastBelow_70 rfl ?_
      refine gf_X2_7 (pc := 71) dX2_leastBelow_71 wF_X2_98 (A_87 hw) T20 fun z29 q30 h31 => ?_
      refine mr_iconst (pc := 74) (z := 1) dX2_leastBelow_74 ?_
      refine mr_iadd (pc := 75) (x := z29) (y := 1) dX2_leastBelow_75 ?_
      refine mr_wrap fun z32 h33 => ?_
      refine pf_X2_7 (pc := 76) dX2_leastBelow_76 wF_X2_98 (A_87 hw) T20 h33 fun μ34 u35 T36 => ?_
      refine mr_iload (pc := 79) (z := z12) dX2_leastBelow_79 rfl ?_
      refine mr_iload (pc := 81) (z := z23) dX2_leastBelow_81 rfl ?_
      refine mr_ior (pc := 83) (x := z12) (y := z23) dX2_leastBelow_83 ?_
      refine mr_gen (P := fun z => (-2147483648) ≤ z ∧ z ≤ 2147483647) (r32i _) fun z37 q38 h39 => ?_
      exact mr_iret dX2_leastBelow_84 rfl (le_t rfl) (le_t rfl) T36 (mF.up (mF.call (mF.call mF.refl F10 rfl) F21 rfl) (A_87 hw) u35 rfl) ⟨h39, trivial⟩
    refine mr_iload (pc := 63) (z := z12) dX2_leastBelow_63 rfl ?_
    refine mr_iload (pc := 65) (z := z23) dX2_leastBelow_65 rfl ?_
    refine mr_iand (pc := 67) (x := z12) (y := z23) dX2_leastBelow_67 ?_
    refine mr_gen (P := fun z => (-2147483648) ≤ z ∧ z ≤ 2147483647) (r32i _) fun z40 q41 h42 => ?_
    exact mr_iret dX2_leastBelow_68 rfl (le_t rfl) (le_t rfl) T20 (mF.call (mF.call mF.refl F10 rfl) F21 rfl) ⟨h42, trivial⟩
  have h43 : 0 ≤ z5 ∧ z5 ≤ 0 := (vc_X12_ring_22 h6 h4.1)
  refine sv_aload_n (pc := 16) dX2_leastBelow_16 rfl rfl ?_
  refine mr_iload_n (pc := 17) (z := p1) dX2_leastBelow_17 rfl rfl ?_
  refine mr_iload_n (pc := 18) (z := p2) dX2_leastBelow_18 rfl rfl ?_
  refine mr_cVP (pc := 19) (c_X2_tieFor hw hT hp1 hp2 (vc_X9_end_1 hq0 hp1)) (gOk _ _ _ _ _) dX2_leastBelow_19 (tX2_tieFor _ _ _ _ _) ⟨wV_X2_tieFor, wL_X2_tieFor⟩ wM_X2_60 (gCX2 _ _ _ _ _) rfl (A_87 hw) rfl ⟨le_t rfl, le_t rfl⟩ ⟨le_t rfl, le_t rfl⟩ rfl (le_t rfl) fun z48 h47 => ?_
  refine mr_cSP (pc := 22) (c_X2_aimBit hw hT h47.1) (gOk _ _ _ _ _) dX2_leastBelow_22 (tX2_aimBit _ _ _ _ _) wS_X2_aimBit wM_X2_110 ⟨le_t rfl, le_t rfl⟩ ⟨le_t rfl, le_t rfl⟩ rfl (le_t rfl) fun z53 h52 => ?_
  exact mr_iret dX2_leastBelow_25 rfl (le_t rfl) (le_t rfl) hT mF.refl ⟨h52.1, trivial⟩
theorem vc_X2_leastBelow_6_1 {p3 : Int} (h0 : 32 ≤ p3) (h1 : 6 ≤ p3 ∧ p3 ≤ 6) : False := by omega
set_option maxRecDepth 4000 in
set_option maxHeartbeats 4000000 in
theorem c_X2_leastBelow_6 {l : Launch} {D : va_G} {c : Nat → ClassId} {H0 : Heap} {sa : Nat × Nat × (Nat → Int32)} {w : mW} {μ : mM} (hw : mWF w) (hT : mT w μ) {p1 : Int} (hp1 : 0 ≤ p1 ∧ p1 ≤ 9) {p2 : Int} (hp2 : (-2147483648) ≤ p2 ∧ p2 ≤ 2147483647) {p3 : Int} (hp3 : 6 ≤ p3 ∧ p3 ≤ 6) (hq0 : p1 < w.2.2.2 0) : sC (gG l D c H0 sa) mX2_leastBelow 29 0 0 [.ref 87, iv p1, iv p2, iv p3] (mk w μ) (qI w [87007] μ (fun z μ1 => ((-2147483648) ≤ z ∧ z ≤ 2147483647) ∧ True)) := by
  refine sC.of rfl (by decide) (le_t rfl) ?_
  refine mr_lvE (lv' := [(0, .ref 87), (1, iv p1), (2, iv p2), (3, iv p3)]) rfl ?_
  refine mr_iload_n (pc := 0) (z := p3) dX2_leastBelow_0 rfl rfl ?_
  refine mr_bipush (pc := 1) (z := 32) dX2_leastBelow_1 (by decide) ?_
  refine mr_icmp_ge (pc := 3) (tgt := 16) dX2_leastBelow_3 (by decide) (r32 hp3 rfl) (r32 (rR (x := 32)) rfl) (fun h => ((vc_X2_leastBelow_6_1 h hp3)).elim) (fun _ => ?_)
  refine sv_aload_n (pc := 6) dX2_leastBelow_6 rfl rfl ?_
  refine mr_iload_n (pc := 7) (z := p1) dX2_leastBelow_7 rfl rfl ?_
  refine mr_iload_n (pc := 8) (z := p2) dX2_leastBelow_8 rfl rfl ?_
  refine mr_iload_n (pc := 9) (z := p3) dX2_leastBelow_9 rfl rfl ?_
  refine mr_cVP (pc := 10) (c_X2_isSplit hw hT hp1 hp2 (rW (c := (-2147483648)) (d := 2147483647) hp3 rfl) (vc_X9_end_1 hq0 hp1)) (gOk _ _ _ _ _) dX2_leastBelow_10 (tX2_isSplit _ _ _ _ _) ⟨wV_X2_isSplit, wL_X2_isSplit⟩ wM_X2_106 (gCX2 _ _ _ _ _) rfl (A_87 hw) rfl ⟨le_t rfl, le_t rfl⟩ ⟨le_t rfl, le_t rfl⟩ rfl (le_t rfl) fun z5 h4 => ?_
  refine mr_if_ne (pc := 13) (tgt := 26) dX2_leastBelow_13 (by decide) (r32 h4.1 rfl) (fun h6 => ?_) (fun h6 => ?_)
  · have h7 : 1 ≤ z5 ∧ z5 ≤ 1 := (vc_X12_ring_24 h6 h4.1)
    refine sv_aload_n (pc := 26) dX2_leastBelow_26 rfl rfl ?_
    refine mr_iload_n (pc := 27) (z := p1) dX2_leastBelow_27 rfl rfl ?_
    refine mr_iload_n (pc := 28) (z := p2) dX2_leastBelow_28 rfl rfl ?_
    refine mr_iload_n (pc := 29) (z := p3) dX2_leastBelow_29 rfl rfl ?_
    refine mr_iconst (pc := 30) (z := 1) dX2_leastBelow_30 ?_
    refine mr_iadd (pc := 31) (x := p3) (y := 1) dX2_leastBelow_31 ?_
    refine mr_cVI (pc := 32) (c_X2_leastBelow_7 hw hT hp1 hp2 (rAdd (e := 7) (f := 7) hp3 (rR (x := 1)) rfl) (vc_X9_end_1 hq0 hp1)) (gOk _ _ _ _ _) dX2_leastBelow_32 (tX2_leastBelow _ _ _ _ _) ⟨wV_X2_leastBelow, wL_X2_leastBelow⟩ wM_X2_101 (gCX2 _ _ _ _ _) rfl (A_87 hw) rfl ⟨le_t rfl, le_t rfl⟩ ⟨le_t rfl, le_t rfl⟩ rfl (le_t rfl) fun z12 μ8 T9 F10 h11 => ?_
    refine mr_istore (pc := 35) (lv' := [(4, iv z12), (0, .ref 87), (1, iv p1), (2, iv p2), (3, iv p3)]) dX2_leastBelow_35 (by decide) rfl ?_
    refine sv_aload_n (pc := 37) dX2_leastBelow_37 rfl rfl ?_
    refine mr_iload_n (pc := 38) (z := p1) dX2_leastBelow_38 rfl rfl ?_
    refine mr_iload_n (pc := 39) (z := p2) dX2_leastBelow_39 rfl rfl ?_
    refine mr_iconst (pc := 40) (z := 1) dX2_leastBelow_40 ?_
    refine mr_bipush (pc := 41) (z := 31) dX2_leastBelow_41 (by decide) ?_
    refine mr_iload_n (pc := 43) (z := p3) dX2_leastBelow_43 rfl rfl ?_
    refine mr_isub (pc := 44) (x := 31) (y := p3) dX2_leastBelow_44 ?_
    refine mr_ishl (pc := 45) (x := 1) (y := (31 - p3)) dX2_leastBelow_45 ?_
    refine mr_gen (P := fun z => (-2147483648) ≤ z ∧ z ≤ 2147483647) (r32i _) fun z13 q14 h15 => ?_
    refine mr_ior (pc := 46) (x := p2) (y := z13) dX2_leastBelow_46 ?_
    refine mr_gen (P := fun z => (-2147483648) ≤ z ∧ z ≤ 2147483647) (r32i _) fun z16 q17 h18 => ?_
    refine mr_iload_n (pc := 47) (z := p3) dX2_leastBelow_47 rfl rfl ?_
    refine mr_iconst (pc := 48) (z := 1) dX2_leastBelow_48 ?_
    refine mr_iadd (pc := 49) (x := p3) (y := 1) dX2_leastBelow_49 ?_
    refine mr_cVI (pc := 50) (c_X2_leastBelow_7 hw T9 hp1 h18 (rAdd (e := 7) (f := 7) hp3 (rR (x := 1)) rfl) (vc_X9_end_1 hq0 hp1)) (gOk _ _ _ _ _) dX2_leastBelow_50 (tX2_leastBelow _ _ _ _ _) ⟨wV_X2_leastBelow, wL_X2_leastBelow⟩ wM_X2_101 (gCX2 _ _ _ _ _) rfl (A_87 hw) rfl ⟨le_t rfl, le_t rfl⟩ ⟨le_t rfl, le_t rfl⟩ rfl (le_t rfl) fun z23 μ19 T20 F21 h22 => ?_
    refine mr_istore (pc := 53) (lv' := [(5, iv z23), (4, iv z12), (0, .ref 87), (1, iv p1), (2, iv p2), (3, iv p3)]) dX2_leastBelow_53 (by decide) rfl ?_
    refine mr_iload (pc := 55) (z := z12) dX2_leastBelow_55 rfl ?_
    refine mr_iload (pc := 57) (z := z23) dX2_leastBelow_57 rfl ?_
    refine mr_iand (pc := 59) (x := z12) (y := z23) dX2_leastBelow_59 ?_
    refine mr_gen (P := fun z => (-2147483648) ≤ z ∧ z ≤ 2147483647) (r32i _) fun z24 q25 h26 => ?_
    refine mr_if_eq (pc := 60) (tgt := 69) dX2_leastBelow_60 (by decide) h26 (fun h27 => ?_) (fun h27 => ?_)
    · have h28 : 0 ≤ z24 ∧ z24 ≤ 0 := (vc_X12_mask_1 h27 h26)
      refine sv_aload_n (pc := 69) dX2_leastBelow_69 rfl rfl ?_
      refine sv_dup (pc := 70) dX2_leastBelow_70 rfl ?_
      refine gf_X2_7 (pc := 71) dX2_leastBelow_71 wF_X2_98 (A_87 hw) T20 fun z29 q30 h31 => ?_
      refine mr_iconst (pc := 74) (z := 1) dX2_leastBelow_74 ?_
      refine mr_iadd (pc := 75) (x := z29) (y := 1) dX2_leastBelow_75 ?_
      refine mr_wrap fun z32 h33 => ?_
      refine pf_X2_7 (pc := 76) dX2_leastBelow_76 wF_X2_98 (A_87 hw) T20 h33 fun μ34 u35 T36 => ?_
      refine mr_iload (pc := 79) (z := z12) dX2_leastBelow_79 rfl ?_
      refine mr_iload (pc := 81) (z := z23) dX2_leastBelow_81 rfl ?_
      refine mr_ior (pc := 83) (x := z12) (y := z23) dX2_leastBelow_83 ?_
      refine mr_gen (P := fun z => (-2147483648) ≤ z ∧ z ≤ 2147483647) (r32i _) fun z37 q38 h39 => ?_
      exact mr_iret dX2_leastBelow_84 rfl (le_t rfl) (le_t rfl) T36 (mF.up (mF.call (mF.call mF.refl F10 rfl) F21 rfl) (A_87 hw) u35 rfl) ⟨h39, trivial⟩
    refine mr_iload (pc := 63) (z := z12) dX2_leastBelow_63 rfl ?_
    refine mr_iload (pc := 65) (z := z23) dX2_leastBelow_65 rfl ?_
    refine mr_iand (pc := 67) (x := z12) (y := z23) dX2_leastBelow_67 ?_
    refine mr_gen (P := fun z => (-2147483648) ≤ z ∧ z ≤ 2147483647) (r32i _) fun z40 q41 h42 => ?_
    exact mr_iret dX2_leastBelow_68 rfl (le_t rfl) (le_t rfl) T20 (mF.call (mF.call mF.refl F10 rfl) F21 rfl) ⟨h42, trivial⟩
  have h43 : 0 ≤ z5 ∧ z5 ≤ 0 := (vc_X12_ring_22 h6 h4.1)
  refine sv_aload_n (pc := 16) dX2_leastBelow_16 rfl rfl ?_
  refine mr_iload_n (pc := 17) (z := p1) dX2_leastBelow_17 rfl rfl ?_
  refine mr_iload_n (pc := 18) (z := p2) dX2_leastBelow_18 rfl rfl ?_
  refine mr_cVP (pc := 19) (c_X2_tieFor hw hT hp1 hp2 (vc_X9_end_1 hq0 hp1)) (gOk _ _ _ _ _) dX2_leastBelow_19 (tX2_tieFor _ _ _ _ _) ⟨wV_X2_tieFor, wL_X2_tieFor⟩ wM_X2_60 (gCX2 _ _ _ _ _) rfl (A_87 hw) rfl ⟨le_t rfl, le_t rfl⟩ ⟨le_t rfl, le_t rfl⟩ rfl (le_t rfl) fun z48 h47 => ?_
  refine mr_cSP (pc := 22) (c_X2_aimBit hw hT h47.1) (gOk _ _ _ _ _) dX2_leastBelow_22 (tX2_aimBit _ _ _ _ _) wS_X2_aimBit wM_X2_110 ⟨le_t rfl, le_t rfl⟩ ⟨le_t rfl, le_t rfl⟩ rfl (le_t rfl) fun z53 h52 => ?_
  exact mr_iret dX2_leastBelow_25 rfl (le_t rfl) (le_t rfl) hT mF.refl ⟨h52.1, trivial⟩
theorem vc_X2_leastBelow_5_1 {p3 : Int} (h0 : 32 ≤ p3) (h1 : 5 ≤ p3 ∧ p3 ≤ 5) : False := by omega
set_option maxRecDepth 4000 in
set_option maxHeartbeats 4000000 in
theorem c_X2_leastBelow_5 {l : Launch} {D : va_G} {c : Nat → ClassId} {H0 : Heap} {sa : Nat × Nat × (Nat → Int32)} {w : mW} {μ : mM} (hw : mWF w) (hT : mT w μ) {p1 : Int} (hp1 : 0 ≤ p1 ∧ p1 ≤ 9) {p2 : Int} (hp2 : (-2147483648) ≤ p2 ∧ p2 ≤ 2147483647) {p3 : Int} (hp3 : 5 ≤ p3 ∧ p3 ≤ 5) (hq0 : p1 < w.2.2.2 0) : sC (gG l D c H0 sa) mX2_leastBelow 30 0 0 [.ref 87, iv p1, iv p2, iv p3] (mk w μ) (qI w [87007] μ (fun z μ1 => ((-2147483648) ≤ z ∧ z ≤ 2147483647) ∧ True)) := by
  refine sC.of rfl (by decide) (le_t rfl) ?_
  refine mr_lvE (lv' := [(0, .ref 87), (1, iv p1), (2, iv p2), (3, iv p3)]) rfl ?_
  refine mr_iload_n (pc := 0) (z := p3) dX2_leastBelow_0 rfl rfl ?_
  refine mr_bipush (pc := 1) (z := 32) dX2_leastBelow_1 (by decide) ?_
  refine mr_icmp_ge (pc := 3) (tgt := 16) dX2_leastBelow_3 (by decide) (r32 hp3 rfl) (r32 (rR (x := 32)) rfl) (fun h => ((vc_X2_leastBelow_5_1 h hp3)).elim) (fun _ => ?_)
  refine sv_aload_n (pc := 6) dX2_leastBelow_6 rfl rfl ?_
  refine mr_iload_n (pc := 7) (z := p1) dX2_leastBelow_7 rfl rfl ?_
  refine mr_iload_n (pc := 8) (z := p2) dX2_leastBelow_8 rfl rfl ?_
  refine mr_iload_n (pc := 9) (z := p3) dX2_leastBelow_9 rfl rfl ?_
  refine mr_cVP (pc := 10) (c_X2_isSplit hw hT hp1 hp2 (rW (c := (-2147483648)) (d := 2147483647) hp3 rfl) (vc_X9_end_1 hq0 hp1)) (gOk _ _ _ _ _) dX2_leastBelow_10 (tX2_isSplit _ _ _ _ _) ⟨wV_X2_isSplit, wL_X2_isSplit⟩ wM_X2_106 (gCX2 _ _ _ _ _) rfl (A_87 hw) rfl ⟨le_t rfl, le_t rfl⟩ ⟨le_t rfl, le_t rfl⟩ rfl (le_t rfl) fun z5 h4 => ?_
  refine mr_if_ne (pc := 13) (tgt := 26) dX2_leastBelow_13 (by decide) (r32 h4.1 rfl) (fun h6 => ?_) (fun h6 => ?_)
  · have h7 : 1 ≤ z5 ∧ z5 ≤ 1 := (vc_X12_ring_24 h6 h4.1)
    refine sv_aload_n (pc := 26) dX2_leastBelow_26 rfl rfl ?_
    refine mr_iload_n (pc := 27) (z := p1) dX2_leastBelow_27 rfl rfl ?_
    refine mr_iload_n (pc := 28) (z := p2) dX2_leastBelow_28 rfl rfl ?_
    refine mr_iload_n (pc := 29) (z := p3) dX2_leastBelow_29 rfl rfl ?_
    refine mr_iconst (pc := 30) (z := 1) dX2_leastBelow_30 ?_
    refine mr_iadd (pc := 31) (x := p3) (y := 1) dX2_leastBelow_31 ?_
    refine mr_cVI (pc := 32) (c_X2_leastBelow_6 hw hT hp1 hp2 (rAdd (e := 6) (f := 6) hp3 (rR (x := 1)) rfl) (vc_X9_end_1 hq0 hp1)) (gOk _ _ _ _ _) dX2_leastBelow_32 (tX2_leastBelow _ _ _ _ _) ⟨wV_X2_leastBelow, wL_X2_leastBelow⟩ wM_X2_101 (gCX2 _ _ _ _ _) rfl (A_87 hw) rfl ⟨le_t rfl, le_t rfl⟩ ⟨le_t rfl, le_t rfl⟩ rfl (le_t rfl) fun z12 μ8 T9 F10 h11 => ?_
    refine mr_istore (pc := 35) (lv' := [(4, iv z12), (0, .ref 87), (1, iv p1), (2, iv p2), (3, iv p3)]) dX2_leastBelow_35 (by decide) rfl ?_
    refine sv_aload_n (pc := 37) dX2_leastBelow_37 rfl rfl ?_
    refine mr_iload_n (pc := 38) (z := p1) dX2_leastBelow_38 rfl rfl ?_
    refine mr_iload_n (pc := 39) (z := p2) dX2_leastBelow_39 rfl rfl ?_
    refine mr_iconst (pc := 40) (z := 1) dX2_leastBelow_40 ?_
    refine mr_bipush (pc := 41) (z := 31) dX2_leastBelow_41 (by decide) ?_
    refine mr_iload_n (pc := 43) (z := p3) dX2_leastBelow_43 rfl rfl ?_
    refine mr_isub (pc := 44) (x := 31) (y := p3) dX2_leastBelow_44 ?_
    refine mr_ishl (pc := 45) (x := 1) (y := (31 - p3)) dX2_leastBelow_45 ?_
    refine mr_gen (P := fun z => (-2147483648) ≤ z ∧ z ≤ 2147483647) (r32i _) fun z13 q14 h15 => ?_
    refine mr_ior (pc := 46) (x := p2) (y := z13) dX2_leastBelow_46 ?_
    refine mr_gen (P := fun z => (-2147483648) ≤ z ∧ z ≤ 2147483647) (r32i _) fun z16 q17 h18 => ?_
    refine mr_iload_n (pc := 47) (z := p3) dX2_leastBelow_47 rfl rfl ?_
    refine mr_iconst (pc := 48) (z := 1) dX2_leastBelow_48 ?_
    refine mr_iadd (pc := 49) (x := p3) (y := 1) dX2_leastBelow_49 ?_
    refine mr_cVI (pc := 50) (c_X2_leastBelow_6 hw T9 hp1 h18 (rAdd (e := 6) (f := 6) hp3 (rR (x := 1)) rfl) (vc_X9_end_1 hq0 hp1)) (gOk _ _ _ _ _) dX2_leastBelow_50 (tX2_leastBelow _ _ _ _ _) ⟨wV_X2_leastBelow, wL_X2_leastBelow⟩ wM_X2_101 (gCX2 _ _ _ _ _) rfl (A_87 hw) rfl ⟨le_t rfl, le_t rfl⟩ ⟨le_t rfl, le_t rfl⟩ rfl (le_t rfl) fun z23 μ19 T20 F21 h22 => ?_
    refine mr_istore (pc := 53) (lv' := [(5, iv z23), (4, iv z12), (0, .ref 87), (1, iv p1), (2, iv p2), (3, iv p3)]) dX2_leastBelow_53 (by decide) rfl ?_
    refine mr_iload (pc := 55) (z := z12) dX2_leastBelow_55 rfl ?_
    refine mr_iload (pc := 57) (z := z23) dX2_leastBelow_57 rfl ?_
    refine mr_iand (pc := 59) (x := z12) (y := z23) dX2_leastBelow_59 ?_
    refine mr_gen (P := fun z => (-2147483648) ≤ z ∧ z ≤ 2147483647) (r32i _) fun z24 q25 h26 => ?_
    refine mr_if_eq (pc := 60) (tgt := 69) dX2_leastBelow_60 (by decide) h26 (fun h27 => ?_) (fun h27 => ?_)
    · have h28 : 0 ≤ z24 ∧ z24 ≤ 0 := (vc_X12_mask_1 h27 h26)
      refine sv_aload_n (pc := 69) dX2_leastBelow_69 rfl rfl ?_
      refine sv_dup (pc := 70) dX2_leastBelow_70 rfl ?_
      refine gf_X2_7 (pc := 71) dX2_leastBelow_71 wF_X2_98 (A_87 hw) T20 fun z29 q30 h31 => ?_
      refine mr_iconst (pc := 74) (z := 1) dX2_leastBelow_74 ?_
      refine mr_iadd (pc := 75) (x := z29) (y := 1) dX2_leastBelow_75 ?_
      refine mr_wrap fun z32 h33 => ?_
      refine pf_X2_7 (pc := 76) dX2_leastBelow_76 wF_X2_98 (A_87 hw) T20 h33 fun μ34 u35 T36 => ?_
      refine mr_iload (pc := 79) (z := z12) dX2_leastBelow_79 rfl ?_
      refine mr_iload (pc := 81) (z := z23) dX2_leastBelow_81 rfl ?_
      refine mr_ior (pc := 83) (x := z12) (y := z23) dX2_leastBelow_83 ?_
      refine mr_gen (P := fun z => (-2147483648) ≤ z ∧ z ≤ 2147483647) (r32i _) fun z37 q38 h39 => ?_
      exact mr_iret dX2_leastBelow_84 rfl (le_t rfl) (le_t rfl) T36 (mF.up (mF.call (mF.call mF.refl F10 rfl) F21 rfl) (A_87 hw) u35 rfl) ⟨h39, trivial⟩
    refine mr_iload (pc := 63) (z := z12) dX2_leastBelow_63 rfl ?_
    refine mr_iload (pc := 65) (z := z23) dX2_leastBelow_65 rfl ?_
    refine mr_iand (pc := 67) (x := z12) (y := z23) dX2_leastBelow_67 ?_
    refine mr_gen (P := fun z => (-2147483648) ≤ z ∧ z ≤ 2147483647) (r32i _) fun z40 q41 h42 => ?_
    exact mr_iret dX2_leastBelow_68 rfl (le_t rfl) (le_t rfl) T20 (mF.call (mF.call mF.refl F10 rfl) F21 rfl) ⟨h42, trivial⟩
  have h43 : 0 ≤ z5 ∧ z5 ≤ 0 := (vc_X12_ring_22 h6 h4.1)
  refine sv_aload_n (pc := 16) dX2_leastBelow_16 rfl rfl ?_
  refine mr_iload_n (pc := 17) (z := p1) dX2_leastBelow_17 rfl rfl ?_
  refine mr_iload_n (pc := 18) (z := p2) dX2_leastBelow_18 rfl rfl ?_
  refine mr_cVP (pc := 19) (c_X2_tieFor hw hT hp1 hp2 (vc_X9_end_1 hq0 hp1)) (gOk _ _ _ _ _) dX2_leastBelow_19 (tX2_tieFor _ _ _ _ _) ⟨wV_X2_tieFor, wL_X2_tieFor⟩ wM_X2_60 (gCX2 _ _ _ _ _) rfl (A_87 hw) rfl ⟨le_t rfl, le_t rfl⟩ ⟨le_t rfl, le_t rfl⟩ rfl (le_t rfl) fun z48 h47 => ?_
  refine mr_cSP (pc := 22) (c_X2_aimBit hw hT h47.1) (gOk _ _ _ _ _) dX2_leastBelow_22 (tX2_aimBit _ _ _ _ _) wS_X2_aimBit wM_X2_110 ⟨le_t rfl, le_t rfl⟩ ⟨le_t rfl, le_t rfl⟩ rfl (le_t rfl) fun z53 h52 => ?_
  exact mr_iret dX2_leastBelow_25 rfl (le_t rfl) (le_t rfl) hT mF.refl ⟨h52.1, trivial⟩
end
section
theorem vc_X2_leastBelow_4_1 {p3 : Int} (h0 : 32 ≤ p3) (h1 : 4 ≤ p3 ∧ p3 ≤ 4) : False := by omega
set_option maxRecDepth 4000 in
set_option maxHeartbeats 4000000 in
theorem c_X2_leastBelow_4 {l : Launch} {D : va_G} {c : Nat → ClassId} {H0 : Heap} {sa : Nat × Nat × (Nat → Int32)} {w : mW} {μ : mM} (hw : mWF w) (hT : mT w μ) {p1 : Int} (hp1 : 0 ≤ p1 ∧ p1 ≤ 9) {p2 : Int} (hp2 : (-2147483648) ≤ p2 ∧ p2 ≤ 2147483647) {p3 : Int} (hp3 : 4 ≤ p3 ∧ p3 ≤ 4) (hq0 : p1 < w.2.2.2 0) : sC (gG l D c H0 sa) mX2_leastBelow 31 0 0 [.ref 87, iv p1, iv p2, iv p3] (mk w μ) (qI w [87007] μ (fun z μ1 => ((-2147483648) ≤ z ∧ z ≤ 2147483647) ∧ True)) := by
  refine sC.of rfl (by decide) (le_t rfl) ?_
  refine mr_lvE (lv' := [(0, .ref 87), (1, iv p1), (2, iv p2), (3, iv p3)]) rfl ?_
  refine mr_iload_n (pc := 0) (z := p3) dX2_leastBelow_0 rfl rfl ?_
  refine mr_bipush (pc := 1) (z := 32) dX2_leastBelow_1 (by decide) ?_
  refine mr_icmp_ge (pc := 3) (tgt := 16) dX2_leastBelow_3 (by decide) (r32 hp3 rfl) (r32 (rR (x := 32)) rfl) (fun h => ((vc_X2_leastBelow_4_1 h hp3)).elim) (fun _ => ?_)
  refine sv_aload_n (pc := 6) dX2_leastBelow_6 rfl rfl ?_
  refine mr_iload_n (pc := 7) (z := p1) dX2_leastBelow_7 rfl rfl ?_
  refine mr_iload_n (pc := 8) (z := p2) dX2_leastBelow_8 rfl rfl ?_
  refine mr_iload_n (pc := 9) (z := p3) dX2_leastBelow_9 rfl rfl ?_
  refine mr_cVP (pc := 10) (c_X2_isSplit hw hT hp1 hp2 (rW (c := (-2147483648)) (d := 2147483647) hp3 rfl) (vc_X9_end_1 hq0 hp1)) (gOk _ _ _ _ _) dX2_leastBelow_10 (tX2_isSplit _ _ _ _ _) ⟨wV_X2_isSplit, wL_X2_isSplit⟩ wM_X2_106 (gCX2 _ _ _ _ _) rfl (A_87 hw) rfl ⟨le_t rfl, le_t rfl⟩ ⟨le_t rfl, le_t rfl⟩ rfl (le_t rfl) fun z5 h4 => ?_
  refine mr_if_ne (pc := 13) (tgt := 26) dX2_leastBelow_13 (by decide) (r32 h4.1 rfl) (fun h6 => ?_) (fun h6 => ?_)
  · have h7 : 1 ≤ z5 ∧ z5 ≤ 1 := (vc_X12_ring_24 h6 h4.1)
    refine sv_aload_n (pc := 26) dX2_leastBelow_26 rfl rfl ?_
    refine mr_iload_n (pc := 27) (z := p1) dX2_leastBelow_27 rfl rfl ?_
    refine mr_iload_n (pc := 28) (z := p2) dX2_leastBelow_28 rfl rfl ?_
    refine mr_iload_n (pc := 29) (z := p3) dX2_leastBelow_29 rfl rfl ?_
    refine mr_iconst (pc := 30) (z := 1) dX2_leastBelow_30 ?_
    refine mr_iadd (pc := 31) (x := p3) (y := 1) dX2_leastBelow_31 ?_
    refine mr_cVI (pc := 32) (c_X2_leastBelow_5 hw hT hp1 hp2 (rAdd (e := 5) (f := 5) hp3 (rR (x := 1)) rfl) (vc_X9_end_1 hq0 hp1)) (gOk _ _ _ _ _) dX2_leastBelow_32 (tX2_leastBelow _ _ _ _ _) ⟨wV_X2_leastBelow, wL_X2_leastBelow⟩ wM_X2_101 (gCX2 _ _ _ _ _) rfl (A_87 hw) rfl ⟨le_t rfl, le_t rfl⟩ ⟨le_t rfl, le_t rfl⟩ rfl (le_t rfl) fun z12 μ8 T9 F10 h11 => ?_
    refine mr_istore (pc := 35) (lv' := [(4, iv z12), (0, .ref 87), (1, iv p1), (2, iv p2), (3, iv p3)]) dX2_leastBelow_35 (by decide) rfl ?_
    refine sv_aload_n (pc := 37) dX2_leastBelow_37 rfl rfl ?_
    refine mr_iload_n (pc := 38) (z := p1) dX2_leastBelow_38 rfl rfl ?_
    refine mr_iload_n (pc := 39) (z := p2) dX2_leastBelow_39 rfl rfl ?_
    refine mr_iconst (pc := 40) (z := 1) dX2_leastBelow_40 ?_
    refine mr_bipush (pc := 41) (z := 31) dX2_leastBelow_41 (by decide) ?_
    refine mr_iload_n (pc := 43) (z := p3) dX2_leastBelow_43 rfl rfl ?_
    refine mr_isub (pc := 44) (x := 31) (y := p3) dX2_leastBelow_44 ?_
    refine mr_ishl (pc := 45) (x := 1) (y := (31 - p3)) dX2_leastBelow_45 ?_
    refine mr_gen (P := fun z => (-2147483648) ≤ z ∧ z ≤ 2147483647) (r32i _) fun z13 q14 h15 => ?_
    refine mr_ior (pc := 46) (x := p2) (y := z13) dX2_leastBelow_46 ?_
    refine mr_gen (P := fun z => (-2147483648) ≤ z ∧ z ≤ 2147483647) (r32i _) fun z16 q17 h18 => ?_
    refine mr_iload_n (pc := 47) (z := p3) dX2_leastBelow_47 rfl rfl ?_
    refine mr_iconst (pc := 48) (z := 1) dX2_leastBelow_48 ?_
    refine mr_iadd (pc := 49) (x := p3) (y := 1) dX2_leastBelow_49 ?_
    refine mr_cVI (pc := 50) (c_X2_leastBelow_5 hw T9 hp1 h18 (rAdd (e := 5) (f := 5) hp3 (rR (x := 1)) rfl) (vc_X9_end_1 hq0 hp1)) (gOk _ _ _ _ _) dX2_leastBelow_50 (tX2_leastBelow _ _ _ _ _) ⟨wV_X2_leastBelow, wL_X2_leastBelow⟩ wM_X2_101 (gCX2 _ _ _ _ _) rfl (A_87 hw) rfl ⟨le_t rfl, le_t rfl⟩ ⟨le_t rfl, le_t rfl⟩ rfl (le_t rfl) fun z23 μ19 T20 F21 h22 => ?_
    refine mr_istore (pc := 53) (lv' := [(5, iv z23), (4, iv z12), (0, .ref 87), (1, iv p1), (2, iv p2), (3, iv p3)]) dX2_leastBelow_53 (by decide) rfl ?_
    refine mr_iload (pc := 55) (z := z12) dX2_leastBelow_55 rfl ?_
    refine mr_iload (pc := 57) (z := z23) dX2_leastBelow_57 rfl ?_
    refine mr_iand (pc := 59) (x := z12) (y := z23) dX2_leastBelow_59 ?_
    refine mr_gen (P := fun z => (-2147483648) ≤ z ∧ z ≤ 2147483647) (r32i _) fun z24 q25 h26 => ?_
    refine mr_if_eq (pc := 60) (tgt := 69) dX2_leastBelow_60 (by decide) h26 (fun h27 => ?_) (fun h27 => ?_)
    · have h28 : 0 ≤ z24 ∧ z24 ≤ 0 := (vc_X12_mask_1 h27 h26)
      refine sv_aload_n (pc := 69) dX2_leastBelow_69 rfl rfl ?_
      refine sv_dup (pc := 70) dX2_leastBelow_70 rfl ?_
      refine gf_X2_7 (pc := 71) dX2_leastBelow_71 wF_X2_98 (A_87 hw) T20 fun z29 q30 h31 => ?_
      refine mr_iconst (pc := 74) (z := 1) dX2_leastBelow_74 ?_
      refine mr_iadd (pc := 75) (x := z29) (y := 1) dX2_leastBelow_75 ?_
      refine mr_wrap fun z32 h33 => ?_
      refine pf_X2_7 (pc := 76) dX2_leastBelow_76 wF_X2_98 (A_87 hw) T20 h33 fun μ34 u35 T36 => ?_
      refine mr_iload (pc := 79) (z := z12) dX2_leastBelow_79 rfl ?_
      refine mr_iload (pc := 81) (z := z23) dX2_leastBelow_81 rfl ?_
      refine mr_ior (pc := 83) (x := z12) (y := z23) dX2_leastBelow_83 ?_
      refine mr_gen (P := fun z => (-2147483648) ≤ z ∧ z ≤ 2147483647) (r32i _) fun z37 q38 h39 => ?_
      exact mr_iret dX2_leastBelow_84 rfl (le_t rfl) (le_t rfl) T36 (mF.up (mF.call (mF.call mF.refl F10 rfl) F21 rfl) (A_87 hw) u35 rfl) ⟨h39, trivial⟩
    refine mr_iload (pc := 63) (z := z12) dX2_leastBelow_63 rfl ?_
    refine mr_iload (pc := 65) (z := z23) dX2_leastBelow_65 rfl ?_
    refine mr_iand (pc := 67) (x := z12) (y := z23) dX2_leastBelow_67 ?_
    refine mr_gen (P := fun z => (-2147483648) ≤ z ∧ z ≤ 2147483647) (r32i _) fun z40 q41 h42 => ?_
    exact mr_iret dX2_leastBelow_68 rfl (le_t rfl) (le_t rfl) T20 (mF.call (mF.call mF.refl F10 rfl) F21 rfl) ⟨h42, trivial⟩
  have h43 : 0 ≤ z5 ∧ z5 ≤ 0 := (vc_X12_ring_22 h6 h4.1)
  refine sv_aload_n (pc := 16) dX2_leastBelow_16 rfl rfl ?_
  refine mr_iload_n (pc := 17) (z := p1) dX2_leastBelow_17 rfl rfl ?_
  refine mr_iload_n (pc := 18) (z := p2) dX2_leastBelow_18 rfl rfl ?_
  refine mr_cVP (pc := 19) (c_X2_tieFor hw hT hp1 hp2 (vc_X9_end_1 hq0 hp1)) (gOk _ _ _ _ _) dX2_leastBelow_19 (tX2_tieFor _ _ _ _ _) ⟨wV_X2_tieFor, wL_X2_tieFor⟩ wM_X2_60 (gCX2 _ _ _ _ _) rfl (A_87 hw) rfl ⟨le_t rfl, le_t rfl⟩ ⟨le_t rfl, le_t rfl⟩ rfl (le_t rfl) fun z48 h47 => ?_
  refine mr_cSP (pc := 22) (c_X2_aimBit hw hT h47.1) (gOk _ _ _ _ _) dX2_leastBelow_22 (tX2_aimBit _ _ _ _ _) wS_X2_aimBit wM_X2_110 ⟨le_t rfl, le_t rfl⟩ ⟨le_t rfl, le_t rfl⟩ rfl (le_t rfl) fun z53 h52 => ?_
  exact mr_iret dX2_leastBelow_25 rfl (le_t rfl) (le_t rfl) hT mF.refl ⟨h52.1, trivial⟩
theorem vc_X2_leastBelow_3_1 {p3 : Int} (h0 : 32 ≤ p3) (h1 : 3 ≤ p3 ∧ p3 ≤ 3) : False := by omega
set_option maxRecDepth 4000 in
set_option maxHeartbeats 4000000 in
theorem c_X2_leastBelow_3 {l : Launch} {D : va_G} {c : Nat → ClassId} {H0 : Heap} {sa : Nat × Nat × (Nat → Int32)} {w : mW} {μ : mM} (hw : mWF w) (hT : mT w μ) {p1 : Int} (hp1 : 0 ≤ p1 ∧ p1 ≤ 9) {p2 : Int} (hp2 : (-2147483648) ≤ p2 ∧ p2 ≤ 2147483647) {p3 : Int} (hp3 : 3 ≤ p3 ∧ p3 ≤ 3) (hq0 : p1 < w.2.2.2 0) : sC (gG l D c H0 sa) mX2_leastBelow 32 0 0 [.ref 87, iv p1, iv p2, iv p3] (mk w μ) (qI w [87007] μ (fun z μ1 => ((-2147483648) ≤ z ∧ z ≤ 2147483647) ∧ True)) := by
  refine sC.of rfl (by decide) (le_t rfl) ?_
  refine mr_lvE (lv' := [(0, .ref 87), (1, iv p1), (2, iv p2), (3, iv p3)]) rfl ?_
  refine mr_iload_n (pc := 0) (z := p3) dX2_leastBelow_0 rfl rfl ?_
  refine mr_bipush (pc := 1) (z := 32) dX2_leastBelow_1 (by decide) ?_
  refine mr_icmp_ge (pc := 3) (tgt := 16) dX2_leastBelow_3 (by decide) (r32 hp3 rfl) (r32 (rR (x := 32)) rfl) (fun h => ((vc_X2_leastBelow_3_1 h hp3)).elim) (fun _ => ?_)
  refine sv_aload_n (pc := 6) dX2_leastBelow_6 rfl rfl ?_
  refine mr_iload_n (pc := 7) (z := p1) dX2_leastBelow_7 rfl rfl ?_
  refine mr_iload_n (pc := 8) (z := p2) dX2_leastBelow_8 rfl rfl ?_
  refine mr_iload_n (pc := 9) (z := p3) dX2_leastBelow_9 rfl rfl ?_
  refine mr_cVP (pc := 10) (c_X2_isSplit hw hT hp1 hp2 (rW (c := (-2147483648)) (d := 2147483647) hp3 rfl) (vc_X9_end_1 hq0 hp1)) (gOk _ _ _ _ _) dX2_leastBelow_10 (tX2_isSplit _ _ _ _ _) ⟨wV_X2_isSplit, wL_X2_isSplit⟩ wM_X2_106 (gCX2 _ _ _ _ _) rfl (A_87 hw) rfl ⟨le_t rfl, le_t rfl⟩ ⟨le_t rfl, le_t rfl⟩ rfl (le_t rfl) fun z5 h4 => ?_
  refine mr_if_ne (pc := 13) (tgt := 26) dX2_leastBelow_13 (by decide) (r32 h4.1 rfl) (fun h6 => ?_) (fun h6 => ?_)
  · have h7 : 1 ≤ z5 ∧ z5 ≤ 1 := (vc_X12_ring_24 h6 h4.1)
    refine sv_aload_n (pc := 26) dX2_leastBelow_26 rfl rfl ?_
    refine mr_iload_n (pc := 27) (z := p1) dX2_leastBelow_27 rfl rfl ?_
    refine mr_iload_n (pc := 28) (z := p2) dX2_leastBelow_28 rfl rfl ?_
    refine mr_iload_n (pc := 29) (z := p3) dX2_leastBelow_29 rfl rfl ?_
    refine mr_iconst (pc := 30) (z := 1) dX2_leastBelow_30 ?_
    refine mr_iadd (pc := 31) (x := p3) (y := 1) dX2_leastBelow_31 ?_
    refine mr_cVI (pc := 32) (c_X2_leastBelow_4 hw hT hp1 hp2 (rAdd (e := 4) (f := 4) hp3 (rR (x := 1)) rfl) (vc_X9_end_1 hq0 hp1)) (gOk _ _ _ _ _) dX2_leastBelow_32 (tX2_leastBelow _ _ _ _ _) ⟨wV_X2_leastBelow, wL_X2_leastBelow⟩ wM_X2_101 (gCX2 _ _ _ _ _) rfl (A_87 hw) rfl ⟨le_t rfl, le_t rfl⟩ ⟨le_t rfl, le_t rfl⟩ rfl (le_t rfl) fun z12 μ8 T9 F10 h11 => ?_
    refine mr_istore (pc := 35) (lv' := [(4, iv z12), (0, .ref 87), (1, iv p1), (2, iv p2), (3, iv p3)]) dX2_leastBelow_35 (by decide) rfl ?_
    refine sv_aload_n (pc := 37) dX2_leastBelow_37 rfl rfl ?_
    refine mr_iload_n (pc := 38) (z := p1) dX2_leastBelow_38 rfl rfl ?_
    refine mr_iload_n (pc := 39) (z := p2) dX2_leastBelow_39 rfl rfl ?_
    refine mr_iconst (pc := 40) (z := 1) dX2_leastBelow_40 ?_
    refine mr_bipush (pc := 41) (z := 31) dX2_leastBelow_41 (by decide) ?_
    refine mr_iload_n (pc := 43) (z := p3) dX2_leastBelow_43 rfl rfl ?_
    refine mr_isub (pc := 44) (x := 31) (y := p3) dX2_leastBelow_44 ?_
    refine mr_ishl (pc := 45) (x := 1) (y := (31 - p3)) dX2_leastBelow_45 ?_
    refine mr_gen (P := fun z => (-2147483648) ≤ z ∧ z ≤ 2147483647) (r32i _) fun z13 q14 h15 => ?_
    refine mr_ior (pc := 46) (x := p2) (y := z13) dX2_leastBelow_46 ?_
    refine mr_gen (P := fun z => (-2147483648) ≤ z ∧ z ≤ 2147483647) (r32i _) fun z16 q17 h18 => ?_
    refine mr_iload_n (pc := 47) (z := p3) dX2_leastBelow_47 rfl rfl ?_
    refine mr_iconst (pc := 48) (z := 1) dX2_leastBelow_48 ?_
    refine mr_iadd (pc := 49) (x := p3) (y := 1) dX2_leastBelow_49 ?_
    refine mr_cVI (pc := 50) (c_X2_leastBelow_4 hw T9 hp1 h18 (rAdd (e := 4) (f := 4) hp3 (rR (x := 1)) rfl) (vc_X9_end_1 hq0 hp1)) (gOk _ _ _ _ _) dX2_leastBelow_50 (tX2_leastBelow _ _ _ _ _) ⟨wV_X2_leastBelow, wL_X2_leastBelow⟩ wM_X2_101 (gCX2 _ _ _ _ _) rfl (A_87 hw) rfl ⟨le_t rfl, le_t rfl⟩ ⟨le_t rfl, le_t rfl⟩ rfl (le_t rfl) fun z23 μ19 T20 F21 h22 => ?_
    refine mr_istore (pc := 53) (lv' := [(5, iv z23), (4, iv z12), (0, .ref 87), (1, iv p1), (2, iv p2), (3, iv p3)]) dX2_leastBelow_53 (by decide) rfl ?_
    refine mr_iload (pc := 55) (z := z12) dX2_leastBelow_55 rfl ?_
    refine mr_iload (pc := 57) (z := z23) dX2_leastBelow_57 rfl ?_
    refine mr_iand (pc := 59) (x := z12) (y := z23) dX2_leastBelow_59 ?_
    refine mr_gen (P := fun z => (-2147483648) ≤ z ∧ z ≤ 2147483647) (r32i _) fun z24 q25 h26 => ?_
    refine mr_if_eq (pc := 60) (tgt := 69) dX2_leastBelow_60 (by decide) h26 (fun h27 => ?_) (fun h27 => ?_)
    · have h28 : 0 ≤ z24 ∧ z24 ≤ 0 := (vc_X12_mask_1 h27 h26)
      refine sv_aload_n (pc := 69) dX2_leastBelow_69 rfl rfl ?_
      refine sv_dup (pc := 70) dX2_leastBelow_70 rfl ?_
      refine gf_X2_7 (pc := 71) dX2_leastBelow_71 wF_X2_98 (A_87 hw) T20 fun z29 q30 h31 => ?_
      refine mr_iconst (pc := 74) (z := 1) dX2_leastBelow_74 ?_
      refine mr_iadd (pc := 75) (x := z29) (y := 1) dX2_leastBelow_75 ?_
      refine mr_wrap fun z32 h33 => ?_
      refine pf_X2_7 (pc := 76) dX2_leastBelow_76 wF_X2_98 (A_87 hw) T20 h33 fun μ34 u35 T36 => ?_
      refine mr_iload (pc := 79) (z := z12) dX2_leastBelow_79 rfl ?_
      refine mr_iload (pc := 81) (z := z23) dX2_leastBelow_81 rfl ?_
      refine mr_ior (pc := 83) (x := z12) (y := z23) dX2_leastBelow_83 ?_
      refine mr_gen (P := fun z => (-2147483648) ≤ z ∧ z ≤ 2147483647) (r32i _) fun z37 q38 h39 => ?_
      exact mr_iret dX2_leastBelow_84 rfl (le_t rfl) (le_t rfl) T36 (mF.up (mF.call (mF.call mF.refl F10 rfl) F21 rfl) (A_87 hw) u35 rfl) ⟨h39, trivial⟩
    refine mr_iload (pc := 63) (z := z12) dX2_leastBelow_63 rfl ?_
    refine mr_iload (pc := 65) (z := z23) dX2_leastBelow_65 rfl ?_
    refine mr_iand (pc := 67) (x := z12) (y := z23) dX2_leastBelow_67 ?_
    refine mr_gen (P := fun z => (-2147483648) ≤ z ∧ z ≤ 2147483647) (r32i _) fun z40 q41 h42 => ?_
    exact mr_iret dX2_leastBelow_68 rfl (le_t rfl) (le_t rfl) T20 (mF.call (mF.call mF.refl F10 rfl) F21 rfl) ⟨h42, trivial⟩
  have h43 : 0 ≤ z5 ∧ z5 ≤ 0 := (vc_X12_ring_22 h6 h4.1)
  refine sv_aload_n (pc := 16) dX2_leastBelow_16 rfl rfl ?_
  refine mr_iload_n (pc := 17) (z := p1) dX2_leastBelow_17 rfl rfl ?_
  refine mr_iload_n (pc := 18) (z := p2) dX2_leastBelow_18 rfl rfl ?_
  refine mr_cVP (pc := 19) (c_X2_tieFor hw hT hp1 hp2 (vc_X9_end_1 hq0 hp1)) (gOk _ _ _ _ _) dX2_leastBelow_19 (tX2_tieFor _ _ _ _ _) ⟨wV_X2_tieFor, wL_X2_tieFor⟩ wM_X2_60 (gCX2 _ _ _ _ _) rfl (A_87 hw) rfl ⟨le_t rfl, le_t rfl⟩ ⟨le_t rfl, le_t rfl⟩ rfl (le_t rfl) fun z48 h47 => ?_
  refine mr_cSP (pc := 22) (c_X2_aimBit hw hT h47.1) (gOk _ _ _ _ _) dX2_leastBelow_22 (tX2_aimBit _ _ _ _ _) wS_X2_aimBit wM_X2_110 ⟨le_t rfl, le_t rfl⟩ ⟨le_t rfl, le_t rfl⟩ rfl (le_t rfl) fun z53 h52 => ?_
  exact mr_iret dX2_leastBelow_25 rfl (le_t rfl) (le_t rfl) hT mF.refl ⟨h52.1, trivial⟩
theorem vc_X2_leastBelow_2_1 {p3 : Int} (h0 : 32 ≤ p3) (h1 : 2 ≤ p3 ∧ p3 ≤ 2) : False := by omega
set_option maxRecDepth 4000 in
set_option maxHeartbeats 4000000 in
theorem c_X2_leastBelow_2 {l : Launch} {D : va_G} {c : Nat → ClassId} {H0 : Heap} {sa : Nat × Nat × (Nat → Int32)} {w : mW} {μ : mM} (hw : mWF w) (hT : mT w μ) {p1 : Int} (hp1 : 0 ≤ p1 ∧ p1 ≤ 9) {p2 : Int} (hp2 : (-2147483648) ≤ p2 ∧ p2 ≤ 2147483647) {p3 : Int} (hp3 : 2 ≤ p3 ∧ p3 ≤ 2) (hq0 : p1 < w.2.2.2 0) : sC (gG l D c H0 sa) mX2_leastBelow 33 0 0 [.ref 87, iv p1, iv p2, iv p3] (mk w μ) (qI w [87007] μ (fun z μ1 => ((-2147483648) ≤ z ∧ z ≤ 2147483647) ∧ True)) := by
  refine sC.of rfl (by decide) (le_t rfl) ?_
  refine mr_lvE (lv' := [(0, .ref 87), (1, iv p1), (2, iv p2), (3, iv p3)]) rfl ?_
  refine mr_iload_n (pc := 0) (z := p3) dX2_leastBelow_0 rfl rfl ?_
  refine mr_bipush (pc := 1) (z := 32) dX2_leastBelow_1 (by decide) ?_
  refine mr_icmp_ge (pc := 3) (tgt := 16) dX2_leastBelow_3 (by decide) (r32 hp3 rfl) (r32 (rR (x := 32)) rfl) (fun h => ((vc_X2_leastBelow_2_1 h hp3)).elim) (fun _ => ?_)
  refine sv_aload_n (pc := 6) dX2_leastBelow_6 rfl rfl ?_
  refine mr_iload_n (pc := 7) (z := p1) dX2_leastBelow_7 rfl rfl ?_
  refine mr_iload_n (pc := 8) (z := p2) dX2_leastBelow_8 rfl rfl ?_
  refine mr_iload_n (pc := 9) (z := p3) dX2_leastBelow_9 rfl rfl ?_
  refine mr_cVP (pc := 10) (c_X2_isSplit hw hT hp1 hp2 (rW (c := (-2147483648)) (d := 2147483647) hp3 rfl) (vc_X9_end_1 hq0 hp1)) (gOk _ _ _ _ _) dX2_leastBelow_10 (tX2_isSplit _ _ _ _ _) ⟨wV_X2_isSplit, wL_X2_isSplit⟩ wM_X2_106 (gCX2 _ _ _ _ _) rfl (A_87 hw) rfl ⟨le_t rfl, le_t rfl⟩ ⟨le_t rfl, le_t rfl⟩ rfl (le_t rfl) fun z5 h4 => ?_
  refine mr_if_ne (pc := 13) (tgt := 26) dX2_leastBelow_13 (by decide) (r32 h4.1 rfl) (fun h6 => ?_) (fun h6 => ?_)
  · have h7 : 1 ≤ z5 ∧ z5 ≤ 1 := (vc_X12_ring_24 h6 h4.1)
    refine sv_aload_n (pc := 26) dX2_leastBelow_26 rfl rfl ?_
    refine mr_iload_n (pc := 27) (z := p1) dX2_leastBelow_27 rfl rfl ?_
    refine mr_iload_n (pc := 28) (z := p2) dX2_leastBelow_28 rfl rfl ?_
    refine mr_iload_n (pc := 29) (z := p3) dX2_leastBelow_29 rfl rfl ?_
    refine mr_iconst (pc := 30) (z := 1) dX2_leastBelow_30 ?_
    refine mr_iadd (pc := 31) (x := p3) (y := 1) dX2_leastBelow_31 ?_
    refine mr_cVI (pc := 32) (c_X2_leastBelow_3 hw hT hp1 hp2 (rAdd (e := 3) (f := 3) hp3 (rR (x := 1)) rfl) (vc_X9_end_1 hq0 hp1)) (gOk _ _ _ _ _) dX2_leastBelow_32 (tX2_leastBelow _ _ _ _ _) ⟨wV_X2_leastBelow, wL_X2_leastBelow⟩ wM_X2_101 (gCX2 _ _ _ _ _) rfl (A_87 hw) rfl ⟨le_t rfl, le_t rfl⟩ ⟨le_t rfl, le_t rfl⟩ rfl (le_t rfl) fun z12 μ8 T9 F10 h11 => ?_
    refine mr_istore (pc := 35) (lv' := [(4, iv z12), (0, .ref 87), (1, iv p1), (2, iv p2), (3, iv p3)]) dX2_leastBelow_35 (by decide) rfl ?_
    refine sv_aload_n (pc := 37) dX2_leastBelow_37 rfl rfl ?_
    refine mr_iload_n (pc := 38) (z := p1) dX2_leastBelow_38 rfl rfl ?_
    refine mr_iload_n (pc := 39) (z := p2) dX2_leastBelow_39 rfl rfl ?_
    refine mr_iconst (pc := 40) (z := 1) dX2_leastBelow_40 ?_
    refine mr_bipush (pc := 41) (z := 31) dX2_leastBelow_41 (by decide) ?_
    refine mr_iload_n (pc := 43) (z := p3) dX2_leastBelow_43 rfl rfl ?_
    refine mr_isub (pc := 44) (x := 31) (y := p3) dX2_leastBelow_44 ?_
    refine mr_ishl (pc := 45) (x := 1) (y := (31 - p3)) dX2_leastBelow_45 ?_
    refine mr_gen (P := fun z => (-2147483648) ≤ z ∧ z ≤ 2147483647) (r32i _) fun z13 q14 h15 => ?_
    refine mr_ior (pc := 46) (x := p2) (y := z13) dX2_leastBelow_46 ?_
    refine mr_gen (P := fun z => (-2147483648) ≤ z ∧ z ≤ 2147483647) (r32i _) fun z16 q17 h18 => ?_
    refine mr_iload_n (pc := 47) (z := p3) dX2_leastBelow_47 rfl rfl ?_
    refine mr_iconst (pc := 48) (z := 1) dX2_leastBelow_48 ?_
    refine mr_iadd (pc := 49) (x := p3) (y := 1) dX2_leastBelow_49 ?_
    refine mr_cVI (pc := 50) (c_X2_leastBelow_3 hw T9 hp1 h18 (rAdd (e := 3) (f := 3) hp3 (rR (x := 1)) rfl) (vc_X9_end_1 hq0 hp1)) (gOk _ _ _ _ _) dX2_leastBelow_50 (tX2_leastBelow _ _ _ _ _) ⟨wV_X2_leastBelow, wL_X2_leastBelow⟩ wM_X2_101 (gCX2 _ _ _ _ _) rfl (A_87 hw) rfl ⟨le_t rfl, le_t rfl⟩ ⟨le_t rfl, le_t rfl⟩ rfl (le_t rfl) fun z23 μ19 T20 F21 h22 => ?_
    refine mr_istore (pc := 53) (lv' := [(5, iv z23), (4, iv z12), (0, .ref 87), (1, iv p1), (2, iv p2), (3, iv p3)]) dX2_leastBelow_53 (by decide) rfl ?_
    refine mr_iload (pc := 55) (z := z12) dX2_leastBelow_55 rfl ?_
    refine mr_iload (pc := 57) (z := z23) dX2_leastBelow_57 rfl ?_
    refine mr_iand (pc := 59) (x := z12) (y := z23) dX2_leastBelow_59 ?_
    refine mr_gen (P := fun z => (-2147483648) ≤ z ∧ z ≤ 2147483647) (r32i _) fun z24 q25 h26 => ?_
    refine mr_if_eq (pc := 60) (tgt := 69) dX2_leastBelow_60 (by decide) h26 (fun h27 => ?_) (fun h27 => ?_)
    · have h28 : 0 ≤ z24 ∧ z24 ≤ 0 := (vc_X12_mask_1 h27 h26)
      refine sv_aload_n (pc := 69) dX2_leastBelow_69 rfl rfl ?_
      refine sv_dup (pc := 70) dX2_leastBelow_70 rfl ?_
      refine gf_X2_7 (pc := 71) dX2_leastBelow_71 wF_X2_98 (A_87 hw) T20 fun z29 q30 h31 => ?_
      refine mr_iconst (pc := 74) (z := 1) dX2_leastBelow_74 ?_
      refine mr_iadd (pc := 75) (x := z29) (y := 1) dX2_leastBelow_75 ?_
      refine mr_wrap fun z32 h33 => ?_
      refine pf_X2_7 (pc := 76) dX2_leastBelow_76 wF_X2_98 (A_87 hw) T20 h33 fun μ34 u35 T36 => ?_
      refine mr_iload (pc := 79) (z := z12) dX2_leastBelow_79 rfl ?_
      refine mr_iload (pc := 81) (z := z23) dX2_leastBelow_81 rfl ?_
      refine mr_ior (pc := 83) (x := z12) (y := z23) dX2_leastBelow_83 ?_
      refine mr_gen (P := fun z => (-2147483648) ≤ z ∧ z ≤ 2147483647) (r32i _) fun z37 q38 h39 => ?_
      exact mr_iret dX2_leastBelow_84 rfl (le_t rfl) (le_t rfl) T36 (mF.up (mF.call (mF.call mF.refl F10 rfl) F21 rfl) (A_87 hw) u35 rfl) ⟨h39, trivial⟩
    refine mr_iload (pc := 63) (z := z12) dX2_leastBelow_63 rfl ?_
    refine mr_iload (pc := 65) (z := z23) dX2_leastBelow_65 rfl ?_
    refine mr_iand (pc := 67) (x := z12) (y := z23) dX2_leastBelow_67 ?_
    refine mr_gen (P := fun z => (-2147483648) ≤ z ∧ z ≤ 2147483647) (r32i _) fun z40 q41 h42 => ?_
    exact mr_iret dX2_leastBelow_68 rfl (le_t rfl) (le_t rfl) T20 (mF.call (mF.call mF.refl F10 rfl) F21 rfl) ⟨h42, trivial⟩
  have h43 : 0 ≤ z5 ∧ z5 ≤ 0 := (vc_X12_ring_22 h6 h4.1)
  refine sv_aload_n (pc := 16) dX2_leastBelow_16 rfl rfl ?_
  refine mr_iload_n (pc := 17) (z := p1) dX2_leastBelow_17 rfl rfl ?_
  refine mr_iload_n (pc := 18) (z := p2) dX2_leastBelow_18 rfl rfl ?_
  refine mr_cVP (pc := 19) (c_X2_tieFor hw hT hp1 hp2 (vc_X9_end_1 hq0 hp1)) (gOk _ _ _ _ _) dX2_leastBelow_19 (tX2_tieFor _ _ _ _ _) ⟨wV_X2_tieFor, wL_X2_tieFor⟩ wM_X2_60 (gCX2 _ _ _ _ _) rfl (A_87 hw) rfl ⟨le_t rfl, le_t rfl⟩ ⟨le_t rfl, le_t rfl⟩ rfl (le_t rfl) fun z48 h47 => ?_
  refine mr_cSP (pc := 22) (c_X2_aimBit hw hT h47.1) (gOk _ _ _ _ _) dX2_leastBelow_22 (tX2_aimBit _ _ _ _ _) wS_X2_aimBit wM_X2_110 ⟨le_t rfl, le_t rfl⟩ ⟨le_t rfl, le_t rfl⟩ rfl (le_t rfl) fun z53 h52 => ?_
  exact mr_iret dX2_leastBelow_25 rfl (le_t rfl) (le_t rfl) hT mF.refl ⟨h52.1, trivial⟩
theorem vc_X2_leastBelow_1_1 {p3 : Int} (h0 : 32 ≤ p3) (h1 : 1 ≤ p3 ∧ p3 ≤ 1) : False := by omega
set_option maxRecDepth 4000 in
set_option maxHeartbeats 4000000 in
theorem c_X2_leastBelow_1 {l : Launch} {D : va_G} {c : Nat → ClassId} {H0 : Heap} {sa : Nat × Nat × (Nat → Int32)} {w : mW} {μ : mM} (hw : mWF w) (hT : mT w μ) {p1 : Int} (hp1 : 0 ≤ p1 ∧ p1 ≤ 9) {p2 : Int} (hp2 : (-2147483648) ≤ p2 ∧ p2 ≤ 2147483647) {p3 : Int} (hp3 : 1 ≤ p3 ∧ p3 ≤ 1) (hq0 : p1 < w.2.2.2 0) : sC (gG l D c H0 sa) mX2_leastBelow 34 0 0 [.ref 87, iv p1, iv p2, iv p3] (mk w μ) (qI w [87007] μ (fun z μ1 => ((-2147483648) ≤ z ∧ z ≤ 2147483647) ∧ True)) := by
  refine sC.of rfl (by decide) (le_t rfl) ?_
  refine mr_lvE (lv' := [(0, .ref 87), (1, iv p1), (2, iv p2), (3, iv p3)]) rfl ?_
  refine mr_iload_n (pc := 0) (z := p3) dX2_leastBelow_0 rfl rfl ?_
  refine mr_bipush (pc := 1) (z := 32) dX2_leastBelow_1 (by decide) ?_
  refine mr_icmp_ge (pc := 3) (tgt := 16) dX2_leastBelow_3 (by decide) (r32 hp3 rfl) (r32 (rR (x := 32)) rfl) (fun h => ((vc_X2_leastBelow_1_1 h hp3)).elim) (fun _ => ?_)
  refine sv_aload_n (pc := 6) dX2_leastBelow_6 rfl rfl ?_
  refine mr_iload_n (pc := 7) (z := p1) dX2_leastBelow_7 rfl rfl ?_
  refine mr_iload_n (pc := 8) (z := p2) dX2_leastBelow_8 rfl rfl ?_
  refine mr_iload_n (pc := 9) (z := p3) dX2_leastBelow_9 rfl rfl ?_
  refine mr_cVP (pc := 10) (c_X2_isSplit hw hT hp1 hp2 (rW (c := (-2147483648)) (d := 2147483647) hp3 rfl) (vc_X9_end_1 hq0 hp1)) (gOk _ _ _ _ _) dX2_leastBelow_10 (tX2_isSplit _ _ _ _ _) ⟨wV_X2_isSplit, wL_X2_isSplit⟩ wM_X2_106 (gCX2 _ _ _ _ _) rfl (A_87 hw) rfl ⟨le_t rfl, le_t rfl⟩ ⟨le_t rfl, le_t rfl⟩ rfl (le_t rfl) fun z5 h4 => ?_
  refine mr_if_ne (pc := 13) (tgt := 26) dX2_leastBelow_13 (by decide) (r32 h4.1 rfl) (fun h6 => ?_) (fun h6 => ?_)
  · have h7 : 1 ≤ z5 ∧ z5 ≤ 1 := (vc_X12_ring_24 h6 h4.1)
    refine sv_aload_n (pc := 26) dX2_leastBelow_26 rfl rfl ?_
    refine mr_iload_n (pc := 27) (z := p1) dX2_leastBelow_27 rfl rfl ?_
    refine mr_iload_n (pc := 28) (z := p2) dX2_leastBelow_28 rfl rfl ?_
    refine mr_iload_n (pc := 29) (z := p3) dX2_leastBelow_29 rfl rfl ?_
    refine mr_iconst (pc := 30) (z := 1) dX2_leastBelow_30 ?_
    refine mr_iadd (pc := 31) (x := p3) (y := 1) dX2_leastBelow_31 ?_
    refine mr_cVI (pc := 32) (c_X2_leastBelow_2 hw hT hp1 hp2 (rAdd (e := 2) (f := 2) hp3 (rR (x := 1)) rfl) (vc_X9_end_1 hq0 hp1)) (gOk _ _ _ _ _) dX2_leastBelow_32 (tX2_leastBelow _ _ _ _ _) ⟨wV_X2_leastBelow, wL_X2_leastBelow⟩ wM_X2_101 (gCX2 _ _ _ _ _) rfl (A_87 hw) rfl ⟨le_t rfl, le_t rfl⟩ ⟨le_t rfl, le_t rfl⟩ rfl (le_t rfl) fun z12 μ8 T9 F10 h11 => ?_
    refine mr_istore (pc := 35) (lv' := [(4, iv z12), (0, .ref 87), (1, iv p1), (2, iv p2), (3, iv p3)]) dX2_leastBelow_35 (by decide) rfl ?_
    refine sv_aload_n (pc := 37) dX2_leastBelow_37 rfl rfl ?_
    refine mr_iload_n (pc := 38) (z := p1) dX2_leastBelow_38 rfl rfl ?_
    refine mr_iload_n (pc := 39) (z := p2) dX2_leastBelow_39 rfl rfl ?_
    refine mr_iconst (pc := 40) (z := 1) dX2_leastBelow_40 ?_
    refine mr_bipush (pc := 41) (z := 31) dX2_leastBelow_41 (by decide) ?_
    refine mr_iload_n (pc := 43) (z := p3) dX2_leastBelow_43 rfl rfl ?_
    refine mr_isub (pc := 44) (x := 31) (y := p3) dX2_leastBelow_44 ?_
    refine mr_ishl (pc := 45) (x := 1) (y := (31 - p3)) dX2_leastBelow_45 ?_
    refine mr_gen (P := fun z => (-2147483648) ≤ z ∧ z ≤ 2147483647) (r32i _) fun z13 q14 h15 => ?_
    refine mr_ior (pc := 46) (x := p2) (y := z13) dX2_leastBelow_46 ?_
    refine mr_gen (P := fun z => (-2147483648) ≤ z ∧ z ≤ 2147483647) (r32i _) fun z16 q17 h18 => ?_
    refine mr_iload_n (pc := 47) (z := p3) dX2_leastBelow_47 rfl rfl ?_
    refine mr_iconst (pc := 48) (z := 1) dX2_leastBelow_48 ?_
    refine mr_iadd (pc := 49) (x := p3) (y := 1) dX2_leastBelow_49 ?_
    refine mr_cVI (pc := 50) (c_X2_leastBelow_2 hw T9 hp1 h18 (rAdd (e := 2) (f := 2) hp3 (rR (x := 1)) rfl) (vc_X9_end_1 hq0 hp1)) (gOk _ _ _ _ _) dX2_leastBelow_50 (tX2_leastBelow _ _ _ _ _) ⟨wV_X2_leastBelow, wL_X2_leastBelow⟩ wM_X2_101 (gCX2 _ _ _ _ _) rfl (A_87 hw) rfl ⟨le_t rfl, le_t rfl⟩ ⟨le_t rfl, le_t rfl⟩ rfl (le_t rfl) fun z23 μ19 T20 F21 h22 => ?_
    refine mr_istore (pc := 53) (lv' := [(5, iv z23), (4, iv z12), (0, .ref 87), (1, iv p1), (2, iv p2), (3, iv p3)]) dX2_leastBelow_53 (by decide) rfl ?_
    refine mr_iload (pc := 55) (z := z12) dX2_leastBelow_55 rfl ?_
    refine mr_iload (pc := 57) (z := z23) dX2_leastBelow_57 rfl ?_
    refine mr_iand (pc := 59) (x := z12) (y := z23) dX2_leastBelow_59 ?_
    refine mr_gen (P := fun z => (-2147483648) ≤ z ∧ z ≤ 2147483647) (r32i _) fun z24 q25 h26 => ?_
    refine mr_if_eq (pc := 60) (tgt := 69) dX2_leastBelow_60 (by decide) h26 (fun h27 => ?_) (fun h27 => ?_)
    · have h28 : 0 ≤ z24 ∧ z24 ≤ 0 := (vc_X12_mask_1 h27 h26)
      refine sv_aload_n (pc := 69) dX2_leastBelow_69 rfl rfl ?_
      refine sv_dup (pc := 70) dX2_leastBelow_70 rfl ?_
      refine gf_X2_7 (pc := 71) dX2_leastBelow_71 wF_X2_98 (A_87 hw) T20 fun z29 q30 h31 => ?_
      refine mr_iconst (pc := 74) (z := 1) dX2_leastBelow_74 ?_
      refine mr_iadd (pc := 75) (x := z29) (y := 1) dX2_leastBelow_75 ?_
      refine mr_wrap fun z32 h33 => ?_
      refine pf_X2_7 (pc := 76) dX2_leastBelow_76 wF_X2_98 (A_87 hw) T20 h33 fun μ34 u35 T36 => ?_
      refine mr_iload (pc := 79) (z := z12) dX2_leastBelow_79 rfl ?_
      refine mr_iload (pc := 81) (z := z23) dX2_leastBelow_81 rfl ?_
      refine mr_ior (pc := 83) (x := z12) (y := z23) dX2_leastBelow_83 ?_
      refine mr_gen (P := fun z => (-2147483648) ≤ z ∧ z ≤ 2147483647) (r32i _) fun z37 q38 h39 => ?_
      exact mr_iret dX2_leastBelow_84 rfl (le_t rfl) (le_t rfl) T36 (mF.up (mF.call (mF.call mF.refl F10 rfl) F21 rfl) (A_87 hw) u35 rfl) ⟨h39, trivial⟩
    refine mr_iload (pc := 63) (z := z12) dX2_leastBelow_63 rfl ?_
    refine mr_iload (pc := 65) (z := z23) dX2_leastBelow_65 rfl ?_
    refine mr_iand (pc := 67) (x := z12) (y := z23) dX2_leastBelow_67 ?_
    refine mr_gen (P := fun z => (-2147483648) ≤ z ∧ z ≤ 2147483647) (r32i _) fun z40 q41 h42 => ?_
    exact mr_iret dX2_leastBelow_68 rfl (le_t rfl) (le_t rfl) T20 (mF.call (mF.call mF.refl F10 rfl) F21 rfl) ⟨h42, trivial⟩
  have h43 : 0 ≤ z5 ∧ z5 ≤ 0 := (vc_X12_ring_22 h6 h4.1)
  refine sv_aload_n (pc := 16) dX2_leastBelow_16 rfl rfl ?_
  refine mr_iload_n (pc := 17) (z := p1) dX2_leastBelow_17 rfl rfl ?_
  refine mr_iload_n (pc := 18) (z := p2) dX2_leastBelow_18 rfl rfl ?_
  refine mr_cVP (pc := 19) (c_X2_tieFor hw hT hp1 hp2 (vc_X9_end_1 hq0 hp1)) (gOk _ _ _ _ _) dX2_leastBelow_19 (tX2_tieFor _ _ _ _ _) ⟨wV_X2_tieFor, wL_X2_tieFor⟩ wM_X2_60 (gCX2 _ _ _ _ _) rfl (A_87 hw) rfl ⟨le_t rfl, le_t rfl⟩ ⟨le_t rfl, le_t rfl⟩ rfl (le_t rfl) fun z48 h47 => ?_
  refine mr_cSP (pc := 22) (c_X2_aimBit hw hT h47.1) (gOk _ _ _ _ _) dX2_leastBelow_22 (tX2_aimBit _ _ _ _ _) wS_X2_aimBit wM_X2_110 ⟨le_t rfl, le_t rfl⟩ ⟨le_t rfl, le_t rfl⟩ rfl (le_t rfl) fun z53 h52 => ?_
  exact mr_iret dX2_leastBelow_25 rfl (le_t rfl) (le_t rfl) hT mF.refl ⟨h52.1, trivial⟩
theorem vc_X2_leastBelow_0_1 {p3 : Int} (h0 : 32 ≤ p3) (h1 : 0 ≤ p3 ∧ p3 ≤ 0) : False := by omega
set_option maxRecDepth 4000 in
set_option maxHeartbeats 4000000 in
theorem c_X2_leastBelow_0 {l : Launch} {D : va_G} {c : Nat → ClassId} {H0 : Heap} {sa : Nat × Nat × (Nat → Int32)} {w : mW} {μ : mM} (hw : mWF w) (hT : mT w μ) {p1 : Int} (hp1 : 0 ≤ p1 ∧ p1 ≤ 9) {p2 : Int} (hp2 : (-2147483648) ≤ p2 ∧ p2 ≤ 2147483647) {p3 : Int} (hp3 : 0 ≤ p3 ∧ p3 ≤ 0) (hq0 : p1 < w.2.2.2 0) : sC (gG l D c H0 sa) mX2_leastBelow 35 0 0 [.ref 87, iv p1, iv p2, iv p3] (mk w μ) (qI w [87007] μ (fun z μ1 => ((-2147483648) ≤ z ∧ z ≤ 2147483647) ∧ True)) := by
  refine sC.of rfl (by decide) (le_t rfl) ?_
  refine mr_lvE (lv' := [(0, .ref 87), (1, iv p1), (2, iv p2), (3, iv p3)]) rfl ?_
  refine mr_iload_n (pc := 0) (z := p3) dX2_leastBelow_0 rfl rfl ?_
  refine mr_bipush (pc := 1) (z := 32) dX2_leastBelow_1 (by decide) ?_
  refine mr_icmp_ge (pc := 3) (tgt := 16) dX2_leastBelow_3 (by decide) (r32 hp3 rfl) (r32 (rR (x := 32)) rfl) (fun h => ((vc_X2_leastBelow_0_1 h hp3)).elim) (fun _ => ?_)
  refine sv_aload_n (pc := 6) dX2_leastBelow_6 rfl rfl ?_
  refine mr_iload_n (pc := 7) (z := p1) dX2_leastBelow_7 rfl rfl ?_
  refine mr_iload_n (pc := 8) (z := p2) dX2_leastBelow_8 rfl rfl ?_
  refine mr_iload_n (pc := 9) (z := p3) dX2_leastBelow_9 rfl rfl ?_
  refine mr_cVP (pc := 10) (c_X2_isSplit hw hT hp1 hp2 (rW (c := (-2147483648)) (d := 2147483647) hp3 rfl) (vc_X9_end_1 hq0 hp1)) (gOk _ _ _ _ _) dX2_leastBelow_10 (tX2_isSplit _ _ _ _ _) ⟨wV_X2_isSplit, wL_X2_isSplit⟩ wM_X2_106 (gCX2 _ _ _ _ _) rfl (A_87 hw) rfl ⟨le_t rfl, le_t rfl⟩ ⟨le_t rfl, le_t rfl⟩ rfl (le_t rfl) fun z5 h4 => ?_
  refine mr_if_ne (pc := 13) (tgt := 26) dX2_leastBelow_13 (by decide) (r32 h4.1 rfl) (fun h6 => ?_) (fun h6 => ?_)
  · have h7 : 1 ≤ z5 ∧ z5 ≤ 1 := (vc_X12_ring_24 h6 h4.1)
    refine sv_aload_n (pc := 26) dX2_leastBelow_26 rfl rfl ?_
    refine mr_iload_n (pc := 27) (z := p1) dX2_leastBelow_27 rfl rfl ?_
    refine mr_iload_n (pc := 28) (z := p2) dX2_leastBelow_28 rfl rfl ?_
    refine mr_iload_n (pc := 29) (z := p3) dX2_leastBelow_29 rfl rfl ?_
    refine mr_iconst (pc := 30) (z := 1) dX2_leastBelow_30 ?_
    refine mr_iadd (pc := 31) (x := p3) (y := 1) dX2_leastBelow_31 ?_
    refine mr_cVI (pc := 32) (c_X2_leastBelow_1 hw hT hp1 hp2 (rAdd (e := 1) (f := 1) hp3 (rR (x := 1)) rfl) (vc_X9_end_1 hq0 hp1)) (gOk _ _ _ _ _) dX2_leastBelow_32 (tX2_leastBelow _ _ _ _ _) ⟨wV_X2_leastBelow, wL_X2_leastBelow⟩ wM_X2_101 (gCX2 _ _ _ _ _) rfl (A_87 hw) rfl ⟨le_t rfl, le_t rfl⟩ ⟨le_t rfl, le_t rfl⟩ rfl (le_t rfl) fun z12 μ8 T9 F10 h11 => ?_
    refine mr_istore (pc := 35) (lv' := [(4, iv z12), (0, .ref 87), (1, iv p1), (2, iv p2), (3, iv p3)]) dX2_leastBelow_35 (by decide) rfl ?_
    refine sv_aload_n (pc := 37) dX2_leastBelow_37 rfl rfl ?_
    refine mr_iload_n (pc := 38) (z := p1) dX2_leastBelow_38 rfl rfl ?_
    refine mr_iload_n (pc := 39) (z := p2) dX2_leastBelow_39 rfl rfl ?_
    refine mr_iconst (pc := 40) (z := 1) dX2_leastBelow_40 ?_
    refine mr_bipush (pc := 41) (z := 31) dX2_leastBelow_41 (by decide) ?_
    refine mr_iload_n (pc := 43) (z := p3) dX2_leastBelow_43 rfl rfl ?_
    refine mr_isub (pc := 44) (x := 31) (y := p3) dX2_leastBelow_44 ?_
    refine mr_ishl (pc := 45) (x := 1) (y := (31 - p3)) dX2_leastBelow_45 ?_
    refine mr_gen (P := fun z => (-2147483648) ≤ z ∧ z ≤ 2147483647) (r32i _) fun z13 q14 h15 => ?_
    refine mr_ior (pc := 46) (x := p2) (y := z13) dX2_leastBelow_46 ?_
    refine mr_gen (P := fun z => (-2147483648) ≤ z ∧ z ≤ 2147483647) (r32i _) fun z16 q17 h18 => ?_
    refine mr_iload_n (pc := 47) (z := p3) dX2_leastBelow_47 rfl rfl ?_
    refine mr_iconst (pc := 48) (z := 1) dX2_leastBelow_48 ?_
    refine mr_iadd (pc := 49) (x := p3) (y := 1) dX2_leastBelow_49 ?_
    refine mr_cVI (pc := 50) (c_X2_leastBelow_1 hw T9 hp1 h18 (rAdd (e := 1) (f := 1) hp3 (rR (x := 1)) rfl) (vc_X9_end_1 hq0 hp1)) (gOk _ _ _ _ _) dX2_leastBelow_50 (tX2_leastBelow _ _ _ _ _) ⟨wV_X2_leastBelow, wL_X2_leastBelow⟩ wM_X2_101 (gCX2 _ _ _ _ _) rfl (A_87 hw) rfl ⟨le_t rfl, le_t rfl⟩ ⟨le_t rfl, le_t rfl⟩ rfl (le_t rfl) fun z23 μ19 T20 F21 h22 => ?_
    refine mr_istore (pc := 53) (lv' := [(5, iv z23), (4, iv z12), (0, .ref 87), (1, iv p1), (2, iv p2), (3, iv p3)]) dX2_leastBelow_53 (by decide) rfl ?_
    refine mr_iload (pc := 55) (z := z12) dX2_leastBelow_55 rfl ?_
    refine mr_iload (pc := 57) (z := z23) dX2_leastBelow_57 rfl ?_
    refine mr_iand (pc := 59) (x := z12) (y := z23) dX2_leastBelow_59 ?_
    refine mr_gen (P := fun z => (-2147483648) ≤ z ∧ z ≤ 2147483647) (r32i _) fun z24 q25 h26 => ?_
    refine mr_if_eq (pc := 60) (tgt := 69) dX2_leastBelow_60 (by decide) h26 (fun h27 => ?_) (fun h27 => ?_)
    · have h28 : 0 ≤ z24 ∧ z24 ≤ 0 := (vc_X12_mask_1 h27 h26)
      refine sv_aload_n (pc := 69) dX2_leastBelow_69 rfl rfl ?_
      refine sv_dup (pc := 70) dX2_leastBelow_70 rfl ?_
      refine gf_X2_7 (pc := 71) dX2_leastBelow_71 wF_X2_98 (A_87 hw) T20 fun z29 q30 h31 => ?_
      refine mr_iconst (pc := 74) (z := 1) dX2_leastBelow_74 ?_
      refine mr_iadd (pc := 75) (x := z29) (y := 1) dX2_leastBelow_75 ?_
      refine mr_wrap fun z32 h33 => ?_
      refine pf_X2_7 (pc := 76) dX2_leastBelow_76 wF_X2_98 (A_87 hw) T20 h33 fun μ34 u35 T36 => ?_
      refine mr_iload (pc := 79) (z := z12) dX2_leastBelow_79 rfl ?_
      refine mr_iload (pc := 81) (z := z23) dX2_leastBelow_81 rfl ?_
      refine mr_ior (pc := 83) (x := z12) (y := z23) dX2_leastBelow_83 ?_
      refine mr_gen (P := fun z => (-2147483648) ≤ z ∧ z ≤ 2147483647) (r32i _) fun z37 q38 h39 => ?_
      exact mr_iret dX2_leastBelow_84 rfl (le_t rfl) (le_t rfl) T36 (mF.up (mF.call (mF.call mF.refl F10 rfl) F21 rfl) (A_87 hw) u35 rfl) ⟨h39, trivial⟩
    refine mr_iload (pc := 63) (z := z12) dX2_leastBelow_63 rfl ?_
    refine mr_iload (pc := 65) (z := z23) dX2_leastBelow_65 rfl ?_
    refine mr_iand (pc := 67) (x := z12) (y := z23) dX2_leastBelow_67 ?_
    refine mr_gen (P := fun z => (-2147483648) ≤ z ∧ z ≤ 2147483647) (r32i _) fun z40 q41 h42 => ?_
    exact mr_iret dX2_leastBelow_68 rfl (le_t rfl) (le_t rfl) T20 (mF.call (mF.call mF.refl F10 rfl) F21 rfl) ⟨h42, trivial⟩
  have h43 : 0 ≤ z5 ∧ z5 ≤ 0 := (vc_X12_ring_22 h6 h4.1)
  refine sv_aload_n (pc := 16) dX2_leastBelow_16 rfl rfl ?_
  refine mr_iload_n (pc := 17) (z := p1) dX2_leastBelow_17 rfl rfl ?_
  refine mr_iload_n (pc := 18) (z := p2) dX2_leastBelow_18 rfl rfl ?_
  refine mr_cVP (pc := 19) (c_X2_tieFor hw hT hp1 hp2 (vc_X9_end_1 hq0 hp1)) (gOk _ _ _ _ _) dX2_leastBelow_19 (tX2_tieFor _ _ _ _ _) ⟨wV_X2_tieFor, wL_X2_tieFor⟩ wM_X2_60 (gCX2 _ _ _ _ _) rfl (A_87 hw) rfl ⟨le_t rfl, le_t rfl⟩ ⟨le_t rfl, le_t rfl⟩ rfl (le_t rfl) fun z48 h47 => ?_
  refine mr_cSP (pc := 22) (c_X2_aimBit hw hT h47.1) (gOk _ _ _ _ _) dX2_leastBelow_22 (tX2_aimBit _ _ _ _ _) wS_X2_aimBit wM_X2_110 ⟨le_t rfl, le_t rfl⟩ ⟨le_t rfl, le_t rfl⟩ rfl (le_t rfl) fun z53 h52 => ?_
  exact mr_iret dX2_leastBelow_25 rfl (le_t rfl) (le_t rfl) hT mF.refl ⟨h52.1, trivial⟩
theorem vc_X2_leastTable_2 {z9 : Int} (h0 : z9 = 0) (h1 : 0 ≤ z9 ∧ z9 ≤ 2097152) : 0 ≤ z9 ∧ z9 ≤ 0 := by omega
theorem vc_X2_leastTable_3 {z9 : Int} (h0 : ¬ z9 = 0) (h1 : 0 ≤ z9 ∧ z9 ≤ 2097152) : 1 ≤ z9 ∧ z9 ≤ 2097152 := by omega
set_option maxRecDepth 4000 in
set_option maxHeartbeats 4000000 in
theorem c_X2_leastTable {l : Launch} {D : va_G} {c : Nat → ClassId} {H0 : Heap} {sa : Nat × Nat × (Nat → Int32)} {w : mW} {μ : mM} (hw : mWF w) (hT : mT w μ) {p1 : Int} (hp1 : 0 ≤ p1 ∧ p1 ≤ 9) (hq0 : p1 < w.2.2.2 0) : sC (gG l D c H0 sa) mX2_leastTable 36 0 0 [.ref 87, iv p1] (mk w μ) (qI w [87007] μ (fun z μ1 => ((-2147483648) ≤ z ∧ z ≤ 2147483647) ∧ True)) := by
  refine sC.of rfl (by decide) (le_t rfl) ?_
  refine mr_lvE (lv' := [(0, .ref 87), (1, iv p1)]) rfl ?_
  refine sv_aload_n (pc := 0) dX2_leastTable_0 rfl rfl ?_
  refine mr_iconst (pc := 1) (z := 0) dX2_leastTable_1 ?_
  refine pf_X2_7 (pc := 2) dX2_leastTable_2 wF_X2_98 (A_87 hw) hT (rW (c := (-2147483648)) (d := 2147483647) (rR (x := 0)) rfl) fun μ1 u2 T3 => ?_
  refine sv_aload_n (pc := 5) dX2_leastTable_5 rfl rfl ?_
  refine mr_iload_n (pc := 6) (z := p1) dX2_leastTable_6 rfl rfl ?_
  refine mr_iconst (pc := 7) (z := 0) dX2_leastTable_7 ?_
  refine mr_iconst (pc := 8) (z := 0) dX2_leastTable_8 ?_
  refine mr_cVI (pc := 9) (c_X2_leastBelow_0 hw T3 hp1 (rW (c := (-2147483648)) (d := 2147483647) (rR (x := 0)) rfl) (rR (x := 0)) (vc_X9_end_1 hq0 hp1)) (gOk _ _ _ _ _) dX2_leastTable_9 (tX2_leastBelow _ _ _ _ _) ⟨wV_X2_leastBelow, wL_X2_leastBelow⟩ wM_X2_101 (gCX2 _ _ _ _ _) rfl (A_87 hw) rfl ⟨le_t rfl, le_t rfl⟩ ⟨le_t rfl, le_t rfl⟩ rfl (le_t rfl) fun z8 μ4 T5 F6 h7 => ?_
  refine mr_istore_n (pc := 12) (lv' := [(2, iv z8), (0, .ref 87), (1, iv p1)]) dX2_leastTable_12 rfl (by decide) rfl ?_
  refine mr_iload_n (pc := 13) (z := z8) dX2_leastTable_13 rfl rfl ?_
  refine mr_ldc (pc := 14) (z := 2097152) dX2_leastTable_14 wG_X2_105 (by decide) ?_
  refine mr_iand (pc := 16) (x := z8) (y := 2097152) dX2_leastTable_16 ?_
  refine mr_gen (P := fun z => 0 ≤ z ∧ z ≤ 2097152) (rAndR (rR (x := 2097152)) rfl) fun z9 q10 h11 => ?_
  refine mr_if_eq (pc := 17) (tgt := 27) dX2_leastTable_17 (by decide) (r32 h11 rfl) (fun h22 => ?_) (fun h22 => ?_)
  · have h23 : 0 ≤ z9 ∧ z9 ≤ 0 := (vc_X2_leastTable_2 h22 h11)
    refine sv_aload_n (pc := 27) dX2_leastTable_27 rfl rfl ?_
    refine gf_X2_7 (pc := 28) dX2_leastTable_28 wF_X2_98 (A_87 hw) T5 fun z24 q25 h26 => ?_
    refine mr_iconst (pc := 31) (z := 1) dX2_leastTable_31 ?_
    refine mr_iadd (pc := 32) (x := z24) (y := 1) dX2_leastTable_32 ?_
    refine mr_wrap fun z27 h28 => ?_
    exact mr_iret dX2_leastTable_33 rfl (le_t rfl) (le_t rfl) T5 (mF.call (mF.up mF.refl (A_87 hw) u2 rfl) F6 rfl) ⟨h28, trivial⟩
  have h29 : 1 ≤ z9 ∧ z9 ≤ 2097152 := (vc_X2_leastTable_3 h22 h11)
  refine sv_aload_n (pc := 20) dX2_leastTable_20 rfl rfl ?_
  refine gf_X2_7 (pc := 21) dX2_leastTable_21 wF_X2_98 (A_87 hw) T5 fun z30 q31 h32 => ?_
  refine sv_goto (pc := 24) (tgt := 33) dX2_leastTable_24 (by decide) ?_
  exact mr_iret dX2_leastTable_33 rfl (le_t rfl) (le_t rfl) T5 (mF.call (mF.up mF.refl (A_87 hw) u2 rfl) F6 rfl) ⟨h32, trivial⟩
set_option maxRecDepth 4000 in
set_option maxHeartbeats 4000000 in
theorem c_X11_least {l : Launch} {D : va_G} {c : Nat → ClassId} {H0 : Heap} {sa : Nat × Nat × (Nat → Int32)} {w : mW} {μ : mM} (hw : mWF w) (hT : mT w μ) {p1 : Int} (hp1 : (-2147483648) ≤ p1 ∧ p1 ≤ 2147483647) : sC (gG l D c H0 sa) mX11_least 37 0 0 [.ref 0, iv p1] (mk w μ) (qI w [87007] μ (fun z μ1 => ((-2147483648) ≤ z ∧ z ≤ 2147483647) ∧ True)) := by
  refine sC.of rfl (by decide) (le_t rfl) ?_
  refine mr_lvE (lv' := [(0, .ref 0), (1, iv p1)]) rfl ?_
  refine sv_aload_n (pc := 0) dX11_least_0 rfl rfl ?_
  refine mr_iload_n (pc := 1) (z := p1) dX11_least_1 rfl rfl ?_
  obtain ⟨z1, q2⟩ : ∃ z, μ 6 15 = z := ⟨_, rfl⟩
  have h3 : (z1 = w.2.2.2 0 ∧ 0 ≤ z1 ∧ z1 ≤ 10) := by rw [← q2]; exact hT 6 6 (A_6 hw) 15
  refine mr_cVP (pc := 2) (c_X11_isDomain hw hT hp1 q2) (gOk _ _ _ _ _) dX11_least_2 (tX11_isDomain _ _ _ _ _) ⟨wV_X11_isDomain, wL_X11_isDomain⟩ wM_X11_105 (gCX11 _ _ _ _ _) rfl (A_0 hw) rfl ⟨le_t rfl, le_t rfl⟩ ⟨le_t rfl, le_t rfl⟩ rfl (le_t rfl) fun z8 h7 => ?_
  refine mr_if_eq (pc := 5) (tgt := 19) dX11_least_5 (by decide) (r32 h7.1 rfl) (fun h20 => ?_) (fun h20 => ?_)
  · have h21 : 0 ≤ z8 ∧ z8 ≤ 0 := (vc_X12_write_78 h20 h7.2.1 h7.2.2.1 hp1 h3.2 h7.1)
    have h22 : p1 < 0 ∨ z1 ≤ p1 := (h7.2.2.1 (vc_X11_picked_2 h7.2.1 h7.2.2.1 h20 h3.1 hp1 h3.2 h21))
    refine mr_iconst (pc := 19) (z := (-1)) dX11_least_19 ?_
    exact mr_iret dX11_least_20 rfl (le_t rfl) (le_t rfl) hT mF.refl ⟨(rW (c := (-2147483648)) (d := 2147483647) (rR (x := (-1))) rfl), trivial⟩
  have h23 : 1 ≤ z8 ∧ z8 ≤ 1 := (vc_X12_write_12 h20 h7.2.1 h7.2.2.1 hp1 h3.2 h7.1)
  have h24 : 0 ≤ p1 ∧ p1 < z1 := (h7.2.1 (vc_X11_picked_4 h7.2.1 h7.2.2.1 h20 h3.1 hp1 h3.2 h23))
  have h25 : 0 ≤ p1 ∧ p1 ≤ 9 := (vc_X11_picked_5 h24 h3.1 h7.2.1 h7.2.2.1 hp1 h3.2 h23)
  have h26 : 1 ≤ z1 ∧ z1 ≤ 10 := (vc_X11_picked_6 h24 h3.1 h7.2.1 h7.2.2.1 h25 h3.2 h23)
  refine sv_aload_n (pc := 8) dX11_least_8 rfl rfl ?_
  refine gf_X11_8 (pc := 9) dX11_least_9 wF_X11_65 (A_0 hw) hT ?_
  refine mr_iload_n (pc := 12) (z := p1) dX11_least_12 rfl rfl ?_
  refine mr_cVI (pc := 13) (c_X2_leastTable hw hT h25 (vc_X11_picked_10 h3.1 h7.2.1 h7.2.2.1 h24 h20 h25 h26 h23)) (gOk _ _ _ _ _) dX11_least_13 (tX2_leastTable _ _ _ _ _) ⟨wV_X2_leastTable, wL_X2_leastTable⟩ wM_X11_385 (gCX2 _ _ _ _ _) rfl (A_87 hw) rfl ⟨le_t rfl, le_t rfl⟩ ⟨le_t rfl, le_t rfl⟩ rfl (le_t rfl) fun z31 μ27 T28 F29 h30 => ?_
  refine sv_goto (pc := 16) (tgt := 20) dX11_least_16 (by decide) ?_
  exact mr_iret dX11_least_20 rfl (le_t rfl) (le_t rfl) T28 (mF.call mF.refl F29 rfl) ⟨h30.1, trivial⟩
theorem vc_X10_tieBetween_end_9 {n0 p1 p2 z226 z233 : Int} (h0 : z226 < n0) (h1 : ¬ z226 = p1) (h2 : z226 = p2) (h3 : z233 < n0) (h4 : z233 = p1) (h5 : 0 ≤ p1 ∧ p1 ≤ 9) (h6 : 0 ≤ p2 ∧ p2 ≤ 9) (h7 : 0 ≤ z226 ∧ z226 ≤ 9) (h8 : 0 ≤ z233 ∧ z233 ≤ 9) : z226 = p1 ∨ z233 = p1 := by omega
theorem vc_X10_tieBetween_end_12 {n0 p1 p2 z226 z240 : Int} (h0 : z226 < n0) (h1 : z226 = p1) (h2 : z240 < n0) (h3 : z240 = p2) (h4 : 0 ≤ p1 ∧ p1 ≤ 9) (h5 : 0 ≤ p2 ∧ p2 ≤ 9) (h6 : 0 ≤ z226 ∧ z226 ≤ 9) (h7 : 0 ≤ z240 ∧ z240 ≤ 9) : z226 = p1 ∨ z240 = p1 := by omega
theorem vc_X10_tieBetween_end_14 {n0 p1 p2 z226 z240 : Int} (h0 : z226 < n0) (h1 : z226 = p1) (h2 : z240 < n0) (h3 : ¬ z240 = p2) (h4 : z226 = p2) (h5 : z240 = p1) (h6 : 0 ≤ p1 ∧ p1 ≤ 9) (h7 : 0 ≤ p2 ∧ p2 ≤ 9) (h8 : 0 ≤ z226 ∧ z226 ≤ 9) (h9 : 0 ≤ z240 ∧ z240 ≤ 9) : z226 = p1 ∨ z240 = p1 := by omega
set_option maxRecDepth 4000 in
set_option maxHeartbeats 4000000 in
theorem c_X10_tieBetween_end {l : Launch} {D : va_G} {c : Nat → ClassId} {H0 : Heap} {sa : Nat × Nat × (Nat → Int32)} {w : mW} {μ : mM} (hw : mWF w) (hT : mT w μ) {p1 : Int} (hp1 : (-2147483648) ≤ p1 ∧ p1 ≤ 2147483647) {p2 : Int} (hp2 : (-2147483648) ≤ p2 ∧ p2 ≤ 2147483647) : sC (gG l D c H0 sa) mX10_tieBetween 1 0 0 [.ref 6, iv p1, iv p2] (mk w μ) (qP w μ (fun z => ((-1) ≤ z ∧ z ≤ 19) ∧ (z < w.2.2.2 1) ∧ (z < 0 ∨ ∃ b : Nat, μ 11 z.toNat = (b : Int) ∧ (μ b 0 = p1 ∨ μ b 1 = p1)) ∧ True)) := by
  refine sC.of rfl (by decide) (le_t rfl) ?_
  refine mr_lvE (lv' := [(0, .ref 6), (1, iv p1), (2, iv p2)]) rfl ?_
  refine mr_iconst (pc := 0) (z := 0) dX10_tieBetween_0 ?_
  refine mr_istore_n (pc := 1) (lv' := [(3, iv 0), (0, .ref 6), (1, iv p1), (2, iv p2)]) dX10_tieBetween_1 rfl (by decide) rfl ?_
  have L210 : ∀ (nL210 : Nat) (z209 : Int), True → (0 ≤ z209 ∧ z209 ≤ 20) → (21 - z209) < (nL210 : Int) → sV (gG l D c H0 sa) mX10_tieBetween (sRm 1 0 0) (sZ (gG l D c H0 sa) 0 0 (qP w μ (fun z => ((-1) ≤ z ∧ z ≤ 19) ∧ (z < w.2.2.2 1) ∧ (z < 0 ∨ ∃ b : Nat, μ 11 z.toNat = (b : Int) ∧ (μ b 0 = p1 ∨ μ b 1 = p1)) ∧ True))) 2 [(0, .ref 6), (1, iv p1), (2, iv p2), (3, iv z209)] [] (mk w μ) 0 0 := by
    intro nL210
    induction nL210 with
    | zero => intro z209 _ h211 h215; exact ((vc_X12_feed_2 h215 h211)).elim
    | succ nL210 ih216 =>
      intro z209 _ h211 h215
      refine mr_iload_n (pc := 2) (z := z209) dX10_tieBetween_2 rfl rfl ?_
      refine sv_aload_n (pc := 3) dX10_tieBetween_3 rfl rfl ?_
      refine gf_X10_16 (pc := 4) dX10_tieBetween_4 wF_X10_72 (A_6 hw) hT fun z217 q218 h219 => ?_
      refine mr_icmp_ge (pc := 7) (tgt := 62) dX10_tieBetween_7 (by decide) (r32 h211 rfl) (r32 h219.2 rfl) (fun h220 => ?_) (fun h220 => ?_)
      · refine mr_iconst (pc := 62) (z := (-1)) dX10_tieBetween_62 ?_
        exact mr_iretP dX10_tieBetween_63 rfl (le_t rfl) (le_t rfl) ⟨(rW (c := (-1)) (d := 19) (rR (x := (-1))) rfl), (vc_X10_tieBetween_2 h219.1 h220 h211 h219.2), (Or.inl (by decide)), trivial⟩
      have h221 : 0 ≤ z209 ∧ z209 ≤ 19 := (vc_X10_tieBetween_3 h220 h219.1 h211 h219.2)
      have h222 : 1 ≤ z217 ∧ z217 ≤ 20 := (vc_X10_tieBetween_4 h220 h219.1 h221 h219.2)
      refine sv_aload_n (pc := 10) dX10_tieBetween_10 rfl rfl ?_
      refine gf_X10_4 (pc := 11) dX10_tieBetween_11 wF_X10_29 (A_6 hw) hT ?_
      refine mr_iload_n (pc := 14) (z := z209) dX10_tieBetween_14 rfl rfl ?_
      refine la_11 (pc := 15) dX10_tieBetween_15 (A_11 hw) hT (rIx (n := 20) h221 rfl) (vc_X10_tieBetween_5 h219.1 h220 h221 h222) fun b223 q224 A225 => ?_
      refine mr_astore (pc := 16) (lv' := [(4, .ref b223), (0, .ref 6), (1, iv p1), (2, iv p2), (3, iv z209)]) dX10_tieBetween_16 (by decide) rfl ?_
      refine sv_aload (pc := 18) dX10_tieBetween_18 rfl ?_
      refine gf_X9_0 (pc := 20) dX10_tieBetween_20 wF_X10_78 A225 hT fun z226 q227 h228 => ?_
      have h229 : 0 ≤ z226 ∧ z226 ≤ 9 := ⟨h228.1, h228.2.1⟩
      refine mr_iload_n (pc := 23) (z := p1) dX10_tieBetween_23 rfl rfl ?_
      refine mr_icmp_ne (pc := 24) (tgt := 36) dX10_tieBetween_24 (by decide) (r32 h229 rfl) hp1 (fun h230 => ?_) (fun h230 => ?_)
      · refine sv_aload (pc := 36) dX10_tieBetween_36 rfl ?_
        refine gk_X9_0 (pc := 38) dX10_tieBetween_38 wF_X10_78 A225 q227 ?_
        refine mr_iload_n (pc := 41) (z := p2) dX10_tieBetween_41 rfl rfl ?_
        refine mr_icmp_ne (pc := 42) (tgt := 56) dX10_tieBetween_42 (by decide) (r32 h229 rfl) hp2 (fun h231 => ?_) (fun h231 => ?_)
        · refine mr_iinc (pc := 56) (lv' := [(3, iv (z209 + 1)), (4, .ref b223), (0, .ref 6), (1, iv p1), (2, iv p2)]) dX10_tieBetween_56 rfl (by decide) rfl ?_
          refine sv_goto (pc := 59) (tgt := 2) dX10_tieBetween_59 (by decide) ?_
          refine mr_lvS (lv' := [(0, .ref 6), (1, iv p1), (2, iv p2), (3, iv (z209 + 1))]) (List.forall_mem_cons.mpr ⟨rfl, List.forall_mem_cons.mpr ⟨rfl, List.forall_mem_cons.mpr ⟨rfl, List.forall_mem_cons.mpr ⟨rfl, fun _ h => absurd h List.not_mem_nil⟩⟩⟩⟩) ?_
          exact ih216 (z209 + 1) trivial (rW (c := 0) (d := 20) (rAdd (e := 1) (f := 20) h221 (rR (x := 1)) rfl) rfl) (vc_X10_tieBetween_6 (nS h215) h220 h219.1 h221 h222)
        have h232 : 0 ≤ p2 ∧ p2 ≤ 9 := (vc_X10_tieBetween_7 h231 h228.2.2 h230 hp1 hp2 h229)
        refine sv_aload (pc := 45) dX10_tieBetween_45 rfl ?_
        refine gf_X9_1 (pc := 47) dX10_tieBetween_47 wF_X10_81 A225 hT fun z233 q234 h235 => ?_
        have h236 : 0 ≤ z233 ∧ z233 ≤ 9 := ⟨h235.1, h235.2.1⟩
        refine mr_iload_n (pc := 50) (z := p1) dX10_tieBetween_50 rfl rfl ?_
        refine mr_icmp_ne (pc := 51) (tgt := 56) dX10_tieBetween_51 (by decide) (r32 h236 rfl) hp1 (fun h237 => ?_) (fun h237 => ?_)
        · refine mr_iinc (pc := 56) (lv' := [(3, iv (z209 + 1)), (4, .ref b223), (0, .ref 6), (1, iv p1), (2, iv p2)]) dX10_tieBetween_56 rfl (by decide) rfl ?_
          refine sv_goto (pc := 59) (tgt := 2) dX10_tieBetween_59 (by decide) ?_
          refine mr_lvS (lv' := [(0, .ref 6), (1, iv p1), (2, iv p2), (3, iv (z209 + 1))]) (List.forall_mem_cons.mpr ⟨rfl, List.forall_mem_cons.mpr ⟨rfl, List.forall_mem_cons.mpr ⟨rfl, List.forall_mem_cons.mpr ⟨rfl, fun _ h => absurd h List.not_mem_nil⟩⟩⟩⟩) ?_
          exact ih216 (z209 + 1) trivial (rW (c := 0) (d := 20) (rAdd (e := 1) (f := 20) h221 (rR (x := 1)) rfl) rfl) (vc_X10_tieBetween_6 (nS h215) h220 h219.1 h221 h222)
        have h238 : 0 ≤ p1 ∧ p1 ≤ 9 := (vc_X10_tieBetween_8 h237 h230 h235.2.2 hp1 h229 h236)
        refine mr_iload_n (pc := 54) (z := z209) dX10_tieBetween_54 rfl rfl ?_
        exact mr_iretP dX10_tieBetween_55 rfl (le_t rfl) (le_t rfl) ⟨(rW (c := (-1)) (d := 19) h221 rfl), (vc_X10_tieBetween_5 h219.1 h220 h221 h222), (Or.inr ⟨b223, q224, by rw [q227, q234]; exact (vc_X10_tieBetween_end_9 h228.2.2 h230 h231 h235.2.2 h237 h238 h232 h229 h236)⟩), trivial⟩
      have h239 : 0 ≤ p1 ∧ p1 ≤ 9 := (vc_X10_tieBetween_9 h230 h228.2.2 hp1 h229)
      refine sv_aload (pc := 27) dX10_tieBetween_27 rfl ?_
      refine gf_X9_1 (pc := 29) dX10_tieBetween_29 wF_X10_81 A225 hT fun z240 q241 h242 => ?_
      have h243 : 0 ≤ z240 ∧ z240 ≤ 9 := ⟨h242.1, h242.2.1⟩
      refine mr_iload_n (pc := 32) (z := p2) dX10_tieBetween_32 rfl rfl ?_
      refine mr_icmp_eq (pc := 33) (tgt := 54) dX10_tieBetween_33 (by decide) (r32 h243 rfl) hp2 (fun h244 => ?_) (fun h244 => ?_)
      · have h245 : 0 ≤ p2 ∧ p2 ≤ 9 := (vc_X10_tieBetween_9 h244 h242.2.2 hp2 h243)
        refine mr_iload_n (pc := 54) (z := z209) dX10_tieBetween_54 rfl rfl ?_
        exact mr_iretP dX10_tieBetween_55 rfl (le_t rfl) (le_t rfl) ⟨(rW (c := (-1)) (d := 19) h221 rfl), (vc_X10_tieBetween_5 h219.1 h220 h221 h222), (Or.inr ⟨b223, q224, by rw [q227, q241]; exact (vc_X10_tieBetween_end_12 h228.2.2 h230 h242.2.2 h244 h239 h245 h229 h243)⟩), trivial⟩
      refine sv_aload (pc := 36) dX10_tieBetween_36 rfl ?_
      refine gk_X9_0 (pc := 38) dX10_tieBetween_38 wF_X10_78 A225 q227 ?_
      refine mr_iload_n (pc := 41) (z := p2) dX10_tieBetween_41 rfl rfl ?_
      refine mr_icmp_ne (pc := 42) (tgt := 56) dX10_tieBetween_42 (by decide) (r32 h229 rfl) hp2 (fun h246 => ?_) (fun h246 => ?_)
      · refine mr_iinc (pc := 56) (lv' := [(3, iv (z209 + 1)), (4, .ref b223), (0, .ref 6), (1, iv p1), (2, iv p2)]) dX10_tieBetween_56 rfl (by decide) rfl ?_
        refine sv_goto (pc := 59) (tgt := 2) dX10_tieBetween_59 (by decide) ?_
        refine mr_lvS (lv' := [(0, .ref 6), (1, iv p1), (2, iv p2), (3, iv (z209 + 1))]) (List.forall_mem_cons.mpr ⟨rfl, List.forall_mem_cons.mpr ⟨rfl, List.forall_mem_cons.mpr ⟨rfl, List.forall_mem_cons.mpr ⟨rfl, fun _ h => absurd h List.not_mem_nil⟩⟩⟩⟩) ?_
        exact ih216 (z209 + 1) trivial (rW (c := 0) (d := 20) (rAdd (e := 1) (f := 20) h221 (rR (x := 1)) rfl) rfl) (vc_X10_tieBetween_6 (nS h215) h220 h219.1 h221 h222)
      have h247 : 0 ≤ p2 ∧ p2 ≤ 9 := (vc_X10_tieBetween_11 h246 h228.2.2 h230 h244 h239 hp2 h229 h243)
      refine sv_aload (pc := 45) dX10_tieBetween_45 rfl ?_
      refine gk_X9_1 (pc := 47) dX10_tieBetween_47 wF_X10_81 A225 q241 ?_
      refine mr_iload_n (pc := 50) (z := p1) dX10_tieBetween_50 rfl rfl ?_
      refine mr_icmp_ne (pc := 51) (tgt := 56) dX10_tieBetween_51 (by decide) (r32 h243 rfl) (r32 h239 rfl) (fun h248 => ?_) (fun h248 => ?_)
      · refine mr_iinc (pc := 56) (lv' := [(3, iv (z209 + 1)), (4, .ref b223), (0, .ref 6), (1, iv p1), (2, iv p2)]) dX10_tieBetween_56 rfl (by decide) rfl ?_
        refine sv_goto (pc := 59) (tgt := 2) dX10_tieBetween_59 (by decide) ?_
        refine mr_lvS (lv' := [(0, .ref 6), (1, iv p1), (2, iv p2), (3, iv (z209 + 1))]) (List.forall_mem_cons.mpr ⟨rfl, List.forall_mem_cons.mpr ⟨rfl, List.forall_mem_cons.mpr ⟨rfl, List.forall_mem_cons.mpr ⟨rfl, fun _ h => absurd h List.not_mem_nil⟩⟩⟩⟩) ?_
        exact ih216 (z209 + 1) trivial (rW (c := 0) (d := 20) (rAdd (e := 1) (f := 20) h221 (rR (x := 1)) rfl) rfl) (vc_X10_tieBetween_6 (nS h215) h220 h219.1 h221 h222)
      refine mr_iload_n (pc := 54) (z := z209) dX10_tieBetween_54 rfl rfl ?_
      exact mr_iretP dX10_tieBetween_55 rfl (le_t rfl) (le_t rfl) ⟨(rW (c := (-1)) (d := 19) h221 rfl), (vc_X10_tieBetween_5 h219.1 h220 h221 h222), (Or.inr ⟨b223, q224, by rw [q227, q241]; exact (vc_X10_tieBetween_end_14 h228.2.2 h230 h242.2.2 h244 h246 h248 h239 h247 h229 h243)⟩), trivial⟩
  refine mr_lvS (lv' := [(0, .ref 6), (1, iv p1), (2, iv p2), (3, iv 0)]) (List.forall_mem_cons.mpr ⟨rfl, List.forall_mem_cons.mpr ⟨rfl, List.forall_mem_cons.mpr ⟨rfl, List.forall_mem_cons.mpr ⟨rfl, fun _ h => absurd h List.not_mem_nil⟩⟩⟩⟩) ?_
  exact L210 22 0 trivial (rW (c := 0) (d := 20) (rR (x := 0)) rfl) vc_X12_feed_15
theorem vc_X9_sideOf_e_1 {n0 p1 z1 z5 : Int} (h0 : ¬ p1 = z5) (h1 : z5 < n0) (h2 : z1 = p1 ∨ z5 = p1) (h3 : ¬ p1 = z1) (h4 : z1 < n0) (h5 : (-2147483648) ≤ p1 ∧ p1 ≤ 2147483647) (h6 : 0 ≤ z1 ∧ z1 ≤ 9) (h7 : 0 ≤ z5 ∧ z5 ≤ 9) : False := by omega
theorem vc_X9_sideOf_e_2 {n0 p1 z1 z5 : Int} (h0 : p1 = z5) (h1 : z5 < n0) (h2 : z1 = p1 ∨ z5 = p1) (h3 : ¬ p1 = z1) (h4 : (-2147483648) ≤ p1 ∧ p1 ≤ 2147483647) (h5 : 0 ≤ z1 ∧ z1 ≤ 9) (h6 : 0 ≤ z5 ∧ z5 ≤ 9) : 0 ≤ p1 ∧ p1 ≤ 9 := by omega
theorem vc_X9_sideOf_e_3 {n0 p1 z1 z5 : Int} (h0 : p1 = z1) (h1 : z1 < n0) (h2 : z1 = p1 ∨ z5 = p1) (h3 : (-2147483648) ≤ p1 ∧ p1 ≤ 2147483647) (h4 : 0 ≤ z1 ∧ z1 ≤ 9) (h5 : 0 ≤ z5 ∧ z5 ≤ 9) : 0 ≤ p1 ∧ p1 ≤ 9 := by omega
set_option maxRecDepth 4000 in
set_option maxHeartbeats 4000000 in
theorem c_X9_sideOf_e {l : Launch} {D : va_G} {c : Nat → ClassId} {H0 : Heap} {sa : Nat × Nat × (Nat → Int32)} {w : mW} {μ : mM} (hw : mWF w) (hT : mT w μ) {a0 : Nat} (hA0 : mAt w a0 220) {p1 : Int} (hp1 : (-2147483648) ≤ p1 ∧ p1 ≤ 2147483647) (hend : μ a0 0 = p1 ∨ μ a0 1 = p1) : sC (gG l D c H0 sa) mX9_sideOf 1 0 0 [.ref a0, iv p1] (mk w μ) (qP w μ (fun z => (0 ≤ z ∧ z ≤ 1) ∧ True)) := by
  refine sC.of rfl (by decide) (le_t rfl) ?_
  obtain ⟨z1, q2⟩ : ∃ z, μ a0 0 = z := ⟨_, rfl⟩
  have h3 : (0 ≤ z1 ∧ z1 ≤ 9 ∧ z1 < w.2.2.2 0) := by rw [← q2]; exact hT a0 220 hA0 0
  have h4 : 0 ≤ z1 ∧ z1 ≤ 9 := ⟨h3.1, h3.2.1⟩
  obtain ⟨z5, q6⟩ : ∃ z, μ a0 1 = z := ⟨_, rfl⟩
  have h7 : (0 ≤ z5 ∧ z5 ≤ 9 ∧ z5 < w.2.2.2 0) := by rw [← q6]; exact hT a0 220 hA0 1
  have h8 : 0 ≤ z5 ∧ z5 ≤ 9 := ⟨h7.1, h7.2.1⟩
  refine mr_lvE (lv' := [(0, .ref a0), (1, iv p1)]) rfl ?_
  have h18 : z1 = p1 ∨ z5 = p1 := by have h := hend; rw [q2, q6] at h; exact h
  refine mr_iload_n (pc := 0) (z := p1) dX9_sideOf_0 rfl rfl ?_
  refine sv_aload_n (pc := 1) dX9_sideOf_1 rfl rfl ?_
  refine gk_X9_0 (pc := 2) dX9_sideOf_2 wF_X9_9 hA0 q2 ?_
  refine mr_icmp_ne (pc := 5) (tgt := 10) dX9_sideOf_5 (by decide) hp1 (r32 h4 rfl) (fun h19 => ?_) (fun h19 => ?_)
  · refine mr_iload_n (pc := 10) (z := p1) dX9_sideOf_10 rfl rfl ?_
    refine sv_aload_n (pc := 11) dX9_sideOf_11 rfl rfl ?_
    refine gk_X9_1 (pc := 12) dX9_sideOf_12 wF_X9_15 hA0 q6 ?_
    refine mr_icmp_ne (pc := 15) (tgt := 22) dX9_sideOf_15 (by decide) hp1 (r32 h8 rfl) (fun h => ((vc_X9_sideOf_e_1 h h7.2.2 h18 h19 h3.2.2 hp1 h4 h8)).elim) (fun h20 => ?_)
    have h21 : 0 ≤ p1 ∧ p1 ≤ 9 := (vc_X9_sideOf_e_2 h20 h7.2.2 h18 h19 hp1 h4 h8)
    refine mr_iconst (pc := 18) (z := 1) dX9_sideOf_18 ?_
    refine sv_goto (pc := 19) (tgt := 23) dX9_sideOf_19 (by decide) ?_
    exact mr_iretP dX9_sideOf_23 rfl (le_t rfl) (le_t rfl) ⟨(rW (c := 0) (d := 1) (rR (x := 1)) rfl), trivial⟩
  have h22 : 0 ≤ p1 ∧ p1 ≤ 9 := (vc_X9_sideOf_e_3 h19 h3.2.2 h18 hp1 h4 h8)
  refine mr_iconst (pc := 8) (z := 0) dX9_sideOf_8 ?_
  exact mr_iretP dX9_sideOf_9 rfl (le_t rfl) (le_t rfl) ⟨(rW (c := 0) (d := 1) (rR (x := 0)) rfl), trivial⟩
theorem vc_X11_judge_11 {n0 p2 p3 z10 z17 z28 : Int} (h0 : (z28 = 1 → 0 ≤ p3 ∧ p3 < z10)) (h1 : (z28 = 0 → p3 < 0 ∨ z10 ≤ p3)) (h2 : ¬ z28 = 0) (h3 : z10 = n0) (h4 : (z17 = 1 → 0 ≤ p2 ∧ p2 < z10)) (h5 : (z17 = 0 → p2 < 0 ∨ z10 ≤ p2)) (h6 : 0 ≤ p2 ∧ p2 < z10) (h7 : 0 ≤ p2 ∧ p2 ≤ 9) (h8 : (-2147483648) ≤ p3 ∧ p3 ≤ 2147483647) (h9 : 0 ≤ z10 ∧ z10 ≤ 10) (h10 : 1 ≤ z17 ∧ z17 ≤ 1) (h11 : 1 ≤ z28 ∧ z28 ≤ 1) : z28 = 1 := by omega
theorem vc_X11_judge_12 {n0 p2 p3 z10 z17 z28 : Int} (h0 : 0 ≤ p3 ∧ p3 < z10) (h1 : z10 = n0) (h2 : (z17 = 1 → 0 ≤ p2 ∧ p2 < z10)) (h3 : (z17 = 0 → p2 < 0 ∨ z10 ≤ p2)) (h4 : 0 ≤ p2 ∧ p2 < z10) (h5 : (z28 = 1 → 0 ≤ p3 ∧ p3 < z10)) (h6 : (z28 = 0 → p3 < 0 ∨ z10 ≤ p3)) (h7 : 0 ≤ p2 ∧ p2 ≤ 9) (h8 : (-2147483648) ≤ p3 ∧ p3 ≤ 2147483647) (h9 : 0 ≤ z10 ∧ z10 ≤ 10) (h10 : 1 ≤ z17 ∧ z17 ≤ 1) (h11 : 1 ≤ z28 ∧ z28 ≤ 1) : 0 ≤ p3 ∧ p3 ≤ 9 := by omega
theorem vc_X11_judge_13 {n0 p2 p3 z10 z17 z28 : Int} (h0 : 0 ≤ p3 ∧ p3 < z10) (h1 : z10 = n0) (h2 : (z17 = 1 → 0 ≤ p2 ∧ p2 < z10)) (h3 : (z17 = 0 → p2 < 0 ∨ z10 ≤ p2)) (h4 : 0 ≤ p2 ∧ p2 < z10) (h5 : (z28 = 1 → 0 ≤ p3 ∧ p3 < z10)) (h6 : (z28 = 0 → p3 < 0 ∨ z10 ≤ p3)) (h7 : 0 ≤ p2 ∧ p2 ≤ 9) (h8 : 0 ≤ p3 ∧ p3 ≤ 9) (h9 : 0 ≤ z10 ∧ z10 ≤ 10) (h10 : 1 ≤ z17 ∧ z17 ≤ 1) (h11 : 1 ≤ z28 ∧ z28 ≤ 1) : 1 ≤ z10 ∧ z10 ≤ 10 := by omega
theorem vc_X11_judge_17 {n1 z38 : Int} (h0 : z38 < n1) (h1 : 0 ≤ z38) (h2 : 0 ≤ z38 ∧ z38 ≤ 19) : ¬ z38 < 0 := by omega
theorem vc_X11_judge_23 {n0 p2 p3 z10 z17 z28 : Int} (h0 : (z28 = 1 → 0 ≤ p3 ∧ p3 < z10)) (h1 : (z28 = 0 → p3 < 0 ∨ z10 ≤ p3)) (h2 : z28 = 0) (h3 : z10 = n0) (h4 : (z17 = 1 → 0 ≤ p2 ∧ p2 < z10)) (h5 : (z17 = 0 → p2 < 0 ∨ z10 ≤ p2)) (h6 : 0 ≤ p2 ∧ p2 < z10) (h7 : 0 ≤ p2 ∧ p2 ≤ 9) (h8 : (-2147483648) ≤ p3 ∧ p3 ≤ 2147483647) (h9 : 0 ≤ z10 ∧ z10 ≤ 10) (h10 : 1 ≤ z17 ∧ z17 ≤ 1) (h11 : 0 ≤ z28 ∧ z28 ≤ 0) : z28 = 0 := by omega
set_option maxRecDepth 4000 in
set_option maxHeartbeats 4000000 in
theorem c_X11_judge {l : Launch} {D : va_G} {c : Nat → ClassId} {H0 : Heap} {sa : Nat × Nat × (Nat → Int32)} {w : mW} {μ : mM} (hw : mWF w) (hT : mT w μ) {p1 : Int} (hp1 : (-2147483648) ≤ p1 ∧ p1 ≤ 2147483647) {p2 : Int} (hp2 : (-2147483648) ≤ p2 ∧ p2 ≤ 2147483647) {p3 : Int} (hp3 : (-2147483648) ≤ p3 ∧ p3 ≤ 2147483647) (hIPC : PC w μ) : sC (gG l D c H0 sa) mX11_judge 41 0 0 [.ref 0, iv p1, iv p2, iv p3] (mk w μ) (qI w [21002, 21003, 21004, 21005, 21006, 21007, 200004, 200006, 200007, 200008, 201999, 202999] μ (fun z μ1 => ((-2147483648) ≤ z ∧ z ≤ 2147483647) ∧ True)) := by
  refine sC.of rfl (by decide) (le_t rfl) ?_
  refine mr_lvE (lv' := [(0, .ref 0), (1, iv p1), (2, iv p2), (3, iv p3)]) rfl ?_
  refine mr_iload_n (pc := 0) (z := p1) dX11_judge_0 rfl rfl ?_
  refine mr_if_lt (pc := 1) (tgt := 31) dX11_judge_1 (by decide) hp1 (fun h1 => ?_) (fun h1 => ?_)
  · have h2 : (-2147483648) ≤ p1 ∧ p1 ≤ (-1) := (vc_X12_cut_1 h1 hp1)
    refine mr_iconst (pc := 31) (z := (-1)) dX11_judge_31 ?_
    exact mr_iret dX11_judge_32 rfl (le_t rfl) (le_t rfl) hT mF.refl ⟨(rW (c := (-2147483648)) (d := 2147483647) (rR (x := (-1))) rfl), trivial⟩
  have h3 : 0 ≤ p1 ∧ p1 ≤ 2147483647 := (vc_X12_cut_2 h1 hp1)
  refine mr_iload_n (pc := 4) (z := p1) dX11_judge_4 rfl rfl ?_
  refine sv_aload_n (pc := 5) dX11_judge_5 rfl rfl ?_
  refine gf_X11_4 (pc := 6) dX11_judge_6 wF_X11_35 (A_0 hw) hT ?_
  refine gf_X1_8 (pc := 9) dX11_judge_9 wF_X11_205 (A_21 hw) hT fun z4 q5 h6 => ?_
  refine mr_icmp_ge (pc := 12) (tgt := 31) dX11_judge_12 (by decide) (r32 h3 rfl) (r32 h6.2 rfl) (fun h7 => ?_) (fun h7 => ?_)
  · refine mr_iconst (pc := 31) (z := (-1)) dX11_judge_31 ?_
    exact mr_iret dX11_judge_32 rfl (le_t rfl) (le_t rfl) hT mF.refl ⟨(rW (c := (-2147483648)) (d := 2147483647) (rR (x := (-1))) rfl), trivial⟩
  have h8 : 0 ≤ p1 ∧ p1 ≤ 11 := (vc_X1_goThrough_13_3 h7 h1 h6.1 h3 h6.2)
  have h9 : 1 ≤ z4 ∧ z4 ≤ 12 := (vc_X1_goThrough_13_4 h7 h1 h6.1 h8 h6.2)
  refine sv_aload_n (pc := 15) dX11_judge_15 rfl rfl ?_
  refine mr_iload_n (pc := 16) (z := p2) dX11_judge_16 rfl rfl ?_
  obtain ⟨z10, q11⟩ : ∃ z, μ 6 15 = z := ⟨_, rfl⟩
  have h12 : (z10 = w.2.2.2 0 ∧ 0 ≤ z10 ∧ z10 ≤ 10) := by rw [← q11]; exact hT 6 6 (A_6 hw) 15
  refine mr_cVP (pc := 17) (c_X11_isDomain hw hT hp2 q11) (gOk _ _ _ _ _) dX11_judge_17 (tX11_isDomain _ _ _ _ _) ⟨wV_X11_isDomain, wL_X11_isDomain⟩ wM_X11_105 (gCX11 _ _ _ _ _) rfl (A_0 hw) rfl ⟨le_t rfl, le_t rfl⟩ ⟨le_t rfl, le_t rfl⟩ rfl (le_t rfl) fun z17 h16 => ?_
  refine mr_if_eq (pc := 20) (tgt := 31) dX11_judge_20 (by decide) (r32 h16.1 rfl) (fun h18 => ?_) (fun h18 => ?_)
  · have h19 : 0 ≤ z17 ∧ z17 ≤ 0 := (vc_X12_write_78 h18 h16.2.1 h16.2.2.1 hp2 h12.2 h16.1)
    have h20 : p2 < 0 ∨ z10 ≤ p2 := (h16.2.2.1 (vc_X11_picked_2 h16.2.1 h16.2.2.1 h18 h12.1 hp2 h12.2 h19))
    refine mr_iconst (pc := 31) (z := (-1)) dX11_judge_31 ?_
    exact mr_iret dX11_judge_32 rfl (le_t rfl) (le_t rfl) hT mF.refl ⟨(rW (c := (-2147483648)) (d := 2147483647) (rR (x := (-1))) rfl), trivial⟩
  have h21 : 1 ≤ z17 ∧ z17 ≤ 1 := (vc_X12_write_12 h18 h16.2.1 h16.2.2.1 hp2 h12.2 h16.1)
  have h22 : 0 ≤ p2 ∧ p2 < z10 := (h16.2.1 (vc_X11_picked_4 h16.2.1 h16.2.2.1 h18 h12.1 hp2 h12.2 h21))
  have h23 : 0 ≤ p2 ∧ p2 ≤ 9 := (vc_X11_picked_5 h22 h12.1 h16.2.1 h16.2.2.1 hp2 h12.2 h21)
  refine sv_aload_n (pc := 23) dX11_judge_23 rfl rfl ?_
  refine mr_iload_n (pc := 24) (z := p3) dX11_judge_24 rfl rfl ?_
  refine mr_cVP (pc := 25) (c_X11_isDomain hw hT hp3 q11) (gOk _ _ _ _ _) dX11_judge_25 (tX11_isDomain _ _ _ _ _) ⟨wV_X11_isDomain, wL_X11_isDomain⟩ wM_X11_105 (gCX11 _ _ _ _ _) rfl (A_0 hw) rfl ⟨le_t rfl, le_t rfl⟩ ⟨le_t rfl, le_t rfl⟩ rfl (le_t rfl) fun z28 h27 => ?_
  refine mr_if_ne (pc := 28) (tgt := 33) dX11_judge_28 (by decide) (r32 h27.1 rfl) (fun h29 => ?_) (fun h29 => ?_)
  · have h30 : 1 ≤ z28 ∧ z28 ≤ 1 := (vc_X12_write_12 h29 h27.2.1 h27.2.2.1 hp3 h12.2 h27.1)
    have h31 : 0 ≤ p3 ∧ p3 < z10 := (h27.2.1 (vc_X11_judge_11 h27.2.1 h27.2.2.1 h29 h12.1 h16.2.1 h16.2.2.1 h22 h23 hp3 h12.2 h21 h30))
    have h32 : 0 ≤ p3 ∧ p3 ≤ 9 := (vc_X11_judge_12 h31 h12.1 h16.2.1 h16.2.2.1 h22 h27.2.1 h27.2.2.1 h23 hp3 h12.2 h21 h30)
    have h33 : 1 ≤ z10 ∧ z10 ≤ 10 := (vc_X11_judge_13 h31 h12.1 h16.2.1 h16.2.2.1 h22 h27.2.1 h27.2.2.1 h23 h32 h12.2 h21 h30)
    refine sv_aload_n (pc := 33) dX11_judge_33 rfl rfl ?_
    refine gf_X11_3 (pc := 34) dX11_judge_34 wF_X11_26 (A_0 hw) hT ?_
    refine mr_iload_n (pc := 37) (z := p2) dX11_judge_37 rfl rfl ?_
    refine mr_iload_n (pc := 38) (z := p3) dX11_judge_38 rfl rfl ?_
    refine mr_cVP (pc := 39) (c_X10_tieBetween_end hw hT (rW (c := (-2147483648)) (d := 2147483647) h23 rfl) (rW (c := (-2147483648)) (d := 2147483647) h32 rfl)) (gOk _ _ _ _ _) dX11_judge_39 (tX10_tieBetween _ _ _ _ _) ⟨wV_X10_tieBetween, wL_X10_tieBetween⟩ wM_X11_109 (gCX10 _ _ _ _ _) rfl (A_6 hw) rfl ⟨le_t rfl, le_t rfl⟩ ⟨le_t rfl, le_t rfl⟩ rfl (le_t rfl) fun z38 h37 => ?_
    refine mr_istore (pc := 42) (lv' := [(4, iv z38), (0, .ref 0), (1, iv p1), (2, iv p2), (3, iv p3)]) dX11_judge_42 (by decide) rfl ?_
    refine mr_iload (pc := 44) (z := z38) dX11_judge_44 rfl ?_
    refine mr_if_ge (pc := 46) (tgt := 51) dX11_judge_46 (by decide) (r32 h37.1 rfl) (fun h39 => ?_) (fun h39 => ?_)
    · have h40 : 0 ≤ z38 ∧ z38 ≤ 19 := (vc_X10_firstWrongStep_4 h39 h37.2.1 h37.1)
      refine sv_aload_n (pc := 51) dX11_judge_51 rfl rfl ?_
      refine gf_X11_2 (pc := 52) dX11_judge_52 wF_X11_19 (A_0 hw) hT ?_
      refine gf_X7_2 (pc := 55) dX11_judge_55 wF_X11_246 (A_3 hw) hT fun z41 q42 h43 => ?_
      refine mr_if_ne (pc := 58) (tgt := 64) dX11_judge_58 (by decide) (r32 h43 rfl) (fun h44 => ?_) (fun h44 => ?_)
      · have h45 : 1 ≤ z41 ∧ z41 ≤ 1 := (vc_X12_ring_24 h44 h43)
        refine sv_aload_n (pc := 64) dX11_judge_64 rfl rfl ?_
        refine gf_X11_3 (pc := 65) dX11_judge_65 wF_X11_26 (A_0 hw) hT ?_
        refine gf_X10_4 (pc := 68) dX11_judge_68 wF_X11_122 (A_6 hw) hT ?_
        refine mr_iload (pc := 71) (z := z38) dX11_judge_71 rfl ?_
        refine la_11 (pc := 73) dX11_judge_73 (A_11 hw) hT (rIx (n := 20) h40 rfl) (vc_X10_firstWrongStep_5 h37.2.1 h39 h40) fun b46 q47 A48 => ?_
        have H49 : μ b46 0 = p2 ∨ μ b46 1 = p2 := tieEnd (h37.2.2.1) (vc_X11_judge_17 h37.2.1 h39 h40) q47
        refine mr_astore (pc := 74) (lv' := [(5, .ref b46), (4, iv z38), (0, .ref 0), (1, iv p1), (2, iv p2), (3, iv p3)]) dX11_judge_74 (by decide) rfl ?_
        refine sv_aload_n (pc := 76) dX11_judge_76 rfl rfl ?_
        refine gf_X11_4 (pc := 77) dX11_judge_77 wF_X11_35 (A_0 hw) hT ?_
        refine mr_iload_n (pc := 80) (z := p1) dX11_judge_80 rfl rfl ?_
        refine sv_aload_n (pc := 81) dX11_judge_81 rfl rfl ?_
        refine gf_X11_2 (pc := 82) dX11_judge_82 wF_X11_19 (A_0 hw) hT ?_
        refine sv_aload (pc := 85) dX11_judge_85 rfl ?_
        refine sv_aload (pc := 87) dX11_judge_87 rfl ?_
        refine mr_iload_n (pc := 89) (z := p2) dX11_judge_89 rfl rfl ?_
        refine mr_cVP (pc := 90) (c_X9_sideOf_e hw hT A48 (rW (c := (-2147483648)) (d := 2147483647) h23 rfl) H49) (gOk _ _ _ _ _) dX11_judge_90 (tX9_sideOf _ _ _ _ _) ⟨wV_X9_sideOf, wL_X9_sideOf⟩ wM_X11_249 (gCX9 _ _ _ _ _) rfl A48 rfl ⟨le_t rfl, le_t rfl⟩ ⟨le_t rfl, le_t rfl⟩ rfl (le_t rfl) fun z54 h53 => ?_
        refine mr_cVI (pc := 93) (c_X1_lets hw hT (rW (c := (-2147483648)) (d := 2147483647) h8 rfl) (A_3 hw) A48 h53.1 hIPC) (gOk _ _ _ _ _) dX11_judge_93 (tX1_lets _ _ _ _ _) ⟨wV_X1_lets, wL_X1_lets⟩ wM_X11_252 (gCX1 _ _ _ _ _) rfl (A_21 hw) rfl ⟨le_t rfl, le_t rfl⟩ ⟨le_t rfl, le_t rfl⟩ rfl (le_t rfl) fun z59 μ55 T56 F57 h58 => ?_
        refine mr_if_eq (pc := 96) (tgt := 103) dX11_judge_96 (by decide) (r32 h58.1 rfl) (fun h62 => ?_) (fun h62 => ?_)
        · have h63 : 0 ≤ z59 ∧ z59 ≤ 0 := (vc_X12_ring_22 h62 h58.1)
          refine mr_iconst (pc := 103) (z := 0) dX11_judge_103 ?_
          exact mr_iret dX11_judge_104 rfl (le_t rfl) (le_t rfl) T56 (mF.call mF.refl F57 rfl) ⟨(rW (c := (-2147483648)) (d := 2147483647) (rR (x := 0)) rfl), trivial⟩
        have h64 : 1 ≤ z59 ∧ z59 ≤ 1 := (vc_X12_ring_24 h62 h58.1)
        refine mr_iconst (pc := 99) (z := 1) dX11_judge_99 ?_
        refine sv_goto (pc := 100) (tgt := 104) dX11_judge_100 (by decide) ?_
        exact mr_iret dX11_judge_104 rfl (le_t rfl) (le_t rfl) T56 (mF.call mF.refl F57 rfl) ⟨(rW (c := (-2147483648)) (d := 2147483647) (rR (x := 1)) rfl), trivial⟩
      have h65 : 0 ≤ z41 ∧ z41 ≤ 0 := (vc_X12_ring_22 h44 h43)
      refine mr_bipush (pc := 61) (z := (-2)) dX11_judge_61 (by decide) ?_
      exact mr_iret dX11_judge_63 rfl (le_t rfl) (le_t rfl) hT mF.refl ⟨(rW (c := (-2147483648)) (d := 2147483647) (rR (x := (-2))) rfl), trivial⟩
    have h66 : (-1) ≤ z38 ∧ z38 ≤ (-1) := (vc_X10_firstWrongStep_18 h39 h37.2.1 h37.1)
    refine mr_iconst (pc := 49) (z := (-1)) dX11_judge_49 ?_
    exact mr_iret dX11_judge_50 rfl (le_t rfl) (le_t rfl) hT mF.refl ⟨(rW (c := (-2147483648)) (d := 2147483647) (rR (x := (-1))) rfl), trivial⟩
  have h67 : 0 ≤ z28 ∧ z28 ≤ 0 := (vc_X12_write_78 h29 h27.2.1 h27.2.2.1 hp3 h12.2 h27.1)
  have h68 : p3 < 0 ∨ z10 ≤ p3 := (h27.2.2.1 (vc_X11_judge_23 h27.2.1 h27.2.2.1 h29 h12.1 h16.2.1 h16.2.2.1 h22 h23 hp3 h12.2 h21 h67))
  refine mr_iconst (pc := 31) (z := (-1)) dX11_judge_31 ?_
  exact mr_iret dX11_judge_32 rfl (le_t rfl) (le_t rfl) hT mF.refl ⟨(rW (c := (-2147483648)) (d := 2147483647) (rR (x := (-1))) rfl), trivial⟩
end
section
/-! Nets: a state as a number of figures; queues without repeats. -/
theorem digT {W b K N s d t : Int} (hW : 0 < W) (hb : 0 < b) (hN : N = W * b * K) (hs : 0 ≤ s ∧ s < N) (hd : d = s / W % b) (ht : 0 ≤ t ∧ t < b) : 0 ≤ s + (t - d) * W ∧ s + (t - d) * W < N := by
  have h1 : s = W * (s / W) + s % W := (Int.mul_ediv_add_emod s W).symm
  have h2 : s / W = b * (s / W / b) + s / W % b := (Int.mul_ediv_add_emod (s / W) b).symm
  have r0 := Int.emod_nonneg s (show W ≠ 0 by omega)
  have r1 := Int.emod_lt_of_pos s hW
  have q0 : 0 ≤ s / W := Int.ediv_nonneg hs.1 (by omega)
  have p0 : 0 ≤ s / W / b := Int.ediv_nonneg q0 (by omega)
  have e : s + (t - d) * W = W * (b * (s / W / b) + t) + s % W := by
    rw [← hd] at h2
    have a1 : W * (s / W) = W * (b * (s / W / b)) + W * d := by
      have := congrArg (fun x => W * x) h2
      simp only [Int.mul_add] at this
      exact this
    have a2 : (t - d) * W = W * t - W * d := by rw [Int.mul_comm, Int.mul_sub]
    rw [Int.mul_add]
    omega
  have hp : s / W / b < K := by
    have e1 : s / W / b = s / (W * b) := Int.ediv_ediv_of_nonneg (by omega)
    rw [e1]
    refine Int.ediv_lt_of_lt_mul (Int.mul_pos hW hb) ?_
    rw [Int.mul_comm K (W * b), ← hN]; exact hs.2
  have hlow : 0 ≤ W * (b * (s / W / b) + t) := Int.mul_nonneg (by omega) (by have := Int.mul_nonneg (show 0 ≤ b by omega) p0; omega)
  have hup : W * (b * (s / W / b) + t) + W ≤ N := by
    have g1 : b * (s / W / b) + t + 1 ≤ b * (s / W / b + 1) := by rw [Int.mul_add]; omega
    have g2 : b * (s / W / b + 1) ≤ b * K := Int.mul_le_mul_of_nonneg_left (by omega) (by omega)
    have g3 : W * (b * (s / W / b) + t + 1) ≤ W * (b * K) := Int.mul_le_mul_of_nonneg_left (by omega) (by omega)
    rw [Int.mul_add W _ 1, Int.mul_one] at g3
    rw [hN, Int.mul_assoc]; exact g3
  rw [e]
  omega
theorem rMulS {x y m k e : Int} (hx : -m ≤ x ∧ x ≤ m) (hy : 0 ≤ y ∧ y ≤ k) (hm : 0 ≤ m) (he : m * k = e) : -e ≤ x * y ∧ x * y ≤ e := by
  have a1 : x * y ≤ m * y := Int.mul_le_mul_of_nonneg_right hx.2 hy.1
  have a2 : m * y ≤ m * k := Int.mul_le_mul_of_nonneg_left hy.2 hm
  have a3 : (-m) * y ≤ x * y := Int.mul_le_mul_of_nonneg_right hx.1 hy.1
  have a4 : (-m) * y = -(m * y) := Int.neg_mul m y
  omega
/-- the six places' weights: rows a (weights) and v (wishes), N states -/
def radx (μ : mM) (a v : Nat) (N : Int) (p : Nat) : Prop := 0 < μ a p ∧ ∃ K, N = μ a p * (μ v p + 1) * K
def radix (μ : mM) (a v : Nat) (N : Int) : Prop := radx μ a v N 1 ∧ radx μ a v N 2 ∧ radx μ a v N 3 ∧ radx μ a v N 4 ∧ radx μ a v N 5 ∧ radx μ a v N 6
theorem radix.mk {μ : mM} {a v : Nat} {v1 v2 v3 v4 v5 v6 w1 w2 w3 w4 w5 w6 N : Int} (qv1 : μ v 1 = v1) (qv2 : μ v 2 = v2) (qv3 : μ v 3 = v3) (qv4 : μ v 4 = v4) (qv5 : μ v 5 = v5) (qv6 : μ v 6 = v6) (q1 : μ a 1 = w1) (q2 : μ a 2 = w2) (q3 : μ a 3 = w3) (q4 : μ a 4 = w4) (q5 : μ a 5 = w5) (q6 : μ a 6 = w6) (p1 : 0 < w1) (p2 : 0 < w2) (p3 : 0 < w3) (p4 : 0 < w4) (p5 : 0 < w5) (p6 : 0 < w6) (e6 : w5 = w6 * (v6 + 1)) (e5 : w4 = w5 * (v5 + 1)) (e4 : w3 = w4 * (v4 + 1)) (e3 : w2 = w3 * (v3 + 1)) (e2 : w1 = w2 * (v2 + 1)) (e1 : N = w1 * (v1 + 1)) : radix μ a v N := by
  refine ⟨⟨by rw [q1]; exact p1, 1, ?_⟩, ⟨by rw [q2]; exact p2, v1 + 1, ?_⟩, ⟨by rw [q3]; exact p3, (v2 + 1) * (v1 + 1), ?_⟩, ⟨by rw [q4]; exact p4, (v3 + 1) * ((v2 + 1) * (v1 + 1)), ?_⟩, ⟨by rw [q5]; exact p5, (v4 + 1) * ((v3 + 1) * ((v2 + 1) * (v1 + 1))), ?_⟩, ⟨by rw [q6]; exact p6, (v5 + 1) * ((v4 + 1) * ((v3 + 1) * ((v2 + 1) * (v1 + 1)))), ?_⟩⟩
  · rw [q1, qv1, Int.mul_one]; exact e1
  · rw [q2, qv2, e1, e2]
  · rw [q3, qv3, e1, e2, e3]; simp only [Int.mul_assoc]
  · rw [q4, qv4, e1, e2, e3, e4]; simp only [Int.mul_assoc]
  · rw [q5, qv5, e1, e2, e3, e4, e5]; simp only [Int.mul_assoc]
  · rw [q6, qv6, e1, e2, e3, e4, e5, e6]; simp only [Int.mul_assoc]
theorem radix.at {μ : mM} {a v : Nat} {N p : Int} (h : radix μ a v N) (hp : 1 ≤ p ∧ p ≤ 6) : radx μ a v N p.toNat := by
  obtain ⟨h1, h2, h3, h4, h5, h6⟩ := h
  have : p = 1 ∨ p = 2 ∨ p = 3 ∨ p = 4 ∨ p = 5 ∨ p = 6 := by omega
  rcases this with e | e | e | e | e | e <;> subst e <;> assumption
theorem radix.keep {l : List Nat} {w : mW} {μ μ1 : mM} {a v sa sv : Nat} {N : Int} (h : radix μ a v N) (hF : mF l w μ μ1) (hA : mAt w a sa) (hV : mAt w v sv) (ha : ∀ i, l.elem (1000 * sa + (if mArr sa then 999 else i)) = false) (hv : ∀ i, l.elem (1000 * sv + (if mArr sv then 999 else i)) = false) : radix μ1 a v N := by
  have e1 : ∀ i, μ1 a i = μ a i := fun i => hF.f hA (ha i) rfl
  have e2 : ∀ i, μ1 v i = μ v i := fun i => hF.f hV (hv i) rfl
  unfold radix radx at h ⊢
  simp only [e1, e2]; exact h
def dig (μ : mM) (h a v : Nat) (s : Int) (p : Nat) : Prop := μ h p = s / μ a p % (μ v p + 1)
def digs (μ : mM) (h a v : Nat) (s : Int) : Prop := dig μ h a v s 1 ∧ dig μ h a v s 2 ∧ dig μ h a v s 3 ∧ dig μ h a v s 4 ∧ dig μ h a v s 5 ∧ dig μ h a v s 6
theorem dig.mk {μ : mM} {h a v p : Nat} {s z x y b : Int} (qh : μ h p = z) (qa : μ a p = x) (qv : μ v p = y) (e1 : s / x = b) (e2 : b % (y + 1) = z) : dig μ h a v s p := by
  unfold dig; rw [qh, qa, qv, e1, e2]
theorem digs.at {μ : mM} {h a v : Nat} {s p : Int} (g : digs μ h a v s) (hp : 1 ≤ p ∧ p ≤ 6) : dig μ h a v s p.toNat := by
  obtain ⟨h1, h2, h3, h4, h5, h6⟩ := g
  have : p = 1 ∨ p = 2 ∨ p = 3 ∨ p = 4 ∨ p = 5 ∨ p = 6 := by omega
  rcases this with e | e | e | e | e | e <;> subst e <;> assumption
theorem digs.keep {l : List Nat} {w : mW} {μ μ1 : mM} {h a v sh sa sv : Nat} {s : Int} (g : digs μ h a v s) (hF : mF l w μ μ1) (hH : mAt w h sh) (hA : mAt w a sa) (hV : mAt w v sv) (hh : ∀ i, l.elem (1000 * sh + (if mArr sh then 999 else i)) = false) (ha : ∀ i, l.elem (1000 * sa + (if mArr sa then 999 else i)) = false) (hv : ∀ i, l.elem (1000 * sv + (if mArr sv then 999 else i)) = false) : digs μ1 h a v s := by
  have e0 : ∀ i, μ1 h i = μ h i := fun i => hF.f hH (hh i) rfl
  have e1 : ∀ i, μ1 a i = μ a i := fun i => hF.f hA (ha i) rfl
  have e2 : ∀ i, μ1 v i = μ v i := fun i => hF.f hV (hv i) rfl
  unfold digs dig at g ⊢
  simp only [e0, e1, e2]; exact g
theorem net_t {μ : mM} {h a v : Nat} {N s p t x y z : Int} (hr : radix μ a v N) (hd : digs μ h a v s) (hp : 1 ≤ p ∧ p ≤ 6) (hs : 0 ≤ s ∧ s < N) (qa : μ a p.toNat = x) (qv : μ v p.toNat = y) (qh : μ h p.toNat = z) (hy : 0 ≤ y) (ht : 0 ≤ t ∧ t ≤ y) {e : Int} (he : (t - z) * x = e) : 0 ≤ s + e ∧ s + e < N := by
  obtain ⟨w0, K, hK⟩ := hr.at hp
  have d := hd.at hp
  unfold dig at d
  rw [qa] at w0
  rw [qa, qv] at hK
  rw [qa, qv, qh] at d
  rw [← he]
  exact digT w0 (by omega) hK hs d (by omega)
/-- a queue: its entries are states that were reached, none stands there twice -/
def quOK (μ : mM) (n N : Int) : Prop := (∀ i : Int, 0 ≤ i → i < n → 0 ≤ μ 190 i.toNat ∧ μ 190 i.toNat < N ∧ 0 ≤ μ 189 (μ 190 i.toNat).toNat ∧ μ 189 (μ 190 i.toNat).toNat ≤ i) ∧ dist μ 190 n
theorem quOK.pig {μ : mM} {n N : Int} (h : quOK μ n N) (hN : 0 ≤ N) : n ≤ N := by
  by_cases h0 : n ≤ 0
  · omega
  · have := pigeon N.toNat n.toNat (fun i => (μ 190 i).toNat) (fun i hi => by have := h.1 i (by omega) (by omega); have e : ((i : Int)).toNat = i := rfl; rw [e] at this; show (μ 190 i).toNat < N.toNat; omega) (fun i j hij hj => by
      have h1 := h.2 i j (by omega) (by omega) (by omega)
      have h2 := h.1 i (by omega) (by omega)
      have h3 := h.1 j (by omega) (by omega)
      have e1 : ((i : Int)).toNat = i := rfl
      have e2 : ((j : Int)).toNat = j := rfl
      rw [e1] at h1 h2
      rw [e2] at h1 h3
      show (μ 190 i).toNat ≠ (μ 190 j).toNat
      omega)
    omega
theorem quOK.rd {μ : mM} {n N i s v : Int} (h : quOK μ n N) (h0 : 0 ≤ i) (h1 : i < n) (q : μ 190 i.toNat = s) (qv : μ 189 s.toNat = v) : 0 ≤ v ∧ v ≤ i := by
  have := h.1 i h0 h1
  rw [q, qv] at this; exact this.2.2
theorem quOK.st {μ : mM} {n N i s : Int} (h : quOK μ n N) (h0 : 0 ≤ i) (h1 : i < n) (q : μ 190 i.toNat = s) : 0 ≤ s ∧ s < N := by
  have := h.1 i h0 h1
  rw [q] at this; exact ⟨this.1, this.2.1⟩
theorem quOK.keep {l : List Nat} {w : mW} {μ μ1 : mM} {n N : Int} (h : quOK μ n N) (hw : mWF w) (hF : mF l w μ μ1) (hl : (!(l.elem 189999) && !(l.elem 190999)) = true) : quOK μ1 n N := by
  simp only [Bool.and_eq_true, Bool.not_eq_true'] at hl
  have e1 : μ1 189 = μ 189 := funext fun i => hF.f (A_189 hw) hl.1 rfl
  have e2 : μ1 190 = μ 190 := funext fun i => hF.f (A_190 hw) hl.2 rfl
  unfold quOK dist at h ⊢
  rw [e1, e2]; exact h
theorem quOK.push {μ μ1 μ2 : mM} {n N t v o : Int} (h : quOK μ n N) (hn : 0 ≤ n) (ht : 0 ≤ t ∧ t < N) (qo : μ 189 t.toNat = o) (ho : o < 0) (u1 : mU μ 189 t.toNat v μ1) (hv : 0 ≤ v ∧ v ≤ n) (u2 : mU μ1 190 n.toNat t μ2) : quOK μ2 (n + 1) N := by
  have hq : ∀ i : Int, 0 ≤ i → i < n → μ2 190 i.toNat = μ 190 i.toNat := fun i h0 h1 => by rw [u2.2 190 _ (Or.inr (by omega)), u1.2 190 _ (Or.inl (by decide))]
  have hn2 : μ2 190 n.toNat = t := u2.1
  have ne : ∀ i : Int, 0 ≤ i → i < n → μ 190 i.toNat ≠ t := fun i h0 h1 e => by
    have := h.1 i h0 h1
    rw [e, qo] at this; omega
  refine ⟨fun i h0 h1 => ?_, ?_⟩
  · by_cases he : i = n
    · rw [he, hn2, u2.2 189 _ (Or.inl (by decide)), u1.1]; omega
    · have g := h.1 i h0 (by omega)
      have gn := ne i h0 (by omega)
      rw [hq i h0 (by omega), u2.2 189 _ (Or.inl (by decide)), u1.2 189 _ (Or.inr (by omega))]
      exact g
  · intro i j hi hij hj
    by_cases he : j = n
    · rw [he, hn2, hq i hi (by omega)]; exact ne i hi (by omega)
    · rw [hq i hi (by omega), hq j (by omega) (by omega)]; exact h.2 i j hi hij (by omega)
theorem quOK.room {μ : mM} {n N t o : Int} (h : quOK μ n N) (hn : 0 ≤ n) (ht : 0 ≤ t ∧ t < N) (qo : μ 189 t.toNat = o) (ho : o < 0) : n < N := by
  have := (h.push hn ht qo ho mUp_ok ⟨Int.le_refl 0, hn⟩ mUp_ok).pig (by omega)
  omega
theorem quOK.init {μ μ1 μ2 : mM} {N e : Int} (he : e = N - 1) (hN : 1 ≤ N) (u1 : mU μ 190 (0 : Int).toNat e μ1) (u2 : mU μ1 189 e.toNat 0 μ2) : quOK μ2 1 N := by
  have h0 : μ2 190 (0 : Int).toNat = e := by rw [u2.2 190 _ (Or.inl (by decide)), u1.1]
  refine ⟨fun i i0 i1 => ?_, fun i j i0 ij j1 => by omega⟩
  have : i = 0 := by omega
  subst this
  rw [h0, u2.1]; omega
end
section
theorem dX12_tries_0 : decode cX12_tries 0 = .ok (.iload_n 1, 1) := dc0 dO_27 (by decide +kernel)
theorem dX12_tries_1 : decode cX12_tries 1 = .ok (.iconst 0, 1) := dc0 dO_3 (by decide +kernel)
theorem dX12_tries_2 : decode cX12_tries 2 = .ok (.iconst 3, 1) := dc0 dO_6 (by decide +kernel)
theorem dX12_tries_3 : decode cX12_tries 3 = .ok (.invokestatic 18, 3) := dcU2 dO_184 (by decide +kernel)
theorem dX12_tries_6 : decode cX12_tries 6 = .ok (.ifCond .ne 5, 3) := dcS2 dO_154 (by decide +kernel)
theorem dX12_tries_9 : decode cX12_tries 9 = .ok (.iconst (-1), 1) := dc0 dO_2 (by decide +kernel)
theorem dX12_tries_10 : decode cX12_tries 10 = .ok (.ireturn, 1) := dc0 dO_172 (by decide +kernel)
theorem dX12_tries_11 : decode cX12_tries 11 = .ok (.aload_n 0, 1) := dc0 dO_42 (by decide +kernel)
theorem dX12_tries_12 : decode cX12_tries 12 = .ok (.invokevirtual 728, 3) := dcU2 dO_182 (by decide +kernel)
theorem dX12_tries_15 : decode cX12_tries 15 = .ok (.istore_n 2, 1) := dc0 dO_61 (by decide +kernel)
theorem dX12_tries_16 : decode cX12_tries 16 = .ok (.iconst 0, 1) := dc0 dO_3 (by decide +kernel)
theorem dX12_tries_17 : decode cX12_tries 17 = .ok (.istore_n 3, 1) := dc0 dO_62 (by decide +kernel)
theorem dX12_tries_18 : decode cX12_tries 18 = .ok (.iload_n 3, 1) := dc0 dO_29 (by decide +kernel)
theorem dX12_tries_19 : decode cX12_tries 19 = .ok (.iload_n 2, 1) := dc0 dO_28 (by decide +kernel)
theorem dX12_tries_20 : decode cX12_tries 20 = .ok (.if_icmp .ge 23, 3) := dcS2 dO_162 (by decide +kernel)
theorem dX12_tries_23 : decode cX12_tries 23 = .ok (.aload_n 0, 1) := dc0 dO_42 (by decide +kernel)
theorem dX12_tries_24 : decode cX12_tries 24 = .ok (.getfield 530, 3) := dcU2 dO_180 (by decide +kernel)
theorem dX12_tries_27 : decode cX12_tries 27 = .ok (.iload_n 3, 1) := dc0 dO_29 (by decide +kernel)
theorem dX12_tries_28 : decode cX12_tries 28 = .ok (.iconst (-1), 1) := dc0 dO_2 (by decide +kernel)
theorem dX12_tries_29 : decode cX12_tries 29 = .ok (.iastore, 1) := dc0 dO_79 (by decide +kernel)
theorem dX12_tries_30 : decode cX12_tries 30 = .ok (.aload_n 0, 1) := dc0 dO_42 (by decide +kernel)
theorem dX12_tries_31 : decode cX12_tries 31 = .ok (.getfield 536, 3) := dcU2 dO_180 (by decide +kernel)
theorem dX12_tries_34 : decode cX12_tries 34 = .ok (.iload_n 3, 1) := dc0 dO_29 (by decide +kernel)
theorem dX12_tries_35 : decode cX12_tries 35 = .ok (.iconst 0, 1) := dc0 dO_3 (by decide +kernel)
theorem dX12_tries_36 : decode cX12_tries 36 = .ok (.bastore, 1) := dc0 dO_84 (by decide +kernel)
theorem dX12_tries_37 : decode cX12_tries 37 = .ok (.iinc 3 1, 3) := dcI dO_132 (by decide +kernel)
theorem dX12_tries_40 : decode cX12_tries 40 = .ok (.goto (-22), 3) := dcS2 dO_167 (by decide +kernel)
theorem dX12_tries_43 : decode cX12_tries 43 = .ok (.iconst 0, 1) := dc0 dO_3 (by decide +kernel)
theorem dX12_tries_44 : decode cX12_tries 44 = .ok (.istore_n 3, 1) := dc0 dO_62 (by decide +kernel)
theorem dX12_tries_45 : decode cX12_tries 45 = .ok (.aload_n 0, 1) := dc0 dO_42 (by decide +kernel)
theorem dX12_tries_46 : decode cX12_tries 46 = .ok (.getfield 533, 3) := dcU2 dO_180 (by decide +kernel)
theorem dX12_tries_49 : decode cX12_tries 49 = .ok (.iload_n 3, 1) := dc0 dO_29 (by decide +kernel)
theorem dX12_tries_50 : decode cX12_tries 50 = .ok (.iload_n 2, 1) := dc0 dO_28 (by decide +kernel)
theorem dX12_tries_51 : decode cX12_tries 51 = .ok (.iconst 1, 1) := dc0 dO_4 (by decide +kernel)
theorem dX12_tries_52 : decode cX12_tries 52 = .ok (.isub, 1) := dc0 dO_100 (by decide +kernel)
theorem dX12_tries_53 : decode cX12_tries 53 = .ok (.iastore, 1) := dc0 dO_79 (by decide +kernel)
theorem dX12_tries_54 : decode cX12_tries 54 = .ok (.aload_n 0, 1) := dc0 dO_42 (by decide +kernel)
theorem dX12_tries_55 : decode cX12_tries 55 = .ok (.getfield 530, 3) := dcU2 dO_180 (by decide +kernel)
theorem dX12_tries_58 : decode cX12_tries 58 = .ok (.iload_n 2, 1) := dc0 dO_28 (by decide +kernel)
theorem dX12_tries_59 : decode cX12_tries 59 = .ok (.iconst 1, 1) := dc0 dO_4 (by decide +kernel)
theorem dX12_tries_60 : decode cX12_tries 60 = .ok (.isub, 1) := dc0 dO_100 (by decide +kernel)
theorem dX12_tries_61 : decode cX12_tries 61 = .ok (.iconst 0, 1) := dc0 dO_3 (by decide +kernel)
theorem dX12_tries_62 : decode cX12_tries 62 = .ok (.iastore, 1) := dc0 dO_79 (by decide +kernel)
theorem dX12_tries_63 : decode cX12_tries 63 = .ok (.iinc 3 1, 3) := dcI dO_132 (by decide +kernel)
theorem dX12_tries_66 : decode cX12_tries 66 = .ok (.iconst 0, 1) := dc0 dO_3 (by decide +kernel)
theorem dX12_tries_67 : decode cX12_tries 67 = .ok (.istore 4, 2) := dcU1 dO_54 (by decide +kernel)
theorem dX12_tries_69 : decode cX12_tries 69 = .ok (.ldc 29, 2) := dcU1 dO_18 (by decide +kernel)
theorem dX12_tries_71 : decode cX12_tries 71 = .ok (.istore 5, 2) := dcU1 dO_54 (by decide +kernel)
theorem dX12_tries_73 : decode cX12_tries 73 = .ok (.iconst 0, 1) := dc0 dO_3 (by decide +kernel)
theorem dX12_tries_74 : decode cX12_tries 74 = .ok (.istore 6, 2) := dcU1 dO_54 (by decide +kernel)
theorem dX12_tries_76 : decode cX12_tries 76 = .ok (.iload 6, 2) := dcU1 dO_21 (by decide +kernel)
theorem dX12_tries_78 : decode cX12_tries 78 = .ok (.iload_n 3, 1) := dc0 dO_29 (by decide +kernel)
theorem dX12_tries_79 : decode cX12_tries 79 = .ok (.if_icmp .ge 161, 3) := dcS2 dO_162 (by decide +kernel)
theorem dX12_tries_82 : decode cX12_tries 82 = .ok (.aload_n 0, 1) := dc0 dO_42 (by decide +kernel)
theorem dX12_tries_83 : decode cX12_tries 83 = .ok (.getfield 533, 3) := dcU2 dO_180 (by decide +kernel)
theorem dX12_tries_86 : decode cX12_tries 86 = .ok (.iload 6, 2) := dcU1 dO_21 (by decide +kernel)
theorem dX12_tries_88 : decode cX12_tries 88 = .ok (.iaload, 1) := dc0 dO_46 (by decide +kernel)
theorem dX12_tries_89 : decode cX12_tries 89 = .ok (.istore 7, 2) := dcU1 dO_54 (by decide +kernel)
theorem dX12_tries_91 : decode cX12_tries 91 = .ok (.iconst 1, 1) := dc0 dO_4 (by decide +kernel)
theorem dX12_tries_92 : decode cX12_tries 92 = .ok (.istore 8, 2) := dcU1 dO_54 (by decide +kernel)
theorem dX12_tries_94 : decode cX12_tries 94 = .ok (.aload_n 0, 1) := dc0 dO_42 (by decide +kernel)
theorem dX12_tries_95 : decode cX12_tries 95 = .ok (.iload 7, 2) := dcU1 dO_21 (by decide +kernel)
theorem dX12_tries_97 : decode cX12_tries 97 = .ok (.invokevirtual 722, 3) := dcU2 dO_182 (by decide +kernel)
theorem dX12_tries_100 : decode cX12_tries 100 = .ok (.iconst 1, 1) := dc0 dO_4 (by decide +kernel)
theorem dX12_tries_101 : decode cX12_tries 101 = .ok (.istore 9, 2) := dcU1 dO_54 (by decide +kernel)
theorem dX12_tries_103 : decode cX12_tries 103 = .ok (.iload 9, 2) := dcU1 dO_21 (by decide +kernel)
theorem dX12_tries_105 : decode cX12_tries 105 = .ok (.bipush 6, 2) := dcS1 dO_16 (by decide +kernel)
theorem dX12_tries_107 : decode cX12_tries 107 = .ok (.if_icmp .gt 95, 3) := dcS2 dO_163 (by decide +kernel)
theorem dX12_tries_110 : decode cX12_tries 110 = .ok (.aload_n 0, 1) := dc0 dO_42 (by decide +kernel)
theorem dX12_tries_111 : decode cX12_tries 111 = .ok (.iload 9, 2) := dcU1 dO_21 (by decide +kernel)
theorem dX12_tries_113 : decode cX12_tries 113 = .ok (.invokevirtual 725, 3) := dcU2 dO_182 (by decide +kernel)
theorem dX12_tries_116 : decode cX12_tries 116 = .ok (.istore 10, 2) := dcU1 dO_54 (by decide +kernel)
theorem dX12_tries_118 : decode cX12_tries 118 = .ok (.iload 10, 2) := dcU1 dO_21 (by decide +kernel)
theorem dX12_tries_120 : decode cX12_tries 120 = .ok (.aload_n 0, 1) := dc0 dO_42 (by decide +kernel)
theorem dX12_tries_121 : decode cX12_tries 121 = .ok (.getfield 526, 3) := dcU2 dO_180 (by decide +kernel)
theorem dX12_tries_124 : decode cX12_tries 124 = .ok (.iload 9, 2) := dcU1 dO_21 (by decide +kernel)
theorem dX12_tries_126 : decode cX12_tries 126 = .ok (.iaload, 1) := dc0 dO_46 (by decide +kernel)
theorem dX12_tries_127 : decode cX12_tries 127 = .ok (.if_icmp .ne 6, 3) := dcS2 dO_160 (by decide +kernel)
theorem sfx_cX12_tries_128 : (cX12_tries.data.toList.drop 128).take 67 = [0, 6, 167, 0, 66, 3, 54, 8, 21, 7, 21, 10, 42, 180, 2, 14, 21, 9, 46, 100, 42, 180, 2, 11, 21, 9, 46, 104, 96, 54, 11, 42, 180, 2, 18, 21, 11, 46, 156, 0, 30, 42, 180, 2, 18, 21, 11, 42, 180, 2, 18, 21, 7, 46, 4, 96, 79, 42, 180, 2, 21, 29, 21, 11, 79, 132, 3] := by decide +kernel
theorem dX12_tries_130 : decode cX12_tries 130 = .ok (.goto 66, 3) := dcS2 dO_167 (rdS2.ch sfx_cX12_tries_128 2 rfl (by decide +kernel))
theorem dX12_tries_133 : decode cX12_tries 133 = .ok (.iconst 0, 1) := dc0 dO_3 (rdB.ch sfx_cX12_tries_128 5 rfl (by decide +kernel))
theorem dX12_tries_134 : decode cX12_tries 134 = .ok (.istore 8, 2) := dcU1 dO_54 (rdU1.ch sfx_cX12_tries_128 6 rfl (by decide +kernel))
theorem dX12_tries_136 : decode cX12_tries 136 = .ok (.iload 7, 2) := dcU1 dO_21 (rdU1.ch sfx_cX12_tries_128 8 rfl (by decide +kernel))
theorem dX12_tries_138 : decode cX12_tries 138 = .ok (.iload 10, 2) := dcU1 dO_21 (rdU1.ch sfx_cX12_tries_128 10 rfl (by decide +kernel))
theorem dX12_tries_140 : decode cX12_tries 140 = .ok (.aload_n 0, 1) := dc0 dO_42 (rdB.ch sfx_cX12_tries_128 12 rfl (by decide +kernel))
theorem dX12_tries_141 : decode cX12_tries 141 = .ok (.getfield 526, 3) := dcU2 dO_180 (rdU2.ch sfx_cX12_tries_128 13 rfl (by decide +kernel))
theorem dX12_tries_144 : decode cX12_tries 144 = .ok (.iload 9, 2) := dcU1 dO_21 (rdU1.ch sfx_cX12_tries_128 16 rfl (by decide +kernel))
theorem dX12_tries_146 : decode cX12_tries 146 = .ok (.iaload, 1) := dc0 dO_46 (rdB.ch sfx_cX12_tries_128 18 rfl (by decide +kernel))
theorem dX12_tries_147 : decode cX12_tries 147 = .ok (.isub, 1) := dc0 dO_100 (rdB.ch sfx_cX12_tries_128 19 rfl (by decide +kernel))
theorem dX12_tries_148 : decode cX12_tries 148 = .ok (.aload_n 0, 1) := dc0 dO_42 (rdB.ch sfx_cX12_tries_128 20 rfl (by decide +kernel))
theorem dX12_tries_149 : decode cX12_tries 149 = .ok (.getfield 523, 3) := dcU2 dO_180 (rdU2.ch sfx_cX12_tries_128 21 rfl (by decide +kernel))
theorem dX12_tries_152 : decode cX12_tries 152 = .ok (.iload 9, 2) := dcU1 dO_21 (rdU1.ch sfx_cX12_tries_128 24 rfl (by decide +kernel))
theorem dX12_tries_154 : decode cX12_tries 154 = .ok (.iaload, 1) := dc0 dO_46 (rdB.ch sfx_cX12_tries_128 26 rfl (by decide +kernel))
theorem dX12_tries_155 : decode cX12_tries 155 = .ok (.imul, 1) := dc0 dO_104 (rdB.ch sfx_cX12_tries_128 27 rfl (by decide +kernel))
theorem dX12_tries_156 : decode cX12_tries 156 = .ok (.iadd, 1) := dc0 dO_96 (rdB.ch sfx_cX12_tries_128 28 rfl (by decide +kernel))
theorem dX12_tries_157 : decode cX12_tries 157 = .ok (.istore 11, 2) := dcU1 dO_54 (rdU1.ch sfx_cX12_tries_128 29 rfl (by decide +kernel))
theorem dX12_tries_159 : decode cX12_tries 159 = .ok (.aload_n 0, 1) := dc0 dO_42 (rdB.ch sfx_cX12_tries_128 31 rfl (by decide +kernel))
theorem dX12_tries_160 : decode cX12_tries 160 = .ok (.getfield 530, 3) := dcU2 dO_180 (rdU2.ch sfx_cX12_tries_128 32 rfl (by decide +kernel))
theorem dX12_tries_163 : decode cX12_tries 163 = .ok (.iload 11, 2) := dcU1 dO_21 (rdU1.ch sfx_cX12_tries_128 35 rfl (by decide +kernel))
theorem dX12_tries_165 : decode cX12_tries 165 = .ok (.iaload, 1) := dc0 dO_46 (rdB.ch sfx_cX12_tries_128 37 rfl (by decide +kernel))
theorem dX12_tries_166 : decode cX12_tries 166 = .ok (.ifCond .ge 30, 3) := dcS2 dO_156 (rdS2.ch sfx_cX12_tries_128 38 rfl (by decide +kernel))
theorem dX12_tries_169 : decode cX12_tries 169 = .ok (.aload_n 0, 1) := dc0 dO_42 (rdB.ch sfx_cX12_tries_128 41 rfl (by decide +kernel))
theorem dX12_tries_170 : decode cX12_tries 170 = .ok (.getfield 530, 3) := dcU2 dO_180 (rdU2.ch sfx_cX12_tries_128 42 rfl (by decide +kernel))
theorem dX12_tries_173 : decode cX12_tries 173 = .ok (.iload 11, 2) := dcU1 dO_21 (rdU1.ch sfx_cX12_tries_128 45 rfl (by decide +kernel))
theorem dX12_tries_175 : decode cX12_tries 175 = .ok (.aload_n 0, 1) := dc0 dO_42 (rdB.ch sfx_cX12_tries_128 47 rfl (by decide +kernel))
theorem dX12_tries_176 : decode cX12_tries 176 = .ok (.getfield 530, 3) := dcU2 dO_180 (rdU2.ch sfx_cX12_tries_128 48 rfl (by decide +kernel))
theorem dX12_tries_179 : decode cX12_tries 179 = .ok (.iload 7, 2) := dcU1 dO_21 (rdU1.ch sfx_cX12_tries_128 51 rfl (by decide +kernel))
theorem dX12_tries_181 : decode cX12_tries 181 = .ok (.iaload, 1) := dc0 dO_46 (rdB.ch sfx_cX12_tries_128 53 rfl (by decide +kernel))
theorem dX12_tries_182 : decode cX12_tries 182 = .ok (.iconst 1, 1) := dc0 dO_4 (rdB.ch sfx_cX12_tries_128 54 rfl (by decide +kernel))
theorem dX12_tries_183 : decode cX12_tries 183 = .ok (.iadd, 1) := dc0 dO_96 (rdB.ch sfx_cX12_tries_128 55 rfl (by decide +kernel))
theorem dX12_tries_184 : decode cX12_tries 184 = .ok (.iastore, 1) := dc0 dO_79 (rdB.ch sfx_cX12_tries_128 56 rfl (by decide +kernel))
theorem dX12_tries_185 : decode cX12_tries 185 = .ok (.aload_n 0, 1) := dc0 dO_42 (rdB.ch sfx_cX12_tries_128 57 rfl (by decide +kernel))
theorem dX12_tries_186 : decode cX12_tries 186 = .ok (.getfield 533, 3) := dcU2 dO_180 (rdU2.ch sfx_cX12_tries_128 58 rfl (by decide +kernel))
theorem dX12_tries_189 : decode cX12_tries 189 = .ok (.iload_n 3, 1) := dc0 dO_29 (rdB.ch sfx_cX12_tries_128 61 rfl (by decide +kernel))
theorem dX12_tries_190 : decode cX12_tries 190 = .ok (.iload 11, 2) := dcU1 dO_21 (rdU1.ch sfx_cX12_tries_128 62 rfl (by decide +kernel))
theorem sfx_cX12_tries_192 : (cX12_tries.data.toList.drop 192).take 67 = [79, 132, 3, 1, 132, 9, 1, 167, 255, 160, 21, 8, 153, 0, 30, 132, 4, 1, 42, 180, 2, 24, 21, 7, 4, 84, 21, 5, 18, 29, 160, 0, 12, 42, 180, 2, 18, 21, 7, 46, 54, 5, 132, 6, 1, 167, 255, 95, 27, 154, 0, 5, 29, 172, 27, 4, 160, 0, 6, 21, 4, 172, 27, 6, 160, 0, 6] := by decide +kernel
theorem dX12_tries_192 : decode cX12_tries 192 = .ok (.iastore, 1) := dc0 dO_79 (rdB.ch sfx_cX12_tries_192 0 rfl (by decide +kernel))
theorem dX12_tries_193 : decode cX12_tries 193 = .ok (.iinc 3 1, 3) := dcI dO_132 (rdI.ch sfx_cX12_tries_192 1 rfl (by decide +kernel))
theorem dX12_tries_196 : decode cX12_tries 196 = .ok (.iinc 9 1, 3) := dcI dO_132 (rdI.ch sfx_cX12_tries_192 4 rfl (by decide +kernel))
theorem dX12_tries_199 : decode cX12_tries 199 = .ok (.goto (-96), 3) := dcS2 dO_167 (rdS2.ch sfx_cX12_tries_192 7 rfl (by decide +kernel))
theorem dX12_tries_202 : decode cX12_tries 202 = .ok (.iload 8, 2) := dcU1 dO_21 (rdU1.ch sfx_cX12_tries_192 10 rfl (by decide +kernel))
theorem dX12_tries_204 : decode cX12_tries 204 = .ok (.ifCond .eq 30, 3) := dcS2 dO_153 (rdS2.ch sfx_cX12_tries_192 12 rfl (by decide +kernel))
theorem dX12_tries_207 : decode cX12_tries 207 = .ok (.iinc 4 1, 3) := dcI dO_132 (rdI.ch sfx_cX12_tries_192 15 rfl (by decide +kernel))
theorem dX12_tries_210 : decode cX12_tries 210 = .ok (.aload_n 0, 1) := dc0 dO_42 (rdB.ch sfx_cX12_tries_192 18 rfl (by decide +kernel))
theorem dX12_tries_211 : decode cX12_tries 211 = .ok (.getfield 536, 3) := dcU2 dO_180 (rdU2.ch sfx_cX12_tries_192 19 rfl (by decide +kernel))
theorem dX12_tries_214 : decode cX12_tries 214 = .ok (.iload 7, 2) := dcU1 dO_21 (rdU1.ch sfx_cX12_tries_192 22 rfl (by decide +kernel))
theorem dX12_tries_216 : decode cX12_tries 216 = .ok (.iconst 1, 1) := dc0 dO_4 (rdB.ch sfx_cX12_tries_192 24 rfl (by decide +kernel))
theorem dX12_tries_217 : decode cX12_tries 217 = .ok (.bastore, 1) := dc0 dO_84 (rdB.ch sfx_cX12_tries_192 25 rfl (by decide +kernel))
theorem dX12_tries_218 : decode cX12_tries 218 = .ok (.iload 5, 2) := dcU1 dO_21 (rdU1.ch sfx_cX12_tries_192 26 rfl (by decide +kernel))
theorem dX12_tries_220 : decode cX12_tries 220 = .ok (.ldc 29, 2) := dcU1 dO_18 (rdU1.ch sfx_cX12_tries_192 28 rfl (by decide +kernel))
theorem dX12_tries_222 : decode cX12_tries 222 = .ok (.if_icmp .ne 12, 3) := dcS2 dO_160 (rdS2.ch sfx_cX12_tries_192 30 rfl (by decide +kernel))
theorem dX12_tries_225 : decode cX12_tries 225 = .ok (.aload_n 0, 1) := dc0 dO_42 (rdB.ch sfx_cX12_tries_192 33 rfl (by decide +kernel))
theorem dX12_tries_226 : decode cX12_tries 226 = .ok (.getfield 530, 3) := dcU2 dO_180 (rdU2.ch sfx_cX12_tries_192 34 rfl (by decide +kernel))
theorem dX12_tries_229 : decode cX12_tries 229 = .ok (.iload 7, 2) := dcU1 dO_21 (rdU1.ch sfx_cX12_tries_192 37 rfl (by decide +kernel))
theorem dX12_tries_231 : decode cX12_tries 231 = .ok (.iaload, 1) := dc0 dO_46 (rdB.ch sfx_cX12_tries_192 39 rfl (by decide +kernel))
theorem dX12_tries_232 : decode cX12_tries 232 = .ok (.istore 5, 2) := dcU1 dO_54 (rdU1.ch sfx_cX12_tries_192 40 rfl (by decide +kernel))
theorem dX12_tries_234 : decode cX12_tries 234 = .ok (.iinc 6 1, 3) := dcI dO_132 (rdI.ch sfx_cX12_tries_192 42 rfl (by decide +kernel))
theorem dX12_tries_237 : decode cX12_tries 237 = .ok (.goto (-161), 3) := dcS2 dO_167 (rdS2.ch sfx_cX12_tries_192 45 rfl (by decide +kernel))
theorem dX12_tries_240 : decode cX12_tries 240 = .ok (.iload_n 1, 1) := dc0 dO_27 (rdB.ch sfx_cX12_tries_192 48 rfl (by decide +kernel))
theorem dX12_tries_241 : decode cX12_tries 241 = .ok (.ifCond .ne 5, 3) := dcS2 dO_154 (rdS2.ch sfx_cX12_tries_192 49 rfl (by decide +kernel))
theorem dX12_tries_244 : decode cX12_tries 244 = .ok (.iload_n 3, 1) := dc0 dO_29 (rdB.ch sfx_cX12_tries_192 52 rfl (by decide +kernel))
theorem dX12_tries_245 : decode cX12_tries 245 = .ok (.ireturn, 1) := dc0 dO_172 (rdB.ch sfx_cX12_tries_192 53 rfl (by decide +kernel))
theorem dX12_tries_246 : decode cX12_tries 246 = .ok (.iload_n 1, 1) := dc0 dO_27 (rdB.ch sfx_cX12_tries_192 54 rfl (by decide +kernel))
theorem dX12_tries_247 : decode cX12_tries 247 = .ok (.iconst 1, 1) := dc0 dO_4 (rdB.ch sfx_cX12_tries_192 55 rfl (by decide +kernel))
theorem dX12_tries_248 : decode cX12_tries 248 = .ok (.if_icmp .ne 6, 3) := dcS2 dO_160 (rdS2.ch sfx_cX12_tries_192 56 rfl (by decide +kernel))
theorem dX12_tries_251 : decode cX12_tries 251 = .ok (.iload 4, 2) := dcU1 dO_21 (rdU1.ch sfx_cX12_tries_192 59 rfl (by decide +kernel))
theorem dX12_tries_253 : decode cX12_tries 253 = .ok (.ireturn, 1) := dc0 dO_172 (rdB.ch sfx_cX12_tries_192 61 rfl (by decide +kernel))
theorem dX12_tries_254 : decode cX12_tries 254 = .ok (.iload_n 1, 1) := dc0 dO_27 (rdB.ch sfx_cX12_tries_192 62 rfl (by decide +kernel))
theorem dX12_tries_255 : decode cX12_tries 255 = .ok (.iconst 3, 1) := dc0 dO_6 (rdB.ch sfx_cX12_tries_192 63 rfl (by decide +kernel))
theorem sfx_cX12_tries_256 : (cX12_tries.data.toList.drop 256).take 67 = [160, 0, 6, 21, 5, 172, 4, 54, 6, 21, 6, 153, 0, 138, 3, 54, 6, 29, 4, 100, 54, 7, 21, 7, 155, 0, 122, 42, 180, 2, 21, 21, 7, 46, 54, 8, 42, 180, 2, 24, 21, 8, 51, 153, 0, 6, 167, 0, 94, 42, 21, 8, 182, 2, 210, 4, 54, 9, 21, 9, 16, 6, 163, 0, 56, 42, 180] := by decide +kernel
theorem dX12_tries_256 : decode cX12_tries 256 = .ok (.if_icmp .ne 6, 3) := dcS2 dO_160 (rdS2.ch sfx_cX12_tries_256 0 rfl (by decide +kernel))
theorem dX12_tries_259 : decode cX12_tries 259 = .ok (.iload 5, 2) := dcU1 dO_21 (rdU1.ch sfx_cX12_tries_256 3 rfl (by decide +kernel))
theorem dX12_tries_261 : decode cX12_tries 261 = .ok (.ireturn, 1) := dc0 dO_172 (rdB.ch sfx_cX12_tries_256 5 rfl (by decide +kernel))
theorem dX12_tries_262 : decode cX12_tries 262 = .ok (.iconst 1, 1) := dc0 dO_4 (rdB.ch sfx_cX12_tries_256 6 rfl (by decide +kernel))
theorem dX12_tries_263 : decode cX12_tries 263 = .ok (.istore 6, 2) := dcU1 dO_54 (rdU1.ch sfx_cX12_tries_256 7 rfl (by decide +kernel))
theorem dX12_tries_265 : decode cX12_tries 265 = .ok (.iload 6, 2) := dcU1 dO_21 (rdU1.ch sfx_cX12_tries_256 9 rfl (by decide +kernel))
theorem dX12_tries_267 : decode cX12_tries 267 = .ok (.ifCond .eq 138, 3) := dcS2 dO_153 (rdS2.ch sfx_cX12_tries_256 11 rfl (by decide +kernel))
theorem dX12_tries_270 : decode cX12_tries 270 = .ok (.iconst 0, 1) := dc0 dO_3 (rdB.ch sfx_cX12_tries_256 14 rfl (by decide +kernel))
theorem dX12_tries_271 : decode cX12_tries 271 = .ok (.istore 6, 2) := dcU1 dO_54 (rdU1.ch sfx_cX12_tries_256 15 rfl (by decide +kernel))
theorem dX12_tries_273 : decode cX12_tries 273 = .ok (.iload_n 3, 1) := dc0 dO_29 (rdB.ch sfx_cX12_tries_256 17 rfl (by decide +kernel))
theorem dX12_tries_274 : decode cX12_tries 274 = .ok (.iconst 1, 1) := dc0 dO_4 (rdB.ch sfx_cX12_tries_256 18 rfl (by decide +kernel))
theorem dX12_tries_275 : decode cX12_tries 275 = .ok (.isub, 1) := dc0 dO_100 (rdB.ch sfx_cX12_tries_256 19 rfl (by decide +kernel))
theorem dX12_tries_276 : decode cX12_tries 276 = .ok (.istore 7, 2) := dcU1 dO_54 (rdU1.ch sfx_cX12_tries_256 20 rfl (by decide +kernel))
theorem dX12_tries_278 : decode cX12_tries 278 = .ok (.iload 7, 2) := dcU1 dO_21 (rdU1.ch sfx_cX12_tries_256 22 rfl (by decide +kernel))
theorem dX12_tries_280 : decode cX12_tries 280 = .ok (.ifCond .lt 122, 3) := dcS2 dO_155 (rdS2.ch sfx_cX12_tries_256 24 rfl (by decide +kernel))
theorem dX12_tries_283 : decode cX12_tries 283 = .ok (.aload_n 0, 1) := dc0 dO_42 (rdB.ch sfx_cX12_tries_256 27 rfl (by decide +kernel))
theorem dX12_tries_284 : decode cX12_tries 284 = .ok (.getfield 533, 3) := dcU2 dO_180 (rdU2.ch sfx_cX12_tries_256 28 rfl (by decide +kernel))
theorem dX12_tries_287 : decode cX12_tries 287 = .ok (.iload 7, 2) := dcU1 dO_21 (rdU1.ch sfx_cX12_tries_256 31 rfl (by decide +kernel))
theorem dX12_tries_289 : decode cX12_tries 289 = .ok (.iaload, 1) := dc0 dO_46 (rdB.ch sfx_cX12_tries_256 33 rfl (by decide +kernel))
theorem dX12_tries_290 : decode cX12_tries 290 = .ok (.istore 8, 2) := dcU1 dO_54 (rdU1.ch sfx_cX12_tries_256 34 rfl (by decide +kernel))
theorem dX12_tries_292 : decode cX12_tries 292 = .ok (.aload_n 0, 1) := dc0 dO_42 (rdB.ch sfx_cX12_tries_256 36 rfl (by decide +kernel))
theorem dX12_tries_293 : decode cX12_tries 293 = .ok (.getfield 536, 3) := dcU2 dO_180 (rdU2.ch sfx_cX12_tries_256 37 rfl (by decide +kernel))
theorem dX12_tries_296 : decode cX12_tries 296 = .ok (.iload 8, 2) := dcU1 dO_21 (rdU1.ch sfx_cX12_tries_256 40 rfl (by decide +kernel))
theorem dX12_tries_298 : decode cX12_tries 298 = .ok (.baload, 1) := dc0 dO_51 (rdB.ch sfx_cX12_tries_256 42 rfl (by decide +kernel))
theorem dX12_tries_299 : decode cX12_tries 299 = .ok (.ifCond .eq 6, 3) := dcS2 dO_153 (rdS2.ch sfx_cX12_tries_256 43 rfl (by decide +kernel))
theorem dX12_tries_302 : decode cX12_tries 302 = .ok (.goto 94, 3) := dcS2 dO_167 (rdS2.ch sfx_cX12_tries_256 46 rfl (by decide +kernel))
theorem dX12_tries_305 : decode cX12_tries 305 = .ok (.aload_n 0, 1) := dc0 dO_42 (rdB.ch sfx_cX12_tries_256 49 rfl (by decide +kernel))
theorem dX12_tries_306 : decode cX12_tries 306 = .ok (.iload 8, 2) := dcU1 dO_21 (rdU1.ch sfx_cX12_tries_256 50 rfl (by decide +kernel))
theorem dX12_tries_308 : decode cX12_tries 308 = .ok (.invokevirtual 722, 3) := dcU2 dO_182 (rdU2.ch sfx_cX12_tries_256 52 rfl (by decide +kernel))
theorem dX12_tries_311 : decode cX12_tries 311 = .ok (.iconst 1, 1) := dc0 dO_4 (rdB.ch sfx_cX12_tries_256 55 rfl (by decide +kernel))
theorem dX12_tries_312 : decode cX12_tries 312 = .ok (.istore 9, 2) := dcU1 dO_54 (rdU1.ch sfx_cX12_tries_256 56 rfl (by decide +kernel))
theorem dX12_tries_314 : decode cX12_tries 314 = .ok (.iload 9, 2) := dcU1 dO_21 (rdU1.ch sfx_cX12_tries_256 58 rfl (by decide +kernel))
theorem dX12_tries_316 : decode cX12_tries 316 = .ok (.bipush 6, 2) := dcS1 dO_16 (rdS1.ch sfx_cX12_tries_256 60 rfl (by decide +kernel))
theorem dX12_tries_318 : decode cX12_tries 318 = .ok (.if_icmp .gt 56, 3) := dcS2 dO_163 (rdS2.ch sfx_cX12_tries_256 62 rfl (by decide +kernel))
theorem sfx_cX12_tries_320 : (cX12_tries.data.toList.drop 320).take 67 = [56, 42, 180, 2, 24, 21, 8, 51, 154, 0, 46, 42, 180, 2, 24, 21, 8, 42, 180, 2, 24, 21, 8, 42, 21, 9, 182, 2, 213, 42, 180, 2, 14, 21, 9, 46, 100, 42, 180, 2, 11, 21, 9, 46, 104, 96, 51, 84, 132, 9, 1, 167, 255, 199, 21, 6, 154, 0, 13, 42, 180, 2, 24, 21, 8, 51, 153] := by decide +kernel
theorem dX12_tries_321 : decode cX12_tries 321 = .ok (.aload_n 0, 1) := dc0 dO_42 (rdB.ch sfx_cX12_tries_320 1 rfl (by decide +kernel))
theorem dX12_tries_322 : decode cX12_tries 322 = .ok (.getfield 536, 3) := dcU2 dO_180 (rdU2.ch sfx_cX12_tries_320 2 rfl (by decide +kernel))
theorem dX12_tries_325 : decode cX12_tries 325 = .ok (.iload 8, 2) := dcU1 dO_21 (rdU1.ch sfx_cX12_tries_320 5 rfl (by decide +kernel))
theorem dX12_tries_327 : decode cX12_tries 327 = .ok (.baload, 1) := dc0 dO_51 (rdB.ch sfx_cX12_tries_320 7 rfl (by decide +kernel))
theorem dX12_tries_328 : decode cX12_tries 328 = .ok (.ifCond .ne 46, 3) := dcS2 dO_154 (rdS2.ch sfx_cX12_tries_320 8 rfl (by decide +kernel))
theorem dX12_tries_331 : decode cX12_tries 331 = .ok (.aload_n 0, 1) := dc0 dO_42 (rdB.ch sfx_cX12_tries_320 11 rfl (by decide +kernel))
theorem dX12_tries_332 : decode cX12_tries 332 = .ok (.getfield 536, 3) := dcU2 dO_180 (rdU2.ch sfx_cX12_tries_320 12 rfl (by decide +kernel))
theorem dX12_tries_335 : decode cX12_tries 335 = .ok (.iload 8, 2) := dcU1 dO_21 (rdU1.ch sfx_cX12_tries_320 15 rfl (by decide +kernel))
theorem dX12_tries_337 : decode cX12_tries 337 = .ok (.aload_n 0, 1) := dc0 dO_42 (rdB.ch sfx_cX12_tries_320 17 rfl (by decide +kernel))
theorem dX12_tries_338 : decode cX12_tries 338 = .ok (.getfield 536, 3) := dcU2 dO_180 (rdU2.ch sfx_cX12_tries_320 18 rfl (by decide +kernel))
theorem dX12_tries_341 : decode cX12_tries 341 = .ok (.iload 8, 2) := dcU1 dO_21 (rdU1.ch sfx_cX12_tries_320 21 rfl (by decide +kernel))
theorem dX12_tries_343 : decode cX12_tries 343 = .ok (.aload_n 0, 1) := dc0 dO_42 (rdB.ch sfx_cX12_tries_320 23 rfl (by decide +kernel))
theorem dX12_tries_344 : decode cX12_tries 344 = .ok (.iload 9, 2) := dcU1 dO_21 (rdU1.ch sfx_cX12_tries_320 24 rfl (by decide +kernel))
theorem dX12_tries_346 : decode cX12_tries 346 = .ok (.invokevirtual 725, 3) := dcU2 dO_182 (rdU2.ch sfx_cX12_tries_320 26 rfl (by decide +kernel))
theorem dX12_tries_349 : decode cX12_tries 349 = .ok (.aload_n 0, 1) := dc0 dO_42 (rdB.ch sfx_cX12_tries_320 29 rfl (by decide +kernel))
theorem dX12_tries_350 : decode cX12_tries 350 = .ok (.getfield 526, 3) := dcU2 dO_180 (rdU2.ch sfx_cX12_tries_320 30 rfl (by decide +kernel))
theorem dX12_tries_353 : decode cX12_tries 353 = .ok (.iload 9, 2) := dcU1 dO_21 (rdU1.ch sfx_cX12_tries_320 33 rfl (by decide +kernel))
theorem dX12_tries_355 : decode cX12_tries 355 = .ok (.iaload, 1) := dc0 dO_46 (rdB.ch sfx_cX12_tries_320 35 rfl (by decide +kernel))
theorem dX12_tries_356 : decode cX12_tries 356 = .ok (.isub, 1) := dc0 dO_100 (rdB.ch sfx_cX12_tries_320 36 rfl (by decide +kernel))
theorem dX12_tries_357 : decode cX12_tries 357 = .ok (.aload_n 0, 1) := dc0 dO_42 (rdB.ch sfx_cX12_tries_320 37 rfl (by decide +kernel))
theorem dX12_tries_358 : decode cX12_tries 358 = .ok (.getfield 523, 3) := dcU2 dO_180 (rdU2.ch sfx_cX12_tries_320 38 rfl (by decide +kernel))
theorem dX12_tries_361 : decode cX12_tries 361 = .ok (.iload 9, 2) := dcU1 dO_21 (rdU1.ch sfx_cX12_tries_320 41 rfl (by decide +kernel))
theorem dX12_tries_363 : decode cX12_tries 363 = .ok (.iaload, 1) := dc0 dO_46 (rdB.ch sfx_cX12_tries_320 43 rfl (by decide +kernel))
theorem dX12_tries_364 : decode cX12_tries 364 = .ok (.imul, 1) := dc0 dO_104 (rdB.ch sfx_cX12_tries_320 44 rfl (by decide +kernel))
theorem dX12_tries_365 : decode cX12_tries 365 = .ok (.iadd, 1) := dc0 dO_96 (rdB.ch sfx_cX12_tries_320 45 rfl (by decide +kernel))
theorem dX12_tries_366 : decode cX12_tries 366 = .ok (.baload, 1) := dc0 dO_51 (rdB.ch sfx_cX12_tries_320 46 rfl (by decide +kernel))
theorem dX12_tries_367 : decode cX12_tries 367 = .ok (.bastore, 1) := dc0 dO_84 (rdB.ch sfx_cX12_tries_320 47 rfl (by decide +kernel))
theorem dX12_tries_368 : decode cX12_tries 368 = .ok (.iinc 9 1, 3) := dcI dO_132 (rdI.ch sfx_cX12_tries_320 48 rfl (by decide +kernel))
theorem dX12_tries_371 : decode cX12_tries 371 = .ok (.goto (-57), 3) := dcS2 dO_167 (rdS2.ch sfx_cX12_tries_320 51 rfl (by decide +kernel))
theorem dX12_tries_374 : decode cX12_tries 374 = .ok (.iload 6, 2) := dcU1 dO_21 (rdU1.ch sfx_cX12_tries_320 54 rfl (by decide +kernel))
theorem dX12_tries_376 : decode cX12_tries 376 = .ok (.ifCond .ne 13, 3) := dcS2 dO_154 (rdS2.ch sfx_cX12_tries_320 56 rfl (by decide +kernel))
theorem dX12_tries_379 : decode cX12_tries 379 = .ok (.aload_n 0, 1) := dc0 dO_42 (rdB.ch sfx_cX12_tries_320 59 rfl (by decide +kernel))
theorem dX12_tries_380 : decode cX12_tries 380 = .ok (.getfield 536, 3) := dcU2 dO_180 (rdU2.ch sfx_cX12_tries_320 60 rfl (by decide +kernel))
theorem dX12_tries_383 : decode cX12_tries 383 = .ok (.iload 8, 2) := dcU1 dO_21 (rdU1.ch sfx_cX12_tries_320 63 rfl (by decide +kernel))
theorem sfx_cX12_tries_384 : (cX12_tries.data.toList.drop 384).take 67 = [8, 51, 153, 0, 7, 4, 167, 0, 4, 3, 54, 6, 132, 7, 255, 167, 255, 135, 167, 255, 119, 3, 54, 7, 3, 54, 8, 21, 8, 29, 162, 0, 34, 21, 7, 42, 180, 2, 24, 42, 180, 2, 21, 21, 8, 46, 51, 153, 0, 7, 3, 167, 0, 4, 4, 96, 54, 7, 132, 8, 1, 167, 255, 222, 21, 7, 172] := by decide +kernel
theorem dX12_tries_385 : decode cX12_tries 385 = .ok (.baload, 1) := dc0 dO_51 (rdB.ch sfx_cX12_tries_384 1 rfl (by decide +kernel))
theorem dX12_tries_386 : decode cX12_tries 386 = .ok (.ifCond .eq 7, 3) := dcS2 dO_153 (rdS2.ch sfx_cX12_tries_384 2 rfl (by decide +kernel))
theorem dX12_tries_389 : decode cX12_tries 389 = .ok (.iconst 1, 1) := dc0 dO_4 (rdB.ch sfx_cX12_tries_384 5 rfl (by decide +kernel))
theorem dX12_tries_390 : decode cX12_tries 390 = .ok (.goto 4, 3) := dcS2 dO_167 (rdS2.ch sfx_cX12_tries_384 6 rfl (by decide +kernel))
theorem dX12_tries_393 : decode cX12_tries 393 = .ok (.iconst 0, 1) := dc0 dO_3 (rdB.ch sfx_cX12_tries_384 9 rfl (by decide +kernel))
theorem dX12_tries_394 : decode cX12_tries 394 = .ok (.istore 6, 2) := dcU1 dO_54 (rdU1.ch sfx_cX12_tries_384 10 rfl (by decide +kernel))
theorem dX12_tries_396 : decode cX12_tries 396 = .ok (.iinc 7 (-1), 3) := dcI dO_132 (rdI.ch sfx_cX12_tries_384 12 rfl (by decide +kernel))
theorem dX12_tries_399 : decode cX12_tries 399 = .ok (.goto (-121), 3) := dcS2 dO_167 (rdS2.ch sfx_cX12_tries_384 15 rfl (by decide +kernel))
theorem dX12_tries_402 : decode cX12_tries 402 = .ok (.goto (-137), 3) := dcS2 dO_167 (rdS2.ch sfx_cX12_tries_384 18 rfl (by decide +kernel))
theorem dX12_tries_405 : decode cX12_tries 405 = .ok (.iconst 0, 1) := dc0 dO_3 (rdB.ch sfx_cX12_tries_384 21 rfl (by decide +kernel))
theorem dX12_tries_406 : decode cX12_tries 406 = .ok (.istore 7, 2) := dcU1 dO_54 (rdU1.ch sfx_cX12_tries_384 22 rfl (by decide +kernel))
theorem dX12_tries_408 : decode cX12_tries 408 = .ok (.iconst 0, 1) := dc0 dO_3 (rdB.ch sfx_cX12_tries_384 24 rfl (by decide +kernel))
theorem dX12_tries_409 : decode cX12_tries 409 = .ok (.istore 8, 2) := dcU1 dO_54 (rdU1.ch sfx_cX12_tries_384 25 rfl (by decide +kernel))
theorem dX12_tries_411 : decode cX12_tries 411 = .ok (.iload 8, 2) := dcU1 dO_21 (rdU1.ch sfx_cX12_tries_384 27 rfl (by decide +kernel))
theorem dX12_tries_413 : decode cX12_tries 413 = .ok (.iload_n 3, 1) := dc0 dO_29 (rdB.ch sfx_cX12_tries_384 29 rfl (by decide +kernel))
theorem dX12_tries_414 : decode cX12_tries 414 = .ok (.if_icmp .ge 34, 3) := dcS2 dO_162 (rdS2.ch sfx_cX12_tries_384 30 rfl (by decide +kernel))
theorem dX12_tries_417 : decode cX12_tries 417 = .ok (.iload 7, 2) := dcU1 dO_21 (rdU1.ch sfx_cX12_tries_384 33 rfl (by decide +kernel))
theorem dX12_tries_419 : decode cX12_tries 419 = .ok (.aload_n 0, 1) := dc0 dO_42 (rdB.ch sfx_cX12_tries_384 35 rfl (by decide +kernel))
theorem dX12_tries_420 : decode cX12_tries 420 = .ok (.getfield 536, 3) := dcU2 dO_180 (rdU2.ch sfx_cX12_tries_384 36 rfl (by decide +kernel))
theorem dX12_tries_423 : decode cX12_tries 423 = .ok (.aload_n 0, 1) := dc0 dO_42 (rdB.ch sfx_cX12_tries_384 39 rfl (by decide +kernel))
theorem dX12_tries_424 : decode cX12_tries 424 = .ok (.getfield 533, 3) := dcU2 dO_180 (rdU2.ch sfx_cX12_tries_384 40 rfl (by decide +kernel))
theorem dX12_tries_427 : decode cX12_tries 427 = .ok (.iload 8, 2) := dcU1 dO_21 (rdU1.ch sfx_cX12_tries_384 43 rfl (by decide +kernel))
theorem dX12_tries_429 : decode cX12_tries 429 = .ok (.iaload, 1) := dc0 dO_46 (rdB.ch sfx_cX12_tries_384 45 rfl (by decide +kernel))
theorem dX12_tries_430 : decode cX12_tries 430 = .ok (.baload, 1) := dc0 dO_51 (rdB.ch sfx_cX12_tries_384 46 rfl (by decide +kernel))
theorem dX12_tries_431 : decode cX12_tries 431 = .ok (.ifCond .eq 7, 3) := dcS2 dO_153 (rdS2.ch sfx_cX12_tries_384 47 rfl (by decide +kernel))
theorem dX12_tries_434 : decode cX12_tries 434 = .ok (.iconst 0, 1) := dc0 dO_3 (rdB.ch sfx_cX12_tries_384 50 rfl (by decide +kernel))
theorem dX12_tries_435 : decode cX12_tries 435 = .ok (.goto 4, 3) := dcS2 dO_167 (rdS2.ch sfx_cX12_tries_384 51 rfl (by decide +kernel))
theorem dX12_tries_438 : decode cX12_tries 438 = .ok (.iconst 1, 1) := dc0 dO_4 (rdB.ch sfx_cX12_tries_384 54 rfl (by decide +kernel))
theorem dX12_tries_439 : decode cX12_tries 439 = .ok (.iadd, 1) := dc0 dO_96 (rdB.ch sfx_cX12_tries_384 55 rfl (by decide +kernel))
theorem dX12_tries_440 : decode cX12_tries 440 = .ok (.istore 7, 2) := dcU1 dO_54 (rdU1.ch sfx_cX12_tries_384 56 rfl (by decide +kernel))
theorem dX12_tries_442 : decode cX12_tries 442 = .ok (.iinc 8 1, 3) := dcI dO_132 (rdI.ch sfx_cX12_tries_384 58 rfl (by decide +kernel))
theorem dX12_tries_445 : decode cX12_tries 445 = .ok (.goto (-34), 3) := dcS2 dO_167 (rdS2.ch sfx_cX12_tries_384 61 rfl (by decide +kernel))
theorem sfx_cX12_tries_448 : (cX12_tries.data.toList.drop 448).take 67 = [21, 7, 172] := by decide +kernel
theorem dX12_tries_448 : decode cX12_tries 448 = .ok (.iload 7, 2) := dcU1 dO_21 (rdU1.ch sfx_cX12_tries_448 0 rfl (by decide +kernel))
theorem dX12_tries_450 : decode cX12_tries 450 = .ok (.ireturn, 1) := dc0 dO_172 (rdB.ch sfx_cX12_tries_448 2 rfl (by decide +kernel))
end
section
set_option maxRecDepth 4000 in
set_option maxHeartbeats 4000000 in
theorem c_X12_open_r {l : Launch} {D : va_G} {c : Nat → ClassId} {H0 : Heap} {sa : Nat × Nat × (Nat → Int32)} {w : mW} {μ : mM} (hw : mWF w) (hT : mT w μ) {p1 : Int} (hp1 : 0 ≤ p1 ∧ p1 ≤ 46655) {f_w1 : Int} (q_f_w1 : μ 187 ((1 : Int).toNat) = f_w1) {f_w2 : Int} (q_f_w2 : μ 187 ((2 : Int).toNat) = f_w2) {f_w3 : Int} (q_f_w3 : μ 187 ((3 : Int).toNat) = f_w3) {f_w4 : Int} (q_f_w4 : μ 187 ((4 : Int).toNat) = f_w4) {f_w5 : Int} (q_f_w5 : μ 187 ((5 : Int).toNat) = f_w5) {f_w6 : Int} (q_f_w6 : μ 187 ((6 : Int).toNat) = f_w6) {f_v1 : Int} (q_f_v1 : μ 184 ((1 : Int).toNat) = f_v1) {f_v2 : Int} (q_f_v2 : μ 184 ((2 : Int).toNat) = f_v2) {f_v3 : Int} (q_f_v3 : μ 184 ((3 : Int).toNat) = f_v3) {f_v4 : Int} (q_f_v4 : μ 184 ((4 : Int).toNat) = f_v4) {f_v5 : Int} (q_f_v5 : μ 184 ((5 : Int).toNat) = f_v5) {f_v6 : Int} (q_f_v6 : μ 184 ((6 : Int).toNat) = f_v6) (hq0 : 1 ≤ f_w1) (hq1 : 1 ≤ f_w2) (hq2 : 1 ≤ f_w3) (hq3 : 1 ≤ f_w4) (hq4 : 1 ≤ f_w5) (hq5 : 1 ≤ f_w6) : sC (gG l D c H0 sa) mX12_open 1 0 0 [.ref 106, iv p1] (mk w μ) (qV w [188999] μ (fun μ1 => ∃ o_h1 o_h2 o_h3 o_h4 o_h5 o_h6 : Int, μ1 188 ((1 : Int).toNat) = o_h1 ∧ μ1 188 ((2 : Int).toNat) = o_h2 ∧ μ1 188 ((3 : Int).toNat) = o_h3 ∧ μ1 188 ((4 : Int).toNat) = o_h4 ∧ μ1 188 ((5 : Int).toNat) = o_h5 ∧ μ1 188 ((6 : Int).toNat) = o_h6 ∧ (o_h1 ≤ f_v1) ∧ (o_h2 ≤ f_v2) ∧ (o_h3 ≤ f_v3) ∧ (o_h4 ≤ f_v4) ∧ (o_h5 ≤ f_v5) ∧ (o_h6 ≤ f_v6) ∧ (digs μ1 188 187 184 p1) ∧ True)) := by
  refine sC.of rfl (by decide) (le_t rfl) ?_
  have ht_f_w1 : (0 ≤ f_w1 ∧ f_w1 ≤ 46656) := by rw [← q_f_w1]; exact hT 187 187 (A_187 hw) ((1 : Int).toNat)
  have ht_f_w2 : (0 ≤ f_w2 ∧ f_w2 ≤ 46656) := by rw [← q_f_w2]; exact hT 187 187 (A_187 hw) ((2 : Int).toNat)
  have ht_f_w3 : (0 ≤ f_w3 ∧ f_w3 ≤ 46656) := by rw [← q_f_w3]; exact hT 187 187 (A_187 hw) ((3 : Int).toNat)
  have ht_f_w4 : (0 ≤ f_w4 ∧ f_w4 ≤ 46656) := by rw [← q_f_w4]; exact hT 187 187 (A_187 hw) ((4 : Int).toNat)
  have ht_f_w5 : (0 ≤ f_w5 ∧ f_w5 ≤ 46656) := by rw [← q_f_w5]; exact hT 187 187 (A_187 hw) ((5 : Int).toNat)
  have ht_f_w6 : (0 ≤ f_w6 ∧ f_w6 ≤ 46656) := by rw [← q_f_w6]; exact hT 187 187 (A_187 hw) ((6 : Int).toNat)
  have ht_f_v1 : (0 ≤ f_v1 ∧ f_v1 ≤ 5) := by rw [← q_f_v1]; exact hT 184 184 (A_184 hw) ((1 : Int).toNat)
  have ht_f_v2 : (0 ≤ f_v2 ∧ f_v2 ≤ 5) := by rw [← q_f_v2]; exact hT 184 184 (A_184 hw) ((2 : Int).toNat)
  have ht_f_v3 : (0 ≤ f_v3 ∧ f_v3 ≤ 5) := by rw [← q_f_v3]; exact hT 184 184 (A_184 hw) ((3 : Int).toNat)
  have ht_f_v4 : (0 ≤ f_v4 ∧ f_v4 ≤ 5) := by rw [← q_f_v4]; exact hT 184 184 (A_184 hw) ((4 : Int).toNat)
  have ht_f_v5 : (0 ≤ f_v5 ∧ f_v5 ≤ 5) := by rw [← q_f_v5]; exact hT 184 184 (A_184 hw) ((5 : Int).toNat)
  have ht_f_v6 : (0 ≤ f_v6 ∧ f_v6 ≤ 5) := by rw [← q_f_v6]; exact hT 184 184 (A_184 hw) ((6 : Int).toNat)
  have h1 : 1 ≤ f_w1 ∧ f_w1 ≤ 46656 := (vc_X12_open_1 hq0 ht_f_w1)
  have h2 : 1 ≤ f_w2 ∧ f_w2 ≤ 46656 := (vc_X12_open_1 hq1 ht_f_w2)
  have h3 : 1 ≤ f_w3 ∧ f_w3 ≤ 46656 := (vc_X12_open_1 hq2 ht_f_w3)
  have h4 : 1 ≤ f_w4 ∧ f_w4 ≤ 46656 := (vc_X12_open_1 hq3 ht_f_w4)
  have h5 : 1 ≤ f_w5 ∧ f_w5 ≤ 46656 := (vc_X12_open_1 hq4 ht_f_w5)
  have h6 : 1 ≤ f_w6 ∧ f_w6 ≤ 46656 := (vc_X12_open_1 hq5 ht_f_w6)
  refine mr_lvE (lv' := [(0, .ref 106), (1, iv p1)]) rfl ?_
  refine mr_iconst (pc := 0) (z := 1) dX12_open_0 ?_
  refine mr_istore_n (pc := 1) (lv' := [(2, iv 1), (0, .ref 106), (1, iv p1)]) dX12_open_1 rfl (by decide) rfl ?_
  refine mr_iload_n (pc := 2) (z := 1) dX12_open_2 rfl rfl ?_
  refine mr_bipush (pc := 3) (z := 6) dX12_open_3 (by decide) ?_
  refine mr_icmp_gt (pc := 5) (tgt := 37) dX12_open_5 (by decide) (r32 (rR (x := 1)) rfl) (r32 (rR (x := 6)) rfl) (fun h => ((vc_X12_states_1 h)).elim) (fun _ => ?_)
  refine sv_aload_n (pc := 8) dX12_open_8 rfl rfl ?_
  refine gf_X12_122 (pc := 9) dX12_open_9 wF_X12_526 (A_106 hw) hT ?_
  refine mr_iload_n (pc := 12) (z := 1) dX12_open_12 rfl rfl ?_
  refine mr_iload_n (pc := 13) (z := p1) dX12_open_13 rfl rfl ?_
  refine sv_aload_n (pc := 14) dX12_open_14 rfl rfl ?_
  refine gf_X12_121 (pc := 15) dX12_open_15 wF_X12_523 (A_106 hw) hT ?_
  refine mr_iload_n (pc := 18) (z := 1) dX12_open_18 rfl rfl ?_
  refine lk_187 (pc := 19) dX12_open_19 (A_187 hw) (rIx (n := 8) (rR (x := 1)) rfl) q_f_w1 ?_
  refine mr_idiv (pc := 20) (x := p1) (y := f_w1) dX12_open_20 (rW (c := 0) (d := 2147483647) hp1 rfl) (vc_X12_open_8 hq0 h1) ?_
  refine mr_gen (P := fun z => 0 ≤ z ∧ z ≤ 46655) (rDivV hp1 (vc_X12_open_8 hq0 h1) rfl) fun z169 q170 h171 => ?_
  refine sv_aload_n (pc := 21) dX12_open_21 rfl rfl ?_
  refine gf_X12_118 (pc := 22) dX12_open_22 wF_X12_514 (A_106 hw) hT ?_
  refine mr_iload_n (pc := 25) (z := 1) dX12_open_25 rfl rfl ?_
  refine lk_184 (pc := 26) dX12_open_26 (A_184 hw) (rIx (n := 7) (rR (x := 1)) rfl) q_f_v1 ?_
  refine mr_iconst (pc := 27) (z := 1) dX12_open_27 ?_
  refine mr_iadd (pc := 28) (x := f_v1) (y := 1) dX12_open_28 ?_
  refine mr_irem (pc := 29) (x := z169) (y := (f_v1 + 1)) dX12_open_29 (rW (c := 0) (d := 2147483647) h171 rfl) (vc_X12_open_9 ht_f_v1) ?_
  refine mr_gen (P := fun z => 0 ≤ z ∧ z ≤ 5) (rModV (rAdd (e := 1) (f := 6) ht_f_v1 (rR (x := 1)) rfl) (vc_X12_open_9 ht_f_v1) rfl) fun z172 q173 h174 => ?_
  refine ss_188 (pc := 30) dX12_open_30 (A_188 hw) hT (rIx (n := 7) (rR (x := 1)) rfl) h174 fun μ175 u176 T177 => ?_
  refine mr_iinc (pc := 31) (lv' := [(2, iv 2), (0, .ref 106), (1, iv p1)]) dX12_open_31 rfl (by decide) rfl ?_
  refine sv_goto (pc := 34) (tgt := 2) dX12_open_34 (by decide) ?_
  refine mr_iload_n (pc := 2) (z := 2) dX12_open_2 rfl rfl ?_
  refine mr_bipush (pc := 3) (z := 6) dX12_open_3 (by decide) ?_
  refine mr_icmp_gt (pc := 5) (tgt := 37) dX12_open_5 (by decide) (r32 (rR (x := 2)) rfl) (r32 (rR (x := 6)) rfl) (fun h => ((vc_X12_open_10 h)).elim) (fun _ => ?_)
  refine sv_aload_n (pc := 8) dX12_open_8 rfl rfl ?_
  refine gf_X12_122 (pc := 9) dX12_open_9 wF_X12_526 (A_106 hw) T177 ?_
  refine mr_iload_n (pc := 12) (z := 2) dX12_open_12 rfl rfl ?_
  refine mr_iload_n (pc := 13) (z := p1) dX12_open_13 rfl rfl ?_
  refine sv_aload_n (pc := 14) dX12_open_14 rfl rfl ?_
  refine gf_X12_121 (pc := 15) dX12_open_15 wF_X12_523 (A_106 hw) T177 ?_
  refine mr_iload_n (pc := 18) (z := 2) dX12_open_18 rfl rfl ?_
  refine lk_187 (pc := 19) dX12_open_19 (A_187 hw) (rIx (n := 8) (rR (x := 2)) rfl) (u176.f (Or.inl (mAt.ne (A_188 hw) (A_187 hw) rfl)) q_f_w2) ?_
  refine mr_idiv (pc := 20) (x := p1) (y := f_w2) dX12_open_20 (rW (c := 0) (d := 2147483647) hp1 rfl) (vc_X12_open_8 hq1 h2) ?_
  refine mr_gen (P := fun z => 0 ≤ z ∧ z ≤ 46655) (rDivV hp1 (vc_X12_open_8 hq1 h2) rfl) fun z178 q179 h180 => ?_
  refine sv_aload_n (pc := 21) dX12_open_21 rfl rfl ?_
  refine gf_X12_118 (pc := 22) dX12_open_22 wF_X12_514 (A_106 hw) T177 ?_
  refine mr_iload_n (pc := 25) (z := 2) dX12_open_25 rfl rfl ?_
  refine lk_184 (pc := 26) dX12_open_26 (A_184 hw) (rIx (n := 7) (rR (x := 2)) rfl) (u176.f (Or.inl (mAt.ne (A_188 hw) (A_184 hw) rfl)) q_f_v2) ?_
  refine mr_iconst (pc := 27) (z := 1) dX12_open_27 ?_
  refine mr_iadd (pc := 28) (x := f_v2) (y := 1) dX12_open_28 ?_
  refine mr_irem (pc := 29) (x := z178) (y := (f_v2 + 1)) dX12_open_29 (rW (c := 0) (d := 2147483647) h180 rfl) (vc_X12_open_9 ht_f_v2) ?_
  refine mr_gen (P := fun z => 0 ≤ z ∧ z ≤ 5) (rModV (rAdd (e := 1) (f := 6) ht_f_v2 (rR (x := 1)) rfl) (vc_X12_open_9 ht_f_v2) rfl) fun z181 q182 h183 => ?_
  refine ss_188 (pc := 30) dX12_open_30 (A_188 hw) T177 (rIx (n := 7) (rR (x := 2)) rfl) h183 fun μ184 u185 T186 => ?_
  refine mr_iinc (pc := 31) (lv' := [(2, iv 3), (0, .ref 106), (1, iv p1)]) dX12_open_31 rfl (by decide) rfl ?_
  refine sv_goto (pc := 34) (tgt := 2) dX12_open_34 (by decide) ?_
  refine mr_iload_n (pc := 2) (z := 3) dX12_open_2 rfl rfl ?_
  refine mr_bipush (pc := 3) (z := 6) dX12_open_3 (by decide) ?_
  refine mr_icmp_gt (pc := 5) (tgt := 37) dX12_open_5 (by decide) (r32 (rR (x := 3)) rfl) (r32 (rR (x := 6)) rfl) (fun h => ((vc_X12_open_13 h)).elim) (fun _ => ?_)
  refine sv_aload_n (pc := 8) dX12_open_8 rfl rfl ?_
  refine gf_X12_122 (pc := 9) dX12_open_9 wF_X12_526 (A_106 hw) T186 ?_
  refine mr_iload_n (pc := 12) (z := 3) dX12_open_12 rfl rfl ?_
  refine mr_iload_n (pc := 13) (z := p1) dX12_open_13 rfl rfl ?_
  refine sv_aload_n (pc := 14) dX12_open_14 rfl rfl ?_
  refine gf_X12_121 (pc := 15) dX12_open_15 wF_X12_523 (A_106 hw) T186 ?_
  refine mr_iload_n (pc := 18) (z := 3) dX12_open_18 rfl rfl ?_
  refine lk_187 (pc := 19) dX12_open_19 (A_187 hw) (rIx (n := 8) (rR (x := 3)) rfl) (u185.f (Or.inl (mAt.ne (A_188 hw) (A_187 hw) rfl)) (u176.f (Or.inl (mAt.ne (A_188 hw) (A_187 hw) rfl)) q_f_w3)) ?_
  refine mr_idiv (pc := 20) (x := p1) (y := f_w3) dX12_open_20 (rW (c := 0) (d := 2147483647) hp1 rfl) (vc_X12_open_8 hq2 h3) ?_
  refine mr_gen (P := fun z => 0 ≤ z ∧ z ≤ 46655) (rDivV hp1 (vc_X12_open_8 hq2 h3) rfl) fun z187 q188 h189 => ?_
  refine sv_aload_n (pc := 21) dX12_open_21 rfl rfl ?_
  refine gf_X12_118 (pc := 22) dX12_open_22 wF_X12_514 (A_106 hw) T186 ?_
  refine mr_iload_n (pc := 25) (z := 3) dX12_open_25 rfl rfl ?_
  refine lk_184 (pc := 26) dX12_open_26 (A_184 hw) (rIx (n := 7) (rR (x := 3)) rfl) (u185.f (Or.inl (mAt.ne (A_188 hw) (A_184 hw) rfl)) (u176.f (Or.inl (mAt.ne (A_188 hw) (A_184 hw) rfl)) q_f_v3)) ?_
  refine mr_iconst (pc := 27) (z := 1) dX12_open_27 ?_
  refine mr_iadd (pc := 28) (x := f_v3) (y := 1) dX12_open_28 ?_
  refine mr_irem (pc := 29) (x := z187) (y := (f_v3 + 1)) dX12_open_29 (rW (c := 0) (d := 2147483647) h189 rfl) (vc_X12_open_9 ht_f_v3) ?_
  refine mr_gen (P := fun z => 0 ≤ z ∧ z ≤ 5) (rModV (rAdd (e := 1) (f := 6) ht_f_v3 (rR (x := 1)) rfl) (vc_X12_open_9 ht_f_v3) rfl) fun z190 q191 h192 => ?_
  refine ss_188 (pc := 30) dX12_open_30 (A_188 hw) T186 (rIx (n := 7) (rR (x := 3)) rfl) h192 fun μ193 u194 T195 => ?_
  refine mr_iinc (pc := 31) (lv' := [(2, iv 4), (0, .ref 106), (1, iv p1)]) dX12_open_31 rfl (by decide) rfl ?_
  refine sv_goto (pc := 34) (tgt := 2) dX12_open_34 (by decide) ?_
  refine mr_iload_n (pc := 2) (z := 4) dX12_open_2 rfl rfl ?_
  refine mr_bipush (pc := 3) (z := 6) dX12_open_3 (by decide) ?_
  refine mr_icmp_gt (pc := 5) (tgt := 37) dX12_open_5 (by decide) (r32 (rR (x := 4)) rfl) (r32 (rR (x := 6)) rfl) (fun h => ((vc_X12_open_16 h)).elim) (fun _ => ?_)
  refine sv_aload_n (pc := 8) dX12_open_8 rfl rfl ?_
  refine gf_X12_122 (pc := 9) dX12_open_9 wF_X12_526 (A_106 hw) T195 ?_
  refine mr_iload_n (pc := 12) (z := 4) dX12_open_12 rfl rfl ?_
  refine mr_iload_n (pc := 13) (z := p1) dX12_open_13 rfl rfl ?_
  refine sv_aload_n (pc := 14) dX12_open_14 rfl rfl ?_
  refine gf_X12_121 (pc := 15) dX12_open_15 wF_X12_523 (A_106 hw) T195 ?_
  refine mr_iload_n (pc := 18) (z := 4) dX12_open_18 rfl rfl ?_
  refine lk_187 (pc := 19) dX12_open_19 (A_187 hw) (rIx (n := 8) (rR (x := 4)) rfl) (u194.f (Or.inl (mAt.ne (A_188 hw) (A_187 hw) rfl)) (u185.f (Or.inl (mAt.ne (A_188 hw) (A_187 hw) rfl)) (u176.f (Or.inl (mAt.ne (A_188 hw) (A_187 hw) rfl)) q_f_w4))) ?_
  refine mr_idiv (pc := 20) (x := p1) (y := f_w4) dX12_open_20 (rW (c := 0) (d := 2147483647) hp1 rfl) (vc_X12_open_8 hq3 h4) ?_
  refine mr_gen (P := fun z => 0 ≤ z ∧ z ≤ 46655) (rDivV hp1 (vc_X12_open_8 hq3 h4) rfl) fun z196 q197 h198 => ?_
  refine sv_aload_n (pc := 21) dX12_open_21 rfl rfl ?_
  refine gf_X12_118 (pc := 22) dX12_open_22 wF_X12_514 (A_106 hw) T195 ?_
  refine mr_iload_n (pc := 25) (z := 4) dX12_open_25 rfl rfl ?_
  refine lk_184 (pc := 26) dX12_open_26 (A_184 hw) (rIx (n := 7) (rR (x := 4)) rfl) (u194.f (Or.inl (mAt.ne (A_188 hw) (A_184 hw) rfl)) (u185.f (Or.inl (mAt.ne (A_188 hw) (A_184 hw) rfl)) (u176.f (Or.inl (mAt.ne (A_188 hw) (A_184 hw) rfl)) q_f_v4))) ?_
  refine mr_iconst (pc := 27) (z := 1) dX12_open_27 ?_
  refine mr_iadd (pc := 28) (x := f_v4) (y := 1) dX12_open_28 ?_
  refine mr_irem (pc := 29) (x := z196) (y := (f_v4 + 1)) dX12_open_29 (rW (c := 0) (d := 2147483647) h198 rfl) (vc_X12_open_9 ht_f_v4) ?_
  refine mr_gen (P := fun z => 0 ≤ z ∧ z ≤ 5) (rModV (rAdd (e := 1) (f := 6) ht_f_v4 (rR (x := 1)) rfl) (vc_X12_open_9 ht_f_v4) rfl) fun z199 q200 h201 => ?_
  refine ss_188 (pc := 30) dX12_open_30 (A_188 hw) T195 (rIx (n := 7) (rR (x := 4)) rfl) h201 fun μ202 u203 T204 => ?_
  refine mr_iinc (pc := 31) (lv' := [(2, iv 5), (0, .ref 106), (1, iv p1)]) dX12_open_31 rfl (by decide) rfl ?_
  refine sv_goto (pc := 34) (tgt := 2) dX12_open_34 (by decide) ?_
  refine mr_iload_n (pc := 2) (z := 5) dX12_open_2 rfl rfl ?_
  refine mr_bipush (pc := 3) (z := 6) dX12_open_3 (by decide) ?_
  refine mr_icmp_gt (pc := 5) (tgt := 37) dX12_open_5 (by decide) (r32 (rR (x := 5)) rfl) (r32 (rR (x := 6)) rfl) (fun h => ((vc_X12_open_19 h)).elim) (fun _ => ?_)
  refine sv_aload_n (pc := 8) dX12_open_8 rfl rfl ?_
  refine gf_X12_122 (pc := 9) dX12_open_9 wF_X12_526 (A_106 hw) T204 ?_
  refine mr_iload_n (pc := 12) (z := 5) dX12_open_12 rfl rfl ?_
  refine mr_iload_n (pc := 13) (z := p1) dX12_open_13 rfl rfl ?_
  refine sv_aload_n (pc := 14) dX12_open_14 rfl rfl ?_
  refine gf_X12_121 (pc := 15) dX12_open_15 wF_X12_523 (A_106 hw) T204 ?_
  refine mr_iload_n (pc := 18) (z := 5) dX12_open_18 rfl rfl ?_
  refine lk_187 (pc := 19) dX12_open_19 (A_187 hw) (rIx (n := 8) (rR (x := 5)) rfl) (u203.f (Or.inl (mAt.ne (A_188 hw) (A_187 hw) rfl)) (u194.f (Or.inl (mAt.ne (A_188 hw) (A_187 hw) rfl)) (u185.f (Or.inl (mAt.ne (A_188 hw) (A_187 hw) rfl)) (u176.f (Or.inl (mAt.ne (A_188 hw) (A_187 hw) rfl)) q_f_w5)))) ?_
  refine mr_idiv (pc := 20) (x := p1) (y := f_w5) dX12_open_20 (rW (c := 0) (d := 2147483647) hp1 rfl) (vc_X12_open_8 hq4 h5) ?_
  refine mr_gen (P := fun z => 0 ≤ z ∧ z ≤ 46655) (rDivV hp1 (vc_X12_open_8 hq4 h5) rfl) fun z205 q206 h207 => ?_
  refine sv_aload_n (pc := 21) dX12_open_21 rfl rfl ?_
  refine gf_X12_118 (pc := 22) dX12_open_22 wF_X12_514 (A_106 hw) T204 ?_
  refine mr_iload_n (pc := 25) (z := 5) dX12_open_25 rfl rfl ?_
  refine lk_184 (pc := 26) dX12_open_26 (A_184 hw) (rIx (n := 7) (rR (x := 5)) rfl) (u203.f (Or.inl (mAt.ne (A_188 hw) (A_184 hw) rfl)) (u194.f (Or.inl (mAt.ne (A_188 hw) (A_184 hw) rfl)) (u185.f (Or.inl (mAt.ne (A_188 hw) (A_184 hw) rfl)) (u176.f (Or.inl (mAt.ne (A_188 hw) (A_184 hw) rfl)) q_f_v5)))) ?_
  refine mr_iconst (pc := 27) (z := 1) dX12_open_27 ?_
  refine mr_iadd (pc := 28) (x := f_v5) (y := 1) dX12_open_28 ?_
  refine mr_irem (pc := 29) (x := z205) (y := (f_v5 + 1)) dX12_open_29 (rW (c := 0) (d := 2147483647) h207 rfl) (vc_X12_open_9 ht_f_v5) ?_
  refine mr_gen (P := fun z => 0 ≤ z ∧ z ≤ 5) (rModV (rAdd (e := 1) (f := 6) ht_f_v5 (rR (x := 1)) rfl) (vc_X12_open_9 ht_f_v5) rfl) fun z208 q209 h210 => ?_
  refine ss_188 (pc := 30) dX12_open_30 (A_188 hw) T204 (rIx (n := 7) (rR (x := 5)) rfl) h210 fun μ211 u212 T213 => ?_
  refine mr_iinc (pc := 31) (lv' := [(2, iv 6), (0, .ref 106), (1, iv p1)]) dX12_open_31 rfl (by decide) rfl ?_
  refine sv_goto (pc := 34) (tgt := 2) dX12_open_34 (by decide) ?_
  refine mr_iload_n (pc := 2) (z := 6) dX12_open_2 rfl rfl ?_
  refine mr_bipush (pc := 3) (z := 6) dX12_open_3 (by decide) ?_
  refine mr_icmp_gt (pc := 5) (tgt := 37) dX12_open_5 (by decide) (r32 (rR (x := 6)) rfl) (r32 (rR (x := 6)) rfl) (fun h => ((vc_X12_open_22 h)).elim) (fun _ => ?_)
  refine sv_aload_n (pc := 8) dX12_open_8 rfl rfl ?_
  refine gf_X12_122 (pc := 9) dX12_open_9 wF_X12_526 (A_106 hw) T213 ?_
  refine mr_iload_n (pc := 12) (z := 6) dX12_open_12 rfl rfl ?_
  refine mr_iload_n (pc := 13) (z := p1) dX12_open_13 rfl rfl ?_
  refine sv_aload_n (pc := 14) dX12_open_14 rfl rfl ?_
  refine gf_X12_121 (pc := 15) dX12_open_15 wF_X12_523 (A_106 hw) T213 ?_
  refine mr_iload_n (pc := 18) (z := 6) dX12_open_18 rfl rfl ?_
  refine lk_187 (pc := 19) dX12_open_19 (A_187 hw) (rIx (n := 8) (rR (x := 6)) rfl) (u212.f (Or.inl (mAt.ne (A_188 hw) (A_187 hw) rfl)) (u203.f (Or.inl (mAt.ne (A_188 hw) (A_187 hw) rfl)) (u194.f (Or.inl (mAt.ne (A_188 hw) (A_187 hw) rfl)) (u185.f (Or.inl (mAt.ne (A_188 hw) (A_187 hw) rfl)) (u176.f (Or.inl (mAt.ne (A_188 hw) (A_187 hw) rfl)) q_f_w6))))) ?_
  refine mr_idiv (pc := 20) (x := p1) (y := f_w6) dX12_open_20 (rW (c := 0) (d := 2147483647) hp1 rfl) (vc_X12_open_8 hq5 h6) ?_
  refine mr_gen (P := fun z => 0 ≤ z ∧ z ≤ 46655) (rDivV hp1 (vc_X12_open_8 hq5 h6) rfl) fun z214 q215 h216 => ?_
  refine sv_aload_n (pc := 21) dX12_open_21 rfl rfl ?_
  refine gf_X12_118 (pc := 22) dX12_open_22 wF_X12_514 (A_106 hw) T213 ?_
  refine mr_iload_n (pc := 25) (z := 6) dX12_open_25 rfl rfl ?_
  refine lk_184 (pc := 26) dX12_open_26 (A_184 hw) (rIx (n := 7) (rR (x := 6)) rfl) (u212.f (Or.inl (mAt.ne (A_188 hw) (A_184 hw) rfl)) (u203.f (Or.inl (mAt.ne (A_188 hw) (A_184 hw) rfl)) (u194.f (Or.inl (mAt.ne (A_188 hw) (A_184 hw) rfl)) (u185.f (Or.inl (mAt.ne (A_188 hw) (A_184 hw) rfl)) (u176.f (Or.inl (mAt.ne (A_188 hw) (A_184 hw) rfl)) q_f_v6))))) ?_
  refine mr_iconst (pc := 27) (z := 1) dX12_open_27 ?_
  refine mr_iadd (pc := 28) (x := f_v6) (y := 1) dX12_open_28 ?_
  refine mr_irem (pc := 29) (x := z214) (y := (f_v6 + 1)) dX12_open_29 (rW (c := 0) (d := 2147483647) h216 rfl) (vc_X12_open_9 ht_f_v6) ?_
  refine mr_gen (P := fun z => 0 ≤ z ∧ z ≤ 5) (rModV (rAdd (e := 1) (f := 6) ht_f_v6 (rR (x := 1)) rfl) (vc_X12_open_9 ht_f_v6) rfl) fun z217 q218 h219 => ?_
  refine ss_188 (pc := 30) dX12_open_30 (A_188 hw) T213 (rIx (n := 7) (rR (x := 6)) rfl) h219 fun μ220 u221 T222 => ?_
  refine mr_iinc (pc := 31) (lv' := [(2, iv 7), (0, .ref 106), (1, iv p1)]) dX12_open_31 rfl (by decide) rfl ?_
  refine sv_goto (pc := 34) (tgt := 2) dX12_open_34 (by decide) ?_
  refine mr_iload_n (pc := 2) (z := 7) dX12_open_2 rfl rfl ?_
  refine mr_bipush (pc := 3) (z := 6) dX12_open_3 (by decide) ?_
  refine mr_icmp_gt (pc := 5) (tgt := 37) dX12_open_5 (by decide) (r32 (rR (x := 7)) rfl) (r32 (rR (x := 6)) rfl) (fun _ => ?_) (fun h => ((vc_X12_open_25 h)).elim)
  exact mr_vret dX12_open_37 rfl (le_t rfl) (le_t rfl) T222 (mF.up (mF.up (mF.up (mF.up (mF.up (mF.up mF.refl (A_188 hw) u176 rfl) (A_188 hw) u185 rfl) (A_188 hw) u194 rfl) (A_188 hw) u203 rfl) (A_188 hw) u212 rfl) (A_188 hw) u221 rfl) ⟨z172, z181, z190, z199, z208, z217, (u221.f (Or.inr vc_X12_open_30) (u212.f (Or.inr vc_X12_open_29) (u203.f (Or.inr vc_X12_open_28) (u194.f (Or.inr vc_X12_open_27) (u185.f (Or.inr vc_X12_open_26) u176.1))))), (u221.f (Or.inr vc_X12_open_34) (u212.f (Or.inr vc_X12_open_33) (u203.f (Or.inr vc_X12_open_32) (u194.f (Or.inr vc_X12_open_31) u185.1)))), (u221.f (Or.inr vc_X12_open_37) (u212.f (Or.inr vc_X12_open_36) (u203.f (Or.inr vc_X12_open_35) u194.1))), (u221.f (Or.inr vc_X12_open_39) (u212.f (Or.inr vc_X12_open_38) u203.1)), (u221.f (Or.inr vc_X12_open_40) u212.1), u221.1, (vc_X12_open_41 (q173 ▸ Int.emod_lt_of_pos z169 (vc_X12_open_9 ht_f_v1).1) ht_f_v1 h174), (vc_X12_open_41 (q182 ▸ Int.emod_lt_of_pos z178 (vc_X12_open_9 ht_f_v2).1) ht_f_v2 h183), (vc_X12_open_41 (q191 ▸ Int.emod_lt_of_pos z187 (vc_X12_open_9 ht_f_v3).1) ht_f_v3 h192), (vc_X12_open_41 (q200 ▸ Int.emod_lt_of_pos z196 (vc_X12_open_9 ht_f_v4).1) ht_f_v4 h201), (vc_X12_open_41 (q209 ▸ Int.emod_lt_of_pos z205 (vc_X12_open_9 ht_f_v5).1) ht_f_v5 h210), (vc_X12_open_41 (q218 ▸ Int.emod_lt_of_pos z214 (vc_X12_open_9 ht_f_v6).1) ht_f_v6 h219), ⟨dig.mk (u221.f (Or.inr vc_X12_open_30) (u212.f (Or.inr vc_X12_open_29) (u203.f (Or.inr vc_X12_open_28) (u194.f (Or.inr vc_X12_open_27) (u185.f (Or.inr vc_X12_open_26) u176.1))))) (u221.f (Or.inl (mAt.ne (A_188 hw) (A_187 hw) rfl)) (u212.f (Or.inl (mAt.ne (A_188 hw) (A_187 hw) rfl)) (u203.f (Or.inl (mAt.ne (A_188 hw) (A_187 hw) rfl)) (u194.f (Or.inl (mAt.ne (A_188 hw) (A_187 hw) rfl)) (u185.f (Or.inl (mAt.ne (A_188 hw) (A_187 hw) rfl)) (u176.f (Or.inl (mAt.ne (A_188 hw) (A_187 hw) rfl)) q_f_w1)))))) (u221.f (Or.inl (mAt.ne (A_188 hw) (A_184 hw) rfl)) (u212.f (Or.inl (mAt.ne (A_188 hw) (A_184 hw) rfl)) (u203.f (Or.inl (mAt.ne (A_188 hw) (A_184 hw) rfl)) (u194.f (Or.inl (mAt.ne (A_188 hw) (A_184 hw) rfl)) (u185.f (Or.inl (mAt.ne (A_188 hw) (A_184 hw) rfl)) (u176.f (Or.inl (mAt.ne (A_188 hw) (A_184 hw) rfl)) q_f_v1)))))) q170 q173, dig.mk (u221.f (Or.inr vc_X12_open_34) (u212.f (Or.inr vc_X12_open_33) (u203.f (Or.inr vc_X12_open_32) (u194.f (Or.inr vc_X12_open_31) u185.1)))) (u221.f (Or.inl (mAt.ne (A_188 hw) (A_187 hw) rfl)) (u212.f (Or.inl (mAt.ne (A_188 hw) (A_187 hw) rfl)) (u203.f (Or.inl (mAt.ne (A_188 hw) (A_187 hw) rfl)) (u194.f (Or.inl (mAt.ne (A_188 hw) (A_187 hw) rfl)) (u185.f (Or.inl (mAt.ne (A_188 hw) (A_187 hw) rfl)) (u176.f (Or.inl (mAt.ne (A_188 hw) (A_187 hw) rfl)) q_f_w2)))))) (u221.f (Or.inl (mAt.ne (A_188 hw) (A_184 hw) rfl)) (u212.f (Or.inl (mAt.ne (A_188 hw) (A_184 hw) rfl)) (u203.f (Or.inl (mAt.ne (A_188 hw) (A_184 hw) rfl)) (u194.f (Or.inl (mAt.ne (A_188 hw) (A_184 hw) rfl)) (u185.f (Or.inl (mAt.ne (A_188 hw) (A_184 hw) rfl)) (u176.f (Or.inl (mAt.ne (A_188 hw) (A_184 hw) rfl)) q_f_v2)))))) q179 q182, dig.mk (u221.f (Or.inr vc_X12_open_37) (u212.f (Or.inr vc_X12_open_36) (u203.f (Or.inr vc_X12_open_35) u194.1))) (u221.f (Or.inl (mAt.ne (A_188 hw) (A_187 hw) rfl)) (u212.f (Or.inl (mAt.ne (A_188 hw) (A_187 hw) rfl)) (u203.f (Or.inl (mAt.ne (A_188 hw) (A_187 hw) rfl)) (u194.f (Or.inl (mAt.ne (A_188 hw) (A_187 hw) rfl)) (u185.f (Or.inl (mAt.ne (A_188 hw) (A_187 hw) rfl)) (u176.f (Or.inl (mAt.ne (A_188 hw) (A_187 hw) rfl)) q_f_w3)))))) (u221.f (Or.inl (mAt.ne (A_188 hw) (A_184 hw) rfl)) (u212.f (Or.inl (mAt.ne (A_188 hw) (A_184 hw) rfl)) (u203.f (Or.inl (mAt.ne (A_188 hw) (A_184 hw) rfl)) (u194.f (Or.inl (mAt.ne (A_188 hw) (A_184 hw) rfl)) (u185.f (Or.inl (mAt.ne (A_188 hw) (A_184 hw) rfl)) (u176.f (Or.inl (mAt.ne (A_188 hw) (A_184 hw) rfl)) q_f_v3)))))) q188 q191, dig.mk (u221.f (Or.inr vc_X12_open_39) (u212.f (Or.inr vc_X12_open_38) u203.1)) (u221.f (Or.inl (mAt.ne (A_188 hw) (A_187 hw) rfl)) (u212.f (Or.inl (mAt.ne (A_188 hw) (A_187 hw) rfl)) (u203.f (Or.inl (mAt.ne (A_188 hw) (A_187 hw) rfl)) (u194.f (Or.inl (mAt.ne (A_188 hw) (A_187 hw) rfl)) (u185.f (Or.inl (mAt.ne (A_188 hw) (A_187 hw) rfl)) (u176.f (Or.inl (mAt.ne (A_188 hw) (A_187 hw) rfl)) q_f_w4)))))) (u221.f (Or.inl (mAt.ne (A_188 hw) (A_184 hw) rfl)) (u212.f (Or.inl (mAt.ne (A_188 hw) (A_184 hw) rfl)) (u203.f (Or.inl (mAt.ne (A_188 hw) (A_184 hw) rfl)) (u194.f (Or.inl (mAt.ne (A_188 hw) (A_184 hw) rfl)) (u185.f (Or.inl (mAt.ne (A_188 hw) (A_184 hw) rfl)) (u176.f (Or.inl (mAt.ne (A_188 hw) (A_184 hw) rfl)) q_f_v4)))))) q197 q200, dig.mk (u221.f (Or.inr vc_X12_open_40) u212.1) (u221.f (Or.inl (mAt.ne (A_188 hw) (A_187 hw) rfl)) (u212.f (Or.inl (mAt.ne (A_188 hw) (A_187 hw) rfl)) (u203.f (Or.inl (mAt.ne (A_188 hw) (A_187 hw) rfl)) (u194.f (Or.inl (mAt.ne (A_188 hw) (A_187 hw) rfl)) (u185.f (Or.inl (mAt.ne (A_188 hw) (A_187 hw) rfl)) (u176.f (Or.inl (mAt.ne (A_188 hw) (A_187 hw) rfl)) q_f_w5)))))) (u221.f (Or.inl (mAt.ne (A_188 hw) (A_184 hw) rfl)) (u212.f (Or.inl (mAt.ne (A_188 hw) (A_184 hw) rfl)) (u203.f (Or.inl (mAt.ne (A_188 hw) (A_184 hw) rfl)) (u194.f (Or.inl (mAt.ne (A_188 hw) (A_184 hw) rfl)) (u185.f (Or.inl (mAt.ne (A_188 hw) (A_184 hw) rfl)) (u176.f (Or.inl (mAt.ne (A_188 hw) (A_184 hw) rfl)) q_f_v5)))))) q206 q209, dig.mk u221.1 (u221.f (Or.inl (mAt.ne (A_188 hw) (A_187 hw) rfl)) (u212.f (Or.inl (mAt.ne (A_188 hw) (A_187 hw) rfl)) (u203.f (Or.inl (mAt.ne (A_188 hw) (A_187 hw) rfl)) (u194.f (Or.inl (mAt.ne (A_188 hw) (A_187 hw) rfl)) (u185.f (Or.inl (mAt.ne (A_188 hw) (A_187 hw) rfl)) (u176.f (Or.inl (mAt.ne (A_188 hw) (A_187 hw) rfl)) q_f_w6)))))) (u221.f (Or.inl (mAt.ne (A_188 hw) (A_184 hw) rfl)) (u212.f (Or.inl (mAt.ne (A_188 hw) (A_184 hw) rfl)) (u203.f (Or.inl (mAt.ne (A_188 hw) (A_184 hw) rfl)) (u194.f (Or.inl (mAt.ne (A_188 hw) (A_184 hw) rfl)) (u185.f (Or.inl (mAt.ne (A_188 hw) (A_184 hw) rfl)) (u176.f (Or.inl (mAt.ne (A_188 hw) (A_184 hw) rfl)) q_f_v6)))))) q215 q218⟩, trivial⟩
end
section
/-! The class's queue of states: cells q (queue) and f (flags); no entry's flag is c. -/
def quC (μ : mM) (q f : Nat) (n N c : Int) : Prop := (∀ i : Int, 0 ≤ i → i < n → 0 ≤ μ q i.toNat ∧ μ q i.toNat < N ∧ μ f (μ q i.toNat).toNat ≠ c) ∧ dist μ q n
theorem quC.pig {μ : mM} {q f : Nat} {n N c : Int} (h : quC μ q f n N c) (hN : 0 ≤ N) : n ≤ N := by
  by_cases h0 : n ≤ 0
  · omega
  · have := pigeon N.toNat n.toNat (fun i => (μ q i).toNat) (fun i hi => by have := h.1 i (by omega) (by omega); have e : ((i : Int)).toNat = i := rfl; rw [e] at this; show (μ q i).toNat < N.toNat; omega) (fun i j hij hj => by
      have h1 := h.2 i j (by omega) (by omega) (by omega)
      have h2 := h.1 i (by omega) (by omega)
      have h3 := h.1 j (by omega) (by omega)
      have e1 : ((i : Int)).toNat = i := rfl
      have e2 : ((j : Int)).toNat = j := rfl
      rw [e1] at h1 h2
      rw [e2] at h1 h3
      show (μ q i).toNat ≠ (μ q j).toNat
      omega)
    omega
theorem quC.st {μ : mM} {q f : Nat} {n N c i s : Int} (h : quC μ q f n N c) (h0 : 0 ≤ i) (h1 : i < n) (e : μ q i.toNat = s) : 0 ≤ s ∧ s < N := by
  have := h.1 i h0 h1
  rw [e] at this; exact ⟨this.1, this.2.1⟩
theorem quC.fl {μ : mM} {q f : Nat} {n N c i s v : Int} (h : quC μ q f n N c) (h0 : 0 ≤ i) (h1 : i < n) (e : μ q i.toNat = s) (ev : μ f s.toNat = v) : ¬ v = c := by
  have := h.1 i h0 h1
  rw [e, ev] at this; exact this.2.2
theorem quC.keep {l : List Nat} {w : mW} {μ μ1 : mM} {q f sq sf : Nat} {n N c : Int} (h : quC μ q f n N c) (hF : mF l w μ μ1) (hQ : mAt w q sq) (hG : mAt w f sf) (lq : ∀ i, l.elem (1000 * sq + (if mArr sq then 999 else i)) = false) (lf : ∀ i, l.elem (1000 * sf + (if mArr sf then 999 else i)) = false) : quC μ1 q f n N c := by
  have e1 : μ1 q = μ q := funext fun i => hF.f hQ (lq i) rfl
  have e2 : μ1 f = μ f := funext fun i => hF.f hG (lf i) rfl
  unfold quC dist at h ⊢
  rw [e1, e2]; exact h
theorem quC.push {μ μ1 μ2 : mM} {q f : Nat} {n N c t v o : Int} (h : quC μ q f n N c) (hqf : f ≠ q) (hn : 0 ≤ n) (ht : 0 ≤ t ∧ t < N) (qo : μ f t.toNat = o) (ho : o = c) (u1 : mU μ f t.toNat v μ1) (hv : ¬ v = c) (u2 : mU μ1 q n.toNat t μ2) : quC μ2 q f (n + 1) N c := by
  have hq : ∀ i : Int, 0 ≤ i → i < n → μ2 q i.toNat = μ q i.toNat := fun i h0 h1 => by rw [u2.2 q _ (Or.inr (by omega)), u1.2 q _ (Or.inl (Ne.symm hqf))]
  have hn2 : μ2 q n.toNat = t := u2.1
  have ne : ∀ i : Int, 0 ≤ i → i < n → μ q i.toNat ≠ t := fun i h0 h1 e => by
    have := h.1 i h0 h1
    rw [e, qo] at this; exact this.2.2 ho
  refine ⟨fun i h0 h1 => ?_, ?_⟩
  · by_cases he : i = n
    · rw [he, hn2, u2.2 f _ (Or.inl hqf), u1.1]; exact ⟨ht.1, ht.2, hv⟩
    · have g := h.1 i h0 (by omega)
      have gn := ne i h0 (by omega)
      rw [hq i h0 (by omega), u2.2 f _ (Or.inl hqf), u1.2 f _ (Or.inr (by omega))]
      exact g
  · intro i j hi hij hj
    by_cases he : j = n
    · rw [he, hn2, hq i hi (by omega)]; exact ne i hi (by omega)
    · rw [hq i hi (by omega), hq j (by omega) (by omega)]; exact h.2 i j hi hij (by omega)
theorem quC.room {μ : mM} {q f : Nat} {n N c t o : Int} (h : quC μ q f n N c) (hqf : f ≠ q) (hn : 0 ≤ n) (ht : 0 ≤ t ∧ t < N) (qo : μ f t.toNat = o) (ho : o = c) : n < N := by
  have := (h.push hqf hn ht qo ho mUp_ok (show ¬ c + 1 = c by omega) mUp_ok).pig (by omega)
  omega
theorem quC.set {μ μ1 : mM} {q f : Nat} {n N c e v : Int} (h : quC μ q f n N c) (hqf : q ≠ f) (u : mU μ f e.toNat v μ1) (hv : ¬ v = c) : quC μ1 q f n N c := by
  have e1 : μ1 q = μ q := funext fun i => u.2 q i (Or.inl hqf)
  refine ⟨fun i h0 h1 => ?_, ?_⟩
  · have g := h.1 i h0 h1
    rw [e1]
    refine ⟨g.1, g.2.1, ?_⟩
    by_cases he : (μ q i.toNat).toNat = e.toNat
    · rw [he, u.1]; exact hv
    · rw [u.2 f _ (Or.inr he)]; exact g.2.2
  · have := h.2
    unfold dist at this ⊢
    rw [e1]; exact this
theorem quC.init {μ μ1 μ2 : mM} {q f : Nat} {N e : Int} (hqf : q ≠ f) (he : e = N - 1) (hN : 1 ≤ N) (u1 : mU μ q (0 : Int).toNat e μ1) (u2 : mU μ1 f e.toNat 1 μ2) : quC μ2 q f 1 N 0 := by
  have h0 : μ2 q (0 : Int).toNat = e := by rw [u2.2 q _ (Or.inl hqf), u1.1]
  refine ⟨fun i i0 i1 => ?_, fun i j i0 ij j1 => by omega⟩
  have : i = 0 := by omega
  subst this
  rw [h0, u2.1]
  exact ⟨by omega, by omega, by decide⟩
/-- states in order, with a flag that isn't 1 -/
def quA (μ : mM) (q f : Nat) (n k c : Int) : Prop := (∀ i : Int, 0 ≤ i → i < n → 0 ≤ μ q i.toNat ∧ μ q i.toNat < k ∧ μ f (μ q i.toNat).toNat ≠ c) ∧ dist μ q n
theorem quA.add {μ μ1 : mM} {q f : Nat} {n k c v : Int} (h : quC μ q f n k c) (hqf : f ≠ q) (hn : 0 ≤ n) (hk : 0 ≤ k) (qv : μ f k.toNat = v) (hv : ¬ v = c) (u : mU μ q n.toNat k μ1) : quC μ1 q f (n + 1) (k + 1) c := by
  have hq : ∀ i : Int, 0 ≤ i → i < n → μ1 q i.toNat = μ q i.toNat := fun i h0 h1 => u.2 q _ (Or.inr (by omega))
  have hf : ∀ j, μ1 f j = μ f j := fun j => u.2 f j (Or.inl hqf)
  refine ⟨fun i h0 h1 => ?_, ?_⟩
  · by_cases he : i = n
    · rw [he, u.1, hf, qv]; exact ⟨hk, by omega, hv⟩
    · have g := h.1 i h0 (by omega)
      rw [hq i h0 (by omega), hf]
      exact ⟨g.1, by omega, g.2.2⟩
  · intro i j hi hij hj
    by_cases he : j = n
    · rw [he, u.1, hq i hi (by omega)]
      have g := h.1 i hi (by omega)
      omega
    · rw [hq i hi (by omega), hq j (by omega) (by omega)]; exact h.2 i j hi hij (by omega)
theorem quC.up {μ : mM} {q f : Nat} {n k m c : Int} (h : quC μ q f n k c) (hm : k ≤ m) : quC μ q f n m c := ⟨fun i h0 h1 => by have g := h.1 i h0 h1; exact ⟨g.1, by omega, g.2.2⟩, h.2⟩
theorem quC.zero {μ : mM} {q f : Nat} {N c : Int} : quC μ q f 0 N c := ⟨fun i h0 h1 => by omega, fun i j h0 h1 h2 => by omega⟩
theorem flag_fin : ∀ v : Fin 256, bByte (bOr ((v.val : Int) - 128) 2) ≠ 0 ∧ bByte (bOr ((v.val : Int) - 128) 2) ≠ 1 := by decide +kernel
theorem flag2 {v a z : Int} (hv : -128 ≤ v ∧ v ≤ 127) (q1 : bOr v 2 = a) (q2 : bByte a = z) : ¬ z = 0 ∧ ¬ z = 1 := by
  subst q1; subst q2
  have := flag_fin ⟨(v + 128).toNat, by omega⟩
  have e : (((v + 128).toNat : Nat) : Int) - 128 = v := by omega
  simp only [e] at this
  exact this
theorem and2_fin : bAnd 1 2 = 0 := by decide +kernel
theorem flagA {v z : Int} (q : bAnd v 2 = z) (hz : ¬ z = 0) : ¬ v = 1 := by
  intro e; subst e; rw [and2_fin] at q; exact hz q.symm
theorem refE {w : mW} {μ : mM} {a k s : Nat} (h : 0 ≤ μ a k ∧ mAt w (μ a k).toNat s) : ∃ b : Nat, μ a k = (b : Int) ∧ mAt w b s := ⟨(μ a k).toNat, (Int.toNat_of_nonneg h.1).symm, h.2⟩
theorem figE {μ : mM} {a v k : Nat} {s x y b z : Int} (qa : μ a k = x) (qv : μ v k = y) (e1 : s / x = b) (e2 : b % (y + 1) = z) : z = s / μ a k % (μ v k + 1) := by rw [qa, qv, e1, e2]
theorem figV {μ : mM} {a v k : Nat} {s x y z : Int} (h : z = s / μ a k % (μ v k + 1)) (qa : μ a k = x) (qv : μ v k = y) : z = s / x % (y + 1) := by rw [qa, qv] at h; exact h
theorem dig.mk2 {μ : mM} {h a v p : Nat} {s z x y : Int} (qh : μ h p = z) (qa : μ a p = x) (qv : μ v p = y) (e : z = s / x % (y + 1)) : dig μ h a v s p := by
  unfold dig; rw [qh, qa, qv]; exact e
theorem lenLe {w : mW} {b : Nat} {x y n : Int} (h : x ≤ (w.2.2.1 b : Int)) (qx : x = y) (qn : (w.2.2.1 b : Int) = n) : y ≤ n := by omega
theorem lenGe {w : mW} {b : Nat} {x y n : Int} (qx : x = y) (qn : (w.2.2.1 b : Int) = n) (h : y ≤ n) : x ≤ (w.2.2.1 b : Int) := by omega
theorem digs.le {μ : mM} {h a v : Nat} {s p y z : Int} (g : digs μ h a v s) (hp : 1 ≤ p ∧ p ≤ 6) (qv : μ v p.toNat = y) (qh : μ h p.toNat = z) (hy : 0 ≤ y) : 0 ≤ z ∧ z ≤ y := by
  have d := g.at hp
  unfold dig at d
  rw [qv, qh] at d
  have h1 := Int.emod_nonneg (s / μ a p.toNat) (show y + 1 ≠ 0 by omega)
  have h2 := Int.emod_lt_of_pos (s / μ a p.toNat) (show 0 < y + 1 by omega)
  omega
def hasLe (μ : mM) (n : Int) : Prop := ∀ i : Nat, 1 ≤ i → i < 7 → μ 101 i ≤ n
theorem hasLe.up {μ μ1 : mM} {n e z : Int} (h : hasLe μ n) (u : mU μ 101 e.toNat z μ1) (hz : z ≤ n) : hasLe μ1 n := fun i h1 hi => by
  by_cases hk : i = e.toNat
  · rw [hk, u.1]; exact hz
  · rw [u.2 101 i (Or.inr hk)]; exact h i h1 hi
theorem hasLe.at {μ : mM} {n e z : Int} (h : hasLe μ n) (he : 1 ≤ e ∧ e ≤ 6) (q : μ 101 e.toNat = z) : z ≤ n := by rw [← q]; exact h _ (by omega) (by omega)
theorem hasLe.le {μ : mM} {n m : Int} (h : hasLe μ n) (hm : n ≤ m) : hasLe μ m := fun i h1 hi => Int.le_trans (h i h1 hi) hm
theorem hasLe.keep {l : List Nat} {w : mW} {μ μ1 : mM} {n : Int} (h : hasLe μ n) (hw : mWF w) (hF : mF l w μ μ1) (hl : l.elem 101999 = false) : hasLe μ1 n := fun i h1 hi => by
  rw [hF.f (z := μ 101 i) (A_101 hw) hl rfl]; exact h i h1 hi
end
section
theorem dX4_addNeighbours_0 : decode cX4_addNeighbours 0 = .ok (.iload_n 2, 1) := dc0 dO_28 (by decide +kernel)
theorem dX4_addNeighbours_1 : decode cX4_addNeighbours 1 = .ok (.istore_n 3, 1) := dc0 dO_62 (by decide +kernel)
theorem dX4_addNeighbours_2 : decode cX4_addNeighbours 2 = .ok (.iconst 1, 1) := dc0 dO_4 (by decide +kernel)
theorem dX4_addNeighbours_3 : decode cX4_addNeighbours 3 = .ok (.istore 4, 2) := dcU1 dO_54 (by decide +kernel)
theorem dX4_addNeighbours_5 : decode cX4_addNeighbours 5 = .ok (.iload 4, 2) := dcU1 dO_21 (by decide +kernel)
theorem dX4_addNeighbours_7 : decode cX4_addNeighbours 7 = .ok (.bipush 7, 2) := dcS1 dO_16 (by decide +kernel)
theorem dX4_addNeighbours_9 : decode cX4_addNeighbours 9 = .ok (.if_icmp .ge 64, 3) := dcS2 dO_162 (by decide +kernel)
theorem dX4_addNeighbours_12 : decode cX4_addNeighbours 12 = .ok (.iload_n 1, 1) := dc0 dO_27 (by decide +kernel)
theorem dX4_addNeighbours_13 : decode cX4_addNeighbours 13 = .ok (.aload_n 0, 1) := dc0 dO_42 (by decide +kernel)
theorem dX4_addNeighbours_14 : decode cX4_addNeighbours 14 = .ok (.iload 4, 2) := dcU1 dO_21 (by decide +kernel)
theorem dX4_addNeighbours_16 : decode cX4_addNeighbours 16 = .ok (.invokevirtual 71, 3) := dcU2 dO_182 (by decide +kernel)
theorem dX4_addNeighbours_19 : decode cX4_addNeighbours 19 = .ok (.aload_n 0, 1) := dc0 dO_42 (by decide +kernel)
theorem dX4_addNeighbours_20 : decode cX4_addNeighbours 20 = .ok (.getfield 30, 3) := dcU2 dO_180 (by decide +kernel)
theorem dX4_addNeighbours_23 : decode cX4_addNeighbours 23 = .ok (.iload 4, 2) := dcU1 dO_21 (by decide +kernel)
theorem dX4_addNeighbours_25 : decode cX4_addNeighbours 25 = .ok (.iaload, 1) := dc0 dO_46 (by decide +kernel)
theorem dX4_addNeighbours_26 : decode cX4_addNeighbours 26 = .ok (.isub, 1) := dc0 dO_100 (by decide +kernel)
theorem dX4_addNeighbours_27 : decode cX4_addNeighbours 27 = .ok (.aload_n 0, 1) := dc0 dO_42 (by decide +kernel)
theorem dX4_addNeighbours_28 : decode cX4_addNeighbours 28 = .ok (.getfield 27, 3) := dcU2 dO_180 (by decide +kernel)
theorem dX4_addNeighbours_31 : decode cX4_addNeighbours 31 = .ok (.iload 4, 2) := dcU1 dO_21 (by decide +kernel)
theorem dX4_addNeighbours_33 : decode cX4_addNeighbours 33 = .ok (.iaload, 1) := dc0 dO_46 (by decide +kernel)
theorem dX4_addNeighbours_34 : decode cX4_addNeighbours 34 = .ok (.imul, 1) := dc0 dO_104 (by decide +kernel)
theorem dX4_addNeighbours_35 : decode cX4_addNeighbours 35 = .ok (.iadd, 1) := dc0 dO_96 (by decide +kernel)
theorem dX4_addNeighbours_36 : decode cX4_addNeighbours 36 = .ok (.istore 5, 2) := dcU1 dO_54 (by decide +kernel)
theorem dX4_addNeighbours_38 : decode cX4_addNeighbours 38 = .ok (.aload_n 0, 1) := dc0 dO_42 (by decide +kernel)
theorem dX4_addNeighbours_39 : decode cX4_addNeighbours 39 = .ok (.getfield 39, 3) := dcU2 dO_180 (by decide +kernel)
theorem dX4_addNeighbours_42 : decode cX4_addNeighbours 42 = .ok (.iload 5, 2) := dcU1 dO_21 (by decide +kernel)
theorem dX4_addNeighbours_44 : decode cX4_addNeighbours 44 = .ok (.baload, 1) := dc0 dO_51 (by decide +kernel)
theorem dX4_addNeighbours_45 : decode cX4_addNeighbours 45 = .ok (.ifCond .ne 22, 3) := dcS2 dO_154 (by decide +kernel)
theorem dX4_addNeighbours_48 : decode cX4_addNeighbours 48 = .ok (.aload_n 0, 1) := dc0 dO_42 (by decide +kernel)
theorem dX4_addNeighbours_49 : decode cX4_addNeighbours 49 = .ok (.getfield 39, 3) := dcU2 dO_180 (by decide +kernel)
theorem dX4_addNeighbours_52 : decode cX4_addNeighbours 52 = .ok (.iload 5, 2) := dcU1 dO_21 (by decide +kernel)
theorem dX4_addNeighbours_54 : decode cX4_addNeighbours 54 = .ok (.iconst 1, 1) := dc0 dO_4 (by decide +kernel)
theorem dX4_addNeighbours_55 : decode cX4_addNeighbours 55 = .ok (.bastore, 1) := dc0 dO_84 (by decide +kernel)
theorem dX4_addNeighbours_56 : decode cX4_addNeighbours 56 = .ok (.aload_n 0, 1) := dc0 dO_42 (by decide +kernel)
theorem dX4_addNeighbours_57 : decode cX4_addNeighbours 57 = .ok (.getfield 33, 3) := dcU2 dO_180 (by decide +kernel)
theorem dX4_addNeighbours_60 : decode cX4_addNeighbours 60 = .ok (.iload_n 3, 1) := dc0 dO_29 (by decide +kernel)
theorem dX4_addNeighbours_61 : decode cX4_addNeighbours 61 = .ok (.iload 5, 2) := dcU1 dO_21 (by decide +kernel)
theorem dX4_addNeighbours_63 : decode cX4_addNeighbours 63 = .ok (.iastore, 1) := dc0 dO_79 (by decide +kernel)
theorem dX4_addNeighbours_64 : decode cX4_addNeighbours 64 = .ok (.iinc 3 1, 3) := dcI dO_132 (by decide +kernel)
theorem dX4_addNeighbours_67 : decode cX4_addNeighbours 67 = .ok (.iinc 4 1, 3) := dcI dO_132 (by decide +kernel)
theorem dX4_addNeighbours_70 : decode cX4_addNeighbours 70 = .ok (.goto (-65), 3) := dcS2 dO_167 (by decide +kernel)
theorem dX4_addNeighbours_73 : decode cX4_addNeighbours 73 = .ok (.iload_n 3, 1) := dc0 dO_29 (by decide +kernel)
theorem dX4_addNeighbours_74 : decode cX4_addNeighbours 74 = .ok (.ireturn, 1) := dc0 dO_172 (by decide +kernel)
theorem dX4_addSources_0 : decode cX4_addSources 0 = .ok (.iload_n 2, 1) := dc0 dO_28 (by decide +kernel)
theorem dX4_addSources_1 : decode cX4_addSources 1 = .ok (.istore_n 3, 1) := dc0 dO_62 (by decide +kernel)
theorem dX4_addSources_2 : decode cX4_addSources 2 = .ok (.iconst 1, 1) := dc0 dO_4 (by decide +kernel)
theorem dX4_addSources_3 : decode cX4_addSources 3 = .ok (.istore 4, 2) := dcU1 dO_54 (by decide +kernel)
theorem dX4_addSources_5 : decode cX4_addSources 5 = .ok (.iload 4, 2) := dcU1 dO_21 (by decide +kernel)
theorem dX4_addSources_7 : decode cX4_addSources 7 = .ok (.bipush 7, 2) := dcS1 dO_16 (by decide +kernel)
theorem dX4_addSources_9 : decode cX4_addSources 9 = .ok (.if_icmp .ge 105, 3) := dcS2 dO_162 (by decide +kernel)
theorem dX4_addSources_12 : decode cX4_addSources 12 = .ok (.aload_n 0, 1) := dc0 dO_42 (by decide +kernel)
theorem dX4_addSources_13 : decode cX4_addSources 13 = .ok (.iload 4, 2) := dcU1 dO_21 (by decide +kernel)
theorem dX4_addSources_15 : decode cX4_addSources 15 = .ok (.invokevirtual 71, 3) := dcU2 dO_182 (by decide +kernel)
theorem dX4_addSources_18 : decode cX4_addSources 18 = .ok (.aload_n 0, 1) := dc0 dO_42 (by decide +kernel)
theorem dX4_addSources_19 : decode cX4_addSources 19 = .ok (.getfield 30, 3) := dcU2 dO_180 (by decide +kernel)
theorem dX4_addSources_22 : decode cX4_addSources 22 = .ok (.iload 4, 2) := dcU1 dO_21 (by decide +kernel)
theorem dX4_addSources_24 : decode cX4_addSources 24 = .ok (.iaload, 1) := dc0 dO_46 (by decide +kernel)
theorem dX4_addSources_25 : decode cX4_addSources 25 = .ok (.if_icmp .eq 6, 3) := dcS2 dO_159 (by decide +kernel)
theorem dX4_addSources_28 : decode cX4_addSources 28 = .ok (.goto 80, 3) := dcS2 dO_167 (by decide +kernel)
theorem dX4_addSources_31 : decode cX4_addSources 31 = .ok (.iconst 0, 1) := dc0 dO_3 (by decide +kernel)
theorem dX4_addSources_32 : decode cX4_addSources 32 = .ok (.istore 5, 2) := dcU1 dO_54 (by decide +kernel)
theorem dX4_addSources_34 : decode cX4_addSources 34 = .ok (.iload 5, 2) := dcU1 dO_21 (by decide +kernel)
theorem dX4_addSources_36 : decode cX4_addSources 36 = .ok (.aload_n 0, 1) := dc0 dO_42 (by decide +kernel)
theorem dX4_addSources_37 : decode cX4_addSources 37 = .ok (.getfield 11, 3) := dcU2 dO_180 (by decide +kernel)
theorem dX4_addSources_40 : decode cX4_addSources 40 = .ok (.iload 4, 2) := dcU1 dO_21 (by decide +kernel)
theorem dX4_addSources_42 : decode cX4_addSources 42 = .ok (.iaload, 1) := dc0 dO_46 (by decide +kernel)
theorem dX4_addSources_43 : decode cX4_addSources 43 = .ok (.if_icmp .gt 65, 3) := dcS2 dO_163 (by decide +kernel)
theorem dX4_addSources_46 : decode cX4_addSources 46 = .ok (.iload_n 1, 1) := dc0 dO_27 (by decide +kernel)
theorem dX4_addSources_47 : decode cX4_addSources 47 = .ok (.iload 5, 2) := dcU1 dO_21 (by decide +kernel)
theorem dX4_addSources_49 : decode cX4_addSources 49 = .ok (.aload_n 0, 1) := dc0 dO_42 (by decide +kernel)
theorem dX4_addSources_50 : decode cX4_addSources 50 = .ok (.getfield 30, 3) := dcU2 dO_180 (by decide +kernel)
theorem dX4_addSources_53 : decode cX4_addSources 53 = .ok (.iload 4, 2) := dcU1 dO_21 (by decide +kernel)
theorem dX4_addSources_55 : decode cX4_addSources 55 = .ok (.iaload, 1) := dc0 dO_46 (by decide +kernel)
theorem dX4_addSources_56 : decode cX4_addSources 56 = .ok (.isub, 1) := dc0 dO_100 (by decide +kernel)
theorem dX4_addSources_57 : decode cX4_addSources 57 = .ok (.aload_n 0, 1) := dc0 dO_42 (by decide +kernel)
theorem dX4_addSources_58 : decode cX4_addSources 58 = .ok (.getfield 27, 3) := dcU2 dO_180 (by decide +kernel)
theorem dX4_addSources_61 : decode cX4_addSources 61 = .ok (.iload 4, 2) := dcU1 dO_21 (by decide +kernel)
theorem dX4_addSources_63 : decode cX4_addSources 63 = .ok (.iaload, 1) := dc0 dO_46 (by decide +kernel)
theorem dX4_addSources_64 : decode cX4_addSources 64 = .ok (.imul, 1) := dc0 dO_104 (by decide +kernel)
theorem dX4_addSources_65 : decode cX4_addSources 65 = .ok (.iadd, 1) := dc0 dO_96 (by decide +kernel)
theorem dX4_addSources_66 : decode cX4_addSources 66 = .ok (.istore 6, 2) := dcU1 dO_54 (by decide +kernel)
theorem dX4_addSources_68 : decode cX4_addSources 68 = .ok (.aload_n 0, 1) := dc0 dO_42 (by decide +kernel)
theorem dX4_addSources_69 : decode cX4_addSources 69 = .ok (.getfield 39, 3) := dcU2 dO_180 (by decide +kernel)
theorem dX4_addSources_72 : decode cX4_addSources 72 = .ok (.iload 6, 2) := dcU1 dO_21 (by decide +kernel)
theorem dX4_addSources_74 : decode cX4_addSources 74 = .ok (.baload, 1) := dc0 dO_51 (by decide +kernel)
theorem dX4_addSources_75 : decode cX4_addSources 75 = .ok (.iconst 1, 1) := dc0 dO_4 (by decide +kernel)
theorem dX4_addSources_76 : decode cX4_addSources 76 = .ok (.if_icmp .ne 26, 3) := dcS2 dO_160 (by decide +kernel)
theorem dX4_addSources_79 : decode cX4_addSources 79 = .ok (.aload_n 0, 1) := dc0 dO_42 (by decide +kernel)
theorem dX4_addSources_80 : decode cX4_addSources 80 = .ok (.getfield 39, 3) := dcU2 dO_180 (by decide +kernel)
theorem dX4_addSources_83 : decode cX4_addSources 83 = .ok (.iload 6, 2) := dcU1 dO_21 (by decide +kernel)
theorem dX4_addSources_85 : decode cX4_addSources 85 = .ok (.dup2, 1) := dc0 dO_92 (by decide +kernel)
theorem dX4_addSources_86 : decode cX4_addSources 86 = .ok (.baload, 1) := dc0 dO_51 (by decide +kernel)
theorem dX4_addSources_87 : decode cX4_addSources 87 = .ok (.iconst 2, 1) := dc0 dO_5 (by decide +kernel)
theorem dX4_addSources_88 : decode cX4_addSources 88 = .ok (.ior, 1) := dc0 dO_128 (by decide +kernel)
theorem dX4_addSources_89 : decode cX4_addSources 89 = .ok (.i2b, 1) := dc0 dO_145 (by decide +kernel)
theorem dX4_addSources_90 : decode cX4_addSources 90 = .ok (.bastore, 1) := dc0 dO_84 (by decide +kernel)
theorem dX4_addSources_91 : decode cX4_addSources 91 = .ok (.aload_n 0, 1) := dc0 dO_42 (by decide +kernel)
theorem dX4_addSources_92 : decode cX4_addSources 92 = .ok (.getfield 33, 3) := dcU2 dO_180 (by decide +kernel)
theorem dX4_addSources_95 : decode cX4_addSources 95 = .ok (.iload_n 3, 1) := dc0 dO_29 (by decide +kernel)
theorem dX4_addSources_96 : decode cX4_addSources 96 = .ok (.iload 6, 2) := dcU1 dO_21 (by decide +kernel)
theorem dX4_addSources_98 : decode cX4_addSources 98 = .ok (.iastore, 1) := dc0 dO_79 (by decide +kernel)
theorem dX4_addSources_99 : decode cX4_addSources 99 = .ok (.iinc 3 1, 3) := dcI dO_132 (by decide +kernel)
theorem dX4_addSources_102 : decode cX4_addSources 102 = .ok (.iinc 5 1, 3) := dcI dO_132 (by decide +kernel)
theorem dX4_addSources_105 : decode cX4_addSources 105 = .ok (.goto (-71), 3) := dcS2 dO_167 (by decide +kernel)
theorem dX4_addSources_108 : decode cX4_addSources 108 = .ok (.iinc 4 1, 3) := dcI dO_132 (by decide +kernel)
theorem dX4_addSources_111 : decode cX4_addSources 111 = .ok (.goto (-106), 3) := dcS2 dO_167 (by decide +kernel)
theorem dX4_addSources_114 : decode cX4_addSources 114 = .ok (.iload_n 3, 1) := dc0 dO_29 (by decide +kernel)
theorem dX4_addSources_115 : decode cX4_addSources 115 = .ok (.ireturn, 1) := dc0 dO_172 (by decide +kernel)
theorem dX4_countUp_0 : decode cX4_countUp 0 = .ok (.bipush 6, 2) := dcS1 dO_16 (by decide +kernel)
theorem dX4_countUp_2 : decode cX4_countUp 2 = .ok (.istore_n 1, 1) := dc0 dO_60 (by decide +kernel)
theorem dX4_countUp_3 : decode cX4_countUp 3 = .ok (.iload_n 1, 1) := dc0 dO_27 (by decide +kernel)
theorem dX4_countUp_4 : decode cX4_countUp 4 = .ok (.iconst 1, 1) := dc0 dO_4 (by decide +kernel)
theorem dX4_countUp_5 : decode cX4_countUp 5 = .ok (.if_icmp .le 31, 3) := dcS2 dO_164 (by decide +kernel)
theorem dX4_countUp_8 : decode cX4_countUp 8 = .ok (.aload_n 0, 1) := dc0 dO_42 (by decide +kernel)
theorem dX4_countUp_9 : decode cX4_countUp 9 = .ok (.getfield 30, 3) := dcU2 dO_180 (by decide +kernel)
theorem dX4_countUp_12 : decode cX4_countUp 12 = .ok (.iload_n 1, 1) := dc0 dO_27 (by decide +kernel)
theorem dX4_countUp_13 : decode cX4_countUp 13 = .ok (.iaload, 1) := dc0 dO_46 (by decide +kernel)
theorem dX4_countUp_14 : decode cX4_countUp 14 = .ok (.aload_n 0, 1) := dc0 dO_42 (by decide +kernel)
theorem dX4_countUp_15 : decode cX4_countUp 15 = .ok (.getfield 11, 3) := dcU2 dO_180 (by decide +kernel)
theorem dX4_countUp_18 : decode cX4_countUp 18 = .ok (.iload_n 1, 1) := dc0 dO_27 (by decide +kernel)
theorem dX4_countUp_19 : decode cX4_countUp 19 = .ok (.iaload, 1) := dc0 dO_46 (by decide +kernel)
theorem dX4_countUp_20 : decode cX4_countUp 20 = .ok (.if_icmp .ne 16, 3) := dcS2 dO_160 (by decide +kernel)
theorem dX4_countUp_23 : decode cX4_countUp 23 = .ok (.aload_n 0, 1) := dc0 dO_42 (by decide +kernel)
theorem dX4_countUp_24 : decode cX4_countUp 24 = .ok (.getfield 30, 3) := dcU2 dO_180 (by decide +kernel)
theorem dX4_countUp_27 : decode cX4_countUp 27 = .ok (.iload_n 1, 1) := dc0 dO_27 (by decide +kernel)
theorem dX4_countUp_28 : decode cX4_countUp 28 = .ok (.iconst 0, 1) := dc0 dO_3 (by decide +kernel)
theorem dX4_countUp_29 : decode cX4_countUp 29 = .ok (.iastore, 1) := dc0 dO_79 (by decide +kernel)
theorem dX4_countUp_30 : decode cX4_countUp 30 = .ok (.iinc 1 (-1), 3) := dcI dO_132 (by decide +kernel)
theorem dX4_countUp_33 : decode cX4_countUp 33 = .ok (.goto (-30), 3) := dcS2 dO_167 (by decide +kernel)
theorem dX4_countUp_36 : decode cX4_countUp 36 = .ok (.aload_n 0, 1) := dc0 dO_42 (by decide +kernel)
theorem dX4_countUp_37 : decode cX4_countUp 37 = .ok (.getfield 30, 3) := dcU2 dO_180 (by decide +kernel)
theorem dX4_countUp_40 : decode cX4_countUp 40 = .ok (.iload_n 1, 1) := dc0 dO_27 (by decide +kernel)
theorem dX4_countUp_41 : decode cX4_countUp 41 = .ok (.dup2, 1) := dc0 dO_92 (by decide +kernel)
theorem dX4_countUp_42 : decode cX4_countUp 42 = .ok (.iaload, 1) := dc0 dO_46 (by decide +kernel)
theorem dX4_countUp_43 : decode cX4_countUp 43 = .ok (.iconst 1, 1) := dc0 dO_4 (by decide +kernel)
theorem dX4_countUp_44 : decode cX4_countUp 44 = .ok (.iadd, 1) := dc0 dO_96 (by decide +kernel)
theorem dX4_countUp_45 : decode cX4_countUp 45 = .ok (.iastore, 1) := dc0 dO_79 (by decide +kernel)
theorem dX4_countUp_46 : decode cX4_countUp 46 = .ok (.return_, 1) := dc0 dO_177 (by decide +kernel)
theorem dX4_find_0 : decode cX4_find 0 = .ok (.aload_n 1, 1) := dc0 dO_43 (by decide +kernel)
theorem dX4_find_1 : decode cX4_find 1 = .ok (.iload_n 2, 1) := dc0 dO_28 (by decide +kernel)
theorem dX4_find_2 : decode cX4_find 2 = .ok (.iaload, 1) := dc0 dO_46 (by decide +kernel)
theorem dX4_find_3 : decode cX4_find 3 = .ok (.istore 4, 2) := dcU1 dO_54 (by decide +kernel)
theorem dX4_find_5 : decode cX4_find 5 = .ok (.iconst 0, 1) := dc0 dO_3 (by decide +kernel)
theorem dX4_find_6 : decode cX4_find 6 = .ok (.istore 5, 2) := dcU1 dO_54 (by decide +kernel)
theorem dX4_find_8 : decode cX4_find 8 = .ok (.iload 5, 2) := dcU1 dO_21 (by decide +kernel)
theorem dX4_find_10 : decode cX4_find 10 = .ok (.aload_n 0, 1) := dc0 dO_42 (by decide +kernel)
theorem dX4_find_11 : decode cX4_find 11 = .ok (.getfield 11, 3) := dcU2 dO_180 (by decide +kernel)
theorem dX4_find_14 : decode cX4_find 14 = .ok (.iload 4, 2) := dcU1 dO_21 (by decide +kernel)
theorem dX4_find_16 : decode cX4_find 16 = .ok (.iaload, 1) := dc0 dO_46 (by decide +kernel)
theorem dX4_find_17 : decode cX4_find 17 = .ok (.if_icmp .ge 93, 3) := dcS2 dO_162 (by decide +kernel)
theorem dX4_find_20 : decode cX4_find 20 = .ok (.iload 4, 2) := dcU1 dO_21 (by decide +kernel)
theorem dX4_find_22 : decode cX4_find 22 = .ok (.iconst 5, 1) := dc0 dO_8 (by decide +kernel)
theorem dX4_find_23 : decode cX4_find 23 = .ok (.imul, 1) := dc0 dO_104 (by decide +kernel)
theorem dX4_find_24 : decode cX4_find 24 = .ok (.iload 5, 2) := dcU1 dO_21 (by decide +kernel)
theorem dX4_find_26 : decode cX4_find 26 = .ok (.iadd, 1) := dc0 dO_96 (by decide +kernel)
theorem dX4_find_27 : decode cX4_find 27 = .ok (.istore 6, 2) := dcU1 dO_54 (by decide +kernel)
theorem dX4_find_29 : decode cX4_find 29 = .ok (.aload_n 0, 1) := dc0 dO_42 (by decide +kernel)
theorem dX4_find_30 : decode cX4_find 30 = .ok (.getfield 18, 3) := dcU2 dO_180 (by decide +kernel)
theorem dX4_find_33 : decode cX4_find 33 = .ok (.iload 6, 2) := dcU1 dO_21 (by decide +kernel)
theorem dX4_find_35 : decode cX4_find 35 = .ok (.iaload, 1) := dc0 dO_46 (by decide +kernel)
theorem dX4_find_36 : decode cX4_find 36 = .ok (.iload_n 3, 1) := dc0 dO_29 (by decide +kernel)
theorem dX4_find_37 : decode cX4_find 37 = .ok (.if_icmp .ne 7, 3) := dcS2 dO_160 (by decide +kernel)
theorem dX4_find_40 : decode cX4_find 40 = .ok (.iconst 1, 1) := dc0 dO_4 (by decide +kernel)
theorem dX4_find_41 : decode cX4_find 41 = .ok (.goto 4, 3) := dcS2 dO_167 (by decide +kernel)
theorem dX4_find_44 : decode cX4_find 44 = .ok (.iconst 0, 1) := dc0 dO_3 (by decide +kernel)
theorem dX4_find_45 : decode cX4_find 45 = .ok (.istore 7, 2) := dcU1 dO_54 (by decide +kernel)
theorem dX4_find_47 : decode cX4_find 47 = .ok (.iconst 0, 1) := dc0 dO_3 (by decide +kernel)
theorem dX4_find_48 : decode cX4_find 48 = .ok (.istore 8, 2) := dcU1 dO_54 (by decide +kernel)
theorem dX4_find_50 : decode cX4_find 50 = .ok (.iload 8, 2) := dcU1 dO_21 (by decide +kernel)
theorem dX4_find_52 : decode cX4_find 52 = .ok (.iload_n 3, 1) := dc0 dO_29 (by decide +kernel)
theorem dX4_find_53 : decode cX4_find 53 = .ok (.if_icmp .ge 43, 3) := dcS2 dO_162 (by decide +kernel)
theorem dX4_find_56 : decode cX4_find 56 = .ok (.iload 7, 2) := dcU1 dO_21 (by decide +kernel)
theorem dX4_find_58 : decode cX4_find 58 = .ok (.ifCond .eq 38, 3) := dcS2 dO_153 (by decide +kernel)
theorem dX4_find_61 : decode cX4_find 61 = .ok (.aload_n 0, 1) := dc0 dO_42 (by decide +kernel)
theorem dX4_find_62 : decode cX4_find 62 = .ok (.getfield 15, 3) := dcU2 dO_180 (by decide +kernel)
theorem dX4_find_65 : decode cX4_find 65 = .ok (.iload 6, 2) := dcU1 dO_21 (by decide +kernel)
theorem dX4_find_67 : decode cX4_find 67 = .ok (.bipush 7, 2) := dcS1 dO_16 (by decide +kernel)
theorem dX4_find_69 : decode cX4_find 69 = .ok (.imul, 1) := dc0 dO_104 (by decide +kernel)
theorem dX4_find_70 : decode cX4_find 70 = .ok (.iload 8, 2) := dcU1 dO_21 (by decide +kernel)
theorem dX4_find_72 : decode cX4_find 72 = .ok (.iadd, 1) := dc0 dO_96 (by decide +kernel)
theorem dX4_find_73 : decode cX4_find 73 = .ok (.iaload, 1) := dc0 dO_46 (by decide +kernel)
theorem dX4_find_74 : decode cX4_find 74 = .ok (.aload_n 1, 1) := dc0 dO_43 (by decide +kernel)
theorem dX4_find_75 : decode cX4_find 75 = .ok (.iload_n 2, 1) := dc0 dO_28 (by decide +kernel)
theorem dX4_find_76 : decode cX4_find 76 = .ok (.iload 8, 2) := dcU1 dO_21 (by decide +kernel)
theorem dX4_find_78 : decode cX4_find 78 = .ok (.iadd, 1) := dc0 dO_96 (by decide +kernel)
theorem dX4_find_79 : decode cX4_find 79 = .ok (.iaload, 1) := dc0 dO_46 (by decide +kernel)
theorem dX4_find_80 : decode cX4_find 80 = .ok (.if_icmp .ne 7, 3) := dcS2 dO_160 (by decide +kernel)
theorem dX4_find_83 : decode cX4_find 83 = .ok (.iconst 1, 1) := dc0 dO_4 (by decide +kernel)
theorem dX4_find_84 : decode cX4_find 84 = .ok (.goto 4, 3) := dcS2 dO_167 (by decide +kernel)
theorem dX4_find_87 : decode cX4_find 87 = .ok (.iconst 0, 1) := dc0 dO_3 (by decide +kernel)
theorem dX4_find_88 : decode cX4_find 88 = .ok (.istore 7, 2) := dcU1 dO_54 (by decide +kernel)
theorem dX4_find_90 : decode cX4_find 90 = .ok (.iinc 8 1, 3) := dcI dO_132 (by decide +kernel)
theorem dX4_find_93 : decode cX4_find 93 = .ok (.goto (-43), 3) := dcS2 dO_167 (by decide +kernel)
theorem dX4_find_96 : decode cX4_find 96 = .ok (.iload 7, 2) := dcU1 dO_21 (by decide +kernel)
theorem dX4_find_98 : decode cX4_find 98 = .ok (.ifCond .eq 6, 3) := dcS2 dO_153 (by decide +kernel)
theorem dX4_find_101 : decode cX4_find 101 = .ok (.iload 5, 2) := dcU1 dO_21 (by decide +kernel)
theorem dX4_find_103 : decode cX4_find 103 = .ok (.ireturn, 1) := dc0 dO_172 (by decide +kernel)
theorem dX4_find_104 : decode cX4_find 104 = .ok (.iinc 5 1, 3) := dcI dO_132 (by decide +kernel)
theorem dX4_find_107 : decode cX4_find 107 = .ok (.goto (-99), 3) := dcS2 dO_167 (by decide +kernel)
theorem dX4_find_110 : decode cX4_find 110 = .ok (.iconst (-1), 1) := dc0 dO_2 (by decide +kernel)
theorem dX4_find_111 : decode cX4_find 111 = .ok (.ireturn, 1) := dc0 dO_172 (by decide +kernel)
theorem dX4_leadBack_0 : decode cX4_leadBack 0 = .ok (.iconst 0, 1) := dc0 dO_3 (by decide +kernel)
theorem dX4_leadBack_1 : decode cX4_leadBack 1 = .ok (.istore_n 1, 1) := dc0 dO_60 (by decide +kernel)
theorem dX4_leadBack_2 : decode cX4_leadBack 2 = .ok (.iconst 0, 1) := dc0 dO_3 (by decide +kernel)
theorem dX4_leadBack_3 : decode cX4_leadBack 3 = .ok (.istore_n 2, 1) := dc0 dO_61 (by decide +kernel)
theorem dX4_leadBack_4 : decode cX4_leadBack 4 = .ok (.iload_n 2, 1) := dc0 dO_28 (by decide +kernel)
theorem dX4_leadBack_5 : decode cX4_leadBack 5 = .ok (.aload_n 0, 1) := dc0 dO_42 (by decide +kernel)
theorem dX4_leadBack_6 : decode cX4_leadBack 6 = .ok (.getfield 59, 3) := dcU2 dO_180 (by decide +kernel)
theorem dX4_leadBack_9 : decode cX4_leadBack 9 = .ok (.if_icmp .ge 30, 3) := dcS2 dO_162 (by decide +kernel)
theorem dX4_leadBack_12 : decode cX4_leadBack 12 = .ok (.aload_n 0, 1) := dc0 dO_42 (by decide +kernel)
theorem dX4_leadBack_13 : decode cX4_leadBack 13 = .ok (.getfield 39, 3) := dcU2 dO_180 (by decide +kernel)
theorem dX4_leadBack_16 : decode cX4_leadBack 16 = .ok (.iload_n 2, 1) := dc0 dO_28 (by decide +kernel)
theorem dX4_leadBack_17 : decode cX4_leadBack 17 = .ok (.baload, 1) := dc0 dO_51 (by decide +kernel)
theorem dX4_leadBack_18 : decode cX4_leadBack 18 = .ok (.iconst 2, 1) := dc0 dO_5 (by decide +kernel)
theorem dX4_leadBack_19 : decode cX4_leadBack 19 = .ok (.iand, 1) := dc0 dO_126 (by decide +kernel)
theorem dX4_leadBack_20 : decode cX4_leadBack 20 = .ok (.ifCond .eq 13, 3) := dcS2 dO_153 (by decide +kernel)
theorem dX4_leadBack_23 : decode cX4_leadBack 23 = .ok (.aload_n 0, 1) := dc0 dO_42 (by decide +kernel)
theorem dX4_leadBack_24 : decode cX4_leadBack 24 = .ok (.getfield 33, 3) := dcU2 dO_180 (by decide +kernel)
theorem dX4_leadBack_27 : decode cX4_leadBack 27 = .ok (.iload_n 1, 1) := dc0 dO_27 (by decide +kernel)
theorem dX4_leadBack_28 : decode cX4_leadBack 28 = .ok (.iload_n 2, 1) := dc0 dO_28 (by decide +kernel)
theorem dX4_leadBack_29 : decode cX4_leadBack 29 = .ok (.iastore, 1) := dc0 dO_79 (by decide +kernel)
theorem dX4_leadBack_30 : decode cX4_leadBack 30 = .ok (.iinc 1 1, 3) := dcI dO_132 (by decide +kernel)
theorem dX4_leadBack_33 : decode cX4_leadBack 33 = .ok (.iinc 2 1, 3) := dcI dO_132 (by decide +kernel)
theorem dX4_leadBack_36 : decode cX4_leadBack 36 = .ok (.goto (-32), 3) := dcS2 dO_167 (by decide +kernel)
theorem dX4_leadBack_39 : decode cX4_leadBack 39 = .ok (.iconst 0, 1) := dc0 dO_3 (by decide +kernel)
theorem dX4_leadBack_40 : decode cX4_leadBack 40 = .ok (.istore_n 2, 1) := dc0 dO_61 (by decide +kernel)
theorem dX4_leadBack_41 : decode cX4_leadBack 41 = .ok (.iload_n 2, 1) := dc0 dO_28 (by decide +kernel)
theorem dX4_leadBack_42 : decode cX4_leadBack 42 = .ok (.iload_n 1, 1) := dc0 dO_27 (by decide +kernel)
theorem dX4_leadBack_43 : decode cX4_leadBack 43 = .ok (.if_icmp .ge 31, 3) := dcS2 dO_162 (by decide +kernel)
theorem dX4_leadBack_46 : decode cX4_leadBack 46 = .ok (.aload_n 0, 1) := dc0 dO_42 (by decide +kernel)
theorem dX4_leadBack_47 : decode cX4_leadBack 47 = .ok (.aload_n 0, 1) := dc0 dO_42 (by decide +kernel)
theorem dX4_leadBack_48 : decode cX4_leadBack 48 = .ok (.getfield 33, 3) := dcU2 dO_180 (by decide +kernel)
theorem dX4_leadBack_51 : decode cX4_leadBack 51 = .ok (.iload_n 2, 1) := dc0 dO_28 (by decide +kernel)
theorem dX4_leadBack_52 : decode cX4_leadBack 52 = .ok (.iaload, 1) := dc0 dO_46 (by decide +kernel)
theorem dX4_leadBack_53 : decode cX4_leadBack 53 = .ok (.invokevirtual 85, 3) := dcU2 dO_182 (by decide +kernel)
theorem dX4_leadBack_56 : decode cX4_leadBack 56 = .ok (.aload_n 0, 1) := dc0 dO_42 (by decide +kernel)
theorem dX4_leadBack_57 : decode cX4_leadBack 57 = .ok (.aload_n 0, 1) := dc0 dO_42 (by decide +kernel)
theorem dX4_leadBack_58 : decode cX4_leadBack 58 = .ok (.getfield 33, 3) := dcU2 dO_180 (by decide +kernel)
theorem dX4_leadBack_61 : decode cX4_leadBack 61 = .ok (.iload_n 2, 1) := dc0 dO_28 (by decide +kernel)
theorem dX4_leadBack_62 : decode cX4_leadBack 62 = .ok (.iaload, 1) := dc0 dO_46 (by decide +kernel)
theorem dX4_leadBack_63 : decode cX4_leadBack 63 = .ok (.iload_n 1, 1) := dc0 dO_27 (by decide +kernel)
theorem dX4_leadBack_64 : decode cX4_leadBack 64 = .ok (.invokevirtual 127, 3) := dcU2 dO_182 (by decide +kernel)
theorem dX4_leadBack_67 : decode cX4_leadBack 67 = .ok (.istore_n 1, 1) := dc0 dO_60 (by decide +kernel)
theorem dX4_leadBack_68 : decode cX4_leadBack 68 = .ok (.iinc 2 1, 3) := dcI dO_132 (by decide +kernel)
theorem dX4_leadBack_71 : decode cX4_leadBack 71 = .ok (.goto (-30), 3) := dcS2 dO_167 (by decide +kernel)
theorem dX4_leadBack_74 : decode cX4_leadBack 74 = .ok (.iload_n 1, 1) := dc0 dO_27 (by decide +kernel)
theorem dX4_leadBack_75 : decode cX4_leadBack 75 = .ok (.ireturn, 1) := dc0 dO_172 (by decide +kernel)
theorem dX4_need_0 : decode cX4_need 0 = .ok (.aload_n 0, 1) := dc0 dO_42 (by decide +kernel)
theorem dX4_need_1 : decode cX4_need 1 = .ok (.getfield 15, 3) := dcU2 dO_180 (by decide +kernel)
theorem dX4_need_4 : decode cX4_need 4 = .ok (.iload_n 1, 1) := dc0 dO_27 (by decide +kernel)
theorem dX4_need_5 : decode cX4_need 5 = .ok (.bipush 7, 2) := dcS1 dO_16 (by decide +kernel)
theorem dX4_need_7 : decode cX4_need 7 = .ok (.imul, 1) := dc0 dO_104 (by decide +kernel)
theorem dX4_need_8 : decode cX4_need 8 = .ok (.iconst 1, 1) := dc0 dO_4 (by decide +kernel)
theorem dX4_need_9 : decode cX4_need 9 = .ok (.iadd, 1) := dc0 dO_96 (by decide +kernel)
theorem dX4_need_10 : decode cX4_need 10 = .ok (.iaload, 1) := dc0 dO_46 (by decide +kernel)
theorem dX4_need_11 : decode cX4_need 11 = .ok (.istore_n 2, 1) := dc0 dO_61 (by decide +kernel)
theorem dX4_need_12 : decode cX4_need 12 = .ok (.aload_n 0, 1) := dc0 dO_42 (by decide +kernel)
theorem dX4_need_13 : decode cX4_need 13 = .ok (.getfield 21, 3) := dcU2 dO_180 (by decide +kernel)
theorem dX4_need_16 : decode cX4_need 16 = .ok (.iload_n 1, 1) := dc0 dO_27 (by decide +kernel)
theorem dX4_need_17 : decode cX4_need 17 = .ok (.iload_n 2, 1) := dc0 dO_28 (by decide +kernel)
theorem dX4_need_18 : decode cX4_need 18 = .ok (.iastore, 1) := dc0 dO_79 (by decide +kernel)
theorem dX4_need_19 : decode cX4_need 19 = .ok (.aload_n 0, 1) := dc0 dO_42 (by decide +kernel)
theorem dX4_need_20 : decode cX4_need 20 = .ok (.getfield 24, 3) := dcU2 dO_180 (by decide +kernel)
theorem dX4_need_23 : decode cX4_need 23 = .ok (.iload_n 1, 1) := dc0 dO_27 (by decide +kernel)
theorem dX4_need_24 : decode cX4_need 24 = .ok (.iload_n 2, 1) := dc0 dO_28 (by decide +kernel)
theorem dX4_need_25 : decode cX4_need 25 = .ok (.ifCond .ne 7, 3) := dcS2 dO_154 (by decide +kernel)
theorem dX4_need_28 : decode cX4_need 28 = .ok (.iconst 0, 1) := dc0 dO_3 (by decide +kernel)
theorem dX4_need_29 : decode cX4_need 29 = .ok (.goto 25, 3) := dcS2 dO_167 (by decide +kernel)
theorem dX4_need_32 : decode cX4_need 32 = .ok (.aload_n 0, 1) := dc0 dO_42 (by decide +kernel)
theorem dX4_need_33 : decode cX4_need 33 = .ok (.aload_n 0, 1) := dc0 dO_42 (by decide +kernel)
theorem dX4_need_34 : decode cX4_need 34 = .ok (.getfield 15, 3) := dcU2 dO_180 (by decide +kernel)
theorem dX4_need_37 : decode cX4_need 37 = .ok (.iload_n 1, 1) := dc0 dO_27 (by decide +kernel)
theorem dX4_need_38 : decode cX4_need 38 = .ok (.bipush 7, 2) := dcS1 dO_16 (by decide +kernel)
theorem dX4_need_40 : decode cX4_need 40 = .ok (.imul, 1) := dc0 dO_104 (by decide +kernel)
theorem dX4_need_41 : decode cX4_need 41 = .ok (.iconst 1, 1) := dc0 dO_4 (by decide +kernel)
theorem dX4_need_42 : decode cX4_need 42 = .ok (.iadd, 1) := dc0 dO_96 (by decide +kernel)
theorem dX4_need_43 : decode cX4_need 43 = .ok (.aload_n 0, 1) := dc0 dO_42 (by decide +kernel)
theorem dX4_need_44 : decode cX4_need 44 = .ok (.getfield 18, 3) := dcU2 dO_180 (by decide +kernel)
theorem dX4_need_47 : decode cX4_need 47 = .ok (.iload_n 1, 1) := dc0 dO_27 (by decide +kernel)
theorem dX4_need_48 : decode cX4_need 48 = .ok (.iaload, 1) := dc0 dO_46 (by decide +kernel)
theorem dX4_need_49 : decode cX4_need 49 = .ok (.iconst 1, 1) := dc0 dO_4 (by decide +kernel)
theorem dX4_need_50 : decode cX4_need 50 = .ok (.isub, 1) := dc0 dO_100 (by decide +kernel)
theorem dX4_need_51 : decode cX4_need 51 = .ok (.invokevirtual 67, 3) := dcU2 dO_182 (by decide +kernel)
theorem dX4_need_54 : decode cX4_need 54 = .ok (.iastore, 1) := dc0 dO_79 (by decide +kernel)
theorem dX4_need_55 : decode cX4_need 55 = .ok (.return_, 1) := dc0 dO_177 (by decide +kernel)
theorem dX4_prepare_0 : decode cX4_prepare 0 = .ok (.aload_n 0, 1) := dc0 dO_42 (by decide +kernel)
theorem dX4_prepare_1 : decode cX4_prepare 1 = .ok (.iconst 1, 1) := dc0 dO_4 (by decide +kernel)
theorem dX4_prepare_2 : decode cX4_prepare 2 = .ok (.putfield 59, 3) := dcU2 dO_181 (by decide +kernel)
theorem dX4_prepare_5 : decode cX4_prepare 5 = .ok (.bipush 6, 2) := dcS1 dO_16 (by decide +kernel)
theorem dX4_prepare_7 : decode cX4_prepare 7 = .ok (.istore_n 1, 1) := dc0 dO_60 (by decide +kernel)
theorem dX4_prepare_8 : decode cX4_prepare 8 = .ok (.iload_n 1, 1) := dc0 dO_27 (by decide +kernel)
theorem dX4_prepare_9 : decode cX4_prepare 9 = .ok (.iconst 1, 1) := dc0 dO_4 (by decide +kernel)
theorem dX4_prepare_10 : decode cX4_prepare 10 = .ok (.if_icmp .lt 63, 3) := dcS2 dO_161 (by decide +kernel)
theorem dX4_prepare_13 : decode cX4_prepare 13 = .ok (.aload_n 0, 1) := dc0 dO_42 (by decide +kernel)
theorem dX4_prepare_14 : decode cX4_prepare 14 = .ok (.getfield 27, 3) := dcU2 dO_180 (by decide +kernel)
theorem dX4_prepare_17 : decode cX4_prepare 17 = .ok (.iload_n 1, 1) := dc0 dO_27 (by decide +kernel)
theorem dX4_prepare_18 : decode cX4_prepare 18 = .ok (.aload_n 0, 1) := dc0 dO_42 (by decide +kernel)
theorem dX4_prepare_19 : decode cX4_prepare 19 = .ok (.getfield 59, 3) := dcU2 dO_180 (by decide +kernel)
theorem dX4_prepare_22 : decode cX4_prepare 22 = .ok (.iastore, 1) := dc0 dO_79 (by decide +kernel)
theorem dX4_prepare_23 : decode cX4_prepare 23 = .ok (.aload_n 0, 1) := dc0 dO_42 (by decide +kernel)
theorem dX4_prepare_24 : decode cX4_prepare 24 = .ok (.dup, 1) := dc0 dO_89 (by decide +kernel)
theorem dX4_prepare_25 : decode cX4_prepare 25 = .ok (.getfield 59, 3) := dcU2 dO_180 (by decide +kernel)
theorem dX4_prepare_28 : decode cX4_prepare 28 = .ok (.aload_n 0, 1) := dc0 dO_42 (by decide +kernel)
theorem dX4_prepare_29 : decode cX4_prepare 29 = .ok (.getfield 11, 3) := dcU2 dO_180 (by decide +kernel)
theorem dX4_prepare_32 : decode cX4_prepare 32 = .ok (.iload_n 1, 1) := dc0 dO_27 (by decide +kernel)
theorem dX4_prepare_33 : decode cX4_prepare 33 = .ok (.iaload, 1) := dc0 dO_46 (by decide +kernel)
theorem dX4_prepare_34 : decode cX4_prepare 34 = .ok (.iconst 1, 1) := dc0 dO_4 (by decide +kernel)
theorem dX4_prepare_35 : decode cX4_prepare 35 = .ok (.iadd, 1) := dc0 dO_96 (by decide +kernel)
theorem dX4_prepare_36 : decode cX4_prepare 36 = .ok (.imul, 1) := dc0 dO_104 (by decide +kernel)
theorem dX4_prepare_37 : decode cX4_prepare 37 = .ok (.putfield 59, 3) := dcU2 dO_181 (by decide +kernel)
theorem dX4_prepare_40 : decode cX4_prepare 40 = .ok (.iconst 0, 1) := dc0 dO_3 (by decide +kernel)
theorem dX4_prepare_41 : decode cX4_prepare 41 = .ok (.istore_n 2, 1) := dc0 dO_61 (by decide +kernel)
theorem dX4_prepare_42 : decode cX4_prepare 42 = .ok (.iload_n 2, 1) := dc0 dO_28 (by decide +kernel)
theorem dX4_prepare_43 : decode cX4_prepare 43 = .ok (.aload_n 0, 1) := dc0 dO_42 (by decide +kernel)
theorem dX4_prepare_44 : decode cX4_prepare 44 = .ok (.getfield 11, 3) := dcU2 dO_180 (by decide +kernel)
theorem dX4_prepare_47 : decode cX4_prepare 47 = .ok (.iload_n 1, 1) := dc0 dO_27 (by decide +kernel)
theorem dX4_prepare_48 : decode cX4_prepare 48 = .ok (.iaload, 1) := dc0 dO_46 (by decide +kernel)
theorem dX4_prepare_49 : decode cX4_prepare 49 = .ok (.if_icmp .ge 18, 3) := dcS2 dO_162 (by decide +kernel)
theorem dX4_prepare_52 : decode cX4_prepare 52 = .ok (.aload_n 0, 1) := dc0 dO_42 (by decide +kernel)
theorem dX4_prepare_53 : decode cX4_prepare 53 = .ok (.iload_n 1, 1) := dc0 dO_27 (by decide +kernel)
theorem dX4_prepare_54 : decode cX4_prepare 54 = .ok (.iconst 5, 1) := dc0 dO_8 (by decide +kernel)
theorem dX4_prepare_55 : decode cX4_prepare 55 = .ok (.imul, 1) := dc0 dO_104 (by decide +kernel)
theorem dX4_prepare_56 : decode cX4_prepare 56 = .ok (.iload_n 2, 1) := dc0 dO_28 (by decide +kernel)
theorem dX4_prepare_57 : decode cX4_prepare 57 = .ok (.iadd, 1) := dc0 dO_96 (by decide +kernel)
theorem dX4_prepare_58 : decode cX4_prepare 58 = .ok (.invokevirtual 63, 3) := dcU2 dO_182 (by decide +kernel)
theorem dX4_prepare_61 : decode cX4_prepare 61 = .ok (.iinc 2 1, 3) := dcI dO_132 (by decide +kernel)
theorem dX4_prepare_64 : decode cX4_prepare 64 = .ok (.goto (-22), 3) := dcS2 dO_167 (by decide +kernel)
theorem dX4_prepare_67 : decode cX4_prepare 67 = .ok (.iinc 1 (-1), 3) := dcI dO_132 (by decide +kernel)
theorem dX4_prepare_70 : decode cX4_prepare 70 = .ok (.goto (-62), 3) := dcS2 dO_167 (by decide +kernel)
theorem dX4_prepare_73 : decode cX4_prepare 73 = .ok (.return_, 1) := dc0 dO_177 (by decide +kernel)
theorem dX4_spread_0 : decode cX4_spread 0 = .ok (.aload_n 0, 1) := dc0 dO_42 (by decide +kernel)
theorem dX4_spread_1 : decode cX4_spread 1 = .ok (.getfield 43, 3) := dcU2 dO_180 (by decide +kernel)
theorem dX4_spread_4 : decode cX4_spread 4 = .ok (.iconst 1, 1) := dc0 dO_4 (by decide +kernel)
theorem dX4_spread_5 : decode cX4_spread 5 = .ok (.iconst 0, 1) := dc0 dO_3 (by decide +kernel)
theorem dX4_spread_6 : decode cX4_spread 6 = .ok (.iastore, 1) := dc0 dO_79 (by decide +kernel)
theorem dX4_spread_7 : decode cX4_spread 7 = .ok (.aload_n 0, 1) := dc0 dO_42 (by decide +kernel)
theorem dX4_spread_8 : decode cX4_spread 8 = .ok (.getfield 43, 3) := dcU2 dO_180 (by decide +kernel)
theorem dX4_spread_11 : decode cX4_spread 11 = .ok (.iconst 3, 1) := dc0 dO_6 (by decide +kernel)
theorem dX4_spread_12 : decode cX4_spread 12 = .ok (.ldc 123, 2) := dcU1 dO_18 (by decide +kernel)
theorem dX4_spread_14 : decode cX4_spread 14 = .ok (.iastore, 1) := dc0 dO_79 (by decide +kernel)
theorem dX4_spread_15 : decode cX4_spread 15 = .ok (.aload_n 0, 1) := dc0 dO_42 (by decide +kernel)
theorem dX4_spread_16 : decode cX4_spread 16 = .ok (.getfield 33, 3) := dcU2 dO_180 (by decide +kernel)
theorem dX4_spread_19 : decode cX4_spread 19 = .ok (.iconst 0, 1) := dc0 dO_3 (by decide +kernel)
theorem dX4_spread_20 : decode cX4_spread 20 = .ok (.aload_n 0, 1) := dc0 dO_42 (by decide +kernel)
theorem dX4_spread_21 : decode cX4_spread 21 = .ok (.getfield 59, 3) := dcU2 dO_180 (by decide +kernel)
theorem dX4_spread_24 : decode cX4_spread 24 = .ok (.iconst 1, 1) := dc0 dO_4 (by decide +kernel)
theorem dX4_spread_25 : decode cX4_spread 25 = .ok (.isub, 1) := dc0 dO_100 (by decide +kernel)
theorem dX4_spread_26 : decode cX4_spread 26 = .ok (.iastore, 1) := dc0 dO_79 (by decide +kernel)
theorem dX4_spread_27 : decode cX4_spread 27 = .ok (.aload_n 0, 1) := dc0 dO_42 (by decide +kernel)
theorem dX4_spread_28 : decode cX4_spread 28 = .ok (.getfield 39, 3) := dcU2 dO_180 (by decide +kernel)
theorem dX4_spread_31 : decode cX4_spread 31 = .ok (.aload_n 0, 1) := dc0 dO_42 (by decide +kernel)
theorem dX4_spread_32 : decode cX4_spread 32 = .ok (.getfield 59, 3) := dcU2 dO_180 (by decide +kernel)
theorem dX4_spread_35 : decode cX4_spread 35 = .ok (.iconst 1, 1) := dc0 dO_4 (by decide +kernel)
theorem dX4_spread_36 : decode cX4_spread 36 = .ok (.isub, 1) := dc0 dO_100 (by decide +kernel)
theorem dX4_spread_37 : decode cX4_spread 37 = .ok (.iconst 1, 1) := dc0 dO_4 (by decide +kernel)
theorem dX4_spread_38 : decode cX4_spread 38 = .ok (.bastore, 1) := dc0 dO_84 (by decide +kernel)
theorem dX4_spread_39 : decode cX4_spread 39 = .ok (.iconst 1, 1) := dc0 dO_4 (by decide +kernel)
theorem dX4_spread_40 : decode cX4_spread 40 = .ok (.istore_n 1, 1) := dc0 dO_60 (by decide +kernel)
theorem dX4_spread_41 : decode cX4_spread 41 = .ok (.iconst 0, 1) := dc0 dO_3 (by decide +kernel)
theorem dX4_spread_42 : decode cX4_spread 42 = .ok (.istore_n 2, 1) := dc0 dO_61 (by decide +kernel)
theorem dX4_spread_43 : decode cX4_spread 43 = .ok (.iconst 1, 1) := dc0 dO_4 (by decide +kernel)
theorem dX4_spread_44 : decode cX4_spread 44 = .ok (.istore_n 3, 1) := dc0 dO_62 (by decide +kernel)
theorem dX4_spread_45 : decode cX4_spread 45 = .ok (.iconst 0, 1) := dc0 dO_3 (by decide +kernel)
theorem dX4_spread_46 : decode cX4_spread 46 = .ok (.istore 4, 2) := dcU1 dO_54 (by decide +kernel)
theorem dX4_spread_48 : decode cX4_spread 48 = .ok (.iload 4, 2) := dcU1 dO_21 (by decide +kernel)
theorem dX4_spread_50 : decode cX4_spread 50 = .ok (.iload_n 1, 1) := dc0 dO_27 (by decide +kernel)
theorem dX4_spread_51 : decode cX4_spread 51 = .ok (.if_icmp .ge 105, 3) := dcS2 dO_162 (by decide +kernel)
theorem dX4_spread_54 : decode cX4_spread 54 = .ok (.iload 4, 2) := dcU1 dO_21 (by decide +kernel)
theorem dX4_spread_56 : decode cX4_spread 56 = .ok (.iload_n 3, 1) := dc0 dO_29 (by decide +kernel)
theorem dX4_spread_57 : decode cX4_spread 57 = .ok (.if_icmp .ne 8, 3) := dcS2 dO_160 (by decide +kernel)
theorem dX4_spread_60 : decode cX4_spread 60 = .ok (.iinc 2 1, 3) := dcI dO_132 (by decide +kernel)
theorem dX4_spread_63 : decode cX4_spread 63 = .ok (.iload_n 1, 1) := dc0 dO_27 (by decide +kernel)
theorem dX4_spread_64 : decode cX4_spread 64 = .ok (.istore_n 3, 1) := dc0 dO_62 (by decide +kernel)
theorem dX4_spread_65 : decode cX4_spread 65 = .ok (.aload_n 0, 1) := dc0 dO_42 (by decide +kernel)
theorem dX4_spread_66 : decode cX4_spread 66 = .ok (.aload_n 0, 1) := dc0 dO_42 (by decide +kernel)
theorem dX4_spread_67 : decode cX4_spread 67 = .ok (.getfield 33, 3) := dcU2 dO_180 (by decide +kernel)
theorem dX4_spread_70 : decode cX4_spread 70 = .ok (.iload 4, 2) := dcU1 dO_21 (by decide +kernel)
theorem dX4_spread_72 : decode cX4_spread 72 = .ok (.iaload, 1) := dc0 dO_46 (by decide +kernel)
theorem dX4_spread_73 : decode cX4_spread 73 = .ok (.invokevirtual 85, 3) := dcU2 dO_182 (by decide +kernel)
theorem dX4_spread_76 : decode cX4_spread 76 = .ok (.aload_n 0, 1) := dc0 dO_42 (by decide +kernel)
theorem dX4_spread_77 : decode cX4_spread 77 = .ok (.aload_n 0, 1) := dc0 dO_42 (by decide +kernel)
theorem dX4_spread_78 : decode cX4_spread 78 = .ok (.getfield 33, 3) := dcU2 dO_180 (by decide +kernel)
theorem dX4_spread_81 : decode cX4_spread 81 = .ok (.iload 4, 2) := dcU1 dO_21 (by decide +kernel)
theorem dX4_spread_83 : decode cX4_spread 83 = .ok (.iaload, 1) := dc0 dO_46 (by decide +kernel)
theorem dX4_spread_84 : decode cX4_spread 84 = .ok (.iload_n 1, 1) := dc0 dO_27 (by decide +kernel)
theorem dX4_spread_85 : decode cX4_spread 85 = .ok (.invokevirtual 124, 3) := dcU2 dO_182 (by decide +kernel)
theorem dX4_spread_88 : decode cX4_spread 88 = .ok (.istore_n 1, 1) := dc0 dO_60 (by decide +kernel)
theorem dX4_spread_89 : decode cX4_spread 89 = .ok (.aload_n 0, 1) := dc0 dO_42 (by decide +kernel)
theorem dX4_spread_90 : decode cX4_spread 90 = .ok (.invokevirtual 88, 3) := dcU2 dO_182 (by decide +kernel)
theorem dX4_spread_93 : decode cX4_spread 93 = .ok (.ifCond .eq 57, 3) := dcS2 dO_153 (by decide +kernel)
theorem dX4_spread_96 : decode cX4_spread 96 = .ok (.aload_n 0, 1) := dc0 dO_42 (by decide +kernel)
theorem dX4_spread_97 : decode cX4_spread 97 = .ok (.getfield 39, 3) := dcU2 dO_180 (by decide +kernel)
theorem dX4_spread_100 : decode cX4_spread 100 = .ok (.aload_n 0, 1) := dc0 dO_42 (by decide +kernel)
theorem dX4_spread_101 : decode cX4_spread 101 = .ok (.getfield 33, 3) := dcU2 dO_180 (by decide +kernel)
theorem dX4_spread_104 : decode cX4_spread 104 = .ok (.iload 4, 2) := dcU1 dO_21 (by decide +kernel)
theorem dX4_spread_106 : decode cX4_spread 106 = .ok (.iaload, 1) := dc0 dO_46 (by decide +kernel)
theorem dX4_spread_107 : decode cX4_spread 107 = .ok (.dup2, 1) := dc0 dO_92 (by decide +kernel)
theorem dX4_spread_108 : decode cX4_spread 108 = .ok (.baload, 1) := dc0 dO_51 (by decide +kernel)
theorem dX4_spread_109 : decode cX4_spread 109 = .ok (.iconst 2, 1) := dc0 dO_5 (by decide +kernel)
theorem dX4_spread_110 : decode cX4_spread 110 = .ok (.ior, 1) := dc0 dO_128 (by decide +kernel)
theorem dX4_spread_111 : decode cX4_spread 111 = .ok (.i2b, 1) := dc0 dO_145 (by decide +kernel)
theorem dX4_spread_112 : decode cX4_spread 112 = .ok (.bastore, 1) := dc0 dO_84 (by decide +kernel)
theorem dX4_spread_113 : decode cX4_spread 113 = .ok (.aload_n 0, 1) := dc0 dO_42 (by decide +kernel)
theorem dX4_spread_114 : decode cX4_spread 114 = .ok (.getfield 43, 3) := dcU2 dO_180 (by decide +kernel)
theorem dX4_spread_117 : decode cX4_spread 117 = .ok (.iconst 1, 1) := dc0 dO_4 (by decide +kernel)
theorem dX4_spread_118 : decode cX4_spread 118 = .ok (.dup2, 1) := dc0 dO_92 (by decide +kernel)
theorem dX4_spread_119 : decode cX4_spread 119 = .ok (.iaload, 1) := dc0 dO_46 (by decide +kernel)
theorem dX4_spread_120 : decode cX4_spread 120 = .ok (.iconst 1, 1) := dc0 dO_4 (by decide +kernel)
theorem dX4_spread_121 : decode cX4_spread 121 = .ok (.iadd, 1) := dc0 dO_96 (by decide +kernel)
theorem dX4_spread_122 : decode cX4_spread 122 = .ok (.iastore, 1) := dc0 dO_79 (by decide +kernel)
theorem dX4_spread_123 : decode cX4_spread 123 = .ok (.aload_n 0, 1) := dc0 dO_42 (by decide +kernel)
theorem dX4_spread_124 : decode cX4_spread 124 = .ok (.getfield 43, 3) := dcU2 dO_180 (by decide +kernel)
theorem dX4_spread_127 : decode cX4_spread 127 = .ok (.iconst 3, 1) := dc0 dO_6 (by decide +kernel)
theorem sfx_cX4_spread_128 : (cX4_spread.data.toList.drop 128).take 67 = [42, 180, 0, 43, 6, 46, 18, 123, 160, 0, 7, 28, 167, 0, 9, 42, 180, 0, 43, 6, 46, 79, 132, 4, 1, 167, 255, 151, 27, 172] := by decide +kernel
theorem dX4_spread_128 : decode cX4_spread 128 = .ok (.aload_n 0, 1) := dc0 dO_42 (rdB.ch sfx_cX4_spread_128 0 rfl (by decide +kernel))
theorem dX4_spread_129 : decode cX4_spread 129 = .ok (.getfield 43, 3) := dcU2 dO_180 (rdU2.ch sfx_cX4_spread_128 1 rfl (by decide +kernel))
theorem dX4_spread_132 : decode cX4_spread 132 = .ok (.iconst 3, 1) := dc0 dO_6 (rdB.ch sfx_cX4_spread_128 4 rfl (by decide +kernel))
theorem dX4_spread_133 : decode cX4_spread 133 = .ok (.iaload, 1) := dc0 dO_46 (rdB.ch sfx_cX4_spread_128 5 rfl (by decide +kernel))
theorem dX4_spread_134 : decode cX4_spread 134 = .ok (.ldc 123, 2) := dcU1 dO_18 (rdU1.ch sfx_cX4_spread_128 6 rfl (by decide +kernel))
theorem dX4_spread_136 : decode cX4_spread 136 = .ok (.if_icmp .ne 7, 3) := dcS2 dO_160 (rdS2.ch sfx_cX4_spread_128 8 rfl (by decide +kernel))
theorem dX4_spread_139 : decode cX4_spread 139 = .ok (.iload_n 2, 1) := dc0 dO_28 (rdB.ch sfx_cX4_spread_128 11 rfl (by decide +kernel))
theorem dX4_spread_140 : decode cX4_spread 140 = .ok (.goto 9, 3) := dcS2 dO_167 (rdS2.ch sfx_cX4_spread_128 12 rfl (by decide +kernel))
theorem dX4_spread_143 : decode cX4_spread 143 = .ok (.aload_n 0, 1) := dc0 dO_42 (rdB.ch sfx_cX4_spread_128 15 rfl (by decide +kernel))
theorem dX4_spread_144 : decode cX4_spread 144 = .ok (.getfield 43, 3) := dcU2 dO_180 (rdU2.ch sfx_cX4_spread_128 16 rfl (by decide +kernel))
theorem dX4_spread_147 : decode cX4_spread 147 = .ok (.iconst 3, 1) := dc0 dO_6 (rdB.ch sfx_cX4_spread_128 19 rfl (by decide +kernel))
theorem dX4_spread_148 : decode cX4_spread 148 = .ok (.iaload, 1) := dc0 dO_46 (rdB.ch sfx_cX4_spread_128 20 rfl (by decide +kernel))
theorem dX4_spread_149 : decode cX4_spread 149 = .ok (.iastore, 1) := dc0 dO_79 (rdB.ch sfx_cX4_spread_128 21 rfl (by decide +kernel))
theorem dX4_spread_150 : decode cX4_spread 150 = .ok (.iinc 4 1, 3) := dcI dO_132 (rdI.ch sfx_cX4_spread_128 22 rfl (by decide +kernel))
theorem dX4_spread_153 : decode cX4_spread 153 = .ok (.goto (-105), 3) := dcS2 dO_167 (rdS2.ch sfx_cX4_spread_128 25 rfl (by decide +kernel))
theorem dX4_spread_156 : decode cX4_spread 156 = .ok (.iload_n 1, 1) := dc0 dO_27 (rdB.ch sfx_cX4_spread_128 28 rfl (by decide +kernel))
theorem dX4_spread_157 : decode cX4_spread 157 = .ok (.ireturn, 1) := dc0 dO_172 (rdB.ch sfx_cX4_spread_128 29 rfl (by decide +kernel))
theorem dX4_wayInRest_0 : decode cX4_wayInRest 0 = .ok (.aload_n 0, 1) := dc0 dO_42 (by decide +kernel)
theorem dX4_wayInRest_1 : decode cX4_wayInRest 1 = .ok (.aload_n 0, 1) := dc0 dO_42 (by decide +kernel)
theorem dX4_wayInRest_2 : decode cX4_wayInRest 2 = .ok (.getfield 36, 3) := dcU2 dO_180 (by decide +kernel)
theorem dX4_wayInRest_5 : decode cX4_wayInRest 5 = .ok (.iload_n 1, 1) := dc0 dO_27 (by decide +kernel)
theorem dX4_wayInRest_6 : decode cX4_wayInRest 6 = .ok (.iaload, 1) := dc0 dO_46 (by decide +kernel)
theorem dX4_wayInRest_7 : decode cX4_wayInRest 7 = .ok (.iload_n 2, 1) := dc0 dO_28 (by decide +kernel)
theorem dX4_wayInRest_8 : decode cX4_wayInRest 8 = .ok (.invokevirtual 75, 3) := dcU2 dO_182 (by decide +kernel)
theorem dX4_wayInRest_11 : decode cX4_wayInRest 11 = .ok (.istore_n 3, 1) := dc0 dO_62 (by decide +kernel)
theorem dX4_wayInRest_12 : decode cX4_wayInRest 12 = .ok (.iload_n 3, 1) := dc0 dO_29 (by decide +kernel)
theorem dX4_wayInRest_13 : decode cX4_wayInRest 13 = .ok (.aload_n 0, 1) := dc0 dO_42 (by decide +kernel)
theorem dX4_wayInRest_14 : decode cX4_wayInRest 14 = .ok (.getfield 11, 3) := dcU2 dO_180 (by decide +kernel)
theorem dX4_wayInRest_17 : decode cX4_wayInRest 17 = .ok (.iload_n 2, 1) := dc0 dO_28 (by decide +kernel)
theorem dX4_wayInRest_18 : decode cX4_wayInRest 18 = .ok (.iaload, 1) := dc0 dO_46 (by decide +kernel)
theorem dX4_wayInRest_19 : decode cX4_wayInRest 19 = .ok (.if_icmp .ne 8, 3) := dcS2 dO_160 (by decide +kernel)
theorem dX4_wayInRest_22 : decode cX4_wayInRest 22 = .ok (.bipush (-4), 2) := dcS1 dO_16 (by decide +kernel)
theorem dX4_wayInRest_24 : decode cX4_wayInRest 24 = .ok (.goto 4, 3) := dcS2 dO_167 (by decide +kernel)
theorem dX4_wayInRest_27 : decode cX4_wayInRest 27 = .ok (.iload_n 3, 1) := dc0 dO_29 (by decide +kernel)
theorem dX4_wayInRest_28 : decode cX4_wayInRest 28 = .ok (.ireturn, 1) := dc0 dO_172 (by decide +kernel)
end
section
theorem vc_X4_find_w_8 {p2 p3 z377 : Int} (h0 : z377 < p3) (h1 : p2 + p3 ≤ 245) (h2 : 0 ≤ p2 ∧ p2 ≤ 244) (h3 : (-1) ≤ p3 ∧ p3 ≤ 7) (h4 : 0 ≤ z377 ∧ z377 ≤ 7) : 0 ≤ z377 ∧ z377 ≤ 6 := by omega
theorem vc_X4_find_w_9 {p2 p3 z377 : Int} (h0 : z377 < p3) (h1 : p2 + p3 ≤ 245) (h2 : 0 ≤ p2 ∧ p2 ≤ 244) (h3 : (-1) ≤ p3 ∧ p3 ≤ 7) (h4 : 0 ≤ z377 ∧ z377 ≤ 6) : 1 ≤ p3 ∧ p3 ≤ 7 := by omega
theorem vc_X4_find_w_11 {p2 p3 z377 : Int} (h0 : p2 + p3 ≤ 245) (h1 : z377 < p3) (h2 : 0 ≤ p2 ∧ p2 ≤ 244) (h3 : 1 ≤ p3 ∧ p3 ≤ 7) (h4 : 0 ≤ z377 ∧ z377 ≤ 6) : 0 ≤ (p2 + z377) ∧ (p2 + z377) < 245 := by omega
theorem vc_X4_find_w_12 {N p2 p3 z377 : Int} (h0 : (8 - z377) < N + 1) (h1 : z377 < p3) (h2 : p2 + p3 ≤ 245) (h3 : 0 ≤ p2 ∧ p2 ≤ 244) (h4 : 1 ≤ p3 ∧ p3 ≤ 7) (h5 : 0 ≤ z377 ∧ z377 ≤ 6) : (8 - (z377 + 1)) < N := by omega
theorem vc_X4_find_w_14 {p2 p3 z258 : Int} (h0 : z258 = p3) (h1 : p2 + p3 ≤ 245) (h2 : 0 ≤ p2 ∧ p2 ≤ 244) (h3 : (-1) ≤ p3 ∧ p3 ≤ 7) (h4 : 0 ≤ z258 ∧ z258 ≤ 7) : 0 ≤ p3 ∧ p3 ≤ 7 := by omega
set_option maxRecDepth 4000 in
set_option maxHeartbeats 4000000 in
theorem c_X4_find_w {l : Launch} {D : va_G} {c : Nat → ClassId} {H0 : Heap} {sa : Nat × Nat × (Nat → Int32)} {w : mW} {μ : mM} (hw : mWF w) (hT : mT w μ) (hA1 : mAt w 96 96) {p2 : Int} (hp2 : 0 ≤ p2 ∧ p2 ≤ 244) {p3 : Int} (hp3 : (-1) ≤ p3 ∧ p3 ≤ 7) (hq0 : p2 + p3 ≤ 245) : sC (gG l D c H0 sa) mX4_find 1 0 0 [.ref 94, .ref 96, iv p2, iv p3] (mk w μ) (qP w μ (fun z => ((-1) ≤ z ∧ z ≤ 4) ∧ True)) := by
  refine sC.of rfl (by decide) (le_t rfl) ?_
  refine mr_lvE (lv' := [(0, .ref 94), (1, .ref 96), (2, iv p2), (3, iv p3)]) rfl ?_
  refine sv_aload_n (pc := 0) dX4_find_0 rfl rfl ?_
  refine mr_iload_n (pc := 1) (z := p2) dX4_find_1 rfl rfl ?_
  refine la_96 (pc := 2) dX4_find_2 (A_96 hw) hT (rIx (n := 245) hp2 rfl) fun z1 q2 h3 => ?_
  refine mr_istore (pc := 3) (lv' := [(4, iv z1), (0, .ref 94), (1, .ref 96), (2, iv p2), (3, iv p3)]) dX4_find_3 (by decide) rfl ?_
  refine mr_iconst (pc := 5) (z := 0) dX4_find_5 ?_
  refine mr_istore (pc := 6) (lv' := [(5, iv 0), (4, iv z1), (0, .ref 94), (1, .ref 96), (2, iv p2), (3, iv p3)]) dX4_find_6 (by decide) rfl ?_
  have L245 : ∀ (nL245 : Nat) (z244 : Int), True → (0 ≤ z244 ∧ z244 ≤ 5) → (6 - z244) < (nL245 : Int) → sV (gG l D c H0 sa) mX4_find (sRm 1 0 0) (sZ (gG l D c H0 sa) 0 0 (qP w μ (fun z => ((-1) ≤ z ∧ z ≤ 4) ∧ True))) 8 [(0, .ref 94), (1, .ref 96), (2, iv p2), (3, iv p3), (4, iv z1), (5, iv z244)] [] (mk w μ) 0 0 := by
    intro nL245
    induction nL245 with
    | zero => intro z244 _ h246 h250; exact ((vc_X12_acted_1 h250 h246)).elim
    | succ nL245 ih251 =>
      intro z244 _ h246 h250
      refine mr_iload (pc := 8) (z := z244) dX4_find_8 rfl ?_
      refine sv_aload_n (pc := 10) dX4_find_10 rfl rfl ?_
      refine gf_X4_12 (pc := 11) dX4_find_11 wF_X4_11 (A_94 hw) hT ?_
      refine mr_iload (pc := 14) (z := z1) dX4_find_14 rfl ?_
      refine la_95 (pc := 16) dX4_find_16 (A_95 hw) hT (rIx (n := 7) h3 rfl) fun z252 q253 h254 => ?_
      refine mr_icmp_ge (pc := 17) (tgt := 110) dX4_find_17 (by decide) (r32 h246 rfl) (r32 h254 rfl) (fun h255 => ?_) (fun h255 => ?_)
      · refine mr_iconst (pc := 110) (z := (-1)) dX4_find_110 ?_
        exact mr_iretP dX4_find_111 rfl (le_t rfl) (le_t rfl) ⟨(rW (c := (-1)) (d := 4) (rR (x := (-1))) rfl), trivial⟩
      have h256 : 0 ≤ z244 ∧ z244 ≤ 4 := (vc_X12_acted_2 h255 h246 h254)
      have h257 : 1 ≤ z252 ∧ z252 ≤ 5 := (vc_X12_acted_3 h255 h256 h254)
      refine mr_iload (pc := 20) (z := z1) dX4_find_20 rfl ?_
      refine mr_iconst (pc := 22) (z := 5) dX4_find_22 ?_
      refine mr_imul (pc := 23) (x := z1) (y := 5) dX4_find_23 ?_
      refine mr_iload (pc := 24) (z := z244) dX4_find_24 rfl ?_
      refine mr_iadd (pc := 26) (x := (z1 * 5)) (y := z244) dX4_find_26 ?_
      refine mr_istore (pc := 27) (lv' := [(6, iv ((z1 * 5) + z244)), (0, .ref 94), (1, .ref 96), (2, iv p2), (3, iv p3), (4, iv z1), (5, iv z244)]) dX4_find_27 (by decide) rfl ?_
      refine sv_aload_n (pc := 29) dX4_find_29 rfl rfl ?_
      refine gf_X4_1 (pc := 30) dX4_find_30 wF_X4_18 (A_94 hw) hT ?_
      refine mr_iload (pc := 33) (z := ((z1 * 5) + z244)) dX4_find_33 rfl ?_
      refine la_97 (pc := 35) dX4_find_35 (A_97 hw) hT (rIx (n := 35) (rAdd (e := 0) (f := 34) (rMulR (n := 5) (e := 0) (f := 30) h3 rfl) h256 rfl) rfl) fun z258 q259 h260 => ?_
      refine mr_iload_n (pc := 36) (z := p3) dX4_find_36 rfl rfl ?_
      have J264 : ∀ (z262 : Int), ((0 ≤ z262 ∧ z262 ≤ 1)) → sV (gG l D c H0 sa) mX4_find (sRm 1 0 0) (sZ (gG l D c H0 sa) 0 0 (qP w μ (fun z => ((-1) ≤ z ∧ z ≤ 4) ∧ True))) 45 [(0, .ref 94), (1, .ref 96), (2, iv p2), (3, iv p3), (4, iv z1), (5, iv z244), (6, iv ((z1 * 5) + z244))] [iv z262] (mk w μ) 0 0 := by
        intro z262 h263
        refine mr_istore (pc := 45) (lv' := [(7, iv z262), (0, .ref 94), (1, .ref 96), (2, iv p2), (3, iv p3), (4, iv z1), (5, iv z244), (6, iv ((z1 * 5) + z244))]) dX4_find_45 (by decide) rfl ?_
        refine mr_iconst (pc := 47) (z := 0) dX4_find_47 ?_
        refine mr_istore (pc := 48) (lv' := [(8, iv 0), (7, iv z262), (0, .ref 94), (1, .ref 96), (2, iv p2), (3, iv p3), (4, iv z1), (5, iv z244), (6, iv ((z1 * 5) + z244))]) dX4_find_48 (by decide) rfl ?_
        have L379 : ∀ (nL379 : Nat) (z378 z377 : Int), True → (0 ≤ z378 ∧ z378 ≤ 1) → (0 ≤ z377 ∧ z377 ≤ 7) → (8 - z377) < (nL379 : Int) → sV (gG l D c H0 sa) mX4_find (sRm 1 0 0) (sZ (gG l D c H0 sa) 0 0 (qP w μ (fun z => ((-1) ≤ z ∧ z ≤ 4) ∧ True))) 50 [(0, .ref 94), (1, .ref 96), (2, iv p2), (3, iv p3), (4, iv z1), (5, iv z244), (6, iv ((z1 * 5) + z244)), (7, iv z378), (8, iv z377)] [] (mk w μ) 0 0 := by
          intro nL379
          induction nL379 with
          | zero => intro z378 z377 _ h380 h381 h385; exact ((vc_X12_isOffered_3 h385 h381)).elim
          | succ nL379 ih386 =>
            intro z378 z377 _ h380 h381 h385
            refine mr_iload (pc := 50) (z := z377) dX4_find_50 rfl ?_
            refine mr_iload_n (pc := 52) (z := p3) dX4_find_52 rfl rfl ?_
            refine mr_icmp_ge (pc := 53) (tgt := 96) dX4_find_53 (by decide) (r32 h381 rfl) (r32 hp3 rfl) (fun h397 => ?_) (fun h397 => ?_)
            · refine mr_iload (pc := 96) (z := z378) dX4_find_96 rfl ?_
              refine mr_if_eq (pc := 98) (tgt := 104) dX4_find_98 (by decide) (r32 h380 rfl) (fun h398 => ?_) (fun h398 => ?_)
              · have h399 : 0 ≤ z378 ∧ z378 ≤ 0 := (vc_X12_ring_22 h398 h380)
                refine mr_iinc (pc := 104) (lv' := [(5, iv (z244 + 1)), (0, .ref 94), (1, .ref 96), (2, iv p2), (3, iv p3), (4, iv z1), (6, iv ((z1 * 5) + z244)), (7, iv z378), (8, iv z377)]) dX4_find_104 rfl (by decide) rfl ?_
                refine sv_goto (pc := 107) (tgt := 8) dX4_find_107 (by decide) ?_
                refine mr_lvS (lv' := [(0, .ref 94), (1, .ref 96), (2, iv p2), (3, iv p3), (4, iv z1), (5, iv (z244 + 1))]) (List.forall_mem_cons.mpr ⟨rfl, List.forall_mem_cons.mpr ⟨rfl, List.forall_mem_cons.mpr ⟨rfl, List.forall_mem_cons.mpr ⟨rfl, List.forall_mem_cons.mpr ⟨rfl, List.forall_mem_cons.mpr ⟨rfl, fun _ h => absurd h List.not_mem_nil⟩⟩⟩⟩⟩⟩) ?_
                exact ih251 (z244 + 1) trivial (rW (c := 0) (d := 5) (rAdd (e := 1) (f := 5) h256 (rR (x := 1)) rfl) rfl) (vc_X12_acted_11 (nS h250) h255 h256 h257)
              have h400 : 1 ≤ z378 ∧ z378 ≤ 1 := (vc_X12_ring_24 h398 h380)
              refine mr_iload (pc := 101) (z := z244) dX4_find_101 rfl ?_
              exact mr_iretP dX4_find_103 rfl (le_t rfl) (le_t rfl) ⟨(rW (c := (-1)) (d := 4) h256 rfl), trivial⟩
            have h401 : 0 ≤ z377 ∧ z377 ≤ 6 := (vc_X4_find_w_8 h397 hq0 hp2 hp3 h381)
            have h402 : 1 ≤ p3 ∧ p3 ≤ 7 := (vc_X4_find_w_9 h397 hq0 hp2 hp3 h401)
            refine mr_iload (pc := 56) (z := z378) dX4_find_56 rfl ?_
            refine mr_if_eq (pc := 58) (tgt := 96) dX4_find_58 (by decide) (r32 h380 rfl) (fun h411 => ?_) (fun h411 => ?_)
            · have h412 : 0 ≤ z378 ∧ z378 ≤ 0 := (vc_X12_ring_22 h411 h380)
              refine mr_iload (pc := 96) (z := z378) dX4_find_96 rfl ?_
              refine mr_if_eq (pc := 98) (tgt := 104) dX4_find_98 (by decide) (r32 h412 rfl) (fun _ => ?_) (fun h => ((vc_X10_firstWrongStep_7 h h412)).elim)
              refine mr_iinc (pc := 104) (lv' := [(5, iv (z244 + 1)), (0, .ref 94), (1, .ref 96), (2, iv p2), (3, iv p3), (4, iv z1), (6, iv ((z1 * 5) + z244)), (7, iv z378), (8, iv z377)]) dX4_find_104 rfl (by decide) rfl ?_
              refine sv_goto (pc := 107) (tgt := 8) dX4_find_107 (by decide) ?_
              refine mr_lvS (lv' := [(0, .ref 94), (1, .ref 96), (2, iv p2), (3, iv p3), (4, iv z1), (5, iv (z244 + 1))]) (List.forall_mem_cons.mpr ⟨rfl, List.forall_mem_cons.mpr ⟨rfl, List.forall_mem_cons.mpr ⟨rfl, List.forall_mem_cons.mpr ⟨rfl, List.forall_mem_cons.mpr ⟨rfl, List.forall_mem_cons.mpr ⟨rfl, fun _ h => absurd h List.not_mem_nil⟩⟩⟩⟩⟩⟩) ?_
              exact ih251 (z244 + 1) trivial (rW (c := 0) (d := 5) (rAdd (e := 1) (f := 5) h256 (rR (x := 1)) rfl) rfl) (vc_X12_acted_11 (nS h250) h255 h256 h257)
            have h413 : 1 ≤ z378 ∧ z378 ≤ 1 := (vc_X12_ring_24 h411 h380)
            refine sv_aload_n (pc := 61) dX4_find_61 rfl rfl ?_
            refine gf_X4_0 (pc := 62) dX4_find_62 wF_X4_15 (A_94 hw) hT ?_
            refine mr_iload (pc := 65) (z := ((z1 * 5) + z244)) dX4_find_65 rfl ?_
            refine mr_bipush (pc := 67) (z := 7) dX4_find_67 (by decide) ?_
            refine mr_imul (pc := 69) (x := ((z1 * 5) + z244)) (y := 7) dX4_find_69 ?_
            refine mr_iload (pc := 70) (z := z377) dX4_find_70 rfl ?_
            refine mr_iadd (pc := 72) (x := (((z1 * 5) + z244) * 7)) (y := z377) dX4_find_72 ?_
            refine la_96 (pc := 73) dX4_find_73 (A_96 hw) hT (rIx (n := 245) (rAdd (e := 0) (f := 244) (rMulR (n := 7) (e := 0) (f := 238) (rAdd (e := 0) (f := 34) (rMulR (n := 5) (e := 0) (f := 30) h3 rfl) h256 rfl) rfl) h401 rfl) rfl) fun z414 q415 h416 => ?_
            refine sv_aload_n (pc := 74) dX4_find_74 rfl rfl ?_
            refine mr_iload_n (pc := 75) (z := p2) dX4_find_75 rfl rfl ?_
            refine mr_iload (pc := 76) (z := z377) dX4_find_76 rfl ?_
            refine mr_iadd (pc := 78) (x := p2) (y := z377) dX4_find_78 ?_
            refine la_96 (pc := 79) dX4_find_79 (A_96 hw) hT (vc_X4_find_w_11 hq0 h397 hp2 h402 h401) fun z417 q418 h419 => ?_
            refine mr_icmp_ne (pc := 80) (tgt := 87) dX4_find_80 (by decide) (r32 h416 rfl) (r32 h419 rfl) (fun h420 => ?_) (fun h420 => ?_)
            · refine mr_iconst (pc := 87) (z := 0) dX4_find_87 ?_
              refine mr_istore (pc := 88) (lv' := [(7, iv 0), (0, .ref 94), (1, .ref 96), (2, iv p2), (3, iv p3), (4, iv z1), (5, iv z244), (6, iv ((z1 * 5) + z244)), (8, iv z377)]) dX4_find_88 (by decide) rfl ?_
              refine mr_iinc (pc := 90) (lv' := [(8, iv (z377 + 1)), (7, iv 0), (0, .ref 94), (1, .ref 96), (2, iv p2), (3, iv p3), (4, iv z1), (5, iv z244), (6, iv ((z1 * 5) + z244))]) dX4_find_90 rfl (by decide) rfl ?_
              refine sv_goto (pc := 93) (tgt := 50) dX4_find_93 (by decide) ?_
              refine mr_lvS (lv' := [(0, .ref 94), (1, .ref 96), (2, iv p2), (3, iv p3), (4, iv z1), (5, iv z244), (6, iv ((z1 * 5) + z244)), (7, iv 0), (8, iv (z377 + 1))]) (List.forall_mem_cons.mpr ⟨rfl, List.forall_mem_cons.mpr ⟨rfl, List.forall_mem_cons.mpr ⟨rfl, List.forall_mem_cons.mpr ⟨rfl, List.forall_mem_cons.mpr ⟨rfl, List.forall_mem_cons.mpr ⟨rfl, List.forall_mem_cons.mpr ⟨rfl, List.forall_mem_cons.mpr ⟨rfl, List.forall_mem_cons.mpr ⟨rfl, fun _ h => absurd h List.not_mem_nil⟩⟩⟩⟩⟩⟩⟩⟩⟩) ?_
              exact ih386 0 (z377 + 1) trivial (rW (c := 0) (d := 1) (rR (x := 0)) rfl) (rW (c := 0) (d := 7) (rAdd (e := 1) (f := 7) h401 (rR (x := 1)) rfl) rfl) (vc_X4_find_w_12 (nS h385) h397 hq0 hp2 h402 h401)
            refine mr_iconst (pc := 83) (z := 1) dX4_find_83 ?_
            refine sv_goto (pc := 84) (tgt := 88) dX4_find_84 (by decide) ?_
            refine mr_istore (pc := 88) (lv' := [(7, iv 1), (0, .ref 94), (1, .ref 96), (2, iv p2), (3, iv p3), (4, iv z1), (5, iv z244), (6, iv ((z1 * 5) + z244)), (8, iv z377)]) dX4_find_88 (by decide) rfl ?_
            refine mr_iinc (pc := 90) (lv' := [(8, iv (z377 + 1)), (7, iv 1), (0, .ref 94), (1, .ref 96), (2, iv p2), (3, iv p3), (4, iv z1), (5, iv z244), (6, iv ((z1 * 5) + z244))]) dX4_find_90 rfl (by decide) rfl ?_
            refine sv_goto (pc := 93) (tgt := 50) dX4_find_93 (by decide) ?_
            refine mr_lvS (lv' := [(0, .ref 94), (1, .ref 96), (2, iv p2), (3, iv p3), (4, iv z1), (5, iv z244), (6, iv ((z1 * 5) + z244)), (7, iv 1), (8, iv (z377 + 1))]) (List.forall_mem_cons.mpr ⟨rfl, List.forall_mem_cons.mpr ⟨rfl, List.forall_mem_cons.mpr ⟨rfl, List.forall_mem_cons.mpr ⟨rfl, List.forall_mem_cons.mpr ⟨rfl, List.forall_mem_cons.mpr ⟨rfl, List.forall_mem_cons.mpr ⟨rfl, List.forall_mem_cons.mpr ⟨rfl, List.forall_mem_cons.mpr ⟨rfl, fun _ h => absurd h List.not_mem_nil⟩⟩⟩⟩⟩⟩⟩⟩⟩) ?_
            exact ih386 1 (z377 + 1) trivial (rW (c := 0) (d := 1) (rR (x := 1)) rfl) (rW (c := 0) (d := 7) (rAdd (e := 1) (f := 7) h401 (rR (x := 1)) rfl) rfl) (vc_X4_find_w_12 (nS h385) h397 hq0 hp2 h402 h401)
        refine mr_lvS (lv' := [(0, .ref 94), (1, .ref 96), (2, iv p2), (3, iv p3), (4, iv z1), (5, iv z244), (6, iv ((z1 * 5) + z244)), (7, iv z262), (8, iv 0)]) (List.forall_mem_cons.mpr ⟨rfl, List.forall_mem_cons.mpr ⟨rfl, List.forall_mem_cons.mpr ⟨rfl, List.forall_mem_cons.mpr ⟨rfl, List.forall_mem_cons.mpr ⟨rfl, List.forall_mem_cons.mpr ⟨rfl, List.forall_mem_cons.mpr ⟨rfl, List.forall_mem_cons.mpr ⟨rfl, List.forall_mem_cons.mpr ⟨rfl, fun _ h => absurd h List.not_mem_nil⟩⟩⟩⟩⟩⟩⟩⟩⟩) ?_
        exact L379 9 z262 0 trivial h263 (rW (c := 0) (d := 7) (rR (x := 0)) rfl) vc_X12_isOffered_10
      refine mr_icmp_ne (pc := 37) (tgt := 44) dX4_find_37 (by decide) (r32 h260 rfl) (r32 hp3 rfl) (fun h421 => ?_) (fun h421 => ?_)
      · refine mr_iconst (pc := 44) (z := 0) dX4_find_44 ?_
        refine mr_lvS (lv' := [(0, .ref 94), (1, .ref 96), (2, iv p2), (3, iv p3), (4, iv z1), (5, iv z244), (6, iv ((z1 * 5) + z244))]) (List.forall_mem_cons.mpr ⟨rfl, List.forall_mem_cons.mpr ⟨rfl, List.forall_mem_cons.mpr ⟨rfl, List.forall_mem_cons.mpr ⟨rfl, List.forall_mem_cons.mpr ⟨rfl, List.forall_mem_cons.mpr ⟨rfl, List.forall_mem_cons.mpr ⟨rfl, fun _ h => absurd h List.not_mem_nil⟩⟩⟩⟩⟩⟩⟩) ?_
        exact J264 0 (rW (c := 0) (d := 1) (rR (x := 0)) rfl)
      have h422 : 0 ≤ p3 ∧ p3 ≤ 7 := (vc_X4_find_w_14 h421 hq0 hp2 hp3 h260)
      refine mr_iconst (pc := 40) (z := 1) dX4_find_40 ?_
      refine sv_goto (pc := 41) (tgt := 45) dX4_find_41 (by decide) ?_
      refine mr_lvS (lv' := [(0, .ref 94), (1, .ref 96), (2, iv p2), (3, iv p3), (4, iv z1), (5, iv z244), (6, iv ((z1 * 5) + z244))]) (List.forall_mem_cons.mpr ⟨rfl, List.forall_mem_cons.mpr ⟨rfl, List.forall_mem_cons.mpr ⟨rfl, List.forall_mem_cons.mpr ⟨rfl, List.forall_mem_cons.mpr ⟨rfl, List.forall_mem_cons.mpr ⟨rfl, List.forall_mem_cons.mpr ⟨rfl, fun _ h => absurd h List.not_mem_nil⟩⟩⟩⟩⟩⟩⟩) ?_
      exact J264 1 (rW (c := 0) (d := 1) (rR (x := 1)) rfl)
  refine mr_lvS (lv' := [(0, .ref 94), (1, .ref 96), (2, iv p2), (3, iv p3), (4, iv z1), (5, iv 0)]) (List.forall_mem_cons.mpr ⟨rfl, List.forall_mem_cons.mpr ⟨rfl, List.forall_mem_cons.mpr ⟨rfl, List.forall_mem_cons.mpr ⟨rfl, List.forall_mem_cons.mpr ⟨rfl, List.forall_mem_cons.mpr ⟨rfl, fun _ h => absurd h List.not_mem_nil⟩⟩⟩⟩⟩⟩) ?_
  exact L245 7 0 trivial (rW (c := 0) (d := 5) (rR (x := 0)) rfl) vc_X12_acted_13
theorem vc_X4_need_2 {p1 z19 : Int} (h0 : 5 ≤ p1 ∧ p1 ≤ 34) (h1 : 0 ≤ z19 ∧ z19 ≤ 7) : ((p1 * 7) + 1) + (z19 - 1) ≤ 245 := by omega
set_option maxRecDepth 4000 in
set_option maxHeartbeats 4000000 in
theorem c_X4_need {l : Launch} {D : va_G} {c : Nat → ClassId} {H0 : Heap} {sa : Nat × Nat × (Nat → Int32)} {w : mW} {μ : mM} (hw : mWF w) (hT : mT w μ) {p1 : Int} (hp1 : 5 ≤ p1 ∧ p1 ≤ 34) : sC (gG l D c H0 sa) mX4_need 2 0 0 [.ref 94, iv p1] (mk w μ) (qV w [98999, 99999] μ (fun μ1 => True)) := by
  refine sC.of rfl (by decide) (le_t rfl) ?_
  refine mr_lvE (lv' := [(0, .ref 94), (1, iv p1)]) rfl ?_
  refine sv_aload_n (pc := 0) dX4_need_0 rfl rfl ?_
  refine gf_X4_0 (pc := 1) dX4_need_1 wF_X4_15 (A_94 hw) hT ?_
  refine mr_iload_n (pc := 4) (z := p1) dX4_need_4 rfl rfl ?_
  refine mr_bipush (pc := 5) (z := 7) dX4_need_5 (by decide) ?_
  refine mr_imul (pc := 7) (x := p1) (y := 7) dX4_need_7 ?_
  refine mr_iconst (pc := 8) (z := 1) dX4_need_8 ?_
  refine mr_iadd (pc := 9) (x := (p1 * 7)) (y := 1) dX4_need_9 ?_
  refine la_96 (pc := 10) dX4_need_10 (A_96 hw) hT (rIx (n := 245) (rAdd (e := 36) (f := 239) (rMulR (n := 7) (e := 35) (f := 238) hp1 rfl) (rR (x := 1)) rfl) rfl) fun z1 q2 h3 => ?_
  refine mr_istore_n (pc := 11) (lv' := [(2, iv z1), (0, .ref 94), (1, iv p1)]) dX4_need_11 rfl (by decide) rfl ?_
  refine sv_aload_n (pc := 12) dX4_need_12 rfl rfl ?_
  refine gf_X4_2 (pc := 13) dX4_need_13 wF_X4_21 (A_94 hw) hT ?_
  refine mr_iload_n (pc := 16) (z := p1) dX4_need_16 rfl rfl ?_
  refine mr_iload_n (pc := 17) (z := z1) dX4_need_17 rfl rfl ?_
  refine ss_98 (pc := 18) dX4_need_18 (A_98 hw) hT (rIx (n := 35) hp1 rfl) h3 fun μ4 u5 T6 => ?_
  refine sv_aload_n (pc := 19) dX4_need_19 rfl rfl ?_
  refine gf_X4_3 (pc := 20) dX4_need_20 wF_X4_24 (A_94 hw) T6 ?_
  refine mr_iload_n (pc := 23) (z := p1) dX4_need_23 rfl rfl ?_
  refine mr_iload_n (pc := 24) (z := z1) dX4_need_24 rfl rfl ?_
  refine mr_if_ne (pc := 25) (tgt := 32) dX4_need_25 (by decide) (r32 h3 rfl) (fun h17 => ?_) (fun h17 => ?_)
  · have h18 : 1 ≤ z1 ∧ z1 ≤ 6 := (vc_X12_isOffered_1 h17 h3)
    refine sv_aload_n (pc := 32) dX4_need_32 rfl rfl ?_
    refine sv_aload_n (pc := 33) dX4_need_33 rfl rfl ?_
    refine gf_X4_0 (pc := 34) dX4_need_34 wF_X4_15 (A_94 hw) T6 ?_
    refine mr_iload_n (pc := 37) (z := p1) dX4_need_37 rfl rfl ?_
    refine mr_bipush (pc := 38) (z := 7) dX4_need_38 (by decide) ?_
    refine mr_imul (pc := 40) (x := p1) (y := 7) dX4_need_40 ?_
    refine mr_iconst (pc := 41) (z := 1) dX4_need_41 ?_
    refine mr_iadd (pc := 42) (x := (p1 * 7)) (y := 1) dX4_need_42 ?_
    refine sv_aload_n (pc := 43) dX4_need_43 rfl rfl ?_
    refine gf_X4_1 (pc := 44) dX4_need_44 wF_X4_18 (A_94 hw) T6 ?_
    refine mr_iload_n (pc := 47) (z := p1) dX4_need_47 rfl rfl ?_
    refine la_97 (pc := 48) dX4_need_48 (A_97 hw) T6 (rIx (n := 35) hp1 rfl) fun z19 q20 h21 => ?_
    refine mr_iconst (pc := 49) (z := 1) dX4_need_49 ?_
    refine mr_isub (pc := 50) (x := z19) (y := 1) dX4_need_50 ?_
    refine mr_cVP (pc := 51) (c_X4_find_w hw T6 (A_96 hw) (rW (c := 0) (d := 244) (rAdd (e := 36) (f := 239) (rMulR (n := 7) (e := 35) (f := 238) hp1 rfl) (rR (x := 1)) rfl) rfl) (rW (c := (-1)) (d := 7) (rSub (e := (-1)) (f := 6) h21 (rR (x := 1)) rfl) rfl) (vc_X4_need_2 hp1 h21)) (gOk _ _ _ _ _) dX4_need_51 (tX4_find _ _ _ _ _) ⟨wV_X4_find, wL_X4_find⟩ wM_X4_67 (gCX4 _ _ _ _ _) rfl (A_94 hw) rfl ⟨le_t rfl, le_t rfl⟩ ⟨le_t rfl, le_t rfl⟩ rfl (le_t rfl) fun z26 h25 => ?_
    refine ss_99 (pc := 54) dX4_need_54 (A_99 hw) T6 (rIx (n := 35) hp1 rfl) (rW (c := (-1)) (d := 5) h25.1 rfl) fun μ27 u28 T29 => ?_
    exact mr_vret dX4_need_55 rfl (le_t rfl) (le_t rfl) T29 (mF.up (mF.up mF.refl (A_98 hw) u5 rfl) (A_99 hw) u28 rfl) trivial
  have h30 : 0 ≤ z1 ∧ z1 ≤ 0 := (vc_X12_isOffered_13 h17 h3)
  refine mr_iconst (pc := 28) (z := 0) dX4_need_28 ?_
  refine sv_goto (pc := 29) (tgt := 54) dX4_need_29 (by decide) ?_
  refine ss_99 (pc := 54) dX4_need_54 (A_99 hw) T6 (rIx (n := 35) hp1 rfl) (rW (c := (-1)) (d := 5) (rR (x := 0)) rfl) fun μ31 u32 T33 => ?_
  exact mr_vret dX4_need_55 rfl (le_t rfl) (le_t rfl) T33 (mF.up (mF.up mF.refl (A_98 hw) u5 rfl) (A_99 hw) u32 rfl) trivial
theorem vc_X4_prepare_14 {z9963 : Int} (h0 : 1 ≤ z9963 ∧ z9963 ≤ 46656) : 1 ≤ z9963 := by omega
theorem vc_X4_prepare_30 {z9719 : Int} (h0 : 1 ≤ z9719 ∧ z9719 ≤ 7776) : 0 < z9719 := by omega
theorem vc_X4_prepare_31 {z9139 : Int} (h0 : 1 ≤ z9139 ∧ z9139 ≤ 1296) : 0 < z9139 := by omega
theorem vc_X4_prepare_32 {z7887 : Int} (h0 : 1 ≤ z7887 ∧ z7887 ≤ 216) : 0 < z7887 := by omega
theorem vc_X4_prepare_33 {z5291 : Int} (h0 : 1 ≤ z5291 ∧ z5291 ≤ 36) : 0 < z5291 := by omega
theorem vc_X4_prepare_34 {z5269 z7 : Int} (h0 : z7 ≤ z5269) (h1 : 0 ≤ z5269 ∧ z5269 ≤ 5) (h2 : 0 ≤ z7 ∧ z7 ≤ 5) : 0 < (1 * (z7 + 1)) := by omega
theorem vc_X4_prepare_35  : (0 : Int) < ((1 : Int) : Int) := by omega
set_option maxRecDepth 4000 in
set_option maxHeartbeats 4000000 in
theorem c_X4_prepare {l : Launch} {D : va_G} {c : Nat → ClassId} {H0 : Heap} {sa : Nat × Nat × (Nat → Int32)} {w : mW} {μ : mM} (hw : mWF w) (hT : mT w μ) : sC (gG l D c H0 sa) mX4_prepare 3 0 0 [.ref 94] (mk w μ) (qV w [94009, 98999, 99999, 100999] μ (fun μ1 => ∃ o_st : Int, μ1 94 9 = o_st ∧ (1 ≤ o_st) ∧ (radix μ1 100 95 (μ1 94 9)) ∧ True)) := by
  refine sC.of rfl (by decide) (le_t rfl) ?_
  refine mr_lvE (lv' := [(0, .ref 94)]) rfl ?_
  refine sv_aload_n (pc := 0) dX4_prepare_0 rfl rfl ?_
  refine mr_iconst (pc := 1) (z := 1) dX4_prepare_1 ?_
  refine pf_X4_9 (pc := 2) dX4_prepare_2 wF_X4_59 (A_94 hw) hT (rW (c := 0) (d := 46656) (rR (x := 1)) rfl) fun μ1 u2 T3 => ?_
  refine mr_bipush (pc := 5) (z := 6) dX4_prepare_5 (by decide) ?_
  refine mr_istore_n (pc := 7) (lv' := [(1, iv 6), (0, .ref 94)]) dX4_prepare_7 rfl (by decide) rfl ?_
  refine mr_iload_n (pc := 8) (z := 6) dX4_prepare_8 rfl rfl ?_
  refine mr_iconst (pc := 9) (z := 1) dX4_prepare_9 ?_
  refine mr_icmp_lt (pc := 10) (tgt := 73) dX4_prepare_10 (by decide) (r32 (rR (x := 6)) rfl) (r32 (rR (x := 1)) rfl) (fun h => ((vc_X12_states_1 h)).elim) (fun _ => ?_)
  refine sv_aload_n (pc := 13) dX4_prepare_13 rfl rfl ?_
  refine gf_X4_4 (pc := 14) dX4_prepare_14 wF_X4_27 (A_94 hw) T3 ?_
  refine mr_iload_n (pc := 17) (z := 6) dX4_prepare_17 rfl rfl ?_
  refine sv_aload_n (pc := 18) dX4_prepare_18 rfl rfl ?_
  refine gk_X4_9 (pc := 19) dX4_prepare_19 wF_X4_59 (A_94 hw) u2.1 ?_
  refine ss_100 (pc := 22) dX4_prepare_22 (A_100 hw) T3 (rIx (n := 7) (rR (x := 6)) rfl) (rW (c := 0) (d := 46656) (rR (x := 1)) rfl) fun μ4 u5 T6 => ?_
  refine sv_aload_n (pc := 23) dX4_prepare_23 rfl rfl ?_
  refine sv_dup (pc := 24) dX4_prepare_24 rfl ?_
  refine gk_X4_9 (pc := 25) dX4_prepare_25 wF_X4_59 (A_94 hw) (u5.f (Or.inl (mAt.ne (A_100 hw) (A_94 hw) rfl)) u2.1) ?_
  refine sv_aload_n (pc := 28) dX4_prepare_28 rfl rfl ?_
  refine gf_X4_12 (pc := 29) dX4_prepare_29 wF_X4_11 (A_94 hw) T6 ?_
  refine mr_iload_n (pc := 32) (z := 6) dX4_prepare_32 rfl rfl ?_
  refine la_95 (pc := 33) dX4_prepare_33 (A_95 hw) T6 (rIx (n := 7) (rR (x := 6)) rfl) fun z7 q8 h9 => ?_
  refine mr_iconst (pc := 34) (z := 1) dX4_prepare_34 ?_
  refine mr_iadd (pc := 35) (x := z7) (y := 1) dX4_prepare_35 ?_
  refine mr_imul (pc := 36) (x := 1) (y := (z7 + 1)) dX4_prepare_36 ?_
  refine pf_X4_9 (pc := 37) dX4_prepare_37 wF_X4_59 (A_94 hw) T6 (rW (c := 0) (d := 46656) (rMulL (n := 1) (e := 1) (f := 6) (rAdd (e := 1) (f := 6) h9 (rR (x := 1)) rfl) rfl) rfl) fun μ10 u11 T12 => ?_
  refine mr_iconst (pc := 40) (z := 0) dX4_prepare_40 ?_
  refine mr_istore_n (pc := 41) (lv' := [(2, iv 0), (1, iv 6), (0, .ref 94)]) dX4_prepare_41 rfl (by decide) rfl ?_
  have L5271 : ∀ (nL5271 : Nat) (z5269 : Int) (μ5270 : mM), mT w μ5270 → mF [98999, 99999] w μ10 μ5270 → (0 ≤ z5269 ∧ z5269 ≤ 5) → (6 - z5269) < (nL5271 : Int) → sV (gG l D c H0 sa) mX4_prepare (sRm 3 0 0) (sZ (gG l D c H0 sa) 0 0 (qV w [94009, 98999, 99999, 100999] μ (fun μ1 => ∃ o_st : Int, μ1 94 9 = o_st ∧ (1 ≤ o_st) ∧ (radix μ1 100 95 (μ1 94 9)) ∧ True))) 42 [(0, .ref 94), (1, iv 6), (2, iv z5269)] [] (mk w μ5270) 0 0 := by
    intro nL5271
    induction nL5271 with
    | zero => intro z5269 μ5270 T5273 F5274 h5272 h5276; exact ((vc_X12_acted_1 h5276 h5272)).elim
    | succ nL5271 ih5277 =>
      intro z5269 μ5270 T5273 F5274 h5272 h5276
      refine mr_iload_n (pc := 42) (z := z5269) dX4_prepare_42 rfl rfl ?_
      refine sv_aload_n (pc := 43) dX4_prepare_43 rfl rfl ?_
      refine gf_X4_12 (pc := 44) dX4_prepare_44 wF_X4_11 (A_94 hw) T5273 ?_
      refine mr_iload_n (pc := 47) (z := 6) dX4_prepare_47 rfl rfl ?_
      refine lk_95 (pc := 48) dX4_prepare_48 (A_95 hw) (rIx (n := 7) (rR (x := 6)) rfl) (F5274.f (A_95 hw) rfl (u11.f (Or.inl (mAt.ne (A_94 hw) (A_95 hw) rfl)) q8)) ?_
      refine mr_icmp_ge (pc := 49) (tgt := 67) dX4_prepare_49 (by decide) (r32 h5272 rfl) (r32 h9 rfl) (fun h5284 => ?_) (fun h5284 => ?_)
      · refine mr_iinc (pc := 67) (lv' := [(1, iv 5), (0, .ref 94), (2, iv z5269)]) dX4_prepare_67 rfl (by decide) rfl ?_
        refine sv_goto (pc := 70) (tgt := 8) dX4_prepare_70 (by decide) ?_
        refine mr_iload_n (pc := 8) (z := 5) dX4_prepare_8 rfl rfl ?_
        refine mr_iconst (pc := 9) (z := 1) dX4_prepare_9 ?_
        refine mr_icmp_lt (pc := 10) (tgt := 73) dX4_prepare_10 (by decide) (r32 (rR (x := 5)) rfl) (r32 (rR (x := 1)) rfl) (fun h => ((vc_X12_states_2 h)).elim) (fun _ => ?_)
        refine sv_aload_n (pc := 13) dX4_prepare_13 rfl rfl ?_
        refine gf_X4_4 (pc := 14) dX4_prepare_14 wF_X4_27 (A_94 hw) T5273 ?_
        refine mr_iload_n (pc := 17) (z := 5) dX4_prepare_17 rfl rfl ?_
        refine sv_aload_n (pc := 18) dX4_prepare_18 rfl rfl ?_
        refine gk_X4_9 (pc := 19) dX4_prepare_19 wF_X4_59 (A_94 hw) (F5274.f (A_94 hw) rfl u11.1) ?_
        refine ss_100 (pc := 22) dX4_prepare_22 (A_100 hw) T5273 (rIx (n := 7) (rR (x := 5)) rfl) (rW (c := 0) (d := 46656) (rMulL (n := 1) (e := 1) (f := 6) (rAdd (e := 1) (f := 6) h9 (rR (x := 1)) rfl) rfl) rfl) fun μ5285 u5286 T5287 => ?_
        refine sv_aload_n (pc := 23) dX4_prepare_23 rfl rfl ?_
        refine sv_dup (pc := 24) dX4_prepare_24 rfl ?_
        refine gk_X4_9 (pc := 25) dX4_prepare_25 wF_X4_59 (A_94 hw) (u5286.f (Or.inl (mAt.ne (A_100 hw) (A_94 hw) rfl)) (F5274.f (A_94 hw) rfl u11.1)) ?_
        refine sv_aload_n (pc := 28) dX4_prepare_28 rfl rfl ?_
        refine gf_X4_12 (pc := 29) dX4_prepare_29 wF_X4_11 (A_94 hw) T5287 ?_
        refine mr_iload_n (pc := 32) (z := 5) dX4_prepare_32 rfl rfl ?_
        refine la_95 (pc := 33) dX4_prepare_33 (A_95 hw) T5287 (rIx (n := 7) (rR (x := 5)) rfl) fun z5288 q5289 h5290 => ?_
        refine mr_iconst (pc := 34) (z := 1) dX4_prepare_34 ?_
        refine mr_iadd (pc := 35) (x := z5288) (y := 1) dX4_prepare_35 ?_
        refine mr_imul (pc := 36) (x := (1 * (z7 + 1))) (y := (z5288 + 1)) dX4_prepare_36 ?_
        refine mr_gen (P := fun z => 1 ≤ z ∧ z ≤ 36) (rMulP (rMulL (n := 1) (e := 1) (f := 6) (rAdd (e := 1) (f := 6) h9 (rR (x := 1)) rfl) rfl) (rAdd (e := 1) (f := 6) h5290 (rR (x := 1)) rfl) rfl) fun z5291 q5292 h5293 => ?_
        refine pf_X4_9 (pc := 37) dX4_prepare_37 wF_X4_59 (A_94 hw) T5287 (rW (c := 0) (d := 46656) h5293 rfl) fun μ5294 u5295 T5296 => ?_
        refine mr_iconst (pc := 40) (z := 0) dX4_prepare_40 ?_
        refine mr_istore_n (pc := 41) (lv' := [(2, iv 0), (1, iv 5), (0, .ref 94)]) dX4_prepare_41 rfl (by decide) rfl ?_
        have L7867 : ∀ (nL7867 : Nat) (z7865 : Int) (μ7866 : mM), mT w μ7866 → mF [98999, 99999] w μ5294 μ7866 → (0 ≤ z7865 ∧ z7865 ≤ 5) → (6 - z7865) < (nL7867 : Int) → sV (gG l D c H0 sa) mX4_prepare (sRm 3 0 0) (sZ (gG l D c H0 sa) 0 0 (qV w [94009, 98999, 99999, 100999] μ (fun μ1 => ∃ o_st : Int, μ1 94 9 = o_st ∧ (1 ≤ o_st) ∧ (radix μ1 100 95 (μ1 94 9)) ∧ True))) 42 [(0, .ref 94), (1, iv 5), (2, iv z7865)] [] (mk w μ7866) 0 0 := by
          intro nL7867
          induction nL7867 with
          | zero => intro z7865 μ7866 T7869 F7870 h7868 h7872; exact ((vc_X12_acted_1 h7872 h7868)).elim
          | succ nL7867 ih7873 =>
            intro z7865 μ7866 T7869 F7870 h7868 h7872
            refine mr_iload_n (pc := 42) (z := z7865) dX4_prepare_42 rfl rfl ?_
            refine sv_aload_n (pc := 43) dX4_prepare_43 rfl rfl ?_
            refine gf_X4_12 (pc := 44) dX4_prepare_44 wF_X4_11 (A_94 hw) T7869 ?_
            refine mr_iload_n (pc := 47) (z := 5) dX4_prepare_47 rfl rfl ?_
            refine lk_95 (pc := 48) dX4_prepare_48 (A_95 hw) (rIx (n := 7) (rR (x := 5)) rfl) (F7870.f (A_95 hw) rfl (u5295.f (Or.inl (mAt.ne (A_94 hw) (A_95 hw) rfl)) q5289)) ?_
            refine mr_icmp_ge (pc := 49) (tgt := 67) dX4_prepare_49 (by decide) (r32 h7868 rfl) (r32 h5290 rfl) (fun h7880 => ?_) (fun h7880 => ?_)
            · refine mr_iinc (pc := 67) (lv' := [(1, iv 4), (0, .ref 94), (2, iv z7865)]) dX4_prepare_67 rfl (by decide) rfl ?_
              refine sv_goto (pc := 70) (tgt := 8) dX4_prepare_70 (by decide) ?_
              refine mr_iload_n (pc := 8) (z := 4) dX4_prepare_8 rfl rfl ?_
              refine mr_iconst (pc := 9) (z := 1) dX4_prepare_9 ?_
              refine mr_icmp_lt (pc := 10) (tgt := 73) dX4_prepare_10 (by decide) (r32 (rR (x := 4)) rfl) (r32 (rR (x := 1)) rfl) (fun h => ((vc_X12_states_3 h)).elim) (fun _ => ?_)
              refine sv_aload_n (pc := 13) dX4_prepare_13 rfl rfl ?_
              refine gf_X4_4 (pc := 14) dX4_prepare_14 wF_X4_27 (A_94 hw) T7869 ?_
              refine mr_iload_n (pc := 17) (z := 4) dX4_prepare_17 rfl rfl ?_
              refine sv_aload_n (pc := 18) dX4_prepare_18 rfl rfl ?_
              refine gk_X4_9 (pc := 19) dX4_prepare_19 wF_X4_59 (A_94 hw) (F7870.f (A_94 hw) rfl u5295.1) ?_
              refine ss_100 (pc := 22) dX4_prepare_22 (A_100 hw) T7869 (rIx (n := 7) (rR (x := 4)) rfl) (rW (c := 0) (d := 46656) h5293 rfl) fun μ7881 u7882 T7883 => ?_
              refine sv_aload_n (pc := 23) dX4_prepare_23 rfl rfl ?_
              refine sv_dup (pc := 24) dX4_prepare_24 rfl ?_
              refine gk_X4_9 (pc := 25) dX4_prepare_25 wF_X4_59 (A_94 hw) (u7882.f (Or.inl (mAt.ne (A_100 hw) (A_94 hw) rfl)) (F7870.f (A_94 hw) rfl u5295.1)) ?_
              refine sv_aload_n (pc := 28) dX4_prepare_28 rfl rfl ?_
              refine gf_X4_12 (pc := 29) dX4_prepare_29 wF_X4_11 (A_94 hw) T7883 ?_
              refine mr_iload_n (pc := 32) (z := 4) dX4_prepare_32 rfl rfl ?_
              refine la_95 (pc := 33) dX4_prepare_33 (A_95 hw) T7883 (rIx (n := 7) (rR (x := 4)) rfl) fun z7884 q7885 h7886 => ?_
              refine mr_iconst (pc := 34) (z := 1) dX4_prepare_34 ?_
              refine mr_iadd (pc := 35) (x := z7884) (y := 1) dX4_prepare_35 ?_
              refine mr_imul (pc := 36) (x := z5291) (y := (z7884 + 1)) dX4_prepare_36 ?_
              refine mr_gen (P := fun z => 1 ≤ z ∧ z ≤ 216) (rMulP h5293 (rAdd (e := 1) (f := 6) h7886 (rR (x := 1)) rfl) rfl) fun z7887 q7888 h7889 => ?_
              refine pf_X4_9 (pc := 37) dX4_prepare_37 wF_X4_59 (A_94 hw) T7883 (rW (c := 0) (d := 46656) h7889 rfl) fun μ7890 u7891 T7892 => ?_
              refine mr_iconst (pc := 40) (z := 0) dX4_prepare_40 ?_
              refine mr_istore_n (pc := 41) (lv' := [(2, iv 0), (1, iv 4), (0, .ref 94)]) dX4_prepare_41 rfl (by decide) rfl ?_
              have L9119 : ∀ (nL9119 : Nat) (z9117 : Int) (μ9118 : mM), mT w μ9118 → mF [98999, 99999] w μ7890 μ9118 → (0 ≤ z9117 ∧ z9117 ≤ 5) → (6 - z9117) < (nL9119 : Int) → sV (gG l D c H0 sa) mX4_prepare (sRm 3 0 0) (sZ (gG l D c H0 sa) 0 0 (qV w [94009, 98999, 99999, 100999] μ (fun μ1 => ∃ o_st : Int, μ1 94 9 = o_st ∧ (1 ≤ o_st) ∧ (radix μ1 100 95 (μ1 94 9)) ∧ True))) 42 [(0, .ref 94), (1, iv 4), (2, iv z9117)] [] (mk w μ9118) 0 0 := by
                intro nL9119
                induction nL9119 with
                | zero => intro z9117 μ9118 T9121 F9122 h9120 h9124; exact ((vc_X12_acted_1 h9124 h9120)).elim
                | succ nL9119 ih9125 =>
                  intro z9117 μ9118 T9121 F9122 h9120 h9124
                  refine mr_iload_n (pc := 42) (z := z9117) dX4_prepare_42 rfl rfl ?_
                  refine sv_aload_n (pc := 43) dX4_prepare_43 rfl rfl ?_
                  refine gf_X4_12 (pc := 44) dX4_prepare_44 wF_X4_11 (A_94 hw) T9121 ?_
                  refine mr_iload_n (pc := 47) (z := 4) dX4_prepare_47 rfl rfl ?_
                  refine lk_95 (pc := 48) dX4_prepare_48 (A_95 hw) (rIx (n := 7) (rR (x := 4)) rfl) (F9122.f (A_95 hw) rfl (u7891.f (Or.inl (mAt.ne (A_94 hw) (A_95 hw) rfl)) q7885)) ?_
                  refine mr_icmp_ge (pc := 49) (tgt := 67) dX4_prepare_49 (by decide) (r32 h9120 rfl) (r32 h7886 rfl) (fun h9132 => ?_) (fun h9132 => ?_)
                  · refine mr_iinc (pc := 67) (lv' := [(1, iv 3), (0, .ref 94), (2, iv z9117)]) dX4_prepare_67 rfl (by decide) rfl ?_
                    refine sv_goto (pc := 70) (tgt := 8) dX4_prepare_70 (by decide) ?_
                    refine mr_iload_n (pc := 8) (z := 3) dX4_prepare_8 rfl rfl ?_
                    refine mr_iconst (pc := 9) (z := 1) dX4_prepare_9 ?_
                    refine mr_icmp_lt (pc := 10) (tgt := 73) dX4_prepare_10 (by decide) (r32 (rR (x := 3)) rfl) (r32 (rR (x := 1)) rfl) (fun h => ((vc_X12_states_4 h)).elim) (fun _ => ?_)
                    refine sv_aload_n (pc := 13) dX4_prepare_13 rfl rfl ?_
                    refine gf_X4_4 (pc := 14) dX4_prepare_14 wF_X4_27 (A_94 hw) T9121 ?_
                    refine mr_iload_n (pc := 17) (z := 3) dX4_prepare_17 rfl rfl ?_
                    refine sv_aload_n (pc := 18) dX4_prepare_18 rfl rfl ?_
                    refine gk_X4_9 (pc := 19) dX4_prepare_19 wF_X4_59 (A_94 hw) (F9122.f (A_94 hw) rfl u7891.1) ?_
                    refine ss_100 (pc := 22) dX4_prepare_22 (A_100 hw) T9121 (rIx (n := 7) (rR (x := 3)) rfl) (rW (c := 0) (d := 46656) h7889 rfl) fun μ9133 u9134 T9135 => ?_
                    refine sv_aload_n (pc := 23) dX4_prepare_23 rfl rfl ?_
                    refine sv_dup (pc := 24) dX4_prepare_24 rfl ?_
                    refine gk_X4_9 (pc := 25) dX4_prepare_25 wF_X4_59 (A_94 hw) (u9134.f (Or.inl (mAt.ne (A_100 hw) (A_94 hw) rfl)) (F9122.f (A_94 hw) rfl u7891.1)) ?_
                    refine sv_aload_n (pc := 28) dX4_prepare_28 rfl rfl ?_
                    refine gf_X4_12 (pc := 29) dX4_prepare_29 wF_X4_11 (A_94 hw) T9135 ?_
                    refine mr_iload_n (pc := 32) (z := 3) dX4_prepare_32 rfl rfl ?_
                    refine la_95 (pc := 33) dX4_prepare_33 (A_95 hw) T9135 (rIx (n := 7) (rR (x := 3)) rfl) fun z9136 q9137 h9138 => ?_
                    refine mr_iconst (pc := 34) (z := 1) dX4_prepare_34 ?_
                    refine mr_iadd (pc := 35) (x := z9136) (y := 1) dX4_prepare_35 ?_
                    refine mr_imul (pc := 36) (x := z7887) (y := (z9136 + 1)) dX4_prepare_36 ?_
                    refine mr_gen (P := fun z => 1 ≤ z ∧ z ≤ 1296) (rMulP h7889 (rAdd (e := 1) (f := 6) h9138 (rR (x := 1)) rfl) rfl) fun z9139 q9140 h9141 => ?_
                    refine pf_X4_9 (pc := 37) dX4_prepare_37 wF_X4_59 (A_94 hw) T9135 (rW (c := 0) (d := 46656) h9141 rfl) fun μ9142 u9143 T9144 => ?_
                    refine mr_iconst (pc := 40) (z := 0) dX4_prepare_40 ?_
                    refine mr_istore_n (pc := 41) (lv' := [(2, iv 0), (1, iv 3), (0, .ref 94)]) dX4_prepare_41 rfl (by decide) rfl ?_
                    have L9699 : ∀ (nL9699 : Nat) (z9697 : Int) (μ9698 : mM), mT w μ9698 → mF [98999, 99999] w μ9142 μ9698 → (0 ≤ z9697 ∧ z9697 ≤ 5) → (6 - z9697) < (nL9699 : Int) → sV (gG l D c H0 sa) mX4_prepare (sRm 3 0 0) (sZ (gG l D c H0 sa) 0 0 (qV w [94009, 98999, 99999, 100999] μ (fun μ1 => ∃ o_st : Int, μ1 94 9 = o_st ∧ (1 ≤ o_st) ∧ (radix μ1 100 95 (μ1 94 9)) ∧ True))) 42 [(0, .ref 94), (1, iv 3), (2, iv z9697)] [] (mk w μ9698) 0 0 := by
                      intro nL9699
                      induction nL9699 with
                      | zero => intro z9697 μ9698 T9701 F9702 h9700 h9704; exact ((vc_X12_acted_1 h9704 h9700)).elim
                      | succ nL9699 ih9705 =>
                        intro z9697 μ9698 T9701 F9702 h9700 h9704
                        refine mr_iload_n (pc := 42) (z := z9697) dX4_prepare_42 rfl rfl ?_
                        refine sv_aload_n (pc := 43) dX4_prepare_43 rfl rfl ?_
                        refine gf_X4_12 (pc := 44) dX4_prepare_44 wF_X4_11 (A_94 hw) T9701 ?_
                        refine mr_iload_n (pc := 47) (z := 3) dX4_prepare_47 rfl rfl ?_
                        refine lk_95 (pc := 48) dX4_prepare_48 (A_95 hw) (rIx (n := 7) (rR (x := 3)) rfl) (F9702.f (A_95 hw) rfl (u9143.f (Or.inl (mAt.ne (A_94 hw) (A_95 hw) rfl)) q9137)) ?_
                        refine mr_icmp_ge (pc := 49) (tgt := 67) dX4_prepare_49 (by decide) (r32 h9700 rfl) (r32 h9138 rfl) (fun h9712 => ?_) (fun h9712 => ?_)
                        · refine mr_iinc (pc := 67) (lv' := [(1, iv 2), (0, .ref 94), (2, iv z9697)]) dX4_prepare_67 rfl (by decide) rfl ?_
                          refine sv_goto (pc := 70) (tgt := 8) dX4_prepare_70 (by decide) ?_
                          refine mr_iload_n (pc := 8) (z := 2) dX4_prepare_8 rfl rfl ?_
                          refine mr_iconst (pc := 9) (z := 1) dX4_prepare_9 ?_
                          refine mr_icmp_lt (pc := 10) (tgt := 73) dX4_prepare_10 (by decide) (r32 (rR (x := 2)) rfl) (r32 (rR (x := 1)) rfl) (fun h => ((vc_X12_states_5 h)).elim) (fun _ => ?_)
                          refine sv_aload_n (pc := 13) dX4_prepare_13 rfl rfl ?_
                          refine gf_X4_4 (pc := 14) dX4_prepare_14 wF_X4_27 (A_94 hw) T9701 ?_
                          refine mr_iload_n (pc := 17) (z := 2) dX4_prepare_17 rfl rfl ?_
                          refine sv_aload_n (pc := 18) dX4_prepare_18 rfl rfl ?_
                          refine gk_X4_9 (pc := 19) dX4_prepare_19 wF_X4_59 (A_94 hw) (F9702.f (A_94 hw) rfl u9143.1) ?_
                          refine ss_100 (pc := 22) dX4_prepare_22 (A_100 hw) T9701 (rIx (n := 7) (rR (x := 2)) rfl) (rW (c := 0) (d := 46656) h9141 rfl) fun μ9713 u9714 T9715 => ?_
                          refine sv_aload_n (pc := 23) dX4_prepare_23 rfl rfl ?_
                          refine sv_dup (pc := 24) dX4_prepare_24 rfl ?_
                          refine gk_X4_9 (pc := 25) dX4_prepare_25 wF_X4_59 (A_94 hw) (u9714.f (Or.inl (mAt.ne (A_100 hw) (A_94 hw) rfl)) (F9702.f (A_94 hw) rfl u9143.1)) ?_
                          refine sv_aload_n (pc := 28) dX4_prepare_28 rfl rfl ?_
                          refine gf_X4_12 (pc := 29) dX4_prepare_29 wF_X4_11 (A_94 hw) T9715 ?_
                          refine mr_iload_n (pc := 32) (z := 2) dX4_prepare_32 rfl rfl ?_
                          refine la_95 (pc := 33) dX4_prepare_33 (A_95 hw) T9715 (rIx (n := 7) (rR (x := 2)) rfl) fun z9716 q9717 h9718 => ?_
                          refine mr_iconst (pc := 34) (z := 1) dX4_prepare_34 ?_
                          refine mr_iadd (pc := 35) (x := z9716) (y := 1) dX4_prepare_35 ?_
                          refine mr_imul (pc := 36) (x := z9139) (y := (z9716 + 1)) dX4_prepare_36 ?_
                          refine mr_gen (P := fun z => 1 ≤ z ∧ z ≤ 7776) (rMulP h9141 (rAdd (e := 1) (f := 6) h9718 (rR (x := 1)) rfl) rfl) fun z9719 q9720 h9721 => ?_
                          refine pf_X4_9 (pc := 37) dX4_prepare_37 wF_X4_59 (A_94 hw) T9715 (rW (c := 0) (d := 46656) h9721 rfl) fun μ9722 u9723 T9724 => ?_
                          refine mr_iconst (pc := 40) (z := 0) dX4_prepare_40 ?_
                          refine mr_istore_n (pc := 41) (lv' := [(2, iv 0), (1, iv 2), (0, .ref 94)]) dX4_prepare_41 rfl (by decide) rfl ?_
                          have L9943 : ∀ (nL9943 : Nat) (z9941 : Int) (μ9942 : mM), mT w μ9942 → mF [98999, 99999] w μ9722 μ9942 → (0 ≤ z9941 ∧ z9941 ≤ 5) → (6 - z9941) < (nL9943 : Int) → sV (gG l D c H0 sa) mX4_prepare (sRm 3 0 0) (sZ (gG l D c H0 sa) 0 0 (qV w [94009, 98999, 99999, 100999] μ (fun μ1 => ∃ o_st : Int, μ1 94 9 = o_st ∧ (1 ≤ o_st) ∧ (radix μ1 100 95 (μ1 94 9)) ∧ True))) 42 [(0, .ref 94), (1, iv 2), (2, iv z9941)] [] (mk w μ9942) 0 0 := by
                            intro nL9943
                            induction nL9943 with
                            | zero => intro z9941 μ9942 T9945 F9946 h9944 h9948; exact ((vc_X12_acted_1 h9948 h9944)).elim
                            | succ nL9943 ih9949 =>
                              intro z9941 μ9942 T9945 F9946 h9944 h9948
                              refine mr_iload_n (pc := 42) (z := z9941) dX4_prepare_42 rfl rfl ?_
                              refine sv_aload_n (pc := 43) dX4_prepare_43 rfl rfl ?_
                              refine gf_X4_12 (pc := 44) dX4_prepare_44 wF_X4_11 (A_94 hw) T9945 ?_
                              refine mr_iload_n (pc := 47) (z := 2) dX4_prepare_47 rfl rfl ?_
                              refine lk_95 (pc := 48) dX4_prepare_48 (A_95 hw) (rIx (n := 7) (rR (x := 2)) rfl) (F9946.f (A_95 hw) rfl (u9723.f (Or.inl (mAt.ne (A_94 hw) (A_95 hw) rfl)) q9717)) ?_
                              refine mr_icmp_ge (pc := 49) (tgt := 67) dX4_prepare_49 (by decide) (r32 h9944 rfl) (r32 h9718 rfl) (fun h9956 => ?_) (fun h9956 => ?_)
                              · refine mr_iinc (pc := 67) (lv' := [(1, iv 1), (0, .ref 94), (2, iv z9941)]) dX4_prepare_67 rfl (by decide) rfl ?_
                                refine sv_goto (pc := 70) (tgt := 8) dX4_prepare_70 (by decide) ?_
                                refine mr_iload_n (pc := 8) (z := 1) dX4_prepare_8 rfl rfl ?_
                                refine mr_iconst (pc := 9) (z := 1) dX4_prepare_9 ?_
                                refine mr_icmp_lt (pc := 10) (tgt := 73) dX4_prepare_10 (by decide) (r32 (rR (x := 1)) rfl) (r32 (rR (x := 1)) rfl) (fun h => ((vc_X12_states_6 h)).elim) (fun _ => ?_)
                                refine sv_aload_n (pc := 13) dX4_prepare_13 rfl rfl ?_
                                refine gf_X4_4 (pc := 14) dX4_prepare_14 wF_X4_27 (A_94 hw) T9945 ?_
                                refine mr_iload_n (pc := 17) (z := 1) dX4_prepare_17 rfl rfl ?_
                                refine sv_aload_n (pc := 18) dX4_prepare_18 rfl rfl ?_
                                refine gk_X4_9 (pc := 19) dX4_prepare_19 wF_X4_59 (A_94 hw) (F9946.f (A_94 hw) rfl u9723.1) ?_
                                refine ss_100 (pc := 22) dX4_prepare_22 (A_100 hw) T9945 (rIx (n := 7) (rR (x := 1)) rfl) (rW (c := 0) (d := 46656) h9721 rfl) fun μ9957 u9958 T9959 => ?_
                                refine sv_aload_n (pc := 23) dX4_prepare_23 rfl rfl ?_
                                refine sv_dup (pc := 24) dX4_prepare_24 rfl ?_
                                refine gk_X4_9 (pc := 25) dX4_prepare_25 wF_X4_59 (A_94 hw) (u9958.f (Or.inl (mAt.ne (A_100 hw) (A_94 hw) rfl)) (F9946.f (A_94 hw) rfl u9723.1)) ?_
                                refine sv_aload_n (pc := 28) dX4_prepare_28 rfl rfl ?_
                                refine gf_X4_12 (pc := 29) dX4_prepare_29 wF_X4_11 (A_94 hw) T9959 ?_
                                refine mr_iload_n (pc := 32) (z := 1) dX4_prepare_32 rfl rfl ?_
                                refine la_95 (pc := 33) dX4_prepare_33 (A_95 hw) T9959 (rIx (n := 7) (rR (x := 1)) rfl) fun z9960 q9961 h9962 => ?_
                                refine mr_iconst (pc := 34) (z := 1) dX4_prepare_34 ?_
                                refine mr_iadd (pc := 35) (x := z9960) (y := 1) dX4_prepare_35 ?_
                                refine mr_imul (pc := 36) (x := z9719) (y := (z9960 + 1)) dX4_prepare_36 ?_
                                refine mr_gen (P := fun z => 1 ≤ z ∧ z ≤ 46656) (rMulP h9721 (rAdd (e := 1) (f := 6) h9962 (rR (x := 1)) rfl) rfl) fun z9963 q9964 h9965 => ?_
                                refine pf_X4_9 (pc := 37) dX4_prepare_37 wF_X4_59 (A_94 hw) T9959 (rW (c := 0) (d := 46656) h9965 rfl) fun μ9966 u9967 T9968 => ?_
                                refine mr_iconst (pc := 40) (z := 0) dX4_prepare_40 ?_
                                refine mr_istore_n (pc := 41) (lv' := [(2, iv 0), (1, iv 1), (0, .ref 94)]) dX4_prepare_41 rfl (by decide) rfl ?_
                                have L10019 : ∀ (nL10019 : Nat) (z10017 : Int) (μ10018 : mM), mT w μ10018 → mF [98999, 99999] w μ9966 μ10018 → (0 ≤ z10017 ∧ z10017 ≤ 5) → (6 - z10017) < (nL10019 : Int) → sV (gG l D c H0 sa) mX4_prepare (sRm 3 0 0) (sZ (gG l D c H0 sa) 0 0 (qV w [94009, 98999, 99999, 100999] μ (fun μ1 => ∃ o_st : Int, μ1 94 9 = o_st ∧ (1 ≤ o_st) ∧ (radix μ1 100 95 (μ1 94 9)) ∧ True))) 42 [(0, .ref 94), (1, iv 1), (2, iv z10017)] [] (mk w μ10018) 0 0 := by
                                  intro nL10019
                                  induction nL10019 with
                                  | zero => intro z10017 μ10018 T10021 F10022 h10020 h10024; exact ((vc_X12_acted_1 h10024 h10020)).elim
                                  | succ nL10019 ih10025 =>
                                    intro z10017 μ10018 T10021 F10022 h10020 h10024
                                    refine mr_iload_n (pc := 42) (z := z10017) dX4_prepare_42 rfl rfl ?_
                                    refine sv_aload_n (pc := 43) dX4_prepare_43 rfl rfl ?_
                                    refine gf_X4_12 (pc := 44) dX4_prepare_44 wF_X4_11 (A_94 hw) T10021 ?_
                                    refine mr_iload_n (pc := 47) (z := 1) dX4_prepare_47 rfl rfl ?_
                                    refine lk_95 (pc := 48) dX4_prepare_48 (A_95 hw) (rIx (n := 7) (rR (x := 1)) rfl) (F10022.f (A_95 hw) rfl (u9967.f (Or.inl (mAt.ne (A_94 hw) (A_95 hw) rfl)) q9961)) ?_
                                    refine mr_icmp_ge (pc := 49) (tgt := 67) dX4_prepare_49 (by decide) (r32 h10020 rfl) (r32 h9962 rfl) (fun h10032 => ?_) (fun h10032 => ?_)
                                    · refine mr_iinc (pc := 67) (lv' := [(1, iv 0), (0, .ref 94), (2, iv z10017)]) dX4_prepare_67 rfl (by decide) rfl ?_
                                      refine sv_goto (pc := 70) (tgt := 8) dX4_prepare_70 (by decide) ?_
                                      refine mr_iload_n (pc := 8) (z := 0) dX4_prepare_8 rfl rfl ?_
                                      refine mr_iconst (pc := 9) (z := 1) dX4_prepare_9 ?_
                                      refine mr_icmp_lt (pc := 10) (tgt := 73) dX4_prepare_10 (by decide) (r32 (rR (x := 0)) rfl) (r32 (rR (x := 1)) rfl) (fun _ => ?_) (fun h => ((vc_X12_states_7 h)).elim)
                                      exact mr_vret dX4_prepare_73 rfl (le_t rfl) (le_t rfl) T10021 (mF.call (mF.up (mF.up (mF.call (mF.up (mF.up (mF.call (mF.up (mF.up (mF.call (mF.up (mF.up (mF.call (mF.up (mF.up (mF.call (mF.up (mF.up (mF.up mF.refl (A_94 hw) u2 rfl) (A_100 hw) u5 rfl) (A_94 hw) u11 rfl) F5274 rfl) (A_100 hw) u5286 rfl) (A_94 hw) u5295 rfl) F7870 rfl) (A_100 hw) u7882 rfl) (A_94 hw) u7891 rfl) F9122 rfl) (A_100 hw) u9134 rfl) (A_94 hw) u9143 rfl) F9702 rfl) (A_100 hw) u9714 rfl) (A_94 hw) u9723 rfl) F9946 rfl) (A_100 hw) u9958 rfl) (A_94 hw) u9967 rfl) F10022 rfl) ⟨z9963, (F10022.f (A_94 hw) rfl u9967.1), (vc_X4_prepare_14 h9965), (by show radix μ10018 100 95 (μ10018 94 9); rw [(F10022.f (A_94 hw) rfl u9967.1)]; exact radix.mk (F10022.f (A_95 hw) rfl (u9967.f (Or.inl (mAt.ne (A_94 hw) (A_95 hw) rfl)) q9961)) (F10022.f (A_95 hw) rfl (u9967.f (Or.inl (mAt.ne (A_94 hw) (A_95 hw) rfl)) (u9958.f (Or.inl (mAt.ne (A_100 hw) (A_95 hw) rfl)) (F9946.f (A_95 hw) rfl (u9723.f (Or.inl (mAt.ne (A_94 hw) (A_95 hw) rfl)) q9717))))) (F10022.f (A_95 hw) rfl (u9967.f (Or.inl (mAt.ne (A_94 hw) (A_95 hw) rfl)) (u9958.f (Or.inl (mAt.ne (A_100 hw) (A_95 hw) rfl)) (F9946.f (A_95 hw) rfl (u9723.f (Or.inl (mAt.ne (A_94 hw) (A_95 hw) rfl)) (u9714.f (Or.inl (mAt.ne (A_100 hw) (A_95 hw) rfl)) (F9702.f (A_95 hw) rfl (u9143.f (Or.inl (mAt.ne (A_94 hw) (A_95 hw) rfl)) q9137)))))))) (F10022.f (A_95 hw) rfl (u9967.f (Or.inl (mAt.ne (A_94 hw) (A_95 hw) rfl)) (u9958.f (Or.inl (mAt.ne (A_100 hw) (A_95 hw) rfl)) (F9946.f (A_95 hw) rfl (u9723.f (Or.inl (mAt.ne (A_94 hw) (A_95 hw) rfl)) (u9714.f (Or.inl (mAt.ne (A_100 hw) (A_95 hw) rfl)) (F9702.f (A_95 hw) rfl (u9143.f (Or.inl (mAt.ne (A_94 hw) (A_95 hw) rfl)) (u9134.f (Or.inl (mAt.ne (A_100 hw) (A_95 hw) rfl)) (F9122.f (A_95 hw) rfl (u7891.f (Or.inl (mAt.ne (A_94 hw) (A_95 hw) rfl)) q7885))))))))))) (F10022.f (A_95 hw) rfl (u9967.f (Or.inl (mAt.ne (A_94 hw) (A_95 hw) rfl)) (u9958.f (Or.inl (mAt.ne (A_100 hw) (A_95 hw) rfl)) (F9946.f (A_95 hw) rfl (u9723.f (Or.inl (mAt.ne (A_94 hw) (A_95 hw) rfl)) (u9714.f (Or.inl (mAt.ne (A_100 hw) (A_95 hw) rfl)) (F9702.f (A_95 hw) rfl (u9143.f (Or.inl (mAt.ne (A_94 hw) (A_95 hw) rfl)) (u9134.f (Or.inl (mAt.ne (A_100 hw) (A_95 hw) rfl)) (F9122.f (A_95 hw) rfl (u7891.f (Or.inl (mAt.ne (A_94 hw) (A_95 hw) rfl)) (u7882.f (Or.inl (mAt.ne (A_100 hw) (A_95 hw) rfl)) (F7870.f (A_95 hw) rfl (u5295.f (Or.inl (mAt.ne (A_94 hw) (A_95 hw) rfl)) q5289)))))))))))))) (F10022.f (A_95 hw) rfl (u9967.f (Or.inl (mAt.ne (A_94 hw) (A_95 hw) rfl)) (u9958.f (Or.inl (mAt.ne (A_100 hw) (A_95 hw) rfl)) (F9946.f (A_95 hw) rfl (u9723.f (Or.inl (mAt.ne (A_94 hw) (A_95 hw) rfl)) (u9714.f (Or.inl (mAt.ne (A_100 hw) (A_95 hw) rfl)) (F9702.f (A_95 hw) rfl (u9143.f (Or.inl (mAt.ne (A_94 hw) (A_95 hw) rfl)) (u9134.f (Or.inl (mAt.ne (A_100 hw) (A_95 hw) rfl)) (F9122.f (A_95 hw) rfl (u7891.f (Or.inl (mAt.ne (A_94 hw) (A_95 hw) rfl)) (u7882.f (Or.inl (mAt.ne (A_100 hw) (A_95 hw) rfl)) (F7870.f (A_95 hw) rfl (u5295.f (Or.inl (mAt.ne (A_94 hw) (A_95 hw) rfl)) (u5286.f (Or.inl (mAt.ne (A_100 hw) (A_95 hw) rfl)) (F5274.f (A_95 hw) rfl (u11.f (Or.inl (mAt.ne (A_94 hw) (A_95 hw) rfl)) q8))))))))))))))))) (F10022.f (A_100 hw) rfl (u9967.f (Or.inl (mAt.ne (A_94 hw) (A_100 hw) rfl)) u9958.1)) (F10022.f (A_100 hw) rfl (u9967.f (Or.inl (mAt.ne (A_94 hw) (A_100 hw) rfl)) (u9958.f (Or.inr vc_X12_states_8) (F9946.f (A_100 hw) rfl (u9723.f (Or.inl (mAt.ne (A_94 hw) (A_100 hw) rfl)) u9714.1))))) (F10022.f (A_100 hw) rfl (u9967.f (Or.inl (mAt.ne (A_94 hw) (A_100 hw) rfl)) (u9958.f (Or.inr vc_X12_states_10) (F9946.f (A_100 hw) rfl (u9723.f (Or.inl (mAt.ne (A_94 hw) (A_100 hw) rfl)) (u9714.f (Or.inr vc_X12_states_9) (F9702.f (A_100 hw) rfl (u9143.f (Or.inl (mAt.ne (A_94 hw) (A_100 hw) rfl)) u9134.1)))))))) (F10022.f (A_100 hw) rfl (u9967.f (Or.inl (mAt.ne (A_94 hw) (A_100 hw) rfl)) (u9958.f (Or.inr vc_X12_states_13) (F9946.f (A_100 hw) rfl (u9723.f (Or.inl (mAt.ne (A_94 hw) (A_100 hw) rfl)) (u9714.f (Or.inr vc_X12_states_12) (F9702.f (A_100 hw) rfl (u9143.f (Or.inl (mAt.ne (A_94 hw) (A_100 hw) rfl)) (u9134.f (Or.inr vc_X12_states_11) (F9122.f (A_100 hw) rfl (u7891.f (Or.inl (mAt.ne (A_94 hw) (A_100 hw) rfl)) u7882.1))))))))))) (F10022.f (A_100 hw) rfl (u9967.f (Or.inl (mAt.ne (A_94 hw) (A_100 hw) rfl)) (u9958.f (Or.inr vc_X12_states_17) (F9946.f (A_100 hw) rfl (u9723.f (Or.inl (mAt.ne (A_94 hw) (A_100 hw) rfl)) (u9714.f (Or.inr vc_X12_states_16) (F9702.f (A_100 hw) rfl (u9143.f (Or.inl (mAt.ne (A_94 hw) (A_100 hw) rfl)) (u9134.f (Or.inr vc_X12_states_15) (F9122.f (A_100 hw) rfl (u7891.f (Or.inl (mAt.ne (A_94 hw) (A_100 hw) rfl)) (u7882.f (Or.inr vc_X12_states_14) (F7870.f (A_100 hw) rfl (u5295.f (Or.inl (mAt.ne (A_94 hw) (A_100 hw) rfl)) u5286.1)))))))))))))) (F10022.f (A_100 hw) rfl (u9967.f (Or.inl (mAt.ne (A_94 hw) (A_100 hw) rfl)) (u9958.f (Or.inr vc_X12_states_22) (F9946.f (A_100 hw) rfl (u9723.f (Or.inl (mAt.ne (A_94 hw) (A_100 hw) rfl)) (u9714.f (Or.inr vc_X12_states_21) (F9702.f (A_100 hw) rfl (u9143.f (Or.inl (mAt.ne (A_94 hw) (A_100 hw) rfl)) (u9134.f (Or.inr vc_X12_states_20) (F9122.f (A_100 hw) rfl (u7891.f (Or.inl (mAt.ne (A_94 hw) (A_100 hw) rfl)) (u7882.f (Or.inr vc_X12_states_19) (F7870.f (A_100 hw) rfl (u5295.f (Or.inl (mAt.ne (A_94 hw) (A_100 hw) rfl)) (u5286.f (Or.inr vc_X12_states_18) (F5274.f (A_100 hw) rfl (u11.f (Or.inl (mAt.ne (A_94 hw) (A_100 hw) rfl)) u5.1))))))))))))))))) (vc_X4_prepare_30 h9721) (vc_X4_prepare_31 h9141) (vc_X4_prepare_32 h7889) (vc_X4_prepare_33 h5293) (vc_X4_prepare_34 h5284 h5272 h9) vc_X4_prepare_35 rfl q5292.symm q7888.symm q9140.symm q9720.symm q9964.symm), trivial⟩
                                    have h10033 : 0 ≤ z10017 ∧ z10017 ≤ 4 := (vc_X12_acted_2 h10032 h10020 h9962)
                                    have h10034 : 1 ≤ z9960 ∧ z9960 ≤ 5 := (vc_X12_acted_3 h10032 h10033 h9962)
                                    refine sv_aload_n (pc := 52) dX4_prepare_52 rfl rfl ?_
                                    refine mr_iload_n (pc := 53) (z := 1) dX4_prepare_53 rfl rfl ?_
                                    refine mr_iconst (pc := 54) (z := 5) dX4_prepare_54 ?_
                                    refine mr_imul (pc := 55) (x := 1) (y := 5) dX4_prepare_55 ?_
                                    refine mr_iload_n (pc := 56) (z := z10017) dX4_prepare_56 rfl rfl ?_
                                    refine mr_iadd (pc := 57) (x := (1 * 5)) (y := z10017) dX4_prepare_57 ?_
                                    refine mr_cVV (pc := 58) (c_X4_need hw T10021 (rW (c := 5) (d := 34) (rAdd (e := 5) (f := 9) (rMulL (n := 1) (e := 5) (f := 5) (rR (x := 5)) rfl) h10033 rfl) rfl)) (gOk _ _ _ _ _) dX4_prepare_58 (tX4_need _ _ _ _ _) ⟨wV_X4_need, wL_X4_need⟩ wM_X4_63 (gCX4 _ _ _ _ _) rfl (A_94 hw) rfl ⟨le_t rfl, le_t rfl⟩ ⟨le_t rfl, le_t rfl⟩ rfl (le_t rfl) fun μ10035 T10036 F10037 h10038 => ?_
                                    refine mr_iinc (pc := 61) (lv' := [(2, iv (z10017 + 1)), (0, .ref 94), (1, iv 1)]) dX4_prepare_61 rfl (by decide) rfl ?_
                                    refine sv_goto (pc := 64) (tgt := 42) dX4_prepare_64 (by decide) ?_
                                    refine mr_lvS (lv' := [(0, .ref 94), (1, iv 1), (2, iv (z10017 + 1))]) (List.forall_mem_cons.mpr ⟨rfl, List.forall_mem_cons.mpr ⟨rfl, List.forall_mem_cons.mpr ⟨rfl, fun _ h => absurd h List.not_mem_nil⟩⟩⟩) ?_
                                    exact ih10025 (z10017 + 1) μ10035 T10036 (mF.call (mF.call mF.refl F10022 rfl) F10037 rfl) (rW (c := 0) (d := 5) (rAdd (e := 1) (f := 5) h10033 (rR (x := 1)) rfl) rfl) (vc_X12_acted_11 (nS h10024) h10032 h10033 h10034)
                                refine mr_lvS (lv' := [(0, .ref 94), (1, iv 1), (2, iv 0)]) (List.forall_mem_cons.mpr ⟨rfl, List.forall_mem_cons.mpr ⟨rfl, List.forall_mem_cons.mpr ⟨rfl, fun _ h => absurd h List.not_mem_nil⟩⟩⟩) ?_
                                exact L10019 7 0 μ9966 T9968 mF.refl (rW (c := 0) (d := 5) (rR (x := 0)) rfl) vc_X12_acted_13
                              have h10039 : 0 ≤ z9941 ∧ z9941 ≤ 4 := (vc_X4_actOf_2 h9956 h9718 h9944)
                              have h10040 : 1 ≤ z9716 ∧ z9716 ≤ 5 := (vc_X4_actOf_3 h9956 h9718 h10039)
                              refine sv_aload_n (pc := 52) dX4_prepare_52 rfl rfl ?_
                              refine mr_iload_n (pc := 53) (z := 2) dX4_prepare_53 rfl rfl ?_
                              refine mr_iconst (pc := 54) (z := 5) dX4_prepare_54 ?_
                              refine mr_imul (pc := 55) (x := 2) (y := 5) dX4_prepare_55 ?_
                              refine mr_iload_n (pc := 56) (z := z9941) dX4_prepare_56 rfl rfl ?_
                              refine mr_iadd (pc := 57) (x := (2 * 5)) (y := z9941) dX4_prepare_57 ?_
                              refine mr_cVV (pc := 58) (c_X4_need hw T9945 (rW (c := 5) (d := 34) (rAdd (e := 10) (f := 14) (rMulL (n := 2) (e := 10) (f := 10) (rR (x := 5)) rfl) h10039 rfl) rfl)) (gOk _ _ _ _ _) dX4_prepare_58 (tX4_need _ _ _ _ _) ⟨wV_X4_need, wL_X4_need⟩ wM_X4_63 (gCX4 _ _ _ _ _) rfl (A_94 hw) rfl ⟨le_t rfl, le_t rfl⟩ ⟨le_t rfl, le_t rfl⟩ rfl (le_t rfl) fun μ10041 T10042 F10043 h10044 => ?_
                              refine mr_iinc (pc := 61) (lv' := [(2, iv (z9941 + 1)), (0, .ref 94), (1, iv 2)]) dX4_prepare_61 rfl (by decide) rfl ?_
                              refine sv_goto (pc := 64) (tgt := 42) dX4_prepare_64 (by decide) ?_
                              refine mr_lvS (lv' := [(0, .ref 94), (1, iv 2), (2, iv (z9941 + 1))]) (List.forall_mem_cons.mpr ⟨rfl, List.forall_mem_cons.mpr ⟨rfl, List.forall_mem_cons.mpr ⟨rfl, fun _ h => absurd h List.not_mem_nil⟩⟩⟩) ?_
                              exact ih9949 (z9941 + 1) μ10041 T10042 (mF.call (mF.call mF.refl F9946 rfl) F10043 rfl) (rW (c := 0) (d := 5) (rAdd (e := 1) (f := 5) h10039 (rR (x := 1)) rfl) rfl) (vc_X4_actOf_6 (nS h9948) h9956 h10040 h10039)
                          refine mr_lvS (lv' := [(0, .ref 94), (1, iv 2), (2, iv 0)]) (List.forall_mem_cons.mpr ⟨rfl, List.forall_mem_cons.mpr ⟨rfl, List.forall_mem_cons.mpr ⟨rfl, fun _ h => absurd h List.not_mem_nil⟩⟩⟩) ?_
                          exact L9943 7 0 μ9722 T9724 mF.refl (rW (c := 0) (d := 5) (rR (x := 0)) rfl) vc_X12_acted_13
                        have h10045 : 0 ≤ z9697 ∧ z9697 ≤ 4 := (vc_X4_actOf_2 h9712 h9138 h9700)
                        have h10046 : 1 ≤ z9136 ∧ z9136 ≤ 5 := (vc_X4_actOf_3 h9712 h9138 h10045)
                        refine sv_aload_n (pc := 52) dX4_prepare_52 rfl rfl ?_
                        refine mr_iload_n (pc := 53) (z := 3) dX4_prepare_53 rfl rfl ?_
                        refine mr_iconst (pc := 54) (z := 5) dX4_prepare_54 ?_
                        refine mr_imul (pc := 55) (x := 3) (y := 5) dX4_prepare_55 ?_
                        refine mr_iload_n (pc := 56) (z := z9697) dX4_prepare_56 rfl rfl ?_
                        refine mr_iadd (pc := 57) (x := (3 * 5)) (y := z9697) dX4_prepare_57 ?_
                        refine mr_cVV (pc := 58) (c_X4_need hw T9701 (rW (c := 5) (d := 34) (rAdd (e := 15) (f := 19) (rMulL (n := 3) (e := 15) (f := 15) (rR (x := 5)) rfl) h10045 rfl) rfl)) (gOk _ _ _ _ _) dX4_prepare_58 (tX4_need _ _ _ _ _) ⟨wV_X4_need, wL_X4_need⟩ wM_X4_63 (gCX4 _ _ _ _ _) rfl (A_94 hw) rfl ⟨le_t rfl, le_t rfl⟩ ⟨le_t rfl, le_t rfl⟩ rfl (le_t rfl) fun μ10047 T10048 F10049 h10050 => ?_
                        refine mr_iinc (pc := 61) (lv' := [(2, iv (z9697 + 1)), (0, .ref 94), (1, iv 3)]) dX4_prepare_61 rfl (by decide) rfl ?_
                        refine sv_goto (pc := 64) (tgt := 42) dX4_prepare_64 (by decide) ?_
                        refine mr_lvS (lv' := [(0, .ref 94), (1, iv 3), (2, iv (z9697 + 1))]) (List.forall_mem_cons.mpr ⟨rfl, List.forall_mem_cons.mpr ⟨rfl, List.forall_mem_cons.mpr ⟨rfl, fun _ h => absurd h List.not_mem_nil⟩⟩⟩) ?_
                        exact ih9705 (z9697 + 1) μ10047 T10048 (mF.call (mF.call mF.refl F9702 rfl) F10049 rfl) (rW (c := 0) (d := 5) (rAdd (e := 1) (f := 5) h10045 (rR (x := 1)) rfl) rfl) (vc_X4_actOf_6 (nS h9704) h9712 h10046 h10045)
                    refine mr_lvS (lv' := [(0, .ref 94), (1, iv 3), (2, iv 0)]) (List.forall_mem_cons.mpr ⟨rfl, List.forall_mem_cons.mpr ⟨rfl, List.forall_mem_cons.mpr ⟨rfl, fun _ h => absurd h List.not_mem_nil⟩⟩⟩) ?_
                    exact L9699 7 0 μ9142 T9144 mF.refl (rW (c := 0) (d := 5) (rR (x := 0)) rfl) vc_X12_acted_13
                  have h10051 : 0 ≤ z9117 ∧ z9117 ≤ 4 := (vc_X4_actOf_2 h9132 h7886 h9120)
                  have h10052 : 1 ≤ z7884 ∧ z7884 ≤ 5 := (vc_X4_actOf_3 h9132 h7886 h10051)
                  refine sv_aload_n (pc := 52) dX4_prepare_52 rfl rfl ?_
                  refine mr_iload_n (pc := 53) (z := 4) dX4_prepare_53 rfl rfl ?_
                  refine mr_iconst (pc := 54) (z := 5) dX4_prepare_54 ?_
                  refine mr_imul (pc := 55) (x := 4) (y := 5) dX4_prepare_55 ?_
                  refine mr_iload_n (pc := 56) (z := z9117) dX4_prepare_56 rfl rfl ?_
                  refine mr_iadd (pc := 57) (x := (4 * 5)) (y := z9117) dX4_prepare_57 ?_
                  refine mr_cVV (pc := 58) (c_X4_need hw T9121 (rW (c := 5) (d := 34) (rAdd (e := 20) (f := 24) (rMulL (n := 4) (e := 20) (f := 20) (rR (x := 5)) rfl) h10051 rfl) rfl)) (gOk _ _ _ _ _) dX4_prepare_58 (tX4_need _ _ _ _ _) ⟨wV_X4_need, wL_X4_need⟩ wM_X4_63 (gCX4 _ _ _ _ _) rfl (A_94 hw) rfl ⟨le_t rfl, le_t rfl⟩ ⟨le_t rfl, le_t rfl⟩ rfl (le_t rfl) fun μ10053 T10054 F10055 h10056 => ?_
                  refine mr_iinc (pc := 61) (lv' := [(2, iv (z9117 + 1)), (0, .ref 94), (1, iv 4)]) dX4_prepare_61 rfl (by decide) rfl ?_
                  refine sv_goto (pc := 64) (tgt := 42) dX4_prepare_64 (by decide) ?_
                  refine mr_lvS (lv' := [(0, .ref 94), (1, iv 4), (2, iv (z9117 + 1))]) (List.forall_mem_cons.mpr ⟨rfl, List.forall_mem_cons.mpr ⟨rfl, List.forall_mem_cons.mpr ⟨rfl, fun _ h => absurd h List.not_mem_nil⟩⟩⟩) ?_
                  exact ih9125 (z9117 + 1) μ10053 T10054 (mF.call (mF.call mF.refl F9122 rfl) F10055 rfl) (rW (c := 0) (d := 5) (rAdd (e := 1) (f := 5) h10051 (rR (x := 1)) rfl) rfl) (vc_X4_actOf_6 (nS h9124) h9132 h10052 h10051)
              refine mr_lvS (lv' := [(0, .ref 94), (1, iv 4), (2, iv 0)]) (List.forall_mem_cons.mpr ⟨rfl, List.forall_mem_cons.mpr ⟨rfl, List.forall_mem_cons.mpr ⟨rfl, fun _ h => absurd h List.not_mem_nil⟩⟩⟩) ?_
              exact L9119 7 0 μ7890 T7892 mF.refl (rW (c := 0) (d := 5) (rR (x := 0)) rfl) vc_X12_acted_13
            have h10057 : 0 ≤ z7865 ∧ z7865 ≤ 4 := (vc_X4_actOf_2 h7880 h5290 h7868)
            have h10058 : 1 ≤ z5288 ∧ z5288 ≤ 5 := (vc_X4_actOf_3 h7880 h5290 h10057)
            refine sv_aload_n (pc := 52) dX4_prepare_52 rfl rfl ?_
            refine mr_iload_n (pc := 53) (z := 5) dX4_prepare_53 rfl rfl ?_
            refine mr_iconst (pc := 54) (z := 5) dX4_prepare_54 ?_
            refine mr_imul (pc := 55) (x := 5) (y := 5) dX4_prepare_55 ?_
            refine mr_iload_n (pc := 56) (z := z7865) dX4_prepare_56 rfl rfl ?_
            refine mr_iadd (pc := 57) (x := (5 * 5)) (y := z7865) dX4_prepare_57 ?_
            refine mr_cVV (pc := 58) (c_X4_need hw T7869 (rW (c := 5) (d := 34) (rAdd (e := 25) (f := 29) (rMulL (n := 5) (e := 25) (f := 25) (rR (x := 5)) rfl) h10057 rfl) rfl)) (gOk _ _ _ _ _) dX4_prepare_58 (tX4_need _ _ _ _ _) ⟨wV_X4_need, wL_X4_need⟩ wM_X4_63 (gCX4 _ _ _ _ _) rfl (A_94 hw) rfl ⟨le_t rfl, le_t rfl⟩ ⟨le_t rfl, le_t rfl⟩ rfl (le_t rfl) fun μ10059 T10060 F10061 h10062 => ?_
            refine mr_iinc (pc := 61) (lv' := [(2, iv (z7865 + 1)), (0, .ref 94), (1, iv 5)]) dX4_prepare_61 rfl (by decide) rfl ?_
            refine sv_goto (pc := 64) (tgt := 42) dX4_prepare_64 (by decide) ?_
            refine mr_lvS (lv' := [(0, .ref 94), (1, iv 5), (2, iv (z7865 + 1))]) (List.forall_mem_cons.mpr ⟨rfl, List.forall_mem_cons.mpr ⟨rfl, List.forall_mem_cons.mpr ⟨rfl, fun _ h => absurd h List.not_mem_nil⟩⟩⟩) ?_
            exact ih7873 (z7865 + 1) μ10059 T10060 (mF.call (mF.call mF.refl F7870 rfl) F10061 rfl) (rW (c := 0) (d := 5) (rAdd (e := 1) (f := 5) h10057 (rR (x := 1)) rfl) rfl) (vc_X4_actOf_6 (nS h7872) h7880 h10058 h10057)
        refine mr_lvS (lv' := [(0, .ref 94), (1, iv 5), (2, iv 0)]) (List.forall_mem_cons.mpr ⟨rfl, List.forall_mem_cons.mpr ⟨rfl, List.forall_mem_cons.mpr ⟨rfl, fun _ h => absurd h List.not_mem_nil⟩⟩⟩) ?_
        exact L7867 7 0 μ5294 T5296 mF.refl (rW (c := 0) (d := 5) (rR (x := 0)) rfl) vc_X12_acted_13
      have h10063 : 0 ≤ z5269 ∧ z5269 ≤ 4 := (vc_X12_acted_2 h5284 h5272 h9)
      have h10064 : 1 ≤ z7 ∧ z7 ≤ 5 := (vc_X12_acted_3 h5284 h10063 h9)
      refine sv_aload_n (pc := 52) dX4_prepare_52 rfl rfl ?_
      refine mr_iload_n (pc := 53) (z := 6) dX4_prepare_53 rfl rfl ?_
      refine mr_iconst (pc := 54) (z := 5) dX4_prepare_54 ?_
      refine mr_imul (pc := 55) (x := 6) (y := 5) dX4_prepare_55 ?_
      refine mr_iload_n (pc := 56) (z := z5269) dX4_prepare_56 rfl rfl ?_
      refine mr_iadd (pc := 57) (x := (6 * 5)) (y := z5269) dX4_prepare_57 ?_
      refine mr_cVV (pc := 58) (c_X4_need hw T5273 (rW (c := 5) (d := 34) (rAdd (e := 30) (f := 34) (rMulL (n := 6) (e := 30) (f := 30) (rR (x := 5)) rfl) h10063 rfl) rfl)) (gOk _ _ _ _ _) dX4_prepare_58 (tX4_need _ _ _ _ _) ⟨wV_X4_need, wL_X4_need⟩ wM_X4_63 (gCX4 _ _ _ _ _) rfl (A_94 hw) rfl ⟨le_t rfl, le_t rfl⟩ ⟨le_t rfl, le_t rfl⟩ rfl (le_t rfl) fun μ10065 T10066 F10067 h10068 => ?_
      refine mr_iinc (pc := 61) (lv' := [(2, iv (z5269 + 1)), (0, .ref 94), (1, iv 6)]) dX4_prepare_61 rfl (by decide) rfl ?_
      refine sv_goto (pc := 64) (tgt := 42) dX4_prepare_64 (by decide) ?_
      refine mr_lvS (lv' := [(0, .ref 94), (1, iv 6), (2, iv (z5269 + 1))]) (List.forall_mem_cons.mpr ⟨rfl, List.forall_mem_cons.mpr ⟨rfl, List.forall_mem_cons.mpr ⟨rfl, fun _ h => absurd h List.not_mem_nil⟩⟩⟩) ?_
      exact ih5277 (z5269 + 1) μ10065 T10066 (mF.call (mF.call mF.refl F5274 rfl) F10067 rfl) (rW (c := 0) (d := 5) (rAdd (e := 1) (f := 5) h10063 (rR (x := 1)) rfl) rfl) (vc_X12_acted_11 (nS h5276) h5284 h10063 h10064)
  refine mr_lvS (lv' := [(0, .ref 94), (1, iv 6), (2, iv 0)]) (List.forall_mem_cons.mpr ⟨rfl, List.forall_mem_cons.mpr ⟨rfl, List.forall_mem_cons.mpr ⟨rfl, fun _ h => absurd h List.not_mem_nil⟩⟩⟩) ?_
  exact L5271 7 0 μ10 T12 mF.refl (rW (c := 0) (d := 5) (rR (x := 0)) rfl) vc_X12_acted_13
theorem vc_X4_countUp_1 {z99 : Int} (h0 : (z99 - 0) < ((0 : Nat) : Int)) (h1 : 1 ≤ z99 ∧ z99 ≤ 6) : False := by omega
theorem vc_X4_countUp_2 {z99 : Int} (h0 : z99 ≤ 1) (h1 : 1 ≤ z99 ∧ z99 ≤ 6) : 1 ≤ z99 ∧ z99 ≤ 1 := by omega
theorem vc_X4_countUp_3 {z99 : Int} (h0 : z99 ≤ 1) (h1 : 1 ≤ z99 ∧ z99 ≤ 1) : 1 ≤ z99 ∧ z99 ≤ 6 := by omega
theorem vc_X4_countUp_4 {g1 z123 : Int} (h0 : z123 ≤ g1) (h1 : 0 ≤ g1 ∧ g1 ≤ 46655) (h2 : 0 ≤ z123 ∧ z123 ≤ 46656) : 0 ≤ z123 ∧ z123 ≤ 46655 := by omega
theorem vc_X4_countUp_5 {g1 z123 : Int} (h0 : z123 ≤ g1) (h1 : 0 ≤ g1 ∧ g1 ≤ 46655) (h2 : 0 ≤ z123 ∧ z123 ≤ 46655) : (z123 + 1) ≤ g1 + 1 := by omega
theorem vc_X4_countUp_6 {z99 : Int} (h0 : 1 < z99) (h1 : 1 ≤ z99 ∧ z99 ≤ 6) : 2 ≤ z99 ∧ z99 ≤ 6 := by omega
theorem vc_X4_countUp_7 {z99 : Int} (h0 : 1 < z99) (h1 : 2 ≤ z99 ∧ z99 ≤ 6) : 1 ≤ z99 ∧ z99 ≤ 6 := by omega
theorem vc_X4_countUp_8 {g1 z132 z135 : Int} (h0 : z132 ≤ g1) (h1 : ¬ z132 = z135) (h2 : 0 ≤ g1 ∧ g1 ≤ 46655) (h3 : 0 ≤ z132 ∧ z132 ≤ 46656) (h4 : 0 ≤ z135 ∧ z135 ≤ 5) : 0 ≤ z132 ∧ z132 ≤ 46655 := by omega
theorem vc_X4_countUp_9 {g1 z132 z135 : Int} (h0 : ¬ z132 = z135) (h1 : z132 ≤ g1) (h2 : 0 ≤ g1 ∧ g1 ≤ 46655) (h3 : 0 ≤ z132 ∧ z132 ≤ 46655) (h4 : 0 ≤ z135 ∧ z135 ≤ 5) : (z132 + 1) ≤ g1 + 1 := by omega
theorem vc_X4_countUp_11 {N z99 : Int} (h0 : (z99 - 0) < N + 1) (h1 : 1 < z99) (h2 : 2 ≤ z99 ∧ z99 ≤ 6) : ((z99 + (-1)) - 0) < N := by omega
set_option maxRecDepth 4000 in
set_option maxHeartbeats 4000000 in
theorem c_X4_countUp {l : Launch} {D : va_G} {c : Nat → ClassId} {H0 : Heap} {sa : Nat × Nat × (Nat → Int32)} {w : mW} {μ : mM} (hw : mWF w) (hT : mT w μ) {g1 : Int} (hg1 : 0 ≤ g1 ∧ g1 ≤ 46655) (hle : hasLe μ g1) (hn0 : (0 : Int) ≤ g1) : sC (gG l D c H0 sa) mX4_countUp 1 0 0 [.ref 94] (mk w μ) (qV w [101999] μ (fun μ1 => (hasLe μ1 (g1 + 1)) ∧ True)) := by
  refine sC.of rfl (by decide) (le_t rfl) ?_
  refine mr_lvE (lv' := [(0, .ref 94)]) rfl ?_
  refine mr_bipush (pc := 0) (z := 6) dX4_countUp_0 (by decide) ?_
  refine mr_istore_n (pc := 2) (lv' := [(1, iv 6), (0, .ref 94)]) dX4_countUp_2 rfl (by decide) rfl ?_
  have L101 : ∀ (nL101 : Nat) (z99 : Int) (μ100 : mM), mT w μ100 → mF [101999] w μ μ100 → (1 ≤ z99 ∧ z99 ≤ 6) → hasLe μ100 g1 → (z99 - 0) < (nL101 : Int) → sV (gG l D c H0 sa) mX4_countUp (sRm 1 0 0) (sZ (gG l D c H0 sa) 0 0 (qV w [101999] μ (fun μ1 => (hasLe μ1 (g1 + 1)) ∧ True))) 3 [(0, .ref 94), (1, iv z99)] [] (mk w μ100) 0 0 := by
    intro nL101
    induction nL101 with
    | zero => intro z99 μ100 T103 F104 h102 R106 h107; exact ((vc_X4_countUp_1 h107 h102)).elim
    | succ nL101 ih108 =>
      intro z99 μ100 T103 F104 h102 R106 h107
      refine mr_iload_n (pc := 3) (z := z99) dX4_countUp_3 rfl rfl ?_
      refine mr_iconst (pc := 4) (z := 1) dX4_countUp_4 ?_
      refine mr_icmp_le (pc := 5) (tgt := 36) dX4_countUp_5 (by decide) (r32 h102 rfl) (r32 (rR (x := 1)) rfl) (fun h121 => ?_) (fun h121 => ?_)
      · have h122 : 1 ≤ z99 ∧ z99 ≤ 1 := (vc_X4_countUp_2 h121 h102)
        refine sv_aload_n (pc := 36) dX4_countUp_36 rfl rfl ?_
        refine gf_X4_5 (pc := 37) dX4_countUp_37 wF_X4_30 (A_94 hw) T103 ?_
        refine mr_iload_n (pc := 40) (z := z99) dX4_countUp_40 rfl rfl ?_
        refine sv_dup2 (pc := 41) dX4_countUp_41 rfl rfl ?_
        refine la_101 (pc := 42) dX4_countUp_42 (A_101 hw) T103 (rIx (n := 7) h122 rfl) fun z123 q124 h125 => ?_
        have h126 : z123 ≤ g1 := hasLe.at R106 (vc_X4_countUp_3 h121 h122) q124
        have h127 : 0 ≤ z123 ∧ z123 ≤ 46655 := (vc_X4_countUp_4 h126 hg1 h125)
        refine mr_iconst (pc := 43) (z := 1) dX4_countUp_43 ?_
        refine mr_iadd (pc := 44) (x := z123) (y := 1) dX4_countUp_44 ?_
        refine ss_101 (pc := 45) dX4_countUp_45 (A_101 hw) T103 (rIx (n := 7) h122 rfl) (rW (c := 0) (d := 46656) (rAdd (e := 1) (f := 46656) h127 (rR (x := 1)) rfl) rfl) fun μ128 u129 T130 => ?_
        exact mr_vret dX4_countUp_46 rfl (le_t rfl) (le_t rfl) T130 (mF.up (mF.call mF.refl F104 rfl) (A_101 hw) u129 rfl) ⟨(hasLe.up (hasLe.le R106 (show g1 ≤ g1 + 1 by omega)) u129 (vc_X4_countUp_5 h126 hg1 h127)), trivial⟩
      have h131 : 2 ≤ z99 ∧ z99 ≤ 6 := (vc_X4_countUp_6 h121 h102)
      refine sv_aload_n (pc := 8) dX4_countUp_8 rfl rfl ?_
      refine gf_X4_5 (pc := 9) dX4_countUp_9 wF_X4_30 (A_94 hw) T103 ?_
      refine mr_iload_n (pc := 12) (z := z99) dX4_countUp_12 rfl rfl ?_
      refine la_101 (pc := 13) dX4_countUp_13 (A_101 hw) T103 (rIx (n := 7) h131 rfl) fun z132 q133 h134 => ?_
      refine sv_aload_n (pc := 14) dX4_countUp_14 rfl rfl ?_
      refine gf_X4_12 (pc := 15) dX4_countUp_15 wF_X4_11 (A_94 hw) T103 ?_
      refine mr_iload_n (pc := 18) (z := z99) dX4_countUp_18 rfl rfl ?_
      refine la_95 (pc := 19) dX4_countUp_19 (A_95 hw) T103 (rIx (n := 7) h131 rfl) fun z135 q136 h137 => ?_
      refine mr_icmp_ne (pc := 20) (tgt := 36) dX4_countUp_20 (by decide) (r32 h134 rfl) (r32 h137 rfl) (fun h142 => ?_) (fun h142 => ?_)
      · refine sv_aload_n (pc := 36) dX4_countUp_36 rfl rfl ?_
        refine gf_X4_5 (pc := 37) dX4_countUp_37 wF_X4_30 (A_94 hw) T103 ?_
        refine mr_iload_n (pc := 40) (z := z99) dX4_countUp_40 rfl rfl ?_
        refine sv_dup2 (pc := 41) dX4_countUp_41 rfl rfl ?_
        refine lk_101 (pc := 42) dX4_countUp_42 (A_101 hw) (rIx (n := 7) h131 rfl) q133 ?_
        have h143 : z132 ≤ g1 := hasLe.at R106 (vc_X4_countUp_7 h121 h131) q133
        have h144 : 0 ≤ z132 ∧ z132 ≤ 46655 := (vc_X4_countUp_8 h143 h142 hg1 h134 h137)
        refine mr_iconst (pc := 43) (z := 1) dX4_countUp_43 ?_
        refine mr_iadd (pc := 44) (x := z132) (y := 1) dX4_countUp_44 ?_
        refine ss_101 (pc := 45) dX4_countUp_45 (A_101 hw) T103 (rIx (n := 7) h131 rfl) (rW (c := 0) (d := 46656) (rAdd (e := 1) (f := 46656) h144 (rR (x := 1)) rfl) rfl) fun μ145 u146 T147 => ?_
        exact mr_vret dX4_countUp_46 rfl (le_t rfl) (le_t rfl) T147 (mF.up (mF.call mF.refl F104 rfl) (A_101 hw) u146 rfl) ⟨(hasLe.up (hasLe.le R106 (show g1 ≤ g1 + 1 by omega)) u146 (vc_X4_countUp_9 h142 h143 hg1 h144 h137)), trivial⟩
      have h148 : 0 ≤ z132 ∧ z132 ≤ 5 := (vc_X4_isRest_4 h142 h134 h137)
      refine sv_aload_n (pc := 23) dX4_countUp_23 rfl rfl ?_
      refine gf_X4_5 (pc := 24) dX4_countUp_24 wF_X4_30 (A_94 hw) T103 ?_
      refine mr_iload_n (pc := 27) (z := z99) dX4_countUp_27 rfl rfl ?_
      refine mr_iconst (pc := 28) (z := 0) dX4_countUp_28 ?_
      refine ss_101 (pc := 29) dX4_countUp_29 (A_101 hw) T103 (rIx (n := 7) h131 rfl) (rW (c := 0) (d := 46656) (rR (x := 0)) rfl) fun μ149 u150 T151 => ?_
      refine mr_iinc (pc := 30) (lv' := [(1, iv (z99 + (-1))), (0, .ref 94)]) dX4_countUp_30 rfl (by decide) rfl ?_
      refine sv_goto (pc := 33) (tgt := 3) dX4_countUp_33 (by decide) ?_
      refine mr_lvS (lv' := [(0, .ref 94), (1, iv (z99 + (-1)))]) (List.forall_mem_cons.mpr ⟨rfl, List.forall_mem_cons.mpr ⟨rfl, fun _ h => absurd h List.not_mem_nil⟩⟩) ?_
      exact ih108 (z99 + (-1)) μ149 T151 (mF.up (mF.call mF.refl F104 rfl) (A_101 hw) u150 rfl) (rW (c := 1) (d := 6) (rAdd (e := 1) (f := 5) h131 (rR (x := (-1))) rfl) rfl) (hasLe.up R106 u150 hn0) (vc_X4_countUp_11 (nS h107) h121 h131)
  refine mr_lvS (lv' := [(0, .ref 94), (1, iv 6)]) (List.forall_mem_cons.mpr ⟨rfl, List.forall_mem_cons.mpr ⟨rfl, fun _ h => absurd h List.not_mem_nil⟩⟩) ?_
  exact L101 7 6 μ hT mF.refl (rW (c := 1) (d := 6) (rR (x := 6)) rfl) hle vc_X12_acted_13
theorem vc_X4_figure_r_2 {f_w : Int} (h0 : f_w ≤ 0) (h1 : 1 ≤ f_w ∧ f_w ≤ 46656) : False := by omega
set_option maxRecDepth 4000 in
set_option maxHeartbeats 4000000 in
theorem c_X4_figure_r {l : Launch} {D : va_G} {c : Nat → ClassId} {H0 : Heap} {sa : Nat × Nat × (Nat → Int32)} {w : mW} {μ : mM} (hw : mWF w) (hT : mT w μ) {p1 : Int} (hp1 : 0 ≤ p1 ∧ p1 ≤ 46655) {p2 : Int} (hp2 : 1 ≤ p2 ∧ p2 ≤ 6) {f_w : Int} (q_f_w : μ 100 (p2.toNat) = f_w) {f_v : Int} (q_f_v : μ 95 (p2.toNat) = f_v) (hq0 : 1 ≤ f_w) : sC (gG l D c H0 sa) mX4_figure 1 0 0 [.ref 94, iv p1, iv p2] (mk w μ) (qP w μ (fun z => (0 ≤ z ∧ z ≤ 5) ∧ (z ≤ f_v) ∧ (z = p1 / μ 100 p2.toNat % (μ 95 p2.toNat + 1)) ∧ True)) := by
  refine sC.of rfl (by decide) (le_t rfl) ?_
  have ht_f_w : (0 ≤ f_w ∧ f_w ≤ 46656) := by rw [← q_f_w]; exact hT 100 100 (A_100 hw) (p2.toNat)
  have ht_f_v : (0 ≤ f_v ∧ f_v ≤ 5) := by rw [← q_f_v]; exact hT 95 95 (A_95 hw) (p2.toNat)
  have h1 : 1 ≤ f_w ∧ f_w ≤ 46656 := (vc_X12_open_1 hq0 ht_f_w)
  refine mr_lvE (lv' := [(0, .ref 94), (1, iv p1), (2, iv p2)]) rfl ?_
  refine sv_aload_n (pc := 0) dX4_figure_0 rfl rfl ?_
  refine gf_X4_4 (pc := 1) dX4_figure_1 wF_X4_27 (A_94 hw) hT ?_
  refine mr_iload_n (pc := 4) (z := p2) dX4_figure_4 rfl rfl ?_
  refine lk_100 (pc := 5) dX4_figure_5 (A_100 hw) (rIx (n := 7) hp2 rfl) q_f_w ?_
  refine mr_istore_n (pc := 6) (lv' := [(3, iv f_w), (0, .ref 94), (1, iv p1), (2, iv p2)]) dX4_figure_6 rfl (by decide) rfl ?_
  refine mr_iload_n (pc := 7) (z := f_w) dX4_figure_7 rfl rfl ?_
  refine mr_if_le (pc := 8) (tgt := 26) dX4_figure_8 (by decide) (r32 h1 rfl) (fun h => ((vc_X4_figure_r_2 h h1)).elim) (fun _ => ?_)
  refine mr_iload_n (pc := 11) (z := p1) dX4_figure_11 rfl rfl ?_
  refine mr_iload_n (pc := 12) (z := f_w) dX4_figure_12 rfl rfl ?_
  refine mr_idiv (pc := 13) (x := p1) (y := f_w) dX4_figure_13 (rW (c := 0) (d := 2147483647) hp1 rfl) (vc_X12_open_8 hq0 h1) ?_
  refine mr_gen (P := fun z => 0 ≤ z ∧ z ≤ 46655) (rDivV hp1 (vc_X12_open_8 hq0 h1) rfl) fun z20 q21 h22 => ?_
  refine sv_aload_n (pc := 14) dX4_figure_14 rfl rfl ?_
  refine gf_X4_12 (pc := 15) dX4_figure_15 wF_X4_11 (A_94 hw) hT ?_
  refine mr_iload_n (pc := 18) (z := p2) dX4_figure_18 rfl rfl ?_
  refine lk_95 (pc := 19) dX4_figure_19 (A_95 hw) (rIx (n := 7) hp2 rfl) q_f_v ?_
  refine mr_iconst (pc := 20) (z := 1) dX4_figure_20 ?_
  refine mr_iadd (pc := 21) (x := f_v) (y := 1) dX4_figure_21 ?_
  refine mr_irem (pc := 22) (x := z20) (y := (f_v + 1)) dX4_figure_22 (rW (c := 0) (d := 2147483647) h22 rfl) (vc_X12_open_9 ht_f_v) ?_
  refine mr_gen (P := fun z => 0 ≤ z ∧ z ≤ 5) (rModV (rAdd (e := 1) (f := 6) ht_f_v (rR (x := 1)) rfl) (vc_X12_open_9 ht_f_v) rfl) fun z23 q24 h25 => ?_
  refine sv_goto (pc := 23) (tgt := 27) dX4_figure_23 (by decide) ?_
  exact mr_iretP dX4_figure_27 rfl (le_t rfl) (le_t rfl) ⟨h25, (vc_X12_open_41 (q24 ▸ Int.emod_lt_of_pos z20 (vc_X12_open_9 ht_f_v).1) ht_f_v h25), (figE q_f_w q_f_v q21 q24), trivial⟩
theorem vc_X4_unfold_r_7 (h0 : (7 : Int) ≤ (1 : Int)) : False := by omega
theorem vc_X4_unfold_r_9 (h0 : (7 : Int) ≤ (2 : Int)) : False := by omega
theorem vc_X4_unfold_r_11 (h0 : (7 : Int) ≤ (3 : Int)) : False := by omega
theorem vc_X4_unfold_r_13 (h0 : (7 : Int) ≤ (4 : Int)) : False := by omega
theorem vc_X4_unfold_r_15 (h0 : (7 : Int) ≤ (5 : Int)) : False := by omega
theorem vc_X4_unfold_r_19 (h0 : (7 : Int) < (7 : Int)) : False := by omega
set_option maxRecDepth 4000 in
set_option maxHeartbeats 4000000 in
theorem c_X4_unfold_r {l : Launch} {D : va_G} {c : Nat → ClassId} {H0 : Heap} {sa : Nat × Nat × (Nat → Int32)} {w : mW} {μ : mM} (hw : mWF w) (hT : mT w μ) {p1 : Int} (hp1 : 0 ≤ p1 ∧ p1 ≤ 46655) {f_w1 : Int} (q_f_w1 : μ 100 ((1 : Int).toNat) = f_w1) {f_w2 : Int} (q_f_w2 : μ 100 ((2 : Int).toNat) = f_w2) {f_w3 : Int} (q_f_w3 : μ 100 ((3 : Int).toNat) = f_w3) {f_w4 : Int} (q_f_w4 : μ 100 ((4 : Int).toNat) = f_w4) {f_w5 : Int} (q_f_w5 : μ 100 ((5 : Int).toNat) = f_w5) {f_w6 : Int} (q_f_w6 : μ 100 ((6 : Int).toNat) = f_w6) {f_v1 : Int} (q_f_v1 : μ 95 ((1 : Int).toNat) = f_v1) {f_v2 : Int} (q_f_v2 : μ 95 ((2 : Int).toNat) = f_v2) {f_v3 : Int} (q_f_v3 : μ 95 ((3 : Int).toNat) = f_v3) {f_v4 : Int} (q_f_v4 : μ 95 ((4 : Int).toNat) = f_v4) {f_v5 : Int} (q_f_v5 : μ 95 ((5 : Int).toNat) = f_v5) {f_v6 : Int} (q_f_v6 : μ 95 ((6 : Int).toNat) = f_v6) (hq0 : 1 ≤ f_w1) (hq1 : 1 ≤ f_w2) (hq2 : 1 ≤ f_w3) (hq3 : 1 ≤ f_w4) (hq4 : 1 ≤ f_w5) (hq5 : 1 ≤ f_w6) : sC (gG l D c H0 sa) mX4_unfold 2 0 0 [.ref 94, iv p1] (mk w μ) (qV w [101999] μ (fun μ1 => (digs μ1 101 100 95 p1) ∧ True)) := by
  refine sC.of rfl (by decide) (le_t rfl) ?_
  have ht_f_w1 : (0 ≤ f_w1 ∧ f_w1 ≤ 46656) := by rw [← q_f_w1]; exact hT 100 100 (A_100 hw) ((1 : Int).toNat)
  have ht_f_w2 : (0 ≤ f_w2 ∧ f_w2 ≤ 46656) := by rw [← q_f_w2]; exact hT 100 100 (A_100 hw) ((2 : Int).toNat)
  have ht_f_w3 : (0 ≤ f_w3 ∧ f_w3 ≤ 46656) := by rw [← q_f_w3]; exact hT 100 100 (A_100 hw) ((3 : Int).toNat)
  have ht_f_w4 : (0 ≤ f_w4 ∧ f_w4 ≤ 46656) := by rw [← q_f_w4]; exact hT 100 100 (A_100 hw) ((4 : Int).toNat)
  have ht_f_w5 : (0 ≤ f_w5 ∧ f_w5 ≤ 46656) := by rw [← q_f_w5]; exact hT 100 100 (A_100 hw) ((5 : Int).toNat)
  have ht_f_w6 : (0 ≤ f_w6 ∧ f_w6 ≤ 46656) := by rw [← q_f_w6]; exact hT 100 100 (A_100 hw) ((6 : Int).toNat)
  have ht_f_v1 : (0 ≤ f_v1 ∧ f_v1 ≤ 5) := by rw [← q_f_v1]; exact hT 95 95 (A_95 hw) ((1 : Int).toNat)
  have ht_f_v2 : (0 ≤ f_v2 ∧ f_v2 ≤ 5) := by rw [← q_f_v2]; exact hT 95 95 (A_95 hw) ((2 : Int).toNat)
  have ht_f_v3 : (0 ≤ f_v3 ∧ f_v3 ≤ 5) := by rw [← q_f_v3]; exact hT 95 95 (A_95 hw) ((3 : Int).toNat)
  have ht_f_v4 : (0 ≤ f_v4 ∧ f_v4 ≤ 5) := by rw [← q_f_v4]; exact hT 95 95 (A_95 hw) ((4 : Int).toNat)
  have ht_f_v5 : (0 ≤ f_v5 ∧ f_v5 ≤ 5) := by rw [← q_f_v5]; exact hT 95 95 (A_95 hw) ((5 : Int).toNat)
  have ht_f_v6 : (0 ≤ f_v6 ∧ f_v6 ≤ 5) := by rw [← q_f_v6]; exact hT 95 95 (A_95 hw) ((6 : Int).toNat)
  have h1 : 1 ≤ f_w1 ∧ f_w1 ≤ 46656 := (vc_X12_open_1 hq0 ht_f_w1)
  have h2 : 1 ≤ f_w2 ∧ f_w2 ≤ 46656 := (vc_X12_open_1 hq1 ht_f_w2)
  have h3 : 1 ≤ f_w3 ∧ f_w3 ≤ 46656 := (vc_X12_open_1 hq2 ht_f_w3)
  have h4 : 1 ≤ f_w4 ∧ f_w4 ≤ 46656 := (vc_X12_open_1 hq3 ht_f_w4)
  have h5 : 1 ≤ f_w5 ∧ f_w5 ≤ 46656 := (vc_X12_open_1 hq4 ht_f_w5)
  have h6 : 1 ≤ f_w6 ∧ f_w6 ≤ 46656 := (vc_X12_open_1 hq5 ht_f_w6)
  refine mr_lvE (lv' := [(0, .ref 94), (1, iv p1)]) rfl ?_
  refine mr_iconst (pc := 0) (z := 1) dX4_unfold_0 ?_
  refine mr_istore_n (pc := 1) (lv' := [(2, iv 1), (0, .ref 94), (1, iv p1)]) dX4_unfold_1 rfl (by decide) rfl ?_
  refine mr_iload_n (pc := 2) (z := 1) dX4_unfold_2 rfl rfl ?_
  refine mr_bipush (pc := 3) (z := 7) dX4_unfold_3 (by decide) ?_
  refine mr_icmp_ge (pc := 5) (tgt := 26) dX4_unfold_5 (by decide) (r32 (rR (x := 1)) rfl) (r32 (rR (x := 7)) rfl) (fun h => ((vc_X4_unfold_r_7 h)).elim) (fun _ => ?_)
  refine sv_aload_n (pc := 8) dX4_unfold_8 rfl rfl ?_
  refine gf_X4_5 (pc := 9) dX4_unfold_9 wF_X4_30 (A_94 hw) hT ?_
  refine mr_iload_n (pc := 12) (z := 1) dX4_unfold_12 rfl rfl ?_
  refine sv_aload_n (pc := 13) dX4_unfold_13 rfl rfl ?_
  refine mr_iload_n (pc := 14) (z := p1) dX4_unfold_14 rfl rfl ?_
  refine mr_iload_n (pc := 15) (z := 1) dX4_unfold_15 rfl rfl ?_
  refine mr_cVP (pc := 16) (c_X4_figure_r hw hT hp1 (rW (c := 1) (d := 6) (rR (x := 1)) rfl) q_f_w1 q_f_v1 (vc_X12_isRest_7 hq0 h1)) (gOk _ _ _ _ _) dX4_unfold_16 (tX4_figure _ _ _ _ _) ⟨wV_X4_figure, wL_X4_figure⟩ wM_X4_75 (gCX4 _ _ _ _ _) rfl (A_94 hw) rfl ⟨le_t rfl, le_t rfl⟩ ⟨le_t rfl, le_t rfl⟩ rfl (le_t rfl) fun z155 h154 => ?_
  have h156 : z155 = p1 / f_w1 % (f_v1 + 1) := figV h154.2.2.1 q_f_w1 q_f_v1
  refine ss_101 (pc := 19) dX4_unfold_19 (A_101 hw) hT (rIx (n := 7) (rR (x := 1)) rfl) (rW (c := 0) (d := 46656) h154.1 rfl) fun μ157 u158 T159 => ?_
  refine mr_iinc (pc := 20) (lv' := [(2, iv 2), (0, .ref 94), (1, iv p1)]) dX4_unfold_20 rfl (by decide) rfl ?_
  refine sv_goto (pc := 23) (tgt := 2) dX4_unfold_23 (by decide) ?_
  refine mr_iload_n (pc := 2) (z := 2) dX4_unfold_2 rfl rfl ?_
  refine mr_bipush (pc := 3) (z := 7) dX4_unfold_3 (by decide) ?_
  refine mr_icmp_ge (pc := 5) (tgt := 26) dX4_unfold_5 (by decide) (r32 (rR (x := 2)) rfl) (r32 (rR (x := 7)) rfl) (fun h => ((vc_X4_unfold_r_9 h)).elim) (fun _ => ?_)
  refine sv_aload_n (pc := 8) dX4_unfold_8 rfl rfl ?_
  refine gf_X4_5 (pc := 9) dX4_unfold_9 wF_X4_30 (A_94 hw) T159 ?_
  refine mr_iload_n (pc := 12) (z := 2) dX4_unfold_12 rfl rfl ?_
  refine sv_aload_n (pc := 13) dX4_unfold_13 rfl rfl ?_
  refine mr_iload_n (pc := 14) (z := p1) dX4_unfold_14 rfl rfl ?_
  refine mr_iload_n (pc := 15) (z := 2) dX4_unfold_15 rfl rfl ?_
  refine mr_cVP (pc := 16) (c_X4_figure_r hw T159 hp1 (rW (c := 1) (d := 6) (rR (x := 2)) rfl) (u158.f (Or.inl (mAt.ne (A_101 hw) (A_100 hw) rfl)) q_f_w2) (u158.f (Or.inl (mAt.ne (A_101 hw) (A_95 hw) rfl)) q_f_v2) (vc_X12_isRest_7 hq1 h2)) (gOk _ _ _ _ _) dX4_unfold_16 (tX4_figure _ _ _ _ _) ⟨wV_X4_figure, wL_X4_figure⟩ wM_X4_75 (gCX4 _ _ _ _ _) rfl (A_94 hw) rfl ⟨le_t rfl, le_t rfl⟩ ⟨le_t rfl, le_t rfl⟩ rfl (le_t rfl) fun z164 h163 => ?_
  have h165 : z164 = p1 / f_w2 % (f_v2 + 1) := figV h163.2.2.1 (u158.f (Or.inl (mAt.ne (A_101 hw) (A_100 hw) rfl)) q_f_w2) (u158.f (Or.inl (mAt.ne (A_101 hw) (A_95 hw) rfl)) q_f_v2)
  refine ss_101 (pc := 19) dX4_unfold_19 (A_101 hw) T159 (rIx (n := 7) (rR (x := 2)) rfl) (rW (c := 0) (d := 46656) h163.1 rfl) fun μ166 u167 T168 => ?_
  refine mr_iinc (pc := 20) (lv' := [(2, iv 3), (0, .ref 94), (1, iv p1)]) dX4_unfold_20 rfl (by decide) rfl ?_
  refine sv_goto (pc := 23) (tgt := 2) dX4_unfold_23 (by decide) ?_
  refine mr_iload_n (pc := 2) (z := 3) dX4_unfold_2 rfl rfl ?_
  refine mr_bipush (pc := 3) (z := 7) dX4_unfold_3 (by decide) ?_
  refine mr_icmp_ge (pc := 5) (tgt := 26) dX4_unfold_5 (by decide) (r32 (rR (x := 3)) rfl) (r32 (rR (x := 7)) rfl) (fun h => ((vc_X4_unfold_r_11 h)).elim) (fun _ => ?_)
  refine sv_aload_n (pc := 8) dX4_unfold_8 rfl rfl ?_
  refine gf_X4_5 (pc := 9) dX4_unfold_9 wF_X4_30 (A_94 hw) T168 ?_
  refine mr_iload_n (pc := 12) (z := 3) dX4_unfold_12 rfl rfl ?_
  refine sv_aload_n (pc := 13) dX4_unfold_13 rfl rfl ?_
  refine mr_iload_n (pc := 14) (z := p1) dX4_unfold_14 rfl rfl ?_
  refine mr_iload_n (pc := 15) (z := 3) dX4_unfold_15 rfl rfl ?_
  refine mr_cVP (pc := 16) (c_X4_figure_r hw T168 hp1 (rW (c := 1) (d := 6) (rR (x := 3)) rfl) (u167.f (Or.inl (mAt.ne (A_101 hw) (A_100 hw) rfl)) (u158.f (Or.inl (mAt.ne (A_101 hw) (A_100 hw) rfl)) q_f_w3)) (u167.f (Or.inl (mAt.ne (A_101 hw) (A_95 hw) rfl)) (u158.f (Or.inl (mAt.ne (A_101 hw) (A_95 hw) rfl)) q_f_v3)) (vc_X12_isRest_7 hq2 h3)) (gOk _ _ _ _ _) dX4_unfold_16 (tX4_figure _ _ _ _ _) ⟨wV_X4_figure, wL_X4_figure⟩ wM_X4_75 (gCX4 _ _ _ _ _) rfl (A_94 hw) rfl ⟨le_t rfl, le_t rfl⟩ ⟨le_t rfl, le_t rfl⟩ rfl (le_t rfl) fun z173 h172 => ?_
  have h174 : z173 = p1 / f_w3 % (f_v3 + 1) := figV h172.2.2.1 (u167.f (Or.inl (mAt.ne (A_101 hw) (A_100 hw) rfl)) (u158.f (Or.inl (mAt.ne (A_101 hw) (A_100 hw) rfl)) q_f_w3)) (u167.f (Or.inl (mAt.ne (A_101 hw) (A_95 hw) rfl)) (u158.f (Or.inl (mAt.ne (A_101 hw) (A_95 hw) rfl)) q_f_v3))
  refine ss_101 (pc := 19) dX4_unfold_19 (A_101 hw) T168 (rIx (n := 7) (rR (x := 3)) rfl) (rW (c := 0) (d := 46656) h172.1 rfl) fun μ175 u176 T177 => ?_
  refine mr_iinc (pc := 20) (lv' := [(2, iv 4), (0, .ref 94), (1, iv p1)]) dX4_unfold_20 rfl (by decide) rfl ?_
  refine sv_goto (pc := 23) (tgt := 2) dX4_unfold_23 (by decide) ?_
  refine mr_iload_n (pc := 2) (z := 4) dX4_unfold_2 rfl rfl ?_
  refine mr_bipush (pc := 3) (z := 7) dX4_unfold_3 (by decide) ?_
  refine mr_icmp_ge (pc := 5) (tgt := 26) dX4_unfold_5 (by decide) (r32 (rR (x := 4)) rfl) (r32 (rR (x := 7)) rfl) (fun h => ((vc_X4_unfold_r_13 h)).elim) (fun _ => ?_)
  refine sv_aload_n (pc := 8) dX4_unfold_8 rfl rfl ?_
  refine gf_X4_5 (pc := 9) dX4_unfold_9 wF_X4_30 (A_94 hw) T177 ?_
  refine mr_iload_n (pc := 12) (z := 4) dX4_unfold_12 rfl rfl ?_
  refine sv_aload_n (pc := 13) dX4_unfold_13 rfl rfl ?_
  refine mr_iload_n (pc := 14) (z := p1) dX4_unfold_14 rfl rfl ?_
  refine mr_iload_n (pc := 15) (z := 4) dX4_unfold_15 rfl rfl ?_
  refine mr_cVP (pc := 16) (c_X4_figure_r hw T177 hp1 (rW (c := 1) (d := 6) (rR (x := 4)) rfl) (u176.f (Or.inl (mAt.ne (A_101 hw) (A_100 hw) rfl)) (u167.f (Or.inl (mAt.ne (A_101 hw) (A_100 hw) rfl)) (u158.f (Or.inl (mAt.ne (A_101 hw) (A_100 hw) rfl)) q_f_w4))) (u176.f (Or.inl (mAt.ne (A_101 hw) (A_95 hw) rfl)) (u167.f (Or.inl (mAt.ne (A_101 hw) (A_95 hw) rfl)) (u158.f (Or.inl (mAt.ne (A_101 hw) (A_95 hw) rfl)) q_f_v4))) (vc_X12_isRest_7 hq3 h4)) (gOk _ _ _ _ _) dX4_unfold_16 (tX4_figure _ _ _ _ _) ⟨wV_X4_figure, wL_X4_figure⟩ wM_X4_75 (gCX4 _ _ _ _ _) rfl (A_94 hw) rfl ⟨le_t rfl, le_t rfl⟩ ⟨le_t rfl, le_t rfl⟩ rfl (le_t rfl) fun z182 h181 => ?_
  have h183 : z182 = p1 / f_w4 % (f_v4 + 1) := figV h181.2.2.1 (u176.f (Or.inl (mAt.ne (A_101 hw) (A_100 hw) rfl)) (u167.f (Or.inl (mAt.ne (A_101 hw) (A_100 hw) rfl)) (u158.f (Or.inl (mAt.ne (A_101 hw) (A_100 hw) rfl)) q_f_w4))) (u176.f (Or.inl (mAt.ne (A_101 hw) (A_95 hw) rfl)) (u167.f (Or.inl (mAt.ne (A_101 hw) (A_95 hw) rfl)) (u158.f (Or.inl (mAt.ne (A_101 hw) (A_95 hw) rfl)) q_f_v4)))
  refine ss_101 (pc := 19) dX4_unfold_19 (A_101 hw) T177 (rIx (n := 7) (rR (x := 4)) rfl) (rW (c := 0) (d := 46656) h181.1 rfl) fun μ184 u185 T186 => ?_
  refine mr_iinc (pc := 20) (lv' := [(2, iv 5), (0, .ref 94), (1, iv p1)]) dX4_unfold_20 rfl (by decide) rfl ?_
  refine sv_goto (pc := 23) (tgt := 2) dX4_unfold_23 (by decide) ?_
  refine mr_iload_n (pc := 2) (z := 5) dX4_unfold_2 rfl rfl ?_
  refine mr_bipush (pc := 3) (z := 7) dX4_unfold_3 (by decide) ?_
  refine mr_icmp_ge (pc := 5) (tgt := 26) dX4_unfold_5 (by decide) (r32 (rR (x := 5)) rfl) (r32 (rR (x := 7)) rfl) (fun h => ((vc_X4_unfold_r_15 h)).elim) (fun _ => ?_)
  refine sv_aload_n (pc := 8) dX4_unfold_8 rfl rfl ?_
  refine gf_X4_5 (pc := 9) dX4_unfold_9 wF_X4_30 (A_94 hw) T186 ?_
  refine mr_iload_n (pc := 12) (z := 5) dX4_unfold_12 rfl rfl ?_
  refine sv_aload_n (pc := 13) dX4_unfold_13 rfl rfl ?_
  refine mr_iload_n (pc := 14) (z := p1) dX4_unfold_14 rfl rfl ?_
  refine mr_iload_n (pc := 15) (z := 5) dX4_unfold_15 rfl rfl ?_
  refine mr_cVP (pc := 16) (c_X4_figure_r hw T186 hp1 (rW (c := 1) (d := 6) (rR (x := 5)) rfl) (u185.f (Or.inl (mAt.ne (A_101 hw) (A_100 hw) rfl)) (u176.f (Or.inl (mAt.ne (A_101 hw) (A_100 hw) rfl)) (u167.f (Or.inl (mAt.ne (A_101 hw) (A_100 hw) rfl)) (u158.f (Or.inl (mAt.ne (A_101 hw) (A_100 hw) rfl)) q_f_w5)))) (u185.f (Or.inl (mAt.ne (A_101 hw) (A_95 hw) rfl)) (u176.f (Or.inl (mAt.ne (A_101 hw) (A_95 hw) rfl)) (u167.f (Or.inl (mAt.ne (A_101 hw) (A_95 hw) rfl)) (u158.f (Or.inl (mAt.ne (A_101 hw) (A_95 hw) rfl)) q_f_v5)))) (vc_X12_isRest_7 hq4 h5)) (gOk _ _ _ _ _) dX4_unfold_16 (tX4_figure _ _ _ _ _) ⟨wV_X4_figure, wL_X4_figure⟩ wM_X4_75 (gCX4 _ _ _ _ _) rfl (A_94 hw) rfl ⟨le_t rfl, le_t rfl⟩ ⟨le_t rfl, le_t rfl⟩ rfl (le_t rfl) fun z191 h190 => ?_
  have h192 : z191 = p1 / f_w5 % (f_v5 + 1) := figV h190.2.2.1 (u185.f (Or.inl (mAt.ne (A_101 hw) (A_100 hw) rfl)) (u176.f (Or.inl (mAt.ne (A_101 hw) (A_100 hw) rfl)) (u167.f (Or.inl (mAt.ne (A_101 hw) (A_100 hw) rfl)) (u158.f (Or.inl (mAt.ne (A_101 hw) (A_100 hw) rfl)) q_f_w5)))) (u185.f (Or.inl (mAt.ne (A_101 hw) (A_95 hw) rfl)) (u176.f (Or.inl (mAt.ne (A_101 hw) (A_95 hw) rfl)) (u167.f (Or.inl (mAt.ne (A_101 hw) (A_95 hw) rfl)) (u158.f (Or.inl (mAt.ne (A_101 hw) (A_95 hw) rfl)) q_f_v5))))
  refine ss_101 (pc := 19) dX4_unfold_19 (A_101 hw) T186 (rIx (n := 7) (rR (x := 5)) rfl) (rW (c := 0) (d := 46656) h190.1 rfl) fun μ193 u194 T195 => ?_
  refine mr_iinc (pc := 20) (lv' := [(2, iv 6), (0, .ref 94), (1, iv p1)]) dX4_unfold_20 rfl (by decide) rfl ?_
  refine sv_goto (pc := 23) (tgt := 2) dX4_unfold_23 (by decide) ?_
  refine mr_iload_n (pc := 2) (z := 6) dX4_unfold_2 rfl rfl ?_
  refine mr_bipush (pc := 3) (z := 7) dX4_unfold_3 (by decide) ?_
  refine mr_icmp_ge (pc := 5) (tgt := 26) dX4_unfold_5 (by decide) (r32 (rR (x := 6)) rfl) (r32 (rR (x := 7)) rfl) (fun h => ((vc_X12_open_25 h)).elim) (fun _ => ?_)
  refine sv_aload_n (pc := 8) dX4_unfold_8 rfl rfl ?_
  refine gf_X4_5 (pc := 9) dX4_unfold_9 wF_X4_30 (A_94 hw) T195 ?_
  refine mr_iload_n (pc := 12) (z := 6) dX4_unfold_12 rfl rfl ?_
  refine sv_aload_n (pc := 13) dX4_unfold_13 rfl rfl ?_
  refine mr_iload_n (pc := 14) (z := p1) dX4_unfold_14 rfl rfl ?_
  refine mr_iload_n (pc := 15) (z := 6) dX4_unfold_15 rfl rfl ?_
  refine mr_cVP (pc := 16) (c_X4_figure_r hw T195 hp1 (rW (c := 1) (d := 6) (rR (x := 6)) rfl) (u194.f (Or.inl (mAt.ne (A_101 hw) (A_100 hw) rfl)) (u185.f (Or.inl (mAt.ne (A_101 hw) (A_100 hw) rfl)) (u176.f (Or.inl (mAt.ne (A_101 hw) (A_100 hw) rfl)) (u167.f (Or.inl (mAt.ne (A_101 hw) (A_100 hw) rfl)) (u158.f (Or.inl (mAt.ne (A_101 hw) (A_100 hw) rfl)) q_f_w6))))) (u194.f (Or.inl (mAt.ne (A_101 hw) (A_95 hw) rfl)) (u185.f (Or.inl (mAt.ne (A_101 hw) (A_95 hw) rfl)) (u176.f (Or.inl (mAt.ne (A_101 hw) (A_95 hw) rfl)) (u167.f (Or.inl (mAt.ne (A_101 hw) (A_95 hw) rfl)) (u158.f (Or.inl (mAt.ne (A_101 hw) (A_95 hw) rfl)) q_f_v6))))) (vc_X12_isRest_7 hq5 h6)) (gOk _ _ _ _ _) dX4_unfold_16 (tX4_figure _ _ _ _ _) ⟨wV_X4_figure, wL_X4_figure⟩ wM_X4_75 (gCX4 _ _ _ _ _) rfl (A_94 hw) rfl ⟨le_t rfl, le_t rfl⟩ ⟨le_t rfl, le_t rfl⟩ rfl (le_t rfl) fun z200 h199 => ?_
  have h201 : z200 = p1 / f_w6 % (f_v6 + 1) := figV h199.2.2.1 (u194.f (Or.inl (mAt.ne (A_101 hw) (A_100 hw) rfl)) (u185.f (Or.inl (mAt.ne (A_101 hw) (A_100 hw) rfl)) (u176.f (Or.inl (mAt.ne (A_101 hw) (A_100 hw) rfl)) (u167.f (Or.inl (mAt.ne (A_101 hw) (A_100 hw) rfl)) (u158.f (Or.inl (mAt.ne (A_101 hw) (A_100 hw) rfl)) q_f_w6))))) (u194.f (Or.inl (mAt.ne (A_101 hw) (A_95 hw) rfl)) (u185.f (Or.inl (mAt.ne (A_101 hw) (A_95 hw) rfl)) (u176.f (Or.inl (mAt.ne (A_101 hw) (A_95 hw) rfl)) (u167.f (Or.inl (mAt.ne (A_101 hw) (A_95 hw) rfl)) (u158.f (Or.inl (mAt.ne (A_101 hw) (A_95 hw) rfl)) q_f_v6)))))
  refine ss_101 (pc := 19) dX4_unfold_19 (A_101 hw) T195 (rIx (n := 7) (rR (x := 6)) rfl) (rW (c := 0) (d := 46656) h199.1 rfl) fun μ202 u203 T204 => ?_
  refine mr_iinc (pc := 20) (lv' := [(2, iv 7), (0, .ref 94), (1, iv p1)]) dX4_unfold_20 rfl (by decide) rfl ?_
  refine sv_goto (pc := 23) (tgt := 2) dX4_unfold_23 (by decide) ?_
  refine mr_iload_n (pc := 2) (z := 7) dX4_unfold_2 rfl rfl ?_
  refine mr_bipush (pc := 3) (z := 7) dX4_unfold_3 (by decide) ?_
  refine mr_icmp_ge (pc := 5) (tgt := 26) dX4_unfold_5 (by decide) (r32 (rR (x := 7)) rfl) (r32 (rR (x := 7)) rfl) (fun _ => ?_) (fun h => ((vc_X4_unfold_r_19 h)).elim)
  exact mr_vret dX4_unfold_26 rfl (le_t rfl) (le_t rfl) T204 (mF.up (mF.up (mF.up (mF.up (mF.up (mF.up mF.refl (A_101 hw) u158 rfl) (A_101 hw) u167 rfl) (A_101 hw) u176 rfl) (A_101 hw) u185 rfl) (A_101 hw) u194 rfl) (A_101 hw) u203 rfl) ⟨⟨dig.mk2 (u203.f (Or.inr vc_X12_open_30) (u194.f (Or.inr vc_X12_open_29) (u185.f (Or.inr vc_X12_open_28) (u176.f (Or.inr vc_X12_open_27) (u167.f (Or.inr vc_X12_open_26) u158.1))))) (u203.f (Or.inl (mAt.ne (A_101 hw) (A_100 hw) rfl)) (u194.f (Or.inl (mAt.ne (A_101 hw) (A_100 hw) rfl)) (u185.f (Or.inl (mAt.ne (A_101 hw) (A_100 hw) rfl)) (u176.f (Or.inl (mAt.ne (A_101 hw) (A_100 hw) rfl)) (u167.f (Or.inl (mAt.ne (A_101 hw) (A_100 hw) rfl)) (u158.f (Or.inl (mAt.ne (A_101 hw) (A_100 hw) rfl)) q_f_w1)))))) (u203.f (Or.inl (mAt.ne (A_101 hw) (A_95 hw) rfl)) (u194.f (Or.inl (mAt.ne (A_101 hw) (A_95 hw) rfl)) (u185.f (Or.inl (mAt.ne (A_101 hw) (A_95 hw) rfl)) (u176.f (Or.inl (mAt.ne (A_101 hw) (A_95 hw) rfl)) (u167.f (Or.inl (mAt.ne (A_101 hw) (A_95 hw) rfl)) (u158.f (Or.inl (mAt.ne (A_101 hw) (A_95 hw) rfl)) q_f_v1)))))) h156, dig.mk2 (u203.f (Or.inr vc_X12_open_34) (u194.f (Or.inr vc_X12_open_33) (u185.f (Or.inr vc_X12_open_32) (u176.f (Or.inr vc_X12_open_31) u167.1)))) (u203.f (Or.inl (mAt.ne (A_101 hw) (A_100 hw) rfl)) (u194.f (Or.inl (mAt.ne (A_101 hw) (A_100 hw) rfl)) (u185.f (Or.inl (mAt.ne (A_101 hw) (A_100 hw) rfl)) (u176.f (Or.inl (mAt.ne (A_101 hw) (A_100 hw) rfl)) (u167.f (Or.inl (mAt.ne (A_101 hw) (A_100 hw) rfl)) (u158.f (Or.inl (mAt.ne (A_101 hw) (A_100 hw) rfl)) q_f_w2)))))) (u203.f (Or.inl (mAt.ne (A_101 hw) (A_95 hw) rfl)) (u194.f (Or.inl (mAt.ne (A_101 hw) (A_95 hw) rfl)) (u185.f (Or.inl (mAt.ne (A_101 hw) (A_95 hw) rfl)) (u176.f (Or.inl (mAt.ne (A_101 hw) (A_95 hw) rfl)) (u167.f (Or.inl (mAt.ne (A_101 hw) (A_95 hw) rfl)) (u158.f (Or.inl (mAt.ne (A_101 hw) (A_95 hw) rfl)) q_f_v2)))))) h165, dig.mk2 (u203.f (Or.inr vc_X12_open_37) (u194.f (Or.inr vc_X12_open_36) (u185.f (Or.inr vc_X12_open_35) u176.1))) (u203.f (Or.inl (mAt.ne (A_101 hw) (A_100 hw) rfl)) (u194.f (Or.inl (mAt.ne (A_101 hw) (A_100 hw) rfl)) (u185.f (Or.inl (mAt.ne (A_101 hw) (A_100 hw) rfl)) (u176.f (Or.inl (mAt.ne (A_101 hw) (A_100 hw) rfl)) (u167.f (Or.inl (mAt.ne (A_101 hw) (A_100 hw) rfl)) (u158.f (Or.inl (mAt.ne (A_101 hw) (A_100 hw) rfl)) q_f_w3)))))) (u203.f (Or.inl (mAt.ne (A_101 hw) (A_95 hw) rfl)) (u194.f (Or.inl (mAt.ne (A_101 hw) (A_95 hw) rfl)) (u185.f (Or.inl (mAt.ne (A_101 hw) (A_95 hw) rfl)) (u176.f (Or.inl (mAt.ne (A_101 hw) (A_95 hw) rfl)) (u167.f (Or.inl (mAt.ne (A_101 hw) (A_95 hw) rfl)) (u158.f (Or.inl (mAt.ne (A_101 hw) (A_95 hw) rfl)) q_f_v3)))))) h174, dig.mk2 (u203.f (Or.inr vc_X12_open_39) (u194.f (Or.inr vc_X12_open_38) u185.1)) (u203.f (Or.inl (mAt.ne (A_101 hw) (A_100 hw) rfl)) (u194.f (Or.inl (mAt.ne (A_101 hw) (A_100 hw) rfl)) (u185.f (Or.inl (mAt.ne (A_101 hw) (A_100 hw) rfl)) (u176.f (Or.inl (mAt.ne (A_101 hw) (A_100 hw) rfl)) (u167.f (Or.inl (mAt.ne (A_101 hw) (A_100 hw) rfl)) (u158.f (Or.inl (mAt.ne (A_101 hw) (A_100 hw) rfl)) q_f_w4)))))) (u203.f (Or.inl (mAt.ne (A_101 hw) (A_95 hw) rfl)) (u194.f (Or.inl (mAt.ne (A_101 hw) (A_95 hw) rfl)) (u185.f (Or.inl (mAt.ne (A_101 hw) (A_95 hw) rfl)) (u176.f (Or.inl (mAt.ne (A_101 hw) (A_95 hw) rfl)) (u167.f (Or.inl (mAt.ne (A_101 hw) (A_95 hw) rfl)) (u158.f (Or.inl (mAt.ne (A_101 hw) (A_95 hw) rfl)) q_f_v4)))))) h183, dig.mk2 (u203.f (Or.inr vc_X12_open_40) u194.1) (u203.f (Or.inl (mAt.ne (A_101 hw) (A_100 hw) rfl)) (u194.f (Or.inl (mAt.ne (A_101 hw) (A_100 hw) rfl)) (u185.f (Or.inl (mAt.ne (A_101 hw) (A_100 hw) rfl)) (u176.f (Or.inl (mAt.ne (A_101 hw) (A_100 hw) rfl)) (u167.f (Or.inl (mAt.ne (A_101 hw) (A_100 hw) rfl)) (u158.f (Or.inl (mAt.ne (A_101 hw) (A_100 hw) rfl)) q_f_w5)))))) (u203.f (Or.inl (mAt.ne (A_101 hw) (A_95 hw) rfl)) (u194.f (Or.inl (mAt.ne (A_101 hw) (A_95 hw) rfl)) (u185.f (Or.inl (mAt.ne (A_101 hw) (A_95 hw) rfl)) (u176.f (Or.inl (mAt.ne (A_101 hw) (A_95 hw) rfl)) (u167.f (Or.inl (mAt.ne (A_101 hw) (A_95 hw) rfl)) (u158.f (Or.inl (mAt.ne (A_101 hw) (A_95 hw) rfl)) q_f_v5)))))) h192, dig.mk2 u203.1 (u203.f (Or.inl (mAt.ne (A_101 hw) (A_100 hw) rfl)) (u194.f (Or.inl (mAt.ne (A_101 hw) (A_100 hw) rfl)) (u185.f (Or.inl (mAt.ne (A_101 hw) (A_100 hw) rfl)) (u176.f (Or.inl (mAt.ne (A_101 hw) (A_100 hw) rfl)) (u167.f (Or.inl (mAt.ne (A_101 hw) (A_100 hw) rfl)) (u158.f (Or.inl (mAt.ne (A_101 hw) (A_100 hw) rfl)) q_f_w6)))))) (u203.f (Or.inl (mAt.ne (A_101 hw) (A_95 hw) rfl)) (u194.f (Or.inl (mAt.ne (A_101 hw) (A_95 hw) rfl)) (u185.f (Or.inl (mAt.ne (A_101 hw) (A_95 hw) rfl)) (u176.f (Or.inl (mAt.ne (A_101 hw) (A_95 hw) rfl)) (u167.f (Or.inl (mAt.ne (A_101 hw) (A_95 hw) rfl)) (u158.f (Or.inl (mAt.ne (A_101 hw) (A_95 hw) rfl)) q_f_v6)))))) h201⟩, trivial⟩
end
section
theorem vc_X4_wayInRest_1 {n_1 p1 : Int} (h0 : p1 < n_1) (h1 : 0 ≤ n_1 ∧ n_1 ≤ 93312) (h2 : 0 ≤ p1 ∧ p1 ≤ 46655) : 0 ≤ p1 ∧ p1 < n_1 := by omega
set_option maxRecDepth 4000 in
set_option maxHeartbeats 4000000 in
theorem c_X4_wayInRest {l : Launch} {D : va_G} {c : Nat → ClassId} {H0 : Heap} {sa : Nat × Nat × (Nat → Int32)} {w : mW} {μ : mM} (hw : mWF w) (hT : mT w μ) {p1 : Int} (hp1 : 0 ≤ p1 ∧ p1 ≤ 46655) {p2 : Int} (hp2 : 1 ≤ p2 ∧ p2 ≤ 6) {br : Nat} (q_br : μ 94 7 = (br : Int)) (hA_br : mAt w br 103) (hix : p1 < (w.2.2.1 br : Int)) : sC (gG l D c H0 sa) mX4_wayInRest 2 0 0 [.ref 94, iv p1, iv p2] (mk w μ) (qP w μ (fun z => ((-2147483648) ≤ z ∧ z ≤ 2147483647) ∧ True)) := by
  refine sC.of rfl (by decide) (le_t rfl) ?_
  refine mr_lvE (lv' := [(0, .ref 94), (1, iv p1), (2, iv p2)]) rfl ?_
  obtain ⟨n_1, q2⟩ : ∃ n : Int, (w.2.2.1 br : Int) = n := ⟨_, rfl⟩
  have h3 : 0 ≤ n_1 ∧ n_1 ≤ 93312 := lnR (m := 93312) q2 hA_br rfl
  have h4 : p1 < n_1 := by rw [← q2]; exact hix
  refine sv_aload_n (pc := 0) dX4_wayInRest_0 rfl rfl ?_
  refine sv_aload_n (pc := 1) dX4_wayInRest_1 rfl rfl ?_
  refine gk_X4_7 (pc := 2) dX4_wayInRest_2 wF_X4_36 (A_94 hw) q_br ?_
  refine mr_iload_n (pc := 5) (z := p1) dX4_wayInRest_5 rfl rfl ?_
  refine la_103 (pc := 6) dX4_wayInRest_6 hA_br hT (lnC q2 (vc_X4_wayInRest_1 h4 h3 hp1)) fun z5 q6 h7 => ?_
  refine mr_iload_n (pc := 7) (z := p2) dX4_wayInRest_7 rfl rfl ?_
  refine mr_cVP (pc := 8) (c_X4_figure hw hT h7 hp2) (gOk _ _ _ _ _) dX4_wayInRest_8 (tX4_figure _ _ _ _ _) ⟨wV_X4_figure, wL_X4_figure⟩ wM_X4_75 (gCX4 _ _ _ _ _) rfl (A_94 hw) rfl ⟨le_t rfl, le_t rfl⟩ ⟨le_t rfl, le_t rfl⟩ rfl (le_t rfl) fun z12 h11 => ?_
  refine mr_istore_n (pc := 11) (lv' := [(3, iv z12), (0, .ref 94), (1, iv p1), (2, iv p2)]) dX4_wayInRest_11 rfl (by decide) rfl ?_
  refine mr_iload_n (pc := 12) (z := z12) dX4_wayInRest_12 rfl rfl ?_
  refine sv_aload_n (pc := 13) dX4_wayInRest_13 rfl rfl ?_
  refine gf_X4_12 (pc := 14) dX4_wayInRest_14 wF_X4_11 (A_94 hw) hT ?_
  refine mr_iload_n (pc := 17) (z := p2) dX4_wayInRest_17 rfl rfl ?_
  refine la_95 (pc := 18) dX4_wayInRest_18 (A_95 hw) hT (rIx (n := 7) hp2 rfl) fun z13 q14 h15 => ?_
  refine mr_icmp_ne (pc := 19) (tgt := 27) dX4_wayInRest_19 (by decide) (r32 h11.1 rfl) (r32 h15 rfl) (fun h16 => ?_) (fun h16 => ?_)
  · refine mr_iload_n (pc := 27) (z := z12) dX4_wayInRest_27 rfl rfl ?_
    exact mr_iretP dX4_wayInRest_28 rfl (le_t rfl) (le_t rfl) ⟨(rW (c := (-2147483648)) (d := 2147483647) h11.1 rfl), trivial⟩
  refine mr_bipush (pc := 22) (z := (-4)) dX4_wayInRest_22 (by decide) ?_
  refine sv_goto (pc := 24) (tgt := 28) dX4_wayInRest_24 (by decide) ?_
  exact mr_iretP dX4_wayInRest_28 rfl (le_t rfl) (le_t rfl) ⟨(rW (c := (-2147483648)) (d := 2147483647) (rR (x := (-4))) rfl), trivial⟩
end
section
/-! The class's reader: what stands in the code row. -/
def preL (μ : mM) (n : Int) (μ1 : mM) : Prop := ∀ k : Nat, (k : Int) < n → μ1 27 k = μ 27 k
theorem preL.refl {μ : mM} {n : Int} : preL μ n μ := fun _ _ => rfl
theorem preL.trans {μ μ1 μ2 : mM} {n m : Int} (h : preL μ n μ1) (g : preL μ1 m μ2) (hm : n ≤ m) : preL μ n μ2 := fun k hk => (g k (by omega)).trans (h k hk)
theorem preL.fr {l : List Nat} {w : mW} {μ μ1 μ2 : mM} {n : Int} (h : preL μ n μ1) (hw : mWF w) (hF : mF l w μ1 μ2) (hl : l.elem 27999 = false) : preL μ n μ2 := fun k hk => (hF.f (z := μ1 27 k) (A_27 hw) hl rfl).trans (h k hk)
theorem preL.up {μ μ1 μ2 : mM} {n e z : Int} (h : preL μ n μ1) (u : mU μ1 27 e.toNat z μ2) (he : 0 ≤ e ∧ n ≤ e) : preL μ n μ2 := fun k hk => (u.2 27 k (Or.inr (by omega))).trans (h k hk)
theorem preL.upO {μ μ1 μ2 : mM} {n z : Int} {a k : Nat} (h : preL μ n μ1) (u : mU μ1 a k z μ2) (ha : 27 ≠ a) : preL μ n μ2 := fun j hj => (u.2 27 j (Or.inl ha)).trans (h j hj)
theorem preL.f {μ μ1 : mM} {n e z : Int} (h : preL μ n μ1) (he : 0 ≤ e ∧ e < n) (q : μ 27 e.toNat = z) : μ1 27 e.toNat = z := (h e.toNat (by omega)).trans q
theorem preL.le {μ μ1 : mM} {n m : Int} (h : preL μ n μ1) (hm : m ≤ n) : preL μ m μ1 := fun k hk => h k (by omega)
def argA (μ : mM) (b k : Int) : Prop := ∀ i : Int, 0 ≤ i → i < k → 0 ≤ μ 27 (b + 2 * i + 1).toNat ∧ μ 27 (b + 2 * i + 1).toNat ≤ 1000000
theorem argA.zero {μ : mM} {b : Int} : argA μ b 0 := fun i h0 h1 => by omega
theorem argA.pre {μ μ1 : mM} {b k n : Int} (h : argA μ b k) (g : preL μ n μ1) (hb : 0 ≤ b) (hn : b + 2 * k ≤ n) : argA μ1 b k := fun i h0 h1 => by
  rw [g _ (by omega)]; exact h i h0 h1
theorem argA.succ {μ : mM} {b k e z : Int} (h : argA μ b k) (he : e = b + 2 * k + 1) (q : μ 27 e.toNat = z) (hz : 0 ≤ z ∧ z ≤ 1000000) : argA μ b (k + 1) := fun i h0 h1 => by
  by_cases hk : i = k
  · rw [hk, ← he, q]; exact hz
  · exact h i h0 (by omega)
theorem argA.up {μ μ1 : mM} {b k e z : Int} (h : argA μ b k) (u : mU μ 27 e.toNat z μ1) (he : 0 ≤ e ∧ e < b) : argA μ1 b k := fun i h0 h1 => by
  rw [u.2 27 _ (Or.inr (by omega))]; exact h i h0 h1
theorem argA.fr {l : List Nat} {w : mW} {μ μ1 : mM} {b k : Int} (h : argA μ b k) (hw : mWF w) (hF : mF l w μ μ1) (hl : l.elem 27999 = false) : argA μ1 b k := fun i h0 h1 => by
  rw [hF.f (z := μ 27 (b + 2 * i + 1).toNat) (A_27 hw) hl rfl]; exact h i h0 h1
def wfF (f : Nat → Int) : Nat → Nat → Prop
  | 0, c => c = 0
  | n + 1, c => ∃ h, wfF f n h ∧ 0 ≤ f h ∧ 0 ≤ f (h + 1) ∧ c = h + 2 + 5 * (f h).toNat + 2 * (f (h + 1)).toNat ∧ ∀ i, i < (f (h + 1)).toNat → 0 ≤ f (h + 2 + 5 * (f h).toNat + 2 * i + 1) ∧ f (h + 2 + 5 * (f h).toNat + 2 * i + 1) ≤ 1000000
theorem wfF.cong {f g : Nat → Int} : ∀ {n c : Nat}, wfF f n c → (∀ k, k < c → g k = f k) → wfF g n c
  | 0, _, h, _ => h
  | n + 1, c, ⟨h, h1, h2, h3, h4, h5⟩, e => by
    have e0 : g h = f h := e h (by omega)
    have e1 : g (h + 1) = f (h + 1) := e (h + 1) (by omega)
    refine ⟨h, wfF.cong h1 (fun k hk => e k (by omega)), by rw [e0]; exact h2, by rw [e1]; exact h3, by rw [e0, e1]; exact h4, fun i hi => ?_⟩
    rw [e1] at hi
    rw [e0, e (h + 2 + 5 * (f h).toNat + 2 * i + 1) (by omega)]
    exact h5 i hi
theorem wfF.toR {f : Nat → Int} {len : Nat} : ∀ {n c m : Nat}, wfF f n c → wfR f len c m → wfR f len 0 (n + m)
  | 0, c, m, h, g => by
    have h : c = 0 := h
    subst h; rw [Nat.zero_add]; exact g
  | n + 1, c, m, ⟨h, h1, h2, h3, h4, h5⟩, g => by
    have hc : c ≤ len := by
      cases m with
      | zero => exact g
      | succ m => have := g.1; omega
    have := wfF.toR (len := len) (m := m + 1) h1 (show wfR f len h (m + 1) from ⟨by omega, h2, h3, by omega, h5, by rw [← h4]; exact g⟩)
    have e : n + 1 + m = n + (m + 1) := by omega
    rw [e]; exact this
theorem wfF.fin {f : Nat → Int} {n c : Nat} (h : wfF f n c) : wfR f c 0 n := by
  have := wfF.toR (len := c) (m := 0) h (Nat.le_refl c)
  rw [Nat.add_zero] at this; exact this
theorem wfF.row {μ μ1 : mM} {n h t k c m : Int} (g : wfF (μ 27) n.toNat h.toNat) (hn : 0 ≤ n) (hh : 0 ≤ h) (p : preL μ h μ1) (e : Int) (he : e = h + 1) (qt : μ1 27 h.toNat = t) (qk : μ1 27 e.toNat = k) (ht : 0 ≤ t) (hk : 0 ≤ k) (b : Int) (hb : b = h + 2 + 5 * t) (ha : argA μ1 b k) (hc : c = b + 2 * k) (hm : m = n + 1) : wfF (μ1 27) m.toNat c.toNat := by
  have e1 : m.toNat = n.toNat + 1 := by omega
  have e2 : h.toNat + 1 = e.toNat := by omega
  rw [e1]
  refine ⟨h.toNat, g.cong (fun j hj => p j (by omega)), by rw [qt]; exact ht, by rw [e2, qk]; exact hk, by rw [e2, qt, qk]; omega, fun i hi => ?_⟩
  rw [e2, qk] at hi
  have := ha i (by omega) (by omega)
  have e3 : (b + 2 * (i : Int) + 1).toNat = h.toNat + 2 + 5 * t.toNat + 2 * i + 1 := by omega
  rw [e3] at this
  rw [qt]; exact this
theorem wfF.zero {f : Nat → Int} {n c : Int} (hn : n = 0) (hc : c = 0) : wfF f n.toNat c.toNat := by subst hn; subst hc; exact rfl
theorem wfF.cg {f : Nat → Int} {n c n' c' : Int} (h : wfF f n.toNat c.toNat) (hn : n' = n) (hc : c' = c) : wfF f n'.toNat c'.toNat := by rw [hn, hc]; exact h
theorem argV {μ : mM} {e x c : Int} (h : 2000 ≤ e ∨ μ 27 e.toNat = x) (he : 1990 ≤ c ∨ e = c + 1) (hx : 0 ≤ x ∧ x ≤ 1000000) : 1990 ≤ c ∨ (0 ≤ μ 27 (c + 1).toNat ∧ μ 27 (c + 1).toNat ≤ 1000000) := by
  rcases he with he | he
  · exact Or.inl he
  · rcases h with h | h
    · exact Or.inl (by omega)
    · rw [← he, h]; exact Or.inr hx
end
