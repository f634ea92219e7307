section
theorem vc_X10_firstWrongStep_2 {p2 z366 : Int} (h0 : (z366 + 1) < p2) (h1 : 0 ≤ p2 ∧ p2 ≤ 20) (h2 : 0 ≤ z366 ∧ z366 ≤ 19) : 0 ≤ z366 ∧ z366 ≤ 18 := by omega
theorem vc_X10_firstWrongStep_3 {p2 z366 : Int} (h0 : (z366 + 1) < p2) (h1 : 0 ≤ p2 ∧ p2 ≤ 20) (h2 : 0 ≤ z366 ∧ z366 ≤ 18) : 2 ≤ p2 ∧ p2 ≤ 20 := by omega
theorem vc_X10_firstWrongStep_4 {n1 z389 : Int} (h0 : 0 ≤ z389) (h1 : z389 < n1) (h2 : (-1) ≤ z389 ∧ z389 ≤ 19) : 0 ≤ z389 ∧ z389 ≤ 19 := by omega
theorem vc_X10_firstWrongStep_5 {n1 z389 : Int} (h0 : z389 < n1) (h1 : 0 ≤ z389) (h2 : 0 ≤ z389 ∧ z389 ≤ 19) : z389 < n1 := by omega
theorem vc_X10_firstWrongStep_7 {z367 : Int} (h0 : ¬ z367 = 0) (h1 : 0 ≤ z367 ∧ z367 ≤ 0) : False := by omega
theorem vc_X10_firstWrongStep_8 {z404 : Int} (h0 : z404 = 2) (h1 : 0 ≤ z404 ∧ z404 ≤ 3) : 2 ≤ z404 ∧ z404 ≤ 2 := by omega
theorem vc_X10_firstWrongStep_9 {N p2 z366 : Int} (h0 : (20 - z366) < N + 1) (h1 : (z366 + 1) < p2) (h2 : 2 ≤ p2 ∧ p2 ≤ 20) (h3 : 0 ≤ z366 ∧ z366 ≤ 18) : (20 - (z366 + 1)) < N := by omega
theorem vc_X10_firstWrongStep_10 {z404 : Int} (h0 : ¬ z404 = 0) (h1 : ¬ z404 = 2) (h2 : 0 ≤ z404 ∧ z404 ≤ 3) : 1 ≤ z404 ∧ z404 ≤ 3 := by omega
theorem vc_X10_firstWrongStep_11 {z404 : Int} (h0 : z404 = 0) (h1 : ¬ z404 = 2) (h2 : 0 ≤ z404 ∧ z404 ≤ 3) : 0 ≤ z404 ∧ z404 ≤ 0 := by omega
theorem vc_X10_firstWrongStep_16 {z404 : Int} (h0 : z404 = 1) (h1 : 0 ≤ z404 ∧ z404 ≤ 3) : 1 ≤ z404 ∧ z404 ≤ 1 := by omega
theorem vc_X10_firstWrongStep_17 {z404 : Int} (h0 : z404 = 2) (h1 : ¬ z404 = 1) (h2 : 0 ≤ z404 ∧ z404 ≤ 3) : 2 ≤ z404 ∧ z404 ≤ 2 := by omega
theorem vc_X10_firstWrongStep_18 {n1 z389 : Int} (h0 : z389 < 0) (h1 : z389 < n1) (h2 : (-1) ≤ z389 ∧ z389 ≤ 19) : (-1) ≤ z389 ∧ z389 ≤ (-1) := by omega
set_option maxRecDepth 4000 in
set_option maxHeartbeats 4000000 in
theorem c_X10_firstWrongStep {l : Launch} {D : va_G} {c : Nat → ClassId} {H0 : Heap} {sa : Nat × Nat × (Nat → Int32)} {w : mW} {μ : mM} (hw : mWF w) (hT : mT w μ) (hA1 : mAt w 2 2) {p2 : Int} (hp2 : 0 ≤ p2 ∧ p2 ≤ 20) : sC (gG l D c H0 sa) mX10_firstWrongStep 2 0 0 [.ref 6, .ref 2, iv p2] (mk w μ) (qP w μ (fun z => ((-1) ≤ z ∧ z ≤ 19) ∧ True)) := by
  refine sC.of rfl (by decide) (le_t rfl) ?_
  refine mr_lvE (lv' := [(0, .ref 6), (1, .ref 2), (2, iv p2)]) rfl ?_
  refine mr_iconst (pc := 0) (z := 0) dX10_firstWrongStep_0 ?_
  refine mr_istore_n (pc := 1) (lv' := [(3, iv 0), (0, .ref 6), (1, .ref 2), (2, iv p2)]) dX10_firstWrongStep_1 rfl (by decide) rfl ?_
  refine mr_iconst (pc := 2) (z := 0) dX10_firstWrongStep_2 ?_
  refine mr_istore (pc := 3) (lv' := [(4, iv 0), (3, iv 0), (0, .ref 6), (1, .ref 2), (2, iv p2)]) dX10_firstWrongStep_3 (by decide) rfl ?_
  have L368 : ∀ (nL368 : Nat) (z367 z366 : Int), True → (0 ≤ z367 ∧ z367 ≤ 1) → (0 ≤ z366 ∧ z366 ≤ 19) → (20 - z366) < (nL368 : Int) → sV (gG l D c H0 sa) mX10_firstWrongStep (sRm 2 0 0) (sZ (gG l D c H0 sa) 0 0 (qP w μ (fun z => ((-1) ≤ z ∧ z ≤ 19) ∧ True))) 5 [(0, .ref 6), (1, .ref 2), (2, iv p2), (3, iv z367), (4, iv z366)] [] (mk w μ) 0 0 := by
    intro nL368
    induction nL368 with
    | zero => intro z367 z366 _ h369 h370 h374; exact ((vc_X12_letWay_1 h374 h370)).elim
    | succ nL368 ih375 =>
      intro z367 z366 _ h369 h370 h374
      refine mr_iload (pc := 5) (z := z366) dX10_firstWrongStep_5 rfl ?_
      refine mr_iconst (pc := 7) (z := 1) dX10_firstWrongStep_7 ?_
      refine mr_iadd (pc := 8) (x := z366) (y := 1) dX10_firstWrongStep_8 ?_
      refine mr_iload_n (pc := 9) (z := p2) dX10_firstWrongStep_9 rfl rfl ?_
      refine mr_icmp_ge (pc := 10) (tgt := 121) dX10_firstWrongStep_10 (by decide) (r32 (rAdd (e := 1) (f := 20) h370 (rR (x := 1)) rfl) rfl) (r32 hp2 rfl) (fun h376 => ?_) (fun h376 => ?_)
      · refine mr_iconst (pc := 121) (z := (-1)) dX10_firstWrongStep_121 ?_
        exact mr_iretP dX10_firstWrongStep_122 rfl (le_t rfl) (le_t rfl) ⟨(rW (c := (-1)) (d := 19) (rR (x := (-1))) rfl), trivial⟩
      have h377 : 0 ≤ z366 ∧ z366 ≤ 18 := (vc_X10_firstWrongStep_2 h376 hp2 h370)
      have h378 : 2 ≤ p2 ∧ p2 ≤ 20 := (vc_X10_firstWrongStep_3 h376 hp2 h377)
      refine sv_aload_n (pc := 13) dX10_firstWrongStep_13 rfl rfl ?_
      refine sv_aload_n (pc := 14) dX10_firstWrongStep_14 rfl rfl ?_
      refine mr_iload (pc := 15) (z := z366) dX10_firstWrongStep_15 rfl ?_
      refine la_2 (pc := 17) dX10_firstWrongStep_17 (A_2 hw) hT (rIx (n := 20) h377 rfl) fun z379 q380 h381 => ?_
      refine sv_aload_n (pc := 18) dX10_firstWrongStep_18 rfl rfl ?_
      refine mr_iload (pc := 19) (z := z366) dX10_firstWrongStep_19 rfl ?_
      refine mr_iconst (pc := 21) (z := 1) dX10_firstWrongStep_21 ?_
      refine mr_iadd (pc := 22) (x := z366) (y := 1) dX10_firstWrongStep_22 ?_
      refine la_2 (pc := 23) dX10_firstWrongStep_23 (A_2 hw) hT (rIx (n := 20) (rAdd (e := 1) (f := 19) h377 (rR (x := 1)) rfl) rfl) fun z382 q383 h384 => ?_
      refine mr_cVP (pc := 24) (c_X10_tieBetween hw hT (rW (c := (-2147483648)) (d := 2147483647) h381 rfl) (rW (c := (-2147483648)) (d := 2147483647) h384 rfl)) (gOk _ _ _ _ _) dX10_firstWrongStep_24 (tX10_tieBetween _ _ _ _ _) ⟨wV_X10_tieBetween, wL_X10_tieBetween⟩ wM_X10_109 (gCX10 _ _ _ _ _) rfl (A_6 hw) rfl ⟨le_t rfl, le_t rfl⟩ ⟨le_t rfl, le_t rfl⟩ rfl (le_t rfl) fun z389 h388 => ?_
      refine mr_istore (pc := 27) (lv' := [(5, iv z389), (0, .ref 6), (1, .ref 2), (2, iv p2), (3, iv z367), (4, iv z366)]) dX10_firstWrongStep_27 (by decide) rfl ?_
      refine mr_iload (pc := 29) (z := z389) dX10_firstWrongStep_29 rfl ?_
      refine mr_if_ge (pc := 31) (tgt := 37) dX10_firstWrongStep_31 (by decide) (r32 h388.1 rfl) (fun h390 => ?_) (fun h390 => ?_)
      · have h391 : 0 ≤ z389 ∧ z389 ≤ 19 := (vc_X10_firstWrongStep_4 h390 h388.2.1 h388.1)
        refine sv_aload_n (pc := 37) dX10_firstWrongStep_37 rfl rfl ?_
        refine gf_X10_4 (pc := 38) dX10_firstWrongStep_38 wF_X10_29 (A_6 hw) hT ?_
        refine mr_iload (pc := 41) (z := z389) dX10_firstWrongStep_41 rfl ?_
        refine la_11 (pc := 43) dX10_firstWrongStep_43 (A_11 hw) hT (rIx (n := 20) h391 rfl) (vc_X10_firstWrongStep_5 h388.2.1 h390 h391) fun b392 q393 A394 => ?_
        refine sv_aload_n (pc := 44) dX10_firstWrongStep_44 rfl rfl ?_
        refine gf_X10_4 (pc := 45) dX10_firstWrongStep_45 wF_X10_29 (A_6 hw) hT ?_
        refine mr_iload (pc := 48) (z := z389) dX10_firstWrongStep_48 rfl ?_
        refine lk_11 (pc := 50) dX10_firstWrongStep_50 (A_11 hw) (rIx (n := 20) h391 rfl) q393 ?_
        refine sv_aload_n (pc := 51) dX10_firstWrongStep_51 rfl rfl ?_
        refine mr_iload (pc := 52) (z := z366) dX10_firstWrongStep_52 rfl ?_
        refine lk_2 (pc := 54) dX10_firstWrongStep_54 (A_2 hw) (rIx (n := 20) h377 rfl) q380 ?_
        refine mr_cVP (pc := 55) (c_X9_sideOf hw hT A394 (rW (c := (-2147483648)) (d := 2147483647) h381 rfl)) (gOk _ _ _ _ _) dX10_firstWrongStep_55 (tX9_sideOf _ _ _ _ _) ⟨wV_X9_sideOf, wL_X9_sideOf⟩ wM_X10_112 (gCX9 _ _ _ _ _) rfl A394 rfl ⟨le_t rfl, le_t rfl⟩ ⟨le_t rfl, le_t rfl⟩ rfl (le_t rfl) fun z399 h398 => ?_
        refine mr_cVP (pc := 58) (c_X9_partnerRole hw hT A394 (rW (c := (-2147483648)) (d := 2147483647) h398.1 rfl)) (gOk _ _ _ _ _) dX10_firstWrongStep_58 (tX9_partnerRole _ _ _ _ _) ⟨wV_X9_partnerRole, wL_X9_partnerRole⟩ wM_X10_115 (gCX9 _ _ _ _ _) rfl A394 rfl ⟨le_t rfl, le_t rfl⟩ ⟨le_t rfl, le_t rfl⟩ rfl (le_t rfl) fun z404 h403 => ?_
        refine mr_istore (pc := 61) (lv' := [(6, iv z404), (5, iv z389), (0, .ref 6), (1, .ref 2), (2, iv p2), (3, iv z367), (4, iv z366)]) dX10_firstWrongStep_61 (by decide) rfl ?_
        refine mr_iload (pc := 63) (z := z404) dX10_firstWrongStep_63 rfl ?_
        refine mr_iconst (pc := 65) (z := 1) dX10_firstWrongStep_65 ?_
        have J409 : ∀ (z407 : Int), ((0 ≤ z407 ∧ z407 ≤ 1)) → sV (gG l D c H0 sa) mX10_firstWrongStep (sRm 2 0 0) (sZ (gG l D c H0 sa) 0 0 (qP w μ (fun z => ((-1) ≤ z ∧ z ≤ 19) ∧ True))) 80 [(0, .ref 6), (1, .ref 2), (2, iv p2), (3, iv z367), (4, iv z366), (6, iv z404)] [iv z407] (mk w μ) 0 0 := by
          intro z407 h408
          refine mr_istore (pc := 80) (lv' := [(7, iv z407), (0, .ref 6), (1, .ref 2), (2, iv p2), (3, iv z367), (4, iv z366), (6, iv z404)]) dX10_firstWrongStep_80 (by decide) rfl ?_
          refine mr_iload_n (pc := 82) (z := z367) dX10_firstWrongStep_82 rfl rfl ?_
          refine mr_if_eq (pc := 83) (tgt := 94) dX10_firstWrongStep_83 (by decide) (r32 h369 rfl) (fun h410 => ?_) (fun h410 => ?_)
          · have h411 : 0 ≤ z367 ∧ z367 ≤ 0 := (vc_X12_ring_22 h410 h369)
            refine mr_iload_n (pc := 94) (z := z367) dX10_firstWrongStep_94 rfl rfl ?_
            refine mr_if_ne (pc := 95) (tgt := 109) dX10_firstWrongStep_95 (by decide) (r32 h411 rfl) (fun h => ((vc_X10_firstWrongStep_7 h h411)).elim) (fun _ => ?_)
            refine mr_iload (pc := 98) (z := z404) dX10_firstWrongStep_98 rfl ?_
            refine mr_iconst (pc := 100) (z := 2) dX10_firstWrongStep_100 ?_
            refine mr_icmp_eq (pc := 101) (tgt := 109) dX10_firstWrongStep_101 (by decide) (r32 h403.1 rfl) (r32 (rR (x := 2)) rfl) (fun h415 => ?_) (fun h415 => ?_)
            · have h416 : 2 ≤ z404 ∧ z404 ≤ 2 := (vc_X10_firstWrongStep_8 h415 h403.1)
              refine mr_iconst (pc := 109) (z := 1) dX10_firstWrongStep_109 ?_
              refine sv_goto (pc := 110) (tgt := 114) dX10_firstWrongStep_110 (by decide) ?_
              refine mr_istore_n (pc := 114) (lv' := [(3, iv 1), (7, iv z407), (0, .ref 6), (1, .ref 2), (2, iv p2), (4, iv z366), (6, iv z404)]) dX10_firstWrongStep_114 rfl (by decide) rfl ?_
              refine mr_iinc (pc := 115) (lv' := [(4, iv (z366 + 1)), (3, iv 1), (7, iv z407), (0, .ref 6), (1, .ref 2), (2, iv p2), (6, iv z404)]) dX10_firstWrongStep_115 rfl (by decide) rfl ?_
              refine sv_goto (pc := 118) (tgt := 5) dX10_firstWrongStep_118 (by decide) ?_
              refine mr_lvS (lv' := [(0, .ref 6), (1, .ref 2), (2, iv p2), (3, iv 1), (4, iv (z366 + 1))]) (List.forall_mem_cons.mpr ⟨rfl, List.forall_mem_cons.mpr ⟨rfl, List.forall_mem_cons.mpr ⟨rfl, List.forall_mem_cons.mpr ⟨rfl, List.forall_mem_cons.mpr ⟨rfl, fun _ h => absurd h List.not_mem_nil⟩⟩⟩⟩⟩) ?_
              exact ih375 1 (z366 + 1) trivial (rW (c := 0) (d := 1) (rR (x := 1)) rfl) (rW (c := 0) (d := 19) (rAdd (e := 1) (f := 19) h377 (rR (x := 1)) rfl) rfl) (vc_X10_firstWrongStep_9 (nS h374) h376 h378 h377)
            refine mr_iload (pc := 104) (z := z404) dX10_firstWrongStep_104 rfl ?_
            refine mr_if_ne (pc := 106) (tgt := 113) dX10_firstWrongStep_106 (by decide) (r32 h403.1 rfl) (fun h419 => ?_) (fun h419 => ?_)
            · have h420 : 1 ≤ z404 ∧ z404 ≤ 3 := (vc_X10_firstWrongStep_10 h419 h415 h403.1)
              refine mr_iconst (pc := 113) (z := 0) dX10_firstWrongStep_113 ?_
              refine mr_istore_n (pc := 114) (lv' := [(3, iv 0), (7, iv z407), (0, .ref 6), (1, .ref 2), (2, iv p2), (4, iv z366), (6, iv z404)]) dX10_firstWrongStep_114 rfl (by decide) rfl ?_
              refine mr_iinc (pc := 115) (lv' := [(4, iv (z366 + 1)), (3, iv 0), (7, iv z407), (0, .ref 6), (1, .ref 2), (2, iv p2), (6, iv z404)]) dX10_firstWrongStep_115 rfl (by decide) rfl ?_
              refine sv_goto (pc := 118) (tgt := 5) dX10_firstWrongStep_118 (by decide) ?_
              refine mr_lvS (lv' := [(0, .ref 6), (1, .ref 2), (2, iv p2), (3, iv 0), (4, iv (z366 + 1))]) (List.forall_mem_cons.mpr ⟨rfl, List.forall_mem_cons.mpr ⟨rfl, List.forall_mem_cons.mpr ⟨rfl, List.forall_mem_cons.mpr ⟨rfl, List.forall_mem_cons.mpr ⟨rfl, fun _ h => absurd h List.not_mem_nil⟩⟩⟩⟩⟩) ?_
              exact ih375 0 (z366 + 1) trivial (rW (c := 0) (d := 1) (rR (x := 0)) rfl) (rW (c := 0) (d := 19) (rAdd (e := 1) (f := 19) h377 (rR (x := 1)) rfl) rfl) (vc_X10_firstWrongStep_9 (nS h374) h376 h378 h377)
            have h421 : 0 ≤ z404 ∧ z404 ≤ 0 := (vc_X10_firstWrongStep_11 h419 h415 h403.1)
            refine mr_iconst (pc := 109) (z := 1) dX10_firstWrongStep_109 ?_
            refine sv_goto (pc := 110) (tgt := 114) dX10_firstWrongStep_110 (by decide) ?_
            refine mr_istore_n (pc := 114) (lv' := [(3, iv 1), (7, iv z407), (0, .ref 6), (1, .ref 2), (2, iv p2), (4, iv z366), (6, iv z404)]) dX10_firstWrongStep_114 rfl (by decide) rfl ?_
            refine mr_iinc (pc := 115) (lv' := [(4, iv (z366 + 1)), (3, iv 1), (7, iv z407), (0, .ref 6), (1, .ref 2), (2, iv p2), (6, iv z404)]) dX10_firstWrongStep_115 rfl (by decide) rfl ?_
            refine sv_goto (pc := 118) (tgt := 5) dX10_firstWrongStep_118 (by decide) ?_
            refine mr_lvS (lv' := [(0, .ref 6), (1, .ref 2), (2, iv p2), (3, iv 1), (4, iv (z366 + 1))]) (List.forall_mem_cons.mpr ⟨rfl, List.forall_mem_cons.mpr ⟨rfl, List.forall_mem_cons.mpr ⟨rfl, List.forall_mem_cons.mpr ⟨rfl, List.forall_mem_cons.mpr ⟨rfl, fun _ h => absurd h List.not_mem_nil⟩⟩⟩⟩⟩) ?_
            exact ih375 1 (z366 + 1) trivial (rW (c := 0) (d := 1) (rR (x := 1)) rfl) (rW (c := 0) (d := 19) (rAdd (e := 1) (f := 19) h377 (rR (x := 1)) rfl) rfl) (vc_X10_firstWrongStep_9 (nS h374) h376 h378 h377)
          have h422 : 1 ≤ z367 ∧ z367 ≤ 1 := (vc_X12_ring_24 h410 h369)
          refine mr_iload (pc := 86) (z := z407) dX10_firstWrongStep_86 rfl ?_
          refine mr_if_eq (pc := 88) (tgt := 94) dX10_firstWrongStep_88 (by decide) (r32 h408 rfl) (fun h423 => ?_) (fun h423 => ?_)
          · have h424 : 0 ≤ z407 ∧ z407 ≤ 0 := (vc_X12_ring_22 h423 h408)
            refine mr_iload_n (pc := 94) (z := z367) dX10_firstWrongStep_94 rfl rfl ?_
            refine mr_if_ne (pc := 95) (tgt := 109) dX10_firstWrongStep_95 (by decide) (r32 h422 rfl) (fun _ => ?_) (fun h => ((vc_X12_letWay_13 h h422)).elim)
            refine mr_iconst (pc := 109) (z := 1) dX10_firstWrongStep_109 ?_
            refine sv_goto (pc := 110) (tgt := 114) dX10_firstWrongStep_110 (by decide) ?_
            refine mr_istore_n (pc := 114) (lv' := [(3, iv 1), (7, iv z407), (0, .ref 6), (1, .ref 2), (2, iv p2), (4, iv z366), (6, iv z404)]) dX10_firstWrongStep_114 rfl (by decide) rfl ?_
            refine mr_iinc (pc := 115) (lv' := [(4, iv (z366 + 1)), (3, iv 1), (7, iv z407), (0, .ref 6), (1, .ref 2), (2, iv p2), (6, iv z404)]) dX10_firstWrongStep_115 rfl (by decide) rfl ?_
            refine sv_goto (pc := 118) (tgt := 5) dX10_firstWrongStep_118 (by decide) ?_
            refine mr_lvS (lv' := [(0, .ref 6), (1, .ref 2), (2, iv p2), (3, iv 1), (4, iv (z366 + 1))]) (List.forall_mem_cons.mpr ⟨rfl, List.forall_mem_cons.mpr ⟨rfl, List.forall_mem_cons.mpr ⟨rfl, List.forall_mem_cons.mpr ⟨rfl, List.forall_mem_cons.mpr ⟨rfl, fun _ h => absurd h List.not_mem_nil⟩⟩⟩⟩⟩) ?_
            exact ih375 1 (z366 + 1) trivial (rW (c := 0) (d := 1) (rR (x := 1)) rfl) (rW (c := 0) (d := 19) (rAdd (e := 1) (f := 19) h377 (rR (x := 1)) rfl) rfl) (vc_X10_firstWrongStep_9 (nS h374) h376 h378 h377)
          have h425 : 1 ≤ z407 ∧ z407 ≤ 1 := (vc_X12_ring_24 h423 h408)
          refine mr_iload (pc := 91) (z := z366) dX10_firstWrongStep_91 rfl ?_
          exact mr_iretP dX10_firstWrongStep_93 rfl (le_t rfl) (le_t rfl) ⟨(rW (c := (-1)) (d := 19) h377 rfl), trivial⟩
        refine mr_icmp_eq (pc := 66) (tgt := 75) dX10_firstWrongStep_66 (by decide) (r32 h403.1 rfl) (r32 (rR (x := 1)) rfl) (fun h426 => ?_) (fun h426 => ?_)
        · have h427 : 1 ≤ z404 ∧ z404 ≤ 1 := (vc_X10_firstWrongStep_16 h426 h403.1)
          refine mr_iconst (pc := 75) (z := 1) dX10_firstWrongStep_75 ?_
          refine sv_goto (pc := 76) (tgt := 80) dX10_firstWrongStep_76 (by decide) ?_
          refine mr_lvS (lv' := [(0, .ref 6), (1, .ref 2), (2, iv p2), (3, iv z367), (4, iv z366), (6, iv z404)]) (List.forall_mem_cons.mpr ⟨rfl, List.forall_mem_cons.mpr ⟨rfl, List.forall_mem_cons.mpr ⟨rfl, List.forall_mem_cons.mpr ⟨rfl, List.forall_mem_cons.mpr ⟨rfl, List.forall_mem_cons.mpr ⟨rfl, fun _ h => absurd h List.not_mem_nil⟩⟩⟩⟩⟩⟩) ?_
          exact J409 1 (rW (c := 0) (d := 1) (rR (x := 1)) rfl)
        refine mr_iload (pc := 69) (z := z404) dX10_firstWrongStep_69 rfl ?_
        refine mr_iconst (pc := 71) (z := 2) dX10_firstWrongStep_71 ?_
        refine mr_icmp_ne (pc := 72) (tgt := 79) dX10_firstWrongStep_72 (by decide) (r32 h403.1 rfl) (r32 (rR (x := 2)) rfl) (fun h428 => ?_) (fun h428 => ?_)
        · refine mr_iconst (pc := 79) (z := 0) dX10_firstWrongStep_79 ?_
          refine mr_lvS (lv' := [(0, .ref 6), (1, .ref 2), (2, iv p2), (3, iv z367), (4, iv z366), (6, iv z404)]) (List.forall_mem_cons.mpr ⟨rfl, List.forall_mem_cons.mpr ⟨rfl, List.forall_mem_cons.mpr ⟨rfl, List.forall_mem_cons.mpr ⟨rfl, List.forall_mem_cons.mpr ⟨rfl, List.forall_mem_cons.mpr ⟨rfl, fun _ h => absurd h List.not_mem_nil⟩⟩⟩⟩⟩⟩) ?_
          exact J409 0 (rW (c := 0) (d := 1) (rR (x := 0)) rfl)
        have h429 : 2 ≤ z404 ∧ z404 ≤ 2 := (vc_X10_firstWrongStep_17 h428 h426 h403.1)
        refine mr_iconst (pc := 75) (z := 1) dX10_firstWrongStep_75 ?_
        refine sv_goto (pc := 76) (tgt := 80) dX10_firstWrongStep_76 (by decide) ?_
        refine mr_lvS (lv' := [(0, .ref 6), (1, .ref 2), (2, iv p2), (3, iv z367), (4, iv z366), (6, iv z404)]) (List.forall_mem_cons.mpr ⟨rfl, List.forall_mem_cons.mpr ⟨rfl, List.forall_mem_cons.mpr ⟨rfl, List.forall_mem_cons.mpr ⟨rfl, List.forall_mem_cons.mpr ⟨rfl, List.forall_mem_cons.mpr ⟨rfl, fun _ h => absurd h List.not_mem_nil⟩⟩⟩⟩⟩⟩) ?_
        exact J409 1 (rW (c := 0) (d := 1) (rR (x := 1)) rfl)
      have h430 : (-1) ≤ z389 ∧ z389 ≤ (-1) := (vc_X10_firstWrongStep_18 h390 h388.2.1 h388.1)
      refine mr_iload (pc := 34) (z := z366) dX10_firstWrongStep_34 rfl ?_
      exact mr_iretP dX10_firstWrongStep_36 rfl (le_t rfl) (le_t rfl) ⟨(rW (c := (-1)) (d := 19) h377 rfl), trivial⟩
  refine mr_lvS (lv' := [(0, .ref 6), (1, .ref 2), (2, iv p2), (3, iv 0), (4, iv 0)]) (List.forall_mem_cons.mpr ⟨rfl, List.forall_mem_cons.mpr ⟨rfl, List.forall_mem_cons.mpr ⟨rfl, List.forall_mem_cons.mpr ⟨rfl, List.forall_mem_cons.mpr ⟨rfl, fun _ h => absurd h List.not_mem_nil⟩⟩⟩⟩⟩) ?_
  exact L368 21 0 0 trivial (rW (c := 0) (d := 1) (rR (x := 0)) rfl) (rW (c := 0) (d := 19) (rR (x := 0)) rfl) vc_X12_letWay_18
theorem vc_X10_verdictOn_10 {z831 z863 : Int} (h0 : z863 < z831) (h1 : 0 ≤ z831 ∧ z831 ≤ 32) (h2 : (-2147483648) ≤ z863 ∧ z863 ≤ 2147483647) : (-2147483648) ≤ z863 ∧ z863 ≤ 31 := by omega
theorem vc_X10_verdictOn_11 {z831 z863 : Int} (h0 : z831 ≤ z863) (h1 : 0 ≤ z831 ∧ z831 ≤ 32) (h2 : (-2147483648) ≤ z863 ∧ z863 ≤ 2147483647) : 0 ≤ z863 ∧ z863 ≤ 2147483647 := by omega
theorem vc_X10_verdictOn_17 {z889 : Int} (h0 : z889 = (-1)) (h1 : (-2147483648) ≤ z889 ∧ z889 ≤ 2147483647) : (-1) ≤ z889 ∧ z889 ≤ (-1) := by omega
theorem vc_X10_verdictOn_18 {p4 z811 z889 : Int} (h0 : p4 < z889) (h1 : z811 ≤ p4) (h2 : ¬ z889 = (-1)) (h3 : (-2147483648) ≤ p4 ∧ p4 ≤ 2147483647) (h4 : (-2147483648) ≤ z811 ∧ z811 ≤ 2147483647) (h5 : (-2147483648) ≤ z889 ∧ z889 ≤ 2147483647) : (-2147483648) ≤ p4 ∧ p4 ≤ 2147483646 := by omega
theorem vc_X10_verdictOn_19 {p4 z811 z889 : Int} (h0 : p4 < z889) (h1 : z811 ≤ p4) (h2 : ¬ z889 = (-1)) (h3 : (-2147483648) ≤ p4 ∧ p4 ≤ 2147483646) (h4 : (-2147483648) ≤ z811 ∧ z811 ≤ 2147483647) (h5 : (-2147483648) ≤ z889 ∧ z889 ≤ 2147483647) : (-2147483647) ≤ z889 ∧ z889 ≤ 2147483647 := by omega
set_option maxRecDepth 4000 in
set_option maxHeartbeats 4000000 in
theorem c_X10_verdictOn {l : Launch} {D : va_G} {c : Nat → ClassId} {H0 : Heap} {sa : Nat × Nat × (Nat → Int32)} {w : mW} {μ : mM} (hw : mWF w) (hT : mT w μ) {p1 : Int} (hp1 : 0 ≤ p1 ∧ p1 ≤ 9) {p2 : Int} (hp2 : (-2147483648) ≤ p2 ∧ p2 ≤ 2147483647) {p3 : Int} (hp3 : (-2147483648) ≤ p3 ∧ p3 ≤ 2147483647) {p4 : Int} (hp4 : (-2147483648) ≤ p4 ∧ p4 ≤ 2147483647) : sC (gG l D c H0 sa) mX10_verdictOn 1 0 0 [.ref 6, iv p1, iv p2, iv p3, iv p4] (mk w μ) (qP w μ (fun z => (0 ≤ z ∧ z ≤ 2) ∧ True)) := by
  refine sC.of rfl (by decide) (le_t rfl) ?_
  refine mr_lvE (lv' := [(0, .ref 6), (1, iv p1), (2, iv p2), (3, iv p3), (4, iv p4)]) rfl ?_
  refine mr_iconst (pc := 0) (z := 2) dX10_verdictOn_0 ?_
  refine mr_istore (pc := 1) (lv' := [(5, iv 2), (0, .ref 6), (1, iv p1), (2, iv p2), (3, iv p3), (4, iv p4)]) dX10_verdictOn_1 (by decide) rfl ?_
  refine mr_iconst (pc := 3) (z := 0) dX10_verdictOn_3 ?_
  refine mr_istore (pc := 4) (lv' := [(6, iv 0), (5, iv 2), (0, .ref 6), (1, iv p1), (2, iv p2), (3, iv p3), (4, iv p4)]) dX10_verdictOn_4 (by decide) rfl ?_
  have L784 : ∀ (nL784 : Nat) (z783 z782 : Int), True → (0 ≤ z783 ∧ z783 ≤ 2) → (0 ≤ z782 ∧ z782 ≤ 30) → (31 - z782) < (nL784 : Int) → sV (gG l D c H0 sa) mX10_verdictOn (sRm 1 0 0) (sZ (gG l D c H0 sa) 0 0 (qP w μ (fun z => (0 ≤ z ∧ z ≤ 2) ∧ True))) 6 [(0, .ref 6), (1, iv p1), (2, iv p2), (3, iv p3), (4, iv p4), (5, iv z783), (6, iv z782)] [] (mk w μ) 0 0 := by
    intro nL784
    induction nL784 with
    | zero => intro z783 z782 _ h785 h786 h790; exact ((vc_X12_judgedAnew_1 h790 h786)).elim
    | succ nL784 ih791 =>
      intro z783 z782 _ h785 h786 h790
      refine mr_iload (pc := 6) (z := z782) dX10_verdictOn_6 rfl ?_
      refine sv_aload_n (pc := 8) dX10_verdictOn_8 rfl rfl ?_
      refine gf_X10_17 (pc := 9) dX10_verdictOn_9 wF_X10_118 (A_6 hw) hT fun z792 q793 h794 => ?_
      refine mr_icmp_ge (pc := 12) (tgt := 198) dX10_verdictOn_12 (by decide) (r32 h786 rfl) (r32 h794 rfl) (fun h795 => ?_) (fun h795 => ?_)
      · refine mr_iload (pc := 198) (z := z783) dX10_verdictOn_198 rfl ?_
        exact mr_iretP dX10_verdictOn_200 rfl (le_t rfl) (le_t rfl) ⟨h785, trivial⟩
      have h796 : 0 ≤ z782 ∧ z782 ≤ 29 := (vc_X12_judgedAnew_2 h795 h786 h794)
      have h797 : 1 ≤ z792 ∧ z792 ≤ 30 := (vc_X12_judgedAnew_3 h795 h796 h794)
      refine sv_aload_n (pc := 15) dX10_verdictOn_15 rfl rfl ?_
      refine gf_X10_10 (pc := 16) dX10_verdictOn_16 wF_X10_48 (A_6 hw) hT ?_
      refine mr_iload (pc := 19) (z := z782) dX10_verdictOn_19 rfl ?_
      refine la_17 (pc := 21) dX10_verdictOn_21 (A_17 hw) hT (rIx (n := 30) h796 rfl) fun z798 q799 h800 => ?_
      refine mr_iload_n (pc := 22) (z := p3) dX10_verdictOn_22 rfl rfl ?_
      have J810 : ∀ (z808 : Int), ((0 ≤ z808 ∧ z808 ≤ 1)) → sV (gG l D c H0 sa) mX10_verdictOn (sRm 1 0 0) (sZ (gG l D c H0 sa) 0 0 (qP w μ (fun z => (0 ≤ z ∧ z ≤ 2) ∧ True))) 42 [(0, .ref 6), (1, iv p1), (2, iv p2), (3, iv p3), (4, iv p4), (5, iv z783), (6, iv z782)] [iv z808] (mk w μ) 0 0 := by
        intro z808 h809
        refine mr_istore (pc := 42) (lv' := [(7, iv z808), (0, .ref 6), (1, iv p1), (2, iv p2), (3, iv p3), (4, iv p4), (5, iv z783), (6, iv z782)]) dX10_verdictOn_42 (by decide) rfl ?_
        refine sv_aload_n (pc := 44) dX10_verdictOn_44 rfl rfl ?_
        refine gf_X10_12 (pc := 45) dX10_verdictOn_45 wF_X10_54 (A_6 hw) hT ?_
        refine mr_iload (pc := 48) (z := z782) dX10_verdictOn_48 rfl ?_
        refine la_19 (pc := 50) dX10_verdictOn_50 (A_19 hw) hT (rIx (n := 30) h796 rfl) fun z811 q812 h813 => ?_
        refine mr_iload (pc := 51) (z := p4) dX10_verdictOn_51 rfl ?_
        have J824 : ∀ (z822 : Int), ((0 ≤ z822 ∧ z822 ≤ 1)) → sV (gG l D c H0 sa) mX10_verdictOn (sRm 1 0 0) (sZ (gG l D c H0 sa) 0 0 (qP w μ (fun z => (0 ≤ z ∧ z ≤ 2) ∧ True))) 84 [(0, .ref 6), (1, iv p1), (2, iv p2), (3, iv p3), (4, iv p4), (5, iv z783), (6, iv z782), (7, iv z808)] [iv z822] (mk w μ) 0 0 := by
          intro z822 h823
          refine mr_istore (pc := 84) (lv' := [(8, iv z822), (0, .ref 6), (1, iv p1), (2, iv p2), (3, iv p3), (4, iv p4), (5, iv z783), (6, iv z782), (7, iv z808)]) dX10_verdictOn_84 (by decide) rfl ?_
          refine sv_aload_n (pc := 86) dX10_verdictOn_86 rfl rfl ?_
          refine gf_X10_7 (pc := 87) dX10_verdictOn_87 wF_X10_39 (A_6 hw) hT ?_
          refine mr_iload (pc := 90) (z := z782) dX10_verdictOn_90 rfl ?_
          refine la_14 (pc := 92) dX10_verdictOn_92 (A_14 hw) hT (rIx (n := 30) h796 rfl) fun z825 q826 h827 => ?_
          refine mr_istore (pc := 93) (lv' := [(9, iv z825), (8, iv z822), (0, .ref 6), (1, iv p1), (2, iv p2), (3, iv p3), (4, iv p4), (5, iv z783), (6, iv z782), (7, iv z808)]) dX10_verdictOn_93 (by decide) rfl ?_
          refine sv_aload_n (pc := 95) dX10_verdictOn_95 rfl rfl ?_
          refine gf_X10_1 (pc := 96) dX10_verdictOn_96 wF_X10_15 (A_6 hw) hT ?_
          refine mr_iload (pc := 99) (z := z825) dX10_verdictOn_99 rfl ?_
          refine la_8 (pc := 101) dX10_verdictOn_101 (A_8 hw) hT (rIx (n := 10) h827 rfl) fun z828 q829 h830 => ?_
          refine sv_aload_n (pc := 102) dX10_verdictOn_102 rfl rfl ?_
          refine gf_X10_1 (pc := 103) dX10_verdictOn_103 wF_X10_15 (A_6 hw) hT ?_
          refine mr_iload_n (pc := 106) (z := p1) dX10_verdictOn_106 rfl rfl ?_
          refine la_8 (pc := 107) dX10_verdictOn_107 (A_8 hw) hT (rIx (n := 10) hp1 rfl) fun z831 q832 h833 => ?_
          have J850 : ∀ (z848 : Int), ((0 ≤ z848 ∧ z848 ≤ 1)) → sV (gG l D c H0 sa) mX10_verdictOn (sRm 1 0 0) (sZ (gG l D c H0 sa) 0 0 (qP w μ (fun z => (0 ≤ z ∧ z ≤ 2) ∧ True))) 140 [(0, .ref 6), (1, iv p1), (2, iv p2), (3, iv p3), (4, iv p4), (5, iv z783), (6, iv z782), (7, iv z808), (8, iv z822)] [iv z848] (mk w μ) 0 0 := by
            intro z848 h849
            refine mr_istore (pc := 140) (lv' := [(10, iv z848), (0, .ref 6), (1, iv p1), (2, iv p2), (3, iv p3), (4, iv p4), (5, iv z783), (6, iv z782), (7, iv z808), (8, iv z822)]) dX10_verdictOn_140 (by decide) rfl ?_
            refine mr_iload (pc := 142) (z := z808) dX10_verdictOn_142 rfl ?_
            refine mr_if_eq (pc := 144) (tgt := 192) dX10_verdictOn_144 (by decide) (r32 h809 rfl) (fun h851 => ?_) (fun h851 => ?_)
            · have h852 : 0 ≤ z808 ∧ z808 ≤ 0 := (vc_X12_ring_22 h851 h809)
              refine mr_iinc (pc := 192) (lv' := [(6, iv (z782 + 1)), (10, iv z848), (0, .ref 6), (1, iv p1), (2, iv p2), (3, iv p3), (4, iv p4), (5, iv z783), (7, iv z808), (8, iv z822)]) dX10_verdictOn_192 rfl (by decide) rfl ?_
              refine sv_goto (pc := 195) (tgt := 6) dX10_verdictOn_195 (by decide) ?_
              refine mr_lvS (lv' := [(0, .ref 6), (1, iv p1), (2, iv p2), (3, iv p3), (4, iv p4), (5, iv z783), (6, iv (z782 + 1))]) (List.forall_mem_cons.mpr ⟨rfl, List.forall_mem_cons.mpr ⟨rfl, List.forall_mem_cons.mpr ⟨rfl, List.forall_mem_cons.mpr ⟨rfl, List.forall_mem_cons.mpr ⟨rfl, List.forall_mem_cons.mpr ⟨rfl, List.forall_mem_cons.mpr ⟨rfl, fun _ h => absurd h List.not_mem_nil⟩⟩⟩⟩⟩⟩⟩) ?_
              exact ih791 z783 (z782 + 1) trivial h785 (rW (c := 0) (d := 30) (rAdd (e := 1) (f := 30) h796 (rR (x := 1)) rfl) rfl) (vc_X12_judgedAnew_5 (nS h790) h795 h796 h797)
            have h853 : 1 ≤ z808 ∧ z808 ≤ 1 := (vc_X12_ring_24 h851 h809)
            refine mr_iload (pc := 147) (z := z822) dX10_verdictOn_147 rfl ?_
            refine mr_if_eq (pc := 149) (tgt := 192) dX10_verdictOn_149 (by decide) (r32 h823 rfl) (fun h854 => ?_) (fun h854 => ?_)
            · have h855 : 0 ≤ z822 ∧ z822 ≤ 0 := (vc_X12_ring_22 h854 h823)
              refine mr_iinc (pc := 192) (lv' := [(6, iv (z782 + 1)), (10, iv z848), (0, .ref 6), (1, iv p1), (2, iv p2), (3, iv p3), (4, iv p4), (5, iv z783), (7, iv z808), (8, iv z822)]) dX10_verdictOn_192 rfl (by decide) rfl ?_
              refine sv_goto (pc := 195) (tgt := 6) dX10_verdictOn_195 (by decide) ?_
              refine mr_lvS (lv' := [(0, .ref 6), (1, iv p1), (2, iv p2), (3, iv p3), (4, iv p4), (5, iv z783), (6, iv (z782 + 1))]) (List.forall_mem_cons.mpr ⟨rfl, List.forall_mem_cons.mpr ⟨rfl, List.forall_mem_cons.mpr ⟨rfl, List.forall_mem_cons.mpr ⟨rfl, List.forall_mem_cons.mpr ⟨rfl, List.forall_mem_cons.mpr ⟨rfl, List.forall_mem_cons.mpr ⟨rfl, fun _ h => absurd h List.not_mem_nil⟩⟩⟩⟩⟩⟩⟩) ?_
              exact ih791 z783 (z782 + 1) trivial h785 (rW (c := 0) (d := 30) (rAdd (e := 1) (f := 30) h796 (rR (x := 1)) rfl) rfl) (vc_X12_judgedAnew_5 (nS h790) h795 h796 h797)
            have h856 : 1 ≤ z822 ∧ z822 ≤ 1 := (vc_X12_ring_24 h854 h823)
            refine mr_iload (pc := 152) (z := z848) dX10_verdictOn_152 rfl ?_
            refine mr_if_ne (pc := 154) (tgt := 160) dX10_verdictOn_154 (by decide) (r32 h849 rfl) (fun h857 => ?_) (fun h857 => ?_)
            · have h858 : 1 ≤ z848 ∧ z848 ≤ 1 := (vc_X12_ring_24 h857 h849)
              refine sv_aload_n (pc := 160) dX10_verdictOn_160 rfl rfl ?_
              refine gf_X10_9 (pc := 161) dX10_verdictOn_161 wF_X10_45 (A_6 hw) hT ?_
              refine mr_iload (pc := 164) (z := z782) dX10_verdictOn_164 rfl ?_
              refine la_16 (pc := 166) dX10_verdictOn_166 (A_16 hw) hT (rIx (n := 30) h796 rfl) fun z859 q860 h861 => ?_
              refine mr_iload_n (pc := 167) (z := p2) dX10_verdictOn_167 rfl rfl ?_
              refine mr_icmp_ne (pc := 168) (tgt := 189) dX10_verdictOn_168 (by decide) h861 hp2 (fun h862 => ?_) (fun h862 => ?_)
              · refine mr_iconst (pc := 189) (z := 0) dX10_verdictOn_189 ?_
                refine mr_istore (pc := 190) (lv' := [(5, iv 0), (10, iv z848), (0, .ref 6), (1, iv p1), (2, iv p2), (3, iv p3), (4, iv p4), (6, iv z782), (7, iv z808), (8, iv z822)]) dX10_verdictOn_190 (by decide) rfl ?_
                refine mr_iinc (pc := 192) (lv' := [(6, iv (z782 + 1)), (5, iv 0), (10, iv z848), (0, .ref 6), (1, iv p1), (2, iv p2), (3, iv p3), (4, iv p4), (7, iv z808), (8, iv z822)]) dX10_verdictOn_192 rfl (by decide) rfl ?_
                refine sv_goto (pc := 195) (tgt := 6) dX10_verdictOn_195 (by decide) ?_
                refine mr_lvS (lv' := [(0, .ref 6), (1, iv p1), (2, iv p2), (3, iv p3), (4, iv p4), (5, iv 0), (6, iv (z782 + 1))]) (List.forall_mem_cons.mpr ⟨rfl, List.forall_mem_cons.mpr ⟨rfl, List.forall_mem_cons.mpr ⟨rfl, List.forall_mem_cons.mpr ⟨rfl, List.forall_mem_cons.mpr ⟨rfl, List.forall_mem_cons.mpr ⟨rfl, List.forall_mem_cons.mpr ⟨rfl, fun _ h => absurd h List.not_mem_nil⟩⟩⟩⟩⟩⟩⟩) ?_
                exact ih791 0 (z782 + 1) trivial (rW (c := 0) (d := 2) (rR (x := 0)) rfl) (rW (c := 0) (d := 30) (rAdd (e := 1) (f := 30) h796 (rR (x := 1)) rfl) rfl) (vc_X12_judgedAnew_5 (nS h790) h795 h796 h797)
              refine sv_aload_n (pc := 171) dX10_verdictOn_171 rfl rfl ?_
              refine gf_X10_8 (pc := 172) dX10_verdictOn_172 wF_X10_42 (A_6 hw) hT ?_
              refine mr_iload (pc := 175) (z := z782) dX10_verdictOn_175 rfl ?_
              refine la_15 (pc := 177) dX10_verdictOn_177 (A_15 hw) hT (rIx (n := 30) h796 rfl) fun z863 q864 h865 => ?_
              refine sv_aload_n (pc := 178) dX10_verdictOn_178 rfl rfl ?_
              refine gf_X10_1 (pc := 179) dX10_verdictOn_179 wF_X10_15 (A_6 hw) hT ?_
              refine mr_iload_n (pc := 182) (z := p1) dX10_verdictOn_182 rfl rfl ?_
              refine lk_8 (pc := 183) dX10_verdictOn_183 (A_8 hw) (rIx (n := 10) hp1 rfl) q832 ?_
              refine mr_icmp_lt (pc := 184) (tgt := 189) dX10_verdictOn_184 (by decide) h865 (r32 h833 rfl) (fun h866 => ?_) (fun h866 => ?_)
              · have h867 : (-2147483648) ≤ z863 ∧ z863 ≤ 31 := (vc_X10_verdictOn_10 h866 h833 h865)
                refine mr_iconst (pc := 189) (z := 0) dX10_verdictOn_189 ?_
                refine mr_istore (pc := 190) (lv' := [(5, iv 0), (10, iv z848), (0, .ref 6), (1, iv p1), (2, iv p2), (3, iv p3), (4, iv p4), (6, iv z782), (7, iv z808), (8, iv z822)]) dX10_verdictOn_190 (by decide) rfl ?_
                refine mr_iinc (pc := 192) (lv' := [(6, iv (z782 + 1)), (5, iv 0), (10, iv z848), (0, .ref 6), (1, iv p1), (2, iv p2), (3, iv p3), (4, iv p4), (7, iv z808), (8, iv z822)]) dX10_verdictOn_192 rfl (by decide) rfl ?_
                refine sv_goto (pc := 195) (tgt := 6) dX10_verdictOn_195 (by decide) ?_
                refine mr_lvS (lv' := [(0, .ref 6), (1, iv p1), (2, iv p2), (3, iv p3), (4, iv p4), (5, iv 0), (6, iv (z782 + 1))]) (List.forall_mem_cons.mpr ⟨rfl, List.forall_mem_cons.mpr ⟨rfl, List.forall_mem_cons.mpr ⟨rfl, List.forall_mem_cons.mpr ⟨rfl, List.forall_mem_cons.mpr ⟨rfl, List.forall_mem_cons.mpr ⟨rfl, List.forall_mem_cons.mpr ⟨rfl, fun _ h => absurd h List.not_mem_nil⟩⟩⟩⟩⟩⟩⟩) ?_
                exact ih791 0 (z782 + 1) trivial (rW (c := 0) (d := 2) (rR (x := 0)) rfl) (rW (c := 0) (d := 30) (rAdd (e := 1) (f := 30) h796 (rR (x := 1)) rfl) rfl) (vc_X12_judgedAnew_5 (nS h790) h795 h796 h797)
              have h868 : 0 ≤ z863 ∧ z863 ≤ 2147483647 := (vc_X10_verdictOn_11 h866 h833 h865)
              refine mr_iconst (pc := 187) (z := 1) dX10_verdictOn_187 ?_
              exact mr_iretP dX10_verdictOn_188 rfl (le_t rfl) (le_t rfl) ⟨(rW (c := 0) (d := 2) (rR (x := 1)) rfl), trivial⟩
            have h869 : 0 ≤ z848 ∧ z848 ≤ 0 := (vc_X12_ring_22 h857 h849)
            refine sv_goto (pc := 157) (tgt := 192) dX10_verdictOn_157 (by decide) ?_
            refine mr_iinc (pc := 192) (lv' := [(6, iv (z782 + 1)), (10, iv z848), (0, .ref 6), (1, iv p1), (2, iv p2), (3, iv p3), (4, iv p4), (5, iv z783), (7, iv z808), (8, iv z822)]) dX10_verdictOn_192 rfl (by decide) rfl ?_
            refine sv_goto (pc := 195) (tgt := 6) dX10_verdictOn_195 (by decide) ?_
            refine mr_lvS (lv' := [(0, .ref 6), (1, iv p1), (2, iv p2), (3, iv p3), (4, iv p4), (5, iv z783), (6, iv (z782 + 1))]) (List.forall_mem_cons.mpr ⟨rfl, List.forall_mem_cons.mpr ⟨rfl, List.forall_mem_cons.mpr ⟨rfl, List.forall_mem_cons.mpr ⟨rfl, List.forall_mem_cons.mpr ⟨rfl, List.forall_mem_cons.mpr ⟨rfl, List.forall_mem_cons.mpr ⟨rfl, fun _ h => absurd h List.not_mem_nil⟩⟩⟩⟩⟩⟩⟩) ?_
            exact ih791 z783 (z782 + 1) trivial h785 (rW (c := 0) (d := 30) (rAdd (e := 1) (f := 30) h796 (rR (x := 1)) rfl) rfl) (vc_X12_judgedAnew_5 (nS h790) h795 h796 h797)
          refine mr_icmp_gt (pc := 108) (tgt := 139) dX10_verdictOn_108 (by decide) (r32 h830 rfl) (r32 h833 rfl) (fun h870 => ?_) (fun h870 => ?_)
          · have h871 : 1 ≤ z828 ∧ z828 ≤ 32 := (vc_X12_judgedAnew_7 h870 h830 h833)
            have h872 : 0 ≤ z831 ∧ z831 ≤ 31 := (vc_X12_judgedAnew_8 h870 h871 h833)
            refine mr_iconst (pc := 139) (z := 0) dX10_verdictOn_139 ?_
            refine mr_lvS (lv' := [(0, .ref 6), (1, iv p1), (2, iv p2), (3, iv p3), (4, iv p4), (5, iv z783), (6, iv z782), (7, iv z808), (8, iv z822)]) (List.forall_mem_cons.mpr ⟨rfl, List.forall_mem_cons.mpr ⟨rfl, List.forall_mem_cons.mpr ⟨rfl, List.forall_mem_cons.mpr ⟨rfl, List.forall_mem_cons.mpr ⟨rfl, List.forall_mem_cons.mpr ⟨rfl, List.forall_mem_cons.mpr ⟨rfl, List.forall_mem_cons.mpr ⟨rfl, List.forall_mem_cons.mpr ⟨rfl, fun _ h => absurd h List.not_mem_nil⟩⟩⟩⟩⟩⟩⟩⟩⟩) ?_
            exact J850 0 (rW (c := 0) (d := 1) (rR (x := 0)) rfl)
          refine sv_aload_n (pc := 111) dX10_verdictOn_111 rfl rfl ?_
          refine gf_X10_0 (pc := 112) dX10_verdictOn_112 wF_X10_9 (A_6 hw) hT ?_
          refine mr_iload_n (pc := 115) (z := p1) dX10_verdictOn_115 rfl rfl ?_
          refine la_7 (pc := 116) dX10_verdictOn_116 (A_7 hw) hT (rIx (n := 10) hp1 rfl) fun z873 q874 h875 => ?_
          refine sv_aload_n (pc := 117) dX10_verdictOn_117 rfl rfl ?_
          refine gf_X10_2 (pc := 118) dX10_verdictOn_118 wF_X10_18 (A_6 hw) hT ?_
          refine mr_iload (pc := 121) (z := z825) dX10_verdictOn_121 rfl ?_
          refine la_9 (pc := 123) dX10_verdictOn_123 (A_9 hw) hT (rIx (n := 10) h827 rfl) fun z876 q877 h878 => ?_
          refine mr_iand (pc := 124) (x := z873) (y := z876) dX10_verdictOn_124 ?_
          refine mr_gen (P := fun z => (-2147483648) ≤ z ∧ z ≤ 2147483647) (r32i _) fun z879 q880 h881 => ?_
          refine sv_aload_n (pc := 125) dX10_verdictOn_125 rfl rfl ?_
          refine gf_X10_0 (pc := 126) dX10_verdictOn_126 wF_X10_9 (A_6 hw) hT ?_
          refine mr_iload (pc := 129) (z := z825) dX10_verdictOn_129 rfl ?_
          refine la_7 (pc := 131) dX10_verdictOn_131 (A_7 hw) hT (rIx (n := 10) h827 rfl) fun z882 q883 h884 => ?_
          refine mr_icmp_ne (pc := 132) (tgt := 139) dX10_verdictOn_132 (by decide) h881 h884 (fun h885 => ?_) (fun h885 => ?_)
          · refine mr_iconst (pc := 139) (z := 0) dX10_verdictOn_139 ?_
            refine mr_lvS (lv' := [(0, .ref 6), (1, iv p1), (2, iv p2), (3, iv p3), (4, iv p4), (5, iv z783), (6, iv z782), (7, iv z808), (8, iv z822)]) (List.forall_mem_cons.mpr ⟨rfl, List.forall_mem_cons.mpr ⟨rfl, List.forall_mem_cons.mpr ⟨rfl, List.forall_mem_cons.mpr ⟨rfl, List.forall_mem_cons.mpr ⟨rfl, List.forall_mem_cons.mpr ⟨rfl, List.forall_mem_cons.mpr ⟨rfl, List.forall_mem_cons.mpr ⟨rfl, List.forall_mem_cons.mpr ⟨rfl, fun _ h => absurd h List.not_mem_nil⟩⟩⟩⟩⟩⟩⟩⟩⟩) ?_
            exact J850 0 (rW (c := 0) (d := 1) (rR (x := 0)) rfl)
          refine mr_iconst (pc := 135) (z := 1) dX10_verdictOn_135 ?_
          refine sv_goto (pc := 136) (tgt := 140) dX10_verdictOn_136 (by decide) ?_
          refine mr_lvS (lv' := [(0, .ref 6), (1, iv p1), (2, iv p2), (3, iv p3), (4, iv p4), (5, iv z783), (6, iv z782), (7, iv z808), (8, iv z822)]) (List.forall_mem_cons.mpr ⟨rfl, List.forall_mem_cons.mpr ⟨rfl, List.forall_mem_cons.mpr ⟨rfl, List.forall_mem_cons.mpr ⟨rfl, List.forall_mem_cons.mpr ⟨rfl, List.forall_mem_cons.mpr ⟨rfl, List.forall_mem_cons.mpr ⟨rfl, List.forall_mem_cons.mpr ⟨rfl, List.forall_mem_cons.mpr ⟨rfl, fun _ h => absurd h List.not_mem_nil⟩⟩⟩⟩⟩⟩⟩⟩⟩) ?_
          exact J850 1 (rW (c := 0) (d := 1) (rR (x := 1)) rfl)
        refine mr_icmp_gt (pc := 53) (tgt := 83) dX10_verdictOn_53 (by decide) h813 hp4 (fun h886 => ?_) (fun h886 => ?_)
        · have h887 : (-2147483647) ≤ z811 ∧ z811 ≤ 2147483647 := (vc_X12_judgedAnew_15 h886 hp4 h813)
          have h888 : (-2147483648) ≤ p4 ∧ p4 ≤ 2147483646 := (vc_X12_judgedAnew_16 h886 hp4 h887)
          refine mr_iconst (pc := 83) (z := 0) dX10_verdictOn_83 ?_
          refine mr_lvS (lv' := [(0, .ref 6), (1, iv p1), (2, iv p2), (3, iv p3), (4, iv p4), (5, iv z783), (6, iv z782), (7, iv z808)]) (List.forall_mem_cons.mpr ⟨rfl, List.forall_mem_cons.mpr ⟨rfl, List.forall_mem_cons.mpr ⟨rfl, List.forall_mem_cons.mpr ⟨rfl, List.forall_mem_cons.mpr ⟨rfl, List.forall_mem_cons.mpr ⟨rfl, List.forall_mem_cons.mpr ⟨rfl, List.forall_mem_cons.mpr ⟨rfl, fun _ h => absurd h List.not_mem_nil⟩⟩⟩⟩⟩⟩⟩⟩) ?_
          exact J824 0 (rW (c := 0) (d := 1) (rR (x := 0)) rfl)
        refine sv_aload_n (pc := 56) dX10_verdictOn_56 rfl rfl ?_
        refine gf_X10_13 (pc := 57) dX10_verdictOn_57 wF_X10_57 (A_6 hw) hT ?_
        refine mr_iload (pc := 60) (z := z782) dX10_verdictOn_60 rfl ?_
        refine la_20 (pc := 62) dX10_verdictOn_62 (A_20 hw) hT (rIx (n := 30) h796 rfl) fun z889 q890 h891 => ?_
        refine mr_iconst (pc := 63) (z := (-1)) dX10_verdictOn_63 ?_
        refine mr_icmp_eq (pc := 64) (tgt := 79) dX10_verdictOn_64 (by decide) h891 (r32 (rR (x := (-1))) rfl) (fun h892 => ?_) (fun h892 => ?_)
        · have h893 : (-1) ≤ z889 ∧ z889 ≤ (-1) := (vc_X10_verdictOn_17 h892 h891)
          refine mr_iconst (pc := 79) (z := 1) dX10_verdictOn_79 ?_
          refine sv_goto (pc := 80) (tgt := 84) dX10_verdictOn_80 (by decide) ?_
          refine mr_lvS (lv' := [(0, .ref 6), (1, iv p1), (2, iv p2), (3, iv p3), (4, iv p4), (5, iv z783), (6, iv z782), (7, iv z808)]) (List.forall_mem_cons.mpr ⟨rfl, List.forall_mem_cons.mpr ⟨rfl, List.forall_mem_cons.mpr ⟨rfl, List.forall_mem_cons.mpr ⟨rfl, List.forall_mem_cons.mpr ⟨rfl, List.forall_mem_cons.mpr ⟨rfl, List.forall_mem_cons.mpr ⟨rfl, List.forall_mem_cons.mpr ⟨rfl, fun _ h => absurd h List.not_mem_nil⟩⟩⟩⟩⟩⟩⟩⟩) ?_
          exact J824 1 (rW (c := 0) (d := 1) (rR (x := 1)) rfl)
        refine mr_iload (pc := 67) (z := p4) dX10_verdictOn_67 rfl ?_
        refine sv_aload_n (pc := 69) dX10_verdictOn_69 rfl rfl ?_
        refine gf_X10_13 (pc := 70) dX10_verdictOn_70 wF_X10_57 (A_6 hw) hT ?_
        refine mr_iload (pc := 73) (z := z782) dX10_verdictOn_73 rfl ?_
        refine lk_20 (pc := 75) dX10_verdictOn_75 (A_20 hw) (rIx (n := 30) h796 rfl) q890 ?_
        refine mr_icmp_ge (pc := 76) (tgt := 83) dX10_verdictOn_76 (by decide) hp4 h891 (fun h894 => ?_) (fun h894 => ?_)
        · refine mr_iconst (pc := 83) (z := 0) dX10_verdictOn_83 ?_
          refine mr_lvS (lv' := [(0, .ref 6), (1, iv p1), (2, iv p2), (3, iv p3), (4, iv p4), (5, iv z783), (6, iv z782), (7, iv z808)]) (List.forall_mem_cons.mpr ⟨rfl, List.forall_mem_cons.mpr ⟨rfl, List.forall_mem_cons.mpr ⟨rfl, List.forall_mem_cons.mpr ⟨rfl, List.forall_mem_cons.mpr ⟨rfl, List.forall_mem_cons.mpr ⟨rfl, List.forall_mem_cons.mpr ⟨rfl, List.forall_mem_cons.mpr ⟨rfl, fun _ h => absurd h List.not_mem_nil⟩⟩⟩⟩⟩⟩⟩⟩) ?_
          exact J824 0 (rW (c := 0) (d := 1) (rR (x := 0)) rfl)
        have h895 : (-2147483648) ≤ p4 ∧ p4 ≤ 2147483646 := (vc_X10_verdictOn_18 h894 h886 h892 hp4 h813 h891)
        have h896 : (-2147483647) ≤ z889 ∧ z889 ≤ 2147483647 := (vc_X10_verdictOn_19 h894 h886 h892 h895 h813 h891)
        refine mr_iconst (pc := 79) (z := 1) dX10_verdictOn_79 ?_
        refine sv_goto (pc := 80) (tgt := 84) dX10_verdictOn_80 (by decide) ?_
        refine mr_lvS (lv' := [(0, .ref 6), (1, iv p1), (2, iv p2), (3, iv p3), (4, iv p4), (5, iv z783), (6, iv z782), (7, iv z808)]) (List.forall_mem_cons.mpr ⟨rfl, List.forall_mem_cons.mpr ⟨rfl, List.forall_mem_cons.mpr ⟨rfl, List.forall_mem_cons.mpr ⟨rfl, List.forall_mem_cons.mpr ⟨rfl, List.forall_mem_cons.mpr ⟨rfl, List.forall_mem_cons.mpr ⟨rfl, List.forall_mem_cons.mpr ⟨rfl, fun _ h => absurd h List.not_mem_nil⟩⟩⟩⟩⟩⟩⟩⟩) ?_
        exact J824 1 (rW (c := 0) (d := 1) (rR (x := 1)) rfl)
      refine mr_icmp_gt (pc := 23) (tgt := 41) dX10_verdictOn_23 (by decide) h800 hp3 (fun h897 => ?_) (fun h897 => ?_)
      · have h898 : (-2147483647) ≤ z798 ∧ z798 ≤ 2147483647 := (vc_X12_judgedAnew_15 h897 hp3 h800)
        have h899 : (-2147483648) ≤ p3 ∧ p3 ≤ 2147483646 := (vc_X12_judgedAnew_16 h897 hp3 h898)
        refine mr_iconst (pc := 41) (z := 0) dX10_verdictOn_41 ?_
        exact J810 0 (rW (c := 0) (d := 1) (rR (x := 0)) rfl)
      refine mr_iload_n (pc := 26) (z := p3) dX10_verdictOn_26 rfl rfl ?_
      refine sv_aload_n (pc := 27) dX10_verdictOn_27 rfl rfl ?_
      refine gf_X10_11 (pc := 28) dX10_verdictOn_28 wF_X10_51 (A_6 hw) hT ?_
      refine mr_iload (pc := 31) (z := z782) dX10_verdictOn_31 rfl ?_
      refine la_18 (pc := 33) dX10_verdictOn_33 (A_18 hw) hT (rIx (n := 30) h796 rfl) fun z900 q901 h902 => ?_
      refine mr_icmp_ge (pc := 34) (tgt := 41) dX10_verdictOn_34 (by decide) hp3 h902 (fun h903 => ?_) (fun h903 => ?_)
      · refine mr_iconst (pc := 41) (z := 0) dX10_verdictOn_41 ?_
        exact J810 0 (rW (c := 0) (d := 1) (rR (x := 0)) rfl)
      have h904 : (-2147483648) ≤ p3 ∧ p3 ≤ 2147483646 := (vc_X12_judgedAnew_17 h903 h897 hp3 h800 h902)
      have h905 : (-2147483647) ≤ z900 ∧ z900 ≤ 2147483647 := (vc_X12_judgedAnew_18 h903 h897 h904 h800 h902)
      refine mr_iconst (pc := 37) (z := 1) dX10_verdictOn_37 ?_
      refine sv_goto (pc := 38) (tgt := 42) dX10_verdictOn_38 (by decide) ?_
      exact J810 1 (rW (c := 0) (d := 1) (rR (x := 1)) rfl)
  refine mr_lvS (lv' := [(0, .ref 6), (1, iv p1), (2, iv p2), (3, iv p3), (4, iv p4), (5, iv 2), (6, iv 0)]) (List.forall_mem_cons.mpr ⟨rfl, List.forall_mem_cons.mpr ⟨rfl, List.forall_mem_cons.mpr ⟨rfl, List.forall_mem_cons.mpr ⟨rfl, List.forall_mem_cons.mpr ⟨rfl, List.forall_mem_cons.mpr ⟨rfl, List.forall_mem_cons.mpr ⟨rfl, fun _ h => absurd h List.not_mem_nil⟩⟩⟩⟩⟩⟩⟩) ?_
  exact L784 32 2 0 trivial (rW (c := 0) (d := 2) (rR (x := 2)) rfl) (rW (c := 0) (d := 30) (rR (x := 0)) rfl) vc_X12_judgedAnew_24
theorem vc_X11_isDomain_2 {f_n n0 p1 : Int} (h0 : f_n = n0) (h1 : p1 < 0) (h2 : 0 ≤ f_n ∧ f_n ≤ 10) (h3 : (-2147483648) ≤ p1 ∧ p1 ≤ (-1)) : (0 : Int) = 1 → 0 ≤ p1 ∧ p1 < f_n := by omega
theorem vc_X11_isDomain_3 {f_n n0 p1 : Int} (h0 : f_n = n0) (h1 : p1 < 0) (h2 : 0 ≤ f_n ∧ f_n ≤ 10) (h3 : (-2147483648) ≤ p1 ∧ p1 ≤ (-1)) : (0 : Int) = 0 → p1 < 0 ∨ f_n ≤ p1 := by omega
theorem vc_X11_isDomain_5 {f_n n0 p1 : Int} (h0 : f_n = n0) (h1 : 0 ≤ p1) (h2 : f_n ≤ p1) (h3 : 0 ≤ f_n ∧ f_n ≤ 10) (h4 : 0 ≤ p1 ∧ p1 ≤ 2147483647) : (0 : Int) = 1 → 0 ≤ p1 ∧ p1 < f_n := by omega
theorem vc_X11_isDomain_6 {f_n n0 p1 : Int} (h0 : f_n = n0) (h1 : 0 ≤ p1) (h2 : f_n ≤ p1) (h3 : 0 ≤ f_n ∧ f_n ≤ 10) (h4 : 0 ≤ p1 ∧ p1 ≤ 2147483647) : (0 : Int) = 0 → p1 < 0 ∨ f_n ≤ p1 := by omega
theorem vc_X11_isDomain_7 {f_n n0 p1 : Int} (h0 : p1 < f_n) (h1 : f_n = n0) (h2 : 0 ≤ p1) (h3 : 0 ≤ f_n ∧ f_n ≤ 10) (h4 : 0 ≤ p1 ∧ p1 ≤ 2147483647) : 0 ≤ p1 ∧ p1 ≤ 9 := by omega
theorem vc_X11_isDomain_8 {f_n n0 p1 : Int} (h0 : p1 < f_n) (h1 : f_n = n0) (h2 : 0 ≤ p1) (h3 : 0 ≤ f_n ∧ f_n ≤ 10) (h4 : 0 ≤ p1 ∧ p1 ≤ 9) : 1 ≤ f_n ∧ f_n ≤ 10 := by omega
theorem vc_X11_isDomain_9 {f_n n0 p1 : Int} (h0 : f_n = n0) (h1 : 0 ≤ p1) (h2 : p1 < f_n) (h3 : 1 ≤ f_n ∧ f_n ≤ 10) (h4 : 0 ≤ p1 ∧ p1 ≤ 9) : (1 : Int) = 1 → 0 ≤ p1 ∧ p1 < f_n := by omega
theorem vc_X11_isDomain_10 {f_n n0 p1 : Int} (h0 : f_n = n0) (h1 : 0 ≤ p1) (h2 : p1 < f_n) (h3 : 1 ≤ f_n ∧ f_n ≤ 10) (h4 : 0 ≤ p1 ∧ p1 ≤ 9) : (1 : Int) = 0 → p1 < 0 ∨ f_n ≤ p1 := by omega
set_option maxRecDepth 4000 in
set_option maxHeartbeats 4000000 in
theorem c_X11_isDomain {l : Launch} {D : va_G} {c : Nat → ClassId} {H0 : Heap} {sa : Nat × Nat × (Nat → Int32)} {w : mW} {μ : mM} (hw : mWF w) (hT : mT w μ) {p1 : Int} (hp1 : (-2147483648) ≤ p1 ∧ p1 ≤ 2147483647) {f_n : Int} (q_f_n : μ 6 15 = f_n) : sC (gG l D c H0 sa) mX11_isDomain 1 0 0 [.ref 0, iv p1] (mk w μ) (qP w μ (fun z => (0 ≤ z ∧ z ≤ 1) ∧ (z = 1 → 0 ≤ p1 ∧ p1 < f_n) ∧ (z = 0 → p1 < 0 ∨ f_n ≤ p1) ∧ True)) := by
  refine sC.of rfl (by decide) (le_t rfl) ?_
  have ht_f_n : (f_n = w.2.2.2 0 ∧ 0 ≤ f_n ∧ f_n ≤ 10) := by rw [← q_f_n]; exact hT 6 6 (A_6 hw) 15
  refine mr_lvE (lv' := [(0, .ref 0), (1, iv p1)]) rfl ?_
  refine mr_iload_n (pc := 0) (z := p1) dX11_isDomain_0 rfl rfl ?_
  refine mr_if_lt (pc := 1) (tgt := 19) dX11_isDomain_1 (by decide) hp1 (fun h17 => ?_) (fun h17 => ?_)
  · have h18 : (-2147483648) ≤ p1 ∧ p1 ≤ (-1) := (vc_X12_ring_60 h17 hp1)
    refine mr_iconst (pc := 19) (z := 0) dX11_isDomain_19 ?_
    exact mr_zretP dX11_isDomain_20 rfl (rW (c := 0) (d := 1) (rR (x := 0)) rfl) (le_t rfl) (le_t rfl) ⟨(rW (c := 0) (d := 1) (rR (x := 0)) rfl), (vc_X11_isDomain_2 ht_f_n.1 h17 ht_f_n.2 h18), (vc_X11_isDomain_3 ht_f_n.1 h17 ht_f_n.2 h18), trivial⟩
  have h19 : 0 ≤ p1 ∧ p1 ≤ 2147483647 := (vc_X12_ring_1 h17 hp1)
  refine mr_iload_n (pc := 4) (z := p1) dX11_isDomain_4 rfl rfl ?_
  refine sv_aload_n (pc := 5) dX11_isDomain_5 rfl rfl ?_
  refine gf_X11_3 (pc := 6) dX11_isDomain_6 wF_X11_26 (A_0 hw) hT ?_
  refine gk_X10_15 (pc := 9) dX11_isDomain_9 wF_X11_98 (A_6 hw) q_f_n ?_
  refine mr_icmp_ge (pc := 12) (tgt := 19) dX11_isDomain_12 (by decide) (r32 h19 rfl) (r32 ht_f_n.2 rfl) (fun h22 => ?_) (fun h22 => ?_)
  · refine mr_iconst (pc := 19) (z := 0) dX11_isDomain_19 ?_
    exact mr_zretP dX11_isDomain_20 rfl (rW (c := 0) (d := 1) (rR (x := 0)) rfl) (le_t rfl) (le_t rfl) ⟨(rW (c := 0) (d := 1) (rR (x := 0)) rfl), (vc_X11_isDomain_5 ht_f_n.1 h17 h22 ht_f_n.2 h19), (vc_X11_isDomain_6 ht_f_n.1 h17 h22 ht_f_n.2 h19), trivial⟩
  have h23 : 0 ≤ p1 ∧ p1 ≤ 9 := (vc_X11_isDomain_7 h22 ht_f_n.1 h17 ht_f_n.2 h19)
  have h24 : 1 ≤ f_n ∧ f_n ≤ 10 := (vc_X11_isDomain_8 h22 ht_f_n.1 h17 ht_f_n.2 h23)
  refine mr_iconst (pc := 15) (z := 1) dX11_isDomain_15 ?_
  refine sv_goto (pc := 16) (tgt := 20) dX11_isDomain_16 (by decide) ?_
  exact mr_zretP dX11_isDomain_20 rfl (rW (c := 0) (d := 1) (rR (x := 1)) rfl) (le_t rfl) (le_t rfl) ⟨(rW (c := 0) (d := 1) (rR (x := 1)) rfl), (vc_X11_isDomain_9 ht_f_n.1 h17 h22 h24 h23), (vc_X11_isDomain_10 ht_f_n.1 h17 h22 h24 h23), trivial⟩
theorem vc_X11_isPrefix_2 {f_n p1 : Int} (h0 : p1 < 0) (h1 : 0 ≤ f_n ∧ f_n ≤ 10) (h2 : (-2147483648) ≤ p1 ∧ p1 ≤ (-1)) : (0 : Int) = 1 → 0 ≤ p1 ∧ p1 < f_n := by omega
theorem vc_X11_isPrefix_3 {f_n p1 : Int} (h0 : p1 < 0) (h1 : 0 ≤ f_n ∧ f_n ≤ 10) (h2 : (-2147483648) ≤ p1 ∧ p1 ≤ (-1)) : (0 : Int) = 0 → p1 < 0 ∨ f_n ≤ p1 := by omega
theorem vc_X11_isPrefix_5 {f_n p1 : Int} (h0 : 0 ≤ p1) (h1 : f_n ≤ p1) (h2 : 0 ≤ f_n ∧ f_n ≤ 10) (h3 : 0 ≤ p1 ∧ p1 ≤ 2147483647) : (0 : Int) = 1 → 0 ≤ p1 ∧ p1 < f_n := by omega
theorem vc_X11_isPrefix_6 {f_n p1 : Int} (h0 : 0 ≤ p1) (h1 : f_n ≤ p1) (h2 : 0 ≤ f_n ∧ f_n ≤ 10) (h3 : 0 ≤ p1 ∧ p1 ≤ 2147483647) : (0 : Int) = 0 → p1 < 0 ∨ f_n ≤ p1 := by omega
theorem vc_X11_isPrefix_7 {f_n p1 : Int} (h0 : p1 < f_n) (h1 : 0 ≤ p1) (h2 : 0 ≤ f_n ∧ f_n ≤ 10) (h3 : 0 ≤ p1 ∧ p1 ≤ 2147483647) : 0 ≤ p1 ∧ p1 ≤ 9 := by omega
theorem vc_X11_isPrefix_8 {f_n p1 : Int} (h0 : p1 < f_n) (h1 : 0 ≤ p1) (h2 : 0 ≤ f_n ∧ f_n ≤ 10) (h3 : 0 ≤ p1 ∧ p1 ≤ 9) : 1 ≤ f_n ∧ f_n ≤ 10 := by omega
theorem vc_X11_isPrefix_9 {f_n p1 : Int} (h0 : 0 ≤ p1) (h1 : p1 < f_n) (h2 : 1 ≤ f_n ∧ f_n ≤ 10) (h3 : 0 ≤ p1 ∧ p1 ≤ 9) : (1 : Int) = 1 → 0 ≤ p1 ∧ p1 < f_n := by omega
theorem vc_X11_isPrefix_10 {f_n p1 : Int} (h0 : 0 ≤ p1) (h1 : p1 < f_n) (h2 : 1 ≤ f_n ∧ f_n ≤ 10) (h3 : 0 ≤ p1 ∧ p1 ≤ 9) : (1 : Int) = 0 → p1 < 0 ∨ f_n ≤ p1 := by omega
set_option maxRecDepth 4000 in
set_option maxHeartbeats 4000000 in
theorem c_X11_isPrefix {l : Launch} {D : va_G} {c : Nat → ClassId} {H0 : Heap} {sa : Nat × Nat × (Nat → Int32)} {w : mW} {μ : mM} (hw : mWF w) (hT : mT w μ) {p1 : Int} (hp1 : (-2147483648) ≤ p1 ∧ p1 ≤ 2147483647) {f_n : Int} (q_f_n : μ 6 14 = f_n) : sC (gG l D c H0 sa) mX11_isPrefix 1 0 0 [.ref 0, iv p1] (mk w μ) (qP w μ (fun z => (0 ≤ z ∧ z ≤ 1) ∧ (z = 1 → 0 ≤ p1 ∧ p1 < f_n) ∧ (z = 0 → p1 < 0 ∨ f_n ≤ p1) ∧ True)) := by
  refine sC.of rfl (by decide) (le_t rfl) ?_
  have ht_f_n : (0 ≤ f_n ∧ f_n ≤ 10) := by rw [← q_f_n]; exact hT 6 6 (A_6 hw) 14
  refine mr_lvE (lv' := [(0, .ref 0), (1, iv p1)]) rfl ?_
  refine mr_iload_n (pc := 0) (z := p1) dX11_isPrefix_0 rfl rfl ?_
  refine mr_if_lt (pc := 1) (tgt := 19) dX11_isPrefix_1 (by decide) hp1 (fun h17 => ?_) (fun h17 => ?_)
  · have h18 : (-2147483648) ≤ p1 ∧ p1 ≤ (-1) := (vc_X12_ring_60 h17 hp1)
    refine mr_iconst (pc := 19) (z := 0) dX11_isPrefix_19 ?_
    exact mr_zretP dX11_isPrefix_20 rfl (rW (c := 0) (d := 1) (rR (x := 0)) rfl) (le_t rfl) (le_t rfl) ⟨(rW (c := 0) (d := 1) (rR (x := 0)) rfl), (vc_X11_isPrefix_2 h17 ht_f_n h18), (vc_X11_isPrefix_3 h17 ht_f_n h18), trivial⟩
  have h19 : 0 ≤ p1 ∧ p1 ≤ 2147483647 := (vc_X12_ring_1 h17 hp1)
  refine mr_iload_n (pc := 4) (z := p1) dX11_isPrefix_4 rfl rfl ?_
  refine sv_aload_n (pc := 5) dX11_isPrefix_5 rfl rfl ?_
  refine gf_X11_3 (pc := 6) dX11_isPrefix_6 wF_X11_26 (A_0 hw) hT ?_
  refine gk_X10_14 (pc := 9) dX11_isPrefix_9 wF_X11_92 (A_6 hw) q_f_n ?_
  refine mr_icmp_ge (pc := 12) (tgt := 19) dX11_isPrefix_12 (by decide) (r32 h19 rfl) (r32 ht_f_n rfl) (fun h22 => ?_) (fun h22 => ?_)
  · refine mr_iconst (pc := 19) (z := 0) dX11_isPrefix_19 ?_
    exact mr_zretP dX11_isPrefix_20 rfl (rW (c := 0) (d := 1) (rR (x := 0)) rfl) (le_t rfl) (le_t rfl) ⟨(rW (c := 0) (d := 1) (rR (x := 0)) rfl), (vc_X11_isPrefix_5 h17 h22 ht_f_n h19), (vc_X11_isPrefix_6 h17 h22 ht_f_n h19), trivial⟩
  have h23 : 0 ≤ p1 ∧ p1 ≤ 9 := (vc_X11_isPrefix_7 h22 h17 ht_f_n h19)
  have h24 : 1 ≤ f_n ∧ f_n ≤ 10 := (vc_X11_isPrefix_8 h22 h17 ht_f_n h23)
  refine mr_iconst (pc := 15) (z := 1) dX11_isPrefix_15 ?_
  refine sv_goto (pc := 16) (tgt := 20) dX11_isPrefix_16 (by decide) ?_
  exact mr_zretP dX11_isPrefix_20 rfl (rW (c := 0) (d := 1) (rR (x := 1)) rfl) (le_t rfl) (le_t rfl) ⟨(rW (c := 0) (d := 1) (rR (x := 1)) rfl), (vc_X11_isPrefix_9 h17 h22 h24 h23), (vc_X11_isPrefix_10 h17 h22 h24 h23), trivial⟩
theorem vc_X11_isTie_2 {f_n n1 p1 : Int} (h0 : f_n = n1) (h1 : p1 < 0) (h2 : 0 ≤ f_n ∧ f_n ≤ 20) (h3 : (-2147483648) ≤ p1 ∧ p1 ≤ (-1)) : (0 : Int) = 1 → 0 ≤ p1 ∧ p1 < f_n := by omega
theorem vc_X11_isTie_3 {f_n n1 p1 : Int} (h0 : f_n = n1) (h1 : p1 < 0) (h2 : 0 ≤ f_n ∧ f_n ≤ 20) (h3 : (-2147483648) ≤ p1 ∧ p1 ≤ (-1)) : (0 : Int) = 0 → p1 < 0 ∨ f_n ≤ p1 := by omega
theorem vc_X11_isTie_5 {f_n n1 p1 : Int} (h0 : f_n = n1) (h1 : 0 ≤ p1) (h2 : f_n ≤ p1) (h3 : 0 ≤ f_n ∧ f_n ≤ 20) (h4 : 0 ≤ p1 ∧ p1 ≤ 2147483647) : (0 : Int) = 1 → 0 ≤ p1 ∧ p1 < f_n := by omega
theorem vc_X11_isTie_6 {f_n n1 p1 : Int} (h0 : f_n = n1) (h1 : 0 ≤ p1) (h2 : f_n ≤ p1) (h3 : 0 ≤ f_n ∧ f_n ≤ 20) (h4 : 0 ≤ p1 ∧ p1 ≤ 2147483647) : (0 : Int) = 0 → p1 < 0 ∨ f_n ≤ p1 := by omega
theorem vc_X11_isTie_7 {f_n n1 p1 : Int} (h0 : p1 < f_n) (h1 : f_n = n1) (h2 : 0 ≤ p1) (h3 : 0 ≤ f_n ∧ f_n ≤ 20) (h4 : 0 ≤ p1 ∧ p1 ≤ 2147483647) : 0 ≤ p1 ∧ p1 ≤ 19 := by omega
theorem vc_X11_isTie_8 {f_n n1 p1 : Int} (h0 : p1 < f_n) (h1 : f_n = n1) (h2 : 0 ≤ p1) (h3 : 0 ≤ f_n ∧ f_n ≤ 20) (h4 : 0 ≤ p1 ∧ p1 ≤ 19) : 1 ≤ f_n ∧ f_n ≤ 20 := by omega
theorem vc_X11_isTie_9 {f_n n1 p1 : Int} (h0 : f_n = n1) (h1 : 0 ≤ p1) (h2 : p1 < f_n) (h3 : 1 ≤ f_n ∧ f_n ≤ 20) (h4 : 0 ≤ p1 ∧ p1 ≤ 19) : (1 : Int) = 1 → 0 ≤ p1 ∧ p1 < f_n := by omega
theorem vc_X11_isTie_10 {f_n n1 p1 : Int} (h0 : f_n = n1) (h1 : 0 ≤ p1) (h2 : p1 < f_n) (h3 : 1 ≤ f_n ∧ f_n ≤ 20) (h4 : 0 ≤ p1 ∧ p1 ≤ 19) : (1 : Int) = 0 → p1 < 0 ∨ f_n ≤ p1 := by omega
set_option maxRecDepth 4000 in
set_option maxHeartbeats 4000000 in
theorem c_X11_isTie {l : Launch} {D : va_G} {c : Nat → ClassId} {H0 : Heap} {sa : Nat × Nat × (Nat → Int32)} {w : mW} {μ : mM} (hw : mWF w) (hT : mT w μ) {p1 : Int} (hp1 : (-2147483648) ≤ p1 ∧ p1 ≤ 2147483647) {f_n : Int} (q_f_n : μ 6 16 = f_n) : sC (gG l D c H0 sa) mX11_isTie 1 0 0 [.ref 0, iv p1] (mk w μ) (qP w μ (fun z => (0 ≤ z ∧ z ≤ 1) ∧ (z = 1 → 0 ≤ p1 ∧ p1 < f_n) ∧ (z = 0 → p1 < 0 ∨ f_n ≤ p1) ∧ True)) := by
  refine sC.of rfl (by decide) (le_t rfl) ?_
  have ht_f_n : (f_n = w.2.2.2 1 ∧ 0 ≤ f_n ∧ f_n ≤ 20) := by rw [← q_f_n]; exact hT 6 6 (A_6 hw) 16
  refine mr_lvE (lv' := [(0, .ref 0), (1, iv p1)]) rfl ?_
  refine mr_iload_n (pc := 0) (z := p1) dX11_isTie_0 rfl rfl ?_
  refine mr_if_lt (pc := 1) (tgt := 19) dX11_isTie_1 (by decide) hp1 (fun h17 => ?_) (fun h17 => ?_)
  · have h18 : (-2147483648) ≤ p1 ∧ p1 ≤ (-1) := (vc_X12_ring_60 h17 hp1)
    refine mr_iconst (pc := 19) (z := 0) dX11_isTie_19 ?_
    exact mr_zretP dX11_isTie_20 rfl (rW (c := 0) (d := 1) (rR (x := 0)) rfl) (le_t rfl) (le_t rfl) ⟨(rW (c := 0) (d := 1) (rR (x := 0)) rfl), (vc_X11_isTie_2 ht_f_n.1 h17 ht_f_n.2 h18), (vc_X11_isTie_3 ht_f_n.1 h17 ht_f_n.2 h18), trivial⟩
  have h19 : 0 ≤ p1 ∧ p1 ≤ 2147483647 := (vc_X12_ring_1 h17 hp1)
  refine mr_iload_n (pc := 4) (z := p1) dX11_isTie_4 rfl rfl ?_
  refine sv_aload_n (pc := 5) dX11_isTie_5 rfl rfl ?_
  refine gf_X11_3 (pc := 6) dX11_isTie_6 wF_X11_26 (A_0 hw) hT ?_
  refine gk_X10_16 (pc := 9) dX11_isTie_9 wF_X11_112 (A_6 hw) q_f_n ?_
  refine mr_icmp_ge (pc := 12) (tgt := 19) dX11_isTie_12 (by decide) (r32 h19 rfl) (r32 ht_f_n.2 rfl) (fun h22 => ?_) (fun h22 => ?_)
  · refine mr_iconst (pc := 19) (z := 0) dX11_isTie_19 ?_
    exact mr_zretP dX11_isTie_20 rfl (rW (c := 0) (d := 1) (rR (x := 0)) rfl) (le_t rfl) (le_t rfl) ⟨(rW (c := 0) (d := 1) (rR (x := 0)) rfl), (vc_X11_isTie_5 ht_f_n.1 h17 h22 ht_f_n.2 h19), (vc_X11_isTie_6 ht_f_n.1 h17 h22 ht_f_n.2 h19), trivial⟩
  have h23 : 0 ≤ p1 ∧ p1 ≤ 19 := (vc_X11_isTie_7 h22 ht_f_n.1 h17 ht_f_n.2 h19)
  have h24 : 1 ≤ f_n ∧ f_n ≤ 20 := (vc_X11_isTie_8 h22 ht_f_n.1 h17 ht_f_n.2 h23)
  refine mr_iconst (pc := 15) (z := 1) dX11_isTie_15 ?_
  refine sv_goto (pc := 16) (tgt := 20) dX11_isTie_16 (by decide) ?_
  exact mr_zretP dX11_isTie_20 rfl (rW (c := 0) (d := 1) (rR (x := 1)) rfl) (le_t rfl) (le_t rfl) ⟨(rW (c := 0) (d := 1) (rR (x := 1)) rfl), (vc_X11_isTie_9 ht_f_n.1 h17 h22 h24 h23), (vc_X11_isTie_10 ht_f_n.1 h17 h22 h24 h23), trivial⟩
theorem vc_X11_isEither_2 {p1 : Int} (h0 : p1 = 0) (h1 : 0 ≤ p1 ∧ p1 ≤ 0) : (1 : Int) = 1 → 0 ≤ p1 ∧ p1 ≤ 1 := by omega
theorem vc_X11_isEither_3 {p1 : Int} (h0 : p1 = 0) (h1 : 0 ≤ p1 ∧ p1 ≤ 0) : (1 : Int) = 0 → p1 < 0 ∨ 1 < p1 := by omega
theorem vc_X11_isEither_4 {p1 : Int} (h0 : ¬ p1 = 0) (h1 : ¬ p1 = 1) (h2 : (-2147483648) ≤ p1 ∧ p1 ≤ 2147483647) : (0 : Int) = 1 → 0 ≤ p1 ∧ p1 ≤ 1 := by omega
theorem vc_X11_isEither_5 {p1 : Int} (h0 : ¬ p1 = 0) (h1 : ¬ p1 = 1) (h2 : (-2147483648) ≤ p1 ∧ p1 ≤ 2147483647) : (0 : Int) = 0 → p1 < 0 ∨ 1 < p1 := by omega
theorem vc_X11_isEither_7 {p1 : Int} (h0 : ¬ p1 = 0) (h1 : p1 = 1) (h2 : 1 ≤ p1 ∧ p1 ≤ 1) : (1 : Int) = 1 → 0 ≤ p1 ∧ p1 ≤ 1 := by omega
theorem vc_X11_isEither_8 {p1 : Int} (h0 : ¬ p1 = 0) (h1 : p1 = 1) (h2 : 1 ≤ p1 ∧ p1 ≤ 1) : (1 : Int) = 0 → p1 < 0 ∨ 1 < p1 := by omega
set_option maxRecDepth 4000 in
set_option maxHeartbeats 4000000 in
theorem c_X11_isEither {l : Launch} {D : va_G} {c : Nat → ClassId} {H0 : Heap} {sa : Nat × Nat × (Nat → Int32)} {w : mW} {μ : mM} (hw : mWF w) (hT : mT w μ) {p1 : Int} (hp1 : (-2147483648) ≤ p1 ∧ p1 ≤ 2147483647) : sC (gG l D c H0 sa) mX11_isEither 1 0 0 [iv p1] (mk w μ) (qP w μ (fun z => (0 ≤ z ∧ z ≤ 1) ∧ (z = 1 → 0 ≤ p1 ∧ p1 ≤ 1) ∧ (z = 0 → p1 < 0 ∨ 1 < p1) ∧ True)) := by
  refine sC.of rfl (by decide) (le_t rfl) ?_
  refine mr_lvE (lv' := [(0, iv p1)]) rfl ?_
  refine mr_iload_n (pc := 0) (z := p1) dX11_isEither_0 rfl rfl ?_
  refine mr_if_eq (pc := 1) (tgt := 9) dX11_isEither_1 (by decide) hp1 (fun h3 => ?_) (fun h3 => ?_)
  · have h4 : 0 ≤ p1 ∧ p1 ≤ 0 := (vc_X12_mask_1 h3 hp1)
    refine mr_iconst (pc := 9) (z := 1) dX11_isEither_9 ?_
    refine sv_goto (pc := 10) (tgt := 14) dX11_isEither_10 (by decide) ?_
    exact mr_zretP dX11_isEither_14 rfl (rW (c := 0) (d := 1) (rR (x := 1)) rfl) (le_t rfl) (le_t rfl) ⟨(rW (c := 0) (d := 1) (rR (x := 1)) rfl), (vc_X11_isEither_2 h3 h4), (vc_X11_isEither_3 h3 h4), trivial⟩
  refine mr_iload_n (pc := 4) (z := p1) dX11_isEither_4 rfl rfl ?_
  refine mr_iconst (pc := 5) (z := 1) dX11_isEither_5 ?_
  refine mr_icmp_ne (pc := 6) (tgt := 13) dX11_isEither_6 (by decide) hp1 (r32 (rR (x := 1)) rfl) (fun h6 => ?_) (fun h6 => ?_)
  · refine mr_iconst (pc := 13) (z := 0) dX11_isEither_13 ?_
    exact mr_zretP dX11_isEither_14 rfl (rW (c := 0) (d := 1) (rR (x := 0)) rfl) (le_t rfl) (le_t rfl) ⟨(rW (c := 0) (d := 1) (rR (x := 0)) rfl), (vc_X11_isEither_4 h3 h6 hp1), (vc_X11_isEither_5 h3 h6 hp1), trivial⟩
  have h7 : 1 ≤ p1 ∧ p1 ≤ 1 := (vc_X12_count_4 h6 h3 hp1)
  refine mr_iconst (pc := 9) (z := 1) dX11_isEither_9 ?_
  refine sv_goto (pc := 10) (tgt := 14) dX11_isEither_10 (by decide) ?_
  exact mr_zretP dX11_isEither_14 rfl (rW (c := 0) (d := 1) (rR (x := 1)) rfl) (le_t rfl) (le_t rfl) ⟨(rW (c := 0) (d := 1) (rR (x := 1)) rfl), (vc_X11_isEither_7 h3 h6 h7), (vc_X11_isEither_8 h3 h6 h7), trivial⟩
theorem vc_X11_ring_3 {p1 z5 : Int} (h0 : p1 < z5) (h1 : 0 ≤ p1) (h2 : 0 ≤ p1 ∧ p1 ≤ 2147483647) (h3 : 0 ≤ z5 ∧ z5 ≤ 10) : 0 ≤ p1 ∧ p1 ≤ 9 := by omega
theorem vc_X11_ring_4 {p1 z5 : Int} (h0 : p1 < z5) (h1 : 0 ≤ p1) (h2 : 0 ≤ p1 ∧ p1 ≤ 9) (h3 : 0 ≤ z5 ∧ z5 ≤ 10) : 1 ≤ z5 ∧ z5 ≤ 10 := by omega
set_option maxRecDepth 4000 in
set_option maxHeartbeats 4000000 in
theorem c_X11_ring {l : Launch} {D : va_G} {c : Nat → ClassId} {H0 : Heap} {sa : Nat × Nat × (Nat → Int32)} {w : mW} {μ : mM} (hw : mWF w) (hT : mT w μ) {p1 : Int} (hp1 : (-2147483648) ≤ p1 ∧ p1 ≤ 2147483647) : sC (gG l D c H0 sa) mX11_ring 5 0 0 [.ref 0, iv p1] (mk w μ) (qI w [12999, 13999] μ (fun z μ1 => ((-2147483648) ≤ z ∧ z ≤ 2147483647) ∧ True)) := by
  refine sC.of rfl (by decide) (le_t rfl) ?_
  refine mr_lvE (lv' := [(0, .ref 0), (1, iv p1)]) rfl ?_
  refine sv_aload_n (pc := 0) dX11_ring_0 rfl rfl ?_
  refine gf_X11_3 (pc := 1) dX11_ring_1 wF_X11_26 (A_0 hw) hT ?_
  refine mr_cVI (pc := 4) (c_X10_findRing hw hT) (gOk _ _ _ _ _) dX11_ring_4 (tX10_findRing _ _ _ _ _) ⟨wV_X10_findRing, wL_X10_findRing⟩ wM_X11_162 (gCX10 _ _ _ _ _) rfl (A_6 hw) rfl ⟨le_t rfl, le_t rfl⟩ ⟨le_t rfl, le_t rfl⟩ rfl (le_t rfl) fun z5 μ1 T2 F3 h4 => ?_
  refine mr_istore_n (pc := 7) (lv' := [(2, iv z5), (0, .ref 0), (1, iv p1)]) dX11_ring_7 rfl (by decide) rfl ?_
  refine mr_iload_n (pc := 8) (z := p1) dX11_ring_8 rfl rfl ?_
  refine mr_if_lt (pc := 9) (tgt := 17) dX11_ring_9 (by decide) hp1 (fun h13 => ?_) (fun h13 => ?_)
  · have h14 : (-2147483648) ≤ p1 ∧ p1 ≤ (-1) := (vc_X12_ring_60 h13 hp1)
    refine mr_ldc (pc := 17) (z := (-99999999)) dX11_ring_17 wG_X11_165 (by decide) ?_
    refine sv_goto (pc := 19) (tgt := 31) dX11_ring_19 (by decide) ?_
    exact mr_iret dX11_ring_31 rfl (le_t rfl) (le_t rfl) T2 (mF.call mF.refl F3 rfl) ⟨(rW (c := (-2147483648)) (d := 2147483647) (rR (x := (-99999999))) rfl), trivial⟩
  have h15 : 0 ≤ p1 ∧ p1 ≤ 2147483647 := (vc_X12_ring_1 h13 hp1)
  refine mr_iload_n (pc := 12) (z := p1) dX11_ring_12 rfl rfl ?_
  refine mr_iload_n (pc := 13) (z := z5) dX11_ring_13 rfl rfl ?_
  refine mr_icmp_lt (pc := 14) (tgt := 22) dX11_ring_14 (by decide) (r32 h15 rfl) (r32 h4.1 rfl) (fun h21 => ?_) (fun h21 => ?_)
  · have h22 : 0 ≤ p1 ∧ p1 ≤ 9 := (vc_X11_ring_3 h21 h13 h15 h4.1)
    have h23 : 1 ≤ z5 ∧ z5 ≤ 10 := (vc_X11_ring_4 h21 h13 h22 h4.1)
    refine sv_aload_n (pc := 22) dX11_ring_22 rfl rfl ?_
    refine gf_X11_3 (pc := 23) dX11_ring_23 wF_X11_26 (A_0 hw) T2 ?_
    refine gf_X10_5 (pc := 26) dX11_ring_26 wF_X11_166 (A_6 hw) T2 ?_
    refine mr_iload_n (pc := 29) (z := p1) dX11_ring_29 rfl rfl ?_
    refine la_12 (pc := 30) dX11_ring_30 (A_12 hw) T2 (rIx (n := 10) h22 rfl) fun z24 q25 h26 => ?_
    exact mr_iret dX11_ring_31 rfl (le_t rfl) (le_t rfl) T2 (mF.call mF.refl F3 rfl) ⟨(rW (c := (-2147483648)) (d := 2147483647) h26 rfl), trivial⟩
  refine mr_ldc (pc := 17) (z := (-99999999)) dX11_ring_17 wG_X11_165 (by decide) ?_
  refine sv_goto (pc := 19) (tgt := 31) dX11_ring_19 (by decide) ?_
  exact mr_iret dX11_ring_31 rfl (le_t rfl) (le_t rfl) T2 (mF.call mF.refl F3 rfl) ⟨(rW (c := (-2147483648)) (d := 2147483647) (rR (x := (-99999999))) rfl), trivial⟩
set_option maxRecDepth 4000 in
set_option maxHeartbeats 4000000 in
theorem c_X11_letWay {l : Launch} {D : va_G} {c : Nat → ClassId} {H0 : Heap} {sa : Nat × Nat × (Nat → Int32)} {w : mW} {μ : mM} (hw : mWF w) (hT : mT w μ) : sC (gG l D c H0 sa) mX11_letWay 3 0 0 [.ref 0] (mk w μ) (qP w μ (fun z => ((-2147483648) ≤ z ∧ z ≤ 2147483647) ∧ True)) := by
  refine sC.of rfl (by decide) (le_t rfl) ?_
  refine mr_lvE (lv' := [(0, .ref 0)]) rfl ?_
  refine sv_aload_n (pc := 0) dX11_letWay_0 rfl rfl ?_
  refine gf_X11_3 (pc := 1) dX11_letWay_1 wF_X11_26 (A_0 hw) hT ?_
  refine sv_aload_n (pc := 4) dX11_letWay_4 rfl rfl ?_
  refine gf_X11_1 (pc := 5) dX11_letWay_5 wF_X11_13 (A_0 hw) hT ?_
  refine sv_aload_n (pc := 8) dX11_letWay_8 rfl rfl ?_
  refine gf_X11_11 (pc := 9) dX11_letWay_9 wF_X11_169 (A_0 hw) hT fun z1 q2 h3 => ?_
  refine mr_cVP (pc := 12) (c_X10_firstWrongStep hw hT (A_2 hw) h3) (gOk _ _ _ _ _) dX11_letWay_12 (tX10_firstWrongStep _ _ _ _ _) ⟨wV_X10_firstWrongStep, wL_X10_firstWrongStep⟩ wM_X11_172 (gCX10 _ _ _ _ _) rfl (A_6 hw) rfl ⟨le_t rfl, le_t rfl⟩ ⟨le_t rfl, le_t rfl⟩ rfl (le_t rfl) fun z8 h7 => ?_
  refine mr_iconst (pc := 15) (z := 1) dX11_letWay_15 ?_
  refine mr_iadd (pc := 16) (x := z8) (y := 1) dX11_letWay_16 ?_
  exact mr_iretP dX11_letWay_17 rfl (le_t rfl) (le_t rfl) ⟨(rW (c := (-2147483648)) (d := 2147483647) (rAdd (e := 0) (f := 20) h7.1 (rR (x := 1)) rfl) rfl), trivial⟩
set_option maxRecDepth 4000 in
set_option maxHeartbeats 4000000 in
theorem c_X11_verdict {l : Launch} {D : va_G} {c : Nat → ClassId} {H0 : Heap} {sa : Nat × Nat × (Nat → Int32)} {w : mW} {μ : mM} (hw : mWF w) (hT : mT w μ) {p1 : Int} (hp1 : (-2147483648) ≤ p1 ∧ p1 ≤ 2147483647) {p2 : Int} (hp2 : (-2147483648) ≤ p2 ∧ p2 ≤ 2147483647) {p3 : Int} (hp3 : (-2147483648) ≤ p3 ∧ p3 ≤ 2147483647) {p4 : Int} (hp4 : (-2147483648) ≤ p4 ∧ p4 ≤ 2147483647) : sC (gG l D c H0 sa) mX11_verdict 2 0 0 [.ref 0, iv p1, iv p2, iv p3, iv p4] (mk w μ) (qP w μ (fun z => ((-2147483648) ≤ z ∧ z ≤ 2147483647) ∧ True)) := by
  refine sC.of rfl (by decide) (le_t rfl) ?_
  refine mr_lvE (lv' := [(0, .ref 0), (1, iv p1), (2, iv p2), (3, iv p3), (4, iv p4)]) rfl ?_
  refine sv_aload_n (pc := 0) dX11_verdict_0 rfl rfl ?_
  refine mr_iload_n (pc := 1) (z := p1) dX11_verdict_1 rfl rfl ?_
  obtain ⟨z1, q2⟩ : ∃ z, μ 6 14 = z := ⟨_, rfl⟩
  have h3 : (0 ≤ z1 ∧ z1 ≤ 10) := by rw [← q2]; exact hT 6 6 (A_6 hw) 14
  refine mr_cVP (pc := 2) (c_X11_isPrefix hw hT hp1 q2) (gOk _ _ _ _ _) dX11_verdict_2 (tX11_isPrefix _ _ _ _ _) ⟨wV_X11_isPrefix, wL_X11_isPrefix⟩ wM_X11_182 (gCX11 _ _ _ _ _) rfl (A_0 hw) rfl ⟨le_t rfl, le_t rfl⟩ ⟨le_t rfl, le_t rfl⟩ rfl (le_t rfl) fun z8 h7 => ?_
  refine mr_if_eq (pc := 5) (tgt := 17) dX11_verdict_5 (by decide) (r32 h7.1 rfl) (fun h9 => ?_) (fun h9 => ?_)
  · have h10 : 0 ≤ z8 ∧ z8 ≤ 0 := (vc_X12_write_78 h9 h7.2.1 h7.2.2.1 hp1 h3 h7.1)
    have h11 : p1 < 0 ∨ z1 ≤ p1 := (h7.2.2.1 (vc_X12_write_79 h7.2.1 h7.2.2.1 h9 hp1 h3 h10))
    refine mr_iconst (pc := 17) (z := (-1)) dX11_verdict_17 ?_
    exact mr_iretP dX11_verdict_18 rfl (le_t rfl) (le_t rfl) ⟨(rW (c := (-2147483648)) (d := 2147483647) (rR (x := (-1))) rfl), trivial⟩
  have h12 : 1 ≤ z8 ∧ z8 ≤ 1 := (vc_X12_write_12 h9 h7.2.1 h7.2.2.1 hp1 h3 h7.1)
  have h13 : 0 ≤ p1 ∧ p1 < z1 := (h7.2.1 (vc_X12_write_13 h7.2.1 h7.2.2.1 h9 hp1 h3 h12))
  have h14 : 0 ≤ p1 ∧ p1 ≤ 9 := (vc_X12_write_14 h13 h7.2.1 h7.2.2.1 hp1 h3 h12)
  have h15 : 1 ≤ z1 ∧ z1 ≤ 10 := (vc_X12_write_15 h13 h7.2.1 h7.2.2.1 h14 h3 h12)
  refine mr_iload_n (pc := 8) (z := p3) dX11_verdict_8 rfl rfl ?_
  refine mr_if_lt (pc := 9) (tgt := 17) dX11_verdict_9 (by decide) hp3 (fun h16 => ?_) (fun h16 => ?_)
  · have h17 : (-2147483648) ≤ p3 ∧ p3 ≤ (-1) := (vc_X12_ring_60 h16 hp3)
    refine mr_iconst (pc := 17) (z := (-1)) dX11_verdict_17 ?_
    exact mr_iretP dX11_verdict_18 rfl (le_t rfl) (le_t rfl) ⟨(rW (c := (-2147483648)) (d := 2147483647) (rR (x := (-1))) rfl), trivial⟩
  have h18 : 0 ≤ p3 ∧ p3 ≤ 2147483647 := (vc_X12_ring_1 h16 hp3)
  refine mr_iload (pc := 12) (z := p4) dX11_verdict_12 rfl ?_
  refine mr_if_ge (pc := 14) (tgt := 19) dX11_verdict_14 (by decide) hp4 (fun h19 => ?_) (fun h19 => ?_)
  · have h20 : 0 ≤ p4 ∧ p4 ≤ 2147483647 := (vc_X12_ring_1 h19 hp4)
    refine sv_aload_n (pc := 19) dX11_verdict_19 rfl rfl ?_
    refine gf_X11_3 (pc := 20) dX11_verdict_20 wF_X11_26 (A_0 hw) hT ?_
    refine mr_iload_n (pc := 23) (z := p1) dX11_verdict_23 rfl rfl ?_
    refine mr_iload_n (pc := 24) (z := p2) dX11_verdict_24 rfl rfl ?_
    refine mr_iload_n (pc := 25) (z := p3) dX11_verdict_25 rfl rfl ?_
    refine mr_iload (pc := 26) (z := p4) dX11_verdict_26 rfl ?_
    refine mr_cVP (pc := 28) (c_X10_verdictOn hw hT h14 hp2 (rW (c := (-2147483648)) (d := 2147483647) h18 rfl) (rW (c := (-2147483648)) (d := 2147483647) h20 rfl)) (gOk _ _ _ _ _) dX11_verdict_28 (tX10_verdictOn _ _ _ _ _) ⟨wV_X10_verdictOn, wL_X10_verdictOn⟩ wM_X11_201 (gCX10 _ _ _ _ _) rfl (A_6 hw) rfl ⟨le_t rfl, le_t rfl⟩ ⟨le_t rfl, le_t rfl⟩ rfl (le_t rfl) fun z25 h24 => ?_
    exact mr_iretP dX11_verdict_31 rfl (le_t rfl) (le_t rfl) ⟨(rW (c := (-2147483648)) (d := 2147483647) h24.1 rfl), trivial⟩
  have h26 : (-2147483648) ≤ p4 ∧ p4 ≤ (-1) := (vc_X12_ring_60 h19 hp4)
  refine mr_iconst (pc := 17) (z := (-1)) dX11_verdict_17 ?_
  exact mr_iretP dX11_verdict_18 rfl (le_t rfl) (le_t rfl) ⟨(rW (c := (-2147483648)) (d := 2147483647) (rR (x := (-1))) rfl), trivial⟩
set_option maxRecDepth 4000 in
set_option maxHeartbeats 4000000 in
theorem c_X11_fault {l : Launch} {D : va_G} {c : Nat → ClassId} {H0 : Heap} {sa : Nat × Nat × (Nat → Int32)} {w : mW} {μ : mM} (hw : mWF w) (hT : mT w μ) : sC (gG l D c H0 sa) mX11_fault 1 0 0 [.ref 0] (mk w μ) (qP w μ (fun z => ((-2147483648) ≤ z ∧ z ≤ 2147483647) ∧ True)) := by
  refine sC.of rfl (by decide) (le_t rfl) ?_
  refine mr_lvE (lv' := [(0, .ref 0)]) rfl ?_
  refine sv_aload_n (pc := 0) dX11_fault_0 rfl rfl ?_
  refine gf_X11_5 (pc := 1) dX11_fault_1 wF_X11_42 (A_0 hw) hT ?_
  refine gf_X6_18 (pc := 4) dX11_fault_4 wF_X11_212 (A_23 hw) hT fun z1 q2 h3 => ?_
  exact mr_iretP dX11_fault_7 rfl (le_t rfl) (le_t rfl) ⟨(rW (c := (-2147483648)) (d := 2147483647) h3 rfl), trivial⟩
theorem vc_X11_rowInHand_1 {p1 : Int} (h0 : p1 < 10) (h1 : (-2147483648) ≤ p1 ∧ p1 ≤ 2147483647) : (-2147483648) ≤ p1 ∧ p1 ≤ 9 := by omega
theorem vc_X11_rowInHand_2 {p1 : Int} (h0 : 100 ≤ p1) (h1 : (-2147483648) ≤ p1 ∧ p1 ≤ 9) : False := by omega
theorem vc_X11_rowInHand_3 {p1 : Int} (h0 : 10 ≤ p1) (h1 : (-2147483648) ≤ p1 ∧ p1 ≤ 2147483647) : 10 ≤ p1 ∧ p1 ≤ 2147483647 := by omega
theorem vc_X11_rowInHand_4 {p1 z4 : Int} (h0 : p1 < 100) (h1 : 10 ≤ p1) (h2 : (10 + z4) ≤ p1) (h3 : 10 ≤ p1 ∧ p1 ≤ 2147483647) (h4 : 0 ≤ z4 ∧ z4 ≤ 20) : 10 ≤ p1 ∧ p1 ≤ 99 := by omega
theorem vc_X11_rowInHand_5 {p1 z4 : Int} (h0 : 100 ≤ p1) (h1 : 10 ≤ p1) (h2 : (10 + z4) ≤ p1) (h3 : 10 ≤ p1 ∧ p1 ≤ 2147483647) (h4 : 0 ≤ z4 ∧ z4 ≤ 20) : 100 ≤ p1 ∧ p1 ≤ 2147483647 := by omega
theorem vc_X11_rowInHand_6 {p1 z11 z4 : Int} (h0 : p1 < (100 + z11)) (h1 : 10 ≤ p1) (h2 : (10 + z4) ≤ p1) (h3 : 100 ≤ p1) (h4 : 100 ≤ p1 ∧ p1 ≤ 2147483647) (h5 : 0 ≤ z11 ∧ z11 ≤ 8) (h6 : 0 ≤ z4 ∧ z4 ≤ 20) : 100 ≤ p1 ∧ p1 ≤ 107 := by omega
theorem vc_X11_rowInHand_7 {p1 z11 z4 : Int} (h0 : p1 < (100 + z11)) (h1 : 10 ≤ p1) (h2 : (10 + z4) ≤ p1) (h3 : 100 ≤ p1) (h4 : 100 ≤ p1 ∧ p1 ≤ 107) (h5 : 0 ≤ z11 ∧ z11 ≤ 8) (h6 : 0 ≤ z4 ∧ z4 ≤ 20) : 1 ≤ z11 ∧ z11 ≤ 8 := by omega
theorem vc_X11_rowInHand_8 {p1 z4 : Int} (h0 : p1 < (10 + z4)) (h1 : 10 ≤ p1) (h2 : 10 ≤ p1 ∧ p1 ≤ 2147483647) (h3 : 0 ≤ z4 ∧ z4 ≤ 20) : 10 ≤ p1 ∧ p1 ≤ 29 := by omega
theorem vc_X11_rowInHand_9 {p1 z4 : Int} (h0 : p1 < (10 + z4)) (h1 : 10 ≤ p1) (h2 : 10 ≤ p1 ∧ p1 ≤ 29) (h3 : 0 ≤ z4 ∧ z4 ≤ 20) : 1 ≤ z4 ∧ z4 ≤ 20 := by omega
set_option maxRecDepth 4000 in
set_option maxHeartbeats 4000000 in
theorem c_X11_rowInHand {l : Launch} {D : va_G} {c : Nat → ClassId} {H0 : Heap} {sa : Nat × Nat × (Nat → Int32)} {w : mW} {μ : mM} (hw : mWF w) (hT : mT w μ) {p1 : Int} (hp1 : (-2147483648) ≤ p1 ∧ p1 ≤ 2147483647) : sC (gG l D c H0 sa) mX11_rowInHand 1 0 0 [.ref 0, iv p1] (mk w μ) (qP w μ (fun z => ((-2147483648) ≤ z ∧ z ≤ 2147483647) ∧ True)) := by
  refine sC.of rfl (by decide) (le_t rfl) ?_
  refine mr_lvE (lv' := [(0, .ref 0), (1, iv p1)]) rfl ?_
  refine mr_iload_n (pc := 0) (z := p1) dX11_rowInHand_0 rfl rfl ?_
  refine mr_bipush (pc := 1) (z := 10) dX11_rowInHand_1 (by decide) ?_
  refine mr_icmp_lt (pc := 3) (tgt := 33) dX11_rowInHand_3 (by decide) hp1 (r32 (rR (x := 10)) rfl) (fun h1 => ?_) (fun h1 => ?_)
  · have h2 : (-2147483648) ≤ p1 ∧ p1 ≤ 9 := (vc_X11_rowInHand_1 h1 hp1)
    refine mr_iload_n (pc := 33) (z := p1) dX11_rowInHand_33 rfl rfl ?_
    refine mr_bipush (pc := 34) (z := 100) dX11_rowInHand_34 (by decide) ?_
    refine mr_icmp_lt (pc := 36) (tgt := 66) dX11_rowInHand_36 (by decide) (r32 h2 rfl) (r32 (rR (x := 100)) rfl) (fun _ => ?_) (fun h => ((vc_X11_rowInHand_2 h h2)).elim)
    refine mr_ldc (pc := 66) (z := (-99999999)) dX11_rowInHand_66 wG_X11_165 (by decide) ?_
    exact mr_iretP dX11_rowInHand_68 rfl (le_t rfl) (le_t rfl) ⟨(rW (c := (-2147483648)) (d := 2147483647) (rR (x := (-99999999))) rfl), trivial⟩
  have h3 : 10 ≤ p1 ∧ p1 ≤ 2147483647 := (vc_X11_rowInHand_3 h1 hp1)
  refine mr_iload_n (pc := 6) (z := p1) dX11_rowInHand_6 rfl rfl ?_
  refine mr_bipush (pc := 7) (z := 10) dX11_rowInHand_7 (by decide) ?_
  refine sv_aload_n (pc := 9) dX11_rowInHand_9 rfl rfl ?_
  refine gf_X11_2 (pc := 10) dX11_rowInHand_10 wF_X11_19 (A_0 hw) hT ?_
  refine gf_X7_7 (pc := 13) dX11_rowInHand_13 wF_X11_245 (A_3 hw) hT fun z4 q5 h6 => ?_
  refine mr_iadd (pc := 16) (x := 10) (y := z4) dX11_rowInHand_16 ?_
  refine mr_icmp_ge (pc := 17) (tgt := 33) dX11_rowInHand_17 (by decide) (r32 h3 rfl) (r32 (rAdd (e := 10) (f := 30) (rR (x := 10)) h6 rfl) rfl) (fun h7 => ?_) (fun h7 => ?_)
  · refine mr_iload_n (pc := 33) (z := p1) dX11_rowInHand_33 rfl rfl ?_
    refine mr_bipush (pc := 34) (z := 100) dX11_rowInHand_34 (by decide) ?_
    refine mr_icmp_lt (pc := 36) (tgt := 66) dX11_rowInHand_36 (by decide) (r32 h3 rfl) (r32 (rR (x := 100)) rfl) (fun h8 => ?_) (fun h8 => ?_)
    · have h9 : 10 ≤ p1 ∧ p1 ≤ 99 := (vc_X11_rowInHand_4 h8 h1 h7 h3 h6)
      refine mr_ldc (pc := 66) (z := (-99999999)) dX11_rowInHand_66 wG_X11_165 (by decide) ?_
      exact mr_iretP dX11_rowInHand_68 rfl (le_t rfl) (le_t rfl) ⟨(rW (c := (-2147483648)) (d := 2147483647) (rR (x := (-99999999))) rfl), trivial⟩
    have h10 : 100 ≤ p1 ∧ p1 ≤ 2147483647 := (vc_X11_rowInHand_5 h8 h1 h7 h3 h6)
    refine mr_iload_n (pc := 39) (z := p1) dX11_rowInHand_39 rfl rfl ?_
    refine mr_bipush (pc := 40) (z := 100) dX11_rowInHand_40 (by decide) ?_
    refine sv_aload_n (pc := 42) dX11_rowInHand_42 rfl rfl ?_
    refine gf_X11_2 (pc := 43) dX11_rowInHand_43 wF_X11_19 (A_0 hw) hT ?_
    refine gf_X7_8 (pc := 46) dX11_rowInHand_46 wF_X11_262 (A_3 hw) hT fun z11 q12 h13 => ?_
    refine mr_iadd (pc := 49) (x := 100) (y := z11) dX11_rowInHand_49 ?_
    refine mr_icmp_ge (pc := 50) (tgt := 66) dX11_rowInHand_50 (by decide) (r32 h10 rfl) (r32 (rAdd (e := 100) (f := 108) (rR (x := 100)) h13 rfl) rfl) (fun h14 => ?_) (fun h14 => ?_)
    · refine mr_ldc (pc := 66) (z := (-99999999)) dX11_rowInHand_66 wG_X11_165 (by decide) ?_
      exact mr_iretP dX11_rowInHand_68 rfl (le_t rfl) (le_t rfl) ⟨(rW (c := (-2147483648)) (d := 2147483647) (rR (x := (-99999999))) rfl), trivial⟩
    have h15 : 100 ≤ p1 ∧ p1 ≤ 107 := (vc_X11_rowInHand_6 h14 h1 h7 h8 h10 h13 h6)
    have h16 : 1 ≤ z11 ∧ z11 ≤ 8 := (vc_X11_rowInHand_7 h14 h1 h7 h8 h15 h13 h6)
    refine sv_aload_n (pc := 53) dX11_rowInHand_53 rfl rfl ?_
    refine gf_X11_2 (pc := 54) dX11_rowInHand_54 wF_X11_19 (A_0 hw) hT ?_
    refine gf_X7_1 (pc := 57) dX11_rowInHand_57 wF_X11_268 (A_3 hw) hT fun A17 => ?_
    refine mr_iload_n (pc := 60) (z := p1) dX11_rowInHand_60 rfl rfl ?_
    refine mr_bipush (pc := 61) (z := 100) dX11_rowInHand_61 (by decide) ?_
    refine mr_isub (pc := 63) (x := p1) (y := 100) dX11_rowInHand_63 ?_
    refine la_202 (pc := 64) dX11_rowInHand_64 A17 hT (rIx (n := 8) (rSub (e := 0) (f := 7) h15 (rR (x := 100)) rfl) rfl) fun z18 q19 h20 => ?_
    exact mr_iretP dX11_rowInHand_65 rfl (le_t rfl) (le_t rfl) ⟨h20, trivial⟩
  have h21 : 10 ≤ p1 ∧ p1 ≤ 29 := (vc_X11_rowInHand_8 h7 h1 h3 h6)
  have h22 : 1 ≤ z4 ∧ z4 ≤ 20 := (vc_X11_rowInHand_9 h7 h1 h21 h6)
  refine sv_aload_n (pc := 20) dX11_rowInHand_20 rfl rfl ?_
  refine gf_X11_2 (pc := 21) dX11_rowInHand_21 wF_X11_19 (A_0 hw) hT ?_
  refine gf_X7_0 (pc := 24) dX11_rowInHand_24 wF_X11_236 (A_3 hw) hT fun A23 => ?_
  refine mr_iload_n (pc := 27) (z := p1) dX11_rowInHand_27 rfl rfl ?_
  refine mr_bipush (pc := 28) (z := 10) dX11_rowInHand_28 (by decide) ?_
  refine mr_isub (pc := 30) (x := p1) (y := 10) dX11_rowInHand_30 ?_
  refine la_201 (pc := 31) dX11_rowInHand_31 A23 hT (rIx (n := 20) (rSub (e := 0) (f := 19) h21 (rR (x := 10)) rfl) rfl) fun z24 q25 h26 => ?_
  exact mr_iretP dX11_rowInHand_32 rfl (le_t rfl) (le_t rfl) ⟨h26, trivial⟩
theorem vc_X11_hand_8 {p1 : Int} (h0 : ¬ p1 = 0) (h1 : ¬ p1 = 1) (h2 : ¬ p1 = 2) (h3 : ¬ p1 = 3) (h4 : ¬ p1 = 4) (h5 : ¬ p1 = 5) (h6 : (-2147483648) ≤ p1 ∧ p1 ≤ 2147483647) : p1 < 0 ∨ 5 < p1 := by omega
set_option maxRecDepth 4000 in
set_option maxHeartbeats 4000000 in
theorem c_X11_hand {l : Launch} {D : va_G} {c : Nat → ClassId} {H0 : Heap} {sa : Nat × Nat × (Nat → Int32)} {w : mW} {μ : mM} (hw : mWF w) (hT : mT w μ) {p1 : Int} (hp1 : (-2147483648) ≤ p1 ∧ p1 ≤ 2147483647) : sC (gG l D c H0 sa) mX11_hand 2 0 0 [.ref 0, iv p1] (mk w μ) (qP w μ (fun z => ((-2147483648) ≤ z ∧ z ≤ 2147483647) ∧ True)) := by
  refine sC.of rfl (by decide) (le_t rfl) ?_
  refine mr_lvE (lv' := [(0, .ref 0), (1, iv p1)]) rfl ?_
  refine sv_aload_n (pc := 0) dX11_hand_0 rfl rfl ?_
  refine gf_X11_2 (pc := 1) dX11_hand_1 wF_X11_19 (A_0 hw) hT ?_
  refine gf_X7_2 (pc := 4) dX11_hand_4 wF_X11_246 (A_3 hw) hT fun z1 q2 h3 => ?_
  refine mr_if_ne (pc := 7) (tgt := 13) dX11_hand_7 (by decide) (r32 h3 rfl) (fun h4 => ?_) (fun h4 => ?_)
  · have h5 : 1 ≤ z1 ∧ z1 ≤ 1 := (vc_X12_ring_24 h4 h3)
    refine mr_iload_n (pc := 13) (z := p1) dX11_hand_13 rfl rfl ?_
    by_cases h6 : p1 = 0
    · refine mr_tableIn (pc := 14) (v := 0) (tgt := 52) dX11_hand_14 h6 rfl rfl (by decide) ?_
      have h7 : 0 ≤ p1 ∧ p1 ≤ 0 := (vc_X12_mask_1 h6 hp1)
      refine sv_aload_n (pc := 52) dX11_hand_52 rfl rfl ?_
      refine gf_X11_2 (pc := 53) dX11_hand_53 wF_X11_19 (A_0 hw) hT ?_
      refine gf_X7_3 (pc := 56) dX11_hand_56 wF_X11_256 (A_3 hw) hT fun z8 q9 h10 => ?_
      exact mr_iretP dX11_hand_59 rfl (le_t rfl) (le_t rfl) ⟨(rW (c := (-2147483648)) (d := 2147483647) h10 rfl), trivial⟩
    by_cases h11 : p1 = 1
    · refine mr_tableIn (pc := 14) (v := 1) (tgt := 60) dX11_hand_14 h11 rfl rfl (by decide) ?_
      have h12 : 1 ≤ p1 ∧ p1 ≤ 1 := (vc_X12_count_4 h11 h6 hp1)
      refine sv_aload_n (pc := 60) dX11_hand_60 rfl rfl ?_
      refine gf_X11_2 (pc := 61) dX11_hand_61 wF_X11_19 (A_0 hw) hT ?_
      refine gf_X7_4 (pc := 64) dX11_hand_64 wF_X11_230 (A_3 hw) hT fun z13 q14 h15 => ?_
      exact mr_iretP dX11_hand_67 rfl (le_t rfl) (le_t rfl) ⟨h15, trivial⟩
    by_cases h16 : p1 = 2
    · refine mr_tableIn (pc := 14) (v := 2) (tgt := 68) dX11_hand_14 h16 rfl rfl (by decide) ?_
      have h17 : 2 ≤ p1 ∧ p1 ≤ 2 := (vc_X12_count_5 h16 h6 h11 hp1)
      refine sv_aload_n (pc := 68) dX11_hand_68 rfl rfl ?_
      refine gf_X11_2 (pc := 69) dX11_hand_69 wF_X11_19 (A_0 hw) hT ?_
      refine gf_X7_5 (pc := 72) dX11_hand_72 wF_X11_259 (A_3 hw) hT fun z18 q19 h20 => ?_
      exact mr_iretP dX11_hand_75 rfl (le_t rfl) (le_t rfl) ⟨h20, trivial⟩
    by_cases h21 : p1 = 3
    · refine mr_tableIn (pc := 14) (v := 3) (tgt := 76) dX11_hand_14 h21 rfl rfl (by decide) ?_
      have h22 : 3 ≤ p1 ∧ p1 ≤ 3 := (vc_X12_count_6 h21 h6 h11 h16 hp1)
      refine sv_aload_n (pc := 76) dX11_hand_76 rfl rfl ?_
      refine gf_X11_2 (pc := 77) dX11_hand_77 wF_X11_19 (A_0 hw) hT ?_
      refine gf_X7_6 (pc := 80) dX11_hand_80 wF_X11_233 (A_3 hw) hT fun z23 q24 h25 => ?_
      exact mr_iretP dX11_hand_83 rfl (le_t rfl) (le_t rfl) ⟨h25, trivial⟩
    by_cases h26 : p1 = 4
    · refine mr_tableIn (pc := 14) (v := 4) (tgt := 84) dX11_hand_14 h26 rfl rfl (by decide) ?_
      have h27 : 4 ≤ p1 ∧ p1 ≤ 4 := (vc_X12_count_7 h26 h6 h11 h16 h21 hp1)
      refine sv_aload_n (pc := 84) dX11_hand_84 rfl rfl ?_
      refine gf_X11_2 (pc := 85) dX11_hand_85 wF_X11_19 (A_0 hw) hT ?_
      refine gf_X7_7 (pc := 88) dX11_hand_88 wF_X11_245 (A_3 hw) hT fun z28 q29 h30 => ?_
      exact mr_iretP dX11_hand_91 rfl (le_t rfl) (le_t rfl) ⟨(rW (c := (-2147483648)) (d := 2147483647) h30 rfl), trivial⟩
    by_cases h31 : p1 = 5
    · refine mr_tableIn (pc := 14) (v := 5) (tgt := 92) dX11_hand_14 h31 rfl rfl (by decide) ?_
      have h32 : 5 ≤ p1 ∧ p1 ≤ 5 := (vc_X12_count_8 h31 h6 h11 h16 h21 h26 hp1)
      refine sv_aload_n (pc := 92) dX11_hand_92 rfl rfl ?_
      refine gf_X11_2 (pc := 93) dX11_hand_93 wF_X11_19 (A_0 hw) hT ?_
      refine gf_X7_8 (pc := 96) dX11_hand_96 wF_X11_262 (A_3 hw) hT fun z33 q34 h35 => ?_
      exact mr_iretP dX11_hand_99 rfl (le_t rfl) (le_t rfl) ⟨(rW (c := (-2147483648)) (d := 2147483647) h35 rfl), trivial⟩
    refine mr_tableOut (pc := 14) (tgt := 100) dX11_hand_14 hp1 (vc_X11_hand_8 h6 h11 h16 h21 h26 h31 hp1) (by decide) ?_
    refine sv_aload_n (pc := 100) dX11_hand_100 rfl rfl ?_
    refine mr_iload_n (pc := 101) (z := p1) dX11_hand_101 rfl rfl ?_
    refine mr_cVP (pc := 102) (c_X11_rowInHand hw hT hp1) (gOk _ _ _ _ _) dX11_hand_102 (tX11_rowInHand _ _ _ _ _) ⟨wV_X11_rowInHand, wL_X11_rowInHand⟩ wM_X11_265 (gCX11 _ _ _ _ _) rfl (A_0 hw) rfl ⟨le_t rfl, le_t rfl⟩ ⟨le_t rfl, le_t rfl⟩ rfl (le_t rfl) fun z40 h39 => ?_
    exact mr_iretP dX11_hand_105 rfl (le_t rfl) (le_t rfl) ⟨h39.1, trivial⟩
  have h41 : 0 ≤ z1 ∧ z1 ≤ 0 := (vc_X12_ring_22 h4 h3)
  refine mr_ldc (pc := 10) (z := (-99999999)) dX11_hand_10 wG_X11_165 (by decide) ?_
  exact mr_iretP dX11_hand_12 rfl (le_t rfl) (le_t rfl) ⟨(rW (c := (-2147483648)) (d := 2147483647) (rR (x := (-99999999))) rfl), trivial⟩
theorem vc_X2_tieFor_3 {n1 z248 : Int} (h0 : 0 ≤ z248 → z248 < n1) (h1 : (-99999999) ≤ z248 ∧ z248 ≤ 19) (h2 : z248 = (-99999999) ∨ z248 = (-4) ∨ (0 ≤ z248 ∧ z248 ≤ 19)) : z248 = -99999999 ∨ z248 = -4 ∨ (0 ≤ z248 ∧ z248 ≤ 19) := by omega
theorem vc_X2_tieFor_4 {n1 z248 : Int} (h0 : 0 ≤ z248 → z248 < n1) (h1 : (-99999999) ≤ z248 ∧ z248 ≤ 19) (h2 : z248 = (-99999999) ∨ z248 = (-4) ∨ (0 ≤ z248 ∧ z248 ≤ 19)) : 0 ≤ z248 → z248 < n1 := by omega
theorem vc_X2_tieFor_9 {n1 z248 : Int} (h0 : 0 ≤ z248 → z248 < n1) (h1 : (-99999999) ≤ z248 ∧ z248 ≤ 19) (h2 : z248 = (-99999999) ∨ z248 = (-4) ∨ (0 ≤ z248 ∧ z248 ≤ 19)) : z248 = (-99999999) ∨ z248 = (-4) ∨ (0 ≤ z248 ∧ z248 ≤ 19) := by omega
theorem vc_X2_tieFor_12 {n1 z326 : Int} (h0 : z326 = (-99999999)) (h1 : (0 ≤ z326 → z326 < n1)) (h2 : (-99999999) ≤ z326 ∧ z326 ≤ 19) (h3 : z326 = -99999999 ∨ z326 = -4 ∨ (0 ≤ z326 ∧ z326 ≤ 19)) : (-99999999) ≤ z326 ∧ z326 ≤ (-99999999) := by omega
theorem vc_X2_tieFor_13 {n1 z248 z326 : Int} (h0 : 0 ≤ z248 → z248 < n1) (h1 : (0 ≤ z326 → z326 < n1)) (h2 : z326 = (-99999999)) (h3 : (-99999999) ≤ z248 ∧ z248 ≤ 19) (h4 : z248 = (-99999999) ∨ z248 = (-4) ∨ (0 ≤ z248 ∧ z248 ≤ 19)) (h5 : (-99999999) ≤ z326 ∧ z326 ≤ (-99999999)) (h6 : z326 = -99999999 ∨ z326 = -4 ∨ (0 ≤ z326 ∧ z326 ≤ 19)) : 0 ≤ z248 → z248 < n1 := by omega
theorem vc_X2_tieFor_14 {n1 z248 z326 : Int} (h0 : 0 ≤ z248 → z248 < n1) (h1 : (0 ≤ z326 → z326 < n1)) (h2 : (-99999999) ≤ z248 ∧ z248 ≤ 19) (h3 : z248 = (-99999999) ∨ z248 = (-4) ∨ (0 ≤ z248 ∧ z248 ≤ 19)) (h4 : (-99999999) ≤ z326 ∧ z326 ≤ (-99999999)) (h5 : z326 = -99999999 ∨ z326 = -4 ∨ (0 ≤ z326 ∧ z326 ≤ 19)) : z248 = (-99999999) ∨ z248 = (-4) ∨ (0 ≤ z248 ∧ z248 ≤ 19) := by omega
theorem vc_X2_tieFor_15 {n1 z326 : Int} (h0 : ¬ z326 = (-99999999)) (h1 : (0 ≤ z326 → z326 < n1)) (h2 : (-99999999) ≤ z326 ∧ z326 ≤ 19) (h3 : z326 = -99999999 ∨ z326 = -4 ∨ (0 ≤ z326 ∧ z326 ≤ 19)) : (-4) ≤ z326 ∧ z326 ≤ 19 := by omega
theorem vc_X2_tieFor_16 {z249 z341 : Int} (h0 : z341 ≤ z249) (h1 : (-1) ≤ z249 ∧ z249 ≤ 32) (h2 : 0 ≤ z341 ∧ z341 ≤ 32) : 0 ≤ z249 ∧ z249 ≤ 32 := by omega
theorem vc_X2_tieFor_17 {n1 z248 z326 : Int} (h0 : 0 ≤ z248 → z248 < n1) (h1 : (0 ≤ z326 → z326 < n1)) (h2 : ¬ z326 = (-99999999)) (h3 : (-99999999) ≤ z248 ∧ z248 ≤ 19) (h4 : z248 = (-99999999) ∨ z248 = (-4) ∨ (0 ≤ z248 ∧ z248 ≤ 19)) (h5 : (-4) ≤ z326 ∧ z326 ≤ 19) (h6 : z326 = -99999999 ∨ z326 = -4 ∨ (0 ≤ z326 ∧ z326 ≤ 19)) : 0 ≤ z248 → z248 < n1 := by omega
theorem vc_X2_tieFor_18 {n1 z248 z326 : Int} (h0 : 0 ≤ z248 → z248 < n1) (h1 : (0 ≤ z326 → z326 < n1)) (h2 : (-99999999) ≤ z248 ∧ z248 ≤ 19) (h3 : z248 = (-99999999) ∨ z248 = (-4) ∨ (0 ≤ z248 ∧ z248 ≤ 19)) (h4 : (-4) ≤ z326 ∧ z326 ≤ 19) (h5 : z326 = -99999999 ∨ z326 = -4 ∨ (0 ≤ z326 ∧ z326 ≤ 19)) : z248 = (-99999999) ∨ z248 = (-4) ∨ (0 ≤ z248 ∧ z248 ≤ 19) := by omega
theorem vc_X2_tieFor_19 {z249 z341 : Int} (h0 : z249 < z341) (h1 : (-1) ≤ z249 ∧ z249 ≤ 32) (h2 : 0 ≤ z341 ∧ z341 ≤ 32) : (-1) ≤ z249 ∧ z249 ≤ 31 := by omega
theorem vc_X2_tieFor_20 {n1 z248 z326 : Int} (h0 : 0 ≤ z248 → z248 < n1) (h1 : (0 ≤ z326 → z326 < n1)) (h2 : ¬ z326 = (-99999999)) (h3 : (-99999999) ≤ z248 ∧ z248 ≤ 19) (h4 : z248 = (-99999999) ∨ z248 = (-4) ∨ (0 ≤ z248 ∧ z248 ≤ 19)) (h5 : (-4) ≤ z326 ∧ z326 ≤ 19) (h6 : z326 = -99999999 ∨ z326 = -4 ∨ (0 ≤ z326 ∧ z326 ≤ 19)) : 0 ≤ z326 → z326 < n1 := by omega
theorem vc_X2_tieFor_21 {n1 z248 z326 : Int} (h0 : (0 ≤ z326 → z326 < n1)) (h1 : ¬ z326 = (-99999999)) (h2 : 0 ≤ z248 → z248 < n1) (h3 : (-99999999) ≤ z248 ∧ z248 ≤ 19) (h4 : z248 = (-99999999) ∨ z248 = (-4) ∨ (0 ≤ z248 ∧ z248 ≤ 19)) (h5 : (-4) ≤ z326 ∧ z326 ≤ 19) (h6 : z326 = -99999999 ∨ z326 = -4 ∨ (0 ≤ z326 ∧ z326 ≤ 19)) : z326 = (-99999999) ∨ z326 = (-4) ∨ (0 ≤ z326 ∧ z326 ≤ 19) := by omega
theorem vc_X2_tieFor_22 {n1 : Int}  : 0 ≤ ((-99999999) : Int) → ((-99999999) : Int) < n1 := by omega
theorem vc_X2_tieFor_24  : (((-99999999) : Int) : Int) = ((-99999999) : Int) ∨ (((-99999999) : Int) : Int) = ((-4) : Int) ∨ ((0 : Int) ≤ (((-99999999) : Int) : Int) ∧ (((-99999999) : Int) : Int) ≤ (19 : Int)) := by omega
set_option maxRecDepth 4000 in
set_option maxHeartbeats 4000000 in
theorem c_X2_tieFor {l : Launch} {D : va_G} {c : Nat → ClassId} {H0 : Heap} {sa : Nat × Nat × (Nat → Int32)} {w : mW} {μ : mM} (hw : mWF w) (hT : mT w μ) {p1 : Int} (hp1 : 0 ≤ p1 ∧ p1 ≤ 9) {p2 : Int} (hp2 : (-2147483648) ≤ p2 ∧ p2 ≤ 2147483647) (hq0 : p1 < w.2.2.2 0) : sC (gG l D c H0 sa) mX2_tieFor 1 0 0 [.ref 87, iv p1, iv p2] (mk w μ) (qP w μ (fun z => ((-99999999) ≤ z ∧ z ≤ 19) ∧ (z = -99999999 ∨ z = -4 ∨ (0 ≤ z ∧ z ≤ 19)) ∧ (0 ≤ z → z < w.2.2.2 1) ∧ True)) := by
  refine sC.of rfl (by decide) (le_t rfl) ?_
  refine mr_lvE (lv' := [(0, .ref 87), (1, iv p1), (2, iv p2)]) rfl ?_
  refine sv_aload_n (pc := 0) dX2_tieFor_0 rfl rfl ?_
  refine gf_X2_0 (pc := 1) dX2_tieFor_1 wF_X2_9 (A_87 hw) hT ?_
  refine gf_X10_3 (pc := 4) dX2_tieFor_4 wF_X2_35 (A_6 hw) hT ?_
  refine mr_iload_n (pc := 7) (z := p1) dX2_tieFor_7 rfl rfl ?_
  refine la_10 (pc := 8) dX2_tieFor_8 (A_10 hw) hT (rIx (n := 10) hp1 rfl) (vc_X9_end_1 hq0 hp1) fun b1 q2 A3 => ?_
  refine mr_astore_n (pc := 9) (lv' := [(3, .ref b1), (0, .ref 87), (1, iv p1), (2, iv p2)]) dX2_tieFor_9 rfl (by decide) rfl ?_
  refine mr_iconst (pc := 10) (z := (-1)) dX2_tieFor_10 ?_
  refine mr_istore (pc := 11) (lv' := [(4, iv (-1)), (3, .ref b1), (0, .ref 87), (1, iv p1), (2, iv p2)]) dX2_tieFor_11 (by decide) rfl ?_
  refine mr_ldc (pc := 13) (z := (-99999999)) dX2_tieFor_13 wG_X2_41 (by decide) ?_
  refine mr_istore (pc := 15) (lv' := [(5, iv (-99999999)), (4, iv (-1)), (3, .ref b1), (0, .ref 87), (1, iv p1), (2, iv p2)]) dX2_tieFor_15 (by decide) rfl ?_
  refine mr_iconst (pc := 17) (z := 0) dX2_tieFor_17 ?_
  refine mr_istore (pc := 18) (lv' := [(6, iv 0), (5, iv (-99999999)), (4, iv (-1)), (3, .ref b1), (0, .ref 87), (1, iv p1), (2, iv p2)]) dX2_tieFor_18 (by decide) rfl ?_
  have L250 : ∀ (nL250 : Nat) (z249 z248 z247 : Int), True → ((-1) ≤ z249 ∧ z249 ≤ 32) → ((-99999999) ≤ z248 ∧ z248 ≤ 19) → (0 ≤ z247 ∧ z247 ≤ 10) → (0 ≤ z248 → z248 < w.2.2.2 1) → (z248 = (-99999999) ∨ z248 = (-4) ∨ (0 ≤ z248 ∧ z248 ≤ 19)) → (11 - z247) < (nL250 : Int) → sV (gG l D c H0 sa) mX2_tieFor (sRm 1 0 0) (sZ (gG l D c H0 sa) 0 0 (qP w μ (fun z => ((-99999999) ≤ z ∧ z ≤ 19) ∧ (z = -99999999 ∨ z = -4 ∨ (0 ≤ z ∧ z ≤ 19)) ∧ (0 ≤ z → z < w.2.2.2 1) ∧ True))) 20 [(0, .ref 87), (2, iv p2), (3, .ref b1), (4, iv z249), (5, iv z248), (6, iv z247)] [] (mk w μ) 0 0 := by
    intro nL250
    induction nL250 with
    | zero => intro z249 z248 z247 _ h251 h252 h253 h257 h258 h259; exact ((vc_X12_ring_2 h259 h253)).elim
    | succ nL250 ih260 =>
      intro z249 z248 z247 _ h251 h252 h253 h257 h258 h259
      refine mr_iload (pc := 20) (z := z247) dX2_tieFor_20 rfl ?_
      refine sv_aload_n (pc := 22) dX2_tieFor_22 rfl rfl ?_
      refine gf_X2_0 (pc := 23) dX2_tieFor_23 wF_X2_9 (A_87 hw) hT ?_
      refine gf_X10_14 (pc := 26) dX2_tieFor_26 wF_X2_42 (A_6 hw) hT fun z261 q262 h263 => ?_
      refine mr_icmp_ge (pc := 29) (tgt := 123) dX2_tieFor_29 (by decide) (r32 h253 rfl) (r32 h263 rfl) (fun h292 => ?_) (fun h292 => ?_)
      · refine mr_iload (pc := 123) (z := z248) dX2_tieFor_123 rfl ?_
        exact mr_iretP dX2_tieFor_125 rfl (le_t rfl) (le_t rfl) ⟨h252, (vc_X2_tieFor_3 h257 h252 h258), (vc_X2_tieFor_4 h257 h252 h258), trivial⟩
      have h293 : 0 ≤ z247 ∧ z247 ≤ 9 := (vc_X12_ring_3 h292 h253 h263)
      have h294 : 1 ≤ z261 ∧ z261 ≤ 10 := (vc_X12_ring_4 h292 h293 h263)
      refine mr_iload_n (pc := 32) (z := p2) dX2_tieFor_32 rfl rfl ?_
      refine sv_aload_n (pc := 33) dX2_tieFor_33 rfl rfl ?_
      refine gf_X2_0 (pc := 34) dX2_tieFor_34 wF_X2_9 (A_87 hw) hT ?_
      refine gf_X10_2 (pc := 37) dX2_tieFor_37 wF_X2_46 (A_6 hw) hT ?_
      refine mr_iload (pc := 40) (z := z247) dX2_tieFor_40 rfl ?_
      refine la_9 (pc := 42) dX2_tieFor_42 (A_9 hw) hT (rIx (n := 10) h293 rfl) fun z295 q296 h297 => ?_
      refine mr_iand (pc := 43) (x := p2) (y := z295) dX2_tieFor_43 ?_
      refine mr_gen (P := fun z => (-2147483648) ≤ z ∧ z ≤ 2147483647) (r32i _) fun z298 q299 h300 => ?_
      refine sv_aload_n (pc := 44) dX2_tieFor_44 rfl rfl ?_
      refine gf_X2_0 (pc := 45) dX2_tieFor_45 wF_X2_9 (A_87 hw) hT ?_
      refine gf_X10_0 (pc := 48) dX2_tieFor_48 wF_X2_49 (A_6 hw) hT ?_
      refine mr_iload (pc := 51) (z := z247) dX2_tieFor_51 rfl ?_
      refine la_7 (pc := 53) dX2_tieFor_53 (A_7 hw) hT (rIx (n := 10) h293 rfl) fun z301 q302 h303 => ?_
      have J306 : ∀ (z304 : Int), ((0 ≤ z304 ∧ z304 ≤ 1)) → sV (gG l D c H0 sa) mX2_tieFor (sRm 1 0 0) (sZ (gG l D c H0 sa) 0 0 (qP w μ (fun z => ((-99999999) ≤ z ∧ z ≤ 19) ∧ (z = -99999999 ∨ z = -4 ∨ (0 ≤ z ∧ z ≤ 19)) ∧ (0 ≤ z → z < w.2.2.2 1) ∧ True))) 62 [(0, .ref 87), (2, iv p2), (3, .ref b1), (4, iv z249), (5, iv z248), (6, iv z247)] [iv z304] (mk w μ) 0 0 := by
        intro z304 h305
        refine mr_istore (pc := 62) (lv' := [(7, iv z304), (0, .ref 87), (2, iv p2), (3, .ref b1), (4, iv z249), (5, iv z248), (6, iv z247)]) dX2_tieFor_62 (by decide) rfl ?_
        refine mr_iload (pc := 64) (z := z304) dX2_tieFor_64 rfl ?_
        refine mr_if_eq (pc := 66) (tgt := 117) dX2_tieFor_66 (by decide) (r32 h305 rfl) (fun h322 => ?_) (fun h322 => ?_)
        · have h323 : 0 ≤ z304 ∧ z304 ≤ 0 := (vc_X12_ring_22 h322 h305)
          refine mr_iinc (pc := 117) (lv' := [(6, iv (z247 + 1)), (7, iv z304), (0, .ref 87), (2, iv p2), (3, .ref b1), (4, iv z249), (5, iv z248)]) dX2_tieFor_117 rfl (by decide) rfl ?_
          refine sv_goto (pc := 120) (tgt := 20) dX2_tieFor_120 (by decide) ?_
          refine mr_lvS (lv' := [(0, .ref 87), (2, iv p2), (3, .ref b1), (4, iv z249), (5, iv z248), (6, iv (z247 + 1))]) (List.forall_mem_cons.mpr ⟨rfl, List.forall_mem_cons.mpr ⟨rfl, List.forall_mem_cons.mpr ⟨rfl, List.forall_mem_cons.mpr ⟨rfl, List.forall_mem_cons.mpr ⟨rfl, List.forall_mem_cons.mpr ⟨rfl, fun _ h => absurd h List.not_mem_nil⟩⟩⟩⟩⟩⟩) ?_
          exact ih260 z249 z248 (z247 + 1) trivial h251 h252 (rW (c := 0) (d := 10) (rAdd (e := 1) (f := 10) h293 (rR (x := 1)) rfl) rfl) (vc_X2_tieFor_4 h257 h252 h258) (vc_X2_tieFor_9 h257 h252 h258) (vc_X12_sends_11 (nS h259) h292 h293 h294)
        have h324 : 1 ≤ z304 ∧ z304 ≤ 1 := (vc_X12_ring_24 h322 h305)
        refine sv_aload_n (pc := 69) dX2_tieFor_69 rfl rfl ?_
        refine gf_X0_2 (pc := 70) dX2_tieFor_70 wF_X2_52 A3 hT fun A325 => ?_
        refine mr_iload (pc := 73) (z := z247) dX2_tieFor_73 rfl ?_
        refine la_213 (pc := 75) dX2_tieFor_75 A325 hT (rIx (n := 10) h293 rfl) fun z326 q327 h328 => ?_
        have h329 : (-99999999) ≤ z326 ∧ z326 ≤ 19 := (vc_X12_sends_3 h328.1)
        refine mr_ldc (pc := 76) (z := (-99999999)) dX2_tieFor_76 wG_X2_41 (by decide) ?_
        refine mr_icmp_eq (pc := 78) (tgt := 117) dX2_tieFor_78 (by decide) (r32 h329 rfl) (r32 (rR (x := (-99999999))) rfl) (fun h338 => ?_) (fun h338 => ?_)
        · have h339 : (-99999999) ≤ z326 ∧ z326 ≤ (-99999999) := (vc_X2_tieFor_12 h338 h328.2 h329 h328.1)
          refine mr_iinc (pc := 117) (lv' := [(6, iv (z247 + 1)), (7, iv z304), (0, .ref 87), (2, iv p2), (3, .ref b1), (4, iv z249), (5, iv z248)]) dX2_tieFor_117 rfl (by decide) rfl ?_
          refine sv_goto (pc := 120) (tgt := 20) dX2_tieFor_120 (by decide) ?_
          refine mr_lvS (lv' := [(0, .ref 87), (2, iv p2), (3, .ref b1), (4, iv z249), (5, iv z248), (6, iv (z247 + 1))]) (List.forall_mem_cons.mpr ⟨rfl, List.forall_mem_cons.mpr ⟨rfl, List.forall_mem_cons.mpr ⟨rfl, List.forall_mem_cons.mpr ⟨rfl, List.forall_mem_cons.mpr ⟨rfl, List.forall_mem_cons.mpr ⟨rfl, fun _ h => absurd h List.not_mem_nil⟩⟩⟩⟩⟩⟩) ?_
          exact ih260 z249 z248 (z247 + 1) trivial h251 h252 (rW (c := 0) (d := 10) (rAdd (e := 1) (f := 10) h293 (rR (x := 1)) rfl) rfl) (vc_X2_tieFor_13 h257 h328.2 h338 h252 h258 h339 h328.1) (vc_X2_tieFor_14 h257 h328.2 h252 h258 h339 h328.1) (vc_X12_sends_11 (nS h259) h292 h293 h294)
        have h340 : (-4) ≤ z326 ∧ z326 ≤ 19 := (vc_X2_tieFor_15 h338 h328.2 h329 h328.1)
        refine sv_aload_n (pc := 81) dX2_tieFor_81 rfl rfl ?_
        refine gf_X2_0 (pc := 82) dX2_tieFor_82 wF_X2_9 (A_87 hw) hT ?_
        refine gf_X10_1 (pc := 85) dX2_tieFor_85 wF_X2_57 (A_6 hw) hT ?_
        refine mr_iload (pc := 88) (z := z247) dX2_tieFor_88 rfl ?_
        refine la_8 (pc := 90) dX2_tieFor_90 (A_8 hw) hT (rIx (n := 10) h293 rfl) fun z341 q342 h343 => ?_
        refine mr_iload (pc := 91) (z := z249) dX2_tieFor_91 rfl ?_
        refine mr_icmp_le (pc := 93) (tgt := 117) dX2_tieFor_93 (by decide) (r32 h343 rfl) (r32 h251 rfl) (fun h347 => ?_) (fun h347 => ?_)
        · have h348 : 0 ≤ z249 ∧ z249 ≤ 32 := (vc_X2_tieFor_16 h347 h251 h343)
          refine mr_iinc (pc := 117) (lv' := [(6, iv (z247 + 1)), (7, iv z304), (0, .ref 87), (2, iv p2), (3, .ref b1), (4, iv z249), (5, iv z248)]) dX2_tieFor_117 rfl (by decide) rfl ?_
          refine sv_goto (pc := 120) (tgt := 20) dX2_tieFor_120 (by decide) ?_
          refine mr_lvS (lv' := [(0, .ref 87), (2, iv p2), (3, .ref b1), (4, iv z249), (5, iv z248), (6, iv (z247 + 1))]) (List.forall_mem_cons.mpr ⟨rfl, List.forall_mem_cons.mpr ⟨rfl, List.forall_mem_cons.mpr ⟨rfl, List.forall_mem_cons.mpr ⟨rfl, List.forall_mem_cons.mpr ⟨rfl, List.forall_mem_cons.mpr ⟨rfl, fun _ h => absurd h List.not_mem_nil⟩⟩⟩⟩⟩⟩) ?_
          exact ih260 z249 z248 (z247 + 1) trivial (rW (c := (-1)) (d := 32) h348 rfl) h252 (rW (c := 0) (d := 10) (rAdd (e := 1) (f := 10) h293 (rR (x := 1)) rfl) rfl) (vc_X2_tieFor_17 h257 h328.2 h338 h252 h258 h340 h328.1) (vc_X2_tieFor_18 h257 h328.2 h252 h258 h340 h328.1) (vc_X12_sends_11 (nS h259) h292 h293 h294)
        have h349 : (-1) ≤ z249 ∧ z249 ≤ 31 := (vc_X2_tieFor_19 h347 h251 h343)
        refine sv_aload_n (pc := 96) dX2_tieFor_96 rfl rfl ?_
        refine gf_X2_0 (pc := 97) dX2_tieFor_97 wF_X2_9 (A_87 hw) hT ?_
        refine gf_X10_1 (pc := 100) dX2_tieFor_100 wF_X2_57 (A_6 hw) hT ?_
        refine mr_iload (pc := 103) (z := z247) dX2_tieFor_103 rfl ?_
        refine lk_8 (pc := 105) dX2_tieFor_105 (A_8 hw) (rIx (n := 10) h293 rfl) q342 ?_
        refine mr_istore (pc := 106) (lv' := [(4, iv z341), (7, iv z304), (0, .ref 87), (2, iv p2), (3, .ref b1), (5, iv z248), (6, iv z247)]) dX2_tieFor_106 (by decide) rfl ?_
        refine sv_aload_n (pc := 108) dX2_tieFor_108 rfl rfl ?_
        refine gf_X0_2 (pc := 109) dX2_tieFor_109 wF_X2_52 A3 hT fun A350 => ?_
        refine mr_iload (pc := 112) (z := z247) dX2_tieFor_112 rfl ?_
        refine lk_213 (pc := 114) dX2_tieFor_114 A350 (rIx (n := 10) h293 rfl) q327 ?_
        refine mr_istore (pc := 115) (lv' := [(5, iv z326), (4, iv z341), (7, iv z304), (0, .ref 87), (2, iv p2), (3, .ref b1), (6, iv z247)]) dX2_tieFor_115 (by decide) rfl ?_
        refine mr_iinc (pc := 117) (lv' := [(6, iv (z247 + 1)), (5, iv z326), (4, iv z341), (7, iv z304), (0, .ref 87), (2, iv p2), (3, .ref b1)]) dX2_tieFor_117 rfl (by decide) rfl ?_
        refine sv_goto (pc := 120) (tgt := 20) dX2_tieFor_120 (by decide) ?_
        refine mr_lvS (lv' := [(0, .ref 87), (2, iv p2), (3, .ref b1), (4, iv z341), (5, iv z326), (6, iv (z247 + 1))]) (List.forall_mem_cons.mpr ⟨rfl, List.forall_mem_cons.mpr ⟨rfl, List.forall_mem_cons.mpr ⟨rfl, List.forall_mem_cons.mpr ⟨rfl, List.forall_mem_cons.mpr ⟨rfl, List.forall_mem_cons.mpr ⟨rfl, fun _ h => absurd h List.not_mem_nil⟩⟩⟩⟩⟩⟩) ?_
        exact ih260 z341 z326 (z247 + 1) trivial (rW (c := (-1)) (d := 32) h343 rfl) (rW (c := (-99999999)) (d := 19) h340 rfl) (rW (c := 0) (d := 10) (rAdd (e := 1) (f := 10) h293 (rR (x := 1)) rfl) rfl) (vc_X2_tieFor_20 h257 h328.2 h338 h252 h258 h340 h328.1) (vc_X2_tieFor_21 h328.2 h338 h257 h252 h258 h340 h328.1) (vc_X12_sends_11 (nS h259) h292 h293 h294)
      refine mr_icmp_ne (pc := 54) (tgt := 61) dX2_tieFor_54 (by decide) h300 h303 (fun h351 => ?_) (fun h351 => ?_)
      · refine mr_iconst (pc := 61) (z := 0) dX2_tieFor_61 ?_
        exact J306 0 (rW (c := 0) (d := 1) (rR (x := 0)) rfl)
      refine mr_iconst (pc := 57) (z := 1) dX2_tieFor_57 ?_
      refine sv_goto (pc := 58) (tgt := 62) dX2_tieFor_58 (by decide) ?_
      exact J306 1 (rW (c := 0) (d := 1) (rR (x := 1)) rfl)
  refine mr_lvS (lv' := [(0, .ref 87), (2, iv p2), (3, .ref b1), (4, iv (-1)), (5, iv (-99999999)), (6, iv 0)]) (List.forall_mem_cons.mpr ⟨rfl, List.forall_mem_cons.mpr ⟨rfl, List.forall_mem_cons.mpr ⟨rfl, List.forall_mem_cons.mpr ⟨rfl, List.forall_mem_cons.mpr ⟨rfl, List.forall_mem_cons.mpr ⟨rfl, fun _ h => absurd h List.not_mem_nil⟩⟩⟩⟩⟩⟩) ?_
  exact L250 12 (-1) (-99999999) 0 trivial (rW (c := (-1)) (d := 32) (rR (x := (-1))) rfl) (rW (c := (-99999999)) (d := 19) (rR (x := (-99999999))) rfl) (rW (c := 0) (d := 10) (rR (x := 0)) rfl) vc_X2_tieFor_22 vc_X2_tieFor_24 vc_X12_ring_27
end
section
theorem vc_X2_insertBorder_4 {z74 : Int} (h0 : z74 ≤ 0) (h1 : (-1) ≤ z74 ∧ z74 ≤ 1) : (-1) ≤ z74 ∧ z74 ≤ 0 := by omega
theorem vc_X2_insertBorder_5 {z74 : Int} (h0 : 0 < z74) (h1 : (-1) ≤ z74 ∧ z74 ≤ 1) : 1 ≤ z74 ∧ z74 ≤ 1 := by omega
theorem vc_X2_insertBorder_6 {N z43 : Int} (h0 : (z43 - (-1)) < N + 1) (h1 : 0 < z43) (h2 : 1 ≤ z43 ∧ z43 ≤ 19) : ((z43 + (-1)) - (-1)) < N := by omega
theorem vc_X2_insertBorder_7 {p2 : Int} (h0 : 0 ≤ p2 ∧ p2 ≤ 19) : (p2 - (-1)) < ((21 : Nat) : Int) := by omega
set_option maxRecDepth 4000 in
set_option maxHeartbeats 4000000 in
theorem c_X2_insertBorder {l : Launch} {D : va_G} {c : Nat → ClassId} {H0 : Heap} {sa : Nat × Nat × (Nat → Int32)} {w : mW} {μ : mM} (hw : mWF w) (hT : mT w μ) {p1 : Int} (hp1 : (-9223372036854775808) ≤ p1 ∧ p1 ≤ 9223372036854775807) {p2 : Int} (hp2 : 0 ≤ p2 ∧ p2 ≤ 19) : sC (gG l D c H0 sa) mX2_insertBorder 1 0 0 [.ref 87, jv p1, iv p2] (mk w μ) (qV w [93999] μ (fun μ1 => True)) := by
  refine sC.of rfl (by decide) (le_t rfl) ?_
  refine mr_lvE (lv' := [(0, .ref 87), (1, jv p1), (3, iv p2)]) rfl ?_
  refine mr_iload_n (pc := 0) (z := p2) dX2_insertBorder_0 rfl rfl ?_
  refine mr_istore (pc := 1) (lv' := [(4, iv p2), (0, .ref 87), (1, jv p1), (3, iv p2)]) dX2_insertBorder_1 (by decide) rfl ?_
  have L45 : ∀ (nL45 : Nat) (z43 : Int) (μ44 : mM), mT w μ44 → mF [93999] w μ μ44 → (0 ≤ z43 ∧ z43 ≤ 19) → (z43 - (-1)) < (nL45 : Int) → sV (gG l D c H0 sa) mX2_insertBorder (sRm 1 0 0) (sZ (gG l D c H0 sa) 0 0 (qV w [93999] μ (fun μ1 => True))) 3 [(0, .ref 87), (1, jv p1), (4, iv z43)] [] (mk w μ44) 0 0 := by
    intro nL45
    induction nL45 with
    | zero => intro z43 μ44 T47 F48 h46 h50; exact ((vc_X12_front_3 h50 h46)).elim
    | succ nL45 ih51 =>
      intro z43 μ44 T47 F48 h46 h50
      refine mr_iload (pc := 3) (z := z43) dX2_insertBorder_3 rfl ?_
      refine mr_if_le (pc := 5) (tgt := 44) dX2_insertBorder_5 (by decide) (r32 h46 rfl) (fun h65 => ?_) (fun h65 => ?_)
      · have h66 : 0 ≤ z43 ∧ z43 ≤ 0 := (vc_X12_front_5 h65 h46)
        refine sv_aload_n (pc := 44) dX2_insertBorder_44 rfl rfl ?_
        refine gf_X2_5 (pc := 45) dX2_insertBorder_45 wF_X2_31 (A_87 hw) T47 ?_
        refine mr_iload (pc := 48) (z := z43) dX2_insertBorder_48 rfl ?_
        refine mr_lload_n (pc := 50) (z := p1) dX2_insertBorder_50 rfl rfl ?_
        refine ss_93 (pc := 51) dX2_insertBorder_51 (A_93 hw) T47 (rIx (n := 20) h66 rfl) hp1 fun μ67 u68 T69 => ?_
        exact mr_vret dX2_insertBorder_52 rfl (le_t rfl) (le_t rfl) T69 (mF.up (mF.call mF.refl F48 rfl) (A_93 hw) u68 rfl) trivial
      have h70 : 1 ≤ z43 ∧ z43 ≤ 19 := (vc_X12_front_12 h65 h46)
      refine sv_aload_n (pc := 8) dX2_insertBorder_8 rfl rfl ?_
      refine gf_X2_5 (pc := 9) dX2_insertBorder_9 wF_X2_31 (A_87 hw) T47 ?_
      refine mr_iload (pc := 12) (z := z43) dX2_insertBorder_12 rfl ?_
      refine mr_iconst (pc := 14) (z := 1) dX2_insertBorder_14 ?_
      refine mr_isub (pc := 15) (x := z43) (y := 1) dX2_insertBorder_15 ?_
      refine la_93 (pc := 16) dX2_insertBorder_16 (A_93 hw) T47 (rIx (n := 20) (rSub (e := 0) (f := 18) h70 (rR (x := 1)) rfl) rfl) fun z71 q72 h73 => ?_
      refine mr_lload_n (pc := 17) (z := p1) dX2_insertBorder_17 rfl rfl ?_
      refine mr_lcmp (pc := 18) dX2_insertBorder_18 ?_
      refine mr_gen (P := fun z => (-1) ≤ z ∧ z ≤ 1) (lg_cmp_r _ _) fun z74 q75 h76 => ?_
      refine mr_if_le (pc := 19) (tgt := 44) dX2_insertBorder_19 (by decide) (r32 h76 rfl) (fun h82 => ?_) (fun h82 => ?_)
      · have h83 : (-1) ≤ z74 ∧ z74 ≤ 0 := (vc_X2_insertBorder_4 h82 h76)
        refine sv_aload_n (pc := 44) dX2_insertBorder_44 rfl rfl ?_
        refine gf_X2_5 (pc := 45) dX2_insertBorder_45 wF_X2_31 (A_87 hw) T47 ?_
        refine mr_iload (pc := 48) (z := z43) dX2_insertBorder_48 rfl ?_
        refine mr_lload_n (pc := 50) (z := p1) dX2_insertBorder_50 rfl rfl ?_
        refine ss_93 (pc := 51) dX2_insertBorder_51 (A_93 hw) T47 (rIx (n := 20) h70 rfl) hp1 fun μ84 u85 T86 => ?_
        exact mr_vret dX2_insertBorder_52 rfl (le_t rfl) (le_t rfl) T86 (mF.up (mF.call mF.refl F48 rfl) (A_93 hw) u85 rfl) trivial
      have h87 : 1 ≤ z74 ∧ z74 ≤ 1 := (vc_X2_insertBorder_5 h82 h76)
      refine sv_aload_n (pc := 22) dX2_insertBorder_22 rfl rfl ?_
      refine gf_X2_5 (pc := 23) dX2_insertBorder_23 wF_X2_31 (A_87 hw) T47 ?_
      refine mr_iload (pc := 26) (z := z43) dX2_insertBorder_26 rfl ?_
      refine sv_aload_n (pc := 28) dX2_insertBorder_28 rfl rfl ?_
      refine gf_X2_5 (pc := 29) dX2_insertBorder_29 wF_X2_31 (A_87 hw) T47 ?_
      refine mr_iload (pc := 32) (z := z43) dX2_insertBorder_32 rfl ?_
      refine mr_iconst (pc := 34) (z := 1) dX2_insertBorder_34 ?_
      refine mr_isub (pc := 35) (x := z43) (y := 1) dX2_insertBorder_35 ?_
      refine lk_93 (pc := 36) dX2_insertBorder_36 (A_93 hw) (rIx (n := 20) (rSub (e := 0) (f := 18) h70 (rR (x := 1)) rfl) rfl) q72 ?_
      refine ss_93 (pc := 37) dX2_insertBorder_37 (A_93 hw) T47 (rIx (n := 20) h70 rfl) h73 fun μ88 u89 T90 => ?_
      refine mr_iinc (pc := 38) (lv' := [(4, iv (z43 + (-1))), (0, .ref 87), (1, jv p1)]) dX2_insertBorder_38 rfl (by decide) rfl ?_
      refine sv_goto (pc := 41) (tgt := 3) dX2_insertBorder_41 (by decide) ?_
      refine mr_lvS (lv' := [(0, .ref 87), (1, jv p1), (4, iv (z43 + (-1)))]) (List.forall_mem_cons.mpr ⟨rfl, List.forall_mem_cons.mpr ⟨rfl, List.forall_mem_cons.mpr ⟨rfl, fun _ h => absurd h List.not_mem_nil⟩⟩⟩) ?_
      exact ih51 (z43 + (-1)) μ88 T90 (mF.up (mF.call mF.refl F48 rfl) (A_93 hw) u89 rfl) (rW (c := 0) (d := 19) (rAdd (e := 0) (f := 18) h70 (rR (x := (-1))) rfl) rfl) (vc_X2_insertBorder_6 (nS h50) h65 h70)
  refine mr_lvS (lv' := [(0, .ref 87), (1, jv p1), (4, iv p2)]) (List.forall_mem_cons.mpr ⟨rfl, List.forall_mem_cons.mpr ⟨rfl, List.forall_mem_cons.mpr ⟨rfl, fun _ h => absurd h List.not_mem_nil⟩⟩⟩) ?_
  exact L45 21 p2 μ hT mF.refl hp2 (vc_X2_insertBorder_7 hp2)
theorem vc_X2_layBorders_1 {z246 z247 : Int} (h0 : (21 - z247) < ((0 : Nat) : Int)) (h1 : z247 = 2 * z246) (h2 : 0 ≤ z246 ∧ z246 ≤ 10) (h3 : 0 ≤ z247 ∧ z247 ≤ 20) : False := by omega
theorem vc_X2_layBorders_2 {z246 z247 z258 : Int} (h0 : z246 < z258) (h1 : z247 = 2 * z246) (h2 : 0 ≤ z246 ∧ z246 ≤ 10) (h3 : 0 ≤ z247 ∧ z247 ≤ 20) (h4 : 0 ≤ z258 ∧ z258 ≤ 10) : 0 ≤ z246 ∧ z246 ≤ 9 := by omega
theorem vc_X2_layBorders_3 {z246 z247 z258 : Int} (h0 : z246 < z258) (h1 : z247 = 2 * z246) (h2 : 0 ≤ z246 ∧ z246 ≤ 9) (h3 : 0 ≤ z247 ∧ z247 ≤ 20) (h4 : 0 ≤ z258 ∧ z258 ≤ 10) : 1 ≤ z258 ∧ z258 ≤ 10 := by omega
theorem vc_X2_layBorders_4 {z246 z247 z258 : Int} (h0 : z247 = 2 * z246) (h1 : z246 < z258) (h2 : 0 ≤ z246 ∧ z246 ≤ 9) (h3 : 0 ≤ z247 ∧ z247 ≤ 20) (h4 : 1 ≤ z258 ∧ z258 ≤ 10) : 0 ≤ z247 ∧ z247 ≤ 19 := by omega
theorem vc_X2_layBorders_5 {z246 z247 z258 : Int} (h0 : z247 = 2 * z246) (h1 : z246 < z258) (h2 : 0 ≤ z246 ∧ z246 ≤ 9) (h3 : 0 ≤ z247 ∧ z247 ≤ 20) (h4 : 1 ≤ z258 ∧ z258 ≤ 10) : 0 ≤ (z247 + 1) ∧ (z247 + 1) ≤ 19 := by omega
theorem vc_X2_layBorders_6 {z246 z247 z258 : Int} (h0 : z247 = 2 * z246) (h1 : z246 < z258) (h2 : 0 ≤ z246 ∧ z246 ≤ 9) (h3 : 0 ≤ z247 ∧ z247 ≤ 20) (h4 : 1 ≤ z258 ∧ z258 ≤ 10) : 0 ≤ (z247 + 2) ∧ (z247 + 2) ≤ 20 := by omega
theorem vc_X2_layBorders_7 {z246 z247 z258 : Int} (h0 : z247 = 2 * z246) (h1 : z246 < z258) (h2 : 0 ≤ z246 ∧ z246 ≤ 9) (h3 : 0 ≤ z247 ∧ z247 ≤ 20) (h4 : 1 ≤ z258 ∧ z258 ≤ 10) : (z247 + 2) = 2 * (z246 + 1) := by omega
theorem vc_X2_layBorders_8 {N z246 z247 z258 : Int} (h0 : (21 - z247) < N + 1) (h1 : z247 = 2 * z246) (h2 : z246 < z258) (h3 : 0 ≤ z246 ∧ z246 ≤ 9) (h4 : 0 ≤ z247 ∧ z247 ≤ 20) (h5 : 1 ≤ z258 ∧ z258 ≤ 10) : (21 - (z247 + 2)) < N := by omega
theorem vc_X2_layBorders_9  : ((0 : Int) : Int) = (2 : Int) * ((0 : Int) : Int) := by omega
set_option maxRecDepth 4000 in
set_option maxHeartbeats 4000000 in
theorem c_X2_layBorders {l : Launch} {D : va_G} {c : Nat → ClassId} {H0 : Heap} {sa : Nat × Nat × (Nat → Int32)} {w : mW} {μ : mM} (hw : mWF w) (hT : mT w μ) : sC (gG l D c H0 sa) mX2_layBorders 2 0 0 [.ref 87] (mk w μ) (qI w [93999] μ (fun z μ1 => (0 ≤ z ∧ z ≤ 20) ∧ True)) := by
  refine sC.of rfl (by decide) (le_t rfl) ?_
  refine mr_lvE (lv' := [(0, .ref 87)]) rfl ?_
  refine mr_iconst (pc := 0) (z := 0) dX2_layBorders_0 ?_
  refine mr_istore_n (pc := 1) (lv' := [(1, iv 0), (0, .ref 87)]) dX2_layBorders_1 rfl (by decide) rfl ?_
  refine mr_iconst (pc := 2) (z := 0) dX2_layBorders_2 ?_
  refine mr_istore_n (pc := 3) (lv' := [(2, iv 0), (1, iv 0), (0, .ref 87)]) dX2_layBorders_3 rfl (by decide) rfl ?_
  have L249 : ∀ (nL249 : Nat) (z247 z246 : Int) (μ248 : mM), mT w μ248 → mF [93999] w μ μ248 → (0 ≤ z247 ∧ z247 ≤ 20) → (0 ≤ z246 ∧ z246 ≤ 10) → (z247 = 2 * z246) → (21 - z247) < (nL249 : Int) → sV (gG l D c H0 sa) mX2_layBorders (sRm 2 0 0) (sZ (gG l D c H0 sa) 0 0 (qI w [93999] μ (fun z μ1 => (0 ≤ z ∧ z ≤ 20) ∧ True))) 4 [(0, .ref 87), (1, iv z247), (2, iv z246)] [] (mk w μ248) 0 0 := by
    intro nL249
    induction nL249 with
    | zero => intro z247 z246 μ248 T252 F253 h250 h251 h255 h256; exact ((vc_X2_layBorders_1 h256 h255 h251 h250)).elim
    | succ nL249 ih257 =>
      intro z247 z246 μ248 T252 F253 h250 h251 h255 h256
      refine mr_iload_n (pc := 4) (z := z246) dX2_layBorders_4 rfl rfl ?_
      refine sv_aload_n (pc := 5) dX2_layBorders_5 rfl rfl ?_
      refine gf_X2_0 (pc := 6) dX2_layBorders_6 wF_X2_9 (A_87 hw) T252 ?_
      refine gf_X10_14 (pc := 9) dX2_layBorders_9 wF_X2_42 (A_6 hw) T252 fun z258 q259 h260 => ?_
      refine mr_icmp_ge (pc := 12) (tgt := 68) dX2_layBorders_12 (by decide) (r32 h251 rfl) (r32 h260 rfl) (fun h289 => ?_) (fun h289 => ?_)
      · refine mr_iload_n (pc := 68) (z := z247) dX2_layBorders_68 rfl rfl ?_
        exact mr_iret dX2_layBorders_69 rfl (le_t rfl) (le_t rfl) T252 (mF.call mF.refl F253 rfl) ⟨h250, trivial⟩
      have h290 : 0 ≤ z246 ∧ z246 ≤ 9 := (vc_X2_layBorders_2 h289 h255 h251 h250 h260)
      have h291 : 1 ≤ z258 ∧ z258 ≤ 10 := (vc_X2_layBorders_3 h289 h255 h290 h250 h260)
      refine sv_aload_n (pc := 15) dX2_layBorders_15 rfl rfl ?_
      refine gf_X2_0 (pc := 16) dX2_layBorders_16 wF_X2_9 (A_87 hw) T252 ?_
      refine gf_X10_0 (pc := 19) dX2_layBorders_19 wF_X2_49 (A_6 hw) T252 ?_
      refine mr_iload_n (pc := 22) (z := z246) dX2_layBorders_22 rfl rfl ?_
      refine la_7 (pc := 23) dX2_layBorders_23 (A_7 hw) T252 (rIx (n := 10) h290 rfl) fun z292 q293 h294 => ?_
      refine mr_i2l (pc := 24) dX2_layBorders_24 h294 ?_
      refine mr_genL (r3264 h294) fun z295 q296 h297 => ?_
      refine mr_ldc2 (pc := 25) (z := 4294967295) dX2_layBorders_25 wH_X2_121 (by decide) ?_
      refine mr_land (pc := 28) dX2_layBorders_28 ?_
      refine mr_genL (r64i _) fun z298 q299 h300 => ?_
      refine mr_lstore_n (pc := 29) (lv' := [(3, jv z298), (0, .ref 87), (1, iv z247), (2, iv z246)]) dX2_layBorders_29 rfl (by decide) rfl ?_
      refine sv_aload_n (pc := 30) dX2_layBorders_30 rfl rfl ?_
      refine mr_lload_n (pc := 31) (z := z298) dX2_layBorders_31 rfl rfl ?_
      refine mr_iload_n (pc := 32) (z := z247) dX2_layBorders_32 rfl rfl ?_
      refine mr_cVV (pc := 33) (c_X2_insertBorder hw T252 h300 (vc_X2_layBorders_4 h255 h289 h290 h250 h291)) (gOk _ _ _ _ _) dX2_layBorders_33 (tX2_insertBorder _ _ _ _ _) ⟨wV_X2_insertBorder, wL_X2_insertBorder⟩ wM_X2_123 (gCX2 _ _ _ _ _) rfl (A_87 hw) rfl ⟨le_t rfl, le_t rfl⟩ ⟨le_t rfl, le_t rfl⟩ rfl (le_t rfl) fun μ301 T302 F303 h304 => ?_
      refine sv_aload_n (pc := 36) dX2_layBorders_36 rfl rfl ?_
      refine mr_lload_n (pc := 37) (z := z298) dX2_layBorders_37 rfl rfl ?_
      refine mr_lconst (pc := 38) (z := 1) dX2_layBorders_38 (by decide) ?_
      refine mr_bipush (pc := 39) (z := 32) dX2_layBorders_39 (by decide) ?_
      refine sv_aload_n (pc := 41) dX2_layBorders_41 rfl rfl ?_
      refine gf_X2_0 (pc := 42) dX2_layBorders_42 wF_X2_9 (A_87 hw) T302 ?_
      refine gf_X10_1 (pc := 45) dX2_layBorders_45 wF_X2_57 (A_6 hw) T302 ?_
      refine mr_iload_n (pc := 48) (z := z246) dX2_layBorders_48 rfl rfl ?_
      refine la_8 (pc := 49) dX2_layBorders_49 (A_8 hw) T302 (rIx (n := 10) h290 rfl) fun z305 q306 h307 => ?_
      refine mr_isub (pc := 50) (x := 32) (y := z305) dX2_layBorders_50 ?_
      refine mr_lshl (pc := 51) dX2_layBorders_51 ?_
      refine mr_genL (r64i _) fun z308 q309 h310 => ?_
      refine mr_ladd (pc := 52) dX2_layBorders_52 ?_
      refine mr_genL (r64i _) fun z311 q312 h313 => ?_
      refine mr_iload_n (pc := 53) (z := z247) dX2_layBorders_53 rfl rfl ?_
      refine mr_iconst (pc := 54) (z := 1) dX2_layBorders_54 ?_
      refine mr_iadd (pc := 55) (x := z247) (y := 1) dX2_layBorders_55 ?_
      refine mr_cVV (pc := 56) (c_X2_insertBorder hw T302 h313 (vc_X2_layBorders_5 h255 h289 h290 h250 h291)) (gOk _ _ _ _ _) dX2_layBorders_56 (tX2_insertBorder _ _ _ _ _) ⟨wV_X2_insertBorder, wL_X2_insertBorder⟩ wM_X2_123 (gCX2 _ _ _ _ _) rfl (A_87 hw) rfl ⟨le_t rfl, le_t rfl⟩ ⟨le_t rfl, le_t rfl⟩ rfl (le_t rfl) fun μ314 T315 F316 h317 => ?_
      refine mr_iinc (pc := 59) (lv' := [(1, iv (z247 + 2)), (3, jv z298), (0, .ref 87), (2, iv z246)]) dX2_layBorders_59 rfl (by decide) rfl ?_
      refine mr_iinc (pc := 62) (lv' := [(2, iv (z246 + 1)), (1, iv (z247 + 2)), (3, jv z298), (0, .ref 87)]) dX2_layBorders_62 rfl (by decide) rfl ?_
      refine sv_goto (pc := 65) (tgt := 4) dX2_layBorders_65 (by decide) ?_
      refine mr_lvS (lv' := [(0, .ref 87), (1, iv (z247 + 2)), (2, iv (z246 + 1))]) (List.forall_mem_cons.mpr ⟨rfl, List.forall_mem_cons.mpr ⟨rfl, List.forall_mem_cons.mpr ⟨rfl, fun _ h => absurd h List.not_mem_nil⟩⟩⟩) ?_
      exact ih257 (z247 + 2) (z246 + 1) μ314 T315 (mF.call (mF.call (mF.call mF.refl F253 rfl) F303 rfl) F316 rfl) (vc_X2_layBorders_6 h255 h289 h290 h250 h291) (rW (c := 0) (d := 10) (rAdd (e := 1) (f := 10) h290 (rR (x := 1)) rfl) rfl) (vc_X2_layBorders_7 h255 h289 h290 h250 h291) (vc_X2_layBorders_8 (nS h256) h255 h289 h290 h250 h291)
  refine mr_lvS (lv' := [(0, .ref 87), (1, iv 0), (2, iv 0)]) (List.forall_mem_cons.mpr ⟨rfl, List.forall_mem_cons.mpr ⟨rfl, List.forall_mem_cons.mpr ⟨rfl, fun _ h => absurd h List.not_mem_nil⟩⟩⟩) ?_
  exact L249 22 0 0 μ hT mF.refl (rW (c := 0) (d := 20) (rR (x := 0)) rfl) (rW (c := 0) (d := 10) (rR (x := 0)) rfl) vc_X2_layBorders_9 vc_X12_tieOf_12
theorem vc_X2_addDemand_1 {f_d n0 : Int} (h0 : f_d ≤ 15) (h1 : (f_d = 0 ∨ 0 < n0)) (h2 : 0 ≤ f_d ∧ f_d ≤ 16) : 0 ≤ f_d ∧ f_d ≤ 15 := by omega
theorem vc_X2_addDemand_2 {f_d n0 p1 : Int} (h0 : (f_d = 0 ∨ 0 < n0)) (h1 : p1 < n0) (h2 : f_d ≤ 15) (h3 : 0 ≤ f_d ∧ f_d ≤ 15) (h4 : 0 ≤ p1 ∧ p1 ≤ 9) : 0 ≤ p1 ∧ p1 ≤ 9 ∧ (p1 = 0 ∨ p1 < n0) := by omega
theorem vc_X2_addDemand_3 {f_d n0 p1 : Int} (h0 : (f_d = 0 ∨ 0 < n0)) (h1 : p1 < n0) (h2 : f_d ≤ 15) (h3 : 0 ≤ f_d ∧ f_d ≤ 15) (h4 : 0 ≤ p1 ∧ p1 ≤ 9) : 0 ≤ (f_d + 1) ∧ (f_d + 1) ≤ 16 ∧ ((f_d + 1) = 0 ∨ 0 < n0) := by omega
set_option maxRecDepth 4000 in
set_option maxHeartbeats 4000000 in
theorem c_X2_addDemand {l : Launch} {D : va_G} {c : Nat → ClassId} {H0 : Heap} {sa : Nat × Nat × (Nat → Int32)} {w : mW} {μ : mM} (hw : mWF w) (hT : mT w μ) {p1 : Int} (hp1 : 0 ≤ p1 ∧ p1 ≤ 9) {p2 : Int} (hp2 : (-2147483648) ≤ p2 ∧ p2 ≤ 2147483647) {p3 : Int} (hp3 : (-2147483648) ≤ p3 ∧ p3 ≤ 2147483647) {f_d : Int} (q_f_d : μ 87 10 = f_d) (hq0 : p1 < w.2.2.2 0) (hq1 : f_d ≤ 15) : sC (gG l D c H0 sa) mX2_addDemand 1 0 0 [.ref 87, iv p1, iv p2, iv p3] (mk w μ) (qI w [87010, 90999, 91999, 92999] μ (fun z μ1 => ((-2147483648) ≤ z ∧ z ≤ 2147483647) ∧ True)) := by
  refine sC.of rfl (by decide) (le_t rfl) ?_
  have ht_f_d : (0 ≤ f_d ∧ f_d ≤ 16 ∧ (f_d = 0 ∨ 0 < w.2.2.2 0)) := by rw [← q_f_d]; exact hT 87 87 (A_87 hw) 10
  have h1 : 0 ≤ f_d ∧ f_d ≤ 16 := ⟨ht_f_d.1, ht_f_d.2.1⟩
  have h2 : 0 ≤ f_d ∧ f_d ≤ 15 := (vc_X2_addDemand_1 hq1 ht_f_d.2.2 h1)
  refine mr_lvE (lv' := [(0, .ref 87), (1, iv p1), (2, iv p2), (3, iv p3)]) rfl ?_
  refine sv_aload_n (pc := 0) dX2_addDemand_0 rfl rfl ?_
  refine gf_X2_2 (pc := 1) dX2_addDemand_1 wF_X2_22 (A_87 hw) hT ?_
  refine sv_aload_n (pc := 4) dX2_addDemand_4 rfl rfl ?_
  refine gk_X2_10 (pc := 5) dX2_addDemand_5 wF_X2_95 (A_87 hw) q_f_d ?_
  refine mr_iload_n (pc := 8) (z := p1) dX2_addDemand_8 rfl rfl ?_
  refine ss_90 (pc := 9) dX2_addDemand_9 (A_90 hw) hT (rIx (n := 16) h2 rfl) (vc_X2_addDemand_2 ht_f_d.2.2 hq0 hq1 h2 hp1) fun μ39 u40 T41 => ?_
  refine sv_aload_n (pc := 10) dX2_addDemand_10 rfl rfl ?_
  refine gf_X2_3 (pc := 11) dX2_addDemand_11 wF_X2_25 (A_87 hw) T41 ?_
  refine sv_aload_n (pc := 14) dX2_addDemand_14 rfl rfl ?_
  refine gk_X2_10 (pc := 15) dX2_addDemand_15 wF_X2_95 (A_87 hw) (u40.f (Or.inl (mAt.ne (A_90 hw) (A_87 hw) rfl)) q_f_d) ?_
  refine mr_iload_n (pc := 18) (z := p2) dX2_addDemand_18 rfl rfl ?_
  refine ss_91 (pc := 19) dX2_addDemand_19 (A_91 hw) T41 (rIx (n := 16) h2 rfl) hp2 fun μ42 u43 T44 => ?_
  refine sv_aload_n (pc := 20) dX2_addDemand_20 rfl rfl ?_
  refine gf_X2_4 (pc := 21) dX2_addDemand_21 wF_X2_28 (A_87 hw) T44 ?_
  refine sv_aload_n (pc := 24) dX2_addDemand_24 rfl rfl ?_
  refine gk_X2_10 (pc := 25) dX2_addDemand_25 wF_X2_95 (A_87 hw) (u43.f (Or.inl (mAt.ne (A_91 hw) (A_87 hw) rfl)) (u40.f (Or.inl (mAt.ne (A_90 hw) (A_87 hw) rfl)) q_f_d)) ?_
  refine mr_iload_n (pc := 28) (z := p3) dX2_addDemand_28 rfl rfl ?_
  refine ss_92 (pc := 29) dX2_addDemand_29 (A_92 hw) T44 (rIx (n := 16) h2 rfl) hp3 fun μ45 u46 T47 => ?_
  refine sv_aload_n (pc := 30) dX2_addDemand_30 rfl rfl ?_
  refine sv_dup (pc := 31) dX2_addDemand_31 rfl ?_
  refine gk_X2_10 (pc := 32) dX2_addDemand_32 wF_X2_95 (A_87 hw) (u46.f (Or.inl (mAt.ne (A_92 hw) (A_87 hw) rfl)) (u43.f (Or.inl (mAt.ne (A_91 hw) (A_87 hw) rfl)) (u40.f (Or.inl (mAt.ne (A_90 hw) (A_87 hw) rfl)) q_f_d))) ?_
  refine mr_iconst (pc := 35) (z := 1) dX2_addDemand_35 ?_
  refine mr_iadd (pc := 36) (x := f_d) (y := 1) dX2_addDemand_36 ?_
  refine pf_X2_10 (pc := 37) dX2_addDemand_37 wF_X2_95 (A_87 hw) T47 (vc_X2_addDemand_3 ht_f_d.2.2 hq0 hq1 h2 hp1) fun μ48 u49 T50 => ?_
  refine sv_aload_n (pc := 40) dX2_addDemand_40 rfl rfl ?_
  refine gk_X2_10 (pc := 41) dX2_addDemand_41 wF_X2_95 (A_87 hw) u49.1 ?_
  refine mr_iconst (pc := 44) (z := 1) dX2_addDemand_44 ?_
  refine mr_isub (pc := 45) (x := (f_d + 1)) (y := 1) dX2_addDemand_45 ?_
  exact mr_iret dX2_addDemand_46 rfl (le_t rfl) (le_t rfl) T50 (mF.up (mF.up (mF.up (mF.up mF.refl (A_90 hw) u40 rfl) (A_91 hw) u43 rfl) (A_92 hw) u46 rfl) (A_87 hw) u49 rfl) ⟨(rW (c := (-2147483648)) (d := 2147483647) (rSub (e := 0) (f := 15) (rAdd (e := 1) (f := 16) h2 (rR (x := 1)) rfl) (rR (x := 1)) rfl) rfl), trivial⟩
theorem vc_X11_led_3 {p1 z14 : Int} (h0 : p1 < z14) (h1 : 0 ≤ p1) (h2 : 0 ≤ p1 ∧ p1 ≤ 2147483647) (h3 : 0 ≤ z14 ∧ z14 ≤ 11) : 0 ≤ p1 ∧ p1 ≤ 10 := by omega
theorem vc_X11_led_4 {p1 z14 : Int} (h0 : p1 < z14) (h1 : 0 ≤ p1) (h2 : 0 ≤ p1 ∧ p1 ≤ 10) (h3 : 0 ≤ z14 ∧ z14 ≤ 11) : 1 ≤ z14 ∧ z14 ≤ 11 := by omega
set_option maxRecDepth 4000 in
set_option maxHeartbeats 4000000 in
theorem c_X11_led {l : Launch} {D : va_G} {c : Nat → ClassId} {H0 : Heap} {sa : Nat × Nat × (Nat → Int32)} {w : mW} {μ : mM} (hw : mWF w) (hT : mT w μ) {p1 : Int} (hp1 : (-2147483648) ≤ p1 ∧ p1 ≤ 2147483647) : sC (gG l D c H0 sa) mX11_led 1 0 0 [.ref 0, iv p1] (mk w μ) (qP w μ (fun z => ((-2147483648) ≤ z ∧ z ≤ 2147483647) ∧ True)) := by
  refine sC.of rfl (by decide) (le_t rfl) ?_
  refine mr_lvE (lv' := [(0, .ref 0), (1, iv p1)]) rfl ?_
  refine mr_iload_n (pc := 0) (z := p1) dX11_led_0 rfl rfl ?_
  refine mr_if_lt (pc := 1) (tgt := 15) dX11_led_1 (by decide) hp1 (fun h11 => ?_) (fun h11 => ?_)
  · have h12 : (-2147483648) ≤ p1 ∧ p1 ≤ (-1) := (vc_X12_ring_60 h11 hp1)
    refine mr_ldc (pc := 15) (z := (-99999999)) dX11_led_15 wG_X11_165 (by decide) ?_
    refine sv_goto (pc := 17) (tgt := 29) dX11_led_17 (by decide) ?_
    exact mr_iretP dX11_led_29 rfl (le_t rfl) (le_t rfl) ⟨(rW (c := (-2147483648)) (d := 2147483647) (rR (x := (-99999999))) rfl), trivial⟩
  have h13 : 0 ≤ p1 ∧ p1 ≤ 2147483647 := (vc_X12_ring_1 h11 hp1)
  refine mr_iload_n (pc := 4) (z := p1) dX11_led_4 rfl rfl ?_
  refine sv_aload_n (pc := 5) dX11_led_5 rfl rfl ?_
  refine gf_X11_8 (pc := 6) dX11_led_6 wF_X11_65 (A_0 hw) hT ?_
  refine gf_X2_9 (pc := 9) dX11_led_9 wF_X11_367 (A_87 hw) hT fun z14 q15 h16 => ?_
  refine mr_icmp_lt (pc := 12) (tgt := 20) dX11_led_12 (by decide) (r32 h13 rfl) (r32 h16 rfl) (fun h22 => ?_) (fun h22 => ?_)
  · have h23 : 0 ≤ p1 ∧ p1 ≤ 10 := (vc_X11_led_3 h22 h11 h13 h16)
    have h24 : 1 ≤ z14 ∧ z14 ≤ 11 := (vc_X11_led_4 h22 h11 h23 h16)
    refine sv_aload_n (pc := 20) dX11_led_20 rfl rfl ?_
    refine gf_X11_8 (pc := 21) dX11_led_21 wF_X11_65 (A_0 hw) hT ?_
    refine gf_X2_8 (pc := 24) dX11_led_24 wF_X11_370 (A_87 hw) hT ?_
    refine mr_iload_n (pc := 27) (z := p1) dX11_led_27 rfl rfl ?_
    refine la_89 (pc := 28) dX11_led_28 (A_89 hw) hT (rIx (n := 11) h23 rfl) fun z25 q26 h27 => ?_
    exact mr_iretP dX11_led_29 rfl (le_t rfl) (le_t rfl) ⟨h27, trivial⟩
  refine mr_ldc (pc := 15) (z := (-99999999)) dX11_led_15 wG_X11_165 (by decide) ?_
  refine sv_goto (pc := 17) (tgt := 29) dX11_led_17 (by decide) ?_
  exact mr_iretP dX11_led_29 rfl (le_t rfl) (le_t rfl) ⟨(rW (c := (-2147483648)) (d := 2147483647) (rR (x := (-99999999))) rfl), trivial⟩
theorem vc_X11_octet_3 {p1 z14 : Int} (h0 : p1 < z14) (h1 : 0 ≤ p1) (h2 : 0 ≤ p1 ∧ p1 ≤ 2147483647) (h3 : 0 ≤ z14 ∧ z14 ≤ 256) : 0 ≤ p1 ∧ p1 ≤ 255 := by omega
theorem vc_X11_octet_4 {p1 z14 : Int} (h0 : p1 < z14) (h1 : 0 ≤ p1) (h2 : 0 ≤ p1 ∧ p1 ≤ 255) (h3 : 0 ≤ z14 ∧ z14 ≤ 256) : 1 ≤ z14 ∧ z14 ≤ 256 := by omega
set_option maxRecDepth 4000 in
set_option maxHeartbeats 4000000 in
theorem c_X11_octet {l : Launch} {D : va_G} {c : Nat → ClassId} {H0 : Heap} {sa : Nat × Nat × (Nat → Int32)} {w : mW} {μ : mM} (hw : mWF w) (hT : mT w μ) {p1 : Int} (hp1 : (-2147483648) ≤ p1 ∧ p1 ≤ 2147483647) : sC (gG l D c H0 sa) mX11_octet 1 0 0 [.ref 0, iv p1] (mk w μ) (qP w μ (fun z => ((-2147483648) ≤ z ∧ z ≤ 2147483647) ∧ True)) := by
  refine sC.of rfl (by decide) (le_t rfl) ?_
  refine mr_lvE (lv' := [(0, .ref 0), (1, iv p1)]) rfl ?_
  refine mr_iload_n (pc := 0) (z := p1) dX11_octet_0 rfl rfl ?_
  refine mr_if_lt (pc := 1) (tgt := 15) dX11_octet_1 (by decide) hp1 (fun h11 => ?_) (fun h11 => ?_)
  · have h12 : (-2147483648) ≤ p1 ∧ p1 ≤ (-1) := (vc_X12_ring_60 h11 hp1)
    refine mr_ldc (pc := 15) (z := (-99999999)) dX11_octet_15 wG_X11_165 (by decide) ?_
    refine sv_goto (pc := 17) (tgt := 29) dX11_octet_17 (by decide) ?_
    exact mr_iretP dX11_octet_29 rfl (le_t rfl) (le_t rfl) ⟨(rW (c := (-2147483648)) (d := 2147483647) (rR (x := (-99999999))) rfl), trivial⟩
  have h13 : 0 ≤ p1 ∧ p1 ≤ 2147483647 := (vc_X12_ring_1 h11 hp1)
  refine mr_iload_n (pc := 4) (z := p1) dX11_octet_4 rfl rfl ?_
  refine sv_aload_n (pc := 5) dX11_octet_5 rfl rfl ?_
  refine gf_X11_7 (pc := 6) dX11_octet_6 wF_X11_58 (A_0 hw) hT ?_
  refine gf_X3_15 (pc := 9) dX11_octet_9 wF_X11_358 (A_76 hw) hT fun z14 q15 h16 => ?_
  refine mr_icmp_lt (pc := 12) (tgt := 20) dX11_octet_12 (by decide) (r32 h13 rfl) (r32 h16 rfl) (fun h22 => ?_) (fun h22 => ?_)
  · have h23 : 0 ≤ p1 ∧ p1 ≤ 255 := (vc_X11_octet_3 h22 h11 h13 h16)
    have h24 : 1 ≤ z14 ∧ z14 ≤ 256 := (vc_X11_octet_4 h22 h11 h23 h16)
    refine sv_aload_n (pc := 20) dX11_octet_20 rfl rfl ?_
    refine gf_X11_7 (pc := 21) dX11_octet_21 wF_X11_58 (A_0 hw) hT ?_
    refine gf_X3_12 (pc := 24) dX11_octet_24 wF_X11_361 (A_76 hw) hT ?_
    refine mr_iload_n (pc := 27) (z := p1) dX11_octet_27 rfl rfl ?_
    refine la_86 (pc := 28) dX11_octet_28 (A_86 hw) hT (rIx (n := 256) h23 rfl) fun z25 q26 h27 => ?_
    exact mr_iretP dX11_octet_29 rfl (le_t rfl) (le_t rfl) ⟨h27, trivial⟩
  refine mr_ldc (pc := 15) (z := (-99999999)) dX11_octet_15 wG_X11_165 (by decide) ?_
  refine sv_goto (pc := 17) (tgt := 29) dX11_octet_17 (by decide) ?_
  exact mr_iretP dX11_octet_29 rfl (le_t rfl) (le_t rfl) ⟨(rW (c := (-2147483648)) (d := 2147483647) (rR (x := (-99999999))) rfl), trivial⟩
theorem vc_X3_placeTold_1 {z30 : Int} (h0 : (5 - z30) < ((0 : Nat) : Int)) (h1 : 1 ≤ z30 ∧ z30 ≤ 4) : False := by omega
theorem vc_X3_placeTold_2 {z30 : Int} (h0 : 3 < z30) (h1 : 1 ≤ z30 ∧ z30 ≤ 4) : 4 ≤ z30 ∧ z30 ≤ 4 := by omega
theorem vc_X3_placeTold_3 {z30 : Int} (h0 : z30 ≤ 3) (h1 : 1 ≤ z30 ∧ z30 ≤ 4) : 1 ≤ z30 ∧ z30 ≤ 3 := by omega
theorem vc_X3_placeTold_5 {N z30 : Int} (h0 : (5 - z30) < N + 1) (h1 : z30 ≤ 3) (h2 : 1 ≤ z30 ∧ z30 ≤ 3) : (5 - (z30 + 1)) < N := by omega
theorem vc_X3_placeTold_6  : (5 - 1) < ((5 : Nat) : Int) := by omega
set_option maxRecDepth 4000 in
set_option maxHeartbeats 4000000 in
theorem c_X3_placeTold {l : Launch} {D : va_G} {c : Nat → ClassId} {H0 : Heap} {sa : Nat × Nat × (Nat → Int32)} {w : mW} {μ : mM} (hw : mWF w) (hT : mT w μ) : sC (gG l D c H0 sa) mX3_placeTold 1 0 0 [.ref 76] (mk w μ) (qP w μ (fun z => ((-2147483648) ≤ z ∧ z ≤ 2147483647) ∧ True)) := by
  refine sC.of rfl (by decide) (le_t rfl) ?_
  refine mr_lvE (lv' := [(0, .ref 76)]) rfl ?_
  refine mr_iconst (pc := 0) (z := 1) dX3_placeTold_0 ?_
  refine mr_istore_n (pc := 1) (lv' := [(1, iv 1), (0, .ref 76)]) dX3_placeTold_1 rfl (by decide) rfl ?_
  have L31 : ∀ (nL31 : Nat) (z30 : Int), True → (1 ≤ z30 ∧ z30 ≤ 4) → (5 - z30) < (nL31 : Int) → sV (gG l D c H0 sa) mX3_placeTold (sRm 1 0 0) (sZ (gG l D c H0 sa) 0 0 (qP w μ (fun z => ((-2147483648) ≤ z ∧ z ≤ 2147483647) ∧ True))) 2 [(0, .ref 76), (1, iv z30)] [] (mk w μ) 0 0 := by
    intro nL31
    induction nL31 with
    | zero => intro z30 _ h32 h36; exact ((vc_X3_placeTold_1 h36 h32)).elim
    | succ nL31 ih37 =>
      intro z30 _ h32 h36
      refine mr_iload_n (pc := 2) (z := z30) dX3_placeTold_2 rfl rfl ?_
      refine mr_iconst (pc := 3) (z := 3) dX3_placeTold_3 ?_
      refine mr_icmp_gt (pc := 4) (tgt := 31) dX3_placeTold_4 (by decide) (r32 h32 rfl) (r32 (rR (x := 3)) rfl) (fun h38 => ?_) (fun h38 => ?_)
      · have h39 : 4 ≤ z30 ∧ z30 ≤ 4 := (vc_X3_placeTold_2 h38 h32)
        refine mr_ldc (pc := 31) (z := (-99999999)) dX3_placeTold_31 wG_X3_21 (by decide) ?_
        exact mr_iretP dX3_placeTold_33 rfl (le_t rfl) (le_t rfl) ⟨(rW (c := (-2147483648)) (d := 2147483647) (rR (x := (-99999999))) rfl), trivial⟩
      have h40 : 1 ≤ z30 ∧ z30 ≤ 3 := (vc_X3_placeTold_3 h38 h32)
      refine sv_aload_n (pc := 7) dX3_placeTold_7 rfl rfl ?_
      refine gf_X3_3 (pc := 8) dX3_placeTold_8 wF_X3_22 (A_76 hw) hT ?_
      refine mr_iload_n (pc := 11) (z := z30) dX3_placeTold_11 rfl rfl ?_
      refine la_80 (pc := 12) dX3_placeTold_12 (A_80 hw) hT (rIx (n := 4) h40 rfl) fun z41 q42 h43 => ?_
      refine mr_ldc (pc := 13) (z := (-99999999)) dX3_placeTold_13 wG_X3_21 (by decide) ?_
      refine mr_icmp_eq (pc := 15) (tgt := 25) dX3_placeTold_15 (by decide) h43 (r32 (rR (x := (-99999999))) rfl) (fun h44 => ?_) (fun h44 => ?_)
      · have h45 : (-99999999) ≤ z41 ∧ z41 ≤ (-99999999) := (vc_X12_judgedAnew_21 h44 h43)
        refine mr_iinc (pc := 25) (lv' := [(1, iv (z30 + 1)), (0, .ref 76)]) dX3_placeTold_25 rfl (by decide) rfl ?_
        refine sv_goto (pc := 28) (tgt := 2) dX3_placeTold_28 (by decide) ?_
        refine mr_lvS (lv' := [(0, .ref 76), (1, iv (z30 + 1))]) (List.forall_mem_cons.mpr ⟨rfl, List.forall_mem_cons.mpr ⟨rfl, fun _ h => absurd h List.not_mem_nil⟩⟩) ?_
        exact ih37 (z30 + 1) trivial (rW (c := 1) (d := 4) (rAdd (e := 2) (f := 4) h40 (rR (x := 1)) rfl) rfl) (vc_X3_placeTold_5 (nS h36) h38 h40)
      refine sv_aload_n (pc := 18) dX3_placeTold_18 rfl rfl ?_
      refine gf_X3_3 (pc := 19) dX3_placeTold_19 wF_X3_22 (A_76 hw) hT ?_
      refine mr_iload_n (pc := 22) (z := z30) dX3_placeTold_22 rfl rfl ?_
      refine lk_80 (pc := 23) dX3_placeTold_23 (A_80 hw) (rIx (n := 4) h40 rfl) q42 ?_
      exact mr_iretP dX3_placeTold_24 rfl (le_t rfl) (le_t rfl) ⟨h43, trivial⟩
  refine mr_lvS (lv' := [(0, .ref 76), (1, iv 1)]) (List.forall_mem_cons.mpr ⟨rfl, List.forall_mem_cons.mpr ⟨rfl, fun _ h => absurd h List.not_mem_nil⟩⟩) ?_
  exact L31 5 1 trivial (rW (c := 1) (d := 4) (rR (x := 1)) rfl) vc_X3_placeTold_6
theorem vc_X3_toldInAll_1 {p1 : Int} (h0 : p1 = 1) (h1 : (-2147483648) ≤ p1 ∧ p1 ≤ 2147483647) : 1 ≤ p1 ∧ p1 ≤ 1 := by omega
theorem vc_X3_toldInAll_2 {p1 : Int} (h0 : p1 = 2) (h1 : ¬ p1 = 1) (h2 : (-2147483648) ≤ p1 ∧ p1 ≤ 2147483647) : 2 ≤ p1 ∧ p1 ≤ 2 := by omega
theorem vc_X3_toldInAll_3 {p1 : Int} (h0 : p1 = 3) (h1 : ¬ p1 = 1) (h2 : ¬ p1 = 2) (h3 : (-2147483648) ≤ p1 ∧ p1 ≤ 2147483647) : 3 ≤ p1 ∧ p1 ≤ 3 := by omega
theorem vc_X3_toldInAll_4 {p1 : Int} (h0 : p1 = 4) (h1 : ¬ p1 = 1) (h2 : ¬ p1 = 2) (h3 : ¬ p1 = 3) (h4 : (-2147483648) ≤ p1 ∧ p1 ≤ 2147483647) : 4 ≤ p1 ∧ p1 ≤ 4 := by omega
theorem vc_X3_toldInAll_5 {p1 : Int} (h0 : p1 = 5) (h1 : ¬ p1 = 1) (h2 : ¬ p1 = 2) (h3 : ¬ p1 = 3) (h4 : ¬ p1 = 4) (h5 : (-2147483648) ≤ p1 ∧ p1 ≤ 2147483647) : 5 ≤ p1 ∧ p1 ≤ 5 := by omega
theorem vc_X3_toldInAll_6 {p1 : Int} (h0 : p1 = 6) (h1 : ¬ p1 = 1) (h2 : ¬ p1 = 2) (h3 : ¬ p1 = 3) (h4 : ¬ p1 = 4) (h5 : ¬ p1 = 5) (h6 : (-2147483648) ≤ p1 ∧ p1 ≤ 2147483647) : 6 ≤ p1 ∧ p1 ≤ 6 := by omega
theorem vc_X3_toldInAll_7 {p1 : Int} (h0 : p1 = 7) (h1 : ¬ p1 = 1) (h2 : ¬ p1 = 2) (h3 : ¬ p1 = 3) (h4 : ¬ p1 = 4) (h5 : ¬ p1 = 5) (h6 : ¬ p1 = 6) (h7 : (-2147483648) ≤ p1 ∧ p1 ≤ 2147483647) : 7 ≤ p1 ∧ p1 ≤ 7 := by omega
theorem vc_X3_toldInAll_8 {p1 : Int} (h0 : ¬ p1 = 1) (h1 : ¬ p1 = 2) (h2 : ¬ p1 = 3) (h3 : ¬ p1 = 4) (h4 : ¬ p1 = 5) (h5 : ¬ p1 = 6) (h6 : ¬ p1 = 7) (h7 : (-2147483648) ≤ p1 ∧ p1 ≤ 2147483647) : p1 < 1 ∨ 7 < p1 := by omega
set_option maxRecDepth 4000 in
set_option maxHeartbeats 4000000 in
theorem c_X3_toldInAll {l : Launch} {D : va_G} {c : Nat → ClassId} {H0 : Heap} {sa : Nat × Nat × (Nat → Int32)} {w : mW} {μ : mM} (hw : mWF w) (hT : mT w μ) {p1 : Int} (hp1 : (-2147483648) ≤ p1 ∧ p1 ≤ 2147483647) : sC (gG l D c H0 sa) mX3_toldInAll 1 0 0 [.ref 76, iv p1] (mk w μ) (qP w μ (fun z => ((-2147483648) ≤ z ∧ z ≤ 2147483647) ∧ True)) := by
  refine sC.of rfl (by decide) (le_t rfl) ?_
  refine mr_lvE (lv' := [(0, .ref 76), (1, iv p1)]) rfl ?_
  refine mr_iload_n (pc := 0) (z := p1) dX3_toldInAll_0 rfl rfl ?_
  by_cases h1 : p1 = 1
  · refine mr_tableIn (pc := 1) (v := 1) (tgt := 44) dX3_toldInAll_1 h1 rfl rfl (by decide) ?_
    have h2 : 1 ≤ p1 ∧ p1 ≤ 1 := (vc_X3_toldInAll_1 h1 hp1)
    refine sv_aload_n (pc := 44) dX3_toldInAll_44 rfl rfl ?_
    refine gf_X3_13 (pc := 45) dX3_toldInAll_45 wF_X3_63 (A_76 hw) hT fun z3 q4 h5 => ?_
    exact mr_iretP dX3_toldInAll_48 rfl (le_t rfl) (le_t rfl) ⟨(rW (c := (-2147483648)) (d := 2147483647) h5 rfl), trivial⟩
  by_cases h6 : p1 = 2
  · refine mr_tableIn (pc := 1) (v := 2) (tgt := 49) dX3_toldInAll_1 h6 rfl rfl (by decide) ?_
    have h7 : 2 ≤ p1 ∧ p1 ≤ 2 := (vc_X3_toldInAll_2 h6 h1 hp1)
    refine sv_aload_n (pc := 49) dX3_toldInAll_49 rfl rfl ?_
    refine gf_X3_14 (pc := 50) dX3_toldInAll_50 wF_X3_66 (A_76 hw) hT fun z8 q9 h10 => ?_
    exact mr_iretP dX3_toldInAll_53 rfl (le_t rfl) (le_t rfl) ⟨(rW (c := (-2147483648)) (d := 2147483647) h10 rfl), trivial⟩
  by_cases h11 : p1 = 3
  · refine mr_tableIn (pc := 1) (v := 3) (tgt := 54) dX3_toldInAll_1 h11 rfl rfl (by decide) ?_
    have h12 : 3 ≤ p1 ∧ p1 ≤ 3 := (vc_X3_toldInAll_3 h11 h1 h6 hp1)
    refine sv_aload_n (pc := 54) dX3_toldInAll_54 rfl rfl ?_
    refine gf_X3_5 (pc := 55) dX3_toldInAll_55 wF_X3_79 (A_76 hw) hT fun z13 q14 h15 => ?_
    exact mr_iretP dX3_toldInAll_58 rfl (le_t rfl) (le_t rfl) ⟨(rW (c := (-2147483648)) (d := 2147483647) h15 rfl), trivial⟩
  by_cases h16 : p1 = 4
  · refine mr_tableIn (pc := 1) (v := 4) (tgt := 59) dX3_toldInAll_1 h16 rfl rfl (by decide) ?_
    have h17 : 4 ≤ p1 ∧ p1 ≤ 4 := (vc_X3_toldInAll_4 h16 h1 h6 h11 hp1)
    refine sv_aload_n (pc := 59) dX3_toldInAll_59 rfl rfl ?_
    refine gf_X3_9 (pc := 60) dX3_toldInAll_60 wF_X3_28 (A_76 hw) hT ?_
    refine gf_X7_5 (pc := 63) dX3_toldInAll_63 wF_X3_127 (A_81 hw) hT fun z18 q19 h20 => ?_
    exact mr_iretP dX3_toldInAll_66 rfl (le_t rfl) (le_t rfl) ⟨h20, trivial⟩
  by_cases h21 : p1 = 5
  · refine mr_tableIn (pc := 1) (v := 5) (tgt := 67) dX3_toldInAll_1 h21 rfl rfl (by decide) ?_
    have h22 : 5 ≤ p1 ∧ p1 ≤ 5 := (vc_X3_toldInAll_5 h21 h1 h6 h11 h16 hp1)
    refine sv_aload_n (pc := 67) dX3_toldInAll_67 rfl rfl ?_
    refine gf_X3_9 (pc := 68) dX3_toldInAll_68 wF_X3_28 (A_76 hw) hT ?_
    refine gf_X7_6 (pc := 71) dX3_toldInAll_71 wF_X3_134 (A_81 hw) hT fun z23 q24 h25 => ?_
    exact mr_iretP dX3_toldInAll_74 rfl (le_t rfl) (le_t rfl) ⟨h25, trivial⟩
  by_cases h26 : p1 = 6
  · refine mr_tableIn (pc := 1) (v := 6) (tgt := 75) dX3_toldInAll_1 h26 rfl rfl (by decide) ?_
    have h27 : 6 ≤ p1 ∧ p1 ≤ 6 := (vc_X3_toldInAll_6 h26 h1 h6 h11 h16 h21 hp1)
    refine sv_aload_n (pc := 75) dX3_toldInAll_75 rfl rfl ?_
    refine gf_X3_9 (pc := 76) dX3_toldInAll_76 wF_X3_28 (A_76 hw) hT ?_
    refine gf_X7_7 (pc := 79) dX3_toldInAll_79 wF_X3_147 (A_81 hw) hT fun z28 q29 h30 => ?_
    exact mr_iretP dX3_toldInAll_82 rfl (le_t rfl) (le_t rfl) ⟨(rW (c := (-2147483648)) (d := 2147483647) h30 rfl), trivial⟩
  by_cases h31 : p1 = 7
  · refine mr_tableIn (pc := 1) (v := 7) (tgt := 83) dX3_toldInAll_1 h31 rfl rfl (by decide) ?_
    have h32 : 7 ≤ p1 ∧ p1 ≤ 7 := (vc_X3_toldInAll_7 h31 h1 h6 h11 h16 h21 h26 hp1)
    refine sv_aload_n (pc := 83) dX3_toldInAll_83 rfl rfl ?_
    refine gf_X3_6 (pc := 84) dX3_toldInAll_84 wF_X3_59 (A_76 hw) hT fun z33 q34 h35 => ?_
    exact mr_iretP dX3_toldInAll_87 rfl (le_t rfl) (le_t rfl) ⟨(rW (c := (-2147483648)) (d := 2147483647) h35 rfl), trivial⟩
  refine mr_tableOut (pc := 1) (tgt := 88) dX3_toldInAll_1 hp1 (vc_X3_toldInAll_8 h1 h6 h11 h16 h21 h26 h31 hp1) (by decide) ?_
  refine mr_ldc (pc := 88) (z := (-99999999)) dX3_toldInAll_88 wG_X3_21 (by decide) ?_
  exact mr_iretP dX3_toldInAll_90 rfl (le_t rfl) (le_t rfl) ⟨(rW (c := (-2147483648)) (d := 2147483647) (rR (x := (-99999999))) rfl), trivial⟩
theorem vc_X3_toldOfRow_2 {p1 z211 : Int} (h0 : z211 = 1) (h1 : p1 / 100 = z211) (h2 : 100 ≤ p1 ∧ p1 ≤ 2147483647) (h3 : 1 ≤ z211 ∧ z211 ≤ 21474836) : 1 ≤ z211 ∧ z211 ≤ 1 := by omega
theorem vc_X3_toldOfRow_3 {f_an f_wd p1 z208 : Int} (h0 : f_wd ≤ z208) (h1 : f_wd + f_an ≤ 1000) (h2 : p1 % 100 = z208) (h3 : 0 ≤ f_an ∧ f_an ≤ 1000) (h4 : 0 ≤ f_wd ∧ f_wd ≤ 1000) (h5 : 100 ≤ p1 ∧ p1 ≤ 2147483647) (h6 : 0 ≤ z208 ∧ z208 ≤ 99) : 0 ≤ f_wd ∧ f_wd ≤ 99 := by omega
theorem vc_X3_toldOfRow_4 {f_an f_wd p1 z208 : Int} (h0 : z208 < f_wd) (h1 : f_wd + f_an ≤ 1000) (h2 : p1 % 100 = z208) (h3 : 0 ≤ f_an ∧ f_an ≤ 1000) (h4 : 0 ≤ f_wd ∧ f_wd ≤ 1000) (h5 : 100 ≤ p1 ∧ p1 ≤ 2147483647) (h6 : 0 ≤ z208 ∧ z208 ≤ 99) : 1 ≤ f_wd ∧ f_wd ≤ 1000 := by omega
theorem vc_X3_toldOfRow_5 {p1 z211 : Int} (h0 : ¬ z211 = 1) (h1 : p1 / 100 = z211) (h2 : 100 ≤ p1 ∧ p1 ≤ 2147483647) (h3 : 1 ≤ z211 ∧ z211 ≤ 21474836) : 2 ≤ z211 ∧ z211 ≤ 21474836 := by omega
theorem vc_X3_toldOfRow_6 {p1 z211 : Int} (h0 : z211 = 2) (h1 : p1 / 100 = z211) (h2 : ¬ z211 = 1) (h3 : 100 ≤ p1 ∧ p1 ≤ 2147483647) (h4 : 2 ≤ z211 ∧ z211 ≤ 21474836) : 2 ≤ z211 ∧ z211 ≤ 2 := by omega
theorem vc_X3_toldOfRow_7 {p1 z211 : Int} (h0 : ¬ z211 = 2) (h1 : p1 / 100 = z211) (h2 : ¬ z211 = 1) (h3 : 100 ≤ p1 ∧ p1 ≤ 2147483647) (h4 : 2 ≤ z211 ∧ z211 ≤ 21474836) : 3 ≤ z211 ∧ z211 ≤ 21474836 := by omega
theorem vc_X3_toldOfRow_8 {p1 z211 : Int} (h0 : z211 = 3) (h1 : p1 / 100 = z211) (h2 : ¬ z211 = 1) (h3 : ¬ z211 = 2) (h4 : 100 ≤ p1 ∧ p1 ≤ 2147483647) (h5 : 3 ≤ z211 ∧ z211 ≤ 21474836) : 3 ≤ z211 ∧ z211 ≤ 3 := by omega
theorem vc_X3_toldOfRow_9 {f_an f_wd p1 z208 : Int} (h0 : f_an ≤ z208) (h1 : f_wd + f_an ≤ 1000) (h2 : p1 % 100 = z208) (h3 : 0 ≤ f_an ∧ f_an ≤ 1000) (h4 : 0 ≤ f_wd ∧ f_wd ≤ 1000) (h5 : 100 ≤ p1 ∧ p1 ≤ 2147483647) (h6 : 0 ≤ z208 ∧ z208 ≤ 99) : 0 ≤ f_an ∧ f_an ≤ 99 := by omega
theorem vc_X3_toldOfRow_10 {f_an f_wd p1 z208 : Int} (h0 : z208 < f_an) (h1 : f_wd + f_an ≤ 1000) (h2 : p1 % 100 = z208) (h3 : 0 ≤ f_an ∧ f_an ≤ 1000) (h4 : 0 ≤ f_wd ∧ f_wd ≤ 1000) (h5 : 100 ≤ p1 ∧ p1 ≤ 2147483647) (h6 : 0 ≤ z208 ∧ z208 ≤ 99) : 1 ≤ f_an ∧ f_an ≤ 1000 := by omega
theorem vc_X3_toldOfRow_11 {f_an f_wd p1 z208 z211 : Int} (h0 : f_wd + f_an ≤ 1000) (h1 : p1 % 100 = z208) (h2 : z208 < f_an) (h3 : p1 / 100 = z211) (h4 : 1 ≤ f_an ∧ f_an ≤ 1000) (h5 : 0 ≤ f_wd ∧ f_wd ≤ 1000) (h6 : 100 ≤ p1 ∧ p1 ≤ 2147483647) (h7 : 0 ≤ z208 ∧ z208 ≤ 99) (h8 : 3 ≤ z211 ∧ z211 ≤ 3) : 0 ≤ (f_wd + z208) ∧ (f_wd + z208) < 1000 := by omega
theorem vc_X3_toldOfRow_12 {p1 z211 : Int} (h0 : ¬ z211 = 3) (h1 : p1 / 100 = z211) (h2 : ¬ z211 = 1) (h3 : ¬ z211 = 2) (h4 : 100 ≤ p1 ∧ p1 ≤ 2147483647) (h5 : 3 ≤ z211 ∧ z211 ≤ 21474836) : 4 ≤ z211 ∧ z211 ≤ 21474836 := by omega
theorem vc_X3_toldOfRow_13 {p1 z211 : Int} (h0 : z211 = 4) (h1 : p1 / 100 = z211) (h2 : ¬ z211 = 1) (h3 : ¬ z211 = 2) (h4 : ¬ z211 = 3) (h5 : 100 ≤ p1 ∧ p1 ≤ 2147483647) (h6 : 4 ≤ z211 ∧ z211 ≤ 21474836) : 4 ≤ z211 ∧ z211 ≤ 4 := by omega
theorem vc_X3_toldOfRow_14 {f_an f_wd p1 z208 z211 : Int} (h0 : f_wd + f_an ≤ 1000) (h1 : p1 % 100 = z208) (h2 : z208 < f_an) (h3 : p1 / 100 = z211) (h4 : 1 ≤ f_an ∧ f_an ≤ 1000) (h5 : 0 ≤ f_wd ∧ f_wd ≤ 1000) (h6 : 100 ≤ p1 ∧ p1 ≤ 2147483647) (h7 : 0 ≤ z208 ∧ z208 ≤ 99) (h8 : 4 ≤ z211 ∧ z211 ≤ 4) : 0 ≤ (f_wd + z208) ∧ (f_wd + z208) < 1000 := by omega
theorem vc_X3_toldOfRow_15 {p1 z211 : Int} (h0 : ¬ z211 = 4) (h1 : p1 / 100 = z211) (h2 : ¬ z211 = 1) (h3 : ¬ z211 = 2) (h4 : ¬ z211 = 3) (h5 : 100 ≤ p1 ∧ p1 ≤ 2147483647) (h6 : 4 ≤ z211 ∧ z211 ≤ 21474836) : 5 ≤ z211 ∧ z211 ≤ 21474836 := by omega
theorem vc_X3_toldOfRow_16 {p1 z211 : Int} (h0 : z211 = 5) (h1 : p1 / 100 = z211) (h2 : ¬ z211 = 1) (h3 : ¬ z211 = 2) (h4 : ¬ z211 = 3) (h5 : ¬ z211 = 4) (h6 : 100 ≤ p1 ∧ p1 ≤ 2147483647) (h7 : 5 ≤ z211 ∧ z211 ≤ 21474836) : 5 ≤ z211 ∧ z211 ≤ 5 := by omega
theorem vc_X3_toldOfRow_17 {p1 z208 z272 : Int} (h0 : z208 < z272) (h1 : p1 % 100 = z208) (h2 : 100 ≤ p1 ∧ p1 ≤ 2147483647) (h3 : 0 ≤ z208 ∧ z208 ≤ 99) (h4 : 0 ≤ z272 ∧ z272 ≤ 20) : 0 ≤ z208 ∧ z208 ≤ 19 := by omega
theorem vc_X3_toldOfRow_18 {p1 z208 z272 : Int} (h0 : z208 < z272) (h1 : p1 % 100 = z208) (h2 : 100 ≤ p1 ∧ p1 ≤ 2147483647) (h3 : 0 ≤ z208 ∧ z208 ≤ 19) (h4 : 0 ≤ z272 ∧ z272 ≤ 20) : 1 ≤ z272 ∧ z272 ≤ 20 := by omega
theorem vc_X3_toldOfRow_19 {p1 z211 : Int} (h0 : ¬ z211 = 5) (h1 : p1 / 100 = z211) (h2 : ¬ z211 = 1) (h3 : ¬ z211 = 2) (h4 : ¬ z211 = 3) (h5 : ¬ z211 = 4) (h6 : 100 ≤ p1 ∧ p1 ≤ 2147483647) (h7 : 5 ≤ z211 ∧ z211 ≤ 21474836) : 6 ≤ z211 ∧ z211 ≤ 21474836 := by omega
theorem vc_X3_toldOfRow_20 {p1 z211 : Int} (h0 : z211 = 6) (h1 : p1 / 100 = z211) (h2 : ¬ z211 = 1) (h3 : ¬ z211 = 2) (h4 : ¬ z211 = 3) (h5 : ¬ z211 = 4) (h6 : ¬ z211 = 5) (h7 : 100 ≤ p1 ∧ p1 ≤ 2147483647) (h8 : 6 ≤ z211 ∧ z211 ≤ 21474836) : 6 ≤ z211 ∧ z211 ≤ 6 := by omega
theorem vc_X3_toldOfRow_21 {p1 z208 z291 : Int} (h0 : z208 < z291) (h1 : p1 % 100 = z208) (h2 : 100 ≤ p1 ∧ p1 ≤ 2147483647) (h3 : 0 ≤ z208 ∧ z208 ≤ 99) (h4 : 0 ≤ z291 ∧ z291 ≤ 8) : 0 ≤ z208 ∧ z208 ≤ 7 := by omega
theorem vc_X3_toldOfRow_22 {p1 z208 z291 : Int} (h0 : z208 < z291) (h1 : p1 % 100 = z208) (h2 : 100 ≤ p1 ∧ p1 ≤ 2147483647) (h3 : 0 ≤ z208 ∧ z208 ≤ 7) (h4 : 0 ≤ z291 ∧ z291 ≤ 8) : 1 ≤ z291 ∧ z291 ≤ 8 := by omega
theorem vc_X3_toldOfRow_23 {p1 z211 : Int} (h0 : ¬ z211 = 6) (h1 : p1 / 100 = z211) (h2 : ¬ z211 = 1) (h3 : ¬ z211 = 2) (h4 : ¬ z211 = 3) (h5 : ¬ z211 = 4) (h6 : ¬ z211 = 5) (h7 : 100 ≤ p1 ∧ p1 ≤ 2147483647) (h8 : 6 ≤ z211 ∧ z211 ≤ 21474836) : 7 ≤ z211 ∧ z211 ≤ 21474836 := by omega
theorem vc_X3_toldOfRow_24 {p1 z208 z211 : Int} (h0 : p1 / 100 = z211) (h1 : ¬ z211 = 1) (h2 : ¬ z211 = 2) (h3 : ¬ z211 = 3) (h4 : ¬ z211 = 4) (h5 : ¬ z211 = 5) (h6 : ¬ z211 = 6) (h7 : p1 % 100 = z208) (h8 : 100 ≤ p1 ∧ p1 ≤ 2147483647) (h9 : 0 ≤ z208 ∧ z208 ≤ 99) (h10 : 7 ≤ z211 ∧ z211 ≤ 21474836) : z211 < 1 ∨ 6 < z211 := by omega
theorem vc_X3_toldOfRow_25 {p1 z208 z211 z306 : Int} (h0 : z306 ≤ (p1 - 700)) (h1 : p1 % 100 = z208) (h2 : p1 / 100 = z211) (h3 : 100 ≤ p1 ∧ p1 ≤ 2147483647) (h4 : 0 ≤ z208 ∧ z208 ≤ 99) (h5 : 7 ≤ z211 ∧ z211 ≤ 21474836) (h6 : 0 ≤ z306 ∧ z306 ≤ 256) : 700 ≤ p1 ∧ p1 ≤ 2147483647 := by omega
theorem vc_X3_toldOfRow_26 {p1 z208 z211 z306 : Int} (h0 : (p1 - 700) < z306) (h1 : p1 % 100 = z208) (h2 : p1 / 100 = z211) (h3 : 100 ≤ p1 ∧ p1 ≤ 2147483647) (h4 : 0 ≤ z208 ∧ z208 ≤ 99) (h5 : 7 ≤ z211 ∧ z211 ≤ 21474836) (h6 : 0 ≤ z306 ∧ z306 ≤ 256) : 100 ≤ p1 ∧ p1 ≤ 955 := by omega
theorem vc_X3_toldOfRow_27 {p1 z208 z211 z306 : Int} (h0 : p1 % 100 = z208) (h1 : p1 / 100 = z211) (h2 : (p1 - 700) < z306) (h3 : ¬ z211 = 1) (h4 : ¬ z211 = 2) (h5 : ¬ z211 = 3) (h6 : ¬ z211 = 4) (h7 : ¬ z211 = 5) (h8 : ¬ z211 = 6) (h9 : 100 ≤ p1 ∧ p1 ≤ 955) (h10 : 0 ≤ z208 ∧ z208 ≤ 99) (h11 : 7 ≤ z211 ∧ z211 ≤ 21474836) (h12 : 0 ≤ z306 ∧ z306 ≤ 256) : 0 ≤ (p1 - 700) ∧ (p1 - 700) < 256 := by omega
set_option maxRecDepth 4000 in
set_option maxHeartbeats 4000000 in
theorem c_X3_toldOfRow {l : Launch} {D : va_G} {c : Nat → ClassId} {H0 : Heap} {sa : Nat × Nat × (Nat → Int32)} {w : mW} {μ : mM} (hw : mWF w) (hT : mT w μ) {p1 : Int} (hp1 : 100 ≤ p1 ∧ p1 ≤ 2147483647) {f_wd : Int} (q_f_wd : μ 76 13 = f_wd) {f_an : Int} (q_f_an : μ 76 14 = f_an) (hq0 : f_wd + f_an ≤ 1000) : sC (gG l D c H0 sa) mX3_toldOfRow 1 0 0 [.ref 76, iv p1] (mk w μ) (qP w μ (fun z => ((-2147483648) ≤ z ∧ z ≤ 2147483647) ∧ True)) := by
  refine sC.of rfl (by decide) (le_t rfl) ?_
  have ht_f_wd : (0 ≤ f_wd ∧ f_wd ≤ 1000) := by rw [← q_f_wd]; exact hT 76 76 (A_76 hw) 13
  have ht_f_an : (0 ≤ f_an ∧ f_an ≤ 1000) := by rw [← q_f_an]; exact hT 76 76 (A_76 hw) 14
  refine mr_lvE (lv' := [(0, .ref 76), (1, iv p1)]) rfl ?_
  refine mr_iload_n (pc := 0) (z := p1) dX3_toldOfRow_0 rfl rfl ?_
  refine mr_bipush (pc := 1) (z := 100) dX3_toldOfRow_1 (by decide) ?_
  refine mr_irem (pc := 3) (x := p1) (y := 100) dX3_toldOfRow_3 (rW (c := 0) (d := 2147483647) hp1 rfl) vc_X12_part_5 ?_
  refine mr_gen (P := fun z => 0 ≤ z ∧ z ≤ 99) (rMod hp1 rfl) fun z208 q209 h210 => ?_
  refine mr_istore_n (pc := 4) (lv' := [(2, iv z208), (0, .ref 76), (1, iv p1)]) dX3_toldOfRow_4 rfl (by decide) rfl ?_
  refine mr_iload_n (pc := 5) (z := p1) dX3_toldOfRow_5 rfl rfl ?_
  refine mr_bipush (pc := 6) (z := 100) dX3_toldOfRow_6 (by decide) ?_
  refine mr_idiv (pc := 8) (x := p1) (y := 100) dX3_toldOfRow_8 (rW (c := 0) (d := 2147483647) hp1 rfl) vc_X12_part_5 ?_
  refine mr_gen (P := fun z => 1 ≤ z ∧ z ≤ 21474836) (rDiv hp1 rfl) fun z211 q212 h213 => ?_
  by_cases h214 : z211 = 1
  · refine mr_tableIn (pc := 9) (v := 1) (tgt := 48) dX3_toldOfRow_9 h214 rfl rfl (by decide) ?_
    have h215 : 1 ≤ z211 ∧ z211 ≤ 1 := (vc_X3_toldOfRow_2 h214 q212 hp1 h213)
    refine mr_iload_n (pc := 48) (z := z208) dX3_toldOfRow_48 rfl rfl ?_
    refine sv_aload_n (pc := 49) dX3_toldOfRow_49 rfl rfl ?_
    refine gk_X3_13 (pc := 50) dX3_toldOfRow_50 wF_X3_63 (A_76 hw) q_f_wd ?_
    refine mr_icmp_ge (pc := 53) (tgt := 65) dX3_toldOfRow_53 (by decide) (r32 h210 rfl) (r32 ht_f_wd rfl) (fun h221 => ?_) (fun h221 => ?_)
    · have h222 : 0 ≤ f_wd ∧ f_wd ≤ 99 := (vc_X3_toldOfRow_3 h221 hq0 q209 ht_f_an ht_f_wd hp1 h210)
      refine mr_ldc (pc := 65) (z := (-99999999)) dX3_toldOfRow_65 wG_X3_21 (by decide) ?_
      exact mr_iretP dX3_toldOfRow_67 rfl (le_t rfl) (le_t rfl) ⟨(rW (c := (-2147483648)) (d := 2147483647) (rR (x := (-99999999))) rfl), trivial⟩
    have h223 : 1 ≤ f_wd ∧ f_wd ≤ 1000 := (vc_X3_toldOfRow_4 h221 hq0 q209 ht_f_an ht_f_wd hp1 h210)
    refine sv_aload_n (pc := 56) dX3_toldOfRow_56 rfl rfl ?_
    refine gf_X3_10 (pc := 57) dX3_toldOfRow_57 wF_X3_32 (A_76 hw) hT ?_
    refine mr_iload_n (pc := 60) (z := z208) dX3_toldOfRow_60 rfl rfl ?_
    refine la_84 (pc := 61) dX3_toldOfRow_61 (A_84 hw) hT (rIx (n := 1000) h210 rfl) fun z224 q225 h226 => ?_
    refine sv_goto (pc := 62) (tgt := 67) dX3_toldOfRow_62 (by decide) ?_
    exact mr_iretP dX3_toldOfRow_67 rfl (le_t rfl) (le_t rfl) ⟨h226, trivial⟩
  have h227 : 2 ≤ z211 ∧ z211 ≤ 21474836 := (vc_X3_toldOfRow_5 h214 q212 hp1 h213)
  by_cases h228 : z211 = 2
  · refine mr_tableIn (pc := 9) (v := 2) (tgt := 68) dX3_toldOfRow_9 h228 rfl rfl (by decide) ?_
    have h229 : 2 ≤ z211 ∧ z211 ≤ 2 := (vc_X3_toldOfRow_6 h228 q212 h214 hp1 h227)
    refine mr_iload_n (pc := 68) (z := z208) dX3_toldOfRow_68 rfl rfl ?_
    refine sv_aload_n (pc := 69) dX3_toldOfRow_69 rfl rfl ?_
    refine gk_X3_13 (pc := 70) dX3_toldOfRow_70 wF_X3_63 (A_76 hw) q_f_wd ?_
    refine mr_icmp_ge (pc := 73) (tgt := 85) dX3_toldOfRow_73 (by decide) (r32 h210 rfl) (r32 ht_f_wd rfl) (fun h235 => ?_) (fun h235 => ?_)
    · have h236 : 0 ≤ f_wd ∧ f_wd ≤ 99 := (vc_X3_toldOfRow_3 h235 hq0 q209 ht_f_an ht_f_wd hp1 h210)
      refine mr_ldc (pc := 85) (z := (-99999999)) dX3_toldOfRow_85 wG_X3_21 (by decide) ?_
      exact mr_iretP dX3_toldOfRow_87 rfl (le_t rfl) (le_t rfl) ⟨(rW (c := (-2147483648)) (d := 2147483647) (rR (x := (-99999999))) rfl), trivial⟩
    have h237 : 1 ≤ f_wd ∧ f_wd ≤ 1000 := (vc_X3_toldOfRow_4 h235 hq0 q209 ht_f_an ht_f_wd hp1 h210)
    refine sv_aload_n (pc := 76) dX3_toldOfRow_76 rfl rfl ?_
    refine gf_X3_11 (pc := 77) dX3_toldOfRow_77 wF_X3_35 (A_76 hw) hT ?_
    refine mr_iload_n (pc := 80) (z := z208) dX3_toldOfRow_80 rfl rfl ?_
    refine la_85 (pc := 81) dX3_toldOfRow_81 (A_85 hw) hT (rIx (n := 1000) h210 rfl) fun z238 q239 h240 => ?_
    refine sv_goto (pc := 82) (tgt := 87) dX3_toldOfRow_82 (by decide) ?_
    exact mr_iretP dX3_toldOfRow_87 rfl (le_t rfl) (le_t rfl) ⟨h240, trivial⟩
  have h241 : 3 ≤ z211 ∧ z211 ≤ 21474836 := (vc_X3_toldOfRow_7 h228 q212 h214 hp1 h227)
  by_cases h242 : z211 = 3
  · refine mr_tableIn (pc := 9) (v := 3) (tgt := 88) dX3_toldOfRow_9 h242 rfl rfl (by decide) ?_
    have h243 : 3 ≤ z211 ∧ z211 ≤ 3 := (vc_X3_toldOfRow_8 h242 q212 h214 h228 hp1 h241)
    refine mr_iload_n (pc := 88) (z := z208) dX3_toldOfRow_88 rfl rfl ?_
    refine sv_aload_n (pc := 89) dX3_toldOfRow_89 rfl rfl ?_
    refine gk_X3_14 (pc := 90) dX3_toldOfRow_90 wF_X3_66 (A_76 hw) q_f_an ?_
    refine mr_icmp_ge (pc := 93) (tgt := 110) dX3_toldOfRow_93 (by decide) (r32 h210 rfl) (r32 ht_f_an rfl) (fun h249 => ?_) (fun h249 => ?_)
    · have h250 : 0 ≤ f_an ∧ f_an ≤ 99 := (vc_X3_toldOfRow_9 h249 hq0 q209 ht_f_an ht_f_wd hp1 h210)
      refine mr_ldc (pc := 110) (z := (-99999999)) dX3_toldOfRow_110 wG_X3_21 (by decide) ?_
      exact mr_iretP dX3_toldOfRow_112 rfl (le_t rfl) (le_t rfl) ⟨(rW (c := (-2147483648)) (d := 2147483647) (rR (x := (-99999999))) rfl), trivial⟩
    have h251 : 1 ≤ f_an ∧ f_an ≤ 1000 := (vc_X3_toldOfRow_10 h249 hq0 q209 ht_f_an ht_f_wd hp1 h210)
    refine sv_aload_n (pc := 96) dX3_toldOfRow_96 rfl rfl ?_
    refine gf_X3_10 (pc := 97) dX3_toldOfRow_97 wF_X3_32 (A_76 hw) hT ?_
    refine sv_aload_n (pc := 100) dX3_toldOfRow_100 rfl rfl ?_
    refine gk_X3_13 (pc := 101) dX3_toldOfRow_101 wF_X3_63 (A_76 hw) q_f_wd ?_
    refine mr_iload_n (pc := 104) (z := z208) dX3_toldOfRow_104 rfl rfl ?_
    refine mr_iadd (pc := 105) (x := f_wd) (y := z208) dX3_toldOfRow_105 ?_
    refine la_84 (pc := 106) dX3_toldOfRow_106 (A_84 hw) hT (vc_X3_toldOfRow_11 hq0 q209 h249 q212 h251 ht_f_wd hp1 h210 h243) fun z252 q253 h254 => ?_
    refine sv_goto (pc := 107) (tgt := 112) dX3_toldOfRow_107 (by decide) ?_
    exact mr_iretP dX3_toldOfRow_112 rfl (le_t rfl) (le_t rfl) ⟨h254, trivial⟩
  have h255 : 4 ≤ z211 ∧ z211 ≤ 21474836 := (vc_X3_toldOfRow_12 h242 q212 h214 h228 hp1 h241)
  by_cases h256 : z211 = 4
  · refine mr_tableIn (pc := 9) (v := 4) (tgt := 113) dX3_toldOfRow_9 h256 rfl rfl (by decide) ?_
    have h257 : 4 ≤ z211 ∧ z211 ≤ 4 := (vc_X3_toldOfRow_13 h256 q212 h214 h228 h242 hp1 h255)
    refine mr_iload_n (pc := 113) (z := z208) dX3_toldOfRow_113 rfl rfl ?_
    refine sv_aload_n (pc := 114) dX3_toldOfRow_114 rfl rfl ?_
    refine gk_X3_14 (pc := 115) dX3_toldOfRow_115 wF_X3_66 (A_76 hw) q_f_an ?_
    refine mr_icmp_ge (pc := 118) (tgt := 135) dX3_toldOfRow_118 (by decide) (r32 h210 rfl) (r32 ht_f_an rfl) (fun h263 => ?_) (fun h263 => ?_)
    · have h264 : 0 ≤ f_an ∧ f_an ≤ 99 := (vc_X3_toldOfRow_9 h263 hq0 q209 ht_f_an ht_f_wd hp1 h210)
      refine mr_ldc (pc := 135) (z := (-99999999)) dX3_toldOfRow_135 wG_X3_21 (by decide) ?_
      exact mr_iretP dX3_toldOfRow_137 rfl (le_t rfl) (le_t rfl) ⟨(rW (c := (-2147483648)) (d := 2147483647) (rR (x := (-99999999))) rfl), trivial⟩
    have h265 : 1 ≤ f_an ∧ f_an ≤ 1000 := (vc_X3_toldOfRow_10 h263 hq0 q209 ht_f_an ht_f_wd hp1 h210)
    refine sv_aload_n (pc := 121) dX3_toldOfRow_121 rfl rfl ?_
    refine gf_X3_11 (pc := 122) dX3_toldOfRow_122 wF_X3_35 (A_76 hw) hT ?_
    refine sv_aload_n (pc := 125) dX3_toldOfRow_125 rfl rfl ?_
    refine gk_X3_13 (pc := 126) dX3_toldOfRow_126 wF_X3_63 (A_76 hw) q_f_wd ?_
    refine mr_iload_n (pc := 129) (z := z208) dX3_toldOfRow_129 rfl rfl ?_
    refine mr_iadd (pc := 130) (x := f_wd) (y := z208) dX3_toldOfRow_130 ?_
    refine la_85 (pc := 131) dX3_toldOfRow_131 (A_85 hw) hT (vc_X3_toldOfRow_14 hq0 q209 h263 q212 h265 ht_f_wd hp1 h210 h257) fun z266 q267 h268 => ?_
    refine sv_goto (pc := 132) (tgt := 137) dX3_toldOfRow_132 (by decide) ?_
    exact mr_iretP dX3_toldOfRow_137 rfl (le_t rfl) (le_t rfl) ⟨h268, trivial⟩
  have h269 : 5 ≤ z211 ∧ z211 ≤ 21474836 := (vc_X3_toldOfRow_15 h256 q212 h214 h228 h242 hp1 h255)
  by_cases h270 : z211 = 5
  · refine mr_tableIn (pc := 9) (v := 5) (tgt := 138) dX3_toldOfRow_9 h270 rfl rfl (by decide) ?_
    have h271 : 5 ≤ z211 ∧ z211 ≤ 5 := (vc_X3_toldOfRow_16 h270 q212 h214 h228 h242 h256 hp1 h269)
    refine mr_iload_n (pc := 138) (z := z208) dX3_toldOfRow_138 rfl rfl ?_
    refine sv_aload_n (pc := 139) dX3_toldOfRow_139 rfl rfl ?_
    refine gf_X3_9 (pc := 140) dX3_toldOfRow_140 wF_X3_28 (A_76 hw) hT ?_
    refine gf_X7_7 (pc := 143) dX3_toldOfRow_143 wF_X3_147 (A_81 hw) hT fun z272 q273 h274 => ?_
    refine mr_icmp_ge (pc := 146) (tgt := 161) dX3_toldOfRow_146 (by decide) (r32 h210 rfl) (r32 h274 rfl) (fun h281 => ?_) (fun h281 => ?_)
    · refine mr_ldc (pc := 161) (z := (-99999999)) dX3_toldOfRow_161 wG_X3_21 (by decide) ?_
      exact mr_iretP dX3_toldOfRow_163 rfl (le_t rfl) (le_t rfl) ⟨(rW (c := (-2147483648)) (d := 2147483647) (rR (x := (-99999999))) rfl), trivial⟩
    have h282 : 0 ≤ z208 ∧ z208 ≤ 19 := (vc_X3_toldOfRow_17 h281 q209 hp1 h210 h274)
    have h283 : 1 ≤ z272 ∧ z272 ≤ 20 := (vc_X3_toldOfRow_18 h281 q209 hp1 h282 h274)
    refine sv_aload_n (pc := 149) dX3_toldOfRow_149 rfl rfl ?_
    refine gf_X3_9 (pc := 150) dX3_toldOfRow_150 wF_X3_28 (A_76 hw) hT ?_
    refine gf_X7_0 (pc := 153) dX3_toldOfRow_153 wF_X3_140 (A_81 hw) hT fun A284 => ?_
    refine mr_iload_n (pc := 156) (z := z208) dX3_toldOfRow_156 rfl rfl ?_
    refine la_201 (pc := 157) dX3_toldOfRow_157 A284 hT (rIx (n := 20) h282 rfl) fun z285 q286 h287 => ?_
    refine sv_goto (pc := 158) (tgt := 163) dX3_toldOfRow_158 (by decide) ?_
    exact mr_iretP dX3_toldOfRow_163 rfl (le_t rfl) (le_t rfl) ⟨h287, trivial⟩
  have h288 : 6 ≤ z211 ∧ z211 ≤ 21474836 := (vc_X3_toldOfRow_19 h270 q212 h214 h228 h242 h256 hp1 h269)
  by_cases h289 : z211 = 6
  · refine mr_tableIn (pc := 9) (v := 6) (tgt := 164) dX3_toldOfRow_9 h289 rfl rfl (by decide) ?_
    have h290 : 6 ≤ z211 ∧ z211 ≤ 6 := (vc_X3_toldOfRow_20 h289 q212 h214 h228 h242 h256 h270 hp1 h288)
    refine mr_iload_n (pc := 164) (z := z208) dX3_toldOfRow_164 rfl rfl ?_
    refine sv_aload_n (pc := 165) dX3_toldOfRow_165 rfl rfl ?_
    refine gf_X3_6 (pc := 166) dX3_toldOfRow_166 wF_X3_59 (A_76 hw) hT fun z291 q292 h293 => ?_
    refine mr_icmp_ge (pc := 169) (tgt := 181) dX3_toldOfRow_169 (by decide) (r32 h210 rfl) (r32 h293 rfl) (fun h299 => ?_) (fun h299 => ?_)
    · refine mr_ldc (pc := 181) (z := (-99999999)) dX3_toldOfRow_181 wG_X3_21 (by decide) ?_
      exact mr_iretP dX3_toldOfRow_183 rfl (le_t rfl) (le_t rfl) ⟨(rW (c := (-2147483648)) (d := 2147483647) (rR (x := (-99999999))) rfl), trivial⟩
    have h300 : 0 ≤ z208 ∧ z208 ≤ 7 := (vc_X3_toldOfRow_21 h299 q209 hp1 h210 h293)
    have h301 : 1 ≤ z291 ∧ z291 ≤ 8 := (vc_X3_toldOfRow_22 h299 q209 hp1 h300 h293)
    refine sv_aload_n (pc := 172) dX3_toldOfRow_172 rfl rfl ?_
    refine gf_X3_2 (pc := 173) dX3_toldOfRow_173 wF_X3_18 (A_76 hw) hT ?_
    refine mr_iload_n (pc := 176) (z := z208) dX3_toldOfRow_176 rfl rfl ?_
    refine la_79 (pc := 177) dX3_toldOfRow_177 (A_79 hw) hT (rIx (n := 8) h300 rfl) fun z302 q303 h304 => ?_
    refine sv_goto (pc := 178) (tgt := 183) dX3_toldOfRow_178 (by decide) ?_
    exact mr_iretP dX3_toldOfRow_183 rfl (le_t rfl) (le_t rfl) ⟨h304, trivial⟩
  have h305 : 7 ≤ z211 ∧ z211 ≤ 21474836 := (vc_X3_toldOfRow_23 h289 q212 h214 h228 h242 h256 h270 hp1 h288)
  refine mr_tableOut (pc := 9) (tgt := 184) dX3_toldOfRow_9 (r32 h305 rfl) (vc_X3_toldOfRow_24 q212 h214 h228 h242 h256 h270 h289 q209 hp1 h210 h305) (by decide) ?_
  refine mr_iload_n (pc := 184) (z := p1) dX3_toldOfRow_184 rfl rfl ?_
  refine mr_sipush (pc := 185) (z := 700) dX3_toldOfRow_185 (by decide) ?_
  refine mr_isub (pc := 188) (x := p1) (y := 700) dX3_toldOfRow_188 ?_
  refine sv_aload_n (pc := 189) dX3_toldOfRow_189 rfl rfl ?_
  refine gf_X3_5 (pc := 190) dX3_toldOfRow_190 wF_X3_79 (A_76 hw) hT fun z306 q307 h308 => ?_
  refine mr_icmp_ge (pc := 193) (tgt := 209) dX3_toldOfRow_193 (by decide) (r32 (rSub (e := (-600)) (f := 2147482947) hp1 (rR (x := 700)) rfl) rfl) (r32 h308 rfl) (fun h314 => ?_) (fun h314 => ?_)
  · have h315 : 700 ≤ p1 ∧ p1 ≤ 2147483647 := (vc_X3_toldOfRow_25 h314 q209 q212 hp1 h210 h305 h308)
    refine mr_ldc (pc := 209) (z := (-99999999)) dX3_toldOfRow_209 wG_X3_21 (by decide) ?_
    exact mr_iretP dX3_toldOfRow_211 rfl (le_t rfl) (le_t rfl) ⟨(rW (c := (-2147483648)) (d := 2147483647) (rR (x := (-99999999))) rfl), trivial⟩
  have h316 : 100 ≤ p1 ∧ p1 ≤ 955 := (vc_X3_toldOfRow_26 h314 q209 q212 hp1 h210 h305 h308)
  refine sv_aload_n (pc := 196) dX3_toldOfRow_196 rfl rfl ?_
  refine gf_X3_1 (pc := 197) dX3_toldOfRow_197 wF_X3_15 (A_76 hw) hT ?_
  refine mr_iload_n (pc := 200) (z := p1) dX3_toldOfRow_200 rfl rfl ?_
  refine mr_sipush (pc := 201) (z := 700) dX3_toldOfRow_201 (by decide) ?_
  refine mr_isub (pc := 204) (x := p1) (y := 700) dX3_toldOfRow_204 ?_
  refine la_78 (pc := 205) dX3_toldOfRow_205 (A_78 hw) hT (vc_X3_toldOfRow_27 q209 q212 h314 h214 h228 h242 h256 h270 h289 h316 h210 h305 h308) fun z317 q318 h319 => ?_
  refine sv_goto (pc := 206) (tgt := 211) dX3_toldOfRow_206 (by decide) ?_
  exact mr_iretP dX3_toldOfRow_211 rfl (le_t rfl) (le_t rfl) ⟨h319, trivial⟩
theorem vc_X3_told_4 {p1 : Int} (h0 : 100 ≤ p1) (h1 : ¬ p1 = 0) (h2 : 0 ≤ p1) (h3 : 0 ≤ p1 ∧ p1 ≤ 2147483647) : 100 ≤ p1 ∧ p1 ≤ 2147483647 := by omega
theorem vc_X3_told_5 {f_an f_wd : Int} (h0 : f_wd + f_an ≤ 1000) (h1 : 0 ≤ f_an ∧ f_an ≤ 1000) (h2 : 0 ≤ f_wd ∧ f_wd ≤ 1000) : f_wd + f_an ≤ 1000 := by omega
theorem vc_X3_told_6 {p1 : Int} (h0 : p1 < 100) (h1 : ¬ p1 = 0) (h2 : 0 ≤ p1) (h3 : 0 ≤ p1 ∧ p1 ≤ 2147483647) : 0 ≤ p1 ∧ p1 ≤ 99 := by omega
set_option maxRecDepth 4000 in
set_option maxHeartbeats 4000000 in
theorem c_X3_told {l : Launch} {D : va_G} {c : Nat → ClassId} {H0 : Heap} {sa : Nat × Nat × (Nat → Int32)} {w : mW} {μ : mM} (hw : mWF w) (hT : mT w μ) {p1 : Int} (hp1 : (-2147483648) ≤ p1 ∧ p1 ≤ 2147483647) {f_wd : Int} (q_f_wd : μ 76 13 = f_wd) {f_an : Int} (q_f_an : μ 76 14 = f_an) (hq0 : f_wd + f_an ≤ 1000) : sC (gG l D c H0 sa) mX3_told 2 0 0 [.ref 76, iv p1] (mk w μ) (qP w μ (fun z => ((-2147483648) ≤ z ∧ z ≤ 2147483647) ∧ True)) := by
  refine sC.of rfl (by decide) (le_t rfl) ?_
  have ht_f_wd : (0 ≤ f_wd ∧ f_wd ≤ 1000) := by rw [← q_f_wd]; exact hT 76 76 (A_76 hw) 13
  have ht_f_an : (0 ≤ f_an ∧ f_an ≤ 1000) := by rw [← q_f_an]; exact hT 76 76 (A_76 hw) 14
  refine mr_lvE (lv' := [(0, .ref 76), (1, iv p1)]) rfl ?_
  refine mr_iload_n (pc := 0) (z := p1) dX3_told_0 rfl rfl ?_
  refine mr_if_ne (pc := 1) (tgt := 9) dX3_told_1 (by decide) hp1 (fun h76 => ?_) (fun h76 => ?_)
  · refine sv_aload_n (pc := 9) dX3_told_9 rfl rfl ?_
    refine gf_X3_16 (pc := 10) dX3_told_10 wF_X3_51 (A_76 hw) hT fun z77 q78 h79 => ?_
    refine mr_if_eq (pc := 13) (tgt := 20) dX3_told_13 (by decide) (r32 h79 rfl) (fun h80 => ?_) (fun h80 => ?_)
    · have h81 : 0 ≤ z77 ∧ z77 ≤ 0 := (vc_X12_ring_22 h80 h79)
      refine mr_ldc (pc := 20) (z := (-99999999)) dX3_told_20 wG_X3_21 (by decide) ?_
      exact mr_iretP dX3_told_22 rfl (le_t rfl) (le_t rfl) ⟨(rW (c := (-2147483648)) (d := 2147483647) (rR (x := (-99999999))) rfl), trivial⟩
    have h82 : 1 ≤ z77 ∧ z77 ≤ 1 := (vc_X12_ring_24 h80 h79)
    refine mr_iload_n (pc := 16) (z := p1) dX3_told_16 rfl rfl ?_
    refine mr_if_ge (pc := 17) (tgt := 23) dX3_told_17 (by decide) hp1 (fun h83 => ?_) (fun h83 => ?_)
    · have h84 : 0 ≤ p1 ∧ p1 ≤ 2147483647 := (vc_X12_part_4 h83 h76 hp1)
      refine mr_iload_n (pc := 23) (z := p1) dX3_told_23 rfl rfl ?_
      refine mr_bipush (pc := 24) (z := 100) dX3_told_24 (by decide) ?_
      refine mr_icmp_ge (pc := 26) (tgt := 37) dX3_told_26 (by decide) (r32 h84 rfl) (r32 (rR (x := 100)) rfl) (fun h97 => ?_) (fun h97 => ?_)
      · have h98 : 100 ≤ p1 ∧ p1 ≤ 2147483647 := (vc_X3_told_4 h97 h76 h83 h84)
        refine sv_aload_n (pc := 37) dX3_told_37 rfl rfl ?_
        refine mr_iload_n (pc := 38) (z := p1) dX3_told_38 rfl rfl ?_
        refine mr_cVP (pc := 39) (c_X3_toldOfRow hw hT h98 q_f_wd q_f_an (vc_X3_told_5 hq0 ht_f_an ht_f_wd)) (gOk _ _ _ _ _) dX3_told_39 (tX3_toldOfRow _ _ _ _ _) ⟨wV_X3_toldOfRow, wL_X3_toldOfRow⟩ wM_X3_160 (gCX3 _ _ _ _ _) rfl (A_76 hw) rfl ⟨le_t rfl, le_t rfl⟩ ⟨le_t rfl, le_t rfl⟩ rfl (le_t rfl) fun z103 h102 => ?_
        exact mr_iretP dX3_told_42 rfl (le_t rfl) (le_t rfl) ⟨h102.1, trivial⟩
      have h104 : 0 ≤ p1 ∧ p1 ≤ 99 := (vc_X3_told_6 h97 h76 h83 h84)
      refine sv_aload_n (pc := 29) dX3_told_29 rfl rfl ?_
      refine mr_iload_n (pc := 30) (z := p1) dX3_told_30 rfl rfl ?_
      refine mr_cVP (pc := 31) (c_X3_toldInAll hw hT (rW (c := (-2147483648)) (d := 2147483647) h104 rfl)) (gOk _ _ _ _ _) dX3_told_31 (tX3_toldInAll _ _ _ _ _) ⟨wV_X3_toldInAll, wL_X3_toldInAll⟩ wM_X3_157 (gCX3 _ _ _ _ _) rfl (A_76 hw) rfl ⟨le_t rfl, le_t rfl⟩ ⟨le_t rfl, le_t rfl⟩ rfl (le_t rfl) fun z109 h108 => ?_
      refine sv_goto (pc := 34) (tgt := 42) dX3_told_34 (by decide) ?_
      exact mr_iretP dX3_told_42 rfl (le_t rfl) (le_t rfl) ⟨h108.1, trivial⟩
    have h110 : (-2147483648) ≤ p1 ∧ p1 ≤ (-1) := (vc_X12_part_39 h83 h76 hp1)
    refine mr_ldc (pc := 20) (z := (-99999999)) dX3_told_20 wG_X3_21 (by decide) ?_
    exact mr_iretP dX3_told_22 rfl (le_t rfl) (le_t rfl) ⟨(rW (c := (-2147483648)) (d := 2147483647) (rR (x := (-99999999))) rfl), trivial⟩
  have h111 : 0 ≤ p1 ∧ p1 ≤ 0 := (vc_X12_mask_1 h76 hp1)
  refine sv_aload_n (pc := 4) dX3_told_4 rfl rfl ?_
  refine mr_cVP (pc := 5) (c_X3_placeTold hw hT) (gOk _ _ _ _ _) dX3_told_5 (tX3_placeTold _ _ _ _ _) ⟨wV_X3_placeTold, wL_X3_placeTold⟩ wM_X3_153 (gCX3 _ _ _ _ _) rfl (A_76 hw) rfl ⟨le_t rfl, le_t rfl⟩ ⟨le_t rfl, le_t rfl⟩ rfl (le_t rfl) fun z116 h115 => ?_
  exact mr_iretP dX3_told_8 rfl (le_t rfl) (le_t rfl) ⟨h115.1, trivial⟩
set_option maxRecDepth 4000 in
set_option maxHeartbeats 4000000 in
theorem c_X11_part {l : Launch} {D : va_G} {c : Nat → ClassId} {H0 : Heap} {sa : Nat × Nat × (Nat → Int32)} {w : mW} {μ : mM} (hw : mWF w) (hT : mT w μ) {p1 : Int} (hp1 : (-2147483648) ≤ p1 ∧ p1 ≤ 2147483647) {f_wd : Int} (q_f_wd : μ 76 13 = f_wd) {f_an : Int} (q_f_an : μ 76 14 = f_an) (hq0 : f_wd + f_an ≤ 1000) : sC (gG l D c H0 sa) mX11_part 3 0 0 [.ref 0, iv p1] (mk w μ) (qP w μ (fun z => ((-2147483648) ≤ z ∧ z ≤ 2147483647) ∧ True)) := by
  refine sC.of rfl (by decide) (le_t rfl) ?_
  have ht_f_wd : (0 ≤ f_wd ∧ f_wd ≤ 1000) := by rw [← q_f_wd]; exact hT 76 76 (A_76 hw) 13
  have ht_f_an : (0 ≤ f_an ∧ f_an ≤ 1000) := by rw [← q_f_an]; exact hT 76 76 (A_76 hw) 14
  refine mr_lvE (lv' := [(0, .ref 0), (1, iv p1)]) rfl ?_
  refine sv_aload_n (pc := 0) dX11_part_0 rfl rfl ?_
  refine gf_X11_7 (pc := 1) dX11_part_1 wF_X11_58 (A_0 hw) hT ?_
  refine mr_iload_n (pc := 4) (z := p1) dX11_part_4 rfl rfl ?_
  refine mr_cVP (pc := 5) (c_X3_told hw hT hp1 q_f_wd q_f_an (vc_X3_told_5 hq0 ht_f_an ht_f_wd)) (gOk _ _ _ _ _) dX11_part_5 (tX3_told _ _ _ _ _) ⟨wV_X3_told, wL_X3_told⟩ wM_X11_341 (gCX3 _ _ _ _ _) rfl (A_76 hw) rfl ⟨le_t rfl, le_t rfl⟩ ⟨le_t rfl, le_t rfl⟩ rfl (le_t rfl) fun z20 h19 => ?_
  exact mr_iretP dX11_part_8 rfl (le_t rfl) (le_t rfl) ⟨h19.1, trivial⟩
theorem vc_X3_putNumber_1 {z43 : Int} (h0 : (z43 - (-2)) < ((0 : Nat) : Int)) (h1 : (-1) ≤ z43 ∧ z43 ≤ 3) : False := by omega
theorem vc_X3_putNumber_2 {z43 : Int} (h0 : z43 < 0) (h1 : (-1) ≤ z43 ∧ z43 ≤ 3) : (-1) ≤ z43 ∧ z43 ≤ (-1) := by omega
theorem vc_X3_putNumber_3 {z43 : Int} (h0 : 0 ≤ z43) (h1 : (-1) ≤ z43 ∧ z43 ≤ 3) : 0 ≤ z43 ∧ z43 ≤ 3 := by omega
theorem vc_X3_putNumber_4 {z74 : Int} (h0 : 256 ≤ z74) (h1 : 0 ≤ z74 ∧ z74 ≤ 256) : 256 ≤ z74 ∧ z74 ≤ 256 := by omega
theorem vc_X3_putNumber_5 {z74 : Int} (h0 : z74 < 256) (h1 : 0 ≤ z74 ∧ z74 ≤ 256) : 0 ≤ z74 ∧ z74 ≤ 255 := by omega
theorem vc_X3_putNumber_6 {N z43 : Int} (h0 : (z43 - (-2)) < N + 1) (h1 : 0 ≤ z43) (h2 : 0 ≤ z43 ∧ z43 ≤ 3) : ((z43 + (-1)) - (-2)) < N := by omega
theorem vc_X3_putNumber_7 {p2 : Int} (h0 : 0 ≤ p2 ∧ p2 ≤ 4) : ((p2 - 1) - (-2)) < ((6 : Nat) : Int) := by omega
set_option maxRecDepth 4000 in
set_option maxHeartbeats 4000000 in
theorem c_X3_putNumber {l : Launch} {D : va_G} {c : Nat → ClassId} {H0 : Heap} {sa : Nat × Nat × (Nat → Int32)} {w : mW} {μ : mM} (hw : mWF w) (hT : mT w μ) {p1 : Int} (hp1 : (-2147483648) ≤ p1 ∧ p1 ≤ 2147483647) {p2 : Int} (hp2 : 0 ≤ p2 ∧ p2 ≤ 4) : sC (gG l D c H0 sa) mX3_putNumber 1 0 0 [.ref 76, iv p1, iv p2] (mk w μ) (qV w [76015, 86999] μ (fun μ1 => True)) := by
  refine sC.of rfl (by decide) (le_t rfl) ?_
  refine mr_lvE (lv' := [(0, .ref 76), (1, iv p1), (2, iv p2)]) rfl ?_
  refine mr_iload_n (pc := 0) (z := p2) dX3_putNumber_0 rfl rfl ?_
  refine mr_iconst (pc := 1) (z := 1) dX3_putNumber_1 ?_
  refine mr_isub (pc := 2) (x := p2) (y := 1) dX3_putNumber_2 ?_
  refine mr_istore_n (pc := 3) (lv' := [(3, iv (p2 - 1)), (0, .ref 76), (1, iv p1), (2, iv p2)]) dX3_putNumber_3 rfl (by decide) rfl ?_
  have L45 : ∀ (nL45 : Nat) (z43 : Int) (μ44 : mM), mT w μ44 → mF [76015, 86999] w μ μ44 → ((-1) ≤ z43 ∧ z43 ≤ 3) → (z43 - (-2)) < (nL45 : Int) → sV (gG l D c H0 sa) mX3_putNumber (sRm 1 0 0) (sZ (gG l D c H0 sa) 0 0 (qV w [76015, 86999] μ (fun μ1 => True))) 4 [(0, .ref 76), (1, iv p1), (3, iv z43)] [] (mk w μ44) 0 0 := by
    intro nL45
    induction nL45 with
    | zero => intro z43 μ44 T47 F48 h46 h50; exact ((vc_X3_putNumber_1 h50 h46)).elim
    | succ nL45 ih51 =>
      intro z43 μ44 T47 F48 h46 h50
      refine mr_iload_n (pc := 4) (z := z43) dX3_putNumber_4 rfl rfl ?_
      refine mr_if_lt (pc := 5) (tgt := 53) dX3_putNumber_5 (by decide) (r32 h46 rfl) (fun h71 => ?_) (fun h71 => ?_)
      · have h72 : (-1) ≤ z43 ∧ z43 ≤ (-1) := (vc_X3_putNumber_2 h71 h46)
        exact mr_vret dX3_putNumber_53 rfl (le_t rfl) (le_t rfl) T47 (mF.call mF.refl F48 rfl) trivial
      have h73 : 0 ≤ z43 ∧ z43 ≤ 3 := (vc_X3_putNumber_3 h71 h46)
      refine sv_aload_n (pc := 8) dX3_putNumber_8 rfl rfl ?_
      refine gf_X3_15 (pc := 9) dX3_putNumber_9 wF_X3_163 (A_76 hw) T47 fun z74 q75 h76 => ?_
      refine mr_sipush (pc := 12) (z := 256) dX3_putNumber_12 (by decide) ?_
      refine mr_icmp_ge (pc := 15) (tgt := 53) dX3_putNumber_15 (by decide) (r32 h76 rfl) (r32 (rR (x := 256)) rfl) (fun h91 => ?_) (fun h91 => ?_)
      · have h92 : 256 ≤ z74 ∧ z74 ≤ 256 := (vc_X3_putNumber_4 h91 h76)
        exact mr_vret dX3_putNumber_53 rfl (le_t rfl) (le_t rfl) T47 (mF.call mF.refl F48 rfl) trivial
      have h93 : 0 ≤ z74 ∧ z74 ≤ 255 := (vc_X3_putNumber_5 h91 h76)
      refine sv_aload_n (pc := 18) dX3_putNumber_18 rfl rfl ?_
      refine gf_X3_12 (pc := 19) dX3_putNumber_19 wF_X3_38 (A_76 hw) T47 ?_
      refine sv_aload_n (pc := 22) dX3_putNumber_22 rfl rfl ?_
      refine gk_X3_15 (pc := 23) dX3_putNumber_23 wF_X3_163 (A_76 hw) q75 ?_
      refine mr_iload_n (pc := 26) (z := p1) dX3_putNumber_26 rfl rfl ?_
      refine mr_bipush (pc := 27) (z := 8) dX3_putNumber_27 (by decide) ?_
      refine mr_iload_n (pc := 29) (z := z43) dX3_putNumber_29 rfl rfl ?_
      refine mr_imul (pc := 30) (x := 8) (y := z43) dX3_putNumber_30 ?_
      refine mr_iushr (pc := 31) (x := p1) (y := (8 * z43)) dX3_putNumber_31 ?_
      refine mr_gen (P := fun z => (-2147483648) ≤ z ∧ z ≤ 2147483647) (r32i _) fun z94 q95 h96 => ?_
      refine mr_sipush (pc := 32) (z := 255) dX3_putNumber_32 (by decide) ?_
      refine mr_iand (pc := 35) (x := z94) (y := 255) dX3_putNumber_35 ?_
      refine mr_gen (P := fun z => 0 ≤ z ∧ z ≤ 255) (rAndR (rR (x := 255)) rfl) fun z97 q98 h99 => ?_
      refine ss_86 (pc := 36) dX3_putNumber_36 (A_86 hw) T47 (rIx (n := 256) h93 rfl) (rW (c := (-2147483648)) (d := 2147483647) h99 rfl) fun μ100 u101 T102 => ?_
      refine sv_aload_n (pc := 37) dX3_putNumber_37 rfl rfl ?_
      refine sv_dup (pc := 38) dX3_putNumber_38 rfl ?_
      refine gk_X3_15 (pc := 39) dX3_putNumber_39 wF_X3_163 (A_76 hw) (u101.f (Or.inl (mAt.ne (A_86 hw) (A_76 hw) rfl)) q75) ?_
      refine mr_iconst (pc := 42) (z := 1) dX3_putNumber_42 ?_
      refine mr_iadd (pc := 43) (x := z74) (y := 1) dX3_putNumber_43 ?_
      refine pf_X3_15 (pc := 44) dX3_putNumber_44 wF_X3_163 (A_76 hw) T102 (rW (c := 0) (d := 256) (rAdd (e := 1) (f := 256) h93 (rR (x := 1)) rfl) rfl) fun μ103 u104 T105 => ?_
      refine mr_iinc (pc := 47) (lv' := [(3, iv (z43 + (-1))), (0, .ref 76), (1, iv p1)]) dX3_putNumber_47 rfl (by decide) rfl ?_
      refine sv_goto (pc := 50) (tgt := 4) dX3_putNumber_50 (by decide) ?_
      refine mr_lvS (lv' := [(0, .ref 76), (1, iv p1), (3, iv (z43 + (-1)))]) (List.forall_mem_cons.mpr ⟨rfl, List.forall_mem_cons.mpr ⟨rfl, List.forall_mem_cons.mpr ⟨rfl, fun _ h => absurd h List.not_mem_nil⟩⟩⟩) ?_
      exact ih51 (z43 + (-1)) μ103 T105 (mF.up (mF.up (mF.call mF.refl F48 rfl) (A_86 hw) u101 rfl) (A_76 hw) u104 rfl) (rW (c := (-1)) (d := 3) (rAdd (e := (-1)) (f := 2) h73 (rR (x := (-1))) rfl) rfl) (vc_X3_putNumber_6 (nS h50) h71 h73)
  refine mr_lvS (lv' := [(0, .ref 76), (1, iv p1), (3, iv (p2 - 1))]) (List.forall_mem_cons.mpr ⟨rfl, List.forall_mem_cons.mpr ⟨rfl, List.forall_mem_cons.mpr ⟨rfl, fun _ h => absurd h List.not_mem_nil⟩⟩⟩) ?_
  exact L45 6 (p2 - 1) μ hT mF.refl (rSub (e := (-1)) (f := 3) hp2 (rR (x := 1)) rfl) (vc_X3_putNumber_7 hp2)
set_option maxRecDepth 4000 in
set_option maxHeartbeats 4000000 in
theorem c_X3_putHead {l : Launch} {D : va_G} {c : Nat → ClassId} {H0 : Heap} {sa : Nat × Nat × (Nat → Int32)} {w : mW} {μ : mM} (hw : mWF w) (hT : mT w μ) {p1 : Int} (hp1 : (-2147483648) ≤ p1 ∧ p1 ≤ 2147483647) {p2 : Int} (hp2 : (-2147483648) ≤ p2 ∧ p2 ≤ 2147483647) {p3 : Int} (hp3 : (-2147483648) ≤ p3 ∧ p3 ≤ 2147483647) : sC (gG l D c H0 sa) mX3_putHead 2 0 0 [.ref 76, iv p1, iv p2, iv p3] (mk w μ) (qV w [76015, 86999] μ (fun μ1 => True)) := by
  refine sC.of rfl (by decide) (le_t rfl) ?_
  refine mr_lvE (lv' := [(0, .ref 76), (1, iv p1), (2, iv p2), (3, iv p3)]) rfl ?_
  refine sv_aload_n (pc := 0) dX3_putHead_0 rfl rfl ?_
  refine mr_iload_n (pc := 1) (z := p1) dX3_putHead_1 rfl rfl ?_
  refine mr_iconst (pc := 2) (z := 1) dX3_putHead_2 ?_
  refine mr_cVV (pc := 3) (c_X3_putNumber hw hT hp1 (rW (c := 0) (d := 4) (rR (x := 1)) rfl)) (gOk _ _ _ _ _) dX3_putHead_3 (tX3_putNumber _ _ _ _ _) ⟨wV_X3_putNumber, wL_X3_putNumber⟩ wM_X3_169 (gCX3 _ _ _ _ _) rfl (A_76 hw) rfl ⟨le_t rfl, le_t rfl⟩ ⟨le_t rfl, le_t rfl⟩ rfl (le_t rfl) fun μ1 T2 F3 h4 => ?_
  refine sv_aload_n (pc := 6) dX3_putHead_6 rfl rfl ?_
  refine mr_iload_n (pc := 7) (z := p2) dX3_putHead_7 rfl rfl ?_
  refine mr_iconst (pc := 8) (z := 1) dX3_putHead_8 ?_
  refine mr_cVV (pc := 9) (c_X3_putNumber hw T2 hp2 (rW (c := 0) (d := 4) (rR (x := 1)) rfl)) (gOk _ _ _ _ _) dX3_putHead_9 (tX3_putNumber _ _ _ _ _) ⟨wV_X3_putNumber, wL_X3_putNumber⟩ wM_X3_169 (gCX3 _ _ _ _ _) rfl (A_76 hw) rfl ⟨le_t rfl, le_t rfl⟩ ⟨le_t rfl, le_t rfl⟩ rfl (le_t rfl) fun μ5 T6 F7 h8 => ?_
  refine sv_aload_n (pc := 12) dX3_putHead_12 rfl rfl ?_
  refine mr_iload_n (pc := 13) (z := p3) dX3_putHead_13 rfl rfl ?_
  refine mr_iconst (pc := 14) (z := 1) dX3_putHead_14 ?_
  refine mr_cVV (pc := 15) (c_X3_putNumber hw T6 hp3 (rW (c := 0) (d := 4) (rR (x := 1)) rfl)) (gOk _ _ _ _ _) dX3_putHead_15 (tX3_putNumber _ _ _ _ _) ⟨wV_X3_putNumber, wL_X3_putNumber⟩ wM_X3_169 (gCX3 _ _ _ _ _) rfl (A_76 hw) rfl ⟨le_t rfl, le_t rfl⟩ ⟨le_t rfl, le_t rfl⟩ rfl (le_t rfl) fun μ9 T10 F11 h12 => ?_
  exact mr_vret dX3_putHead_18 rfl (le_t rfl) (le_t rfl) T10 (mF.call (mF.call (mF.call mF.refl F3 rfl) F7 rfl) F11 rfl) trivial
theorem vc_X3_putPrefix_2 {z74 : Int} (h0 : (5 - z74) < ((0 : Nat) : Int)) (h1 : 0 ≤ z74 ∧ z74 ≤ 4) : False := by omega
theorem vc_X3_putPrefix_3 {p2 z5 z74 : Int} (h0 : z74 < z5) (h1 : (p2 + 7) / 8 = z5) (h2 : 0 ≤ p2 ∧ p2 ≤ 32) (h3 : 0 ≤ z5 ∧ z5 ≤ 4) (h4 : 0 ≤ z74 ∧ z74 ≤ 4) : 0 ≤ z74 ∧ z74 ≤ 3 := by omega
theorem vc_X3_putPrefix_4 {p2 z5 z74 : Int} (h0 : z74 < z5) (h1 : (p2 + 7) / 8 = z5) (h2 : 0 ≤ p2 ∧ p2 ≤ 32) (h3 : 0 ≤ z5 ∧ z5 ≤ 4) (h4 : 0 ≤ z74 ∧ z74 ≤ 3) : 1 ≤ z5 ∧ z5 ≤ 4 := by omega
theorem vc_X3_putPrefix_5 {N p2 z5 z74 : Int} (h0 : (5 - z74) < N + 1) (h1 : z74 < z5) (h2 : (p2 + 7) / 8 = z5) (h3 : 0 ≤ p2 ∧ p2 ≤ 32) (h4 : 1 ≤ z5 ∧ z5 ≤ 4) (h5 : 0 ≤ z74 ∧ z74 ≤ 3) : (5 - (z74 + 1)) < N := by omega
set_option maxRecDepth 4000 in
set_option maxHeartbeats 4000000 in
theorem c_X3_putPrefix {l : Launch} {D : va_G} {c : Nat → ClassId} {H0 : Heap} {sa : Nat × Nat × (Nat → Int32)} {w : mW} {μ : mM} (hw : mWF w) (hT : mT w μ) {p1 : Int} (hp1 : (-2147483648) ≤ p1 ∧ p1 ≤ 2147483647) {p2 : Int} (hp2 : 0 ≤ p2 ∧ p2 ≤ 32) : sC (gG l D c H0 sa) mX3_putPrefix 2 0 0 [.ref 76, iv p1, iv p2] (mk w μ) (qV w [76015, 86999] μ (fun μ1 => True)) := by
  refine sC.of rfl (by decide) (le_t rfl) ?_
  refine mr_lvE (lv' := [(0, .ref 76), (1, iv p1), (2, iv p2)]) rfl ?_
  refine sv_aload_n (pc := 0) dX3_putPrefix_0 rfl rfl ?_
  refine mr_iload_n (pc := 1) (z := p2) dX3_putPrefix_1 rfl rfl ?_
  refine mr_iconst (pc := 2) (z := 1) dX3_putPrefix_2 ?_
  refine mr_cVV (pc := 3) (c_X3_putNumber hw hT (rW (c := (-2147483648)) (d := 2147483647) hp2 rfl) (rW (c := 0) (d := 4) (rR (x := 1)) rfl)) (gOk _ _ _ _ _) dX3_putPrefix_3 (tX3_putNumber _ _ _ _ _) ⟨wV_X3_putNumber, wL_X3_putNumber⟩ wM_X3_169 (gCX3 _ _ _ _ _) rfl (A_76 hw) rfl ⟨le_t rfl, le_t rfl⟩ ⟨le_t rfl, le_t rfl⟩ rfl (le_t rfl) fun μ1 T2 F3 h4 => ?_
  refine mr_iload_n (pc := 6) (z := p2) dX3_putPrefix_6 rfl rfl ?_
  refine mr_bipush (pc := 7) (z := 7) dX3_putPrefix_7 (by decide) ?_
  refine mr_iadd (pc := 9) (x := p2) (y := 7) dX3_putPrefix_9 ?_
  refine mr_bipush (pc := 10) (z := 8) dX3_putPrefix_10 (by decide) ?_
  refine mr_idiv (pc := 12) (x := (p2 + 7)) (y := 8) dX3_putPrefix_12 (rW (c := 0) (d := 2147483647) (rAdd (e := 7) (f := 39) hp2 (rR (x := 7)) rfl) rfl) vc_X12_prefixOut_4 ?_
  refine mr_gen (P := fun z => 0 ≤ z ∧ z ≤ 4) (rDiv (rAdd (e := 7) (f := 39) hp2 (rR (x := 7)) rfl) rfl) fun z5 q6 h7 => ?_
  refine mr_istore_n (pc := 13) (lv' := [(3, iv z5), (0, .ref 76), (1, iv p1), (2, iv p2)]) dX3_putPrefix_13 rfl (by decide) rfl ?_
  refine mr_iconst (pc := 14) (z := 0) dX3_putPrefix_14 ?_
  refine mr_istore (pc := 15) (lv' := [(4, iv 0), (3, iv z5), (0, .ref 76), (1, iv p1), (2, iv p2)]) dX3_putPrefix_15 (by decide) rfl ?_
  have L76 : ∀ (nL76 : Nat) (z74 : Int) (μ75 : mM), mT w μ75 → mF [76015, 86999] w μ1 μ75 → (0 ≤ z74 ∧ z74 ≤ 4) → (5 - z74) < (nL76 : Int) → sV (gG l D c H0 sa) mX3_putPrefix (sRm 2 0 0) (sZ (gG l D c H0 sa) 0 0 (qV w [76015, 86999] μ (fun μ1 => True))) 17 [(0, .ref 76), (1, iv p1), (3, iv z5), (4, iv z74)] [] (mk w μ75) 0 0 := by
    intro nL76
    induction nL76 with
    | zero => intro z74 μ75 T78 F79 h77 h81; exact ((vc_X3_putPrefix_2 h81 h77)).elim
    | succ nL76 ih82 =>
      intro z74 μ75 T78 F79 h77 h81
      refine mr_iload (pc := 17) (z := z74) dX3_putPrefix_17 rfl ?_
      refine mr_iload_n (pc := 19) (z := z5) dX3_putPrefix_19 rfl rfl ?_
      refine mr_icmp_ge (pc := 20) (tgt := 44) dX3_putPrefix_20 (by decide) (r32 h77 rfl) (r32 h7 rfl) (fun h92 => ?_) (fun h92 => ?_)
      · exact mr_vret dX3_putPrefix_44 rfl (le_t rfl) (le_t rfl) T78 (mF.call (mF.call mF.refl F3 rfl) F79 rfl) trivial
      have h93 : 0 ≤ z74 ∧ z74 ≤ 3 := (vc_X3_putPrefix_3 h92 q6 hp2 h7 h77)
      have h94 : 1 ≤ z5 ∧ z5 ≤ 4 := (vc_X3_putPrefix_4 h92 q6 hp2 h7 h93)
      refine sv_aload_n (pc := 23) dX3_putPrefix_23 rfl rfl ?_
      refine mr_iload_n (pc := 24) (z := p1) dX3_putPrefix_24 rfl rfl ?_
      refine mr_bipush (pc := 25) (z := 24) dX3_putPrefix_25 (by decide) ?_
      refine mr_bipush (pc := 27) (z := 8) dX3_putPrefix_27 (by decide) ?_
      refine mr_iload (pc := 29) (z := z74) dX3_putPrefix_29 rfl ?_
      refine mr_imul (pc := 31) (x := 8) (y := z74) dX3_putPrefix_31 ?_
      refine mr_isub (pc := 32) (x := 24) (y := (8 * z74)) dX3_putPrefix_32 ?_
      refine mr_iushr (pc := 33) (x := p1) (y := (24 - (8 * z74))) dX3_putPrefix_33 ?_
      refine mr_gen (P := fun z => (-2147483648) ≤ z ∧ z ≤ 2147483647) (r32i _) fun z95 q96 h97 => ?_
      refine mr_iconst (pc := 34) (z := 1) dX3_putPrefix_34 ?_
      refine mr_cVV (pc := 35) (c_X3_putNumber hw T78 h97 (rW (c := 0) (d := 4) (rR (x := 1)) rfl)) (gOk _ _ _ _ _) dX3_putPrefix_35 (tX3_putNumber _ _ _ _ _) ⟨wV_X3_putNumber, wL_X3_putNumber⟩ wM_X3_169 (gCX3 _ _ _ _ _) rfl (A_76 hw) rfl ⟨le_t rfl, le_t rfl⟩ ⟨le_t rfl, le_t rfl⟩ rfl (le_t rfl) fun μ98 T99 F100 h101 => ?_
      refine mr_iinc (pc := 38) (lv' := [(4, iv (z74 + 1)), (0, .ref 76), (1, iv p1), (3, iv z5)]) dX3_putPrefix_38 rfl (by decide) rfl ?_
      refine sv_goto (pc := 41) (tgt := 17) dX3_putPrefix_41 (by decide) ?_
      refine mr_lvS (lv' := [(0, .ref 76), (1, iv p1), (3, iv z5), (4, iv (z74 + 1))]) (List.forall_mem_cons.mpr ⟨rfl, List.forall_mem_cons.mpr ⟨rfl, List.forall_mem_cons.mpr ⟨rfl, List.forall_mem_cons.mpr ⟨rfl, fun _ h => absurd h List.not_mem_nil⟩⟩⟩⟩) ?_
      exact ih82 (z74 + 1) μ98 T99 (mF.call (mF.call mF.refl F79 rfl) F100 rfl) (rW (c := 0) (d := 4) (rAdd (e := 1) (f := 4) h93 (rR (x := 1)) rfl) rfl) (vc_X3_putPrefix_5 (nS h81) h92 q6 hp2 h94 h93)
  refine mr_lvS (lv' := [(0, .ref 76), (1, iv p1), (3, iv z5), (4, iv 0)]) (List.forall_mem_cons.mpr ⟨rfl, List.forall_mem_cons.mpr ⟨rfl, List.forall_mem_cons.mpr ⟨rfl, List.forall_mem_cons.mpr ⟨rfl, fun _ h => absurd h List.not_mem_nil⟩⟩⟩⟩) ?_
  exact L76 6 0 μ1 T2 mF.refl (rW (c := 0) (d := 4) (rR (x := 0)) rfl) vc_X12_prefixOut_14
theorem vc_X3_putAttributes_10 {z12 z872 : Int} (h0 : z872 < z12) (h1 : 0 ≤ z12 ∧ z12 ≤ 20) (h2 : 0 ≤ z872 ∧ z872 ≤ 20) : 0 ≤ z872 ∧ z872 ≤ 19 := by omega
theorem vc_X3_putAttributes_11 {z12 z872 : Int} (h0 : z872 < z12) (h1 : 0 ≤ z12 ∧ z12 ≤ 20) (h2 : 0 ≤ z872 ∧ z872 ≤ 19) : 1 ≤ z12 ∧ z12 ≤ 20 := by omega
theorem vc_X3_putAttributes_12 {N z12 z872 : Int} (h0 : (21 - z872) < N + 1) (h1 : z872 < z12) (h2 : 1 ≤ z12 ∧ z12 ≤ 20) (h3 : 0 ≤ z872 ∧ z872 ≤ 19) : (21 - (z872 + 1)) < N := by omega
set_option maxRecDepth 4000 in
set_option maxHeartbeats 4000000 in
theorem c_X3_putAttributes {l : Launch} {D : va_G} {c : Nat → ClassId} {H0 : Heap} {sa : Nat × Nat × (Nat → Int32)} {w : mW} {μ : mM} (hw : mWF w) (hT : mT w μ) {a1 : Nat} (hA1 : mAt w a1 200) : sC (gG l D c H0 sa) mX3_putAttributes 3 0 0 [.ref 76, .ref a1] (mk w μ) (qV w [76015, 86999] μ (fun μ1 => True)) := by
  refine sC.of rfl (by decide) (le_t rfl) ?_
  refine mr_lvE (lv' := [(0, .ref 76), (1, .ref a1)]) rfl ?_
  refine sv_aload_n (pc := 0) dX3_putAttributes_0 rfl rfl ?_
  refine mr_bipush (pc := 1) (z := 64) dX3_putAttributes_1 (by decide) ?_
  refine mr_iconst (pc := 3) (z := 1) dX3_putAttributes_3 ?_
  refine mr_iconst (pc := 4) (z := 1) dX3_putAttributes_4 ?_
  refine mr_cVV (pc := 5) (c_X3_putHead hw hT (rW (c := (-2147483648)) (d := 2147483647) (rR (x := 64)) rfl) (rW (c := (-2147483648)) (d := 2147483647) (rR (x := 1)) rfl) (rW (c := (-2147483648)) (d := 2147483647) (rR (x := 1)) rfl)) (gOk _ _ _ _ _) dX3_putAttributes_5 (tX3_putHead _ _ _ _ _) ⟨wV_X3_putHead, wL_X3_putHead⟩ wM_X3_179 (gCX3 _ _ _ _ _) rfl (A_76 hw) rfl ⟨le_t rfl, le_t rfl⟩ ⟨le_t rfl, le_t rfl⟩ rfl (le_t rfl) fun μ1 T2 F3 h4 => ?_
  refine sv_aload_n (pc := 8) dX3_putAttributes_8 rfl rfl ?_
  refine sv_aload_n (pc := 9) dX3_putAttributes_9 rfl rfl ?_
  refine gf_X7_5 (pc := 10) dX3_putAttributes_10 wF_X3_127 hA1 T2 fun z5 q6 h7 => ?_
  refine mr_iconst (pc := 13) (z := 1) dX3_putAttributes_13 ?_
  refine mr_cVV (pc := 14) (c_X3_putNumber hw T2 h7 (rW (c := 0) (d := 4) (rR (x := 1)) rfl)) (gOk _ _ _ _ _) dX3_putAttributes_14 (tX3_putNumber _ _ _ _ _) ⟨wV_X3_putNumber, wL_X3_putNumber⟩ wM_X3_169 (gCX3 _ _ _ _ _) rfl (A_76 hw) rfl ⟨le_t rfl, le_t rfl⟩ ⟨le_t rfl, le_t rfl⟩ rfl (le_t rfl) fun μ8 T9 F10 h11 => ?_
  refine sv_aload_n (pc := 17) dX3_putAttributes_17 rfl rfl ?_
  refine mr_bipush (pc := 18) (z := 64) dX3_putAttributes_18 (by decide) ?_
  refine mr_iconst (pc := 20) (z := 2) dX3_putAttributes_20 ?_
  refine mr_iconst (pc := 21) (z := 2) dX3_putAttributes_21 ?_
  refine mr_iconst (pc := 22) (z := 4) dX3_putAttributes_22 ?_
  refine sv_aload_n (pc := 23) dX3_putAttributes_23 rfl rfl ?_
  refine gf_X7_7 (pc := 24) dX3_putAttributes_24 wF_X3_147 hA1 T9 fun z12 q13 h14 => ?_
  refine mr_imul (pc := 27) (x := 4) (y := z12) dX3_putAttributes_27 ?_
  refine mr_iadd (pc := 28) (x := 2) (y := (4 * z12)) dX3_putAttributes_28 ?_
  refine mr_cVV (pc := 29) (c_X3_putHead hw T9 (rW (c := (-2147483648)) (d := 2147483647) (rR (x := 64)) rfl) (rW (c := (-2147483648)) (d := 2147483647) (rR (x := 2)) rfl) (rW (c := (-2147483648)) (d := 2147483647) (rAdd (e := 2) (f := 82) (rR (x := 2)) (rMulL (n := 4) (e := 0) (f := 80) h14 rfl) rfl) rfl)) (gOk _ _ _ _ _) dX3_putAttributes_29 (tX3_putHead _ _ _ _ _) ⟨wV_X3_putHead, wL_X3_putHead⟩ wM_X3_179 (gCX3 _ _ _ _ _) rfl (A_76 hw) rfl ⟨le_t rfl, le_t rfl⟩ ⟨le_t rfl, le_t rfl⟩ rfl (le_t rfl) fun μ15 T16 F17 h18 => ?_
  refine sv_aload_n (pc := 32) dX3_putAttributes_32 rfl rfl ?_
  refine mr_iconst (pc := 33) (z := 2) dX3_putAttributes_33 ?_
  refine mr_iconst (pc := 34) (z := 1) dX3_putAttributes_34 ?_
  refine mr_cVV (pc := 35) (c_X3_putNumber hw T16 (rW (c := (-2147483648)) (d := 2147483647) (rR (x := 2)) rfl) (rW (c := 0) (d := 4) (rR (x := 1)) rfl)) (gOk _ _ _ _ _) dX3_putAttributes_35 (tX3_putNumber _ _ _ _ _) ⟨wV_X3_putNumber, wL_X3_putNumber⟩ wM_X3_169 (gCX3 _ _ _ _ _) rfl (A_76 hw) rfl ⟨le_t rfl, le_t rfl⟩ ⟨le_t rfl, le_t rfl⟩ rfl (le_t rfl) fun μ19 T20 F21 h22 => ?_
  refine sv_aload_n (pc := 38) dX3_putAttributes_38 rfl rfl ?_
  refine sv_aload_n (pc := 39) dX3_putAttributes_39 rfl rfl ?_
  refine gk_X7_7 (pc := 40) dX3_putAttributes_40 wF_X3_147 hA1 (F21.f hA1 rfl (F17.f hA1 rfl q13)) ?_
  refine mr_iconst (pc := 43) (z := 1) dX3_putAttributes_43 ?_
  refine mr_cVV (pc := 44) (c_X3_putNumber hw T20 (rW (c := (-2147483648)) (d := 2147483647) h14 rfl) (rW (c := 0) (d := 4) (rR (x := 1)) rfl)) (gOk _ _ _ _ _) dX3_putAttributes_44 (tX3_putNumber _ _ _ _ _) ⟨wV_X3_putNumber, wL_X3_putNumber⟩ wM_X3_169 (gCX3 _ _ _ _ _) rfl (A_76 hw) rfl ⟨le_t rfl, le_t rfl⟩ ⟨le_t rfl, le_t rfl⟩ rfl (le_t rfl) fun μ23 T24 F25 h26 => ?_
  refine mr_iconst (pc := 47) (z := 0) dX3_putAttributes_47 ?_
  refine mr_istore_n (pc := 48) (lv' := [(2, iv 0), (0, .ref 76), (1, .ref a1)]) dX3_putAttributes_48 rfl (by decide) rfl ?_
  have L874 : ∀ (nL874 : Nat) (z872 : Int) (μ873 : mM), mT w μ873 → mF [76015, 86999] w μ23 μ873 → (0 ≤ z872 ∧ z872 ≤ 20) → (21 - z872) < (nL874 : Int) → sV (gG l D c H0 sa) mX3_putAttributes (sRm 3 0 0) (sZ (gG l D c H0 sa) 0 0 (qV w [76015, 86999] μ (fun μ1 => True))) 49 [(0, .ref 76), (1, .ref a1), (2, iv z872)] [] (mk w μ873) 0 0 := by
    intro nL874
    induction nL874 with
    | zero => intro z872 μ873 T876 F877 h875 h879; exact ((vc_X12_tieOf_1 h879 h875)).elim
    | succ nL874 ih880 =>
      intro z872 μ873 T876 F877 h875 h879
      refine mr_iload_n (pc := 49) (z := z872) dX3_putAttributes_49 rfl rfl ?_
      refine sv_aload_n (pc := 50) dX3_putAttributes_50 rfl rfl ?_
      refine gk_X7_7 (pc := 51) dX3_putAttributes_51 wF_X3_147 hA1 (F877.f hA1 rfl (F25.f hA1 rfl (F21.f hA1 rfl (F17.f hA1 rfl q13)))) ?_
      refine mr_icmp_ge (pc := 54) (tgt := 74) dX3_putAttributes_54 (by decide) (r32 h875 rfl) (r32 h14 rfl) (fun h891 => ?_) (fun h891 => ?_)
      · refine sv_aload_n (pc := 74) dX3_putAttributes_74 rfl rfl ?_
        refine gf_X7_6 (pc := 75) dX3_putAttributes_75 wF_X3_134 hA1 T876 fun z892 q893 h894 => ?_
        have J908 : ∀ (μ904 : mM), (mT w μ904) → (mF [76015, 86999] w μ873 μ904) → sV (gG l D c H0 sa) mX3_putAttributes (sRm 3 0 0) (sZ (gG l D c H0 sa) 0 0 (qV w [76015, 86999] μ (fun μ1 => True))) 99 [(0, .ref 76), (1, .ref a1)] [] (mk w μ904) 0 0 := by
          intro μ904 T905 F906
          refine sv_aload_n (pc := 99) dX3_putAttributes_99 rfl rfl ?_
          refine gf_X7_8 (pc := 100) dX3_putAttributes_100 wF_X3_55 hA1 T905 fun z909 q910 h911 => ?_
          have J922 : ∀ (μ918 : mM), (mT w μ918) → (mF [76015, 86999] w μ904 μ918) → sV (gG l D c H0 sa) mX3_putAttributes (sRm 3 0 0) (sZ (gG l D c H0 sa) 0 0 (qV w [76015, 86999] μ (fun μ1 => True))) 121 [(0, .ref 76), (1, .ref a1)] [] (mk w μ918) 0 0 := by
            intro μ918 T919 F920
            refine mr_iconst (pc := 121) (z := 0) dX3_putAttributes_121 ?_
            refine mr_istore_n (pc := 122) (lv' := [(2, iv 0), (0, .ref 76), (1, .ref a1)]) dX3_putAttributes_122 rfl (by decide) rfl ?_
            have L1033 : ∀ (nL1033 : Nat) (z1031 : Int) (μ1032 : mM), mT w μ1032 → mF [76015, 86999] w μ918 μ1032 → (0 ≤ z1031 ∧ z1031 ≤ 8) → (9 - z1031) < (nL1033 : Int) → sV (gG l D c H0 sa) mX3_putAttributes (sRm 3 0 0) (sZ (gG l D c H0 sa) 0 0 (qV w [76015, 86999] μ (fun μ1 => True))) 123 [(0, .ref 76), (1, .ref a1), (2, iv z1031)] [] (mk w μ1032) 0 0 := by
              intro nL1033
              induction nL1033 with
              | zero => intro z1031 μ1032 T1035 F1036 h1034 h1038; exact ((vc_X12_marked_1 h1038 h1034)).elim
              | succ nL1033 ih1039 =>
                intro z1031 μ1032 T1035 F1036 h1034 h1038
                refine mr_iload_n (pc := 123) (z := z1031) dX3_putAttributes_123 rfl rfl ?_
                refine sv_aload_n (pc := 124) dX3_putAttributes_124 rfl rfl ?_
                refine gk_X7_8 (pc := 125) dX3_putAttributes_125 wF_X3_55 hA1 (F1036.f hA1 rfl (F920.f hA1 rfl q910)) ?_
                refine mr_icmp_ge (pc := 128) (tgt := 148) dX3_putAttributes_128 (by decide) (r32 h1034 rfl) (r32 h911 rfl) (fun h1050 => ?_) (fun h1050 => ?_)
                · exact mr_vret dX3_putAttributes_148 rfl (le_t rfl) (le_t rfl) T1035 (mF.call (mF.call (mF.call (mF.call (mF.call (mF.call (mF.call (mF.call (mF.call mF.refl F3 rfl) F10 rfl) F17 rfl) F21 rfl) F25 rfl) F877 rfl) F906 rfl) F920 rfl) F1036 rfl) trivial
                have h1051 : 0 ≤ z1031 ∧ z1031 ≤ 7 := (vc_X12_marked_3 h1050 h1034 h911)
                have h1052 : 1 ≤ z909 ∧ z909 ≤ 8 := (vc_X12_marked_4 h1050 h1051 h911)
                refine sv_aload_n (pc := 131) dX3_putAttributes_131 rfl rfl ?_
                refine sv_aload_n (pc := 132) dX3_putAttributes_132 rfl rfl ?_
                refine gf_X7_1 (pc := 133) dX3_putAttributes_133 wF_X3_182 hA1 T1035 fun A1053 => ?_
                refine mr_iload_n (pc := 136) (z := z1031) dX3_putAttributes_136 rfl rfl ?_
                refine la_202 (pc := 137) dX3_putAttributes_137 A1053 T1035 (rIx (n := 8) h1051 rfl) fun z1054 q1055 h1056 => ?_
                refine mr_iconst (pc := 138) (z := 4) dX3_putAttributes_138 ?_
                refine mr_cVV (pc := 139) (c_X3_putNumber hw T1035 h1056 (rW (c := 0) (d := 4) (rR (x := 4)) rfl)) (gOk _ _ _ _ _) dX3_putAttributes_139 (tX3_putNumber _ _ _ _ _) ⟨wV_X3_putNumber, wL_X3_putNumber⟩ wM_X3_169 (gCX3 _ _ _ _ _) rfl (A_76 hw) rfl ⟨le_t rfl, le_t rfl⟩ ⟨le_t rfl, le_t rfl⟩ rfl (le_t rfl) fun μ1057 T1058 F1059 h1060 => ?_
                refine mr_iinc (pc := 142) (lv' := [(2, iv (z1031 + 1)), (0, .ref 76), (1, .ref a1)]) dX3_putAttributes_142 rfl (by decide) rfl ?_
                refine sv_goto (pc := 145) (tgt := 123) dX3_putAttributes_145 (by decide) ?_
                refine mr_lvS (lv' := [(0, .ref 76), (1, .ref a1), (2, iv (z1031 + 1))]) (List.forall_mem_cons.mpr ⟨rfl, List.forall_mem_cons.mpr ⟨rfl, List.forall_mem_cons.mpr ⟨rfl, fun _ h => absurd h List.not_mem_nil⟩⟩⟩) ?_
                exact ih1039 (z1031 + 1) μ1057 T1058 (mF.call (mF.call mF.refl F1036 rfl) F1059 rfl) (rW (c := 0) (d := 8) (rAdd (e := 1) (f := 8) h1051 (rR (x := 1)) rfl) rfl) (vc_X12_marked_6 (nS h1038) h1050 h1051 h1052)
            refine mr_lvS (lv' := [(0, .ref 76), (1, .ref a1), (2, iv 0)]) (List.forall_mem_cons.mpr ⟨rfl, List.forall_mem_cons.mpr ⟨rfl, List.forall_mem_cons.mpr ⟨rfl, fun _ h => absurd h List.not_mem_nil⟩⟩⟩) ?_
            exact L1033 10 0 μ918 T919 mF.refl (rW (c := 0) (d := 8) (rR (x := 0)) rfl) vc_X12_marked_10
          refine mr_if_le (pc := 103) (tgt := 121) dX3_putAttributes_103 (by decide) (r32 h911 rfl) (fun h1061 => ?_) (fun h1061 => ?_)
          · have h1062 : 0 ≤ z909 ∧ z909 ≤ 0 := (vc_X12_write_34 h1061 h911)
            exact J922 μ904 T905 mF.refl
          have h1063 : 1 ≤ z909 ∧ z909 ≤ 8 := (vc_X12_write_36 h1061 h911)
          refine sv_aload_n (pc := 106) dX3_putAttributes_106 rfl rfl ?_
          refine mr_sipush (pc := 107) (z := 192) dX3_putAttributes_107 (by decide) ?_
          refine mr_bipush (pc := 110) (z := 8) dX3_putAttributes_110 (by decide) ?_
          refine mr_iconst (pc := 112) (z := 4) dX3_putAttributes_112 ?_
          refine sv_aload_n (pc := 113) dX3_putAttributes_113 rfl rfl ?_
          refine gk_X7_8 (pc := 114) dX3_putAttributes_114 wF_X3_55 hA1 q910 ?_
          refine mr_imul (pc := 117) (x := 4) (y := z909) dX3_putAttributes_117 ?_
          refine mr_cVV (pc := 118) (c_X3_putHead hw T905 (rW (c := (-2147483648)) (d := 2147483647) (rR (x := 192)) rfl) (rW (c := (-2147483648)) (d := 2147483647) (rR (x := 8)) rfl) (rW (c := (-2147483648)) (d := 2147483647) (rMulL (n := 4) (e := 4) (f := 32) h1063 rfl) rfl)) (gOk _ _ _ _ _) dX3_putAttributes_118 (tX3_putHead _ _ _ _ _) ⟨wV_X3_putHead, wL_X3_putHead⟩ wM_X3_179 (gCX3 _ _ _ _ _) rfl (A_76 hw) rfl ⟨le_t rfl, le_t rfl⟩ ⟨le_t rfl, le_t rfl⟩ rfl (le_t rfl) fun μ1064 T1065 F1066 h1067 => ?_
          exact J922 μ1064 T1065 (mF.call mF.refl F1066 rfl)
        refine mr_if_eq (pc := 78) (tgt := 99) dX3_putAttributes_78 (by decide) h894 (fun h1068 => ?_) (fun h1068 => ?_)
        · have h1069 : 0 ≤ z892 ∧ z892 ≤ 0 := (vc_X12_mask_1 h1068 h894)
          refine mr_lvS (lv' := [(0, .ref 76), (1, .ref a1)]) (List.forall_mem_cons.mpr ⟨rfl, List.forall_mem_cons.mpr ⟨rfl, fun _ h => absurd h List.not_mem_nil⟩⟩) ?_
          exact J908 μ873 T876 mF.refl
        refine sv_aload_n (pc := 81) dX3_putAttributes_81 rfl rfl ?_
        refine mr_sipush (pc := 82) (z := 128) dX3_putAttributes_82 (by decide) ?_
        refine mr_iconst (pc := 85) (z := 4) dX3_putAttributes_85 ?_
        refine mr_iconst (pc := 86) (z := 4) dX3_putAttributes_86 ?_
        refine mr_cVV (pc := 87) (c_X3_putHead hw T876 (rW (c := (-2147483648)) (d := 2147483647) (rR (x := 128)) rfl) (rW (c := (-2147483648)) (d := 2147483647) (rR (x := 4)) rfl) (rW (c := (-2147483648)) (d := 2147483647) (rR (x := 4)) rfl)) (gOk _ _ _ _ _) dX3_putAttributes_87 (tX3_putHead _ _ _ _ _) ⟨wV_X3_putHead, wL_X3_putHead⟩ wM_X3_179 (gCX3 _ _ _ _ _) rfl (A_76 hw) rfl ⟨le_t rfl, le_t rfl⟩ ⟨le_t rfl, le_t rfl⟩ rfl (le_t rfl) fun μ1070 T1071 F1072 h1073 => ?_
        refine sv_aload_n (pc := 90) dX3_putAttributes_90 rfl rfl ?_
        refine sv_aload_n (pc := 91) dX3_putAttributes_91 rfl rfl ?_
        refine gk_X7_6 (pc := 92) dX3_putAttributes_92 wF_X3_134 hA1 (F1072.f hA1 rfl q893) ?_
        refine mr_iconst (pc := 95) (z := 4) dX3_putAttributes_95 ?_
        refine mr_cVV (pc := 96) (c_X3_putNumber hw T1071 h894 (rW (c := 0) (d := 4) (rR (x := 4)) rfl)) (gOk _ _ _ _ _) dX3_putAttributes_96 (tX3_putNumber _ _ _ _ _) ⟨wV_X3_putNumber, wL_X3_putNumber⟩ wM_X3_169 (gCX3 _ _ _ _ _) rfl (A_76 hw) rfl ⟨le_t rfl, le_t rfl⟩ ⟨le_t rfl, le_t rfl⟩ rfl (le_t rfl) fun μ1074 T1075 F1076 h1077 => ?_
        refine mr_lvS (lv' := [(0, .ref 76), (1, .ref a1)]) (List.forall_mem_cons.mpr ⟨rfl, List.forall_mem_cons.mpr ⟨rfl, fun _ h => absurd h List.not_mem_nil⟩⟩) ?_
        exact J908 μ1074 T1075 (mF.call (mF.call mF.refl F1072 rfl) F1076 rfl)
      have h1078 : 0 ≤ z872 ∧ z872 ≤ 19 := (vc_X3_putAttributes_10 h891 h14 h875)
      have h1079 : 1 ≤ z12 ∧ z12 ≤ 20 := (vc_X3_putAttributes_11 h891 h14 h1078)
      refine sv_aload_n (pc := 57) dX3_putAttributes_57 rfl rfl ?_
      refine sv_aload_n (pc := 58) dX3_putAttributes_58 rfl rfl ?_
      refine gf_X7_0 (pc := 59) dX3_putAttributes_59 wF_X3_140 hA1 T876 fun A1080 => ?_
      refine mr_iload_n (pc := 62) (z := z872) dX3_putAttributes_62 rfl rfl ?_
      refine la_201 (pc := 63) dX3_putAttributes_63 A1080 T876 (rIx (n := 20) h1078 rfl) fun z1081 q1082 h1083 => ?_
      refine mr_iconst (pc := 64) (z := 4) dX3_putAttributes_64 ?_
      refine mr_cVV (pc := 65) (c_X3_putNumber hw T876 h1083 (rW (c := 0) (d := 4) (rR (x := 4)) rfl)) (gOk _ _ _ _ _) dX3_putAttributes_65 (tX3_putNumber _ _ _ _ _) ⟨wV_X3_putNumber, wL_X3_putNumber⟩ wM_X3_169 (gCX3 _ _ _ _ _) rfl (A_76 hw) rfl ⟨le_t rfl, le_t rfl⟩ ⟨le_t rfl, le_t rfl⟩ rfl (le_t rfl) fun μ1084 T1085 F1086 h1087 => ?_
      refine mr_iinc (pc := 68) (lv' := [(2, iv (z872 + 1)), (0, .ref 76), (1, .ref a1)]) dX3_putAttributes_68 rfl (by decide) rfl ?_
      refine sv_goto (pc := 71) (tgt := 49) dX3_putAttributes_71 (by decide) ?_
      refine mr_lvS (lv' := [(0, .ref 76), (1, .ref a1), (2, iv (z872 + 1))]) (List.forall_mem_cons.mpr ⟨rfl, List.forall_mem_cons.mpr ⟨rfl, List.forall_mem_cons.mpr ⟨rfl, fun _ h => absurd h List.not_mem_nil⟩⟩⟩) ?_
      exact ih880 (z872 + 1) μ1084 T1085 (mF.call (mF.call mF.refl F877 rfl) F1086 rfl) (rW (c := 0) (d := 20) (rAdd (e := 1) (f := 20) h1078 (rR (x := 1)) rfl) rfl) (vc_X3_putAttributes_12 (nS h879) h891 h1079 h1078)
  refine mr_lvS (lv' := [(0, .ref 76), (1, .ref a1), (2, iv 0)]) (List.forall_mem_cons.mpr ⟨rfl, List.forall_mem_cons.mpr ⟨rfl, List.forall_mem_cons.mpr ⟨rfl, fun _ h => absurd h List.not_mem_nil⟩⟩⟩) ?_
  exact L874 22 0 μ23 T24 mF.refl (rW (c := 0) (d := 20) (rR (x := 0)) rfl) vc_X12_tieOf_12
set_option maxRecDepth 4000 in
set_option maxHeartbeats 4000000 in
theorem c_X3_putDown {l : Launch} {D : va_G} {c : Nat → ClassId} {H0 : Heap} {sa : Nat × Nat × (Nat → Int32)} {w : mW} {μ : mM} (hw : mWF w) (hT : mT w μ) {a1 : Nat} (hA1 : mAt w a1 200) {p2 : Int} (hp2 : (-2147483648) ≤ p2 ∧ p2 ≤ 2147483647) {p3 : Int} (hp3 : 0 ≤ p3 ∧ p3 ≤ 32) : sC (gG l D c H0 sa) mX3_putDown 4 0 0 [.ref 76, .ref a1, iv p2, iv p3] (mk w μ) (qI w [76015, 86999] μ (fun z μ1 => ((-2147483648) ≤ z ∧ z ≤ 2147483647) ∧ True)) := by
  refine sC.of rfl (by decide) (le_t rfl) ?_
  refine mr_lvE (lv' := [(0, .ref 76), (1, .ref a1), (2, iv p2), (3, iv p3)]) rfl ?_
  refine sv_aload_n (pc := 0) dX3_putDown_0 rfl rfl ?_
  refine mr_iconst (pc := 1) (z := 0) dX3_putDown_1 ?_
  refine pf_X3_15 (pc := 2) dX3_putDown_2 wF_X3_163 (A_76 hw) hT (rW (c := 0) (d := 256) (rR (x := 0)) rfl) fun μ1 u2 T3 => ?_
  refine mr_iconst (pc := 5) (z := 1) dX3_putDown_5 ?_
  refine mr_iload_n (pc := 6) (z := p3) dX3_putDown_6 rfl rfl ?_
  refine mr_bipush (pc := 7) (z := 7) dX3_putDown_7 (by decide) ?_
  refine mr_iadd (pc := 9) (x := p3) (y := 7) dX3_putDown_9 ?_
  refine mr_bipush (pc := 10) (z := 8) dX3_putDown_10 (by decide) ?_
  refine mr_idiv (pc := 12) (x := (p3 + 7)) (y := 8) dX3_putDown_12 (rW (c := 0) (d := 2147483647) (rAdd (e := 7) (f := 39) hp3 (rR (x := 7)) rfl) rfl) vc_X12_prefixOut_4 ?_
  refine mr_gen (P := fun z => 0 ≤ z ∧ z ≤ 4) (rDiv (rAdd (e := 7) (f := 39) hp3 (rR (x := 7)) rfl) rfl) fun z4 q5 h6 => ?_
  refine mr_iadd (pc := 13) (x := 1) (y := z4) dX3_putDown_13 ?_
  refine mr_istore (pc := 14) (lv' := [(4, iv (1 + z4)), (0, .ref 76), (1, .ref a1), (2, iv p2), (3, iv p3)]) dX3_putDown_14 (by decide) rfl ?_
  refine sv_aload_n (pc := 16) dX3_putDown_16 rfl rfl ?_
  refine gf_X7_2 (pc := 17) dX3_putDown_17 wF_X3_166 hA1 T3 fun z7 q8 h9 => ?_
  refine mr_if_ne (pc := 20) (tgt := 47) dX3_putDown_20 (by decide) (r32 h9 rfl) (fun h10 => ?_) (fun h10 => ?_)
  · have h11 : 1 ≤ z7 ∧ z7 ≤ 1 := (vc_X12_ring_24 h10 h9)
    refine sv_aload_n (pc := 47) dX3_putDown_47 rfl rfl ?_
    refine mr_iconst (pc := 48) (z := 0) dX3_putDown_48 ?_
    refine mr_iconst (pc := 49) (z := 4) dX3_putDown_49 ?_
    refine mr_cVV (pc := 50) (c_X3_putNumber hw T3 (rW (c := (-2147483648)) (d := 2147483647) (rR (x := 0)) rfl) (rW (c := 0) (d := 4) (rR (x := 4)) rfl)) (gOk _ _ _ _ _) dX3_putDown_50 (tX3_putNumber _ _ _ _ _) ⟨wV_X3_putNumber, wL_X3_putNumber⟩ wM_X3_169 (gCX3 _ _ _ _ _) rfl (A_76 hw) rfl ⟨le_t rfl, le_t rfl⟩ ⟨le_t rfl, le_t rfl⟩ rfl (le_t rfl) fun μ12 T13 F14 h15 => ?_
    refine sv_aload_n (pc := 53) dX3_putDown_53 rfl rfl ?_
    refine sv_aload_n (pc := 54) dX3_putDown_54 rfl rfl ?_
    refine mr_cVV (pc := 55) (c_X3_putAttributes hw T13 hA1) (gOk _ _ _ _ _) dX3_putDown_55 (tX3_putAttributes _ _ _ _ _) ⟨wV_X3_putAttributes, wL_X3_putAttributes⟩ wM_X3_175 (gCX3 _ _ _ _ _) rfl (A_76 hw) rfl ⟨le_t rfl, le_t rfl⟩ ⟨le_t rfl, le_t rfl⟩ rfl (le_t rfl) fun μ16 T17 F18 h19 => ?_
    refine sv_aload_n (pc := 58) dX3_putDown_58 rfl rfl ?_
    refine gf_X3_15 (pc := 59) dX3_putDown_59 wF_X3_163 (A_76 hw) T17 fun z20 q21 h22 => ?_
    refine mr_iconst (pc := 62) (z := 4) dX3_putDown_62 ?_
    refine mr_isub (pc := 63) (x := z20) (y := 4) dX3_putDown_63 ?_
    refine mr_istore (pc := 64) (lv' := [(5, iv (z20 - 4)), (4, iv (1 + z4)), (0, .ref 76), (1, .ref a1), (2, iv p2), (3, iv p3)]) dX3_putDown_64 (by decide) rfl ?_
    refine sv_aload_n (pc := 66) dX3_putDown_66 rfl rfl ?_
    refine gf_X3_12 (pc := 67) dX3_putDown_67 wF_X3_38 (A_76 hw) T17 ?_
    refine mr_iconst (pc := 70) (z := 2) dX3_putDown_70 ?_
    refine mr_iload (pc := 71) (z := (z20 - 4)) dX3_putDown_71 rfl ?_
    refine mr_bipush (pc := 73) (z := 8) dX3_putDown_73 (by decide) ?_
    refine mr_ishr (pc := 75) (x := (z20 - 4)) (y := 8) dX3_putDown_75 ?_
    refine mr_gen (P := fun z => (-2147483648) ≤ z ∧ z ≤ 2147483647) (r32i _) fun z23 q24 h25 => ?_
    refine ss_86 (pc := 76) dX3_putDown_76 (A_86 hw) T17 (rIx (n := 256) (rR (x := 2)) rfl) h25 fun μ26 u27 T28 => ?_
    refine sv_aload_n (pc := 77) dX3_putDown_77 rfl rfl ?_
    refine gf_X3_12 (pc := 78) dX3_putDown_78 wF_X3_38 (A_76 hw) T28 ?_
    refine mr_iconst (pc := 81) (z := 3) dX3_putDown_81 ?_
    refine mr_iload (pc := 82) (z := (z20 - 4)) dX3_putDown_82 rfl ?_
    refine mr_sipush (pc := 84) (z := 255) dX3_putDown_84 (by decide) ?_
    refine mr_iand (pc := 87) (x := (z20 - 4)) (y := 255) dX3_putDown_87 ?_
    refine mr_gen (P := fun z => 0 ≤ z ∧ z ≤ 255) (rAndR (rR (x := 255)) rfl) fun z29 q30 h31 => ?_
    refine ss_86 (pc := 88) dX3_putDown_88 (A_86 hw) T28 (rIx (n := 256) (rR (x := 3)) rfl) (rW (c := (-2147483648)) (d := 2147483647) h31 rfl) fun μ32 u33 T34 => ?_
    refine sv_aload_n (pc := 89) dX3_putDown_89 rfl rfl ?_
    refine mr_iload_n (pc := 90) (z := p2) dX3_putDown_90 rfl rfl ?_
    refine mr_iload_n (pc := 91) (z := p3) dX3_putDown_91 rfl rfl ?_
    refine mr_cVV (pc := 92) (c_X3_putPrefix hw T34 hp2 hp3) (gOk _ _ _ _ _) dX3_putDown_92 (tX3_putPrefix _ _ _ _ _) ⟨wV_X3_putPrefix, wL_X3_putPrefix⟩ wM_X3_172 (gCX3 _ _ _ _ _) rfl (A_76 hw) rfl ⟨le_t rfl, le_t rfl⟩ ⟨le_t rfl, le_t rfl⟩ rfl (le_t rfl) fun μ35 T36 F37 h38 => ?_
    refine sv_aload_n (pc := 95) dX3_putDown_95 rfl rfl ?_
    refine gf_X3_15 (pc := 96) dX3_putDown_96 wF_X3_163 (A_76 hw) T36 fun z39 q40 h41 => ?_
    exact mr_iret dX3_putDown_99 rfl (le_t rfl) (le_t rfl) T36 (mF.call (mF.up (mF.up (mF.call (mF.call (mF.up mF.refl (A_76 hw) u2 rfl) F14 rfl) F18 rfl) (A_86 hw) u27 rfl) (A_86 hw) u33 rfl) F37 rfl) ⟨(rW (c := (-2147483648)) (d := 2147483647) h41 rfl), trivial⟩
  have h42 : 0 ≤ z7 ∧ z7 ≤ 0 := (vc_X12_ring_22 h10 h9)
  refine sv_aload_n (pc := 23) dX3_putDown_23 rfl rfl ?_
  refine mr_iload (pc := 24) (z := (1 + z4)) dX3_putDown_24 rfl ?_
  refine mr_iconst (pc := 26) (z := 2) dX3_putDown_26 ?_
  refine mr_cVV (pc := 27) (c_X3_putNumber hw T3 (rW (c := (-2147483648)) (d := 2147483647) (rAdd (e := 1) (f := 5) (rR (x := 1)) h6 rfl) rfl) (rW (c := 0) (d := 4) (rR (x := 2)) rfl)) (gOk _ _ _ _ _) dX3_putDown_27 (tX3_putNumber _ _ _ _ _) ⟨wV_X3_putNumber, wL_X3_putNumber⟩ wM_X3_169 (gCX3 _ _ _ _ _) rfl (A_76 hw) rfl ⟨le_t rfl, le_t rfl⟩ ⟨le_t rfl, le_t rfl⟩ rfl (le_t rfl) fun μ43 T44 F45 h46 => ?_
  refine sv_aload_n (pc := 30) dX3_putDown_30 rfl rfl ?_
  refine mr_iload_n (pc := 31) (z := p2) dX3_putDown_31 rfl rfl ?_
  refine mr_iload_n (pc := 32) (z := p3) dX3_putDown_32 rfl rfl ?_
  refine mr_cVV (pc := 33) (c_X3_putPrefix hw T44 hp2 hp3) (gOk _ _ _ _ _) dX3_putDown_33 (tX3_putPrefix _ _ _ _ _) ⟨wV_X3_putPrefix, wL_X3_putPrefix⟩ wM_X3_172 (gCX3 _ _ _ _ _) rfl (A_76 hw) rfl ⟨le_t rfl, le_t rfl⟩ ⟨le_t rfl, le_t rfl⟩ rfl (le_t rfl) fun μ47 T48 F49 h50 => ?_
  refine sv_aload_n (pc := 36) dX3_putDown_36 rfl rfl ?_
  refine mr_iconst (pc := 37) (z := 0) dX3_putDown_37 ?_
  refine mr_iconst (pc := 38) (z := 2) dX3_putDown_38 ?_
  refine mr_cVV (pc := 39) (c_X3_putNumber hw T48 (rW (c := (-2147483648)) (d := 2147483647) (rR (x := 0)) rfl) (rW (c := 0) (d := 4) (rR (x := 2)) rfl)) (gOk _ _ _ _ _) dX3_putDown_39 (tX3_putNumber _ _ _ _ _) ⟨wV_X3_putNumber, wL_X3_putNumber⟩ wM_X3_169 (gCX3 _ _ _ _ _) rfl (A_76 hw) rfl ⟨le_t rfl, le_t rfl⟩ ⟨le_t rfl, le_t rfl⟩ rfl (le_t rfl) fun μ51 T52 F53 h54 => ?_
  refine sv_aload_n (pc := 42) dX3_putDown_42 rfl rfl ?_
  refine gf_X3_15 (pc := 43) dX3_putDown_43 wF_X3_163 (A_76 hw) T52 fun z55 q56 h57 => ?_
  exact mr_iret dX3_putDown_46 rfl (le_t rfl) (le_t rfl) T52 (mF.call (mF.call (mF.call (mF.up mF.refl (A_76 hw) u2 rfl) F45 rfl) F49 rfl) F53 rfl) ⟨(rW (c := (-2147483648)) (d := 2147483647) h57 rfl), trivial⟩
theorem vc_X11_write_2 {n1 p1 z1 z8 : Int} (h0 : (z8 = 1 → 0 ≤ p1 ∧ p1 < z1)) (h1 : (z8 = 0 → p1 < 0 ∨ z1 ≤ p1)) (h2 : z8 = 0) (h3 : z1 = n1) (h4 : (-2147483648) ≤ p1 ∧ p1 ≤ 2147483647) (h5 : 0 ≤ z1 ∧ z1 ≤ 20) (h6 : 0 ≤ z8 ∧ z8 ≤ 0) : z8 = 0 := by omega
theorem vc_X11_write_4 {n1 p1 z1 z8 : Int} (h0 : (z8 = 1 → 0 ≤ p1 ∧ p1 < z1)) (h1 : (z8 = 0 → p1 < 0 ∨ z1 ≤ p1)) (h2 : ¬ z8 = 0) (h3 : z1 = n1) (h4 : (-2147483648) ≤ p1 ∧ p1 ≤ 2147483647) (h5 : 0 ≤ z1 ∧ z1 ≤ 20) (h6 : 1 ≤ z8 ∧ z8 ≤ 1) : z8 = 1 := by omega
theorem vc_X11_write_5 {n1 p1 z1 z8 : Int} (h0 : 0 ≤ p1 ∧ p1 < z1) (h1 : z1 = n1) (h2 : (z8 = 1 → 0 ≤ p1 ∧ p1 < z1)) (h3 : (z8 = 0 → p1 < 0 ∨ z1 ≤ p1)) (h4 : (-2147483648) ≤ p1 ∧ p1 ≤ 2147483647) (h5 : 0 ≤ z1 ∧ z1 ≤ 20) (h6 : 1 ≤ z8 ∧ z8 ≤ 1) : 0 ≤ p1 ∧ p1 ≤ 19 := by omega
theorem vc_X11_write_6 {n1 p1 z1 z8 : Int} (h0 : 0 ≤ p1 ∧ p1 < z1) (h1 : z1 = n1) (h2 : (z8 = 1 → 0 ≤ p1 ∧ p1 < z1)) (h3 : (z8 = 0 → p1 < 0 ∨ z1 ≤ p1)) (h4 : 0 ≤ p1 ∧ p1 ≤ 19) (h5 : 0 ≤ z1 ∧ z1 ≤ 20) (h6 : 1 ≤ z8 ∧ z8 ≤ 1) : 1 ≤ z1 ∧ z1 ≤ 20 := by omega
theorem vc_X11_write_7 {p2 z20 : Int} (h0 : z20 = 0) (h1 : (z20 = 1 → 0 ≤ p2 ∧ p2 ≤ 1)) (h2 : (z20 = 0 → p2 < 0 ∨ 1 < p2)) (h3 : (-2147483648) ≤ p2 ∧ p2 ≤ 2147483647) (h4 : 0 ≤ z20 ∧ z20 ≤ 1) : 0 ≤ z20 ∧ z20 ≤ 0 := by omega
theorem vc_X11_write_8 {p2 z20 : Int} (h0 : (z20 = 1 → 0 ≤ p2 ∧ p2 ≤ 1)) (h1 : (z20 = 0 → p2 < 0 ∨ 1 < p2)) (h2 : z20 = 0) (h3 : (-2147483648) ≤ p2 ∧ p2 ≤ 2147483647) (h4 : 0 ≤ z20 ∧ z20 ≤ 0) : z20 = 0 := by omega
theorem vc_X11_write_9 {p2 z20 : Int} (h0 : ¬ z20 = 0) (h1 : (z20 = 1 → 0 ≤ p2 ∧ p2 ≤ 1)) (h2 : (z20 = 0 → p2 < 0 ∨ 1 < p2)) (h3 : (-2147483648) ≤ p2 ∧ p2 ≤ 2147483647) (h4 : 0 ≤ z20 ∧ z20 ≤ 1) : 1 ≤ z20 ∧ z20 ≤ 1 := by omega
theorem vc_X11_write_10 {p2 z20 : Int} (h0 : (z20 = 1 → 0 ≤ p2 ∧ p2 ≤ 1)) (h1 : (z20 = 0 → p2 < 0 ∨ 1 < p2)) (h2 : ¬ z20 = 0) (h3 : (-2147483648) ≤ p2 ∧ p2 ≤ 2147483647) (h4 : 1 ≤ z20 ∧ z20 ≤ 1) : z20 = 1 := by omega
theorem vc_X11_write_11 {p2 z20 : Int} (h0 : 0 ≤ p2 ∧ p2 ≤ 1) (h1 : (z20 = 1 → 0 ≤ p2 ∧ p2 ≤ 1)) (h2 : (z20 = 0 → p2 < 0 ∨ 1 < p2)) (h3 : (-2147483648) ≤ p2 ∧ p2 ≤ 2147483647) (h4 : 1 ≤ z20 ∧ z20 ≤ 1) : 0 ≤ p2 ∧ p2 ≤ 1 := by omega
theorem vc_X11_write_16 {n1 p1 z1 z8 : Int} (h0 : z1 = n1) (h1 : (z8 = 1 → 0 ≤ p1 ∧ p1 < z1)) (h2 : (z8 = 0 → p1 < 0 ∨ z1 ≤ p1)) (h3 : 0 ≤ p1 ∧ p1 < z1) (h4 : ¬ z8 = 0) (h5 : 0 ≤ p1 ∧ p1 ≤ 19) (h6 : 1 ≤ z1 ∧ z1 ≤ 20) (h7 : 1 ≤ z8 ∧ z8 ≤ 1) : p1 < n1 := by omega
set_option maxRecDepth 4000 in
set_option maxHeartbeats 4000000 in
theorem c_X11_write {l : Launch} {D : va_G} {c : Nat → ClassId} {H0 : Heap} {sa : Nat × Nat × (Nat → Int32)} {w : mW} {μ : mM} (hw : mWF w) (hT : mT w μ) {p1 : Int} (hp1 : (-2147483648) ≤ p1 ∧ p1 ≤ 2147483647) {p2 : Int} (hp2 : (-2147483648) ≤ p2 ∧ p2 ≤ 2147483647) {p3 : Int} (hp3 : (-2147483648) ≤ p3 ∧ p3 ≤ 2147483647) : sC (gG l D c H0 sa) mX11_write 5 0 0 [.ref 0, iv p1, iv p2, iv p3] (mk w μ) (qI w [76015, 86999] μ (fun z μ1 => ((-2147483648) ≤ z ∧ z ≤ 2147483647) ∧ True)) := by
  refine sC.of rfl (by decide) (le_t rfl) ?_
  refine mr_lvE (lv' := [(0, .ref 0), (1, iv p1), (2, iv p2), (3, iv p3)]) rfl ?_
  refine sv_aload_n (pc := 0) dX11_write_0 rfl rfl ?_
  refine mr_iload_n (pc := 1) (z := p1) dX11_write_1 rfl rfl ?_
  obtain ⟨z1, q2⟩ : ∃ z, μ 6 16 = z := ⟨_, rfl⟩
  have h3 : (z1 = w.2.2.2 1 ∧ 0 ≤ z1 ∧ z1 ≤ 20) := by rw [← q2]; exact hT 6 6 (A_6 hw) 16
  refine mr_cVP (pc := 2) (c_X11_isTie hw hT hp1 q2) (gOk _ _ _ _ _) dX11_write_2 (tX11_isTie _ _ _ _ _) ⟨wV_X11_isTie, wL_X11_isTie⟩ wM_X11_119 (gCX11 _ _ _ _ _) rfl (A_0 hw) rfl ⟨le_t rfl, le_t rfl⟩ ⟨le_t rfl, le_t rfl⟩ rfl (le_t rfl) fun z8 h7 => ?_
  refine mr_if_eq (pc := 5) (tgt := 23) dX11_write_5 (by decide) (r32 h7.1 rfl) (fun h9 => ?_) (fun h9 => ?_)
  · have h10 : 0 ≤ z8 ∧ z8 ≤ 0 := (vc_X12_write_1 h9 h7.2.1 h7.2.2.1 hp1 h3.2 h7.1)
    have h11 : p1 < 0 ∨ z1 ≤ p1 := (h7.2.2.1 (vc_X11_write_2 h7.2.1 h7.2.2.1 h9 h3.1 hp1 h3.2 h10))
    refine mr_iconst (pc := 23) (z := (-1)) dX11_write_23 ?_
    exact mr_iret dX11_write_24 rfl (le_t rfl) (le_t rfl) hT mF.refl ⟨(rW (c := (-2147483648)) (d := 2147483647) (rR (x := (-1))) rfl), trivial⟩
  have h12 : 1 ≤ z8 ∧ z8 ≤ 1 := (vc_X12_write_3 h9 h7.2.1 h7.2.2.1 hp1 h3.2 h7.1)
  have h13 : 0 ≤ p1 ∧ p1 < z1 := (h7.2.1 (vc_X11_write_4 h7.2.1 h7.2.2.1 h9 h3.1 hp1 h3.2 h12))
  have h14 : 0 ≤ p1 ∧ p1 ≤ 19 := (vc_X11_write_5 h13 h3.1 h7.2.1 h7.2.2.1 hp1 h3.2 h12)
  have h15 : 1 ≤ z1 ∧ z1 ≤ 20 := (vc_X11_write_6 h13 h3.1 h7.2.1 h7.2.2.1 h14 h3.2 h12)
  refine mr_iload_n (pc := 8) (z := p2) dX11_write_8 rfl rfl ?_
  refine mr_cSP (pc := 9) (c_X11_isEither hw hT hp2) (gOk _ _ _ _ _) dX11_write_9 (tX11_isEither _ _ _ _ _) wS_X11_isEither wM_X11_271 ⟨le_t rfl, le_t rfl⟩ ⟨le_t rfl, le_t rfl⟩ rfl (le_t rfl) fun z20 h19 => ?_
  refine mr_if_eq (pc := 12) (tgt := 23) dX11_write_12 (by decide) (r32 h19.1 rfl) (fun h21 => ?_) (fun h21 => ?_)
  · have h22 : 0 ≤ z20 ∧ z20 ≤ 0 := (vc_X11_write_7 h21 h19.2.1 h19.2.2.1 hp2 h19.1)
    have h23 : p2 < 0 ∨ 1 < p2 := (h19.2.2.1 (vc_X11_write_8 h19.2.1 h19.2.2.1 h21 hp2 h22))
    refine mr_iconst (pc := 23) (z := (-1)) dX11_write_23 ?_
    exact mr_iret dX11_write_24 rfl (le_t rfl) (le_t rfl) hT mF.refl ⟨(rW (c := (-2147483648)) (d := 2147483647) (rR (x := (-1))) rfl), trivial⟩
  have h24 : 1 ≤ z20 ∧ z20 ≤ 1 := (vc_X11_write_9 h21 h19.2.1 h19.2.2.1 hp2 h19.1)
  have h25 : 0 ≤ p2 ∧ p2 ≤ 1 := (h19.2.1 (vc_X11_write_10 h19.2.1 h19.2.2.1 h21 hp2 h24))
  have h26 : 0 ≤ p2 ∧ p2 ≤ 1 := (vc_X11_write_11 h25 h19.2.1 h19.2.2.1 hp2 h24)
  refine sv_aload_n (pc := 15) dX11_write_15 rfl rfl ?_
  refine mr_iload_n (pc := 16) (z := p3) dX11_write_16 rfl rfl ?_
  obtain ⟨z27, q28⟩ : ∃ z, μ 6 14 = z := ⟨_, rfl⟩
  have h29 : (0 ≤ z27 ∧ z27 ≤ 10) := by rw [← q28]; exact hT 6 6 (A_6 hw) 14
  refine mr_cVP (pc := 17) (c_X11_isPrefix hw hT hp3 q28) (gOk _ _ _ _ _) dX11_write_17 (tX11_isPrefix _ _ _ _ _) ⟨wV_X11_isPrefix, wL_X11_isPrefix⟩ wM_X11_182 (gCX11 _ _ _ _ _) rfl (A_0 hw) rfl ⟨le_t rfl, le_t rfl⟩ ⟨le_t rfl, le_t rfl⟩ rfl (le_t rfl) fun z34 h33 => ?_
  refine mr_if_ne (pc := 20) (tgt := 25) dX11_write_20 (by decide) (r32 h33.1 rfl) (fun h35 => ?_) (fun h35 => ?_)
  · have h36 : 1 ≤ z34 ∧ z34 ≤ 1 := (vc_X12_write_12 h35 h33.2.1 h33.2.2.1 hp3 h29 h33.1)
    have h37 : 0 ≤ p3 ∧ p3 < z27 := (h33.2.1 (vc_X12_write_13 h33.2.1 h33.2.2.1 h35 hp3 h29 h36))
    have h38 : 0 ≤ p3 ∧ p3 ≤ 9 := (vc_X12_write_14 h37 h33.2.1 h33.2.2.1 hp3 h29 h36)
    have h39 : 1 ≤ z27 ∧ z27 ≤ 10 := (vc_X12_write_15 h37 h33.2.1 h33.2.2.1 h38 h29 h36)
    refine sv_aload_n (pc := 25) dX11_write_25 rfl rfl ?_
    refine gf_X11_3 (pc := 26) dX11_write_26 wF_X11_26 (A_0 hw) hT ?_
    refine gf_X10_4 (pc := 29) dX11_write_29 wF_X11_122 (A_6 hw) hT ?_
    refine mr_iload_n (pc := 32) (z := p1) dX11_write_32 rfl rfl ?_
    refine la_11 (pc := 33) dX11_write_33 (A_11 hw) hT (rIx (n := 20) h14 rfl) (vc_X11_write_16 h3.1 h7.2.1 h7.2.2.1 h13 h9 h14 h15 h12) fun b40 q41 A42 => ?_
    refine gf_X9_5 (pc := 34) dX11_write_34 wF_X11_327 A42 hT fun A43 => ?_
    refine mr_iload_n (pc := 37) (z := p2) dX11_write_37 rfl rfl ?_
    refine mr_iload_n (pc := 38) (z := p3) dX11_write_38 rfl rfl ?_
    refine mr_cSP (pc := 39) (c_X9_placeOf hw hT h26 h38) (gOk _ _ _ _ _) dX11_write_39 (tX9_placeOf _ _ _ _ _) wS_X9_placeOf wM_X11_321 ⟨le_t rfl, le_t rfl⟩ ⟨le_t rfl, le_t rfl⟩ rfl (le_t rfl) fun z48 h47 => ?_
    refine la_223 (pc := 42) dX11_write_42 A43 hT (rIx (n := 20) h47.1 rfl) fun b49 q50 A51 => ?_
    refine mr_astore (pc := 43) (lv' := [(4, .ref b49), (0, .ref 0), (1, iv p1), (2, iv p2), (3, iv p3)]) dX11_write_43 (by decide) rfl ?_
    refine sv_aload_n (pc := 45) dX11_write_45 rfl rfl ?_
    refine gf_X11_7 (pc := 46) dX11_write_46 wF_X11_58 (A_0 hw) hT ?_
    refine sv_aload (pc := 49) dX11_write_49 rfl ?_
    refine sv_aload_n (pc := 51) dX11_write_51 rfl rfl ?_
    refine gf_X11_3 (pc := 52) dX11_write_52 wF_X11_26 (A_0 hw) hT ?_
    refine gf_X10_0 (pc := 55) dX11_write_55 wF_X11_351 (A_6 hw) hT ?_
    refine mr_iload_n (pc := 58) (z := p3) dX11_write_58 rfl rfl ?_
    refine la_7 (pc := 59) dX11_write_59 (A_7 hw) hT (rIx (n := 10) h38 rfl) fun z52 q53 h54 => ?_
    refine sv_aload_n (pc := 60) dX11_write_60 rfl rfl ?_
    refine gf_X11_3 (pc := 61) dX11_write_61 wF_X11_26 (A_0 hw) hT ?_
    refine gf_X10_1 (pc := 64) dX11_write_64 wF_X11_185 (A_6 hw) hT ?_
    refine mr_iload_n (pc := 67) (z := p3) dX11_write_67 rfl rfl ?_
    refine la_8 (pc := 68) dX11_write_68 (A_8 hw) hT (rIx (n := 10) h38 rfl) fun z55 q56 h57 => ?_
    refine mr_cVI (pc := 69) (c_X3_putDown hw hT A51 h54 h57) (gOk _ _ _ _ _) dX11_write_69 (tX3_putDown _ _ _ _ _) ⟨wV_X3_putDown, wL_X3_putDown⟩ wM_X11_354 (gCX3 _ _ _ _ _) rfl (A_76 hw) rfl ⟨le_t rfl, le_t rfl⟩ ⟨le_t rfl, le_t rfl⟩ rfl (le_t rfl) fun z62 μ58 T59 F60 h61 => ?_
    exact mr_iret dX11_write_72 rfl (le_t rfl) (le_t rfl) T59 (mF.call mF.refl F60 rfl) ⟨h61.1, trivial⟩
  have h63 : 0 ≤ z34 ∧ z34 ≤ 0 := (vc_X12_write_78 h35 h33.2.1 h33.2.2.1 hp3 h29 h33.1)
  have h64 : p3 < 0 ∨ z27 ≤ p3 := (h33.2.2.1 (vc_X12_write_79 h33.2.1 h33.2.2.1 h35 hp3 h29 h63))
  refine mr_iconst (pc := 23) (z := (-1)) dX11_write_23 ?_
  exact mr_iret dX11_write_24 rfl (le_t rfl) (le_t rfl) hT mF.refl ⟨(rW (c := (-2147483648)) (d := 2147483647) (rR (x := (-1))) rfl), trivial⟩
end
section
theorem vc_X4_forget_2 {z119 : Int} (h0 : 7 ≤ z119) (h1 : 1 ≤ z119 ∧ z119 ≤ 7) : 7 ≤ z119 ∧ z119 ≤ 7 := by omega
theorem vc_X4_forget_3 {z119 : Int} (h0 : z119 < 7) (h1 : 1 ≤ z119 ∧ z119 ≤ 7) : 1 ≤ z119 ∧ z119 ≤ 6 := by omega
theorem vc_X4_forget_4 {N z119 : Int} (h0 : (8 - z119) < N + 1) (h1 : z119 < 7) (h2 : 1 ≤ z119 ∧ z119 ≤ 6) : (8 - (z119 + 1)) < N := by omega
set_option maxRecDepth 4000 in
set_option maxHeartbeats 4000000 in
theorem c_X4_forget {l : Launch} {D : va_G} {c : Nat → ClassId} {H0 : Heap} {sa : Nat × Nat × (Nat → Int32)} {w : mW} {μ : mM} (hw : mWF w) (hT : mT w μ) : sC (gG l D c H0 sa) mX4_forget 1 0 0 [.ref 94] (mk w μ) (qI w [94010, 94011, 95999] μ (fun z μ1 => ((-2147483648) ≤ z ∧ z ≤ 2147483647) ∧ True)) := by
  refine sC.of rfl (by decide) (le_t rfl) ?_
  refine mr_lvE (lv' := [(0, .ref 94)]) rfl ?_
  refine mr_iconst (pc := 0) (z := 0) dX4_forget_0 ?_
  refine mr_istore_n (pc := 1) (lv' := [(1, iv 0), (0, .ref 94)]) dX4_forget_1 rfl (by decide) rfl ?_
  refine mr_iconst (pc := 2) (z := 1) dX4_forget_2 ?_
  refine mr_istore_n (pc := 3) (lv' := [(2, iv 1), (1, iv 0), (0, .ref 94)]) dX4_forget_3 rfl (by decide) rfl ?_
  have L122 : ∀ (nL122 : Nat) (z120 z119 : Int) (μ121 : mM), mT w μ121 → mF [95999] w μ μ121 → ((-2147483648) ≤ z120 ∧ z120 ≤ 2147483647) → (1 ≤ z119 ∧ z119 ≤ 7) → (8 - z119) < (nL122 : Int) → sV (gG l D c H0 sa) mX4_forget (sRm 1 0 0) (sZ (gG l D c H0 sa) 0 0 (qI w [94010, 94011, 95999] μ (fun z μ1 => ((-2147483648) ≤ z ∧ z ≤ 2147483647) ∧ True))) 4 [(0, .ref 94), (1, iv z120), (2, iv z119)] [] (mk w μ121) 0 0 := by
    intro nL122
    induction nL122 with
    | zero => intro z120 z119 μ121 T125 F126 h123 h124 h128; exact ((vc_X12_clear_1 h128 h124)).elim
    | succ nL122 ih129 =>
      intro z120 z119 μ121 T125 F126 h123 h124 h128
      refine mr_iload_n (pc := 4) (z := z119) dX4_forget_4 rfl rfl ?_
      refine mr_bipush (pc := 5) (z := 7) dX4_forget_5 (by decide) ?_
      refine mr_icmp_ge (pc := 7) (tgt := 32) dX4_forget_7 (by decide) (r32 h124 rfl) (r32 (rR (x := 7)) rfl) (fun h140 => ?_) (fun h140 => ?_)
      · have h141 : 7 ≤ z119 ∧ z119 ≤ 7 := (vc_X4_forget_2 h140 h124)
        refine sv_aload_n (pc := 32) dX4_forget_32 rfl rfl ?_
        refine mr_iconst (pc := 33) (z := 0) dX4_forget_33 ?_
        refine pf_X4_10 (pc := 34) dX4_forget_34 wF_X4_52 (A_94 hw) T125 (rW (c := 0) (d := 1) (rR (x := 0)) rfl) fun μ142 u143 T144 => ?_
        refine sv_aload_n (pc := 37) dX4_forget_37 rfl rfl ?_
        refine mr_iconst (pc := 38) (z := 0) dX4_forget_38 ?_
        refine pf_X4_11 (pc := 39) dX4_forget_39 wF_X4_56 (A_94 hw) T144 (rW (c := 0) (d := 1) (rR (x := 0)) rfl) fun μ145 u146 T147 => ?_
        refine mr_iload_n (pc := 42) (z := z120) dX4_forget_42 rfl rfl ?_
        exact mr_iret dX4_forget_43 rfl (le_t rfl) (le_t rfl) T147 (mF.up (mF.up (mF.call mF.refl F126 rfl) (A_94 hw) u143 rfl) (A_94 hw) u146 rfl) ⟨h123, trivial⟩
      have h148 : 1 ≤ z119 ∧ z119 ≤ 6 := (vc_X4_forget_3 h140 h124)
      refine mr_iload_n (pc := 10) (z := z120) dX4_forget_10 rfl rfl ?_
      refine sv_aload_n (pc := 11) dX4_forget_11 rfl rfl ?_
      refine gf_X4_12 (pc := 12) dX4_forget_12 wF_X4_11 (A_94 hw) T125 ?_
      refine mr_iload_n (pc := 15) (z := z119) dX4_forget_15 rfl rfl ?_
      refine la_95 (pc := 16) dX4_forget_16 (A_95 hw) T125 (rIx (n := 7) h148 rfl) fun z149 q150 h151 => ?_
      refine mr_iadd (pc := 17) (x := z120) (y := z149) dX4_forget_17 ?_
      refine mr_wrap fun z152 h153 => ?_
      refine mr_istore_n (pc := 18) (lv' := [(1, iv z152), (0, .ref 94), (2, iv z119)]) dX4_forget_18 rfl (by decide) rfl ?_
      refine sv_aload_n (pc := 19) dX4_forget_19 rfl rfl ?_
      refine gf_X4_12 (pc := 20) dX4_forget_20 wF_X4_11 (A_94 hw) T125 ?_
      refine mr_iload_n (pc := 23) (z := z119) dX4_forget_23 rfl rfl ?_
      refine mr_iconst (pc := 24) (z := 0) dX4_forget_24 ?_
      refine ss_95 (pc := 25) dX4_forget_25 (A_95 hw) T125 (rIx (n := 7) h148 rfl) (rW (c := 0) (d := 5) (rR (x := 0)) rfl) fun μ154 u155 T156 => ?_
      refine mr_iinc (pc := 26) (lv' := [(2, iv (z119 + 1)), (1, iv z152), (0, .ref 94)]) dX4_forget_26 rfl (by decide) rfl ?_
      refine sv_goto (pc := 29) (tgt := 4) dX4_forget_29 (by decide) ?_
      refine mr_lvS (lv' := [(0, .ref 94), (1, iv z152), (2, iv (z119 + 1))]) (List.forall_mem_cons.mpr ⟨rfl, List.forall_mem_cons.mpr ⟨rfl, List.forall_mem_cons.mpr ⟨rfl, fun _ h => absurd h List.not_mem_nil⟩⟩⟩) ?_
      exact ih129 z152 (z119 + 1) μ154 T156 (mF.up (mF.call mF.refl F126 rfl) (A_95 hw) u155 rfl) h153 (rW (c := 1) (d := 7) (rAdd (e := 2) (f := 7) h148 (rR (x := 1)) rfl) rfl) (vc_X4_forget_4 (nS h128) h140 h148)
  refine mr_lvS (lv' := [(0, .ref 94), (1, iv 0), (2, iv 1)]) (List.forall_mem_cons.mpr ⟨rfl, List.forall_mem_cons.mpr ⟨rfl, List.forall_mem_cons.mpr ⟨rfl, fun _ h => absurd h List.not_mem_nil⟩⟩⟩) ?_
  exact L122 8 0 1 μ hT mF.refl (rW (c := (-2147483648)) (d := 2147483647) (rR (x := 0)) rfl) (rW (c := 1) (d := 7) (rR (x := 1)) rfl) vc_X12_clear_5
end
section
theorem vc_X4_actOf_2 {z104 z96 : Int} (h0 : z96 < z104) (h1 : 0 ≤ z104 ∧ z104 ≤ 5) (h2 : 0 ≤ z96 ∧ z96 ≤ 5) : 0 ≤ z96 ∧ z96 ≤ 4 := by omega
theorem vc_X4_actOf_3 {z104 z96 : Int} (h0 : z96 < z104) (h1 : 0 ≤ z104 ∧ z104 ≤ 5) (h2 : 0 ≤ z96 ∧ z96 ≤ 4) : 1 ≤ z104 ∧ z104 ≤ 5 := by omega
theorem vc_X4_actOf_6 {N z104 z96 : Int} (h0 : (6 - z96) < N + 1) (h1 : z96 < z104) (h2 : 1 ≤ z104 ∧ z104 ≤ 5) (h3 : 0 ≤ z96 ∧ z96 ≤ 4) : (6 - (z96 + 1)) < N := by omega
theorem vc_X4_actOf_7 {z116 z119 : Int} (h0 : z116 = z119) (h1 : 0 ≤ z116 ∧ z116 ≤ 46656) (h2 : (-1) ≤ z119 ∧ z119 ≤ 5) : 0 ≤ z116 ∧ z116 ≤ 5 := by omega
theorem vc_X4_actOf_8 {z116 z119 : Int} (h0 : z116 = z119) (h1 : 0 ≤ z116 ∧ z116 ≤ 5) (h2 : (-1) ≤ z119 ∧ z119 ≤ 5) : 0 ≤ z119 ∧ z119 ≤ 5 := by omega
set_option maxRecDepth 4000 in
set_option maxHeartbeats 4000000 in
theorem c_X4_actOf {l : Launch} {D : va_G} {c : Nat → ClassId} {H0 : Heap} {sa : Nat × Nat × (Nat → Int32)} {w : mW} {μ : mM} (hw : mWF w) (hT : mT w μ) {p1 : Int} (hp1 : 0 ≤ p1 ∧ p1 ≤ 6) : sC (gG l D c H0 sa) mX4_actOf 1 0 0 [.ref 94, iv p1] (mk w μ) (qP w μ (fun z => (0 ≤ z ∧ z ≤ 5) ∧ True)) := by
  refine sC.of rfl (by decide) (le_t rfl) ?_
  refine mr_lvE (lv' := [(0, .ref 94), (1, iv p1)]) rfl ?_
  refine mr_iconst (pc := 0) (z := 0) dX4_actOf_0 ?_
  refine mr_istore_n (pc := 1) (lv' := [(2, iv 0), (0, .ref 94), (1, iv p1)]) dX4_actOf_1 rfl (by decide) rfl ?_
  have L97 : ∀ (nL97 : Nat) (z96 : Int), True → (0 ≤ z96 ∧ z96 ≤ 5) → (6 - z96) < (nL97 : Int) → sV (gG l D c H0 sa) mX4_actOf (sRm 1 0 0) (sZ (gG l D c H0 sa) 0 0 (qP w μ (fun z => (0 ≤ z ∧ z ≤ 5) ∧ True))) 2 [(0, .ref 94), (1, iv p1), (2, iv z96)] [] (mk w μ) 0 0 := by
    intro nL97
    induction nL97 with
    | zero => intro z96 _ h98 h102; exact ((vc_X12_acted_1 h102 h98)).elim
    | succ nL97 ih103 =>
      intro z96 _ h98 h102
      refine mr_iload_n (pc := 2) (z := z96) dX4_actOf_2 rfl rfl ?_
      refine sv_aload_n (pc := 3) dX4_actOf_3 rfl rfl ?_
      refine gf_X4_12 (pc := 4) dX4_actOf_4 wF_X4_11 (A_94 hw) hT ?_
      refine mr_iload_n (pc := 7) (z := p1) dX4_actOf_7 rfl rfl ?_
      refine la_95 (pc := 8) dX4_actOf_8 (A_95 hw) hT (rIx (n := 7) hp1 rfl) fun z104 q105 h106 => ?_
      refine mr_icmp_ge (pc := 9) (tgt := 55) dX4_actOf_9 (by decide) (r32 h98 rfl) (r32 h106 rfl) (fun h107 => ?_) (fun h107 => ?_)
      · refine sv_aload_n (pc := 55) dX4_actOf_55 rfl rfl ?_
        refine gf_X4_12 (pc := 56) dX4_actOf_56 wF_X4_11 (A_94 hw) hT ?_
        refine mr_iload_n (pc := 59) (z := p1) dX4_actOf_59 rfl rfl ?_
        refine lk_95 (pc := 60) dX4_actOf_60 (A_95 hw) (rIx (n := 7) hp1 rfl) q105 ?_
        exact mr_iretP dX4_actOf_61 rfl (le_t rfl) (le_t rfl) ⟨h106, trivial⟩
      have h108 : 0 ≤ z96 ∧ z96 ≤ 4 := (vc_X4_actOf_2 h107 h106 h98)
      have h109 : 1 ≤ z104 ∧ z104 ≤ 5 := (vc_X4_actOf_3 h107 h106 h108)
      refine mr_iload_n (pc := 12) (z := p1) dX4_actOf_12 rfl rfl ?_
      refine mr_iconst (pc := 13) (z := 5) dX4_actOf_13 ?_
      refine mr_imul (pc := 14) (x := p1) (y := 5) dX4_actOf_14 ?_
      refine mr_iload_n (pc := 15) (z := z96) dX4_actOf_15 rfl rfl ?_
      refine mr_iadd (pc := 16) (x := (p1 * 5)) (y := z96) dX4_actOf_16 ?_
      refine mr_istore_n (pc := 17) (lv' := [(3, iv ((p1 * 5) + z96)), (0, .ref 94), (1, iv p1), (2, iv z96)]) dX4_actOf_17 rfl (by decide) rfl ?_
      refine sv_aload_n (pc := 18) dX4_actOf_18 rfl rfl ?_
      refine gf_X4_2 (pc := 19) dX4_actOf_19 wF_X4_21 (A_94 hw) hT ?_
      refine mr_iload_n (pc := 22) (z := ((p1 * 5) + z96)) dX4_actOf_22 rfl rfl ?_
      refine la_98 (pc := 23) dX4_actOf_23 (A_98 hw) hT (rIx (n := 35) (rAdd (e := 0) (f := 34) (rMulR (n := 5) (e := 0) (f := 30) hp1 rfl) h108 rfl) rfl) fun z110 q111 h112 => ?_
      refine mr_istore (pc := 24) (lv' := [(4, iv z110), (3, iv ((p1 * 5) + z96)), (0, .ref 94), (1, iv p1), (2, iv z96)]) dX4_actOf_24 (by decide) rfl ?_
      refine mr_iload (pc := 26) (z := z110) dX4_actOf_26 rfl ?_
      refine mr_if_eq (pc := 28) (tgt := 47) dX4_actOf_28 (by decide) (r32 h112 rfl) (fun h113 => ?_) (fun h113 => ?_)
      · have h114 : 0 ≤ z110 ∧ z110 ≤ 0 := (vc_X12_isOffered_13 h113 h112)
        refine mr_iload_n (pc := 47) (z := z96) dX4_actOf_47 rfl rfl ?_
        exact mr_iretP dX4_actOf_48 rfl (le_t rfl) (le_t rfl) ⟨(rW (c := 0) (d := 5) h108 rfl), trivial⟩
      have h115 : 1 ≤ z110 ∧ z110 ≤ 6 := (vc_X12_isOffered_1 h113 h112)
      refine sv_aload_n (pc := 31) dX4_actOf_31 rfl rfl ?_
      refine gf_X4_5 (pc := 32) dX4_actOf_32 wF_X4_30 (A_94 hw) hT ?_
      refine mr_iload (pc := 35) (z := z110) dX4_actOf_35 rfl ?_
      refine la_101 (pc := 37) dX4_actOf_37 (A_101 hw) hT (rIx (n := 7) h115 rfl) fun z116 q117 h118 => ?_
      refine sv_aload_n (pc := 38) dX4_actOf_38 rfl rfl ?_
      refine gf_X4_3 (pc := 39) dX4_actOf_39 wF_X4_24 (A_94 hw) hT ?_
      refine mr_iload_n (pc := 42) (z := ((p1 * 5) + z96)) dX4_actOf_42 rfl rfl ?_
      refine la_99 (pc := 43) dX4_actOf_43 (A_99 hw) hT (rIx (n := 35) (rAdd (e := 0) (f := 34) (rMulR (n := 5) (e := 0) (f := 30) hp1 rfl) h108 rfl) rfl) fun z119 q120 h121 => ?_
      refine mr_icmp_ne (pc := 44) (tgt := 49) dX4_actOf_44 (by decide) (r32 h118 rfl) (r32 h121 rfl) (fun h122 => ?_) (fun h122 => ?_)
      · refine mr_iinc (pc := 49) (lv' := [(2, iv (z96 + 1)), (4, iv z110), (3, iv ((p1 * 5) + z96)), (0, .ref 94), (1, iv p1)]) dX4_actOf_49 rfl (by decide) rfl ?_
        refine sv_goto (pc := 52) (tgt := 2) dX4_actOf_52 (by decide) ?_
        refine mr_lvS (lv' := [(0, .ref 94), (1, iv p1), (2, iv (z96 + 1))]) (List.forall_mem_cons.mpr ⟨rfl, List.forall_mem_cons.mpr ⟨rfl, List.forall_mem_cons.mpr ⟨rfl, fun _ h => absurd h List.not_mem_nil⟩⟩⟩) ?_
        exact ih103 (z96 + 1) trivial (rW (c := 0) (d := 5) (rAdd (e := 1) (f := 5) h108 (rR (x := 1)) rfl) rfl) (vc_X4_actOf_6 (nS h102) h107 h109 h108)
      have h123 : 0 ≤ z116 ∧ z116 ≤ 5 := (vc_X4_actOf_7 h122 h118 h121)
      have h124 : 0 ≤ z119 ∧ z119 ≤ 5 := (vc_X4_actOf_8 h122 h123 h121)
      refine mr_iload_n (pc := 47) (z := z96) dX4_actOf_47 rfl rfl ?_
      exact mr_iretP dX4_actOf_48 rfl (le_t rfl) (le_t rfl) ⟨(rW (c := 0) (d := 5) h108 rfl), trivial⟩
  refine mr_lvS (lv' := [(0, .ref 94), (1, iv p1), (2, iv 0)]) (List.forall_mem_cons.mpr ⟨rfl, List.forall_mem_cons.mpr ⟨rfl, List.forall_mem_cons.mpr ⟨rfl, fun _ h => absurd h List.not_mem_nil⟩⟩⟩) ?_
  exact L97 7 0 trivial (rW (c := 0) (d := 5) (rR (x := 0)) rfl) vc_X12_acted_13
theorem vc_X4_isRest_4 {z66 z73 : Int} (h0 : z66 = z73) (h1 : 0 ≤ z66 ∧ z66 ≤ 46656) (h2 : 0 ≤ z73 ∧ z73 ≤ 5) : 0 ≤ z66 ∧ z66 ≤ 5 := by omega
set_option maxRecDepth 4000 in
set_option maxHeartbeats 4000000 in
theorem c_X4_isRest {l : Launch} {D : va_G} {c : Nat → ClassId} {H0 : Heap} {sa : Nat × Nat × (Nat → Int32)} {w : mW} {μ : mM} (hw : mWF w) (hT : mT w μ) : sC (gG l D c H0 sa) mX4_isRest 2 0 0 [.ref 94] (mk w μ) (qP w μ (fun z => (0 ≤ z ∧ z ≤ 1) ∧ True)) := by
  refine sC.of rfl (by decide) (le_t rfl) ?_
  refine mr_lvE (lv' := [(0, .ref 94)]) rfl ?_
  refine mr_iconst (pc := 0) (z := 1) dX4_isRest_0 ?_
  refine mr_istore_n (pc := 1) (lv' := [(1, iv 1), (0, .ref 94)]) dX4_isRest_1 rfl (by decide) rfl ?_
  have L56 : ∀ (nL56 : Nat) (z55 : Int), True → (1 ≤ z55 ∧ z55 ≤ 7) → (8 - z55) < (nL56 : Int) → sV (gG l D c H0 sa) mX4_isRest (sRm 2 0 0) (sZ (gG l D c H0 sa) 0 0 (qP w μ (fun z => (0 ≤ z ∧ z ≤ 1) ∧ True))) 2 [(0, .ref 94), (1, iv z55)] [] (mk w μ) 0 0 := by
    intro nL56
    induction nL56 with
    | zero => intro z55 _ h57 h61; exact ((vc_X12_clear_1 h61 h57)).elim
    | succ nL56 ih62 =>
      intro z55 _ h57 h61
      refine mr_iload_n (pc := 2) (z := z55) dX4_isRest_2 rfl rfl ?_
      refine mr_bipush (pc := 3) (z := 7) dX4_isRest_3 (by decide) ?_
      refine mr_icmp_ge (pc := 5) (tgt := 30) dX4_isRest_5 (by decide) (r32 h57 rfl) (r32 (rR (x := 7)) rfl) (fun h63 => ?_) (fun h63 => ?_)
      · have h64 : 7 ≤ z55 ∧ z55 ≤ 7 := (vc_X4_forget_2 h63 h57)
        refine mr_iconst (pc := 30) (z := 1) dX4_isRest_30 ?_
        exact mr_zretP dX4_isRest_31 rfl (rW (c := 0) (d := 1) (rR (x := 1)) rfl) (le_t rfl) (le_t rfl) ⟨(rW (c := 0) (d := 1) (rR (x := 1)) rfl), trivial⟩
      have h65 : 1 ≤ z55 ∧ z55 ≤ 6 := (vc_X4_forget_3 h63 h57)
      refine sv_aload_n (pc := 8) dX4_isRest_8 rfl rfl ?_
      refine gf_X4_5 (pc := 9) dX4_isRest_9 wF_X4_30 (A_94 hw) hT ?_
      refine mr_iload_n (pc := 12) (z := z55) dX4_isRest_12 rfl rfl ?_
      refine la_101 (pc := 13) dX4_isRest_13 (A_101 hw) hT (rIx (n := 7) h65 rfl) fun z66 q67 h68 => ?_
      refine sv_aload_n (pc := 14) dX4_isRest_14 rfl rfl ?_
      refine mr_iload_n (pc := 15) (z := z55) dX4_isRest_15 rfl rfl ?_
      refine mr_cVP (pc := 16) (c_X4_actOf hw hT (rW (c := 0) (d := 6) h65 rfl)) (gOk _ _ _ _ _) dX4_isRest_16 (tX4_actOf _ _ _ _ _) ⟨wV_X4_actOf, wL_X4_actOf⟩ wM_X4_71 (gCX4 _ _ _ _ _) rfl (A_94 hw) rfl ⟨le_t rfl, le_t rfl⟩ ⟨le_t rfl, le_t rfl⟩ rfl (le_t rfl) fun z73 h72 => ?_
      refine mr_icmp_eq (pc := 19) (tgt := 24) dX4_isRest_19 (by decide) (r32 h68 rfl) (r32 h72.1 rfl) (fun h74 => ?_) (fun h74 => ?_)
      · have h75 : 0 ≤ z66 ∧ z66 ≤ 5 := (vc_X4_isRest_4 h74 h68 h72.1)
        refine mr_iinc (pc := 24) (lv' := [(1, iv (z55 + 1)), (0, .ref 94)]) dX4_isRest_24 rfl (by decide) rfl ?_
        refine sv_goto (pc := 27) (tgt := 2) dX4_isRest_27 (by decide) ?_
        refine mr_lvS (lv' := [(0, .ref 94), (1, iv (z55 + 1))]) (List.forall_mem_cons.mpr ⟨rfl, List.forall_mem_cons.mpr ⟨rfl, fun _ h => absurd h List.not_mem_nil⟩⟩) ?_
        exact ih62 (z55 + 1) trivial (rW (c := 1) (d := 7) (rAdd (e := 2) (f := 7) h65 (rR (x := 1)) rfl) rfl) (vc_X4_forget_4 (nS h61) h63 h65)
      refine mr_iconst (pc := 22) (z := 0) dX4_isRest_22 ?_
      exact mr_zretP dX4_isRest_23 rfl (rW (c := 0) (d := 1) (rR (x := 0)) rfl) (le_t rfl) (le_t rfl) ⟨(rW (c := 0) (d := 1) (rR (x := 0)) rfl), trivial⟩
  refine mr_lvS (lv' := [(0, .ref 94), (1, iv 1)]) (List.forall_mem_cons.mpr ⟨rfl, List.forall_mem_cons.mpr ⟨rfl, fun _ h => absurd h List.not_mem_nil⟩⟩) ?_
  exact L56 8 1 trivial (rW (c := 1) (d := 7) (rR (x := 1)) rfl) vc_X12_clear_5
theorem vc_X4_figure_1 {z1 : Int} (h0 : z1 ≤ 0) (h1 : 0 ≤ z1 ∧ z1 ≤ 46656) : 0 ≤ z1 ∧ z1 ≤ 0 := by omega
theorem vc_X4_figure_2 {z1 : Int} (h0 : 0 < z1) (h1 : 0 ≤ z1 ∧ z1 ≤ 46656) : 1 ≤ z1 ∧ z1 ≤ 46656 := by omega
theorem vc_X4_figure_3 {z1 : Int} (h0 : 0 < z1) (h1 : 1 ≤ z1 ∧ z1 ≤ 46656) : 0 < z1 ∧ z1 ≤ 2147483647 := by omega
set_option maxRecDepth 4000 in
set_option maxHeartbeats 4000000 in
theorem c_X4_figure {l : Launch} {D : va_G} {c : Nat → ClassId} {H0 : Heap} {sa : Nat × Nat × (Nat → Int32)} {w : mW} {μ : mM} (hw : mWF w) (hT : mT w μ) {p1 : Int} (hp1 : 0 ≤ p1 ∧ p1 ≤ 46655) {p2 : Int} (hp2 : 1 ≤ p2 ∧ p2 ≤ 6) : sC (gG l D c H0 sa) mX4_figure 1 0 0 [.ref 94, iv p1, iv p2] (mk w μ) (qP w μ (fun z => (0 ≤ z ∧ z ≤ 5) ∧ True)) := by
  refine sC.of rfl (by decide) (le_t rfl) ?_
  refine mr_lvE (lv' := [(0, .ref 94), (1, iv p1), (2, iv p2)]) rfl ?_
  refine sv_aload_n (pc := 0) dX4_figure_0 rfl rfl ?_
  refine gf_X4_4 (pc := 1) dX4_figure_1 wF_X4_27 (A_94 hw) hT ?_
  refine mr_iload_n (pc := 4) (z := p2) dX4_figure_4 rfl rfl ?_
  refine la_100 (pc := 5) dX4_figure_5 (A_100 hw) hT (rIx (n := 7) hp2 rfl) fun z1 q2 h3 => ?_
  refine mr_istore_n (pc := 6) (lv' := [(3, iv z1), (0, .ref 94), (1, iv p1), (2, iv p2)]) dX4_figure_6 rfl (by decide) rfl ?_
  refine mr_iload_n (pc := 7) (z := z1) dX4_figure_7 rfl rfl ?_
  refine mr_if_le (pc := 8) (tgt := 26) dX4_figure_8 (by decide) (r32 h3 rfl) (fun h15 => ?_) (fun h15 => ?_)
  · have h16 : 0 ≤ z1 ∧ z1 ≤ 0 := (vc_X4_figure_1 h15 h3)
    refine mr_iconst (pc := 26) (z := 0) dX4_figure_26 ?_
    exact mr_iretP dX4_figure_27 rfl (le_t rfl) (le_t rfl) ⟨(rW (c := 0) (d := 5) (rR (x := 0)) rfl), trivial⟩
  have h17 : 1 ≤ z1 ∧ z1 ≤ 46656 := (vc_X4_figure_2 h15 h3)
  refine mr_iload_n (pc := 11) (z := p1) dX4_figure_11 rfl rfl ?_
  refine mr_iload_n (pc := 12) (z := z1) dX4_figure_12 rfl rfl ?_
  refine mr_idiv (pc := 13) (x := p1) (y := z1) dX4_figure_13 (rW (c := 0) (d := 2147483647) hp1 rfl) (vc_X4_figure_3 h15 h17) ?_
  refine mr_gen (P := fun z => 0 ≤ z ∧ z ≤ 46655) (rDivV hp1 (vc_X4_figure_3 h15 h17) rfl) fun z18 q19 h20 => ?_
  refine sv_aload_n (pc := 14) dX4_figure_14 rfl rfl ?_
  refine gf_X4_12 (pc := 15) dX4_figure_15 wF_X4_11 (A_94 hw) hT ?_
  refine mr_iload_n (pc := 18) (z := p2) dX4_figure_18 rfl rfl ?_
  refine la_95 (pc := 19) dX4_figure_19 (A_95 hw) hT (rIx (n := 7) hp2 rfl) fun z21 q22 h23 => ?_
  refine mr_iconst (pc := 20) (z := 1) dX4_figure_20 ?_
  refine mr_iadd (pc := 21) (x := z21) (y := 1) dX4_figure_21 ?_
  refine mr_irem (pc := 22) (x := z18) (y := (z21 + 1)) dX4_figure_22 (rW (c := 0) (d := 2147483647) h20 rfl) (vc_X12_open_9 h23) ?_
  refine mr_gen (P := fun z => 0 ≤ z ∧ z ≤ 5) (rModV (rAdd (e := 1) (f := 6) h23 (rR (x := 1)) rfl) (vc_X12_open_9 h23) rfl) fun z24 q25 h26 => ?_
  refine sv_goto (pc := 23) (tgt := 27) dX4_figure_23 (by decide) ?_
  exact mr_iretP dX4_figure_27 rfl (le_t rfl) (le_t rfl) ⟨h26, trivial⟩
set_option maxRecDepth 4000 in
set_option maxHeartbeats 4000000 in
theorem c_X11_clear {l : Launch} {D : va_G} {c : Nat → ClassId} {H0 : Heap} {sa : Nat × Nat × (Nat → Int32)} {w : mW} {μ : mM} (hw : mWF w) (hT : mT w μ) : sC (gG l D c H0 sa) mX11_clear 2 0 0 [.ref 0] (mk w μ) (qI w [94010, 94011, 95999] μ (fun z μ1 => ((-2147483648) ≤ z ∧ z ≤ 2147483647) ∧ True)) := by
  refine sC.of rfl (by decide) (le_t rfl) ?_
  refine mr_lvE (lv' := [(0, .ref 0)]) rfl ?_
  refine sv_aload_n (pc := 0) dX11_clear_0 rfl rfl ?_
  refine gf_X11_9 (pc := 1) dX11_clear_1 wF_X11_72 (A_0 hw) hT ?_
  refine mr_cVI (pc := 4) (c_X4_forget hw hT) (gOk _ _ _ _ _) dX11_clear_4 (tX4_forget _ _ _ _ _) ⟨wV_X4_forget, wL_X4_forget⟩ wM_X11_394 (gCX4 _ _ _ _ _) rfl (A_94 hw) rfl ⟨le_t rfl, le_t rfl⟩ ⟨le_t rfl, le_t rfl⟩ rfl (le_t rfl) fun z5 μ1 T2 F3 h4 => ?_
  exact mr_iret dX11_clear_7 rfl (le_t rfl) (le_t rfl) T2 (mF.call mF.refl F3 rfl) ⟨h4.1, trivial⟩
set_option maxRecDepth 4000 in
set_option maxHeartbeats 4000000 in
theorem c_X11_count {l : Launch} {D : va_G} {c : Nat → ClassId} {H0 : Heap} {sa : Nat × Nat × (Nat → Int32)} {w : mW} {μ : mM} (hw : mWF w) (hT : mT w μ) {p1 : Int} (hp1 : (-2147483648) ≤ p1 ∧ p1 ≤ 2147483647) : sC (gG l D c H0 sa) mX11_count 1 0 0 [.ref 0, iv p1] (mk w μ) (qP w μ (fun z => ((-2147483648) ≤ z ∧ z ≤ 2147483647) ∧ True)) := by
  refine sC.of rfl (by decide) (le_t rfl) ?_
  refine mr_lvE (lv' := [(0, .ref 0), (1, iv p1)]) rfl ?_
  refine mr_iload_n (pc := 0) (z := p1) dX11_count_0 rfl rfl ?_
  by_cases h1 : p1 = 0
  · refine mr_tableIn (pc := 1) (v := 0) (tgt := 64) dX11_count_1 h1 rfl rfl (by decide) ?_
    have h2 : 0 ≤ p1 ∧ p1 ≤ 0 := (vc_X12_mask_1 h1 hp1)
    refine sv_aload_n (pc := 64) dX11_count_64 rfl rfl ?_
    refine gf_X11_3 (pc := 65) dX11_count_65 wF_X11_26 (A_0 hw) hT ?_
    refine gf_X10_14 (pc := 68) dX11_count_68 wF_X11_92 (A_6 hw) hT fun z3 q4 h5 => ?_
    exact mr_iretP dX11_count_71 rfl (le_t rfl) (le_t rfl) ⟨(rW (c := (-2147483648)) (d := 2147483647) h5 rfl), trivial⟩
  by_cases h6 : p1 = 1
  · refine mr_tableIn (pc := 1) (v := 1) (tgt := 72) dX11_count_1 h6 rfl rfl (by decide) ?_
    have h7 : 1 ≤ p1 ∧ p1 ≤ 1 := (vc_X12_count_4 h6 h1 hp1)
    refine sv_aload_n (pc := 72) dX11_count_72 rfl rfl ?_
    refine gf_X11_3 (pc := 73) dX11_count_73 wF_X11_26 (A_0 hw) hT ?_
    refine gf_X10_15 (pc := 76) dX11_count_76 wF_X11_98 (A_6 hw) hT fun z8 q9 h10 => ?_
    exact mr_iretP dX11_count_79 rfl (le_t rfl) (le_t rfl) ⟨(rW (c := (-2147483648)) (d := 2147483647) h10.2 rfl), trivial⟩
  by_cases h11 : p1 = 2
  · refine mr_tableIn (pc := 1) (v := 2) (tgt := 80) dX11_count_1 h11 rfl rfl (by decide) ?_
    have h12 : 2 ≤ p1 ∧ p1 ≤ 2 := (vc_X12_count_5 h11 h1 h6 hp1)
    refine sv_aload_n (pc := 80) dX11_count_80 rfl rfl ?_
    refine gf_X11_3 (pc := 81) dX11_count_81 wF_X11_26 (A_0 hw) hT ?_
    refine gf_X10_16 (pc := 84) dX11_count_84 wF_X11_112 (A_6 hw) hT fun z13 q14 h15 => ?_
    exact mr_iretP dX11_count_87 rfl (le_t rfl) (le_t rfl) ⟨(rW (c := (-2147483648)) (d := 2147483647) h15.2 rfl), trivial⟩
  by_cases h16 : p1 = 3
  · refine mr_tableIn (pc := 1) (v := 3) (tgt := 88) dX11_count_1 h16 rfl rfl (by decide) ?_
    have h17 : 3 ≤ p1 ∧ p1 ≤ 3 := (vc_X12_count_6 h16 h1 h6 h11 hp1)
    refine sv_aload_n (pc := 88) dX11_count_88 rfl rfl ?_
    refine gf_X11_3 (pc := 89) dX11_count_89 wF_X11_26 (A_0 hw) hT ?_
    refine gf_X10_17 (pc := 92) dX11_count_92 wF_X11_188 (A_6 hw) hT fun z18 q19 h20 => ?_
    exact mr_iretP dX11_count_95 rfl (le_t rfl) (le_t rfl) ⟨(rW (c := (-2147483648)) (d := 2147483647) h20 rfl), trivial⟩
  by_cases h21 : p1 = 4
  · refine mr_tableIn (pc := 1) (v := 4) (tgt := 96) dX11_count_1 h21 rfl rfl (by decide) ?_
    have h22 : 4 ≤ p1 ∧ p1 ≤ 4 := (vc_X12_count_7 h21 h1 h6 h11 h16 hp1)
    refine sv_aload_n (pc := 96) dX11_count_96 rfl rfl ?_
    refine gf_X11_4 (pc := 97) dX11_count_97 wF_X11_35 (A_0 hw) hT ?_
    refine gf_X1_8 (pc := 100) dX11_count_100 wF_X11_205 (A_21 hw) hT fun z23 q24 h25 => ?_
    exact mr_iretP dX11_count_103 rfl (le_t rfl) (le_t rfl) ⟨(rW (c := (-2147483648)) (d := 2147483647) h25.2 rfl), trivial⟩
  by_cases h26 : p1 = 5
  · refine mr_tableIn (pc := 1) (v := 5) (tgt := 104) dX11_count_1 h26 rfl rfl (by decide) ?_
    have h27 : 5 ≤ p1 ∧ p1 ≤ 5 := (vc_X12_count_8 h26 h1 h6 h11 h16 h21 hp1)
    refine sv_aload_n (pc := 104) dX11_count_104 rfl rfl ?_
    refine gf_X11_8 (pc := 105) dX11_count_105 wF_X11_65 (A_0 hw) hT ?_
    refine gf_X2_10 (pc := 108) dX11_count_108 wF_X11_373 (A_87 hw) hT fun z28 q29 h30 => ?_
    have h31 : 0 ≤ z28 ∧ z28 ≤ 16 := ⟨h30.1, h30.2.1⟩
    exact mr_iretP dX11_count_111 rfl (le_t rfl) (le_t rfl) ⟨(rW (c := (-2147483648)) (d := 2147483647) h31 rfl), trivial⟩
  by_cases h32 : p1 = 6
  · refine mr_tableIn (pc := 1) (v := 6) (tgt := 112) dX11_count_1 h32 rfl rfl (by decide) ?_
    have h33 : 6 ≤ p1 ∧ p1 ≤ 6 := (vc_X12_count_9 h32 h1 h6 h11 h16 h21 h26 hp1)
    refine sv_aload_n (pc := 112) dX11_count_112 rfl rfl ?_
    refine gf_X11_10 (pc := 113) dX11_count_113 wF_X11_76 (A_0 hw) hT fun z34 q35 h36 => ?_
    exact mr_iretP dX11_count_116 rfl (le_t rfl) (le_t rfl) ⟨(rW (c := (-2147483648)) (d := 2147483647) h36 rfl), trivial⟩
  by_cases h37 : p1 = 7
  · refine mr_tableIn (pc := 1) (v := 7) (tgt := 117) dX11_count_1 h37 rfl rfl (by decide) ?_
    have h38 : 7 ≤ p1 ∧ p1 ≤ 7 := (vc_X12_count_10 h37 h1 h6 h11 h16 h21 h26 h32 hp1)
    refine sv_aload_n (pc := 117) dX11_count_117 rfl rfl ?_
    refine gf_X11_6 (pc := 118) dX11_count_118 wF_X11_51 (A_0 hw) hT ?_
    refine gf_X8_11 (pc := 121) dX11_count_121 wF_X11_303 (A_32 hw) hT fun z39 q40 h41 => ?_
    exact mr_iretP dX11_count_124 rfl (le_t rfl) (le_t rfl) ⟨(rW (c := (-2147483648)) (d := 2147483647) h41 rfl), trivial⟩
  by_cases h42 : p1 = 8
  · refine mr_tableIn (pc := 1) (v := 8) (tgt := 125) dX11_count_1 h42 rfl rfl (by decide) ?_
    have h43 : 8 ≤ p1 ∧ p1 ≤ 8 := (vc_X12_count_11 h42 h6 h11 h16 h21 h26 h32 h37 hp1)
    refine sv_aload_n (pc := 125) dX11_count_125 rfl rfl ?_
    refine gf_X11_6 (pc := 126) dX11_count_126 wF_X11_51 (A_0 hw) hT ?_
    refine gf_X8_10 (pc := 129) dX11_count_129 wF_X11_426 (A_32 hw) hT fun z44 q45 h46 => ?_
    have h47 : 0 ≤ z44 ∧ z44 ≤ 800 := ⟨h46.1, h46.2.1⟩
    exact mr_iretP dX11_count_132 rfl (le_t rfl) (le_t rfl) ⟨(rW (c := (-2147483648)) (d := 2147483647) h47 rfl), trivial⟩
  by_cases h48 : p1 = 9
  · refine mr_tableIn (pc := 1) (v := 9) (tgt := 133) dX11_count_1 h48 rfl rfl (by decide) ?_
    have h49 : 9 ≤ p1 ∧ p1 ≤ 9 := (vc_X12_count_12 h48 h11 h16 h21 h26 h32 h37 h42 hp1)
    refine sv_aload_n (pc := 133) dX11_count_133 rfl rfl ?_
    refine gf_X11_6 (pc := 134) dX11_count_134 wF_X11_51 (A_0 hw) hT ?_
    refine gf_X8_12 (pc := 137) dX11_count_137 wF_X11_429 (A_32 hw) hT fun z50 q51 h52 => ?_
    exact mr_iretP dX11_count_140 rfl (le_t rfl) (le_t rfl) ⟨h52, trivial⟩
  by_cases h53 : p1 = 10
  · refine mr_tableIn (pc := 1) (v := 10) (tgt := 141) dX11_count_1 h53 rfl rfl (by decide) ?_
    have h54 : 10 ≤ p1 ∧ p1 ≤ 10 := (vc_X12_count_13 h53 h16 h21 h26 h32 h37 h42 h48 hp1)
    refine sv_aload_n (pc := 141) dX11_count_141 rfl rfl ?_
    refine gf_X11_11 (pc := 142) dX11_count_142 wF_X11_169 (A_0 hw) hT fun z55 q56 h57 => ?_
    exact mr_iretP dX11_count_145 rfl (le_t rfl) (le_t rfl) ⟨(rW (c := (-2147483648)) (d := 2147483647) h57 rfl), trivial⟩
  by_cases h58 : p1 = 11
  · refine mr_tableIn (pc := 1) (v := 11) (tgt := 146) dX11_count_1 h58 rfl rfl (by decide) ?_
    have h59 : 11 ≤ p1 ∧ p1 ≤ 11 := (vc_X12_count_14 h58 h21 h26 h32 h37 h42 h48 h53 hp1)
    refine sv_aload_n (pc := 146) dX11_count_146 rfl rfl ?_
    refine gf_X11_3 (pc := 147) dX11_count_147 wF_X11_26 (A_0 hw) hT ?_
    refine gf_X10_18 (pc := 150) dX11_count_150 wF_X11_176 (A_6 hw) hT fun z60 q61 h62 => ?_
    exact mr_iretP dX11_count_153 rfl (le_t rfl) (le_t rfl) ⟨(rW (c := (-2147483648)) (d := 2147483647) h62 rfl), trivial⟩
  refine mr_tableOut (pc := 1) (tgt := 154) dX11_count_1 hp1 (vc_X12_count_15 h1 h6 h11 h16 h21 h26 h32 h37 h42 h48 h53 h58 hp1) (by decide) ?_
  refine mr_iconst (pc := 154) (z := (-1)) dX11_count_154 ?_
  exact mr_iretP dX11_count_155 rfl (le_t rfl) (le_t rfl) ⟨(rW (c := (-2147483648)) (d := 2147483647) (rR (x := (-1))) rfl), trivial⟩
end
section
theorem dX1_doActs_0 : decode cX1_doActs 0 = .ok (.iconst 0, 1) := dc0 dO_3 (by decide +kernel)
theorem dX1_doActs_1 : decode cX1_doActs 1 = .ok (.istore 5, 2) := dcU1 dO_54 (by decide +kernel)
theorem dX1_doActs_3 : decode cX1_doActs 3 = .ok (.iload 5, 2) := dcU1 dO_21 (by decide +kernel)
theorem dX1_doActs_5 : decode cX1_doActs 5 = .ok (.iload_n 3, 1) := dc0 dO_29 (by decide +kernel)
theorem dX1_doActs_6 : decode cX1_doActs 6 = .ok (.if_icmp .ge 260, 3) := dcS2 dO_162 (by decide +kernel)
theorem dX1_doActs_9 : decode cX1_doActs 9 = .ok (.aload_n 0, 1) := dc0 dO_42 (by decide +kernel)
theorem dX1_doActs_10 : decode cX1_doActs 10 = .ok (.getfield 50, 3) := dcU2 dO_180 (by decide +kernel)
theorem dX1_doActs_13 : decode cX1_doActs 13 = .ok (.ifCond .ne 253, 3) := dcS2 dO_154 (by decide +kernel)
theorem dX1_doActs_16 : decode cX1_doActs 16 = .ok (.aload_n 1, 1) := dc0 dO_43 (by decide +kernel)
theorem dX1_doActs_17 : decode cX1_doActs 17 = .ok (.iload_n 2, 1) := dc0 dO_28 (by decide +kernel)
theorem dX1_doActs_18 : decode cX1_doActs 18 = .ok (.iload 5, 2) := dcU1 dO_21 (by decide +kernel)
theorem dX1_doActs_20 : decode cX1_doActs 20 = .ok (.iconst 2, 1) := dc0 dO_5 (by decide +kernel)
theorem dX1_doActs_21 : decode cX1_doActs 21 = .ok (.imul, 1) := dc0 dO_104 (by decide +kernel)
theorem dX1_doActs_22 : decode cX1_doActs 22 = .ok (.iadd, 1) := dc0 dO_96 (by decide +kernel)
theorem dX1_doActs_23 : decode cX1_doActs 23 = .ok (.iconst 1, 1) := dc0 dO_4 (by decide +kernel)
theorem dX1_doActs_24 : decode cX1_doActs 24 = .ok (.iadd, 1) := dc0 dO_96 (by decide +kernel)
theorem dX1_doActs_25 : decode cX1_doActs 25 = .ok (.iaload, 1) := dc0 dO_46 (by decide +kernel)
theorem dX1_doActs_26 : decode cX1_doActs 26 = .ok (.istore 6, 2) := dcU1 dO_54 (by decide +kernel)
theorem dX1_doActs_28 : decode cX1_doActs 28 = .ok (.aload_n 0, 1) := dc0 dO_42 (by decide +kernel)
theorem dX1_doActs_29 : decode cX1_doActs 29 = .ok (.getfield 47, 3) := dcU2 dO_180 (by decide +kernel)
theorem dX1_doActs_32 : decode cX1_doActs 32 = .ok (.sipush 500, 3) := dcS2 dO_17 (by decide +kernel)
theorem dX1_doActs_35 : decode cX1_doActs 35 = .ok (.if_icmp .lt 9, 3) := dcS2 dO_161 (by decide +kernel)
theorem dX1_doActs_38 : decode cX1_doActs 38 = .ok (.aload_n 0, 1) := dc0 dO_42 (by decide +kernel)
theorem dX1_doActs_39 : decode cX1_doActs 39 = .ok (.iconst 2, 1) := dc0 dO_5 (by decide +kernel)
theorem dX1_doActs_40 : decode cX1_doActs 40 = .ok (.putfield 50, 3) := dcU2 dO_181 (by decide +kernel)
theorem dX1_doActs_43 : decode cX1_doActs 43 = .ok (.return_, 1) := dc0 dO_177 (by decide +kernel)
theorem dX1_doActs_44 : decode cX1_doActs 44 = .ok (.aload_n 0, 1) := dc0 dO_42 (by decide +kernel)
theorem dX1_doActs_45 : decode cX1_doActs 45 = .ok (.dup, 1) := dc0 dO_89 (by decide +kernel)
theorem dX1_doActs_46 : decode cX1_doActs 46 = .ok (.getfield 47, 3) := dcU2 dO_180 (by decide +kernel)
theorem dX1_doActs_49 : decode cX1_doActs 49 = .ok (.iconst 1, 1) := dc0 dO_4 (by decide +kernel)
theorem dX1_doActs_50 : decode cX1_doActs 50 = .ok (.iadd, 1) := dc0 dO_96 (by decide +kernel)
theorem dX1_doActs_51 : decode cX1_doActs 51 = .ok (.putfield 47, 3) := dcU2 dO_181 (by decide +kernel)
theorem dX1_doActs_54 : decode cX1_doActs 54 = .ok (.aload_n 1, 1) := dc0 dO_43 (by decide +kernel)
theorem dX1_doActs_55 : decode cX1_doActs 55 = .ok (.iload_n 2, 1) := dc0 dO_28 (by decide +kernel)
theorem dX1_doActs_56 : decode cX1_doActs 56 = .ok (.iload 5, 2) := dcU1 dO_21 (by decide +kernel)
theorem dX1_doActs_58 : decode cX1_doActs 58 = .ok (.iconst 2, 1) := dc0 dO_5 (by decide +kernel)
theorem dX1_doActs_59 : decode cX1_doActs 59 = .ok (.imul, 1) := dc0 dO_104 (by decide +kernel)
theorem dX1_doActs_60 : decode cX1_doActs 60 = .ok (.iadd, 1) := dc0 dO_96 (by decide +kernel)
theorem dX1_doActs_61 : decode cX1_doActs 61 = .ok (.iaload, 1) := dc0 dO_46 (by decide +kernel)
theorem dX1_doActs_62 : decode cX1_doActs 62 = .ok (.tableswitch 198 12 28 #[122, 134, 198, 198, 198, 198, 198, 198, 198, 198, 198, 82, 90, 98, 110, 146, 185], 82) := by decide +kernel
theorem sfx_cX1_doActs_128 : (cX1_doActs.data.toList.drop 128).take 67 = [0, 0, 0, 98, 0, 0, 0, 110, 0, 0, 0, 146, 0, 0, 0, 185, 42, 4, 181, 0, 50, 167, 0, 111, 42, 5, 181, 0, 50, 167, 0, 103, 42, 180, 0, 25, 21, 6, 182, 0, 124, 167, 0, 91, 42, 180, 0, 25, 21, 6, 182, 0, 128, 167, 0, 79, 42, 180, 0, 25, 21, 6, 181, 0, 105, 167, 0] := by decide +kernel
theorem dX1_doActs_144 : decode cX1_doActs 144 = .ok (.aload_n 0, 1) := dc0 dO_42 (rdB.ch sfx_cX1_doActs_128 16 rfl (by decide +kernel))
theorem dX1_doActs_145 : decode cX1_doActs 145 = .ok (.iconst 1, 1) := dc0 dO_4 (rdB.ch sfx_cX1_doActs_128 17 rfl (by decide +kernel))
theorem dX1_doActs_146 : decode cX1_doActs 146 = .ok (.putfield 50, 3) := dcU2 dO_181 (rdU2.ch sfx_cX1_doActs_128 18 rfl (by decide +kernel))
theorem dX1_doActs_149 : decode cX1_doActs 149 = .ok (.goto 111, 3) := dcS2 dO_167 (rdS2.ch sfx_cX1_doActs_128 21 rfl (by decide +kernel))
theorem dX1_doActs_152 : decode cX1_doActs 152 = .ok (.aload_n 0, 1) := dc0 dO_42 (rdB.ch sfx_cX1_doActs_128 24 rfl (by decide +kernel))
theorem dX1_doActs_153 : decode cX1_doActs 153 = .ok (.iconst 2, 1) := dc0 dO_5 (rdB.ch sfx_cX1_doActs_128 25 rfl (by decide +kernel))
theorem dX1_doActs_154 : decode cX1_doActs 154 = .ok (.putfield 50, 3) := dcU2 dO_181 (rdU2.ch sfx_cX1_doActs_128 26 rfl (by decide +kernel))
theorem dX1_doActs_157 : decode cX1_doActs 157 = .ok (.goto 103, 3) := dcS2 dO_167 (rdS2.ch sfx_cX1_doActs_128 29 rfl (by decide +kernel))
theorem dX1_doActs_160 : decode cX1_doActs 160 = .ok (.aload_n 0, 1) := dc0 dO_42 (rdB.ch sfx_cX1_doActs_128 32 rfl (by decide +kernel))
theorem dX1_doActs_161 : decode cX1_doActs 161 = .ok (.getfield 25, 3) := dcU2 dO_180 (rdU2.ch sfx_cX1_doActs_128 33 rfl (by decide +kernel))
theorem dX1_doActs_164 : decode cX1_doActs 164 = .ok (.iload 6, 2) := dcU1 dO_21 (rdU1.ch sfx_cX1_doActs_128 36 rfl (by decide +kernel))
theorem dX1_doActs_166 : decode cX1_doActs 166 = .ok (.invokevirtual 124, 3) := dcU2 dO_182 (rdU2.ch sfx_cX1_doActs_128 38 rfl (by decide +kernel))
theorem dX1_doActs_169 : decode cX1_doActs 169 = .ok (.goto 91, 3) := dcS2 dO_167 (rdS2.ch sfx_cX1_doActs_128 41 rfl (by decide +kernel))
theorem dX1_doActs_172 : decode cX1_doActs 172 = .ok (.aload_n 0, 1) := dc0 dO_42 (rdB.ch sfx_cX1_doActs_128 44 rfl (by decide +kernel))
theorem dX1_doActs_173 : decode cX1_doActs 173 = .ok (.getfield 25, 3) := dcU2 dO_180 (rdU2.ch sfx_cX1_doActs_128 45 rfl (by decide +kernel))
theorem dX1_doActs_176 : decode cX1_doActs 176 = .ok (.iload 6, 2) := dcU1 dO_21 (rdU1.ch sfx_cX1_doActs_128 48 rfl (by decide +kernel))
theorem dX1_doActs_178 : decode cX1_doActs 178 = .ok (.invokevirtual 128, 3) := dcU2 dO_182 (rdU2.ch sfx_cX1_doActs_128 50 rfl (by decide +kernel))
theorem dX1_doActs_181 : decode cX1_doActs 181 = .ok (.goto 79, 3) := dcS2 dO_167 (rdS2.ch sfx_cX1_doActs_128 53 rfl (by decide +kernel))
theorem dX1_doActs_184 : decode cX1_doActs 184 = .ok (.aload_n 0, 1) := dc0 dO_42 (rdB.ch sfx_cX1_doActs_128 56 rfl (by decide +kernel))
theorem dX1_doActs_185 : decode cX1_doActs 185 = .ok (.getfield 25, 3) := dcU2 dO_180 (rdU2.ch sfx_cX1_doActs_128 57 rfl (by decide +kernel))
theorem dX1_doActs_188 : decode cX1_doActs 188 = .ok (.iload 6, 2) := dcU1 dO_21 (rdU1.ch sfx_cX1_doActs_128 60 rfl (by decide +kernel))
theorem dX1_doActs_190 : decode cX1_doActs 190 = .ok (.putfield 105, 3) := dcU2 dO_181 (rdU2.ch sfx_cX1_doActs_128 62 rfl (by decide +kernel))
theorem sfx_cX1_doActs_192 : (cX1_doActs.data.toList.drop 192).take 67 = [105, 167, 0, 67, 42, 180, 0, 25, 21, 6, 181, 0, 108, 167, 0, 55, 42, 180, 0, 25, 180, 0, 96, 158, 0, 45, 42, 180, 0, 25, 42, 180, 0, 25, 180, 0, 114, 3, 46, 21, 6, 182, 0, 131, 154, 0, 24, 42, 5, 181, 0, 50, 167, 0, 16, 42, 21, 6, 21, 4, 4, 96, 182, 0, 53, 167, 0] := by decide +kernel
theorem dX1_doActs_193 : decode cX1_doActs 193 = .ok (.goto 67, 3) := dcS2 dO_167 (rdS2.ch sfx_cX1_doActs_192 1 rfl (by decide +kernel))
theorem dX1_doActs_196 : decode cX1_doActs 196 = .ok (.aload_n 0, 1) := dc0 dO_42 (rdB.ch sfx_cX1_doActs_192 4 rfl (by decide +kernel))
theorem dX1_doActs_197 : decode cX1_doActs 197 = .ok (.getfield 25, 3) := dcU2 dO_180 (rdU2.ch sfx_cX1_doActs_192 5 rfl (by decide +kernel))
theorem dX1_doActs_200 : decode cX1_doActs 200 = .ok (.iload 6, 2) := dcU1 dO_21 (rdU1.ch sfx_cX1_doActs_192 8 rfl (by decide +kernel))
theorem dX1_doActs_202 : decode cX1_doActs 202 = .ok (.putfield 108, 3) := dcU2 dO_181 (rdU2.ch sfx_cX1_doActs_192 10 rfl (by decide +kernel))
theorem dX1_doActs_205 : decode cX1_doActs 205 = .ok (.goto 55, 3) := dcS2 dO_167 (rdS2.ch sfx_cX1_doActs_192 13 rfl (by decide +kernel))
theorem dX1_doActs_208 : decode cX1_doActs 208 = .ok (.aload_n 0, 1) := dc0 dO_42 (rdB.ch sfx_cX1_doActs_192 16 rfl (by decide +kernel))
theorem dX1_doActs_209 : decode cX1_doActs 209 = .ok (.getfield 25, 3) := dcU2 dO_180 (rdU2.ch sfx_cX1_doActs_192 17 rfl (by decide +kernel))
theorem dX1_doActs_212 : decode cX1_doActs 212 = .ok (.getfield 96, 3) := dcU2 dO_180 (rdU2.ch sfx_cX1_doActs_192 20 rfl (by decide +kernel))
theorem dX1_doActs_215 : decode cX1_doActs 215 = .ok (.ifCond .le 45, 3) := dcS2 dO_158 (rdS2.ch sfx_cX1_doActs_192 23 rfl (by decide +kernel))
theorem dX1_doActs_218 : decode cX1_doActs 218 = .ok (.aload_n 0, 1) := dc0 dO_42 (rdB.ch sfx_cX1_doActs_192 26 rfl (by decide +kernel))
theorem dX1_doActs_219 : decode cX1_doActs 219 = .ok (.getfield 25, 3) := dcU2 dO_180 (rdU2.ch sfx_cX1_doActs_192 27 rfl (by decide +kernel))
theorem dX1_doActs_222 : decode cX1_doActs 222 = .ok (.aload_n 0, 1) := dc0 dO_42 (rdB.ch sfx_cX1_doActs_192 30 rfl (by decide +kernel))
theorem dX1_doActs_223 : decode cX1_doActs 223 = .ok (.getfield 25, 3) := dcU2 dO_180 (rdU2.ch sfx_cX1_doActs_192 31 rfl (by decide +kernel))
theorem dX1_doActs_226 : decode cX1_doActs 226 = .ok (.getfield 114, 3) := dcU2 dO_180 (rdU2.ch sfx_cX1_doActs_192 34 rfl (by decide +kernel))
theorem dX1_doActs_229 : decode cX1_doActs 229 = .ok (.iconst 0, 1) := dc0 dO_3 (rdB.ch sfx_cX1_doActs_192 37 rfl (by decide +kernel))
theorem dX1_doActs_230 : decode cX1_doActs 230 = .ok (.iaload, 1) := dc0 dO_46 (rdB.ch sfx_cX1_doActs_192 38 rfl (by decide +kernel))
theorem dX1_doActs_231 : decode cX1_doActs 231 = .ok (.iload 6, 2) := dcU1 dO_21 (rdU1.ch sfx_cX1_doActs_192 39 rfl (by decide +kernel))
theorem dX1_doActs_233 : decode cX1_doActs 233 = .ok (.invokevirtual 131, 3) := dcU2 dO_182 (rdU2.ch sfx_cX1_doActs_192 41 rfl (by decide +kernel))
theorem dX1_doActs_236 : decode cX1_doActs 236 = .ok (.ifCond .ne 24, 3) := dcS2 dO_154 (rdS2.ch sfx_cX1_doActs_192 44 rfl (by decide +kernel))
theorem dX1_doActs_239 : decode cX1_doActs 239 = .ok (.aload_n 0, 1) := dc0 dO_42 (rdB.ch sfx_cX1_doActs_192 47 rfl (by decide +kernel))
theorem dX1_doActs_240 : decode cX1_doActs 240 = .ok (.iconst 2, 1) := dc0 dO_5 (rdB.ch sfx_cX1_doActs_192 48 rfl (by decide +kernel))
theorem dX1_doActs_241 : decode cX1_doActs 241 = .ok (.putfield 50, 3) := dcU2 dO_181 (rdU2.ch sfx_cX1_doActs_192 49 rfl (by decide +kernel))
theorem dX1_doActs_244 : decode cX1_doActs 244 = .ok (.goto 16, 3) := dcS2 dO_167 (rdS2.ch sfx_cX1_doActs_192 52 rfl (by decide +kernel))
theorem dX1_doActs_247 : decode cX1_doActs 247 = .ok (.aload_n 0, 1) := dc0 dO_42 (rdB.ch sfx_cX1_doActs_192 55 rfl (by decide +kernel))
theorem dX1_doActs_248 : decode cX1_doActs 248 = .ok (.iload 6, 2) := dcU1 dO_21 (rdU1.ch sfx_cX1_doActs_192 56 rfl (by decide +kernel))
theorem dX1_doActs_250 : decode cX1_doActs 250 = .ok (.iload 4, 2) := dcU1 dO_21 (rdU1.ch sfx_cX1_doActs_192 58 rfl (by decide +kernel))
theorem dX1_doActs_252 : decode cX1_doActs 252 = .ok (.iconst 1, 1) := dc0 dO_4 (rdB.ch sfx_cX1_doActs_192 60 rfl (by decide +kernel))
theorem dX1_doActs_253 : decode cX1_doActs 253 = .ok (.iadd, 1) := dc0 dO_96 (rdB.ch sfx_cX1_doActs_192 61 rfl (by decide +kernel))
theorem dX1_doActs_254 : decode cX1_doActs 254 = .ok (.invokevirtual 53, 3) := dcU2 dO_182 (rdU2.ch sfx_cX1_doActs_192 62 rfl (by decide +kernel))
theorem sfx_cX1_doActs_256 : (cX1_doActs.data.toList.drop 256).take 67 = [53, 167, 0, 3, 132, 5, 1, 167, 254, 252, 177] := by decide +kernel
theorem dX1_doActs_257 : decode cX1_doActs 257 = .ok (.goto 3, 3) := dcS2 dO_167 (rdS2.ch sfx_cX1_doActs_256 1 rfl (by decide +kernel))
theorem dX1_doActs_260 : decode cX1_doActs 260 = .ok (.iinc 5 1, 3) := dcI dO_132 (rdI.ch sfx_cX1_doActs_256 4 rfl (by decide +kernel))
theorem dX1_doActs_263 : decode cX1_doActs 263 = .ok (.goto (-260), 3) := dcS2 dO_167 (rdS2.ch sfx_cX1_doActs_256 7 rfl (by decide +kernel))
theorem dX1_doActs_266 : decode cX1_doActs 266 = .ok (.return_, 1) := dc0 dO_177 (rdB.ch sfx_cX1_doActs_256 10 rfl (by decide +kernel))
theorem dX1_goThrough_0 : decode cX1_goThrough 0 = .ok (.iload_n 1, 1) := dc0 dO_27 (by decide +kernel)
theorem dX1_goThrough_1 : decode cX1_goThrough 1 = .ok (.ifCond .lt 17, 3) := dcS2 dO_155 (by decide +kernel)
theorem dX1_goThrough_4 : decode cX1_goThrough 4 = .ok (.iload_n 1, 1) := dc0 dO_27 (by decide +kernel)
theorem dX1_goThrough_5 : decode cX1_goThrough 5 = .ok (.aload_n 0, 1) := dc0 dO_42 (by decide +kernel)
theorem dX1_goThrough_6 : decode cX1_goThrough 6 = .ok (.getfield 21, 3) := dcU2 dO_180 (by decide +kernel)
theorem dX1_goThrough_9 : decode cX1_goThrough 9 = .ok (.if_icmp .ge 9, 3) := dcS2 dO_162 (by decide +kernel)
theorem dX1_goThrough_12 : decode cX1_goThrough 12 = .ok (.iload_n 2, 1) := dc0 dO_28 (by decide +kernel)
theorem dX1_goThrough_13 : decode cX1_goThrough 13 = .ok (.bipush 12, 2) := dcS1 dO_16 (by decide +kernel)
theorem dX1_goThrough_15 : decode cX1_goThrough 15 = .ok (.if_icmp .le 4, 3) := dcS2 dO_164 (by decide +kernel)
theorem dX1_goThrough_18 : decode cX1_goThrough 18 = .ok (.return_, 1) := dc0 dO_177 (by decide +kernel)
theorem dX1_goThrough_19 : decode cX1_goThrough 19 = .ok (.aload_n 0, 1) := dc0 dO_42 (by decide +kernel)
theorem dX1_goThrough_20 : decode cX1_goThrough 20 = .ok (.getfield 17, 3) := dcU2 dO_180 (by decide +kernel)
theorem dX1_goThrough_23 : decode cX1_goThrough 23 = .ok (.iload_n 1, 1) := dc0 dO_27 (by decide +kernel)
theorem dX1_goThrough_24 : decode cX1_goThrough 24 = .ok (.aaload, 1) := dc0 dO_50 (by decide +kernel)
theorem dX1_goThrough_25 : decode cX1_goThrough 25 = .ok (.astore_n 3, 1) := dc0 dO_78 (by decide +kernel)
theorem dX1_goThrough_26 : decode cX1_goThrough 26 = .ok (.iconst 0, 1) := dc0 dO_3 (by decide +kernel)
theorem dX1_goThrough_27 : decode cX1_goThrough 27 = .ok (.istore 4, 2) := dcU1 dO_54 (by decide +kernel)
theorem dX1_goThrough_29 : decode cX1_goThrough 29 = .ok (.iconst 0, 1) := dc0 dO_3 (by decide +kernel)
theorem dX1_goThrough_30 : decode cX1_goThrough 30 = .ok (.istore 5, 2) := dcU1 dO_54 (by decide +kernel)
theorem dX1_goThrough_32 : decode cX1_goThrough 32 = .ok (.iload 5, 2) := dcU1 dO_21 (by decide +kernel)
theorem dX1_goThrough_34 : decode cX1_goThrough 34 = .ok (.aload_n 3, 1) := dc0 dO_45 (by decide +kernel)
theorem dX1_goThrough_35 : decode cX1_goThrough 35 = .ok (.getfield 57, 3) := dcU2 dO_180 (by decide +kernel)
theorem dX1_goThrough_38 : decode cX1_goThrough 38 = .ok (.if_icmp .ge 136, 3) := dcS2 dO_162 (by decide +kernel)
theorem dX1_goThrough_41 : decode cX1_goThrough 41 = .ok (.aload_n 0, 1) := dc0 dO_42 (by decide +kernel)
theorem dX1_goThrough_42 : decode cX1_goThrough 42 = .ok (.getfield 50, 3) := dcU2 dO_180 (by decide +kernel)
theorem dX1_goThrough_45 : decode cX1_goThrough 45 = .ok (.ifCond .ne 129, 3) := dcS2 dO_154 (by decide +kernel)
theorem dX1_goThrough_48 : decode cX1_goThrough 48 = .ok (.aload_n 3, 1) := dc0 dO_45 (by decide +kernel)
theorem dX1_goThrough_49 : decode cX1_goThrough 49 = .ok (.getfield 60, 3) := dcU2 dO_180 (by decide +kernel)
theorem dX1_goThrough_52 : decode cX1_goThrough 52 = .ok (.iload 4, 2) := dcU1 dO_21 (by decide +kernel)
theorem dX1_goThrough_54 : decode cX1_goThrough 54 = .ok (.iaload, 1) := dc0 dO_46 (by decide +kernel)
theorem dX1_goThrough_55 : decode cX1_goThrough 55 = .ok (.istore 6, 2) := dcU1 dO_54 (by decide +kernel)
theorem dX1_goThrough_57 : decode cX1_goThrough 57 = .ok (.aload_n 3, 1) := dc0 dO_45 (by decide +kernel)
theorem dX1_goThrough_58 : decode cX1_goThrough 58 = .ok (.getfield 60, 3) := dcU2 dO_180 (by decide +kernel)
theorem dX1_goThrough_61 : decode cX1_goThrough 61 = .ok (.iload 4, 2) := dcU1 dO_21 (by decide +kernel)
theorem dX1_goThrough_63 : decode cX1_goThrough 63 = .ok (.iconst 1, 1) := dc0 dO_4 (by decide +kernel)
theorem dX1_goThrough_64 : decode cX1_goThrough 64 = .ok (.iadd, 1) := dc0 dO_96 (by decide +kernel)
theorem dX1_goThrough_65 : decode cX1_goThrough 65 = .ok (.iaload, 1) := dc0 dO_46 (by decide +kernel)
theorem dX1_goThrough_66 : decode cX1_goThrough 66 = .ok (.istore 7, 2) := dcU1 dO_54 (by decide +kernel)
theorem dX1_goThrough_68 : decode cX1_goThrough 68 = .ok (.iload 4, 2) := dcU1 dO_21 (by decide +kernel)
theorem dX1_goThrough_70 : decode cX1_goThrough 70 = .ok (.iconst 2, 1) := dc0 dO_5 (by decide +kernel)
theorem dX1_goThrough_71 : decode cX1_goThrough 71 = .ok (.iadd, 1) := dc0 dO_96 (by decide +kernel)
theorem dX1_goThrough_72 : decode cX1_goThrough 72 = .ok (.iload 6, 2) := dcU1 dO_21 (by decide +kernel)
theorem dX1_goThrough_74 : decode cX1_goThrough 74 = .ok (.iconst 5, 1) := dc0 dO_8 (by decide +kernel)
theorem dX1_goThrough_75 : decode cX1_goThrough 75 = .ok (.imul, 1) := dc0 dO_104 (by decide +kernel)
theorem dX1_goThrough_76 : decode cX1_goThrough 76 = .ok (.iadd, 1) := dc0 dO_96 (by decide +kernel)
theorem dX1_goThrough_77 : decode cX1_goThrough 77 = .ok (.istore 8, 2) := dcU1 dO_54 (by decide +kernel)
theorem dX1_goThrough_79 : decode cX1_goThrough 79 = .ok (.iconst 1, 1) := dc0 dO_4 (by decide +kernel)
theorem dX1_goThrough_80 : decode cX1_goThrough 80 = .ok (.istore 9, 2) := dcU1 dO_54 (by decide +kernel)
theorem dX1_goThrough_82 : decode cX1_goThrough 82 = .ok (.iload 4, 2) := dcU1 dO_21 (by decide +kernel)
theorem dX1_goThrough_84 : decode cX1_goThrough 84 = .ok (.iconst 2, 1) := dc0 dO_5 (by decide +kernel)
theorem dX1_goThrough_85 : decode cX1_goThrough 85 = .ok (.iadd, 1) := dc0 dO_96 (by decide +kernel)
theorem dX1_goThrough_86 : decode cX1_goThrough 86 = .ok (.istore 10, 2) := dcU1 dO_54 (by decide +kernel)
theorem dX1_goThrough_88 : decode cX1_goThrough 88 = .ok (.iload 10, 2) := dcU1 dO_21 (by decide +kernel)
theorem dX1_goThrough_90 : decode cX1_goThrough 90 = .ok (.iload 8, 2) := dcU1 dO_21 (by decide +kernel)
theorem dX1_goThrough_92 : decode cX1_goThrough 92 = .ok (.if_icmp .ge 49, 3) := dcS2 dO_162 (by decide +kernel)
theorem dX1_goThrough_95 : decode cX1_goThrough 95 = .ok (.iload 9, 2) := dcU1 dO_21 (by decide +kernel)
theorem dX1_goThrough_97 : decode cX1_goThrough 97 = .ok (.ifCond .eq 44, 3) := dcS2 dO_153 (by decide +kernel)
theorem dX1_goThrough_100 : decode cX1_goThrough 100 = .ok (.aload_n 0, 1) := dc0 dO_42 (by decide +kernel)
theorem dX1_goThrough_101 : decode cX1_goThrough 101 = .ok (.aload_n 3, 1) := dc0 dO_45 (by decide +kernel)
theorem dX1_goThrough_102 : decode cX1_goThrough 102 = .ok (.iload 10, 2) := dcU1 dO_21 (by decide +kernel)
theorem dX1_goThrough_104 : decode cX1_goThrough 104 = .ok (.invokevirtual 64, 3) := dcU2 dO_182 (by decide +kernel)
theorem dX1_goThrough_107 : decode cX1_goThrough 107 = .ok (.aload_n 3, 1) := dc0 dO_45 (by decide +kernel)
theorem dX1_goThrough_108 : decode cX1_goThrough 108 = .ok (.getfield 60, 3) := dcU2 dO_180 (by decide +kernel)
theorem dX1_goThrough_111 : decode cX1_goThrough 111 = .ok (.iload 10, 2) := dcU1 dO_21 (by decide +kernel)
theorem dX1_goThrough_113 : decode cX1_goThrough 113 = .ok (.iconst 1, 1) := dc0 dO_4 (by decide +kernel)
theorem dX1_goThrough_114 : decode cX1_goThrough 114 = .ok (.iadd, 1) := dc0 dO_96 (by decide +kernel)
theorem dX1_goThrough_115 : decode cX1_goThrough 115 = .ok (.iaload, 1) := dc0 dO_46 (by decide +kernel)
theorem dX1_goThrough_116 : decode cX1_goThrough 116 = .ok (.iconst 1, 1) := dc0 dO_4 (by decide +kernel)
theorem dX1_goThrough_117 : decode cX1_goThrough 117 = .ok (.if_icmp .ne 7, 3) := dcS2 dO_160 (by decide +kernel)
theorem dX1_goThrough_120 : decode cX1_goThrough 120 = .ok (.iconst 1, 1) := dc0 dO_4 (by decide +kernel)
theorem dX1_goThrough_121 : decode cX1_goThrough 121 = .ok (.goto 4, 3) := dcS2 dO_167 (by decide +kernel)
theorem dX1_goThrough_124 : decode cX1_goThrough 124 = .ok (.iconst 0, 1) := dc0 dO_3 (by decide +kernel)
theorem dX1_goThrough_125 : decode cX1_goThrough 125 = .ok (.if_icmp .eq 7, 3) := dcS2 dO_159 (by decide +kernel)
theorem sfx_cX1_goThrough_128 : (cX1_goThrough.data.toList.drop 128).take 67 = [4, 167, 0, 4, 3, 54, 9, 132, 10, 5, 167, 255, 206, 21, 9, 153, 0, 16, 42, 45, 180, 0, 60, 21, 8, 21, 7, 28, 182, 0, 68, 21, 8, 21, 7, 5, 104, 96, 54, 4, 132, 5, 1, 167, 255, 117, 177] := by decide +kernel
theorem dX1_goThrough_128 : decode cX1_goThrough 128 = .ok (.iconst 1, 1) := dc0 dO_4 (rdB.ch sfx_cX1_goThrough_128 0 rfl (by decide +kernel))
theorem dX1_goThrough_129 : decode cX1_goThrough 129 = .ok (.goto 4, 3) := dcS2 dO_167 (rdS2.ch sfx_cX1_goThrough_128 1 rfl (by decide +kernel))
theorem dX1_goThrough_132 : decode cX1_goThrough 132 = .ok (.iconst 0, 1) := dc0 dO_3 (rdB.ch sfx_cX1_goThrough_128 4 rfl (by decide +kernel))
theorem dX1_goThrough_133 : decode cX1_goThrough 133 = .ok (.istore 9, 2) := dcU1 dO_54 (rdU1.ch sfx_cX1_goThrough_128 5 rfl (by decide +kernel))
theorem dX1_goThrough_135 : decode cX1_goThrough 135 = .ok (.iinc 10 5, 3) := dcI dO_132 (rdI.ch sfx_cX1_goThrough_128 7 rfl (by decide +kernel))
theorem dX1_goThrough_138 : decode cX1_goThrough 138 = .ok (.goto (-50), 3) := dcS2 dO_167 (rdS2.ch sfx_cX1_goThrough_128 10 rfl (by decide +kernel))
theorem dX1_goThrough_141 : decode cX1_goThrough 141 = .ok (.iload 9, 2) := dcU1 dO_21 (rdU1.ch sfx_cX1_goThrough_128 13 rfl (by decide +kernel))
theorem dX1_goThrough_143 : decode cX1_goThrough 143 = .ok (.ifCond .eq 16, 3) := dcS2 dO_153 (rdS2.ch sfx_cX1_goThrough_128 15 rfl (by decide +kernel))
theorem dX1_goThrough_146 : decode cX1_goThrough 146 = .ok (.aload_n 0, 1) := dc0 dO_42 (rdB.ch sfx_cX1_goThrough_128 18 rfl (by decide +kernel))
theorem dX1_goThrough_147 : decode cX1_goThrough 147 = .ok (.aload_n 3, 1) := dc0 dO_45 (rdB.ch sfx_cX1_goThrough_128 19 rfl (by decide +kernel))
theorem dX1_goThrough_148 : decode cX1_goThrough 148 = .ok (.getfield 60, 3) := dcU2 dO_180 (rdU2.ch sfx_cX1_goThrough_128 20 rfl (by decide +kernel))
theorem dX1_goThrough_151 : decode cX1_goThrough 151 = .ok (.iload 8, 2) := dcU1 dO_21 (rdU1.ch sfx_cX1_goThrough_128 23 rfl (by decide +kernel))
theorem dX1_goThrough_153 : decode cX1_goThrough 153 = .ok (.iload 7, 2) := dcU1 dO_21 (rdU1.ch sfx_cX1_goThrough_128 25 rfl (by decide +kernel))
theorem dX1_goThrough_155 : decode cX1_goThrough 155 = .ok (.iload_n 2, 1) := dc0 dO_28 (rdB.ch sfx_cX1_goThrough_128 27 rfl (by decide +kernel))
theorem dX1_goThrough_156 : decode cX1_goThrough 156 = .ok (.invokevirtual 68, 3) := dcU2 dO_182 (rdU2.ch sfx_cX1_goThrough_128 28 rfl (by decide +kernel))
theorem dX1_goThrough_159 : decode cX1_goThrough 159 = .ok (.iload 8, 2) := dcU1 dO_21 (rdU1.ch sfx_cX1_goThrough_128 31 rfl (by decide +kernel))
theorem dX1_goThrough_161 : decode cX1_goThrough 161 = .ok (.iload 7, 2) := dcU1 dO_21 (rdU1.ch sfx_cX1_goThrough_128 33 rfl (by decide +kernel))
theorem dX1_goThrough_163 : decode cX1_goThrough 163 = .ok (.iconst 2, 1) := dc0 dO_5 (rdB.ch sfx_cX1_goThrough_128 35 rfl (by decide +kernel))
theorem dX1_goThrough_164 : decode cX1_goThrough 164 = .ok (.imul, 1) := dc0 dO_104 (rdB.ch sfx_cX1_goThrough_128 36 rfl (by decide +kernel))
theorem dX1_goThrough_165 : decode cX1_goThrough 165 = .ok (.iadd, 1) := dc0 dO_96 (rdB.ch sfx_cX1_goThrough_128 37 rfl (by decide +kernel))
theorem dX1_goThrough_166 : decode cX1_goThrough 166 = .ok (.istore 4, 2) := dcU1 dO_54 (rdU1.ch sfx_cX1_goThrough_128 38 rfl (by decide +kernel))
theorem dX1_goThrough_168 : decode cX1_goThrough 168 = .ok (.iinc 5 1, 3) := dcI dO_132 (rdI.ch sfx_cX1_goThrough_128 40 rfl (by decide +kernel))
theorem dX1_goThrough_171 : decode cX1_goThrough 171 = .ok (.goto (-139), 3) := dcS2 dO_167 (rdS2.ch sfx_cX1_goThrough_128 43 rfl (by decide +kernel))
theorem dX1_goThrough_174 : decode cX1_goThrough 174 = .ok (.return_, 1) := dc0 dO_177 (rdB.ch sfx_cX1_goThrough_128 46 rfl (by decide +kernel))
theorem dX1_isSo_0 : decode cX1_isSo 0 = .ok (.aload_n 1, 1) := dc0 dO_43 (by decide +kernel)
theorem dX1_isSo_1 : decode cX1_isSo 1 = .ok (.getfield 60, 3) := dcU2 dO_180 (by decide +kernel)
theorem dX1_isSo_4 : decode cX1_isSo 4 = .ok (.iload_n 2, 1) := dc0 dO_28 (by decide +kernel)
theorem dX1_isSo_5 : decode cX1_isSo 5 = .ok (.iconst 2, 1) := dc0 dO_5 (by decide +kernel)
theorem dX1_isSo_6 : decode cX1_isSo 6 = .ok (.iadd, 1) := dc0 dO_96 (by decide +kernel)
theorem dX1_isSo_7 : decode cX1_isSo 7 = .ok (.iaload, 1) := dc0 dO_46 (by decide +kernel)
theorem dX1_isSo_8 : decode cX1_isSo 8 = .ok (.istore_n 3, 1) := dc0 dO_62 (by decide +kernel)
theorem dX1_isSo_9 : decode cX1_isSo 9 = .ok (.aload_n 1, 1) := dc0 dO_43 (by decide +kernel)
theorem dX1_isSo_10 : decode cX1_isSo 10 = .ok (.getfield 60, 3) := dcU2 dO_180 (by decide +kernel)
theorem dX1_isSo_13 : decode cX1_isSo 13 = .ok (.iload_n 2, 1) := dc0 dO_28 (by decide +kernel)
theorem dX1_isSo_14 : decode cX1_isSo 14 = .ok (.iconst 3, 1) := dc0 dO_6 (by decide +kernel)
theorem dX1_isSo_15 : decode cX1_isSo 15 = .ok (.iadd, 1) := dc0 dO_96 (by decide +kernel)
theorem dX1_isSo_16 : decode cX1_isSo 16 = .ok (.iaload, 1) := dc0 dO_46 (by decide +kernel)
theorem dX1_isSo_17 : decode cX1_isSo 17 = .ok (.istore 4, 2) := dcU1 dO_54 (by decide +kernel)
theorem dX1_isSo_19 : decode cX1_isSo 19 = .ok (.aload_n 1, 1) := dc0 dO_43 (by decide +kernel)
theorem dX1_isSo_20 : decode cX1_isSo 20 = .ok (.getfield 60, 3) := dcU2 dO_180 (by decide +kernel)
theorem dX1_isSo_23 : decode cX1_isSo 23 = .ok (.iload_n 2, 1) := dc0 dO_28 (by decide +kernel)
theorem dX1_isSo_24 : decode cX1_isSo 24 = .ok (.iconst 4, 1) := dc0 dO_7 (by decide +kernel)
theorem dX1_isSo_25 : decode cX1_isSo 25 = .ok (.iadd, 1) := dc0 dO_96 (by decide +kernel)
theorem dX1_isSo_26 : decode cX1_isSo 26 = .ok (.iaload, 1) := dc0 dO_46 (by decide +kernel)
theorem dX1_isSo_27 : decode cX1_isSo 27 = .ok (.istore 5, 2) := dcU1 dO_54 (by decide +kernel)
theorem dX1_isSo_29 : decode cX1_isSo 29 = .ok (.aload_n 1, 1) := dc0 dO_43 (by decide +kernel)
theorem dX1_isSo_30 : decode cX1_isSo 30 = .ok (.getfield 60, 3) := dcU2 dO_180 (by decide +kernel)
theorem dX1_isSo_33 : decode cX1_isSo 33 = .ok (.iload_n 2, 1) := dc0 dO_28 (by decide +kernel)
theorem dX1_isSo_34 : decode cX1_isSo 34 = .ok (.iaload, 1) := dc0 dO_46 (by decide +kernel)
theorem dX1_isSo_35 : decode cX1_isSo 35 = .ok (.tableswitch 346 4 15 #[61, 346, 123, 346, 144, 153, 167, 181, 205, 229, 253, 270], 61) := by decide +kernel
theorem dX1_isSo_96 : decode cX1_isSo 96 = .ok (.aload_n 0, 1) := dc0 dO_42 (by decide +kernel)
theorem dX1_isSo_97 : decode cX1_isSo 97 = .ok (.getfield 9, 3) := dcU2 dO_180 (by decide +kernel)
theorem dX1_isSo_100 : decode cX1_isSo 100 = .ok (.getfield 72, 3) := dcU2 dO_180 (by decide +kernel)
theorem dX1_isSo_103 : decode cX1_isSo 103 = .ok (.aload_n 0, 1) := dc0 dO_42 (by decide +kernel)
theorem dX1_isSo_104 : decode cX1_isSo 104 = .ok (.getfield 25, 3) := dcU2 dO_180 (by decide +kernel)
theorem dX1_isSo_107 : decode cX1_isSo 107 = .ok (.getfield 77, 3) := dcU2 dO_180 (by decide +kernel)
theorem dX1_isSo_110 : decode cX1_isSo 110 = .ok (.iaload, 1) := dc0 dO_46 (by decide +kernel)
theorem dX1_isSo_111 : decode cX1_isSo 111 = .ok (.istore 6, 2) := dcU1 dO_54 (by decide +kernel)
theorem dX1_isSo_113 : decode cX1_isSo 113 = .ok (.iload 6, 2) := dcU1 dO_21 (by decide +kernel)
theorem dX1_isSo_115 : decode cX1_isSo 115 = .ok (.iload 4, 2) := dcU1 dO_21 (by decide +kernel)
theorem dX1_isSo_117 : decode cX1_isSo 117 = .ok (.if_icmp .lt 39, 3) := dcS2 dO_161 (by decide +kernel)
theorem dX1_isSo_120 : decode cX1_isSo 120 = .ok (.iload 6, 2) := dcU1 dO_21 (by decide +kernel)
theorem dX1_isSo_122 : decode cX1_isSo 122 = .ok (.iload 5, 2) := dcU1 dO_21 (by decide +kernel)
theorem dX1_isSo_124 : decode cX1_isSo 124 = .ok (.if_icmp .gt 32, 3) := dcS2 dO_163 (by decide +kernel)
theorem dX1_isSo_127 : decode cX1_isSo 127 = .ok (.aload_n 0, 1) := dc0 dO_42 (by decide +kernel)
theorem sfx_cX1_isSo_128 : (cX1_isSo.data.toList.drop 128).take 67 = [180, 0, 9, 180, 0, 82, 42, 180, 0, 25, 180, 0, 77, 46, 21, 4, 184, 0, 85, 126, 29, 160, 0, 7, 4, 167, 0, 4, 3, 172, 43, 29, 21, 4, 4, 160, 0, 7, 4, 167, 0, 4, 3, 42, 180, 0, 25, 182, 0, 88, 172, 42, 180, 0, 25, 29, 182, 0, 92, 172, 42, 180, 0, 38, 29, 160, 0] := by decide +kernel
theorem dX1_isSo_128 : decode cX1_isSo 128 = .ok (.getfield 9, 3) := dcU2 dO_180 (rdU2.ch sfx_cX1_isSo_128 0 rfl (by decide +kernel))
theorem dX1_isSo_131 : decode cX1_isSo 131 = .ok (.getfield 82, 3) := dcU2 dO_180 (rdU2.ch sfx_cX1_isSo_128 3 rfl (by decide +kernel))
theorem dX1_isSo_134 : decode cX1_isSo 134 = .ok (.aload_n 0, 1) := dc0 dO_42 (rdB.ch sfx_cX1_isSo_128 6 rfl (by decide +kernel))
theorem dX1_isSo_135 : decode cX1_isSo 135 = .ok (.getfield 25, 3) := dcU2 dO_180 (rdU2.ch sfx_cX1_isSo_128 7 rfl (by decide +kernel))
theorem dX1_isSo_138 : decode cX1_isSo 138 = .ok (.getfield 77, 3) := dcU2 dO_180 (rdU2.ch sfx_cX1_isSo_128 10 rfl (by decide +kernel))
theorem dX1_isSo_141 : decode cX1_isSo 141 = .ok (.iaload, 1) := dc0 dO_46 (rdB.ch sfx_cX1_isSo_128 13 rfl (by decide +kernel))
theorem dX1_isSo_142 : decode cX1_isSo 142 = .ok (.iload 4, 2) := dcU1 dO_21 (rdU1.ch sfx_cX1_isSo_128 14 rfl (by decide +kernel))
theorem dX1_isSo_144 : decode cX1_isSo 144 = .ok (.invokestatic 85, 3) := dcU2 dO_184 (rdU2.ch sfx_cX1_isSo_128 16 rfl (by decide +kernel))
theorem dX1_isSo_147 : decode cX1_isSo 147 = .ok (.iand, 1) := dc0 dO_126 (rdB.ch sfx_cX1_isSo_128 19 rfl (by decide +kernel))
theorem dX1_isSo_148 : decode cX1_isSo 148 = .ok (.iload_n 3, 1) := dc0 dO_29 (rdB.ch sfx_cX1_isSo_128 20 rfl (by decide +kernel))
theorem dX1_isSo_149 : decode cX1_isSo 149 = .ok (.if_icmp .ne 7, 3) := dcS2 dO_160 (rdS2.ch sfx_cX1_isSo_128 21 rfl (by decide +kernel))
theorem dX1_isSo_152 : decode cX1_isSo 152 = .ok (.iconst 1, 1) := dc0 dO_4 (rdB.ch sfx_cX1_isSo_128 24 rfl (by decide +kernel))
theorem dX1_isSo_153 : decode cX1_isSo 153 = .ok (.goto 4, 3) := dcS2 dO_167 (rdS2.ch sfx_cX1_isSo_128 25 rfl (by decide +kernel))
theorem dX1_isSo_156 : decode cX1_isSo 156 = .ok (.iconst 0, 1) := dc0 dO_3 (rdB.ch sfx_cX1_isSo_128 28 rfl (by decide +kernel))
theorem dX1_isSo_157 : decode cX1_isSo 157 = .ok (.ireturn, 1) := dc0 dO_172 (rdB.ch sfx_cX1_isSo_128 29 rfl (by decide +kernel))
theorem dX1_isSo_158 : decode cX1_isSo 158 = .ok (.aload_n 1, 1) := dc0 dO_43 (rdB.ch sfx_cX1_isSo_128 30 rfl (by decide +kernel))
theorem dX1_isSo_159 : decode cX1_isSo 159 = .ok (.iload_n 3, 1) := dc0 dO_29 (rdB.ch sfx_cX1_isSo_128 31 rfl (by decide +kernel))
theorem dX1_isSo_160 : decode cX1_isSo 160 = .ok (.iload 4, 2) := dcU1 dO_21 (rdU1.ch sfx_cX1_isSo_128 32 rfl (by decide +kernel))
theorem dX1_isSo_162 : decode cX1_isSo 162 = .ok (.iconst 1, 1) := dc0 dO_4 (rdB.ch sfx_cX1_isSo_128 34 rfl (by decide +kernel))
theorem dX1_isSo_163 : decode cX1_isSo 163 = .ok (.if_icmp .ne 7, 3) := dcS2 dO_160 (rdS2.ch sfx_cX1_isSo_128 35 rfl (by decide +kernel))
theorem dX1_isSo_166 : decode cX1_isSo 166 = .ok (.iconst 1, 1) := dc0 dO_4 (rdB.ch sfx_cX1_isSo_128 38 rfl (by decide +kernel))
theorem dX1_isSo_167 : decode cX1_isSo 167 = .ok (.goto 4, 3) := dcS2 dO_167 (rdS2.ch sfx_cX1_isSo_128 39 rfl (by decide +kernel))
theorem dX1_isSo_170 : decode cX1_isSo 170 = .ok (.iconst 0, 1) := dc0 dO_3 (rdB.ch sfx_cX1_isSo_128 42 rfl (by decide +kernel))
theorem dX1_isSo_171 : decode cX1_isSo 171 = .ok (.aload_n 0, 1) := dc0 dO_42 (rdB.ch sfx_cX1_isSo_128 43 rfl (by decide +kernel))
theorem dX1_isSo_172 : decode cX1_isSo 172 = .ok (.getfield 25, 3) := dcU2 dO_180 (rdU2.ch sfx_cX1_isSo_128 44 rfl (by decide +kernel))
theorem dX1_isSo_175 : decode cX1_isSo 175 = .ok (.invokevirtual 88, 3) := dcU2 dO_182 (rdU2.ch sfx_cX1_isSo_128 47 rfl (by decide +kernel))
theorem dX1_isSo_178 : decode cX1_isSo 178 = .ok (.ireturn, 1) := dc0 dO_172 (rdB.ch sfx_cX1_isSo_128 50 rfl (by decide +kernel))
theorem dX1_isSo_179 : decode cX1_isSo 179 = .ok (.aload_n 0, 1) := dc0 dO_42 (rdB.ch sfx_cX1_isSo_128 51 rfl (by decide +kernel))
theorem dX1_isSo_180 : decode cX1_isSo 180 = .ok (.getfield 25, 3) := dcU2 dO_180 (rdU2.ch sfx_cX1_isSo_128 52 rfl (by decide +kernel))
theorem dX1_isSo_183 : decode cX1_isSo 183 = .ok (.iload_n 3, 1) := dc0 dO_29 (rdB.ch sfx_cX1_isSo_128 55 rfl (by decide +kernel))
theorem dX1_isSo_184 : decode cX1_isSo 184 = .ok (.invokevirtual 92, 3) := dcU2 dO_182 (rdU2.ch sfx_cX1_isSo_128 56 rfl (by decide +kernel))
theorem dX1_isSo_187 : decode cX1_isSo 187 = .ok (.ireturn, 1) := dc0 dO_172 (rdB.ch sfx_cX1_isSo_128 59 rfl (by decide +kernel))
theorem dX1_isSo_188 : decode cX1_isSo 188 = .ok (.aload_n 0, 1) := dc0 dO_42 (rdB.ch sfx_cX1_isSo_128 60 rfl (by decide +kernel))
theorem dX1_isSo_189 : decode cX1_isSo 189 = .ok (.getfield 38, 3) := dcU2 dO_180 (rdU2.ch sfx_cX1_isSo_128 61 rfl (by decide +kernel))
theorem sfx_cX1_isSo_192 : (cX1_isSo.data.toList.drop 192).take 67 = [29, 160, 0, 7, 4, 167, 0, 4, 3, 172, 42, 180, 0, 44, 29, 160, 0, 7, 4, 167, 0, 4, 3, 172, 42, 180, 0, 25, 180, 0, 96, 21, 4, 184, 0, 99, 4, 96, 29, 160, 0, 7, 4, 167, 0, 4, 3, 172, 42, 180, 0, 25, 180, 0, 105, 21, 4, 184, 0, 99, 4, 96, 29, 160, 0, 7, 4] := by decide +kernel
theorem dX1_isSo_192 : decode cX1_isSo 192 = .ok (.iload_n 3, 1) := dc0 dO_29 (rdB.ch sfx_cX1_isSo_192 0 rfl (by decide +kernel))
theorem dX1_isSo_193 : decode cX1_isSo 193 = .ok (.if_icmp .ne 7, 3) := dcS2 dO_160 (rdS2.ch sfx_cX1_isSo_192 1 rfl (by decide +kernel))
theorem dX1_isSo_196 : decode cX1_isSo 196 = .ok (.iconst 1, 1) := dc0 dO_4 (rdB.ch sfx_cX1_isSo_192 4 rfl (by decide +kernel))
theorem dX1_isSo_197 : decode cX1_isSo 197 = .ok (.goto 4, 3) := dcS2 dO_167 (rdS2.ch sfx_cX1_isSo_192 5 rfl (by decide +kernel))
theorem dX1_isSo_200 : decode cX1_isSo 200 = .ok (.iconst 0, 1) := dc0 dO_3 (rdB.ch sfx_cX1_isSo_192 8 rfl (by decide +kernel))
theorem dX1_isSo_201 : decode cX1_isSo 201 = .ok (.ireturn, 1) := dc0 dO_172 (rdB.ch sfx_cX1_isSo_192 9 rfl (by decide +kernel))
theorem dX1_isSo_202 : decode cX1_isSo 202 = .ok (.aload_n 0, 1) := dc0 dO_42 (rdB.ch sfx_cX1_isSo_192 10 rfl (by decide +kernel))
theorem dX1_isSo_203 : decode cX1_isSo 203 = .ok (.getfield 44, 3) := dcU2 dO_180 (rdU2.ch sfx_cX1_isSo_192 11 rfl (by decide +kernel))
theorem dX1_isSo_206 : decode cX1_isSo 206 = .ok (.iload_n 3, 1) := dc0 dO_29 (rdB.ch sfx_cX1_isSo_192 14 rfl (by decide +kernel))
theorem dX1_isSo_207 : decode cX1_isSo 207 = .ok (.if_icmp .ne 7, 3) := dcS2 dO_160 (rdS2.ch sfx_cX1_isSo_192 15 rfl (by decide +kernel))
theorem dX1_isSo_210 : decode cX1_isSo 210 = .ok (.iconst 1, 1) := dc0 dO_4 (rdB.ch sfx_cX1_isSo_192 18 rfl (by decide +kernel))
theorem dX1_isSo_211 : decode cX1_isSo 211 = .ok (.goto 4, 3) := dcS2 dO_167 (rdS2.ch sfx_cX1_isSo_192 19 rfl (by decide +kernel))
theorem dX1_isSo_214 : decode cX1_isSo 214 = .ok (.iconst 0, 1) := dc0 dO_3 (rdB.ch sfx_cX1_isSo_192 22 rfl (by decide +kernel))
theorem dX1_isSo_215 : decode cX1_isSo 215 = .ok (.ireturn, 1) := dc0 dO_172 (rdB.ch sfx_cX1_isSo_192 23 rfl (by decide +kernel))
theorem dX1_isSo_216 : decode cX1_isSo 216 = .ok (.aload_n 0, 1) := dc0 dO_42 (rdB.ch sfx_cX1_isSo_192 24 rfl (by decide +kernel))
theorem dX1_isSo_217 : decode cX1_isSo 217 = .ok (.getfield 25, 3) := dcU2 dO_180 (rdU2.ch sfx_cX1_isSo_192 25 rfl (by decide +kernel))
theorem dX1_isSo_220 : decode cX1_isSo 220 = .ok (.getfield 96, 3) := dcU2 dO_180 (rdU2.ch sfx_cX1_isSo_192 28 rfl (by decide +kernel))
theorem dX1_isSo_223 : decode cX1_isSo 223 = .ok (.iload 4, 2) := dcU1 dO_21 (rdU1.ch sfx_cX1_isSo_192 31 rfl (by decide +kernel))
theorem dX1_isSo_225 : decode cX1_isSo 225 = .ok (.invokestatic 99, 3) := dcU2 dO_184 (rdU2.ch sfx_cX1_isSo_192 33 rfl (by decide +kernel))
theorem dX1_isSo_228 : decode cX1_isSo 228 = .ok (.iconst 1, 1) := dc0 dO_4 (rdB.ch sfx_cX1_isSo_192 36 rfl (by decide +kernel))
theorem dX1_isSo_229 : decode cX1_isSo 229 = .ok (.iadd, 1) := dc0 dO_96 (rdB.ch sfx_cX1_isSo_192 37 rfl (by decide +kernel))
theorem dX1_isSo_230 : decode cX1_isSo 230 = .ok (.iload_n 3, 1) := dc0 dO_29 (rdB.ch sfx_cX1_isSo_192 38 rfl (by decide +kernel))
theorem dX1_isSo_231 : decode cX1_isSo 231 = .ok (.if_icmp .ne 7, 3) := dcS2 dO_160 (rdS2.ch sfx_cX1_isSo_192 39 rfl (by decide +kernel))
theorem dX1_isSo_234 : decode cX1_isSo 234 = .ok (.iconst 1, 1) := dc0 dO_4 (rdB.ch sfx_cX1_isSo_192 42 rfl (by decide +kernel))
theorem dX1_isSo_235 : decode cX1_isSo 235 = .ok (.goto 4, 3) := dcS2 dO_167 (rdS2.ch sfx_cX1_isSo_192 43 rfl (by decide +kernel))
theorem dX1_isSo_238 : decode cX1_isSo 238 = .ok (.iconst 0, 1) := dc0 dO_3 (rdB.ch sfx_cX1_isSo_192 46 rfl (by decide +kernel))
theorem dX1_isSo_239 : decode cX1_isSo 239 = .ok (.ireturn, 1) := dc0 dO_172 (rdB.ch sfx_cX1_isSo_192 47 rfl (by decide +kernel))
theorem dX1_isSo_240 : decode cX1_isSo 240 = .ok (.aload_n 0, 1) := dc0 dO_42 (rdB.ch sfx_cX1_isSo_192 48 rfl (by decide +kernel))
theorem dX1_isSo_241 : decode cX1_isSo 241 = .ok (.getfield 25, 3) := dcU2 dO_180 (rdU2.ch sfx_cX1_isSo_192 49 rfl (by decide +kernel))
theorem dX1_isSo_244 : decode cX1_isSo 244 = .ok (.getfield 105, 3) := dcU2 dO_180 (rdU2.ch sfx_cX1_isSo_192 52 rfl (by decide +kernel))
theorem dX1_isSo_247 : decode cX1_isSo 247 = .ok (.iload 4, 2) := dcU1 dO_21 (rdU1.ch sfx_cX1_isSo_192 55 rfl (by decide +kernel))
theorem dX1_isSo_249 : decode cX1_isSo 249 = .ok (.invokestatic 99, 3) := dcU2 dO_184 (rdU2.ch sfx_cX1_isSo_192 57 rfl (by decide +kernel))
theorem dX1_isSo_252 : decode cX1_isSo 252 = .ok (.iconst 1, 1) := dc0 dO_4 (rdB.ch sfx_cX1_isSo_192 60 rfl (by decide +kernel))
theorem dX1_isSo_253 : decode cX1_isSo 253 = .ok (.iadd, 1) := dc0 dO_96 (rdB.ch sfx_cX1_isSo_192 61 rfl (by decide +kernel))
theorem dX1_isSo_254 : decode cX1_isSo 254 = .ok (.iload_n 3, 1) := dc0 dO_29 (rdB.ch sfx_cX1_isSo_192 62 rfl (by decide +kernel))
theorem dX1_isSo_255 : decode cX1_isSo 255 = .ok (.if_icmp .ne 7, 3) := dcS2 dO_160 (rdS2.ch sfx_cX1_isSo_192 63 rfl (by decide +kernel))
theorem sfx_cX1_isSo_256 : (cX1_isSo.data.toList.drop 256).take 67 = [0, 7, 4, 167, 0, 4, 3, 172, 42, 180, 0, 25, 180, 0, 108, 21, 4, 184, 0, 99, 4, 96, 29, 160, 0, 7, 4, 167, 0, 4, 3, 172, 42, 180, 0, 25, 180, 0, 111, 29, 160, 0, 7, 4, 167, 0, 4, 3, 172, 42, 180, 0, 25, 180, 0, 96, 158, 0, 23, 42, 180, 0, 25, 180, 0, 114, 42] := by decide +kernel
theorem dX1_isSo_258 : decode cX1_isSo 258 = .ok (.iconst 1, 1) := dc0 dO_4 (rdB.ch sfx_cX1_isSo_256 2 rfl (by decide +kernel))
theorem dX1_isSo_259 : decode cX1_isSo 259 = .ok (.goto 4, 3) := dcS2 dO_167 (rdS2.ch sfx_cX1_isSo_256 3 rfl (by decide +kernel))
theorem dX1_isSo_262 : decode cX1_isSo 262 = .ok (.iconst 0, 1) := dc0 dO_3 (rdB.ch sfx_cX1_isSo_256 6 rfl (by decide +kernel))
theorem dX1_isSo_263 : decode cX1_isSo 263 = .ok (.ireturn, 1) := dc0 dO_172 (rdB.ch sfx_cX1_isSo_256 7 rfl (by decide +kernel))
theorem dX1_isSo_264 : decode cX1_isSo 264 = .ok (.aload_n 0, 1) := dc0 dO_42 (rdB.ch sfx_cX1_isSo_256 8 rfl (by decide +kernel))
theorem dX1_isSo_265 : decode cX1_isSo 265 = .ok (.getfield 25, 3) := dcU2 dO_180 (rdU2.ch sfx_cX1_isSo_256 9 rfl (by decide +kernel))
theorem dX1_isSo_268 : decode cX1_isSo 268 = .ok (.getfield 108, 3) := dcU2 dO_180 (rdU2.ch sfx_cX1_isSo_256 12 rfl (by decide +kernel))
theorem dX1_isSo_271 : decode cX1_isSo 271 = .ok (.iload 4, 2) := dcU1 dO_21 (rdU1.ch sfx_cX1_isSo_256 15 rfl (by decide +kernel))
theorem dX1_isSo_273 : decode cX1_isSo 273 = .ok (.invokestatic 99, 3) := dcU2 dO_184 (rdU2.ch sfx_cX1_isSo_256 17 rfl (by decide +kernel))
theorem dX1_isSo_276 : decode cX1_isSo 276 = .ok (.iconst 1, 1) := dc0 dO_4 (rdB.ch sfx_cX1_isSo_256 20 rfl (by decide +kernel))
theorem dX1_isSo_277 : decode cX1_isSo 277 = .ok (.iadd, 1) := dc0 dO_96 (rdB.ch sfx_cX1_isSo_256 21 rfl (by decide +kernel))
theorem dX1_isSo_278 : decode cX1_isSo 278 = .ok (.iload_n 3, 1) := dc0 dO_29 (rdB.ch sfx_cX1_isSo_256 22 rfl (by decide +kernel))
theorem dX1_isSo_279 : decode cX1_isSo 279 = .ok (.if_icmp .ne 7, 3) := dcS2 dO_160 (rdS2.ch sfx_cX1_isSo_256 23 rfl (by decide +kernel))
theorem dX1_isSo_282 : decode cX1_isSo 282 = .ok (.iconst 1, 1) := dc0 dO_4 (rdB.ch sfx_cX1_isSo_256 26 rfl (by decide +kernel))
theorem dX1_isSo_283 : decode cX1_isSo 283 = .ok (.goto 4, 3) := dcS2 dO_167 (rdS2.ch sfx_cX1_isSo_256 27 rfl (by decide +kernel))
theorem dX1_isSo_286 : decode cX1_isSo 286 = .ok (.iconst 0, 1) := dc0 dO_3 (rdB.ch sfx_cX1_isSo_256 30 rfl (by decide +kernel))
theorem dX1_isSo_287 : decode cX1_isSo 287 = .ok (.ireturn, 1) := dc0 dO_172 (rdB.ch sfx_cX1_isSo_256 31 rfl (by decide +kernel))
theorem dX1_isSo_288 : decode cX1_isSo 288 = .ok (.aload_n 0, 1) := dc0 dO_42 (rdB.ch sfx_cX1_isSo_256 32 rfl (by decide +kernel))
theorem dX1_isSo_289 : decode cX1_isSo 289 = .ok (.getfield 25, 3) := dcU2 dO_180 (rdU2.ch sfx_cX1_isSo_256 33 rfl (by decide +kernel))
theorem dX1_isSo_292 : decode cX1_isSo 292 = .ok (.getfield 111, 3) := dcU2 dO_180 (rdU2.ch sfx_cX1_isSo_256 36 rfl (by decide +kernel))
theorem dX1_isSo_295 : decode cX1_isSo 295 = .ok (.iload_n 3, 1) := dc0 dO_29 (rdB.ch sfx_cX1_isSo_256 39 rfl (by decide +kernel))
theorem dX1_isSo_296 : decode cX1_isSo 296 = .ok (.if_icmp .ne 7, 3) := dcS2 dO_160 (rdS2.ch sfx_cX1_isSo_256 40 rfl (by decide +kernel))
theorem dX1_isSo_299 : decode cX1_isSo 299 = .ok (.iconst 1, 1) := dc0 dO_4 (rdB.ch sfx_cX1_isSo_256 43 rfl (by decide +kernel))
theorem dX1_isSo_300 : decode cX1_isSo 300 = .ok (.goto 4, 3) := dcS2 dO_167 (rdS2.ch sfx_cX1_isSo_256 44 rfl (by decide +kernel))
theorem dX1_isSo_303 : decode cX1_isSo 303 = .ok (.iconst 0, 1) := dc0 dO_3 (rdB.ch sfx_cX1_isSo_256 47 rfl (by decide +kernel))
theorem dX1_isSo_304 : decode cX1_isSo 304 = .ok (.ireturn, 1) := dc0 dO_172 (rdB.ch sfx_cX1_isSo_256 48 rfl (by decide +kernel))
theorem dX1_isSo_305 : decode cX1_isSo 305 = .ok (.aload_n 0, 1) := dc0 dO_42 (rdB.ch sfx_cX1_isSo_256 49 rfl (by decide +kernel))
theorem dX1_isSo_306 : decode cX1_isSo 306 = .ok (.getfield 25, 3) := dcU2 dO_180 (rdU2.ch sfx_cX1_isSo_256 50 rfl (by decide +kernel))
theorem dX1_isSo_309 : decode cX1_isSo 309 = .ok (.getfield 96, 3) := dcU2 dO_180 (rdU2.ch sfx_cX1_isSo_256 53 rfl (by decide +kernel))
theorem dX1_isSo_312 : decode cX1_isSo 312 = .ok (.ifCond .le 23, 3) := dcS2 dO_158 (rdS2.ch sfx_cX1_isSo_256 56 rfl (by decide +kernel))
theorem dX1_isSo_315 : decode cX1_isSo 315 = .ok (.aload_n 0, 1) := dc0 dO_42 (rdB.ch sfx_cX1_isSo_256 59 rfl (by decide +kernel))
theorem dX1_isSo_316 : decode cX1_isSo 316 = .ok (.getfield 25, 3) := dcU2 dO_180 (rdU2.ch sfx_cX1_isSo_256 60 rfl (by decide +kernel))
theorem dX1_isSo_319 : decode cX1_isSo 319 = .ok (.getfield 114, 3) := dcU2 dO_180 (rdU2.ch sfx_cX1_isSo_256 63 rfl (by decide +kernel))
theorem sfx_cX1_isSo_320 : (cX1_isSo.data.toList.drop 320).take 67 = [0, 114, 42, 180, 0, 25, 180, 0, 96, 4, 100, 46, 167, 0, 7, 42, 180, 0, 35, 54, 7, 42, 180, 0, 9, 42, 180, 0, 25, 180, 0, 77, 21, 7, 42, 180, 0, 9, 180, 0, 117, 42, 180, 0, 9, 180, 0, 117, 182, 0, 120, 29, 160, 0, 7, 4, 167, 0, 4, 3, 172, 3, 172] := by decide +kernel
theorem dX1_isSo_322 : decode cX1_isSo 322 = .ok (.aload_n 0, 1) := dc0 dO_42 (rdB.ch sfx_cX1_isSo_320 2 rfl (by decide +kernel))
theorem dX1_isSo_323 : decode cX1_isSo 323 = .ok (.getfield 25, 3) := dcU2 dO_180 (rdU2.ch sfx_cX1_isSo_320 3 rfl (by decide +kernel))
theorem dX1_isSo_326 : decode cX1_isSo 326 = .ok (.getfield 96, 3) := dcU2 dO_180 (rdU2.ch sfx_cX1_isSo_320 6 rfl (by decide +kernel))
theorem dX1_isSo_329 : decode cX1_isSo 329 = .ok (.iconst 1, 1) := dc0 dO_4 (rdB.ch sfx_cX1_isSo_320 9 rfl (by decide +kernel))
theorem dX1_isSo_330 : decode cX1_isSo 330 = .ok (.isub, 1) := dc0 dO_100 (rdB.ch sfx_cX1_isSo_320 10 rfl (by decide +kernel))
theorem dX1_isSo_331 : decode cX1_isSo 331 = .ok (.iaload, 1) := dc0 dO_46 (rdB.ch sfx_cX1_isSo_320 11 rfl (by decide +kernel))
theorem dX1_isSo_332 : decode cX1_isSo 332 = .ok (.goto 7, 3) := dcS2 dO_167 (rdS2.ch sfx_cX1_isSo_320 12 rfl (by decide +kernel))
theorem dX1_isSo_335 : decode cX1_isSo 335 = .ok (.aload_n 0, 1) := dc0 dO_42 (rdB.ch sfx_cX1_isSo_320 15 rfl (by decide +kernel))
theorem dX1_isSo_336 : decode cX1_isSo 336 = .ok (.getfield 35, 3) := dcU2 dO_180 (rdU2.ch sfx_cX1_isSo_320 16 rfl (by decide +kernel))
theorem dX1_isSo_339 : decode cX1_isSo 339 = .ok (.istore 7, 2) := dcU1 dO_54 (rdU1.ch sfx_cX1_isSo_320 19 rfl (by decide +kernel))
theorem dX1_isSo_341 : decode cX1_isSo 341 = .ok (.aload_n 0, 1) := dc0 dO_42 (rdB.ch sfx_cX1_isSo_320 21 rfl (by decide +kernel))
theorem dX1_isSo_342 : decode cX1_isSo 342 = .ok (.getfield 9, 3) := dcU2 dO_180 (rdU2.ch sfx_cX1_isSo_320 22 rfl (by decide +kernel))
theorem dX1_isSo_345 : decode cX1_isSo 345 = .ok (.aload_n 0, 1) := dc0 dO_42 (rdB.ch sfx_cX1_isSo_320 25 rfl (by decide +kernel))
theorem dX1_isSo_346 : decode cX1_isSo 346 = .ok (.getfield 25, 3) := dcU2 dO_180 (rdU2.ch sfx_cX1_isSo_320 26 rfl (by decide +kernel))
theorem dX1_isSo_349 : decode cX1_isSo 349 = .ok (.getfield 77, 3) := dcU2 dO_180 (rdU2.ch sfx_cX1_isSo_320 29 rfl (by decide +kernel))
theorem dX1_isSo_352 : decode cX1_isSo 352 = .ok (.iload 7, 2) := dcU1 dO_21 (rdU1.ch sfx_cX1_isSo_320 32 rfl (by decide +kernel))
theorem dX1_isSo_354 : decode cX1_isSo 354 = .ok (.aload_n 0, 1) := dc0 dO_42 (rdB.ch sfx_cX1_isSo_320 34 rfl (by decide +kernel))
theorem dX1_isSo_355 : decode cX1_isSo 355 = .ok (.getfield 9, 3) := dcU2 dO_180 (rdU2.ch sfx_cX1_isSo_320 35 rfl (by decide +kernel))
theorem dX1_isSo_358 : decode cX1_isSo 358 = .ok (.getfield 117, 3) := dcU2 dO_180 (rdU2.ch sfx_cX1_isSo_320 38 rfl (by decide +kernel))
theorem dX1_isSo_361 : decode cX1_isSo 361 = .ok (.aload_n 0, 1) := dc0 dO_42 (rdB.ch sfx_cX1_isSo_320 41 rfl (by decide +kernel))
theorem dX1_isSo_362 : decode cX1_isSo 362 = .ok (.getfield 9, 3) := dcU2 dO_180 (rdU2.ch sfx_cX1_isSo_320 42 rfl (by decide +kernel))
theorem dX1_isSo_365 : decode cX1_isSo 365 = .ok (.getfield 117, 3) := dcU2 dO_180 (rdU2.ch sfx_cX1_isSo_320 45 rfl (by decide +kernel))
theorem dX1_isSo_368 : decode cX1_isSo 368 = .ok (.invokevirtual 120, 3) := dcU2 dO_182 (rdU2.ch sfx_cX1_isSo_320 48 rfl (by decide +kernel))
theorem dX1_isSo_371 : decode cX1_isSo 371 = .ok (.iload_n 3, 1) := dc0 dO_29 (rdB.ch sfx_cX1_isSo_320 51 rfl (by decide +kernel))
theorem dX1_isSo_372 : decode cX1_isSo 372 = .ok (.if_icmp .ne 7, 3) := dcS2 dO_160 (rdS2.ch sfx_cX1_isSo_320 52 rfl (by decide +kernel))
theorem dX1_isSo_375 : decode cX1_isSo 375 = .ok (.iconst 1, 1) := dc0 dO_4 (rdB.ch sfx_cX1_isSo_320 55 rfl (by decide +kernel))
theorem dX1_isSo_376 : decode cX1_isSo 376 = .ok (.goto 4, 3) := dcS2 dO_167 (rdS2.ch sfx_cX1_isSo_320 56 rfl (by decide +kernel))
theorem dX1_isSo_379 : decode cX1_isSo 379 = .ok (.iconst 0, 1) := dc0 dO_3 (rdB.ch sfx_cX1_isSo_320 59 rfl (by decide +kernel))
theorem dX1_isSo_380 : decode cX1_isSo 380 = .ok (.ireturn, 1) := dc0 dO_172 (rdB.ch sfx_cX1_isSo_320 60 rfl (by decide +kernel))
theorem dX1_isSo_381 : decode cX1_isSo 381 = .ok (.iconst 0, 1) := dc0 dO_3 (rdB.ch sfx_cX1_isSo_320 61 rfl (by decide +kernel))
theorem dX1_isSo_382 : decode cX1_isSo 382 = .ok (.ireturn, 1) := dc0 dO_172 (rdB.ch sfx_cX1_isSo_320 62 rfl (by decide +kernel))
theorem dX1_lets_0 : decode cX1_lets 0 = .ok (.iload_n 1, 1) := dc0 dO_27 (by decide +kernel)
theorem dX1_lets_1 : decode cX1_lets 1 = .ok (.ifCond .lt 11, 3) := dcS2 dO_155 (by decide +kernel)
theorem dX1_lets_4 : decode cX1_lets 4 = .ok (.iload_n 1, 1) := dc0 dO_27 (by decide +kernel)
theorem dX1_lets_5 : decode cX1_lets 5 = .ok (.aload_n 0, 1) := dc0 dO_42 (by decide +kernel)
theorem dX1_lets_6 : decode cX1_lets 6 = .ok (.getfield 21, 3) := dcU2 dO_180 (by decide +kernel)
theorem dX1_lets_9 : decode cX1_lets 9 = .ok (.if_icmp .lt 5, 3) := dcS2 dO_161 (by decide +kernel)
theorem dX1_lets_12 : decode cX1_lets 12 = .ok (.iconst 1, 1) := dc0 dO_4 (by decide +kernel)
theorem dX1_lets_13 : decode cX1_lets 13 = .ok (.ireturn, 1) := dc0 dO_172 (by decide +kernel)
theorem dX1_lets_14 : decode cX1_lets 14 = .ok (.aload_n 0, 1) := dc0 dO_42 (by decide +kernel)
theorem dX1_lets_15 : decode cX1_lets 15 = .ok (.aload_n 2, 1) := dc0 dO_44 (by decide +kernel)
theorem dX1_lets_16 : decode cX1_lets 16 = .ok (.putfield 25, 3) := dcU2 dO_181 (by decide +kernel)
theorem dX1_lets_19 : decode cX1_lets 19 = .ok (.aload_n 0, 1) := dc0 dO_42 (by decide +kernel)
theorem dX1_lets_20 : decode cX1_lets 20 = .ok (.aload_n 3, 1) := dc0 dO_45 (by decide +kernel)
theorem dX1_lets_21 : decode cX1_lets 21 = .ok (.iload 4, 2) := dcU1 dO_21 (by decide +kernel)
theorem dX1_lets_23 : decode cX1_lets 23 = .ok (.invokevirtual 29, 3) := dcU2 dO_182 (by decide +kernel)
theorem dX1_lets_26 : decode cX1_lets 26 = .ok (.putfield 35, 3) := dcU2 dO_181 (by decide +kernel)
theorem dX1_lets_29 : decode cX1_lets 29 = .ok (.aload_n 0, 1) := dc0 dO_42 (by decide +kernel)
theorem dX1_lets_30 : decode cX1_lets 30 = .ok (.aload_n 3, 1) := dc0 dO_45 (by decide +kernel)
theorem dX1_lets_31 : decode cX1_lets 31 = .ok (.iconst 1, 1) := dc0 dO_4 (by decide +kernel)
theorem dX1_lets_32 : decode cX1_lets 32 = .ok (.iload 4, 2) := dcU1 dO_21 (by decide +kernel)
theorem dX1_lets_34 : decode cX1_lets 34 = .ok (.isub, 1) := dc0 dO_100 (by decide +kernel)
theorem dX1_lets_35 : decode cX1_lets 35 = .ok (.invokevirtual 29, 3) := dcU2 dO_182 (by decide +kernel)
theorem dX1_lets_38 : decode cX1_lets 38 = .ok (.putfield 38, 3) := dcU2 dO_181 (by decide +kernel)
theorem dX1_lets_41 : decode cX1_lets 41 = .ok (.aload_n 0, 1) := dc0 dO_42 (by decide +kernel)
theorem dX1_lets_42 : decode cX1_lets 42 = .ok (.aload_n 3, 1) := dc0 dO_45 (by decide +kernel)
theorem dX1_lets_43 : decode cX1_lets 43 = .ok (.iload 4, 2) := dcU1 dO_21 (by decide +kernel)
theorem dX1_lets_45 : decode cX1_lets 45 = .ok (.invokevirtual 41, 3) := dcU2 dO_182 (by decide +kernel)
theorem dX1_lets_48 : decode cX1_lets 48 = .ok (.putfield 44, 3) := dcU2 dO_181 (by decide +kernel)
theorem dX1_lets_51 : decode cX1_lets 51 = .ok (.aload_n 0, 1) := dc0 dO_42 (by decide +kernel)
theorem dX1_lets_52 : decode cX1_lets 52 = .ok (.iconst 0, 1) := dc0 dO_3 (by decide +kernel)
theorem dX1_lets_53 : decode cX1_lets 53 = .ok (.putfield 47, 3) := dcU2 dO_181 (by decide +kernel)
theorem dX1_lets_56 : decode cX1_lets 56 = .ok (.aload_n 0, 1) := dc0 dO_42 (by decide +kernel)
theorem dX1_lets_57 : decode cX1_lets 57 = .ok (.iconst 0, 1) := dc0 dO_3 (by decide +kernel)
theorem dX1_lets_58 : decode cX1_lets 58 = .ok (.putfield 50, 3) := dcU2 dO_181 (by decide +kernel)
theorem dX1_lets_61 : decode cX1_lets 61 = .ok (.aload_n 0, 1) := dc0 dO_42 (by decide +kernel)
theorem dX1_lets_62 : decode cX1_lets 62 = .ok (.iload_n 1, 1) := dc0 dO_27 (by decide +kernel)
theorem dX1_lets_63 : decode cX1_lets 63 = .ok (.iconst 0, 1) := dc0 dO_3 (by decide +kernel)
theorem dX1_lets_64 : decode cX1_lets 64 = .ok (.invokevirtual 53, 3) := dcU2 dO_182 (by decide +kernel)
theorem dX1_lets_67 : decode cX1_lets 67 = .ok (.aload_n 0, 1) := dc0 dO_42 (by decide +kernel)
theorem dX1_lets_68 : decode cX1_lets 68 = .ok (.getfield 50, 3) := dcU2 dO_180 (by decide +kernel)
theorem dX1_lets_71 : decode cX1_lets 71 = .ok (.iconst 2, 1) := dc0 dO_5 (by decide +kernel)
theorem dX1_lets_72 : decode cX1_lets 72 = .ok (.if_icmp .eq 7, 3) := dcS2 dO_159 (by decide +kernel)
theorem dX1_lets_75 : decode cX1_lets 75 = .ok (.iconst 1, 1) := dc0 dO_4 (by decide +kernel)
theorem dX1_lets_76 : decode cX1_lets 76 = .ok (.goto 4, 3) := dcS2 dO_167 (by decide +kernel)
theorem dX1_lets_79 : decode cX1_lets 79 = .ok (.iconst 0, 1) := dc0 dO_3 (by decide +kernel)
theorem dX1_lets_80 : decode cX1_lets 80 = .ok (.ireturn, 1) := dc0 dO_172 (by decide +kernel)
theorem dX5_tells_0 : decode cX5_tells 0 = .ok (.aload_n 3, 1) := dc0 dO_45 (by decide +kernel)
theorem dX5_tells_1 : decode cX5_tells 1 = .ok (.getfield 30, 3) := dcU2 dO_180 (by decide +kernel)
theorem dX5_tells_4 : decode cX5_tells 4 = .ok (.ifCond .ne 5, 3) := dcS2 dO_154 (by decide +kernel)
theorem dX5_tells_7 : decode cX5_tells 7 = .ok (.iload_n 2, 1) := dc0 dO_28 (by decide +kernel)
theorem dX5_tells_8 : decode cX5_tells 8 = .ok (.ireturn, 1) := dc0 dO_172 (by decide +kernel)
theorem dX5_tells_9 : decode cX5_tells 9 = .ok (.iload_n 1, 1) := dc0 dO_27 (by decide +kernel)
theorem dX5_tells_10 : decode cX5_tells 10 = .ok (.ifCond .lt 12, 3) := dcS2 dO_155 (by decide +kernel)
theorem dX5_tells_13 : decode cX5_tells 13 = .ok (.iload_n 1, 1) := dc0 dO_27 (by decide +kernel)
theorem dX5_tells_14 : decode cX5_tells 14 = .ok (.aload_n 0, 1) := dc0 dO_42 (by decide +kernel)
theorem dX5_tells_15 : decode cX5_tells 15 = .ok (.getfield 24, 3) := dcU2 dO_180 (by decide +kernel)
theorem dX5_tells_18 : decode cX5_tells 18 = .ok (.arraylength, 1) := dc0 dO_190 (by decide +kernel)
theorem dX5_tells_19 : decode cX5_tells 19 = .ok (.if_icmp .lt 5, 3) := dcS2 dO_161 (by decide +kernel)
theorem dX5_tells_22 : decode cX5_tells 22 = .ok (.iconst 0, 1) := dc0 dO_3 (by decide +kernel)
theorem dX5_tells_23 : decode cX5_tells 23 = .ok (.ireturn, 1) := dc0 dO_172 (by decide +kernel)
theorem dX5_tells_24 : decode cX5_tells 24 = .ok (.aload_n 0, 1) := dc0 dO_42 (by decide +kernel)
theorem dX5_tells_25 : decode cX5_tells 25 = .ok (.getfield 24, 3) := dcU2 dO_180 (by decide +kernel)
theorem dX5_tells_28 : decode cX5_tells 28 = .ok (.iload_n 1, 1) := dc0 dO_27 (by decide +kernel)
theorem dX5_tells_29 : decode cX5_tells 29 = .ok (.laload, 1) := dc0 dO_47 (by decide +kernel)
theorem dX5_tells_30 : decode cX5_tells 30 = .ok (.lstore 4, 2) := dcU1 dO_55 (by decide +kernel)
theorem dX5_tells_32 : decode cX5_tells 32 = .ok (.lconst 0, 1) := dc0 dO_9 (by decide +kernel)
theorem dX5_tells_33 : decode cX5_tells 33 = .ok (.lstore 6, 2) := dcU1 dO_55 (by decide +kernel)
theorem dX5_tells_35 : decode cX5_tells 35 = .ok (.iconst 0, 1) := dc0 dO_3 (by decide +kernel)
theorem dX5_tells_36 : decode cX5_tells 36 = .ok (.istore 8, 2) := dcU1 dO_54 (by decide +kernel)
theorem dX5_tells_38 : decode cX5_tells 38 = .ok (.iload 8, 2) := dcU1 dO_21 (by decide +kernel)
theorem dX5_tells_40 : decode cX5_tells 40 = .ok (.aload_n 3, 1) := dc0 dO_45 (by decide +kernel)
theorem dX5_tells_41 : decode cX5_tells 41 = .ok (.getfield 30, 3) := dcU2 dO_180 (by decide +kernel)
theorem dX5_tells_44 : decode cX5_tells 44 = .ok (.if_icmp .ge 111, 3) := dcS2 dO_162 (by decide +kernel)
theorem dX5_tells_47 : decode cX5_tells 47 = .ok (.lconst 0, 1) := dc0 dO_9 (by decide +kernel)
theorem dX5_tells_48 : decode cX5_tells 48 = .ok (.lstore 6, 2) := dcU1 dO_55 (by decide +kernel)
theorem dX5_tells_50 : decode cX5_tells 50 = .ok (.lconst 0, 1) := dc0 dO_9 (by decide +kernel)
theorem dX5_tells_51 : decode cX5_tells 51 = .ok (.lstore 9, 2) := dcU1 dO_55 (by decide +kernel)
theorem dX5_tells_53 : decode cX5_tells 53 = .ok (.iconst 0, 1) := dc0 dO_3 (by decide +kernel)
theorem dX5_tells_54 : decode cX5_tells 54 = .ok (.istore 11, 2) := dcU1 dO_54 (by decide +kernel)
theorem dX5_tells_56 : decode cX5_tells 56 = .ok (.iload 11, 2) := dcU1 dO_21 (by decide +kernel)
theorem dX5_tells_58 : decode cX5_tells 58 = .ok (.aload_n 0, 1) := dc0 dO_42 (by decide +kernel)
theorem dX5_tells_59 : decode cX5_tells 59 = .ok (.getfield 17, 3) := dcU2 dO_180 (by decide +kernel)
theorem dX5_tells_62 : decode cX5_tells 62 = .ok (.arraylength, 1) := dc0 dO_190 (by decide +kernel)
theorem dX5_tells_63 : decode cX5_tells 63 = .ok (.if_icmp .ge 82, 3) := dcS2 dO_162 (by decide +kernel)
theorem dX5_tells_66 : decode cX5_tells 66 = .ok (.aload_n 0, 1) := dc0 dO_42 (by decide +kernel)
theorem dX5_tells_67 : decode cX5_tells 67 = .ok (.getfield 17, 3) := dcU2 dO_180 (by decide +kernel)
theorem dX5_tells_70 : decode cX5_tells 70 = .ok (.iload 11, 2) := dcU1 dO_21 (by decide +kernel)
theorem dX5_tells_72 : decode cX5_tells 72 = .ok (.iaload, 1) := dc0 dO_46 (by decide +kernel)
theorem dX5_tells_73 : decode cX5_tells 73 = .ok (.iconst (-1), 1) := dc0 dO_2 (by decide +kernel)
theorem dX5_tells_74 : decode cX5_tells 74 = .ok (.if_icmp .eq 20, 3) := dcS2 dO_159 (by decide +kernel)
theorem dX5_tells_77 : decode cX5_tells 77 = .ok (.aload_n 0, 1) := dc0 dO_42 (by decide +kernel)
theorem dX5_tells_78 : decode cX5_tells 78 = .ok (.getfield 17, 3) := dcU2 dO_180 (by decide +kernel)
theorem dX5_tells_81 : decode cX5_tells 81 = .ok (.iload 11, 2) := dcU1 dO_21 (by decide +kernel)
theorem dX5_tells_83 : decode cX5_tells 83 = .ok (.iaload, 1) := dc0 dO_46 (by decide +kernel)
theorem dX5_tells_84 : decode cX5_tells 84 = .ok (.aload_n 3, 1) := dc0 dO_45 (by decide +kernel)
theorem dX5_tells_85 : decode cX5_tells 85 = .ok (.getfield 35, 3) := dcU2 dO_180 (by decide +kernel)
theorem dX5_tells_88 : decode cX5_tells 88 = .ok (.iload 8, 2) := dcU1 dO_21 (by decide +kernel)
theorem dX5_tells_90 : decode cX5_tells 90 = .ok (.iaload, 1) := dc0 dO_46 (by decide +kernel)
theorem dX5_tells_91 : decode cX5_tells 91 = .ok (.if_icmp .ne 7, 3) := dcS2 dO_160 (by decide +kernel)
theorem dX5_tells_94 : decode cX5_tells 94 = .ok (.iconst 1, 1) := dc0 dO_4 (by decide +kernel)
theorem dX5_tells_95 : decode cX5_tells 95 = .ok (.goto 4, 3) := dcS2 dO_167 (by decide +kernel)
theorem dX5_tells_98 : decode cX5_tells 98 = .ok (.iconst 0, 1) := dc0 dO_3 (by decide +kernel)
theorem dX5_tells_99 : decode cX5_tells 99 = .ok (.istore 12, 2) := dcU1 dO_54 (by decide +kernel)
theorem dX5_tells_101 : decode cX5_tells 101 = .ok (.iload 12, 2) := dcU1 dO_21 (by decide +kernel)
theorem dX5_tells_103 : decode cX5_tells 103 = .ok (.ifCond .eq 36, 3) := dcS2 dO_153 (by decide +kernel)
theorem dX5_tells_106 : decode cX5_tells 106 = .ok (.lload 4, 2) := dcU1 dO_22 (by decide +kernel)
theorem dX5_tells_108 : decode cX5_tells 108 = .ok (.iload 11, 2) := dcU1 dO_21 (by decide +kernel)
theorem dX5_tells_110 : decode cX5_tells 110 = .ok (.lushr, 1) := dc0 dO_125 (by decide +kernel)
theorem dX5_tells_111 : decode cX5_tells 111 = .ok (.lconst 1, 1) := dc0 dO_10 (by decide +kernel)
theorem dX5_tells_112 : decode cX5_tells 112 = .ok (.land, 1) := dc0 dO_127 (by decide +kernel)
theorem dX5_tells_113 : decode cX5_tells 113 = .ok (.lconst 0, 1) := dc0 dO_9 (by decide +kernel)
theorem dX5_tells_114 : decode cX5_tells 114 = .ok (.lcmp, 1) := dc0 dO_148 (by decide +kernel)
theorem dX5_tells_115 : decode cX5_tells 115 = .ok (.ifCond .eq 24, 3) := dcS2 dO_153 (by decide +kernel)
theorem dX5_tells_118 : decode cX5_tells 118 = .ok (.lload 6, 2) := dcU1 dO_22 (by decide +kernel)
theorem dX5_tells_120 : decode cX5_tells 120 = .ok (.lconst 1, 1) := dc0 dO_10 (by decide +kernel)
theorem dX5_tells_121 : decode cX5_tells 121 = .ok (.iload 11, 2) := dcU1 dO_21 (by decide +kernel)
theorem dX5_tells_123 : decode cX5_tells 123 = .ok (.lshl, 1) := dc0 dO_121 (by decide +kernel)
theorem dX5_tells_124 : decode cX5_tells 124 = .ok (.lor, 1) := dc0 dO_129 (by decide +kernel)
theorem dX5_tells_125 : decode cX5_tells 125 = .ok (.lstore 6, 2) := dcU1 dO_55 (by decide +kernel)
theorem dX5_tells_127 : decode cX5_tells 127 = .ok (.lload 9, 2) := dcU1 dO_22 (by decide +kernel)
theorem sfx_cX5_tells_128 : (cX5_tells.data.toList.drop 128).take 67 = [9, 42, 180, 0, 20, 21, 11, 47, 129, 55, 9, 132, 11, 1, 167, 255, 170, 22, 9, 55, 4, 132, 8, 1, 167, 255, 142, 22, 6, 42, 180, 0, 27, 27, 47, 127, 9, 148, 153, 0, 7, 4, 167, 0, 4, 3, 172] := by decide +kernel
theorem dX5_tells_129 : decode cX5_tells 129 = .ok (.aload_n 0, 1) := dc0 dO_42 (rdB.ch sfx_cX5_tells_128 1 rfl (by decide +kernel))
theorem dX5_tells_130 : decode cX5_tells 130 = .ok (.getfield 20, 3) := dcU2 dO_180 (rdU2.ch sfx_cX5_tells_128 2 rfl (by decide +kernel))
theorem dX5_tells_133 : decode cX5_tells 133 = .ok (.iload 11, 2) := dcU1 dO_21 (rdU1.ch sfx_cX5_tells_128 5 rfl (by decide +kernel))
theorem dX5_tells_135 : decode cX5_tells 135 = .ok (.laload, 1) := dc0 dO_47 (rdB.ch sfx_cX5_tells_128 7 rfl (by decide +kernel))
theorem dX5_tells_136 : decode cX5_tells 136 = .ok (.lor, 1) := dc0 dO_129 (rdB.ch sfx_cX5_tells_128 8 rfl (by decide +kernel))
theorem dX5_tells_137 : decode cX5_tells 137 = .ok (.lstore 9, 2) := dcU1 dO_55 (rdU1.ch sfx_cX5_tells_128 9 rfl (by decide +kernel))
theorem dX5_tells_139 : decode cX5_tells 139 = .ok (.iinc 11 1, 3) := dcI dO_132 (rdI.ch sfx_cX5_tells_128 11 rfl (by decide +kernel))
theorem dX5_tells_142 : decode cX5_tells 142 = .ok (.goto (-86), 3) := dcS2 dO_167 (rdS2.ch sfx_cX5_tells_128 14 rfl (by decide +kernel))
theorem dX5_tells_145 : decode cX5_tells 145 = .ok (.lload 9, 2) := dcU1 dO_22 (rdU1.ch sfx_cX5_tells_128 17 rfl (by decide +kernel))
theorem dX5_tells_147 : decode cX5_tells 147 = .ok (.lstore 4, 2) := dcU1 dO_55 (rdU1.ch sfx_cX5_tells_128 19 rfl (by decide +kernel))
theorem dX5_tells_149 : decode cX5_tells 149 = .ok (.iinc 8 1, 3) := dcI dO_132 (rdI.ch sfx_cX5_tells_128 21 rfl (by decide +kernel))
theorem dX5_tells_152 : decode cX5_tells 152 = .ok (.goto (-114), 3) := dcS2 dO_167 (rdS2.ch sfx_cX5_tells_128 24 rfl (by decide +kernel))
theorem dX5_tells_155 : decode cX5_tells 155 = .ok (.lload 6, 2) := dcU1 dO_22 (rdU1.ch sfx_cX5_tells_128 27 rfl (by decide +kernel))
theorem dX5_tells_157 : decode cX5_tells 157 = .ok (.aload_n 0, 1) := dc0 dO_42 (rdB.ch sfx_cX5_tells_128 29 rfl (by decide +kernel))
theorem dX5_tells_158 : decode cX5_tells 158 = .ok (.getfield 27, 3) := dcU2 dO_180 (rdU2.ch sfx_cX5_tells_128 30 rfl (by decide +kernel))
theorem dX5_tells_161 : decode cX5_tells 161 = .ok (.iload_n 1, 1) := dc0 dO_27 (rdB.ch sfx_cX5_tells_128 33 rfl (by decide +kernel))
theorem dX5_tells_162 : decode cX5_tells 162 = .ok (.laload, 1) := dc0 dO_47 (rdB.ch sfx_cX5_tells_128 34 rfl (by decide +kernel))
theorem dX5_tells_163 : decode cX5_tells 163 = .ok (.land, 1) := dc0 dO_127 (rdB.ch sfx_cX5_tells_128 35 rfl (by decide +kernel))
theorem dX5_tells_164 : decode cX5_tells 164 = .ok (.lconst 0, 1) := dc0 dO_9 (rdB.ch sfx_cX5_tells_128 36 rfl (by decide +kernel))
theorem dX5_tells_165 : decode cX5_tells 165 = .ok (.lcmp, 1) := dc0 dO_148 (rdB.ch sfx_cX5_tells_128 37 rfl (by decide +kernel))
theorem dX5_tells_166 : decode cX5_tells 166 = .ok (.ifCond .eq 7, 3) := dcS2 dO_153 (rdS2.ch sfx_cX5_tells_128 38 rfl (by decide +kernel))
theorem dX5_tells_169 : decode cX5_tells 169 = .ok (.iconst 1, 1) := dc0 dO_4 (rdB.ch sfx_cX5_tells_128 41 rfl (by decide +kernel))
theorem dX5_tells_170 : decode cX5_tells 170 = .ok (.goto 4, 3) := dcS2 dO_167 (rdS2.ch sfx_cX5_tells_128 42 rfl (by decide +kernel))
theorem dX5_tells_173 : decode cX5_tells 173 = .ok (.iconst 0, 1) := dc0 dO_3 (rdB.ch sfx_cX5_tells_128 45 rfl (by decide +kernel))
theorem dX5_tells_174 : decode cX5_tells 174 = .ok (.ireturn, 1) := dc0 dO_172 (rdB.ch sfx_cX5_tells_128 46 rfl (by decide +kernel))
end
section
/-! no rows -/
end
section
/-! no rows -/
end
section
/-! no rows -/
end
section
/-! no rows -/
end
section
/-! no rows -/
end
