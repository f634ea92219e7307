theorem vc_X10_firstWrongStep_1 {z366 : Int} (h0 : (20 - z366) < ((0 : Nat) : Int)) (h1 : 0 ≤ z366 ∧ z366 ≤ 19) : False := by omega
theorem vc_X10_firstWrongStep_2 {p2 z366 : Int} (h0 : (z366 + 1) < p2) (h1 : 0 ≤ p2 ∧ p2 ≤ 20) (h2 : 0 ≤ z366 ∧ z366 ≤ 19) : 0 ≤ z366 ∧ z366 ≤ 18 := by omega
theorem vc_X10_firstWrongStep_3 {p2 z366 : Int} (h0 : (z366 + 1) < p2) (h1 : 0 ≤ p2 ∧ p2 ≤ 20) (h2 : 0 ≤ z366 ∧ z366 ≤ 18) : 2 ≤ p2 ∧ p2 ≤ 20 := by omega
theorem vc_X10_firstWrongStep_4 {n1 z389 : Int} (h0 : 0 ≤ z389) (h1 : z389 < n1) (h2 : (-1) ≤ z389 ∧ z389 ≤ 19) : 0 ≤ z389 ∧ z389 ≤ 19 := by omega
theorem vc_X10_firstWrongStep_5 {n1 z389 : Int} (h0 : z389 < n1) (h1 : 0 ≤ z389) (h2 : 0 ≤ z389 ∧ z389 ≤ 19) : z389 < n1 := by omega
theorem vc_X10_firstWrongStep_6 {z367 : Int} (h0 : z367 = 0) (h1 : 0 ≤ z367 ∧ z367 ≤ 1) : 0 ≤ z367 ∧ z367 ≤ 0 := by omega
theorem vc_X10_firstWrongStep_7 {z367 : Int} (h0 : ¬ z367 = 0) (h1 : 0 ≤ z367 ∧ z367 ≤ 0) : False := by omega
theorem vc_X10_firstWrongStep_8 {z404 : Int} (h0 : z404 = 2) (h1 : 0 ≤ z404 ∧ z404 ≤ 3) : 2 ≤ z404 ∧ z404 ≤ 2 := by omega
theorem vc_X10_firstWrongStep_9 {N p2 z366 : Int} (h0 : (20 - z366) < N + 1) (h1 : (z366 + 1) < p2) (h2 : 2 ≤ p2 ∧ p2 ≤ 20) (h3 : 0 ≤ z366 ∧ z366 ≤ 18) : (20 - (z366 + 1)) < N := by omega
theorem vc_X10_firstWrongStep_10 {z404 : Int} (h0 : ¬ z404 = 0) (h1 : ¬ z404 = 2) (h2 : 0 ≤ z404 ∧ z404 ≤ 3) : 1 ≤ z404 ∧ z404 ≤ 3 := by omega
theorem vc_X10_firstWrongStep_11 {z404 : Int} (h0 : z404 = 0) (h1 : ¬ z404 = 2) (h2 : 0 ≤ z404 ∧ z404 ≤ 3) : 0 ≤ z404 ∧ z404 ≤ 0 := by omega
theorem vc_X10_firstWrongStep_12 {z367 : Int} (h0 : ¬ z367 = 0) (h1 : 0 ≤ z367 ∧ z367 ≤ 1) : 1 ≤ z367 ∧ z367 ≤ 1 := by omega
theorem vc_X10_firstWrongStep_13 {z407 : Int} (h0 : z407 = 0) (h1 : 0 ≤ z407 ∧ z407 ≤ 1) : 0 ≤ z407 ∧ z407 ≤ 0 := by omega
theorem vc_X10_firstWrongStep_14 {z367 : Int} (h0 : z367 = 0) (h1 : 1 ≤ z367 ∧ z367 ≤ 1) : False := by omega
theorem vc_X10_firstWrongStep_15 {z407 : Int} (h0 : ¬ z407 = 0) (h1 : 0 ≤ z407 ∧ z407 ≤ 1) : 1 ≤ z407 ∧ z407 ≤ 1 := by omega
theorem vc_X10_firstWrongStep_16 {z404 : Int} (h0 : z404 = 1) (h1 : 0 ≤ z404 ∧ z404 ≤ 3) : 1 ≤ z404 ∧ z404 ≤ 1 := by omega
theorem vc_X10_firstWrongStep_17 {z404 : Int} (h0 : z404 = 2) (h1 : ¬ z404 = 1) (h2 : 0 ≤ z404 ∧ z404 ≤ 3) : 2 ≤ z404 ∧ z404 ≤ 2 := by omega
theorem vc_X10_firstWrongStep_18 {n1 z389 : Int} (h0 : z389 < 0) (h1 : z389 < n1) (h2 : (-1) ≤ z389 ∧ z389 ≤ 19) : (-1) ≤ z389 ∧ z389 ≤ (-1) := by omega
theorem vc_X10_firstWrongStep_19  : (20 - 0) < ((21 : Nat) : Int) := by omega
set_option maxRecDepth 4000 in
set_option maxHeartbeats 4000000 in
theorem c_X10_firstWrongStep {l : Launch} {D : va_G} {c : Nat → ClassId} {H0 : Heap} {sa : Nat × Nat × (Nat → Int32)} {w : mW} {μ : mM} (hw : mWF w) (hT : mT w μ) (hA1 : mAt w 2 2) {p2 : Int} (hp2 : 0 ≤ p2 ∧ p2 ≤ 20) : sC (gG l D c H0 sa) mX10_firstWrongStep 2 0 0 [.ref 6, .ref 2, iv p2] (mk w μ) (qP w μ (fun z => ((-1) ≤ z ∧ z ≤ 19) ∧ True)) := by
  refine sC.of rfl (by decide) (le_t rfl) ?_
  refine mr_lvE (lv' := [(0, .ref 6), (1, .ref 2), (2, iv p2)]) rfl ?_
  refine mr_iconst (pc := 0) (z := 0) dX10_firstWrongStep_0 ?_
  refine mr_istore_n (pc := 1) (lv' := [(3, iv 0), (0, .ref 6), (1, .ref 2), (2, iv p2)]) dX10_firstWrongStep_1 rfl (by decide) rfl ?_
  refine mr_iconst (pc := 2) (z := 0) dX10_firstWrongStep_2 ?_
  refine mr_istore (pc := 3) (lv' := [(4, iv 0), (3, iv 0), (0, .ref 6), (1, .ref 2), (2, iv p2)]) dX10_firstWrongStep_3 (by decide) rfl ?_
  have L368 : ∀ (nL368 : Nat) (z367 z366 : Int), True → (0 ≤ z367 ∧ z367 ≤ 1) → (0 ≤ z366 ∧ z366 ≤ 19) → (20 - z366) < (nL368 : Int) → sV (gG l D c H0 sa) mX10_firstWrongStep (sRm 2 0 0) (sZ (gG l D c H0 sa) 0 0 (qP w μ (fun z => ((-1) ≤ z ∧ z ≤ 19) ∧ True))) 5 [(0, .ref 6), (1, .ref 2), (2, iv p2), (3, iv z367), (4, iv z366)] [] (mk w μ) 0 0 := by
    intro nL368
    induction nL368 with
    | zero => intro z367 z366 _ h369 h370 h374; exact ((vc_X10_firstWrongStep_1 h374 h370)).elim
    | succ nL368 ih375 =>
      intro z367 z366 _ h369 h370 h374
      refine mr_iload (pc := 5) (z := z366) dX10_firstWrongStep_5 rfl ?_
      refine mr_iconst (pc := 7) (z := 1) dX10_firstWrongStep_7 ?_
      refine mr_iadd (pc := 8) (x := z366) (y := 1) dX10_firstWrongStep_8 ?_
      refine mr_iload_n (pc := 9) (z := p2) dX10_firstWrongStep_9 rfl rfl ?_
      refine mr_icmp_ge (pc := 10) (tgt := 121) dX10_firstWrongStep_10 (by decide) (r32 (rAdd (e := 1) (f := 20) h370 (rR (x := 1)) rfl) rfl) (r32 hp2 rfl) (fun h376 => ?_) (fun h376 => ?_)
      · refine mr_iconst (pc := 121) (z := (-1)) dX10_firstWrongStep_121 ?_
        exact mr_iretP dX10_firstWrongStep_122 rfl (le_t rfl) (le_t rfl) ⟨(rW (c := (-1)) (d := 19) (rR (x := (-1))) rfl), trivial⟩
      have h377 : 0 ≤ z366 ∧ z366 ≤ 18 := (vc_X10_firstWrongStep_2 h376 hp2 h370)
      have h378 : 2 ≤ p2 ∧ p2 ≤ 20 := (vc_X10_firstWrongStep_3 h376 hp2 h377)
      refine sv_aload_n (pc := 13) dX10_firstWrongStep_13 rfl rfl ?_
      refine sv_aload_n (pc := 14) dX10_firstWrongStep_14 rfl rfl ?_
      refine mr_iload (pc := 15) (z := z366) dX10_firstWrongStep_15 rfl ?_
      refine la_2 (pc := 17) dX10_firstWrongStep_17 (A_2 hw) hT (rIx (n := 20) h377 rfl) fun z379 q380 h381 => ?_
      refine sv_aload_n (pc := 18) dX10_firstWrongStep_18 rfl rfl ?_
      refine mr_iload (pc := 19) (z := z366) dX10_firstWrongStep_19 rfl ?_
      refine mr_iconst (pc := 21) (z := 1) dX10_firstWrongStep_21 ?_
      refine mr_iadd (pc := 22) (x := z366) (y := 1) dX10_firstWrongStep_22 ?_
      refine la_2 (pc := 23) dX10_firstWrongStep_23 (A_2 hw) hT (rIx (n := 20) (rAdd (e := 1) (f := 19) h377 (rR (x := 1)) rfl) rfl) fun z382 q383 h384 => ?_
      refine mr_cVP (pc := 24) (c_X10_tieBetween hw hT (rW (c := (-2147483648)) (d := 2147483647) h381 rfl) (rW (c := (-2147483648)) (d := 2147483647) h384 rfl)) (gOk _ _ _ _ _) dX10_firstWrongStep_24 (tX10_tieBetween _ _ _ _ _) ⟨wV_X10_tieBetween, wL_X10_tieBetween⟩ wM_X10_109 (gCX10 _ _ _ _ _) rfl (A_6 hw) rfl ⟨le_t rfl, le_t rfl⟩ ⟨le_t rfl, le_t rfl⟩ rfl (le_t rfl) fun z389 h388 => ?_
      refine mr_istore (pc := 27) (lv' := [(5, iv z389), (0, .ref 6), (1, .ref 2), (2, iv p2), (3, iv z367), (4, iv z366)]) dX10_firstWrongStep_27 (by decide) rfl ?_
      refine mr_iload (pc := 29) (z := z389) dX10_firstWrongStep_29 rfl ?_
      refine mr_if_ge (pc := 31) (tgt := 37) dX10_firstWrongStep_31 (by decide) (r32 h388.1 rfl) (fun h390 => ?_) (fun h390 => ?_)
      · have h391 : 0 ≤ z389 ∧ z389 ≤ 19 := (vc_X10_firstWrongStep_4 h390 h388.2.1 h388.1)
        refine sv_aload_n (pc := 37) dX10_firstWrongStep_37 rfl rfl ?_
        refine gf_X10_4 (pc := 38) dX10_firstWrongStep_38 wF_X10_29 (A_6 hw) hT ?_
        refine mr_iload (pc := 41) (z := z389) dX10_firstWrongStep_41 rfl ?_
        refine la_11 (pc := 43) dX10_firstWrongStep_43 (A_11 hw) hT (rIx (n := 20) h391 rfl) (vc_X10_firstWrongStep_5 h388.2.1 h390 h391) fun b392 q393 A394 => ?_
        refine sv_aload_n (pc := 44) dX10_firstWrongStep_44 rfl rfl ?_
        refine gf_X10_4 (pc := 45) dX10_firstWrongStep_45 wF_X10_29 (A_6 hw) hT ?_
        refine mr_iload (pc := 48) (z := z389) dX10_firstWrongStep_48 rfl ?_
        refine lk_11 (pc := 50) dX10_firstWrongStep_50 (A_11 hw) (rIx (n := 20) h391 rfl) q393 ?_
        refine sv_aload_n (pc := 51) dX10_firstWrongStep_51 rfl rfl ?_
        refine mr_iload (pc := 52) (z := z366) dX10_firstWrongStep_52 rfl ?_
        refine lk_2 (pc := 54) dX10_firstWrongStep_54 (A_2 hw) (rIx (n := 20) h377 rfl) q380 ?_
        refine mr_cVP (pc := 55) (c_X9_sideOf hw hT A394 (rW (c := (-2147483648)) (d := 2147483647) h381 rfl)) (gOk _ _ _ _ _) dX10_firstWrongStep_55 (tX9_sideOf _ _ _ _ _) ⟨wV_X9_sideOf, wL_X9_sideOf⟩ wM_X10_112 (gCX9 _ _ _ _ _) rfl A394 rfl ⟨le_t rfl, le_t rfl⟩ ⟨le_t rfl, le_t rfl⟩ rfl (le_t rfl) fun z399 h398 => ?_
        refine mr_cVP (pc := 58) (c_X9_partnerRole hw hT A394 (rW (c := (-2147483648)) (d := 2147483647) h398.1 rfl)) (gOk _ _ _ _ _) dX10_firstWrongStep_58 (tX9_partnerRole _ _ _ _ _) ⟨wV_X9_partnerRole, wL_X9_partnerRole⟩ wM_X10_115 (gCX9 _ _ _ _ _) rfl A394 rfl ⟨le_t rfl, le_t rfl⟩ ⟨le_t rfl, le_t rfl⟩ rfl (le_t rfl) fun z404 h403 => ?_
        refine mr_istore (pc := 61) (lv' := [(6, iv z404), (5, iv z389), (0, .ref 6), (1, .ref 2), (2, iv p2), (3, iv z367), (4, iv z366)]) dX10_firstWrongStep_61 (by decide) rfl ?_
        refine mr_iload (pc := 63) (z := z404) dX10_firstWrongStep_63 rfl ?_
        refine mr_iconst (pc := 65) (z := 1) dX10_firstWrongStep_65 ?_
        have J409 : ∀ (z407 : Int), ((0 ≤ z407 ∧ z407 ≤ 1)) → sV (gG l D c H0 sa) mX10_firstWrongStep (sRm 2 0 0) (sZ (gG l D c H0 sa) 0 0 (qP w μ (fun z => ((-1) ≤ z ∧ z ≤ 19) ∧ True))) 80 [(0, .ref 6), (1, .ref 2), (2, iv p2), (3, iv z367), (4, iv z366), (6, iv z404)] [iv z407] (mk w μ) 0 0 := by
          intro z407 h408
          refine mr_istore (pc := 80) (lv' := [(7, iv z407), (0, .ref 6), (1, .ref 2), (2, iv p2), (3, iv z367), (4, iv z366), (6, iv z404)]) dX10_firstWrongStep_80 (by decide) rfl ?_
          refine mr_iload_n (pc := 82) (z := z367) dX10_firstWrongStep_82 rfl rfl ?_
          refine mr_if_eq (pc := 83) (tgt := 94) dX10_firstWrongStep_83 (by decide) (r32 h369 rfl) (fun h410 => ?_) (fun h410 => ?_)
          · have h411 : 0 ≤ z367 ∧ z367 ≤ 0 := (vc_X10_firstWrongStep_6 h410 h369)
            refine mr_iload_n (pc := 94) (z := z367) dX10_firstWrongStep_94 rfl rfl ?_
            refine mr_if_ne (pc := 95) (tgt := 109) dX10_firstWrongStep_95 (by decide) (r32 h411 rfl) (fun h => ((vc_X10_firstWrongStep_7 h h411)).elim) (fun _ => ?_)
            refine mr_iload (pc := 98) (z := z404) dX10_firstWrongStep_98 rfl ?_
            refine mr_iconst (pc := 100) (z := 2) dX10_firstWrongStep_100 ?_
            refine mr_icmp_eq (pc := 101) (tgt := 109) dX10_firstWrongStep_101 (by decide) (r32 h403.1 rfl) (r32 (rR (x := 2)) rfl) (fun h415 => ?_) (fun h415 => ?_)
            · have h416 : 2 ≤ z404 ∧ z404 ≤ 2 := (vc_X10_firstWrongStep_8 h415 h403.1)
              refine mr_iconst (pc := 109) (z := 1) dX10_firstWrongStep_109 ?_
              refine sv_goto (pc := 110) (tgt := 114) dX10_firstWrongStep_110 (by decide) ?_
              refine mr_istore_n (pc := 114) (lv' := [(3, iv 1), (7, iv z407), (0, .ref 6), (1, .ref 2), (2, iv p2), (4, iv z366), (6, iv z404)]) dX10_firstWrongStep_114 rfl (by decide) rfl ?_
              refine mr_iinc (pc := 115) (lv' := [(4, iv (z366 + 1)), (3, iv 1), (7, iv z407), (0, .ref 6), (1, .ref 2), (2, iv p2), (6, iv z404)]) dX10_firstWrongStep_115 rfl (by decide) rfl ?_
              refine sv_goto (pc := 118) (tgt := 5) dX10_firstWrongStep_118 (by decide) ?_
              refine mr_lvS (lv' := [(0, .ref 6), (1, .ref 2), (2, iv p2), (3, iv 1), (4, iv (z366 + 1))]) (List.forall_mem_cons.mpr ⟨rfl, List.forall_mem_cons.mpr ⟨rfl, List.forall_mem_cons.mpr ⟨rfl, List.forall_mem_cons.mpr ⟨rfl, List.forall_mem_cons.mpr ⟨rfl, fun _ h => absurd h List.not_mem_nil⟩⟩⟩⟩⟩) ?_
              exact ih375 1 (z366 + 1) trivial (rW (c := 0) (d := 1) (rR (x := 1)) rfl) (rW (c := 0) (d := 19) (rAdd (e := 1) (f := 19) h377 (rR (x := 1)) rfl) rfl) (vc_X10_firstWrongStep_9 (nS h374) h376 h378 h377)
            refine mr_iload (pc := 104) (z := z404) dX10_firstWrongStep_104 rfl ?_
            refine mr_if_ne (pc := 106) (tgt := 113) dX10_firstWrongStep_106 (by decide) (r32 h403.1 rfl) (fun h419 => ?_) (fun h419 => ?_)
            · have h420 : 1 ≤ z404 ∧ z404 ≤ 3 := (vc_X10_firstWrongStep_10 h419 h415 h403.1)
              refine mr_iconst (pc := 113) (z := 0) dX10_firstWrongStep_113 ?_
              refine mr_istore_n (pc := 114) (lv' := [(3, iv 0), (7, iv z407), (0, .ref 6), (1, .ref 2), (2, iv p2), (4, iv z366), (6, iv z404)]) dX10_firstWrongStep_114 rfl (by decide) rfl ?_
              refine mr_iinc (pc := 115) (lv' := [(4, iv (z366 + 1)), (3, iv 0), (7, iv z407), (0, .ref 6), (1, .ref 2), (2, iv p2), (6, iv z404)]) dX10_firstWrongStep_115 rfl (by decide) rfl ?_
              refine sv_goto (pc := 118) (tgt := 5) dX10_firstWrongStep_118 (by decide) ?_
              refine mr_lvS (lv' := [(0, .ref 6), (1, .ref 2), (2, iv p2), (3, iv 0), (4, iv (z366 + 1))]) (List.forall_mem_cons.mpr ⟨rfl, List.forall_mem_cons.mpr ⟨rfl, List.forall_mem_cons.mpr ⟨rfl, List.forall_mem_cons.mpr ⟨rfl, List.forall_mem_cons.mpr ⟨rfl, fun _ h => absurd h List.not_mem_nil⟩⟩⟩⟩⟩) ?_
              exact ih375 0 (z366 + 1) trivial (rW (c := 0) (d := 1) (rR (x := 0)) rfl) (rW (c := 0) (d := 19) (rAdd (e := 1) (f := 19) h377 (rR (x := 1)) rfl) rfl) (vc_X10_firstWrongStep_9 (nS h374) h376 h378 h377)
            have h421 : 0 ≤ z404 ∧ z404 ≤ 0 := (vc_X10_firstWrongStep_11 h419 h415 h403.1)
            refine mr_iconst (pc := 109) (z := 1) dX10_firstWrongStep_109 ?_
            refine sv_goto (pc := 110) (tgt := 114) dX10_firstWrongStep_110 (by decide) ?_
            refine mr_istore_n (pc := 114) (lv' := [(3, iv 1), (7, iv z407), (0, .ref 6), (1, .ref 2), (2, iv p2), (4, iv z366), (6, iv z404)]) dX10_firstWrongStep_114 rfl (by decide) rfl ?_
            refine mr_iinc (pc := 115) (lv' := [(4, iv (z366 + 1)), (3, iv 1), (7, iv z407), (0, .ref 6), (1, .ref 2), (2, iv p2), (6, iv z404)]) dX10_firstWrongStep_115 rfl (by decide) rfl ?_
            refine sv_goto (pc := 118) (tgt := 5) dX10_firstWrongStep_118 (by decide) ?_
            refine mr_lvS (lv' := [(0, .ref 6), (1, .ref 2), (2, iv p2), (3, iv 1), (4, iv (z366 + 1))]) (List.forall_mem_cons.mpr ⟨rfl, List.forall_mem_cons.mpr ⟨rfl, List.forall_mem_cons.mpr ⟨rfl, List.forall_mem_cons.mpr ⟨rfl, List.forall_mem_cons.mpr ⟨rfl, fun _ h => absurd h List.not_mem_nil⟩⟩⟩⟩⟩) ?_
            exact ih375 1 (z366 + 1) trivial (rW (c := 0) (d := 1) (rR (x := 1)) rfl) (rW (c := 0) (d := 19) (rAdd (e := 1) (f := 19) h377 (rR (x := 1)) rfl) rfl) (vc_X10_firstWrongStep_9 (nS h374) h376 h378 h377)
          have h422 : 1 ≤ z367 ∧ z367 ≤ 1 := (vc_X10_firstWrongStep_12 h410 h369)
          refine mr_iload (pc := 86) (z := z407) dX10_firstWrongStep_86 rfl ?_
          refine mr_if_eq (pc := 88) (tgt := 94) dX10_firstWrongStep_88 (by decide) (r32 h408 rfl) (fun h423 => ?_) (fun h423 => ?_)
          · have h424 : 0 ≤ z407 ∧ z407 ≤ 0 := (vc_X10_firstWrongStep_13 h423 h408)
            refine mr_iload_n (pc := 94) (z := z367) dX10_firstWrongStep_94 rfl rfl ?_
            refine mr_if_ne (pc := 95) (tgt := 109) dX10_firstWrongStep_95 (by decide) (r32 h422 rfl) (fun _ => ?_) (fun h => ((vc_X10_firstWrongStep_14 h h422)).elim)
            refine mr_iconst (pc := 109) (z := 1) dX10_firstWrongStep_109 ?_
            refine sv_goto (pc := 110) (tgt := 114) dX10_firstWrongStep_110 (by decide) ?_
            refine mr_istore_n (pc := 114) (lv' := [(3, iv 1), (7, iv z407), (0, .ref 6), (1, .ref 2), (2, iv p2), (4, iv z366), (6, iv z404)]) dX10_firstWrongStep_114 rfl (by decide) rfl ?_
            refine mr_iinc (pc := 115) (lv' := [(4, iv (z366 + 1)), (3, iv 1), (7, iv z407), (0, .ref 6), (1, .ref 2), (2, iv p2), (6, iv z404)]) dX10_firstWrongStep_115 rfl (by decide) rfl ?_
            refine sv_goto (pc := 118) (tgt := 5) dX10_firstWrongStep_118 (by decide) ?_
            refine mr_lvS (lv' := [(0, .ref 6), (1, .ref 2), (2, iv p2), (3, iv 1), (4, iv (z366 + 1))]) (List.forall_mem_cons.mpr ⟨rfl, List.forall_mem_cons.mpr ⟨rfl, List.forall_mem_cons.mpr ⟨rfl, List.forall_mem_cons.mpr ⟨rfl, List.forall_mem_cons.mpr ⟨rfl, fun _ h => absurd h List.not_mem_nil⟩⟩⟩⟩⟩) ?_
            exact ih375 1 (z366 + 1) trivial (rW (c := 0) (d := 1) (rR (x := 1)) rfl) (rW (c := 0) (d := 19) (rAdd (e := 1) (f := 19) h377 (rR (x := 1)) rfl) rfl) (vc_X10_firstWrongStep_9 (nS h374) h376 h378 h377)
          have h425 : 1 ≤ z407 ∧ z407 ≤ 1 := (vc_X10_firstWrongStep_15 h423 h408)
          refine mr_iload (pc := 91) (z := z366) dX10_firstWrongStep_91 rfl ?_
          exact mr_iretP dX10_firstWrongStep_93 rfl (le_t rfl) (le_t rfl) ⟨(rW (c := (-1)) (d := 19) h377 rfl), trivial⟩
        refine mr_icmp_eq (pc := 66) (tgt := 75) dX10_firstWrongStep_66 (by decide) (r32 h403.1 rfl) (r32 (rR (x := 1)) rfl) (fun h426 => ?_) (fun h426 => ?_)
        · have h427 : 1 ≤ z404 ∧ z404 ≤ 1 := (vc_X10_firstWrongStep_16 h426 h403.1)
          refine mr_iconst (pc := 75) (z := 1) dX10_firstWrongStep_75 ?_
          refine sv_goto (pc := 76) (tgt := 80) dX10_firstWrongStep_76 (by decide) ?_
          refine mr_lvS (lv' := [(0, .ref 6), (1, .ref 2), (2, iv p2), (3, iv z367), (4, iv z366), (6, iv z404)]) (List.forall_mem_cons.mpr ⟨rfl, List.forall_mem_cons.mpr ⟨rfl, List.forall_mem_cons.mpr ⟨rfl, List.forall_mem_cons.mpr ⟨rfl, List.forall_mem_cons.mpr ⟨rfl, List.forall_mem_cons.mpr ⟨rfl, fun _ h => absurd h List.not_mem_nil⟩⟩⟩⟩⟩⟩) ?_
          exact J409 1 (rW (c := 0) (d := 1) (rR (x := 1)) rfl)
        refine mr_iload (pc := 69) (z := z404) dX10_firstWrongStep_69 rfl ?_
        refine mr_iconst (pc := 71) (z := 2) dX10_firstWrongStep_71 ?_
        refine mr_icmp_ne (pc := 72) (tgt := 79) dX10_firstWrongStep_72 (by decide) (r32 h403.1 rfl) (r32 (rR (x := 2)) rfl) (fun h428 => ?_) (fun h428 => ?_)
        · refine mr_iconst (pc := 79) (z := 0) dX10_firstWrongStep_79 ?_
          refine mr_lvS (lv' := [(0, .ref 6), (1, .ref 2), (2, iv p2), (3, iv z367), (4, iv z366), (6, iv z404)]) (List.forall_mem_cons.mpr ⟨rfl, List.forall_mem_cons.mpr ⟨rfl, List.forall_mem_cons.mpr ⟨rfl, List.forall_mem_cons.mpr ⟨rfl, List.forall_mem_cons.mpr ⟨rfl, List.forall_mem_cons.mpr ⟨rfl, fun _ h => absurd h List.not_mem_nil⟩⟩⟩⟩⟩⟩) ?_
          exact J409 0 (rW (c := 0) (d := 1) (rR (x := 0)) rfl)
        have h429 : 2 ≤ z404 ∧ z404 ≤ 2 := (vc_X10_firstWrongStep_17 h428 h426 h403.1)
        refine mr_iconst (pc := 75) (z := 1) dX10_firstWrongStep_75 ?_
        refine sv_goto (pc := 76) (tgt := 80) dX10_firstWrongStep_76 (by decide) ?_
        refine mr_lvS (lv' := [(0, .ref 6), (1, .ref 2), (2, iv p2), (3, iv z367), (4, iv z366), (6, iv z404)]) (List.forall_mem_cons.mpr ⟨rfl, List.forall_mem_cons.mpr ⟨rfl, List.forall_mem_cons.mpr ⟨rfl, List.forall_mem_cons.mpr ⟨rfl, List.forall_mem_cons.mpr ⟨rfl, List.forall_mem_cons.mpr ⟨rfl, fun _ h => absurd h List.not_mem_nil⟩⟩⟩⟩⟩⟩) ?_
        exact J409 1 (rW (c := 0) (d := 1) (rR (x := 1)) rfl)
      have h430 : (-1) ≤ z389 ∧ z389 ≤ (-1) := (vc_X10_firstWrongStep_18 h390 h388.2.1 h388.1)
      refine mr_iload (pc := 34) (z := z366) dX10_firstWrongStep_34 rfl ?_
      exact mr_iretP dX10_firstWrongStep_36 rfl (le_t rfl) (le_t rfl) ⟨(rW (c := (-1)) (d := 19) h377 rfl), trivial⟩
  refine mr_lvS (lv' := [(0, .ref 6), (1, .ref 2), (2, iv p2), (3, iv 0), (4, iv 0)]) (List.forall_mem_cons.mpr ⟨rfl, List.forall_mem_cons.mpr ⟨rfl, List.forall_mem_cons.mpr ⟨rfl, List.forall_mem_cons.mpr ⟨rfl, List.forall_mem_cons.mpr ⟨rfl, fun _ h => absurd h List.not_mem_nil⟩⟩⟩⟩⟩) ?_
  exact L368 21 0 0 trivial (rW (c := 0) (d := 1) (rR (x := 0)) rfl) (rW (c := 0) (d := 19) (rR (x := 0)) rfl) vc_X10_firstWrongStep_19
theorem vc_X10_verdictOn_1 {z782 : Int} (h0 : (31 - z782) < ((0 : Nat) : Int)) (h1 : 0 ≤ z782 ∧ z782 ≤ 30) : False := by omega
theorem vc_X10_verdictOn_2 {z782 z792 : Int} (h0 : z782 < z792) (h1 : 0 ≤ z782 ∧ z782 ≤ 30) (h2 : 0 ≤ z792 ∧ z792 ≤ 30) : 0 ≤ z782 ∧ z782 ≤ 29 := by omega
theorem vc_X10_verdictOn_3 {z782 z792 : Int} (h0 : z782 < z792) (h1 : 0 ≤ z782 ∧ z782 ≤ 29) (h2 : 0 ≤ z792 ∧ z792 ≤ 30) : 1 ≤ z792 ∧ z792 ≤ 30 := by omega
theorem vc_X10_verdictOn_4 {z808 : Int} (h0 : z808 = 0) (h1 : 0 ≤ z808 ∧ z808 ≤ 1) : 0 ≤ z808 ∧ z808 ≤ 0 := by omega
theorem vc_X10_verdictOn_5 {N z782 z792 : Int} (h0 : (31 - z782) < N + 1) (h1 : z782 < z792) (h2 : 0 ≤ z782 ∧ z782 ≤ 29) (h3 : 1 ≤ z792 ∧ z792 ≤ 30) : (31 - (z782 + 1)) < N := by omega
theorem vc_X10_verdictOn_6 {z808 : Int} (h0 : ¬ z808 = 0) (h1 : 0 ≤ z808 ∧ z808 ≤ 1) : 1 ≤ z808 ∧ z808 ≤ 1 := by omega
theorem vc_X10_verdictOn_7 {z822 : Int} (h0 : z822 = 0) (h1 : 0 ≤ z822 ∧ z822 ≤ 1) : 0 ≤ z822 ∧ z822 ≤ 0 := by omega
theorem vc_X10_verdictOn_8 {z822 : Int} (h0 : ¬ z822 = 0) (h1 : 0 ≤ z822 ∧ z822 ≤ 1) : 1 ≤ z822 ∧ z822 ≤ 1 := by omega
theorem vc_X10_verdictOn_9 {z848 : Int} (h0 : ¬ z848 = 0) (h1 : 0 ≤ z848 ∧ z848 ≤ 1) : 1 ≤ z848 ∧ z848 ≤ 1 := by omega
theorem vc_X10_verdictOn_10 {z831 z863 : Int} (h0 : z863 < z831) (h1 : 0 ≤ z831 ∧ z831 ≤ 32) (h2 : (-2147483648) ≤ z863 ∧ z863 ≤ 2147483647) : (-2147483648) ≤ z863 ∧ z863 ≤ 31 := by omega
theorem vc_X10_verdictOn_11 {z831 z863 : Int} (h0 : z831 ≤ z863) (h1 : 0 ≤ z831 ∧ z831 ≤ 32) (h2 : (-2147483648) ≤ z863 ∧ z863 ≤ 2147483647) : 0 ≤ z863 ∧ z863 ≤ 2147483647 := by omega
theorem vc_X10_verdictOn_12 {z848 : Int} (h0 : z848 = 0) (h1 : 0 ≤ z848 ∧ z848 ≤ 1) : 0 ≤ z848 ∧ z848 ≤ 0 := by omega
theorem vc_X10_verdictOn_13 {z828 z831 : Int} (h0 : z831 < z828) (h1 : 0 ≤ z828 ∧ z828 ≤ 32) (h2 : 0 ≤ z831 ∧ z831 ≤ 32) : 1 ≤ z828 ∧ z828 ≤ 32 := by omega
theorem vc_X10_verdictOn_14 {z828 z831 : Int} (h0 : z831 < z828) (h1 : 1 ≤ z828 ∧ z828 ≤ 32) (h2 : 0 ≤ z831 ∧ z831 ≤ 32) : 0 ≤ z831 ∧ z831 ≤ 31 := by omega
theorem vc_X10_verdictOn_15 {p4 z811 : Int} (h0 : p4 < z811) (h1 : (-2147483648) ≤ p4 ∧ p4 ≤ 2147483647) (h2 : (-2147483648) ≤ z811 ∧ z811 ≤ 2147483647) : (-2147483647) ≤ z811 ∧ z811 ≤ 2147483647 := by omega
theorem vc_X10_verdictOn_16 {p4 z811 : Int} (h0 : p4 < z811) (h1 : (-2147483648) ≤ p4 ∧ p4 ≤ 2147483647) (h2 : (-2147483647) ≤ z811 ∧ z811 ≤ 2147483647) : (-2147483648) ≤ p4 ∧ p4 ≤ 2147483646 := by omega
theorem vc_X10_verdictOn_17 {z889 : Int} (h0 : z889 = (-1)) (h1 : (-2147483648) ≤ z889 ∧ z889 ≤ 2147483647) : (-1) ≤ z889 ∧ z889 ≤ (-1) := by omega
theorem vc_X10_verdictOn_18 {p4 z811 z889 : Int} (h0 : p4 < z889) (h1 : z811 ≤ p4) (h2 : ¬ z889 = (-1)) (h3 : (-2147483648) ≤ p4 ∧ p4 ≤ 2147483647) (h4 : (-2147483648) ≤ z811 ∧ z811 ≤ 2147483647) (h5 : (-2147483648) ≤ z889 ∧ z889 ≤ 2147483647) : (-2147483648) ≤ p4 ∧ p4 ≤ 2147483646 := by omega
theorem vc_X10_verdictOn_19 {p4 z811 z889 : Int} (h0 : p4 < z889) (h1 : z811 ≤ p4) (h2 : ¬ z889 = (-1)) (h3 : (-2147483648) ≤ p4 ∧ p4 ≤ 2147483646) (h4 : (-2147483648) ≤ z811 ∧ z811 ≤ 2147483647) (h5 : (-2147483648) ≤ z889 ∧ z889 ≤ 2147483647) : (-2147483647) ≤ z889 ∧ z889 ≤ 2147483647 := by omega
theorem vc_X10_verdictOn_20 {p3 z798 : Int} (h0 : p3 < z798) (h1 : (-2147483648) ≤ p3 ∧ p3 ≤ 2147483647) (h2 : (-2147483648) ≤ z798 ∧ z798 ≤ 2147483647) : (-2147483647) ≤ z798 ∧ z798 ≤ 2147483647 := by omega
theorem vc_X10_verdictOn_21 {p3 z798 : Int} (h0 : p3 < z798) (h1 : (-2147483648) ≤ p3 ∧ p3 ≤ 2147483647) (h2 : (-2147483647) ≤ z798 ∧ z798 ≤ 2147483647) : (-2147483648) ≤ p3 ∧ p3 ≤ 2147483646 := by omega
theorem vc_X10_verdictOn_22 {p3 z798 z900 : Int} (h0 : p3 < z900) (h1 : z798 ≤ p3) (h2 : (-2147483648) ≤ p3 ∧ p3 ≤ 2147483647) (h3 : (-2147483648) ≤ z798 ∧ z798 ≤ 2147483647) (h4 : (-2147483648) ≤ z900 ∧ z900 ≤ 2147483647) : (-2147483648) ≤ p3 ∧ p3 ≤ 2147483646 := by omega
theorem vc_X10_verdictOn_23 {p3 z798 z900 : Int} (h0 : p3 < z900) (h1 : z798 ≤ p3) (h2 : (-2147483648) ≤ p3 ∧ p3 ≤ 2147483646) (h3 : (-2147483648) ≤ z798 ∧ z798 ≤ 2147483647) (h4 : (-2147483648) ≤ z900 ∧ z900 ≤ 2147483647) : (-2147483647) ≤ z900 ∧ z900 ≤ 2147483647 := by omega
theorem vc_X10_verdictOn_24  : (31 - 0) < ((32 : Nat) : Int) := by omega
set_option maxRecDepth 4000 in
set_option maxHeartbeats 4000000 in
theorem c_X10_verdictOn {l : Launch} {D : va_G} {c : Nat → ClassId} {H0 : Heap} {sa : Nat × Nat × (Nat → Int32)} {w : mW} {μ : mM} (hw : mWF w) (hT : mT w μ) {p1 : Int} (hp1 : 0 ≤ p1 ∧ p1 ≤ 9) {p2 : Int} (hp2 : (-2147483648) ≤ p2 ∧ p2 ≤ 2147483647) {p3 : Int} (hp3 : (-2147483648) ≤ p3 ∧ p3 ≤ 2147483647) {p4 : Int} (hp4 : (-2147483648) ≤ p4 ∧ p4 ≤ 2147483647) : sC (gG l D c H0 sa) mX10_verdictOn 1 0 0 [.ref 6, iv p1, iv p2, iv p3, iv p4] (mk w μ) (qP w μ (fun z => (0 ≤ z ∧ z ≤ 2) ∧ True)) := by
  refine sC.of rfl (by decide) (le_t rfl) ?_
  refine mr_lvE (lv' := [(0, .ref 6), (1, iv p1), (2, iv p2), (3, iv p3), (4, iv p4)]) rfl ?_
  refine mr_iconst (pc := 0) (z := 2) dX10_verdictOn_0 ?_
  refine mr_istore (pc := 1) (lv' := [(5, iv 2), (0, .ref 6), (1, iv p1), (2, iv p2), (3, iv p3), (4, iv p4)]) dX10_verdictOn_1 (by decide) rfl ?_
  refine mr_iconst (pc := 3) (z := 0) dX10_verdictOn_3 ?_
  refine mr_istore (pc := 4) (lv' := [(6, iv 0), (5, iv 2), (0, .ref 6), (1, iv p1), (2, iv p2), (3, iv p3), (4, iv p4)]) dX10_verdictOn_4 (by decide) rfl ?_
  have L784 : ∀ (nL784 : Nat) (z783 z782 : Int), True → (0 ≤ z783 ∧ z783 ≤ 2) → (0 ≤ z782 ∧ z782 ≤ 30) → (31 - z782) < (nL784 : Int) → sV (gG l D c H0 sa) mX10_verdictOn (sRm 1 0 0) (sZ (gG l D c H0 sa) 0 0 (qP w μ (fun z => (0 ≤ z ∧ z ≤ 2) ∧ True))) 6 [(0, .ref 6), (1, iv p1), (2, iv p2), (3, iv p3), (4, iv p4), (5, iv z783), (6, iv z782)] [] (mk w μ) 0 0 := by
    intro nL784
    induction nL784 with
    | zero => intro z783 z782 _ h785 h786 h790; exact ((vc_X10_verdictOn_1 h790 h786)).elim
    | succ nL784 ih791 =>
      intro z783 z782 _ h785 h786 h790
      refine mr_iload (pc := 6) (z := z782) dX10_verdictOn_6 rfl ?_
      refine sv_aload_n (pc := 8) dX10_verdictOn_8 rfl rfl ?_
      refine gf_X10_17 (pc := 9) dX10_verdictOn_9 wF_X10_118 (A_6 hw) hT fun z792 q793 h794 => ?_
      refine mr_icmp_ge (pc := 12) (tgt := 198) dX10_verdictOn_12 (by decide) (r32 h786 rfl) (r32 h794 rfl) (fun h795 => ?_) (fun h795 => ?_)
      · refine mr_iload (pc := 198) (z := z783) dX10_verdictOn_198 rfl ?_
        exact mr_iretP dX10_verdictOn_200 rfl (le_t rfl) (le_t rfl) ⟨h785, trivial⟩
      have h796 : 0 ≤ z782 ∧ z782 ≤ 29 := (vc_X10_verdictOn_2 h795 h786 h794)
      have h797 : 1 ≤ z792 ∧ z792 ≤ 30 := (vc_X10_verdictOn_3 h795 h796 h794)
      refine sv_aload_n (pc := 15) dX10_verdictOn_15 rfl rfl ?_
      refine gf_X10_10 (pc := 16) dX10_verdictOn_16 wF_X10_48 (A_6 hw) hT ?_
      refine mr_iload (pc := 19) (z := z782) dX10_verdictOn_19 rfl ?_
      refine la_17 (pc := 21) dX10_verdictOn_21 (A_17 hw) hT (rIx (n := 30) h796 rfl) fun z798 q799 h800 => ?_
      refine mr_iload_n (pc := 22) (z := p3) dX10_verdictOn_22 rfl rfl ?_
      have J810 : ∀ (z808 : Int), ((0 ≤ z808 ∧ z808 ≤ 1)) → sV (gG l D c H0 sa) mX10_verdictOn (sRm 1 0 0) (sZ (gG l D c H0 sa) 0 0 (qP w μ (fun z => (0 ≤ z ∧ z ≤ 2) ∧ True))) 42 [(0, .ref 6), (1, iv p1), (2, iv p2), (3, iv p3), (4, iv p4), (5, iv z783), (6, iv z782)] [iv z808] (mk w μ) 0 0 := by
        intro z808 h809
        refine mr_istore (pc := 42) (lv' := [(7, iv z808), (0, .ref 6), (1, iv p1), (2, iv p2), (3, iv p3), (4, iv p4), (5, iv z783), (6, iv z782)]) dX10_verdictOn_42 (by decide) rfl ?_
        refine sv_aload_n (pc := 44) dX10_verdictOn_44 rfl rfl ?_
        refine gf_X10_12 (pc := 45) dX10_verdictOn_45 wF_X10_54 (A_6 hw) hT ?_
        refine mr_iload (pc := 48) (z := z782) dX10_verdictOn_48 rfl ?_
        refine la_19 (pc := 50) dX10_verdictOn_50 (A_19 hw) hT (rIx (n := 30) h796 rfl) fun z811 q812 h813 => ?_
        refine mr_iload (pc := 51) (z := p4) dX10_verdictOn_51 rfl ?_
        have J824 : ∀ (z822 : Int), ((0 ≤ z822 ∧ z822 ≤ 1)) → sV (gG l D c H0 sa) mX10_verdictOn (sRm 1 0 0) (sZ (gG l D c H0 sa) 0 0 (qP w μ (fun z => (0 ≤ z ∧ z ≤ 2) ∧ True))) 84 [(0, .ref 6), (1, iv p1), (2, iv p2), (3, iv p3), (4, iv p4), (5, iv z783), (6, iv z782), (7, iv z808)] [iv z822] (mk w μ) 0 0 := by
          intro z822 h823
          refine mr_istore (pc := 84) (lv' := [(8, iv z822), (0, .ref 6), (1, iv p1), (2, iv p2), (3, iv p3), (4, iv p4), (5, iv z783), (6, iv z782), (7, iv z808)]) dX10_verdictOn_84 (by decide) rfl ?_
          refine sv_aload_n (pc := 86) dX10_verdictOn_86 rfl rfl ?_
          refine gf_X10_7 (pc := 87) dX10_verdictOn_87 wF_X10_39 (A_6 hw) hT ?_
          refine mr_iload (pc := 90) (z := z782) dX10_verdictOn_90 rfl ?_
          refine la_14 (pc := 92) dX10_verdictOn_92 (A_14 hw) hT (rIx (n := 30) h796 rfl) fun z825 q826 h827 => ?_
          refine mr_istore (pc := 93) (lv' := [(9, iv z825), (8, iv z822), (0, .ref 6), (1, iv p1), (2, iv p2), (3, iv p3), (4, iv p4), (5, iv z783), (6, iv z782), (7, iv z808)]) dX10_verdictOn_93 (by decide) rfl ?_
          refine sv_aload_n (pc := 95) dX10_verdictOn_95 rfl rfl ?_
          refine gf_X10_1 (pc := 96) dX10_verdictOn_96 wF_X10_15 (A_6 hw) hT ?_
          refine mr_iload (pc := 99) (z := z825) dX10_verdictOn_99 rfl ?_
          refine la_8 (pc := 101) dX10_verdictOn_101 (A_8 hw) hT (rIx (n := 10) h827 rfl) fun z828 q829 h830 => ?_
          refine sv_aload_n (pc := 102) dX10_verdictOn_102 rfl rfl ?_
          refine gf_X10_1 (pc := 103) dX10_verdictOn_103 wF_X10_15 (A_6 hw) hT ?_
          refine mr_iload_n (pc := 106) (z := p1) dX10_verdictOn_106 rfl rfl ?_
          refine la_8 (pc := 107) dX10_verdictOn_107 (A_8 hw) hT (rIx (n := 10) hp1 rfl) fun z831 q832 h833 => ?_
          have J850 : ∀ (z848 : Int), ((0 ≤ z848 ∧ z848 ≤ 1)) → sV (gG l D c H0 sa) mX10_verdictOn (sRm 1 0 0) (sZ (gG l D c H0 sa) 0 0 (qP w μ (fun z => (0 ≤ z ∧ z ≤ 2) ∧ True))) 140 [(0, .ref 6), (1, iv p1), (2, iv p2), (3, iv p3), (4, iv p4), (5, iv z783), (6, iv z782), (7, iv z808), (8, iv z822)] [iv z848] (mk w μ) 0 0 := by
            intro z848 h849
            refine mr_istore (pc := 140) (lv' := [(10, iv z848), (0, .ref 6), (1, iv p1), (2, iv p2), (3, iv p3), (4, iv p4), (5, iv z783), (6, iv z782), (7, iv z808), (8, iv z822)]) dX10_verdictOn_140 (by decide) rfl ?_
            refine mr_iload (pc := 142) (z := z808) dX10_verdictOn_142 rfl ?_
            refine mr_if_eq (pc := 144) (tgt := 192) dX10_verdictOn_144 (by decide) (r32 h809 rfl) (fun h851 => ?_) (fun h851 => ?_)
            · have h852 : 0 ≤ z808 ∧ z808 ≤ 0 := (vc_X10_verdictOn_4 h851 h809)
              refine mr_iinc (pc := 192) (lv' := [(6, iv (z782 + 1)), (10, iv z848), (0, .ref 6), (1, iv p1), (2, iv p2), (3, iv p3), (4, iv p4), (5, iv z783), (7, iv z808), (8, iv z822)]) dX10_verdictOn_192 rfl (by decide) rfl ?_
              refine sv_goto (pc := 195) (tgt := 6) dX10_verdictOn_195 (by decide) ?_
              refine mr_lvS (lv' := [(0, .ref 6), (1, iv p1), (2, iv p2), (3, iv p3), (4, iv p4), (5, iv z783), (6, iv (z782 + 1))]) (List.forall_mem_cons.mpr ⟨rfl, List.forall_mem_cons.mpr ⟨rfl, List.forall_mem_cons.mpr ⟨rfl, List.forall_mem_cons.mpr ⟨rfl, List.forall_mem_cons.mpr ⟨rfl, List.forall_mem_cons.mpr ⟨rfl, List.forall_mem_cons.mpr ⟨rfl, fun _ h => absurd h List.not_mem_nil⟩⟩⟩⟩⟩⟩⟩) ?_
              exact ih791 z783 (z782 + 1) trivial h785 (rW (c := 0) (d := 30) (rAdd (e := 1) (f := 30) h796 (rR (x := 1)) rfl) rfl) (vc_X10_verdictOn_5 (nS h790) h795 h796 h797)
            have h853 : 1 ≤ z808 ∧ z808 ≤ 1 := (vc_X10_verdictOn_6 h851 h809)
            refine mr_iload (pc := 147) (z := z822) dX10_verdictOn_147 rfl ?_
            refine mr_if_eq (pc := 149) (tgt := 192) dX10_verdictOn_149 (by decide) (r32 h823 rfl) (fun h854 => ?_) (fun h854 => ?_)
            · have h855 : 0 ≤ z822 ∧ z822 ≤ 0 := (vc_X10_verdictOn_7 h854 h823)
              refine mr_iinc (pc := 192) (lv' := [(6, iv (z782 + 1)), (10, iv z848), (0, .ref 6), (1, iv p1), (2, iv p2), (3, iv p3), (4, iv p4), (5, iv z783), (7, iv z808), (8, iv z822)]) dX10_verdictOn_192 rfl (by decide) rfl ?_
              refine sv_goto (pc := 195) (tgt := 6) dX10_verdictOn_195 (by decide) ?_
              refine mr_lvS (lv' := [(0, .ref 6), (1, iv p1), (2, iv p2), (3, iv p3), (4, iv p4), (5, iv z783), (6, iv (z782 + 1))]) (List.forall_mem_cons.mpr ⟨rfl, List.forall_mem_cons.mpr ⟨rfl, List.forall_mem_cons.mpr ⟨rfl, List.forall_mem_cons.mpr ⟨rfl, List.forall_mem_cons.mpr ⟨rfl, List.forall_mem_cons.mpr ⟨rfl, List.forall_mem_cons.mpr ⟨rfl, fun _ h => absurd h List.not_mem_nil⟩⟩⟩⟩⟩⟩⟩) ?_
              exact ih791 z783 (z782 + 1) trivial h785 (rW (c := 0) (d := 30) (rAdd (e := 1) (f := 30) h796 (rR (x := 1)) rfl) rfl) (vc_X10_verdictOn_5 (nS h790) h795 h796 h797)
            have h856 : 1 ≤ z822 ∧ z822 ≤ 1 := (vc_X10_verdictOn_8 h854 h823)
            refine mr_iload (pc := 152) (z := z848) dX10_verdictOn_152 rfl ?_
            refine mr_if_ne (pc := 154) (tgt := 160) dX10_verdictOn_154 (by decide) (r32 h849 rfl) (fun h857 => ?_) (fun h857 => ?_)
            · have h858 : 1 ≤ z848 ∧ z848 ≤ 1 := (vc_X10_verdictOn_9 h857 h849)
              refine sv_aload_n (pc := 160) dX10_verdictOn_160 rfl rfl ?_
              refine gf_X10_9 (pc := 161) dX10_verdictOn_161 wF_X10_45 (A_6 hw) hT ?_
              refine mr_iload (pc := 164) (z := z782) dX10_verdictOn_164 rfl ?_
              refine la_16 (pc := 166) dX10_verdictOn_166 (A_16 hw) hT (rIx (n := 30) h796 rfl) fun z859 q860 h861 => ?_
              refine mr_iload_n (pc := 167) (z := p2) dX10_verdictOn_167 rfl rfl ?_
              refine mr_icmp_ne (pc := 168) (tgt := 189) dX10_verdictOn_168 (by decide) h861 hp2 (fun h862 => ?_) (fun h862 => ?_)
              · refine mr_iconst (pc := 189) (z := 0) dX10_verdictOn_189 ?_
                refine mr_istore (pc := 190) (lv' := [(5, iv 0), (10, iv z848), (0, .ref 6), (1, iv p1), (2, iv p2), (3, iv p3), (4, iv p4), (6, iv z782), (7, iv z808), (8, iv z822)]) dX10_verdictOn_190 (by decide) rfl ?_
                refine mr_iinc (pc := 192) (lv' := [(6, iv (z782 + 1)), (5, iv 0), (10, iv z848), (0, .ref 6), (1, iv p1), (2, iv p2), (3, iv p3), (4, iv p4), (7, iv z808), (8, iv z822)]) dX10_verdictOn_192 rfl (by decide) rfl ?_
                refine sv_goto (pc := 195) (tgt := 6) dX10_verdictOn_195 (by decide) ?_
                refine mr_lvS (lv' := [(0, .ref 6), (1, iv p1), (2, iv p2), (3, iv p3), (4, iv p4), (5, iv 0), (6, iv (z782 + 1))]) (List.forall_mem_cons.mpr ⟨rfl, List.forall_mem_cons.mpr ⟨rfl, List.forall_mem_cons.mpr ⟨rfl, List.forall_mem_cons.mpr ⟨rfl, List.forall_mem_cons.mpr ⟨rfl, List.forall_mem_cons.mpr ⟨rfl, List.forall_mem_cons.mpr ⟨rfl, fun _ h => absurd h List.not_mem_nil⟩⟩⟩⟩⟩⟩⟩) ?_
                exact ih791 0 (z782 + 1) trivial (rW (c := 0) (d := 2) (rR (x := 0)) rfl) (rW (c := 0) (d := 30) (rAdd (e := 1) (f := 30) h796 (rR (x := 1)) rfl) rfl) (vc_X10_verdictOn_5 (nS h790) h795 h796 h797)
              refine sv_aload_n (pc := 171) dX10_verdictOn_171 rfl rfl ?_
              refine gf_X10_8 (pc := 172) dX10_verdictOn_172 wF_X10_42 (A_6 hw) hT ?_
              refine mr_iload (pc := 175) (z := z782) dX10_verdictOn_175 rfl ?_
              refine la_15 (pc := 177) dX10_verdictOn_177 (A_15 hw) hT (rIx (n := 30) h796 rfl) fun z863 q864 h865 => ?_
              refine sv_aload_n (pc := 178) dX10_verdictOn_178 rfl rfl ?_
              refine gf_X10_1 (pc := 179) dX10_verdictOn_179 wF_X10_15 (A_6 hw) hT ?_
              refine mr_iload_n (pc := 182) (z := p1) dX10_verdictOn_182 rfl rfl ?_
              refine lk_8 (pc := 183) dX10_verdictOn_183 (A_8 hw) (rIx (n := 10) hp1 rfl) q832 ?_
              refine mr_icmp_lt (pc := 184) (tgt := 189) dX10_verdictOn_184 (by decide) h865 (r32 h833 rfl) (fun h866 => ?_) (fun h866 => ?_)
              · have h867 : (-2147483648) ≤ z863 ∧ z863 ≤ 31 := (vc_X10_verdictOn_10 h866 h833 h865)
                refine mr_iconst (pc := 189) (z := 0) dX10_verdictOn_189 ?_
                refine mr_istore (pc := 190) (lv' := [(5, iv 0), (10, iv z848), (0, .ref 6), (1, iv p1), (2, iv p2), (3, iv p3), (4, iv p4), (6, iv z782), (7, iv z808), (8, iv z822)]) dX10_verdictOn_190 (by decide) rfl ?_
                refine mr_iinc (pc := 192) (lv' := [(6, iv (z782 + 1)), (5, iv 0), (10, iv z848), (0, .ref 6), (1, iv p1), (2, iv p2), (3, iv p3), (4, iv p4), (7, iv z808), (8, iv z822)]) dX10_verdictOn_192 rfl (by decide) rfl ?_
                refine sv_goto (pc := 195) (tgt := 6) dX10_verdictOn_195 (by decide) ?_
                refine mr_lvS (lv' := [(0, .ref 6), (1, iv p1), (2, iv p2), (3, iv p3), (4, iv p4), (5, iv 0), (6, iv (z782 + 1))]) (List.forall_mem_cons.mpr ⟨rfl, List.forall_mem_cons.mpr ⟨rfl, List.forall_mem_cons.mpr ⟨rfl, List.forall_mem_cons.mpr ⟨rfl, List.forall_mem_cons.mpr ⟨rfl, List.forall_mem_cons.mpr ⟨rfl, List.forall_mem_cons.mpr ⟨rfl, fun _ h => absurd h List.not_mem_nil⟩⟩⟩⟩⟩⟩⟩) ?_
                exact ih791 0 (z782 + 1) trivial (rW (c := 0) (d := 2) (rR (x := 0)) rfl) (rW (c := 0) (d := 30) (rAdd (e := 1) (f := 30) h796 (rR (x := 1)) rfl) rfl) (vc_X10_verdictOn_5 (nS h790) h795 h796 h797)
              have h868 : 0 ≤ z863 ∧ z863 ≤ 2147483647 := (vc_X10_verdictOn_11 h866 h833 h865)
              refine mr_iconst (pc := 187) (z := 1) dX10_verdictOn_187 ?_
              exact mr_iretP dX10_verdictOn_188 rfl (le_t rfl) (le_t rfl) ⟨(rW (c := 0) (d := 2) (rR (x := 1)) rfl), trivial⟩
            have h869 : 0 ≤ z848 ∧ z848 ≤ 0 := (vc_X10_verdictOn_12 h857 h849)
            refine sv_goto (pc := 157) (tgt := 192) dX10_verdictOn_157 (by decide) ?_
            refine mr_iinc (pc := 192) (lv' := [(6, iv (z782 + 1)), (10, iv z848), (0, .ref 6), (1, iv p1), (2, iv p2), (3, iv p3), (4, iv p4), (5, iv z783), (7, iv z808), (8, iv z822)]) dX10_verdictOn_192 rfl (by decide) rfl ?_
            refine sv_goto (pc := 195) (tgt := 6) dX10_verdictOn_195 (by decide) ?_
            refine mr_lvS (lv' := [(0, .ref 6), (1, iv p1), (2, iv p2), (3, iv p3), (4, iv p4), (5, iv z783), (6, iv (z782 + 1))]) (List.forall_mem_cons.mpr ⟨rfl, List.forall_mem_cons.mpr ⟨rfl, List.forall_mem_cons.mpr ⟨rfl, List.forall_mem_cons.mpr ⟨rfl, List.forall_mem_cons.mpr ⟨rfl, List.forall_mem_cons.mpr ⟨rfl, List.forall_mem_cons.mpr ⟨rfl, fun _ h => absurd h List.not_mem_nil⟩⟩⟩⟩⟩⟩⟩) ?_
            exact ih791 z783 (z782 + 1) trivial h785 (rW (c := 0) (d := 30) (rAdd (e := 1) (f := 30) h796 (rR (x := 1)) rfl) rfl) (vc_X10_verdictOn_5 (nS h790) h795 h796 h797)
          refine mr_icmp_gt (pc := 108) (tgt := 139) dX10_verdictOn_108 (by decide) (r32 h830 rfl) (r32 h833 rfl) (fun h870 => ?_) (fun h870 => ?_)
          · have h871 : 1 ≤ z828 ∧ z828 ≤ 32 := (vc_X10_verdictOn_13 h870 h830 h833)
            have h872 : 0 ≤ z831 ∧ z831 ≤ 31 := (vc_X10_verdictOn_14 h870 h871 h833)
            refine mr_iconst (pc := 139) (z := 0) dX10_verdictOn_139 ?_
            refine mr_lvS (lv' := [(0, .ref 6), (1, iv p1), (2, iv p2), (3, iv p3), (4, iv p4), (5, iv z783), (6, iv z782), (7, iv z808), (8, iv z822)]) (List.forall_mem_cons.mpr ⟨rfl, List.forall_mem_cons.mpr ⟨rfl, List.forall_mem_cons.mpr ⟨rfl, List.forall_mem_cons.mpr ⟨rfl, List.forall_mem_cons.mpr ⟨rfl, List.forall_mem_cons.mpr ⟨rfl, List.forall_mem_cons.mpr ⟨rfl, List.forall_mem_cons.mpr ⟨rfl, List.forall_mem_cons.mpr ⟨rfl, fun _ h => absurd h List.not_mem_nil⟩⟩⟩⟩⟩⟩⟩⟩⟩) ?_
            exact J850 0 (rW (c := 0) (d := 1) (rR (x := 0)) rfl)
          refine sv_aload_n (pc := 111) dX10_verdictOn_111 rfl rfl ?_
          refine gf_X10_0 (pc := 112) dX10_verdictOn_112 wF_X10_9 (A_6 hw) hT ?_
          refine mr_iload_n (pc := 115) (z := p1) dX10_verdictOn_115 rfl rfl ?_
          refine la_7 (pc := 116) dX10_verdictOn_116 (A_7 hw) hT (rIx (n := 10) hp1 rfl) fun z873 q874 h875 => ?_
          refine sv_aload_n (pc := 117) dX10_verdictOn_117 rfl rfl ?_
          refine gf_X10_2 (pc := 118) dX10_verdictOn_118 wF_X10_18 (A_6 hw) hT ?_
          refine mr_iload (pc := 121) (z := z825) dX10_verdictOn_121 rfl ?_
          refine la_9 (pc := 123) dX10_verdictOn_123 (A_9 hw) hT (rIx (n := 10) h827 rfl) fun z876 q877 h878 => ?_
          refine mr_iand (pc := 124) (x := z873) (y := z876) dX10_verdictOn_124 ?_
          refine mr_gen (P := fun z => (-2147483648) ≤ z ∧ z ≤ 2147483647) (r32i _) fun z879 q880 h881 => ?_
          refine sv_aload_n (pc := 125) dX10_verdictOn_125 rfl rfl ?_
          refine gf_X10_0 (pc := 126) dX10_verdictOn_126 wF_X10_9 (A_6 hw) hT ?_
          refine mr_iload (pc := 129) (z := z825) dX10_verdictOn_129 rfl ?_
          refine la_7 (pc := 131) dX10_verdictOn_131 (A_7 hw) hT (rIx (n := 10) h827 rfl) fun z882 q883 h884 => ?_
          refine mr_icmp_ne (pc := 132) (tgt := 139) dX10_verdictOn_132 (by decide) h881 h884 (fun h885 => ?_) (fun h885 => ?_)
          · refine mr_iconst (pc := 139) (z := 0) dX10_verdictOn_139 ?_
            refine mr_lvS (lv' := [(0, .ref 6), (1, iv p1), (2, iv p2), (3, iv p3), (4, iv p4), (5, iv z783), (6, iv z782), (7, iv z808), (8, iv z822)]) (List.forall_mem_cons.mpr ⟨rfl, List.forall_mem_cons.mpr ⟨rfl, List.forall_mem_cons.mpr ⟨rfl, List.forall_mem_cons.mpr ⟨rfl, List.forall_mem_cons.mpr ⟨rfl, List.forall_mem_cons.mpr ⟨rfl, List.forall_mem_cons.mpr ⟨rfl, List.forall_mem_cons.mpr ⟨rfl, List.forall_mem_cons.mpr ⟨rfl, fun _ h => absurd h List.not_mem_nil⟩⟩⟩⟩⟩⟩⟩⟩⟩) ?_
            exact J850 0 (rW (c := 0) (d := 1) (rR (x := 0)) rfl)
          refine mr_iconst (pc := 135) (z := 1) dX10_verdictOn_135 ?_
          refine sv_goto (pc := 136) (tgt := 140) dX10_verdictOn_136 (by decide) ?_
          refine mr_lvS (lv' := [(0, .ref 6), (1, iv p1), (2, iv p2), (3, iv p3), (4, iv p4), (5, iv z783), (6, iv z782), (7, iv z808), (8, iv z822)]) (List.forall_mem_cons.mpr ⟨rfl, List.forall_mem_cons.mpr ⟨rfl, List.forall_mem_cons.mpr ⟨rfl, List.forall_mem_cons.mpr ⟨rfl, List.forall_mem_cons.mpr ⟨rfl, List.forall_mem_cons.mpr ⟨rfl, List.forall_mem_cons.mpr ⟨rfl, List.forall_mem_cons.mpr ⟨rfl, List.forall_mem_cons.mpr ⟨rfl, fun _ h => absurd h List.not_mem_nil⟩⟩⟩⟩⟩⟩⟩⟩⟩) ?_
          exact J850 1 (rW (c := 0) (d := 1) (rR (x := 1)) rfl)
        refine mr_icmp_gt (pc := 53) (tgt := 83) dX10_verdictOn_53 (by decide) h813 hp4 (fun h886 => ?_) (fun h886 => ?_)
        · have h887 : (-2147483647) ≤ z811 ∧ z811 ≤ 2147483647 := (vc_X10_verdictOn_15 h886 hp4 h813)
          have h888 : (-2147483648) ≤ p4 ∧ p4 ≤ 2147483646 := (vc_X10_verdictOn_16 h886 hp4 h887)
          refine mr_iconst (pc := 83) (z := 0) dX10_verdictOn_83 ?_
          refine mr_lvS (lv' := [(0, .ref 6), (1, iv p1), (2, iv p2), (3, iv p3), (4, iv p4), (5, iv z783), (6, iv z782), (7, iv z808)]) (List.forall_mem_cons.mpr ⟨rfl, List.forall_mem_cons.mpr ⟨rfl, List.forall_mem_cons.mpr ⟨rfl, List.forall_mem_cons.mpr ⟨rfl, List.forall_mem_cons.mpr ⟨rfl, List.forall_mem_cons.mpr ⟨rfl, List.forall_mem_cons.mpr ⟨rfl, List.forall_mem_cons.mpr ⟨rfl, fun _ h => absurd h List.not_mem_nil⟩⟩⟩⟩⟩⟩⟩⟩) ?_
          exact J824 0 (rW (c := 0) (d := 1) (rR (x := 0)) rfl)
        refine sv_aload_n (pc := 56) dX10_verdictOn_56 rfl rfl ?_
        refine gf_X10_13 (pc := 57) dX10_verdictOn_57 wF_X10_57 (A_6 hw) hT ?_
        refine mr_iload (pc := 60) (z := z782) dX10_verdictOn_60 rfl ?_
        refine la_20 (pc := 62) dX10_verdictOn_62 (A_20 hw) hT (rIx (n := 30) h796 rfl) fun z889 q890 h891 => ?_
        refine mr_iconst (pc := 63) (z := (-1)) dX10_verdictOn_63 ?_
        refine mr_icmp_eq (pc := 64) (tgt := 79) dX10_verdictOn_64 (by decide) h891 (r32 (rR (x := (-1))) rfl) (fun h892 => ?_) (fun h892 => ?_)
        · have h893 : (-1) ≤ z889 ∧ z889 ≤ (-1) := (vc_X10_verdictOn_17 h892 h891)
          refine mr_iconst (pc := 79) (z := 1) dX10_verdictOn_79 ?_
          refine sv_goto (pc := 80) (tgt := 84) dX10_verdictOn_80 (by decide) ?_
          refine mr_lvS (lv' := [(0, .ref 6), (1, iv p1), (2, iv p2), (3, iv p3), (4, iv p4), (5, iv z783), (6, iv z782), (7, iv z808)]) (List.forall_mem_cons.mpr ⟨rfl, List.forall_mem_cons.mpr ⟨rfl, List.forall_mem_cons.mpr ⟨rfl, List.forall_mem_cons.mpr ⟨rfl, List.forall_mem_cons.mpr ⟨rfl, List.forall_mem_cons.mpr ⟨rfl, List.forall_mem_cons.mpr ⟨rfl, List.forall_mem_cons.mpr ⟨rfl, fun _ h => absurd h List.not_mem_nil⟩⟩⟩⟩⟩⟩⟩⟩) ?_
          exact J824 1 (rW (c := 0) (d := 1) (rR (x := 1)) rfl)
        refine mr_iload (pc := 67) (z := p4) dX10_verdictOn_67 rfl ?_
        refine sv_aload_n (pc := 69) dX10_verdictOn_69 rfl rfl ?_
        refine gf_X10_13 (pc := 70) dX10_verdictOn_70 wF_X10_57 (A_6 hw) hT ?_
        refine mr_iload (pc := 73) (z := z782) dX10_verdictOn_73 rfl ?_
        refine lk_20 (pc := 75) dX10_verdictOn_75 (A_20 hw) (rIx (n := 30) h796 rfl) q890 ?_
        refine mr_icmp_ge (pc := 76) (tgt := 83) dX10_verdictOn_76 (by decide) hp4 h891 (fun h894 => ?_) (fun h894 => ?_)
        · refine mr_iconst (pc := 83) (z := 0) dX10_verdictOn_83 ?_
          refine mr_lvS (lv' := [(0, .ref 6), (1, iv p1), (2, iv p2), (3, iv p3), (4, iv p4), (5, iv z783), (6, iv z782), (7, iv z808)]) (List.forall_mem_cons.mpr ⟨rfl, List.forall_mem_cons.mpr ⟨rfl, List.forall_mem_cons.mpr ⟨rfl, List.forall_mem_cons.mpr ⟨rfl, List.forall_mem_cons.mpr ⟨rfl, List.forall_mem_cons.mpr ⟨rfl, List.forall_mem_cons.mpr ⟨rfl, List.forall_mem_cons.mpr ⟨rfl, fun _ h => absurd h List.not_mem_nil⟩⟩⟩⟩⟩⟩⟩⟩) ?_
          exact J824 0 (rW (c := 0) (d := 1) (rR (x := 0)) rfl)
        have h895 : (-2147483648) ≤ p4 ∧ p4 ≤ 2147483646 := (vc_X10_verdictOn_18 h894 h886 h892 hp4 h813 h891)
        have h896 : (-2147483647) ≤ z889 ∧ z889 ≤ 2147483647 := (vc_X10_verdictOn_19 h894 h886 h892 h895 h813 h891)
        refine mr_iconst (pc := 79) (z := 1) dX10_verdictOn_79 ?_
        refine sv_goto (pc := 80) (tgt := 84) dX10_verdictOn_80 (by decide) ?_
        refine mr_lvS (lv' := [(0, .ref 6), (1, iv p1), (2, iv p2), (3, iv p3), (4, iv p4), (5, iv z783), (6, iv z782), (7, iv z808)]) (List.forall_mem_cons.mpr ⟨rfl, List.forall_mem_cons.mpr ⟨rfl, List.forall_mem_cons.mpr ⟨rfl, List.forall_mem_cons.mpr ⟨rfl, List.forall_mem_cons.mpr ⟨rfl, List.forall_mem_cons.mpr ⟨rfl, List.forall_mem_cons.mpr ⟨rfl, List.forall_mem_cons.mpr ⟨rfl, fun _ h => absurd h List.not_mem_nil⟩⟩⟩⟩⟩⟩⟩⟩) ?_
        exact J824 1 (rW (c := 0) (d := 1) (rR (x := 1)) rfl)
      refine mr_icmp_gt (pc := 23) (tgt := 41) dX10_verdictOn_23 (by decide) h800 hp3 (fun h897 => ?_) (fun h897 => ?_)
      · have h898 : (-2147483647) ≤ z798 ∧ z798 ≤ 2147483647 := (vc_X10_verdictOn_20 h897 hp3 h800)
        have h899 : (-2147483648) ≤ p3 ∧ p3 ≤ 2147483646 := (vc_X10_verdictOn_21 h897 hp3 h898)
        refine mr_iconst (pc := 41) (z := 0) dX10_verdictOn_41 ?_
        exact J810 0 (rW (c := 0) (d := 1) (rR (x := 0)) rfl)
      refine mr_iload_n (pc := 26) (z := p3) dX10_verdictOn_26 rfl rfl ?_
      refine sv_aload_n (pc := 27) dX10_verdictOn_27 rfl rfl ?_
      refine gf_X10_11 (pc := 28) dX10_verdictOn_28 wF_X10_51 (A_6 hw) hT ?_
      refine mr_iload (pc := 31) (z := z782) dX10_verdictOn_31 rfl ?_
      refine la_18 (pc := 33) dX10_verdictOn_33 (A_18 hw) hT (rIx (n := 30) h796 rfl) fun z900 q901 h902 => ?_
      refine mr_icmp_ge (pc := 34) (tgt := 41) dX10_verdictOn_34 (by decide) hp3 h902 (fun h903 => ?_) (fun h903 => ?_)
      · refine mr_iconst (pc := 41) (z := 0) dX10_verdictOn_41 ?_
        exact J810 0 (rW (c := 0) (d := 1) (rR (x := 0)) rfl)
      have h904 : (-2147483648) ≤ p3 ∧ p3 ≤ 2147483646 := (vc_X10_verdictOn_22 h903 h897 hp3 h800 h902)
      have h905 : (-2147483647) ≤ z900 ∧ z900 ≤ 2147483647 := (vc_X10_verdictOn_23 h903 h897 h904 h800 h902)
      refine mr_iconst (pc := 37) (z := 1) dX10_verdictOn_37 ?_
      refine sv_goto (pc := 38) (tgt := 42) dX10_verdictOn_38 (by decide) ?_
      exact J810 1 (rW (c := 0) (d := 1) (rR (x := 1)) rfl)
  refine mr_lvS (lv' := [(0, .ref 6), (1, iv p1), (2, iv p2), (3, iv p3), (4, iv p4), (5, iv 2), (6, iv 0)]) (List.forall_mem_cons.mpr ⟨rfl, List.forall_mem_cons.mpr ⟨rfl, List.forall_mem_cons.mpr ⟨rfl, List.forall_mem_cons.mpr ⟨rfl, List.forall_mem_cons.mpr ⟨rfl, List.forall_mem_cons.mpr ⟨rfl, List.forall_mem_cons.mpr ⟨rfl, fun _ h => absurd h List.not_mem_nil⟩⟩⟩⟩⟩⟩⟩) ?_
  exact L784 32 2 0 trivial (rW (c := 0) (d := 2) (rR (x := 2)) rfl) (rW (c := 0) (d := 30) (rR (x := 0)) rfl) vc_X10_verdictOn_24
theorem vc_X10_addPrefix_1 {f_p : Int} (h0 : f_p ≤ 9) (h1 : 0 ≤ f_p ∧ f_p ≤ 10) : 0 ≤ f_p ∧ f_p ≤ 9 := by omega
set_option maxRecDepth 4000 in
set_option maxHeartbeats 4000000 in
theorem c_X10_addPrefix {l : Launch} {D : va_G} {c : Nat → ClassId} {H0 : Heap} {sa : Nat × Nat × (Nat → Int32)} {w : mW} {μ : mM} (hw : mWF w) (hT : mT w μ) {p1 : Int} (hp1 : (-2147483648) ≤ p1 ∧ p1 ≤ 2147483647) {p2 : Int} (hp2 : 0 ≤ p2 ∧ p2 ≤ 32) {f_p : Int} (q_f_p : μ 6 14 = f_p) (hq0 : f_p ≤ 9) : sC (gG l D c H0 sa) mX10_addPrefix 2 0 0 [.ref 6, iv p1, iv p2] (mk w μ) (qI w [6014, 7999, 8999, 9999] μ (fun z μ1 => ((-2147483648) ≤ z ∧ z ≤ 2147483647) ∧ True)) := by
  refine sC.of rfl (by decide) (le_t rfl) ?_
  have ht_f_p : (0 ≤ f_p ∧ f_p ≤ 10) := by rw [← q_f_p]; exact hT 6 6 (A_6 hw) 14
  have h1 : 0 ≤ f_p ∧ f_p ≤ 9 := (vc_X10_addPrefix_1 hq0 ht_f_p)
  refine mr_lvE (lv' := [(0, .ref 6), (1, iv p1), (2, iv p2)]) rfl ?_
  refine sv_aload_n (pc := 0) dX10_addPrefix_0 rfl rfl ?_
  refine gf_X10_0 (pc := 1) dX10_addPrefix_1 wF_X10_9 (A_6 hw) hT ?_
  refine sv_aload_n (pc := 4) dX10_addPrefix_4 rfl rfl ?_
  refine gk_X10_14 (pc := 5) dX10_addPrefix_5 wF_X10_60 (A_6 hw) q_f_p ?_
  refine mr_iload_n (pc := 8) (z := p1) dX10_addPrefix_8 rfl rfl ?_
  refine ss_7 (pc := 9) dX10_addPrefix_9 (A_7 hw) hT (rIx (n := 10) h1 rfl) hp1 fun μ53 u54 T55 => ?_
  refine sv_aload_n (pc := 10) dX10_addPrefix_10 rfl rfl ?_
  refine gf_X10_1 (pc := 11) dX10_addPrefix_11 wF_X10_15 (A_6 hw) T55 ?_
  refine sv_aload_n (pc := 14) dX10_addPrefix_14 rfl rfl ?_
  refine gk_X10_14 (pc := 15) dX10_addPrefix_15 wF_X10_60 (A_6 hw) (u54.f (Or.inl (mAt.ne (A_7 hw) (A_6 hw) rfl)) q_f_p) ?_
  refine mr_iload_n (pc := 18) (z := p2) dX10_addPrefix_18 rfl rfl ?_
  refine ss_8 (pc := 19) dX10_addPrefix_19 (A_8 hw) T55 (rIx (n := 10) h1 rfl) hp2 fun μ56 u57 T58 => ?_
  refine sv_aload_n (pc := 20) dX10_addPrefix_20 rfl rfl ?_
  refine gf_X10_2 (pc := 21) dX10_addPrefix_21 wF_X10_18 (A_6 hw) T58 ?_
  refine sv_aload_n (pc := 24) dX10_addPrefix_24 rfl rfl ?_
  refine gk_X10_14 (pc := 25) dX10_addPrefix_25 wF_X10_60 (A_6 hw) (u57.f (Or.inl (mAt.ne (A_8 hw) (A_6 hw) rfl)) (u54.f (Or.inl (mAt.ne (A_7 hw) (A_6 hw) rfl)) q_f_p)) ?_
  refine mr_iload_n (pc := 28) (z := p2) dX10_addPrefix_28 rfl rfl ?_
  refine mr_cSP (pc := 29) (c_X10_maskOf hw T58 (rW (c := (-2147483648)) (d := 2147483647) hp2 rfl)) (gOk _ _ _ _ _) dX10_addPrefix_29 (tX10_maskOf _ _ _ _ _) wS_X10_maskOf wM_X10_64 ⟨le_t rfl, le_t rfl⟩ ⟨le_t rfl, le_t rfl⟩ rfl (le_t rfl) fun z63 h62 => ?_
  refine ss_9 (pc := 32) dX10_addPrefix_32 (A_9 hw) T58 (rIx (n := 10) h1 rfl) h62.1 fun μ64 u65 T66 => ?_
  refine sv_aload_n (pc := 33) dX10_addPrefix_33 rfl rfl ?_
  refine sv_dup (pc := 34) dX10_addPrefix_34 rfl ?_
  refine gk_X10_14 (pc := 35) dX10_addPrefix_35 wF_X10_60 (A_6 hw) (u65.f (Or.inl (mAt.ne (A_9 hw) (A_6 hw) rfl)) (u57.f (Or.inl (mAt.ne (A_8 hw) (A_6 hw) rfl)) (u54.f (Or.inl (mAt.ne (A_7 hw) (A_6 hw) rfl)) q_f_p))) ?_
  refine mr_iconst (pc := 38) (z := 1) dX10_addPrefix_38 ?_
  refine mr_iadd (pc := 39) (x := f_p) (y := 1) dX10_addPrefix_39 ?_
  refine pf_X10_14 (pc := 40) dX10_addPrefix_40 wF_X10_60 (A_6 hw) T66 (rW (c := 0) (d := 10) (rAdd (e := 1) (f := 10) h1 (rR (x := 1)) rfl) rfl) fun μ67 u68 T69 => ?_
  refine sv_aload_n (pc := 43) dX10_addPrefix_43 rfl rfl ?_
  refine gk_X10_14 (pc := 44) dX10_addPrefix_44 wF_X10_60 (A_6 hw) u68.1 ?_
  refine mr_iconst (pc := 47) (z := 1) dX10_addPrefix_47 ?_
  refine mr_isub (pc := 48) (x := (f_p + 1)) (y := 1) dX10_addPrefix_48 ?_
  exact mr_iret dX10_addPrefix_49 rfl (le_t rfl) (le_t rfl) T69 (mF.up (mF.up (mF.up (mF.up mF.refl (A_7 hw) u54 rfl) (A_8 hw) u57 rfl) (A_9 hw) u65 rfl) (A_6 hw) u68 rfl) ⟨(rW (c := (-2147483648)) (d := 2147483647) (rSub (e := 0) (f := 9) (rAdd (e := 1) (f := 10) h1 (rR (x := 1)) rfl) (rR (x := 1)) rfl) rfl), trivial⟩
theorem vc_X10_addRight_1 {f_r : Int} (h0 : f_r ≤ 29) (h1 : 0 ≤ f_r ∧ f_r ≤ 30) : 0 ≤ f_r ∧ f_r ≤ 29 := by omega
set_option maxRecDepth 4000 in
set_option maxHeartbeats 4000000 in
theorem c_X10_addRight {l : Launch} {D : va_G} {c : Nat → ClassId} {H0 : Heap} {sa : Nat × Nat × (Nat → Int32)} {w : mW} {μ : mM} (hw : mWF w) (hT : mT w μ) {p1 : Int} (hp1 : 0 ≤ p1 ∧ p1 ≤ 9) {p2 : Int} (hp2 : (-2147483648) ≤ p2 ∧ p2 ≤ 2147483647) {p3 : Int} (hp3 : (-2147483648) ≤ p3 ∧ p3 ≤ 2147483647) {p4 : Int} (hp4 : (-2147483648) ≤ p4 ∧ p4 ≤ 2147483647) {p5 : Int} (hp5 : (-2147483648) ≤ p5 ∧ p5 ≤ 2147483647) {p6 : Int} (hp6 : (-2147483648) ≤ p6 ∧ p6 ≤ 2147483647) {f_r : Int} (q_f_r : μ 6 17 = f_r) (hq0 : f_r ≤ 29) : sC (gG l D c H0 sa) mX10_addRight 1 0 0 [.ref 6, iv p1, iv p2, iv p3, iv p4, iv p5, iv p6] (mk w μ) (qI w [6017, 14999, 15999, 16999, 17999, 18999, 19999, 20999] μ (fun z μ1 => ((-2147483648) ≤ z ∧ z ≤ 2147483647) ∧ True)) := by
  refine sC.of rfl (by decide) (le_t rfl) ?_
  have ht_f_r : (0 ≤ f_r ∧ f_r ≤ 30) := by rw [← q_f_r]; exact hT 6 6 (A_6 hw) 17
  have h1 : 0 ≤ f_r ∧ f_r ≤ 29 := (vc_X10_addRight_1 hq0 ht_f_r)
  refine mr_lvE (lv' := [(0, .ref 6), (1, iv p1), (2, iv p2), (3, iv p3), (4, iv p4), (5, iv p5), (6, iv p6)]) rfl ?_
  refine sv_aload_n (pc := 0) dX10_addRight_0 rfl rfl ?_
  refine gf_X10_7 (pc := 1) dX10_addRight_1 wF_X10_39 (A_6 hw) hT ?_
  refine sv_aload_n (pc := 4) dX10_addRight_4 rfl rfl ?_
  refine gk_X10_17 (pc := 5) dX10_addRight_5 wF_X10_118 (A_6 hw) q_f_r ?_
  refine mr_iload_n (pc := 8) (z := p1) dX10_addRight_8 rfl rfl ?_
  refine ss_14 (pc := 9) dX10_addRight_9 (A_14 hw) hT (rIx (n := 30) h1 rfl) hp1 fun μ74 u75 T76 => ?_
  refine sv_aload_n (pc := 10) dX10_addRight_10 rfl rfl ?_
  refine gf_X10_8 (pc := 11) dX10_addRight_11 wF_X10_42 (A_6 hw) T76 ?_
  refine sv_aload_n (pc := 14) dX10_addRight_14 rfl rfl ?_
  refine gk_X10_17 (pc := 15) dX10_addRight_15 wF_X10_118 (A_6 hw) (u75.f (Or.inl (mAt.ne (A_14 hw) (A_6 hw) rfl)) q_f_r) ?_
  refine mr_iload_n (pc := 18) (z := p2) dX10_addRight_18 rfl rfl ?_
  refine ss_15 (pc := 19) dX10_addRight_19 (A_15 hw) T76 (rIx (n := 30) h1 rfl) hp2 fun μ77 u78 T79 => ?_
  refine sv_aload_n (pc := 20) dX10_addRight_20 rfl rfl ?_
  refine gf_X10_9 (pc := 21) dX10_addRight_21 wF_X10_45 (A_6 hw) T79 ?_
  refine sv_aload_n (pc := 24) dX10_addRight_24 rfl rfl ?_
  refine gk_X10_17 (pc := 25) dX10_addRight_25 wF_X10_118 (A_6 hw) (u78.f (Or.inl (mAt.ne (A_15 hw) (A_6 hw) rfl)) (u75.f (Or.inl (mAt.ne (A_14 hw) (A_6 hw) rfl)) q_f_r)) ?_
  refine mr_iload_n (pc := 28) (z := p3) dX10_addRight_28 rfl rfl ?_
  refine ss_16 (pc := 29) dX10_addRight_29 (A_16 hw) T79 (rIx (n := 30) h1 rfl) hp3 fun μ80 u81 T82 => ?_
  refine sv_aload_n (pc := 30) dX10_addRight_30 rfl rfl ?_
  refine gf_X10_10 (pc := 31) dX10_addRight_31 wF_X10_48 (A_6 hw) T82 ?_
  refine sv_aload_n (pc := 34) dX10_addRight_34 rfl rfl ?_
  refine gk_X10_17 (pc := 35) dX10_addRight_35 wF_X10_118 (A_6 hw) (u81.f (Or.inl (mAt.ne (A_16 hw) (A_6 hw) rfl)) (u78.f (Or.inl (mAt.ne (A_15 hw) (A_6 hw) rfl)) (u75.f (Or.inl (mAt.ne (A_14 hw) (A_6 hw) rfl)) q_f_r))) ?_
  refine mr_iload (pc := 38) (z := p4) dX10_addRight_38 rfl ?_
  refine ss_17 (pc := 40) dX10_addRight_40 (A_17 hw) T82 (rIx (n := 30) h1 rfl) hp4 fun μ83 u84 T85 => ?_
  refine sv_aload_n (pc := 41) dX10_addRight_41 rfl rfl ?_
  refine gf_X10_11 (pc := 42) dX10_addRight_42 wF_X10_51 (A_6 hw) T85 ?_
  refine sv_aload_n (pc := 45) dX10_addRight_45 rfl rfl ?_
  refine gk_X10_17 (pc := 46) dX10_addRight_46 wF_X10_118 (A_6 hw) (u84.f (Or.inl (mAt.ne (A_17 hw) (A_6 hw) rfl)) (u81.f (Or.inl (mAt.ne (A_16 hw) (A_6 hw) rfl)) (u78.f (Or.inl (mAt.ne (A_15 hw) (A_6 hw) rfl)) (u75.f (Or.inl (mAt.ne (A_14 hw) (A_6 hw) rfl)) q_f_r)))) ?_
  refine mr_iload (pc := 49) (z := p5) dX10_addRight_49 rfl ?_
  refine ss_18 (pc := 51) dX10_addRight_51 (A_18 hw) T85 (rIx (n := 30) h1 rfl) hp5 fun μ86 u87 T88 => ?_
  refine sv_aload_n (pc := 52) dX10_addRight_52 rfl rfl ?_
  refine gf_X10_12 (pc := 53) dX10_addRight_53 wF_X10_54 (A_6 hw) T88 ?_
  refine sv_aload_n (pc := 56) dX10_addRight_56 rfl rfl ?_
  refine gk_X10_17 (pc := 57) dX10_addRight_57 wF_X10_118 (A_6 hw) (u87.f (Or.inl (mAt.ne (A_18 hw) (A_6 hw) rfl)) (u84.f (Or.inl (mAt.ne (A_17 hw) (A_6 hw) rfl)) (u81.f (Or.inl (mAt.ne (A_16 hw) (A_6 hw) rfl)) (u78.f (Or.inl (mAt.ne (A_15 hw) (A_6 hw) rfl)) (u75.f (Or.inl (mAt.ne (A_14 hw) (A_6 hw) rfl)) q_f_r))))) ?_
  refine mr_iload (pc := 60) (z := p6) dX10_addRight_60 rfl ?_
  refine ss_19 (pc := 62) dX10_addRight_62 (A_19 hw) T88 (rIx (n := 30) h1 rfl) hp6 fun μ89 u90 T91 => ?_
  refine sv_aload_n (pc := 63) dX10_addRight_63 rfl rfl ?_
  refine gf_X10_13 (pc := 64) dX10_addRight_64 wF_X10_57 (A_6 hw) T91 ?_
  refine sv_aload_n (pc := 67) dX10_addRight_67 rfl rfl ?_
  refine gk_X10_17 (pc := 68) dX10_addRight_68 wF_X10_118 (A_6 hw) (u90.f (Or.inl (mAt.ne (A_19 hw) (A_6 hw) rfl)) (u87.f (Or.inl (mAt.ne (A_18 hw) (A_6 hw) rfl)) (u84.f (Or.inl (mAt.ne (A_17 hw) (A_6 hw) rfl)) (u81.f (Or.inl (mAt.ne (A_16 hw) (A_6 hw) rfl)) (u78.f (Or.inl (mAt.ne (A_15 hw) (A_6 hw) rfl)) (u75.f (Or.inl (mAt.ne (A_14 hw) (A_6 hw) rfl)) q_f_r)))))) ?_
  refine mr_iconst (pc := 71) (z := (-1)) dX10_addRight_71 ?_
  refine ss_20 (pc := 72) dX10_addRight_72 (A_20 hw) T91 (rIx (n := 30) h1 rfl) (rW (c := (-2147483648)) (d := 2147483647) (rR (x := (-1))) rfl) fun μ92 u93 T94 => ?_
  refine sv_aload_n (pc := 73) dX10_addRight_73 rfl rfl ?_
  refine sv_dup (pc := 74) dX10_addRight_74 rfl ?_
  refine gk_X10_17 (pc := 75) dX10_addRight_75 wF_X10_118 (A_6 hw) (u93.f (Or.inl (mAt.ne (A_20 hw) (A_6 hw) rfl)) (u90.f (Or.inl (mAt.ne (A_19 hw) (A_6 hw) rfl)) (u87.f (Or.inl (mAt.ne (A_18 hw) (A_6 hw) rfl)) (u84.f (Or.inl (mAt.ne (A_17 hw) (A_6 hw) rfl)) (u81.f (Or.inl (mAt.ne (A_16 hw) (A_6 hw) rfl)) (u78.f (Or.inl (mAt.ne (A_15 hw) (A_6 hw) rfl)) (u75.f (Or.inl (mAt.ne (A_14 hw) (A_6 hw) rfl)) q_f_r))))))) ?_
  refine mr_iconst (pc := 78) (z := 1) dX10_addRight_78 ?_
  refine mr_iadd (pc := 79) (x := f_r) (y := 1) dX10_addRight_79 ?_
  refine pf_X10_17 (pc := 80) dX10_addRight_80 wF_X10_118 (A_6 hw) T94 (rW (c := 0) (d := 30) (rAdd (e := 1) (f := 30) h1 (rR (x := 1)) rfl) rfl) fun μ95 u96 T97 => ?_
  refine sv_aload_n (pc := 83) dX10_addRight_83 rfl rfl ?_
  refine gk_X10_17 (pc := 84) dX10_addRight_84 wF_X10_118 (A_6 hw) u96.1 ?_
  refine mr_iconst (pc := 87) (z := 1) dX10_addRight_87 ?_
  refine mr_isub (pc := 88) (x := (f_r + 1)) (y := 1) dX10_addRight_88 ?_
  exact mr_iret dX10_addRight_89 rfl (le_t rfl) (le_t rfl) T97 (mF.up (mF.up (mF.up (mF.up (mF.up (mF.up (mF.up (mF.up mF.refl (A_14 hw) u75 rfl) (A_15 hw) u78 rfl) (A_16 hw) u81 rfl) (A_17 hw) u84 rfl) (A_18 hw) u87 rfl) (A_19 hw) u90 rfl) (A_20 hw) u93 rfl) (A_6 hw) u96 rfl) ⟨(rW (c := (-2147483648)) (d := 2147483647) (rSub (e := 0) (f := 29) (rAdd (e := 1) (f := 30) h1 (rR (x := 1)) rfl) (rR (x := 1)) rfl) rfl), trivial⟩
theorem vc_X11_isDomain_1 {p1 : Int} (h0 : p1 < 0) (h1 : (-2147483648) ≤ p1 ∧ p1 ≤ 2147483647) : (-2147483648) ≤ p1 ∧ p1 ≤ (-1) := by omega
theorem vc_X11_isDomain_2 {f_n n0 p1 : Int} (h0 : f_n = n0) (h1 : p1 < 0) (h2 : 0 ≤ f_n ∧ f_n ≤ 10) (h3 : (-2147483648) ≤ p1 ∧ p1 ≤ (-1)) : (0 : Int) = 1 → 0 ≤ p1 ∧ p1 < f_n := by omega
theorem vc_X11_isDomain_3 {f_n n0 p1 : Int} (h0 : f_n = n0) (h1 : p1 < 0) (h2 : 0 ≤ f_n ∧ f_n ≤ 10) (h3 : (-2147483648) ≤ p1 ∧ p1 ≤ (-1)) : (0 : Int) = 0 → p1 < 0 ∨ f_n ≤ p1 := by omega
theorem vc_X11_isDomain_4 {p1 : Int} (h0 : 0 ≤ p1) (h1 : (-2147483648) ≤ p1 ∧ p1 ≤ 2147483647) : 0 ≤ p1 ∧ p1 ≤ 2147483647 := by omega
theorem vc_X11_isDomain_5 {f_n n0 p1 : Int} (h0 : f_n = n0) (h1 : 0 ≤ p1) (h2 : f_n ≤ p1) (h3 : 0 ≤ f_n ∧ f_n ≤ 10) (h4 : 0 ≤ p1 ∧ p1 ≤ 2147483647) : (0 : Int) = 1 → 0 ≤ p1 ∧ p1 < f_n := by omega
theorem vc_X11_isDomain_6 {f_n n0 p1 : Int} (h0 : f_n = n0) (h1 : 0 ≤ p1) (h2 : f_n ≤ p1) (h3 : 0 ≤ f_n ∧ f_n ≤ 10) (h4 : 0 ≤ p1 ∧ p1 ≤ 2147483647) : (0 : Int) = 0 → p1 < 0 ∨ f_n ≤ p1 := by omega
theorem vc_X11_isDomain_7 {f_n n0 p1 : Int} (h0 : p1 < f_n) (h1 : f_n = n0) (h2 : 0 ≤ p1) (h3 : 0 ≤ f_n ∧ f_n ≤ 10) (h4 : 0 ≤ p1 ∧ p1 ≤ 2147483647) : 0 ≤ p1 ∧ p1 ≤ 9 := by omega
theorem vc_X11_isDomain_8 {f_n n0 p1 : Int} (h0 : p1 < f_n) (h1 : f_n = n0) (h2 : 0 ≤ p1) (h3 : 0 ≤ f_n ∧ f_n ≤ 10) (h4 : 0 ≤ p1 ∧ p1 ≤ 9) : 1 ≤ f_n ∧ f_n ≤ 10 := by omega
theorem vc_X11_isDomain_9 {f_n n0 p1 : Int} (h0 : f_n = n0) (h1 : 0 ≤ p1) (h2 : p1 < f_n) (h3 : 1 ≤ f_n ∧ f_n ≤ 10) (h4 : 0 ≤ p1 ∧ p1 ≤ 9) : (1 : Int) = 1 → 0 ≤ p1 ∧ p1 < f_n := by omega
theorem vc_X11_isDomain_10 {f_n n0 p1 : Int} (h0 : f_n = n0) (h1 : 0 ≤ p1) (h2 : p1 < f_n) (h3 : 1 ≤ f_n ∧ f_n ≤ 10) (h4 : 0 ≤ p1 ∧ p1 ≤ 9) : (1 : Int) = 0 → p1 < 0 ∨ f_n ≤ p1 := by omega
set_option maxRecDepth 4000 in
set_option maxHeartbeats 4000000 in
theorem c_X11_isDomain {l : Launch} {D : va_G} {c : Nat → ClassId} {H0 : Heap} {sa : Nat × Nat × (Nat → Int32)} {w : mW} {μ : mM} (hw : mWF w) (hT : mT w μ) {p1 : Int} (hp1 : (-2147483648) ≤ p1 ∧ p1 ≤ 2147483647) {f_n : Int} (q_f_n : μ 6 15 = f_n) : sC (gG l D c H0 sa) mX11_isDomain 1 0 0 [.ref 0, iv p1] (mk w μ) (qP w μ (fun z => (0 ≤ z ∧ z ≤ 1) ∧ (z = 1 → 0 ≤ p1 ∧ p1 < f_n) ∧ (z = 0 → p1 < 0 ∨ f_n ≤ p1) ∧ True)) := by
  refine sC.of rfl (by decide) (le_t rfl) ?_
  have ht_f_n : (f_n = w.2.2.2 0 ∧ 0 ≤ f_n ∧ f_n ≤ 10) := by rw [← q_f_n]; exact hT 6 6 (A_6 hw) 15
  refine mr_lvE (lv' := [(0, .ref 0), (1, iv p1)]) rfl ?_
  refine mr_iload_n (pc := 0) (z := p1) dX11_isDomain_0 rfl rfl ?_
  refine mr_if_lt (pc := 1) (tgt := 19) dX11_isDomain_1 (by decide) hp1 (fun h17 => ?_) (fun h17 => ?_)
  · have h18 : (-2147483648) ≤ p1 ∧ p1 ≤ (-1) := (vc_X11_isDomain_1 h17 hp1)
    refine mr_iconst (pc := 19) (z := 0) dX11_isDomain_19 ?_
    exact mr_zretP dX11_isDomain_20 rfl (rW (c := 0) (d := 1) (rR (x := 0)) rfl) (le_t rfl) (le_t rfl) ⟨(rW (c := 0) (d := 1) (rR (x := 0)) rfl), (vc_X11_isDomain_2 ht_f_n.1 h17 ht_f_n.2 h18), (vc_X11_isDomain_3 ht_f_n.1 h17 ht_f_n.2 h18), trivial⟩
  have h19 : 0 ≤ p1 ∧ p1 ≤ 2147483647 := (vc_X11_isDomain_4 h17 hp1)
  refine mr_iload_n (pc := 4) (z := p1) dX11_isDomain_4 rfl rfl ?_
  refine sv_aload_n (pc := 5) dX11_isDomain_5 rfl rfl ?_
  refine gf_X11_3 (pc := 6) dX11_isDomain_6 wF_X11_26 (A_0 hw) hT ?_
  refine gk_X10_15 (pc := 9) dX11_isDomain_9 wF_X11_98 (A_6 hw) q_f_n ?_
  refine mr_icmp_ge (pc := 12) (tgt := 19) dX11_isDomain_12 (by decide) (r32 h19 rfl) (r32 ht_f_n.2 rfl) (fun h22 => ?_) (fun h22 => ?_)
  · refine mr_iconst (pc := 19) (z := 0) dX11_isDomain_19 ?_
    exact mr_zretP dX11_isDomain_20 rfl (rW (c := 0) (d := 1) (rR (x := 0)) rfl) (le_t rfl) (le_t rfl) ⟨(rW (c := 0) (d := 1) (rR (x := 0)) rfl), (vc_X11_isDomain_5 ht_f_n.1 h17 h22 ht_f_n.2 h19), (vc_X11_isDomain_6 ht_f_n.1 h17 h22 ht_f_n.2 h19), trivial⟩
  have h23 : 0 ≤ p1 ∧ p1 ≤ 9 := (vc_X11_isDomain_7 h22 ht_f_n.1 h17 ht_f_n.2 h19)
  have h24 : 1 ≤ f_n ∧ f_n ≤ 10 := (vc_X11_isDomain_8 h22 ht_f_n.1 h17 ht_f_n.2 h23)
  refine mr_iconst (pc := 15) (z := 1) dX11_isDomain_15 ?_
  refine sv_goto (pc := 16) (tgt := 20) dX11_isDomain_16 (by decide) ?_
  exact mr_zretP dX11_isDomain_20 rfl (rW (c := 0) (d := 1) (rR (x := 1)) rfl) (le_t rfl) (le_t rfl) ⟨(rW (c := 0) (d := 1) (rR (x := 1)) rfl), (vc_X11_isDomain_9 ht_f_n.1 h17 h22 h24 h23), (vc_X11_isDomain_10 ht_f_n.1 h17 h22 h24 h23), trivial⟩
theorem vc_X11_isPrefix_1 {p1 : Int} (h0 : p1 < 0) (h1 : (-2147483648) ≤ p1 ∧ p1 ≤ 2147483647) : (-2147483648) ≤ p1 ∧ p1 ≤ (-1) := by omega
theorem vc_X11_isPrefix_2 {f_n p1 : Int} (h0 : p1 < 0) (h1 : 0 ≤ f_n ∧ f_n ≤ 10) (h2 : (-2147483648) ≤ p1 ∧ p1 ≤ (-1)) : (0 : Int) = 1 → 0 ≤ p1 ∧ p1 < f_n := by omega
theorem vc_X11_isPrefix_3 {f_n p1 : Int} (h0 : p1 < 0) (h1 : 0 ≤ f_n ∧ f_n ≤ 10) (h2 : (-2147483648) ≤ p1 ∧ p1 ≤ (-1)) : (0 : Int) = 0 → p1 < 0 ∨ f_n ≤ p1 := by omega
theorem vc_X11_isPrefix_4 {p1 : Int} (h0 : 0 ≤ p1) (h1 : (-2147483648) ≤ p1 ∧ p1 ≤ 2147483647) : 0 ≤ p1 ∧ p1 ≤ 2147483647 := by omega
theorem vc_X11_isPrefix_5 {f_n p1 : Int} (h0 : 0 ≤ p1) (h1 : f_n ≤ p1) (h2 : 0 ≤ f_n ∧ f_n ≤ 10) (h3 : 0 ≤ p1 ∧ p1 ≤ 2147483647) : (0 : Int) = 1 → 0 ≤ p1 ∧ p1 < f_n := by omega
theorem vc_X11_isPrefix_6 {f_n p1 : Int} (h0 : 0 ≤ p1) (h1 : f_n ≤ p1) (h2 : 0 ≤ f_n ∧ f_n ≤ 10) (h3 : 0 ≤ p1 ∧ p1 ≤ 2147483647) : (0 : Int) = 0 → p1 < 0 ∨ f_n ≤ p1 := by omega
theorem vc_X11_isPrefix_7 {f_n p1 : Int} (h0 : p1 < f_n) (h1 : 0 ≤ p1) (h2 : 0 ≤ f_n ∧ f_n ≤ 10) (h3 : 0 ≤ p1 ∧ p1 ≤ 2147483647) : 0 ≤ p1 ∧ p1 ≤ 9 := by omega
theorem vc_X11_isPrefix_8 {f_n p1 : Int} (h0 : p1 < f_n) (h1 : 0 ≤ p1) (h2 : 0 ≤ f_n ∧ f_n ≤ 10) (h3 : 0 ≤ p1 ∧ p1 ≤ 9) : 1 ≤ f_n ∧ f_n ≤ 10 := by omega
theorem vc_X11_isPrefix_9 {f_n p1 : Int} (h0 : 0 ≤ p1) (h1 : p1 < f_n) (h2 : 1 ≤ f_n ∧ f_n ≤ 10) (h3 : 0 ≤ p1 ∧ p1 ≤ 9) : (1 : Int) = 1 → 0 ≤ p1 ∧ p1 < f_n := by omega
theorem vc_X11_isPrefix_10 {f_n p1 : Int} (h0 : 0 ≤ p1) (h1 : p1 < f_n) (h2 : 1 ≤ f_n ∧ f_n ≤ 10) (h3 : 0 ≤ p1 ∧ p1 ≤ 9) : (1 : Int) = 0 → p1 < 0 ∨ f_n ≤ p1 := by omega
set_option maxRecDepth 4000 in
set_option maxHeartbeats 4000000 in
theorem c_X11_isPrefix {l : Launch} {D : va_G} {c : Nat → ClassId} {H0 : Heap} {sa : Nat × Nat × (Nat → Int32)} {w : mW} {μ : mM} (hw : mWF w) (hT : mT w μ) {p1 : Int} (hp1 : (-2147483648) ≤ p1 ∧ p1 ≤ 2147483647) {f_n : Int} (q_f_n : μ 6 14 = f_n) : sC (gG l D c H0 sa) mX11_isPrefix 1 0 0 [.ref 0, iv p1] (mk w μ) (qP w μ (fun z => (0 ≤ z ∧ z ≤ 1) ∧ (z = 1 → 0 ≤ p1 ∧ p1 < f_n) ∧ (z = 0 → p1 < 0 ∨ f_n ≤ p1) ∧ True)) := by
  refine sC.of rfl (by decide) (le_t rfl) ?_
  have ht_f_n : (0 ≤ f_n ∧ f_n ≤ 10) := by rw [← q_f_n]; exact hT 6 6 (A_6 hw) 14
  refine mr_lvE (lv' := [(0, .ref 0), (1, iv p1)]) rfl ?_
  refine mr_iload_n (pc := 0) (z := p1) dX11_isPrefix_0 rfl rfl ?_
  refine mr_if_lt (pc := 1) (tgt := 19) dX11_isPrefix_1 (by decide) hp1 (fun h17 => ?_) (fun h17 => ?_)
  · have h18 : (-2147483648) ≤ p1 ∧ p1 ≤ (-1) := (vc_X11_isPrefix_1 h17 hp1)
    refine mr_iconst (pc := 19) (z := 0) dX11_isPrefix_19 ?_
    exact mr_zretP dX11_isPrefix_20 rfl (rW (c := 0) (d := 1) (rR (x := 0)) rfl) (le_t rfl) (le_t rfl) ⟨(rW (c := 0) (d := 1) (rR (x := 0)) rfl), (vc_X11_isPrefix_2 h17 ht_f_n h18), (vc_X11_isPrefix_3 h17 ht_f_n h18), trivial⟩
  have h19 : 0 ≤ p1 ∧ p1 ≤ 2147483647 := (vc_X11_isPrefix_4 h17 hp1)
  refine mr_iload_n (pc := 4) (z := p1) dX11_isPrefix_4 rfl rfl ?_
  refine sv_aload_n (pc := 5) dX11_isPrefix_5 rfl rfl ?_
  refine gf_X11_3 (pc := 6) dX11_isPrefix_6 wF_X11_26 (A_0 hw) hT ?_
  refine gk_X10_14 (pc := 9) dX11_isPrefix_9 wF_X11_92 (A_6 hw) q_f_n ?_
  refine mr_icmp_ge (pc := 12) (tgt := 19) dX11_isPrefix_12 (by decide) (r32 h19 rfl) (r32 ht_f_n rfl) (fun h22 => ?_) (fun h22 => ?_)
  · refine mr_iconst (pc := 19) (z := 0) dX11_isPrefix_19 ?_
    exact mr_zretP dX11_isPrefix_20 rfl (rW (c := 0) (d := 1) (rR (x := 0)) rfl) (le_t rfl) (le_t rfl) ⟨(rW (c := 0) (d := 1) (rR (x := 0)) rfl), (vc_X11_isPrefix_5 h17 h22 ht_f_n h19), (vc_X11_isPrefix_6 h17 h22 ht_f_n h19), trivial⟩
  have h23 : 0 ≤ p1 ∧ p1 ≤ 9 := (vc_X11_isPrefix_7 h22 h17 ht_f_n h19)
  have h24 : 1 ≤ f_n ∧ f_n ≤ 10 := (vc_X11_isPrefix_8 h22 h17 ht_f_n h23)
  refine mr_iconst (pc := 15) (z := 1) dX11_isPrefix_15 ?_
  refine sv_goto (pc := 16) (tgt := 20) dX11_isPrefix_16 (by decide) ?_
  exact mr_zretP dX11_isPrefix_20 rfl (rW (c := 0) (d := 1) (rR (x := 1)) rfl) (le_t rfl) (le_t rfl) ⟨(rW (c := 0) (d := 1) (rR (x := 1)) rfl), (vc_X11_isPrefix_9 h17 h22 h24 h23), (vc_X11_isPrefix_10 h17 h22 h24 h23), trivial⟩
theorem vc_X11_isTie_1 {p1 : Int} (h0 : p1 < 0) (h1 : (-2147483648) ≤ p1 ∧ p1 ≤ 2147483647) : (-2147483648) ≤ p1 ∧ p1 ≤ (-1) := by omega
theorem vc_X11_isTie_2 {f_n n1 p1 : Int} (h0 : f_n = n1) (h1 : p1 < 0) (h2 : 0 ≤ f_n ∧ f_n ≤ 20) (h3 : (-2147483648) ≤ p1 ∧ p1 ≤ (-1)) : (0 : Int) = 1 → 0 ≤ p1 ∧ p1 < f_n := by omega
theorem vc_X11_isTie_3 {f_n n1 p1 : Int} (h0 : f_n = n1) (h1 : p1 < 0) (h2 : 0 ≤ f_n ∧ f_n ≤ 20) (h3 : (-2147483648) ≤ p1 ∧ p1 ≤ (-1)) : (0 : Int) = 0 → p1 < 0 ∨ f_n ≤ p1 := by omega
theorem vc_X11_isTie_4 {p1 : Int} (h0 : 0 ≤ p1) (h1 : (-2147483648) ≤ p1 ∧ p1 ≤ 2147483647) : 0 ≤ p1 ∧ p1 ≤ 2147483647 := by omega
theorem vc_X11_isTie_5 {f_n n1 p1 : Int} (h0 : f_n = n1) (h1 : 0 ≤ p1) (h2 : f_n ≤ p1) (h3 : 0 ≤ f_n ∧ f_n ≤ 20) (h4 : 0 ≤ p1 ∧ p1 ≤ 2147483647) : (0 : Int) = 1 → 0 ≤ p1 ∧ p1 < f_n := by omega
theorem vc_X11_isTie_6 {f_n n1 p1 : Int} (h0 : f_n = n1) (h1 : 0 ≤ p1) (h2 : f_n ≤ p1) (h3 : 0 ≤ f_n ∧ f_n ≤ 20) (h4 : 0 ≤ p1 ∧ p1 ≤ 2147483647) : (0 : Int) = 0 → p1 < 0 ∨ f_n ≤ p1 := by omega
theorem vc_X11_isTie_7 {f_n n1 p1 : Int} (h0 : p1 < f_n) (h1 : f_n = n1) (h2 : 0 ≤ p1) (h3 : 0 ≤ f_n ∧ f_n ≤ 20) (h4 : 0 ≤ p1 ∧ p1 ≤ 2147483647) : 0 ≤ p1 ∧ p1 ≤ 19 := by omega
theorem vc_X11_isTie_8 {f_n n1 p1 : Int} (h0 : p1 < f_n) (h1 : f_n = n1) (h2 : 0 ≤ p1) (h3 : 0 ≤ f_n ∧ f_n ≤ 20) (h4 : 0 ≤ p1 ∧ p1 ≤ 19) : 1 ≤ f_n ∧ f_n ≤ 20 := by omega
theorem vc_X11_isTie_9 {f_n n1 p1 : Int} (h0 : f_n = n1) (h1 : 0 ≤ p1) (h2 : p1 < f_n) (h3 : 1 ≤ f_n ∧ f_n ≤ 20) (h4 : 0 ≤ p1 ∧ p1 ≤ 19) : (1 : Int) = 1 → 0 ≤ p1 ∧ p1 < f_n := by omega
theorem vc_X11_isTie_10 {f_n n1 p1 : Int} (h0 : f_n = n1) (h1 : 0 ≤ p1) (h2 : p1 < f_n) (h3 : 1 ≤ f_n ∧ f_n ≤ 20) (h4 : 0 ≤ p1 ∧ p1 ≤ 19) : (1 : Int) = 0 → p1 < 0 ∨ f_n ≤ p1 := by omega
set_option maxRecDepth 4000 in
set_option maxHeartbeats 4000000 in
theorem c_X11_isTie {l : Launch} {D : va_G} {c : Nat → ClassId} {H0 : Heap} {sa : Nat × Nat × (Nat → Int32)} {w : mW} {μ : mM} (hw : mWF w) (hT : mT w μ) {p1 : Int} (hp1 : (-2147483648) ≤ p1 ∧ p1 ≤ 2147483647) {f_n : Int} (q_f_n : μ 6 16 = f_n) : sC (gG l D c H0 sa) mX11_isTie 1 0 0 [.ref 0, iv p1] (mk w μ) (qP w μ (fun z => (0 ≤ z ∧ z ≤ 1) ∧ (z = 1 → 0 ≤ p1 ∧ p1 < f_n) ∧ (z = 0 → p1 < 0 ∨ f_n ≤ p1) ∧ True)) := by
  refine sC.of rfl (by decide) (le_t rfl) ?_
  have ht_f_n : (f_n = w.2.2.2 1 ∧ 0 ≤ f_n ∧ f_n ≤ 20) := by rw [← q_f_n]; exact hT 6 6 (A_6 hw) 16
  refine mr_lvE (lv' := [(0, .ref 0), (1, iv p1)]) rfl ?_
  refine mr_iload_n (pc := 0) (z := p1) dX11_isTie_0 rfl rfl ?_
  refine mr_if_lt (pc := 1) (tgt := 19) dX11_isTie_1 (by decide) hp1 (fun h17 => ?_) (fun h17 => ?_)
  · have h18 : (-2147483648) ≤ p1 ∧ p1 ≤ (-1) := (vc_X11_isTie_1 h17 hp1)
    refine mr_iconst (pc := 19) (z := 0) dX11_isTie_19 ?_
    exact mr_zretP dX11_isTie_20 rfl (rW (c := 0) (d := 1) (rR (x := 0)) rfl) (le_t rfl) (le_t rfl) ⟨(rW (c := 0) (d := 1) (rR (x := 0)) rfl), (vc_X11_isTie_2 ht_f_n.1 h17 ht_f_n.2 h18), (vc_X11_isTie_3 ht_f_n.1 h17 ht_f_n.2 h18), trivial⟩
  have h19 : 0 ≤ p1 ∧ p1 ≤ 2147483647 := (vc_X11_isTie_4 h17 hp1)
  refine mr_iload_n (pc := 4) (z := p1) dX11_isTie_4 rfl rfl ?_
  refine sv_aload_n (pc := 5) dX11_isTie_5 rfl rfl ?_
  refine gf_X11_3 (pc := 6) dX11_isTie_6 wF_X11_26 (A_0 hw) hT ?_
  refine gk_X10_16 (pc := 9) dX11_isTie_9 wF_X11_112 (A_6 hw) q_f_n ?_
  refine mr_icmp_ge (pc := 12) (tgt := 19) dX11_isTie_12 (by decide) (r32 h19 rfl) (r32 ht_f_n.2 rfl) (fun h22 => ?_) (fun h22 => ?_)
  · refine mr_iconst (pc := 19) (z := 0) dX11_isTie_19 ?_
    exact mr_zretP dX11_isTie_20 rfl (rW (c := 0) (d := 1) (rR (x := 0)) rfl) (le_t rfl) (le_t rfl) ⟨(rW (c := 0) (d := 1) (rR (x := 0)) rfl), (vc_X11_isTie_5 ht_f_n.1 h17 h22 ht_f_n.2 h19), (vc_X11_isTie_6 ht_f_n.1 h17 h22 ht_f_n.2 h19), trivial⟩
  have h23 : 0 ≤ p1 ∧ p1 ≤ 19 := (vc_X11_isTie_7 h22 ht_f_n.1 h17 ht_f_n.2 h19)
  have h24 : 1 ≤ f_n ∧ f_n ≤ 20 := (vc_X11_isTie_8 h22 ht_f_n.1 h17 ht_f_n.2 h23)
  refine mr_iconst (pc := 15) (z := 1) dX11_isTie_15 ?_
  refine sv_goto (pc := 16) (tgt := 20) dX11_isTie_16 (by decide) ?_
  exact mr_zretP dX11_isTie_20 rfl (rW (c := 0) (d := 1) (rR (x := 1)) rfl) (le_t rfl) (le_t rfl) ⟨(rW (c := 0) (d := 1) (rR (x := 1)) rfl), (vc_X11_isTie_9 ht_f_n.1 h17 h22 h24 h23), (vc_X11_isTie_10 ht_f_n.1 h17 h22 h24 h23), trivial⟩
theorem vc_X11_isEither_1 {p1 : Int} (h0 : p1 = 0) (h1 : (-2147483648) ≤ p1 ∧ p1 ≤ 2147483647) : 0 ≤ p1 ∧ p1 ≤ 0 := by omega
theorem vc_X11_isEither_2 {p1 : Int} (h0 : p1 = 0) (h1 : 0 ≤ p1 ∧ p1 ≤ 0) : (1 : Int) = 1 → 0 ≤ p1 ∧ p1 ≤ 1 := by omega
theorem vc_X11_isEither_3 {p1 : Int} (h0 : p1 = 0) (h1 : 0 ≤ p1 ∧ p1 ≤ 0) : (1 : Int) = 0 → p1 < 0 ∨ 1 < p1 := by omega
theorem vc_X11_isEither_4 {p1 : Int} (h0 : ¬ p1 = 0) (h1 : ¬ p1 = 1) (h2 : (-2147483648) ≤ p1 ∧ p1 ≤ 2147483647) : (0 : Int) = 1 → 0 ≤ p1 ∧ p1 ≤ 1 := by omega
theorem vc_X11_isEither_5 {p1 : Int} (h0 : ¬ p1 = 0) (h1 : ¬ p1 = 1) (h2 : (-2147483648) ≤ p1 ∧ p1 ≤ 2147483647) : (0 : Int) = 0 → p1 < 0 ∨ 1 < p1 := by omega
theorem vc_X11_isEither_6 {p1 : Int} (h0 : p1 = 1) (h1 : ¬ p1 = 0) (h2 : (-2147483648) ≤ p1 ∧ p1 ≤ 2147483647) : 1 ≤ p1 ∧ p1 ≤ 1 := by omega
theorem vc_X11_isEither_7 {p1 : Int} (h0 : ¬ p1 = 0) (h1 : p1 = 1) (h2 : 1 ≤ p1 ∧ p1 ≤ 1) : (1 : Int) = 1 → 0 ≤ p1 ∧ p1 ≤ 1 := by omega
theorem vc_X11_isEither_8 {p1 : Int} (h0 : ¬ p1 = 0) (h1 : p1 = 1) (h2 : 1 ≤ p1 ∧ p1 ≤ 1) : (1 : Int) = 0 → p1 < 0 ∨ 1 < p1 := by omega
set_option maxRecDepth 4000 in
set_option maxHeartbeats 4000000 in
theorem c_X11_isEither {l : Launch} {D : va_G} {c : Nat → ClassId} {H0 : Heap} {sa : Nat × Nat × (Nat → Int32)} {w : mW} {μ : mM} (hw : mWF w) (hT : mT w μ) {p1 : Int} (hp1 : (-2147483648) ≤ p1 ∧ p1 ≤ 2147483647) : sC (gG l D c H0 sa) mX11_isEither 1 0 0 [iv p1] (mk w μ) (qP w μ (fun z => (0 ≤ z ∧ z ≤ 1) ∧ (z = 1 → 0 ≤ p1 ∧ p1 ≤ 1) ∧ (z = 0 → p1 < 0 ∨ 1 < p1) ∧ True)) := by
  refine sC.of rfl (by decide) (le_t rfl) ?_
  refine mr_lvE (lv' := [(0, iv p1)]) rfl ?_
  refine mr_iload_n (pc := 0) (z := p1) dX11_isEither_0 rfl rfl ?_
  refine mr_if_eq (pc := 1) (tgt := 9) dX11_isEither_1 (by decide) hp1 (fun h3 => ?_) (fun h3 => ?_)
  · have h4 : 0 ≤ p1 ∧ p1 ≤ 0 := (vc_X11_isEither_1 h3 hp1)
    refine mr_iconst (pc := 9) (z := 1) dX11_isEither_9 ?_
    refine sv_goto (pc := 10) (tgt := 14) dX11_isEither_10 (by decide) ?_
    exact mr_zretP dX11_isEither_14 rfl (rW (c := 0) (d := 1) (rR (x := 1)) rfl) (le_t rfl) (le_t rfl) ⟨(rW (c := 0) (d := 1) (rR (x := 1)) rfl), (vc_X11_isEither_2 h3 h4), (vc_X11_isEither_3 h3 h4), trivial⟩
  refine mr_iload_n (pc := 4) (z := p1) dX11_isEither_4 rfl rfl ?_
  refine mr_iconst (pc := 5) (z := 1) dX11_isEither_5 ?_
  refine mr_icmp_ne (pc := 6) (tgt := 13) dX11_isEither_6 (by decide) hp1 (r32 (rR (x := 1)) rfl) (fun h6 => ?_) (fun h6 => ?_)
  · refine mr_iconst (pc := 13) (z := 0) dX11_isEither_13 ?_
    exact mr_zretP dX11_isEither_14 rfl (rW (c := 0) (d := 1) (rR (x := 0)) rfl) (le_t rfl) (le_t rfl) ⟨(rW (c := 0) (d := 1) (rR (x := 0)) rfl), (vc_X11_isEither_4 h3 h6 hp1), (vc_X11_isEither_5 h3 h6 hp1), trivial⟩
  have h7 : 1 ≤ p1 ∧ p1 ≤ 1 := (vc_X11_isEither_6 h6 h3 hp1)
  refine mr_iconst (pc := 9) (z := 1) dX11_isEither_9 ?_
  refine sv_goto (pc := 10) (tgt := 14) dX11_isEither_10 (by decide) ?_
  exact mr_zretP dX11_isEither_14 rfl (rW (c := 0) (d := 1) (rR (x := 1)) rfl) (le_t rfl) (le_t rfl) ⟨(rW (c := 0) (d := 1) (rR (x := 1)) rfl), (vc_X11_isEither_7 h3 h6 h7), (vc_X11_isEither_8 h3 h6 h7), trivial⟩
theorem vc_X11_feedNumber_1 {f_t0 : Int} (h0 : f_t0 ≤ 996) (h1 : 0 ≤ f_t0 ∧ f_t0 ≤ 1000) : 0 ≤ f_t0 ∧ f_t0 ≤ 996 := by omega
theorem vc_X11_feedNumber_2 {f_t f_t0 z310 : Int} (h0 : (z310 - (-9)) < ((0 : Nat) : Int)) (h1 : 8 * f_t + z310 = 8 * f_t0 + 24) (h2 : f_t0 ≤ 996) (h3 : 0 ≤ f_t0 ∧ f_t0 ≤ 996) (h4 : (-8) ≤ z310 ∧ z310 ≤ 24) : False := by omega
theorem vc_X11_feedNumber_3 {f_t f_t0 z310 : Int} (h0 : z310 < 0) (h1 : 8 * f_t + z310 = 8 * f_t0 + 24) (h2 : 0 ≤ f_t ∧ f_t ≤ 1000) (h3 : 0 ≤ f_t0 ∧ f_t0 ≤ 996) (h4 : (-8) ≤ z310 ∧ z310 ≤ 24) : (-8) ≤ z310 ∧ z310 ≤ (-1) := by omega
theorem vc_X11_feedNumber_4 {f_t f_t0 z310 : Int} (h0 : f_t0 ≤ 996) (h1 : 8 * f_t + z310 = 8 * f_t0 + 24) (h2 : z310 < 0) (h3 : 0 ≤ f_t ∧ f_t ≤ 1000) (h4 : 0 ≤ f_t0 ∧ f_t0 ≤ 996) (h5 : (-8) ≤ z310 ∧ z310 ≤ (-1)) : f_t = f_t0 + 4 := by omega
theorem vc_X11_feedNumber_5 {f_t f_t0 z310 : Int} (h0 : 0 ≤ z310) (h1 : 8 * f_t + z310 = 8 * f_t0 + 24) (h2 : 0 ≤ f_t ∧ f_t ≤ 1000) (h3 : 0 ≤ f_t0 ∧ f_t0 ≤ 996) (h4 : (-8) ≤ z310 ∧ z310 ≤ 24) : 0 ≤ z310 ∧ z310 ≤ 24 := by omega
theorem vc_X11_feedNumber_6 {f_t f_t0 z310 : Int} (h0 : 8 * f_t + z310 = 8 * f_t0 + 24) (h1 : f_t0 ≤ 996) (h2 : 0 ≤ z310) (h3 : 0 ≤ f_t ∧ f_t ≤ 1000) (h4 : 0 ≤ f_t0 ∧ f_t0 ≤ 996) (h5 : 0 ≤ z310 ∧ z310 ≤ 24) : 0 ≤ f_t ∧ f_t < 1000 := by omega
theorem vc_X11_feedNumber_7 {f_t f_t0 z310 : Int} (h0 : 8 * f_t + z310 = 8 * f_t0 + 24) (h1 : f_t0 ≤ 996) (h2 : 0 ≤ z310) (h3 : 0 ≤ f_t ∧ f_t ≤ 1000) (h4 : 0 ≤ f_t0 ∧ f_t0 ≤ 996) (h5 : 0 ≤ z310 ∧ z310 ≤ 24) : 0 ≤ (f_t + 1) ∧ (f_t + 1) ≤ 1000 := by omega
theorem vc_X11_feedNumber_8 {f_t f_t0 z310 : Int} (h0 : f_t0 ≤ 996) (h1 : 8 * f_t + z310 = 8 * f_t0 + 24) (h2 : 0 ≤ z310) (h3 : 0 ≤ f_t ∧ f_t ≤ 1000) (h4 : 0 ≤ f_t0 ∧ f_t0 ≤ 996) (h5 : 0 ≤ z310 ∧ z310 ≤ 24) : 8 * (f_t + 1) + (z310 + (-8)) = 8 * f_t0 + 24 := by omega
theorem vc_X11_feedNumber_9 {N f_t f_t0 z310 : Int} (h0 : (z310 - (-9)) < N + 1) (h1 : 8 * f_t + z310 = 8 * f_t0 + 24) (h2 : 0 ≤ z310) (h3 : f_t0 ≤ 996) (h4 : 0 ≤ f_t ∧ f_t ≤ 1000) (h5 : 0 ≤ f_t0 ∧ f_t0 ≤ 996) (h6 : 0 ≤ z310 ∧ z310 ≤ 24) : ((z310 + (-8)) - (-9)) < N := by omega
theorem vc_X11_feedNumber_10 {f_t0 : Int} (h0 : f_t0 ≤ 996) (h1 : 0 ≤ f_t0 ∧ f_t0 ≤ 996) : 8 * f_t0 + (24 : Int) = 8 * f_t0 + 24 := by omega
theorem vc_X11_feedNumber_11  : (24 - (-9)) < ((34 : Nat) : Int) := by omega
set_option maxRecDepth 4000 in
set_option maxHeartbeats 4000000 in
theorem c_X11_feedNumber {l : Launch} {D : va_G} {c : Nat → ClassId} {H0 : Heap} {sa : Nat × Nat × (Nat → Int32)} {w : mW} {μ : mM} (hw : mWF w) (hT : mT w μ) {p1 : Int} (hp1 : (-2147483648) ≤ p1 ∧ p1 ≤ 2147483647) {f_t0 : Int} (q_f_t0 : μ 0 10 = f_t0) (hq0 : f_t0 ≤ 996) : sC (gG l D c H0 sa) mX11_feedNumber 1 0 0 [.ref 0, iv p1] (mk w μ) (qV w [10, 1999] μ (fun μ1 => ∃ o_t : Int, μ1 0 10 = o_t ∧ (o_t = f_t0 + 4) ∧ True)) := by
  refine sC.of rfl (by decide) (le_t rfl) ?_
  have ht_f_t0 : (0 ≤ f_t0 ∧ f_t0 ≤ 1000) := by rw [← q_f_t0]; exact hT 0 0 (A_0 hw) 10
  have h1 : 0 ≤ f_t0 ∧ f_t0 ≤ 996 := (vc_X11_feedNumber_1 hq0 ht_f_t0)
  refine mr_lvE (lv' := [(0, .ref 0), (1, iv p1)]) rfl ?_
  refine mr_bipush (pc := 0) (z := 24) dX11_feedNumber_0 (by decide) ?_
  refine mr_istore_n (pc := 2) (lv' := [(2, iv 24), (0, .ref 0), (1, iv p1)]) dX11_feedNumber_2 rfl (by decide) rfl ?_
  have L312 : ∀ (nL312 : Nat) (z310 : Int) (μ311 : mM) (f_t : Int), mT w μ311 → mF [10, 1999] w μ μ311 → μ311 0 (10) = f_t → ((-8) ≤ z310 ∧ z310 ≤ 24) → (8 * f_t + z310 = 8 * f_t0 + 24) → (z310 - (-9)) < (nL312 : Int) → sV (gG l D c H0 sa) mX11_feedNumber (sRm 1 0 0) (sZ (gG l D c H0 sa) 0 0 (qV w [10, 1999] μ (fun μ1 => ∃ o_t : Int, μ1 0 10 = o_t ∧ (o_t = f_t0 + 4) ∧ True))) 3 [(0, .ref 0), (1, iv p1), (2, iv z310)] [] (mk w μ311) 0 0 := by
    intro nL312
    induction nL312 with
    | zero => intro z310 μ311 f_t T314 F315 q319 h313 h317 h318; exact ((vc_X11_feedNumber_2 h318 h317 hq0 h1 h313)).elim
    | succ nL312 ih320 =>
      intro z310 μ311 f_t T314 F315 q319 h313 h317 h318
      have h321 : (0 ≤ f_t ∧ f_t ≤ 1000) := by rw [← q319]; exact T314 0 0 (A_0 hw) (10)
      refine mr_iload_n (pc := 3) (z := z310) dX11_feedNumber_3 rfl rfl ?_
      refine mr_if_lt (pc := 4) (tgt := 39) dX11_feedNumber_4 (by decide) (r32 h313 rfl) (fun h336 => ?_) (fun h336 => ?_)
      · have h337 : (-8) ≤ z310 ∧ z310 ≤ (-1) := (vc_X11_feedNumber_3 h336 h317 h321 h1 h313)
        exact mr_vret dX11_feedNumber_39 rfl (le_t rfl) (le_t rfl) T314 (mF.call mF.refl F315 rfl) ⟨f_t, q319, (vc_X11_feedNumber_4 hq0 h317 h336 h321 h1 h337), trivial⟩
      have h338 : 0 ≤ z310 ∧ z310 ≤ 24 := (vc_X11_feedNumber_5 h336 h317 h321 h1 h313)
      refine sv_aload_n (pc := 7) dX11_feedNumber_7 rfl rfl ?_
      refine gf_X11_0 (pc := 8) dX11_feedNumber_8 wF_X11_9 (A_0 hw) T314 ?_
      refine sv_aload_n (pc := 11) dX11_feedNumber_11 rfl rfl ?_
      refine gk_X11_10 (pc := 12) dX11_feedNumber_12 wF_X11_76 (A_0 hw) q319 ?_
      refine mr_iload_n (pc := 15) (z := p1) dX11_feedNumber_15 rfl rfl ?_
      refine mr_iload_n (pc := 16) (z := z310) dX11_feedNumber_16 rfl rfl ?_
      refine mr_iushr (pc := 17) (x := p1) (y := z310) dX11_feedNumber_17 ?_
      refine mr_gen (P := fun z => (-2147483648) ≤ z ∧ z ≤ 2147483647) (r32i _) fun z339 q340 h341 => ?_
      refine mr_sipush (pc := 18) (z := 255) dX11_feedNumber_18 (by decide) ?_
      refine mr_iand (pc := 21) (x := z339) (y := 255) dX11_feedNumber_21 ?_
      refine mr_gen (P := fun z => 0 ≤ z ∧ z ≤ 255) (rAndR (rR (x := 255)) rfl) fun z342 q343 h344 => ?_
      refine ss_1 (pc := 22) dX11_feedNumber_22 (A_1 hw) T314 (vc_X11_feedNumber_6 h317 hq0 h336 h321 h1 h338) h344 fun μ345 u346 T347 => ?_
      refine sv_aload_n (pc := 23) dX11_feedNumber_23 rfl rfl ?_
      refine sv_dup (pc := 24) dX11_feedNumber_24 rfl ?_
      refine gk_X11_10 (pc := 25) dX11_feedNumber_25 wF_X11_76 (A_0 hw) (u346.f (Or.inl (mAt.ne (A_1 hw) (A_0 hw) rfl)) q319) ?_
      refine mr_iconst (pc := 28) (z := 1) dX11_feedNumber_28 ?_
      refine mr_iadd (pc := 29) (x := f_t) (y := 1) dX11_feedNumber_29 ?_
      refine pf_X11_10 (pc := 30) dX11_feedNumber_30 wF_X11_76 (A_0 hw) T347 (vc_X11_feedNumber_7 h317 hq0 h336 h321 h1 h338) fun μ348 u349 T350 => ?_
      refine mr_iinc (pc := 33) (lv' := [(2, iv (z310 + (-8))), (0, .ref 0), (1, iv p1)]) dX11_feedNumber_33 rfl (by decide) rfl ?_
      refine sv_goto (pc := 36) (tgt := 3) dX11_feedNumber_36 (by decide) ?_
      refine mr_lvS (lv' := [(0, .ref 0), (1, iv p1), (2, iv (z310 + (-8)))]) (List.forall_mem_cons.mpr ⟨rfl, List.forall_mem_cons.mpr ⟨rfl, List.forall_mem_cons.mpr ⟨rfl, fun _ h => absurd h List.not_mem_nil⟩⟩⟩) ?_
      exact ih320 (z310 + (-8)) μ348 (f_t + 1) T350 (mF.up (mF.up (mF.call mF.refl F315 rfl) (A_1 hw) u346 rfl) (A_0 hw) u349 rfl) u349.1 (rW (c := (-8)) (d := 24) (rAdd (e := (-8)) (f := 16) h338 (rR (x := (-8))) rfl) rfl) (vc_X11_feedNumber_8 hq0 h317 h336 h321 h1 h338) (vc_X11_feedNumber_9 (nS h318) h317 h336 hq0 h321 h1 h338)
  refine mr_lvS (lv' := [(0, .ref 0), (1, iv p1), (2, iv 24)]) (List.forall_mem_cons.mpr ⟨rfl, List.forall_mem_cons.mpr ⟨rfl, List.forall_mem_cons.mpr ⟨rfl, fun _ h => absurd h List.not_mem_nil⟩⟩⟩) ?_
  exact L312 34 24 μ f_t0 hT mF.refl q_f_t0 (rW (c := (-8)) (d := 24) (rR (x := 24)) rfl) (vc_X11_feedNumber_10 hq0 h1) vc_X11_feedNumber_11
theorem vc_X11_feed_1 {z1 : Int} (h0 : (z1 + 20) ≤ 1000) (h1 : 0 ≤ z1 ∧ z1 ≤ 1000) : 0 ≤ z1 ∧ z1 ≤ 980 := by omega
theorem vc_X11_feed_2 {z1 : Int} (h0 : (z1 + 20) ≤ 1000) (h1 : 0 ≤ z1 ∧ z1 ≤ 980) : z1 ≤ 996 := by omega
theorem vc_X11_feed_3 {z1 z10 : Int} (h0 : (z1 + 20) ≤ 1000) (h1 : z10 = z1 + 4) (h2 : 0 ≤ z1 ∧ z1 ≤ 980) (h3 : 0 ≤ z10 ∧ z10 ≤ 1000) : (z1 + 4) ≤ 996 := by omega
theorem vc_X11_feed_4 {z1 z10 z19 : Int} (h0 : (z1 + 20) ≤ 1000) (h1 : z10 = z1 + 4) (h2 : z19 = (z1 + 4) + 4) (h3 : 0 ≤ z1 ∧ z1 ≤ 980) (h4 : 0 ≤ z10 ∧ z10 ≤ 1000) (h5 : 0 ≤ z19 ∧ z19 ≤ 1000) : ((z1 + 4) + 4) ≤ 996 := by omega
theorem vc_X11_feed_5 {z1 z10 z19 z28 : Int} (h0 : (z1 + 20) ≤ 1000) (h1 : z10 = z1 + 4) (h2 : z19 = (z1 + 4) + 4) (h3 : z28 = ((z1 + 4) + 4) + 4) (h4 : 0 ≤ z1 ∧ z1 ≤ 980) (h5 : 0 ≤ z10 ∧ z10 ≤ 1000) (h6 : 0 ≤ z19 ∧ z19 ≤ 1000) (h7 : 0 ≤ z28 ∧ z28 ≤ 1000) : (((z1 + 4) + 4) + 4) ≤ 996 := by omega
theorem vc_X11_feed_6 {z1 z10 z19 z28 z37 : Int} (h0 : (z1 + 20) ≤ 1000) (h1 : z10 = z1 + 4) (h2 : z19 = (z1 + 4) + 4) (h3 : z28 = ((z1 + 4) + 4) + 4) (h4 : z37 = (((z1 + 4) + 4) + 4) + 4) (h5 : 0 ≤ z1 ∧ z1 ≤ 980) (h6 : 0 ≤ z10 ∧ z10 ≤ 1000) (h7 : 0 ≤ z19 ∧ z19 ≤ 1000) (h8 : 0 ≤ z28 ∧ z28 ≤ 1000) (h9 : 0 ≤ z37 ∧ z37 ≤ 1000) : ((((z1 + 4) + 4) + 4) + 4) ≤ 996 := by omega
theorem vc_X11_feed_7 {z1 : Int} (h0 : 1000 < (z1 + 20)) (h1 : 0 ≤ z1 ∧ z1 ≤ 1000) : 981 ≤ z1 ∧ z1 ≤ 1000 := by omega
set_option maxRecDepth 4000 in
set_option maxHeartbeats 4000000 in
theorem c_X11_feed {l : Launch} {D : va_G} {c : Nat → ClassId} {H0 : Heap} {sa : Nat × Nat × (Nat → Int32)} {w : mW} {μ : mM} (hw : mWF w) (hT : mT w μ) {p1 : Int} (hp1 : (-2147483648) ≤ p1 ∧ p1 ≤ 2147483647) {p2 : Int} (hp2 : (-2147483648) ≤ p2 ∧ p2 ≤ 2147483647) {p3 : Int} (hp3 : (-2147483648) ≤ p3 ∧ p3 ≤ 2147483647) {p4 : Int} (hp4 : (-2147483648) ≤ p4 ∧ p4 ≤ 2147483647) {p5 : Int} (hp5 : (-2147483648) ≤ p5 ∧ p5 ≤ 2147483647) : sC (gG l D c H0 sa) mX11_feed 2 0 0 [.ref 0, iv p1, iv p2, iv p3, iv p4, iv p5] (mk w μ) (qI w [10, 1999] μ (fun z μ1 => ((-2147483648) ≤ z ∧ z ≤ 2147483647) ∧ True)) := by
  refine sC.of rfl (by decide) (le_t rfl) ?_
  refine mr_lvE (lv' := [(0, .ref 0), (1, iv p1), (2, iv p2), (3, iv p3), (4, iv p4), (5, iv p5)]) rfl ?_
  refine sv_aload_n (pc := 0) dX11_feed_0 rfl rfl ?_
  refine gf_X11_10 (pc := 1) dX11_feed_1 wF_X11_76 (A_0 hw) hT fun z1 q2 h3 => ?_
  refine mr_bipush (pc := 4) (z := 20) dX11_feed_4 (by decide) ?_
  refine mr_iadd (pc := 6) (x := z1) (y := 20) dX11_feed_6 ?_
  refine mr_sipush (pc := 7) (z := 1000) dX11_feed_7 (by decide) ?_
  refine mr_icmp_le (pc := 10) (tgt := 16) dX11_feed_10 (by decide) (r32 (rAdd (e := 20) (f := 1020) h3 (rR (x := 20)) rfl) rfl) (r32 (rR (x := 1000)) rfl) (fun h4 => ?_) (fun h4 => ?_)
  · have h5 : 0 ≤ z1 ∧ z1 ≤ 980 := (vc_X11_feed_1 h4 h3)
    refine sv_aload_n (pc := 16) dX11_feed_16 rfl rfl ?_
    refine mr_iload_n (pc := 17) (z := p1) dX11_feed_17 rfl rfl ?_
    refine mr_cVV (pc := 18) (c_X11_feedNumber hw hT hp1 q2 (vc_X11_feed_2 h4 h5)) (gOk _ _ _ _ _) dX11_feed_18 (tX11_feedNumber _ _ _ _ _) ⟨wV_X11_feedNumber, wL_X11_feedNumber⟩ wM_X11_80 (gCX11 _ _ _ _ _) rfl (A_0 hw) rfl ⟨le_t rfl, le_t rfl⟩ ⟨le_t rfl, le_t rfl⟩ rfl (le_t rfl) fun μ6 T7 F8 h9 => ?_
    obtain ⟨z10, q11, h12⟩ := h9
    have h13 : (0 ≤ z10 ∧ z10 ≤ 1000) := by rw [← q11]; exact T7 0 0 (A_0 hw) 10
    have q14 : μ6 0 10 = (z1 + 4) := q11.trans h12.1
    refine sv_aload_n (pc := 21) dX11_feed_21 rfl rfl ?_
    refine mr_iload_n (pc := 22) (z := p2) dX11_feed_22 rfl rfl ?_
    refine mr_cVV (pc := 23) (c_X11_feedNumber hw T7 hp2 q14 (vc_X11_feed_3 h4 h12.1 h5 h13)) (gOk _ _ _ _ _) dX11_feed_23 (tX11_feedNumber _ _ _ _ _) ⟨wV_X11_feedNumber, wL_X11_feedNumber⟩ wM_X11_80 (gCX11 _ _ _ _ _) rfl (A_0 hw) rfl ⟨le_t rfl, le_t rfl⟩ ⟨le_t rfl, le_t rfl⟩ rfl (le_t rfl) fun μ15 T16 F17 h18 => ?_
    obtain ⟨z19, q20, h21⟩ := h18
    have h22 : (0 ≤ z19 ∧ z19 ≤ 1000) := by rw [← q20]; exact T16 0 0 (A_0 hw) 10
    have q23 : μ15 0 10 = ((z1 + 4) + 4) := q20.trans h21.1
    refine sv_aload_n (pc := 26) dX11_feed_26 rfl rfl ?_
    refine mr_iload_n (pc := 27) (z := p3) dX11_feed_27 rfl rfl ?_
    refine mr_cVV (pc := 28) (c_X11_feedNumber hw T16 hp3 q23 (vc_X11_feed_4 h4 h12.1 h21.1 h5 h13 h22)) (gOk _ _ _ _ _) dX11_feed_28 (tX11_feedNumber _ _ _ _ _) ⟨wV_X11_feedNumber, wL_X11_feedNumber⟩ wM_X11_80 (gCX11 _ _ _ _ _) rfl (A_0 hw) rfl ⟨le_t rfl, le_t rfl⟩ ⟨le_t rfl, le_t rfl⟩ rfl (le_t rfl) fun μ24 T25 F26 h27 => ?_
    obtain ⟨z28, q29, h30⟩ := h27
    have h31 : (0 ≤ z28 ∧ z28 ≤ 1000) := by rw [← q29]; exact T25 0 0 (A_0 hw) 10
    have q32 : μ24 0 10 = (((z1 + 4) + 4) + 4) := q29.trans h30.1
    refine sv_aload_n (pc := 31) dX11_feed_31 rfl rfl ?_
    refine mr_iload (pc := 32) (z := p4) dX11_feed_32 rfl ?_
    refine mr_cVV (pc := 34) (c_X11_feedNumber hw T25 hp4 q32 (vc_X11_feed_5 h4 h12.1 h21.1 h30.1 h5 h13 h22 h31)) (gOk _ _ _ _ _) dX11_feed_34 (tX11_feedNumber _ _ _ _ _) ⟨wV_X11_feedNumber, wL_X11_feedNumber⟩ wM_X11_80 (gCX11 _ _ _ _ _) rfl (A_0 hw) rfl ⟨le_t rfl, le_t rfl⟩ ⟨le_t rfl, le_t rfl⟩ rfl (le_t rfl) fun μ33 T34 F35 h36 => ?_
    obtain ⟨z37, q38, h39⟩ := h36
    have h40 : (0 ≤ z37 ∧ z37 ≤ 1000) := by rw [← q38]; exact T34 0 0 (A_0 hw) 10
    have q41 : μ33 0 10 = ((((z1 + 4) + 4) + 4) + 4) := q38.trans h39.1
    refine sv_aload_n (pc := 37) dX11_feed_37 rfl rfl ?_
    refine mr_iload (pc := 38) (z := p5) dX11_feed_38 rfl ?_
    refine mr_cVV (pc := 40) (c_X11_feedNumber hw T34 hp5 q41 (vc_X11_feed_6 h4 h12.1 h21.1 h30.1 h39.1 h5 h13 h22 h31 h40)) (gOk _ _ _ _ _) dX11_feed_40 (tX11_feedNumber _ _ _ _ _) ⟨wV_X11_feedNumber, wL_X11_feedNumber⟩ wM_X11_80 (gCX11 _ _ _ _ _) rfl (A_0 hw) rfl ⟨le_t rfl, le_t rfl⟩ ⟨le_t rfl, le_t rfl⟩ rfl (le_t rfl) fun μ42 T43 F44 h45 => ?_
    obtain ⟨z46, q47, h48⟩ := h45
    have h49 : (0 ≤ z46 ∧ z46 ≤ 1000) := by rw [← q47]; exact T43 0 0 (A_0 hw) 10
    have q50 : μ42 0 10 = (((((z1 + 4) + 4) + 4) + 4) + 4) := q47.trans h48.1
    refine sv_aload_n (pc := 43) dX11_feed_43 rfl rfl ?_
    refine gk_X11_10 (pc := 44) dX11_feed_44 wF_X11_76 (A_0 hw) q50 ?_
    exact mr_iret dX11_feed_47 rfl (le_t rfl) (le_t rfl) T43 (mF.call (mF.call (mF.call (mF.call (mF.call mF.refl F8 rfl) F17 rfl) F26 rfl) F35 rfl) F44 rfl) ⟨(rW (c := (-2147483648)) (d := 2147483647) (rAdd (e := 20) (f := 1000) (rAdd (e := 16) (f := 996) (rAdd (e := 12) (f := 992) (rAdd (e := 8) (f := 988) (rAdd (e := 4) (f := 984) h5 (rR (x := 4)) rfl) (rR (x := 4)) rfl) (rR (x := 4)) rfl) (rR (x := 4)) rfl) (rR (x := 4)) rfl) rfl), trivial⟩
  have h51 : 981 ≤ z1 ∧ z1 ≤ 1000 := (vc_X11_feed_7 h4 h3)
  refine mr_bipush (pc := 13) (z := (-3)) dX11_feed_13 (by decide) ?_
  exact mr_iret dX11_feed_15 rfl (le_t rfl) (le_t rfl) hT mF.refl ⟨(rW (c := (-2147483648)) (d := 2147483647) (rR (x := (-3))) rfl), trivial⟩
theorem vc_X11_cut_1 {p1 : Int} (h0 : p1 < 0) (h1 : (-2147483648) ≤ p1 ∧ p1 ≤ 2147483647) : (-2147483648) ≤ p1 ∧ p1 ≤ (-1) := by omega
theorem vc_X11_cut_2 {p1 : Int} (h0 : 0 ≤ p1) (h1 : (-2147483648) ≤ p1 ∧ p1 ≤ 2147483647) : 0 ≤ p1 ∧ p1 ≤ 2147483647 := by omega
theorem vc_X11_cut_3 {p1 z4 : Int} (h0 : p1 ≤ z4) (h1 : 0 ≤ p1) (h2 : 0 ≤ p1 ∧ p1 ≤ 2147483647) (h3 : 0 ≤ z4 ∧ z4 ≤ 1000) : 0 ≤ p1 ∧ p1 ≤ 1000 := by omega
theorem vc_X11_cut_4 {p1 z4 : Int} (h0 : z4 < p1) (h1 : 0 ≤ p1) (h2 : 0 ≤ p1 ∧ p1 ≤ 2147483647) (h3 : 0 ≤ z4 ∧ z4 ≤ 1000) : 1 ≤ p1 ∧ p1 ≤ 2147483647 := by omega
set_option maxRecDepth 4000 in
set_option maxHeartbeats 4000000 in
theorem c_X11_cut {l : Launch} {D : va_G} {c : Nat → ClassId} {H0 : Heap} {sa : Nat × Nat × (Nat → Int32)} {w : mW} {μ : mM} (hw : mWF w) (hT : mT w μ) {p1 : Int} (hp1 : (-2147483648) ≤ p1 ∧ p1 ≤ 2147483647) : sC (gG l D c H0 sa) mX11_cut 1 0 0 [.ref 0, iv p1] (mk w μ) (qI w [10] μ (fun z μ1 => ((-2147483648) ≤ z ∧ z ≤ 2147483647) ∧ True)) := by
  refine sC.of rfl (by decide) (le_t rfl) ?_
  refine mr_lvE (lv' := [(0, .ref 0), (1, iv p1)]) rfl ?_
  refine mr_iload_n (pc := 0) (z := p1) dX11_cut_0 rfl rfl ?_
  refine mr_if_lt (pc := 1) (tgt := 12) dX11_cut_1 (by decide) hp1 (fun h1 => ?_) (fun h1 => ?_)
  · have h2 : (-2147483648) ≤ p1 ∧ p1 ≤ (-1) := (vc_X11_cut_1 h1 hp1)
    refine mr_iconst (pc := 12) (z := (-1)) dX11_cut_12 ?_
    exact mr_iret dX11_cut_13 rfl (le_t rfl) (le_t rfl) hT mF.refl ⟨(rW (c := (-2147483648)) (d := 2147483647) (rR (x := (-1))) rfl), trivial⟩
  have h3 : 0 ≤ p1 ∧ p1 ≤ 2147483647 := (vc_X11_cut_2 h1 hp1)
  refine mr_iload_n (pc := 4) (z := p1) dX11_cut_4 rfl rfl ?_
  refine sv_aload_n (pc := 5) dX11_cut_5 rfl rfl ?_
  refine gf_X11_10 (pc := 6) dX11_cut_6 wF_X11_76 (A_0 hw) hT fun z4 q5 h6 => ?_
  refine mr_icmp_le (pc := 9) (tgt := 14) dX11_cut_9 (by decide) (r32 h3 rfl) (r32 h6 rfl) (fun h7 => ?_) (fun h7 => ?_)
  · have h8 : 0 ≤ p1 ∧ p1 ≤ 1000 := (vc_X11_cut_3 h7 h1 h3 h6)
    refine sv_aload_n (pc := 14) dX11_cut_14 rfl rfl ?_
    refine gk_X11_10 (pc := 15) dX11_cut_15 wF_X11_76 (A_0 hw) q5 ?_
    refine mr_istore_n (pc := 18) (lv' := [(2, iv z4), (0, .ref 0), (1, iv p1)]) dX11_cut_18 rfl (by decide) rfl ?_
    refine sv_aload_n (pc := 19) dX11_cut_19 rfl rfl ?_
    refine mr_iload_n (pc := 20) (z := p1) dX11_cut_20 rfl rfl ?_
    refine pf_X11_10 (pc := 21) dX11_cut_21 wF_X11_76 (A_0 hw) hT h8 fun μ9 u10 T11 => ?_
    refine mr_iload_n (pc := 24) (z := z4) dX11_cut_24 rfl rfl ?_
    exact mr_iret dX11_cut_25 rfl (le_t rfl) (le_t rfl) T11 (mF.up mF.refl (A_0 hw) u10 rfl) ⟨(rW (c := (-2147483648)) (d := 2147483647) h6 rfl), trivial⟩
  have h12 : 1 ≤ p1 ∧ p1 ≤ 2147483647 := (vc_X11_cut_4 h7 h1 h3 h6)
  refine mr_iconst (pc := 12) (z := (-1)) dX11_cut_12 ?_
  exact mr_iret dX11_cut_13 rfl (le_t rfl) (le_t rfl) hT mF.refl ⟨(rW (c := (-2147483648)) (d := 2147483647) (rR (x := (-1))) rfl), trivial⟩
theorem vc_X11_prefix_1 {p2 : Int} (h0 : p2 < 0) (h1 : (-2147483648) ≤ p2 ∧ p2 ≤ 2147483647) : (-2147483648) ≤ p2 ∧ p2 ≤ (-1) := by omega
theorem vc_X11_prefix_2 {p2 : Int} (h0 : 0 ≤ p2) (h1 : (-2147483648) ≤ p2 ∧ p2 ≤ 2147483647) : 0 ≤ p2 ∧ p2 ≤ 2147483647 := by omega
theorem vc_X11_prefix_3 {p2 : Int} (h0 : 32 < p2) (h1 : 0 ≤ p2) (h2 : 0 ≤ p2 ∧ p2 ≤ 2147483647) : 33 ≤ p2 ∧ p2 ≤ 2147483647 := by omega
theorem vc_X11_prefix_4 {p2 : Int} (h0 : p2 ≤ 32) (h1 : 0 ≤ p2) (h2 : 0 ≤ p2 ∧ p2 ≤ 2147483647) : 0 ≤ p2 ∧ p2 ≤ 32 := by omega
theorem vc_X11_prefix_5 {z15 : Int} (h0 : z15 = 0) (h1 : (-2147483648) ≤ z15 ∧ z15 ≤ 2147483647) : 0 ≤ z15 ∧ z15 ≤ 0 := by omega
theorem vc_X11_prefix_6 {z24 : Int} (h0 : z24 < 0) (h1 : (-1) ≤ z24 ∧ z24 ≤ 9) : (-1) ≤ z24 ∧ z24 ≤ (-1) := by omega
theorem vc_X11_prefix_7 {z27 : Int} (h0 : z27 < 10) (h1 : 0 ≤ z27 ∧ z27 ≤ 10) : 0 ≤ z27 ∧ z27 ≤ 9 := by omega
theorem vc_X11_prefix_8 {z27 : Int} (h0 : z27 < 10) (h1 : 0 ≤ z27 ∧ z27 ≤ 9) : z27 ≤ 9 := by omega
theorem vc_X11_prefix_9 {z27 : Int} (h0 : 10 ≤ z27) (h1 : 0 ≤ z27 ∧ z27 ≤ 10) : 10 ≤ z27 ∧ z27 ≤ 10 := by omega
theorem vc_X11_prefix_10 {z24 : Int} (h0 : 0 ≤ z24) (h1 : (-1) ≤ z24 ∧ z24 ≤ 9) : 0 ≤ z24 ∧ z24 ≤ 9 := by omega
set_option maxRecDepth 4000 in
set_option maxHeartbeats 4000000 in
theorem c_X11_prefix {l : Launch} {D : va_G} {c : Nat → ClassId} {H0 : Heap} {sa : Nat × Nat × (Nat → Int32)} {w : mW} {μ : mM} (hw : mWF w) (hT : mT w μ) {p1 : Int} (hp1 : (-2147483648) ≤ p1 ∧ p1 ≤ 2147483647) {p2 : Int} (hp2 : (-2147483648) ≤ p2 ∧ p2 ≤ 2147483647) : sC (gG l D c H0 sa) mX11_prefix 3 0 0 [.ref 0, iv p1, iv p2] (mk w μ) (qI w [6014, 7999, 8999, 9999] μ (fun z μ1 => ((-2147483648) ≤ z ∧ z ≤ 2147483647) ∧ True)) := by
  refine sC.of rfl (by decide) (le_t rfl) ?_
  refine mr_lvE (lv' := [(0, .ref 0), (1, iv p1), (2, iv p2)]) rfl ?_
  refine mr_iload_n (pc := 0) (z := p2) dX11_prefix_0 rfl rfl ?_
  refine mr_if_lt (pc := 1) (tgt := 21) dX11_prefix_1 (by decide) hp2 (fun h1 => ?_) (fun h1 => ?_)
  · have h2 : (-2147483648) ≤ p2 ∧ p2 ≤ (-1) := (vc_X11_prefix_1 h1 hp2)
    refine mr_iconst (pc := 21) (z := (-1)) dX11_prefix_21 ?_
    exact mr_iret dX11_prefix_22 rfl (le_t rfl) (le_t rfl) hT mF.refl ⟨(rW (c := (-2147483648)) (d := 2147483647) (rR (x := (-1))) rfl), trivial⟩
  have h3 : 0 ≤ p2 ∧ p2 ≤ 2147483647 := (vc_X11_prefix_2 h1 hp2)
  refine mr_iload_n (pc := 4) (z := p2) dX11_prefix_4 rfl rfl ?_
  refine mr_bipush (pc := 5) (z := 32) dX11_prefix_5 (by decide) ?_
  refine mr_icmp_gt (pc := 7) (tgt := 21) dX11_prefix_7 (by decide) (r32 h3 rfl) (r32 (rR (x := 32)) rfl) (fun h4 => ?_) (fun h4 => ?_)
  · have h5 : 33 ≤ p2 ∧ p2 ≤ 2147483647 := (vc_X11_prefix_3 h4 h1 h3)
    refine mr_iconst (pc := 21) (z := (-1)) dX11_prefix_21 ?_
    exact mr_iret dX11_prefix_22 rfl (le_t rfl) (le_t rfl) hT mF.refl ⟨(rW (c := (-2147483648)) (d := 2147483647) (rR (x := (-1))) rfl), trivial⟩
  have h6 : 0 ≤ p2 ∧ p2 ≤ 32 := (vc_X11_prefix_4 h4 h1 h3)
  refine mr_iload_n (pc := 10) (z := p1) dX11_prefix_10 rfl rfl ?_
  refine mr_iload_n (pc := 11) (z := p2) dX11_prefix_11 rfl rfl ?_
  refine mr_cSP (pc := 12) (c_X10_maskOf hw hT (rW (c := (-2147483648)) (d := 2147483647) h6 rfl)) (gOk _ _ _ _ _) dX11_prefix_12 (tX10_maskOf _ _ _ _ _) wS_X10_maskOf wM_X11_84 ⟨le_t rfl, le_t rfl⟩ ⟨le_t rfl, le_t rfl⟩ rfl (le_t rfl) fun z11 h10 => ?_
  refine mr_iconst (pc := 15) (z := (-1)) dX11_prefix_15 ?_
  refine mr_ixor (pc := 16) (x := z11) (y := (-1)) dX11_prefix_16 ?_
  refine mr_gen (P := fun z => (-2147483648) ≤ z ∧ z ≤ 2147483647) (r32i _) fun z12 q13 h14 => ?_
  refine mr_iand (pc := 17) (x := p1) (y := z12) dX11_prefix_17 ?_
  refine mr_gen (P := fun z => (-2147483648) ≤ z ∧ z ≤ 2147483647) (r32i _) fun z15 q16 h17 => ?_
  refine mr_if_eq (pc := 18) (tgt := 23) dX11_prefix_18 (by decide) h17 (fun h18 => ?_) (fun h18 => ?_)
  · have h19 : 0 ≤ z15 ∧ z15 ≤ 0 := (vc_X11_prefix_5 h18 h17)
    refine sv_aload_n (pc := 23) dX11_prefix_23 rfl rfl ?_
    refine gf_X11_3 (pc := 24) dX11_prefix_24 wF_X11_26 (A_0 hw) hT ?_
    refine mr_iload_n (pc := 27) (z := p1) dX11_prefix_27 rfl rfl ?_
    refine mr_iload_n (pc := 28) (z := p2) dX11_prefix_28 rfl rfl ?_
    refine mr_cVP (pc := 29) (c_X10_findPrefix hw hT hp1 (rW (c := (-2147483648)) (d := 2147483647) h6 rfl)) (gOk _ _ _ _ _) dX11_prefix_29 (tX10_findPrefix _ _ _ _ _) ⟨wV_X10_findPrefix, wL_X10_findPrefix⟩ wM_X11_88 (gCX10 _ _ _ _ _) rfl (A_6 hw) rfl ⟨le_t rfl, le_t rfl⟩ ⟨le_t rfl, le_t rfl⟩ rfl (le_t rfl) fun z24 h23 => ?_
    refine mr_if_lt (pc := 32) (tgt := 38) dX11_prefix_32 (by decide) (r32 h23.1 rfl) (fun h25 => ?_) (fun h25 => ?_)
    · have h26 : (-1) ≤ z24 ∧ z24 ≤ (-1) := (vc_X11_prefix_6 h25 h23.1)
      refine sv_aload_n (pc := 38) dX11_prefix_38 rfl rfl ?_
      refine gf_X11_3 (pc := 39) dX11_prefix_39 wF_X11_26 (A_0 hw) hT ?_
      refine gf_X10_14 (pc := 42) dX11_prefix_42 wF_X11_92 (A_6 hw) hT fun z27 q28 h29 => ?_
      refine mr_bipush (pc := 45) (z := 10) dX11_prefix_45 (by decide) ?_
      refine mr_icmp_lt (pc := 47) (tgt := 53) dX11_prefix_47 (by decide) (r32 h29 rfl) (r32 (rR (x := 10)) rfl) (fun h30 => ?_) (fun h30 => ?_)
      · have h31 : 0 ≤ z27 ∧ z27 ≤ 9 := (vc_X11_prefix_7 h30 h29)
        refine sv_aload_n (pc := 53) dX11_prefix_53 rfl rfl ?_
        refine gf_X11_3 (pc := 54) dX11_prefix_54 wF_X11_26 (A_0 hw) hT ?_
        refine mr_iload_n (pc := 57) (z := p1) dX11_prefix_57 rfl rfl ?_
        refine mr_iload_n (pc := 58) (z := p2) dX11_prefix_58 rfl rfl ?_
        refine mr_cVI (pc := 59) (c_X10_addPrefix hw hT hp1 h6 q28 (vc_X11_prefix_8 h30 h31)) (gOk _ _ _ _ _) dX11_prefix_59 (tX10_addPrefix _ _ _ _ _) ⟨wV_X10_addPrefix, wL_X10_addPrefix⟩ wM_X11_95 (gCX10 _ _ _ _ _) rfl (A_6 hw) rfl ⟨le_t rfl, le_t rfl⟩ ⟨le_t rfl, le_t rfl⟩ rfl (le_t rfl) fun z36 μ32 T33 F34 h35 => ?_
        exact mr_iret dX11_prefix_62 rfl (le_t rfl) (le_t rfl) T33 (mF.call mF.refl F34 rfl) ⟨h35.1, trivial⟩
      have h37 : 10 ≤ z27 ∧ z27 ≤ 10 := (vc_X11_prefix_9 h30 h29)
      refine mr_bipush (pc := 50) (z := (-3)) dX11_prefix_50 (by decide) ?_
      exact mr_iret dX11_prefix_52 rfl (le_t rfl) (le_t rfl) hT mF.refl ⟨(rW (c := (-2147483648)) (d := 2147483647) (rR (x := (-3))) rfl), trivial⟩
    have h38 : 0 ≤ z24 ∧ z24 ≤ 9 := (vc_X11_prefix_10 h25 h23.1)
    refine mr_bipush (pc := 35) (z := (-2)) dX11_prefix_35 (by decide) ?_
    exact mr_iret dX11_prefix_37 rfl (le_t rfl) (le_t rfl) hT mF.refl ⟨(rW (c := (-2147483648)) (d := 2147483647) (rR (x := (-2))) rfl), trivial⟩
  refine mr_iconst (pc := 21) (z := (-1)) dX11_prefix_21 ?_
  exact mr_iret dX11_prefix_22 rfl (le_t rfl) (le_t rfl) hT mF.refl ⟨(rW (c := (-2147483648)) (d := 2147483647) (rR (x := (-1))) rfl), trivial⟩
theorem vc_X11_pace_1 {p1 z1 z8 : Int} (h0 : z8 = 0) (h1 : (z8 = 1 → 0 ≤ p1 ∧ p1 < z1)) (h2 : (z8 = 0 → p1 < 0 ∨ z1 ≤ p1)) (h3 : (-2147483648) ≤ p1 ∧ p1 ≤ 2147483647) (h4 : 0 ≤ z1 ∧ z1 ≤ 20) (h5 : 0 ≤ z8 ∧ z8 ≤ 1) : 0 ≤ z8 ∧ z8 ≤ 0 := by omega
theorem vc_X11_pace_2 {n1 p1 z1 z8 : Int} (h0 : (z8 = 1 → 0 ≤ p1 ∧ p1 < z1)) (h1 : (z8 = 0 → p1 < 0 ∨ z1 ≤ p1)) (h2 : z8 = 0) (h3 : z1 = n1) (h4 : (-2147483648) ≤ p1 ∧ p1 ≤ 2147483647) (h5 : 0 ≤ z1 ∧ z1 ≤ 20) (h6 : 0 ≤ z8 ∧ z8 ≤ 0) : z8 = 0 := by omega
theorem vc_X11_pace_3 {p1 z1 z8 : Int} (h0 : ¬ z8 = 0) (h1 : (z8 = 1 → 0 ≤ p1 ∧ p1 < z1)) (h2 : (z8 = 0 → p1 < 0 ∨ z1 ≤ p1)) (h3 : (-2147483648) ≤ p1 ∧ p1 ≤ 2147483647) (h4 : 0 ≤ z1 ∧ z1 ≤ 20) (h5 : 0 ≤ z8 ∧ z8 ≤ 1) : 1 ≤ z8 ∧ z8 ≤ 1 := by omega
theorem vc_X11_pace_4 {n1 p1 z1 z8 : Int} (h0 : (z8 = 1 → 0 ≤ p1 ∧ p1 < z1)) (h1 : (z8 = 0 → p1 < 0 ∨ z1 ≤ p1)) (h2 : ¬ z8 = 0) (h3 : z1 = n1) (h4 : (-2147483648) ≤ p1 ∧ p1 ≤ 2147483647) (h5 : 0 ≤ z1 ∧ z1 ≤ 20) (h6 : 1 ≤ z8 ∧ z8 ≤ 1) : z8 = 1 := by omega
theorem vc_X11_pace_5 {n1 p1 z1 z8 : Int} (h0 : 0 ≤ p1 ∧ p1 < z1) (h1 : z1 = n1) (h2 : (z8 = 1 → 0 ≤ p1 ∧ p1 < z1)) (h3 : (z8 = 0 → p1 < 0 ∨ z1 ≤ p1)) (h4 : (-2147483648) ≤ p1 ∧ p1 ≤ 2147483647) (h5 : 0 ≤ z1 ∧ z1 ≤ 20) (h6 : 1 ≤ z8 ∧ z8 ≤ 1) : 0 ≤ p1 ∧ p1 ≤ 19 := by omega
theorem vc_X11_pace_6 {n1 p1 z1 z8 : Int} (h0 : 0 ≤ p1 ∧ p1 < z1) (h1 : z1 = n1) (h2 : (z8 = 1 → 0 ≤ p1 ∧ p1 < z1)) (h3 : (z8 = 0 → p1 < 0 ∨ z1 ≤ p1)) (h4 : 0 ≤ p1 ∧ p1 ≤ 19) (h5 : 0 ≤ z1 ∧ z1 ≤ 20) (h6 : 1 ≤ z8 ∧ z8 ≤ 1) : 1 ≤ z1 ∧ z1 ≤ 20 := by omega
theorem vc_X11_pace_7 {p2 : Int} (h0 : p2 < 1) (h1 : (-2147483648) ≤ p2 ∧ p2 ≤ 2147483647) : (-2147483648) ≤ p2 ∧ p2 ≤ 0 := by omega
theorem vc_X11_pace_8 {p2 : Int} (h0 : 1 ≤ p2) (h1 : (-2147483648) ≤ p2 ∧ p2 ≤ 2147483647) : 1 ≤ p2 ∧ p2 ≤ 2147483647 := by omega
theorem vc_X11_pace_9 {p2 : Int} (h0 : 1000 < p2) (h1 : 1 ≤ p2) (h2 : 1 ≤ p2 ∧ p2 ≤ 2147483647) : 1001 ≤ p2 ∧ p2 ≤ 2147483647 := by omega
theorem vc_X11_pace_10 {p2 : Int} (h0 : p2 ≤ 1000) (h1 : 1 ≤ p2) (h2 : 1 ≤ p2 ∧ p2 ≤ 2147483647) : 1 ≤ p2 ∧ p2 ≤ 1000 := by omega
theorem vc_X11_pace_11 {p3 : Int} (h0 : p3 < 0) (h1 : (-2147483648) ≤ p3 ∧ p3 ≤ 2147483647) : (-2147483648) ≤ p3 ∧ p3 ≤ (-1) := by omega
theorem vc_X11_pace_12 {p3 : Int} (h0 : 0 ≤ p3) (h1 : (-2147483648) ≤ p3 ∧ p3 ≤ 2147483647) : 0 ≤ p3 ∧ p3 ≤ 2147483647 := by omega
theorem vc_X11_pace_13 {p3 : Int} (h0 : p3 ≤ 1000) (h1 : 0 ≤ p3) (h2 : 0 ≤ p3 ∧ p3 ≤ 2147483647) : 0 ≤ p3 ∧ p3 ≤ 1000 := by omega
theorem vc_X11_pace_14 {n1 p1 z1 z8 : Int} (h0 : z1 = n1) (h1 : (z8 = 1 → 0 ≤ p1 ∧ p1 < z1)) (h2 : (z8 = 0 → p1 < 0 ∨ z1 ≤ p1)) (h3 : 0 ≤ p1 ∧ p1 < z1) (h4 : ¬ z8 = 0) (h5 : 0 ≤ p1 ∧ p1 ≤ 19) (h6 : 1 ≤ z1 ∧ z1 ≤ 20) (h7 : 1 ≤ z8 ∧ z8 ≤ 1) : p1 < n1 := by omega
theorem vc_X11_pace_15 {p3 : Int} (h0 : 1000 < p3) (h1 : 0 ≤ p3) (h2 : 0 ≤ p3 ∧ p3 ≤ 2147483647) : 1001 ≤ p3 ∧ p3 ≤ 2147483647 := by omega
set_option maxRecDepth 4000 in
set_option maxHeartbeats 4000000 in
theorem c_X11_pace {l : Launch} {D : va_G} {c : Nat → ClassId} {H0 : Heap} {sa : Nat × Nat × (Nat → Int32)} {w : mW} {μ : mM} (hw : mWF w) (hT : mT w μ) {p1 : Int} (hp1 : (-2147483648) ≤ p1 ∧ p1 ≤ 2147483647) {p2 : Int} (hp2 : (-2147483648) ≤ p2 ∧ p2 ≤ 2147483647) {p3 : Int} (hp3 : (-2147483648) ≤ p3 ∧ p3 ≤ 2147483647) : sC (gG l D c H0 sa) mX11_pace 2 0 0 [.ref 0, iv p1, iv p2, iv p3] (mk w μ) (qI w [220007, 220008] μ (fun z μ1 => ((-2147483648) ≤ z ∧ z ≤ 2147483647) ∧ True)) := by
  refine sC.of rfl (by decide) (le_t rfl) ?_
  refine mr_lvE (lv' := [(0, .ref 0), (1, iv p1), (2, iv p2), (3, iv p3)]) rfl ?_
  refine sv_aload_n (pc := 0) dX11_pace_0 rfl rfl ?_
  refine mr_iload_n (pc := 1) (z := p1) dX11_pace_1 rfl rfl ?_
  obtain ⟨z1, q2⟩ : ∃ z, μ 6 16 = z := ⟨_, rfl⟩
  have h3 : (z1 = w.2.2.2 1 ∧ 0 ≤ z1 ∧ z1 ≤ 20) := by rw [← q2]; exact hT 6 6 (A_6 hw) 16
  refine mr_cVP (pc := 2) (c_X11_isTie hw hT hp1 q2) (gOk _ _ _ _ _) dX11_pace_2 (tX11_isTie _ _ _ _ _) ⟨wV_X11_isTie, wL_X11_isTie⟩ wM_X11_119 (gCX11 _ _ _ _ _) rfl (A_0 hw) rfl ⟨le_t rfl, le_t rfl⟩ ⟨le_t rfl, le_t rfl⟩ rfl (le_t rfl) fun z8 h7 => ?_
  refine mr_if_eq (pc := 5) (tgt := 31) dX11_pace_5 (by decide) (r32 h7.1 rfl) (fun h9 => ?_) (fun h9 => ?_)
  · have h10 : 0 ≤ z8 ∧ z8 ≤ 0 := (vc_X11_pace_1 h9 h7.2.1 h7.2.2.1 hp1 h3.2 h7.1)
    have h11 : p1 < 0 ∨ z1 ≤ p1 := (h7.2.2.1 (vc_X11_pace_2 h7.2.1 h7.2.2.1 h9 h3.1 hp1 h3.2 h10))
    refine mr_iconst (pc := 31) (z := (-1)) dX11_pace_31 ?_
    exact mr_iret dX11_pace_32 rfl (le_t rfl) (le_t rfl) hT mF.refl ⟨(rW (c := (-2147483648)) (d := 2147483647) (rR (x := (-1))) rfl), trivial⟩
  have h12 : 1 ≤ z8 ∧ z8 ≤ 1 := (vc_X11_pace_3 h9 h7.2.1 h7.2.2.1 hp1 h3.2 h7.1)
  have h13 : 0 ≤ p1 ∧ p1 < z1 := (h7.2.1 (vc_X11_pace_4 h7.2.1 h7.2.2.1 h9 h3.1 hp1 h3.2 h12))
  have h14 : 0 ≤ p1 ∧ p1 ≤ 19 := (vc_X11_pace_5 h13 h3.1 h7.2.1 h7.2.2.1 hp1 h3.2 h12)
  have h15 : 1 ≤ z1 ∧ z1 ≤ 20 := (vc_X11_pace_6 h13 h3.1 h7.2.1 h7.2.2.1 h14 h3.2 h12)
  refine mr_iload_n (pc := 8) (z := p2) dX11_pace_8 rfl rfl ?_
  refine mr_iconst (pc := 9) (z := 1) dX11_pace_9 ?_
  refine mr_icmp_lt (pc := 10) (tgt := 31) dX11_pace_10 (by decide) hp2 (r32 (rR (x := 1)) rfl) (fun h16 => ?_) (fun h16 => ?_)
  · have h17 : (-2147483648) ≤ p2 ∧ p2 ≤ 0 := (vc_X11_pace_7 h16 hp2)
    refine mr_iconst (pc := 31) (z := (-1)) dX11_pace_31 ?_
    exact mr_iret dX11_pace_32 rfl (le_t rfl) (le_t rfl) hT mF.refl ⟨(rW (c := (-2147483648)) (d := 2147483647) (rR (x := (-1))) rfl), trivial⟩
  have h18 : 1 ≤ p2 ∧ p2 ≤ 2147483647 := (vc_X11_pace_8 h16 hp2)
  refine mr_iload_n (pc := 13) (z := p2) dX11_pace_13 rfl rfl ?_
  refine mr_sipush (pc := 14) (z := 1000) dX11_pace_14 (by decide) ?_
  refine mr_icmp_gt (pc := 17) (tgt := 31) dX11_pace_17 (by decide) (r32 h18 rfl) (r32 (rR (x := 1000)) rfl) (fun h19 => ?_) (fun h19 => ?_)
  · have h20 : 1001 ≤ p2 ∧ p2 ≤ 2147483647 := (vc_X11_pace_9 h19 h16 h18)
    refine mr_iconst (pc := 31) (z := (-1)) dX11_pace_31 ?_
    exact mr_iret dX11_pace_32 rfl (le_t rfl) (le_t rfl) hT mF.refl ⟨(rW (c := (-2147483648)) (d := 2147483647) (rR (x := (-1))) rfl), trivial⟩
  have h21 : 1 ≤ p2 ∧ p2 ≤ 1000 := (vc_X11_pace_10 h19 h16 h18)
  refine mr_iload_n (pc := 20) (z := p3) dX11_pace_20 rfl rfl ?_
  refine mr_if_lt (pc := 21) (tgt := 31) dX11_pace_21 (by decide) hp3 (fun h22 => ?_) (fun h22 => ?_)
  · have h23 : (-2147483648) ≤ p3 ∧ p3 ≤ (-1) := (vc_X11_pace_11 h22 hp3)
    refine mr_iconst (pc := 31) (z := (-1)) dX11_pace_31 ?_
    exact mr_iret dX11_pace_32 rfl (le_t rfl) (le_t rfl) hT mF.refl ⟨(rW (c := (-2147483648)) (d := 2147483647) (rR (x := (-1))) rfl), trivial⟩
  have h24 : 0 ≤ p3 ∧ p3 ≤ 2147483647 := (vc_X11_pace_12 h22 hp3)
  refine mr_iload_n (pc := 24) (z := p3) dX11_pace_24 rfl rfl ?_
  refine mr_sipush (pc := 25) (z := 1000) dX11_pace_25 (by decide) ?_
  refine mr_icmp_le (pc := 28) (tgt := 33) dX11_pace_28 (by decide) (r32 h24 rfl) (r32 (rR (x := 1000)) rfl) (fun h25 => ?_) (fun h25 => ?_)
  · have h26 : 0 ≤ p3 ∧ p3 ≤ 1000 := (vc_X11_pace_13 h25 h22 h24)
    refine sv_aload_n (pc := 33) dX11_pace_33 rfl rfl ?_
    refine gf_X11_3 (pc := 34) dX11_pace_34 wF_X11_26 (A_0 hw) hT ?_
    refine gf_X10_4 (pc := 37) dX11_pace_37 wF_X11_122 (A_6 hw) hT ?_
    refine mr_iload_n (pc := 40) (z := p1) dX11_pace_40 rfl rfl ?_
    refine la_11 (pc := 41) dX11_pace_41 (A_11 hw) hT (rIx (n := 20) h14 rfl) (vc_X11_pace_14 h3.1 h7.2.1 h7.2.2.1 h13 h9 h14 h15 h12) fun b27 q28 A29 => ?_
    refine mr_iload_n (pc := 42) (z := p2) dX11_pace_42 rfl rfl ?_
    refine pf_X9_7 (pc := 43) dX11_pace_43 wF_X11_126 A29 hT (rW (c := 0) (d := 1000) h21 rfl) fun μ30 u31 T32 => ?_
    refine sv_aload_n (pc := 46) dX11_pace_46 rfl rfl ?_
    refine gf_X11_3 (pc := 47) dX11_pace_47 wF_X11_26 (A_0 hw) T32 ?_
    refine gf_X10_4 (pc := 50) dX11_pace_50 wF_X11_122 (A_6 hw) T32 ?_
    refine mr_iload_n (pc := 53) (z := p1) dX11_pace_53 rfl rfl ?_
    refine lk_11 (pc := 54) dX11_pace_54 (A_11 hw) (rIx (n := 20) h14 rfl) (u31.f (Or.inl (mAt.ne A29 (A_11 hw) rfl)) q28) ?_
    refine mr_iload_n (pc := 55) (z := p3) dX11_pace_55 rfl rfl ?_
    refine pf_X9_8 (pc := 56) dX11_pace_56 wF_X11_131 A29 T32 h26 fun μ33 u34 T35 => ?_
    refine mr_iconst (pc := 59) (z := 0) dX11_pace_59 ?_
    exact mr_iret dX11_pace_60 rfl (le_t rfl) (le_t rfl) T35 (mF.up (mF.up mF.refl A29 u31 rfl) A29 u34 rfl) ⟨(rW (c := (-2147483648)) (d := 2147483647) (rR (x := 0)) rfl), trivial⟩
  have h36 : 1001 ≤ p3 ∧ p3 ≤ 2147483647 := (vc_X11_pace_15 h25 h22 h24)
  refine mr_iconst (pc := 31) (z := (-1)) dX11_pace_31 ?_
  exact mr_iret dX11_pace_32 rfl (le_t rfl) (le_t rfl) hT mF.refl ⟨(rW (c := (-2147483648)) (d := 2147483647) (rR (x := (-1))) rfl), trivial⟩
theorem vc_X11_ring_1 {p1 : Int} (h0 : p1 < 0) (h1 : (-2147483648) ≤ p1 ∧ p1 ≤ 2147483647) : (-2147483648) ≤ p1 ∧ p1 ≤ (-1) := by omega
theorem vc_X11_ring_2 {p1 : Int} (h0 : 0 ≤ p1) (h1 : (-2147483648) ≤ p1 ∧ p1 ≤ 2147483647) : 0 ≤ p1 ∧ p1 ≤ 2147483647 := by omega
theorem vc_X11_ring_3 {p1 z5 : Int} (h0 : p1 < z5) (h1 : 0 ≤ p1) (h2 : 0 ≤ p1 ∧ p1 ≤ 2147483647) (h3 : 0 ≤ z5 ∧ z5 ≤ 10) : 0 ≤ p1 ∧ p1 ≤ 9 := by omega
theorem vc_X11_ring_4 {p1 z5 : Int} (h0 : p1 < z5) (h1 : 0 ≤ p1) (h2 : 0 ≤ p1 ∧ p1 ≤ 9) (h3 : 0 ≤ z5 ∧ z5 ≤ 10) : 1 ≤ z5 ∧ z5 ≤ 10 := by omega
set_option maxRecDepth 4000 in
set_option maxHeartbeats 4000000 in
theorem c_X11_ring {l : Launch} {D : va_G} {c : Nat → ClassId} {H0 : Heap} {sa : Nat × Nat × (Nat → Int32)} {w : mW} {μ : mM} (hw : mWF w) (hT : mT w μ) {p1 : Int} (hp1 : (-2147483648) ≤ p1 ∧ p1 ≤ 2147483647) : sC (gG l D c H0 sa) mX11_ring 5 0 0 [.ref 0, iv p1] (mk w μ) (qI w [12999, 13999] μ (fun z μ1 => ((-2147483648) ≤ z ∧ z ≤ 2147483647) ∧ True)) := by
  refine sC.of rfl (by decide) (le_t rfl) ?_
  refine mr_lvE (lv' := [(0, .ref 0), (1, iv p1)]) rfl ?_
  refine sv_aload_n (pc := 0) dX11_ring_0 rfl rfl ?_
  refine gf_X11_3 (pc := 1) dX11_ring_1 wF_X11_26 (A_0 hw) hT ?_
  refine mr_cVI (pc := 4) (c_X10_findRing hw hT) (gOk _ _ _ _ _) dX11_ring_4 (tX10_findRing _ _ _ _ _) ⟨wV_X10_findRing, wL_X10_findRing⟩ wM_X11_162 (gCX10 _ _ _ _ _) rfl (A_6 hw) rfl ⟨le_t rfl, le_t rfl⟩ ⟨le_t rfl, le_t rfl⟩ rfl (le_t rfl) fun z5 μ1 T2 F3 h4 => ?_
  refine mr_istore_n (pc := 7) (lv' := [(2, iv z5), (0, .ref 0), (1, iv p1)]) dX11_ring_7 rfl (by decide) rfl ?_
  refine mr_iload_n (pc := 8) (z := p1) dX11_ring_8 rfl rfl ?_
  refine mr_if_lt (pc := 9) (tgt := 17) dX11_ring_9 (by decide) hp1 (fun h13 => ?_) (fun h13 => ?_)
  · have h14 : (-2147483648) ≤ p1 ∧ p1 ≤ (-1) := (vc_X11_ring_1 h13 hp1)
    refine mr_ldc (pc := 17) (z := (-99999999)) dX11_ring_17 wG_X11_165 (by decide) ?_
    refine sv_goto (pc := 19) (tgt := 31) dX11_ring_19 (by decide) ?_
    exact mr_iret dX11_ring_31 rfl (le_t rfl) (le_t rfl) T2 (mF.call mF.refl F3 rfl) ⟨(rW (c := (-2147483648)) (d := 2147483647) (rR (x := (-99999999))) rfl), trivial⟩
  have h15 : 0 ≤ p1 ∧ p1 ≤ 2147483647 := (vc_X11_ring_2 h13 hp1)
  refine mr_iload_n (pc := 12) (z := p1) dX11_ring_12 rfl rfl ?_
  refine mr_iload_n (pc := 13) (z := z5) dX11_ring_13 rfl rfl ?_
  refine mr_icmp_lt (pc := 14) (tgt := 22) dX11_ring_14 (by decide) (r32 h15 rfl) (r32 h4.1 rfl) (fun h21 => ?_) (fun h21 => ?_)
  · have h22 : 0 ≤ p1 ∧ p1 ≤ 9 := (vc_X11_ring_3 h21 h13 h15 h4.1)
    have h23 : 1 ≤ z5 ∧ z5 ≤ 10 := (vc_X11_ring_4 h21 h13 h22 h4.1)
    refine sv_aload_n (pc := 22) dX11_ring_22 rfl rfl ?_
    refine gf_X11_3 (pc := 23) dX11_ring_23 wF_X11_26 (A_0 hw) T2 ?_
    refine gf_X10_5 (pc := 26) dX11_ring_26 wF_X11_166 (A_6 hw) T2 ?_
    refine mr_iload_n (pc := 29) (z := p1) dX11_ring_29 rfl rfl ?_
    refine la_12 (pc := 30) dX11_ring_30 (A_12 hw) T2 (rIx (n := 10) h22 rfl) fun z24 q25 h26 => ?_
    exact mr_iret dX11_ring_31 rfl (le_t rfl) (le_t rfl) T2 (mF.call mF.refl F3 rfl) ⟨(rW (c := (-2147483648)) (d := 2147483647) h26 rfl), trivial⟩
  refine mr_ldc (pc := 17) (z := (-99999999)) dX11_ring_17 wG_X11_165 (by decide) ?_
  refine sv_goto (pc := 19) (tgt := 31) dX11_ring_19 (by decide) ?_
  exact mr_iret dX11_ring_31 rfl (le_t rfl) (le_t rfl) T2 (mF.call mF.refl F3 rfl) ⟨(rW (c := (-2147483648)) (d := 2147483647) (rR (x := (-99999999))) rfl), trivial⟩
theorem vc_X11_walk_1 {p1 : Int} (h0 : p1 < (-1)) (h1 : (-2147483648) ≤ p1 ∧ p1 ≤ 2147483647) : (-2147483648) ≤ p1 ∧ p1 ≤ (-2) := by omega
theorem vc_X11_walk_2 {p1 : Int} (h0 : (-1) ≤ p1) (h1 : (-2147483648) ≤ p1 ∧ p1 ≤ 2147483647) : (-1) ≤ p1 ∧ p1 ≤ 2147483647 := by omega
theorem vc_X11_walk_3 {p1 : Int} (h0 : p1 < 10) (h1 : (-1) ≤ p1) (h2 : (-1) ≤ p1 ∧ p1 ≤ 2147483647) : (-1) ≤ p1 ∧ p1 ≤ 9 := by omega
theorem vc_X11_walk_4 {p1 : Int} (h0 : ¬ p1 = (-1)) (h1 : (-1) ≤ p1) (h2 : p1 < 10) (h3 : (-1) ≤ p1 ∧ p1 ≤ 9) : 0 ≤ p1 ∧ p1 ≤ 9 := by omega
theorem vc_X11_walk_5 {z8 : Int} (h0 : z8 < 20) (h1 : 0 ≤ z8 ∧ z8 ≤ 20) : 0 ≤ z8 ∧ z8 ≤ 19 := by omega
theorem vc_X11_walk_6 {z8 : Int} (h0 : 20 ≤ z8) (h1 : 0 ≤ z8 ∧ z8 ≤ 20) : 20 ≤ z8 ∧ z8 ≤ 20 := by omega
theorem vc_X11_walk_7 {p1 : Int} (h0 : p1 = (-1)) (h1 : (-1) ≤ p1) (h2 : p1 < 10) (h3 : (-1) ≤ p1 ∧ p1 ≤ 9) : (-1) ≤ p1 ∧ p1 ≤ (-1) := by omega
theorem vc_X11_walk_8 {p1 : Int} (h0 : 10 ≤ p1) (h1 : (-1) ≤ p1) (h2 : (-1) ≤ p1 ∧ p1 ≤ 2147483647) : 10 ≤ p1 ∧ p1 ≤ 2147483647 := by omega
set_option maxRecDepth 4000 in
set_option maxHeartbeats 4000000 in
theorem c_X11_walk {l : Launch} {D : va_G} {c : Nat → ClassId} {H0 : Heap} {sa : Nat × Nat × (Nat → Int32)} {w : mW} {μ : mM} (hw : mWF w) (hT : mT w μ) {p1 : Int} (hp1 : (-2147483648) ≤ p1 ∧ p1 ≤ 2147483647) : sC (gG l D c H0 sa) mX11_walk 1 0 0 [.ref 0, iv p1] (mk w μ) (qI w [11, 2999] μ (fun z μ1 => ((-2147483648) ≤ z ∧ z ≤ 2147483647) ∧ True)) := by
  refine sC.of rfl (by decide) (le_t rfl) ?_
  refine mr_lvE (lv' := [(0, .ref 0), (1, iv p1)]) rfl ?_
  refine mr_iload_n (pc := 0) (z := p1) dX11_walk_0 rfl rfl ?_
  refine mr_iconst (pc := 1) (z := (-1)) dX11_walk_1 ?_
  refine mr_icmp_lt (pc := 2) (tgt := 11) dX11_walk_2 (by decide) hp1 (r32 (rR (x := (-1))) rfl) (fun h1 => ?_) (fun h1 => ?_)
  · have h2 : (-2147483648) ≤ p1 ∧ p1 ≤ (-2) := (vc_X11_walk_1 h1 hp1)
    refine mr_iconst (pc := 11) (z := (-1)) dX11_walk_11 ?_
    exact mr_iret dX11_walk_12 rfl (le_t rfl) (le_t rfl) hT mF.refl ⟨(rW (c := (-2147483648)) (d := 2147483647) (rR (x := (-1))) rfl), trivial⟩
  have h3 : (-1) ≤ p1 ∧ p1 ≤ 2147483647 := (vc_X11_walk_2 h1 hp1)
  refine mr_iload_n (pc := 5) (z := p1) dX11_walk_5 rfl rfl ?_
  refine mr_bipush (pc := 6) (z := 10) dX11_walk_6 (by decide) ?_
  refine mr_icmp_lt (pc := 8) (tgt := 13) dX11_walk_8 (by decide) (r32 h3 rfl) (r32 (rR (x := 10)) rfl) (fun h4 => ?_) (fun h4 => ?_)
  · have h5 : (-1) ≤ p1 ∧ p1 ≤ 9 := (vc_X11_walk_3 h4 h1 h3)
    refine mr_iload_n (pc := 13) (z := p1) dX11_walk_13 rfl rfl ?_
    refine mr_iconst (pc := 14) (z := (-1)) dX11_walk_14 ?_
    refine mr_icmp_ne (pc := 15) (tgt := 25) dX11_walk_15 (by decide) (r32 h5 rfl) (r32 (rR (x := (-1))) rfl) (fun h6 => ?_) (fun h6 => ?_)
    · have h7 : 0 ≤ p1 ∧ p1 ≤ 9 := (vc_X11_walk_4 h6 h1 h4 h5)
      refine sv_aload_n (pc := 25) dX11_walk_25 rfl rfl ?_
      refine gf_X11_11 (pc := 26) dX11_walk_26 wF_X11_169 (A_0 hw) hT fun z8 q9 h10 => ?_
      refine mr_bipush (pc := 29) (z := 20) dX11_walk_29 (by decide) ?_
      refine mr_icmp_lt (pc := 31) (tgt := 37) dX11_walk_31 (by decide) (r32 h10 rfl) (r32 (rR (x := 20)) rfl) (fun h11 => ?_) (fun h11 => ?_)
      · have h12 : 0 ≤ z8 ∧ z8 ≤ 19 := (vc_X11_walk_5 h11 h10)
        refine sv_aload_n (pc := 37) dX11_walk_37 rfl rfl ?_
        refine gf_X11_1 (pc := 38) dX11_walk_38 wF_X11_13 (A_0 hw) hT ?_
        refine sv_aload_n (pc := 41) dX11_walk_41 rfl rfl ?_
        refine gk_X11_11 (pc := 42) dX11_walk_42 wF_X11_169 (A_0 hw) q9 ?_
        refine mr_iload_n (pc := 45) (z := p1) dX11_walk_45 rfl rfl ?_
        refine ss_2 (pc := 46) dX11_walk_46 (A_2 hw) hT (rIx (n := 20) h12 rfl) h7 fun μ13 u14 T15 => ?_
        refine sv_aload_n (pc := 47) dX11_walk_47 rfl rfl ?_
        refine sv_dup (pc := 48) dX11_walk_48 rfl ?_
        refine gk_X11_11 (pc := 49) dX11_walk_49 wF_X11_169 (A_0 hw) (u14.f (Or.inl (mAt.ne (A_2 hw) (A_0 hw) rfl)) q9) ?_
        refine mr_iconst (pc := 52) (z := 1) dX11_walk_52 ?_
        refine mr_iadd (pc := 53) (x := z8) (y := 1) dX11_walk_53 ?_
        refine pf_X11_11 (pc := 54) dX11_walk_54 wF_X11_169 (A_0 hw) T15 (rW (c := 0) (d := 20) (rAdd (e := 1) (f := 20) h12 (rR (x := 1)) rfl) rfl) fun μ16 u17 T18 => ?_
        refine sv_aload_n (pc := 57) dX11_walk_57 rfl rfl ?_
        refine gk_X11_11 (pc := 58) dX11_walk_58 wF_X11_169 (A_0 hw) u17.1 ?_
        exact mr_iret dX11_walk_61 rfl (le_t rfl) (le_t rfl) T18 (mF.up (mF.up mF.refl (A_2 hw) u14 rfl) (A_0 hw) u17 rfl) ⟨(rW (c := (-2147483648)) (d := 2147483647) (rAdd (e := 1) (f := 20) h12 (rR (x := 1)) rfl) rfl), trivial⟩
      have h19 : 20 ≤ z8 ∧ z8 ≤ 20 := (vc_X11_walk_6 h11 h10)
      refine mr_bipush (pc := 34) (z := (-3)) dX11_walk_34 (by decide) ?_
      exact mr_iret dX11_walk_36 rfl (le_t rfl) (le_t rfl) hT mF.refl ⟨(rW (c := (-2147483648)) (d := 2147483647) (rR (x := (-3))) rfl), trivial⟩
    have h20 : (-1) ≤ p1 ∧ p1 ≤ (-1) := (vc_X11_walk_7 h6 h1 h4 h5)
    refine sv_aload_n (pc := 18) dX11_walk_18 rfl rfl ?_
    refine mr_iconst (pc := 19) (z := 0) dX11_walk_19 ?_
    refine pf_X11_11 (pc := 20) dX11_walk_20 wF_X11_169 (A_0 hw) hT (rW (c := 0) (d := 20) (rR (x := 0)) rfl) fun μ21 u22 T23 => ?_
    refine mr_iconst (pc := 23) (z := 0) dX11_walk_23 ?_
    exact mr_iret dX11_walk_24 rfl (le_t rfl) (le_t rfl) T23 (mF.up mF.refl (A_0 hw) u22 rfl) ⟨(rW (c := (-2147483648)) (d := 2147483647) (rR (x := 0)) rfl), trivial⟩
  have h24 : 10 ≤ p1 ∧ p1 ≤ 2147483647 := (vc_X11_walk_8 h4 h1 h3)
  refine mr_iconst (pc := 11) (z := (-1)) dX11_walk_11 ?_
  exact mr_iret dX11_walk_12 rfl (le_t rfl) (le_t rfl) hT mF.refl ⟨(rW (c := (-2147483648)) (d := 2147483647) (rR (x := (-1))) rfl), trivial⟩
set_option maxRecDepth 4000 in
set_option maxHeartbeats 4000000 in
theorem c_X11_letWay {l : Launch} {D : va_G} {c : Nat → ClassId} {H0 : Heap} {sa : Nat × Nat × (Nat → Int32)} {w : mW} {μ : mM} (hw : mWF w) (hT : mT w μ) : sC (gG l D c H0 sa) mX11_letWay 3 0 0 [.ref 0] (mk w μ) (qP w μ (fun z => ((-2147483648) ≤ z ∧ z ≤ 2147483647) ∧ True)) := by
  refine sC.of rfl (by decide) (le_t rfl) ?_
  refine mr_lvE (lv' := [(0, .ref 0)]) rfl ?_
  refine sv_aload_n (pc := 0) dX11_letWay_0 rfl rfl ?_
  refine gf_X11_3 (pc := 1) dX11_letWay_1 wF_X11_26 (A_0 hw) hT ?_
  refine sv_aload_n (pc := 4) dX11_letWay_4 rfl rfl ?_
  refine gf_X11_1 (pc := 5) dX11_letWay_5 wF_X11_13 (A_0 hw) hT ?_
  refine sv_aload_n (pc := 8) dX11_letWay_8 rfl rfl ?_
  refine gf_X11_11 (pc := 9) dX11_letWay_9 wF_X11_169 (A_0 hw) hT fun z1 q2 h3 => ?_
  refine mr_cVP (pc := 12) (c_X10_firstWrongStep hw hT (A_2 hw) h3) (gOk _ _ _ _ _) dX11_letWay_12 (tX10_firstWrongStep _ _ _ _ _) ⟨wV_X10_firstWrongStep, wL_X10_firstWrongStep⟩ wM_X11_172 (gCX10 _ _ _ _ _) rfl (A_6 hw) rfl ⟨le_t rfl, le_t rfl⟩ ⟨le_t rfl, le_t rfl⟩ rfl (le_t rfl) fun z8 h7 => ?_
  refine mr_iconst (pc := 15) (z := 1) dX11_letWay_15 ?_
  refine mr_iadd (pc := 16) (x := z8) (y := 1) dX11_letWay_16 ?_
  exact mr_iretP dX11_letWay_17 rfl (le_t rfl) (le_t rfl) ⟨(rW (c := (-2147483648)) (d := 2147483647) (rAdd (e := 0) (f := 20) h7.1 (rR (x := 1)) rfl) rfl), trivial⟩
theorem vc_X11_verdict_1 {p1 z1 z8 : Int} (h0 : z8 = 0) (h1 : (z8 = 1 → 0 ≤ p1 ∧ p1 < z1)) (h2 : (z8 = 0 → p1 < 0 ∨ z1 ≤ p1)) (h3 : (-2147483648) ≤ p1 ∧ p1 ≤ 2147483647) (h4 : 0 ≤ z1 ∧ z1 ≤ 10) (h5 : 0 ≤ z8 ∧ z8 ≤ 1) : 0 ≤ z8 ∧ z8 ≤ 0 := by omega
theorem vc_X11_verdict_2 {p1 z1 z8 : Int} (h0 : (z8 = 1 → 0 ≤ p1 ∧ p1 < z1)) (h1 : (z8 = 0 → p1 < 0 ∨ z1 ≤ p1)) (h2 : z8 = 0) (h3 : (-2147483648) ≤ p1 ∧ p1 ≤ 2147483647) (h4 : 0 ≤ z1 ∧ z1 ≤ 10) (h5 : 0 ≤ z8 ∧ z8 ≤ 0) : z8 = 0 := by omega
theorem vc_X11_verdict_3 {p1 z1 z8 : Int} (h0 : ¬ z8 = 0) (h1 : (z8 = 1 → 0 ≤ p1 ∧ p1 < z1)) (h2 : (z8 = 0 → p1 < 0 ∨ z1 ≤ p1)) (h3 : (-2147483648) ≤ p1 ∧ p1 ≤ 2147483647) (h4 : 0 ≤ z1 ∧ z1 ≤ 10) (h5 : 0 ≤ z8 ∧ z8 ≤ 1) : 1 ≤ z8 ∧ z8 ≤ 1 := by omega
theorem vc_X11_verdict_4 {p1 z1 z8 : Int} (h0 : (z8 = 1 → 0 ≤ p1 ∧ p1 < z1)) (h1 : (z8 = 0 → p1 < 0 ∨ z1 ≤ p1)) (h2 : ¬ z8 = 0) (h3 : (-2147483648) ≤ p1 ∧ p1 ≤ 2147483647) (h4 : 0 ≤ z1 ∧ z1 ≤ 10) (h5 : 1 ≤ z8 ∧ z8 ≤ 1) : z8 = 1 := by omega
theorem vc_X11_verdict_5 {p1 z1 z8 : Int} (h0 : 0 ≤ p1 ∧ p1 < z1) (h1 : (z8 = 1 → 0 ≤ p1 ∧ p1 < z1)) (h2 : (z8 = 0 → p1 < 0 ∨ z1 ≤ p1)) (h3 : (-2147483648) ≤ p1 ∧ p1 ≤ 2147483647) (h4 : 0 ≤ z1 ∧ z1 ≤ 10) (h5 : 1 ≤ z8 ∧ z8 ≤ 1) : 0 ≤ p1 ∧ p1 ≤ 9 := by omega
theorem vc_X11_verdict_6 {p1 z1 z8 : Int} (h0 : 0 ≤ p1 ∧ p1 < z1) (h1 : (z8 = 1 → 0 ≤ p1 ∧ p1 < z1)) (h2 : (z8 = 0 → p1 < 0 ∨ z1 ≤ p1)) (h3 : 0 ≤ p1 ∧ p1 ≤ 9) (h4 : 0 ≤ z1 ∧ z1 ≤ 10) (h5 : 1 ≤ z8 ∧ z8 ≤ 1) : 1 ≤ z1 ∧ z1 ≤ 10 := by omega
theorem vc_X11_verdict_7 {p3 : Int} (h0 : p3 < 0) (h1 : (-2147483648) ≤ p3 ∧ p3 ≤ 2147483647) : (-2147483648) ≤ p3 ∧ p3 ≤ (-1) := by omega
theorem vc_X11_verdict_8 {p3 : Int} (h0 : 0 ≤ p3) (h1 : (-2147483648) ≤ p3 ∧ p3 ≤ 2147483647) : 0 ≤ p3 ∧ p3 ≤ 2147483647 := by omega
theorem vc_X11_verdict_9 {p4 : Int} (h0 : 0 ≤ p4) (h1 : (-2147483648) ≤ p4 ∧ p4 ≤ 2147483647) : 0 ≤ p4 ∧ p4 ≤ 2147483647 := by omega
theorem vc_X11_verdict_10 {p4 : Int} (h0 : p4 < 0) (h1 : (-2147483648) ≤ p4 ∧ p4 ≤ 2147483647) : (-2147483648) ≤ p4 ∧ p4 ≤ (-1) := by omega
set_option maxRecDepth 4000 in
set_option maxHeartbeats 4000000 in
theorem c_X11_verdict {l : Launch} {D : va_G} {c : Nat → ClassId} {H0 : Heap} {sa : Nat × Nat × (Nat → Int32)} {w : mW} {μ : mM} (hw : mWF w) (hT : mT w μ) {p1 : Int} (hp1 : (-2147483648) ≤ p1 ∧ p1 ≤ 2147483647) {p2 : Int} (hp2 : (-2147483648) ≤ p2 ∧ p2 ≤ 2147483647) {p3 : Int} (hp3 : (-2147483648) ≤ p3 ∧ p3 ≤ 2147483647) {p4 : Int} (hp4 : (-2147483648) ≤ p4 ∧ p4 ≤ 2147483647) : sC (gG l D c H0 sa) mX11_verdict 2 0 0 [.ref 0, iv p1, iv p2, iv p3, iv p4] (mk w μ) (qP w μ (fun z => ((-2147483648) ≤ z ∧ z ≤ 2147483647) ∧ True)) := by
  refine sC.of rfl (by decide) (le_t rfl) ?_
  refine mr_lvE (lv' := [(0, .ref 0), (1, iv p1), (2, iv p2), (3, iv p3), (4, iv p4)]) rfl ?_
  refine sv_aload_n (pc := 0) dX11_verdict_0 rfl rfl ?_
  refine mr_iload_n (pc := 1) (z := p1) dX11_verdict_1 rfl rfl ?_
  obtain ⟨z1, q2⟩ : ∃ z, μ 6 14 = z := ⟨_, rfl⟩
  have h3 : (0 ≤ z1 ∧ z1 ≤ 10) := by rw [← q2]; exact hT 6 6 (A_6 hw) 14
  refine mr_cVP (pc := 2) (c_X11_isPrefix hw hT hp1 q2) (gOk _ _ _ _ _) dX11_verdict_2 (tX11_isPrefix _ _ _ _ _) ⟨wV_X11_isPrefix, wL_X11_isPrefix⟩ wM_X11_182 (gCX11 _ _ _ _ _) rfl (A_0 hw) rfl ⟨le_t rfl, le_t rfl⟩ ⟨le_t rfl, le_t rfl⟩ rfl (le_t rfl) fun z8 h7 => ?_
  refine mr_if_eq (pc := 5) (tgt := 17) dX11_verdict_5 (by decide) (r32 h7.1 rfl) (fun h9 => ?_) (fun h9 => ?_)
  · have h10 : 0 ≤ z8 ∧ z8 ≤ 0 := (vc_X11_verdict_1 h9 h7.2.1 h7.2.2.1 hp1 h3 h7.1)
    have h11 : p1 < 0 ∨ z1 ≤ p1 := (h7.2.2.1 (vc_X11_verdict_2 h7.2.1 h7.2.2.1 h9 hp1 h3 h10))
    refine mr_iconst (pc := 17) (z := (-1)) dX11_verdict_17 ?_
    exact mr_iretP dX11_verdict_18 rfl (le_t rfl) (le_t rfl) ⟨(rW (c := (-2147483648)) (d := 2147483647) (rR (x := (-1))) rfl), trivial⟩
  have h12 : 1 ≤ z8 ∧ z8 ≤ 1 := (vc_X11_verdict_3 h9 h7.2.1 h7.2.2.1 hp1 h3 h7.1)
  have h13 : 0 ≤ p1 ∧ p1 < z1 := (h7.2.1 (vc_X11_verdict_4 h7.2.1 h7.2.2.1 h9 hp1 h3 h12))
  have h14 : 0 ≤ p1 ∧ p1 ≤ 9 := (vc_X11_verdict_5 h13 h7.2.1 h7.2.2.1 hp1 h3 h12)
  have h15 : 1 ≤ z1 ∧ z1 ≤ 10 := (vc_X11_verdict_6 h13 h7.2.1 h7.2.2.1 h14 h3 h12)
  refine mr_iload_n (pc := 8) (z := p3) dX11_verdict_8 rfl rfl ?_
  refine mr_if_lt (pc := 9) (tgt := 17) dX11_verdict_9 (by decide) hp3 (fun h16 => ?_) (fun h16 => ?_)
  · have h17 : (-2147483648) ≤ p3 ∧ p3 ≤ (-1) := (vc_X11_verdict_7 h16 hp3)
    refine mr_iconst (pc := 17) (z := (-1)) dX11_verdict_17 ?_
    exact mr_iretP dX11_verdict_18 rfl (le_t rfl) (le_t rfl) ⟨(rW (c := (-2147483648)) (d := 2147483647) (rR (x := (-1))) rfl), trivial⟩
  have h18 : 0 ≤ p3 ∧ p3 ≤ 2147483647 := (vc_X11_verdict_8 h16 hp3)
  refine mr_iload (pc := 12) (z := p4) dX11_verdict_12 rfl ?_
  refine mr_if_ge (pc := 14) (tgt := 19) dX11_verdict_14 (by decide) hp4 (fun h19 => ?_) (fun h19 => ?_)
  · have h20 : 0 ≤ p4 ∧ p4 ≤ 2147483647 := (vc_X11_verdict_9 h19 hp4)
    refine sv_aload_n (pc := 19) dX11_verdict_19 rfl rfl ?_
    refine gf_X11_3 (pc := 20) dX11_verdict_20 wF_X11_26 (A_0 hw) hT ?_
    refine mr_iload_n (pc := 23) (z := p1) dX11_verdict_23 rfl rfl ?_
    refine mr_iload_n (pc := 24) (z := p2) dX11_verdict_24 rfl rfl ?_
    refine mr_iload_n (pc := 25) (z := p3) dX11_verdict_25 rfl rfl ?_
    refine mr_iload (pc := 26) (z := p4) dX11_verdict_26 rfl ?_
    refine mr_cVP (pc := 28) (c_X10_verdictOn hw hT h14 hp2 (rW (c := (-2147483648)) (d := 2147483647) h18 rfl) (rW (c := (-2147483648)) (d := 2147483647) h20 rfl)) (gOk _ _ _ _ _) dX11_verdict_28 (tX10_verdictOn _ _ _ _ _) ⟨wV_X10_verdictOn, wL_X10_verdictOn⟩ wM_X11_201 (gCX10 _ _ _ _ _) rfl (A_6 hw) rfl ⟨le_t rfl, le_t rfl⟩ ⟨le_t rfl, le_t rfl⟩ rfl (le_t rfl) fun z25 h24 => ?_
    exact mr_iretP dX11_verdict_31 rfl (le_t rfl) (le_t rfl) ⟨(rW (c := (-2147483648)) (d := 2147483647) h24.1 rfl), trivial⟩
  have h26 : (-2147483648) ≤ p4 ∧ p4 ≤ (-1) := (vc_X11_verdict_10 h19 hp4)
  refine mr_iconst (pc := 17) (z := (-1)) dX11_verdict_17 ?_
  exact mr_iretP dX11_verdict_18 rfl (le_t rfl) (le_t rfl) ⟨(rW (c := (-2147483648)) (d := 2147483647) (rR (x := (-1))) rfl), trivial⟩
set_option maxRecDepth 4000 in
set_option maxHeartbeats 4000000 in
theorem c_X11_fault {l : Launch} {D : va_G} {c : Nat → ClassId} {H0 : Heap} {sa : Nat × Nat × (Nat → Int32)} {w : mW} {μ : mM} (hw : mWF w) (hT : mT w μ) : sC (gG l D c H0 sa) mX11_fault 1 0 0 [.ref 0] (mk w μ) (qP w μ (fun z => ((-2147483648) ≤ z ∧ z ≤ 2147483647) ∧ True)) := by
  refine sC.of rfl (by decide) (le_t rfl) ?_
  refine mr_lvE (lv' := [(0, .ref 0)]) rfl ?_
  refine sv_aload_n (pc := 0) dX11_fault_0 rfl rfl ?_
  refine gf_X11_5 (pc := 1) dX11_fault_1 wF_X11_42 (A_0 hw) hT ?_
  refine gf_X6_18 (pc := 4) dX11_fault_4 wF_X11_212 (A_23 hw) hT fun z1 q2 h3 => ?_
  exact mr_iretP dX11_fault_7 rfl (le_t rfl) (le_t rfl) ⟨(rW (c := (-2147483648)) (d := 2147483647) h3 rfl), trivial⟩
theorem vc_X11_route_1 {p1 z1 z8 : Int} (h0 : z8 = 0) (h1 : (z8 = 1 → 0 ≤ p1 ∧ p1 < z1)) (h2 : (z8 = 0 → p1 < 0 ∨ z1 ≤ p1)) (h3 : (-2147483648) ≤ p1 ∧ p1 ≤ 2147483647) (h4 : 0 ≤ z1 ∧ z1 ≤ 10) (h5 : 0 ≤ z8 ∧ z8 ≤ 1) : 0 ≤ z8 ∧ z8 ≤ 0 := by omega
theorem vc_X11_route_2 {p1 z1 z8 : Int} (h0 : (z8 = 1 → 0 ≤ p1 ∧ p1 < z1)) (h1 : (z8 = 0 → p1 < 0 ∨ z1 ≤ p1)) (h2 : z8 = 0) (h3 : (-2147483648) ≤ p1 ∧ p1 ≤ 2147483647) (h4 : 0 ≤ z1 ∧ z1 ≤ 10) (h5 : 0 ≤ z8 ∧ z8 ≤ 0) : z8 = 0 := by omega
theorem vc_X11_route_3 {p1 z1 z8 : Int} (h0 : ¬ z8 = 0) (h1 : (z8 = 1 → 0 ≤ p1 ∧ p1 < z1)) (h2 : (z8 = 0 → p1 < 0 ∨ z1 ≤ p1)) (h3 : (-2147483648) ≤ p1 ∧ p1 ≤ 2147483647) (h4 : 0 ≤ z1 ∧ z1 ≤ 10) (h5 : 0 ≤ z8 ∧ z8 ≤ 1) : 1 ≤ z8 ∧ z8 ≤ 1 := by omega
theorem vc_X11_route_4 {p1 z1 z8 : Int} (h0 : (z8 = 1 → 0 ≤ p1 ∧ p1 < z1)) (h1 : (z8 = 0 → p1 < 0 ∨ z1 ≤ p1)) (h2 : ¬ z8 = 0) (h3 : (-2147483648) ≤ p1 ∧ p1 ≤ 2147483647) (h4 : 0 ≤ z1 ∧ z1 ≤ 10) (h5 : 1 ≤ z8 ∧ z8 ≤ 1) : z8 = 1 := by omega
theorem vc_X11_route_5 {p1 z1 z8 : Int} (h0 : 0 ≤ p1 ∧ p1 < z1) (h1 : (z8 = 1 → 0 ≤ p1 ∧ p1 < z1)) (h2 : (z8 = 0 → p1 < 0 ∨ z1 ≤ p1)) (h3 : (-2147483648) ≤ p1 ∧ p1 ≤ 2147483647) (h4 : 0 ≤ z1 ∧ z1 ≤ 10) (h5 : 1 ≤ z8 ∧ z8 ≤ 1) : 0 ≤ p1 ∧ p1 ≤ 9 := by omega
theorem vc_X11_route_6 {p1 z1 z8 : Int} (h0 : 0 ≤ p1 ∧ p1 < z1) (h1 : (z8 = 1 → 0 ≤ p1 ∧ p1 < z1)) (h2 : (z8 = 0 → p1 < 0 ∨ z1 ≤ p1)) (h3 : 0 ≤ p1 ∧ p1 ≤ 9) (h4 : 0 ≤ z1 ∧ z1 ≤ 10) (h5 : 1 ≤ z8 ∧ z8 ≤ 1) : 1 ≤ z1 ∧ z1 ≤ 10 := by omega
theorem vc_X11_route_7 {p2 : Int} (h0 : p2 < 0) (h1 : (-2147483648) ≤ p2 ∧ p2 ≤ 2147483647) : (-2147483648) ≤ p2 ∧ p2 ≤ (-1) := by omega
theorem vc_X11_route_8 {p2 : Int} (h0 : 0 ≤ p2) (h1 : (-2147483648) ≤ p2 ∧ p2 ≤ 2147483647) : 0 ≤ p2 ∧ p2 ≤ 2147483647 := by omega
theorem vc_X11_route_9 {p2 : Int} (h0 : p2 ≤ 1000) (h1 : 0 ≤ p2) (h2 : 0 ≤ p2 ∧ p2 ≤ 2147483647) : 0 ≤ p2 ∧ p2 ≤ 1000 := by omega
theorem vc_X11_route_10 {p3 : Int} (h0 : p3 < 0) (h1 : (-2147483648) ≤ p3 ∧ p3 ≤ 2147483647) : (-2147483648) ≤ p3 ∧ p3 ≤ (-1) := by omega
theorem vc_X11_route_11 {p3 : Int} (h0 : 0 ≤ p3) (h1 : (-2147483648) ≤ p3 ∧ p3 ≤ 2147483647) : 0 ≤ p3 ∧ p3 ≤ 2147483647 := by omega
theorem vc_X11_route_12 {p3 : Int} (h0 : 2 < p3) (h1 : 0 ≤ p3) (h2 : 0 ≤ p3 ∧ p3 ≤ 2147483647) : 3 ≤ p3 ∧ p3 ≤ 2147483647 := by omega
theorem vc_X11_route_13 {p3 : Int} (h0 : p3 ≤ 2) (h1 : 0 ≤ p3) (h2 : 0 ≤ p3 ∧ p3 ≤ 2147483647) : 0 ≤ p3 ∧ p3 ≤ 2 := by omega
theorem vc_X11_route_14 {p4 : Int} (h0 : p4 < 0) (h1 : (-2147483648) ≤ p4 ∧ p4 ≤ 2147483647) : (-2147483648) ≤ p4 ∧ p4 ≤ (-1) := by omega
theorem vc_X11_route_15 {p4 : Int} (h0 : 0 ≤ p4) (h1 : (-2147483648) ≤ p4 ∧ p4 ≤ 2147483647) : 0 ≤ p4 ∧ p4 ≤ 2147483647 := by omega
theorem vc_X11_route_16 {p4 : Int} (h0 : p4 ≤ 1000000) (h1 : 0 ≤ p4) (h2 : 0 ≤ p4 ∧ p4 ≤ 2147483647) : 0 ≤ p4 ∧ p4 ≤ 1000000 := by omega
theorem vc_X11_route_17  : (0 : Int) ≤ (0 : Int) := by omega
theorem vc_X11_route_18 {z43 : Int} (h0 : 0 ≤ z43 ∧ z43 ≤ 20) : 0 ≤ z43 := by omega
theorem vc_X11_route_19 {z43 : Int} (h0 : 0 ≤ z43 ∧ z43 ≤ 20) : 0 + z43 ≤ ((20 : Nat) : Int) := by omega
theorem vc_X11_route_20 {p4 : Int} (h0 : 1000000 < p4) (h1 : 0 ≤ p4) (h2 : 0 ≤ p4 ∧ p4 ≤ 2147483647) : 1000001 ≤ p4 ∧ p4 ≤ 2147483647 := by omega
theorem vc_X11_route_21 {p2 : Int} (h0 : 1000 < p2) (h1 : 0 ≤ p2) (h2 : 0 ≤ p2 ∧ p2 ≤ 2147483647) : 1001 ≤ p2 ∧ p2 ≤ 2147483647 := by omega
set_option maxRecDepth 4000 in
set_option maxHeartbeats 4000000 in
theorem c_X11_route {l : Launch} {D : va_G} {c : Nat → ClassId} {H0 : Heap} {sa : Nat × Nat × (Nat → Int32)} {w : mW} {μ : mM} (hw : mWF w) (hT : mT w μ) {p1 : Int} (hp1 : (-2147483648) ≤ p1 ∧ p1 ≤ 2147483647) {p2 : Int} (hp2 : (-2147483648) ≤ p2 ∧ p2 ≤ 2147483647) {p3 : Int} (hp3 : (-2147483648) ≤ p3 ∧ p3 ≤ 2147483647) {p4 : Int} (hp4 : (-2147483648) ≤ p4 ∧ p4 ≤ 2147483647) : sC (gG l D c H0 sa) mX11_route 3 0 0 [.ref 0, iv p1, iv p2, iv p3, iv p4] (mk w μ) (qI w [200002, 200003, 200004, 200005, 200006, 200007, 200008, 201999] μ (fun z μ1 => ((-2147483648) ≤ z ∧ z ≤ 2147483647) ∧ True)) := by
  refine sC.of rfl (by decide) (le_t rfl) ?_
  refine mr_lvE (lv' := [(0, .ref 0), (1, iv p1), (2, iv p2), (3, iv p3), (4, iv p4)]) rfl ?_
  refine sv_aload_n (pc := 0) dX11_route_0 rfl rfl ?_
  refine mr_iload_n (pc := 1) (z := p1) dX11_route_1 rfl rfl ?_
  obtain ⟨z1, q2⟩ : ∃ z, μ 6 14 = z := ⟨_, rfl⟩
  have h3 : (0 ≤ z1 ∧ z1 ≤ 10) := by rw [← q2]; exact hT 6 6 (A_6 hw) 14
  refine mr_cVP (pc := 2) (c_X11_isPrefix hw hT hp1 q2) (gOk _ _ _ _ _) dX11_route_2 (tX11_isPrefix _ _ _ _ _) ⟨wV_X11_isPrefix, wL_X11_isPrefix⟩ wM_X11_182 (gCX11 _ _ _ _ _) rfl (A_0 hw) rfl ⟨le_t rfl, le_t rfl⟩ ⟨le_t rfl, le_t rfl⟩ rfl (le_t rfl) fun z8 h7 => ?_
  refine mr_if_eq (pc := 5) (tgt := 19) dX11_route_5 (by decide) (r32 h7.1 rfl) (fun h9 => ?_) (fun h9 => ?_)
  · have h10 : 0 ≤ z8 ∧ z8 ≤ 0 := (vc_X11_route_1 h9 h7.2.1 h7.2.2.1 hp1 h3 h7.1)
    have h11 : p1 < 0 ∨ z1 ≤ p1 := (h7.2.2.1 (vc_X11_route_2 h7.2.1 h7.2.2.1 h9 hp1 h3 h10))
    refine mr_iconst (pc := 19) (z := (-1)) dX11_route_19 ?_
    exact mr_iret dX11_route_20 rfl (le_t rfl) (le_t rfl) hT mF.refl ⟨(rW (c := (-2147483648)) (d := 2147483647) (rR (x := (-1))) rfl), trivial⟩
  have h12 : 1 ≤ z8 ∧ z8 ≤ 1 := (vc_X11_route_3 h9 h7.2.1 h7.2.2.1 hp1 h3 h7.1)
  have h13 : 0 ≤ p1 ∧ p1 < z1 := (h7.2.1 (vc_X11_route_4 h7.2.1 h7.2.2.1 h9 hp1 h3 h12))
  have h14 : 0 ≤ p1 ∧ p1 ≤ 9 := (vc_X11_route_5 h13 h7.2.1 h7.2.2.1 hp1 h3 h12)
  have h15 : 1 ≤ z1 ∧ z1 ≤ 10 := (vc_X11_route_6 h13 h7.2.1 h7.2.2.1 h14 h3 h12)
  refine mr_iload_n (pc := 8) (z := p2) dX11_route_8 rfl rfl ?_
  refine mr_if_lt (pc := 9) (tgt := 19) dX11_route_9 (by decide) hp2 (fun h16 => ?_) (fun h16 => ?_)
  · have h17 : (-2147483648) ≤ p2 ∧ p2 ≤ (-1) := (vc_X11_route_7 h16 hp2)
    refine mr_iconst (pc := 19) (z := (-1)) dX11_route_19 ?_
    exact mr_iret dX11_route_20 rfl (le_t rfl) (le_t rfl) hT mF.refl ⟨(rW (c := (-2147483648)) (d := 2147483647) (rR (x := (-1))) rfl), trivial⟩
  have h18 : 0 ≤ p2 ∧ p2 ≤ 2147483647 := (vc_X11_route_8 h16 hp2)
  refine mr_iload_n (pc := 12) (z := p2) dX11_route_12 rfl rfl ?_
  refine mr_sipush (pc := 13) (z := 1000) dX11_route_13 (by decide) ?_
  refine mr_icmp_le (pc := 16) (tgt := 21) dX11_route_16 (by decide) (r32 h18 rfl) (r32 (rR (x := 1000)) rfl) (fun h19 => ?_) (fun h19 => ?_)
  · have h20 : 0 ≤ p2 ∧ p2 ≤ 1000 := (vc_X11_route_9 h19 h16 h18)
    refine mr_iload_n (pc := 21) (z := p3) dX11_route_21 rfl rfl ?_
    refine mr_if_lt (pc := 22) (tgt := 42) dX11_route_22 (by decide) hp3 (fun h21 => ?_) (fun h21 => ?_)
    · have h22 : (-2147483648) ≤ p3 ∧ p3 ≤ (-1) := (vc_X11_route_10 h21 hp3)
      refine mr_iconst (pc := 42) (z := (-1)) dX11_route_42 ?_
      exact mr_iret dX11_route_43 rfl (le_t rfl) (le_t rfl) hT mF.refl ⟨(rW (c := (-2147483648)) (d := 2147483647) (rR (x := (-1))) rfl), trivial⟩
    have h23 : 0 ≤ p3 ∧ p3 ≤ 2147483647 := (vc_X11_route_11 h21 hp3)
    refine mr_iload_n (pc := 25) (z := p3) dX11_route_25 rfl rfl ?_
    refine mr_iconst (pc := 26) (z := 2) dX11_route_26 ?_
    refine mr_icmp_gt (pc := 27) (tgt := 42) dX11_route_27 (by decide) (r32 h23 rfl) (r32 (rR (x := 2)) rfl) (fun h24 => ?_) (fun h24 => ?_)
    · have h25 : 3 ≤ p3 ∧ p3 ≤ 2147483647 := (vc_X11_route_12 h24 h21 h23)
      refine mr_iconst (pc := 42) (z := (-1)) dX11_route_42 ?_
      exact mr_iret dX11_route_43 rfl (le_t rfl) (le_t rfl) hT mF.refl ⟨(rW (c := (-2147483648)) (d := 2147483647) (rR (x := (-1))) rfl), trivial⟩
    have h26 : 0 ≤ p3 ∧ p3 ≤ 2 := (vc_X11_route_13 h24 h21 h23)
    refine mr_iload (pc := 30) (z := p4) dX11_route_30 rfl ?_
    refine mr_if_lt (pc := 32) (tgt := 42) dX11_route_32 (by decide) hp4 (fun h27 => ?_) (fun h27 => ?_)
    · have h28 : (-2147483648) ≤ p4 ∧ p4 ≤ (-1) := (vc_X11_route_14 h27 hp4)
      refine mr_iconst (pc := 42) (z := (-1)) dX11_route_42 ?_
      exact mr_iret dX11_route_43 rfl (le_t rfl) (le_t rfl) hT mF.refl ⟨(rW (c := (-2147483648)) (d := 2147483647) (rR (x := (-1))) rfl), trivial⟩
    have h29 : 0 ≤ p4 ∧ p4 ≤ 2147483647 := (vc_X11_route_15 h27 hp4)
    refine mr_iload (pc := 35) (z := p4) dX11_route_35 rfl ?_
    refine mr_ldc (pc := 37) (z := 1000000) dX11_route_37 wG_X11_226 (by decide) ?_
    refine mr_icmp_le (pc := 39) (tgt := 44) dX11_route_39 (by decide) (r32 h29 rfl) (r32 (rR (x := 1000000)) rfl) (fun h30 => ?_) (fun h30 => ?_)
    · have h31 : 0 ≤ p4 ∧ p4 ≤ 1000000 := (vc_X11_route_16 h30 h27 h29)
      refine sv_aload_n (pc := 44) dX11_route_44 rfl rfl ?_
      refine gf_X11_2 (pc := 45) dX11_route_45 wF_X11_19 (A_0 hw) hT ?_
      refine mr_iload_n (pc := 48) (z := p1) dX11_route_48 rfl rfl ?_
      refine mr_iload_n (pc := 49) (z := p3) dX11_route_49 rfl rfl ?_
      refine mr_cVV (pc := 50) (c_X7_begin hw hT (A_3 hw) h14 (rW (c := (-2147483648)) (d := 2147483647) h26 rfl)) (gOk _ _ _ _ _) dX11_route_50 (tX7_begin _ _ _ _ _) ⟨wV_X7_begin, wL_X7_begin⟩ wM_X11_227 (gCX7 _ _ _ _ _) rfl (A_3 hw) rfl ⟨le_t rfl, le_t rfl⟩ ⟨le_t rfl, le_t rfl⟩ rfl (le_t rfl) fun μ32 T33 F34 h35 => ?_
      refine sv_aload_n (pc := 53) dX11_route_53 rfl rfl ?_
      refine gf_X11_2 (pc := 54) dX11_route_54 wF_X11_19 (A_0 hw) T33 ?_
      refine mr_iload_n (pc := 57) (z := p2) dX11_route_57 rfl rfl ?_
      refine pf_X7_4 (pc := 58) dX11_route_58 wF_X11_230 (A_3 hw) T33 (rW (c := (-2147483648)) (d := 2147483647) h20 rfl) fun μ36 u37 T38 => ?_
      refine sv_aload_n (pc := 61) dX11_route_61 rfl rfl ?_
      refine gf_X11_2 (pc := 62) dX11_route_62 wF_X11_19 (A_0 hw) T38 ?_
      refine mr_iload (pc := 65) (z := p4) dX11_route_65 rfl ?_
      refine pf_X7_6 (pc := 67) dX11_route_67 wF_X11_233 (A_3 hw) T38 (rW (c := (-2147483648)) (d := 2147483647) h31 rfl) fun μ39 u40 T41 => ?_
      refine sv_aload_n (pc := 70) dX11_route_70 rfl rfl ?_
      refine gf_X11_1 (pc := 71) dX11_route_71 wF_X11_13 (A_0 hw) T41 ?_
      refine mr_iconst (pc := 74) (z := 0) dX11_route_74 ?_
      refine sv_aload_n (pc := 75) dX11_route_75 rfl rfl ?_
      refine gf_X11_2 (pc := 76) dX11_route_76 wF_X11_19 (A_0 hw) T41 ?_
      refine gf_X7_0 (pc := 79) dX11_route_79 wF_X11_236 (A_3 hw) T41 fun A42 => ?_
      refine mr_iconst (pc := 82) (z := 0) dX11_route_82 ?_
      refine sv_aload_n (pc := 83) dX11_route_83 rfl rfl ?_
      refine gf_X11_11 (pc := 84) dX11_route_84 wF_X11_169 (A_0 hw) T41 fun z43 q44 h45 => ?_
      refine mr_ac (pc := 87) (sp := 0) (dp := 0) (n := z43) dX11_route_87 wM_X11_239 wN_J_ac wS_J_ac wI_J_sys rfl (A_2 hw) rfl A42 rfl vc_X11_route_17 vc_X11_route_17 (vc_X11_route_18 h45) (by have h := (A_2 hw).2.2.2 rfl; rw [h]; exact (vc_X11_route_19 h45)) (by have h := A42.2.2.2 rfl; rw [h]; exact (vc_X11_route_19 h45)) (Nat.le_trans (A_2 hw).2.2.1 (le_t rfl)) (Nat.le_trans A42.2.2.1 (le_t rfl)) (le_t rfl) (le_t rfl) (le_t rfl) T41 (fun i j _ _ => rW (T41 _ _ (A_2 hw) i) rfl) fun μ46 q47 T48 => ?_
      have F49 : mF [201999] w μ39 μ46 := mF.cell q47.1 A42 rfl
      refine sv_aload_n (pc := 90) dX11_route_90 rfl rfl ?_
      refine gf_X11_2 (pc := 91) dX11_route_91 wF_X11_19 (A_0 hw) T48 ?_
      refine sv_aload_n (pc := 94) dX11_route_94 rfl rfl ?_
      refine gk_X11_11 (pc := 95) dX11_route_95 wF_X11_169 (A_0 hw) (F49.f (A_0 hw) rfl q44) ?_
      refine pf_X7_7 (pc := 98) dX11_route_98 wF_X11_245 (A_3 hw) T48 h45 fun μ50 u51 T52 => ?_
      refine mr_iconst (pc := 101) (z := 0) dX11_route_101 ?_
      exact mr_iret dX11_route_102 rfl (le_t rfl) (le_t rfl) T52 (mF.up (mF.call (mF.up (mF.up (mF.call mF.refl F34 rfl) (A_3 hw) u37 rfl) (A_3 hw) u40 rfl) F49 rfl) (A_3 hw) u51 rfl) ⟨(rW (c := (-2147483648)) (d := 2147483647) (rR (x := 0)) rfl), trivial⟩
    have h53 : 1000001 ≤ p4 ∧ p4 ≤ 2147483647 := (vc_X11_route_20 h30 h27 h29)
    refine mr_iconst (pc := 42) (z := (-1)) dX11_route_42 ?_
    exact mr_iret dX11_route_43 rfl (le_t rfl) (le_t rfl) hT mF.refl ⟨(rW (c := (-2147483648)) (d := 2147483647) (rR (x := (-1))) rfl), trivial⟩
  have h54 : 1001 ≤ p2 ∧ p2 ≤ 2147483647 := (vc_X11_route_21 h19 h16 h18)
  refine mr_iconst (pc := 19) (z := (-1)) dX11_route_19 ?_
  exact mr_iret dX11_route_20 rfl (le_t rfl) (le_t rfl) hT mF.refl ⟨(rW (c := (-2147483648)) (d := 2147483647) (rR (x := (-1))) rfl), trivial⟩
theorem vc_X11_rowInHand_1 {p1 : Int} (h0 : p1 < 10) (h1 : (-2147483648) ≤ p1 ∧ p1 ≤ 2147483647) : (-2147483648) ≤ p1 ∧ p1 ≤ 9 := by omega
theorem vc_X11_rowInHand_2 {p1 : Int} (h0 : 100 ≤ p1) (h1 : (-2147483648) ≤ p1 ∧ p1 ≤ 9) : False := by omega
theorem vc_X11_rowInHand_3 {p1 : Int} (h0 : 10 ≤ p1) (h1 : (-2147483648) ≤ p1 ∧ p1 ≤ 2147483647) : 10 ≤ p1 ∧ p1 ≤ 2147483647 := by omega
theorem vc_X11_rowInHand_4 {p1 z4 : Int} (h0 : p1 < 100) (h1 : 10 ≤ p1) (h2 : (10 + z4) ≤ p1) (h3 : 10 ≤ p1 ∧ p1 ≤ 2147483647) (h4 : 0 ≤ z4 ∧ z4 ≤ 20) : 10 ≤ p1 ∧ p1 ≤ 99 := by omega
theorem vc_X11_rowInHand_5 {p1 z4 : Int} (h0 : 100 ≤ p1) (h1 : 10 ≤ p1) (h2 : (10 + z4) ≤ p1) (h3 : 10 ≤ p1 ∧ p1 ≤ 2147483647) (h4 : 0 ≤ z4 ∧ z4 ≤ 20) : 100 ≤ p1 ∧ p1 ≤ 2147483647 := by omega
theorem vc_X11_rowInHand_6 {p1 z11 z4 : Int} (h0 : p1 < (100 + z11)) (h1 : 10 ≤ p1) (h2 : (10 + z4) ≤ p1) (h3 : 100 ≤ p1) (h4 : 100 ≤ p1 ∧ p1 ≤ 2147483647) (h5 : 0 ≤ z11 ∧ z11 ≤ 8) (h6 : 0 ≤ z4 ∧ z4 ≤ 20) : 100 ≤ p1 ∧ p1 ≤ 107 := by omega
theorem vc_X11_rowInHand_7 {p1 z11 z4 : Int} (h0 : p1 < (100 + z11)) (h1 : 10 ≤ p1) (h2 : (10 + z4) ≤ p1) (h3 : 100 ≤ p1) (h4 : 100 ≤ p1 ∧ p1 ≤ 107) (h5 : 0 ≤ z11 ∧ z11 ≤ 8) (h6 : 0 ≤ z4 ∧ z4 ≤ 20) : 1 ≤ z11 ∧ z11 ≤ 8 := by omega
theorem vc_X11_rowInHand_8 {p1 z4 : Int} (h0 : p1 < (10 + z4)) (h1 : 10 ≤ p1) (h2 : 10 ≤ p1 ∧ p1 ≤ 2147483647) (h3 : 0 ≤ z4 ∧ z4 ≤ 20) : 10 ≤ p1 ∧ p1 ≤ 29 := by omega
theorem vc_X11_rowInHand_9 {p1 z4 : Int} (h0 : p1 < (10 + z4)) (h1 : 10 ≤ p1) (h2 : 10 ≤ p1 ∧ p1 ≤ 29) (h3 : 0 ≤ z4 ∧ z4 ≤ 20) : 1 ≤ z4 ∧ z4 ≤ 20 := by omega
set_option maxRecDepth 4000 in
set_option maxHeartbeats 4000000 in
theorem c_X11_rowInHand {l : Launch} {D : va_G} {c : Nat → ClassId} {H0 : Heap} {sa : Nat × Nat × (Nat → Int32)} {w : mW} {μ : mM} (hw : mWF w) (hT : mT w μ) {p1 : Int} (hp1 : (-2147483648) ≤ p1 ∧ p1 ≤ 2147483647) : sC (gG l D c H0 sa) mX11_rowInHand 1 0 0 [.ref 0, iv p1] (mk w μ) (qP w μ (fun z => ((-2147483648) ≤ z ∧ z ≤ 2147483647) ∧ True)) := by
  refine sC.of rfl (by decide) (le_t rfl) ?_
  refine mr_lvE (lv' := [(0, .ref 0), (1, iv p1)]) rfl ?_
  refine mr_iload_n (pc := 0) (z := p1) dX11_rowInHand_0 rfl rfl ?_
  refine mr_bipush (pc := 1) (z := 10) dX11_rowInHand_1 (by decide) ?_
  refine mr_icmp_lt (pc := 3) (tgt := 33) dX11_rowInHand_3 (by decide) hp1 (r32 (rR (x := 10)) rfl) (fun h1 => ?_) (fun h1 => ?_)
  · have h2 : (-2147483648) ≤ p1 ∧ p1 ≤ 9 := (vc_X11_rowInHand_1 h1 hp1)
    refine mr_iload_n (pc := 33) (z := p1) dX11_rowInHand_33 rfl rfl ?_
    refine mr_bipush (pc := 34) (z := 100) dX11_rowInHand_34 (by decide) ?_
    refine mr_icmp_lt (pc := 36) (tgt := 66) dX11_rowInHand_36 (by decide) (r32 h2 rfl) (r32 (rR (x := 100)) rfl) (fun _ => ?_) (fun h => ((vc_X11_rowInHand_2 h h2)).elim)
    refine mr_ldc (pc := 66) (z := (-99999999)) dX11_rowInHand_66 wG_X11_165 (by decide) ?_
    exact mr_iretP dX11_rowInHand_68 rfl (le_t rfl) (le_t rfl) ⟨(rW (c := (-2147483648)) (d := 2147483647) (rR (x := (-99999999))) rfl), trivial⟩
  have h3 : 10 ≤ p1 ∧ p1 ≤ 2147483647 := (vc_X11_rowInHand_3 h1 hp1)
  refine mr_iload_n (pc := 6) (z := p1) dX11_rowInHand_6 rfl rfl ?_
  refine mr_bipush (pc := 7) (z := 10) dX11_rowInHand_7 (by decide) ?_
  refine sv_aload_n (pc := 9) dX11_rowInHand_9 rfl rfl ?_
  refine gf_X11_2 (pc := 10) dX11_rowInHand_10 wF_X11_19 (A_0 hw) hT ?_
  refine gf_X7_7 (pc := 13) dX11_rowInHand_13 wF_X11_245 (A_3 hw) hT fun z4 q5 h6 => ?_
  refine mr_iadd (pc := 16) (x := 10) (y := z4) dX11_rowInHand_16 ?_
  refine mr_icmp_ge (pc := 17) (tgt := 33) dX11_rowInHand_17 (by decide) (r32 h3 rfl) (r32 (rAdd (e := 10) (f := 30) (rR (x := 10)) h6 rfl) rfl) (fun h7 => ?_) (fun h7 => ?_)
  · refine mr_iload_n (pc := 33) (z := p1) dX11_rowInHand_33 rfl rfl ?_
    refine mr_bipush (pc := 34) (z := 100) dX11_rowInHand_34 (by decide) ?_
    refine mr_icmp_lt (pc := 36) (tgt := 66) dX11_rowInHand_36 (by decide) (r32 h3 rfl) (r32 (rR (x := 100)) rfl) (fun h8 => ?_) (fun h8 => ?_)
    · have h9 : 10 ≤ p1 ∧ p1 ≤ 99 := (vc_X11_rowInHand_4 h8 h1 h7 h3 h6)
      refine mr_ldc (pc := 66) (z := (-99999999)) dX11_rowInHand_66 wG_X11_165 (by decide) ?_
      exact mr_iretP dX11_rowInHand_68 rfl (le_t rfl) (le_t rfl) ⟨(rW (c := (-2147483648)) (d := 2147483647) (rR (x := (-99999999))) rfl), trivial⟩
    have h10 : 100 ≤ p1 ∧ p1 ≤ 2147483647 := (vc_X11_rowInHand_5 h8 h1 h7 h3 h6)
    refine mr_iload_n (pc := 39) (z := p1) dX11_rowInHand_39 rfl rfl ?_
    refine mr_bipush (pc := 40) (z := 100) dX11_rowInHand_40 (by decide) ?_
    refine sv_aload_n (pc := 42) dX11_rowInHand_42 rfl rfl ?_
    refine gf_X11_2 (pc := 43) dX11_rowInHand_43 wF_X11_19 (A_0 hw) hT ?_
    refine gf_X7_8 (pc := 46) dX11_rowInHand_46 wF_X11_262 (A_3 hw) hT fun z11 q12 h13 => ?_
    refine mr_iadd (pc := 49) (x := 100) (y := z11) dX11_rowInHand_49 ?_
    refine mr_icmp_ge (pc := 50) (tgt := 66) dX11_rowInHand_50 (by decide) (r32 h10 rfl) (r32 (rAdd (e := 100) (f := 108) (rR (x := 100)) h13 rfl) rfl) (fun h14 => ?_) (fun h14 => ?_)
    · refine mr_ldc (pc := 66) (z := (-99999999)) dX11_rowInHand_66 wG_X11_165 (by decide) ?_
      exact mr_iretP dX11_rowInHand_68 rfl (le_t rfl) (le_t rfl) ⟨(rW (c := (-2147483648)) (d := 2147483647) (rR (x := (-99999999))) rfl), trivial⟩
    have h15 : 100 ≤ p1 ∧ p1 ≤ 107 := (vc_X11_rowInHand_6 h14 h1 h7 h8 h10 h13 h6)
    have h16 : 1 ≤ z11 ∧ z11 ≤ 8 := (vc_X11_rowInHand_7 h14 h1 h7 h8 h15 h13 h6)
    refine sv_aload_n (pc := 53) dX11_rowInHand_53 rfl rfl ?_
    refine gf_X11_2 (pc := 54) dX11_rowInHand_54 wF_X11_19 (A_0 hw) hT ?_
    refine gf_X7_1 (pc := 57) dX11_rowInHand_57 wF_X11_268 (A_3 hw) hT fun A17 => ?_
    refine mr_iload_n (pc := 60) (z := p1) dX11_rowInHand_60 rfl rfl ?_
    refine mr_bipush (pc := 61) (z := 100) dX11_rowInHand_61 (by decide) ?_
    refine mr_isub (pc := 63) (x := p1) (y := 100) dX11_rowInHand_63 ?_
    refine la_202 (pc := 64) dX11_rowInHand_64 A17 hT (rIx (n := 8) (rSub (e := 0) (f := 7) h15 (rR (x := 100)) rfl) rfl) fun z18 q19 h20 => ?_
    exact mr_iretP dX11_rowInHand_65 rfl (le_t rfl) (le_t rfl) ⟨h20, trivial⟩
  have h21 : 10 ≤ p1 ∧ p1 ≤ 29 := (vc_X11_rowInHand_8 h7 h1 h3 h6)
  have h22 : 1 ≤ z4 ∧ z4 ≤ 20 := (vc_X11_rowInHand_9 h7 h1 h21 h6)
  refine sv_aload_n (pc := 20) dX11_rowInHand_20 rfl rfl ?_
  refine gf_X11_2 (pc := 21) dX11_rowInHand_21 wF_X11_19 (A_0 hw) hT ?_
  refine gf_X7_0 (pc := 24) dX11_rowInHand_24 wF_X11_236 (A_3 hw) hT fun A23 => ?_
  refine mr_iload_n (pc := 27) (z := p1) dX11_rowInHand_27 rfl rfl ?_
  refine mr_bipush (pc := 28) (z := 10) dX11_rowInHand_28 (by decide) ?_
  refine mr_isub (pc := 30) (x := p1) (y := 10) dX11_rowInHand_30 ?_
  refine la_201 (pc := 31) dX11_rowInHand_31 A23 hT (rIx (n := 20) (rSub (e := 0) (f := 19) h21 (rR (x := 10)) rfl) rfl) fun z24 q25 h26 => ?_
  exact mr_iretP dX11_rowInHand_32 rfl (le_t rfl) (le_t rfl) ⟨h26, trivial⟩
theorem vc_X11_hand_1 {z1 : Int} (h0 : ¬ z1 = 0) (h1 : 0 ≤ z1 ∧ z1 ≤ 1) : 1 ≤ z1 ∧ z1 ≤ 1 := by omega
theorem vc_X11_hand_2 {p1 : Int} (h0 : p1 = 0) (h1 : (-2147483648) ≤ p1 ∧ p1 ≤ 2147483647) : 0 ≤ p1 ∧ p1 ≤ 0 := by omega
theorem vc_X11_hand_3 {p1 : Int} (h0 : p1 = 1) (h1 : ¬ p1 = 0) (h2 : (-2147483648) ≤ p1 ∧ p1 ≤ 2147483647) : 1 ≤ p1 ∧ p1 ≤ 1 := by omega
theorem vc_X11_hand_4 {p1 : Int} (h0 : p1 = 2) (h1 : ¬ p1 = 0) (h2 : ¬ p1 = 1) (h3 : (-2147483648) ≤ p1 ∧ p1 ≤ 2147483647) : 2 ≤ p1 ∧ p1 ≤ 2 := by omega
theorem vc_X11_hand_5 {p1 : Int} (h0 : p1 = 3) (h1 : ¬ p1 = 0) (h2 : ¬ p1 = 1) (h3 : ¬ p1 = 2) (h4 : (-2147483648) ≤ p1 ∧ p1 ≤ 2147483647) : 3 ≤ p1 ∧ p1 ≤ 3 := by omega
theorem vc_X11_hand_6 {p1 : Int} (h0 : p1 = 4) (h1 : ¬ p1 = 0) (h2 : ¬ p1 = 1) (h3 : ¬ p1 = 2) (h4 : ¬ p1 = 3) (h5 : (-2147483648) ≤ p1 ∧ p1 ≤ 2147483647) : 4 ≤ p1 ∧ p1 ≤ 4 := by omega
theorem vc_X11_hand_7 {p1 : Int} (h0 : p1 = 5) (h1 : ¬ p1 = 0) (h2 : ¬ p1 = 1) (h3 : ¬ p1 = 2) (h4 : ¬ p1 = 3) (h5 : ¬ p1 = 4) (h6 : (-2147483648) ≤ p1 ∧ p1 ≤ 2147483647) : 5 ≤ p1 ∧ p1 ≤ 5 := by omega
theorem vc_X11_hand_8 {p1 : Int} (h0 : ¬ p1 = 0) (h1 : ¬ p1 = 1) (h2 : ¬ p1 = 2) (h3 : ¬ p1 = 3) (h4 : ¬ p1 = 4) (h5 : ¬ p1 = 5) (h6 : (-2147483648) ≤ p1 ∧ p1 ≤ 2147483647) : p1 < 0 ∨ 5 < p1 := by omega
theorem vc_X11_hand_9 {z1 : Int} (h0 : z1 = 0) (h1 : 0 ≤ z1 ∧ z1 ≤ 1) : 0 ≤ z1 ∧ z1 ≤ 0 := by omega
set_option maxRecDepth 4000 in
set_option maxHeartbeats 4000000 in
theorem c_X11_hand {l : Launch} {D : va_G} {c : Nat → ClassId} {H0 : Heap} {sa : Nat × Nat × (Nat → Int32)} {w : mW} {μ : mM} (hw : mWF w) (hT : mT w μ) {p1 : Int} (hp1 : (-2147483648) ≤ p1 ∧ p1 ≤ 2147483647) : sC (gG l D c H0 sa) mX11_hand 2 0 0 [.ref 0, iv p1] (mk w μ) (qP w μ (fun z => ((-2147483648) ≤ z ∧ z ≤ 2147483647) ∧ True)) := by
  refine sC.of rfl (by decide) (le_t rfl) ?_
  refine mr_lvE (lv' := [(0, .ref 0), (1, iv p1)]) rfl ?_
  refine sv_aload_n (pc := 0) dX11_hand_0 rfl rfl ?_
  refine gf_X11_2 (pc := 1) dX11_hand_1 wF_X11_19 (A_0 hw) hT ?_
  refine gf_X7_2 (pc := 4) dX11_hand_4 wF_X11_246 (A_3 hw) hT fun z1 q2 h3 => ?_
  refine mr_if_ne (pc := 7) (tgt := 13) dX11_hand_7 (by decide) (r32 h3 rfl) (fun h4 => ?_) (fun h4 => ?_)
  · have h5 : 1 ≤ z1 ∧ z1 ≤ 1 := (vc_X11_hand_1 h4 h3)
    refine mr_iload_n (pc := 13) (z := p1) dX11_hand_13 rfl rfl ?_
    by_cases h6 : p1 = 0
    · refine mr_tableIn (pc := 14) (v := 0) (tgt := 52) dX11_hand_14 h6 rfl rfl (by decide) ?_
      have h7 : 0 ≤ p1 ∧ p1 ≤ 0 := (vc_X11_hand_2 h6 hp1)
      refine sv_aload_n (pc := 52) dX11_hand_52 rfl rfl ?_
      refine gf_X11_2 (pc := 53) dX11_hand_53 wF_X11_19 (A_0 hw) hT ?_
      refine gf_X7_3 (pc := 56) dX11_hand_56 wF_X11_256 (A_3 hw) hT fun z8 q9 h10 => ?_
      exact mr_iretP dX11_hand_59 rfl (le_t rfl) (le_t rfl) ⟨(rW (c := (-2147483648)) (d := 2147483647) h10 rfl), trivial⟩
    by_cases h11 : p1 = 1
    · refine mr_tableIn (pc := 14) (v := 1) (tgt := 60) dX11_hand_14 h11 rfl rfl (by decide) ?_
      have h12 : 1 ≤ p1 ∧ p1 ≤ 1 := (vc_X11_hand_3 h11 h6 hp1)
      refine sv_aload_n (pc := 60) dX11_hand_60 rfl rfl ?_
      refine gf_X11_2 (pc := 61) dX11_hand_61 wF_X11_19 (A_0 hw) hT ?_
      refine gf_X7_4 (pc := 64) dX11_hand_64 wF_X11_230 (A_3 hw) hT fun z13 q14 h15 => ?_
      exact mr_iretP dX11_hand_67 rfl (le_t rfl) (le_t rfl) ⟨h15, trivial⟩
    by_cases h16 : p1 = 2
    · refine mr_tableIn (pc := 14) (v := 2) (tgt := 68) dX11_hand_14 h16 rfl rfl (by decide) ?_
      have h17 : 2 ≤ p1 ∧ p1 ≤ 2 := (vc_X11_hand_4 h16 h6 h11 hp1)
      refine sv_aload_n (pc := 68) dX11_hand_68 rfl rfl ?_
      refine gf_X11_2 (pc := 69) dX11_hand_69 wF_X11_19 (A_0 hw) hT ?_
      refine gf_X7_5 (pc := 72) dX11_hand_72 wF_X11_259 (A_3 hw) hT fun z18 q19 h20 => ?_
      exact mr_iretP dX11_hand_75 rfl (le_t rfl) (le_t rfl) ⟨h20, trivial⟩
    by_cases h21 : p1 = 3
    · refine mr_tableIn (pc := 14) (v := 3) (tgt := 76) dX11_hand_14 h21 rfl rfl (by decide) ?_
      have h22 : 3 ≤ p1 ∧ p1 ≤ 3 := (vc_X11_hand_5 h21 h6 h11 h16 hp1)
      refine sv_aload_n (pc := 76) dX11_hand_76 rfl rfl ?_
      refine gf_X11_2 (pc := 77) dX11_hand_77 wF_X11_19 (A_0 hw) hT ?_
      refine gf_X7_6 (pc := 80) dX11_hand_80 wF_X11_233 (A_3 hw) hT fun z23 q24 h25 => ?_
      exact mr_iretP dX11_hand_83 rfl (le_t rfl) (le_t rfl) ⟨h25, trivial⟩
    by_cases h26 : p1 = 4
    · refine mr_tableIn (pc := 14) (v := 4) (tgt := 84) dX11_hand_14 h26 rfl rfl (by decide) ?_
      have h27 : 4 ≤ p1 ∧ p1 ≤ 4 := (vc_X11_hand_6 h26 h6 h11 h16 h21 hp1)
      refine sv_aload_n (pc := 84) dX11_hand_84 rfl rfl ?_
      refine gf_X11_2 (pc := 85) dX11_hand_85 wF_X11_19 (A_0 hw) hT ?_
      refine gf_X7_7 (pc := 88) dX11_hand_88 wF_X11_245 (A_3 hw) hT fun z28 q29 h30 => ?_
      exact mr_iretP dX11_hand_91 rfl (le_t rfl) (le_t rfl) ⟨(rW (c := (-2147483648)) (d := 2147483647) h30 rfl), trivial⟩
    by_cases h31 : p1 = 5
    · refine mr_tableIn (pc := 14) (v := 5) (tgt := 92) dX11_hand_14 h31 rfl rfl (by decide) ?_
      have h32 : 5 ≤ p1 ∧ p1 ≤ 5 := (vc_X11_hand_7 h31 h6 h11 h16 h21 h26 hp1)
      refine sv_aload_n (pc := 92) dX11_hand_92 rfl rfl ?_
      refine gf_X11_2 (pc := 93) dX11_hand_93 wF_X11_19 (A_0 hw) hT ?_
      refine gf_X7_8 (pc := 96) dX11_hand_96 wF_X11_262 (A_3 hw) hT fun z33 q34 h35 => ?_
      exact mr_iretP dX11_hand_99 rfl (le_t rfl) (le_t rfl) ⟨(rW (c := (-2147483648)) (d := 2147483647) h35 rfl), trivial⟩
    refine mr_tableOut (pc := 14) (tgt := 100) dX11_hand_14 hp1 (vc_X11_hand_8 h6 h11 h16 h21 h26 h31 hp1) (by decide) ?_
    refine sv_aload_n (pc := 100) dX11_hand_100 rfl rfl ?_
    refine mr_iload_n (pc := 101) (z := p1) dX11_hand_101 rfl rfl ?_
    refine mr_cVP (pc := 102) (c_X11_rowInHand hw hT hp1) (gOk _ _ _ _ _) dX11_hand_102 (tX11_rowInHand _ _ _ _ _) ⟨wV_X11_rowInHand, wL_X11_rowInHand⟩ wM_X11_265 (gCX11 _ _ _ _ _) rfl (A_0 hw) rfl ⟨le_t rfl, le_t rfl⟩ ⟨le_t rfl, le_t rfl⟩ rfl (le_t rfl) fun z40 h39 => ?_
    exact mr_iretP dX11_hand_105 rfl (le_t rfl) (le_t rfl) ⟨h39.1, trivial⟩
  have h41 : 0 ≤ z1 ∧ z1 ≤ 0 := (vc_X11_hand_9 h4 h3)
  refine mr_ldc (pc := 10) (z := (-99999999)) dX11_hand_10 wG_X11_165 (by decide) ?_
  exact mr_iretP dX11_hand_12 rfl (le_t rfl) (le_t rfl) ⟨(rW (c := (-2147483648)) (d := 2147483647) (rR (x := (-99999999))) rfl), trivial⟩
theorem vc_X11_picked_1 {p1 z1 z8 : Int} (h0 : z8 = 0) (h1 : (z8 = 1 → 0 ≤ p1 ∧ p1 < z1)) (h2 : (z8 = 0 → p1 < 0 ∨ z1 ≤ p1)) (h3 : (-2147483648) ≤ p1 ∧ p1 ≤ 2147483647) (h4 : 0 ≤ z1 ∧ z1 ≤ 10) (h5 : 0 ≤ z8 ∧ z8 ≤ 1) : 0 ≤ z8 ∧ z8 ≤ 0 := by omega
theorem vc_X11_picked_2 {n0 p1 z1 z8 : Int} (h0 : (z8 = 1 → 0 ≤ p1 ∧ p1 < z1)) (h1 : (z8 = 0 → p1 < 0 ∨ z1 ≤ p1)) (h2 : z8 = 0) (h3 : z1 = n0) (h4 : (-2147483648) ≤ p1 ∧ p1 ≤ 2147483647) (h5 : 0 ≤ z1 ∧ z1 ≤ 10) (h6 : 0 ≤ z8 ∧ z8 ≤ 0) : z8 = 0 := by omega
theorem vc_X11_picked_3 {p1 z1 z8 : Int} (h0 : ¬ z8 = 0) (h1 : (z8 = 1 → 0 ≤ p1 ∧ p1 < z1)) (h2 : (z8 = 0 → p1 < 0 ∨ z1 ≤ p1)) (h3 : (-2147483648) ≤ p1 ∧ p1 ≤ 2147483647) (h4 : 0 ≤ z1 ∧ z1 ≤ 10) (h5 : 0 ≤ z8 ∧ z8 ≤ 1) : 1 ≤ z8 ∧ z8 ≤ 1 := by omega
theorem vc_X11_picked_4 {n0 p1 z1 z8 : Int} (h0 : (z8 = 1 → 0 ≤ p1 ∧ p1 < z1)) (h1 : (z8 = 0 → p1 < 0 ∨ z1 ≤ p1)) (h2 : ¬ z8 = 0) (h3 : z1 = n0) (h4 : (-2147483648) ≤ p1 ∧ p1 ≤ 2147483647) (h5 : 0 ≤ z1 ∧ z1 ≤ 10) (h6 : 1 ≤ z8 ∧ z8 ≤ 1) : z8 = 1 := by omega
theorem vc_X11_picked_5 {n0 p1 z1 z8 : Int} (h0 : 0 ≤ p1 ∧ p1 < z1) (h1 : z1 = n0) (h2 : (z8 = 1 → 0 ≤ p1 ∧ p1 < z1)) (h3 : (z8 = 0 → p1 < 0 ∨ z1 ≤ p1)) (h4 : (-2147483648) ≤ p1 ∧ p1 ≤ 2147483647) (h5 : 0 ≤ z1 ∧ z1 ≤ 10) (h6 : 1 ≤ z8 ∧ z8 ≤ 1) : 0 ≤ p1 ∧ p1 ≤ 9 := by omega
theorem vc_X11_picked_6 {n0 p1 z1 z8 : Int} (h0 : 0 ≤ p1 ∧ p1 < z1) (h1 : z1 = n0) (h2 : (z8 = 1 → 0 ≤ p1 ∧ p1 < z1)) (h3 : (z8 = 0 → p1 < 0 ∨ z1 ≤ p1)) (h4 : 0 ≤ p1 ∧ p1 ≤ 9) (h5 : 0 ≤ z1 ∧ z1 ≤ 10) (h6 : 1 ≤ z8 ∧ z8 ≤ 1) : 1 ≤ z1 ∧ z1 ≤ 10 := by omega
theorem vc_X11_picked_7 {p2 z16 z23 : Int} (h0 : ¬ z23 = 0) (h1 : (z23 = 1 → 0 ≤ p2 ∧ p2 < z16)) (h2 : (z23 = 0 → p2 < 0 ∨ z16 ≤ p2)) (h3 : (-2147483648) ≤ p2 ∧ p2 ≤ 2147483647) (h4 : 0 ≤ z16 ∧ z16 ≤ 10) (h5 : 0 ≤ z23 ∧ z23 ≤ 1) : 1 ≤ z23 ∧ z23 ≤ 1 := by omega
theorem vc_X11_picked_8 {p2 z16 z23 : Int} (h0 : (z23 = 1 → 0 ≤ p2 ∧ p2 < z16)) (h1 : (z23 = 0 → p2 < 0 ∨ z16 ≤ p2)) (h2 : ¬ z23 = 0) (h3 : (-2147483648) ≤ p2 ∧ p2 ≤ 2147483647) (h4 : 0 ≤ z16 ∧ z16 ≤ 10) (h5 : 1 ≤ z23 ∧ z23 ≤ 1) : z23 = 1 := by omega
theorem vc_X11_picked_9 {p2 z16 z23 : Int} (h0 : 0 ≤ p2 ∧ p2 < z16) (h1 : (z23 = 1 → 0 ≤ p2 ∧ p2 < z16)) (h2 : (z23 = 0 → p2 < 0 ∨ z16 ≤ p2)) (h3 : (-2147483648) ≤ p2 ∧ p2 ≤ 2147483647) (h4 : 0 ≤ z16 ∧ z16 ≤ 10) (h5 : 1 ≤ z23 ∧ z23 ≤ 1) : 0 ≤ p2 ∧ p2 ≤ 9 := by omega
theorem vc_X11_picked_10 {n0 p1 z1 z8 : Int} (h0 : z1 = n0) (h1 : (z8 = 1 → 0 ≤ p1 ∧ p1 < z1)) (h2 : (z8 = 0 → p1 < 0 ∨ z1 ≤ p1)) (h3 : 0 ≤ p1 ∧ p1 < z1) (h4 : ¬ z8 = 0) (h5 : 0 ≤ p1 ∧ p1 ≤ 9) (h6 : 1 ≤ z1 ∧ z1 ≤ 10) (h7 : 1 ≤ z8 ∧ z8 ≤ 1) : p1 < n0 := by omega
theorem vc_X11_picked_11 {z32 : Int} (h0 : z32 = -99999999 ∨ z32 = -4 ∨ (0 ≤ z32 ∧ z32 ≤ 19)) : -99999999 ≤ z32 ∧ z32 ≤ 19 := by omega
theorem vc_X11_picked_12 {n1 z32 : Int} (h0 : z32 = (-99999999)) (h1 : (0 ≤ z32 → z32 < n1)) (h2 : (-99999999) ≤ z32 ∧ z32 ≤ 19) (h3 : z32 = -99999999 ∨ z32 = -4 ∨ (0 ≤ z32 ∧ z32 ≤ 19)) : (-99999999) ≤ z32 ∧ z32 ≤ (-99999999) := by omega
theorem vc_X11_picked_13 {n1 z32 : Int} (h0 : ¬ z32 = (-99999999)) (h1 : (0 ≤ z32 → z32 < n1)) (h2 : (-99999999) ≤ z32 ∧ z32 ≤ 19) (h3 : z32 = -99999999 ∨ z32 = -4 ∨ (0 ≤ z32 ∧ z32 ≤ 19)) : (-4) ≤ z32 ∧ z32 ≤ 19 := by omega
theorem vc_X11_picked_14 {p2 z16 z23 : Int} (h0 : z23 = 0) (h1 : (z23 = 1 → 0 ≤ p2 ∧ p2 < z16)) (h2 : (z23 = 0 → p2 < 0 ∨ z16 ≤ p2)) (h3 : (-2147483648) ≤ p2 ∧ p2 ≤ 2147483647) (h4 : 0 ≤ z16 ∧ z16 ≤ 10) (h5 : 0 ≤ z23 ∧ z23 ≤ 1) : 0 ≤ z23 ∧ z23 ≤ 0 := by omega
theorem vc_X11_picked_15 {p2 z16 z23 : Int} (h0 : (z23 = 1 → 0 ≤ p2 ∧ p2 < z16)) (h1 : (z23 = 0 → p2 < 0 ∨ z16 ≤ p2)) (h2 : z23 = 0) (h3 : (-2147483648) ≤ p2 ∧ p2 ≤ 2147483647) (h4 : 0 ≤ z16 ∧ z16 ≤ 10) (h5 : 0 ≤ z23 ∧ z23 ≤ 0) : z23 = 0 := by omega
set_option maxRecDepth 4000 in
set_option maxHeartbeats 4000000 in
theorem c_X11_picked {l : Launch} {D : va_G} {c : Nat → ClassId} {H0 : Heap} {sa : Nat × Nat × (Nat → Int32)} {w : mW} {μ : mM} (hw : mWF w) (hT : mT w μ) {p1 : Int} (hp1 : (-2147483648) ≤ p1 ∧ p1 ≤ 2147483647) {p2 : Int} (hp2 : (-2147483648) ≤ p2 ∧ p2 ≤ 2147483647) : sC (gG l D c H0 sa) mX11_picked 4 0 0 [.ref 0, iv p1, iv p2] (mk w μ) (qI w [200002, 200003, 200004, 200005, 200006, 200007, 200008, 201999, 202999] μ (fun z μ1 => ((-2147483648) ≤ z ∧ z ≤ 2147483647) ∧ True)) := by
  refine sC.of rfl (by decide) (le_t rfl) ?_
  refine mr_lvE (lv' := [(0, .ref 0), (1, iv p1), (2, iv p2)]) rfl ?_
  refine sv_aload_n (pc := 0) dX11_picked_0 rfl rfl ?_
  refine mr_iload_n (pc := 1) (z := p1) dX11_picked_1 rfl rfl ?_
  obtain ⟨z1, q2⟩ : ∃ z, μ 6 15 = z := ⟨_, rfl⟩
  have h3 : (z1 = w.2.2.2 0 ∧ 0 ≤ z1 ∧ z1 ≤ 10) := by rw [← q2]; exact hT 6 6 (A_6 hw) 15
  refine mr_cVP (pc := 2) (c_X11_isDomain hw hT hp1 q2) (gOk _ _ _ _ _) dX11_picked_2 (tX11_isDomain _ _ _ _ _) ⟨wV_X11_isDomain, wL_X11_isDomain⟩ wM_X11_105 (gCX11 _ _ _ _ _) rfl (A_0 hw) rfl ⟨le_t rfl, le_t rfl⟩ ⟨le_t rfl, le_t rfl⟩ rfl (le_t rfl) fun z8 h7 => ?_
  refine mr_if_eq (pc := 5) (tgt := 16) dX11_picked_5 (by decide) (r32 h7.1 rfl) (fun h9 => ?_) (fun h9 => ?_)
  · have h10 : 0 ≤ z8 ∧ z8 ≤ 0 := (vc_X11_picked_1 h9 h7.2.1 h7.2.2.1 hp1 h3.2 h7.1)
    have h11 : p1 < 0 ∨ z1 ≤ p1 := (h7.2.2.1 (vc_X11_picked_2 h7.2.1 h7.2.2.1 h9 h3.1 hp1 h3.2 h10))
    refine mr_iconst (pc := 16) (z := (-1)) dX11_picked_16 ?_
    exact mr_iret dX11_picked_17 rfl (le_t rfl) (le_t rfl) hT mF.refl ⟨(rW (c := (-2147483648)) (d := 2147483647) (rR (x := (-1))) rfl), trivial⟩
  have h12 : 1 ≤ z8 ∧ z8 ≤ 1 := (vc_X11_picked_3 h9 h7.2.1 h7.2.2.1 hp1 h3.2 h7.1)
  have h13 : 0 ≤ p1 ∧ p1 < z1 := (h7.2.1 (vc_X11_picked_4 h7.2.1 h7.2.2.1 h9 h3.1 hp1 h3.2 h12))
  have h14 : 0 ≤ p1 ∧ p1 ≤ 9 := (vc_X11_picked_5 h13 h3.1 h7.2.1 h7.2.2.1 hp1 h3.2 h12)
  have h15 : 1 ≤ z1 ∧ z1 ≤ 10 := (vc_X11_picked_6 h13 h3.1 h7.2.1 h7.2.2.1 h14 h3.2 h12)
  refine sv_aload_n (pc := 8) dX11_picked_8 rfl rfl ?_
  refine mr_iload_n (pc := 9) (z := p2) dX11_picked_9 rfl rfl ?_
  obtain ⟨z16, q17⟩ : ∃ z, μ 6 14 = z := ⟨_, rfl⟩
  have h18 : (0 ≤ z16 ∧ z16 ≤ 10) := by rw [← q17]; exact hT 6 6 (A_6 hw) 14
  refine mr_cVP (pc := 10) (c_X11_isPrefix hw hT hp2 q17) (gOk _ _ _ _ _) dX11_picked_10 (tX11_isPrefix _ _ _ _ _) ⟨wV_X11_isPrefix, wL_X11_isPrefix⟩ wM_X11_182 (gCX11 _ _ _ _ _) rfl (A_0 hw) rfl ⟨le_t rfl, le_t rfl⟩ ⟨le_t rfl, le_t rfl⟩ rfl (le_t rfl) fun z23 h22 => ?_
  refine mr_if_ne (pc := 13) (tgt := 18) dX11_picked_13 (by decide) (r32 h22.1 rfl) (fun h24 => ?_) (fun h24 => ?_)
  · have h25 : 1 ≤ z23 ∧ z23 ≤ 1 := (vc_X11_picked_7 h24 h22.2.1 h22.2.2.1 hp2 h18 h22.1)
    have h26 : 0 ≤ p2 ∧ p2 < z16 := (h22.2.1 (vc_X11_picked_8 h22.2.1 h22.2.2.1 h24 hp2 h18 h25))
    have h27 : 0 ≤ p2 ∧ p2 ≤ 9 := (vc_X11_picked_9 h26 h22.2.1 h22.2.2.1 hp2 h18 h25)
    refine sv_aload_n (pc := 18) dX11_picked_18 rfl rfl ?_
    refine gf_X11_3 (pc := 19) dX11_picked_19 wF_X11_26 (A_0 hw) hT ?_
    refine gf_X10_3 (pc := 22) dX11_picked_22 wF_X11_283 (A_6 hw) hT ?_
    refine mr_iload_n (pc := 25) (z := p1) dX11_picked_25 rfl rfl ?_
    refine la_10 (pc := 26) dX11_picked_26 (A_10 hw) hT (rIx (n := 10) h14 rfl) (vc_X11_picked_10 h3.1 h7.2.1 h7.2.2.1 h13 h9 h14 h15 h12) fun b28 q29 A30 => ?_
    refine mr_astore_n (pc := 27) (lv' := [(3, .ref b28), (0, .ref 0), (1, iv p1), (2, iv p2)]) dX11_picked_27 rfl (by decide) rfl ?_
    refine sv_aload_n (pc := 28) dX11_picked_28 rfl rfl ?_
    refine gf_X0_2 (pc := 29) dX11_picked_29 wF_X11_310 A30 hT fun A31 => ?_
    refine mr_iload_n (pc := 32) (z := p2) dX11_picked_32 rfl rfl ?_
    refine la_213 (pc := 33) dX11_picked_33 A31 hT (rIx (n := 10) h27 rfl) fun z32 q33 h34 => ?_
    have h35 : (-99999999) ≤ z32 ∧ z32 ≤ 19 := (vc_X11_picked_11 h34.1)
    refine mr_ldc (pc := 34) (z := (-99999999)) dX11_picked_34 wG_X11_165 (by decide) ?_
    refine mr_icmp_eq (pc := 36) (tgt := 52) dX11_picked_36 (by decide) (r32 h35 rfl) (r32 (rR (x := (-99999999))) rfl) (fun h46 => ?_) (fun h46 => ?_)
    · have h47 : (-99999999) ≤ z32 ∧ z32 ≤ (-99999999) := (vc_X11_picked_12 h46 h34.2 h35 h34.1)
      refine sv_aload_n (pc := 52) dX11_picked_52 rfl rfl ?_
      refine gf_X0_2 (pc := 53) dX11_picked_53 wF_X11_310 A30 hT fun A48 => ?_
      refine mr_iload_n (pc := 56) (z := p2) dX11_picked_56 rfl rfl ?_
      refine lk_213 (pc := 57) dX11_picked_57 A48 (rIx (n := 10) h27 rfl) q33 ?_
      exact mr_iret dX11_picked_58 rfl (le_t rfl) (le_t rfl) hT mF.refl ⟨(rW (c := (-2147483648)) (d := 2147483647) h47 rfl), trivial⟩
    have h49 : (-4) ≤ z32 ∧ z32 ≤ 19 := (vc_X11_picked_13 h46 h34.2 h35 h34.1)
    refine sv_aload_n (pc := 39) dX11_picked_39 rfl rfl ?_
    refine gf_X11_2 (pc := 40) dX11_picked_40 wF_X11_19 (A_0 hw) hT ?_
    refine sv_aload_n (pc := 43) dX11_picked_43 rfl rfl ?_
    refine gf_X0_3 (pc := 44) dX11_picked_44 wF_X11_313 A30 hT fun A50 => ?_
    refine mr_iload_n (pc := 47) (z := p2) dX11_picked_47 rfl rfl ?_
    refine la_214 (pc := 48) dX11_picked_48 A50 hT (rIx (n := 10) h27 rfl) fun b51 q52 A53 => ?_
    refine mr_cVV (pc := 49) (c_X7_become hw hT (A_3 hw) A53) (gOk _ _ _ _ _) dX11_picked_49 (tX7_become _ _ _ _ _) ⟨wV_X7_become, wL_X7_become⟩ wM_X11_317 (gCX7 _ _ _ _ _) rfl (A_3 hw) rfl ⟨le_t rfl, le_t rfl⟩ ⟨le_t rfl, le_t rfl⟩ rfl (le_t rfl) fun μ54 T55 F56 h57 => ?_
    refine sv_aload_n (pc := 52) dX11_picked_52 rfl rfl ?_
    refine gf_X0_2 (pc := 53) dX11_picked_53 wF_X11_310 A30 T55 fun A58 => ?_
    refine mr_iload_n (pc := 56) (z := p2) dX11_picked_56 rfl rfl ?_
    refine lk_213 (pc := 57) dX11_picked_57 A58 (rIx (n := 10) h27 rfl) (F56.f A58 rfl q33) ?_
    exact mr_iret dX11_picked_58 rfl (le_t rfl) (le_t rfl) T55 (mF.call mF.refl F56 rfl) ⟨(rW (c := (-2147483648)) (d := 2147483647) h49 rfl), trivial⟩
  have h59 : 0 ≤ z23 ∧ z23 ≤ 0 := (vc_X11_picked_14 h24 h22.2.1 h22.2.2.1 hp2 h18 h22.1)
  have h60 : p2 < 0 ∨ z16 ≤ p2 := (h22.2.2.1 (vc_X11_picked_15 h22.2.1 h22.2.2.1 h24 hp2 h18 h59))
  refine mr_iconst (pc := 16) (z := (-1)) dX11_picked_16 ?_
  exact mr_iret dX11_picked_17 rfl (le_t rfl) (le_t rfl) hT mF.refl ⟨(rW (c := (-2147483648)) (d := 2147483647) (rR (x := (-1))) rfl), trivial⟩
theorem vc_X11_heard_1 {p1 z1 z8 : Int} (h0 : z8 = 0) (h1 : (z8 = 1 → 0 ≤ p1 ∧ p1 < z1)) (h2 : (z8 = 0 → p1 < 0 ∨ z1 ≤ p1)) (h3 : (-2147483648) ≤ p1 ∧ p1 ≤ 2147483647) (h4 : 0 ≤ z1 ∧ z1 ≤ 20) (h5 : 0 ≤ z8 ∧ z8 ≤ 1) : 0 ≤ z8 ∧ z8 ≤ 0 := by omega
theorem vc_X11_heard_2 {n1 p1 z1 z8 : Int} (h0 : (z8 = 1 → 0 ≤ p1 ∧ p1 < z1)) (h1 : (z8 = 0 → p1 < 0 ∨ z1 ≤ p1)) (h2 : z8 = 0) (h3 : z1 = n1) (h4 : (-2147483648) ≤ p1 ∧ p1 ≤ 2147483647) (h5 : 0 ≤ z1 ∧ z1 ≤ 20) (h6 : 0 ≤ z8 ∧ z8 ≤ 0) : z8 = 0 := by omega
theorem vc_X11_heard_3 {p1 z1 z8 : Int} (h0 : ¬ z8 = 0) (h1 : (z8 = 1 → 0 ≤ p1 ∧ p1 < z1)) (h2 : (z8 = 0 → p1 < 0 ∨ z1 ≤ p1)) (h3 : (-2147483648) ≤ p1 ∧ p1 ≤ 2147483647) (h4 : 0 ≤ z1 ∧ z1 ≤ 20) (h5 : 0 ≤ z8 ∧ z8 ≤ 1) : 1 ≤ z8 ∧ z8 ≤ 1 := by omega
theorem vc_X11_heard_4 {n1 p1 z1 z8 : Int} (h0 : (z8 = 1 → 0 ≤ p1 ∧ p1 < z1)) (h1 : (z8 = 0 → p1 < 0 ∨ z1 ≤ p1)) (h2 : ¬ z8 = 0) (h3 : z1 = n1) (h4 : (-2147483648) ≤ p1 ∧ p1 ≤ 2147483647) (h5 : 0 ≤ z1 ∧ z1 ≤ 20) (h6 : 1 ≤ z8 ∧ z8 ≤ 1) : z8 = 1 := by omega
theorem vc_X11_heard_5 {n1 p1 z1 z8 : Int} (h0 : 0 ≤ p1 ∧ p1 < z1) (h1 : z1 = n1) (h2 : (z8 = 1 → 0 ≤ p1 ∧ p1 < z1)) (h3 : (z8 = 0 → p1 < 0 ∨ z1 ≤ p1)) (h4 : (-2147483648) ≤ p1 ∧ p1 ≤ 2147483647) (h5 : 0 ≤ z1 ∧ z1 ≤ 20) (h6 : 1 ≤ z8 ∧ z8 ≤ 1) : 0 ≤ p1 ∧ p1 ≤ 19 := by omega
theorem vc_X11_heard_6 {n1 p1 z1 z8 : Int} (h0 : 0 ≤ p1 ∧ p1 < z1) (h1 : z1 = n1) (h2 : (z8 = 1 → 0 ≤ p1 ∧ p1 < z1)) (h3 : (z8 = 0 → p1 < 0 ∨ z1 ≤ p1)) (h4 : 0 ≤ p1 ∧ p1 ≤ 19) (h5 : 0 ≤ z1 ∧ z1 ≤ 20) (h6 : 1 ≤ z8 ∧ z8 ≤ 1) : 1 ≤ z1 ∧ z1 ≤ 20 := by omega
theorem vc_X11_heard_7 {p2 z20 : Int} (h0 : z20 = 0) (h1 : (z20 = 1 → 0 ≤ p2 ∧ p2 ≤ 1)) (h2 : (z20 = 0 → p2 < 0 ∨ 1 < p2)) (h3 : (-2147483648) ≤ p2 ∧ p2 ≤ 2147483647) (h4 : 0 ≤ z20 ∧ z20 ≤ 1) : 0 ≤ z20 ∧ z20 ≤ 0 := by omega
theorem vc_X11_heard_8 {p2 z20 : Int} (h0 : (z20 = 1 → 0 ≤ p2 ∧ p2 ≤ 1)) (h1 : (z20 = 0 → p2 < 0 ∨ 1 < p2)) (h2 : z20 = 0) (h3 : (-2147483648) ≤ p2 ∧ p2 ≤ 2147483647) (h4 : 0 ≤ z20 ∧ z20 ≤ 0) : z20 = 0 := by omega
theorem vc_X11_heard_9 {p2 z20 : Int} (h0 : ¬ z20 = 0) (h1 : (z20 = 1 → 0 ≤ p2 ∧ p2 ≤ 1)) (h2 : (z20 = 0 → p2 < 0 ∨ 1 < p2)) (h3 : (-2147483648) ≤ p2 ∧ p2 ≤ 2147483647) (h4 : 0 ≤ z20 ∧ z20 ≤ 1) : 1 ≤ z20 ∧ z20 ≤ 1 := by omega
theorem vc_X11_heard_10 {p2 z20 : Int} (h0 : (z20 = 1 → 0 ≤ p2 ∧ p2 ≤ 1)) (h1 : (z20 = 0 → p2 < 0 ∨ 1 < p2)) (h2 : ¬ z20 = 0) (h3 : (-2147483648) ≤ p2 ∧ p2 ≤ 2147483647) (h4 : 1 ≤ z20 ∧ z20 ≤ 1) : z20 = 1 := by omega
theorem vc_X11_heard_11 {p2 z20 : Int} (h0 : 0 ≤ p2 ∧ p2 ≤ 1) (h1 : (z20 = 1 → 0 ≤ p2 ∧ p2 ≤ 1)) (h2 : (z20 = 0 → p2 < 0 ∨ 1 < p2)) (h3 : (-2147483648) ≤ p2 ∧ p2 ≤ 2147483647) (h4 : 1 ≤ z20 ∧ z20 ≤ 1) : 0 ≤ p2 ∧ p2 ≤ 1 := by omega
theorem vc_X11_heard_12 {p3 z27 z34 : Int} (h0 : z34 = 0) (h1 : (z34 = 1 → 0 ≤ p3 ∧ p3 < z27)) (h2 : (z34 = 0 → p3 < 0 ∨ z27 ≤ p3)) (h3 : (-2147483648) ≤ p3 ∧ p3 ≤ 2147483647) (h4 : 0 ≤ z27 ∧ z27 ≤ 10) (h5 : 0 ≤ z34 ∧ z34 ≤ 1) : 0 ≤ z34 ∧ z34 ≤ 0 := by omega
theorem vc_X11_heard_13 {p3 z27 z34 : Int} (h0 : (z34 = 1 → 0 ≤ p3 ∧ p3 < z27)) (h1 : (z34 = 0 → p3 < 0 ∨ z27 ≤ p3)) (h2 : z34 = 0) (h3 : (-2147483648) ≤ p3 ∧ p3 ≤ 2147483647) (h4 : 0 ≤ z27 ∧ z27 ≤ 10) (h5 : 0 ≤ z34 ∧ z34 ≤ 0) : z34 = 0 := by omega
theorem vc_X11_heard_14 {p3 z27 z34 : Int} (h0 : ¬ z34 = 0) (h1 : (z34 = 1 → 0 ≤ p3 ∧ p3 < z27)) (h2 : (z34 = 0 → p3 < 0 ∨ z27 ≤ p3)) (h3 : (-2147483648) ≤ p3 ∧ p3 ≤ 2147483647) (h4 : 0 ≤ z27 ∧ z27 ≤ 10) (h5 : 0 ≤ z34 ∧ z34 ≤ 1) : 1 ≤ z34 ∧ z34 ≤ 1 := by omega
theorem vc_X11_heard_15 {p3 z27 z34 : Int} (h0 : (z34 = 1 → 0 ≤ p3 ∧ p3 < z27)) (h1 : (z34 = 0 → p3 < 0 ∨ z27 ≤ p3)) (h2 : ¬ z34 = 0) (h3 : (-2147483648) ≤ p3 ∧ p3 ≤ 2147483647) (h4 : 0 ≤ z27 ∧ z27 ≤ 10) (h5 : 1 ≤ z34 ∧ z34 ≤ 1) : z34 = 1 := by omega
theorem vc_X11_heard_16 {p3 z27 z34 : Int} (h0 : 0 ≤ p3 ∧ p3 < z27) (h1 : (z34 = 1 → 0 ≤ p3 ∧ p3 < z27)) (h2 : (z34 = 0 → p3 < 0 ∨ z27 ≤ p3)) (h3 : (-2147483648) ≤ p3 ∧ p3 ≤ 2147483647) (h4 : 0 ≤ z27 ∧ z27 ≤ 10) (h5 : 1 ≤ z34 ∧ z34 ≤ 1) : 0 ≤ p3 ∧ p3 ≤ 9 := by omega
theorem vc_X11_heard_17 {p3 z27 z34 : Int} (h0 : 0 ≤ p3 ∧ p3 < z27) (h1 : (z34 = 1 → 0 ≤ p3 ∧ p3 < z27)) (h2 : (z34 = 0 → p3 < 0 ∨ z27 ≤ p3)) (h3 : 0 ≤ p3 ∧ p3 ≤ 9) (h4 : 0 ≤ z27 ∧ z27 ≤ 10) (h5 : 1 ≤ z34 ∧ z34 ≤ 1) : 1 ≤ z27 ∧ z27 ≤ 10 := by omega
theorem vc_X11_heard_18 {p4 z46 : Int} (h0 : ¬ z46 = 0) (h1 : (z46 = 1 → 0 ≤ p4 ∧ p4 ≤ 1)) (h2 : (z46 = 0 → p4 < 0 ∨ 1 < p4)) (h3 : (-2147483648) ≤ p4 ∧ p4 ≤ 2147483647) (h4 : 0 ≤ z46 ∧ z46 ≤ 1) : 1 ≤ z46 ∧ z46 ≤ 1 := by omega
theorem vc_X11_heard_19 {p4 z46 : Int} (h0 : (z46 = 1 → 0 ≤ p4 ∧ p4 ≤ 1)) (h1 : (z46 = 0 → p4 < 0 ∨ 1 < p4)) (h2 : ¬ z46 = 0) (h3 : (-2147483648) ≤ p4 ∧ p4 ≤ 2147483647) (h4 : 1 ≤ z46 ∧ z46 ≤ 1) : z46 = 1 := by omega
theorem vc_X11_heard_20 {p4 z46 : Int} (h0 : 0 ≤ p4 ∧ p4 ≤ 1) (h1 : (z46 = 1 → 0 ≤ p4 ∧ p4 ≤ 1)) (h2 : (z46 = 0 → p4 < 0 ∨ 1 < p4)) (h3 : (-2147483648) ≤ p4 ∧ p4 ≤ 2147483647) (h4 : 1 ≤ z46 ∧ z46 ≤ 1) : 0 ≤ p4 ∧ p4 ≤ 1 := by omega
theorem vc_X11_heard_21 {z75 : Int} (h0 : ¬ z75 = 0) (h1 : 0 ≤ z75 ∧ z75 ≤ 1) : 1 ≤ z75 ∧ z75 ≤ 1 := by omega
theorem vc_X11_heard_22 {z75 : Int} (h0 : z75 = 0) (h1 : 0 ≤ z75 ∧ z75 ≤ 1) : 0 ≤ z75 ∧ z75 ≤ 0 := by omega
theorem vc_X11_heard_23 {p4 z46 : Int} (h0 : ¬ p4 = 0) (h1 : (z46 = 1 → 0 ≤ p4 ∧ p4 ≤ 1)) (h2 : (z46 = 0 → p4 < 0 ∨ 1 < p4)) (h3 : 0 ≤ p4 ∧ p4 ≤ 1) (h4 : 1 ≤ z46 ∧ z46 ≤ 1) : 1 ≤ p4 ∧ p4 ≤ 1 := by omega
theorem vc_X11_heard_24 {n1 p1 z1 z8 : Int} (h0 : z1 = n1) (h1 : (z8 = 1 → 0 ≤ p1 ∧ p1 < z1)) (h2 : (z8 = 0 → p1 < 0 ∨ z1 ≤ p1)) (h3 : 0 ≤ p1 ∧ p1 < z1) (h4 : ¬ z8 = 0) (h5 : 0 ≤ p1 ∧ p1 ≤ 19) (h6 : 1 ≤ z1 ∧ z1 ≤ 20) (h7 : 1 ≤ z8 ∧ z8 ≤ 1) : p1 < n1 := by omega
theorem vc_X11_heard_25 {p4 z46 : Int} (h0 : p4 = 0) (h1 : (z46 = 1 → 0 ≤ p4 ∧ p4 ≤ 1)) (h2 : (z46 = 0 → p4 < 0 ∨ 1 < p4)) (h3 : 0 ≤ p4 ∧ p4 ≤ 1) (h4 : 1 ≤ z46 ∧ z46 ≤ 1) : 0 ≤ p4 ∧ p4 ≤ 0 := by omega
theorem vc_X11_heard_26 {p4 z46 : Int} (h0 : z46 = 0) (h1 : (z46 = 1 → 0 ≤ p4 ∧ p4 ≤ 1)) (h2 : (z46 = 0 → p4 < 0 ∨ 1 < p4)) (h3 : (-2147483648) ≤ p4 ∧ p4 ≤ 2147483647) (h4 : 0 ≤ z46 ∧ z46 ≤ 1) : 0 ≤ z46 ∧ z46 ≤ 0 := by omega
theorem vc_X11_heard_27 {p4 z46 : Int} (h0 : (z46 = 1 → 0 ≤ p4 ∧ p4 ≤ 1)) (h1 : (z46 = 0 → p4 < 0 ∨ 1 < p4)) (h2 : z46 = 0) (h3 : (-2147483648) ≤ p4 ∧ p4 ≤ 2147483647) (h4 : 0 ≤ z46 ∧ z46 ≤ 0) : z46 = 0 := by omega
set_option maxRecDepth 4000 in
set_option maxHeartbeats 4000000 in
theorem c_X11_heard {l : Launch} {D : va_G} {c : Nat → ClassId} {H0 : Heap} {sa : Nat × Nat × (Nat → Int32)} {w : mW} {μ : mM} (hw : mWF w) (hT : mT w μ) {p1 : Int} (hp1 : (-2147483648) ≤ p1 ∧ p1 ≤ 2147483647) {p2 : Int} (hp2 : (-2147483648) ≤ p2 ∧ p2 ≤ 2147483647) {p3 : Int} (hp3 : (-2147483648) ≤ p3 ∧ p3 ≤ 2147483647) {p4 : Int} (hp4 : (-2147483648) ≤ p4 ∧ p4 ≤ 2147483647) : sC (gG l D c H0 sa) mX11_heard 4 0 0 [.ref 0, iv p1, iv p2, iv p3, iv p4] (mk w μ) (qI w [200002, 200003, 200004, 200005, 200006, 200007, 200008, 201999, 202999] μ (fun z μ1 => ((-2147483648) ≤ z ∧ z ≤ 2147483647) ∧ True)) := by
  refine sC.of rfl (by decide) (le_t rfl) ?_
  refine mr_lvE (lv' := [(0, .ref 0), (1, iv p1), (2, iv p2), (3, iv p3), (4, iv p4)]) rfl ?_
  refine sv_aload_n (pc := 0) dX11_heard_0 rfl rfl ?_
  refine mr_iload_n (pc := 1) (z := p1) dX11_heard_1 rfl rfl ?_
  obtain ⟨z1, q2⟩ : ∃ z, μ 6 16 = z := ⟨_, rfl⟩
  have h3 : (z1 = w.2.2.2 1 ∧ 0 ≤ z1 ∧ z1 ≤ 20) := by rw [← q2]; exact hT 6 6 (A_6 hw) 16
  refine mr_cVP (pc := 2) (c_X11_isTie hw hT hp1 q2) (gOk _ _ _ _ _) dX11_heard_2 (tX11_isTie _ _ _ _ _) ⟨wV_X11_isTie, wL_X11_isTie⟩ wM_X11_119 (gCX11 _ _ _ _ _) rfl (A_0 hw) rfl ⟨le_t rfl, le_t rfl⟩ ⟨le_t rfl, le_t rfl⟩ rfl (le_t rfl) fun z8 h7 => ?_
  refine mr_if_eq (pc := 5) (tgt := 31) dX11_heard_5 (by decide) (r32 h7.1 rfl) (fun h9 => ?_) (fun h9 => ?_)
  · have h10 : 0 ≤ z8 ∧ z8 ≤ 0 := (vc_X11_heard_1 h9 h7.2.1 h7.2.2.1 hp1 h3.2 h7.1)
    have h11 : p1 < 0 ∨ z1 ≤ p1 := (h7.2.2.1 (vc_X11_heard_2 h7.2.1 h7.2.2.1 h9 h3.1 hp1 h3.2 h10))
    refine mr_iconst (pc := 31) (z := (-1)) dX11_heard_31 ?_
    exact mr_iret dX11_heard_32 rfl (le_t rfl) (le_t rfl) hT mF.refl ⟨(rW (c := (-2147483648)) (d := 2147483647) (rR (x := (-1))) rfl), trivial⟩
  have h12 : 1 ≤ z8 ∧ z8 ≤ 1 := (vc_X11_heard_3 h9 h7.2.1 h7.2.2.1 hp1 h3.2 h7.1)
  have h13 : 0 ≤ p1 ∧ p1 < z1 := (h7.2.1 (vc_X11_heard_4 h7.2.1 h7.2.2.1 h9 h3.1 hp1 h3.2 h12))
  have h14 : 0 ≤ p1 ∧ p1 ≤ 19 := (vc_X11_heard_5 h13 h3.1 h7.2.1 h7.2.2.1 hp1 h3.2 h12)
  have h15 : 1 ≤ z1 ∧ z1 ≤ 20 := (vc_X11_heard_6 h13 h3.1 h7.2.1 h7.2.2.1 h14 h3.2 h12)
  refine mr_iload_n (pc := 8) (z := p2) dX11_heard_8 rfl rfl ?_
  refine mr_cSP (pc := 9) (c_X11_isEither hw hT hp2) (gOk _ _ _ _ _) dX11_heard_9 (tX11_isEither _ _ _ _ _) wS_X11_isEither wM_X11_271 ⟨le_t rfl, le_t rfl⟩ ⟨le_t rfl, le_t rfl⟩ rfl (le_t rfl) fun z20 h19 => ?_
  refine mr_if_eq (pc := 12) (tgt := 31) dX11_heard_12 (by decide) (r32 h19.1 rfl) (fun h21 => ?_) (fun h21 => ?_)
  · have h22 : 0 ≤ z20 ∧ z20 ≤ 0 := (vc_X11_heard_7 h21 h19.2.1 h19.2.2.1 hp2 h19.1)
    have h23 : p2 < 0 ∨ 1 < p2 := (h19.2.2.1 (vc_X11_heard_8 h19.2.1 h19.2.2.1 h21 hp2 h22))
    refine mr_iconst (pc := 31) (z := (-1)) dX11_heard_31 ?_
    exact mr_iret dX11_heard_32 rfl (le_t rfl) (le_t rfl) hT mF.refl ⟨(rW (c := (-2147483648)) (d := 2147483647) (rR (x := (-1))) rfl), trivial⟩
  have h24 : 1 ≤ z20 ∧ z20 ≤ 1 := (vc_X11_heard_9 h21 h19.2.1 h19.2.2.1 hp2 h19.1)
  have h25 : 0 ≤ p2 ∧ p2 ≤ 1 := (h19.2.1 (vc_X11_heard_10 h19.2.1 h19.2.2.1 h21 hp2 h24))
  have h26 : 0 ≤ p2 ∧ p2 ≤ 1 := (vc_X11_heard_11 h25 h19.2.1 h19.2.2.1 hp2 h24)
  refine sv_aload_n (pc := 15) dX11_heard_15 rfl rfl ?_
  refine mr_iload_n (pc := 16) (z := p3) dX11_heard_16 rfl rfl ?_
  obtain ⟨z27, q28⟩ : ∃ z, μ 6 14 = z := ⟨_, rfl⟩
  have h29 : (0 ≤ z27 ∧ z27 ≤ 10) := by rw [← q28]; exact hT 6 6 (A_6 hw) 14
  refine mr_cVP (pc := 17) (c_X11_isPrefix hw hT hp3 q28) (gOk _ _ _ _ _) dX11_heard_17 (tX11_isPrefix _ _ _ _ _) ⟨wV_X11_isPrefix, wL_X11_isPrefix⟩ wM_X11_182 (gCX11 _ _ _ _ _) rfl (A_0 hw) rfl ⟨le_t rfl, le_t rfl⟩ ⟨le_t rfl, le_t rfl⟩ rfl (le_t rfl) fun z34 h33 => ?_
  refine mr_if_eq (pc := 20) (tgt := 31) dX11_heard_20 (by decide) (r32 h33.1 rfl) (fun h35 => ?_) (fun h35 => ?_)
  · have h36 : 0 ≤ z34 ∧ z34 ≤ 0 := (vc_X11_heard_12 h35 h33.2.1 h33.2.2.1 hp3 h29 h33.1)
    have h37 : p3 < 0 ∨ z27 ≤ p3 := (h33.2.2.1 (vc_X11_heard_13 h33.2.1 h33.2.2.1 h35 hp3 h29 h36))
    refine mr_iconst (pc := 31) (z := (-1)) dX11_heard_31 ?_
    exact mr_iret dX11_heard_32 rfl (le_t rfl) (le_t rfl) hT mF.refl ⟨(rW (c := (-2147483648)) (d := 2147483647) (rR (x := (-1))) rfl), trivial⟩
  have h38 : 1 ≤ z34 ∧ z34 ≤ 1 := (vc_X11_heard_14 h35 h33.2.1 h33.2.2.1 hp3 h29 h33.1)
  have h39 : 0 ≤ p3 ∧ p3 < z27 := (h33.2.1 (vc_X11_heard_15 h33.2.1 h33.2.2.1 h35 hp3 h29 h38))
  have h40 : 0 ≤ p3 ∧ p3 ≤ 9 := (vc_X11_heard_16 h39 h33.2.1 h33.2.2.1 hp3 h29 h38)
  have h41 : 1 ≤ z27 ∧ z27 ≤ 10 := (vc_X11_heard_17 h39 h33.2.1 h33.2.2.1 h40 h29 h38)
  refine mr_iload (pc := 23) (z := p4) dX11_heard_23 rfl ?_
  refine mr_cSP (pc := 25) (c_X11_isEither hw hT hp4) (gOk _ _ _ _ _) dX11_heard_25 (tX11_isEither _ _ _ _ _) wS_X11_isEither wM_X11_271 ⟨le_t rfl, le_t rfl⟩ ⟨le_t rfl, le_t rfl⟩ rfl (le_t rfl) fun z46 h45 => ?_
  refine mr_if_ne (pc := 28) (tgt := 33) dX11_heard_28 (by decide) (r32 h45.1 rfl) (fun h47 => ?_) (fun h47 => ?_)
  · have h48 : 1 ≤ z46 ∧ z46 ≤ 1 := (vc_X11_heard_18 h47 h45.2.1 h45.2.2.1 hp4 h45.1)
    have h49 : 0 ≤ p4 ∧ p4 ≤ 1 := (h45.2.1 (vc_X11_heard_19 h45.2.1 h45.2.2.1 h47 hp4 h48))
    have h50 : 0 ≤ p4 ∧ p4 ≤ 1 := (vc_X11_heard_20 h49 h45.2.1 h45.2.2.1 hp4 h48)
    refine mr_iload_n (pc := 33) (z := p2) dX11_heard_33 rfl rfl ?_
    refine mr_iload_n (pc := 34) (z := p3) dX11_heard_34 rfl rfl ?_
    refine mr_cSP (pc := 35) (c_X9_placeOf hw hT h26 h40) (gOk _ _ _ _ _) dX11_heard_35 (tX9_placeOf _ _ _ _ _) wS_X9_placeOf wM_X11_321 ⟨le_t rfl, le_t rfl⟩ ⟨le_t rfl, le_t rfl⟩ rfl (le_t rfl) fun z55 h54 => ?_
    refine mr_istore (pc := 38) (lv' := [(5, iv z55), (0, .ref 0), (1, iv p1), (2, iv p2), (3, iv p3), (4, iv p4)]) dX11_heard_38 (by decide) rfl ?_
    refine mr_iload (pc := 40) (z := p4) dX11_heard_40 rfl ?_
    have J74 : ∀ (b72 : Nat), (mAt w b72 200) → sV (gG l D c H0 sa) mX11_heard (sRm 4 0 0) (sZ (gG l D c H0 sa) 0 0 (qI w [200002, 200003, 200004, 200005, 200006, 200007, 200008, 201999, 202999] μ (fun z μ1 => ((-2147483648) ≤ z ∧ z ≤ 2147483647) ∧ True))) 78 [(0, .ref 0)] [.ref b72] (mk w μ) 0 0 := by
      intro b72 A73
      refine mr_astore (pc := 78) (lv' := [(6, .ref b72), (0, .ref 0)]) dX11_heard_78 (by decide) rfl ?_
      refine sv_aload (pc := 80) dX11_heard_80 rfl ?_
      refine gf_X7_2 (pc := 82) dX11_heard_82 wF_X11_246 A73 hT fun z75 q76 h77 => ?_
      refine mr_if_ne (pc := 85) (tgt := 91) dX11_heard_85 (by decide) (r32 h77 rfl) (fun h78 => ?_) (fun h78 => ?_)
      · have h79 : 1 ≤ z75 ∧ z75 ≤ 1 := (vc_X11_heard_21 h78 h77)
        refine sv_aload_n (pc := 91) dX11_heard_91 rfl rfl ?_
        refine gf_X11_2 (pc := 92) dX11_heard_92 wF_X11_19 (A_0 hw) hT ?_
        refine sv_aload (pc := 95) dX11_heard_95 rfl ?_
        refine mr_cVV (pc := 97) (c_X7_become hw hT (A_3 hw) A73) (gOk _ _ _ _ _) dX11_heard_97 (tX7_become _ _ _ _ _) ⟨wV_X7_become, wL_X7_become⟩ wM_X11_317 (gCX7 _ _ _ _ _) rfl (A_3 hw) rfl ⟨le_t rfl, le_t rfl⟩ ⟨le_t rfl, le_t rfl⟩ rfl (le_t rfl) fun μ80 T81 F82 h83 => ?_
        refine sv_aload (pc := 100) dX11_heard_100 rfl ?_
        refine gf_X7_9 (pc := 102) dX11_heard_102 wF_X11_330 A73 T81 fun z84 q85 h86 => ?_
        exact mr_iret dX11_heard_105 rfl (le_t rfl) (le_t rfl) T81 (mF.call mF.refl F82 rfl) ⟨(rW (c := (-2147483648)) (d := 2147483647) h86 rfl), trivial⟩
      have h87 : 0 ≤ z75 ∧ z75 ≤ 0 := (vc_X11_heard_22 h78 h77)
      refine mr_ldc (pc := 88) (z := (-99999999)) dX11_heard_88 wG_X11_165 (by decide) ?_
      exact mr_iret dX11_heard_90 rfl (le_t rfl) (le_t rfl) hT mF.refl ⟨(rW (c := (-2147483648)) (d := 2147483647) (rR (x := (-99999999))) rfl), trivial⟩
    refine mr_if_ne (pc := 42) (tgt := 63) dX11_heard_42 (by decide) (r32 h50 rfl) (fun h88 => ?_) (fun h88 => ?_)
    · have h89 : 1 ≤ p4 ∧ p4 ≤ 1 := (vc_X11_heard_23 h88 h45.2.1 h45.2.2.1 h49 h48)
      refine sv_aload_n (pc := 63) dX11_heard_63 rfl rfl ?_
      refine gf_X11_3 (pc := 64) dX11_heard_64 wF_X11_26 (A_0 hw) hT ?_
      refine gf_X10_4 (pc := 67) dX11_heard_67 wF_X11_122 (A_6 hw) hT ?_
      refine mr_iload_n (pc := 70) (z := p1) dX11_heard_70 rfl rfl ?_
      refine la_11 (pc := 71) dX11_heard_71 (A_11 hw) hT (rIx (n := 20) h14 rfl) (vc_X11_heard_24 h3.1 h7.2.1 h7.2.2.1 h13 h9 h14 h15 h12) fun b90 q91 A92 => ?_
      refine gf_X9_5 (pc := 72) dX11_heard_72 wF_X11_327 A92 hT fun A93 => ?_
      refine mr_iload (pc := 75) (z := z55) dX11_heard_75 rfl ?_
      refine la_223 (pc := 77) dX11_heard_77 A93 hT (rIx (n := 20) h54.1 rfl) fun b94 q95 A96 => ?_
      refine mr_lvS (lv' := [(0, .ref 0)]) (List.forall_mem_cons.mpr ⟨rfl, fun _ h => absurd h List.not_mem_nil⟩) ?_
      exact J74 b94 A96
    have h97 : 0 ≤ p4 ∧ p4 ≤ 0 := (vc_X11_heard_25 h88 h45.2.1 h45.2.2.1 h49 h48)
    refine sv_aload_n (pc := 45) dX11_heard_45 rfl rfl ?_
    refine gf_X11_3 (pc := 46) dX11_heard_46 wF_X11_26 (A_0 hw) hT ?_
    refine gf_X10_4 (pc := 49) dX11_heard_49 wF_X11_122 (A_6 hw) hT ?_
    refine mr_iload_n (pc := 52) (z := p1) dX11_heard_52 rfl rfl ?_
    refine la_11 (pc := 53) dX11_heard_53 (A_11 hw) hT (rIx (n := 20) h14 rfl) (vc_X11_heard_24 h3.1 h7.2.1 h7.2.2.1 h13 h9 h14 h15 h12) fun b98 q99 A100 => ?_
    refine gf_X9_4 (pc := 54) dX11_heard_54 wF_X11_324 A100 hT fun A101 => ?_
    refine mr_iload (pc := 57) (z := z55) dX11_heard_57 rfl ?_
    refine la_222 (pc := 59) dX11_heard_59 A101 hT (rIx (n := 20) h54.1 rfl) fun b102 q103 A104 => ?_
    refine sv_goto (pc := 60) (tgt := 78) dX11_heard_60 (by decide) ?_
    refine mr_lvS (lv' := [(0, .ref 0)]) (List.forall_mem_cons.mpr ⟨rfl, fun _ h => absurd h List.not_mem_nil⟩) ?_
    exact J74 b102 A104
  have h105 : 0 ≤ z46 ∧ z46 ≤ 0 := (vc_X11_heard_26 h47 h45.2.1 h45.2.2.1 hp4 h45.1)
  have h106 : p4 < 0 ∨ 1 < p4 := (h45.2.2.1 (vc_X11_heard_27 h45.2.1 h45.2.2.1 h47 hp4 h105))
  refine mr_iconst (pc := 31) (z := (-1)) dX11_heard_31 ?_
  exact mr_iret dX11_heard_32 rfl (le_t rfl) (le_t rfl) hT mF.refl ⟨(rW (c := (-2147483648)) (d := 2147483647) (rR (x := (-1))) rfl), trivial⟩
theorem vc_X2_tieFor_1 {n0 p1 : Int} (h0 : p1 < n0) (h1 : 0 ≤ p1 ∧ p1 ≤ 9) : p1 < n0 := by omega
theorem vc_X2_tieFor_2 {z247 : Int} (h0 : (11 - z247) < ((0 : Nat) : Int)) (h1 : 0 ≤ z247 ∧ z247 ≤ 10) : False := by omega
theorem vc_X2_tieFor_3 {n1 z248 : Int} (h0 : 0 ≤ z248 → z248 < n1) (h1 : (-99999999) ≤ z248 ∧ z248 ≤ 19) (h2 : z248 = (-99999999) ∨ z248 = (-4) ∨ (0 ≤ z248 ∧ z248 ≤ 19)) : z248 = -99999999 ∨ z248 = -4 ∨ (0 ≤ z248 ∧ z248 ≤ 19) := by omega
theorem vc_X2_tieFor_4 {n1 z248 : Int} (h0 : 0 ≤ z248 → z248 < n1) (h1 : (-99999999) ≤ z248 ∧ z248 ≤ 19) (h2 : z248 = (-99999999) ∨ z248 = (-4) ∨ (0 ≤ z248 ∧ z248 ≤ 19)) : 0 ≤ z248 → z248 < n1 := by omega
theorem vc_X2_tieFor_5 {z247 z261 : Int} (h0 : z247 < z261) (h1 : 0 ≤ z247 ∧ z247 ≤ 10) (h2 : 0 ≤ z261 ∧ z261 ≤ 10) : 0 ≤ z247 ∧ z247 ≤ 9 := by omega
theorem vc_X2_tieFor_6 {z247 z261 : Int} (h0 : z247 < z261) (h1 : 0 ≤ z247 ∧ z247 ≤ 9) (h2 : 0 ≤ z261 ∧ z261 ≤ 10) : 1 ≤ z261 ∧ z261 ≤ 10 := by omega
theorem vc_X2_tieFor_7 {z304 : Int} (h0 : z304 = 0) (h1 : 0 ≤ z304 ∧ z304 ≤ 1) : 0 ≤ z304 ∧ z304 ≤ 0 := by omega
theorem vc_X2_tieFor_8 {N z247 z261 : Int} (h0 : (11 - z247) < N + 1) (h1 : z247 < z261) (h2 : 0 ≤ z247 ∧ z247 ≤ 9) (h3 : 1 ≤ z261 ∧ z261 ≤ 10) : (11 - (z247 + 1)) < N := by omega
theorem vc_X2_tieFor_9 {n1 z248 : Int} (h0 : 0 ≤ z248 → z248 < n1) (h1 : (-99999999) ≤ z248 ∧ z248 ≤ 19) (h2 : z248 = (-99999999) ∨ z248 = (-4) ∨ (0 ≤ z248 ∧ z248 ≤ 19)) : z248 = (-99999999) ∨ z248 = (-4) ∨ (0 ≤ z248 ∧ z248 ≤ 19) := by omega
theorem vc_X2_tieFor_10 {z304 : Int} (h0 : ¬ z304 = 0) (h1 : 0 ≤ z304 ∧ z304 ≤ 1) : 1 ≤ z304 ∧ z304 ≤ 1 := by omega
theorem vc_X2_tieFor_11 {z326 : Int} (h0 : z326 = -99999999 ∨ z326 = -4 ∨ (0 ≤ z326 ∧ z326 ≤ 19)) : -99999999 ≤ z326 ∧ z326 ≤ 19 := by omega
theorem vc_X2_tieFor_12 {n1 z326 : Int} (h0 : z326 = (-99999999)) (h1 : (0 ≤ z326 → z326 < n1)) (h2 : (-99999999) ≤ z326 ∧ z326 ≤ 19) (h3 : z326 = -99999999 ∨ z326 = -4 ∨ (0 ≤ z326 ∧ z326 ≤ 19)) : (-99999999) ≤ z326 ∧ z326 ≤ (-99999999) := by omega
theorem vc_X2_tieFor_13 {n1 z248 z326 : Int} (h0 : 0 ≤ z248 → z248 < n1) (h1 : (0 ≤ z326 → z326 < n1)) (h2 : z326 = (-99999999)) (h3 : (-99999999) ≤ z248 ∧ z248 ≤ 19) (h4 : z248 = (-99999999) ∨ z248 = (-4) ∨ (0 ≤ z248 ∧ z248 ≤ 19)) (h5 : (-99999999) ≤ z326 ∧ z326 ≤ (-99999999)) (h6 : z326 = -99999999 ∨ z326 = -4 ∨ (0 ≤ z326 ∧ z326 ≤ 19)) : 0 ≤ z248 → z248 < n1 := by omega
theorem vc_X2_tieFor_14 {n1 z248 z326 : Int} (h0 : 0 ≤ z248 → z248 < n1) (h1 : (0 ≤ z326 → z326 < n1)) (h2 : (-99999999) ≤ z248 ∧ z248 ≤ 19) (h3 : z248 = (-99999999) ∨ z248 = (-4) ∨ (0 ≤ z248 ∧ z248 ≤ 19)) (h4 : (-99999999) ≤ z326 ∧ z326 ≤ (-99999999)) (h5 : z326 = -99999999 ∨ z326 = -4 ∨ (0 ≤ z326 ∧ z326 ≤ 19)) : z248 = (-99999999) ∨ z248 = (-4) ∨ (0 ≤ z248 ∧ z248 ≤ 19) := by omega
theorem vc_X2_tieFor_15 {n1 z326 : Int} (h0 : ¬ z326 = (-99999999)) (h1 : (0 ≤ z326 → z326 < n1)) (h2 : (-99999999) ≤ z326 ∧ z326 ≤ 19) (h3 : z326 = -99999999 ∨ z326 = -4 ∨ (0 ≤ z326 ∧ z326 ≤ 19)) : (-4) ≤ z326 ∧ z326 ≤ 19 := by omega
theorem vc_X2_tieFor_16 {z249 z341 : Int} (h0 : z341 ≤ z249) (h1 : (-1) ≤ z249 ∧ z249 ≤ 32) (h2 : 0 ≤ z341 ∧ z341 ≤ 32) : 0 ≤ z249 ∧ z249 ≤ 32 := by omega
theorem vc_X2_tieFor_17 {n1 z248 z326 : Int} (h0 : 0 ≤ z248 → z248 < n1) (h1 : (0 ≤ z326 → z326 < n1)) (h2 : ¬ z326 = (-99999999)) (h3 : (-99999999) ≤ z248 ∧ z248 ≤ 19) (h4 : z248 = (-99999999) ∨ z248 = (-4) ∨ (0 ≤ z248 ∧ z248 ≤ 19)) (h5 : (-4) ≤ z326 ∧ z326 ≤ 19) (h6 : z326 = -99999999 ∨ z326 = -4 ∨ (0 ≤ z326 ∧ z326 ≤ 19)) : 0 ≤ z248 → z248 < n1 := by omega
theorem vc_X2_tieFor_18 {n1 z248 z326 : Int} (h0 : 0 ≤ z248 → z248 < n1) (h1 : (0 ≤ z326 → z326 < n1)) (h2 : (-99999999) ≤ z248 ∧ z248 ≤ 19) (h3 : z248 = (-99999999) ∨ z248 = (-4) ∨ (0 ≤ z248 ∧ z248 ≤ 19)) (h4 : (-4) ≤ z326 ∧ z326 ≤ 19) (h5 : z326 = -99999999 ∨ z326 = -4 ∨ (0 ≤ z326 ∧ z326 ≤ 19)) : z248 = (-99999999) ∨ z248 = (-4) ∨ (0 ≤ z248 ∧ z248 ≤ 19) := by omega
theorem vc_X2_tieFor_19 {z249 z341 : Int} (h0 : z249 < z341) (h1 : (-1) ≤ z249 ∧ z249 ≤ 32) (h2 : 0 ≤ z341 ∧ z341 ≤ 32) : (-1) ≤ z249 ∧ z249 ≤ 31 := by omega
theorem vc_X2_tieFor_20 {n1 z248 z326 : Int} (h0 : 0 ≤ z248 → z248 < n1) (h1 : (0 ≤ z326 → z326 < n1)) (h2 : ¬ z326 = (-99999999)) (h3 : (-99999999) ≤ z248 ∧ z248 ≤ 19) (h4 : z248 = (-99999999) ∨ z248 = (-4) ∨ (0 ≤ z248 ∧ z248 ≤ 19)) (h5 : (-4) ≤ z326 ∧ z326 ≤ 19) (h6 : z326 = -99999999 ∨ z326 = -4 ∨ (0 ≤ z326 ∧ z326 ≤ 19)) : 0 ≤ z326 → z326 < n1 := by omega
theorem vc_X2_tieFor_21 {n1 z248 z326 : Int} (h0 : (0 ≤ z326 → z326 < n1)) (h1 : ¬ z326 = (-99999999)) (h2 : 0 ≤ z248 → z248 < n1) (h3 : (-99999999) ≤ z248 ∧ z248 ≤ 19) (h4 : z248 = (-99999999) ∨ z248 = (-4) ∨ (0 ≤ z248 ∧ z248 ≤ 19)) (h5 : (-4) ≤ z326 ∧ z326 ≤ 19) (h6 : z326 = -99999999 ∨ z326 = -4 ∨ (0 ≤ z326 ∧ z326 ≤ 19)) : z326 = (-99999999) ∨ z326 = (-4) ∨ (0 ≤ z326 ∧ z326 ≤ 19) := by omega
theorem vc_X2_tieFor_22 {n1 : Int}  : 0 ≤ ((-99999999) : Int) → ((-99999999) : Int) < n1 := by omega
theorem vc_X2_tieFor_23  : (11 - 0) < ((12 : Nat) : Int) := by omega
theorem vc_X2_tieFor_24  : (((-99999999) : Int) : Int) = ((-99999999) : Int) ∨ (((-99999999) : Int) : Int) = ((-4) : Int) ∨ ((0 : Int) ≤ (((-99999999) : Int) : Int) ∧ (((-99999999) : Int) : Int) ≤ (19 : Int)) := by omega
set_option maxRecDepth 4000 in
set_option maxHeartbeats 4000000 in
theorem c_X2_tieFor {l : Launch} {D : va_G} {c : Nat → ClassId} {H0 : Heap} {sa : Nat × Nat × (Nat → Int32)} {w : mW} {μ : mM} (hw : mWF w) (hT : mT w μ) {p1 : Int} (hp1 : 0 ≤ p1 ∧ p1 ≤ 9) {p2 : Int} (hp2 : (-2147483648) ≤ p2 ∧ p2 ≤ 2147483647) (hq0 : p1 < w.2.2.2 0) : sC (gG l D c H0 sa) mX2_tieFor 1 0 0 [.ref 87, iv p1, iv p2] (mk w μ) (qP w μ (fun z => ((-99999999) ≤ z ∧ z ≤ 19) ∧ (z = -99999999 ∨ z = -4 ∨ (0 ≤ z ∧ z ≤ 19)) ∧ (0 ≤ z → z < w.2.2.2 1) ∧ True)) := by
  refine sC.of rfl (by decide) (le_t rfl) ?_
  refine mr_lvE (lv' := [(0, .ref 87), (1, iv p1), (2, iv p2)]) rfl ?_
  refine sv_aload_n (pc := 0) dX2_tieFor_0 rfl rfl ?_
  refine gf_X2_0 (pc := 1) dX2_tieFor_1 wF_X2_9 (A_87 hw) hT ?_
  refine gf_X10_3 (pc := 4) dX2_tieFor_4 wF_X2_35 (A_6 hw) hT ?_
  refine mr_iload_n (pc := 7) (z := p1) dX2_tieFor_7 rfl rfl ?_
  refine la_10 (pc := 8) dX2_tieFor_8 (A_10 hw) hT (rIx (n := 10) hp1 rfl) (vc_X2_tieFor_1 hq0 hp1) fun b1 q2 A3 => ?_
  refine mr_astore_n (pc := 9) (lv' := [(3, .ref b1), (0, .ref 87), (1, iv p1), (2, iv p2)]) dX2_tieFor_9 rfl (by decide) rfl ?_
  refine mr_iconst (pc := 10) (z := (-1)) dX2_tieFor_10 ?_
  refine mr_istore (pc := 11) (lv' := [(4, iv (-1)), (3, .ref b1), (0, .ref 87), (1, iv p1), (2, iv p2)]) dX2_tieFor_11 (by decide) rfl ?_
  refine mr_ldc (pc := 13) (z := (-99999999)) dX2_tieFor_13 wG_X2_41 (by decide) ?_
  refine mr_istore (pc := 15) (lv' := [(5, iv (-99999999)), (4, iv (-1)), (3, .ref b1), (0, .ref 87), (1, iv p1), (2, iv p2)]) dX2_tieFor_15 (by decide) rfl ?_
  refine mr_iconst (pc := 17) (z := 0) dX2_tieFor_17 ?_
  refine mr_istore (pc := 18) (lv' := [(6, iv 0), (5, iv (-99999999)), (4, iv (-1)), (3, .ref b1), (0, .ref 87), (1, iv p1), (2, iv p2)]) dX2_tieFor_18 (by decide) rfl ?_
  have L250 : ∀ (nL250 : Nat) (z249 z248 z247 : Int), True → ((-1) ≤ z249 ∧ z249 ≤ 32) → ((-99999999) ≤ z248 ∧ z248 ≤ 19) → (0 ≤ z247 ∧ z247 ≤ 10) → (0 ≤ z248 → z248 < w.2.2.2 1) → (z248 = (-99999999) ∨ z248 = (-4) ∨ (0 ≤ z248 ∧ z248 ≤ 19)) → (11 - z247) < (nL250 : Int) → sV (gG l D c H0 sa) mX2_tieFor (sRm 1 0 0) (sZ (gG l D c H0 sa) 0 0 (qP w μ (fun z => ((-99999999) ≤ z ∧ z ≤ 19) ∧ (z = -99999999 ∨ z = -4 ∨ (0 ≤ z ∧ z ≤ 19)) ∧ (0 ≤ z → z < w.2.2.2 1) ∧ True))) 20 [(0, .ref 87), (2, iv p2), (3, .ref b1), (4, iv z249), (5, iv z248), (6, iv z247)] [] (mk w μ) 0 0 := by
    intro nL250
    induction nL250 with
    | zero => intro z249 z248 z247 _ h251 h252 h253 h257 h258 h259; exact ((vc_X2_tieFor_2 h259 h253)).elim
    | succ nL250 ih260 =>
      intro z249 z248 z247 _ h251 h252 h253 h257 h258 h259
      refine mr_iload (pc := 20) (z := z247) dX2_tieFor_20 rfl ?_
      refine sv_aload_n (pc := 22) dX2_tieFor_22 rfl rfl ?_
      refine gf_X2_0 (pc := 23) dX2_tieFor_23 wF_X2_9 (A_87 hw) hT ?_
      refine gf_X10_14 (pc := 26) dX2_tieFor_26 wF_X2_42 (A_6 hw) hT fun z261 q262 h263 => ?_
      refine mr_icmp_ge (pc := 29) (tgt := 123) dX2_tieFor_29 (by decide) (r32 h253 rfl) (r32 h263 rfl) (fun h292 => ?_) (fun h292 => ?_)
      · refine mr_iload (pc := 123) (z := z248) dX2_tieFor_123 rfl ?_
        exact mr_iretP dX2_tieFor_125 rfl (le_t rfl) (le_t rfl) ⟨h252, (vc_X2_tieFor_3 h257 h252 h258), (vc_X2_tieFor_4 h257 h252 h258), trivial⟩
      have h293 : 0 ≤ z247 ∧ z247 ≤ 9 := (vc_X2_tieFor_5 h292 h253 h263)
      have h294 : 1 ≤ z261 ∧ z261 ≤ 10 := (vc_X2_tieFor_6 h292 h293 h263)
      refine mr_iload_n (pc := 32) (z := p2) dX2_tieFor_32 rfl rfl ?_
      refine sv_aload_n (pc := 33) dX2_tieFor_33 rfl rfl ?_
      refine gf_X2_0 (pc := 34) dX2_tieFor_34 wF_X2_9 (A_87 hw) hT ?_
      refine gf_X10_2 (pc := 37) dX2_tieFor_37 wF_X2_46 (A_6 hw) hT ?_
      refine mr_iload (pc := 40) (z := z247) dX2_tieFor_40 rfl ?_
      refine la_9 (pc := 42) dX2_tieFor_42 (A_9 hw) hT (rIx (n := 10) h293 rfl) fun z295 q296 h297 => ?_
      refine mr_iand (pc := 43) (x := p2) (y := z295) dX2_tieFor_43 ?_
      refine mr_gen (P := fun z => (-2147483648) ≤ z ∧ z ≤ 2147483647) (r32i _) fun z298 q299 h300 => ?_
      refine sv_aload_n (pc := 44) dX2_tieFor_44 rfl rfl ?_
      refine gf_X2_0 (pc := 45) dX2_tieFor_45 wF_X2_9 (A_87 hw) hT ?_
      refine gf_X10_0 (pc := 48) dX2_tieFor_48 wF_X2_49 (A_6 hw) hT ?_
      refine mr_iload (pc := 51) (z := z247) dX2_tieFor_51 rfl ?_
      refine la_7 (pc := 53) dX2_tieFor_53 (A_7 hw) hT (rIx (n := 10) h293 rfl) fun z301 q302 h303 => ?_
      have J306 : ∀ (z304 : Int), ((0 ≤ z304 ∧ z304 ≤ 1)) → sV (gG l D c H0 sa) mX2_tieFor (sRm 1 0 0) (sZ (gG l D c H0 sa) 0 0 (qP w μ (fun z => ((-99999999) ≤ z ∧ z ≤ 19) ∧ (z = -99999999 ∨ z = -4 ∨ (0 ≤ z ∧ z ≤ 19)) ∧ (0 ≤ z → z < w.2.2.2 1) ∧ True))) 62 [(0, .ref 87), (2, iv p2), (3, .ref b1), (4, iv z249), (5, iv z248), (6, iv z247)] [iv z304] (mk w μ) 0 0 := by
        intro z304 h305
        refine mr_istore (pc := 62) (lv' := [(7, iv z304), (0, .ref 87), (2, iv p2), (3, .ref b1), (4, iv z249), (5, iv z248), (6, iv z247)]) dX2_tieFor_62 (by decide) rfl ?_
        refine mr_iload (pc := 64) (z := z304) dX2_tieFor_64 rfl ?_
        refine mr_if_eq (pc := 66) (tgt := 117) dX2_tieFor_66 (by decide) (r32 h305 rfl) (fun h322 => ?_) (fun h322 => ?_)
        · have h323 : 0 ≤ z304 ∧ z304 ≤ 0 := (vc_X2_tieFor_7 h322 h305)
          refine mr_iinc (pc := 117) (lv' := [(6, iv (z247 + 1)), (7, iv z304), (0, .ref 87), (2, iv p2), (3, .ref b1), (4, iv z249), (5, iv z248)]) dX2_tieFor_117 rfl (by decide) rfl ?_
          refine sv_goto (pc := 120) (tgt := 20) dX2_tieFor_120 (by decide) ?_
          refine mr_lvS (lv' := [(0, .ref 87), (2, iv p2), (3, .ref b1), (4, iv z249), (5, iv z248), (6, iv (z247 + 1))]) (List.forall_mem_cons.mpr ⟨rfl, List.forall_mem_cons.mpr ⟨rfl, List.forall_mem_cons.mpr ⟨rfl, List.forall_mem_cons.mpr ⟨rfl, List.forall_mem_cons.mpr ⟨rfl, List.forall_mem_cons.mpr ⟨rfl, fun _ h => absurd h List.not_mem_nil⟩⟩⟩⟩⟩⟩) ?_
          exact ih260 z249 z248 (z247 + 1) trivial h251 h252 (rW (c := 0) (d := 10) (rAdd (e := 1) (f := 10) h293 (rR (x := 1)) rfl) rfl) (vc_X2_tieFor_4 h257 h252 h258) (vc_X2_tieFor_9 h257 h252 h258) (vc_X2_tieFor_8 (nS h259) h292 h293 h294)
        have h324 : 1 ≤ z304 ∧ z304 ≤ 1 := (vc_X2_tieFor_10 h322 h305)
        refine sv_aload_n (pc := 69) dX2_tieFor_69 rfl rfl ?_
        refine gf_X0_2 (pc := 70) dX2_tieFor_70 wF_X2_52 A3 hT fun A325 => ?_
        refine mr_iload (pc := 73) (z := z247) dX2_tieFor_73 rfl ?_
        refine la_213 (pc := 75) dX2_tieFor_75 A325 hT (rIx (n := 10) h293 rfl) fun z326 q327 h328 => ?_
        have h329 : (-99999999) ≤ z326 ∧ z326 ≤ 19 := (vc_X2_tieFor_11 h328.1)
        refine mr_ldc (pc := 76) (z := (-99999999)) dX2_tieFor_76 wG_X2_41 (by decide) ?_
        refine mr_icmp_eq (pc := 78) (tgt := 117) dX2_tieFor_78 (by decide) (r32 h329 rfl) (r32 (rR (x := (-99999999))) rfl) (fun h338 => ?_) (fun h338 => ?_)
        · have h339 : (-99999999) ≤ z326 ∧ z326 ≤ (-99999999) := (vc_X2_tieFor_12 h338 h328.2 h329 h328.1)
          refine mr_iinc (pc := 117) (lv' := [(6, iv (z247 + 1)), (7, iv z304), (0, .ref 87), (2, iv p2), (3, .ref b1), (4, iv z249), (5, iv z248)]) dX2_tieFor_117 rfl (by decide) rfl ?_
          refine sv_goto (pc := 120) (tgt := 20) dX2_tieFor_120 (by decide) ?_
          refine mr_lvS (lv' := [(0, .ref 87), (2, iv p2), (3, .ref b1), (4, iv z249), (5, iv z248), (6, iv (z247 + 1))]) (List.forall_mem_cons.mpr ⟨rfl, List.forall_mem_cons.mpr ⟨rfl, List.forall_mem_cons.mpr ⟨rfl, List.forall_mem_cons.mpr ⟨rfl, List.forall_mem_cons.mpr ⟨rfl, List.forall_mem_cons.mpr ⟨rfl, fun _ h => absurd h List.not_mem_nil⟩⟩⟩⟩⟩⟩) ?_
          exact ih260 z249 z248 (z247 + 1) trivial h251 h252 (rW (c := 0) (d := 10) (rAdd (e := 1) (f := 10) h293 (rR (x := 1)) rfl) rfl) (vc_X2_tieFor_13 h257 h328.2 h338 h252 h258 h339 h328.1) (vc_X2_tieFor_14 h257 h328.2 h252 h258 h339 h328.1) (vc_X2_tieFor_8 (nS h259) h292 h293 h294)
        have h340 : (-4) ≤ z326 ∧ z326 ≤ 19 := (vc_X2_tieFor_15 h338 h328.2 h329 h328.1)
        refine sv_aload_n (pc := 81) dX2_tieFor_81 rfl rfl ?_
        refine gf_X2_0 (pc := 82) dX2_tieFor_82 wF_X2_9 (A_87 hw) hT ?_
        refine gf_X10_1 (pc := 85) dX2_tieFor_85 wF_X2_57 (A_6 hw) hT ?_
        refine mr_iload (pc := 88) (z := z247) dX2_tieFor_88 rfl ?_
        refine la_8 (pc := 90) dX2_tieFor_90 (A_8 hw) hT (rIx (n := 10) h293 rfl) fun z341 q342 h343 => ?_
        refine mr_iload (pc := 91) (z := z249) dX2_tieFor_91 rfl ?_
        refine mr_icmp_le (pc := 93) (tgt := 117) dX2_tieFor_93 (by decide) (r32 h343 rfl) (r32 h251 rfl) (fun h347 => ?_) (fun h347 => ?_)
        · have h348 : 0 ≤ z249 ∧ z249 ≤ 32 := (vc_X2_tieFor_16 h347 h251 h343)
          refine mr_iinc (pc := 117) (lv' := [(6, iv (z247 + 1)), (7, iv z304), (0, .ref 87), (2, iv p2), (3, .ref b1), (4, iv z249), (5, iv z248)]) dX2_tieFor_117 rfl (by decide) rfl ?_
          refine sv_goto (pc := 120) (tgt := 20) dX2_tieFor_120 (by decide) ?_
          refine mr_lvS (lv' := [(0, .ref 87), (2, iv p2), (3, .ref b1), (4, iv z249), (5, iv z248), (6, iv (z247 + 1))]) (List.forall_mem_cons.mpr ⟨rfl, List.forall_mem_cons.mpr ⟨rfl, List.forall_mem_cons.mpr ⟨rfl, List.forall_mem_cons.mpr ⟨rfl, List.forall_mem_cons.mpr ⟨rfl, List.forall_mem_cons.mpr ⟨rfl, fun _ h => absurd h List.not_mem_nil⟩⟩⟩⟩⟩⟩) ?_
          exact ih260 z249 z248 (z247 + 1) trivial (rW (c := (-1)) (d := 32) h348 rfl) h252 (rW (c := 0) (d := 10) (rAdd (e := 1) (f := 10) h293 (rR (x := 1)) rfl) rfl) (vc_X2_tieFor_17 h257 h328.2 h338 h252 h258 h340 h328.1) (vc_X2_tieFor_18 h257 h328.2 h252 h258 h340 h328.1) (vc_X2_tieFor_8 (nS h259) h292 h293 h294)
        have h349 : (-1) ≤ z249 ∧ z249 ≤ 31 := (vc_X2_tieFor_19 h347 h251 h343)
        refine sv_aload_n (pc := 96) dX2_tieFor_96 rfl rfl ?_
        refine gf_X2_0 (pc := 97) dX2_tieFor_97 wF_X2_9 (A_87 hw) hT ?_
        refine gf_X10_1 (pc := 100) dX2_tieFor_100 wF_X2_57 (A_6 hw) hT ?_
        refine mr_iload (pc := 103) (z := z247) dX2_tieFor_103 rfl ?_
        refine lk_8 (pc := 105) dX2_tieFor_105 (A_8 hw) (rIx (n := 10) h293 rfl) q342 ?_
        refine mr_istore (pc := 106) (lv' := [(4, iv z341), (7, iv z304), (0, .ref 87), (2, iv p2), (3, .ref b1), (5, iv z248), (6, iv z247)]) dX2_tieFor_106 (by decide) rfl ?_
        refine sv_aload_n (pc := 108) dX2_tieFor_108 rfl rfl ?_
        refine gf_X0_2 (pc := 109) dX2_tieFor_109 wF_X2_52 A3 hT fun A350 => ?_
        refine mr_iload (pc := 112) (z := z247) dX2_tieFor_112 rfl ?_
        refine lk_213 (pc := 114) dX2_tieFor_114 A350 (rIx (n := 10) h293 rfl) q327 ?_
        refine mr_istore (pc := 115) (lv' := [(5, iv z326), (4, iv z341), (7, iv z304), (0, .ref 87), (2, iv p2), (3, .ref b1), (6, iv z247)]) dX2_tieFor_115 (by decide) rfl ?_
        refine mr_iinc (pc := 117) (lv' := [(6, iv (z247 + 1)), (5, iv z326), (4, iv z341), (7, iv z304), (0, .ref 87), (2, iv p2), (3, .ref b1)]) dX2_tieFor_117 rfl (by decide) rfl ?_
        refine sv_goto (pc := 120) (tgt := 20) dX2_tieFor_120 (by decide) ?_
        refine mr_lvS (lv' := [(0, .ref 87), (2, iv p2), (3, .ref b1), (4, iv z341), (5, iv z326), (6, iv (z247 + 1))]) (List.forall_mem_cons.mpr ⟨rfl, List.forall_mem_cons.mpr ⟨rfl, List.forall_mem_cons.mpr ⟨rfl, List.forall_mem_cons.mpr ⟨rfl, List.forall_mem_cons.mpr ⟨rfl, List.forall_mem_cons.mpr ⟨rfl, fun _ h => absurd h List.not_mem_nil⟩⟩⟩⟩⟩⟩) ?_
        exact ih260 z341 z326 (z247 + 1) trivial (rW (c := (-1)) (d := 32) h343 rfl) (rW (c := (-99999999)) (d := 19) h340 rfl) (rW (c := 0) (d := 10) (rAdd (e := 1) (f := 10) h293 (rR (x := 1)) rfl) rfl) (vc_X2_tieFor_20 h257 h328.2 h338 h252 h258 h340 h328.1) (vc_X2_tieFor_21 h328.2 h338 h257 h252 h258 h340 h328.1) (vc_X2_tieFor_8 (nS h259) h292 h293 h294)
      refine mr_icmp_ne (pc := 54) (tgt := 61) dX2_tieFor_54 (by decide) h300 h303 (fun h351 => ?_) (fun h351 => ?_)
      · refine mr_iconst (pc := 61) (z := 0) dX2_tieFor_61 ?_
        exact J306 0 (rW (c := 0) (d := 1) (rR (x := 0)) rfl)
      refine mr_iconst (pc := 57) (z := 1) dX2_tieFor_57 ?_
      refine sv_goto (pc := 58) (tgt := 62) dX2_tieFor_58 (by decide) ?_
      exact J306 1 (rW (c := 0) (d := 1) (rR (x := 1)) rfl)
  refine mr_lvS (lv' := [(0, .ref 87), (2, iv p2), (3, .ref b1), (4, iv (-1)), (5, iv (-99999999)), (6, iv 0)]) (List.forall_mem_cons.mpr ⟨rfl, List.forall_mem_cons.mpr ⟨rfl, List.forall_mem_cons.mpr ⟨rfl, List.forall_mem_cons.mpr ⟨rfl, List.forall_mem_cons.mpr ⟨rfl, List.forall_mem_cons.mpr ⟨rfl, fun _ h => absurd h List.not_mem_nil⟩⟩⟩⟩⟩⟩) ?_
  exact L250 12 (-1) (-99999999) 0 trivial (rW (c := (-1)) (d := 32) (rR (x := (-1))) rfl) (rW (c := (-99999999)) (d := 19) (rR (x := (-99999999))) rfl) (rW (c := 0) (d := 10) (rR (x := 0)) rfl) vc_X2_tieFor_22 vc_X2_tieFor_24 vc_X2_tieFor_23
