set_option maxHeartbeats 40000000 in
set_option maxRecDepth 100000 in
theorem op_45 (l : Launch) (D : va_G) (c : Nat → ClassId) (H0 : Heap) (b : Nat) (xs : Nat → Int32) (Z : sZT) (x1 x2 x3 x4 x5 x6 : Int32) (hx1 : xs 1 = x1) (hx2 : xs 2 = x2) (hx3 : xs 3 = x3) (hx4 : xs 4 = x4) (hx5 : xs 5 = x5) (hx6 : xs 6 = x6) (kk : ∀ (hp : sHp) (ce sl : Nat), ce ≤ 600000 → sl ≤ 7302250 → sV (gG l D c H0 (b, 7, xs)) mL room_1 Z 1799 [(3, .int 0), (2, .ref 106), (1, .ref 0), (0, .retAddr 0)] [] hp ce sl) : sV (gG l D c H0 (b, 7, xs)) mL room_1 Z 1720 [(3, .int 0), (2, .ref 106), (1, .ref 0), (0, .retAddr 0)] [] (192, tF) 192 297215 := by
  refine sv_aload_n (pc := 1720) dL_law_1720 rfl rfl ?_
  refine sv_aload_nS (pc := 1721) dL_law_1721 rfl rfl ?_
  refine sv_iload_n (pc := 1722) dL_law_1722 rfl rfl ?_
  refine sv_iconst (pc := 1723) (v := 1) dL_law_1723 (by decide) ?_
  refine sw_iadd (pc := 1724) (v := 1) dL_law_1724 (by decide) ?_
  refine sw_sld (pc := 1725) (v := x1) dL_law_1725 (k := 1) (by decide) (by decide) rfl hx1 ?_
  refine sv_aload_nS (pc := 1726) dL_law_1726 rfl rfl ?_
  refine sv_iload_n (pc := 1727) dL_law_1727 rfl rfl ?_
  refine sv_iconst (pc := 1728) (v := 2) dL_law_1728 (by decide) ?_
  refine sw_iadd (pc := 1729) (v := 2) dL_law_1729 (by decide) ?_
  refine sw_sld (pc := 1730) (v := x2) dL_law_1730 (k := 2) (by decide) (by decide) rfl hx2 ?_
  refine sv_callV (pc := 1731) (M' := mX11_rest) (d' := 20) (C' := 0) (S' := 0) (av := [.int x1, .int x2]) ?_ (gOk _ _ _ _ _) dL_law_1731 (tX11_rest _ _ _ _ _) ⟨wV_X11_rest, wL_X11_rest⟩ wM_DomainHouseLaw_203 (gCX11 _ _ _ _ _) rfl (lt_t rfl) rfl ⟨le_t rfl, le_t rfl⟩ ⟨le_t rfl, le_t rfl⟩ rfl (le_t rfl) (fun _ _ h => h)
  refine sC.of rfl (by decide) (le_t rfl) ?_
  refine sv_aload_n (pc := 0) dX11_rest_0 rfl rfl ?_
  refine sw_getfield (pc := 1) dX11_rest_1 (gCX11 _ _ _ _ _) 9 (by decide) wF_X11_72 rfl rfl rfl ?_
  refine sv_callV (pc := 4) (M' := mX4_findRests) (d' := 19) (C' := 0) (S' := 0) (av := []) ?_ (gOk _ _ _ _ _) dX11_rest_4 (tX4_findRests _ _ _ _ _) ⟨wV_X4_findRests, wL_X4_findRests⟩ wM_X11_411 (gCX4 _ _ _ _ _) rfl (lt_t rfl) rfl ⟨le_t rfl, le_t rfl⟩ ⟨le_t rfl, le_t rfl⟩ rfl (le_t rfl) (fun _ _ h => h)
  refine sC.of rfl (by decide) (le_t rfl) ?_
  refine sv_aload_n (pc := 0) dX4_findRests_0 rfl rfl ?_
  refine sw_getfield (pc := 1) dX4_findRests_1 (gCX4 _ _ _ _ _) 10 (by decide) wF_X4_52 rfl rfl rfl ?_
  refine sv_if_eq (pc := 4) (tgt := 8) dX4_findRests_4 (by decide) (fun _ => ?_) (fun h => absurd (by decide) h)
  refine sv_aload_n (pc := 8) dX4_findRests_8 rfl rfl ?_
  refine sv_callV (pc := 9) (M' := mX4_prepare) (d' := 18) (C' := 0) (S' := 0) (av := []) ?_ (gOk _ _ _ _ _) dX4_findRests_9 (tX4_prepare _ _ _ _ _) ⟨wV_X4_prepare, wL_X4_prepare⟩ wM_X4_79 (gCX4 _ _ _ _ _) rfl (lt_t rfl) rfl ⟨le_t rfl, le_t rfl⟩ ⟨le_t rfl, le_t rfl⟩ rfl (le_t rfl) (fun _ _ h => h)
  refine sC.of rfl (by decide) (le_t rfl) ?_
  refine sv_aload_n (pc := 0) dX4_prepare_0 rfl rfl ?_
  refine sv_iconst (pc := 1) (v := 1) dX4_prepare_1 (by decide) ?_
  refine sw_putfield (pc := 2) dX4_prepare_2 (gCX4 _ _ _ _ _) 9 (by decide) wF_X4_59 rfl rfl rfl (fun _ => rfl) (fun _ => rfl) rfl ?_
  refine sv_bipush (pc := 5) (v := 6) dX4_prepare_5 (by decide) ?_
  refine sv_istore_n (pc := 7) dX4_prepare_7 rfl (by decide) ?_
  refine sv_iload_n (pc := 8) dX4_prepare_8 rfl rfl ?_
  refine sv_iconst (pc := 9) (v := 1) dX4_prepare_9 (by decide) ?_
  refine sv_icmp_lt (pc := 10) (tgt := 73) dX4_prepare_10 (by decide) (fun h => absurd h (by decide)) (fun _ => ?_)
  refine sv_aload_n (pc := 13) dX4_prepare_13 rfl rfl ?_
  refine sw_getfield (pc := 14) dX4_prepare_14 (gCX4 _ _ _ _ _) 4 (by decide) wF_X4_27 rfl rfl rfl ?_
  refine sv_iload_n (pc := 17) dX4_prepare_17 rfl rfl ?_
  refine sv_aload_n (pc := 18) dX4_prepare_18 rfl rfl ?_
  refine sw_getfield (pc := 19) dX4_prepare_19 (gCX4 _ _ _ _ _) 9 (by decide) wF_X4_59 rfl rfl rfl ?_
  refine sw_iastore (pc := 22) (k := 6) (v := .int 1) dX4_prepare_22 rfl rfl rfl (by decide) (by decide) rfl rfl ?_
  refine sv_aload_n (pc := 23) dX4_prepare_23 rfl rfl ?_
  refine sv_dup (pc := 24) dX4_prepare_24 rfl ?_
  refine sw_getfield (pc := 25) dX4_prepare_25 (gCX4 _ _ _ _ _) 9 (by decide) wF_X4_59 rfl rfl rfl ?_
  refine sv_aload_n (pc := 28) dX4_prepare_28 rfl rfl ?_
  refine sw_getfield (pc := 29) dX4_prepare_29 (gCX4 _ _ _ _ _) 12 (by decide) wF_X4_11 rfl rfl rfl ?_
  refine sv_iload_n (pc := 32) dX4_prepare_32 rfl rfl ?_
  refine sw_iaload (pc := 33) (k := 6) (v := .int 0) dX4_prepare_33 rfl rfl rfl (by decide) (by decide) rfl rfl ?_
  refine sv_iconst (pc := 34) (v := 1) dX4_prepare_34 (by decide) ?_
  refine sw_iadd (pc := 35) (v := 1) dX4_prepare_35 (by decide) ?_
  refine sw_imul (pc := 36) (v := 1) dX4_prepare_36 (by decide) ?_
  refine sw_putfield (pc := 37) dX4_prepare_37 (gCX4 _ _ _ _ _) 9 (by decide) wF_X4_59 rfl rfl rfl (fun _ => rfl) (fun _ => rfl) rfl ?_
  refine sv_iconst (pc := 40) (v := 0) dX4_prepare_40 (by decide) ?_
  refine sv_istore_n (pc := 41) dX4_prepare_41 rfl (by decide) ?_
  refine sv_iload_n (pc := 42) dX4_prepare_42 rfl rfl ?_
  refine sv_aload_n (pc := 43) dX4_prepare_43 rfl rfl ?_
  refine sw_getfield (pc := 44) dX4_prepare_44 (gCX4 _ _ _ _ _) 12 (by decide) wF_X4_11 rfl rfl rfl ?_
  refine sv_iload_n (pc := 47) dX4_prepare_47 rfl rfl ?_
  refine sw_iaload (pc := 48) (k := 6) (v := .int 0) dX4_prepare_48 rfl rfl rfl (by decide) (by decide) rfl rfl ?_
  refine sv_icmp_ge (pc := 49) (tgt := 67) dX4_prepare_49 (by decide) (fun _ => ?_) (fun h => absurd (by decide) h)
  refine sw_iinc (pc := 67) (v := 5) dX4_prepare_67 rfl (by decide) (by decide) ?_
  refine sv_goto (pc := 70) (tgt := 8) dX4_prepare_70 (by decide) ?_
  refine sv_iload_n (pc := 8) dX4_prepare_8 rfl rfl ?_
  refine sv_iconst (pc := 9) (v := 1) dX4_prepare_9 (by decide) ?_
  refine sv_icmp_lt (pc := 10) (tgt := 73) dX4_prepare_10 (by decide) (fun h => absurd h (by decide)) (fun _ => ?_)
  refine sv_aload_n (pc := 13) dX4_prepare_13 rfl rfl ?_
  refine sw_getfield (pc := 14) dX4_prepare_14 (gCX4 _ _ _ _ _) 4 (by decide) wF_X4_27 rfl rfl rfl ?_
  refine sv_iload_n (pc := 17) dX4_prepare_17 rfl rfl ?_
  refine sv_aload_n (pc := 18) dX4_prepare_18 rfl rfl ?_
  refine sw_getfield (pc := 19) dX4_prepare_19 (gCX4 _ _ _ _ _) 9 (by decide) wF_X4_59 rfl rfl rfl ?_
  refine sw_iastore (pc := 22) (k := 5) (v := .int 1) dX4_prepare_22 rfl rfl rfl (by decide) (by decide) rfl rfl ?_
  refine sv_aload_n (pc := 23) dX4_prepare_23 rfl rfl ?_
  refine sv_dup (pc := 24) dX4_prepare_24 rfl ?_
  refine sw_getfield (pc := 25) dX4_prepare_25 (gCX4 _ _ _ _ _) 9 (by decide) wF_X4_59 rfl rfl rfl ?_
  refine sv_aload_n (pc := 28) dX4_prepare_28 rfl rfl ?_
  refine sw_getfield (pc := 29) dX4_prepare_29 (gCX4 _ _ _ _ _) 12 (by decide) wF_X4_11 rfl rfl rfl ?_
  refine sv_iload_n (pc := 32) dX4_prepare_32 rfl rfl ?_
  refine sw_iaload (pc := 33) (k := 5) (v := .int 0) dX4_prepare_33 rfl rfl rfl (by decide) (by decide) rfl rfl ?_
  refine sv_iconst (pc := 34) (v := 1) dX4_prepare_34 (by decide) ?_
  refine sw_iadd (pc := 35) (v := 1) dX4_prepare_35 (by decide) ?_
  refine sw_imul (pc := 36) (v := 1) dX4_prepare_36 (by decide) ?_
  refine sw_putfield (pc := 37) dX4_prepare_37 (gCX4 _ _ _ _ _) 9 (by decide) wF_X4_59 rfl rfl rfl (fun _ => rfl) (fun _ => rfl) rfl ?_
  refine sv_iconst (pc := 40) (v := 0) dX4_prepare_40 (by decide) ?_
  refine sv_istore_n (pc := 41) dX4_prepare_41 rfl (by decide) ?_
  refine sv_iload_n (pc := 42) dX4_prepare_42 rfl rfl ?_
  refine sv_aload_n (pc := 43) dX4_prepare_43 rfl rfl ?_
  refine sw_getfield (pc := 44) dX4_prepare_44 (gCX4 _ _ _ _ _) 12 (by decide) wF_X4_11 rfl rfl rfl ?_
  refine sv_iload_n (pc := 47) dX4_prepare_47 rfl rfl ?_
  refine sw_iaload (pc := 48) (k := 5) (v := .int 0) dX4_prepare_48 rfl rfl rfl (by decide) (by decide) rfl rfl ?_
  refine sv_icmp_ge (pc := 49) (tgt := 67) dX4_prepare_49 (by decide) (fun _ => ?_) (fun h => absurd (by decide) h)
  refine sw_iinc (pc := 67) (v := 4) dX4_prepare_67 rfl (by decide) (by decide) ?_
  refine sv_goto (pc := 70) (tgt := 8) dX4_prepare_70 (by decide) ?_
  refine sv_iload_n (pc := 8) dX4_prepare_8 rfl rfl ?_
  refine sv_iconst (pc := 9) (v := 1) dX4_prepare_9 (by decide) ?_
  refine sv_icmp_lt (pc := 10) (tgt := 73) dX4_prepare_10 (by decide) (fun h => absurd h (by decide)) (fun _ => ?_)
  refine sv_aload_n (pc := 13) dX4_prepare_13 rfl rfl ?_
  refine sw_getfield (pc := 14) dX4_prepare_14 (gCX4 _ _ _ _ _) 4 (by decide) wF_X4_27 rfl rfl rfl ?_
  refine sv_iload_n (pc := 17) dX4_prepare_17 rfl rfl ?_
  refine sv_aload_n (pc := 18) dX4_prepare_18 rfl rfl ?_
  refine sw_getfield (pc := 19) dX4_prepare_19 (gCX4 _ _ _ _ _) 9 (by decide) wF_X4_59 rfl rfl rfl ?_
  refine sw_iastore (pc := 22) (k := 4) (v := .int 1) dX4_prepare_22 rfl rfl rfl (by decide) (by decide) rfl rfl ?_
  refine sv_aload_n (pc := 23) dX4_prepare_23 rfl rfl ?_
  refine sv_dup (pc := 24) dX4_prepare_24 rfl ?_
  refine sw_getfield (pc := 25) dX4_prepare_25 (gCX4 _ _ _ _ _) 9 (by decide) wF_X4_59 rfl rfl rfl ?_
  refine sv_aload_n (pc := 28) dX4_prepare_28 rfl rfl ?_
  refine sw_getfield (pc := 29) dX4_prepare_29 (gCX4 _ _ _ _ _) 12 (by decide) wF_X4_11 rfl rfl rfl ?_
  refine sv_iload_n (pc := 32) dX4_prepare_32 rfl rfl ?_
  refine sw_iaload (pc := 33) (k := 4) (v := .int 0) dX4_prepare_33 rfl rfl rfl (by decide) (by decide) rfl rfl ?_
  refine sv_iconst (pc := 34) (v := 1) dX4_prepare_34 (by decide) ?_
  refine sw_iadd (pc := 35) (v := 1) dX4_prepare_35 (by decide) ?_
  refine sw_imul (pc := 36) (v := 1) dX4_prepare_36 (by decide) ?_
  refine sw_putfield (pc := 37) dX4_prepare_37 (gCX4 _ _ _ _ _) 9 (by decide) wF_X4_59 rfl rfl rfl (fun _ => rfl) (fun _ => rfl) rfl ?_
  refine sv_iconst (pc := 40) (v := 0) dX4_prepare_40 (by decide) ?_
  refine sv_istore_n (pc := 41) dX4_prepare_41 rfl (by decide) ?_
  refine sv_iload_n (pc := 42) dX4_prepare_42 rfl rfl ?_
  refine sv_aload_n (pc := 43) dX4_prepare_43 rfl rfl ?_
  refine sw_getfield (pc := 44) dX4_prepare_44 (gCX4 _ _ _ _ _) 12 (by decide) wF_X4_11 rfl rfl rfl ?_
  refine sv_iload_n (pc := 47) dX4_prepare_47 rfl rfl ?_
  refine sw_iaload (pc := 48) (k := 4) (v := .int 0) dX4_prepare_48 rfl rfl rfl (by decide) (by decide) rfl rfl ?_
  refine sv_icmp_ge (pc := 49) (tgt := 67) dX4_prepare_49 (by decide) (fun _ => ?_) (fun h => absurd (by decide) h)
  refine sw_iinc (pc := 67) (v := 3) dX4_prepare_67 rfl (by decide) (by decide) ?_
  refine sv_goto (pc := 70) (tgt := 8) dX4_prepare_70 (by decide) ?_
  refine sv_iload_n (pc := 8) dX4_prepare_8 rfl rfl ?_
  refine sv_iconst (pc := 9) (v := 1) dX4_prepare_9 (by decide) ?_
  refine sv_icmp_lt (pc := 10) (tgt := 73) dX4_prepare_10 (by decide) (fun h => absurd h (by decide)) (fun _ => ?_)
  refine sv_aload_n (pc := 13) dX4_prepare_13 rfl rfl ?_
  refine sw_getfield (pc := 14) dX4_prepare_14 (gCX4 _ _ _ _ _) 4 (by decide) wF_X4_27 rfl rfl rfl ?_
  refine sv_iload_n (pc := 17) dX4_prepare_17 rfl rfl ?_
  refine sv_aload_n (pc := 18) dX4_prepare_18 rfl rfl ?_
  refine sw_getfield (pc := 19) dX4_prepare_19 (gCX4 _ _ _ _ _) 9 (by decide) wF_X4_59 rfl rfl rfl ?_
  refine sw_iastore (pc := 22) (k := 3) (v := .int 1) dX4_prepare_22 rfl rfl rfl (by decide) (by decide) rfl rfl ?_
  refine sv_aload_n (pc := 23) dX4_prepare_23 rfl rfl ?_
  refine sv_dup (pc := 24) dX4_prepare_24 rfl ?_
  refine sw_getfield (pc := 25) dX4_prepare_25 (gCX4 _ _ _ _ _) 9 (by decide) wF_X4_59 rfl rfl rfl ?_
  refine sv_aload_n (pc := 28) dX4_prepare_28 rfl rfl ?_
  refine sw_getfield (pc := 29) dX4_prepare_29 (gCX4 _ _ _ _ _) 12 (by decide) wF_X4_11 rfl rfl rfl ?_
  refine sv_iload_n (pc := 32) dX4_prepare_32 rfl rfl ?_
  refine sw_iaload (pc := 33) (k := 3) (v := .int 0) dX4_prepare_33 rfl rfl rfl (by decide) (by decide) rfl rfl ?_
  refine sv_iconst (pc := 34) (v := 1) dX4_prepare_34 (by decide) ?_
  refine sw_iadd (pc := 35) (v := 1) dX4_prepare_35 (by decide) ?_
  refine sw_imul (pc := 36) (v := 1) dX4_prepare_36 (by decide) ?_
  refine sw_putfield (pc := 37) dX4_prepare_37 (gCX4 _ _ _ _ _) 9 (by decide) wF_X4_59 rfl rfl rfl (fun _ => rfl) (fun _ => rfl) rfl ?_
  refine sv_iconst (pc := 40) (v := 0) dX4_prepare_40 (by decide) ?_
  refine sv_istore_n (pc := 41) dX4_prepare_41 rfl (by decide) ?_
  refine sv_lvG (pc := 42) (lv' := [(0, .ref 94), (1, .int 3), (2, .int 0)]) (List.forall_mem_cons.mpr ⟨rfl, List.forall_mem_cons.mpr ⟨rfl, List.forall_mem_cons.mpr ⟨rfl, fun _ h => absurd h List.not_mem_nil⟩⟩⟩) ?_
  refine sv_iload_n (pc := 42) dX4_prepare_42 rfl rfl ?_
  refine sv_aload_n (pc := 43) dX4_prepare_43 rfl rfl ?_
  refine sw_getfield (pc := 44) dX4_prepare_44 (gCX4 _ _ _ _ _) 12 (by decide) wF_X4_11 rfl rfl rfl ?_
  refine sv_iload_n (pc := 47) dX4_prepare_47 rfl rfl ?_
  refine sw_iaload (pc := 48) (k := 3) (v := .int 0) dX4_prepare_48 rfl rfl rfl (by decide) (by decide) rfl rfl ?_
  refine sv_icmp_ge (pc := 49) (tgt := 67) dX4_prepare_49 (by decide) (fun _ => ?_) (fun h => absurd (by decide) h)
  refine sw_iinc (pc := 67) (v := 2) dX4_prepare_67 rfl (by decide) (by decide) ?_
  refine sv_goto (pc := 70) (tgt := 8) dX4_prepare_70 (by decide) ?_
  refine sv_iload_n (pc := 8) dX4_prepare_8 rfl rfl ?_
  refine sv_iconst (pc := 9) (v := 1) dX4_prepare_9 (by decide) ?_
  refine sv_icmp_lt (pc := 10) (tgt := 73) dX4_prepare_10 (by decide) (fun h => absurd h (by decide)) (fun _ => ?_)
  refine sv_aload_n (pc := 13) dX4_prepare_13 rfl rfl ?_
  refine sw_getfield (pc := 14) dX4_prepare_14 (gCX4 _ _ _ _ _) 4 (by decide) wF_X4_27 rfl rfl rfl ?_
  refine sv_iload_n (pc := 17) dX4_prepare_17 rfl rfl ?_
  refine sv_aload_n (pc := 18) dX4_prepare_18 rfl rfl ?_
  refine sw_getfield (pc := 19) dX4_prepare_19 (gCX4 _ _ _ _ _) 9 (by decide) wF_X4_59 rfl rfl rfl ?_
  refine sw_iastore (pc := 22) (k := 2) (v := .int 1) dX4_prepare_22 rfl rfl rfl (by decide) (by decide) rfl rfl ?_
  refine sv_aload_n (pc := 23) dX4_prepare_23 rfl rfl ?_
  refine sv_dup (pc := 24) dX4_prepare_24 rfl ?_
  refine sw_getfield (pc := 25) dX4_prepare_25 (gCX4 _ _ _ _ _) 9 (by decide) wF_X4_59 rfl rfl rfl ?_
  refine sv_aload_n (pc := 28) dX4_prepare_28 rfl rfl ?_
  refine sw_getfield (pc := 29) dX4_prepare_29 (gCX4 _ _ _ _ _) 12 (by decide) wF_X4_11 rfl rfl rfl ?_
  refine sv_iload_n (pc := 32) dX4_prepare_32 rfl rfl ?_
  refine sw_iaload (pc := 33) (k := 2) (v := .int 0) dX4_prepare_33 rfl rfl rfl (by decide) (by decide) rfl rfl ?_
  refine sv_iconst (pc := 34) (v := 1) dX4_prepare_34 (by decide) ?_
  refine sw_iadd (pc := 35) (v := 1) dX4_prepare_35 (by decide) ?_
  refine sw_imul (pc := 36) (v := 1) dX4_prepare_36 (by decide) ?_
  refine sw_putfield (pc := 37) dX4_prepare_37 (gCX4 _ _ _ _ _) 9 (by decide) wF_X4_59 rfl rfl rfl (fun _ => rfl) (fun _ => rfl) rfl ?_
  refine sv_iconst (pc := 40) (v := 0) dX4_prepare_40 (by decide) ?_
  refine sv_istore_n (pc := 41) dX4_prepare_41 rfl (by decide) ?_
  refine sv_iload_n (pc := 42) dX4_prepare_42 rfl rfl ?_
  refine sv_aload_n (pc := 43) dX4_prepare_43 rfl rfl ?_
  refine sw_getfield (pc := 44) dX4_prepare_44 (gCX4 _ _ _ _ _) 12 (by decide) wF_X4_11 rfl rfl rfl ?_
  refine sv_iload_n (pc := 47) dX4_prepare_47 rfl rfl ?_
  refine sw_iaload (pc := 48) (k := 2) (v := .int 0) dX4_prepare_48 rfl rfl rfl (by decide) (by decide) rfl rfl ?_
  refine sv_icmp_ge (pc := 49) (tgt := 67) dX4_prepare_49 (by decide) (fun _ => ?_) (fun h => absurd (by decide) h)
  refine sw_iinc (pc := 67) (v := 1) dX4_prepare_67 rfl (by decide) (by decide) ?_
  refine sv_goto (pc := 70) (tgt := 8) dX4_prepare_70 (by decide) ?_
  refine sv_iload_n (pc := 8) dX4_prepare_8 rfl rfl ?_
  refine sv_iconst (pc := 9) (v := 1) dX4_prepare_9 (by decide) ?_
  refine sv_icmp_lt (pc := 10) (tgt := 73) dX4_prepare_10 (by decide) (fun h => absurd h (by decide)) (fun _ => ?_)
  refine sv_aload_n (pc := 13) dX4_prepare_13 rfl rfl ?_
  refine sw_getfield (pc := 14) dX4_prepare_14 (gCX4 _ _ _ _ _) 4 (by decide) wF_X4_27 rfl rfl rfl ?_
  refine sv_iload_n (pc := 17) dX4_prepare_17 rfl rfl ?_
  refine sv_aload_n (pc := 18) dX4_prepare_18 rfl rfl ?_
  refine sw_getfield (pc := 19) dX4_prepare_19 (gCX4 _ _ _ _ _) 9 (by decide) wF_X4_59 rfl rfl rfl ?_
  refine sw_iastore (pc := 22) (k := 1) (v := .int 1) dX4_prepare_22 rfl rfl rfl (by decide) (by decide) rfl rfl ?_
  refine sv_aload_n (pc := 23) dX4_prepare_23 rfl rfl ?_
  refine sv_dup (pc := 24) dX4_prepare_24 rfl ?_
  refine sw_getfield (pc := 25) dX4_prepare_25 (gCX4 _ _ _ _ _) 9 (by decide) wF_X4_59 rfl rfl rfl ?_
  refine sv_aload_n (pc := 28) dX4_prepare_28 rfl rfl ?_
  refine sw_getfield (pc := 29) dX4_prepare_29 (gCX4 _ _ _ _ _) 12 (by decide) wF_X4_11 rfl rfl rfl ?_
  refine sv_iload_n (pc := 32) dX4_prepare_32 rfl rfl ?_
  refine sw_iaload (pc := 33) (k := 1) (v := .int 0) dX4_prepare_33 rfl rfl rfl (by decide) (by decide) rfl rfl ?_
  refine sv_iconst (pc := 34) (v := 1) dX4_prepare_34 (by decide) ?_
  refine sw_iadd (pc := 35) (v := 1) dX4_prepare_35 (by decide) ?_
  refine sw_imul (pc := 36) (v := 1) dX4_prepare_36 (by decide) ?_
  refine sw_putfield (pc := 37) dX4_prepare_37 (gCX4 _ _ _ _ _) 9 (by decide) wF_X4_59 rfl rfl rfl (fun _ => rfl) (fun _ => rfl) rfl ?_
  refine sv_iconst (pc := 40) (v := 0) dX4_prepare_40 (by decide) ?_
  refine sv_istore_n (pc := 41) dX4_prepare_41 rfl (by decide) ?_
  refine sv_iload_n (pc := 42) dX4_prepare_42 rfl rfl ?_
  refine sv_aload_n (pc := 43) dX4_prepare_43 rfl rfl ?_
  refine sw_getfield (pc := 44) dX4_prepare_44 (gCX4 _ _ _ _ _) 12 (by decide) wF_X4_11 rfl rfl rfl ?_
  refine sv_iload_n (pc := 47) dX4_prepare_47 rfl rfl ?_
  refine sw_iaload (pc := 48) (k := 1) (v := .int 0) dX4_prepare_48 rfl rfl rfl (by decide) (by decide) rfl rfl ?_
  refine sv_icmp_ge (pc := 49) (tgt := 67) dX4_prepare_49 (by decide) (fun _ => ?_) (fun h => absurd (by decide) h)
  refine sw_iinc (pc := 67) (v := 0) dX4_prepare_67 rfl (by decide) (by decide) ?_
  refine sv_goto (pc := 70) (tgt := 8) dX4_prepare_70 (by decide) ?_
  refine sv_iload_n (pc := 8) dX4_prepare_8 rfl rfl ?_
  refine sv_iconst (pc := 9) (v := 1) dX4_prepare_9 (by decide) ?_
  refine sv_icmp_lt (pc := 10) (tgt := 73) dX4_prepare_10 (by decide) (fun _ => ?_) (fun h => absurd (by decide) h)
  refine sv_vret (pc := 73) dX4_prepare_73 rfl (le_t rfl) (le_t rfl) ?_
  refine sv_aload_n (pc := 12) dX4_findRests_12 rfl rfl ?_
  refine sv_iconst (pc := 13) (v := 0) dX4_findRests_13 (by decide) ?_
  refine sw_putfield (pc := 14) dX4_findRests_14 (gCX4 _ _ _ _ _) 14 (by decide) wF_X4_82 rfl rfl rfl (fun _ => rfl) (fun _ => rfl) rfl ?_
  refine sv_aload_n (pc := 17) dX4_findRests_17 rfl rfl ?_
  refine sv_iconst (pc := 18) (v := 0) dX4_findRests_18 (by decide) ?_
  refine sv_callV (pc := 19) (M' := mX4_unfold) (d' := 18) (C' := 0) (S' := 0) (av := [.int 0]) ?_ (gOk _ _ _ _ _) dX4_findRests_19 (tX4_unfold _ _ _ _ _) ⟨wV_X4_unfold, wL_X4_unfold⟩ wM_X4_85 (gCX4 _ _ _ _ _) rfl (lt_t rfl) rfl ⟨le_t rfl, le_t rfl⟩ ⟨le_t rfl, le_t rfl⟩ rfl (le_t rfl) (fun _ _ h => h)
  refine sC.of rfl (by decide) (le_t rfl) ?_
  refine sv_iconst (pc := 0) (v := 1) dX4_unfold_0 (by decide) ?_
  refine sv_istore_n (pc := 1) dX4_unfold_1 rfl (by decide) ?_
  refine sv_iload_n (pc := 2) dX4_unfold_2 rfl rfl ?_
  refine sv_bipush (pc := 3) (v := 7) dX4_unfold_3 (by decide) ?_
  refine sv_icmp_ge (pc := 5) (tgt := 26) dX4_unfold_5 (by decide) (fun h => absurd h (by decide)) (fun _ => ?_)
  refine sv_aload_n (pc := 8) dX4_unfold_8 rfl rfl ?_
  refine sw_getfield (pc := 9) dX4_unfold_9 (gCX4 _ _ _ _ _) 5 (by decide) wF_X4_30 rfl rfl rfl ?_
  refine sv_iload_n (pc := 12) dX4_unfold_12 rfl rfl ?_
  refine sv_aload_n (pc := 13) dX4_unfold_13 rfl rfl ?_
  refine sv_iload_n (pc := 14) dX4_unfold_14 rfl rfl ?_
  refine sv_iload_n (pc := 15) dX4_unfold_15 rfl rfl ?_
  refine sv_callV (pc := 16) (M' := mX4_figure) (d' := 17) (C' := 0) (S' := 0) (av := [.int 0, .int 1]) ?_ (gOk _ _ _ _ _) dX4_unfold_16 (tX4_figure _ _ _ _ _) ⟨wV_X4_figure, wL_X4_figure⟩ wM_X4_75 (gCX4 _ _ _ _ _) rfl (lt_t rfl) rfl ⟨le_t rfl, le_t rfl⟩ ⟨le_t rfl, le_t rfl⟩ rfl (le_t rfl) (fun _ _ h => h)
  refine sC.of rfl (by decide) (le_t rfl) ?_
  refine sv_aload_n (pc := 0) dX4_figure_0 rfl rfl ?_
  refine sw_getfield (pc := 1) dX4_figure_1 (gCX4 _ _ _ _ _) 4 (by decide) wF_X4_27 rfl rfl rfl ?_
  refine sv_iload_n (pc := 4) dX4_figure_4 rfl rfl ?_
  refine sw_iaload (pc := 5) (k := 1) (v := .int 1) dX4_figure_5 rfl rfl rfl (by decide) (by decide) rfl rfl ?_
  refine sv_istore_n (pc := 6) dX4_figure_6 rfl (by decide) ?_
  refine sv_iload_n (pc := 7) dX4_figure_7 rfl rfl ?_
  refine sv_if_le (pc := 8) (tgt := 26) dX4_figure_8 (by decide) (fun h => absurd h (by decide)) (fun _ => ?_)
  refine sv_iload_n (pc := 11) dX4_figure_11 rfl rfl ?_
  refine sv_iload_n (pc := 12) dX4_figure_12 rfl rfl ?_
  refine sw_idiv (pc := 13) (v := 0) dX4_figure_13 (by decide) (by decide) ?_
  refine sv_aload_n (pc := 14) dX4_figure_14 rfl rfl ?_
  refine sw_getfield (pc := 15) dX4_figure_15 (gCX4 _ _ _ _ _) 12 (by decide) wF_X4_11 rfl rfl rfl ?_
  refine sv_iload_n (pc := 18) dX4_figure_18 rfl rfl ?_
  refine sw_iaload (pc := 19) (k := 1) (v := .int 0) dX4_figure_19 rfl rfl rfl (by decide) (by decide) rfl rfl ?_
  refine sv_iconst (pc := 20) (v := 1) dX4_figure_20 (by decide) ?_
  refine sw_iadd (pc := 21) (v := 1) dX4_figure_21 (by decide) ?_
  refine sw_irem (pc := 22) (v := 0) dX4_figure_22 (by decide) (by decide) ?_
  refine sv_goto (pc := 23) (tgt := 27) dX4_figure_23 (by decide) ?_
  refine sv_iret (pc := 27) dX4_figure_27 rfl (le_t rfl) (le_t rfl) ?_
  refine sw_iastore (pc := 19) (k := 1) (v := .int 0) dX4_unfold_19 rfl rfl rfl (by decide) (by decide) rfl rfl ?_
  refine sw_iinc (pc := 20) (v := 2) dX4_unfold_20 rfl (by decide) (by decide) ?_
  refine sv_goto (pc := 23) (tgt := 2) dX4_unfold_23 (by decide) ?_
  refine sv_iload_n (pc := 2) dX4_unfold_2 rfl rfl ?_
  refine sv_bipush (pc := 3) (v := 7) dX4_unfold_3 (by decide) ?_
  refine sv_icmp_ge (pc := 5) (tgt := 26) dX4_unfold_5 (by decide) (fun h => absurd h (by decide)) (fun _ => ?_)
  refine sv_aload_n (pc := 8) dX4_unfold_8 rfl rfl ?_
  refine sw_getfield (pc := 9) dX4_unfold_9 (gCX4 _ _ _ _ _) 5 (by decide) wF_X4_30 rfl rfl rfl ?_
  refine sv_iload_n (pc := 12) dX4_unfold_12 rfl rfl ?_
  refine sv_aload_n (pc := 13) dX4_unfold_13 rfl rfl ?_
  refine sv_iload_n (pc := 14) dX4_unfold_14 rfl rfl ?_
  refine sv_iload_n (pc := 15) dX4_unfold_15 rfl rfl ?_
  refine sv_callV (pc := 16) (M' := mX4_figure) (d' := 17) (C' := 0) (S' := 0) (av := [.int 0, .int 2]) ?_ (gOk _ _ _ _ _) dX4_unfold_16 (tX4_figure _ _ _ _ _) ⟨wV_X4_figure, wL_X4_figure⟩ wM_X4_75 (gCX4 _ _ _ _ _) rfl (lt_t rfl) rfl ⟨le_t rfl, le_t rfl⟩ ⟨le_t rfl, le_t rfl⟩ rfl (le_t rfl) (fun _ _ h => h)
  refine sC.of rfl (by decide) (le_t rfl) ?_
  refine sv_aload_n (pc := 0) dX4_figure_0 rfl rfl ?_
  refine sw_getfield (pc := 1) dX4_figure_1 (gCX4 _ _ _ _ _) 4 (by decide) wF_X4_27 rfl rfl rfl ?_
  refine sv_iload_n (pc := 4) dX4_figure_4 rfl rfl ?_
  refine sw_iaload (pc := 5) (k := 2) (v := .int 1) dX4_figure_5 rfl rfl rfl (by decide) (by decide) rfl rfl ?_
  refine sv_istore_n (pc := 6) dX4_figure_6 rfl (by decide) ?_
  refine sv_iload_n (pc := 7) dX4_figure_7 rfl rfl ?_
  refine sv_if_le (pc := 8) (tgt := 26) dX4_figure_8 (by decide) (fun h => absurd h (by decide)) (fun _ => ?_)
  refine sv_iload_n (pc := 11) dX4_figure_11 rfl rfl ?_
  refine sv_iload_n (pc := 12) dX4_figure_12 rfl rfl ?_
  refine sw_idiv (pc := 13) (v := 0) dX4_figure_13 (by decide) (by decide) ?_
  refine sv_aload_n (pc := 14) dX4_figure_14 rfl rfl ?_
  refine sw_getfield (pc := 15) dX4_figure_15 (gCX4 _ _ _ _ _) 12 (by decide) wF_X4_11 rfl rfl rfl ?_
  refine sv_iload_n (pc := 18) dX4_figure_18 rfl rfl ?_
  refine sw_iaload (pc := 19) (k := 2) (v := .int 0) dX4_figure_19 rfl rfl rfl (by decide) (by decide) rfl rfl ?_
  refine sv_iconst (pc := 20) (v := 1) dX4_figure_20 (by decide) ?_
  refine sw_iadd (pc := 21) (v := 1) dX4_figure_21 (by decide) ?_
  refine sw_irem (pc := 22) (v := 0) dX4_figure_22 (by decide) (by decide) ?_
  refine sv_goto (pc := 23) (tgt := 27) dX4_figure_23 (by decide) ?_
  refine sv_iret (pc := 27) dX4_figure_27 rfl (le_t rfl) (le_t rfl) ?_
  refine sw_iastore (pc := 19) (k := 2) (v := .int 0) dX4_unfold_19 rfl rfl rfl (by decide) (by decide) rfl rfl ?_
  refine sw_iinc (pc := 20) (v := 3) dX4_unfold_20 rfl (by decide) (by decide) ?_
  refine sv_goto (pc := 23) (tgt := 2) dX4_unfold_23 (by decide) ?_
  refine sv_iload_n (pc := 2) dX4_unfold_2 rfl rfl ?_
  refine sv_bipush (pc := 3) (v := 7) dX4_unfold_3 (by decide) ?_
  refine sv_icmp_ge (pc := 5) (tgt := 26) dX4_unfold_5 (by decide) (fun h => absurd h (by decide)) (fun _ => ?_)
  refine sv_aload_n (pc := 8) dX4_unfold_8 rfl rfl ?_
  refine sw_getfield (pc := 9) dX4_unfold_9 (gCX4 _ _ _ _ _) 5 (by decide) wF_X4_30 rfl rfl rfl ?_
  refine sv_iload_n (pc := 12) dX4_unfold_12 rfl rfl ?_
  refine sv_aload_n (pc := 13) dX4_unfold_13 rfl rfl ?_
  refine sv_iload_n (pc := 14) dX4_unfold_14 rfl rfl ?_
  refine sv_iload_n (pc := 15) dX4_unfold_15 rfl rfl ?_
  refine sv_callV (pc := 16) (M' := mX4_figure) (d' := 17) (C' := 0) (S' := 0) (av := [.int 0, .int 3]) ?_ (gOk _ _ _ _ _) dX4_unfold_16 (tX4_figure _ _ _ _ _) ⟨wV_X4_figure, wL_X4_figure⟩ wM_X4_75 (gCX4 _ _ _ _ _) rfl (lt_t rfl) rfl ⟨le_t rfl, le_t rfl⟩ ⟨le_t rfl, le_t rfl⟩ rfl (le_t rfl) (fun _ _ h => h)
  refine sC.of rfl (by decide) (le_t rfl) ?_
  refine sv_aload_n (pc := 0) dX4_figure_0 rfl rfl ?_
  refine sw_getfield (pc := 1) dX4_figure_1 (gCX4 _ _ _ _ _) 4 (by decide) wF_X4_27 rfl rfl rfl ?_
  refine sv_iload_n (pc := 4) dX4_figure_4 rfl rfl ?_
  refine sw_iaload (pc := 5) (k := 3) (v := .int 1) dX4_figure_5 rfl rfl rfl (by decide) (by decide) rfl rfl ?_
  refine sv_istore_n (pc := 6) dX4_figure_6 rfl (by decide) ?_
  refine sv_iload_n (pc := 7) dX4_figure_7 rfl rfl ?_
  refine sv_if_le (pc := 8) (tgt := 26) dX4_figure_8 (by decide) (fun h => absurd h (by decide)) (fun _ => ?_)
  refine sv_iload_n (pc := 11) dX4_figure_11 rfl rfl ?_
  refine sv_iload_n (pc := 12) dX4_figure_12 rfl rfl ?_
  refine sw_idiv (pc := 13) (v := 0) dX4_figure_13 (by decide) (by decide) ?_
  refine sv_aload_n (pc := 14) dX4_figure_14 rfl rfl ?_
  refine sw_getfield (pc := 15) dX4_figure_15 (gCX4 _ _ _ _ _) 12 (by decide) wF_X4_11 rfl rfl rfl ?_
  refine sv_iload_n (pc := 18) dX4_figure_18 rfl rfl ?_
  refine sw_iaload (pc := 19) (k := 3) (v := .int 0) dX4_figure_19 rfl rfl rfl (by decide) (by decide) rfl rfl ?_
  refine sv_iconst (pc := 20) (v := 1) dX4_figure_20 (by decide) ?_
  refine sw_iadd (pc := 21) (v := 1) dX4_figure_21 (by decide) ?_
  refine sw_irem (pc := 22) (v := 0) dX4_figure_22 (by decide) (by decide) ?_
  refine sv_goto (pc := 23) (tgt := 27) dX4_figure_23 (by decide) ?_
  refine sv_iret (pc := 27) dX4_figure_27 rfl (le_t rfl) (le_t rfl) ?_
  refine sw_iastore (pc := 19) (k := 3) (v := .int 0) dX4_unfold_19 rfl rfl rfl (by decide) (by decide) rfl rfl ?_
  refine sw_iinc (pc := 20) (v := 4) dX4_unfold_20 rfl (by decide) (by decide) ?_
  refine sv_goto (pc := 23) (tgt := 2) dX4_unfold_23 (by decide) ?_
  refine sv_iload_n (pc := 2) dX4_unfold_2 rfl rfl ?_
  refine sv_bipush (pc := 3) (v := 7) dX4_unfold_3 (by decide) ?_
  refine sv_icmp_ge (pc := 5) (tgt := 26) dX4_unfold_5 (by decide) (fun h => absurd h (by decide)) (fun _ => ?_)
  refine sv_aload_n (pc := 8) dX4_unfold_8 rfl rfl ?_
  refine sw_getfield (pc := 9) dX4_unfold_9 (gCX4 _ _ _ _ _) 5 (by decide) wF_X4_30 rfl rfl rfl ?_
  refine sv_iload_n (pc := 12) dX4_unfold_12 rfl rfl ?_
  refine sv_aload_n (pc := 13) dX4_unfold_13 rfl rfl ?_
  refine sv_iload_n (pc := 14) dX4_unfold_14 rfl rfl ?_
  refine sv_iload_n (pc := 15) dX4_unfold_15 rfl rfl ?_
  refine sv_callV (pc := 16) (M' := mX4_figure) (d' := 17) (C' := 0) (S' := 0) (av := [.int 0, .int 4]) ?_ (gOk _ _ _ _ _) dX4_unfold_16 (tX4_figure _ _ _ _ _) ⟨wV_X4_figure, wL_X4_figure⟩ wM_X4_75 (gCX4 _ _ _ _ _) rfl (lt_t rfl) rfl ⟨le_t rfl, le_t rfl⟩ ⟨le_t rfl, le_t rfl⟩ rfl (le_t rfl) (fun _ _ h => h)
  refine sC.of rfl (by decide) (le_t rfl) ?_
  refine sv_aload_n (pc := 0) dX4_figure_0 rfl rfl ?_
  refine sw_getfield (pc := 1) dX4_figure_1 (gCX4 _ _ _ _ _) 4 (by decide) wF_X4_27 rfl rfl rfl ?_
  refine sv_iload_n (pc := 4) dX4_figure_4 rfl rfl ?_
  refine sw_iaload (pc := 5) (k := 4) (v := .int 1) dX4_figure_5 rfl rfl rfl (by decide) (by decide) rfl rfl ?_
  refine sv_istore_n (pc := 6) dX4_figure_6 rfl (by decide) ?_
  refine sv_iload_n (pc := 7) dX4_figure_7 rfl rfl ?_
  refine sv_if_le (pc := 8) (tgt := 26) dX4_figure_8 (by decide) (fun h => absurd h (by decide)) (fun _ => ?_)
  refine sv_iload_n (pc := 11) dX4_figure_11 rfl rfl ?_
  refine sv_iload_n (pc := 12) dX4_figure_12 rfl rfl ?_
  refine sw_idiv (pc := 13) (v := 0) dX4_figure_13 (by decide) (by decide) ?_
  refine sv_aload_n (pc := 14) dX4_figure_14 rfl rfl ?_
  refine sw_getfield (pc := 15) dX4_figure_15 (gCX4 _ _ _ _ _) 12 (by decide) wF_X4_11 rfl rfl rfl ?_
  refine sv_iload_n (pc := 18) dX4_figure_18 rfl rfl ?_
  refine sw_iaload (pc := 19) (k := 4) (v := .int 0) dX4_figure_19 rfl rfl rfl (by decide) (by decide) rfl rfl ?_
  refine sv_iconst (pc := 20) (v := 1) dX4_figure_20 (by decide) ?_
  refine sw_iadd (pc := 21) (v := 1) dX4_figure_21 (by decide) ?_
  refine sw_irem (pc := 22) (v := 0) dX4_figure_22 (by decide) (by decide) ?_
  refine sv_goto (pc := 23) (tgt := 27) dX4_figure_23 (by decide) ?_
  refine sv_iret (pc := 27) dX4_figure_27 rfl (le_t rfl) (le_t rfl) ?_
  refine sw_iastore (pc := 19) (k := 4) (v := .int 0) dX4_unfold_19 rfl rfl rfl (by decide) (by decide) rfl rfl ?_
  refine sw_iinc (pc := 20) (v := 5) dX4_unfold_20 rfl (by decide) (by decide) ?_
  refine sv_goto (pc := 23) (tgt := 2) dX4_unfold_23 (by decide) ?_
  refine sv_iload_n (pc := 2) dX4_unfold_2 rfl rfl ?_
  refine sv_bipush (pc := 3) (v := 7) dX4_unfold_3 (by decide) ?_
  refine sv_icmp_ge (pc := 5) (tgt := 26) dX4_unfold_5 (by decide) (fun h => absurd h (by decide)) (fun _ => ?_)
  refine sv_aload_n (pc := 8) dX4_unfold_8 rfl rfl ?_
  refine sw_getfield (pc := 9) dX4_unfold_9 (gCX4 _ _ _ _ _) 5 (by decide) wF_X4_30 rfl rfl rfl ?_
  refine sv_iload_n (pc := 12) dX4_unfold_12 rfl rfl ?_
  refine sv_aload_n (pc := 13) dX4_unfold_13 rfl rfl ?_
  refine sv_iload_n (pc := 14) dX4_unfold_14 rfl rfl ?_
  refine sv_iload_n (pc := 15) dX4_unfold_15 rfl rfl ?_
  refine sv_callV (pc := 16) (M' := mX4_figure) (d' := 17) (C' := 0) (S' := 0) (av := [.int 0, .int 5]) ?_ (gOk _ _ _ _ _) dX4_unfold_16 (tX4_figure _ _ _ _ _) ⟨wV_X4_figure, wL_X4_figure⟩ wM_X4_75 (gCX4 _ _ _ _ _) rfl (lt_t rfl) rfl ⟨le_t rfl, le_t rfl⟩ ⟨le_t rfl, le_t rfl⟩ rfl (le_t rfl) (fun _ _ h => h)
  refine sC.of rfl (by decide) (le_t rfl) ?_
  refine sv_aload_n (pc := 0) dX4_figure_0 rfl rfl ?_
  refine sw_getfield (pc := 1) dX4_figure_1 (gCX4 _ _ _ _ _) 4 (by decide) wF_X4_27 rfl rfl rfl ?_
  refine sv_iload_n (pc := 4) dX4_figure_4 rfl rfl ?_
  refine sw_iaload (pc := 5) (k := 5) (v := .int 1) dX4_figure_5 rfl rfl rfl (by decide) (by decide) rfl rfl ?_
  refine sv_istore_n (pc := 6) dX4_figure_6 rfl (by decide) ?_
  refine sv_iload_n (pc := 7) dX4_figure_7 rfl rfl ?_
  refine sv_if_le (pc := 8) (tgt := 26) dX4_figure_8 (by decide) (fun h => absurd h (by decide)) (fun _ => ?_)
  refine sv_iload_n (pc := 11) dX4_figure_11 rfl rfl ?_
  refine sv_iload_n (pc := 12) dX4_figure_12 rfl rfl ?_
  refine sw_idiv (pc := 13) (v := 0) dX4_figure_13 (by decide) (by decide) ?_
  refine sv_aload_n (pc := 14) dX4_figure_14 rfl rfl ?_
  refine sw_getfield (pc := 15) dX4_figure_15 (gCX4 _ _ _ _ _) 12 (by decide) wF_X4_11 rfl rfl rfl ?_
  refine sv_iload_n (pc := 18) dX4_figure_18 rfl rfl ?_
  refine sw_iaload (pc := 19) (k := 5) (v := .int 0) dX4_figure_19 rfl rfl rfl (by decide) (by decide) rfl rfl ?_
  refine sv_iconst (pc := 20) (v := 1) dX4_figure_20 (by decide) ?_
  refine sw_iadd (pc := 21) (v := 1) dX4_figure_21 (by decide) ?_
  refine sw_irem (pc := 22) (v := 0) dX4_figure_22 (by decide) (by decide) ?_
  refine sv_goto (pc := 23) (tgt := 27) dX4_figure_23 (by decide) ?_
  refine sv_iret (pc := 27) dX4_figure_27 rfl (le_t rfl) (le_t rfl) ?_
  refine sw_iastore (pc := 19) (k := 5) (v := .int 0) dX4_unfold_19 rfl rfl rfl (by decide) (by decide) rfl rfl ?_
  refine sw_iinc (pc := 20) (v := 6) dX4_unfold_20 rfl (by decide) (by decide) ?_
  refine sv_goto (pc := 23) (tgt := 2) dX4_unfold_23 (by decide) ?_
  refine sv_iload_n (pc := 2) dX4_unfold_2 rfl rfl ?_
  refine sv_bipush (pc := 3) (v := 7) dX4_unfold_3 (by decide) ?_
  refine sv_icmp_ge (pc := 5) (tgt := 26) dX4_unfold_5 (by decide) (fun h => absurd h (by decide)) (fun _ => ?_)
  refine sv_aload_n (pc := 8) dX4_unfold_8 rfl rfl ?_
  refine sw_getfield (pc := 9) dX4_unfold_9 (gCX4 _ _ _ _ _) 5 (by decide) wF_X4_30 rfl rfl rfl ?_
  refine sv_iload_n (pc := 12) dX4_unfold_12 rfl rfl ?_
  refine sv_aload_n (pc := 13) dX4_unfold_13 rfl rfl ?_
  refine sv_iload_n (pc := 14) dX4_unfold_14 rfl rfl ?_
  refine sv_iload_n (pc := 15) dX4_unfold_15 rfl rfl ?_
  refine sv_callV (pc := 16) (M' := mX4_figure) (d' := 17) (C' := 0) (S' := 0) (av := [.int 0, .int 6]) ?_ (gOk _ _ _ _ _) dX4_unfold_16 (tX4_figure _ _ _ _ _) ⟨wV_X4_figure, wL_X4_figure⟩ wM_X4_75 (gCX4 _ _ _ _ _) rfl (lt_t rfl) rfl ⟨le_t rfl, le_t rfl⟩ ⟨le_t rfl, le_t rfl⟩ rfl (le_t rfl) (fun _ _ h => h)
  refine sC.of rfl (by decide) (le_t rfl) ?_
  refine sv_aload_n (pc := 0) dX4_figure_0 rfl rfl ?_
  refine sw_getfield (pc := 1) dX4_figure_1 (gCX4 _ _ _ _ _) 4 (by decide) wF_X4_27 rfl rfl rfl ?_
  refine sv_iload_n (pc := 4) dX4_figure_4 rfl rfl ?_
  refine sw_iaload (pc := 5) (k := 6) (v := .int 1) dX4_figure_5 rfl rfl rfl (by decide) (by decide) rfl rfl ?_
  refine sv_istore_n (pc := 6) dX4_figure_6 rfl (by decide) ?_
  refine sv_iload_n (pc := 7) dX4_figure_7 rfl rfl ?_
  refine sv_if_le (pc := 8) (tgt := 26) dX4_figure_8 (by decide) (fun h => absurd h (by decide)) (fun _ => ?_)
  refine sv_iload_n (pc := 11) dX4_figure_11 rfl rfl ?_
  refine sv_iload_n (pc := 12) dX4_figure_12 rfl rfl ?_
  refine sw_idiv (pc := 13) (v := 0) dX4_figure_13 (by decide) (by decide) ?_
  refine sv_aload_n (pc := 14) dX4_figure_14 rfl rfl ?_
  refine sw_getfield (pc := 15) dX4_figure_15 (gCX4 _ _ _ _ _) 12 (by decide) wF_X4_11 rfl rfl rfl ?_
  refine sv_iload_n (pc := 18) dX4_figure_18 rfl rfl ?_
  refine sw_iaload (pc := 19) (k := 6) (v := .int 0) dX4_figure_19 rfl rfl rfl (by decide) (by decide) rfl rfl ?_
  refine sv_iconst (pc := 20) (v := 1) dX4_figure_20 (by decide) ?_
  refine sw_iadd (pc := 21) (v := 1) dX4_figure_21 (by decide) ?_
  refine sw_irem (pc := 22) (v := 0) dX4_figure_22 (by decide) (by decide) ?_
  refine sv_goto (pc := 23) (tgt := 27) dX4_figure_23 (by decide) ?_
  refine sv_iret (pc := 27) dX4_figure_27 rfl (le_t rfl) (le_t rfl) ?_
  refine sw_iastore (pc := 19) (k := 6) (v := .int 0) dX4_unfold_19 rfl rfl rfl (by decide) (by decide) rfl rfl ?_
  refine sw_iinc (pc := 20) (v := 7) dX4_unfold_20 rfl (by decide) (by decide) ?_
  refine sv_goto (pc := 23) (tgt := 2) dX4_unfold_23 (by decide) ?_
  refine sv_iload_n (pc := 2) dX4_unfold_2 rfl rfl ?_
  refine sv_bipush (pc := 3) (v := 7) dX4_unfold_3 (by decide) ?_
  refine sv_icmp_ge (pc := 5) (tgt := 26) dX4_unfold_5 (by decide) (fun _ => ?_) (fun h => absurd (by decide) h)
  refine sv_vret (pc := 26) dX4_unfold_26 rfl (le_t rfl) (le_t rfl) ?_
  refine sv_iconst (pc := 22) (v := 0) dX4_findRests_22 (by decide) ?_
  refine sv_istore_n (pc := 23) dX4_findRests_23 rfl (by decide) ?_
  refine sv_iload_n (pc := 24) dX4_findRests_24 rfl rfl ?_
  refine sv_aload_n (pc := 25) dX4_findRests_25 rfl rfl ?_
  refine sw_getfield (pc := 26) dX4_findRests_26 (gCX4 _ _ _ _ _) 9 (by decide) wF_X4_59 rfl rfl rfl ?_
  refine sv_icmp_ge (pc := 29) (tgt := 54) dX4_findRests_29 (by decide) (fun h => absurd h (by decide)) (fun _ => ?_)
  refine sv_aload_n (pc := 32) dX4_findRests_32 rfl rfl ?_
  refine sv_callV (pc := 33) (M' := mX4_isRest) (d' := 18) (C' := 0) (S' := 0) (av := []) ?_ (gOk _ _ _ _ _) dX4_findRests_33 (tX4_isRest _ _ _ _ _) ⟨wV_X4_isRest, wL_X4_isRest⟩ wM_X4_88 (gCX4 _ _ _ _ _) rfl (lt_t rfl) rfl ⟨le_t rfl, le_t rfl⟩ ⟨le_t rfl, le_t rfl⟩ rfl (le_t rfl) (fun _ _ h => h)
  refine sC.of rfl (by decide) (le_t rfl) ?_
  refine sv_iconst (pc := 0) (v := 1) dX4_isRest_0 (by decide) ?_
  refine sv_istore_n (pc := 1) dX4_isRest_1 rfl (by decide) ?_
  refine sv_iload_n (pc := 2) dX4_isRest_2 rfl rfl ?_
  refine sv_bipush (pc := 3) (v := 7) dX4_isRest_3 (by decide) ?_
  refine sv_icmp_ge (pc := 5) (tgt := 30) dX4_isRest_5 (by decide) (fun h => absurd h (by decide)) (fun _ => ?_)
  refine sv_aload_n (pc := 8) dX4_isRest_8 rfl rfl ?_
  refine sw_getfield (pc := 9) dX4_isRest_9 (gCX4 _ _ _ _ _) 5 (by decide) wF_X4_30 rfl rfl rfl ?_
  refine sv_iload_n (pc := 12) dX4_isRest_12 rfl rfl ?_
  refine sw_iaload (pc := 13) (k := 1) (v := .int 0) dX4_isRest_13 rfl rfl rfl (by decide) (by decide) rfl rfl ?_
  refine sv_aload_n (pc := 14) dX4_isRest_14 rfl rfl ?_
  refine sv_iload_n (pc := 15) dX4_isRest_15 rfl rfl ?_
  refine sv_callV (pc := 16) (M' := mX4_actOf) (d' := 17) (C' := 0) (S' := 0) (av := [.int 1]) ?_ (gOk _ _ _ _ _) dX4_isRest_16 (tX4_actOf _ _ _ _ _) ⟨wV_X4_actOf, wL_X4_actOf⟩ wM_X4_71 (gCX4 _ _ _ _ _) rfl (lt_t rfl) rfl ⟨le_t rfl, le_t rfl⟩ ⟨le_t rfl, le_t rfl⟩ rfl (le_t rfl) (fun _ _ h => h)
  refine sC.of rfl (by decide) (le_t rfl) ?_
  refine sv_iconst (pc := 0) (v := 0) dX4_actOf_0 (by decide) ?_
  refine sv_istore_n (pc := 1) dX4_actOf_1 rfl (by decide) ?_
  refine sv_iload_n (pc := 2) dX4_actOf_2 rfl rfl ?_
  refine sv_aload_n (pc := 3) dX4_actOf_3 rfl rfl ?_
  refine sw_getfield (pc := 4) dX4_actOf_4 (gCX4 _ _ _ _ _) 12 (by decide) wF_X4_11 rfl rfl rfl ?_
  refine sv_iload_n (pc := 7) dX4_actOf_7 rfl rfl ?_
  refine sw_iaload (pc := 8) (k := 1) (v := .int 0) dX4_actOf_8 rfl rfl rfl (by decide) (by decide) rfl rfl ?_
  refine sv_icmp_ge (pc := 9) (tgt := 55) dX4_actOf_9 (by decide) (fun _ => ?_) (fun h => absurd (by decide) h)
  refine sv_aload_n (pc := 55) dX4_actOf_55 rfl rfl ?_
  refine sw_getfield (pc := 56) dX4_actOf_56 (gCX4 _ _ _ _ _) 12 (by decide) wF_X4_11 rfl rfl rfl ?_
  refine sv_iload_n (pc := 59) dX4_actOf_59 rfl rfl ?_
  refine sw_iaload (pc := 60) (k := 1) (v := .int 0) dX4_actOf_60 rfl rfl rfl (by decide) (by decide) rfl rfl ?_
  refine sv_iret (pc := 61) dX4_actOf_61 rfl (le_t rfl) (le_t rfl) ?_
  refine sv_icmp_eq (pc := 19) (tgt := 24) dX4_isRest_19 (by decide) (fun _ => ?_) (fun h => absurd (by decide) h)
  refine sw_iinc (pc := 24) (v := 2) dX4_isRest_24 rfl (by decide) (by decide) ?_
  refine sv_goto (pc := 27) (tgt := 2) dX4_isRest_27 (by decide) ?_
  refine sv_iload_n (pc := 2) dX4_isRest_2 rfl rfl ?_
  refine sv_bipush (pc := 3) (v := 7) dX4_isRest_3 (by decide) ?_
  refine sv_icmp_ge (pc := 5) (tgt := 30) dX4_isRest_5 (by decide) (fun h => absurd h (by decide)) (fun _ => ?_)
  refine sv_aload_n (pc := 8) dX4_isRest_8 rfl rfl ?_
  refine sw_getfield (pc := 9) dX4_isRest_9 (gCX4 _ _ _ _ _) 5 (by decide) wF_X4_30 rfl rfl rfl ?_
  refine sv_iload_n (pc := 12) dX4_isRest_12 rfl rfl ?_
  refine sw_iaload (pc := 13) (k := 2) (v := .int 0) dX4_isRest_13 rfl rfl rfl (by decide) (by decide) rfl rfl ?_
  refine sv_aload_n (pc := 14) dX4_isRest_14 rfl rfl ?_
  refine sv_iload_n (pc := 15) dX4_isRest_15 rfl rfl ?_
  refine sv_callV (pc := 16) (M' := mX4_actOf) (d' := 17) (C' := 0) (S' := 0) (av := [.int 2]) ?_ (gOk _ _ _ _ _) dX4_isRest_16 (tX4_actOf _ _ _ _ _) ⟨wV_X4_actOf, wL_X4_actOf⟩ wM_X4_71 (gCX4 _ _ _ _ _) rfl (lt_t rfl) rfl ⟨le_t rfl, le_t rfl⟩ ⟨le_t rfl, le_t rfl⟩ rfl (le_t rfl) (fun _ _ h => h)
  refine sC.of rfl (by decide) (le_t rfl) ?_
  refine sv_iconst (pc := 0) (v := 0) dX4_actOf_0 (by decide) ?_
  refine sv_istore_n (pc := 1) dX4_actOf_1 rfl (by decide) ?_
  refine sv_iload_n (pc := 2) dX4_actOf_2 rfl rfl ?_
  refine sv_aload_n (pc := 3) dX4_actOf_3 rfl rfl ?_
  refine sw_getfield (pc := 4) dX4_actOf_4 (gCX4 _ _ _ _ _) 12 (by decide) wF_X4_11 rfl rfl rfl ?_
  refine sv_iload_n (pc := 7) dX4_actOf_7 rfl rfl ?_
  refine sw_iaload (pc := 8) (k := 2) (v := .int 0) dX4_actOf_8 rfl rfl rfl (by decide) (by decide) rfl rfl ?_
  refine sv_icmp_ge (pc := 9) (tgt := 55) dX4_actOf_9 (by decide) (fun _ => ?_) (fun h => absurd (by decide) h)
  refine sv_aload_n (pc := 55) dX4_actOf_55 rfl rfl ?_
  refine sw_getfield (pc := 56) dX4_actOf_56 (gCX4 _ _ _ _ _) 12 (by decide) wF_X4_11 rfl rfl rfl ?_
  refine sv_iload_n (pc := 59) dX4_actOf_59 rfl rfl ?_
  refine sw_iaload (pc := 60) (k := 2) (v := .int 0) dX4_actOf_60 rfl rfl rfl (by decide) (by decide) rfl rfl ?_
  refine sv_iret (pc := 61) dX4_actOf_61 rfl (le_t rfl) (le_t rfl) ?_
  refine sv_icmp_eq (pc := 19) (tgt := 24) dX4_isRest_19 (by decide) (fun _ => ?_) (fun h => absurd (by decide) h)
  refine sw_iinc (pc := 24) (v := 3) dX4_isRest_24 rfl (by decide) (by decide) ?_
  refine sv_goto (pc := 27) (tgt := 2) dX4_isRest_27 (by decide) ?_
  refine sv_iload_n (pc := 2) dX4_isRest_2 rfl rfl ?_
  refine sv_bipush (pc := 3) (v := 7) dX4_isRest_3 (by decide) ?_
  refine sv_icmp_ge (pc := 5) (tgt := 30) dX4_isRest_5 (by decide) (fun h => absurd h (by decide)) (fun _ => ?_)
  refine sv_aload_n (pc := 8) dX4_isRest_8 rfl rfl ?_
  refine sw_getfield (pc := 9) dX4_isRest_9 (gCX4 _ _ _ _ _) 5 (by decide) wF_X4_30 rfl rfl rfl ?_
  refine sv_iload_n (pc := 12) dX4_isRest_12 rfl rfl ?_
  refine sw_iaload (pc := 13) (k := 3) (v := .int 0) dX4_isRest_13 rfl rfl rfl (by decide) (by decide) rfl rfl ?_
  refine sv_aload_n (pc := 14) dX4_isRest_14 rfl rfl ?_
  refine sv_iload_n (pc := 15) dX4_isRest_15 rfl rfl ?_
  refine sv_callV (pc := 16) (M' := mX4_actOf) (d' := 17) (C' := 0) (S' := 0) (av := [.int 3]) ?_ (gOk _ _ _ _ _) dX4_isRest_16 (tX4_actOf _ _ _ _ _) ⟨wV_X4_actOf, wL_X4_actOf⟩ wM_X4_71 (gCX4 _ _ _ _ _) rfl (lt_t rfl) rfl ⟨le_t rfl, le_t rfl⟩ ⟨le_t rfl, le_t rfl⟩ rfl (le_t rfl) (fun _ _ h => h)
  refine sC.of rfl (by decide) (le_t rfl) ?_
  refine sv_iconst (pc := 0) (v := 0) dX4_actOf_0 (by decide) ?_
  refine sv_istore_n (pc := 1) dX4_actOf_1 rfl (by decide) ?_
  refine sv_iload_n (pc := 2) dX4_actOf_2 rfl rfl ?_
  refine sv_aload_n (pc := 3) dX4_actOf_3 rfl rfl ?_
  refine sw_getfield (pc := 4) dX4_actOf_4 (gCX4 _ _ _ _ _) 12 (by decide) wF_X4_11 rfl rfl rfl ?_
  refine sv_iload_n (pc := 7) dX4_actOf_7 rfl rfl ?_
  refine sw_iaload (pc := 8) (k := 3) (v := .int 0) dX4_actOf_8 rfl rfl rfl (by decide) (by decide) rfl rfl ?_
  refine sv_icmp_ge (pc := 9) (tgt := 55) dX4_actOf_9 (by decide) (fun _ => ?_) (fun h => absurd (by decide) h)
  refine sv_aload_n (pc := 55) dX4_actOf_55 rfl rfl ?_
  refine sw_getfield (pc := 56) dX4_actOf_56 (gCX4 _ _ _ _ _) 12 (by decide) wF_X4_11 rfl rfl rfl ?_
  refine sv_iload_n (pc := 59) dX4_actOf_59 rfl rfl ?_
  refine sw_iaload (pc := 60) (k := 3) (v := .int 0) dX4_actOf_60 rfl rfl rfl (by decide) (by decide) rfl rfl ?_
  refine sv_iret (pc := 61) dX4_actOf_61 rfl (le_t rfl) (le_t rfl) ?_
  refine sv_icmp_eq (pc := 19) (tgt := 24) dX4_isRest_19 (by decide) (fun _ => ?_) (fun h => absurd (by decide) h)
  refine sw_iinc (pc := 24) (v := 4) dX4_isRest_24 rfl (by decide) (by decide) ?_
  refine sv_goto (pc := 27) (tgt := 2) dX4_isRest_27 (by decide) ?_
  refine sv_iload_n (pc := 2) dX4_isRest_2 rfl rfl ?_
  refine sv_bipush (pc := 3) (v := 7) dX4_isRest_3 (by decide) ?_
  refine sv_icmp_ge (pc := 5) (tgt := 30) dX4_isRest_5 (by decide) (fun h => absurd h (by decide)) (fun _ => ?_)
  refine sv_aload_n (pc := 8) dX4_isRest_8 rfl rfl ?_
  refine sw_getfield (pc := 9) dX4_isRest_9 (gCX4 _ _ _ _ _) 5 (by decide) wF_X4_30 rfl rfl rfl ?_
  refine sv_iload_n (pc := 12) dX4_isRest_12 rfl rfl ?_
  refine sw_iaload (pc := 13) (k := 4) (v := .int 0) dX4_isRest_13 rfl rfl rfl (by decide) (by decide) rfl rfl ?_
  refine sv_aload_n (pc := 14) dX4_isRest_14 rfl rfl ?_
  refine sv_iload_n (pc := 15) dX4_isRest_15 rfl rfl ?_
  refine sv_callV (pc := 16) (M' := mX4_actOf) (d' := 17) (C' := 0) (S' := 0) (av := [.int 4]) ?_ (gOk _ _ _ _ _) dX4_isRest_16 (tX4_actOf _ _ _ _ _) ⟨wV_X4_actOf, wL_X4_actOf⟩ wM_X4_71 (gCX4 _ _ _ _ _) rfl (lt_t rfl) rfl ⟨le_t rfl, le_t rfl⟩ ⟨le_t rfl, le_t rfl⟩ rfl (le_t rfl) (fun _ _ h => h)
  refine sC.of rfl (by decide) (le_t rfl) ?_
  refine sv_iconst (pc := 0) (v := 0) dX4_actOf_0 (by decide) ?_
  refine sv_istore_n (pc := 1) dX4_actOf_1 rfl (by decide) ?_
  refine sv_iload_n (pc := 2) dX4_actOf_2 rfl rfl ?_
  refine sv_aload_n (pc := 3) dX4_actOf_3 rfl rfl ?_
  refine sw_getfield (pc := 4) dX4_actOf_4 (gCX4 _ _ _ _ _) 12 (by decide) wF_X4_11 rfl rfl rfl ?_
  refine sv_iload_n (pc := 7) dX4_actOf_7 rfl rfl ?_
  refine sw_iaload (pc := 8) (k := 4) (v := .int 0) dX4_actOf_8 rfl rfl rfl (by decide) (by decide) rfl rfl ?_
  refine sv_icmp_ge (pc := 9) (tgt := 55) dX4_actOf_9 (by decide) (fun _ => ?_) (fun h => absurd (by decide) h)
  refine sv_aload_n (pc := 55) dX4_actOf_55 rfl rfl ?_
  refine sw_getfield (pc := 56) dX4_actOf_56 (gCX4 _ _ _ _ _) 12 (by decide) wF_X4_11 rfl rfl rfl ?_
  refine sv_iload_n (pc := 59) dX4_actOf_59 rfl rfl ?_
  refine sw_iaload (pc := 60) (k := 4) (v := .int 0) dX4_actOf_60 rfl rfl rfl (by decide) (by decide) rfl rfl ?_
  refine sv_iret (pc := 61) dX4_actOf_61 rfl (le_t rfl) (le_t rfl) ?_
  refine sv_icmp_eq (pc := 19) (tgt := 24) dX4_isRest_19 (by decide) (fun _ => ?_) (fun h => absurd (by decide) h)
  refine sw_iinc (pc := 24) (v := 5) dX4_isRest_24 rfl (by decide) (by decide) ?_
  refine sv_goto (pc := 27) (tgt := 2) dX4_isRest_27 (by decide) ?_
  refine sv_iload_n (pc := 2) dX4_isRest_2 rfl rfl ?_
  refine sv_bipush (pc := 3) (v := 7) dX4_isRest_3 (by decide) ?_
  refine sv_icmp_ge (pc := 5) (tgt := 30) dX4_isRest_5 (by decide) (fun h => absurd h (by decide)) (fun _ => ?_)
  refine sv_aload_n (pc := 8) dX4_isRest_8 rfl rfl ?_
  refine sw_getfield (pc := 9) dX4_isRest_9 (gCX4 _ _ _ _ _) 5 (by decide) wF_X4_30 rfl rfl rfl ?_
  refine sv_iload_n (pc := 12) dX4_isRest_12 rfl rfl ?_
  refine sw_iaload (pc := 13) (k := 5) (v := .int 0) dX4_isRest_13 rfl rfl rfl (by decide) (by decide) rfl rfl ?_
  refine sv_aload_n (pc := 14) dX4_isRest_14 rfl rfl ?_
  refine sv_iload_n (pc := 15) dX4_isRest_15 rfl rfl ?_
  refine sv_callV (pc := 16) (M' := mX4_actOf) (d' := 17) (C' := 0) (S' := 0) (av := [.int 5]) ?_ (gOk _ _ _ _ _) dX4_isRest_16 (tX4_actOf _ _ _ _ _) ⟨wV_X4_actOf, wL_X4_actOf⟩ wM_X4_71 (gCX4 _ _ _ _ _) rfl (lt_t rfl) rfl ⟨le_t rfl, le_t rfl⟩ ⟨le_t rfl, le_t rfl⟩ rfl (le_t rfl) (fun _ _ h => h)
  refine sC.of rfl (by decide) (le_t rfl) ?_
  refine sv_iconst (pc := 0) (v := 0) dX4_actOf_0 (by decide) ?_
  refine sv_istore_n (pc := 1) dX4_actOf_1 rfl (by decide) ?_
  refine sv_iload_n (pc := 2) dX4_actOf_2 rfl rfl ?_
  refine sv_aload_n (pc := 3) dX4_actOf_3 rfl rfl ?_
  refine sw_getfield (pc := 4) dX4_actOf_4 (gCX4 _ _ _ _ _) 12 (by decide) wF_X4_11 rfl rfl rfl ?_
  refine sv_iload_n (pc := 7) dX4_actOf_7 rfl rfl ?_
  refine sw_iaload (pc := 8) (k := 5) (v := .int 0) dX4_actOf_8 rfl rfl rfl (by decide) (by decide) rfl rfl ?_
  refine sv_icmp_ge (pc := 9) (tgt := 55) dX4_actOf_9 (by decide) (fun _ => ?_) (fun h => absurd (by decide) h)
  refine sv_aload_n (pc := 55) dX4_actOf_55 rfl rfl ?_
  refine sw_getfield (pc := 56) dX4_actOf_56 (gCX4 _ _ _ _ _) 12 (by decide) wF_X4_11 rfl rfl rfl ?_
  refine sv_iload_n (pc := 59) dX4_actOf_59 rfl rfl ?_
  refine sw_iaload (pc := 60) (k := 5) (v := .int 0) dX4_actOf_60 rfl rfl rfl (by decide) (by decide) rfl rfl ?_
  refine sv_iret (pc := 61) dX4_actOf_61 rfl (le_t rfl) (le_t rfl) ?_
  refine sv_icmp_eq (pc := 19) (tgt := 24) dX4_isRest_19 (by decide) (fun _ => ?_) (fun h => absurd (by decide) h)
  refine sw_iinc (pc := 24) (v := 6) dX4_isRest_24 rfl (by decide) (by decide) ?_
  refine sv_goto (pc := 27) (tgt := 2) dX4_isRest_27 (by decide) ?_
  refine sv_iload_n (pc := 2) dX4_isRest_2 rfl rfl ?_
  refine sv_bipush (pc := 3) (v := 7) dX4_isRest_3 (by decide) ?_
  refine sv_icmp_ge (pc := 5) (tgt := 30) dX4_isRest_5 (by decide) (fun h => absurd h (by decide)) (fun _ => ?_)
  refine sv_aload_n (pc := 8) dX4_isRest_8 rfl rfl ?_
  refine sw_getfield (pc := 9) dX4_isRest_9 (gCX4 _ _ _ _ _) 5 (by decide) wF_X4_30 rfl rfl rfl ?_
  refine sv_iload_n (pc := 12) dX4_isRest_12 rfl rfl ?_
  refine sw_iaload (pc := 13) (k := 6) (v := .int 0) dX4_isRest_13 rfl rfl rfl (by decide) (by decide) rfl rfl ?_
  refine sv_aload_n (pc := 14) dX4_isRest_14 rfl rfl ?_
  refine sv_iload_n (pc := 15) dX4_isRest_15 rfl rfl ?_
  refine sv_callV (pc := 16) (M' := mX4_actOf) (d' := 17) (C' := 0) (S' := 0) (av := [.int 6]) ?_ (gOk _ _ _ _ _) dX4_isRest_16 (tX4_actOf _ _ _ _ _) ⟨wV_X4_actOf, wL_X4_actOf⟩ wM_X4_71 (gCX4 _ _ _ _ _) rfl (lt_t rfl) rfl ⟨le_t rfl, le_t rfl⟩ ⟨le_t rfl, le_t rfl⟩ rfl (le_t rfl) (fun _ _ h => h)
  refine sC.of rfl (by decide) (le_t rfl) ?_
  refine sv_iconst (pc := 0) (v := 0) dX4_actOf_0 (by decide) ?_
  refine sv_istore_n (pc := 1) dX4_actOf_1 rfl (by decide) ?_
  refine sv_iload_n (pc := 2) dX4_actOf_2 rfl rfl ?_
  refine sv_aload_n (pc := 3) dX4_actOf_3 rfl rfl ?_
  refine sw_getfield (pc := 4) dX4_actOf_4 (gCX4 _ _ _ _ _) 12 (by decide) wF_X4_11 rfl rfl rfl ?_
  refine sv_iload_n (pc := 7) dX4_actOf_7 rfl rfl ?_
  refine sw_iaload (pc := 8) (k := 6) (v := .int 0) dX4_actOf_8 rfl rfl rfl (by decide) (by decide) rfl rfl ?_
  refine sv_icmp_ge (pc := 9) (tgt := 55) dX4_actOf_9 (by decide) (fun _ => ?_) (fun h => absurd (by decide) h)
  refine sv_aload_n (pc := 55) dX4_actOf_55 rfl rfl ?_
  refine sw_getfield (pc := 56) dX4_actOf_56 (gCX4 _ _ _ _ _) 12 (by decide) wF_X4_11 rfl rfl rfl ?_
  refine sv_iload_n (pc := 59) dX4_actOf_59 rfl rfl ?_
  refine sw_iaload (pc := 60) (k := 6) (v := .int 0) dX4_actOf_60 rfl rfl rfl (by decide) (by decide) rfl rfl ?_
  refine sv_iret (pc := 61) dX4_actOf_61 rfl (le_t rfl) (le_t rfl) ?_
  refine sv_icmp_eq (pc := 19) (tgt := 24) dX4_isRest_19 (by decide) (fun _ => ?_) (fun h => absurd (by decide) h)
  refine sw_iinc (pc := 24) (v := 7) dX4_isRest_24 rfl (by decide) (by decide) ?_
  refine sv_goto (pc := 27) (tgt := 2) dX4_isRest_27 (by decide) ?_
  refine sv_iload_n (pc := 2) dX4_isRest_2 rfl rfl ?_
  refine sv_bipush (pc := 3) (v := 7) dX4_isRest_3 (by decide) ?_
  refine sv_icmp_ge (pc := 5) (tgt := 30) dX4_isRest_5 (by decide) (fun _ => ?_) (fun h => absurd (by decide) h)
  refine sv_iconst (pc := 30) (v := 1) dX4_isRest_30 (by decide) ?_
  refine sv_zret (pc := 31) dX4_isRest_31 rfl (by decide) (le_t rfl) (le_t rfl) ?_
  refine sv_if_eq (pc := 36) (tgt := 44) dX4_findRests_36 (by decide) (fun h => absurd h (by decide)) (fun _ => ?_)
  refine sv_aload_n (pc := 39) dX4_findRests_39 rfl rfl ?_
  refine sv_iload_n (pc := 40) dX4_findRests_40 rfl rfl ?_
  refine sv_callV (pc := 41) (M' := mX4_keepRest) (d' := 18) (C' := 0) (S' := 0) (av := [.int 0]) ?_ (gOk _ _ _ _ _) dX4_findRests_41 (tX4_keepRest _ _ _ _ _) ⟨wV_X4_keepRest, wL_X4_keepRest⟩ wM_X4_92 (gCX4 _ _ _ _ _) rfl (lt_t rfl) rfl ⟨le_t rfl, le_t rfl⟩ ⟨le_t rfl, le_t rfl⟩ rfl (le_t rfl) (fun _ _ h => h)
  refine sC.of rfl (by decide) (le_t rfl) ?_
  refine sv_aload_n (pc := 0) dX4_keepRest_0 rfl rfl ?_
  refine sw_getfield (pc := 1) dX4_keepRest_1 (gCX4 _ _ _ _ _) 14 (by decide) wF_X4_82 rfl rfl rfl ?_
  refine sv_aload_n (pc := 4) dX4_keepRest_4 rfl rfl ?_
  refine sw_getfield (pc := 5) dX4_keepRest_5 (gCX4 _ _ _ _ _) 7 (by decide) wF_X4_36 rfl rfl rfl ?_
  refine sv_arraylength (pc := 8) (v := 16) (ty := .int) dX4_keepRest_8 rfl (lt_t rfl) rfl (by decide) ?_
  refine sv_icmp_lt (pc := 9) (tgt := 29) dX4_keepRest_9 (by decide) (fun _ => ?_) (fun h => absurd (by decide) h)
  refine sv_aload_n (pc := 29) dX4_keepRest_29 rfl rfl ?_
  refine sw_getfield (pc := 30) dX4_keepRest_30 (gCX4 _ _ _ _ _) 7 (by decide) wF_X4_36 rfl rfl rfl ?_
  refine sv_aload_n (pc := 33) dX4_keepRest_33 rfl rfl ?_
  refine sw_getfield (pc := 34) dX4_keepRest_34 (gCX4 _ _ _ _ _) 14 (by decide) wF_X4_82 rfl rfl rfl ?_
  refine sv_iload_n (pc := 37) dX4_keepRest_37 rfl rfl ?_
  refine sw_iastore (pc := 38) (k := 0) (v := .int 0) dX4_keepRest_38 rfl rfl rfl (by decide) (by decide) rfl rfl ?_
  refine sv_aload_n (pc := 39) dX4_keepRest_39 rfl rfl ?_
  refine sv_dup (pc := 40) dX4_keepRest_40 rfl ?_
  refine sw_getfield (pc := 41) dX4_keepRest_41 (gCX4 _ _ _ _ _) 14 (by decide) wF_X4_82 rfl rfl rfl ?_
  refine sv_iconst (pc := 44) (v := 1) dX4_keepRest_44 (by decide) ?_
  refine sw_iadd (pc := 45) (v := 1) dX4_keepRest_45 (by decide) ?_
  refine sw_putfield (pc := 46) dX4_keepRest_46 (gCX4 _ _ _ _ _) 14 (by decide) wF_X4_82 rfl rfl rfl (fun _ => rfl) (fun _ => rfl) rfl ?_
  refine sv_vret (pc := 49) dX4_keepRest_49 rfl (le_t rfl) (le_t rfl) ?_
  refine sv_aload_n (pc := 44) dX4_findRests_44 rfl rfl ?_
  refine sv_callV (pc := 45) (M' := mX4_countUp) (d' := 18) (C' := 0) (S' := 0) (av := []) ?_ (gOk _ _ _ _ _) dX4_findRests_45 (tX4_countUp _ _ _ _ _) ⟨wV_X4_countUp, wL_X4_countUp⟩ wM_X4_95 (gCX4 _ _ _ _ _) rfl (lt_t rfl) rfl ⟨le_t rfl, le_t rfl⟩ ⟨le_t rfl, le_t rfl⟩ rfl (le_t rfl) (fun _ _ h => h)
  refine sC.of rfl (by decide) (le_t rfl) ?_
  refine sv_bipush (pc := 0) (v := 6) dX4_countUp_0 (by decide) ?_
  refine sv_istore_n (pc := 2) dX4_countUp_2 rfl (by decide) ?_
  refine sv_iload_n (pc := 3) dX4_countUp_3 rfl rfl ?_
  refine sv_iconst (pc := 4) (v := 1) dX4_countUp_4 (by decide) ?_
  refine sv_icmp_le (pc := 5) (tgt := 36) dX4_countUp_5 (by decide) (fun h => absurd h (by decide)) (fun _ => ?_)
  refine sv_aload_n (pc := 8) dX4_countUp_8 rfl rfl ?_
  refine sw_getfield (pc := 9) dX4_countUp_9 (gCX4 _ _ _ _ _) 5 (by decide) wF_X4_30 rfl rfl rfl ?_
  refine sv_iload_n (pc := 12) dX4_countUp_12 rfl rfl ?_
  refine sw_iaload (pc := 13) (k := 6) (v := .int 0) dX4_countUp_13 rfl rfl rfl (by decide) (by decide) rfl rfl ?_
  refine sv_aload_n (pc := 14) dX4_countUp_14 rfl rfl ?_
  refine sw_getfield (pc := 15) dX4_countUp_15 (gCX4 _ _ _ _ _) 12 (by decide) wF_X4_11 rfl rfl rfl ?_
  refine sv_iload_n (pc := 18) dX4_countUp_18 rfl rfl ?_
  refine sw_iaload (pc := 19) (k := 6) (v := .int 0) dX4_countUp_19 rfl rfl rfl (by decide) (by decide) rfl rfl ?_
  refine sv_icmp_ne (pc := 20) (tgt := 36) dX4_countUp_20 (by decide) (fun h => absurd (by decide) h) (fun _ => ?_)
  refine sv_aload_n (pc := 23) dX4_countUp_23 rfl rfl ?_
  refine sw_getfield (pc := 24) dX4_countUp_24 (gCX4 _ _ _ _ _) 5 (by decide) wF_X4_30 rfl rfl rfl ?_
  refine sv_iload_n (pc := 27) dX4_countUp_27 rfl rfl ?_
  refine sv_iconst (pc := 28) (v := 0) dX4_countUp_28 (by decide) ?_
  refine sw_iastore (pc := 29) (k := 6) (v := .int 0) dX4_countUp_29 rfl rfl rfl (by decide) (by decide) rfl rfl ?_
  refine sw_iinc (pc := 30) (v := 5) dX4_countUp_30 rfl (by decide) (by decide) ?_
  refine sv_goto (pc := 33) (tgt := 3) dX4_countUp_33 (by decide) ?_
  refine sv_iload_n (pc := 3) dX4_countUp_3 rfl rfl ?_
  refine sv_iconst (pc := 4) (v := 1) dX4_countUp_4 (by decide) ?_
  refine sv_icmp_le (pc := 5) (tgt := 36) dX4_countUp_5 (by decide) (fun h => absurd h (by decide)) (fun _ => ?_)
  refine sv_aload_n (pc := 8) dX4_countUp_8 rfl rfl ?_
  refine sw_getfield (pc := 9) dX4_countUp_9 (gCX4 _ _ _ _ _) 5 (by decide) wF_X4_30 rfl rfl rfl ?_
  refine sv_iload_n (pc := 12) dX4_countUp_12 rfl rfl ?_
  refine sw_iaload (pc := 13) (k := 5) (v := .int 0) dX4_countUp_13 rfl rfl rfl (by decide) (by decide) rfl rfl ?_
  refine sv_aload_n (pc := 14) dX4_countUp_14 rfl rfl ?_
  refine sw_getfield (pc := 15) dX4_countUp_15 (gCX4 _ _ _ _ _) 12 (by decide) wF_X4_11 rfl rfl rfl ?_
  refine sv_iload_n (pc := 18) dX4_countUp_18 rfl rfl ?_
  refine sw_iaload (pc := 19) (k := 5) (v := .int 0) dX4_countUp_19 rfl rfl rfl (by decide) (by decide) rfl rfl ?_
  refine sv_icmp_ne (pc := 20) (tgt := 36) dX4_countUp_20 (by decide) (fun h => absurd (by decide) h) (fun _ => ?_)
  refine sv_aload_n (pc := 23) dX4_countUp_23 rfl rfl ?_
  refine sw_getfield (pc := 24) dX4_countUp_24 (gCX4 _ _ _ _ _) 5 (by decide) wF_X4_30 rfl rfl rfl ?_
  refine sv_iload_n (pc := 27) dX4_countUp_27 rfl rfl ?_
  refine sv_iconst (pc := 28) (v := 0) dX4_countUp_28 (by decide) ?_
  refine sw_iastore (pc := 29) (k := 5) (v := .int 0) dX4_countUp_29 rfl rfl rfl (by decide) (by decide) rfl rfl ?_
  refine sw_iinc (pc := 30) (v := 4) dX4_countUp_30 rfl (by decide) (by decide) ?_
  refine sv_goto (pc := 33) (tgt := 3) dX4_countUp_33 (by decide) ?_
  refine sv_iload_n (pc := 3) dX4_countUp_3 rfl rfl ?_
  refine sv_iconst (pc := 4) (v := 1) dX4_countUp_4 (by decide) ?_
  refine sv_icmp_le (pc := 5) (tgt := 36) dX4_countUp_5 (by decide) (fun h => absurd h (by decide)) (fun _ => ?_)
  refine sv_aload_n (pc := 8) dX4_countUp_8 rfl rfl ?_
  refine sw_getfield (pc := 9) dX4_countUp_9 (gCX4 _ _ _ _ _) 5 (by decide) wF_X4_30 rfl rfl rfl ?_
  refine sv_iload_n (pc := 12) dX4_countUp_12 rfl rfl ?_
  refine sw_iaload (pc := 13) (k := 4) (v := .int 0) dX4_countUp_13 rfl rfl rfl (by decide) (by decide) rfl rfl ?_
  refine sv_aload_n (pc := 14) dX4_countUp_14 rfl rfl ?_
  refine sw_getfield (pc := 15) dX4_countUp_15 (gCX4 _ _ _ _ _) 12 (by decide) wF_X4_11 rfl rfl rfl ?_
  refine sv_iload_n (pc := 18) dX4_countUp_18 rfl rfl ?_
  refine sw_iaload (pc := 19) (k := 4) (v := .int 0) dX4_countUp_19 rfl rfl rfl (by decide) (by decide) rfl rfl ?_
  refine sv_icmp_ne (pc := 20) (tgt := 36) dX4_countUp_20 (by decide) (fun h => absurd (by decide) h) (fun _ => ?_)
  refine sv_aload_n (pc := 23) dX4_countUp_23 rfl rfl ?_
  refine sw_getfield (pc := 24) dX4_countUp_24 (gCX4 _ _ _ _ _) 5 (by decide) wF_X4_30 rfl rfl rfl ?_
  refine sv_iload_n (pc := 27) dX4_countUp_27 rfl rfl ?_
  refine sv_iconst (pc := 28) (v := 0) dX4_countUp_28 (by decide) ?_
  refine sw_iastore (pc := 29) (k := 4) (v := .int 0) dX4_countUp_29 rfl rfl rfl (by decide) (by decide) rfl rfl ?_
  refine sw_iinc (pc := 30) (v := 3) dX4_countUp_30 rfl (by decide) (by decide) ?_
  refine sv_goto (pc := 33) (tgt := 3) dX4_countUp_33 (by decide) ?_
  refine sv_iload_n (pc := 3) dX4_countUp_3 rfl rfl ?_
  refine sv_iconst (pc := 4) (v := 1) dX4_countUp_4 (by decide) ?_
  refine sv_icmp_le (pc := 5) (tgt := 36) dX4_countUp_5 (by decide) (fun h => absurd h (by decide)) (fun _ => ?_)
  refine sv_aload_n (pc := 8) dX4_countUp_8 rfl rfl ?_
  refine sw_getfield (pc := 9) dX4_countUp_9 (gCX4 _ _ _ _ _) 5 (by decide) wF_X4_30 rfl rfl rfl ?_
  refine sv_iload_n (pc := 12) dX4_countUp_12 rfl rfl ?_
  refine sw_iaload (pc := 13) (k := 3) (v := .int 0) dX4_countUp_13 rfl rfl rfl (by decide) (by decide) rfl rfl ?_
  refine sv_aload_n (pc := 14) dX4_countUp_14 rfl rfl ?_
  refine sw_getfield (pc := 15) dX4_countUp_15 (gCX4 _ _ _ _ _) 12 (by decide) wF_X4_11 rfl rfl rfl ?_
  refine sv_iload_n (pc := 18) dX4_countUp_18 rfl rfl ?_
  refine sw_iaload (pc := 19) (k := 3) (v := .int 0) dX4_countUp_19 rfl rfl rfl (by decide) (by decide) rfl rfl ?_
  refine sv_icmp_ne (pc := 20) (tgt := 36) dX4_countUp_20 (by decide) (fun h => absurd (by decide) h) (fun _ => ?_)
  refine sv_aload_n (pc := 23) dX4_countUp_23 rfl rfl ?_
  refine sw_getfield (pc := 24) dX4_countUp_24 (gCX4 _ _ _ _ _) 5 (by decide) wF_X4_30 rfl rfl rfl ?_
  refine sv_iload_n (pc := 27) dX4_countUp_27 rfl rfl ?_
  refine sv_iconst (pc := 28) (v := 0) dX4_countUp_28 (by decide) ?_
  refine sw_iastore (pc := 29) (k := 3) (v := .int 0) dX4_countUp_29 rfl rfl rfl (by decide) (by decide) rfl rfl ?_
  refine sw_iinc (pc := 30) (v := 2) dX4_countUp_30 rfl (by decide) (by decide) ?_
  refine sv_goto (pc := 33) (tgt := 3) dX4_countUp_33 (by decide) ?_
  refine sv_iload_n (pc := 3) dX4_countUp_3 rfl rfl ?_
  refine sv_iconst (pc := 4) (v := 1) dX4_countUp_4 (by decide) ?_
  refine sv_icmp_le (pc := 5) (tgt := 36) dX4_countUp_5 (by decide) (fun h => absurd h (by decide)) (fun _ => ?_)
  refine sv_aload_n (pc := 8) dX4_countUp_8 rfl rfl ?_
  refine sw_getfield (pc := 9) dX4_countUp_9 (gCX4 _ _ _ _ _) 5 (by decide) wF_X4_30 rfl rfl rfl ?_
  refine sv_iload_n (pc := 12) dX4_countUp_12 rfl rfl ?_
  refine sw_iaload (pc := 13) (k := 2) (v := .int 0) dX4_countUp_13 rfl rfl rfl (by decide) (by decide) rfl rfl ?_
  refine sv_aload_n (pc := 14) dX4_countUp_14 rfl rfl ?_
  refine sw_getfield (pc := 15) dX4_countUp_15 (gCX4 _ _ _ _ _) 12 (by decide) wF_X4_11 rfl rfl rfl ?_
  refine sv_iload_n (pc := 18) dX4_countUp_18 rfl rfl ?_
  refine sw_iaload (pc := 19) (k := 2) (v := .int 0) dX4_countUp_19 rfl rfl rfl (by decide) (by decide) rfl rfl ?_
  refine sv_icmp_ne (pc := 20) (tgt := 36) dX4_countUp_20 (by decide) (fun h => absurd (by decide) h) (fun _ => ?_)
  refine sv_aload_n (pc := 23) dX4_countUp_23 rfl rfl ?_
  refine sw_getfield (pc := 24) dX4_countUp_24 (gCX4 _ _ _ _ _) 5 (by decide) wF_X4_30 rfl rfl rfl ?_
  refine sv_iload_n (pc := 27) dX4_countUp_27 rfl rfl ?_
  refine sv_iconst (pc := 28) (v := 0) dX4_countUp_28 (by decide) ?_
  refine sw_iastore (pc := 29) (k := 2) (v := .int 0) dX4_countUp_29 rfl rfl rfl (by decide) (by decide) rfl rfl ?_
  refine sw_iinc (pc := 30) (v := 1) dX4_countUp_30 rfl (by decide) (by decide) ?_
  refine sv_goto (pc := 33) (tgt := 3) dX4_countUp_33 (by decide) ?_
  refine sv_iload_n (pc := 3) dX4_countUp_3 rfl rfl ?_
  refine sv_iconst (pc := 4) (v := 1) dX4_countUp_4 (by decide) ?_
  refine sv_icmp_le (pc := 5) (tgt := 36) dX4_countUp_5 (by decide) (fun _ => ?_) (fun h => absurd (by decide) h)
  refine sv_aload_n (pc := 36) dX4_countUp_36 rfl rfl ?_
  refine sw_getfield (pc := 37) dX4_countUp_37 (gCX4 _ _ _ _ _) 5 (by decide) wF_X4_30 rfl rfl rfl ?_
  refine sv_iload_n (pc := 40) dX4_countUp_40 rfl rfl ?_
  refine sv_dup2 (pc := 41) dX4_countUp_41 rfl rfl ?_
  refine sw_iaload (pc := 42) (k := 1) (v := .int 0) dX4_countUp_42 rfl rfl rfl (by decide) (by decide) rfl rfl ?_
  refine sv_iconst (pc := 43) (v := 1) dX4_countUp_43 (by decide) ?_
  refine sw_iadd (pc := 44) (v := 1) dX4_countUp_44 (by decide) ?_
  refine sw_iastore (pc := 45) (k := 1) (v := .int 1) dX4_countUp_45 rfl rfl rfl (by decide) (by decide) rfl rfl ?_
  refine sv_vret (pc := 46) dX4_countUp_46 rfl (le_t rfl) (le_t rfl) ?_
  refine sw_iinc (pc := 48) (v := 1) dX4_findRests_48 rfl (by decide) (by decide) ?_
  refine sv_goto (pc := 51) (tgt := 24) dX4_findRests_51 (by decide) ?_
  refine sv_iload_n (pc := 24) dX4_findRests_24 rfl rfl ?_
  refine sv_aload_n (pc := 25) dX4_findRests_25 rfl rfl ?_
  refine sw_getfield (pc := 26) dX4_findRests_26 (gCX4 _ _ _ _ _) 9 (by decide) wF_X4_59 rfl rfl rfl ?_
  refine sv_icmp_ge (pc := 29) (tgt := 54) dX4_findRests_29 (by decide) (fun _ => ?_) (fun h => absurd (by decide) h)
  refine sv_aload_n (pc := 54) dX4_findRests_54 rfl rfl ?_
  refine sv_iconst (pc := 55) (v := 1) dX4_findRests_55 (by decide) ?_
  refine sw_putfield (pc := 56) dX4_findRests_56 (gCX4 _ _ _ _ _) 10 (by decide) wF_X4_52 rfl rfl rfl (fun _ => rfl) (fun _ => rfl) rfl ?_
  refine sv_vret (pc := 59) dX4_findRests_59 rfl (le_t rfl) (le_t rfl) ?_
  refine sv_iload_n (pc := 7) dX11_rest_7 rfl rfl ?_
  refine sv_if_lt (pc := 8) (tgt := 33) dX11_rest_8 (by decide) (fun h_1 => ?_) (fun h_1 => ?_)
  · refine sv_iconst (pc := 33) (v := (-1)) dX11_rest_33 (by decide) ?_
    refine sv_iret (pc := 34) dX11_rest_34 rfl (le_t rfl) (le_t rfl) ?_
    refine sv_aload_n (pc := 1734) dL_law_1734 rfl rfl ?_
    refine sv_aload_nS (pc := 1735) dL_law_1735 rfl rfl ?_
    refine sv_iload_n (pc := 1736) dL_law_1736 rfl rfl ?_
    refine sv_iconst (pc := 1737) (v := 1) dL_law_1737 (by decide) ?_
    refine sw_iadd (pc := 1738) (v := 1) dL_law_1738 (by decide) ?_
    refine sw_sld (pc := 1739) (v := x1) dL_law_1739 (k := 1) (by decide) (by decide) rfl hx1 ?_
    refine sv_aload_nS (pc := 1740) dL_law_1740 rfl rfl ?_
    refine sv_iload_n (pc := 1741) dL_law_1741 rfl rfl ?_
    refine sv_iconst (pc := 1742) (v := 2) dL_law_1742 (by decide) ?_
    refine sw_iadd (pc := 1743) (v := 2) dL_law_1743 (by decide) ?_
    refine sw_sld (pc := 1744) (v := x2) dL_law_1744 (k := 2) (by decide) (by decide) rfl hx2 ?_
    refine sv_callV (pc := 1745) (M' := mX12_rest) (d' := 20) (C' := 0) (S' := 0) (av := [.int x1, .int x2]) ?_ (gOk _ _ _ _ _) dL_law_1745 (tX12_rest _ _ _ _ _) ⟨wV_X12_rest, wL_X12_rest⟩ wM_DomainHouseLaw_206 (gCX12 _ _ _ _ _) rfl (lt_t rfl) rfl ⟨le_t rfl, le_t rfl⟩ ⟨le_t rfl, le_t rfl⟩ rfl (le_t rfl) (fun _ _ h => h)
    refine sC.of rfl (by decide) (le_t rfl) ?_
    refine sv_iload_n (pc := 0) dX12_rest_0 rfl rfl ?_
    refine sv_if_lt (pc := 1) (tgt := 14) dX12_rest_1 (by decide) (fun _ => ?_) (fun h => absurd h_1 h)
    refine sv_iconst (pc := 14) (v := (-1)) dX12_rest_14 (by decide) ?_
    refine sv_iret (pc := 15) dX12_rest_15 rfl (le_t rfl) (le_t rfl) ?_
    refine sv_icmp_eq (pc := 1748) (tgt := 1799) dL_law_1748 (by decide) (fun _ => ?_) (fun h => absurd (by decide) h)
    exact kk _ _ _ (le_t rfl) (le_t rfl)
  refine sv_iload_n (pc := 11) dX11_rest_11 rfl rfl ?_
  refine sv_aload_n (pc := 12) dX11_rest_12 rfl rfl ?_
  refine sw_getfield (pc := 13) dX11_rest_13 (gCX11 _ _ _ _ _) 9 (by decide) wF_X11_72 rfl rfl rfl ?_
  refine sw_getfield (pc := 16) dX11_rest_16 (gCX4 _ _ _ _ _) 14 (by decide) wF_X11_414 rfl rfl rfl ?_
  refine sv_icmp_ge (pc := 19) (tgt := 33) dX11_rest_19 (by decide) (fun h_2 => ?_) (fun h_2 => ?_)
  · refine sv_iconst (pc := 33) (v := (-1)) dX11_rest_33 (by decide) ?_
    refine sv_iret (pc := 34) dX11_rest_34 rfl (le_t rfl) (le_t rfl) ?_
    refine sv_aload_n (pc := 1734) dL_law_1734 rfl rfl ?_
    refine sv_aload_nS (pc := 1735) dL_law_1735 rfl rfl ?_
    refine sv_iload_n (pc := 1736) dL_law_1736 rfl rfl ?_
    refine sv_iconst (pc := 1737) (v := 1) dL_law_1737 (by decide) ?_
    refine sw_iadd (pc := 1738) (v := 1) dL_law_1738 (by decide) ?_
    refine sw_sld (pc := 1739) (v := x1) dL_law_1739 (k := 1) (by decide) (by decide) rfl hx1 ?_
    refine sv_aload_nS (pc := 1740) dL_law_1740 rfl rfl ?_
    refine sv_iload_n (pc := 1741) dL_law_1741 rfl rfl ?_
    refine sv_iconst (pc := 1742) (v := 2) dL_law_1742 (by decide) ?_
    refine sw_iadd (pc := 1743) (v := 2) dL_law_1743 (by decide) ?_
    refine sw_sld (pc := 1744) (v := x2) dL_law_1744 (k := 2) (by decide) (by decide) rfl hx2 ?_
    refine sv_callV (pc := 1745) (M' := mX12_rest) (d' := 20) (C' := 0) (S' := 0) (av := [.int x1, .int x2]) ?_ (gOk _ _ _ _ _) dL_law_1745 (tX12_rest _ _ _ _ _) ⟨wV_X12_rest, wL_X12_rest⟩ wM_DomainHouseLaw_206 (gCX12 _ _ _ _ _) rfl (lt_t rfl) rfl ⟨le_t rfl, le_t rfl⟩ ⟨le_t rfl, le_t rfl⟩ rfl (le_t rfl) (fun _ _ h => h)
    refine sC.of rfl (by decide) (le_t rfl) ?_
    refine sv_iload_n (pc := 0) dX12_rest_0 rfl rfl ?_
    refine sv_if_lt (pc := 1) (tgt := 14) dX12_rest_1 (by decide) (fun h => absurd h h_1) (fun _ => ?_)
    refine sv_iload_n (pc := 4) dX12_rest_4 rfl rfl ?_
    refine sv_iconst (pc := 5) (v := 1) dX12_rest_5 (by decide) ?_
    refine sv_bipush (pc := 6) (v := 6) dX12_rest_6 (by decide) ?_
    refine sv_callS (pc := 8) (M' := mX12_in) (d' := 19) (C' := 0) (S' := 0) (av := [.int x2, .int 1, .int 6]) ?_ (gOk _ _ _ _ _) dX12_rest_8 (tX12_in _ _ _ _ _) wS_X12_in wM_X12_18 ⟨le_t rfl, le_t rfl⟩ ⟨le_t rfl, le_t rfl⟩ rfl (le_t rfl) (fun _ _ h => h)
    refine sC.of rfl (by decide) (le_t rfl) ?_
    refine sv_iload_n (pc := 0) dX12_in_0 rfl rfl ?_
    refine sv_iload_n (pc := 1) dX12_in_1 rfl rfl ?_
    refine sv_icmp_lt (pc := 2) (tgt := 14) dX12_in_2 (by decide) (fun h_3 => ?_) (fun h_3 => ?_)
    · refine sv_iconst (pc := 14) (v := 0) dX12_in_14 (by decide) ?_
      refine sv_zret (pc := 15) dX12_in_15 rfl (by decide) (le_t rfl) (le_t rfl) ?_
      refine sv_if_ne (pc := 11) (tgt := 16) dX12_rest_11 (by decide) (fun h => absurd (by decide) h) (fun _ => ?_)
      refine sv_iconst (pc := 14) (v := (-1)) dX12_rest_14 (by decide) ?_
      refine sv_iret (pc := 15) dX12_rest_15 rfl (le_t rfl) (le_t rfl) ?_
      refine sv_icmp_eq (pc := 1748) (tgt := 1799) dL_law_1748 (by decide) (fun _ => ?_) (fun h => absurd (by decide) h)
      exact kk _ _ _ (le_t rfl) (le_t rfl)
    refine sv_iload_n (pc := 5) dX12_in_5 rfl rfl ?_
    refine sv_iload_n (pc := 6) dX12_in_6 rfl rfl ?_
    refine sv_icmp_gt (pc := 7) (tgt := 14) dX12_in_7 (by decide) (fun h_4 => ?_) (fun h_4 => ?_)
    · refine sv_iconst (pc := 14) (v := 0) dX12_in_14 (by decide) ?_
      refine sv_zret (pc := 15) dX12_in_15 rfl (by decide) (le_t rfl) (le_t rfl) ?_
      refine sv_if_ne (pc := 11) (tgt := 16) dX12_rest_11 (by decide) (fun h => absurd (by decide) h) (fun _ => ?_)
      refine sv_iconst (pc := 14) (v := (-1)) dX12_rest_14 (by decide) ?_
      refine sv_iret (pc := 15) dX12_rest_15 rfl (le_t rfl) (le_t rfl) ?_
      refine sv_icmp_eq (pc := 1748) (tgt := 1799) dL_law_1748 (by decide) (fun _ => ?_) (fun h => absurd (by decide) h)
      exact kk _ _ _ (le_t rfl) (le_t rfl)
    refine sv_iconst (pc := 10) (v := 1) dX12_in_10 (by decide) ?_
    refine sv_goto (pc := 11) (tgt := 15) dX12_in_11 (by decide) ?_
    refine sv_zret (pc := 15) dX12_in_15 rfl (by decide) (le_t rfl) (le_t rfl) ?_
    refine sv_if_ne (pc := 11) (tgt := 16) dX12_rest_11 (by decide) (fun _ => ?_) (fun h => absurd h (by decide))
    refine sv_aload_n (pc := 16) dX12_rest_16 rfl rfl ?_
    refine sv_callV (pc := 17) (M' := mX12_states) (d' := 19) (C' := 0) (S' := 0) (av := []) ?_ (gOk _ _ _ _ _) dX12_rest_17 (tX12_states _ _ _ _ _) ⟨wV_X12_states, wL_X12_states⟩ wM_X12_728 (gCX12 _ _ _ _ _) rfl (lt_t rfl) rfl ⟨le_t rfl, le_t rfl⟩ ⟨le_t rfl, le_t rfl⟩ rfl (le_t rfl) (fun _ _ h => h)
    refine sC.of rfl (by decide) (le_t rfl) ?_
    refine sv_iconst (pc := 0) (v := 1) dX12_states_0 (by decide) ?_
    refine sv_istore_n (pc := 1) dX12_states_1 rfl (by decide) ?_
    refine sv_bipush (pc := 2) (v := 6) dX12_states_2 (by decide) ?_
    refine sv_istore_n (pc := 4) dX12_states_4 rfl (by decide) ?_
    refine sv_iload_n (pc := 5) dX12_states_5 rfl rfl ?_
    refine sv_iconst (pc := 6) (v := 1) dX12_states_6 (by decide) ?_
    refine sv_icmp_lt (pc := 7) (tgt := 34) dX12_states_7 (by decide) (fun h => absurd h (by decide)) (fun _ => ?_)
    refine sv_aload_n (pc := 10) dX12_states_10 rfl rfl ?_
    refine sw_getfield (pc := 11) dX12_states_11 (gCX12 _ _ _ _ _) 121 (by decide) wF_X12_523 rfl rfl rfl ?_
    refine sv_iload_n (pc := 14) dX12_states_14 rfl rfl ?_
    refine sv_iload_n (pc := 15) dX12_states_15 rfl rfl ?_
    refine sw_iastore (pc := 16) (k := 6) (v := .int 1) dX12_states_16 rfl rfl rfl (by decide) (by decide) rfl rfl ?_
    refine sv_iload_n (pc := 17) dX12_states_17 rfl rfl ?_
    refine sv_aload_n (pc := 18) dX12_states_18 rfl rfl ?_
    refine sw_getfield (pc := 19) dX12_states_19 (gCX12 _ _ _ _ _) 118 (by decide) wF_X12_514 rfl rfl rfl ?_
    refine sv_iload_n (pc := 22) dX12_states_22 rfl rfl ?_
    refine sw_iaload (pc := 23) (k := 6) (v := .int 0) dX12_states_23 rfl rfl rfl (by decide) (by decide) rfl rfl ?_
    refine sv_iconst (pc := 24) (v := 1) dX12_states_24 (by decide) ?_
    refine sw_iadd (pc := 25) (v := 1) dX12_states_25 (by decide) ?_
    refine sw_imul (pc := 26) (v := 1) dX12_states_26 (by decide) ?_
    refine sv_istore_n (pc := 27) dX12_states_27 rfl (by decide) ?_
    refine sw_iinc (pc := 28) (v := 5) dX12_states_28 rfl (by decide) (by decide) ?_
    refine sv_goto (pc := 31) (tgt := 5) dX12_states_31 (by decide) ?_
    refine sv_iload_n (pc := 5) dX12_states_5 rfl rfl ?_
    refine sv_iconst (pc := 6) (v := 1) dX12_states_6 (by decide) ?_
    refine sv_icmp_lt (pc := 7) (tgt := 34) dX12_states_7 (by decide) (fun h => absurd h (by decide)) (fun _ => ?_)
    refine sv_aload_n (pc := 10) dX12_states_10 rfl rfl ?_
    refine sw_getfield (pc := 11) dX12_states_11 (gCX12 _ _ _ _ _) 121 (by decide) wF_X12_523 rfl rfl rfl ?_
    refine sv_iload_n (pc := 14) dX12_states_14 rfl rfl ?_
    refine sv_iload_n (pc := 15) dX12_states_15 rfl rfl ?_
    refine sw_iastore (pc := 16) (k := 5) (v := .int 1) dX12_states_16 rfl rfl rfl (by decide) (by decide) rfl rfl ?_
    refine sv_iload_n (pc := 17) dX12_states_17 rfl rfl ?_
    refine sv_aload_n (pc := 18) dX12_states_18 rfl rfl ?_
    refine sw_getfield (pc := 19) dX12_states_19 (gCX12 _ _ _ _ _) 118 (by decide) wF_X12_514 rfl rfl rfl ?_
    refine sv_iload_n (pc := 22) dX12_states_22 rfl rfl ?_
    refine sw_iaload (pc := 23) (k := 5) (v := .int 0) dX12_states_23 rfl rfl rfl (by decide) (by decide) rfl rfl ?_
    refine sv_iconst (pc := 24) (v := 1) dX12_states_24 (by decide) ?_
    refine sw_iadd (pc := 25) (v := 1) dX12_states_25 (by decide) ?_
    refine sw_imul (pc := 26) (v := 1) dX12_states_26 (by decide) ?_
    refine sv_istore_n (pc := 27) dX12_states_27 rfl (by decide) ?_
    refine sw_iinc (pc := 28) (v := 4) dX12_states_28 rfl (by decide) (by decide) ?_
    refine sv_goto (pc := 31) (tgt := 5) dX12_states_31 (by decide) ?_
    refine sv_iload_n (pc := 5) dX12_states_5 rfl rfl ?_
    refine sv_iconst (pc := 6) (v := 1) dX12_states_6 (by decide) ?_
    refine sv_icmp_lt (pc := 7) (tgt := 34) dX12_states_7 (by decide) (fun h => absurd h (by decide)) (fun _ => ?_)
    refine sv_aload_n (pc := 10) dX12_states_10 rfl rfl ?_
    refine sw_getfield (pc := 11) dX12_states_11 (gCX12 _ _ _ _ _) 121 (by decide) wF_X12_523 rfl rfl rfl ?_
    refine sv_iload_n (pc := 14) dX12_states_14 rfl rfl ?_
    refine sv_iload_n (pc := 15) dX12_states_15 rfl rfl ?_
    refine sw_iastore (pc := 16) (k := 4) (v := .int 1) dX12_states_16 rfl rfl rfl (by decide) (by decide) rfl rfl ?_
    refine sv_iload_n (pc := 17) dX12_states_17 rfl rfl ?_
    refine sv_aload_n (pc := 18) dX12_states_18 rfl rfl ?_
    refine sw_getfield (pc := 19) dX12_states_19 (gCX12 _ _ _ _ _) 118 (by decide) wF_X12_514 rfl rfl rfl ?_
    refine sv_iload_n (pc := 22) dX12_states_22 rfl rfl ?_
    refine sw_iaload (pc := 23) (k := 4) (v := .int 0) dX12_states_23 rfl rfl rfl (by decide) (by decide) rfl rfl ?_
    refine sv_iconst (pc := 24) (v := 1) dX12_states_24 (by decide) ?_
    refine sw_iadd (pc := 25) (v := 1) dX12_states_25 (by decide) ?_
    refine sw_imul (pc := 26) (v := 1) dX12_states_26 (by decide) ?_
    refine sv_istore_n (pc := 27) dX12_states_27 rfl (by decide) ?_
    refine sw_iinc (pc := 28) (v := 3) dX12_states_28 rfl (by decide) (by decide) ?_
    refine sv_lvG (pc := 31) (lv' := [(0, .ref 106), (1, .int 1), (2, .int 3)]) (List.forall_mem_cons.mpr ⟨rfl, List.forall_mem_cons.mpr ⟨rfl, List.forall_mem_cons.mpr ⟨rfl, fun _ h => absurd h List.not_mem_nil⟩⟩⟩) ?_
    refine sv_goto (pc := 31) (tgt := 5) dX12_states_31 (by decide) ?_
    refine sv_iload_n (pc := 5) dX12_states_5 rfl rfl ?_
    refine sv_iconst (pc := 6) (v := 1) dX12_states_6 (by decide) ?_
    refine sv_icmp_lt (pc := 7) (tgt := 34) dX12_states_7 (by decide) (fun h => absurd h (by decide)) (fun _ => ?_)
    refine sv_aload_n (pc := 10) dX12_states_10 rfl rfl ?_
    refine sw_getfield (pc := 11) dX12_states_11 (gCX12 _ _ _ _ _) 121 (by decide) wF_X12_523 rfl rfl rfl ?_
    refine sv_iload_n (pc := 14) dX12_states_14 rfl rfl ?_
    refine sv_iload_n (pc := 15) dX12_states_15 rfl rfl ?_
    refine sw_iastore (pc := 16) (k := 3) (v := .int 1) dX12_states_16 rfl rfl rfl (by decide) (by decide) rfl rfl ?_
    refine sv_iload_n (pc := 17) dX12_states_17 rfl rfl ?_
    refine sv_aload_n (pc := 18) dX12_states_18 rfl rfl ?_
    refine sw_getfield (pc := 19) dX12_states_19 (gCX12 _ _ _ _ _) 118 (by decide) wF_X12_514 rfl rfl rfl ?_
    refine sv_iload_n (pc := 22) dX12_states_22 rfl rfl ?_
    refine sw_iaload (pc := 23) (k := 3) (v := .int 0) dX12_states_23 rfl rfl rfl (by decide) (by decide) rfl rfl ?_
    refine sv_iconst (pc := 24) (v := 1) dX12_states_24 (by decide) ?_
    refine sw_iadd (pc := 25) (v := 1) dX12_states_25 (by decide) ?_
    refine sw_imul (pc := 26) (v := 1) dX12_states_26 (by decide) ?_
    refine sv_istore_n (pc := 27) dX12_states_27 rfl (by decide) ?_
    refine sw_iinc (pc := 28) (v := 2) dX12_states_28 rfl (by decide) (by decide) ?_
    refine sv_goto (pc := 31) (tgt := 5) dX12_states_31 (by decide) ?_
    refine sv_iload_n (pc := 5) dX12_states_5 rfl rfl ?_
    refine sv_iconst (pc := 6) (v := 1) dX12_states_6 (by decide) ?_
    refine sv_icmp_lt (pc := 7) (tgt := 34) dX12_states_7 (by decide) (fun h => absurd h (by decide)) (fun _ => ?_)
    refine sv_aload_n (pc := 10) dX12_states_10 rfl rfl ?_
    refine sw_getfield (pc := 11) dX12_states_11 (gCX12 _ _ _ _ _) 121 (by decide) wF_X12_523 rfl rfl rfl ?_
    refine sv_iload_n (pc := 14) dX12_states_14 rfl rfl ?_
    refine sv_iload_n (pc := 15) dX12_states_15 rfl rfl ?_
    refine sw_iastore (pc := 16) (k := 2) (v := .int 1) dX12_states_16 rfl rfl rfl (by decide) (by decide) rfl rfl ?_
    refine sv_iload_n (pc := 17) dX12_states_17 rfl rfl ?_
    refine sv_aload_n (pc := 18) dX12_states_18 rfl rfl ?_
    refine sw_getfield (pc := 19) dX12_states_19 (gCX12 _ _ _ _ _) 118 (by decide) wF_X12_514 rfl rfl rfl ?_
    refine sv_iload_n (pc := 22) dX12_states_22 rfl rfl ?_
    refine sw_iaload (pc := 23) (k := 2) (v := .int 0) dX12_states_23 rfl rfl rfl (by decide) (by decide) rfl rfl ?_
    refine sv_iconst (pc := 24) (v := 1) dX12_states_24 (by decide) ?_
    refine sw_iadd (pc := 25) (v := 1) dX12_states_25 (by decide) ?_
    refine sw_imul (pc := 26) (v := 1) dX12_states_26 (by decide) ?_
    refine sv_istore_n (pc := 27) dX12_states_27 rfl (by decide) ?_
    refine sw_iinc (pc := 28) (v := 1) dX12_states_28 rfl (by decide) (by decide) ?_
    refine sv_goto (pc := 31) (tgt := 5) dX12_states_31 (by decide) ?_
    refine sv_iload_n (pc := 5) dX12_states_5 rfl rfl ?_
    refine sv_iconst (pc := 6) (v := 1) dX12_states_6 (by decide) ?_
    refine sv_icmp_lt (pc := 7) (tgt := 34) dX12_states_7 (by decide) (fun h => absurd h (by decide)) (fun _ => ?_)
    refine sv_aload_n (pc := 10) dX12_states_10 rfl rfl ?_
    refine sw_getfield (pc := 11) dX12_states_11 (gCX12 _ _ _ _ _) 121 (by decide) wF_X12_523 rfl rfl rfl ?_
    refine sv_iload_n (pc := 14) dX12_states_14 rfl rfl ?_
    refine sv_iload_n (pc := 15) dX12_states_15 rfl rfl ?_
    refine sw_iastore (pc := 16) (k := 1) (v := .int 1) dX12_states_16 rfl rfl rfl (by decide) (by decide) rfl rfl ?_
    refine sv_iload_n (pc := 17) dX12_states_17 rfl rfl ?_
    refine sv_aload_n (pc := 18) dX12_states_18 rfl rfl ?_
    refine sw_getfield (pc := 19) dX12_states_19 (gCX12 _ _ _ _ _) 118 (by decide) wF_X12_514 rfl rfl rfl ?_
    refine sv_iload_n (pc := 22) dX12_states_22 rfl rfl ?_
    refine sw_iaload (pc := 23) (k := 1) (v := .int 0) dX12_states_23 rfl rfl rfl (by decide) (by decide) rfl rfl ?_
    refine sv_iconst (pc := 24) (v := 1) dX12_states_24 (by decide) ?_
    refine sw_iadd (pc := 25) (v := 1) dX12_states_25 (by decide) ?_
    refine sw_imul (pc := 26) (v := 1) dX12_states_26 (by decide) ?_
    refine sv_istore_n (pc := 27) dX12_states_27 rfl (by decide) ?_
    refine sw_iinc (pc := 28) (v := 0) dX12_states_28 rfl (by decide) (by decide) ?_
    refine sv_goto (pc := 31) (tgt := 5) dX12_states_31 (by decide) ?_
    refine sv_iload_n (pc := 5) dX12_states_5 rfl rfl ?_
    refine sv_iconst (pc := 6) (v := 1) dX12_states_6 (by decide) ?_
    refine sv_icmp_lt (pc := 7) (tgt := 34) dX12_states_7 (by decide) (fun _ => ?_) (fun h => absurd (by decide) h)
    refine sv_iload_n (pc := 34) dX12_states_34 rfl rfl ?_
    refine sv_iret (pc := 35) dX12_states_35 rfl (le_t rfl) (le_t rfl) ?_
    refine sv_istore_n (pc := 20) dX12_rest_20 rfl (by decide) ?_
    refine sv_iload_n (pc := 21) dX12_rest_21 rfl rfl ?_
    refine sv_istore (pc := 22) dX12_rest_22 (by decide) ?_
    refine sv_iconst (pc := 24) (v := 0) dX12_rest_24 (by decide) ?_
    refine sv_istore (pc := 25) dX12_rest_25 (by decide) ?_
    refine sv_iload (pc := 27) dX12_rest_27 rfl ?_
    refine sv_iload_n (pc := 29) dX12_rest_29 rfl rfl ?_
    refine sv_icmp_ge (pc := 30) (tgt := 92) dX12_rest_30 (by decide) (fun h => absurd h (by decide)) (fun _ => ?_)
    refine sv_aload_n (pc := 33) dX12_rest_33 rfl rfl ?_
    refine sv_iload (pc := 34) dX12_rest_34 rfl ?_
    refine sv_callV (pc := 36) (M' := mX12_isRest) (d' := 19) (C' := 0) (S' := 0) (av := [.int 0]) ?_ (gOk _ _ _ _ _) dX12_rest_36 (tX12_isRest _ _ _ _ _) ⟨wV_X12_isRest, wL_X12_isRest⟩ wM_X12_731 (gCX12 _ _ _ _ _) rfl (lt_t rfl) rfl ⟨le_t rfl, le_t rfl⟩ ⟨le_t rfl, le_t rfl⟩ rfl (le_t rfl) (fun _ _ h => h)
    refine sC.of rfl (by decide) (le_t rfl) ?_
    refine sv_aload_n (pc := 0) dX12_isRest_0 rfl rfl ?_
    refine sv_iload_n (pc := 1) dX12_isRest_1 rfl rfl ?_
    refine sv_callV (pc := 2) (M' := mX12_open) (d' := 18) (C' := 0) (S' := 0) (av := [.int 0]) ?_ (gOk _ _ _ _ _) dX12_isRest_2 (tX12_open _ _ _ _ _) ⟨wV_X12_open, wL_X12_open⟩ wM_X12_722 (gCX12 _ _ _ _ _) rfl (lt_t rfl) rfl ⟨le_t rfl, le_t rfl⟩ ⟨le_t rfl, le_t rfl⟩ rfl (le_t rfl) (fun _ _ h => h)
    refine sC.of rfl (by decide) (le_t rfl) ?_
    refine sv_iconst (pc := 0) (v := 1) dX12_open_0 (by decide) ?_
    refine sv_istore_n (pc := 1) dX12_open_1 rfl (by decide) ?_
    refine sv_iload_n (pc := 2) dX12_open_2 rfl rfl ?_
    refine sv_bipush (pc := 3) (v := 6) dX12_open_3 (by decide) ?_
    refine sv_icmp_gt (pc := 5) (tgt := 37) dX12_open_5 (by decide) (fun h => absurd h (by decide)) (fun _ => ?_)
    refine sv_aload_n (pc := 8) dX12_open_8 rfl rfl ?_
    refine sw_getfield (pc := 9) dX12_open_9 (gCX12 _ _ _ _ _) 122 (by decide) wF_X12_526 rfl rfl rfl ?_
    refine sv_iload_n (pc := 12) dX12_open_12 rfl rfl ?_
    refine sv_iload_n (pc := 13) dX12_open_13 rfl rfl ?_
    refine sv_aload_n (pc := 14) dX12_open_14 rfl rfl ?_
    refine sw_getfield (pc := 15) dX12_open_15 (gCX12 _ _ _ _ _) 121 (by decide) wF_X12_523 rfl rfl rfl ?_
    refine sv_iload_n (pc := 18) dX12_open_18 rfl rfl ?_
    refine sw_iaload (pc := 19) (k := 1) (v := .int 1) dX12_open_19 rfl rfl rfl (by decide) (by decide) rfl rfl ?_
    refine sw_idiv (pc := 20) (v := 0) dX12_open_20 (by decide) (by decide) ?_
    refine sv_aload_n (pc := 21) dX12_open_21 rfl rfl ?_
    refine sw_getfield (pc := 22) dX12_open_22 (gCX12 _ _ _ _ _) 118 (by decide) wF_X12_514 rfl rfl rfl ?_
    refine sv_iload_n (pc := 25) dX12_open_25 rfl rfl ?_
    refine sw_iaload (pc := 26) (k := 1) (v := .int 0) dX12_open_26 rfl rfl rfl (by decide) (by decide) rfl rfl ?_
    refine sv_iconst (pc := 27) (v := 1) dX12_open_27 (by decide) ?_
    refine sw_iadd (pc := 28) (v := 1) dX12_open_28 (by decide) ?_
    refine sw_irem (pc := 29) (v := 0) dX12_open_29 (by decide) (by decide) ?_
    refine sw_iastore (pc := 30) (k := 1) (v := .int 0) dX12_open_30 rfl rfl rfl (by decide) (by decide) rfl rfl ?_
    refine sw_iinc (pc := 31) (v := 2) dX12_open_31 rfl (by decide) (by decide) ?_
    refine sv_goto (pc := 34) (tgt := 2) dX12_open_34 (by decide) ?_
    refine sv_iload_n (pc := 2) dX12_open_2 rfl rfl ?_
    refine sv_bipush (pc := 3) (v := 6) dX12_open_3 (by decide) ?_
    refine sv_icmp_gt (pc := 5) (tgt := 37) dX12_open_5 (by decide) (fun h => absurd h (by decide)) (fun _ => ?_)
    refine sv_aload_n (pc := 8) dX12_open_8 rfl rfl ?_
    refine sw_getfield (pc := 9) dX12_open_9 (gCX12 _ _ _ _ _) 122 (by decide) wF_X12_526 rfl rfl rfl ?_
    refine sv_iload_n (pc := 12) dX12_open_12 rfl rfl ?_
    refine sv_iload_n (pc := 13) dX12_open_13 rfl rfl ?_
    refine sv_aload_n (pc := 14) dX12_open_14 rfl rfl ?_
    refine sw_getfield (pc := 15) dX12_open_15 (gCX12 _ _ _ _ _) 121 (by decide) wF_X12_523 rfl rfl rfl ?_
    refine sv_iload_n (pc := 18) dX12_open_18 rfl rfl ?_
    refine sw_iaload (pc := 19) (k := 2) (v := .int 1) dX12_open_19 rfl rfl rfl (by decide) (by decide) rfl rfl ?_
    refine sw_idiv (pc := 20) (v := 0) dX12_open_20 (by decide) (by decide) ?_
    refine sv_aload_n (pc := 21) dX12_open_21 rfl rfl ?_
    refine sw_getfield (pc := 22) dX12_open_22 (gCX12 _ _ _ _ _) 118 (by decide) wF_X12_514 rfl rfl rfl ?_
    refine sv_iload_n (pc := 25) dX12_open_25 rfl rfl ?_
    refine sw_iaload (pc := 26) (k := 2) (v := .int 0) dX12_open_26 rfl rfl rfl (by decide) (by decide) rfl rfl ?_
    refine sv_iconst (pc := 27) (v := 1) dX12_open_27 (by decide) ?_
    refine sw_iadd (pc := 28) (v := 1) dX12_open_28 (by decide) ?_
    refine sw_irem (pc := 29) (v := 0) dX12_open_29 (by decide) (by decide) ?_
    refine sw_iastore (pc := 30) (k := 2) (v := .int 0) dX12_open_30 rfl rfl rfl (by decide) (by decide) rfl rfl ?_
    refine sw_iinc (pc := 31) (v := 3) dX12_open_31 rfl (by decide) (by decide) ?_
    refine sv_goto (pc := 34) (tgt := 2) dX12_open_34 (by decide) ?_
    refine sv_iload_n (pc := 2) dX12_open_2 rfl rfl ?_
    refine sv_bipush (pc := 3) (v := 6) dX12_open_3 (by decide) ?_
    refine sv_icmp_gt (pc := 5) (tgt := 37) dX12_open_5 (by decide) (fun h => absurd h (by decide)) (fun _ => ?_)
    refine sv_aload_n (pc := 8) dX12_open_8 rfl rfl ?_
    refine sw_getfield (pc := 9) dX12_open_9 (gCX12 _ _ _ _ _) 122 (by decide) wF_X12_526 rfl rfl rfl ?_
    refine sv_iload_n (pc := 12) dX12_open_12 rfl rfl ?_
    refine sv_iload_n (pc := 13) dX12_open_13 rfl rfl ?_
    refine sv_aload_n (pc := 14) dX12_open_14 rfl rfl ?_
    refine sw_getfield (pc := 15) dX12_open_15 (gCX12 _ _ _ _ _) 121 (by decide) wF_X12_523 rfl rfl rfl ?_
    refine sv_iload_n (pc := 18) dX12_open_18 rfl rfl ?_
    refine sw_iaload (pc := 19) (k := 3) (v := .int 1) dX12_open_19 rfl rfl rfl (by decide) (by decide) rfl rfl ?_
    refine sw_idiv (pc := 20) (v := 0) dX12_open_20 (by decide) (by decide) ?_
    refine sv_aload_n (pc := 21) dX12_open_21 rfl rfl ?_
    refine sw_getfield (pc := 22) dX12_open_22 (gCX12 _ _ _ _ _) 118 (by decide) wF_X12_514 rfl rfl rfl ?_
    refine sv_iload_n (pc := 25) dX12_open_25 rfl rfl ?_
    refine sw_iaload (pc := 26) (k := 3) (v := .int 0) dX12_open_26 rfl rfl rfl (by decide) (by decide) rfl rfl ?_
    refine sv_iconst (pc := 27) (v := 1) dX12_open_27 (by decide) ?_
    refine sw_iadd (pc := 28) (v := 1) dX12_open_28 (by decide) ?_
    refine sw_irem (pc := 29) (v := 0) dX12_open_29 (by decide) (by decide) ?_
    refine sw_iastore (pc := 30) (k := 3) (v := .int 0) dX12_open_30 rfl rfl rfl (by decide) (by decide) rfl rfl ?_
    refine sw_iinc (pc := 31) (v := 4) dX12_open_31 rfl (by decide) (by decide) ?_
    refine sv_goto (pc := 34) (tgt := 2) dX12_open_34 (by decide) ?_
    refine sv_iload_n (pc := 2) dX12_open_2 rfl rfl ?_
    refine sv_bipush (pc := 3) (v := 6) dX12_open_3 (by decide) ?_
    refine sv_icmp_gt (pc := 5) (tgt := 37) dX12_open_5 (by decide) (fun h => absurd h (by decide)) (fun _ => ?_)
    refine sv_aload_n (pc := 8) dX12_open_8 rfl rfl ?_
    refine sw_getfield (pc := 9) dX12_open_9 (gCX12 _ _ _ _ _) 122 (by decide) wF_X12_526 rfl rfl rfl ?_
    refine sv_iload_n (pc := 12) dX12_open_12 rfl rfl ?_
    refine sv_iload_n (pc := 13) dX12_open_13 rfl rfl ?_
    refine sv_aload_n (pc := 14) dX12_open_14 rfl rfl ?_
    refine sw_getfield (pc := 15) dX12_open_15 (gCX12 _ _ _ _ _) 121 (by decide) wF_X12_523 rfl rfl rfl ?_
    refine sv_iload_n (pc := 18) dX12_open_18 rfl rfl ?_
    refine sw_iaload (pc := 19) (k := 4) (v := .int 1) dX12_open_19 rfl rfl rfl (by decide) (by decide) rfl rfl ?_
    refine sw_idiv (pc := 20) (v := 0) dX12_open_20 (by decide) (by decide) ?_
    refine sv_aload_n (pc := 21) dX12_open_21 rfl rfl ?_
    refine sw_getfield (pc := 22) dX12_open_22 (gCX12 _ _ _ _ _) 118 (by decide) wF_X12_514 rfl rfl rfl ?_
    refine sv_iload_n (pc := 25) dX12_open_25 rfl rfl ?_
    refine sw_iaload (pc := 26) (k := 4) (v := .int 0) dX12_open_26 rfl rfl rfl (by decide) (by decide) rfl rfl ?_
    refine sv_iconst (pc := 27) (v := 1) dX12_open_27 (by decide) ?_
    refine sw_iadd (pc := 28) (v := 1) dX12_open_28 (by decide) ?_
    refine sw_irem (pc := 29) (v := 0) dX12_open_29 (by decide) (by decide) ?_
    refine sw_iastore (pc := 30) (k := 4) (v := .int 0) dX12_open_30 rfl rfl rfl (by decide) (by decide) rfl rfl ?_
    refine sw_iinc (pc := 31) (v := 5) dX12_open_31 rfl (by decide) (by decide) ?_
    refine sv_goto (pc := 34) (tgt := 2) dX12_open_34 (by decide) ?_
    refine sv_iload_n (pc := 2) dX12_open_2 rfl rfl ?_
    refine sv_bipush (pc := 3) (v := 6) dX12_open_3 (by decide) ?_
    refine sv_icmp_gt (pc := 5) (tgt := 37) dX12_open_5 (by decide) (fun h => absurd h (by decide)) (fun _ => ?_)
    refine sv_aload_n (pc := 8) dX12_open_8 rfl rfl ?_
    refine sw_getfield (pc := 9) dX12_open_9 (gCX12 _ _ _ _ _) 122 (by decide) wF_X12_526 rfl rfl rfl ?_
    refine sv_iload_n (pc := 12) dX12_open_12 rfl rfl ?_
    refine sv_iload_n (pc := 13) dX12_open_13 rfl rfl ?_
    refine sv_aload_n (pc := 14) dX12_open_14 rfl rfl ?_
    refine sw_getfield (pc := 15) dX12_open_15 (gCX12 _ _ _ _ _) 121 (by decide) wF_X12_523 rfl rfl rfl ?_
    refine sv_iload_n (pc := 18) dX12_open_18 rfl rfl ?_
    refine sw_iaload (pc := 19) (k := 5) (v := .int 1) dX12_open_19 rfl rfl rfl (by decide) (by decide) rfl rfl ?_
    refine sw_idiv (pc := 20) (v := 0) dX12_open_20 (by decide) (by decide) ?_
    refine sv_aload_n (pc := 21) dX12_open_21 rfl rfl ?_
    refine sw_getfield (pc := 22) dX12_open_22 (gCX12 _ _ _ _ _) 118 (by decide) wF_X12_514 rfl rfl rfl ?_
    refine sv_iload_n (pc := 25) dX12_open_25 rfl rfl ?_
    refine sw_iaload (pc := 26) (k := 5) (v := .int 0) dX12_open_26 rfl rfl rfl (by decide) (by decide) rfl rfl ?_
    refine sv_iconst (pc := 27) (v := 1) dX12_open_27 (by decide) ?_
    refine sw_iadd (pc := 28) (v := 1) dX12_open_28 (by decide) ?_
    refine sw_irem (pc := 29) (v := 0) dX12_open_29 (by decide) (by decide) ?_
    refine sw_iastore (pc := 30) (k := 5) (v := .int 0) dX12_open_30 rfl rfl rfl (by decide) (by decide) rfl rfl ?_
    refine sw_iinc (pc := 31) (v := 6) dX12_open_31 rfl (by decide) (by decide) ?_
    refine sv_goto (pc := 34) (tgt := 2) dX12_open_34 (by decide) ?_
    refine sv_iload_n (pc := 2) dX12_open_2 rfl rfl ?_
    refine sv_bipush (pc := 3) (v := 6) dX12_open_3 (by decide) ?_
    refine sv_icmp_gt (pc := 5) (tgt := 37) dX12_open_5 (by decide) (fun h => absurd h (by decide)) (fun _ => ?_)
    refine sv_aload_n (pc := 8) dX12_open_8 rfl rfl ?_
    refine sw_getfield (pc := 9) dX12_open_9 (gCX12 _ _ _ _ _) 122 (by decide) wF_X12_526 rfl rfl rfl ?_
    refine sv_iload_n (pc := 12) dX12_open_12 rfl rfl ?_
    refine sv_iload_n (pc := 13) dX12_open_13 rfl rfl ?_
    refine sv_aload_n (pc := 14) dX12_open_14 rfl rfl ?_
    refine sw_getfield (pc := 15) dX12_open_15 (gCX12 _ _ _ _ _) 121 (by decide) wF_X12_523 rfl rfl rfl ?_
    refine sv_iload_n (pc := 18) dX12_open_18 rfl rfl ?_
    refine sw_iaload (pc := 19) (k := 6) (v := .int 1) dX12_open_19 rfl rfl rfl (by decide) (by decide) rfl rfl ?_
    refine sw_idiv (pc := 20) (v := 0) dX12_open_20 (by decide) (by decide) ?_
    refine sv_aload_n (pc := 21) dX12_open_21 rfl rfl ?_
    refine sw_getfield (pc := 22) dX12_open_22 (gCX12 _ _ _ _ _) 118 (by decide) wF_X12_514 rfl rfl rfl ?_
    refine sv_iload_n (pc := 25) dX12_open_25 rfl rfl ?_
    refine sw_iaload (pc := 26) (k := 6) (v := .int 0) dX12_open_26 rfl rfl rfl (by decide) (by decide) rfl rfl ?_
    refine sv_iconst (pc := 27) (v := 1) dX12_open_27 (by decide) ?_
    refine sw_iadd (pc := 28) (v := 1) dX12_open_28 (by decide) ?_
    refine sw_irem (pc := 29) (v := 0) dX12_open_29 (by decide) (by decide) ?_
    refine sw_iastore (pc := 30) (k := 6) (v := .int 0) dX12_open_30 rfl rfl rfl (by decide) (by decide) rfl rfl ?_
    refine sw_iinc (pc := 31) (v := 7) dX12_open_31 rfl (by decide) (by decide) ?_
    refine sv_goto (pc := 34) (tgt := 2) dX12_open_34 (by decide) ?_
    refine sv_iload_n (pc := 2) dX12_open_2 rfl rfl ?_
    refine sv_bipush (pc := 3) (v := 6) dX12_open_3 (by decide) ?_
    refine sv_icmp_gt (pc := 5) (tgt := 37) dX12_open_5 (by decide) (fun _ => ?_) (fun h => absurd (by decide) h)
    refine sv_vret (pc := 37) dX12_open_37 rfl (le_t rfl) (le_t rfl) ?_
    refine sv_iconst (pc := 5) (v := 1) dX12_isRest_5 (by decide) ?_
    refine sv_istore_n (pc := 6) dX12_isRest_6 rfl (by decide) ?_
    refine sv_iconst (pc := 7) (v := 1) dX12_isRest_7 (by decide) ?_
    refine sv_istore_n (pc := 8) dX12_isRest_8 rfl (by decide) ?_
    refine sv_iload_n (pc := 9) dX12_isRest_9 rfl rfl ?_
    refine sv_bipush (pc := 10) (v := 6) dX12_isRest_10 (by decide) ?_
    refine sv_icmp_gt (pc := 12) (tgt := 45) dX12_isRest_12 (by decide) (fun h => absurd h (by decide)) (fun _ => ?_)
    refine sv_iload_n (pc := 15) dX12_isRest_15 rfl rfl ?_
    refine sv_if_eq (pc := 16) (tgt := 45) dX12_isRest_16 (by decide) (fun h => absurd h (by decide)) (fun _ => ?_)
    refine sv_aload_n (pc := 19) dX12_isRest_19 rfl rfl ?_
    refine sv_iload_n (pc := 20) dX12_isRest_20 rfl rfl ?_
    refine sv_callV (pc := 21) (M' := mX12_acted) (d' := 18) (C' := 0) (S' := 0) (av := [.int 1]) ?_ (gOk _ _ _ _ _) dX12_isRest_21 (tX12_acted _ _ _ _ _) ⟨wV_X12_acted, wL_X12_acted⟩ wM_X12_725 (gCX12 _ _ _ _ _) rfl (lt_t rfl) rfl ⟨le_t rfl, le_t rfl⟩ ⟨le_t rfl, le_t rfl⟩ rfl (le_t rfl) (fun _ _ h => h)
    refine sC.of rfl (by decide) (le_t rfl) ?_
    refine sv_iconst (pc := 0) (v := 0) dX12_acted_0 (by decide) ?_
    refine sv_istore_n (pc := 1) dX12_acted_1 rfl (by decide) ?_
    refine sv_iload_n (pc := 2) dX12_acted_2 rfl rfl ?_
    refine sv_aload_n (pc := 3) dX12_acted_3 rfl rfl ?_
    refine sw_getfield (pc := 4) dX12_acted_4 (gCX12 _ _ _ _ _) 118 (by decide) wF_X12_514 rfl rfl rfl ?_
    refine sv_iload_n (pc := 7) dX12_acted_7 rfl rfl ?_
    refine sw_iaload (pc := 8) (k := 1) (v := .int 0) dX12_acted_8 rfl rfl rfl (by decide) (by decide) rfl rfl ?_
    refine sv_icmp_ge (pc := 9) (tgt := 32) dX12_acted_9 (by decide) (fun _ => ?_) (fun h => absurd (by decide) h)
    refine sv_aload_n (pc := 32) dX12_acted_32 rfl rfl ?_
    refine sw_getfield (pc := 33) dX12_acted_33 (gCX12 _ _ _ _ _) 118 (by decide) wF_X12_514 rfl rfl rfl ?_
    refine sv_iload_n (pc := 36) dX12_acted_36 rfl rfl ?_
    refine sw_iaload (pc := 37) (k := 1) (v := .int 0) dX12_acted_37 rfl rfl rfl (by decide) (by decide) rfl rfl ?_
    refine sv_iret (pc := 38) dX12_acted_38 rfl (le_t rfl) (le_t rfl) ?_
    refine sv_aload_n (pc := 24) dX12_isRest_24 rfl rfl ?_
    refine sw_getfield (pc := 25) dX12_isRest_25 (gCX12 _ _ _ _ _) 122 (by decide) wF_X12_526 rfl rfl rfl ?_
    refine sv_iload_n (pc := 28) dX12_isRest_28 rfl rfl ?_
    refine sw_iaload (pc := 29) (k := 1) (v := .int 0) dX12_isRest_29 rfl rfl rfl (by decide) (by decide) rfl rfl ?_
    refine sv_icmp_ne (pc := 30) (tgt := 37) dX12_isRest_30 (by decide) (fun h => absurd (by decide) h) (fun _ => ?_)
    refine sv_iconst (pc := 33) (v := 1) dX12_isRest_33 (by decide) ?_
    refine sv_goto (pc := 34) (tgt := 38) dX12_isRest_34 (by decide) ?_
    refine sv_istore_n (pc := 38) dX12_isRest_38 rfl (by decide) ?_
    refine sw_iinc (pc := 39) (v := 2) dX12_isRest_39 rfl (by decide) (by decide) ?_
    refine sv_goto (pc := 42) (tgt := 9) dX12_isRest_42 (by decide) ?_
    refine sv_iload_n (pc := 9) dX12_isRest_9 rfl rfl ?_
    refine sv_bipush (pc := 10) (v := 6) dX12_isRest_10 (by decide) ?_
    refine sv_icmp_gt (pc := 12) (tgt := 45) dX12_isRest_12 (by decide) (fun h => absurd h (by decide)) (fun _ => ?_)
    refine sv_iload_n (pc := 15) dX12_isRest_15 rfl rfl ?_
    refine sv_if_eq (pc := 16) (tgt := 45) dX12_isRest_16 (by decide) (fun h => absurd h (by decide)) (fun _ => ?_)
    refine sv_aload_n (pc := 19) dX12_isRest_19 rfl rfl ?_
    refine sv_iload_n (pc := 20) dX12_isRest_20 rfl rfl ?_
    refine sv_callV (pc := 21) (M' := mX12_acted) (d' := 18) (C' := 0) (S' := 0) (av := [.int 2]) ?_ (gOk _ _ _ _ _) dX12_isRest_21 (tX12_acted _ _ _ _ _) ⟨wV_X12_acted, wL_X12_acted⟩ wM_X12_725 (gCX12 _ _ _ _ _) rfl (lt_t rfl) rfl ⟨le_t rfl, le_t rfl⟩ ⟨le_t rfl, le_t rfl⟩ rfl (le_t rfl) (fun _ _ h => h)
    refine sC.of rfl (by decide) (le_t rfl) ?_
    refine sv_iconst (pc := 0) (v := 0) dX12_acted_0 (by decide) ?_
    refine sv_istore_n (pc := 1) dX12_acted_1 rfl (by decide) ?_
    refine sv_iload_n (pc := 2) dX12_acted_2 rfl rfl ?_
    refine sv_aload_n (pc := 3) dX12_acted_3 rfl rfl ?_
    refine sw_getfield (pc := 4) dX12_acted_4 (gCX12 _ _ _ _ _) 118 (by decide) wF_X12_514 rfl rfl rfl ?_
    refine sv_iload_n (pc := 7) dX12_acted_7 rfl rfl ?_
    refine sw_iaload (pc := 8) (k := 2) (v := .int 0) dX12_acted_8 rfl rfl rfl (by decide) (by decide) rfl rfl ?_
    refine sv_icmp_ge (pc := 9) (tgt := 32) dX12_acted_9 (by decide) (fun _ => ?_) (fun h => absurd (by decide) h)
    refine sv_aload_n (pc := 32) dX12_acted_32 rfl rfl ?_
    refine sw_getfield (pc := 33) dX12_acted_33 (gCX12 _ _ _ _ _) 118 (by decide) wF_X12_514 rfl rfl rfl ?_
    refine sv_iload_n (pc := 36) dX12_acted_36 rfl rfl ?_
    refine sw_iaload (pc := 37) (k := 2) (v := .int 0) dX12_acted_37 rfl rfl rfl (by decide) (by decide) rfl rfl ?_
    refine sv_iret (pc := 38) dX12_acted_38 rfl (le_t rfl) (le_t rfl) ?_
    refine sv_aload_n (pc := 24) dX12_isRest_24 rfl rfl ?_
    refine sw_getfield (pc := 25) dX12_isRest_25 (gCX12 _ _ _ _ _) 122 (by decide) wF_X12_526 rfl rfl rfl ?_
    refine sv_iload_n (pc := 28) dX12_isRest_28 rfl rfl ?_
    refine sw_iaload (pc := 29) (k := 2) (v := .int 0) dX12_isRest_29 rfl rfl rfl (by decide) (by decide) rfl rfl ?_
    refine sv_icmp_ne (pc := 30) (tgt := 37) dX12_isRest_30 (by decide) (fun h => absurd (by decide) h) (fun _ => ?_)
    refine sv_iconst (pc := 33) (v := 1) dX12_isRest_33 (by decide) ?_
    refine sv_goto (pc := 34) (tgt := 38) dX12_isRest_34 (by decide) ?_
    refine sv_istore_n (pc := 38) dX12_isRest_38 rfl (by decide) ?_
    refine sw_iinc (pc := 39) (v := 3) dX12_isRest_39 rfl (by decide) (by decide) ?_
    refine sv_goto (pc := 42) (tgt := 9) dX12_isRest_42 (by decide) ?_
    refine sv_iload_n (pc := 9) dX12_isRest_9 rfl rfl ?_
    refine sv_bipush (pc := 10) (v := 6) dX12_isRest_10 (by decide) ?_
    refine sv_icmp_gt (pc := 12) (tgt := 45) dX12_isRest_12 (by decide) (fun h => absurd h (by decide)) (fun _ => ?_)
    refine sv_iload_n (pc := 15) dX12_isRest_15 rfl rfl ?_
    refine sv_if_eq (pc := 16) (tgt := 45) dX12_isRest_16 (by decide) (fun h => absurd h (by decide)) (fun _ => ?_)
    refine sv_aload_n (pc := 19) dX12_isRest_19 rfl rfl ?_
    refine sv_iload_n (pc := 20) dX12_isRest_20 rfl rfl ?_
    refine sv_callV (pc := 21) (M' := mX12_acted) (d' := 18) (C' := 0) (S' := 0) (av := [.int 3]) ?_ (gOk _ _ _ _ _) dX12_isRest_21 (tX12_acted _ _ _ _ _) ⟨wV_X12_acted, wL_X12_acted⟩ wM_X12_725 (gCX12 _ _ _ _ _) rfl (lt_t rfl) rfl ⟨le_t rfl, le_t rfl⟩ ⟨le_t rfl, le_t rfl⟩ rfl (le_t rfl) (fun _ _ h => h)
    refine sC.of rfl (by decide) (le_t rfl) ?_
    refine sv_iconst (pc := 0) (v := 0) dX12_acted_0 (by decide) ?_
    refine sv_istore_n (pc := 1) dX12_acted_1 rfl (by decide) ?_
    refine sv_iload_n (pc := 2) dX12_acted_2 rfl rfl ?_
    refine sv_aload_n (pc := 3) dX12_acted_3 rfl rfl ?_
    refine sw_getfield (pc := 4) dX12_acted_4 (gCX12 _ _ _ _ _) 118 (by decide) wF_X12_514 rfl rfl rfl ?_
    refine sv_iload_n (pc := 7) dX12_acted_7 rfl rfl ?_
    refine sw_iaload (pc := 8) (k := 3) (v := .int 0) dX12_acted_8 rfl rfl rfl (by decide) (by decide) rfl rfl ?_
    refine sv_icmp_ge (pc := 9) (tgt := 32) dX12_acted_9 (by decide) (fun _ => ?_) (fun h => absurd (by decide) h)
    refine sv_aload_n (pc := 32) dX12_acted_32 rfl rfl ?_
    refine sw_getfield (pc := 33) dX12_acted_33 (gCX12 _ _ _ _ _) 118 (by decide) wF_X12_514 rfl rfl rfl ?_
    refine sv_iload_n (pc := 36) dX12_acted_36 rfl rfl ?_
    refine sw_iaload (pc := 37) (k := 3) (v := .int 0) dX12_acted_37 rfl rfl rfl (by decide) (by decide) rfl rfl ?_
    refine sv_iret (pc := 38) dX12_acted_38 rfl (le_t rfl) (le_t rfl) ?_
    refine sv_aload_n (pc := 24) dX12_isRest_24 rfl rfl ?_
    refine sw_getfield (pc := 25) dX12_isRest_25 (gCX12 _ _ _ _ _) 122 (by decide) wF_X12_526 rfl rfl rfl ?_
    refine sv_iload_n (pc := 28) dX12_isRest_28 rfl rfl ?_
    refine sw_iaload (pc := 29) (k := 3) (v := .int 0) dX12_isRest_29 rfl rfl rfl (by decide) (by decide) rfl rfl ?_
    refine sv_icmp_ne (pc := 30) (tgt := 37) dX12_isRest_30 (by decide) (fun h => absurd (by decide) h) (fun _ => ?_)
    refine sv_iconst (pc := 33) (v := 1) dX12_isRest_33 (by decide) ?_
    refine sv_goto (pc := 34) (tgt := 38) dX12_isRest_34 (by decide) ?_
    refine sv_istore_n (pc := 38) dX12_isRest_38 rfl (by decide) ?_
    refine sw_iinc (pc := 39) (v := 4) dX12_isRest_39 rfl (by decide) (by decide) ?_
    refine sv_lvG (pc := 42) (lv' := [(0, .ref 106), (1, .int 0), (2, .int 1), (3, .int 4)]) (List.forall_mem_cons.mpr ⟨rfl, List.forall_mem_cons.mpr ⟨rfl, List.forall_mem_cons.mpr ⟨rfl, List.forall_mem_cons.mpr ⟨rfl, fun _ h => absurd h List.not_mem_nil⟩⟩⟩⟩) ?_
    refine sv_goto (pc := 42) (tgt := 9) dX12_isRest_42 (by decide) ?_
    refine sv_iload_n (pc := 9) dX12_isRest_9 rfl rfl ?_
    refine sv_bipush (pc := 10) (v := 6) dX12_isRest_10 (by decide) ?_
    refine sv_icmp_gt (pc := 12) (tgt := 45) dX12_isRest_12 (by decide) (fun h => absurd h (by decide)) (fun _ => ?_)
    refine sv_iload_n (pc := 15) dX12_isRest_15 rfl rfl ?_
    refine sv_if_eq (pc := 16) (tgt := 45) dX12_isRest_16 (by decide) (fun h => absurd h (by decide)) (fun _ => ?_)
    refine sv_aload_n (pc := 19) dX12_isRest_19 rfl rfl ?_
    refine sv_iload_n (pc := 20) dX12_isRest_20 rfl rfl ?_
    refine sv_callV (pc := 21) (M' := mX12_acted) (d' := 18) (C' := 0) (S' := 0) (av := [.int 4]) ?_ (gOk _ _ _ _ _) dX12_isRest_21 (tX12_acted _ _ _ _ _) ⟨wV_X12_acted, wL_X12_acted⟩ wM_X12_725 (gCX12 _ _ _ _ _) rfl (lt_t rfl) rfl ⟨le_t rfl, le_t rfl⟩ ⟨le_t rfl, le_t rfl⟩ rfl (le_t rfl) (fun _ _ h => h)
    refine sC.of rfl (by decide) (le_t rfl) ?_
    refine sv_iconst (pc := 0) (v := 0) dX12_acted_0 (by decide) ?_
    refine sv_istore_n (pc := 1) dX12_acted_1 rfl (by decide) ?_
    refine sv_iload_n (pc := 2) dX12_acted_2 rfl rfl ?_
    refine sv_aload_n (pc := 3) dX12_acted_3 rfl rfl ?_
    refine sw_getfield (pc := 4) dX12_acted_4 (gCX12 _ _ _ _ _) 118 (by decide) wF_X12_514 rfl rfl rfl ?_
    refine sv_iload_n (pc := 7) dX12_acted_7 rfl rfl ?_
    refine sw_iaload (pc := 8) (k := 4) (v := .int 0) dX12_acted_8 rfl rfl rfl (by decide) (by decide) rfl rfl ?_
    refine sv_icmp_ge (pc := 9) (tgt := 32) dX12_acted_9 (by decide) (fun _ => ?_) (fun h => absurd (by decide) h)
    refine sv_aload_n (pc := 32) dX12_acted_32 rfl rfl ?_
    refine sw_getfield (pc := 33) dX12_acted_33 (gCX12 _ _ _ _ _) 118 (by decide) wF_X12_514 rfl rfl rfl ?_
    refine sv_iload_n (pc := 36) dX12_acted_36 rfl rfl ?_
    refine sw_iaload (pc := 37) (k := 4) (v := .int 0) dX12_acted_37 rfl rfl rfl (by decide) (by decide) rfl rfl ?_
    refine sv_iret (pc := 38) dX12_acted_38 rfl (le_t rfl) (le_t rfl) ?_
    refine sv_aload_n (pc := 24) dX12_isRest_24 rfl rfl ?_
    refine sw_getfield (pc := 25) dX12_isRest_25 (gCX12 _ _ _ _ _) 122 (by decide) wF_X12_526 rfl rfl rfl ?_
    refine sv_iload_n (pc := 28) dX12_isRest_28 rfl rfl ?_
    refine sw_iaload (pc := 29) (k := 4) (v := .int 0) dX12_isRest_29 rfl rfl rfl (by decide) (by decide) rfl rfl ?_
    refine sv_icmp_ne (pc := 30) (tgt := 37) dX12_isRest_30 (by decide) (fun h => absurd (by decide) h) (fun _ => ?_)
    refine sv_iconst (pc := 33) (v := 1) dX12_isRest_33 (by decide) ?_
    refine sv_goto (pc := 34) (tgt := 38) dX12_isRest_34 (by decide) ?_
    refine sv_istore_n (pc := 38) dX12_isRest_38 rfl (by decide) ?_
    refine sw_iinc (pc := 39) (v := 5) dX12_isRest_39 rfl (by decide) (by decide) ?_
    refine sv_goto (pc := 42) (tgt := 9) dX12_isRest_42 (by decide) ?_
    refine sv_iload_n (pc := 9) dX12_isRest_9 rfl rfl ?_
    refine sv_bipush (pc := 10) (v := 6) dX12_isRest_10 (by decide) ?_
    refine sv_icmp_gt (pc := 12) (tgt := 45) dX12_isRest_12 (by decide) (fun h => absurd h (by decide)) (fun _ => ?_)
    refine sv_iload_n (pc := 15) dX12_isRest_15 rfl rfl ?_
    refine sv_if_eq (pc := 16) (tgt := 45) dX12_isRest_16 (by decide) (fun h => absurd h (by decide)) (fun _ => ?_)
    refine sv_aload_n (pc := 19) dX12_isRest_19 rfl rfl ?_
    refine sv_iload_n (pc := 20) dX12_isRest_20 rfl rfl ?_
    refine sv_callV (pc := 21) (M' := mX12_acted) (d' := 18) (C' := 0) (S' := 0) (av := [.int 5]) ?_ (gOk _ _ _ _ _) dX12_isRest_21 (tX12_acted _ _ _ _ _) ⟨wV_X12_acted, wL_X12_acted⟩ wM_X12_725 (gCX12 _ _ _ _ _) rfl (lt_t rfl) rfl ⟨le_t rfl, le_t rfl⟩ ⟨le_t rfl, le_t rfl⟩ rfl (le_t rfl) (fun _ _ h => h)
    refine sC.of rfl (by decide) (le_t rfl) ?_
    refine sv_iconst (pc := 0) (v := 0) dX12_acted_0 (by decide) ?_
    refine sv_istore_n (pc := 1) dX12_acted_1 rfl (by decide) ?_
    refine sv_iload_n (pc := 2) dX12_acted_2 rfl rfl ?_
    refine sv_aload_n (pc := 3) dX12_acted_3 rfl rfl ?_
    refine sw_getfield (pc := 4) dX12_acted_4 (gCX12 _ _ _ _ _) 118 (by decide) wF_X12_514 rfl rfl rfl ?_
    refine sv_iload_n (pc := 7) dX12_acted_7 rfl rfl ?_
    refine sw_iaload (pc := 8) (k := 5) (v := .int 0) dX12_acted_8 rfl rfl rfl (by decide) (by decide) rfl rfl ?_
    refine sv_icmp_ge (pc := 9) (tgt := 32) dX12_acted_9 (by decide) (fun _ => ?_) (fun h => absurd (by decide) h)
    refine sv_aload_n (pc := 32) dX12_acted_32 rfl rfl ?_
    refine sw_getfield (pc := 33) dX12_acted_33 (gCX12 _ _ _ _ _) 118 (by decide) wF_X12_514 rfl rfl rfl ?_
    refine sv_iload_n (pc := 36) dX12_acted_36 rfl rfl ?_
    refine sw_iaload (pc := 37) (k := 5) (v := .int 0) dX12_acted_37 rfl rfl rfl (by decide) (by decide) rfl rfl ?_
    refine sv_iret (pc := 38) dX12_acted_38 rfl (le_t rfl) (le_t rfl) ?_
    refine sv_aload_n (pc := 24) dX12_isRest_24 rfl rfl ?_
    refine sw_getfield (pc := 25) dX12_isRest_25 (gCX12 _ _ _ _ _) 122 (by decide) wF_X12_526 rfl rfl rfl ?_
    refine sv_iload_n (pc := 28) dX12_isRest_28 rfl rfl ?_
    refine sw_iaload (pc := 29) (k := 5) (v := .int 0) dX12_isRest_29 rfl rfl rfl (by decide) (by decide) rfl rfl ?_
    refine sv_icmp_ne (pc := 30) (tgt := 37) dX12_isRest_30 (by decide) (fun h => absurd (by decide) h) (fun _ => ?_)
    refine sv_iconst (pc := 33) (v := 1) dX12_isRest_33 (by decide) ?_
    refine sv_goto (pc := 34) (tgt := 38) dX12_isRest_34 (by decide) ?_
    refine sv_istore_n (pc := 38) dX12_isRest_38 rfl (by decide) ?_
    refine sw_iinc (pc := 39) (v := 6) dX12_isRest_39 rfl (by decide) (by decide) ?_
    refine sv_goto (pc := 42) (tgt := 9) dX12_isRest_42 (by decide) ?_
    refine sv_iload_n (pc := 9) dX12_isRest_9 rfl rfl ?_
    refine sv_bipush (pc := 10) (v := 6) dX12_isRest_10 (by decide) ?_
    refine sv_icmp_gt (pc := 12) (tgt := 45) dX12_isRest_12 (by decide) (fun h => absurd h (by decide)) (fun _ => ?_)
    refine sv_iload_n (pc := 15) dX12_isRest_15 rfl rfl ?_
    refine sv_if_eq (pc := 16) (tgt := 45) dX12_isRest_16 (by decide) (fun h => absurd h (by decide)) (fun _ => ?_)
    refine sv_aload_n (pc := 19) dX12_isRest_19 rfl rfl ?_
    refine sv_iload_n (pc := 20) dX12_isRest_20 rfl rfl ?_
    refine sv_callV (pc := 21) (M' := mX12_acted) (d' := 18) (C' := 0) (S' := 0) (av := [.int 6]) ?_ (gOk _ _ _ _ _) dX12_isRest_21 (tX12_acted _ _ _ _ _) ⟨wV_X12_acted, wL_X12_acted⟩ wM_X12_725 (gCX12 _ _ _ _ _) rfl (lt_t rfl) rfl ⟨le_t rfl, le_t rfl⟩ ⟨le_t rfl, le_t rfl⟩ rfl (le_t rfl) (fun _ _ h => h)
    refine sC.of rfl (by decide) (le_t rfl) ?_
    refine sv_iconst (pc := 0) (v := 0) dX12_acted_0 (by decide) ?_
    refine sv_istore_n (pc := 1) dX12_acted_1 rfl (by decide) ?_
    refine sv_iload_n (pc := 2) dX12_acted_2 rfl rfl ?_
    refine sv_aload_n (pc := 3) dX12_acted_3 rfl rfl ?_
    refine sw_getfield (pc := 4) dX12_acted_4 (gCX12 _ _ _ _ _) 118 (by decide) wF_X12_514 rfl rfl rfl ?_
    refine sv_iload_n (pc := 7) dX12_acted_7 rfl rfl ?_
    refine sw_iaload (pc := 8) (k := 6) (v := .int 0) dX12_acted_8 rfl rfl rfl (by decide) (by decide) rfl rfl ?_
    refine sv_icmp_ge (pc := 9) (tgt := 32) dX12_acted_9 (by decide) (fun _ => ?_) (fun h => absurd (by decide) h)
    refine sv_aload_n (pc := 32) dX12_acted_32 rfl rfl ?_
    refine sw_getfield (pc := 33) dX12_acted_33 (gCX12 _ _ _ _ _) 118 (by decide) wF_X12_514 rfl rfl rfl ?_
    refine sv_iload_n (pc := 36) dX12_acted_36 rfl rfl ?_
    refine sw_iaload (pc := 37) (k := 6) (v := .int 0) dX12_acted_37 rfl rfl rfl (by decide) (by decide) rfl rfl ?_
    refine sv_iret (pc := 38) dX12_acted_38 rfl (le_t rfl) (le_t rfl) ?_
    refine sv_aload_n (pc := 24) dX12_isRest_24 rfl rfl ?_
    refine sw_getfield (pc := 25) dX12_isRest_25 (gCX12 _ _ _ _ _) 122 (by decide) wF_X12_526 rfl rfl rfl ?_
    refine sv_iload_n (pc := 28) dX12_isRest_28 rfl rfl ?_
    refine sw_iaload (pc := 29) (k := 6) (v := .int 0) dX12_isRest_29 rfl rfl rfl (by decide) (by decide) rfl rfl ?_
    refine sv_icmp_ne (pc := 30) (tgt := 37) dX12_isRest_30 (by decide) (fun h => absurd (by decide) h) (fun _ => ?_)
    refine sv_iconst (pc := 33) (v := 1) dX12_isRest_33 (by decide) ?_
    refine sv_goto (pc := 34) (tgt := 38) dX12_isRest_34 (by decide) ?_
    refine sv_istore_n (pc := 38) dX12_isRest_38 rfl (by decide) ?_
    refine sw_iinc (pc := 39) (v := 7) dX12_isRest_39 rfl (by decide) (by decide) ?_
    refine sv_goto (pc := 42) (tgt := 9) dX12_isRest_42 (by decide) ?_
    refine sv_iload_n (pc := 9) dX12_isRest_9 rfl rfl ?_
    refine sv_bipush (pc := 10) (v := 6) dX12_isRest_10 (by decide) ?_
    refine sv_icmp_gt (pc := 12) (tgt := 45) dX12_isRest_12 (by decide) (fun _ => ?_) (fun h => absurd (by decide) h)
    refine sv_iload_n (pc := 45) dX12_isRest_45 rfl rfl ?_
    refine sv_zret (pc := 46) dX12_isRest_46 rfl (by decide) (le_t rfl) (le_t rfl) ?_
    refine sv_if_ne (pc := 39) (tgt := 45) dX12_rest_39 (by decide) (fun _ => ?_) (fun h => absurd h (by decide))
    refine sv_iload (pc := 45) dX12_rest_45 rfl ?_
    refine sv_if_ne (pc := 47) (tgt := 83) dX12_rest_47 (by decide) (fun _ => ?_) (fun h => False.elim (by have a0 := Int32.le_iff_toInt_le.mp (Int32.not_lt.mp h_1); have a1 := Int32.le_iff_toInt_le.mp h_2; have a2 := Int32.le_iff_toInt_le.mp (Int32.not_lt.mp h_3); have a3 := Int32.le_iff_toInt_le.mp (Int32.not_lt.mp h_4); have a4 := congrArg Int32.toInt h; have e0 : (0 : Int32).toInt = 0 := (by decide); have e1 : (1 : Int32).toInt = 1 := (by decide); have e2 : (6 : Int32).toInt = 6 := (by decide); omega))
    refine sv_iincK (pc := 83) (k := (-1)) dX12_rest_83 (by decide) rfl (by decide) ?_
    refine sw_iinc (pc := 86) (v := 1) dX12_rest_86 rfl (by decide) (by decide) ?_
    refine sv_goto (pc := 89) (tgt := 27) dX12_rest_89 (by decide) ?_
    refine sv_iload (pc := 27) dX12_rest_27 rfl ?_
    refine sv_iload_n (pc := 29) dX12_rest_29 rfl rfl ?_
    refine sv_icmp_ge (pc := 30) (tgt := 92) dX12_rest_30 (by decide) (fun _ => ?_) (fun h => absurd (by decide) h)
    refine sv_iconst (pc := 92) (v := (-1)) dX12_rest_92 (by decide) ?_
    refine sv_iret (pc := 93) dX12_rest_93 rfl (le_t rfl) (le_t rfl) ?_
    refine sv_icmp_eq (pc := 1748) (tgt := 1799) dL_law_1748 (by decide) (fun _ => ?_) (fun h => absurd (by decide) h)
    exact kk _ _ _ (le_t rfl) (le_t rfl)
  refine sv_iload_n (pc := 22) dX11_rest_22 rfl rfl ?_
  refine sv_iconst (pc := 23) (v := 1) dX11_rest_23 (by decide) ?_
  refine sv_icmp_lt (pc := 24) (tgt := 33) dX11_rest_24 (by decide) (fun h_3 => ?_) (fun h_3 => ?_)
  · refine sv_iconst (pc := 33) (v := (-1)) dX11_rest_33 (by decide) ?_
    refine sv_iret (pc := 34) dX11_rest_34 rfl (le_t rfl) (le_t rfl) ?_
    refine sv_aload_n (pc := 1734) dL_law_1734 rfl rfl ?_
    refine sv_aload_nS (pc := 1735) dL_law_1735 rfl rfl ?_
    refine sv_iload_n (pc := 1736) dL_law_1736 rfl rfl ?_
    refine sv_iconst (pc := 1737) (v := 1) dL_law_1737 (by decide) ?_
    refine sw_iadd (pc := 1738) (v := 1) dL_law_1738 (by decide) ?_
    refine sw_sld (pc := 1739) (v := x1) dL_law_1739 (k := 1) (by decide) (by decide) rfl hx1 ?_
    refine sv_aload_nS (pc := 1740) dL_law_1740 rfl rfl ?_
    refine sv_iload_n (pc := 1741) dL_law_1741 rfl rfl ?_
    refine sv_iconst (pc := 1742) (v := 2) dL_law_1742 (by decide) ?_
    refine sw_iadd (pc := 1743) (v := 2) dL_law_1743 (by decide) ?_
    refine sw_sld (pc := 1744) (v := x2) dL_law_1744 (k := 2) (by decide) (by decide) rfl hx2 ?_
    refine sv_callV (pc := 1745) (M' := mX12_rest) (d' := 20) (C' := 0) (S' := 0) (av := [.int x1, .int x2]) ?_ (gOk _ _ _ _ _) dL_law_1745 (tX12_rest _ _ _ _ _) ⟨wV_X12_rest, wL_X12_rest⟩ wM_DomainHouseLaw_206 (gCX12 _ _ _ _ _) rfl (lt_t rfl) rfl ⟨le_t rfl, le_t rfl⟩ ⟨le_t rfl, le_t rfl⟩ rfl (le_t rfl) (fun _ _ h => h)
    refine sC.of rfl (by decide) (le_t rfl) ?_
    refine sv_iload_n (pc := 0) dX12_rest_0 rfl rfl ?_
    refine sv_if_lt (pc := 1) (tgt := 14) dX12_rest_1 (by decide) (fun h => absurd h h_1) (fun _ => ?_)
    refine sv_iload_n (pc := 4) dX12_rest_4 rfl rfl ?_
    refine sv_iconst (pc := 5) (v := 1) dX12_rest_5 (by decide) ?_
    refine sv_bipush (pc := 6) (v := 6) dX12_rest_6 (by decide) ?_
    refine sv_callS (pc := 8) (M' := mX12_in) (d' := 19) (C' := 0) (S' := 0) (av := [.int x2, .int 1, .int 6]) ?_ (gOk _ _ _ _ _) dX12_rest_8 (tX12_in _ _ _ _ _) wS_X12_in wM_X12_18 ⟨le_t rfl, le_t rfl⟩ ⟨le_t rfl, le_t rfl⟩ rfl (le_t rfl) (fun _ _ h => h)
    refine sC.of rfl (by decide) (le_t rfl) ?_
    refine sv_iload_n (pc := 0) dX12_in_0 rfl rfl ?_
    refine sv_iload_n (pc := 1) dX12_in_1 rfl rfl ?_
    refine sv_icmp_lt (pc := 2) (tgt := 14) dX12_in_2 (by decide) (fun _ => ?_) (fun h => absurd h_3 h)
    refine sv_iconst (pc := 14) (v := 0) dX12_in_14 (by decide) ?_
    refine sv_zret (pc := 15) dX12_in_15 rfl (by decide) (le_t rfl) (le_t rfl) ?_
    refine sv_if_ne (pc := 11) (tgt := 16) dX12_rest_11 (by decide) (fun h => absurd (by decide) h) (fun _ => ?_)
    refine sv_iconst (pc := 14) (v := (-1)) dX12_rest_14 (by decide) ?_
    refine sv_iret (pc := 15) dX12_rest_15 rfl (le_t rfl) (le_t rfl) ?_
    refine sv_icmp_eq (pc := 1748) (tgt := 1799) dL_law_1748 (by decide) (fun _ => ?_) (fun h => absurd (by decide) h)
    exact kk _ _ _ (le_t rfl) (le_t rfl)
  refine sv_iload_n (pc := 27) dX11_rest_27 rfl rfl ?_
  refine sv_bipush (pc := 28) (v := 7) dX11_rest_28 (by decide) ?_
  refine sv_icmp_lt (pc := 30) (tgt := 35) dX11_rest_30 (by decide) (fun h_4 => ?_) (fun h_4 => ?_)
  · refine sv_aload_n (pc := 35) dX11_rest_35 rfl rfl ?_
    refine sw_getfield (pc := 36) dX11_rest_36 (gCX11 _ _ _ _ _) 9 (by decide) wF_X11_72 rfl rfl rfl ?_
    refine sv_iload_n (pc := 39) dX11_rest_39 rfl rfl ?_
    refine sv_iload_n (pc := 40) dX11_rest_40 rfl rfl ?_
    refine sv_callV (pc := 41) (M' := mX4_wayInRest) (d' := 19) (C' := 0) (S' := 0) (av := [.int x1, .int x2]) ?_ (gOk _ _ _ _ _) dX11_rest_41 (tX4_wayInRest _ _ _ _ _) ⟨wV_X4_wayInRest, wL_X4_wayInRest⟩ wM_X11_417 (gCX4 _ _ _ _ _) rfl (lt_t rfl) rfl ⟨le_t rfl, le_t rfl⟩ ⟨le_t rfl, le_t rfl⟩ rfl (le_t rfl) (fun _ _ h => h)
    refine sC.of rfl (by decide) (le_t rfl) ?_
    refine sv_aload_n (pc := 0) dX4_wayInRest_0 rfl rfl ?_
    refine sv_aload_n (pc := 1) dX4_wayInRest_1 rfl rfl ?_
    refine sw_getfield (pc := 2) dX4_wayInRest_2 (gCX4 _ _ _ _ _) 7 (by decide) wF_X4_36 rfl rfl rfl ?_
    refine sv_iload_n (pc := 5) dX4_wayInRest_5 rfl rfl ?_
    by_cases q_5 : x1 = 0
    · subst q_5
      refine sw_iaload (pc := 6) (k := 0) (v := .int 0) dX4_wayInRest_6 rfl rfl rfl (by decide) (by decide) rfl rfl ?_
      refine sv_iload_n (pc := 7) dX4_wayInRest_7 rfl rfl ?_
      refine sv_callV (pc := 8) (M' := mX4_figure) (d' := 18) (C' := 0) (S' := 0) (av := [.int 0, .int x2]) ?_ (gOk _ _ _ _ _) dX4_wayInRest_8 (tX4_figure _ _ _ _ _) ⟨wV_X4_figure, wL_X4_figure⟩ wM_X4_75 (gCX4 _ _ _ _ _) rfl (lt_t rfl) rfl ⟨le_t rfl, le_t rfl⟩ ⟨le_t rfl, le_t rfl⟩ rfl (le_t rfl) (fun _ _ h => h)
      refine sC.of rfl (by decide) (le_t rfl) ?_
      refine sv_aload_n (pc := 0) dX4_figure_0 rfl rfl ?_
      refine sw_getfield (pc := 1) dX4_figure_1 (gCX4 _ _ _ _ _) 4 (by decide) wF_X4_27 rfl rfl rfl ?_
      refine sv_iload_n (pc := 4) dX4_figure_4 rfl rfl ?_
      by_cases q_6 : x2 = 1
      · subst q_6
        refine sw_iaload (pc := 5) (k := 1) (v := .int 1) dX4_figure_5 rfl rfl rfl (by decide) (by decide) rfl rfl ?_
        refine sv_istore_n (pc := 6) dX4_figure_6 rfl (by decide) ?_
        refine sv_iload_n (pc := 7) dX4_figure_7 rfl rfl ?_
        refine sv_if_le (pc := 8) (tgt := 26) dX4_figure_8 (by decide) (fun h => absurd h (by decide)) (fun _ => ?_)
        refine sv_iload_n (pc := 11) dX4_figure_11 rfl rfl ?_
        refine sv_iload_n (pc := 12) dX4_figure_12 rfl rfl ?_
        refine sw_idiv (pc := 13) (v := 0) dX4_figure_13 (by decide) (by decide) ?_
        refine sv_aload_n (pc := 14) dX4_figure_14 rfl rfl ?_
        refine sw_getfield (pc := 15) dX4_figure_15 (gCX4 _ _ _ _ _) 12 (by decide) wF_X4_11 rfl rfl rfl ?_
        refine sv_iload_n (pc := 18) dX4_figure_18 rfl rfl ?_
        refine sw_iaload (pc := 19) (k := 1) (v := .int 0) dX4_figure_19 rfl rfl rfl (by decide) (by decide) rfl rfl ?_
        refine sv_iconst (pc := 20) (v := 1) dX4_figure_20 (by decide) ?_
        refine sw_iadd (pc := 21) (v := 1) dX4_figure_21 (by decide) ?_
        refine sw_irem (pc := 22) (v := 0) dX4_figure_22 (by decide) (by decide) ?_
        refine sv_goto (pc := 23) (tgt := 27) dX4_figure_23 (by decide) ?_
        refine sv_iret (pc := 27) dX4_figure_27 rfl (le_t rfl) (le_t rfl) ?_
        refine sv_istore_n (pc := 11) dX4_wayInRest_11 rfl (by decide) ?_
        refine sv_iload_n (pc := 12) dX4_wayInRest_12 rfl rfl ?_
        refine sv_aload_n (pc := 13) dX4_wayInRest_13 rfl rfl ?_
        refine sw_getfield (pc := 14) dX4_wayInRest_14 (gCX4 _ _ _ _ _) 12 (by decide) wF_X4_11 rfl rfl rfl ?_
        refine sv_iload_n (pc := 17) dX4_wayInRest_17 rfl rfl ?_
        refine sw_iaload (pc := 18) (k := 1) (v := .int 0) dX4_wayInRest_18 rfl rfl rfl (by decide) (by decide) rfl rfl ?_
        refine sv_icmp_ne (pc := 19) (tgt := 27) dX4_wayInRest_19 (by decide) (fun h => absurd (by decide) h) (fun _ => ?_)
        refine sv_bipush (pc := 22) (v := (-4)) dX4_wayInRest_22 (by decide) ?_
        refine sv_goto (pc := 24) (tgt := 28) dX4_wayInRest_24 (by decide) ?_
        refine sv_iret (pc := 28) dX4_wayInRest_28 rfl (le_t rfl) (le_t rfl) ?_
        refine sv_iret (pc := 44) dX11_rest_44 rfl (le_t rfl) (le_t rfl) ?_
        refine sv_aload_n (pc := 1734) dL_law_1734 rfl rfl ?_
        refine sv_aload_nS (pc := 1735) dL_law_1735 rfl rfl ?_
        refine sv_iload_n (pc := 1736) dL_law_1736 rfl rfl ?_
        refine sv_iconst (pc := 1737) (v := 1) dL_law_1737 (by decide) ?_
        refine sw_iadd (pc := 1738) (v := 1) dL_law_1738 (by decide) ?_
        refine sw_sld (pc := 1739) (v := 0) dL_law_1739 (k := 1) (by decide) (by decide) rfl hx1 ?_
        refine sv_aload_nS (pc := 1740) dL_law_1740 rfl rfl ?_
        refine sv_iload_n (pc := 1741) dL_law_1741 rfl rfl ?_
        refine sv_iconst (pc := 1742) (v := 2) dL_law_1742 (by decide) ?_
        refine sw_iadd (pc := 1743) (v := 2) dL_law_1743 (by decide) ?_
        refine sw_sld (pc := 1744) (v := 1) dL_law_1744 (k := 2) (by decide) (by decide) rfl hx2 ?_
        refine sv_callV (pc := 1745) (M' := mX12_rest) (d' := 20) (C' := 0) (S' := 0) (av := [.int 0, .int 1]) ?_ (gOk _ _ _ _ _) dL_law_1745 (tX12_rest _ _ _ _ _) ⟨wV_X12_rest, wL_X12_rest⟩ wM_DomainHouseLaw_206 (gCX12 _ _ _ _ _) rfl (lt_t rfl) rfl ⟨le_t rfl, le_t rfl⟩ ⟨le_t rfl, le_t rfl⟩ rfl (le_t rfl) (fun _ _ h => h)
        refine sC.of rfl (by decide) (le_t rfl) ?_
        refine sv_iload_n (pc := 0) dX12_rest_0 rfl rfl ?_
        refine sv_if_lt (pc := 1) (tgt := 14) dX12_rest_1 (by decide) (fun h => absurd h (by decide)) (fun _ => ?_)
        refine sv_iload_n (pc := 4) dX12_rest_4 rfl rfl ?_
        refine sv_iconst (pc := 5) (v := 1) dX12_rest_5 (by decide) ?_
        refine sv_bipush (pc := 6) (v := 6) dX12_rest_6 (by decide) ?_
        refine sv_callS (pc := 8) (M' := mX12_in) (d' := 19) (C' := 0) (S' := 0) (av := [.int 1, .int 1, .int 6]) ?_ (gOk _ _ _ _ _) dX12_rest_8 (tX12_in _ _ _ _ _) wS_X12_in wM_X12_18 ⟨le_t rfl, le_t rfl⟩ ⟨le_t rfl, le_t rfl⟩ rfl (le_t rfl) (fun _ _ h => h)
        refine sC.of rfl (by decide) (le_t rfl) ?_
        refine sv_iload_n (pc := 0) dX12_in_0 rfl rfl ?_
        refine sv_iload_n (pc := 1) dX12_in_1 rfl rfl ?_
        refine sv_icmp_lt (pc := 2) (tgt := 14) dX12_in_2 (by decide) (fun h => absurd h (by decide)) (fun _ => ?_)
        refine sv_iload_n (pc := 5) dX12_in_5 rfl rfl ?_
        refine sv_iload_n (pc := 6) dX12_in_6 rfl rfl ?_
        refine sv_icmp_gt (pc := 7) (tgt := 14) dX12_in_7 (by decide) (fun h => absurd h (by decide)) (fun _ => ?_)
        refine sv_iconst (pc := 10) (v := 1) dX12_in_10 (by decide) ?_
        refine sv_goto (pc := 11) (tgt := 15) dX12_in_11 (by decide) ?_
        refine sv_zret (pc := 15) dX12_in_15 rfl (by decide) (le_t rfl) (le_t rfl) ?_
        refine sv_if_ne (pc := 11) (tgt := 16) dX12_rest_11 (by decide) (fun _ => ?_) (fun h => absurd h (by decide))
        refine sv_aload_n (pc := 16) dX12_rest_16 rfl rfl ?_
        refine sv_callV (pc := 17) (M' := mX12_states) (d' := 19) (C' := 0) (S' := 0) (av := []) ?_ (gOk _ _ _ _ _) dX12_rest_17 (tX12_states _ _ _ _ _) ⟨wV_X12_states, wL_X12_states⟩ wM_X12_728 (gCX12 _ _ _ _ _) rfl (lt_t rfl) rfl ⟨le_t rfl, le_t rfl⟩ ⟨le_t rfl, le_t rfl⟩ rfl (le_t rfl) (fun _ _ h => h)
        refine sC.of rfl (by decide) (le_t rfl) ?_
        refine sv_iconst (pc := 0) (v := 1) dX12_states_0 (by decide) ?_
        refine sv_istore_n (pc := 1) dX12_states_1 rfl (by decide) ?_
        refine sv_bipush (pc := 2) (v := 6) dX12_states_2 (by decide) ?_
        refine sv_istore_n (pc := 4) dX12_states_4 rfl (by decide) ?_
        refine sv_iload_n (pc := 5) dX12_states_5 rfl rfl ?_
        refine sv_iconst (pc := 6) (v := 1) dX12_states_6 (by decide) ?_
        refine sv_icmp_lt (pc := 7) (tgt := 34) dX12_states_7 (by decide) (fun h => absurd h (by decide)) (fun _ => ?_)
        refine sv_aload_n (pc := 10) dX12_states_10 rfl rfl ?_
        refine sw_getfield (pc := 11) dX12_states_11 (gCX12 _ _ _ _ _) 121 (by decide) wF_X12_523 rfl rfl rfl ?_
        refine sv_iload_n (pc := 14) dX12_states_14 rfl rfl ?_
        refine sv_iload_n (pc := 15) dX12_states_15 rfl rfl ?_
        refine sw_iastore (pc := 16) (k := 6) (v := .int 1) dX12_states_16 rfl rfl rfl (by decide) (by decide) rfl rfl ?_
        refine sv_iload_n (pc := 17) dX12_states_17 rfl rfl ?_
        refine sv_aload_n (pc := 18) dX12_states_18 rfl rfl ?_
        refine sw_getfield (pc := 19) dX12_states_19 (gCX12 _ _ _ _ _) 118 (by decide) wF_X12_514 rfl rfl rfl ?_
        refine sv_iload_n (pc := 22) dX12_states_22 rfl rfl ?_
        refine sw_iaload (pc := 23) (k := 6) (v := .int 0) dX12_states_23 rfl rfl rfl (by decide) (by decide) rfl rfl ?_
        refine sv_iconst (pc := 24) (v := 1) dX12_states_24 (by decide) ?_
        refine sw_iadd (pc := 25) (v := 1) dX12_states_25 (by decide) ?_
        refine sw_imul (pc := 26) (v := 1) dX12_states_26 (by decide) ?_
        refine sv_istore_n (pc := 27) dX12_states_27 rfl (by decide) ?_
        refine sw_iinc (pc := 28) (v := 5) dX12_states_28 rfl (by decide) (by decide) ?_
        refine sv_goto (pc := 31) (tgt := 5) dX12_states_31 (by decide) ?_
        refine sv_iload_n (pc := 5) dX12_states_5 rfl rfl ?_
        refine sv_iconst (pc := 6) (v := 1) dX12_states_6 (by decide) ?_
        refine sv_icmp_lt (pc := 7) (tgt := 34) dX12_states_7 (by decide) (fun h => absurd h (by decide)) (fun _ => ?_)
        refine sv_aload_n (pc := 10) dX12_states_10 rfl rfl ?_
        refine sw_getfield (pc := 11) dX12_states_11 (gCX12 _ _ _ _ _) 121 (by decide) wF_X12_523 rfl rfl rfl ?_
        refine sv_iload_n (pc := 14) dX12_states_14 rfl rfl ?_
        refine sv_iload_n (pc := 15) dX12_states_15 rfl rfl ?_
        refine sw_iastore (pc := 16) (k := 5) (v := .int 1) dX12_states_16 rfl rfl rfl (by decide) (by decide) rfl rfl ?_
        refine sv_iload_n (pc := 17) dX12_states_17 rfl rfl ?_
        refine sv_aload_n (pc := 18) dX12_states_18 rfl rfl ?_
        refine sw_getfield (pc := 19) dX12_states_19 (gCX12 _ _ _ _ _) 118 (by decide) wF_X12_514 rfl rfl rfl ?_
        refine sv_iload_n (pc := 22) dX12_states_22 rfl rfl ?_
        refine sw_iaload (pc := 23) (k := 5) (v := .int 0) dX12_states_23 rfl rfl rfl (by decide) (by decide) rfl rfl ?_
        refine sv_iconst (pc := 24) (v := 1) dX12_states_24 (by decide) ?_
        refine sw_iadd (pc := 25) (v := 1) dX12_states_25 (by decide) ?_
        refine sw_imul (pc := 26) (v := 1) dX12_states_26 (by decide) ?_
        refine sv_istore_n (pc := 27) dX12_states_27 rfl (by decide) ?_
        refine sw_iinc (pc := 28) (v := 4) dX12_states_28 rfl (by decide) (by decide) ?_
        refine sv_goto (pc := 31) (tgt := 5) dX12_states_31 (by decide) ?_
        refine sv_iload_n (pc := 5) dX12_states_5 rfl rfl ?_
        refine sv_iconst (pc := 6) (v := 1) dX12_states_6 (by decide) ?_
        refine sv_icmp_lt (pc := 7) (tgt := 34) dX12_states_7 (by decide) (fun h => absurd h (by decide)) (fun _ => ?_)
        refine sv_aload_n (pc := 10) dX12_states_10 rfl rfl ?_
        refine sw_getfield (pc := 11) dX12_states_11 (gCX12 _ _ _ _ _) 121 (by decide) wF_X12_523 rfl rfl rfl ?_
        refine sv_iload_n (pc := 14) dX12_states_14 rfl rfl ?_
        refine sv_iload_n (pc := 15) dX12_states_15 rfl rfl ?_
        refine sw_iastore (pc := 16) (k := 4) (v := .int 1) dX12_states_16 rfl rfl rfl (by decide) (by decide) rfl rfl ?_
        refine sv_iload_n (pc := 17) dX12_states_17 rfl rfl ?_
        refine sv_aload_n (pc := 18) dX12_states_18 rfl rfl ?_
        refine sw_getfield (pc := 19) dX12_states_19 (gCX12 _ _ _ _ _) 118 (by decide) wF_X12_514 rfl rfl rfl ?_
        refine sv_iload_n (pc := 22) dX12_states_22 rfl rfl ?_
        refine sw_iaload (pc := 23) (k := 4) (v := .int 0) dX12_states_23 rfl rfl rfl (by decide) (by decide) rfl rfl ?_
        refine sv_iconst (pc := 24) (v := 1) dX12_states_24 (by decide) ?_
        refine sw_iadd (pc := 25) (v := 1) dX12_states_25 (by decide) ?_
        refine sw_imul (pc := 26) (v := 1) dX12_states_26 (by decide) ?_
        refine sv_istore_n (pc := 27) dX12_states_27 rfl (by decide) ?_
        refine sw_iinc (pc := 28) (v := 3) dX12_states_28 rfl (by decide) (by decide) ?_
        refine sv_lvG (pc := 31) (lv' := [(0, .ref 106), (1, .int 1), (2, .int 3)]) (List.forall_mem_cons.mpr ⟨rfl, List.forall_mem_cons.mpr ⟨rfl, List.forall_mem_cons.mpr ⟨rfl, fun _ h => absurd h List.not_mem_nil⟩⟩⟩) ?_
        refine sv_goto (pc := 31) (tgt := 5) dX12_states_31 (by decide) ?_
        refine sv_iload_n (pc := 5) dX12_states_5 rfl rfl ?_
        refine sv_iconst (pc := 6) (v := 1) dX12_states_6 (by decide) ?_
        refine sv_icmp_lt (pc := 7) (tgt := 34) dX12_states_7 (by decide) (fun h => absurd h (by decide)) (fun _ => ?_)
        refine sv_aload_n (pc := 10) dX12_states_10 rfl rfl ?_
        refine sw_getfield (pc := 11) dX12_states_11 (gCX12 _ _ _ _ _) 121 (by decide) wF_X12_523 rfl rfl rfl ?_
        refine sv_iload_n (pc := 14) dX12_states_14 rfl rfl ?_
        refine sv_iload_n (pc := 15) dX12_states_15 rfl rfl ?_
        refine sw_iastore (pc := 16) (k := 3) (v := .int 1) dX12_states_16 rfl rfl rfl (by decide) (by decide) rfl rfl ?_
        refine sv_iload_n (pc := 17) dX12_states_17 rfl rfl ?_
        refine sv_aload_n (pc := 18) dX12_states_18 rfl rfl ?_
        refine sw_getfield (pc := 19) dX12_states_19 (gCX12 _ _ _ _ _) 118 (by decide) wF_X12_514 rfl rfl rfl ?_
        refine sv_iload_n (pc := 22) dX12_states_22 rfl rfl ?_
        refine sw_iaload (pc := 23) (k := 3) (v := .int 0) dX12_states_23 rfl rfl rfl (by decide) (by decide) rfl rfl ?_
        refine sv_iconst (pc := 24) (v := 1) dX12_states_24 (by decide) ?_
        refine sw_iadd (pc := 25) (v := 1) dX12_states_25 (by decide) ?_
        refine sw_imul (pc := 26) (v := 1) dX12_states_26 (by decide) ?_
        refine sv_istore_n (pc := 27) dX12_states_27 rfl (by decide) ?_
        refine sw_iinc (pc := 28) (v := 2) dX12_states_28 rfl (by decide) (by decide) ?_
        refine sv_goto (pc := 31) (tgt := 5) dX12_states_31 (by decide) ?_
        refine sv_iload_n (pc := 5) dX12_states_5 rfl rfl ?_
        refine sv_iconst (pc := 6) (v := 1) dX12_states_6 (by decide) ?_
        refine sv_icmp_lt (pc := 7) (tgt := 34) dX12_states_7 (by decide) (fun h => absurd h (by decide)) (fun _ => ?_)
        refine sv_aload_n (pc := 10) dX12_states_10 rfl rfl ?_
        refine sw_getfield (pc := 11) dX12_states_11 (gCX12 _ _ _ _ _) 121 (by decide) wF_X12_523 rfl rfl rfl ?_
        refine sv_iload_n (pc := 14) dX12_states_14 rfl rfl ?_
        refine sv_iload_n (pc := 15) dX12_states_15 rfl rfl ?_
        refine sw_iastore (pc := 16) (k := 2) (v := .int 1) dX12_states_16 rfl rfl rfl (by decide) (by decide) rfl rfl ?_
        refine sv_iload_n (pc := 17) dX12_states_17 rfl rfl ?_
        refine sv_aload_n (pc := 18) dX12_states_18 rfl rfl ?_
        refine sw_getfield (pc := 19) dX12_states_19 (gCX12 _ _ _ _ _) 118 (by decide) wF_X12_514 rfl rfl rfl ?_
        refine sv_iload_n (pc := 22) dX12_states_22 rfl rfl ?_
        refine sw_iaload (pc := 23) (k := 2) (v := .int 0) dX12_states_23 rfl rfl rfl (by decide) (by decide) rfl rfl ?_
        refine sv_iconst (pc := 24) (v := 1) dX12_states_24 (by decide) ?_
        refine sw_iadd (pc := 25) (v := 1) dX12_states_25 (by decide) ?_
        refine sw_imul (pc := 26) (v := 1) dX12_states_26 (by decide) ?_
        refine sv_istore_n (pc := 27) dX12_states_27 rfl (by decide) ?_
        refine sw_iinc (pc := 28) (v := 1) dX12_states_28 rfl (by decide) (by decide) ?_
        refine sv_goto (pc := 31) (tgt := 5) dX12_states_31 (by decide) ?_
        refine sv_iload_n (pc := 5) dX12_states_5 rfl rfl ?_
        refine sv_iconst (pc := 6) (v := 1) dX12_states_6 (by decide) ?_
        refine sv_icmp_lt (pc := 7) (tgt := 34) dX12_states_7 (by decide) (fun h => absurd h (by decide)) (fun _ => ?_)
        refine sv_aload_n (pc := 10) dX12_states_10 rfl rfl ?_
        refine sw_getfield (pc := 11) dX12_states_11 (gCX12 _ _ _ _ _) 121 (by decide) wF_X12_523 rfl rfl rfl ?_
        refine sv_iload_n (pc := 14) dX12_states_14 rfl rfl ?_
        refine sv_iload_n (pc := 15) dX12_states_15 rfl rfl ?_
        refine sw_iastore (pc := 16) (k := 1) (v := .int 1) dX12_states_16 rfl rfl rfl (by decide) (by decide) rfl rfl ?_
        refine sv_iload_n (pc := 17) dX12_states_17 rfl rfl ?_
        refine sv_aload_n (pc := 18) dX12_states_18 rfl rfl ?_
        refine sw_getfield (pc := 19) dX12_states_19 (gCX12 _ _ _ _ _) 118 (by decide) wF_X12_514 rfl rfl rfl ?_
        refine sv_iload_n (pc := 22) dX12_states_22 rfl rfl ?_
        refine sw_iaload (pc := 23) (k := 1) (v := .int 0) dX12_states_23 rfl rfl rfl (by decide) (by decide) rfl rfl ?_
        refine sv_iconst (pc := 24) (v := 1) dX12_states_24 (by decide) ?_
        refine sw_iadd (pc := 25) (v := 1) dX12_states_25 (by decide) ?_
        refine sw_imul (pc := 26) (v := 1) dX12_states_26 (by decide) ?_
        refine sv_istore_n (pc := 27) dX12_states_27 rfl (by decide) ?_
        refine sw_iinc (pc := 28) (v := 0) dX12_states_28 rfl (by decide) (by decide) ?_
        refine sv_goto (pc := 31) (tgt := 5) dX12_states_31 (by decide) ?_
        refine sv_iload_n (pc := 5) dX12_states_5 rfl rfl ?_
        refine sv_iconst (pc := 6) (v := 1) dX12_states_6 (by decide) ?_
        refine sv_icmp_lt (pc := 7) (tgt := 34) dX12_states_7 (by decide) (fun _ => ?_) (fun h => absurd (by decide) h)
        refine sv_iload_n (pc := 34) dX12_states_34 rfl rfl ?_
        refine sv_iret (pc := 35) dX12_states_35 rfl (le_t rfl) (le_t rfl) ?_
        refine sv_istore_n (pc := 20) dX12_rest_20 rfl (by decide) ?_
        refine sv_iload_n (pc := 21) dX12_rest_21 rfl rfl ?_
        refine sv_istore (pc := 22) dX12_rest_22 (by decide) ?_
        refine sv_iconst (pc := 24) (v := 0) dX12_rest_24 (by decide) ?_
        refine sv_istore (pc := 25) dX12_rest_25 (by decide) ?_
        refine sv_iload (pc := 27) dX12_rest_27 rfl ?_
        refine sv_iload_n (pc := 29) dX12_rest_29 rfl rfl ?_
        refine sv_icmp_ge (pc := 30) (tgt := 92) dX12_rest_30 (by decide) (fun h => absurd h (by decide)) (fun _ => ?_)
        refine sv_aload_n (pc := 33) dX12_rest_33 rfl rfl ?_
        refine sv_iload (pc := 34) dX12_rest_34 rfl ?_
        refine sv_callV (pc := 36) (M' := mX12_isRest) (d' := 19) (C' := 0) (S' := 0) (av := [.int 0]) ?_ (gOk _ _ _ _ _) dX12_rest_36 (tX12_isRest _ _ _ _ _) ⟨wV_X12_isRest, wL_X12_isRest⟩ wM_X12_731 (gCX12 _ _ _ _ _) rfl (lt_t rfl) rfl ⟨le_t rfl, le_t rfl⟩ ⟨le_t rfl, le_t rfl⟩ rfl (le_t rfl) (fun _ _ h => h)
        refine sC.of rfl (by decide) (le_t rfl) ?_
        refine sv_aload_n (pc := 0) dX12_isRest_0 rfl rfl ?_
        refine sv_iload_n (pc := 1) dX12_isRest_1 rfl rfl ?_
        refine sv_callV (pc := 2) (M' := mX12_open) (d' := 18) (C' := 0) (S' := 0) (av := [.int 0]) ?_ (gOk _ _ _ _ _) dX12_isRest_2 (tX12_open _ _ _ _ _) ⟨wV_X12_open, wL_X12_open⟩ wM_X12_722 (gCX12 _ _ _ _ _) rfl (lt_t rfl) rfl ⟨le_t rfl, le_t rfl⟩ ⟨le_t rfl, le_t rfl⟩ rfl (le_t rfl) (fun _ _ h => h)
        refine sC.of rfl (by decide) (le_t rfl) ?_
        refine sv_iconst (pc := 0) (v := 1) dX12_open_0 (by decide) ?_
        refine sv_istore_n (pc := 1) dX12_open_1 rfl (by decide) ?_
        refine sv_iload_n (pc := 2) dX12_open_2 rfl rfl ?_
        refine sv_bipush (pc := 3) (v := 6) dX12_open_3 (by decide) ?_
        refine sv_icmp_gt (pc := 5) (tgt := 37) dX12_open_5 (by decide) (fun h => absurd h (by decide)) (fun _ => ?_)
        refine sv_aload_n (pc := 8) dX12_open_8 rfl rfl ?_
        refine sw_getfield (pc := 9) dX12_open_9 (gCX12 _ _ _ _ _) 122 (by decide) wF_X12_526 rfl rfl rfl ?_
        refine sv_iload_n (pc := 12) dX12_open_12 rfl rfl ?_
        refine sv_iload_n (pc := 13) dX12_open_13 rfl rfl ?_
        refine sv_aload_n (pc := 14) dX12_open_14 rfl rfl ?_
        refine sw_getfield (pc := 15) dX12_open_15 (gCX12 _ _ _ _ _) 121 (by decide) wF_X12_523 rfl rfl rfl ?_
        refine sv_iload_n (pc := 18) dX12_open_18 rfl rfl ?_
        refine sw_iaload (pc := 19) (k := 1) (v := .int 1) dX12_open_19 rfl rfl rfl (by decide) (by decide) rfl rfl ?_
        refine sw_idiv (pc := 20) (v := 0) dX12_open_20 (by decide) (by decide) ?_
        refine sv_aload_n (pc := 21) dX12_open_21 rfl rfl ?_
        refine sw_getfield (pc := 22) dX12_open_22 (gCX12 _ _ _ _ _) 118 (by decide) wF_X12_514 rfl rfl rfl ?_
        refine sv_iload_n (pc := 25) dX12_open_25 rfl rfl ?_
        refine sw_iaload (pc := 26) (k := 1) (v := .int 0) dX12_open_26 rfl rfl rfl (by decide) (by decide) rfl rfl ?_
        refine sv_iconst (pc := 27) (v := 1) dX12_open_27 (by decide) ?_
        refine sw_iadd (pc := 28) (v := 1) dX12_open_28 (by decide) ?_
        refine sw_irem (pc := 29) (v := 0) dX12_open_29 (by decide) (by decide) ?_
        refine sw_iastore (pc := 30) (k := 1) (v := .int 0) dX12_open_30 rfl rfl rfl (by decide) (by decide) rfl rfl ?_
        refine sw_iinc (pc := 31) (v := 2) dX12_open_31 rfl (by decide) (by decide) ?_
        refine sv_goto (pc := 34) (tgt := 2) dX12_open_34 (by decide) ?_
        refine sv_iload_n (pc := 2) dX12_open_2 rfl rfl ?_
        refine sv_bipush (pc := 3) (v := 6) dX12_open_3 (by decide) ?_
        refine sv_icmp_gt (pc := 5) (tgt := 37) dX12_open_5 (by decide) (fun h => absurd h (by decide)) (fun _ => ?_)
        refine sv_aload_n (pc := 8) dX12_open_8 rfl rfl ?_
        refine sw_getfield (pc := 9) dX12_open_9 (gCX12 _ _ _ _ _) 122 (by decide) wF_X12_526 rfl rfl rfl ?_
        refine sv_iload_n (pc := 12) dX12_open_12 rfl rfl ?_
        refine sv_iload_n (pc := 13) dX12_open_13 rfl rfl ?_
        refine sv_aload_n (pc := 14) dX12_open_14 rfl rfl ?_
        refine sw_getfield (pc := 15) dX12_open_15 (gCX12 _ _ _ _ _) 121 (by decide) wF_X12_523 rfl rfl rfl ?_
        refine sv_iload_n (pc := 18) dX12_open_18 rfl rfl ?_
        refine sw_iaload (pc := 19) (k := 2) (v := .int 1) dX12_open_19 rfl rfl rfl (by decide) (by decide) rfl rfl ?_
        refine sw_idiv (pc := 20) (v := 0) dX12_open_20 (by decide) (by decide) ?_
        refine sv_aload_n (pc := 21) dX12_open_21 rfl rfl ?_
        refine sw_getfield (pc := 22) dX12_open_22 (gCX12 _ _ _ _ _) 118 (by decide) wF_X12_514 rfl rfl rfl ?_
        refine sv_iload_n (pc := 25) dX12_open_25 rfl rfl ?_
        refine sw_iaload (pc := 26) (k := 2) (v := .int 0) dX12_open_26 rfl rfl rfl (by decide) (by decide) rfl rfl ?_
        refine sv_iconst (pc := 27) (v := 1) dX12_open_27 (by decide) ?_
        refine sw_iadd (pc := 28) (v := 1) dX12_open_28 (by decide) ?_
        refine sw_irem (pc := 29) (v := 0) dX12_open_29 (by decide) (by decide) ?_
        refine sw_iastore (pc := 30) (k := 2) (v := .int 0) dX12_open_30 rfl rfl rfl (by decide) (by decide) rfl rfl ?_
        refine sw_iinc (pc := 31) (v := 3) dX12_open_31 rfl (by decide) (by decide) ?_
        refine sv_goto (pc := 34) (tgt := 2) dX12_open_34 (by decide) ?_
        refine sv_iload_n (pc := 2) dX12_open_2 rfl rfl ?_
        refine sv_bipush (pc := 3) (v := 6) dX12_open_3 (by decide) ?_
        refine sv_icmp_gt (pc := 5) (tgt := 37) dX12_open_5 (by decide) (fun h => absurd h (by decide)) (fun _ => ?_)
        refine sv_aload_n (pc := 8) dX12_open_8 rfl rfl ?_
        refine sw_getfield (pc := 9) dX12_open_9 (gCX12 _ _ _ _ _) 122 (by decide) wF_X12_526 rfl rfl rfl ?_
        refine sv_iload_n (pc := 12) dX12_open_12 rfl rfl ?_
        refine sv_iload_n (pc := 13) dX12_open_13 rfl rfl ?_
        refine sv_aload_n (pc := 14) dX12_open_14 rfl rfl ?_
        refine sw_getfield (pc := 15) dX12_open_15 (gCX12 _ _ _ _ _) 121 (by decide) wF_X12_523 rfl rfl rfl ?_
        refine sv_iload_n (pc := 18) dX12_open_18 rfl rfl ?_
        refine sw_iaload (pc := 19) (k := 3) (v := .int 1) dX12_open_19 rfl rfl rfl (by decide) (by decide) rfl rfl ?_
        refine sw_idiv (pc := 20) (v := 0) dX12_open_20 (by decide) (by decide) ?_
        refine sv_aload_n (pc := 21) dX12_open_21 rfl rfl ?_
        refine sw_getfield (pc := 22) dX12_open_22 (gCX12 _ _ _ _ _) 118 (by decide) wF_X12_514 rfl rfl rfl ?_
        refine sv_iload_n (pc := 25) dX12_open_25 rfl rfl ?_
        refine sw_iaload (pc := 26) (k := 3) (v := .int 0) dX12_open_26 rfl rfl rfl (by decide) (by decide) rfl rfl ?_
        refine sv_iconst (pc := 27) (v := 1) dX12_open_27 (by decide) ?_
        refine sw_iadd (pc := 28) (v := 1) dX12_open_28 (by decide) ?_
        refine sw_irem (pc := 29) (v := 0) dX12_open_29 (by decide) (by decide) ?_
        refine sw_iastore (pc := 30) (k := 3) (v := .int 0) dX12_open_30 rfl rfl rfl (by decide) (by decide) rfl rfl ?_
        refine sw_iinc (pc := 31) (v := 4) dX12_open_31 rfl (by decide) (by decide) ?_
        refine sv_goto (pc := 34) (tgt := 2) dX12_open_34 (by decide) ?_
        refine sv_iload_n (pc := 2) dX12_open_2 rfl rfl ?_
        refine sv_bipush (pc := 3) (v := 6) dX12_open_3 (by decide) ?_
        refine sv_icmp_gt (pc := 5) (tgt := 37) dX12_open_5 (by decide) (fun h => absurd h (by decide)) (fun _ => ?_)
        refine sv_aload_n (pc := 8) dX12_open_8 rfl rfl ?_
        refine sw_getfield (pc := 9) dX12_open_9 (gCX12 _ _ _ _ _) 122 (by decide) wF_X12_526 rfl rfl rfl ?_
        refine sv_iload_n (pc := 12) dX12_open_12 rfl rfl ?_
        refine sv_iload_n (pc := 13) dX12_open_13 rfl rfl ?_
        refine sv_aload_n (pc := 14) dX12_open_14 rfl rfl ?_
        refine sw_getfield (pc := 15) dX12_open_15 (gCX12 _ _ _ _ _) 121 (by decide) wF_X12_523 rfl rfl rfl ?_
        refine sv_iload_n (pc := 18) dX12_open_18 rfl rfl ?_
        refine sw_iaload (pc := 19) (k := 4) (v := .int 1) dX12_open_19 rfl rfl rfl (by decide) (by decide) rfl rfl ?_
        refine sw_idiv (pc := 20) (v := 0) dX12_open_20 (by decide) (by decide) ?_
        refine sv_aload_n (pc := 21) dX12_open_21 rfl rfl ?_
        refine sw_getfield (pc := 22) dX12_open_22 (gCX12 _ _ _ _ _) 118 (by decide) wF_X12_514 rfl rfl rfl ?_
        refine sv_iload_n (pc := 25) dX12_open_25 rfl rfl ?_
        refine sw_iaload (pc := 26) (k := 4) (v := .int 0) dX12_open_26 rfl rfl rfl (by decide) (by decide) rfl rfl ?_
        refine sv_iconst (pc := 27) (v := 1) dX12_open_27 (by decide) ?_
        refine sw_iadd (pc := 28) (v := 1) dX12_open_28 (by decide) ?_
        refine sw_irem (pc := 29) (v := 0) dX12_open_29 (by decide) (by decide) ?_
        refine sw_iastore (pc := 30) (k := 4) (v := .int 0) dX12_open_30 rfl rfl rfl (by decide) (by decide) rfl rfl ?_
        refine sw_iinc (pc := 31) (v := 5) dX12_open_31 rfl (by decide) (by decide) ?_
        refine sv_goto (pc := 34) (tgt := 2) dX12_open_34 (by decide) ?_
        refine sv_iload_n (pc := 2) dX12_open_2 rfl rfl ?_
        refine sv_bipush (pc := 3) (v := 6) dX12_open_3 (by decide) ?_
        refine sv_icmp_gt (pc := 5) (tgt := 37) dX12_open_5 (by decide) (fun h => absurd h (by decide)) (fun _ => ?_)
        refine sv_aload_n (pc := 8) dX12_open_8 rfl rfl ?_
        refine sw_getfield (pc := 9) dX12_open_9 (gCX12 _ _ _ _ _) 122 (by decide) wF_X12_526 rfl rfl rfl ?_
        refine sv_iload_n (pc := 12) dX12_open_12 rfl rfl ?_
        refine sv_iload_n (pc := 13) dX12_open_13 rfl rfl ?_
        refine sv_aload_n (pc := 14) dX12_open_14 rfl rfl ?_
        refine sw_getfield (pc := 15) dX12_open_15 (gCX12 _ _ _ _ _) 121 (by decide) wF_X12_523 rfl rfl rfl ?_
        refine sv_iload_n (pc := 18) dX12_open_18 rfl rfl ?_
        refine sw_iaload (pc := 19) (k := 5) (v := .int 1) dX12_open_19 rfl rfl rfl (by decide) (by decide) rfl rfl ?_
        refine sw_idiv (pc := 20) (v := 0) dX12_open_20 (by decide) (by decide) ?_
        refine sv_aload_n (pc := 21) dX12_open_21 rfl rfl ?_
        refine sw_getfield (pc := 22) dX12_open_22 (gCX12 _ _ _ _ _) 118 (by decide) wF_X12_514 rfl rfl rfl ?_
        refine sv_iload_n (pc := 25) dX12_open_25 rfl rfl ?_
        refine sw_iaload (pc := 26) (k := 5) (v := .int 0) dX12_open_26 rfl rfl rfl (by decide) (by decide) rfl rfl ?_
        refine sv_iconst (pc := 27) (v := 1) dX12_open_27 (by decide) ?_
        refine sw_iadd (pc := 28) (v := 1) dX12_open_28 (by decide) ?_
        refine sw_irem (pc := 29) (v := 0) dX12_open_29 (by decide) (by decide) ?_
        refine sw_iastore (pc := 30) (k := 5) (v := .int 0) dX12_open_30 rfl rfl rfl (by decide) (by decide) rfl rfl ?_
        refine sw_iinc (pc := 31) (v := 6) dX12_open_31 rfl (by decide) (by decide) ?_
        refine sv_goto (pc := 34) (tgt := 2) dX12_open_34 (by decide) ?_
        refine sv_iload_n (pc := 2) dX12_open_2 rfl rfl ?_
        refine sv_bipush (pc := 3) (v := 6) dX12_open_3 (by decide) ?_
        refine sv_icmp_gt (pc := 5) (tgt := 37) dX12_open_5 (by decide) (fun h => absurd h (by decide)) (fun _ => ?_)
        refine sv_aload_n (pc := 8) dX12_open_8 rfl rfl ?_
        refine sw_getfield (pc := 9) dX12_open_9 (gCX12 _ _ _ _ _) 122 (by decide) wF_X12_526 rfl rfl rfl ?_
        refine sv_iload_n (pc := 12) dX12_open_12 rfl rfl ?_
        refine sv_iload_n (pc := 13) dX12_open_13 rfl rfl ?_
        refine sv_aload_n (pc := 14) dX12_open_14 rfl rfl ?_
        refine sw_getfield (pc := 15) dX12_open_15 (gCX12 _ _ _ _ _) 121 (by decide) wF_X12_523 rfl rfl rfl ?_
        refine sv_iload_n (pc := 18) dX12_open_18 rfl rfl ?_
        refine sw_iaload (pc := 19) (k := 6) (v := .int 1) dX12_open_19 rfl rfl rfl (by decide) (by decide) rfl rfl ?_
        refine sw_idiv (pc := 20) (v := 0) dX12_open_20 (by decide) (by decide) ?_
        refine sv_aload_n (pc := 21) dX12_open_21 rfl rfl ?_
        refine sw_getfield (pc := 22) dX12_open_22 (gCX12 _ _ _ _ _) 118 (by decide) wF_X12_514 rfl rfl rfl ?_
        refine sv_iload_n (pc := 25) dX12_open_25 rfl rfl ?_
        refine sw_iaload (pc := 26) (k := 6) (v := .int 0) dX12_open_26 rfl rfl rfl (by decide) (by decide) rfl rfl ?_
        refine sv_iconst (pc := 27) (v := 1) dX12_open_27 (by decide) ?_
        refine sw_iadd (pc := 28) (v := 1) dX12_open_28 (by decide) ?_
        refine sw_irem (pc := 29) (v := 0) dX12_open_29 (by decide) (by decide) ?_
        refine sw_iastore (pc := 30) (k := 6) (v := .int 0) dX12_open_30 rfl rfl rfl (by decide) (by decide) rfl rfl ?_
        refine sw_iinc (pc := 31) (v := 7) dX12_open_31 rfl (by decide) (by decide) ?_
        refine sv_goto (pc := 34) (tgt := 2) dX12_open_34 (by decide) ?_
        refine sv_iload_n (pc := 2) dX12_open_2 rfl rfl ?_
        refine sv_bipush (pc := 3) (v := 6) dX12_open_3 (by decide) ?_
        refine sv_icmp_gt (pc := 5) (tgt := 37) dX12_open_5 (by decide) (fun _ => ?_) (fun h => absurd (by decide) h)
        refine sv_vret (pc := 37) dX12_open_37 rfl (le_t rfl) (le_t rfl) ?_
        refine sv_iconst (pc := 5) (v := 1) dX12_isRest_5 (by decide) ?_
        refine sv_istore_n (pc := 6) dX12_isRest_6 rfl (by decide) ?_
        refine sv_iconst (pc := 7) (v := 1) dX12_isRest_7 (by decide) ?_
        refine sv_istore_n (pc := 8) dX12_isRest_8 rfl (by decide) ?_
        refine sv_iload_n (pc := 9) dX12_isRest_9 rfl rfl ?_
        refine sv_bipush (pc := 10) (v := 6) dX12_isRest_10 (by decide) ?_
        refine sv_icmp_gt (pc := 12) (tgt := 45) dX12_isRest_12 (by decide) (fun h => absurd h (by decide)) (fun _ => ?_)
        refine sv_iload_n (pc := 15) dX12_isRest_15 rfl rfl ?_
        refine sv_if_eq (pc := 16) (tgt := 45) dX12_isRest_16 (by decide) (fun h => absurd h (by decide)) (fun _ => ?_)
        refine sv_aload_n (pc := 19) dX12_isRest_19 rfl rfl ?_
        refine sv_iload_n (pc := 20) dX12_isRest_20 rfl rfl ?_
        refine sv_callV (pc := 21) (M' := mX12_acted) (d' := 18) (C' := 0) (S' := 0) (av := [.int 1]) ?_ (gOk _ _ _ _ _) dX12_isRest_21 (tX12_acted _ _ _ _ _) ⟨wV_X12_acted, wL_X12_acted⟩ wM_X12_725 (gCX12 _ _ _ _ _) rfl (lt_t rfl) rfl ⟨le_t rfl, le_t rfl⟩ ⟨le_t rfl, le_t rfl⟩ rfl (le_t rfl) (fun _ _ h => h)
        refine sC.of rfl (by decide) (le_t rfl) ?_
        refine sv_iconst (pc := 0) (v := 0) dX12_acted_0 (by decide) ?_
        refine sv_istore_n (pc := 1) dX12_acted_1 rfl (by decide) ?_
        refine sv_iload_n (pc := 2) dX12_acted_2 rfl rfl ?_
        refine sv_aload_n (pc := 3) dX12_acted_3 rfl rfl ?_
        refine sw_getfield (pc := 4) dX12_acted_4 (gCX12 _ _ _ _ _) 118 (by decide) wF_X12_514 rfl rfl rfl ?_
        refine sv_iload_n (pc := 7) dX12_acted_7 rfl rfl ?_
        refine sw_iaload (pc := 8) (k := 1) (v := .int 0) dX12_acted_8 rfl rfl rfl (by decide) (by decide) rfl rfl ?_
        refine sv_icmp_ge (pc := 9) (tgt := 32) dX12_acted_9 (by decide) (fun _ => ?_) (fun h => absurd (by decide) h)
        refine sv_aload_n (pc := 32) dX12_acted_32 rfl rfl ?_
        refine sw_getfield (pc := 33) dX12_acted_33 (gCX12 _ _ _ _ _) 118 (by decide) wF_X12_514 rfl rfl rfl ?_
        refine sv_iload_n (pc := 36) dX12_acted_36 rfl rfl ?_
        refine sw_iaload (pc := 37) (k := 1) (v := .int 0) dX12_acted_37 rfl rfl rfl (by decide) (by decide) rfl rfl ?_
        refine sv_iret (pc := 38) dX12_acted_38 rfl (le_t rfl) (le_t rfl) ?_
        refine sv_aload_n (pc := 24) dX12_isRest_24 rfl rfl ?_
        refine sw_getfield (pc := 25) dX12_isRest_25 (gCX12 _ _ _ _ _) 122 (by decide) wF_X12_526 rfl rfl rfl ?_
        refine sv_iload_n (pc := 28) dX12_isRest_28 rfl rfl ?_
        refine sw_iaload (pc := 29) (k := 1) (v := .int 0) dX12_isRest_29 rfl rfl rfl (by decide) (by decide) rfl rfl ?_
        refine sv_icmp_ne (pc := 30) (tgt := 37) dX12_isRest_30 (by decide) (fun h => absurd (by decide) h) (fun _ => ?_)
        refine sv_iconst (pc := 33) (v := 1) dX12_isRest_33 (by decide) ?_
        refine sv_goto (pc := 34) (tgt := 38) dX12_isRest_34 (by decide) ?_
        refine sv_istore_n (pc := 38) dX12_isRest_38 rfl (by decide) ?_
        refine sw_iinc (pc := 39) (v := 2) dX12_isRest_39 rfl (by decide) (by decide) ?_
        refine sv_goto (pc := 42) (tgt := 9) dX12_isRest_42 (by decide) ?_
        refine sv_iload_n (pc := 9) dX12_isRest_9 rfl rfl ?_
        refine sv_bipush (pc := 10) (v := 6) dX12_isRest_10 (by decide) ?_
        refine sv_icmp_gt (pc := 12) (tgt := 45) dX12_isRest_12 (by decide) (fun h => absurd h (by decide)) (fun _ => ?_)
        refine sv_iload_n (pc := 15) dX12_isRest_15 rfl rfl ?_
        refine sv_if_eq (pc := 16) (tgt := 45) dX12_isRest_16 (by decide) (fun h => absurd h (by decide)) (fun _ => ?_)
        refine sv_aload_n (pc := 19) dX12_isRest_19 rfl rfl ?_
        refine sv_iload_n (pc := 20) dX12_isRest_20 rfl rfl ?_
        refine sv_callV (pc := 21) (M' := mX12_acted) (d' := 18) (C' := 0) (S' := 0) (av := [.int 2]) ?_ (gOk _ _ _ _ _) dX12_isRest_21 (tX12_acted _ _ _ _ _) ⟨wV_X12_acted, wL_X12_acted⟩ wM_X12_725 (gCX12 _ _ _ _ _) rfl (lt_t rfl) rfl ⟨le_t rfl, le_t rfl⟩ ⟨le_t rfl, le_t rfl⟩ rfl (le_t rfl) (fun _ _ h => h)
        refine sC.of rfl (by decide) (le_t rfl) ?_
        refine sv_iconst (pc := 0) (v := 0) dX12_acted_0 (by decide) ?_
        refine sv_istore_n (pc := 1) dX12_acted_1 rfl (by decide) ?_
        refine sv_iload_n (pc := 2) dX12_acted_2 rfl rfl ?_
        refine sv_aload_n (pc := 3) dX12_acted_3 rfl rfl ?_
        refine sw_getfield (pc := 4) dX12_acted_4 (gCX12 _ _ _ _ _) 118 (by decide) wF_X12_514 rfl rfl rfl ?_
        refine sv_iload_n (pc := 7) dX12_acted_7 rfl rfl ?_
        refine sw_iaload (pc := 8) (k := 2) (v := .int 0) dX12_acted_8 rfl rfl rfl (by decide) (by decide) rfl rfl ?_
        refine sv_icmp_ge (pc := 9) (tgt := 32) dX12_acted_9 (by decide) (fun _ => ?_) (fun h => absurd (by decide) h)
        refine sv_aload_n (pc := 32) dX12_acted_32 rfl rfl ?_
        refine sw_getfield (pc := 33) dX12_acted_33 (gCX12 _ _ _ _ _) 118 (by decide) wF_X12_514 rfl rfl rfl ?_
        refine sv_iload_n (pc := 36) dX12_acted_36 rfl rfl ?_
        refine sw_iaload (pc := 37) (k := 2) (v := .int 0) dX12_acted_37 rfl rfl rfl (by decide) (by decide) rfl rfl ?_
        refine sv_iret (pc := 38) dX12_acted_38 rfl (le_t rfl) (le_t rfl) ?_
        refine sv_aload_n (pc := 24) dX12_isRest_24 rfl rfl ?_
        refine sw_getfield (pc := 25) dX12_isRest_25 (gCX12 _ _ _ _ _) 122 (by decide) wF_X12_526 rfl rfl rfl ?_
        refine sv_iload_n (pc := 28) dX12_isRest_28 rfl rfl ?_
        refine sw_iaload (pc := 29) (k := 2) (v := .int 0) dX12_isRest_29 rfl rfl rfl (by decide) (by decide) rfl rfl ?_
        refine sv_icmp_ne (pc := 30) (tgt := 37) dX12_isRest_30 (by decide) (fun h => absurd (by decide) h) (fun _ => ?_)
        refine sv_iconst (pc := 33) (v := 1) dX12_isRest_33 (by decide) ?_
        refine sv_goto (pc := 34) (tgt := 38) dX12_isRest_34 (by decide) ?_
        refine sv_istore_n (pc := 38) dX12_isRest_38 rfl (by decide) ?_
        refine sw_iinc (pc := 39) (v := 3) dX12_isRest_39 rfl (by decide) (by decide) ?_
        refine sv_goto (pc := 42) (tgt := 9) dX12_isRest_42 (by decide) ?_
        refine sv_iload_n (pc := 9) dX12_isRest_9 rfl rfl ?_
        refine sv_bipush (pc := 10) (v := 6) dX12_isRest_10 (by decide) ?_
        refine sv_icmp_gt (pc := 12) (tgt := 45) dX12_isRest_12 (by decide) (fun h => absurd h (by decide)) (fun _ => ?_)
        refine sv_iload_n (pc := 15) dX12_isRest_15 rfl rfl ?_
        refine sv_if_eq (pc := 16) (tgt := 45) dX12_isRest_16 (by decide) (fun h => absurd h (by decide)) (fun _ => ?_)
        refine sv_aload_n (pc := 19) dX12_isRest_19 rfl rfl ?_
        refine sv_iload_n (pc := 20) dX12_isRest_20 rfl rfl ?_
        refine sv_callV (pc := 21) (M' := mX12_acted) (d' := 18) (C' := 0) (S' := 0) (av := [.int 3]) ?_ (gOk _ _ _ _ _) dX12_isRest_21 (tX12_acted _ _ _ _ _) ⟨wV_X12_acted, wL_X12_acted⟩ wM_X12_725 (gCX12 _ _ _ _ _) rfl (lt_t rfl) rfl ⟨le_t rfl, le_t rfl⟩ ⟨le_t rfl, le_t rfl⟩ rfl (le_t rfl) (fun _ _ h => h)
        refine sC.of rfl (by decide) (le_t rfl) ?_
        refine sv_iconst (pc := 0) (v := 0) dX12_acted_0 (by decide) ?_
        refine sv_istore_n (pc := 1) dX12_acted_1 rfl (by decide) ?_
        refine sv_iload_n (pc := 2) dX12_acted_2 rfl rfl ?_
        refine sv_aload_n (pc := 3) dX12_acted_3 rfl rfl ?_
        refine sw_getfield (pc := 4) dX12_acted_4 (gCX12 _ _ _ _ _) 118 (by decide) wF_X12_514 rfl rfl rfl ?_
        refine sv_iload_n (pc := 7) dX12_acted_7 rfl rfl ?_
        refine sw_iaload (pc := 8) (k := 3) (v := .int 0) dX12_acted_8 rfl rfl rfl (by decide) (by decide) rfl rfl ?_
        refine sv_icmp_ge (pc := 9) (tgt := 32) dX12_acted_9 (by decide) (fun _ => ?_) (fun h => absurd (by decide) h)
        refine sv_aload_n (pc := 32) dX12_acted_32 rfl rfl ?_
        refine sw_getfield (pc := 33) dX12_acted_33 (gCX12 _ _ _ _ _) 118 (by decide) wF_X12_514 rfl rfl rfl ?_
        refine sv_iload_n (pc := 36) dX12_acted_36 rfl rfl ?_
        refine sw_iaload (pc := 37) (k := 3) (v := .int 0) dX12_acted_37 rfl rfl rfl (by decide) (by decide) rfl rfl ?_
        refine sv_iret (pc := 38) dX12_acted_38 rfl (le_t rfl) (le_t rfl) ?_
        refine sv_aload_n (pc := 24) dX12_isRest_24 rfl rfl ?_
        refine sw_getfield (pc := 25) dX12_isRest_25 (gCX12 _ _ _ _ _) 122 (by decide) wF_X12_526 rfl rfl rfl ?_
        refine sv_iload_n (pc := 28) dX12_isRest_28 rfl rfl ?_
        refine sw_iaload (pc := 29) (k := 3) (v := .int 0) dX12_isRest_29 rfl rfl rfl (by decide) (by decide) rfl rfl ?_
        refine sv_icmp_ne (pc := 30) (tgt := 37) dX12_isRest_30 (by decide) (fun h => absurd (by decide) h) (fun _ => ?_)
        refine sv_iconst (pc := 33) (v := 1) dX12_isRest_33 (by decide) ?_
        refine sv_goto (pc := 34) (tgt := 38) dX12_isRest_34 (by decide) ?_
        refine sv_istore_n (pc := 38) dX12_isRest_38 rfl (by decide) ?_
        refine sw_iinc (pc := 39) (v := 4) dX12_isRest_39 rfl (by decide) (by decide) ?_
        refine sv_lvG (pc := 42) (lv' := [(0, .ref 106), (1, .int 0), (2, .int 1), (3, .int 4)]) (List.forall_mem_cons.mpr ⟨rfl, List.forall_mem_cons.mpr ⟨rfl, List.forall_mem_cons.mpr ⟨rfl, List.forall_mem_cons.mpr ⟨rfl, fun _ h => absurd h List.not_mem_nil⟩⟩⟩⟩) ?_
        refine sv_goto (pc := 42) (tgt := 9) dX12_isRest_42 (by decide) ?_
        refine sv_iload_n (pc := 9) dX12_isRest_9 rfl rfl ?_
        refine sv_bipush (pc := 10) (v := 6) dX12_isRest_10 (by decide) ?_
        refine sv_icmp_gt (pc := 12) (tgt := 45) dX12_isRest_12 (by decide) (fun h => absurd h (by decide)) (fun _ => ?_)
        refine sv_iload_n (pc := 15) dX12_isRest_15 rfl rfl ?_
        refine sv_if_eq (pc := 16) (tgt := 45) dX12_isRest_16 (by decide) (fun h => absurd h (by decide)) (fun _ => ?_)
        refine sv_aload_n (pc := 19) dX12_isRest_19 rfl rfl ?_
        refine sv_iload_n (pc := 20) dX12_isRest_20 rfl rfl ?_
        refine sv_callV (pc := 21) (M' := mX12_acted) (d' := 18) (C' := 0) (S' := 0) (av := [.int 4]) ?_ (gOk _ _ _ _ _) dX12_isRest_21 (tX12_acted _ _ _ _ _) ⟨wV_X12_acted, wL_X12_acted⟩ wM_X12_725 (gCX12 _ _ _ _ _) rfl (lt_t rfl) rfl ⟨le_t rfl, le_t rfl⟩ ⟨le_t rfl, le_t rfl⟩ rfl (le_t rfl) (fun _ _ h => h)
        refine sC.of rfl (by decide) (le_t rfl) ?_
        refine sv_iconst (pc := 0) (v := 0) dX12_acted_0 (by decide) ?_
        refine sv_istore_n (pc := 1) dX12_acted_1 rfl (by decide) ?_
        refine sv_iload_n (pc := 2) dX12_acted_2 rfl rfl ?_
        refine sv_aload_n (pc := 3) dX12_acted_3 rfl rfl ?_
        refine sw_getfield (pc := 4) dX12_acted_4 (gCX12 _ _ _ _ _) 118 (by decide) wF_X12_514 rfl rfl rfl ?_
        refine sv_iload_n (pc := 7) dX12_acted_7 rfl rfl ?_
        refine sw_iaload (pc := 8) (k := 4) (v := .int 0) dX12_acted_8 rfl rfl rfl (by decide) (by decide) rfl rfl ?_
        refine sv_icmp_ge (pc := 9) (tgt := 32) dX12_acted_9 (by decide) (fun _ => ?_) (fun h => absurd (by decide) h)
        refine sv_aload_n (pc := 32) dX12_acted_32 rfl rfl ?_
        refine sw_getfield (pc := 33) dX12_acted_33 (gCX12 _ _ _ _ _) 118 (by decide) wF_X12_514 rfl rfl rfl ?_
        refine sv_iload_n (pc := 36) dX12_acted_36 rfl rfl ?_
        refine sw_iaload (pc := 37) (k := 4) (v := .int 0) dX12_acted_37 rfl rfl rfl (by decide) (by decide) rfl rfl ?_
        refine sv_iret (pc := 38) dX12_acted_38 rfl (le_t rfl) (le_t rfl) ?_
        refine sv_aload_n (pc := 24) dX12_isRest_24 rfl rfl ?_
        refine sw_getfield (pc := 25) dX12_isRest_25 (gCX12 _ _ _ _ _) 122 (by decide) wF_X12_526 rfl rfl rfl ?_
        refine sv_iload_n (pc := 28) dX12_isRest_28 rfl rfl ?_
        refine sw_iaload (pc := 29) (k := 4) (v := .int 0) dX12_isRest_29 rfl rfl rfl (by decide) (by decide) rfl rfl ?_
        refine sv_icmp_ne (pc := 30) (tgt := 37) dX12_isRest_30 (by decide) (fun h => absurd (by decide) h) (fun _ => ?_)
        refine sv_iconst (pc := 33) (v := 1) dX12_isRest_33 (by decide) ?_
        refine sv_goto (pc := 34) (tgt := 38) dX12_isRest_34 (by decide) ?_
        refine sv_istore_n (pc := 38) dX12_isRest_38 rfl (by decide) ?_
        refine sw_iinc (pc := 39) (v := 5) dX12_isRest_39 rfl (by decide) (by decide) ?_
        refine sv_goto (pc := 42) (tgt := 9) dX12_isRest_42 (by decide) ?_
        refine sv_iload_n (pc := 9) dX12_isRest_9 rfl rfl ?_
        refine sv_bipush (pc := 10) (v := 6) dX12_isRest_10 (by decide) ?_
        refine sv_icmp_gt (pc := 12) (tgt := 45) dX12_isRest_12 (by decide) (fun h => absurd h (by decide)) (fun _ => ?_)
        refine sv_iload_n (pc := 15) dX12_isRest_15 rfl rfl ?_
        refine sv_if_eq (pc := 16) (tgt := 45) dX12_isRest_16 (by decide) (fun h => absurd h (by decide)) (fun _ => ?_)
        refine sv_aload_n (pc := 19) dX12_isRest_19 rfl rfl ?_
        refine sv_iload_n (pc := 20) dX12_isRest_20 rfl rfl ?_
        refine sv_callV (pc := 21) (M' := mX12_acted) (d' := 18) (C' := 0) (S' := 0) (av := [.int 5]) ?_ (gOk _ _ _ _ _) dX12_isRest_21 (tX12_acted _ _ _ _ _) ⟨wV_X12_acted, wL_X12_acted⟩ wM_X12_725 (gCX12 _ _ _ _ _) rfl (lt_t rfl) rfl ⟨le_t rfl, le_t rfl⟩ ⟨le_t rfl, le_t rfl⟩ rfl (le_t rfl) (fun _ _ h => h)
        refine sC.of rfl (by decide) (le_t rfl) ?_
        refine sv_iconst (pc := 0) (v := 0) dX12_acted_0 (by decide) ?_
        refine sv_istore_n (pc := 1) dX12_acted_1 rfl (by decide) ?_
        refine sv_iload_n (pc := 2) dX12_acted_2 rfl rfl ?_
        refine sv_aload_n (pc := 3) dX12_acted_3 rfl rfl ?_
        refine sw_getfield (pc := 4) dX12_acted_4 (gCX12 _ _ _ _ _) 118 (by decide) wF_X12_514 rfl rfl rfl ?_
        refine sv_iload_n (pc := 7) dX12_acted_7 rfl rfl ?_
        refine sw_iaload (pc := 8) (k := 5) (v := .int 0) dX12_acted_8 rfl rfl rfl (by decide) (by decide) rfl rfl ?_
        refine sv_icmp_ge (pc := 9) (tgt := 32) dX12_acted_9 (by decide) (fun _ => ?_) (fun h => absurd (by decide) h)
        refine sv_aload_n (pc := 32) dX12_acted_32 rfl rfl ?_
        refine sw_getfield (pc := 33) dX12_acted_33 (gCX12 _ _ _ _ _) 118 (by decide) wF_X12_514 rfl rfl rfl ?_
        refine sv_iload_n (pc := 36) dX12_acted_36 rfl rfl ?_
        refine sw_iaload (pc := 37) (k := 5) (v := .int 0) dX12_acted_37 rfl rfl rfl (by decide) (by decide) rfl rfl ?_
        refine sv_iret (pc := 38) dX12_acted_38 rfl (le_t rfl) (le_t rfl) ?_
        refine sv_aload_n (pc := 24) dX12_isRest_24 rfl rfl ?_
        refine sw_getfield (pc := 25) dX12_isRest_25 (gCX12 _ _ _ _ _) 122 (by decide) wF_X12_526 rfl rfl rfl ?_
        refine sv_iload_n (pc := 28) dX12_isRest_28 rfl rfl ?_
        refine sw_iaload (pc := 29) (k := 5) (v := .int 0) dX12_isRest_29 rfl rfl rfl (by decide) (by decide) rfl rfl ?_
        refine sv_icmp_ne (pc := 30) (tgt := 37) dX12_isRest_30 (by decide) (fun h => absurd (by decide) h) (fun _ => ?_)
        refine sv_iconst (pc := 33) (v := 1) dX12_isRest_33 (by decide) ?_
        refine sv_goto (pc := 34) (tgt := 38) dX12_isRest_34 (by decide) ?_
        refine sv_istore_n (pc := 38) dX12_isRest_38 rfl (by decide) ?_
        refine sw_iinc (pc := 39) (v := 6) dX12_isRest_39 rfl (by decide) (by decide) ?_
        refine sv_goto (pc := 42) (tgt := 9) dX12_isRest_42 (by decide) ?_
        refine sv_iload_n (pc := 9) dX12_isRest_9 rfl rfl ?_
        refine sv_bipush (pc := 10) (v := 6) dX12_isRest_10 (by decide) ?_
        refine sv_icmp_gt (pc := 12) (tgt := 45) dX12_isRest_12 (by decide) (fun h => absurd h (by decide)) (fun _ => ?_)
        refine sv_iload_n (pc := 15) dX12_isRest_15 rfl rfl ?_
        refine sv_if_eq (pc := 16) (tgt := 45) dX12_isRest_16 (by decide) (fun h => absurd h (by decide)) (fun _ => ?_)
        refine sv_aload_n (pc := 19) dX12_isRest_19 rfl rfl ?_
        refine sv_iload_n (pc := 20) dX12_isRest_20 rfl rfl ?_
        refine sv_callV (pc := 21) (M' := mX12_acted) (d' := 18) (C' := 0) (S' := 0) (av := [.int 6]) ?_ (gOk _ _ _ _ _) dX12_isRest_21 (tX12_acted _ _ _ _ _) ⟨wV_X12_acted, wL_X12_acted⟩ wM_X12_725 (gCX12 _ _ _ _ _) rfl (lt_t rfl) rfl ⟨le_t rfl, le_t rfl⟩ ⟨le_t rfl, le_t rfl⟩ rfl (le_t rfl) (fun _ _ h => h)
        refine sC.of rfl (by decide) (le_t rfl) ?_
        refine sv_iconst (pc := 0) (v := 0) dX12_acted_0 (by decide) ?_
        refine sv_istore_n (pc := 1) dX12_acted_1 rfl (by decide) ?_
        refine sv_iload_n (pc := 2) dX12_acted_2 rfl rfl ?_
        refine sv_aload_n (pc := 3) dX12_acted_3 rfl rfl ?_
        refine sw_getfield (pc := 4) dX12_acted_4 (gCX12 _ _ _ _ _) 118 (by decide) wF_X12_514 rfl rfl rfl ?_
        refine sv_iload_n (pc := 7) dX12_acted_7 rfl rfl ?_
        refine sw_iaload (pc := 8) (k := 6) (v := .int 0) dX12_acted_8 rfl rfl rfl (by decide) (by decide) rfl rfl ?_
        refine sv_icmp_ge (pc := 9) (tgt := 32) dX12_acted_9 (by decide) (fun _ => ?_) (fun h => absurd (by decide) h)
        refine sv_aload_n (pc := 32) dX12_acted_32 rfl rfl ?_
        refine sw_getfield (pc := 33) dX12_acted_33 (gCX12 _ _ _ _ _) 118 (by decide) wF_X12_514 rfl rfl rfl ?_
        refine sv_iload_n (pc := 36) dX12_acted_36 rfl rfl ?_
        refine sw_iaload (pc := 37) (k := 6) (v := .int 0) dX12_acted_37 rfl rfl rfl (by decide) (by decide) rfl rfl ?_
        refine sv_iret (pc := 38) dX12_acted_38 rfl (le_t rfl) (le_t rfl) ?_
        refine sv_aload_n (pc := 24) dX12_isRest_24 rfl rfl ?_
        refine sw_getfield (pc := 25) dX12_isRest_25 (gCX12 _ _ _ _ _) 122 (by decide) wF_X12_526 rfl rfl rfl ?_
        refine sv_iload_n (pc := 28) dX12_isRest_28 rfl rfl ?_
        refine sw_iaload (pc := 29) (k := 6) (v := .int 0) dX12_isRest_29 rfl rfl rfl (by decide) (by decide) rfl rfl ?_
        refine sv_icmp_ne (pc := 30) (tgt := 37) dX12_isRest_30 (by decide) (fun h => absurd (by decide) h) (fun _ => ?_)
        refine sv_iconst (pc := 33) (v := 1) dX12_isRest_33 (by decide) ?_
        refine sv_goto (pc := 34) (tgt := 38) dX12_isRest_34 (by decide) ?_
        refine sv_istore_n (pc := 38) dX12_isRest_38 rfl (by decide) ?_
        refine sw_iinc (pc := 39) (v := 7) dX12_isRest_39 rfl (by decide) (by decide) ?_
        refine sv_goto (pc := 42) (tgt := 9) dX12_isRest_42 (by decide) ?_
        refine sv_iload_n (pc := 9) dX12_isRest_9 rfl rfl ?_
        refine sv_bipush (pc := 10) (v := 6) dX12_isRest_10 (by decide) ?_
        refine sv_icmp_gt (pc := 12) (tgt := 45) dX12_isRest_12 (by decide) (fun _ => ?_) (fun h => absurd (by decide) h)
        refine sv_iload_n (pc := 45) dX12_isRest_45 rfl rfl ?_
        refine sv_zret (pc := 46) dX12_isRest_46 rfl (by decide) (le_t rfl) (le_t rfl) ?_
        refine sv_if_ne (pc := 39) (tgt := 45) dX12_rest_39 (by decide) (fun _ => ?_) (fun h => absurd h (by decide))
        refine sv_iload (pc := 45) dX12_rest_45 rfl ?_
        refine sv_if_ne (pc := 47) (tgt := 83) dX12_rest_47 (by decide) (fun h => absurd (by decide) h) (fun _ => ?_)
        refine sv_aload_n (pc := 50) dX12_rest_50 rfl rfl ?_
        refine sv_iload (pc := 51) dX12_rest_51 rfl ?_
        refine sv_callV (pc := 53) (M' := mX12_open) (d' := 19) (C' := 0) (S' := 0) (av := [.int 0]) ?_ (gOk _ _ _ _ _) dX12_rest_53 (tX12_open _ _ _ _ _) ⟨wV_X12_open, wL_X12_open⟩ wM_X12_722 (gCX12 _ _ _ _ _) rfl (lt_t rfl) rfl ⟨le_t rfl, le_t rfl⟩ ⟨le_t rfl, le_t rfl⟩ rfl (le_t rfl) (fun _ _ h => h)
        refine sC.of rfl (by decide) (le_t rfl) ?_
        refine sv_iconst (pc := 0) (v := 1) dX12_open_0 (by decide) ?_
        refine sv_istore_n (pc := 1) dX12_open_1 rfl (by decide) ?_
        refine sv_iload_n (pc := 2) dX12_open_2 rfl rfl ?_
        refine sv_bipush (pc := 3) (v := 6) dX12_open_3 (by decide) ?_
        refine sv_icmp_gt (pc := 5) (tgt := 37) dX12_open_5 (by decide) (fun h => absurd h (by decide)) (fun _ => ?_)
        refine sv_aload_n (pc := 8) dX12_open_8 rfl rfl ?_
        refine sw_getfield (pc := 9) dX12_open_9 (gCX12 _ _ _ _ _) 122 (by decide) wF_X12_526 rfl rfl rfl ?_
        refine sv_iload_n (pc := 12) dX12_open_12 rfl rfl ?_
        refine sv_iload_n (pc := 13) dX12_open_13 rfl rfl ?_
        refine sv_aload_n (pc := 14) dX12_open_14 rfl rfl ?_
        refine sw_getfield (pc := 15) dX12_open_15 (gCX12 _ _ _ _ _) 121 (by decide) wF_X12_523 rfl rfl rfl ?_
        refine sv_iload_n (pc := 18) dX12_open_18 rfl rfl ?_
        refine sw_iaload (pc := 19) (k := 1) (v := .int 1) dX12_open_19 rfl rfl rfl (by decide) (by decide) rfl rfl ?_
        refine sw_idiv (pc := 20) (v := 0) dX12_open_20 (by decide) (by decide) ?_
        refine sv_aload_n (pc := 21) dX12_open_21 rfl rfl ?_
        refine sw_getfield (pc := 22) dX12_open_22 (gCX12 _ _ _ _ _) 118 (by decide) wF_X12_514 rfl rfl rfl ?_
        refine sv_iload_n (pc := 25) dX12_open_25 rfl rfl ?_
        refine sw_iaload (pc := 26) (k := 1) (v := .int 0) dX12_open_26 rfl rfl rfl (by decide) (by decide) rfl rfl ?_
        refine sv_iconst (pc := 27) (v := 1) dX12_open_27 (by decide) ?_
        refine sw_iadd (pc := 28) (v := 1) dX12_open_28 (by decide) ?_
        refine sw_irem (pc := 29) (v := 0) dX12_open_29 (by decide) (by decide) ?_
        refine sw_iastore (pc := 30) (k := 1) (v := .int 0) dX12_open_30 rfl rfl rfl (by decide) (by decide) rfl rfl ?_
        refine sw_iinc (pc := 31) (v := 2) dX12_open_31 rfl (by decide) (by decide) ?_
        refine sv_goto (pc := 34) (tgt := 2) dX12_open_34 (by decide) ?_
        refine sv_iload_n (pc := 2) dX12_open_2 rfl rfl ?_
        refine sv_bipush (pc := 3) (v := 6) dX12_open_3 (by decide) ?_
        refine sv_icmp_gt (pc := 5) (tgt := 37) dX12_open_5 (by decide) (fun h => absurd h (by decide)) (fun _ => ?_)
        refine sv_aload_n (pc := 8) dX12_open_8 rfl rfl ?_
        refine sw_getfield (pc := 9) dX12_open_9 (gCX12 _ _ _ _ _) 122 (by decide) wF_X12_526 rfl rfl rfl ?_
        refine sv_iload_n (pc := 12) dX12_open_12 rfl rfl ?_
        refine sv_iload_n (pc := 13) dX12_open_13 rfl rfl ?_
        refine sv_aload_n (pc := 14) dX12_open_14 rfl rfl ?_
        refine sw_getfield (pc := 15) dX12_open_15 (gCX12 _ _ _ _ _) 121 (by decide) wF_X12_523 rfl rfl rfl ?_
        refine sv_iload_n (pc := 18) dX12_open_18 rfl rfl ?_
        refine sw_iaload (pc := 19) (k := 2) (v := .int 1) dX12_open_19 rfl rfl rfl (by decide) (by decide) rfl rfl ?_
        refine sw_idiv (pc := 20) (v := 0) dX12_open_20 (by decide) (by decide) ?_
        refine sv_aload_n (pc := 21) dX12_open_21 rfl rfl ?_
        refine sw_getfield (pc := 22) dX12_open_22 (gCX12 _ _ _ _ _) 118 (by decide) wF_X12_514 rfl rfl rfl ?_
        refine sv_iload_n (pc := 25) dX12_open_25 rfl rfl ?_
        refine sw_iaload (pc := 26) (k := 2) (v := .int 0) dX12_open_26 rfl rfl rfl (by decide) (by decide) rfl rfl ?_
        refine sv_iconst (pc := 27) (v := 1) dX12_open_27 (by decide) ?_
        refine sw_iadd (pc := 28) (v := 1) dX12_open_28 (by decide) ?_
        refine sw_irem (pc := 29) (v := 0) dX12_open_29 (by decide) (by decide) ?_
        refine sw_iastore (pc := 30) (k := 2) (v := .int 0) dX12_open_30 rfl rfl rfl (by decide) (by decide) rfl rfl ?_
        refine sw_iinc (pc := 31) (v := 3) dX12_open_31 rfl (by decide) (by decide) ?_
        refine sv_goto (pc := 34) (tgt := 2) dX12_open_34 (by decide) ?_
        refine sv_iload_n (pc := 2) dX12_open_2 rfl rfl ?_
        refine sv_bipush (pc := 3) (v := 6) dX12_open_3 (by decide) ?_
        refine sv_icmp_gt (pc := 5) (tgt := 37) dX12_open_5 (by decide) (fun h => absurd h (by decide)) (fun _ => ?_)
        refine sv_aload_n (pc := 8) dX12_open_8 rfl rfl ?_
        refine sw_getfield (pc := 9) dX12_open_9 (gCX12 _ _ _ _ _) 122 (by decide) wF_X12_526 rfl rfl rfl ?_
        refine sv_iload_n (pc := 12) dX12_open_12 rfl rfl ?_
        refine sv_iload_n (pc := 13) dX12_open_13 rfl rfl ?_
        refine sv_aload_n (pc := 14) dX12_open_14 rfl rfl ?_
        refine sw_getfield (pc := 15) dX12_open_15 (gCX12 _ _ _ _ _) 121 (by decide) wF_X12_523 rfl rfl rfl ?_
        refine sv_iload_n (pc := 18) dX12_open_18 rfl rfl ?_
        refine sw_iaload (pc := 19) (k := 3) (v := .int 1) dX12_open_19 rfl rfl rfl (by decide) (by decide) rfl rfl ?_
        refine sw_idiv (pc := 20) (v := 0) dX12_open_20 (by decide) (by decide) ?_
        refine sv_aload_n (pc := 21) dX12_open_21 rfl rfl ?_
        refine sw_getfield (pc := 22) dX12_open_22 (gCX12 _ _ _ _ _) 118 (by decide) wF_X12_514 rfl rfl rfl ?_
        refine sv_iload_n (pc := 25) dX12_open_25 rfl rfl ?_
        refine sw_iaload (pc := 26) (k := 3) (v := .int 0) dX12_open_26 rfl rfl rfl (by decide) (by decide) rfl rfl ?_
        refine sv_iconst (pc := 27) (v := 1) dX12_open_27 (by decide) ?_
        refine sw_iadd (pc := 28) (v := 1) dX12_open_28 (by decide) ?_
        refine sw_irem (pc := 29) (v := 0) dX12_open_29 (by decide) (by decide) ?_
        refine sw_iastore (pc := 30) (k := 3) (v := .int 0) dX12_open_30 rfl rfl rfl (by decide) (by decide) rfl rfl ?_
        refine sw_iinc (pc := 31) (v := 4) dX12_open_31 rfl (by decide) (by decide) ?_
        refine sv_goto (pc := 34) (tgt := 2) dX12_open_34 (by decide) ?_
        refine sv_iload_n (pc := 2) dX12_open_2 rfl rfl ?_
        refine sv_bipush (pc := 3) (v := 6) dX12_open_3 (by decide) ?_
        refine sv_icmp_gt (pc := 5) (tgt := 37) dX12_open_5 (by decide) (fun h => absurd h (by decide)) (fun _ => ?_)
        refine sv_aload_n (pc := 8) dX12_open_8 rfl rfl ?_
        refine sw_getfield (pc := 9) dX12_open_9 (gCX12 _ _ _ _ _) 122 (by decide) wF_X12_526 rfl rfl rfl ?_
        refine sv_iload_n (pc := 12) dX12_open_12 rfl rfl ?_
        refine sv_iload_n (pc := 13) dX12_open_13 rfl rfl ?_
        refine sv_aload_n (pc := 14) dX12_open_14 rfl rfl ?_
        refine sw_getfield (pc := 15) dX12_open_15 (gCX12 _ _ _ _ _) 121 (by decide) wF_X12_523 rfl rfl rfl ?_
        refine sv_iload_n (pc := 18) dX12_open_18 rfl rfl ?_
        refine sw_iaload (pc := 19) (k := 4) (v := .int 1) dX12_open_19 rfl rfl rfl (by decide) (by decide) rfl rfl ?_
        refine sw_idiv (pc := 20) (v := 0) dX12_open_20 (by decide) (by decide) ?_
        refine sv_aload_n (pc := 21) dX12_open_21 rfl rfl ?_
        refine sw_getfield (pc := 22) dX12_open_22 (gCX12 _ _ _ _ _) 118 (by decide) wF_X12_514 rfl rfl rfl ?_
        refine sv_iload_n (pc := 25) dX12_open_25 rfl rfl ?_
        refine sw_iaload (pc := 26) (k := 4) (v := .int 0) dX12_open_26 rfl rfl rfl (by decide) (by decide) rfl rfl ?_
        refine sv_iconst (pc := 27) (v := 1) dX12_open_27 (by decide) ?_
        refine sw_iadd (pc := 28) (v := 1) dX12_open_28 (by decide) ?_
        refine sw_irem (pc := 29) (v := 0) dX12_open_29 (by decide) (by decide) ?_
        refine sw_iastore (pc := 30) (k := 4) (v := .int 0) dX12_open_30 rfl rfl rfl (by decide) (by decide) rfl rfl ?_
        refine sw_iinc (pc := 31) (v := 5) dX12_open_31 rfl (by decide) (by decide) ?_
        refine sv_goto (pc := 34) (tgt := 2) dX12_open_34 (by decide) ?_
        refine sv_iload_n (pc := 2) dX12_open_2 rfl rfl ?_
        refine sv_bipush (pc := 3) (v := 6) dX12_open_3 (by decide) ?_
        refine sv_icmp_gt (pc := 5) (tgt := 37) dX12_open_5 (by decide) (fun h => absurd h (by decide)) (fun _ => ?_)
        refine sv_aload_n (pc := 8) dX12_open_8 rfl rfl ?_
        refine sw_getfield (pc := 9) dX12_open_9 (gCX12 _ _ _ _ _) 122 (by decide) wF_X12_526 rfl rfl rfl ?_
        refine sv_iload_n (pc := 12) dX12_open_12 rfl rfl ?_
        refine sv_iload_n (pc := 13) dX12_open_13 rfl rfl ?_
        refine sv_aload_n (pc := 14) dX12_open_14 rfl rfl ?_
        refine sw_getfield (pc := 15) dX12_open_15 (gCX12 _ _ _ _ _) 121 (by decide) wF_X12_523 rfl rfl rfl ?_
        refine sv_iload_n (pc := 18) dX12_open_18 rfl rfl ?_
        refine sw_iaload (pc := 19) (k := 5) (v := .int 1) dX12_open_19 rfl rfl rfl (by decide) (by decide) rfl rfl ?_
        refine sw_idiv (pc := 20) (v := 0) dX12_open_20 (by decide) (by decide) ?_
        refine sv_aload_n (pc := 21) dX12_open_21 rfl rfl ?_
        refine sw_getfield (pc := 22) dX12_open_22 (gCX12 _ _ _ _ _) 118 (by decide) wF_X12_514 rfl rfl rfl ?_
        refine sv_iload_n (pc := 25) dX12_open_25 rfl rfl ?_
        refine sw_iaload (pc := 26) (k := 5) (v := .int 0) dX12_open_26 rfl rfl rfl (by decide) (by decide) rfl rfl ?_
        refine sv_iconst (pc := 27) (v := 1) dX12_open_27 (by decide) ?_
        refine sw_iadd (pc := 28) (v := 1) dX12_open_28 (by decide) ?_
        refine sw_irem (pc := 29) (v := 0) dX12_open_29 (by decide) (by decide) ?_
        refine sw_iastore (pc := 30) (k := 5) (v := .int 0) dX12_open_30 rfl rfl rfl (by decide) (by decide) rfl rfl ?_
        refine sw_iinc (pc := 31) (v := 6) dX12_open_31 rfl (by decide) (by decide) ?_
        refine sv_goto (pc := 34) (tgt := 2) dX12_open_34 (by decide) ?_
        refine sv_iload_n (pc := 2) dX12_open_2 rfl rfl ?_
        refine sv_bipush (pc := 3) (v := 6) dX12_open_3 (by decide) ?_
        refine sv_icmp_gt (pc := 5) (tgt := 37) dX12_open_5 (by decide) (fun h => absurd h (by decide)) (fun _ => ?_)
        refine sv_aload_n (pc := 8) dX12_open_8 rfl rfl ?_
        refine sw_getfield (pc := 9) dX12_open_9 (gCX12 _ _ _ _ _) 122 (by decide) wF_X12_526 rfl rfl rfl ?_
        refine sv_iload_n (pc := 12) dX12_open_12 rfl rfl ?_
        refine sv_iload_n (pc := 13) dX12_open_13 rfl rfl ?_
        refine sv_aload_n (pc := 14) dX12_open_14 rfl rfl ?_
        refine sw_getfield (pc := 15) dX12_open_15 (gCX12 _ _ _ _ _) 121 (by decide) wF_X12_523 rfl rfl rfl ?_
        refine sv_iload_n (pc := 18) dX12_open_18 rfl rfl ?_
        refine sw_iaload (pc := 19) (k := 6) (v := .int 1) dX12_open_19 rfl rfl rfl (by decide) (by decide) rfl rfl ?_
        refine sw_idiv (pc := 20) (v := 0) dX12_open_20 (by decide) (by decide) ?_
        refine sv_aload_n (pc := 21) dX12_open_21 rfl rfl ?_
        refine sw_getfield (pc := 22) dX12_open_22 (gCX12 _ _ _ _ _) 118 (by decide) wF_X12_514 rfl rfl rfl ?_
        refine sv_iload_n (pc := 25) dX12_open_25 rfl rfl ?_
        refine sw_iaload (pc := 26) (k := 6) (v := .int 0) dX12_open_26 rfl rfl rfl (by decide) (by decide) rfl rfl ?_
        refine sv_iconst (pc := 27) (v := 1) dX12_open_27 (by decide) ?_
        refine sw_iadd (pc := 28) (v := 1) dX12_open_28 (by decide) ?_
        refine sw_irem (pc := 29) (v := 0) dX12_open_29 (by decide) (by decide) ?_
        refine sw_iastore (pc := 30) (k := 6) (v := .int 0) dX12_open_30 rfl rfl rfl (by decide) (by decide) rfl rfl ?_
        refine sw_iinc (pc := 31) (v := 7) dX12_open_31 rfl (by decide) (by decide) ?_
        refine sv_goto (pc := 34) (tgt := 2) dX12_open_34 (by decide) ?_
        refine sv_iload_n (pc := 2) dX12_open_2 rfl rfl ?_
        refine sv_bipush (pc := 3) (v := 6) dX12_open_3 (by decide) ?_
        refine sv_icmp_gt (pc := 5) (tgt := 37) dX12_open_5 (by decide) (fun _ => ?_) (fun h => absurd (by decide) h)
        refine sv_vret (pc := 37) dX12_open_37 rfl (le_t rfl) (le_t rfl) ?_
        refine sv_aload_n (pc := 56) dX12_rest_56 rfl rfl ?_
        refine sw_getfield (pc := 57) dX12_rest_57 (gCX12 _ _ _ _ _) 122 (by decide) wF_X12_526 rfl rfl rfl ?_
        refine sv_iload_n (pc := 60) dX12_rest_60 rfl rfl ?_
        refine sw_iaload (pc := 61) (k := 1) (v := .int 0) dX12_rest_61 rfl rfl rfl (by decide) (by decide) rfl rfl ?_
        refine sv_aload_n (pc := 62) dX12_rest_62 rfl rfl ?_
        refine sw_getfield (pc := 63) dX12_rest_63 (gCX12 _ _ _ _ _) 118 (by decide) wF_X12_514 rfl rfl rfl ?_
        refine sv_iload_n (pc := 66) dX12_rest_66 rfl rfl ?_
        refine sw_iaload (pc := 67) (k := 1) (v := .int 0) dX12_rest_67 rfl rfl rfl (by decide) (by decide) rfl rfl ?_
        refine sv_icmp_ne (pc := 68) (tgt := 76) dX12_rest_68 (by decide) (fun h => absurd (by decide) h) (fun _ => ?_)
        refine sv_bipush (pc := 71) (v := (-4)) dX12_rest_71 (by decide) ?_
        refine sv_goto (pc := 73) (tgt := 82) dX12_rest_73 (by decide) ?_
        refine sv_iret (pc := 82) dX12_rest_82 rfl (le_t rfl) (le_t rfl) ?_
        refine sv_icmp_eq (pc := 1748) (tgt := 1799) dL_law_1748 (by decide) (fun _ => ?_) (fun h => absurd (by decide) h)
        exact kk _ _ _ (le_t rfl) (le_t rfl)
      by_cases q_7 : x2 = 2
      · subst q_7
        refine sw_iaload (pc := 5) (k := 2) (v := .int 1) dX4_figure_5 rfl rfl rfl (by decide) (by decide) rfl rfl ?_
        refine sv_istore_n (pc := 6) dX4_figure_6 rfl (by decide) ?_
        refine sv_iload_n (pc := 7) dX4_figure_7 rfl rfl ?_
        refine sv_if_le (pc := 8) (tgt := 26) dX4_figure_8 (by decide) (fun h => absurd h (by decide)) (fun _ => ?_)
        refine sv_iload_n (pc := 11) dX4_figure_11 rfl rfl ?_
        refine sv_iload_n (pc := 12) dX4_figure_12 rfl rfl ?_
        refine sw_idiv (pc := 13) (v := 0) dX4_figure_13 (by decide) (by decide) ?_
        refine sv_aload_n (pc := 14) dX4_figure_14 rfl rfl ?_
        refine sw_getfield (pc := 15) dX4_figure_15 (gCX4 _ _ _ _ _) 12 (by decide) wF_X4_11 rfl rfl rfl ?_
        refine sv_iload_n (pc := 18) dX4_figure_18 rfl rfl ?_
        refine sw_iaload (pc := 19) (k := 2) (v := .int 0) dX4_figure_19 rfl rfl rfl (by decide) (by decide) rfl rfl ?_
        refine sv_iconst (pc := 20) (v := 1) dX4_figure_20 (by decide) ?_
        refine sw_iadd (pc := 21) (v := 1) dX4_figure_21 (by decide) ?_
        refine sw_irem (pc := 22) (v := 0) dX4_figure_22 (by decide) (by decide) ?_
        refine sv_goto (pc := 23) (tgt := 27) dX4_figure_23 (by decide) ?_
        refine sv_iret (pc := 27) dX4_figure_27 rfl (le_t rfl) (le_t rfl) ?_
        refine sv_istore_n (pc := 11) dX4_wayInRest_11 rfl (by decide) ?_
        refine sv_iload_n (pc := 12) dX4_wayInRest_12 rfl rfl ?_
        refine sv_aload_n (pc := 13) dX4_wayInRest_13 rfl rfl ?_
        refine sw_getfield (pc := 14) dX4_wayInRest_14 (gCX4 _ _ _ _ _) 12 (by decide) wF_X4_11 rfl rfl rfl ?_
        refine sv_iload_n (pc := 17) dX4_wayInRest_17 rfl rfl ?_
        refine sw_iaload (pc := 18) (k := 2) (v := .int 0) dX4_wayInRest_18 rfl rfl rfl (by decide) (by decide) rfl rfl ?_
        refine sv_icmp_ne (pc := 19) (tgt := 27) dX4_wayInRest_19 (by decide) (fun h => absurd (by decide) h) (fun _ => ?_)
        refine sv_bipush (pc := 22) (v := (-4)) dX4_wayInRest_22 (by decide) ?_
        refine sv_goto (pc := 24) (tgt := 28) dX4_wayInRest_24 (by decide) ?_
        refine sv_iret (pc := 28) dX4_wayInRest_28 rfl (le_t rfl) (le_t rfl) ?_
        refine sv_iret (pc := 44) dX11_rest_44 rfl (le_t rfl) (le_t rfl) ?_
        refine sv_aload_n (pc := 1734) dL_law_1734 rfl rfl ?_
        refine sv_aload_nS (pc := 1735) dL_law_1735 rfl rfl ?_
        refine sv_iload_n (pc := 1736) dL_law_1736 rfl rfl ?_
        refine sv_iconst (pc := 1737) (v := 1) dL_law_1737 (by decide) ?_
        refine sw_iadd (pc := 1738) (v := 1) dL_law_1738 (by decide) ?_
        refine sw_sld (pc := 1739) (v := 0) dL_law_1739 (k := 1) (by decide) (by decide) rfl hx1 ?_
        refine sv_aload_nS (pc := 1740) dL_law_1740 rfl rfl ?_
        refine sv_iload_n (pc := 1741) dL_law_1741 rfl rfl ?_
        refine sv_iconst (pc := 1742) (v := 2) dL_law_1742 (by decide) ?_
        refine sw_iadd (pc := 1743) (v := 2) dL_law_1743 (by decide) ?_
        refine sw_sld (pc := 1744) (v := 2) dL_law_1744 (k := 2) (by decide) (by decide) rfl hx2 ?_
        refine sv_callV (pc := 1745) (M' := mX12_rest) (d' := 20) (C' := 0) (S' := 0) (av := [.int 0, .int 2]) ?_ (gOk _ _ _ _ _) dL_law_1745 (tX12_rest _ _ _ _ _) ⟨wV_X12_rest, wL_X12_rest⟩ wM_DomainHouseLaw_206 (gCX12 _ _ _ _ _) rfl (lt_t rfl) rfl ⟨le_t rfl, le_t rfl⟩ ⟨le_t rfl, le_t rfl⟩ rfl (le_t rfl) (fun _ _ h => h)
        refine sC.of rfl (by decide) (le_t rfl) ?_
        refine sv_iload_n (pc := 0) dX12_rest_0 rfl rfl ?_
        refine sv_if_lt (pc := 1) (tgt := 14) dX12_rest_1 (by decide) (fun h => absurd h (by decide)) (fun _ => ?_)
        refine sv_iload_n (pc := 4) dX12_rest_4 rfl rfl ?_
        refine sv_iconst (pc := 5) (v := 1) dX12_rest_5 (by decide) ?_
        refine sv_bipush (pc := 6) (v := 6) dX12_rest_6 (by decide) ?_
        refine sv_callS (pc := 8) (M' := mX12_in) (d' := 19) (C' := 0) (S' := 0) (av := [.int 2, .int 1, .int 6]) ?_ (gOk _ _ _ _ _) dX12_rest_8 (tX12_in _ _ _ _ _) wS_X12_in wM_X12_18 ⟨le_t rfl, le_t rfl⟩ ⟨le_t rfl, le_t rfl⟩ rfl (le_t rfl) (fun _ _ h => h)
        refine sC.of rfl (by decide) (le_t rfl) ?_
        refine sv_iload_n (pc := 0) dX12_in_0 rfl rfl ?_
        refine sv_iload_n (pc := 1) dX12_in_1 rfl rfl ?_
        refine sv_icmp_lt (pc := 2) (tgt := 14) dX12_in_2 (by decide) (fun h => absurd h (by decide)) (fun _ => ?_)
        refine sv_iload_n (pc := 5) dX12_in_5 rfl rfl ?_
        refine sv_iload_n (pc := 6) dX12_in_6 rfl rfl ?_
        refine sv_icmp_gt (pc := 7) (tgt := 14) dX12_in_7 (by decide) (fun h => absurd h (by decide)) (fun _ => ?_)
        refine sv_iconst (pc := 10) (v := 1) dX12_in_10 (by decide) ?_
        refine sv_goto (pc := 11) (tgt := 15) dX12_in_11 (by decide) ?_
        refine sv_zret (pc := 15) dX12_in_15 rfl (by decide) (le_t rfl) (le_t rfl) ?_
        refine sv_if_ne (pc := 11) (tgt := 16) dX12_rest_11 (by decide) (fun _ => ?_) (fun h => absurd h (by decide))
        refine sv_aload_n (pc := 16) dX12_rest_16 rfl rfl ?_
        refine sv_callV (pc := 17) (M' := mX12_states) (d' := 19) (C' := 0) (S' := 0) (av := []) ?_ (gOk _ _ _ _ _) dX12_rest_17 (tX12_states _ _ _ _ _) ⟨wV_X12_states, wL_X12_states⟩ wM_X12_728 (gCX12 _ _ _ _ _) rfl (lt_t rfl) rfl ⟨le_t rfl, le_t rfl⟩ ⟨le_t rfl, le_t rfl⟩ rfl (le_t rfl) (fun _ _ h => h)
        refine sC.of rfl (by decide) (le_t rfl) ?_
        refine sv_iconst (pc := 0) (v := 1) dX12_states_0 (by decide) ?_
        refine sv_istore_n (pc := 1) dX12_states_1 rfl (by decide) ?_
        refine sv_bipush (pc := 2) (v := 6) dX12_states_2 (by decide) ?_
        refine sv_istore_n (pc := 4) dX12_states_4 rfl (by decide) ?_
        refine sv_iload_n (pc := 5) dX12_states_5 rfl rfl ?_
        refine sv_iconst (pc := 6) (v := 1) dX12_states_6 (by decide) ?_
        refine sv_icmp_lt (pc := 7) (tgt := 34) dX12_states_7 (by decide) (fun h => absurd h (by decide)) (fun _ => ?_)
        refine sv_aload_n (pc := 10) dX12_states_10 rfl rfl ?_
        refine sw_getfield (pc := 11) dX12_states_11 (gCX12 _ _ _ _ _) 121 (by decide) wF_X12_523 rfl rfl rfl ?_
        refine sv_iload_n (pc := 14) dX12_states_14 rfl rfl ?_
        refine sv_iload_n (pc := 15) dX12_states_15 rfl rfl ?_
        refine sw_iastore (pc := 16) (k := 6) (v := .int 1) dX12_states_16 rfl rfl rfl (by decide) (by decide) rfl rfl ?_
        refine sv_iload_n (pc := 17) dX12_states_17 rfl rfl ?_
        refine sv_aload_n (pc := 18) dX12_states_18 rfl rfl ?_
        refine sw_getfield (pc := 19) dX12_states_19 (gCX12 _ _ _ _ _) 118 (by decide) wF_X12_514 rfl rfl rfl ?_
        refine sv_iload_n (pc := 22) dX12_states_22 rfl rfl ?_
        refine sw_iaload (pc := 23) (k := 6) (v := .int 0) dX12_states_23 rfl rfl rfl (by decide) (by decide) rfl rfl ?_
        refine sv_iconst (pc := 24) (v := 1) dX12_states_24 (by decide) ?_
        refine sw_iadd (pc := 25) (v := 1) dX12_states_25 (by decide) ?_
        refine sw_imul (pc := 26) (v := 1) dX12_states_26 (by decide) ?_
        refine sv_istore_n (pc := 27) dX12_states_27 rfl (by decide) ?_
        refine sw_iinc (pc := 28) (v := 5) dX12_states_28 rfl (by decide) (by decide) ?_
        refine sv_goto (pc := 31) (tgt := 5) dX12_states_31 (by decide) ?_
        refine sv_iload_n (pc := 5) dX12_states_5 rfl rfl ?_
        refine sv_iconst (pc := 6) (v := 1) dX12_states_6 (by decide) ?_
        refine sv_icmp_lt (pc := 7) (tgt := 34) dX12_states_7 (by decide) (fun h => absurd h (by decide)) (fun _ => ?_)
        refine sv_aload_n (pc := 10) dX12_states_10 rfl rfl ?_
        refine sw_getfield (pc := 11) dX12_states_11 (gCX12 _ _ _ _ _) 121 (by decide) wF_X12_523 rfl rfl rfl ?_
        refine sv_iload_n (pc := 14) dX12_states_14 rfl rfl ?_
        refine sv_iload_n (pc := 15) dX12_states_15 rfl rfl ?_
        refine sw_iastore (pc := 16) (k := 5) (v := .int 1) dX12_states_16 rfl rfl rfl (by decide) (by decide) rfl rfl ?_
        refine sv_iload_n (pc := 17) dX12_states_17 rfl rfl ?_
        refine sv_aload_n (pc := 18) dX12_states_18 rfl rfl ?_
        refine sw_getfield (pc := 19) dX12_states_19 (gCX12 _ _ _ _ _) 118 (by decide) wF_X12_514 rfl rfl rfl ?_
        refine sv_iload_n (pc := 22) dX12_states_22 rfl rfl ?_
        refine sw_iaload (pc := 23) (k := 5) (v := .int 0) dX12_states_23 rfl rfl rfl (by decide) (by decide) rfl rfl ?_
        refine sv_iconst (pc := 24) (v := 1) dX12_states_24 (by decide) ?_
        refine sw_iadd (pc := 25) (v := 1) dX12_states_25 (by decide) ?_
        refine sw_imul (pc := 26) (v := 1) dX12_states_26 (by decide) ?_
        refine sv_istore_n (pc := 27) dX12_states_27 rfl (by decide) ?_
        refine sw_iinc (pc := 28) (v := 4) dX12_states_28 rfl (by decide) (by decide) ?_
        refine sv_goto (pc := 31) (tgt := 5) dX12_states_31 (by decide) ?_
        refine sv_iload_n (pc := 5) dX12_states_5 rfl rfl ?_
        refine sv_iconst (pc := 6) (v := 1) dX12_states_6 (by decide) ?_
        refine sv_icmp_lt (pc := 7) (tgt := 34) dX12_states_7 (by decide) (fun h => absurd h (by decide)) (fun _ => ?_)
        refine sv_aload_n (pc := 10) dX12_states_10 rfl rfl ?_
        refine sw_getfield (pc := 11) dX12_states_11 (gCX12 _ _ _ _ _) 121 (by decide) wF_X12_523 rfl rfl rfl ?_
        refine sv_iload_n (pc := 14) dX12_states_14 rfl rfl ?_
        refine sv_iload_n (pc := 15) dX12_states_15 rfl rfl ?_
        refine sw_iastore (pc := 16) (k := 4) (v := .int 1) dX12_states_16 rfl rfl rfl (by decide) (by decide) rfl rfl ?_
        refine sv_iload_n (pc := 17) dX12_states_17 rfl rfl ?_
        refine sv_aload_n (pc := 18) dX12_states_18 rfl rfl ?_
        refine sw_getfield (pc := 19) dX12_states_19 (gCX12 _ _ _ _ _) 118 (by decide) wF_X12_514 rfl rfl rfl ?_
        refine sv_iload_n (pc := 22) dX12_states_22 rfl rfl ?_
        refine sw_iaload (pc := 23) (k := 4) (v := .int 0) dX12_states_23 rfl rfl rfl (by decide) (by decide) rfl rfl ?_
        refine sv_iconst (pc := 24) (v := 1) dX12_states_24 (by decide) ?_
        refine sw_iadd (pc := 25) (v := 1) dX12_states_25 (by decide) ?_
        refine sw_imul (pc := 26) (v := 1) dX12_states_26 (by decide) ?_
        refine sv_istore_n (pc := 27) dX12_states_27 rfl (by decide) ?_
        refine sw_iinc (pc := 28) (v := 3) dX12_states_28 rfl (by decide) (by decide) ?_
        refine sv_lvG (pc := 31) (lv' := [(0, .ref 106), (1, .int 1), (2, .int 3)]) (List.forall_mem_cons.mpr ⟨rfl, List.forall_mem_cons.mpr ⟨rfl, List.forall_mem_cons.mpr ⟨rfl, fun _ h => absurd h List.not_mem_nil⟩⟩⟩) ?_
        refine sv_goto (pc := 31) (tgt := 5) dX12_states_31 (by decide) ?_
        refine sv_iload_n (pc := 5) dX12_states_5 rfl rfl ?_
        refine sv_iconst (pc := 6) (v := 1) dX12_states_6 (by decide) ?_
        refine sv_icmp_lt (pc := 7) (tgt := 34) dX12_states_7 (by decide) (fun h => absurd h (by decide)) (fun _ => ?_)
        refine sv_aload_n (pc := 10) dX12_states_10 rfl rfl ?_
        refine sw_getfield (pc := 11) dX12_states_11 (gCX12 _ _ _ _ _) 121 (by decide) wF_X12_523 rfl rfl rfl ?_
        refine sv_iload_n (pc := 14) dX12_states_14 rfl rfl ?_
        refine sv_iload_n (pc := 15) dX12_states_15 rfl rfl ?_
        refine sw_iastore (pc := 16) (k := 3) (v := .int 1) dX12_states_16 rfl rfl rfl (by decide) (by decide) rfl rfl ?_
        refine sv_iload_n (pc := 17) dX12_states_17 rfl rfl ?_
        refine sv_aload_n (pc := 18) dX12_states_18 rfl rfl ?_
        refine sw_getfield (pc := 19) dX12_states_19 (gCX12 _ _ _ _ _) 118 (by decide) wF_X12_514 rfl rfl rfl ?_
        refine sv_iload_n (pc := 22) dX12_states_22 rfl rfl ?_
        refine sw_iaload (pc := 23) (k := 3) (v := .int 0) dX12_states_23 rfl rfl rfl (by decide) (by decide) rfl rfl ?_
        refine sv_iconst (pc := 24) (v := 1) dX12_states_24 (by decide) ?_
        refine sw_iadd (pc := 25) (v := 1) dX12_states_25 (by decide) ?_
        refine sw_imul (pc := 26) (v := 1) dX12_states_26 (by decide) ?_
        refine sv_istore_n (pc := 27) dX12_states_27 rfl (by decide) ?_
        refine sw_iinc (pc := 28) (v := 2) dX12_states_28 rfl (by decide) (by decide) ?_
        refine sv_goto (pc := 31) (tgt := 5) dX12_states_31 (by decide) ?_
        refine sv_iload_n (pc := 5) dX12_states_5 rfl rfl ?_
        refine sv_iconst (pc := 6) (v := 1) dX12_states_6 (by decide) ?_
        refine sv_icmp_lt (pc := 7) (tgt := 34) dX12_states_7 (by decide) (fun h => absurd h (by decide)) (fun _ => ?_)
        refine sv_aload_n (pc := 10) dX12_states_10 rfl rfl ?_
        refine sw_getfield (pc := 11) dX12_states_11 (gCX12 _ _ _ _ _) 121 (by decide) wF_X12_523 rfl rfl rfl ?_
        refine sv_iload_n (pc := 14) dX12_states_14 rfl rfl ?_
        refine sv_iload_n (pc := 15) dX12_states_15 rfl rfl ?_
        refine sw_iastore (pc := 16) (k := 2) (v := .int 1) dX12_states_16 rfl rfl rfl (by decide) (by decide) rfl rfl ?_
        refine sv_iload_n (pc := 17) dX12_states_17 rfl rfl ?_
        refine sv_aload_n (pc := 18) dX12_states_18 rfl rfl ?_
        refine sw_getfield (pc := 19) dX12_states_19 (gCX12 _ _ _ _ _) 118 (by decide) wF_X12_514 rfl rfl rfl ?_
        refine sv_iload_n (pc := 22) dX12_states_22 rfl rfl ?_
        refine sw_iaload (pc := 23) (k := 2) (v := .int 0) dX12_states_23 rfl rfl rfl (by decide) (by decide) rfl rfl ?_
        refine sv_iconst (pc := 24) (v := 1) dX12_states_24 (by decide) ?_
        refine sw_iadd (pc := 25) (v := 1) dX12_states_25 (by decide) ?_
        refine sw_imul (pc := 26) (v := 1) dX12_states_26 (by decide) ?_
        refine sv_istore_n (pc := 27) dX12_states_27 rfl (by decide) ?_
        refine sw_iinc (pc := 28) (v := 1) dX12_states_28 rfl (by decide) (by decide) ?_
        refine sv_goto (pc := 31) (tgt := 5) dX12_states_31 (by decide) ?_
        refine sv_iload_n (pc := 5) dX12_states_5 rfl rfl ?_
        refine sv_iconst (pc := 6) (v := 1) dX12_states_6 (by decide) ?_
        refine sv_icmp_lt (pc := 7) (tgt := 34) dX12_states_7 (by decide) (fun h => absurd h (by decide)) (fun _ => ?_)
        refine sv_aload_n (pc := 10) dX12_states_10 rfl rfl ?_
        refine sw_getfield (pc := 11) dX12_states_11 (gCX12 _ _ _ _ _) 121 (by decide) wF_X12_523 rfl rfl rfl ?_
        refine sv_iload_n (pc := 14) dX12_states_14 rfl rfl ?_
        refine sv_iload_n (pc := 15) dX12_states_15 rfl rfl ?_
        refine sw_iastore (pc := 16) (k := 1) (v := .int 1) dX12_states_16 rfl rfl rfl (by decide) (by decide) rfl rfl ?_
        refine sv_iload_n (pc := 17) dX12_states_17 rfl rfl ?_
        refine sv_aload_n (pc := 18) dX12_states_18 rfl rfl ?_
        refine sw_getfield (pc := 19) dX12_states_19 (gCX12 _ _ _ _ _) 118 (by decide) wF_X12_514 rfl rfl rfl ?_
        refine sv_iload_n (pc := 22) dX12_states_22 rfl rfl ?_
        refine sw_iaload (pc := 23) (k := 1) (v := .int 0) dX12_states_23 rfl rfl rfl (by decide) (by decide) rfl rfl ?_
        refine sv_iconst (pc := 24) (v := 1) dX12_states_24 (by decide) ?_
        refine sw_iadd (pc := 25) (v := 1) dX12_states_25 (by decide) ?_
        refine sw_imul (pc := 26) (v := 1) dX12_states_26 (by decide) ?_
        refine sv_istore_n (pc := 27) dX12_states_27 rfl (by decide) ?_
        refine sw_iinc (pc := 28) (v := 0) dX12_states_28 rfl (by decide) (by decide) ?_
        refine sv_goto (pc := 31) (tgt := 5) dX12_states_31 (by decide) ?_
        refine sv_iload_n (pc := 5) dX12_states_5 rfl rfl ?_
        refine sv_iconst (pc := 6) (v := 1) dX12_states_6 (by decide) ?_
        refine sv_icmp_lt (pc := 7) (tgt := 34) dX12_states_7 (by decide) (fun _ => ?_) (fun h => absurd (by decide) h)
        refine sv_iload_n (pc := 34) dX12_states_34 rfl rfl ?_
        refine sv_iret (pc := 35) dX12_states_35 rfl (le_t rfl) (le_t rfl) ?_
        refine sv_istore_n (pc := 20) dX12_rest_20 rfl (by decide) ?_
        refine sv_iload_n (pc := 21) dX12_rest_21 rfl rfl ?_
        refine sv_istore (pc := 22) dX12_rest_22 (by decide) ?_
        refine sv_iconst (pc := 24) (v := 0) dX12_rest_24 (by decide) ?_
        refine sv_istore (pc := 25) dX12_rest_25 (by decide) ?_
        refine sv_iload (pc := 27) dX12_rest_27 rfl ?_
        refine sv_iload_n (pc := 29) dX12_rest_29 rfl rfl ?_
        refine sv_icmp_ge (pc := 30) (tgt := 92) dX12_rest_30 (by decide) (fun h => absurd h (by decide)) (fun _ => ?_)
        refine sv_aload_n (pc := 33) dX12_rest_33 rfl rfl ?_
        refine sv_iload (pc := 34) dX12_rest_34 rfl ?_
        refine sv_callV (pc := 36) (M' := mX12_isRest) (d' := 19) (C' := 0) (S' := 0) (av := [.int 0]) ?_ (gOk _ _ _ _ _) dX12_rest_36 (tX12_isRest _ _ _ _ _) ⟨wV_X12_isRest, wL_X12_isRest⟩ wM_X12_731 (gCX12 _ _ _ _ _) rfl (lt_t rfl) rfl ⟨le_t rfl, le_t rfl⟩ ⟨le_t rfl, le_t rfl⟩ rfl (le_t rfl) (fun _ _ h => h)
        refine sC.of rfl (by decide) (le_t rfl) ?_
        refine sv_aload_n (pc := 0) dX12_isRest_0 rfl rfl ?_
        refine sv_iload_n (pc := 1) dX12_isRest_1 rfl rfl ?_
        refine sv_callV (pc := 2) (M' := mX12_open) (d' := 18) (C' := 0) (S' := 0) (av := [.int 0]) ?_ (gOk _ _ _ _ _) dX12_isRest_2 (tX12_open _ _ _ _ _) ⟨wV_X12_open, wL_X12_open⟩ wM_X12_722 (gCX12 _ _ _ _ _) rfl (lt_t rfl) rfl ⟨le_t rfl, le_t rfl⟩ ⟨le_t rfl, le_t rfl⟩ rfl (le_t rfl) (fun _ _ h => h)
        refine sC.of rfl (by decide) (le_t rfl) ?_
        refine sv_iconst (pc := 0) (v := 1) dX12_open_0 (by decide) ?_
        refine sv_istore_n (pc := 1) dX12_open_1 rfl (by decide) ?_
        refine sv_iload_n (pc := 2) dX12_open_2 rfl rfl ?_
        refine sv_bipush (pc := 3) (v := 6) dX12_open_3 (by decide) ?_
        refine sv_icmp_gt (pc := 5) (tgt := 37) dX12_open_5 (by decide) (fun h => absurd h (by decide)) (fun _ => ?_)
        refine sv_aload_n (pc := 8) dX12_open_8 rfl rfl ?_
        refine sw_getfield (pc := 9) dX12_open_9 (gCX12 _ _ _ _ _) 122 (by decide) wF_X12_526 rfl rfl rfl ?_
        refine sv_iload_n (pc := 12) dX12_open_12 rfl rfl ?_
        refine sv_iload_n (pc := 13) dX12_open_13 rfl rfl ?_
        refine sv_aload_n (pc := 14) dX12_open_14 rfl rfl ?_
        refine sw_getfield (pc := 15) dX12_open_15 (gCX12 _ _ _ _ _) 121 (by decide) wF_X12_523 rfl rfl rfl ?_
        refine sv_iload_n (pc := 18) dX12_open_18 rfl rfl ?_
        refine sw_iaload (pc := 19) (k := 1) (v := .int 1) dX12_open_19 rfl rfl rfl (by decide) (by decide) rfl rfl ?_
        refine sw_idiv (pc := 20) (v := 0) dX12_open_20 (by decide) (by decide) ?_
        refine sv_aload_n (pc := 21) dX12_open_21 rfl rfl ?_
        refine sw_getfield (pc := 22) dX12_open_22 (gCX12 _ _ _ _ _) 118 (by decide) wF_X12_514 rfl rfl rfl ?_
        refine sv_iload_n (pc := 25) dX12_open_25 rfl rfl ?_
        refine sw_iaload (pc := 26) (k := 1) (v := .int 0) dX12_open_26 rfl rfl rfl (by decide) (by decide) rfl rfl ?_
        refine sv_iconst (pc := 27) (v := 1) dX12_open_27 (by decide) ?_
        refine sw_iadd (pc := 28) (v := 1) dX12_open_28 (by decide) ?_
        refine sw_irem (pc := 29) (v := 0) dX12_open_29 (by decide) (by decide) ?_
        refine sw_iastore (pc := 30) (k := 1) (v := .int 0) dX12_open_30 rfl rfl rfl (by decide) (by decide) rfl rfl ?_
        refine sw_iinc (pc := 31) (v := 2) dX12_open_31 rfl (by decide) (by decide) ?_
        refine sv_goto (pc := 34) (tgt := 2) dX12_open_34 (by decide) ?_
        refine sv_iload_n (pc := 2) dX12_open_2 rfl rfl ?_
        refine sv_bipush (pc := 3) (v := 6) dX12_open_3 (by decide) ?_
        refine sv_icmp_gt (pc := 5) (tgt := 37) dX12_open_5 (by decide) (fun h => absurd h (by decide)) (fun _ => ?_)
        refine sv_aload_n (pc := 8) dX12_open_8 rfl rfl ?_
        refine sw_getfield (pc := 9) dX12_open_9 (gCX12 _ _ _ _ _) 122 (by decide) wF_X12_526 rfl rfl rfl ?_
        refine sv_iload_n (pc := 12) dX12_open_12 rfl rfl ?_
        refine sv_iload_n (pc := 13) dX12_open_13 rfl rfl ?_
        refine sv_aload_n (pc := 14) dX12_open_14 rfl rfl ?_
        refine sw_getfield (pc := 15) dX12_open_15 (gCX12 _ _ _ _ _) 121 (by decide) wF_X12_523 rfl rfl rfl ?_
        refine sv_iload_n (pc := 18) dX12_open_18 rfl rfl ?_
        refine sw_iaload (pc := 19) (k := 2) (v := .int 1) dX12_open_19 rfl rfl rfl (by decide) (by decide) rfl rfl ?_
        refine sw_idiv (pc := 20) (v := 0) dX12_open_20 (by decide) (by decide) ?_
        refine sv_aload_n (pc := 21) dX12_open_21 rfl rfl ?_
        refine sw_getfield (pc := 22) dX12_open_22 (gCX12 _ _ _ _ _) 118 (by decide) wF_X12_514 rfl rfl rfl ?_
        refine sv_iload_n (pc := 25) dX12_open_25 rfl rfl ?_
        refine sw_iaload (pc := 26) (k := 2) (v := .int 0) dX12_open_26 rfl rfl rfl (by decide) (by decide) rfl rfl ?_
        refine sv_iconst (pc := 27) (v := 1) dX12_open_27 (by decide) ?_
        refine sw_iadd (pc := 28) (v := 1) dX12_open_28 (by decide) ?_
        refine sw_irem (pc := 29) (v := 0) dX12_open_29 (by decide) (by decide) ?_
        refine sw_iastore (pc := 30) (k := 2) (v := .int 0) dX12_open_30 rfl rfl rfl (by decide) (by decide) rfl rfl ?_
        refine sw_iinc (pc := 31) (v := 3) dX12_open_31 rfl (by decide) (by decide) ?_
        refine sv_goto (pc := 34) (tgt := 2) dX12_open_34 (by decide) ?_
        refine sv_iload_n (pc := 2) dX12_open_2 rfl rfl ?_
        refine sv_bipush (pc := 3) (v := 6) dX12_open_3 (by decide) ?_
        refine sv_icmp_gt (pc := 5) (tgt := 37) dX12_open_5 (by decide) (fun h => absurd h (by decide)) (fun _ => ?_)
        refine sv_aload_n (pc := 8) dX12_open_8 rfl rfl ?_
        refine sw_getfield (pc := 9) dX12_open_9 (gCX12 _ _ _ _ _) 122 (by decide) wF_X12_526 rfl rfl rfl ?_
        refine sv_iload_n (pc := 12) dX12_open_12 rfl rfl ?_
        refine sv_iload_n (pc := 13) dX12_open_13 rfl rfl ?_
        refine sv_aload_n (pc := 14) dX12_open_14 rfl rfl ?_
        refine sw_getfield (pc := 15) dX12_open_15 (gCX12 _ _ _ _ _) 121 (by decide) wF_X12_523 rfl rfl rfl ?_
        refine sv_iload_n (pc := 18) dX12_open_18 rfl rfl ?_
        refine sw_iaload (pc := 19) (k := 3) (v := .int 1) dX12_open_19 rfl rfl rfl (by decide) (by decide) rfl rfl ?_
        refine sw_idiv (pc := 20) (v := 0) dX12_open_20 (by decide) (by decide) ?_
        refine sv_aload_n (pc := 21) dX12_open_21 rfl rfl ?_
        refine sw_getfield (pc := 22) dX12_open_22 (gCX12 _ _ _ _ _) 118 (by decide) wF_X12_514 rfl rfl rfl ?_
        refine sv_iload_n (pc := 25) dX12_open_25 rfl rfl ?_
        refine sw_iaload (pc := 26) (k := 3) (v := .int 0) dX12_open_26 rfl rfl rfl (by decide) (by decide) rfl rfl ?_
        refine sv_iconst (pc := 27) (v := 1) dX12_open_27 (by decide) ?_
        refine sw_iadd (pc := 28) (v := 1) dX12_open_28 (by decide) ?_
        refine sw_irem (pc := 29) (v := 0) dX12_open_29 (by decide) (by decide) ?_
        refine sw_iastore (pc := 30) (k := 3) (v := .int 0) dX12_open_30 rfl rfl rfl (by decide) (by decide) rfl rfl ?_
        refine sw_iinc (pc := 31) (v := 4) dX12_open_31 rfl (by decide) (by decide) ?_
        refine sv_goto (pc := 34) (tgt := 2) dX12_open_34 (by decide) ?_
        refine sv_iload_n (pc := 2) dX12_open_2 rfl rfl ?_
        refine sv_bipush (pc := 3) (v := 6) dX12_open_3 (by decide) ?_
        refine sv_icmp_gt (pc := 5) (tgt := 37) dX12_open_5 (by decide) (fun h => absurd h (by decide)) (fun _ => ?_)
        refine sv_aload_n (pc := 8) dX12_open_8 rfl rfl ?_
        refine sw_getfield (pc := 9) dX12_open_9 (gCX12 _ _ _ _ _) 122 (by decide) wF_X12_526 rfl rfl rfl ?_
        refine sv_iload_n (pc := 12) dX12_open_12 rfl rfl ?_
        refine sv_iload_n (pc := 13) dX12_open_13 rfl rfl ?_
        refine sv_aload_n (pc := 14) dX12_open_14 rfl rfl ?_
        refine sw_getfield (pc := 15) dX12_open_15 (gCX12 _ _ _ _ _) 121 (by decide) wF_X12_523 rfl rfl rfl ?_
        refine sv_iload_n (pc := 18) dX12_open_18 rfl rfl ?_
        refine sw_iaload (pc := 19) (k := 4) (v := .int 1) dX12_open_19 rfl rfl rfl (by decide) (by decide) rfl rfl ?_
        refine sw_idiv (pc := 20) (v := 0) dX12_open_20 (by decide) (by decide) ?_
        refine sv_aload_n (pc := 21) dX12_open_21 rfl rfl ?_
        refine sw_getfield (pc := 22) dX12_open_22 (gCX12 _ _ _ _ _) 118 (by decide) wF_X12_514 rfl rfl rfl ?_
        refine sv_iload_n (pc := 25) dX12_open_25 rfl rfl ?_
        refine sw_iaload (pc := 26) (k := 4) (v := .int 0) dX12_open_26 rfl rfl rfl (by decide) (by decide) rfl rfl ?_
        refine sv_iconst (pc := 27) (v := 1) dX12_open_27 (by decide) ?_
        refine sw_iadd (pc := 28) (v := 1) dX12_open_28 (by decide) ?_
        refine sw_irem (pc := 29) (v := 0) dX12_open_29 (by decide) (by decide) ?_
        refine sw_iastore (pc := 30) (k := 4) (v := .int 0) dX12_open_30 rfl rfl rfl (by decide) (by decide) rfl rfl ?_
        refine sw_iinc (pc := 31) (v := 5) dX12_open_31 rfl (by decide) (by decide) ?_
        refine sv_goto (pc := 34) (tgt := 2) dX12_open_34 (by decide) ?_
        refine sv_iload_n (pc := 2) dX12_open_2 rfl rfl ?_
        refine sv_bipush (pc := 3) (v := 6) dX12_open_3 (by decide) ?_
        refine sv_icmp_gt (pc := 5) (tgt := 37) dX12_open_5 (by decide) (fun h => absurd h (by decide)) (fun _ => ?_)
        refine sv_aload_n (pc := 8) dX12_open_8 rfl rfl ?_
        refine sw_getfield (pc := 9) dX12_open_9 (gCX12 _ _ _ _ _) 122 (by decide) wF_X12_526 rfl rfl rfl ?_
        refine sv_iload_n (pc := 12) dX12_open_12 rfl rfl ?_
        refine sv_iload_n (pc := 13) dX12_open_13 rfl rfl ?_
        refine sv_aload_n (pc := 14) dX12_open_14 rfl rfl ?_
        refine sw_getfield (pc := 15) dX12_open_15 (gCX12 _ _ _ _ _) 121 (by decide) wF_X12_523 rfl rfl rfl ?_
        refine sv_iload_n (pc := 18) dX12_open_18 rfl rfl ?_
        refine sw_iaload (pc := 19) (k := 5) (v := .int 1) dX12_open_19 rfl rfl rfl (by decide) (by decide) rfl rfl ?_
        refine sw_idiv (pc := 20) (v := 0) dX12_open_20 (by decide) (by decide) ?_
        refine sv_aload_n (pc := 21) dX12_open_21 rfl rfl ?_
        refine sw_getfield (pc := 22) dX12_open_22 (gCX12 _ _ _ _ _) 118 (by decide) wF_X12_514 rfl rfl rfl ?_
        refine sv_iload_n (pc := 25) dX12_open_25 rfl rfl ?_
        refine sw_iaload (pc := 26) (k := 5) (v := .int 0) dX12_open_26 rfl rfl rfl (by decide) (by decide) rfl rfl ?_
        refine sv_iconst (pc := 27) (v := 1) dX12_open_27 (by decide) ?_
        refine sw_iadd (pc := 28) (v := 1) dX12_open_28 (by decide) ?_
        refine sw_irem (pc := 29) (v := 0) dX12_open_29 (by decide) (by decide) ?_
        refine sw_iastore (pc := 30) (k := 5) (v := .int 0) dX12_open_30 rfl rfl rfl (by decide) (by decide) rfl rfl ?_
        refine sw_iinc (pc := 31) (v := 6) dX12_open_31 rfl (by decide) (by decide) ?_
        refine sv_goto (pc := 34) (tgt := 2) dX12_open_34 (by decide) ?_
        refine sv_iload_n (pc := 2) dX12_open_2 rfl rfl ?_
        refine sv_bipush (pc := 3) (v := 6) dX12_open_3 (by decide) ?_
        refine sv_icmp_gt (pc := 5) (tgt := 37) dX12_open_5 (by decide) (fun h => absurd h (by decide)) (fun _ => ?_)
        refine sv_aload_n (pc := 8) dX12_open_8 rfl rfl ?_
        refine sw_getfield (pc := 9) dX12_open_9 (gCX12 _ _ _ _ _) 122 (by decide) wF_X12_526 rfl rfl rfl ?_
        refine sv_iload_n (pc := 12) dX12_open_12 rfl rfl ?_
        refine sv_iload_n (pc := 13) dX12_open_13 rfl rfl ?_
        refine sv_aload_n (pc := 14) dX12_open_14 rfl rfl ?_
        refine sw_getfield (pc := 15) dX12_open_15 (gCX12 _ _ _ _ _) 121 (by decide) wF_X12_523 rfl rfl rfl ?_
        refine sv_iload_n (pc := 18) dX12_open_18 rfl rfl ?_
        refine sw_iaload (pc := 19) (k := 6) (v := .int 1) dX12_open_19 rfl rfl rfl (by decide) (by decide) rfl rfl ?_
        refine sw_idiv (pc := 20) (v := 0) dX12_open_20 (by decide) (by decide) ?_
        refine sv_aload_n (pc := 21) dX12_open_21 rfl rfl ?_
        refine sw_getfield (pc := 22) dX12_open_22 (gCX12 _ _ _ _ _) 118 (by decide) wF_X12_514 rfl rfl rfl ?_
        refine sv_iload_n (pc := 25) dX12_open_25 rfl rfl ?_
        refine sw_iaload (pc := 26) (k := 6) (v := .int 0) dX12_open_26 rfl rfl rfl (by decide) (by decide) rfl rfl ?_
        refine sv_iconst (pc := 27) (v := 1) dX12_open_27 (by decide) ?_
        refine sw_iadd (pc := 28) (v := 1) dX12_open_28 (by decide) ?_
        refine sw_irem (pc := 29) (v := 0) dX12_open_29 (by decide) (by decide) ?_
        refine sw_iastore (pc := 30) (k := 6) (v := .int 0) dX12_open_30 rfl rfl rfl (by decide) (by decide) rfl rfl ?_
        refine sw_iinc (pc := 31) (v := 7) dX12_open_31 rfl (by decide) (by decide) ?_
        refine sv_goto (pc := 34) (tgt := 2) dX12_open_34 (by decide) ?_
        refine sv_iload_n (pc := 2) dX12_open_2 rfl rfl ?_
        refine sv_bipush (pc := 3) (v := 6) dX12_open_3 (by decide) ?_
        refine sv_icmp_gt (pc := 5) (tgt := 37) dX12_open_5 (by decide) (fun _ => ?_) (fun h => absurd (by decide) h)
        refine sv_vret (pc := 37) dX12_open_37 rfl (le_t rfl) (le_t rfl) ?_
        refine sv_iconst (pc := 5) (v := 1) dX12_isRest_5 (by decide) ?_
        refine sv_istore_n (pc := 6) dX12_isRest_6 rfl (by decide) ?_
        refine sv_iconst (pc := 7) (v := 1) dX12_isRest_7 (by decide) ?_
        refine sv_istore_n (pc := 8) dX12_isRest_8 rfl (by decide) ?_
        refine sv_iload_n (pc := 9) dX12_isRest_9 rfl rfl ?_
        refine sv_bipush (pc := 10) (v := 6) dX12_isRest_10 (by decide) ?_
        refine sv_icmp_gt (pc := 12) (tgt := 45) dX12_isRest_12 (by decide) (fun h => absurd h (by decide)) (fun _ => ?_)
        refine sv_iload_n (pc := 15) dX12_isRest_15 rfl rfl ?_
        refine sv_if_eq (pc := 16) (tgt := 45) dX12_isRest_16 (by decide) (fun h => absurd h (by decide)) (fun _ => ?_)
        refine sv_aload_n (pc := 19) dX12_isRest_19 rfl rfl ?_
        refine sv_iload_n (pc := 20) dX12_isRest_20 rfl rfl ?_
        refine sv_callV (pc := 21) (M' := mX12_acted) (d' := 18) (C' := 0) (S' := 0) (av := [.int 1]) ?_ (gOk _ _ _ _ _) dX12_isRest_21 (tX12_acted _ _ _ _ _) ⟨wV_X12_acted, wL_X12_acted⟩ wM_X12_725 (gCX12 _ _ _ _ _) rfl (lt_t rfl) rfl ⟨le_t rfl, le_t rfl⟩ ⟨le_t rfl, le_t rfl⟩ rfl (le_t rfl) (fun _ _ h => h)
        refine sC.of rfl (by decide) (le_t rfl) ?_
        refine sv_iconst (pc := 0) (v := 0) dX12_acted_0 (by decide) ?_
        refine sv_istore_n (pc := 1) dX12_acted_1 rfl (by decide) ?_
        refine sv_iload_n (pc := 2) dX12_acted_2 rfl rfl ?_
        refine sv_aload_n (pc := 3) dX12_acted_3 rfl rfl ?_
        refine sw_getfield (pc := 4) dX12_acted_4 (gCX12 _ _ _ _ _) 118 (by decide) wF_X12_514 rfl rfl rfl ?_
        refine sv_iload_n (pc := 7) dX12_acted_7 rfl rfl ?_
        refine sw_iaload (pc := 8) (k := 1) (v := .int 0) dX12_acted_8 rfl rfl rfl (by decide) (by decide) rfl rfl ?_
        refine sv_icmp_ge (pc := 9) (tgt := 32) dX12_acted_9 (by decide) (fun _ => ?_) (fun h => absurd (by decide) h)
        refine sv_aload_n (pc := 32) dX12_acted_32 rfl rfl ?_
        refine sw_getfield (pc := 33) dX12_acted_33 (gCX12 _ _ _ _ _) 118 (by decide) wF_X12_514 rfl rfl rfl ?_
        refine sv_iload_n (pc := 36) dX12_acted_36 rfl rfl ?_
        refine sw_iaload (pc := 37) (k := 1) (v := .int 0) dX12_acted_37 rfl rfl rfl (by decide) (by decide) rfl rfl ?_
        refine sv_iret (pc := 38) dX12_acted_38 rfl (le_t rfl) (le_t rfl) ?_
        refine sv_aload_n (pc := 24) dX12_isRest_24 rfl rfl ?_
        refine sw_getfield (pc := 25) dX12_isRest_25 (gCX12 _ _ _ _ _) 122 (by decide) wF_X12_526 rfl rfl rfl ?_
        refine sv_iload_n (pc := 28) dX12_isRest_28 rfl rfl ?_
        refine sw_iaload (pc := 29) (k := 1) (v := .int 0) dX12_isRest_29 rfl rfl rfl (by decide) (by decide) rfl rfl ?_
        refine sv_icmp_ne (pc := 30) (tgt := 37) dX12_isRest_30 (by decide) (fun h => absurd (by decide) h) (fun _ => ?_)
        refine sv_iconst (pc := 33) (v := 1) dX12_isRest_33 (by decide) ?_
        refine sv_goto (pc := 34) (tgt := 38) dX12_isRest_34 (by decide) ?_
        refine sv_istore_n (pc := 38) dX12_isRest_38 rfl (by decide) ?_
        refine sw_iinc (pc := 39) (v := 2) dX12_isRest_39 rfl (by decide) (by decide) ?_
        refine sv_goto (pc := 42) (tgt := 9) dX12_isRest_42 (by decide) ?_
        refine sv_iload_n (pc := 9) dX12_isRest_9 rfl rfl ?_
        refine sv_bipush (pc := 10) (v := 6) dX12_isRest_10 (by decide) ?_
        refine sv_icmp_gt (pc := 12) (tgt := 45) dX12_isRest_12 (by decide) (fun h => absurd h (by decide)) (fun _ => ?_)
        refine sv_iload_n (pc := 15) dX12_isRest_15 rfl rfl ?_
        refine sv_if_eq (pc := 16) (tgt := 45) dX12_isRest_16 (by decide) (fun h => absurd h (by decide)) (fun _ => ?_)
        refine sv_aload_n (pc := 19) dX12_isRest_19 rfl rfl ?_
        refine sv_iload_n (pc := 20) dX12_isRest_20 rfl rfl ?_
        refine sv_callV (pc := 21) (M' := mX12_acted) (d' := 18) (C' := 0) (S' := 0) (av := [.int 2]) ?_ (gOk _ _ _ _ _) dX12_isRest_21 (tX12_acted _ _ _ _ _) ⟨wV_X12_acted, wL_X12_acted⟩ wM_X12_725 (gCX12 _ _ _ _ _) rfl (lt_t rfl) rfl ⟨le_t rfl, le_t rfl⟩ ⟨le_t rfl, le_t rfl⟩ rfl (le_t rfl) (fun _ _ h => h)
        refine sC.of rfl (by decide) (le_t rfl) ?_
        refine sv_iconst (pc := 0) (v := 0) dX12_acted_0 (by decide) ?_
        refine sv_istore_n (pc := 1) dX12_acted_1 rfl (by decide) ?_
        refine sv_iload_n (pc := 2) dX12_acted_2 rfl rfl ?_
        refine sv_aload_n (pc := 3) dX12_acted_3 rfl rfl ?_
        refine sw_getfield (pc := 4) dX12_acted_4 (gCX12 _ _ _ _ _) 118 (by decide) wF_X12_514 rfl rfl rfl ?_
        refine sv_iload_n (pc := 7) dX12_acted_7 rfl rfl ?_
        refine sw_iaload (pc := 8) (k := 2) (v := .int 0) dX12_acted_8 rfl rfl rfl (by decide) (by decide) rfl rfl ?_
        refine sv_icmp_ge (pc := 9) (tgt := 32) dX12_acted_9 (by decide) (fun _ => ?_) (fun h => absurd (by decide) h)
        refine sv_aload_n (pc := 32) dX12_acted_32 rfl rfl ?_
        refine sw_getfield (pc := 33) dX12_acted_33 (gCX12 _ _ _ _ _) 118 (by decide) wF_X12_514 rfl rfl rfl ?_
        refine sv_iload_n (pc := 36) dX12_acted_36 rfl rfl ?_
        refine sw_iaload (pc := 37) (k := 2) (v := .int 0) dX12_acted_37 rfl rfl rfl (by decide) (by decide) rfl rfl ?_
        refine sv_iret (pc := 38) dX12_acted_38 rfl (le_t rfl) (le_t rfl) ?_
        refine sv_aload_n (pc := 24) dX12_isRest_24 rfl rfl ?_
        refine sw_getfield (pc := 25) dX12_isRest_25 (gCX12 _ _ _ _ _) 122 (by decide) wF_X12_526 rfl rfl rfl ?_
        refine sv_iload_n (pc := 28) dX12_isRest_28 rfl rfl ?_
        refine sw_iaload (pc := 29) (k := 2) (v := .int 0) dX12_isRest_29 rfl rfl rfl (by decide) (by decide) rfl rfl ?_
        refine sv_icmp_ne (pc := 30) (tgt := 37) dX12_isRest_30 (by decide) (fun h => absurd (by decide) h) (fun _ => ?_)
        refine sv_iconst (pc := 33) (v := 1) dX12_isRest_33 (by decide) ?_
        refine sv_goto (pc := 34) (tgt := 38) dX12_isRest_34 (by decide) ?_
        refine sv_istore_n (pc := 38) dX12_isRest_38 rfl (by decide) ?_
        refine sw_iinc (pc := 39) (v := 3) dX12_isRest_39 rfl (by decide) (by decide) ?_
        refine sv_goto (pc := 42) (tgt := 9) dX12_isRest_42 (by decide) ?_
        refine sv_iload_n (pc := 9) dX12_isRest_9 rfl rfl ?_
        refine sv_bipush (pc := 10) (v := 6) dX12_isRest_10 (by decide) ?_
        refine sv_icmp_gt (pc := 12) (tgt := 45) dX12_isRest_12 (by decide) (fun h => absurd h (by decide)) (fun _ => ?_)
        refine sv_iload_n (pc := 15) dX12_isRest_15 rfl rfl ?_
        refine sv_if_eq (pc := 16) (tgt := 45) dX12_isRest_16 (by decide) (fun h => absurd h (by decide)) (fun _ => ?_)
        refine sv_aload_n (pc := 19) dX12_isRest_19 rfl rfl ?_
        refine sv_iload_n (pc := 20) dX12_isRest_20 rfl rfl ?_
        refine sv_callV (pc := 21) (M' := mX12_acted) (d' := 18) (C' := 0) (S' := 0) (av := [.int 3]) ?_ (gOk _ _ _ _ _) dX12_isRest_21 (tX12_acted _ _ _ _ _) ⟨wV_X12_acted, wL_X12_acted⟩ wM_X12_725 (gCX12 _ _ _ _ _) rfl (lt_t rfl) rfl ⟨le_t rfl, le_t rfl⟩ ⟨le_t rfl, le_t rfl⟩ rfl (le_t rfl) (fun _ _ h => h)
        refine sC.of rfl (by decide) (le_t rfl) ?_
        refine sv_iconst (pc := 0) (v := 0) dX12_acted_0 (by decide) ?_
        refine sv_istore_n (pc := 1) dX12_acted_1 rfl (by decide) ?_
        refine sv_iload_n (pc := 2) dX12_acted_2 rfl rfl ?_
        refine sv_aload_n (pc := 3) dX12_acted_3 rfl rfl ?_
        refine sw_getfield (pc := 4) dX12_acted_4 (gCX12 _ _ _ _ _) 118 (by decide) wF_X12_514 rfl rfl rfl ?_
        refine sv_iload_n (pc := 7) dX12_acted_7 rfl rfl ?_
        refine sw_iaload (pc := 8) (k := 3) (v := .int 0) dX12_acted_8 rfl rfl rfl (by decide) (by decide) rfl rfl ?_
        refine sv_icmp_ge (pc := 9) (tgt := 32) dX12_acted_9 (by decide) (fun _ => ?_) (fun h => absurd (by decide) h)
        refine sv_aload_n (pc := 32) dX12_acted_32 rfl rfl ?_
        refine sw_getfield (pc := 33) dX12_acted_33 (gCX12 _ _ _ _ _) 118 (by decide) wF_X12_514 rfl rfl rfl ?_
        refine sv_iload_n (pc := 36) dX12_acted_36 rfl rfl ?_
        refine sw_iaload (pc := 37) (k := 3) (v := .int 0) dX12_acted_37 rfl rfl rfl (by decide) (by decide) rfl rfl ?_
        refine sv_iret (pc := 38) dX12_acted_38 rfl (le_t rfl) (le_t rfl) ?_
        refine sv_aload_n (pc := 24) dX12_isRest_24 rfl rfl ?_
        refine sw_getfield (pc := 25) dX12_isRest_25 (gCX12 _ _ _ _ _) 122 (by decide) wF_X12_526 rfl rfl rfl ?_
        refine sv_iload_n (pc := 28) dX12_isRest_28 rfl rfl ?_
        refine sw_iaload (pc := 29) (k := 3) (v := .int 0) dX12_isRest_29 rfl rfl rfl (by decide) (by decide) rfl rfl ?_
        refine sv_icmp_ne (pc := 30) (tgt := 37) dX12_isRest_30 (by decide) (fun h => absurd (by decide) h) (fun _ => ?_)
        refine sv_iconst (pc := 33) (v := 1) dX12_isRest_33 (by decide) ?_
        refine sv_goto (pc := 34) (tgt := 38) dX12_isRest_34 (by decide) ?_
        refine sv_istore_n (pc := 38) dX12_isRest_38 rfl (by decide) ?_
        refine sw_iinc (pc := 39) (v := 4) dX12_isRest_39 rfl (by decide) (by decide) ?_
        refine sv_lvG (pc := 42) (lv' := [(0, .ref 106), (1, .int 0), (2, .int 1), (3, .int 4)]) (List.forall_mem_cons.mpr ⟨rfl, List.forall_mem_cons.mpr ⟨rfl, List.forall_mem_cons.mpr ⟨rfl, List.forall_mem_cons.mpr ⟨rfl, fun _ h => absurd h List.not_mem_nil⟩⟩⟩⟩) ?_
        refine sv_goto (pc := 42) (tgt := 9) dX12_isRest_42 (by decide) ?_
        refine sv_iload_n (pc := 9) dX12_isRest_9 rfl rfl ?_
        refine sv_bipush (pc := 10) (v := 6) dX12_isRest_10 (by decide) ?_
        refine sv_icmp_gt (pc := 12) (tgt := 45) dX12_isRest_12 (by decide) (fun h => absurd h (by decide)) (fun _ => ?_)
        refine sv_iload_n (pc := 15) dX12_isRest_15 rfl rfl ?_
        refine sv_if_eq (pc := 16) (tgt := 45) dX12_isRest_16 (by decide) (fun h => absurd h (by decide)) (fun _ => ?_)
        refine sv_aload_n (pc := 19) dX12_isRest_19 rfl rfl ?_
        refine sv_iload_n (pc := 20) dX12_isRest_20 rfl rfl ?_
        refine sv_callV (pc := 21) (M' := mX12_acted) (d' := 18) (C' := 0) (S' := 0) (av := [.int 4]) ?_ (gOk _ _ _ _ _) dX12_isRest_21 (tX12_acted _ _ _ _ _) ⟨wV_X12_acted, wL_X12_acted⟩ wM_X12_725 (gCX12 _ _ _ _ _) rfl (lt_t rfl) rfl ⟨le_t rfl, le_t rfl⟩ ⟨le_t rfl, le_t rfl⟩ rfl (le_t rfl) (fun _ _ h => h)
        refine sC.of rfl (by decide) (le_t rfl) ?_
        refine sv_iconst (pc := 0) (v := 0) dX12_acted_0 (by decide) ?_
        refine sv_istore_n (pc := 1) dX12_acted_1 rfl (by decide) ?_
        refine sv_iload_n (pc := 2) dX12_acted_2 rfl rfl ?_
        refine sv_aload_n (pc := 3) dX12_acted_3 rfl rfl ?_
        refine sw_getfield (pc := 4) dX12_acted_4 (gCX12 _ _ _ _ _) 118 (by decide) wF_X12_514 rfl rfl rfl ?_
        refine sv_iload_n (pc := 7) dX12_acted_7 rfl rfl ?_
        refine sw_iaload (pc := 8) (k := 4) (v := .int 0) dX12_acted_8 rfl rfl rfl (by decide) (by decide) rfl rfl ?_
        refine sv_icmp_ge (pc := 9) (tgt := 32) dX12_acted_9 (by decide) (fun _ => ?_) (fun h => absurd (by decide) h)
        refine sv_aload_n (pc := 32) dX12_acted_32 rfl rfl ?_
        refine sw_getfield (pc := 33) dX12_acted_33 (gCX12 _ _ _ _ _) 118 (by decide) wF_X12_514 rfl rfl rfl ?_
        refine sv_iload_n (pc := 36) dX12_acted_36 rfl rfl ?_
        refine sw_iaload (pc := 37) (k := 4) (v := .int 0) dX12_acted_37 rfl rfl rfl (by decide) (by decide) rfl rfl ?_
        refine sv_iret (pc := 38) dX12_acted_38 rfl (le_t rfl) (le_t rfl) ?_
        refine sv_aload_n (pc := 24) dX12_isRest_24 rfl rfl ?_
        refine sw_getfield (pc := 25) dX12_isRest_25 (gCX12 _ _ _ _ _) 122 (by decide) wF_X12_526 rfl rfl rfl ?_
        refine sv_iload_n (pc := 28) dX12_isRest_28 rfl rfl ?_
        refine sw_iaload (pc := 29) (k := 4) (v := .int 0) dX12_isRest_29 rfl rfl rfl (by decide) (by decide) rfl rfl ?_
        refine sv_icmp_ne (pc := 30) (tgt := 37) dX12_isRest_30 (by decide) (fun h => absurd (by decide) h) (fun _ => ?_)
        refine sv_iconst (pc := 33) (v := 1) dX12_isRest_33 (by decide) ?_
        refine sv_goto (pc := 34) (tgt := 38) dX12_isRest_34 (by decide) ?_
        refine sv_istore_n (pc := 38) dX12_isRest_38 rfl (by decide) ?_
        refine sw_iinc (pc := 39) (v := 5) dX12_isRest_39 rfl (by decide) (by decide) ?_
        refine sv_goto (pc := 42) (tgt := 9) dX12_isRest_42 (by decide) ?_
        refine sv_iload_n (pc := 9) dX12_isRest_9 rfl rfl ?_
        refine sv_bipush (pc := 10) (v := 6) dX12_isRest_10 (by decide) ?_
        refine sv_icmp_gt (pc := 12) (tgt := 45) dX12_isRest_12 (by decide) (fun h => absurd h (by decide)) (fun _ => ?_)
        refine sv_iload_n (pc := 15) dX12_isRest_15 rfl rfl ?_
        refine sv_if_eq (pc := 16) (tgt := 45) dX12_isRest_16 (by decide) (fun h => absurd h (by decide)) (fun _ => ?_)
        refine sv_aload_n (pc := 19) dX12_isRest_19 rfl rfl ?_
        refine sv_iload_n (pc := 20) dX12_isRest_20 rfl rfl ?_
        refine sv_callV (pc := 21) (M' := mX12_acted) (d' := 18) (C' := 0) (S' := 0) (av := [.int 5]) ?_ (gOk _ _ _ _ _) dX12_isRest_21 (tX12_acted _ _ _ _ _) ⟨wV_X12_acted, wL_X12_acted⟩ wM_X12_725 (gCX12 _ _ _ _ _) rfl (lt_t rfl) rfl ⟨le_t rfl, le_t rfl⟩ ⟨le_t rfl, le_t rfl⟩ rfl (le_t rfl) (fun _ _ h => h)
        refine sC.of rfl (by decide) (le_t rfl) ?_
        refine sv_iconst (pc := 0) (v := 0) dX12_acted_0 (by decide) ?_
        refine sv_istore_n (pc := 1) dX12_acted_1 rfl (by decide) ?_
        refine sv_iload_n (pc := 2) dX12_acted_2 rfl rfl ?_
        refine sv_aload_n (pc := 3) dX12_acted_3 rfl rfl ?_
        refine sw_getfield (pc := 4) dX12_acted_4 (gCX12 _ _ _ _ _) 118 (by decide) wF_X12_514 rfl rfl rfl ?_
        refine sv_iload_n (pc := 7) dX12_acted_7 rfl rfl ?_
        refine sw_iaload (pc := 8) (k := 5) (v := .int 0) dX12_acted_8 rfl rfl rfl (by decide) (by decide) rfl rfl ?_
        refine sv_icmp_ge (pc := 9) (tgt := 32) dX12_acted_9 (by decide) (fun _ => ?_) (fun h => absurd (by decide) h)
        refine sv_aload_n (pc := 32) dX12_acted_32 rfl rfl ?_
        refine sw_getfield (pc := 33) dX12_acted_33 (gCX12 _ _ _ _ _) 118 (by decide) wF_X12_514 rfl rfl rfl ?_
        refine sv_iload_n (pc := 36) dX12_acted_36 rfl rfl ?_
        refine sw_iaload (pc := 37) (k := 5) (v := .int 0) dX12_acted_37 rfl rfl rfl (by decide) (by decide) rfl rfl ?_
        refine sv_iret (pc := 38) dX12_acted_38 rfl (le_t rfl) (le_t rfl) ?_
        refine sv_aload_n (pc := 24) dX12_isRest_24 rfl rfl ?_
        refine sw_getfield (pc := 25) dX12_isRest_25 (gCX12 _ _ _ _ _) 122 (by decide) wF_X12_526 rfl rfl rfl ?_
        refine sv_iload_n (pc := 28) dX12_isRest_28 rfl rfl ?_
        refine sw_iaload (pc := 29) (k := 5) (v := .int 0) dX12_isRest_29 rfl rfl rfl (by decide) (by decide) rfl rfl ?_
        refine sv_icmp_ne (pc := 30) (tgt := 37) dX12_isRest_30 (by decide) (fun h => absurd (by decide) h) (fun _ => ?_)
        refine sv_iconst (pc := 33) (v := 1) dX12_isRest_33 (by decide) ?_
        refine sv_goto (pc := 34) (tgt := 38) dX12_isRest_34 (by decide) ?_
        refine sv_istore_n (pc := 38) dX12_isRest_38 rfl (by decide) ?_
        refine sw_iinc (pc := 39) (v := 6) dX12_isRest_39 rfl (by decide) (by decide) ?_
        refine sv_goto (pc := 42) (tgt := 9) dX12_isRest_42 (by decide) ?_
        refine sv_iload_n (pc := 9) dX12_isRest_9 rfl rfl ?_
        refine sv_bipush (pc := 10) (v := 6) dX12_isRest_10 (by decide) ?_
        refine sv_icmp_gt (pc := 12) (tgt := 45) dX12_isRest_12 (by decide) (fun h => absurd h (by decide)) (fun _ => ?_)
        refine sv_iload_n (pc := 15) dX12_isRest_15 rfl rfl ?_
        refine sv_if_eq (pc := 16) (tgt := 45) dX12_isRest_16 (by decide) (fun h => absurd h (by decide)) (fun _ => ?_)
        refine sv_aload_n (pc := 19) dX12_isRest_19 rfl rfl ?_
        refine sv_iload_n (pc := 20) dX12_isRest_20 rfl rfl ?_
        refine sv_callV (pc := 21) (M' := mX12_acted) (d' := 18) (C' := 0) (S' := 0) (av := [.int 6]) ?_ (gOk _ _ _ _ _) dX12_isRest_21 (tX12_acted _ _ _ _ _) ⟨wV_X12_acted, wL_X12_acted⟩ wM_X12_725 (gCX12 _ _ _ _ _) rfl (lt_t rfl) rfl ⟨le_t rfl, le_t rfl⟩ ⟨le_t rfl, le_t rfl⟩ rfl (le_t rfl) (fun _ _ h => h)
        refine sC.of rfl (by decide) (le_t rfl) ?_
        refine sv_iconst (pc := 0) (v := 0) dX12_acted_0 (by decide) ?_
        refine sv_istore_n (pc := 1) dX12_acted_1 rfl (by decide) ?_
        refine sv_iload_n (pc := 2) dX12_acted_2 rfl rfl ?_
        refine sv_aload_n (pc := 3) dX12_acted_3 rfl rfl ?_
        refine sw_getfield (pc := 4) dX12_acted_4 (gCX12 _ _ _ _ _) 118 (by decide) wF_X12_514 rfl rfl rfl ?_
        refine sv_iload_n (pc := 7) dX12_acted_7 rfl rfl ?_
        refine sw_iaload (pc := 8) (k := 6) (v := .int 0) dX12_acted_8 rfl rfl rfl (by decide) (by decide) rfl rfl ?_
        refine sv_icmp_ge (pc := 9) (tgt := 32) dX12_acted_9 (by decide) (fun _ => ?_) (fun h => absurd (by decide) h)
        refine sv_aload_n (pc := 32) dX12_acted_32 rfl rfl ?_
        refine sw_getfield (pc := 33) dX12_acted_33 (gCX12 _ _ _ _ _) 118 (by decide) wF_X12_514 rfl rfl rfl ?_
        refine sv_iload_n (pc := 36) dX12_acted_36 rfl rfl ?_
        refine sw_iaload (pc := 37) (k := 6) (v := .int 0) dX12_acted_37 rfl rfl rfl (by decide) (by decide) rfl rfl ?_
        refine sv_iret (pc := 38) dX12_acted_38 rfl (le_t rfl) (le_t rfl) ?_
        refine sv_aload_n (pc := 24) dX12_isRest_24 rfl rfl ?_
        refine sw_getfield (pc := 25) dX12_isRest_25 (gCX12 _ _ _ _ _) 122 (by decide) wF_X12_526 rfl rfl rfl ?_
        refine sv_iload_n (pc := 28) dX12_isRest_28 rfl rfl ?_
        refine sw_iaload (pc := 29) (k := 6) (v := .int 0) dX12_isRest_29 rfl rfl rfl (by decide) (by decide) rfl rfl ?_
        refine sv_icmp_ne (pc := 30) (tgt := 37) dX12_isRest_30 (by decide) (fun h => absurd (by decide) h) (fun _ => ?_)
        refine sv_iconst (pc := 33) (v := 1) dX12_isRest_33 (by decide) ?_
        refine sv_goto (pc := 34) (tgt := 38) dX12_isRest_34 (by decide) ?_
        refine sv_istore_n (pc := 38) dX12_isRest_38 rfl (by decide) ?_
        refine sw_iinc (pc := 39) (v := 7) dX12_isRest_39 rfl (by decide) (by decide) ?_
        refine sv_goto (pc := 42) (tgt := 9) dX12_isRest_42 (by decide) ?_
        refine sv_iload_n (pc := 9) dX12_isRest_9 rfl rfl ?_
        refine sv_bipush (pc := 10) (v := 6) dX12_isRest_10 (by decide) ?_
        refine sv_icmp_gt (pc := 12) (tgt := 45) dX12_isRest_12 (by decide) (fun _ => ?_) (fun h => absurd (by decide) h)
        refine sv_iload_n (pc := 45) dX12_isRest_45 rfl rfl ?_
        refine sv_zret (pc := 46) dX12_isRest_46 rfl (by decide) (le_t rfl) (le_t rfl) ?_
        refine sv_if_ne (pc := 39) (tgt := 45) dX12_rest_39 (by decide) (fun _ => ?_) (fun h => absurd h (by decide))
        refine sv_iload (pc := 45) dX12_rest_45 rfl ?_
        refine sv_if_ne (pc := 47) (tgt := 83) dX12_rest_47 (by decide) (fun h => absurd (by decide) h) (fun _ => ?_)
        refine sv_aload_n (pc := 50) dX12_rest_50 rfl rfl ?_
        refine sv_iload (pc := 51) dX12_rest_51 rfl ?_
        refine sv_callV (pc := 53) (M' := mX12_open) (d' := 19) (C' := 0) (S' := 0) (av := [.int 0]) ?_ (gOk _ _ _ _ _) dX12_rest_53 (tX12_open _ _ _ _ _) ⟨wV_X12_open, wL_X12_open⟩ wM_X12_722 (gCX12 _ _ _ _ _) rfl (lt_t rfl) rfl ⟨le_t rfl, le_t rfl⟩ ⟨le_t rfl, le_t rfl⟩ rfl (le_t rfl) (fun _ _ h => h)
        refine sC.of rfl (by decide) (le_t rfl) ?_
        refine sv_iconst (pc := 0) (v := 1) dX12_open_0 (by decide) ?_
        refine sv_istore_n (pc := 1) dX12_open_1 rfl (by decide) ?_
        refine sv_iload_n (pc := 2) dX12_open_2 rfl rfl ?_
        refine sv_bipush (pc := 3) (v := 6) dX12_open_3 (by decide) ?_
        refine sv_icmp_gt (pc := 5) (tgt := 37) dX12_open_5 (by decide) (fun h => absurd h (by decide)) (fun _ => ?_)
        refine sv_aload_n (pc := 8) dX12_open_8 rfl rfl ?_
        refine sw_getfield (pc := 9) dX12_open_9 (gCX12 _ _ _ _ _) 122 (by decide) wF_X12_526 rfl rfl rfl ?_
        refine sv_iload_n (pc := 12) dX12_open_12 rfl rfl ?_
        refine sv_iload_n (pc := 13) dX12_open_13 rfl rfl ?_
        refine sv_aload_n (pc := 14) dX12_open_14 rfl rfl ?_
        refine sw_getfield (pc := 15) dX12_open_15 (gCX12 _ _ _ _ _) 121 (by decide) wF_X12_523 rfl rfl rfl ?_
        refine sv_iload_n (pc := 18) dX12_open_18 rfl rfl ?_
        refine sw_iaload (pc := 19) (k := 1) (v := .int 1) dX12_open_19 rfl rfl rfl (by decide) (by decide) rfl rfl ?_
        refine sw_idiv (pc := 20) (v := 0) dX12_open_20 (by decide) (by decide) ?_
        refine sv_aload_n (pc := 21) dX12_open_21 rfl rfl ?_
        refine sw_getfield (pc := 22) dX12_open_22 (gCX12 _ _ _ _ _) 118 (by decide) wF_X12_514 rfl rfl rfl ?_
        refine sv_iload_n (pc := 25) dX12_open_25 rfl rfl ?_
        refine sw_iaload (pc := 26) (k := 1) (v := .int 0) dX12_open_26 rfl rfl rfl (by decide) (by decide) rfl rfl ?_
        refine sv_iconst (pc := 27) (v := 1) dX12_open_27 (by decide) ?_
        refine sw_iadd (pc := 28) (v := 1) dX12_open_28 (by decide) ?_
        refine sw_irem (pc := 29) (v := 0) dX12_open_29 (by decide) (by decide) ?_
        refine sw_iastore (pc := 30) (k := 1) (v := .int 0) dX12_open_30 rfl rfl rfl (by decide) (by decide) rfl rfl ?_
        refine sw_iinc (pc := 31) (v := 2) dX12_open_31 rfl (by decide) (by decide) ?_
        refine sv_goto (pc := 34) (tgt := 2) dX12_open_34 (by decide) ?_
        refine sv_iload_n (pc := 2) dX12_open_2 rfl rfl ?_
        refine sv_bipush (pc := 3) (v := 6) dX12_open_3 (by decide) ?_
        refine sv_icmp_gt (pc := 5) (tgt := 37) dX12_open_5 (by decide) (fun h => absurd h (by decide)) (fun _ => ?_)
        refine sv_aload_n (pc := 8) dX12_open_8 rfl rfl ?_
        refine sw_getfield (pc := 9) dX12_open_9 (gCX12 _ _ _ _ _) 122 (by decide) wF_X12_526 rfl rfl rfl ?_
        refine sv_iload_n (pc := 12) dX12_open_12 rfl rfl ?_
        refine sv_iload_n (pc := 13) dX12_open_13 rfl rfl ?_
        refine sv_aload_n (pc := 14) dX12_open_14 rfl rfl ?_
        refine sw_getfield (pc := 15) dX12_open_15 (gCX12 _ _ _ _ _) 121 (by decide) wF_X12_523 rfl rfl rfl ?_
        refine sv_iload_n (pc := 18) dX12_open_18 rfl rfl ?_
        refine sw_iaload (pc := 19) (k := 2) (v := .int 1) dX12_open_19 rfl rfl rfl (by decide) (by decide) rfl rfl ?_
        refine sw_idiv (pc := 20) (v := 0) dX12_open_20 (by decide) (by decide) ?_
        refine sv_aload_n (pc := 21) dX12_open_21 rfl rfl ?_
        refine sw_getfield (pc := 22) dX12_open_22 (gCX12 _ _ _ _ _) 118 (by decide) wF_X12_514 rfl rfl rfl ?_
        refine sv_iload_n (pc := 25) dX12_open_25 rfl rfl ?_
        refine sw_iaload (pc := 26) (k := 2) (v := .int 0) dX12_open_26 rfl rfl rfl (by decide) (by decide) rfl rfl ?_
        refine sv_iconst (pc := 27) (v := 1) dX12_open_27 (by decide) ?_
        refine sw_iadd (pc := 28) (v := 1) dX12_open_28 (by decide) ?_
        refine sw_irem (pc := 29) (v := 0) dX12_open_29 (by decide) (by decide) ?_
        refine sw_iastore (pc := 30) (k := 2) (v := .int 0) dX12_open_30 rfl rfl rfl (by decide) (by decide) rfl rfl ?_
        refine sw_iinc (pc := 31) (v := 3) dX12_open_31 rfl (by decide) (by decide) ?_
        refine sv_goto (pc := 34) (tgt := 2) dX12_open_34 (by decide) ?_
        refine sv_iload_n (pc := 2) dX12_open_2 rfl rfl ?_
        refine sv_bipush (pc := 3) (v := 6) dX12_open_3 (by decide) ?_
        refine sv_icmp_gt (pc := 5) (tgt := 37) dX12_open_5 (by decide) (fun h => absurd h (by decide)) (fun _ => ?_)
        refine sv_aload_n (pc := 8) dX12_open_8 rfl rfl ?_
        refine sw_getfield (pc := 9) dX12_open_9 (gCX12 _ _ _ _ _) 122 (by decide) wF_X12_526 rfl rfl rfl ?_
        refine sv_iload_n (pc := 12) dX12_open_12 rfl rfl ?_
        refine sv_iload_n (pc := 13) dX12_open_13 rfl rfl ?_
        refine sv_aload_n (pc := 14) dX12_open_14 rfl rfl ?_
        refine sw_getfield (pc := 15) dX12_open_15 (gCX12 _ _ _ _ _) 121 (by decide) wF_X12_523 rfl rfl rfl ?_
        refine sv_iload_n (pc := 18) dX12_open_18 rfl rfl ?_
        refine sw_iaload (pc := 19) (k := 3) (v := .int 1) dX12_open_19 rfl rfl rfl (by decide) (by decide) rfl rfl ?_
        refine sw_idiv (pc := 20) (v := 0) dX12_open_20 (by decide) (by decide) ?_
        refine sv_aload_n (pc := 21) dX12_open_21 rfl rfl ?_
        refine sw_getfield (pc := 22) dX12_open_22 (gCX12 _ _ _ _ _) 118 (by decide) wF_X12_514 rfl rfl rfl ?_
        refine sv_iload_n (pc := 25) dX12_open_25 rfl rfl ?_
        refine sw_iaload (pc := 26) (k := 3) (v := .int 0) dX12_open_26 rfl rfl rfl (by decide) (by decide) rfl rfl ?_
        refine sv_iconst (pc := 27) (v := 1) dX12_open_27 (by decide) ?_
        refine sw_iadd (pc := 28) (v := 1) dX12_open_28 (by decide) ?_
        refine sw_irem (pc := 29) (v := 0) dX12_open_29 (by decide) (by decide) ?_
        refine sw_iastore (pc := 30) (k := 3) (v := .int 0) dX12_open_30 rfl rfl rfl (by decide) (by decide) rfl rfl ?_
        refine sw_iinc (pc := 31) (v := 4) dX12_open_31 rfl (by decide) (by decide) ?_
        refine sv_goto (pc := 34) (tgt := 2) dX12_open_34 (by decide) ?_
        refine sv_iload_n (pc := 2) dX12_open_2 rfl rfl ?_
        refine sv_bipush (pc := 3) (v := 6) dX12_open_3 (by decide) ?_
        refine sv_icmp_gt (pc := 5) (tgt := 37) dX12_open_5 (by decide) (fun h => absurd h (by decide)) (fun _ => ?_)
        refine sv_aload_n (pc := 8) dX12_open_8 rfl rfl ?_
        refine sw_getfield (pc := 9) dX12_open_9 (gCX12 _ _ _ _ _) 122 (by decide) wF_X12_526 rfl rfl rfl ?_
        refine sv_iload_n (pc := 12) dX12_open_12 rfl rfl ?_
        refine sv_iload_n (pc := 13) dX12_open_13 rfl rfl ?_
        refine sv_aload_n (pc := 14) dX12_open_14 rfl rfl ?_
        refine sw_getfield (pc := 15) dX12_open_15 (gCX12 _ _ _ _ _) 121 (by decide) wF_X12_523 rfl rfl rfl ?_
        refine sv_iload_n (pc := 18) dX12_open_18 rfl rfl ?_
        refine sw_iaload (pc := 19) (k := 4) (v := .int 1) dX12_open_19 rfl rfl rfl (by decide) (by decide) rfl rfl ?_
        refine sw_idiv (pc := 20) (v := 0) dX12_open_20 (by decide) (by decide) ?_
        refine sv_aload_n (pc := 21) dX12_open_21 rfl rfl ?_
        refine sw_getfield (pc := 22) dX12_open_22 (gCX12 _ _ _ _ _) 118 (by decide) wF_X12_514 rfl rfl rfl ?_
        refine sv_iload_n (pc := 25) dX12_open_25 rfl rfl ?_
        refine sw_iaload (pc := 26) (k := 4) (v := .int 0) dX12_open_26 rfl rfl rfl (by decide) (by decide) rfl rfl ?_
        refine sv_iconst (pc := 27) (v := 1) dX12_open_27 (by decide) ?_
        refine sw_iadd (pc := 28) (v := 1) dX12_open_28 (by decide) ?_
        refine sw_irem (pc := 29) (v := 0) dX12_open_29 (by decide) (by decide) ?_
        refine sw_iastore (pc := 30) (k := 4) (v := .int 0) dX12_open_30 rfl rfl rfl (by decide) (by decide) rfl rfl ?_
        refine sw_iinc (pc := 31) (v := 5) dX12_open_31 rfl (by decide) (by decide) ?_
        refine sv_goto (pc := 34) (tgt := 2) dX12_open_34 (by decide) ?_
        refine sv_iload_n (pc := 2) dX12_open_2 rfl rfl ?_
        refine sv_bipush (pc := 3) (v := 6) dX12_open_3 (by decide) ?_
        refine sv_icmp_gt (pc := 5) (tgt := 37) dX12_open_5 (by decide) (fun h => absurd h (by decide)) (fun _ => ?_)
        refine sv_aload_n (pc := 8) dX12_open_8 rfl rfl ?_
        refine sw_getfield (pc := 9) dX12_open_9 (gCX12 _ _ _ _ _) 122 (by decide) wF_X12_526 rfl rfl rfl ?_
        refine sv_iload_n (pc := 12) dX12_open_12 rfl rfl ?_
        refine sv_iload_n (pc := 13) dX12_open_13 rfl rfl ?_
        refine sv_aload_n (pc := 14) dX12_open_14 rfl rfl ?_
        refine sw_getfield (pc := 15) dX12_open_15 (gCX12 _ _ _ _ _) 121 (by decide) wF_X12_523 rfl rfl rfl ?_
        refine sv_iload_n (pc := 18) dX12_open_18 rfl rfl ?_
        refine sw_iaload (pc := 19) (k := 5) (v := .int 1) dX12_open_19 rfl rfl rfl (by decide) (by decide) rfl rfl ?_
        refine sw_idiv (pc := 20) (v := 0) dX12_open_20 (by decide) (by decide) ?_
        refine sv_aload_n (pc := 21) dX12_open_21 rfl rfl ?_
        refine sw_getfield (pc := 22) dX12_open_22 (gCX12 _ _ _ _ _) 118 (by decide) wF_X12_514 rfl rfl rfl ?_
        refine sv_iload_n (pc := 25) dX12_open_25 rfl rfl ?_
        refine sw_iaload (pc := 26) (k := 5) (v := .int 0) dX12_open_26 rfl rfl rfl (by decide) (by decide) rfl rfl ?_
        refine sv_iconst (pc := 27) (v := 1) dX12_open_27 (by decide) ?_
        refine sw_iadd (pc := 28) (v := 1) dX12_open_28 (by decide) ?_
        refine sw_irem (pc := 29) (v := 0) dX12_open_29 (by decide) (by decide) ?_
        refine sw_iastore (pc := 30) (k := 5) (v := .int 0) dX12_open_30 rfl rfl rfl (by decide) (by decide) rfl rfl ?_
        refine sw_iinc (pc := 31) (v := 6) dX12_open_31 rfl (by decide) (by decide) ?_
        refine sv_goto (pc := 34) (tgt := 2) dX12_open_34 (by decide) ?_
        refine sv_iload_n (pc := 2) dX12_open_2 rfl rfl ?_
        refine sv_bipush (pc := 3) (v := 6) dX12_open_3 (by decide) ?_
        refine sv_icmp_gt (pc := 5) (tgt := 37) dX12_open_5 (by decide) (fun h => absurd h (by decide)) (fun _ => ?_)
        refine sv_aload_n (pc := 8) dX12_open_8 rfl rfl ?_
        refine sw_getfield (pc := 9) dX12_open_9 (gCX12 _ _ _ _ _) 122 (by decide) wF_X12_526 rfl rfl rfl ?_
        refine sv_iload_n (pc := 12) dX12_open_12 rfl rfl ?_
        refine sv_iload_n (pc := 13) dX12_open_13 rfl rfl ?_
        refine sv_aload_n (pc := 14) dX12_open_14 rfl rfl ?_
        refine sw_getfield (pc := 15) dX12_open_15 (gCX12 _ _ _ _ _) 121 (by decide) wF_X12_523 rfl rfl rfl ?_
        refine sv_iload_n (pc := 18) dX12_open_18 rfl rfl ?_
        refine sw_iaload (pc := 19) (k := 6) (v := .int 1) dX12_open_19 rfl rfl rfl (by decide) (by decide) rfl rfl ?_
        refine sw_idiv (pc := 20) (v := 0) dX12_open_20 (by decide) (by decide) ?_
        refine sv_aload_n (pc := 21) dX12_open_21 rfl rfl ?_
        refine sw_getfield (pc := 22) dX12_open_22 (gCX12 _ _ _ _ _) 118 (by decide) wF_X12_514 rfl rfl rfl ?_
        refine sv_iload_n (pc := 25) dX12_open_25 rfl rfl ?_
        refine sw_iaload (pc := 26) (k := 6) (v := .int 0) dX12_open_26 rfl rfl rfl (by decide) (by decide) rfl rfl ?_
        refine sv_iconst (pc := 27) (v := 1) dX12_open_27 (by decide) ?_
        refine sw_iadd (pc := 28) (v := 1) dX12_open_28 (by decide) ?_
        refine sw_irem (pc := 29) (v := 0) dX12_open_29 (by decide) (by decide) ?_
        refine sw_iastore (pc := 30) (k := 6) (v := .int 0) dX12_open_30 rfl rfl rfl (by decide) (by decide) rfl rfl ?_
        refine sw_iinc (pc := 31) (v := 7) dX12_open_31 rfl (by decide) (by decide) ?_
        refine sv_goto (pc := 34) (tgt := 2) dX12_open_34 (by decide) ?_
        refine sv_iload_n (pc := 2) dX12_open_2 rfl rfl ?_
        refine sv_bipush (pc := 3) (v := 6) dX12_open_3 (by decide) ?_
        refine sv_icmp_gt (pc := 5) (tgt := 37) dX12_open_5 (by decide) (fun _ => ?_) (fun h => absurd (by decide) h)
        refine sv_vret (pc := 37) dX12_open_37 rfl (le_t rfl) (le_t rfl) ?_
        refine sv_aload_n (pc := 56) dX12_rest_56 rfl rfl ?_
        refine sw_getfield (pc := 57) dX12_rest_57 (gCX12 _ _ _ _ _) 122 (by decide) wF_X12_526 rfl rfl rfl ?_
        refine sv_iload_n (pc := 60) dX12_rest_60 rfl rfl ?_
        refine sw_iaload (pc := 61) (k := 2) (v := .int 0) dX12_rest_61 rfl rfl rfl (by decide) (by decide) rfl rfl ?_
        refine sv_aload_n (pc := 62) dX12_rest_62 rfl rfl ?_
        refine sw_getfield (pc := 63) dX12_rest_63 (gCX12 _ _ _ _ _) 118 (by decide) wF_X12_514 rfl rfl rfl ?_
        refine sv_iload_n (pc := 66) dX12_rest_66 rfl rfl ?_
        refine sw_iaload (pc := 67) (k := 2) (v := .int 0) dX12_rest_67 rfl rfl rfl (by decide) (by decide) rfl rfl ?_
        refine sv_icmp_ne (pc := 68) (tgt := 76) dX12_rest_68 (by decide) (fun h => absurd (by decide) h) (fun _ => ?_)
        refine sv_bipush (pc := 71) (v := (-4)) dX12_rest_71 (by decide) ?_
        refine sv_goto (pc := 73) (tgt := 82) dX12_rest_73 (by decide) ?_
        refine sv_iret (pc := 82) dX12_rest_82 rfl (le_t rfl) (le_t rfl) ?_
        refine sv_icmp_eq (pc := 1748) (tgt := 1799) dL_law_1748 (by decide) (fun _ => ?_) (fun h => absurd (by decide) h)
        exact kk _ _ _ (le_t rfl) (le_t rfl)
      by_cases q_8 : x2 = 3
      · subst q_8
        refine sw_iaload (pc := 5) (k := 3) (v := .int 1) dX4_figure_5 rfl rfl rfl (by decide) (by decide) rfl rfl ?_
        refine sv_istore_n (pc := 6) dX4_figure_6 rfl (by decide) ?_
        refine sv_iload_n (pc := 7) dX4_figure_7 rfl rfl ?_
        refine sv_if_le (pc := 8) (tgt := 26) dX4_figure_8 (by decide) (fun h => absurd h (by decide)) (fun _ => ?_)
        refine sv_iload_n (pc := 11) dX4_figure_11 rfl rfl ?_
        refine sv_iload_n (pc := 12) dX4_figure_12 rfl rfl ?_
        refine sw_idiv (pc := 13) (v := 0) dX4_figure_13 (by decide) (by decide) ?_
        refine sv_aload_n (pc := 14) dX4_figure_14 rfl rfl ?_
        refine sw_getfield (pc := 15) dX4_figure_15 (gCX4 _ _ _ _ _) 12 (by decide) wF_X4_11 rfl rfl rfl ?_
        refine sv_iload_n (pc := 18) dX4_figure_18 rfl rfl ?_
        refine sw_iaload (pc := 19) (k := 3) (v := .int 0) dX4_figure_19 rfl rfl rfl (by decide) (by decide) rfl rfl ?_
        refine sv_iconst (pc := 20) (v := 1) dX4_figure_20 (by decide) ?_
        refine sw_iadd (pc := 21) (v := 1) dX4_figure_21 (by decide) ?_
        refine sw_irem (pc := 22) (v := 0) dX4_figure_22 (by decide) (by decide) ?_
        refine sv_goto (pc := 23) (tgt := 27) dX4_figure_23 (by decide) ?_
        refine sv_iret (pc := 27) dX4_figure_27 rfl (le_t rfl) (le_t rfl) ?_
        refine sv_istore_n (pc := 11) dX4_wayInRest_11 rfl (by decide) ?_
        refine sv_iload_n (pc := 12) dX4_wayInRest_12 rfl rfl ?_
        refine sv_aload_n (pc := 13) dX4_wayInRest_13 rfl rfl ?_
        refine sw_getfield (pc := 14) dX4_wayInRest_14 (gCX4 _ _ _ _ _) 12 (by decide) wF_X4_11 rfl rfl rfl ?_
        refine sv_iload_n (pc := 17) dX4_wayInRest_17 rfl rfl ?_
        refine sw_iaload (pc := 18) (k := 3) (v := .int 0) dX4_wayInRest_18 rfl rfl rfl (by decide) (by decide) rfl rfl ?_
        refine sv_icmp_ne (pc := 19) (tgt := 27) dX4_wayInRest_19 (by decide) (fun h => absurd (by decide) h) (fun _ => ?_)
        refine sv_bipush (pc := 22) (v := (-4)) dX4_wayInRest_22 (by decide) ?_
        refine sv_goto (pc := 24) (tgt := 28) dX4_wayInRest_24 (by decide) ?_
        refine sv_iret (pc := 28) dX4_wayInRest_28 rfl (le_t rfl) (le_t rfl) ?_
        refine sv_iret (pc := 44) dX11_rest_44 rfl (le_t rfl) (le_t rfl) ?_
        refine sv_aload_n (pc := 1734) dL_law_1734 rfl rfl ?_
        refine sv_aload_nS (pc := 1735) dL_law_1735 rfl rfl ?_
        refine sv_iload_n (pc := 1736) dL_law_1736 rfl rfl ?_
        refine sv_iconst (pc := 1737) (v := 1) dL_law_1737 (by decide) ?_
        refine sw_iadd (pc := 1738) (v := 1) dL_law_1738 (by decide) ?_
        refine sw_sld (pc := 1739) (v := 0) dL_law_1739 (k := 1) (by decide) (by decide) rfl hx1 ?_
        refine sv_aload_nS (pc := 1740) dL_law_1740 rfl rfl ?_
        refine sv_iload_n (pc := 1741) dL_law_1741 rfl rfl ?_
        refine sv_iconst (pc := 1742) (v := 2) dL_law_1742 (by decide) ?_
        refine sw_iadd (pc := 1743) (v := 2) dL_law_1743 (by decide) ?_
        refine sw_sld (pc := 1744) (v := 3) dL_law_1744 (k := 2) (by decide) (by decide) rfl hx2 ?_
        refine sv_callV (pc := 1745) (M' := mX12_rest) (d' := 20) (C' := 0) (S' := 0) (av := [.int 0, .int 3]) ?_ (gOk _ _ _ _ _) dL_law_1745 (tX12_rest _ _ _ _ _) ⟨wV_X12_rest, wL_X12_rest⟩ wM_DomainHouseLaw_206 (gCX12 _ _ _ _ _) rfl (lt_t rfl) rfl ⟨le_t rfl, le_t rfl⟩ ⟨le_t rfl, le_t rfl⟩ rfl (le_t rfl) (fun _ _ h => h)
        refine sC.of rfl (by decide) (le_t rfl) ?_
        refine sv_iload_n (pc := 0) dX12_rest_0 rfl rfl ?_
        refine sv_if_lt (pc := 1) (tgt := 14) dX12_rest_1 (by decide) (fun h => absurd h (by decide)) (fun _ => ?_)
        refine sv_iload_n (pc := 4) dX12_rest_4 rfl rfl ?_
        refine sv_iconst (pc := 5) (v := 1) dX12_rest_5 (by decide) ?_
        refine sv_bipush (pc := 6) (v := 6) dX12_rest_6 (by decide) ?_
        refine sv_callS (pc := 8) (M' := mX12_in) (d' := 19) (C' := 0) (S' := 0) (av := [.int 3, .int 1, .int 6]) ?_ (gOk _ _ _ _ _) dX12_rest_8 (tX12_in _ _ _ _ _) wS_X12_in wM_X12_18 ⟨le_t rfl, le_t rfl⟩ ⟨le_t rfl, le_t rfl⟩ rfl (le_t rfl) (fun _ _ h => h)
        refine sC.of rfl (by decide) (le_t rfl) ?_
        refine sv_iload_n (pc := 0) dX12_in_0 rfl rfl ?_
        refine sv_iload_n (pc := 1) dX12_in_1 rfl rfl ?_
        refine sv_icmp_lt (pc := 2) (tgt := 14) dX12_in_2 (by decide) (fun h => absurd h (by decide)) (fun _ => ?_)
        refine sv_iload_n (pc := 5) dX12_in_5 rfl rfl ?_
        refine sv_iload_n (pc := 6) dX12_in_6 rfl rfl ?_
        refine sv_icmp_gt (pc := 7) (tgt := 14) dX12_in_7 (by decide) (fun h => absurd h (by decide)) (fun _ => ?_)
        refine sv_iconst (pc := 10) (v := 1) dX12_in_10 (by decide) ?_
        refine sv_goto (pc := 11) (tgt := 15) dX12_in_11 (by decide) ?_
        refine sv_zret (pc := 15) dX12_in_15 rfl (by decide) (le_t rfl) (le_t rfl) ?_
        refine sv_if_ne (pc := 11) (tgt := 16) dX12_rest_11 (by decide) (fun _ => ?_) (fun h => absurd h (by decide))
        refine sv_aload_n (pc := 16) dX12_rest_16 rfl rfl ?_
        refine sv_callV (pc := 17) (M' := mX12_states) (d' := 19) (C' := 0) (S' := 0) (av := []) ?_ (gOk _ _ _ _ _) dX12_rest_17 (tX12_states _ _ _ _ _) ⟨wV_X12_states, wL_X12_states⟩ wM_X12_728 (gCX12 _ _ _ _ _) rfl (lt_t rfl) rfl ⟨le_t rfl, le_t rfl⟩ ⟨le_t rfl, le_t rfl⟩ rfl (le_t rfl) (fun _ _ h => h)
        refine sC.of rfl (by decide) (le_t rfl) ?_
        refine sv_iconst (pc := 0) (v := 1) dX12_states_0 (by decide) ?_
        refine sv_istore_n (pc := 1) dX12_states_1 rfl (by decide) ?_
        refine sv_bipush (pc := 2) (v := 6) dX12_states_2 (by decide) ?_
        refine sv_istore_n (pc := 4) dX12_states_4 rfl (by decide) ?_
        refine sv_iload_n (pc := 5) dX12_states_5 rfl rfl ?_
        refine sv_iconst (pc := 6) (v := 1) dX12_states_6 (by decide) ?_
        refine sv_icmp_lt (pc := 7) (tgt := 34) dX12_states_7 (by decide) (fun h => absurd h (by decide)) (fun _ => ?_)
        refine sv_aload_n (pc := 10) dX12_states_10 rfl rfl ?_
        refine sw_getfield (pc := 11) dX12_states_11 (gCX12 _ _ _ _ _) 121 (by decide) wF_X12_523 rfl rfl rfl ?_
        refine sv_iload_n (pc := 14) dX12_states_14 rfl rfl ?_
        refine sv_iload_n (pc := 15) dX12_states_15 rfl rfl ?_
        refine sw_iastore (pc := 16) (k := 6) (v := .int 1) dX12_states_16 rfl rfl rfl (by decide) (by decide) rfl rfl ?_
        refine sv_iload_n (pc := 17) dX12_states_17 rfl rfl ?_
        refine sv_aload_n (pc := 18) dX12_states_18 rfl rfl ?_
        refine sw_getfield (pc := 19) dX12_states_19 (gCX12 _ _ _ _ _) 118 (by decide) wF_X12_514 rfl rfl rfl ?_
        refine sv_iload_n (pc := 22) dX12_states_22 rfl rfl ?_
        refine sw_iaload (pc := 23) (k := 6) (v := .int 0) dX12_states_23 rfl rfl rfl (by decide) (by decide) rfl rfl ?_
        refine sv_iconst (pc := 24) (v := 1) dX12_states_24 (by decide) ?_
        refine sw_iadd (pc := 25) (v := 1) dX12_states_25 (by decide) ?_
        refine sw_imul (pc := 26) (v := 1) dX12_states_26 (by decide) ?_
        refine sv_istore_n (pc := 27) dX12_states_27 rfl (by decide) ?_
        refine sw_iinc (pc := 28) (v := 5) dX12_states_28 rfl (by decide) (by decide) ?_
        refine sv_goto (pc := 31) (tgt := 5) dX12_states_31 (by decide) ?_
        refine sv_iload_n (pc := 5) dX12_states_5 rfl rfl ?_
        refine sv_iconst (pc := 6) (v := 1) dX12_states_6 (by decide) ?_
        refine sv_icmp_lt (pc := 7) (tgt := 34) dX12_states_7 (by decide) (fun h => absurd h (by decide)) (fun _ => ?_)
        refine sv_aload_n (pc := 10) dX12_states_10 rfl rfl ?_
        refine sw_getfield (pc := 11) dX12_states_11 (gCX12 _ _ _ _ _) 121 (by decide) wF_X12_523 rfl rfl rfl ?_
        refine sv_iload_n (pc := 14) dX12_states_14 rfl rfl ?_
        refine sv_iload_n (pc := 15) dX12_states_15 rfl rfl ?_
        refine sw_iastore (pc := 16) (k := 5) (v := .int 1) dX12_states_16 rfl rfl rfl (by decide) (by decide) rfl rfl ?_
        refine sv_iload_n (pc := 17) dX12_states_17 rfl rfl ?_
        refine sv_aload_n (pc := 18) dX12_states_18 rfl rfl ?_
        refine sw_getfield (pc := 19) dX12_states_19 (gCX12 _ _ _ _ _) 118 (by decide) wF_X12_514 rfl rfl rfl ?_
        refine sv_iload_n (pc := 22) dX12_states_22 rfl rfl ?_
        refine sw_iaload (pc := 23) (k := 5) (v := .int 0) dX12_states_23 rfl rfl rfl (by decide) (by decide) rfl rfl ?_
        refine sv_iconst (pc := 24) (v := 1) dX12_states_24 (by decide) ?_
        refine sw_iadd (pc := 25) (v := 1) dX12_states_25 (by decide) ?_
        refine sw_imul (pc := 26) (v := 1) dX12_states_26 (by decide) ?_
        refine sv_istore_n (pc := 27) dX12_states_27 rfl (by decide) ?_
        refine sw_iinc (pc := 28) (v := 4) dX12_states_28 rfl (by decide) (by decide) ?_
        refine sv_goto (pc := 31) (tgt := 5) dX12_states_31 (by decide) ?_
        refine sv_iload_n (pc := 5) dX12_states_5 rfl rfl ?_
        refine sv_iconst (pc := 6) (v := 1) dX12_states_6 (by decide) ?_
        refine sv_icmp_lt (pc := 7) (tgt := 34) dX12_states_7 (by decide) (fun h => absurd h (by decide)) (fun _ => ?_)
        refine sv_aload_n (pc := 10) dX12_states_10 rfl rfl ?_
        refine sw_getfield (pc := 11) dX12_states_11 (gCX12 _ _ _ _ _) 121 (by decide) wF_X12_523 rfl rfl rfl ?_
        refine sv_iload_n (pc := 14) dX12_states_14 rfl rfl ?_
        refine sv_iload_n (pc := 15) dX12_states_15 rfl rfl ?_
        refine sw_iastore (pc := 16) (k := 4) (v := .int 1) dX12_states_16 rfl rfl rfl (by decide) (by decide) rfl rfl ?_
        refine sv_iload_n (pc := 17) dX12_states_17 rfl rfl ?_
        refine sv_aload_n (pc := 18) dX12_states_18 rfl rfl ?_
        refine sw_getfield (pc := 19) dX12_states_19 (gCX12 _ _ _ _ _) 118 (by decide) wF_X12_514 rfl rfl rfl ?_
        refine sv_iload_n (pc := 22) dX12_states_22 rfl rfl ?_
        refine sw_iaload (pc := 23) (k := 4) (v := .int 0) dX12_states_23 rfl rfl rfl (by decide) (by decide) rfl rfl ?_
        refine sv_iconst (pc := 24) (v := 1) dX12_states_24 (by decide) ?_
        refine sw_iadd (pc := 25) (v := 1) dX12_states_25 (by decide) ?_
        refine sw_imul (pc := 26) (v := 1) dX12_states_26 (by decide) ?_
        refine sv_istore_n (pc := 27) dX12_states_27 rfl (by decide) ?_
        refine sw_iinc (pc := 28) (v := 3) dX12_states_28 rfl (by decide) (by decide) ?_
        refine sv_lvG (pc := 31) (lv' := [(0, .ref 106), (1, .int 1), (2, .int 3)]) (List.forall_mem_cons.mpr ⟨rfl, List.forall_mem_cons.mpr ⟨rfl, List.forall_mem_cons.mpr ⟨rfl, fun _ h => absurd h List.not_mem_nil⟩⟩⟩) ?_
        refine sv_goto (pc := 31) (tgt := 5) dX12_states_31 (by decide) ?_
        refine sv_iload_n (pc := 5) dX12_states_5 rfl rfl ?_
        refine sv_iconst (pc := 6) (v := 1) dX12_states_6 (by decide) ?_
        refine sv_icmp_lt (pc := 7) (tgt := 34) dX12_states_7 (by decide) (fun h => absurd h (by decide)) (fun _ => ?_)
        refine sv_aload_n (pc := 10) dX12_states_10 rfl rfl ?_
        refine sw_getfield (pc := 11) dX12_states_11 (gCX12 _ _ _ _ _) 121 (by decide) wF_X12_523 rfl rfl rfl ?_
        refine sv_iload_n (pc := 14) dX12_states_14 rfl rfl ?_
        refine sv_iload_n (pc := 15) dX12_states_15 rfl rfl ?_
        refine sw_iastore (pc := 16) (k := 3) (v := .int 1) dX12_states_16 rfl rfl rfl (by decide) (by decide) rfl rfl ?_
        refine sv_iload_n (pc := 17) dX12_states_17 rfl rfl ?_
        refine sv_aload_n (pc := 18) dX12_states_18 rfl rfl ?_
        refine sw_getfield (pc := 19) dX12_states_19 (gCX12 _ _ _ _ _) 118 (by decide) wF_X12_514 rfl rfl rfl ?_
        refine sv_iload_n (pc := 22) dX12_states_22 rfl rfl ?_
        refine sw_iaload (pc := 23) (k := 3) (v := .int 0) dX12_states_23 rfl rfl rfl (by decide) (by decide) rfl rfl ?_
        refine sv_iconst (pc := 24) (v := 1) dX12_states_24 (by decide) ?_
        refine sw_iadd (pc := 25) (v := 1) dX12_states_25 (by decide) ?_
        refine sw_imul (pc := 26) (v := 1) dX12_states_26 (by decide) ?_
        refine sv_istore_n (pc := 27) dX12_states_27 rfl (by decide) ?_
        refine sw_iinc (pc := 28) (v := 2) dX12_states_28 rfl (by decide) (by decide) ?_
        refine sv_goto (pc := 31) (tgt := 5) dX12_states_31 (by decide) ?_
        refine sv_iload_n (pc := 5) dX12_states_5 rfl rfl ?_
        refine sv_iconst (pc := 6) (v := 1) dX12_states_6 (by decide) ?_
        refine sv_icmp_lt (pc := 7) (tgt := 34) dX12_states_7 (by decide) (fun h => absurd h (by decide)) (fun _ => ?_)
        refine sv_aload_n (pc := 10) dX12_states_10 rfl rfl ?_
        refine sw_getfield (pc := 11) dX12_states_11 (gCX12 _ _ _ _ _) 121 (by decide) wF_X12_523 rfl rfl rfl ?_
        refine sv_iload_n (pc := 14) dX12_states_14 rfl rfl ?_
        refine sv_iload_n (pc := 15) dX12_states_15 rfl rfl ?_
        refine sw_iastore (pc := 16) (k := 2) (v := .int 1) dX12_states_16 rfl rfl rfl (by decide) (by decide) rfl rfl ?_
        refine sv_iload_n (pc := 17) dX12_states_17 rfl rfl ?_
        refine sv_aload_n (pc := 18) dX12_states_18 rfl rfl ?_
        refine sw_getfield (pc := 19) dX12_states_19 (gCX12 _ _ _ _ _) 118 (by decide) wF_X12_514 rfl rfl rfl ?_
        refine sv_iload_n (pc := 22) dX12_states_22 rfl rfl ?_
        refine sw_iaload (pc := 23) (k := 2) (v := .int 0) dX12_states_23 rfl rfl rfl (by decide) (by decide) rfl rfl ?_
        refine sv_iconst (pc := 24) (v := 1) dX12_states_24 (by decide) ?_
        refine sw_iadd (pc := 25) (v := 1) dX12_states_25 (by decide) ?_
        refine sw_imul (pc := 26) (v := 1) dX12_states_26 (by decide) ?_
        refine sv_istore_n (pc := 27) dX12_states_27 rfl (by decide) ?_
        refine sw_iinc (pc := 28) (v := 1) dX12_states_28 rfl (by decide) (by decide) ?_
        refine sv_goto (pc := 31) (tgt := 5) dX12_states_31 (by decide) ?_
        refine sv_iload_n (pc := 5) dX12_states_5 rfl rfl ?_
        refine sv_iconst (pc := 6) (v := 1) dX12_states_6 (by decide) ?_
        refine sv_icmp_lt (pc := 7) (tgt := 34) dX12_states_7 (by decide) (fun h => absurd h (by decide)) (fun _ => ?_)
        refine sv_aload_n (pc := 10) dX12_states_10 rfl rfl ?_
        refine sw_getfield (pc := 11) dX12_states_11 (gCX12 _ _ _ _ _) 121 (by decide) wF_X12_523 rfl rfl rfl ?_
        refine sv_iload_n (pc := 14) dX12_states_14 rfl rfl ?_
        refine sv_iload_n (pc := 15) dX12_states_15 rfl rfl ?_
        refine sw_iastore (pc := 16) (k := 1) (v := .int 1) dX12_states_16 rfl rfl rfl (by decide) (by decide) rfl rfl ?_
        refine sv_iload_n (pc := 17) dX12_states_17 rfl rfl ?_
        refine sv_aload_n (pc := 18) dX12_states_18 rfl rfl ?_
        refine sw_getfield (pc := 19) dX12_states_19 (gCX12 _ _ _ _ _) 118 (by decide) wF_X12_514 rfl rfl rfl ?_
        refine sv_iload_n (pc := 22) dX12_states_22 rfl rfl ?_
        refine sw_iaload (pc := 23) (k := 1) (v := .int 0) dX12_states_23 rfl rfl rfl (by decide) (by decide) rfl rfl ?_
        refine sv_iconst (pc := 24) (v := 1) dX12_states_24 (by decide) ?_
        refine sw_iadd (pc := 25) (v := 1) dX12_states_25 (by decide) ?_
        refine sw_imul (pc := 26) (v := 1) dX12_states_26 (by decide) ?_
        refine sv_istore_n (pc := 27) dX12_states_27 rfl (by decide) ?_
        refine sw_iinc (pc := 28) (v := 0) dX12_states_28 rfl (by decide) (by decide) ?_
        refine sv_goto (pc := 31) (tgt := 5) dX12_states_31 (by decide) ?_
        refine sv_iload_n (pc := 5) dX12_states_5 rfl rfl ?_
        refine sv_iconst (pc := 6) (v := 1) dX12_states_6 (by decide) ?_
        refine sv_icmp_lt (pc := 7) (tgt := 34) dX12_states_7 (by decide) (fun _ => ?_) (fun h => absurd (by decide) h)
        refine sv_iload_n (pc := 34) dX12_states_34 rfl rfl ?_
        refine sv_iret (pc := 35) dX12_states_35 rfl (le_t rfl) (le_t rfl) ?_
        refine sv_istore_n (pc := 20) dX12_rest_20 rfl (by decide) ?_
        refine sv_iload_n (pc := 21) dX12_rest_21 rfl rfl ?_
        refine sv_istore (pc := 22) dX12_rest_22 (by decide) ?_
        refine sv_iconst (pc := 24) (v := 0) dX12_rest_24 (by decide) ?_
        refine sv_istore (pc := 25) dX12_rest_25 (by decide) ?_
        refine sv_iload (pc := 27) dX12_rest_27 rfl ?_
        refine sv_iload_n (pc := 29) dX12_rest_29 rfl rfl ?_
        refine sv_icmp_ge (pc := 30) (tgt := 92) dX12_rest_30 (by decide) (fun h => absurd h (by decide)) (fun _ => ?_)
        refine sv_aload_n (pc := 33) dX12_rest_33 rfl rfl ?_
        refine sv_iload (pc := 34) dX12_rest_34 rfl ?_
        refine sv_callV (pc := 36) (M' := mX12_isRest) (d' := 19) (C' := 0) (S' := 0) (av := [.int 0]) ?_ (gOk _ _ _ _ _) dX12_rest_36 (tX12_isRest _ _ _ _ _) ⟨wV_X12_isRest, wL_X12_isRest⟩ wM_X12_731 (gCX12 _ _ _ _ _) rfl (lt_t rfl) rfl ⟨le_t rfl, le_t rfl⟩ ⟨le_t rfl, le_t rfl⟩ rfl (le_t rfl) (fun _ _ h => h)
        refine sC.of rfl (by decide) (le_t rfl) ?_
        refine sv_aload_n (pc := 0) dX12_isRest_0 rfl rfl ?_
        refine sv_iload_n (pc := 1) dX12_isRest_1 rfl rfl ?_
        refine sv_callV (pc := 2) (M' := mX12_open) (d' := 18) (C' := 0) (S' := 0) (av := [.int 0]) ?_ (gOk _ _ _ _ _) dX12_isRest_2 (tX12_open _ _ _ _ _) ⟨wV_X12_open, wL_X12_open⟩ wM_X12_722 (gCX12 _ _ _ _ _) rfl (lt_t rfl) rfl ⟨le_t rfl, le_t rfl⟩ ⟨le_t rfl, le_t rfl⟩ rfl (le_t rfl) (fun _ _ h => h)
        refine sC.of rfl (by decide) (le_t rfl) ?_
        refine sv_iconst (pc := 0) (v := 1) dX12_open_0 (by decide) ?_
        refine sv_istore_n (pc := 1) dX12_open_1 rfl (by decide) ?_
        refine sv_iload_n (pc := 2) dX12_open_2 rfl rfl ?_
        refine sv_bipush (pc := 3) (v := 6) dX12_open_3 (by decide) ?_
        refine sv_icmp_gt (pc := 5) (tgt := 37) dX12_open_5 (by decide) (fun h => absurd h (by decide)) (fun _ => ?_)
        refine sv_aload_n (pc := 8) dX12_open_8 rfl rfl ?_
        refine sw_getfield (pc := 9) dX12_open_9 (gCX12 _ _ _ _ _) 122 (by decide) wF_X12_526 rfl rfl rfl ?_
        refine sv_iload_n (pc := 12) dX12_open_12 rfl rfl ?_
        refine sv_iload_n (pc := 13) dX12_open_13 rfl rfl ?_
        refine sv_aload_n (pc := 14) dX12_open_14 rfl rfl ?_
        refine sw_getfield (pc := 15) dX12_open_15 (gCX12 _ _ _ _ _) 121 (by decide) wF_X12_523 rfl rfl rfl ?_
        refine sv_iload_n (pc := 18) dX12_open_18 rfl rfl ?_
        refine sw_iaload (pc := 19) (k := 1) (v := .int 1) dX12_open_19 rfl rfl rfl (by decide) (by decide) rfl rfl ?_
        refine sw_idiv (pc := 20) (v := 0) dX12_open_20 (by decide) (by decide) ?_
        refine sv_aload_n (pc := 21) dX12_open_21 rfl rfl ?_
        refine sw_getfield (pc := 22) dX12_open_22 (gCX12 _ _ _ _ _) 118 (by decide) wF_X12_514 rfl rfl rfl ?_
        refine sv_iload_n (pc := 25) dX12_open_25 rfl rfl ?_
        refine sw_iaload (pc := 26) (k := 1) (v := .int 0) dX12_open_26 rfl rfl rfl (by decide) (by decide) rfl rfl ?_
        refine sv_iconst (pc := 27) (v := 1) dX12_open_27 (by decide) ?_
        refine sw_iadd (pc := 28) (v := 1) dX12_open_28 (by decide) ?_
        refine sw_irem (pc := 29) (v := 0) dX12_open_29 (by decide) (by decide) ?_
        refine sw_iastore (pc := 30) (k := 1) (v := .int 0) dX12_open_30 rfl rfl rfl (by decide) (by decide) rfl rfl ?_
        refine sw_iinc (pc := 31) (v := 2) dX12_open_31 rfl (by decide) (by decide) ?_
        refine sv_goto (pc := 34) (tgt := 2) dX12_open_34 (by decide) ?_
        refine sv_iload_n (pc := 2) dX12_open_2 rfl rfl ?_
        refine sv_bipush (pc := 3) (v := 6) dX12_open_3 (by decide) ?_
        refine sv_icmp_gt (pc := 5) (tgt := 37) dX12_open_5 (by decide) (fun h => absurd h (by decide)) (fun _ => ?_)
        refine sv_aload_n (pc := 8) dX12_open_8 rfl rfl ?_
        refine sw_getfield (pc := 9) dX12_open_9 (gCX12 _ _ _ _ _) 122 (by decide) wF_X12_526 rfl rfl rfl ?_
        refine sv_iload_n (pc := 12) dX12_open_12 rfl rfl ?_
        refine sv_iload_n (pc := 13) dX12_open_13 rfl rfl ?_
        refine sv_aload_n (pc := 14) dX12_open_14 rfl rfl ?_
        refine sw_getfield (pc := 15) dX12_open_15 (gCX12 _ _ _ _ _) 121 (by decide) wF_X12_523 rfl rfl rfl ?_
        refine sv_iload_n (pc := 18) dX12_open_18 rfl rfl ?_
        refine sw_iaload (pc := 19) (k := 2) (v := .int 1) dX12_open_19 rfl rfl rfl (by decide) (by decide) rfl rfl ?_
        refine sw_idiv (pc := 20) (v := 0) dX12_open_20 (by decide) (by decide) ?_
        refine sv_aload_n (pc := 21) dX12_open_21 rfl rfl ?_
        refine sw_getfield (pc := 22) dX12_open_22 (gCX12 _ _ _ _ _) 118 (by decide) wF_X12_514 rfl rfl rfl ?_
        refine sv_iload_n (pc := 25) dX12_open_25 rfl rfl ?_
        refine sw_iaload (pc := 26) (k := 2) (v := .int 0) dX12_open_26 rfl rfl rfl (by decide) (by decide) rfl rfl ?_
        refine sv_iconst (pc := 27) (v := 1) dX12_open_27 (by decide) ?_
        refine sw_iadd (pc := 28) (v := 1) dX12_open_28 (by decide) ?_
        refine sw_irem (pc := 29) (v := 0) dX12_open_29 (by decide) (by decide) ?_
        refine sw_iastore (pc := 30) (k := 2) (v := .int 0) dX12_open_30 rfl rfl rfl (by decide) (by decide) rfl rfl ?_
        refine sw_iinc (pc := 31) (v := 3) dX12_open_31 rfl (by decide) (by decide) ?_
        refine sv_goto (pc := 34) (tgt := 2) dX12_open_34 (by decide) ?_
        refine sv_iload_n (pc := 2) dX12_open_2 rfl rfl ?_
        refine sv_bipush (pc := 3) (v := 6) dX12_open_3 (by decide) ?_
        refine sv_icmp_gt (pc := 5) (tgt := 37) dX12_open_5 (by decide) (fun h => absurd h (by decide)) (fun _ => ?_)
        refine sv_aload_n (pc := 8) dX12_open_8 rfl rfl ?_
        refine sw_getfield (pc := 9) dX12_open_9 (gCX12 _ _ _ _ _) 122 (by decide) wF_X12_526 rfl rfl rfl ?_
        refine sv_iload_n (pc := 12) dX12_open_12 rfl rfl ?_
        refine sv_iload_n (pc := 13) dX12_open_13 rfl rfl ?_
        refine sv_aload_n (pc := 14) dX12_open_14 rfl rfl ?_
        refine sw_getfield (pc := 15) dX12_open_15 (gCX12 _ _ _ _ _) 121 (by decide) wF_X12_523 rfl rfl rfl ?_
        refine sv_iload_n (pc := 18) dX12_open_18 rfl rfl ?_
        refine sw_iaload (pc := 19) (k := 3) (v := .int 1) dX12_open_19 rfl rfl rfl (by decide) (by decide) rfl rfl ?_
        refine sw_idiv (pc := 20) (v := 0) dX12_open_20 (by decide) (by decide) ?_
        refine sv_aload_n (pc := 21) dX12_open_21 rfl rfl ?_
        refine sw_getfield (pc := 22) dX12_open_22 (gCX12 _ _ _ _ _) 118 (by decide) wF_X12_514 rfl rfl rfl ?_
        refine sv_iload_n (pc := 25) dX12_open_25 rfl rfl ?_
        refine sw_iaload (pc := 26) (k := 3) (v := .int 0) dX12_open_26 rfl rfl rfl (by decide) (by decide) rfl rfl ?_
        refine sv_iconst (pc := 27) (v := 1) dX12_open_27 (by decide) ?_
        refine sw_iadd (pc := 28) (v := 1) dX12_open_28 (by decide) ?_
        refine sw_irem (pc := 29) (v := 0) dX12_open_29 (by decide) (by decide) ?_
        refine sw_iastore (pc := 30) (k := 3) (v := .int 0) dX12_open_30 rfl rfl rfl (by decide) (by decide) rfl rfl ?_
        refine sw_iinc (pc := 31) (v := 4) dX12_open_31 rfl (by decide) (by decide) ?_
        refine sv_goto (pc := 34) (tgt := 2) dX12_open_34 (by decide) ?_
        refine sv_iload_n (pc := 2) dX12_open_2 rfl rfl ?_
        refine sv_bipush (pc := 3) (v := 6) dX12_open_3 (by decide) ?_
        refine sv_icmp_gt (pc := 5) (tgt := 37) dX12_open_5 (by decide) (fun h => absurd h (by decide)) (fun _ => ?_)
        refine sv_aload_n (pc := 8) dX12_open_8 rfl rfl ?_
        refine sw_getfield (pc := 9) dX12_open_9 (gCX12 _ _ _ _ _) 122 (by decide) wF_X12_526 rfl rfl rfl ?_
        refine sv_iload_n (pc := 12) dX12_open_12 rfl rfl ?_
        refine sv_iload_n (pc := 13) dX12_open_13 rfl rfl ?_
        refine sv_aload_n (pc := 14) dX12_open_14 rfl rfl ?_
        refine sw_getfield (pc := 15) dX12_open_15 (gCX12 _ _ _ _ _) 121 (by decide) wF_X12_523 rfl rfl rfl ?_
        refine sv_iload_n (pc := 18) dX12_open_18 rfl rfl ?_
        refine sw_iaload (pc := 19) (k := 4) (v := .int 1) dX12_open_19 rfl rfl rfl (by decide) (by decide) rfl rfl ?_
        refine sw_idiv (pc := 20) (v := 0) dX12_open_20 (by decide) (by decide) ?_
        refine sv_aload_n (pc := 21) dX12_open_21 rfl rfl ?_
        refine sw_getfield (pc := 22) dX12_open_22 (gCX12 _ _ _ _ _) 118 (by decide) wF_X12_514 rfl rfl rfl ?_
        refine sv_iload_n (pc := 25) dX12_open_25 rfl rfl ?_
        refine sw_iaload (pc := 26) (k := 4) (v := .int 0) dX12_open_26 rfl rfl rfl (by decide) (by decide) rfl rfl ?_
        refine sv_iconst (pc := 27) (v := 1) dX12_open_27 (by decide) ?_
        refine sw_iadd (pc := 28) (v := 1) dX12_open_28 (by decide) ?_
        refine sw_irem (pc := 29) (v := 0) dX12_open_29 (by decide) (by decide) ?_
        refine sw_iastore (pc := 30) (k := 4) (v := .int 0) dX12_open_30 rfl rfl rfl (by decide) (by decide) rfl rfl ?_
        refine sw_iinc (pc := 31) (v := 5) dX12_open_31 rfl (by decide) (by decide) ?_
        refine sv_goto (pc := 34) (tgt := 2) dX12_open_34 (by decide) ?_
        refine sv_iload_n (pc := 2) dX12_open_2 rfl rfl ?_
        refine sv_bipush (pc := 3) (v := 6) dX12_open_3 (by decide) ?_
        refine sv_icmp_gt (pc := 5) (tgt := 37) dX12_open_5 (by decide) (fun h => absurd h (by decide)) (fun _ => ?_)
        refine sv_aload_n (pc := 8) dX12_open_8 rfl rfl ?_
        refine sw_getfield (pc := 9) dX12_open_9 (gCX12 _ _ _ _ _) 122 (by decide) wF_X12_526 rfl rfl rfl ?_
        refine sv_iload_n (pc := 12) dX12_open_12 rfl rfl ?_
        refine sv_iload_n (pc := 13) dX12_open_13 rfl rfl ?_
        refine sv_aload_n (pc := 14) dX12_open_14 rfl rfl ?_
        refine sw_getfield (pc := 15) dX12_open_15 (gCX12 _ _ _ _ _) 121 (by decide) wF_X12_523 rfl rfl rfl ?_
        refine sv_iload_n (pc := 18) dX12_open_18 rfl rfl ?_
        refine sw_iaload (pc := 19) (k := 5) (v := .int 1) dX12_open_19 rfl rfl rfl (by decide) (by decide) rfl rfl ?_
        refine sw_idiv (pc := 20) (v := 0) dX12_open_20 (by decide) (by decide) ?_
        refine sv_aload_n (pc := 21) dX12_open_21 rfl rfl ?_
        refine sw_getfield (pc := 22) dX12_open_22 (gCX12 _ _ _ _ _) 118 (by decide) wF_X12_514 rfl rfl rfl ?_
        refine sv_iload_n (pc := 25) dX12_open_25 rfl rfl ?_
        refine sw_iaload (pc := 26) (k := 5) (v := .int 0) dX12_open_26 rfl rfl rfl (by decide) (by decide) rfl rfl ?_
        refine sv_iconst (pc := 27) (v := 1) dX12_open_27 (by decide) ?_
        refine sw_iadd (pc := 28) (v := 1) dX12_open_28 (by decide) ?_
        refine sw_irem (pc := 29) (v := 0) dX12_open_29 (by decide) (by decide) ?_
        refine sw_iastore (pc := 30) (k := 5) (v := .int 0) dX12_open_30 rfl rfl rfl (by decide) (by decide) rfl rfl ?_
        refine sw_iinc (pc := 31) (v := 6) dX12_open_31 rfl (by decide) (by decide) ?_
        refine sv_goto (pc := 34) (tgt := 2) dX12_open_34 (by decide) ?_
        refine sv_iload_n (pc := 2) dX12_open_2 rfl rfl ?_
        refine sv_bipush (pc := 3) (v := 6) dX12_open_3 (by decide) ?_
        refine sv_icmp_gt (pc := 5) (tgt := 37) dX12_open_5 (by decide) (fun h => absurd h (by decide)) (fun _ => ?_)
        refine sv_aload_n (pc := 8) dX12_open_8 rfl rfl ?_
        refine sw_getfield (pc := 9) dX12_open_9 (gCX12 _ _ _ _ _) 122 (by decide) wF_X12_526 rfl rfl rfl ?_
        refine sv_iload_n (pc := 12) dX12_open_12 rfl rfl ?_
        refine sv_iload_n (pc := 13) dX12_open_13 rfl rfl ?_
        refine sv_aload_n (pc := 14) dX12_open_14 rfl rfl ?_
        refine sw_getfield (pc := 15) dX12_open_15 (gCX12 _ _ _ _ _) 121 (by decide) wF_X12_523 rfl rfl rfl ?_
        refine sv_iload_n (pc := 18) dX12_open_18 rfl rfl ?_
        refine sw_iaload (pc := 19) (k := 6) (v := .int 1) dX12_open_19 rfl rfl rfl (by decide) (by decide) rfl rfl ?_
        refine sw_idiv (pc := 20) (v := 0) dX12_open_20 (by decide) (by decide) ?_
        refine sv_aload_n (pc := 21) dX12_open_21 rfl rfl ?_
        refine sw_getfield (pc := 22) dX12_open_22 (gCX12 _ _ _ _ _) 118 (by decide) wF_X12_514 rfl rfl rfl ?_
        refine sv_iload_n (pc := 25) dX12_open_25 rfl rfl ?_
        refine sw_iaload (pc := 26) (k := 6) (v := .int 0) dX12_open_26 rfl rfl rfl (by decide) (by decide) rfl rfl ?_
        refine sv_iconst (pc := 27) (v := 1) dX12_open_27 (by decide) ?_
        refine sw_iadd (pc := 28) (v := 1) dX12_open_28 (by decide) ?_
        refine sw_irem (pc := 29) (v := 0) dX12_open_29 (by decide) (by decide) ?_
        refine sw_iastore (pc := 30) (k := 6) (v := .int 0) dX12_open_30 rfl rfl rfl (by decide) (by decide) rfl rfl ?_
        refine sw_iinc (pc := 31) (v := 7) dX12_open_31 rfl (by decide) (by decide) ?_
        refine sv_goto (pc := 34) (tgt := 2) dX12_open_34 (by decide) ?_
        refine sv_iload_n (pc := 2) dX12_open_2 rfl rfl ?_
        refine sv_bipush (pc := 3) (v := 6) dX12_open_3 (by decide) ?_
        refine sv_icmp_gt (pc := 5) (tgt := 37) dX12_open_5 (by decide) (fun _ => ?_) (fun h => absurd (by decide) h)
        refine sv_vret (pc := 37) dX12_open_37 rfl (le_t rfl) (le_t rfl) ?_
        refine sv_iconst (pc := 5) (v := 1) dX12_isRest_5 (by decide) ?_
        refine sv_istore_n (pc := 6) dX12_isRest_6 rfl (by decide) ?_
        refine sv_iconst (pc := 7) (v := 1) dX12_isRest_7 (by decide) ?_
        refine sv_istore_n (pc := 8) dX12_isRest_8 rfl (by decide) ?_
        refine sv_iload_n (pc := 9) dX12_isRest_9 rfl rfl ?_
        refine sv_bipush (pc := 10) (v := 6) dX12_isRest_10 (by decide) ?_
        refine sv_icmp_gt (pc := 12) (tgt := 45) dX12_isRest_12 (by decide) (fun h => absurd h (by decide)) (fun _ => ?_)
        refine sv_iload_n (pc := 15) dX12_isRest_15 rfl rfl ?_
        refine sv_if_eq (pc := 16) (tgt := 45) dX12_isRest_16 (by decide) (fun h => absurd h (by decide)) (fun _ => ?_)
        refine sv_aload_n (pc := 19) dX12_isRest_19 rfl rfl ?_
        refine sv_iload_n (pc := 20) dX12_isRest_20 rfl rfl ?_
        refine sv_callV (pc := 21) (M' := mX12_acted) (d' := 18) (C' := 0) (S' := 0) (av := [.int 1]) ?_ (gOk _ _ _ _ _) dX12_isRest_21 (tX12_acted _ _ _ _ _) ⟨wV_X12_acted, wL_X12_acted⟩ wM_X12_725 (gCX12 _ _ _ _ _) rfl (lt_t rfl) rfl ⟨le_t rfl, le_t rfl⟩ ⟨le_t rfl, le_t rfl⟩ rfl (le_t rfl) (fun _ _ h => h)
        refine sC.of rfl (by decide) (le_t rfl) ?_
        refine sv_iconst (pc := 0) (v := 0) dX12_acted_0 (by decide) ?_
        refine sv_istore_n (pc := 1) dX12_acted_1 rfl (by decide) ?_
        refine sv_iload_n (pc := 2) dX12_acted_2 rfl rfl ?_
        refine sv_aload_n (pc := 3) dX12_acted_3 rfl rfl ?_
        refine sw_getfield (pc := 4) dX12_acted_4 (gCX12 _ _ _ _ _) 118 (by decide) wF_X12_514 rfl rfl rfl ?_
        refine sv_iload_n (pc := 7) dX12_acted_7 rfl rfl ?_
        refine sw_iaload (pc := 8) (k := 1) (v := .int 0) dX12_acted_8 rfl rfl rfl (by decide) (by decide) rfl rfl ?_
        refine sv_icmp_ge (pc := 9) (tgt := 32) dX12_acted_9 (by decide) (fun _ => ?_) (fun h => absurd (by decide) h)
        refine sv_aload_n (pc := 32) dX12_acted_32 rfl rfl ?_
        refine sw_getfield (pc := 33) dX12_acted_33 (gCX12 _ _ _ _ _) 118 (by decide) wF_X12_514 rfl rfl rfl ?_
        refine sv_iload_n (pc := 36) dX12_acted_36 rfl rfl ?_
        refine sw_iaload (pc := 37) (k := 1) (v := .int 0) dX12_acted_37 rfl rfl rfl (by decide) (by decide) rfl rfl ?_
        refine sv_iret (pc := 38) dX12_acted_38 rfl (le_t rfl) (le_t rfl) ?_
        refine sv_aload_n (pc := 24) dX12_isRest_24 rfl rfl ?_
        refine sw_getfield (pc := 25) dX12_isRest_25 (gCX12 _ _ _ _ _) 122 (by decide) wF_X12_526 rfl rfl rfl ?_
        refine sv_iload_n (pc := 28) dX12_isRest_28 rfl rfl ?_
        refine sw_iaload (pc := 29) (k := 1) (v := .int 0) dX12_isRest_29 rfl rfl rfl (by decide) (by decide) rfl rfl ?_
        refine sv_icmp_ne (pc := 30) (tgt := 37) dX12_isRest_30 (by decide) (fun h => absurd (by decide) h) (fun _ => ?_)
        refine sv_iconst (pc := 33) (v := 1) dX12_isRest_33 (by decide) ?_
        refine sv_goto (pc := 34) (tgt := 38) dX12_isRest_34 (by decide) ?_
        refine sv_istore_n (pc := 38) dX12_isRest_38 rfl (by decide) ?_
        refine sw_iinc (pc := 39) (v := 2) dX12_isRest_39 rfl (by decide) (by decide) ?_
        refine sv_goto (pc := 42) (tgt := 9) dX12_isRest_42 (by decide) ?_
        refine sv_iload_n (pc := 9) dX12_isRest_9 rfl rfl ?_
        refine sv_bipush (pc := 10) (v := 6) dX12_isRest_10 (by decide) ?_
        refine sv_icmp_gt (pc := 12) (tgt := 45) dX12_isRest_12 (by decide) (fun h => absurd h (by decide)) (fun _ => ?_)
        refine sv_iload_n (pc := 15) dX12_isRest_15 rfl rfl ?_
        refine sv_if_eq (pc := 16) (tgt := 45) dX12_isRest_16 (by decide) (fun h => absurd h (by decide)) (fun _ => ?_)
        refine sv_aload_n (pc := 19) dX12_isRest_19 rfl rfl ?_
        refine sv_iload_n (pc := 20) dX12_isRest_20 rfl rfl ?_
        refine sv_callV (pc := 21) (M' := mX12_acted) (d' := 18) (C' := 0) (S' := 0) (av := [.int 2]) ?_ (gOk _ _ _ _ _) dX12_isRest_21 (tX12_acted _ _ _ _ _) ⟨wV_X12_acted, wL_X12_acted⟩ wM_X12_725 (gCX12 _ _ _ _ _) rfl (lt_t rfl) rfl ⟨le_t rfl, le_t rfl⟩ ⟨le_t rfl, le_t rfl⟩ rfl (le_t rfl) (fun _ _ h => h)
        refine sC.of rfl (by decide) (le_t rfl) ?_
        refine sv_iconst (pc := 0) (v := 0) dX12_acted_0 (by decide) ?_
        refine sv_istore_n (pc := 1) dX12_acted_1 rfl (by decide) ?_
        refine sv_iload_n (pc := 2) dX12_acted_2 rfl rfl ?_
        refine sv_aload_n (pc := 3) dX12_acted_3 rfl rfl ?_
        refine sw_getfield (pc := 4) dX12_acted_4 (gCX12 _ _ _ _ _) 118 (by decide) wF_X12_514 rfl rfl rfl ?_
        refine sv_iload_n (pc := 7) dX12_acted_7 rfl rfl ?_
        refine sw_iaload (pc := 8) (k := 2) (v := .int 0) dX12_acted_8 rfl rfl rfl (by decide) (by decide) rfl rfl ?_
        refine sv_icmp_ge (pc := 9) (tgt := 32) dX12_acted_9 (by decide) (fun _ => ?_) (fun h => absurd (by decide) h)
        refine sv_aload_n (pc := 32) dX12_acted_32 rfl rfl ?_
        refine sw_getfield (pc := 33) dX12_acted_33 (gCX12 _ _ _ _ _) 118 (by decide) wF_X12_514 rfl rfl rfl ?_
        refine sv_iload_n (pc := 36) dX12_acted_36 rfl rfl ?_
        refine sw_iaload (pc := 37) (k := 2) (v := .int 0) dX12_acted_37 rfl rfl rfl (by decide) (by decide) rfl rfl ?_
        refine sv_iret (pc := 38) dX12_acted_38 rfl (le_t rfl) (le_t rfl) ?_
        refine sv_aload_n (pc := 24) dX12_isRest_24 rfl rfl ?_
        refine sw_getfield (pc := 25) dX12_isRest_25 (gCX12 _ _ _ _ _) 122 (by decide) wF_X12_526 rfl rfl rfl ?_
        refine sv_iload_n (pc := 28) dX12_isRest_28 rfl rfl ?_
        refine sw_iaload (pc := 29) (k := 2) (v := .int 0) dX12_isRest_29 rfl rfl rfl (by decide) (by decide) rfl rfl ?_
        refine sv_icmp_ne (pc := 30) (tgt := 37) dX12_isRest_30 (by decide) (fun h => absurd (by decide) h) (fun _ => ?_)
        refine sv_iconst (pc := 33) (v := 1) dX12_isRest_33 (by decide) ?_
        refine sv_goto (pc := 34) (tgt := 38) dX12_isRest_34 (by decide) ?_
        refine sv_istore_n (pc := 38) dX12_isRest_38 rfl (by decide) ?_
        refine sw_iinc (pc := 39) (v := 3) dX12_isRest_39 rfl (by decide) (by decide) ?_
        refine sv_goto (pc := 42) (tgt := 9) dX12_isRest_42 (by decide) ?_
        refine sv_iload_n (pc := 9) dX12_isRest_9 rfl rfl ?_
        refine sv_bipush (pc := 10) (v := 6) dX12_isRest_10 (by decide) ?_
        refine sv_icmp_gt (pc := 12) (tgt := 45) dX12_isRest_12 (by decide) (fun h => absurd h (by decide)) (fun _ => ?_)
        refine sv_iload_n (pc := 15) dX12_isRest_15 rfl rfl ?_
        refine sv_if_eq (pc := 16) (tgt := 45) dX12_isRest_16 (by decide) (fun h => absurd h (by decide)) (fun _ => ?_)
        refine sv_aload_n (pc := 19) dX12_isRest_19 rfl rfl ?_
        refine sv_iload_n (pc := 20) dX12_isRest_20 rfl rfl ?_
        refine sv_callV (pc := 21) (M' := mX12_acted) (d' := 18) (C' := 0) (S' := 0) (av := [.int 3]) ?_ (gOk _ _ _ _ _) dX12_isRest_21 (tX12_acted _ _ _ _ _) ⟨wV_X12_acted, wL_X12_acted⟩ wM_X12_725 (gCX12 _ _ _ _ _) rfl (lt_t rfl) rfl ⟨le_t rfl, le_t rfl⟩ ⟨le_t rfl, le_t rfl⟩ rfl (le_t rfl) (fun _ _ h => h)
        refine sC.of rfl (by decide) (le_t rfl) ?_
        refine sv_iconst (pc := 0) (v := 0) dX12_acted_0 (by decide) ?_
        refine sv_istore_n (pc := 1) dX12_acted_1 rfl (by decide) ?_
        refine sv_iload_n (pc := 2) dX12_acted_2 rfl rfl ?_
        refine sv_aload_n (pc := 3) dX12_acted_3 rfl rfl ?_
        refine sw_getfield (pc := 4) dX12_acted_4 (gCX12 _ _ _ _ _) 118 (by decide) wF_X12_514 rfl rfl rfl ?_
        refine sv_iload_n (pc := 7) dX12_acted_7 rfl rfl ?_
        refine sw_iaload (pc := 8) (k := 3) (v := .int 0) dX12_acted_8 rfl rfl rfl (by decide) (by decide) rfl rfl ?_
        refine sv_icmp_ge (pc := 9) (tgt := 32) dX12_acted_9 (by decide) (fun _ => ?_) (fun h => absurd (by decide) h)
        refine sv_aload_n (pc := 32) dX12_acted_32 rfl rfl ?_
        refine sw_getfield (pc := 33) dX12_acted_33 (gCX12 _ _ _ _ _) 118 (by decide) wF_X12_514 rfl rfl rfl ?_
        refine sv_iload_n (pc := 36) dX12_acted_36 rfl rfl ?_
        refine sw_iaload (pc := 37) (k := 3) (v := .int 0) dX12_acted_37 rfl rfl rfl (by decide) (by decide) rfl rfl ?_
        refine sv_iret (pc := 38) dX12_acted_38 rfl (le_t rfl) (le_t rfl) ?_
        refine sv_aload_n (pc := 24) dX12_isRest_24 rfl rfl ?_
        refine sw_getfield (pc := 25) dX12_isRest_25 (gCX12 _ _ _ _ _) 122 (by decide) wF_X12_526 rfl rfl rfl ?_
        refine sv_iload_n (pc := 28) dX12_isRest_28 rfl rfl ?_
        refine sw_iaload (pc := 29) (k := 3) (v := .int 0) dX12_isRest_29 rfl rfl rfl (by decide) (by decide) rfl rfl ?_
        refine sv_icmp_ne (pc := 30) (tgt := 37) dX12_isRest_30 (by decide) (fun h => absurd (by decide) h) (fun _ => ?_)
        refine sv_iconst (pc := 33) (v := 1) dX12_isRest_33 (by decide) ?_
        refine sv_goto (pc := 34) (tgt := 38) dX12_isRest_34 (by decide) ?_
        refine sv_istore_n (pc := 38) dX12_isRest_38 rfl (by decide) ?_
        refine sw_iinc (pc := 39) (v := 4) dX12_isRest_39 rfl (by decide) (by decide) ?_
        refine sv_lvG (pc := 42) (lv' := [(0, .ref 106), (1, .int 0), (2, .int 1), (3, .int 4)]) (List.forall_mem_cons.mpr ⟨rfl, List.forall_mem_cons.mpr ⟨rfl, List.forall_mem_cons.mpr ⟨rfl, List.forall_mem_cons.mpr ⟨rfl, fun _ h => absurd h List.not_mem_nil⟩⟩⟩⟩) ?_
        refine sv_goto (pc := 42) (tgt := 9) dX12_isRest_42 (by decide) ?_
        refine sv_iload_n (pc := 9) dX12_isRest_9 rfl rfl ?_
        refine sv_bipush (pc := 10) (v := 6) dX12_isRest_10 (by decide) ?_
        refine sv_icmp_gt (pc := 12) (tgt := 45) dX12_isRest_12 (by decide) (fun h => absurd h (by decide)) (fun _ => ?_)
        refine sv_iload_n (pc := 15) dX12_isRest_15 rfl rfl ?_
        refine sv_if_eq (pc := 16) (tgt := 45) dX12_isRest_16 (by decide) (fun h => absurd h (by decide)) (fun _ => ?_)
        refine sv_aload_n (pc := 19) dX12_isRest_19 rfl rfl ?_
        refine sv_iload_n (pc := 20) dX12_isRest_20 rfl rfl ?_
        refine sv_callV (pc := 21) (M' := mX12_acted) (d' := 18) (C' := 0) (S' := 0) (av := [.int 4]) ?_ (gOk _ _ _ _ _) dX12_isRest_21 (tX12_acted _ _ _ _ _) ⟨wV_X12_acted, wL_X12_acted⟩ wM_X12_725 (gCX12 _ _ _ _ _) rfl (lt_t rfl) rfl ⟨le_t rfl, le_t rfl⟩ ⟨le_t rfl, le_t rfl⟩ rfl (le_t rfl) (fun _ _ h => h)
        refine sC.of rfl (by decide) (le_t rfl) ?_
        refine sv_iconst (pc := 0) (v := 0) dX12_acted_0 (by decide) ?_
        refine sv_istore_n (pc := 1) dX12_acted_1 rfl (by decide) ?_
        refine sv_iload_n (pc := 2) dX12_acted_2 rfl rfl ?_
        refine sv_aload_n (pc := 3) dX12_acted_3 rfl rfl ?_
        refine sw_getfield (pc := 4) dX12_acted_4 (gCX12 _ _ _ _ _) 118 (by decide) wF_X12_514 rfl rfl rfl ?_
        refine sv_iload_n (pc := 7) dX12_acted_7 rfl rfl ?_
        refine sw_iaload (pc := 8) (k := 4) (v := .int 0) dX12_acted_8 rfl rfl rfl (by decide) (by decide) rfl rfl ?_
        refine sv_icmp_ge (pc := 9) (tgt := 32) dX12_acted_9 (by decide) (fun _ => ?_) (fun h => absurd (by decide) h)
        refine sv_aload_n (pc := 32) dX12_acted_32 rfl rfl ?_
        refine sw_getfield (pc := 33) dX12_acted_33 (gCX12 _ _ _ _ _) 118 (by decide) wF_X12_514 rfl rfl rfl ?_
        refine sv_iload_n (pc := 36) dX12_acted_36 rfl rfl ?_
        refine sw_iaload (pc := 37) (k := 4) (v := .int 0) dX12_acted_37 rfl rfl rfl (by decide) (by decide) rfl rfl ?_
        refine sv_iret (pc := 38) dX12_acted_38 rfl (le_t rfl) (le_t rfl) ?_
        refine sv_aload_n (pc := 24) dX12_isRest_24 rfl rfl ?_
        refine sw_getfield (pc := 25) dX12_isRest_25 (gCX12 _ _ _ _ _) 122 (by decide) wF_X12_526 rfl rfl rfl ?_
        refine sv_iload_n (pc := 28) dX12_isRest_28 rfl rfl ?_
        refine sw_iaload (pc := 29) (k := 4) (v := .int 0) dX12_isRest_29 rfl rfl rfl (by decide) (by decide) rfl rfl ?_
        refine sv_icmp_ne (pc := 30) (tgt := 37) dX12_isRest_30 (by decide) (fun h => absurd (by decide) h) (fun _ => ?_)
        refine sv_iconst (pc := 33) (v := 1) dX12_isRest_33 (by decide) ?_
        refine sv_goto (pc := 34) (tgt := 38) dX12_isRest_34 (by decide) ?_
        refine sv_istore_n (pc := 38) dX12_isRest_38 rfl (by decide) ?_
        refine sw_iinc (pc := 39) (v := 5) dX12_isRest_39 rfl (by decide) (by decide) ?_
        refine sv_goto (pc := 42) (tgt := 9) dX12_isRest_42 (by decide) ?_
        refine sv_iload_n (pc := 9) dX12_isRest_9 rfl rfl ?_
        refine sv_bipush (pc := 10) (v := 6) dX12_isRest_10 (by decide) ?_
        refine sv_icmp_gt (pc := 12) (tgt := 45) dX12_isRest_12 (by decide) (fun h => absurd h (by decide)) (fun _ => ?_)
        refine sv_iload_n (pc := 15) dX12_isRest_15 rfl rfl ?_
        refine sv_if_eq (pc := 16) (tgt := 45) dX12_isRest_16 (by decide) (fun h => absurd h (by decide)) (fun _ => ?_)
        refine sv_aload_n (pc := 19) dX12_isRest_19 rfl rfl ?_
        refine sv_iload_n (pc := 20) dX12_isRest_20 rfl rfl ?_
        refine sv_callV (pc := 21) (M' := mX12_acted) (d' := 18) (C' := 0) (S' := 0) (av := [.int 5]) ?_ (gOk _ _ _ _ _) dX12_isRest_21 (tX12_acted _ _ _ _ _) ⟨wV_X12_acted, wL_X12_acted⟩ wM_X12_725 (gCX12 _ _ _ _ _) rfl (lt_t rfl) rfl ⟨le_t rfl, le_t rfl⟩ ⟨le_t rfl, le_t rfl⟩ rfl (le_t rfl) (fun _ _ h => h)
        refine sC.of rfl (by decide) (le_t rfl) ?_
        refine sv_iconst (pc := 0) (v := 0) dX12_acted_0 (by decide) ?_
        refine sv_istore_n (pc := 1) dX12_acted_1 rfl (by decide) ?_
        refine sv_iload_n (pc := 2) dX12_acted_2 rfl rfl ?_
        refine sv_aload_n (pc := 3) dX12_acted_3 rfl rfl ?_
        refine sw_getfield (pc := 4) dX12_acted_4 (gCX12 _ _ _ _ _) 118 (by decide) wF_X12_514 rfl rfl rfl ?_
        refine sv_iload_n (pc := 7) dX12_acted_7 rfl rfl ?_
        refine sw_iaload (pc := 8) (k := 5) (v := .int 0) dX12_acted_8 rfl rfl rfl (by decide) (by decide) rfl rfl ?_
        refine sv_icmp_ge (pc := 9) (tgt := 32) dX12_acted_9 (by decide) (fun _ => ?_) (fun h => absurd (by decide) h)
        refine sv_aload_n (pc := 32) dX12_acted_32 rfl rfl ?_
        refine sw_getfield (pc := 33) dX12_acted_33 (gCX12 _ _ _ _ _) 118 (by decide) wF_X12_514 rfl rfl rfl ?_
        refine sv_iload_n (pc := 36) dX12_acted_36 rfl rfl ?_
        refine sw_iaload (pc := 37) (k := 5) (v := .int 0) dX12_acted_37 rfl rfl rfl (by decide) (by decide) rfl rfl ?_
        refine sv_iret (pc := 38) dX12_acted_38 rfl (le_t rfl) (le_t rfl) ?_
        refine sv_aload_n (pc := 24) dX12_isRest_24 rfl rfl ?_
        refine sw_getfield (pc := 25) dX12_isRest_25 (gCX12 _ _ _ _ _) 122 (by decide) wF_X12_526 rfl rfl rfl ?_
        refine sv_iload_n (pc := 28) dX12_isRest_28 rfl rfl ?_
        refine sw_iaload (pc := 29) (k := 5) (v := .int 0) dX12_isRest_29 rfl rfl rfl (by decide) (by decide) rfl rfl ?_
        refine sv_icmp_ne (pc := 30) (tgt := 37) dX12_isRest_30 (by decide) (fun h => absurd (by decide) h) (fun _ => ?_)
        refine sv_iconst (pc := 33) (v := 1) dX12_isRest_33 (by decide) ?_
        refine sv_goto (pc := 34) (tgt := 38) dX12_isRest_34 (by decide) ?_
        refine sv_istore_n (pc := 38) dX12_isRest_38 rfl (by decide) ?_
        refine sw_iinc (pc := 39) (v := 6) dX12_isRest_39 rfl (by decide) (by decide) ?_
        refine sv_goto (pc := 42) (tgt := 9) dX12_isRest_42 (by decide) ?_
        refine sv_iload_n (pc := 9) dX12_isRest_9 rfl rfl ?_
        refine sv_bipush (pc := 10) (v := 6) dX12_isRest_10 (by decide) ?_
        refine sv_icmp_gt (pc := 12) (tgt := 45) dX12_isRest_12 (by decide) (fun h => absurd h (by decide)) (fun _ => ?_)
        refine sv_iload_n (pc := 15) dX12_isRest_15 rfl rfl ?_
        refine sv_if_eq (pc := 16) (tgt := 45) dX12_isRest_16 (by decide) (fun h => absurd h (by decide)) (fun _ => ?_)
        refine sv_aload_n (pc := 19) dX12_isRest_19 rfl rfl ?_
        refine sv_iload_n (pc := 20) dX12_isRest_20 rfl rfl ?_
        refine sv_callV (pc := 21) (M' := mX12_acted) (d' := 18) (C' := 0) (S' := 0) (av := [.int 6]) ?_ (gOk _ _ _ _ _) dX12_isRest_21 (tX12_acted _ _ _ _ _) ⟨wV_X12_acted, wL_X12_acted⟩ wM_X12_725 (gCX12 _ _ _ _ _) rfl (lt_t rfl) rfl ⟨le_t rfl, le_t rfl⟩ ⟨le_t rfl, le_t rfl⟩ rfl (le_t rfl) (fun _ _ h => h)
        refine sC.of rfl (by decide) (le_t rfl) ?_
        refine sv_iconst (pc := 0) (v := 0) dX12_acted_0 (by decide) ?_
        refine sv_istore_n (pc := 1) dX12_acted_1 rfl (by decide) ?_
        refine sv_iload_n (pc := 2) dX12_acted_2 rfl rfl ?_
        refine sv_aload_n (pc := 3) dX12_acted_3 rfl rfl ?_
        refine sw_getfield (pc := 4) dX12_acted_4 (gCX12 _ _ _ _ _) 118 (by decide) wF_X12_514 rfl rfl rfl ?_
        refine sv_iload_n (pc := 7) dX12_acted_7 rfl rfl ?_
        refine sw_iaload (pc := 8) (k := 6) (v := .int 0) dX12_acted_8 rfl rfl rfl (by decide) (by decide) rfl rfl ?_
        refine sv_icmp_ge (pc := 9) (tgt := 32) dX12_acted_9 (by decide) (fun _ => ?_) (fun h => absurd (by decide) h)
        refine sv_aload_n (pc := 32) dX12_acted_32 rfl rfl ?_
        refine sw_getfield (pc := 33) dX12_acted_33 (gCX12 _ _ _ _ _) 118 (by decide) wF_X12_514 rfl rfl rfl ?_
        refine sv_iload_n (pc := 36) dX12_acted_36 rfl rfl ?_
        refine sw_iaload (pc := 37) (k := 6) (v := .int 0) dX12_acted_37 rfl rfl rfl (by decide) (by decide) rfl rfl ?_
        refine sv_iret (pc := 38) dX12_acted_38 rfl (le_t rfl) (le_t rfl) ?_
        refine sv_aload_n (pc := 24) dX12_isRest_24 rfl rfl ?_
        refine sw_getfield (pc := 25) dX12_isRest_25 (gCX12 _ _ _ _ _) 122 (by decide) wF_X12_526 rfl rfl rfl ?_
        refine sv_iload_n (pc := 28) dX12_isRest_28 rfl rfl ?_
        refine sw_iaload (pc := 29) (k := 6) (v := .int 0) dX12_isRest_29 rfl rfl rfl (by decide) (by decide) rfl rfl ?_
        refine sv_icmp_ne (pc := 30) (tgt := 37) dX12_isRest_30 (by decide) (fun h => absurd (by decide) h) (fun _ => ?_)
        refine sv_iconst (pc := 33) (v := 1) dX12_isRest_33 (by decide) ?_
        refine sv_goto (pc := 34) (tgt := 38) dX12_isRest_34 (by decide) ?_
        refine sv_istore_n (pc := 38) dX12_isRest_38 rfl (by decide) ?_
        refine sw_iinc (pc := 39) (v := 7) dX12_isRest_39 rfl (by decide) (by decide) ?_
        refine sv_goto (pc := 42) (tgt := 9) dX12_isRest_42 (by decide) ?_
        refine sv_iload_n (pc := 9) dX12_isRest_9 rfl rfl ?_
        refine sv_bipush (pc := 10) (v := 6) dX12_isRest_10 (by decide) ?_
        refine sv_icmp_gt (pc := 12) (tgt := 45) dX12_isRest_12 (by decide) (fun _ => ?_) (fun h => absurd (by decide) h)
        refine sv_iload_n (pc := 45) dX12_isRest_45 rfl rfl ?_
        refine sv_zret (pc := 46) dX12_isRest_46 rfl (by decide) (le_t rfl) (le_t rfl) ?_
        refine sv_if_ne (pc := 39) (tgt := 45) dX12_rest_39 (by decide) (fun _ => ?_) (fun h => absurd h (by decide))
        refine sv_iload (pc := 45) dX12_rest_45 rfl ?_
        refine sv_if_ne (pc := 47) (tgt := 83) dX12_rest_47 (by decide) (fun h => absurd (by decide) h) (fun _ => ?_)
        refine sv_aload_n (pc := 50) dX12_rest_50 rfl rfl ?_
        refine sv_iload (pc := 51) dX12_rest_51 rfl ?_
        refine sv_callV (pc := 53) (M' := mX12_open) (d' := 19) (C' := 0) (S' := 0) (av := [.int 0]) ?_ (gOk _ _ _ _ _) dX12_rest_53 (tX12_open _ _ _ _ _) ⟨wV_X12_open, wL_X12_open⟩ wM_X12_722 (gCX12 _ _ _ _ _) rfl (lt_t rfl) rfl ⟨le_t rfl, le_t rfl⟩ ⟨le_t rfl, le_t rfl⟩ rfl (le_t rfl) (fun _ _ h => h)
        refine sC.of rfl (by decide) (le_t rfl) ?_
        refine sv_iconst (pc := 0) (v := 1) dX12_open_0 (by decide) ?_
        refine sv_istore_n (pc := 1) dX12_open_1 rfl (by decide) ?_
        refine sv_iload_n (pc := 2) dX12_open_2 rfl rfl ?_
        refine sv_bipush (pc := 3) (v := 6) dX12_open_3 (by decide) ?_
        refine sv_icmp_gt (pc := 5) (tgt := 37) dX12_open_5 (by decide) (fun h => absurd h (by decide)) (fun _ => ?_)
        refine sv_aload_n (pc := 8) dX12_open_8 rfl rfl ?_
        refine sw_getfield (pc := 9) dX12_open_9 (gCX12 _ _ _ _ _) 122 (by decide) wF_X12_526 rfl rfl rfl ?_
        refine sv_iload_n (pc := 12) dX12_open_12 rfl rfl ?_
        refine sv_iload_n (pc := 13) dX12_open_13 rfl rfl ?_
        refine sv_aload_n (pc := 14) dX12_open_14 rfl rfl ?_
        refine sw_getfield (pc := 15) dX12_open_15 (gCX12 _ _ _ _ _) 121 (by decide) wF_X12_523 rfl rfl rfl ?_
        refine sv_iload_n (pc := 18) dX12_open_18 rfl rfl ?_
        refine sw_iaload (pc := 19) (k := 1) (v := .int 1) dX12_open_19 rfl rfl rfl (by decide) (by decide) rfl rfl ?_
        refine sw_idiv (pc := 20) (v := 0) dX12_open_20 (by decide) (by decide) ?_
        refine sv_aload_n (pc := 21) dX12_open_21 rfl rfl ?_
        refine sw_getfield (pc := 22) dX12_open_22 (gCX12 _ _ _ _ _) 118 (by decide) wF_X12_514 rfl rfl rfl ?_
        refine sv_iload_n (pc := 25) dX12_open_25 rfl rfl ?_
        refine sw_iaload (pc := 26) (k := 1) (v := .int 0) dX12_open_26 rfl rfl rfl (by decide) (by decide) rfl rfl ?_
        refine sv_iconst (pc := 27) (v := 1) dX12_open_27 (by decide) ?_
        refine sw_iadd (pc := 28) (v := 1) dX12_open_28 (by decide) ?_
        refine sw_irem (pc := 29) (v := 0) dX12_open_29 (by decide) (by decide) ?_
        refine sw_iastore (pc := 30) (k := 1) (v := .int 0) dX12_open_30 rfl rfl rfl (by decide) (by decide) rfl rfl ?_
        refine sw_iinc (pc := 31) (v := 2) dX12_open_31 rfl (by decide) (by decide) ?_
        refine sv_goto (pc := 34) (tgt := 2) dX12_open_34 (by decide) ?_
        refine sv_iload_n (pc := 2) dX12_open_2 rfl rfl ?_
        refine sv_bipush (pc := 3) (v := 6) dX12_open_3 (by decide) ?_
        refine sv_icmp_gt (pc := 5) (tgt := 37) dX12_open_5 (by decide) (fun h => absurd h (by decide)) (fun _ => ?_)
        refine sv_aload_n (pc := 8) dX12_open_8 rfl rfl ?_
        refine sw_getfield (pc := 9) dX12_open_9 (gCX12 _ _ _ _ _) 122 (by decide) wF_X12_526 rfl rfl rfl ?_
        refine sv_iload_n (pc := 12) dX12_open_12 rfl rfl ?_
        refine sv_iload_n (pc := 13) dX12_open_13 rfl rfl ?_
        refine sv_aload_n (pc := 14) dX12_open_14 rfl rfl ?_
        refine sw_getfield (pc := 15) dX12_open_15 (gCX12 _ _ _ _ _) 121 (by decide) wF_X12_523 rfl rfl rfl ?_
        refine sv_iload_n (pc := 18) dX12_open_18 rfl rfl ?_
        refine sw_iaload (pc := 19) (k := 2) (v := .int 1) dX12_open_19 rfl rfl rfl (by decide) (by decide) rfl rfl ?_
        refine sw_idiv (pc := 20) (v := 0) dX12_open_20 (by decide) (by decide) ?_
        refine sv_aload_n (pc := 21) dX12_open_21 rfl rfl ?_
        refine sw_getfield (pc := 22) dX12_open_22 (gCX12 _ _ _ _ _) 118 (by decide) wF_X12_514 rfl rfl rfl ?_
        refine sv_iload_n (pc := 25) dX12_open_25 rfl rfl ?_
        refine sw_iaload (pc := 26) (k := 2) (v := .int 0) dX12_open_26 rfl rfl rfl (by decide) (by decide) rfl rfl ?_
        refine sv_iconst (pc := 27) (v := 1) dX12_open_27 (by decide) ?_
        refine sw_iadd (pc := 28) (v := 1) dX12_open_28 (by decide) ?_
        refine sw_irem (pc := 29) (v := 0) dX12_open_29 (by decide) (by decide) ?_
        refine sw_iastore (pc := 30) (k := 2) (v := .int 0) dX12_open_30 rfl rfl rfl (by decide) (by decide) rfl rfl ?_
        refine sw_iinc (pc := 31) (v := 3) dX12_open_31 rfl (by decide) (by decide) ?_
        refine sv_goto (pc := 34) (tgt := 2) dX12_open_34 (by decide) ?_
        refine sv_iload_n (pc := 2) dX12_open_2 rfl rfl ?_
        refine sv_bipush (pc := 3) (v := 6) dX12_open_3 (by decide) ?_
        refine sv_icmp_gt (pc := 5) (tgt := 37) dX12_open_5 (by decide) (fun h => absurd h (by decide)) (fun _ => ?_)
        refine sv_aload_n (pc := 8) dX12_open_8 rfl rfl ?_
        refine sw_getfield (pc := 9) dX12_open_9 (gCX12 _ _ _ _ _) 122 (by decide) wF_X12_526 rfl rfl rfl ?_
        refine sv_iload_n (pc := 12) dX12_open_12 rfl rfl ?_
        refine sv_iload_n (pc := 13) dX12_open_13 rfl rfl ?_
        refine sv_aload_n (pc := 14) dX12_open_14 rfl rfl ?_
        refine sw_getfield (pc := 15) dX12_open_15 (gCX12 _ _ _ _ _) 121 (by decide) wF_X12_523 rfl rfl rfl ?_
        refine sv_iload_n (pc := 18) dX12_open_18 rfl rfl ?_
        refine sw_iaload (pc := 19) (k := 3) (v := .int 1) dX12_open_19 rfl rfl rfl (by decide) (by decide) rfl rfl ?_
        refine sw_idiv (pc := 20) (v := 0) dX12_open_20 (by decide) (by decide) ?_
        refine sv_aload_n (pc := 21) dX12_open_21 rfl rfl ?_
        refine sw_getfield (pc := 22) dX12_open_22 (gCX12 _ _ _ _ _) 118 (by decide) wF_X12_514 rfl rfl rfl ?_
        refine sv_iload_n (pc := 25) dX12_open_25 rfl rfl ?_
        refine sw_iaload (pc := 26) (k := 3) (v := .int 0) dX12_open_26 rfl rfl rfl (by decide) (by decide) rfl rfl ?_
        refine sv_iconst (pc := 27) (v := 1) dX12_open_27 (by decide) ?_
        refine sw_iadd (pc := 28) (v := 1) dX12_open_28 (by decide) ?_
        refine sw_irem (pc := 29) (v := 0) dX12_open_29 (by decide) (by decide) ?_
        refine sw_iastore (pc := 30) (k := 3) (v := .int 0) dX12_open_30 rfl rfl rfl (by decide) (by decide) rfl rfl ?_
        refine sw_iinc (pc := 31) (v := 4) dX12_open_31 rfl (by decide) (by decide) ?_
        refine sv_goto (pc := 34) (tgt := 2) dX12_open_34 (by decide) ?_
        refine sv_iload_n (pc := 2) dX12_open_2 rfl rfl ?_
        refine sv_bipush (pc := 3) (v := 6) dX12_open_3 (by decide) ?_
        refine sv_icmp_gt (pc := 5) (tgt := 37) dX12_open_5 (by decide) (fun h => absurd h (by decide)) (fun _ => ?_)
        refine sv_aload_n (pc := 8) dX12_open_8 rfl rfl ?_
        refine sw_getfield (pc := 9) dX12_open_9 (gCX12 _ _ _ _ _) 122 (by decide) wF_X12_526 rfl rfl rfl ?_
        refine sv_iload_n (pc := 12) dX12_open_12 rfl rfl ?_
        refine sv_iload_n (pc := 13) dX12_open_13 rfl rfl ?_
        refine sv_aload_n (pc := 14) dX12_open_14 rfl rfl ?_
        refine sw_getfield (pc := 15) dX12_open_15 (gCX12 _ _ _ _ _) 121 (by decide) wF_X12_523 rfl rfl rfl ?_
        refine sv_iload_n (pc := 18) dX12_open_18 rfl rfl ?_
        refine sw_iaload (pc := 19) (k := 4) (v := .int 1) dX12_open_19 rfl rfl rfl (by decide) (by decide) rfl rfl ?_
        refine sw_idiv (pc := 20) (v := 0) dX12_open_20 (by decide) (by decide) ?_
        refine sv_aload_n (pc := 21) dX12_open_21 rfl rfl ?_
        refine sw_getfield (pc := 22) dX12_open_22 (gCX12 _ _ _ _ _) 118 (by decide) wF_X12_514 rfl rfl rfl ?_
        refine sv_iload_n (pc := 25) dX12_open_25 rfl rfl ?_
        refine sw_iaload (pc := 26) (k := 4) (v := .int 0) dX12_open_26 rfl rfl rfl (by decide) (by decide) rfl rfl ?_
        refine sv_iconst (pc := 27) (v := 1) dX12_open_27 (by decide) ?_
        refine sw_iadd (pc := 28) (v := 1) dX12_open_28 (by decide) ?_
        refine sw_irem (pc := 29) (v := 0) dX12_open_29 (by decide) (by decide) ?_
        refine sw_iastore (pc := 30) (k := 4) (v := .int 0) dX12_open_30 rfl rfl rfl (by decide) (by decide) rfl rfl ?_
        refine sw_iinc (pc := 31) (v := 5) dX12_open_31 rfl (by decide) (by decide) ?_
        refine sv_goto (pc := 34) (tgt := 2) dX12_open_34 (by decide) ?_
        refine sv_iload_n (pc := 2) dX12_open_2 rfl rfl ?_
        refine sv_bipush (pc := 3) (v := 6) dX12_open_3 (by decide) ?_
        refine sv_icmp_gt (pc := 5) (tgt := 37) dX12_open_5 (by decide) (fun h => absurd h (by decide)) (fun _ => ?_)
        refine sv_aload_n (pc := 8) dX12_open_8 rfl rfl ?_
        refine sw_getfield (pc := 9) dX12_open_9 (gCX12 _ _ _ _ _) 122 (by decide) wF_X12_526 rfl rfl rfl ?_
        refine sv_iload_n (pc := 12) dX12_open_12 rfl rfl ?_
        refine sv_iload_n (pc := 13) dX12_open_13 rfl rfl ?_
        refine sv_aload_n (pc := 14) dX12_open_14 rfl rfl ?_
        refine sw_getfield (pc := 15) dX12_open_15 (gCX12 _ _ _ _ _) 121 (by decide) wF_X12_523 rfl rfl rfl ?_
        refine sv_iload_n (pc := 18) dX12_open_18 rfl rfl ?_
        refine sw_iaload (pc := 19) (k := 5) (v := .int 1) dX12_open_19 rfl rfl rfl (by decide) (by decide) rfl rfl ?_
        refine sw_idiv (pc := 20) (v := 0) dX12_open_20 (by decide) (by decide) ?_
        refine sv_aload_n (pc := 21) dX12_open_21 rfl rfl ?_
        refine sw_getfield (pc := 22) dX12_open_22 (gCX12 _ _ _ _ _) 118 (by decide) wF_X12_514 rfl rfl rfl ?_
        refine sv_iload_n (pc := 25) dX12_open_25 rfl rfl ?_
        refine sw_iaload (pc := 26) (k := 5) (v := .int 0) dX12_open_26 rfl rfl rfl (by decide) (by decide) rfl rfl ?_
        refine sv_iconst (pc := 27) (v := 1) dX12_open_27 (by decide) ?_
        refine sw_iadd (pc := 28) (v := 1) dX12_open_28 (by decide) ?_
        refine sw_irem (pc := 29) (v := 0) dX12_open_29 (by decide) (by decide) ?_
        refine sw_iastore (pc := 30) (k := 5) (v := .int 0) dX12_open_30 rfl rfl rfl (by decide) (by decide) rfl rfl ?_
        refine sw_iinc (pc := 31) (v := 6) dX12_open_31 rfl (by decide) (by decide) ?_
        refine sv_goto (pc := 34) (tgt := 2) dX12_open_34 (by decide) ?_
        refine sv_iload_n (pc := 2) dX12_open_2 rfl rfl ?_
        refine sv_bipush (pc := 3) (v := 6) dX12_open_3 (by decide) ?_
        refine sv_icmp_gt (pc := 5) (tgt := 37) dX12_open_5 (by decide) (fun h => absurd h (by decide)) (fun _ => ?_)
        refine sv_aload_n (pc := 8) dX12_open_8 rfl rfl ?_
        refine sw_getfield (pc := 9) dX12_open_9 (gCX12 _ _ _ _ _) 122 (by decide) wF_X12_526 rfl rfl rfl ?_
        refine sv_iload_n (pc := 12) dX12_open_12 rfl rfl ?_
        refine sv_iload_n (pc := 13) dX12_open_13 rfl rfl ?_
        refine sv_aload_n (pc := 14) dX12_open_14 rfl rfl ?_
        refine sw_getfield (pc := 15) dX12_open_15 (gCX12 _ _ _ _ _) 121 (by decide) wF_X12_523 rfl rfl rfl ?_
        refine sv_iload_n (pc := 18) dX12_open_18 rfl rfl ?_
        refine sw_iaload (pc := 19) (k := 6) (v := .int 1) dX12_open_19 rfl rfl rfl (by decide) (by decide) rfl rfl ?_
        refine sw_idiv (pc := 20) (v := 0) dX12_open_20 (by decide) (by decide) ?_
        refine sv_aload_n (pc := 21) dX12_open_21 rfl rfl ?_
        refine sw_getfield (pc := 22) dX12_open_22 (gCX12 _ _ _ _ _) 118 (by decide) wF_X12_514 rfl rfl rfl ?_
        refine sv_iload_n (pc := 25) dX12_open_25 rfl rfl ?_
        refine sw_iaload (pc := 26) (k := 6) (v := .int 0) dX12_open_26 rfl rfl rfl (by decide) (by decide) rfl rfl ?_
        refine sv_iconst (pc := 27) (v := 1) dX12_open_27 (by decide) ?_
        refine sw_iadd (pc := 28) (v := 1) dX12_open_28 (by decide) ?_
        refine sw_irem (pc := 29) (v := 0) dX12_open_29 (by decide) (by decide) ?_
        refine sw_iastore (pc := 30) (k := 6) (v := .int 0) dX12_open_30 rfl rfl rfl (by decide) (by decide) rfl rfl ?_
        refine sw_iinc (pc := 31) (v := 7) dX12_open_31 rfl (by decide) (by decide) ?_
        refine sv_goto (pc := 34) (tgt := 2) dX12_open_34 (by decide) ?_
        refine sv_iload_n (pc := 2) dX12_open_2 rfl rfl ?_
        refine sv_bipush (pc := 3) (v := 6) dX12_open_3 (by decide) ?_
        refine sv_icmp_gt (pc := 5) (tgt := 37) dX12_open_5 (by decide) (fun _ => ?_) (fun h => absurd (by decide) h)
        refine sv_vret (pc := 37) dX12_open_37 rfl (le_t rfl) (le_t rfl) ?_
        refine sv_aload_n (pc := 56) dX12_rest_56 rfl rfl ?_
        refine sw_getfield (pc := 57) dX12_rest_57 (gCX12 _ _ _ _ _) 122 (by decide) wF_X12_526 rfl rfl rfl ?_
        refine sv_iload_n (pc := 60) dX12_rest_60 rfl rfl ?_
        refine sw_iaload (pc := 61) (k := 3) (v := .int 0) dX12_rest_61 rfl rfl rfl (by decide) (by decide) rfl rfl ?_
        refine sv_aload_n (pc := 62) dX12_rest_62 rfl rfl ?_
        refine sw_getfield (pc := 63) dX12_rest_63 (gCX12 _ _ _ _ _) 118 (by decide) wF_X12_514 rfl rfl rfl ?_
        refine sv_iload_n (pc := 66) dX12_rest_66 rfl rfl ?_
        refine sw_iaload (pc := 67) (k := 3) (v := .int 0) dX12_rest_67 rfl rfl rfl (by decide) (by decide) rfl rfl ?_
        refine sv_icmp_ne (pc := 68) (tgt := 76) dX12_rest_68 (by decide) (fun h => absurd (by decide) h) (fun _ => ?_)
        refine sv_bipush (pc := 71) (v := (-4)) dX12_rest_71 (by decide) ?_
        refine sv_goto (pc := 73) (tgt := 82) dX12_rest_73 (by decide) ?_
        refine sv_iret (pc := 82) dX12_rest_82 rfl (le_t rfl) (le_t rfl) ?_
        refine sv_icmp_eq (pc := 1748) (tgt := 1799) dL_law_1748 (by decide) (fun _ => ?_) (fun h => absurd (by decide) h)
        exact kk _ _ _ (le_t rfl) (le_t rfl)
      by_cases q_9 : x2 = 4
      · subst q_9
        refine sw_iaload (pc := 5) (k := 4) (v := .int 1) dX4_figure_5 rfl rfl rfl (by decide) (by decide) rfl rfl ?_
        refine sv_istore_n (pc := 6) dX4_figure_6 rfl (by decide) ?_
        refine sv_iload_n (pc := 7) dX4_figure_7 rfl rfl ?_
        refine sv_if_le (pc := 8) (tgt := 26) dX4_figure_8 (by decide) (fun h => absurd h (by decide)) (fun _ => ?_)
        refine sv_iload_n (pc := 11) dX4_figure_11 rfl rfl ?_
        refine sv_iload_n (pc := 12) dX4_figure_12 rfl rfl ?_
        refine sw_idiv (pc := 13) (v := 0) dX4_figure_13 (by decide) (by decide) ?_
        refine sv_aload_n (pc := 14) dX4_figure_14 rfl rfl ?_
        refine sw_getfield (pc := 15) dX4_figure_15 (gCX4 _ _ _ _ _) 12 (by decide) wF_X4_11 rfl rfl rfl ?_
        refine sv_iload_n (pc := 18) dX4_figure_18 rfl rfl ?_
        refine sw_iaload (pc := 19) (k := 4) (v := .int 0) dX4_figure_19 rfl rfl rfl (by decide) (by decide) rfl rfl ?_
        refine sv_iconst (pc := 20) (v := 1) dX4_figure_20 (by decide) ?_
        refine sw_iadd (pc := 21) (v := 1) dX4_figure_21 (by decide) ?_
        refine sw_irem (pc := 22) (v := 0) dX4_figure_22 (by decide) (by decide) ?_
        refine sv_goto (pc := 23) (tgt := 27) dX4_figure_23 (by decide) ?_
        refine sv_iret (pc := 27) dX4_figure_27 rfl (le_t rfl) (le_t rfl) ?_
        refine sv_istore_n (pc := 11) dX4_wayInRest_11 rfl (by decide) ?_
        refine sv_iload_n (pc := 12) dX4_wayInRest_12 rfl rfl ?_
        refine sv_aload_n (pc := 13) dX4_wayInRest_13 rfl rfl ?_
        refine sw_getfield (pc := 14) dX4_wayInRest_14 (gCX4 _ _ _ _ _) 12 (by decide) wF_X4_11 rfl rfl rfl ?_
        refine sv_iload_n (pc := 17) dX4_wayInRest_17 rfl rfl ?_
        refine sw_iaload (pc := 18) (k := 4) (v := .int 0) dX4_wayInRest_18 rfl rfl rfl (by decide) (by decide) rfl rfl ?_
        refine sv_icmp_ne (pc := 19) (tgt := 27) dX4_wayInRest_19 (by decide) (fun h => absurd (by decide) h) (fun _ => ?_)
        refine sv_bipush (pc := 22) (v := (-4)) dX4_wayInRest_22 (by decide) ?_
        refine sv_goto (pc := 24) (tgt := 28) dX4_wayInRest_24 (by decide) ?_
        refine sv_iret (pc := 28) dX4_wayInRest_28 rfl (le_t rfl) (le_t rfl) ?_
        refine sv_iret (pc := 44) dX11_rest_44 rfl (le_t rfl) (le_t rfl) ?_
        refine sv_aload_n (pc := 1734) dL_law_1734 rfl rfl ?_
        refine sv_aload_nS (pc := 1735) dL_law_1735 rfl rfl ?_
        refine sv_iload_n (pc := 1736) dL_law_1736 rfl rfl ?_
        refine sv_iconst (pc := 1737) (v := 1) dL_law_1737 (by decide) ?_
        refine sw_iadd (pc := 1738) (v := 1) dL_law_1738 (by decide) ?_
        refine sw_sld (pc := 1739) (v := 0) dL_law_1739 (k := 1) (by decide) (by decide) rfl hx1 ?_
        refine sv_aload_nS (pc := 1740) dL_law_1740 rfl rfl ?_
        refine sv_iload_n (pc := 1741) dL_law_1741 rfl rfl ?_
        refine sv_iconst (pc := 1742) (v := 2) dL_law_1742 (by decide) ?_
        refine sw_iadd (pc := 1743) (v := 2) dL_law_1743 (by decide) ?_
        refine sw_sld (pc := 1744) (v := 4) dL_law_1744 (k := 2) (by decide) (by decide) rfl hx2 ?_
        refine sv_callV (pc := 1745) (M' := mX12_rest) (d' := 20) (C' := 0) (S' := 0) (av := [.int 0, .int 4]) ?_ (gOk _ _ _ _ _) dL_law_1745 (tX12_rest _ _ _ _ _) ⟨wV_X12_rest, wL_X12_rest⟩ wM_DomainHouseLaw_206 (gCX12 _ _ _ _ _) rfl (lt_t rfl) rfl ⟨le_t rfl, le_t rfl⟩ ⟨le_t rfl, le_t rfl⟩ rfl (le_t rfl) (fun _ _ h => h)
        refine sC.of rfl (by decide) (le_t rfl) ?_
        refine sv_iload_n (pc := 0) dX12_rest_0 rfl rfl ?_
        refine sv_if_lt (pc := 1) (tgt := 14) dX12_rest_1 (by decide) (fun h => absurd h (by decide)) (fun _ => ?_)
        refine sv_iload_n (pc := 4) dX12_rest_4 rfl rfl ?_
        refine sv_iconst (pc := 5) (v := 1) dX12_rest_5 (by decide) ?_
        refine sv_bipush (pc := 6) (v := 6) dX12_rest_6 (by decide) ?_
        refine sv_callS (pc := 8) (M' := mX12_in) (d' := 19) (C' := 0) (S' := 0) (av := [.int 4, .int 1, .int 6]) ?_ (gOk _ _ _ _ _) dX12_rest_8 (tX12_in _ _ _ _ _) wS_X12_in wM_X12_18 ⟨le_t rfl, le_t rfl⟩ ⟨le_t rfl, le_t rfl⟩ rfl (le_t rfl) (fun _ _ h => h)
        refine sC.of rfl (by decide) (le_t rfl) ?_
        refine sv_iload_n (pc := 0) dX12_in_0 rfl rfl ?_
        refine sv_iload_n (pc := 1) dX12_in_1 rfl rfl ?_
        refine sv_icmp_lt (pc := 2) (tgt := 14) dX12_in_2 (by decide) (fun h => absurd h (by decide)) (fun _ => ?_)
        refine sv_iload_n (pc := 5) dX12_in_5 rfl rfl ?_
        refine sv_iload_n (pc := 6) dX12_in_6 rfl rfl ?_
        refine sv_icmp_gt (pc := 7) (tgt := 14) dX12_in_7 (by decide) (fun h => absurd h (by decide)) (fun _ => ?_)
        refine sv_iconst (pc := 10) (v := 1) dX12_in_10 (by decide) ?_
        refine sv_goto (pc := 11) (tgt := 15) dX12_in_11 (by decide) ?_
        refine sv_zret (pc := 15) dX12_in_15 rfl (by decide) (le_t rfl) (le_t rfl) ?_
        refine sv_if_ne (pc := 11) (tgt := 16) dX12_rest_11 (by decide) (fun _ => ?_) (fun h => absurd h (by decide))
        refine sv_aload_n (pc := 16) dX12_rest_16 rfl rfl ?_
        refine sv_callV (pc := 17) (M' := mX12_states) (d' := 19) (C' := 0) (S' := 0) (av := []) ?_ (gOk _ _ _ _ _) dX12_rest_17 (tX12_states _ _ _ _ _) ⟨wV_X12_states, wL_X12_states⟩ wM_X12_728 (gCX12 _ _ _ _ _) rfl (lt_t rfl) rfl ⟨le_t rfl, le_t rfl⟩ ⟨le_t rfl, le_t rfl⟩ rfl (le_t rfl) (fun _ _ h => h)
        refine sC.of rfl (by decide) (le_t rfl) ?_
        refine sv_iconst (pc := 0) (v := 1) dX12_states_0 (by decide) ?_
        refine sv_istore_n (pc := 1) dX12_states_1 rfl (by decide) ?_
        refine sv_bipush (pc := 2) (v := 6) dX12_states_2 (by decide) ?_
        refine sv_istore_n (pc := 4) dX12_states_4 rfl (by decide) ?_
        refine sv_iload_n (pc := 5) dX12_states_5 rfl rfl ?_
        refine sv_iconst (pc := 6) (v := 1) dX12_states_6 (by decide) ?_
        refine sv_icmp_lt (pc := 7) (tgt := 34) dX12_states_7 (by decide) (fun h => absurd h (by decide)) (fun _ => ?_)
        refine sv_aload_n (pc := 10) dX12_states_10 rfl rfl ?_
        refine sw_getfield (pc := 11) dX12_states_11 (gCX12 _ _ _ _ _) 121 (by decide) wF_X12_523 rfl rfl rfl ?_
        refine sv_iload_n (pc := 14) dX12_states_14 rfl rfl ?_
        refine sv_iload_n (pc := 15) dX12_states_15 rfl rfl ?_
        refine sw_iastore (pc := 16) (k := 6) (v := .int 1) dX12_states_16 rfl rfl rfl (by decide) (by decide) rfl rfl ?_
        refine sv_iload_n (pc := 17) dX12_states_17 rfl rfl ?_
        refine sv_aload_n (pc := 18) dX12_states_18 rfl rfl ?_
        refine sw_getfield (pc := 19) dX12_states_19 (gCX12 _ _ _ _ _) 118 (by decide) wF_X12_514 rfl rfl rfl ?_
        refine sv_iload_n (pc := 22) dX12_states_22 rfl rfl ?_
        refine sw_iaload (pc := 23) (k := 6) (v := .int 0) dX12_states_23 rfl rfl rfl (by decide) (by decide) rfl rfl ?_
        refine sv_iconst (pc := 24) (v := 1) dX12_states_24 (by decide) ?_
        refine sw_iadd (pc := 25) (v := 1) dX12_states_25 (by decide) ?_
        refine sw_imul (pc := 26) (v := 1) dX12_states_26 (by decide) ?_
        refine sv_istore_n (pc := 27) dX12_states_27 rfl (by decide) ?_
        refine sw_iinc (pc := 28) (v := 5) dX12_states_28 rfl (by decide) (by decide) ?_
        refine sv_goto (pc := 31) (tgt := 5) dX12_states_31 (by decide) ?_
        refine sv_iload_n (pc := 5) dX12_states_5 rfl rfl ?_
        refine sv_iconst (pc := 6) (v := 1) dX12_states_6 (by decide) ?_
        refine sv_icmp_lt (pc := 7) (tgt := 34) dX12_states_7 (by decide) (fun h => absurd h (by decide)) (fun _ => ?_)
        refine sv_aload_n (pc := 10) dX12_states_10 rfl rfl ?_
        refine sw_getfield (pc := 11) dX12_states_11 (gCX12 _ _ _ _ _) 121 (by decide) wF_X12_523 rfl rfl rfl ?_
        refine sv_iload_n (pc := 14) dX12_states_14 rfl rfl ?_
        refine sv_iload_n (pc := 15) dX12_states_15 rfl rfl ?_
        refine sw_iastore (pc := 16) (k := 5) (v := .int 1) dX12_states_16 rfl rfl rfl (by decide) (by decide) rfl rfl ?_
        refine sv_iload_n (pc := 17) dX12_states_17 rfl rfl ?_
        refine sv_aload_n (pc := 18) dX12_states_18 rfl rfl ?_
        refine sw_getfield (pc := 19) dX12_states_19 (gCX12 _ _ _ _ _) 118 (by decide) wF_X12_514 rfl rfl rfl ?_
        refine sv_iload_n (pc := 22) dX12_states_22 rfl rfl ?_
        refine sw_iaload (pc := 23) (k := 5) (v := .int 0) dX12_states_23 rfl rfl rfl (by decide) (by decide) rfl rfl ?_
        refine sv_iconst (pc := 24) (v := 1) dX12_states_24 (by decide) ?_
        refine sw_iadd (pc := 25) (v := 1) dX12_states_25 (by decide) ?_
        refine sw_imul (pc := 26) (v := 1) dX12_states_26 (by decide) ?_
        refine sv_istore_n (pc := 27) dX12_states_27 rfl (by decide) ?_
        refine sw_iinc (pc := 28) (v := 4) dX12_states_28 rfl (by decide) (by decide) ?_
        refine sv_goto (pc := 31) (tgt := 5) dX12_states_31 (by decide) ?_
        refine sv_iload_n (pc := 5) dX12_states_5 rfl rfl ?_
        refine sv_iconst (pc := 6) (v := 1) dX12_states_6 (by decide) ?_
        refine sv_icmp_lt (pc := 7) (tgt := 34) dX12_states_7 (by decide) (fun h => absurd h (by decide)) (fun _ => ?_)
        refine sv_aload_n (pc := 10) dX12_states_10 rfl rfl ?_
        refine sw_getfield (pc := 11) dX12_states_11 (gCX12 _ _ _ _ _) 121 (by decide) wF_X12_523 rfl rfl rfl ?_
        refine sv_iload_n (pc := 14) dX12_states_14 rfl rfl ?_
        refine sv_iload_n (pc := 15) dX12_states_15 rfl rfl ?_
        refine sw_iastore (pc := 16) (k := 4) (v := .int 1) dX12_states_16 rfl rfl rfl (by decide) (by decide) rfl rfl ?_
        refine sv_iload_n (pc := 17) dX12_states_17 rfl rfl ?_
        refine sv_aload_n (pc := 18) dX12_states_18 rfl rfl ?_
        refine sw_getfield (pc := 19) dX12_states_19 (gCX12 _ _ _ _ _) 118 (by decide) wF_X12_514 rfl rfl rfl ?_
        refine sv_iload_n (pc := 22) dX12_states_22 rfl rfl ?_
        refine sw_iaload (pc := 23) (k := 4) (v := .int 0) dX12_states_23 rfl rfl rfl (by decide) (by decide) rfl rfl ?_
        refine sv_iconst (pc := 24) (v := 1) dX12_states_24 (by decide) ?_
        refine sw_iadd (pc := 25) (v := 1) dX12_states_25 (by decide) ?_
        refine sw_imul (pc := 26) (v := 1) dX12_states_26 (by decide) ?_
        refine sv_istore_n (pc := 27) dX12_states_27 rfl (by decide) ?_
        refine sw_iinc (pc := 28) (v := 3) dX12_states_28 rfl (by decide) (by decide) ?_
        refine sv_lvG (pc := 31) (lv' := [(0, .ref 106), (1, .int 1), (2, .int 3)]) (List.forall_mem_cons.mpr ⟨rfl, List.forall_mem_cons.mpr ⟨rfl, List.forall_mem_cons.mpr ⟨rfl, fun _ h => absurd h List.not_mem_nil⟩⟩⟩) ?_
        refine sv_goto (pc := 31) (tgt := 5) dX12_states_31 (by decide) ?_
        refine sv_iload_n (pc := 5) dX12_states_5 rfl rfl ?_
        refine sv_iconst (pc := 6) (v := 1) dX12_states_6 (by decide) ?_
        refine sv_icmp_lt (pc := 7) (tgt := 34) dX12_states_7 (by decide) (fun h => absurd h (by decide)) (fun _ => ?_)
        refine sv_aload_n (pc := 10) dX12_states_10 rfl rfl ?_
        refine sw_getfield (pc := 11) dX12_states_11 (gCX12 _ _ _ _ _) 121 (by decide) wF_X12_523 rfl rfl rfl ?_
        refine sv_iload_n (pc := 14) dX12_states_14 rfl rfl ?_
        refine sv_iload_n (pc := 15) dX12_states_15 rfl rfl ?_
        refine sw_iastore (pc := 16) (k := 3) (v := .int 1) dX12_states_16 rfl rfl rfl (by decide) (by decide) rfl rfl ?_
        refine sv_iload_n (pc := 17) dX12_states_17 rfl rfl ?_
        refine sv_aload_n (pc := 18) dX12_states_18 rfl rfl ?_
        refine sw_getfield (pc := 19) dX12_states_19 (gCX12 _ _ _ _ _) 118 (by decide) wF_X12_514 rfl rfl rfl ?_
        refine sv_iload_n (pc := 22) dX12_states_22 rfl rfl ?_
        refine sw_iaload (pc := 23) (k := 3) (v := .int 0) dX12_states_23 rfl rfl rfl (by decide) (by decide) rfl rfl ?_
        refine sv_iconst (pc := 24) (v := 1) dX12_states_24 (by decide) ?_
        refine sw_iadd (pc := 25) (v := 1) dX12_states_25 (by decide) ?_
        refine sw_imul (pc := 26) (v := 1) dX12_states_26 (by decide) ?_
        refine sv_istore_n (pc := 27) dX12_states_27 rfl (by decide) ?_
        refine sw_iinc (pc := 28) (v := 2) dX12_states_28 rfl (by decide) (by decide) ?_
        refine sv_goto (pc := 31) (tgt := 5) dX12_states_31 (by decide) ?_
        refine sv_iload_n (pc := 5) dX12_states_5 rfl rfl ?_
        refine sv_iconst (pc := 6) (v := 1) dX12_states_6 (by decide) ?_
        refine sv_icmp_lt (pc := 7) (tgt := 34) dX12_states_7 (by decide) (fun h => absurd h (by decide)) (fun _ => ?_)
        refine sv_aload_n (pc := 10) dX12_states_10 rfl rfl ?_
        refine sw_getfield (pc := 11) dX12_states_11 (gCX12 _ _ _ _ _) 121 (by decide) wF_X12_523 rfl rfl rfl ?_
        refine sv_iload_n (pc := 14) dX12_states_14 rfl rfl ?_
        refine sv_iload_n (pc := 15) dX12_states_15 rfl rfl ?_
        refine sw_iastore (pc := 16) (k := 2) (v := .int 1) dX12_states_16 rfl rfl rfl (by decide) (by decide) rfl rfl ?_
        refine sv_iload_n (pc := 17) dX12_states_17 rfl rfl ?_
        refine sv_aload_n (pc := 18) dX12_states_18 rfl rfl ?_
        refine sw_getfield (pc := 19) dX12_states_19 (gCX12 _ _ _ _ _) 118 (by decide) wF_X12_514 rfl rfl rfl ?_
        refine sv_iload_n (pc := 22) dX12_states_22 rfl rfl ?_
        refine sw_iaload (pc := 23) (k := 2) (v := .int 0) dX12_states_23 rfl rfl rfl (by decide) (by decide) rfl rfl ?_
        refine sv_iconst (pc := 24) (v := 1) dX12_states_24 (by decide) ?_
        refine sw_iadd (pc := 25) (v := 1) dX12_states_25 (by decide) ?_
        refine sw_imul (pc := 26) (v := 1) dX12_states_26 (by decide) ?_
        refine sv_istore_n (pc := 27) dX12_states_27 rfl (by decide) ?_
        refine sw_iinc (pc := 28) (v := 1) dX12_states_28 rfl (by decide) (by decide) ?_
        refine sv_goto (pc := 31) (tgt := 5) dX12_states_31 (by decide) ?_
        refine sv_iload_n (pc := 5) dX12_states_5 rfl rfl ?_
        refine sv_iconst (pc := 6) (v := 1) dX12_states_6 (by decide) ?_
        refine sv_icmp_lt (pc := 7) (tgt := 34) dX12_states_7 (by decide) (fun h => absurd h (by decide)) (fun _ => ?_)
        refine sv_aload_n (pc := 10) dX12_states_10 rfl rfl ?_
        refine sw_getfield (pc := 11) dX12_states_11 (gCX12 _ _ _ _ _) 121 (by decide) wF_X12_523 rfl rfl rfl ?_
        refine sv_iload_n (pc := 14) dX12_states_14 rfl rfl ?_
        refine sv_iload_n (pc := 15) dX12_states_15 rfl rfl ?_
        refine sw_iastore (pc := 16) (k := 1) (v := .int 1) dX12_states_16 rfl rfl rfl (by decide) (by decide) rfl rfl ?_
        refine sv_iload_n (pc := 17) dX12_states_17 rfl rfl ?_
        refine sv_aload_n (pc := 18) dX12_states_18 rfl rfl ?_
        refine sw_getfield (pc := 19) dX12_states_19 (gCX12 _ _ _ _ _) 118 (by decide) wF_X12_514 rfl rfl rfl ?_
        refine sv_iload_n (pc := 22) dX12_states_22 rfl rfl ?_
        refine sw_iaload (pc := 23) (k := 1) (v := .int 0) dX12_states_23 rfl rfl rfl (by decide) (by decide) rfl rfl ?_
        refine sv_iconst (pc := 24) (v := 1) dX12_states_24 (by decide) ?_
        refine sw_iadd (pc := 25) (v := 1) dX12_states_25 (by decide) ?_
        refine sw_imul (pc := 26) (v := 1) dX12_states_26 (by decide) ?_
        refine sv_istore_n (pc := 27) dX12_states_27 rfl (by decide) ?_
        refine sw_iinc (pc := 28) (v := 0) dX12_states_28 rfl (by decide) (by decide) ?_
        refine sv_goto (pc := 31) (tgt := 5) dX12_states_31 (by decide) ?_
        refine sv_iload_n (pc := 5) dX12_states_5 rfl rfl ?_
        refine sv_iconst (pc := 6) (v := 1) dX12_states_6 (by decide) ?_
        refine sv_icmp_lt (pc := 7) (tgt := 34) dX12_states_7 (by decide) (fun _ => ?_) (fun h => absurd (by decide) h)
        refine sv_iload_n (pc := 34) dX12_states_34 rfl rfl ?_
        refine sv_iret (pc := 35) dX12_states_35 rfl (le_t rfl) (le_t rfl) ?_
        refine sv_istore_n (pc := 20) dX12_rest_20 rfl (by decide) ?_
        refine sv_iload_n (pc := 21) dX12_rest_21 rfl rfl ?_
        refine sv_istore (pc := 22) dX12_rest_22 (by decide) ?_
        refine sv_iconst (pc := 24) (v := 0) dX12_rest_24 (by decide) ?_
        refine sv_istore (pc := 25) dX12_rest_25 (by decide) ?_
        refine sv_iload (pc := 27) dX12_rest_27 rfl ?_
        refine sv_iload_n (pc := 29) dX12_rest_29 rfl rfl ?_
        refine sv_icmp_ge (pc := 30) (tgt := 92) dX12_rest_30 (by decide) (fun h => absurd h (by decide)) (fun _ => ?_)
        refine sv_aload_n (pc := 33) dX12_rest_33 rfl rfl ?_
        refine sv_iload (pc := 34) dX12_rest_34 rfl ?_
        refine sv_callV (pc := 36) (M' := mX12_isRest) (d' := 19) (C' := 0) (S' := 0) (av := [.int 0]) ?_ (gOk _ _ _ _ _) dX12_rest_36 (tX12_isRest _ _ _ _ _) ⟨wV_X12_isRest, wL_X12_isRest⟩ wM_X12_731 (gCX12 _ _ _ _ _) rfl (lt_t rfl) rfl ⟨le_t rfl, le_t rfl⟩ ⟨le_t rfl, le_t rfl⟩ rfl (le_t rfl) (fun _ _ h => h)
        refine sC.of rfl (by decide) (le_t rfl) ?_
        refine sv_aload_n (pc := 0) dX12_isRest_0 rfl rfl ?_
        refine sv_iload_n (pc := 1) dX12_isRest_1 rfl rfl ?_
        refine sv_callV (pc := 2) (M' := mX12_open) (d' := 18) (C' := 0) (S' := 0) (av := [.int 0]) ?_ (gOk _ _ _ _ _) dX12_isRest_2 (tX12_open _ _ _ _ _) ⟨wV_X12_open, wL_X12_open⟩ wM_X12_722 (gCX12 _ _ _ _ _) rfl (lt_t rfl) rfl ⟨le_t rfl, le_t rfl⟩ ⟨le_t rfl, le_t rfl⟩ rfl (le_t rfl) (fun _ _ h => h)
        refine sC.of rfl (by decide) (le_t rfl) ?_
        refine sv_iconst (pc := 0) (v := 1) dX12_open_0 (by decide) ?_
        refine sv_istore_n (pc := 1) dX12_open_1 rfl (by decide) ?_
        refine sv_iload_n (pc := 2) dX12_open_2 rfl rfl ?_
        refine sv_bipush (pc := 3) (v := 6) dX12_open_3 (by decide) ?_
        refine sv_icmp_gt (pc := 5) (tgt := 37) dX12_open_5 (by decide) (fun h => absurd h (by decide)) (fun _ => ?_)
        refine sv_aload_n (pc := 8) dX12_open_8 rfl rfl ?_
        refine sw_getfield (pc := 9) dX12_open_9 (gCX12 _ _ _ _ _) 122 (by decide) wF_X12_526 rfl rfl rfl ?_
        refine sv_iload_n (pc := 12) dX12_open_12 rfl rfl ?_
        refine sv_iload_n (pc := 13) dX12_open_13 rfl rfl ?_
        refine sv_aload_n (pc := 14) dX12_open_14 rfl rfl ?_
        refine sw_getfield (pc := 15) dX12_open_15 (gCX12 _ _ _ _ _) 121 (by decide) wF_X12_523 rfl rfl rfl ?_
        refine sv_iload_n (pc := 18) dX12_open_18 rfl rfl ?_
        refine sw_iaload (pc := 19) (k := 1) (v := .int 1) dX12_open_19 rfl rfl rfl (by decide) (by decide) rfl rfl ?_
        refine sw_idiv (pc := 20) (v := 0) dX12_open_20 (by decide) (by decide) ?_
        refine sv_aload_n (pc := 21) dX12_open_21 rfl rfl ?_
        refine sw_getfield (pc := 22) dX12_open_22 (gCX12 _ _ _ _ _) 118 (by decide) wF_X12_514 rfl rfl rfl ?_
        refine sv_iload_n (pc := 25) dX12_open_25 rfl rfl ?_
        refine sw_iaload (pc := 26) (k := 1) (v := .int 0) dX12_open_26 rfl rfl rfl (by decide) (by decide) rfl rfl ?_
        refine sv_iconst (pc := 27) (v := 1) dX12_open_27 (by decide) ?_
        refine sw_iadd (pc := 28) (v := 1) dX12_open_28 (by decide) ?_
        refine sw_irem (pc := 29) (v := 0) dX12_open_29 (by decide) (by decide) ?_
        refine sw_iastore (pc := 30) (k := 1) (v := .int 0) dX12_open_30 rfl rfl rfl (by decide) (by decide) rfl rfl ?_
        refine sw_iinc (pc := 31) (v := 2) dX12_open_31 rfl (by decide) (by decide) ?_
        refine sv_goto (pc := 34) (tgt := 2) dX12_open_34 (by decide) ?_
        refine sv_iload_n (pc := 2) dX12_open_2 rfl rfl ?_
        refine sv_bipush (pc := 3) (v := 6) dX12_open_3 (by decide) ?_
        refine sv_icmp_gt (pc := 5) (tgt := 37) dX12_open_5 (by decide) (fun h => absurd h (by decide)) (fun _ => ?_)
        refine sv_aload_n (pc := 8) dX12_open_8 rfl rfl ?_
        refine sw_getfield (pc := 9) dX12_open_9 (gCX12 _ _ _ _ _) 122 (by decide) wF_X12_526 rfl rfl rfl ?_
        refine sv_iload_n (pc := 12) dX12_open_12 rfl rfl ?_
        refine sv_iload_n (pc := 13) dX12_open_13 rfl rfl ?_
        refine sv_aload_n (pc := 14) dX12_open_14 rfl rfl ?_
        refine sw_getfield (pc := 15) dX12_open_15 (gCX12 _ _ _ _ _) 121 (by decide) wF_X12_523 rfl rfl rfl ?_
        refine sv_iload_n (pc := 18) dX12_open_18 rfl rfl ?_
        refine sw_iaload (pc := 19) (k := 2) (v := .int 1) dX12_open_19 rfl rfl rfl (by decide) (by decide) rfl rfl ?_
        refine sw_idiv (pc := 20) (v := 0) dX12_open_20 (by decide) (by decide) ?_
        refine sv_aload_n (pc := 21) dX12_open_21 rfl rfl ?_
        refine sw_getfield (pc := 22) dX12_open_22 (gCX12 _ _ _ _ _) 118 (by decide) wF_X12_514 rfl rfl rfl ?_
        refine sv_iload_n (pc := 25) dX12_open_25 rfl rfl ?_
        refine sw_iaload (pc := 26) (k := 2) (v := .int 0) dX12_open_26 rfl rfl rfl (by decide) (by decide) rfl rfl ?_
        refine sv_iconst (pc := 27) (v := 1) dX12_open_27 (by decide) ?_
        refine sw_iadd (pc := 28) (v := 1) dX12_open_28 (by decide) ?_
        refine sw_irem (pc := 29) (v := 0) dX12_open_29 (by decide) (by decide) ?_
        refine sw_iastore (pc := 30) (k := 2) (v := .int 0) dX12_open_30 rfl rfl rfl (by decide) (by decide) rfl rfl ?_
        refine sw_iinc (pc := 31) (v := 3) dX12_open_31 rfl (by decide) (by decide) ?_
        refine sv_goto (pc := 34) (tgt := 2) dX12_open_34 (by decide) ?_
        refine sv_iload_n (pc := 2) dX12_open_2 rfl rfl ?_
        refine sv_bipush (pc := 3) (v := 6) dX12_open_3 (by decide) ?_
        refine sv_icmp_gt (pc := 5) (tgt := 37) dX12_open_5 (by decide) (fun h => absurd h (by decide)) (fun _ => ?_)
        refine sv_aload_n (pc := 8) dX12_open_8 rfl rfl ?_
        refine sw_getfield (pc := 9) dX12_open_9 (gCX12 _ _ _ _ _) 122 (by decide) wF_X12_526 rfl rfl rfl ?_
        refine sv_iload_n (pc := 12) dX12_open_12 rfl rfl ?_
        refine sv_iload_n (pc := 13) dX12_open_13 rfl rfl ?_
        refine sv_aload_n (pc := 14) dX12_open_14 rfl rfl ?_
        refine sw_getfield (pc := 15) dX12_open_15 (gCX12 _ _ _ _ _) 121 (by decide) wF_X12_523 rfl rfl rfl ?_
        refine sv_iload_n (pc := 18) dX12_open_18 rfl rfl ?_
        refine sw_iaload (pc := 19) (k := 3) (v := .int 1) dX12_open_19 rfl rfl rfl (by decide) (by decide) rfl rfl ?_
        refine sw_idiv (pc := 20) (v := 0) dX12_open_20 (by decide) (by decide) ?_
        refine sv_aload_n (pc := 21) dX12_open_21 rfl rfl ?_
        refine sw_getfield (pc := 22) dX12_open_22 (gCX12 _ _ _ _ _) 118 (by decide) wF_X12_514 rfl rfl rfl ?_
        refine sv_iload_n (pc := 25) dX12_open_25 rfl rfl ?_
        refine sw_iaload (pc := 26) (k := 3) (v := .int 0) dX12_open_26 rfl rfl rfl (by decide) (by decide) rfl rfl ?_
        refine sv_iconst (pc := 27) (v := 1) dX12_open_27 (by decide) ?_
        refine sw_iadd (pc := 28) (v := 1) dX12_open_28 (by decide) ?_
        refine sw_irem (pc := 29) (v := 0) dX12_open_29 (by decide) (by decide) ?_
        refine sw_iastore (pc := 30) (k := 3) (v := .int 0) dX12_open_30 rfl rfl rfl (by decide) (by decide) rfl rfl ?_
        refine sw_iinc (pc := 31) (v := 4) dX12_open_31 rfl (by decide) (by decide) ?_
        refine sv_goto (pc := 34) (tgt := 2) dX12_open_34 (by decide) ?_
        refine sv_iload_n (pc := 2) dX12_open_2 rfl rfl ?_
        refine sv_bipush (pc := 3) (v := 6) dX12_open_3 (by decide) ?_
        refine sv_icmp_gt (pc := 5) (tgt := 37) dX12_open_5 (by decide) (fun h => absurd h (by decide)) (fun _ => ?_)
        refine sv_aload_n (pc := 8) dX12_open_8 rfl rfl ?_
        refine sw_getfield (pc := 9) dX12_open_9 (gCX12 _ _ _ _ _) 122 (by decide) wF_X12_526 rfl rfl rfl ?_
        refine sv_iload_n (pc := 12) dX12_open_12 rfl rfl ?_
        refine sv_iload_n (pc := 13) dX12_open_13 rfl rfl ?_
        refine sv_aload_n (pc := 14) dX12_open_14 rfl rfl ?_
        refine sw_getfield (pc := 15) dX12_open_15 (gCX12 _ _ _ _ _) 121 (by decide) wF_X12_523 rfl rfl rfl ?_
        refine sv_iload_n (pc := 18) dX12_open_18 rfl rfl ?_
        refine sw_iaload (pc := 19) (k := 4) (v := .int 1) dX12_open_19 rfl rfl rfl (by decide) (by decide) rfl rfl ?_
        refine sw_idiv (pc := 20) (v := 0) dX12_open_20 (by decide) (by decide) ?_
        refine sv_aload_n (pc := 21) dX12_open_21 rfl rfl ?_
        refine sw_getfield (pc := 22) dX12_open_22 (gCX12 _ _ _ _ _) 118 (by decide) wF_X12_514 rfl rfl rfl ?_
        refine sv_iload_n (pc := 25) dX12_open_25 rfl rfl ?_
        refine sw_iaload (pc := 26) (k := 4) (v := .int 0) dX12_open_26 rfl rfl rfl (by decide) (by decide) rfl rfl ?_
        refine sv_iconst (pc := 27) (v := 1) dX12_open_27 (by decide) ?_
        refine sw_iadd (pc := 28) (v := 1) dX12_open_28 (by decide) ?_
        refine sw_irem (pc := 29) (v := 0) dX12_open_29 (by decide) (by decide) ?_
        refine sw_iastore (pc := 30) (k := 4) (v := .int 0) dX12_open_30 rfl rfl rfl (by decide) (by decide) rfl rfl ?_
        refine sw_iinc (pc := 31) (v := 5) dX12_open_31 rfl (by decide) (by decide) ?_
        refine sv_goto (pc := 34) (tgt := 2) dX12_open_34 (by decide) ?_
        refine sv_iload_n (pc := 2) dX12_open_2 rfl rfl ?_
        refine sv_bipush (pc := 3) (v := 6) dX12_open_3 (by decide) ?_
        refine sv_icmp_gt (pc := 5) (tgt := 37) dX12_open_5 (by decide) (fun h => absurd h (by decide)) (fun _ => ?_)
        refine sv_aload_n (pc := 8) dX12_open_8 rfl rfl ?_
        refine sw_getfield (pc := 9) dX12_open_9 (gCX12 _ _ _ _ _) 122 (by decide) wF_X12_526 rfl rfl rfl ?_
        refine sv_iload_n (pc := 12) dX12_open_12 rfl rfl ?_
        refine sv_iload_n (pc := 13) dX12_open_13 rfl rfl ?_
        refine sv_aload_n (pc := 14) dX12_open_14 rfl rfl ?_
        refine sw_getfield (pc := 15) dX12_open_15 (gCX12 _ _ _ _ _) 121 (by decide) wF_X12_523 rfl rfl rfl ?_
        refine sv_iload_n (pc := 18) dX12_open_18 rfl rfl ?_
        refine sw_iaload (pc := 19) (k := 5) (v := .int 1) dX12_open_19 rfl rfl rfl (by decide) (by decide) rfl rfl ?_
        refine sw_idiv (pc := 20) (v := 0) dX12_open_20 (by decide) (by decide) ?_
        refine sv_aload_n (pc := 21) dX12_open_21 rfl rfl ?_
        refine sw_getfield (pc := 22) dX12_open_22 (gCX12 _ _ _ _ _) 118 (by decide) wF_X12_514 rfl rfl rfl ?_
        refine sv_iload_n (pc := 25) dX12_open_25 rfl rfl ?_
        refine sw_iaload (pc := 26) (k := 5) (v := .int 0) dX12_open_26 rfl rfl rfl (by decide) (by decide) rfl rfl ?_
        refine sv_iconst (pc := 27) (v := 1) dX12_open_27 (by decide) ?_
        refine sw_iadd (pc := 28) (v := 1) dX12_open_28 (by decide) ?_
        refine sw_irem (pc := 29) (v := 0) dX12_open_29 (by decide) (by decide) ?_
        refine sw_iastore (pc := 30) (k := 5) (v := .int 0) dX12_open_30 rfl rfl rfl (by decide) (by decide) rfl rfl ?_
        refine sw_iinc (pc := 31) (v := 6) dX12_open_31 rfl (by decide) (by decide) ?_
        refine sv_goto (pc := 34) (tgt := 2) dX12_open_34 (by decide) ?_
        refine sv_iload_n (pc := 2) dX12_open_2 rfl rfl ?_
        refine sv_bipush (pc := 3) (v := 6) dX12_open_3 (by decide) ?_
        refine sv_icmp_gt (pc := 5) (tgt := 37) dX12_open_5 (by decide) (fun h => absurd h (by decide)) (fun _ => ?_)
        refine sv_aload_n (pc := 8) dX12_open_8 rfl rfl ?_
        refine sw_getfield (pc := 9) dX12_open_9 (gCX12 _ _ _ _ _) 122 (by decide) wF_X12_526 rfl rfl rfl ?_
        refine sv_iload_n (pc := 12) dX12_open_12 rfl rfl ?_
        refine sv_iload_n (pc := 13) dX12_open_13 rfl rfl ?_
        refine sv_aload_n (pc := 14) dX12_open_14 rfl rfl ?_
        refine sw_getfield (pc := 15) dX12_open_15 (gCX12 _ _ _ _ _) 121 (by decide) wF_X12_523 rfl rfl rfl ?_
        refine sv_iload_n (pc := 18) dX12_open_18 rfl rfl ?_
        refine sw_iaload (pc := 19) (k := 6) (v := .int 1) dX12_open_19 rfl rfl rfl (by decide) (by decide) rfl rfl ?_
        refine sw_idiv (pc := 20) (v := 0) dX12_open_20 (by decide) (by decide) ?_
        refine sv_aload_n (pc := 21) dX12_open_21 rfl rfl ?_
        refine sw_getfield (pc := 22) dX12_open_22 (gCX12 _ _ _ _ _) 118 (by decide) wF_X12_514 rfl rfl rfl ?_
        refine sv_iload_n (pc := 25) dX12_open_25 rfl rfl ?_
        refine sw_iaload (pc := 26) (k := 6) (v := .int 0) dX12_open_26 rfl rfl rfl (by decide) (by decide) rfl rfl ?_
        refine sv_iconst (pc := 27) (v := 1) dX12_open_27 (by decide) ?_
        refine sw_iadd (pc := 28) (v := 1) dX12_open_28 (by decide) ?_
        refine sw_irem (pc := 29) (v := 0) dX12_open_29 (by decide) (by decide) ?_
        refine sw_iastore (pc := 30) (k := 6) (v := .int 0) dX12_open_30 rfl rfl rfl (by decide) (by decide) rfl rfl ?_
        refine sw_iinc (pc := 31) (v := 7) dX12_open_31 rfl (by decide) (by decide) ?_
        refine sv_goto (pc := 34) (tgt := 2) dX12_open_34 (by decide) ?_
        refine sv_iload_n (pc := 2) dX12_open_2 rfl rfl ?_
        refine sv_bipush (pc := 3) (v := 6) dX12_open_3 (by decide) ?_
        refine sv_icmp_gt (pc := 5) (tgt := 37) dX12_open_5 (by decide) (fun _ => ?_) (fun h => absurd (by decide) h)
        refine sv_vret (pc := 37) dX12_open_37 rfl (le_t rfl) (le_t rfl) ?_
        refine sv_iconst (pc := 5) (v := 1) dX12_isRest_5 (by decide) ?_
        refine sv_istore_n (pc := 6) dX12_isRest_6 rfl (by decide) ?_
        refine sv_iconst (pc := 7) (v := 1) dX12_isRest_7 (by decide) ?_
        refine sv_istore_n (pc := 8) dX12_isRest_8 rfl (by decide) ?_
        refine sv_iload_n (pc := 9) dX12_isRest_9 rfl rfl ?_
        refine sv_bipush (pc := 10) (v := 6) dX12_isRest_10 (by decide) ?_
        refine sv_icmp_gt (pc := 12) (tgt := 45) dX12_isRest_12 (by decide) (fun h => absurd h (by decide)) (fun _ => ?_)
        refine sv_iload_n (pc := 15) dX12_isRest_15 rfl rfl ?_
        refine sv_if_eq (pc := 16) (tgt := 45) dX12_isRest_16 (by decide) (fun h => absurd h (by decide)) (fun _ => ?_)
        refine sv_aload_n (pc := 19) dX12_isRest_19 rfl rfl ?_
        refine sv_iload_n (pc := 20) dX12_isRest_20 rfl rfl ?_
        refine sv_callV (pc := 21) (M' := mX12_acted) (d' := 18) (C' := 0) (S' := 0) (av := [.int 1]) ?_ (gOk _ _ _ _ _) dX12_isRest_21 (tX12_acted _ _ _ _ _) ⟨wV_X12_acted, wL_X12_acted⟩ wM_X12_725 (gCX12 _ _ _ _ _) rfl (lt_t rfl) rfl ⟨le_t rfl, le_t rfl⟩ ⟨le_t rfl, le_t rfl⟩ rfl (le_t rfl) (fun _ _ h => h)
        refine sC.of rfl (by decide) (le_t rfl) ?_
        refine sv_iconst (pc := 0) (v := 0) dX12_acted_0 (by decide) ?_
        refine sv_istore_n (pc := 1) dX12_acted_1 rfl (by decide) ?_
        refine sv_iload_n (pc := 2) dX12_acted_2 rfl rfl ?_
        refine sv_aload_n (pc := 3) dX12_acted_3 rfl rfl ?_
        refine sw_getfield (pc := 4) dX12_acted_4 (gCX12 _ _ _ _ _) 118 (by decide) wF_X12_514 rfl rfl rfl ?_
        refine sv_iload_n (pc := 7) dX12_acted_7 rfl rfl ?_
        refine sw_iaload (pc := 8) (k := 1) (v := .int 0) dX12_acted_8 rfl rfl rfl (by decide) (by decide) rfl rfl ?_
        refine sv_icmp_ge (pc := 9) (tgt := 32) dX12_acted_9 (by decide) (fun _ => ?_) (fun h => absurd (by decide) h)
        refine sv_aload_n (pc := 32) dX12_acted_32 rfl rfl ?_
        refine sw_getfield (pc := 33) dX12_acted_33 (gCX12 _ _ _ _ _) 118 (by decide) wF_X12_514 rfl rfl rfl ?_
        refine sv_iload_n (pc := 36) dX12_acted_36 rfl rfl ?_
        refine sw_iaload (pc := 37) (k := 1) (v := .int 0) dX12_acted_37 rfl rfl rfl (by decide) (by decide) rfl rfl ?_
        refine sv_iret (pc := 38) dX12_acted_38 rfl (le_t rfl) (le_t rfl) ?_
        refine sv_aload_n (pc := 24) dX12_isRest_24 rfl rfl ?_
        refine sw_getfield (pc := 25) dX12_isRest_25 (gCX12 _ _ _ _ _) 122 (by decide) wF_X12_526 rfl rfl rfl ?_
        refine sv_iload_n (pc := 28) dX12_isRest_28 rfl rfl ?_
        refine sw_iaload (pc := 29) (k := 1) (v := .int 0) dX12_isRest_29 rfl rfl rfl (by decide) (by decide) rfl rfl ?_
        refine sv_icmp_ne (pc := 30) (tgt := 37) dX12_isRest_30 (by decide) (fun h => absurd (by decide) h) (fun _ => ?_)
        refine sv_iconst (pc := 33) (v := 1) dX12_isRest_33 (by decide) ?_
        refine sv_goto (pc := 34) (tgt := 38) dX12_isRest_34 (by decide) ?_
        refine sv_istore_n (pc := 38) dX12_isRest_38 rfl (by decide) ?_
        refine sw_iinc (pc := 39) (v := 2) dX12_isRest_39 rfl (by decide) (by decide) ?_
        refine sv_goto (pc := 42) (tgt := 9) dX12_isRest_42 (by decide) ?_
        refine sv_iload_n (pc := 9) dX12_isRest_9 rfl rfl ?_
        refine sv_bipush (pc := 10) (v := 6) dX12_isRest_10 (by decide) ?_
        refine sv_icmp_gt (pc := 12) (tgt := 45) dX12_isRest_12 (by decide) (fun h => absurd h (by decide)) (fun _ => ?_)
        refine sv_iload_n (pc := 15) dX12_isRest_15 rfl rfl ?_
        refine sv_if_eq (pc := 16) (tgt := 45) dX12_isRest_16 (by decide) (fun h => absurd h (by decide)) (fun _ => ?_)
        refine sv_aload_n (pc := 19) dX12_isRest_19 rfl rfl ?_
        refine sv_iload_n (pc := 20) dX12_isRest_20 rfl rfl ?_
        refine sv_callV (pc := 21) (M' := mX12_acted) (d' := 18) (C' := 0) (S' := 0) (av := [.int 2]) ?_ (gOk _ _ _ _ _) dX12_isRest_21 (tX12_acted _ _ _ _ _) ⟨wV_X12_acted, wL_X12_acted⟩ wM_X12_725 (gCX12 _ _ _ _ _) rfl (lt_t rfl) rfl ⟨le_t rfl, le_t rfl⟩ ⟨le_t rfl, le_t rfl⟩ rfl (le_t rfl) (fun _ _ h => h)
        refine sC.of rfl (by decide) (le_t rfl) ?_
        refine sv_iconst (pc := 0) (v := 0) dX12_acted_0 (by decide) ?_
        refine sv_istore_n (pc := 1) dX12_acted_1 rfl (by decide) ?_
        refine sv_iload_n (pc := 2) dX12_acted_2 rfl rfl ?_
        refine sv_aload_n (pc := 3) dX12_acted_3 rfl rfl ?_
        refine sw_getfield (pc := 4) dX12_acted_4 (gCX12 _ _ _ _ _) 118 (by decide) wF_X12_514 rfl rfl rfl ?_
        refine sv_iload_n (pc := 7) dX12_acted_7 rfl rfl ?_
        refine sw_iaload (pc := 8) (k := 2) (v := .int 0) dX12_acted_8 rfl rfl rfl (by decide) (by decide) rfl rfl ?_
        refine sv_icmp_ge (pc := 9) (tgt := 32) dX12_acted_9 (by decide) (fun _ => ?_) (fun h => absurd (by decide) h)
        refine sv_aload_n (pc := 32) dX12_acted_32 rfl rfl ?_
        refine sw_getfield (pc := 33) dX12_acted_33 (gCX12 _ _ _ _ _) 118 (by decide) wF_X12_514 rfl rfl rfl ?_
        refine sv_iload_n (pc := 36) dX12_acted_36 rfl rfl ?_
        refine sw_iaload (pc := 37) (k := 2) (v := .int 0) dX12_acted_37 rfl rfl rfl (by decide) (by decide) rfl rfl ?_
        refine sv_iret (pc := 38) dX12_acted_38 rfl (le_t rfl) (le_t rfl) ?_
        refine sv_aload_n (pc := 24) dX12_isRest_24 rfl rfl ?_
        refine sw_getfield (pc := 25) dX12_isRest_25 (gCX12 _ _ _ _ _) 122 (by decide) wF_X12_526 rfl rfl rfl ?_
        refine sv_iload_n (pc := 28) dX12_isRest_28 rfl rfl ?_
        refine sw_iaload (pc := 29) (k := 2) (v := .int 0) dX12_isRest_29 rfl rfl rfl (by decide) (by decide) rfl rfl ?_
        refine sv_icmp_ne (pc := 30) (tgt := 37) dX12_isRest_30 (by decide) (fun h => absurd (by decide) h) (fun _ => ?_)
        refine sv_iconst (pc := 33) (v := 1) dX12_isRest_33 (by decide) ?_
        refine sv_goto (pc := 34) (tgt := 38) dX12_isRest_34 (by decide) ?_
        refine sv_istore_n (pc := 38) dX12_isRest_38 rfl (by decide) ?_
        refine sw_iinc (pc := 39) (v := 3) dX12_isRest_39 rfl (by decide) (by decide) ?_
        refine sv_goto (pc := 42) (tgt := 9) dX12_isRest_42 (by decide) ?_
        refine sv_iload_n (pc := 9) dX12_isRest_9 rfl rfl ?_
        refine sv_bipush (pc := 10) (v := 6) dX12_isRest_10 (by decide) ?_
        refine sv_icmp_gt (pc := 12) (tgt := 45) dX12_isRest_12 (by decide) (fun h => absurd h (by decide)) (fun _ => ?_)
        refine sv_iload_n (pc := 15) dX12_isRest_15 rfl rfl ?_
        refine sv_if_eq (pc := 16) (tgt := 45) dX12_isRest_16 (by decide) (fun h => absurd h (by decide)) (fun _ => ?_)
        refine sv_aload_n (pc := 19) dX12_isRest_19 rfl rfl ?_
        refine sv_iload_n (pc := 20) dX12_isRest_20 rfl rfl ?_
        refine sv_callV (pc := 21) (M' := mX12_acted) (d' := 18) (C' := 0) (S' := 0) (av := [.int 3]) ?_ (gOk _ _ _ _ _) dX12_isRest_21 (tX12_acted _ _ _ _ _) ⟨wV_X12_acted, wL_X12_acted⟩ wM_X12_725 (gCX12 _ _ _ _ _) rfl (lt_t rfl) rfl ⟨le_t rfl, le_t rfl⟩ ⟨le_t rfl, le_t rfl⟩ rfl (le_t rfl) (fun _ _ h => h)
        refine sC.of rfl (by decide) (le_t rfl) ?_
        refine sv_iconst (pc := 0) (v := 0) dX12_acted_0 (by decide) ?_
        refine sv_istore_n (pc := 1) dX12_acted_1 rfl (by decide) ?_
        refine sv_iload_n (pc := 2) dX12_acted_2 rfl rfl ?_
        refine sv_aload_n (pc := 3) dX12_acted_3 rfl rfl ?_
        refine sw_getfield (pc := 4) dX12_acted_4 (gCX12 _ _ _ _ _) 118 (by decide) wF_X12_514 rfl rfl rfl ?_
        refine sv_iload_n (pc := 7) dX12_acted_7 rfl rfl ?_
        refine sw_iaload (pc := 8) (k := 3) (v := .int 0) dX12_acted_8 rfl rfl rfl (by decide) (by decide) rfl rfl ?_
        refine sv_icmp_ge (pc := 9) (tgt := 32) dX12_acted_9 (by decide) (fun _ => ?_) (fun h => absurd (by decide) h)
        refine sv_aload_n (pc := 32) dX12_acted_32 rfl rfl ?_
        refine sw_getfield (pc := 33) dX12_acted_33 (gCX12 _ _ _ _ _) 118 (by decide) wF_X12_514 rfl rfl rfl ?_
        refine sv_iload_n (pc := 36) dX12_acted_36 rfl rfl ?_
        refine sw_iaload (pc := 37) (k := 3) (v := .int 0) dX12_acted_37 rfl rfl rfl (by decide) (by decide) rfl rfl ?_
        refine sv_iret (pc := 38) dX12_acted_38 rfl (le_t rfl) (le_t rfl) ?_
        refine sv_aload_n (pc := 24) dX12_isRest_24 rfl rfl ?_
        refine sw_getfield (pc := 25) dX12_isRest_25 (gCX12 _ _ _ _ _) 122 (by decide) wF_X12_526 rfl rfl rfl ?_
        refine sv_iload_n (pc := 28) dX12_isRest_28 rfl rfl ?_
        refine sw_iaload (pc := 29) (k := 3) (v := .int 0) dX12_isRest_29 rfl rfl rfl (by decide) (by decide) rfl rfl ?_
        refine sv_icmp_ne (pc := 30) (tgt := 37) dX12_isRest_30 (by decide) (fun h => absurd (by decide) h) (fun _ => ?_)
        refine sv_iconst (pc := 33) (v := 1) dX12_isRest_33 (by decide) ?_
        refine sv_goto (pc := 34) (tgt := 38) dX12_isRest_34 (by decide) ?_
        refine sv_istore_n (pc := 38) dX12_isRest_38 rfl (by decide) ?_
        refine sw_iinc (pc := 39) (v := 4) dX12_isRest_39 rfl (by decide) (by decide) ?_
        refine sv_lvG (pc := 42) (lv' := [(0, .ref 106), (1, .int 0), (2, .int 1), (3, .int 4)]) (List.forall_mem_cons.mpr ⟨rfl, List.forall_mem_cons.mpr ⟨rfl, List.forall_mem_cons.mpr ⟨rfl, List.forall_mem_cons.mpr ⟨rfl, fun _ h => absurd h List.not_mem_nil⟩⟩⟩⟩) ?_
        refine sv_goto (pc := 42) (tgt := 9) dX12_isRest_42 (by decide) ?_
        refine sv_iload_n (pc := 9) dX12_isRest_9 rfl rfl ?_
        refine sv_bipush (pc := 10) (v := 6) dX12_isRest_10 (by decide) ?_
        refine sv_icmp_gt (pc := 12) (tgt := 45) dX12_isRest_12 (by decide) (fun h => absurd h (by decide)) (fun _ => ?_)
        refine sv_iload_n (pc := 15) dX12_isRest_15 rfl rfl ?_
        refine sv_if_eq (pc := 16) (tgt := 45) dX12_isRest_16 (by decide) (fun h => absurd h (by decide)) (fun _ => ?_)
        refine sv_aload_n (pc := 19) dX12_isRest_19 rfl rfl ?_
        refine sv_iload_n (pc := 20) dX12_isRest_20 rfl rfl ?_
        refine sv_callV (pc := 21) (M' := mX12_acted) (d' := 18) (C' := 0) (S' := 0) (av := [.int 4]) ?_ (gOk _ _ _ _ _) dX12_isRest_21 (tX12_acted _ _ _ _ _) ⟨wV_X12_acted, wL_X12_acted⟩ wM_X12_725 (gCX12 _ _ _ _ _) rfl (lt_t rfl) rfl ⟨le_t rfl, le_t rfl⟩ ⟨le_t rfl, le_t rfl⟩ rfl (le_t rfl) (fun _ _ h => h)
        refine sC.of rfl (by decide) (le_t rfl) ?_
        refine sv_iconst (pc := 0) (v := 0) dX12_acted_0 (by decide) ?_
        refine sv_istore_n (pc := 1) dX12_acted_1 rfl (by decide) ?_
        refine sv_iload_n (pc := 2) dX12_acted_2 rfl rfl ?_
        refine sv_aload_n (pc := 3) dX12_acted_3 rfl rfl ?_
        refine sw_getfield (pc := 4) dX12_acted_4 (gCX12 _ _ _ _ _) 118 (by decide) wF_X12_514 rfl rfl rfl ?_
        refine sv_iload_n (pc := 7) dX12_acted_7 rfl rfl ?_
        refine sw_iaload (pc := 8) (k := 4) (v := .int 0) dX12_acted_8 rfl rfl rfl (by decide) (by decide) rfl rfl ?_
        refine sv_icmp_ge (pc := 9) (tgt := 32) dX12_acted_9 (by decide) (fun _ => ?_) (fun h => absurd (by decide) h)
        refine sv_aload_n (pc := 32) dX12_acted_32 rfl rfl ?_
        refine sw_getfield (pc := 33) dX12_acted_33 (gCX12 _ _ _ _ _) 118 (by decide) wF_X12_514 rfl rfl rfl ?_
        refine sv_iload_n (pc := 36) dX12_acted_36 rfl rfl ?_
        refine sw_iaload (pc := 37) (k := 4) (v := .int 0) dX12_acted_37 rfl rfl rfl (by decide) (by decide) rfl rfl ?_
        refine sv_iret (pc := 38) dX12_acted_38 rfl (le_t rfl) (le_t rfl) ?_
        refine sv_aload_n (pc := 24) dX12_isRest_24 rfl rfl ?_
        refine sw_getfield (pc := 25) dX12_isRest_25 (gCX12 _ _ _ _ _) 122 (by decide) wF_X12_526 rfl rfl rfl ?_
        refine sv_iload_n (pc := 28) dX12_isRest_28 rfl rfl ?_
        refine sw_iaload (pc := 29) (k := 4) (v := .int 0) dX12_isRest_29 rfl rfl rfl (by decide) (by decide) rfl rfl ?_
        refine sv_icmp_ne (pc := 30) (tgt := 37) dX12_isRest_30 (by decide) (fun h => absurd (by decide) h) (fun _ => ?_)
        refine sv_iconst (pc := 33) (v := 1) dX12_isRest_33 (by decide) ?_
        refine sv_goto (pc := 34) (tgt := 38) dX12_isRest_34 (by decide) ?_
        refine sv_istore_n (pc := 38) dX12_isRest_38 rfl (by decide) ?_
        refine sw_iinc (pc := 39) (v := 5) dX12_isRest_39 rfl (by decide) (by decide) ?_
        refine sv_goto (pc := 42) (tgt := 9) dX12_isRest_42 (by decide) ?_
        refine sv_iload_n (pc := 9) dX12_isRest_9 rfl rfl ?_
        refine sv_bipush (pc := 10) (v := 6) dX12_isRest_10 (by decide) ?_
        refine sv_icmp_gt (pc := 12) (tgt := 45) dX12_isRest_12 (by decide) (fun h => absurd h (by decide)) (fun _ => ?_)
        refine sv_iload_n (pc := 15) dX12_isRest_15 rfl rfl ?_
        refine sv_if_eq (pc := 16) (tgt := 45) dX12_isRest_16 (by decide) (fun h => absurd h (by decide)) (fun _ => ?_)
        refine sv_aload_n (pc := 19) dX12_isRest_19 rfl rfl ?_
        refine sv_iload_n (pc := 20) dX12_isRest_20 rfl rfl ?_
        refine sv_callV (pc := 21) (M' := mX12_acted) (d' := 18) (C' := 0) (S' := 0) (av := [.int 5]) ?_ (gOk _ _ _ _ _) dX12_isRest_21 (tX12_acted _ _ _ _ _) ⟨wV_X12_acted, wL_X12_acted⟩ wM_X12_725 (gCX12 _ _ _ _ _) rfl (lt_t rfl) rfl ⟨le_t rfl, le_t rfl⟩ ⟨le_t rfl, le_t rfl⟩ rfl (le_t rfl) (fun _ _ h => h)
        refine sC.of rfl (by decide) (le_t rfl) ?_
        refine sv_iconst (pc := 0) (v := 0) dX12_acted_0 (by decide) ?_
        refine sv_istore_n (pc := 1) dX12_acted_1 rfl (by decide) ?_
        refine sv_iload_n (pc := 2) dX12_acted_2 rfl rfl ?_
        refine sv_aload_n (pc := 3) dX12_acted_3 rfl rfl ?_
        refine sw_getfield (pc := 4) dX12_acted_4 (gCX12 _ _ _ _ _) 118 (by decide) wF_X12_514 rfl rfl rfl ?_
        refine sv_iload_n (pc := 7) dX12_acted_7 rfl rfl ?_
        refine sw_iaload (pc := 8) (k := 5) (v := .int 0) dX12_acted_8 rfl rfl rfl (by decide) (by decide) rfl rfl ?_
        refine sv_icmp_ge (pc := 9) (tgt := 32) dX12_acted_9 (by decide) (fun _ => ?_) (fun h => absurd (by decide) h)
        refine sv_aload_n (pc := 32) dX12_acted_32 rfl rfl ?_
        refine sw_getfield (pc := 33) dX12_acted_33 (gCX12 _ _ _ _ _) 118 (by decide) wF_X12_514 rfl rfl rfl ?_
        refine sv_iload_n (pc := 36) dX12_acted_36 rfl rfl ?_
        refine sw_iaload (pc := 37) (k := 5) (v := .int 0) dX12_acted_37 rfl rfl rfl (by decide) (by decide) rfl rfl ?_
        refine sv_iret (pc := 38) dX12_acted_38 rfl (le_t rfl) (le_t rfl) ?_
        refine sv_aload_n (pc := 24) dX12_isRest_24 rfl rfl ?_
        refine sw_getfield (pc := 25) dX12_isRest_25 (gCX12 _ _ _ _ _) 122 (by decide) wF_X12_526 rfl rfl rfl ?_
        refine sv_iload_n (pc := 28) dX12_isRest_28 rfl rfl ?_
        refine sw_iaload (pc := 29) (k := 5) (v := .int 0) dX12_isRest_29 rfl rfl rfl (by decide) (by decide) rfl rfl ?_
        refine sv_icmp_ne (pc := 30) (tgt := 37) dX12_isRest_30 (by decide) (fun h => absurd (by decide) h) (fun _ => ?_)
        refine sv_iconst (pc := 33) (v := 1) dX12_isRest_33 (by decide) ?_
        refine sv_goto (pc := 34) (tgt := 38) dX12_isRest_34 (by decide) ?_
        refine sv_istore_n (pc := 38) dX12_isRest_38 rfl (by decide) ?_
        refine sw_iinc (pc := 39) (v := 6) dX12_isRest_39 rfl (by decide) (by decide) ?_
        refine sv_goto (pc := 42) (tgt := 9) dX12_isRest_42 (by decide) ?_
        refine sv_iload_n (pc := 9) dX12_isRest_9 rfl rfl ?_
        refine sv_bipush (pc := 10) (v := 6) dX12_isRest_10 (by decide) ?_
        refine sv_icmp_gt (pc := 12) (tgt := 45) dX12_isRest_12 (by decide) (fun h => absurd h (by decide)) (fun _ => ?_)
        refine sv_iload_n (pc := 15) dX12_isRest_15 rfl rfl ?_
        refine sv_if_eq (pc := 16) (tgt := 45) dX12_isRest_16 (by decide) (fun h => absurd h (by decide)) (fun _ => ?_)
        refine sv_aload_n (pc := 19) dX12_isRest_19 rfl rfl ?_
        refine sv_iload_n (pc := 20) dX12_isRest_20 rfl rfl ?_
        refine sv_callV (pc := 21) (M' := mX12_acted) (d' := 18) (C' := 0) (S' := 0) (av := [.int 6]) ?_ (gOk _ _ _ _ _) dX12_isRest_21 (tX12_acted _ _ _ _ _) ⟨wV_X12_acted, wL_X12_acted⟩ wM_X12_725 (gCX12 _ _ _ _ _) rfl (lt_t rfl) rfl ⟨le_t rfl, le_t rfl⟩ ⟨le_t rfl, le_t rfl⟩ rfl (le_t rfl) (fun _ _ h => h)
        refine sC.of rfl (by decide) (le_t rfl) ?_
        refine sv_iconst (pc := 0) (v := 0) dX12_acted_0 (by decide) ?_
        refine sv_istore_n (pc := 1) dX12_acted_1 rfl (by decide) ?_
        refine sv_iload_n (pc := 2) dX12_acted_2 rfl rfl ?_
        refine sv_aload_n (pc := 3) dX12_acted_3 rfl rfl ?_
        refine sw_getfield (pc := 4) dX12_acted_4 (gCX12 _ _ _ _ _) 118 (by decide) wF_X12_514 rfl rfl rfl ?_
        refine sv_iload_n (pc := 7) dX12_acted_7 rfl rfl ?_
        refine sw_iaload (pc := 8) (k := 6) (v := .int 0) dX12_acted_8 rfl rfl rfl (by decide) (by decide) rfl rfl ?_
        refine sv_icmp_ge (pc := 9) (tgt := 32) dX12_acted_9 (by decide) (fun _ => ?_) (fun h => absurd (by decide) h)
        refine sv_aload_n (pc := 32) dX12_acted_32 rfl rfl ?_
        refine sw_getfield (pc := 33) dX12_acted_33 (gCX12 _ _ _ _ _) 118 (by decide) wF_X12_514 rfl rfl rfl ?_
        refine sv_iload_n (pc := 36) dX12_acted_36 rfl rfl ?_
        refine sw_iaload (pc := 37) (k := 6) (v := .int 0) dX12_acted_37 rfl rfl rfl (by decide) (by decide) rfl rfl ?_
        refine sv_iret (pc := 38) dX12_acted_38 rfl (le_t rfl) (le_t rfl) ?_
        refine sv_aload_n (pc := 24) dX12_isRest_24 rfl rfl ?_
        refine sw_getfield (pc := 25) dX12_isRest_25 (gCX12 _ _ _ _ _) 122 (by decide) wF_X12_526 rfl rfl rfl ?_
        refine sv_iload_n (pc := 28) dX12_isRest_28 rfl rfl ?_
        refine sw_iaload (pc := 29) (k := 6) (v := .int 0) dX12_isRest_29 rfl rfl rfl (by decide) (by decide) rfl rfl ?_
        refine sv_icmp_ne (pc := 30) (tgt := 37) dX12_isRest_30 (by decide) (fun h => absurd (by decide) h) (fun _ => ?_)
        refine sv_iconst (pc := 33) (v := 1) dX12_isRest_33 (by decide) ?_
        refine sv_goto (pc := 34) (tgt := 38) dX12_isRest_34 (by decide) ?_
        refine sv_istore_n (pc := 38) dX12_isRest_38 rfl (by decide) ?_
        refine sw_iinc (pc := 39) (v := 7) dX12_isRest_39 rfl (by decide) (by decide) ?_
        refine sv_goto (pc := 42) (tgt := 9) dX12_isRest_42 (by decide) ?_
        refine sv_iload_n (pc := 9) dX12_isRest_9 rfl rfl ?_
        refine sv_bipush (pc := 10) (v := 6) dX12_isRest_10 (by decide) ?_
        refine sv_icmp_gt (pc := 12) (tgt := 45) dX12_isRest_12 (by decide) (fun _ => ?_) (fun h => absurd (by decide) h)
        refine sv_iload_n (pc := 45) dX12_isRest_45 rfl rfl ?_
        refine sv_zret (pc := 46) dX12_isRest_46 rfl (by decide) (le_t rfl) (le_t rfl) ?_
        refine sv_if_ne (pc := 39) (tgt := 45) dX12_rest_39 (by decide) (fun _ => ?_) (fun h => absurd h (by decide))
        refine sv_iload (pc := 45) dX12_rest_45 rfl ?_
        refine sv_if_ne (pc := 47) (tgt := 83) dX12_rest_47 (by decide) (fun h => absurd (by decide) h) (fun _ => ?_)
        refine sv_aload_n (pc := 50) dX12_rest_50 rfl rfl ?_
        refine sv_iload (pc := 51) dX12_rest_51 rfl ?_
        refine sv_callV (pc := 53) (M' := mX12_open) (d' := 19) (C' := 0) (S' := 0) (av := [.int 0]) ?_ (gOk _ _ _ _ _) dX12_rest_53 (tX12_open _ _ _ _ _) ⟨wV_X12_open, wL_X12_open⟩ wM_X12_722 (gCX12 _ _ _ _ _) rfl (lt_t rfl) rfl ⟨le_t rfl, le_t rfl⟩ ⟨le_t rfl, le_t rfl⟩ rfl (le_t rfl) (fun _ _ h => h)
        refine sC.of rfl (by decide) (le_t rfl) ?_
        refine sv_iconst (pc := 0) (v := 1) dX12_open_0 (by decide) ?_
        refine sv_istore_n (pc := 1) dX12_open_1 rfl (by decide) ?_
        refine sv_iload_n (pc := 2) dX12_open_2 rfl rfl ?_
        refine sv_bipush (pc := 3) (v := 6) dX12_open_3 (by decide) ?_
        refine sv_icmp_gt (pc := 5) (tgt := 37) dX12_open_5 (by decide) (fun h => absurd h (by decide)) (fun _ => ?_)
        refine sv_aload_n (pc := 8) dX12_open_8 rfl rfl ?_
        refine sw_getfield (pc := 9) dX12_open_9 (gCX12 _ _ _ _ _) 122 (by decide) wF_X12_526 rfl rfl rfl ?_
        refine sv_iload_n (pc := 12) dX12_open_12 rfl rfl ?_
        refine sv_iload_n (pc := 13) dX12_open_13 rfl rfl ?_
        refine sv_aload_n (pc := 14) dX12_open_14 rfl rfl ?_
        refine sw_getfield (pc := 15) dX12_open_15 (gCX12 _ _ _ _ _) 121 (by decide) wF_X12_523 rfl rfl rfl ?_
        refine sv_iload_n (pc := 18) dX12_open_18 rfl rfl ?_
        refine sw_iaload (pc := 19) (k := 1) (v := .int 1) dX12_open_19 rfl rfl rfl (by decide) (by decide) rfl rfl ?_
        refine sw_idiv (pc := 20) (v := 0) dX12_open_20 (by decide) (by decide) ?_
        refine sv_aload_n (pc := 21) dX12_open_21 rfl rfl ?_
        refine sw_getfield (pc := 22) dX12_open_22 (gCX12 _ _ _ _ _) 118 (by decide) wF_X12_514 rfl rfl rfl ?_
        refine sv_iload_n (pc := 25) dX12_open_25 rfl rfl ?_
        refine sw_iaload (pc := 26) (k := 1) (v := .int 0) dX12_open_26 rfl rfl rfl (by decide) (by decide) rfl rfl ?_
        refine sv_iconst (pc := 27) (v := 1) dX12_open_27 (by decide) ?_
        refine sw_iadd (pc := 28) (v := 1) dX12_open_28 (by decide) ?_
        refine sw_irem (pc := 29) (v := 0) dX12_open_29 (by decide) (by decide) ?_
        refine sw_iastore (pc := 30) (k := 1) (v := .int 0) dX12_open_30 rfl rfl rfl (by decide) (by decide) rfl rfl ?_
        refine sw_iinc (pc := 31) (v := 2) dX12_open_31 rfl (by decide) (by decide) ?_
        refine sv_goto (pc := 34) (tgt := 2) dX12_open_34 (by decide) ?_
        refine sv_iload_n (pc := 2) dX12_open_2 rfl rfl ?_
        refine sv_bipush (pc := 3) (v := 6) dX12_open_3 (by decide) ?_
        refine sv_icmp_gt (pc := 5) (tgt := 37) dX12_open_5 (by decide) (fun h => absurd h (by decide)) (fun _ => ?_)
        refine sv_aload_n (pc := 8) dX12_open_8 rfl rfl ?_
        refine sw_getfield (pc := 9) dX12_open_9 (gCX12 _ _ _ _ _) 122 (by decide) wF_X12_526 rfl rfl rfl ?_
        refine sv_iload_n (pc := 12) dX12_open_12 rfl rfl ?_
        refine sv_iload_n (pc := 13) dX12_open_13 rfl rfl ?_
        refine sv_aload_n (pc := 14) dX12_open_14 rfl rfl ?_
        refine sw_getfield (pc := 15) dX12_open_15 (gCX12 _ _ _ _ _) 121 (by decide) wF_X12_523 rfl rfl rfl ?_
        refine sv_iload_n (pc := 18) dX12_open_18 rfl rfl ?_
        refine sw_iaload (pc := 19) (k := 2) (v := .int 1) dX12_open_19 rfl rfl rfl (by decide) (by decide) rfl rfl ?_
        refine sw_idiv (pc := 20) (v := 0) dX12_open_20 (by decide) (by decide) ?_
        refine sv_aload_n (pc := 21) dX12_open_21 rfl rfl ?_
        refine sw_getfield (pc := 22) dX12_open_22 (gCX12 _ _ _ _ _) 118 (by decide) wF_X12_514 rfl rfl rfl ?_
        refine sv_iload_n (pc := 25) dX12_open_25 rfl rfl ?_
        refine sw_iaload (pc := 26) (k := 2) (v := .int 0) dX12_open_26 rfl rfl rfl (by decide) (by decide) rfl rfl ?_
        refine sv_iconst (pc := 27) (v := 1) dX12_open_27 (by decide) ?_
        refine sw_iadd (pc := 28) (v := 1) dX12_open_28 (by decide) ?_
        refine sw_irem (pc := 29) (v := 0) dX12_open_29 (by decide) (by decide) ?_
        refine sw_iastore (pc := 30) (k := 2) (v := .int 0) dX12_open_30 rfl rfl rfl (by decide) (by decide) rfl rfl ?_
        refine sw_iinc (pc := 31) (v := 3) dX12_open_31 rfl (by decide) (by decide) ?_
        refine sv_goto (pc := 34) (tgt := 2) dX12_open_34 (by decide) ?_
        refine sv_iload_n (pc := 2) dX12_open_2 rfl rfl ?_
        refine sv_bipush (pc := 3) (v := 6) dX12_open_3 (by decide) ?_
        refine sv_icmp_gt (pc := 5) (tgt := 37) dX12_open_5 (by decide) (fun h => absurd h (by decide)) (fun _ => ?_)
        refine sv_aload_n (pc := 8) dX12_open_8 rfl rfl ?_
        refine sw_getfield (pc := 9) dX12_open_9 (gCX12 _ _ _ _ _) 122 (by decide) wF_X12_526 rfl rfl rfl ?_
        refine sv_iload_n (pc := 12) dX12_open_12 rfl rfl ?_
        refine sv_iload_n (pc := 13) dX12_open_13 rfl rfl ?_
        refine sv_aload_n (pc := 14) dX12_open_14 rfl rfl ?_
        refine sw_getfield (pc := 15) dX12_open_15 (gCX12 _ _ _ _ _) 121 (by decide) wF_X12_523 rfl rfl rfl ?_
        refine sv_iload_n (pc := 18) dX12_open_18 rfl rfl ?_
        refine sw_iaload (pc := 19) (k := 3) (v := .int 1) dX12_open_19 rfl rfl rfl (by decide) (by decide) rfl rfl ?_
        refine sw_idiv (pc := 20) (v := 0) dX12_open_20 (by decide) (by decide) ?_
        refine sv_aload_n (pc := 21) dX12_open_21 rfl rfl ?_
        refine sw_getfield (pc := 22) dX12_open_22 (gCX12 _ _ _ _ _) 118 (by decide) wF_X12_514 rfl rfl rfl ?_
        refine sv_iload_n (pc := 25) dX12_open_25 rfl rfl ?_
        refine sw_iaload (pc := 26) (k := 3) (v := .int 0) dX12_open_26 rfl rfl rfl (by decide) (by decide) rfl rfl ?_
        refine sv_iconst (pc := 27) (v := 1) dX12_open_27 (by decide) ?_
        refine sw_iadd (pc := 28) (v := 1) dX12_open_28 (by decide) ?_
        refine sw_irem (pc := 29) (v := 0) dX12_open_29 (by decide) (by decide) ?_
        refine sw_iastore (pc := 30) (k := 3) (v := .int 0) dX12_open_30 rfl rfl rfl (by decide) (by decide) rfl rfl ?_
        refine sw_iinc (pc := 31) (v := 4) dX12_open_31 rfl (by decide) (by decide) ?_
        refine sv_goto (pc := 34) (tgt := 2) dX12_open_34 (by decide) ?_
        refine sv_iload_n (pc := 2) dX12_open_2 rfl rfl ?_
        refine sv_bipush (pc := 3) (v := 6) dX12_open_3 (by decide) ?_
        refine sv_icmp_gt (pc := 5) (tgt := 37) dX12_open_5 (by decide) (fun h => absurd h (by decide)) (fun _ => ?_)
        refine sv_aload_n (pc := 8) dX12_open_8 rfl rfl ?_
        refine sw_getfield (pc := 9) dX12_open_9 (gCX12 _ _ _ _ _) 122 (by decide) wF_X12_526 rfl rfl rfl ?_
        refine sv_iload_n (pc := 12) dX12_open_12 rfl rfl ?_
        refine sv_iload_n (pc := 13) dX12_open_13 rfl rfl ?_
        refine sv_aload_n (pc := 14) dX12_open_14 rfl rfl ?_
        refine sw_getfield (pc := 15) dX12_open_15 (gCX12 _ _ _ _ _) 121 (by decide) wF_X12_523 rfl rfl rfl ?_
        refine sv_iload_n (pc := 18) dX12_open_18 rfl rfl ?_
        refine sw_iaload (pc := 19) (k := 4) (v := .int 1) dX12_open_19 rfl rfl rfl (by decide) (by decide) rfl rfl ?_
        refine sw_idiv (pc := 20) (v := 0) dX12_open_20 (by decide) (by decide) ?_
        refine sv_aload_n (pc := 21) dX12_open_21 rfl rfl ?_
        refine sw_getfield (pc := 22) dX12_open_22 (gCX12 _ _ _ _ _) 118 (by decide) wF_X12_514 rfl rfl rfl ?_
        refine sv_iload_n (pc := 25) dX12_open_25 rfl rfl ?_
        refine sw_iaload (pc := 26) (k := 4) (v := .int 0) dX12_open_26 rfl rfl rfl (by decide) (by decide) rfl rfl ?_
        refine sv_iconst (pc := 27) (v := 1) dX12_open_27 (by decide) ?_
        refine sw_iadd (pc := 28) (v := 1) dX12_open_28 (by decide) ?_
        refine sw_irem (pc := 29) (v := 0) dX12_open_29 (by decide) (by decide) ?_
        refine sw_iastore (pc := 30) (k := 4) (v := .int 0) dX12_open_30 rfl rfl rfl (by decide) (by decide) rfl rfl ?_
        refine sw_iinc (pc := 31) (v := 5) dX12_open_31 rfl (by decide) (by decide) ?_
        refine sv_goto (pc := 34) (tgt := 2) dX12_open_34 (by decide) ?_
        refine sv_iload_n (pc := 2) dX12_open_2 rfl rfl ?_
        refine sv_bipush (pc := 3) (v := 6) dX12_open_3 (by decide) ?_
        refine sv_icmp_gt (pc := 5) (tgt := 37) dX12_open_5 (by decide) (fun h => absurd h (by decide)) (fun _ => ?_)
        refine sv_aload_n (pc := 8) dX12_open_8 rfl rfl ?_
        refine sw_getfield (pc := 9) dX12_open_9 (gCX12 _ _ _ _ _) 122 (by decide) wF_X12_526 rfl rfl rfl ?_
        refine sv_iload_n (pc := 12) dX12_open_12 rfl rfl ?_
        refine sv_iload_n (pc := 13) dX12_open_13 rfl rfl ?_
        refine sv_aload_n (pc := 14) dX12_open_14 rfl rfl ?_
        refine sw_getfield (pc := 15) dX12_open_15 (gCX12 _ _ _ _ _) 121 (by decide) wF_X12_523 rfl rfl rfl ?_
        refine sv_iload_n (pc := 18) dX12_open_18 rfl rfl ?_
        refine sw_iaload (pc := 19) (k := 5) (v := .int 1) dX12_open_19 rfl rfl rfl (by decide) (by decide) rfl rfl ?_
        refine sw_idiv (pc := 20) (v := 0) dX12_open_20 (by decide) (by decide) ?_
        refine sv_aload_n (pc := 21) dX12_open_21 rfl rfl ?_
        refine sw_getfield (pc := 22) dX12_open_22 (gCX12 _ _ _ _ _) 118 (by decide) wF_X12_514 rfl rfl rfl ?_
        refine sv_iload_n (pc := 25) dX12_open_25 rfl rfl ?_
        refine sw_iaload (pc := 26) (k := 5) (v := .int 0) dX12_open_26 rfl rfl rfl (by decide) (by decide) rfl rfl ?_
        refine sv_iconst (pc := 27) (v := 1) dX12_open_27 (by decide) ?_
        refine sw_iadd (pc := 28) (v := 1) dX12_open_28 (by decide) ?_
        refine sw_irem (pc := 29) (v := 0) dX12_open_29 (by decide) (by decide) ?_
        refine sw_iastore (pc := 30) (k := 5) (v := .int 0) dX12_open_30 rfl rfl rfl (by decide) (by decide) rfl rfl ?_
        refine sw_iinc (pc := 31) (v := 6) dX12_open_31 rfl (by decide) (by decide) ?_
        refine sv_goto (pc := 34) (tgt := 2) dX12_open_34 (by decide) ?_
        refine sv_iload_n (pc := 2) dX12_open_2 rfl rfl ?_
        refine sv_bipush (pc := 3) (v := 6) dX12_open_3 (by decide) ?_
        refine sv_icmp_gt (pc := 5) (tgt := 37) dX12_open_5 (by decide) (fun h => absurd h (by decide)) (fun _ => ?_)
        refine sv_aload_n (pc := 8) dX12_open_8 rfl rfl ?_
        refine sw_getfield (pc := 9) dX12_open_9 (gCX12 _ _ _ _ _) 122 (by decide) wF_X12_526 rfl rfl rfl ?_
        refine sv_iload_n (pc := 12) dX12_open_12 rfl rfl ?_
        refine sv_iload_n (pc := 13) dX12_open_13 rfl rfl ?_
        refine sv_aload_n (pc := 14) dX12_open_14 rfl rfl ?_
        refine sw_getfield (pc := 15) dX12_open_15 (gCX12 _ _ _ _ _) 121 (by decide) wF_X12_523 rfl rfl rfl ?_
        refine sv_iload_n (pc := 18) dX12_open_18 rfl rfl ?_
        refine sw_iaload (pc := 19) (k := 6) (v := .int 1) dX12_open_19 rfl rfl rfl (by decide) (by decide) rfl rfl ?_
        refine sw_idiv (pc := 20) (v := 0) dX12_open_20 (by decide) (by decide) ?_
        refine sv_aload_n (pc := 21) dX12_open_21 rfl rfl ?_
        refine sw_getfield (pc := 22) dX12_open_22 (gCX12 _ _ _ _ _) 118 (by decide) wF_X12_514 rfl rfl rfl ?_
        refine sv_iload_n (pc := 25) dX12_open_25 rfl rfl ?_
        refine sw_iaload (pc := 26) (k := 6) (v := .int 0) dX12_open_26 rfl rfl rfl (by decide) (by decide) rfl rfl ?_
        refine sv_iconst (pc := 27) (v := 1) dX12_open_27 (by decide) ?_
        refine sw_iadd (pc := 28) (v := 1) dX12_open_28 (by decide) ?_
        refine sw_irem (pc := 29) (v := 0) dX12_open_29 (by decide) (by decide) ?_
        refine sw_iastore (pc := 30) (k := 6) (v := .int 0) dX12_open_30 rfl rfl rfl (by decide) (by decide) rfl rfl ?_
        refine sw_iinc (pc := 31) (v := 7) dX12_open_31 rfl (by decide) (by decide) ?_
        refine sv_goto (pc := 34) (tgt := 2) dX12_open_34 (by decide) ?_
        refine sv_iload_n (pc := 2) dX12_open_2 rfl rfl ?_
        refine sv_bipush (pc := 3) (v := 6) dX12_open_3 (by decide) ?_
        refine sv_icmp_gt (pc := 5) (tgt := 37) dX12_open_5 (by decide) (fun _ => ?_) (fun h => absurd (by decide) h)
        refine sv_vret (pc := 37) dX12_open_37 rfl (le_t rfl) (le_t rfl) ?_
        refine sv_aload_n (pc := 56) dX12_rest_56 rfl rfl ?_
        refine sw_getfield (pc := 57) dX12_rest_57 (gCX12 _ _ _ _ _) 122 (by decide) wF_X12_526 rfl rfl rfl ?_
        refine sv_iload_n (pc := 60) dX12_rest_60 rfl rfl ?_
        refine sw_iaload (pc := 61) (k := 4) (v := .int 0) dX12_rest_61 rfl rfl rfl (by decide) (by decide) rfl rfl ?_
        refine sv_aload_n (pc := 62) dX12_rest_62 rfl rfl ?_
        refine sw_getfield (pc := 63) dX12_rest_63 (gCX12 _ _ _ _ _) 118 (by decide) wF_X12_514 rfl rfl rfl ?_
        refine sv_iload_n (pc := 66) dX12_rest_66 rfl rfl ?_
        refine sw_iaload (pc := 67) (k := 4) (v := .int 0) dX12_rest_67 rfl rfl rfl (by decide) (by decide) rfl rfl ?_
        refine sv_icmp_ne (pc := 68) (tgt := 76) dX12_rest_68 (by decide) (fun h => absurd (by decide) h) (fun _ => ?_)
        refine sv_bipush (pc := 71) (v := (-4)) dX12_rest_71 (by decide) ?_
        refine sv_goto (pc := 73) (tgt := 82) dX12_rest_73 (by decide) ?_
        refine sv_iret (pc := 82) dX12_rest_82 rfl (le_t rfl) (le_t rfl) ?_
        refine sv_icmp_eq (pc := 1748) (tgt := 1799) dL_law_1748 (by decide) (fun _ => ?_) (fun h => absurd (by decide) h)
        exact kk _ _ _ (le_t rfl) (le_t rfl)
      by_cases q_10 : x2 = 5
      · subst q_10
        refine sw_iaload (pc := 5) (k := 5) (v := .int 1) dX4_figure_5 rfl rfl rfl (by decide) (by decide) rfl rfl ?_
        refine sv_istore_n (pc := 6) dX4_figure_6 rfl (by decide) ?_
        refine sv_iload_n (pc := 7) dX4_figure_7 rfl rfl ?_
        refine sv_if_le (pc := 8) (tgt := 26) dX4_figure_8 (by decide) (fun h => absurd h (by decide)) (fun _ => ?_)
        refine sv_iload_n (pc := 11) dX4_figure_11 rfl rfl ?_
        refine sv_iload_n (pc := 12) dX4_figure_12 rfl rfl ?_
        refine sw_idiv (pc := 13) (v := 0) dX4_figure_13 (by decide) (by decide) ?_
        refine sv_aload_n (pc := 14) dX4_figure_14 rfl rfl ?_
        refine sw_getfield (pc := 15) dX4_figure_15 (gCX4 _ _ _ _ _) 12 (by decide) wF_X4_11 rfl rfl rfl ?_
        refine sv_iload_n (pc := 18) dX4_figure_18 rfl rfl ?_
        refine sw_iaload (pc := 19) (k := 5) (v := .int 0) dX4_figure_19 rfl rfl rfl (by decide) (by decide) rfl rfl ?_
        refine sv_iconst (pc := 20) (v := 1) dX4_figure_20 (by decide) ?_
        refine sw_iadd (pc := 21) (v := 1) dX4_figure_21 (by decide) ?_
        refine sw_irem (pc := 22) (v := 0) dX4_figure_22 (by decide) (by decide) ?_
        refine sv_goto (pc := 23) (tgt := 27) dX4_figure_23 (by decide) ?_
        refine sv_iret (pc := 27) dX4_figure_27 rfl (le_t rfl) (le_t rfl) ?_
        refine sv_istore_n (pc := 11) dX4_wayInRest_11 rfl (by decide) ?_
        refine sv_iload_n (pc := 12) dX4_wayInRest_12 rfl rfl ?_
        refine sv_aload_n (pc := 13) dX4_wayInRest_13 rfl rfl ?_
        refine sw_getfield (pc := 14) dX4_wayInRest_14 (gCX4 _ _ _ _ _) 12 (by decide) wF_X4_11 rfl rfl rfl ?_
        refine sv_iload_n (pc := 17) dX4_wayInRest_17 rfl rfl ?_
        refine sw_iaload (pc := 18) (k := 5) (v := .int 0) dX4_wayInRest_18 rfl rfl rfl (by decide) (by decide) rfl rfl ?_
        refine sv_icmp_ne (pc := 19) (tgt := 27) dX4_wayInRest_19 (by decide) (fun h => absurd (by decide) h) (fun _ => ?_)
        refine sv_bipush (pc := 22) (v := (-4)) dX4_wayInRest_22 (by decide) ?_
        refine sv_goto (pc := 24) (tgt := 28) dX4_wayInRest_24 (by decide) ?_
        refine sv_iret (pc := 28) dX4_wayInRest_28 rfl (le_t rfl) (le_t rfl) ?_
        refine sv_iret (pc := 44) dX11_rest_44 rfl (le_t rfl) (le_t rfl) ?_
        refine sv_aload_n (pc := 1734) dL_law_1734 rfl rfl ?_
        refine sv_aload_nS (pc := 1735) dL_law_1735 rfl rfl ?_
        refine sv_iload_n (pc := 1736) dL_law_1736 rfl rfl ?_
        refine sv_iconst (pc := 1737) (v := 1) dL_law_1737 (by decide) ?_
        refine sw_iadd (pc := 1738) (v := 1) dL_law_1738 (by decide) ?_
        refine sw_sld (pc := 1739) (v := 0) dL_law_1739 (k := 1) (by decide) (by decide) rfl hx1 ?_
        refine sv_aload_nS (pc := 1740) dL_law_1740 rfl rfl ?_
        refine sv_iload_n (pc := 1741) dL_law_1741 rfl rfl ?_
        refine sv_iconst (pc := 1742) (v := 2) dL_law_1742 (by decide) ?_
        refine sw_iadd (pc := 1743) (v := 2) dL_law_1743 (by decide) ?_
        refine sw_sld (pc := 1744) (v := 5) dL_law_1744 (k := 2) (by decide) (by decide) rfl hx2 ?_
        refine sv_callV (pc := 1745) (M' := mX12_rest) (d' := 20) (C' := 0) (S' := 0) (av := [.int 0, .int 5]) ?_ (gOk _ _ _ _ _) dL_law_1745 (tX12_rest _ _ _ _ _) ⟨wV_X12_rest, wL_X12_rest⟩ wM_DomainHouseLaw_206 (gCX12 _ _ _ _ _) rfl (lt_t rfl) rfl ⟨le_t rfl, le_t rfl⟩ ⟨le_t rfl, le_t rfl⟩ rfl (le_t rfl) (fun _ _ h => h)
        refine sC.of rfl (by decide) (le_t rfl) ?_
        refine sv_iload_n (pc := 0) dX12_rest_0 rfl rfl ?_
        refine sv_if_lt (pc := 1) (tgt := 14) dX12_rest_1 (by decide) (fun h => absurd h (by decide)) (fun _ => ?_)
        refine sv_iload_n (pc := 4) dX12_rest_4 rfl rfl ?_
        refine sv_iconst (pc := 5) (v := 1) dX12_rest_5 (by decide) ?_
        refine sv_bipush (pc := 6) (v := 6) dX12_rest_6 (by decide) ?_
        refine sv_callS (pc := 8) (M' := mX12_in) (d' := 19) (C' := 0) (S' := 0) (av := [.int 5, .int 1, .int 6]) ?_ (gOk _ _ _ _ _) dX12_rest_8 (tX12_in _ _ _ _ _) wS_X12_in wM_X12_18 ⟨le_t rfl, le_t rfl⟩ ⟨le_t rfl, le_t rfl⟩ rfl (le_t rfl) (fun _ _ h => h)
        refine sC.of rfl (by decide) (le_t rfl) ?_
        refine sv_iload_n (pc := 0) dX12_in_0 rfl rfl ?_
        refine sv_iload_n (pc := 1) dX12_in_1 rfl rfl ?_
        refine sv_icmp_lt (pc := 2) (tgt := 14) dX12_in_2 (by decide) (fun h => absurd h (by decide)) (fun _ => ?_)
        refine sv_iload_n (pc := 5) dX12_in_5 rfl rfl ?_
        refine sv_iload_n (pc := 6) dX12_in_6 rfl rfl ?_
        refine sv_icmp_gt (pc := 7) (tgt := 14) dX12_in_7 (by decide) (fun h => absurd h (by decide)) (fun _ => ?_)
        refine sv_iconst (pc := 10) (v := 1) dX12_in_10 (by decide) ?_
        refine sv_goto (pc := 11) (tgt := 15) dX12_in_11 (by decide) ?_
        refine sv_zret (pc := 15) dX12_in_15 rfl (by decide) (le_t rfl) (le_t rfl) ?_
        refine sv_if_ne (pc := 11) (tgt := 16) dX12_rest_11 (by decide) (fun _ => ?_) (fun h => absurd h (by decide))
        refine sv_aload_n (pc := 16) dX12_rest_16 rfl rfl ?_
        refine sv_callV (pc := 17) (M' := mX12_states) (d' := 19) (C' := 0) (S' := 0) (av := []) ?_ (gOk _ _ _ _ _) dX12_rest_17 (tX12_states _ _ _ _ _) ⟨wV_X12_states, wL_X12_states⟩ wM_X12_728 (gCX12 _ _ _ _ _) rfl (lt_t rfl) rfl ⟨le_t rfl, le_t rfl⟩ ⟨le_t rfl, le_t rfl⟩ rfl (le_t rfl) (fun _ _ h => h)
        refine sC.of rfl (by decide) (le_t rfl) ?_
        refine sv_iconst (pc := 0) (v := 1) dX12_states_0 (by decide) ?_
        refine sv_istore_n (pc := 1) dX12_states_1 rfl (by decide) ?_
        refine sv_bipush (pc := 2) (v := 6) dX12_states_2 (by decide) ?_
        refine sv_istore_n (pc := 4) dX12_states_4 rfl (by decide) ?_
        refine sv_iload_n (pc := 5) dX12_states_5 rfl rfl ?_
        refine sv_iconst (pc := 6) (v := 1) dX12_states_6 (by decide) ?_
        refine sv_icmp_lt (pc := 7) (tgt := 34) dX12_states_7 (by decide) (fun h => absurd h (by decide)) (fun _ => ?_)
        refine sv_aload_n (pc := 10) dX12_states_10 rfl rfl ?_
        refine sw_getfield (pc := 11) dX12_states_11 (gCX12 _ _ _ _ _) 121 (by decide) wF_X12_523 rfl rfl rfl ?_
        refine sv_iload_n (pc := 14) dX12_states_14 rfl rfl ?_
        refine sv_iload_n (pc := 15) dX12_states_15 rfl rfl ?_
        refine sw_iastore (pc := 16) (k := 6) (v := .int 1) dX12_states_16 rfl rfl rfl (by decide) (by decide) rfl rfl ?_
        refine sv_iload_n (pc := 17) dX12_states_17 rfl rfl ?_
        refine sv_aload_n (pc := 18) dX12_states_18 rfl rfl ?_
        refine sw_getfield (pc := 19) dX12_states_19 (gCX12 _ _ _ _ _) 118 (by decide) wF_X12_514 rfl rfl rfl ?_
        refine sv_iload_n (pc := 22) dX12_states_22 rfl rfl ?_
        refine sw_iaload (pc := 23) (k := 6) (v := .int 0) dX12_states_23 rfl rfl rfl (by decide) (by decide) rfl rfl ?_
        refine sv_iconst (pc := 24) (v := 1) dX12_states_24 (by decide) ?_
        refine sw_iadd (pc := 25) (v := 1) dX12_states_25 (by decide) ?_
        refine sw_imul (pc := 26) (v := 1) dX12_states_26 (by decide) ?_
        refine sv_istore_n (pc := 27) dX12_states_27 rfl (by decide) ?_
        refine sw_iinc (pc := 28) (v := 5) dX12_states_28 rfl (by decide) (by decide) ?_
        refine sv_goto (pc := 31) (tgt := 5) dX12_states_31 (by decide) ?_
        refine sv_iload_n (pc := 5) dX12_states_5 rfl rfl ?_
        refine sv_iconst (pc := 6) (v := 1) dX12_states_6 (by decide) ?_
        refine sv_icmp_lt (pc := 7) (tgt := 34) dX12_states_7 (by decide) (fun h => absurd h (by decide)) (fun _ => ?_)
        refine sv_aload_n (pc := 10) dX12_states_10 rfl rfl ?_
        refine sw_getfield (pc := 11) dX12_states_11 (gCX12 _ _ _ _ _) 121 (by decide) wF_X12_523 rfl rfl rfl ?_
        refine sv_iload_n (pc := 14) dX12_states_14 rfl rfl ?_
        refine sv_iload_n (pc := 15) dX12_states_15 rfl rfl ?_
        refine sw_iastore (pc := 16) (k := 5) (v := .int 1) dX12_states_16 rfl rfl rfl (by decide) (by decide) rfl rfl ?_
        refine sv_iload_n (pc := 17) dX12_states_17 rfl rfl ?_
        refine sv_aload_n (pc := 18) dX12_states_18 rfl rfl ?_
        refine sw_getfield (pc := 19) dX12_states_19 (gCX12 _ _ _ _ _) 118 (by decide) wF_X12_514 rfl rfl rfl ?_
        refine sv_iload_n (pc := 22) dX12_states_22 rfl rfl ?_
        refine sw_iaload (pc := 23) (k := 5) (v := .int 0) dX12_states_23 rfl rfl rfl (by decide) (by decide) rfl rfl ?_
        refine sv_iconst (pc := 24) (v := 1) dX12_states_24 (by decide) ?_
        refine sw_iadd (pc := 25) (v := 1) dX12_states_25 (by decide) ?_
        refine sw_imul (pc := 26) (v := 1) dX12_states_26 (by decide) ?_
        refine sv_istore_n (pc := 27) dX12_states_27 rfl (by decide) ?_
        refine sw_iinc (pc := 28) (v := 4) dX12_states_28 rfl (by decide) (by decide) ?_
        refine sv_goto (pc := 31) (tgt := 5) dX12_states_31 (by decide) ?_
        refine sv_iload_n (pc := 5) dX12_states_5 rfl rfl ?_
        refine sv_iconst (pc := 6) (v := 1) dX12_states_6 (by decide) ?_
        refine sv_icmp_lt (pc := 7) (tgt := 34) dX12_states_7 (by decide) (fun h => absurd h (by decide)) (fun _ => ?_)
        refine sv_aload_n (pc := 10) dX12_states_10 rfl rfl ?_
        refine sw_getfield (pc := 11) dX12_states_11 (gCX12 _ _ _ _ _) 121 (by decide) wF_X12_523 rfl rfl rfl ?_
        refine sv_iload_n (pc := 14) dX12_states_14 rfl rfl ?_
        refine sv_iload_n (pc := 15) dX12_states_15 rfl rfl ?_
        refine sw_iastore (pc := 16) (k := 4) (v := .int 1) dX12_states_16 rfl rfl rfl (by decide) (by decide) rfl rfl ?_
        refine sv_iload_n (pc := 17) dX12_states_17 rfl rfl ?_
        refine sv_aload_n (pc := 18) dX12_states_18 rfl rfl ?_
        refine sw_getfield (pc := 19) dX12_states_19 (gCX12 _ _ _ _ _) 118 (by decide) wF_X12_514 rfl rfl rfl ?_
        refine sv_iload_n (pc := 22) dX12_states_22 rfl rfl ?_
        refine sw_iaload (pc := 23) (k := 4) (v := .int 0) dX12_states_23 rfl rfl rfl (by decide) (by decide) rfl rfl ?_
        refine sv_iconst (pc := 24) (v := 1) dX12_states_24 (by decide) ?_
        refine sw_iadd (pc := 25) (v := 1) dX12_states_25 (by decide) ?_
        refine sw_imul (pc := 26) (v := 1) dX12_states_26 (by decide) ?_
        refine sv_istore_n (pc := 27) dX12_states_27 rfl (by decide) ?_
        refine sw_iinc (pc := 28) (v := 3) dX12_states_28 rfl (by decide) (by decide) ?_
        refine sv_lvG (pc := 31) (lv' := [(0, .ref 106), (1, .int 1), (2, .int 3)]) (List.forall_mem_cons.mpr ⟨rfl, List.forall_mem_cons.mpr ⟨rfl, List.forall_mem_cons.mpr ⟨rfl, fun _ h => absurd h List.not_mem_nil⟩⟩⟩) ?_
        refine sv_goto (pc := 31) (tgt := 5) dX12_states_31 (by decide) ?_
        refine sv_iload_n (pc := 5) dX12_states_5 rfl rfl ?_
        refine sv_iconst (pc := 6) (v := 1) dX12_states_6 (by decide) ?_
        refine sv_icmp_lt (pc := 7) (tgt := 34) dX12_states_7 (by decide) (fun h => absurd h (by decide)) (fun _ => ?_)
        refine sv_aload_n (pc := 10) dX12_states_10 rfl rfl ?_
        refine sw_getfield (pc := 11) dX12_states_11 (gCX12 _ _ _ _ _) 121 (by decide) wF_X12_523 rfl rfl rfl ?_
        refine sv_iload_n (pc := 14) dX12_states_14 rfl rfl ?_
        refine sv_iload_n (pc := 15) dX12_states_15 rfl rfl ?_
        refine sw_iastore (pc := 16) (k := 3) (v := .int 1) dX12_states_16 rfl rfl rfl (by decide) (by decide) rfl rfl ?_
        refine sv_iload_n (pc := 17) dX12_states_17 rfl rfl ?_
        refine sv_aload_n (pc := 18) dX12_states_18 rfl rfl ?_
        refine sw_getfield (pc := 19) dX12_states_19 (gCX12 _ _ _ _ _) 118 (by decide) wF_X12_514 rfl rfl rfl ?_
        refine sv_iload_n (pc := 22) dX12_states_22 rfl rfl ?_
        refine sw_iaload (pc := 23) (k := 3) (v := .int 0) dX12_states_23 rfl rfl rfl (by decide) (by decide) rfl rfl ?_
        refine sv_iconst (pc := 24) (v := 1) dX12_states_24 (by decide) ?_
        refine sw_iadd (pc := 25) (v := 1) dX12_states_25 (by decide) ?_
        refine sw_imul (pc := 26) (v := 1) dX12_states_26 (by decide) ?_
        refine sv_istore_n (pc := 27) dX12_states_27 rfl (by decide) ?_
        refine sw_iinc (pc := 28) (v := 2) dX12_states_28 rfl (by decide) (by decide) ?_
        refine sv_goto (pc := 31) (tgt := 5) dX12_states_31 (by decide) ?_
        refine sv_iload_n (pc := 5) dX12_states_5 rfl rfl ?_
        refine sv_iconst (pc := 6) (v := 1) dX12_states_6 (by decide) ?_
        refine sv_icmp_lt (pc := 7) (tgt := 34) dX12_states_7 (by decide) (fun h => absurd h (by decide)) (fun _ => ?_)
        refine sv_aload_n (pc := 10) dX12_states_10 rfl rfl ?_
        refine sw_getfield (pc := 11) dX12_states_11 (gCX12 _ _ _ _ _) 121 (by decide) wF_X12_523 rfl rfl rfl ?_
        refine sv_iload_n (pc := 14) dX12_states_14 rfl rfl ?_
        refine sv_iload_n (pc := 15) dX12_states_15 rfl rfl ?_
        refine sw_iastore (pc := 16) (k := 2) (v := .int 1) dX12_states_16 rfl rfl rfl (by decide) (by decide) rfl rfl ?_
        refine sv_iload_n (pc := 17) dX12_states_17 rfl rfl ?_
        refine sv_aload_n (pc := 18) dX12_states_18 rfl rfl ?_
        refine sw_getfield (pc := 19) dX12_states_19 (gCX12 _ _ _ _ _) 118 (by decide) wF_X12_514 rfl rfl rfl ?_
        refine sv_iload_n (pc := 22) dX12_states_22 rfl rfl ?_
        refine sw_iaload (pc := 23) (k := 2) (v := .int 0) dX12_states_23 rfl rfl rfl (by decide) (by decide) rfl rfl ?_
        refine sv_iconst (pc := 24) (v := 1) dX12_states_24 (by decide) ?_
        refine sw_iadd (pc := 25) (v := 1) dX12_states_25 (by decide) ?_
        refine sw_imul (pc := 26) (v := 1) dX12_states_26 (by decide) ?_
        refine sv_istore_n (pc := 27) dX12_states_27 rfl (by decide) ?_
        refine sw_iinc (pc := 28) (v := 1) dX12_states_28 rfl (by decide) (by decide) ?_
        refine sv_goto (pc := 31) (tgt := 5) dX12_states_31 (by decide) ?_
        refine sv_iload_n (pc := 5) dX12_states_5 rfl rfl ?_
        refine sv_iconst (pc := 6) (v := 1) dX12_states_6 (by decide) ?_
        refine sv_icmp_lt (pc := 7) (tgt := 34) dX12_states_7 (by decide) (fun h => absurd h (by decide)) (fun _ => ?_)
        refine sv_aload_n (pc := 10) dX12_states_10 rfl rfl ?_
        refine sw_getfield (pc := 11) dX12_states_11 (gCX12 _ _ _ _ _) 121 (by decide) wF_X12_523 rfl rfl rfl ?_
        refine sv_iload_n (pc := 14) dX12_states_14 rfl rfl ?_
        refine sv_iload_n (pc := 15) dX12_states_15 rfl rfl ?_
        refine sw_iastore (pc := 16) (k := 1) (v := .int 1) dX12_states_16 rfl rfl rfl (by decide) (by decide) rfl rfl ?_
        refine sv_iload_n (pc := 17) dX12_states_17 rfl rfl ?_
        refine sv_aload_n (pc := 18) dX12_states_18 rfl rfl ?_
        refine sw_getfield (pc := 19) dX12_states_19 (gCX12 _ _ _ _ _) 118 (by decide) wF_X12_514 rfl rfl rfl ?_
        refine sv_iload_n (pc := 22) dX12_states_22 rfl rfl ?_
        refine sw_iaload (pc := 23) (k := 1) (v := .int 0) dX12_states_23 rfl rfl rfl (by decide) (by decide) rfl rfl ?_
        refine sv_iconst (pc := 24) (v := 1) dX12_states_24 (by decide) ?_
        refine sw_iadd (pc := 25) (v := 1) dX12_states_25 (by decide) ?_
        refine sw_imul (pc := 26) (v := 1) dX12_states_26 (by decide) ?_
        refine sv_istore_n (pc := 27) dX12_states_27 rfl (by decide) ?_
        refine sw_iinc (pc := 28) (v := 0) dX12_states_28 rfl (by decide) (by decide) ?_
        refine sv_goto (pc := 31) (tgt := 5) dX12_states_31 (by decide) ?_
        refine sv_iload_n (pc := 5) dX12_states_5 rfl rfl ?_
        refine sv_iconst (pc := 6) (v := 1) dX12_states_6 (by decide) ?_
        refine sv_icmp_lt (pc := 7) (tgt := 34) dX12_states_7 (by decide) (fun _ => ?_) (fun h => absurd (by decide) h)
        refine sv_iload_n (pc := 34) dX12_states_34 rfl rfl ?_
        refine sv_iret (pc := 35) dX12_states_35 rfl (le_t rfl) (le_t rfl) ?_
        refine sv_istore_n (pc := 20) dX12_rest_20 rfl (by decide) ?_
        refine sv_iload_n (pc := 21) dX12_rest_21 rfl rfl ?_
        refine sv_istore (pc := 22) dX12_rest_22 (by decide) ?_
        refine sv_iconst (pc := 24) (v := 0) dX12_rest_24 (by decide) ?_
        refine sv_istore (pc := 25) dX12_rest_25 (by decide) ?_
        refine sv_iload (pc := 27) dX12_rest_27 rfl ?_
        refine sv_iload_n (pc := 29) dX12_rest_29 rfl rfl ?_
        refine sv_icmp_ge (pc := 30) (tgt := 92) dX12_rest_30 (by decide) (fun h => absurd h (by decide)) (fun _ => ?_)
        refine sv_aload_n (pc := 33) dX12_rest_33 rfl rfl ?_
        refine sv_iload (pc := 34) dX12_rest_34 rfl ?_
        refine sv_callV (pc := 36) (M' := mX12_isRest) (d' := 19) (C' := 0) (S' := 0) (av := [.int 0]) ?_ (gOk _ _ _ _ _) dX12_rest_36 (tX12_isRest _ _ _ _ _) ⟨wV_X12_isRest, wL_X12_isRest⟩ wM_X12_731 (gCX12 _ _ _ _ _) rfl (lt_t rfl) rfl ⟨le_t rfl, le_t rfl⟩ ⟨le_t rfl, le_t rfl⟩ rfl (le_t rfl) (fun _ _ h => h)
        refine sC.of rfl (by decide) (le_t rfl) ?_
        refine sv_aload_n (pc := 0) dX12_isRest_0 rfl rfl ?_
        refine sv_iload_n (pc := 1) dX12_isRest_1 rfl rfl ?_
        refine sv_callV (pc := 2) (M' := mX12_open) (d' := 18) (C' := 0) (S' := 0) (av := [.int 0]) ?_ (gOk _ _ _ _ _) dX12_isRest_2 (tX12_open _ _ _ _ _) ⟨wV_X12_open, wL_X12_open⟩ wM_X12_722 (gCX12 _ _ _ _ _) rfl (lt_t rfl) rfl ⟨le_t rfl, le_t rfl⟩ ⟨le_t rfl, le_t rfl⟩ rfl (le_t rfl) (fun _ _ h => h)
        refine sC.of rfl (by decide) (le_t rfl) ?_
        refine sv_iconst (pc := 0) (v := 1) dX12_open_0 (by decide) ?_
        refine sv_istore_n (pc := 1) dX12_open_1 rfl (by decide) ?_
        refine sv_iload_n (pc := 2) dX12_open_2 rfl rfl ?_
        refine sv_bipush (pc := 3) (v := 6) dX12_open_3 (by decide) ?_
        refine sv_icmp_gt (pc := 5) (tgt := 37) dX12_open_5 (by decide) (fun h => absurd h (by decide)) (fun _ => ?_)
        refine sv_aload_n (pc := 8) dX12_open_8 rfl rfl ?_
        refine sw_getfield (pc := 9) dX12_open_9 (gCX12 _ _ _ _ _) 122 (by decide) wF_X12_526 rfl rfl rfl ?_
        refine sv_iload_n (pc := 12) dX12_open_12 rfl rfl ?_
        refine sv_iload_n (pc := 13) dX12_open_13 rfl rfl ?_
        refine sv_aload_n (pc := 14) dX12_open_14 rfl rfl ?_
        refine sw_getfield (pc := 15) dX12_open_15 (gCX12 _ _ _ _ _) 121 (by decide) wF_X12_523 rfl rfl rfl ?_
        refine sv_iload_n (pc := 18) dX12_open_18 rfl rfl ?_
        refine sw_iaload (pc := 19) (k := 1) (v := .int 1) dX12_open_19 rfl rfl rfl (by decide) (by decide) rfl rfl ?_
        refine sw_idiv (pc := 20) (v := 0) dX12_open_20 (by decide) (by decide) ?_
        refine sv_aload_n (pc := 21) dX12_open_21 rfl rfl ?_
        refine sw_getfield (pc := 22) dX12_open_22 (gCX12 _ _ _ _ _) 118 (by decide) wF_X12_514 rfl rfl rfl ?_
        refine sv_iload_n (pc := 25) dX12_open_25 rfl rfl ?_
        refine sw_iaload (pc := 26) (k := 1) (v := .int 0) dX12_open_26 rfl rfl rfl (by decide) (by decide) rfl rfl ?_
        refine sv_iconst (pc := 27) (v := 1) dX12_open_27 (by decide) ?_
        refine sw_iadd (pc := 28) (v := 1) dX12_open_28 (by decide) ?_
        refine sw_irem (pc := 29) (v := 0) dX12_open_29 (by decide) (by decide) ?_
        refine sw_iastore (pc := 30) (k := 1) (v := .int 0) dX12_open_30 rfl rfl rfl (by decide) (by decide) rfl rfl ?_
        refine sw_iinc (pc := 31) (v := 2) dX12_open_31 rfl (by decide) (by decide) ?_
        refine sv_goto (pc := 34) (tgt := 2) dX12_open_34 (by decide) ?_
        refine sv_iload_n (pc := 2) dX12_open_2 rfl rfl ?_
        refine sv_bipush (pc := 3) (v := 6) dX12_open_3 (by decide) ?_
        refine sv_icmp_gt (pc := 5) (tgt := 37) dX12_open_5 (by decide) (fun h => absurd h (by decide)) (fun _ => ?_)
        refine sv_aload_n (pc := 8) dX12_open_8 rfl rfl ?_
        refine sw_getfield (pc := 9) dX12_open_9 (gCX12 _ _ _ _ _) 122 (by decide) wF_X12_526 rfl rfl rfl ?_
        refine sv_iload_n (pc := 12) dX12_open_12 rfl rfl ?_
        refine sv_iload_n (pc := 13) dX12_open_13 rfl rfl ?_
        refine sv_aload_n (pc := 14) dX12_open_14 rfl rfl ?_
        refine sw_getfield (pc := 15) dX12_open_15 (gCX12 _ _ _ _ _) 121 (by decide) wF_X12_523 rfl rfl rfl ?_
        refine sv_iload_n (pc := 18) dX12_open_18 rfl rfl ?_
        refine sw_iaload (pc := 19) (k := 2) (v := .int 1) dX12_open_19 rfl rfl rfl (by decide) (by decide) rfl rfl ?_
        refine sw_idiv (pc := 20) (v := 0) dX12_open_20 (by decide) (by decide) ?_
        refine sv_aload_n (pc := 21) dX12_open_21 rfl rfl ?_
        refine sw_getfield (pc := 22) dX12_open_22 (gCX12 _ _ _ _ _) 118 (by decide) wF_X12_514 rfl rfl rfl ?_
        refine sv_iload_n (pc := 25) dX12_open_25 rfl rfl ?_
        refine sw_iaload (pc := 26) (k := 2) (v := .int 0) dX12_open_26 rfl rfl rfl (by decide) (by decide) rfl rfl ?_
        refine sv_iconst (pc := 27) (v := 1) dX12_open_27 (by decide) ?_
        refine sw_iadd (pc := 28) (v := 1) dX12_open_28 (by decide) ?_
        refine sw_irem (pc := 29) (v := 0) dX12_open_29 (by decide) (by decide) ?_
        refine sw_iastore (pc := 30) (k := 2) (v := .int 0) dX12_open_30 rfl rfl rfl (by decide) (by decide) rfl rfl ?_
        refine sw_iinc (pc := 31) (v := 3) dX12_open_31 rfl (by decide) (by decide) ?_
        refine sv_goto (pc := 34) (tgt := 2) dX12_open_34 (by decide) ?_
        refine sv_iload_n (pc := 2) dX12_open_2 rfl rfl ?_
        refine sv_bipush (pc := 3) (v := 6) dX12_open_3 (by decide) ?_
        refine sv_icmp_gt (pc := 5) (tgt := 37) dX12_open_5 (by decide) (fun h => absurd h (by decide)) (fun _ => ?_)
        refine sv_aload_n (pc := 8) dX12_open_8 rfl rfl ?_
        refine sw_getfield (pc := 9) dX12_open_9 (gCX12 _ _ _ _ _) 122 (by decide) wF_X12_526 rfl rfl rfl ?_
        refine sv_iload_n (pc := 12) dX12_open_12 rfl rfl ?_
        refine sv_iload_n (pc := 13) dX12_open_13 rfl rfl ?_
        refine sv_aload_n (pc := 14) dX12_open_14 rfl rfl ?_
        refine sw_getfield (pc := 15) dX12_open_15 (gCX12 _ _ _ _ _) 121 (by decide) wF_X12_523 rfl rfl rfl ?_
        refine sv_iload_n (pc := 18) dX12_open_18 rfl rfl ?_
        refine sw_iaload (pc := 19) (k := 3) (v := .int 1) dX12_open_19 rfl rfl rfl (by decide) (by decide) rfl rfl ?_
        refine sw_idiv (pc := 20) (v := 0) dX12_open_20 (by decide) (by decide) ?_
        refine sv_aload_n (pc := 21) dX12_open_21 rfl rfl ?_
        refine sw_getfield (pc := 22) dX12_open_22 (gCX12 _ _ _ _ _) 118 (by decide) wF_X12_514 rfl rfl rfl ?_
        refine sv_iload_n (pc := 25) dX12_open_25 rfl rfl ?_
        refine sw_iaload (pc := 26) (k := 3) (v := .int 0) dX12_open_26 rfl rfl rfl (by decide) (by decide) rfl rfl ?_
        refine sv_iconst (pc := 27) (v := 1) dX12_open_27 (by decide) ?_
        refine sw_iadd (pc := 28) (v := 1) dX12_open_28 (by decide) ?_
        refine sw_irem (pc := 29) (v := 0) dX12_open_29 (by decide) (by decide) ?_
        refine sw_iastore (pc := 30) (k := 3) (v := .int 0) dX12_open_30 rfl rfl rfl (by decide) (by decide) rfl rfl ?_
        refine sw_iinc (pc := 31) (v := 4) dX12_open_31 rfl (by decide) (by decide) ?_
        refine sv_goto (pc := 34) (tgt := 2) dX12_open_34 (by decide) ?_
        refine sv_iload_n (pc := 2) dX12_open_2 rfl rfl ?_
        refine sv_bipush (pc := 3) (v := 6) dX12_open_3 (by decide) ?_
        refine sv_icmp_gt (pc := 5) (tgt := 37) dX12_open_5 (by decide) (fun h => absurd h (by decide)) (fun _ => ?_)
        refine sv_aload_n (pc := 8) dX12_open_8 rfl rfl ?_
        refine sw_getfield (pc := 9) dX12_open_9 (gCX12 _ _ _ _ _) 122 (by decide) wF_X12_526 rfl rfl rfl ?_
        refine sv_iload_n (pc := 12) dX12_open_12 rfl rfl ?_
        refine sv_iload_n (pc := 13) dX12_open_13 rfl rfl ?_
        refine sv_aload_n (pc := 14) dX12_open_14 rfl rfl ?_
        refine sw_getfield (pc := 15) dX12_open_15 (gCX12 _ _ _ _ _) 121 (by decide) wF_X12_523 rfl rfl rfl ?_
        refine sv_iload_n (pc := 18) dX12_open_18 rfl rfl ?_
        refine sw_iaload (pc := 19) (k := 4) (v := .int 1) dX12_open_19 rfl rfl rfl (by decide) (by decide) rfl rfl ?_
        refine sw_idiv (pc := 20) (v := 0) dX12_open_20 (by decide) (by decide) ?_
        refine sv_aload_n (pc := 21) dX12_open_21 rfl rfl ?_
        refine sw_getfield (pc := 22) dX12_open_22 (gCX12 _ _ _ _ _) 118 (by decide) wF_X12_514 rfl rfl rfl ?_
        refine sv_iload_n (pc := 25) dX12_open_25 rfl rfl ?_
        refine sw_iaload (pc := 26) (k := 4) (v := .int 0) dX12_open_26 rfl rfl rfl (by decide) (by decide) rfl rfl ?_
        refine sv_iconst (pc := 27) (v := 1) dX12_open_27 (by decide) ?_
        refine sw_iadd (pc := 28) (v := 1) dX12_open_28 (by decide) ?_
        refine sw_irem (pc := 29) (v := 0) dX12_open_29 (by decide) (by decide) ?_
        refine sw_iastore (pc := 30) (k := 4) (v := .int 0) dX12_open_30 rfl rfl rfl (by decide) (by decide) rfl rfl ?_
        refine sw_iinc (pc := 31) (v := 5) dX12_open_31 rfl (by decide) (by decide) ?_
        refine sv_goto (pc := 34) (tgt := 2) dX12_open_34 (by decide) ?_
        refine sv_iload_n (pc := 2) dX12_open_2 rfl rfl ?_
        refine sv_bipush (pc := 3) (v := 6) dX12_open_3 (by decide) ?_
        refine sv_icmp_gt (pc := 5) (tgt := 37) dX12_open_5 (by decide) (fun h => absurd h (by decide)) (fun _ => ?_)
        refine sv_aload_n (pc := 8) dX12_open_8 rfl rfl ?_
        refine sw_getfield (pc := 9) dX12_open_9 (gCX12 _ _ _ _ _) 122 (by decide) wF_X12_526 rfl rfl rfl ?_
        refine sv_iload_n (pc := 12) dX12_open_12 rfl rfl ?_
        refine sv_iload_n (pc := 13) dX12_open_13 rfl rfl ?_
        refine sv_aload_n (pc := 14) dX12_open_14 rfl rfl ?_
        refine sw_getfield (pc := 15) dX12_open_15 (gCX12 _ _ _ _ _) 121 (by decide) wF_X12_523 rfl rfl rfl ?_
        refine sv_iload_n (pc := 18) dX12_open_18 rfl rfl ?_
        refine sw_iaload (pc := 19) (k := 5) (v := .int 1) dX12_open_19 rfl rfl rfl (by decide) (by decide) rfl rfl ?_
        refine sw_idiv (pc := 20) (v := 0) dX12_open_20 (by decide) (by decide) ?_
        refine sv_aload_n (pc := 21) dX12_open_21 rfl rfl ?_
        refine sw_getfield (pc := 22) dX12_open_22 (gCX12 _ _ _ _ _) 118 (by decide) wF_X12_514 rfl rfl rfl ?_
        refine sv_iload_n (pc := 25) dX12_open_25 rfl rfl ?_
        refine sw_iaload (pc := 26) (k := 5) (v := .int 0) dX12_open_26 rfl rfl rfl (by decide) (by decide) rfl rfl ?_
        refine sv_iconst (pc := 27) (v := 1) dX12_open_27 (by decide) ?_
        refine sw_iadd (pc := 28) (v := 1) dX12_open_28 (by decide) ?_
        refine sw_irem (pc := 29) (v := 0) dX12_open_29 (by decide) (by decide) ?_
        refine sw_iastore (pc := 30) (k := 5) (v := .int 0) dX12_open_30 rfl rfl rfl (by decide) (by decide) rfl rfl ?_
        refine sw_iinc (pc := 31) (v := 6) dX12_open_31 rfl (by decide) (by decide) ?_
        refine sv_goto (pc := 34) (tgt := 2) dX12_open_34 (by decide) ?_
        refine sv_iload_n (pc := 2) dX12_open_2 rfl rfl ?_
        refine sv_bipush (pc := 3) (v := 6) dX12_open_3 (by decide) ?_
        refine sv_icmp_gt (pc := 5) (tgt := 37) dX12_open_5 (by decide) (fun h => absurd h (by decide)) (fun _ => ?_)
        refine sv_aload_n (pc := 8) dX12_open_8 rfl rfl ?_
        refine sw_getfield (pc := 9) dX12_open_9 (gCX12 _ _ _ _ _) 122 (by decide) wF_X12_526 rfl rfl rfl ?_
        refine sv_iload_n (pc := 12) dX12_open_12 rfl rfl ?_
        refine sv_iload_n (pc := 13) dX12_open_13 rfl rfl ?_
        refine sv_aload_n (pc := 14) dX12_open_14 rfl rfl ?_
        refine sw_getfield (pc := 15) dX12_open_15 (gCX12 _ _ _ _ _) 121 (by decide) wF_X12_523 rfl rfl rfl ?_
        refine sv_iload_n (pc := 18) dX12_open_18 rfl rfl ?_
        refine sw_iaload (pc := 19) (k := 6) (v := .int 1) dX12_open_19 rfl rfl rfl (by decide) (by decide) rfl rfl ?_
        refine sw_idiv (pc := 20) (v := 0) dX12_open_20 (by decide) (by decide) ?_
        refine sv_aload_n (pc := 21) dX12_open_21 rfl rfl ?_
        refine sw_getfield (pc := 22) dX12_open_22 (gCX12 _ _ _ _ _) 118 (by decide) wF_X12_514 rfl rfl rfl ?_
        refine sv_iload_n (pc := 25) dX12_open_25 rfl rfl ?_
        refine sw_iaload (pc := 26) (k := 6) (v := .int 0) dX12_open_26 rfl rfl rfl (by decide) (by decide) rfl rfl ?_
        refine sv_iconst (pc := 27) (v := 1) dX12_open_27 (by decide) ?_
        refine sw_iadd (pc := 28) (v := 1) dX12_open_28 (by decide) ?_
        refine sw_irem (pc := 29) (v := 0) dX12_open_29 (by decide) (by decide) ?_
        refine sw_iastore (pc := 30) (k := 6) (v := .int 0) dX12_open_30 rfl rfl rfl (by decide) (by decide) rfl rfl ?_
        refine sw_iinc (pc := 31) (v := 7) dX12_open_31 rfl (by decide) (by decide) ?_
        refine sv_goto (pc := 34) (tgt := 2) dX12_open_34 (by decide) ?_
        refine sv_iload_n (pc := 2) dX12_open_2 rfl rfl ?_
        refine sv_bipush (pc := 3) (v := 6) dX12_open_3 (by decide) ?_
        refine sv_icmp_gt (pc := 5) (tgt := 37) dX12_open_5 (by decide) (fun _ => ?_) (fun h => absurd (by decide) h)
        refine sv_vret (pc := 37) dX12_open_37 rfl (le_t rfl) (le_t rfl) ?_
        refine sv_iconst (pc := 5) (v := 1) dX12_isRest_5 (by decide) ?_
        refine sv_istore_n (pc := 6) dX12_isRest_6 rfl (by decide) ?_
        refine sv_iconst (pc := 7) (v := 1) dX12_isRest_7 (by decide) ?_
        refine sv_istore_n (pc := 8) dX12_isRest_8 rfl (by decide) ?_
        refine sv_iload_n (pc := 9) dX12_isRest_9 rfl rfl ?_
        refine sv_bipush (pc := 10) (v := 6) dX12_isRest_10 (by decide) ?_
        refine sv_icmp_gt (pc := 12) (tgt := 45) dX12_isRest_12 (by decide) (fun h => absurd h (by decide)) (fun _ => ?_)
        refine sv_iload_n (pc := 15) dX12_isRest_15 rfl rfl ?_
        refine sv_if_eq (pc := 16) (tgt := 45) dX12_isRest_16 (by decide) (fun h => absurd h (by decide)) (fun _ => ?_)
        refine sv_aload_n (pc := 19) dX12_isRest_19 rfl rfl ?_
        refine sv_iload_n (pc := 20) dX12_isRest_20 rfl rfl ?_
        refine sv_callV (pc := 21) (M' := mX12_acted) (d' := 18) (C' := 0) (S' := 0) (av := [.int 1]) ?_ (gOk _ _ _ _ _) dX12_isRest_21 (tX12_acted _ _ _ _ _) ⟨wV_X12_acted, wL_X12_acted⟩ wM_X12_725 (gCX12 _ _ _ _ _) rfl (lt_t rfl) rfl ⟨le_t rfl, le_t rfl⟩ ⟨le_t rfl, le_t rfl⟩ rfl (le_t rfl) (fun _ _ h => h)
        refine sC.of rfl (by decide) (le_t rfl) ?_
        refine sv_iconst (pc := 0) (v := 0) dX12_acted_0 (by decide) ?_
        refine sv_istore_n (pc := 1) dX12_acted_1 rfl (by decide) ?_
        refine sv_iload_n (pc := 2) dX12_acted_2 rfl rfl ?_
        refine sv_aload_n (pc := 3) dX12_acted_3 rfl rfl ?_
        refine sw_getfield (pc := 4) dX12_acted_4 (gCX12 _ _ _ _ _) 118 (by decide) wF_X12_514 rfl rfl rfl ?_
        refine sv_iload_n (pc := 7) dX12_acted_7 rfl rfl ?_
        refine sw_iaload (pc := 8) (k := 1) (v := .int 0) dX12_acted_8 rfl rfl rfl (by decide) (by decide) rfl rfl ?_
        refine sv_icmp_ge (pc := 9) (tgt := 32) dX12_acted_9 (by decide) (fun _ => ?_) (fun h => absurd (by decide) h)
        refine sv_aload_n (pc := 32) dX12_acted_32 rfl rfl ?_
        refine sw_getfield (pc := 33) dX12_acted_33 (gCX12 _ _ _ _ _) 118 (by decide) wF_X12_514 rfl rfl rfl ?_
        refine sv_iload_n (pc := 36) dX12_acted_36 rfl rfl ?_
        refine sw_iaload (pc := 37) (k := 1) (v := .int 0) dX12_acted_37 rfl rfl rfl (by decide) (by decide) rfl rfl ?_
        refine sv_iret (pc := 38) dX12_acted_38 rfl (le_t rfl) (le_t rfl) ?_
        refine sv_aload_n (pc := 24) dX12_isRest_24 rfl rfl ?_
        refine sw_getfield (pc := 25) dX12_isRest_25 (gCX12 _ _ _ _ _) 122 (by decide) wF_X12_526 rfl rfl rfl ?_
        refine sv_iload_n (pc := 28) dX12_isRest_28 rfl rfl ?_
        refine sw_iaload (pc := 29) (k := 1) (v := .int 0) dX12_isRest_29 rfl rfl rfl (by decide) (by decide) rfl rfl ?_
        refine sv_icmp_ne (pc := 30) (tgt := 37) dX12_isRest_30 (by decide) (fun h => absurd (by decide) h) (fun _ => ?_)
        refine sv_iconst (pc := 33) (v := 1) dX12_isRest_33 (by decide) ?_
        refine sv_goto (pc := 34) (tgt := 38) dX12_isRest_34 (by decide) ?_
        refine sv_istore_n (pc := 38) dX12_isRest_38 rfl (by decide) ?_
        refine sw_iinc (pc := 39) (v := 2) dX12_isRest_39 rfl (by decide) (by decide) ?_
        refine sv_goto (pc := 42) (tgt := 9) dX12_isRest_42 (by decide) ?_
        refine sv_iload_n (pc := 9) dX12_isRest_9 rfl rfl ?_
        refine sv_bipush (pc := 10) (v := 6) dX12_isRest_10 (by decide) ?_
        refine sv_icmp_gt (pc := 12) (tgt := 45) dX12_isRest_12 (by decide) (fun h => absurd h (by decide)) (fun _ => ?_)
        refine sv_iload_n (pc := 15) dX12_isRest_15 rfl rfl ?_
        refine sv_if_eq (pc := 16) (tgt := 45) dX12_isRest_16 (by decide) (fun h => absurd h (by decide)) (fun _ => ?_)
        refine sv_aload_n (pc := 19) dX12_isRest_19 rfl rfl ?_
        refine sv_iload_n (pc := 20) dX12_isRest_20 rfl rfl ?_
        refine sv_callV (pc := 21) (M' := mX12_acted) (d' := 18) (C' := 0) (S' := 0) (av := [.int 2]) ?_ (gOk _ _ _ _ _) dX12_isRest_21 (tX12_acted _ _ _ _ _) ⟨wV_X12_acted, wL_X12_acted⟩ wM_X12_725 (gCX12 _ _ _ _ _) rfl (lt_t rfl) rfl ⟨le_t rfl, le_t rfl⟩ ⟨le_t rfl, le_t rfl⟩ rfl (le_t rfl) (fun _ _ h => h)
        refine sC.of rfl (by decide) (le_t rfl) ?_
        refine sv_iconst (pc := 0) (v := 0) dX12_acted_0 (by decide) ?_
        refine sv_istore_n (pc := 1) dX12_acted_1 rfl (by decide) ?_
        refine sv_iload_n (pc := 2) dX12_acted_2 rfl rfl ?_
        refine sv_aload_n (pc := 3) dX12_acted_3 rfl rfl ?_
        refine sw_getfield (pc := 4) dX12_acted_4 (gCX12 _ _ _ _ _) 118 (by decide) wF_X12_514 rfl rfl rfl ?_
        refine sv_iload_n (pc := 7) dX12_acted_7 rfl rfl ?_
        refine sw_iaload (pc := 8) (k := 2) (v := .int 0) dX12_acted_8 rfl rfl rfl (by decide) (by decide) rfl rfl ?_
        refine sv_icmp_ge (pc := 9) (tgt := 32) dX12_acted_9 (by decide) (fun _ => ?_) (fun h => absurd (by decide) h)
        refine sv_aload_n (pc := 32) dX12_acted_32 rfl rfl ?_
        refine sw_getfield (pc := 33) dX12_acted_33 (gCX12 _ _ _ _ _) 118 (by decide) wF_X12_514 rfl rfl rfl ?_
        refine sv_iload_n (pc := 36) dX12_acted_36 rfl rfl ?_
        refine sw_iaload (pc := 37) (k := 2) (v := .int 0) dX12_acted_37 rfl rfl rfl (by decide) (by decide) rfl rfl ?_
        refine sv_iret (pc := 38) dX12_acted_38 rfl (le_t rfl) (le_t rfl) ?_
        refine sv_aload_n (pc := 24) dX12_isRest_24 rfl rfl ?_
        refine sw_getfield (pc := 25) dX12_isRest_25 (gCX12 _ _ _ _ _) 122 (by decide) wF_X12_526 rfl rfl rfl ?_
        refine sv_iload_n (pc := 28) dX12_isRest_28 rfl rfl ?_
        refine sw_iaload (pc := 29) (k := 2) (v := .int 0) dX12_isRest_29 rfl rfl rfl (by decide) (by decide) rfl rfl ?_
        refine sv_icmp_ne (pc := 30) (tgt := 37) dX12_isRest_30 (by decide) (fun h => absurd (by decide) h) (fun _ => ?_)
        refine sv_iconst (pc := 33) (v := 1) dX12_isRest_33 (by decide) ?_
        refine sv_goto (pc := 34) (tgt := 38) dX12_isRest_34 (by decide) ?_
        refine sv_istore_n (pc := 38) dX12_isRest_38 rfl (by decide) ?_
        refine sw_iinc (pc := 39) (v := 3) dX12_isRest_39 rfl (by decide) (by decide) ?_
        refine sv_goto (pc := 42) (tgt := 9) dX12_isRest_42 (by decide) ?_
        refine sv_iload_n (pc := 9) dX12_isRest_9 rfl rfl ?_
        refine sv_bipush (pc := 10) (v := 6) dX12_isRest_10 (by decide) ?_
        refine sv_icmp_gt (pc := 12) (tgt := 45) dX12_isRest_12 (by decide) (fun h => absurd h (by decide)) (fun _ => ?_)
        refine sv_iload_n (pc := 15) dX12_isRest_15 rfl rfl ?_
        refine sv_if_eq (pc := 16) (tgt := 45) dX12_isRest_16 (by decide) (fun h => absurd h (by decide)) (fun _ => ?_)
        refine sv_aload_n (pc := 19) dX12_isRest_19 rfl rfl ?_
        refine sv_iload_n (pc := 20) dX12_isRest_20 rfl rfl ?_
        refine sv_callV (pc := 21) (M' := mX12_acted) (d' := 18) (C' := 0) (S' := 0) (av := [.int 3]) ?_ (gOk _ _ _ _ _) dX12_isRest_21 (tX12_acted _ _ _ _ _) ⟨wV_X12_acted, wL_X12_acted⟩ wM_X12_725 (gCX12 _ _ _ _ _) rfl (lt_t rfl) rfl ⟨le_t rfl, le_t rfl⟩ ⟨le_t rfl, le_t rfl⟩ rfl (le_t rfl) (fun _ _ h => h)
        refine sC.of rfl (by decide) (le_t rfl) ?_
        refine sv_iconst (pc := 0) (v := 0) dX12_acted_0 (by decide) ?_
        refine sv_istore_n (pc := 1) dX12_acted_1 rfl (by decide) ?_
        refine sv_iload_n (pc := 2) dX12_acted_2 rfl rfl ?_
        refine sv_aload_n (pc := 3) dX12_acted_3 rfl rfl ?_
        refine sw_getfield (pc := 4) dX12_acted_4 (gCX12 _ _ _ _ _) 118 (by decide) wF_X12_514 rfl rfl rfl ?_
        refine sv_iload_n (pc := 7) dX12_acted_7 rfl rfl ?_
        refine sw_iaload (pc := 8) (k := 3) (v := .int 0) dX12_acted_8 rfl rfl rfl (by decide) (by decide) rfl rfl ?_
        refine sv_icmp_ge (pc := 9) (tgt := 32) dX12_acted_9 (by decide) (fun _ => ?_) (fun h => absurd (by decide) h)
        refine sv_aload_n (pc := 32) dX12_acted_32 rfl rfl ?_
        refine sw_getfield (pc := 33) dX12_acted_33 (gCX12 _ _ _ _ _) 118 (by decide) wF_X12_514 rfl rfl rfl ?_
        refine sv_iload_n (pc := 36) dX12_acted_36 rfl rfl ?_
        refine sw_iaload (pc := 37) (k := 3) (v := .int 0) dX12_acted_37 rfl rfl rfl (by decide) (by decide) rfl rfl ?_
        refine sv_iret (pc := 38) dX12_acted_38 rfl (le_t rfl) (le_t rfl) ?_
        refine sv_aload_n (pc := 24) dX12_isRest_24 rfl rfl ?_
        refine sw_getfield (pc := 25) dX12_isRest_25 (gCX12 _ _ _ _ _) 122 (by decide) wF_X12_526 rfl rfl rfl ?_
        refine sv_iload_n (pc := 28) dX12_isRest_28 rfl rfl ?_
        refine sw_iaload (pc := 29) (k := 3) (v := .int 0) dX12_isRest_29 rfl rfl rfl (by decide) (by decide) rfl rfl ?_
        refine sv_icmp_ne (pc := 30) (tgt := 37) dX12_isRest_30 (by decide) (fun h => absurd (by decide) h) (fun _ => ?_)
        refine sv_iconst (pc := 33) (v := 1) dX12_isRest_33 (by decide) ?_
        refine sv_goto (pc := 34) (tgt := 38) dX12_isRest_34 (by decide) ?_
        refine sv_istore_n (pc := 38) dX12_isRest_38 rfl (by decide) ?_
        refine sw_iinc (pc := 39) (v := 4) dX12_isRest_39 rfl (by decide) (by decide) ?_
        refine sv_lvG (pc := 42) (lv' := [(0, .ref 106), (1, .int 0), (2, .int 1), (3, .int 4)]) (List.forall_mem_cons.mpr ⟨rfl, List.forall_mem_cons.mpr ⟨rfl, List.forall_mem_cons.mpr ⟨rfl, List.forall_mem_cons.mpr ⟨rfl, fun _ h => absurd h List.not_mem_nil⟩⟩⟩⟩) ?_
        refine sv_goto (pc := 42) (tgt := 9) dX12_isRest_42 (by decide) ?_
        refine sv_iload_n (pc := 9) dX12_isRest_9 rfl rfl ?_
        refine sv_bipush (pc := 10) (v := 6) dX12_isRest_10 (by decide) ?_
        refine sv_icmp_gt (pc := 12) (tgt := 45) dX12_isRest_12 (by decide) (fun h => absurd h (by decide)) (fun _ => ?_)
        refine sv_iload_n (pc := 15) dX12_isRest_15 rfl rfl ?_
        refine sv_if_eq (pc := 16) (tgt := 45) dX12_isRest_16 (by decide) (fun h => absurd h (by decide)) (fun _ => ?_)
        refine sv_aload_n (pc := 19) dX12_isRest_19 rfl rfl ?_
        refine sv_iload_n (pc := 20) dX12_isRest_20 rfl rfl ?_
        refine sv_callV (pc := 21) (M' := mX12_acted) (d' := 18) (C' := 0) (S' := 0) (av := [.int 4]) ?_ (gOk _ _ _ _ _) dX12_isRest_21 (tX12_acted _ _ _ _ _) ⟨wV_X12_acted, wL_X12_acted⟩ wM_X12_725 (gCX12 _ _ _ _ _) rfl (lt_t rfl) rfl ⟨le_t rfl, le_t rfl⟩ ⟨le_t rfl, le_t rfl⟩ rfl (le_t rfl) (fun _ _ h => h)
        refine sC.of rfl (by decide) (le_t rfl) ?_
        refine sv_iconst (pc := 0) (v := 0) dX12_acted_0 (by decide) ?_
        refine sv_istore_n (pc := 1) dX12_acted_1 rfl (by decide) ?_
        refine sv_iload_n (pc := 2) dX12_acted_2 rfl rfl ?_
        refine sv_aload_n (pc := 3) dX12_acted_3 rfl rfl ?_
        refine sw_getfield (pc := 4) dX12_acted_4 (gCX12 _ _ _ _ _) 118 (by decide) wF_X12_514 rfl rfl rfl ?_
        refine sv_iload_n (pc := 7) dX12_acted_7 rfl rfl ?_
        refine sw_iaload (pc := 8) (k := 4) (v := .int 0) dX12_acted_8 rfl rfl rfl (by decide) (by decide) rfl rfl ?_
        refine sv_icmp_ge (pc := 9) (tgt := 32) dX12_acted_9 (by decide) (fun _ => ?_) (fun h => absurd (by decide) h)
        refine sv_aload_n (pc := 32) dX12_acted_32 rfl rfl ?_
        refine sw_getfield (pc := 33) dX12_acted_33 (gCX12 _ _ _ _ _) 118 (by decide) wF_X12_514 rfl rfl rfl ?_
        refine sv_iload_n (pc := 36) dX12_acted_36 rfl rfl ?_
        refine sw_iaload (pc := 37) (k := 4) (v := .int 0) dX12_acted_37 rfl rfl rfl (by decide) (by decide) rfl rfl ?_
        refine sv_iret (pc := 38) dX12_acted_38 rfl (le_t rfl) (le_t rfl) ?_
        refine sv_aload_n (pc := 24) dX12_isRest_24 rfl rfl ?_
        refine sw_getfield (pc := 25) dX12_isRest_25 (gCX12 _ _ _ _ _) 122 (by decide) wF_X12_526 rfl rfl rfl ?_
        refine sv_iload_n (pc := 28) dX12_isRest_28 rfl rfl ?_
        refine sw_iaload (pc := 29) (k := 4) (v := .int 0) dX12_isRest_29 rfl rfl rfl (by decide) (by decide) rfl rfl ?_
        refine sv_icmp_ne (pc := 30) (tgt := 37) dX12_isRest_30 (by decide) (fun h => absurd (by decide) h) (fun _ => ?_)
        refine sv_iconst (pc := 33) (v := 1) dX12_isRest_33 (by decide) ?_
        refine sv_goto (pc := 34) (tgt := 38) dX12_isRest_34 (by decide) ?_
        refine sv_istore_n (pc := 38) dX12_isRest_38 rfl (by decide) ?_
        refine sw_iinc (pc := 39) (v := 5) dX12_isRest_39 rfl (by decide) (by decide) ?_
        refine sv_goto (pc := 42) (tgt := 9) dX12_isRest_42 (by decide) ?_
        refine sv_iload_n (pc := 9) dX12_isRest_9 rfl rfl ?_
        refine sv_bipush (pc := 10) (v := 6) dX12_isRest_10 (by decide) ?_
        refine sv_icmp_gt (pc := 12) (tgt := 45) dX12_isRest_12 (by decide) (fun h => absurd h (by decide)) (fun _ => ?_)
        refine sv_iload_n (pc := 15) dX12_isRest_15 rfl rfl ?_
        refine sv_if_eq (pc := 16) (tgt := 45) dX12_isRest_16 (by decide) (fun h => absurd h (by decide)) (fun _ => ?_)
        refine sv_aload_n (pc := 19) dX12_isRest_19 rfl rfl ?_
        refine sv_iload_n (pc := 20) dX12_isRest_20 rfl rfl ?_
        refine sv_callV (pc := 21) (M' := mX12_acted) (d' := 18) (C' := 0) (S' := 0) (av := [.int 5]) ?_ (gOk _ _ _ _ _) dX12_isRest_21 (tX12_acted _ _ _ _ _) ⟨wV_X12_acted, wL_X12_acted⟩ wM_X12_725 (gCX12 _ _ _ _ _) rfl (lt_t rfl) rfl ⟨le_t rfl, le_t rfl⟩ ⟨le_t rfl, le_t rfl⟩ rfl (le_t rfl) (fun _ _ h => h)
        refine sC.of rfl (by decide) (le_t rfl) ?_
        refine sv_iconst (pc := 0) (v := 0) dX12_acted_0 (by decide) ?_
        refine sv_istore_n (pc := 1) dX12_acted_1 rfl (by decide) ?_
        refine sv_iload_n (pc := 2) dX12_acted_2 rfl rfl ?_
        refine sv_aload_n (pc := 3) dX12_acted_3 rfl rfl ?_
        refine sw_getfield (pc := 4) dX12_acted_4 (gCX12 _ _ _ _ _) 118 (by decide) wF_X12_514 rfl rfl rfl ?_
        refine sv_iload_n (pc := 7) dX12_acted_7 rfl rfl ?_
        refine sw_iaload (pc := 8) (k := 5) (v := .int 0) dX12_acted_8 rfl rfl rfl (by decide) (by decide) rfl rfl ?_
        refine sv_icmp_ge (pc := 9) (tgt := 32) dX12_acted_9 (by decide) (fun _ => ?_) (fun h => absurd (by decide) h)
        refine sv_aload_n (pc := 32) dX12_acted_32 rfl rfl ?_
        refine sw_getfield (pc := 33) dX12_acted_33 (gCX12 _ _ _ _ _) 118 (by decide) wF_X12_514 rfl rfl rfl ?_
        refine sv_iload_n (pc := 36) dX12_acted_36 rfl rfl ?_
        refine sw_iaload (pc := 37) (k := 5) (v := .int 0) dX12_acted_37 rfl rfl rfl (by decide) (by decide) rfl rfl ?_
        refine sv_iret (pc := 38) dX12_acted_38 rfl (le_t rfl) (le_t rfl) ?_
        refine sv_aload_n (pc := 24) dX12_isRest_24 rfl rfl ?_
        refine sw_getfield (pc := 25) dX12_isRest_25 (gCX12 _ _ _ _ _) 122 (by decide) wF_X12_526 rfl rfl rfl ?_
        refine sv_iload_n (pc := 28) dX12_isRest_28 rfl rfl ?_
        refine sw_iaload (pc := 29) (k := 5) (v := .int 0) dX12_isRest_29 rfl rfl rfl (by decide) (by decide) rfl rfl ?_
        refine sv_icmp_ne (pc := 30) (tgt := 37) dX12_isRest_30 (by decide) (fun h => absurd (by decide) h) (fun _ => ?_)
        refine sv_iconst (pc := 33) (v := 1) dX12_isRest_33 (by decide) ?_
        refine sv_goto (pc := 34) (tgt := 38) dX12_isRest_34 (by decide) ?_
        refine sv_istore_n (pc := 38) dX12_isRest_38 rfl (by decide) ?_
        refine sw_iinc (pc := 39) (v := 6) dX12_isRest_39 rfl (by decide) (by decide) ?_
        refine sv_goto (pc := 42) (tgt := 9) dX12_isRest_42 (by decide) ?_
        refine sv_iload_n (pc := 9) dX12_isRest_9 rfl rfl ?_
        refine sv_bipush (pc := 10) (v := 6) dX12_isRest_10 (by decide) ?_
        refine sv_icmp_gt (pc := 12) (tgt := 45) dX12_isRest_12 (by decide) (fun h => absurd h (by decide)) (fun _ => ?_)
        refine sv_iload_n (pc := 15) dX12_isRest_15 rfl rfl ?_
        refine sv_if_eq (pc := 16) (tgt := 45) dX12_isRest_16 (by decide) (fun h => absurd h (by decide)) (fun _ => ?_)
        refine sv_aload_n (pc := 19) dX12_isRest_19 rfl rfl ?_
        refine sv_iload_n (pc := 20) dX12_isRest_20 rfl rfl ?_
        refine sv_callV (pc := 21) (M' := mX12_acted) (d' := 18) (C' := 0) (S' := 0) (av := [.int 6]) ?_ (gOk _ _ _ _ _) dX12_isRest_21 (tX12_acted _ _ _ _ _) ⟨wV_X12_acted, wL_X12_acted⟩ wM_X12_725 (gCX12 _ _ _ _ _) rfl (lt_t rfl) rfl ⟨le_t rfl, le_t rfl⟩ ⟨le_t rfl, le_t rfl⟩ rfl (le_t rfl) (fun _ _ h => h)
        refine sC.of rfl (by decide) (le_t rfl) ?_
        refine sv_iconst (pc := 0) (v := 0) dX12_acted_0 (by decide) ?_
        refine sv_istore_n (pc := 1) dX12_acted_1 rfl (by decide) ?_
        refine sv_iload_n (pc := 2) dX12_acted_2 rfl rfl ?_
        refine sv_aload_n (pc := 3) dX12_acted_3 rfl rfl ?_
        refine sw_getfield (pc := 4) dX12_acted_4 (gCX12 _ _ _ _ _) 118 (by decide) wF_X12_514 rfl rfl rfl ?_
        refine sv_iload_n (pc := 7) dX12_acted_7 rfl rfl ?_
        refine sw_iaload (pc := 8) (k := 6) (v := .int 0) dX12_acted_8 rfl rfl rfl (by decide) (by decide) rfl rfl ?_
        refine sv_icmp_ge (pc := 9) (tgt := 32) dX12_acted_9 (by decide) (fun _ => ?_) (fun h => absurd (by decide) h)
        refine sv_aload_n (pc := 32) dX12_acted_32 rfl rfl ?_
        refine sw_getfield (pc := 33) dX12_acted_33 (gCX12 _ _ _ _ _) 118 (by decide) wF_X12_514 rfl rfl rfl ?_
        refine sv_iload_n (pc := 36) dX12_acted_36 rfl rfl ?_
        refine sw_iaload (pc := 37) (k := 6) (v := .int 0) dX12_acted_37 rfl rfl rfl (by decide) (by decide) rfl rfl ?_
        refine sv_iret (pc := 38) dX12_acted_38 rfl (le_t rfl) (le_t rfl) ?_
        refine sv_aload_n (pc := 24) dX12_isRest_24 rfl rfl ?_
        refine sw_getfield (pc := 25) dX12_isRest_25 (gCX12 _ _ _ _ _) 122 (by decide) wF_X12_526 rfl rfl rfl ?_
        refine sv_iload_n (pc := 28) dX12_isRest_28 rfl rfl ?_
        refine sw_iaload (pc := 29) (k := 6) (v := .int 0) dX12_isRest_29 rfl rfl rfl (by decide) (by decide) rfl rfl ?_
        refine sv_icmp_ne (pc := 30) (tgt := 37) dX12_isRest_30 (by decide) (fun h => absurd (by decide) h) (fun _ => ?_)
        refine sv_iconst (pc := 33) (v := 1) dX12_isRest_33 (by decide) ?_
        refine sv_goto (pc := 34) (tgt := 38) dX12_isRest_34 (by decide) ?_
        refine sv_istore_n (pc := 38) dX12_isRest_38 rfl (by decide) ?_
        refine sw_iinc (pc := 39) (v := 7) dX12_isRest_39 rfl (by decide) (by decide) ?_
        refine sv_goto (pc := 42) (tgt := 9) dX12_isRest_42 (by decide) ?_
        refine sv_iload_n (pc := 9) dX12_isRest_9 rfl rfl ?_
        refine sv_bipush (pc := 10) (v := 6) dX12_isRest_10 (by decide) ?_
        refine sv_icmp_gt (pc := 12) (tgt := 45) dX12_isRest_12 (by decide) (fun _ => ?_) (fun h => absurd (by decide) h)
        refine sv_iload_n (pc := 45) dX12_isRest_45 rfl rfl ?_
        refine sv_zret (pc := 46) dX12_isRest_46 rfl (by decide) (le_t rfl) (le_t rfl) ?_
        refine sv_if_ne (pc := 39) (tgt := 45) dX12_rest_39 (by decide) (fun _ => ?_) (fun h => absurd h (by decide))
        refine sv_iload (pc := 45) dX12_rest_45 rfl ?_
        refine sv_if_ne (pc := 47) (tgt := 83) dX12_rest_47 (by decide) (fun h => absurd (by decide) h) (fun _ => ?_)
        refine sv_aload_n (pc := 50) dX12_rest_50 rfl rfl ?_
        refine sv_iload (pc := 51) dX12_rest_51 rfl ?_
        refine sv_callV (pc := 53) (M' := mX12_open) (d' := 19) (C' := 0) (S' := 0) (av := [.int 0]) ?_ (gOk _ _ _ _ _) dX12_rest_53 (tX12_open _ _ _ _ _) ⟨wV_X12_open, wL_X12_open⟩ wM_X12_722 (gCX12 _ _ _ _ _) rfl (lt_t rfl) rfl ⟨le_t rfl, le_t rfl⟩ ⟨le_t rfl, le_t rfl⟩ rfl (le_t rfl) (fun _ _ h => h)
        refine sC.of rfl (by decide) (le_t rfl) ?_
        refine sv_iconst (pc := 0) (v := 1) dX12_open_0 (by decide) ?_
        refine sv_istore_n (pc := 1) dX12_open_1 rfl (by decide) ?_
        refine sv_iload_n (pc := 2) dX12_open_2 rfl rfl ?_
        refine sv_bipush (pc := 3) (v := 6) dX12_open_3 (by decide) ?_
        refine sv_icmp_gt (pc := 5) (tgt := 37) dX12_open_5 (by decide) (fun h => absurd h (by decide)) (fun _ => ?_)
        refine sv_aload_n (pc := 8) dX12_open_8 rfl rfl ?_
        refine sw_getfield (pc := 9) dX12_open_9 (gCX12 _ _ _ _ _) 122 (by decide) wF_X12_526 rfl rfl rfl ?_
        refine sv_iload_n (pc := 12) dX12_open_12 rfl rfl ?_
        refine sv_iload_n (pc := 13) dX12_open_13 rfl rfl ?_
        refine sv_aload_n (pc := 14) dX12_open_14 rfl rfl ?_
        refine sw_getfield (pc := 15) dX12_open_15 (gCX12 _ _ _ _ _) 121 (by decide) wF_X12_523 rfl rfl rfl ?_
        refine sv_iload_n (pc := 18) dX12_open_18 rfl rfl ?_
        refine sw_iaload (pc := 19) (k := 1) (v := .int 1) dX12_open_19 rfl rfl rfl (by decide) (by decide) rfl rfl ?_
        refine sw_idiv (pc := 20) (v := 0) dX12_open_20 (by decide) (by decide) ?_
        refine sv_aload_n (pc := 21) dX12_open_21 rfl rfl ?_
        refine sw_getfield (pc := 22) dX12_open_22 (gCX12 _ _ _ _ _) 118 (by decide) wF_X12_514 rfl rfl rfl ?_
        refine sv_iload_n (pc := 25) dX12_open_25 rfl rfl ?_
        refine sw_iaload (pc := 26) (k := 1) (v := .int 0) dX12_open_26 rfl rfl rfl (by decide) (by decide) rfl rfl ?_
        refine sv_iconst (pc := 27) (v := 1) dX12_open_27 (by decide) ?_
        refine sw_iadd (pc := 28) (v := 1) dX12_open_28 (by decide) ?_
        refine sw_irem (pc := 29) (v := 0) dX12_open_29 (by decide) (by decide) ?_
        refine sw_iastore (pc := 30) (k := 1) (v := .int 0) dX12_open_30 rfl rfl rfl (by decide) (by decide) rfl rfl ?_
        refine sw_iinc (pc := 31) (v := 2) dX12_open_31 rfl (by decide) (by decide) ?_
        refine sv_goto (pc := 34) (tgt := 2) dX12_open_34 (by decide) ?_
        refine sv_iload_n (pc := 2) dX12_open_2 rfl rfl ?_
        refine sv_bipush (pc := 3) (v := 6) dX12_open_3 (by decide) ?_
        refine sv_icmp_gt (pc := 5) (tgt := 37) dX12_open_5 (by decide) (fun h => absurd h (by decide)) (fun _ => ?_)
        refine sv_aload_n (pc := 8) dX12_open_8 rfl rfl ?_
        refine sw_getfield (pc := 9) dX12_open_9 (gCX12 _ _ _ _ _) 122 (by decide) wF_X12_526 rfl rfl rfl ?_
        refine sv_iload_n (pc := 12) dX12_open_12 rfl rfl ?_
        refine sv_iload_n (pc := 13) dX12_open_13 rfl rfl ?_
        refine sv_aload_n (pc := 14) dX12_open_14 rfl rfl ?_
        refine sw_getfield (pc := 15) dX12_open_15 (gCX12 _ _ _ _ _) 121 (by decide) wF_X12_523 rfl rfl rfl ?_
        refine sv_iload_n (pc := 18) dX12_open_18 rfl rfl ?_
        refine sw_iaload (pc := 19) (k := 2) (v := .int 1) dX12_open_19 rfl rfl rfl (by decide) (by decide) rfl rfl ?_
        refine sw_idiv (pc := 20) (v := 0) dX12_open_20 (by decide) (by decide) ?_
        refine sv_aload_n (pc := 21) dX12_open_21 rfl rfl ?_
        refine sw_getfield (pc := 22) dX12_open_22 (gCX12 _ _ _ _ _) 118 (by decide) wF_X12_514 rfl rfl rfl ?_
        refine sv_iload_n (pc := 25) dX12_open_25 rfl rfl ?_
        refine sw_iaload (pc := 26) (k := 2) (v := .int 0) dX12_open_26 rfl rfl rfl (by decide) (by decide) rfl rfl ?_
        refine sv_iconst (pc := 27) (v := 1) dX12_open_27 (by decide) ?_
        refine sw_iadd (pc := 28) (v := 1) dX12_open_28 (by decide) ?_
        refine sw_irem (pc := 29) (v := 0) dX12_open_29 (by decide) (by decide) ?_
        refine sw_iastore (pc := 30) (k := 2) (v := .int 0) dX12_open_30 rfl rfl rfl (by decide) (by decide) rfl rfl ?_
        refine sw_iinc (pc := 31) (v := 3) dX12_open_31 rfl (by decide) (by decide) ?_
        refine sv_goto (pc := 34) (tgt := 2) dX12_open_34 (by decide) ?_
        refine sv_iload_n (pc := 2) dX12_open_2 rfl rfl ?_
        refine sv_bipush (pc := 3) (v := 6) dX12_open_3 (by decide) ?_
        refine sv_icmp_gt (pc := 5) (tgt := 37) dX12_open_5 (by decide) (fun h => absurd h (by decide)) (fun _ => ?_)
        refine sv_aload_n (pc := 8) dX12_open_8 rfl rfl ?_
        refine sw_getfield (pc := 9) dX12_open_9 (gCX12 _ _ _ _ _) 122 (by decide) wF_X12_526 rfl rfl rfl ?_
        refine sv_iload_n (pc := 12) dX12_open_12 rfl rfl ?_
        refine sv_iload_n (pc := 13) dX12_open_13 rfl rfl ?_
        refine sv_aload_n (pc := 14) dX12_open_14 rfl rfl ?_
        refine sw_getfield (pc := 15) dX12_open_15 (gCX12 _ _ _ _ _) 121 (by decide) wF_X12_523 rfl rfl rfl ?_
        refine sv_iload_n (pc := 18) dX12_open_18 rfl rfl ?_
        refine sw_iaload (pc := 19) (k := 3) (v := .int 1) dX12_open_19 rfl rfl rfl (by decide) (by decide) rfl rfl ?_
        refine sw_idiv (pc := 20) (v := 0) dX12_open_20 (by decide) (by decide) ?_
        refine sv_aload_n (pc := 21) dX12_open_21 rfl rfl ?_
        refine sw_getfield (pc := 22) dX12_open_22 (gCX12 _ _ _ _ _) 118 (by decide) wF_X12_514 rfl rfl rfl ?_
        refine sv_iload_n (pc := 25) dX12_open_25 rfl rfl ?_
        refine sw_iaload (pc := 26) (k := 3) (v := .int 0) dX12_open_26 rfl rfl rfl (by decide) (by decide) rfl rfl ?_
        refine sv_iconst (pc := 27) (v := 1) dX12_open_27 (by decide) ?_
        refine sw_iadd (pc := 28) (v := 1) dX12_open_28 (by decide) ?_
        refine sw_irem (pc := 29) (v := 0) dX12_open_29 (by decide) (by decide) ?_
        refine sw_iastore (pc := 30) (k := 3) (v := .int 0) dX12_open_30 rfl rfl rfl (by decide) (by decide) rfl rfl ?_
        refine sw_iinc (pc := 31) (v := 4) dX12_open_31 rfl (by decide) (by decide) ?_
        refine sv_goto (pc := 34) (tgt := 2) dX12_open_34 (by decide) ?_
        refine sv_iload_n (pc := 2) dX12_open_2 rfl rfl ?_
        refine sv_bipush (pc := 3) (v := 6) dX12_open_3 (by decide) ?_
        refine sv_icmp_gt (pc := 5) (tgt := 37) dX12_open_5 (by decide) (fun h => absurd h (by decide)) (fun _ => ?_)
        refine sv_aload_n (pc := 8) dX12_open_8 rfl rfl ?_
        refine sw_getfield (pc := 9) dX12_open_9 (gCX12 _ _ _ _ _) 122 (by decide) wF_X12_526 rfl rfl rfl ?_
        refine sv_iload_n (pc := 12) dX12_open_12 rfl rfl ?_
        refine sv_iload_n (pc := 13) dX12_open_13 rfl rfl ?_
        refine sv_aload_n (pc := 14) dX12_open_14 rfl rfl ?_
        refine sw_getfield (pc := 15) dX12_open_15 (gCX12 _ _ _ _ _) 121 (by decide) wF_X12_523 rfl rfl rfl ?_
        refine sv_iload_n (pc := 18) dX12_open_18 rfl rfl ?_
        refine sw_iaload (pc := 19) (k := 4) (v := .int 1) dX12_open_19 rfl rfl rfl (by decide) (by decide) rfl rfl ?_
        refine sw_idiv (pc := 20) (v := 0) dX12_open_20 (by decide) (by decide) ?_
        refine sv_aload_n (pc := 21) dX12_open_21 rfl rfl ?_
        refine sw_getfield (pc := 22) dX12_open_22 (gCX12 _ _ _ _ _) 118 (by decide) wF_X12_514 rfl rfl rfl ?_
        refine sv_iload_n (pc := 25) dX12_open_25 rfl rfl ?_
        refine sw_iaload (pc := 26) (k := 4) (v := .int 0) dX12_open_26 rfl rfl rfl (by decide) (by decide) rfl rfl ?_
        refine sv_iconst (pc := 27) (v := 1) dX12_open_27 (by decide) ?_
        refine sw_iadd (pc := 28) (v := 1) dX12_open_28 (by decide) ?_
        refine sw_irem (pc := 29) (v := 0) dX12_open_29 (by decide) (by decide) ?_
        refine sw_iastore (pc := 30) (k := 4) (v := .int 0) dX12_open_30 rfl rfl rfl (by decide) (by decide) rfl rfl ?_
        refine sw_iinc (pc := 31) (v := 5) dX12_open_31 rfl (by decide) (by decide) ?_
        refine sv_goto (pc := 34) (tgt := 2) dX12_open_34 (by decide) ?_
        refine sv_iload_n (pc := 2) dX12_open_2 rfl rfl ?_
        refine sv_bipush (pc := 3) (v := 6) dX12_open_3 (by decide) ?_
        refine sv_icmp_gt (pc := 5) (tgt := 37) dX12_open_5 (by decide) (fun h => absurd h (by decide)) (fun _ => ?_)
        refine sv_aload_n (pc := 8) dX12_open_8 rfl rfl ?_
        refine sw_getfield (pc := 9) dX12_open_9 (gCX12 _ _ _ _ _) 122 (by decide) wF_X12_526 rfl rfl rfl ?_
        refine sv_iload_n (pc := 12) dX12_open_12 rfl rfl ?_
        refine sv_iload_n (pc := 13) dX12_open_13 rfl rfl ?_
        refine sv_aload_n (pc := 14) dX12_open_14 rfl rfl ?_
        refine sw_getfield (pc := 15) dX12_open_15 (gCX12 _ _ _ _ _) 121 (by decide) wF_X12_523 rfl rfl rfl ?_
        refine sv_iload_n (pc := 18) dX12_open_18 rfl rfl ?_
        refine sw_iaload (pc := 19) (k := 5) (v := .int 1) dX12_open_19 rfl rfl rfl (by decide) (by decide) rfl rfl ?_
        refine sw_idiv (pc := 20) (v := 0) dX12_open_20 (by decide) (by decide) ?_
        refine sv_aload_n (pc := 21) dX12_open_21 rfl rfl ?_
        refine sw_getfield (pc := 22) dX12_open_22 (gCX12 _ _ _ _ _) 118 (by decide) wF_X12_514 rfl rfl rfl ?_
        refine sv_iload_n (pc := 25) dX12_open_25 rfl rfl ?_
        refine sw_iaload (pc := 26) (k := 5) (v := .int 0) dX12_open_26 rfl rfl rfl (by decide) (by decide) rfl rfl ?_
        refine sv_iconst (pc := 27) (v := 1) dX12_open_27 (by decide) ?_
        refine sw_iadd (pc := 28) (v := 1) dX12_open_28 (by decide) ?_
        refine sw_irem (pc := 29) (v := 0) dX12_open_29 (by decide) (by decide) ?_
        refine sw_iastore (pc := 30) (k := 5) (v := .int 0) dX12_open_30 rfl rfl rfl (by decide) (by decide) rfl rfl ?_
        refine sw_iinc (pc := 31) (v := 6) dX12_open_31 rfl (by decide) (by decide) ?_
        refine sv_goto (pc := 34) (tgt := 2) dX12_open_34 (by decide) ?_
        refine sv_iload_n (pc := 2) dX12_open_2 rfl rfl ?_
        refine sv_bipush (pc := 3) (v := 6) dX12_open_3 (by decide) ?_
        refine sv_icmp_gt (pc := 5) (tgt := 37) dX12_open_5 (by decide) (fun h => absurd h (by decide)) (fun _ => ?_)
        refine sv_aload_n (pc := 8) dX12_open_8 rfl rfl ?_
        refine sw_getfield (pc := 9) dX12_open_9 (gCX12 _ _ _ _ _) 122 (by decide) wF_X12_526 rfl rfl rfl ?_
        refine sv_iload_n (pc := 12) dX12_open_12 rfl rfl ?_
        refine sv_iload_n (pc := 13) dX12_open_13 rfl rfl ?_
        refine sv_aload_n (pc := 14) dX12_open_14 rfl rfl ?_
        refine sw_getfield (pc := 15) dX12_open_15 (gCX12 _ _ _ _ _) 121 (by decide) wF_X12_523 rfl rfl rfl ?_
        refine sv_iload_n (pc := 18) dX12_open_18 rfl rfl ?_
        refine sw_iaload (pc := 19) (k := 6) (v := .int 1) dX12_open_19 rfl rfl rfl (by decide) (by decide) rfl rfl ?_
        refine sw_idiv (pc := 20) (v := 0) dX12_open_20 (by decide) (by decide) ?_
        refine sv_aload_n (pc := 21) dX12_open_21 rfl rfl ?_
        refine sw_getfield (pc := 22) dX12_open_22 (gCX12 _ _ _ _ _) 118 (by decide) wF_X12_514 rfl rfl rfl ?_
        refine sv_iload_n (pc := 25) dX12_open_25 rfl rfl ?_
        refine sw_iaload (pc := 26) (k := 6) (v := .int 0) dX12_open_26 rfl rfl rfl (by decide) (by decide) rfl rfl ?_
        refine sv_iconst (pc := 27) (v := 1) dX12_open_27 (by decide) ?_
        refine sw_iadd (pc := 28) (v := 1) dX12_open_28 (by decide) ?_
        refine sw_irem (pc := 29) (v := 0) dX12_open_29 (by decide) (by decide) ?_
        refine sw_iastore (pc := 30) (k := 6) (v := .int 0) dX12_open_30 rfl rfl rfl (by decide) (by decide) rfl rfl ?_
        refine sw_iinc (pc := 31) (v := 7) dX12_open_31 rfl (by decide) (by decide) ?_
        refine sv_goto (pc := 34) (tgt := 2) dX12_open_34 (by decide) ?_
        refine sv_iload_n (pc := 2) dX12_open_2 rfl rfl ?_
        refine sv_bipush (pc := 3) (v := 6) dX12_open_3 (by decide) ?_
        refine sv_icmp_gt (pc := 5) (tgt := 37) dX12_open_5 (by decide) (fun _ => ?_) (fun h => absurd (by decide) h)
        refine sv_vret (pc := 37) dX12_open_37 rfl (le_t rfl) (le_t rfl) ?_
        refine sv_aload_n (pc := 56) dX12_rest_56 rfl rfl ?_
        refine sw_getfield (pc := 57) dX12_rest_57 (gCX12 _ _ _ _ _) 122 (by decide) wF_X12_526 rfl rfl rfl ?_
        refine sv_iload_n (pc := 60) dX12_rest_60 rfl rfl ?_
        refine sw_iaload (pc := 61) (k := 5) (v := .int 0) dX12_rest_61 rfl rfl rfl (by decide) (by decide) rfl rfl ?_
        refine sv_aload_n (pc := 62) dX12_rest_62 rfl rfl ?_
        refine sw_getfield (pc := 63) dX12_rest_63 (gCX12 _ _ _ _ _) 118 (by decide) wF_X12_514 rfl rfl rfl ?_
        refine sv_iload_n (pc := 66) dX12_rest_66 rfl rfl ?_
        refine sw_iaload (pc := 67) (k := 5) (v := .int 0) dX12_rest_67 rfl rfl rfl (by decide) (by decide) rfl rfl ?_
        refine sv_icmp_ne (pc := 68) (tgt := 76) dX12_rest_68 (by decide) (fun h => absurd (by decide) h) (fun _ => ?_)
        refine sv_bipush (pc := 71) (v := (-4)) dX12_rest_71 (by decide) ?_
        refine sv_goto (pc := 73) (tgt := 82) dX12_rest_73 (by decide) ?_
        refine sv_iret (pc := 82) dX12_rest_82 rfl (le_t rfl) (le_t rfl) ?_
        refine sv_icmp_eq (pc := 1748) (tgt := 1799) dL_law_1748 (by decide) (fun _ => ?_) (fun h => absurd (by decide) h)
        exact kk _ _ _ (le_t rfl) (le_t rfl)
      by_cases q_11 : x2 = 6
      · subst q_11
        refine sw_iaload (pc := 5) (k := 6) (v := .int 1) dX4_figure_5 rfl rfl rfl (by decide) (by decide) rfl rfl ?_
        refine sv_istore_n (pc := 6) dX4_figure_6 rfl (by decide) ?_
        refine sv_iload_n (pc := 7) dX4_figure_7 rfl rfl ?_
        refine sv_if_le (pc := 8) (tgt := 26) dX4_figure_8 (by decide) (fun h => absurd h (by decide)) (fun _ => ?_)
        refine sv_iload_n (pc := 11) dX4_figure_11 rfl rfl ?_
        refine sv_iload_n (pc := 12) dX4_figure_12 rfl rfl ?_
        refine sw_idiv (pc := 13) (v := 0) dX4_figure_13 (by decide) (by decide) ?_
        refine sv_aload_n (pc := 14) dX4_figure_14 rfl rfl ?_
        refine sw_getfield (pc := 15) dX4_figure_15 (gCX4 _ _ _ _ _) 12 (by decide) wF_X4_11 rfl rfl rfl ?_
        refine sv_iload_n (pc := 18) dX4_figure_18 rfl rfl ?_
        refine sw_iaload (pc := 19) (k := 6) (v := .int 0) dX4_figure_19 rfl rfl rfl (by decide) (by decide) rfl rfl ?_
        refine sv_iconst (pc := 20) (v := 1) dX4_figure_20 (by decide) ?_
        refine sw_iadd (pc := 21) (v := 1) dX4_figure_21 (by decide) ?_
        refine sw_irem (pc := 22) (v := 0) dX4_figure_22 (by decide) (by decide) ?_
        refine sv_goto (pc := 23) (tgt := 27) dX4_figure_23 (by decide) ?_
        refine sv_iret (pc := 27) dX4_figure_27 rfl (le_t rfl) (le_t rfl) ?_
        refine sv_istore_n (pc := 11) dX4_wayInRest_11 rfl (by decide) ?_
        refine sv_iload_n (pc := 12) dX4_wayInRest_12 rfl rfl ?_
        refine sv_aload_n (pc := 13) dX4_wayInRest_13 rfl rfl ?_
        refine sw_getfield (pc := 14) dX4_wayInRest_14 (gCX4 _ _ _ _ _) 12 (by decide) wF_X4_11 rfl rfl rfl ?_
        refine sv_iload_n (pc := 17) dX4_wayInRest_17 rfl rfl ?_
        refine sw_iaload (pc := 18) (k := 6) (v := .int 0) dX4_wayInRest_18 rfl rfl rfl (by decide) (by decide) rfl rfl ?_
        refine sv_icmp_ne (pc := 19) (tgt := 27) dX4_wayInRest_19 (by decide) (fun h => absurd (by decide) h) (fun _ => ?_)
        refine sv_bipush (pc := 22) (v := (-4)) dX4_wayInRest_22 (by decide) ?_
        refine sv_goto (pc := 24) (tgt := 28) dX4_wayInRest_24 (by decide) ?_
        refine sv_iret (pc := 28) dX4_wayInRest_28 rfl (le_t rfl) (le_t rfl) ?_
        refine sv_iret (pc := 44) dX11_rest_44 rfl (le_t rfl) (le_t rfl) ?_
        refine sv_aload_n (pc := 1734) dL_law_1734 rfl rfl ?_
        refine sv_aload_nS (pc := 1735) dL_law_1735 rfl rfl ?_
        refine sv_iload_n (pc := 1736) dL_law_1736 rfl rfl ?_
        refine sv_iconst (pc := 1737) (v := 1) dL_law_1737 (by decide) ?_
        refine sw_iadd (pc := 1738) (v := 1) dL_law_1738 (by decide) ?_
        refine sw_sld (pc := 1739) (v := 0) dL_law_1739 (k := 1) (by decide) (by decide) rfl hx1 ?_
        refine sv_aload_nS (pc := 1740) dL_law_1740 rfl rfl ?_
        refine sv_iload_n (pc := 1741) dL_law_1741 rfl rfl ?_
        refine sv_iconst (pc := 1742) (v := 2) dL_law_1742 (by decide) ?_
        refine sw_iadd (pc := 1743) (v := 2) dL_law_1743 (by decide) ?_
        refine sw_sld (pc := 1744) (v := 6) dL_law_1744 (k := 2) (by decide) (by decide) rfl hx2 ?_
        refine sv_callV (pc := 1745) (M' := mX12_rest) (d' := 20) (C' := 0) (S' := 0) (av := [.int 0, .int 6]) ?_ (gOk _ _ _ _ _) dL_law_1745 (tX12_rest _ _ _ _ _) ⟨wV_X12_rest, wL_X12_rest⟩ wM_DomainHouseLaw_206 (gCX12 _ _ _ _ _) rfl (lt_t rfl) rfl ⟨le_t rfl, le_t rfl⟩ ⟨le_t rfl, le_t rfl⟩ rfl (le_t rfl) (fun _ _ h => h)
        refine sC.of rfl (by decide) (le_t rfl) ?_
        refine sv_iload_n (pc := 0) dX12_rest_0 rfl rfl ?_
        refine sv_if_lt (pc := 1) (tgt := 14) dX12_rest_1 (by decide) (fun h => absurd h (by decide)) (fun _ => ?_)
        refine sv_iload_n (pc := 4) dX12_rest_4 rfl rfl ?_
        refine sv_iconst (pc := 5) (v := 1) dX12_rest_5 (by decide) ?_
        refine sv_bipush (pc := 6) (v := 6) dX12_rest_6 (by decide) ?_
        refine sv_callS (pc := 8) (M' := mX12_in) (d' := 19) (C' := 0) (S' := 0) (av := [.int 6, .int 1, .int 6]) ?_ (gOk _ _ _ _ _) dX12_rest_8 (tX12_in _ _ _ _ _) wS_X12_in wM_X12_18 ⟨le_t rfl, le_t rfl⟩ ⟨le_t rfl, le_t rfl⟩ rfl (le_t rfl) (fun _ _ h => h)
        refine sC.of rfl (by decide) (le_t rfl) ?_
        refine sv_iload_n (pc := 0) dX12_in_0 rfl rfl ?_
        refine sv_iload_n (pc := 1) dX12_in_1 rfl rfl ?_
        refine sv_icmp_lt (pc := 2) (tgt := 14) dX12_in_2 (by decide) (fun h => absurd h (by decide)) (fun _ => ?_)
        refine sv_iload_n (pc := 5) dX12_in_5 rfl rfl ?_
        refine sv_iload_n (pc := 6) dX12_in_6 rfl rfl ?_
        refine sv_icmp_gt (pc := 7) (tgt := 14) dX12_in_7 (by decide) (fun h => absurd h (by decide)) (fun _ => ?_)
        refine sv_iconst (pc := 10) (v := 1) dX12_in_10 (by decide) ?_
        refine sv_goto (pc := 11) (tgt := 15) dX12_in_11 (by decide) ?_
        refine sv_zret (pc := 15) dX12_in_15 rfl (by decide) (le_t rfl) (le_t rfl) ?_
        refine sv_if_ne (pc := 11) (tgt := 16) dX12_rest_11 (by decide) (fun _ => ?_) (fun h => absurd h (by decide))
        refine sv_aload_n (pc := 16) dX12_rest_16 rfl rfl ?_
        refine sv_callV (pc := 17) (M' := mX12_states) (d' := 19) (C' := 0) (S' := 0) (av := []) ?_ (gOk _ _ _ _ _) dX12_rest_17 (tX12_states _ _ _ _ _) ⟨wV_X12_states, wL_X12_states⟩ wM_X12_728 (gCX12 _ _ _ _ _) rfl (lt_t rfl) rfl ⟨le_t rfl, le_t rfl⟩ ⟨le_t rfl, le_t rfl⟩ rfl (le_t rfl) (fun _ _ h => h)
        refine sC.of rfl (by decide) (le_t rfl) ?_
        refine sv_iconst (pc := 0) (v := 1) dX12_states_0 (by decide) ?_
        refine sv_istore_n (pc := 1) dX12_states_1 rfl (by decide) ?_
        refine sv_bipush (pc := 2) (v := 6) dX12_states_2 (by decide) ?_
        refine sv_istore_n (pc := 4) dX12_states_4 rfl (by decide) ?_
        refine sv_iload_n (pc := 5) dX12_states_5 rfl rfl ?_
        refine sv_iconst (pc := 6) (v := 1) dX12_states_6 (by decide) ?_
        refine sv_icmp_lt (pc := 7) (tgt := 34) dX12_states_7 (by decide) (fun h => absurd h (by decide)) (fun _ => ?_)
        refine sv_aload_n (pc := 10) dX12_states_10 rfl rfl ?_
        refine sw_getfield (pc := 11) dX12_states_11 (gCX12 _ _ _ _ _) 121 (by decide) wF_X12_523 rfl rfl rfl ?_
        refine sv_iload_n (pc := 14) dX12_states_14 rfl rfl ?_
        refine sv_iload_n (pc := 15) dX12_states_15 rfl rfl ?_
        refine sw_iastore (pc := 16) (k := 6) (v := .int 1) dX12_states_16 rfl rfl rfl (by decide) (by decide) rfl rfl ?_
        refine sv_iload_n (pc := 17) dX12_states_17 rfl rfl ?_
        refine sv_aload_n (pc := 18) dX12_states_18 rfl rfl ?_
        refine sw_getfield (pc := 19) dX12_states_19 (gCX12 _ _ _ _ _) 118 (by decide) wF_X12_514 rfl rfl rfl ?_
        refine sv_iload_n (pc := 22) dX12_states_22 rfl rfl ?_
        refine sw_iaload (pc := 23) (k := 6) (v := .int 0) dX12_states_23 rfl rfl rfl (by decide) (by decide) rfl rfl ?_
        refine sv_iconst (pc := 24) (v := 1) dX12_states_24 (by decide) ?_
        refine sw_iadd (pc := 25) (v := 1) dX12_states_25 (by decide) ?_
        refine sw_imul (pc := 26) (v := 1) dX12_states_26 (by decide) ?_
        refine sv_istore_n (pc := 27) dX12_states_27 rfl (by decide) ?_
        refine sw_iinc (pc := 28) (v := 5) dX12_states_28 rfl (by decide) (by decide) ?_
        refine sv_goto (pc := 31) (tgt := 5) dX12_states_31 (by decide) ?_
        refine sv_iload_n (pc := 5) dX12_states_5 rfl rfl ?_
        refine sv_iconst (pc := 6) (v := 1) dX12_states_6 (by decide) ?_
        refine sv_icmp_lt (pc := 7) (tgt := 34) dX12_states_7 (by decide) (fun h => absurd h (by decide)) (fun _ => ?_)
        refine sv_aload_n (pc := 10) dX12_states_10 rfl rfl ?_
        refine sw_getfield (pc := 11) dX12_states_11 (gCX12 _ _ _ _ _) 121 (by decide) wF_X12_523 rfl rfl rfl ?_
        refine sv_iload_n (pc := 14) dX12_states_14 rfl rfl ?_
        refine sv_iload_n (pc := 15) dX12_states_15 rfl rfl ?_
        refine sw_iastore (pc := 16) (k := 5) (v := .int 1) dX12_states_16 rfl rfl rfl (by decide) (by decide) rfl rfl ?_
        refine sv_iload_n (pc := 17) dX12_states_17 rfl rfl ?_
        refine sv_aload_n (pc := 18) dX12_states_18 rfl rfl ?_
        refine sw_getfield (pc := 19) dX12_states_19 (gCX12 _ _ _ _ _) 118 (by decide) wF_X12_514 rfl rfl rfl ?_
        refine sv_iload_n (pc := 22) dX12_states_22 rfl rfl ?_
        refine sw_iaload (pc := 23) (k := 5) (v := .int 0) dX12_states_23 rfl rfl rfl (by decide) (by decide) rfl rfl ?_
        refine sv_iconst (pc := 24) (v := 1) dX12_states_24 (by decide) ?_
        refine sw_iadd (pc := 25) (v := 1) dX12_states_25 (by decide) ?_
        refine sw_imul (pc := 26) (v := 1) dX12_states_26 (by decide) ?_
        refine sv_istore_n (pc := 27) dX12_states_27 rfl (by decide) ?_
        refine sw_iinc (pc := 28) (v := 4) dX12_states_28 rfl (by decide) (by decide) ?_
        refine sv_goto (pc := 31) (tgt := 5) dX12_states_31 (by decide) ?_
        refine sv_iload_n (pc := 5) dX12_states_5 rfl rfl ?_
        refine sv_iconst (pc := 6) (v := 1) dX12_states_6 (by decide) ?_
        refine sv_icmp_lt (pc := 7) (tgt := 34) dX12_states_7 (by decide) (fun h => absurd h (by decide)) (fun _ => ?_)
        refine sv_aload_n (pc := 10) dX12_states_10 rfl rfl ?_
        refine sw_getfield (pc := 11) dX12_states_11 (gCX12 _ _ _ _ _) 121 (by decide) wF_X12_523 rfl rfl rfl ?_
        refine sv_iload_n (pc := 14) dX12_states_14 rfl rfl ?_
        refine sv_iload_n (pc := 15) dX12_states_15 rfl rfl ?_
        refine sw_iastore (pc := 16) (k := 4) (v := .int 1) dX12_states_16 rfl rfl rfl (by decide) (by decide) rfl rfl ?_
        refine sv_iload_n (pc := 17) dX12_states_17 rfl rfl ?_
        refine sv_aload_n (pc := 18) dX12_states_18 rfl rfl ?_
        refine sw_getfield (pc := 19) dX12_states_19 (gCX12 _ _ _ _ _) 118 (by decide) wF_X12_514 rfl rfl rfl ?_
        refine sv_iload_n (pc := 22) dX12_states_22 rfl rfl ?_
        refine sw_iaload (pc := 23) (k := 4) (v := .int 0) dX12_states_23 rfl rfl rfl (by decide) (by decide) rfl rfl ?_
        refine sv_iconst (pc := 24) (v := 1) dX12_states_24 (by decide) ?_
        refine sw_iadd (pc := 25) (v := 1) dX12_states_25 (by decide) ?_
        refine sw_imul (pc := 26) (v := 1) dX12_states_26 (by decide) ?_
        refine sv_istore_n (pc := 27) dX12_states_27 rfl (by decide) ?_
        refine sw_iinc (pc := 28) (v := 3) dX12_states_28 rfl (by decide) (by decide) ?_
        refine sv_lvG (pc := 31) (lv' := [(0, .ref 106), (1, .int 1), (2, .int 3)]) (List.forall_mem_cons.mpr ⟨rfl, List.forall_mem_cons.mpr ⟨rfl, List.forall_mem_cons.mpr ⟨rfl, fun _ h => absurd h List.not_mem_nil⟩⟩⟩) ?_
        refine sv_goto (pc := 31) (tgt := 5) dX12_states_31 (by decide) ?_
        refine sv_iload_n (pc := 5) dX12_states_5 rfl rfl ?_
        refine sv_iconst (pc := 6) (v := 1) dX12_states_6 (by decide) ?_
        refine sv_icmp_lt (pc := 7) (tgt := 34) dX12_states_7 (by decide) (fun h => absurd h (by decide)) (fun _ => ?_)
        refine sv_aload_n (pc := 10) dX12_states_10 rfl rfl ?_
        refine sw_getfield (pc := 11) dX12_states_11 (gCX12 _ _ _ _ _) 121 (by decide) wF_X12_523 rfl rfl rfl ?_
        refine sv_iload_n (pc := 14) dX12_states_14 rfl rfl ?_
        refine sv_iload_n (pc := 15) dX12_states_15 rfl rfl ?_
        refine sw_iastore (pc := 16) (k := 3) (v := .int 1) dX12_states_16 rfl rfl rfl (by decide) (by decide) rfl rfl ?_
        refine sv_iload_n (pc := 17) dX12_states_17 rfl rfl ?_
        refine sv_aload_n (pc := 18) dX12_states_18 rfl rfl ?_
        refine sw_getfield (pc := 19) dX12_states_19 (gCX12 _ _ _ _ _) 118 (by decide) wF_X12_514 rfl rfl rfl ?_
        refine sv_iload_n (pc := 22) dX12_states_22 rfl rfl ?_
        refine sw_iaload (pc := 23) (k := 3) (v := .int 0) dX12_states_23 rfl rfl rfl (by decide) (by decide) rfl rfl ?_
        refine sv_iconst (pc := 24) (v := 1) dX12_states_24 (by decide) ?_
        refine sw_iadd (pc := 25) (v := 1) dX12_states_25 (by decide) ?_
        refine sw_imul (pc := 26) (v := 1) dX12_states_26 (by decide) ?_
        refine sv_istore_n (pc := 27) dX12_states_27 rfl (by decide) ?_
        refine sw_iinc (pc := 28) (v := 2) dX12_states_28 rfl (by decide) (by decide) ?_
        refine sv_goto (pc := 31) (tgt := 5) dX12_states_31 (by decide) ?_
        refine sv_iload_n (pc := 5) dX12_states_5 rfl rfl ?_
        refine sv_iconst (pc := 6) (v := 1) dX12_states_6 (by decide) ?_
        refine sv_icmp_lt (pc := 7) (tgt := 34) dX12_states_7 (by decide) (fun h => absurd h (by decide)) (fun _ => ?_)
        refine sv_aload_n (pc := 10) dX12_states_10 rfl rfl ?_
        refine sw_getfield (pc := 11) dX12_states_11 (gCX12 _ _ _ _ _) 121 (by decide) wF_X12_523 rfl rfl rfl ?_
        refine sv_iload_n (pc := 14) dX12_states_14 rfl rfl ?_
        refine sv_iload_n (pc := 15) dX12_states_15 rfl rfl ?_
        refine sw_iastore (pc := 16) (k := 2) (v := .int 1) dX12_states_16 rfl rfl rfl (by decide) (by decide) rfl rfl ?_
        refine sv_iload_n (pc := 17) dX12_states_17 rfl rfl ?_
        refine sv_aload_n (pc := 18) dX12_states_18 rfl rfl ?_
        refine sw_getfield (pc := 19) dX12_states_19 (gCX12 _ _ _ _ _) 118 (by decide) wF_X12_514 rfl rfl rfl ?_
        refine sv_iload_n (pc := 22) dX12_states_22 rfl rfl ?_
        refine sw_iaload (pc := 23) (k := 2) (v := .int 0) dX12_states_23 rfl rfl rfl (by decide) (by decide) rfl rfl ?_
        refine sv_iconst (pc := 24) (v := 1) dX12_states_24 (by decide) ?_
        refine sw_iadd (pc := 25) (v := 1) dX12_states_25 (by decide) ?_
        refine sw_imul (pc := 26) (v := 1) dX12_states_26 (by decide) ?_
        refine sv_istore_n (pc := 27) dX12_states_27 rfl (by decide) ?_
        refine sw_iinc (pc := 28) (v := 1) dX12_states_28 rfl (by decide) (by decide) ?_
        refine sv_goto (pc := 31) (tgt := 5) dX12_states_31 (by decide) ?_
        refine sv_iload_n (pc := 5) dX12_states_5 rfl rfl ?_
        refine sv_iconst (pc := 6) (v := 1) dX12_states_6 (by decide) ?_
        refine sv_icmp_lt (pc := 7) (tgt := 34) dX12_states_7 (by decide) (fun h => absurd h (by decide)) (fun _ => ?_)
        refine sv_aload_n (pc := 10) dX12_states_10 rfl rfl ?_
        refine sw_getfield (pc := 11) dX12_states_11 (gCX12 _ _ _ _ _) 121 (by decide) wF_X12_523 rfl rfl rfl ?_
        refine sv_iload_n (pc := 14) dX12_states_14 rfl rfl ?_
        refine sv_iload_n (pc := 15) dX12_states_15 rfl rfl ?_
        refine sw_iastore (pc := 16) (k := 1) (v := .int 1) dX12_states_16 rfl rfl rfl (by decide) (by decide) rfl rfl ?_
        refine sv_iload_n (pc := 17) dX12_states_17 rfl rfl ?_
        refine sv_aload_n (pc := 18) dX12_states_18 rfl rfl ?_
        refine sw_getfield (pc := 19) dX12_states_19 (gCX12 _ _ _ _ _) 118 (by decide) wF_X12_514 rfl rfl rfl ?_
        refine sv_iload_n (pc := 22) dX12_states_22 rfl rfl ?_
        refine sw_iaload (pc := 23) (k := 1) (v := .int 0) dX12_states_23 rfl rfl rfl (by decide) (by decide) rfl rfl ?_
        refine sv_iconst (pc := 24) (v := 1) dX12_states_24 (by decide) ?_
        refine sw_iadd (pc := 25) (v := 1) dX12_states_25 (by decide) ?_
        refine sw_imul (pc := 26) (v := 1) dX12_states_26 (by decide) ?_
        refine sv_istore_n (pc := 27) dX12_states_27 rfl (by decide) ?_
        refine sw_iinc (pc := 28) (v := 0) dX12_states_28 rfl (by decide) (by decide) ?_
        refine sv_goto (pc := 31) (tgt := 5) dX12_states_31 (by decide) ?_
        refine sv_iload_n (pc := 5) dX12_states_5 rfl rfl ?_
        refine sv_iconst (pc := 6) (v := 1) dX12_states_6 (by decide) ?_
        refine sv_icmp_lt (pc := 7) (tgt := 34) dX12_states_7 (by decide) (fun _ => ?_) (fun h => absurd (by decide) h)
        refine sv_iload_n (pc := 34) dX12_states_34 rfl rfl ?_
        refine sv_iret (pc := 35) dX12_states_35 rfl (le_t rfl) (le_t rfl) ?_
        refine sv_istore_n (pc := 20) dX12_rest_20 rfl (by decide) ?_
        refine sv_iload_n (pc := 21) dX12_rest_21 rfl rfl ?_
        refine sv_istore (pc := 22) dX12_rest_22 (by decide) ?_
        refine sv_iconst (pc := 24) (v := 0) dX12_rest_24 (by decide) ?_
        refine sv_istore (pc := 25) dX12_rest_25 (by decide) ?_
        refine sv_iload (pc := 27) dX12_rest_27 rfl ?_
        refine sv_iload_n (pc := 29) dX12_rest_29 rfl rfl ?_
        refine sv_icmp_ge (pc := 30) (tgt := 92) dX12_rest_30 (by decide) (fun h => absurd h (by decide)) (fun _ => ?_)
        refine sv_aload_n (pc := 33) dX12_rest_33 rfl rfl ?_
        refine sv_iload (pc := 34) dX12_rest_34 rfl ?_
        refine sv_callV (pc := 36) (M' := mX12_isRest) (d' := 19) (C' := 0) (S' := 0) (av := [.int 0]) ?_ (gOk _ _ _ _ _) dX12_rest_36 (tX12_isRest _ _ _ _ _) ⟨wV_X12_isRest, wL_X12_isRest⟩ wM_X12_731 (gCX12 _ _ _ _ _) rfl (lt_t rfl) rfl ⟨le_t rfl, le_t rfl⟩ ⟨le_t rfl, le_t rfl⟩ rfl (le_t rfl) (fun _ _ h => h)
        refine sC.of rfl (by decide) (le_t rfl) ?_
        refine sv_aload_n (pc := 0) dX12_isRest_0 rfl rfl ?_
        refine sv_iload_n (pc := 1) dX12_isRest_1 rfl rfl ?_
        refine sv_callV (pc := 2) (M' := mX12_open) (d' := 18) (C' := 0) (S' := 0) (av := [.int 0]) ?_ (gOk _ _ _ _ _) dX12_isRest_2 (tX12_open _ _ _ _ _) ⟨wV_X12_open, wL_X12_open⟩ wM_X12_722 (gCX12 _ _ _ _ _) rfl (lt_t rfl) rfl ⟨le_t rfl, le_t rfl⟩ ⟨le_t rfl, le_t rfl⟩ rfl (le_t rfl) (fun _ _ h => h)
        refine sC.of rfl (by decide) (le_t rfl) ?_
        refine sv_iconst (pc := 0) (v := 1) dX12_open_0 (by decide) ?_
        refine sv_istore_n (pc := 1) dX12_open_1 rfl (by decide) ?_
        refine sv_iload_n (pc := 2) dX12_open_2 rfl rfl ?_
        refine sv_bipush (pc := 3) (v := 6) dX12_open_3 (by decide) ?_
        refine sv_icmp_gt (pc := 5) (tgt := 37) dX12_open_5 (by decide) (fun h => absurd h (by decide)) (fun _ => ?_)
        refine sv_aload_n (pc := 8) dX12_open_8 rfl rfl ?_
        refine sw_getfield (pc := 9) dX12_open_9 (gCX12 _ _ _ _ _) 122 (by decide) wF_X12_526 rfl rfl rfl ?_
        refine sv_iload_n (pc := 12) dX12_open_12 rfl rfl ?_
        refine sv_iload_n (pc := 13) dX12_open_13 rfl rfl ?_
        refine sv_aload_n (pc := 14) dX12_open_14 rfl rfl ?_
        refine sw_getfield (pc := 15) dX12_open_15 (gCX12 _ _ _ _ _) 121 (by decide) wF_X12_523 rfl rfl rfl ?_
        refine sv_iload_n (pc := 18) dX12_open_18 rfl rfl ?_
        refine sw_iaload (pc := 19) (k := 1) (v := .int 1) dX12_open_19 rfl rfl rfl (by decide) (by decide) rfl rfl ?_
        refine sw_idiv (pc := 20) (v := 0) dX12_open_20 (by decide) (by decide) ?_
        refine sv_aload_n (pc := 21) dX12_open_21 rfl rfl ?_
        refine sw_getfield (pc := 22) dX12_open_22 (gCX12 _ _ _ _ _) 118 (by decide) wF_X12_514 rfl rfl rfl ?_
        refine sv_iload_n (pc := 25) dX12_open_25 rfl rfl ?_
        refine sw_iaload (pc := 26) (k := 1) (v := .int 0) dX12_open_26 rfl rfl rfl (by decide) (by decide) rfl rfl ?_
        refine sv_iconst (pc := 27) (v := 1) dX12_open_27 (by decide) ?_
        refine sw_iadd (pc := 28) (v := 1) dX12_open_28 (by decide) ?_
        refine sw_irem (pc := 29) (v := 0) dX12_open_29 (by decide) (by decide) ?_
        refine sw_iastore (pc := 30) (k := 1) (v := .int 0) dX12_open_30 rfl rfl rfl (by decide) (by decide) rfl rfl ?_
        refine sw_iinc (pc := 31) (v := 2) dX12_open_31 rfl (by decide) (by decide) ?_
        refine sv_goto (pc := 34) (tgt := 2) dX12_open_34 (by decide) ?_
        refine sv_iload_n (pc := 2) dX12_open_2 rfl rfl ?_
        refine sv_bipush (pc := 3) (v := 6) dX12_open_3 (by decide) ?_
        refine sv_icmp_gt (pc := 5) (tgt := 37) dX12_open_5 (by decide) (fun h => absurd h (by decide)) (fun _ => ?_)
        refine sv_aload_n (pc := 8) dX12_open_8 rfl rfl ?_
        refine sw_getfield (pc := 9) dX12_open_9 (gCX12 _ _ _ _ _) 122 (by decide) wF_X12_526 rfl rfl rfl ?_
        refine sv_iload_n (pc := 12) dX12_open_12 rfl rfl ?_
        refine sv_iload_n (pc := 13) dX12_open_13 rfl rfl ?_
        refine sv_aload_n (pc := 14) dX12_open_14 rfl rfl ?_
        refine sw_getfield (pc := 15) dX12_open_15 (gCX12 _ _ _ _ _) 121 (by decide) wF_X12_523 rfl rfl rfl ?_
        refine sv_iload_n (pc := 18) dX12_open_18 rfl rfl ?_
        refine sw_iaload (pc := 19) (k := 2) (v := .int 1) dX12_open_19 rfl rfl rfl (by decide) (by decide) rfl rfl ?_
        refine sw_idiv (pc := 20) (v := 0) dX12_open_20 (by decide) (by decide) ?_
        refine sv_aload_n (pc := 21) dX12_open_21 rfl rfl ?_
        refine sw_getfield (pc := 22) dX12_open_22 (gCX12 _ _ _ _ _) 118 (by decide) wF_X12_514 rfl rfl rfl ?_
        refine sv_iload_n (pc := 25) dX12_open_25 rfl rfl ?_
        refine sw_iaload (pc := 26) (k := 2) (v := .int 0) dX12_open_26 rfl rfl rfl (by decide) (by decide) rfl rfl ?_
        refine sv_iconst (pc := 27) (v := 1) dX12_open_27 (by decide) ?_
        refine sw_iadd (pc := 28) (v := 1) dX12_open_28 (by decide) ?_
        refine sw_irem (pc := 29) (v := 0) dX12_open_29 (by decide) (by decide) ?_
        refine sw_iastore (pc := 30) (k := 2) (v := .int 0) dX12_open_30 rfl rfl rfl (by decide) (by decide) rfl rfl ?_
        refine sw_iinc (pc := 31) (v := 3) dX12_open_31 rfl (by decide) (by decide) ?_
        refine sv_goto (pc := 34) (tgt := 2) dX12_open_34 (by decide) ?_
        refine sv_iload_n (pc := 2) dX12_open_2 rfl rfl ?_
        refine sv_bipush (pc := 3) (v := 6) dX12_open_3 (by decide) ?_
        refine sv_icmp_gt (pc := 5) (tgt := 37) dX12_open_5 (by decide) (fun h => absurd h (by decide)) (fun _ => ?_)
        refine sv_aload_n (pc := 8) dX12_open_8 rfl rfl ?_
        refine sw_getfield (pc := 9) dX12_open_9 (gCX12 _ _ _ _ _) 122 (by decide) wF_X12_526 rfl rfl rfl ?_
        refine sv_iload_n (pc := 12) dX12_open_12 rfl rfl ?_
        refine sv_iload_n (pc := 13) dX12_open_13 rfl rfl ?_
        refine sv_aload_n (pc := 14) dX12_open_14 rfl rfl ?_
        refine sw_getfield (pc := 15) dX12_open_15 (gCX12 _ _ _ _ _) 121 (by decide) wF_X12_523 rfl rfl rfl ?_
        refine sv_iload_n (pc := 18) dX12_open_18 rfl rfl ?_
        refine sw_iaload (pc := 19) (k := 3) (v := .int 1) dX12_open_19 rfl rfl rfl (by decide) (by decide) rfl rfl ?_
        refine sw_idiv (pc := 20) (v := 0) dX12_open_20 (by decide) (by decide) ?_
        refine sv_aload_n (pc := 21) dX12_open_21 rfl rfl ?_
        refine sw_getfield (pc := 22) dX12_open_22 (gCX12 _ _ _ _ _) 118 (by decide) wF_X12_514 rfl rfl rfl ?_
        refine sv_iload_n (pc := 25) dX12_open_25 rfl rfl ?_
        refine sw_iaload (pc := 26) (k := 3) (v := .int 0) dX12_open_26 rfl rfl rfl (by decide) (by decide) rfl rfl ?_
        refine sv_iconst (pc := 27) (v := 1) dX12_open_27 (by decide) ?_
        refine sw_iadd (pc := 28) (v := 1) dX12_open_28 (by decide) ?_
        refine sw_irem (pc := 29) (v := 0) dX12_open_29 (by decide) (by decide) ?_
        refine sw_iastore (pc := 30) (k := 3) (v := .int 0) dX12_open_30 rfl rfl rfl (by decide) (by decide) rfl rfl ?_
        refine sw_iinc (pc := 31) (v := 4) dX12_open_31 rfl (by decide) (by decide) ?_
        refine sv_goto (pc := 34) (tgt := 2) dX12_open_34 (by decide) ?_
        refine sv_iload_n (pc := 2) dX12_open_2 rfl rfl ?_
        refine sv_bipush (pc := 3) (v := 6) dX12_open_3 (by decide) ?_
        refine sv_icmp_gt (pc := 5) (tgt := 37) dX12_open_5 (by decide) (fun h => absurd h (by decide)) (fun _ => ?_)
        refine sv_aload_n (pc := 8) dX12_open_8 rfl rfl ?_
        refine sw_getfield (pc := 9) dX12_open_9 (gCX12 _ _ _ _ _) 122 (by decide) wF_X12_526 rfl rfl rfl ?_
        refine sv_iload_n (pc := 12) dX12_open_12 rfl rfl ?_
        refine sv_iload_n (pc := 13) dX12_open_13 rfl rfl ?_
        refine sv_aload_n (pc := 14) dX12_open_14 rfl rfl ?_
        refine sw_getfield (pc := 15) dX12_open_15 (gCX12 _ _ _ _ _) 121 (by decide) wF_X12_523 rfl rfl rfl ?_
        refine sv_iload_n (pc := 18) dX12_open_18 rfl rfl ?_
        refine sw_iaload (pc := 19) (k := 4) (v := .int 1) dX12_open_19 rfl rfl rfl (by decide) (by decide) rfl rfl ?_
        refine sw_idiv (pc := 20) (v := 0) dX12_open_20 (by decide) (by decide) ?_
        refine sv_aload_n (pc := 21) dX12_open_21 rfl rfl ?_
        refine sw_getfield (pc := 22) dX12_open_22 (gCX12 _ _ _ _ _) 118 (by decide) wF_X12_514 rfl rfl rfl ?_
        refine sv_iload_n (pc := 25) dX12_open_25 rfl rfl ?_
        refine sw_iaload (pc := 26) (k := 4) (v := .int 0) dX12_open_26 rfl rfl rfl (by decide) (by decide) rfl rfl ?_
        refine sv_iconst (pc := 27) (v := 1) dX12_open_27 (by decide) ?_
        refine sw_iadd (pc := 28) (v := 1) dX12_open_28 (by decide) ?_
        refine sw_irem (pc := 29) (v := 0) dX12_open_29 (by decide) (by decide) ?_
        refine sw_iastore (pc := 30) (k := 4) (v := .int 0) dX12_open_30 rfl rfl rfl (by decide) (by decide) rfl rfl ?_
        refine sw_iinc (pc := 31) (v := 5) dX12_open_31 rfl (by decide) (by decide) ?_
        refine sv_goto (pc := 34) (tgt := 2) dX12_open_34 (by decide) ?_
        refine sv_iload_n (pc := 2) dX12_open_2 rfl rfl ?_
        refine sv_bipush (pc := 3) (v := 6) dX12_open_3 (by decide) ?_
        refine sv_icmp_gt (pc := 5) (tgt := 37) dX12_open_5 (by decide) (fun h => absurd h (by decide)) (fun _ => ?_)
        refine sv_aload_n (pc := 8) dX12_open_8 rfl rfl ?_
        refine sw_getfield (pc := 9) dX12_open_9 (gCX12 _ _ _ _ _) 122 (by decide) wF_X12_526 rfl rfl rfl ?_
        refine sv_iload_n (pc := 12) dX12_open_12 rfl rfl ?_
        refine sv_iload_n (pc := 13) dX12_open_13 rfl rfl ?_
        refine sv_aload_n (pc := 14) dX12_open_14 rfl rfl ?_
        refine sw_getfield (pc := 15) dX12_open_15 (gCX12 _ _ _ _ _) 121 (by decide) wF_X12_523 rfl rfl rfl ?_
        refine sv_iload_n (pc := 18) dX12_open_18 rfl rfl ?_
        refine sw_iaload (pc := 19) (k := 5) (v := .int 1) dX12_open_19 rfl rfl rfl (by decide) (by decide) rfl rfl ?_
        refine sw_idiv (pc := 20) (v := 0) dX12_open_20 (by decide) (by decide) ?_
        refine sv_aload_n (pc := 21) dX12_open_21 rfl rfl ?_
        refine sw_getfield (pc := 22) dX12_open_22 (gCX12 _ _ _ _ _) 118 (by decide) wF_X12_514 rfl rfl rfl ?_
        refine sv_iload_n (pc := 25) dX12_open_25 rfl rfl ?_
        refine sw_iaload (pc := 26) (k := 5) (v := .int 0) dX12_open_26 rfl rfl rfl (by decide) (by decide) rfl rfl ?_
        refine sv_iconst (pc := 27) (v := 1) dX12_open_27 (by decide) ?_
        refine sw_iadd (pc := 28) (v := 1) dX12_open_28 (by decide) ?_
        refine sw_irem (pc := 29) (v := 0) dX12_open_29 (by decide) (by decide) ?_
        refine sw_iastore (pc := 30) (k := 5) (v := .int 0) dX12_open_30 rfl rfl rfl (by decide) (by decide) rfl rfl ?_
        refine sw_iinc (pc := 31) (v := 6) dX12_open_31 rfl (by decide) (by decide) ?_
        refine sv_goto (pc := 34) (tgt := 2) dX12_open_34 (by decide) ?_
        refine sv_iload_n (pc := 2) dX12_open_2 rfl rfl ?_
        refine sv_bipush (pc := 3) (v := 6) dX12_open_3 (by decide) ?_
        refine sv_icmp_gt (pc := 5) (tgt := 37) dX12_open_5 (by decide) (fun h => absurd h (by decide)) (fun _ => ?_)
        refine sv_aload_n (pc := 8) dX12_open_8 rfl rfl ?_
        refine sw_getfield (pc := 9) dX12_open_9 (gCX12 _ _ _ _ _) 122 (by decide) wF_X12_526 rfl rfl rfl ?_
        refine sv_iload_n (pc := 12) dX12_open_12 rfl rfl ?_
        refine sv_iload_n (pc := 13) dX12_open_13 rfl rfl ?_
        refine sv_aload_n (pc := 14) dX12_open_14 rfl rfl ?_
        refine sw_getfield (pc := 15) dX12_open_15 (gCX12 _ _ _ _ _) 121 (by decide) wF_X12_523 rfl rfl rfl ?_
        refine sv_iload_n (pc := 18) dX12_open_18 rfl rfl ?_
        refine sw_iaload (pc := 19) (k := 6) (v := .int 1) dX12_open_19 rfl rfl rfl (by decide) (by decide) rfl rfl ?_
        refine sw_idiv (pc := 20) (v := 0) dX12_open_20 (by decide) (by decide) ?_
        refine sv_aload_n (pc := 21) dX12_open_21 rfl rfl ?_
        refine sw_getfield (pc := 22) dX12_open_22 (gCX12 _ _ _ _ _) 118 (by decide) wF_X12_514 rfl rfl rfl ?_
        refine sv_iload_n (pc := 25) dX12_open_25 rfl rfl ?_
        refine sw_iaload (pc := 26) (k := 6) (v := .int 0) dX12_open_26 rfl rfl rfl (by decide) (by decide) rfl rfl ?_
        refine sv_iconst (pc := 27) (v := 1) dX12_open_27 (by decide) ?_
        refine sw_iadd (pc := 28) (v := 1) dX12_open_28 (by decide) ?_
        refine sw_irem (pc := 29) (v := 0) dX12_open_29 (by decide) (by decide) ?_
        refine sw_iastore (pc := 30) (k := 6) (v := .int 0) dX12_open_30 rfl rfl rfl (by decide) (by decide) rfl rfl ?_
        refine sw_iinc (pc := 31) (v := 7) dX12_open_31 rfl (by decide) (by decide) ?_
        refine sv_goto (pc := 34) (tgt := 2) dX12_open_34 (by decide) ?_
        refine sv_iload_n (pc := 2) dX12_open_2 rfl rfl ?_
        refine sv_bipush (pc := 3) (v := 6) dX12_open_3 (by decide) ?_
        refine sv_icmp_gt (pc := 5) (tgt := 37) dX12_open_5 (by decide) (fun _ => ?_) (fun h => absurd (by decide) h)
        refine sv_vret (pc := 37) dX12_open_37 rfl (le_t rfl) (le_t rfl) ?_
        refine sv_iconst (pc := 5) (v := 1) dX12_isRest_5 (by decide) ?_
        refine sv_istore_n (pc := 6) dX12_isRest_6 rfl (by decide) ?_
        refine sv_iconst (pc := 7) (v := 1) dX12_isRest_7 (by decide) ?_
        refine sv_istore_n (pc := 8) dX12_isRest_8 rfl (by decide) ?_
        refine sv_iload_n (pc := 9) dX12_isRest_9 rfl rfl ?_
        refine sv_bipush (pc := 10) (v := 6) dX12_isRest_10 (by decide) ?_
        refine sv_icmp_gt (pc := 12) (tgt := 45) dX12_isRest_12 (by decide) (fun h => absurd h (by decide)) (fun _ => ?_)
        refine sv_iload_n (pc := 15) dX12_isRest_15 rfl rfl ?_
        refine sv_if_eq (pc := 16) (tgt := 45) dX12_isRest_16 (by decide) (fun h => absurd h (by decide)) (fun _ => ?_)
        refine sv_aload_n (pc := 19) dX12_isRest_19 rfl rfl ?_
        refine sv_iload_n (pc := 20) dX12_isRest_20 rfl rfl ?_
        refine sv_callV (pc := 21) (M' := mX12_acted) (d' := 18) (C' := 0) (S' := 0) (av := [.int 1]) ?_ (gOk _ _ _ _ _) dX12_isRest_21 (tX12_acted _ _ _ _ _) ⟨wV_X12_acted, wL_X12_acted⟩ wM_X12_725 (gCX12 _ _ _ _ _) rfl (lt_t rfl) rfl ⟨le_t rfl, le_t rfl⟩ ⟨le_t rfl, le_t rfl⟩ rfl (le_t rfl) (fun _ _ h => h)
        refine sC.of rfl (by decide) (le_t rfl) ?_
        refine sv_iconst (pc := 0) (v := 0) dX12_acted_0 (by decide) ?_
        refine sv_istore_n (pc := 1) dX12_acted_1 rfl (by decide) ?_
        refine sv_iload_n (pc := 2) dX12_acted_2 rfl rfl ?_
        refine sv_aload_n (pc := 3) dX12_acted_3 rfl rfl ?_
        refine sw_getfield (pc := 4) dX12_acted_4 (gCX12 _ _ _ _ _) 118 (by decide) wF_X12_514 rfl rfl rfl ?_
        refine sv_iload_n (pc := 7) dX12_acted_7 rfl rfl ?_
        refine sw_iaload (pc := 8) (k := 1) (v := .int 0) dX12_acted_8 rfl rfl rfl (by decide) (by decide) rfl rfl ?_
        refine sv_icmp_ge (pc := 9) (tgt := 32) dX12_acted_9 (by decide) (fun _ => ?_) (fun h => absurd (by decide) h)
        refine sv_aload_n (pc := 32) dX12_acted_32 rfl rfl ?_
        refine sw_getfield (pc := 33) dX12_acted_33 (gCX12 _ _ _ _ _) 118 (by decide) wF_X12_514 rfl rfl rfl ?_
        refine sv_iload_n (pc := 36) dX12_acted_36 rfl rfl ?_
        refine sw_iaload (pc := 37) (k := 1) (v := .int 0) dX12_acted_37 rfl rfl rfl (by decide) (by decide) rfl rfl ?_
        refine sv_iret (pc := 38) dX12_acted_38 rfl (le_t rfl) (le_t rfl) ?_
        refine sv_aload_n (pc := 24) dX12_isRest_24 rfl rfl ?_
        refine sw_getfield (pc := 25) dX12_isRest_25 (gCX12 _ _ _ _ _) 122 (by decide) wF_X12_526 rfl rfl rfl ?_
        refine sv_iload_n (pc := 28) dX12_isRest_28 rfl rfl ?_
        refine sw_iaload (pc := 29) (k := 1) (v := .int 0) dX12_isRest_29 rfl rfl rfl (by decide) (by decide) rfl rfl ?_
        refine sv_icmp_ne (pc := 30) (tgt := 37) dX12_isRest_30 (by decide) (fun h => absurd (by decide) h) (fun _ => ?_)
        refine sv_iconst (pc := 33) (v := 1) dX12_isRest_33 (by decide) ?_
        refine sv_goto (pc := 34) (tgt := 38) dX12_isRest_34 (by decide) ?_
        refine sv_istore_n (pc := 38) dX12_isRest_38 rfl (by decide) ?_
        refine sw_iinc (pc := 39) (v := 2) dX12_isRest_39 rfl (by decide) (by decide) ?_
        refine sv_goto (pc := 42) (tgt := 9) dX12_isRest_42 (by decide) ?_
        refine sv_iload_n (pc := 9) dX12_isRest_9 rfl rfl ?_
        refine sv_bipush (pc := 10) (v := 6) dX12_isRest_10 (by decide) ?_
        refine sv_icmp_gt (pc := 12) (tgt := 45) dX12_isRest_12 (by decide) (fun h => absurd h (by decide)) (fun _ => ?_)
        refine sv_iload_n (pc := 15) dX12_isRest_15 rfl rfl ?_
        refine sv_if_eq (pc := 16) (tgt := 45) dX12_isRest_16 (by decide) (fun h => absurd h (by decide)) (fun _ => ?_)
        refine sv_aload_n (pc := 19) dX12_isRest_19 rfl rfl ?_
        refine sv_iload_n (pc := 20) dX12_isRest_20 rfl rfl ?_
        refine sv_callV (pc := 21) (M' := mX12_acted) (d' := 18) (C' := 0) (S' := 0) (av := [.int 2]) ?_ (gOk _ _ _ _ _) dX12_isRest_21 (tX12_acted _ _ _ _ _) ⟨wV_X12_acted, wL_X12_acted⟩ wM_X12_725 (gCX12 _ _ _ _ _) rfl (lt_t rfl) rfl ⟨le_t rfl, le_t rfl⟩ ⟨le_t rfl, le_t rfl⟩ rfl (le_t rfl) (fun _ _ h => h)
        refine sC.of rfl (by decide) (le_t rfl) ?_
        refine sv_iconst (pc := 0) (v := 0) dX12_acted_0 (by decide) ?_
        refine sv_istore_n (pc := 1) dX12_acted_1 rfl (by decide) ?_
        refine sv_iload_n (pc := 2) dX12_acted_2 rfl rfl ?_
        refine sv_aload_n (pc := 3) dX12_acted_3 rfl rfl ?_
        refine sw_getfield (pc := 4) dX12_acted_4 (gCX12 _ _ _ _ _) 118 (by decide) wF_X12_514 rfl rfl rfl ?_
        refine sv_iload_n (pc := 7) dX12_acted_7 rfl rfl ?_
        refine sw_iaload (pc := 8) (k := 2) (v := .int 0) dX12_acted_8 rfl rfl rfl (by decide) (by decide) rfl rfl ?_
        refine sv_icmp_ge (pc := 9) (tgt := 32) dX12_acted_9 (by decide) (fun _ => ?_) (fun h => absurd (by decide) h)
        refine sv_aload_n (pc := 32) dX12_acted_32 rfl rfl ?_
        refine sw_getfield (pc := 33) dX12_acted_33 (gCX12 _ _ _ _ _) 118 (by decide) wF_X12_514 rfl rfl rfl ?_
        refine sv_iload_n (pc := 36) dX12_acted_36 rfl rfl ?_
        refine sw_iaload (pc := 37) (k := 2) (v := .int 0) dX12_acted_37 rfl rfl rfl (by decide) (by decide) rfl rfl ?_
        refine sv_iret (pc := 38) dX12_acted_38 rfl (le_t rfl) (le_t rfl) ?_
        refine sv_aload_n (pc := 24) dX12_isRest_24 rfl rfl ?_
        refine sw_getfield (pc := 25) dX12_isRest_25 (gCX12 _ _ _ _ _) 122 (by decide) wF_X12_526 rfl rfl rfl ?_
        refine sv_iload_n (pc := 28) dX12_isRest_28 rfl rfl ?_
        refine sw_iaload (pc := 29) (k := 2) (v := .int 0) dX12_isRest_29 rfl rfl rfl (by decide) (by decide) rfl rfl ?_
        refine sv_icmp_ne (pc := 30) (tgt := 37) dX12_isRest_30 (by decide) (fun h => absurd (by decide) h) (fun _ => ?_)
        refine sv_iconst (pc := 33) (v := 1) dX12_isRest_33 (by decide) ?_
        refine sv_goto (pc := 34) (tgt := 38) dX12_isRest_34 (by decide) ?_
        refine sv_istore_n (pc := 38) dX12_isRest_38 rfl (by decide) ?_
        refine sw_iinc (pc := 39) (v := 3) dX12_isRest_39 rfl (by decide) (by decide) ?_
        refine sv_goto (pc := 42) (tgt := 9) dX12_isRest_42 (by decide) ?_
        refine sv_iload_n (pc := 9) dX12_isRest_9 rfl rfl ?_
        refine sv_bipush (pc := 10) (v := 6) dX12_isRest_10 (by decide) ?_
        refine sv_icmp_gt (pc := 12) (tgt := 45) dX12_isRest_12 (by decide) (fun h => absurd h (by decide)) (fun _ => ?_)
        refine sv_iload_n (pc := 15) dX12_isRest_15 rfl rfl ?_
        refine sv_if_eq (pc := 16) (tgt := 45) dX12_isRest_16 (by decide) (fun h => absurd h (by decide)) (fun _ => ?_)
        refine sv_aload_n (pc := 19) dX12_isRest_19 rfl rfl ?_
        refine sv_iload_n (pc := 20) dX12_isRest_20 rfl rfl ?_
        refine sv_callV (pc := 21) (M' := mX12_acted) (d' := 18) (C' := 0) (S' := 0) (av := [.int 3]) ?_ (gOk _ _ _ _ _) dX12_isRest_21 (tX12_acted _ _ _ _ _) ⟨wV_X12_acted, wL_X12_acted⟩ wM_X12_725 (gCX12 _ _ _ _ _) rfl (lt_t rfl) rfl ⟨le_t rfl, le_t rfl⟩ ⟨le_t rfl, le_t rfl⟩ rfl (le_t rfl) (fun _ _ h => h)
        refine sC.of rfl (by decide) (le_t rfl) ?_
        refine sv_iconst (pc := 0) (v := 0) dX12_acted_0 (by decide) ?_
        refine sv_istore_n (pc := 1) dX12_acted_1 rfl (by decide) ?_
        refine sv_iload_n (pc := 2) dX12_acted_2 rfl rfl ?_
        refine sv_aload_n (pc := 3) dX12_acted_3 rfl rfl ?_
        refine sw_getfield (pc := 4) dX12_acted_4 (gCX12 _ _ _ _ _) 118 (by decide) wF_X12_514 rfl rfl rfl ?_
        refine sv_iload_n (pc := 7) dX12_acted_7 rfl rfl ?_
        refine sw_iaload (pc := 8) (k := 3) (v := .int 0) dX12_acted_8 rfl rfl rfl (by decide) (by decide) rfl rfl ?_
        refine sv_icmp_ge (pc := 9) (tgt := 32) dX12_acted_9 (by decide) (fun _ => ?_) (fun h => absurd (by decide) h)
        refine sv_aload_n (pc := 32) dX12_acted_32 rfl rfl ?_
        refine sw_getfield (pc := 33) dX12_acted_33 (gCX12 _ _ _ _ _) 118 (by decide) wF_X12_514 rfl rfl rfl ?_
        refine sv_iload_n (pc := 36) dX12_acted_36 rfl rfl ?_
        refine sw_iaload (pc := 37) (k := 3) (v := .int 0) dX12_acted_37 rfl rfl rfl (by decide) (by decide) rfl rfl ?_
        refine sv_iret (pc := 38) dX12_acted_38 rfl (le_t rfl) (le_t rfl) ?_
        refine sv_aload_n (pc := 24) dX12_isRest_24 rfl rfl ?_
        refine sw_getfield (pc := 25) dX12_isRest_25 (gCX12 _ _ _ _ _) 122 (by decide) wF_X12_526 rfl rfl rfl ?_
        refine sv_iload_n (pc := 28) dX12_isRest_28 rfl rfl ?_
        refine sw_iaload (pc := 29) (k := 3) (v := .int 0) dX12_isRest_29 rfl rfl rfl (by decide) (by decide) rfl rfl ?_
        refine sv_icmp_ne (pc := 30) (tgt := 37) dX12_isRest_30 (by decide) (fun h => absurd (by decide) h) (fun _ => ?_)
        refine sv_iconst (pc := 33) (v := 1) dX12_isRest_33 (by decide) ?_
        refine sv_goto (pc := 34) (tgt := 38) dX12_isRest_34 (by decide) ?_
        refine sv_istore_n (pc := 38) dX12_isRest_38 rfl (by decide) ?_
        refine sw_iinc (pc := 39) (v := 4) dX12_isRest_39 rfl (by decide) (by decide) ?_
        refine sv_lvG (pc := 42) (lv' := [(0, .ref 106), (1, .int 0), (2, .int 1), (3, .int 4)]) (List.forall_mem_cons.mpr ⟨rfl, List.forall_mem_cons.mpr ⟨rfl, List.forall_mem_cons.mpr ⟨rfl, List.forall_mem_cons.mpr ⟨rfl, fun _ h => absurd h List.not_mem_nil⟩⟩⟩⟩) ?_
        refine sv_goto (pc := 42) (tgt := 9) dX12_isRest_42 (by decide) ?_
        refine sv_iload_n (pc := 9) dX12_isRest_9 rfl rfl ?_
        refine sv_bipush (pc := 10) (v := 6) dX12_isRest_10 (by decide) ?_
        refine sv_icmp_gt (pc := 12) (tgt := 45) dX12_isRest_12 (by decide) (fun h => absurd h (by decide)) (fun _ => ?_)
        refine sv_iload_n (pc := 15) dX12_isRest_15 rfl rfl ?_
        refine sv_if_eq (pc := 16) (tgt := 45) dX12_isRest_16 (by decide) (fun h => absurd h (by decide)) (fun _ => ?_)
        refine sv_aload_n (pc := 19) dX12_isRest_19 rfl rfl ?_
        refine sv_iload_n (pc := 20) dX12_isRest_20 rfl rfl ?_
        refine sv_callV (pc := 21) (M' := mX12_acted) (d' := 18) (C' := 0) (S' := 0) (av := [.int 4]) ?_ (gOk _ _ _ _ _) dX12_isRest_21 (tX12_acted _ _ _ _ _) ⟨wV_X12_acted, wL_X12_acted⟩ wM_X12_725 (gCX12 _ _ _ _ _) rfl (lt_t rfl) rfl ⟨le_t rfl, le_t rfl⟩ ⟨le_t rfl, le_t rfl⟩ rfl (le_t rfl) (fun _ _ h => h)
        refine sC.of rfl (by decide) (le_t rfl) ?_
        refine sv_iconst (pc := 0) (v := 0) dX12_acted_0 (by decide) ?_
        refine sv_istore_n (pc := 1) dX12_acted_1 rfl (by decide) ?_
        refine sv_iload_n (pc := 2) dX12_acted_2 rfl rfl ?_
        refine sv_aload_n (pc := 3) dX12_acted_3 rfl rfl ?_
        refine sw_getfield (pc := 4) dX12_acted_4 (gCX12 _ _ _ _ _) 118 (by decide) wF_X12_514 rfl rfl rfl ?_
        refine sv_iload_n (pc := 7) dX12_acted_7 rfl rfl ?_
        refine sw_iaload (pc := 8) (k := 4) (v := .int 0) dX12_acted_8 rfl rfl rfl (by decide) (by decide) rfl rfl ?_
        refine sv_icmp_ge (pc := 9) (tgt := 32) dX12_acted_9 (by decide) (fun _ => ?_) (fun h => absurd (by decide) h)
        refine sv_aload_n (pc := 32) dX12_acted_32 rfl rfl ?_
        refine sw_getfield (pc := 33) dX12_acted_33 (gCX12 _ _ _ _ _) 118 (by decide) wF_X12_514 rfl rfl rfl ?_
        refine sv_iload_n (pc := 36) dX12_acted_36 rfl rfl ?_
        refine sw_iaload (pc := 37) (k := 4) (v := .int 0) dX12_acted_37 rfl rfl rfl (by decide) (by decide) rfl rfl ?_
        refine sv_iret (pc := 38) dX12_acted_38 rfl (le_t rfl) (le_t rfl) ?_
        refine sv_aload_n (pc := 24) dX12_isRest_24 rfl rfl ?_
        refine sw_getfield (pc := 25) dX12_isRest_25 (gCX12 _ _ _ _ _) 122 (by decide) wF_X12_526 rfl rfl rfl ?_
        refine sv_iload_n (pc := 28) dX12_isRest_28 rfl rfl ?_
        refine sw_iaload (pc := 29) (k := 4) (v := .int 0) dX12_isRest_29 rfl rfl rfl (by decide) (by decide) rfl rfl ?_
        refine sv_icmp_ne (pc := 30) (tgt := 37) dX12_isRest_30 (by decide) (fun h => absurd (by decide) h) (fun _ => ?_)
        refine sv_iconst (pc := 33) (v := 1) dX12_isRest_33 (by decide) ?_
        refine sv_goto (pc := 34) (tgt := 38) dX12_isRest_34 (by decide) ?_
        refine sv_istore_n (pc := 38) dX12_isRest_38 rfl (by decide) ?_
        refine sw_iinc (pc := 39) (v := 5) dX12_isRest_39 rfl (by decide) (by decide) ?_
        refine sv_goto (pc := 42) (tgt := 9) dX12_isRest_42 (by decide) ?_
        refine sv_iload_n (pc := 9) dX12_isRest_9 rfl rfl ?_
        refine sv_bipush (pc := 10) (v := 6) dX12_isRest_10 (by decide) ?_
        refine sv_icmp_gt (pc := 12) (tgt := 45) dX12_isRest_12 (by decide) (fun h => absurd h (by decide)) (fun _ => ?_)
        refine sv_iload_n (pc := 15) dX12_isRest_15 rfl rfl ?_
        refine sv_if_eq (pc := 16) (tgt := 45) dX12_isRest_16 (by decide) (fun h => absurd h (by decide)) (fun _ => ?_)
        refine sv_aload_n (pc := 19) dX12_isRest_19 rfl rfl ?_
        refine sv_iload_n (pc := 20) dX12_isRest_20 rfl rfl ?_
        refine sv_callV (pc := 21) (M' := mX12_acted) (d' := 18) (C' := 0) (S' := 0) (av := [.int 5]) ?_ (gOk _ _ _ _ _) dX12_isRest_21 (tX12_acted _ _ _ _ _) ⟨wV_X12_acted, wL_X12_acted⟩ wM_X12_725 (gCX12 _ _ _ _ _) rfl (lt_t rfl) rfl ⟨le_t rfl, le_t rfl⟩ ⟨le_t rfl, le_t rfl⟩ rfl (le_t rfl) (fun _ _ h => h)
        refine sC.of rfl (by decide) (le_t rfl) ?_
        refine sv_iconst (pc := 0) (v := 0) dX12_acted_0 (by decide) ?_
        refine sv_istore_n (pc := 1) dX12_acted_1 rfl (by decide) ?_
        refine sv_iload_n (pc := 2) dX12_acted_2 rfl rfl ?_
        refine sv_aload_n (pc := 3) dX12_acted_3 rfl rfl ?_
        refine sw_getfield (pc := 4) dX12_acted_4 (gCX12 _ _ _ _ _) 118 (by decide) wF_X12_514 rfl rfl rfl ?_
        refine sv_iload_n (pc := 7) dX12_acted_7 rfl rfl ?_
        refine sw_iaload (pc := 8) (k := 5) (v := .int 0) dX12_acted_8 rfl rfl rfl (by decide) (by decide) rfl rfl ?_
        refine sv_icmp_ge (pc := 9) (tgt := 32) dX12_acted_9 (by decide) (fun _ => ?_) (fun h => absurd (by decide) h)
        refine sv_aload_n (pc := 32) dX12_acted_32 rfl rfl ?_
        refine sw_getfield (pc := 33) dX12_acted_33 (gCX12 _ _ _ _ _) 118 (by decide) wF_X12_514 rfl rfl rfl ?_
        refine sv_iload_n (pc := 36) dX12_acted_36 rfl rfl ?_
        refine sw_iaload (pc := 37) (k := 5) (v := .int 0) dX12_acted_37 rfl rfl rfl (by decide) (by decide) rfl rfl ?_
        refine sv_iret (pc := 38) dX12_acted_38 rfl (le_t rfl) (le_t rfl) ?_
        refine sv_aload_n (pc := 24) dX12_isRest_24 rfl rfl ?_
        refine sw_getfield (pc := 25) dX12_isRest_25 (gCX12 _ _ _ _ _) 122 (by decide) wF_X12_526 rfl rfl rfl ?_
        refine sv_iload_n (pc := 28) dX12_isRest_28 rfl rfl ?_
        refine sw_iaload (pc := 29) (k := 5) (v := .int 0) dX12_isRest_29 rfl rfl rfl (by decide) (by decide) rfl rfl ?_
        refine sv_icmp_ne (pc := 30) (tgt := 37) dX12_isRest_30 (by decide) (fun h => absurd (by decide) h) (fun _ => ?_)
        refine sv_iconst (pc := 33) (v := 1) dX12_isRest_33 (by decide) ?_
        refine sv_goto (pc := 34) (tgt := 38) dX12_isRest_34 (by decide) ?_
        refine sv_istore_n (pc := 38) dX12_isRest_38 rfl (by decide) ?_
        refine sw_iinc (pc := 39) (v := 6) dX12_isRest_39 rfl (by decide) (by decide) ?_
        refine sv_goto (pc := 42) (tgt := 9) dX12_isRest_42 (by decide) ?_
        refine sv_iload_n (pc := 9) dX12_isRest_9 rfl rfl ?_
        refine sv_bipush (pc := 10) (v := 6) dX12_isRest_10 (by decide) ?_
        refine sv_icmp_gt (pc := 12) (tgt := 45) dX12_isRest_12 (by decide) (fun h => absurd h (by decide)) (fun _ => ?_)
        refine sv_iload_n (pc := 15) dX12_isRest_15 rfl rfl ?_
        refine sv_if_eq (pc := 16) (tgt := 45) dX12_isRest_16 (by decide) (fun h => absurd h (by decide)) (fun _ => ?_)
        refine sv_aload_n (pc := 19) dX12_isRest_19 rfl rfl ?_
        refine sv_iload_n (pc := 20) dX12_isRest_20 rfl rfl ?_
        refine sv_callV (pc := 21) (M' := mX12_acted) (d' := 18) (C' := 0) (S' := 0) (av := [.int 6]) ?_ (gOk _ _ _ _ _) dX12_isRest_21 (tX12_acted _ _ _ _ _) ⟨wV_X12_acted, wL_X12_acted⟩ wM_X12_725 (gCX12 _ _ _ _ _) rfl (lt_t rfl) rfl ⟨le_t rfl, le_t rfl⟩ ⟨le_t rfl, le_t rfl⟩ rfl (le_t rfl) (fun _ _ h => h)
        refine sC.of rfl (by decide) (le_t rfl) ?_
        refine sv_iconst (pc := 0) (v := 0) dX12_acted_0 (by decide) ?_
        refine sv_istore_n (pc := 1) dX12_acted_1 rfl (by decide) ?_
        refine sv_iload_n (pc := 2) dX12_acted_2 rfl rfl ?_
        refine sv_aload_n (pc := 3) dX12_acted_3 rfl rfl ?_
        refine sw_getfield (pc := 4) dX12_acted_4 (gCX12 _ _ _ _ _) 118 (by decide) wF_X12_514 rfl rfl rfl ?_
        refine sv_iload_n (pc := 7) dX12_acted_7 rfl rfl ?_
        refine sw_iaload (pc := 8) (k := 6) (v := .int 0) dX12_acted_8 rfl rfl rfl (by decide) (by decide) rfl rfl ?_
        refine sv_icmp_ge (pc := 9) (tgt := 32) dX12_acted_9 (by decide) (fun _ => ?_) (fun h => absurd (by decide) h)
        refine sv_aload_n (pc := 32) dX12_acted_32 rfl rfl ?_
        refine sw_getfield (pc := 33) dX12_acted_33 (gCX12 _ _ _ _ _) 118 (by decide) wF_X12_514 rfl rfl rfl ?_
        refine sv_iload_n (pc := 36) dX12_acted_36 rfl rfl ?_
        refine sw_iaload (pc := 37) (k := 6) (v := .int 0) dX12_acted_37 rfl rfl rfl (by decide) (by decide) rfl rfl ?_
        refine sv_iret (pc := 38) dX12_acted_38 rfl (le_t rfl) (le_t rfl) ?_
        refine sv_aload_n (pc := 24) dX12_isRest_24 rfl rfl ?_
        refine sw_getfield (pc := 25) dX12_isRest_25 (gCX12 _ _ _ _ _) 122 (by decide) wF_X12_526 rfl rfl rfl ?_
        refine sv_iload_n (pc := 28) dX12_isRest_28 rfl rfl ?_
        refine sw_iaload (pc := 29) (k := 6) (v := .int 0) dX12_isRest_29 rfl rfl rfl (by decide) (by decide) rfl rfl ?_
        refine sv_icmp_ne (pc := 30) (tgt := 37) dX12_isRest_30 (by decide) (fun h => absurd (by decide) h) (fun _ => ?_)
        refine sv_iconst (pc := 33) (v := 1) dX12_isRest_33 (by decide) ?_
        refine sv_goto (pc := 34) (tgt := 38) dX12_isRest_34 (by decide) ?_
        refine sv_istore_n (pc := 38) dX12_isRest_38 rfl (by decide) ?_
        refine sw_iinc (pc := 39) (v := 7) dX12_isRest_39 rfl (by decide) (by decide) ?_
        refine sv_goto (pc := 42) (tgt := 9) dX12_isRest_42 (by decide) ?_
        refine sv_iload_n (pc := 9) dX12_isRest_9 rfl rfl ?_
        refine sv_bipush (pc := 10) (v := 6) dX12_isRest_10 (by decide) ?_
        refine sv_icmp_gt (pc := 12) (tgt := 45) dX12_isRest_12 (by decide) (fun _ => ?_) (fun h => absurd (by decide) h)
        refine sv_iload_n (pc := 45) dX12_isRest_45 rfl rfl ?_
        refine sv_zret (pc := 46) dX12_isRest_46 rfl (by decide) (le_t rfl) (le_t rfl) ?_
        refine sv_if_ne (pc := 39) (tgt := 45) dX12_rest_39 (by decide) (fun _ => ?_) (fun h => absurd h (by decide))
        refine sv_iload (pc := 45) dX12_rest_45 rfl ?_
        refine sv_if_ne (pc := 47) (tgt := 83) dX12_rest_47 (by decide) (fun h => absurd (by decide) h) (fun _ => ?_)
        refine sv_aload_n (pc := 50) dX12_rest_50 rfl rfl ?_
        refine sv_iload (pc := 51) dX12_rest_51 rfl ?_
        refine sv_callV (pc := 53) (M' := mX12_open) (d' := 19) (C' := 0) (S' := 0) (av := [.int 0]) ?_ (gOk _ _ _ _ _) dX12_rest_53 (tX12_open _ _ _ _ _) ⟨wV_X12_open, wL_X12_open⟩ wM_X12_722 (gCX12 _ _ _ _ _) rfl (lt_t rfl) rfl ⟨le_t rfl, le_t rfl⟩ ⟨le_t rfl, le_t rfl⟩ rfl (le_t rfl) (fun _ _ h => h)
        refine sC.of rfl (by decide) (le_t rfl) ?_
        refine sv_iconst (pc := 0) (v := 1) dX12_open_0 (by decide) ?_
        refine sv_istore_n (pc := 1) dX12_open_1 rfl (by decide) ?_
        refine sv_iload_n (pc := 2) dX12_open_2 rfl rfl ?_
        refine sv_bipush (pc := 3) (v := 6) dX12_open_3 (by decide) ?_
        refine sv_icmp_gt (pc := 5) (tgt := 37) dX12_open_5 (by decide) (fun h => absurd h (by decide)) (fun _ => ?_)
        refine sv_aload_n (pc := 8) dX12_open_8 rfl rfl ?_
        refine sw_getfield (pc := 9) dX12_open_9 (gCX12 _ _ _ _ _) 122 (by decide) wF_X12_526 rfl rfl rfl ?_
        refine sv_iload_n (pc := 12) dX12_open_12 rfl rfl ?_
        refine sv_iload_n (pc := 13) dX12_open_13 rfl rfl ?_
        refine sv_aload_n (pc := 14) dX12_open_14 rfl rfl ?_
        refine sw_getfield (pc := 15) dX12_open_15 (gCX12 _ _ _ _ _) 121 (by decide) wF_X12_523 rfl rfl rfl ?_
        refine sv_iload_n (pc := 18) dX12_open_18 rfl rfl ?_
        refine sw_iaload (pc := 19) (k := 1) (v := .int 1) dX12_open_19 rfl rfl rfl (by decide) (by decide) rfl rfl ?_
        refine sw_idiv (pc := 20) (v := 0) dX12_open_20 (by decide) (by decide) ?_
        refine sv_aload_n (pc := 21) dX12_open_21 rfl rfl ?_
        refine sw_getfield (pc := 22) dX12_open_22 (gCX12 _ _ _ _ _) 118 (by decide) wF_X12_514 rfl rfl rfl ?_
        refine sv_iload_n (pc := 25) dX12_open_25 rfl rfl ?_
        refine sw_iaload (pc := 26) (k := 1) (v := .int 0) dX12_open_26 rfl rfl rfl (by decide) (by decide) rfl rfl ?_
        refine sv_iconst (pc := 27) (v := 1) dX12_open_27 (by decide) ?_
        refine sw_iadd (pc := 28) (v := 1) dX12_open_28 (by decide) ?_
        refine sw_irem (pc := 29) (v := 0) dX12_open_29 (by decide) (by decide) ?_
        refine sw_iastore (pc := 30) (k := 1) (v := .int 0) dX12_open_30 rfl rfl rfl (by decide) (by decide) rfl rfl ?_
        refine sw_iinc (pc := 31) (v := 2) dX12_open_31 rfl (by decide) (by decide) ?_
        refine sv_goto (pc := 34) (tgt := 2) dX12_open_34 (by decide) ?_
        refine sv_iload_n (pc := 2) dX12_open_2 rfl rfl ?_
        refine sv_bipush (pc := 3) (v := 6) dX12_open_3 (by decide) ?_
        refine sv_icmp_gt (pc := 5) (tgt := 37) dX12_open_5 (by decide) (fun h => absurd h (by decide)) (fun _ => ?_)
        refine sv_aload_n (pc := 8) dX12_open_8 rfl rfl ?_
        refine sw_getfield (pc := 9) dX12_open_9 (gCX12 _ _ _ _ _) 122 (by decide) wF_X12_526 rfl rfl rfl ?_
        refine sv_iload_n (pc := 12) dX12_open_12 rfl rfl ?_
        refine sv_iload_n (pc := 13) dX12_open_13 rfl rfl ?_
        refine sv_aload_n (pc := 14) dX12_open_14 rfl rfl ?_
        refine sw_getfield (pc := 15) dX12_open_15 (gCX12 _ _ _ _ _) 121 (by decide) wF_X12_523 rfl rfl rfl ?_
        refine sv_iload_n (pc := 18) dX12_open_18 rfl rfl ?_
        refine sw_iaload (pc := 19) (k := 2) (v := .int 1) dX12_open_19 rfl rfl rfl (by decide) (by decide) rfl rfl ?_
        refine sw_idiv (pc := 20) (v := 0) dX12_open_20 (by decide) (by decide) ?_
        refine sv_aload_n (pc := 21) dX12_open_21 rfl rfl ?_
        refine sw_getfield (pc := 22) dX12_open_22 (gCX12 _ _ _ _ _) 118 (by decide) wF_X12_514 rfl rfl rfl ?_
        refine sv_iload_n (pc := 25) dX12_open_25 rfl rfl ?_
        refine sw_iaload (pc := 26) (k := 2) (v := .int 0) dX12_open_26 rfl rfl rfl (by decide) (by decide) rfl rfl ?_
        refine sv_iconst (pc := 27) (v := 1) dX12_open_27 (by decide) ?_
        refine sw_iadd (pc := 28) (v := 1) dX12_open_28 (by decide) ?_
        refine sw_irem (pc := 29) (v := 0) dX12_open_29 (by decide) (by decide) ?_
        refine sw_iastore (pc := 30) (k := 2) (v := .int 0) dX12_open_30 rfl rfl rfl (by decide) (by decide) rfl rfl ?_
        refine sw_iinc (pc := 31) (v := 3) dX12_open_31 rfl (by decide) (by decide) ?_
        refine sv_goto (pc := 34) (tgt := 2) dX12_open_34 (by decide) ?_
        refine sv_iload_n (pc := 2) dX12_open_2 rfl rfl ?_
        refine sv_bipush (pc := 3) (v := 6) dX12_open_3 (by decide) ?_
        refine sv_icmp_gt (pc := 5) (tgt := 37) dX12_open_5 (by decide) (fun h => absurd h (by decide)) (fun _ => ?_)
        refine sv_aload_n (pc := 8) dX12_open_8 rfl rfl ?_
        refine sw_getfield (pc := 9) dX12_open_9 (gCX12 _ _ _ _ _) 122 (by decide) wF_X12_526 rfl rfl rfl ?_
        refine sv_iload_n (pc := 12) dX12_open_12 rfl rfl ?_
        refine sv_iload_n (pc := 13) dX12_open_13 rfl rfl ?_
        refine sv_aload_n (pc := 14) dX12_open_14 rfl rfl ?_
        refine sw_getfield (pc := 15) dX12_open_15 (gCX12 _ _ _ _ _) 121 (by decide) wF_X12_523 rfl rfl rfl ?_
        refine sv_iload_n (pc := 18) dX12_open_18 rfl rfl ?_
        refine sw_iaload (pc := 19) (k := 3) (v := .int 1) dX12_open_19 rfl rfl rfl (by decide) (by decide) rfl rfl ?_
        refine sw_idiv (pc := 20) (v := 0) dX12_open_20 (by decide) (by decide) ?_
        refine sv_aload_n (pc := 21) dX12_open_21 rfl rfl ?_
        refine sw_getfield (pc := 22) dX12_open_22 (gCX12 _ _ _ _ _) 118 (by decide) wF_X12_514 rfl rfl rfl ?_
        refine sv_iload_n (pc := 25) dX12_open_25 rfl rfl ?_
        refine sw_iaload (pc := 26) (k := 3) (v := .int 0) dX12_open_26 rfl rfl rfl (by decide) (by decide) rfl rfl ?_
        refine sv_iconst (pc := 27) (v := 1) dX12_open_27 (by decide) ?_
        refine sw_iadd (pc := 28) (v := 1) dX12_open_28 (by decide) ?_
        refine sw_irem (pc := 29) (v := 0) dX12_open_29 (by decide) (by decide) ?_
        refine sw_iastore (pc := 30) (k := 3) (v := .int 0) dX12_open_30 rfl rfl rfl (by decide) (by decide) rfl rfl ?_
        refine sw_iinc (pc := 31) (v := 4) dX12_open_31 rfl (by decide) (by decide) ?_
        refine sv_goto (pc := 34) (tgt := 2) dX12_open_34 (by decide) ?_
        refine sv_iload_n (pc := 2) dX12_open_2 rfl rfl ?_
        refine sv_bipush (pc := 3) (v := 6) dX12_open_3 (by decide) ?_
        refine sv_icmp_gt (pc := 5) (tgt := 37) dX12_open_5 (by decide) (fun h => absurd h (by decide)) (fun _ => ?_)
        refine sv_aload_n (pc := 8) dX12_open_8 rfl rfl ?_
        refine sw_getfield (pc := 9) dX12_open_9 (gCX12 _ _ _ _ _) 122 (by decide) wF_X12_526 rfl rfl rfl ?_
        refine sv_iload_n (pc := 12) dX12_open_12 rfl rfl ?_
        refine sv_iload_n (pc := 13) dX12_open_13 rfl rfl ?_
        refine sv_aload_n (pc := 14) dX12_open_14 rfl rfl ?_
        refine sw_getfield (pc := 15) dX12_open_15 (gCX12 _ _ _ _ _) 121 (by decide) wF_X12_523 rfl rfl rfl ?_
        refine sv_iload_n (pc := 18) dX12_open_18 rfl rfl ?_
        refine sw_iaload (pc := 19) (k := 4) (v := .int 1) dX12_open_19 rfl rfl rfl (by decide) (by decide) rfl rfl ?_
        refine sw_idiv (pc := 20) (v := 0) dX12_open_20 (by decide) (by decide) ?_
        refine sv_aload_n (pc := 21) dX12_open_21 rfl rfl ?_
        refine sw_getfield (pc := 22) dX12_open_22 (gCX12 _ _ _ _ _) 118 (by decide) wF_X12_514 rfl rfl rfl ?_
        refine sv_iload_n (pc := 25) dX12_open_25 rfl rfl ?_
        refine sw_iaload (pc := 26) (k := 4) (v := .int 0) dX12_open_26 rfl rfl rfl (by decide) (by decide) rfl rfl ?_
        refine sv_iconst (pc := 27) (v := 1) dX12_open_27 (by decide) ?_
        refine sw_iadd (pc := 28) (v := 1) dX12_open_28 (by decide) ?_
        refine sw_irem (pc := 29) (v := 0) dX12_open_29 (by decide) (by decide) ?_
        refine sw_iastore (pc := 30) (k := 4) (v := .int 0) dX12_open_30 rfl rfl rfl (by decide) (by decide) rfl rfl ?_
        refine sw_iinc (pc := 31) (v := 5) dX12_open_31 rfl (by decide) (by decide) ?_
        refine sv_goto (pc := 34) (tgt := 2) dX12_open_34 (by decide) ?_
        refine sv_iload_n (pc := 2) dX12_open_2 rfl rfl ?_
        refine sv_bipush (pc := 3) (v := 6) dX12_open_3 (by decide) ?_
        refine sv_icmp_gt (pc := 5) (tgt := 37) dX12_open_5 (by decide) (fun h => absurd h (by decide)) (fun _ => ?_)
        refine sv_aload_n (pc := 8) dX12_open_8 rfl rfl ?_
        refine sw_getfield (pc := 9) dX12_open_9 (gCX12 _ _ _ _ _) 122 (by decide) wF_X12_526 rfl rfl rfl ?_
        refine sv_iload_n (pc := 12) dX12_open_12 rfl rfl ?_
        refine sv_iload_n (pc := 13) dX12_open_13 rfl rfl ?_
        refine sv_aload_n (pc := 14) dX12_open_14 rfl rfl ?_
        refine sw_getfield (pc := 15) dX12_open_15 (gCX12 _ _ _ _ _) 121 (by decide) wF_X12_523 rfl rfl rfl ?_
        refine sv_iload_n (pc := 18) dX12_open_18 rfl rfl ?_
        refine sw_iaload (pc := 19) (k := 5) (v := .int 1) dX12_open_19 rfl rfl rfl (by decide) (by decide) rfl rfl ?_
        refine sw_idiv (pc := 20) (v := 0) dX12_open_20 (by decide) (by decide) ?_
        refine sv_aload_n (pc := 21) dX12_open_21 rfl rfl ?_
        refine sw_getfield (pc := 22) dX12_open_22 (gCX12 _ _ _ _ _) 118 (by decide) wF_X12_514 rfl rfl rfl ?_
        refine sv_iload_n (pc := 25) dX12_open_25 rfl rfl ?_
        refine sw_iaload (pc := 26) (k := 5) (v := .int 0) dX12_open_26 rfl rfl rfl (by decide) (by decide) rfl rfl ?_
        refine sv_iconst (pc := 27) (v := 1) dX12_open_27 (by decide) ?_
        refine sw_iadd (pc := 28) (v := 1) dX12_open_28 (by decide) ?_
        refine sw_irem (pc := 29) (v := 0) dX12_open_29 (by decide) (by decide) ?_
        refine sw_iastore (pc := 30) (k := 5) (v := .int 0) dX12_open_30 rfl rfl rfl (by decide) (by decide) rfl rfl ?_
        refine sw_iinc (pc := 31) (v := 6) dX12_open_31 rfl (by decide) (by decide) ?_
        refine sv_goto (pc := 34) (tgt := 2) dX12_open_34 (by decide) ?_
        refine sv_iload_n (pc := 2) dX12_open_2 rfl rfl ?_
        refine sv_bipush (pc := 3) (v := 6) dX12_open_3 (by decide) ?_
        refine sv_icmp_gt (pc := 5) (tgt := 37) dX12_open_5 (by decide) (fun h => absurd h (by decide)) (fun _ => ?_)
        refine sv_aload_n (pc := 8) dX12_open_8 rfl rfl ?_
        refine sw_getfield (pc := 9) dX12_open_9 (gCX12 _ _ _ _ _) 122 (by decide) wF_X12_526 rfl rfl rfl ?_
        refine sv_iload_n (pc := 12) dX12_open_12 rfl rfl ?_
        refine sv_iload_n (pc := 13) dX12_open_13 rfl rfl ?_
        refine sv_aload_n (pc := 14) dX12_open_14 rfl rfl ?_
        refine sw_getfield (pc := 15) dX12_open_15 (gCX12 _ _ _ _ _) 121 (by decide) wF_X12_523 rfl rfl rfl ?_
        refine sv_iload_n (pc := 18) dX12_open_18 rfl rfl ?_
        refine sw_iaload (pc := 19) (k := 6) (v := .int 1) dX12_open_19 rfl rfl rfl (by decide) (by decide) rfl rfl ?_
        refine sw_idiv (pc := 20) (v := 0) dX12_open_20 (by decide) (by decide) ?_
        refine sv_aload_n (pc := 21) dX12_open_21 rfl rfl ?_
        refine sw_getfield (pc := 22) dX12_open_22 (gCX12 _ _ _ _ _) 118 (by decide) wF_X12_514 rfl rfl rfl ?_
        refine sv_iload_n (pc := 25) dX12_open_25 rfl rfl ?_
        refine sw_iaload (pc := 26) (k := 6) (v := .int 0) dX12_open_26 rfl rfl rfl (by decide) (by decide) rfl rfl ?_
        refine sv_iconst (pc := 27) (v := 1) dX12_open_27 (by decide) ?_
        refine sw_iadd (pc := 28) (v := 1) dX12_open_28 (by decide) ?_
        refine sw_irem (pc := 29) (v := 0) dX12_open_29 (by decide) (by decide) ?_
        refine sw_iastore (pc := 30) (k := 6) (v := .int 0) dX12_open_30 rfl rfl rfl (by decide) (by decide) rfl rfl ?_
        refine sw_iinc (pc := 31) (v := 7) dX12_open_31 rfl (by decide) (by decide) ?_
        refine sv_goto (pc := 34) (tgt := 2) dX12_open_34 (by decide) ?_
        refine sv_iload_n (pc := 2) dX12_open_2 rfl rfl ?_
        refine sv_bipush (pc := 3) (v := 6) dX12_open_3 (by decide) ?_
        refine sv_icmp_gt (pc := 5) (tgt := 37) dX12_open_5 (by decide) (fun _ => ?_) (fun h => absurd (by decide) h)
        refine sv_vret (pc := 37) dX12_open_37 rfl (le_t rfl) (le_t rfl) ?_
        refine sv_aload_n (pc := 56) dX12_rest_56 rfl rfl ?_
        refine sw_getfield (pc := 57) dX12_rest_57 (gCX12 _ _ _ _ _) 122 (by decide) wF_X12_526 rfl rfl rfl ?_
        refine sv_iload_n (pc := 60) dX12_rest_60 rfl rfl ?_
        refine sw_iaload (pc := 61) (k := 6) (v := .int 0) dX12_rest_61 rfl rfl rfl (by decide) (by decide) rfl rfl ?_
        refine sv_aload_n (pc := 62) dX12_rest_62 rfl rfl ?_
        refine sw_getfield (pc := 63) dX12_rest_63 (gCX12 _ _ _ _ _) 118 (by decide) wF_X12_514 rfl rfl rfl ?_
        refine sv_iload_n (pc := 66) dX12_rest_66 rfl rfl ?_
        refine sw_iaload (pc := 67) (k := 6) (v := .int 0) dX12_rest_67 rfl rfl rfl (by decide) (by decide) rfl rfl ?_
        refine sv_icmp_ne (pc := 68) (tgt := 76) dX12_rest_68 (by decide) (fun h => absurd (by decide) h) (fun _ => ?_)
        refine sv_bipush (pc := 71) (v := (-4)) dX12_rest_71 (by decide) ?_
        refine sv_goto (pc := 73) (tgt := 82) dX12_rest_73 (by decide) ?_
        refine sv_iret (pc := 82) dX12_rest_82 rfl (le_t rfl) (le_t rfl) ?_
        refine sv_icmp_eq (pc := 1748) (tgt := 1799) dL_law_1748 (by decide) (fun _ => ?_) (fun h => absurd (by decide) h)
        exact kk _ _ _ (le_t rfl) (le_t rfl)
      exact False.elim (by have a0 := Int32.le_iff_toInt_le.mp (Int32.not_lt.mp h_1); have a1 := Int32.lt_iff_toInt_lt.mp (Int32.not_le.mp h_2); have a2 := Int32.le_iff_toInt_le.mp (Int32.not_lt.mp h_3); have a3 := Int32.lt_iff_toInt_lt.mp h_4; have a4 := sNe q_6; have a5 := sNe q_7; have a6 := sNe q_8; have a7 := sNe q_9; have a8 := sNe q_10; have a9 := sNe q_11; have e0 : (0 : Int32).toInt = 0 := (by decide); have e1 : (1 : Int32).toInt = 1 := (by decide); have e2 : (2 : Int32).toInt = 2 := (by decide); have e3 : (3 : Int32).toInt = 3 := (by decide); have e4 : (4 : Int32).toInt = 4 := (by decide); have e5 : (5 : Int32).toInt = 5 := (by decide); have e6 : (6 : Int32).toInt = 6 := (by decide); have e7 : (7 : Int32).toInt = 7 := (by decide); omega)
    exact False.elim (by have a0 := Int32.le_iff_toInt_le.mp (Int32.not_lt.mp h_1); have a1 := Int32.lt_iff_toInt_lt.mp (Int32.not_le.mp h_2); have a2 := Int32.le_iff_toInt_le.mp (Int32.not_lt.mp h_3); have a3 := Int32.lt_iff_toInt_lt.mp h_4; have a4 := sNe q_5; have e0 : (0 : Int32).toInt = 0 := (by decide); have e1 : (1 : Int32).toInt = 1 := (by decide); have e2 : (7 : Int32).toInt = 7 := (by decide); omega)
  refine sv_iconst (pc := 33) (v := (-1)) dX11_rest_33 (by decide) ?_
  refine sv_iret (pc := 34) dX11_rest_34 rfl (le_t rfl) (le_t rfl) ?_
  refine sv_aload_n (pc := 1734) dL_law_1734 rfl rfl ?_
  refine sv_aload_nS (pc := 1735) dL_law_1735 rfl rfl ?_
  refine sv_iload_n (pc := 1736) dL_law_1736 rfl rfl ?_
  refine sv_iconst (pc := 1737) (v := 1) dL_law_1737 (by decide) ?_
  refine sw_iadd (pc := 1738) (v := 1) dL_law_1738 (by decide) ?_
  refine sw_sld (pc := 1739) (v := x1) dL_law_1739 (k := 1) (by decide) (by decide) rfl hx1 ?_
  refine sv_aload_nS (pc := 1740) dL_law_1740 rfl rfl ?_
  refine sv_iload_n (pc := 1741) dL_law_1741 rfl rfl ?_
  refine sv_iconst (pc := 1742) (v := 2) dL_law_1742 (by decide) ?_
  refine sw_iadd (pc := 1743) (v := 2) dL_law_1743 (by decide) ?_
  refine sw_sld (pc := 1744) (v := x2) dL_law_1744 (k := 2) (by decide) (by decide) rfl hx2 ?_
  refine sv_callV (pc := 1745) (M' := mX12_rest) (d' := 20) (C' := 0) (S' := 0) (av := [.int x1, .int x2]) ?_ (gOk _ _ _ _ _) dL_law_1745 (tX12_rest _ _ _ _ _) ⟨wV_X12_rest, wL_X12_rest⟩ wM_DomainHouseLaw_206 (gCX12 _ _ _ _ _) rfl (lt_t rfl) rfl ⟨le_t rfl, le_t rfl⟩ ⟨le_t rfl, le_t rfl⟩ rfl (le_t rfl) (fun _ _ h => h)
  refine sC.of rfl (by decide) (le_t rfl) ?_
  refine sv_iload_n (pc := 0) dX12_rest_0 rfl rfl ?_
  refine sv_if_lt (pc := 1) (tgt := 14) dX12_rest_1 (by decide) (fun h => absurd h h_1) (fun _ => ?_)
  refine sv_iload_n (pc := 4) dX12_rest_4 rfl rfl ?_
  refine sv_iconst (pc := 5) (v := 1) dX12_rest_5 (by decide) ?_
  refine sv_bipush (pc := 6) (v := 6) dX12_rest_6 (by decide) ?_
  refine sv_callS (pc := 8) (M' := mX12_in) (d' := 19) (C' := 0) (S' := 0) (av := [.int x2, .int 1, .int 6]) ?_ (gOk _ _ _ _ _) dX12_rest_8 (tX12_in _ _ _ _ _) wS_X12_in wM_X12_18 ⟨le_t rfl, le_t rfl⟩ ⟨le_t rfl, le_t rfl⟩ rfl (le_t rfl) (fun _ _ h => h)
  refine sC.of rfl (by decide) (le_t rfl) ?_
  refine sv_iload_n (pc := 0) dX12_in_0 rfl rfl ?_
  refine sv_iload_n (pc := 1) dX12_in_1 rfl rfl ?_
  refine sv_icmp_lt (pc := 2) (tgt := 14) dX12_in_2 (by decide) (fun h => absurd h h_3) (fun _ => ?_)
  refine sv_iload_n (pc := 5) dX12_in_5 rfl rfl ?_
  refine sv_iload_n (pc := 6) dX12_in_6 rfl rfl ?_
  refine sv_icmp_gt (pc := 7) (tgt := 14) dX12_in_7 (by decide) (fun _ => ?_) (fun h => False.elim (by have a0 := Int32.le_iff_toInt_le.mp (Int32.not_lt.mp h_1); have a1 := Int32.lt_iff_toInt_lt.mp (Int32.not_le.mp h_2); have a2 := Int32.le_iff_toInt_le.mp (Int32.not_lt.mp h_3); have a3 := Int32.le_iff_toInt_le.mp (Int32.not_lt.mp h_4); have a4 := Int32.le_iff_toInt_le.mp (Int32.not_lt.mp h); have e0 : (0 : Int32).toInt = 0 := (by decide); have e1 : (1 : Int32).toInt = 1 := (by decide); have e2 : (6 : Int32).toInt = 6 := (by decide); have e3 : (7 : Int32).toInt = 7 := (by decide); omega))
  refine sv_iconst (pc := 14) (v := 0) dX12_in_14 (by decide) ?_
  refine sv_zret (pc := 15) dX12_in_15 rfl (by decide) (le_t rfl) (le_t rfl) ?_
  refine sv_if_ne (pc := 11) (tgt := 16) dX12_rest_11 (by decide) (fun h => absurd (by decide) h) (fun _ => ?_)
  refine sv_iconst (pc := 14) (v := (-1)) dX12_rest_14 (by decide) ?_
  refine sv_iret (pc := 15) dX12_rest_15 rfl (le_t rfl) (le_t rfl) ?_
  refine sv_icmp_eq (pc := 1748) (tgt := 1799) dL_law_1748 (by decide) (fun _ => ?_) (fun h => absurd (by decide) h)
  exact kk _ _ _ (le_t rfl) (le_t rfl)
