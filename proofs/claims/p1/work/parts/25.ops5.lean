set_option maxHeartbeats 40000000 in
set_option maxRecDepth 100000 in
theorem op_46 (l : Launch) (D : va_G) (c : Nat → ClassId) (H0 : Heap) (b : Nat) (xs : Nat → Int32) (Z : sZT) (x1 x2 x3 x4 x5 x6 : Int32) (hx1 : xs 1 = x1) (hx2 : xs 2 = x2) (hx3 : xs 3 = x3) (hx4 : xs 4 = x4) (hx5 : xs 5 = x5) (hx6 : xs 6 = x6) (kk : ∀ (hp : sHp) (ce sl : Nat), ce ≤ 600000 → sl ≤ 7302250 → sV (gG l D c H0 (b, 7, xs)) mL room_1 Z 1799 [(3, .int 0), (2, .ref 106), (1, .ref 0), (0, .retAddr 0)] [] hp ce sl) : sV (gG l D c H0 (b, 7, xs)) mL room_1 Z 1753 [(3, .int 0), (2, .ref 106), (1, .ref 0), (0, .retAddr 0)] [] (192, tF) 192 297215 := by
  refine sv_aload_n (pc := 1753) dL_law_1753 rfl rfl ?_
  refine sv_aload_nS (pc := 1754) dL_law_1754 rfl rfl ?_
  refine sv_iload_n (pc := 1755) dL_law_1755 rfl rfl ?_
  refine sv_iconst (pc := 1756) (v := 1) dL_law_1756 (by decide) ?_
  refine sw_iadd (pc := 1757) (v := 1) dL_law_1757 (by decide) ?_
  refine sw_sld (pc := 1758) (v := x1) dL_law_1758 (k := 1) (by decide) (by decide) rfl hx1 ?_
  refine sv_callV (pc := 1759) (M' := mX11_tries) (d' := 20) (C' := 0) (S' := 0) (av := [.int x1]) ?_ (gOk _ _ _ _ _) dL_law_1759 (tX11_tries _ _ _ _ _) ⟨wV_X11_tries, wL_X11_tries⟩ wM_DomainHouseLaw_207 (gCX11 _ _ _ _ _) rfl (lt_t rfl) rfl ⟨le_t rfl, le_t rfl⟩ ⟨le_t rfl, le_t rfl⟩ rfl (le_t rfl) (fun _ _ h => h)
  refine sC.of rfl (by decide) (le_t rfl) ?_
  refine sv_iload_n (pc := 0) dX11_tries_0 rfl rfl ?_
  refine sv_if_lt (pc := 1) (tgt := 9) dX11_tries_1 (by decide) (fun h_1 => ?_) (fun h_1 => ?_)
  · refine sv_iconst (pc := 9) (v := (-1)) dX11_tries_9 (by decide) ?_
    refine sv_iret (pc := 10) dX11_tries_10 rfl (le_t rfl) (le_t rfl) ?_
    refine sv_aload_n (pc := 1762) dL_law_1762 rfl rfl ?_
    refine sv_aload_nS (pc := 1763) dL_law_1763 rfl rfl ?_
    refine sv_iload_n (pc := 1764) dL_law_1764 rfl rfl ?_
    refine sv_iconst (pc := 1765) (v := 1) dL_law_1765 (by decide) ?_
    refine sw_iadd (pc := 1766) (v := 1) dL_law_1766 (by decide) ?_
    refine sw_sld (pc := 1767) (v := x1) dL_law_1767 (k := 1) (by decide) (by decide) rfl hx1 ?_
    refine sv_callV (pc := 1768) (M' := mX12_tries) (d' := 20) (C' := 0) (S' := 0) (av := [.int x1]) ?_ (gOk _ _ _ _ _) dL_law_1768 (tX12_tries _ _ _ _ _) ⟨wV_X12_tries, wL_X12_tries⟩ wM_DomainHouseLaw_210 (gCX12 _ _ _ _ _) rfl (lt_t rfl) rfl ⟨le_t rfl, le_t rfl⟩ ⟨le_t rfl, le_t rfl⟩ rfl (le_t rfl) (fun _ _ h => h)
    refine sC.of rfl (by decide) (le_t rfl) ?_
    refine sv_iload_n (pc := 0) dX12_tries_0 rfl rfl ?_
    refine sv_iconst (pc := 1) (v := 0) dX12_tries_1 (by decide) ?_
    refine sv_iconst (pc := 2) (v := 3) dX12_tries_2 (by decide) ?_
    refine sv_callS (pc := 3) (M' := mX12_in) (d' := 19) (C' := 0) (S' := 0) (av := [.int x1, .int 0, .int 3]) ?_ (gOk _ _ _ _ _) dX12_tries_3 (tX12_in _ _ _ _ _) wS_X12_in wM_X12_18 ⟨le_t rfl, le_t rfl⟩ ⟨le_t rfl, le_t rfl⟩ rfl (le_t rfl) (fun _ _ h => h)
    refine sC.of rfl (by decide) (le_t rfl) ?_
    refine sv_iload_n (pc := 0) dX12_in_0 rfl rfl ?_
    refine sv_iload_n (pc := 1) dX12_in_1 rfl rfl ?_
    refine sv_icmp_lt (pc := 2) (tgt := 14) dX12_in_2 (by decide) (fun _ => ?_) (fun h => absurd h_1 h)
    refine sv_iconst (pc := 14) (v := 0) dX12_in_14 (by decide) ?_
    refine sv_zret (pc := 15) dX12_in_15 rfl (by decide) (le_t rfl) (le_t rfl) ?_
    refine sv_if_ne (pc := 6) (tgt := 11) dX12_tries_6 (by decide) (fun h => absurd (by decide) h) (fun _ => ?_)
    refine sv_iconst (pc := 9) (v := (-1)) dX12_tries_9 (by decide) ?_
    refine sv_iret (pc := 10) dX12_tries_10 rfl (le_t rfl) (le_t rfl) ?_
    refine sv_icmp_eq (pc := 1771) (tgt := 1799) dL_law_1771 (by decide) (fun _ => ?_) (fun h => absurd (by decide) h)
    exact kk _ _ _ (le_t rfl) (le_t rfl)
  refine sv_iload_n (pc := 4) dX11_tries_4 rfl rfl ?_
  refine sv_iconst (pc := 5) (v := 3) dX11_tries_5 (by decide) ?_
  refine sv_icmp_le (pc := 6) (tgt := 11) dX11_tries_6 (by decide) (fun h_2 => ?_) (fun h_2 => ?_)
  · refine sv_aload_n (pc := 11) dX11_tries_11 rfl rfl ?_
    refine sw_getfield (pc := 12) dX11_tries_12 (gCX11 _ _ _ _ _) 9 (by decide) wF_X11_72 rfl rfl rfl ?_
    refine sv_callV (pc := 15) (M' := mX4_explore) (d' := 19) (C' := 0) (S' := 0) (av := []) ?_ (gOk _ _ _ _ _) dX11_tries_15 (tX4_explore _ _ _ _ _) ⟨wV_X4_explore, wL_X4_explore⟩ wM_X11_420 (gCX4 _ _ _ _ _) rfl (lt_t rfl) rfl ⟨le_t rfl, le_t rfl⟩ ⟨le_t rfl, le_t rfl⟩ rfl (le_t rfl) (fun _ _ h => h)
    refine sC.of rfl (by decide) (le_t rfl) ?_
    refine sv_aload_n (pc := 0) dX4_explore_0 rfl rfl ?_
    refine sw_getfield (pc := 1) dX4_explore_1 (gCX4 _ _ _ _ _) 11 (by decide) wF_X4_56 rfl rfl rfl ?_
    refine sv_if_eq (pc := 4) (tgt := 8) dX4_explore_4 (by decide) (fun _ => ?_) (fun h => absurd (by decide) h)
    refine sv_aload_n (pc := 8) dX4_explore_8 rfl rfl ?_
    refine sv_callV (pc := 9) (M' := mX4_prepare) (d' := 18) (C' := 0) (S' := 0) (av := []) ?_ (gOk _ _ _ _ _) dX4_explore_9 (tX4_prepare _ _ _ _ _) ⟨wV_X4_prepare, wL_X4_prepare⟩ wM_X4_79 (gCX4 _ _ _ _ _) rfl (lt_t rfl) rfl ⟨le_t rfl, le_t rfl⟩ ⟨le_t rfl, le_t rfl⟩ rfl (le_t rfl) (fun _ _ h => h)
    refine sC.of rfl (by decide) (le_t rfl) ?_
    refine sv_aload_n (pc := 0) dX4_prepare_0 rfl rfl ?_
    refine sv_iconst (pc := 1) (v := 1) dX4_prepare_1 (by decide) ?_
    refine sw_putfield (pc := 2) dX4_prepare_2 (gCX4 _ _ _ _ _) 9 (by decide) wF_X4_59 rfl rfl rfl (fun _ => rfl) (fun _ => rfl) rfl ?_
    refine sv_bipush (pc := 5) (v := 6) dX4_prepare_5 (by decide) ?_
    refine sv_istore_n (pc := 7) dX4_prepare_7 rfl (by decide) ?_
    refine sv_iload_n (pc := 8) dX4_prepare_8 rfl rfl ?_
    refine sv_iconst (pc := 9) (v := 1) dX4_prepare_9 (by decide) ?_
    refine sv_icmp_lt (pc := 10) (tgt := 73) dX4_prepare_10 (by decide) (fun h => absurd h (by decide)) (fun _ => ?_)
    refine sv_aload_n (pc := 13) dX4_prepare_13 rfl rfl ?_
    refine sw_getfield (pc := 14) dX4_prepare_14 (gCX4 _ _ _ _ _) 4 (by decide) wF_X4_27 rfl rfl rfl ?_
    refine sv_iload_n (pc := 17) dX4_prepare_17 rfl rfl ?_
    refine sv_aload_n (pc := 18) dX4_prepare_18 rfl rfl ?_
    refine sw_getfield (pc := 19) dX4_prepare_19 (gCX4 _ _ _ _ _) 9 (by decide) wF_X4_59 rfl rfl rfl ?_
    refine sw_iastore (pc := 22) (k := 6) (v := .int 1) dX4_prepare_22 rfl rfl rfl (by decide) (by decide) rfl rfl ?_
    refine sv_aload_n (pc := 23) dX4_prepare_23 rfl rfl ?_
    refine sv_dup (pc := 24) dX4_prepare_24 rfl ?_
    refine sw_getfield (pc := 25) dX4_prepare_25 (gCX4 _ _ _ _ _) 9 (by decide) wF_X4_59 rfl rfl rfl ?_
    refine sv_aload_n (pc := 28) dX4_prepare_28 rfl rfl ?_
    refine sw_getfield (pc := 29) dX4_prepare_29 (gCX4 _ _ _ _ _) 12 (by decide) wF_X4_11 rfl rfl rfl ?_
    refine sv_iload_n (pc := 32) dX4_prepare_32 rfl rfl ?_
    refine sw_iaload (pc := 33) (k := 6) (v := .int 0) dX4_prepare_33 rfl rfl rfl (by decide) (by decide) rfl rfl ?_
    refine sv_iconst (pc := 34) (v := 1) dX4_prepare_34 (by decide) ?_
    refine sw_iadd (pc := 35) (v := 1) dX4_prepare_35 (by decide) ?_
    refine sw_imul (pc := 36) (v := 1) dX4_prepare_36 (by decide) ?_
    refine sw_putfield (pc := 37) dX4_prepare_37 (gCX4 _ _ _ _ _) 9 (by decide) wF_X4_59 rfl rfl rfl (fun _ => rfl) (fun _ => rfl) rfl ?_
    refine sv_iconst (pc := 40) (v := 0) dX4_prepare_40 (by decide) ?_
    refine sv_istore_n (pc := 41) dX4_prepare_41 rfl (by decide) ?_
    refine sv_iload_n (pc := 42) dX4_prepare_42 rfl rfl ?_
    refine sv_aload_n (pc := 43) dX4_prepare_43 rfl rfl ?_
    refine sw_getfield (pc := 44) dX4_prepare_44 (gCX4 _ _ _ _ _) 12 (by decide) wF_X4_11 rfl rfl rfl ?_
    refine sv_iload_n (pc := 47) dX4_prepare_47 rfl rfl ?_
    refine sw_iaload (pc := 48) (k := 6) (v := .int 0) dX4_prepare_48 rfl rfl rfl (by decide) (by decide) rfl rfl ?_
    refine sv_icmp_ge (pc := 49) (tgt := 67) dX4_prepare_49 (by decide) (fun _ => ?_) (fun h => absurd (by decide) h)
    refine sw_iinc (pc := 67) (v := 5) dX4_prepare_67 rfl (by decide) (by decide) ?_
    refine sv_goto (pc := 70) (tgt := 8) dX4_prepare_70 (by decide) ?_
    refine sv_iload_n (pc := 8) dX4_prepare_8 rfl rfl ?_
    refine sv_iconst (pc := 9) (v := 1) dX4_prepare_9 (by decide) ?_
    refine sv_icmp_lt (pc := 10) (tgt := 73) dX4_prepare_10 (by decide) (fun h => absurd h (by decide)) (fun _ => ?_)
    refine sv_aload_n (pc := 13) dX4_prepare_13 rfl rfl ?_
    refine sw_getfield (pc := 14) dX4_prepare_14 (gCX4 _ _ _ _ _) 4 (by decide) wF_X4_27 rfl rfl rfl ?_
    refine sv_iload_n (pc := 17) dX4_prepare_17 rfl rfl ?_
    refine sv_aload_n (pc := 18) dX4_prepare_18 rfl rfl ?_
    refine sw_getfield (pc := 19) dX4_prepare_19 (gCX4 _ _ _ _ _) 9 (by decide) wF_X4_59 rfl rfl rfl ?_
    refine sw_iastore (pc := 22) (k := 5) (v := .int 1) dX4_prepare_22 rfl rfl rfl (by decide) (by decide) rfl rfl ?_
    refine sv_aload_n (pc := 23) dX4_prepare_23 rfl rfl ?_
    refine sv_dup (pc := 24) dX4_prepare_24 rfl ?_
    refine sw_getfield (pc := 25) dX4_prepare_25 (gCX4 _ _ _ _ _) 9 (by decide) wF_X4_59 rfl rfl rfl ?_
    refine sv_aload_n (pc := 28) dX4_prepare_28 rfl rfl ?_
    refine sw_getfield (pc := 29) dX4_prepare_29 (gCX4 _ _ _ _ _) 12 (by decide) wF_X4_11 rfl rfl rfl ?_
    refine sv_iload_n (pc := 32) dX4_prepare_32 rfl rfl ?_
    refine sw_iaload (pc := 33) (k := 5) (v := .int 0) dX4_prepare_33 rfl rfl rfl (by decide) (by decide) rfl rfl ?_
    refine sv_iconst (pc := 34) (v := 1) dX4_prepare_34 (by decide) ?_
    refine sw_iadd (pc := 35) (v := 1) dX4_prepare_35 (by decide) ?_
    refine sw_imul (pc := 36) (v := 1) dX4_prepare_36 (by decide) ?_
    refine sw_putfield (pc := 37) dX4_prepare_37 (gCX4 _ _ _ _ _) 9 (by decide) wF_X4_59 rfl rfl rfl (fun _ => rfl) (fun _ => rfl) rfl ?_
    refine sv_iconst (pc := 40) (v := 0) dX4_prepare_40 (by decide) ?_
    refine sv_istore_n (pc := 41) dX4_prepare_41 rfl (by decide) ?_
    refine sv_iload_n (pc := 42) dX4_prepare_42 rfl rfl ?_
    refine sv_aload_n (pc := 43) dX4_prepare_43 rfl rfl ?_
    refine sw_getfield (pc := 44) dX4_prepare_44 (gCX4 _ _ _ _ _) 12 (by decide) wF_X4_11 rfl rfl rfl ?_
    refine sv_iload_n (pc := 47) dX4_prepare_47 rfl rfl ?_
    refine sw_iaload (pc := 48) (k := 5) (v := .int 0) dX4_prepare_48 rfl rfl rfl (by decide) (by decide) rfl rfl ?_
    refine sv_icmp_ge (pc := 49) (tgt := 67) dX4_prepare_49 (by decide) (fun _ => ?_) (fun h => absurd (by decide) h)
    refine sw_iinc (pc := 67) (v := 4) dX4_prepare_67 rfl (by decide) (by decide) ?_
    refine sv_goto (pc := 70) (tgt := 8) dX4_prepare_70 (by decide) ?_
    refine sv_iload_n (pc := 8) dX4_prepare_8 rfl rfl ?_
    refine sv_iconst (pc := 9) (v := 1) dX4_prepare_9 (by decide) ?_
    refine sv_icmp_lt (pc := 10) (tgt := 73) dX4_prepare_10 (by decide) (fun h => absurd h (by decide)) (fun _ => ?_)
    refine sv_aload_n (pc := 13) dX4_prepare_13 rfl rfl ?_
    refine sw_getfield (pc := 14) dX4_prepare_14 (gCX4 _ _ _ _ _) 4 (by decide) wF_X4_27 rfl rfl rfl ?_
    refine sv_iload_n (pc := 17) dX4_prepare_17 rfl rfl ?_
    refine sv_aload_n (pc := 18) dX4_prepare_18 rfl rfl ?_
    refine sw_getfield (pc := 19) dX4_prepare_19 (gCX4 _ _ _ _ _) 9 (by decide) wF_X4_59 rfl rfl rfl ?_
    refine sw_iastore (pc := 22) (k := 4) (v := .int 1) dX4_prepare_22 rfl rfl rfl (by decide) (by decide) rfl rfl ?_
    refine sv_aload_n (pc := 23) dX4_prepare_23 rfl rfl ?_
    refine sv_dup (pc := 24) dX4_prepare_24 rfl ?_
    refine sw_getfield (pc := 25) dX4_prepare_25 (gCX4 _ _ _ _ _) 9 (by decide) wF_X4_59 rfl rfl rfl ?_
    refine sv_aload_n (pc := 28) dX4_prepare_28 rfl rfl ?_
    refine sw_getfield (pc := 29) dX4_prepare_29 (gCX4 _ _ _ _ _) 12 (by decide) wF_X4_11 rfl rfl rfl ?_
    refine sv_iload_n (pc := 32) dX4_prepare_32 rfl rfl ?_
    refine sw_iaload (pc := 33) (k := 4) (v := .int 0) dX4_prepare_33 rfl rfl rfl (by decide) (by decide) rfl rfl ?_
    refine sv_iconst (pc := 34) (v := 1) dX4_prepare_34 (by decide) ?_
    refine sw_iadd (pc := 35) (v := 1) dX4_prepare_35 (by decide) ?_
    refine sw_imul (pc := 36) (v := 1) dX4_prepare_36 (by decide) ?_
    refine sw_putfield (pc := 37) dX4_prepare_37 (gCX4 _ _ _ _ _) 9 (by decide) wF_X4_59 rfl rfl rfl (fun _ => rfl) (fun _ => rfl) rfl ?_
    refine sv_iconst (pc := 40) (v := 0) dX4_prepare_40 (by decide) ?_
    refine sv_istore_n (pc := 41) dX4_prepare_41 rfl (by decide) ?_
    refine sv_iload_n (pc := 42) dX4_prepare_42 rfl rfl ?_
    refine sv_aload_n (pc := 43) dX4_prepare_43 rfl rfl ?_
    refine sw_getfield (pc := 44) dX4_prepare_44 (gCX4 _ _ _ _ _) 12 (by decide) wF_X4_11 rfl rfl rfl ?_
    refine sv_iload_n (pc := 47) dX4_prepare_47 rfl rfl ?_
    refine sw_iaload (pc := 48) (k := 4) (v := .int 0) dX4_prepare_48 rfl rfl rfl (by decide) (by decide) rfl rfl ?_
    refine sv_icmp_ge (pc := 49) (tgt := 67) dX4_prepare_49 (by decide) (fun _ => ?_) (fun h => absurd (by decide) h)
    refine sw_iinc (pc := 67) (v := 3) dX4_prepare_67 rfl (by decide) (by decide) ?_
    refine sv_goto (pc := 70) (tgt := 8) dX4_prepare_70 (by decide) ?_
    refine sv_iload_n (pc := 8) dX4_prepare_8 rfl rfl ?_
    refine sv_iconst (pc := 9) (v := 1) dX4_prepare_9 (by decide) ?_
    refine sv_icmp_lt (pc := 10) (tgt := 73) dX4_prepare_10 (by decide) (fun h => absurd h (by decide)) (fun _ => ?_)
    refine sv_aload_n (pc := 13) dX4_prepare_13 rfl rfl ?_
    refine sw_getfield (pc := 14) dX4_prepare_14 (gCX4 _ _ _ _ _) 4 (by decide) wF_X4_27 rfl rfl rfl ?_
    refine sv_iload_n (pc := 17) dX4_prepare_17 rfl rfl ?_
    refine sv_aload_n (pc := 18) dX4_prepare_18 rfl rfl ?_
    refine sw_getfield (pc := 19) dX4_prepare_19 (gCX4 _ _ _ _ _) 9 (by decide) wF_X4_59 rfl rfl rfl ?_
    refine sw_iastore (pc := 22) (k := 3) (v := .int 1) dX4_prepare_22 rfl rfl rfl (by decide) (by decide) rfl rfl ?_
    refine sv_aload_n (pc := 23) dX4_prepare_23 rfl rfl ?_
    refine sv_dup (pc := 24) dX4_prepare_24 rfl ?_
    refine sw_getfield (pc := 25) dX4_prepare_25 (gCX4 _ _ _ _ _) 9 (by decide) wF_X4_59 rfl rfl rfl ?_
    refine sv_aload_n (pc := 28) dX4_prepare_28 rfl rfl ?_
    refine sw_getfield (pc := 29) dX4_prepare_29 (gCX4 _ _ _ _ _) 12 (by decide) wF_X4_11 rfl rfl rfl ?_
    refine sv_iload_n (pc := 32) dX4_prepare_32 rfl rfl ?_
    refine sw_iaload (pc := 33) (k := 3) (v := .int 0) dX4_prepare_33 rfl rfl rfl (by decide) (by decide) rfl rfl ?_
    refine sv_iconst (pc := 34) (v := 1) dX4_prepare_34 (by decide) ?_
    refine sw_iadd (pc := 35) (v := 1) dX4_prepare_35 (by decide) ?_
    refine sw_imul (pc := 36) (v := 1) dX4_prepare_36 (by decide) ?_
    refine sw_putfield (pc := 37) dX4_prepare_37 (gCX4 _ _ _ _ _) 9 (by decide) wF_X4_59 rfl rfl rfl (fun _ => rfl) (fun _ => rfl) rfl ?_
    refine sv_iconst (pc := 40) (v := 0) dX4_prepare_40 (by decide) ?_
    refine sv_istore_n (pc := 41) dX4_prepare_41 rfl (by decide) ?_
    refine sv_lvG (pc := 42) (lv' := [(0, .ref 94), (1, .int 3), (2, .int 0)]) (List.forall_mem_cons.mpr ⟨rfl, List.forall_mem_cons.mpr ⟨rfl, List.forall_mem_cons.mpr ⟨rfl, fun _ h => absurd h List.not_mem_nil⟩⟩⟩) ?_
    refine sv_iload_n (pc := 42) dX4_prepare_42 rfl rfl ?_
    refine sv_aload_n (pc := 43) dX4_prepare_43 rfl rfl ?_
    refine sw_getfield (pc := 44) dX4_prepare_44 (gCX4 _ _ _ _ _) 12 (by decide) wF_X4_11 rfl rfl rfl ?_
    refine sv_iload_n (pc := 47) dX4_prepare_47 rfl rfl ?_
    refine sw_iaload (pc := 48) (k := 3) (v := .int 0) dX4_prepare_48 rfl rfl rfl (by decide) (by decide) rfl rfl ?_
    refine sv_icmp_ge (pc := 49) (tgt := 67) dX4_prepare_49 (by decide) (fun _ => ?_) (fun h => absurd (by decide) h)
    refine sw_iinc (pc := 67) (v := 2) dX4_prepare_67 rfl (by decide) (by decide) ?_
    refine sv_goto (pc := 70) (tgt := 8) dX4_prepare_70 (by decide) ?_
    refine sv_iload_n (pc := 8) dX4_prepare_8 rfl rfl ?_
    refine sv_iconst (pc := 9) (v := 1) dX4_prepare_9 (by decide) ?_
    refine sv_icmp_lt (pc := 10) (tgt := 73) dX4_prepare_10 (by decide) (fun h => absurd h (by decide)) (fun _ => ?_)
    refine sv_aload_n (pc := 13) dX4_prepare_13 rfl rfl ?_
    refine sw_getfield (pc := 14) dX4_prepare_14 (gCX4 _ _ _ _ _) 4 (by decide) wF_X4_27 rfl rfl rfl ?_
    refine sv_iload_n (pc := 17) dX4_prepare_17 rfl rfl ?_
    refine sv_aload_n (pc := 18) dX4_prepare_18 rfl rfl ?_
    refine sw_getfield (pc := 19) dX4_prepare_19 (gCX4 _ _ _ _ _) 9 (by decide) wF_X4_59 rfl rfl rfl ?_
    refine sw_iastore (pc := 22) (k := 2) (v := .int 1) dX4_prepare_22 rfl rfl rfl (by decide) (by decide) rfl rfl ?_
    refine sv_aload_n (pc := 23) dX4_prepare_23 rfl rfl ?_
    refine sv_dup (pc := 24) dX4_prepare_24 rfl ?_
    refine sw_getfield (pc := 25) dX4_prepare_25 (gCX4 _ _ _ _ _) 9 (by decide) wF_X4_59 rfl rfl rfl ?_
    refine sv_aload_n (pc := 28) dX4_prepare_28 rfl rfl ?_
    refine sw_getfield (pc := 29) dX4_prepare_29 (gCX4 _ _ _ _ _) 12 (by decide) wF_X4_11 rfl rfl rfl ?_
    refine sv_iload_n (pc := 32) dX4_prepare_32 rfl rfl ?_
    refine sw_iaload (pc := 33) (k := 2) (v := .int 0) dX4_prepare_33 rfl rfl rfl (by decide) (by decide) rfl rfl ?_
    refine sv_iconst (pc := 34) (v := 1) dX4_prepare_34 (by decide) ?_
    refine sw_iadd (pc := 35) (v := 1) dX4_prepare_35 (by decide) ?_
    refine sw_imul (pc := 36) (v := 1) dX4_prepare_36 (by decide) ?_
    refine sw_putfield (pc := 37) dX4_prepare_37 (gCX4 _ _ _ _ _) 9 (by decide) wF_X4_59 rfl rfl rfl (fun _ => rfl) (fun _ => rfl) rfl ?_
    refine sv_iconst (pc := 40) (v := 0) dX4_prepare_40 (by decide) ?_
    refine sv_istore_n (pc := 41) dX4_prepare_41 rfl (by decide) ?_
    refine sv_iload_n (pc := 42) dX4_prepare_42 rfl rfl ?_
    refine sv_aload_n (pc := 43) dX4_prepare_43 rfl rfl ?_
    refine sw_getfield (pc := 44) dX4_prepare_44 (gCX4 _ _ _ _ _) 12 (by decide) wF_X4_11 rfl rfl rfl ?_
    refine sv_iload_n (pc := 47) dX4_prepare_47 rfl rfl ?_
    refine sw_iaload (pc := 48) (k := 2) (v := .int 0) dX4_prepare_48 rfl rfl rfl (by decide) (by decide) rfl rfl ?_
    refine sv_icmp_ge (pc := 49) (tgt := 67) dX4_prepare_49 (by decide) (fun _ => ?_) (fun h => absurd (by decide) h)
    refine sw_iinc (pc := 67) (v := 1) dX4_prepare_67 rfl (by decide) (by decide) ?_
    refine sv_goto (pc := 70) (tgt := 8) dX4_prepare_70 (by decide) ?_
    refine sv_iload_n (pc := 8) dX4_prepare_8 rfl rfl ?_
    refine sv_iconst (pc := 9) (v := 1) dX4_prepare_9 (by decide) ?_
    refine sv_icmp_lt (pc := 10) (tgt := 73) dX4_prepare_10 (by decide) (fun h => absurd h (by decide)) (fun _ => ?_)
    refine sv_aload_n (pc := 13) dX4_prepare_13 rfl rfl ?_
    refine sw_getfield (pc := 14) dX4_prepare_14 (gCX4 _ _ _ _ _) 4 (by decide) wF_X4_27 rfl rfl rfl ?_
    refine sv_iload_n (pc := 17) dX4_prepare_17 rfl rfl ?_
    refine sv_aload_n (pc := 18) dX4_prepare_18 rfl rfl ?_
    refine sw_getfield (pc := 19) dX4_prepare_19 (gCX4 _ _ _ _ _) 9 (by decide) wF_X4_59 rfl rfl rfl ?_
    refine sw_iastore (pc := 22) (k := 1) (v := .int 1) dX4_prepare_22 rfl rfl rfl (by decide) (by decide) rfl rfl ?_
    refine sv_aload_n (pc := 23) dX4_prepare_23 rfl rfl ?_
    refine sv_dup (pc := 24) dX4_prepare_24 rfl ?_
    refine sw_getfield (pc := 25) dX4_prepare_25 (gCX4 _ _ _ _ _) 9 (by decide) wF_X4_59 rfl rfl rfl ?_
    refine sv_aload_n (pc := 28) dX4_prepare_28 rfl rfl ?_
    refine sw_getfield (pc := 29) dX4_prepare_29 (gCX4 _ _ _ _ _) 12 (by decide) wF_X4_11 rfl rfl rfl ?_
    refine sv_iload_n (pc := 32) dX4_prepare_32 rfl rfl ?_
    refine sw_iaload (pc := 33) (k := 1) (v := .int 0) dX4_prepare_33 rfl rfl rfl (by decide) (by decide) rfl rfl ?_
    refine sv_iconst (pc := 34) (v := 1) dX4_prepare_34 (by decide) ?_
    refine sw_iadd (pc := 35) (v := 1) dX4_prepare_35 (by decide) ?_
    refine sw_imul (pc := 36) (v := 1) dX4_prepare_36 (by decide) ?_
    refine sw_putfield (pc := 37) dX4_prepare_37 (gCX4 _ _ _ _ _) 9 (by decide) wF_X4_59 rfl rfl rfl (fun _ => rfl) (fun _ => rfl) rfl ?_
    refine sv_iconst (pc := 40) (v := 0) dX4_prepare_40 (by decide) ?_
    refine sv_istore_n (pc := 41) dX4_prepare_41 rfl (by decide) ?_
    refine sv_iload_n (pc := 42) dX4_prepare_42 rfl rfl ?_
    refine sv_aload_n (pc := 43) dX4_prepare_43 rfl rfl ?_
    refine sw_getfield (pc := 44) dX4_prepare_44 (gCX4 _ _ _ _ _) 12 (by decide) wF_X4_11 rfl rfl rfl ?_
    refine sv_iload_n (pc := 47) dX4_prepare_47 rfl rfl ?_
    refine sw_iaload (pc := 48) (k := 1) (v := .int 0) dX4_prepare_48 rfl rfl rfl (by decide) (by decide) rfl rfl ?_
    refine sv_icmp_ge (pc := 49) (tgt := 67) dX4_prepare_49 (by decide) (fun _ => ?_) (fun h => absurd (by decide) h)
    refine sw_iinc (pc := 67) (v := 0) dX4_prepare_67 rfl (by decide) (by decide) ?_
    refine sv_goto (pc := 70) (tgt := 8) dX4_prepare_70 (by decide) ?_
    refine sv_iload_n (pc := 8) dX4_prepare_8 rfl rfl ?_
    refine sv_iconst (pc := 9) (v := 1) dX4_prepare_9 (by decide) ?_
    refine sv_icmp_lt (pc := 10) (tgt := 73) dX4_prepare_10 (by decide) (fun _ => ?_) (fun h => absurd (by decide) h)
    refine sv_vret (pc := 73) dX4_prepare_73 rfl (le_t rfl) (le_t rfl) ?_
    refine sv_aload_n (pc := 12) dX4_explore_12 rfl rfl ?_
    refine sv_callV (pc := 13) (M' := mX4_makeRoom) (d' := 18) (C' := 0) (S' := 0) (av := []) ?_ (gOk _ _ _ _ _) dX4_explore_13 (tX4_makeRoom _ _ _ _ _) ⟨wV_X4_makeRoom, wL_X4_makeRoom⟩ wM_X4_104 (gCX4 _ _ _ _ _) rfl (lt_t rfl) rfl ⟨le_t rfl, le_t rfl⟩ ⟨le_t rfl, le_t rfl⟩ rfl (le_t rfl) (fun _ _ h => h)
    refine sC.of rfl (by decide) (le_t rfl) ?_
    refine sv_aload_n (pc := 0) dX4_makeRoom_0 rfl rfl ?_
    refine sw_getfield (pc := 1) dX4_makeRoom_1 (gCX4 _ _ _ _ _) 9 (by decide) wF_X4_59 rfl rfl rfl ?_
    refine sv_aload_n (pc := 4) dX4_makeRoom_4 rfl rfl ?_
    refine sw_getfield (pc := 5) dX4_makeRoom_5 (gCX4 _ _ _ _ _) 6 (by decide) wF_X4_33 rfl rfl rfl ?_
    refine sv_arraylength (pc := 8) (v := 16) (ty := .int) dX4_makeRoom_8 rfl (lt_t rfl) rfl (by decide) ?_
    refine sv_icmp_le (pc := 9) (tgt := 41) dX4_makeRoom_9 (by decide) (fun _ => ?_) (fun h => absurd (by decide) h)
    refine sv_aload_n (pc := 41) dX4_makeRoom_41 rfl rfl ?_
    refine sw_getfield (pc := 42) dX4_makeRoom_42 (gCX4 _ _ _ _ _) 8 (by decide) wF_X4_39 rfl rfl rfl ?_
    refine sv_iconst (pc := 45) (v := 0) dX4_makeRoom_45 (by decide) ?_
    refine sv_callS (pc := 46) (c_fillB _ _ _ _ _ (d := 17) (lt_t rfl) rfl (by decide)) (gOk _ _ _ _ _) dX4_makeRoom_46 (tJ_fillB _ _ _ _ _) wS_J_fillB wM_X4_119 ⟨le_t rfl, le_t rfl⟩ ⟨le_t rfl, le_t rfl⟩ rfl (le_t rfl) ?_
    rintro _ _ ⟨rfl, rfl⟩
    refine sv_vret (pc := 49) dX4_makeRoom_49 rfl (le_t rfl) (le_t rfl) ?_
    refine sv_aload_n (pc := 16) dX4_explore_16 rfl rfl ?_
    refine sv_callV (pc := 17) (M' := mX4_spread) (d' := 18) (C' := 0) (S' := 0) (av := []) ?_ (gOk _ _ _ _ _) dX4_explore_17 (tX4_spread _ _ _ _ _) ⟨wV_X4_spread, wL_X4_spread⟩ wM_X4_107 (gCX4 _ _ _ _ _) rfl (lt_t rfl) rfl ⟨le_t rfl, le_t rfl⟩ ⟨le_t rfl, le_t rfl⟩ rfl (le_t rfl) (fun _ _ h => h)
    refine sC.of rfl (by decide) (le_t rfl) ?_
    refine sv_aload_n (pc := 0) dX4_spread_0 rfl rfl ?_
    refine sw_getfield (pc := 1) dX4_spread_1 (gCX4 _ _ _ _ _) 13 (by decide) wF_X4_43 rfl rfl rfl ?_
    refine sv_iconst (pc := 4) (v := 1) dX4_spread_4 (by decide) ?_
    refine sv_iconst (pc := 5) (v := 0) dX4_spread_5 (by decide) ?_
    refine sw_iastore (pc := 6) (k := 1) (v := .int 0) dX4_spread_6 rfl rfl rfl (by decide) (by decide) rfl rfl ?_
    refine sv_aload_n (pc := 7) dX4_spread_7 rfl rfl ?_
    refine sw_getfield (pc := 8) dX4_spread_8 (gCX4 _ _ _ _ _) 13 (by decide) wF_X4_43 rfl rfl rfl ?_
    refine sv_iconst (pc := 11) (v := 3) dX4_spread_11 (by decide) ?_
    refine sv_ldc (pc := 12) dX4_spread_12 wG_X4_123 ?_
    refine sw_iastore (pc := 14) (k := 3) (v := .int (-99999999)) dX4_spread_14 rfl rfl rfl (by decide) (by decide) rfl rfl ?_
    refine sv_aload_n (pc := 15) dX4_spread_15 rfl rfl ?_
    refine sw_getfield (pc := 16) dX4_spread_16 (gCX4 _ _ _ _ _) 6 (by decide) wF_X4_33 rfl rfl rfl ?_
    refine sv_iconst (pc := 19) (v := 0) dX4_spread_19 (by decide) ?_
    refine sv_aload_n (pc := 20) dX4_spread_20 rfl rfl ?_
    refine sw_getfield (pc := 21) dX4_spread_21 (gCX4 _ _ _ _ _) 9 (by decide) wF_X4_59 rfl rfl rfl ?_
    refine sv_iconst (pc := 24) (v := 1) dX4_spread_24 (by decide) ?_
    refine sw_isub (pc := 25) (v := 0) dX4_spread_25 (by decide) ?_
    refine sw_iastore (pc := 26) (k := 0) (v := .int 0) dX4_spread_26 rfl rfl rfl (by decide) (by decide) rfl rfl ?_
    refine sv_aload_n (pc := 27) dX4_spread_27 rfl rfl ?_
    refine sw_getfield (pc := 28) dX4_spread_28 (gCX4 _ _ _ _ _) 8 (by decide) wF_X4_39 rfl rfl rfl ?_
    refine sv_aload_n (pc := 31) dX4_spread_31 rfl rfl ?_
    refine sw_getfield (pc := 32) dX4_spread_32 (gCX4 _ _ _ _ _) 9 (by decide) wF_X4_59 rfl rfl rfl ?_
    refine sv_iconst (pc := 35) (v := 1) dX4_spread_35 (by decide) ?_
    refine sw_isub (pc := 36) (v := 0) dX4_spread_36 (by decide) ?_
    refine sv_iconst (pc := 37) (v := 1) dX4_spread_37 (by decide) ?_
    refine sw_bastore (pc := 38) (k := 0) (v := .int 1) dX4_spread_38 rfl rfl rfl (by decide) (by decide) rfl (by decide) ?_
    refine sv_iconst (pc := 39) (v := 1) dX4_spread_39 (by decide) ?_
    refine sv_istore_n (pc := 40) dX4_spread_40 rfl (by decide) ?_
    refine sv_iconst (pc := 41) (v := 0) dX4_spread_41 (by decide) ?_
    refine sv_istore_n (pc := 42) dX4_spread_42 rfl (by decide) ?_
    refine sv_iconst (pc := 43) (v := 1) dX4_spread_43 (by decide) ?_
    refine sv_istore_n (pc := 44) dX4_spread_44 rfl (by decide) ?_
    refine sv_iconst (pc := 45) (v := 0) dX4_spread_45 (by decide) ?_
    refine sv_istore (pc := 46) dX4_spread_46 (by decide) ?_
    refine sv_iload (pc := 48) dX4_spread_48 rfl ?_
    refine sv_iload_n (pc := 50) dX4_spread_50 rfl rfl ?_
    refine sv_icmp_ge (pc := 51) (tgt := 156) dX4_spread_51 (by decide) (fun h => absurd h (by decide)) (fun _ => ?_)
    refine sv_iload (pc := 54) dX4_spread_54 rfl ?_
    refine sv_iload_n (pc := 56) dX4_spread_56 rfl rfl ?_
    refine sv_icmp_ne (pc := 57) (tgt := 65) dX4_spread_57 (by decide) (fun _ => ?_) (fun h => absurd h (by decide))
    refine sv_aload_n (pc := 65) dX4_spread_65 rfl rfl ?_
    refine sv_aload_n (pc := 66) dX4_spread_66 rfl rfl ?_
    refine sw_getfield (pc := 67) dX4_spread_67 (gCX4 _ _ _ _ _) 6 (by decide) wF_X4_33 rfl rfl rfl ?_
    refine sv_iload (pc := 70) dX4_spread_70 rfl ?_
    refine sw_iaload (pc := 72) (k := 0) (v := .int 0) dX4_spread_72 rfl rfl rfl (by decide) (by decide) rfl rfl ?_
    refine sv_callV (pc := 73) (M' := mX4_unfold) (d' := 17) (C' := 0) (S' := 0) (av := [.int 0]) ?_ (gOk _ _ _ _ _) dX4_spread_73 (tX4_unfold _ _ _ _ _) ⟨wV_X4_unfold, wL_X4_unfold⟩ wM_X4_85 (gCX4 _ _ _ _ _) rfl (lt_t rfl) rfl ⟨le_t rfl, le_t rfl⟩ ⟨le_t rfl, le_t rfl⟩ rfl (le_t rfl) (fun _ _ h => h)
    refine sC.of rfl (by decide) (le_t rfl) ?_
    refine sv_iconst (pc := 0) (v := 1) dX4_unfold_0 (by decide) ?_
    refine sv_istore_n (pc := 1) dX4_unfold_1 rfl (by decide) ?_
    refine sv_iload_n (pc := 2) dX4_unfold_2 rfl rfl ?_
    refine sv_bipush (pc := 3) (v := 7) dX4_unfold_3 (by decide) ?_
    refine sv_icmp_ge (pc := 5) (tgt := 26) dX4_unfold_5 (by decide) (fun h => absurd h (by decide)) (fun _ => ?_)
    refine sv_aload_n (pc := 8) dX4_unfold_8 rfl rfl ?_
    refine sw_getfield (pc := 9) dX4_unfold_9 (gCX4 _ _ _ _ _) 5 (by decide) wF_X4_30 rfl rfl rfl ?_
    refine sv_iload_n (pc := 12) dX4_unfold_12 rfl rfl ?_
    refine sv_aload_n (pc := 13) dX4_unfold_13 rfl rfl ?_
    refine sv_iload_n (pc := 14) dX4_unfold_14 rfl rfl ?_
    refine sv_iload_n (pc := 15) dX4_unfold_15 rfl rfl ?_
    refine sv_callV (pc := 16) (M' := mX4_figure) (d' := 16) (C' := 0) (S' := 0) (av := [.int 0, .int 1]) ?_ (gOk _ _ _ _ _) dX4_unfold_16 (tX4_figure _ _ _ _ _) ⟨wV_X4_figure, wL_X4_figure⟩ wM_X4_75 (gCX4 _ _ _ _ _) rfl (lt_t rfl) rfl ⟨le_t rfl, le_t rfl⟩ ⟨le_t rfl, le_t rfl⟩ rfl (le_t rfl) (fun _ _ h => h)
    refine sC.of rfl (by decide) (le_t rfl) ?_
    refine sv_aload_n (pc := 0) dX4_figure_0 rfl rfl ?_
    refine sw_getfield (pc := 1) dX4_figure_1 (gCX4 _ _ _ _ _) 4 (by decide) wF_X4_27 rfl rfl rfl ?_
    refine sv_iload_n (pc := 4) dX4_figure_4 rfl rfl ?_
    refine sw_iaload (pc := 5) (k := 1) (v := .int 1) dX4_figure_5 rfl rfl rfl (by decide) (by decide) rfl rfl ?_
    refine sv_istore_n (pc := 6) dX4_figure_6 rfl (by decide) ?_
    refine sv_iload_n (pc := 7) dX4_figure_7 rfl rfl ?_
    refine sv_if_le (pc := 8) (tgt := 26) dX4_figure_8 (by decide) (fun h => absurd h (by decide)) (fun _ => ?_)
    refine sv_iload_n (pc := 11) dX4_figure_11 rfl rfl ?_
    refine sv_iload_n (pc := 12) dX4_figure_12 rfl rfl ?_
    refine sw_idiv (pc := 13) (v := 0) dX4_figure_13 (by decide) (by decide) ?_
    refine sv_aload_n (pc := 14) dX4_figure_14 rfl rfl ?_
    refine sw_getfield (pc := 15) dX4_figure_15 (gCX4 _ _ _ _ _) 12 (by decide) wF_X4_11 rfl rfl rfl ?_
    refine sv_iload_n (pc := 18) dX4_figure_18 rfl rfl ?_
    refine sw_iaload (pc := 19) (k := 1) (v := .int 0) dX4_figure_19 rfl rfl rfl (by decide) (by decide) rfl rfl ?_
    refine sv_iconst (pc := 20) (v := 1) dX4_figure_20 (by decide) ?_
    refine sw_iadd (pc := 21) (v := 1) dX4_figure_21 (by decide) ?_
    refine sw_irem (pc := 22) (v := 0) dX4_figure_22 (by decide) (by decide) ?_
    refine sv_goto (pc := 23) (tgt := 27) dX4_figure_23 (by decide) ?_
    refine sv_iret (pc := 27) dX4_figure_27 rfl (le_t rfl) (le_t rfl) ?_
    refine sw_iastore (pc := 19) (k := 1) (v := .int 0) dX4_unfold_19 rfl rfl rfl (by decide) (by decide) rfl rfl ?_
    refine sw_iinc (pc := 20) (v := 2) dX4_unfold_20 rfl (by decide) (by decide) ?_
    refine sv_goto (pc := 23) (tgt := 2) dX4_unfold_23 (by decide) ?_
    refine sv_iload_n (pc := 2) dX4_unfold_2 rfl rfl ?_
    refine sv_bipush (pc := 3) (v := 7) dX4_unfold_3 (by decide) ?_
    refine sv_icmp_ge (pc := 5) (tgt := 26) dX4_unfold_5 (by decide) (fun h => absurd h (by decide)) (fun _ => ?_)
    refine sv_aload_n (pc := 8) dX4_unfold_8 rfl rfl ?_
    refine sw_getfield (pc := 9) dX4_unfold_9 (gCX4 _ _ _ _ _) 5 (by decide) wF_X4_30 rfl rfl rfl ?_
    refine sv_iload_n (pc := 12) dX4_unfold_12 rfl rfl ?_
    refine sv_aload_n (pc := 13) dX4_unfold_13 rfl rfl ?_
    refine sv_iload_n (pc := 14) dX4_unfold_14 rfl rfl ?_
    refine sv_iload_n (pc := 15) dX4_unfold_15 rfl rfl ?_
    refine sv_callV (pc := 16) (M' := mX4_figure) (d' := 16) (C' := 0) (S' := 0) (av := [.int 0, .int 2]) ?_ (gOk _ _ _ _ _) dX4_unfold_16 (tX4_figure _ _ _ _ _) ⟨wV_X4_figure, wL_X4_figure⟩ wM_X4_75 (gCX4 _ _ _ _ _) rfl (lt_t rfl) rfl ⟨le_t rfl, le_t rfl⟩ ⟨le_t rfl, le_t rfl⟩ rfl (le_t rfl) (fun _ _ h => h)
    refine sC.of rfl (by decide) (le_t rfl) ?_
    refine sv_aload_n (pc := 0) dX4_figure_0 rfl rfl ?_
    refine sw_getfield (pc := 1) dX4_figure_1 (gCX4 _ _ _ _ _) 4 (by decide) wF_X4_27 rfl rfl rfl ?_
    refine sv_iload_n (pc := 4) dX4_figure_4 rfl rfl ?_
    refine sw_iaload (pc := 5) (k := 2) (v := .int 1) dX4_figure_5 rfl rfl rfl (by decide) (by decide) rfl rfl ?_
    refine sv_istore_n (pc := 6) dX4_figure_6 rfl (by decide) ?_
    refine sv_iload_n (pc := 7) dX4_figure_7 rfl rfl ?_
    refine sv_if_le (pc := 8) (tgt := 26) dX4_figure_8 (by decide) (fun h => absurd h (by decide)) (fun _ => ?_)
    refine sv_iload_n (pc := 11) dX4_figure_11 rfl rfl ?_
    refine sv_iload_n (pc := 12) dX4_figure_12 rfl rfl ?_
    refine sw_idiv (pc := 13) (v := 0) dX4_figure_13 (by decide) (by decide) ?_
    refine sv_aload_n (pc := 14) dX4_figure_14 rfl rfl ?_
    refine sw_getfield (pc := 15) dX4_figure_15 (gCX4 _ _ _ _ _) 12 (by decide) wF_X4_11 rfl rfl rfl ?_
    refine sv_iload_n (pc := 18) dX4_figure_18 rfl rfl ?_
    refine sw_iaload (pc := 19) (k := 2) (v := .int 0) dX4_figure_19 rfl rfl rfl (by decide) (by decide) rfl rfl ?_
    refine sv_iconst (pc := 20) (v := 1) dX4_figure_20 (by decide) ?_
    refine sw_iadd (pc := 21) (v := 1) dX4_figure_21 (by decide) ?_
    refine sw_irem (pc := 22) (v := 0) dX4_figure_22 (by decide) (by decide) ?_
    refine sv_goto (pc := 23) (tgt := 27) dX4_figure_23 (by decide) ?_
    refine sv_iret (pc := 27) dX4_figure_27 rfl (le_t rfl) (le_t rfl) ?_
    refine sw_iastore (pc := 19) (k := 2) (v := .int 0) dX4_unfold_19 rfl rfl rfl (by decide) (by decide) rfl rfl ?_
    refine sw_iinc (pc := 20) (v := 3) dX4_unfold_20 rfl (by decide) (by decide) ?_
    refine sv_goto (pc := 23) (tgt := 2) dX4_unfold_23 (by decide) ?_
    refine sv_iload_n (pc := 2) dX4_unfold_2 rfl rfl ?_
    refine sv_bipush (pc := 3) (v := 7) dX4_unfold_3 (by decide) ?_
    refine sv_icmp_ge (pc := 5) (tgt := 26) dX4_unfold_5 (by decide) (fun h => absurd h (by decide)) (fun _ => ?_)
    refine sv_aload_n (pc := 8) dX4_unfold_8 rfl rfl ?_
    refine sw_getfield (pc := 9) dX4_unfold_9 (gCX4 _ _ _ _ _) 5 (by decide) wF_X4_30 rfl rfl rfl ?_
    refine sv_iload_n (pc := 12) dX4_unfold_12 rfl rfl ?_
    refine sv_aload_n (pc := 13) dX4_unfold_13 rfl rfl ?_
    refine sv_iload_n (pc := 14) dX4_unfold_14 rfl rfl ?_
    refine sv_iload_n (pc := 15) dX4_unfold_15 rfl rfl ?_
    refine sv_callV (pc := 16) (M' := mX4_figure) (d' := 16) (C' := 0) (S' := 0) (av := [.int 0, .int 3]) ?_ (gOk _ _ _ _ _) dX4_unfold_16 (tX4_figure _ _ _ _ _) ⟨wV_X4_figure, wL_X4_figure⟩ wM_X4_75 (gCX4 _ _ _ _ _) rfl (lt_t rfl) rfl ⟨le_t rfl, le_t rfl⟩ ⟨le_t rfl, le_t rfl⟩ rfl (le_t rfl) (fun _ _ h => h)
    refine sC.of rfl (by decide) (le_t rfl) ?_
    refine sv_aload_n (pc := 0) dX4_figure_0 rfl rfl ?_
    refine sw_getfield (pc := 1) dX4_figure_1 (gCX4 _ _ _ _ _) 4 (by decide) wF_X4_27 rfl rfl rfl ?_
    refine sv_iload_n (pc := 4) dX4_figure_4 rfl rfl ?_
    refine sw_iaload (pc := 5) (k := 3) (v := .int 1) dX4_figure_5 rfl rfl rfl (by decide) (by decide) rfl rfl ?_
    refine sv_istore_n (pc := 6) dX4_figure_6 rfl (by decide) ?_
    refine sv_iload_n (pc := 7) dX4_figure_7 rfl rfl ?_
    refine sv_if_le (pc := 8) (tgt := 26) dX4_figure_8 (by decide) (fun h => absurd h (by decide)) (fun _ => ?_)
    refine sv_iload_n (pc := 11) dX4_figure_11 rfl rfl ?_
    refine sv_iload_n (pc := 12) dX4_figure_12 rfl rfl ?_
    refine sw_idiv (pc := 13) (v := 0) dX4_figure_13 (by decide) (by decide) ?_
    refine sv_aload_n (pc := 14) dX4_figure_14 rfl rfl ?_
    refine sw_getfield (pc := 15) dX4_figure_15 (gCX4 _ _ _ _ _) 12 (by decide) wF_X4_11 rfl rfl rfl ?_
    refine sv_iload_n (pc := 18) dX4_figure_18 rfl rfl ?_
    refine sw_iaload (pc := 19) (k := 3) (v := .int 0) dX4_figure_19 rfl rfl rfl (by decide) (by decide) rfl rfl ?_
    refine sv_iconst (pc := 20) (v := 1) dX4_figure_20 (by decide) ?_
    refine sw_iadd (pc := 21) (v := 1) dX4_figure_21 (by decide) ?_
    refine sw_irem (pc := 22) (v := 0) dX4_figure_22 (by decide) (by decide) ?_
    refine sv_goto (pc := 23) (tgt := 27) dX4_figure_23 (by decide) ?_
    refine sv_iret (pc := 27) dX4_figure_27 rfl (le_t rfl) (le_t rfl) ?_
    refine sw_iastore (pc := 19) (k := 3) (v := .int 0) dX4_unfold_19 rfl rfl rfl (by decide) (by decide) rfl rfl ?_
    refine sw_iinc (pc := 20) (v := 4) dX4_unfold_20 rfl (by decide) (by decide) ?_
    refine sv_goto (pc := 23) (tgt := 2) dX4_unfold_23 (by decide) ?_
    refine sv_iload_n (pc := 2) dX4_unfold_2 rfl rfl ?_
    refine sv_bipush (pc := 3) (v := 7) dX4_unfold_3 (by decide) ?_
    refine sv_icmp_ge (pc := 5) (tgt := 26) dX4_unfold_5 (by decide) (fun h => absurd h (by decide)) (fun _ => ?_)
    refine sv_aload_n (pc := 8) dX4_unfold_8 rfl rfl ?_
    refine sw_getfield (pc := 9) dX4_unfold_9 (gCX4 _ _ _ _ _) 5 (by decide) wF_X4_30 rfl rfl rfl ?_
    refine sv_iload_n (pc := 12) dX4_unfold_12 rfl rfl ?_
    refine sv_aload_n (pc := 13) dX4_unfold_13 rfl rfl ?_
    refine sv_iload_n (pc := 14) dX4_unfold_14 rfl rfl ?_
    refine sv_iload_n (pc := 15) dX4_unfold_15 rfl rfl ?_
    refine sv_callV (pc := 16) (M' := mX4_figure) (d' := 16) (C' := 0) (S' := 0) (av := [.int 0, .int 4]) ?_ (gOk _ _ _ _ _) dX4_unfold_16 (tX4_figure _ _ _ _ _) ⟨wV_X4_figure, wL_X4_figure⟩ wM_X4_75 (gCX4 _ _ _ _ _) rfl (lt_t rfl) rfl ⟨le_t rfl, le_t rfl⟩ ⟨le_t rfl, le_t rfl⟩ rfl (le_t rfl) (fun _ _ h => h)
    refine sC.of rfl (by decide) (le_t rfl) ?_
    refine sv_aload_n (pc := 0) dX4_figure_0 rfl rfl ?_
    refine sw_getfield (pc := 1) dX4_figure_1 (gCX4 _ _ _ _ _) 4 (by decide) wF_X4_27 rfl rfl rfl ?_
    refine sv_iload_n (pc := 4) dX4_figure_4 rfl rfl ?_
    refine sw_iaload (pc := 5) (k := 4) (v := .int 1) dX4_figure_5 rfl rfl rfl (by decide) (by decide) rfl rfl ?_
    refine sv_istore_n (pc := 6) dX4_figure_6 rfl (by decide) ?_
    refine sv_iload_n (pc := 7) dX4_figure_7 rfl rfl ?_
    refine sv_if_le (pc := 8) (tgt := 26) dX4_figure_8 (by decide) (fun h => absurd h (by decide)) (fun _ => ?_)
    refine sv_iload_n (pc := 11) dX4_figure_11 rfl rfl ?_
    refine sv_iload_n (pc := 12) dX4_figure_12 rfl rfl ?_
    refine sw_idiv (pc := 13) (v := 0) dX4_figure_13 (by decide) (by decide) ?_
    refine sv_aload_n (pc := 14) dX4_figure_14 rfl rfl ?_
    refine sw_getfield (pc := 15) dX4_figure_15 (gCX4 _ _ _ _ _) 12 (by decide) wF_X4_11 rfl rfl rfl ?_
    refine sv_iload_n (pc := 18) dX4_figure_18 rfl rfl ?_
    refine sw_iaload (pc := 19) (k := 4) (v := .int 0) dX4_figure_19 rfl rfl rfl (by decide) (by decide) rfl rfl ?_
    refine sv_iconst (pc := 20) (v := 1) dX4_figure_20 (by decide) ?_
    refine sw_iadd (pc := 21) (v := 1) dX4_figure_21 (by decide) ?_
    refine sw_irem (pc := 22) (v := 0) dX4_figure_22 (by decide) (by decide) ?_
    refine sv_goto (pc := 23) (tgt := 27) dX4_figure_23 (by decide) ?_
    refine sv_iret (pc := 27) dX4_figure_27 rfl (le_t rfl) (le_t rfl) ?_
    refine sw_iastore (pc := 19) (k := 4) (v := .int 0) dX4_unfold_19 rfl rfl rfl (by decide) (by decide) rfl rfl ?_
    refine sw_iinc (pc := 20) (v := 5) dX4_unfold_20 rfl (by decide) (by decide) ?_
    refine sv_goto (pc := 23) (tgt := 2) dX4_unfold_23 (by decide) ?_
    refine sv_iload_n (pc := 2) dX4_unfold_2 rfl rfl ?_
    refine sv_bipush (pc := 3) (v := 7) dX4_unfold_3 (by decide) ?_
    refine sv_icmp_ge (pc := 5) (tgt := 26) dX4_unfold_5 (by decide) (fun h => absurd h (by decide)) (fun _ => ?_)
    refine sv_aload_n (pc := 8) dX4_unfold_8 rfl rfl ?_
    refine sw_getfield (pc := 9) dX4_unfold_9 (gCX4 _ _ _ _ _) 5 (by decide) wF_X4_30 rfl rfl rfl ?_
    refine sv_iload_n (pc := 12) dX4_unfold_12 rfl rfl ?_
    refine sv_aload_n (pc := 13) dX4_unfold_13 rfl rfl ?_
    refine sv_iload_n (pc := 14) dX4_unfold_14 rfl rfl ?_
    refine sv_iload_n (pc := 15) dX4_unfold_15 rfl rfl ?_
    refine sv_callV (pc := 16) (M' := mX4_figure) (d' := 16) (C' := 0) (S' := 0) (av := [.int 0, .int 5]) ?_ (gOk _ _ _ _ _) dX4_unfold_16 (tX4_figure _ _ _ _ _) ⟨wV_X4_figure, wL_X4_figure⟩ wM_X4_75 (gCX4 _ _ _ _ _) rfl (lt_t rfl) rfl ⟨le_t rfl, le_t rfl⟩ ⟨le_t rfl, le_t rfl⟩ rfl (le_t rfl) (fun _ _ h => h)
    refine sC.of rfl (by decide) (le_t rfl) ?_
    refine sv_aload_n (pc := 0) dX4_figure_0 rfl rfl ?_
    refine sw_getfield (pc := 1) dX4_figure_1 (gCX4 _ _ _ _ _) 4 (by decide) wF_X4_27 rfl rfl rfl ?_
    refine sv_iload_n (pc := 4) dX4_figure_4 rfl rfl ?_
    refine sw_iaload (pc := 5) (k := 5) (v := .int 1) dX4_figure_5 rfl rfl rfl (by decide) (by decide) rfl rfl ?_
    refine sv_istore_n (pc := 6) dX4_figure_6 rfl (by decide) ?_
    refine sv_iload_n (pc := 7) dX4_figure_7 rfl rfl ?_
    refine sv_if_le (pc := 8) (tgt := 26) dX4_figure_8 (by decide) (fun h => absurd h (by decide)) (fun _ => ?_)
    refine sv_iload_n (pc := 11) dX4_figure_11 rfl rfl ?_
    refine sv_iload_n (pc := 12) dX4_figure_12 rfl rfl ?_
    refine sw_idiv (pc := 13) (v := 0) dX4_figure_13 (by decide) (by decide) ?_
    refine sv_aload_n (pc := 14) dX4_figure_14 rfl rfl ?_
    refine sw_getfield (pc := 15) dX4_figure_15 (gCX4 _ _ _ _ _) 12 (by decide) wF_X4_11 rfl rfl rfl ?_
    refine sv_iload_n (pc := 18) dX4_figure_18 rfl rfl ?_
    refine sw_iaload (pc := 19) (k := 5) (v := .int 0) dX4_figure_19 rfl rfl rfl (by decide) (by decide) rfl rfl ?_
    refine sv_iconst (pc := 20) (v := 1) dX4_figure_20 (by decide) ?_
    refine sw_iadd (pc := 21) (v := 1) dX4_figure_21 (by decide) ?_
    refine sw_irem (pc := 22) (v := 0) dX4_figure_22 (by decide) (by decide) ?_
    refine sv_goto (pc := 23) (tgt := 27) dX4_figure_23 (by decide) ?_
    refine sv_iret (pc := 27) dX4_figure_27 rfl (le_t rfl) (le_t rfl) ?_
    refine sw_iastore (pc := 19) (k := 5) (v := .int 0) dX4_unfold_19 rfl rfl rfl (by decide) (by decide) rfl rfl ?_
    refine sw_iinc (pc := 20) (v := 6) dX4_unfold_20 rfl (by decide) (by decide) ?_
    refine sv_goto (pc := 23) (tgt := 2) dX4_unfold_23 (by decide) ?_
    refine sv_iload_n (pc := 2) dX4_unfold_2 rfl rfl ?_
    refine sv_bipush (pc := 3) (v := 7) dX4_unfold_3 (by decide) ?_
    refine sv_icmp_ge (pc := 5) (tgt := 26) dX4_unfold_5 (by decide) (fun h => absurd h (by decide)) (fun _ => ?_)
    refine sv_aload_n (pc := 8) dX4_unfold_8 rfl rfl ?_
    refine sw_getfield (pc := 9) dX4_unfold_9 (gCX4 _ _ _ _ _) 5 (by decide) wF_X4_30 rfl rfl rfl ?_
    refine sv_iload_n (pc := 12) dX4_unfold_12 rfl rfl ?_
    refine sv_aload_n (pc := 13) dX4_unfold_13 rfl rfl ?_
    refine sv_iload_n (pc := 14) dX4_unfold_14 rfl rfl ?_
    refine sv_iload_n (pc := 15) dX4_unfold_15 rfl rfl ?_
    refine sv_callV (pc := 16) (M' := mX4_figure) (d' := 16) (C' := 0) (S' := 0) (av := [.int 0, .int 6]) ?_ (gOk _ _ _ _ _) dX4_unfold_16 (tX4_figure _ _ _ _ _) ⟨wV_X4_figure, wL_X4_figure⟩ wM_X4_75 (gCX4 _ _ _ _ _) rfl (lt_t rfl) rfl ⟨le_t rfl, le_t rfl⟩ ⟨le_t rfl, le_t rfl⟩ rfl (le_t rfl) (fun _ _ h => h)
    refine sC.of rfl (by decide) (le_t rfl) ?_
    refine sv_aload_n (pc := 0) dX4_figure_0 rfl rfl ?_
    refine sw_getfield (pc := 1) dX4_figure_1 (gCX4 _ _ _ _ _) 4 (by decide) wF_X4_27 rfl rfl rfl ?_
    refine sv_iload_n (pc := 4) dX4_figure_4 rfl rfl ?_
    refine sw_iaload (pc := 5) (k := 6) (v := .int 1) dX4_figure_5 rfl rfl rfl (by decide) (by decide) rfl rfl ?_
    refine sv_istore_n (pc := 6) dX4_figure_6 rfl (by decide) ?_
    refine sv_iload_n (pc := 7) dX4_figure_7 rfl rfl ?_
    refine sv_if_le (pc := 8) (tgt := 26) dX4_figure_8 (by decide) (fun h => absurd h (by decide)) (fun _ => ?_)
    refine sv_iload_n (pc := 11) dX4_figure_11 rfl rfl ?_
    refine sv_iload_n (pc := 12) dX4_figure_12 rfl rfl ?_
    refine sw_idiv (pc := 13) (v := 0) dX4_figure_13 (by decide) (by decide) ?_
    refine sv_aload_n (pc := 14) dX4_figure_14 rfl rfl ?_
    refine sw_getfield (pc := 15) dX4_figure_15 (gCX4 _ _ _ _ _) 12 (by decide) wF_X4_11 rfl rfl rfl ?_
    refine sv_iload_n (pc := 18) dX4_figure_18 rfl rfl ?_
    refine sw_iaload (pc := 19) (k := 6) (v := .int 0) dX4_figure_19 rfl rfl rfl (by decide) (by decide) rfl rfl ?_
    refine sv_iconst (pc := 20) (v := 1) dX4_figure_20 (by decide) ?_
    refine sw_iadd (pc := 21) (v := 1) dX4_figure_21 (by decide) ?_
    refine sw_irem (pc := 22) (v := 0) dX4_figure_22 (by decide) (by decide) ?_
    refine sv_goto (pc := 23) (tgt := 27) dX4_figure_23 (by decide) ?_
    refine sv_iret (pc := 27) dX4_figure_27 rfl (le_t rfl) (le_t rfl) ?_
    refine sw_iastore (pc := 19) (k := 6) (v := .int 0) dX4_unfold_19 rfl rfl rfl (by decide) (by decide) rfl rfl ?_
    refine sw_iinc (pc := 20) (v := 7) dX4_unfold_20 rfl (by decide) (by decide) ?_
    refine sv_goto (pc := 23) (tgt := 2) dX4_unfold_23 (by decide) ?_
    refine sv_iload_n (pc := 2) dX4_unfold_2 rfl rfl ?_
    refine sv_bipush (pc := 3) (v := 7) dX4_unfold_3 (by decide) ?_
    refine sv_icmp_ge (pc := 5) (tgt := 26) dX4_unfold_5 (by decide) (fun _ => ?_) (fun h => absurd (by decide) h)
    refine sv_vret (pc := 26) dX4_unfold_26 rfl (le_t rfl) (le_t rfl) ?_
    refine sv_aload_n (pc := 76) dX4_spread_76 rfl rfl ?_
    refine sv_aload_n (pc := 77) dX4_spread_77 rfl rfl ?_
    refine sw_getfield (pc := 78) dX4_spread_78 (gCX4 _ _ _ _ _) 6 (by decide) wF_X4_33 rfl rfl rfl ?_
    refine sv_iload (pc := 81) dX4_spread_81 rfl ?_
    refine sw_iaload (pc := 83) (k := 0) (v := .int 0) dX4_spread_83 rfl rfl rfl (by decide) (by decide) rfl rfl ?_
    refine sv_iload_n (pc := 84) dX4_spread_84 rfl rfl ?_
    refine sv_callV (pc := 85) (M' := mX4_addNeighbours) (d' := 17) (C' := 0) (S' := 0) (av := [.int 0, .int 1]) ?_ (gOk _ _ _ _ _) dX4_spread_85 (tX4_addNeighbours _ _ _ _ _) ⟨wV_X4_addNeighbours, wL_X4_addNeighbours⟩ wM_X4_124 (gCX4 _ _ _ _ _) rfl (lt_t rfl) rfl ⟨le_t rfl, le_t rfl⟩ ⟨le_t rfl, le_t rfl⟩ rfl (le_t rfl) (fun _ _ h => h)
    refine sC.of rfl (by decide) (le_t rfl) ?_
    refine sv_iload_n (pc := 0) dX4_addNeighbours_0 rfl rfl ?_
    refine sv_istore_n (pc := 1) dX4_addNeighbours_1 rfl (by decide) ?_
    refine sv_iconst (pc := 2) (v := 1) dX4_addNeighbours_2 (by decide) ?_
    refine sv_istore (pc := 3) dX4_addNeighbours_3 (by decide) ?_
    refine sv_iload (pc := 5) dX4_addNeighbours_5 rfl ?_
    refine sv_bipush (pc := 7) (v := 7) dX4_addNeighbours_7 (by decide) ?_
    refine sv_icmp_ge (pc := 9) (tgt := 73) dX4_addNeighbours_9 (by decide) (fun h => absurd h (by decide)) (fun _ => ?_)
    refine sv_iload_n (pc := 12) dX4_addNeighbours_12 rfl rfl ?_
    refine sv_aload_n (pc := 13) dX4_addNeighbours_13 rfl rfl ?_
    refine sv_iload (pc := 14) dX4_addNeighbours_14 rfl ?_
    refine sv_callV (pc := 16) (M' := mX4_actOf) (d' := 16) (C' := 0) (S' := 0) (av := [.int 1]) ?_ (gOk _ _ _ _ _) dX4_addNeighbours_16 (tX4_actOf _ _ _ _ _) ⟨wV_X4_actOf, wL_X4_actOf⟩ wM_X4_71 (gCX4 _ _ _ _ _) rfl (lt_t rfl) rfl ⟨le_t rfl, le_t rfl⟩ ⟨le_t rfl, le_t rfl⟩ rfl (le_t rfl) (fun _ _ h => h)
    refine sC.of rfl (by decide) (le_t rfl) ?_
    refine sv_iconst (pc := 0) (v := 0) dX4_actOf_0 (by decide) ?_
    refine sv_istore_n (pc := 1) dX4_actOf_1 rfl (by decide) ?_
    refine sv_iload_n (pc := 2) dX4_actOf_2 rfl rfl ?_
    refine sv_aload_n (pc := 3) dX4_actOf_3 rfl rfl ?_
    refine sw_getfield (pc := 4) dX4_actOf_4 (gCX4 _ _ _ _ _) 12 (by decide) wF_X4_11 rfl rfl rfl ?_
    refine sv_iload_n (pc := 7) dX4_actOf_7 rfl rfl ?_
    refine sw_iaload (pc := 8) (k := 1) (v := .int 0) dX4_actOf_8 rfl rfl rfl (by decide) (by decide) rfl rfl ?_
    refine sv_icmp_ge (pc := 9) (tgt := 55) dX4_actOf_9 (by decide) (fun _ => ?_) (fun h => absurd (by decide) h)
    refine sv_aload_n (pc := 55) dX4_actOf_55 rfl rfl ?_
    refine sw_getfield (pc := 56) dX4_actOf_56 (gCX4 _ _ _ _ _) 12 (by decide) wF_X4_11 rfl rfl rfl ?_
    refine sv_iload_n (pc := 59) dX4_actOf_59 rfl rfl ?_
    refine sw_iaload (pc := 60) (k := 1) (v := .int 0) dX4_actOf_60 rfl rfl rfl (by decide) (by decide) rfl rfl ?_
    refine sv_iret (pc := 61) dX4_actOf_61 rfl (le_t rfl) (le_t rfl) ?_
    refine sv_aload_n (pc := 19) dX4_addNeighbours_19 rfl rfl ?_
    refine sw_getfield (pc := 20) dX4_addNeighbours_20 (gCX4 _ _ _ _ _) 5 (by decide) wF_X4_30 rfl rfl rfl ?_
    refine sv_iload (pc := 23) dX4_addNeighbours_23 rfl ?_
    refine sw_iaload (pc := 25) (k := 1) (v := .int 0) dX4_addNeighbours_25 rfl rfl rfl (by decide) (by decide) rfl rfl ?_
    refine sw_isub (pc := 26) (v := 0) dX4_addNeighbours_26 (by decide) ?_
    refine sv_aload_n (pc := 27) dX4_addNeighbours_27 rfl rfl ?_
    refine sw_getfield (pc := 28) dX4_addNeighbours_28 (gCX4 _ _ _ _ _) 4 (by decide) wF_X4_27 rfl rfl rfl ?_
    refine sv_iload (pc := 31) dX4_addNeighbours_31 rfl ?_
    refine sw_iaload (pc := 33) (k := 1) (v := .int 1) dX4_addNeighbours_33 rfl rfl rfl (by decide) (by decide) rfl rfl ?_
    refine sw_imul (pc := 34) (v := 0) dX4_addNeighbours_34 (by decide) ?_
    refine sw_iadd (pc := 35) (v := 0) dX4_addNeighbours_35 (by decide) ?_
    refine sv_istore (pc := 36) dX4_addNeighbours_36 (by decide) ?_
    refine sv_aload_n (pc := 38) dX4_addNeighbours_38 rfl rfl ?_
    refine sw_getfield (pc := 39) dX4_addNeighbours_39 (gCX4 _ _ _ _ _) 8 (by decide) wF_X4_39 rfl rfl rfl ?_
    refine sv_iload (pc := 42) dX4_addNeighbours_42 rfl ?_
    refine sw_baload (pc := 44) (k := 0) (v := .int 1) dX4_addNeighbours_44 rfl rfl rfl (by decide) (by decide) rfl rfl ?_
    refine sv_if_ne (pc := 45) (tgt := 67) dX4_addNeighbours_45 (by decide) (fun _ => ?_) (fun h => absurd h (by decide))
    refine sw_iinc (pc := 67) (v := 2) dX4_addNeighbours_67 rfl (by decide) (by decide) ?_
    refine sv_goto (pc := 70) (tgt := 5) dX4_addNeighbours_70 (by decide) ?_
    refine sv_iload (pc := 5) dX4_addNeighbours_5 rfl ?_
    refine sv_bipush (pc := 7) (v := 7) dX4_addNeighbours_7 (by decide) ?_
    refine sv_icmp_ge (pc := 9) (tgt := 73) dX4_addNeighbours_9 (by decide) (fun h => absurd h (by decide)) (fun _ => ?_)
    refine sv_iload_n (pc := 12) dX4_addNeighbours_12 rfl rfl ?_
    refine sv_aload_n (pc := 13) dX4_addNeighbours_13 rfl rfl ?_
    refine sv_iload (pc := 14) dX4_addNeighbours_14 rfl ?_
    refine sv_callV (pc := 16) (M' := mX4_actOf) (d' := 16) (C' := 0) (S' := 0) (av := [.int 2]) ?_ (gOk _ _ _ _ _) dX4_addNeighbours_16 (tX4_actOf _ _ _ _ _) ⟨wV_X4_actOf, wL_X4_actOf⟩ wM_X4_71 (gCX4 _ _ _ _ _) rfl (lt_t rfl) rfl ⟨le_t rfl, le_t rfl⟩ ⟨le_t rfl, le_t rfl⟩ rfl (le_t rfl) (fun _ _ h => h)
    refine sC.of rfl (by decide) (le_t rfl) ?_
    refine sv_iconst (pc := 0) (v := 0) dX4_actOf_0 (by decide) ?_
    refine sv_istore_n (pc := 1) dX4_actOf_1 rfl (by decide) ?_
    refine sv_iload_n (pc := 2) dX4_actOf_2 rfl rfl ?_
    refine sv_aload_n (pc := 3) dX4_actOf_3 rfl rfl ?_
    refine sw_getfield (pc := 4) dX4_actOf_4 (gCX4 _ _ _ _ _) 12 (by decide) wF_X4_11 rfl rfl rfl ?_
    refine sv_iload_n (pc := 7) dX4_actOf_7 rfl rfl ?_
    refine sw_iaload (pc := 8) (k := 2) (v := .int 0) dX4_actOf_8 rfl rfl rfl (by decide) (by decide) rfl rfl ?_
    refine sv_icmp_ge (pc := 9) (tgt := 55) dX4_actOf_9 (by decide) (fun _ => ?_) (fun h => absurd (by decide) h)
    refine sv_aload_n (pc := 55) dX4_actOf_55 rfl rfl ?_
    refine sw_getfield (pc := 56) dX4_actOf_56 (gCX4 _ _ _ _ _) 12 (by decide) wF_X4_11 rfl rfl rfl ?_
    refine sv_iload_n (pc := 59) dX4_actOf_59 rfl rfl ?_
    refine sw_iaload (pc := 60) (k := 2) (v := .int 0) dX4_actOf_60 rfl rfl rfl (by decide) (by decide) rfl rfl ?_
    refine sv_iret (pc := 61) dX4_actOf_61 rfl (le_t rfl) (le_t rfl) ?_
    refine sv_aload_n (pc := 19) dX4_addNeighbours_19 rfl rfl ?_
    refine sw_getfield (pc := 20) dX4_addNeighbours_20 (gCX4 _ _ _ _ _) 5 (by decide) wF_X4_30 rfl rfl rfl ?_
    refine sv_iload (pc := 23) dX4_addNeighbours_23 rfl ?_
    refine sw_iaload (pc := 25) (k := 2) (v := .int 0) dX4_addNeighbours_25 rfl rfl rfl (by decide) (by decide) rfl rfl ?_
    refine sw_isub (pc := 26) (v := 0) dX4_addNeighbours_26 (by decide) ?_
    refine sv_aload_n (pc := 27) dX4_addNeighbours_27 rfl rfl ?_
    refine sw_getfield (pc := 28) dX4_addNeighbours_28 (gCX4 _ _ _ _ _) 4 (by decide) wF_X4_27 rfl rfl rfl ?_
    refine sv_iload (pc := 31) dX4_addNeighbours_31 rfl ?_
    refine sw_iaload (pc := 33) (k := 2) (v := .int 1) dX4_addNeighbours_33 rfl rfl rfl (by decide) (by decide) rfl rfl ?_
    refine sw_imul (pc := 34) (v := 0) dX4_addNeighbours_34 (by decide) ?_
    refine sw_iadd (pc := 35) (v := 0) dX4_addNeighbours_35 (by decide) ?_
    refine sv_istore (pc := 36) dX4_addNeighbours_36 (by decide) ?_
    refine sv_aload_n (pc := 38) dX4_addNeighbours_38 rfl rfl ?_
    refine sw_getfield (pc := 39) dX4_addNeighbours_39 (gCX4 _ _ _ _ _) 8 (by decide) wF_X4_39 rfl rfl rfl ?_
    refine sv_iload (pc := 42) dX4_addNeighbours_42 rfl ?_
    refine sw_baload (pc := 44) (k := 0) (v := .int 1) dX4_addNeighbours_44 rfl rfl rfl (by decide) (by decide) rfl rfl ?_
    refine sv_if_ne (pc := 45) (tgt := 67) dX4_addNeighbours_45 (by decide) (fun _ => ?_) (fun h => absurd h (by decide))
    refine sw_iinc (pc := 67) (v := 3) dX4_addNeighbours_67 rfl (by decide) (by decide) ?_
    refine sv_goto (pc := 70) (tgt := 5) dX4_addNeighbours_70 (by decide) ?_
    refine sv_iload (pc := 5) dX4_addNeighbours_5 rfl ?_
    refine sv_bipush (pc := 7) (v := 7) dX4_addNeighbours_7 (by decide) ?_
    refine sv_icmp_ge (pc := 9) (tgt := 73) dX4_addNeighbours_9 (by decide) (fun h => absurd h (by decide)) (fun _ => ?_)
    refine sv_iload_n (pc := 12) dX4_addNeighbours_12 rfl rfl ?_
    refine sv_aload_n (pc := 13) dX4_addNeighbours_13 rfl rfl ?_
    refine sv_iload (pc := 14) dX4_addNeighbours_14 rfl ?_
    refine sv_callV (pc := 16) (M' := mX4_actOf) (d' := 16) (C' := 0) (S' := 0) (av := [.int 3]) ?_ (gOk _ _ _ _ _) dX4_addNeighbours_16 (tX4_actOf _ _ _ _ _) ⟨wV_X4_actOf, wL_X4_actOf⟩ wM_X4_71 (gCX4 _ _ _ _ _) rfl (lt_t rfl) rfl ⟨le_t rfl, le_t rfl⟩ ⟨le_t rfl, le_t rfl⟩ rfl (le_t rfl) (fun _ _ h => h)
    refine sC.of rfl (by decide) (le_t rfl) ?_
    refine sv_iconst (pc := 0) (v := 0) dX4_actOf_0 (by decide) ?_
    refine sv_istore_n (pc := 1) dX4_actOf_1 rfl (by decide) ?_
    refine sv_iload_n (pc := 2) dX4_actOf_2 rfl rfl ?_
    refine sv_aload_n (pc := 3) dX4_actOf_3 rfl rfl ?_
    refine sw_getfield (pc := 4) dX4_actOf_4 (gCX4 _ _ _ _ _) 12 (by decide) wF_X4_11 rfl rfl rfl ?_
    refine sv_iload_n (pc := 7) dX4_actOf_7 rfl rfl ?_
    refine sw_iaload (pc := 8) (k := 3) (v := .int 0) dX4_actOf_8 rfl rfl rfl (by decide) (by decide) rfl rfl ?_
    refine sv_icmp_ge (pc := 9) (tgt := 55) dX4_actOf_9 (by decide) (fun _ => ?_) (fun h => absurd (by decide) h)
    refine sv_aload_n (pc := 55) dX4_actOf_55 rfl rfl ?_
    refine sw_getfield (pc := 56) dX4_actOf_56 (gCX4 _ _ _ _ _) 12 (by decide) wF_X4_11 rfl rfl rfl ?_
    refine sv_iload_n (pc := 59) dX4_actOf_59 rfl rfl ?_
    refine sw_iaload (pc := 60) (k := 3) (v := .int 0) dX4_actOf_60 rfl rfl rfl (by decide) (by decide) rfl rfl ?_
    refine sv_iret (pc := 61) dX4_actOf_61 rfl (le_t rfl) (le_t rfl) ?_
    refine sv_aload_n (pc := 19) dX4_addNeighbours_19 rfl rfl ?_
    refine sw_getfield (pc := 20) dX4_addNeighbours_20 (gCX4 _ _ _ _ _) 5 (by decide) wF_X4_30 rfl rfl rfl ?_
    refine sv_iload (pc := 23) dX4_addNeighbours_23 rfl ?_
    refine sw_iaload (pc := 25) (k := 3) (v := .int 0) dX4_addNeighbours_25 rfl rfl rfl (by decide) (by decide) rfl rfl ?_
    refine sw_isub (pc := 26) (v := 0) dX4_addNeighbours_26 (by decide) ?_
    refine sv_aload_n (pc := 27) dX4_addNeighbours_27 rfl rfl ?_
    refine sw_getfield (pc := 28) dX4_addNeighbours_28 (gCX4 _ _ _ _ _) 4 (by decide) wF_X4_27 rfl rfl rfl ?_
    refine sv_iload (pc := 31) dX4_addNeighbours_31 rfl ?_
    refine sw_iaload (pc := 33) (k := 3) (v := .int 1) dX4_addNeighbours_33 rfl rfl rfl (by decide) (by decide) rfl rfl ?_
    refine sw_imul (pc := 34) (v := 0) dX4_addNeighbours_34 (by decide) ?_
    refine sw_iadd (pc := 35) (v := 0) dX4_addNeighbours_35 (by decide) ?_
    refine sv_istore (pc := 36) dX4_addNeighbours_36 (by decide) ?_
    refine sv_aload_n (pc := 38) dX4_addNeighbours_38 rfl rfl ?_
    refine sw_getfield (pc := 39) dX4_addNeighbours_39 (gCX4 _ _ _ _ _) 8 (by decide) wF_X4_39 rfl rfl rfl ?_
    refine sv_iload (pc := 42) dX4_addNeighbours_42 rfl ?_
    refine sw_baload (pc := 44) (k := 0) (v := .int 1) dX4_addNeighbours_44 rfl rfl rfl (by decide) (by decide) rfl rfl ?_
    refine sv_if_ne (pc := 45) (tgt := 67) dX4_addNeighbours_45 (by decide) (fun _ => ?_) (fun h => absurd h (by decide))
    refine sw_iinc (pc := 67) (v := 4) dX4_addNeighbours_67 rfl (by decide) (by decide) ?_
    refine sv_lvG (pc := 70) (lv' := [(0, .ref 94), (1, .int 0), (2, .int 1), (3, .int 1), (4, .int 4), (5, .int 0)]) (List.forall_mem_cons.mpr ⟨rfl, List.forall_mem_cons.mpr ⟨rfl, List.forall_mem_cons.mpr ⟨rfl, List.forall_mem_cons.mpr ⟨rfl, List.forall_mem_cons.mpr ⟨rfl, List.forall_mem_cons.mpr ⟨rfl, fun _ h => absurd h List.not_mem_nil⟩⟩⟩⟩⟩⟩) ?_
    refine sv_goto (pc := 70) (tgt := 5) dX4_addNeighbours_70 (by decide) ?_
    refine sv_iload (pc := 5) dX4_addNeighbours_5 rfl ?_
    refine sv_bipush (pc := 7) (v := 7) dX4_addNeighbours_7 (by decide) ?_
    refine sv_icmp_ge (pc := 9) (tgt := 73) dX4_addNeighbours_9 (by decide) (fun h => absurd h (by decide)) (fun _ => ?_)
    refine sv_iload_n (pc := 12) dX4_addNeighbours_12 rfl rfl ?_
    refine sv_aload_n (pc := 13) dX4_addNeighbours_13 rfl rfl ?_
    refine sv_iload (pc := 14) dX4_addNeighbours_14 rfl ?_
    refine sv_callV (pc := 16) (M' := mX4_actOf) (d' := 16) (C' := 0) (S' := 0) (av := [.int 4]) ?_ (gOk _ _ _ _ _) dX4_addNeighbours_16 (tX4_actOf _ _ _ _ _) ⟨wV_X4_actOf, wL_X4_actOf⟩ wM_X4_71 (gCX4 _ _ _ _ _) rfl (lt_t rfl) rfl ⟨le_t rfl, le_t rfl⟩ ⟨le_t rfl, le_t rfl⟩ rfl (le_t rfl) (fun _ _ h => h)
    refine sC.of rfl (by decide) (le_t rfl) ?_
    refine sv_iconst (pc := 0) (v := 0) dX4_actOf_0 (by decide) ?_
    refine sv_istore_n (pc := 1) dX4_actOf_1 rfl (by decide) ?_
    refine sv_iload_n (pc := 2) dX4_actOf_2 rfl rfl ?_
    refine sv_aload_n (pc := 3) dX4_actOf_3 rfl rfl ?_
    refine sw_getfield (pc := 4) dX4_actOf_4 (gCX4 _ _ _ _ _) 12 (by decide) wF_X4_11 rfl rfl rfl ?_
    refine sv_iload_n (pc := 7) dX4_actOf_7 rfl rfl ?_
    refine sw_iaload (pc := 8) (k := 4) (v := .int 0) dX4_actOf_8 rfl rfl rfl (by decide) (by decide) rfl rfl ?_
    refine sv_icmp_ge (pc := 9) (tgt := 55) dX4_actOf_9 (by decide) (fun _ => ?_) (fun h => absurd (by decide) h)
    refine sv_aload_n (pc := 55) dX4_actOf_55 rfl rfl ?_
    refine sw_getfield (pc := 56) dX4_actOf_56 (gCX4 _ _ _ _ _) 12 (by decide) wF_X4_11 rfl rfl rfl ?_
    refine sv_iload_n (pc := 59) dX4_actOf_59 rfl rfl ?_
    refine sw_iaload (pc := 60) (k := 4) (v := .int 0) dX4_actOf_60 rfl rfl rfl (by decide) (by decide) rfl rfl ?_
    refine sv_iret (pc := 61) dX4_actOf_61 rfl (le_t rfl) (le_t rfl) ?_
    refine sv_aload_n (pc := 19) dX4_addNeighbours_19 rfl rfl ?_
    refine sw_getfield (pc := 20) dX4_addNeighbours_20 (gCX4 _ _ _ _ _) 5 (by decide) wF_X4_30 rfl rfl rfl ?_
    refine sv_iload (pc := 23) dX4_addNeighbours_23 rfl ?_
    refine sw_iaload (pc := 25) (k := 4) (v := .int 0) dX4_addNeighbours_25 rfl rfl rfl (by decide) (by decide) rfl rfl ?_
    refine sw_isub (pc := 26) (v := 0) dX4_addNeighbours_26 (by decide) ?_
    refine sv_aload_n (pc := 27) dX4_addNeighbours_27 rfl rfl ?_
    refine sw_getfield (pc := 28) dX4_addNeighbours_28 (gCX4 _ _ _ _ _) 4 (by decide) wF_X4_27 rfl rfl rfl ?_
    refine sv_iload (pc := 31) dX4_addNeighbours_31 rfl ?_
    refine sw_iaload (pc := 33) (k := 4) (v := .int 1) dX4_addNeighbours_33 rfl rfl rfl (by decide) (by decide) rfl rfl ?_
    refine sw_imul (pc := 34) (v := 0) dX4_addNeighbours_34 (by decide) ?_
    refine sw_iadd (pc := 35) (v := 0) dX4_addNeighbours_35 (by decide) ?_
    refine sv_istore (pc := 36) dX4_addNeighbours_36 (by decide) ?_
    refine sv_aload_n (pc := 38) dX4_addNeighbours_38 rfl rfl ?_
    refine sw_getfield (pc := 39) dX4_addNeighbours_39 (gCX4 _ _ _ _ _) 8 (by decide) wF_X4_39 rfl rfl rfl ?_
    refine sv_iload (pc := 42) dX4_addNeighbours_42 rfl ?_
    refine sw_baload (pc := 44) (k := 0) (v := .int 1) dX4_addNeighbours_44 rfl rfl rfl (by decide) (by decide) rfl rfl ?_
    refine sv_if_ne (pc := 45) (tgt := 67) dX4_addNeighbours_45 (by decide) (fun _ => ?_) (fun h => absurd h (by decide))
    refine sw_iinc (pc := 67) (v := 5) dX4_addNeighbours_67 rfl (by decide) (by decide) ?_
    refine sv_goto (pc := 70) (tgt := 5) dX4_addNeighbours_70 (by decide) ?_
    refine sv_iload (pc := 5) dX4_addNeighbours_5 rfl ?_
    refine sv_bipush (pc := 7) (v := 7) dX4_addNeighbours_7 (by decide) ?_
    refine sv_icmp_ge (pc := 9) (tgt := 73) dX4_addNeighbours_9 (by decide) (fun h => absurd h (by decide)) (fun _ => ?_)
    refine sv_iload_n (pc := 12) dX4_addNeighbours_12 rfl rfl ?_
    refine sv_aload_n (pc := 13) dX4_addNeighbours_13 rfl rfl ?_
    refine sv_iload (pc := 14) dX4_addNeighbours_14 rfl ?_
    refine sv_callV (pc := 16) (M' := mX4_actOf) (d' := 16) (C' := 0) (S' := 0) (av := [.int 5]) ?_ (gOk _ _ _ _ _) dX4_addNeighbours_16 (tX4_actOf _ _ _ _ _) ⟨wV_X4_actOf, wL_X4_actOf⟩ wM_X4_71 (gCX4 _ _ _ _ _) rfl (lt_t rfl) rfl ⟨le_t rfl, le_t rfl⟩ ⟨le_t rfl, le_t rfl⟩ rfl (le_t rfl) (fun _ _ h => h)
    refine sC.of rfl (by decide) (le_t rfl) ?_
    refine sv_iconst (pc := 0) (v := 0) dX4_actOf_0 (by decide) ?_
    refine sv_istore_n (pc := 1) dX4_actOf_1 rfl (by decide) ?_
    refine sv_iload_n (pc := 2) dX4_actOf_2 rfl rfl ?_
    refine sv_aload_n (pc := 3) dX4_actOf_3 rfl rfl ?_
    refine sw_getfield (pc := 4) dX4_actOf_4 (gCX4 _ _ _ _ _) 12 (by decide) wF_X4_11 rfl rfl rfl ?_
    refine sv_iload_n (pc := 7) dX4_actOf_7 rfl rfl ?_
    refine sw_iaload (pc := 8) (k := 5) (v := .int 0) dX4_actOf_8 rfl rfl rfl (by decide) (by decide) rfl rfl ?_
    refine sv_icmp_ge (pc := 9) (tgt := 55) dX4_actOf_9 (by decide) (fun _ => ?_) (fun h => absurd (by decide) h)
    refine sv_aload_n (pc := 55) dX4_actOf_55 rfl rfl ?_
    refine sw_getfield (pc := 56) dX4_actOf_56 (gCX4 _ _ _ _ _) 12 (by decide) wF_X4_11 rfl rfl rfl ?_
    refine sv_iload_n (pc := 59) dX4_actOf_59 rfl rfl ?_
    refine sw_iaload (pc := 60) (k := 5) (v := .int 0) dX4_actOf_60 rfl rfl rfl (by decide) (by decide) rfl rfl ?_
    refine sv_iret (pc := 61) dX4_actOf_61 rfl (le_t rfl) (le_t rfl) ?_
    refine sv_aload_n (pc := 19) dX4_addNeighbours_19 rfl rfl ?_
    refine sw_getfield (pc := 20) dX4_addNeighbours_20 (gCX4 _ _ _ _ _) 5 (by decide) wF_X4_30 rfl rfl rfl ?_
    refine sv_iload (pc := 23) dX4_addNeighbours_23 rfl ?_
    refine sw_iaload (pc := 25) (k := 5) (v := .int 0) dX4_addNeighbours_25 rfl rfl rfl (by decide) (by decide) rfl rfl ?_
    refine sw_isub (pc := 26) (v := 0) dX4_addNeighbours_26 (by decide) ?_
    refine sv_aload_n (pc := 27) dX4_addNeighbours_27 rfl rfl ?_
    refine sw_getfield (pc := 28) dX4_addNeighbours_28 (gCX4 _ _ _ _ _) 4 (by decide) wF_X4_27 rfl rfl rfl ?_
    refine sv_iload (pc := 31) dX4_addNeighbours_31 rfl ?_
    refine sw_iaload (pc := 33) (k := 5) (v := .int 1) dX4_addNeighbours_33 rfl rfl rfl (by decide) (by decide) rfl rfl ?_
    refine sw_imul (pc := 34) (v := 0) dX4_addNeighbours_34 (by decide) ?_
    refine sw_iadd (pc := 35) (v := 0) dX4_addNeighbours_35 (by decide) ?_
    refine sv_istore (pc := 36) dX4_addNeighbours_36 (by decide) ?_
    refine sv_aload_n (pc := 38) dX4_addNeighbours_38 rfl rfl ?_
    refine sw_getfield (pc := 39) dX4_addNeighbours_39 (gCX4 _ _ _ _ _) 8 (by decide) wF_X4_39 rfl rfl rfl ?_
    refine sv_iload (pc := 42) dX4_addNeighbours_42 rfl ?_
    refine sw_baload (pc := 44) (k := 0) (v := .int 1) dX4_addNeighbours_44 rfl rfl rfl (by decide) (by decide) rfl rfl ?_
    refine sv_if_ne (pc := 45) (tgt := 67) dX4_addNeighbours_45 (by decide) (fun _ => ?_) (fun h => absurd h (by decide))
    refine sw_iinc (pc := 67) (v := 6) dX4_addNeighbours_67 rfl (by decide) (by decide) ?_
    refine sv_goto (pc := 70) (tgt := 5) dX4_addNeighbours_70 (by decide) ?_
    refine sv_iload (pc := 5) dX4_addNeighbours_5 rfl ?_
    refine sv_bipush (pc := 7) (v := 7) dX4_addNeighbours_7 (by decide) ?_
    refine sv_icmp_ge (pc := 9) (tgt := 73) dX4_addNeighbours_9 (by decide) (fun h => absurd h (by decide)) (fun _ => ?_)
    refine sv_iload_n (pc := 12) dX4_addNeighbours_12 rfl rfl ?_
    refine sv_aload_n (pc := 13) dX4_addNeighbours_13 rfl rfl ?_
    refine sv_iload (pc := 14) dX4_addNeighbours_14 rfl ?_
    refine sv_callV (pc := 16) (M' := mX4_actOf) (d' := 16) (C' := 0) (S' := 0) (av := [.int 6]) ?_ (gOk _ _ _ _ _) dX4_addNeighbours_16 (tX4_actOf _ _ _ _ _) ⟨wV_X4_actOf, wL_X4_actOf⟩ wM_X4_71 (gCX4 _ _ _ _ _) rfl (lt_t rfl) rfl ⟨le_t rfl, le_t rfl⟩ ⟨le_t rfl, le_t rfl⟩ rfl (le_t rfl) (fun _ _ h => h)
    refine sC.of rfl (by decide) (le_t rfl) ?_
    refine sv_iconst (pc := 0) (v := 0) dX4_actOf_0 (by decide) ?_
    refine sv_istore_n (pc := 1) dX4_actOf_1 rfl (by decide) ?_
    refine sv_iload_n (pc := 2) dX4_actOf_2 rfl rfl ?_
    refine sv_aload_n (pc := 3) dX4_actOf_3 rfl rfl ?_
    refine sw_getfield (pc := 4) dX4_actOf_4 (gCX4 _ _ _ _ _) 12 (by decide) wF_X4_11 rfl rfl rfl ?_
    refine sv_iload_n (pc := 7) dX4_actOf_7 rfl rfl ?_
    refine sw_iaload (pc := 8) (k := 6) (v := .int 0) dX4_actOf_8 rfl rfl rfl (by decide) (by decide) rfl rfl ?_
    refine sv_icmp_ge (pc := 9) (tgt := 55) dX4_actOf_9 (by decide) (fun _ => ?_) (fun h => absurd (by decide) h)
    refine sv_aload_n (pc := 55) dX4_actOf_55 rfl rfl ?_
    refine sw_getfield (pc := 56) dX4_actOf_56 (gCX4 _ _ _ _ _) 12 (by decide) wF_X4_11 rfl rfl rfl ?_
    refine sv_iload_n (pc := 59) dX4_actOf_59 rfl rfl ?_
    refine sw_iaload (pc := 60) (k := 6) (v := .int 0) dX4_actOf_60 rfl rfl rfl (by decide) (by decide) rfl rfl ?_
    refine sv_iret (pc := 61) dX4_actOf_61 rfl (le_t rfl) (le_t rfl) ?_
    refine sv_aload_n (pc := 19) dX4_addNeighbours_19 rfl rfl ?_
    refine sw_getfield (pc := 20) dX4_addNeighbours_20 (gCX4 _ _ _ _ _) 5 (by decide) wF_X4_30 rfl rfl rfl ?_
    refine sv_iload (pc := 23) dX4_addNeighbours_23 rfl ?_
    refine sw_iaload (pc := 25) (k := 6) (v := .int 0) dX4_addNeighbours_25 rfl rfl rfl (by decide) (by decide) rfl rfl ?_
    refine sw_isub (pc := 26) (v := 0) dX4_addNeighbours_26 (by decide) ?_
    refine sv_aload_n (pc := 27) dX4_addNeighbours_27 rfl rfl ?_
    refine sw_getfield (pc := 28) dX4_addNeighbours_28 (gCX4 _ _ _ _ _) 4 (by decide) wF_X4_27 rfl rfl rfl ?_
    refine sv_iload (pc := 31) dX4_addNeighbours_31 rfl ?_
    refine sw_iaload (pc := 33) (k := 6) (v := .int 1) dX4_addNeighbours_33 rfl rfl rfl (by decide) (by decide) rfl rfl ?_
    refine sw_imul (pc := 34) (v := 0) dX4_addNeighbours_34 (by decide) ?_
    refine sw_iadd (pc := 35) (v := 0) dX4_addNeighbours_35 (by decide) ?_
    refine sv_istore (pc := 36) dX4_addNeighbours_36 (by decide) ?_
    refine sv_aload_n (pc := 38) dX4_addNeighbours_38 rfl rfl ?_
    refine sw_getfield (pc := 39) dX4_addNeighbours_39 (gCX4 _ _ _ _ _) 8 (by decide) wF_X4_39 rfl rfl rfl ?_
    refine sv_iload (pc := 42) dX4_addNeighbours_42 rfl ?_
    refine sw_baload (pc := 44) (k := 0) (v := .int 1) dX4_addNeighbours_44 rfl rfl rfl (by decide) (by decide) rfl rfl ?_
    refine sv_if_ne (pc := 45) (tgt := 67) dX4_addNeighbours_45 (by decide) (fun _ => ?_) (fun h => absurd h (by decide))
    refine sw_iinc (pc := 67) (v := 7) dX4_addNeighbours_67 rfl (by decide) (by decide) ?_
    refine sv_goto (pc := 70) (tgt := 5) dX4_addNeighbours_70 (by decide) ?_
    refine sv_iload (pc := 5) dX4_addNeighbours_5 rfl ?_
    refine sv_bipush (pc := 7) (v := 7) dX4_addNeighbours_7 (by decide) ?_
    refine sv_icmp_ge (pc := 9) (tgt := 73) dX4_addNeighbours_9 (by decide) (fun _ => ?_) (fun h => absurd (by decide) h)
    refine sv_iload_n (pc := 73) dX4_addNeighbours_73 rfl rfl ?_
    refine sv_iret (pc := 74) dX4_addNeighbours_74 rfl (le_t rfl) (le_t rfl) ?_
    refine sv_istore_n (pc := 88) dX4_spread_88 rfl (by decide) ?_
    refine sv_aload_n (pc := 89) dX4_spread_89 rfl rfl ?_
    refine sv_callV (pc := 90) (M' := mX4_isRest) (d' := 17) (C' := 0) (S' := 0) (av := []) ?_ (gOk _ _ _ _ _) dX4_spread_90 (tX4_isRest _ _ _ _ _) ⟨wV_X4_isRest, wL_X4_isRest⟩ wM_X4_88 (gCX4 _ _ _ _ _) rfl (lt_t rfl) rfl ⟨le_t rfl, le_t rfl⟩ ⟨le_t rfl, le_t rfl⟩ rfl (le_t rfl) (fun _ _ h => h)
    refine sC.of rfl (by decide) (le_t rfl) ?_
    refine sv_iconst (pc := 0) (v := 1) dX4_isRest_0 (by decide) ?_
    refine sv_istore_n (pc := 1) dX4_isRest_1 rfl (by decide) ?_
    refine sv_iload_n (pc := 2) dX4_isRest_2 rfl rfl ?_
    refine sv_bipush (pc := 3) (v := 7) dX4_isRest_3 (by decide) ?_
    refine sv_icmp_ge (pc := 5) (tgt := 30) dX4_isRest_5 (by decide) (fun h => absurd h (by decide)) (fun _ => ?_)
    refine sv_aload_n (pc := 8) dX4_isRest_8 rfl rfl ?_
    refine sw_getfield (pc := 9) dX4_isRest_9 (gCX4 _ _ _ _ _) 5 (by decide) wF_X4_30 rfl rfl rfl ?_
    refine sv_iload_n (pc := 12) dX4_isRest_12 rfl rfl ?_
    refine sw_iaload (pc := 13) (k := 1) (v := .int 0) dX4_isRest_13 rfl rfl rfl (by decide) (by decide) rfl rfl ?_
    refine sv_aload_n (pc := 14) dX4_isRest_14 rfl rfl ?_
    refine sv_iload_n (pc := 15) dX4_isRest_15 rfl rfl ?_
    refine sv_callV (pc := 16) (M' := mX4_actOf) (d' := 16) (C' := 0) (S' := 0) (av := [.int 1]) ?_ (gOk _ _ _ _ _) dX4_isRest_16 (tX4_actOf _ _ _ _ _) ⟨wV_X4_actOf, wL_X4_actOf⟩ wM_X4_71 (gCX4 _ _ _ _ _) rfl (lt_t rfl) rfl ⟨le_t rfl, le_t rfl⟩ ⟨le_t rfl, le_t rfl⟩ rfl (le_t rfl) (fun _ _ h => h)
    refine sC.of rfl (by decide) (le_t rfl) ?_
    refine sv_iconst (pc := 0) (v := 0) dX4_actOf_0 (by decide) ?_
    refine sv_istore_n (pc := 1) dX4_actOf_1 rfl (by decide) ?_
    refine sv_iload_n (pc := 2) dX4_actOf_2 rfl rfl ?_
    refine sv_aload_n (pc := 3) dX4_actOf_3 rfl rfl ?_
    refine sw_getfield (pc := 4) dX4_actOf_4 (gCX4 _ _ _ _ _) 12 (by decide) wF_X4_11 rfl rfl rfl ?_
    refine sv_iload_n (pc := 7) dX4_actOf_7 rfl rfl ?_
    refine sw_iaload (pc := 8) (k := 1) (v := .int 0) dX4_actOf_8 rfl rfl rfl (by decide) (by decide) rfl rfl ?_
    refine sv_icmp_ge (pc := 9) (tgt := 55) dX4_actOf_9 (by decide) (fun _ => ?_) (fun h => absurd (by decide) h)
    refine sv_aload_n (pc := 55) dX4_actOf_55 rfl rfl ?_
    refine sw_getfield (pc := 56) dX4_actOf_56 (gCX4 _ _ _ _ _) 12 (by decide) wF_X4_11 rfl rfl rfl ?_
    refine sv_iload_n (pc := 59) dX4_actOf_59 rfl rfl ?_
    refine sw_iaload (pc := 60) (k := 1) (v := .int 0) dX4_actOf_60 rfl rfl rfl (by decide) (by decide) rfl rfl ?_
    refine sv_iret (pc := 61) dX4_actOf_61 rfl (le_t rfl) (le_t rfl) ?_
    refine sv_icmp_eq (pc := 19) (tgt := 24) dX4_isRest_19 (by decide) (fun _ => ?_) (fun h => absurd (by decide) h)
    refine sw_iinc (pc := 24) (v := 2) dX4_isRest_24 rfl (by decide) (by decide) ?_
    refine sv_goto (pc := 27) (tgt := 2) dX4_isRest_27 (by decide) ?_
    refine sv_iload_n (pc := 2) dX4_isRest_2 rfl rfl ?_
    refine sv_bipush (pc := 3) (v := 7) dX4_isRest_3 (by decide) ?_
    refine sv_icmp_ge (pc := 5) (tgt := 30) dX4_isRest_5 (by decide) (fun h => absurd h (by decide)) (fun _ => ?_)
    refine sv_aload_n (pc := 8) dX4_isRest_8 rfl rfl ?_
    refine sw_getfield (pc := 9) dX4_isRest_9 (gCX4 _ _ _ _ _) 5 (by decide) wF_X4_30 rfl rfl rfl ?_
    refine sv_iload_n (pc := 12) dX4_isRest_12 rfl rfl ?_
    refine sw_iaload (pc := 13) (k := 2) (v := .int 0) dX4_isRest_13 rfl rfl rfl (by decide) (by decide) rfl rfl ?_
    refine sv_aload_n (pc := 14) dX4_isRest_14 rfl rfl ?_
    refine sv_iload_n (pc := 15) dX4_isRest_15 rfl rfl ?_
    refine sv_callV (pc := 16) (M' := mX4_actOf) (d' := 16) (C' := 0) (S' := 0) (av := [.int 2]) ?_ (gOk _ _ _ _ _) dX4_isRest_16 (tX4_actOf _ _ _ _ _) ⟨wV_X4_actOf, wL_X4_actOf⟩ wM_X4_71 (gCX4 _ _ _ _ _) rfl (lt_t rfl) rfl ⟨le_t rfl, le_t rfl⟩ ⟨le_t rfl, le_t rfl⟩ rfl (le_t rfl) (fun _ _ h => h)
    refine sC.of rfl (by decide) (le_t rfl) ?_
    refine sv_iconst (pc := 0) (v := 0) dX4_actOf_0 (by decide) ?_
    refine sv_istore_n (pc := 1) dX4_actOf_1 rfl (by decide) ?_
    refine sv_iload_n (pc := 2) dX4_actOf_2 rfl rfl ?_
    refine sv_aload_n (pc := 3) dX4_actOf_3 rfl rfl ?_
    refine sw_getfield (pc := 4) dX4_actOf_4 (gCX4 _ _ _ _ _) 12 (by decide) wF_X4_11 rfl rfl rfl ?_
    refine sv_iload_n (pc := 7) dX4_actOf_7 rfl rfl ?_
    refine sw_iaload (pc := 8) (k := 2) (v := .int 0) dX4_actOf_8 rfl rfl rfl (by decide) (by decide) rfl rfl ?_
    refine sv_icmp_ge (pc := 9) (tgt := 55) dX4_actOf_9 (by decide) (fun _ => ?_) (fun h => absurd (by decide) h)
    refine sv_aload_n (pc := 55) dX4_actOf_55 rfl rfl ?_
    refine sw_getfield (pc := 56) dX4_actOf_56 (gCX4 _ _ _ _ _) 12 (by decide) wF_X4_11 rfl rfl rfl ?_
    refine sv_iload_n (pc := 59) dX4_actOf_59 rfl rfl ?_
    refine sw_iaload (pc := 60) (k := 2) (v := .int 0) dX4_actOf_60 rfl rfl rfl (by decide) (by decide) rfl rfl ?_
    refine sv_iret (pc := 61) dX4_actOf_61 rfl (le_t rfl) (le_t rfl) ?_
    refine sv_icmp_eq (pc := 19) (tgt := 24) dX4_isRest_19 (by decide) (fun _ => ?_) (fun h => absurd (by decide) h)
    refine sw_iinc (pc := 24) (v := 3) dX4_isRest_24 rfl (by decide) (by decide) ?_
    refine sv_goto (pc := 27) (tgt := 2) dX4_isRest_27 (by decide) ?_
    refine sv_iload_n (pc := 2) dX4_isRest_2 rfl rfl ?_
    refine sv_bipush (pc := 3) (v := 7) dX4_isRest_3 (by decide) ?_
    refine sv_icmp_ge (pc := 5) (tgt := 30) dX4_isRest_5 (by decide) (fun h => absurd h (by decide)) (fun _ => ?_)
    refine sv_aload_n (pc := 8) dX4_isRest_8 rfl rfl ?_
    refine sw_getfield (pc := 9) dX4_isRest_9 (gCX4 _ _ _ _ _) 5 (by decide) wF_X4_30 rfl rfl rfl ?_
    refine sv_iload_n (pc := 12) dX4_isRest_12 rfl rfl ?_
    refine sw_iaload (pc := 13) (k := 3) (v := .int 0) dX4_isRest_13 rfl rfl rfl (by decide) (by decide) rfl rfl ?_
    refine sv_aload_n (pc := 14) dX4_isRest_14 rfl rfl ?_
    refine sv_iload_n (pc := 15) dX4_isRest_15 rfl rfl ?_
    refine sv_callV (pc := 16) (M' := mX4_actOf) (d' := 16) (C' := 0) (S' := 0) (av := [.int 3]) ?_ (gOk _ _ _ _ _) dX4_isRest_16 (tX4_actOf _ _ _ _ _) ⟨wV_X4_actOf, wL_X4_actOf⟩ wM_X4_71 (gCX4 _ _ _ _ _) rfl (lt_t rfl) rfl ⟨le_t rfl, le_t rfl⟩ ⟨le_t rfl, le_t rfl⟩ rfl (le_t rfl) (fun _ _ h => h)
    refine sC.of rfl (by decide) (le_t rfl) ?_
    refine sv_iconst (pc := 0) (v := 0) dX4_actOf_0 (by decide) ?_
    refine sv_istore_n (pc := 1) dX4_actOf_1 rfl (by decide) ?_
    refine sv_iload_n (pc := 2) dX4_actOf_2 rfl rfl ?_
    refine sv_aload_n (pc := 3) dX4_actOf_3 rfl rfl ?_
    refine sw_getfield (pc := 4) dX4_actOf_4 (gCX4 _ _ _ _ _) 12 (by decide) wF_X4_11 rfl rfl rfl ?_
    refine sv_iload_n (pc := 7) dX4_actOf_7 rfl rfl ?_
    refine sw_iaload (pc := 8) (k := 3) (v := .int 0) dX4_actOf_8 rfl rfl rfl (by decide) (by decide) rfl rfl ?_
    refine sv_icmp_ge (pc := 9) (tgt := 55) dX4_actOf_9 (by decide) (fun _ => ?_) (fun h => absurd (by decide) h)
    refine sv_aload_n (pc := 55) dX4_actOf_55 rfl rfl ?_
    refine sw_getfield (pc := 56) dX4_actOf_56 (gCX4 _ _ _ _ _) 12 (by decide) wF_X4_11 rfl rfl rfl ?_
    refine sv_iload_n (pc := 59) dX4_actOf_59 rfl rfl ?_
    refine sw_iaload (pc := 60) (k := 3) (v := .int 0) dX4_actOf_60 rfl rfl rfl (by decide) (by decide) rfl rfl ?_
    refine sv_iret (pc := 61) dX4_actOf_61 rfl (le_t rfl) (le_t rfl) ?_
    refine sv_icmp_eq (pc := 19) (tgt := 24) dX4_isRest_19 (by decide) (fun _ => ?_) (fun h => absurd (by decide) h)
    refine sw_iinc (pc := 24) (v := 4) dX4_isRest_24 rfl (by decide) (by decide) ?_
    refine sv_goto (pc := 27) (tgt := 2) dX4_isRest_27 (by decide) ?_
    refine sv_iload_n (pc := 2) dX4_isRest_2 rfl rfl ?_
    refine sv_bipush (pc := 3) (v := 7) dX4_isRest_3 (by decide) ?_
    refine sv_icmp_ge (pc := 5) (tgt := 30) dX4_isRest_5 (by decide) (fun h => absurd h (by decide)) (fun _ => ?_)
    refine sv_aload_n (pc := 8) dX4_isRest_8 rfl rfl ?_
    refine sw_getfield (pc := 9) dX4_isRest_9 (gCX4 _ _ _ _ _) 5 (by decide) wF_X4_30 rfl rfl rfl ?_
    refine sv_iload_n (pc := 12) dX4_isRest_12 rfl rfl ?_
    refine sw_iaload (pc := 13) (k := 4) (v := .int 0) dX4_isRest_13 rfl rfl rfl (by decide) (by decide) rfl rfl ?_
    refine sv_aload_n (pc := 14) dX4_isRest_14 rfl rfl ?_
    refine sv_iload_n (pc := 15) dX4_isRest_15 rfl rfl ?_
    refine sv_callV (pc := 16) (M' := mX4_actOf) (d' := 16) (C' := 0) (S' := 0) (av := [.int 4]) ?_ (gOk _ _ _ _ _) dX4_isRest_16 (tX4_actOf _ _ _ _ _) ⟨wV_X4_actOf, wL_X4_actOf⟩ wM_X4_71 (gCX4 _ _ _ _ _) rfl (lt_t rfl) rfl ⟨le_t rfl, le_t rfl⟩ ⟨le_t rfl, le_t rfl⟩ rfl (le_t rfl) (fun _ _ h => h)
    refine sC.of rfl (by decide) (le_t rfl) ?_
    refine sv_iconst (pc := 0) (v := 0) dX4_actOf_0 (by decide) ?_
    refine sv_istore_n (pc := 1) dX4_actOf_1 rfl (by decide) ?_
    refine sv_iload_n (pc := 2) dX4_actOf_2 rfl rfl ?_
    refine sv_aload_n (pc := 3) dX4_actOf_3 rfl rfl ?_
    refine sw_getfield (pc := 4) dX4_actOf_4 (gCX4 _ _ _ _ _) 12 (by decide) wF_X4_11 rfl rfl rfl ?_
    refine sv_iload_n (pc := 7) dX4_actOf_7 rfl rfl ?_
    refine sw_iaload (pc := 8) (k := 4) (v := .int 0) dX4_actOf_8 rfl rfl rfl (by decide) (by decide) rfl rfl ?_
    refine sv_icmp_ge (pc := 9) (tgt := 55) dX4_actOf_9 (by decide) (fun _ => ?_) (fun h => absurd (by decide) h)
    refine sv_aload_n (pc := 55) dX4_actOf_55 rfl rfl ?_
    refine sw_getfield (pc := 56) dX4_actOf_56 (gCX4 _ _ _ _ _) 12 (by decide) wF_X4_11 rfl rfl rfl ?_
    refine sv_iload_n (pc := 59) dX4_actOf_59 rfl rfl ?_
    refine sw_iaload (pc := 60) (k := 4) (v := .int 0) dX4_actOf_60 rfl rfl rfl (by decide) (by decide) rfl rfl ?_
    refine sv_iret (pc := 61) dX4_actOf_61 rfl (le_t rfl) (le_t rfl) ?_
    refine sv_icmp_eq (pc := 19) (tgt := 24) dX4_isRest_19 (by decide) (fun _ => ?_) (fun h => absurd (by decide) h)
    refine sw_iinc (pc := 24) (v := 5) dX4_isRest_24 rfl (by decide) (by decide) ?_
    refine sv_goto (pc := 27) (tgt := 2) dX4_isRest_27 (by decide) ?_
    refine sv_iload_n (pc := 2) dX4_isRest_2 rfl rfl ?_
    refine sv_bipush (pc := 3) (v := 7) dX4_isRest_3 (by decide) ?_
    refine sv_icmp_ge (pc := 5) (tgt := 30) dX4_isRest_5 (by decide) (fun h => absurd h (by decide)) (fun _ => ?_)
    refine sv_aload_n (pc := 8) dX4_isRest_8 rfl rfl ?_
    refine sw_getfield (pc := 9) dX4_isRest_9 (gCX4 _ _ _ _ _) 5 (by decide) wF_X4_30 rfl rfl rfl ?_
    refine sv_iload_n (pc := 12) dX4_isRest_12 rfl rfl ?_
    refine sw_iaload (pc := 13) (k := 5) (v := .int 0) dX4_isRest_13 rfl rfl rfl (by decide) (by decide) rfl rfl ?_
    refine sv_aload_n (pc := 14) dX4_isRest_14 rfl rfl ?_
    refine sv_iload_n (pc := 15) dX4_isRest_15 rfl rfl ?_
    refine sv_callV (pc := 16) (M' := mX4_actOf) (d' := 16) (C' := 0) (S' := 0) (av := [.int 5]) ?_ (gOk _ _ _ _ _) dX4_isRest_16 (tX4_actOf _ _ _ _ _) ⟨wV_X4_actOf, wL_X4_actOf⟩ wM_X4_71 (gCX4 _ _ _ _ _) rfl (lt_t rfl) rfl ⟨le_t rfl, le_t rfl⟩ ⟨le_t rfl, le_t rfl⟩ rfl (le_t rfl) (fun _ _ h => h)
    refine sC.of rfl (by decide) (le_t rfl) ?_
    refine sv_iconst (pc := 0) (v := 0) dX4_actOf_0 (by decide) ?_
    refine sv_istore_n (pc := 1) dX4_actOf_1 rfl (by decide) ?_
    refine sv_iload_n (pc := 2) dX4_actOf_2 rfl rfl ?_
    refine sv_aload_n (pc := 3) dX4_actOf_3 rfl rfl ?_
    refine sw_getfield (pc := 4) dX4_actOf_4 (gCX4 _ _ _ _ _) 12 (by decide) wF_X4_11 rfl rfl rfl ?_
    refine sv_iload_n (pc := 7) dX4_actOf_7 rfl rfl ?_
    refine sw_iaload (pc := 8) (k := 5) (v := .int 0) dX4_actOf_8 rfl rfl rfl (by decide) (by decide) rfl rfl ?_
    refine sv_icmp_ge (pc := 9) (tgt := 55) dX4_actOf_9 (by decide) (fun _ => ?_) (fun h => absurd (by decide) h)
    refine sv_aload_n (pc := 55) dX4_actOf_55 rfl rfl ?_
    refine sw_getfield (pc := 56) dX4_actOf_56 (gCX4 _ _ _ _ _) 12 (by decide) wF_X4_11 rfl rfl rfl ?_
    refine sv_iload_n (pc := 59) dX4_actOf_59 rfl rfl ?_
    refine sw_iaload (pc := 60) (k := 5) (v := .int 0) dX4_actOf_60 rfl rfl rfl (by decide) (by decide) rfl rfl ?_
    refine sv_iret (pc := 61) dX4_actOf_61 rfl (le_t rfl) (le_t rfl) ?_
    refine sv_icmp_eq (pc := 19) (tgt := 24) dX4_isRest_19 (by decide) (fun _ => ?_) (fun h => absurd (by decide) h)
    refine sw_iinc (pc := 24) (v := 6) dX4_isRest_24 rfl (by decide) (by decide) ?_
    refine sv_goto (pc := 27) (tgt := 2) dX4_isRest_27 (by decide) ?_
    refine sv_iload_n (pc := 2) dX4_isRest_2 rfl rfl ?_
    refine sv_bipush (pc := 3) (v := 7) dX4_isRest_3 (by decide) ?_
    refine sv_icmp_ge (pc := 5) (tgt := 30) dX4_isRest_5 (by decide) (fun h => absurd h (by decide)) (fun _ => ?_)
    refine sv_aload_n (pc := 8) dX4_isRest_8 rfl rfl ?_
    refine sw_getfield (pc := 9) dX4_isRest_9 (gCX4 _ _ _ _ _) 5 (by decide) wF_X4_30 rfl rfl rfl ?_
    refine sv_iload_n (pc := 12) dX4_isRest_12 rfl rfl ?_
    refine sw_iaload (pc := 13) (k := 6) (v := .int 0) dX4_isRest_13 rfl rfl rfl (by decide) (by decide) rfl rfl ?_
    refine sv_aload_n (pc := 14) dX4_isRest_14 rfl rfl ?_
    refine sv_iload_n (pc := 15) dX4_isRest_15 rfl rfl ?_
    refine sv_callV (pc := 16) (M' := mX4_actOf) (d' := 16) (C' := 0) (S' := 0) (av := [.int 6]) ?_ (gOk _ _ _ _ _) dX4_isRest_16 (tX4_actOf _ _ _ _ _) ⟨wV_X4_actOf, wL_X4_actOf⟩ wM_X4_71 (gCX4 _ _ _ _ _) rfl (lt_t rfl) rfl ⟨le_t rfl, le_t rfl⟩ ⟨le_t rfl, le_t rfl⟩ rfl (le_t rfl) (fun _ _ h => h)
    refine sC.of rfl (by decide) (le_t rfl) ?_
    refine sv_iconst (pc := 0) (v := 0) dX4_actOf_0 (by decide) ?_
    refine sv_istore_n (pc := 1) dX4_actOf_1 rfl (by decide) ?_
    refine sv_iload_n (pc := 2) dX4_actOf_2 rfl rfl ?_
    refine sv_aload_n (pc := 3) dX4_actOf_3 rfl rfl ?_
    refine sw_getfield (pc := 4) dX4_actOf_4 (gCX4 _ _ _ _ _) 12 (by decide) wF_X4_11 rfl rfl rfl ?_
    refine sv_iload_n (pc := 7) dX4_actOf_7 rfl rfl ?_
    refine sw_iaload (pc := 8) (k := 6) (v := .int 0) dX4_actOf_8 rfl rfl rfl (by decide) (by decide) rfl rfl ?_
    refine sv_icmp_ge (pc := 9) (tgt := 55) dX4_actOf_9 (by decide) (fun _ => ?_) (fun h => absurd (by decide) h)
    refine sv_aload_n (pc := 55) dX4_actOf_55 rfl rfl ?_
    refine sw_getfield (pc := 56) dX4_actOf_56 (gCX4 _ _ _ _ _) 12 (by decide) wF_X4_11 rfl rfl rfl ?_
    refine sv_iload_n (pc := 59) dX4_actOf_59 rfl rfl ?_
    refine sw_iaload (pc := 60) (k := 6) (v := .int 0) dX4_actOf_60 rfl rfl rfl (by decide) (by decide) rfl rfl ?_
    refine sv_iret (pc := 61) dX4_actOf_61 rfl (le_t rfl) (le_t rfl) ?_
    refine sv_icmp_eq (pc := 19) (tgt := 24) dX4_isRest_19 (by decide) (fun _ => ?_) (fun h => absurd (by decide) h)
    refine sw_iinc (pc := 24) (v := 7) dX4_isRest_24 rfl (by decide) (by decide) ?_
    refine sv_goto (pc := 27) (tgt := 2) dX4_isRest_27 (by decide) ?_
    refine sv_iload_n (pc := 2) dX4_isRest_2 rfl rfl ?_
    refine sv_bipush (pc := 3) (v := 7) dX4_isRest_3 (by decide) ?_
    refine sv_icmp_ge (pc := 5) (tgt := 30) dX4_isRest_5 (by decide) (fun _ => ?_) (fun h => absurd (by decide) h)
    refine sv_iconst (pc := 30) (v := 1) dX4_isRest_30 (by decide) ?_
    refine sv_zret (pc := 31) dX4_isRest_31 rfl (by decide) (le_t rfl) (le_t rfl) ?_
    refine sv_if_eq (pc := 93) (tgt := 150) dX4_spread_93 (by decide) (fun h => absurd h (by decide)) (fun _ => ?_)
    refine sv_aload_n (pc := 96) dX4_spread_96 rfl rfl ?_
    refine sw_getfield (pc := 97) dX4_spread_97 (gCX4 _ _ _ _ _) 8 (by decide) wF_X4_39 rfl rfl rfl ?_
    refine sv_aload_n (pc := 100) dX4_spread_100 rfl rfl ?_
    refine sw_getfield (pc := 101) dX4_spread_101 (gCX4 _ _ _ _ _) 6 (by decide) wF_X4_33 rfl rfl rfl ?_
    refine sv_iload (pc := 104) dX4_spread_104 rfl ?_
    refine sw_iaload (pc := 106) (k := 0) (v := .int 0) dX4_spread_106 rfl rfl rfl (by decide) (by decide) rfl rfl ?_
    refine sv_dup2 (pc := 107) dX4_spread_107 rfl rfl ?_
    refine sw_baload (pc := 108) (k := 0) (v := .int 1) dX4_spread_108 rfl rfl rfl (by decide) (by decide) rfl rfl ?_
    refine sv_iconst (pc := 109) (v := 2) dX4_spread_109 (by decide) ?_
    refine sw_ior (pc := 110) (v := 3) dX4_spread_110 (by decide) ?_
    refine sv_i2b (pc := 111) (v := 3) dX4_spread_111 (by decide) ?_
    refine sw_bastore (pc := 112) (k := 0) (v := .int 3) dX4_spread_112 rfl rfl rfl (by decide) (by decide) rfl (by decide) ?_
    refine sv_aload_n (pc := 113) dX4_spread_113 rfl rfl ?_
    refine sw_getfield (pc := 114) dX4_spread_114 (gCX4 _ _ _ _ _) 13 (by decide) wF_X4_43 rfl rfl rfl ?_
    refine sv_iconst (pc := 117) (v := 1) dX4_spread_117 (by decide) ?_
    refine sv_dup2 (pc := 118) dX4_spread_118 rfl rfl ?_
    refine sw_iaload (pc := 119) (k := 1) (v := .int 0) dX4_spread_119 rfl rfl rfl (by decide) (by decide) rfl rfl ?_
    refine sv_iconst (pc := 120) (v := 1) dX4_spread_120 (by decide) ?_
    refine sw_iadd (pc := 121) (v := 1) dX4_spread_121 (by decide) ?_
    refine sw_iastore (pc := 122) (k := 1) (v := .int 1) dX4_spread_122 rfl rfl rfl (by decide) (by decide) rfl rfl ?_
    refine sv_aload_n (pc := 123) dX4_spread_123 rfl rfl ?_
    refine sw_getfield (pc := 124) dX4_spread_124 (gCX4 _ _ _ _ _) 13 (by decide) wF_X4_43 rfl rfl rfl ?_
    refine sv_iconst (pc := 127) (v := 3) dX4_spread_127 (by decide) ?_
    refine sv_aload_n (pc := 128) dX4_spread_128 rfl rfl ?_
    refine sw_getfield (pc := 129) dX4_spread_129 (gCX4 _ _ _ _ _) 13 (by decide) wF_X4_43 rfl rfl rfl ?_
    refine sv_iconst (pc := 132) (v := 3) dX4_spread_132 (by decide) ?_
    refine sw_iaload (pc := 133) (k := 3) (v := .int (-99999999)) dX4_spread_133 rfl rfl rfl (by decide) (by decide) rfl rfl ?_
    refine sv_ldc (pc := 134) dX4_spread_134 wG_X4_123 ?_
    refine sv_icmp_ne (pc := 136) (tgt := 143) dX4_spread_136 (by decide) (fun h => absurd (by decide) h) (fun _ => ?_)
    refine sv_iload_n (pc := 139) dX4_spread_139 rfl rfl ?_
    refine sv_goto (pc := 140) (tgt := 149) dX4_spread_140 (by decide) ?_
    refine sw_iastore (pc := 149) (k := 3) (v := .int 0) dX4_spread_149 rfl rfl rfl (by decide) (by decide) rfl rfl ?_
    refine sw_iinc (pc := 150) (v := 1) dX4_spread_150 rfl (by decide) (by decide) ?_
    refine sv_goto (pc := 153) (tgt := 48) dX4_spread_153 (by decide) ?_
    refine sv_iload (pc := 48) dX4_spread_48 rfl ?_
    refine sv_iload_n (pc := 50) dX4_spread_50 rfl rfl ?_
    refine sv_icmp_ge (pc := 51) (tgt := 156) dX4_spread_51 (by decide) (fun _ => ?_) (fun h => absurd (by decide) h)
    refine sv_iload_n (pc := 156) dX4_spread_156 rfl rfl ?_
    refine sv_iret (pc := 157) dX4_spread_157 rfl (le_t rfl) (le_t rfl) ?_
    refine sv_istore_n (pc := 20) dX4_explore_20 rfl (by decide) ?_
    refine sv_aload_n (pc := 21) dX4_explore_21 rfl rfl ?_
    refine sv_callV (pc := 22) (M' := mX4_leadBack) (d' := 18) (C' := 0) (S' := 0) (av := []) ?_ (gOk _ _ _ _ _) dX4_explore_22 (tX4_leadBack _ _ _ _ _) ⟨wV_X4_leadBack, wL_X4_leadBack⟩ wM_X4_111 (gCX4 _ _ _ _ _) rfl (lt_t rfl) rfl ⟨le_t rfl, le_t rfl⟩ ⟨le_t rfl, le_t rfl⟩ rfl (le_t rfl) (fun _ _ h => h)
    refine sC.of rfl (by decide) (le_t rfl) ?_
    refine sv_iconst (pc := 0) (v := 0) dX4_leadBack_0 (by decide) ?_
    refine sv_istore_n (pc := 1) dX4_leadBack_1 rfl (by decide) ?_
    refine sv_iconst (pc := 2) (v := 0) dX4_leadBack_2 (by decide) ?_
    refine sv_istore_n (pc := 3) dX4_leadBack_3 rfl (by decide) ?_
    refine sv_iload_n (pc := 4) dX4_leadBack_4 rfl rfl ?_
    refine sv_aload_n (pc := 5) dX4_leadBack_5 rfl rfl ?_
    refine sw_getfield (pc := 6) dX4_leadBack_6 (gCX4 _ _ _ _ _) 9 (by decide) wF_X4_59 rfl rfl rfl ?_
    refine sv_icmp_ge (pc := 9) (tgt := 39) dX4_leadBack_9 (by decide) (fun h => absurd h (by decide)) (fun _ => ?_)
    refine sv_aload_n (pc := 12) dX4_leadBack_12 rfl rfl ?_
    refine sw_getfield (pc := 13) dX4_leadBack_13 (gCX4 _ _ _ _ _) 8 (by decide) wF_X4_39 rfl rfl rfl ?_
    refine sv_iload_n (pc := 16) dX4_leadBack_16 rfl rfl ?_
    refine sw_baload (pc := 17) (k := 0) (v := .int 3) dX4_leadBack_17 rfl rfl rfl (by decide) (by decide) rfl rfl ?_
    refine sv_iconst (pc := 18) (v := 2) dX4_leadBack_18 (by decide) ?_
    refine sw_iand (pc := 19) (v := 2) dX4_leadBack_19 (by decide) ?_
    refine sv_if_eq (pc := 20) (tgt := 33) dX4_leadBack_20 (by decide) (fun h => absurd h (by decide)) (fun _ => ?_)
    refine sv_aload_n (pc := 23) dX4_leadBack_23 rfl rfl ?_
    refine sw_getfield (pc := 24) dX4_leadBack_24 (gCX4 _ _ _ _ _) 6 (by decide) wF_X4_33 rfl rfl rfl ?_
    refine sv_iload_n (pc := 27) dX4_leadBack_27 rfl rfl ?_
    refine sv_iload_n (pc := 28) dX4_leadBack_28 rfl rfl ?_
    refine sw_iastore (pc := 29) (k := 0) (v := .int 0) dX4_leadBack_29 rfl rfl rfl (by decide) (by decide) rfl rfl ?_
    refine sw_iinc (pc := 30) (v := 1) dX4_leadBack_30 rfl (by decide) (by decide) ?_
    refine sw_iinc (pc := 33) (v := 1) dX4_leadBack_33 rfl (by decide) (by decide) ?_
    refine sv_goto (pc := 36) (tgt := 4) dX4_leadBack_36 (by decide) ?_
    refine sv_iload_n (pc := 4) dX4_leadBack_4 rfl rfl ?_
    refine sv_aload_n (pc := 5) dX4_leadBack_5 rfl rfl ?_
    refine sw_getfield (pc := 6) dX4_leadBack_6 (gCX4 _ _ _ _ _) 9 (by decide) wF_X4_59 rfl rfl rfl ?_
    refine sv_icmp_ge (pc := 9) (tgt := 39) dX4_leadBack_9 (by decide) (fun _ => ?_) (fun h => absurd (by decide) h)
    refine sv_iconst (pc := 39) (v := 0) dX4_leadBack_39 (by decide) ?_
    refine sv_istore_n (pc := 40) dX4_leadBack_40 rfl (by decide) ?_
    refine sv_iload_n (pc := 41) dX4_leadBack_41 rfl rfl ?_
    refine sv_iload_n (pc := 42) dX4_leadBack_42 rfl rfl ?_
    refine sv_icmp_ge (pc := 43) (tgt := 74) dX4_leadBack_43 (by decide) (fun h => absurd h (by decide)) (fun _ => ?_)
    refine sv_aload_n (pc := 46) dX4_leadBack_46 rfl rfl ?_
    refine sv_aload_n (pc := 47) dX4_leadBack_47 rfl rfl ?_
    refine sw_getfield (pc := 48) dX4_leadBack_48 (gCX4 _ _ _ _ _) 6 (by decide) wF_X4_33 rfl rfl rfl ?_
    refine sv_iload_n (pc := 51) dX4_leadBack_51 rfl rfl ?_
    refine sw_iaload (pc := 52) (k := 0) (v := .int 0) dX4_leadBack_52 rfl rfl rfl (by decide) (by decide) rfl rfl ?_
    refine sv_callV (pc := 53) (M' := mX4_unfold) (d' := 17) (C' := 0) (S' := 0) (av := [.int 0]) ?_ (gOk _ _ _ _ _) dX4_leadBack_53 (tX4_unfold _ _ _ _ _) ⟨wV_X4_unfold, wL_X4_unfold⟩ wM_X4_85 (gCX4 _ _ _ _ _) rfl (lt_t rfl) rfl ⟨le_t rfl, le_t rfl⟩ ⟨le_t rfl, le_t rfl⟩ rfl (le_t rfl) (fun _ _ h => h)
    refine sC.of rfl (by decide) (le_t rfl) ?_
    refine sv_iconst (pc := 0) (v := 1) dX4_unfold_0 (by decide) ?_
    refine sv_istore_n (pc := 1) dX4_unfold_1 rfl (by decide) ?_
    refine sv_iload_n (pc := 2) dX4_unfold_2 rfl rfl ?_
    refine sv_bipush (pc := 3) (v := 7) dX4_unfold_3 (by decide) ?_
    refine sv_icmp_ge (pc := 5) (tgt := 26) dX4_unfold_5 (by decide) (fun h => absurd h (by decide)) (fun _ => ?_)
    refine sv_aload_n (pc := 8) dX4_unfold_8 rfl rfl ?_
    refine sw_getfield (pc := 9) dX4_unfold_9 (gCX4 _ _ _ _ _) 5 (by decide) wF_X4_30 rfl rfl rfl ?_
    refine sv_iload_n (pc := 12) dX4_unfold_12 rfl rfl ?_
    refine sv_aload_n (pc := 13) dX4_unfold_13 rfl rfl ?_
    refine sv_iload_n (pc := 14) dX4_unfold_14 rfl rfl ?_
    refine sv_iload_n (pc := 15) dX4_unfold_15 rfl rfl ?_
    refine sv_callV (pc := 16) (M' := mX4_figure) (d' := 16) (C' := 0) (S' := 0) (av := [.int 0, .int 1]) ?_ (gOk _ _ _ _ _) dX4_unfold_16 (tX4_figure _ _ _ _ _) ⟨wV_X4_figure, wL_X4_figure⟩ wM_X4_75 (gCX4 _ _ _ _ _) rfl (lt_t rfl) rfl ⟨le_t rfl, le_t rfl⟩ ⟨le_t rfl, le_t rfl⟩ rfl (le_t rfl) (fun _ _ h => h)
    refine sC.of rfl (by decide) (le_t rfl) ?_
    refine sv_aload_n (pc := 0) dX4_figure_0 rfl rfl ?_
    refine sw_getfield (pc := 1) dX4_figure_1 (gCX4 _ _ _ _ _) 4 (by decide) wF_X4_27 rfl rfl rfl ?_
    refine sv_iload_n (pc := 4) dX4_figure_4 rfl rfl ?_
    refine sw_iaload (pc := 5) (k := 1) (v := .int 1) dX4_figure_5 rfl rfl rfl (by decide) (by decide) rfl rfl ?_
    refine sv_istore_n (pc := 6) dX4_figure_6 rfl (by decide) ?_
    refine sv_iload_n (pc := 7) dX4_figure_7 rfl rfl ?_
    refine sv_if_le (pc := 8) (tgt := 26) dX4_figure_8 (by decide) (fun h => absurd h (by decide)) (fun _ => ?_)
    refine sv_iload_n (pc := 11) dX4_figure_11 rfl rfl ?_
    refine sv_iload_n (pc := 12) dX4_figure_12 rfl rfl ?_
    refine sw_idiv (pc := 13) (v := 0) dX4_figure_13 (by decide) (by decide) ?_
    refine sv_aload_n (pc := 14) dX4_figure_14 rfl rfl ?_
    refine sw_getfield (pc := 15) dX4_figure_15 (gCX4 _ _ _ _ _) 12 (by decide) wF_X4_11 rfl rfl rfl ?_
    refine sv_iload_n (pc := 18) dX4_figure_18 rfl rfl ?_
    refine sw_iaload (pc := 19) (k := 1) (v := .int 0) dX4_figure_19 rfl rfl rfl (by decide) (by decide) rfl rfl ?_
    refine sv_iconst (pc := 20) (v := 1) dX4_figure_20 (by decide) ?_
    refine sw_iadd (pc := 21) (v := 1) dX4_figure_21 (by decide) ?_
    refine sw_irem (pc := 22) (v := 0) dX4_figure_22 (by decide) (by decide) ?_
    refine sv_goto (pc := 23) (tgt := 27) dX4_figure_23 (by decide) ?_
    refine sv_iret (pc := 27) dX4_figure_27 rfl (le_t rfl) (le_t rfl) ?_
    refine sw_iastore (pc := 19) (k := 1) (v := .int 0) dX4_unfold_19 rfl rfl rfl (by decide) (by decide) rfl rfl ?_
    refine sw_iinc (pc := 20) (v := 2) dX4_unfold_20 rfl (by decide) (by decide) ?_
    refine sv_goto (pc := 23) (tgt := 2) dX4_unfold_23 (by decide) ?_
    refine sv_iload_n (pc := 2) dX4_unfold_2 rfl rfl ?_
    refine sv_bipush (pc := 3) (v := 7) dX4_unfold_3 (by decide) ?_
    refine sv_icmp_ge (pc := 5) (tgt := 26) dX4_unfold_5 (by decide) (fun h => absurd h (by decide)) (fun _ => ?_)
    refine sv_aload_n (pc := 8) dX4_unfold_8 rfl rfl ?_
    refine sw_getfield (pc := 9) dX4_unfold_9 (gCX4 _ _ _ _ _) 5 (by decide) wF_X4_30 rfl rfl rfl ?_
    refine sv_iload_n (pc := 12) dX4_unfold_12 rfl rfl ?_
    refine sv_aload_n (pc := 13) dX4_unfold_13 rfl rfl ?_
    refine sv_iload_n (pc := 14) dX4_unfold_14 rfl rfl ?_
    refine sv_iload_n (pc := 15) dX4_unfold_15 rfl rfl ?_
    refine sv_callV (pc := 16) (M' := mX4_figure) (d' := 16) (C' := 0) (S' := 0) (av := [.int 0, .int 2]) ?_ (gOk _ _ _ _ _) dX4_unfold_16 (tX4_figure _ _ _ _ _) ⟨wV_X4_figure, wL_X4_figure⟩ wM_X4_75 (gCX4 _ _ _ _ _) rfl (lt_t rfl) rfl ⟨le_t rfl, le_t rfl⟩ ⟨le_t rfl, le_t rfl⟩ rfl (le_t rfl) (fun _ _ h => h)
    refine sC.of rfl (by decide) (le_t rfl) ?_
    refine sv_aload_n (pc := 0) dX4_figure_0 rfl rfl ?_
    refine sw_getfield (pc := 1) dX4_figure_1 (gCX4 _ _ _ _ _) 4 (by decide) wF_X4_27 rfl rfl rfl ?_
    refine sv_iload_n (pc := 4) dX4_figure_4 rfl rfl ?_
    refine sw_iaload (pc := 5) (k := 2) (v := .int 1) dX4_figure_5 rfl rfl rfl (by decide) (by decide) rfl rfl ?_
    refine sv_istore_n (pc := 6) dX4_figure_6 rfl (by decide) ?_
    refine sv_iload_n (pc := 7) dX4_figure_7 rfl rfl ?_
    refine sv_if_le (pc := 8) (tgt := 26) dX4_figure_8 (by decide) (fun h => absurd h (by decide)) (fun _ => ?_)
    refine sv_iload_n (pc := 11) dX4_figure_11 rfl rfl ?_
    refine sv_iload_n (pc := 12) dX4_figure_12 rfl rfl ?_
    refine sw_idiv (pc := 13) (v := 0) dX4_figure_13 (by decide) (by decide) ?_
    refine sv_aload_n (pc := 14) dX4_figure_14 rfl rfl ?_
    refine sw_getfield (pc := 15) dX4_figure_15 (gCX4 _ _ _ _ _) 12 (by decide) wF_X4_11 rfl rfl rfl ?_
    refine sv_iload_n (pc := 18) dX4_figure_18 rfl rfl ?_
    refine sw_iaload (pc := 19) (k := 2) (v := .int 0) dX4_figure_19 rfl rfl rfl (by decide) (by decide) rfl rfl ?_
    refine sv_iconst (pc := 20) (v := 1) dX4_figure_20 (by decide) ?_
    refine sw_iadd (pc := 21) (v := 1) dX4_figure_21 (by decide) ?_
    refine sw_irem (pc := 22) (v := 0) dX4_figure_22 (by decide) (by decide) ?_
    refine sv_goto (pc := 23) (tgt := 27) dX4_figure_23 (by decide) ?_
    refine sv_iret (pc := 27) dX4_figure_27 rfl (le_t rfl) (le_t rfl) ?_
    refine sw_iastore (pc := 19) (k := 2) (v := .int 0) dX4_unfold_19 rfl rfl rfl (by decide) (by decide) rfl rfl ?_
    refine sw_iinc (pc := 20) (v := 3) dX4_unfold_20 rfl (by decide) (by decide) ?_
    refine sv_goto (pc := 23) (tgt := 2) dX4_unfold_23 (by decide) ?_
    refine sv_iload_n (pc := 2) dX4_unfold_2 rfl rfl ?_
    refine sv_bipush (pc := 3) (v := 7) dX4_unfold_3 (by decide) ?_
    refine sv_icmp_ge (pc := 5) (tgt := 26) dX4_unfold_5 (by decide) (fun h => absurd h (by decide)) (fun _ => ?_)
    refine sv_aload_n (pc := 8) dX4_unfold_8 rfl rfl ?_
    refine sw_getfield (pc := 9) dX4_unfold_9 (gCX4 _ _ _ _ _) 5 (by decide) wF_X4_30 rfl rfl rfl ?_
    refine sv_iload_n (pc := 12) dX4_unfold_12 rfl rfl ?_
    refine sv_aload_n (pc := 13) dX4_unfold_13 rfl rfl ?_
    refine sv_iload_n (pc := 14) dX4_unfold_14 rfl rfl ?_
    refine sv_iload_n (pc := 15) dX4_unfold_15 rfl rfl ?_
    refine sv_callV (pc := 16) (M' := mX4_figure) (d' := 16) (C' := 0) (S' := 0) (av := [.int 0, .int 3]) ?_ (gOk _ _ _ _ _) dX4_unfold_16 (tX4_figure _ _ _ _ _) ⟨wV_X4_figure, wL_X4_figure⟩ wM_X4_75 (gCX4 _ _ _ _ _) rfl (lt_t rfl) rfl ⟨le_t rfl, le_t rfl⟩ ⟨le_t rfl, le_t rfl⟩ rfl (le_t rfl) (fun _ _ h => h)
    refine sC.of rfl (by decide) (le_t rfl) ?_
    refine sv_aload_n (pc := 0) dX4_figure_0 rfl rfl ?_
    refine sw_getfield (pc := 1) dX4_figure_1 (gCX4 _ _ _ _ _) 4 (by decide) wF_X4_27 rfl rfl rfl ?_
    refine sv_iload_n (pc := 4) dX4_figure_4 rfl rfl ?_
    refine sw_iaload (pc := 5) (k := 3) (v := .int 1) dX4_figure_5 rfl rfl rfl (by decide) (by decide) rfl rfl ?_
    refine sv_istore_n (pc := 6) dX4_figure_6 rfl (by decide) ?_
    refine sv_iload_n (pc := 7) dX4_figure_7 rfl rfl ?_
    refine sv_if_le (pc := 8) (tgt := 26) dX4_figure_8 (by decide) (fun h => absurd h (by decide)) (fun _ => ?_)
    refine sv_iload_n (pc := 11) dX4_figure_11 rfl rfl ?_
    refine sv_iload_n (pc := 12) dX4_figure_12 rfl rfl ?_
    refine sw_idiv (pc := 13) (v := 0) dX4_figure_13 (by decide) (by decide) ?_
    refine sv_aload_n (pc := 14) dX4_figure_14 rfl rfl ?_
    refine sw_getfield (pc := 15) dX4_figure_15 (gCX4 _ _ _ _ _) 12 (by decide) wF_X4_11 rfl rfl rfl ?_
    refine sv_iload_n (pc := 18) dX4_figure_18 rfl rfl ?_
    refine sw_iaload (pc := 19) (k := 3) (v := .int 0) dX4_figure_19 rfl rfl rfl (by decide) (by decide) rfl rfl ?_
    refine sv_iconst (pc := 20) (v := 1) dX4_figure_20 (by decide) ?_
    refine sw_iadd (pc := 21) (v := 1) dX4_figure_21 (by decide) ?_
    refine sw_irem (pc := 22) (v := 0) dX4_figure_22 (by decide) (by decide) ?_
    refine sv_goto (pc := 23) (tgt := 27) dX4_figure_23 (by decide) ?_
    refine sv_iret (pc := 27) dX4_figure_27 rfl (le_t rfl) (le_t rfl) ?_
    refine sw_iastore (pc := 19) (k := 3) (v := .int 0) dX4_unfold_19 rfl rfl rfl (by decide) (by decide) rfl rfl ?_
    refine sw_iinc (pc := 20) (v := 4) dX4_unfold_20 rfl (by decide) (by decide) ?_
    refine sv_goto (pc := 23) (tgt := 2) dX4_unfold_23 (by decide) ?_
    refine sv_iload_n (pc := 2) dX4_unfold_2 rfl rfl ?_
    refine sv_bipush (pc := 3) (v := 7) dX4_unfold_3 (by decide) ?_
    refine sv_icmp_ge (pc := 5) (tgt := 26) dX4_unfold_5 (by decide) (fun h => absurd h (by decide)) (fun _ => ?_)
    refine sv_aload_n (pc := 8) dX4_unfold_8 rfl rfl ?_
    refine sw_getfield (pc := 9) dX4_unfold_9 (gCX4 _ _ _ _ _) 5 (by decide) wF_X4_30 rfl rfl rfl ?_
    refine sv_iload_n (pc := 12) dX4_unfold_12 rfl rfl ?_
    refine sv_aload_n (pc := 13) dX4_unfold_13 rfl rfl ?_
    refine sv_iload_n (pc := 14) dX4_unfold_14 rfl rfl ?_
    refine sv_iload_n (pc := 15) dX4_unfold_15 rfl rfl ?_
    refine sv_callV (pc := 16) (M' := mX4_figure) (d' := 16) (C' := 0) (S' := 0) (av := [.int 0, .int 4]) ?_ (gOk _ _ _ _ _) dX4_unfold_16 (tX4_figure _ _ _ _ _) ⟨wV_X4_figure, wL_X4_figure⟩ wM_X4_75 (gCX4 _ _ _ _ _) rfl (lt_t rfl) rfl ⟨le_t rfl, le_t rfl⟩ ⟨le_t rfl, le_t rfl⟩ rfl (le_t rfl) (fun _ _ h => h)
    refine sC.of rfl (by decide) (le_t rfl) ?_
    refine sv_aload_n (pc := 0) dX4_figure_0 rfl rfl ?_
    refine sw_getfield (pc := 1) dX4_figure_1 (gCX4 _ _ _ _ _) 4 (by decide) wF_X4_27 rfl rfl rfl ?_
    refine sv_iload_n (pc := 4) dX4_figure_4 rfl rfl ?_
    refine sw_iaload (pc := 5) (k := 4) (v := .int 1) dX4_figure_5 rfl rfl rfl (by decide) (by decide) rfl rfl ?_
    refine sv_istore_n (pc := 6) dX4_figure_6 rfl (by decide) ?_
    refine sv_iload_n (pc := 7) dX4_figure_7 rfl rfl ?_
    refine sv_if_le (pc := 8) (tgt := 26) dX4_figure_8 (by decide) (fun h => absurd h (by decide)) (fun _ => ?_)
    refine sv_iload_n (pc := 11) dX4_figure_11 rfl rfl ?_
    refine sv_iload_n (pc := 12) dX4_figure_12 rfl rfl ?_
    refine sw_idiv (pc := 13) (v := 0) dX4_figure_13 (by decide) (by decide) ?_
    refine sv_aload_n (pc := 14) dX4_figure_14 rfl rfl ?_
    refine sw_getfield (pc := 15) dX4_figure_15 (gCX4 _ _ _ _ _) 12 (by decide) wF_X4_11 rfl rfl rfl ?_
    refine sv_iload_n (pc := 18) dX4_figure_18 rfl rfl ?_
    refine sw_iaload (pc := 19) (k := 4) (v := .int 0) dX4_figure_19 rfl rfl rfl (by decide) (by decide) rfl rfl ?_
    refine sv_iconst (pc := 20) (v := 1) dX4_figure_20 (by decide) ?_
    refine sw_iadd (pc := 21) (v := 1) dX4_figure_21 (by decide) ?_
    refine sw_irem (pc := 22) (v := 0) dX4_figure_22 (by decide) (by decide) ?_
    refine sv_goto (pc := 23) (tgt := 27) dX4_figure_23 (by decide) ?_
    refine sv_iret (pc := 27) dX4_figure_27 rfl (le_t rfl) (le_t rfl) ?_
    refine sw_iastore (pc := 19) (k := 4) (v := .int 0) dX4_unfold_19 rfl rfl rfl (by decide) (by decide) rfl rfl ?_
    refine sw_iinc (pc := 20) (v := 5) dX4_unfold_20 rfl (by decide) (by decide) ?_
    refine sv_goto (pc := 23) (tgt := 2) dX4_unfold_23 (by decide) ?_
    refine sv_iload_n (pc := 2) dX4_unfold_2 rfl rfl ?_
    refine sv_bipush (pc := 3) (v := 7) dX4_unfold_3 (by decide) ?_
    refine sv_icmp_ge (pc := 5) (tgt := 26) dX4_unfold_5 (by decide) (fun h => absurd h (by decide)) (fun _ => ?_)
    refine sv_aload_n (pc := 8) dX4_unfold_8 rfl rfl ?_
    refine sw_getfield (pc := 9) dX4_unfold_9 (gCX4 _ _ _ _ _) 5 (by decide) wF_X4_30 rfl rfl rfl ?_
    refine sv_iload_n (pc := 12) dX4_unfold_12 rfl rfl ?_
    refine sv_aload_n (pc := 13) dX4_unfold_13 rfl rfl ?_
    refine sv_iload_n (pc := 14) dX4_unfold_14 rfl rfl ?_
    refine sv_iload_n (pc := 15) dX4_unfold_15 rfl rfl ?_
    refine sv_callV (pc := 16) (M' := mX4_figure) (d' := 16) (C' := 0) (S' := 0) (av := [.int 0, .int 5]) ?_ (gOk _ _ _ _ _) dX4_unfold_16 (tX4_figure _ _ _ _ _) ⟨wV_X4_figure, wL_X4_figure⟩ wM_X4_75 (gCX4 _ _ _ _ _) rfl (lt_t rfl) rfl ⟨le_t rfl, le_t rfl⟩ ⟨le_t rfl, le_t rfl⟩ rfl (le_t rfl) (fun _ _ h => h)
    refine sC.of rfl (by decide) (le_t rfl) ?_
    refine sv_aload_n (pc := 0) dX4_figure_0 rfl rfl ?_
    refine sw_getfield (pc := 1) dX4_figure_1 (gCX4 _ _ _ _ _) 4 (by decide) wF_X4_27 rfl rfl rfl ?_
    refine sv_iload_n (pc := 4) dX4_figure_4 rfl rfl ?_
    refine sw_iaload (pc := 5) (k := 5) (v := .int 1) dX4_figure_5 rfl rfl rfl (by decide) (by decide) rfl rfl ?_
    refine sv_istore_n (pc := 6) dX4_figure_6 rfl (by decide) ?_
    refine sv_iload_n (pc := 7) dX4_figure_7 rfl rfl ?_
    refine sv_if_le (pc := 8) (tgt := 26) dX4_figure_8 (by decide) (fun h => absurd h (by decide)) (fun _ => ?_)
    refine sv_iload_n (pc := 11) dX4_figure_11 rfl rfl ?_
    refine sv_iload_n (pc := 12) dX4_figure_12 rfl rfl ?_
    refine sw_idiv (pc := 13) (v := 0) dX4_figure_13 (by decide) (by decide) ?_
    refine sv_aload_n (pc := 14) dX4_figure_14 rfl rfl ?_
    refine sw_getfield (pc := 15) dX4_figure_15 (gCX4 _ _ _ _ _) 12 (by decide) wF_X4_11 rfl rfl rfl ?_
    refine sv_iload_n (pc := 18) dX4_figure_18 rfl rfl ?_
    refine sw_iaload (pc := 19) (k := 5) (v := .int 0) dX4_figure_19 rfl rfl rfl (by decide) (by decide) rfl rfl ?_
    refine sv_iconst (pc := 20) (v := 1) dX4_figure_20 (by decide) ?_
    refine sw_iadd (pc := 21) (v := 1) dX4_figure_21 (by decide) ?_
    refine sw_irem (pc := 22) (v := 0) dX4_figure_22 (by decide) (by decide) ?_
    refine sv_goto (pc := 23) (tgt := 27) dX4_figure_23 (by decide) ?_
    refine sv_iret (pc := 27) dX4_figure_27 rfl (le_t rfl) (le_t rfl) ?_
    refine sw_iastore (pc := 19) (k := 5) (v := .int 0) dX4_unfold_19 rfl rfl rfl (by decide) (by decide) rfl rfl ?_
    refine sw_iinc (pc := 20) (v := 6) dX4_unfold_20 rfl (by decide) (by decide) ?_
    refine sv_goto (pc := 23) (tgt := 2) dX4_unfold_23 (by decide) ?_
    refine sv_iload_n (pc := 2) dX4_unfold_2 rfl rfl ?_
    refine sv_bipush (pc := 3) (v := 7) dX4_unfold_3 (by decide) ?_
    refine sv_icmp_ge (pc := 5) (tgt := 26) dX4_unfold_5 (by decide) (fun h => absurd h (by decide)) (fun _ => ?_)
    refine sv_aload_n (pc := 8) dX4_unfold_8 rfl rfl ?_
    refine sw_getfield (pc := 9) dX4_unfold_9 (gCX4 _ _ _ _ _) 5 (by decide) wF_X4_30 rfl rfl rfl ?_
    refine sv_iload_n (pc := 12) dX4_unfold_12 rfl rfl ?_
    refine sv_aload_n (pc := 13) dX4_unfold_13 rfl rfl ?_
    refine sv_iload_n (pc := 14) dX4_unfold_14 rfl rfl ?_
    refine sv_iload_n (pc := 15) dX4_unfold_15 rfl rfl ?_
    refine sv_callV (pc := 16) (M' := mX4_figure) (d' := 16) (C' := 0) (S' := 0) (av := [.int 0, .int 6]) ?_ (gOk _ _ _ _ _) dX4_unfold_16 (tX4_figure _ _ _ _ _) ⟨wV_X4_figure, wL_X4_figure⟩ wM_X4_75 (gCX4 _ _ _ _ _) rfl (lt_t rfl) rfl ⟨le_t rfl, le_t rfl⟩ ⟨le_t rfl, le_t rfl⟩ rfl (le_t rfl) (fun _ _ h => h)
    refine sC.of rfl (by decide) (le_t rfl) ?_
    refine sv_aload_n (pc := 0) dX4_figure_0 rfl rfl ?_
    refine sw_getfield (pc := 1) dX4_figure_1 (gCX4 _ _ _ _ _) 4 (by decide) wF_X4_27 rfl rfl rfl ?_
    refine sv_iload_n (pc := 4) dX4_figure_4 rfl rfl ?_
    refine sw_iaload (pc := 5) (k := 6) (v := .int 1) dX4_figure_5 rfl rfl rfl (by decide) (by decide) rfl rfl ?_
    refine sv_istore_n (pc := 6) dX4_figure_6 rfl (by decide) ?_
    refine sv_iload_n (pc := 7) dX4_figure_7 rfl rfl ?_
    refine sv_if_le (pc := 8) (tgt := 26) dX4_figure_8 (by decide) (fun h => absurd h (by decide)) (fun _ => ?_)
    refine sv_iload_n (pc := 11) dX4_figure_11 rfl rfl ?_
    refine sv_iload_n (pc := 12) dX4_figure_12 rfl rfl ?_
    refine sw_idiv (pc := 13) (v := 0) dX4_figure_13 (by decide) (by decide) ?_
    refine sv_aload_n (pc := 14) dX4_figure_14 rfl rfl ?_
    refine sw_getfield (pc := 15) dX4_figure_15 (gCX4 _ _ _ _ _) 12 (by decide) wF_X4_11 rfl rfl rfl ?_
    refine sv_iload_n (pc := 18) dX4_figure_18 rfl rfl ?_
    refine sw_iaload (pc := 19) (k := 6) (v := .int 0) dX4_figure_19 rfl rfl rfl (by decide) (by decide) rfl rfl ?_
    refine sv_iconst (pc := 20) (v := 1) dX4_figure_20 (by decide) ?_
    refine sw_iadd (pc := 21) (v := 1) dX4_figure_21 (by decide) ?_
    refine sw_irem (pc := 22) (v := 0) dX4_figure_22 (by decide) (by decide) ?_
    refine sv_goto (pc := 23) (tgt := 27) dX4_figure_23 (by decide) ?_
    refine sv_iret (pc := 27) dX4_figure_27 rfl (le_t rfl) (le_t rfl) ?_
    refine sw_iastore (pc := 19) (k := 6) (v := .int 0) dX4_unfold_19 rfl rfl rfl (by decide) (by decide) rfl rfl ?_
    refine sw_iinc (pc := 20) (v := 7) dX4_unfold_20 rfl (by decide) (by decide) ?_
    refine sv_goto (pc := 23) (tgt := 2) dX4_unfold_23 (by decide) ?_
    refine sv_iload_n (pc := 2) dX4_unfold_2 rfl rfl ?_
    refine sv_bipush (pc := 3) (v := 7) dX4_unfold_3 (by decide) ?_
    refine sv_icmp_ge (pc := 5) (tgt := 26) dX4_unfold_5 (by decide) (fun _ => ?_) (fun h => absurd (by decide) h)
    refine sv_vret (pc := 26) dX4_unfold_26 rfl (le_t rfl) (le_t rfl) ?_
    refine sv_aload_n (pc := 56) dX4_leadBack_56 rfl rfl ?_
    refine sv_aload_n (pc := 57) dX4_leadBack_57 rfl rfl ?_
    refine sw_getfield (pc := 58) dX4_leadBack_58 (gCX4 _ _ _ _ _) 6 (by decide) wF_X4_33 rfl rfl rfl ?_
    refine sv_iload_n (pc := 61) dX4_leadBack_61 rfl rfl ?_
    refine sw_iaload (pc := 62) (k := 0) (v := .int 0) dX4_leadBack_62 rfl rfl rfl (by decide) (by decide) rfl rfl ?_
    refine sv_iload_n (pc := 63) dX4_leadBack_63 rfl rfl ?_
    refine sv_callV (pc := 64) (M' := mX4_addSources) (d' := 17) (C' := 0) (S' := 0) (av := [.int 0, .int 1]) ?_ (gOk _ _ _ _ _) dX4_leadBack_64 (tX4_addSources _ _ _ _ _) ⟨wV_X4_addSources, wL_X4_addSources⟩ wM_X4_127 (gCX4 _ _ _ _ _) rfl (lt_t rfl) rfl ⟨le_t rfl, le_t rfl⟩ ⟨le_t rfl, le_t rfl⟩ rfl (le_t rfl) (fun _ _ h => h)
    refine sC.of rfl (by decide) (le_t rfl) ?_
    refine sv_iload_n (pc := 0) dX4_addSources_0 rfl rfl ?_
    refine sv_istore_n (pc := 1) dX4_addSources_1 rfl (by decide) ?_
    refine sv_iconst (pc := 2) (v := 1) dX4_addSources_2 (by decide) ?_
    refine sv_istore (pc := 3) dX4_addSources_3 (by decide) ?_
    refine sv_iload (pc := 5) dX4_addSources_5 rfl ?_
    refine sv_bipush (pc := 7) (v := 7) dX4_addSources_7 (by decide) ?_
    refine sv_icmp_ge (pc := 9) (tgt := 114) dX4_addSources_9 (by decide) (fun h => absurd h (by decide)) (fun _ => ?_)
    refine sv_aload_n (pc := 12) dX4_addSources_12 rfl rfl ?_
    refine sv_iload (pc := 13) dX4_addSources_13 rfl ?_
    refine sv_callV (pc := 15) (M' := mX4_actOf) (d' := 16) (C' := 0) (S' := 0) (av := [.int 1]) ?_ (gOk _ _ _ _ _) dX4_addSources_15 (tX4_actOf _ _ _ _ _) ⟨wV_X4_actOf, wL_X4_actOf⟩ wM_X4_71 (gCX4 _ _ _ _ _) rfl (lt_t rfl) rfl ⟨le_t rfl, le_t rfl⟩ ⟨le_t rfl, le_t rfl⟩ rfl (le_t rfl) (fun _ _ h => h)
    refine sC.of rfl (by decide) (le_t rfl) ?_
    refine sv_iconst (pc := 0) (v := 0) dX4_actOf_0 (by decide) ?_
    refine sv_istore_n (pc := 1) dX4_actOf_1 rfl (by decide) ?_
    refine sv_iload_n (pc := 2) dX4_actOf_2 rfl rfl ?_
    refine sv_aload_n (pc := 3) dX4_actOf_3 rfl rfl ?_
    refine sw_getfield (pc := 4) dX4_actOf_4 (gCX4 _ _ _ _ _) 12 (by decide) wF_X4_11 rfl rfl rfl ?_
    refine sv_iload_n (pc := 7) dX4_actOf_7 rfl rfl ?_
    refine sw_iaload (pc := 8) (k := 1) (v := .int 0) dX4_actOf_8 rfl rfl rfl (by decide) (by decide) rfl rfl ?_
    refine sv_icmp_ge (pc := 9) (tgt := 55) dX4_actOf_9 (by decide) (fun _ => ?_) (fun h => absurd (by decide) h)
    refine sv_aload_n (pc := 55) dX4_actOf_55 rfl rfl ?_
    refine sw_getfield (pc := 56) dX4_actOf_56 (gCX4 _ _ _ _ _) 12 (by decide) wF_X4_11 rfl rfl rfl ?_
    refine sv_iload_n (pc := 59) dX4_actOf_59 rfl rfl ?_
    refine sw_iaload (pc := 60) (k := 1) (v := .int 0) dX4_actOf_60 rfl rfl rfl (by decide) (by decide) rfl rfl ?_
    refine sv_iret (pc := 61) dX4_actOf_61 rfl (le_t rfl) (le_t rfl) ?_
    refine sv_aload_n (pc := 18) dX4_addSources_18 rfl rfl ?_
    refine sw_getfield (pc := 19) dX4_addSources_19 (gCX4 _ _ _ _ _) 5 (by decide) wF_X4_30 rfl rfl rfl ?_
    refine sv_iload (pc := 22) dX4_addSources_22 rfl ?_
    refine sw_iaload (pc := 24) (k := 1) (v := .int 0) dX4_addSources_24 rfl rfl rfl (by decide) (by decide) rfl rfl ?_
    refine sv_icmp_eq (pc := 25) (tgt := 31) dX4_addSources_25 (by decide) (fun _ => ?_) (fun h => absurd (by decide) h)
    refine sv_iconst (pc := 31) (v := 0) dX4_addSources_31 (by decide) ?_
    refine sv_istore (pc := 32) dX4_addSources_32 (by decide) ?_
    refine sv_iload (pc := 34) dX4_addSources_34 rfl ?_
    refine sv_aload_n (pc := 36) dX4_addSources_36 rfl rfl ?_
    refine sw_getfield (pc := 37) dX4_addSources_37 (gCX4 _ _ _ _ _) 12 (by decide) wF_X4_11 rfl rfl rfl ?_
    refine sv_iload (pc := 40) dX4_addSources_40 rfl ?_
    refine sw_iaload (pc := 42) (k := 1) (v := .int 0) dX4_addSources_42 rfl rfl rfl (by decide) (by decide) rfl rfl ?_
    refine sv_icmp_gt (pc := 43) (tgt := 108) dX4_addSources_43 (by decide) (fun h => absurd h (by decide)) (fun _ => ?_)
    refine sv_iload_n (pc := 46) dX4_addSources_46 rfl rfl ?_
    refine sv_iload (pc := 47) dX4_addSources_47 rfl ?_
    refine sv_aload_n (pc := 49) dX4_addSources_49 rfl rfl ?_
    refine sw_getfield (pc := 50) dX4_addSources_50 (gCX4 _ _ _ _ _) 5 (by decide) wF_X4_30 rfl rfl rfl ?_
    refine sv_iload (pc := 53) dX4_addSources_53 rfl ?_
    refine sw_iaload (pc := 55) (k := 1) (v := .int 0) dX4_addSources_55 rfl rfl rfl (by decide) (by decide) rfl rfl ?_
    refine sw_isub (pc := 56) (v := 0) dX4_addSources_56 (by decide) ?_
    refine sv_aload_n (pc := 57) dX4_addSources_57 rfl rfl ?_
    refine sw_getfield (pc := 58) dX4_addSources_58 (gCX4 _ _ _ _ _) 4 (by decide) wF_X4_27 rfl rfl rfl ?_
    refine sv_iload (pc := 61) dX4_addSources_61 rfl ?_
    refine sw_iaload (pc := 63) (k := 1) (v := .int 1) dX4_addSources_63 rfl rfl rfl (by decide) (by decide) rfl rfl ?_
    refine sw_imul (pc := 64) (v := 0) dX4_addSources_64 (by decide) ?_
    refine sw_iadd (pc := 65) (v := 0) dX4_addSources_65 (by decide) ?_
    refine sv_istore (pc := 66) dX4_addSources_66 (by decide) ?_
    refine sv_aload_n (pc := 68) dX4_addSources_68 rfl rfl ?_
    refine sw_getfield (pc := 69) dX4_addSources_69 (gCX4 _ _ _ _ _) 8 (by decide) wF_X4_39 rfl rfl rfl ?_
    refine sv_iload (pc := 72) dX4_addSources_72 rfl ?_
    refine sw_baload (pc := 74) (k := 0) (v := .int 3) dX4_addSources_74 rfl rfl rfl (by decide) (by decide) rfl rfl ?_
    refine sv_iconst (pc := 75) (v := 1) dX4_addSources_75 (by decide) ?_
    refine sv_icmp_ne (pc := 76) (tgt := 102) dX4_addSources_76 (by decide) (fun _ => ?_) (fun h => absurd h (by decide))
    refine sw_iinc (pc := 102) (v := 1) dX4_addSources_102 rfl (by decide) (by decide) ?_
    refine sv_goto (pc := 105) (tgt := 34) dX4_addSources_105 (by decide) ?_
    refine sv_iload (pc := 34) dX4_addSources_34 rfl ?_
    refine sv_aload_n (pc := 36) dX4_addSources_36 rfl rfl ?_
    refine sw_getfield (pc := 37) dX4_addSources_37 (gCX4 _ _ _ _ _) 12 (by decide) wF_X4_11 rfl rfl rfl ?_
    refine sv_iload (pc := 40) dX4_addSources_40 rfl ?_
    refine sw_iaload (pc := 42) (k := 1) (v := .int 0) dX4_addSources_42 rfl rfl rfl (by decide) (by decide) rfl rfl ?_
    refine sv_icmp_gt (pc := 43) (tgt := 108) dX4_addSources_43 (by decide) (fun _ => ?_) (fun h => absurd (by decide) h)
    refine sw_iinc (pc := 108) (v := 2) dX4_addSources_108 rfl (by decide) (by decide) ?_
    refine sv_goto (pc := 111) (tgt := 5) dX4_addSources_111 (by decide) ?_
    refine sv_iload (pc := 5) dX4_addSources_5 rfl ?_
    refine sv_bipush (pc := 7) (v := 7) dX4_addSources_7 (by decide) ?_
    refine sv_icmp_ge (pc := 9) (tgt := 114) dX4_addSources_9 (by decide) (fun h => absurd h (by decide)) (fun _ => ?_)
    refine sv_aload_n (pc := 12) dX4_addSources_12 rfl rfl ?_
    refine sv_iload (pc := 13) dX4_addSources_13 rfl ?_
    refine sv_callV (pc := 15) (M' := mX4_actOf) (d' := 16) (C' := 0) (S' := 0) (av := [.int 2]) ?_ (gOk _ _ _ _ _) dX4_addSources_15 (tX4_actOf _ _ _ _ _) ⟨wV_X4_actOf, wL_X4_actOf⟩ wM_X4_71 (gCX4 _ _ _ _ _) rfl (lt_t rfl) rfl ⟨le_t rfl, le_t rfl⟩ ⟨le_t rfl, le_t rfl⟩ rfl (le_t rfl) (fun _ _ h => h)
    refine sC.of rfl (by decide) (le_t rfl) ?_
    refine sv_iconst (pc := 0) (v := 0) dX4_actOf_0 (by decide) ?_
    refine sv_istore_n (pc := 1) dX4_actOf_1 rfl (by decide) ?_
    refine sv_iload_n (pc := 2) dX4_actOf_2 rfl rfl ?_
    refine sv_aload_n (pc := 3) dX4_actOf_3 rfl rfl ?_
    refine sw_getfield (pc := 4) dX4_actOf_4 (gCX4 _ _ _ _ _) 12 (by decide) wF_X4_11 rfl rfl rfl ?_
    refine sv_iload_n (pc := 7) dX4_actOf_7 rfl rfl ?_
    refine sw_iaload (pc := 8) (k := 2) (v := .int 0) dX4_actOf_8 rfl rfl rfl (by decide) (by decide) rfl rfl ?_
    refine sv_icmp_ge (pc := 9) (tgt := 55) dX4_actOf_9 (by decide) (fun _ => ?_) (fun h => absurd (by decide) h)
    refine sv_aload_n (pc := 55) dX4_actOf_55 rfl rfl ?_
    refine sw_getfield (pc := 56) dX4_actOf_56 (gCX4 _ _ _ _ _) 12 (by decide) wF_X4_11 rfl rfl rfl ?_
    refine sv_iload_n (pc := 59) dX4_actOf_59 rfl rfl ?_
    refine sw_iaload (pc := 60) (k := 2) (v := .int 0) dX4_actOf_60 rfl rfl rfl (by decide) (by decide) rfl rfl ?_
    refine sv_iret (pc := 61) dX4_actOf_61 rfl (le_t rfl) (le_t rfl) ?_
    refine sv_aload_n (pc := 18) dX4_addSources_18 rfl rfl ?_
    refine sw_getfield (pc := 19) dX4_addSources_19 (gCX4 _ _ _ _ _) 5 (by decide) wF_X4_30 rfl rfl rfl ?_
    refine sv_iload (pc := 22) dX4_addSources_22 rfl ?_
    refine sw_iaload (pc := 24) (k := 2) (v := .int 0) dX4_addSources_24 rfl rfl rfl (by decide) (by decide) rfl rfl ?_
    refine sv_icmp_eq (pc := 25) (tgt := 31) dX4_addSources_25 (by decide) (fun _ => ?_) (fun h => absurd (by decide) h)
    refine sv_iconst (pc := 31) (v := 0) dX4_addSources_31 (by decide) ?_
    refine sv_istore (pc := 32) dX4_addSources_32 (by decide) ?_
    refine sv_iload (pc := 34) dX4_addSources_34 rfl ?_
    refine sv_aload_n (pc := 36) dX4_addSources_36 rfl rfl ?_
    refine sw_getfield (pc := 37) dX4_addSources_37 (gCX4 _ _ _ _ _) 12 (by decide) wF_X4_11 rfl rfl rfl ?_
    refine sv_iload (pc := 40) dX4_addSources_40 rfl ?_
    refine sw_iaload (pc := 42) (k := 2) (v := .int 0) dX4_addSources_42 rfl rfl rfl (by decide) (by decide) rfl rfl ?_
    refine sv_icmp_gt (pc := 43) (tgt := 108) dX4_addSources_43 (by decide) (fun h => absurd h (by decide)) (fun _ => ?_)
    refine sv_iload_n (pc := 46) dX4_addSources_46 rfl rfl ?_
    refine sv_iload (pc := 47) dX4_addSources_47 rfl ?_
    refine sv_aload_n (pc := 49) dX4_addSources_49 rfl rfl ?_
    refine sw_getfield (pc := 50) dX4_addSources_50 (gCX4 _ _ _ _ _) 5 (by decide) wF_X4_30 rfl rfl rfl ?_
    refine sv_iload (pc := 53) dX4_addSources_53 rfl ?_
    refine sw_iaload (pc := 55) (k := 2) (v := .int 0) dX4_addSources_55 rfl rfl rfl (by decide) (by decide) rfl rfl ?_
    refine sw_isub (pc := 56) (v := 0) dX4_addSources_56 (by decide) ?_
    refine sv_aload_n (pc := 57) dX4_addSources_57 rfl rfl ?_
    refine sw_getfield (pc := 58) dX4_addSources_58 (gCX4 _ _ _ _ _) 4 (by decide) wF_X4_27 rfl rfl rfl ?_
    refine sv_iload (pc := 61) dX4_addSources_61 rfl ?_
    refine sw_iaload (pc := 63) (k := 2) (v := .int 1) dX4_addSources_63 rfl rfl rfl (by decide) (by decide) rfl rfl ?_
    refine sw_imul (pc := 64) (v := 0) dX4_addSources_64 (by decide) ?_
    refine sw_iadd (pc := 65) (v := 0) dX4_addSources_65 (by decide) ?_
    refine sv_istore (pc := 66) dX4_addSources_66 (by decide) ?_
    refine sv_lvG (pc := 68) (lv' := [(0, .ref 94), (1, .int 0), (2, .int 1), (3, .int 1), (4, .int 2), (5, .int 0), (6, .int 0)]) (List.forall_mem_cons.mpr ⟨rfl, List.forall_mem_cons.mpr ⟨rfl, List.forall_mem_cons.mpr ⟨rfl, List.forall_mem_cons.mpr ⟨rfl, List.forall_mem_cons.mpr ⟨rfl, List.forall_mem_cons.mpr ⟨rfl, List.forall_mem_cons.mpr ⟨rfl, fun _ h => absurd h List.not_mem_nil⟩⟩⟩⟩⟩⟩⟩) ?_
    refine sv_aload_n (pc := 68) dX4_addSources_68 rfl rfl ?_
    refine sw_getfield (pc := 69) dX4_addSources_69 (gCX4 _ _ _ _ _) 8 (by decide) wF_X4_39 rfl rfl rfl ?_
    refine sv_iload (pc := 72) dX4_addSources_72 rfl ?_
    refine sw_baload (pc := 74) (k := 0) (v := .int 3) dX4_addSources_74 rfl rfl rfl (by decide) (by decide) rfl rfl ?_
    refine sv_iconst (pc := 75) (v := 1) dX4_addSources_75 (by decide) ?_
    refine sv_icmp_ne (pc := 76) (tgt := 102) dX4_addSources_76 (by decide) (fun _ => ?_) (fun h => absurd h (by decide))
    refine sw_iinc (pc := 102) (v := 1) dX4_addSources_102 rfl (by decide) (by decide) ?_
    refine sv_goto (pc := 105) (tgt := 34) dX4_addSources_105 (by decide) ?_
    refine sv_iload (pc := 34) dX4_addSources_34 rfl ?_
    refine sv_aload_n (pc := 36) dX4_addSources_36 rfl rfl ?_
    refine sw_getfield (pc := 37) dX4_addSources_37 (gCX4 _ _ _ _ _) 12 (by decide) wF_X4_11 rfl rfl rfl ?_
    refine sv_iload (pc := 40) dX4_addSources_40 rfl ?_
    refine sw_iaload (pc := 42) (k := 2) (v := .int 0) dX4_addSources_42 rfl rfl rfl (by decide) (by decide) rfl rfl ?_
    refine sv_icmp_gt (pc := 43) (tgt := 108) dX4_addSources_43 (by decide) (fun _ => ?_) (fun h => absurd (by decide) h)
    refine sw_iinc (pc := 108) (v := 3) dX4_addSources_108 rfl (by decide) (by decide) ?_
    refine sv_goto (pc := 111) (tgt := 5) dX4_addSources_111 (by decide) ?_
    refine sv_iload (pc := 5) dX4_addSources_5 rfl ?_
    refine sv_bipush (pc := 7) (v := 7) dX4_addSources_7 (by decide) ?_
    refine sv_icmp_ge (pc := 9) (tgt := 114) dX4_addSources_9 (by decide) (fun h => absurd h (by decide)) (fun _ => ?_)
    refine sv_aload_n (pc := 12) dX4_addSources_12 rfl rfl ?_
    refine sv_iload (pc := 13) dX4_addSources_13 rfl ?_
    refine sv_callV (pc := 15) (M' := mX4_actOf) (d' := 16) (C' := 0) (S' := 0) (av := [.int 3]) ?_ (gOk _ _ _ _ _) dX4_addSources_15 (tX4_actOf _ _ _ _ _) ⟨wV_X4_actOf, wL_X4_actOf⟩ wM_X4_71 (gCX4 _ _ _ _ _) rfl (lt_t rfl) rfl ⟨le_t rfl, le_t rfl⟩ ⟨le_t rfl, le_t rfl⟩ rfl (le_t rfl) (fun _ _ h => h)
    refine sC.of rfl (by decide) (le_t rfl) ?_
    refine sv_iconst (pc := 0) (v := 0) dX4_actOf_0 (by decide) ?_
    refine sv_istore_n (pc := 1) dX4_actOf_1 rfl (by decide) ?_
    refine sv_iload_n (pc := 2) dX4_actOf_2 rfl rfl ?_
    refine sv_aload_n (pc := 3) dX4_actOf_3 rfl rfl ?_
    refine sw_getfield (pc := 4) dX4_actOf_4 (gCX4 _ _ _ _ _) 12 (by decide) wF_X4_11 rfl rfl rfl ?_
    refine sv_iload_n (pc := 7) dX4_actOf_7 rfl rfl ?_
    refine sw_iaload (pc := 8) (k := 3) (v := .int 0) dX4_actOf_8 rfl rfl rfl (by decide) (by decide) rfl rfl ?_
    refine sv_icmp_ge (pc := 9) (tgt := 55) dX4_actOf_9 (by decide) (fun _ => ?_) (fun h => absurd (by decide) h)
    refine sv_aload_n (pc := 55) dX4_actOf_55 rfl rfl ?_
    refine sw_getfield (pc := 56) dX4_actOf_56 (gCX4 _ _ _ _ _) 12 (by decide) wF_X4_11 rfl rfl rfl ?_
    refine sv_iload_n (pc := 59) dX4_actOf_59 rfl rfl ?_
    refine sw_iaload (pc := 60) (k := 3) (v := .int 0) dX4_actOf_60 rfl rfl rfl (by decide) (by decide) rfl rfl ?_
    refine sv_iret (pc := 61) dX4_actOf_61 rfl (le_t rfl) (le_t rfl) ?_
    refine sv_aload_n (pc := 18) dX4_addSources_18 rfl rfl ?_
    refine sw_getfield (pc := 19) dX4_addSources_19 (gCX4 _ _ _ _ _) 5 (by decide) wF_X4_30 rfl rfl rfl ?_
    refine sv_iload (pc := 22) dX4_addSources_22 rfl ?_
    refine sw_iaload (pc := 24) (k := 3) (v := .int 0) dX4_addSources_24 rfl rfl rfl (by decide) (by decide) rfl rfl ?_
    refine sv_icmp_eq (pc := 25) (tgt := 31) dX4_addSources_25 (by decide) (fun _ => ?_) (fun h => absurd (by decide) h)
    refine sv_iconst (pc := 31) (v := 0) dX4_addSources_31 (by decide) ?_
    refine sv_istore (pc := 32) dX4_addSources_32 (by decide) ?_
    refine sv_iload (pc := 34) dX4_addSources_34 rfl ?_
    refine sv_aload_n (pc := 36) dX4_addSources_36 rfl rfl ?_
    refine sw_getfield (pc := 37) dX4_addSources_37 (gCX4 _ _ _ _ _) 12 (by decide) wF_X4_11 rfl rfl rfl ?_
    refine sv_iload (pc := 40) dX4_addSources_40 rfl ?_
    refine sw_iaload (pc := 42) (k := 3) (v := .int 0) dX4_addSources_42 rfl rfl rfl (by decide) (by decide) rfl rfl ?_
    refine sv_icmp_gt (pc := 43) (tgt := 108) dX4_addSources_43 (by decide) (fun h => absurd h (by decide)) (fun _ => ?_)
    refine sv_iload_n (pc := 46) dX4_addSources_46 rfl rfl ?_
    refine sv_iload (pc := 47) dX4_addSources_47 rfl ?_
    refine sv_aload_n (pc := 49) dX4_addSources_49 rfl rfl ?_
    refine sw_getfield (pc := 50) dX4_addSources_50 (gCX4 _ _ _ _ _) 5 (by decide) wF_X4_30 rfl rfl rfl ?_
    refine sv_iload (pc := 53) dX4_addSources_53 rfl ?_
    refine sw_iaload (pc := 55) (k := 3) (v := .int 0) dX4_addSources_55 rfl rfl rfl (by decide) (by decide) rfl rfl ?_
    refine sw_isub (pc := 56) (v := 0) dX4_addSources_56 (by decide) ?_
    refine sv_aload_n (pc := 57) dX4_addSources_57 rfl rfl ?_
    refine sw_getfield (pc := 58) dX4_addSources_58 (gCX4 _ _ _ _ _) 4 (by decide) wF_X4_27 rfl rfl rfl ?_
    refine sv_iload (pc := 61) dX4_addSources_61 rfl ?_
    refine sw_iaload (pc := 63) (k := 3) (v := .int 1) dX4_addSources_63 rfl rfl rfl (by decide) (by decide) rfl rfl ?_
    refine sw_imul (pc := 64) (v := 0) dX4_addSources_64 (by decide) ?_
    refine sw_iadd (pc := 65) (v := 0) dX4_addSources_65 (by decide) ?_
    refine sv_istore (pc := 66) dX4_addSources_66 (by decide) ?_
    refine sv_aload_n (pc := 68) dX4_addSources_68 rfl rfl ?_
    refine sw_getfield (pc := 69) dX4_addSources_69 (gCX4 _ _ _ _ _) 8 (by decide) wF_X4_39 rfl rfl rfl ?_
    refine sv_iload (pc := 72) dX4_addSources_72 rfl ?_
    refine sw_baload (pc := 74) (k := 0) (v := .int 3) dX4_addSources_74 rfl rfl rfl (by decide) (by decide) rfl rfl ?_
    refine sv_iconst (pc := 75) (v := 1) dX4_addSources_75 (by decide) ?_
    refine sv_icmp_ne (pc := 76) (tgt := 102) dX4_addSources_76 (by decide) (fun _ => ?_) (fun h => absurd h (by decide))
    refine sw_iinc (pc := 102) (v := 1) dX4_addSources_102 rfl (by decide) (by decide) ?_
    refine sv_goto (pc := 105) (tgt := 34) dX4_addSources_105 (by decide) ?_
    refine sv_iload (pc := 34) dX4_addSources_34 rfl ?_
    refine sv_aload_n (pc := 36) dX4_addSources_36 rfl rfl ?_
    refine sw_getfield (pc := 37) dX4_addSources_37 (gCX4 _ _ _ _ _) 12 (by decide) wF_X4_11 rfl rfl rfl ?_
    refine sv_iload (pc := 40) dX4_addSources_40 rfl ?_
    refine sw_iaload (pc := 42) (k := 3) (v := .int 0) dX4_addSources_42 rfl rfl rfl (by decide) (by decide) rfl rfl ?_
    refine sv_icmp_gt (pc := 43) (tgt := 108) dX4_addSources_43 (by decide) (fun _ => ?_) (fun h => absurd (by decide) h)
    refine sw_iinc (pc := 108) (v := 4) dX4_addSources_108 rfl (by decide) (by decide) ?_
    refine sv_goto (pc := 111) (tgt := 5) dX4_addSources_111 (by decide) ?_
    refine sv_iload (pc := 5) dX4_addSources_5 rfl ?_
    refine sv_bipush (pc := 7) (v := 7) dX4_addSources_7 (by decide) ?_
    refine sv_icmp_ge (pc := 9) (tgt := 114) dX4_addSources_9 (by decide) (fun h => absurd h (by decide)) (fun _ => ?_)
    refine sv_aload_n (pc := 12) dX4_addSources_12 rfl rfl ?_
    refine sv_iload (pc := 13) dX4_addSources_13 rfl ?_
    refine sv_callV (pc := 15) (M' := mX4_actOf) (d' := 16) (C' := 0) (S' := 0) (av := [.int 4]) ?_ (gOk _ _ _ _ _) dX4_addSources_15 (tX4_actOf _ _ _ _ _) ⟨wV_X4_actOf, wL_X4_actOf⟩ wM_X4_71 (gCX4 _ _ _ _ _) rfl (lt_t rfl) rfl ⟨le_t rfl, le_t rfl⟩ ⟨le_t rfl, le_t rfl⟩ rfl (le_t rfl) (fun _ _ h => h)
    refine sC.of rfl (by decide) (le_t rfl) ?_
    refine sv_iconst (pc := 0) (v := 0) dX4_actOf_0 (by decide) ?_
    refine sv_istore_n (pc := 1) dX4_actOf_1 rfl (by decide) ?_
    refine sv_iload_n (pc := 2) dX4_actOf_2 rfl rfl ?_
    refine sv_aload_n (pc := 3) dX4_actOf_3 rfl rfl ?_
    refine sw_getfield (pc := 4) dX4_actOf_4 (gCX4 _ _ _ _ _) 12 (by decide) wF_X4_11 rfl rfl rfl ?_
    refine sv_iload_n (pc := 7) dX4_actOf_7 rfl rfl ?_
    refine sw_iaload (pc := 8) (k := 4) (v := .int 0) dX4_actOf_8 rfl rfl rfl (by decide) (by decide) rfl rfl ?_
    refine sv_icmp_ge (pc := 9) (tgt := 55) dX4_actOf_9 (by decide) (fun _ => ?_) (fun h => absurd (by decide) h)
    refine sv_aload_n (pc := 55) dX4_actOf_55 rfl rfl ?_
    refine sw_getfield (pc := 56) dX4_actOf_56 (gCX4 _ _ _ _ _) 12 (by decide) wF_X4_11 rfl rfl rfl ?_
    refine sv_iload_n (pc := 59) dX4_actOf_59 rfl rfl ?_
    refine sw_iaload (pc := 60) (k := 4) (v := .int 0) dX4_actOf_60 rfl rfl rfl (by decide) (by decide) rfl rfl ?_
    refine sv_iret (pc := 61) dX4_actOf_61 rfl (le_t rfl) (le_t rfl) ?_
    refine sv_aload_n (pc := 18) dX4_addSources_18 rfl rfl ?_
    refine sw_getfield (pc := 19) dX4_addSources_19 (gCX4 _ _ _ _ _) 5 (by decide) wF_X4_30 rfl rfl rfl ?_
    refine sv_iload (pc := 22) dX4_addSources_22 rfl ?_
    refine sw_iaload (pc := 24) (k := 4) (v := .int 0) dX4_addSources_24 rfl rfl rfl (by decide) (by decide) rfl rfl ?_
    refine sv_icmp_eq (pc := 25) (tgt := 31) dX4_addSources_25 (by decide) (fun _ => ?_) (fun h => absurd (by decide) h)
    refine sv_iconst (pc := 31) (v := 0) dX4_addSources_31 (by decide) ?_
    refine sv_istore (pc := 32) dX4_addSources_32 (by decide) ?_
    refine sv_iload (pc := 34) dX4_addSources_34 rfl ?_
    refine sv_aload_n (pc := 36) dX4_addSources_36 rfl rfl ?_
    refine sw_getfield (pc := 37) dX4_addSources_37 (gCX4 _ _ _ _ _) 12 (by decide) wF_X4_11 rfl rfl rfl ?_
    refine sv_iload (pc := 40) dX4_addSources_40 rfl ?_
    refine sw_iaload (pc := 42) (k := 4) (v := .int 0) dX4_addSources_42 rfl rfl rfl (by decide) (by decide) rfl rfl ?_
    refine sv_icmp_gt (pc := 43) (tgt := 108) dX4_addSources_43 (by decide) (fun h => absurd h (by decide)) (fun _ => ?_)
    refine sv_iload_n (pc := 46) dX4_addSources_46 rfl rfl ?_
    refine sv_iload (pc := 47) dX4_addSources_47 rfl ?_
    refine sv_aload_n (pc := 49) dX4_addSources_49 rfl rfl ?_
    refine sw_getfield (pc := 50) dX4_addSources_50 (gCX4 _ _ _ _ _) 5 (by decide) wF_X4_30 rfl rfl rfl ?_
    refine sv_iload (pc := 53) dX4_addSources_53 rfl ?_
    refine sw_iaload (pc := 55) (k := 4) (v := .int 0) dX4_addSources_55 rfl rfl rfl (by decide) (by decide) rfl rfl ?_
    refine sw_isub (pc := 56) (v := 0) dX4_addSources_56 (by decide) ?_
    refine sv_aload_n (pc := 57) dX4_addSources_57 rfl rfl ?_
    refine sw_getfield (pc := 58) dX4_addSources_58 (gCX4 _ _ _ _ _) 4 (by decide) wF_X4_27 rfl rfl rfl ?_
    refine sv_iload (pc := 61) dX4_addSources_61 rfl ?_
    refine sw_iaload (pc := 63) (k := 4) (v := .int 1) dX4_addSources_63 rfl rfl rfl (by decide) (by decide) rfl rfl ?_
    refine sw_imul (pc := 64) (v := 0) dX4_addSources_64 (by decide) ?_
    refine sw_iadd (pc := 65) (v := 0) dX4_addSources_65 (by decide) ?_
    refine sv_istore (pc := 66) dX4_addSources_66 (by decide) ?_
    refine sv_lvG (pc := 68) (lv' := [(0, .ref 94), (1, .int 0), (2, .int 1), (3, .int 1), (4, .int 4), (5, .int 0), (6, .int 0)]) (List.forall_mem_cons.mpr ⟨rfl, List.forall_mem_cons.mpr ⟨rfl, List.forall_mem_cons.mpr ⟨rfl, List.forall_mem_cons.mpr ⟨rfl, List.forall_mem_cons.mpr ⟨rfl, List.forall_mem_cons.mpr ⟨rfl, List.forall_mem_cons.mpr ⟨rfl, fun _ h => absurd h List.not_mem_nil⟩⟩⟩⟩⟩⟩⟩) ?_
    refine sv_aload_n (pc := 68) dX4_addSources_68 rfl rfl ?_
    refine sw_getfield (pc := 69) dX4_addSources_69 (gCX4 _ _ _ _ _) 8 (by decide) wF_X4_39 rfl rfl rfl ?_
    refine sv_iload (pc := 72) dX4_addSources_72 rfl ?_
    refine sw_baload (pc := 74) (k := 0) (v := .int 3) dX4_addSources_74 rfl rfl rfl (by decide) (by decide) rfl rfl ?_
    refine sv_iconst (pc := 75) (v := 1) dX4_addSources_75 (by decide) ?_
    refine sv_icmp_ne (pc := 76) (tgt := 102) dX4_addSources_76 (by decide) (fun _ => ?_) (fun h => absurd h (by decide))
    refine sw_iinc (pc := 102) (v := 1) dX4_addSources_102 rfl (by decide) (by decide) ?_
    refine sv_goto (pc := 105) (tgt := 34) dX4_addSources_105 (by decide) ?_
    refine sv_iload (pc := 34) dX4_addSources_34 rfl ?_
    refine sv_aload_n (pc := 36) dX4_addSources_36 rfl rfl ?_
    refine sw_getfield (pc := 37) dX4_addSources_37 (gCX4 _ _ _ _ _) 12 (by decide) wF_X4_11 rfl rfl rfl ?_
    refine sv_iload (pc := 40) dX4_addSources_40 rfl ?_
    refine sw_iaload (pc := 42) (k := 4) (v := .int 0) dX4_addSources_42 rfl rfl rfl (by decide) (by decide) rfl rfl ?_
    refine sv_icmp_gt (pc := 43) (tgt := 108) dX4_addSources_43 (by decide) (fun _ => ?_) (fun h => absurd (by decide) h)
    refine sw_iinc (pc := 108) (v := 5) dX4_addSources_108 rfl (by decide) (by decide) ?_
    refine sv_goto (pc := 111) (tgt := 5) dX4_addSources_111 (by decide) ?_
    refine sv_iload (pc := 5) dX4_addSources_5 rfl ?_
    refine sv_bipush (pc := 7) (v := 7) dX4_addSources_7 (by decide) ?_
    refine sv_icmp_ge (pc := 9) (tgt := 114) dX4_addSources_9 (by decide) (fun h => absurd h (by decide)) (fun _ => ?_)
    refine sv_aload_n (pc := 12) dX4_addSources_12 rfl rfl ?_
    refine sv_iload (pc := 13) dX4_addSources_13 rfl ?_
    refine sv_callV (pc := 15) (M' := mX4_actOf) (d' := 16) (C' := 0) (S' := 0) (av := [.int 5]) ?_ (gOk _ _ _ _ _) dX4_addSources_15 (tX4_actOf _ _ _ _ _) ⟨wV_X4_actOf, wL_X4_actOf⟩ wM_X4_71 (gCX4 _ _ _ _ _) rfl (lt_t rfl) rfl ⟨le_t rfl, le_t rfl⟩ ⟨le_t rfl, le_t rfl⟩ rfl (le_t rfl) (fun _ _ h => h)
    refine sC.of rfl (by decide) (le_t rfl) ?_
    refine sv_iconst (pc := 0) (v := 0) dX4_actOf_0 (by decide) ?_
    refine sv_istore_n (pc := 1) dX4_actOf_1 rfl (by decide) ?_
    refine sv_iload_n (pc := 2) dX4_actOf_2 rfl rfl ?_
    refine sv_aload_n (pc := 3) dX4_actOf_3 rfl rfl ?_
    refine sw_getfield (pc := 4) dX4_actOf_4 (gCX4 _ _ _ _ _) 12 (by decide) wF_X4_11 rfl rfl rfl ?_
    refine sv_iload_n (pc := 7) dX4_actOf_7 rfl rfl ?_
    refine sw_iaload (pc := 8) (k := 5) (v := .int 0) dX4_actOf_8 rfl rfl rfl (by decide) (by decide) rfl rfl ?_
    refine sv_icmp_ge (pc := 9) (tgt := 55) dX4_actOf_9 (by decide) (fun _ => ?_) (fun h => absurd (by decide) h)
    refine sv_aload_n (pc := 55) dX4_actOf_55 rfl rfl ?_
    refine sw_getfield (pc := 56) dX4_actOf_56 (gCX4 _ _ _ _ _) 12 (by decide) wF_X4_11 rfl rfl rfl ?_
    refine sv_iload_n (pc := 59) dX4_actOf_59 rfl rfl ?_
    refine sw_iaload (pc := 60) (k := 5) (v := .int 0) dX4_actOf_60 rfl rfl rfl (by decide) (by decide) rfl rfl ?_
    refine sv_iret (pc := 61) dX4_actOf_61 rfl (le_t rfl) (le_t rfl) ?_
    refine sv_aload_n (pc := 18) dX4_addSources_18 rfl rfl ?_
    refine sw_getfield (pc := 19) dX4_addSources_19 (gCX4 _ _ _ _ _) 5 (by decide) wF_X4_30 rfl rfl rfl ?_
    refine sv_iload (pc := 22) dX4_addSources_22 rfl ?_
    refine sw_iaload (pc := 24) (k := 5) (v := .int 0) dX4_addSources_24 rfl rfl rfl (by decide) (by decide) rfl rfl ?_
    refine sv_icmp_eq (pc := 25) (tgt := 31) dX4_addSources_25 (by decide) (fun _ => ?_) (fun h => absurd (by decide) h)
    refine sv_iconst (pc := 31) (v := 0) dX4_addSources_31 (by decide) ?_
    refine sv_istore (pc := 32) dX4_addSources_32 (by decide) ?_
    refine sv_iload (pc := 34) dX4_addSources_34 rfl ?_
    refine sv_aload_n (pc := 36) dX4_addSources_36 rfl rfl ?_
    refine sw_getfield (pc := 37) dX4_addSources_37 (gCX4 _ _ _ _ _) 12 (by decide) wF_X4_11 rfl rfl rfl ?_
    refine sv_iload (pc := 40) dX4_addSources_40 rfl ?_
    refine sw_iaload (pc := 42) (k := 5) (v := .int 0) dX4_addSources_42 rfl rfl rfl (by decide) (by decide) rfl rfl ?_
    refine sv_icmp_gt (pc := 43) (tgt := 108) dX4_addSources_43 (by decide) (fun h => absurd h (by decide)) (fun _ => ?_)
    refine sv_iload_n (pc := 46) dX4_addSources_46 rfl rfl ?_
    refine sv_iload (pc := 47) dX4_addSources_47 rfl ?_
    refine sv_aload_n (pc := 49) dX4_addSources_49 rfl rfl ?_
    refine sw_getfield (pc := 50) dX4_addSources_50 (gCX4 _ _ _ _ _) 5 (by decide) wF_X4_30 rfl rfl rfl ?_
    refine sv_iload (pc := 53) dX4_addSources_53 rfl ?_
    refine sw_iaload (pc := 55) (k := 5) (v := .int 0) dX4_addSources_55 rfl rfl rfl (by decide) (by decide) rfl rfl ?_
    refine sw_isub (pc := 56) (v := 0) dX4_addSources_56 (by decide) ?_
    refine sv_aload_n (pc := 57) dX4_addSources_57 rfl rfl ?_
    refine sw_getfield (pc := 58) dX4_addSources_58 (gCX4 _ _ _ _ _) 4 (by decide) wF_X4_27 rfl rfl rfl ?_
    refine sv_iload (pc := 61) dX4_addSources_61 rfl ?_
    refine sw_iaload (pc := 63) (k := 5) (v := .int 1) dX4_addSources_63 rfl rfl rfl (by decide) (by decide) rfl rfl ?_
    refine sw_imul (pc := 64) (v := 0) dX4_addSources_64 (by decide) ?_
    refine sw_iadd (pc := 65) (v := 0) dX4_addSources_65 (by decide) ?_
    refine sv_istore (pc := 66) dX4_addSources_66 (by decide) ?_
    refine sv_aload_n (pc := 68) dX4_addSources_68 rfl rfl ?_
    refine sw_getfield (pc := 69) dX4_addSources_69 (gCX4 _ _ _ _ _) 8 (by decide) wF_X4_39 rfl rfl rfl ?_
    refine sv_iload (pc := 72) dX4_addSources_72 rfl ?_
    refine sw_baload (pc := 74) (k := 0) (v := .int 3) dX4_addSources_74 rfl rfl rfl (by decide) (by decide) rfl rfl ?_
    refine sv_iconst (pc := 75) (v := 1) dX4_addSources_75 (by decide) ?_
    refine sv_icmp_ne (pc := 76) (tgt := 102) dX4_addSources_76 (by decide) (fun _ => ?_) (fun h => absurd h (by decide))
    refine sw_iinc (pc := 102) (v := 1) dX4_addSources_102 rfl (by decide) (by decide) ?_
    refine sv_goto (pc := 105) (tgt := 34) dX4_addSources_105 (by decide) ?_
    refine sv_iload (pc := 34) dX4_addSources_34 rfl ?_
    refine sv_aload_n (pc := 36) dX4_addSources_36 rfl rfl ?_
    refine sw_getfield (pc := 37) dX4_addSources_37 (gCX4 _ _ _ _ _) 12 (by decide) wF_X4_11 rfl rfl rfl ?_
    refine sv_iload (pc := 40) dX4_addSources_40 rfl ?_
    refine sw_iaload (pc := 42) (k := 5) (v := .int 0) dX4_addSources_42 rfl rfl rfl (by decide) (by decide) rfl rfl ?_
    refine sv_icmp_gt (pc := 43) (tgt := 108) dX4_addSources_43 (by decide) (fun _ => ?_) (fun h => absurd (by decide) h)
    refine sw_iinc (pc := 108) (v := 6) dX4_addSources_108 rfl (by decide) (by decide) ?_
    refine sv_goto (pc := 111) (tgt := 5) dX4_addSources_111 (by decide) ?_
    refine sv_iload (pc := 5) dX4_addSources_5 rfl ?_
    refine sv_bipush (pc := 7) (v := 7) dX4_addSources_7 (by decide) ?_
    refine sv_icmp_ge (pc := 9) (tgt := 114) dX4_addSources_9 (by decide) (fun h => absurd h (by decide)) (fun _ => ?_)
    refine sv_aload_n (pc := 12) dX4_addSources_12 rfl rfl ?_
    refine sv_iload (pc := 13) dX4_addSources_13 rfl ?_
    refine sv_callV (pc := 15) (M' := mX4_actOf) (d' := 16) (C' := 0) (S' := 0) (av := [.int 6]) ?_ (gOk _ _ _ _ _) dX4_addSources_15 (tX4_actOf _ _ _ _ _) ⟨wV_X4_actOf, wL_X4_actOf⟩ wM_X4_71 (gCX4 _ _ _ _ _) rfl (lt_t rfl) rfl ⟨le_t rfl, le_t rfl⟩ ⟨le_t rfl, le_t rfl⟩ rfl (le_t rfl) (fun _ _ h => h)
    refine sC.of rfl (by decide) (le_t rfl) ?_
    refine sv_iconst (pc := 0) (v := 0) dX4_actOf_0 (by decide) ?_
    refine sv_istore_n (pc := 1) dX4_actOf_1 rfl (by decide) ?_
    refine sv_iload_n (pc := 2) dX4_actOf_2 rfl rfl ?_
    refine sv_aload_n (pc := 3) dX4_actOf_3 rfl rfl ?_
    refine sw_getfield (pc := 4) dX4_actOf_4 (gCX4 _ _ _ _ _) 12 (by decide) wF_X4_11 rfl rfl rfl ?_
    refine sv_iload_n (pc := 7) dX4_actOf_7 rfl rfl ?_
    refine sw_iaload (pc := 8) (k := 6) (v := .int 0) dX4_actOf_8 rfl rfl rfl (by decide) (by decide) rfl rfl ?_
    refine sv_icmp_ge (pc := 9) (tgt := 55) dX4_actOf_9 (by decide) (fun _ => ?_) (fun h => absurd (by decide) h)
    refine sv_aload_n (pc := 55) dX4_actOf_55 rfl rfl ?_
    refine sw_getfield (pc := 56) dX4_actOf_56 (gCX4 _ _ _ _ _) 12 (by decide) wF_X4_11 rfl rfl rfl ?_
    refine sv_iload_n (pc := 59) dX4_actOf_59 rfl rfl ?_
    refine sw_iaload (pc := 60) (k := 6) (v := .int 0) dX4_actOf_60 rfl rfl rfl (by decide) (by decide) rfl rfl ?_
    refine sv_iret (pc := 61) dX4_actOf_61 rfl (le_t rfl) (le_t rfl) ?_
    refine sv_aload_n (pc := 18) dX4_addSources_18 rfl rfl ?_
    refine sw_getfield (pc := 19) dX4_addSources_19 (gCX4 _ _ _ _ _) 5 (by decide) wF_X4_30 rfl rfl rfl ?_
    refine sv_iload (pc := 22) dX4_addSources_22 rfl ?_
    refine sw_iaload (pc := 24) (k := 6) (v := .int 0) dX4_addSources_24 rfl rfl rfl (by decide) (by decide) rfl rfl ?_
    refine sv_icmp_eq (pc := 25) (tgt := 31) dX4_addSources_25 (by decide) (fun _ => ?_) (fun h => absurd (by decide) h)
    refine sv_iconst (pc := 31) (v := 0) dX4_addSources_31 (by decide) ?_
    refine sv_istore (pc := 32) dX4_addSources_32 (by decide) ?_
    refine sv_iload (pc := 34) dX4_addSources_34 rfl ?_
    refine sv_aload_n (pc := 36) dX4_addSources_36 rfl rfl ?_
    refine sw_getfield (pc := 37) dX4_addSources_37 (gCX4 _ _ _ _ _) 12 (by decide) wF_X4_11 rfl rfl rfl ?_
    refine sv_iload (pc := 40) dX4_addSources_40 rfl ?_
    refine sw_iaload (pc := 42) (k := 6) (v := .int 0) dX4_addSources_42 rfl rfl rfl (by decide) (by decide) rfl rfl ?_
    refine sv_icmp_gt (pc := 43) (tgt := 108) dX4_addSources_43 (by decide) (fun h => absurd h (by decide)) (fun _ => ?_)
    refine sv_iload_n (pc := 46) dX4_addSources_46 rfl rfl ?_
    refine sv_iload (pc := 47) dX4_addSources_47 rfl ?_
    refine sv_aload_n (pc := 49) dX4_addSources_49 rfl rfl ?_
    refine sw_getfield (pc := 50) dX4_addSources_50 (gCX4 _ _ _ _ _) 5 (by decide) wF_X4_30 rfl rfl rfl ?_
    refine sv_iload (pc := 53) dX4_addSources_53 rfl ?_
    refine sw_iaload (pc := 55) (k := 6) (v := .int 0) dX4_addSources_55 rfl rfl rfl (by decide) (by decide) rfl rfl ?_
    refine sw_isub (pc := 56) (v := 0) dX4_addSources_56 (by decide) ?_
    refine sv_aload_n (pc := 57) dX4_addSources_57 rfl rfl ?_
    refine sw_getfield (pc := 58) dX4_addSources_58 (gCX4 _ _ _ _ _) 4 (by decide) wF_X4_27 rfl rfl rfl ?_
    refine sv_iload (pc := 61) dX4_addSources_61 rfl ?_
    refine sw_iaload (pc := 63) (k := 6) (v := .int 1) dX4_addSources_63 rfl rfl rfl (by decide) (by decide) rfl rfl ?_
    refine sw_imul (pc := 64) (v := 0) dX4_addSources_64 (by decide) ?_
    refine sw_iadd (pc := 65) (v := 0) dX4_addSources_65 (by decide) ?_
    refine sv_istore (pc := 66) dX4_addSources_66 (by decide) ?_
    refine sv_lvG (pc := 68) (lv' := [(0, .ref 94), (1, .int 0), (2, .int 1), (3, .int 1), (4, .int 6), (5, .int 0), (6, .int 0)]) (List.forall_mem_cons.mpr ⟨rfl, List.forall_mem_cons.mpr ⟨rfl, List.forall_mem_cons.mpr ⟨rfl, List.forall_mem_cons.mpr ⟨rfl, List.forall_mem_cons.mpr ⟨rfl, List.forall_mem_cons.mpr ⟨rfl, List.forall_mem_cons.mpr ⟨rfl, fun _ h => absurd h List.not_mem_nil⟩⟩⟩⟩⟩⟩⟩) ?_
    refine sv_aload_n (pc := 68) dX4_addSources_68 rfl rfl ?_
    refine sw_getfield (pc := 69) dX4_addSources_69 (gCX4 _ _ _ _ _) 8 (by decide) wF_X4_39 rfl rfl rfl ?_
    refine sv_iload (pc := 72) dX4_addSources_72 rfl ?_
    refine sw_baload (pc := 74) (k := 0) (v := .int 3) dX4_addSources_74 rfl rfl rfl (by decide) (by decide) rfl rfl ?_
    refine sv_iconst (pc := 75) (v := 1) dX4_addSources_75 (by decide) ?_
    refine sv_icmp_ne (pc := 76) (tgt := 102) dX4_addSources_76 (by decide) (fun _ => ?_) (fun h => absurd h (by decide))
    refine sw_iinc (pc := 102) (v := 1) dX4_addSources_102 rfl (by decide) (by decide) ?_
    refine sv_goto (pc := 105) (tgt := 34) dX4_addSources_105 (by decide) ?_
    refine sv_iload (pc := 34) dX4_addSources_34 rfl ?_
    refine sv_aload_n (pc := 36) dX4_addSources_36 rfl rfl ?_
    refine sw_getfield (pc := 37) dX4_addSources_37 (gCX4 _ _ _ _ _) 12 (by decide) wF_X4_11 rfl rfl rfl ?_
    refine sv_iload (pc := 40) dX4_addSources_40 rfl ?_
    refine sw_iaload (pc := 42) (k := 6) (v := .int 0) dX4_addSources_42 rfl rfl rfl (by decide) (by decide) rfl rfl ?_
    refine sv_icmp_gt (pc := 43) (tgt := 108) dX4_addSources_43 (by decide) (fun _ => ?_) (fun h => absurd (by decide) h)
    refine sw_iinc (pc := 108) (v := 7) dX4_addSources_108 rfl (by decide) (by decide) ?_
    refine sv_goto (pc := 111) (tgt := 5) dX4_addSources_111 (by decide) ?_
    refine sv_iload (pc := 5) dX4_addSources_5 rfl ?_
    refine sv_bipush (pc := 7) (v := 7) dX4_addSources_7 (by decide) ?_
    refine sv_icmp_ge (pc := 9) (tgt := 114) dX4_addSources_9 (by decide) (fun _ => ?_) (fun h => absurd (by decide) h)
    refine sv_iload_n (pc := 114) dX4_addSources_114 rfl rfl ?_
    refine sv_iret (pc := 115) dX4_addSources_115 rfl (le_t rfl) (le_t rfl) ?_
    refine sv_istore_n (pc := 67) dX4_leadBack_67 rfl (by decide) ?_
    refine sw_iinc (pc := 68) (v := 1) dX4_leadBack_68 rfl (by decide) (by decide) ?_
    refine sv_goto (pc := 71) (tgt := 41) dX4_leadBack_71 (by decide) ?_
    refine sv_iload_n (pc := 41) dX4_leadBack_41 rfl rfl ?_
    refine sv_iload_n (pc := 42) dX4_leadBack_42 rfl rfl ?_
    refine sv_icmp_ge (pc := 43) (tgt := 74) dX4_leadBack_43 (by decide) (fun _ => ?_) (fun h => absurd (by decide) h)
    refine sv_iload_n (pc := 74) dX4_leadBack_74 rfl rfl ?_
    refine sv_iret (pc := 75) dX4_leadBack_75 rfl (le_t rfl) (le_t rfl) ?_
    refine sv_istore_n (pc := 25) dX4_explore_25 rfl (by decide) ?_
    refine sv_aload_n (pc := 26) dX4_explore_26 rfl rfl ?_
    refine sw_getfield (pc := 27) dX4_explore_27 (gCX4 _ _ _ _ _) 13 (by decide) wF_X4_43 rfl rfl rfl ?_
    refine sv_iconst (pc := 30) (v := 0) dX4_explore_30 (by decide) ?_
    refine sv_iload_n (pc := 31) dX4_explore_31 rfl rfl ?_
    refine sw_iastore (pc := 32) (k := 0) (v := .int 1) dX4_explore_32 rfl rfl rfl (by decide) (by decide) rfl rfl ?_
    refine sv_aload_n (pc := 33) dX4_explore_33 rfl rfl ?_
    refine sw_getfield (pc := 34) dX4_explore_34 (gCX4 _ _ _ _ _) 13 (by decide) wF_X4_43 rfl rfl rfl ?_
    refine sv_iconst (pc := 37) (v := 2) dX4_explore_37 (by decide) ?_
    refine sv_iload_n (pc := 38) dX4_explore_38 rfl rfl ?_
    refine sv_iload_n (pc := 39) dX4_explore_39 rfl rfl ?_
    refine sw_isub (pc := 40) (v := 0) dX4_explore_40 (by decide) ?_
    refine sw_iastore (pc := 41) (k := 2) (v := .int 0) dX4_explore_41 rfl rfl rfl (by decide) (by decide) rfl rfl ?_
    refine sv_aload_n (pc := 42) dX4_explore_42 rfl rfl ?_
    refine sv_iconst (pc := 43) (v := 1) dX4_explore_43 (by decide) ?_
    refine sw_putfield (pc := 44) dX4_explore_44 (gCX4 _ _ _ _ _) 11 (by decide) wF_X4_56 rfl rfl rfl (fun _ => rfl) (fun _ => rfl) rfl ?_
    refine sv_vret (pc := 47) dX4_explore_47 rfl (le_t rfl) (le_t rfl) ?_
    refine sv_aload_n (pc := 18) dX11_tries_18 rfl rfl ?_
    refine sw_getfield (pc := 19) dX11_tries_19 (gCX11 _ _ _ _ _) 9 (by decide) wF_X11_72 rfl rfl rfl ?_
    refine sw_getfield (pc := 22) dX11_tries_22 (gCX4 _ _ _ _ _) 13 (by decide) wF_X11_423 rfl rfl rfl ?_
    refine sv_iload_n (pc := 25) dX11_tries_25 rfl rfl ?_
    by_cases q_3 : x1 = 0
    · subst q_3
      refine sw_iaload (pc := 26) (k := 0) (v := .int 1) dX11_tries_26 rfl rfl rfl (by decide) (by decide) rfl rfl ?_
      refine sv_iret (pc := 27) dX11_tries_27 rfl (le_t rfl) (le_t rfl) ?_
      refine sv_aload_n (pc := 1762) dL_law_1762 rfl rfl ?_
      refine sv_aload_nS (pc := 1763) dL_law_1763 rfl rfl ?_
      refine sv_iload_n (pc := 1764) dL_law_1764 rfl rfl ?_
      refine sv_iconst (pc := 1765) (v := 1) dL_law_1765 (by decide) ?_
      refine sw_iadd (pc := 1766) (v := 1) dL_law_1766 (by decide) ?_
      refine sw_sld (pc := 1767) (v := 0) dL_law_1767 (k := 1) (by decide) (by decide) rfl hx1 ?_
      refine sv_callV (pc := 1768) (M' := mX12_tries) (d' := 20) (C' := 0) (S' := 0) (av := [.int 0]) ?_ (gOk _ _ _ _ _) dL_law_1768 (tX12_tries _ _ _ _ _) ⟨wV_X12_tries, wL_X12_tries⟩ wM_DomainHouseLaw_210 (gCX12 _ _ _ _ _) rfl (lt_t rfl) rfl ⟨le_t rfl, le_t rfl⟩ ⟨le_t rfl, le_t rfl⟩ rfl (le_t rfl) (fun _ _ h => h)
      refine sC.of rfl (by decide) (le_t rfl) ?_
      refine sv_iload_n (pc := 0) dX12_tries_0 rfl rfl ?_
      refine sv_iconst (pc := 1) (v := 0) dX12_tries_1 (by decide) ?_
      refine sv_iconst (pc := 2) (v := 3) dX12_tries_2 (by decide) ?_
      refine sv_callS (pc := 3) (M' := mX12_in) (d' := 19) (C' := 0) (S' := 0) (av := [.int 0, .int 0, .int 3]) ?_ (gOk _ _ _ _ _) dX12_tries_3 (tX12_in _ _ _ _ _) wS_X12_in wM_X12_18 ⟨le_t rfl, le_t rfl⟩ ⟨le_t rfl, le_t rfl⟩ rfl (le_t rfl) (fun _ _ h => h)
      refine sC.of rfl (by decide) (le_t rfl) ?_
      refine sv_iload_n (pc := 0) dX12_in_0 rfl rfl ?_
      refine sv_iload_n (pc := 1) dX12_in_1 rfl rfl ?_
      refine sv_icmp_lt (pc := 2) (tgt := 14) dX12_in_2 (by decide) (fun h => absurd h (by decide)) (fun _ => ?_)
      refine sv_iload_n (pc := 5) dX12_in_5 rfl rfl ?_
      refine sv_iload_n (pc := 6) dX12_in_6 rfl rfl ?_
      refine sv_icmp_gt (pc := 7) (tgt := 14) dX12_in_7 (by decide) (fun h => absurd h (by decide)) (fun _ => ?_)
      refine sv_iconst (pc := 10) (v := 1) dX12_in_10 (by decide) ?_
      refine sv_goto (pc := 11) (tgt := 15) dX12_in_11 (by decide) ?_
      refine sv_zret (pc := 15) dX12_in_15 rfl (by decide) (le_t rfl) (le_t rfl) ?_
      refine sv_if_ne (pc := 6) (tgt := 11) dX12_tries_6 (by decide) (fun _ => ?_) (fun h => absurd h (by decide))
      refine sv_aload_n (pc := 11) dX12_tries_11 rfl rfl ?_
      refine sv_callV (pc := 12) (M' := mX12_states) (d' := 19) (C' := 0) (S' := 0) (av := []) ?_ (gOk _ _ _ _ _) dX12_tries_12 (tX12_states _ _ _ _ _) ⟨wV_X12_states, wL_X12_states⟩ wM_X12_728 (gCX12 _ _ _ _ _) rfl (lt_t rfl) rfl ⟨le_t rfl, le_t rfl⟩ ⟨le_t rfl, le_t rfl⟩ rfl (le_t rfl) (fun _ _ h => h)
      refine sC.of rfl (by decide) (le_t rfl) ?_
      refine sv_iconst (pc := 0) (v := 1) dX12_states_0 (by decide) ?_
      refine sv_istore_n (pc := 1) dX12_states_1 rfl (by decide) ?_
      refine sv_bipush (pc := 2) (v := 6) dX12_states_2 (by decide) ?_
      refine sv_istore_n (pc := 4) dX12_states_4 rfl (by decide) ?_
      refine sv_iload_n (pc := 5) dX12_states_5 rfl rfl ?_
      refine sv_iconst (pc := 6) (v := 1) dX12_states_6 (by decide) ?_
      refine sv_icmp_lt (pc := 7) (tgt := 34) dX12_states_7 (by decide) (fun h => absurd h (by decide)) (fun _ => ?_)
      refine sv_aload_n (pc := 10) dX12_states_10 rfl rfl ?_
      refine sw_getfield (pc := 11) dX12_states_11 (gCX12 _ _ _ _ _) 121 (by decide) wF_X12_523 rfl rfl rfl ?_
      refine sv_iload_n (pc := 14) dX12_states_14 rfl rfl ?_
      refine sv_iload_n (pc := 15) dX12_states_15 rfl rfl ?_
      refine sw_iastore (pc := 16) (k := 6) (v := .int 1) dX12_states_16 rfl rfl rfl (by decide) (by decide) rfl rfl ?_
      refine sv_iload_n (pc := 17) dX12_states_17 rfl rfl ?_
      refine sv_aload_n (pc := 18) dX12_states_18 rfl rfl ?_
      refine sw_getfield (pc := 19) dX12_states_19 (gCX12 _ _ _ _ _) 118 (by decide) wF_X12_514 rfl rfl rfl ?_
      refine sv_iload_n (pc := 22) dX12_states_22 rfl rfl ?_
      refine sw_iaload (pc := 23) (k := 6) (v := .int 0) dX12_states_23 rfl rfl rfl (by decide) (by decide) rfl rfl ?_
      refine sv_iconst (pc := 24) (v := 1) dX12_states_24 (by decide) ?_
      refine sw_iadd (pc := 25) (v := 1) dX12_states_25 (by decide) ?_
      refine sw_imul (pc := 26) (v := 1) dX12_states_26 (by decide) ?_
      refine sv_istore_n (pc := 27) dX12_states_27 rfl (by decide) ?_
      refine sw_iinc (pc := 28) (v := 5) dX12_states_28 rfl (by decide) (by decide) ?_
      refine sv_goto (pc := 31) (tgt := 5) dX12_states_31 (by decide) ?_
      refine sv_iload_n (pc := 5) dX12_states_5 rfl rfl ?_
      refine sv_iconst (pc := 6) (v := 1) dX12_states_6 (by decide) ?_
      refine sv_icmp_lt (pc := 7) (tgt := 34) dX12_states_7 (by decide) (fun h => absurd h (by decide)) (fun _ => ?_)
      refine sv_aload_n (pc := 10) dX12_states_10 rfl rfl ?_
      refine sw_getfield (pc := 11) dX12_states_11 (gCX12 _ _ _ _ _) 121 (by decide) wF_X12_523 rfl rfl rfl ?_
      refine sv_iload_n (pc := 14) dX12_states_14 rfl rfl ?_
      refine sv_iload_n (pc := 15) dX12_states_15 rfl rfl ?_
      refine sw_iastore (pc := 16) (k := 5) (v := .int 1) dX12_states_16 rfl rfl rfl (by decide) (by decide) rfl rfl ?_
      refine sv_iload_n (pc := 17) dX12_states_17 rfl rfl ?_
      refine sv_aload_n (pc := 18) dX12_states_18 rfl rfl ?_
      refine sw_getfield (pc := 19) dX12_states_19 (gCX12 _ _ _ _ _) 118 (by decide) wF_X12_514 rfl rfl rfl ?_
      refine sv_iload_n (pc := 22) dX12_states_22 rfl rfl ?_
      refine sw_iaload (pc := 23) (k := 5) (v := .int 0) dX12_states_23 rfl rfl rfl (by decide) (by decide) rfl rfl ?_
      refine sv_iconst (pc := 24) (v := 1) dX12_states_24 (by decide) ?_
      refine sw_iadd (pc := 25) (v := 1) dX12_states_25 (by decide) ?_
      refine sw_imul (pc := 26) (v := 1) dX12_states_26 (by decide) ?_
      refine sv_istore_n (pc := 27) dX12_states_27 rfl (by decide) ?_
      refine sw_iinc (pc := 28) (v := 4) dX12_states_28 rfl (by decide) (by decide) ?_
      refine sv_goto (pc := 31) (tgt := 5) dX12_states_31 (by decide) ?_
      refine sv_iload_n (pc := 5) dX12_states_5 rfl rfl ?_
      refine sv_iconst (pc := 6) (v := 1) dX12_states_6 (by decide) ?_
      refine sv_icmp_lt (pc := 7) (tgt := 34) dX12_states_7 (by decide) (fun h => absurd h (by decide)) (fun _ => ?_)
      refine sv_aload_n (pc := 10) dX12_states_10 rfl rfl ?_
      refine sw_getfield (pc := 11) dX12_states_11 (gCX12 _ _ _ _ _) 121 (by decide) wF_X12_523 rfl rfl rfl ?_
      refine sv_iload_n (pc := 14) dX12_states_14 rfl rfl ?_
      refine sv_iload_n (pc := 15) dX12_states_15 rfl rfl ?_
      refine sw_iastore (pc := 16) (k := 4) (v := .int 1) dX12_states_16 rfl rfl rfl (by decide) (by decide) rfl rfl ?_
      refine sv_iload_n (pc := 17) dX12_states_17 rfl rfl ?_
      refine sv_aload_n (pc := 18) dX12_states_18 rfl rfl ?_
      refine sw_getfield (pc := 19) dX12_states_19 (gCX12 _ _ _ _ _) 118 (by decide) wF_X12_514 rfl rfl rfl ?_
      refine sv_iload_n (pc := 22) dX12_states_22 rfl rfl ?_
      refine sw_iaload (pc := 23) (k := 4) (v := .int 0) dX12_states_23 rfl rfl rfl (by decide) (by decide) rfl rfl ?_
      refine sv_iconst (pc := 24) (v := 1) dX12_states_24 (by decide) ?_
      refine sw_iadd (pc := 25) (v := 1) dX12_states_25 (by decide) ?_
      refine sw_imul (pc := 26) (v := 1) dX12_states_26 (by decide) ?_
      refine sv_istore_n (pc := 27) dX12_states_27 rfl (by decide) ?_
      refine sw_iinc (pc := 28) (v := 3) dX12_states_28 rfl (by decide) (by decide) ?_
      refine sv_lvG (pc := 31) (lv' := [(0, .ref 106), (1, .int 1), (2, .int 3)]) (List.forall_mem_cons.mpr ⟨rfl, List.forall_mem_cons.mpr ⟨rfl, List.forall_mem_cons.mpr ⟨rfl, fun _ h => absurd h List.not_mem_nil⟩⟩⟩) ?_
      refine sv_goto (pc := 31) (tgt := 5) dX12_states_31 (by decide) ?_
      refine sv_iload_n (pc := 5) dX12_states_5 rfl rfl ?_
      refine sv_iconst (pc := 6) (v := 1) dX12_states_6 (by decide) ?_
      refine sv_icmp_lt (pc := 7) (tgt := 34) dX12_states_7 (by decide) (fun h => absurd h (by decide)) (fun _ => ?_)
      refine sv_aload_n (pc := 10) dX12_states_10 rfl rfl ?_
      refine sw_getfield (pc := 11) dX12_states_11 (gCX12 _ _ _ _ _) 121 (by decide) wF_X12_523 rfl rfl rfl ?_
      refine sv_iload_n (pc := 14) dX12_states_14 rfl rfl ?_
      refine sv_iload_n (pc := 15) dX12_states_15 rfl rfl ?_
      refine sw_iastore (pc := 16) (k := 3) (v := .int 1) dX12_states_16 rfl rfl rfl (by decide) (by decide) rfl rfl ?_
      refine sv_iload_n (pc := 17) dX12_states_17 rfl rfl ?_
      refine sv_aload_n (pc := 18) dX12_states_18 rfl rfl ?_
      refine sw_getfield (pc := 19) dX12_states_19 (gCX12 _ _ _ _ _) 118 (by decide) wF_X12_514 rfl rfl rfl ?_
      refine sv_iload_n (pc := 22) dX12_states_22 rfl rfl ?_
      refine sw_iaload (pc := 23) (k := 3) (v := .int 0) dX12_states_23 rfl rfl rfl (by decide) (by decide) rfl rfl ?_
      refine sv_iconst (pc := 24) (v := 1) dX12_states_24 (by decide) ?_
      refine sw_iadd (pc := 25) (v := 1) dX12_states_25 (by decide) ?_
      refine sw_imul (pc := 26) (v := 1) dX12_states_26 (by decide) ?_
      refine sv_istore_n (pc := 27) dX12_states_27 rfl (by decide) ?_
      refine sw_iinc (pc := 28) (v := 2) dX12_states_28 rfl (by decide) (by decide) ?_
      refine sv_goto (pc := 31) (tgt := 5) dX12_states_31 (by decide) ?_
      refine sv_iload_n (pc := 5) dX12_states_5 rfl rfl ?_
      refine sv_iconst (pc := 6) (v := 1) dX12_states_6 (by decide) ?_
      refine sv_icmp_lt (pc := 7) (tgt := 34) dX12_states_7 (by decide) (fun h => absurd h (by decide)) (fun _ => ?_)
      refine sv_aload_n (pc := 10) dX12_states_10 rfl rfl ?_
      refine sw_getfield (pc := 11) dX12_states_11 (gCX12 _ _ _ _ _) 121 (by decide) wF_X12_523 rfl rfl rfl ?_
      refine sv_iload_n (pc := 14) dX12_states_14 rfl rfl ?_
      refine sv_iload_n (pc := 15) dX12_states_15 rfl rfl ?_
      refine sw_iastore (pc := 16) (k := 2) (v := .int 1) dX12_states_16 rfl rfl rfl (by decide) (by decide) rfl rfl ?_
      refine sv_iload_n (pc := 17) dX12_states_17 rfl rfl ?_
      refine sv_aload_n (pc := 18) dX12_states_18 rfl rfl ?_
      refine sw_getfield (pc := 19) dX12_states_19 (gCX12 _ _ _ _ _) 118 (by decide) wF_X12_514 rfl rfl rfl ?_
      refine sv_iload_n (pc := 22) dX12_states_22 rfl rfl ?_
      refine sw_iaload (pc := 23) (k := 2) (v := .int 0) dX12_states_23 rfl rfl rfl (by decide) (by decide) rfl rfl ?_
      refine sv_iconst (pc := 24) (v := 1) dX12_states_24 (by decide) ?_
      refine sw_iadd (pc := 25) (v := 1) dX12_states_25 (by decide) ?_
      refine sw_imul (pc := 26) (v := 1) dX12_states_26 (by decide) ?_
      refine sv_istore_n (pc := 27) dX12_states_27 rfl (by decide) ?_
      refine sw_iinc (pc := 28) (v := 1) dX12_states_28 rfl (by decide) (by decide) ?_
      refine sv_goto (pc := 31) (tgt := 5) dX12_states_31 (by decide) ?_
      refine sv_iload_n (pc := 5) dX12_states_5 rfl rfl ?_
      refine sv_iconst (pc := 6) (v := 1) dX12_states_6 (by decide) ?_
      refine sv_icmp_lt (pc := 7) (tgt := 34) dX12_states_7 (by decide) (fun h => absurd h (by decide)) (fun _ => ?_)
      refine sv_aload_n (pc := 10) dX12_states_10 rfl rfl ?_
      refine sw_getfield (pc := 11) dX12_states_11 (gCX12 _ _ _ _ _) 121 (by decide) wF_X12_523 rfl rfl rfl ?_
      refine sv_iload_n (pc := 14) dX12_states_14 rfl rfl ?_
      refine sv_iload_n (pc := 15) dX12_states_15 rfl rfl ?_
      refine sw_iastore (pc := 16) (k := 1) (v := .int 1) dX12_states_16 rfl rfl rfl (by decide) (by decide) rfl rfl ?_
      refine sv_iload_n (pc := 17) dX12_states_17 rfl rfl ?_
      refine sv_aload_n (pc := 18) dX12_states_18 rfl rfl ?_
      refine sw_getfield (pc := 19) dX12_states_19 (gCX12 _ _ _ _ _) 118 (by decide) wF_X12_514 rfl rfl rfl ?_
      refine sv_iload_n (pc := 22) dX12_states_22 rfl rfl ?_
      refine sw_iaload (pc := 23) (k := 1) (v := .int 0) dX12_states_23 rfl rfl rfl (by decide) (by decide) rfl rfl ?_
      refine sv_iconst (pc := 24) (v := 1) dX12_states_24 (by decide) ?_
      refine sw_iadd (pc := 25) (v := 1) dX12_states_25 (by decide) ?_
      refine sw_imul (pc := 26) (v := 1) dX12_states_26 (by decide) ?_
      refine sv_istore_n (pc := 27) dX12_states_27 rfl (by decide) ?_
      refine sw_iinc (pc := 28) (v := 0) dX12_states_28 rfl (by decide) (by decide) ?_
      refine sv_goto (pc := 31) (tgt := 5) dX12_states_31 (by decide) ?_
      refine sv_iload_n (pc := 5) dX12_states_5 rfl rfl ?_
      refine sv_iconst (pc := 6) (v := 1) dX12_states_6 (by decide) ?_
      refine sv_icmp_lt (pc := 7) (tgt := 34) dX12_states_7 (by decide) (fun _ => ?_) (fun h => absurd (by decide) h)
      refine sv_iload_n (pc := 34) dX12_states_34 rfl rfl ?_
      refine sv_iret (pc := 35) dX12_states_35 rfl (le_t rfl) (le_t rfl) ?_
      refine sv_istore_n (pc := 15) dX12_tries_15 rfl (by decide) ?_
      refine sv_iconst (pc := 16) (v := 0) dX12_tries_16 (by decide) ?_
      refine sv_istore_n (pc := 17) dX12_tries_17 rfl (by decide) ?_
      refine sv_iload_n (pc := 18) dX12_tries_18 rfl rfl ?_
      refine sv_iload_n (pc := 19) dX12_tries_19 rfl rfl ?_
      refine sv_icmp_ge (pc := 20) (tgt := 43) dX12_tries_20 (by decide) (fun h => absurd h (by decide)) (fun _ => ?_)
      refine sv_aload_n (pc := 23) dX12_tries_23 rfl rfl ?_
      refine sw_getfield (pc := 24) dX12_tries_24 (gCX12 _ _ _ _ _) 123 (by decide) wF_X12_530 rfl rfl rfl ?_
      refine sv_iload_n (pc := 27) dX12_tries_27 rfl rfl ?_
      refine sv_iconst (pc := 28) (v := (-1)) dX12_tries_28 (by decide) ?_
      refine sw_iastore (pc := 29) (k := 0) (v := .int (-1)) dX12_tries_29 rfl rfl rfl (by decide) (by decide) rfl rfl ?_
      refine sv_aload_n (pc := 30) dX12_tries_30 rfl rfl ?_
      refine sw_getfield (pc := 31) dX12_tries_31 (gCX12 _ _ _ _ _) 125 (by decide) wF_X12_536 rfl rfl rfl ?_
      refine sv_iload_n (pc := 34) dX12_tries_34 rfl rfl ?_
      refine sv_iconst (pc := 35) (v := 0) dX12_tries_35 (by decide) ?_
      refine sw_zastore (pc := 36) (k := 0) (v := .int 0) dX12_tries_36 rfl rfl rfl (by decide) (by decide) rfl (by decide) ?_
      refine sw_iinc (pc := 37) (v := 1) dX12_tries_37 rfl (by decide) (by decide) ?_
      refine sv_goto (pc := 40) (tgt := 18) dX12_tries_40 (by decide) ?_
      refine sv_iload_n (pc := 18) dX12_tries_18 rfl rfl ?_
      refine sv_iload_n (pc := 19) dX12_tries_19 rfl rfl ?_
      refine sv_icmp_ge (pc := 20) (tgt := 43) dX12_tries_20 (by decide) (fun _ => ?_) (fun h => absurd (by decide) h)
      refine sv_iconst (pc := 43) (v := 0) dX12_tries_43 (by decide) ?_
      refine sv_istore_n (pc := 44) dX12_tries_44 rfl (by decide) ?_
      refine sv_aload_n (pc := 45) dX12_tries_45 rfl rfl ?_
      refine sw_getfield (pc := 46) dX12_tries_46 (gCX12 _ _ _ _ _) 124 (by decide) wF_X12_533 rfl rfl rfl ?_
      refine sv_iload_n (pc := 49) dX12_tries_49 rfl rfl ?_
      refine sv_iload_n (pc := 50) dX12_tries_50 rfl rfl ?_
      refine sv_iconst (pc := 51) (v := 1) dX12_tries_51 (by decide) ?_
      refine sw_isub (pc := 52) (v := 0) dX12_tries_52 (by decide) ?_
      refine sw_iastore (pc := 53) (k := 0) (v := .int 0) dX12_tries_53 rfl rfl rfl (by decide) (by decide) rfl rfl ?_
      refine sv_aload_n (pc := 54) dX12_tries_54 rfl rfl ?_
      refine sw_getfield (pc := 55) dX12_tries_55 (gCX12 _ _ _ _ _) 123 (by decide) wF_X12_530 rfl rfl rfl ?_
      refine sv_iload_n (pc := 58) dX12_tries_58 rfl rfl ?_
      refine sv_iconst (pc := 59) (v := 1) dX12_tries_59 (by decide) ?_
      refine sw_isub (pc := 60) (v := 0) dX12_tries_60 (by decide) ?_
      refine sv_iconst (pc := 61) (v := 0) dX12_tries_61 (by decide) ?_
      refine sw_iastore (pc := 62) (k := 0) (v := .int 0) dX12_tries_62 rfl rfl rfl (by decide) (by decide) rfl rfl ?_
      refine sw_iinc (pc := 63) (v := 1) dX12_tries_63 rfl (by decide) (by decide) ?_
      refine sv_iconst (pc := 66) (v := 0) dX12_tries_66 (by decide) ?_
      refine sv_istore (pc := 67) dX12_tries_67 (by decide) ?_
      refine sv_ldc (pc := 69) dX12_tries_69 wG_X12_29 ?_
      refine sv_istore (pc := 71) dX12_tries_71 (by decide) ?_
      refine sv_iconst (pc := 73) (v := 0) dX12_tries_73 (by decide) ?_
      refine sv_istore (pc := 74) dX12_tries_74 (by decide) ?_
      refine sv_lvG (pc := 76) (lv' := [(0, .ref 106), (1, .int 0), (2, .int 1), (3, .int 1), (4, .int 0), (5, .int (-99999999)), (6, .int 0)]) (List.forall_mem_cons.mpr ⟨rfl, List.forall_mem_cons.mpr ⟨rfl, List.forall_mem_cons.mpr ⟨rfl, List.forall_mem_cons.mpr ⟨rfl, List.forall_mem_cons.mpr ⟨rfl, List.forall_mem_cons.mpr ⟨rfl, List.forall_mem_cons.mpr ⟨rfl, fun _ h => absurd h List.not_mem_nil⟩⟩⟩⟩⟩⟩⟩) ?_
      refine sv_iload (pc := 76) dX12_tries_76 rfl ?_
      refine sv_iload_n (pc := 78) dX12_tries_78 rfl rfl ?_
      refine sv_icmp_ge (pc := 79) (tgt := 240) dX12_tries_79 (by decide) (fun h => absurd h (by decide)) (fun _ => ?_)
      refine sv_aload_n (pc := 82) dX12_tries_82 rfl rfl ?_
      refine sw_getfield (pc := 83) dX12_tries_83 (gCX12 _ _ _ _ _) 124 (by decide) wF_X12_533 rfl rfl rfl ?_
      refine sv_iload (pc := 86) dX12_tries_86 rfl ?_
      refine sw_iaload (pc := 88) (k := 0) (v := .int 0) dX12_tries_88 rfl rfl rfl (by decide) (by decide) rfl rfl ?_
      refine sv_istore (pc := 89) dX12_tries_89 (by decide) ?_
      refine sv_iconst (pc := 91) (v := 1) dX12_tries_91 (by decide) ?_
      refine sv_istore (pc := 92) dX12_tries_92 (by decide) ?_
      refine sv_aload_n (pc := 94) dX12_tries_94 rfl rfl ?_
      refine sv_iload (pc := 95) dX12_tries_95 rfl ?_
      refine sv_callV (pc := 97) (M' := mX12_open) (d' := 19) (C' := 0) (S' := 0) (av := [.int 0]) ?_ (gOk _ _ _ _ _) dX12_tries_97 (tX12_open _ _ _ _ _) ⟨wV_X12_open, wL_X12_open⟩ wM_X12_722 (gCX12 _ _ _ _ _) rfl (lt_t rfl) rfl ⟨le_t rfl, le_t rfl⟩ ⟨le_t rfl, le_t rfl⟩ rfl (le_t rfl) (fun _ _ h => h)
      refine sC.of rfl (by decide) (le_t rfl) ?_
      refine sv_iconst (pc := 0) (v := 1) dX12_open_0 (by decide) ?_
      refine sv_istore_n (pc := 1) dX12_open_1 rfl (by decide) ?_
      refine sv_iload_n (pc := 2) dX12_open_2 rfl rfl ?_
      refine sv_bipush (pc := 3) (v := 6) dX12_open_3 (by decide) ?_
      refine sv_icmp_gt (pc := 5) (tgt := 37) dX12_open_5 (by decide) (fun h => absurd h (by decide)) (fun _ => ?_)
      refine sv_aload_n (pc := 8) dX12_open_8 rfl rfl ?_
      refine sw_getfield (pc := 9) dX12_open_9 (gCX12 _ _ _ _ _) 122 (by decide) wF_X12_526 rfl rfl rfl ?_
      refine sv_iload_n (pc := 12) dX12_open_12 rfl rfl ?_
      refine sv_iload_n (pc := 13) dX12_open_13 rfl rfl ?_
      refine sv_aload_n (pc := 14) dX12_open_14 rfl rfl ?_
      refine sw_getfield (pc := 15) dX12_open_15 (gCX12 _ _ _ _ _) 121 (by decide) wF_X12_523 rfl rfl rfl ?_
      refine sv_iload_n (pc := 18) dX12_open_18 rfl rfl ?_
      refine sw_iaload (pc := 19) (k := 1) (v := .int 1) dX12_open_19 rfl rfl rfl (by decide) (by decide) rfl rfl ?_
      refine sw_idiv (pc := 20) (v := 0) dX12_open_20 (by decide) (by decide) ?_
      refine sv_aload_n (pc := 21) dX12_open_21 rfl rfl ?_
      refine sw_getfield (pc := 22) dX12_open_22 (gCX12 _ _ _ _ _) 118 (by decide) wF_X12_514 rfl rfl rfl ?_
      refine sv_iload_n (pc := 25) dX12_open_25 rfl rfl ?_
      refine sw_iaload (pc := 26) (k := 1) (v := .int 0) dX12_open_26 rfl rfl rfl (by decide) (by decide) rfl rfl ?_
      refine sv_iconst (pc := 27) (v := 1) dX12_open_27 (by decide) ?_
      refine sw_iadd (pc := 28) (v := 1) dX12_open_28 (by decide) ?_
      refine sw_irem (pc := 29) (v := 0) dX12_open_29 (by decide) (by decide) ?_
      refine sw_iastore (pc := 30) (k := 1) (v := .int 0) dX12_open_30 rfl rfl rfl (by decide) (by decide) rfl rfl ?_
      refine sw_iinc (pc := 31) (v := 2) dX12_open_31 rfl (by decide) (by decide) ?_
      refine sv_goto (pc := 34) (tgt := 2) dX12_open_34 (by decide) ?_
      refine sv_iload_n (pc := 2) dX12_open_2 rfl rfl ?_
      refine sv_bipush (pc := 3) (v := 6) dX12_open_3 (by decide) ?_
      refine sv_icmp_gt (pc := 5) (tgt := 37) dX12_open_5 (by decide) (fun h => absurd h (by decide)) (fun _ => ?_)
      refine sv_aload_n (pc := 8) dX12_open_8 rfl rfl ?_
      refine sw_getfield (pc := 9) dX12_open_9 (gCX12 _ _ _ _ _) 122 (by decide) wF_X12_526 rfl rfl rfl ?_
      refine sv_iload_n (pc := 12) dX12_open_12 rfl rfl ?_
      refine sv_iload_n (pc := 13) dX12_open_13 rfl rfl ?_
      refine sv_aload_n (pc := 14) dX12_open_14 rfl rfl ?_
      refine sw_getfield (pc := 15) dX12_open_15 (gCX12 _ _ _ _ _) 121 (by decide) wF_X12_523 rfl rfl rfl ?_
      refine sv_iload_n (pc := 18) dX12_open_18 rfl rfl ?_
      refine sw_iaload (pc := 19) (k := 2) (v := .int 1) dX12_open_19 rfl rfl rfl (by decide) (by decide) rfl rfl ?_
      refine sw_idiv (pc := 20) (v := 0) dX12_open_20 (by decide) (by decide) ?_
      refine sv_aload_n (pc := 21) dX12_open_21 rfl rfl ?_
      refine sw_getfield (pc := 22) dX12_open_22 (gCX12 _ _ _ _ _) 118 (by decide) wF_X12_514 rfl rfl rfl ?_
      refine sv_iload_n (pc := 25) dX12_open_25 rfl rfl ?_
      refine sw_iaload (pc := 26) (k := 2) (v := .int 0) dX12_open_26 rfl rfl rfl (by decide) (by decide) rfl rfl ?_
      refine sv_iconst (pc := 27) (v := 1) dX12_open_27 (by decide) ?_
      refine sw_iadd (pc := 28) (v := 1) dX12_open_28 (by decide) ?_
      refine sw_irem (pc := 29) (v := 0) dX12_open_29 (by decide) (by decide) ?_
      refine sw_iastore (pc := 30) (k := 2) (v := .int 0) dX12_open_30 rfl rfl rfl (by decide) (by decide) rfl rfl ?_
      refine sw_iinc (pc := 31) (v := 3) dX12_open_31 rfl (by decide) (by decide) ?_
      refine sv_goto (pc := 34) (tgt := 2) dX12_open_34 (by decide) ?_
      refine sv_iload_n (pc := 2) dX12_open_2 rfl rfl ?_
      refine sv_bipush (pc := 3) (v := 6) dX12_open_3 (by decide) ?_
      refine sv_icmp_gt (pc := 5) (tgt := 37) dX12_open_5 (by decide) (fun h => absurd h (by decide)) (fun _ => ?_)
      refine sv_aload_n (pc := 8) dX12_open_8 rfl rfl ?_
      refine sw_getfield (pc := 9) dX12_open_9 (gCX12 _ _ _ _ _) 122 (by decide) wF_X12_526 rfl rfl rfl ?_
      refine sv_iload_n (pc := 12) dX12_open_12 rfl rfl ?_
      refine sv_iload_n (pc := 13) dX12_open_13 rfl rfl ?_
      refine sv_aload_n (pc := 14) dX12_open_14 rfl rfl ?_
      refine sw_getfield (pc := 15) dX12_open_15 (gCX12 _ _ _ _ _) 121 (by decide) wF_X12_523 rfl rfl rfl ?_
      refine sv_iload_n (pc := 18) dX12_open_18 rfl rfl ?_
      refine sw_iaload (pc := 19) (k := 3) (v := .int 1) dX12_open_19 rfl rfl rfl (by decide) (by decide) rfl rfl ?_
      refine sw_idiv (pc := 20) (v := 0) dX12_open_20 (by decide) (by decide) ?_
      refine sv_aload_n (pc := 21) dX12_open_21 rfl rfl ?_
      refine sw_getfield (pc := 22) dX12_open_22 (gCX12 _ _ _ _ _) 118 (by decide) wF_X12_514 rfl rfl rfl ?_
      refine sv_iload_n (pc := 25) dX12_open_25 rfl rfl ?_
      refine sw_iaload (pc := 26) (k := 3) (v := .int 0) dX12_open_26 rfl rfl rfl (by decide) (by decide) rfl rfl ?_
      refine sv_iconst (pc := 27) (v := 1) dX12_open_27 (by decide) ?_
      refine sw_iadd (pc := 28) (v := 1) dX12_open_28 (by decide) ?_
      refine sw_irem (pc := 29) (v := 0) dX12_open_29 (by decide) (by decide) ?_
      refine sw_iastore (pc := 30) (k := 3) (v := .int 0) dX12_open_30 rfl rfl rfl (by decide) (by decide) rfl rfl ?_
      refine sw_iinc (pc := 31) (v := 4) dX12_open_31 rfl (by decide) (by decide) ?_
      refine sv_goto (pc := 34) (tgt := 2) dX12_open_34 (by decide) ?_
      refine sv_iload_n (pc := 2) dX12_open_2 rfl rfl ?_
      refine sv_bipush (pc := 3) (v := 6) dX12_open_3 (by decide) ?_
      refine sv_icmp_gt (pc := 5) (tgt := 37) dX12_open_5 (by decide) (fun h => absurd h (by decide)) (fun _ => ?_)
      refine sv_aload_n (pc := 8) dX12_open_8 rfl rfl ?_
      refine sw_getfield (pc := 9) dX12_open_9 (gCX12 _ _ _ _ _) 122 (by decide) wF_X12_526 rfl rfl rfl ?_
      refine sv_iload_n (pc := 12) dX12_open_12 rfl rfl ?_
      refine sv_iload_n (pc := 13) dX12_open_13 rfl rfl ?_
      refine sv_aload_n (pc := 14) dX12_open_14 rfl rfl ?_
      refine sw_getfield (pc := 15) dX12_open_15 (gCX12 _ _ _ _ _) 121 (by decide) wF_X12_523 rfl rfl rfl ?_
      refine sv_iload_n (pc := 18) dX12_open_18 rfl rfl ?_
      refine sw_iaload (pc := 19) (k := 4) (v := .int 1) dX12_open_19 rfl rfl rfl (by decide) (by decide) rfl rfl ?_
      refine sw_idiv (pc := 20) (v := 0) dX12_open_20 (by decide) (by decide) ?_
      refine sv_aload_n (pc := 21) dX12_open_21 rfl rfl ?_
      refine sw_getfield (pc := 22) dX12_open_22 (gCX12 _ _ _ _ _) 118 (by decide) wF_X12_514 rfl rfl rfl ?_
      refine sv_iload_n (pc := 25) dX12_open_25 rfl rfl ?_
      refine sw_iaload (pc := 26) (k := 4) (v := .int 0) dX12_open_26 rfl rfl rfl (by decide) (by decide) rfl rfl ?_
      refine sv_iconst (pc := 27) (v := 1) dX12_open_27 (by decide) ?_
      refine sw_iadd (pc := 28) (v := 1) dX12_open_28 (by decide) ?_
      refine sw_irem (pc := 29) (v := 0) dX12_open_29 (by decide) (by decide) ?_
      refine sw_iastore (pc := 30) (k := 4) (v := .int 0) dX12_open_30 rfl rfl rfl (by decide) (by decide) rfl rfl ?_
      refine sw_iinc (pc := 31) (v := 5) dX12_open_31 rfl (by decide) (by decide) ?_
      refine sv_goto (pc := 34) (tgt := 2) dX12_open_34 (by decide) ?_
      refine sv_iload_n (pc := 2) dX12_open_2 rfl rfl ?_
      refine sv_bipush (pc := 3) (v := 6) dX12_open_3 (by decide) ?_
      refine sv_icmp_gt (pc := 5) (tgt := 37) dX12_open_5 (by decide) (fun h => absurd h (by decide)) (fun _ => ?_)
      refine sv_aload_n (pc := 8) dX12_open_8 rfl rfl ?_
      refine sw_getfield (pc := 9) dX12_open_9 (gCX12 _ _ _ _ _) 122 (by decide) wF_X12_526 rfl rfl rfl ?_
      refine sv_iload_n (pc := 12) dX12_open_12 rfl rfl ?_
      refine sv_iload_n (pc := 13) dX12_open_13 rfl rfl ?_
      refine sv_aload_n (pc := 14) dX12_open_14 rfl rfl ?_
      refine sw_getfield (pc := 15) dX12_open_15 (gCX12 _ _ _ _ _) 121 (by decide) wF_X12_523 rfl rfl rfl ?_
      refine sv_iload_n (pc := 18) dX12_open_18 rfl rfl ?_
      refine sw_iaload (pc := 19) (k := 5) (v := .int 1) dX12_open_19 rfl rfl rfl (by decide) (by decide) rfl rfl ?_
      refine sw_idiv (pc := 20) (v := 0) dX12_open_20 (by decide) (by decide) ?_
      refine sv_aload_n (pc := 21) dX12_open_21 rfl rfl ?_
      refine sw_getfield (pc := 22) dX12_open_22 (gCX12 _ _ _ _ _) 118 (by decide) wF_X12_514 rfl rfl rfl ?_
      refine sv_iload_n (pc := 25) dX12_open_25 rfl rfl ?_
      refine sw_iaload (pc := 26) (k := 5) (v := .int 0) dX12_open_26 rfl rfl rfl (by decide) (by decide) rfl rfl ?_
      refine sv_iconst (pc := 27) (v := 1) dX12_open_27 (by decide) ?_
      refine sw_iadd (pc := 28) (v := 1) dX12_open_28 (by decide) ?_
      refine sw_irem (pc := 29) (v := 0) dX12_open_29 (by decide) (by decide) ?_
      refine sw_iastore (pc := 30) (k := 5) (v := .int 0) dX12_open_30 rfl rfl rfl (by decide) (by decide) rfl rfl ?_
      refine sw_iinc (pc := 31) (v := 6) dX12_open_31 rfl (by decide) (by decide) ?_
      refine sv_goto (pc := 34) (tgt := 2) dX12_open_34 (by decide) ?_
      refine sv_iload_n (pc := 2) dX12_open_2 rfl rfl ?_
      refine sv_bipush (pc := 3) (v := 6) dX12_open_3 (by decide) ?_
      refine sv_icmp_gt (pc := 5) (tgt := 37) dX12_open_5 (by decide) (fun h => absurd h (by decide)) (fun _ => ?_)
      refine sv_aload_n (pc := 8) dX12_open_8 rfl rfl ?_
      refine sw_getfield (pc := 9) dX12_open_9 (gCX12 _ _ _ _ _) 122 (by decide) wF_X12_526 rfl rfl rfl ?_
      refine sv_iload_n (pc := 12) dX12_open_12 rfl rfl ?_
      refine sv_iload_n (pc := 13) dX12_open_13 rfl rfl ?_
      refine sv_aload_n (pc := 14) dX12_open_14 rfl rfl ?_
      refine sw_getfield (pc := 15) dX12_open_15 (gCX12 _ _ _ _ _) 121 (by decide) wF_X12_523 rfl rfl rfl ?_
      refine sv_iload_n (pc := 18) dX12_open_18 rfl rfl ?_
      refine sw_iaload (pc := 19) (k := 6) (v := .int 1) dX12_open_19 rfl rfl rfl (by decide) (by decide) rfl rfl ?_
      refine sw_idiv (pc := 20) (v := 0) dX12_open_20 (by decide) (by decide) ?_
      refine sv_aload_n (pc := 21) dX12_open_21 rfl rfl ?_
      refine sw_getfield (pc := 22) dX12_open_22 (gCX12 _ _ _ _ _) 118 (by decide) wF_X12_514 rfl rfl rfl ?_
      refine sv_iload_n (pc := 25) dX12_open_25 rfl rfl ?_
      refine sw_iaload (pc := 26) (k := 6) (v := .int 0) dX12_open_26 rfl rfl rfl (by decide) (by decide) rfl rfl ?_
      refine sv_iconst (pc := 27) (v := 1) dX12_open_27 (by decide) ?_
      refine sw_iadd (pc := 28) (v := 1) dX12_open_28 (by decide) ?_
      refine sw_irem (pc := 29) (v := 0) dX12_open_29 (by decide) (by decide) ?_
      refine sw_iastore (pc := 30) (k := 6) (v := .int 0) dX12_open_30 rfl rfl rfl (by decide) (by decide) rfl rfl ?_
      refine sw_iinc (pc := 31) (v := 7) dX12_open_31 rfl (by decide) (by decide) ?_
      refine sv_goto (pc := 34) (tgt := 2) dX12_open_34 (by decide) ?_
      refine sv_iload_n (pc := 2) dX12_open_2 rfl rfl ?_
      refine sv_bipush (pc := 3) (v := 6) dX12_open_3 (by decide) ?_
      refine sv_icmp_gt (pc := 5) (tgt := 37) dX12_open_5 (by decide) (fun _ => ?_) (fun h => absurd (by decide) h)
      refine sv_vret (pc := 37) dX12_open_37 rfl (le_t rfl) (le_t rfl) ?_
      refine sv_iconst (pc := 100) (v := 1) dX12_tries_100 (by decide) ?_
      refine sv_istore (pc := 101) dX12_tries_101 (by decide) ?_
      refine sv_iload (pc := 103) dX12_tries_103 rfl ?_
      refine sv_bipush (pc := 105) (v := 6) dX12_tries_105 (by decide) ?_
      refine sv_icmp_gt (pc := 107) (tgt := 202) dX12_tries_107 (by decide) (fun h => absurd h (by decide)) (fun _ => ?_)
      refine sv_aload_n (pc := 110) dX12_tries_110 rfl rfl ?_
      refine sv_iload (pc := 111) dX12_tries_111 rfl ?_
      refine sv_callV (pc := 113) (M' := mX12_acted) (d' := 19) (C' := 0) (S' := 0) (av := [.int 1]) ?_ (gOk _ _ _ _ _) dX12_tries_113 (tX12_acted _ _ _ _ _) ⟨wV_X12_acted, wL_X12_acted⟩ wM_X12_725 (gCX12 _ _ _ _ _) rfl (lt_t rfl) rfl ⟨le_t rfl, le_t rfl⟩ ⟨le_t rfl, le_t rfl⟩ rfl (le_t rfl) (fun _ _ h => h)
      refine sC.of rfl (by decide) (le_t rfl) ?_
      refine sv_iconst (pc := 0) (v := 0) dX12_acted_0 (by decide) ?_
      refine sv_istore_n (pc := 1) dX12_acted_1 rfl (by decide) ?_
      refine sv_iload_n (pc := 2) dX12_acted_2 rfl rfl ?_
      refine sv_aload_n (pc := 3) dX12_acted_3 rfl rfl ?_
      refine sw_getfield (pc := 4) dX12_acted_4 (gCX12 _ _ _ _ _) 118 (by decide) wF_X12_514 rfl rfl rfl ?_
      refine sv_iload_n (pc := 7) dX12_acted_7 rfl rfl ?_
      refine sw_iaload (pc := 8) (k := 1) (v := .int 0) dX12_acted_8 rfl rfl rfl (by decide) (by decide) rfl rfl ?_
      refine sv_icmp_ge (pc := 9) (tgt := 32) dX12_acted_9 (by decide) (fun _ => ?_) (fun h => absurd (by decide) h)
      refine sv_aload_n (pc := 32) dX12_acted_32 rfl rfl ?_
      refine sw_getfield (pc := 33) dX12_acted_33 (gCX12 _ _ _ _ _) 118 (by decide) wF_X12_514 rfl rfl rfl ?_
      refine sv_iload_n (pc := 36) dX12_acted_36 rfl rfl ?_
      refine sw_iaload (pc := 37) (k := 1) (v := .int 0) dX12_acted_37 rfl rfl rfl (by decide) (by decide) rfl rfl ?_
      refine sv_iret (pc := 38) dX12_acted_38 rfl (le_t rfl) (le_t rfl) ?_
      refine sv_istore (pc := 116) dX12_tries_116 (by decide) ?_
      refine sv_iload (pc := 118) dX12_tries_118 rfl ?_
      refine sv_aload_n (pc := 120) dX12_tries_120 rfl rfl ?_
      refine sw_getfield (pc := 121) dX12_tries_121 (gCX12 _ _ _ _ _) 122 (by decide) wF_X12_526 rfl rfl rfl ?_
      refine sv_iload (pc := 124) dX12_tries_124 rfl ?_
      refine sw_iaload (pc := 126) (k := 1) (v := .int 0) dX12_tries_126 rfl rfl rfl (by decide) (by decide) rfl rfl ?_
      refine sv_icmp_ne (pc := 127) (tgt := 133) dX12_tries_127 (by decide) (fun h => absurd (by decide) h) (fun _ => ?_)
      refine sv_goto (pc := 130) (tgt := 196) dX12_tries_130 (by decide) ?_
      refine sw_iinc (pc := 196) (v := 2) dX12_tries_196 rfl (by decide) (by decide) ?_
      refine sv_goto (pc := 199) (tgt := 103) dX12_tries_199 (by decide) ?_
      refine sv_iload (pc := 103) dX12_tries_103 rfl ?_
      refine sv_bipush (pc := 105) (v := 6) dX12_tries_105 (by decide) ?_
      refine sv_icmp_gt (pc := 107) (tgt := 202) dX12_tries_107 (by decide) (fun h => absurd h (by decide)) (fun _ => ?_)
      refine sv_aload_n (pc := 110) dX12_tries_110 rfl rfl ?_
      refine sv_iload (pc := 111) dX12_tries_111 rfl ?_
      refine sv_callV (pc := 113) (M' := mX12_acted) (d' := 19) (C' := 0) (S' := 0) (av := [.int 2]) ?_ (gOk _ _ _ _ _) dX12_tries_113 (tX12_acted _ _ _ _ _) ⟨wV_X12_acted, wL_X12_acted⟩ wM_X12_725 (gCX12 _ _ _ _ _) rfl (lt_t rfl) rfl ⟨le_t rfl, le_t rfl⟩ ⟨le_t rfl, le_t rfl⟩ rfl (le_t rfl) (fun _ _ h => h)
      refine sC.of rfl (by decide) (le_t rfl) ?_
      refine sv_iconst (pc := 0) (v := 0) dX12_acted_0 (by decide) ?_
      refine sv_istore_n (pc := 1) dX12_acted_1 rfl (by decide) ?_
      refine sv_iload_n (pc := 2) dX12_acted_2 rfl rfl ?_
      refine sv_aload_n (pc := 3) dX12_acted_3 rfl rfl ?_
      refine sw_getfield (pc := 4) dX12_acted_4 (gCX12 _ _ _ _ _) 118 (by decide) wF_X12_514 rfl rfl rfl ?_
      refine sv_iload_n (pc := 7) dX12_acted_7 rfl rfl ?_
      refine sw_iaload (pc := 8) (k := 2) (v := .int 0) dX12_acted_8 rfl rfl rfl (by decide) (by decide) rfl rfl ?_
      refine sv_icmp_ge (pc := 9) (tgt := 32) dX12_acted_9 (by decide) (fun _ => ?_) (fun h => absurd (by decide) h)
      refine sv_aload_n (pc := 32) dX12_acted_32 rfl rfl ?_
      refine sw_getfield (pc := 33) dX12_acted_33 (gCX12 _ _ _ _ _) 118 (by decide) wF_X12_514 rfl rfl rfl ?_
      refine sv_iload_n (pc := 36) dX12_acted_36 rfl rfl ?_
      refine sw_iaload (pc := 37) (k := 2) (v := .int 0) dX12_acted_37 rfl rfl rfl (by decide) (by decide) rfl rfl ?_
      refine sv_iret (pc := 38) dX12_acted_38 rfl (le_t rfl) (le_t rfl) ?_
      refine sv_istore (pc := 116) dX12_tries_116 (by decide) ?_
      refine sv_iload (pc := 118) dX12_tries_118 rfl ?_
      refine sv_aload_n (pc := 120) dX12_tries_120 rfl rfl ?_
      refine sw_getfield (pc := 121) dX12_tries_121 (gCX12 _ _ _ _ _) 122 (by decide) wF_X12_526 rfl rfl rfl ?_
      refine sv_iload (pc := 124) dX12_tries_124 rfl ?_
      refine sw_iaload (pc := 126) (k := 2) (v := .int 0) dX12_tries_126 rfl rfl rfl (by decide) (by decide) rfl rfl ?_
      refine sv_icmp_ne (pc := 127) (tgt := 133) dX12_tries_127 (by decide) (fun h => absurd (by decide) h) (fun _ => ?_)
      refine sv_goto (pc := 130) (tgt := 196) dX12_tries_130 (by decide) ?_
      refine sw_iinc (pc := 196) (v := 3) dX12_tries_196 rfl (by decide) (by decide) ?_
      refine sv_goto (pc := 199) (tgt := 103) dX12_tries_199 (by decide) ?_
      refine sv_iload (pc := 103) dX12_tries_103 rfl ?_
      refine sv_bipush (pc := 105) (v := 6) dX12_tries_105 (by decide) ?_
      refine sv_icmp_gt (pc := 107) (tgt := 202) dX12_tries_107 (by decide) (fun h => absurd h (by decide)) (fun _ => ?_)
      refine sv_aload_n (pc := 110) dX12_tries_110 rfl rfl ?_
      refine sv_iload (pc := 111) dX12_tries_111 rfl ?_
      refine sv_callV (pc := 113) (M' := mX12_acted) (d' := 19) (C' := 0) (S' := 0) (av := [.int 3]) ?_ (gOk _ _ _ _ _) dX12_tries_113 (tX12_acted _ _ _ _ _) ⟨wV_X12_acted, wL_X12_acted⟩ wM_X12_725 (gCX12 _ _ _ _ _) rfl (lt_t rfl) rfl ⟨le_t rfl, le_t rfl⟩ ⟨le_t rfl, le_t rfl⟩ rfl (le_t rfl) (fun _ _ h => h)
      refine sC.of rfl (by decide) (le_t rfl) ?_
      refine sv_iconst (pc := 0) (v := 0) dX12_acted_0 (by decide) ?_
      refine sv_istore_n (pc := 1) dX12_acted_1 rfl (by decide) ?_
      refine sv_iload_n (pc := 2) dX12_acted_2 rfl rfl ?_
      refine sv_aload_n (pc := 3) dX12_acted_3 rfl rfl ?_
      refine sw_getfield (pc := 4) dX12_acted_4 (gCX12 _ _ _ _ _) 118 (by decide) wF_X12_514 rfl rfl rfl ?_
      refine sv_iload_n (pc := 7) dX12_acted_7 rfl rfl ?_
      refine sw_iaload (pc := 8) (k := 3) (v := .int 0) dX12_acted_8 rfl rfl rfl (by decide) (by decide) rfl rfl ?_
      refine sv_icmp_ge (pc := 9) (tgt := 32) dX12_acted_9 (by decide) (fun _ => ?_) (fun h => absurd (by decide) h)
      refine sv_aload_n (pc := 32) dX12_acted_32 rfl rfl ?_
      refine sw_getfield (pc := 33) dX12_acted_33 (gCX12 _ _ _ _ _) 118 (by decide) wF_X12_514 rfl rfl rfl ?_
      refine sv_iload_n (pc := 36) dX12_acted_36 rfl rfl ?_
      refine sw_iaload (pc := 37) (k := 3) (v := .int 0) dX12_acted_37 rfl rfl rfl (by decide) (by decide) rfl rfl ?_
      refine sv_iret (pc := 38) dX12_acted_38 rfl (le_t rfl) (le_t rfl) ?_
      refine sv_istore (pc := 116) dX12_tries_116 (by decide) ?_
      refine sv_lvG (pc := 118) (lv' := [(0, .ref 106), (1, .int 0), (2, .int 1), (3, .int 1), (4, .int 0), (5, .int (-99999999)), (6, .int 0), (7, .int 0), (8, .int 1), (9, .int 3), (10, .int 0)]) (List.forall_mem_cons.mpr ⟨rfl, List.forall_mem_cons.mpr ⟨rfl, List.forall_mem_cons.mpr ⟨rfl, List.forall_mem_cons.mpr ⟨rfl, List.forall_mem_cons.mpr ⟨rfl, List.forall_mem_cons.mpr ⟨rfl, List.forall_mem_cons.mpr ⟨rfl, List.forall_mem_cons.mpr ⟨rfl, List.forall_mem_cons.mpr ⟨rfl, List.forall_mem_cons.mpr ⟨rfl, List.forall_mem_cons.mpr ⟨rfl, fun _ h => absurd h List.not_mem_nil⟩⟩⟩⟩⟩⟩⟩⟩⟩⟩⟩) ?_
      refine sv_iload (pc := 118) dX12_tries_118 rfl ?_
      refine sv_aload_n (pc := 120) dX12_tries_120 rfl rfl ?_
      refine sw_getfield (pc := 121) dX12_tries_121 (gCX12 _ _ _ _ _) 122 (by decide) wF_X12_526 rfl rfl rfl ?_
      refine sv_iload (pc := 124) dX12_tries_124 rfl ?_
      refine sw_iaload (pc := 126) (k := 3) (v := .int 0) dX12_tries_126 rfl rfl rfl (by decide) (by decide) rfl rfl ?_
      refine sv_icmp_ne (pc := 127) (tgt := 133) dX12_tries_127 (by decide) (fun h => absurd (by decide) h) (fun _ => ?_)
      refine sv_goto (pc := 130) (tgt := 196) dX12_tries_130 (by decide) ?_
      refine sw_iinc (pc := 196) (v := 4) dX12_tries_196 rfl (by decide) (by decide) ?_
      refine sv_goto (pc := 199) (tgt := 103) dX12_tries_199 (by decide) ?_
      refine sv_iload (pc := 103) dX12_tries_103 rfl ?_
      refine sv_bipush (pc := 105) (v := 6) dX12_tries_105 (by decide) ?_
      refine sv_icmp_gt (pc := 107) (tgt := 202) dX12_tries_107 (by decide) (fun h => absurd h (by decide)) (fun _ => ?_)
      refine sv_aload_n (pc := 110) dX12_tries_110 rfl rfl ?_
      refine sv_iload (pc := 111) dX12_tries_111 rfl ?_
      refine sv_callV (pc := 113) (M' := mX12_acted) (d' := 19) (C' := 0) (S' := 0) (av := [.int 4]) ?_ (gOk _ _ _ _ _) dX12_tries_113 (tX12_acted _ _ _ _ _) ⟨wV_X12_acted, wL_X12_acted⟩ wM_X12_725 (gCX12 _ _ _ _ _) rfl (lt_t rfl) rfl ⟨le_t rfl, le_t rfl⟩ ⟨le_t rfl, le_t rfl⟩ rfl (le_t rfl) (fun _ _ h => h)
      refine sC.of rfl (by decide) (le_t rfl) ?_
      refine sv_iconst (pc := 0) (v := 0) dX12_acted_0 (by decide) ?_
      refine sv_istore_n (pc := 1) dX12_acted_1 rfl (by decide) ?_
      refine sv_iload_n (pc := 2) dX12_acted_2 rfl rfl ?_
      refine sv_aload_n (pc := 3) dX12_acted_3 rfl rfl ?_
      refine sw_getfield (pc := 4) dX12_acted_4 (gCX12 _ _ _ _ _) 118 (by decide) wF_X12_514 rfl rfl rfl ?_
      refine sv_iload_n (pc := 7) dX12_acted_7 rfl rfl ?_
      refine sw_iaload (pc := 8) (k := 4) (v := .int 0) dX12_acted_8 rfl rfl rfl (by decide) (by decide) rfl rfl ?_
      refine sv_icmp_ge (pc := 9) (tgt := 32) dX12_acted_9 (by decide) (fun _ => ?_) (fun h => absurd (by decide) h)
      refine sv_aload_n (pc := 32) dX12_acted_32 rfl rfl ?_
      refine sw_getfield (pc := 33) dX12_acted_33 (gCX12 _ _ _ _ _) 118 (by decide) wF_X12_514 rfl rfl rfl ?_
      refine sv_iload_n (pc := 36) dX12_acted_36 rfl rfl ?_
      refine sw_iaload (pc := 37) (k := 4) (v := .int 0) dX12_acted_37 rfl rfl rfl (by decide) (by decide) rfl rfl ?_
      refine sv_iret (pc := 38) dX12_acted_38 rfl (le_t rfl) (le_t rfl) ?_
      refine sv_istore (pc := 116) dX12_tries_116 (by decide) ?_
      refine sv_iload (pc := 118) dX12_tries_118 rfl ?_
      refine sv_aload_n (pc := 120) dX12_tries_120 rfl rfl ?_
      refine sw_getfield (pc := 121) dX12_tries_121 (gCX12 _ _ _ _ _) 122 (by decide) wF_X12_526 rfl rfl rfl ?_
      refine sv_iload (pc := 124) dX12_tries_124 rfl ?_
      refine sw_iaload (pc := 126) (k := 4) (v := .int 0) dX12_tries_126 rfl rfl rfl (by decide) (by decide) rfl rfl ?_
      refine sv_icmp_ne (pc := 127) (tgt := 133) dX12_tries_127 (by decide) (fun h => absurd (by decide) h) (fun _ => ?_)
      refine sv_goto (pc := 130) (tgt := 196) dX12_tries_130 (by decide) ?_
      refine sw_iinc (pc := 196) (v := 5) dX12_tries_196 rfl (by decide) (by decide) ?_
      refine sv_goto (pc := 199) (tgt := 103) dX12_tries_199 (by decide) ?_
      refine sv_iload (pc := 103) dX12_tries_103 rfl ?_
      refine sv_bipush (pc := 105) (v := 6) dX12_tries_105 (by decide) ?_
      refine sv_icmp_gt (pc := 107) (tgt := 202) dX12_tries_107 (by decide) (fun h => absurd h (by decide)) (fun _ => ?_)
      refine sv_aload_n (pc := 110) dX12_tries_110 rfl rfl ?_
      refine sv_iload (pc := 111) dX12_tries_111 rfl ?_
      refine sv_callV (pc := 113) (M' := mX12_acted) (d' := 19) (C' := 0) (S' := 0) (av := [.int 5]) ?_ (gOk _ _ _ _ _) dX12_tries_113 (tX12_acted _ _ _ _ _) ⟨wV_X12_acted, wL_X12_acted⟩ wM_X12_725 (gCX12 _ _ _ _ _) rfl (lt_t rfl) rfl ⟨le_t rfl, le_t rfl⟩ ⟨le_t rfl, le_t rfl⟩ rfl (le_t rfl) (fun _ _ h => h)
      refine sC.of rfl (by decide) (le_t rfl) ?_
      refine sv_iconst (pc := 0) (v := 0) dX12_acted_0 (by decide) ?_
      refine sv_istore_n (pc := 1) dX12_acted_1 rfl (by decide) ?_
      refine sv_iload_n (pc := 2) dX12_acted_2 rfl rfl ?_
      refine sv_aload_n (pc := 3) dX12_acted_3 rfl rfl ?_
      refine sw_getfield (pc := 4) dX12_acted_4 (gCX12 _ _ _ _ _) 118 (by decide) wF_X12_514 rfl rfl rfl ?_
      refine sv_iload_n (pc := 7) dX12_acted_7 rfl rfl ?_
      refine sw_iaload (pc := 8) (k := 5) (v := .int 0) dX12_acted_8 rfl rfl rfl (by decide) (by decide) rfl rfl ?_
      refine sv_icmp_ge (pc := 9) (tgt := 32) dX12_acted_9 (by decide) (fun _ => ?_) (fun h => absurd (by decide) h)
      refine sv_aload_n (pc := 32) dX12_acted_32 rfl rfl ?_
      refine sw_getfield (pc := 33) dX12_acted_33 (gCX12 _ _ _ _ _) 118 (by decide) wF_X12_514 rfl rfl rfl ?_
      refine sv_iload_n (pc := 36) dX12_acted_36 rfl rfl ?_
      refine sw_iaload (pc := 37) (k := 5) (v := .int 0) dX12_acted_37 rfl rfl rfl (by decide) (by decide) rfl rfl ?_
      refine sv_iret (pc := 38) dX12_acted_38 rfl (le_t rfl) (le_t rfl) ?_
      refine sv_istore (pc := 116) dX12_tries_116 (by decide) ?_
      refine sv_iload (pc := 118) dX12_tries_118 rfl ?_
      refine sv_aload_n (pc := 120) dX12_tries_120 rfl rfl ?_
      refine sw_getfield (pc := 121) dX12_tries_121 (gCX12 _ _ _ _ _) 122 (by decide) wF_X12_526 rfl rfl rfl ?_
      refine sv_iload (pc := 124) dX12_tries_124 rfl ?_
      refine sw_iaload (pc := 126) (k := 5) (v := .int 0) dX12_tries_126 rfl rfl rfl (by decide) (by decide) rfl rfl ?_
      refine sv_icmp_ne (pc := 127) (tgt := 133) dX12_tries_127 (by decide) (fun h => absurd (by decide) h) (fun _ => ?_)
      refine sv_goto (pc := 130) (tgt := 196) dX12_tries_130 (by decide) ?_
      refine sw_iinc (pc := 196) (v := 6) dX12_tries_196 rfl (by decide) (by decide) ?_
      refine sv_goto (pc := 199) (tgt := 103) dX12_tries_199 (by decide) ?_
      refine sv_iload (pc := 103) dX12_tries_103 rfl ?_
      refine sv_bipush (pc := 105) (v := 6) dX12_tries_105 (by decide) ?_
      refine sv_icmp_gt (pc := 107) (tgt := 202) dX12_tries_107 (by decide) (fun h => absurd h (by decide)) (fun _ => ?_)
      refine sv_aload_n (pc := 110) dX12_tries_110 rfl rfl ?_
      refine sv_iload (pc := 111) dX12_tries_111 rfl ?_
      refine sv_callV (pc := 113) (M' := mX12_acted) (d' := 19) (C' := 0) (S' := 0) (av := [.int 6]) ?_ (gOk _ _ _ _ _) dX12_tries_113 (tX12_acted _ _ _ _ _) ⟨wV_X12_acted, wL_X12_acted⟩ wM_X12_725 (gCX12 _ _ _ _ _) rfl (lt_t rfl) rfl ⟨le_t rfl, le_t rfl⟩ ⟨le_t rfl, le_t rfl⟩ rfl (le_t rfl) (fun _ _ h => h)
      refine sC.of rfl (by decide) (le_t rfl) ?_
      refine sv_iconst (pc := 0) (v := 0) dX12_acted_0 (by decide) ?_
      refine sv_istore_n (pc := 1) dX12_acted_1 rfl (by decide) ?_
      refine sv_iload_n (pc := 2) dX12_acted_2 rfl rfl ?_
      refine sv_aload_n (pc := 3) dX12_acted_3 rfl rfl ?_
      refine sw_getfield (pc := 4) dX12_acted_4 (gCX12 _ _ _ _ _) 118 (by decide) wF_X12_514 rfl rfl rfl ?_
      refine sv_iload_n (pc := 7) dX12_acted_7 rfl rfl ?_
      refine sw_iaload (pc := 8) (k := 6) (v := .int 0) dX12_acted_8 rfl rfl rfl (by decide) (by decide) rfl rfl ?_
      refine sv_icmp_ge (pc := 9) (tgt := 32) dX12_acted_9 (by decide) (fun _ => ?_) (fun h => absurd (by decide) h)
      refine sv_aload_n (pc := 32) dX12_acted_32 rfl rfl ?_
      refine sw_getfield (pc := 33) dX12_acted_33 (gCX12 _ _ _ _ _) 118 (by decide) wF_X12_514 rfl rfl rfl ?_
      refine sv_iload_n (pc := 36) dX12_acted_36 rfl rfl ?_
      refine sw_iaload (pc := 37) (k := 6) (v := .int 0) dX12_acted_37 rfl rfl rfl (by decide) (by decide) rfl rfl ?_
      refine sv_iret (pc := 38) dX12_acted_38 rfl (le_t rfl) (le_t rfl) ?_
      refine sv_istore (pc := 116) dX12_tries_116 (by decide) ?_
      refine sv_iload (pc := 118) dX12_tries_118 rfl ?_
      refine sv_aload_n (pc := 120) dX12_tries_120 rfl rfl ?_
      refine sw_getfield (pc := 121) dX12_tries_121 (gCX12 _ _ _ _ _) 122 (by decide) wF_X12_526 rfl rfl rfl ?_
      refine sv_iload (pc := 124) dX12_tries_124 rfl ?_
      refine sw_iaload (pc := 126) (k := 6) (v := .int 0) dX12_tries_126 rfl rfl rfl (by decide) (by decide) rfl rfl ?_
      refine sv_icmp_ne (pc := 127) (tgt := 133) dX12_tries_127 (by decide) (fun h => absurd (by decide) h) (fun _ => ?_)
      refine sv_goto (pc := 130) (tgt := 196) dX12_tries_130 (by decide) ?_
      refine sw_iinc (pc := 196) (v := 7) dX12_tries_196 rfl (by decide) (by decide) ?_
      refine sv_goto (pc := 199) (tgt := 103) dX12_tries_199 (by decide) ?_
      refine sv_iload (pc := 103) dX12_tries_103 rfl ?_
      refine sv_bipush (pc := 105) (v := 6) dX12_tries_105 (by decide) ?_
      refine sv_icmp_gt (pc := 107) (tgt := 202) dX12_tries_107 (by decide) (fun _ => ?_) (fun h => absurd (by decide) h)
      refine sv_iload (pc := 202) dX12_tries_202 rfl ?_
      refine sv_if_eq (pc := 204) (tgt := 234) dX12_tries_204 (by decide) (fun h => absurd h (by decide)) (fun _ => ?_)
      refine sw_iinc (pc := 207) (v := 1) dX12_tries_207 rfl (by decide) (by decide) ?_
      refine sv_lvG (pc := 210) (lv' := [(0, .ref 106), (1, .int 0), (2, .int 1), (3, .int 1), (4, .int 1), (5, .int (-99999999)), (6, .int 0), (7, .int 0), (8, .int 1), (9, .int 7), (10, .int 0)]) (List.forall_mem_cons.mpr ⟨rfl, List.forall_mem_cons.mpr ⟨rfl, List.forall_mem_cons.mpr ⟨rfl, List.forall_mem_cons.mpr ⟨rfl, List.forall_mem_cons.mpr ⟨rfl, List.forall_mem_cons.mpr ⟨rfl, List.forall_mem_cons.mpr ⟨rfl, List.forall_mem_cons.mpr ⟨rfl, List.forall_mem_cons.mpr ⟨rfl, List.forall_mem_cons.mpr ⟨rfl, List.forall_mem_cons.mpr ⟨rfl, fun _ h => absurd h List.not_mem_nil⟩⟩⟩⟩⟩⟩⟩⟩⟩⟩⟩) ?_
      refine sv_aload_n (pc := 210) dX12_tries_210 rfl rfl ?_
      refine sw_getfield (pc := 211) dX12_tries_211 (gCX12 _ _ _ _ _) 125 (by decide) wF_X12_536 rfl rfl rfl ?_
      refine sv_iload (pc := 214) dX12_tries_214 rfl ?_
      refine sv_iconst (pc := 216) (v := 1) dX12_tries_216 (by decide) ?_
      refine sw_zastore (pc := 217) (k := 0) (v := .int 1) dX12_tries_217 rfl rfl rfl (by decide) (by decide) rfl (by decide) ?_
      refine sv_iload (pc := 218) dX12_tries_218 rfl ?_
      refine sv_ldc (pc := 220) dX12_tries_220 wG_X12_29 ?_
      refine sv_icmp_ne (pc := 222) (tgt := 234) dX12_tries_222 (by decide) (fun h => absurd (by decide) h) (fun _ => ?_)
      refine sv_aload_n (pc := 225) dX12_tries_225 rfl rfl ?_
      refine sw_getfield (pc := 226) dX12_tries_226 (gCX12 _ _ _ _ _) 123 (by decide) wF_X12_530 rfl rfl rfl ?_
      refine sv_iload (pc := 229) dX12_tries_229 rfl ?_
      refine sw_iaload (pc := 231) (k := 0) (v := .int 0) dX12_tries_231 rfl rfl rfl (by decide) (by decide) rfl rfl ?_
      refine sv_istore (pc := 232) dX12_tries_232 (by decide) ?_
      refine sw_iinc (pc := 234) (v := 1) dX12_tries_234 rfl (by decide) (by decide) ?_
      refine sv_goto (pc := 237) (tgt := 76) dX12_tries_237 (by decide) ?_
      refine sv_iload (pc := 76) dX12_tries_76 rfl ?_
      refine sv_iload_n (pc := 78) dX12_tries_78 rfl rfl ?_
      refine sv_icmp_ge (pc := 79) (tgt := 240) dX12_tries_79 (by decide) (fun _ => ?_) (fun h => absurd (by decide) h)
      refine sv_iload_n (pc := 240) dX12_tries_240 rfl rfl ?_
      refine sv_if_ne (pc := 241) (tgt := 246) dX12_tries_241 (by decide) (fun h => absurd (by decide) h) (fun _ => ?_)
      refine sv_iload_n (pc := 244) dX12_tries_244 rfl rfl ?_
      refine sv_iret (pc := 245) dX12_tries_245 rfl (le_t rfl) (le_t rfl) ?_
      refine sv_icmp_eq (pc := 1771) (tgt := 1799) dL_law_1771 (by decide) (fun _ => ?_) (fun h => absurd (by decide) h)
      exact kk _ _ _ (le_t rfl) (le_t rfl)
    by_cases q_4 : x1 = 1
    · subst q_4
      refine sw_iaload (pc := 26) (k := 1) (v := .int 1) dX11_tries_26 rfl rfl rfl (by decide) (by decide) rfl rfl ?_
      refine sv_iret (pc := 27) dX11_tries_27 rfl (le_t rfl) (le_t rfl) ?_
      refine sv_aload_n (pc := 1762) dL_law_1762 rfl rfl ?_
      refine sv_aload_nS (pc := 1763) dL_law_1763 rfl rfl ?_
      refine sv_iload_n (pc := 1764) dL_law_1764 rfl rfl ?_
      refine sv_iconst (pc := 1765) (v := 1) dL_law_1765 (by decide) ?_
      refine sw_iadd (pc := 1766) (v := 1) dL_law_1766 (by decide) ?_
      refine sw_sld (pc := 1767) (v := 1) dL_law_1767 (k := 1) (by decide) (by decide) rfl hx1 ?_
      refine sv_callV (pc := 1768) (M' := mX12_tries) (d' := 20) (C' := 0) (S' := 0) (av := [.int 1]) ?_ (gOk _ _ _ _ _) dL_law_1768 (tX12_tries _ _ _ _ _) ⟨wV_X12_tries, wL_X12_tries⟩ wM_DomainHouseLaw_210 (gCX12 _ _ _ _ _) rfl (lt_t rfl) rfl ⟨le_t rfl, le_t rfl⟩ ⟨le_t rfl, le_t rfl⟩ rfl (le_t rfl) (fun _ _ h => h)
      refine sC.of rfl (by decide) (le_t rfl) ?_
      refine sv_iload_n (pc := 0) dX12_tries_0 rfl rfl ?_
      refine sv_iconst (pc := 1) (v := 0) dX12_tries_1 (by decide) ?_
      refine sv_iconst (pc := 2) (v := 3) dX12_tries_2 (by decide) ?_
      refine sv_callS (pc := 3) (M' := mX12_in) (d' := 19) (C' := 0) (S' := 0) (av := [.int 1, .int 0, .int 3]) ?_ (gOk _ _ _ _ _) dX12_tries_3 (tX12_in _ _ _ _ _) wS_X12_in wM_X12_18 ⟨le_t rfl, le_t rfl⟩ ⟨le_t rfl, le_t rfl⟩ rfl (le_t rfl) (fun _ _ h => h)
      refine sC.of rfl (by decide) (le_t rfl) ?_
      refine sv_iload_n (pc := 0) dX12_in_0 rfl rfl ?_
      refine sv_iload_n (pc := 1) dX12_in_1 rfl rfl ?_
      refine sv_icmp_lt (pc := 2) (tgt := 14) dX12_in_2 (by decide) (fun h => absurd h (by decide)) (fun _ => ?_)
      refine sv_iload_n (pc := 5) dX12_in_5 rfl rfl ?_
      refine sv_iload_n (pc := 6) dX12_in_6 rfl rfl ?_
      refine sv_icmp_gt (pc := 7) (tgt := 14) dX12_in_7 (by decide) (fun h => absurd h (by decide)) (fun _ => ?_)
      refine sv_iconst (pc := 10) (v := 1) dX12_in_10 (by decide) ?_
      refine sv_goto (pc := 11) (tgt := 15) dX12_in_11 (by decide) ?_
      refine sv_zret (pc := 15) dX12_in_15 rfl (by decide) (le_t rfl) (le_t rfl) ?_
      refine sv_if_ne (pc := 6) (tgt := 11) dX12_tries_6 (by decide) (fun _ => ?_) (fun h => absurd h (by decide))
      refine sv_aload_n (pc := 11) dX12_tries_11 rfl rfl ?_
      refine sv_callV (pc := 12) (M' := mX12_states) (d' := 19) (C' := 0) (S' := 0) (av := []) ?_ (gOk _ _ _ _ _) dX12_tries_12 (tX12_states _ _ _ _ _) ⟨wV_X12_states, wL_X12_states⟩ wM_X12_728 (gCX12 _ _ _ _ _) rfl (lt_t rfl) rfl ⟨le_t rfl, le_t rfl⟩ ⟨le_t rfl, le_t rfl⟩ rfl (le_t rfl) (fun _ _ h => h)
      refine sC.of rfl (by decide) (le_t rfl) ?_
      refine sv_iconst (pc := 0) (v := 1) dX12_states_0 (by decide) ?_
      refine sv_istore_n (pc := 1) dX12_states_1 rfl (by decide) ?_
      refine sv_bipush (pc := 2) (v := 6) dX12_states_2 (by decide) ?_
      refine sv_istore_n (pc := 4) dX12_states_4 rfl (by decide) ?_
      refine sv_iload_n (pc := 5) dX12_states_5 rfl rfl ?_
      refine sv_iconst (pc := 6) (v := 1) dX12_states_6 (by decide) ?_
      refine sv_icmp_lt (pc := 7) (tgt := 34) dX12_states_7 (by decide) (fun h => absurd h (by decide)) (fun _ => ?_)
      refine sv_aload_n (pc := 10) dX12_states_10 rfl rfl ?_
      refine sw_getfield (pc := 11) dX12_states_11 (gCX12 _ _ _ _ _) 121 (by decide) wF_X12_523 rfl rfl rfl ?_
      refine sv_iload_n (pc := 14) dX12_states_14 rfl rfl ?_
      refine sv_iload_n (pc := 15) dX12_states_15 rfl rfl ?_
      refine sw_iastore (pc := 16) (k := 6) (v := .int 1) dX12_states_16 rfl rfl rfl (by decide) (by decide) rfl rfl ?_
      refine sv_iload_n (pc := 17) dX12_states_17 rfl rfl ?_
      refine sv_aload_n (pc := 18) dX12_states_18 rfl rfl ?_
      refine sw_getfield (pc := 19) dX12_states_19 (gCX12 _ _ _ _ _) 118 (by decide) wF_X12_514 rfl rfl rfl ?_
      refine sv_iload_n (pc := 22) dX12_states_22 rfl rfl ?_
      refine sw_iaload (pc := 23) (k := 6) (v := .int 0) dX12_states_23 rfl rfl rfl (by decide) (by decide) rfl rfl ?_
      refine sv_iconst (pc := 24) (v := 1) dX12_states_24 (by decide) ?_
      refine sw_iadd (pc := 25) (v := 1) dX12_states_25 (by decide) ?_
      refine sw_imul (pc := 26) (v := 1) dX12_states_26 (by decide) ?_
      refine sv_istore_n (pc := 27) dX12_states_27 rfl (by decide) ?_
      refine sw_iinc (pc := 28) (v := 5) dX12_states_28 rfl (by decide) (by decide) ?_
      refine sv_goto (pc := 31) (tgt := 5) dX12_states_31 (by decide) ?_
      refine sv_iload_n (pc := 5) dX12_states_5 rfl rfl ?_
      refine sv_iconst (pc := 6) (v := 1) dX12_states_6 (by decide) ?_
      refine sv_icmp_lt (pc := 7) (tgt := 34) dX12_states_7 (by decide) (fun h => absurd h (by decide)) (fun _ => ?_)
      refine sv_aload_n (pc := 10) dX12_states_10 rfl rfl ?_
      refine sw_getfield (pc := 11) dX12_states_11 (gCX12 _ _ _ _ _) 121 (by decide) wF_X12_523 rfl rfl rfl ?_
      refine sv_iload_n (pc := 14) dX12_states_14 rfl rfl ?_
      refine sv_iload_n (pc := 15) dX12_states_15 rfl rfl ?_
      refine sw_iastore (pc := 16) (k := 5) (v := .int 1) dX12_states_16 rfl rfl rfl (by decide) (by decide) rfl rfl ?_
      refine sv_iload_n (pc := 17) dX12_states_17 rfl rfl ?_
      refine sv_aload_n (pc := 18) dX12_states_18 rfl rfl ?_
      refine sw_getfield (pc := 19) dX12_states_19 (gCX12 _ _ _ _ _) 118 (by decide) wF_X12_514 rfl rfl rfl ?_
      refine sv_iload_n (pc := 22) dX12_states_22 rfl rfl ?_
      refine sw_iaload (pc := 23) (k := 5) (v := .int 0) dX12_states_23 rfl rfl rfl (by decide) (by decide) rfl rfl ?_
      refine sv_iconst (pc := 24) (v := 1) dX12_states_24 (by decide) ?_
      refine sw_iadd (pc := 25) (v := 1) dX12_states_25 (by decide) ?_
      refine sw_imul (pc := 26) (v := 1) dX12_states_26 (by decide) ?_
      refine sv_istore_n (pc := 27) dX12_states_27 rfl (by decide) ?_
      refine sw_iinc (pc := 28) (v := 4) dX12_states_28 rfl (by decide) (by decide) ?_
      refine sv_goto (pc := 31) (tgt := 5) dX12_states_31 (by decide) ?_
      refine sv_iload_n (pc := 5) dX12_states_5 rfl rfl ?_
      refine sv_iconst (pc := 6) (v := 1) dX12_states_6 (by decide) ?_
      refine sv_icmp_lt (pc := 7) (tgt := 34) dX12_states_7 (by decide) (fun h => absurd h (by decide)) (fun _ => ?_)
      refine sv_aload_n (pc := 10) dX12_states_10 rfl rfl ?_
      refine sw_getfield (pc := 11) dX12_states_11 (gCX12 _ _ _ _ _) 121 (by decide) wF_X12_523 rfl rfl rfl ?_
      refine sv_iload_n (pc := 14) dX12_states_14 rfl rfl ?_
      refine sv_iload_n (pc := 15) dX12_states_15 rfl rfl ?_
      refine sw_iastore (pc := 16) (k := 4) (v := .int 1) dX12_states_16 rfl rfl rfl (by decide) (by decide) rfl rfl ?_
      refine sv_iload_n (pc := 17) dX12_states_17 rfl rfl ?_
      refine sv_aload_n (pc := 18) dX12_states_18 rfl rfl ?_
      refine sw_getfield (pc := 19) dX12_states_19 (gCX12 _ _ _ _ _) 118 (by decide) wF_X12_514 rfl rfl rfl ?_
      refine sv_iload_n (pc := 22) dX12_states_22 rfl rfl ?_
      refine sw_iaload (pc := 23) (k := 4) (v := .int 0) dX12_states_23 rfl rfl rfl (by decide) (by decide) rfl rfl ?_
      refine sv_iconst (pc := 24) (v := 1) dX12_states_24 (by decide) ?_
      refine sw_iadd (pc := 25) (v := 1) dX12_states_25 (by decide) ?_
      refine sw_imul (pc := 26) (v := 1) dX12_states_26 (by decide) ?_
      refine sv_istore_n (pc := 27) dX12_states_27 rfl (by decide) ?_
      refine sw_iinc (pc := 28) (v := 3) dX12_states_28 rfl (by decide) (by decide) ?_
      refine sv_lvG (pc := 31) (lv' := [(0, .ref 106), (1, .int 1), (2, .int 3)]) (List.forall_mem_cons.mpr ⟨rfl, List.forall_mem_cons.mpr ⟨rfl, List.forall_mem_cons.mpr ⟨rfl, fun _ h => absurd h List.not_mem_nil⟩⟩⟩) ?_
      refine sv_goto (pc := 31) (tgt := 5) dX12_states_31 (by decide) ?_
      refine sv_iload_n (pc := 5) dX12_states_5 rfl rfl ?_
      refine sv_iconst (pc := 6) (v := 1) dX12_states_6 (by decide) ?_
      refine sv_icmp_lt (pc := 7) (tgt := 34) dX12_states_7 (by decide) (fun h => absurd h (by decide)) (fun _ => ?_)
      refine sv_aload_n (pc := 10) dX12_states_10 rfl rfl ?_
      refine sw_getfield (pc := 11) dX12_states_11 (gCX12 _ _ _ _ _) 121 (by decide) wF_X12_523 rfl rfl rfl ?_
      refine sv_iload_n (pc := 14) dX12_states_14 rfl rfl ?_
      refine sv_iload_n (pc := 15) dX12_states_15 rfl rfl ?_
      refine sw_iastore (pc := 16) (k := 3) (v := .int 1) dX12_states_16 rfl rfl rfl (by decide) (by decide) rfl rfl ?_
      refine sv_iload_n (pc := 17) dX12_states_17 rfl rfl ?_
      refine sv_aload_n (pc := 18) dX12_states_18 rfl rfl ?_
      refine sw_getfield (pc := 19) dX12_states_19 (gCX12 _ _ _ _ _) 118 (by decide) wF_X12_514 rfl rfl rfl ?_
      refine sv_iload_n (pc := 22) dX12_states_22 rfl rfl ?_
      refine sw_iaload (pc := 23) (k := 3) (v := .int 0) dX12_states_23 rfl rfl rfl (by decide) (by decide) rfl rfl ?_
      refine sv_iconst (pc := 24) (v := 1) dX12_states_24 (by decide) ?_
      refine sw_iadd (pc := 25) (v := 1) dX12_states_25 (by decide) ?_
      refine sw_imul (pc := 26) (v := 1) dX12_states_26 (by decide) ?_
      refine sv_istore_n (pc := 27) dX12_states_27 rfl (by decide) ?_
      refine sw_iinc (pc := 28) (v := 2) dX12_states_28 rfl (by decide) (by decide) ?_
      refine sv_goto (pc := 31) (tgt := 5) dX12_states_31 (by decide) ?_
      refine sv_iload_n (pc := 5) dX12_states_5 rfl rfl ?_
      refine sv_iconst (pc := 6) (v := 1) dX12_states_6 (by decide) ?_
      refine sv_icmp_lt (pc := 7) (tgt := 34) dX12_states_7 (by decide) (fun h => absurd h (by decide)) (fun _ => ?_)
      refine sv_aload_n (pc := 10) dX12_states_10 rfl rfl ?_
      refine sw_getfield (pc := 11) dX12_states_11 (gCX12 _ _ _ _ _) 121 (by decide) wF_X12_523 rfl rfl rfl ?_
      refine sv_iload_n (pc := 14) dX12_states_14 rfl rfl ?_
      refine sv_iload_n (pc := 15) dX12_states_15 rfl rfl ?_
      refine sw_iastore (pc := 16) (k := 2) (v := .int 1) dX12_states_16 rfl rfl rfl (by decide) (by decide) rfl rfl ?_
      refine sv_iload_n (pc := 17) dX12_states_17 rfl rfl ?_
      refine sv_aload_n (pc := 18) dX12_states_18 rfl rfl ?_
      refine sw_getfield (pc := 19) dX12_states_19 (gCX12 _ _ _ _ _) 118 (by decide) wF_X12_514 rfl rfl rfl ?_
      refine sv_iload_n (pc := 22) dX12_states_22 rfl rfl ?_
      refine sw_iaload (pc := 23) (k := 2) (v := .int 0) dX12_states_23 rfl rfl rfl (by decide) (by decide) rfl rfl ?_
      refine sv_iconst (pc := 24) (v := 1) dX12_states_24 (by decide) ?_
      refine sw_iadd (pc := 25) (v := 1) dX12_states_25 (by decide) ?_
      refine sw_imul (pc := 26) (v := 1) dX12_states_26 (by decide) ?_
      refine sv_istore_n (pc := 27) dX12_states_27 rfl (by decide) ?_
      refine sw_iinc (pc := 28) (v := 1) dX12_states_28 rfl (by decide) (by decide) ?_
      refine sv_goto (pc := 31) (tgt := 5) dX12_states_31 (by decide) ?_
      refine sv_iload_n (pc := 5) dX12_states_5 rfl rfl ?_
      refine sv_iconst (pc := 6) (v := 1) dX12_states_6 (by decide) ?_
      refine sv_icmp_lt (pc := 7) (tgt := 34) dX12_states_7 (by decide) (fun h => absurd h (by decide)) (fun _ => ?_)
      refine sv_aload_n (pc := 10) dX12_states_10 rfl rfl ?_
      refine sw_getfield (pc := 11) dX12_states_11 (gCX12 _ _ _ _ _) 121 (by decide) wF_X12_523 rfl rfl rfl ?_
      refine sv_iload_n (pc := 14) dX12_states_14 rfl rfl ?_
      refine sv_iload_n (pc := 15) dX12_states_15 rfl rfl ?_
      refine sw_iastore (pc := 16) (k := 1) (v := .int 1) dX12_states_16 rfl rfl rfl (by decide) (by decide) rfl rfl ?_
      refine sv_iload_n (pc := 17) dX12_states_17 rfl rfl ?_
      refine sv_aload_n (pc := 18) dX12_states_18 rfl rfl ?_
      refine sw_getfield (pc := 19) dX12_states_19 (gCX12 _ _ _ _ _) 118 (by decide) wF_X12_514 rfl rfl rfl ?_
      refine sv_iload_n (pc := 22) dX12_states_22 rfl rfl ?_
      refine sw_iaload (pc := 23) (k := 1) (v := .int 0) dX12_states_23 rfl rfl rfl (by decide) (by decide) rfl rfl ?_
      refine sv_iconst (pc := 24) (v := 1) dX12_states_24 (by decide) ?_
      refine sw_iadd (pc := 25) (v := 1) dX12_states_25 (by decide) ?_
      refine sw_imul (pc := 26) (v := 1) dX12_states_26 (by decide) ?_
      refine sv_istore_n (pc := 27) dX12_states_27 rfl (by decide) ?_
      refine sw_iinc (pc := 28) (v := 0) dX12_states_28 rfl (by decide) (by decide) ?_
      refine sv_goto (pc := 31) (tgt := 5) dX12_states_31 (by decide) ?_
      refine sv_iload_n (pc := 5) dX12_states_5 rfl rfl ?_
      refine sv_iconst (pc := 6) (v := 1) dX12_states_6 (by decide) ?_
      refine sv_icmp_lt (pc := 7) (tgt := 34) dX12_states_7 (by decide) (fun _ => ?_) (fun h => absurd (by decide) h)
      refine sv_iload_n (pc := 34) dX12_states_34 rfl rfl ?_
      refine sv_iret (pc := 35) dX12_states_35 rfl (le_t rfl) (le_t rfl) ?_
      refine sv_istore_n (pc := 15) dX12_tries_15 rfl (by decide) ?_
      refine sv_iconst (pc := 16) (v := 0) dX12_tries_16 (by decide) ?_
      refine sv_istore_n (pc := 17) dX12_tries_17 rfl (by decide) ?_
      refine sv_iload_n (pc := 18) dX12_tries_18 rfl rfl ?_
      refine sv_iload_n (pc := 19) dX12_tries_19 rfl rfl ?_
      refine sv_icmp_ge (pc := 20) (tgt := 43) dX12_tries_20 (by decide) (fun h => absurd h (by decide)) (fun _ => ?_)
      refine sv_aload_n (pc := 23) dX12_tries_23 rfl rfl ?_
      refine sw_getfield (pc := 24) dX12_tries_24 (gCX12 _ _ _ _ _) 123 (by decide) wF_X12_530 rfl rfl rfl ?_
      refine sv_iload_n (pc := 27) dX12_tries_27 rfl rfl ?_
      refine sv_iconst (pc := 28) (v := (-1)) dX12_tries_28 (by decide) ?_
      refine sw_iastore (pc := 29) (k := 0) (v := .int (-1)) dX12_tries_29 rfl rfl rfl (by decide) (by decide) rfl rfl ?_
      refine sv_aload_n (pc := 30) dX12_tries_30 rfl rfl ?_
      refine sw_getfield (pc := 31) dX12_tries_31 (gCX12 _ _ _ _ _) 125 (by decide) wF_X12_536 rfl rfl rfl ?_
      refine sv_iload_n (pc := 34) dX12_tries_34 rfl rfl ?_
      refine sv_iconst (pc := 35) (v := 0) dX12_tries_35 (by decide) ?_
      refine sw_zastore (pc := 36) (k := 0) (v := .int 0) dX12_tries_36 rfl rfl rfl (by decide) (by decide) rfl (by decide) ?_
      refine sw_iinc (pc := 37) (v := 1) dX12_tries_37 rfl (by decide) (by decide) ?_
      refine sv_goto (pc := 40) (tgt := 18) dX12_tries_40 (by decide) ?_
      refine sv_iload_n (pc := 18) dX12_tries_18 rfl rfl ?_
      refine sv_iload_n (pc := 19) dX12_tries_19 rfl rfl ?_
      refine sv_icmp_ge (pc := 20) (tgt := 43) dX12_tries_20 (by decide) (fun _ => ?_) (fun h => absurd (by decide) h)
      refine sv_iconst (pc := 43) (v := 0) dX12_tries_43 (by decide) ?_
      refine sv_istore_n (pc := 44) dX12_tries_44 rfl (by decide) ?_
      refine sv_aload_n (pc := 45) dX12_tries_45 rfl rfl ?_
      refine sw_getfield (pc := 46) dX12_tries_46 (gCX12 _ _ _ _ _) 124 (by decide) wF_X12_533 rfl rfl rfl ?_
      refine sv_iload_n (pc := 49) dX12_tries_49 rfl rfl ?_
      refine sv_iload_n (pc := 50) dX12_tries_50 rfl rfl ?_
      refine sv_iconst (pc := 51) (v := 1) dX12_tries_51 (by decide) ?_
      refine sw_isub (pc := 52) (v := 0) dX12_tries_52 (by decide) ?_
      refine sw_iastore (pc := 53) (k := 0) (v := .int 0) dX12_tries_53 rfl rfl rfl (by decide) (by decide) rfl rfl ?_
      refine sv_aload_n (pc := 54) dX12_tries_54 rfl rfl ?_
      refine sw_getfield (pc := 55) dX12_tries_55 (gCX12 _ _ _ _ _) 123 (by decide) wF_X12_530 rfl rfl rfl ?_
      refine sv_iload_n (pc := 58) dX12_tries_58 rfl rfl ?_
      refine sv_iconst (pc := 59) (v := 1) dX12_tries_59 (by decide) ?_
      refine sw_isub (pc := 60) (v := 0) dX12_tries_60 (by decide) ?_
      refine sv_iconst (pc := 61) (v := 0) dX12_tries_61 (by decide) ?_
      refine sw_iastore (pc := 62) (k := 0) (v := .int 0) dX12_tries_62 rfl rfl rfl (by decide) (by decide) rfl rfl ?_
      refine sw_iinc (pc := 63) (v := 1) dX12_tries_63 rfl (by decide) (by decide) ?_
      refine sv_iconst (pc := 66) (v := 0) dX12_tries_66 (by decide) ?_
      refine sv_istore (pc := 67) dX12_tries_67 (by decide) ?_
      refine sv_ldc (pc := 69) dX12_tries_69 wG_X12_29 ?_
      refine sv_istore (pc := 71) dX12_tries_71 (by decide) ?_
      refine sv_iconst (pc := 73) (v := 0) dX12_tries_73 (by decide) ?_
      refine sv_istore (pc := 74) dX12_tries_74 (by decide) ?_
      refine sv_lvG (pc := 76) (lv' := [(0, .ref 106), (1, .int 1), (2, .int 1), (3, .int 1), (4, .int 0), (5, .int (-99999999)), (6, .int 0)]) (List.forall_mem_cons.mpr ⟨rfl, List.forall_mem_cons.mpr ⟨rfl, List.forall_mem_cons.mpr ⟨rfl, List.forall_mem_cons.mpr ⟨rfl, List.forall_mem_cons.mpr ⟨rfl, List.forall_mem_cons.mpr ⟨rfl, List.forall_mem_cons.mpr ⟨rfl, fun _ h => absurd h List.not_mem_nil⟩⟩⟩⟩⟩⟩⟩) ?_
      refine sv_iload (pc := 76) dX12_tries_76 rfl ?_
      refine sv_iload_n (pc := 78) dX12_tries_78 rfl rfl ?_
      refine sv_icmp_ge (pc := 79) (tgt := 240) dX12_tries_79 (by decide) (fun h => absurd h (by decide)) (fun _ => ?_)
      refine sv_aload_n (pc := 82) dX12_tries_82 rfl rfl ?_
      refine sw_getfield (pc := 83) dX12_tries_83 (gCX12 _ _ _ _ _) 124 (by decide) wF_X12_533 rfl rfl rfl ?_
      refine sv_iload (pc := 86) dX12_tries_86 rfl ?_
      refine sw_iaload (pc := 88) (k := 0) (v := .int 0) dX12_tries_88 rfl rfl rfl (by decide) (by decide) rfl rfl ?_
      refine sv_istore (pc := 89) dX12_tries_89 (by decide) ?_
      refine sv_iconst (pc := 91) (v := 1) dX12_tries_91 (by decide) ?_
      refine sv_istore (pc := 92) dX12_tries_92 (by decide) ?_
      refine sv_aload_n (pc := 94) dX12_tries_94 rfl rfl ?_
      refine sv_iload (pc := 95) dX12_tries_95 rfl ?_
      refine sv_callV (pc := 97) (M' := mX12_open) (d' := 19) (C' := 0) (S' := 0) (av := [.int 0]) ?_ (gOk _ _ _ _ _) dX12_tries_97 (tX12_open _ _ _ _ _) ⟨wV_X12_open, wL_X12_open⟩ wM_X12_722 (gCX12 _ _ _ _ _) rfl (lt_t rfl) rfl ⟨le_t rfl, le_t rfl⟩ ⟨le_t rfl, le_t rfl⟩ rfl (le_t rfl) (fun _ _ h => h)
      refine sC.of rfl (by decide) (le_t rfl) ?_
      refine sv_iconst (pc := 0) (v := 1) dX12_open_0 (by decide) ?_
      refine sv_istore_n (pc := 1) dX12_open_1 rfl (by decide) ?_
      refine sv_iload_n (pc := 2) dX12_open_2 rfl rfl ?_
      refine sv_bipush (pc := 3) (v := 6) dX12_open_3 (by decide) ?_
      refine sv_icmp_gt (pc := 5) (tgt := 37) dX12_open_5 (by decide) (fun h => absurd h (by decide)) (fun _ => ?_)
      refine sv_aload_n (pc := 8) dX12_open_8 rfl rfl ?_
      refine sw_getfield (pc := 9) dX12_open_9 (gCX12 _ _ _ _ _) 122 (by decide) wF_X12_526 rfl rfl rfl ?_
      refine sv_iload_n (pc := 12) dX12_open_12 rfl rfl ?_
      refine sv_iload_n (pc := 13) dX12_open_13 rfl rfl ?_
      refine sv_aload_n (pc := 14) dX12_open_14 rfl rfl ?_
      refine sw_getfield (pc := 15) dX12_open_15 (gCX12 _ _ _ _ _) 121 (by decide) wF_X12_523 rfl rfl rfl ?_
      refine sv_iload_n (pc := 18) dX12_open_18 rfl rfl ?_
      refine sw_iaload (pc := 19) (k := 1) (v := .int 1) dX12_open_19 rfl rfl rfl (by decide) (by decide) rfl rfl ?_
      refine sw_idiv (pc := 20) (v := 0) dX12_open_20 (by decide) (by decide) ?_
      refine sv_aload_n (pc := 21) dX12_open_21 rfl rfl ?_
      refine sw_getfield (pc := 22) dX12_open_22 (gCX12 _ _ _ _ _) 118 (by decide) wF_X12_514 rfl rfl rfl ?_
      refine sv_iload_n (pc := 25) dX12_open_25 rfl rfl ?_
      refine sw_iaload (pc := 26) (k := 1) (v := .int 0) dX12_open_26 rfl rfl rfl (by decide) (by decide) rfl rfl ?_
      refine sv_iconst (pc := 27) (v := 1) dX12_open_27 (by decide) ?_
      refine sw_iadd (pc := 28) (v := 1) dX12_open_28 (by decide) ?_
      refine sw_irem (pc := 29) (v := 0) dX12_open_29 (by decide) (by decide) ?_
      refine sw_iastore (pc := 30) (k := 1) (v := .int 0) dX12_open_30 rfl rfl rfl (by decide) (by decide) rfl rfl ?_
      refine sw_iinc (pc := 31) (v := 2) dX12_open_31 rfl (by decide) (by decide) ?_
      refine sv_goto (pc := 34) (tgt := 2) dX12_open_34 (by decide) ?_
      refine sv_iload_n (pc := 2) dX12_open_2 rfl rfl ?_
      refine sv_bipush (pc := 3) (v := 6) dX12_open_3 (by decide) ?_
      refine sv_icmp_gt (pc := 5) (tgt := 37) dX12_open_5 (by decide) (fun h => absurd h (by decide)) (fun _ => ?_)
      refine sv_aload_n (pc := 8) dX12_open_8 rfl rfl ?_
      refine sw_getfield (pc := 9) dX12_open_9 (gCX12 _ _ _ _ _) 122 (by decide) wF_X12_526 rfl rfl rfl ?_
      refine sv_iload_n (pc := 12) dX12_open_12 rfl rfl ?_
      refine sv_iload_n (pc := 13) dX12_open_13 rfl rfl ?_
      refine sv_aload_n (pc := 14) dX12_open_14 rfl rfl ?_
      refine sw_getfield (pc := 15) dX12_open_15 (gCX12 _ _ _ _ _) 121 (by decide) wF_X12_523 rfl rfl rfl ?_
      refine sv_iload_n (pc := 18) dX12_open_18 rfl rfl ?_
      refine sw_iaload (pc := 19) (k := 2) (v := .int 1) dX12_open_19 rfl rfl rfl (by decide) (by decide) rfl rfl ?_
      refine sw_idiv (pc := 20) (v := 0) dX12_open_20 (by decide) (by decide) ?_
      refine sv_aload_n (pc := 21) dX12_open_21 rfl rfl ?_
      refine sw_getfield (pc := 22) dX12_open_22 (gCX12 _ _ _ _ _) 118 (by decide) wF_X12_514 rfl rfl rfl ?_
      refine sv_iload_n (pc := 25) dX12_open_25 rfl rfl ?_
      refine sw_iaload (pc := 26) (k := 2) (v := .int 0) dX12_open_26 rfl rfl rfl (by decide) (by decide) rfl rfl ?_
      refine sv_iconst (pc := 27) (v := 1) dX12_open_27 (by decide) ?_
      refine sw_iadd (pc := 28) (v := 1) dX12_open_28 (by decide) ?_
      refine sw_irem (pc := 29) (v := 0) dX12_open_29 (by decide) (by decide) ?_
      refine sw_iastore (pc := 30) (k := 2) (v := .int 0) dX12_open_30 rfl rfl rfl (by decide) (by decide) rfl rfl ?_
      refine sw_iinc (pc := 31) (v := 3) dX12_open_31 rfl (by decide) (by decide) ?_
      refine sv_goto (pc := 34) (tgt := 2) dX12_open_34 (by decide) ?_
      refine sv_iload_n (pc := 2) dX12_open_2 rfl rfl ?_
      refine sv_bipush (pc := 3) (v := 6) dX12_open_3 (by decide) ?_
      refine sv_icmp_gt (pc := 5) (tgt := 37) dX12_open_5 (by decide) (fun h => absurd h (by decide)) (fun _ => ?_)
      refine sv_aload_n (pc := 8) dX12_open_8 rfl rfl ?_
      refine sw_getfield (pc := 9) dX12_open_9 (gCX12 _ _ _ _ _) 122 (by decide) wF_X12_526 rfl rfl rfl ?_
      refine sv_iload_n (pc := 12) dX12_open_12 rfl rfl ?_
      refine sv_iload_n (pc := 13) dX12_open_13 rfl rfl ?_
      refine sv_aload_n (pc := 14) dX12_open_14 rfl rfl ?_
      refine sw_getfield (pc := 15) dX12_open_15 (gCX12 _ _ _ _ _) 121 (by decide) wF_X12_523 rfl rfl rfl ?_
      refine sv_iload_n (pc := 18) dX12_open_18 rfl rfl ?_
      refine sw_iaload (pc := 19) (k := 3) (v := .int 1) dX12_open_19 rfl rfl rfl (by decide) (by decide) rfl rfl ?_
      refine sw_idiv (pc := 20) (v := 0) dX12_open_20 (by decide) (by decide) ?_
      refine sv_aload_n (pc := 21) dX12_open_21 rfl rfl ?_
      refine sw_getfield (pc := 22) dX12_open_22 (gCX12 _ _ _ _ _) 118 (by decide) wF_X12_514 rfl rfl rfl ?_
      refine sv_iload_n (pc := 25) dX12_open_25 rfl rfl ?_
      refine sw_iaload (pc := 26) (k := 3) (v := .int 0) dX12_open_26 rfl rfl rfl (by decide) (by decide) rfl rfl ?_
      refine sv_iconst (pc := 27) (v := 1) dX12_open_27 (by decide) ?_
      refine sw_iadd (pc := 28) (v := 1) dX12_open_28 (by decide) ?_
      refine sw_irem (pc := 29) (v := 0) dX12_open_29 (by decide) (by decide) ?_
      refine sw_iastore (pc := 30) (k := 3) (v := .int 0) dX12_open_30 rfl rfl rfl (by decide) (by decide) rfl rfl ?_
      refine sw_iinc (pc := 31) (v := 4) dX12_open_31 rfl (by decide) (by decide) ?_
      refine sv_goto (pc := 34) (tgt := 2) dX12_open_34 (by decide) ?_
      refine sv_iload_n (pc := 2) dX12_open_2 rfl rfl ?_
      refine sv_bipush (pc := 3) (v := 6) dX12_open_3 (by decide) ?_
      refine sv_icmp_gt (pc := 5) (tgt := 37) dX12_open_5 (by decide) (fun h => absurd h (by decide)) (fun _ => ?_)
      refine sv_aload_n (pc := 8) dX12_open_8 rfl rfl ?_
      refine sw_getfield (pc := 9) dX12_open_9 (gCX12 _ _ _ _ _) 122 (by decide) wF_X12_526 rfl rfl rfl ?_
      refine sv_iload_n (pc := 12) dX12_open_12 rfl rfl ?_
      refine sv_iload_n (pc := 13) dX12_open_13 rfl rfl ?_
      refine sv_aload_n (pc := 14) dX12_open_14 rfl rfl ?_
      refine sw_getfield (pc := 15) dX12_open_15 (gCX12 _ _ _ _ _) 121 (by decide) wF_X12_523 rfl rfl rfl ?_
      refine sv_iload_n (pc := 18) dX12_open_18 rfl rfl ?_
      refine sw_iaload (pc := 19) (k := 4) (v := .int 1) dX12_open_19 rfl rfl rfl (by decide) (by decide) rfl rfl ?_
      refine sw_idiv (pc := 20) (v := 0) dX12_open_20 (by decide) (by decide) ?_
      refine sv_aload_n (pc := 21) dX12_open_21 rfl rfl ?_
      refine sw_getfield (pc := 22) dX12_open_22 (gCX12 _ _ _ _ _) 118 (by decide) wF_X12_514 rfl rfl rfl ?_
      refine sv_iload_n (pc := 25) dX12_open_25 rfl rfl ?_
      refine sw_iaload (pc := 26) (k := 4) (v := .int 0) dX12_open_26 rfl rfl rfl (by decide) (by decide) rfl rfl ?_
      refine sv_iconst (pc := 27) (v := 1) dX12_open_27 (by decide) ?_
      refine sw_iadd (pc := 28) (v := 1) dX12_open_28 (by decide) ?_
      refine sw_irem (pc := 29) (v := 0) dX12_open_29 (by decide) (by decide) ?_
      refine sw_iastore (pc := 30) (k := 4) (v := .int 0) dX12_open_30 rfl rfl rfl (by decide) (by decide) rfl rfl ?_
      refine sw_iinc (pc := 31) (v := 5) dX12_open_31 rfl (by decide) (by decide) ?_
      refine sv_goto (pc := 34) (tgt := 2) dX12_open_34 (by decide) ?_
      refine sv_iload_n (pc := 2) dX12_open_2 rfl rfl ?_
      refine sv_bipush (pc := 3) (v := 6) dX12_open_3 (by decide) ?_
      refine sv_icmp_gt (pc := 5) (tgt := 37) dX12_open_5 (by decide) (fun h => absurd h (by decide)) (fun _ => ?_)
      refine sv_aload_n (pc := 8) dX12_open_8 rfl rfl ?_
      refine sw_getfield (pc := 9) dX12_open_9 (gCX12 _ _ _ _ _) 122 (by decide) wF_X12_526 rfl rfl rfl ?_
      refine sv_iload_n (pc := 12) dX12_open_12 rfl rfl ?_
      refine sv_iload_n (pc := 13) dX12_open_13 rfl rfl ?_
      refine sv_aload_n (pc := 14) dX12_open_14 rfl rfl ?_
      refine sw_getfield (pc := 15) dX12_open_15 (gCX12 _ _ _ _ _) 121 (by decide) wF_X12_523 rfl rfl rfl ?_
      refine sv_iload_n (pc := 18) dX12_open_18 rfl rfl ?_
      refine sw_iaload (pc := 19) (k := 5) (v := .int 1) dX12_open_19 rfl rfl rfl (by decide) (by decide) rfl rfl ?_
      refine sw_idiv (pc := 20) (v := 0) dX12_open_20 (by decide) (by decide) ?_
      refine sv_aload_n (pc := 21) dX12_open_21 rfl rfl ?_
      refine sw_getfield (pc := 22) dX12_open_22 (gCX12 _ _ _ _ _) 118 (by decide) wF_X12_514 rfl rfl rfl ?_
      refine sv_iload_n (pc := 25) dX12_open_25 rfl rfl ?_
      refine sw_iaload (pc := 26) (k := 5) (v := .int 0) dX12_open_26 rfl rfl rfl (by decide) (by decide) rfl rfl ?_
      refine sv_iconst (pc := 27) (v := 1) dX12_open_27 (by decide) ?_
      refine sw_iadd (pc := 28) (v := 1) dX12_open_28 (by decide) ?_
      refine sw_irem (pc := 29) (v := 0) dX12_open_29 (by decide) (by decide) ?_
      refine sw_iastore (pc := 30) (k := 5) (v := .int 0) dX12_open_30 rfl rfl rfl (by decide) (by decide) rfl rfl ?_
      refine sw_iinc (pc := 31) (v := 6) dX12_open_31 rfl (by decide) (by decide) ?_
      refine sv_goto (pc := 34) (tgt := 2) dX12_open_34 (by decide) ?_
      refine sv_iload_n (pc := 2) dX12_open_2 rfl rfl ?_
      refine sv_bipush (pc := 3) (v := 6) dX12_open_3 (by decide) ?_
      refine sv_icmp_gt (pc := 5) (tgt := 37) dX12_open_5 (by decide) (fun h => absurd h (by decide)) (fun _ => ?_)
      refine sv_aload_n (pc := 8) dX12_open_8 rfl rfl ?_
      refine sw_getfield (pc := 9) dX12_open_9 (gCX12 _ _ _ _ _) 122 (by decide) wF_X12_526 rfl rfl rfl ?_
      refine sv_iload_n (pc := 12) dX12_open_12 rfl rfl ?_
      refine sv_iload_n (pc := 13) dX12_open_13 rfl rfl ?_
      refine sv_aload_n (pc := 14) dX12_open_14 rfl rfl ?_
      refine sw_getfield (pc := 15) dX12_open_15 (gCX12 _ _ _ _ _) 121 (by decide) wF_X12_523 rfl rfl rfl ?_
      refine sv_iload_n (pc := 18) dX12_open_18 rfl rfl ?_
      refine sw_iaload (pc := 19) (k := 6) (v := .int 1) dX12_open_19 rfl rfl rfl (by decide) (by decide) rfl rfl ?_
      refine sw_idiv (pc := 20) (v := 0) dX12_open_20 (by decide) (by decide) ?_
      refine sv_aload_n (pc := 21) dX12_open_21 rfl rfl ?_
      refine sw_getfield (pc := 22) dX12_open_22 (gCX12 _ _ _ _ _) 118 (by decide) wF_X12_514 rfl rfl rfl ?_
      refine sv_iload_n (pc := 25) dX12_open_25 rfl rfl ?_
      refine sw_iaload (pc := 26) (k := 6) (v := .int 0) dX12_open_26 rfl rfl rfl (by decide) (by decide) rfl rfl ?_
      refine sv_iconst (pc := 27) (v := 1) dX12_open_27 (by decide) ?_
      refine sw_iadd (pc := 28) (v := 1) dX12_open_28 (by decide) ?_
      refine sw_irem (pc := 29) (v := 0) dX12_open_29 (by decide) (by decide) ?_
      refine sw_iastore (pc := 30) (k := 6) (v := .int 0) dX12_open_30 rfl rfl rfl (by decide) (by decide) rfl rfl ?_
      refine sw_iinc (pc := 31) (v := 7) dX12_open_31 rfl (by decide) (by decide) ?_
      refine sv_goto (pc := 34) (tgt := 2) dX12_open_34 (by decide) ?_
      refine sv_iload_n (pc := 2) dX12_open_2 rfl rfl ?_
      refine sv_bipush (pc := 3) (v := 6) dX12_open_3 (by decide) ?_
      refine sv_icmp_gt (pc := 5) (tgt := 37) dX12_open_5 (by decide) (fun _ => ?_) (fun h => absurd (by decide) h)
      refine sv_vret (pc := 37) dX12_open_37 rfl (le_t rfl) (le_t rfl) ?_
      refine sv_iconst (pc := 100) (v := 1) dX12_tries_100 (by decide) ?_
      refine sv_istore (pc := 101) dX12_tries_101 (by decide) ?_
      refine sv_iload (pc := 103) dX12_tries_103 rfl ?_
      refine sv_bipush (pc := 105) (v := 6) dX12_tries_105 (by decide) ?_
      refine sv_icmp_gt (pc := 107) (tgt := 202) dX12_tries_107 (by decide) (fun h => absurd h (by decide)) (fun _ => ?_)
      refine sv_aload_n (pc := 110) dX12_tries_110 rfl rfl ?_
      refine sv_iload (pc := 111) dX12_tries_111 rfl ?_
      refine sv_callV (pc := 113) (M' := mX12_acted) (d' := 19) (C' := 0) (S' := 0) (av := [.int 1]) ?_ (gOk _ _ _ _ _) dX12_tries_113 (tX12_acted _ _ _ _ _) ⟨wV_X12_acted, wL_X12_acted⟩ wM_X12_725 (gCX12 _ _ _ _ _) rfl (lt_t rfl) rfl ⟨le_t rfl, le_t rfl⟩ ⟨le_t rfl, le_t rfl⟩ rfl (le_t rfl) (fun _ _ h => h)
      refine sC.of rfl (by decide) (le_t rfl) ?_
      refine sv_iconst (pc := 0) (v := 0) dX12_acted_0 (by decide) ?_
      refine sv_istore_n (pc := 1) dX12_acted_1 rfl (by decide) ?_
      refine sv_iload_n (pc := 2) dX12_acted_2 rfl rfl ?_
      refine sv_aload_n (pc := 3) dX12_acted_3 rfl rfl ?_
      refine sw_getfield (pc := 4) dX12_acted_4 (gCX12 _ _ _ _ _) 118 (by decide) wF_X12_514 rfl rfl rfl ?_
      refine sv_iload_n (pc := 7) dX12_acted_7 rfl rfl ?_
      refine sw_iaload (pc := 8) (k := 1) (v := .int 0) dX12_acted_8 rfl rfl rfl (by decide) (by decide) rfl rfl ?_
      refine sv_icmp_ge (pc := 9) (tgt := 32) dX12_acted_9 (by decide) (fun _ => ?_) (fun h => absurd (by decide) h)
      refine sv_aload_n (pc := 32) dX12_acted_32 rfl rfl ?_
      refine sw_getfield (pc := 33) dX12_acted_33 (gCX12 _ _ _ _ _) 118 (by decide) wF_X12_514 rfl rfl rfl ?_
      refine sv_iload_n (pc := 36) dX12_acted_36 rfl rfl ?_
      refine sw_iaload (pc := 37) (k := 1) (v := .int 0) dX12_acted_37 rfl rfl rfl (by decide) (by decide) rfl rfl ?_
      refine sv_iret (pc := 38) dX12_acted_38 rfl (le_t rfl) (le_t rfl) ?_
      refine sv_istore (pc := 116) dX12_tries_116 (by decide) ?_
      refine sv_iload (pc := 118) dX12_tries_118 rfl ?_
      refine sv_aload_n (pc := 120) dX12_tries_120 rfl rfl ?_
      refine sw_getfield (pc := 121) dX12_tries_121 (gCX12 _ _ _ _ _) 122 (by decide) wF_X12_526 rfl rfl rfl ?_
      refine sv_iload (pc := 124) dX12_tries_124 rfl ?_
      refine sw_iaload (pc := 126) (k := 1) (v := .int 0) dX12_tries_126 rfl rfl rfl (by decide) (by decide) rfl rfl ?_
      refine sv_icmp_ne (pc := 127) (tgt := 133) dX12_tries_127 (by decide) (fun h => absurd (by decide) h) (fun _ => ?_)
      refine sv_goto (pc := 130) (tgt := 196) dX12_tries_130 (by decide) ?_
      refine sw_iinc (pc := 196) (v := 2) dX12_tries_196 rfl (by decide) (by decide) ?_
      refine sv_goto (pc := 199) (tgt := 103) dX12_tries_199 (by decide) ?_
      refine sv_iload (pc := 103) dX12_tries_103 rfl ?_
      refine sv_bipush (pc := 105) (v := 6) dX12_tries_105 (by decide) ?_
      refine sv_icmp_gt (pc := 107) (tgt := 202) dX12_tries_107 (by decide) (fun h => absurd h (by decide)) (fun _ => ?_)
      refine sv_aload_n (pc := 110) dX12_tries_110 rfl rfl ?_
      refine sv_iload (pc := 111) dX12_tries_111 rfl ?_
      refine sv_callV (pc := 113) (M' := mX12_acted) (d' := 19) (C' := 0) (S' := 0) (av := [.int 2]) ?_ (gOk _ _ _ _ _) dX12_tries_113 (tX12_acted _ _ _ _ _) ⟨wV_X12_acted, wL_X12_acted⟩ wM_X12_725 (gCX12 _ _ _ _ _) rfl (lt_t rfl) rfl ⟨le_t rfl, le_t rfl⟩ ⟨le_t rfl, le_t rfl⟩ rfl (le_t rfl) (fun _ _ h => h)
      refine sC.of rfl (by decide) (le_t rfl) ?_
      refine sv_iconst (pc := 0) (v := 0) dX12_acted_0 (by decide) ?_
      refine sv_istore_n (pc := 1) dX12_acted_1 rfl (by decide) ?_
      refine sv_iload_n (pc := 2) dX12_acted_2 rfl rfl ?_
      refine sv_aload_n (pc := 3) dX12_acted_3 rfl rfl ?_
      refine sw_getfield (pc := 4) dX12_acted_4 (gCX12 _ _ _ _ _) 118 (by decide) wF_X12_514 rfl rfl rfl ?_
      refine sv_iload_n (pc := 7) dX12_acted_7 rfl rfl ?_
      refine sw_iaload (pc := 8) (k := 2) (v := .int 0) dX12_acted_8 rfl rfl rfl (by decide) (by decide) rfl rfl ?_
      refine sv_icmp_ge (pc := 9) (tgt := 32) dX12_acted_9 (by decide) (fun _ => ?_) (fun h => absurd (by decide) h)
      refine sv_aload_n (pc := 32) dX12_acted_32 rfl rfl ?_
      refine sw_getfield (pc := 33) dX12_acted_33 (gCX12 _ _ _ _ _) 118 (by decide) wF_X12_514 rfl rfl rfl ?_
      refine sv_iload_n (pc := 36) dX12_acted_36 rfl rfl ?_
      refine sw_iaload (pc := 37) (k := 2) (v := .int 0) dX12_acted_37 rfl rfl rfl (by decide) (by decide) rfl rfl ?_
      refine sv_iret (pc := 38) dX12_acted_38 rfl (le_t rfl) (le_t rfl) ?_
      refine sv_istore (pc := 116) dX12_tries_116 (by decide) ?_
      refine sv_iload (pc := 118) dX12_tries_118 rfl ?_
      refine sv_aload_n (pc := 120) dX12_tries_120 rfl rfl ?_
      refine sw_getfield (pc := 121) dX12_tries_121 (gCX12 _ _ _ _ _) 122 (by decide) wF_X12_526 rfl rfl rfl ?_
      refine sv_iload (pc := 124) dX12_tries_124 rfl ?_
      refine sw_iaload (pc := 126) (k := 2) (v := .int 0) dX12_tries_126 rfl rfl rfl (by decide) (by decide) rfl rfl ?_
      refine sv_icmp_ne (pc := 127) (tgt := 133) dX12_tries_127 (by decide) (fun h => absurd (by decide) h) (fun _ => ?_)
      refine sv_goto (pc := 130) (tgt := 196) dX12_tries_130 (by decide) ?_
      refine sw_iinc (pc := 196) (v := 3) dX12_tries_196 rfl (by decide) (by decide) ?_
      refine sv_goto (pc := 199) (tgt := 103) dX12_tries_199 (by decide) ?_
      refine sv_iload (pc := 103) dX12_tries_103 rfl ?_
      refine sv_bipush (pc := 105) (v := 6) dX12_tries_105 (by decide) ?_
      refine sv_icmp_gt (pc := 107) (tgt := 202) dX12_tries_107 (by decide) (fun h => absurd h (by decide)) (fun _ => ?_)
      refine sv_aload_n (pc := 110) dX12_tries_110 rfl rfl ?_
      refine sv_iload (pc := 111) dX12_tries_111 rfl ?_
      refine sv_callV (pc := 113) (M' := mX12_acted) (d' := 19) (C' := 0) (S' := 0) (av := [.int 3]) ?_ (gOk _ _ _ _ _) dX12_tries_113 (tX12_acted _ _ _ _ _) ⟨wV_X12_acted, wL_X12_acted⟩ wM_X12_725 (gCX12 _ _ _ _ _) rfl (lt_t rfl) rfl ⟨le_t rfl, le_t rfl⟩ ⟨le_t rfl, le_t rfl⟩ rfl (le_t rfl) (fun _ _ h => h)
      refine sC.of rfl (by decide) (le_t rfl) ?_
      refine sv_iconst (pc := 0) (v := 0) dX12_acted_0 (by decide) ?_
      refine sv_istore_n (pc := 1) dX12_acted_1 rfl (by decide) ?_
      refine sv_iload_n (pc := 2) dX12_acted_2 rfl rfl ?_
      refine sv_aload_n (pc := 3) dX12_acted_3 rfl rfl ?_
      refine sw_getfield (pc := 4) dX12_acted_4 (gCX12 _ _ _ _ _) 118 (by decide) wF_X12_514 rfl rfl rfl ?_
      refine sv_iload_n (pc := 7) dX12_acted_7 rfl rfl ?_
      refine sw_iaload (pc := 8) (k := 3) (v := .int 0) dX12_acted_8 rfl rfl rfl (by decide) (by decide) rfl rfl ?_
      refine sv_icmp_ge (pc := 9) (tgt := 32) dX12_acted_9 (by decide) (fun _ => ?_) (fun h => absurd (by decide) h)
      refine sv_aload_n (pc := 32) dX12_acted_32 rfl rfl ?_
      refine sw_getfield (pc := 33) dX12_acted_33 (gCX12 _ _ _ _ _) 118 (by decide) wF_X12_514 rfl rfl rfl ?_
      refine sv_iload_n (pc := 36) dX12_acted_36 rfl rfl ?_
      refine sw_iaload (pc := 37) (k := 3) (v := .int 0) dX12_acted_37 rfl rfl rfl (by decide) (by decide) rfl rfl ?_
      refine sv_iret (pc := 38) dX12_acted_38 rfl (le_t rfl) (le_t rfl) ?_
      refine sv_istore (pc := 116) dX12_tries_116 (by decide) ?_
      refine sv_lvG (pc := 118) (lv' := [(0, .ref 106), (1, .int 1), (2, .int 1), (3, .int 1), (4, .int 0), (5, .int (-99999999)), (6, .int 0), (7, .int 0), (8, .int 1), (9, .int 3), (10, .int 0)]) (List.forall_mem_cons.mpr ⟨rfl, List.forall_mem_cons.mpr ⟨rfl, List.forall_mem_cons.mpr ⟨rfl, List.forall_mem_cons.mpr ⟨rfl, List.forall_mem_cons.mpr ⟨rfl, List.forall_mem_cons.mpr ⟨rfl, List.forall_mem_cons.mpr ⟨rfl, List.forall_mem_cons.mpr ⟨rfl, List.forall_mem_cons.mpr ⟨rfl, List.forall_mem_cons.mpr ⟨rfl, List.forall_mem_cons.mpr ⟨rfl, fun _ h => absurd h List.not_mem_nil⟩⟩⟩⟩⟩⟩⟩⟩⟩⟩⟩) ?_
      refine sv_iload (pc := 118) dX12_tries_118 rfl ?_
      refine sv_aload_n (pc := 120) dX12_tries_120 rfl rfl ?_
      refine sw_getfield (pc := 121) dX12_tries_121 (gCX12 _ _ _ _ _) 122 (by decide) wF_X12_526 rfl rfl rfl ?_
      refine sv_iload (pc := 124) dX12_tries_124 rfl ?_
      refine sw_iaload (pc := 126) (k := 3) (v := .int 0) dX12_tries_126 rfl rfl rfl (by decide) (by decide) rfl rfl ?_
      refine sv_icmp_ne (pc := 127) (tgt := 133) dX12_tries_127 (by decide) (fun h => absurd (by decide) h) (fun _ => ?_)
      refine sv_goto (pc := 130) (tgt := 196) dX12_tries_130 (by decide) ?_
      refine sw_iinc (pc := 196) (v := 4) dX12_tries_196 rfl (by decide) (by decide) ?_
      refine sv_goto (pc := 199) (tgt := 103) dX12_tries_199 (by decide) ?_
      refine sv_iload (pc := 103) dX12_tries_103 rfl ?_
      refine sv_bipush (pc := 105) (v := 6) dX12_tries_105 (by decide) ?_
      refine sv_icmp_gt (pc := 107) (tgt := 202) dX12_tries_107 (by decide) (fun h => absurd h (by decide)) (fun _ => ?_)
      refine sv_aload_n (pc := 110) dX12_tries_110 rfl rfl ?_
      refine sv_iload (pc := 111) dX12_tries_111 rfl ?_
      refine sv_callV (pc := 113) (M' := mX12_acted) (d' := 19) (C' := 0) (S' := 0) (av := [.int 4]) ?_ (gOk _ _ _ _ _) dX12_tries_113 (tX12_acted _ _ _ _ _) ⟨wV_X12_acted, wL_X12_acted⟩ wM_X12_725 (gCX12 _ _ _ _ _) rfl (lt_t rfl) rfl ⟨le_t rfl, le_t rfl⟩ ⟨le_t rfl, le_t rfl⟩ rfl (le_t rfl) (fun _ _ h => h)
      refine sC.of rfl (by decide) (le_t rfl) ?_
      refine sv_iconst (pc := 0) (v := 0) dX12_acted_0 (by decide) ?_
      refine sv_istore_n (pc := 1) dX12_acted_1 rfl (by decide) ?_
      refine sv_iload_n (pc := 2) dX12_acted_2 rfl rfl ?_
      refine sv_aload_n (pc := 3) dX12_acted_3 rfl rfl ?_
      refine sw_getfield (pc := 4) dX12_acted_4 (gCX12 _ _ _ _ _) 118 (by decide) wF_X12_514 rfl rfl rfl ?_
      refine sv_iload_n (pc := 7) dX12_acted_7 rfl rfl ?_
      refine sw_iaload (pc := 8) (k := 4) (v := .int 0) dX12_acted_8 rfl rfl rfl (by decide) (by decide) rfl rfl ?_
      refine sv_icmp_ge (pc := 9) (tgt := 32) dX12_acted_9 (by decide) (fun _ => ?_) (fun h => absurd (by decide) h)
      refine sv_aload_n (pc := 32) dX12_acted_32 rfl rfl ?_
      refine sw_getfield (pc := 33) dX12_acted_33 (gCX12 _ _ _ _ _) 118 (by decide) wF_X12_514 rfl rfl rfl ?_
      refine sv_iload_n (pc := 36) dX12_acted_36 rfl rfl ?_
      refine sw_iaload (pc := 37) (k := 4) (v := .int 0) dX12_acted_37 rfl rfl rfl (by decide) (by decide) rfl rfl ?_
      refine sv_iret (pc := 38) dX12_acted_38 rfl (le_t rfl) (le_t rfl) ?_
      refine sv_istore (pc := 116) dX12_tries_116 (by decide) ?_
      refine sv_iload (pc := 118) dX12_tries_118 rfl ?_
      refine sv_aload_n (pc := 120) dX12_tries_120 rfl rfl ?_
      refine sw_getfield (pc := 121) dX12_tries_121 (gCX12 _ _ _ _ _) 122 (by decide) wF_X12_526 rfl rfl rfl ?_
      refine sv_iload (pc := 124) dX12_tries_124 rfl ?_
      refine sw_iaload (pc := 126) (k := 4) (v := .int 0) dX12_tries_126 rfl rfl rfl (by decide) (by decide) rfl rfl ?_
      refine sv_icmp_ne (pc := 127) (tgt := 133) dX12_tries_127 (by decide) (fun h => absurd (by decide) h) (fun _ => ?_)
      refine sv_goto (pc := 130) (tgt := 196) dX12_tries_130 (by decide) ?_
      refine sw_iinc (pc := 196) (v := 5) dX12_tries_196 rfl (by decide) (by decide) ?_
      refine sv_goto (pc := 199) (tgt := 103) dX12_tries_199 (by decide) ?_
      refine sv_iload (pc := 103) dX12_tries_103 rfl ?_
      refine sv_bipush (pc := 105) (v := 6) dX12_tries_105 (by decide) ?_
      refine sv_icmp_gt (pc := 107) (tgt := 202) dX12_tries_107 (by decide) (fun h => absurd h (by decide)) (fun _ => ?_)
      refine sv_aload_n (pc := 110) dX12_tries_110 rfl rfl ?_
      refine sv_iload (pc := 111) dX12_tries_111 rfl ?_
      refine sv_callV (pc := 113) (M' := mX12_acted) (d' := 19) (C' := 0) (S' := 0) (av := [.int 5]) ?_ (gOk _ _ _ _ _) dX12_tries_113 (tX12_acted _ _ _ _ _) ⟨wV_X12_acted, wL_X12_acted⟩ wM_X12_725 (gCX12 _ _ _ _ _) rfl (lt_t rfl) rfl ⟨le_t rfl, le_t rfl⟩ ⟨le_t rfl, le_t rfl⟩ rfl (le_t rfl) (fun _ _ h => h)
      refine sC.of rfl (by decide) (le_t rfl) ?_
      refine sv_iconst (pc := 0) (v := 0) dX12_acted_0 (by decide) ?_
      refine sv_istore_n (pc := 1) dX12_acted_1 rfl (by decide) ?_
      refine sv_iload_n (pc := 2) dX12_acted_2 rfl rfl ?_
      refine sv_aload_n (pc := 3) dX12_acted_3 rfl rfl ?_
      refine sw_getfield (pc := 4) dX12_acted_4 (gCX12 _ _ _ _ _) 118 (by decide) wF_X12_514 rfl rfl rfl ?_
      refine sv_iload_n (pc := 7) dX12_acted_7 rfl rfl ?_
      refine sw_iaload (pc := 8) (k := 5) (v := .int 0) dX12_acted_8 rfl rfl rfl (by decide) (by decide) rfl rfl ?_
      refine sv_icmp_ge (pc := 9) (tgt := 32) dX12_acted_9 (by decide) (fun _ => ?_) (fun h => absurd (by decide) h)
      refine sv_aload_n (pc := 32) dX12_acted_32 rfl rfl ?_
      refine sw_getfield (pc := 33) dX12_acted_33 (gCX12 _ _ _ _ _) 118 (by decide) wF_X12_514 rfl rfl rfl ?_
      refine sv_iload_n (pc := 36) dX12_acted_36 rfl rfl ?_
      refine sw_iaload (pc := 37) (k := 5) (v := .int 0) dX12_acted_37 rfl rfl rfl (by decide) (by decide) rfl rfl ?_
      refine sv_iret (pc := 38) dX12_acted_38 rfl (le_t rfl) (le_t rfl) ?_
      refine sv_istore (pc := 116) dX12_tries_116 (by decide) ?_
      refine sv_iload (pc := 118) dX12_tries_118 rfl ?_
      refine sv_aload_n (pc := 120) dX12_tries_120 rfl rfl ?_
      refine sw_getfield (pc := 121) dX12_tries_121 (gCX12 _ _ _ _ _) 122 (by decide) wF_X12_526 rfl rfl rfl ?_
      refine sv_iload (pc := 124) dX12_tries_124 rfl ?_
      refine sw_iaload (pc := 126) (k := 5) (v := .int 0) dX12_tries_126 rfl rfl rfl (by decide) (by decide) rfl rfl ?_
      refine sv_icmp_ne (pc := 127) (tgt := 133) dX12_tries_127 (by decide) (fun h => absurd (by decide) h) (fun _ => ?_)
      refine sv_goto (pc := 130) (tgt := 196) dX12_tries_130 (by decide) ?_
      refine sw_iinc (pc := 196) (v := 6) dX12_tries_196 rfl (by decide) (by decide) ?_
      refine sv_goto (pc := 199) (tgt := 103) dX12_tries_199 (by decide) ?_
      refine sv_iload (pc := 103) dX12_tries_103 rfl ?_
      refine sv_bipush (pc := 105) (v := 6) dX12_tries_105 (by decide) ?_
      refine sv_icmp_gt (pc := 107) (tgt := 202) dX12_tries_107 (by decide) (fun h => absurd h (by decide)) (fun _ => ?_)
      refine sv_aload_n (pc := 110) dX12_tries_110 rfl rfl ?_
      refine sv_iload (pc := 111) dX12_tries_111 rfl ?_
      refine sv_callV (pc := 113) (M' := mX12_acted) (d' := 19) (C' := 0) (S' := 0) (av := [.int 6]) ?_ (gOk _ _ _ _ _) dX12_tries_113 (tX12_acted _ _ _ _ _) ⟨wV_X12_acted, wL_X12_acted⟩ wM_X12_725 (gCX12 _ _ _ _ _) rfl (lt_t rfl) rfl ⟨le_t rfl, le_t rfl⟩ ⟨le_t rfl, le_t rfl⟩ rfl (le_t rfl) (fun _ _ h => h)
      refine sC.of rfl (by decide) (le_t rfl) ?_
      refine sv_iconst (pc := 0) (v := 0) dX12_acted_0 (by decide) ?_
      refine sv_istore_n (pc := 1) dX12_acted_1 rfl (by decide) ?_
      refine sv_iload_n (pc := 2) dX12_acted_2 rfl rfl ?_
      refine sv_aload_n (pc := 3) dX12_acted_3 rfl rfl ?_
      refine sw_getfield (pc := 4) dX12_acted_4 (gCX12 _ _ _ _ _) 118 (by decide) wF_X12_514 rfl rfl rfl ?_
      refine sv_iload_n (pc := 7) dX12_acted_7 rfl rfl ?_
      refine sw_iaload (pc := 8) (k := 6) (v := .int 0) dX12_acted_8 rfl rfl rfl (by decide) (by decide) rfl rfl ?_
      refine sv_icmp_ge (pc := 9) (tgt := 32) dX12_acted_9 (by decide) (fun _ => ?_) (fun h => absurd (by decide) h)
      refine sv_aload_n (pc := 32) dX12_acted_32 rfl rfl ?_
      refine sw_getfield (pc := 33) dX12_acted_33 (gCX12 _ _ _ _ _) 118 (by decide) wF_X12_514 rfl rfl rfl ?_
      refine sv_iload_n (pc := 36) dX12_acted_36 rfl rfl ?_
      refine sw_iaload (pc := 37) (k := 6) (v := .int 0) dX12_acted_37 rfl rfl rfl (by decide) (by decide) rfl rfl ?_
      refine sv_iret (pc := 38) dX12_acted_38 rfl (le_t rfl) (le_t rfl) ?_
      refine sv_istore (pc := 116) dX12_tries_116 (by decide) ?_
      refine sv_iload (pc := 118) dX12_tries_118 rfl ?_
      refine sv_aload_n (pc := 120) dX12_tries_120 rfl rfl ?_
      refine sw_getfield (pc := 121) dX12_tries_121 (gCX12 _ _ _ _ _) 122 (by decide) wF_X12_526 rfl rfl rfl ?_
      refine sv_iload (pc := 124) dX12_tries_124 rfl ?_
      refine sw_iaload (pc := 126) (k := 6) (v := .int 0) dX12_tries_126 rfl rfl rfl (by decide) (by decide) rfl rfl ?_
      refine sv_icmp_ne (pc := 127) (tgt := 133) dX12_tries_127 (by decide) (fun h => absurd (by decide) h) (fun _ => ?_)
      refine sv_goto (pc := 130) (tgt := 196) dX12_tries_130 (by decide) ?_
      refine sw_iinc (pc := 196) (v := 7) dX12_tries_196 rfl (by decide) (by decide) ?_
      refine sv_goto (pc := 199) (tgt := 103) dX12_tries_199 (by decide) ?_
      refine sv_iload (pc := 103) dX12_tries_103 rfl ?_
      refine sv_bipush (pc := 105) (v := 6) dX12_tries_105 (by decide) ?_
      refine sv_icmp_gt (pc := 107) (tgt := 202) dX12_tries_107 (by decide) (fun _ => ?_) (fun h => absurd (by decide) h)
      refine sv_iload (pc := 202) dX12_tries_202 rfl ?_
      refine sv_if_eq (pc := 204) (tgt := 234) dX12_tries_204 (by decide) (fun h => absurd h (by decide)) (fun _ => ?_)
      refine sw_iinc (pc := 207) (v := 1) dX12_tries_207 rfl (by decide) (by decide) ?_
      refine sv_lvG (pc := 210) (lv' := [(0, .ref 106), (1, .int 1), (2, .int 1), (3, .int 1), (4, .int 1), (5, .int (-99999999)), (6, .int 0), (7, .int 0), (8, .int 1), (9, .int 7), (10, .int 0)]) (List.forall_mem_cons.mpr ⟨rfl, List.forall_mem_cons.mpr ⟨rfl, List.forall_mem_cons.mpr ⟨rfl, List.forall_mem_cons.mpr ⟨rfl, List.forall_mem_cons.mpr ⟨rfl, List.forall_mem_cons.mpr ⟨rfl, List.forall_mem_cons.mpr ⟨rfl, List.forall_mem_cons.mpr ⟨rfl, List.forall_mem_cons.mpr ⟨rfl, List.forall_mem_cons.mpr ⟨rfl, List.forall_mem_cons.mpr ⟨rfl, fun _ h => absurd h List.not_mem_nil⟩⟩⟩⟩⟩⟩⟩⟩⟩⟩⟩) ?_
      refine sv_aload_n (pc := 210) dX12_tries_210 rfl rfl ?_
      refine sw_getfield (pc := 211) dX12_tries_211 (gCX12 _ _ _ _ _) 125 (by decide) wF_X12_536 rfl rfl rfl ?_
      refine sv_iload (pc := 214) dX12_tries_214 rfl ?_
      refine sv_iconst (pc := 216) (v := 1) dX12_tries_216 (by decide) ?_
      refine sw_zastore (pc := 217) (k := 0) (v := .int 1) dX12_tries_217 rfl rfl rfl (by decide) (by decide) rfl (by decide) ?_
      refine sv_iload (pc := 218) dX12_tries_218 rfl ?_
      refine sv_ldc (pc := 220) dX12_tries_220 wG_X12_29 ?_
      refine sv_icmp_ne (pc := 222) (tgt := 234) dX12_tries_222 (by decide) (fun h => absurd (by decide) h) (fun _ => ?_)
      refine sv_aload_n (pc := 225) dX12_tries_225 rfl rfl ?_
      refine sw_getfield (pc := 226) dX12_tries_226 (gCX12 _ _ _ _ _) 123 (by decide) wF_X12_530 rfl rfl rfl ?_
      refine sv_iload (pc := 229) dX12_tries_229 rfl ?_
      refine sw_iaload (pc := 231) (k := 0) (v := .int 0) dX12_tries_231 rfl rfl rfl (by decide) (by decide) rfl rfl ?_
      refine sv_istore (pc := 232) dX12_tries_232 (by decide) ?_
      refine sw_iinc (pc := 234) (v := 1) dX12_tries_234 rfl (by decide) (by decide) ?_
      refine sv_goto (pc := 237) (tgt := 76) dX12_tries_237 (by decide) ?_
      refine sv_iload (pc := 76) dX12_tries_76 rfl ?_
      refine sv_iload_n (pc := 78) dX12_tries_78 rfl rfl ?_
      refine sv_icmp_ge (pc := 79) (tgt := 240) dX12_tries_79 (by decide) (fun _ => ?_) (fun h => absurd (by decide) h)
      refine sv_iload_n (pc := 240) dX12_tries_240 rfl rfl ?_
      refine sv_if_ne (pc := 241) (tgt := 246) dX12_tries_241 (by decide) (fun _ => ?_) (fun h => absurd h (by decide))
      refine sv_iload_n (pc := 246) dX12_tries_246 rfl rfl ?_
      refine sv_iconst (pc := 247) (v := 1) dX12_tries_247 (by decide) ?_
      refine sv_icmp_ne (pc := 248) (tgt := 254) dX12_tries_248 (by decide) (fun h => absurd (by decide) h) (fun _ => ?_)
      refine sv_iload (pc := 251) dX12_tries_251 rfl ?_
      refine sv_iret (pc := 253) dX12_tries_253 rfl (le_t rfl) (le_t rfl) ?_
      refine sv_icmp_eq (pc := 1771) (tgt := 1799) dL_law_1771 (by decide) (fun _ => ?_) (fun h => absurd (by decide) h)
      exact kk _ _ _ (le_t rfl) (le_t rfl)
    by_cases q_5 : x1 = 2
    · subst q_5
      refine sw_iaload (pc := 26) (k := 2) (v := .int 0) dX11_tries_26 rfl rfl rfl (by decide) (by decide) rfl rfl ?_
      refine sv_iret (pc := 27) dX11_tries_27 rfl (le_t rfl) (le_t rfl) ?_
      refine sv_aload_n (pc := 1762) dL_law_1762 rfl rfl ?_
      refine sv_aload_nS (pc := 1763) dL_law_1763 rfl rfl ?_
      refine sv_iload_n (pc := 1764) dL_law_1764 rfl rfl ?_
      refine sv_iconst (pc := 1765) (v := 1) dL_law_1765 (by decide) ?_
      refine sw_iadd (pc := 1766) (v := 1) dL_law_1766 (by decide) ?_
      refine sw_sld (pc := 1767) (v := 2) dL_law_1767 (k := 1) (by decide) (by decide) rfl hx1 ?_
      refine sv_callV (pc := 1768) (M' := mX12_tries) (d' := 20) (C' := 0) (S' := 0) (av := [.int 2]) ?_ (gOk _ _ _ _ _) dL_law_1768 (tX12_tries _ _ _ _ _) ⟨wV_X12_tries, wL_X12_tries⟩ wM_DomainHouseLaw_210 (gCX12 _ _ _ _ _) rfl (lt_t rfl) rfl ⟨le_t rfl, le_t rfl⟩ ⟨le_t rfl, le_t rfl⟩ rfl (le_t rfl) (fun _ _ h => h)
      refine sC.of rfl (by decide) (le_t rfl) ?_
      refine sv_iload_n (pc := 0) dX12_tries_0 rfl rfl ?_
      refine sv_iconst (pc := 1) (v := 0) dX12_tries_1 (by decide) ?_
      refine sv_iconst (pc := 2) (v := 3) dX12_tries_2 (by decide) ?_
      refine sv_callS (pc := 3) (M' := mX12_in) (d' := 19) (C' := 0) (S' := 0) (av := [.int 2, .int 0, .int 3]) ?_ (gOk _ _ _ _ _) dX12_tries_3 (tX12_in _ _ _ _ _) wS_X12_in wM_X12_18 ⟨le_t rfl, le_t rfl⟩ ⟨le_t rfl, le_t rfl⟩ rfl (le_t rfl) (fun _ _ h => h)
      refine sC.of rfl (by decide) (le_t rfl) ?_
      refine sv_iload_n (pc := 0) dX12_in_0 rfl rfl ?_
      refine sv_iload_n (pc := 1) dX12_in_1 rfl rfl ?_
      refine sv_icmp_lt (pc := 2) (tgt := 14) dX12_in_2 (by decide) (fun h => absurd h (by decide)) (fun _ => ?_)
      refine sv_iload_n (pc := 5) dX12_in_5 rfl rfl ?_
      refine sv_iload_n (pc := 6) dX12_in_6 rfl rfl ?_
      refine sv_icmp_gt (pc := 7) (tgt := 14) dX12_in_7 (by decide) (fun h => absurd h (by decide)) (fun _ => ?_)
      refine sv_iconst (pc := 10) (v := 1) dX12_in_10 (by decide) ?_
      refine sv_goto (pc := 11) (tgt := 15) dX12_in_11 (by decide) ?_
      refine sv_zret (pc := 15) dX12_in_15 rfl (by decide) (le_t rfl) (le_t rfl) ?_
      refine sv_if_ne (pc := 6) (tgt := 11) dX12_tries_6 (by decide) (fun _ => ?_) (fun h => absurd h (by decide))
      refine sv_aload_n (pc := 11) dX12_tries_11 rfl rfl ?_
      refine sv_callV (pc := 12) (M' := mX12_states) (d' := 19) (C' := 0) (S' := 0) (av := []) ?_ (gOk _ _ _ _ _) dX12_tries_12 (tX12_states _ _ _ _ _) ⟨wV_X12_states, wL_X12_states⟩ wM_X12_728 (gCX12 _ _ _ _ _) rfl (lt_t rfl) rfl ⟨le_t rfl, le_t rfl⟩ ⟨le_t rfl, le_t rfl⟩ rfl (le_t rfl) (fun _ _ h => h)
      refine sC.of rfl (by decide) (le_t rfl) ?_
      refine sv_iconst (pc := 0) (v := 1) dX12_states_0 (by decide) ?_
      refine sv_istore_n (pc := 1) dX12_states_1 rfl (by decide) ?_
      refine sv_bipush (pc := 2) (v := 6) dX12_states_2 (by decide) ?_
      refine sv_istore_n (pc := 4) dX12_states_4 rfl (by decide) ?_
      refine sv_iload_n (pc := 5) dX12_states_5 rfl rfl ?_
      refine sv_iconst (pc := 6) (v := 1) dX12_states_6 (by decide) ?_
      refine sv_icmp_lt (pc := 7) (tgt := 34) dX12_states_7 (by decide) (fun h => absurd h (by decide)) (fun _ => ?_)
      refine sv_aload_n (pc := 10) dX12_states_10 rfl rfl ?_
      refine sw_getfield (pc := 11) dX12_states_11 (gCX12 _ _ _ _ _) 121 (by decide) wF_X12_523 rfl rfl rfl ?_
      refine sv_iload_n (pc := 14) dX12_states_14 rfl rfl ?_
      refine sv_iload_n (pc := 15) dX12_states_15 rfl rfl ?_
      refine sw_iastore (pc := 16) (k := 6) (v := .int 1) dX12_states_16 rfl rfl rfl (by decide) (by decide) rfl rfl ?_
      refine sv_iload_n (pc := 17) dX12_states_17 rfl rfl ?_
      refine sv_aload_n (pc := 18) dX12_states_18 rfl rfl ?_
      refine sw_getfield (pc := 19) dX12_states_19 (gCX12 _ _ _ _ _) 118 (by decide) wF_X12_514 rfl rfl rfl ?_
      refine sv_iload_n (pc := 22) dX12_states_22 rfl rfl ?_
      refine sw_iaload (pc := 23) (k := 6) (v := .int 0) dX12_states_23 rfl rfl rfl (by decide) (by decide) rfl rfl ?_
      refine sv_iconst (pc := 24) (v := 1) dX12_states_24 (by decide) ?_
      refine sw_iadd (pc := 25) (v := 1) dX12_states_25 (by decide) ?_
      refine sw_imul (pc := 26) (v := 1) dX12_states_26 (by decide) ?_
      refine sv_istore_n (pc := 27) dX12_states_27 rfl (by decide) ?_
      refine sw_iinc (pc := 28) (v := 5) dX12_states_28 rfl (by decide) (by decide) ?_
      refine sv_goto (pc := 31) (tgt := 5) dX12_states_31 (by decide) ?_
      refine sv_iload_n (pc := 5) dX12_states_5 rfl rfl ?_
      refine sv_iconst (pc := 6) (v := 1) dX12_states_6 (by decide) ?_
      refine sv_icmp_lt (pc := 7) (tgt := 34) dX12_states_7 (by decide) (fun h => absurd h (by decide)) (fun _ => ?_)
      refine sv_aload_n (pc := 10) dX12_states_10 rfl rfl ?_
      refine sw_getfield (pc := 11) dX12_states_11 (gCX12 _ _ _ _ _) 121 (by decide) wF_X12_523 rfl rfl rfl ?_
      refine sv_iload_n (pc := 14) dX12_states_14 rfl rfl ?_
      refine sv_iload_n (pc := 15) dX12_states_15 rfl rfl ?_
      refine sw_iastore (pc := 16) (k := 5) (v := .int 1) dX12_states_16 rfl rfl rfl (by decide) (by decide) rfl rfl ?_
      refine sv_iload_n (pc := 17) dX12_states_17 rfl rfl ?_
      refine sv_aload_n (pc := 18) dX12_states_18 rfl rfl ?_
      refine sw_getfield (pc := 19) dX12_states_19 (gCX12 _ _ _ _ _) 118 (by decide) wF_X12_514 rfl rfl rfl ?_
      refine sv_iload_n (pc := 22) dX12_states_22 rfl rfl ?_
      refine sw_iaload (pc := 23) (k := 5) (v := .int 0) dX12_states_23 rfl rfl rfl (by decide) (by decide) rfl rfl ?_
      refine sv_iconst (pc := 24) (v := 1) dX12_states_24 (by decide) ?_
      refine sw_iadd (pc := 25) (v := 1) dX12_states_25 (by decide) ?_
      refine sw_imul (pc := 26) (v := 1) dX12_states_26 (by decide) ?_
      refine sv_istore_n (pc := 27) dX12_states_27 rfl (by decide) ?_
      refine sw_iinc (pc := 28) (v := 4) dX12_states_28 rfl (by decide) (by decide) ?_
      refine sv_goto (pc := 31) (tgt := 5) dX12_states_31 (by decide) ?_
      refine sv_iload_n (pc := 5) dX12_states_5 rfl rfl ?_
      refine sv_iconst (pc := 6) (v := 1) dX12_states_6 (by decide) ?_
      refine sv_icmp_lt (pc := 7) (tgt := 34) dX12_states_7 (by decide) (fun h => absurd h (by decide)) (fun _ => ?_)
      refine sv_aload_n (pc := 10) dX12_states_10 rfl rfl ?_
      refine sw_getfield (pc := 11) dX12_states_11 (gCX12 _ _ _ _ _) 121 (by decide) wF_X12_523 rfl rfl rfl ?_
      refine sv_iload_n (pc := 14) dX12_states_14 rfl rfl ?_
      refine sv_iload_n (pc := 15) dX12_states_15 rfl rfl ?_
      refine sw_iastore (pc := 16) (k := 4) (v := .int 1) dX12_states_16 rfl rfl rfl (by decide) (by decide) rfl rfl ?_
      refine sv_iload_n (pc := 17) dX12_states_17 rfl rfl ?_
      refine sv_aload_n (pc := 18) dX12_states_18 rfl rfl ?_
      refine sw_getfield (pc := 19) dX12_states_19 (gCX12 _ _ _ _ _) 118 (by decide) wF_X12_514 rfl rfl rfl ?_
      refine sv_iload_n (pc := 22) dX12_states_22 rfl rfl ?_
      refine sw_iaload (pc := 23) (k := 4) (v := .int 0) dX12_states_23 rfl rfl rfl (by decide) (by decide) rfl rfl ?_
      refine sv_iconst (pc := 24) (v := 1) dX12_states_24 (by decide) ?_
      refine sw_iadd (pc := 25) (v := 1) dX12_states_25 (by decide) ?_
      refine sw_imul (pc := 26) (v := 1) dX12_states_26 (by decide) ?_
      refine sv_istore_n (pc := 27) dX12_states_27 rfl (by decide) ?_
      refine sw_iinc (pc := 28) (v := 3) dX12_states_28 rfl (by decide) (by decide) ?_
      refine sv_lvG (pc := 31) (lv' := [(0, .ref 106), (1, .int 1), (2, .int 3)]) (List.forall_mem_cons.mpr ⟨rfl, List.forall_mem_cons.mpr ⟨rfl, List.forall_mem_cons.mpr ⟨rfl, fun _ h => absurd h List.not_mem_nil⟩⟩⟩) ?_
      refine sv_goto (pc := 31) (tgt := 5) dX12_states_31 (by decide) ?_
      refine sv_iload_n (pc := 5) dX12_states_5 rfl rfl ?_
      refine sv_iconst (pc := 6) (v := 1) dX12_states_6 (by decide) ?_
      refine sv_icmp_lt (pc := 7) (tgt := 34) dX12_states_7 (by decide) (fun h => absurd h (by decide)) (fun _ => ?_)
      refine sv_aload_n (pc := 10) dX12_states_10 rfl rfl ?_
      refine sw_getfield (pc := 11) dX12_states_11 (gCX12 _ _ _ _ _) 121 (by decide) wF_X12_523 rfl rfl rfl ?_
      refine sv_iload_n (pc := 14) dX12_states_14 rfl rfl ?_
      refine sv_iload_n (pc := 15) dX12_states_15 rfl rfl ?_
      refine sw_iastore (pc := 16) (k := 3) (v := .int 1) dX12_states_16 rfl rfl rfl (by decide) (by decide) rfl rfl ?_
      refine sv_iload_n (pc := 17) dX12_states_17 rfl rfl ?_
      refine sv_aload_n (pc := 18) dX12_states_18 rfl rfl ?_
      refine sw_getfield (pc := 19) dX12_states_19 (gCX12 _ _ _ _ _) 118 (by decide) wF_X12_514 rfl rfl rfl ?_
      refine sv_iload_n (pc := 22) dX12_states_22 rfl rfl ?_
      refine sw_iaload (pc := 23) (k := 3) (v := .int 0) dX12_states_23 rfl rfl rfl (by decide) (by decide) rfl rfl ?_
      refine sv_iconst (pc := 24) (v := 1) dX12_states_24 (by decide) ?_
      refine sw_iadd (pc := 25) (v := 1) dX12_states_25 (by decide) ?_
      refine sw_imul (pc := 26) (v := 1) dX12_states_26 (by decide) ?_
      refine sv_istore_n (pc := 27) dX12_states_27 rfl (by decide) ?_
      refine sw_iinc (pc := 28) (v := 2) dX12_states_28 rfl (by decide) (by decide) ?_
      refine sv_goto (pc := 31) (tgt := 5) dX12_states_31 (by decide) ?_
      refine sv_iload_n (pc := 5) dX12_states_5 rfl rfl ?_
      refine sv_iconst (pc := 6) (v := 1) dX12_states_6 (by decide) ?_
      refine sv_icmp_lt (pc := 7) (tgt := 34) dX12_states_7 (by decide) (fun h => absurd h (by decide)) (fun _ => ?_)
      refine sv_aload_n (pc := 10) dX12_states_10 rfl rfl ?_
      refine sw_getfield (pc := 11) dX12_states_11 (gCX12 _ _ _ _ _) 121 (by decide) wF_X12_523 rfl rfl rfl ?_
      refine sv_iload_n (pc := 14) dX12_states_14 rfl rfl ?_
      refine sv_iload_n (pc := 15) dX12_states_15 rfl rfl ?_
      refine sw_iastore (pc := 16) (k := 2) (v := .int 1) dX12_states_16 rfl rfl rfl (by decide) (by decide) rfl rfl ?_
      refine sv_iload_n (pc := 17) dX12_states_17 rfl rfl ?_
      refine sv_aload_n (pc := 18) dX12_states_18 rfl rfl ?_
      refine sw_getfield (pc := 19) dX12_states_19 (gCX12 _ _ _ _ _) 118 (by decide) wF_X12_514 rfl rfl rfl ?_
      refine sv_iload_n (pc := 22) dX12_states_22 rfl rfl ?_
      refine sw_iaload (pc := 23) (k := 2) (v := .int 0) dX12_states_23 rfl rfl rfl (by decide) (by decide) rfl rfl ?_
      refine sv_iconst (pc := 24) (v := 1) dX12_states_24 (by decide) ?_
      refine sw_iadd (pc := 25) (v := 1) dX12_states_25 (by decide) ?_
      refine sw_imul (pc := 26) (v := 1) dX12_states_26 (by decide) ?_
      refine sv_istore_n (pc := 27) dX12_states_27 rfl (by decide) ?_
      refine sw_iinc (pc := 28) (v := 1) dX12_states_28 rfl (by decide) (by decide) ?_
      refine sv_goto (pc := 31) (tgt := 5) dX12_states_31 (by decide) ?_
      refine sv_iload_n (pc := 5) dX12_states_5 rfl rfl ?_
      refine sv_iconst (pc := 6) (v := 1) dX12_states_6 (by decide) ?_
      refine sv_icmp_lt (pc := 7) (tgt := 34) dX12_states_7 (by decide) (fun h => absurd h (by decide)) (fun _ => ?_)
      refine sv_aload_n (pc := 10) dX12_states_10 rfl rfl ?_
      refine sw_getfield (pc := 11) dX12_states_11 (gCX12 _ _ _ _ _) 121 (by decide) wF_X12_523 rfl rfl rfl ?_
      refine sv_iload_n (pc := 14) dX12_states_14 rfl rfl ?_
      refine sv_iload_n (pc := 15) dX12_states_15 rfl rfl ?_
      refine sw_iastore (pc := 16) (k := 1) (v := .int 1) dX12_states_16 rfl rfl rfl (by decide) (by decide) rfl rfl ?_
      refine sv_iload_n (pc := 17) dX12_states_17 rfl rfl ?_
      refine sv_aload_n (pc := 18) dX12_states_18 rfl rfl ?_
      refine sw_getfield (pc := 19) dX12_states_19 (gCX12 _ _ _ _ _) 118 (by decide) wF_X12_514 rfl rfl rfl ?_
      refine sv_iload_n (pc := 22) dX12_states_22 rfl rfl ?_
      refine sw_iaload (pc := 23) (k := 1) (v := .int 0) dX12_states_23 rfl rfl rfl (by decide) (by decide) rfl rfl ?_
      refine sv_iconst (pc := 24) (v := 1) dX12_states_24 (by decide) ?_
      refine sw_iadd (pc := 25) (v := 1) dX12_states_25 (by decide) ?_
      refine sw_imul (pc := 26) (v := 1) dX12_states_26 (by decide) ?_
      refine sv_istore_n (pc := 27) dX12_states_27 rfl (by decide) ?_
      refine sw_iinc (pc := 28) (v := 0) dX12_states_28 rfl (by decide) (by decide) ?_
      refine sv_goto (pc := 31) (tgt := 5) dX12_states_31 (by decide) ?_
      refine sv_iload_n (pc := 5) dX12_states_5 rfl rfl ?_
      refine sv_iconst (pc := 6) (v := 1) dX12_states_6 (by decide) ?_
      refine sv_icmp_lt (pc := 7) (tgt := 34) dX12_states_7 (by decide) (fun _ => ?_) (fun h => absurd (by decide) h)
      refine sv_iload_n (pc := 34) dX12_states_34 rfl rfl ?_
      refine sv_iret (pc := 35) dX12_states_35 rfl (le_t rfl) (le_t rfl) ?_
      refine sv_istore_n (pc := 15) dX12_tries_15 rfl (by decide) ?_
      refine sv_iconst (pc := 16) (v := 0) dX12_tries_16 (by decide) ?_
      refine sv_istore_n (pc := 17) dX12_tries_17 rfl (by decide) ?_
      refine sv_iload_n (pc := 18) dX12_tries_18 rfl rfl ?_
      refine sv_iload_n (pc := 19) dX12_tries_19 rfl rfl ?_
      refine sv_icmp_ge (pc := 20) (tgt := 43) dX12_tries_20 (by decide) (fun h => absurd h (by decide)) (fun _ => ?_)
      refine sv_aload_n (pc := 23) dX12_tries_23 rfl rfl ?_
      refine sw_getfield (pc := 24) dX12_tries_24 (gCX12 _ _ _ _ _) 123 (by decide) wF_X12_530 rfl rfl rfl ?_
      refine sv_iload_n (pc := 27) dX12_tries_27 rfl rfl ?_
      refine sv_iconst (pc := 28) (v := (-1)) dX12_tries_28 (by decide) ?_
      refine sw_iastore (pc := 29) (k := 0) (v := .int (-1)) dX12_tries_29 rfl rfl rfl (by decide) (by decide) rfl rfl ?_
      refine sv_aload_n (pc := 30) dX12_tries_30 rfl rfl ?_
      refine sw_getfield (pc := 31) dX12_tries_31 (gCX12 _ _ _ _ _) 125 (by decide) wF_X12_536 rfl rfl rfl ?_
      refine sv_iload_n (pc := 34) dX12_tries_34 rfl rfl ?_
      refine sv_iconst (pc := 35) (v := 0) dX12_tries_35 (by decide) ?_
      refine sw_zastore (pc := 36) (k := 0) (v := .int 0) dX12_tries_36 rfl rfl rfl (by decide) (by decide) rfl (by decide) ?_
      refine sw_iinc (pc := 37) (v := 1) dX12_tries_37 rfl (by decide) (by decide) ?_
      refine sv_goto (pc := 40) (tgt := 18) dX12_tries_40 (by decide) ?_
      refine sv_iload_n (pc := 18) dX12_tries_18 rfl rfl ?_
      refine sv_iload_n (pc := 19) dX12_tries_19 rfl rfl ?_
      refine sv_icmp_ge (pc := 20) (tgt := 43) dX12_tries_20 (by decide) (fun _ => ?_) (fun h => absurd (by decide) h)
      refine sv_iconst (pc := 43) (v := 0) dX12_tries_43 (by decide) ?_
      refine sv_istore_n (pc := 44) dX12_tries_44 rfl (by decide) ?_
      refine sv_aload_n (pc := 45) dX12_tries_45 rfl rfl ?_
      refine sw_getfield (pc := 46) dX12_tries_46 (gCX12 _ _ _ _ _) 124 (by decide) wF_X12_533 rfl rfl rfl ?_
      refine sv_iload_n (pc := 49) dX12_tries_49 rfl rfl ?_
      refine sv_iload_n (pc := 50) dX12_tries_50 rfl rfl ?_
      refine sv_iconst (pc := 51) (v := 1) dX12_tries_51 (by decide) ?_
      refine sw_isub (pc := 52) (v := 0) dX12_tries_52 (by decide) ?_
      refine sw_iastore (pc := 53) (k := 0) (v := .int 0) dX12_tries_53 rfl rfl rfl (by decide) (by decide) rfl rfl ?_
      refine sv_aload_n (pc := 54) dX12_tries_54 rfl rfl ?_
      refine sw_getfield (pc := 55) dX12_tries_55 (gCX12 _ _ _ _ _) 123 (by decide) wF_X12_530 rfl rfl rfl ?_
      refine sv_iload_n (pc := 58) dX12_tries_58 rfl rfl ?_
      refine sv_iconst (pc := 59) (v := 1) dX12_tries_59 (by decide) ?_
      refine sw_isub (pc := 60) (v := 0) dX12_tries_60 (by decide) ?_
      refine sv_iconst (pc := 61) (v := 0) dX12_tries_61 (by decide) ?_
      refine sw_iastore (pc := 62) (k := 0) (v := .int 0) dX12_tries_62 rfl rfl rfl (by decide) (by decide) rfl rfl ?_
      refine sw_iinc (pc := 63) (v := 1) dX12_tries_63 rfl (by decide) (by decide) ?_
      refine sv_iconst (pc := 66) (v := 0) dX12_tries_66 (by decide) ?_
      refine sv_istore (pc := 67) dX12_tries_67 (by decide) ?_
      refine sv_ldc (pc := 69) dX12_tries_69 wG_X12_29 ?_
      refine sv_istore (pc := 71) dX12_tries_71 (by decide) ?_
      refine sv_iconst (pc := 73) (v := 0) dX12_tries_73 (by decide) ?_
      refine sv_istore (pc := 74) dX12_tries_74 (by decide) ?_
      refine sv_lvG (pc := 76) (lv' := [(0, .ref 106), (1, .int 2), (2, .int 1), (3, .int 1), (4, .int 0), (5, .int (-99999999)), (6, .int 0)]) (List.forall_mem_cons.mpr ⟨rfl, List.forall_mem_cons.mpr ⟨rfl, List.forall_mem_cons.mpr ⟨rfl, List.forall_mem_cons.mpr ⟨rfl, List.forall_mem_cons.mpr ⟨rfl, List.forall_mem_cons.mpr ⟨rfl, List.forall_mem_cons.mpr ⟨rfl, fun _ h => absurd h List.not_mem_nil⟩⟩⟩⟩⟩⟩⟩) ?_
      refine sv_iload (pc := 76) dX12_tries_76 rfl ?_
      refine sv_iload_n (pc := 78) dX12_tries_78 rfl rfl ?_
      refine sv_icmp_ge (pc := 79) (tgt := 240) dX12_tries_79 (by decide) (fun h => absurd h (by decide)) (fun _ => ?_)
      refine sv_aload_n (pc := 82) dX12_tries_82 rfl rfl ?_
      refine sw_getfield (pc := 83) dX12_tries_83 (gCX12 _ _ _ _ _) 124 (by decide) wF_X12_533 rfl rfl rfl ?_
      refine sv_iload (pc := 86) dX12_tries_86 rfl ?_
      refine sw_iaload (pc := 88) (k := 0) (v := .int 0) dX12_tries_88 rfl rfl rfl (by decide) (by decide) rfl rfl ?_
      refine sv_istore (pc := 89) dX12_tries_89 (by decide) ?_
      refine sv_iconst (pc := 91) (v := 1) dX12_tries_91 (by decide) ?_
      refine sv_istore (pc := 92) dX12_tries_92 (by decide) ?_
      refine sv_aload_n (pc := 94) dX12_tries_94 rfl rfl ?_
      refine sv_iload (pc := 95) dX12_tries_95 rfl ?_
      refine sv_callV (pc := 97) (M' := mX12_open) (d' := 19) (C' := 0) (S' := 0) (av := [.int 0]) ?_ (gOk _ _ _ _ _) dX12_tries_97 (tX12_open _ _ _ _ _) ⟨wV_X12_open, wL_X12_open⟩ wM_X12_722 (gCX12 _ _ _ _ _) rfl (lt_t rfl) rfl ⟨le_t rfl, le_t rfl⟩ ⟨le_t rfl, le_t rfl⟩ rfl (le_t rfl) (fun _ _ h => h)
      refine sC.of rfl (by decide) (le_t rfl) ?_
      refine sv_iconst (pc := 0) (v := 1) dX12_open_0 (by decide) ?_
      refine sv_istore_n (pc := 1) dX12_open_1 rfl (by decide) ?_
      refine sv_iload_n (pc := 2) dX12_open_2 rfl rfl ?_
      refine sv_bipush (pc := 3) (v := 6) dX12_open_3 (by decide) ?_
      refine sv_icmp_gt (pc := 5) (tgt := 37) dX12_open_5 (by decide) (fun h => absurd h (by decide)) (fun _ => ?_)
      refine sv_aload_n (pc := 8) dX12_open_8 rfl rfl ?_
      refine sw_getfield (pc := 9) dX12_open_9 (gCX12 _ _ _ _ _) 122 (by decide) wF_X12_526 rfl rfl rfl ?_
      refine sv_iload_n (pc := 12) dX12_open_12 rfl rfl ?_
      refine sv_iload_n (pc := 13) dX12_open_13 rfl rfl ?_
      refine sv_aload_n (pc := 14) dX12_open_14 rfl rfl ?_
      refine sw_getfield (pc := 15) dX12_open_15 (gCX12 _ _ _ _ _) 121 (by decide) wF_X12_523 rfl rfl rfl ?_
      refine sv_iload_n (pc := 18) dX12_open_18 rfl rfl ?_
      refine sw_iaload (pc := 19) (k := 1) (v := .int 1) dX12_open_19 rfl rfl rfl (by decide) (by decide) rfl rfl ?_
      refine sw_idiv (pc := 20) (v := 0) dX12_open_20 (by decide) (by decide) ?_
      refine sv_aload_n (pc := 21) dX12_open_21 rfl rfl ?_
      refine sw_getfield (pc := 22) dX12_open_22 (gCX12 _ _ _ _ _) 118 (by decide) wF_X12_514 rfl rfl rfl ?_
      refine sv_iload_n (pc := 25) dX12_open_25 rfl rfl ?_
      refine sw_iaload (pc := 26) (k := 1) (v := .int 0) dX12_open_26 rfl rfl rfl (by decide) (by decide) rfl rfl ?_
      refine sv_iconst (pc := 27) (v := 1) dX12_open_27 (by decide) ?_
      refine sw_iadd (pc := 28) (v := 1) dX12_open_28 (by decide) ?_
      refine sw_irem (pc := 29) (v := 0) dX12_open_29 (by decide) (by decide) ?_
      refine sw_iastore (pc := 30) (k := 1) (v := .int 0) dX12_open_30 rfl rfl rfl (by decide) (by decide) rfl rfl ?_
      refine sw_iinc (pc := 31) (v := 2) dX12_open_31 rfl (by decide) (by decide) ?_
      refine sv_goto (pc := 34) (tgt := 2) dX12_open_34 (by decide) ?_
      refine sv_iload_n (pc := 2) dX12_open_2 rfl rfl ?_
      refine sv_bipush (pc := 3) (v := 6) dX12_open_3 (by decide) ?_
      refine sv_icmp_gt (pc := 5) (tgt := 37) dX12_open_5 (by decide) (fun h => absurd h (by decide)) (fun _ => ?_)
      refine sv_aload_n (pc := 8) dX12_open_8 rfl rfl ?_
      refine sw_getfield (pc := 9) dX12_open_9 (gCX12 _ _ _ _ _) 122 (by decide) wF_X12_526 rfl rfl rfl ?_
      refine sv_iload_n (pc := 12) dX12_open_12 rfl rfl ?_
      refine sv_iload_n (pc := 13) dX12_open_13 rfl rfl ?_
      refine sv_aload_n (pc := 14) dX12_open_14 rfl rfl ?_
      refine sw_getfield (pc := 15) dX12_open_15 (gCX12 _ _ _ _ _) 121 (by decide) wF_X12_523 rfl rfl rfl ?_
      refine sv_iload_n (pc := 18) dX12_open_18 rfl rfl ?_
      refine sw_iaload (pc := 19) (k := 2) (v := .int 1) dX12_open_19 rfl rfl rfl (by decide) (by decide) rfl rfl ?_
      refine sw_idiv (pc := 20) (v := 0) dX12_open_20 (by decide) (by decide) ?_
      refine sv_aload_n (pc := 21) dX12_open_21 rfl rfl ?_
      refine sw_getfield (pc := 22) dX12_open_22 (gCX12 _ _ _ _ _) 118 (by decide) wF_X12_514 rfl rfl rfl ?_
      refine sv_iload_n (pc := 25) dX12_open_25 rfl rfl ?_
      refine sw_iaload (pc := 26) (k := 2) (v := .int 0) dX12_open_26 rfl rfl rfl (by decide) (by decide) rfl rfl ?_
      refine sv_iconst (pc := 27) (v := 1) dX12_open_27 (by decide) ?_
      refine sw_iadd (pc := 28) (v := 1) dX12_open_28 (by decide) ?_
      refine sw_irem (pc := 29) (v := 0) dX12_open_29 (by decide) (by decide) ?_
      refine sw_iastore (pc := 30) (k := 2) (v := .int 0) dX12_open_30 rfl rfl rfl (by decide) (by decide) rfl rfl ?_
      refine sw_iinc (pc := 31) (v := 3) dX12_open_31 rfl (by decide) (by decide) ?_
      refine sv_goto (pc := 34) (tgt := 2) dX12_open_34 (by decide) ?_
      refine sv_iload_n (pc := 2) dX12_open_2 rfl rfl ?_
      refine sv_bipush (pc := 3) (v := 6) dX12_open_3 (by decide) ?_
      refine sv_icmp_gt (pc := 5) (tgt := 37) dX12_open_5 (by decide) (fun h => absurd h (by decide)) (fun _ => ?_)
      refine sv_aload_n (pc := 8) dX12_open_8 rfl rfl ?_
      refine sw_getfield (pc := 9) dX12_open_9 (gCX12 _ _ _ _ _) 122 (by decide) wF_X12_526 rfl rfl rfl ?_
      refine sv_iload_n (pc := 12) dX12_open_12 rfl rfl ?_
      refine sv_iload_n (pc := 13) dX12_open_13 rfl rfl ?_
      refine sv_aload_n (pc := 14) dX12_open_14 rfl rfl ?_
      refine sw_getfield (pc := 15) dX12_open_15 (gCX12 _ _ _ _ _) 121 (by decide) wF_X12_523 rfl rfl rfl ?_
      refine sv_iload_n (pc := 18) dX12_open_18 rfl rfl ?_
      refine sw_iaload (pc := 19) (k := 3) (v := .int 1) dX12_open_19 rfl rfl rfl (by decide) (by decide) rfl rfl ?_
      refine sw_idiv (pc := 20) (v := 0) dX12_open_20 (by decide) (by decide) ?_
      refine sv_aload_n (pc := 21) dX12_open_21 rfl rfl ?_
      refine sw_getfield (pc := 22) dX12_open_22 (gCX12 _ _ _ _ _) 118 (by decide) wF_X12_514 rfl rfl rfl ?_
      refine sv_iload_n (pc := 25) dX12_open_25 rfl rfl ?_
      refine sw_iaload (pc := 26) (k := 3) (v := .int 0) dX12_open_26 rfl rfl rfl (by decide) (by decide) rfl rfl ?_
      refine sv_iconst (pc := 27) (v := 1) dX12_open_27 (by decide) ?_
      refine sw_iadd (pc := 28) (v := 1) dX12_open_28 (by decide) ?_
      refine sw_irem (pc := 29) (v := 0) dX12_open_29 (by decide) (by decide) ?_
      refine sw_iastore (pc := 30) (k := 3) (v := .int 0) dX12_open_30 rfl rfl rfl (by decide) (by decide) rfl rfl ?_
      refine sw_iinc (pc := 31) (v := 4) dX12_open_31 rfl (by decide) (by decide) ?_
      refine sv_goto (pc := 34) (tgt := 2) dX12_open_34 (by decide) ?_
      refine sv_iload_n (pc := 2) dX12_open_2 rfl rfl ?_
      refine sv_bipush (pc := 3) (v := 6) dX12_open_3 (by decide) ?_
      refine sv_icmp_gt (pc := 5) (tgt := 37) dX12_open_5 (by decide) (fun h => absurd h (by decide)) (fun _ => ?_)
      refine sv_aload_n (pc := 8) dX12_open_8 rfl rfl ?_
      refine sw_getfield (pc := 9) dX12_open_9 (gCX12 _ _ _ _ _) 122 (by decide) wF_X12_526 rfl rfl rfl ?_
      refine sv_iload_n (pc := 12) dX12_open_12 rfl rfl ?_
      refine sv_iload_n (pc := 13) dX12_open_13 rfl rfl ?_
      refine sv_aload_n (pc := 14) dX12_open_14 rfl rfl ?_
      refine sw_getfield (pc := 15) dX12_open_15 (gCX12 _ _ _ _ _) 121 (by decide) wF_X12_523 rfl rfl rfl ?_
      refine sv_iload_n (pc := 18) dX12_open_18 rfl rfl ?_
      refine sw_iaload (pc := 19) (k := 4) (v := .int 1) dX12_open_19 rfl rfl rfl (by decide) (by decide) rfl rfl ?_
      refine sw_idiv (pc := 20) (v := 0) dX12_open_20 (by decide) (by decide) ?_
      refine sv_aload_n (pc := 21) dX12_open_21 rfl rfl ?_
      refine sw_getfield (pc := 22) dX12_open_22 (gCX12 _ _ _ _ _) 118 (by decide) wF_X12_514 rfl rfl rfl ?_
      refine sv_iload_n (pc := 25) dX12_open_25 rfl rfl ?_
      refine sw_iaload (pc := 26) (k := 4) (v := .int 0) dX12_open_26 rfl rfl rfl (by decide) (by decide) rfl rfl ?_
      refine sv_iconst (pc := 27) (v := 1) dX12_open_27 (by decide) ?_
      refine sw_iadd (pc := 28) (v := 1) dX12_open_28 (by decide) ?_
      refine sw_irem (pc := 29) (v := 0) dX12_open_29 (by decide) (by decide) ?_
      refine sw_iastore (pc := 30) (k := 4) (v := .int 0) dX12_open_30 rfl rfl rfl (by decide) (by decide) rfl rfl ?_
      refine sw_iinc (pc := 31) (v := 5) dX12_open_31 rfl (by decide) (by decide) ?_
      refine sv_goto (pc := 34) (tgt := 2) dX12_open_34 (by decide) ?_
      refine sv_iload_n (pc := 2) dX12_open_2 rfl rfl ?_
      refine sv_bipush (pc := 3) (v := 6) dX12_open_3 (by decide) ?_
      refine sv_icmp_gt (pc := 5) (tgt := 37) dX12_open_5 (by decide) (fun h => absurd h (by decide)) (fun _ => ?_)
      refine sv_aload_n (pc := 8) dX12_open_8 rfl rfl ?_
      refine sw_getfield (pc := 9) dX12_open_9 (gCX12 _ _ _ _ _) 122 (by decide) wF_X12_526 rfl rfl rfl ?_
      refine sv_iload_n (pc := 12) dX12_open_12 rfl rfl ?_
      refine sv_iload_n (pc := 13) dX12_open_13 rfl rfl ?_
      refine sv_aload_n (pc := 14) dX12_open_14 rfl rfl ?_
      refine sw_getfield (pc := 15) dX12_open_15 (gCX12 _ _ _ _ _) 121 (by decide) wF_X12_523 rfl rfl rfl ?_
      refine sv_iload_n (pc := 18) dX12_open_18 rfl rfl ?_
      refine sw_iaload (pc := 19) (k := 5) (v := .int 1) dX12_open_19 rfl rfl rfl (by decide) (by decide) rfl rfl ?_
      refine sw_idiv (pc := 20) (v := 0) dX12_open_20 (by decide) (by decide) ?_
      refine sv_aload_n (pc := 21) dX12_open_21 rfl rfl ?_
      refine sw_getfield (pc := 22) dX12_open_22 (gCX12 _ _ _ _ _) 118 (by decide) wF_X12_514 rfl rfl rfl ?_
      refine sv_iload_n (pc := 25) dX12_open_25 rfl rfl ?_
      refine sw_iaload (pc := 26) (k := 5) (v := .int 0) dX12_open_26 rfl rfl rfl (by decide) (by decide) rfl rfl ?_
      refine sv_iconst (pc := 27) (v := 1) dX12_open_27 (by decide) ?_
      refine sw_iadd (pc := 28) (v := 1) dX12_open_28 (by decide) ?_
      refine sw_irem (pc := 29) (v := 0) dX12_open_29 (by decide) (by decide) ?_
      refine sw_iastore (pc := 30) (k := 5) (v := .int 0) dX12_open_30 rfl rfl rfl (by decide) (by decide) rfl rfl ?_
      refine sw_iinc (pc := 31) (v := 6) dX12_open_31 rfl (by decide) (by decide) ?_
      refine sv_goto (pc := 34) (tgt := 2) dX12_open_34 (by decide) ?_
      refine sv_iload_n (pc := 2) dX12_open_2 rfl rfl ?_
      refine sv_bipush (pc := 3) (v := 6) dX12_open_3 (by decide) ?_
      refine sv_icmp_gt (pc := 5) (tgt := 37) dX12_open_5 (by decide) (fun h => absurd h (by decide)) (fun _ => ?_)
      refine sv_aload_n (pc := 8) dX12_open_8 rfl rfl ?_
      refine sw_getfield (pc := 9) dX12_open_9 (gCX12 _ _ _ _ _) 122 (by decide) wF_X12_526 rfl rfl rfl ?_
      refine sv_iload_n (pc := 12) dX12_open_12 rfl rfl ?_
      refine sv_iload_n (pc := 13) dX12_open_13 rfl rfl ?_
      refine sv_aload_n (pc := 14) dX12_open_14 rfl rfl ?_
      refine sw_getfield (pc := 15) dX12_open_15 (gCX12 _ _ _ _ _) 121 (by decide) wF_X12_523 rfl rfl rfl ?_
      refine sv_iload_n (pc := 18) dX12_open_18 rfl rfl ?_
      refine sw_iaload (pc := 19) (k := 6) (v := .int 1) dX12_open_19 rfl rfl rfl (by decide) (by decide) rfl rfl ?_
      refine sw_idiv (pc := 20) (v := 0) dX12_open_20 (by decide) (by decide) ?_
      refine sv_aload_n (pc := 21) dX12_open_21 rfl rfl ?_
      refine sw_getfield (pc := 22) dX12_open_22 (gCX12 _ _ _ _ _) 118 (by decide) wF_X12_514 rfl rfl rfl ?_
      refine sv_iload_n (pc := 25) dX12_open_25 rfl rfl ?_
      refine sw_iaload (pc := 26) (k := 6) (v := .int 0) dX12_open_26 rfl rfl rfl (by decide) (by decide) rfl rfl ?_
      refine sv_iconst (pc := 27) (v := 1) dX12_open_27 (by decide) ?_
      refine sw_iadd (pc := 28) (v := 1) dX12_open_28 (by decide) ?_
      refine sw_irem (pc := 29) (v := 0) dX12_open_29 (by decide) (by decide) ?_
      refine sw_iastore (pc := 30) (k := 6) (v := .int 0) dX12_open_30 rfl rfl rfl (by decide) (by decide) rfl rfl ?_
      refine sw_iinc (pc := 31) (v := 7) dX12_open_31 rfl (by decide) (by decide) ?_
      refine sv_goto (pc := 34) (tgt := 2) dX12_open_34 (by decide) ?_
      refine sv_iload_n (pc := 2) dX12_open_2 rfl rfl ?_
      refine sv_bipush (pc := 3) (v := 6) dX12_open_3 (by decide) ?_
      refine sv_icmp_gt (pc := 5) (tgt := 37) dX12_open_5 (by decide) (fun _ => ?_) (fun h => absurd (by decide) h)
      refine sv_vret (pc := 37) dX12_open_37 rfl (le_t rfl) (le_t rfl) ?_
      refine sv_iconst (pc := 100) (v := 1) dX12_tries_100 (by decide) ?_
      refine sv_istore (pc := 101) dX12_tries_101 (by decide) ?_
      refine sv_iload (pc := 103) dX12_tries_103 rfl ?_
      refine sv_bipush (pc := 105) (v := 6) dX12_tries_105 (by decide) ?_
      refine sv_icmp_gt (pc := 107) (tgt := 202) dX12_tries_107 (by decide) (fun h => absurd h (by decide)) (fun _ => ?_)
      refine sv_aload_n (pc := 110) dX12_tries_110 rfl rfl ?_
      refine sv_iload (pc := 111) dX12_tries_111 rfl ?_
      refine sv_callV (pc := 113) (M' := mX12_acted) (d' := 19) (C' := 0) (S' := 0) (av := [.int 1]) ?_ (gOk _ _ _ _ _) dX12_tries_113 (tX12_acted _ _ _ _ _) ⟨wV_X12_acted, wL_X12_acted⟩ wM_X12_725 (gCX12 _ _ _ _ _) rfl (lt_t rfl) rfl ⟨le_t rfl, le_t rfl⟩ ⟨le_t rfl, le_t rfl⟩ rfl (le_t rfl) (fun _ _ h => h)
      refine sC.of rfl (by decide) (le_t rfl) ?_
      refine sv_iconst (pc := 0) (v := 0) dX12_acted_0 (by decide) ?_
      refine sv_istore_n (pc := 1) dX12_acted_1 rfl (by decide) ?_
      refine sv_iload_n (pc := 2) dX12_acted_2 rfl rfl ?_
      refine sv_aload_n (pc := 3) dX12_acted_3 rfl rfl ?_
      refine sw_getfield (pc := 4) dX12_acted_4 (gCX12 _ _ _ _ _) 118 (by decide) wF_X12_514 rfl rfl rfl ?_
      refine sv_iload_n (pc := 7) dX12_acted_7 rfl rfl ?_
      refine sw_iaload (pc := 8) (k := 1) (v := .int 0) dX12_acted_8 rfl rfl rfl (by decide) (by decide) rfl rfl ?_
      refine sv_icmp_ge (pc := 9) (tgt := 32) dX12_acted_9 (by decide) (fun _ => ?_) (fun h => absurd (by decide) h)
      refine sv_aload_n (pc := 32) dX12_acted_32 rfl rfl ?_
      refine sw_getfield (pc := 33) dX12_acted_33 (gCX12 _ _ _ _ _) 118 (by decide) wF_X12_514 rfl rfl rfl ?_
      refine sv_iload_n (pc := 36) dX12_acted_36 rfl rfl ?_
      refine sw_iaload (pc := 37) (k := 1) (v := .int 0) dX12_acted_37 rfl rfl rfl (by decide) (by decide) rfl rfl ?_
      refine sv_iret (pc := 38) dX12_acted_38 rfl (le_t rfl) (le_t rfl) ?_
      refine sv_istore (pc := 116) dX12_tries_116 (by decide) ?_
      refine sv_iload (pc := 118) dX12_tries_118 rfl ?_
      refine sv_aload_n (pc := 120) dX12_tries_120 rfl rfl ?_
      refine sw_getfield (pc := 121) dX12_tries_121 (gCX12 _ _ _ _ _) 122 (by decide) wF_X12_526 rfl rfl rfl ?_
      refine sv_iload (pc := 124) dX12_tries_124 rfl ?_
      refine sw_iaload (pc := 126) (k := 1) (v := .int 0) dX12_tries_126 rfl rfl rfl (by decide) (by decide) rfl rfl ?_
      refine sv_icmp_ne (pc := 127) (tgt := 133) dX12_tries_127 (by decide) (fun h => absurd (by decide) h) (fun _ => ?_)
      refine sv_goto (pc := 130) (tgt := 196) dX12_tries_130 (by decide) ?_
      refine sw_iinc (pc := 196) (v := 2) dX12_tries_196 rfl (by decide) (by decide) ?_
      refine sv_goto (pc := 199) (tgt := 103) dX12_tries_199 (by decide) ?_
      refine sv_iload (pc := 103) dX12_tries_103 rfl ?_
      refine sv_bipush (pc := 105) (v := 6) dX12_tries_105 (by decide) ?_
      refine sv_icmp_gt (pc := 107) (tgt := 202) dX12_tries_107 (by decide) (fun h => absurd h (by decide)) (fun _ => ?_)
      refine sv_aload_n (pc := 110) dX12_tries_110 rfl rfl ?_
      refine sv_iload (pc := 111) dX12_tries_111 rfl ?_
      refine sv_callV (pc := 113) (M' := mX12_acted) (d' := 19) (C' := 0) (S' := 0) (av := [.int 2]) ?_ (gOk _ _ _ _ _) dX12_tries_113 (tX12_acted _ _ _ _ _) ⟨wV_X12_acted, wL_X12_acted⟩ wM_X12_725 (gCX12 _ _ _ _ _) rfl (lt_t rfl) rfl ⟨le_t rfl, le_t rfl⟩ ⟨le_t rfl, le_t rfl⟩ rfl (le_t rfl) (fun _ _ h => h)
      refine sC.of rfl (by decide) (le_t rfl) ?_
      refine sv_iconst (pc := 0) (v := 0) dX12_acted_0 (by decide) ?_
      refine sv_istore_n (pc := 1) dX12_acted_1 rfl (by decide) ?_
      refine sv_iload_n (pc := 2) dX12_acted_2 rfl rfl ?_
      refine sv_aload_n (pc := 3) dX12_acted_3 rfl rfl ?_
      refine sw_getfield (pc := 4) dX12_acted_4 (gCX12 _ _ _ _ _) 118 (by decide) wF_X12_514 rfl rfl rfl ?_
      refine sv_iload_n (pc := 7) dX12_acted_7 rfl rfl ?_
      refine sw_iaload (pc := 8) (k := 2) (v := .int 0) dX12_acted_8 rfl rfl rfl (by decide) (by decide) rfl rfl ?_
      refine sv_icmp_ge (pc := 9) (tgt := 32) dX12_acted_9 (by decide) (fun _ => ?_) (fun h => absurd (by decide) h)
      refine sv_aload_n (pc := 32) dX12_acted_32 rfl rfl ?_
      refine sw_getfield (pc := 33) dX12_acted_33 (gCX12 _ _ _ _ _) 118 (by decide) wF_X12_514 rfl rfl rfl ?_
      refine sv_iload_n (pc := 36) dX12_acted_36 rfl rfl ?_
      refine sw_iaload (pc := 37) (k := 2) (v := .int 0) dX12_acted_37 rfl rfl rfl (by decide) (by decide) rfl rfl ?_
      refine sv_iret (pc := 38) dX12_acted_38 rfl (le_t rfl) (le_t rfl) ?_
      refine sv_istore (pc := 116) dX12_tries_116 (by decide) ?_
      refine sv_iload (pc := 118) dX12_tries_118 rfl ?_
      refine sv_aload_n (pc := 120) dX12_tries_120 rfl rfl ?_
      refine sw_getfield (pc := 121) dX12_tries_121 (gCX12 _ _ _ _ _) 122 (by decide) wF_X12_526 rfl rfl rfl ?_
      refine sv_iload (pc := 124) dX12_tries_124 rfl ?_
      refine sw_iaload (pc := 126) (k := 2) (v := .int 0) dX12_tries_126 rfl rfl rfl (by decide) (by decide) rfl rfl ?_
      refine sv_icmp_ne (pc := 127) (tgt := 133) dX12_tries_127 (by decide) (fun h => absurd (by decide) h) (fun _ => ?_)
      refine sv_goto (pc := 130) (tgt := 196) dX12_tries_130 (by decide) ?_
      refine sw_iinc (pc := 196) (v := 3) dX12_tries_196 rfl (by decide) (by decide) ?_
      refine sv_goto (pc := 199) (tgt := 103) dX12_tries_199 (by decide) ?_
      refine sv_iload (pc := 103) dX12_tries_103 rfl ?_
      refine sv_bipush (pc := 105) (v := 6) dX12_tries_105 (by decide) ?_
      refine sv_icmp_gt (pc := 107) (tgt := 202) dX12_tries_107 (by decide) (fun h => absurd h (by decide)) (fun _ => ?_)
      refine sv_aload_n (pc := 110) dX12_tries_110 rfl rfl ?_
      refine sv_iload (pc := 111) dX12_tries_111 rfl ?_
      refine sv_callV (pc := 113) (M' := mX12_acted) (d' := 19) (C' := 0) (S' := 0) (av := [.int 3]) ?_ (gOk _ _ _ _ _) dX12_tries_113 (tX12_acted _ _ _ _ _) ⟨wV_X12_acted, wL_X12_acted⟩ wM_X12_725 (gCX12 _ _ _ _ _) rfl (lt_t rfl) rfl ⟨le_t rfl, le_t rfl⟩ ⟨le_t rfl, le_t rfl⟩ rfl (le_t rfl) (fun _ _ h => h)
      refine sC.of rfl (by decide) (le_t rfl) ?_
      refine sv_iconst (pc := 0) (v := 0) dX12_acted_0 (by decide) ?_
      refine sv_istore_n (pc := 1) dX12_acted_1 rfl (by decide) ?_
      refine sv_iload_n (pc := 2) dX12_acted_2 rfl rfl ?_
      refine sv_aload_n (pc := 3) dX12_acted_3 rfl rfl ?_
      refine sw_getfield (pc := 4) dX12_acted_4 (gCX12 _ _ _ _ _) 118 (by decide) wF_X12_514 rfl rfl rfl ?_
      refine sv_iload_n (pc := 7) dX12_acted_7 rfl rfl ?_
      refine sw_iaload (pc := 8) (k := 3) (v := .int 0) dX12_acted_8 rfl rfl rfl (by decide) (by decide) rfl rfl ?_
      refine sv_icmp_ge (pc := 9) (tgt := 32) dX12_acted_9 (by decide) (fun _ => ?_) (fun h => absurd (by decide) h)
      refine sv_aload_n (pc := 32) dX12_acted_32 rfl rfl ?_
      refine sw_getfield (pc := 33) dX12_acted_33 (gCX12 _ _ _ _ _) 118 (by decide) wF_X12_514 rfl rfl rfl ?_
      refine sv_iload_n (pc := 36) dX12_acted_36 rfl rfl ?_
      refine sw_iaload (pc := 37) (k := 3) (v := .int 0) dX12_acted_37 rfl rfl rfl (by decide) (by decide) rfl rfl ?_
      refine sv_iret (pc := 38) dX12_acted_38 rfl (le_t rfl) (le_t rfl) ?_
      refine sv_istore (pc := 116) dX12_tries_116 (by decide) ?_
      refine sv_lvG (pc := 118) (lv' := [(0, .ref 106), (1, .int 2), (2, .int 1), (3, .int 1), (4, .int 0), (5, .int (-99999999)), (6, .int 0), (7, .int 0), (8, .int 1), (9, .int 3), (10, .int 0)]) (List.forall_mem_cons.mpr ⟨rfl, List.forall_mem_cons.mpr ⟨rfl, List.forall_mem_cons.mpr ⟨rfl, List.forall_mem_cons.mpr ⟨rfl, List.forall_mem_cons.mpr ⟨rfl, List.forall_mem_cons.mpr ⟨rfl, List.forall_mem_cons.mpr ⟨rfl, List.forall_mem_cons.mpr ⟨rfl, List.forall_mem_cons.mpr ⟨rfl, List.forall_mem_cons.mpr ⟨rfl, List.forall_mem_cons.mpr ⟨rfl, fun _ h => absurd h List.not_mem_nil⟩⟩⟩⟩⟩⟩⟩⟩⟩⟩⟩) ?_
      refine sv_iload (pc := 118) dX12_tries_118 rfl ?_
      refine sv_aload_n (pc := 120) dX12_tries_120 rfl rfl ?_
      refine sw_getfield (pc := 121) dX12_tries_121 (gCX12 _ _ _ _ _) 122 (by decide) wF_X12_526 rfl rfl rfl ?_
      refine sv_iload (pc := 124) dX12_tries_124 rfl ?_
      refine sw_iaload (pc := 126) (k := 3) (v := .int 0) dX12_tries_126 rfl rfl rfl (by decide) (by decide) rfl rfl ?_
      refine sv_icmp_ne (pc := 127) (tgt := 133) dX12_tries_127 (by decide) (fun h => absurd (by decide) h) (fun _ => ?_)
      refine sv_goto (pc := 130) (tgt := 196) dX12_tries_130 (by decide) ?_
      refine sw_iinc (pc := 196) (v := 4) dX12_tries_196 rfl (by decide) (by decide) ?_
      refine sv_goto (pc := 199) (tgt := 103) dX12_tries_199 (by decide) ?_
      refine sv_iload (pc := 103) dX12_tries_103 rfl ?_
      refine sv_bipush (pc := 105) (v := 6) dX12_tries_105 (by decide) ?_
      refine sv_icmp_gt (pc := 107) (tgt := 202) dX12_tries_107 (by decide) (fun h => absurd h (by decide)) (fun _ => ?_)
      refine sv_aload_n (pc := 110) dX12_tries_110 rfl rfl ?_
      refine sv_iload (pc := 111) dX12_tries_111 rfl ?_
      refine sv_callV (pc := 113) (M' := mX12_acted) (d' := 19) (C' := 0) (S' := 0) (av := [.int 4]) ?_ (gOk _ _ _ _ _) dX12_tries_113 (tX12_acted _ _ _ _ _) ⟨wV_X12_acted, wL_X12_acted⟩ wM_X12_725 (gCX12 _ _ _ _ _) rfl (lt_t rfl) rfl ⟨le_t rfl, le_t rfl⟩ ⟨le_t rfl, le_t rfl⟩ rfl (le_t rfl) (fun _ _ h => h)
      refine sC.of rfl (by decide) (le_t rfl) ?_
      refine sv_iconst (pc := 0) (v := 0) dX12_acted_0 (by decide) ?_
      refine sv_istore_n (pc := 1) dX12_acted_1 rfl (by decide) ?_
      refine sv_iload_n (pc := 2) dX12_acted_2 rfl rfl ?_
      refine sv_aload_n (pc := 3) dX12_acted_3 rfl rfl ?_
      refine sw_getfield (pc := 4) dX12_acted_4 (gCX12 _ _ _ _ _) 118 (by decide) wF_X12_514 rfl rfl rfl ?_
      refine sv_iload_n (pc := 7) dX12_acted_7 rfl rfl ?_
      refine sw_iaload (pc := 8) (k := 4) (v := .int 0) dX12_acted_8 rfl rfl rfl (by decide) (by decide) rfl rfl ?_
      refine sv_icmp_ge (pc := 9) (tgt := 32) dX12_acted_9 (by decide) (fun _ => ?_) (fun h => absurd (by decide) h)
      refine sv_aload_n (pc := 32) dX12_acted_32 rfl rfl ?_
      refine sw_getfield (pc := 33) dX12_acted_33 (gCX12 _ _ _ _ _) 118 (by decide) wF_X12_514 rfl rfl rfl ?_
      refine sv_iload_n (pc := 36) dX12_acted_36 rfl rfl ?_
      refine sw_iaload (pc := 37) (k := 4) (v := .int 0) dX12_acted_37 rfl rfl rfl (by decide) (by decide) rfl rfl ?_
      refine sv_iret (pc := 38) dX12_acted_38 rfl (le_t rfl) (le_t rfl) ?_
      refine sv_istore (pc := 116) dX12_tries_116 (by decide) ?_
      refine sv_iload (pc := 118) dX12_tries_118 rfl ?_
      refine sv_aload_n (pc := 120) dX12_tries_120 rfl rfl ?_
      refine sw_getfield (pc := 121) dX12_tries_121 (gCX12 _ _ _ _ _) 122 (by decide) wF_X12_526 rfl rfl rfl ?_
      refine sv_iload (pc := 124) dX12_tries_124 rfl ?_
      refine sw_iaload (pc := 126) (k := 4) (v := .int 0) dX12_tries_126 rfl rfl rfl (by decide) (by decide) rfl rfl ?_
      refine sv_icmp_ne (pc := 127) (tgt := 133) dX12_tries_127 (by decide) (fun h => absurd (by decide) h) (fun _ => ?_)
      refine sv_goto (pc := 130) (tgt := 196) dX12_tries_130 (by decide) ?_
      refine sw_iinc (pc := 196) (v := 5) dX12_tries_196 rfl (by decide) (by decide) ?_
      refine sv_goto (pc := 199) (tgt := 103) dX12_tries_199 (by decide) ?_
      refine sv_iload (pc := 103) dX12_tries_103 rfl ?_
      refine sv_bipush (pc := 105) (v := 6) dX12_tries_105 (by decide) ?_
      refine sv_icmp_gt (pc := 107) (tgt := 202) dX12_tries_107 (by decide) (fun h => absurd h (by decide)) (fun _ => ?_)
      refine sv_aload_n (pc := 110) dX12_tries_110 rfl rfl ?_
      refine sv_iload (pc := 111) dX12_tries_111 rfl ?_
      refine sv_callV (pc := 113) (M' := mX12_acted) (d' := 19) (C' := 0) (S' := 0) (av := [.int 5]) ?_ (gOk _ _ _ _ _) dX12_tries_113 (tX12_acted _ _ _ _ _) ⟨wV_X12_acted, wL_X12_acted⟩ wM_X12_725 (gCX12 _ _ _ _ _) rfl (lt_t rfl) rfl ⟨le_t rfl, le_t rfl⟩ ⟨le_t rfl, le_t rfl⟩ rfl (le_t rfl) (fun _ _ h => h)
      refine sC.of rfl (by decide) (le_t rfl) ?_
      refine sv_iconst (pc := 0) (v := 0) dX12_acted_0 (by decide) ?_
      refine sv_istore_n (pc := 1) dX12_acted_1 rfl (by decide) ?_
      refine sv_iload_n (pc := 2) dX12_acted_2 rfl rfl ?_
      refine sv_aload_n (pc := 3) dX12_acted_3 rfl rfl ?_
      refine sw_getfield (pc := 4) dX12_acted_4 (gCX12 _ _ _ _ _) 118 (by decide) wF_X12_514 rfl rfl rfl ?_
      refine sv_iload_n (pc := 7) dX12_acted_7 rfl rfl ?_
      refine sw_iaload (pc := 8) (k := 5) (v := .int 0) dX12_acted_8 rfl rfl rfl (by decide) (by decide) rfl rfl ?_
      refine sv_icmp_ge (pc := 9) (tgt := 32) dX12_acted_9 (by decide) (fun _ => ?_) (fun h => absurd (by decide) h)
      refine sv_aload_n (pc := 32) dX12_acted_32 rfl rfl ?_
      refine sw_getfield (pc := 33) dX12_acted_33 (gCX12 _ _ _ _ _) 118 (by decide) wF_X12_514 rfl rfl rfl ?_
      refine sv_iload_n (pc := 36) dX12_acted_36 rfl rfl ?_
      refine sw_iaload (pc := 37) (k := 5) (v := .int 0) dX12_acted_37 rfl rfl rfl (by decide) (by decide) rfl rfl ?_
      refine sv_iret (pc := 38) dX12_acted_38 rfl (le_t rfl) (le_t rfl) ?_
      refine sv_istore (pc := 116) dX12_tries_116 (by decide) ?_
      refine sv_iload (pc := 118) dX12_tries_118 rfl ?_
      refine sv_aload_n (pc := 120) dX12_tries_120 rfl rfl ?_
      refine sw_getfield (pc := 121) dX12_tries_121 (gCX12 _ _ _ _ _) 122 (by decide) wF_X12_526 rfl rfl rfl ?_
      refine sv_iload (pc := 124) dX12_tries_124 rfl ?_
      refine sw_iaload (pc := 126) (k := 5) (v := .int 0) dX12_tries_126 rfl rfl rfl (by decide) (by decide) rfl rfl ?_
      refine sv_icmp_ne (pc := 127) (tgt := 133) dX12_tries_127 (by decide) (fun h => absurd (by decide) h) (fun _ => ?_)
      refine sv_goto (pc := 130) (tgt := 196) dX12_tries_130 (by decide) ?_
      refine sw_iinc (pc := 196) (v := 6) dX12_tries_196 rfl (by decide) (by decide) ?_
      refine sv_goto (pc := 199) (tgt := 103) dX12_tries_199 (by decide) ?_
      refine sv_iload (pc := 103) dX12_tries_103 rfl ?_
      refine sv_bipush (pc := 105) (v := 6) dX12_tries_105 (by decide) ?_
      refine sv_icmp_gt (pc := 107) (tgt := 202) dX12_tries_107 (by decide) (fun h => absurd h (by decide)) (fun _ => ?_)
      refine sv_aload_n (pc := 110) dX12_tries_110 rfl rfl ?_
      refine sv_iload (pc := 111) dX12_tries_111 rfl ?_
      refine sv_callV (pc := 113) (M' := mX12_acted) (d' := 19) (C' := 0) (S' := 0) (av := [.int 6]) ?_ (gOk _ _ _ _ _) dX12_tries_113 (tX12_acted _ _ _ _ _) ⟨wV_X12_acted, wL_X12_acted⟩ wM_X12_725 (gCX12 _ _ _ _ _) rfl (lt_t rfl) rfl ⟨le_t rfl, le_t rfl⟩ ⟨le_t rfl, le_t rfl⟩ rfl (le_t rfl) (fun _ _ h => h)
      refine sC.of rfl (by decide) (le_t rfl) ?_
      refine sv_iconst (pc := 0) (v := 0) dX12_acted_0 (by decide) ?_
      refine sv_istore_n (pc := 1) dX12_acted_1 rfl (by decide) ?_
      refine sv_iload_n (pc := 2) dX12_acted_2 rfl rfl ?_
      refine sv_aload_n (pc := 3) dX12_acted_3 rfl rfl ?_
      refine sw_getfield (pc := 4) dX12_acted_4 (gCX12 _ _ _ _ _) 118 (by decide) wF_X12_514 rfl rfl rfl ?_
      refine sv_iload_n (pc := 7) dX12_acted_7 rfl rfl ?_
      refine sw_iaload (pc := 8) (k := 6) (v := .int 0) dX12_acted_8 rfl rfl rfl (by decide) (by decide) rfl rfl ?_
      refine sv_icmp_ge (pc := 9) (tgt := 32) dX12_acted_9 (by decide) (fun _ => ?_) (fun h => absurd (by decide) h)
      refine sv_aload_n (pc := 32) dX12_acted_32 rfl rfl ?_
      refine sw_getfield (pc := 33) dX12_acted_33 (gCX12 _ _ _ _ _) 118 (by decide) wF_X12_514 rfl rfl rfl ?_
      refine sv_iload_n (pc := 36) dX12_acted_36 rfl rfl ?_
      refine sw_iaload (pc := 37) (k := 6) (v := .int 0) dX12_acted_37 rfl rfl rfl (by decide) (by decide) rfl rfl ?_
      refine sv_iret (pc := 38) dX12_acted_38 rfl (le_t rfl) (le_t rfl) ?_
      refine sv_istore (pc := 116) dX12_tries_116 (by decide) ?_
      refine sv_iload (pc := 118) dX12_tries_118 rfl ?_
      refine sv_aload_n (pc := 120) dX12_tries_120 rfl rfl ?_
      refine sw_getfield (pc := 121) dX12_tries_121 (gCX12 _ _ _ _ _) 122 (by decide) wF_X12_526 rfl rfl rfl ?_
      refine sv_iload (pc := 124) dX12_tries_124 rfl ?_
      refine sw_iaload (pc := 126) (k := 6) (v := .int 0) dX12_tries_126 rfl rfl rfl (by decide) (by decide) rfl rfl ?_
      refine sv_icmp_ne (pc := 127) (tgt := 133) dX12_tries_127 (by decide) (fun h => absurd (by decide) h) (fun _ => ?_)
      refine sv_goto (pc := 130) (tgt := 196) dX12_tries_130 (by decide) ?_
      refine sw_iinc (pc := 196) (v := 7) dX12_tries_196 rfl (by decide) (by decide) ?_
      refine sv_goto (pc := 199) (tgt := 103) dX12_tries_199 (by decide) ?_
      refine sv_iload (pc := 103) dX12_tries_103 rfl ?_
      refine sv_bipush (pc := 105) (v := 6) dX12_tries_105 (by decide) ?_
      refine sv_icmp_gt (pc := 107) (tgt := 202) dX12_tries_107 (by decide) (fun _ => ?_) (fun h => absurd (by decide) h)
      refine sv_iload (pc := 202) dX12_tries_202 rfl ?_
      refine sv_if_eq (pc := 204) (tgt := 234) dX12_tries_204 (by decide) (fun h => absurd h (by decide)) (fun _ => ?_)
      refine sw_iinc (pc := 207) (v := 1) dX12_tries_207 rfl (by decide) (by decide) ?_
      refine sv_lvG (pc := 210) (lv' := [(0, .ref 106), (1, .int 2), (2, .int 1), (3, .int 1), (4, .int 1), (5, .int (-99999999)), (6, .int 0), (7, .int 0), (8, .int 1), (9, .int 7), (10, .int 0)]) (List.forall_mem_cons.mpr ⟨rfl, List.forall_mem_cons.mpr ⟨rfl, List.forall_mem_cons.mpr ⟨rfl, List.forall_mem_cons.mpr ⟨rfl, List.forall_mem_cons.mpr ⟨rfl, List.forall_mem_cons.mpr ⟨rfl, List.forall_mem_cons.mpr ⟨rfl, List.forall_mem_cons.mpr ⟨rfl, List.forall_mem_cons.mpr ⟨rfl, List.forall_mem_cons.mpr ⟨rfl, List.forall_mem_cons.mpr ⟨rfl, fun _ h => absurd h List.not_mem_nil⟩⟩⟩⟩⟩⟩⟩⟩⟩⟩⟩) ?_
      refine sv_aload_n (pc := 210) dX12_tries_210 rfl rfl ?_
      refine sw_getfield (pc := 211) dX12_tries_211 (gCX12 _ _ _ _ _) 125 (by decide) wF_X12_536 rfl rfl rfl ?_
      refine sv_iload (pc := 214) dX12_tries_214 rfl ?_
      refine sv_iconst (pc := 216) (v := 1) dX12_tries_216 (by decide) ?_
      refine sw_zastore (pc := 217) (k := 0) (v := .int 1) dX12_tries_217 rfl rfl rfl (by decide) (by decide) rfl (by decide) ?_
      refine sv_iload (pc := 218) dX12_tries_218 rfl ?_
      refine sv_ldc (pc := 220) dX12_tries_220 wG_X12_29 ?_
      refine sv_icmp_ne (pc := 222) (tgt := 234) dX12_tries_222 (by decide) (fun h => absurd (by decide) h) (fun _ => ?_)
      refine sv_aload_n (pc := 225) dX12_tries_225 rfl rfl ?_
      refine sw_getfield (pc := 226) dX12_tries_226 (gCX12 _ _ _ _ _) 123 (by decide) wF_X12_530 rfl rfl rfl ?_
      refine sv_iload (pc := 229) dX12_tries_229 rfl ?_
      refine sw_iaload (pc := 231) (k := 0) (v := .int 0) dX12_tries_231 rfl rfl rfl (by decide) (by decide) rfl rfl ?_
      refine sv_istore (pc := 232) dX12_tries_232 (by decide) ?_
      refine sw_iinc (pc := 234) (v := 1) dX12_tries_234 rfl (by decide) (by decide) ?_
      refine sv_goto (pc := 237) (tgt := 76) dX12_tries_237 (by decide) ?_
      refine sv_iload (pc := 76) dX12_tries_76 rfl ?_
      refine sv_iload_n (pc := 78) dX12_tries_78 rfl rfl ?_
      refine sv_icmp_ge (pc := 79) (tgt := 240) dX12_tries_79 (by decide) (fun _ => ?_) (fun h => absurd (by decide) h)
      refine sv_iload_n (pc := 240) dX12_tries_240 rfl rfl ?_
      refine sv_if_ne (pc := 241) (tgt := 246) dX12_tries_241 (by decide) (fun _ => ?_) (fun h => absurd h (by decide))
      refine sv_iload_n (pc := 246) dX12_tries_246 rfl rfl ?_
      refine sv_iconst (pc := 247) (v := 1) dX12_tries_247 (by decide) ?_
      refine sv_icmp_ne (pc := 248) (tgt := 254) dX12_tries_248 (by decide) (fun _ => ?_) (fun h => absurd h (by decide))
      refine sv_iload_n (pc := 254) dX12_tries_254 rfl rfl ?_
      refine sv_iconst (pc := 255) (v := 3) dX12_tries_255 (by decide) ?_
      refine sv_icmp_ne (pc := 256) (tgt := 262) dX12_tries_256 (by decide) (fun _ => ?_) (fun h => absurd h (by decide))
      refine sv_iconst (pc := 262) (v := 1) dX12_tries_262 (by decide) ?_
      refine sv_istore (pc := 263) dX12_tries_263 (by decide) ?_
      refine sv_iload (pc := 265) dX12_tries_265 rfl ?_
      refine sv_if_eq (pc := 267) (tgt := 405) dX12_tries_267 (by decide) (fun h => absurd h (by decide)) (fun _ => ?_)
      refine sv_iconst (pc := 270) (v := 0) dX12_tries_270 (by decide) ?_
      refine sv_istore (pc := 271) dX12_tries_271 (by decide) ?_
      refine sv_iload_n (pc := 273) dX12_tries_273 rfl rfl ?_
      refine sv_iconst (pc := 274) (v := 1) dX12_tries_274 (by decide) ?_
      refine sw_isub (pc := 275) (v := 0) dX12_tries_275 (by decide) ?_
      refine sv_istore (pc := 276) dX12_tries_276 (by decide) ?_
      refine sv_iload (pc := 278) dX12_tries_278 rfl ?_
      refine sv_if_lt (pc := 280) (tgt := 402) dX12_tries_280 (by decide) (fun h => absurd h (by decide)) (fun _ => ?_)
      refine sv_aload_n (pc := 283) dX12_tries_283 rfl rfl ?_
      refine sw_getfield (pc := 284) dX12_tries_284 (gCX12 _ _ _ _ _) 124 (by decide) wF_X12_533 rfl rfl rfl ?_
      refine sv_iload (pc := 287) dX12_tries_287 rfl ?_
      refine sw_iaload (pc := 289) (k := 0) (v := .int 0) dX12_tries_289 rfl rfl rfl (by decide) (by decide) rfl rfl ?_
      refine sv_istore (pc := 290) dX12_tries_290 (by decide) ?_
      refine sv_aload_n (pc := 292) dX12_tries_292 rfl rfl ?_
      refine sw_getfield (pc := 293) dX12_tries_293 (gCX12 _ _ _ _ _) 125 (by decide) wF_X12_536 rfl rfl rfl ?_
      refine sv_iload (pc := 296) dX12_tries_296 rfl ?_
      refine sw_zaload (pc := 298) (k := 0) (v := .int 1) dX12_tries_298 rfl rfl rfl (by decide) (by decide) rfl rfl ?_
      refine sv_if_eq (pc := 299) (tgt := 305) dX12_tries_299 (by decide) (fun h => absurd h (by decide)) (fun _ => ?_)
      refine sv_goto (pc := 302) (tgt := 396) dX12_tries_302 (by decide) ?_
      refine sw_iinc (pc := 396) (v := (-1)) dX12_tries_396 rfl (by decide) (by decide) ?_
      refine sv_goto (pc := 399) (tgt := 278) dX12_tries_399 (by decide) ?_
      refine sv_iload (pc := 278) dX12_tries_278 rfl ?_
      refine sv_if_lt (pc := 280) (tgt := 402) dX12_tries_280 (by decide) (fun _ => ?_) (fun h => absurd (by decide) h)
      refine sv_goto (pc := 402) (tgt := 265) dX12_tries_402 (by decide) ?_
      refine sv_iload (pc := 265) dX12_tries_265 rfl ?_
      refine sv_if_eq (pc := 267) (tgt := 405) dX12_tries_267 (by decide) (fun _ => ?_) (fun h => absurd (by decide) h)
      refine sv_iconst (pc := 405) (v := 0) dX12_tries_405 (by decide) ?_
      refine sv_istore (pc := 406) dX12_tries_406 (by decide) ?_
      refine sv_lvG (pc := 408) (lv' := [(0, .ref 106), (1, .int 2), (2, .int 1), (3, .int 1), (4, .int 1), (5, .int 0), (6, .int 0), (7, .int 0), (8, .int 0), (9, .int 7), (10, .int 0)]) (List.forall_mem_cons.mpr ⟨rfl, List.forall_mem_cons.mpr ⟨rfl, List.forall_mem_cons.mpr ⟨rfl, List.forall_mem_cons.mpr ⟨rfl, List.forall_mem_cons.mpr ⟨rfl, List.forall_mem_cons.mpr ⟨rfl, List.forall_mem_cons.mpr ⟨rfl, List.forall_mem_cons.mpr ⟨rfl, List.forall_mem_cons.mpr ⟨rfl, List.forall_mem_cons.mpr ⟨rfl, List.forall_mem_cons.mpr ⟨rfl, fun _ h => absurd h List.not_mem_nil⟩⟩⟩⟩⟩⟩⟩⟩⟩⟩⟩) ?_
      refine sv_iconst (pc := 408) (v := 0) dX12_tries_408 (by decide) ?_
      refine sv_istore (pc := 409) dX12_tries_409 (by decide) ?_
      refine sv_iload (pc := 411) dX12_tries_411 rfl ?_
      refine sv_iload_n (pc := 413) dX12_tries_413 rfl rfl ?_
      refine sv_icmp_ge (pc := 414) (tgt := 448) dX12_tries_414 (by decide) (fun h => absurd h (by decide)) (fun _ => ?_)
      refine sv_iload (pc := 417) dX12_tries_417 rfl ?_
      refine sv_aload_n (pc := 419) dX12_tries_419 rfl rfl ?_
      refine sw_getfield (pc := 420) dX12_tries_420 (gCX12 _ _ _ _ _) 125 (by decide) wF_X12_536 rfl rfl rfl ?_
      refine sv_aload_n (pc := 423) dX12_tries_423 rfl rfl ?_
      refine sw_getfield (pc := 424) dX12_tries_424 (gCX12 _ _ _ _ _) 124 (by decide) wF_X12_533 rfl rfl rfl ?_
      refine sv_iload (pc := 427) dX12_tries_427 rfl ?_
      refine sw_iaload (pc := 429) (k := 0) (v := .int 0) dX12_tries_429 rfl rfl rfl (by decide) (by decide) rfl rfl ?_
      refine sw_zaload (pc := 430) (k := 0) (v := .int 1) dX12_tries_430 rfl rfl rfl (by decide) (by decide) rfl rfl ?_
      refine sv_if_eq (pc := 431) (tgt := 438) dX12_tries_431 (by decide) (fun h => absurd h (by decide)) (fun _ => ?_)
      refine sv_iconst (pc := 434) (v := 0) dX12_tries_434 (by decide) ?_
      refine sv_goto (pc := 435) (tgt := 439) dX12_tries_435 (by decide) ?_
      refine sw_iadd (pc := 439) (v := 0) dX12_tries_439 (by decide) ?_
      refine sv_istore (pc := 440) dX12_tries_440 (by decide) ?_
      refine sw_iinc (pc := 442) (v := 1) dX12_tries_442 rfl (by decide) (by decide) ?_
      refine sv_goto (pc := 445) (tgt := 411) dX12_tries_445 (by decide) ?_
      refine sv_iload (pc := 411) dX12_tries_411 rfl ?_
      refine sv_iload_n (pc := 413) dX12_tries_413 rfl rfl ?_
      refine sv_icmp_ge (pc := 414) (tgt := 448) dX12_tries_414 (by decide) (fun _ => ?_) (fun h => absurd (by decide) h)
      refine sv_iload (pc := 448) dX12_tries_448 rfl ?_
      refine sv_iret (pc := 450) dX12_tries_450 rfl (le_t rfl) (le_t rfl) ?_
      refine sv_icmp_eq (pc := 1771) (tgt := 1799) dL_law_1771 (by decide) (fun _ => ?_) (fun h => absurd (by decide) h)
      exact kk _ _ _ (le_t rfl) (le_t rfl)
    by_cases q_6 : x1 = 3
    · subst q_6
      refine sw_iaload (pc := 26) (k := 3) (v := .int 0) dX11_tries_26 rfl rfl rfl (by decide) (by decide) rfl rfl ?_
      refine sv_iret (pc := 27) dX11_tries_27 rfl (le_t rfl) (le_t rfl) ?_
      refine sv_aload_n (pc := 1762) dL_law_1762 rfl rfl ?_
      refine sv_aload_nS (pc := 1763) dL_law_1763 rfl rfl ?_
      refine sv_iload_n (pc := 1764) dL_law_1764 rfl rfl ?_
      refine sv_iconst (pc := 1765) (v := 1) dL_law_1765 (by decide) ?_
      refine sw_iadd (pc := 1766) (v := 1) dL_law_1766 (by decide) ?_
      refine sw_sld (pc := 1767) (v := 3) dL_law_1767 (k := 1) (by decide) (by decide) rfl hx1 ?_
      refine sv_callV (pc := 1768) (M' := mX12_tries) (d' := 20) (C' := 0) (S' := 0) (av := [.int 3]) ?_ (gOk _ _ _ _ _) dL_law_1768 (tX12_tries _ _ _ _ _) ⟨wV_X12_tries, wL_X12_tries⟩ wM_DomainHouseLaw_210 (gCX12 _ _ _ _ _) rfl (lt_t rfl) rfl ⟨le_t rfl, le_t rfl⟩ ⟨le_t rfl, le_t rfl⟩ rfl (le_t rfl) (fun _ _ h => h)
      refine sC.of rfl (by decide) (le_t rfl) ?_
      refine sv_iload_n (pc := 0) dX12_tries_0 rfl rfl ?_
      refine sv_iconst (pc := 1) (v := 0) dX12_tries_1 (by decide) ?_
      refine sv_iconst (pc := 2) (v := 3) dX12_tries_2 (by decide) ?_
      refine sv_callS (pc := 3) (M' := mX12_in) (d' := 19) (C' := 0) (S' := 0) (av := [.int 3, .int 0, .int 3]) ?_ (gOk _ _ _ _ _) dX12_tries_3 (tX12_in _ _ _ _ _) wS_X12_in wM_X12_18 ⟨le_t rfl, le_t rfl⟩ ⟨le_t rfl, le_t rfl⟩ rfl (le_t rfl) (fun _ _ h => h)
      refine sC.of rfl (by decide) (le_t rfl) ?_
      refine sv_iload_n (pc := 0) dX12_in_0 rfl rfl ?_
      refine sv_iload_n (pc := 1) dX12_in_1 rfl rfl ?_
      refine sv_icmp_lt (pc := 2) (tgt := 14) dX12_in_2 (by decide) (fun h => absurd h (by decide)) (fun _ => ?_)
      refine sv_iload_n (pc := 5) dX12_in_5 rfl rfl ?_
      refine sv_iload_n (pc := 6) dX12_in_6 rfl rfl ?_
      refine sv_icmp_gt (pc := 7) (tgt := 14) dX12_in_7 (by decide) (fun h => absurd h (by decide)) (fun _ => ?_)
      refine sv_iconst (pc := 10) (v := 1) dX12_in_10 (by decide) ?_
      refine sv_goto (pc := 11) (tgt := 15) dX12_in_11 (by decide) ?_
      refine sv_zret (pc := 15) dX12_in_15 rfl (by decide) (le_t rfl) (le_t rfl) ?_
      refine sv_if_ne (pc := 6) (tgt := 11) dX12_tries_6 (by decide) (fun _ => ?_) (fun h => absurd h (by decide))
      refine sv_aload_n (pc := 11) dX12_tries_11 rfl rfl ?_
      refine sv_callV (pc := 12) (M' := mX12_states) (d' := 19) (C' := 0) (S' := 0) (av := []) ?_ (gOk _ _ _ _ _) dX12_tries_12 (tX12_states _ _ _ _ _) ⟨wV_X12_states, wL_X12_states⟩ wM_X12_728 (gCX12 _ _ _ _ _) rfl (lt_t rfl) rfl ⟨le_t rfl, le_t rfl⟩ ⟨le_t rfl, le_t rfl⟩ rfl (le_t rfl) (fun _ _ h => h)
      refine sC.of rfl (by decide) (le_t rfl) ?_
      refine sv_iconst (pc := 0) (v := 1) dX12_states_0 (by decide) ?_
      refine sv_istore_n (pc := 1) dX12_states_1 rfl (by decide) ?_
      refine sv_bipush (pc := 2) (v := 6) dX12_states_2 (by decide) ?_
      refine sv_istore_n (pc := 4) dX12_states_4 rfl (by decide) ?_
      refine sv_iload_n (pc := 5) dX12_states_5 rfl rfl ?_
      refine sv_iconst (pc := 6) (v := 1) dX12_states_6 (by decide) ?_
      refine sv_icmp_lt (pc := 7) (tgt := 34) dX12_states_7 (by decide) (fun h => absurd h (by decide)) (fun _ => ?_)
      refine sv_aload_n (pc := 10) dX12_states_10 rfl rfl ?_
      refine sw_getfield (pc := 11) dX12_states_11 (gCX12 _ _ _ _ _) 121 (by decide) wF_X12_523 rfl rfl rfl ?_
      refine sv_iload_n (pc := 14) dX12_states_14 rfl rfl ?_
      refine sv_iload_n (pc := 15) dX12_states_15 rfl rfl ?_
      refine sw_iastore (pc := 16) (k := 6) (v := .int 1) dX12_states_16 rfl rfl rfl (by decide) (by decide) rfl rfl ?_
      refine sv_iload_n (pc := 17) dX12_states_17 rfl rfl ?_
      refine sv_aload_n (pc := 18) dX12_states_18 rfl rfl ?_
      refine sw_getfield (pc := 19) dX12_states_19 (gCX12 _ _ _ _ _) 118 (by decide) wF_X12_514 rfl rfl rfl ?_
      refine sv_iload_n (pc := 22) dX12_states_22 rfl rfl ?_
      refine sw_iaload (pc := 23) (k := 6) (v := .int 0) dX12_states_23 rfl rfl rfl (by decide) (by decide) rfl rfl ?_
      refine sv_iconst (pc := 24) (v := 1) dX12_states_24 (by decide) ?_
      refine sw_iadd (pc := 25) (v := 1) dX12_states_25 (by decide) ?_
      refine sw_imul (pc := 26) (v := 1) dX12_states_26 (by decide) ?_
      refine sv_istore_n (pc := 27) dX12_states_27 rfl (by decide) ?_
      refine sw_iinc (pc := 28) (v := 5) dX12_states_28 rfl (by decide) (by decide) ?_
      refine sv_goto (pc := 31) (tgt := 5) dX12_states_31 (by decide) ?_
      refine sv_iload_n (pc := 5) dX12_states_5 rfl rfl ?_
      refine sv_iconst (pc := 6) (v := 1) dX12_states_6 (by decide) ?_
      refine sv_icmp_lt (pc := 7) (tgt := 34) dX12_states_7 (by decide) (fun h => absurd h (by decide)) (fun _ => ?_)
      refine sv_aload_n (pc := 10) dX12_states_10 rfl rfl ?_
      refine sw_getfield (pc := 11) dX12_states_11 (gCX12 _ _ _ _ _) 121 (by decide) wF_X12_523 rfl rfl rfl ?_
      refine sv_iload_n (pc := 14) dX12_states_14 rfl rfl ?_
      refine sv_iload_n (pc := 15) dX12_states_15 rfl rfl ?_
      refine sw_iastore (pc := 16) (k := 5) (v := .int 1) dX12_states_16 rfl rfl rfl (by decide) (by decide) rfl rfl ?_
      refine sv_iload_n (pc := 17) dX12_states_17 rfl rfl ?_
      refine sv_aload_n (pc := 18) dX12_states_18 rfl rfl ?_
      refine sw_getfield (pc := 19) dX12_states_19 (gCX12 _ _ _ _ _) 118 (by decide) wF_X12_514 rfl rfl rfl ?_
      refine sv_iload_n (pc := 22) dX12_states_22 rfl rfl ?_
      refine sw_iaload (pc := 23) (k := 5) (v := .int 0) dX12_states_23 rfl rfl rfl (by decide) (by decide) rfl rfl ?_
      refine sv_iconst (pc := 24) (v := 1) dX12_states_24 (by decide) ?_
      refine sw_iadd (pc := 25) (v := 1) dX12_states_25 (by decide) ?_
      refine sw_imul (pc := 26) (v := 1) dX12_states_26 (by decide) ?_
      refine sv_istore_n (pc := 27) dX12_states_27 rfl (by decide) ?_
      refine sw_iinc (pc := 28) (v := 4) dX12_states_28 rfl (by decide) (by decide) ?_
      refine sv_goto (pc := 31) (tgt := 5) dX12_states_31 (by decide) ?_
      refine sv_iload_n (pc := 5) dX12_states_5 rfl rfl ?_
      refine sv_iconst (pc := 6) (v := 1) dX12_states_6 (by decide) ?_
      refine sv_icmp_lt (pc := 7) (tgt := 34) dX12_states_7 (by decide) (fun h => absurd h (by decide)) (fun _ => ?_)
      refine sv_aload_n (pc := 10) dX12_states_10 rfl rfl ?_
      refine sw_getfield (pc := 11) dX12_states_11 (gCX12 _ _ _ _ _) 121 (by decide) wF_X12_523 rfl rfl rfl ?_
      refine sv_iload_n (pc := 14) dX12_states_14 rfl rfl ?_
      refine sv_iload_n (pc := 15) dX12_states_15 rfl rfl ?_
      refine sw_iastore (pc := 16) (k := 4) (v := .int 1) dX12_states_16 rfl rfl rfl (by decide) (by decide) rfl rfl ?_
      refine sv_iload_n (pc := 17) dX12_states_17 rfl rfl ?_
      refine sv_aload_n (pc := 18) dX12_states_18 rfl rfl ?_
      refine sw_getfield (pc := 19) dX12_states_19 (gCX12 _ _ _ _ _) 118 (by decide) wF_X12_514 rfl rfl rfl ?_
      refine sv_iload_n (pc := 22) dX12_states_22 rfl rfl ?_
      refine sw_iaload (pc := 23) (k := 4) (v := .int 0) dX12_states_23 rfl rfl rfl (by decide) (by decide) rfl rfl ?_
      refine sv_iconst (pc := 24) (v := 1) dX12_states_24 (by decide) ?_
      refine sw_iadd (pc := 25) (v := 1) dX12_states_25 (by decide) ?_
      refine sw_imul (pc := 26) (v := 1) dX12_states_26 (by decide) ?_
      refine sv_istore_n (pc := 27) dX12_states_27 rfl (by decide) ?_
      refine sw_iinc (pc := 28) (v := 3) dX12_states_28 rfl (by decide) (by decide) ?_
      refine sv_lvG (pc := 31) (lv' := [(0, .ref 106), (1, .int 1), (2, .int 3)]) (List.forall_mem_cons.mpr ⟨rfl, List.forall_mem_cons.mpr ⟨rfl, List.forall_mem_cons.mpr ⟨rfl, fun _ h => absurd h List.not_mem_nil⟩⟩⟩) ?_
      refine sv_goto (pc := 31) (tgt := 5) dX12_states_31 (by decide) ?_
      refine sv_iload_n (pc := 5) dX12_states_5 rfl rfl ?_
      refine sv_iconst (pc := 6) (v := 1) dX12_states_6 (by decide) ?_
      refine sv_icmp_lt (pc := 7) (tgt := 34) dX12_states_7 (by decide) (fun h => absurd h (by decide)) (fun _ => ?_)
      refine sv_aload_n (pc := 10) dX12_states_10 rfl rfl ?_
      refine sw_getfield (pc := 11) dX12_states_11 (gCX12 _ _ _ _ _) 121 (by decide) wF_X12_523 rfl rfl rfl ?_
      refine sv_iload_n (pc := 14) dX12_states_14 rfl rfl ?_
      refine sv_iload_n (pc := 15) dX12_states_15 rfl rfl ?_
      refine sw_iastore (pc := 16) (k := 3) (v := .int 1) dX12_states_16 rfl rfl rfl (by decide) (by decide) rfl rfl ?_
      refine sv_iload_n (pc := 17) dX12_states_17 rfl rfl ?_
      refine sv_aload_n (pc := 18) dX12_states_18 rfl rfl ?_
      refine sw_getfield (pc := 19) dX12_states_19 (gCX12 _ _ _ _ _) 118 (by decide) wF_X12_514 rfl rfl rfl ?_
      refine sv_iload_n (pc := 22) dX12_states_22 rfl rfl ?_
      refine sw_iaload (pc := 23) (k := 3) (v := .int 0) dX12_states_23 rfl rfl rfl (by decide) (by decide) rfl rfl ?_
      refine sv_iconst (pc := 24) (v := 1) dX12_states_24 (by decide) ?_
      refine sw_iadd (pc := 25) (v := 1) dX12_states_25 (by decide) ?_
      refine sw_imul (pc := 26) (v := 1) dX12_states_26 (by decide) ?_
      refine sv_istore_n (pc := 27) dX12_states_27 rfl (by decide) ?_
      refine sw_iinc (pc := 28) (v := 2) dX12_states_28 rfl (by decide) (by decide) ?_
      refine sv_goto (pc := 31) (tgt := 5) dX12_states_31 (by decide) ?_
      refine sv_iload_n (pc := 5) dX12_states_5 rfl rfl ?_
      refine sv_iconst (pc := 6) (v := 1) dX12_states_6 (by decide) ?_
      refine sv_icmp_lt (pc := 7) (tgt := 34) dX12_states_7 (by decide) (fun h => absurd h (by decide)) (fun _ => ?_)
      refine sv_aload_n (pc := 10) dX12_states_10 rfl rfl ?_
      refine sw_getfield (pc := 11) dX12_states_11 (gCX12 _ _ _ _ _) 121 (by decide) wF_X12_523 rfl rfl rfl ?_
      refine sv_iload_n (pc := 14) dX12_states_14 rfl rfl ?_
      refine sv_iload_n (pc := 15) dX12_states_15 rfl rfl ?_
      refine sw_iastore (pc := 16) (k := 2) (v := .int 1) dX12_states_16 rfl rfl rfl (by decide) (by decide) rfl rfl ?_
      refine sv_iload_n (pc := 17) dX12_states_17 rfl rfl ?_
      refine sv_aload_n (pc := 18) dX12_states_18 rfl rfl ?_
      refine sw_getfield (pc := 19) dX12_states_19 (gCX12 _ _ _ _ _) 118 (by decide) wF_X12_514 rfl rfl rfl ?_
      refine sv_iload_n (pc := 22) dX12_states_22 rfl rfl ?_
      refine sw_iaload (pc := 23) (k := 2) (v := .int 0) dX12_states_23 rfl rfl rfl (by decide) (by decide) rfl rfl ?_
      refine sv_iconst (pc := 24) (v := 1) dX12_states_24 (by decide) ?_
      refine sw_iadd (pc := 25) (v := 1) dX12_states_25 (by decide) ?_
      refine sw_imul (pc := 26) (v := 1) dX12_states_26 (by decide) ?_
      refine sv_istore_n (pc := 27) dX12_states_27 rfl (by decide) ?_
      refine sw_iinc (pc := 28) (v := 1) dX12_states_28 rfl (by decide) (by decide) ?_
      refine sv_goto (pc := 31) (tgt := 5) dX12_states_31 (by decide) ?_
      refine sv_iload_n (pc := 5) dX12_states_5 rfl rfl ?_
      refine sv_iconst (pc := 6) (v := 1) dX12_states_6 (by decide) ?_
      refine sv_icmp_lt (pc := 7) (tgt := 34) dX12_states_7 (by decide) (fun h => absurd h (by decide)) (fun _ => ?_)
      refine sv_aload_n (pc := 10) dX12_states_10 rfl rfl ?_
      refine sw_getfield (pc := 11) dX12_states_11 (gCX12 _ _ _ _ _) 121 (by decide) wF_X12_523 rfl rfl rfl ?_
      refine sv_iload_n (pc := 14) dX12_states_14 rfl rfl ?_
      refine sv_iload_n (pc := 15) dX12_states_15 rfl rfl ?_
      refine sw_iastore (pc := 16) (k := 1) (v := .int 1) dX12_states_16 rfl rfl rfl (by decide) (by decide) rfl rfl ?_
      refine sv_iload_n (pc := 17) dX12_states_17 rfl rfl ?_
      refine sv_aload_n (pc := 18) dX12_states_18 rfl rfl ?_
      refine sw_getfield (pc := 19) dX12_states_19 (gCX12 _ _ _ _ _) 118 (by decide) wF_X12_514 rfl rfl rfl ?_
      refine sv_iload_n (pc := 22) dX12_states_22 rfl rfl ?_
      refine sw_iaload (pc := 23) (k := 1) (v := .int 0) dX12_states_23 rfl rfl rfl (by decide) (by decide) rfl rfl ?_
      refine sv_iconst (pc := 24) (v := 1) dX12_states_24 (by decide) ?_
      refine sw_iadd (pc := 25) (v := 1) dX12_states_25 (by decide) ?_
      refine sw_imul (pc := 26) (v := 1) dX12_states_26 (by decide) ?_
      refine sv_istore_n (pc := 27) dX12_states_27 rfl (by decide) ?_
      refine sw_iinc (pc := 28) (v := 0) dX12_states_28 rfl (by decide) (by decide) ?_
      refine sv_goto (pc := 31) (tgt := 5) dX12_states_31 (by decide) ?_
      refine sv_iload_n (pc := 5) dX12_states_5 rfl rfl ?_
      refine sv_iconst (pc := 6) (v := 1) dX12_states_6 (by decide) ?_
      refine sv_icmp_lt (pc := 7) (tgt := 34) dX12_states_7 (by decide) (fun _ => ?_) (fun h => absurd (by decide) h)
      refine sv_iload_n (pc := 34) dX12_states_34 rfl rfl ?_
      refine sv_iret (pc := 35) dX12_states_35 rfl (le_t rfl) (le_t rfl) ?_
      refine sv_istore_n (pc := 15) dX12_tries_15 rfl (by decide) ?_
      refine sv_iconst (pc := 16) (v := 0) dX12_tries_16 (by decide) ?_
      refine sv_istore_n (pc := 17) dX12_tries_17 rfl (by decide) ?_
      refine sv_iload_n (pc := 18) dX12_tries_18 rfl rfl ?_
      refine sv_iload_n (pc := 19) dX12_tries_19 rfl rfl ?_
      refine sv_icmp_ge (pc := 20) (tgt := 43) dX12_tries_20 (by decide) (fun h => absurd h (by decide)) (fun _ => ?_)
      refine sv_aload_n (pc := 23) dX12_tries_23 rfl rfl ?_
      refine sw_getfield (pc := 24) dX12_tries_24 (gCX12 _ _ _ _ _) 123 (by decide) wF_X12_530 rfl rfl rfl ?_
      refine sv_iload_n (pc := 27) dX12_tries_27 rfl rfl ?_
      refine sv_iconst (pc := 28) (v := (-1)) dX12_tries_28 (by decide) ?_
      refine sw_iastore (pc := 29) (k := 0) (v := .int (-1)) dX12_tries_29 rfl rfl rfl (by decide) (by decide) rfl rfl ?_
      refine sv_aload_n (pc := 30) dX12_tries_30 rfl rfl ?_
      refine sw_getfield (pc := 31) dX12_tries_31 (gCX12 _ _ _ _ _) 125 (by decide) wF_X12_536 rfl rfl rfl ?_
      refine sv_iload_n (pc := 34) dX12_tries_34 rfl rfl ?_
      refine sv_iconst (pc := 35) (v := 0) dX12_tries_35 (by decide) ?_
      refine sw_zastore (pc := 36) (k := 0) (v := .int 0) dX12_tries_36 rfl rfl rfl (by decide) (by decide) rfl (by decide) ?_
      refine sw_iinc (pc := 37) (v := 1) dX12_tries_37 rfl (by decide) (by decide) ?_
      refine sv_goto (pc := 40) (tgt := 18) dX12_tries_40 (by decide) ?_
      refine sv_iload_n (pc := 18) dX12_tries_18 rfl rfl ?_
      refine sv_iload_n (pc := 19) dX12_tries_19 rfl rfl ?_
      refine sv_icmp_ge (pc := 20) (tgt := 43) dX12_tries_20 (by decide) (fun _ => ?_) (fun h => absurd (by decide) h)
      refine sv_iconst (pc := 43) (v := 0) dX12_tries_43 (by decide) ?_
      refine sv_istore_n (pc := 44) dX12_tries_44 rfl (by decide) ?_
      refine sv_aload_n (pc := 45) dX12_tries_45 rfl rfl ?_
      refine sw_getfield (pc := 46) dX12_tries_46 (gCX12 _ _ _ _ _) 124 (by decide) wF_X12_533 rfl rfl rfl ?_
      refine sv_iload_n (pc := 49) dX12_tries_49 rfl rfl ?_
      refine sv_iload_n (pc := 50) dX12_tries_50 rfl rfl ?_
      refine sv_iconst (pc := 51) (v := 1) dX12_tries_51 (by decide) ?_
      refine sw_isub (pc := 52) (v := 0) dX12_tries_52 (by decide) ?_
      refine sw_iastore (pc := 53) (k := 0) (v := .int 0) dX12_tries_53 rfl rfl rfl (by decide) (by decide) rfl rfl ?_
      refine sv_aload_n (pc := 54) dX12_tries_54 rfl rfl ?_
      refine sw_getfield (pc := 55) dX12_tries_55 (gCX12 _ _ _ _ _) 123 (by decide) wF_X12_530 rfl rfl rfl ?_
      refine sv_iload_n (pc := 58) dX12_tries_58 rfl rfl ?_
      refine sv_iconst (pc := 59) (v := 1) dX12_tries_59 (by decide) ?_
      refine sw_isub (pc := 60) (v := 0) dX12_tries_60 (by decide) ?_
      refine sv_iconst (pc := 61) (v := 0) dX12_tries_61 (by decide) ?_
      refine sw_iastore (pc := 62) (k := 0) (v := .int 0) dX12_tries_62 rfl rfl rfl (by decide) (by decide) rfl rfl ?_
      refine sw_iinc (pc := 63) (v := 1) dX12_tries_63 rfl (by decide) (by decide) ?_
      refine sv_iconst (pc := 66) (v := 0) dX12_tries_66 (by decide) ?_
      refine sv_istore (pc := 67) dX12_tries_67 (by decide) ?_
      refine sv_ldc (pc := 69) dX12_tries_69 wG_X12_29 ?_
      refine sv_istore (pc := 71) dX12_tries_71 (by decide) ?_
      refine sv_iconst (pc := 73) (v := 0) dX12_tries_73 (by decide) ?_
      refine sv_istore (pc := 74) dX12_tries_74 (by decide) ?_
      refine sv_lvG (pc := 76) (lv' := [(0, .ref 106), (1, .int 3), (2, .int 1), (3, .int 1), (4, .int 0), (5, .int (-99999999)), (6, .int 0)]) (List.forall_mem_cons.mpr ⟨rfl, List.forall_mem_cons.mpr ⟨rfl, List.forall_mem_cons.mpr ⟨rfl, List.forall_mem_cons.mpr ⟨rfl, List.forall_mem_cons.mpr ⟨rfl, List.forall_mem_cons.mpr ⟨rfl, List.forall_mem_cons.mpr ⟨rfl, fun _ h => absurd h List.not_mem_nil⟩⟩⟩⟩⟩⟩⟩) ?_
      refine sv_iload (pc := 76) dX12_tries_76 rfl ?_
      refine sv_iload_n (pc := 78) dX12_tries_78 rfl rfl ?_
      refine sv_icmp_ge (pc := 79) (tgt := 240) dX12_tries_79 (by decide) (fun h => absurd h (by decide)) (fun _ => ?_)
      refine sv_aload_n (pc := 82) dX12_tries_82 rfl rfl ?_
      refine sw_getfield (pc := 83) dX12_tries_83 (gCX12 _ _ _ _ _) 124 (by decide) wF_X12_533 rfl rfl rfl ?_
      refine sv_iload (pc := 86) dX12_tries_86 rfl ?_
      refine sw_iaload (pc := 88) (k := 0) (v := .int 0) dX12_tries_88 rfl rfl rfl (by decide) (by decide) rfl rfl ?_
      refine sv_istore (pc := 89) dX12_tries_89 (by decide) ?_
      refine sv_iconst (pc := 91) (v := 1) dX12_tries_91 (by decide) ?_
      refine sv_istore (pc := 92) dX12_tries_92 (by decide) ?_
      refine sv_aload_n (pc := 94) dX12_tries_94 rfl rfl ?_
      refine sv_iload (pc := 95) dX12_tries_95 rfl ?_
      refine sv_callV (pc := 97) (M' := mX12_open) (d' := 19) (C' := 0) (S' := 0) (av := [.int 0]) ?_ (gOk _ _ _ _ _) dX12_tries_97 (tX12_open _ _ _ _ _) ⟨wV_X12_open, wL_X12_open⟩ wM_X12_722 (gCX12 _ _ _ _ _) rfl (lt_t rfl) rfl ⟨le_t rfl, le_t rfl⟩ ⟨le_t rfl, le_t rfl⟩ rfl (le_t rfl) (fun _ _ h => h)
      refine sC.of rfl (by decide) (le_t rfl) ?_
      refine sv_iconst (pc := 0) (v := 1) dX12_open_0 (by decide) ?_
      refine sv_istore_n (pc := 1) dX12_open_1 rfl (by decide) ?_
      refine sv_iload_n (pc := 2) dX12_open_2 rfl rfl ?_
      refine sv_bipush (pc := 3) (v := 6) dX12_open_3 (by decide) ?_
      refine sv_icmp_gt (pc := 5) (tgt := 37) dX12_open_5 (by decide) (fun h => absurd h (by decide)) (fun _ => ?_)
      refine sv_aload_n (pc := 8) dX12_open_8 rfl rfl ?_
      refine sw_getfield (pc := 9) dX12_open_9 (gCX12 _ _ _ _ _) 122 (by decide) wF_X12_526 rfl rfl rfl ?_
      refine sv_iload_n (pc := 12) dX12_open_12 rfl rfl ?_
      refine sv_iload_n (pc := 13) dX12_open_13 rfl rfl ?_
      refine sv_aload_n (pc := 14) dX12_open_14 rfl rfl ?_
      refine sw_getfield (pc := 15) dX12_open_15 (gCX12 _ _ _ _ _) 121 (by decide) wF_X12_523 rfl rfl rfl ?_
      refine sv_iload_n (pc := 18) dX12_open_18 rfl rfl ?_
      refine sw_iaload (pc := 19) (k := 1) (v := .int 1) dX12_open_19 rfl rfl rfl (by decide) (by decide) rfl rfl ?_
      refine sw_idiv (pc := 20) (v := 0) dX12_open_20 (by decide) (by decide) ?_
      refine sv_aload_n (pc := 21) dX12_open_21 rfl rfl ?_
      refine sw_getfield (pc := 22) dX12_open_22 (gCX12 _ _ _ _ _) 118 (by decide) wF_X12_514 rfl rfl rfl ?_
      refine sv_iload_n (pc := 25) dX12_open_25 rfl rfl ?_
      refine sw_iaload (pc := 26) (k := 1) (v := .int 0) dX12_open_26 rfl rfl rfl (by decide) (by decide) rfl rfl ?_
      refine sv_iconst (pc := 27) (v := 1) dX12_open_27 (by decide) ?_
      refine sw_iadd (pc := 28) (v := 1) dX12_open_28 (by decide) ?_
      refine sw_irem (pc := 29) (v := 0) dX12_open_29 (by decide) (by decide) ?_
      refine sw_iastore (pc := 30) (k := 1) (v := .int 0) dX12_open_30 rfl rfl rfl (by decide) (by decide) rfl rfl ?_
      refine sw_iinc (pc := 31) (v := 2) dX12_open_31 rfl (by decide) (by decide) ?_
      refine sv_goto (pc := 34) (tgt := 2) dX12_open_34 (by decide) ?_
      refine sv_iload_n (pc := 2) dX12_open_2 rfl rfl ?_
      refine sv_bipush (pc := 3) (v := 6) dX12_open_3 (by decide) ?_
      refine sv_icmp_gt (pc := 5) (tgt := 37) dX12_open_5 (by decide) (fun h => absurd h (by decide)) (fun _ => ?_)
      refine sv_aload_n (pc := 8) dX12_open_8 rfl rfl ?_
      refine sw_getfield (pc := 9) dX12_open_9 (gCX12 _ _ _ _ _) 122 (by decide) wF_X12_526 rfl rfl rfl ?_
      refine sv_iload_n (pc := 12) dX12_open_12 rfl rfl ?_
      refine sv_iload_n (pc := 13) dX12_open_13 rfl rfl ?_
      refine sv_aload_n (pc := 14) dX12_open_14 rfl rfl ?_
      refine sw_getfield (pc := 15) dX12_open_15 (gCX12 _ _ _ _ _) 121 (by decide) wF_X12_523 rfl rfl rfl ?_
      refine sv_iload_n (pc := 18) dX12_open_18 rfl rfl ?_
      refine sw_iaload (pc := 19) (k := 2) (v := .int 1) dX12_open_19 rfl rfl rfl (by decide) (by decide) rfl rfl ?_
      refine sw_idiv (pc := 20) (v := 0) dX12_open_20 (by decide) (by decide) ?_
      refine sv_aload_n (pc := 21) dX12_open_21 rfl rfl ?_
      refine sw_getfield (pc := 22) dX12_open_22 (gCX12 _ _ _ _ _) 118 (by decide) wF_X12_514 rfl rfl rfl ?_
      refine sv_iload_n (pc := 25) dX12_open_25 rfl rfl ?_
      refine sw_iaload (pc := 26) (k := 2) (v := .int 0) dX12_open_26 rfl rfl rfl (by decide) (by decide) rfl rfl ?_
      refine sv_iconst (pc := 27) (v := 1) dX12_open_27 (by decide) ?_
      refine sw_iadd (pc := 28) (v := 1) dX12_open_28 (by decide) ?_
      refine sw_irem (pc := 29) (v := 0) dX12_open_29 (by decide) (by decide) ?_
      refine sw_iastore (pc := 30) (k := 2) (v := .int 0) dX12_open_30 rfl rfl rfl (by decide) (by decide) rfl rfl ?_
      refine sw_iinc (pc := 31) (v := 3) dX12_open_31 rfl (by decide) (by decide) ?_
      refine sv_goto (pc := 34) (tgt := 2) dX12_open_34 (by decide) ?_
      refine sv_iload_n (pc := 2) dX12_open_2 rfl rfl ?_
      refine sv_bipush (pc := 3) (v := 6) dX12_open_3 (by decide) ?_
      refine sv_icmp_gt (pc := 5) (tgt := 37) dX12_open_5 (by decide) (fun h => absurd h (by decide)) (fun _ => ?_)
      refine sv_aload_n (pc := 8) dX12_open_8 rfl rfl ?_
      refine sw_getfield (pc := 9) dX12_open_9 (gCX12 _ _ _ _ _) 122 (by decide) wF_X12_526 rfl rfl rfl ?_
      refine sv_iload_n (pc := 12) dX12_open_12 rfl rfl ?_
      refine sv_iload_n (pc := 13) dX12_open_13 rfl rfl ?_
      refine sv_aload_n (pc := 14) dX12_open_14 rfl rfl ?_
      refine sw_getfield (pc := 15) dX12_open_15 (gCX12 _ _ _ _ _) 121 (by decide) wF_X12_523 rfl rfl rfl ?_
      refine sv_iload_n (pc := 18) dX12_open_18 rfl rfl ?_
      refine sw_iaload (pc := 19) (k := 3) (v := .int 1) dX12_open_19 rfl rfl rfl (by decide) (by decide) rfl rfl ?_
      refine sw_idiv (pc := 20) (v := 0) dX12_open_20 (by decide) (by decide) ?_
      refine sv_aload_n (pc := 21) dX12_open_21 rfl rfl ?_
      refine sw_getfield (pc := 22) dX12_open_22 (gCX12 _ _ _ _ _) 118 (by decide) wF_X12_514 rfl rfl rfl ?_
      refine sv_iload_n (pc := 25) dX12_open_25 rfl rfl ?_
      refine sw_iaload (pc := 26) (k := 3) (v := .int 0) dX12_open_26 rfl rfl rfl (by decide) (by decide) rfl rfl ?_
      refine sv_iconst (pc := 27) (v := 1) dX12_open_27 (by decide) ?_
      refine sw_iadd (pc := 28) (v := 1) dX12_open_28 (by decide) ?_
      refine sw_irem (pc := 29) (v := 0) dX12_open_29 (by decide) (by decide) ?_
      refine sw_iastore (pc := 30) (k := 3) (v := .int 0) dX12_open_30 rfl rfl rfl (by decide) (by decide) rfl rfl ?_
      refine sw_iinc (pc := 31) (v := 4) dX12_open_31 rfl (by decide) (by decide) ?_
      refine sv_goto (pc := 34) (tgt := 2) dX12_open_34 (by decide) ?_
      refine sv_iload_n (pc := 2) dX12_open_2 rfl rfl ?_
      refine sv_bipush (pc := 3) (v := 6) dX12_open_3 (by decide) ?_
      refine sv_icmp_gt (pc := 5) (tgt := 37) dX12_open_5 (by decide) (fun h => absurd h (by decide)) (fun _ => ?_)
      refine sv_aload_n (pc := 8) dX12_open_8 rfl rfl ?_
      refine sw_getfield (pc := 9) dX12_open_9 (gCX12 _ _ _ _ _) 122 (by decide) wF_X12_526 rfl rfl rfl ?_
      refine sv_iload_n (pc := 12) dX12_open_12 rfl rfl ?_
      refine sv_iload_n (pc := 13) dX12_open_13 rfl rfl ?_
      refine sv_aload_n (pc := 14) dX12_open_14 rfl rfl ?_
      refine sw_getfield (pc := 15) dX12_open_15 (gCX12 _ _ _ _ _) 121 (by decide) wF_X12_523 rfl rfl rfl ?_
      refine sv_iload_n (pc := 18) dX12_open_18 rfl rfl ?_
      refine sw_iaload (pc := 19) (k := 4) (v := .int 1) dX12_open_19 rfl rfl rfl (by decide) (by decide) rfl rfl ?_
      refine sw_idiv (pc := 20) (v := 0) dX12_open_20 (by decide) (by decide) ?_
      refine sv_aload_n (pc := 21) dX12_open_21 rfl rfl ?_
      refine sw_getfield (pc := 22) dX12_open_22 (gCX12 _ _ _ _ _) 118 (by decide) wF_X12_514 rfl rfl rfl ?_
      refine sv_iload_n (pc := 25) dX12_open_25 rfl rfl ?_
      refine sw_iaload (pc := 26) (k := 4) (v := .int 0) dX12_open_26 rfl rfl rfl (by decide) (by decide) rfl rfl ?_
      refine sv_iconst (pc := 27) (v := 1) dX12_open_27 (by decide) ?_
      refine sw_iadd (pc := 28) (v := 1) dX12_open_28 (by decide) ?_
      refine sw_irem (pc := 29) (v := 0) dX12_open_29 (by decide) (by decide) ?_
      refine sw_iastore (pc := 30) (k := 4) (v := .int 0) dX12_open_30 rfl rfl rfl (by decide) (by decide) rfl rfl ?_
      refine sw_iinc (pc := 31) (v := 5) dX12_open_31 rfl (by decide) (by decide) ?_
      refine sv_goto (pc := 34) (tgt := 2) dX12_open_34 (by decide) ?_
      refine sv_iload_n (pc := 2) dX12_open_2 rfl rfl ?_
      refine sv_bipush (pc := 3) (v := 6) dX12_open_3 (by decide) ?_
      refine sv_icmp_gt (pc := 5) (tgt := 37) dX12_open_5 (by decide) (fun h => absurd h (by decide)) (fun _ => ?_)
      refine sv_aload_n (pc := 8) dX12_open_8 rfl rfl ?_
      refine sw_getfield (pc := 9) dX12_open_9 (gCX12 _ _ _ _ _) 122 (by decide) wF_X12_526 rfl rfl rfl ?_
      refine sv_iload_n (pc := 12) dX12_open_12 rfl rfl ?_
      refine sv_iload_n (pc := 13) dX12_open_13 rfl rfl ?_
      refine sv_aload_n (pc := 14) dX12_open_14 rfl rfl ?_
      refine sw_getfield (pc := 15) dX12_open_15 (gCX12 _ _ _ _ _) 121 (by decide) wF_X12_523 rfl rfl rfl ?_
      refine sv_iload_n (pc := 18) dX12_open_18 rfl rfl ?_
      refine sw_iaload (pc := 19) (k := 5) (v := .int 1) dX12_open_19 rfl rfl rfl (by decide) (by decide) rfl rfl ?_
      refine sw_idiv (pc := 20) (v := 0) dX12_open_20 (by decide) (by decide) ?_
      refine sv_aload_n (pc := 21) dX12_open_21 rfl rfl ?_
      refine sw_getfield (pc := 22) dX12_open_22 (gCX12 _ _ _ _ _) 118 (by decide) wF_X12_514 rfl rfl rfl ?_
      refine sv_iload_n (pc := 25) dX12_open_25 rfl rfl ?_
      refine sw_iaload (pc := 26) (k := 5) (v := .int 0) dX12_open_26 rfl rfl rfl (by decide) (by decide) rfl rfl ?_
      refine sv_iconst (pc := 27) (v := 1) dX12_open_27 (by decide) ?_
      refine sw_iadd (pc := 28) (v := 1) dX12_open_28 (by decide) ?_
      refine sw_irem (pc := 29) (v := 0) dX12_open_29 (by decide) (by decide) ?_
      refine sw_iastore (pc := 30) (k := 5) (v := .int 0) dX12_open_30 rfl rfl rfl (by decide) (by decide) rfl rfl ?_
      refine sw_iinc (pc := 31) (v := 6) dX12_open_31 rfl (by decide) (by decide) ?_
      refine sv_goto (pc := 34) (tgt := 2) dX12_open_34 (by decide) ?_
      refine sv_iload_n (pc := 2) dX12_open_2 rfl rfl ?_
      refine sv_bipush (pc := 3) (v := 6) dX12_open_3 (by decide) ?_
      refine sv_icmp_gt (pc := 5) (tgt := 37) dX12_open_5 (by decide) (fun h => absurd h (by decide)) (fun _ => ?_)
      refine sv_aload_n (pc := 8) dX12_open_8 rfl rfl ?_
      refine sw_getfield (pc := 9) dX12_open_9 (gCX12 _ _ _ _ _) 122 (by decide) wF_X12_526 rfl rfl rfl ?_
      refine sv_iload_n (pc := 12) dX12_open_12 rfl rfl ?_
      refine sv_iload_n (pc := 13) dX12_open_13 rfl rfl ?_
      refine sv_aload_n (pc := 14) dX12_open_14 rfl rfl ?_
      refine sw_getfield (pc := 15) dX12_open_15 (gCX12 _ _ _ _ _) 121 (by decide) wF_X12_523 rfl rfl rfl ?_
      refine sv_iload_n (pc := 18) dX12_open_18 rfl rfl ?_
      refine sw_iaload (pc := 19) (k := 6) (v := .int 1) dX12_open_19 rfl rfl rfl (by decide) (by decide) rfl rfl ?_
      refine sw_idiv (pc := 20) (v := 0) dX12_open_20 (by decide) (by decide) ?_
      refine sv_aload_n (pc := 21) dX12_open_21 rfl rfl ?_
      refine sw_getfield (pc := 22) dX12_open_22 (gCX12 _ _ _ _ _) 118 (by decide) wF_X12_514 rfl rfl rfl ?_
      refine sv_iload_n (pc := 25) dX12_open_25 rfl rfl ?_
      refine sw_iaload (pc := 26) (k := 6) (v := .int 0) dX12_open_26 rfl rfl rfl (by decide) (by decide) rfl rfl ?_
      refine sv_iconst (pc := 27) (v := 1) dX12_open_27 (by decide) ?_
      refine sw_iadd (pc := 28) (v := 1) dX12_open_28 (by decide) ?_
      refine sw_irem (pc := 29) (v := 0) dX12_open_29 (by decide) (by decide) ?_
      refine sw_iastore (pc := 30) (k := 6) (v := .int 0) dX12_open_30 rfl rfl rfl (by decide) (by decide) rfl rfl ?_
      refine sw_iinc (pc := 31) (v := 7) dX12_open_31 rfl (by decide) (by decide) ?_
      refine sv_goto (pc := 34) (tgt := 2) dX12_open_34 (by decide) ?_
      refine sv_iload_n (pc := 2) dX12_open_2 rfl rfl ?_
      refine sv_bipush (pc := 3) (v := 6) dX12_open_3 (by decide) ?_
      refine sv_icmp_gt (pc := 5) (tgt := 37) dX12_open_5 (by decide) (fun _ => ?_) (fun h => absurd (by decide) h)
      refine sv_vret (pc := 37) dX12_open_37 rfl (le_t rfl) (le_t rfl) ?_
      refine sv_iconst (pc := 100) (v := 1) dX12_tries_100 (by decide) ?_
      refine sv_istore (pc := 101) dX12_tries_101 (by decide) ?_
      refine sv_iload (pc := 103) dX12_tries_103 rfl ?_
      refine sv_bipush (pc := 105) (v := 6) dX12_tries_105 (by decide) ?_
      refine sv_icmp_gt (pc := 107) (tgt := 202) dX12_tries_107 (by decide) (fun h => absurd h (by decide)) (fun _ => ?_)
      refine sv_aload_n (pc := 110) dX12_tries_110 rfl rfl ?_
      refine sv_iload (pc := 111) dX12_tries_111 rfl ?_
      refine sv_callV (pc := 113) (M' := mX12_acted) (d' := 19) (C' := 0) (S' := 0) (av := [.int 1]) ?_ (gOk _ _ _ _ _) dX12_tries_113 (tX12_acted _ _ _ _ _) ⟨wV_X12_acted, wL_X12_acted⟩ wM_X12_725 (gCX12 _ _ _ _ _) rfl (lt_t rfl) rfl ⟨le_t rfl, le_t rfl⟩ ⟨le_t rfl, le_t rfl⟩ rfl (le_t rfl) (fun _ _ h => h)
      refine sC.of rfl (by decide) (le_t rfl) ?_
      refine sv_iconst (pc := 0) (v := 0) dX12_acted_0 (by decide) ?_
      refine sv_istore_n (pc := 1) dX12_acted_1 rfl (by decide) ?_
      refine sv_iload_n (pc := 2) dX12_acted_2 rfl rfl ?_
      refine sv_aload_n (pc := 3) dX12_acted_3 rfl rfl ?_
      refine sw_getfield (pc := 4) dX12_acted_4 (gCX12 _ _ _ _ _) 118 (by decide) wF_X12_514 rfl rfl rfl ?_
      refine sv_iload_n (pc := 7) dX12_acted_7 rfl rfl ?_
      refine sw_iaload (pc := 8) (k := 1) (v := .int 0) dX12_acted_8 rfl rfl rfl (by decide) (by decide) rfl rfl ?_
      refine sv_icmp_ge (pc := 9) (tgt := 32) dX12_acted_9 (by decide) (fun _ => ?_) (fun h => absurd (by decide) h)
      refine sv_aload_n (pc := 32) dX12_acted_32 rfl rfl ?_
      refine sw_getfield (pc := 33) dX12_acted_33 (gCX12 _ _ _ _ _) 118 (by decide) wF_X12_514 rfl rfl rfl ?_
      refine sv_iload_n (pc := 36) dX12_acted_36 rfl rfl ?_
      refine sw_iaload (pc := 37) (k := 1) (v := .int 0) dX12_acted_37 rfl rfl rfl (by decide) (by decide) rfl rfl ?_
      refine sv_iret (pc := 38) dX12_acted_38 rfl (le_t rfl) (le_t rfl) ?_
      refine sv_istore (pc := 116) dX12_tries_116 (by decide) ?_
      refine sv_iload (pc := 118) dX12_tries_118 rfl ?_
      refine sv_aload_n (pc := 120) dX12_tries_120 rfl rfl ?_
      refine sw_getfield (pc := 121) dX12_tries_121 (gCX12 _ _ _ _ _) 122 (by decide) wF_X12_526 rfl rfl rfl ?_
      refine sv_iload (pc := 124) dX12_tries_124 rfl ?_
      refine sw_iaload (pc := 126) (k := 1) (v := .int 0) dX12_tries_126 rfl rfl rfl (by decide) (by decide) rfl rfl ?_
      refine sv_icmp_ne (pc := 127) (tgt := 133) dX12_tries_127 (by decide) (fun h => absurd (by decide) h) (fun _ => ?_)
      refine sv_goto (pc := 130) (tgt := 196) dX12_tries_130 (by decide) ?_
      refine sw_iinc (pc := 196) (v := 2) dX12_tries_196 rfl (by decide) (by decide) ?_
      refine sv_goto (pc := 199) (tgt := 103) dX12_tries_199 (by decide) ?_
      refine sv_iload (pc := 103) dX12_tries_103 rfl ?_
      refine sv_bipush (pc := 105) (v := 6) dX12_tries_105 (by decide) ?_
      refine sv_icmp_gt (pc := 107) (tgt := 202) dX12_tries_107 (by decide) (fun h => absurd h (by decide)) (fun _ => ?_)
      refine sv_aload_n (pc := 110) dX12_tries_110 rfl rfl ?_
      refine sv_iload (pc := 111) dX12_tries_111 rfl ?_
      refine sv_callV (pc := 113) (M' := mX12_acted) (d' := 19) (C' := 0) (S' := 0) (av := [.int 2]) ?_ (gOk _ _ _ _ _) dX12_tries_113 (tX12_acted _ _ _ _ _) ⟨wV_X12_acted, wL_X12_acted⟩ wM_X12_725 (gCX12 _ _ _ _ _) rfl (lt_t rfl) rfl ⟨le_t rfl, le_t rfl⟩ ⟨le_t rfl, le_t rfl⟩ rfl (le_t rfl) (fun _ _ h => h)
      refine sC.of rfl (by decide) (le_t rfl) ?_
      refine sv_iconst (pc := 0) (v := 0) dX12_acted_0 (by decide) ?_
      refine sv_istore_n (pc := 1) dX12_acted_1 rfl (by decide) ?_
      refine sv_iload_n (pc := 2) dX12_acted_2 rfl rfl ?_
      refine sv_aload_n (pc := 3) dX12_acted_3 rfl rfl ?_
      refine sw_getfield (pc := 4) dX12_acted_4 (gCX12 _ _ _ _ _) 118 (by decide) wF_X12_514 rfl rfl rfl ?_
      refine sv_iload_n (pc := 7) dX12_acted_7 rfl rfl ?_
      refine sw_iaload (pc := 8) (k := 2) (v := .int 0) dX12_acted_8 rfl rfl rfl (by decide) (by decide) rfl rfl ?_
      refine sv_icmp_ge (pc := 9) (tgt := 32) dX12_acted_9 (by decide) (fun _ => ?_) (fun h => absurd (by decide) h)
      refine sv_aload_n (pc := 32) dX12_acted_32 rfl rfl ?_
      refine sw_getfield (pc := 33) dX12_acted_33 (gCX12 _ _ _ _ _) 118 (by decide) wF_X12_514 rfl rfl rfl ?_
      refine sv_iload_n (pc := 36) dX12_acted_36 rfl rfl ?_
      refine sw_iaload (pc := 37) (k := 2) (v := .int 0) dX12_acted_37 rfl rfl rfl (by decide) (by decide) rfl rfl ?_
      refine sv_iret (pc := 38) dX12_acted_38 rfl (le_t rfl) (le_t rfl) ?_
      refine sv_istore (pc := 116) dX12_tries_116 (by decide) ?_
      refine sv_iload (pc := 118) dX12_tries_118 rfl ?_
      refine sv_aload_n (pc := 120) dX12_tries_120 rfl rfl ?_
      refine sw_getfield (pc := 121) dX12_tries_121 (gCX12 _ _ _ _ _) 122 (by decide) wF_X12_526 rfl rfl rfl ?_
      refine sv_iload (pc := 124) dX12_tries_124 rfl ?_
      refine sw_iaload (pc := 126) (k := 2) (v := .int 0) dX12_tries_126 rfl rfl rfl (by decide) (by decide) rfl rfl ?_
      refine sv_icmp_ne (pc := 127) (tgt := 133) dX12_tries_127 (by decide) (fun h => absurd (by decide) h) (fun _ => ?_)
      refine sv_goto (pc := 130) (tgt := 196) dX12_tries_130 (by decide) ?_
      refine sw_iinc (pc := 196) (v := 3) dX12_tries_196 rfl (by decide) (by decide) ?_
      refine sv_goto (pc := 199) (tgt := 103) dX12_tries_199 (by decide) ?_
      refine sv_iload (pc := 103) dX12_tries_103 rfl ?_
      refine sv_bipush (pc := 105) (v := 6) dX12_tries_105 (by decide) ?_
      refine sv_icmp_gt (pc := 107) (tgt := 202) dX12_tries_107 (by decide) (fun h => absurd h (by decide)) (fun _ => ?_)
      refine sv_aload_n (pc := 110) dX12_tries_110 rfl rfl ?_
      refine sv_iload (pc := 111) dX12_tries_111 rfl ?_
      refine sv_callV (pc := 113) (M' := mX12_acted) (d' := 19) (C' := 0) (S' := 0) (av := [.int 3]) ?_ (gOk _ _ _ _ _) dX12_tries_113 (tX12_acted _ _ _ _ _) ⟨wV_X12_acted, wL_X12_acted⟩ wM_X12_725 (gCX12 _ _ _ _ _) rfl (lt_t rfl) rfl ⟨le_t rfl, le_t rfl⟩ ⟨le_t rfl, le_t rfl⟩ rfl (le_t rfl) (fun _ _ h => h)
      refine sC.of rfl (by decide) (le_t rfl) ?_
      refine sv_iconst (pc := 0) (v := 0) dX12_acted_0 (by decide) ?_
      refine sv_istore_n (pc := 1) dX12_acted_1 rfl (by decide) ?_
      refine sv_iload_n (pc := 2) dX12_acted_2 rfl rfl ?_
      refine sv_aload_n (pc := 3) dX12_acted_3 rfl rfl ?_
      refine sw_getfield (pc := 4) dX12_acted_4 (gCX12 _ _ _ _ _) 118 (by decide) wF_X12_514 rfl rfl rfl ?_
      refine sv_iload_n (pc := 7) dX12_acted_7 rfl rfl ?_
      refine sw_iaload (pc := 8) (k := 3) (v := .int 0) dX12_acted_8 rfl rfl rfl (by decide) (by decide) rfl rfl ?_
      refine sv_icmp_ge (pc := 9) (tgt := 32) dX12_acted_9 (by decide) (fun _ => ?_) (fun h => absurd (by decide) h)
      refine sv_aload_n (pc := 32) dX12_acted_32 rfl rfl ?_
      refine sw_getfield (pc := 33) dX12_acted_33 (gCX12 _ _ _ _ _) 118 (by decide) wF_X12_514 rfl rfl rfl ?_
      refine sv_iload_n (pc := 36) dX12_acted_36 rfl rfl ?_
      refine sw_iaload (pc := 37) (k := 3) (v := .int 0) dX12_acted_37 rfl rfl rfl (by decide) (by decide) rfl rfl ?_
      refine sv_iret (pc := 38) dX12_acted_38 rfl (le_t rfl) (le_t rfl) ?_
      refine sv_istore (pc := 116) dX12_tries_116 (by decide) ?_
      refine sv_lvG (pc := 118) (lv' := [(0, .ref 106), (1, .int 3), (2, .int 1), (3, .int 1), (4, .int 0), (5, .int (-99999999)), (6, .int 0), (7, .int 0), (8, .int 1), (9, .int 3), (10, .int 0)]) (List.forall_mem_cons.mpr ⟨rfl, List.forall_mem_cons.mpr ⟨rfl, List.forall_mem_cons.mpr ⟨rfl, List.forall_mem_cons.mpr ⟨rfl, List.forall_mem_cons.mpr ⟨rfl, List.forall_mem_cons.mpr ⟨rfl, List.forall_mem_cons.mpr ⟨rfl, List.forall_mem_cons.mpr ⟨rfl, List.forall_mem_cons.mpr ⟨rfl, List.forall_mem_cons.mpr ⟨rfl, List.forall_mem_cons.mpr ⟨rfl, fun _ h => absurd h List.not_mem_nil⟩⟩⟩⟩⟩⟩⟩⟩⟩⟩⟩) ?_
      refine sv_iload (pc := 118) dX12_tries_118 rfl ?_
      refine sv_aload_n (pc := 120) dX12_tries_120 rfl rfl ?_
      refine sw_getfield (pc := 121) dX12_tries_121 (gCX12 _ _ _ _ _) 122 (by decide) wF_X12_526 rfl rfl rfl ?_
      refine sv_iload (pc := 124) dX12_tries_124 rfl ?_
      refine sw_iaload (pc := 126) (k := 3) (v := .int 0) dX12_tries_126 rfl rfl rfl (by decide) (by decide) rfl rfl ?_
      refine sv_icmp_ne (pc := 127) (tgt := 133) dX12_tries_127 (by decide) (fun h => absurd (by decide) h) (fun _ => ?_)
      refine sv_goto (pc := 130) (tgt := 196) dX12_tries_130 (by decide) ?_
      refine sw_iinc (pc := 196) (v := 4) dX12_tries_196 rfl (by decide) (by decide) ?_
      refine sv_goto (pc := 199) (tgt := 103) dX12_tries_199 (by decide) ?_
      refine sv_iload (pc := 103) dX12_tries_103 rfl ?_
      refine sv_bipush (pc := 105) (v := 6) dX12_tries_105 (by decide) ?_
      refine sv_icmp_gt (pc := 107) (tgt := 202) dX12_tries_107 (by decide) (fun h => absurd h (by decide)) (fun _ => ?_)
      refine sv_aload_n (pc := 110) dX12_tries_110 rfl rfl ?_
      refine sv_iload (pc := 111) dX12_tries_111 rfl ?_
      refine sv_callV (pc := 113) (M' := mX12_acted) (d' := 19) (C' := 0) (S' := 0) (av := [.int 4]) ?_ (gOk _ _ _ _ _) dX12_tries_113 (tX12_acted _ _ _ _ _) ⟨wV_X12_acted, wL_X12_acted⟩ wM_X12_725 (gCX12 _ _ _ _ _) rfl (lt_t rfl) rfl ⟨le_t rfl, le_t rfl⟩ ⟨le_t rfl, le_t rfl⟩ rfl (le_t rfl) (fun _ _ h => h)
      refine sC.of rfl (by decide) (le_t rfl) ?_
      refine sv_iconst (pc := 0) (v := 0) dX12_acted_0 (by decide) ?_
      refine sv_istore_n (pc := 1) dX12_acted_1 rfl (by decide) ?_
      refine sv_iload_n (pc := 2) dX12_acted_2 rfl rfl ?_
      refine sv_aload_n (pc := 3) dX12_acted_3 rfl rfl ?_
      refine sw_getfield (pc := 4) dX12_acted_4 (gCX12 _ _ _ _ _) 118 (by decide) wF_X12_514 rfl rfl rfl ?_
      refine sv_iload_n (pc := 7) dX12_acted_7 rfl rfl ?_
      refine sw_iaload (pc := 8) (k := 4) (v := .int 0) dX12_acted_8 rfl rfl rfl (by decide) (by decide) rfl rfl ?_
      refine sv_icmp_ge (pc := 9) (tgt := 32) dX12_acted_9 (by decide) (fun _ => ?_) (fun h => absurd (by decide) h)
      refine sv_aload_n (pc := 32) dX12_acted_32 rfl rfl ?_
      refine sw_getfield (pc := 33) dX12_acted_33 (gCX12 _ _ _ _ _) 118 (by decide) wF_X12_514 rfl rfl rfl ?_
      refine sv_iload_n (pc := 36) dX12_acted_36 rfl rfl ?_
      refine sw_iaload (pc := 37) (k := 4) (v := .int 0) dX12_acted_37 rfl rfl rfl (by decide) (by decide) rfl rfl ?_
      refine sv_iret (pc := 38) dX12_acted_38 rfl (le_t rfl) (le_t rfl) ?_
      refine sv_istore (pc := 116) dX12_tries_116 (by decide) ?_
      refine sv_iload (pc := 118) dX12_tries_118 rfl ?_
      refine sv_aload_n (pc := 120) dX12_tries_120 rfl rfl ?_
      refine sw_getfield (pc := 121) dX12_tries_121 (gCX12 _ _ _ _ _) 122 (by decide) wF_X12_526 rfl rfl rfl ?_
      refine sv_iload (pc := 124) dX12_tries_124 rfl ?_
      refine sw_iaload (pc := 126) (k := 4) (v := .int 0) dX12_tries_126 rfl rfl rfl (by decide) (by decide) rfl rfl ?_
      refine sv_icmp_ne (pc := 127) (tgt := 133) dX12_tries_127 (by decide) (fun h => absurd (by decide) h) (fun _ => ?_)
      refine sv_goto (pc := 130) (tgt := 196) dX12_tries_130 (by decide) ?_
      refine sw_iinc (pc := 196) (v := 5) dX12_tries_196 rfl (by decide) (by decide) ?_
      refine sv_goto (pc := 199) (tgt := 103) dX12_tries_199 (by decide) ?_
      refine sv_iload (pc := 103) dX12_tries_103 rfl ?_
      refine sv_bipush (pc := 105) (v := 6) dX12_tries_105 (by decide) ?_
      refine sv_icmp_gt (pc := 107) (tgt := 202) dX12_tries_107 (by decide) (fun h => absurd h (by decide)) (fun _ => ?_)
      refine sv_aload_n (pc := 110) dX12_tries_110 rfl rfl ?_
      refine sv_iload (pc := 111) dX12_tries_111 rfl ?_
      refine sv_callV (pc := 113) (M' := mX12_acted) (d' := 19) (C' := 0) (S' := 0) (av := [.int 5]) ?_ (gOk _ _ _ _ _) dX12_tries_113 (tX12_acted _ _ _ _ _) ⟨wV_X12_acted, wL_X12_acted⟩ wM_X12_725 (gCX12 _ _ _ _ _) rfl (lt_t rfl) rfl ⟨le_t rfl, le_t rfl⟩ ⟨le_t rfl, le_t rfl⟩ rfl (le_t rfl) (fun _ _ h => h)
      refine sC.of rfl (by decide) (le_t rfl) ?_
      refine sv_iconst (pc := 0) (v := 0) dX12_acted_0 (by decide) ?_
      refine sv_istore_n (pc := 1) dX12_acted_1 rfl (by decide) ?_
      refine sv_iload_n (pc := 2) dX12_acted_2 rfl rfl ?_
      refine sv_aload_n (pc := 3) dX12_acted_3 rfl rfl ?_
      refine sw_getfield (pc := 4) dX12_acted_4 (gCX12 _ _ _ _ _) 118 (by decide) wF_X12_514 rfl rfl rfl ?_
      refine sv_iload_n (pc := 7) dX12_acted_7 rfl rfl ?_
      refine sw_iaload (pc := 8) (k := 5) (v := .int 0) dX12_acted_8 rfl rfl rfl (by decide) (by decide) rfl rfl ?_
      refine sv_icmp_ge (pc := 9) (tgt := 32) dX12_acted_9 (by decide) (fun _ => ?_) (fun h => absurd (by decide) h)
      refine sv_aload_n (pc := 32) dX12_acted_32 rfl rfl ?_
      refine sw_getfield (pc := 33) dX12_acted_33 (gCX12 _ _ _ _ _) 118 (by decide) wF_X12_514 rfl rfl rfl ?_
      refine sv_iload_n (pc := 36) dX12_acted_36 rfl rfl ?_
      refine sw_iaload (pc := 37) (k := 5) (v := .int 0) dX12_acted_37 rfl rfl rfl (by decide) (by decide) rfl rfl ?_
      refine sv_iret (pc := 38) dX12_acted_38 rfl (le_t rfl) (le_t rfl) ?_
      refine sv_istore (pc := 116) dX12_tries_116 (by decide) ?_
      refine sv_iload (pc := 118) dX12_tries_118 rfl ?_
      refine sv_aload_n (pc := 120) dX12_tries_120 rfl rfl ?_
      refine sw_getfield (pc := 121) dX12_tries_121 (gCX12 _ _ _ _ _) 122 (by decide) wF_X12_526 rfl rfl rfl ?_
      refine sv_iload (pc := 124) dX12_tries_124 rfl ?_
      refine sw_iaload (pc := 126) (k := 5) (v := .int 0) dX12_tries_126 rfl rfl rfl (by decide) (by decide) rfl rfl ?_
      refine sv_icmp_ne (pc := 127) (tgt := 133) dX12_tries_127 (by decide) (fun h => absurd (by decide) h) (fun _ => ?_)
      refine sv_goto (pc := 130) (tgt := 196) dX12_tries_130 (by decide) ?_
      refine sw_iinc (pc := 196) (v := 6) dX12_tries_196 rfl (by decide) (by decide) ?_
      refine sv_goto (pc := 199) (tgt := 103) dX12_tries_199 (by decide) ?_
      refine sv_iload (pc := 103) dX12_tries_103 rfl ?_
      refine sv_bipush (pc := 105) (v := 6) dX12_tries_105 (by decide) ?_
      refine sv_icmp_gt (pc := 107) (tgt := 202) dX12_tries_107 (by decide) (fun h => absurd h (by decide)) (fun _ => ?_)
      refine sv_aload_n (pc := 110) dX12_tries_110 rfl rfl ?_
      refine sv_iload (pc := 111) dX12_tries_111 rfl ?_
      refine sv_callV (pc := 113) (M' := mX12_acted) (d' := 19) (C' := 0) (S' := 0) (av := [.int 6]) ?_ (gOk _ _ _ _ _) dX12_tries_113 (tX12_acted _ _ _ _ _) ⟨wV_X12_acted, wL_X12_acted⟩ wM_X12_725 (gCX12 _ _ _ _ _) rfl (lt_t rfl) rfl ⟨le_t rfl, le_t rfl⟩ ⟨le_t rfl, le_t rfl⟩ rfl (le_t rfl) (fun _ _ h => h)
      refine sC.of rfl (by decide) (le_t rfl) ?_
      refine sv_iconst (pc := 0) (v := 0) dX12_acted_0 (by decide) ?_
      refine sv_istore_n (pc := 1) dX12_acted_1 rfl (by decide) ?_
      refine sv_iload_n (pc := 2) dX12_acted_2 rfl rfl ?_
      refine sv_aload_n (pc := 3) dX12_acted_3 rfl rfl ?_
      refine sw_getfield (pc := 4) dX12_acted_4 (gCX12 _ _ _ _ _) 118 (by decide) wF_X12_514 rfl rfl rfl ?_
      refine sv_iload_n (pc := 7) dX12_acted_7 rfl rfl ?_
      refine sw_iaload (pc := 8) (k := 6) (v := .int 0) dX12_acted_8 rfl rfl rfl (by decide) (by decide) rfl rfl ?_
      refine sv_icmp_ge (pc := 9) (tgt := 32) dX12_acted_9 (by decide) (fun _ => ?_) (fun h => absurd (by decide) h)
      refine sv_aload_n (pc := 32) dX12_acted_32 rfl rfl ?_
      refine sw_getfield (pc := 33) dX12_acted_33 (gCX12 _ _ _ _ _) 118 (by decide) wF_X12_514 rfl rfl rfl ?_
      refine sv_iload_n (pc := 36) dX12_acted_36 rfl rfl ?_
      refine sw_iaload (pc := 37) (k := 6) (v := .int 0) dX12_acted_37 rfl rfl rfl (by decide) (by decide) rfl rfl ?_
      refine sv_iret (pc := 38) dX12_acted_38 rfl (le_t rfl) (le_t rfl) ?_
      refine sv_istore (pc := 116) dX12_tries_116 (by decide) ?_
      refine sv_iload (pc := 118) dX12_tries_118 rfl ?_
      refine sv_aload_n (pc := 120) dX12_tries_120 rfl rfl ?_
      refine sw_getfield (pc := 121) dX12_tries_121 (gCX12 _ _ _ _ _) 122 (by decide) wF_X12_526 rfl rfl rfl ?_
      refine sv_iload (pc := 124) dX12_tries_124 rfl ?_
      refine sw_iaload (pc := 126) (k := 6) (v := .int 0) dX12_tries_126 rfl rfl rfl (by decide) (by decide) rfl rfl ?_
      refine sv_icmp_ne (pc := 127) (tgt := 133) dX12_tries_127 (by decide) (fun h => absurd (by decide) h) (fun _ => ?_)
      refine sv_goto (pc := 130) (tgt := 196) dX12_tries_130 (by decide) ?_
      refine sw_iinc (pc := 196) (v := 7) dX12_tries_196 rfl (by decide) (by decide) ?_
      refine sv_goto (pc := 199) (tgt := 103) dX12_tries_199 (by decide) ?_
      refine sv_iload (pc := 103) dX12_tries_103 rfl ?_
      refine sv_bipush (pc := 105) (v := 6) dX12_tries_105 (by decide) ?_
      refine sv_icmp_gt (pc := 107) (tgt := 202) dX12_tries_107 (by decide) (fun _ => ?_) (fun h => absurd (by decide) h)
      refine sv_iload (pc := 202) dX12_tries_202 rfl ?_
      refine sv_if_eq (pc := 204) (tgt := 234) dX12_tries_204 (by decide) (fun h => absurd h (by decide)) (fun _ => ?_)
      refine sw_iinc (pc := 207) (v := 1) dX12_tries_207 rfl (by decide) (by decide) ?_
      refine sv_lvG (pc := 210) (lv' := [(0, .ref 106), (1, .int 3), (2, .int 1), (3, .int 1), (4, .int 1), (5, .int (-99999999)), (6, .int 0), (7, .int 0), (8, .int 1), (9, .int 7), (10, .int 0)]) (List.forall_mem_cons.mpr ⟨rfl, List.forall_mem_cons.mpr ⟨rfl, List.forall_mem_cons.mpr ⟨rfl, List.forall_mem_cons.mpr ⟨rfl, List.forall_mem_cons.mpr ⟨rfl, List.forall_mem_cons.mpr ⟨rfl, List.forall_mem_cons.mpr ⟨rfl, List.forall_mem_cons.mpr ⟨rfl, List.forall_mem_cons.mpr ⟨rfl, List.forall_mem_cons.mpr ⟨rfl, List.forall_mem_cons.mpr ⟨rfl, fun _ h => absurd h List.not_mem_nil⟩⟩⟩⟩⟩⟩⟩⟩⟩⟩⟩) ?_
      refine sv_aload_n (pc := 210) dX12_tries_210 rfl rfl ?_
      refine sw_getfield (pc := 211) dX12_tries_211 (gCX12 _ _ _ _ _) 125 (by decide) wF_X12_536 rfl rfl rfl ?_
      refine sv_iload (pc := 214) dX12_tries_214 rfl ?_
      refine sv_iconst (pc := 216) (v := 1) dX12_tries_216 (by decide) ?_
      refine sw_zastore (pc := 217) (k := 0) (v := .int 1) dX12_tries_217 rfl rfl rfl (by decide) (by decide) rfl (by decide) ?_
      refine sv_iload (pc := 218) dX12_tries_218 rfl ?_
      refine sv_ldc (pc := 220) dX12_tries_220 wG_X12_29 ?_
      refine sv_icmp_ne (pc := 222) (tgt := 234) dX12_tries_222 (by decide) (fun h => absurd (by decide) h) (fun _ => ?_)
      refine sv_aload_n (pc := 225) dX12_tries_225 rfl rfl ?_
      refine sw_getfield (pc := 226) dX12_tries_226 (gCX12 _ _ _ _ _) 123 (by decide) wF_X12_530 rfl rfl rfl ?_
      refine sv_iload (pc := 229) dX12_tries_229 rfl ?_
      refine sw_iaload (pc := 231) (k := 0) (v := .int 0) dX12_tries_231 rfl rfl rfl (by decide) (by decide) rfl rfl ?_
      refine sv_istore (pc := 232) dX12_tries_232 (by decide) ?_
      refine sw_iinc (pc := 234) (v := 1) dX12_tries_234 rfl (by decide) (by decide) ?_
      refine sv_goto (pc := 237) (tgt := 76) dX12_tries_237 (by decide) ?_
      refine sv_iload (pc := 76) dX12_tries_76 rfl ?_
      refine sv_iload_n (pc := 78) dX12_tries_78 rfl rfl ?_
      refine sv_icmp_ge (pc := 79) (tgt := 240) dX12_tries_79 (by decide) (fun _ => ?_) (fun h => absurd (by decide) h)
      refine sv_iload_n (pc := 240) dX12_tries_240 rfl rfl ?_
      refine sv_if_ne (pc := 241) (tgt := 246) dX12_tries_241 (by decide) (fun _ => ?_) (fun h => absurd h (by decide))
      refine sv_iload_n (pc := 246) dX12_tries_246 rfl rfl ?_
      refine sv_iconst (pc := 247) (v := 1) dX12_tries_247 (by decide) ?_
      refine sv_icmp_ne (pc := 248) (tgt := 254) dX12_tries_248 (by decide) (fun _ => ?_) (fun h => absurd h (by decide))
      refine sv_iload_n (pc := 254) dX12_tries_254 rfl rfl ?_
      refine sv_iconst (pc := 255) (v := 3) dX12_tries_255 (by decide) ?_
      refine sv_icmp_ne (pc := 256) (tgt := 262) dX12_tries_256 (by decide) (fun h => absurd (by decide) h) (fun _ => ?_)
      refine sv_iload (pc := 259) dX12_tries_259 rfl ?_
      refine sv_iret (pc := 261) dX12_tries_261 rfl (le_t rfl) (le_t rfl) ?_
      refine sv_icmp_eq (pc := 1771) (tgt := 1799) dL_law_1771 (by decide) (fun _ => ?_) (fun h => absurd (by decide) h)
      exact kk _ _ _ (le_t rfl) (le_t rfl)
    exact False.elim (by have a0 := Int32.le_iff_toInt_le.mp (Int32.not_lt.mp h_1); have a1 := Int32.le_iff_toInt_le.mp h_2; have a2 := sNe q_3; have a3 := sNe q_4; have a4 := sNe q_5; have a5 := sNe q_6; have e0 : (0 : Int32).toInt = 0 := (by decide); have e1 : (1 : Int32).toInt = 1 := (by decide); have e2 : (2 : Int32).toInt = 2 := (by decide); have e3 : (3 : Int32).toInt = 3 := (by decide); omega)
  refine sv_iconst (pc := 9) (v := (-1)) dX11_tries_9 (by decide) ?_
  refine sv_iret (pc := 10) dX11_tries_10 rfl (le_t rfl) (le_t rfl) ?_
  refine sv_aload_n (pc := 1762) dL_law_1762 rfl rfl ?_
  refine sv_aload_nS (pc := 1763) dL_law_1763 rfl rfl ?_
  refine sv_iload_n (pc := 1764) dL_law_1764 rfl rfl ?_
  refine sv_iconst (pc := 1765) (v := 1) dL_law_1765 (by decide) ?_
  refine sw_iadd (pc := 1766) (v := 1) dL_law_1766 (by decide) ?_
  refine sw_sld (pc := 1767) (v := x1) dL_law_1767 (k := 1) (by decide) (by decide) rfl hx1 ?_
  refine sv_callV (pc := 1768) (M' := mX12_tries) (d' := 20) (C' := 0) (S' := 0) (av := [.int x1]) ?_ (gOk _ _ _ _ _) dL_law_1768 (tX12_tries _ _ _ _ _) ⟨wV_X12_tries, wL_X12_tries⟩ wM_DomainHouseLaw_210 (gCX12 _ _ _ _ _) rfl (lt_t rfl) rfl ⟨le_t rfl, le_t rfl⟩ ⟨le_t rfl, le_t rfl⟩ rfl (le_t rfl) (fun _ _ h => h)
  refine sC.of rfl (by decide) (le_t rfl) ?_
  refine sv_iload_n (pc := 0) dX12_tries_0 rfl rfl ?_
  refine sv_iconst (pc := 1) (v := 0) dX12_tries_1 (by decide) ?_
  refine sv_iconst (pc := 2) (v := 3) dX12_tries_2 (by decide) ?_
  refine sv_callS (pc := 3) (M' := mX12_in) (d' := 19) (C' := 0) (S' := 0) (av := [.int x1, .int 0, .int 3]) ?_ (gOk _ _ _ _ _) dX12_tries_3 (tX12_in _ _ _ _ _) wS_X12_in wM_X12_18 ⟨le_t rfl, le_t rfl⟩ ⟨le_t rfl, le_t rfl⟩ rfl (le_t rfl) (fun _ _ h => h)
  refine sC.of rfl (by decide) (le_t rfl) ?_
  refine sv_iload_n (pc := 0) dX12_in_0 rfl rfl ?_
  refine sv_iload_n (pc := 1) dX12_in_1 rfl rfl ?_
  refine sv_icmp_lt (pc := 2) (tgt := 14) dX12_in_2 (by decide) (fun h => absurd h h_1) (fun _ => ?_)
  refine sv_iload_n (pc := 5) dX12_in_5 rfl rfl ?_
  refine sv_iload_n (pc := 6) dX12_in_6 rfl rfl ?_
  refine sv_icmp_gt (pc := 7) (tgt := 14) dX12_in_7 (by decide) (fun _ => ?_) (fun h => False.elim (by have a0 := Int32.le_iff_toInt_le.mp (Int32.not_lt.mp h_1); have a1 := Int32.lt_iff_toInt_lt.mp (Int32.not_le.mp h_2); have a2 := Int32.le_iff_toInt_le.mp (Int32.not_lt.mp h); have e0 : (0 : Int32).toInt = 0 := (by decide); have e1 : (3 : Int32).toInt = 3 := (by decide); omega))
  refine sv_iconst (pc := 14) (v := 0) dX12_in_14 (by decide) ?_
  refine sv_zret (pc := 15) dX12_in_15 rfl (by decide) (le_t rfl) (le_t rfl) ?_
  refine sv_if_ne (pc := 6) (tgt := 11) dX12_tries_6 (by decide) (fun h => absurd (by decide) h) (fun _ => ?_)
  refine sv_iconst (pc := 9) (v := (-1)) dX12_tries_9 (by decide) ?_
  refine sv_iret (pc := 10) dX12_tries_10 rfl (le_t rfl) (le_t rfl) ?_
  refine sv_icmp_eq (pc := 1771) (tgt := 1799) dL_law_1771 (by decide) (fun _ => ?_) (fun h => absurd (by decide) h)
  exact kk _ _ _ (le_t rfl) (le_t rfl)
