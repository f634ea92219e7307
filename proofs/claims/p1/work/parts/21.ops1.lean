set_option maxHeartbeats 40000000 in
set_option maxRecDepth 100000 in
theorem op_3 (l : Launch) (D : va_G) (c : Nat → ClassId) (H0 : Heap) (b : Nat) (xs : Nat → Int32) (Z : sZT) (x1 x2 x3 x4 x5 x6 : Int32) (hx1 : xs 1 = x1) (hx2 : xs 2 = x2) (hx3 : xs 3 = x3) (hx4 : xs 4 = x4) (hx5 : xs 5 = x5) (hx6 : xs 6 = x6) (kk : ∀ (hp : sHp) (ce sl : Nat), ce ≤ 600000 → sl ≤ 7302250 → sV (gG l D c H0 (b, 7, xs)) mL room_1 Z 1799 [(3, .int 0), (2, .ref 106), (1, .ref 0), (0, .retAddr 0)] [] hp ce sl) : sV (gG l D c H0 (b, 7, xs)) mL room_1 Z 359 [(3, .int 0), (2, .ref 106), (1, .ref 0), (0, .retAddr 0)] [] (192, tF) 192 297215 := by
  refine sv_aload_n (pc := 359) dL_law_359 rfl rfl ?_
  refine sv_callV (pc := 360) (M' := mX11_domain) (d' := 20) (C' := 35) (S' := 442) (av := []) ?_ (gOk _ _ _ _ _) dL_law_360 (tX11_domain _ _ _ _ _) ⟨wV_X11_domain, wL_X11_domain⟩ wM_DomainHouseLaw_28 (gCX11 _ _ _ _ _) rfl (lt_t rfl) rfl ⟨le_t rfl, le_t rfl⟩ ⟨le_t rfl, le_t rfl⟩ rfl (le_t rfl) (fun _ _ h => h)
  refine sC.of rfl (by decide) (le_t rfl) ?_
  refine sv_aload_n (pc := 0) dX11_domain_0 rfl rfl ?_
  refine sw_getfield (pc := 1) dX11_domain_1 (gCX11 _ _ _ _ _) 3 (by decide) wF_X11_26 rfl rfl rfl ?_
  refine sw_getfield (pc := 4) dX11_domain_4 (gCX10 _ _ _ _ _) 15 (by decide) wF_X11_98 rfl rfl rfl ?_
  refine sv_bipush (pc := 7) (v := 10) dX11_domain_7 (by decide) ?_
  refine sv_icmp_lt (pc := 9) (tgt := 15) dX11_domain_9 (by decide) (fun _ => ?_) (fun h => absurd (by decide) h)
  refine sv_aload_n (pc := 15) dX11_domain_15 rfl rfl ?_
  refine sw_getfield (pc := 16) dX11_domain_16 (gCX11 _ _ _ _ _) 3 (by decide) wF_X11_26 rfl rfl rfl ?_
  refine sv_callV (pc := 19) (M' := mX10_addDomain) (d' := 19) (C' := 35) (S' := 442) (av := []) ?_ (gOk _ _ _ _ _) dX11_domain_19 (tX10_addDomain _ _ _ _ _) ⟨wV_X10_addDomain, wL_X10_addDomain⟩ wM_X11_101 (gCX10 _ _ _ _ _) rfl (lt_t rfl) rfl ⟨le_t rfl, le_t rfl⟩ ⟨le_t rfl, le_t rfl⟩ rfl (le_t rfl) (fun _ _ h => h)
  refine sC.of rfl (by decide) (le_t rfl) ?_
  refine sv_aload_n (pc := 0) dX10_addDomain_0 rfl rfl ?_
  refine sw_getfield (pc := 1) dX10_addDomain_1 (gCX10 _ _ _ _ _) 3 (by decide) wF_X10_23 rfl rfl rfl ?_
  refine sv_aload_n (pc := 4) dX10_addDomain_4 rfl rfl ?_
  refine sw_getfield (pc := 5) dX10_addDomain_5 (gCX10 _ _ _ _ _) 15 (by decide) wF_X10_68 rfl rfl rfl ?_
  refine sw_new (pc := 8) (a := 192) (n1 := 193) (ce1 := 1) (sl1 := 6) (fs := zX0) dX10_addDomain_8 (gCX0 _ _ _ _ _) wC_X10_21 wN_X0 wI_X0 zX0_ok rfl rfl rfl rfl rfl rfl ?_
  refine sv_dup (pc := 11) dX10_addDomain_11 rfl ?_
  refine sv_callI (pc := 12) (M' := mX0_init) (d' := 18) (C' := 34) (S' := 436) (av := []) ?_ (gOk _ _ _ _ _) dX10_addDomain_12 (tX0_init _ _ _ _ _) rfl rfl wV_X0_init wM_X10_71 ⟨le_t rfl, le_t rfl⟩ ⟨le_t rfl, le_t rfl⟩ rfl (le_t rfl) (fun _ _ h => h)
  refine sC.of rfl (by decide) (le_t rfl) ?_
  refine sv_aload_n (pc := 0) dX0_init_0 rfl rfl ?_
  refine sv_objinit (pc := 1) dX0_init_1 wM_X0_3 wV_obj wK_obj ⟨le_t rfl, le_t rfl⟩ (le_t rfl) ?_
  refine sv_aload_n (pc := 4) dX0_init_4 rfl rfl ?_
  refine sv_bipush (pc := 5) (v := 6) dX0_init_5 (by decide) ?_
  refine sw_newarray (pc := 7) (kd := 0) (a := 193) (n1 := 194) (N := 6) (ce1 := 1) (sl1 := 6) (v := .int 0) dX0_init_7 rfl wA_int rfl (fun U => sI_Cond_int U _) (by decide) (by decide) rfl (fun _ => rfl) rfl rfl rfl rfl rfl rfl ?_
  refine sw_putfinal (pc := 9) dX0_init_9 (gCX0 _ _ _ _ _) 0 (by decide) wF_X0_9 rfl rfl rfl rfl rfl (fun _ => rfl) (fun _ => rfl) rfl ?_
  refine sv_aload_n (pc := 12) dX0_init_12 rfl rfl ?_
  refine sv_sipush (pc := 13) (v := 12345) dX0_init_13 (by decide) ?_
  refine sv_iconst (pc := 16) (v := 0) dX0_init_16 (by decide) ?_
  refine sv_callV (pc := 17) (M' := mX0_goBy) (d' := 17) (C' := 0) (S' := 0) (av := [.int 12345, .int 0]) ?_ (gOk _ _ _ _ _) dX0_init_17 (tX0_goBy _ _ _ _ _) ⟨wV_X0_goBy, wL_X0_goBy⟩ wM_X0_15 (gCX0 _ _ _ _ _) rfl (lt_t rfl) rfl ⟨le_t rfl, le_t rfl⟩ ⟨le_t rfl, le_t rfl⟩ rfl (le_t rfl) (fun _ _ h => h)
  refine sC.of rfl (by decide) (le_t rfl) ?_
  refine sv_aload_n (pc := 0) dX0_goBy_0 rfl rfl ?_
  refine sv_iload_n (pc := 1) dX0_goBy_1 rfl rfl ?_
  refine sw_putfield (pc := 2) dX0_goBy_2 (gCX0 _ _ _ _ _) 5 (by decide) wF_X0_33 rfl rfl rfl (fun _ => rfl) (fun _ => rfl) rfl ?_
  refine sv_aload_n (pc := 5) dX0_goBy_5 rfl rfl ?_
  refine sv_iconst (pc := 6) (v := 0) dX0_goBy_6 (by decide) ?_
  refine sw_putfield (pc := 7) dX0_goBy_7 (gCX0 _ _ _ _ _) 4 (by decide) wF_X0_37 rfl rfl rfl (fun _ => rfl) (fun _ => rfl) rfl ?_
  refine sv_iload_n (pc := 10) dX0_goBy_10 rfl rfl ?_
  refine sv_istore_n (pc := 11) dX0_goBy_11 rfl (by decide) ?_
  refine sv_iload_n (pc := 12) dX0_goBy_12 rfl rfl ?_
  refine sv_if_le (pc := 13) (tgt := 34) dX0_goBy_13 (by decide) (fun h => absurd h (by decide)) (fun _ => ?_)
  refine sv_aload_n (pc := 16) dX0_goBy_16 rfl rfl ?_
  refine sv_dup (pc := 17) dX0_goBy_17 rfl ?_
  refine sw_getfield (pc := 18) dX0_goBy_18 (gCX0 _ _ _ _ _) 4 (by decide) wF_X0_37 rfl rfl rfl ?_
  refine sv_iconst (pc := 21) (v := 1) dX0_goBy_21 (by decide) ?_
  refine sw_iadd (pc := 22) (v := 1) dX0_goBy_22 (by decide) ?_
  refine sw_putfield (pc := 23) dX0_goBy_23 (gCX0 _ _ _ _ _) 4 (by decide) wF_X0_37 rfl rfl rfl (fun _ => rfl) (fun _ => rfl) rfl ?_
  refine sv_iload_n (pc := 26) dX0_goBy_26 rfl rfl ?_
  refine sv_bipush (pc := 27) (v := 10) dX0_goBy_27 (by decide) ?_
  refine sw_idiv (pc := 29) (v := 1234) dX0_goBy_29 (by decide) (by decide) ?_
  refine sv_istore_n (pc := 30) dX0_goBy_30 rfl (by decide) ?_
  refine sv_goto (pc := 31) (tgt := 12) dX0_goBy_31 (by decide) ?_
  refine sv_iload_n (pc := 12) dX0_goBy_12 rfl rfl ?_
  refine sv_if_le (pc := 13) (tgt := 34) dX0_goBy_13 (by decide) (fun h => absurd h (by decide)) (fun _ => ?_)
  refine sv_aload_n (pc := 16) dX0_goBy_16 rfl rfl ?_
  refine sv_dup (pc := 17) dX0_goBy_17 rfl ?_
  refine sw_getfield (pc := 18) dX0_goBy_18 (gCX0 _ _ _ _ _) 4 (by decide) wF_X0_37 rfl rfl rfl ?_
  refine sv_iconst (pc := 21) (v := 1) dX0_goBy_21 (by decide) ?_
  refine sw_iadd (pc := 22) (v := 2) dX0_goBy_22 (by decide) ?_
  refine sw_putfield (pc := 23) dX0_goBy_23 (gCX0 _ _ _ _ _) 4 (by decide) wF_X0_37 rfl rfl rfl (fun _ => rfl) (fun _ => rfl) rfl ?_
  refine sv_iload_n (pc := 26) dX0_goBy_26 rfl rfl ?_
  refine sv_bipush (pc := 27) (v := 10) dX0_goBy_27 (by decide) ?_
  refine sw_idiv (pc := 29) (v := 123) dX0_goBy_29 (by decide) (by decide) ?_
  refine sv_istore_n (pc := 30) dX0_goBy_30 rfl (by decide) ?_
  refine sv_goto (pc := 31) (tgt := 12) dX0_goBy_31 (by decide) ?_
  refine sv_iload_n (pc := 12) dX0_goBy_12 rfl rfl ?_
  refine sv_if_le (pc := 13) (tgt := 34) dX0_goBy_13 (by decide) (fun h => absurd h (by decide)) (fun _ => ?_)
  refine sv_aload_n (pc := 16) dX0_goBy_16 rfl rfl ?_
  refine sv_dup (pc := 17) dX0_goBy_17 rfl ?_
  refine sw_getfield (pc := 18) dX0_goBy_18 (gCX0 _ _ _ _ _) 4 (by decide) wF_X0_37 rfl rfl rfl ?_
  refine sv_iconst (pc := 21) (v := 1) dX0_goBy_21 (by decide) ?_
  refine sw_iadd (pc := 22) (v := 3) dX0_goBy_22 (by decide) ?_
  refine sw_putfield (pc := 23) dX0_goBy_23 (gCX0 _ _ _ _ _) 4 (by decide) wF_X0_37 rfl rfl rfl (fun _ => rfl) (fun _ => rfl) rfl ?_
  refine sv_iload_n (pc := 26) dX0_goBy_26 rfl rfl ?_
  refine sv_bipush (pc := 27) (v := 10) dX0_goBy_27 (by decide) ?_
  refine sw_idiv (pc := 29) (v := 12) dX0_goBy_29 (by decide) (by decide) ?_
  refine sv_istore_n (pc := 30) dX0_goBy_30 rfl (by decide) ?_
  refine sv_goto (pc := 31) (tgt := 12) dX0_goBy_31 (by decide) ?_
  refine sv_iload_n (pc := 12) dX0_goBy_12 rfl rfl ?_
  refine sv_if_le (pc := 13) (tgt := 34) dX0_goBy_13 (by decide) (fun h => absurd h (by decide)) (fun _ => ?_)
  refine sv_aload_n (pc := 16) dX0_goBy_16 rfl rfl ?_
  refine sv_dup (pc := 17) dX0_goBy_17 rfl ?_
  refine sw_getfield (pc := 18) dX0_goBy_18 (gCX0 _ _ _ _ _) 4 (by decide) wF_X0_37 rfl rfl rfl ?_
  refine sv_iconst (pc := 21) (v := 1) dX0_goBy_21 (by decide) ?_
  refine sw_iadd (pc := 22) (v := 4) dX0_goBy_22 (by decide) ?_
  refine sw_putfield (pc := 23) dX0_goBy_23 (gCX0 _ _ _ _ _) 4 (by decide) wF_X0_37 rfl rfl rfl (fun _ => rfl) (fun _ => rfl) rfl ?_
  refine sv_iload_n (pc := 26) dX0_goBy_26 rfl rfl ?_
  refine sv_bipush (pc := 27) (v := 10) dX0_goBy_27 (by decide) ?_
  refine sw_idiv (pc := 29) (v := 1) dX0_goBy_29 (by decide) (by decide) ?_
  refine sv_istore_n (pc := 30) dX0_goBy_30 rfl (by decide) ?_
  refine sv_goto (pc := 31) (tgt := 12) dX0_goBy_31 (by decide) ?_
  refine sv_iload_n (pc := 12) dX0_goBy_12 rfl rfl ?_
  refine sv_if_le (pc := 13) (tgt := 34) dX0_goBy_13 (by decide) (fun h => absurd h (by decide)) (fun _ => ?_)
  refine sv_aload_n (pc := 16) dX0_goBy_16 rfl rfl ?_
  refine sv_dup (pc := 17) dX0_goBy_17 rfl ?_
  refine sw_getfield (pc := 18) dX0_goBy_18 (gCX0 _ _ _ _ _) 4 (by decide) wF_X0_37 rfl rfl rfl ?_
  refine sv_iconst (pc := 21) (v := 1) dX0_goBy_21 (by decide) ?_
  refine sw_iadd (pc := 22) (v := 5) dX0_goBy_22 (by decide) ?_
  refine sw_putfield (pc := 23) dX0_goBy_23 (gCX0 _ _ _ _ _) 4 (by decide) wF_X0_37 rfl rfl rfl (fun _ => rfl) (fun _ => rfl) rfl ?_
  refine sv_iload_n (pc := 26) dX0_goBy_26 rfl rfl ?_
  refine sv_bipush (pc := 27) (v := 10) dX0_goBy_27 (by decide) ?_
  refine sw_idiv (pc := 29) (v := 0) dX0_goBy_29 (by decide) (by decide) ?_
  refine sv_istore_n (pc := 30) dX0_goBy_30 rfl (by decide) ?_
  refine sv_goto (pc := 31) (tgt := 12) dX0_goBy_31 (by decide) ?_
  refine sv_iload_n (pc := 12) dX0_goBy_12 rfl rfl ?_
  refine sv_if_le (pc := 13) (tgt := 34) dX0_goBy_13 (by decide) (fun _ => ?_) (fun h => absurd (by decide) h)
  refine sv_iload_n (pc := 34) dX0_goBy_34 rfl rfl ?_
  refine sv_istore_n (pc := 35) dX0_goBy_35 rfl (by decide) ?_
  refine sv_aload_n (pc := 36) dX0_goBy_36 rfl rfl ?_
  refine sw_getfield (pc := 37) dX0_goBy_37 (gCX0 _ _ _ _ _) 4 (by decide) wF_X0_37 rfl rfl rfl ?_
  refine sv_iconst (pc := 40) (v := 1) dX0_goBy_40 (by decide) ?_
  refine sw_isub (pc := 41) (v := 4) dX0_goBy_41 (by decide) ?_
  refine sv_istore (pc := 42) dX0_goBy_42 (by decide) ?_
  refine sv_lvG (pc := 44) (lv' := [(0, .ref 192), (1, .int 12345), (2, .int 0), (3, .int 12345), (4, .int 4)]) (List.forall_mem_cons.mpr ⟨rfl, List.forall_mem_cons.mpr ⟨rfl, List.forall_mem_cons.mpr ⟨rfl, List.forall_mem_cons.mpr ⟨rfl, List.forall_mem_cons.mpr ⟨rfl, fun _ h => absurd h List.not_mem_nil⟩⟩⟩⟩⟩) ?_
  refine sv_iload (pc := 44) dX0_goBy_44 rfl ?_
  refine sv_if_lt (pc := 46) (tgt := 71) dX0_goBy_46 (by decide) (fun h => absurd h (by decide)) (fun _ => ?_)
  refine sv_aload_n (pc := 49) dX0_goBy_49 rfl rfl ?_
  refine sw_getfield (pc := 50) dX0_goBy_50 (gCX0 _ _ _ _ _) 0 (by decide) wF_X0_9 rfl rfl rfl ?_
  refine sv_iload (pc := 53) dX0_goBy_53 rfl ?_
  refine sv_iload_n (pc := 55) dX0_goBy_55 rfl rfl ?_
  refine sv_bipush (pc := 56) (v := 10) dX0_goBy_56 (by decide) ?_
  refine sw_irem (pc := 58) (v := 5) dX0_goBy_58 (by decide) (by decide) ?_
  refine sw_iastore (pc := 59) (k := 4) (v := .int 5) dX0_goBy_59 rfl rfl rfl (by decide) (by decide) rfl rfl ?_
  refine sv_iload_n (pc := 60) dX0_goBy_60 rfl rfl ?_
  refine sv_bipush (pc := 61) (v := 10) dX0_goBy_61 (by decide) ?_
  refine sw_idiv (pc := 63) (v := 1234) dX0_goBy_63 (by decide) (by decide) ?_
  refine sv_istore_n (pc := 64) dX0_goBy_64 rfl (by decide) ?_
  refine sw_iinc (pc := 65) (v := 3) dX0_goBy_65 rfl (by decide) (by decide) ?_
  refine sv_goto (pc := 68) (tgt := 44) dX0_goBy_68 (by decide) ?_
  refine sv_iload (pc := 44) dX0_goBy_44 rfl ?_
  refine sv_if_lt (pc := 46) (tgt := 71) dX0_goBy_46 (by decide) (fun h => absurd h (by decide)) (fun _ => ?_)
  refine sv_aload_n (pc := 49) dX0_goBy_49 rfl rfl ?_
  refine sw_getfield (pc := 50) dX0_goBy_50 (gCX0 _ _ _ _ _) 0 (by decide) wF_X0_9 rfl rfl rfl ?_
  refine sv_iload (pc := 53) dX0_goBy_53 rfl ?_
  refine sv_iload_n (pc := 55) dX0_goBy_55 rfl rfl ?_
  refine sv_bipush (pc := 56) (v := 10) dX0_goBy_56 (by decide) ?_
  refine sw_irem (pc := 58) (v := 4) dX0_goBy_58 (by decide) (by decide) ?_
  refine sw_iastore (pc := 59) (k := 3) (v := .int 4) dX0_goBy_59 rfl rfl rfl (by decide) (by decide) rfl rfl ?_
  refine sv_iload_n (pc := 60) dX0_goBy_60 rfl rfl ?_
  refine sv_bipush (pc := 61) (v := 10) dX0_goBy_61 (by decide) ?_
  refine sw_idiv (pc := 63) (v := 123) dX0_goBy_63 (by decide) (by decide) ?_
  refine sv_istore_n (pc := 64) dX0_goBy_64 rfl (by decide) ?_
  refine sw_iinc (pc := 65) (v := 2) dX0_goBy_65 rfl (by decide) (by decide) ?_
  refine sv_goto (pc := 68) (tgt := 44) dX0_goBy_68 (by decide) ?_
  refine sv_iload (pc := 44) dX0_goBy_44 rfl ?_
  refine sv_if_lt (pc := 46) (tgt := 71) dX0_goBy_46 (by decide) (fun h => absurd h (by decide)) (fun _ => ?_)
  refine sv_aload_n (pc := 49) dX0_goBy_49 rfl rfl ?_
  refine sw_getfield (pc := 50) dX0_goBy_50 (gCX0 _ _ _ _ _) 0 (by decide) wF_X0_9 rfl rfl rfl ?_
  refine sv_iload (pc := 53) dX0_goBy_53 rfl ?_
  refine sv_iload_n (pc := 55) dX0_goBy_55 rfl rfl ?_
  refine sv_bipush (pc := 56) (v := 10) dX0_goBy_56 (by decide) ?_
  refine sw_irem (pc := 58) (v := 3) dX0_goBy_58 (by decide) (by decide) ?_
  refine sw_iastore (pc := 59) (k := 2) (v := .int 3) dX0_goBy_59 rfl rfl rfl (by decide) (by decide) rfl rfl ?_
  refine sv_iload_n (pc := 60) dX0_goBy_60 rfl rfl ?_
  refine sv_bipush (pc := 61) (v := 10) dX0_goBy_61 (by decide) ?_
  refine sw_idiv (pc := 63) (v := 12) dX0_goBy_63 (by decide) (by decide) ?_
  refine sv_istore_n (pc := 64) dX0_goBy_64 rfl (by decide) ?_
  refine sw_iinc (pc := 65) (v := 1) dX0_goBy_65 rfl (by decide) (by decide) ?_
  refine sv_goto (pc := 68) (tgt := 44) dX0_goBy_68 (by decide) ?_
  refine sv_iload (pc := 44) dX0_goBy_44 rfl ?_
  refine sv_if_lt (pc := 46) (tgt := 71) dX0_goBy_46 (by decide) (fun h => absurd h (by decide)) (fun _ => ?_)
  refine sv_aload_n (pc := 49) dX0_goBy_49 rfl rfl ?_
  refine sw_getfield (pc := 50) dX0_goBy_50 (gCX0 _ _ _ _ _) 0 (by decide) wF_X0_9 rfl rfl rfl ?_
  refine sv_iload (pc := 53) dX0_goBy_53 rfl ?_
  refine sv_iload_n (pc := 55) dX0_goBy_55 rfl rfl ?_
  refine sv_bipush (pc := 56) (v := 10) dX0_goBy_56 (by decide) ?_
  refine sw_irem (pc := 58) (v := 2) dX0_goBy_58 (by decide) (by decide) ?_
  refine sw_iastore (pc := 59) (k := 1) (v := .int 2) dX0_goBy_59 rfl rfl rfl (by decide) (by decide) rfl rfl ?_
  refine sv_iload_n (pc := 60) dX0_goBy_60 rfl rfl ?_
  refine sv_bipush (pc := 61) (v := 10) dX0_goBy_61 (by decide) ?_
  refine sw_idiv (pc := 63) (v := 1) dX0_goBy_63 (by decide) (by decide) ?_
  refine sv_istore_n (pc := 64) dX0_goBy_64 rfl (by decide) ?_
  refine sw_iinc (pc := 65) (v := 0) dX0_goBy_65 rfl (by decide) (by decide) ?_
  refine sv_lvG (pc := 68) (lv' := [(0, .ref 192), (1, .int 12345), (2, .int 0), (3, .int 1), (4, .int 0)]) (List.forall_mem_cons.mpr ⟨rfl, List.forall_mem_cons.mpr ⟨rfl, List.forall_mem_cons.mpr ⟨rfl, List.forall_mem_cons.mpr ⟨rfl, List.forall_mem_cons.mpr ⟨rfl, fun _ h => absurd h List.not_mem_nil⟩⟩⟩⟩⟩) ?_
  refine sv_goto (pc := 68) (tgt := 44) dX0_goBy_68 (by decide) ?_
  refine sv_iload (pc := 44) dX0_goBy_44 rfl ?_
  refine sv_if_lt (pc := 46) (tgt := 71) dX0_goBy_46 (by decide) (fun h => absurd h (by decide)) (fun _ => ?_)
  refine sv_aload_n (pc := 49) dX0_goBy_49 rfl rfl ?_
  refine sw_getfield (pc := 50) dX0_goBy_50 (gCX0 _ _ _ _ _) 0 (by decide) wF_X0_9 rfl rfl rfl ?_
  refine sv_iload (pc := 53) dX0_goBy_53 rfl ?_
  refine sv_iload_n (pc := 55) dX0_goBy_55 rfl rfl ?_
  refine sv_bipush (pc := 56) (v := 10) dX0_goBy_56 (by decide) ?_
  refine sw_irem (pc := 58) (v := 1) dX0_goBy_58 (by decide) (by decide) ?_
  refine sw_iastore (pc := 59) (k := 0) (v := .int 1) dX0_goBy_59 rfl rfl rfl (by decide) (by decide) rfl rfl ?_
  refine sv_iload_n (pc := 60) dX0_goBy_60 rfl rfl ?_
  refine sv_bipush (pc := 61) (v := 10) dX0_goBy_61 (by decide) ?_
  refine sw_idiv (pc := 63) (v := 0) dX0_goBy_63 (by decide) (by decide) ?_
  refine sv_istore_n (pc := 64) dX0_goBy_64 rfl (by decide) ?_
  refine sw_iinc (pc := 65) (v := (-1)) dX0_goBy_65 rfl (by decide) (by decide) ?_
  refine sv_goto (pc := 68) (tgt := 44) dX0_goBy_68 (by decide) ?_
  refine sv_iload (pc := 44) dX0_goBy_44 rfl ?_
  refine sv_if_lt (pc := 46) (tgt := 71) dX0_goBy_46 (by decide) (fun _ => ?_) (fun h => absurd (by decide) h)
  refine sv_vret (pc := 71) dX0_goBy_71 rfl (le_t rfl) (le_t rfl) ?_
  refine sv_aload_n (pc := 20) dX0_init_20 rfl rfl ?_
  refine sv_bipush (pc := 21) (v := 10) dX0_init_21 (by decide) ?_
  refine sw_newarray (pc := 23) (kd := 0) (a := 194) (n1 := 195) (N := 10) (ce1 := 2) (sl1 := 16) (v := .int 0) dX0_init_23 rfl wA_int rfl (fun U => sI_Cond_int U _) (by decide) (by decide) rfl (fun _ => rfl) rfl rfl rfl rfl rfl rfl ?_
  refine sw_putfinal (pc := 25) dX0_init_25 (gCX0 _ _ _ _ _) 1 (by decide) wF_X0_19 rfl rfl rfl rfl rfl (fun _ => rfl) (fun _ => rfl) rfl ?_
  refine sv_aload_n (pc := 28) dX0_init_28 rfl rfl ?_
  refine sv_bipush (pc := 29) (v := 10) dX0_init_29 (by decide) ?_
  refine sw_newarray (pc := 31) (kd := 0) (a := 195) (n1 := 196) (N := 10) (ce1 := 3) (sl1 := 26) (v := .int 0) dX0_init_31 rfl wA_int rfl (fun U => sI_Cond_int U _) (by decide) (by decide) rfl (fun _ => rfl) rfl rfl rfl rfl rfl rfl ?_
  refine sw_putfinal (pc := 33) dX0_init_33 (gCX0 _ _ _ _ _) 2 (by decide) wF_X0_22 rfl rfl rfl rfl rfl (fun _ => rfl) (fun _ => rfl) rfl ?_
  refine sv_aload_n (pc := 36) dX0_init_36 rfl rfl ?_
  refine sv_bipush (pc := 37) (v := 10) dX0_init_37 (by decide) ?_
  refine sw_anewarray (pc := 39) (kd := 4) (a := 196) (n1 := 197) (N := 10) (ce1 := 4) (sl1 := 36) dX0_init_39 wC_X0_25 rfl (by decide) (by decide) rfl rfl rfl rfl rfl rfl rfl ?_
  refine sw_putfinal (pc := 42) dX0_init_42 (gCX0 _ _ _ _ _) 3 (by decide) wF_X0_27 rfl rfl rfl rfl rfl (fun _ => rfl) (fun _ => rfl) rfl ?_
  refine sv_iconst (pc := 45) (v := 0) dX0_init_45 (by decide) ?_
  refine sv_istore_n (pc := 46) dX0_init_46 rfl (by decide) ?_
  refine sv_iload_n (pc := 47) dX0_init_47 rfl rfl ?_
  refine sv_bipush (pc := 48) (v := 10) dX0_init_48 (by decide) ?_
  refine sv_icmp_ge (pc := 50) (tgt := 87) dX0_init_50 (by decide) (fun h => absurd h (by decide)) (fun _ => ?_)
  refine sv_aload_n (pc := 53) dX0_init_53 rfl rfl ?_
  refine sw_getfield (pc := 54) dX0_init_54 (gCX0 _ _ _ _ _) 1 (by decide) wF_X0_19 rfl rfl rfl ?_
  refine sv_iload_n (pc := 57) dX0_init_57 rfl rfl ?_
  refine sv_iconst (pc := 58) (v := (-1)) dX0_init_58 (by decide) ?_
  refine sw_iastore (pc := 59) (k := 0) (v := .int (-1)) dX0_init_59 rfl rfl rfl (by decide) (by decide) rfl rfl ?_
  refine sv_aload_n (pc := 60) dX0_init_60 rfl rfl ?_
  refine sw_getfield (pc := 61) dX0_init_61 (gCX0 _ _ _ _ _) 2 (by decide) wF_X0_22 rfl rfl rfl ?_
  refine sv_iload_n (pc := 64) dX0_init_64 rfl rfl ?_
  refine sv_ldc (pc := 65) dX0_init_65 wG_X0_31 ?_
  refine sw_iastore (pc := 67) (k := 0) (v := .int (-99999999)) dX0_init_67 rfl rfl rfl (by decide) (by decide) rfl rfl ?_
  refine sv_aload_n (pc := 68) dX0_init_68 rfl rfl ?_
  refine sw_getfield (pc := 69) dX0_init_69 (gCX0 _ _ _ _ _) 3 (by decide) wF_X0_27 rfl rfl rfl ?_
  refine sv_iload_n (pc := 72) dX0_init_72 rfl rfl ?_
  refine sw_new (pc := 73) (a := 197) (n1 := 198) (ce1 := 5) (sl1 := 48) (fs := zX7) dX0_init_73 (gCX7 _ _ _ _ _) wC_X0_25 wN_X7 wI_X7 zX7_ok rfl rfl rfl rfl rfl rfl ?_
  refine sv_dup (pc := 76) dX0_init_76 rfl ?_
  refine sv_callI (pc := 77) (M' := mX7_init) (d' := 17) (C' := 2) (S' := 28) (av := []) ?_ (gOk _ _ _ _ _) dX0_init_77 (tX7_init _ _ _ _ _) rfl rfl wV_X7_init wM_X0_32 ⟨le_t rfl, le_t rfl⟩ ⟨le_t rfl, le_t rfl⟩ rfl (le_t rfl) (fun _ _ h => h)
  refine sC.of rfl (by decide) (le_t rfl) ?_
  refine sv_aload_n (pc := 0) dX7_init_0 rfl rfl ?_
  refine sv_objinit (pc := 1) dX7_init_1 wM_X7_3 wV_obj wK_obj ⟨le_t rfl, le_t rfl⟩ (le_t rfl) ?_
  refine sv_aload_n (pc := 4) dX7_init_4 rfl rfl ?_
  refine sv_bipush (pc := 5) (v := 20) dX7_init_5 (by decide) ?_
  refine sw_newarray (pc := 7) (kd := 0) (a := 198) (n1 := 199) (N := 20) (ce1 := 1) (sl1 := 20) (v := .int 0) dX7_init_7 rfl wA_int rfl (fun U => sI_Cond_int U _) (by decide) (by decide) rfl (fun _ => rfl) rfl rfl rfl rfl rfl rfl ?_
  refine sw_putfinal (pc := 9) dX7_init_9 (gCX7 _ _ _ _ _) 0 (by decide) wF_X7_9 rfl rfl rfl rfl rfl (fun _ => rfl) (fun _ => rfl) rfl ?_
  refine sv_aload_n (pc := 12) dX7_init_12 rfl rfl ?_
  refine sv_bipush (pc := 13) (v := 8) dX7_init_13 (by decide) ?_
  refine sw_newarray (pc := 15) (kd := 0) (a := 199) (n1 := 200) (N := 8) (ce1 := 2) (sl1 := 28) (v := .int 0) dX7_init_15 rfl wA_int rfl (fun U => sI_Cond_int U _) (by decide) (by decide) rfl (fun _ => rfl) rfl rfl rfl rfl rfl rfl ?_
  refine sw_putfinal (pc := 17) dX7_init_17 (gCX7 _ _ _ _ _) 1 (by decide) wF_X7_15 rfl rfl rfl rfl rfl (fun _ => rfl) (fun _ => rfl) rfl ?_
  refine sv_aload_n (pc := 20) dX7_init_20 rfl rfl ?_
  refine sv_iconst (pc := 21) (v := (-1)) dX7_init_21 (by decide) ?_
  refine sw_putfield (pc := 22) dX7_init_22 (gCX7 _ _ _ _ _) 9 (by decide) wF_X7_18 rfl rfl rfl (fun _ => rfl) (fun _ => rfl) rfl ?_
  refine sv_vret (pc := 25) dX7_init_25 rfl (le_t rfl) (le_t rfl) ?_
  refine sw_aastore (pc := 80) (k := 0) dX0_init_80 (gCX7 _ _ _ _ _) rfl rfl rfl (by decide) (by decide) rfl rfl rfl ?_
  refine sw_iinc (pc := 81) (v := 1) dX0_init_81 rfl (by decide) (by decide) ?_
  refine sv_goto (pc := 84) (tgt := 47) dX0_init_84 (by decide) ?_
  refine sv_iload_n (pc := 47) dX0_init_47 rfl rfl ?_
  refine sv_bipush (pc := 48) (v := 10) dX0_init_48 (by decide) ?_
  refine sv_icmp_ge (pc := 50) (tgt := 87) dX0_init_50 (by decide) (fun h => absurd h (by decide)) (fun _ => ?_)
  refine sv_aload_n (pc := 53) dX0_init_53 rfl rfl ?_
  refine sw_getfield (pc := 54) dX0_init_54 (gCX0 _ _ _ _ _) 1 (by decide) wF_X0_19 rfl rfl rfl ?_
  refine sv_iload_n (pc := 57) dX0_init_57 rfl rfl ?_
  refine sv_iconst (pc := 58) (v := (-1)) dX0_init_58 (by decide) ?_
  refine sw_iastore (pc := 59) (k := 1) (v := .int (-1)) dX0_init_59 rfl rfl rfl (by decide) (by decide) rfl rfl ?_
  refine sv_aload_n (pc := 60) dX0_init_60 rfl rfl ?_
  refine sw_getfield (pc := 61) dX0_init_61 (gCX0 _ _ _ _ _) 2 (by decide) wF_X0_22 rfl rfl rfl ?_
  refine sv_iload_n (pc := 64) dX0_init_64 rfl rfl ?_
  refine sv_ldc (pc := 65) dX0_init_65 wG_X0_31 ?_
  refine sw_iastore (pc := 67) (k := 1) (v := .int (-99999999)) dX0_init_67 rfl rfl rfl (by decide) (by decide) rfl rfl ?_
  refine sv_aload_n (pc := 68) dX0_init_68 rfl rfl ?_
  refine sw_getfield (pc := 69) dX0_init_69 (gCX0 _ _ _ _ _) 3 (by decide) wF_X0_27 rfl rfl rfl ?_
  refine sv_iload_n (pc := 72) dX0_init_72 rfl rfl ?_
  refine sw_new (pc := 73) (a := 200) (n1 := 201) (ce1 := 8) (sl1 := 88) (fs := zX7) dX0_init_73 (gCX7 _ _ _ _ _) wC_X0_25 wN_X7 wI_X7 zX7_ok rfl rfl rfl rfl rfl rfl ?_
  refine sv_dup (pc := 76) dX0_init_76 rfl ?_
  refine sv_callI (pc := 77) (M' := mX7_init) (d' := 17) (C' := 2) (S' := 28) (av := []) ?_ (gOk _ _ _ _ _) dX0_init_77 (tX7_init _ _ _ _ _) rfl rfl wV_X7_init wM_X0_32 ⟨le_t rfl, le_t rfl⟩ ⟨le_t rfl, le_t rfl⟩ rfl (le_t rfl) (fun _ _ h => h)
  refine sC.of rfl (by decide) (le_t rfl) ?_
  refine sv_aload_n (pc := 0) dX7_init_0 rfl rfl ?_
  refine sv_objinit (pc := 1) dX7_init_1 wM_X7_3 wV_obj wK_obj ⟨le_t rfl, le_t rfl⟩ (le_t rfl) ?_
  refine sv_aload_n (pc := 4) dX7_init_4 rfl rfl ?_
  refine sv_bipush (pc := 5) (v := 20) dX7_init_5 (by decide) ?_
  refine sw_newarray (pc := 7) (kd := 0) (a := 201) (n1 := 202) (N := 20) (ce1 := 1) (sl1 := 20) (v := .int 0) dX7_init_7 rfl wA_int rfl (fun U => sI_Cond_int U _) (by decide) (by decide) rfl (fun _ => rfl) rfl rfl rfl rfl rfl rfl ?_
  refine sw_putfinal (pc := 9) dX7_init_9 (gCX7 _ _ _ _ _) 0 (by decide) wF_X7_9 rfl rfl rfl rfl rfl (fun _ => rfl) (fun _ => rfl) rfl ?_
  refine sv_aload_n (pc := 12) dX7_init_12 rfl rfl ?_
  refine sv_bipush (pc := 13) (v := 8) dX7_init_13 (by decide) ?_
  refine sw_newarray (pc := 15) (kd := 0) (a := 202) (n1 := 203) (N := 8) (ce1 := 2) (sl1 := 28) (v := .int 0) dX7_init_15 rfl wA_int rfl (fun U => sI_Cond_int U _) (by decide) (by decide) rfl (fun _ => rfl) rfl rfl rfl rfl rfl rfl ?_
  refine sw_putfinal (pc := 17) dX7_init_17 (gCX7 _ _ _ _ _) 1 (by decide) wF_X7_15 rfl rfl rfl rfl rfl (fun _ => rfl) (fun _ => rfl) rfl ?_
  refine sv_aload_n (pc := 20) dX7_init_20 rfl rfl ?_
  refine sv_iconst (pc := 21) (v := (-1)) dX7_init_21 (by decide) ?_
  refine sw_putfield (pc := 22) dX7_init_22 (gCX7 _ _ _ _ _) 9 (by decide) wF_X7_18 rfl rfl rfl (fun _ => rfl) (fun _ => rfl) rfl ?_
  refine sv_vret (pc := 25) dX7_init_25 rfl (le_t rfl) (le_t rfl) ?_
  refine sw_aastore (pc := 80) (k := 1) dX0_init_80 (gCX7 _ _ _ _ _) rfl rfl rfl (by decide) (by decide) rfl rfl rfl ?_
  refine sw_iinc (pc := 81) (v := 2) dX0_init_81 rfl (by decide) (by decide) ?_
  refine sv_goto (pc := 84) (tgt := 47) dX0_init_84 (by decide) ?_
  refine sv_iload_n (pc := 47) dX0_init_47 rfl rfl ?_
  refine sv_bipush (pc := 48) (v := 10) dX0_init_48 (by decide) ?_
  refine sv_icmp_ge (pc := 50) (tgt := 87) dX0_init_50 (by decide) (fun h => absurd h (by decide)) (fun _ => ?_)
  refine sv_aload_n (pc := 53) dX0_init_53 rfl rfl ?_
  refine sw_getfield (pc := 54) dX0_init_54 (gCX0 _ _ _ _ _) 1 (by decide) wF_X0_19 rfl rfl rfl ?_
  refine sv_iload_n (pc := 57) dX0_init_57 rfl rfl ?_
  refine sv_iconst (pc := 58) (v := (-1)) dX0_init_58 (by decide) ?_
  refine sw_iastore (pc := 59) (k := 2) (v := .int (-1)) dX0_init_59 rfl rfl rfl (by decide) (by decide) rfl rfl ?_
  refine sv_aload_n (pc := 60) dX0_init_60 rfl rfl ?_
  refine sw_getfield (pc := 61) dX0_init_61 (gCX0 _ _ _ _ _) 2 (by decide) wF_X0_22 rfl rfl rfl ?_
  refine sv_iload_n (pc := 64) dX0_init_64 rfl rfl ?_
  refine sv_ldc (pc := 65) dX0_init_65 wG_X0_31 ?_
  refine sw_iastore (pc := 67) (k := 2) (v := .int (-99999999)) dX0_init_67 rfl rfl rfl (by decide) (by decide) rfl rfl ?_
  refine sv_aload_n (pc := 68) dX0_init_68 rfl rfl ?_
  refine sw_getfield (pc := 69) dX0_init_69 (gCX0 _ _ _ _ _) 3 (by decide) wF_X0_27 rfl rfl rfl ?_
  refine sv_iload_n (pc := 72) dX0_init_72 rfl rfl ?_
  refine sw_new (pc := 73) (a := 203) (n1 := 204) (ce1 := 11) (sl1 := 128) (fs := zX7) dX0_init_73 (gCX7 _ _ _ _ _) wC_X0_25 wN_X7 wI_X7 zX7_ok rfl rfl rfl rfl rfl rfl ?_
  refine sv_dup (pc := 76) dX0_init_76 rfl ?_
  refine sv_callI (pc := 77) (M' := mX7_init) (d' := 17) (C' := 2) (S' := 28) (av := []) ?_ (gOk _ _ _ _ _) dX0_init_77 (tX7_init _ _ _ _ _) rfl rfl wV_X7_init wM_X0_32 ⟨le_t rfl, le_t rfl⟩ ⟨le_t rfl, le_t rfl⟩ rfl (le_t rfl) (fun _ _ h => h)
  refine sC.of rfl (by decide) (le_t rfl) ?_
  refine sv_aload_n (pc := 0) dX7_init_0 rfl rfl ?_
  refine sv_objinit (pc := 1) dX7_init_1 wM_X7_3 wV_obj wK_obj ⟨le_t rfl, le_t rfl⟩ (le_t rfl) ?_
  refine sv_aload_n (pc := 4) dX7_init_4 rfl rfl ?_
  refine sv_bipush (pc := 5) (v := 20) dX7_init_5 (by decide) ?_
  refine sw_newarray (pc := 7) (kd := 0) (a := 204) (n1 := 205) (N := 20) (ce1 := 1) (sl1 := 20) (v := .int 0) dX7_init_7 rfl wA_int rfl (fun U => sI_Cond_int U _) (by decide) (by decide) rfl (fun _ => rfl) rfl rfl rfl rfl rfl rfl ?_
  refine sw_putfinal (pc := 9) dX7_init_9 (gCX7 _ _ _ _ _) 0 (by decide) wF_X7_9 rfl rfl rfl rfl rfl (fun _ => rfl) (fun _ => rfl) rfl ?_
  refine sv_aload_n (pc := 12) dX7_init_12 rfl rfl ?_
  refine sv_bipush (pc := 13) (v := 8) dX7_init_13 (by decide) ?_
  refine sw_newarray (pc := 15) (kd := 0) (a := 205) (n1 := 206) (N := 8) (ce1 := 2) (sl1 := 28) (v := .int 0) dX7_init_15 rfl wA_int rfl (fun U => sI_Cond_int U _) (by decide) (by decide) rfl (fun _ => rfl) rfl rfl rfl rfl rfl rfl ?_
  refine sw_putfinal (pc := 17) dX7_init_17 (gCX7 _ _ _ _ _) 1 (by decide) wF_X7_15 rfl rfl rfl rfl rfl (fun _ => rfl) (fun _ => rfl) rfl ?_
  refine sv_aload_n (pc := 20) dX7_init_20 rfl rfl ?_
  refine sv_iconst (pc := 21) (v := (-1)) dX7_init_21 (by decide) ?_
  refine sw_putfield (pc := 22) dX7_init_22 (gCX7 _ _ _ _ _) 9 (by decide) wF_X7_18 rfl rfl rfl (fun _ => rfl) (fun _ => rfl) rfl ?_
  refine sv_vret (pc := 25) dX7_init_25 rfl (le_t rfl) (le_t rfl) ?_
  refine sw_aastore (pc := 80) (k := 2) dX0_init_80 (gCX7 _ _ _ _ _) rfl rfl rfl (by decide) (by decide) rfl rfl rfl ?_
  refine sw_iinc (pc := 81) (v := 3) dX0_init_81 rfl (by decide) (by decide) ?_
  refine sv_goto (pc := 84) (tgt := 47) dX0_init_84 (by decide) ?_
  refine sv_iload_n (pc := 47) dX0_init_47 rfl rfl ?_
  refine sv_bipush (pc := 48) (v := 10) dX0_init_48 (by decide) ?_
  refine sv_icmp_ge (pc := 50) (tgt := 87) dX0_init_50 (by decide) (fun h => absurd h (by decide)) (fun _ => ?_)
  refine sv_aload_n (pc := 53) dX0_init_53 rfl rfl ?_
  refine sw_getfield (pc := 54) dX0_init_54 (gCX0 _ _ _ _ _) 1 (by decide) wF_X0_19 rfl rfl rfl ?_
  refine sv_iload_n (pc := 57) dX0_init_57 rfl rfl ?_
  refine sv_iconst (pc := 58) (v := (-1)) dX0_init_58 (by decide) ?_
  refine sw_iastore (pc := 59) (k := 3) (v := .int (-1)) dX0_init_59 rfl rfl rfl (by decide) (by decide) rfl rfl ?_
  refine sv_aload_n (pc := 60) dX0_init_60 rfl rfl ?_
  refine sw_getfield (pc := 61) dX0_init_61 (gCX0 _ _ _ _ _) 2 (by decide) wF_X0_22 rfl rfl rfl ?_
  refine sv_iload_n (pc := 64) dX0_init_64 rfl rfl ?_
  refine sv_ldc (pc := 65) dX0_init_65 wG_X0_31 ?_
  refine sw_iastore (pc := 67) (k := 3) (v := .int (-99999999)) dX0_init_67 rfl rfl rfl (by decide) (by decide) rfl rfl ?_
  refine sv_aload_n (pc := 68) dX0_init_68 rfl rfl ?_
  refine sw_getfield (pc := 69) dX0_init_69 (gCX0 _ _ _ _ _) 3 (by decide) wF_X0_27 rfl rfl rfl ?_
  refine sv_iload_n (pc := 72) dX0_init_72 rfl rfl ?_
  refine sw_new (pc := 73) (a := 206) (n1 := 207) (ce1 := 14) (sl1 := 168) (fs := zX7) dX0_init_73 (gCX7 _ _ _ _ _) wC_X0_25 wN_X7 wI_X7 zX7_ok rfl rfl rfl rfl rfl rfl ?_
  refine sv_dup (pc := 76) dX0_init_76 rfl ?_
  refine sv_callI (pc := 77) (M' := mX7_init) (d' := 17) (C' := 2) (S' := 28) (av := []) ?_ (gOk _ _ _ _ _) dX0_init_77 (tX7_init _ _ _ _ _) rfl rfl wV_X7_init wM_X0_32 ⟨le_t rfl, le_t rfl⟩ ⟨le_t rfl, le_t rfl⟩ rfl (le_t rfl) (fun _ _ h => h)
  refine sC.of rfl (by decide) (le_t rfl) ?_
  refine sv_aload_n (pc := 0) dX7_init_0 rfl rfl ?_
  refine sv_objinit (pc := 1) dX7_init_1 wM_X7_3 wV_obj wK_obj ⟨le_t rfl, le_t rfl⟩ (le_t rfl) ?_
  refine sv_aload_n (pc := 4) dX7_init_4 rfl rfl ?_
  refine sv_bipush (pc := 5) (v := 20) dX7_init_5 (by decide) ?_
  refine sw_newarray (pc := 7) (kd := 0) (a := 207) (n1 := 208) (N := 20) (ce1 := 1) (sl1 := 20) (v := .int 0) dX7_init_7 rfl wA_int rfl (fun U => sI_Cond_int U _) (by decide) (by decide) rfl (fun _ => rfl) rfl rfl rfl rfl rfl rfl ?_
  refine sw_putfinal (pc := 9) dX7_init_9 (gCX7 _ _ _ _ _) 0 (by decide) wF_X7_9 rfl rfl rfl rfl rfl (fun _ => rfl) (fun _ => rfl) rfl ?_
  refine sv_aload_n (pc := 12) dX7_init_12 rfl rfl ?_
  refine sv_bipush (pc := 13) (v := 8) dX7_init_13 (by decide) ?_
  refine sw_newarray (pc := 15) (kd := 0) (a := 208) (n1 := 209) (N := 8) (ce1 := 2) (sl1 := 28) (v := .int 0) dX7_init_15 rfl wA_int rfl (fun U => sI_Cond_int U _) (by decide) (by decide) rfl (fun _ => rfl) rfl rfl rfl rfl rfl rfl ?_
  refine sw_putfinal (pc := 17) dX7_init_17 (gCX7 _ _ _ _ _) 1 (by decide) wF_X7_15 rfl rfl rfl rfl rfl (fun _ => rfl) (fun _ => rfl) rfl ?_
  refine sv_aload_n (pc := 20) dX7_init_20 rfl rfl ?_
  refine sv_iconst (pc := 21) (v := (-1)) dX7_init_21 (by decide) ?_
  refine sw_putfield (pc := 22) dX7_init_22 (gCX7 _ _ _ _ _) 9 (by decide) wF_X7_18 rfl rfl rfl (fun _ => rfl) (fun _ => rfl) rfl ?_
  refine sv_vret (pc := 25) dX7_init_25 rfl (le_t rfl) (le_t rfl) ?_
  refine sw_aastore (pc := 80) (k := 3) dX0_init_80 (gCX7 _ _ _ _ _) rfl rfl rfl (by decide) (by decide) rfl rfl rfl ?_
  refine sw_iinc (pc := 81) (v := 4) dX0_init_81 rfl (by decide) (by decide) ?_
  refine sv_goto (pc := 84) (tgt := 47) dX0_init_84 (by decide) ?_
  refine sv_iload_n (pc := 47) dX0_init_47 rfl rfl ?_
  refine sv_bipush (pc := 48) (v := 10) dX0_init_48 (by decide) ?_
  refine sv_icmp_ge (pc := 50) (tgt := 87) dX0_init_50 (by decide) (fun h => absurd h (by decide)) (fun _ => ?_)
  refine sv_aload_n (pc := 53) dX0_init_53 rfl rfl ?_
  refine sw_getfield (pc := 54) dX0_init_54 (gCX0 _ _ _ _ _) 1 (by decide) wF_X0_19 rfl rfl rfl ?_
  refine sv_iload_n (pc := 57) dX0_init_57 rfl rfl ?_
  refine sv_iconst (pc := 58) (v := (-1)) dX0_init_58 (by decide) ?_
  refine sw_iastore (pc := 59) (k := 4) (v := .int (-1)) dX0_init_59 rfl rfl rfl (by decide) (by decide) rfl rfl ?_
  refine sv_aload_n (pc := 60) dX0_init_60 rfl rfl ?_
  refine sw_getfield (pc := 61) dX0_init_61 (gCX0 _ _ _ _ _) 2 (by decide) wF_X0_22 rfl rfl rfl ?_
  refine sv_iload_n (pc := 64) dX0_init_64 rfl rfl ?_
  refine sv_ldc (pc := 65) dX0_init_65 wG_X0_31 ?_
  refine sw_iastore (pc := 67) (k := 4) (v := .int (-99999999)) dX0_init_67 rfl rfl rfl (by decide) (by decide) rfl rfl ?_
  refine sv_aload_n (pc := 68) dX0_init_68 rfl rfl ?_
  refine sw_getfield (pc := 69) dX0_init_69 (gCX0 _ _ _ _ _) 3 (by decide) wF_X0_27 rfl rfl rfl ?_
  refine sv_iload_n (pc := 72) dX0_init_72 rfl rfl ?_
  refine sw_new (pc := 73) (a := 209) (n1 := 210) (ce1 := 17) (sl1 := 208) (fs := zX7) dX0_init_73 (gCX7 _ _ _ _ _) wC_X0_25 wN_X7 wI_X7 zX7_ok rfl rfl rfl rfl rfl rfl ?_
  refine sv_dup (pc := 76) dX0_init_76 rfl ?_
  refine sv_callI (pc := 77) (M' := mX7_init) (d' := 17) (C' := 2) (S' := 28) (av := []) ?_ (gOk _ _ _ _ _) dX0_init_77 (tX7_init _ _ _ _ _) rfl rfl wV_X7_init wM_X0_32 ⟨le_t rfl, le_t rfl⟩ ⟨le_t rfl, le_t rfl⟩ rfl (le_t rfl) (fun _ _ h => h)
  refine sC.of rfl (by decide) (le_t rfl) ?_
  refine sv_aload_n (pc := 0) dX7_init_0 rfl rfl ?_
  refine sv_objinit (pc := 1) dX7_init_1 wM_X7_3 wV_obj wK_obj ⟨le_t rfl, le_t rfl⟩ (le_t rfl) ?_
  refine sv_aload_n (pc := 4) dX7_init_4 rfl rfl ?_
  refine sv_bipush (pc := 5) (v := 20) dX7_init_5 (by decide) ?_
  refine sw_newarray (pc := 7) (kd := 0) (a := 210) (n1 := 211) (N := 20) (ce1 := 1) (sl1 := 20) (v := .int 0) dX7_init_7 rfl wA_int rfl (fun U => sI_Cond_int U _) (by decide) (by decide) rfl (fun _ => rfl) rfl rfl rfl rfl rfl rfl ?_
  refine sw_putfinal (pc := 9) dX7_init_9 (gCX7 _ _ _ _ _) 0 (by decide) wF_X7_9 rfl rfl rfl rfl rfl (fun _ => rfl) (fun _ => rfl) rfl ?_
  refine sv_aload_n (pc := 12) dX7_init_12 rfl rfl ?_
  refine sv_bipush (pc := 13) (v := 8) dX7_init_13 (by decide) ?_
  refine sw_newarray (pc := 15) (kd := 0) (a := 211) (n1 := 212) (N := 8) (ce1 := 2) (sl1 := 28) (v := .int 0) dX7_init_15 rfl wA_int rfl (fun U => sI_Cond_int U _) (by decide) (by decide) rfl (fun _ => rfl) rfl rfl rfl rfl rfl rfl ?_
  refine sw_putfinal (pc := 17) dX7_init_17 (gCX7 _ _ _ _ _) 1 (by decide) wF_X7_15 rfl rfl rfl rfl rfl (fun _ => rfl) (fun _ => rfl) rfl ?_
  refine sv_aload_n (pc := 20) dX7_init_20 rfl rfl ?_
  refine sv_iconst (pc := 21) (v := (-1)) dX7_init_21 (by decide) ?_
  refine sw_putfield (pc := 22) dX7_init_22 (gCX7 _ _ _ _ _) 9 (by decide) wF_X7_18 rfl rfl rfl (fun _ => rfl) (fun _ => rfl) rfl ?_
  refine sv_vret (pc := 25) dX7_init_25 rfl (le_t rfl) (le_t rfl) ?_
  refine sw_aastore (pc := 80) (k := 4) dX0_init_80 (gCX7 _ _ _ _ _) rfl rfl rfl (by decide) (by decide) rfl rfl rfl ?_
  refine sw_iinc (pc := 81) (v := 5) dX0_init_81 rfl (by decide) (by decide) ?_
  refine sv_goto (pc := 84) (tgt := 47) dX0_init_84 (by decide) ?_
  refine sv_iload_n (pc := 47) dX0_init_47 rfl rfl ?_
  refine sv_bipush (pc := 48) (v := 10) dX0_init_48 (by decide) ?_
  refine sv_icmp_ge (pc := 50) (tgt := 87) dX0_init_50 (by decide) (fun h => absurd h (by decide)) (fun _ => ?_)
  refine sv_aload_n (pc := 53) dX0_init_53 rfl rfl ?_
  refine sw_getfield (pc := 54) dX0_init_54 (gCX0 _ _ _ _ _) 1 (by decide) wF_X0_19 rfl rfl rfl ?_
  refine sv_iload_n (pc := 57) dX0_init_57 rfl rfl ?_
  refine sv_iconst (pc := 58) (v := (-1)) dX0_init_58 (by decide) ?_
  refine sw_iastore (pc := 59) (k := 5) (v := .int (-1)) dX0_init_59 rfl rfl rfl (by decide) (by decide) rfl rfl ?_
  refine sv_aload_n (pc := 60) dX0_init_60 rfl rfl ?_
  refine sw_getfield (pc := 61) dX0_init_61 (gCX0 _ _ _ _ _) 2 (by decide) wF_X0_22 rfl rfl rfl ?_
  refine sv_iload_n (pc := 64) dX0_init_64 rfl rfl ?_
  refine sv_ldc (pc := 65) dX0_init_65 wG_X0_31 ?_
  refine sw_iastore (pc := 67) (k := 5) (v := .int (-99999999)) dX0_init_67 rfl rfl rfl (by decide) (by decide) rfl rfl ?_
  refine sv_aload_n (pc := 68) dX0_init_68 rfl rfl ?_
  refine sw_getfield (pc := 69) dX0_init_69 (gCX0 _ _ _ _ _) 3 (by decide) wF_X0_27 rfl rfl rfl ?_
  refine sv_iload_n (pc := 72) dX0_init_72 rfl rfl ?_
  refine sw_new (pc := 73) (a := 212) (n1 := 213) (ce1 := 20) (sl1 := 248) (fs := zX7) dX0_init_73 (gCX7 _ _ _ _ _) wC_X0_25 wN_X7 wI_X7 zX7_ok rfl rfl rfl rfl rfl rfl ?_
  refine sv_dup (pc := 76) dX0_init_76 rfl ?_
  refine sv_callI (pc := 77) (M' := mX7_init) (d' := 17) (C' := 2) (S' := 28) (av := []) ?_ (gOk _ _ _ _ _) dX0_init_77 (tX7_init _ _ _ _ _) rfl rfl wV_X7_init wM_X0_32 ⟨le_t rfl, le_t rfl⟩ ⟨le_t rfl, le_t rfl⟩ rfl (le_t rfl) (fun _ _ h => h)
  refine sC.of rfl (by decide) (le_t rfl) ?_
  refine sv_aload_n (pc := 0) dX7_init_0 rfl rfl ?_
  refine sv_objinit (pc := 1) dX7_init_1 wM_X7_3 wV_obj wK_obj ⟨le_t rfl, le_t rfl⟩ (le_t rfl) ?_
  refine sv_aload_n (pc := 4) dX7_init_4 rfl rfl ?_
  refine sv_bipush (pc := 5) (v := 20) dX7_init_5 (by decide) ?_
  refine sw_newarray (pc := 7) (kd := 0) (a := 213) (n1 := 214) (N := 20) (ce1 := 1) (sl1 := 20) (v := .int 0) dX7_init_7 rfl wA_int rfl (fun U => sI_Cond_int U _) (by decide) (by decide) rfl (fun _ => rfl) rfl rfl rfl rfl rfl rfl ?_
  refine sw_putfinal (pc := 9) dX7_init_9 (gCX7 _ _ _ _ _) 0 (by decide) wF_X7_9 rfl rfl rfl rfl rfl (fun _ => rfl) (fun _ => rfl) rfl ?_
  refine sv_aload_n (pc := 12) dX7_init_12 rfl rfl ?_
  refine sv_bipush (pc := 13) (v := 8) dX7_init_13 (by decide) ?_
  refine sw_newarray (pc := 15) (kd := 0) (a := 214) (n1 := 215) (N := 8) (ce1 := 2) (sl1 := 28) (v := .int 0) dX7_init_15 rfl wA_int rfl (fun U => sI_Cond_int U _) (by decide) (by decide) rfl (fun _ => rfl) rfl rfl rfl rfl rfl rfl ?_
  refine sw_putfinal (pc := 17) dX7_init_17 (gCX7 _ _ _ _ _) 1 (by decide) wF_X7_15 rfl rfl rfl rfl rfl (fun _ => rfl) (fun _ => rfl) rfl ?_
  refine sv_aload_n (pc := 20) dX7_init_20 rfl rfl ?_
  refine sv_iconst (pc := 21) (v := (-1)) dX7_init_21 (by decide) ?_
  refine sw_putfield (pc := 22) dX7_init_22 (gCX7 _ _ _ _ _) 9 (by decide) wF_X7_18 rfl rfl rfl (fun _ => rfl) (fun _ => rfl) rfl ?_
  refine sv_vret (pc := 25) dX7_init_25 rfl (le_t rfl) (le_t rfl) ?_
  refine sw_aastore (pc := 80) (k := 5) dX0_init_80 (gCX7 _ _ _ _ _) rfl rfl rfl (by decide) (by decide) rfl rfl rfl ?_
  refine sw_iinc (pc := 81) (v := 6) dX0_init_81 rfl (by decide) (by decide) ?_
  refine sv_goto (pc := 84) (tgt := 47) dX0_init_84 (by decide) ?_
  refine sv_iload_n (pc := 47) dX0_init_47 rfl rfl ?_
  refine sv_bipush (pc := 48) (v := 10) dX0_init_48 (by decide) ?_
  refine sv_icmp_ge (pc := 50) (tgt := 87) dX0_init_50 (by decide) (fun h => absurd h (by decide)) (fun _ => ?_)
  refine sv_aload_n (pc := 53) dX0_init_53 rfl rfl ?_
  refine sw_getfield (pc := 54) dX0_init_54 (gCX0 _ _ _ _ _) 1 (by decide) wF_X0_19 rfl rfl rfl ?_
  refine sv_iload_n (pc := 57) dX0_init_57 rfl rfl ?_
  refine sv_iconst (pc := 58) (v := (-1)) dX0_init_58 (by decide) ?_
  refine sw_iastore (pc := 59) (k := 6) (v := .int (-1)) dX0_init_59 rfl rfl rfl (by decide) (by decide) rfl rfl ?_
  refine sv_aload_n (pc := 60) dX0_init_60 rfl rfl ?_
  refine sw_getfield (pc := 61) dX0_init_61 (gCX0 _ _ _ _ _) 2 (by decide) wF_X0_22 rfl rfl rfl ?_
  refine sv_iload_n (pc := 64) dX0_init_64 rfl rfl ?_
  refine sv_ldc (pc := 65) dX0_init_65 wG_X0_31 ?_
  refine sw_iastore (pc := 67) (k := 6) (v := .int (-99999999)) dX0_init_67 rfl rfl rfl (by decide) (by decide) rfl rfl ?_
  refine sv_aload_n (pc := 68) dX0_init_68 rfl rfl ?_
  refine sw_getfield (pc := 69) dX0_init_69 (gCX0 _ _ _ _ _) 3 (by decide) wF_X0_27 rfl rfl rfl ?_
  refine sv_iload_n (pc := 72) dX0_init_72 rfl rfl ?_
  refine sw_new (pc := 73) (a := 215) (n1 := 216) (ce1 := 23) (sl1 := 288) (fs := zX7) dX0_init_73 (gCX7 _ _ _ _ _) wC_X0_25 wN_X7 wI_X7 zX7_ok rfl rfl rfl rfl rfl rfl ?_
  refine sv_dup (pc := 76) dX0_init_76 rfl ?_
  refine sv_callI (pc := 77) (M' := mX7_init) (d' := 17) (C' := 2) (S' := 28) (av := []) ?_ (gOk _ _ _ _ _) dX0_init_77 (tX7_init _ _ _ _ _) rfl rfl wV_X7_init wM_X0_32 ⟨le_t rfl, le_t rfl⟩ ⟨le_t rfl, le_t rfl⟩ rfl (le_t rfl) (fun _ _ h => h)
  refine sC.of rfl (by decide) (le_t rfl) ?_
  refine sv_aload_n (pc := 0) dX7_init_0 rfl rfl ?_
  refine sv_objinit (pc := 1) dX7_init_1 wM_X7_3 wV_obj wK_obj ⟨le_t rfl, le_t rfl⟩ (le_t rfl) ?_
  refine sv_aload_n (pc := 4) dX7_init_4 rfl rfl ?_
  refine sv_bipush (pc := 5) (v := 20) dX7_init_5 (by decide) ?_
  refine sw_newarray (pc := 7) (kd := 0) (a := 216) (n1 := 217) (N := 20) (ce1 := 1) (sl1 := 20) (v := .int 0) dX7_init_7 rfl wA_int rfl (fun U => sI_Cond_int U _) (by decide) (by decide) rfl (fun _ => rfl) rfl rfl rfl rfl rfl rfl ?_
  refine sw_putfinal (pc := 9) dX7_init_9 (gCX7 _ _ _ _ _) 0 (by decide) wF_X7_9 rfl rfl rfl rfl rfl (fun _ => rfl) (fun _ => rfl) rfl ?_
  refine sv_aload_n (pc := 12) dX7_init_12 rfl rfl ?_
  refine sv_bipush (pc := 13) (v := 8) dX7_init_13 (by decide) ?_
  refine sw_newarray (pc := 15) (kd := 0) (a := 217) (n1 := 218) (N := 8) (ce1 := 2) (sl1 := 28) (v := .int 0) dX7_init_15 rfl wA_int rfl (fun U => sI_Cond_int U _) (by decide) (by decide) rfl (fun _ => rfl) rfl rfl rfl rfl rfl rfl ?_
  refine sw_putfinal (pc := 17) dX7_init_17 (gCX7 _ _ _ _ _) 1 (by decide) wF_X7_15 rfl rfl rfl rfl rfl (fun _ => rfl) (fun _ => rfl) rfl ?_
  refine sv_aload_n (pc := 20) dX7_init_20 rfl rfl ?_
  refine sv_iconst (pc := 21) (v := (-1)) dX7_init_21 (by decide) ?_
  refine sw_putfield (pc := 22) dX7_init_22 (gCX7 _ _ _ _ _) 9 (by decide) wF_X7_18 rfl rfl rfl (fun _ => rfl) (fun _ => rfl) rfl ?_
  refine sv_vret (pc := 25) dX7_init_25 rfl (le_t rfl) (le_t rfl) ?_
  refine sw_aastore (pc := 80) (k := 6) dX0_init_80 (gCX7 _ _ _ _ _) rfl rfl rfl (by decide) (by decide) rfl rfl rfl ?_
  refine sw_iinc (pc := 81) (v := 7) dX0_init_81 rfl (by decide) (by decide) ?_
  refine sv_lvG (pc := 84) (lv' := [(0, .ref 192), (1, .int 7)]) (List.forall_mem_cons.mpr ⟨rfl, List.forall_mem_cons.mpr ⟨rfl, fun _ h => absurd h List.not_mem_nil⟩⟩) ?_
  refine sv_goto (pc := 84) (tgt := 47) dX0_init_84 (by decide) ?_
  refine sv_iload_n (pc := 47) dX0_init_47 rfl rfl ?_
  refine sv_bipush (pc := 48) (v := 10) dX0_init_48 (by decide) ?_
  refine sv_icmp_ge (pc := 50) (tgt := 87) dX0_init_50 (by decide) (fun h => absurd h (by decide)) (fun _ => ?_)
  refine sv_aload_n (pc := 53) dX0_init_53 rfl rfl ?_
  refine sw_getfield (pc := 54) dX0_init_54 (gCX0 _ _ _ _ _) 1 (by decide) wF_X0_19 rfl rfl rfl ?_
  refine sv_iload_n (pc := 57) dX0_init_57 rfl rfl ?_
  refine sv_iconst (pc := 58) (v := (-1)) dX0_init_58 (by decide) ?_
  refine sw_iastore (pc := 59) (k := 7) (v := .int (-1)) dX0_init_59 rfl rfl rfl (by decide) (by decide) rfl rfl ?_
  refine sv_aload_n (pc := 60) dX0_init_60 rfl rfl ?_
  refine sw_getfield (pc := 61) dX0_init_61 (gCX0 _ _ _ _ _) 2 (by decide) wF_X0_22 rfl rfl rfl ?_
  refine sv_iload_n (pc := 64) dX0_init_64 rfl rfl ?_
  refine sv_ldc (pc := 65) dX0_init_65 wG_X0_31 ?_
  refine sw_iastore (pc := 67) (k := 7) (v := .int (-99999999)) dX0_init_67 rfl rfl rfl (by decide) (by decide) rfl rfl ?_
  refine sv_aload_n (pc := 68) dX0_init_68 rfl rfl ?_
  refine sw_getfield (pc := 69) dX0_init_69 (gCX0 _ _ _ _ _) 3 (by decide) wF_X0_27 rfl rfl rfl ?_
  refine sv_iload_n (pc := 72) dX0_init_72 rfl rfl ?_
  refine sw_new (pc := 73) (a := 218) (n1 := 219) (ce1 := 26) (sl1 := 328) (fs := zX7) dX0_init_73 (gCX7 _ _ _ _ _) wC_X0_25 wN_X7 wI_X7 zX7_ok rfl rfl rfl rfl rfl rfl ?_
  refine sv_dup (pc := 76) dX0_init_76 rfl ?_
  refine sv_callI (pc := 77) (M' := mX7_init) (d' := 17) (C' := 2) (S' := 28) (av := []) ?_ (gOk _ _ _ _ _) dX0_init_77 (tX7_init _ _ _ _ _) rfl rfl wV_X7_init wM_X0_32 ⟨le_t rfl, le_t rfl⟩ ⟨le_t rfl, le_t rfl⟩ rfl (le_t rfl) (fun _ _ h => h)
  refine sC.of rfl (by decide) (le_t rfl) ?_
  refine sv_aload_n (pc := 0) dX7_init_0 rfl rfl ?_
  refine sv_objinit (pc := 1) dX7_init_1 wM_X7_3 wV_obj wK_obj ⟨le_t rfl, le_t rfl⟩ (le_t rfl) ?_
  refine sv_aload_n (pc := 4) dX7_init_4 rfl rfl ?_
  refine sv_bipush (pc := 5) (v := 20) dX7_init_5 (by decide) ?_
  refine sw_newarray (pc := 7) (kd := 0) (a := 219) (n1 := 220) (N := 20) (ce1 := 1) (sl1 := 20) (v := .int 0) dX7_init_7 rfl wA_int rfl (fun U => sI_Cond_int U _) (by decide) (by decide) rfl (fun _ => rfl) rfl rfl rfl rfl rfl rfl ?_
  refine sw_putfinal (pc := 9) dX7_init_9 (gCX7 _ _ _ _ _) 0 (by decide) wF_X7_9 rfl rfl rfl rfl rfl (fun _ => rfl) (fun _ => rfl) rfl ?_
  refine sv_aload_n (pc := 12) dX7_init_12 rfl rfl ?_
  refine sv_bipush (pc := 13) (v := 8) dX7_init_13 (by decide) ?_
  refine sw_newarray (pc := 15) (kd := 0) (a := 220) (n1 := 221) (N := 8) (ce1 := 2) (sl1 := 28) (v := .int 0) dX7_init_15 rfl wA_int rfl (fun U => sI_Cond_int U _) (by decide) (by decide) rfl (fun _ => rfl) rfl rfl rfl rfl rfl rfl ?_
  refine sw_putfinal (pc := 17) dX7_init_17 (gCX7 _ _ _ _ _) 1 (by decide) wF_X7_15 rfl rfl rfl rfl rfl (fun _ => rfl) (fun _ => rfl) rfl ?_
  refine sv_aload_n (pc := 20) dX7_init_20 rfl rfl ?_
  refine sv_iconst (pc := 21) (v := (-1)) dX7_init_21 (by decide) ?_
  refine sw_putfield (pc := 22) dX7_init_22 (gCX7 _ _ _ _ _) 9 (by decide) wF_X7_18 rfl rfl rfl (fun _ => rfl) (fun _ => rfl) rfl ?_
  refine sv_vret (pc := 25) dX7_init_25 rfl (le_t rfl) (le_t rfl) ?_
  refine sw_aastore (pc := 80) (k := 7) dX0_init_80 (gCX7 _ _ _ _ _) rfl rfl rfl (by decide) (by decide) rfl rfl rfl ?_
  refine sw_iinc (pc := 81) (v := 8) dX0_init_81 rfl (by decide) (by decide) ?_
  refine sv_goto (pc := 84) (tgt := 47) dX0_init_84 (by decide) ?_
  refine sv_iload_n (pc := 47) dX0_init_47 rfl rfl ?_
  refine sv_bipush (pc := 48) (v := 10) dX0_init_48 (by decide) ?_
  refine sv_icmp_ge (pc := 50) (tgt := 87) dX0_init_50 (by decide) (fun h => absurd h (by decide)) (fun _ => ?_)
  refine sv_aload_n (pc := 53) dX0_init_53 rfl rfl ?_
  refine sw_getfield (pc := 54) dX0_init_54 (gCX0 _ _ _ _ _) 1 (by decide) wF_X0_19 rfl rfl rfl ?_
  refine sv_iload_n (pc := 57) dX0_init_57 rfl rfl ?_
  refine sv_iconst (pc := 58) (v := (-1)) dX0_init_58 (by decide) ?_
  refine sw_iastore (pc := 59) (k := 8) (v := .int (-1)) dX0_init_59 rfl rfl rfl (by decide) (by decide) rfl rfl ?_
  refine sv_aload_n (pc := 60) dX0_init_60 rfl rfl ?_
  refine sw_getfield (pc := 61) dX0_init_61 (gCX0 _ _ _ _ _) 2 (by decide) wF_X0_22 rfl rfl rfl ?_
  refine sv_iload_n (pc := 64) dX0_init_64 rfl rfl ?_
  refine sv_ldc (pc := 65) dX0_init_65 wG_X0_31 ?_
  refine sw_iastore (pc := 67) (k := 8) (v := .int (-99999999)) dX0_init_67 rfl rfl rfl (by decide) (by decide) rfl rfl ?_
  refine sv_aload_n (pc := 68) dX0_init_68 rfl rfl ?_
  refine sw_getfield (pc := 69) dX0_init_69 (gCX0 _ _ _ _ _) 3 (by decide) wF_X0_27 rfl rfl rfl ?_
  refine sv_iload_n (pc := 72) dX0_init_72 rfl rfl ?_
  refine sw_new (pc := 73) (a := 221) (n1 := 222) (ce1 := 29) (sl1 := 368) (fs := zX7) dX0_init_73 (gCX7 _ _ _ _ _) wC_X0_25 wN_X7 wI_X7 zX7_ok rfl rfl rfl rfl rfl rfl ?_
  refine sv_dup (pc := 76) dX0_init_76 rfl ?_
  refine sv_callI (pc := 77) (M' := mX7_init) (d' := 17) (C' := 2) (S' := 28) (av := []) ?_ (gOk _ _ _ _ _) dX0_init_77 (tX7_init _ _ _ _ _) rfl rfl wV_X7_init wM_X0_32 ⟨le_t rfl, le_t rfl⟩ ⟨le_t rfl, le_t rfl⟩ rfl (le_t rfl) (fun _ _ h => h)
  refine sC.of rfl (by decide) (le_t rfl) ?_
  refine sv_aload_n (pc := 0) dX7_init_0 rfl rfl ?_
  refine sv_objinit (pc := 1) dX7_init_1 wM_X7_3 wV_obj wK_obj ⟨le_t rfl, le_t rfl⟩ (le_t rfl) ?_
  refine sv_aload_n (pc := 4) dX7_init_4 rfl rfl ?_
  refine sv_bipush (pc := 5) (v := 20) dX7_init_5 (by decide) ?_
  refine sw_newarray (pc := 7) (kd := 0) (a := 222) (n1 := 223) (N := 20) (ce1 := 1) (sl1 := 20) (v := .int 0) dX7_init_7 rfl wA_int rfl (fun U => sI_Cond_int U _) (by decide) (by decide) rfl (fun _ => rfl) rfl rfl rfl rfl rfl rfl ?_
  refine sw_putfinal (pc := 9) dX7_init_9 (gCX7 _ _ _ _ _) 0 (by decide) wF_X7_9 rfl rfl rfl rfl rfl (fun _ => rfl) (fun _ => rfl) rfl ?_
  refine sv_aload_n (pc := 12) dX7_init_12 rfl rfl ?_
  refine sv_bipush (pc := 13) (v := 8) dX7_init_13 (by decide) ?_
  refine sw_newarray (pc := 15) (kd := 0) (a := 223) (n1 := 224) (N := 8) (ce1 := 2) (sl1 := 28) (v := .int 0) dX7_init_15 rfl wA_int rfl (fun U => sI_Cond_int U _) (by decide) (by decide) rfl (fun _ => rfl) rfl rfl rfl rfl rfl rfl ?_
  refine sw_putfinal (pc := 17) dX7_init_17 (gCX7 _ _ _ _ _) 1 (by decide) wF_X7_15 rfl rfl rfl rfl rfl (fun _ => rfl) (fun _ => rfl) rfl ?_
  refine sv_aload_n (pc := 20) dX7_init_20 rfl rfl ?_
  refine sv_iconst (pc := 21) (v := (-1)) dX7_init_21 (by decide) ?_
  refine sw_putfield (pc := 22) dX7_init_22 (gCX7 _ _ _ _ _) 9 (by decide) wF_X7_18 rfl rfl rfl (fun _ => rfl) (fun _ => rfl) rfl ?_
  refine sv_vret (pc := 25) dX7_init_25 rfl (le_t rfl) (le_t rfl) ?_
  refine sw_aastore (pc := 80) (k := 8) dX0_init_80 (gCX7 _ _ _ _ _) rfl rfl rfl (by decide) (by decide) rfl rfl rfl ?_
  refine sw_iinc (pc := 81) (v := 9) dX0_init_81 rfl (by decide) (by decide) ?_
  refine sv_goto (pc := 84) (tgt := 47) dX0_init_84 (by decide) ?_
  refine sv_iload_n (pc := 47) dX0_init_47 rfl rfl ?_
  refine sv_bipush (pc := 48) (v := 10) dX0_init_48 (by decide) ?_
  refine sv_icmp_ge (pc := 50) (tgt := 87) dX0_init_50 (by decide) (fun h => absurd h (by decide)) (fun _ => ?_)
  refine sv_aload_n (pc := 53) dX0_init_53 rfl rfl ?_
  refine sw_getfield (pc := 54) dX0_init_54 (gCX0 _ _ _ _ _) 1 (by decide) wF_X0_19 rfl rfl rfl ?_
  refine sv_iload_n (pc := 57) dX0_init_57 rfl rfl ?_
  refine sv_iconst (pc := 58) (v := (-1)) dX0_init_58 (by decide) ?_
  refine sw_iastore (pc := 59) (k := 9) (v := .int (-1)) dX0_init_59 rfl rfl rfl (by decide) (by decide) rfl rfl ?_
  refine sv_aload_n (pc := 60) dX0_init_60 rfl rfl ?_
  refine sw_getfield (pc := 61) dX0_init_61 (gCX0 _ _ _ _ _) 2 (by decide) wF_X0_22 rfl rfl rfl ?_
  refine sv_iload_n (pc := 64) dX0_init_64 rfl rfl ?_
  refine sv_ldc (pc := 65) dX0_init_65 wG_X0_31 ?_
  refine sw_iastore (pc := 67) (k := 9) (v := .int (-99999999)) dX0_init_67 rfl rfl rfl (by decide) (by decide) rfl rfl ?_
  refine sv_aload_n (pc := 68) dX0_init_68 rfl rfl ?_
  refine sw_getfield (pc := 69) dX0_init_69 (gCX0 _ _ _ _ _) 3 (by decide) wF_X0_27 rfl rfl rfl ?_
  refine sv_iload_n (pc := 72) dX0_init_72 rfl rfl ?_
  refine sw_new (pc := 73) (a := 224) (n1 := 225) (ce1 := 32) (sl1 := 408) (fs := zX7) dX0_init_73 (gCX7 _ _ _ _ _) wC_X0_25 wN_X7 wI_X7 zX7_ok rfl rfl rfl rfl rfl rfl ?_
  refine sv_dup (pc := 76) dX0_init_76 rfl ?_
  refine sv_callI (pc := 77) (M' := mX7_init) (d' := 17) (C' := 2) (S' := 28) (av := []) ?_ (gOk _ _ _ _ _) dX0_init_77 (tX7_init _ _ _ _ _) rfl rfl wV_X7_init wM_X0_32 ⟨le_t rfl, le_t rfl⟩ ⟨le_t rfl, le_t rfl⟩ rfl (le_t rfl) (fun _ _ h => h)
  refine sC.of rfl (by decide) (le_t rfl) ?_
  refine sv_aload_n (pc := 0) dX7_init_0 rfl rfl ?_
  refine sv_objinit (pc := 1) dX7_init_1 wM_X7_3 wV_obj wK_obj ⟨le_t rfl, le_t rfl⟩ (le_t rfl) ?_
  refine sv_aload_n (pc := 4) dX7_init_4 rfl rfl ?_
  refine sv_bipush (pc := 5) (v := 20) dX7_init_5 (by decide) ?_
  refine sw_newarray (pc := 7) (kd := 0) (a := 225) (n1 := 226) (N := 20) (ce1 := 1) (sl1 := 20) (v := .int 0) dX7_init_7 rfl wA_int rfl (fun U => sI_Cond_int U _) (by decide) (by decide) rfl (fun _ => rfl) rfl rfl rfl rfl rfl rfl ?_
  refine sw_putfinal (pc := 9) dX7_init_9 (gCX7 _ _ _ _ _) 0 (by decide) wF_X7_9 rfl rfl rfl rfl rfl (fun _ => rfl) (fun _ => rfl) rfl ?_
  refine sv_aload_n (pc := 12) dX7_init_12 rfl rfl ?_
  refine sv_bipush (pc := 13) (v := 8) dX7_init_13 (by decide) ?_
  refine sw_newarray (pc := 15) (kd := 0) (a := 226) (n1 := 227) (N := 8) (ce1 := 2) (sl1 := 28) (v := .int 0) dX7_init_15 rfl wA_int rfl (fun U => sI_Cond_int U _) (by decide) (by decide) rfl (fun _ => rfl) rfl rfl rfl rfl rfl rfl ?_
  refine sw_putfinal (pc := 17) dX7_init_17 (gCX7 _ _ _ _ _) 1 (by decide) wF_X7_15 rfl rfl rfl rfl rfl (fun _ => rfl) (fun _ => rfl) rfl ?_
  refine sv_aload_n (pc := 20) dX7_init_20 rfl rfl ?_
  refine sv_iconst (pc := 21) (v := (-1)) dX7_init_21 (by decide) ?_
  refine sw_putfield (pc := 22) dX7_init_22 (gCX7 _ _ _ _ _) 9 (by decide) wF_X7_18 rfl rfl rfl (fun _ => rfl) (fun _ => rfl) rfl ?_
  refine sv_vret (pc := 25) dX7_init_25 rfl (le_t rfl) (le_t rfl) ?_
  refine sw_aastore (pc := 80) (k := 9) dX0_init_80 (gCX7 _ _ _ _ _) rfl rfl rfl (by decide) (by decide) rfl rfl rfl ?_
  refine sw_iinc (pc := 81) (v := 10) dX0_init_81 rfl (by decide) (by decide) ?_
  refine sv_goto (pc := 84) (tgt := 47) dX0_init_84 (by decide) ?_
  refine sv_iload_n (pc := 47) dX0_init_47 rfl rfl ?_
  refine sv_bipush (pc := 48) (v := 10) dX0_init_48 (by decide) ?_
  refine sv_icmp_ge (pc := 50) (tgt := 87) dX0_init_50 (by decide) (fun _ => ?_) (fun h => absurd (by decide) h)
  refine sv_vret (pc := 87) dX0_init_87 rfl (le_t rfl) (le_t rfl) ?_
  refine sw_aastore (pc := 15) (k := 0) dX10_addDomain_15 (gCX0 _ _ _ _ _) rfl rfl rfl (by decide) (by decide) rfl rfl rfl ?_
  refine sv_aload_n (pc := 16) dX10_addDomain_16 rfl rfl ?_
  refine sv_dup (pc := 17) dX10_addDomain_17 rfl ?_
  refine sw_getfield (pc := 18) dX10_addDomain_18 (gCX10 _ _ _ _ _) 15 (by decide) wF_X10_68 rfl rfl rfl ?_
  refine sv_iconst (pc := 21) (v := 1) dX10_addDomain_21 (by decide) ?_
  refine sw_iadd (pc := 22) (v := 1) dX10_addDomain_22 (by decide) ?_
  refine sw_putfield (pc := 23) dX10_addDomain_23 (gCX10 _ _ _ _ _) 15 (by decide) wF_X10_68 rfl rfl rfl (fun _ => rfl) (fun _ => rfl) rfl ?_
  refine sv_aload_n (pc := 26) dX10_addDomain_26 rfl rfl ?_
  refine sw_getfield (pc := 27) dX10_addDomain_27 (gCX10 _ _ _ _ _) 15 (by decide) wF_X10_68 rfl rfl rfl ?_
  refine sv_iconst (pc := 30) (v := 1) dX10_addDomain_30 (by decide) ?_
  refine sw_isub (pc := 31) (v := 0) dX10_addDomain_31 (by decide) ?_
  refine sv_iret (pc := 32) dX10_addDomain_32 rfl (le_t rfl) (le_t rfl) ?_
  refine sv_iret (pc := 22) dX11_domain_22 rfl (le_t rfl) (le_t rfl) ?_
  refine sv_aload_n (pc := 363) dL_law_363 rfl rfl ?_
  refine sv_callV (pc := 364) (M' := mX12_domain) (d' := 20) (C' := 0) (S' := 0) (av := []) ?_ (gOk _ _ _ _ _) dL_law_364 (tX12_domain _ _ _ _ _) ⟨wV_X12_domain, wL_X12_domain⟩ wM_DomainHouseLaw_32 (gCX12 _ _ _ _ _) rfl (lt_t rfl) rfl ⟨le_t rfl, le_t rfl⟩ ⟨le_t rfl, le_t rfl⟩ rfl (le_t rfl) (fun _ _ h => h)
  refine sC.of rfl (by decide) (le_t rfl) ?_
  refine sv_aload_n (pc := 0) dX12_domain_0 rfl rfl ?_
  refine sw_getfield (pc := 1) dX12_domain_1 (gCX12 _ _ _ _ _) 5 (by decide) wF_X12_34 rfl rfl rfl ?_
  refine sv_bipush (pc := 4) (v := 10) dX12_domain_4 (by decide) ?_
  refine sv_icmp_ne (pc := 6) (tgt := 12) dX12_domain_6 (by decide) (fun _ => ?_) (fun h => absurd h (by decide))
  refine sv_aload_n (pc := 12) dX12_domain_12 rfl rfl ?_
  refine sv_dup (pc := 13) dX12_domain_13 rfl ?_
  refine sw_getfield (pc := 14) dX12_domain_14 (gCX12 _ _ _ _ _) 5 (by decide) wF_X12_34 rfl rfl rfl ?_
  refine sv_iconst (pc := 17) (v := 1) dX12_domain_17 (by decide) ?_
  refine sw_iadd (pc := 18) (v := 1) dX12_domain_18 (by decide) ?_
  refine sw_putfield (pc := 19) dX12_domain_19 (gCX12 _ _ _ _ _) 5 (by decide) wF_X12_34 rfl rfl rfl (fun _ => rfl) (fun _ => rfl) rfl ?_
  refine sv_aload_n (pc := 22) dX12_domain_22 rfl rfl ?_
  refine sw_getfield (pc := 23) dX12_domain_23 (gCX12 _ _ _ _ _) 5 (by decide) wF_X12_34 rfl rfl rfl ?_
  refine sv_iconst (pc := 26) (v := 1) dX12_domain_26 (by decide) ?_
  refine sw_isub (pc := 27) (v := 0) dX12_domain_27 (by decide) ?_
  refine sv_iret (pc := 28) dX12_domain_28 rfl (le_t rfl) (le_t rfl) ?_
  refine sv_icmp_eq (pc := 367) (tgt := 1799) dL_law_367 (by decide) (fun _ => ?_) (fun h => absurd (by decide) h)
  exact kk _ _ _ (le_t rfl) (le_t rfl)
set_option maxHeartbeats 40000000 in
set_option maxRecDepth 100000 in
theorem op_4 (l : Launch) (D : va_G) (c : Nat → ClassId) (H0 : Heap) (b : Nat) (xs : Nat → Int32) (Z : sZT) (x1 x2 x3 x4 x5 x6 : Int32) (hx1 : xs 1 = x1) (hx2 : xs 2 = x2) (hx3 : xs 3 = x3) (hx4 : xs 4 = x4) (hx5 : xs 5 = x5) (hx6 : xs 6 = x6) (kk : ∀ (hp : sHp) (ce sl : Nat), ce ≤ 600000 → sl ≤ 7302250 → sV (gG l D c H0 (b, 7, xs)) mL room_1 Z 1799 [(3, .int 0), (2, .ref 106), (1, .ref 0), (0, .retAddr 0)] [] hp ce sl) : sV (gG l D c H0 (b, 7, xs)) mL room_1 Z 372 [(3, .int 0), (2, .ref 106), (1, .ref 0), (0, .retAddr 0)] [] (192, tF) 192 297215 := by
  refine sv_aload_n (pc := 372) dL_law_372 rfl rfl ?_
  refine sv_aload_nS (pc := 373) dL_law_373 rfl rfl ?_
  refine sv_iload_n (pc := 374) dL_law_374 rfl rfl ?_
  refine sv_iconst (pc := 375) (v := 1) dL_law_375 (by decide) ?_
  refine sw_iadd (pc := 376) (v := 1) dL_law_376 (by decide) ?_
  refine sw_sld (pc := 377) (v := x1) dL_law_377 (k := 1) (by decide) (by decide) rfl hx1 ?_
  refine sv_aload_nS (pc := 378) dL_law_378 rfl rfl ?_
  refine sv_iload_n (pc := 379) dL_law_379 rfl rfl ?_
  refine sv_iconst (pc := 380) (v := 2) dL_law_380 (by decide) ?_
  refine sw_iadd (pc := 381) (v := 2) dL_law_381 (by decide) ?_
  refine sw_sld (pc := 382) (v := x2) dL_law_382 (k := 2) (by decide) (by decide) rfl hx2 ?_
  refine sv_aload_nS (pc := 383) dL_law_383 rfl rfl ?_
  refine sv_iload_n (pc := 384) dL_law_384 rfl rfl ?_
  refine sv_iconst (pc := 385) (v := 3) dL_law_385 (by decide) ?_
  refine sw_iadd (pc := 386) (v := 3) dL_law_386 (by decide) ?_
  refine sw_sld (pc := 387) (v := x3) dL_law_387 (k := 3) (by decide) (by decide) rfl hx3 ?_
  refine sv_callV (pc := 388) (M' := mX11_tie) (d' := 20) (C' := 0) (S' := 0) (av := [.int x1, .int x2, .int x3]) ?_ (gOk _ _ _ _ _) dL_law_388 (tX11_tie _ _ _ _ _) ⟨wV_X11_tie, wL_X11_tie⟩ wM_DomainHouseLaw_33 (gCX11 _ _ _ _ _) rfl (lt_t rfl) rfl ⟨le_t rfl, le_t rfl⟩ ⟨le_t rfl, le_t rfl⟩ rfl (le_t rfl) (fun _ _ h => h)
  refine sC.of rfl (by decide) (le_t rfl) ?_
  refine sv_aload_n (pc := 0) dX11_tie_0 rfl rfl ?_
  refine sv_iload_n (pc := 1) dX11_tie_1 rfl rfl ?_
  refine sv_callV (pc := 2) (M' := mX11_isDomain) (d' := 19) (C' := 0) (S' := 0) (av := [.int x1]) ?_ (gOk _ _ _ _ _) dX11_tie_2 (tX11_isDomain _ _ _ _ _) ⟨wV_X11_isDomain, wL_X11_isDomain⟩ wM_X11_105 (gCX11 _ _ _ _ _) rfl (lt_t rfl) rfl ⟨le_t rfl, le_t rfl⟩ ⟨le_t rfl, le_t rfl⟩ rfl (le_t rfl) (fun _ _ h => h)
  refine sC.of rfl (by decide) (le_t rfl) ?_
  refine sv_iload_n (pc := 0) dX11_isDomain_0 rfl rfl ?_
  refine sv_if_lt (pc := 1) (tgt := 19) dX11_isDomain_1 (by decide) (fun h_1 => ?_) (fun h_1 => ?_)
  · refine sv_iconst (pc := 19) (v := 0) dX11_isDomain_19 (by decide) ?_
    refine sv_zret (pc := 20) dX11_isDomain_20 rfl (by decide) (le_t rfl) (le_t rfl) ?_
    refine sv_if_eq (pc := 5) (tgt := 30) dX11_tie_5 (by decide) (fun _ => ?_) (fun h => absurd (by decide) h)
    refine sv_iconst (pc := 30) (v := (-1)) dX11_tie_30 (by decide) ?_
    refine sv_iret (pc := 31) dX11_tie_31 rfl (le_t rfl) (le_t rfl) ?_
    refine sv_aload_n (pc := 391) dL_law_391 rfl rfl ?_
    refine sv_aload_nS (pc := 392) dL_law_392 rfl rfl ?_
    refine sv_iload_n (pc := 393) dL_law_393 rfl rfl ?_
    refine sv_iconst (pc := 394) (v := 1) dL_law_394 (by decide) ?_
    refine sw_iadd (pc := 395) (v := 1) dL_law_395 (by decide) ?_
    refine sw_sld (pc := 396) (v := x1) dL_law_396 (k := 1) (by decide) (by decide) rfl hx1 ?_
    refine sv_aload_nS (pc := 397) dL_law_397 rfl rfl ?_
    refine sv_iload_n (pc := 398) dL_law_398 rfl rfl ?_
    refine sv_iconst (pc := 399) (v := 2) dL_law_399 (by decide) ?_
    refine sw_iadd (pc := 400) (v := 2) dL_law_400 (by decide) ?_
    refine sw_sld (pc := 401) (v := x2) dL_law_401 (k := 2) (by decide) (by decide) rfl hx2 ?_
    refine sv_aload_nS (pc := 402) dL_law_402 rfl rfl ?_
    refine sv_iload_n (pc := 403) dL_law_403 rfl rfl ?_
    refine sv_iconst (pc := 404) (v := 3) dL_law_404 (by decide) ?_
    refine sw_iadd (pc := 405) (v := 3) dL_law_405 (by decide) ?_
    refine sw_sld (pc := 406) (v := x3) dL_law_406 (k := 3) (by decide) (by decide) rfl hx3 ?_
    refine sv_callV (pc := 407) (M' := mX12_tie) (d' := 20) (C' := 0) (S' := 0) (av := [.int x1, .int x2, .int x3]) ?_ (gOk _ _ _ _ _) dL_law_407 (tX12_tie _ _ _ _ _) ⟨wV_X12_tie, wL_X12_tie⟩ wM_DomainHouseLaw_37 (gCX12 _ _ _ _ _) rfl (lt_t rfl) rfl ⟨le_t rfl, le_t rfl⟩ ⟨le_t rfl, le_t rfl⟩ rfl (le_t rfl) (fun _ _ h => h)
    refine sC.of rfl (by decide) (le_t rfl) ?_
    refine sv_aload_n (pc := 0) dX12_tie_0 rfl rfl ?_
    refine sv_iload_n (pc := 1) dX12_tie_1 rfl rfl ?_
    refine sv_callV (pc := 2) (M' := mX12_isDomain) (d' := 19) (C' := 0) (S' := 0) (av := [.int x1]) ?_ (gOk _ _ _ _ _) dX12_tie_2 (tX12_isDomain _ _ _ _ _) ⟨wV_X12_isDomain, wL_X12_isDomain⟩ wM_X12_49 (gCX12 _ _ _ _ _) rfl (lt_t rfl) rfl ⟨le_t rfl, le_t rfl⟩ ⟨le_t rfl, le_t rfl⟩ rfl (le_t rfl) (fun _ _ h => h)
    refine sC.of rfl (by decide) (le_t rfl) ?_
    refine sv_iload_n (pc := 0) dX12_isDomain_0 rfl rfl ?_
    refine sv_iconst (pc := 1) (v := 0) dX12_isDomain_1 (by decide) ?_
    refine sv_aload_n (pc := 2) dX12_isDomain_2 rfl rfl ?_
    refine sw_getfield (pc := 3) dX12_isDomain_3 (gCX12 _ _ _ _ _) 5 (by decide) wF_X12_34 rfl rfl rfl ?_
    refine sv_iconst (pc := 6) (v := 1) dX12_isDomain_6 (by decide) ?_
    refine sw_isub (pc := 7) (v := (-1)) dX12_isDomain_7 (by decide) ?_
    refine sv_callS (pc := 8) (M' := mX12_in) (d' := 18) (C' := 0) (S' := 0) (av := [.int x1, .int 0, .int (-1)]) ?_ (gOk _ _ _ _ _) dX12_isDomain_8 (tX12_in _ _ _ _ _) wS_X12_in wM_X12_18 ⟨le_t rfl, le_t rfl⟩ ⟨le_t rfl, le_t rfl⟩ rfl (le_t rfl) (fun _ _ h => h)
    refine sC.of rfl (by decide) (le_t rfl) ?_
    refine sv_iload_n (pc := 0) dX12_in_0 rfl rfl ?_
    refine sv_iload_n (pc := 1) dX12_in_1 rfl rfl ?_
    refine sv_icmp_lt (pc := 2) (tgt := 14) dX12_in_2 (by decide) (fun _ => ?_) (fun h => absurd h_1 h)
    refine sv_iconst (pc := 14) (v := 0) dX12_in_14 (by decide) ?_
    refine sv_zret (pc := 15) dX12_in_15 rfl (by decide) (le_t rfl) (le_t rfl) ?_
    refine sv_zret (pc := 11) dX12_isDomain_11 rfl (by decide) (le_t rfl) (le_t rfl) ?_
    refine sv_if_eq (pc := 5) (tgt := 30) dX12_tie_5 (by decide) (fun _ => ?_) (fun h => absurd (by decide) h)
    refine sv_iconst (pc := 30) (v := (-1)) dX12_tie_30 (by decide) ?_
    refine sv_iret (pc := 31) dX12_tie_31 rfl (le_t rfl) (le_t rfl) ?_
    refine sv_icmp_eq (pc := 410) (tgt := 1799) dL_law_410 (by decide) (fun _ => ?_) (fun h => absurd (by decide) h)
    exact kk _ _ _ (le_t rfl) (le_t rfl)
  refine sv_iload_n (pc := 4) dX11_isDomain_4 rfl rfl ?_
  refine sv_aload_n (pc := 5) dX11_isDomain_5 rfl rfl ?_
  refine sw_getfield (pc := 6) dX11_isDomain_6 (gCX11 _ _ _ _ _) 3 (by decide) wF_X11_26 rfl rfl rfl ?_
  refine sw_getfield (pc := 9) dX11_isDomain_9 (gCX10 _ _ _ _ _) 15 (by decide) wF_X11_98 rfl rfl rfl ?_
  refine sv_icmp_ge (pc := 12) (tgt := 19) dX11_isDomain_12 (by decide) (fun _ => ?_) (fun h => False.elim (by have a0 := Int32.le_iff_toInt_le.mp (Int32.not_lt.mp h_1); have a1 := Int32.lt_iff_toInt_lt.mp (Int32.not_le.mp h); have e0 : (0 : Int32).toInt = 0 := (by decide); omega))
  refine sv_iconst (pc := 19) (v := 0) dX11_isDomain_19 (by decide) ?_
  refine sv_zret (pc := 20) dX11_isDomain_20 rfl (by decide) (le_t rfl) (le_t rfl) ?_
  refine sv_if_eq (pc := 5) (tgt := 30) dX11_tie_5 (by decide) (fun _ => ?_) (fun h => absurd (by decide) h)
  refine sv_iconst (pc := 30) (v := (-1)) dX11_tie_30 (by decide) ?_
  refine sv_iret (pc := 31) dX11_tie_31 rfl (le_t rfl) (le_t rfl) ?_
  refine sv_aload_n (pc := 391) dL_law_391 rfl rfl ?_
  refine sv_aload_nS (pc := 392) dL_law_392 rfl rfl ?_
  refine sv_iload_n (pc := 393) dL_law_393 rfl rfl ?_
  refine sv_iconst (pc := 394) (v := 1) dL_law_394 (by decide) ?_
  refine sw_iadd (pc := 395) (v := 1) dL_law_395 (by decide) ?_
  refine sw_sld (pc := 396) (v := x1) dL_law_396 (k := 1) (by decide) (by decide) rfl hx1 ?_
  refine sv_aload_nS (pc := 397) dL_law_397 rfl rfl ?_
  refine sv_iload_n (pc := 398) dL_law_398 rfl rfl ?_
  refine sv_iconst (pc := 399) (v := 2) dL_law_399 (by decide) ?_
  refine sw_iadd (pc := 400) (v := 2) dL_law_400 (by decide) ?_
  refine sw_sld (pc := 401) (v := x2) dL_law_401 (k := 2) (by decide) (by decide) rfl hx2 ?_
  refine sv_aload_nS (pc := 402) dL_law_402 rfl rfl ?_
  refine sv_iload_n (pc := 403) dL_law_403 rfl rfl ?_
  refine sv_iconst (pc := 404) (v := 3) dL_law_404 (by decide) ?_
  refine sw_iadd (pc := 405) (v := 3) dL_law_405 (by decide) ?_
  refine sw_sld (pc := 406) (v := x3) dL_law_406 (k := 3) (by decide) (by decide) rfl hx3 ?_
  refine sv_callV (pc := 407) (M' := mX12_tie) (d' := 20) (C' := 0) (S' := 0) (av := [.int x1, .int x2, .int x3]) ?_ (gOk _ _ _ _ _) dL_law_407 (tX12_tie _ _ _ _ _) ⟨wV_X12_tie, wL_X12_tie⟩ wM_DomainHouseLaw_37 (gCX12 _ _ _ _ _) rfl (lt_t rfl) rfl ⟨le_t rfl, le_t rfl⟩ ⟨le_t rfl, le_t rfl⟩ rfl (le_t rfl) (fun _ _ h => h)
  refine sC.of rfl (by decide) (le_t rfl) ?_
  refine sv_aload_n (pc := 0) dX12_tie_0 rfl rfl ?_
  refine sv_iload_n (pc := 1) dX12_tie_1 rfl rfl ?_
  refine sv_callV (pc := 2) (M' := mX12_isDomain) (d' := 19) (C' := 0) (S' := 0) (av := [.int x1]) ?_ (gOk _ _ _ _ _) dX12_tie_2 (tX12_isDomain _ _ _ _ _) ⟨wV_X12_isDomain, wL_X12_isDomain⟩ wM_X12_49 (gCX12 _ _ _ _ _) rfl (lt_t rfl) rfl ⟨le_t rfl, le_t rfl⟩ ⟨le_t rfl, le_t rfl⟩ rfl (le_t rfl) (fun _ _ h => h)
  refine sC.of rfl (by decide) (le_t rfl) ?_
  refine sv_iload_n (pc := 0) dX12_isDomain_0 rfl rfl ?_
  refine sv_iconst (pc := 1) (v := 0) dX12_isDomain_1 (by decide) ?_
  refine sv_aload_n (pc := 2) dX12_isDomain_2 rfl rfl ?_
  refine sw_getfield (pc := 3) dX12_isDomain_3 (gCX12 _ _ _ _ _) 5 (by decide) wF_X12_34 rfl rfl rfl ?_
  refine sv_iconst (pc := 6) (v := 1) dX12_isDomain_6 (by decide) ?_
  refine sw_isub (pc := 7) (v := (-1)) dX12_isDomain_7 (by decide) ?_
  refine sv_callS (pc := 8) (M' := mX12_in) (d' := 18) (C' := 0) (S' := 0) (av := [.int x1, .int 0, .int (-1)]) ?_ (gOk _ _ _ _ _) dX12_isDomain_8 (tX12_in _ _ _ _ _) wS_X12_in wM_X12_18 ⟨le_t rfl, le_t rfl⟩ ⟨le_t rfl, le_t rfl⟩ rfl (le_t rfl) (fun _ _ h => h)
  refine sC.of rfl (by decide) (le_t rfl) ?_
  refine sv_iload_n (pc := 0) dX12_in_0 rfl rfl ?_
  refine sv_iload_n (pc := 1) dX12_in_1 rfl rfl ?_
  refine sv_icmp_lt (pc := 2) (tgt := 14) dX12_in_2 (by decide) (fun h => absurd h h_1) (fun _ => ?_)
  refine sv_iload_n (pc := 5) dX12_in_5 rfl rfl ?_
  refine sv_iload_n (pc := 6) dX12_in_6 rfl rfl ?_
  refine sv_icmp_gt (pc := 7) (tgt := 14) dX12_in_7 (by decide) (fun _ => ?_) (fun h => False.elim (by have a0 := Int32.le_iff_toInt_le.mp (Int32.not_lt.mp h_1); have a1 := Int32.le_iff_toInt_le.mp (Int32.not_lt.mp h); have e0 : (-1 : Int32).toInt = -1 := (by decide); have e1 : (0 : Int32).toInt = 0 := (by decide); omega))
  refine sv_iconst (pc := 14) (v := 0) dX12_in_14 (by decide) ?_
  refine sv_zret (pc := 15) dX12_in_15 rfl (by decide) (le_t rfl) (le_t rfl) ?_
  refine sv_zret (pc := 11) dX12_isDomain_11 rfl (by decide) (le_t rfl) (le_t rfl) ?_
  refine sv_if_eq (pc := 5) (tgt := 30) dX12_tie_5 (by decide) (fun _ => ?_) (fun h => absurd (by decide) h)
  refine sv_iconst (pc := 30) (v := (-1)) dX12_tie_30 (by decide) ?_
  refine sv_iret (pc := 31) dX12_tie_31 rfl (le_t rfl) (le_t rfl) ?_
  refine sv_icmp_eq (pc := 410) (tgt := 1799) dL_law_410 (by decide) (fun _ => ?_) (fun h => absurd (by decide) h)
  exact kk _ _ _ (le_t rfl) (le_t rfl)
set_option maxHeartbeats 40000000 in
set_option maxRecDepth 100000 in
theorem op_5 (l : Launch) (D : va_G) (c : Nat → ClassId) (H0 : Heap) (b : Nat) (xs : Nat → Int32) (Z : sZT) (x1 x2 x3 x4 x5 x6 : Int32) (hx1 : xs 1 = x1) (hx2 : xs 2 = x2) (hx3 : xs 3 = x3) (hx4 : xs 4 = x4) (hx5 : xs 5 = x5) (hx6 : xs 6 = x6) (kk : ∀ (hp : sHp) (ce sl : Nat), ce ≤ 600000 → sl ≤ 7302250 → sV (gG l D c H0 (b, 7, xs)) mL room_1 Z 1799 [(3, .int 0), (2, .ref 106), (1, .ref 0), (0, .retAddr 0)] [] hp ce sl) : sV (gG l D c H0 (b, 7, xs)) mL room_1 Z 415 [(3, .int 0), (2, .ref 106), (1, .ref 0), (0, .retAddr 0)] [] (192, tF) 192 297215 := by
  refine sv_aload_n (pc := 415) dL_law_415 rfl rfl ?_
  refine sv_aload_nS (pc := 416) dL_law_416 rfl rfl ?_
  refine sv_iload_n (pc := 417) dL_law_417 rfl rfl ?_
  refine sv_iconst (pc := 418) (v := 1) dL_law_418 (by decide) ?_
  refine sw_iadd (pc := 419) (v := 1) dL_law_419 (by decide) ?_
  refine sw_sld (pc := 420) (v := x1) dL_law_420 (k := 1) (by decide) (by decide) rfl hx1 ?_
  refine sv_aload_nS (pc := 421) dL_law_421 rfl rfl ?_
  refine sv_iload_n (pc := 422) dL_law_422 rfl rfl ?_
  refine sv_iconst (pc := 423) (v := 2) dL_law_423 (by decide) ?_
  refine sw_iadd (pc := 424) (v := 2) dL_law_424 (by decide) ?_
  refine sw_sld (pc := 425) (v := x2) dL_law_425 (k := 2) (by decide) (by decide) rfl hx2 ?_
  refine sv_aload_nS (pc := 426) dL_law_426 rfl rfl ?_
  refine sv_iload_n (pc := 427) dL_law_427 rfl rfl ?_
  refine sv_iconst (pc := 428) (v := 3) dL_law_428 (by decide) ?_
  refine sw_iadd (pc := 429) (v := 3) dL_law_429 (by decide) ?_
  refine sw_sld (pc := 430) (v := x3) dL_law_430 (k := 3) (by decide) (by decide) rfl hx3 ?_
  refine sv_callV (pc := 431) (M' := mX11_pace) (d' := 20) (C' := 0) (S' := 0) (av := [.int x1, .int x2, .int x3]) ?_ (gOk _ _ _ _ _) dL_law_431 (tX11_pace _ _ _ _ _) ⟨wV_X11_pace, wL_X11_pace⟩ wM_DomainHouseLaw_38 (gCX11 _ _ _ _ _) rfl (lt_t rfl) rfl ⟨le_t rfl, le_t rfl⟩ ⟨le_t rfl, le_t rfl⟩ rfl (le_t rfl) (fun _ _ h => h)
  refine sC.of rfl (by decide) (le_t rfl) ?_
  refine sv_aload_n (pc := 0) dX11_pace_0 rfl rfl ?_
  refine sv_iload_n (pc := 1) dX11_pace_1 rfl rfl ?_
  refine sv_callV (pc := 2) (M' := mX11_isTie) (d' := 19) (C' := 0) (S' := 0) (av := [.int x1]) ?_ (gOk _ _ _ _ _) dX11_pace_2 (tX11_isTie _ _ _ _ _) ⟨wV_X11_isTie, wL_X11_isTie⟩ wM_X11_119 (gCX11 _ _ _ _ _) rfl (lt_t rfl) rfl ⟨le_t rfl, le_t rfl⟩ ⟨le_t rfl, le_t rfl⟩ rfl (le_t rfl) (fun _ _ h => h)
  refine sC.of rfl (by decide) (le_t rfl) ?_
  refine sv_iload_n (pc := 0) dX11_isTie_0 rfl rfl ?_
  refine sv_if_lt (pc := 1) (tgt := 19) dX11_isTie_1 (by decide) (fun h_1 => ?_) (fun h_1 => ?_)
  · refine sv_iconst (pc := 19) (v := 0) dX11_isTie_19 (by decide) ?_
    refine sv_zret (pc := 20) dX11_isTie_20 rfl (by decide) (le_t rfl) (le_t rfl) ?_
    refine sv_if_eq (pc := 5) (tgt := 31) dX11_pace_5 (by decide) (fun _ => ?_) (fun h => absurd (by decide) h)
    refine sv_iconst (pc := 31) (v := (-1)) dX11_pace_31 (by decide) ?_
    refine sv_iret (pc := 32) dX11_pace_32 rfl (le_t rfl) (le_t rfl) ?_
    refine sv_aload_n (pc := 434) dL_law_434 rfl rfl ?_
    refine sv_aload_nS (pc := 435) dL_law_435 rfl rfl ?_
    refine sv_iload_n (pc := 436) dL_law_436 rfl rfl ?_
    refine sv_iconst (pc := 437) (v := 1) dL_law_437 (by decide) ?_
    refine sw_iadd (pc := 438) (v := 1) dL_law_438 (by decide) ?_
    refine sw_sld (pc := 439) (v := x1) dL_law_439 (k := 1) (by decide) (by decide) rfl hx1 ?_
    refine sv_aload_nS (pc := 440) dL_law_440 rfl rfl ?_
    refine sv_iload_n (pc := 441) dL_law_441 rfl rfl ?_
    refine sv_iconst (pc := 442) (v := 2) dL_law_442 (by decide) ?_
    refine sw_iadd (pc := 443) (v := 2) dL_law_443 (by decide) ?_
    refine sw_sld (pc := 444) (v := x2) dL_law_444 (k := 2) (by decide) (by decide) rfl hx2 ?_
    refine sv_aload_nS (pc := 445) dL_law_445 rfl rfl ?_
    refine sv_iload_n (pc := 446) dL_law_446 rfl rfl ?_
    refine sv_iconst (pc := 447) (v := 3) dL_law_447 (by decide) ?_
    refine sw_iadd (pc := 448) (v := 3) dL_law_448 (by decide) ?_
    refine sw_sld (pc := 449) (v := x3) dL_law_449 (k := 3) (by decide) (by decide) rfl hx3 ?_
    refine sv_callV (pc := 450) (M' := mX12_pace) (d' := 20) (C' := 0) (S' := 0) (av := [.int x1, .int x2, .int x3]) ?_ (gOk _ _ _ _ _) dL_law_450 (tX12_pace _ _ _ _ _) ⟨wV_X12_pace, wL_X12_pace⟩ wM_DomainHouseLaw_41 (gCX12 _ _ _ _ _) rfl (lt_t rfl) rfl ⟨le_t rfl, le_t rfl⟩ ⟨le_t rfl, le_t rfl⟩ rfl (le_t rfl) (fun _ _ h => h)
    refine sC.of rfl (by decide) (le_t rfl) ?_
    refine sv_aload_n (pc := 0) dX12_pace_0 rfl rfl ?_
    refine sv_iload_n (pc := 1) dX12_pace_1 rfl rfl ?_
    refine sv_callV (pc := 2) (M' := mX12_isTie) (d' := 19) (C' := 0) (S' := 0) (av := [.int x1]) ?_ (gOk _ _ _ _ _) dX12_pace_2 (tX12_isTie _ _ _ _ _) ⟨wV_X12_isTie, wL_X12_isTie⟩ wM_X12_66 (gCX12 _ _ _ _ _) rfl (lt_t rfl) rfl ⟨le_t rfl, le_t rfl⟩ ⟨le_t rfl, le_t rfl⟩ rfl (le_t rfl) (fun _ _ h => h)
    refine sC.of rfl (by decide) (le_t rfl) ?_
    refine sv_iload_n (pc := 0) dX12_isTie_0 rfl rfl ?_
    refine sv_iconst (pc := 1) (v := 0) dX12_isTie_1 (by decide) ?_
    refine sv_aload_n (pc := 2) dX12_isTie_2 rfl rfl ?_
    refine sw_getfield (pc := 3) dX12_isTie_3 (gCX12 _ _ _ _ _) 6 (by decide) wF_X12_37 rfl rfl rfl ?_
    refine sv_iconst (pc := 6) (v := 1) dX12_isTie_6 (by decide) ?_
    refine sw_isub (pc := 7) (v := (-1)) dX12_isTie_7 (by decide) ?_
    refine sv_callS (pc := 8) (M' := mX12_in) (d' := 18) (C' := 0) (S' := 0) (av := [.int x1, .int 0, .int (-1)]) ?_ (gOk _ _ _ _ _) dX12_isTie_8 (tX12_in _ _ _ _ _) wS_X12_in wM_X12_18 ⟨le_t rfl, le_t rfl⟩ ⟨le_t rfl, le_t rfl⟩ rfl (le_t rfl) (fun _ _ h => h)
    refine sC.of rfl (by decide) (le_t rfl) ?_
    refine sv_iload_n (pc := 0) dX12_in_0 rfl rfl ?_
    refine sv_iload_n (pc := 1) dX12_in_1 rfl rfl ?_
    refine sv_icmp_lt (pc := 2) (tgt := 14) dX12_in_2 (by decide) (fun _ => ?_) (fun h => absurd h_1 h)
    refine sv_iconst (pc := 14) (v := 0) dX12_in_14 (by decide) ?_
    refine sv_zret (pc := 15) dX12_in_15 rfl (by decide) (le_t rfl) (le_t rfl) ?_
    refine sv_zret (pc := 11) dX12_isTie_11 rfl (by decide) (le_t rfl) (le_t rfl) ?_
    refine sv_if_eq (pc := 5) (tgt := 30) dX12_pace_5 (by decide) (fun _ => ?_) (fun h => absurd (by decide) h)
    refine sv_iconst (pc := 30) (v := (-1)) dX12_pace_30 (by decide) ?_
    refine sv_iret (pc := 31) dX12_pace_31 rfl (le_t rfl) (le_t rfl) ?_
    refine sv_icmp_eq (pc := 453) (tgt := 1799) dL_law_453 (by decide) (fun _ => ?_) (fun h => absurd (by decide) h)
    exact kk _ _ _ (le_t rfl) (le_t rfl)
  refine sv_iload_n (pc := 4) dX11_isTie_4 rfl rfl ?_
  refine sv_aload_n (pc := 5) dX11_isTie_5 rfl rfl ?_
  refine sw_getfield (pc := 6) dX11_isTie_6 (gCX11 _ _ _ _ _) 3 (by decide) wF_X11_26 rfl rfl rfl ?_
  refine sw_getfield (pc := 9) dX11_isTie_9 (gCX10 _ _ _ _ _) 16 (by decide) wF_X11_112 rfl rfl rfl ?_
  refine sv_icmp_ge (pc := 12) (tgt := 19) dX11_isTie_12 (by decide) (fun _ => ?_) (fun h => False.elim (by have a0 := Int32.le_iff_toInt_le.mp (Int32.not_lt.mp h_1); have a1 := Int32.lt_iff_toInt_lt.mp (Int32.not_le.mp h); have e0 : (0 : Int32).toInt = 0 := (by decide); omega))
  refine sv_iconst (pc := 19) (v := 0) dX11_isTie_19 (by decide) ?_
  refine sv_zret (pc := 20) dX11_isTie_20 rfl (by decide) (le_t rfl) (le_t rfl) ?_
  refine sv_if_eq (pc := 5) (tgt := 31) dX11_pace_5 (by decide) (fun _ => ?_) (fun h => absurd (by decide) h)
  refine sv_iconst (pc := 31) (v := (-1)) dX11_pace_31 (by decide) ?_
  refine sv_iret (pc := 32) dX11_pace_32 rfl (le_t rfl) (le_t rfl) ?_
  refine sv_aload_n (pc := 434) dL_law_434 rfl rfl ?_
  refine sv_aload_nS (pc := 435) dL_law_435 rfl rfl ?_
  refine sv_iload_n (pc := 436) dL_law_436 rfl rfl ?_
  refine sv_iconst (pc := 437) (v := 1) dL_law_437 (by decide) ?_
  refine sw_iadd (pc := 438) (v := 1) dL_law_438 (by decide) ?_
  refine sw_sld (pc := 439) (v := x1) dL_law_439 (k := 1) (by decide) (by decide) rfl hx1 ?_
  refine sv_aload_nS (pc := 440) dL_law_440 rfl rfl ?_
  refine sv_iload_n (pc := 441) dL_law_441 rfl rfl ?_
  refine sv_iconst (pc := 442) (v := 2) dL_law_442 (by decide) ?_
  refine sw_iadd (pc := 443) (v := 2) dL_law_443 (by decide) ?_
  refine sw_sld (pc := 444) (v := x2) dL_law_444 (k := 2) (by decide) (by decide) rfl hx2 ?_
  refine sv_aload_nS (pc := 445) dL_law_445 rfl rfl ?_
  refine sv_iload_n (pc := 446) dL_law_446 rfl rfl ?_
  refine sv_iconst (pc := 447) (v := 3) dL_law_447 (by decide) ?_
  refine sw_iadd (pc := 448) (v := 3) dL_law_448 (by decide) ?_
  refine sw_sld (pc := 449) (v := x3) dL_law_449 (k := 3) (by decide) (by decide) rfl hx3 ?_
  refine sv_callV (pc := 450) (M' := mX12_pace) (d' := 20) (C' := 0) (S' := 0) (av := [.int x1, .int x2, .int x3]) ?_ (gOk _ _ _ _ _) dL_law_450 (tX12_pace _ _ _ _ _) ⟨wV_X12_pace, wL_X12_pace⟩ wM_DomainHouseLaw_41 (gCX12 _ _ _ _ _) rfl (lt_t rfl) rfl ⟨le_t rfl, le_t rfl⟩ ⟨le_t rfl, le_t rfl⟩ rfl (le_t rfl) (fun _ _ h => h)
  refine sC.of rfl (by decide) (le_t rfl) ?_
  refine sv_aload_n (pc := 0) dX12_pace_0 rfl rfl ?_
  refine sv_iload_n (pc := 1) dX12_pace_1 rfl rfl ?_
  refine sv_callV (pc := 2) (M' := mX12_isTie) (d' := 19) (C' := 0) (S' := 0) (av := [.int x1]) ?_ (gOk _ _ _ _ _) dX12_pace_2 (tX12_isTie _ _ _ _ _) ⟨wV_X12_isTie, wL_X12_isTie⟩ wM_X12_66 (gCX12 _ _ _ _ _) rfl (lt_t rfl) rfl ⟨le_t rfl, le_t rfl⟩ ⟨le_t rfl, le_t rfl⟩ rfl (le_t rfl) (fun _ _ h => h)
  refine sC.of rfl (by decide) (le_t rfl) ?_
  refine sv_iload_n (pc := 0) dX12_isTie_0 rfl rfl ?_
  refine sv_iconst (pc := 1) (v := 0) dX12_isTie_1 (by decide) ?_
  refine sv_aload_n (pc := 2) dX12_isTie_2 rfl rfl ?_
  refine sw_getfield (pc := 3) dX12_isTie_3 (gCX12 _ _ _ _ _) 6 (by decide) wF_X12_37 rfl rfl rfl ?_
  refine sv_iconst (pc := 6) (v := 1) dX12_isTie_6 (by decide) ?_
  refine sw_isub (pc := 7) (v := (-1)) dX12_isTie_7 (by decide) ?_
  refine sv_callS (pc := 8) (M' := mX12_in) (d' := 18) (C' := 0) (S' := 0) (av := [.int x1, .int 0, .int (-1)]) ?_ (gOk _ _ _ _ _) dX12_isTie_8 (tX12_in _ _ _ _ _) wS_X12_in wM_X12_18 ⟨le_t rfl, le_t rfl⟩ ⟨le_t rfl, le_t rfl⟩ rfl (le_t rfl) (fun _ _ h => h)
  refine sC.of rfl (by decide) (le_t rfl) ?_
  refine sv_iload_n (pc := 0) dX12_in_0 rfl rfl ?_
  refine sv_iload_n (pc := 1) dX12_in_1 rfl rfl ?_
  refine sv_icmp_lt (pc := 2) (tgt := 14) dX12_in_2 (by decide) (fun h => absurd h h_1) (fun _ => ?_)
  refine sv_iload_n (pc := 5) dX12_in_5 rfl rfl ?_
  refine sv_iload_n (pc := 6) dX12_in_6 rfl rfl ?_
  refine sv_icmp_gt (pc := 7) (tgt := 14) dX12_in_7 (by decide) (fun _ => ?_) (fun h => False.elim (by have a0 := Int32.le_iff_toInt_le.mp (Int32.not_lt.mp h_1); have a1 := Int32.le_iff_toInt_le.mp (Int32.not_lt.mp h); have e0 : (-1 : Int32).toInt = -1 := (by decide); have e1 : (0 : Int32).toInt = 0 := (by decide); omega))
  refine sv_iconst (pc := 14) (v := 0) dX12_in_14 (by decide) ?_
  refine sv_zret (pc := 15) dX12_in_15 rfl (by decide) (le_t rfl) (le_t rfl) ?_
  refine sv_zret (pc := 11) dX12_isTie_11 rfl (by decide) (le_t rfl) (le_t rfl) ?_
  refine sv_if_eq (pc := 5) (tgt := 30) dX12_pace_5 (by decide) (fun _ => ?_) (fun h => absurd (by decide) h)
  refine sv_iconst (pc := 30) (v := (-1)) dX12_pace_30 (by decide) ?_
  refine sv_iret (pc := 31) dX12_pace_31 rfl (le_t rfl) (le_t rfl) ?_
  refine sv_icmp_eq (pc := 453) (tgt := 1799) dL_law_453 (by decide) (fun _ => ?_) (fun h => absurd (by decide) h)
  exact kk _ _ _ (le_t rfl) (le_t rfl)
set_option maxHeartbeats 40000000 in
set_option maxRecDepth 100000 in
theorem op_6 (l : Launch) (D : va_G) (c : Nat → ClassId) (H0 : Heap) (b : Nat) (xs : Nat → Int32) (Z : sZT) (x1 x2 x3 x4 x5 x6 : Int32) (hx1 : xs 1 = x1) (hx2 : xs 2 = x2) (hx3 : xs 3 = x3) (hx4 : xs 4 = x4) (hx5 : xs 5 = x5) (hx6 : xs 6 = x6) (kk : ∀ (hp : sHp) (ce sl : Nat), ce ≤ 600000 → sl ≤ 7302250 → sV (gG l D c H0 (b, 7, xs)) mL room_1 Z 1799 [(3, .int 0), (2, .ref 106), (1, .ref 0), (0, .retAddr 0)] [] hp ce sl) : sV (gG l D c H0 (b, 7, xs)) mL room_1 Z 458 [(3, .int 0), (2, .ref 106), (1, .ref 0), (0, .retAddr 0)] [] (192, tF) 192 297215 := by
  refine sv_aload_n (pc := 458) dL_law_458 rfl rfl ?_
  refine sv_aload_nS (pc := 459) dL_law_459 rfl rfl ?_
  refine sv_iload_n (pc := 460) dL_law_460 rfl rfl ?_
  refine sv_iconst (pc := 461) (v := 1) dL_law_461 (by decide) ?_
  refine sw_iadd (pc := 462) (v := 1) dL_law_462 (by decide) ?_
  refine sw_sld (pc := 463) (v := x1) dL_law_463 (k := 1) (by decide) (by decide) rfl hx1 ?_
  refine sv_aload_nS (pc := 464) dL_law_464 rfl rfl ?_
  refine sv_iload_n (pc := 465) dL_law_465 rfl rfl ?_
  refine sv_iconst (pc := 466) (v := 2) dL_law_466 (by decide) ?_
  refine sw_iadd (pc := 467) (v := 2) dL_law_467 (by decide) ?_
  refine sw_sld (pc := 468) (v := x2) dL_law_468 (k := 2) (by decide) (by decide) rfl hx2 ?_
  refine sv_if_eq (pc := 469) (tgt := 476) dL_law_469 (by decide) (fun h_1 => ?_) (fun h_1 => ?_)
  · refine sv_iconst (pc := 476) (v := 0) dL_law_476 (by decide) ?_
    refine sv_callV (pc := 477) (M' := mX11_raise) (d' := 20) (C' := 0) (S' := 0) (av := [.int x1, .int 0]) ?_ (gOk _ _ _ _ _) dL_law_477 (tX11_raise _ _ _ _ _) ⟨wV_X11_raise, wL_X11_raise⟩ wM_DomainHouseLaw_42 (gCX11 _ _ _ _ _) rfl (lt_t rfl) rfl ⟨le_t rfl, le_t rfl⟩ ⟨le_t rfl, le_t rfl⟩ rfl (le_t rfl) (fun _ _ h => h)
    refine sC.of rfl (by decide) (le_t rfl) ?_
    refine sv_aload_n (pc := 0) dX11_raise_0 rfl rfl ?_
    refine sv_iload_n (pc := 1) dX11_raise_1 rfl rfl ?_
    refine sv_callV (pc := 2) (M' := mX11_isTie) (d' := 19) (C' := 0) (S' := 0) (av := [.int x1]) ?_ (gOk _ _ _ _ _) dX11_raise_2 (tX11_isTie _ _ _ _ _) ⟨wV_X11_isTie, wL_X11_isTie⟩ wM_X11_119 (gCX11 _ _ _ _ _) rfl (lt_t rfl) rfl ⟨le_t rfl, le_t rfl⟩ ⟨le_t rfl, le_t rfl⟩ rfl (le_t rfl) (fun _ _ h => h)
    refine sC.of rfl (by decide) (le_t rfl) ?_
    refine sv_iload_n (pc := 0) dX11_isTie_0 rfl rfl ?_
    refine sv_if_lt (pc := 1) (tgt := 19) dX11_isTie_1 (by decide) (fun h_2 => ?_) (fun h_2 => ?_)
    · refine sv_iconst (pc := 19) (v := 0) dX11_isTie_19 (by decide) ?_
      refine sv_zret (pc := 20) dX11_isTie_20 rfl (by decide) (le_t rfl) (le_t rfl) ?_
      refine sv_if_ne (pc := 5) (tgt := 10) dX11_raise_5 (by decide) (fun h => absurd (by decide) h) (fun _ => ?_)
      refine sv_iconst (pc := 8) (v := (-1)) dX11_raise_8 (by decide) ?_
      refine sv_iret (pc := 9) dX11_raise_9 rfl (le_t rfl) (le_t rfl) ?_
      refine sv_aload_n (pc := 480) dL_law_480 rfl rfl ?_
      refine sv_aload_nS (pc := 481) dL_law_481 rfl rfl ?_
      refine sv_iload_n (pc := 482) dL_law_482 rfl rfl ?_
      refine sv_iconst (pc := 483) (v := 1) dL_law_483 (by decide) ?_
      refine sw_iadd (pc := 484) (v := 1) dL_law_484 (by decide) ?_
      refine sw_sld (pc := 485) (v := x1) dL_law_485 (k := 1) (by decide) (by decide) rfl hx1 ?_
      refine sv_aload_nS (pc := 486) dL_law_486 rfl rfl ?_
      refine sv_iload_n (pc := 487) dL_law_487 rfl rfl ?_
      refine sv_iconst (pc := 488) (v := 2) dL_law_488 (by decide) ?_
      refine sw_iadd (pc := 489) (v := 2) dL_law_489 (by decide) ?_
      refine sw_sld (pc := 490) (v := x2) dL_law_490 (k := 2) (by decide) (by decide) rfl hx2 ?_
      refine sv_if_eq (pc := 491) (tgt := 498) dL_law_491 (by decide) (fun _ => ?_) (fun h => absurd h_1 h)
      refine sv_iconst (pc := 498) (v := 0) dL_law_498 (by decide) ?_
      refine sv_callV (pc := 499) (M' := mX12_raise) (d' := 20) (C' := 0) (S' := 0) (av := [.int x1, .int 0]) ?_ (gOk _ _ _ _ _) dL_law_499 (tX12_raise _ _ _ _ _) ⟨wV_X12_raise, wL_X12_raise⟩ wM_DomainHouseLaw_46 (gCX12 _ _ _ _ _) rfl (lt_t rfl) rfl ⟨le_t rfl, le_t rfl⟩ ⟨le_t rfl, le_t rfl⟩ rfl (le_t rfl) (fun _ _ h => h)
      refine sC.of rfl (by decide) (le_t rfl) ?_
      refine sv_aload_n (pc := 0) dX12_raise_0 rfl rfl ?_
      refine sv_iload_n (pc := 1) dX12_raise_1 rfl rfl ?_
      refine sv_callV (pc := 2) (M' := mX12_isTie) (d' := 19) (C' := 0) (S' := 0) (av := [.int x1]) ?_ (gOk _ _ _ _ _) dX12_raise_2 (tX12_isTie _ _ _ _ _) ⟨wV_X12_isTie, wL_X12_isTie⟩ wM_X12_66 (gCX12 _ _ _ _ _) rfl (lt_t rfl) rfl ⟨le_t rfl, le_t rfl⟩ ⟨le_t rfl, le_t rfl⟩ rfl (le_t rfl) (fun _ _ h => h)
      refine sC.of rfl (by decide) (le_t rfl) ?_
      refine sv_iload_n (pc := 0) dX12_isTie_0 rfl rfl ?_
      refine sv_iconst (pc := 1) (v := 0) dX12_isTie_1 (by decide) ?_
      refine sv_aload_n (pc := 2) dX12_isTie_2 rfl rfl ?_
      refine sw_getfield (pc := 3) dX12_isTie_3 (gCX12 _ _ _ _ _) 6 (by decide) wF_X12_37 rfl rfl rfl ?_
      refine sv_iconst (pc := 6) (v := 1) dX12_isTie_6 (by decide) ?_
      refine sw_isub (pc := 7) (v := (-1)) dX12_isTie_7 (by decide) ?_
      refine sv_callS (pc := 8) (M' := mX12_in) (d' := 18) (C' := 0) (S' := 0) (av := [.int x1, .int 0, .int (-1)]) ?_ (gOk _ _ _ _ _) dX12_isTie_8 (tX12_in _ _ _ _ _) wS_X12_in wM_X12_18 ⟨le_t rfl, le_t rfl⟩ ⟨le_t rfl, le_t rfl⟩ rfl (le_t rfl) (fun _ _ h => h)
      refine sC.of rfl (by decide) (le_t rfl) ?_
      refine sv_iload_n (pc := 0) dX12_in_0 rfl rfl ?_
      refine sv_iload_n (pc := 1) dX12_in_1 rfl rfl ?_
      refine sv_icmp_lt (pc := 2) (tgt := 14) dX12_in_2 (by decide) (fun _ => ?_) (fun h => absurd h_2 h)
      refine sv_iconst (pc := 14) (v := 0) dX12_in_14 (by decide) ?_
      refine sv_zret (pc := 15) dX12_in_15 rfl (by decide) (le_t rfl) (le_t rfl) ?_
      refine sv_zret (pc := 11) dX12_isTie_11 rfl (by decide) (le_t rfl) (le_t rfl) ?_
      refine sv_if_ne (pc := 5) (tgt := 10) dX12_raise_5 (by decide) (fun h => absurd (by decide) h) (fun _ => ?_)
      refine sv_iconst (pc := 8) (v := (-1)) dX12_raise_8 (by decide) ?_
      refine sv_iret (pc := 9) dX12_raise_9 rfl (le_t rfl) (le_t rfl) ?_
      refine sv_icmp_eq (pc := 502) (tgt := 1799) dL_law_502 (by decide) (fun _ => ?_) (fun h => absurd (by decide) h)
      exact kk _ _ _ (le_t rfl) (le_t rfl)
    refine sv_iload_n (pc := 4) dX11_isTie_4 rfl rfl ?_
    refine sv_aload_n (pc := 5) dX11_isTie_5 rfl rfl ?_
    refine sw_getfield (pc := 6) dX11_isTie_6 (gCX11 _ _ _ _ _) 3 (by decide) wF_X11_26 rfl rfl rfl ?_
    refine sw_getfield (pc := 9) dX11_isTie_9 (gCX10 _ _ _ _ _) 16 (by decide) wF_X11_112 rfl rfl rfl ?_
    refine sv_icmp_ge (pc := 12) (tgt := 19) dX11_isTie_12 (by decide) (fun _ => ?_) (fun h => False.elim (by have a0 := congrArg Int32.toInt h_1; have a1 := Int32.le_iff_toInt_le.mp (Int32.not_lt.mp h_2); have a2 := Int32.lt_iff_toInt_lt.mp (Int32.not_le.mp h); have e0 : (0 : Int32).toInt = 0 := (by decide); omega))
    refine sv_iconst (pc := 19) (v := 0) dX11_isTie_19 (by decide) ?_
    refine sv_zret (pc := 20) dX11_isTie_20 rfl (by decide) (le_t rfl) (le_t rfl) ?_
    refine sv_if_ne (pc := 5) (tgt := 10) dX11_raise_5 (by decide) (fun h => absurd (by decide) h) (fun _ => ?_)
    refine sv_iconst (pc := 8) (v := (-1)) dX11_raise_8 (by decide) ?_
    refine sv_iret (pc := 9) dX11_raise_9 rfl (le_t rfl) (le_t rfl) ?_
    refine sv_aload_n (pc := 480) dL_law_480 rfl rfl ?_
    refine sv_aload_nS (pc := 481) dL_law_481 rfl rfl ?_
    refine sv_iload_n (pc := 482) dL_law_482 rfl rfl ?_
    refine sv_iconst (pc := 483) (v := 1) dL_law_483 (by decide) ?_
    refine sw_iadd (pc := 484) (v := 1) dL_law_484 (by decide) ?_
    refine sw_sld (pc := 485) (v := x1) dL_law_485 (k := 1) (by decide) (by decide) rfl hx1 ?_
    refine sv_aload_nS (pc := 486) dL_law_486 rfl rfl ?_
    refine sv_iload_n (pc := 487) dL_law_487 rfl rfl ?_
    refine sv_iconst (pc := 488) (v := 2) dL_law_488 (by decide) ?_
    refine sw_iadd (pc := 489) (v := 2) dL_law_489 (by decide) ?_
    refine sw_sld (pc := 490) (v := x2) dL_law_490 (k := 2) (by decide) (by decide) rfl hx2 ?_
    refine sv_if_eq (pc := 491) (tgt := 498) dL_law_491 (by decide) (fun _ => ?_) (fun h => absurd h_1 h)
    refine sv_iconst (pc := 498) (v := 0) dL_law_498 (by decide) ?_
    refine sv_callV (pc := 499) (M' := mX12_raise) (d' := 20) (C' := 0) (S' := 0) (av := [.int x1, .int 0]) ?_ (gOk _ _ _ _ _) dL_law_499 (tX12_raise _ _ _ _ _) ⟨wV_X12_raise, wL_X12_raise⟩ wM_DomainHouseLaw_46 (gCX12 _ _ _ _ _) rfl (lt_t rfl) rfl ⟨le_t rfl, le_t rfl⟩ ⟨le_t rfl, le_t rfl⟩ rfl (le_t rfl) (fun _ _ h => h)
    refine sC.of rfl (by decide) (le_t rfl) ?_
    refine sv_aload_n (pc := 0) dX12_raise_0 rfl rfl ?_
    refine sv_iload_n (pc := 1) dX12_raise_1 rfl rfl ?_
    refine sv_callV (pc := 2) (M' := mX12_isTie) (d' := 19) (C' := 0) (S' := 0) (av := [.int x1]) ?_ (gOk _ _ _ _ _) dX12_raise_2 (tX12_isTie _ _ _ _ _) ⟨wV_X12_isTie, wL_X12_isTie⟩ wM_X12_66 (gCX12 _ _ _ _ _) rfl (lt_t rfl) rfl ⟨le_t rfl, le_t rfl⟩ ⟨le_t rfl, le_t rfl⟩ rfl (le_t rfl) (fun _ _ h => h)
    refine sC.of rfl (by decide) (le_t rfl) ?_
    refine sv_iload_n (pc := 0) dX12_isTie_0 rfl rfl ?_
    refine sv_iconst (pc := 1) (v := 0) dX12_isTie_1 (by decide) ?_
    refine sv_aload_n (pc := 2) dX12_isTie_2 rfl rfl ?_
    refine sw_getfield (pc := 3) dX12_isTie_3 (gCX12 _ _ _ _ _) 6 (by decide) wF_X12_37 rfl rfl rfl ?_
    refine sv_iconst (pc := 6) (v := 1) dX12_isTie_6 (by decide) ?_
    refine sw_isub (pc := 7) (v := (-1)) dX12_isTie_7 (by decide) ?_
    refine sv_callS (pc := 8) (M' := mX12_in) (d' := 18) (C' := 0) (S' := 0) (av := [.int x1, .int 0, .int (-1)]) ?_ (gOk _ _ _ _ _) dX12_isTie_8 (tX12_in _ _ _ _ _) wS_X12_in wM_X12_18 ⟨le_t rfl, le_t rfl⟩ ⟨le_t rfl, le_t rfl⟩ rfl (le_t rfl) (fun _ _ h => h)
    refine sC.of rfl (by decide) (le_t rfl) ?_
    refine sv_iload_n (pc := 0) dX12_in_0 rfl rfl ?_
    refine sv_iload_n (pc := 1) dX12_in_1 rfl rfl ?_
    refine sv_icmp_lt (pc := 2) (tgt := 14) dX12_in_2 (by decide) (fun h => absurd h h_2) (fun _ => ?_)
    refine sv_iload_n (pc := 5) dX12_in_5 rfl rfl ?_
    refine sv_iload_n (pc := 6) dX12_in_6 rfl rfl ?_
    refine sv_icmp_gt (pc := 7) (tgt := 14) dX12_in_7 (by decide) (fun _ => ?_) (fun h => False.elim (by have a0 := congrArg Int32.toInt h_1; have a1 := Int32.le_iff_toInt_le.mp (Int32.not_lt.mp h_2); have a2 := Int32.le_iff_toInt_le.mp (Int32.not_lt.mp h); have e0 : (-1 : Int32).toInt = -1 := (by decide); have e1 : (0 : Int32).toInt = 0 := (by decide); omega))
    refine sv_iconst (pc := 14) (v := 0) dX12_in_14 (by decide) ?_
    refine sv_zret (pc := 15) dX12_in_15 rfl (by decide) (le_t rfl) (le_t rfl) ?_
    refine sv_zret (pc := 11) dX12_isTie_11 rfl (by decide) (le_t rfl) (le_t rfl) ?_
    refine sv_if_ne (pc := 5) (tgt := 10) dX12_raise_5 (by decide) (fun h => absurd (by decide) h) (fun _ => ?_)
    refine sv_iconst (pc := 8) (v := (-1)) dX12_raise_8 (by decide) ?_
    refine sv_iret (pc := 9) dX12_raise_9 rfl (le_t rfl) (le_t rfl) ?_
    refine sv_icmp_eq (pc := 502) (tgt := 1799) dL_law_502 (by decide) (fun _ => ?_) (fun h => absurd (by decide) h)
    exact kk _ _ _ (le_t rfl) (le_t rfl)
  refine sv_iconst (pc := 472) (v := 1) dL_law_472 (by decide) ?_
  refine sv_goto (pc := 473) (tgt := 477) dL_law_473 (by decide) ?_
  refine sv_callV (pc := 477) (M' := mX11_raise) (d' := 20) (C' := 0) (S' := 0) (av := [.int x1, .int 1]) ?_ (gOk _ _ _ _ _) dL_law_477 (tX11_raise _ _ _ _ _) ⟨wV_X11_raise, wL_X11_raise⟩ wM_DomainHouseLaw_42 (gCX11 _ _ _ _ _) rfl (lt_t rfl) rfl ⟨le_t rfl, le_t rfl⟩ ⟨le_t rfl, le_t rfl⟩ rfl (le_t rfl) (fun _ _ h => h)
  refine sC.of rfl (by decide) (le_t rfl) ?_
  refine sv_aload_n (pc := 0) dX11_raise_0 rfl rfl ?_
  refine sv_iload_n (pc := 1) dX11_raise_1 rfl rfl ?_
  refine sv_callV (pc := 2) (M' := mX11_isTie) (d' := 19) (C' := 0) (S' := 0) (av := [.int x1]) ?_ (gOk _ _ _ _ _) dX11_raise_2 (tX11_isTie _ _ _ _ _) ⟨wV_X11_isTie, wL_X11_isTie⟩ wM_X11_119 (gCX11 _ _ _ _ _) rfl (lt_t rfl) rfl ⟨le_t rfl, le_t rfl⟩ ⟨le_t rfl, le_t rfl⟩ rfl (le_t rfl) (fun _ _ h => h)
  refine sC.of rfl (by decide) (le_t rfl) ?_
  refine sv_iload_n (pc := 0) dX11_isTie_0 rfl rfl ?_
  refine sv_if_lt (pc := 1) (tgt := 19) dX11_isTie_1 (by decide) (fun h_2 => ?_) (fun h_2 => ?_)
  · refine sv_iconst (pc := 19) (v := 0) dX11_isTie_19 (by decide) ?_
    refine sv_zret (pc := 20) dX11_isTie_20 rfl (by decide) (le_t rfl) (le_t rfl) ?_
    refine sv_if_ne (pc := 5) (tgt := 10) dX11_raise_5 (by decide) (fun h => absurd (by decide) h) (fun _ => ?_)
    refine sv_iconst (pc := 8) (v := (-1)) dX11_raise_8 (by decide) ?_
    refine sv_iret (pc := 9) dX11_raise_9 rfl (le_t rfl) (le_t rfl) ?_
    refine sv_aload_n (pc := 480) dL_law_480 rfl rfl ?_
    refine sv_aload_nS (pc := 481) dL_law_481 rfl rfl ?_
    refine sv_iload_n (pc := 482) dL_law_482 rfl rfl ?_
    refine sv_iconst (pc := 483) (v := 1) dL_law_483 (by decide) ?_
    refine sw_iadd (pc := 484) (v := 1) dL_law_484 (by decide) ?_
    refine sw_sld (pc := 485) (v := x1) dL_law_485 (k := 1) (by decide) (by decide) rfl hx1 ?_
    refine sv_aload_nS (pc := 486) dL_law_486 rfl rfl ?_
    refine sv_iload_n (pc := 487) dL_law_487 rfl rfl ?_
    refine sv_iconst (pc := 488) (v := 2) dL_law_488 (by decide) ?_
    refine sw_iadd (pc := 489) (v := 2) dL_law_489 (by decide) ?_
    refine sw_sld (pc := 490) (v := x2) dL_law_490 (k := 2) (by decide) (by decide) rfl hx2 ?_
    refine sv_if_eq (pc := 491) (tgt := 498) dL_law_491 (by decide) (fun h => absurd h h_1) (fun _ => ?_)
    refine sv_iconst (pc := 494) (v := 1) dL_law_494 (by decide) ?_
    refine sv_goto (pc := 495) (tgt := 499) dL_law_495 (by decide) ?_
    refine sv_callV (pc := 499) (M' := mX12_raise) (d' := 20) (C' := 0) (S' := 0) (av := [.int x1, .int 1]) ?_ (gOk _ _ _ _ _) dL_law_499 (tX12_raise _ _ _ _ _) ⟨wV_X12_raise, wL_X12_raise⟩ wM_DomainHouseLaw_46 (gCX12 _ _ _ _ _) rfl (lt_t rfl) rfl ⟨le_t rfl, le_t rfl⟩ ⟨le_t rfl, le_t rfl⟩ rfl (le_t rfl) (fun _ _ h => h)
    refine sC.of rfl (by decide) (le_t rfl) ?_
    refine sv_aload_n (pc := 0) dX12_raise_0 rfl rfl ?_
    refine sv_iload_n (pc := 1) dX12_raise_1 rfl rfl ?_
    refine sv_callV (pc := 2) (M' := mX12_isTie) (d' := 19) (C' := 0) (S' := 0) (av := [.int x1]) ?_ (gOk _ _ _ _ _) dX12_raise_2 (tX12_isTie _ _ _ _ _) ⟨wV_X12_isTie, wL_X12_isTie⟩ wM_X12_66 (gCX12 _ _ _ _ _) rfl (lt_t rfl) rfl ⟨le_t rfl, le_t rfl⟩ ⟨le_t rfl, le_t rfl⟩ rfl (le_t rfl) (fun _ _ h => h)
    refine sC.of rfl (by decide) (le_t rfl) ?_
    refine sv_iload_n (pc := 0) dX12_isTie_0 rfl rfl ?_
    refine sv_iconst (pc := 1) (v := 0) dX12_isTie_1 (by decide) ?_
    refine sv_aload_n (pc := 2) dX12_isTie_2 rfl rfl ?_
    refine sw_getfield (pc := 3) dX12_isTie_3 (gCX12 _ _ _ _ _) 6 (by decide) wF_X12_37 rfl rfl rfl ?_
    refine sv_iconst (pc := 6) (v := 1) dX12_isTie_6 (by decide) ?_
    refine sw_isub (pc := 7) (v := (-1)) dX12_isTie_7 (by decide) ?_
    refine sv_callS (pc := 8) (M' := mX12_in) (d' := 18) (C' := 0) (S' := 0) (av := [.int x1, .int 0, .int (-1)]) ?_ (gOk _ _ _ _ _) dX12_isTie_8 (tX12_in _ _ _ _ _) wS_X12_in wM_X12_18 ⟨le_t rfl, le_t rfl⟩ ⟨le_t rfl, le_t rfl⟩ rfl (le_t rfl) (fun _ _ h => h)
    refine sC.of rfl (by decide) (le_t rfl) ?_
    refine sv_iload_n (pc := 0) dX12_in_0 rfl rfl ?_
    refine sv_iload_n (pc := 1) dX12_in_1 rfl rfl ?_
    refine sv_icmp_lt (pc := 2) (tgt := 14) dX12_in_2 (by decide) (fun _ => ?_) (fun h => absurd h_2 h)
    refine sv_iconst (pc := 14) (v := 0) dX12_in_14 (by decide) ?_
    refine sv_zret (pc := 15) dX12_in_15 rfl (by decide) (le_t rfl) (le_t rfl) ?_
    refine sv_zret (pc := 11) dX12_isTie_11 rfl (by decide) (le_t rfl) (le_t rfl) ?_
    refine sv_if_ne (pc := 5) (tgt := 10) dX12_raise_5 (by decide) (fun h => absurd (by decide) h) (fun _ => ?_)
    refine sv_iconst (pc := 8) (v := (-1)) dX12_raise_8 (by decide) ?_
    refine sv_iret (pc := 9) dX12_raise_9 rfl (le_t rfl) (le_t rfl) ?_
    refine sv_icmp_eq (pc := 502) (tgt := 1799) dL_law_502 (by decide) (fun _ => ?_) (fun h => absurd (by decide) h)
    exact kk _ _ _ (le_t rfl) (le_t rfl)
  refine sv_iload_n (pc := 4) dX11_isTie_4 rfl rfl ?_
  refine sv_aload_n (pc := 5) dX11_isTie_5 rfl rfl ?_
  refine sw_getfield (pc := 6) dX11_isTie_6 (gCX11 _ _ _ _ _) 3 (by decide) wF_X11_26 rfl rfl rfl ?_
  refine sw_getfield (pc := 9) dX11_isTie_9 (gCX10 _ _ _ _ _) 16 (by decide) wF_X11_112 rfl rfl rfl ?_
  refine sv_icmp_ge (pc := 12) (tgt := 19) dX11_isTie_12 (by decide) (fun _ => ?_) (fun h => False.elim (by have a0 := sNe h_1; have a1 := Int32.le_iff_toInt_le.mp (Int32.not_lt.mp h_2); have a2 := Int32.lt_iff_toInt_lt.mp (Int32.not_le.mp h); have e0 : (0 : Int32).toInt = 0 := (by decide); omega))
  refine sv_iconst (pc := 19) (v := 0) dX11_isTie_19 (by decide) ?_
  refine sv_zret (pc := 20) dX11_isTie_20 rfl (by decide) (le_t rfl) (le_t rfl) ?_
  refine sv_if_ne (pc := 5) (tgt := 10) dX11_raise_5 (by decide) (fun h => absurd (by decide) h) (fun _ => ?_)
  refine sv_iconst (pc := 8) (v := (-1)) dX11_raise_8 (by decide) ?_
  refine sv_iret (pc := 9) dX11_raise_9 rfl (le_t rfl) (le_t rfl) ?_
  refine sv_aload_n (pc := 480) dL_law_480 rfl rfl ?_
  refine sv_aload_nS (pc := 481) dL_law_481 rfl rfl ?_
  refine sv_iload_n (pc := 482) dL_law_482 rfl rfl ?_
  refine sv_iconst (pc := 483) (v := 1) dL_law_483 (by decide) ?_
  refine sw_iadd (pc := 484) (v := 1) dL_law_484 (by decide) ?_
  refine sw_sld (pc := 485) (v := x1) dL_law_485 (k := 1) (by decide) (by decide) rfl hx1 ?_
  refine sv_aload_nS (pc := 486) dL_law_486 rfl rfl ?_
  refine sv_iload_n (pc := 487) dL_law_487 rfl rfl ?_
  refine sv_iconst (pc := 488) (v := 2) dL_law_488 (by decide) ?_
  refine sw_iadd (pc := 489) (v := 2) dL_law_489 (by decide) ?_
  refine sw_sld (pc := 490) (v := x2) dL_law_490 (k := 2) (by decide) (by decide) rfl hx2 ?_
  refine sv_if_eq (pc := 491) (tgt := 498) dL_law_491 (by decide) (fun h => absurd h h_1) (fun _ => ?_)
  refine sv_iconst (pc := 494) (v := 1) dL_law_494 (by decide) ?_
  refine sv_goto (pc := 495) (tgt := 499) dL_law_495 (by decide) ?_
  refine sv_callV (pc := 499) (M' := mX12_raise) (d' := 20) (C' := 0) (S' := 0) (av := [.int x1, .int 1]) ?_ (gOk _ _ _ _ _) dL_law_499 (tX12_raise _ _ _ _ _) ⟨wV_X12_raise, wL_X12_raise⟩ wM_DomainHouseLaw_46 (gCX12 _ _ _ _ _) rfl (lt_t rfl) rfl ⟨le_t rfl, le_t rfl⟩ ⟨le_t rfl, le_t rfl⟩ rfl (le_t rfl) (fun _ _ h => h)
  refine sC.of rfl (by decide) (le_t rfl) ?_
  refine sv_aload_n (pc := 0) dX12_raise_0 rfl rfl ?_
  refine sv_iload_n (pc := 1) dX12_raise_1 rfl rfl ?_
  refine sv_callV (pc := 2) (M' := mX12_isTie) (d' := 19) (C' := 0) (S' := 0) (av := [.int x1]) ?_ (gOk _ _ _ _ _) dX12_raise_2 (tX12_isTie _ _ _ _ _) ⟨wV_X12_isTie, wL_X12_isTie⟩ wM_X12_66 (gCX12 _ _ _ _ _) rfl (lt_t rfl) rfl ⟨le_t rfl, le_t rfl⟩ ⟨le_t rfl, le_t rfl⟩ rfl (le_t rfl) (fun _ _ h => h)
  refine sC.of rfl (by decide) (le_t rfl) ?_
  refine sv_iload_n (pc := 0) dX12_isTie_0 rfl rfl ?_
  refine sv_iconst (pc := 1) (v := 0) dX12_isTie_1 (by decide) ?_
  refine sv_aload_n (pc := 2) dX12_isTie_2 rfl rfl ?_
  refine sw_getfield (pc := 3) dX12_isTie_3 (gCX12 _ _ _ _ _) 6 (by decide) wF_X12_37 rfl rfl rfl ?_
  refine sv_iconst (pc := 6) (v := 1) dX12_isTie_6 (by decide) ?_
  refine sw_isub (pc := 7) (v := (-1)) dX12_isTie_7 (by decide) ?_
  refine sv_callS (pc := 8) (M' := mX12_in) (d' := 18) (C' := 0) (S' := 0) (av := [.int x1, .int 0, .int (-1)]) ?_ (gOk _ _ _ _ _) dX12_isTie_8 (tX12_in _ _ _ _ _) wS_X12_in wM_X12_18 ⟨le_t rfl, le_t rfl⟩ ⟨le_t rfl, le_t rfl⟩ rfl (le_t rfl) (fun _ _ h => h)
  refine sC.of rfl (by decide) (le_t rfl) ?_
  refine sv_iload_n (pc := 0) dX12_in_0 rfl rfl ?_
  refine sv_iload_n (pc := 1) dX12_in_1 rfl rfl ?_
  refine sv_icmp_lt (pc := 2) (tgt := 14) dX12_in_2 (by decide) (fun h => absurd h h_2) (fun _ => ?_)
  refine sv_iload_n (pc := 5) dX12_in_5 rfl rfl ?_
  refine sv_iload_n (pc := 6) dX12_in_6 rfl rfl ?_
  refine sv_icmp_gt (pc := 7) (tgt := 14) dX12_in_7 (by decide) (fun _ => ?_) (fun h => False.elim (by have a0 := sNe h_1; have a1 := Int32.le_iff_toInt_le.mp (Int32.not_lt.mp h_2); have a2 := Int32.le_iff_toInt_le.mp (Int32.not_lt.mp h); have e0 : (-1 : Int32).toInt = -1 := (by decide); have e1 : (0 : Int32).toInt = 0 := (by decide); omega))
  refine sv_iconst (pc := 14) (v := 0) dX12_in_14 (by decide) ?_
  refine sv_zret (pc := 15) dX12_in_15 rfl (by decide) (le_t rfl) (le_t rfl) ?_
  refine sv_zret (pc := 11) dX12_isTie_11 rfl (by decide) (le_t rfl) (le_t rfl) ?_
  refine sv_if_ne (pc := 5) (tgt := 10) dX12_raise_5 (by decide) (fun h => absurd (by decide) h) (fun _ => ?_)
  refine sv_iconst (pc := 8) (v := (-1)) dX12_raise_8 (by decide) ?_
  refine sv_iret (pc := 9) dX12_raise_9 rfl (le_t rfl) (le_t rfl) ?_
  refine sv_icmp_eq (pc := 502) (tgt := 1799) dL_law_502 (by decide) (fun _ => ?_) (fun h => absurd (by decide) h)
  exact kk _ _ _ (le_t rfl) (le_t rfl)
set_option maxHeartbeats 40000000 in
set_option maxRecDepth 100000 in
theorem op_7 (l : Launch) (D : va_G) (c : Nat → ClassId) (H0 : Heap) (b : Nat) (xs : Nat → Int32) (Z : sZT) (x1 x2 x3 x4 x5 x6 : Int32) (hx1 : xs 1 = x1) (hx2 : xs 2 = x2) (hx3 : xs 3 = x3) (hx4 : xs 4 = x4) (hx5 : xs 5 = x5) (hx6 : xs 6 = x6) (kk : ∀ (hp : sHp) (ce sl : Nat), ce ≤ 600000 → sl ≤ 7302250 → sV (gG l D c H0 (b, 7, xs)) mL room_1 Z 1799 [(3, .int 0), (2, .ref 106), (1, .ref 0), (0, .retAddr 0)] [] hp ce sl) : sV (gG l D c H0 (b, 7, xs)) mL room_1 Z 507 [(3, .int 0), (2, .ref 106), (1, .ref 0), (0, .retAddr 0)] [] (192, tF) 192 297215 := by
  refine sv_aload_n (pc := 507) dL_law_507 rfl rfl ?_
  refine sv_aload_nS (pc := 508) dL_law_508 rfl rfl ?_
  refine sv_iload_n (pc := 509) dL_law_509 rfl rfl ?_
  refine sv_iconst (pc := 510) (v := 1) dL_law_510 (by decide) ?_
  refine sw_iadd (pc := 511) (v := 1) dL_law_511 (by decide) ?_
  refine sw_sld (pc := 512) (v := x1) dL_law_512 (k := 1) (by decide) (by decide) rfl hx1 ?_
  refine sv_aload_nS (pc := 513) dL_law_513 rfl rfl ?_
  refine sv_iload_n (pc := 514) dL_law_514 rfl rfl ?_
  refine sv_iconst (pc := 515) (v := 2) dL_law_515 (by decide) ?_
  refine sw_iadd (pc := 516) (v := 2) dL_law_516 (by decide) ?_
  refine sw_sld (pc := 517) (v := x2) dL_law_517 (k := 2) (by decide) (by decide) rfl hx2 ?_
  refine sv_callV (pc := 518) (M' := mX11_cone) (d' := 20) (C' := 0) (S' := 0) (av := [.int x1, .int x2]) ?_ (gOk _ _ _ _ _) dL_law_518 (tX11_cone _ _ _ _ _) ⟨wV_X11_cone, wL_X11_cone⟩ wM_DomainHouseLaw_47 (gCX11 _ _ _ _ _) rfl (lt_t rfl) rfl ⟨le_t rfl, le_t rfl⟩ ⟨le_t rfl, le_t rfl⟩ rfl (le_t rfl) (fun _ _ h => h)
  refine sC.of rfl (by decide) (le_t rfl) ?_
  refine sv_aload_n (pc := 0) dX11_cone_0 rfl rfl ?_
  refine sv_iload_n (pc := 1) dX11_cone_1 rfl rfl ?_
  refine sv_callV (pc := 2) (M' := mX11_isDomain) (d' := 19) (C' := 0) (S' := 0) (av := [.int x1]) ?_ (gOk _ _ _ _ _) dX11_cone_2 (tX11_isDomain _ _ _ _ _) ⟨wV_X11_isDomain, wL_X11_isDomain⟩ wM_X11_105 (gCX11 _ _ _ _ _) rfl (lt_t rfl) rfl ⟨le_t rfl, le_t rfl⟩ ⟨le_t rfl, le_t rfl⟩ rfl (le_t rfl) (fun _ _ h => h)
  refine sC.of rfl (by decide) (le_t rfl) ?_
  refine sv_iload_n (pc := 0) dX11_isDomain_0 rfl rfl ?_
  refine sv_if_lt (pc := 1) (tgt := 19) dX11_isDomain_1 (by decide) (fun h_1 => ?_) (fun h_1 => ?_)
  · refine sv_iconst (pc := 19) (v := 0) dX11_isDomain_19 (by decide) ?_
    refine sv_zret (pc := 20) dX11_isDomain_20 rfl (by decide) (le_t rfl) (le_t rfl) ?_
    refine sv_if_eq (pc := 5) (tgt := 21) dX11_cone_5 (by decide) (fun _ => ?_) (fun h => absurd (by decide) h)
    refine sv_iconst (pc := 21) (v := (-1)) dX11_cone_21 (by decide) ?_
    refine sv_iret (pc := 22) dX11_cone_22 rfl (le_t rfl) (le_t rfl) ?_
    refine sv_aload_n (pc := 521) dL_law_521 rfl rfl ?_
    refine sv_aload_nS (pc := 522) dL_law_522 rfl rfl ?_
    refine sv_iload_n (pc := 523) dL_law_523 rfl rfl ?_
    refine sv_iconst (pc := 524) (v := 1) dL_law_524 (by decide) ?_
    refine sw_iadd (pc := 525) (v := 1) dL_law_525 (by decide) ?_
    refine sw_sld (pc := 526) (v := x1) dL_law_526 (k := 1) (by decide) (by decide) rfl hx1 ?_
    refine sv_aload_nS (pc := 527) dL_law_527 rfl rfl ?_
    refine sv_iload_n (pc := 528) dL_law_528 rfl rfl ?_
    refine sv_iconst (pc := 529) (v := 2) dL_law_529 (by decide) ?_
    refine sw_iadd (pc := 530) (v := 2) dL_law_530 (by decide) ?_
    refine sw_sld (pc := 531) (v := x2) dL_law_531 (k := 2) (by decide) (by decide) rfl hx2 ?_
    refine sv_callV (pc := 532) (M' := mX12_cone) (d' := 20) (C' := 0) (S' := 0) (av := [.int x1, .int x2]) ?_ (gOk _ _ _ _ _) dL_law_532 (tX12_cone _ _ _ _ _) ⟨wV_X12_cone, wL_X12_cone⟩ wM_DomainHouseLaw_50 (gCX12 _ _ _ _ _) rfl (lt_t rfl) rfl ⟨le_t rfl, le_t rfl⟩ ⟨le_t rfl, le_t rfl⟩ rfl (le_t rfl) (fun _ _ h => h)
    refine sC.of rfl (by decide) (le_t rfl) ?_
    refine sv_aload_n (pc := 0) dX12_cone_0 rfl rfl ?_
    refine sv_iload_n (pc := 1) dX12_cone_1 rfl rfl ?_
    refine sv_callV (pc := 2) (M' := mX12_isDomain) (d' := 19) (C' := 0) (S' := 0) (av := [.int x1]) ?_ (gOk _ _ _ _ _) dX12_cone_2 (tX12_isDomain _ _ _ _ _) ⟨wV_X12_isDomain, wL_X12_isDomain⟩ wM_X12_49 (gCX12 _ _ _ _ _) rfl (lt_t rfl) rfl ⟨le_t rfl, le_t rfl⟩ ⟨le_t rfl, le_t rfl⟩ rfl (le_t rfl) (fun _ _ h => h)
    refine sC.of rfl (by decide) (le_t rfl) ?_
    refine sv_iload_n (pc := 0) dX12_isDomain_0 rfl rfl ?_
    refine sv_iconst (pc := 1) (v := 0) dX12_isDomain_1 (by decide) ?_
    refine sv_aload_n (pc := 2) dX12_isDomain_2 rfl rfl ?_
    refine sw_getfield (pc := 3) dX12_isDomain_3 (gCX12 _ _ _ _ _) 5 (by decide) wF_X12_34 rfl rfl rfl ?_
    refine sv_iconst (pc := 6) (v := 1) dX12_isDomain_6 (by decide) ?_
    refine sw_isub (pc := 7) (v := (-1)) dX12_isDomain_7 (by decide) ?_
    refine sv_callS (pc := 8) (M' := mX12_in) (d' := 18) (C' := 0) (S' := 0) (av := [.int x1, .int 0, .int (-1)]) ?_ (gOk _ _ _ _ _) dX12_isDomain_8 (tX12_in _ _ _ _ _) wS_X12_in wM_X12_18 ⟨le_t rfl, le_t rfl⟩ ⟨le_t rfl, le_t rfl⟩ rfl (le_t rfl) (fun _ _ h => h)
    refine sC.of rfl (by decide) (le_t rfl) ?_
    refine sv_iload_n (pc := 0) dX12_in_0 rfl rfl ?_
    refine sv_iload_n (pc := 1) dX12_in_1 rfl rfl ?_
    refine sv_icmp_lt (pc := 2) (tgt := 14) dX12_in_2 (by decide) (fun _ => ?_) (fun h => absurd h_1 h)
    refine sv_iconst (pc := 14) (v := 0) dX12_in_14 (by decide) ?_
    refine sv_zret (pc := 15) dX12_in_15 rfl (by decide) (le_t rfl) (le_t rfl) ?_
    refine sv_zret (pc := 11) dX12_isDomain_11 rfl (by decide) (le_t rfl) (le_t rfl) ?_
    refine sv_if_eq (pc := 5) (tgt := 21) dX12_cone_5 (by decide) (fun _ => ?_) (fun h => absurd (by decide) h)
    refine sv_iconst (pc := 21) (v := (-1)) dX12_cone_21 (by decide) ?_
    refine sv_iret (pc := 22) dX12_cone_22 rfl (le_t rfl) (le_t rfl) ?_
    refine sv_icmp_eq (pc := 535) (tgt := 1799) dL_law_535 (by decide) (fun _ => ?_) (fun h => absurd (by decide) h)
    exact kk _ _ _ (le_t rfl) (le_t rfl)
  refine sv_iload_n (pc := 4) dX11_isDomain_4 rfl rfl ?_
  refine sv_aload_n (pc := 5) dX11_isDomain_5 rfl rfl ?_
  refine sw_getfield (pc := 6) dX11_isDomain_6 (gCX11 _ _ _ _ _) 3 (by decide) wF_X11_26 rfl rfl rfl ?_
  refine sw_getfield (pc := 9) dX11_isDomain_9 (gCX10 _ _ _ _ _) 15 (by decide) wF_X11_98 rfl rfl rfl ?_
  refine sv_icmp_ge (pc := 12) (tgt := 19) dX11_isDomain_12 (by decide) (fun _ => ?_) (fun h => False.elim (by have a0 := Int32.le_iff_toInt_le.mp (Int32.not_lt.mp h_1); have a1 := Int32.lt_iff_toInt_lt.mp (Int32.not_le.mp h); have e0 : (0 : Int32).toInt = 0 := (by decide); omega))
  refine sv_iconst (pc := 19) (v := 0) dX11_isDomain_19 (by decide) ?_
  refine sv_zret (pc := 20) dX11_isDomain_20 rfl (by decide) (le_t rfl) (le_t rfl) ?_
  refine sv_if_eq (pc := 5) (tgt := 21) dX11_cone_5 (by decide) (fun _ => ?_) (fun h => absurd (by decide) h)
  refine sv_iconst (pc := 21) (v := (-1)) dX11_cone_21 (by decide) ?_
  refine sv_iret (pc := 22) dX11_cone_22 rfl (le_t rfl) (le_t rfl) ?_
  refine sv_aload_n (pc := 521) dL_law_521 rfl rfl ?_
  refine sv_aload_nS (pc := 522) dL_law_522 rfl rfl ?_
  refine sv_iload_n (pc := 523) dL_law_523 rfl rfl ?_
  refine sv_iconst (pc := 524) (v := 1) dL_law_524 (by decide) ?_
  refine sw_iadd (pc := 525) (v := 1) dL_law_525 (by decide) ?_
  refine sw_sld (pc := 526) (v := x1) dL_law_526 (k := 1) (by decide) (by decide) rfl hx1 ?_
  refine sv_aload_nS (pc := 527) dL_law_527 rfl rfl ?_
  refine sv_iload_n (pc := 528) dL_law_528 rfl rfl ?_
  refine sv_iconst (pc := 529) (v := 2) dL_law_529 (by decide) ?_
  refine sw_iadd (pc := 530) (v := 2) dL_law_530 (by decide) ?_
  refine sw_sld (pc := 531) (v := x2) dL_law_531 (k := 2) (by decide) (by decide) rfl hx2 ?_
  refine sv_callV (pc := 532) (M' := mX12_cone) (d' := 20) (C' := 0) (S' := 0) (av := [.int x1, .int x2]) ?_ (gOk _ _ _ _ _) dL_law_532 (tX12_cone _ _ _ _ _) ⟨wV_X12_cone, wL_X12_cone⟩ wM_DomainHouseLaw_50 (gCX12 _ _ _ _ _) rfl (lt_t rfl) rfl ⟨le_t rfl, le_t rfl⟩ ⟨le_t rfl, le_t rfl⟩ rfl (le_t rfl) (fun _ _ h => h)
  refine sC.of rfl (by decide) (le_t rfl) ?_
  refine sv_aload_n (pc := 0) dX12_cone_0 rfl rfl ?_
  refine sv_iload_n (pc := 1) dX12_cone_1 rfl rfl ?_
  refine sv_callV (pc := 2) (M' := mX12_isDomain) (d' := 19) (C' := 0) (S' := 0) (av := [.int x1]) ?_ (gOk _ _ _ _ _) dX12_cone_2 (tX12_isDomain _ _ _ _ _) ⟨wV_X12_isDomain, wL_X12_isDomain⟩ wM_X12_49 (gCX12 _ _ _ _ _) rfl (lt_t rfl) rfl ⟨le_t rfl, le_t rfl⟩ ⟨le_t rfl, le_t rfl⟩ rfl (le_t rfl) (fun _ _ h => h)
  refine sC.of rfl (by decide) (le_t rfl) ?_
  refine sv_iload_n (pc := 0) dX12_isDomain_0 rfl rfl ?_
  refine sv_iconst (pc := 1) (v := 0) dX12_isDomain_1 (by decide) ?_
  refine sv_aload_n (pc := 2) dX12_isDomain_2 rfl rfl ?_
  refine sw_getfield (pc := 3) dX12_isDomain_3 (gCX12 _ _ _ _ _) 5 (by decide) wF_X12_34 rfl rfl rfl ?_
  refine sv_iconst (pc := 6) (v := 1) dX12_isDomain_6 (by decide) ?_
  refine sw_isub (pc := 7) (v := (-1)) dX12_isDomain_7 (by decide) ?_
  refine sv_callS (pc := 8) (M' := mX12_in) (d' := 18) (C' := 0) (S' := 0) (av := [.int x1, .int 0, .int (-1)]) ?_ (gOk _ _ _ _ _) dX12_isDomain_8 (tX12_in _ _ _ _ _) wS_X12_in wM_X12_18 ⟨le_t rfl, le_t rfl⟩ ⟨le_t rfl, le_t rfl⟩ rfl (le_t rfl) (fun _ _ h => h)
  refine sC.of rfl (by decide) (le_t rfl) ?_
  refine sv_iload_n (pc := 0) dX12_in_0 rfl rfl ?_
  refine sv_iload_n (pc := 1) dX12_in_1 rfl rfl ?_
  refine sv_icmp_lt (pc := 2) (tgt := 14) dX12_in_2 (by decide) (fun h => absurd h h_1) (fun _ => ?_)
  refine sv_iload_n (pc := 5) dX12_in_5 rfl rfl ?_
  refine sv_iload_n (pc := 6) dX12_in_6 rfl rfl ?_
  refine sv_icmp_gt (pc := 7) (tgt := 14) dX12_in_7 (by decide) (fun _ => ?_) (fun h => False.elim (by have a0 := Int32.le_iff_toInt_le.mp (Int32.not_lt.mp h_1); have a1 := Int32.le_iff_toInt_le.mp (Int32.not_lt.mp h); have e0 : (-1 : Int32).toInt = -1 := (by decide); have e1 : (0 : Int32).toInt = 0 := (by decide); omega))
  refine sv_iconst (pc := 14) (v := 0) dX12_in_14 (by decide) ?_
  refine sv_zret (pc := 15) dX12_in_15 rfl (by decide) (le_t rfl) (le_t rfl) ?_
  refine sv_zret (pc := 11) dX12_isDomain_11 rfl (by decide) (le_t rfl) (le_t rfl) ?_
  refine sv_if_eq (pc := 5) (tgt := 21) dX12_cone_5 (by decide) (fun _ => ?_) (fun h => absurd (by decide) h)
  refine sv_iconst (pc := 21) (v := (-1)) dX12_cone_21 (by decide) ?_
  refine sv_iret (pc := 22) dX12_cone_22 rfl (le_t rfl) (le_t rfl) ?_
  refine sv_icmp_eq (pc := 535) (tgt := 1799) dL_law_535 (by decide) (fun _ => ?_) (fun h => absurd (by decide) h)
  exact kk _ _ _ (le_t rfl) (le_t rfl)
set_option maxHeartbeats 40000000 in
set_option maxRecDepth 100000 in
theorem op_8 (l : Launch) (D : va_G) (c : Nat → ClassId) (H0 : Heap) (b : Nat) (xs : Nat → Int32) (Z : sZT) (x1 x2 x3 x4 x5 x6 : Int32) (hx1 : xs 1 = x1) (hx2 : xs 2 = x2) (hx3 : xs 3 = x3) (hx4 : xs 4 = x4) (hx5 : xs 5 = x5) (hx6 : xs 6 = x6) (kk : ∀ (hp : sHp) (ce sl : Nat), ce ≤ 600000 → sl ≤ 7302250 → sV (gG l D c H0 (b, 7, xs)) mL room_1 Z 1799 [(3, .int 0), (2, .ref 106), (1, .ref 0), (0, .retAddr 0)] [] hp ce sl) : sV (gG l D c H0 (b, 7, xs)) mL room_1 Z 540 [(3, .int 0), (2, .ref 106), (1, .ref 0), (0, .retAddr 0)] [] (192, tF) 192 297215 := by
  refine sv_aload_n (pc := 540) dL_law_540 rfl rfl ?_
  refine sv_aload_nS (pc := 541) dL_law_541 rfl rfl ?_
  refine sv_iload_n (pc := 542) dL_law_542 rfl rfl ?_
  refine sv_iconst (pc := 543) (v := 1) dL_law_543 (by decide) ?_
  refine sw_iadd (pc := 544) (v := 1) dL_law_544 (by decide) ?_
  refine sw_sld (pc := 545) (v := x1) dL_law_545 (k := 1) (by decide) (by decide) rfl hx1 ?_
  refine sv_callV (pc := 546) (M' := mX11_ring) (d' := 20) (C' := 0) (S' := 0) (av := [.int x1]) ?_ (gOk _ _ _ _ _) dL_law_546 (tX11_ring _ _ _ _ _) ⟨wV_X11_ring, wL_X11_ring⟩ wM_DomainHouseLaw_51 (gCX11 _ _ _ _ _) rfl (lt_t rfl) rfl ⟨le_t rfl, le_t rfl⟩ ⟨le_t rfl, le_t rfl⟩ rfl (le_t rfl) (fun _ _ h => h)
  refine sC.of rfl (by decide) (le_t rfl) ?_
  refine sv_aload_n (pc := 0) dX11_ring_0 rfl rfl ?_
  refine sw_getfield (pc := 1) dX11_ring_1 (gCX11 _ _ _ _ _) 3 (by decide) wF_X11_26 rfl rfl rfl ?_
  refine sv_callV (pc := 4) (M' := mX10_findRing) (d' := 19) (C' := 0) (S' := 0) (av := []) ?_ (gOk _ _ _ _ _) dX11_ring_4 (tX10_findRing _ _ _ _ _) ⟨wV_X10_findRing, wL_X10_findRing⟩ wM_X11_162 (gCX10 _ _ _ _ _) rfl (lt_t rfl) rfl ⟨le_t rfl, le_t rfl⟩ ⟨le_t rfl, le_t rfl⟩ rfl (le_t rfl) (fun _ _ h => h)
  refine sC.of rfl (by decide) (le_t rfl) ?_
  refine sv_iconst (pc := 0) (v := 0) dX10_findRing_0 (by decide) ?_
  refine sv_istore_n (pc := 1) dX10_findRing_1 rfl (by decide) ?_
  refine sv_iload_n (pc := 2) dX10_findRing_2 rfl rfl ?_
  refine sv_aload_n (pc := 3) dX10_findRing_3 rfl rfl ?_
  refine sw_getfield (pc := 4) dX10_findRing_4 (gCX10 _ _ _ _ _) 15 (by decide) wF_X10_68 rfl rfl rfl ?_
  refine sv_icmp_ge (pc := 7) (tgt := 34) dX10_findRing_7 (by decide) (fun _ => ?_) (fun h => absurd (by decide) h)
  refine sv_iconst (pc := 34) (v := 0) dX10_findRing_34 (by decide) ?_
  refine sv_iret (pc := 35) dX10_findRing_35 rfl (le_t rfl) (le_t rfl) ?_
  refine sv_istore_n (pc := 7) dX11_ring_7 rfl (by decide) ?_
  refine sv_iload_n (pc := 8) dX11_ring_8 rfl rfl ?_
  refine sv_if_lt (pc := 9) (tgt := 17) dX11_ring_9 (by decide) (fun h_1 => ?_) (fun h_1 => ?_)
  · refine sv_ldc (pc := 17) dX11_ring_17 wG_X11_165 ?_
    refine sv_goto (pc := 19) (tgt := 31) dX11_ring_19 (by decide) ?_
    refine sv_iret (pc := 31) dX11_ring_31 rfl (le_t rfl) (le_t rfl) ?_
    refine sv_aload_n (pc := 549) dL_law_549 rfl rfl ?_
    refine sv_aload_nS (pc := 550) dL_law_550 rfl rfl ?_
    refine sv_iload_n (pc := 551) dL_law_551 rfl rfl ?_
    refine sv_iconst (pc := 552) (v := 1) dL_law_552 (by decide) ?_
    refine sw_iadd (pc := 553) (v := 1) dL_law_553 (by decide) ?_
    refine sw_sld (pc := 554) (v := x1) dL_law_554 (k := 1) (by decide) (by decide) rfl hx1 ?_
    refine sv_callV (pc := 555) (M' := mX12_ring) (d' := 20) (C' := 0) (S' := 0) (av := [.int x1]) ?_ (gOk _ _ _ _ _) dL_law_555 (tX12_ring _ _ _ _ _) ⟨wV_X12_ring, wL_X12_ring⟩ wM_DomainHouseLaw_54 (gCX12 _ _ _ _ _) rfl (lt_t rfl) rfl ⟨le_t rfl, le_t rfl⟩ ⟨le_t rfl, le_t rfl⟩ rfl (le_t rfl) (fun _ _ h => h)
    refine sC.of rfl (by decide) (le_t rfl) ?_
    refine sv_iload_n (pc := 0) dX12_ring_0 rfl rfl ?_
    refine sv_if_ge (pc := 1) (tgt := 7) dX12_ring_1 (by decide) (fun h => False.elim (by have a0 := Int32.lt_iff_toInt_lt.mp h_1; have a1 := Int32.le_iff_toInt_le.mp h; have e0 : (0 : Int32).toInt = 0 := (by decide); omega)) (fun _ => ?_)
    refine sv_ldc (pc := 4) dX12_ring_4 wG_X12_29 ?_
    refine sv_iret (pc := 6) dX12_ring_6 rfl (le_t rfl) (le_t rfl) ?_
    refine sv_icmp_eq (pc := 558) (tgt := 1799) dL_law_558 (by decide) (fun _ => ?_) (fun h => absurd (by decide) h)
    exact kk _ _ _ (le_t rfl) (le_t rfl)
  refine sv_iload_n (pc := 12) dX11_ring_12 rfl rfl ?_
  refine sv_iload_n (pc := 13) dX11_ring_13 rfl rfl ?_
  refine sv_icmp_lt (pc := 14) (tgt := 22) dX11_ring_14 (by decide) (fun h => absurd h h_1) (fun _ => ?_)
  refine sv_ldc (pc := 17) dX11_ring_17 wG_X11_165 ?_
  refine sv_goto (pc := 19) (tgt := 31) dX11_ring_19 (by decide) ?_
  refine sv_iret (pc := 31) dX11_ring_31 rfl (le_t rfl) (le_t rfl) ?_
  refine sv_aload_n (pc := 549) dL_law_549 rfl rfl ?_
  refine sv_aload_nS (pc := 550) dL_law_550 rfl rfl ?_
  refine sv_iload_n (pc := 551) dL_law_551 rfl rfl ?_
  refine sv_iconst (pc := 552) (v := 1) dL_law_552 (by decide) ?_
  refine sw_iadd (pc := 553) (v := 1) dL_law_553 (by decide) ?_
  refine sw_sld (pc := 554) (v := x1) dL_law_554 (k := 1) (by decide) (by decide) rfl hx1 ?_
  refine sv_callV (pc := 555) (M' := mX12_ring) (d' := 20) (C' := 0) (S' := 0) (av := [.int x1]) ?_ (gOk _ _ _ _ _) dL_law_555 (tX12_ring _ _ _ _ _) ⟨wV_X12_ring, wL_X12_ring⟩ wM_DomainHouseLaw_54 (gCX12 _ _ _ _ _) rfl (lt_t rfl) rfl ⟨le_t rfl, le_t rfl⟩ ⟨le_t rfl, le_t rfl⟩ rfl (le_t rfl) (fun _ _ h => h)
  refine sC.of rfl (by decide) (le_t rfl) ?_
  refine sv_iload_n (pc := 0) dX12_ring_0 rfl rfl ?_
  refine sv_if_ge (pc := 1) (tgt := 7) dX12_ring_1 (by decide) (fun _ => ?_) (fun h => False.elim (by have a0 := Int32.le_iff_toInt_le.mp (Int32.not_lt.mp h_1); have a1 := Int32.lt_iff_toInt_lt.mp (Int32.not_le.mp h); have e0 : (0 : Int32).toInt = 0 := (by decide); omega))
  refine sv_iconst (pc := 7) (v := 0) dX12_ring_7 (by decide) ?_
  refine sv_istore_n (pc := 8) dX12_ring_8 rfl (by decide) ?_
  refine sv_iload_n (pc := 9) dX12_ring_9 rfl rfl ?_
  refine sv_aload_n (pc := 10) dX12_ring_10 rfl rfl ?_
  refine sw_getfield (pc := 11) dX12_ring_11 (gCX12 _ _ _ _ _) 5 (by decide) wF_X12_34 rfl rfl rfl ?_
  refine sv_icmp_ge (pc := 14) (tgt := 272) dX12_ring_14 (by decide) (fun _ => ?_) (fun h => absurd (by decide) h)
  refine sv_ldc (pc := 272) dX12_ring_272 wG_X12_29 ?_
  refine sv_iret (pc := 274) dX12_ring_274 rfl (le_t rfl) (le_t rfl) ?_
  refine sv_icmp_eq (pc := 558) (tgt := 1799) dL_law_558 (by decide) (fun _ => ?_) (fun h => absurd (by decide) h)
  exact kk _ _ _ (le_t rfl) (le_t rfl)
set_option maxHeartbeats 40000000 in
set_option maxRecDepth 100000 in
theorem op_9 (l : Launch) (D : va_G) (c : Nat → ClassId) (H0 : Heap) (b : Nat) (xs : Nat → Int32) (Z : sZT) (x1 x2 x3 x4 x5 x6 : Int32) (hx1 : xs 1 = x1) (hx2 : xs 2 = x2) (hx3 : xs 3 = x3) (hx4 : xs 4 = x4) (hx5 : xs 5 = x5) (hx6 : xs 6 = x6) (kk : ∀ (hp : sHp) (ce sl : Nat), ce ≤ 600000 → sl ≤ 7302250 → sV (gG l D c H0 (b, 7, xs)) mL room_1 Z 1799 [(3, .int 0), (2, .ref 106), (1, .ref 0), (0, .retAddr 0)] [] hp ce sl) : sV (gG l D c H0 (b, 7, xs)) mL room_1 Z 563 [(3, .int 0), (2, .ref 106), (1, .ref 0), (0, .retAddr 0)] [] (192, tF) 192 297215 := by
  refine sv_aload_n (pc := 563) dL_law_563 rfl rfl ?_
  refine sv_aload_nS (pc := 564) dL_law_564 rfl rfl ?_
  refine sv_iload_n (pc := 565) dL_law_565 rfl rfl ?_
  refine sv_iconst (pc := 566) (v := 1) dL_law_566 (by decide) ?_
  refine sw_iadd (pc := 567) (v := 1) dL_law_567 (by decide) ?_
  refine sw_sld (pc := 568) (v := x1) dL_law_568 (k := 1) (by decide) (by decide) rfl hx1 ?_
  refine sv_callV (pc := 569) (M' := mX11_walk) (d' := 20) (C' := 0) (S' := 0) (av := [.int x1]) ?_ (gOk _ _ _ _ _) dL_law_569 (tX11_walk _ _ _ _ _) ⟨wV_X11_walk, wL_X11_walk⟩ wM_DomainHouseLaw_55 (gCX11 _ _ _ _ _) rfl (lt_t rfl) rfl ⟨le_t rfl, le_t rfl⟩ ⟨le_t rfl, le_t rfl⟩ rfl (le_t rfl) (fun _ _ h => h)
  refine sC.of rfl (by decide) (le_t rfl) ?_
  refine sv_iload_n (pc := 0) dX11_walk_0 rfl rfl ?_
  refine sv_iconst (pc := 1) (v := (-1)) dX11_walk_1 (by decide) ?_
  refine sv_icmp_lt (pc := 2) (tgt := 11) dX11_walk_2 (by decide) (fun h_1 => ?_) (fun h_1 => ?_)
  · refine sv_iconst (pc := 11) (v := (-1)) dX11_walk_11 (by decide) ?_
    refine sv_iret (pc := 12) dX11_walk_12 rfl (le_t rfl) (le_t rfl) ?_
    refine sv_aload_n (pc := 572) dL_law_572 rfl rfl ?_
    refine sv_aload_nS (pc := 573) dL_law_573 rfl rfl ?_
    refine sv_iload_n (pc := 574) dL_law_574 rfl rfl ?_
    refine sv_iconst (pc := 575) (v := 1) dL_law_575 (by decide) ?_
    refine sw_iadd (pc := 576) (v := 1) dL_law_576 (by decide) ?_
    refine sw_sld (pc := 577) (v := x1) dL_law_577 (k := 1) (by decide) (by decide) rfl hx1 ?_
    refine sv_callV (pc := 578) (M' := mX12_walk) (d' := 20) (C' := 0) (S' := 0) (av := [.int x1]) ?_ (gOk _ _ _ _ _) dL_law_578 (tX12_walk _ _ _ _ _) ⟨wV_X12_walk, wL_X12_walk⟩ wM_DomainHouseLaw_58 (gCX12 _ _ _ _ _) rfl (lt_t rfl) rfl ⟨le_t rfl, le_t rfl⟩ ⟨le_t rfl, le_t rfl⟩ rfl (le_t rfl) (fun _ _ h => h)
    refine sC.of rfl (by decide) (le_t rfl) ?_
    refine sv_iload_n (pc := 0) dX12_walk_0 rfl rfl ?_
    refine sv_iconst (pc := 1) (v := (-1)) dX12_walk_1 (by decide) ?_
    refine sv_bipush (pc := 2) (v := 9) dX12_walk_2 (by decide) ?_
    refine sv_callS (pc := 4) (M' := mX12_in) (d' := 19) (C' := 0) (S' := 0) (av := [.int x1, .int (-1), .int 9]) ?_ (gOk _ _ _ _ _) dX12_walk_4 (tX12_in _ _ _ _ _) wS_X12_in wM_X12_18 ⟨le_t rfl, le_t rfl⟩ ⟨le_t rfl, le_t rfl⟩ rfl (le_t rfl) (fun _ _ h => h)
    refine sC.of rfl (by decide) (le_t rfl) ?_
    refine sv_iload_n (pc := 0) dX12_in_0 rfl rfl ?_
    refine sv_iload_n (pc := 1) dX12_in_1 rfl rfl ?_
    refine sv_icmp_lt (pc := 2) (tgt := 14) dX12_in_2 (by decide) (fun _ => ?_) (fun h => absurd h_1 h)
    refine sv_iconst (pc := 14) (v := 0) dX12_in_14 (by decide) ?_
    refine sv_zret (pc := 15) dX12_in_15 rfl (by decide) (le_t rfl) (le_t rfl) ?_
    refine sv_if_ne (pc := 7) (tgt := 12) dX12_walk_7 (by decide) (fun h => absurd (by decide) h) (fun _ => ?_)
    refine sv_iconst (pc := 10) (v := (-1)) dX12_walk_10 (by decide) ?_
    refine sv_iret (pc := 11) dX12_walk_11 rfl (le_t rfl) (le_t rfl) ?_
    refine sv_icmp_eq (pc := 581) (tgt := 1799) dL_law_581 (by decide) (fun _ => ?_) (fun h => absurd (by decide) h)
    exact kk _ _ _ (le_t rfl) (le_t rfl)
  refine sv_iload_n (pc := 5) dX11_walk_5 rfl rfl ?_
  refine sv_bipush (pc := 6) (v := 10) dX11_walk_6 (by decide) ?_
  refine sv_icmp_lt (pc := 8) (tgt := 13) dX11_walk_8 (by decide) (fun h_2 => ?_) (fun h_2 => ?_)
  · refine sv_iload_n (pc := 13) dX11_walk_13 rfl rfl ?_
    refine sv_iconst (pc := 14) (v := (-1)) dX11_walk_14 (by decide) ?_
    refine sv_icmp_ne (pc := 15) (tgt := 25) dX11_walk_15 (by decide) (fun h_3 => ?_) (fun h_3 => ?_)
    · refine sv_aload_n (pc := 25) dX11_walk_25 rfl rfl ?_
      refine sw_getfield (pc := 26) dX11_walk_26 (gCX11 _ _ _ _ _) 11 (by decide) wF_X11_169 rfl rfl rfl ?_
      refine sv_bipush (pc := 29) (v := 20) dX11_walk_29 (by decide) ?_
      refine sv_icmp_lt (pc := 31) (tgt := 37) dX11_walk_31 (by decide) (fun _ => ?_) (fun h => absurd (by decide) h)
      refine sv_aload_n (pc := 37) dX11_walk_37 rfl rfl ?_
      refine sw_getfield (pc := 38) dX11_walk_38 (gCX11 _ _ _ _ _) 1 (by decide) wF_X11_13 rfl rfl rfl ?_
      refine sv_aload_n (pc := 41) dX11_walk_41 rfl rfl ?_
      refine sw_getfield (pc := 42) dX11_walk_42 (gCX11 _ _ _ _ _) 11 (by decide) wF_X11_169 rfl rfl rfl ?_
      refine sv_iload_n (pc := 45) dX11_walk_45 rfl rfl ?_
      refine sw_iastore (pc := 46) (k := 0) dX11_walk_46 rfl rfl rfl (by decide) (by decide) rfl rfl ?_
      refine sv_aload_n (pc := 47) dX11_walk_47 rfl rfl ?_
      refine sv_dup (pc := 48) dX11_walk_48 rfl ?_
      refine sw_getfield (pc := 49) dX11_walk_49 (gCX11 _ _ _ _ _) 11 (by decide) wF_X11_169 rfl rfl rfl ?_
      refine sv_iconst (pc := 52) (v := 1) dX11_walk_52 (by decide) ?_
      refine sw_iadd (pc := 53) (v := 1) dX11_walk_53 (by decide) ?_
      refine sw_putfield (pc := 54) dX11_walk_54 (gCX11 _ _ _ _ _) 11 (by decide) wF_X11_169 rfl rfl rfl (fun _ => rfl) (fun _ => rfl) rfl ?_
      refine sv_aload_n (pc := 57) dX11_walk_57 rfl rfl ?_
      refine sw_getfield (pc := 58) dX11_walk_58 (gCX11 _ _ _ _ _) 11 (by decide) wF_X11_169 rfl rfl rfl ?_
      refine sv_iret (pc := 61) dX11_walk_61 rfl (le_t rfl) (le_t rfl) ?_
      refine sv_aload_n (pc := 572) dL_law_572 rfl rfl ?_
      refine sv_aload_nS (pc := 573) dL_law_573 rfl rfl ?_
      refine sv_iload_n (pc := 574) dL_law_574 rfl rfl ?_
      refine sv_iconst (pc := 575) (v := 1) dL_law_575 (by decide) ?_
      refine sw_iadd (pc := 576) (v := 1) dL_law_576 (by decide) ?_
      refine sw_sld (pc := 577) (v := x1) dL_law_577 (k := 1) (by decide) (by decide) rfl hx1 ?_
      refine sv_callV (pc := 578) (M' := mX12_walk) (d' := 20) (C' := 0) (S' := 0) (av := [.int x1]) ?_ (gOk _ _ _ _ _) dL_law_578 (tX12_walk _ _ _ _ _) ⟨wV_X12_walk, wL_X12_walk⟩ wM_DomainHouseLaw_58 (gCX12 _ _ _ _ _) rfl (lt_t rfl) rfl ⟨le_t rfl, le_t rfl⟩ ⟨le_t rfl, le_t rfl⟩ rfl (le_t rfl) (fun _ _ h => h)
      refine sC.of rfl (by decide) (le_t rfl) ?_
      refine sv_iload_n (pc := 0) dX12_walk_0 rfl rfl ?_
      refine sv_iconst (pc := 1) (v := (-1)) dX12_walk_1 (by decide) ?_
      refine sv_bipush (pc := 2) (v := 9) dX12_walk_2 (by decide) ?_
      refine sv_callS (pc := 4) (M' := mX12_in) (d' := 19) (C' := 0) (S' := 0) (av := [.int x1, .int (-1), .int 9]) ?_ (gOk _ _ _ _ _) dX12_walk_4 (tX12_in _ _ _ _ _) wS_X12_in wM_X12_18 ⟨le_t rfl, le_t rfl⟩ ⟨le_t rfl, le_t rfl⟩ rfl (le_t rfl) (fun _ _ h => h)
      refine sC.of rfl (by decide) (le_t rfl) ?_
      refine sv_iload_n (pc := 0) dX12_in_0 rfl rfl ?_
      refine sv_iload_n (pc := 1) dX12_in_1 rfl rfl ?_
      refine sv_icmp_lt (pc := 2) (tgt := 14) dX12_in_2 (by decide) (fun h => absurd h h_1) (fun _ => ?_)
      refine sv_iload_n (pc := 5) dX12_in_5 rfl rfl ?_
      refine sv_iload_n (pc := 6) dX12_in_6 rfl rfl ?_
      refine sv_icmp_gt (pc := 7) (tgt := 14) dX12_in_7 (by decide) (fun h => False.elim (by have a0 := Int32.le_iff_toInt_le.mp (Int32.not_lt.mp h_1); have a1 := Int32.lt_iff_toInt_lt.mp h_2; have a2 := sNe h_3; have a3 := Int32.lt_iff_toInt_lt.mp h; have e0 : (-1 : Int32).toInt = -1 := (by decide); have e1 : (9 : Int32).toInt = 9 := (by decide); have e2 : (10 : Int32).toInt = 10 := (by decide); omega)) (fun _ => ?_)
      refine sv_iconst (pc := 10) (v := 1) dX12_in_10 (by decide) ?_
      refine sv_goto (pc := 11) (tgt := 15) dX12_in_11 (by decide) ?_
      refine sv_zret (pc := 15) dX12_in_15 rfl (by decide) (le_t rfl) (le_t rfl) ?_
      refine sv_if_ne (pc := 7) (tgt := 12) dX12_walk_7 (by decide) (fun _ => ?_) (fun h => absurd h (by decide))
      refine sv_iload_n (pc := 12) dX12_walk_12 rfl rfl ?_
      refine sv_iconst (pc := 13) (v := (-1)) dX12_walk_13 (by decide) ?_
      refine sv_icmp_ne (pc := 14) (tgt := 24) dX12_walk_14 (by decide) (fun _ => ?_) (fun h => absurd h h_3)
      refine sv_aload_n (pc := 24) dX12_walk_24 rfl rfl ?_
      refine sw_getfield (pc := 25) dX12_walk_25 (gCX12 _ _ _ _ _) 15 (by decide) wF_X12_79 rfl rfl rfl ?_
      refine sv_bipush (pc := 28) (v := 20) dX12_walk_28 (by decide) ?_
      refine sv_icmp_ne (pc := 30) (tgt := 36) dX12_walk_30 (by decide) (fun _ => ?_) (fun h => absurd h (by decide))
      refine sv_aload_n (pc := 36) dX12_walk_36 rfl rfl ?_
      refine sw_getfield (pc := 37) dX12_walk_37 (gCX12 _ _ _ _ _) 16 (by decide) wF_X12_82 rfl rfl rfl ?_
      refine sv_aload_n (pc := 40) dX12_walk_40 rfl rfl ?_
      refine sw_getfield (pc := 41) dX12_walk_41 (gCX12 _ _ _ _ _) 15 (by decide) wF_X12_79 rfl rfl rfl ?_
      refine sv_iload_n (pc := 44) dX12_walk_44 rfl rfl ?_
      refine sw_iastore (pc := 45) (k := 0) dX12_walk_45 rfl rfl rfl (by decide) (by decide) rfl rfl ?_
      refine sv_aload_n (pc := 46) dX12_walk_46 rfl rfl ?_
      refine sv_dup (pc := 47) dX12_walk_47 rfl ?_
      refine sw_getfield (pc := 48) dX12_walk_48 (gCX12 _ _ _ _ _) 15 (by decide) wF_X12_79 rfl rfl rfl ?_
      refine sv_iconst (pc := 51) (v := 1) dX12_walk_51 (by decide) ?_
      refine sw_iadd (pc := 52) (v := 1) dX12_walk_52 (by decide) ?_
      refine sw_putfield (pc := 53) dX12_walk_53 (gCX12 _ _ _ _ _) 15 (by decide) wF_X12_79 rfl rfl rfl (fun _ => rfl) (fun _ => rfl) rfl ?_
      refine sv_aload_n (pc := 56) dX12_walk_56 rfl rfl ?_
      refine sw_getfield (pc := 57) dX12_walk_57 (gCX12 _ _ _ _ _) 15 (by decide) wF_X12_79 rfl rfl rfl ?_
      refine sv_iret (pc := 60) dX12_walk_60 rfl (le_t rfl) (le_t rfl) ?_
      refine sv_icmp_eq (pc := 581) (tgt := 1799) dL_law_581 (by decide) (fun _ => ?_) (fun h => absurd (by decide) h)
      exact kk _ _ _ (le_t rfl) (le_t rfl)
    refine sv_aload_n (pc := 18) dX11_walk_18 rfl rfl ?_
    refine sv_iconst (pc := 19) (v := 0) dX11_walk_19 (by decide) ?_
    refine sw_putfield (pc := 20) dX11_walk_20 (gCX11 _ _ _ _ _) 11 (by decide) wF_X11_169 rfl rfl rfl (fun _ => rfl) (fun _ => rfl) rfl ?_
    refine sv_iconst (pc := 23) (v := 0) dX11_walk_23 (by decide) ?_
    refine sv_iret (pc := 24) dX11_walk_24 rfl (le_t rfl) (le_t rfl) ?_
    refine sv_aload_n (pc := 572) dL_law_572 rfl rfl ?_
    refine sv_aload_nS (pc := 573) dL_law_573 rfl rfl ?_
    refine sv_iload_n (pc := 574) dL_law_574 rfl rfl ?_
    refine sv_iconst (pc := 575) (v := 1) dL_law_575 (by decide) ?_
    refine sw_iadd (pc := 576) (v := 1) dL_law_576 (by decide) ?_
    refine sw_sld (pc := 577) (v := x1) dL_law_577 (k := 1) (by decide) (by decide) rfl hx1 ?_
    refine sv_callV (pc := 578) (M' := mX12_walk) (d' := 20) (C' := 0) (S' := 0) (av := [.int x1]) ?_ (gOk _ _ _ _ _) dL_law_578 (tX12_walk _ _ _ _ _) ⟨wV_X12_walk, wL_X12_walk⟩ wM_DomainHouseLaw_58 (gCX12 _ _ _ _ _) rfl (lt_t rfl) rfl ⟨le_t rfl, le_t rfl⟩ ⟨le_t rfl, le_t rfl⟩ rfl (le_t rfl) (fun _ _ h => h)
    refine sC.of rfl (by decide) (le_t rfl) ?_
    refine sv_iload_n (pc := 0) dX12_walk_0 rfl rfl ?_
    refine sv_iconst (pc := 1) (v := (-1)) dX12_walk_1 (by decide) ?_
    refine sv_bipush (pc := 2) (v := 9) dX12_walk_2 (by decide) ?_
    refine sv_callS (pc := 4) (M' := mX12_in) (d' := 19) (C' := 0) (S' := 0) (av := [.int x1, .int (-1), .int 9]) ?_ (gOk _ _ _ _ _) dX12_walk_4 (tX12_in _ _ _ _ _) wS_X12_in wM_X12_18 ⟨le_t rfl, le_t rfl⟩ ⟨le_t rfl, le_t rfl⟩ rfl (le_t rfl) (fun _ _ h => h)
    refine sC.of rfl (by decide) (le_t rfl) ?_
    refine sv_iload_n (pc := 0) dX12_in_0 rfl rfl ?_
    refine sv_iload_n (pc := 1) dX12_in_1 rfl rfl ?_
    refine sv_icmp_lt (pc := 2) (tgt := 14) dX12_in_2 (by decide) (fun h => absurd h h_1) (fun _ => ?_)
    refine sv_iload_n (pc := 5) dX12_in_5 rfl rfl ?_
    refine sv_iload_n (pc := 6) dX12_in_6 rfl rfl ?_
    refine sv_icmp_gt (pc := 7) (tgt := 14) dX12_in_7 (by decide) (fun h => False.elim (by have a0 := Int32.le_iff_toInt_le.mp (Int32.not_lt.mp h_1); have a1 := Int32.lt_iff_toInt_lt.mp h_2; have a2 := congrArg Int32.toInt h_3; have a3 := Int32.lt_iff_toInt_lt.mp h; have e0 : (-1 : Int32).toInt = -1 := (by decide); have e1 : (9 : Int32).toInt = 9 := (by decide); have e2 : (10 : Int32).toInt = 10 := (by decide); omega)) (fun _ => ?_)
    refine sv_iconst (pc := 10) (v := 1) dX12_in_10 (by decide) ?_
    refine sv_goto (pc := 11) (tgt := 15) dX12_in_11 (by decide) ?_
    refine sv_zret (pc := 15) dX12_in_15 rfl (by decide) (le_t rfl) (le_t rfl) ?_
    refine sv_if_ne (pc := 7) (tgt := 12) dX12_walk_7 (by decide) (fun _ => ?_) (fun h => absurd h (by decide))
    refine sv_iload_n (pc := 12) dX12_walk_12 rfl rfl ?_
    refine sv_iconst (pc := 13) (v := (-1)) dX12_walk_13 (by decide) ?_
    refine sv_icmp_ne (pc := 14) (tgt := 24) dX12_walk_14 (by decide) (fun h => absurd h_3 h) (fun _ => ?_)
    refine sv_aload_n (pc := 17) dX12_walk_17 rfl rfl ?_
    refine sv_iconst (pc := 18) (v := 0) dX12_walk_18 (by decide) ?_
    refine sw_putfield (pc := 19) dX12_walk_19 (gCX12 _ _ _ _ _) 15 (by decide) wF_X12_79 rfl rfl rfl (fun _ => rfl) (fun _ => rfl) rfl ?_
    refine sv_iconst (pc := 22) (v := 0) dX12_walk_22 (by decide) ?_
    refine sv_iret (pc := 23) dX12_walk_23 rfl (le_t rfl) (le_t rfl) ?_
    refine sv_icmp_eq (pc := 581) (tgt := 1799) dL_law_581 (by decide) (fun _ => ?_) (fun h => absurd (by decide) h)
    exact kk _ _ _ (le_t rfl) (le_t rfl)
  refine sv_iconst (pc := 11) (v := (-1)) dX11_walk_11 (by decide) ?_
  refine sv_iret (pc := 12) dX11_walk_12 rfl (le_t rfl) (le_t rfl) ?_
  refine sv_aload_n (pc := 572) dL_law_572 rfl rfl ?_
  refine sv_aload_nS (pc := 573) dL_law_573 rfl rfl ?_
  refine sv_iload_n (pc := 574) dL_law_574 rfl rfl ?_
  refine sv_iconst (pc := 575) (v := 1) dL_law_575 (by decide) ?_
  refine sw_iadd (pc := 576) (v := 1) dL_law_576 (by decide) ?_
  refine sw_sld (pc := 577) (v := x1) dL_law_577 (k := 1) (by decide) (by decide) rfl hx1 ?_
  refine sv_callV (pc := 578) (M' := mX12_walk) (d' := 20) (C' := 0) (S' := 0) (av := [.int x1]) ?_ (gOk _ _ _ _ _) dL_law_578 (tX12_walk _ _ _ _ _) ⟨wV_X12_walk, wL_X12_walk⟩ wM_DomainHouseLaw_58 (gCX12 _ _ _ _ _) rfl (lt_t rfl) rfl ⟨le_t rfl, le_t rfl⟩ ⟨le_t rfl, le_t rfl⟩ rfl (le_t rfl) (fun _ _ h => h)
  refine sC.of rfl (by decide) (le_t rfl) ?_
  refine sv_iload_n (pc := 0) dX12_walk_0 rfl rfl ?_
  refine sv_iconst (pc := 1) (v := (-1)) dX12_walk_1 (by decide) ?_
  refine sv_bipush (pc := 2) (v := 9) dX12_walk_2 (by decide) ?_
  refine sv_callS (pc := 4) (M' := mX12_in) (d' := 19) (C' := 0) (S' := 0) (av := [.int x1, .int (-1), .int 9]) ?_ (gOk _ _ _ _ _) dX12_walk_4 (tX12_in _ _ _ _ _) wS_X12_in wM_X12_18 ⟨le_t rfl, le_t rfl⟩ ⟨le_t rfl, le_t rfl⟩ rfl (le_t rfl) (fun _ _ h => h)
  refine sC.of rfl (by decide) (le_t rfl) ?_
  refine sv_iload_n (pc := 0) dX12_in_0 rfl rfl ?_
  refine sv_iload_n (pc := 1) dX12_in_1 rfl rfl ?_
  refine sv_icmp_lt (pc := 2) (tgt := 14) dX12_in_2 (by decide) (fun h => absurd h h_1) (fun _ => ?_)
  refine sv_iload_n (pc := 5) dX12_in_5 rfl rfl ?_
  refine sv_iload_n (pc := 6) dX12_in_6 rfl rfl ?_
  refine sv_icmp_gt (pc := 7) (tgt := 14) dX12_in_7 (by decide) (fun _ => ?_) (fun h => False.elim (by have a0 := Int32.le_iff_toInt_le.mp (Int32.not_lt.mp h_1); have a1 := Int32.le_iff_toInt_le.mp (Int32.not_lt.mp h_2); have a2 := Int32.le_iff_toInt_le.mp (Int32.not_lt.mp h); have e0 : (-1 : Int32).toInt = -1 := (by decide); have e1 : (9 : Int32).toInt = 9 := (by decide); have e2 : (10 : Int32).toInt = 10 := (by decide); omega))
  refine sv_iconst (pc := 14) (v := 0) dX12_in_14 (by decide) ?_
  refine sv_zret (pc := 15) dX12_in_15 rfl (by decide) (le_t rfl) (le_t rfl) ?_
  refine sv_if_ne (pc := 7) (tgt := 12) dX12_walk_7 (by decide) (fun h => absurd (by decide) h) (fun _ => ?_)
  refine sv_iconst (pc := 10) (v := (-1)) dX12_walk_10 (by decide) ?_
  refine sv_iret (pc := 11) dX12_walk_11 rfl (le_t rfl) (le_t rfl) ?_
  refine sv_icmp_eq (pc := 581) (tgt := 1799) dL_law_581 (by decide) (fun _ => ?_) (fun h => absurd (by decide) h)
  exact kk _ _ _ (le_t rfl) (le_t rfl)
set_option maxHeartbeats 40000000 in
set_option maxRecDepth 100000 in
theorem op_10 (l : Launch) (D : va_G) (c : Nat → ClassId) (H0 : Heap) (b : Nat) (xs : Nat → Int32) (Z : sZT) (x1 x2 x3 x4 x5 x6 : Int32) (hx1 : xs 1 = x1) (hx2 : xs 2 = x2) (hx3 : xs 3 = x3) (hx4 : xs 4 = x4) (hx5 : xs 5 = x5) (hx6 : xs 6 = x6) (kk : ∀ (hp : sHp) (ce sl : Nat), ce ≤ 600000 → sl ≤ 7302250 → sV (gG l D c H0 (b, 7, xs)) mL room_1 Z 1799 [(3, .int 0), (2, .ref 106), (1, .ref 0), (0, .retAddr 0)] [] hp ce sl) : sV (gG l D c H0 (b, 7, xs)) mL room_1 Z 586 [(3, .int 0), (2, .ref 106), (1, .ref 0), (0, .retAddr 0)] [] (192, tF) 192 297215 := by
  refine sv_aload_n (pc := 586) dL_law_586 rfl rfl ?_
  refine sv_callV (pc := 587) (M' := mX11_letWay) (d' := 20) (C' := 0) (S' := 0) (av := []) ?_ (gOk _ _ _ _ _) dL_law_587 (tX11_letWay _ _ _ _ _) ⟨wV_X11_letWay, wL_X11_letWay⟩ wM_DomainHouseLaw_59 (gCX11 _ _ _ _ _) rfl (lt_t rfl) rfl ⟨le_t rfl, le_t rfl⟩ ⟨le_t rfl, le_t rfl⟩ rfl (le_t rfl) (fun _ _ h => h)
  refine sC.of rfl (by decide) (le_t rfl) ?_
  refine sv_aload_n (pc := 0) dX11_letWay_0 rfl rfl ?_
  refine sw_getfield (pc := 1) dX11_letWay_1 (gCX11 _ _ _ _ _) 3 (by decide) wF_X11_26 rfl rfl rfl ?_
  refine sv_aload_n (pc := 4) dX11_letWay_4 rfl rfl ?_
  refine sw_getfield (pc := 5) dX11_letWay_5 (gCX11 _ _ _ _ _) 1 (by decide) wF_X11_13 rfl rfl rfl ?_
  refine sv_aload_n (pc := 8) dX11_letWay_8 rfl rfl ?_
  refine sw_getfield (pc := 9) dX11_letWay_9 (gCX11 _ _ _ _ _) 11 (by decide) wF_X11_169 rfl rfl rfl ?_
  refine sv_callV (pc := 12) (M' := mX10_firstWrongStep) (d' := 19) (C' := 0) (S' := 0) (av := [.ref 2, .int 0]) ?_ (gOk _ _ _ _ _) dX11_letWay_12 (tX10_firstWrongStep _ _ _ _ _) ⟨wV_X10_firstWrongStep, wL_X10_firstWrongStep⟩ wM_X11_172 (gCX10 _ _ _ _ _) rfl (lt_t rfl) rfl ⟨le_t rfl, le_t rfl⟩ ⟨le_t rfl, le_t rfl⟩ rfl (le_t rfl) (fun _ _ h => h)
  refine sC.of rfl (by decide) (le_t rfl) ?_
  refine sv_iconst (pc := 0) (v := 0) dX10_firstWrongStep_0 (by decide) ?_
  refine sv_istore_n (pc := 1) dX10_firstWrongStep_1 rfl (by decide) ?_
  refine sv_iconst (pc := 2) (v := 0) dX10_firstWrongStep_2 (by decide) ?_
  refine sv_istore (pc := 3) dX10_firstWrongStep_3 (by decide) ?_
  refine sv_iload (pc := 5) dX10_firstWrongStep_5 rfl ?_
  refine sv_iconst (pc := 7) (v := 1) dX10_firstWrongStep_7 (by decide) ?_
  refine sw_iadd (pc := 8) (v := 1) dX10_firstWrongStep_8 (by decide) ?_
  refine sv_iload_n (pc := 9) dX10_firstWrongStep_9 rfl rfl ?_
  refine sv_icmp_ge (pc := 10) (tgt := 121) dX10_firstWrongStep_10 (by decide) (fun _ => ?_) (fun h => absurd (by decide) h)
  refine sv_iconst (pc := 121) (v := (-1)) dX10_firstWrongStep_121 (by decide) ?_
  refine sv_iret (pc := 122) dX10_firstWrongStep_122 rfl (le_t rfl) (le_t rfl) ?_
  refine sv_iconst (pc := 15) (v := 1) dX11_letWay_15 (by decide) ?_
  refine sw_iadd (pc := 16) (v := 0) dX11_letWay_16 (by decide) ?_
  refine sv_iret (pc := 17) dX11_letWay_17 rfl (le_t rfl) (le_t rfl) ?_
  refine sv_aload_n (pc := 590) dL_law_590 rfl rfl ?_
  refine sv_callV (pc := 591) (M' := mX12_letWay) (d' := 20) (C' := 0) (S' := 0) (av := []) ?_ (gOk _ _ _ _ _) dL_law_591 (tX12_letWay _ _ _ _ _) ⟨wV_X12_letWay, wL_X12_letWay⟩ wM_DomainHouseLaw_62 (gCX12 _ _ _ _ _) rfl (lt_t rfl) rfl ⟨le_t rfl, le_t rfl⟩ ⟨le_t rfl, le_t rfl⟩ rfl (le_t rfl) (fun _ _ h => h)
  refine sC.of rfl (by decide) (le_t rfl) ?_
  refine sv_iconst (pc := 0) (v := 0) dX12_letWay_0 (by decide) ?_
  refine sv_istore_n (pc := 1) dX12_letWay_1 rfl (by decide) ?_
  refine sv_iconst (pc := 2) (v := 0) dX12_letWay_2 (by decide) ?_
  refine sv_istore_n (pc := 3) dX12_letWay_3 rfl (by decide) ?_
  refine sv_iload_n (pc := 4) dX12_letWay_4 rfl rfl ?_
  refine sv_iconst (pc := 5) (v := 1) dX12_letWay_5 (by decide) ?_
  refine sw_iadd (pc := 6) (v := 1) dX12_letWay_6 (by decide) ?_
  refine sv_aload_n (pc := 7) dX12_letWay_7 rfl rfl ?_
  refine sw_getfield (pc := 8) dX12_letWay_8 (gCX12 _ _ _ _ _) 15 (by decide) wF_X12_79 rfl rfl rfl ?_
  refine sv_icmp_ge (pc := 11) (tgt := 125) dX12_letWay_11 (by decide) (fun _ => ?_) (fun h => absurd (by decide) h)
  refine sv_iconst (pc := 125) (v := 0) dX12_letWay_125 (by decide) ?_
  refine sv_iret (pc := 126) dX12_letWay_126 rfl (le_t rfl) (le_t rfl) ?_
  refine sv_icmp_eq (pc := 594) (tgt := 1799) dL_law_594 (by decide) (fun _ => ?_) (fun h => absurd (by decide) h)
  exact kk _ _ _ (le_t rfl) (le_t rfl)
set_option maxHeartbeats 40000000 in
set_option maxRecDepth 100000 in
theorem op_11 (l : Launch) (D : va_G) (c : Nat → ClassId) (H0 : Heap) (b : Nat) (xs : Nat → Int32) (Z : sZT) (x1 x2 x3 x4 x5 x6 : Int32) (hx1 : xs 1 = x1) (hx2 : xs 2 = x2) (hx3 : xs 3 = x3) (hx4 : xs 4 = x4) (hx5 : xs 5 = x5) (hx6 : xs 6 = x6) (kk : ∀ (hp : sHp) (ce sl : Nat), ce ≤ 600000 → sl ≤ 7302250 → sV (gG l D c H0 (b, 7, xs)) mL room_1 Z 1799 [(3, .int 0), (2, .ref 106), (1, .ref 0), (0, .retAddr 0)] [] hp ce sl) : sV (gG l D c H0 (b, 7, xs)) mL room_1 Z 599 [(3, .int 0), (2, .ref 106), (1, .ref 0), (0, .retAddr 0)] [] (192, tF) 192 297215 := by
  refine sv_aload_n (pc := 599) dL_law_599 rfl rfl ?_
  refine sv_aload_nS (pc := 600) dL_law_600 rfl rfl ?_
  refine sv_iload_n (pc := 601) dL_law_601 rfl rfl ?_
  refine sv_iconst (pc := 602) (v := 1) dL_law_602 (by decide) ?_
  refine sw_iadd (pc := 603) (v := 1) dL_law_603 (by decide) ?_
  refine sw_sld (pc := 604) (v := x1) dL_law_604 (k := 1) (by decide) (by decide) rfl hx1 ?_
  refine sv_callV (pc := 605) (M' := mX11_today) (d' := 20) (C' := 0) (S' := 0) (av := [.int x1]) ?_ (gOk _ _ _ _ _) dL_law_605 (tX11_today _ _ _ _ _) ⟨wV_X11_today, wL_X11_today⟩ wM_DomainHouseLaw_63 (gCX11 _ _ _ _ _) rfl (lt_t rfl) rfl ⟨le_t rfl, le_t rfl⟩ ⟨le_t rfl, le_t rfl⟩ rfl (le_t rfl) (fun _ _ h => h)
  refine sC.of rfl (by decide) (le_t rfl) ?_
  refine sv_iload_n (pc := 0) dX11_today_0 rfl rfl ?_
  refine sv_if_ge (pc := 1) (tgt := 6) dX11_today_1 (by decide) (fun h_1 => ?_) (fun h_1 => ?_)
  · refine sv_aload_n (pc := 6) dX11_today_6 rfl rfl ?_
    refine sw_getfield (pc := 7) dX11_today_7 (gCX11 _ _ _ _ _) 3 (by decide) wF_X11_26 rfl rfl rfl ?_
    refine sw_getfield (pc := 10) dX11_today_10 (gCX10 _ _ _ _ _) 18 (by decide) wF_X11_176 rfl rfl rfl ?_
    refine sv_istore_n (pc := 13) dX11_today_13 rfl (by decide) ?_
    refine sv_aload_n (pc := 14) dX11_today_14 rfl rfl ?_
    refine sw_getfield (pc := 15) dX11_today_15 (gCX11 _ _ _ _ _) 3 (by decide) wF_X11_26 rfl rfl rfl ?_
    refine sv_iload_n (pc := 18) dX11_today_18 rfl rfl ?_
    refine sw_putfield (pc := 19) dX11_today_19 (gCX10 _ _ _ _ _) 18 (by decide) wF_X11_176 rfl rfl rfl (fun _ => rfl) (fun _ => rfl) rfl ?_
    refine sv_aload_n (pc := 22) dX11_today_22 rfl rfl ?_
    refine sw_getfield (pc := 23) dX11_today_23 (gCX11 _ _ _ _ _) 6 (by decide) wF_X11_51 rfl rfl rfl ?_
    refine sv_callV (pc := 26) (M' := mX8_tellAllAnew) (d' := 19) (C' := 0) (S' := 0) (av := []) ?_ (gOk _ _ _ _ _) dX11_today_26 (tX8_tellAllAnew _ _ _ _ _) ⟨wV_X8_tellAllAnew, wL_X8_tellAllAnew⟩ wM_X11_179 (gCX8 _ _ _ _ _) rfl (lt_t rfl) rfl ⟨le_t rfl, le_t rfl⟩ ⟨le_t rfl, le_t rfl⟩ rfl (le_t rfl) (fun _ _ h => h)
    refine sC.of rfl (by decide) (le_t rfl) ?_
    refine sv_iconst (pc := 0) (v := 0) dX8_tellAllAnew_0 (by decide) ?_
    refine sv_istore_n (pc := 1) dX8_tellAllAnew_1 rfl (by decide) ?_
    refine sv_iload_n (pc := 2) dX8_tellAllAnew_2 rfl rfl ?_
    refine sv_aload_n (pc := 3) dX8_tellAllAnew_3 rfl rfl ?_
    refine sw_getfield (pc := 4) dX8_tellAllAnew_4 (gCX8 _ _ _ _ _) 0 (by decide) wF_X8_9 rfl rfl rfl ?_
    refine sw_getfield (pc := 7) dX8_tellAllAnew_7 (gCX10 _ _ _ _ _) 15 (by decide) wF_X8_147 rfl rfl rfl ?_
    refine sv_icmp_ge (pc := 10) (tgt := 44) dX8_tellAllAnew_10 (by decide) (fun _ => ?_) (fun h => absurd (by decide) h)
    refine sv_iconst (pc := 44) (v := 0) dX8_tellAllAnew_44 (by decide) ?_
    refine sv_istore_n (pc := 45) dX8_tellAllAnew_45 rfl (by decide) ?_
    refine sv_iload_n (pc := 46) dX8_tellAllAnew_46 rfl rfl ?_
    refine sv_aload_n (pc := 47) dX8_tellAllAnew_47 rfl rfl ?_
    refine sw_getfield (pc := 48) dX8_tellAllAnew_48 (gCX8 _ _ _ _ _) 0 (by decide) wF_X8_9 rfl rfl rfl ?_
    refine sw_getfield (pc := 51) dX8_tellAllAnew_51 (gCX10 _ _ _ _ _) 15 (by decide) wF_X8_147 rfl rfl rfl ?_
    refine sv_icmp_ge (pc := 54) (tgt := 106) dX8_tellAllAnew_54 (by decide) (fun _ => ?_) (fun h => absurd (by decide) h)
    refine sv_vret (pc := 106) dX8_tellAllAnew_106 rfl (le_t rfl) (le_t rfl) ?_
    refine sv_iload_n (pc := 29) dX11_today_29 rfl rfl ?_
    refine sv_iret (pc := 30) dX11_today_30 rfl (le_t rfl) (le_t rfl) ?_
    refine sv_aload_n (pc := 608) dL_law_608 rfl rfl ?_
    refine sv_aload_nS (pc := 609) dL_law_609 rfl rfl ?_
    refine sv_iload_n (pc := 610) dL_law_610 rfl rfl ?_
    refine sv_iconst (pc := 611) (v := 1) dL_law_611 (by decide) ?_
    refine sw_iadd (pc := 612) (v := 1) dL_law_612 (by decide) ?_
    refine sw_sld (pc := 613) (v := x1) dL_law_613 (k := 1) (by decide) (by decide) rfl hx1 ?_
    refine sv_callV (pc := 614) (M' := mX12_today) (d' := 20) (C' := 0) (S' := 0) (av := [.int x1]) ?_ (gOk _ _ _ _ _) dL_law_614 (tX12_today _ _ _ _ _) ⟨wV_X12_today, wL_X12_today⟩ wM_DomainHouseLaw_66 (gCX12 _ _ _ _ _) rfl (lt_t rfl) rfl ⟨le_t rfl, le_t rfl⟩ ⟨le_t rfl, le_t rfl⟩ rfl (le_t rfl) (fun _ _ h => h)
    refine sC.of rfl (by decide) (le_t rfl) ?_
    refine sv_iload_n (pc := 0) dX12_today_0 rfl rfl ?_
    refine sv_if_ge (pc := 1) (tgt := 6) dX12_today_1 (by decide) (fun _ => ?_) (fun h => absurd h_1 h)
    refine sv_aload_n (pc := 6) dX12_today_6 rfl rfl ?_
    refine sw_getfield (pc := 7) dX12_today_7 (gCX12 _ _ _ _ _) 17 (by decide) wF_X12_85 rfl rfl rfl ?_
    refine sv_istore_n (pc := 10) dX12_today_10 rfl (by decide) ?_
    refine sv_aload_n (pc := 11) dX12_today_11 rfl rfl ?_
    refine sv_iload_n (pc := 12) dX12_today_12 rfl rfl ?_
    refine sw_putfield (pc := 13) dX12_today_13 (gCX12 _ _ _ _ _) 17 (by decide) wF_X12_85 rfl rfl rfl (fun _ => rfl) (fun _ => rfl) rfl ?_
    refine sv_aload_n (pc := 16) dX12_today_16 rfl rfl ?_
    refine sv_callV (pc := 17) (M' := mX12_rethink) (d' := 19) (C' := 0) (S' := 0) (av := []) ?_ (gOk _ _ _ _ _) dX12_today_17 (tX12_rethink _ _ _ _ _) ⟨wV_X12_rethink, wL_X12_rethink⟩ wM_X12_88 (gCX12 _ _ _ _ _) rfl (lt_t rfl) rfl ⟨le_t rfl, le_t rfl⟩ ⟨le_t rfl, le_t rfl⟩ rfl (le_t rfl) (fun _ _ h => h)
    refine sC.of rfl (by decide) (le_t rfl) ?_
    refine sv_iconst (pc := 0) (v := 0) dX12_rethink_0 (by decide) ?_
    refine sv_istore_n (pc := 1) dX12_rethink_1 rfl (by decide) ?_
    refine sv_iload_n (pc := 2) dX12_rethink_2 rfl rfl ?_
    refine sv_aload_n (pc := 3) dX12_rethink_3 rfl rfl ?_
    refine sw_getfield (pc := 4) dX12_rethink_4 (gCX12 _ _ _ _ _) 5 (by decide) wF_X12_34 rfl rfl rfl ?_
    refine sv_icmp_ge (pc := 7) (tgt := 21) dX12_rethink_7 (by decide) (fun _ => ?_) (fun h => absurd (by decide) h)
    refine sv_iconst (pc := 21) (v := 0) dX12_rethink_21 (by decide) ?_
    refine sv_istore_n (pc := 22) dX12_rethink_22 rfl (by decide) ?_
    refine sv_iload_n (pc := 23) dX12_rethink_23 rfl rfl ?_
    refine sv_aload_n (pc := 24) dX12_rethink_24 rfl rfl ?_
    refine sw_getfield (pc := 25) dX12_rethink_25 (gCX12 _ _ _ _ _) 5 (by decide) wF_X12_34 rfl rfl rfl ?_
    refine sv_icmp_ge (pc := 28) (tgt := 68) dX12_rethink_28 (by decide) (fun _ => ?_) (fun h => absurd (by decide) h)
    refine sv_vret (pc := 68) dX12_rethink_68 rfl (le_t rfl) (le_t rfl) ?_
    refine sv_iload_n (pc := 20) dX12_today_20 rfl rfl ?_
    refine sv_iret (pc := 21) dX12_today_21 rfl (le_t rfl) (le_t rfl) ?_
    refine sv_icmp_eq (pc := 617) (tgt := 1799) dL_law_617 (by decide) (fun _ => ?_) (fun h => absurd (by decide) h)
    exact kk _ _ _ (le_t rfl) (le_t rfl)
  refine sv_iconst (pc := 4) (v := (-1)) dX11_today_4 (by decide) ?_
  refine sv_iret (pc := 5) dX11_today_5 rfl (le_t rfl) (le_t rfl) ?_
  refine sv_aload_n (pc := 608) dL_law_608 rfl rfl ?_
  refine sv_aload_nS (pc := 609) dL_law_609 rfl rfl ?_
  refine sv_iload_n (pc := 610) dL_law_610 rfl rfl ?_
  refine sv_iconst (pc := 611) (v := 1) dL_law_611 (by decide) ?_
  refine sw_iadd (pc := 612) (v := 1) dL_law_612 (by decide) ?_
  refine sw_sld (pc := 613) (v := x1) dL_law_613 (k := 1) (by decide) (by decide) rfl hx1 ?_
  refine sv_callV (pc := 614) (M' := mX12_today) (d' := 20) (C' := 0) (S' := 0) (av := [.int x1]) ?_ (gOk _ _ _ _ _) dL_law_614 (tX12_today _ _ _ _ _) ⟨wV_X12_today, wL_X12_today⟩ wM_DomainHouseLaw_66 (gCX12 _ _ _ _ _) rfl (lt_t rfl) rfl ⟨le_t rfl, le_t rfl⟩ ⟨le_t rfl, le_t rfl⟩ rfl (le_t rfl) (fun _ _ h => h)
  refine sC.of rfl (by decide) (le_t rfl) ?_
  refine sv_iload_n (pc := 0) dX12_today_0 rfl rfl ?_
  refine sv_if_ge (pc := 1) (tgt := 6) dX12_today_1 (by decide) (fun h => absurd h h_1) (fun _ => ?_)
  refine sv_iconst (pc := 4) (v := (-1)) dX12_today_4 (by decide) ?_
  refine sv_iret (pc := 5) dX12_today_5 rfl (le_t rfl) (le_t rfl) ?_
  refine sv_icmp_eq (pc := 617) (tgt := 1799) dL_law_617 (by decide) (fun _ => ?_) (fun h => absurd (by decide) h)
  exact kk _ _ _ (le_t rfl) (le_t rfl)
set_option maxHeartbeats 40000000 in
set_option maxRecDepth 100000 in
theorem op_12 (l : Launch) (D : va_G) (c : Nat → ClassId) (H0 : Heap) (b : Nat) (xs : Nat → Int32) (Z : sZT) (x1 x2 x3 x4 x5 x6 : Int32) (hx1 : xs 1 = x1) (hx2 : xs 2 = x2) (hx3 : xs 3 = x3) (hx4 : xs 4 = x4) (hx5 : xs 5 = x5) (hx6 : xs 6 = x6) (kk : ∀ (hp : sHp) (ce sl : Nat), ce ≤ 600000 → sl ≤ 7302250 → sV (gG l D c H0 (b, 7, xs)) mL room_1 Z 1799 [(3, .int 0), (2, .ref 106), (1, .ref 0), (0, .retAddr 0)] [] hp ce sl) : sV (gG l D c H0 (b, 7, xs)) mL room_1 Z 622 [(3, .int 0), (2, .ref 106), (1, .ref 0), (0, .retAddr 0)] [] (192, tF) 192 297215 := by
  refine sv_aload_n (pc := 622) dL_law_622 rfl rfl ?_
  refine sv_aload_nS (pc := 623) dL_law_623 rfl rfl ?_
  refine sv_iload_n (pc := 624) dL_law_624 rfl rfl ?_
  refine sv_iconst (pc := 625) (v := 1) dL_law_625 (by decide) ?_
  refine sw_iadd (pc := 626) (v := 1) dL_law_626 (by decide) ?_
  refine sw_sld (pc := 627) (v := x1) dL_law_627 (k := 1) (by decide) (by decide) rfl hx1 ?_
  refine sv_aload_nS (pc := 628) dL_law_628 rfl rfl ?_
  refine sv_iload_n (pc := 629) dL_law_629 rfl rfl ?_
  refine sv_iconst (pc := 630) (v := 2) dL_law_630 (by decide) ?_
  refine sw_iadd (pc := 631) (v := 2) dL_law_631 (by decide) ?_
  refine sw_sld (pc := 632) (v := x2) dL_law_632 (k := 2) (by decide) (by decide) rfl hx2 ?_
  refine sv_aload_nS (pc := 633) dL_law_633 rfl rfl ?_
  refine sv_iload_n (pc := 634) dL_law_634 rfl rfl ?_
  refine sv_iconst (pc := 635) (v := 3) dL_law_635 (by decide) ?_
  refine sw_iadd (pc := 636) (v := 3) dL_law_636 (by decide) ?_
  refine sw_sld (pc := 637) (v := x3) dL_law_637 (k := 3) (by decide) (by decide) rfl hx3 ?_
  refine sv_aload_nS (pc := 638) dL_law_638 rfl rfl ?_
  refine sv_iload_n (pc := 639) dL_law_639 rfl rfl ?_
  refine sv_iconst (pc := 640) (v := 4) dL_law_640 (by decide) ?_
  refine sw_iadd (pc := 641) (v := 4) dL_law_641 (by decide) ?_
  refine sw_sld (pc := 642) (v := x4) dL_law_642 (k := 4) (by decide) (by decide) rfl hx4 ?_
  refine sv_aload_nS (pc := 643) dL_law_643 rfl rfl ?_
  refine sv_iload_n (pc := 644) dL_law_644 rfl rfl ?_
  refine sv_iconst (pc := 645) (v := 5) dL_law_645 (by decide) ?_
  refine sw_iadd (pc := 646) (v := 5) dL_law_646 (by decide) ?_
  refine sw_sld (pc := 647) (v := x5) dL_law_647 (k := 5) (by decide) (by decide) rfl hx5 ?_
  refine sv_aload_nS (pc := 648) dL_law_648 rfl rfl ?_
  refine sv_iload_n (pc := 649) dL_law_649 rfl rfl ?_
  refine sv_bipush (pc := 650) (v := 6) dL_law_650 (by decide) ?_
  refine sw_iadd (pc := 652) (v := 6) dL_law_652 (by decide) ?_
  refine sw_sld (pc := 653) (v := x6) dL_law_653 (k := 6) (by decide) (by decide) rfl hx6 ?_
  refine sv_callV (pc := 654) (M' := mX11_right) (d' := 20) (C' := 0) (S' := 0) (av := [.int x1, .int x2, .int x3, .int x4, .int x5, .int x6]) ?_ (gOk _ _ _ _ _) dL_law_654 (tX11_right _ _ _ _ _) ⟨wV_X11_right, wL_X11_right⟩ wM_DomainHouseLaw_67 (gCX11 _ _ _ _ _) rfl (lt_t rfl) rfl ⟨le_t rfl, le_t rfl⟩ ⟨le_t rfl, le_t rfl⟩ rfl (le_t rfl) (fun _ _ h => h)
  refine sC.of rfl (by decide) (le_t rfl) ?_
  refine sv_aload_n (pc := 0) dX11_right_0 rfl rfl ?_
  refine sv_iload_n (pc := 1) dX11_right_1 rfl rfl ?_
  refine sv_callV (pc := 2) (M' := mX11_isPrefix) (d' := 19) (C' := 0) (S' := 0) (av := [.int x1]) ?_ (gOk _ _ _ _ _) dX11_right_2 (tX11_isPrefix _ _ _ _ _) ⟨wV_X11_isPrefix, wL_X11_isPrefix⟩ wM_X11_182 (gCX11 _ _ _ _ _) rfl (lt_t rfl) rfl ⟨le_t rfl, le_t rfl⟩ ⟨le_t rfl, le_t rfl⟩ rfl (le_t rfl) (fun _ _ h => h)
  refine sC.of rfl (by decide) (le_t rfl) ?_
  refine sv_iload_n (pc := 0) dX11_isPrefix_0 rfl rfl ?_
  refine sv_if_lt (pc := 1) (tgt := 19) dX11_isPrefix_1 (by decide) (fun h_1 => ?_) (fun h_1 => ?_)
  · refine sv_iconst (pc := 19) (v := 0) dX11_isPrefix_19 (by decide) ?_
    refine sv_zret (pc := 20) dX11_isPrefix_20 rfl (by decide) (le_t rfl) (le_t rfl) ?_
    refine sv_if_eq (pc := 5) (tgt := 35) dX11_right_5 (by decide) (fun _ => ?_) (fun h => absurd (by decide) h)
    refine sv_iconst (pc := 35) (v := (-1)) dX11_right_35 (by decide) ?_
    refine sv_iret (pc := 36) dX11_right_36 rfl (le_t rfl) (le_t rfl) ?_
    refine sv_aload_n (pc := 657) dL_law_657 rfl rfl ?_
    refine sv_aload_nS (pc := 658) dL_law_658 rfl rfl ?_
    refine sv_iload_n (pc := 659) dL_law_659 rfl rfl ?_
    refine sv_iconst (pc := 660) (v := 1) dL_law_660 (by decide) ?_
    refine sw_iadd (pc := 661) (v := 1) dL_law_661 (by decide) ?_
    refine sw_sld (pc := 662) (v := x1) dL_law_662 (k := 1) (by decide) (by decide) rfl hx1 ?_
    refine sv_aload_nS (pc := 663) dL_law_663 rfl rfl ?_
    refine sv_iload_n (pc := 664) dL_law_664 rfl rfl ?_
    refine sv_iconst (pc := 665) (v := 2) dL_law_665 (by decide) ?_
    refine sw_iadd (pc := 666) (v := 2) dL_law_666 (by decide) ?_
    refine sw_sld (pc := 667) (v := x2) dL_law_667 (k := 2) (by decide) (by decide) rfl hx2 ?_
    refine sv_aload_nS (pc := 668) dL_law_668 rfl rfl ?_
    refine sv_iload_n (pc := 669) dL_law_669 rfl rfl ?_
    refine sv_iconst (pc := 670) (v := 3) dL_law_670 (by decide) ?_
    refine sw_iadd (pc := 671) (v := 3) dL_law_671 (by decide) ?_
    refine sw_sld (pc := 672) (v := x3) dL_law_672 (k := 3) (by decide) (by decide) rfl hx3 ?_
    refine sv_aload_nS (pc := 673) dL_law_673 rfl rfl ?_
    refine sv_iload_n (pc := 674) dL_law_674 rfl rfl ?_
    refine sv_iconst (pc := 675) (v := 4) dL_law_675 (by decide) ?_
    refine sw_iadd (pc := 676) (v := 4) dL_law_676 (by decide) ?_
    refine sw_sld (pc := 677) (v := x4) dL_law_677 (k := 4) (by decide) (by decide) rfl hx4 ?_
    refine sv_aload_nS (pc := 678) dL_law_678 rfl rfl ?_
    refine sv_iload_n (pc := 679) dL_law_679 rfl rfl ?_
    refine sv_iconst (pc := 680) (v := 5) dL_law_680 (by decide) ?_
    refine sw_iadd (pc := 681) (v := 5) dL_law_681 (by decide) ?_
    refine sw_sld (pc := 682) (v := x5) dL_law_682 (k := 5) (by decide) (by decide) rfl hx5 ?_
    refine sv_aload_nS (pc := 683) dL_law_683 rfl rfl ?_
    refine sv_iload_n (pc := 684) dL_law_684 rfl rfl ?_
    refine sv_bipush (pc := 685) (v := 6) dL_law_685 (by decide) ?_
    refine sw_iadd (pc := 687) (v := 6) dL_law_687 (by decide) ?_
    refine sw_sld (pc := 688) (v := x6) dL_law_688 (k := 6) (by decide) (by decide) rfl hx6 ?_
    refine sv_callV (pc := 689) (M' := mX12_right) (d' := 20) (C' := 0) (S' := 0) (av := [.int x1, .int x2, .int x3, .int x4, .int x5, .int x6]) ?_ (gOk _ _ _ _ _) dL_law_689 (tX12_right _ _ _ _ _) ⟨wV_X12_right, wL_X12_right⟩ wM_DomainHouseLaw_71 (gCX12 _ _ _ _ _) rfl (lt_t rfl) rfl ⟨le_t rfl, le_t rfl⟩ ⟨le_t rfl, le_t rfl⟩ rfl (le_t rfl) (fun _ _ h => h)
    refine sC.of rfl (by decide) (le_t rfl) ?_
    refine sv_aload_n (pc := 0) dX12_right_0 rfl rfl ?_
    refine sv_iload_n (pc := 1) dX12_right_1 rfl rfl ?_
    refine sv_callV (pc := 2) (M' := mX12_isPrefix) (d' := 19) (C' := 0) (S' := 0) (av := [.int x1]) ?_ (gOk _ _ _ _ _) dX12_right_2 (tX12_isPrefix _ _ _ _ _) ⟨wV_X12_isPrefix, wL_X12_isPrefix⟩ wM_X12_92 (gCX12 _ _ _ _ _) rfl (lt_t rfl) rfl ⟨le_t rfl, le_t rfl⟩ ⟨le_t rfl, le_t rfl⟩ rfl (le_t rfl) (fun _ _ h => h)
    refine sC.of rfl (by decide) (le_t rfl) ?_
    refine sv_iload_n (pc := 0) dX12_isPrefix_0 rfl rfl ?_
    refine sv_iconst (pc := 1) (v := 0) dX12_isPrefix_1 (by decide) ?_
    refine sv_aload_n (pc := 2) dX12_isPrefix_2 rfl rfl ?_
    refine sw_getfield (pc := 3) dX12_isPrefix_3 (gCX12 _ _ _ _ _) 2 (by decide) wF_X12_15 rfl rfl rfl ?_
    refine sv_iconst (pc := 6) (v := 1) dX12_isPrefix_6 (by decide) ?_
    refine sw_isub (pc := 7) (v := (-1)) dX12_isPrefix_7 (by decide) ?_
    refine sv_callS (pc := 8) (M' := mX12_in) (d' := 18) (C' := 0) (S' := 0) (av := [.int x1, .int 0, .int (-1)]) ?_ (gOk _ _ _ _ _) dX12_isPrefix_8 (tX12_in _ _ _ _ _) wS_X12_in wM_X12_18 ⟨le_t rfl, le_t rfl⟩ ⟨le_t rfl, le_t rfl⟩ rfl (le_t rfl) (fun _ _ h => h)
    refine sC.of rfl (by decide) (le_t rfl) ?_
    refine sv_iload_n (pc := 0) dX12_in_0 rfl rfl ?_
    refine sv_iload_n (pc := 1) dX12_in_1 rfl rfl ?_
    refine sv_icmp_lt (pc := 2) (tgt := 14) dX12_in_2 (by decide) (fun _ => ?_) (fun h => absurd h_1 h)
    refine sv_iconst (pc := 14) (v := 0) dX12_in_14 (by decide) ?_
    refine sv_zret (pc := 15) dX12_in_15 rfl (by decide) (le_t rfl) (le_t rfl) ?_
    refine sv_zret (pc := 11) dX12_isPrefix_11 rfl (by decide) (le_t rfl) (le_t rfl) ?_
    refine sv_if_eq (pc := 5) (tgt := 48) dX12_right_5 (by decide) (fun _ => ?_) (fun h => absurd (by decide) h)
    refine sv_iconst (pc := 48) (v := (-1)) dX12_right_48 (by decide) ?_
    refine sv_iret (pc := 49) dX12_right_49 rfl (le_t rfl) (le_t rfl) ?_
    refine sv_icmp_eq (pc := 692) (tgt := 1799) dL_law_692 (by decide) (fun _ => ?_) (fun h => absurd (by decide) h)
    exact kk _ _ _ (le_t rfl) (le_t rfl)
  refine sv_iload_n (pc := 4) dX11_isPrefix_4 rfl rfl ?_
  refine sv_aload_n (pc := 5) dX11_isPrefix_5 rfl rfl ?_
  refine sw_getfield (pc := 6) dX11_isPrefix_6 (gCX11 _ _ _ _ _) 3 (by decide) wF_X11_26 rfl rfl rfl ?_
  refine sw_getfield (pc := 9) dX11_isPrefix_9 (gCX10 _ _ _ _ _) 14 (by decide) wF_X11_92 rfl rfl rfl ?_
  refine sv_icmp_ge (pc := 12) (tgt := 19) dX11_isPrefix_12 (by decide) (fun _ => ?_) (fun h => False.elim (by have a0 := Int32.le_iff_toInt_le.mp (Int32.not_lt.mp h_1); have a1 := Int32.lt_iff_toInt_lt.mp (Int32.not_le.mp h); have e0 : (0 : Int32).toInt = 0 := (by decide); omega))
  refine sv_iconst (pc := 19) (v := 0) dX11_isPrefix_19 (by decide) ?_
  refine sv_zret (pc := 20) dX11_isPrefix_20 rfl (by decide) (le_t rfl) (le_t rfl) ?_
  refine sv_if_eq (pc := 5) (tgt := 35) dX11_right_5 (by decide) (fun _ => ?_) (fun h => absurd (by decide) h)
  refine sv_iconst (pc := 35) (v := (-1)) dX11_right_35 (by decide) ?_
  refine sv_iret (pc := 36) dX11_right_36 rfl (le_t rfl) (le_t rfl) ?_
  refine sv_aload_n (pc := 657) dL_law_657 rfl rfl ?_
  refine sv_aload_nS (pc := 658) dL_law_658 rfl rfl ?_
  refine sv_iload_n (pc := 659) dL_law_659 rfl rfl ?_
  refine sv_iconst (pc := 660) (v := 1) dL_law_660 (by decide) ?_
  refine sw_iadd (pc := 661) (v := 1) dL_law_661 (by decide) ?_
  refine sw_sld (pc := 662) (v := x1) dL_law_662 (k := 1) (by decide) (by decide) rfl hx1 ?_
  refine sv_aload_nS (pc := 663) dL_law_663 rfl rfl ?_
  refine sv_iload_n (pc := 664) dL_law_664 rfl rfl ?_
  refine sv_iconst (pc := 665) (v := 2) dL_law_665 (by decide) ?_
  refine sw_iadd (pc := 666) (v := 2) dL_law_666 (by decide) ?_
  refine sw_sld (pc := 667) (v := x2) dL_law_667 (k := 2) (by decide) (by decide) rfl hx2 ?_
  refine sv_aload_nS (pc := 668) dL_law_668 rfl rfl ?_
  refine sv_iload_n (pc := 669) dL_law_669 rfl rfl ?_
  refine sv_iconst (pc := 670) (v := 3) dL_law_670 (by decide) ?_
  refine sw_iadd (pc := 671) (v := 3) dL_law_671 (by decide) ?_
  refine sw_sld (pc := 672) (v := x3) dL_law_672 (k := 3) (by decide) (by decide) rfl hx3 ?_
  refine sv_aload_nS (pc := 673) dL_law_673 rfl rfl ?_
  refine sv_iload_n (pc := 674) dL_law_674 rfl rfl ?_
  refine sv_iconst (pc := 675) (v := 4) dL_law_675 (by decide) ?_
  refine sw_iadd (pc := 676) (v := 4) dL_law_676 (by decide) ?_
  refine sw_sld (pc := 677) (v := x4) dL_law_677 (k := 4) (by decide) (by decide) rfl hx4 ?_
  refine sv_aload_nS (pc := 678) dL_law_678 rfl rfl ?_
  refine sv_iload_n (pc := 679) dL_law_679 rfl rfl ?_
  refine sv_iconst (pc := 680) (v := 5) dL_law_680 (by decide) ?_
  refine sw_iadd (pc := 681) (v := 5) dL_law_681 (by decide) ?_
  refine sw_sld (pc := 682) (v := x5) dL_law_682 (k := 5) (by decide) (by decide) rfl hx5 ?_
  refine sv_aload_nS (pc := 683) dL_law_683 rfl rfl ?_
  refine sv_iload_n (pc := 684) dL_law_684 rfl rfl ?_
  refine sv_bipush (pc := 685) (v := 6) dL_law_685 (by decide) ?_
  refine sw_iadd (pc := 687) (v := 6) dL_law_687 (by decide) ?_
  refine sw_sld (pc := 688) (v := x6) dL_law_688 (k := 6) (by decide) (by decide) rfl hx6 ?_
  refine sv_callV (pc := 689) (M' := mX12_right) (d' := 20) (C' := 0) (S' := 0) (av := [.int x1, .int x2, .int x3, .int x4, .int x5, .int x6]) ?_ (gOk _ _ _ _ _) dL_law_689 (tX12_right _ _ _ _ _) ⟨wV_X12_right, wL_X12_right⟩ wM_DomainHouseLaw_71 (gCX12 _ _ _ _ _) rfl (lt_t rfl) rfl ⟨le_t rfl, le_t rfl⟩ ⟨le_t rfl, le_t rfl⟩ rfl (le_t rfl) (fun _ _ h => h)
  refine sC.of rfl (by decide) (le_t rfl) ?_
  refine sv_aload_n (pc := 0) dX12_right_0 rfl rfl ?_
  refine sv_iload_n (pc := 1) dX12_right_1 rfl rfl ?_
  refine sv_callV (pc := 2) (M' := mX12_isPrefix) (d' := 19) (C' := 0) (S' := 0) (av := [.int x1]) ?_ (gOk _ _ _ _ _) dX12_right_2 (tX12_isPrefix _ _ _ _ _) ⟨wV_X12_isPrefix, wL_X12_isPrefix⟩ wM_X12_92 (gCX12 _ _ _ _ _) rfl (lt_t rfl) rfl ⟨le_t rfl, le_t rfl⟩ ⟨le_t rfl, le_t rfl⟩ rfl (le_t rfl) (fun _ _ h => h)
  refine sC.of rfl (by decide) (le_t rfl) ?_
  refine sv_iload_n (pc := 0) dX12_isPrefix_0 rfl rfl ?_
  refine sv_iconst (pc := 1) (v := 0) dX12_isPrefix_1 (by decide) ?_
  refine sv_aload_n (pc := 2) dX12_isPrefix_2 rfl rfl ?_
  refine sw_getfield (pc := 3) dX12_isPrefix_3 (gCX12 _ _ _ _ _) 2 (by decide) wF_X12_15 rfl rfl rfl ?_
  refine sv_iconst (pc := 6) (v := 1) dX12_isPrefix_6 (by decide) ?_
  refine sw_isub (pc := 7) (v := (-1)) dX12_isPrefix_7 (by decide) ?_
  refine sv_callS (pc := 8) (M' := mX12_in) (d' := 18) (C' := 0) (S' := 0) (av := [.int x1, .int 0, .int (-1)]) ?_ (gOk _ _ _ _ _) dX12_isPrefix_8 (tX12_in _ _ _ _ _) wS_X12_in wM_X12_18 ⟨le_t rfl, le_t rfl⟩ ⟨le_t rfl, le_t rfl⟩ rfl (le_t rfl) (fun _ _ h => h)
  refine sC.of rfl (by decide) (le_t rfl) ?_
  refine sv_iload_n (pc := 0) dX12_in_0 rfl rfl ?_
  refine sv_iload_n (pc := 1) dX12_in_1 rfl rfl ?_
  refine sv_icmp_lt (pc := 2) (tgt := 14) dX12_in_2 (by decide) (fun h => absurd h h_1) (fun _ => ?_)
  refine sv_iload_n (pc := 5) dX12_in_5 rfl rfl ?_
  refine sv_iload_n (pc := 6) dX12_in_6 rfl rfl ?_
  refine sv_icmp_gt (pc := 7) (tgt := 14) dX12_in_7 (by decide) (fun _ => ?_) (fun h => False.elim (by have a0 := Int32.le_iff_toInt_le.mp (Int32.not_lt.mp h_1); have a1 := Int32.le_iff_toInt_le.mp (Int32.not_lt.mp h); have e0 : (-1 : Int32).toInt = -1 := (by decide); have e1 : (0 : Int32).toInt = 0 := (by decide); omega))
  refine sv_iconst (pc := 14) (v := 0) dX12_in_14 (by decide) ?_
  refine sv_zret (pc := 15) dX12_in_15 rfl (by decide) (le_t rfl) (le_t rfl) ?_
  refine sv_zret (pc := 11) dX12_isPrefix_11 rfl (by decide) (le_t rfl) (le_t rfl) ?_
  refine sv_if_eq (pc := 5) (tgt := 48) dX12_right_5 (by decide) (fun _ => ?_) (fun h => absurd (by decide) h)
  refine sv_iconst (pc := 48) (v := (-1)) dX12_right_48 (by decide) ?_
  refine sv_iret (pc := 49) dX12_right_49 rfl (le_t rfl) (le_t rfl) ?_
  refine sv_icmp_eq (pc := 692) (tgt := 1799) dL_law_692 (by decide) (fun _ => ?_) (fun h => absurd (by decide) h)
  exact kk _ _ _ (le_t rfl) (le_t rfl)
set_option maxHeartbeats 40000000 in
set_option maxRecDepth 100000 in
theorem op_13 (l : Launch) (D : va_G) (c : Nat → ClassId) (H0 : Heap) (b : Nat) (xs : Nat → Int32) (Z : sZT) (x1 x2 x3 x4 x5 x6 : Int32) (hx1 : xs 1 = x1) (hx2 : xs 2 = x2) (hx3 : xs 3 = x3) (hx4 : xs 4 = x4) (hx5 : xs 5 = x5) (hx6 : xs 6 = x6) (kk : ∀ (hp : sHp) (ce sl : Nat), ce ≤ 600000 → sl ≤ 7302250 → sV (gG l D c H0 (b, 7, xs)) mL room_1 Z 1799 [(3, .int 0), (2, .ref 106), (1, .ref 0), (0, .retAddr 0)] [] hp ce sl) : sV (gG l D c H0 (b, 7, xs)) mL room_1 Z 697 [(3, .int 0), (2, .ref 106), (1, .ref 0), (0, .retAddr 0)] [] (192, tF) 192 297215 := by
  refine sv_aload_n (pc := 697) dL_law_697 rfl rfl ?_
  refine sv_aload_nS (pc := 698) dL_law_698 rfl rfl ?_
  refine sv_iload_n (pc := 699) dL_law_699 rfl rfl ?_
  refine sv_iconst (pc := 700) (v := 1) dL_law_700 (by decide) ?_
  refine sw_iadd (pc := 701) (v := 1) dL_law_701 (by decide) ?_
  refine sw_sld (pc := 702) (v := x1) dL_law_702 (k := 1) (by decide) (by decide) rfl hx1 ?_
  refine sv_aload_nS (pc := 703) dL_law_703 rfl rfl ?_
  refine sv_iload_n (pc := 704) dL_law_704 rfl rfl ?_
  refine sv_iconst (pc := 705) (v := 2) dL_law_705 (by decide) ?_
  refine sw_iadd (pc := 706) (v := 2) dL_law_706 (by decide) ?_
  refine sw_sld (pc := 707) (v := x2) dL_law_707 (k := 2) (by decide) (by decide) rfl hx2 ?_
  refine sv_callV (pc := 708) (M' := mX11_strike) (d' := 20) (C' := 0) (S' := 0) (av := [.int x1, .int x2]) ?_ (gOk _ _ _ _ _) dL_law_708 (tX11_strike _ _ _ _ _) ⟨wV_X11_strike, wL_X11_strike⟩ wM_DomainHouseLaw_72 (gCX11 _ _ _ _ _) rfl (lt_t rfl) rfl ⟨le_t rfl, le_t rfl⟩ ⟨le_t rfl, le_t rfl⟩ rfl (le_t rfl) (fun _ _ h => h)
  refine sC.of rfl (by decide) (le_t rfl) ?_
  refine sv_iload_n (pc := 0) dX11_strike_0 rfl rfl ?_
  refine sv_if_lt (pc := 1) (tgt := 28) dX11_strike_1 (by decide) (fun h_1 => ?_) (fun h_1 => ?_)
  · refine sv_iconst (pc := 28) (v := (-1)) dX11_strike_28 (by decide) ?_
    refine sv_iret (pc := 29) dX11_strike_29 rfl (le_t rfl) (le_t rfl) ?_
    refine sv_aload_n (pc := 711) dL_law_711 rfl rfl ?_
    refine sv_aload_nS (pc := 712) dL_law_712 rfl rfl ?_
    refine sv_iload_n (pc := 713) dL_law_713 rfl rfl ?_
    refine sv_iconst (pc := 714) (v := 1) dL_law_714 (by decide) ?_
    refine sw_iadd (pc := 715) (v := 1) dL_law_715 (by decide) ?_
    refine sw_sld (pc := 716) (v := x1) dL_law_716 (k := 1) (by decide) (by decide) rfl hx1 ?_
    refine sv_aload_nS (pc := 717) dL_law_717 rfl rfl ?_
    refine sv_iload_n (pc := 718) dL_law_718 rfl rfl ?_
    refine sv_iconst (pc := 719) (v := 2) dL_law_719 (by decide) ?_
    refine sw_iadd (pc := 720) (v := 2) dL_law_720 (by decide) ?_
    refine sw_sld (pc := 721) (v := x2) dL_law_721 (k := 2) (by decide) (by decide) rfl hx2 ?_
    refine sv_callV (pc := 722) (M' := mX12_strike) (d' := 20) (C' := 0) (S' := 0) (av := [.int x1, .int x2]) ?_ (gOk _ _ _ _ _) dL_law_722 (tX12_strike _ _ _ _ _) ⟨wV_X12_strike, wL_X12_strike⟩ wM_DomainHouseLaw_75 (gCX12 _ _ _ _ _) rfl (lt_t rfl) rfl ⟨le_t rfl, le_t rfl⟩ ⟨le_t rfl, le_t rfl⟩ rfl (le_t rfl) (fun _ _ h => h)
    refine sC.of rfl (by decide) (le_t rfl) ?_
    refine sv_iload_n (pc := 0) dX12_strike_0 rfl rfl ?_
    refine sv_iconst (pc := 1) (v := 0) dX12_strike_1 (by decide) ?_
    refine sv_aload_n (pc := 2) dX12_strike_2 rfl rfl ?_
    refine sw_getfield (pc := 3) dX12_strike_3 (gCX12 _ _ _ _ _) 18 (by decide) wF_X12_95 rfl rfl rfl ?_
    refine sv_iconst (pc := 6) (v := 1) dX12_strike_6 (by decide) ?_
    refine sw_isub (pc := 7) (v := (-1)) dX12_strike_7 (by decide) ?_
    refine sv_callS (pc := 8) (M' := mX12_in) (d' := 19) (C' := 0) (S' := 0) (av := [.int x1, .int 0, .int (-1)]) ?_ (gOk _ _ _ _ _) dX12_strike_8 (tX12_in _ _ _ _ _) wS_X12_in wM_X12_18 ⟨le_t rfl, le_t rfl⟩ ⟨le_t rfl, le_t rfl⟩ rfl (le_t rfl) (fun _ _ h => h)
    refine sC.of rfl (by decide) (le_t rfl) ?_
    refine sv_iload_n (pc := 0) dX12_in_0 rfl rfl ?_
    refine sv_iload_n (pc := 1) dX12_in_1 rfl rfl ?_
    refine sv_icmp_lt (pc := 2) (tgt := 14) dX12_in_2 (by decide) (fun _ => ?_) (fun h => absurd h_1 h)
    refine sv_iconst (pc := 14) (v := 0) dX12_in_14 (by decide) ?_
    refine sv_zret (pc := 15) dX12_in_15 rfl (by decide) (le_t rfl) (le_t rfl) ?_
    refine sv_if_eq (pc := 11) (tgt := 24) dX12_strike_11 (by decide) (fun _ => ?_) (fun h => absurd (by decide) h)
    refine sv_iconst (pc := 24) (v := (-1)) dX12_strike_24 (by decide) ?_
    refine sv_iret (pc := 25) dX12_strike_25 rfl (le_t rfl) (le_t rfl) ?_
    refine sv_icmp_eq (pc := 725) (tgt := 1799) dL_law_725 (by decide) (fun _ => ?_) (fun h => absurd (by decide) h)
    exact kk _ _ _ (le_t rfl) (le_t rfl)
  refine sv_iload_n (pc := 4) dX11_strike_4 rfl rfl ?_
  refine sv_aload_n (pc := 5) dX11_strike_5 rfl rfl ?_
  refine sw_getfield (pc := 6) dX11_strike_6 (gCX11 _ _ _ _ _) 3 (by decide) wF_X11_26 rfl rfl rfl ?_
  refine sw_getfield (pc := 9) dX11_strike_9 (gCX10 _ _ _ _ _) 17 (by decide) wF_X11_188 rfl rfl rfl ?_
  refine sv_icmp_ge (pc := 12) (tgt := 28) dX11_strike_12 (by decide) (fun _ => ?_) (fun h => False.elim (by have a0 := Int32.le_iff_toInt_le.mp (Int32.not_lt.mp h_1); have a1 := Int32.lt_iff_toInt_lt.mp (Int32.not_le.mp h); have e0 : (0 : Int32).toInt = 0 := (by decide); omega))
  refine sv_iconst (pc := 28) (v := (-1)) dX11_strike_28 (by decide) ?_
  refine sv_iret (pc := 29) dX11_strike_29 rfl (le_t rfl) (le_t rfl) ?_
  refine sv_aload_n (pc := 711) dL_law_711 rfl rfl ?_
  refine sv_aload_nS (pc := 712) dL_law_712 rfl rfl ?_
  refine sv_iload_n (pc := 713) dL_law_713 rfl rfl ?_
  refine sv_iconst (pc := 714) (v := 1) dL_law_714 (by decide) ?_
  refine sw_iadd (pc := 715) (v := 1) dL_law_715 (by decide) ?_
  refine sw_sld (pc := 716) (v := x1) dL_law_716 (k := 1) (by decide) (by decide) rfl hx1 ?_
  refine sv_aload_nS (pc := 717) dL_law_717 rfl rfl ?_
  refine sv_iload_n (pc := 718) dL_law_718 rfl rfl ?_
  refine sv_iconst (pc := 719) (v := 2) dL_law_719 (by decide) ?_
  refine sw_iadd (pc := 720) (v := 2) dL_law_720 (by decide) ?_
  refine sw_sld (pc := 721) (v := x2) dL_law_721 (k := 2) (by decide) (by decide) rfl hx2 ?_
  refine sv_callV (pc := 722) (M' := mX12_strike) (d' := 20) (C' := 0) (S' := 0) (av := [.int x1, .int x2]) ?_ (gOk _ _ _ _ _) dL_law_722 (tX12_strike _ _ _ _ _) ⟨wV_X12_strike, wL_X12_strike⟩ wM_DomainHouseLaw_75 (gCX12 _ _ _ _ _) rfl (lt_t rfl) rfl ⟨le_t rfl, le_t rfl⟩ ⟨le_t rfl, le_t rfl⟩ rfl (le_t rfl) (fun _ _ h => h)
  refine sC.of rfl (by decide) (le_t rfl) ?_
  refine sv_iload_n (pc := 0) dX12_strike_0 rfl rfl ?_
  refine sv_iconst (pc := 1) (v := 0) dX12_strike_1 (by decide) ?_
  refine sv_aload_n (pc := 2) dX12_strike_2 rfl rfl ?_
  refine sw_getfield (pc := 3) dX12_strike_3 (gCX12 _ _ _ _ _) 18 (by decide) wF_X12_95 rfl rfl rfl ?_
  refine sv_iconst (pc := 6) (v := 1) dX12_strike_6 (by decide) ?_
  refine sw_isub (pc := 7) (v := (-1)) dX12_strike_7 (by decide) ?_
  refine sv_callS (pc := 8) (M' := mX12_in) (d' := 19) (C' := 0) (S' := 0) (av := [.int x1, .int 0, .int (-1)]) ?_ (gOk _ _ _ _ _) dX12_strike_8 (tX12_in _ _ _ _ _) wS_X12_in wM_X12_18 ⟨le_t rfl, le_t rfl⟩ ⟨le_t rfl, le_t rfl⟩ rfl (le_t rfl) (fun _ _ h => h)
  refine sC.of rfl (by decide) (le_t rfl) ?_
  refine sv_iload_n (pc := 0) dX12_in_0 rfl rfl ?_
  refine sv_iload_n (pc := 1) dX12_in_1 rfl rfl ?_
  refine sv_icmp_lt (pc := 2) (tgt := 14) dX12_in_2 (by decide) (fun h => absurd h h_1) (fun _ => ?_)
  refine sv_iload_n (pc := 5) dX12_in_5 rfl rfl ?_
  refine sv_iload_n (pc := 6) dX12_in_6 rfl rfl ?_
  refine sv_icmp_gt (pc := 7) (tgt := 14) dX12_in_7 (by decide) (fun _ => ?_) (fun h => False.elim (by have a0 := Int32.le_iff_toInt_le.mp (Int32.not_lt.mp h_1); have a1 := Int32.le_iff_toInt_le.mp (Int32.not_lt.mp h); have e0 : (-1 : Int32).toInt = -1 := (by decide); have e1 : (0 : Int32).toInt = 0 := (by decide); omega))
  refine sv_iconst (pc := 14) (v := 0) dX12_in_14 (by decide) ?_
  refine sv_zret (pc := 15) dX12_in_15 rfl (by decide) (le_t rfl) (le_t rfl) ?_
  refine sv_if_eq (pc := 11) (tgt := 24) dX12_strike_11 (by decide) (fun _ => ?_) (fun h => absurd (by decide) h)
  refine sv_iconst (pc := 24) (v := (-1)) dX12_strike_24 (by decide) ?_
  refine sv_iret (pc := 25) dX12_strike_25 rfl (le_t rfl) (le_t rfl) ?_
  refine sv_icmp_eq (pc := 725) (tgt := 1799) dL_law_725 (by decide) (fun _ => ?_) (fun h => absurd (by decide) h)
  exact kk _ _ _ (le_t rfl) (le_t rfl)
set_option maxHeartbeats 40000000 in
set_option maxRecDepth 100000 in
theorem op_14 (l : Launch) (D : va_G) (c : Nat → ClassId) (H0 : Heap) (b : Nat) (xs : Nat → Int32) (Z : sZT) (x1 x2 x3 x4 x5 x6 : Int32) (hx1 : xs 1 = x1) (hx2 : xs 2 = x2) (hx3 : xs 3 = x3) (hx4 : xs 4 = x4) (hx5 : xs 5 = x5) (hx6 : xs 6 = x6) (kk : ∀ (hp : sHp) (ce sl : Nat), ce ≤ 600000 → sl ≤ 7302250 → sV (gG l D c H0 (b, 7, xs)) mL room_1 Z 1799 [(3, .int 0), (2, .ref 106), (1, .ref 0), (0, .retAddr 0)] [] hp ce sl) : sV (gG l D c H0 (b, 7, xs)) mL room_1 Z 730 [(3, .int 0), (2, .ref 106), (1, .ref 0), (0, .retAddr 0)] [] (192, tF) 192 297215 := by
  refine sv_aload_n (pc := 730) dL_law_730 rfl rfl ?_
  refine sv_aload_nS (pc := 731) dL_law_731 rfl rfl ?_
  refine sv_iload_n (pc := 732) dL_law_732 rfl rfl ?_
  refine sv_iconst (pc := 733) (v := 1) dL_law_733 (by decide) ?_
  refine sw_iadd (pc := 734) (v := 1) dL_law_734 (by decide) ?_
  refine sw_sld (pc := 735) (v := x1) dL_law_735 (k := 1) (by decide) (by decide) rfl hx1 ?_
  refine sv_aload_nS (pc := 736) dL_law_736 rfl rfl ?_
  refine sv_iload_n (pc := 737) dL_law_737 rfl rfl ?_
  refine sv_iconst (pc := 738) (v := 2) dL_law_738 (by decide) ?_
  refine sw_iadd (pc := 739) (v := 2) dL_law_739 (by decide) ?_
  refine sw_sld (pc := 740) (v := x2) dL_law_740 (k := 2) (by decide) (by decide) rfl hx2 ?_
  refine sv_aload_nS (pc := 741) dL_law_741 rfl rfl ?_
  refine sv_iload_n (pc := 742) dL_law_742 rfl rfl ?_
  refine sv_iconst (pc := 743) (v := 3) dL_law_743 (by decide) ?_
  refine sw_iadd (pc := 744) (v := 3) dL_law_744 (by decide) ?_
  refine sw_sld (pc := 745) (v := x3) dL_law_745 (k := 3) (by decide) (by decide) rfl hx3 ?_
  refine sv_aload_nS (pc := 746) dL_law_746 rfl rfl ?_
  refine sv_iload_n (pc := 747) dL_law_747 rfl rfl ?_
  refine sv_iconst (pc := 748) (v := 4) dL_law_748 (by decide) ?_
  refine sw_iadd (pc := 749) (v := 4) dL_law_749 (by decide) ?_
  refine sw_sld (pc := 750) (v := x4) dL_law_750 (k := 4) (by decide) (by decide) rfl hx4 ?_
  refine sv_callV (pc := 751) (M' := mX11_verdict) (d' := 20) (C' := 0) (S' := 0) (av := [.int x1, .int x2, .int x3, .int x4]) ?_ (gOk _ _ _ _ _) dL_law_751 (tX11_verdict _ _ _ _ _) ⟨wV_X11_verdict, wL_X11_verdict⟩ wM_DomainHouseLaw_76 (gCX11 _ _ _ _ _) rfl (lt_t rfl) rfl ⟨le_t rfl, le_t rfl⟩ ⟨le_t rfl, le_t rfl⟩ rfl (le_t rfl) (fun _ _ h => h)
  refine sC.of rfl (by decide) (le_t rfl) ?_
  refine sv_aload_n (pc := 0) dX11_verdict_0 rfl rfl ?_
  refine sv_iload_n (pc := 1) dX11_verdict_1 rfl rfl ?_
  refine sv_callV (pc := 2) (M' := mX11_isPrefix) (d' := 19) (C' := 0) (S' := 0) (av := [.int x1]) ?_ (gOk _ _ _ _ _) dX11_verdict_2 (tX11_isPrefix _ _ _ _ _) ⟨wV_X11_isPrefix, wL_X11_isPrefix⟩ wM_X11_182 (gCX11 _ _ _ _ _) rfl (lt_t rfl) rfl ⟨le_t rfl, le_t rfl⟩ ⟨le_t rfl, le_t rfl⟩ rfl (le_t rfl) (fun _ _ h => h)
  refine sC.of rfl (by decide) (le_t rfl) ?_
  refine sv_iload_n (pc := 0) dX11_isPrefix_0 rfl rfl ?_
  refine sv_if_lt (pc := 1) (tgt := 19) dX11_isPrefix_1 (by decide) (fun h_1 => ?_) (fun h_1 => ?_)
  · refine sv_iconst (pc := 19) (v := 0) dX11_isPrefix_19 (by decide) ?_
    refine sv_zret (pc := 20) dX11_isPrefix_20 rfl (by decide) (le_t rfl) (le_t rfl) ?_
    refine sv_if_eq (pc := 5) (tgt := 17) dX11_verdict_5 (by decide) (fun _ => ?_) (fun h => absurd (by decide) h)
    refine sv_iconst (pc := 17) (v := (-1)) dX11_verdict_17 (by decide) ?_
    refine sv_iret (pc := 18) dX11_verdict_18 rfl (le_t rfl) (le_t rfl) ?_
    refine sv_aload_n (pc := 754) dL_law_754 rfl rfl ?_
    refine sv_aload_nS (pc := 755) dL_law_755 rfl rfl ?_
    refine sv_iload_n (pc := 756) dL_law_756 rfl rfl ?_
    refine sv_iconst (pc := 757) (v := 1) dL_law_757 (by decide) ?_
    refine sw_iadd (pc := 758) (v := 1) dL_law_758 (by decide) ?_
    refine sw_sld (pc := 759) (v := x1) dL_law_759 (k := 1) (by decide) (by decide) rfl hx1 ?_
    refine sv_aload_nS (pc := 760) dL_law_760 rfl rfl ?_
    refine sv_iload_n (pc := 761) dL_law_761 rfl rfl ?_
    refine sv_iconst (pc := 762) (v := 2) dL_law_762 (by decide) ?_
    refine sw_iadd (pc := 763) (v := 2) dL_law_763 (by decide) ?_
    refine sw_sld (pc := 764) (v := x2) dL_law_764 (k := 2) (by decide) (by decide) rfl hx2 ?_
    refine sv_aload_nS (pc := 765) dL_law_765 rfl rfl ?_
    refine sv_iload_n (pc := 766) dL_law_766 rfl rfl ?_
    refine sv_iconst (pc := 767) (v := 3) dL_law_767 (by decide) ?_
    refine sw_iadd (pc := 768) (v := 3) dL_law_768 (by decide) ?_
    refine sw_sld (pc := 769) (v := x3) dL_law_769 (k := 3) (by decide) (by decide) rfl hx3 ?_
    refine sv_aload_nS (pc := 770) dL_law_770 rfl rfl ?_
    refine sv_iload_n (pc := 771) dL_law_771 rfl rfl ?_
    refine sv_iconst (pc := 772) (v := 4) dL_law_772 (by decide) ?_
    refine sw_iadd (pc := 773) (v := 4) dL_law_773 (by decide) ?_
    refine sw_sld (pc := 774) (v := x4) dL_law_774 (k := 4) (by decide) (by decide) rfl hx4 ?_
    refine sv_callV (pc := 775) (M' := mX12_verdict) (d' := 20) (C' := 0) (S' := 0) (av := [.int x1, .int x2, .int x3, .int x4]) ?_ (gOk _ _ _ _ _) dL_law_775 (tX12_verdict _ _ _ _ _) ⟨wV_X12_verdict, wL_X12_verdict⟩ wM_DomainHouseLaw_80 (gCX12 _ _ _ _ _) rfl (lt_t rfl) rfl ⟨le_t rfl, le_t rfl⟩ ⟨le_t rfl, le_t rfl⟩ rfl (le_t rfl) (fun _ _ h => h)
    refine sC.of rfl (by decide) (le_t rfl) ?_
    refine sv_aload_n (pc := 0) dX12_verdict_0 rfl rfl ?_
    refine sv_iload_n (pc := 1) dX12_verdict_1 rfl rfl ?_
    refine sv_callV (pc := 2) (M' := mX12_isPrefix) (d' := 19) (C' := 0) (S' := 0) (av := [.int x1]) ?_ (gOk _ _ _ _ _) dX12_verdict_2 (tX12_isPrefix _ _ _ _ _) ⟨wV_X12_isPrefix, wL_X12_isPrefix⟩ wM_X12_92 (gCX12 _ _ _ _ _) rfl (lt_t rfl) rfl ⟨le_t rfl, le_t rfl⟩ ⟨le_t rfl, le_t rfl⟩ rfl (le_t rfl) (fun _ _ h => h)
    refine sC.of rfl (by decide) (le_t rfl) ?_
    refine sv_iload_n (pc := 0) dX12_isPrefix_0 rfl rfl ?_
    refine sv_iconst (pc := 1) (v := 0) dX12_isPrefix_1 (by decide) ?_
    refine sv_aload_n (pc := 2) dX12_isPrefix_2 rfl rfl ?_
    refine sw_getfield (pc := 3) dX12_isPrefix_3 (gCX12 _ _ _ _ _) 2 (by decide) wF_X12_15 rfl rfl rfl ?_
    refine sv_iconst (pc := 6) (v := 1) dX12_isPrefix_6 (by decide) ?_
    refine sw_isub (pc := 7) (v := (-1)) dX12_isPrefix_7 (by decide) ?_
    refine sv_callS (pc := 8) (M' := mX12_in) (d' := 18) (C' := 0) (S' := 0) (av := [.int x1, .int 0, .int (-1)]) ?_ (gOk _ _ _ _ _) dX12_isPrefix_8 (tX12_in _ _ _ _ _) wS_X12_in wM_X12_18 ⟨le_t rfl, le_t rfl⟩ ⟨le_t rfl, le_t rfl⟩ rfl (le_t rfl) (fun _ _ h => h)
    refine sC.of rfl (by decide) (le_t rfl) ?_
    refine sv_iload_n (pc := 0) dX12_in_0 rfl rfl ?_
    refine sv_iload_n (pc := 1) dX12_in_1 rfl rfl ?_
    refine sv_icmp_lt (pc := 2) (tgt := 14) dX12_in_2 (by decide) (fun _ => ?_) (fun h => absurd h_1 h)
    refine sv_iconst (pc := 14) (v := 0) dX12_in_14 (by decide) ?_
    refine sv_zret (pc := 15) dX12_in_15 rfl (by decide) (le_t rfl) (le_t rfl) ?_
    refine sv_zret (pc := 11) dX12_isPrefix_11 rfl (by decide) (le_t rfl) (le_t rfl) ?_
    refine sv_if_eq (pc := 5) (tgt := 17) dX12_verdict_5 (by decide) (fun _ => ?_) (fun h => absurd (by decide) h)
    refine sv_iconst (pc := 17) (v := (-1)) dX12_verdict_17 (by decide) ?_
    refine sv_iret (pc := 18) dX12_verdict_18 rfl (le_t rfl) (le_t rfl) ?_
    refine sv_icmp_eq (pc := 778) (tgt := 1799) dL_law_778 (by decide) (fun _ => ?_) (fun h => absurd (by decide) h)
    exact kk _ _ _ (le_t rfl) (le_t rfl)
  refine sv_iload_n (pc := 4) dX11_isPrefix_4 rfl rfl ?_
  refine sv_aload_n (pc := 5) dX11_isPrefix_5 rfl rfl ?_
  refine sw_getfield (pc := 6) dX11_isPrefix_6 (gCX11 _ _ _ _ _) 3 (by decide) wF_X11_26 rfl rfl rfl ?_
  refine sw_getfield (pc := 9) dX11_isPrefix_9 (gCX10 _ _ _ _ _) 14 (by decide) wF_X11_92 rfl rfl rfl ?_
  refine sv_icmp_ge (pc := 12) (tgt := 19) dX11_isPrefix_12 (by decide) (fun _ => ?_) (fun h => False.elim (by have a0 := Int32.le_iff_toInt_le.mp (Int32.not_lt.mp h_1); have a1 := Int32.lt_iff_toInt_lt.mp (Int32.not_le.mp h); have e0 : (0 : Int32).toInt = 0 := (by decide); omega))
  refine sv_iconst (pc := 19) (v := 0) dX11_isPrefix_19 (by decide) ?_
  refine sv_zret (pc := 20) dX11_isPrefix_20 rfl (by decide) (le_t rfl) (le_t rfl) ?_
  refine sv_if_eq (pc := 5) (tgt := 17) dX11_verdict_5 (by decide) (fun _ => ?_) (fun h => absurd (by decide) h)
  refine sv_iconst (pc := 17) (v := (-1)) dX11_verdict_17 (by decide) ?_
  refine sv_iret (pc := 18) dX11_verdict_18 rfl (le_t rfl) (le_t rfl) ?_
  refine sv_aload_n (pc := 754) dL_law_754 rfl rfl ?_
  refine sv_aload_nS (pc := 755) dL_law_755 rfl rfl ?_
  refine sv_iload_n (pc := 756) dL_law_756 rfl rfl ?_
  refine sv_iconst (pc := 757) (v := 1) dL_law_757 (by decide) ?_
  refine sw_iadd (pc := 758) (v := 1) dL_law_758 (by decide) ?_
  refine sw_sld (pc := 759) (v := x1) dL_law_759 (k := 1) (by decide) (by decide) rfl hx1 ?_
  refine sv_aload_nS (pc := 760) dL_law_760 rfl rfl ?_
  refine sv_iload_n (pc := 761) dL_law_761 rfl rfl ?_
  refine sv_iconst (pc := 762) (v := 2) dL_law_762 (by decide) ?_
  refine sw_iadd (pc := 763) (v := 2) dL_law_763 (by decide) ?_
  refine sw_sld (pc := 764) (v := x2) dL_law_764 (k := 2) (by decide) (by decide) rfl hx2 ?_
  refine sv_aload_nS (pc := 765) dL_law_765 rfl rfl ?_
  refine sv_iload_n (pc := 766) dL_law_766 rfl rfl ?_
  refine sv_iconst (pc := 767) (v := 3) dL_law_767 (by decide) ?_
  refine sw_iadd (pc := 768) (v := 3) dL_law_768 (by decide) ?_
  refine sw_sld (pc := 769) (v := x3) dL_law_769 (k := 3) (by decide) (by decide) rfl hx3 ?_
  refine sv_aload_nS (pc := 770) dL_law_770 rfl rfl ?_
  refine sv_iload_n (pc := 771) dL_law_771 rfl rfl ?_
  refine sv_iconst (pc := 772) (v := 4) dL_law_772 (by decide) ?_
  refine sw_iadd (pc := 773) (v := 4) dL_law_773 (by decide) ?_
  refine sw_sld (pc := 774) (v := x4) dL_law_774 (k := 4) (by decide) (by decide) rfl hx4 ?_
  refine sv_callV (pc := 775) (M' := mX12_verdict) (d' := 20) (C' := 0) (S' := 0) (av := [.int x1, .int x2, .int x3, .int x4]) ?_ (gOk _ _ _ _ _) dL_law_775 (tX12_verdict _ _ _ _ _) ⟨wV_X12_verdict, wL_X12_verdict⟩ wM_DomainHouseLaw_80 (gCX12 _ _ _ _ _) rfl (lt_t rfl) rfl ⟨le_t rfl, le_t rfl⟩ ⟨le_t rfl, le_t rfl⟩ rfl (le_t rfl) (fun _ _ h => h)
  refine sC.of rfl (by decide) (le_t rfl) ?_
  refine sv_aload_n (pc := 0) dX12_verdict_0 rfl rfl ?_
  refine sv_iload_n (pc := 1) dX12_verdict_1 rfl rfl ?_
  refine sv_callV (pc := 2) (M' := mX12_isPrefix) (d' := 19) (C' := 0) (S' := 0) (av := [.int x1]) ?_ (gOk _ _ _ _ _) dX12_verdict_2 (tX12_isPrefix _ _ _ _ _) ⟨wV_X12_isPrefix, wL_X12_isPrefix⟩ wM_X12_92 (gCX12 _ _ _ _ _) rfl (lt_t rfl) rfl ⟨le_t rfl, le_t rfl⟩ ⟨le_t rfl, le_t rfl⟩ rfl (le_t rfl) (fun _ _ h => h)
  refine sC.of rfl (by decide) (le_t rfl) ?_
  refine sv_iload_n (pc := 0) dX12_isPrefix_0 rfl rfl ?_
  refine sv_iconst (pc := 1) (v := 0) dX12_isPrefix_1 (by decide) ?_
  refine sv_aload_n (pc := 2) dX12_isPrefix_2 rfl rfl ?_
  refine sw_getfield (pc := 3) dX12_isPrefix_3 (gCX12 _ _ _ _ _) 2 (by decide) wF_X12_15 rfl rfl rfl ?_
  refine sv_iconst (pc := 6) (v := 1) dX12_isPrefix_6 (by decide) ?_
  refine sw_isub (pc := 7) (v := (-1)) dX12_isPrefix_7 (by decide) ?_
  refine sv_callS (pc := 8) (M' := mX12_in) (d' := 18) (C' := 0) (S' := 0) (av := [.int x1, .int 0, .int (-1)]) ?_ (gOk _ _ _ _ _) dX12_isPrefix_8 (tX12_in _ _ _ _ _) wS_X12_in wM_X12_18 ⟨le_t rfl, le_t rfl⟩ ⟨le_t rfl, le_t rfl⟩ rfl (le_t rfl) (fun _ _ h => h)
  refine sC.of rfl (by decide) (le_t rfl) ?_
  refine sv_iload_n (pc := 0) dX12_in_0 rfl rfl ?_
  refine sv_iload_n (pc := 1) dX12_in_1 rfl rfl ?_
  refine sv_icmp_lt (pc := 2) (tgt := 14) dX12_in_2 (by decide) (fun h => absurd h h_1) (fun _ => ?_)
  refine sv_iload_n (pc := 5) dX12_in_5 rfl rfl ?_
  refine sv_iload_n (pc := 6) dX12_in_6 rfl rfl ?_
  refine sv_icmp_gt (pc := 7) (tgt := 14) dX12_in_7 (by decide) (fun _ => ?_) (fun h => False.elim (by have a0 := Int32.le_iff_toInt_le.mp (Int32.not_lt.mp h_1); have a1 := Int32.le_iff_toInt_le.mp (Int32.not_lt.mp h); have e0 : (-1 : Int32).toInt = -1 := (by decide); have e1 : (0 : Int32).toInt = 0 := (by decide); omega))
  refine sv_iconst (pc := 14) (v := 0) dX12_in_14 (by decide) ?_
  refine sv_zret (pc := 15) dX12_in_15 rfl (by decide) (le_t rfl) (le_t rfl) ?_
  refine sv_zret (pc := 11) dX12_isPrefix_11 rfl (by decide) (le_t rfl) (le_t rfl) ?_
  refine sv_if_eq (pc := 5) (tgt := 17) dX12_verdict_5 (by decide) (fun _ => ?_) (fun h => absurd (by decide) h)
  refine sv_iconst (pc := 17) (v := (-1)) dX12_verdict_17 (by decide) ?_
  refine sv_iret (pc := 18) dX12_verdict_18 rfl (le_t rfl) (le_t rfl) ?_
  refine sv_icmp_eq (pc := 778) (tgt := 1799) dL_law_778 (by decide) (fun _ => ?_) (fun h => absurd (by decide) h)
  exact kk _ _ _ (le_t rfl) (le_t rfl)
set_option maxHeartbeats 40000000 in
set_option maxRecDepth 100000 in
theorem op_15 (l : Launch) (D : va_G) (c : Nat → ClassId) (H0 : Heap) (b : Nat) (xs : Nat → Int32) (Z : sZT) (x1 x2 x3 x4 x5 x6 : Int32) (hx1 : xs 1 = x1) (hx2 : xs 2 = x2) (hx3 : xs 3 = x3) (hx4 : xs 4 = x4) (hx5 : xs 5 = x5) (hx6 : xs 6 = x6) (kk : ∀ (hp : sHp) (ce sl : Nat), ce ≤ 600000 → sl ≤ 7302250 → sV (gG l D c H0 (b, 7, xs)) mL room_1 Z 1799 [(3, .int 0), (2, .ref 106), (1, .ref 0), (0, .retAddr 0)] [] hp ce sl) : sV (gG l D c H0 (b, 7, xs)) mL room_1 Z 783 [(3, .int 0), (2, .ref 106), (1, .ref 0), (0, .retAddr 0)] [] (192, tF) 192 297215 := by
  refine sv_aload_n (pc := 783) dL_law_783 rfl rfl ?_
  refine sv_callV (pc := 784) (M' := mX11_policy) (d' := 20) (C' := 6) (S' := 6) (av := []) ?_ (gOk _ _ _ _ _) dL_law_784 (tX11_policy _ _ _ _ _) ⟨wV_X11_policy, wL_X11_policy⟩ wM_DomainHouseLaw_81 (gCX11 _ _ _ _ _) rfl (lt_t rfl) rfl ⟨le_t rfl, le_t rfl⟩ ⟨le_t rfl, le_t rfl⟩ rfl (le_t rfl) (fun _ _ h => h)
  refine sC.of rfl (by decide) (le_t rfl) ?_
  refine sv_aload_n (pc := 0) dX11_policy_0 rfl rfl ?_
  refine sw_getfield (pc := 1) dX11_policy_1 (gCX11 _ _ _ _ _) 5 (by decide) wF_X11_42 rfl rfl rfl ?_
  refine sv_aload_n (pc := 4) dX11_policy_4 rfl rfl ?_
  refine sw_getfield (pc := 5) dX11_policy_5 (gCX11 _ _ _ _ _) 0 (by decide) wF_X11_9 rfl rfl rfl ?_
  refine sv_aload_n (pc := 8) dX11_policy_8 rfl rfl ?_
  refine sw_getfield (pc := 9) dX11_policy_9 (gCX11 _ _ _ _ _) 10 (by decide) wF_X11_76 rfl rfl rfl ?_
  refine sv_aload_n (pc := 12) dX11_policy_12 rfl rfl ?_
  refine sw_getfield (pc := 13) dX11_policy_13 (gCX11 _ _ _ _ _) 4 (by decide) wF_X11_35 rfl rfl rfl ?_
  refine sw_getfield (pc := 16) dX11_policy_16 (gCX1 _ _ _ _ _) 8 (by decide) wF_X11_205 rfl rfl rfl ?_
  refine sv_callV (pc := 19) (M' := mX6_read) (d' := 19) (C' := 0) (S' := 0) (av := [.ref 1, .int 0, .int 0]) ?_ (gOk _ _ _ _ _) dX11_policy_19 (tX6_read _ _ _ _ _) ⟨wV_X6_read, wL_X6_read⟩ wM_X11_208 (gCX6 _ _ _ _ _) rfl (lt_t rfl) rfl ⟨le_t rfl, le_t rfl⟩ ⟨le_t rfl, le_t rfl⟩ rfl (le_t rfl) (fun _ _ h => h)
  refine sC.of rfl (by decide) (le_t rfl) ?_
  refine sv_aload_n (pc := 0) dX6_read_0 rfl rfl ?_
  refine sv_iconst (pc := 1) (v := 0) dX6_read_1 (by decide) ?_
  refine sw_putfield (pc := 2) dX6_read_2 (gCX6 _ _ _ _ _) 18 (by decide) wF_X6_37 rfl rfl rfl (fun _ => rfl) (fun _ => rfl) rfl ?_
  refine sv_aload_n (pc := 5) dX6_read_5 rfl rfl ?_
  refine sv_iconst (pc := 6) (v := 0) dX6_read_6 (by decide) ?_
  refine sw_putfield (pc := 7) dX6_read_7 (gCX6 _ _ _ _ _) 19 (by decide) wF_X6_41 rfl rfl rfl (fun _ => rfl) (fun _ => rfl) rfl ?_
  refine sv_aload_n (pc := 10) dX6_read_10 rfl rfl ?_
  refine sv_iconst (pc := 11) (v := 0) dX6_read_11 (by decide) ?_
  refine sw_putfield (pc := 12) dX6_read_12 (gCX6 _ _ _ _ _) 10 (by decide) wF_X6_44 rfl rfl rfl (fun _ => rfl) (fun _ => rfl) rfl ?_
  refine sv_aload_n (pc := 15) dX6_read_15 rfl rfl ?_
  refine sv_iconst (pc := 16) (v := 0) dX6_read_16 (by decide) ?_
  refine sw_putfield (pc := 17) dX6_read_17 (gCX6 _ _ _ _ _) 11 (by decide) wF_X6_47 rfl rfl rfl (fun _ => rfl) (fun _ => rfl) rfl ?_
  refine sv_aload_n (pc := 20) dX6_read_20 rfl rfl ?_
  refine sv_iconst (pc := 21) (v := 0) dX6_read_21 (by decide) ?_
  refine sw_putfield (pc := 22) dX6_read_22 (gCX6 _ _ _ _ _) 12 (by decide) wF_X6_50 rfl rfl rfl (fun _ => rfl) (fun _ => rfl) rfl ?_
  refine sv_aload_n (pc := 25) dX6_read_25 rfl rfl ?_
  refine sv_iconst (pc := 26) (v := 0) dX6_read_26 (by decide) ?_
  refine sw_putfield (pc := 27) dX6_read_27 (gCX6 _ _ _ _ _) 13 (by decide) wF_X6_53 rfl rfl rfl (fun _ => rfl) (fun _ => rfl) rfl ?_
  refine sv_aload_n (pc := 30) dX6_read_30 rfl rfl ?_
  refine sv_iload_n (pc := 31) dX6_read_31 rfl rfl ?_
  refine sw_putfield (pc := 32) dX6_read_32 (gCX6 _ _ _ _ _) 14 (by decide) wF_X6_56 rfl rfl rfl (fun _ => rfl) (fun _ => rfl) rfl ?_
  refine sv_aload_n (pc := 35) dX6_read_35 rfl rfl ?_
  refine sv_aload_n (pc := 36) dX6_read_36 rfl rfl ?_
  refine sv_iload_n (pc := 37) dX6_read_37 rfl rfl ?_
  refine sv_callV (pc := 38) (M' := mX6_split) (d' := 18) (C' := 0) (S' := 0) (av := [.ref 1, .int 0]) ?_ (gOk _ _ _ _ _) dX6_read_38 (tX6_split _ _ _ _ _) ⟨wV_X6_split, wL_X6_split⟩ wM_X6_59 (gCX6 _ _ _ _ _) rfl (lt_t rfl) rfl ⟨le_t rfl, le_t rfl⟩ ⟨le_t rfl, le_t rfl⟩ rfl (le_t rfl) (fun _ _ h => h)
  refine sC.of rfl (by decide) (le_t rfl) ?_
  refine sv_aload_n (pc := 0) dX6_split_0 rfl rfl ?_
  refine sv_iconst (pc := 1) (v := 0) dX6_split_1 (by decide) ?_
  refine sw_putfield (pc := 2) dX6_split_2 (gCX6 _ _ _ _ _) 8 (by decide) wF_X6_83 rfl rfl rfl (fun _ => rfl) (fun _ => rfl) rfl ?_
  refine sv_iconst (pc := 5) (v := 0) dX6_split_5 (by decide) ?_
  refine sv_istore_n (pc := 6) dX6_split_6 rfl (by decide) ?_
  refine sv_iload_n (pc := 7) dX6_split_7 rfl rfl ?_
  refine sv_iload_n (pc := 8) dX6_split_8 rfl rfl ?_
  refine sv_icmp_ge (pc := 9) (tgt := 143) dX6_split_9 (by decide) (fun _ => ?_) (fun h => absurd (by decide) h)
  refine sv_aload_n (pc := 143) dX6_split_143 rfl rfl ?_
  refine sw_getfield (pc := 144) dX6_split_144 (gCX6 _ _ _ _ _) 0 (by decide) wF_X6_9 rfl rfl rfl ?_
  refine sv_aload_n (pc := 147) dX6_split_147 rfl rfl ?_
  refine sw_getfield (pc := 148) dX6_split_148 (gCX6 _ _ _ _ _) 8 (by decide) wF_X6_83 rfl rfl rfl ?_
  refine sv_iconst (pc := 151) (v := (-1)) dX6_split_151 (by decide) ?_
  refine sw_iastore (pc := 152) (k := 0) (v := .int (-1)) dX6_split_152 rfl rfl rfl (by decide) (by decide) rfl rfl ?_
  refine sv_aload_n (pc := 153) dX6_split_153 rfl rfl ?_
  refine sw_getfield (pc := 154) dX6_split_154 (gCX6 _ _ _ _ _) 2 (by decide) wF_X6_18 rfl rfl rfl ?_
  refine sv_aload_n (pc := 157) dX6_split_157 rfl rfl ?_
  refine sw_getfield (pc := 158) dX6_split_158 (gCX6 _ _ _ _ _) 8 (by decide) wF_X6_83 rfl rfl rfl ?_
  refine sv_iload_n (pc := 161) dX6_split_161 rfl rfl ?_
  refine sw_iastore (pc := 162) (k := 0) (v := .int 0) dX6_split_162 rfl rfl rfl (by decide) (by decide) rfl rfl ?_
  refine sv_vret (pc := 163) dX6_split_163 rfl (le_t rfl) (le_t rfl) ?_
  refine sv_aload_n (pc := 41) dX6_read_41 rfl rfl ?_
  refine sv_iconst (pc := 42) (v := 0) dX6_read_42 (by decide) ?_
  refine sw_putfield (pc := 43) dX6_read_43 (gCX6 _ _ _ _ _) 9 (by decide) wF_X6_63 rfl rfl rfl (fun _ => rfl) (fun _ => rfl) rfl ?_
  refine sv_iconst (pc := 46) (v := 0) dX6_read_46 (by decide) ?_
  refine sv_istore (pc := 47) dX6_read_47 (by decide) ?_
  refine sv_iload (pc := 49) dX6_read_49 rfl ?_
  refine sv_sipush (pc := 51) (v := 1000) dX6_read_51 (by decide) ?_
  refine sv_icmp_gt (pc := 54) (tgt := 80) dX6_read_54 (by decide) (fun h => absurd h (by decide)) (fun _ => ?_)
  refine sv_aload_n (pc := 57) dX6_read_57 rfl rfl ?_
  refine sw_getfield (pc := 58) dX6_read_58 (gCX6 _ _ _ _ _) 0 (by decide) wF_X6_9 rfl rfl rfl ?_
  refine sv_aload_n (pc := 61) dX6_read_61 rfl rfl ?_
  refine sw_getfield (pc := 62) dX6_read_62 (gCX6 _ _ _ _ _) 9 (by decide) wF_X6_63 rfl rfl rfl ?_
  refine sw_iaload (pc := 65) (k := 0) (v := .int (-1)) dX6_read_65 rfl rfl rfl (by decide) (by decide) rfl rfl ?_
  refine sv_iconst (pc := 66) (v := (-1)) dX6_read_66 (by decide) ?_
  refine sv_icmp_eq (pc := 67) (tgt := 80) dX6_read_67 (by decide) (fun _ => ?_) (fun h => absurd (by decide) h)
  refine sv_vret (pc := 80) dX6_read_80 rfl (le_t rfl) (le_t rfl) ?_
  refine sv_aload_n (pc := 22) dX11_policy_22 rfl rfl ?_
  refine sv_iconst (pc := 23) (v := 0) dX11_policy_23 (by decide) ?_
  refine sw_putfield (pc := 24) dX11_policy_24 (gCX11 _ _ _ _ _) 10 (by decide) wF_X11_76 rfl rfl rfl (fun _ => rfl) (fun _ => rfl) rfl ?_
  refine sv_aload_n (pc := 27) dX11_policy_27 rfl rfl ?_
  refine sw_getfield (pc := 28) dX11_policy_28 (gCX11 _ _ _ _ _) 5 (by decide) wF_X11_42 rfl rfl rfl ?_
  refine sw_getfield (pc := 31) dX11_policy_31 (gCX6 _ _ _ _ _) 18 (by decide) wF_X11_212 rfl rfl rfl ?_
  refine sv_if_eq (pc := 34) (tgt := 48) dX11_policy_34 (by decide) (fun _ => ?_) (fun h => absurd (by decide) h)
  refine sv_aload_n (pc := 48) dX11_policy_48 rfl rfl ?_
  refine sw_getfield (pc := 49) dX11_policy_49 (gCX11 _ _ _ _ _) 4 (by decide) wF_X11_35 rfl rfl rfl ?_
  refine sw_getfield (pc := 52) dX11_policy_52 (gCX1 _ _ _ _ _) 8 (by decide) wF_X11_205 rfl rfl rfl ?_
  refine sv_bipush (pc := 55) (v := 12) dX11_policy_55 (by decide) ?_
  refine sv_icmp_lt (pc := 57) (tgt := 63) dX11_policy_57 (by decide) (fun _ => ?_) (fun h => absurd (by decide) h)
  refine sv_aload_n (pc := 63) dX11_policy_63 rfl rfl ?_
  refine sw_getfield (pc := 64) dX11_policy_64 (gCX11 _ _ _ _ _) 4 (by decide) wF_X11_35 rfl rfl rfl ?_
  refine sv_aload_n (pc := 67) dX11_policy_67 rfl rfl ?_
  refine sw_getfield (pc := 68) dX11_policy_68 (gCX11 _ _ _ _ _) 5 (by decide) wF_X11_42 rfl rfl rfl ?_
  refine sv_callV (pc := 71) (M' := mX6_result) (d' := 19) (C' := 6) (S' := 6) (av := []) ?_ (gOk _ _ _ _ _) dX11_policy_71 (tX6_result _ _ _ _ _) ⟨wV_X6_result, wL_X6_result⟩ wM_X11_218 (gCX6 _ _ _ _ _) rfl (lt_t rfl) rfl ⟨le_t rfl, le_t rfl⟩ ⟨le_t rfl, le_t rfl⟩ rfl (le_t rfl) (fun _ _ h => h)
  refine sC.of rfl (by decide) (le_t rfl) ?_
  refine sw_new (pc := 0) (a := 192) (n1 := 193) (ce1 := 1) (sl1 := 6) (fs := zX5) dX6_result_0 (gCX5 _ _ _ _ _) wC_X6_69 wN_X5 wI_X5 zX5_ok rfl rfl rfl rfl rfl rfl ?_
  refine sv_dup (pc := 3) dX6_result_3 rfl ?_
  refine sv_aload_n (pc := 4) dX6_result_4 rfl rfl ?_
  refine sw_getfield (pc := 5) dX6_result_5 (gCX6 _ _ _ _ _) 10 (by decide) wF_X6_44 rfl rfl rfl ?_
  refine sv_aload_n (pc := 8) dX6_result_8 rfl rfl ?_
  refine sw_getfield (pc := 9) dX6_result_9 (gCX6 _ _ _ _ _) 3 (by decide) wF_X6_21 rfl rfl rfl ?_
  refine sv_aload_n (pc := 12) dX6_result_12 rfl rfl ?_
  refine sw_getfield (pc := 13) dX6_result_13 (gCX6 _ _ _ _ _) 11 (by decide) wF_X6_47 rfl rfl rfl ?_
  refine sv_callS (pc := 16) (c_copyI _ _ _ _ _ (d := 18) (q := fun _ => 0) (N := 0) (n := 2000) (by decide) (lt_t rfl) rfl (by decide) (by decide) (by decide)) (gOk _ _ _ _ _) dX6_result_16 (tJ_copyI _ _ _ _ _) wS_J_copyI wM_X6_71 ⟨le_t rfl, le_t rfl⟩ ⟨le_t rfl, le_t rfl⟩ rfl (le_t rfl) ?_
  rintro _ _ ⟨rfl, rfl⟩
  refine sv_aload_n (pc := 19) dX6_result_19 rfl rfl ?_
  refine sw_getfield (pc := 20) dX6_result_20 (gCX6 _ _ _ _ _) 4 (by decide) wF_X6_24 rfl rfl rfl ?_
  refine sv_aload_n (pc := 23) dX6_result_23 rfl rfl ?_
  refine sw_getfield (pc := 24) dX6_result_24 (gCX6 _ _ _ _ _) 12 (by decide) wF_X6_50 rfl rfl rfl ?_
  refine sv_callS (pc := 27) (c_copyI _ _ _ _ _ (d := 18) (q := fun _ => 0) (N := 0) (n := 40) (by decide) (lt_t rfl) rfl (by decide) (by decide) (by decide)) (gOk _ _ _ _ _) dX6_result_27 (tJ_copyI _ _ _ _ _) wS_J_copyI wM_X6_71 ⟨le_t rfl, le_t rfl⟩ ⟨le_t rfl, le_t rfl⟩ rfl (le_t rfl) ?_
  rintro _ _ ⟨rfl, rfl⟩
  refine sv_aload_n (pc := 30) dX6_result_30 rfl rfl ?_
  refine sw_getfield (pc := 31) dX6_result_31 (gCX6 _ _ _ _ _) 5 (by decide) wF_X6_27 rfl rfl rfl ?_
  refine sv_aload_n (pc := 34) dX6_result_34 rfl rfl ?_
  refine sw_getfield (pc := 35) dX6_result_35 (gCX6 _ _ _ _ _) 12 (by decide) wF_X6_50 rfl rfl rfl ?_
  refine sv_callS (pc := 38) (c_copyJ _ _ _ _ _ (d := 18) (q := fun _ => 0) (N := 0) (n := 40) (by decide) (lt_t rfl) rfl (by decide) (by decide) (by decide)) (gOk _ _ _ _ _) dX6_result_38 (tJ_copyJ _ _ _ _ _) wS_J_copyJ wM_X6_77 ⟨le_t rfl, le_t rfl⟩ ⟨le_t rfl, le_t rfl⟩ rfl (le_t rfl) ?_
  rintro _ _ ⟨rfl, rfl⟩
  refine sv_aload_n (pc := 41) dX6_result_41 rfl rfl ?_
  refine sw_getfield (pc := 42) dX6_result_42 (gCX6 _ _ _ _ _) 6 (by decide) wF_X6_31 rfl rfl rfl ?_
  refine sv_aload_n (pc := 45) dX6_result_45 rfl rfl ?_
  refine sw_getfield (pc := 46) dX6_result_46 (gCX6 _ _ _ _ _) 13 (by decide) wF_X6_53 rfl rfl rfl ?_
  refine sv_callS (pc := 49) (c_copyJ _ _ _ _ _ (d := 18) (q := fun _ => 0) (N := 0) (n := 250) (by decide) (lt_t rfl) rfl (by decide) (by decide) (by decide)) (gOk _ _ _ _ _) dX6_result_49 (tJ_copyJ _ _ _ _ _) wS_J_copyJ wM_X6_77 ⟨le_t rfl, le_t rfl⟩ ⟨le_t rfl, le_t rfl⟩ rfl (le_t rfl) ?_
  rintro _ _ ⟨rfl, rfl⟩
  refine sv_aload_n (pc := 52) dX6_result_52 rfl rfl ?_
  refine sw_getfield (pc := 53) dX6_result_53 (gCX6 _ _ _ _ _) 7 (by decide) wF_X6_34 rfl rfl rfl ?_
  refine sv_aload_n (pc := 56) dX6_result_56 rfl rfl ?_
  refine sw_getfield (pc := 57) dX6_result_57 (gCX6 _ _ _ _ _) 13 (by decide) wF_X6_53 rfl rfl rfl ?_
  refine sv_callS (pc := 60) (c_copyJ _ _ _ _ _ (d := 18) (q := fun _ => 0) (N := 0) (n := 250) (by decide) (lt_t rfl) rfl (by decide) (by decide) (by decide)) (gOk _ _ _ _ _) dX6_result_60 (tJ_copyJ _ _ _ _ _) wS_J_copyJ wM_X6_77 ⟨le_t rfl, le_t rfl⟩ ⟨le_t rfl, le_t rfl⟩ rfl (le_t rfl) ?_
  rintro _ _ ⟨rfl, rfl⟩
  refine sv_callI (pc := 63) (M' := mX5_init) (d' := 18) (C' := 0) (S' := 0) (av := [.int 0, .ref 193, .ref 194, .ref 195, .ref 196, .ref 197]) ?_ (gOk _ _ _ _ _) dX6_result_63 (tX5_init _ _ _ _ _) rfl rfl wV_X5_init wM_X6_80 ⟨le_t rfl, le_t rfl⟩ ⟨le_t rfl, le_t rfl⟩ rfl (le_t rfl) (fun _ _ h => h)
  refine sC.of rfl (by decide) (le_t rfl) ?_
  refine sv_aload_n (pc := 0) dX5_init_0 rfl rfl ?_
  refine sv_objinit (pc := 1) dX5_init_1 wM_X5_1 wV_obj wK_obj ⟨le_t rfl, le_t rfl⟩ (le_t rfl) ?_
  refine sv_aload_n (pc := 4) dX5_init_4 rfl rfl ?_
  refine sv_iload_n (pc := 5) dX5_init_5 rfl rfl ?_
  refine sw_putfinal (pc := 6) dX5_init_6 (gCX5 _ _ _ _ _) 0 (by decide) wF_X5_7 rfl rfl rfl rfl rfl (fun _ => rfl) (fun _ => rfl) rfl ?_
  refine sv_aload_n (pc := 9) dX5_init_9 rfl rfl ?_
  refine sv_aload_n (pc := 10) dX5_init_10 rfl rfl ?_
  refine sw_putfinal (pc := 11) dX5_init_11 (gCX5 _ _ _ _ _) 1 (by decide) wF_X5_13 rfl rfl rfl rfl rfl (fun _ => rfl) (fun _ => rfl) rfl ?_
  refine sv_aload_n (pc := 14) dX5_init_14 rfl rfl ?_
  refine sv_aload_n (pc := 15) dX5_init_15 rfl rfl ?_
  refine sw_putfinal (pc := 16) dX5_init_16 (gCX5 _ _ _ _ _) 2 (by decide) wF_X5_17 rfl rfl rfl rfl rfl (fun _ => rfl) (fun _ => rfl) rfl ?_
  refine sv_aload_n (pc := 19) dX5_init_19 rfl rfl ?_
  refine sv_aload (pc := 20) dX5_init_20 rfl ?_
  refine sw_putfinal (pc := 22) dX5_init_22 (gCX5 _ _ _ _ _) 3 (by decide) wF_X5_20 rfl rfl rfl rfl rfl (fun _ => rfl) (fun _ => rfl) rfl ?_
  refine sv_aload_n (pc := 25) dX5_init_25 rfl rfl ?_
  refine sv_aload (pc := 26) dX5_init_26 rfl ?_
  refine sw_putfinal (pc := 28) dX5_init_28 (gCX5 _ _ _ _ _) 4 (by decide) wF_X5_24 rfl rfl rfl rfl rfl (fun _ => rfl) (fun _ => rfl) rfl ?_
  refine sv_aload_n (pc := 31) dX5_init_31 rfl rfl ?_
  refine sv_aload (pc := 32) dX5_init_32 rfl ?_
  refine sw_putfinal (pc := 34) dX5_init_34 (gCX5 _ _ _ _ _) 5 (by decide) wF_X5_27 rfl rfl rfl rfl rfl (fun _ => rfl) (fun _ => rfl) rfl ?_
  refine sv_vret (pc := 37) dX5_init_37 rfl (le_t rfl) (le_t rfl) ?_
  refine sv_aret (pc := 66) dX6_result_66 rfl (le_t rfl) (le_t rfl) ?_
  refine sv_callV (pc := 74) (M' := mX1_addPolicy) (d' := 19) (C' := 0) (S' := 0) (av := [.ref 192]) ?_ (gOk _ _ _ _ _) dX11_policy_74 (tX1_addPolicy _ _ _ _ _) ⟨wV_X1_addPolicy, wL_X1_addPolicy⟩ wM_X11_222 (gCX1 _ _ _ _ _) rfl (lt_t rfl) rfl ⟨le_t rfl, le_t rfl⟩ ⟨le_t rfl, le_t rfl⟩ rfl (le_t rfl) (fun _ _ h => h)
  refine sC.of rfl (by decide) (le_t rfl) ?_
  refine sv_aload_n (pc := 0) dX1_addPolicy_0 rfl rfl ?_
  refine sw_getfield (pc := 1) dX1_addPolicy_1 (gCX1 _ _ _ _ _) 1 (by decide) wF_X1_17 rfl rfl rfl ?_
  refine sv_aload_n (pc := 4) dX1_addPolicy_4 rfl rfl ?_
  refine sw_getfield (pc := 5) dX1_addPolicy_5 (gCX1 _ _ _ _ _) 8 (by decide) wF_X1_21 rfl rfl rfl ?_
  refine sv_aload_n (pc := 8) dX1_addPolicy_8 rfl rfl ?_
  refine sw_aastore (pc := 9) (k := 0) dX1_addPolicy_9 (gCX5 _ _ _ _ _) rfl rfl rfl (by decide) (by decide) rfl rfl rfl ?_
  refine sv_aload_n (pc := 10) dX1_addPolicy_10 rfl rfl ?_
  refine sv_dup (pc := 11) dX1_addPolicy_11 rfl ?_
  refine sw_getfield (pc := 12) dX1_addPolicy_12 (gCX1 _ _ _ _ _) 8 (by decide) wF_X1_21 rfl rfl rfl ?_
  refine sv_iconst (pc := 15) (v := 1) dX1_addPolicy_15 (by decide) ?_
  refine sw_iadd (pc := 16) (v := 1) dX1_addPolicy_16 (by decide) ?_
  refine sw_putfield (pc := 17) dX1_addPolicy_17 (gCX1 _ _ _ _ _) 8 (by decide) wF_X1_21 rfl rfl rfl (fun _ => rfl) (fun _ => rfl) rfl ?_
  refine sv_aload_n (pc := 20) dX1_addPolicy_20 rfl rfl ?_
  refine sw_getfield (pc := 21) dX1_addPolicy_21 (gCX1 _ _ _ _ _) 8 (by decide) wF_X1_21 rfl rfl rfl ?_
  refine sv_iconst (pc := 24) (v := 1) dX1_addPolicy_24 (by decide) ?_
  refine sw_isub (pc := 25) (v := 0) dX1_addPolicy_25 (by decide) ?_
  refine sv_iret (pc := 26) dX1_addPolicy_26 rfl (le_t rfl) (le_t rfl) ?_
  refine sv_iret (pc := 77) dX11_policy_77 rfl (le_t rfl) (le_t rfl) ?_
  refine sv_aload_n (pc := 787) dL_law_787 rfl rfl ?_
  refine sv_callV (pc := 788) (M' := mX12_policy) (d' := 20) (C' := 0) (S' := 0) (av := []) ?_ (gOk _ _ _ _ _) dL_law_788 (tX12_policy _ _ _ _ _) ⟨wV_X12_policy, wL_X12_policy⟩ wM_DomainHouseLaw_84 (gCX12 _ _ _ _ _) rfl (lt_t rfl) rfl ⟨le_t rfl, le_t rfl⟩ ⟨le_t rfl, le_t rfl⟩ rfl (le_t rfl) (fun _ _ h => h)
  refine sC.of rfl (by decide) (le_t rfl) ?_
  refine sv_aload_n (pc := 0) dX12_policy_0 rfl rfl ?_
  refine sv_aload_n (pc := 1) dX12_policy_1 rfl rfl ?_
  refine sw_getfield (pc := 2) dX12_policy_2 (gCX12 _ _ _ _ _) 39 (by decide) wF_X12_355 rfl rfl rfl ?_
  refine sv_bipush (pc := 5) (v := 12) dX12_policy_5 (by decide) ?_
  refine sv_icmp_ge (pc := 7) (tgt := 17) dX12_policy_7 (by decide) (fun h => absurd h (by decide)) (fun _ => ?_)
  refine sv_aload_n (pc := 10) dX12_policy_10 rfl rfl ?_
  refine sw_getfield (pc := 11) dX12_policy_11 (gCX12 _ _ _ _ _) 39 (by decide) wF_X12_355 rfl rfl rfl ?_
  refine sv_goto (pc := 14) (tgt := 19) dX12_policy_14 (by decide) ?_
  refine sw_putfield (pc := 19) dX12_policy_19 (gCX12 _ _ _ _ _) 58 (by decide) wF_X12_278 rfl rfl rfl (fun _ => rfl) (fun _ => rfl) rfl ?_
  refine sv_aload_n (pc := 22) dX12_policy_22 rfl rfl ?_
  refine sw_getfield (pc := 23) dX12_policy_23 (gCX12 _ _ _ _ _) 40 (by decide) wF_X12_358 rfl rfl rfl ?_
  refine sv_aload_n (pc := 26) dX12_policy_26 rfl rfl ?_
  refine sw_getfield (pc := 27) dX12_policy_27 (gCX12 _ _ _ _ _) 58 (by decide) wF_X12_278 rfl rfl rfl ?_
  refine sv_iconst (pc := 30) (v := 0) dX12_policy_30 (by decide) ?_
  refine sw_iastore (pc := 31) (k := 0) (v := .int 0) dX12_policy_31 rfl rfl rfl (by decide) (by decide) rfl rfl ?_
  refine sv_aload_n (pc := 32) dX12_policy_32 rfl rfl ?_
  refine sw_getfield (pc := 33) dX12_policy_33 (gCX12 _ _ _ _ _) 43 (by decide) wF_X12_320 rfl rfl rfl ?_
  refine sv_aload_n (pc := 36) dX12_policy_36 rfl rfl ?_
  refine sw_getfield (pc := 37) dX12_policy_37 (gCX12 _ _ _ _ _) 58 (by decide) wF_X12_278 rfl rfl rfl ?_
  refine sv_iconst (pc := 40) (v := 0) dX12_policy_40 (by decide) ?_
  refine sw_iastore (pc := 41) (k := 0) (v := .int 0) dX12_policy_41 rfl rfl rfl (by decide) (by decide) rfl rfl ?_
  refine sv_aload_n (pc := 42) dX12_policy_42 rfl rfl ?_
  refine sw_getfield (pc := 43) dX12_policy_43 (gCX12 _ _ _ _ _) 44 (by decide) wF_X12_346 rfl rfl rfl ?_
  refine sv_aload_n (pc := 46) dX12_policy_46 rfl rfl ?_
  refine sw_getfield (pc := 47) dX12_policy_47 (gCX12 _ _ _ _ _) 58 (by decide) wF_X12_278 rfl rfl rfl ?_
  refine sv_iconst (pc := 50) (v := 0) dX12_policy_50 (by decide) ?_
  refine sw_iastore (pc := 51) (k := 0) (v := .int 0) dX12_policy_51 rfl rfl rfl (by decide) (by decide) rfl rfl ?_
  refine sv_aload_n (pc := 52) dX12_policy_52 rfl rfl ?_
  refine sw_getfield (pc := 53) dX12_policy_53 (gCX12 _ _ _ _ _) 55 (by decide) wF_X12_292 rfl rfl rfl ?_
  refine sv_aload_n (pc := 56) dX12_policy_56 rfl rfl ?_
  refine sw_getfield (pc := 57) dX12_policy_57 (gCX12 _ _ _ _ _) 58 (by decide) wF_X12_278 rfl rfl rfl ?_
  refine sv_iconst (pc := 60) (v := 0) dX12_policy_60 (by decide) ?_
  refine sw_iastore (pc := 61) (k := 0) (v := .int 0) dX12_policy_61 rfl rfl rfl (by decide) (by decide) rfl rfl ?_
  refine sv_aload_n (pc := 62) dX12_policy_62 rfl rfl ?_
  refine sv_iconst (pc := 63) (v := 0) dX12_policy_63 (by decide) ?_
  refine sw_putfield (pc := 64) dX12_policy_64 (gCX12 _ _ _ _ _) 33 (by decide) wF_X12_224 rfl rfl rfl (fun _ => rfl) (fun _ => rfl) rfl ?_
  refine sv_aload_n (pc := 67) dX12_policy_67 rfl rfl ?_
  refine sv_iconst (pc := 68) (v := 0) dX12_policy_68 (by decide) ?_
  refine sw_putfield (pc := 69) dX12_policy_69 (gCX12 _ _ _ _ _) 37 (by decide) wF_X12_215 rfl rfl rfl (fun _ => rfl) (fun _ => rfl) rfl ?_
  refine sv_aload_n (pc := 72) dX12_policy_72 rfl rfl ?_
  refine sv_callV (pc := 73) (M' := mX12_next) (d' := 19) (C' := 0) (S' := 0) (av := []) ?_ (gOk _ _ _ _ _) dX12_policy_73 (tX12_next _ _ _ _ _) ⟨wV_X12_next, wL_X12_next⟩ wM_X12_247 (gCX12 _ _ _ _ _) rfl (lt_t rfl) rfl ⟨le_t rfl, le_t rfl⟩ ⟨le_t rfl, le_t rfl⟩ rfl (le_t rfl) (fun _ _ h => h)
  refine sC.of rfl (by decide) (le_t rfl) ?_
  refine sv_aload_n (pc := 0) dX12_next_0 rfl rfl ?_
  refine sw_getfield (pc := 1) dX12_next_1 (gCX12 _ _ _ _ _) 37 (by decide) wF_X12_215 rfl rfl rfl ?_
  refine sv_if_eq (pc := 4) (tgt := 8) dX12_next_4 (by decide) (fun _ => ?_) (fun h => absurd (by decide) h)
  refine sv_aload_n (pc := 8) dX12_next_8 rfl rfl ?_
  refine sv_aload_n (pc := 9) dX12_next_9 rfl rfl ?_
  refine sw_getfield (pc := 10) dX12_next_10 (gCX12 _ _ _ _ _) 33 (by decide) wF_X12_224 rfl rfl rfl ?_
  refine sv_callV (pc := 13) (M' := mX12_byteAt) (d' := 18) (C' := 0) (S' := 0) (av := [.int 0]) ?_ (gOk _ _ _ _ _) dX12_next_13 (tX12_byteAt _ _ _ _ _) ⟨wV_X12_byteAt, wL_X12_byteAt⟩ wM_X12_227 (gCX12 _ _ _ _ _) rfl (lt_t rfl) rfl ⟨le_t rfl, le_t rfl⟩ ⟨le_t rfl, le_t rfl⟩ rfl (le_t rfl) (fun _ _ h => h)
  refine sC.of rfl (by decide) (le_t rfl) ?_
  refine sv_iload_n (pc := 0) dX12_byteAt_0 rfl rfl ?_
  refine sv_aload_n (pc := 1) dX12_byteAt_1 rfl rfl ?_
  refine sw_getfield (pc := 2) dX12_byteAt_2 (gCX12 _ _ _ _ _) 1 (by decide) wF_X12_1 rfl rfl rfl ?_
  refine sv_icmp_ge (pc := 5) (tgt := 21) dX12_byteAt_5 (by decide) (fun _ => ?_) (fun h => absurd (by decide) h)
  refine sv_iconst (pc := 21) (v := (-1)) dX12_byteAt_21 (by decide) ?_
  refine sv_iret (pc := 22) dX12_byteAt_22 rfl (le_t rfl) (le_t rfl) ?_
  refine sv_bipush (pc := 16) (v := 32) dX12_next_16 (by decide) ?_
  refine sv_icmp_eq (pc := 18) (tgt := 34) dX12_next_18 (by decide) (fun h => absurd h (by decide)) (fun _ => ?_)
  refine sv_aload_n (pc := 21) dX12_next_21 rfl rfl ?_
  refine sv_aload_n (pc := 22) dX12_next_22 rfl rfl ?_
  refine sw_getfield (pc := 23) dX12_next_23 (gCX12 _ _ _ _ _) 33 (by decide) wF_X12_224 rfl rfl rfl ?_
  refine sv_callV (pc := 26) (M' := mX12_byteAt) (d' := 18) (C' := 0) (S' := 0) (av := [.int 0]) ?_ (gOk _ _ _ _ _) dX12_next_26 (tX12_byteAt _ _ _ _ _) ⟨wV_X12_byteAt, wL_X12_byteAt⟩ wM_X12_227 (gCX12 _ _ _ _ _) rfl (lt_t rfl) rfl ⟨le_t rfl, le_t rfl⟩ ⟨le_t rfl, le_t rfl⟩ rfl (le_t rfl) (fun _ _ h => h)
  refine sC.of rfl (by decide) (le_t rfl) ?_
  refine sv_iload_n (pc := 0) dX12_byteAt_0 rfl rfl ?_
  refine sv_aload_n (pc := 1) dX12_byteAt_1 rfl rfl ?_
  refine sw_getfield (pc := 2) dX12_byteAt_2 (gCX12 _ _ _ _ _) 1 (by decide) wF_X12_1 rfl rfl rfl ?_
  refine sv_icmp_ge (pc := 5) (tgt := 21) dX12_byteAt_5 (by decide) (fun _ => ?_) (fun h => absurd (by decide) h)
  refine sv_iconst (pc := 21) (v := (-1)) dX12_byteAt_21 (by decide) ?_
  refine sv_iret (pc := 22) dX12_byteAt_22 rfl (le_t rfl) (le_t rfl) ?_
  refine sv_bipush (pc := 29) (v := 10) dX12_next_29 (by decide) ?_
  refine sv_icmp_ne (pc := 31) (tgt := 47) dX12_next_31 (by decide) (fun _ => ?_) (fun h => absurd h (by decide))
  refine sv_aload_n (pc := 47) dX12_next_47 rfl rfl ?_
  refine sv_aload_n (pc := 48) dX12_next_48 rfl rfl ?_
  refine sw_getfield (pc := 49) dX12_next_49 (gCX12 _ _ _ _ _) 33 (by decide) wF_X12_224 rfl rfl rfl ?_
  refine sw_putfield (pc := 52) dX12_next_52 (gCX12 _ _ _ _ _) 34 (by decide) wF_X12_218 rfl rfl rfl (fun _ => rfl) (fun _ => rfl) rfl ?_
  refine sv_aload_n (pc := 55) dX12_next_55 rfl rfl ?_
  refine sv_aload_n (pc := 56) dX12_next_56 rfl rfl ?_
  refine sw_getfield (pc := 57) dX12_next_57 (gCX12 _ _ _ _ _) 33 (by decide) wF_X12_224 rfl rfl rfl ?_
  refine sv_callV (pc := 60) (M' := mX12_byteAt) (d' := 18) (C' := 0) (S' := 0) (av := [.int 0]) ?_ (gOk _ _ _ _ _) dX12_next_60 (tX12_byteAt _ _ _ _ _) ⟨wV_X12_byteAt, wL_X12_byteAt⟩ wM_X12_227 (gCX12 _ _ _ _ _) rfl (lt_t rfl) rfl ⟨le_t rfl, le_t rfl⟩ ⟨le_t rfl, le_t rfl⟩ rfl (le_t rfl) (fun _ _ h => h)
  refine sC.of rfl (by decide) (le_t rfl) ?_
  refine sv_iload_n (pc := 0) dX12_byteAt_0 rfl rfl ?_
  refine sv_aload_n (pc := 1) dX12_byteAt_1 rfl rfl ?_
  refine sw_getfield (pc := 2) dX12_byteAt_2 (gCX12 _ _ _ _ _) 1 (by decide) wF_X12_1 rfl rfl rfl ?_
  refine sv_icmp_ge (pc := 5) (tgt := 21) dX12_byteAt_5 (by decide) (fun _ => ?_) (fun h => absurd (by decide) h)
  refine sv_iconst (pc := 21) (v := (-1)) dX12_byteAt_21 (by decide) ?_
  refine sv_iret (pc := 22) dX12_byteAt_22 rfl (le_t rfl) (le_t rfl) ?_
  refine sv_istore_n (pc := 63) dX12_next_63 rfl (by decide) ?_
  refine sv_aload_n (pc := 64) dX12_next_64 rfl rfl ?_
  refine sv_iload_n (pc := 65) dX12_next_65 rfl rfl ?_
  refine sv_if_ge (pc := 66) (tgt := 73) dX12_next_66 (by decide) (fun h => absurd h (by decide)) (fun _ => ?_)
  refine sv_iconst (pc := 69) (v := 0) dX12_next_69 (by decide) ?_
  refine sv_goto (pc := 70) (tgt := 106) dX12_next_70 (by decide) ?_
  refine sw_putfield (pc := 106) dX12_next_106 (gCX12 _ _ _ _ _) 35 (by decide) wF_X12_230 rfl rfl rfl (fun _ => rfl) (fun _ => rfl) rfl ?_
  refine sv_aload_n (pc := 109) dX12_next_109 rfl rfl ?_
  refine sv_iload_n (pc := 110) dX12_next_110 rfl rfl ?_
  refine sw_putfield (pc := 111) dX12_next_111 (gCX12 _ _ _ _ _) 36 (by decide) wF_X12_233 rfl rfl rfl (fun _ => rfl) (fun _ => rfl) rfl ?_
  refine sv_aload_n (pc := 114) dX12_next_114 rfl rfl ?_
  refine sw_getfield (pc := 115) dX12_next_115 (gCX12 _ _ _ _ _) 35 (by decide) wF_X12_230 rfl rfl rfl ?_
  refine sv_if_ne (pc := 118) (tgt := 122) dX12_next_118 (by decide) (fun h => absurd (by decide) h) (fun _ => ?_)
  refine sv_vret (pc := 121) dX12_next_121 rfl (le_t rfl) (le_t rfl) ?_
  refine sv_aload_n (pc := 76) dX12_policy_76 rfl rfl ?_
  refine sw_getfield (pc := 77) dX12_policy_77 (gCX12 _ _ _ _ _) 37 (by decide) wF_X12_215 rfl rfl rfl ?_
  refine sv_if_ne (pc := 80) (tgt := 97) dX12_policy_80 (by decide) (fun h => absurd (by decide) h) (fun _ => ?_)
  refine sv_aload_n (pc := 83) dX12_policy_83 rfl rfl ?_
  refine sw_getfield (pc := 84) dX12_policy_84 (gCX12 _ _ _ _ _) 35 (by decide) wF_X12_230 rfl rfl rfl ?_
  refine sv_if_eq (pc := 87) (tgt := 97) dX12_policy_87 (by decide) (fun _ => ?_) (fun h => absurd (by decide) h)
  refine sv_aload_n (pc := 97) dX12_policy_97 rfl rfl ?_
  refine sv_aload_n (pc := 98) dX12_policy_98 rfl rfl ?_
  refine sw_getfield (pc := 99) dX12_policy_99 (gCX12 _ _ _ _ _) 37 (by decide) wF_X12_215 rfl rfl rfl ?_
  refine sw_putfield (pc := 102) dX12_policy_102 (gCX12 _ _ _ _ _) 66 (by decide) wF_X12_376 rfl rfl rfl (fun _ => rfl) (fun _ => rfl) rfl ?_
  refine sv_aload_n (pc := 105) dX12_policy_105 rfl rfl ?_
  refine sv_iconst (pc := 106) (v := 0) dX12_policy_106 (by decide) ?_
  refine sw_putfield (pc := 107) dX12_policy_107 (gCX12 _ _ _ _ _) 1 (by decide) wF_X12_1 rfl rfl rfl (fun _ => rfl) (fun _ => rfl) rfl ?_
  refine sv_aload_n (pc := 110) dX12_policy_110 rfl rfl ?_
  refine sw_getfield (pc := 111) dX12_policy_111 (gCX12 _ _ _ _ _) 37 (by decide) wF_X12_215 rfl rfl rfl ?_
  refine sv_if_eq (pc := 114) (tgt := 125) dX12_policy_114 (by decide) (fun _ => ?_) (fun h => absurd (by decide) h)
  refine sv_aload_n (pc := 125) dX12_policy_125 rfl rfl ?_
  refine sw_getfield (pc := 126) dX12_policy_126 (gCX12 _ _ _ _ _) 39 (by decide) wF_X12_355 rfl rfl rfl ?_
  refine sv_bipush (pc := 129) (v := 12) dX12_policy_129 (by decide) ?_
  refine sv_icmp_ne (pc := 131) (tgt := 137) dX12_policy_131 (by decide) (fun _ => ?_) (fun h => absurd h (by decide))
  refine sv_aload_n (pc := 137) dX12_policy_137 rfl rfl ?_
  refine sv_dup (pc := 138) dX12_policy_138 rfl ?_
  refine sw_getfield (pc := 139) dX12_policy_139 (gCX12 _ _ _ _ _) 39 (by decide) wF_X12_355 rfl rfl rfl ?_
  refine sv_iconst (pc := 142) (v := 1) dX12_policy_142 (by decide) ?_
  refine sw_iadd (pc := 143) (v := 1) dX12_policy_143 (by decide) ?_
  refine sw_putfield (pc := 144) dX12_policy_144 (gCX12 _ _ _ _ _) 39 (by decide) wF_X12_355 rfl rfl rfl (fun _ => rfl) (fun _ => rfl) rfl ?_
  refine sv_aload_n (pc := 147) dX12_policy_147 rfl rfl ?_
  refine sw_getfield (pc := 148) dX12_policy_148 (gCX12 _ _ _ _ _) 39 (by decide) wF_X12_355 rfl rfl rfl ?_
  refine sv_iconst (pc := 151) (v := 1) dX12_policy_151 (by decide) ?_
  refine sw_isub (pc := 152) (v := 0) dX12_policy_152 (by decide) ?_
  refine sv_iret (pc := 153) dX12_policy_153 rfl (le_t rfl) (le_t rfl) ?_
  refine sv_icmp_eq (pc := 791) (tgt := 1799) dL_law_791 (by decide) (fun _ => ?_) (fun h => absurd (by decide) h)
  exact kk _ _ _ (le_t rfl) (le_t rfl)
