/-- the cells of a new object -/
def tX0N : Nat → sE := fun j => match j with
  | 0 => .inr (0, [.ref 1, .ref 2, .ref 3, .ref 4, .int 5, .int 0])
  | 1 => .inl (0, 6, updV (updV (updV (updV (updV (fun _ => .int 0) 4 (.int 5)) 3 (.int 4)) 2 (.int 3)) 1 (.int 2)) 0 (.int 1))
  | 2 => .inl (0, 10, updV (updV (updV (updV (updV (updV (updV (updV (updV (updV (fun _ => .int 0) 0 (.int (-1))) 1 (.int (-1))) 2 (.int (-1))) 3 (.int (-1))) 4 (.int (-1))) 5 (.int (-1))) 6 (.int (-1))) 7 (.int (-1))) 8 (.int (-1))) 9 (.int (-1)))
  | 3 => .inl (0, 10, updV (updV (updV (updV (updV (updV (updV (updV (updV (updV (fun _ => .int 0) 0 (.int (-99999999))) 1 (.int (-99999999))) 2 (.int (-99999999))) 3 (.int (-99999999))) 4 (.int (-99999999))) 5 (.int (-99999999))) 6 (.int (-99999999))) 7 (.int (-99999999))) 8 (.int (-99999999))) 9 (.int (-99999999)))
  | 4 => .inl (4, 10, updV (updV (updV (updV (updV (updV (updV (updV (updV (updV (fun _ => .null) 0 (.ref 5)) 1 (.ref 8)) 2 (.ref 11)) 3 (.ref 14)) 4 (.ref 17)) 5 (.ref 20)) 6 (.ref 23)) 7 (.ref 26)) 8 (.ref 29)) 9 (.ref 32))
  | 5 => .inr (7, [.ref 6, .ref 7, .int 0, .int 0, .int 0, .int 0, .int 0, .int 0, .int 0, .int (-1), .int 0, .int 0])
  | 6 => .inl (0, 20, fun _ => .int 0)
  | 7 => .inl (0, 8, fun _ => .int 0)
  | 8 => .inr (7, [.ref 9, .ref 10, .int 0, .int 0, .int 0, .int 0, .int 0, .int 0, .int 0, .int (-1), .int 0, .int 0])
  | 9 => .inl (0, 20, fun _ => .int 0)
  | 10 => .inl (0, 8, fun _ => .int 0)
  | 11 => .inr (7, [.ref 12, .ref 13, .int 0, .int 0, .int 0, .int 0, .int 0, .int 0, .int 0, .int (-1), .int 0, .int 0])
  | 12 => .inl (0, 20, fun _ => .int 0)
  | 13 => .inl (0, 8, fun _ => .int 0)
  | 14 => .inr (7, [.ref 15, .ref 16, .int 0, .int 0, .int 0, .int 0, .int 0, .int 0, .int 0, .int (-1), .int 0, .int 0])
  | 15 => .inl (0, 20, fun _ => .int 0)
  | 16 => .inl (0, 8, fun _ => .int 0)
  | 17 => .inr (7, [.ref 18, .ref 19, .int 0, .int 0, .int 0, .int 0, .int 0, .int 0, .int 0, .int (-1), .int 0, .int 0])
  | 18 => .inl (0, 20, fun _ => .int 0)
  | 19 => .inl (0, 8, fun _ => .int 0)
  | 20 => .inr (7, [.ref 21, .ref 22, .int 0, .int 0, .int 0, .int 0, .int 0, .int 0, .int 0, .int (-1), .int 0, .int 0])
  | 21 => .inl (0, 20, fun _ => .int 0)
  | 22 => .inl (0, 8, fun _ => .int 0)
  | 23 => .inr (7, [.ref 24, .ref 25, .int 0, .int 0, .int 0, .int 0, .int 0, .int 0, .int 0, .int (-1), .int 0, .int 0])
  | 24 => .inl (0, 20, fun _ => .int 0)
  | 25 => .inl (0, 8, fun _ => .int 0)
  | 26 => .inr (7, [.ref 27, .ref 28, .int 0, .int 0, .int 0, .int 0, .int 0, .int 0, .int 0, .int (-1), .int 0, .int 0])
  | 27 => .inl (0, 20, fun _ => .int 0)
  | 28 => .inl (0, 8, fun _ => .int 0)
  | 29 => .inr (7, [.ref 30, .ref 31, .int 0, .int 0, .int 0, .int 0, .int 0, .int 0, .int 0, .int (-1), .int 0, .int 0])
  | 30 => .inl (0, 20, fun _ => .int 0)
  | 31 => .inl (0, 8, fun _ => .int 0)
  | 32 => .inr (7, [.ref 33, .ref 34, .int 0, .int 0, .int 0, .int 0, .int 0, .int 0, .int 0, .int (-1), .int 0, .int 0])
  | 33 => .inl (0, 20, fun _ => .int 0)
  | 34 => .inl (0, 8, fun _ => .int 0)
  | _ => .inr (0, [])
set_option maxHeartbeats 40000000 in
set_option maxRecDepth 100000 in
theorem ctorX0 (l : Launch) (D : va_G) (c : Nat → ClassId) (H0 : Heap) (sa : Nat × Nat × (Nat → Int32)) : sC (gG l D c H0 sa) mX0_init 5 34 436 [.ref 0] (1, fun _ => .inr (0, zX0)) (fun r hp => r = none ∧ hp.1 = 35 ∧ ∀ j, j < 35 → hp.2 j = tX0N j) := by
  refine sC.of rfl (by decide) (le_t rfl) ?_
  refine sv_aload_n (pc := 0) dX0_init_0 rfl rfl ?_
  refine sv_objinit (pc := 1) dX0_init_1 wM_X0_3 wV_obj wK_obj ⟨le_t rfl, le_t rfl⟩ (le_t rfl) ?_
  refine sv_aload_n (pc := 4) dX0_init_4 rfl rfl ?_
  refine sv_bipush (pc := 5) (v := 6) dX0_init_5 (by decide) ?_
  refine sw_newarray (pc := 7) (kd := 0) (a := 1) (n1 := 2) (N := 6) (ce1 := 1) (sl1 := 6) (v := .int 0) dX0_init_7 rfl wA_int rfl (fun U => sI_Cond_int U _) (by decide) (by decide) rfl (fun _ => rfl) rfl rfl rfl rfl rfl rfl ?_
  refine sw_putfinal (pc := 9) dX0_init_9 (gCX0 _ _ _ _ _) 0 (by decide) wF_X0_9 rfl rfl rfl rfl rfl (fun _ => rfl) (fun _ => rfl) rfl ?_
  refine sv_aload_n (pc := 12) dX0_init_12 rfl rfl ?_
  refine sv_sipush (pc := 13) (v := 12345) dX0_init_13 (by decide) ?_
  refine sv_iconst (pc := 16) (v := 0) dX0_init_16 (by decide) ?_
  refine sv_callV (pc := 17) (M' := mX0_goBy) (d' := 4) (C' := 0) (S' := 0) (av := [.int 12345, .int 0]) ?_ (gOk _ _ _ _ _) dX0_init_17 (tX0_goBy _ _ _ _ _) ⟨wV_X0_goBy, wL_X0_goBy⟩ wM_X0_15 (gCX0 _ _ _ _ _) rfl (lt_t rfl) rfl ⟨le_t rfl, le_t rfl⟩ ⟨le_t rfl, le_t rfl⟩ rfl (le_t rfl) (fun _ _ h => h)
  refine sC.of rfl (by decide) (le_t rfl) ?_
  refine sv_aload_n (pc := 0) dX0_goBy_0 rfl rfl ?_
  refine sv_iload_n (pc := 1) dX0_goBy_1 rfl rfl ?_
  refine sw_putfield (pc := 2) dX0_goBy_2 (gCX0 _ _ _ _ _) 5 (by decide) wF_X0_33 rfl rfl rfl (fun _ => rfl) (fun _ => rfl) rfl ?_
  refine sv_aload_n (pc := 5) dX0_goBy_5 rfl rfl ?_
  refine sv_iconst (pc := 6) (v := 0) dX0_goBy_6 (by decide) ?_
  refine sw_putfield (pc := 7) dX0_goBy_7 (gCX0 _ _ _ _ _) 4 (by decide) wF_X0_37 rfl rfl rfl (fun _ => rfl) (fun _ => rfl) rfl ?_
  refine sv_iload_n (pc := 10) dX0_goBy_10 rfl rfl ?_
  refine sv_istore_n (pc := 11) dX0_goBy_11 rfl (by decide) ?_
  refine sv_iload_n (pc := 12) dX0_goBy_12 rfl rfl ?_
  refine sv_if_le (pc := 13) (tgt := 34) dX0_goBy_13 (by decide) (fun h => absurd h (by decide)) (fun _ => ?_)
  refine sv_aload_n (pc := 16) dX0_goBy_16 rfl rfl ?_
  refine sv_dup (pc := 17) dX0_goBy_17 rfl ?_
  refine sw_getfield (pc := 18) dX0_goBy_18 (gCX0 _ _ _ _ _) 4 (by decide) wF_X0_37 rfl rfl rfl ?_
  refine sv_iconst (pc := 21) (v := 1) dX0_goBy_21 (by decide) ?_
  refine sw_iadd (pc := 22) (v := 1) dX0_goBy_22 (by decide) ?_
  refine sw_putfield (pc := 23) dX0_goBy_23 (gCX0 _ _ _ _ _) 4 (by decide) wF_X0_37 rfl rfl rfl (fun _ => rfl) (fun _ => rfl) rfl ?_
  refine sv_iload_n (pc := 26) dX0_goBy_26 rfl rfl ?_
  refine sv_bipush (pc := 27) (v := 10) dX0_goBy_27 (by decide) ?_
  refine sw_idiv (pc := 29) (v := 1234) dX0_goBy_29 (by decide) (by decide) ?_
  refine sv_istore_n (pc := 30) dX0_goBy_30 rfl (by decide) ?_
  refine sv_goto (pc := 31) (tgt := 12) dX0_goBy_31 (by decide) ?_
  refine sv_iload_n (pc := 12) dX0_goBy_12 rfl rfl ?_
  refine sv_if_le (pc := 13) (tgt := 34) dX0_goBy_13 (by decide) (fun h => absurd h (by decide)) (fun _ => ?_)
  refine sv_aload_n (pc := 16) dX0_goBy_16 rfl rfl ?_
  refine sv_dup (pc := 17) dX0_goBy_17 rfl ?_
  refine sw_getfield (pc := 18) dX0_goBy_18 (gCX0 _ _ _ _ _) 4 (by decide) wF_X0_37 rfl rfl rfl ?_
  refine sv_iconst (pc := 21) (v := 1) dX0_goBy_21 (by decide) ?_
  refine sw_iadd (pc := 22) (v := 2) dX0_goBy_22 (by decide) ?_
  refine sw_putfield (pc := 23) dX0_goBy_23 (gCX0 _ _ _ _ _) 4 (by decide) wF_X0_37 rfl rfl rfl (fun _ => rfl) (fun _ => rfl) rfl ?_
  refine sv_iload_n (pc := 26) dX0_goBy_26 rfl rfl ?_
  refine sv_bipush (pc := 27) (v := 10) dX0_goBy_27 (by decide) ?_
  refine sw_idiv (pc := 29) (v := 123) dX0_goBy_29 (by decide) (by decide) ?_
  refine sv_istore_n (pc := 30) dX0_goBy_30 rfl (by decide) ?_
  refine sv_goto (pc := 31) (tgt := 12) dX0_goBy_31 (by decide) ?_
  refine sv_iload_n (pc := 12) dX0_goBy_12 rfl rfl ?_
  refine sv_if_le (pc := 13) (tgt := 34) dX0_goBy_13 (by decide) (fun h => absurd h (by decide)) (fun _ => ?_)
  refine sv_aload_n (pc := 16) dX0_goBy_16 rfl rfl ?_
  refine sv_dup (pc := 17) dX0_goBy_17 rfl ?_
  refine sw_getfield (pc := 18) dX0_goBy_18 (gCX0 _ _ _ _ _) 4 (by decide) wF_X0_37 rfl rfl rfl ?_
  refine sv_iconst (pc := 21) (v := 1) dX0_goBy_21 (by decide) ?_
  refine sw_iadd (pc := 22) (v := 3) dX0_goBy_22 (by decide) ?_
  refine sw_putfield (pc := 23) dX0_goBy_23 (gCX0 _ _ _ _ _) 4 (by decide) wF_X0_37 rfl rfl rfl (fun _ => rfl) (fun _ => rfl) rfl ?_
  refine sv_iload_n (pc := 26) dX0_goBy_26 rfl rfl ?_
  refine sv_bipush (pc := 27) (v := 10) dX0_goBy_27 (by decide) ?_
  refine sw_idiv (pc := 29) (v := 12) dX0_goBy_29 (by decide) (by decide) ?_
  refine sv_istore_n (pc := 30) dX0_goBy_30 rfl (by decide) ?_
  refine sv_goto (pc := 31) (tgt := 12) dX0_goBy_31 (by decide) ?_
  refine sv_iload_n (pc := 12) dX0_goBy_12 rfl rfl ?_
  refine sv_if_le (pc := 13) (tgt := 34) dX0_goBy_13 (by decide) (fun h => absurd h (by decide)) (fun _ => ?_)
  refine sv_aload_n (pc := 16) dX0_goBy_16 rfl rfl ?_
  refine sv_dup (pc := 17) dX0_goBy_17 rfl ?_
  refine sw_getfield (pc := 18) dX0_goBy_18 (gCX0 _ _ _ _ _) 4 (by decide) wF_X0_37 rfl rfl rfl ?_
  refine sv_iconst (pc := 21) (v := 1) dX0_goBy_21 (by decide) ?_
  refine sw_iadd (pc := 22) (v := 4) dX0_goBy_22 (by decide) ?_
  refine sw_putfield (pc := 23) dX0_goBy_23 (gCX0 _ _ _ _ _) 4 (by decide) wF_X0_37 rfl rfl rfl (fun _ => rfl) (fun _ => rfl) rfl ?_
  refine sv_iload_n (pc := 26) dX0_goBy_26 rfl rfl ?_
  refine sv_bipush (pc := 27) (v := 10) dX0_goBy_27 (by decide) ?_
  refine sw_idiv (pc := 29) (v := 1) dX0_goBy_29 (by decide) (by decide) ?_
  refine sv_istore_n (pc := 30) dX0_goBy_30 rfl (by decide) ?_
  refine sv_goto (pc := 31) (tgt := 12) dX0_goBy_31 (by decide) ?_
  refine sv_iload_n (pc := 12) dX0_goBy_12 rfl rfl ?_
  refine sv_if_le (pc := 13) (tgt := 34) dX0_goBy_13 (by decide) (fun h => absurd h (by decide)) (fun _ => ?_)
  refine sv_aload_n (pc := 16) dX0_goBy_16 rfl rfl ?_
  refine sv_dup (pc := 17) dX0_goBy_17 rfl ?_
  refine sw_getfield (pc := 18) dX0_goBy_18 (gCX0 _ _ _ _ _) 4 (by decide) wF_X0_37 rfl rfl rfl ?_
  refine sv_iconst (pc := 21) (v := 1) dX0_goBy_21 (by decide) ?_
  refine sw_iadd (pc := 22) (v := 5) dX0_goBy_22 (by decide) ?_
  refine sw_putfield (pc := 23) dX0_goBy_23 (gCX0 _ _ _ _ _) 4 (by decide) wF_X0_37 rfl rfl rfl (fun _ => rfl) (fun _ => rfl) rfl ?_
  refine sv_iload_n (pc := 26) dX0_goBy_26 rfl rfl ?_
  refine sv_bipush (pc := 27) (v := 10) dX0_goBy_27 (by decide) ?_
  refine sw_idiv (pc := 29) (v := 0) dX0_goBy_29 (by decide) (by decide) ?_
  refine sv_istore_n (pc := 30) dX0_goBy_30 rfl (by decide) ?_
  refine sv_goto (pc := 31) (tgt := 12) dX0_goBy_31 (by decide) ?_
  refine sv_iload_n (pc := 12) dX0_goBy_12 rfl rfl ?_
  refine sv_if_le (pc := 13) (tgt := 34) dX0_goBy_13 (by decide) (fun _ => ?_) (fun h => absurd (by decide) h)
  refine sv_iload_n (pc := 34) dX0_goBy_34 rfl rfl ?_
  refine sv_istore_n (pc := 35) dX0_goBy_35 rfl (by decide) ?_
  refine sv_aload_n (pc := 36) dX0_goBy_36 rfl rfl ?_
  refine sw_getfield (pc := 37) dX0_goBy_37 (gCX0 _ _ _ _ _) 4 (by decide) wF_X0_37 rfl rfl rfl ?_
  refine sv_iconst (pc := 40) (v := 1) dX0_goBy_40 (by decide) ?_
  refine sw_isub (pc := 41) (v := 4) dX0_goBy_41 (by decide) ?_
  refine sv_istore (pc := 42) dX0_goBy_42 (by decide) ?_
  refine sv_lvG (pc := 44) (lv' := [(0, .ref 0), (1, .int 12345), (2, .int 0), (3, .int 12345), (4, .int 4)]) (List.forall_mem_cons.mpr ⟨rfl, List.forall_mem_cons.mpr ⟨rfl, List.forall_mem_cons.mpr ⟨rfl, List.forall_mem_cons.mpr ⟨rfl, List.forall_mem_cons.mpr ⟨rfl, fun _ h => absurd h List.not_mem_nil⟩⟩⟩⟩⟩) ?_
  refine sv_iload (pc := 44) dX0_goBy_44 rfl ?_
  refine sv_if_lt (pc := 46) (tgt := 71) dX0_goBy_46 (by decide) (fun h => absurd h (by decide)) (fun _ => ?_)
  refine sv_aload_n (pc := 49) dX0_goBy_49 rfl rfl ?_
  refine sw_getfield (pc := 50) dX0_goBy_50 (gCX0 _ _ _ _ _) 0 (by decide) wF_X0_9 rfl rfl rfl ?_
  refine sv_iload (pc := 53) dX0_goBy_53 rfl ?_
  refine sv_iload_n (pc := 55) dX0_goBy_55 rfl rfl ?_
  refine sv_bipush (pc := 56) (v := 10) dX0_goBy_56 (by decide) ?_
  refine sw_irem (pc := 58) (v := 5) dX0_goBy_58 (by decide) (by decide) ?_
  refine sw_iastore (pc := 59) (k := 4) (v := .int 5) dX0_goBy_59 rfl rfl rfl (by decide) (by decide) rfl rfl ?_
  refine sv_iload_n (pc := 60) dX0_goBy_60 rfl rfl ?_
  refine sv_bipush (pc := 61) (v := 10) dX0_goBy_61 (by decide) ?_
  refine sw_idiv (pc := 63) (v := 1234) dX0_goBy_63 (by decide) (by decide) ?_
  refine sv_istore_n (pc := 64) dX0_goBy_64 rfl (by decide) ?_
  refine sw_iinc (pc := 65) (v := 3) dX0_goBy_65 rfl (by decide) (by decide) ?_
  refine sv_goto (pc := 68) (tgt := 44) dX0_goBy_68 (by decide) ?_
  refine sv_iload (pc := 44) dX0_goBy_44 rfl ?_
  refine sv_if_lt (pc := 46) (tgt := 71) dX0_goBy_46 (by decide) (fun h => absurd h (by decide)) (fun _ => ?_)
  refine sv_aload_n (pc := 49) dX0_goBy_49 rfl rfl ?_
  refine sw_getfield (pc := 50) dX0_goBy_50 (gCX0 _ _ _ _ _) 0 (by decide) wF_X0_9 rfl rfl rfl ?_
  refine sv_iload (pc := 53) dX0_goBy_53 rfl ?_
  refine sv_iload_n (pc := 55) dX0_goBy_55 rfl rfl ?_
  refine sv_bipush (pc := 56) (v := 10) dX0_goBy_56 (by decide) ?_
  refine sw_irem (pc := 58) (v := 4) dX0_goBy_58 (by decide) (by decide) ?_
  refine sw_iastore (pc := 59) (k := 3) (v := .int 4) dX0_goBy_59 rfl rfl rfl (by decide) (by decide) rfl rfl ?_
  refine sv_iload_n (pc := 60) dX0_goBy_60 rfl rfl ?_
  refine sv_bipush (pc := 61) (v := 10) dX0_goBy_61 (by decide) ?_
  refine sw_idiv (pc := 63) (v := 123) dX0_goBy_63 (by decide) (by decide) ?_
  refine sv_istore_n (pc := 64) dX0_goBy_64 rfl (by decide) ?_
  refine sw_iinc (pc := 65) (v := 2) dX0_goBy_65 rfl (by decide) (by decide) ?_
  refine sv_goto (pc := 68) (tgt := 44) dX0_goBy_68 (by decide) ?_
  refine sv_iload (pc := 44) dX0_goBy_44 rfl ?_
  refine sv_if_lt (pc := 46) (tgt := 71) dX0_goBy_46 (by decide) (fun h => absurd h (by decide)) (fun _ => ?_)
  refine sv_aload_n (pc := 49) dX0_goBy_49 rfl rfl ?_
  refine sw_getfield (pc := 50) dX0_goBy_50 (gCX0 _ _ _ _ _) 0 (by decide) wF_X0_9 rfl rfl rfl ?_
  refine sv_iload (pc := 53) dX0_goBy_53 rfl ?_
  refine sv_iload_n (pc := 55) dX0_goBy_55 rfl rfl ?_
  refine sv_bipush (pc := 56) (v := 10) dX0_goBy_56 (by decide) ?_
  refine sw_irem (pc := 58) (v := 3) dX0_goBy_58 (by decide) (by decide) ?_
  refine sw_iastore (pc := 59) (k := 2) (v := .int 3) dX0_goBy_59 rfl rfl rfl (by decide) (by decide) rfl rfl ?_
  refine sv_iload_n (pc := 60) dX0_goBy_60 rfl rfl ?_
  refine sv_bipush (pc := 61) (v := 10) dX0_goBy_61 (by decide) ?_
  refine sw_idiv (pc := 63) (v := 12) dX0_goBy_63 (by decide) (by decide) ?_
  refine sv_istore_n (pc := 64) dX0_goBy_64 rfl (by decide) ?_
  refine sw_iinc (pc := 65) (v := 1) dX0_goBy_65 rfl (by decide) (by decide) ?_
  refine sv_goto (pc := 68) (tgt := 44) dX0_goBy_68 (by decide) ?_
  refine sv_iload (pc := 44) dX0_goBy_44 rfl ?_
  refine sv_if_lt (pc := 46) (tgt := 71) dX0_goBy_46 (by decide) (fun h => absurd h (by decide)) (fun _ => ?_)
  refine sv_aload_n (pc := 49) dX0_goBy_49 rfl rfl ?_
  refine sw_getfield (pc := 50) dX0_goBy_50 (gCX0 _ _ _ _ _) 0 (by decide) wF_X0_9 rfl rfl rfl ?_
  refine sv_iload (pc := 53) dX0_goBy_53 rfl ?_
  refine sv_iload_n (pc := 55) dX0_goBy_55 rfl rfl ?_
  refine sv_bipush (pc := 56) (v := 10) dX0_goBy_56 (by decide) ?_
  refine sw_irem (pc := 58) (v := 2) dX0_goBy_58 (by decide) (by decide) ?_
  refine sw_iastore (pc := 59) (k := 1) (v := .int 2) dX0_goBy_59 rfl rfl rfl (by decide) (by decide) rfl rfl ?_
  refine sv_iload_n (pc := 60) dX0_goBy_60 rfl rfl ?_
  refine sv_bipush (pc := 61) (v := 10) dX0_goBy_61 (by decide) ?_
  refine sw_idiv (pc := 63) (v := 1) dX0_goBy_63 (by decide) (by decide) ?_
  refine sv_istore_n (pc := 64) dX0_goBy_64 rfl (by decide) ?_
  refine sw_iinc (pc := 65) (v := 0) dX0_goBy_65 rfl (by decide) (by decide) ?_
  refine sv_lvG (pc := 68) (lv' := [(0, .ref 0), (1, .int 12345), (2, .int 0), (3, .int 1), (4, .int 0)]) (List.forall_mem_cons.mpr ⟨rfl, List.forall_mem_cons.mpr ⟨rfl, List.forall_mem_cons.mpr ⟨rfl, List.forall_mem_cons.mpr ⟨rfl, List.forall_mem_cons.mpr ⟨rfl, fun _ h => absurd h List.not_mem_nil⟩⟩⟩⟩⟩) ?_
  refine sv_goto (pc := 68) (tgt := 44) dX0_goBy_68 (by decide) ?_
  refine sv_iload (pc := 44) dX0_goBy_44 rfl ?_
  refine sv_if_lt (pc := 46) (tgt := 71) dX0_goBy_46 (by decide) (fun h => absurd h (by decide)) (fun _ => ?_)
  refine sv_aload_n (pc := 49) dX0_goBy_49 rfl rfl ?_
  refine sw_getfield (pc := 50) dX0_goBy_50 (gCX0 _ _ _ _ _) 0 (by decide) wF_X0_9 rfl rfl rfl ?_
  refine sv_iload (pc := 53) dX0_goBy_53 rfl ?_
  refine sv_iload_n (pc := 55) dX0_goBy_55 rfl rfl ?_
  refine sv_bipush (pc := 56) (v := 10) dX0_goBy_56 (by decide) ?_
  refine sw_irem (pc := 58) (v := 1) dX0_goBy_58 (by decide) (by decide) ?_
  refine sw_iastore (pc := 59) (k := 0) (v := .int 1) dX0_goBy_59 rfl rfl rfl (by decide) (by decide) rfl rfl ?_
  refine sv_iload_n (pc := 60) dX0_goBy_60 rfl rfl ?_
  refine sv_bipush (pc := 61) (v := 10) dX0_goBy_61 (by decide) ?_
  refine sw_idiv (pc := 63) (v := 0) dX0_goBy_63 (by decide) (by decide) ?_
  refine sv_istore_n (pc := 64) dX0_goBy_64 rfl (by decide) ?_
  refine sw_iinc (pc := 65) (v := (-1)) dX0_goBy_65 rfl (by decide) (by decide) ?_
  refine sv_goto (pc := 68) (tgt := 44) dX0_goBy_68 (by decide) ?_
  refine sv_iload (pc := 44) dX0_goBy_44 rfl ?_
  refine sv_if_lt (pc := 46) (tgt := 71) dX0_goBy_46 (by decide) (fun _ => ?_) (fun h => absurd (by decide) h)
  refine sv_vret (pc := 71) dX0_goBy_71 rfl (le_t rfl) (le_t rfl) ?_
  refine sv_aload_n (pc := 20) dX0_init_20 rfl rfl ?_
  refine sv_bipush (pc := 21) (v := 10) dX0_init_21 (by decide) ?_
  refine sw_newarray (pc := 23) (kd := 0) (a := 2) (n1 := 3) (N := 10) (ce1 := 2) (sl1 := 16) (v := .int 0) dX0_init_23 rfl wA_int rfl (fun U => sI_Cond_int U _) (by decide) (by decide) rfl (fun _ => rfl) rfl rfl rfl rfl rfl rfl ?_
  refine sw_putfinal (pc := 25) dX0_init_25 (gCX0 _ _ _ _ _) 1 (by decide) wF_X0_19 rfl rfl rfl rfl rfl (fun _ => rfl) (fun _ => rfl) rfl ?_
  refine sv_aload_n (pc := 28) dX0_init_28 rfl rfl ?_
  refine sv_bipush (pc := 29) (v := 10) dX0_init_29 (by decide) ?_
  refine sw_newarray (pc := 31) (kd := 0) (a := 3) (n1 := 4) (N := 10) (ce1 := 3) (sl1 := 26) (v := .int 0) dX0_init_31 rfl wA_int rfl (fun U => sI_Cond_int U _) (by decide) (by decide) rfl (fun _ => rfl) rfl rfl rfl rfl rfl rfl ?_
  refine sw_putfinal (pc := 33) dX0_init_33 (gCX0 _ _ _ _ _) 2 (by decide) wF_X0_22 rfl rfl rfl rfl rfl (fun _ => rfl) (fun _ => rfl) rfl ?_
  refine sv_aload_n (pc := 36) dX0_init_36 rfl rfl ?_
  refine sv_bipush (pc := 37) (v := 10) dX0_init_37 (by decide) ?_
  refine sw_anewarray (pc := 39) (kd := 4) (a := 4) (n1 := 5) (N := 10) (ce1 := 4) (sl1 := 36) dX0_init_39 wC_X0_25 rfl (by decide) (by decide) rfl rfl rfl rfl rfl rfl rfl ?_
  refine sw_putfinal (pc := 42) dX0_init_42 (gCX0 _ _ _ _ _) 3 (by decide) wF_X0_27 rfl rfl rfl rfl rfl (fun _ => rfl) (fun _ => rfl) rfl ?_
  refine sv_iconst (pc := 45) (v := 0) dX0_init_45 (by decide) ?_
  refine sv_istore_n (pc := 46) dX0_init_46 rfl (by decide) ?_
  refine sv_iload_n (pc := 47) dX0_init_47 rfl rfl ?_
  refine sv_bipush (pc := 48) (v := 10) dX0_init_48 (by decide) ?_
  refine sv_icmp_ge (pc := 50) (tgt := 87) dX0_init_50 (by decide) (fun h => absurd h (by decide)) (fun _ => ?_)
  refine sv_aload_n (pc := 53) dX0_init_53 rfl rfl ?_
  refine sw_getfield (pc := 54) dX0_init_54 (gCX0 _ _ _ _ _) 1 (by decide) wF_X0_19 rfl rfl rfl ?_
  refine sv_iload_n (pc := 57) dX0_init_57 rfl rfl ?_
  refine sv_iconst (pc := 58) (v := (-1)) dX0_init_58 (by decide) ?_
  refine sw_iastore (pc := 59) (k := 0) (v := .int (-1)) dX0_init_59 rfl rfl rfl (by decide) (by decide) rfl rfl ?_
  refine sv_aload_n (pc := 60) dX0_init_60 rfl rfl ?_
  refine sw_getfield (pc := 61) dX0_init_61 (gCX0 _ _ _ _ _) 2 (by decide) wF_X0_22 rfl rfl rfl ?_
  refine sv_iload_n (pc := 64) dX0_init_64 rfl rfl ?_
  refine sv_ldc (pc := 65) dX0_init_65 wG_X0_31 ?_
  refine sw_iastore (pc := 67) (k := 0) (v := .int (-99999999)) dX0_init_67 rfl rfl rfl (by decide) (by decide) rfl rfl ?_
  refine sv_aload_n (pc := 68) dX0_init_68 rfl rfl ?_
  refine sw_getfield (pc := 69) dX0_init_69 (gCX0 _ _ _ _ _) 3 (by decide) wF_X0_27 rfl rfl rfl ?_
  refine sv_iload_n (pc := 72) dX0_init_72 rfl rfl ?_
  refine sw_new (pc := 73) (a := 5) (n1 := 6) (ce1 := 5) (sl1 := 48) (fs := zX7) dX0_init_73 (gCX7 _ _ _ _ _) wC_X0_25 wN_X7 wI_X7 zX7_ok rfl rfl rfl rfl rfl rfl ?_
  refine sv_dup (pc := 76) dX0_init_76 rfl ?_
  refine sv_callI (pc := 77) (M' := mX7_init) (d' := 4) (C' := 2) (S' := 28) (av := []) ?_ (gOk _ _ _ _ _) dX0_init_77 (tX7_init _ _ _ _ _) rfl rfl wV_X7_init wM_X0_32 ⟨le_t rfl, le_t rfl⟩ ⟨le_t rfl, le_t rfl⟩ rfl (le_t rfl) (fun _ _ h => h)
  refine sC.of rfl (by decide) (le_t rfl) ?_
  refine sv_aload_n (pc := 0) dX7_init_0 rfl rfl ?_
  refine sv_objinit (pc := 1) dX7_init_1 wM_X7_3 wV_obj wK_obj ⟨le_t rfl, le_t rfl⟩ (le_t rfl) ?_
  refine sv_aload_n (pc := 4) dX7_init_4 rfl rfl ?_
  refine sv_bipush (pc := 5) (v := 20) dX7_init_5 (by decide) ?_
  refine sw_newarray (pc := 7) (kd := 0) (a := 6) (n1 := 7) (N := 20) (ce1 := 1) (sl1 := 20) (v := .int 0) dX7_init_7 rfl wA_int rfl (fun U => sI_Cond_int U _) (by decide) (by decide) rfl (fun _ => rfl) rfl rfl rfl rfl rfl rfl ?_
  refine sw_putfinal (pc := 9) dX7_init_9 (gCX7 _ _ _ _ _) 0 (by decide) wF_X7_9 rfl rfl rfl rfl rfl (fun _ => rfl) (fun _ => rfl) rfl ?_
  refine sv_aload_n (pc := 12) dX7_init_12 rfl rfl ?_
  refine sv_bipush (pc := 13) (v := 8) dX7_init_13 (by decide) ?_
  refine sw_newarray (pc := 15) (kd := 0) (a := 7) (n1 := 8) (N := 8) (ce1 := 2) (sl1 := 28) (v := .int 0) dX7_init_15 rfl wA_int rfl (fun U => sI_Cond_int U _) (by decide) (by decide) rfl (fun _ => rfl) rfl rfl rfl rfl rfl rfl ?_
  refine sw_putfinal (pc := 17) dX7_init_17 (gCX7 _ _ _ _ _) 1 (by decide) wF_X7_15 rfl rfl rfl rfl rfl (fun _ => rfl) (fun _ => rfl) rfl ?_
  refine sv_aload_n (pc := 20) dX7_init_20 rfl rfl ?_
  refine sv_iconst (pc := 21) (v := (-1)) dX7_init_21 (by decide) ?_
  refine sw_putfield (pc := 22) dX7_init_22 (gCX7 _ _ _ _ _) 9 (by decide) wF_X7_18 rfl rfl rfl (fun _ => rfl) (fun _ => rfl) rfl ?_
  refine sv_vret (pc := 25) dX7_init_25 rfl (le_t rfl) (le_t rfl) ?_
  refine sw_aastore (pc := 80) (k := 0) dX0_init_80 (gCX7 _ _ _ _ _) rfl rfl rfl (by decide) (by decide) rfl rfl rfl ?_
  refine sw_iinc (pc := 81) (v := 1) dX0_init_81 rfl (by decide) (by decide) ?_
  refine sv_goto (pc := 84) (tgt := 47) dX0_init_84 (by decide) ?_
  refine sv_iload_n (pc := 47) dX0_init_47 rfl rfl ?_
  refine sv_bipush (pc := 48) (v := 10) dX0_init_48 (by decide) ?_
  refine sv_icmp_ge (pc := 50) (tgt := 87) dX0_init_50 (by decide) (fun h => absurd h (by decide)) (fun _ => ?_)
  refine sv_aload_n (pc := 53) dX0_init_53 rfl rfl ?_
  refine sw_getfield (pc := 54) dX0_init_54 (gCX0 _ _ _ _ _) 1 (by decide) wF_X0_19 rfl rfl rfl ?_
  refine sv_iload_n (pc := 57) dX0_init_57 rfl rfl ?_
  refine sv_iconst (pc := 58) (v := (-1)) dX0_init_58 (by decide) ?_
  refine sw_iastore (pc := 59) (k := 1) (v := .int (-1)) dX0_init_59 rfl rfl rfl (by decide) (by decide) rfl rfl ?_
  refine sv_aload_n (pc := 60) dX0_init_60 rfl rfl ?_
  refine sw_getfield (pc := 61) dX0_init_61 (gCX0 _ _ _ _ _) 2 (by decide) wF_X0_22 rfl rfl rfl ?_
  refine sv_iload_n (pc := 64) dX0_init_64 rfl rfl ?_
  refine sv_ldc (pc := 65) dX0_init_65 wG_X0_31 ?_
  refine sw_iastore (pc := 67) (k := 1) (v := .int (-99999999)) dX0_init_67 rfl rfl rfl (by decide) (by decide) rfl rfl ?_
  refine sv_aload_n (pc := 68) dX0_init_68 rfl rfl ?_
  refine sw_getfield (pc := 69) dX0_init_69 (gCX0 _ _ _ _ _) 3 (by decide) wF_X0_27 rfl rfl rfl ?_
  refine sv_iload_n (pc := 72) dX0_init_72 rfl rfl ?_
  refine sw_new (pc := 73) (a := 8) (n1 := 9) (ce1 := 8) (sl1 := 88) (fs := zX7) dX0_init_73 (gCX7 _ _ _ _ _) wC_X0_25 wN_X7 wI_X7 zX7_ok rfl rfl rfl rfl rfl rfl ?_
  refine sv_dup (pc := 76) dX0_init_76 rfl ?_
  refine sv_callI (pc := 77) (M' := mX7_init) (d' := 4) (C' := 2) (S' := 28) (av := []) ?_ (gOk _ _ _ _ _) dX0_init_77 (tX7_init _ _ _ _ _) rfl rfl wV_X7_init wM_X0_32 ⟨le_t rfl, le_t rfl⟩ ⟨le_t rfl, le_t rfl⟩ rfl (le_t rfl) (fun _ _ h => h)
  refine sC.of rfl (by decide) (le_t rfl) ?_
  refine sv_aload_n (pc := 0) dX7_init_0 rfl rfl ?_
  refine sv_objinit (pc := 1) dX7_init_1 wM_X7_3 wV_obj wK_obj ⟨le_t rfl, le_t rfl⟩ (le_t rfl) ?_
  refine sv_aload_n (pc := 4) dX7_init_4 rfl rfl ?_
  refine sv_bipush (pc := 5) (v := 20) dX7_init_5 (by decide) ?_
  refine sw_newarray (pc := 7) (kd := 0) (a := 9) (n1 := 10) (N := 20) (ce1 := 1) (sl1 := 20) (v := .int 0) dX7_init_7 rfl wA_int rfl (fun U => sI_Cond_int U _) (by decide) (by decide) rfl (fun _ => rfl) rfl rfl rfl rfl rfl rfl ?_
  refine sw_putfinal (pc := 9) dX7_init_9 (gCX7 _ _ _ _ _) 0 (by decide) wF_X7_9 rfl rfl rfl rfl rfl (fun _ => rfl) (fun _ => rfl) rfl ?_
  refine sv_aload_n (pc := 12) dX7_init_12 rfl rfl ?_
  refine sv_bipush (pc := 13) (v := 8) dX7_init_13 (by decide) ?_
  refine sw_newarray (pc := 15) (kd := 0) (a := 10) (n1 := 11) (N := 8) (ce1 := 2) (sl1 := 28) (v := .int 0) dX7_init_15 rfl wA_int rfl (fun U => sI_Cond_int U _) (by decide) (by decide) rfl (fun _ => rfl) rfl rfl rfl rfl rfl rfl ?_
  refine sw_putfinal (pc := 17) dX7_init_17 (gCX7 _ _ _ _ _) 1 (by decide) wF_X7_15 rfl rfl rfl rfl rfl (fun _ => rfl) (fun _ => rfl) rfl ?_
  refine sv_aload_n (pc := 20) dX7_init_20 rfl rfl ?_
  refine sv_iconst (pc := 21) (v := (-1)) dX7_init_21 (by decide) ?_
  refine sw_putfield (pc := 22) dX7_init_22 (gCX7 _ _ _ _ _) 9 (by decide) wF_X7_18 rfl rfl rfl (fun _ => rfl) (fun _ => rfl) rfl ?_
  refine sv_vret (pc := 25) dX7_init_25 rfl (le_t rfl) (le_t rfl) ?_
  refine sw_aastore (pc := 80) (k := 1) dX0_init_80 (gCX7 _ _ _ _ _) rfl rfl rfl (by decide) (by decide) rfl rfl rfl ?_
  refine sw_iinc (pc := 81) (v := 2) dX0_init_81 rfl (by decide) (by decide) ?_
  refine sv_goto (pc := 84) (tgt := 47) dX0_init_84 (by decide) ?_
  refine sv_iload_n (pc := 47) dX0_init_47 rfl rfl ?_
  refine sv_bipush (pc := 48) (v := 10) dX0_init_48 (by decide) ?_
  refine sv_icmp_ge (pc := 50) (tgt := 87) dX0_init_50 (by decide) (fun h => absurd h (by decide)) (fun _ => ?_)
  refine sv_aload_n (pc := 53) dX0_init_53 rfl rfl ?_
  refine sw_getfield (pc := 54) dX0_init_54 (gCX0 _ _ _ _ _) 1 (by decide) wF_X0_19 rfl rfl rfl ?_
  refine sv_iload_n (pc := 57) dX0_init_57 rfl rfl ?_
  refine sv_iconst (pc := 58) (v := (-1)) dX0_init_58 (by decide) ?_
  refine sw_iastore (pc := 59) (k := 2) (v := .int (-1)) dX0_init_59 rfl rfl rfl (by decide) (by decide) rfl rfl ?_
  refine sv_aload_n (pc := 60) dX0_init_60 rfl rfl ?_
  refine sw_getfield (pc := 61) dX0_init_61 (gCX0 _ _ _ _ _) 2 (by decide) wF_X0_22 rfl rfl rfl ?_
  refine sv_iload_n (pc := 64) dX0_init_64 rfl rfl ?_
  refine sv_ldc (pc := 65) dX0_init_65 wG_X0_31 ?_
  refine sw_iastore (pc := 67) (k := 2) (v := .int (-99999999)) dX0_init_67 rfl rfl rfl (by decide) (by decide) rfl rfl ?_
  refine sv_aload_n (pc := 68) dX0_init_68 rfl rfl ?_
  refine sw_getfield (pc := 69) dX0_init_69 (gCX0 _ _ _ _ _) 3 (by decide) wF_X0_27 rfl rfl rfl ?_
  refine sv_iload_n (pc := 72) dX0_init_72 rfl rfl ?_
  refine sw_new (pc := 73) (a := 11) (n1 := 12) (ce1 := 11) (sl1 := 128) (fs := zX7) dX0_init_73 (gCX7 _ _ _ _ _) wC_X0_25 wN_X7 wI_X7 zX7_ok rfl rfl rfl rfl rfl rfl ?_
  refine sv_dup (pc := 76) dX0_init_76 rfl ?_
  refine sv_callI (pc := 77) (M' := mX7_init) (d' := 4) (C' := 2) (S' := 28) (av := []) ?_ (gOk _ _ _ _ _) dX0_init_77 (tX7_init _ _ _ _ _) rfl rfl wV_X7_init wM_X0_32 ⟨le_t rfl, le_t rfl⟩ ⟨le_t rfl, le_t rfl⟩ rfl (le_t rfl) (fun _ _ h => h)
  refine sC.of rfl (by decide) (le_t rfl) ?_
  refine sv_aload_n (pc := 0) dX7_init_0 rfl rfl ?_
  refine sv_objinit (pc := 1) dX7_init_1 wM_X7_3 wV_obj wK_obj ⟨le_t rfl, le_t rfl⟩ (le_t rfl) ?_
  refine sv_aload_n (pc := 4) dX7_init_4 rfl rfl ?_
  refine sv_bipush (pc := 5) (v := 20) dX7_init_5 (by decide) ?_
  refine sw_newarray (pc := 7) (kd := 0) (a := 12) (n1 := 13) (N := 20) (ce1 := 1) (sl1 := 20) (v := .int 0) dX7_init_7 rfl wA_int rfl (fun U => sI_Cond_int U _) (by decide) (by decide) rfl (fun _ => rfl) rfl rfl rfl rfl rfl rfl ?_
  refine sw_putfinal (pc := 9) dX7_init_9 (gCX7 _ _ _ _ _) 0 (by decide) wF_X7_9 rfl rfl rfl rfl rfl (fun _ => rfl) (fun _ => rfl) rfl ?_
  refine sv_aload_n (pc := 12) dX7_init_12 rfl rfl ?_
  refine sv_bipush (pc := 13) (v := 8) dX7_init_13 (by decide) ?_
  refine sw_newarray (pc := 15) (kd := 0) (a := 13) (n1 := 14) (N := 8) (ce1 := 2) (sl1 := 28) (v := .int 0) dX7_init_15 rfl wA_int rfl (fun U => sI_Cond_int U _) (by decide) (by decide) rfl (fun _ => rfl) rfl rfl rfl rfl rfl rfl ?_
  refine sw_putfinal (pc := 17) dX7_init_17 (gCX7 _ _ _ _ _) 1 (by decide) wF_X7_15 rfl rfl rfl rfl rfl (fun _ => rfl) (fun _ => rfl) rfl ?_
  refine sv_aload_n (pc := 20) dX7_init_20 rfl rfl ?_
  refine sv_iconst (pc := 21) (v := (-1)) dX7_init_21 (by decide) ?_
  refine sw_putfield (pc := 22) dX7_init_22 (gCX7 _ _ _ _ _) 9 (by decide) wF_X7_18 rfl rfl rfl (fun _ => rfl) (fun _ => rfl) rfl ?_
  refine sv_vret (pc := 25) dX7_init_25 rfl (le_t rfl) (le_t rfl) ?_
  refine sw_aastore (pc := 80) (k := 2) dX0_init_80 (gCX7 _ _ _ _ _) rfl rfl rfl (by decide) (by decide) rfl rfl rfl ?_
  refine sw_iinc (pc := 81) (v := 3) dX0_init_81 rfl (by decide) (by decide) ?_
  refine sv_goto (pc := 84) (tgt := 47) dX0_init_84 (by decide) ?_
  refine sv_iload_n (pc := 47) dX0_init_47 rfl rfl ?_
  refine sv_bipush (pc := 48) (v := 10) dX0_init_48 (by decide) ?_
  refine sv_icmp_ge (pc := 50) (tgt := 87) dX0_init_50 (by decide) (fun h => absurd h (by decide)) (fun _ => ?_)
  refine sv_aload_n (pc := 53) dX0_init_53 rfl rfl ?_
  refine sw_getfield (pc := 54) dX0_init_54 (gCX0 _ _ _ _ _) 1 (by decide) wF_X0_19 rfl rfl rfl ?_
  refine sv_iload_n (pc := 57) dX0_init_57 rfl rfl ?_
  refine sv_iconst (pc := 58) (v := (-1)) dX0_init_58 (by decide) ?_
  refine sw_iastore (pc := 59) (k := 3) (v := .int (-1)) dX0_init_59 rfl rfl rfl (by decide) (by decide) rfl rfl ?_
  refine sv_aload_n (pc := 60) dX0_init_60 rfl rfl ?_
  refine sw_getfield (pc := 61) dX0_init_61 (gCX0 _ _ _ _ _) 2 (by decide) wF_X0_22 rfl rfl rfl ?_
  refine sv_iload_n (pc := 64) dX0_init_64 rfl rfl ?_
  refine sv_ldc (pc := 65) dX0_init_65 wG_X0_31 ?_
  refine sw_iastore (pc := 67) (k := 3) (v := .int (-99999999)) dX0_init_67 rfl rfl rfl (by decide) (by decide) rfl rfl ?_
  refine sv_aload_n (pc := 68) dX0_init_68 rfl rfl ?_
  refine sw_getfield (pc := 69) dX0_init_69 (gCX0 _ _ _ _ _) 3 (by decide) wF_X0_27 rfl rfl rfl ?_
  refine sv_iload_n (pc := 72) dX0_init_72 rfl rfl ?_
  refine sw_new (pc := 73) (a := 14) (n1 := 15) (ce1 := 14) (sl1 := 168) (fs := zX7) dX0_init_73 (gCX7 _ _ _ _ _) wC_X0_25 wN_X7 wI_X7 zX7_ok rfl rfl rfl rfl rfl rfl ?_
  refine sv_dup (pc := 76) dX0_init_76 rfl ?_
  refine sv_callI (pc := 77) (M' := mX7_init) (d' := 4) (C' := 2) (S' := 28) (av := []) ?_ (gOk _ _ _ _ _) dX0_init_77 (tX7_init _ _ _ _ _) rfl rfl wV_X7_init wM_X0_32 ⟨le_t rfl, le_t rfl⟩ ⟨le_t rfl, le_t rfl⟩ rfl (le_t rfl) (fun _ _ h => h)
  refine sC.of rfl (by decide) (le_t rfl) ?_
  refine sv_aload_n (pc := 0) dX7_init_0 rfl rfl ?_
  refine sv_objinit (pc := 1) dX7_init_1 wM_X7_3 wV_obj wK_obj ⟨le_t rfl, le_t rfl⟩ (le_t rfl) ?_
  refine sv_aload_n (pc := 4) dX7_init_4 rfl rfl ?_
  refine sv_bipush (pc := 5) (v := 20) dX7_init_5 (by decide) ?_
  refine sw_newarray (pc := 7) (kd := 0) (a := 15) (n1 := 16) (N := 20) (ce1 := 1) (sl1 := 20) (v := .int 0) dX7_init_7 rfl wA_int rfl (fun U => sI_Cond_int U _) (by decide) (by decide) rfl (fun _ => rfl) rfl rfl rfl rfl rfl rfl ?_
  refine sw_putfinal (pc := 9) dX7_init_9 (gCX7 _ _ _ _ _) 0 (by decide) wF_X7_9 rfl rfl rfl rfl rfl (fun _ => rfl) (fun _ => rfl) rfl ?_
  refine sv_aload_n (pc := 12) dX7_init_12 rfl rfl ?_
  refine sv_bipush (pc := 13) (v := 8) dX7_init_13 (by decide) ?_
  refine sw_newarray (pc := 15) (kd := 0) (a := 16) (n1 := 17) (N := 8) (ce1 := 2) (sl1 := 28) (v := .int 0) dX7_init_15 rfl wA_int rfl (fun U => sI_Cond_int U _) (by decide) (by decide) rfl (fun _ => rfl) rfl rfl rfl rfl rfl rfl ?_
  refine sw_putfinal (pc := 17) dX7_init_17 (gCX7 _ _ _ _ _) 1 (by decide) wF_X7_15 rfl rfl rfl rfl rfl (fun _ => rfl) (fun _ => rfl) rfl ?_
  refine sv_aload_n (pc := 20) dX7_init_20 rfl rfl ?_
  refine sv_iconst (pc := 21) (v := (-1)) dX7_init_21 (by decide) ?_
  refine sw_putfield (pc := 22) dX7_init_22 (gCX7 _ _ _ _ _) 9 (by decide) wF_X7_18 rfl rfl rfl (fun _ => rfl) (fun _ => rfl) rfl ?_
  refine sv_vret (pc := 25) dX7_init_25 rfl (le_t rfl) (le_t rfl) ?_
  refine sw_aastore (pc := 80) (k := 3) dX0_init_80 (gCX7 _ _ _ _ _) rfl rfl rfl (by decide) (by decide) rfl rfl rfl ?_
  refine sw_iinc (pc := 81) (v := 4) dX0_init_81 rfl (by decide) (by decide) ?_
  refine sv_goto (pc := 84) (tgt := 47) dX0_init_84 (by decide) ?_
  refine sv_iload_n (pc := 47) dX0_init_47 rfl rfl ?_
  refine sv_bipush (pc := 48) (v := 10) dX0_init_48 (by decide) ?_
  refine sv_icmp_ge (pc := 50) (tgt := 87) dX0_init_50 (by decide) (fun h => absurd h (by decide)) (fun _ => ?_)
  refine sv_aload_n (pc := 53) dX0_init_53 rfl rfl ?_
  refine sw_getfield (pc := 54) dX0_init_54 (gCX0 _ _ _ _ _) 1 (by decide) wF_X0_19 rfl rfl rfl ?_
  refine sv_iload_n (pc := 57) dX0_init_57 rfl rfl ?_
  refine sv_iconst (pc := 58) (v := (-1)) dX0_init_58 (by decide) ?_
  refine sw_iastore (pc := 59) (k := 4) (v := .int (-1)) dX0_init_59 rfl rfl rfl (by decide) (by decide) rfl rfl ?_
  refine sv_aload_n (pc := 60) dX0_init_60 rfl rfl ?_
  refine sw_getfield (pc := 61) dX0_init_61 (gCX0 _ _ _ _ _) 2 (by decide) wF_X0_22 rfl rfl rfl ?_
  refine sv_iload_n (pc := 64) dX0_init_64 rfl rfl ?_
  refine sv_ldc (pc := 65) dX0_init_65 wG_X0_31 ?_
  refine sw_iastore (pc := 67) (k := 4) (v := .int (-99999999)) dX0_init_67 rfl rfl rfl (by decide) (by decide) rfl rfl ?_
  refine sv_aload_n (pc := 68) dX0_init_68 rfl rfl ?_
  refine sw_getfield (pc := 69) dX0_init_69 (gCX0 _ _ _ _ _) 3 (by decide) wF_X0_27 rfl rfl rfl ?_
  refine sv_iload_n (pc := 72) dX0_init_72 rfl rfl ?_
  refine sw_new (pc := 73) (a := 17) (n1 := 18) (ce1 := 17) (sl1 := 208) (fs := zX7) dX0_init_73 (gCX7 _ _ _ _ _) wC_X0_25 wN_X7 wI_X7 zX7_ok rfl rfl rfl rfl rfl rfl ?_
  refine sv_dup (pc := 76) dX0_init_76 rfl ?_
  refine sv_callI (pc := 77) (M' := mX7_init) (d' := 4) (C' := 2) (S' := 28) (av := []) ?_ (gOk _ _ _ _ _) dX0_init_77 (tX7_init _ _ _ _ _) rfl rfl wV_X7_init wM_X0_32 ⟨le_t rfl, le_t rfl⟩ ⟨le_t rfl, le_t rfl⟩ rfl (le_t rfl) (fun _ _ h => h)
  refine sC.of rfl (by decide) (le_t rfl) ?_
  refine sv_aload_n (pc := 0) dX7_init_0 rfl rfl ?_
  refine sv_objinit (pc := 1) dX7_init_1 wM_X7_3 wV_obj wK_obj ⟨le_t rfl, le_t rfl⟩ (le_t rfl) ?_
  refine sv_aload_n (pc := 4) dX7_init_4 rfl rfl ?_
  refine sv_bipush (pc := 5) (v := 20) dX7_init_5 (by decide) ?_
  refine sw_newarray (pc := 7) (kd := 0) (a := 18) (n1 := 19) (N := 20) (ce1 := 1) (sl1 := 20) (v := .int 0) dX7_init_7 rfl wA_int rfl (fun U => sI_Cond_int U _) (by decide) (by decide) rfl (fun _ => rfl) rfl rfl rfl rfl rfl rfl ?_
  refine sw_putfinal (pc := 9) dX7_init_9 (gCX7 _ _ _ _ _) 0 (by decide) wF_X7_9 rfl rfl rfl rfl rfl (fun _ => rfl) (fun _ => rfl) rfl ?_
  refine sv_aload_n (pc := 12) dX7_init_12 rfl rfl ?_
  refine sv_bipush (pc := 13) (v := 8) dX7_init_13 (by decide) ?_
  refine sw_newarray (pc := 15) (kd := 0) (a := 19) (n1 := 20) (N := 8) (ce1 := 2) (sl1 := 28) (v := .int 0) dX7_init_15 rfl wA_int rfl (fun U => sI_Cond_int U _) (by decide) (by decide) rfl (fun _ => rfl) rfl rfl rfl rfl rfl rfl ?_
  refine sw_putfinal (pc := 17) dX7_init_17 (gCX7 _ _ _ _ _) 1 (by decide) wF_X7_15 rfl rfl rfl rfl rfl (fun _ => rfl) (fun _ => rfl) rfl ?_
  refine sv_aload_n (pc := 20) dX7_init_20 rfl rfl ?_
  refine sv_iconst (pc := 21) (v := (-1)) dX7_init_21 (by decide) ?_
  refine sw_putfield (pc := 22) dX7_init_22 (gCX7 _ _ _ _ _) 9 (by decide) wF_X7_18 rfl rfl rfl (fun _ => rfl) (fun _ => rfl) rfl ?_
  refine sv_vret (pc := 25) dX7_init_25 rfl (le_t rfl) (le_t rfl) ?_
  refine sw_aastore (pc := 80) (k := 4) dX0_init_80 (gCX7 _ _ _ _ _) rfl rfl rfl (by decide) (by decide) rfl rfl rfl ?_
  refine sw_iinc (pc := 81) (v := 5) dX0_init_81 rfl (by decide) (by decide) ?_
  refine sv_goto (pc := 84) (tgt := 47) dX0_init_84 (by decide) ?_
  refine sv_iload_n (pc := 47) dX0_init_47 rfl rfl ?_
  refine sv_bipush (pc := 48) (v := 10) dX0_init_48 (by decide) ?_
  refine sv_icmp_ge (pc := 50) (tgt := 87) dX0_init_50 (by decide) (fun h => absurd h (by decide)) (fun _ => ?_)
  refine sv_aload_n (pc := 53) dX0_init_53 rfl rfl ?_
  refine sw_getfield (pc := 54) dX0_init_54 (gCX0 _ _ _ _ _) 1 (by decide) wF_X0_19 rfl rfl rfl ?_
  refine sv_iload_n (pc := 57) dX0_init_57 rfl rfl ?_
  refine sv_iconst (pc := 58) (v := (-1)) dX0_init_58 (by decide) ?_
  refine sw_iastore (pc := 59) (k := 5) (v := .int (-1)) dX0_init_59 rfl rfl rfl (by decide) (by decide) rfl rfl ?_
  refine sv_aload_n (pc := 60) dX0_init_60 rfl rfl ?_
  refine sw_getfield (pc := 61) dX0_init_61 (gCX0 _ _ _ _ _) 2 (by decide) wF_X0_22 rfl rfl rfl ?_
  refine sv_iload_n (pc := 64) dX0_init_64 rfl rfl ?_
  refine sv_ldc (pc := 65) dX0_init_65 wG_X0_31 ?_
  refine sw_iastore (pc := 67) (k := 5) (v := .int (-99999999)) dX0_init_67 rfl rfl rfl (by decide) (by decide) rfl rfl ?_
  refine sv_aload_n (pc := 68) dX0_init_68 rfl rfl ?_
  refine sw_getfield (pc := 69) dX0_init_69 (gCX0 _ _ _ _ _) 3 (by decide) wF_X0_27 rfl rfl rfl ?_
  refine sv_iload_n (pc := 72) dX0_init_72 rfl rfl ?_
  refine sw_new (pc := 73) (a := 20) (n1 := 21) (ce1 := 20) (sl1 := 248) (fs := zX7) dX0_init_73 (gCX7 _ _ _ _ _) wC_X0_25 wN_X7 wI_X7 zX7_ok rfl rfl rfl rfl rfl rfl ?_
  refine sv_dup (pc := 76) dX0_init_76 rfl ?_
  refine sv_callI (pc := 77) (M' := mX7_init) (d' := 4) (C' := 2) (S' := 28) (av := []) ?_ (gOk _ _ _ _ _) dX0_init_77 (tX7_init _ _ _ _ _) rfl rfl wV_X7_init wM_X0_32 ⟨le_t rfl, le_t rfl⟩ ⟨le_t rfl, le_t rfl⟩ rfl (le_t rfl) (fun _ _ h => h)
  refine sC.of rfl (by decide) (le_t rfl) ?_
  refine sv_aload_n (pc := 0) dX7_init_0 rfl rfl ?_
  refine sv_objinit (pc := 1) dX7_init_1 wM_X7_3 wV_obj wK_obj ⟨le_t rfl, le_t rfl⟩ (le_t rfl) ?_
  refine sv_aload_n (pc := 4) dX7_init_4 rfl rfl ?_
  refine sv_bipush (pc := 5) (v := 20) dX7_init_5 (by decide) ?_
  refine sw_newarray (pc := 7) (kd := 0) (a := 21) (n1 := 22) (N := 20) (ce1 := 1) (sl1 := 20) (v := .int 0) dX7_init_7 rfl wA_int rfl (fun U => sI_Cond_int U _) (by decide) (by decide) rfl (fun _ => rfl) rfl rfl rfl rfl rfl rfl ?_
  refine sw_putfinal (pc := 9) dX7_init_9 (gCX7 _ _ _ _ _) 0 (by decide) wF_X7_9 rfl rfl rfl rfl rfl (fun _ => rfl) (fun _ => rfl) rfl ?_
  refine sv_aload_n (pc := 12) dX7_init_12 rfl rfl ?_
  refine sv_bipush (pc := 13) (v := 8) dX7_init_13 (by decide) ?_
  refine sw_newarray (pc := 15) (kd := 0) (a := 22) (n1 := 23) (N := 8) (ce1 := 2) (sl1 := 28) (v := .int 0) dX7_init_15 rfl wA_int rfl (fun U => sI_Cond_int U _) (by decide) (by decide) rfl (fun _ => rfl) rfl rfl rfl rfl rfl rfl ?_
  refine sw_putfinal (pc := 17) dX7_init_17 (gCX7 _ _ _ _ _) 1 (by decide) wF_X7_15 rfl rfl rfl rfl rfl (fun _ => rfl) (fun _ => rfl) rfl ?_
  refine sv_aload_n (pc := 20) dX7_init_20 rfl rfl ?_
  refine sv_iconst (pc := 21) (v := (-1)) dX7_init_21 (by decide) ?_
  refine sw_putfield (pc := 22) dX7_init_22 (gCX7 _ _ _ _ _) 9 (by decide) wF_X7_18 rfl rfl rfl (fun _ => rfl) (fun _ => rfl) rfl ?_
  refine sv_vret (pc := 25) dX7_init_25 rfl (le_t rfl) (le_t rfl) ?_
  refine sw_aastore (pc := 80) (k := 5) dX0_init_80 (gCX7 _ _ _ _ _) rfl rfl rfl (by decide) (by decide) rfl rfl rfl ?_
  refine sw_iinc (pc := 81) (v := 6) dX0_init_81 rfl (by decide) (by decide) ?_
  refine sv_goto (pc := 84) (tgt := 47) dX0_init_84 (by decide) ?_
  refine sv_iload_n (pc := 47) dX0_init_47 rfl rfl ?_
  refine sv_bipush (pc := 48) (v := 10) dX0_init_48 (by decide) ?_
  refine sv_icmp_ge (pc := 50) (tgt := 87) dX0_init_50 (by decide) (fun h => absurd h (by decide)) (fun _ => ?_)
  refine sv_aload_n (pc := 53) dX0_init_53 rfl rfl ?_
  refine sw_getfield (pc := 54) dX0_init_54 (gCX0 _ _ _ _ _) 1 (by decide) wF_X0_19 rfl rfl rfl ?_
  refine sv_iload_n (pc := 57) dX0_init_57 rfl rfl ?_
  refine sv_iconst (pc := 58) (v := (-1)) dX0_init_58 (by decide) ?_
  refine sw_iastore (pc := 59) (k := 6) (v := .int (-1)) dX0_init_59 rfl rfl rfl (by decide) (by decide) rfl rfl ?_
  refine sv_aload_n (pc := 60) dX0_init_60 rfl rfl ?_
  refine sw_getfield (pc := 61) dX0_init_61 (gCX0 _ _ _ _ _) 2 (by decide) wF_X0_22 rfl rfl rfl ?_
  refine sv_iload_n (pc := 64) dX0_init_64 rfl rfl ?_
  refine sv_ldc (pc := 65) dX0_init_65 wG_X0_31 ?_
  refine sw_iastore (pc := 67) (k := 6) (v := .int (-99999999)) dX0_init_67 rfl rfl rfl (by decide) (by decide) rfl rfl ?_
  refine sv_aload_n (pc := 68) dX0_init_68 rfl rfl ?_
  refine sw_getfield (pc := 69) dX0_init_69 (gCX0 _ _ _ _ _) 3 (by decide) wF_X0_27 rfl rfl rfl ?_
  refine sv_iload_n (pc := 72) dX0_init_72 rfl rfl ?_
  refine sw_new (pc := 73) (a := 23) (n1 := 24) (ce1 := 23) (sl1 := 288) (fs := zX7) dX0_init_73 (gCX7 _ _ _ _ _) wC_X0_25 wN_X7 wI_X7 zX7_ok rfl rfl rfl rfl rfl rfl ?_
  refine sv_dup (pc := 76) dX0_init_76 rfl ?_
  refine sv_callI (pc := 77) (M' := mX7_init) (d' := 4) (C' := 2) (S' := 28) (av := []) ?_ (gOk _ _ _ _ _) dX0_init_77 (tX7_init _ _ _ _ _) rfl rfl wV_X7_init wM_X0_32 ⟨le_t rfl, le_t rfl⟩ ⟨le_t rfl, le_t rfl⟩ rfl (le_t rfl) (fun _ _ h => h)
  refine sC.of rfl (by decide) (le_t rfl) ?_
  refine sv_aload_n (pc := 0) dX7_init_0 rfl rfl ?_
  refine sv_objinit (pc := 1) dX7_init_1 wM_X7_3 wV_obj wK_obj ⟨le_t rfl, le_t rfl⟩ (le_t rfl) ?_
  refine sv_aload_n (pc := 4) dX7_init_4 rfl rfl ?_
  refine sv_bipush (pc := 5) (v := 20) dX7_init_5 (by decide) ?_
  refine sw_newarray (pc := 7) (kd := 0) (a := 24) (n1 := 25) (N := 20) (ce1 := 1) (sl1 := 20) (v := .int 0) dX7_init_7 rfl wA_int rfl (fun U => sI_Cond_int U _) (by decide) (by decide) rfl (fun _ => rfl) rfl rfl rfl rfl rfl rfl ?_
  refine sw_putfinal (pc := 9) dX7_init_9 (gCX7 _ _ _ _ _) 0 (by decide) wF_X7_9 rfl rfl rfl rfl rfl (fun _ => rfl) (fun _ => rfl) rfl ?_
  refine sv_aload_n (pc := 12) dX7_init_12 rfl rfl ?_
  refine sv_bipush (pc := 13) (v := 8) dX7_init_13 (by decide) ?_
  refine sw_newarray (pc := 15) (kd := 0) (a := 25) (n1 := 26) (N := 8) (ce1 := 2) (sl1 := 28) (v := .int 0) dX7_init_15 rfl wA_int rfl (fun U => sI_Cond_int U _) (by decide) (by decide) rfl (fun _ => rfl) rfl rfl rfl rfl rfl rfl ?_
  refine sw_putfinal (pc := 17) dX7_init_17 (gCX7 _ _ _ _ _) 1 (by decide) wF_X7_15 rfl rfl rfl rfl rfl (fun _ => rfl) (fun _ => rfl) rfl ?_
  refine sv_aload_n (pc := 20) dX7_init_20 rfl rfl ?_
  refine sv_iconst (pc := 21) (v := (-1)) dX7_init_21 (by decide) ?_
  refine sw_putfield (pc := 22) dX7_init_22 (gCX7 _ _ _ _ _) 9 (by decide) wF_X7_18 rfl rfl rfl (fun _ => rfl) (fun _ => rfl) rfl ?_
  refine sv_vret (pc := 25) dX7_init_25 rfl (le_t rfl) (le_t rfl) ?_
  refine sw_aastore (pc := 80) (k := 6) dX0_init_80 (gCX7 _ _ _ _ _) rfl rfl rfl (by decide) (by decide) rfl rfl rfl ?_
  refine sw_iinc (pc := 81) (v := 7) dX0_init_81 rfl (by decide) (by decide) ?_
  refine sv_lvG (pc := 84) (lv' := [(0, .ref 0), (1, .int 7)]) (List.forall_mem_cons.mpr ⟨rfl, List.forall_mem_cons.mpr ⟨rfl, fun _ h => absurd h List.not_mem_nil⟩⟩) ?_
  refine sv_goto (pc := 84) (tgt := 47) dX0_init_84 (by decide) ?_
  refine sv_iload_n (pc := 47) dX0_init_47 rfl rfl ?_
  refine sv_bipush (pc := 48) (v := 10) dX0_init_48 (by decide) ?_
  refine sv_icmp_ge (pc := 50) (tgt := 87) dX0_init_50 (by decide) (fun h => absurd h (by decide)) (fun _ => ?_)
  refine sv_aload_n (pc := 53) dX0_init_53 rfl rfl ?_
  refine sw_getfield (pc := 54) dX0_init_54 (gCX0 _ _ _ _ _) 1 (by decide) wF_X0_19 rfl rfl rfl ?_
  refine sv_iload_n (pc := 57) dX0_init_57 rfl rfl ?_
  refine sv_iconst (pc := 58) (v := (-1)) dX0_init_58 (by decide) ?_
  refine sw_iastore (pc := 59) (k := 7) (v := .int (-1)) dX0_init_59 rfl rfl rfl (by decide) (by decide) rfl rfl ?_
  refine sv_aload_n (pc := 60) dX0_init_60 rfl rfl ?_
  refine sw_getfield (pc := 61) dX0_init_61 (gCX0 _ _ _ _ _) 2 (by decide) wF_X0_22 rfl rfl rfl ?_
  refine sv_iload_n (pc := 64) dX0_init_64 rfl rfl ?_
  refine sv_ldc (pc := 65) dX0_init_65 wG_X0_31 ?_
  refine sw_iastore (pc := 67) (k := 7) (v := .int (-99999999)) dX0_init_67 rfl rfl rfl (by decide) (by decide) rfl rfl ?_
  refine sv_aload_n (pc := 68) dX0_init_68 rfl rfl ?_
  refine sw_getfield (pc := 69) dX0_init_69 (gCX0 _ _ _ _ _) 3 (by decide) wF_X0_27 rfl rfl rfl ?_
  refine sv_iload_n (pc := 72) dX0_init_72 rfl rfl ?_
  refine sw_new (pc := 73) (a := 26) (n1 := 27) (ce1 := 26) (sl1 := 328) (fs := zX7) dX0_init_73 (gCX7 _ _ _ _ _) wC_X0_25 wN_X7 wI_X7 zX7_ok rfl rfl rfl rfl rfl rfl ?_
  refine sv_dup (pc := 76) dX0_init_76 rfl ?_
  refine sv_callI (pc := 77) (M' := mX7_init) (d' := 4) (C' := 2) (S' := 28) (av := []) ?_ (gOk _ _ _ _ _) dX0_init_77 (tX7_init _ _ _ _ _) rfl rfl wV_X7_init wM_X0_32 ⟨le_t rfl, le_t rfl⟩ ⟨le_t rfl, le_t rfl⟩ rfl (le_t rfl) (fun _ _ h => h)
  refine sC.of rfl (by decide) (le_t rfl) ?_
  refine sv_aload_n (pc := 0) dX7_init_0 rfl rfl ?_
  refine sv_objinit (pc := 1) dX7_init_1 wM_X7_3 wV_obj wK_obj ⟨le_t rfl, le_t rfl⟩ (le_t rfl) ?_
  refine sv_aload_n (pc := 4) dX7_init_4 rfl rfl ?_
  refine sv_bipush (pc := 5) (v := 20) dX7_init_5 (by decide) ?_
  refine sw_newarray (pc := 7) (kd := 0) (a := 27) (n1 := 28) (N := 20) (ce1 := 1) (sl1 := 20) (v := .int 0) dX7_init_7 rfl wA_int rfl (fun U => sI_Cond_int U _) (by decide) (by decide) rfl (fun _ => rfl) rfl rfl rfl rfl rfl rfl ?_
  refine sw_putfinal (pc := 9) dX7_init_9 (gCX7 _ _ _ _ _) 0 (by decide) wF_X7_9 rfl rfl rfl rfl rfl (fun _ => rfl) (fun _ => rfl) rfl ?_
  refine sv_aload_n (pc := 12) dX7_init_12 rfl rfl ?_
  refine sv_bipush (pc := 13) (v := 8) dX7_init_13 (by decide) ?_
  refine sw_newarray (pc := 15) (kd := 0) (a := 28) (n1 := 29) (N := 8) (ce1 := 2) (sl1 := 28) (v := .int 0) dX7_init_15 rfl wA_int rfl (fun U => sI_Cond_int U _) (by decide) (by decide) rfl (fun _ => rfl) rfl rfl rfl rfl rfl rfl ?_
  refine sw_putfinal (pc := 17) dX7_init_17 (gCX7 _ _ _ _ _) 1 (by decide) wF_X7_15 rfl rfl rfl rfl rfl (fun _ => rfl) (fun _ => rfl) rfl ?_
  refine sv_aload_n (pc := 20) dX7_init_20 rfl rfl ?_
  refine sv_iconst (pc := 21) (v := (-1)) dX7_init_21 (by decide) ?_
  refine sw_putfield (pc := 22) dX7_init_22 (gCX7 _ _ _ _ _) 9 (by decide) wF_X7_18 rfl rfl rfl (fun _ => rfl) (fun _ => rfl) rfl ?_
  refine sv_vret (pc := 25) dX7_init_25 rfl (le_t rfl) (le_t rfl) ?_
  refine sw_aastore (pc := 80) (k := 7) dX0_init_80 (gCX7 _ _ _ _ _) rfl rfl rfl (by decide) (by decide) rfl rfl rfl ?_
  refine sw_iinc (pc := 81) (v := 8) dX0_init_81 rfl (by decide) (by decide) ?_
  refine sv_goto (pc := 84) (tgt := 47) dX0_init_84 (by decide) ?_
  refine sv_iload_n (pc := 47) dX0_init_47 rfl rfl ?_
  refine sv_bipush (pc := 48) (v := 10) dX0_init_48 (by decide) ?_
  refine sv_icmp_ge (pc := 50) (tgt := 87) dX0_init_50 (by decide) (fun h => absurd h (by decide)) (fun _ => ?_)
  refine sv_aload_n (pc := 53) dX0_init_53 rfl rfl ?_
  refine sw_getfield (pc := 54) dX0_init_54 (gCX0 _ _ _ _ _) 1 (by decide) wF_X0_19 rfl rfl rfl ?_
  refine sv_iload_n (pc := 57) dX0_init_57 rfl rfl ?_
  refine sv_iconst (pc := 58) (v := (-1)) dX0_init_58 (by decide) ?_
  refine sw_iastore (pc := 59) (k := 8) (v := .int (-1)) dX0_init_59 rfl rfl rfl (by decide) (by decide) rfl rfl ?_
  refine sv_aload_n (pc := 60) dX0_init_60 rfl rfl ?_
  refine sw_getfield (pc := 61) dX0_init_61 (gCX0 _ _ _ _ _) 2 (by decide) wF_X0_22 rfl rfl rfl ?_
  refine sv_iload_n (pc := 64) dX0_init_64 rfl rfl ?_
  refine sv_ldc (pc := 65) dX0_init_65 wG_X0_31 ?_
  refine sw_iastore (pc := 67) (k := 8) (v := .int (-99999999)) dX0_init_67 rfl rfl rfl (by decide) (by decide) rfl rfl ?_
  refine sv_aload_n (pc := 68) dX0_init_68 rfl rfl ?_
  refine sw_getfield (pc := 69) dX0_init_69 (gCX0 _ _ _ _ _) 3 (by decide) wF_X0_27 rfl rfl rfl ?_
  refine sv_iload_n (pc := 72) dX0_init_72 rfl rfl ?_
  refine sw_new (pc := 73) (a := 29) (n1 := 30) (ce1 := 29) (sl1 := 368) (fs := zX7) dX0_init_73 (gCX7 _ _ _ _ _) wC_X0_25 wN_X7 wI_X7 zX7_ok rfl rfl rfl rfl rfl rfl ?_
  refine sv_dup (pc := 76) dX0_init_76 rfl ?_
  refine sv_callI (pc := 77) (M' := mX7_init) (d' := 4) (C' := 2) (S' := 28) (av := []) ?_ (gOk _ _ _ _ _) dX0_init_77 (tX7_init _ _ _ _ _) rfl rfl wV_X7_init wM_X0_32 ⟨le_t rfl, le_t rfl⟩ ⟨le_t rfl, le_t rfl⟩ rfl (le_t rfl) (fun _ _ h => h)
  refine sC.of rfl (by decide) (le_t rfl) ?_
  refine sv_aload_n (pc := 0) dX7_init_0 rfl rfl ?_
  refine sv_objinit (pc := 1) dX7_init_1 wM_X7_3 wV_obj wK_obj ⟨le_t rfl, le_t rfl⟩ (le_t rfl) ?_
  refine sv_aload_n (pc := 4) dX7_init_4 rfl rfl ?_
  refine sv_bipush (pc := 5) (v := 20) dX7_init_5 (by decide) ?_
  refine sw_newarray (pc := 7) (kd := 0) (a := 30) (n1 := 31) (N := 20) (ce1 := 1) (sl1 := 20) (v := .int 0) dX7_init_7 rfl wA_int rfl (fun U => sI_Cond_int U _) (by decide) (by decide) rfl (fun _ => rfl) rfl rfl rfl rfl rfl rfl ?_
  refine sw_putfinal (pc := 9) dX7_init_9 (gCX7 _ _ _ _ _) 0 (by decide) wF_X7_9 rfl rfl rfl rfl rfl (fun _ => rfl) (fun _ => rfl) rfl ?_
  refine sv_aload_n (pc := 12) dX7_init_12 rfl rfl ?_
  refine sv_bipush (pc := 13) (v := 8) dX7_init_13 (by decide) ?_
  refine sw_newarray (pc := 15) (kd := 0) (a := 31) (n1 := 32) (N := 8) (ce1 := 2) (sl1 := 28) (v := .int 0) dX7_init_15 rfl wA_int rfl (fun U => sI_Cond_int U _) (by decide) (by decide) rfl (fun _ => rfl) rfl rfl rfl rfl rfl rfl ?_
  refine sw_putfinal (pc := 17) dX7_init_17 (gCX7 _ _ _ _ _) 1 (by decide) wF_X7_15 rfl rfl rfl rfl rfl (fun _ => rfl) (fun _ => rfl) rfl ?_
  refine sv_aload_n (pc := 20) dX7_init_20 rfl rfl ?_
  refine sv_iconst (pc := 21) (v := (-1)) dX7_init_21 (by decide) ?_
  refine sw_putfield (pc := 22) dX7_init_22 (gCX7 _ _ _ _ _) 9 (by decide) wF_X7_18 rfl rfl rfl (fun _ => rfl) (fun _ => rfl) rfl ?_
  refine sv_vret (pc := 25) dX7_init_25 rfl (le_t rfl) (le_t rfl) ?_
  refine sw_aastore (pc := 80) (k := 8) dX0_init_80 (gCX7 _ _ _ _ _) rfl rfl rfl (by decide) (by decide) rfl rfl rfl ?_
  refine sw_iinc (pc := 81) (v := 9) dX0_init_81 rfl (by decide) (by decide) ?_
  refine sv_goto (pc := 84) (tgt := 47) dX0_init_84 (by decide) ?_
  refine sv_iload_n (pc := 47) dX0_init_47 rfl rfl ?_
  refine sv_bipush (pc := 48) (v := 10) dX0_init_48 (by decide) ?_
  refine sv_icmp_ge (pc := 50) (tgt := 87) dX0_init_50 (by decide) (fun h => absurd h (by decide)) (fun _ => ?_)
  refine sv_aload_n (pc := 53) dX0_init_53 rfl rfl ?_
  refine sw_getfield (pc := 54) dX0_init_54 (gCX0 _ _ _ _ _) 1 (by decide) wF_X0_19 rfl rfl rfl ?_
  refine sv_iload_n (pc := 57) dX0_init_57 rfl rfl ?_
  refine sv_iconst (pc := 58) (v := (-1)) dX0_init_58 (by decide) ?_
  refine sw_iastore (pc := 59) (k := 9) (v := .int (-1)) dX0_init_59 rfl rfl rfl (by decide) (by decide) rfl rfl ?_
  refine sv_aload_n (pc := 60) dX0_init_60 rfl rfl ?_
  refine sw_getfield (pc := 61) dX0_init_61 (gCX0 _ _ _ _ _) 2 (by decide) wF_X0_22 rfl rfl rfl ?_
  refine sv_iload_n (pc := 64) dX0_init_64 rfl rfl ?_
  refine sv_ldc (pc := 65) dX0_init_65 wG_X0_31 ?_
  refine sw_iastore (pc := 67) (k := 9) (v := .int (-99999999)) dX0_init_67 rfl rfl rfl (by decide) (by decide) rfl rfl ?_
  refine sv_aload_n (pc := 68) dX0_init_68 rfl rfl ?_
  refine sw_getfield (pc := 69) dX0_init_69 (gCX0 _ _ _ _ _) 3 (by decide) wF_X0_27 rfl rfl rfl ?_
  refine sv_iload_n (pc := 72) dX0_init_72 rfl rfl ?_
  refine sw_new (pc := 73) (a := 32) (n1 := 33) (ce1 := 32) (sl1 := 408) (fs := zX7) dX0_init_73 (gCX7 _ _ _ _ _) wC_X0_25 wN_X7 wI_X7 zX7_ok rfl rfl rfl rfl rfl rfl ?_
  refine sv_dup (pc := 76) dX0_init_76 rfl ?_
  refine sv_callI (pc := 77) (M' := mX7_init) (d' := 4) (C' := 2) (S' := 28) (av := []) ?_ (gOk _ _ _ _ _) dX0_init_77 (tX7_init _ _ _ _ _) rfl rfl wV_X7_init wM_X0_32 ⟨le_t rfl, le_t rfl⟩ ⟨le_t rfl, le_t rfl⟩ rfl (le_t rfl) (fun _ _ h => h)
  refine sC.of rfl (by decide) (le_t rfl) ?_
  refine sv_aload_n (pc := 0) dX7_init_0 rfl rfl ?_
  refine sv_objinit (pc := 1) dX7_init_1 wM_X7_3 wV_obj wK_obj ⟨le_t rfl, le_t rfl⟩ (le_t rfl) ?_
  refine sv_aload_n (pc := 4) dX7_init_4 rfl rfl ?_
  refine sv_bipush (pc := 5) (v := 20) dX7_init_5 (by decide) ?_
  refine sw_newarray (pc := 7) (kd := 0) (a := 33) (n1 := 34) (N := 20) (ce1 := 1) (sl1 := 20) (v := .int 0) dX7_init_7 rfl wA_int rfl (fun U => sI_Cond_int U _) (by decide) (by decide) rfl (fun _ => rfl) rfl rfl rfl rfl rfl rfl ?_
  refine sw_putfinal (pc := 9) dX7_init_9 (gCX7 _ _ _ _ _) 0 (by decide) wF_X7_9 rfl rfl rfl rfl rfl (fun _ => rfl) (fun _ => rfl) rfl ?_
  refine sv_aload_n (pc := 12) dX7_init_12 rfl rfl ?_
  refine sv_bipush (pc := 13) (v := 8) dX7_init_13 (by decide) ?_
  refine sw_newarray (pc := 15) (kd := 0) (a := 34) (n1 := 35) (N := 8) (ce1 := 2) (sl1 := 28) (v := .int 0) dX7_init_15 rfl wA_int rfl (fun U => sI_Cond_int U _) (by decide) (by decide) rfl (fun _ => rfl) rfl rfl rfl rfl rfl rfl ?_
  refine sw_putfinal (pc := 17) dX7_init_17 (gCX7 _ _ _ _ _) 1 (by decide) wF_X7_15 rfl rfl rfl rfl rfl (fun _ => rfl) (fun _ => rfl) rfl ?_
  refine sv_aload_n (pc := 20) dX7_init_20 rfl rfl ?_
  refine sv_iconst (pc := 21) (v := (-1)) dX7_init_21 (by decide) ?_
  refine sw_putfield (pc := 22) dX7_init_22 (gCX7 _ _ _ _ _) 9 (by decide) wF_X7_18 rfl rfl rfl (fun _ => rfl) (fun _ => rfl) rfl ?_
  refine sv_vret (pc := 25) dX7_init_25 rfl (le_t rfl) (le_t rfl) ?_
  refine sw_aastore (pc := 80) (k := 9) dX0_init_80 (gCX7 _ _ _ _ _) rfl rfl rfl (by decide) (by decide) rfl rfl rfl ?_
  refine sw_iinc (pc := 81) (v := 10) dX0_init_81 rfl (by decide) (by decide) ?_
  refine sv_goto (pc := 84) (tgt := 47) dX0_init_84 (by decide) ?_
  refine sv_iload_n (pc := 47) dX0_init_47 rfl rfl ?_
  refine sv_bipush (pc := 48) (v := 10) dX0_init_48 (by decide) ?_
  refine sv_icmp_ge (pc := 50) (tgt := 87) dX0_init_50 (by decide) (fun _ => ?_) (fun h => absurd (by decide) h)
  refine sv_vret dX0_init_87 rfl (le_t rfl) (le_t rfl) ⟨rfl, rfl, fun j hj => ?_⟩
  match j, hj with
  | 0, _ => exact rfl
  | 1, _ => exact rfl
  | 2, _ => exact rfl
  | 3, _ => exact rfl
  | 4, _ => exact rfl
  | 5, _ => exact rfl
  | 6, _ => exact rfl
  | 7, _ => exact rfl
  | 8, _ => exact rfl
  | 9, _ => exact rfl
  | 10, _ => exact rfl
  | 11, _ => exact rfl
  | 12, _ => exact rfl
  | 13, _ => exact rfl
  | 14, _ => exact rfl
  | 15, _ => exact rfl
  | 16, _ => exact rfl
  | 17, _ => exact rfl
  | 18, _ => exact rfl
  | 19, _ => exact rfl
  | 20, _ => exact rfl
  | 21, _ => exact rfl
  | 22, _ => exact rfl
  | 23, _ => exact rfl
  | 24, _ => exact rfl
  | 25, _ => exact rfl
  | 26, _ => exact rfl
  | 27, _ => exact rfl
  | 28, _ => exact rfl
  | 29, _ => exact rfl
  | 30, _ => exact rfl
  | 31, _ => exact rfl
  | 32, _ => exact rfl
  | 33, _ => exact rfl
  | 34, _ => exact rfl
  | n + 35, h => exact absurd h (by omega)
/-- the cells of a new object -/
def tX9N (xa xb xk : Int32) : Nat → sE := fun j => match j with
  | 0 => .inr (9, [.int xa, .int xb, .int xk, .ref 1, .ref 2, .ref 3, .int 1, .int 1, .int 0])
  | 1 => .inl (0, 4, updV (updV (updV (updV (fun _ => .int 0) 0 (.int (-99999999))) 1 (.int (-99999999))) 2 (.int (-99999999))) 3 (.int (-99999999)))
  | 2 => .inl (4, 20, updV (updV (updV (updV (updV (updV (updV (updV (updV (updV (updV (updV (updV (updV (updV (updV (updV (updV (updV (updV (fun _ => .null) 0 (.ref 4)) 1 (.ref 10)) 2 (.ref 16)) 3 (.ref 22)) 4 (.ref 28)) 5 (.ref 34)) 6 (.ref 40)) 7 (.ref 46)) 8 (.ref 52)) 9 (.ref 58)) 10 (.ref 64)) 11 (.ref 70)) 12 (.ref 76)) 13 (.ref 82)) 14 (.ref 88)) 15 (.ref 94)) 16 (.ref 100)) 17 (.ref 106)) 18 (.ref 112)) 19 (.ref 118))
  | 3 => .inl (4, 20, updV (updV (updV (updV (updV (updV (updV (updV (updV (updV (updV (updV (updV (updV (updV (updV (updV (updV (updV (updV (fun _ => .null) 0 (.ref 7)) 1 (.ref 13)) 2 (.ref 19)) 3 (.ref 25)) 4 (.ref 31)) 5 (.ref 37)) 6 (.ref 43)) 7 (.ref 49)) 8 (.ref 55)) 9 (.ref 61)) 10 (.ref 67)) 11 (.ref 73)) 12 (.ref 79)) 13 (.ref 85)) 14 (.ref 91)) 15 (.ref 97)) 16 (.ref 103)) 17 (.ref 109)) 18 (.ref 115)) 19 (.ref 121))
  | 4 => .inr (7, [.ref 5, .ref 6, .int 0, .int 0, .int 0, .int 0, .int 0, .int 0, .int 0, .int (-1), .int 0, .int 0])
  | 5 => .inl (0, 20, fun _ => .int 0)
  | 6 => .inl (0, 8, fun _ => .int 0)
  | 7 => .inr (7, [.ref 8, .ref 9, .int 0, .int 0, .int 0, .int 0, .int 0, .int 0, .int 0, .int (-1), .int 0, .int 0])
  | 8 => .inl (0, 20, fun _ => .int 0)
  | 9 => .inl (0, 8, fun _ => .int 0)
  | 10 => .inr (7, [.ref 11, .ref 12, .int 0, .int 0, .int 0, .int 0, .int 0, .int 0, .int 0, .int (-1), .int 0, .int 0])
  | 11 => .inl (0, 20, fun _ => .int 0)
  | 12 => .inl (0, 8, fun _ => .int 0)
  | 13 => .inr (7, [.ref 14, .ref 15, .int 0, .int 0, .int 0, .int 0, .int 0, .int 0, .int 0, .int (-1), .int 0, .int 0])
  | 14 => .inl (0, 20, fun _ => .int 0)
  | 15 => .inl (0, 8, fun _ => .int 0)
  | 16 => .inr (7, [.ref 17, .ref 18, .int 0, .int 0, .int 0, .int 0, .int 0, .int 0, .int 0, .int (-1), .int 0, .int 0])
  | 17 => .inl (0, 20, fun _ => .int 0)
  | 18 => .inl (0, 8, fun _ => .int 0)
  | 19 => .inr (7, [.ref 20, .ref 21, .int 0, .int 0, .int 0, .int 0, .int 0, .int 0, .int 0, .int (-1), .int 0, .int 0])
  | 20 => .inl (0, 20, fun _ => .int 0)
  | 21 => .inl (0, 8, fun _ => .int 0)
  | 22 => .inr (7, [.ref 23, .ref 24, .int 0, .int 0, .int 0, .int 0, .int 0, .int 0, .int 0, .int (-1), .int 0, .int 0])
  | 23 => .inl (0, 20, fun _ => .int 0)
  | 24 => .inl (0, 8, fun _ => .int 0)
  | 25 => .inr (7, [.ref 26, .ref 27, .int 0, .int 0, .int 0, .int 0, .int 0, .int 0, .int 0, .int (-1), .int 0, .int 0])
  | 26 => .inl (0, 20, fun _ => .int 0)
  | 27 => .inl (0, 8, fun _ => .int 0)
  | 28 => .inr (7, [.ref 29, .ref 30, .int 0, .int 0, .int 0, .int 0, .int 0, .int 0, .int 0, .int (-1), .int 0, .int 0])
  | 29 => .inl (0, 20, fun _ => .int 0)
  | 30 => .inl (0, 8, fun _ => .int 0)
  | 31 => .inr (7, [.ref 32, .ref 33, .int 0, .int 0, .int 0, .int 0, .int 0, .int 0, .int 0, .int (-1), .int 0, .int 0])
  | 32 => .inl (0, 20, fun _ => .int 0)
  | 33 => .inl (0, 8, fun _ => .int 0)
  | 34 => .inr (7, [.ref 35, .ref 36, .int 0, .int 0, .int 0, .int 0, .int 0, .int 0, .int 0, .int (-1), .int 0, .int 0])
  | 35 => .inl (0, 20, fun _ => .int 0)
  | 36 => .inl (0, 8, fun _ => .int 0)
  | 37 => .inr (7, [.ref 38, .ref 39, .int 0, .int 0, .int 0, .int 0, .int 0, .int 0, .int 0, .int (-1), .int 0, .int 0])
  | 38 => .inl (0, 20, fun _ => .int 0)
  | 39 => .inl (0, 8, fun _ => .int 0)
  | 40 => .inr (7, [.ref 41, .ref 42, .int 0, .int 0, .int 0, .int 0, .int 0, .int 0, .int 0, .int (-1), .int 0, .int 0])
  | 41 => .inl (0, 20, fun _ => .int 0)
  | 42 => .inl (0, 8, fun _ => .int 0)
  | 43 => .inr (7, [.ref 44, .ref 45, .int 0, .int 0, .int 0, .int 0, .int 0, .int 0, .int 0, .int (-1), .int 0, .int 0])
  | 44 => .inl (0, 20, fun _ => .int 0)
  | 45 => .inl (0, 8, fun _ => .int 0)
  | 46 => .inr (7, [.ref 47, .ref 48, .int 0, .int 0, .int 0, .int 0, .int 0, .int 0, .int 0, .int (-1), .int 0, .int 0])
  | 47 => .inl (0, 20, fun _ => .int 0)
  | 48 => .inl (0, 8, fun _ => .int 0)
  | 49 => .inr (7, [.ref 50, .ref 51, .int 0, .int 0, .int 0, .int 0, .int 0, .int 0, .int 0, .int (-1), .int 0, .int 0])
  | 50 => .inl (0, 20, fun _ => .int 0)
  | 51 => .inl (0, 8, fun _ => .int 0)
  | 52 => .inr (7, [.ref 53, .ref 54, .int 0, .int 0, .int 0, .int 0, .int 0, .int 0, .int 0, .int (-1), .int 0, .int 0])
  | 53 => .inl (0, 20, fun _ => .int 0)
  | 54 => .inl (0, 8, fun _ => .int 0)
  | 55 => .inr (7, [.ref 56, .ref 57, .int 0, .int 0, .int 0, .int 0, .int 0, .int 0, .int 0, .int (-1), .int 0, .int 0])
  | 56 => .inl (0, 20, fun _ => .int 0)
  | 57 => .inl (0, 8, fun _ => .int 0)
  | 58 => .inr (7, [.ref 59, .ref 60, .int 0, .int 0, .int 0, .int 0, .int 0, .int 0, .int 0, .int (-1), .int 0, .int 0])
  | 59 => .inl (0, 20, fun _ => .int 0)
  | 60 => .inl (0, 8, fun _ => .int 0)
  | 61 => .inr (7, [.ref 62, .ref 63, .int 0, .int 0, .int 0, .int 0, .int 0, .int 0, .int 0, .int (-1), .int 0, .int 0])
  | 62 => .inl (0, 20, fun _ => .int 0)
  | 63 => .inl (0, 8, fun _ => .int 0)
  | 64 => .inr (7, [.ref 65, .ref 66, .int 0, .int 0, .int 0, .int 0, .int 0, .int 0, .int 0, .int (-1), .int 0, .int 0])
  | 65 => .inl (0, 20, fun _ => .int 0)
  | 66 => .inl (0, 8, fun _ => .int 0)
  | 67 => .inr (7, [.ref 68, .ref 69, .int 0, .int 0, .int 0, .int 0, .int 0, .int 0, .int 0, .int (-1), .int 0, .int 0])
  | 68 => .inl (0, 20, fun _ => .int 0)
  | 69 => .inl (0, 8, fun _ => .int 0)
  | 70 => .inr (7, [.ref 71, .ref 72, .int 0, .int 0, .int 0, .int 0, .int 0, .int 0, .int 0, .int (-1), .int 0, .int 0])
  | 71 => .inl (0, 20, fun _ => .int 0)
  | 72 => .inl (0, 8, fun _ => .int 0)
  | 73 => .inr (7, [.ref 74, .ref 75, .int 0, .int 0, .int 0, .int 0, .int 0, .int 0, .int 0, .int (-1), .int 0, .int 0])
  | 74 => .inl (0, 20, fun _ => .int 0)
  | 75 => .inl (0, 8, fun _ => .int 0)
  | 76 => .inr (7, [.ref 77, .ref 78, .int 0, .int 0, .int 0, .int 0, .int 0, .int 0, .int 0, .int (-1), .int 0, .int 0])
  | 77 => .inl (0, 20, fun _ => .int 0)
  | 78 => .inl (0, 8, fun _ => .int 0)
  | 79 => .inr (7, [.ref 80, .ref 81, .int 0, .int 0, .int 0, .int 0, .int 0, .int 0, .int 0, .int (-1), .int 0, .int 0])
  | 80 => .inl (0, 20, fun _ => .int 0)
  | 81 => .inl (0, 8, fun _ => .int 0)
  | 82 => .inr (7, [.ref 83, .ref 84, .int 0, .int 0, .int 0, .int 0, .int 0, .int 0, .int 0, .int (-1), .int 0, .int 0])
  | 83 => .inl (0, 20, fun _ => .int 0)
  | 84 => .inl (0, 8, fun _ => .int 0)
  | 85 => .inr (7, [.ref 86, .ref 87, .int 0, .int 0, .int 0, .int 0, .int 0, .int 0, .int 0, .int (-1), .int 0, .int 0])
  | 86 => .inl (0, 20, fun _ => .int 0)
  | 87 => .inl (0, 8, fun _ => .int 0)
  | 88 => .inr (7, [.ref 89, .ref 90, .int 0, .int 0, .int 0, .int 0, .int 0, .int 0, .int 0, .int (-1), .int 0, .int 0])
  | 89 => .inl (0, 20, fun _ => .int 0)
  | 90 => .inl (0, 8, fun _ => .int 0)
  | 91 => .inr (7, [.ref 92, .ref 93, .int 0, .int 0, .int 0, .int 0, .int 0, .int 0, .int 0, .int (-1), .int 0, .int 0])
  | 92 => .inl (0, 20, fun _ => .int 0)
  | 93 => .inl (0, 8, fun _ => .int 0)
  | 94 => .inr (7, [.ref 95, .ref 96, .int 0, .int 0, .int 0, .int 0, .int 0, .int 0, .int 0, .int (-1), .int 0, .int 0])
  | 95 => .inl (0, 20, fun _ => .int 0)
  | 96 => .inl (0, 8, fun _ => .int 0)
  | 97 => .inr (7, [.ref 98, .ref 99, .int 0, .int 0, .int 0, .int 0, .int 0, .int 0, .int 0, .int (-1), .int 0, .int 0])
  | 98 => .inl (0, 20, fun _ => .int 0)
  | 99 => .inl (0, 8, fun _ => .int 0)
  | 100 => .inr (7, [.ref 101, .ref 102, .int 0, .int 0, .int 0, .int 0, .int 0, .int 0, .int 0, .int (-1), .int 0, .int 0])
  | 101 => .inl (0, 20, fun _ => .int 0)
  | 102 => .inl (0, 8, fun _ => .int 0)
  | 103 => .inr (7, [.ref 104, .ref 105, .int 0, .int 0, .int 0, .int 0, .int 0, .int 0, .int 0, .int (-1), .int 0, .int 0])
  | 104 => .inl (0, 20, fun _ => .int 0)
  | 105 => .inl (0, 8, fun _ => .int 0)
  | 106 => .inr (7, [.ref 107, .ref 108, .int 0, .int 0, .int 0, .int 0, .int 0, .int 0, .int 0, .int (-1), .int 0, .int 0])
  | 107 => .inl (0, 20, fun _ => .int 0)
  | 108 => .inl (0, 8, fun _ => .int 0)
  | 109 => .inr (7, [.ref 110, .ref 111, .int 0, .int 0, .int 0, .int 0, .int 0, .int 0, .int 0, .int (-1), .int 0, .int 0])
  | 110 => .inl (0, 20, fun _ => .int 0)
  | 111 => .inl (0, 8, fun _ => .int 0)
  | 112 => .inr (7, [.ref 113, .ref 114, .int 0, .int 0, .int 0, .int 0, .int 0, .int 0, .int 0, .int (-1), .int 0, .int 0])
  | 113 => .inl (0, 20, fun _ => .int 0)
  | 114 => .inl (0, 8, fun _ => .int 0)
  | 115 => .inr (7, [.ref 116, .ref 117, .int 0, .int 0, .int 0, .int 0, .int 0, .int 0, .int 0, .int (-1), .int 0, .int 0])
  | 116 => .inl (0, 20, fun _ => .int 0)
  | 117 => .inl (0, 8, fun _ => .int 0)
  | 118 => .inr (7, [.ref 119, .ref 120, .int 0, .int 0, .int 0, .int 0, .int 0, .int 0, .int 0, .int (-1), .int 0, .int 0])
  | 119 => .inl (0, 20, fun _ => .int 0)
  | 120 => .inl (0, 8, fun _ => .int 0)
  | 121 => .inr (7, [.ref 122, .ref 123, .int 0, .int 0, .int 0, .int 0, .int 0, .int 0, .int 0, .int (-1), .int 0, .int 0])
  | 122 => .inl (0, 20, fun _ => .int 0)
  | 123 => .inl (0, 8, fun _ => .int 0)
  | _ => .inr (0, [])
set_option maxHeartbeats 40000000 in
set_option maxRecDepth 100000 in
theorem ctorX9 (l : Launch) (D : va_G) (c : Nat → ClassId) (H0 : Heap) (sa : Nat × Nat × (Nat → Int32)) (xa xb xk : Int32) : sC (gG l D c H0 sa) mX9_init 5 123 1644 [.ref 0, .int xa, .int xb, .int xk] (1, fun _ => .inr (9, zX9)) (fun r hp => r = none ∧ hp.1 = 124 ∧ ∀ j, j < 124 → hp.2 j = tX9N xa xb xk j) := by
  refine sC.of rfl (by decide) (le_t rfl) ?_
  refine sv_aload_n (pc := 0) dX9_init_0 rfl rfl ?_
  refine sv_objinit (pc := 1) dX9_init_1 wM_X9_3 wV_obj wK_obj ⟨le_t rfl, le_t rfl⟩ (le_t rfl) ?_
  refine sv_aload_n (pc := 4) dX9_init_4 rfl rfl ?_
  refine sv_iload_n (pc := 5) dX9_init_5 rfl rfl ?_
  refine sw_putfinal (pc := 6) dX9_init_6 (gCX9 _ _ _ _ _) 0 (by decide) wF_X9_9 rfl rfl rfl rfl rfl (fun _ => rfl) (fun _ => rfl) rfl ?_
  refine sv_aload_n (pc := 9) dX9_init_9 rfl rfl ?_
  refine sv_iload_n (pc := 10) dX9_init_10 rfl rfl ?_
  refine sw_putfinal (pc := 11) dX9_init_11 (gCX9 _ _ _ _ _) 1 (by decide) wF_X9_15 rfl rfl rfl rfl rfl (fun _ => rfl) (fun _ => rfl) rfl ?_
  refine sv_aload_n (pc := 14) dX9_init_14 rfl rfl ?_
  refine sv_iload_n (pc := 15) dX9_init_15 rfl rfl ?_
  refine sw_putfinal (pc := 16) dX9_init_16 (gCX9 _ _ _ _ _) 2 (by decide) wF_X9_18 rfl rfl rfl rfl rfl (fun _ => rfl) (fun _ => rfl) rfl ?_
  refine sv_aload_n (pc := 19) dX9_init_19 rfl rfl ?_
  refine sv_iconst (pc := 20) (v := 1) dX9_init_20 (by decide) ?_
  refine sw_putfield (pc := 21) dX9_init_21 (gCX9 _ _ _ _ _) 6 (by decide) wF_X9_21 rfl rfl rfl (fun _ => rfl) (fun _ => rfl) rfl ?_
  refine sv_aload_n (pc := 24) dX9_init_24 rfl rfl ?_
  refine sv_iconst (pc := 25) (v := 1) dX9_init_25 (by decide) ?_
  refine sw_putfield (pc := 26) dX9_init_26 (gCX9 _ _ _ _ _) 7 (by decide) wF_X9_25 rfl rfl rfl (fun _ => rfl) (fun _ => rfl) rfl ?_
  refine sv_aload_n (pc := 29) dX9_init_29 rfl rfl ?_
  refine sv_iconst (pc := 30) (v := 4) dX9_init_30 (by decide) ?_
  refine sw_newarray (pc := 31) (kd := 0) (a := 1) (n1 := 2) (N := 4) (ce1 := 1) (sl1 := 4) (v := .int 0) dX9_init_31 rfl wA_int rfl (fun U => sI_Cond_int U _) (by decide) (by decide) rfl (fun _ => rfl) rfl rfl rfl rfl rfl rfl ?_
  refine sv_dup (pc := 33) dX9_init_33 rfl ?_
  refine sv_iconst (pc := 34) (v := 0) dX9_init_34 (by decide) ?_
  refine sv_ldc (pc := 35) dX9_init_35 wG_X9_28 ?_
  refine sw_iastore (pc := 37) (k := 0) (v := .int (-99999999)) dX9_init_37 rfl rfl rfl (by decide) (by decide) rfl rfl ?_
  refine sv_dup (pc := 38) dX9_init_38 rfl ?_
  refine sv_iconst (pc := 39) (v := 1) dX9_init_39 (by decide) ?_
  refine sv_ldc (pc := 40) dX9_init_40 wG_X9_28 ?_
  refine sw_iastore (pc := 42) (k := 1) (v := .int (-99999999)) dX9_init_42 rfl rfl rfl (by decide) (by decide) rfl rfl ?_
  refine sv_dup (pc := 43) dX9_init_43 rfl ?_
  refine sv_iconst (pc := 44) (v := 2) dX9_init_44 (by decide) ?_
  refine sv_ldc (pc := 45) dX9_init_45 wG_X9_28 ?_
  refine sw_iastore (pc := 47) (k := 2) (v := .int (-99999999)) dX9_init_47 rfl rfl rfl (by decide) (by decide) rfl rfl ?_
  refine sv_dup (pc := 48) dX9_init_48 rfl ?_
  refine sv_iconst (pc := 49) (v := 3) dX9_init_49 (by decide) ?_
  refine sv_ldc (pc := 50) dX9_init_50 wG_X9_28 ?_
  refine sw_iastore (pc := 52) (k := 3) (v := .int (-99999999)) dX9_init_52 rfl rfl rfl (by decide) (by decide) rfl rfl ?_
  refine sw_putfinal (pc := 53) dX9_init_53 (gCX9 _ _ _ _ _) 3 (by decide) wF_X9_29 rfl rfl rfl rfl rfl (fun _ => rfl) (fun _ => rfl) rfl ?_
  refine sv_aload_n (pc := 56) dX9_init_56 rfl rfl ?_
  refine sv_bipush (pc := 57) (v := 20) dX9_init_57 (by decide) ?_
  refine sw_anewarray (pc := 59) (kd := 4) (a := 2) (n1 := 3) (N := 20) (ce1 := 2) (sl1 := 24) dX9_init_59 wC_X9_33 rfl (by decide) (by decide) rfl rfl rfl rfl rfl rfl rfl ?_
  refine sw_putfinal (pc := 62) dX9_init_62 (gCX9 _ _ _ _ _) 4 (by decide) wF_X9_35 rfl rfl rfl rfl rfl (fun _ => rfl) (fun _ => rfl) rfl ?_
  refine sv_aload_n (pc := 65) dX9_init_65 rfl rfl ?_
  refine sv_bipush (pc := 66) (v := 20) dX9_init_66 (by decide) ?_
  refine sw_anewarray (pc := 68) (kd := 4) (a := 3) (n1 := 4) (N := 20) (ce1 := 3) (sl1 := 44) dX9_init_68 wC_X9_33 rfl (by decide) (by decide) rfl rfl rfl rfl rfl rfl rfl ?_
  refine sw_putfinal (pc := 71) dX9_init_71 (gCX9 _ _ _ _ _) 5 (by decide) wF_X9_39 rfl rfl rfl rfl rfl (fun _ => rfl) (fun _ => rfl) rfl ?_
  refine sv_iconst (pc := 74) (v := 0) dX9_init_74 (by decide) ?_
  refine sv_istore (pc := 75) dX9_init_75 (by decide) ?_
  refine sv_iload (pc := 77) dX9_init_77 rfl ?_
  refine sv_aload_n (pc := 79) dX9_init_79 rfl rfl ?_
  refine sw_getfield (pc := 80) dX9_init_80 (gCX9 _ _ _ _ _) 4 (by decide) wF_X9_35 rfl rfl rfl ?_
  refine sv_arraylength (pc := 83) (v := 20) (ty := .object RX7) dX9_init_83 rfl (lt_t rfl) rfl (by decide) ?_
  refine sv_icmp_ge (pc := 84) (tgt := 121) dX9_init_84 (by decide) (fun h => absurd h (by decide)) (fun _ => ?_)
  refine sv_aload_n (pc := 87) dX9_init_87 rfl rfl ?_
  refine sw_getfield (pc := 88) dX9_init_88 (gCX9 _ _ _ _ _) 4 (by decide) wF_X9_35 rfl rfl rfl ?_
  refine sv_iload (pc := 91) dX9_init_91 rfl ?_
  refine sw_new (pc := 93) (a := 4) (n1 := 5) (ce1 := 4) (sl1 := 56) (fs := zX7) dX9_init_93 (gCX7 _ _ _ _ _) wC_X9_33 wN_X7 wI_X7 zX7_ok rfl rfl rfl rfl rfl rfl ?_
  refine sv_dup (pc := 96) dX9_init_96 rfl ?_
  refine sv_callI (pc := 97) (M' := mX7_init) (d' := 4) (C' := 2) (S' := 28) (av := []) ?_ (gOk _ _ _ _ _) dX9_init_97 (tX7_init _ _ _ _ _) rfl rfl wV_X7_init wM_X9_42 ⟨le_t rfl, le_t rfl⟩ ⟨le_t rfl, le_t rfl⟩ rfl (le_t rfl) (fun _ _ h => h)
  refine sC.of rfl (by decide) (le_t rfl) ?_
  refine sv_aload_n (pc := 0) dX7_init_0 rfl rfl ?_
  refine sv_objinit (pc := 1) dX7_init_1 wM_X7_3 wV_obj wK_obj ⟨le_t rfl, le_t rfl⟩ (le_t rfl) ?_
  refine sv_aload_n (pc := 4) dX7_init_4 rfl rfl ?_
  refine sv_bipush (pc := 5) (v := 20) dX7_init_5 (by decide) ?_
  refine sw_newarray (pc := 7) (kd := 0) (a := 5) (n1 := 6) (N := 20) (ce1 := 1) (sl1 := 20) (v := .int 0) dX7_init_7 rfl wA_int rfl (fun U => sI_Cond_int U _) (by decide) (by decide) rfl (fun _ => rfl) rfl rfl rfl rfl rfl rfl ?_
  refine sw_putfinal (pc := 9) dX7_init_9 (gCX7 _ _ _ _ _) 0 (by decide) wF_X7_9 rfl rfl rfl rfl rfl (fun _ => rfl) (fun _ => rfl) rfl ?_
  refine sv_aload_n (pc := 12) dX7_init_12 rfl rfl ?_
  refine sv_bipush (pc := 13) (v := 8) dX7_init_13 (by decide) ?_
  refine sw_newarray (pc := 15) (kd := 0) (a := 6) (n1 := 7) (N := 8) (ce1 := 2) (sl1 := 28) (v := .int 0) dX7_init_15 rfl wA_int rfl (fun U => sI_Cond_int U _) (by decide) (by decide) rfl (fun _ => rfl) rfl rfl rfl rfl rfl rfl ?_
  refine sw_putfinal (pc := 17) dX7_init_17 (gCX7 _ _ _ _ _) 1 (by decide) wF_X7_15 rfl rfl rfl rfl rfl (fun _ => rfl) (fun _ => rfl) rfl ?_
  refine sv_aload_n (pc := 20) dX7_init_20 rfl rfl ?_
  refine sv_iconst (pc := 21) (v := (-1)) dX7_init_21 (by decide) ?_
  refine sw_putfield (pc := 22) dX7_init_22 (gCX7 _ _ _ _ _) 9 (by decide) wF_X7_18 rfl rfl rfl (fun _ => rfl) (fun _ => rfl) rfl ?_
  refine sv_vret (pc := 25) dX7_init_25 rfl (le_t rfl) (le_t rfl) ?_
  refine sw_aastore (pc := 100) (k := 0) dX9_init_100 (gCX7 _ _ _ _ _) rfl rfl rfl (by decide) (by decide) rfl rfl rfl ?_
  refine sv_aload_n (pc := 101) dX9_init_101 rfl rfl ?_
  refine sw_getfield (pc := 102) dX9_init_102 (gCX9 _ _ _ _ _) 5 (by decide) wF_X9_39 rfl rfl rfl ?_
  refine sv_iload (pc := 105) dX9_init_105 rfl ?_
  refine sw_new (pc := 107) (a := 7) (n1 := 8) (ce1 := 7) (sl1 := 96) (fs := zX7) dX9_init_107 (gCX7 _ _ _ _ _) wC_X9_33 wN_X7 wI_X7 zX7_ok rfl rfl rfl rfl rfl rfl ?_
  refine sv_dup (pc := 110) dX9_init_110 rfl ?_
  refine sv_callI (pc := 111) (M' := mX7_init) (d' := 4) (C' := 2) (S' := 28) (av := []) ?_ (gOk _ _ _ _ _) dX9_init_111 (tX7_init _ _ _ _ _) rfl rfl wV_X7_init wM_X9_42 ⟨le_t rfl, le_t rfl⟩ ⟨le_t rfl, le_t rfl⟩ rfl (le_t rfl) (fun _ _ h => h)
  refine sC.of rfl (by decide) (le_t rfl) ?_
  refine sv_aload_n (pc := 0) dX7_init_0 rfl rfl ?_
  refine sv_objinit (pc := 1) dX7_init_1 wM_X7_3 wV_obj wK_obj ⟨le_t rfl, le_t rfl⟩ (le_t rfl) ?_
  refine sv_aload_n (pc := 4) dX7_init_4 rfl rfl ?_
  refine sv_bipush (pc := 5) (v := 20) dX7_init_5 (by decide) ?_
  refine sw_newarray (pc := 7) (kd := 0) (a := 8) (n1 := 9) (N := 20) (ce1 := 1) (sl1 := 20) (v := .int 0) dX7_init_7 rfl wA_int rfl (fun U => sI_Cond_int U _) (by decide) (by decide) rfl (fun _ => rfl) rfl rfl rfl rfl rfl rfl ?_
  refine sw_putfinal (pc := 9) dX7_init_9 (gCX7 _ _ _ _ _) 0 (by decide) wF_X7_9 rfl rfl rfl rfl rfl (fun _ => rfl) (fun _ => rfl) rfl ?_
  refine sv_aload_n (pc := 12) dX7_init_12 rfl rfl ?_
  refine sv_bipush (pc := 13) (v := 8) dX7_init_13 (by decide) ?_
  refine sw_newarray (pc := 15) (kd := 0) (a := 9) (n1 := 10) (N := 8) (ce1 := 2) (sl1 := 28) (v := .int 0) dX7_init_15 rfl wA_int rfl (fun U => sI_Cond_int U _) (by decide) (by decide) rfl (fun _ => rfl) rfl rfl rfl rfl rfl rfl ?_
  refine sw_putfinal (pc := 17) dX7_init_17 (gCX7 _ _ _ _ _) 1 (by decide) wF_X7_15 rfl rfl rfl rfl rfl (fun _ => rfl) (fun _ => rfl) rfl ?_
  refine sv_aload_n (pc := 20) dX7_init_20 rfl rfl ?_
  refine sv_iconst (pc := 21) (v := (-1)) dX7_init_21 (by decide) ?_
  refine sw_putfield (pc := 22) dX7_init_22 (gCX7 _ _ _ _ _) 9 (by decide) wF_X7_18 rfl rfl rfl (fun _ => rfl) (fun _ => rfl) rfl ?_
  refine sv_vret (pc := 25) dX7_init_25 rfl (le_t rfl) (le_t rfl) ?_
  refine sw_aastore (pc := 114) (k := 0) dX9_init_114 (gCX7 _ _ _ _ _) rfl rfl rfl (by decide) (by decide) rfl rfl rfl ?_
  refine sw_iinc (pc := 115) (v := 1) dX9_init_115 rfl (by decide) (by decide) ?_
  refine sv_goto (pc := 118) (tgt := 77) dX9_init_118 (by decide) ?_
  refine sv_iload (pc := 77) dX9_init_77 rfl ?_
  refine sv_aload_n (pc := 79) dX9_init_79 rfl rfl ?_
  refine sw_getfield (pc := 80) dX9_init_80 (gCX9 _ _ _ _ _) 4 (by decide) wF_X9_35 rfl rfl rfl ?_
  refine sv_arraylength (pc := 83) (v := 20) (ty := .object RX7) dX9_init_83 rfl (lt_t rfl) rfl (by decide) ?_
  refine sv_icmp_ge (pc := 84) (tgt := 121) dX9_init_84 (by decide) (fun h => absurd h (by decide)) (fun _ => ?_)
  refine sv_aload_n (pc := 87) dX9_init_87 rfl rfl ?_
  refine sw_getfield (pc := 88) dX9_init_88 (gCX9 _ _ _ _ _) 4 (by decide) wF_X9_35 rfl rfl rfl ?_
  refine sv_iload (pc := 91) dX9_init_91 rfl ?_
  refine sw_new (pc := 93) (a := 10) (n1 := 11) (ce1 := 10) (sl1 := 136) (fs := zX7) dX9_init_93 (gCX7 _ _ _ _ _) wC_X9_33 wN_X7 wI_X7 zX7_ok rfl rfl rfl rfl rfl rfl ?_
  refine sv_dup (pc := 96) dX9_init_96 rfl ?_
  refine sv_callI (pc := 97) (M' := mX7_init) (d' := 4) (C' := 2) (S' := 28) (av := []) ?_ (gOk _ _ _ _ _) dX9_init_97 (tX7_init _ _ _ _ _) rfl rfl wV_X7_init wM_X9_42 ⟨le_t rfl, le_t rfl⟩ ⟨le_t rfl, le_t rfl⟩ rfl (le_t rfl) (fun _ _ h => h)
  refine sC.of rfl (by decide) (le_t rfl) ?_
  refine sv_aload_n (pc := 0) dX7_init_0 rfl rfl ?_
  refine sv_objinit (pc := 1) dX7_init_1 wM_X7_3 wV_obj wK_obj ⟨le_t rfl, le_t rfl⟩ (le_t rfl) ?_
  refine sv_aload_n (pc := 4) dX7_init_4 rfl rfl ?_
  refine sv_bipush (pc := 5) (v := 20) dX7_init_5 (by decide) ?_
  refine sw_newarray (pc := 7) (kd := 0) (a := 11) (n1 := 12) (N := 20) (ce1 := 1) (sl1 := 20) (v := .int 0) dX7_init_7 rfl wA_int rfl (fun U => sI_Cond_int U _) (by decide) (by decide) rfl (fun _ => rfl) rfl rfl rfl rfl rfl rfl ?_
  refine sw_putfinal (pc := 9) dX7_init_9 (gCX7 _ _ _ _ _) 0 (by decide) wF_X7_9 rfl rfl rfl rfl rfl (fun _ => rfl) (fun _ => rfl) rfl ?_
  refine sv_aload_n (pc := 12) dX7_init_12 rfl rfl ?_
  refine sv_bipush (pc := 13) (v := 8) dX7_init_13 (by decide) ?_
  refine sw_newarray (pc := 15) (kd := 0) (a := 12) (n1 := 13) (N := 8) (ce1 := 2) (sl1 := 28) (v := .int 0) dX7_init_15 rfl wA_int rfl (fun U => sI_Cond_int U _) (by decide) (by decide) rfl (fun _ => rfl) rfl rfl rfl rfl rfl rfl ?_
  refine sw_putfinal (pc := 17) dX7_init_17 (gCX7 _ _ _ _ _) 1 (by decide) wF_X7_15 rfl rfl rfl rfl rfl (fun _ => rfl) (fun _ => rfl) rfl ?_
  refine sv_aload_n (pc := 20) dX7_init_20 rfl rfl ?_
  refine sv_iconst (pc := 21) (v := (-1)) dX7_init_21 (by decide) ?_
  refine sw_putfield (pc := 22) dX7_init_22 (gCX7 _ _ _ _ _) 9 (by decide) wF_X7_18 rfl rfl rfl (fun _ => rfl) (fun _ => rfl) rfl ?_
  refine sv_vret (pc := 25) dX7_init_25 rfl (le_t rfl) (le_t rfl) ?_
  refine sw_aastore (pc := 100) (k := 1) dX9_init_100 (gCX7 _ _ _ _ _) rfl rfl rfl (by decide) (by decide) rfl rfl rfl ?_
  refine sv_aload_n (pc := 101) dX9_init_101 rfl rfl ?_
  refine sw_getfield (pc := 102) dX9_init_102 (gCX9 _ _ _ _ _) 5 (by decide) wF_X9_39 rfl rfl rfl ?_
  refine sv_iload (pc := 105) dX9_init_105 rfl ?_
  refine sw_new (pc := 107) (a := 13) (n1 := 14) (ce1 := 13) (sl1 := 176) (fs := zX7) dX9_init_107 (gCX7 _ _ _ _ _) wC_X9_33 wN_X7 wI_X7 zX7_ok rfl rfl rfl rfl rfl rfl ?_
  refine sv_dup (pc := 110) dX9_init_110 rfl ?_
  refine sv_callI (pc := 111) (M' := mX7_init) (d' := 4) (C' := 2) (S' := 28) (av := []) ?_ (gOk _ _ _ _ _) dX9_init_111 (tX7_init _ _ _ _ _) rfl rfl wV_X7_init wM_X9_42 ⟨le_t rfl, le_t rfl⟩ ⟨le_t rfl, le_t rfl⟩ rfl (le_t rfl) (fun _ _ h => h)
  refine sC.of rfl (by decide) (le_t rfl) ?_
  refine sv_aload_n (pc := 0) dX7_init_0 rfl rfl ?_
  refine sv_objinit (pc := 1) dX7_init_1 wM_X7_3 wV_obj wK_obj ⟨le_t rfl, le_t rfl⟩ (le_t rfl) ?_
  refine sv_aload_n (pc := 4) dX7_init_4 rfl rfl ?_
  refine sv_bipush (pc := 5) (v := 20) dX7_init_5 (by decide) ?_
  refine sw_newarray (pc := 7) (kd := 0) (a := 14) (n1 := 15) (N := 20) (ce1 := 1) (sl1 := 20) (v := .int 0) dX7_init_7 rfl wA_int rfl (fun U => sI_Cond_int U _) (by decide) (by decide) rfl (fun _ => rfl) rfl rfl rfl rfl rfl rfl ?_
  refine sw_putfinal (pc := 9) dX7_init_9 (gCX7 _ _ _ _ _) 0 (by decide) wF_X7_9 rfl rfl rfl rfl rfl (fun _ => rfl) (fun _ => rfl) rfl ?_
  refine sv_aload_n (pc := 12) dX7_init_12 rfl rfl ?_
  refine sv_bipush (pc := 13) (v := 8) dX7_init_13 (by decide) ?_
  refine sw_newarray (pc := 15) (kd := 0) (a := 15) (n1 := 16) (N := 8) (ce1 := 2) (sl1 := 28) (v := .int 0) dX7_init_15 rfl wA_int rfl (fun U => sI_Cond_int U _) (by decide) (by decide) rfl (fun _ => rfl) rfl rfl rfl rfl rfl rfl ?_
  refine sw_putfinal (pc := 17) dX7_init_17 (gCX7 _ _ _ _ _) 1 (by decide) wF_X7_15 rfl rfl rfl rfl rfl (fun _ => rfl) (fun _ => rfl) rfl ?_
  refine sv_aload_n (pc := 20) dX7_init_20 rfl rfl ?_
  refine sv_iconst (pc := 21) (v := (-1)) dX7_init_21 (by decide) ?_
  refine sw_putfield (pc := 22) dX7_init_22 (gCX7 _ _ _ _ _) 9 (by decide) wF_X7_18 rfl rfl rfl (fun _ => rfl) (fun _ => rfl) rfl ?_
  refine sv_vret (pc := 25) dX7_init_25 rfl (le_t rfl) (le_t rfl) ?_
  refine sw_aastore (pc := 114) (k := 1) dX9_init_114 (gCX7 _ _ _ _ _) rfl rfl rfl (by decide) (by decide) rfl rfl rfl ?_
  refine sw_iinc (pc := 115) (v := 2) dX9_init_115 rfl (by decide) (by decide) ?_
  refine sv_goto (pc := 118) (tgt := 77) dX9_init_118 (by decide) ?_
  refine sv_iload (pc := 77) dX9_init_77 rfl ?_
  refine sv_aload_n (pc := 79) dX9_init_79 rfl rfl ?_
  refine sw_getfield (pc := 80) dX9_init_80 (gCX9 _ _ _ _ _) 4 (by decide) wF_X9_35 rfl rfl rfl ?_
  refine sv_arraylength (pc := 83) (v := 20) (ty := .object RX7) dX9_init_83 rfl (lt_t rfl) rfl (by decide) ?_
  refine sv_icmp_ge (pc := 84) (tgt := 121) dX9_init_84 (by decide) (fun h => absurd h (by decide)) (fun _ => ?_)
  refine sv_aload_n (pc := 87) dX9_init_87 rfl rfl ?_
  refine sw_getfield (pc := 88) dX9_init_88 (gCX9 _ _ _ _ _) 4 (by decide) wF_X9_35 rfl rfl rfl ?_
  refine sv_iload (pc := 91) dX9_init_91 rfl ?_
  refine sw_new (pc := 93) (a := 16) (n1 := 17) (ce1 := 16) (sl1 := 216) (fs := zX7) dX9_init_93 (gCX7 _ _ _ _ _) wC_X9_33 wN_X7 wI_X7 zX7_ok rfl rfl rfl rfl rfl rfl ?_
  refine sv_dup (pc := 96) dX9_init_96 rfl ?_
  refine sv_callI (pc := 97) (M' := mX7_init) (d' := 4) (C' := 2) (S' := 28) (av := []) ?_ (gOk _ _ _ _ _) dX9_init_97 (tX7_init _ _ _ _ _) rfl rfl wV_X7_init wM_X9_42 ⟨le_t rfl, le_t rfl⟩ ⟨le_t rfl, le_t rfl⟩ rfl (le_t rfl) (fun _ _ h => h)
  refine sC.of rfl (by decide) (le_t rfl) ?_
  refine sv_aload_n (pc := 0) dX7_init_0 rfl rfl ?_
  refine sv_objinit (pc := 1) dX7_init_1 wM_X7_3 wV_obj wK_obj ⟨le_t rfl, le_t rfl⟩ (le_t rfl) ?_
  refine sv_aload_n (pc := 4) dX7_init_4 rfl rfl ?_
  refine sv_bipush (pc := 5) (v := 20) dX7_init_5 (by decide) ?_
  refine sw_newarray (pc := 7) (kd := 0) (a := 17) (n1 := 18) (N := 20) (ce1 := 1) (sl1 := 20) (v := .int 0) dX7_init_7 rfl wA_int rfl (fun U => sI_Cond_int U _) (by decide) (by decide) rfl (fun _ => rfl) rfl rfl rfl rfl rfl rfl ?_
  refine sw_putfinal (pc := 9) dX7_init_9 (gCX7 _ _ _ _ _) 0 (by decide) wF_X7_9 rfl rfl rfl rfl rfl (fun _ => rfl) (fun _ => rfl) rfl ?_
  refine sv_aload_n (pc := 12) dX7_init_12 rfl rfl ?_
  refine sv_bipush (pc := 13) (v := 8) dX7_init_13 (by decide) ?_
  refine sw_newarray (pc := 15) (kd := 0) (a := 18) (n1 := 19) (N := 8) (ce1 := 2) (sl1 := 28) (v := .int 0) dX7_init_15 rfl wA_int rfl (fun U => sI_Cond_int U _) (by decide) (by decide) rfl (fun _ => rfl) rfl rfl rfl rfl rfl rfl ?_
  refine sw_putfinal (pc := 17) dX7_init_17 (gCX7 _ _ _ _ _) 1 (by decide) wF_X7_15 rfl rfl rfl rfl rfl (fun _ => rfl) (fun _ => rfl) rfl ?_
  refine sv_aload_n (pc := 20) dX7_init_20 rfl rfl ?_
  refine sv_iconst (pc := 21) (v := (-1)) dX7_init_21 (by decide) ?_
  refine sw_putfield (pc := 22) dX7_init_22 (gCX7 _ _ _ _ _) 9 (by decide) wF_X7_18 rfl rfl rfl (fun _ => rfl) (fun _ => rfl) rfl ?_
  refine sv_vret (pc := 25) dX7_init_25 rfl (le_t rfl) (le_t rfl) ?_
  refine sw_aastore (pc := 100) (k := 2) dX9_init_100 (gCX7 _ _ _ _ _) rfl rfl rfl (by decide) (by decide) rfl rfl rfl ?_
  refine sv_aload_n (pc := 101) dX9_init_101 rfl rfl ?_
  refine sw_getfield (pc := 102) dX9_init_102 (gCX9 _ _ _ _ _) 5 (by decide) wF_X9_39 rfl rfl rfl ?_
  refine sv_iload (pc := 105) dX9_init_105 rfl ?_
  refine sw_new (pc := 107) (a := 19) (n1 := 20) (ce1 := 19) (sl1 := 256) (fs := zX7) dX9_init_107 (gCX7 _ _ _ _ _) wC_X9_33 wN_X7 wI_X7 zX7_ok rfl rfl rfl rfl rfl rfl ?_
  refine sv_dup (pc := 110) dX9_init_110 rfl ?_
  refine sv_callI (pc := 111) (M' := mX7_init) (d' := 4) (C' := 2) (S' := 28) (av := []) ?_ (gOk _ _ _ _ _) dX9_init_111 (tX7_init _ _ _ _ _) rfl rfl wV_X7_init wM_X9_42 ⟨le_t rfl, le_t rfl⟩ ⟨le_t rfl, le_t rfl⟩ rfl (le_t rfl) (fun _ _ h => h)
  refine sC.of rfl (by decide) (le_t rfl) ?_
  refine sv_aload_n (pc := 0) dX7_init_0 rfl rfl ?_
  refine sv_objinit (pc := 1) dX7_init_1 wM_X7_3 wV_obj wK_obj ⟨le_t rfl, le_t rfl⟩ (le_t rfl) ?_
  refine sv_aload_n (pc := 4) dX7_init_4 rfl rfl ?_
  refine sv_bipush (pc := 5) (v := 20) dX7_init_5 (by decide) ?_
  refine sw_newarray (pc := 7) (kd := 0) (a := 20) (n1 := 21) (N := 20) (ce1 := 1) (sl1 := 20) (v := .int 0) dX7_init_7 rfl wA_int rfl (fun U => sI_Cond_int U _) (by decide) (by decide) rfl (fun _ => rfl) rfl rfl rfl rfl rfl rfl ?_
  refine sw_putfinal (pc := 9) dX7_init_9 (gCX7 _ _ _ _ _) 0 (by decide) wF_X7_9 rfl rfl rfl rfl rfl (fun _ => rfl) (fun _ => rfl) rfl ?_
  refine sv_aload_n (pc := 12) dX7_init_12 rfl rfl ?_
  refine sv_bipush (pc := 13) (v := 8) dX7_init_13 (by decide) ?_
  refine sw_newarray (pc := 15) (kd := 0) (a := 21) (n1 := 22) (N := 8) (ce1 := 2) (sl1 := 28) (v := .int 0) dX7_init_15 rfl wA_int rfl (fun U => sI_Cond_int U _) (by decide) (by decide) rfl (fun _ => rfl) rfl rfl rfl rfl rfl rfl ?_
  refine sw_putfinal (pc := 17) dX7_init_17 (gCX7 _ _ _ _ _) 1 (by decide) wF_X7_15 rfl rfl rfl rfl rfl (fun _ => rfl) (fun _ => rfl) rfl ?_
  refine sv_aload_n (pc := 20) dX7_init_20 rfl rfl ?_
  refine sv_iconst (pc := 21) (v := (-1)) dX7_init_21 (by decide) ?_
  refine sw_putfield (pc := 22) dX7_init_22 (gCX7 _ _ _ _ _) 9 (by decide) wF_X7_18 rfl rfl rfl (fun _ => rfl) (fun _ => rfl) rfl ?_
  refine sv_vret (pc := 25) dX7_init_25 rfl (le_t rfl) (le_t rfl) ?_
  refine sw_aastore (pc := 114) (k := 2) dX9_init_114 (gCX7 _ _ _ _ _) rfl rfl rfl (by decide) (by decide) rfl rfl rfl ?_
  refine sw_iinc (pc := 115) (v := 3) dX9_init_115 rfl (by decide) (by decide) ?_
  refine sv_goto (pc := 118) (tgt := 77) dX9_init_118 (by decide) ?_
  refine sv_iload (pc := 77) dX9_init_77 rfl ?_
  refine sv_aload_n (pc := 79) dX9_init_79 rfl rfl ?_
  refine sw_getfield (pc := 80) dX9_init_80 (gCX9 _ _ _ _ _) 4 (by decide) wF_X9_35 rfl rfl rfl ?_
  refine sv_arraylength (pc := 83) (v := 20) (ty := .object RX7) dX9_init_83 rfl (lt_t rfl) rfl (by decide) ?_
  refine sv_icmp_ge (pc := 84) (tgt := 121) dX9_init_84 (by decide) (fun h => absurd h (by decide)) (fun _ => ?_)
  refine sv_aload_n (pc := 87) dX9_init_87 rfl rfl ?_
  refine sw_getfield (pc := 88) dX9_init_88 (gCX9 _ _ _ _ _) 4 (by decide) wF_X9_35 rfl rfl rfl ?_
  refine sv_iload (pc := 91) dX9_init_91 rfl ?_
  refine sw_new (pc := 93) (a := 22) (n1 := 23) (ce1 := 22) (sl1 := 296) (fs := zX7) dX9_init_93 (gCX7 _ _ _ _ _) wC_X9_33 wN_X7 wI_X7 zX7_ok rfl rfl rfl rfl rfl rfl ?_
  refine sv_dup (pc := 96) dX9_init_96 rfl ?_
  refine sv_callI (pc := 97) (M' := mX7_init) (d' := 4) (C' := 2) (S' := 28) (av := []) ?_ (gOk _ _ _ _ _) dX9_init_97 (tX7_init _ _ _ _ _) rfl rfl wV_X7_init wM_X9_42 ⟨le_t rfl, le_t rfl⟩ ⟨le_t rfl, le_t rfl⟩ rfl (le_t rfl) (fun _ _ h => h)
  refine sC.of rfl (by decide) (le_t rfl) ?_
  refine sv_aload_n (pc := 0) dX7_init_0 rfl rfl ?_
  refine sv_objinit (pc := 1) dX7_init_1 wM_X7_3 wV_obj wK_obj ⟨le_t rfl, le_t rfl⟩ (le_t rfl) ?_
  refine sv_aload_n (pc := 4) dX7_init_4 rfl rfl ?_
  refine sv_bipush (pc := 5) (v := 20) dX7_init_5 (by decide) ?_
  refine sw_newarray (pc := 7) (kd := 0) (a := 23) (n1 := 24) (N := 20) (ce1 := 1) (sl1 := 20) (v := .int 0) dX7_init_7 rfl wA_int rfl (fun U => sI_Cond_int U _) (by decide) (by decide) rfl (fun _ => rfl) rfl rfl rfl rfl rfl rfl ?_
  refine sw_putfinal (pc := 9) dX7_init_9 (gCX7 _ _ _ _ _) 0 (by decide) wF_X7_9 rfl rfl rfl rfl rfl (fun _ => rfl) (fun _ => rfl) rfl ?_
  refine sv_aload_n (pc := 12) dX7_init_12 rfl rfl ?_
  refine sv_bipush (pc := 13) (v := 8) dX7_init_13 (by decide) ?_
  refine sw_newarray (pc := 15) (kd := 0) (a := 24) (n1 := 25) (N := 8) (ce1 := 2) (sl1 := 28) (v := .int 0) dX7_init_15 rfl wA_int rfl (fun U => sI_Cond_int U _) (by decide) (by decide) rfl (fun _ => rfl) rfl rfl rfl rfl rfl rfl ?_
  refine sw_putfinal (pc := 17) dX7_init_17 (gCX7 _ _ _ _ _) 1 (by decide) wF_X7_15 rfl rfl rfl rfl rfl (fun _ => rfl) (fun _ => rfl) rfl ?_
  refine sv_aload_n (pc := 20) dX7_init_20 rfl rfl ?_
  refine sv_iconst (pc := 21) (v := (-1)) dX7_init_21 (by decide) ?_
  refine sw_putfield (pc := 22) dX7_init_22 (gCX7 _ _ _ _ _) 9 (by decide) wF_X7_18 rfl rfl rfl (fun _ => rfl) (fun _ => rfl) rfl ?_
  refine sv_vret (pc := 25) dX7_init_25 rfl (le_t rfl) (le_t rfl) ?_
  refine sw_aastore (pc := 100) (k := 3) dX9_init_100 (gCX7 _ _ _ _ _) rfl rfl rfl (by decide) (by decide) rfl rfl rfl ?_
  refine sv_aload_n (pc := 101) dX9_init_101 rfl rfl ?_
  refine sw_getfield (pc := 102) dX9_init_102 (gCX9 _ _ _ _ _) 5 (by decide) wF_X9_39 rfl rfl rfl ?_
  refine sv_iload (pc := 105) dX9_init_105 rfl ?_
  refine sw_new (pc := 107) (a := 25) (n1 := 26) (ce1 := 25) (sl1 := 336) (fs := zX7) dX9_init_107 (gCX7 _ _ _ _ _) wC_X9_33 wN_X7 wI_X7 zX7_ok rfl rfl rfl rfl rfl rfl ?_
  refine sv_dup (pc := 110) dX9_init_110 rfl ?_
  refine sv_callI (pc := 111) (M' := mX7_init) (d' := 4) (C' := 2) (S' := 28) (av := []) ?_ (gOk _ _ _ _ _) dX9_init_111 (tX7_init _ _ _ _ _) rfl rfl wV_X7_init wM_X9_42 ⟨le_t rfl, le_t rfl⟩ ⟨le_t rfl, le_t rfl⟩ rfl (le_t rfl) (fun _ _ h => h)
  refine sC.of rfl (by decide) (le_t rfl) ?_
  refine sv_aload_n (pc := 0) dX7_init_0 rfl rfl ?_
  refine sv_objinit (pc := 1) dX7_init_1 wM_X7_3 wV_obj wK_obj ⟨le_t rfl, le_t rfl⟩ (le_t rfl) ?_
  refine sv_aload_n (pc := 4) dX7_init_4 rfl rfl ?_
  refine sv_bipush (pc := 5) (v := 20) dX7_init_5 (by decide) ?_
  refine sw_newarray (pc := 7) (kd := 0) (a := 26) (n1 := 27) (N := 20) (ce1 := 1) (sl1 := 20) (v := .int 0) dX7_init_7 rfl wA_int rfl (fun U => sI_Cond_int U _) (by decide) (by decide) rfl (fun _ => rfl) rfl rfl rfl rfl rfl rfl ?_
  refine sw_putfinal (pc := 9) dX7_init_9 (gCX7 _ _ _ _ _) 0 (by decide) wF_X7_9 rfl rfl rfl rfl rfl (fun _ => rfl) (fun _ => rfl) rfl ?_
  refine sv_aload_n (pc := 12) dX7_init_12 rfl rfl ?_
  refine sv_bipush (pc := 13) (v := 8) dX7_init_13 (by decide) ?_
  refine sw_newarray (pc := 15) (kd := 0) (a := 27) (n1 := 28) (N := 8) (ce1 := 2) (sl1 := 28) (v := .int 0) dX7_init_15 rfl wA_int rfl (fun U => sI_Cond_int U _) (by decide) (by decide) rfl (fun _ => rfl) rfl rfl rfl rfl rfl rfl ?_
  refine sw_putfinal (pc := 17) dX7_init_17 (gCX7 _ _ _ _ _) 1 (by decide) wF_X7_15 rfl rfl rfl rfl rfl (fun _ => rfl) (fun _ => rfl) rfl ?_
  refine sv_aload_n (pc := 20) dX7_init_20 rfl rfl ?_
  refine sv_iconst (pc := 21) (v := (-1)) dX7_init_21 (by decide) ?_
  refine sw_putfield (pc := 22) dX7_init_22 (gCX7 _ _ _ _ _) 9 (by decide) wF_X7_18 rfl rfl rfl (fun _ => rfl) (fun _ => rfl) rfl ?_
  refine sv_vret (pc := 25) dX7_init_25 rfl (le_t rfl) (le_t rfl) ?_
  refine sw_aastore (pc := 114) (k := 3) dX9_init_114 (gCX7 _ _ _ _ _) rfl rfl rfl (by decide) (by decide) rfl rfl rfl ?_
  refine sw_iinc (pc := 115) (v := 4) dX9_init_115 rfl (by decide) (by decide) ?_
  refine sv_goto (pc := 118) (tgt := 77) dX9_init_118 (by decide) ?_
  refine sv_iload (pc := 77) dX9_init_77 rfl ?_
  refine sv_aload_n (pc := 79) dX9_init_79 rfl rfl ?_
  refine sw_getfield (pc := 80) dX9_init_80 (gCX9 _ _ _ _ _) 4 (by decide) wF_X9_35 rfl rfl rfl ?_
  refine sv_arraylength (pc := 83) (v := 20) (ty := .object RX7) dX9_init_83 rfl (lt_t rfl) rfl (by decide) ?_
  refine sv_icmp_ge (pc := 84) (tgt := 121) dX9_init_84 (by decide) (fun h => absurd h (by decide)) (fun _ => ?_)
  refine sv_aload_n (pc := 87) dX9_init_87 rfl rfl ?_
  refine sw_getfield (pc := 88) dX9_init_88 (gCX9 _ _ _ _ _) 4 (by decide) wF_X9_35 rfl rfl rfl ?_
  refine sv_iload (pc := 91) dX9_init_91 rfl ?_
  refine sw_new (pc := 93) (a := 28) (n1 := 29) (ce1 := 28) (sl1 := 376) (fs := zX7) dX9_init_93 (gCX7 _ _ _ _ _) wC_X9_33 wN_X7 wI_X7 zX7_ok rfl rfl rfl rfl rfl rfl ?_
  refine sv_dup (pc := 96) dX9_init_96 rfl ?_
  refine sv_callI (pc := 97) (M' := mX7_init) (d' := 4) (C' := 2) (S' := 28) (av := []) ?_ (gOk _ _ _ _ _) dX9_init_97 (tX7_init _ _ _ _ _) rfl rfl wV_X7_init wM_X9_42 ⟨le_t rfl, le_t rfl⟩ ⟨le_t rfl, le_t rfl⟩ rfl (le_t rfl) (fun _ _ h => h)
  refine sC.of rfl (by decide) (le_t rfl) ?_
  refine sv_aload_n (pc := 0) dX7_init_0 rfl rfl ?_
  refine sv_objinit (pc := 1) dX7_init_1 wM_X7_3 wV_obj wK_obj ⟨le_t rfl, le_t rfl⟩ (le_t rfl) ?_
  refine sv_aload_n (pc := 4) dX7_init_4 rfl rfl ?_
  refine sv_bipush (pc := 5) (v := 20) dX7_init_5 (by decide) ?_
  refine sw_newarray (pc := 7) (kd := 0) (a := 29) (n1 := 30) (N := 20) (ce1 := 1) (sl1 := 20) (v := .int 0) dX7_init_7 rfl wA_int rfl (fun U => sI_Cond_int U _) (by decide) (by decide) rfl (fun _ => rfl) rfl rfl rfl rfl rfl rfl ?_
  refine sw_putfinal (pc := 9) dX7_init_9 (gCX7 _ _ _ _ _) 0 (by decide) wF_X7_9 rfl rfl rfl rfl rfl (fun _ => rfl) (fun _ => rfl) rfl ?_
  refine sv_aload_n (pc := 12) dX7_init_12 rfl rfl ?_
  refine sv_bipush (pc := 13) (v := 8) dX7_init_13 (by decide) ?_
  refine sw_newarray (pc := 15) (kd := 0) (a := 30) (n1 := 31) (N := 8) (ce1 := 2) (sl1 := 28) (v := .int 0) dX7_init_15 rfl wA_int rfl (fun U => sI_Cond_int U _) (by decide) (by decide) rfl (fun _ => rfl) rfl rfl rfl rfl rfl rfl ?_
  refine sw_putfinal (pc := 17) dX7_init_17 (gCX7 _ _ _ _ _) 1 (by decide) wF_X7_15 rfl rfl rfl rfl rfl (fun _ => rfl) (fun _ => rfl) rfl ?_
  refine sv_aload_n (pc := 20) dX7_init_20 rfl rfl ?_
  refine sv_iconst (pc := 21) (v := (-1)) dX7_init_21 (by decide) ?_
  refine sw_putfield (pc := 22) dX7_init_22 (gCX7 _ _ _ _ _) 9 (by decide) wF_X7_18 rfl rfl rfl (fun _ => rfl) (fun _ => rfl) rfl ?_
  refine sv_vret (pc := 25) dX7_init_25 rfl (le_t rfl) (le_t rfl) ?_
  refine sw_aastore (pc := 100) (k := 4) dX9_init_100 (gCX7 _ _ _ _ _) rfl rfl rfl (by decide) (by decide) rfl rfl rfl ?_
  refine sv_aload_n (pc := 101) dX9_init_101 rfl rfl ?_
  refine sw_getfield (pc := 102) dX9_init_102 (gCX9 _ _ _ _ _) 5 (by decide) wF_X9_39 rfl rfl rfl ?_
  refine sv_iload (pc := 105) dX9_init_105 rfl ?_
  refine sw_new (pc := 107) (a := 31) (n1 := 32) (ce1 := 31) (sl1 := 416) (fs := zX7) dX9_init_107 (gCX7 _ _ _ _ _) wC_X9_33 wN_X7 wI_X7 zX7_ok rfl rfl rfl rfl rfl rfl ?_
  refine sv_dup (pc := 110) dX9_init_110 rfl ?_
  refine sv_callI (pc := 111) (M' := mX7_init) (d' := 4) (C' := 2) (S' := 28) (av := []) ?_ (gOk _ _ _ _ _) dX9_init_111 (tX7_init _ _ _ _ _) rfl rfl wV_X7_init wM_X9_42 ⟨le_t rfl, le_t rfl⟩ ⟨le_t rfl, le_t rfl⟩ rfl (le_t rfl) (fun _ _ h => h)
  refine sC.of rfl (by decide) (le_t rfl) ?_
  refine sv_aload_n (pc := 0) dX7_init_0 rfl rfl ?_
  refine sv_objinit (pc := 1) dX7_init_1 wM_X7_3 wV_obj wK_obj ⟨le_t rfl, le_t rfl⟩ (le_t rfl) ?_
  refine sv_aload_n (pc := 4) dX7_init_4 rfl rfl ?_
  refine sv_bipush (pc := 5) (v := 20) dX7_init_5 (by decide) ?_
  refine sw_newarray (pc := 7) (kd := 0) (a := 32) (n1 := 33) (N := 20) (ce1 := 1) (sl1 := 20) (v := .int 0) dX7_init_7 rfl wA_int rfl (fun U => sI_Cond_int U _) (by decide) (by decide) rfl (fun _ => rfl) rfl rfl rfl rfl rfl rfl ?_
  refine sw_putfinal (pc := 9) dX7_init_9 (gCX7 _ _ _ _ _) 0 (by decide) wF_X7_9 rfl rfl rfl rfl rfl (fun _ => rfl) (fun _ => rfl) rfl ?_
  refine sv_aload_n (pc := 12) dX7_init_12 rfl rfl ?_
  refine sv_bipush (pc := 13) (v := 8) dX7_init_13 (by decide) ?_
  refine sw_newarray (pc := 15) (kd := 0) (a := 33) (n1 := 34) (N := 8) (ce1 := 2) (sl1 := 28) (v := .int 0) dX7_init_15 rfl wA_int rfl (fun U => sI_Cond_int U _) (by decide) (by decide) rfl (fun _ => rfl) rfl rfl rfl rfl rfl rfl ?_
  refine sw_putfinal (pc := 17) dX7_init_17 (gCX7 _ _ _ _ _) 1 (by decide) wF_X7_15 rfl rfl rfl rfl rfl (fun _ => rfl) (fun _ => rfl) rfl ?_
  refine sv_aload_n (pc := 20) dX7_init_20 rfl rfl ?_
  refine sv_iconst (pc := 21) (v := (-1)) dX7_init_21 (by decide) ?_
  refine sw_putfield (pc := 22) dX7_init_22 (gCX7 _ _ _ _ _) 9 (by decide) wF_X7_18 rfl rfl rfl (fun _ => rfl) (fun _ => rfl) rfl ?_
  refine sv_vret (pc := 25) dX7_init_25 rfl (le_t rfl) (le_t rfl) ?_
  refine sw_aastore (pc := 114) (k := 4) dX9_init_114 (gCX7 _ _ _ _ _) rfl rfl rfl (by decide) (by decide) rfl rfl rfl ?_
  refine sw_iinc (pc := 115) (v := 5) dX9_init_115 rfl (by decide) (by decide) ?_
  refine sv_goto (pc := 118) (tgt := 77) dX9_init_118 (by decide) ?_
  refine sv_iload (pc := 77) dX9_init_77 rfl ?_
  refine sv_aload_n (pc := 79) dX9_init_79 rfl rfl ?_
  refine sw_getfield (pc := 80) dX9_init_80 (gCX9 _ _ _ _ _) 4 (by decide) wF_X9_35 rfl rfl rfl ?_
  refine sv_arraylength (pc := 83) (v := 20) (ty := .object RX7) dX9_init_83 rfl (lt_t rfl) rfl (by decide) ?_
  refine sv_icmp_ge (pc := 84) (tgt := 121) dX9_init_84 (by decide) (fun h => absurd h (by decide)) (fun _ => ?_)
  refine sv_aload_n (pc := 87) dX9_init_87 rfl rfl ?_
  refine sw_getfield (pc := 88) dX9_init_88 (gCX9 _ _ _ _ _) 4 (by decide) wF_X9_35 rfl rfl rfl ?_
  refine sv_iload (pc := 91) dX9_init_91 rfl ?_
  refine sw_new (pc := 93) (a := 34) (n1 := 35) (ce1 := 34) (sl1 := 456) (fs := zX7) dX9_init_93 (gCX7 _ _ _ _ _) wC_X9_33 wN_X7 wI_X7 zX7_ok rfl rfl rfl rfl rfl rfl ?_
  refine sv_dup (pc := 96) dX9_init_96 rfl ?_
  refine sv_callI (pc := 97) (M' := mX7_init) (d' := 4) (C' := 2) (S' := 28) (av := []) ?_ (gOk _ _ _ _ _) dX9_init_97 (tX7_init _ _ _ _ _) rfl rfl wV_X7_init wM_X9_42 ⟨le_t rfl, le_t rfl⟩ ⟨le_t rfl, le_t rfl⟩ rfl (le_t rfl) (fun _ _ h => h)
  refine sC.of rfl (by decide) (le_t rfl) ?_
  refine sv_aload_n (pc := 0) dX7_init_0 rfl rfl ?_
  refine sv_objinit (pc := 1) dX7_init_1 wM_X7_3 wV_obj wK_obj ⟨le_t rfl, le_t rfl⟩ (le_t rfl) ?_
  refine sv_aload_n (pc := 4) dX7_init_4 rfl rfl ?_
  refine sv_bipush (pc := 5) (v := 20) dX7_init_5 (by decide) ?_
  refine sw_newarray (pc := 7) (kd := 0) (a := 35) (n1 := 36) (N := 20) (ce1 := 1) (sl1 := 20) (v := .int 0) dX7_init_7 rfl wA_int rfl (fun U => sI_Cond_int U _) (by decide) (by decide) rfl (fun _ => rfl) rfl rfl rfl rfl rfl rfl ?_
  refine sw_putfinal (pc := 9) dX7_init_9 (gCX7 _ _ _ _ _) 0 (by decide) wF_X7_9 rfl rfl rfl rfl rfl (fun _ => rfl) (fun _ => rfl) rfl ?_
  refine sv_aload_n (pc := 12) dX7_init_12 rfl rfl ?_
  refine sv_bipush (pc := 13) (v := 8) dX7_init_13 (by decide) ?_
  refine sw_newarray (pc := 15) (kd := 0) (a := 36) (n1 := 37) (N := 8) (ce1 := 2) (sl1 := 28) (v := .int 0) dX7_init_15 rfl wA_int rfl (fun U => sI_Cond_int U _) (by decide) (by decide) rfl (fun _ => rfl) rfl rfl rfl rfl rfl rfl ?_
  refine sw_putfinal (pc := 17) dX7_init_17 (gCX7 _ _ _ _ _) 1 (by decide) wF_X7_15 rfl rfl rfl rfl rfl (fun _ => rfl) (fun _ => rfl) rfl ?_
  refine sv_aload_n (pc := 20) dX7_init_20 rfl rfl ?_
  refine sv_iconst (pc := 21) (v := (-1)) dX7_init_21 (by decide) ?_
  refine sw_putfield (pc := 22) dX7_init_22 (gCX7 _ _ _ _ _) 9 (by decide) wF_X7_18 rfl rfl rfl (fun _ => rfl) (fun _ => rfl) rfl ?_
  refine sv_vret (pc := 25) dX7_init_25 rfl (le_t rfl) (le_t rfl) ?_
  refine sw_aastore (pc := 100) (k := 5) dX9_init_100 (gCX7 _ _ _ _ _) rfl rfl rfl (by decide) (by decide) rfl rfl rfl ?_
  refine sv_aload_n (pc := 101) dX9_init_101 rfl rfl ?_
  refine sw_getfield (pc := 102) dX9_init_102 (gCX9 _ _ _ _ _) 5 (by decide) wF_X9_39 rfl rfl rfl ?_
  refine sv_iload (pc := 105) dX9_init_105 rfl ?_
  refine sw_new (pc := 107) (a := 37) (n1 := 38) (ce1 := 37) (sl1 := 496) (fs := zX7) dX9_init_107 (gCX7 _ _ _ _ _) wC_X9_33 wN_X7 wI_X7 zX7_ok rfl rfl rfl rfl rfl rfl ?_
  refine sv_dup (pc := 110) dX9_init_110 rfl ?_
  refine sv_callI (pc := 111) (M' := mX7_init) (d' := 4) (C' := 2) (S' := 28) (av := []) ?_ (gOk _ _ _ _ _) dX9_init_111 (tX7_init _ _ _ _ _) rfl rfl wV_X7_init wM_X9_42 ⟨le_t rfl, le_t rfl⟩ ⟨le_t rfl, le_t rfl⟩ rfl (le_t rfl) (fun _ _ h => h)
  refine sC.of rfl (by decide) (le_t rfl) ?_
  refine sv_aload_n (pc := 0) dX7_init_0 rfl rfl ?_
  refine sv_objinit (pc := 1) dX7_init_1 wM_X7_3 wV_obj wK_obj ⟨le_t rfl, le_t rfl⟩ (le_t rfl) ?_
  refine sv_aload_n (pc := 4) dX7_init_4 rfl rfl ?_
  refine sv_bipush (pc := 5) (v := 20) dX7_init_5 (by decide) ?_
  refine sw_newarray (pc := 7) (kd := 0) (a := 38) (n1 := 39) (N := 20) (ce1 := 1) (sl1 := 20) (v := .int 0) dX7_init_7 rfl wA_int rfl (fun U => sI_Cond_int U _) (by decide) (by decide) rfl (fun _ => rfl) rfl rfl rfl rfl rfl rfl ?_
  refine sw_putfinal (pc := 9) dX7_init_9 (gCX7 _ _ _ _ _) 0 (by decide) wF_X7_9 rfl rfl rfl rfl rfl (fun _ => rfl) (fun _ => rfl) rfl ?_
  refine sv_aload_n (pc := 12) dX7_init_12 rfl rfl ?_
  refine sv_bipush (pc := 13) (v := 8) dX7_init_13 (by decide) ?_
  refine sw_newarray (pc := 15) (kd := 0) (a := 39) (n1 := 40) (N := 8) (ce1 := 2) (sl1 := 28) (v := .int 0) dX7_init_15 rfl wA_int rfl (fun U => sI_Cond_int U _) (by decide) (by decide) rfl (fun _ => rfl) rfl rfl rfl rfl rfl rfl ?_
  refine sw_putfinal (pc := 17) dX7_init_17 (gCX7 _ _ _ _ _) 1 (by decide) wF_X7_15 rfl rfl rfl rfl rfl (fun _ => rfl) (fun _ => rfl) rfl ?_
  refine sv_aload_n (pc := 20) dX7_init_20 rfl rfl ?_
  refine sv_iconst (pc := 21) (v := (-1)) dX7_init_21 (by decide) ?_
  refine sw_putfield (pc := 22) dX7_init_22 (gCX7 _ _ _ _ _) 9 (by decide) wF_X7_18 rfl rfl rfl (fun _ => rfl) (fun _ => rfl) rfl ?_
  refine sv_vret (pc := 25) dX7_init_25 rfl (le_t rfl) (le_t rfl) ?_
  refine sw_aastore (pc := 114) (k := 5) dX9_init_114 (gCX7 _ _ _ _ _) rfl rfl rfl (by decide) (by decide) rfl rfl rfl ?_
  refine sw_iinc (pc := 115) (v := 6) dX9_init_115 rfl (by decide) (by decide) ?_
  refine sv_goto (pc := 118) (tgt := 77) dX9_init_118 (by decide) ?_
  refine sv_iload (pc := 77) dX9_init_77 rfl ?_
  refine sv_aload_n (pc := 79) dX9_init_79 rfl rfl ?_
  refine sw_getfield (pc := 80) dX9_init_80 (gCX9 _ _ _ _ _) 4 (by decide) wF_X9_35 rfl rfl rfl ?_
  refine sv_arraylength (pc := 83) (v := 20) (ty := .object RX7) dX9_init_83 rfl (lt_t rfl) rfl (by decide) ?_
  refine sv_icmp_ge (pc := 84) (tgt := 121) dX9_init_84 (by decide) (fun h => absurd h (by decide)) (fun _ => ?_)
  refine sv_aload_n (pc := 87) dX9_init_87 rfl rfl ?_
  refine sw_getfield (pc := 88) dX9_init_88 (gCX9 _ _ _ _ _) 4 (by decide) wF_X9_35 rfl rfl rfl ?_
  refine sv_iload (pc := 91) dX9_init_91 rfl ?_
  refine sw_new (pc := 93) (a := 40) (n1 := 41) (ce1 := 40) (sl1 := 536) (fs := zX7) dX9_init_93 (gCX7 _ _ _ _ _) wC_X9_33 wN_X7 wI_X7 zX7_ok rfl rfl rfl rfl rfl rfl ?_
  refine sv_dup (pc := 96) dX9_init_96 rfl ?_
  refine sv_callI (pc := 97) (M' := mX7_init) (d' := 4) (C' := 2) (S' := 28) (av := []) ?_ (gOk _ _ _ _ _) dX9_init_97 (tX7_init _ _ _ _ _) rfl rfl wV_X7_init wM_X9_42 ⟨le_t rfl, le_t rfl⟩ ⟨le_t rfl, le_t rfl⟩ rfl (le_t rfl) (fun _ _ h => h)
  refine sC.of rfl (by decide) (le_t rfl) ?_
  refine sv_aload_n (pc := 0) dX7_init_0 rfl rfl ?_
  refine sv_objinit (pc := 1) dX7_init_1 wM_X7_3 wV_obj wK_obj ⟨le_t rfl, le_t rfl⟩ (le_t rfl) ?_
  refine sv_aload_n (pc := 4) dX7_init_4 rfl rfl ?_
  refine sv_bipush (pc := 5) (v := 20) dX7_init_5 (by decide) ?_
  refine sw_newarray (pc := 7) (kd := 0) (a := 41) (n1 := 42) (N := 20) (ce1 := 1) (sl1 := 20) (v := .int 0) dX7_init_7 rfl wA_int rfl (fun U => sI_Cond_int U _) (by decide) (by decide) rfl (fun _ => rfl) rfl rfl rfl rfl rfl rfl ?_
  refine sw_putfinal (pc := 9) dX7_init_9 (gCX7 _ _ _ _ _) 0 (by decide) wF_X7_9 rfl rfl rfl rfl rfl (fun _ => rfl) (fun _ => rfl) rfl ?_
  refine sv_aload_n (pc := 12) dX7_init_12 rfl rfl ?_
  refine sv_bipush (pc := 13) (v := 8) dX7_init_13 (by decide) ?_
  refine sw_newarray (pc := 15) (kd := 0) (a := 42) (n1 := 43) (N := 8) (ce1 := 2) (sl1 := 28) (v := .int 0) dX7_init_15 rfl wA_int rfl (fun U => sI_Cond_int U _) (by decide) (by decide) rfl (fun _ => rfl) rfl rfl rfl rfl rfl rfl ?_
  refine sw_putfinal (pc := 17) dX7_init_17 (gCX7 _ _ _ _ _) 1 (by decide) wF_X7_15 rfl rfl rfl rfl rfl (fun _ => rfl) (fun _ => rfl) rfl ?_
  refine sv_aload_n (pc := 20) dX7_init_20 rfl rfl ?_
  refine sv_iconst (pc := 21) (v := (-1)) dX7_init_21 (by decide) ?_
  refine sw_putfield (pc := 22) dX7_init_22 (gCX7 _ _ _ _ _) 9 (by decide) wF_X7_18 rfl rfl rfl (fun _ => rfl) (fun _ => rfl) rfl ?_
  refine sv_vret (pc := 25) dX7_init_25 rfl (le_t rfl) (le_t rfl) ?_
  refine sw_aastore (pc := 100) (k := 6) dX9_init_100 (gCX7 _ _ _ _ _) rfl rfl rfl (by decide) (by decide) rfl rfl rfl ?_
  refine sv_aload_n (pc := 101) dX9_init_101 rfl rfl ?_
  refine sw_getfield (pc := 102) dX9_init_102 (gCX9 _ _ _ _ _) 5 (by decide) wF_X9_39 rfl rfl rfl ?_
  refine sv_iload (pc := 105) dX9_init_105 rfl ?_
  refine sw_new (pc := 107) (a := 43) (n1 := 44) (ce1 := 43) (sl1 := 576) (fs := zX7) dX9_init_107 (gCX7 _ _ _ _ _) wC_X9_33 wN_X7 wI_X7 zX7_ok rfl rfl rfl rfl rfl rfl ?_
  refine sv_dup (pc := 110) dX9_init_110 rfl ?_
  refine sv_callI (pc := 111) (M' := mX7_init) (d' := 4) (C' := 2) (S' := 28) (av := []) ?_ (gOk _ _ _ _ _) dX9_init_111 (tX7_init _ _ _ _ _) rfl rfl wV_X7_init wM_X9_42 ⟨le_t rfl, le_t rfl⟩ ⟨le_t rfl, le_t rfl⟩ rfl (le_t rfl) (fun _ _ h => h)
  refine sC.of rfl (by decide) (le_t rfl) ?_
  refine sv_aload_n (pc := 0) dX7_init_0 rfl rfl ?_
  refine sv_objinit (pc := 1) dX7_init_1 wM_X7_3 wV_obj wK_obj ⟨le_t rfl, le_t rfl⟩ (le_t rfl) ?_
  refine sv_aload_n (pc := 4) dX7_init_4 rfl rfl ?_
  refine sv_bipush (pc := 5) (v := 20) dX7_init_5 (by decide) ?_
  refine sw_newarray (pc := 7) (kd := 0) (a := 44) (n1 := 45) (N := 20) (ce1 := 1) (sl1 := 20) (v := .int 0) dX7_init_7 rfl wA_int rfl (fun U => sI_Cond_int U _) (by decide) (by decide) rfl (fun _ => rfl) rfl rfl rfl rfl rfl rfl ?_
  refine sw_putfinal (pc := 9) dX7_init_9 (gCX7 _ _ _ _ _) 0 (by decide) wF_X7_9 rfl rfl rfl rfl rfl (fun _ => rfl) (fun _ => rfl) rfl ?_
  refine sv_aload_n (pc := 12) dX7_init_12 rfl rfl ?_
  refine sv_bipush (pc := 13) (v := 8) dX7_init_13 (by decide) ?_
  refine sw_newarray (pc := 15) (kd := 0) (a := 45) (n1 := 46) (N := 8) (ce1 := 2) (sl1 := 28) (v := .int 0) dX7_init_15 rfl wA_int rfl (fun U => sI_Cond_int U _) (by decide) (by decide) rfl (fun _ => rfl) rfl rfl rfl rfl rfl rfl ?_
  refine sw_putfinal (pc := 17) dX7_init_17 (gCX7 _ _ _ _ _) 1 (by decide) wF_X7_15 rfl rfl rfl rfl rfl (fun _ => rfl) (fun _ => rfl) rfl ?_
  refine sv_aload_n (pc := 20) dX7_init_20 rfl rfl ?_
  refine sv_iconst (pc := 21) (v := (-1)) dX7_init_21 (by decide) ?_
  refine sw_putfield (pc := 22) dX7_init_22 (gCX7 _ _ _ _ _) 9 (by decide) wF_X7_18 rfl rfl rfl (fun _ => rfl) (fun _ => rfl) rfl ?_
  refine sv_vret (pc := 25) dX7_init_25 rfl (le_t rfl) (le_t rfl) ?_
  refine sw_aastore (pc := 114) (k := 6) dX9_init_114 (gCX7 _ _ _ _ _) rfl rfl rfl (by decide) (by decide) rfl rfl rfl ?_
  refine sw_iinc (pc := 115) (v := 7) dX9_init_115 rfl (by decide) (by decide) ?_
  refine sv_lvG (pc := 118) (lv' := [(0, .ref 0), (1, .int xa), (2, .int xb), (3, .int xk), (4, .int 7)]) (List.forall_mem_cons.mpr ⟨rfl, List.forall_mem_cons.mpr ⟨rfl, List.forall_mem_cons.mpr ⟨rfl, List.forall_mem_cons.mpr ⟨rfl, List.forall_mem_cons.mpr ⟨rfl, fun _ h => absurd h List.not_mem_nil⟩⟩⟩⟩⟩) ?_
  refine sv_goto (pc := 118) (tgt := 77) dX9_init_118 (by decide) ?_
  refine sv_iload (pc := 77) dX9_init_77 rfl ?_
  refine sv_aload_n (pc := 79) dX9_init_79 rfl rfl ?_
  refine sw_getfield (pc := 80) dX9_init_80 (gCX9 _ _ _ _ _) 4 (by decide) wF_X9_35 rfl rfl rfl ?_
  refine sv_arraylength (pc := 83) (v := 20) (ty := .object RX7) dX9_init_83 rfl (lt_t rfl) rfl (by decide) ?_
  refine sv_icmp_ge (pc := 84) (tgt := 121) dX9_init_84 (by decide) (fun h => absurd h (by decide)) (fun _ => ?_)
  refine sv_aload_n (pc := 87) dX9_init_87 rfl rfl ?_
  refine sw_getfield (pc := 88) dX9_init_88 (gCX9 _ _ _ _ _) 4 (by decide) wF_X9_35 rfl rfl rfl ?_
  refine sv_iload (pc := 91) dX9_init_91 rfl ?_
  refine sw_new (pc := 93) (a := 46) (n1 := 47) (ce1 := 46) (sl1 := 616) (fs := zX7) dX9_init_93 (gCX7 _ _ _ _ _) wC_X9_33 wN_X7 wI_X7 zX7_ok rfl rfl rfl rfl rfl rfl ?_
  refine sv_dup (pc := 96) dX9_init_96 rfl ?_
  refine sv_callI (pc := 97) (M' := mX7_init) (d' := 4) (C' := 2) (S' := 28) (av := []) ?_ (gOk _ _ _ _ _) dX9_init_97 (tX7_init _ _ _ _ _) rfl rfl wV_X7_init wM_X9_42 ⟨le_t rfl, le_t rfl⟩ ⟨le_t rfl, le_t rfl⟩ rfl (le_t rfl) (fun _ _ h => h)
  refine sC.of rfl (by decide) (le_t rfl) ?_
  refine sv_aload_n (pc := 0) dX7_init_0 rfl rfl ?_
  refine sv_objinit (pc := 1) dX7_init_1 wM_X7_3 wV_obj wK_obj ⟨le_t rfl, le_t rfl⟩ (le_t rfl) ?_
  refine sv_aload_n (pc := 4) dX7_init_4 rfl rfl ?_
  refine sv_bipush (pc := 5) (v := 20) dX7_init_5 (by decide) ?_
  refine sw_newarray (pc := 7) (kd := 0) (a := 47) (n1 := 48) (N := 20) (ce1 := 1) (sl1 := 20) (v := .int 0) dX7_init_7 rfl wA_int rfl (fun U => sI_Cond_int U _) (by decide) (by decide) rfl (fun _ => rfl) rfl rfl rfl rfl rfl rfl ?_
  refine sw_putfinal (pc := 9) dX7_init_9 (gCX7 _ _ _ _ _) 0 (by decide) wF_X7_9 rfl rfl rfl rfl rfl (fun _ => rfl) (fun _ => rfl) rfl ?_
  refine sv_aload_n (pc := 12) dX7_init_12 rfl rfl ?_
  refine sv_bipush (pc := 13) (v := 8) dX7_init_13 (by decide) ?_
  refine sw_newarray (pc := 15) (kd := 0) (a := 48) (n1 := 49) (N := 8) (ce1 := 2) (sl1 := 28) (v := .int 0) dX7_init_15 rfl wA_int rfl (fun U => sI_Cond_int U _) (by decide) (by decide) rfl (fun _ => rfl) rfl rfl rfl rfl rfl rfl ?_
  refine sw_putfinal (pc := 17) dX7_init_17 (gCX7 _ _ _ _ _) 1 (by decide) wF_X7_15 rfl rfl rfl rfl rfl (fun _ => rfl) (fun _ => rfl) rfl ?_
  refine sv_aload_n (pc := 20) dX7_init_20 rfl rfl ?_
  refine sv_iconst (pc := 21) (v := (-1)) dX7_init_21 (by decide) ?_
  refine sw_putfield (pc := 22) dX7_init_22 (gCX7 _ _ _ _ _) 9 (by decide) wF_X7_18 rfl rfl rfl (fun _ => rfl) (fun _ => rfl) rfl ?_
  refine sv_vret (pc := 25) dX7_init_25 rfl (le_t rfl) (le_t rfl) ?_
  refine sw_aastore (pc := 100) (k := 7) dX9_init_100 (gCX7 _ _ _ _ _) rfl rfl rfl (by decide) (by decide) rfl rfl rfl ?_
  refine sv_aload_n (pc := 101) dX9_init_101 rfl rfl ?_
  refine sw_getfield (pc := 102) dX9_init_102 (gCX9 _ _ _ _ _) 5 (by decide) wF_X9_39 rfl rfl rfl ?_
  refine sv_iload (pc := 105) dX9_init_105 rfl ?_
  refine sw_new (pc := 107) (a := 49) (n1 := 50) (ce1 := 49) (sl1 := 656) (fs := zX7) dX9_init_107 (gCX7 _ _ _ _ _) wC_X9_33 wN_X7 wI_X7 zX7_ok rfl rfl rfl rfl rfl rfl ?_
  refine sv_dup (pc := 110) dX9_init_110 rfl ?_
  refine sv_callI (pc := 111) (M' := mX7_init) (d' := 4) (C' := 2) (S' := 28) (av := []) ?_ (gOk _ _ _ _ _) dX9_init_111 (tX7_init _ _ _ _ _) rfl rfl wV_X7_init wM_X9_42 ⟨le_t rfl, le_t rfl⟩ ⟨le_t rfl, le_t rfl⟩ rfl (le_t rfl) (fun _ _ h => h)
  refine sC.of rfl (by decide) (le_t rfl) ?_
  refine sv_aload_n (pc := 0) dX7_init_0 rfl rfl ?_
  refine sv_objinit (pc := 1) dX7_init_1 wM_X7_3 wV_obj wK_obj ⟨le_t rfl, le_t rfl⟩ (le_t rfl) ?_
  refine sv_aload_n (pc := 4) dX7_init_4 rfl rfl ?_
  refine sv_bipush (pc := 5) (v := 20) dX7_init_5 (by decide) ?_
  refine sw_newarray (pc := 7) (kd := 0) (a := 50) (n1 := 51) (N := 20) (ce1 := 1) (sl1 := 20) (v := .int 0) dX7_init_7 rfl wA_int rfl (fun U => sI_Cond_int U _) (by decide) (by decide) rfl (fun _ => rfl) rfl rfl rfl rfl rfl rfl ?_
  refine sw_putfinal (pc := 9) dX7_init_9 (gCX7 _ _ _ _ _) 0 (by decide) wF_X7_9 rfl rfl rfl rfl rfl (fun _ => rfl) (fun _ => rfl) rfl ?_
  refine sv_aload_n (pc := 12) dX7_init_12 rfl rfl ?_
  refine sv_bipush (pc := 13) (v := 8) dX7_init_13 (by decide) ?_
  refine sw_newarray (pc := 15) (kd := 0) (a := 51) (n1 := 52) (N := 8) (ce1 := 2) (sl1 := 28) (v := .int 0) dX7_init_15 rfl wA_int rfl (fun U => sI_Cond_int U _) (by decide) (by decide) rfl (fun _ => rfl) rfl rfl rfl rfl rfl rfl ?_
  refine sw_putfinal (pc := 17) dX7_init_17 (gCX7 _ _ _ _ _) 1 (by decide) wF_X7_15 rfl rfl rfl rfl rfl (fun _ => rfl) (fun _ => rfl) rfl ?_
  refine sv_aload_n (pc := 20) dX7_init_20 rfl rfl ?_
  refine sv_iconst (pc := 21) (v := (-1)) dX7_init_21 (by decide) ?_
  refine sw_putfield (pc := 22) dX7_init_22 (gCX7 _ _ _ _ _) 9 (by decide) wF_X7_18 rfl rfl rfl (fun _ => rfl) (fun _ => rfl) rfl ?_
  refine sv_vret (pc := 25) dX7_init_25 rfl (le_t rfl) (le_t rfl) ?_
  refine sw_aastore (pc := 114) (k := 7) dX9_init_114 (gCX7 _ _ _ _ _) rfl rfl rfl (by decide) (by decide) rfl rfl rfl ?_
  refine sw_iinc (pc := 115) (v := 8) dX9_init_115 rfl (by decide) (by decide) ?_
  refine sv_goto (pc := 118) (tgt := 77) dX9_init_118 (by decide) ?_
  refine sv_iload (pc := 77) dX9_init_77 rfl ?_
  refine sv_aload_n (pc := 79) dX9_init_79 rfl rfl ?_
  refine sw_getfield (pc := 80) dX9_init_80 (gCX9 _ _ _ _ _) 4 (by decide) wF_X9_35 rfl rfl rfl ?_
  refine sv_arraylength (pc := 83) (v := 20) (ty := .object RX7) dX9_init_83 rfl (lt_t rfl) rfl (by decide) ?_
  refine sv_icmp_ge (pc := 84) (tgt := 121) dX9_init_84 (by decide) (fun h => absurd h (by decide)) (fun _ => ?_)
  refine sv_aload_n (pc := 87) dX9_init_87 rfl rfl ?_
  refine sw_getfield (pc := 88) dX9_init_88 (gCX9 _ _ _ _ _) 4 (by decide) wF_X9_35 rfl rfl rfl ?_
  refine sv_iload (pc := 91) dX9_init_91 rfl ?_
  refine sw_new (pc := 93) (a := 52) (n1 := 53) (ce1 := 52) (sl1 := 696) (fs := zX7) dX9_init_93 (gCX7 _ _ _ _ _) wC_X9_33 wN_X7 wI_X7 zX7_ok rfl rfl rfl rfl rfl rfl ?_
  refine sv_dup (pc := 96) dX9_init_96 rfl ?_
  refine sv_callI (pc := 97) (M' := mX7_init) (d' := 4) (C' := 2) (S' := 28) (av := []) ?_ (gOk _ _ _ _ _) dX9_init_97 (tX7_init _ _ _ _ _) rfl rfl wV_X7_init wM_X9_42 ⟨le_t rfl, le_t rfl⟩ ⟨le_t rfl, le_t rfl⟩ rfl (le_t rfl) (fun _ _ h => h)
  refine sC.of rfl (by decide) (le_t rfl) ?_
  refine sv_aload_n (pc := 0) dX7_init_0 rfl rfl ?_
  refine sv_objinit (pc := 1) dX7_init_1 wM_X7_3 wV_obj wK_obj ⟨le_t rfl, le_t rfl⟩ (le_t rfl) ?_
  refine sv_aload_n (pc := 4) dX7_init_4 rfl rfl ?_
  refine sv_bipush (pc := 5) (v := 20) dX7_init_5 (by decide) ?_
  refine sw_newarray (pc := 7) (kd := 0) (a := 53) (n1 := 54) (N := 20) (ce1 := 1) (sl1 := 20) (v := .int 0) dX7_init_7 rfl wA_int rfl (fun U => sI_Cond_int U _) (by decide) (by decide) rfl (fun _ => rfl) rfl rfl rfl rfl rfl rfl ?_
  refine sw_putfinal (pc := 9) dX7_init_9 (gCX7 _ _ _ _ _) 0 (by decide) wF_X7_9 rfl rfl rfl rfl rfl (fun _ => rfl) (fun _ => rfl) rfl ?_
  refine sv_aload_n (pc := 12) dX7_init_12 rfl rfl ?_
  refine sv_bipush (pc := 13) (v := 8) dX7_init_13 (by decide) ?_
  refine sw_newarray (pc := 15) (kd := 0) (a := 54) (n1 := 55) (N := 8) (ce1 := 2) (sl1 := 28) (v := .int 0) dX7_init_15 rfl wA_int rfl (fun U => sI_Cond_int U _) (by decide) (by decide) rfl (fun _ => rfl) rfl rfl rfl rfl rfl rfl ?_
  refine sw_putfinal (pc := 17) dX7_init_17 (gCX7 _ _ _ _ _) 1 (by decide) wF_X7_15 rfl rfl rfl rfl rfl (fun _ => rfl) (fun _ => rfl) rfl ?_
  refine sv_aload_n (pc := 20) dX7_init_20 rfl rfl ?_
  refine sv_iconst (pc := 21) (v := (-1)) dX7_init_21 (by decide) ?_
  refine sw_putfield (pc := 22) dX7_init_22 (gCX7 _ _ _ _ _) 9 (by decide) wF_X7_18 rfl rfl rfl (fun _ => rfl) (fun _ => rfl) rfl ?_
  refine sv_vret (pc := 25) dX7_init_25 rfl (le_t rfl) (le_t rfl) ?_
  refine sw_aastore (pc := 100) (k := 8) dX9_init_100 (gCX7 _ _ _ _ _) rfl rfl rfl (by decide) (by decide) rfl rfl rfl ?_
  refine sv_aload_n (pc := 101) dX9_init_101 rfl rfl ?_
  refine sw_getfield (pc := 102) dX9_init_102 (gCX9 _ _ _ _ _) 5 (by decide) wF_X9_39 rfl rfl rfl ?_
  refine sv_iload (pc := 105) dX9_init_105 rfl ?_
  refine sw_new (pc := 107) (a := 55) (n1 := 56) (ce1 := 55) (sl1 := 736) (fs := zX7) dX9_init_107 (gCX7 _ _ _ _ _) wC_X9_33 wN_X7 wI_X7 zX7_ok rfl rfl rfl rfl rfl rfl ?_
  refine sv_dup (pc := 110) dX9_init_110 rfl ?_
  refine sv_callI (pc := 111) (M' := mX7_init) (d' := 4) (C' := 2) (S' := 28) (av := []) ?_ (gOk _ _ _ _ _) dX9_init_111 (tX7_init _ _ _ _ _) rfl rfl wV_X7_init wM_X9_42 ⟨le_t rfl, le_t rfl⟩ ⟨le_t rfl, le_t rfl⟩ rfl (le_t rfl) (fun _ _ h => h)
  refine sC.of rfl (by decide) (le_t rfl) ?_
  refine sv_aload_n (pc := 0) dX7_init_0 rfl rfl ?_
  refine sv_objinit (pc := 1) dX7_init_1 wM_X7_3 wV_obj wK_obj ⟨le_t rfl, le_t rfl⟩ (le_t rfl) ?_
  refine sv_aload_n (pc := 4) dX7_init_4 rfl rfl ?_
  refine sv_bipush (pc := 5) (v := 20) dX7_init_5 (by decide) ?_
  refine sw_newarray (pc := 7) (kd := 0) (a := 56) (n1 := 57) (N := 20) (ce1 := 1) (sl1 := 20) (v := .int 0) dX7_init_7 rfl wA_int rfl (fun U => sI_Cond_int U _) (by decide) (by decide) rfl (fun _ => rfl) rfl rfl rfl rfl rfl rfl ?_
  refine sw_putfinal (pc := 9) dX7_init_9 (gCX7 _ _ _ _ _) 0 (by decide) wF_X7_9 rfl rfl rfl rfl rfl (fun _ => rfl) (fun _ => rfl) rfl ?_
  refine sv_aload_n (pc := 12) dX7_init_12 rfl rfl ?_
  refine sv_bipush (pc := 13) (v := 8) dX7_init_13 (by decide) ?_
  refine sw_newarray (pc := 15) (kd := 0) (a := 57) (n1 := 58) (N := 8) (ce1 := 2) (sl1 := 28) (v := .int 0) dX7_init_15 rfl wA_int rfl (fun U => sI_Cond_int U _) (by decide) (by decide) rfl (fun _ => rfl) rfl rfl rfl rfl rfl rfl ?_
  refine sw_putfinal (pc := 17) dX7_init_17 (gCX7 _ _ _ _ _) 1 (by decide) wF_X7_15 rfl rfl rfl rfl rfl (fun _ => rfl) (fun _ => rfl) rfl ?_
  refine sv_aload_n (pc := 20) dX7_init_20 rfl rfl ?_
  refine sv_iconst (pc := 21) (v := (-1)) dX7_init_21 (by decide) ?_
  refine sw_putfield (pc := 22) dX7_init_22 (gCX7 _ _ _ _ _) 9 (by decide) wF_X7_18 rfl rfl rfl (fun _ => rfl) (fun _ => rfl) rfl ?_
  refine sv_vret (pc := 25) dX7_init_25 rfl (le_t rfl) (le_t rfl) ?_
  refine sw_aastore (pc := 114) (k := 8) dX9_init_114 (gCX7 _ _ _ _ _) rfl rfl rfl (by decide) (by decide) rfl rfl rfl ?_
  refine sw_iinc (pc := 115) (v := 9) dX9_init_115 rfl (by decide) (by decide) ?_
  refine sv_goto (pc := 118) (tgt := 77) dX9_init_118 (by decide) ?_
  refine sv_iload (pc := 77) dX9_init_77 rfl ?_
  refine sv_aload_n (pc := 79) dX9_init_79 rfl rfl ?_
  refine sw_getfield (pc := 80) dX9_init_80 (gCX9 _ _ _ _ _) 4 (by decide) wF_X9_35 rfl rfl rfl ?_
  refine sv_arraylength (pc := 83) (v := 20) (ty := .object RX7) dX9_init_83 rfl (lt_t rfl) rfl (by decide) ?_
  refine sv_icmp_ge (pc := 84) (tgt := 121) dX9_init_84 (by decide) (fun h => absurd h (by decide)) (fun _ => ?_)
  refine sv_aload_n (pc := 87) dX9_init_87 rfl rfl ?_
  refine sw_getfield (pc := 88) dX9_init_88 (gCX9 _ _ _ _ _) 4 (by decide) wF_X9_35 rfl rfl rfl ?_
  refine sv_iload (pc := 91) dX9_init_91 rfl ?_
  refine sw_new (pc := 93) (a := 58) (n1 := 59) (ce1 := 58) (sl1 := 776) (fs := zX7) dX9_init_93 (gCX7 _ _ _ _ _) wC_X9_33 wN_X7 wI_X7 zX7_ok rfl rfl rfl rfl rfl rfl ?_
  refine sv_dup (pc := 96) dX9_init_96 rfl ?_
  refine sv_callI (pc := 97) (M' := mX7_init) (d' := 4) (C' := 2) (S' := 28) (av := []) ?_ (gOk _ _ _ _ _) dX9_init_97 (tX7_init _ _ _ _ _) rfl rfl wV_X7_init wM_X9_42 ⟨le_t rfl, le_t rfl⟩ ⟨le_t rfl, le_t rfl⟩ rfl (le_t rfl) (fun _ _ h => h)
  refine sC.of rfl (by decide) (le_t rfl) ?_
  refine sv_aload_n (pc := 0) dX7_init_0 rfl rfl ?_
  refine sv_objinit (pc := 1) dX7_init_1 wM_X7_3 wV_obj wK_obj ⟨le_t rfl, le_t rfl⟩ (le_t rfl) ?_
  refine sv_aload_n (pc := 4) dX7_init_4 rfl rfl ?_
  refine sv_bipush (pc := 5) (v := 20) dX7_init_5 (by decide) ?_
  refine sw_newarray (pc := 7) (kd := 0) (a := 59) (n1 := 60) (N := 20) (ce1 := 1) (sl1 := 20) (v := .int 0) dX7_init_7 rfl wA_int rfl (fun U => sI_Cond_int U _) (by decide) (by decide) rfl (fun _ => rfl) rfl rfl rfl rfl rfl rfl ?_
  refine sw_putfinal (pc := 9) dX7_init_9 (gCX7 _ _ _ _ _) 0 (by decide) wF_X7_9 rfl rfl rfl rfl rfl (fun _ => rfl) (fun _ => rfl) rfl ?_
  refine sv_aload_n (pc := 12) dX7_init_12 rfl rfl ?_
  refine sv_bipush (pc := 13) (v := 8) dX7_init_13 (by decide) ?_
  refine sw_newarray (pc := 15) (kd := 0) (a := 60) (n1 := 61) (N := 8) (ce1 := 2) (sl1 := 28) (v := .int 0) dX7_init_15 rfl wA_int rfl (fun U => sI_Cond_int U _) (by decide) (by decide) rfl (fun _ => rfl) rfl rfl rfl rfl rfl rfl ?_
  refine sw_putfinal (pc := 17) dX7_init_17 (gCX7 _ _ _ _ _) 1 (by decide) wF_X7_15 rfl rfl rfl rfl rfl (fun _ => rfl) (fun _ => rfl) rfl ?_
  refine sv_aload_n (pc := 20) dX7_init_20 rfl rfl ?_
  refine sv_iconst (pc := 21) (v := (-1)) dX7_init_21 (by decide) ?_
  refine sw_putfield (pc := 22) dX7_init_22 (gCX7 _ _ _ _ _) 9 (by decide) wF_X7_18 rfl rfl rfl (fun _ => rfl) (fun _ => rfl) rfl ?_
  refine sv_vret (pc := 25) dX7_init_25 rfl (le_t rfl) (le_t rfl) ?_
  refine sw_aastore (pc := 100) (k := 9) dX9_init_100 (gCX7 _ _ _ _ _) rfl rfl rfl (by decide) (by decide) rfl rfl rfl ?_
  refine sv_aload_n (pc := 101) dX9_init_101 rfl rfl ?_
  refine sw_getfield (pc := 102) dX9_init_102 (gCX9 _ _ _ _ _) 5 (by decide) wF_X9_39 rfl rfl rfl ?_
  refine sv_iload (pc := 105) dX9_init_105 rfl ?_
  refine sw_new (pc := 107) (a := 61) (n1 := 62) (ce1 := 61) (sl1 := 816) (fs := zX7) dX9_init_107 (gCX7 _ _ _ _ _) wC_X9_33 wN_X7 wI_X7 zX7_ok rfl rfl rfl rfl rfl rfl ?_
  refine sv_dup (pc := 110) dX9_init_110 rfl ?_
  refine sv_callI (pc := 111) (M' := mX7_init) (d' := 4) (C' := 2) (S' := 28) (av := []) ?_ (gOk _ _ _ _ _) dX9_init_111 (tX7_init _ _ _ _ _) rfl rfl wV_X7_init wM_X9_42 ⟨le_t rfl, le_t rfl⟩ ⟨le_t rfl, le_t rfl⟩ rfl (le_t rfl) (fun _ _ h => h)
  refine sC.of rfl (by decide) (le_t rfl) ?_
  refine sv_aload_n (pc := 0) dX7_init_0 rfl rfl ?_
  refine sv_objinit (pc := 1) dX7_init_1 wM_X7_3 wV_obj wK_obj ⟨le_t rfl, le_t rfl⟩ (le_t rfl) ?_
  refine sv_aload_n (pc := 4) dX7_init_4 rfl rfl ?_
  refine sv_bipush (pc := 5) (v := 20) dX7_init_5 (by decide) ?_
  refine sw_newarray (pc := 7) (kd := 0) (a := 62) (n1 := 63) (N := 20) (ce1 := 1) (sl1 := 20) (v := .int 0) dX7_init_7 rfl wA_int rfl (fun U => sI_Cond_int U _) (by decide) (by decide) rfl (fun _ => rfl) rfl rfl rfl rfl rfl rfl ?_
  refine sw_putfinal (pc := 9) dX7_init_9 (gCX7 _ _ _ _ _) 0 (by decide) wF_X7_9 rfl rfl rfl rfl rfl (fun _ => rfl) (fun _ => rfl) rfl ?_
  refine sv_aload_n (pc := 12) dX7_init_12 rfl rfl ?_
  refine sv_bipush (pc := 13) (v := 8) dX7_init_13 (by decide) ?_
  refine sw_newarray (pc := 15) (kd := 0) (a := 63) (n1 := 64) (N := 8) (ce1 := 2) (sl1 := 28) (v := .int 0) dX7_init_15 rfl wA_int rfl (fun U => sI_Cond_int U _) (by decide) (by decide) rfl (fun _ => rfl) rfl rfl rfl rfl rfl rfl ?_
  refine sw_putfinal (pc := 17) dX7_init_17 (gCX7 _ _ _ _ _) 1 (by decide) wF_X7_15 rfl rfl rfl rfl rfl (fun _ => rfl) (fun _ => rfl) rfl ?_
  refine sv_aload_n (pc := 20) dX7_init_20 rfl rfl ?_
  refine sv_iconst (pc := 21) (v := (-1)) dX7_init_21 (by decide) ?_
  refine sw_putfield (pc := 22) dX7_init_22 (gCX7 _ _ _ _ _) 9 (by decide) wF_X7_18 rfl rfl rfl (fun _ => rfl) (fun _ => rfl) rfl ?_
  refine sv_vret (pc := 25) dX7_init_25 rfl (le_t rfl) (le_t rfl) ?_
  refine sw_aastore (pc := 114) (k := 9) dX9_init_114 (gCX7 _ _ _ _ _) rfl rfl rfl (by decide) (by decide) rfl rfl rfl ?_
  refine sw_iinc (pc := 115) (v := 10) dX9_init_115 rfl (by decide) (by decide) ?_
  refine sv_goto (pc := 118) (tgt := 77) dX9_init_118 (by decide) ?_
  refine sv_iload (pc := 77) dX9_init_77 rfl ?_
  refine sv_aload_n (pc := 79) dX9_init_79 rfl rfl ?_
  refine sw_getfield (pc := 80) dX9_init_80 (gCX9 _ _ _ _ _) 4 (by decide) wF_X9_35 rfl rfl rfl ?_
  refine sv_arraylength (pc := 83) (v := 20) (ty := .object RX7) dX9_init_83 rfl (lt_t rfl) rfl (by decide) ?_
  refine sv_icmp_ge (pc := 84) (tgt := 121) dX9_init_84 (by decide) (fun h => absurd h (by decide)) (fun _ => ?_)
  refine sv_aload_n (pc := 87) dX9_init_87 rfl rfl ?_
  refine sw_getfield (pc := 88) dX9_init_88 (gCX9 _ _ _ _ _) 4 (by decide) wF_X9_35 rfl rfl rfl ?_
  refine sv_iload (pc := 91) dX9_init_91 rfl ?_
  refine sw_new (pc := 93) (a := 64) (n1 := 65) (ce1 := 64) (sl1 := 856) (fs := zX7) dX9_init_93 (gCX7 _ _ _ _ _) wC_X9_33 wN_X7 wI_X7 zX7_ok rfl rfl rfl rfl rfl rfl ?_
  refine sv_dup (pc := 96) dX9_init_96 rfl ?_
  refine sv_callI (pc := 97) (M' := mX7_init) (d' := 4) (C' := 2) (S' := 28) (av := []) ?_ (gOk _ _ _ _ _) dX9_init_97 (tX7_init _ _ _ _ _) rfl rfl wV_X7_init wM_X9_42 ⟨le_t rfl, le_t rfl⟩ ⟨le_t rfl, le_t rfl⟩ rfl (le_t rfl) (fun _ _ h => h)
  refine sC.of rfl (by decide) (le_t rfl) ?_
  refine sv_aload_n (pc := 0) dX7_init_0 rfl rfl ?_
  refine sv_objinit (pc := 1) dX7_init_1 wM_X7_3 wV_obj wK_obj ⟨le_t rfl, le_t rfl⟩ (le_t rfl) ?_
  refine sv_aload_n (pc := 4) dX7_init_4 rfl rfl ?_
  refine sv_bipush (pc := 5) (v := 20) dX7_init_5 (by decide) ?_
  refine sw_newarray (pc := 7) (kd := 0) (a := 65) (n1 := 66) (N := 20) (ce1 := 1) (sl1 := 20) (v := .int 0) dX7_init_7 rfl wA_int rfl (fun U => sI_Cond_int U _) (by decide) (by decide) rfl (fun _ => rfl) rfl rfl rfl rfl rfl rfl ?_
  refine sw_putfinal (pc := 9) dX7_init_9 (gCX7 _ _ _ _ _) 0 (by decide) wF_X7_9 rfl rfl rfl rfl rfl (fun _ => rfl) (fun _ => rfl) rfl ?_
  refine sv_aload_n (pc := 12) dX7_init_12 rfl rfl ?_
  refine sv_bipush (pc := 13) (v := 8) dX7_init_13 (by decide) ?_
  refine sw_newarray (pc := 15) (kd := 0) (a := 66) (n1 := 67) (N := 8) (ce1 := 2) (sl1 := 28) (v := .int 0) dX7_init_15 rfl wA_int rfl (fun U => sI_Cond_int U _) (by decide) (by decide) rfl (fun _ => rfl) rfl rfl rfl rfl rfl rfl ?_
  refine sw_putfinal (pc := 17) dX7_init_17 (gCX7 _ _ _ _ _) 1 (by decide) wF_X7_15 rfl rfl rfl rfl rfl (fun _ => rfl) (fun _ => rfl) rfl ?_
  refine sv_aload_n (pc := 20) dX7_init_20 rfl rfl ?_
  refine sv_iconst (pc := 21) (v := (-1)) dX7_init_21 (by decide) ?_
  refine sw_putfield (pc := 22) dX7_init_22 (gCX7 _ _ _ _ _) 9 (by decide) wF_X7_18 rfl rfl rfl (fun _ => rfl) (fun _ => rfl) rfl ?_
  refine sv_vret (pc := 25) dX7_init_25 rfl (le_t rfl) (le_t rfl) ?_
  refine sw_aastore (pc := 100) (k := 10) dX9_init_100 (gCX7 _ _ _ _ _) rfl rfl rfl (by decide) (by decide) rfl rfl rfl ?_
  refine sv_aload_n (pc := 101) dX9_init_101 rfl rfl ?_
  refine sw_getfield (pc := 102) dX9_init_102 (gCX9 _ _ _ _ _) 5 (by decide) wF_X9_39 rfl rfl rfl ?_
  refine sv_iload (pc := 105) dX9_init_105 rfl ?_
  refine sw_new (pc := 107) (a := 67) (n1 := 68) (ce1 := 67) (sl1 := 896) (fs := zX7) dX9_init_107 (gCX7 _ _ _ _ _) wC_X9_33 wN_X7 wI_X7 zX7_ok rfl rfl rfl rfl rfl rfl ?_
  refine sv_dup (pc := 110) dX9_init_110 rfl ?_
  refine sv_callI (pc := 111) (M' := mX7_init) (d' := 4) (C' := 2) (S' := 28) (av := []) ?_ (gOk _ _ _ _ _) dX9_init_111 (tX7_init _ _ _ _ _) rfl rfl wV_X7_init wM_X9_42 ⟨le_t rfl, le_t rfl⟩ ⟨le_t rfl, le_t rfl⟩ rfl (le_t rfl) (fun _ _ h => h)
  refine sC.of rfl (by decide) (le_t rfl) ?_
  refine sv_aload_n (pc := 0) dX7_init_0 rfl rfl ?_
  refine sv_objinit (pc := 1) dX7_init_1 wM_X7_3 wV_obj wK_obj ⟨le_t rfl, le_t rfl⟩ (le_t rfl) ?_
  refine sv_aload_n (pc := 4) dX7_init_4 rfl rfl ?_
  refine sv_bipush (pc := 5) (v := 20) dX7_init_5 (by decide) ?_
  refine sw_newarray (pc := 7) (kd := 0) (a := 68) (n1 := 69) (N := 20) (ce1 := 1) (sl1 := 20) (v := .int 0) dX7_init_7 rfl wA_int rfl (fun U => sI_Cond_int U _) (by decide) (by decide) rfl (fun _ => rfl) rfl rfl rfl rfl rfl rfl ?_
  refine sw_putfinal (pc := 9) dX7_init_9 (gCX7 _ _ _ _ _) 0 (by decide) wF_X7_9 rfl rfl rfl rfl rfl (fun _ => rfl) (fun _ => rfl) rfl ?_
  refine sv_aload_n (pc := 12) dX7_init_12 rfl rfl ?_
  refine sv_bipush (pc := 13) (v := 8) dX7_init_13 (by decide) ?_
  refine sw_newarray (pc := 15) (kd := 0) (a := 69) (n1 := 70) (N := 8) (ce1 := 2) (sl1 := 28) (v := .int 0) dX7_init_15 rfl wA_int rfl (fun U => sI_Cond_int U _) (by decide) (by decide) rfl (fun _ => rfl) rfl rfl rfl rfl rfl rfl ?_
  refine sw_putfinal (pc := 17) dX7_init_17 (gCX7 _ _ _ _ _) 1 (by decide) wF_X7_15 rfl rfl rfl rfl rfl (fun _ => rfl) (fun _ => rfl) rfl ?_
  refine sv_aload_n (pc := 20) dX7_init_20 rfl rfl ?_
  refine sv_iconst (pc := 21) (v := (-1)) dX7_init_21 (by decide) ?_
  refine sw_putfield (pc := 22) dX7_init_22 (gCX7 _ _ _ _ _) 9 (by decide) wF_X7_18 rfl rfl rfl (fun _ => rfl) (fun _ => rfl) rfl ?_
  refine sv_vret (pc := 25) dX7_init_25 rfl (le_t rfl) (le_t rfl) ?_
  refine sw_aastore (pc := 114) (k := 10) dX9_init_114 (gCX7 _ _ _ _ _) rfl rfl rfl (by decide) (by decide) rfl rfl rfl ?_
  refine sw_iinc (pc := 115) (v := 11) dX9_init_115 rfl (by decide) (by decide) ?_
  refine sv_goto (pc := 118) (tgt := 77) dX9_init_118 (by decide) ?_
  refine sv_iload (pc := 77) dX9_init_77 rfl ?_
  refine sv_aload_n (pc := 79) dX9_init_79 rfl rfl ?_
  refine sw_getfield (pc := 80) dX9_init_80 (gCX9 _ _ _ _ _) 4 (by decide) wF_X9_35 rfl rfl rfl ?_
  refine sv_arraylength (pc := 83) (v := 20) (ty := .object RX7) dX9_init_83 rfl (lt_t rfl) rfl (by decide) ?_
  refine sv_icmp_ge (pc := 84) (tgt := 121) dX9_init_84 (by decide) (fun h => absurd h (by decide)) (fun _ => ?_)
  refine sv_aload_n (pc := 87) dX9_init_87 rfl rfl ?_
  refine sw_getfield (pc := 88) dX9_init_88 (gCX9 _ _ _ _ _) 4 (by decide) wF_X9_35 rfl rfl rfl ?_
  refine sv_iload (pc := 91) dX9_init_91 rfl ?_
  refine sw_new (pc := 93) (a := 70) (n1 := 71) (ce1 := 70) (sl1 := 936) (fs := zX7) dX9_init_93 (gCX7 _ _ _ _ _) wC_X9_33 wN_X7 wI_X7 zX7_ok rfl rfl rfl rfl rfl rfl ?_
  refine sv_dup (pc := 96) dX9_init_96 rfl ?_
  refine sv_callI (pc := 97) (M' := mX7_init) (d' := 4) (C' := 2) (S' := 28) (av := []) ?_ (gOk _ _ _ _ _) dX9_init_97 (tX7_init _ _ _ _ _) rfl rfl wV_X7_init wM_X9_42 ⟨le_t rfl, le_t rfl⟩ ⟨le_t rfl, le_t rfl⟩ rfl (le_t rfl) (fun _ _ h => h)
  refine sC.of rfl (by decide) (le_t rfl) ?_
  refine sv_aload_n (pc := 0) dX7_init_0 rfl rfl ?_
  refine sv_objinit (pc := 1) dX7_init_1 wM_X7_3 wV_obj wK_obj ⟨le_t rfl, le_t rfl⟩ (le_t rfl) ?_
  refine sv_aload_n (pc := 4) dX7_init_4 rfl rfl ?_
  refine sv_bipush (pc := 5) (v := 20) dX7_init_5 (by decide) ?_
  refine sw_newarray (pc := 7) (kd := 0) (a := 71) (n1 := 72) (N := 20) (ce1 := 1) (sl1 := 20) (v := .int 0) dX7_init_7 rfl wA_int rfl (fun U => sI_Cond_int U _) (by decide) (by decide) rfl (fun _ => rfl) rfl rfl rfl rfl rfl rfl ?_
  refine sw_putfinal (pc := 9) dX7_init_9 (gCX7 _ _ _ _ _) 0 (by decide) wF_X7_9 rfl rfl rfl rfl rfl (fun _ => rfl) (fun _ => rfl) rfl ?_
  refine sv_aload_n (pc := 12) dX7_init_12 rfl rfl ?_
  refine sv_bipush (pc := 13) (v := 8) dX7_init_13 (by decide) ?_
  refine sw_newarray (pc := 15) (kd := 0) (a := 72) (n1 := 73) (N := 8) (ce1 := 2) (sl1 := 28) (v := .int 0) dX7_init_15 rfl wA_int rfl (fun U => sI_Cond_int U _) (by decide) (by decide) rfl (fun _ => rfl) rfl rfl rfl rfl rfl rfl ?_
  refine sw_putfinal (pc := 17) dX7_init_17 (gCX7 _ _ _ _ _) 1 (by decide) wF_X7_15 rfl rfl rfl rfl rfl (fun _ => rfl) (fun _ => rfl) rfl ?_
  refine sv_aload_n (pc := 20) dX7_init_20 rfl rfl ?_
  refine sv_iconst (pc := 21) (v := (-1)) dX7_init_21 (by decide) ?_
  refine sw_putfield (pc := 22) dX7_init_22 (gCX7 _ _ _ _ _) 9 (by decide) wF_X7_18 rfl rfl rfl (fun _ => rfl) (fun _ => rfl) rfl ?_
  refine sv_vret (pc := 25) dX7_init_25 rfl (le_t rfl) (le_t rfl) ?_
  refine sw_aastore (pc := 100) (k := 11) dX9_init_100 (gCX7 _ _ _ _ _) rfl rfl rfl (by decide) (by decide) rfl rfl rfl ?_
  refine sv_aload_n (pc := 101) dX9_init_101 rfl rfl ?_
  refine sw_getfield (pc := 102) dX9_init_102 (gCX9 _ _ _ _ _) 5 (by decide) wF_X9_39 rfl rfl rfl ?_
  refine sv_iload (pc := 105) dX9_init_105 rfl ?_
  refine sw_new (pc := 107) (a := 73) (n1 := 74) (ce1 := 73) (sl1 := 976) (fs := zX7) dX9_init_107 (gCX7 _ _ _ _ _) wC_X9_33 wN_X7 wI_X7 zX7_ok rfl rfl rfl rfl rfl rfl ?_
  refine sv_dup (pc := 110) dX9_init_110 rfl ?_
  refine sv_callI (pc := 111) (M' := mX7_init) (d' := 4) (C' := 2) (S' := 28) (av := []) ?_ (gOk _ _ _ _ _) dX9_init_111 (tX7_init _ _ _ _ _) rfl rfl wV_X7_init wM_X9_42 ⟨le_t rfl, le_t rfl⟩ ⟨le_t rfl, le_t rfl⟩ rfl (le_t rfl) (fun _ _ h => h)
  refine sC.of rfl (by decide) (le_t rfl) ?_
  refine sv_aload_n (pc := 0) dX7_init_0 rfl rfl ?_
  refine sv_objinit (pc := 1) dX7_init_1 wM_X7_3 wV_obj wK_obj ⟨le_t rfl, le_t rfl⟩ (le_t rfl) ?_
  refine sv_aload_n (pc := 4) dX7_init_4 rfl rfl ?_
  refine sv_bipush (pc := 5) (v := 20) dX7_init_5 (by decide) ?_
  refine sw_newarray (pc := 7) (kd := 0) (a := 74) (n1 := 75) (N := 20) (ce1 := 1) (sl1 := 20) (v := .int 0) dX7_init_7 rfl wA_int rfl (fun U => sI_Cond_int U _) (by decide) (by decide) rfl (fun _ => rfl) rfl rfl rfl rfl rfl rfl ?_
  refine sw_putfinal (pc := 9) dX7_init_9 (gCX7 _ _ _ _ _) 0 (by decide) wF_X7_9 rfl rfl rfl rfl rfl (fun _ => rfl) (fun _ => rfl) rfl ?_
  refine sv_aload_n (pc := 12) dX7_init_12 rfl rfl ?_
  refine sv_bipush (pc := 13) (v := 8) dX7_init_13 (by decide) ?_
  refine sw_newarray (pc := 15) (kd := 0) (a := 75) (n1 := 76) (N := 8) (ce1 := 2) (sl1 := 28) (v := .int 0) dX7_init_15 rfl wA_int rfl (fun U => sI_Cond_int U _) (by decide) (by decide) rfl (fun _ => rfl) rfl rfl rfl rfl rfl rfl ?_
  refine sw_putfinal (pc := 17) dX7_init_17 (gCX7 _ _ _ _ _) 1 (by decide) wF_X7_15 rfl rfl rfl rfl rfl (fun _ => rfl) (fun _ => rfl) rfl ?_
  refine sv_aload_n (pc := 20) dX7_init_20 rfl rfl ?_
  refine sv_iconst (pc := 21) (v := (-1)) dX7_init_21 (by decide) ?_
  refine sw_putfield (pc := 22) dX7_init_22 (gCX7 _ _ _ _ _) 9 (by decide) wF_X7_18 rfl rfl rfl (fun _ => rfl) (fun _ => rfl) rfl ?_
  refine sv_vret (pc := 25) dX7_init_25 rfl (le_t rfl) (le_t rfl) ?_
  refine sw_aastore (pc := 114) (k := 11) dX9_init_114 (gCX7 _ _ _ _ _) rfl rfl rfl (by decide) (by decide) rfl rfl rfl ?_
  refine sw_iinc (pc := 115) (v := 12) dX9_init_115 rfl (by decide) (by decide) ?_
  refine sv_goto (pc := 118) (tgt := 77) dX9_init_118 (by decide) ?_
  refine sv_iload (pc := 77) dX9_init_77 rfl ?_
  refine sv_aload_n (pc := 79) dX9_init_79 rfl rfl ?_
  refine sw_getfield (pc := 80) dX9_init_80 (gCX9 _ _ _ _ _) 4 (by decide) wF_X9_35 rfl rfl rfl ?_
  refine sv_arraylength (pc := 83) (v := 20) (ty := .object RX7) dX9_init_83 rfl (lt_t rfl) rfl (by decide) ?_
  refine sv_icmp_ge (pc := 84) (tgt := 121) dX9_init_84 (by decide) (fun h => absurd h (by decide)) (fun _ => ?_)
  refine sv_aload_n (pc := 87) dX9_init_87 rfl rfl ?_
  refine sw_getfield (pc := 88) dX9_init_88 (gCX9 _ _ _ _ _) 4 (by decide) wF_X9_35 rfl rfl rfl ?_
  refine sv_iload (pc := 91) dX9_init_91 rfl ?_
  refine sw_new (pc := 93) (a := 76) (n1 := 77) (ce1 := 76) (sl1 := 1016) (fs := zX7) dX9_init_93 (gCX7 _ _ _ _ _) wC_X9_33 wN_X7 wI_X7 zX7_ok rfl rfl rfl rfl rfl rfl ?_
  refine sv_dup (pc := 96) dX9_init_96 rfl ?_
  refine sv_callI (pc := 97) (M' := mX7_init) (d' := 4) (C' := 2) (S' := 28) (av := []) ?_ (gOk _ _ _ _ _) dX9_init_97 (tX7_init _ _ _ _ _) rfl rfl wV_X7_init wM_X9_42 ⟨le_t rfl, le_t rfl⟩ ⟨le_t rfl, le_t rfl⟩ rfl (le_t rfl) (fun _ _ h => h)
  refine sC.of rfl (by decide) (le_t rfl) ?_
  refine sv_aload_n (pc := 0) dX7_init_0 rfl rfl ?_
  refine sv_objinit (pc := 1) dX7_init_1 wM_X7_3 wV_obj wK_obj ⟨le_t rfl, le_t rfl⟩ (le_t rfl) ?_
  refine sv_aload_n (pc := 4) dX7_init_4 rfl rfl ?_
  refine sv_bipush (pc := 5) (v := 20) dX7_init_5 (by decide) ?_
  refine sw_newarray (pc := 7) (kd := 0) (a := 77) (n1 := 78) (N := 20) (ce1 := 1) (sl1 := 20) (v := .int 0) dX7_init_7 rfl wA_int rfl (fun U => sI_Cond_int U _) (by decide) (by decide) rfl (fun _ => rfl) rfl rfl rfl rfl rfl rfl ?_
  refine sw_putfinal (pc := 9) dX7_init_9 (gCX7 _ _ _ _ _) 0 (by decide) wF_X7_9 rfl rfl rfl rfl rfl (fun _ => rfl) (fun _ => rfl) rfl ?_
  refine sv_aload_n (pc := 12) dX7_init_12 rfl rfl ?_
  refine sv_bipush (pc := 13) (v := 8) dX7_init_13 (by decide) ?_
  refine sw_newarray (pc := 15) (kd := 0) (a := 78) (n1 := 79) (N := 8) (ce1 := 2) (sl1 := 28) (v := .int 0) dX7_init_15 rfl wA_int rfl (fun U => sI_Cond_int U _) (by decide) (by decide) rfl (fun _ => rfl) rfl rfl rfl rfl rfl rfl ?_
  refine sw_putfinal (pc := 17) dX7_init_17 (gCX7 _ _ _ _ _) 1 (by decide) wF_X7_15 rfl rfl rfl rfl rfl (fun _ => rfl) (fun _ => rfl) rfl ?_
  refine sv_aload_n (pc := 20) dX7_init_20 rfl rfl ?_
  refine sv_iconst (pc := 21) (v := (-1)) dX7_init_21 (by decide) ?_
  refine sw_putfield (pc := 22) dX7_init_22 (gCX7 _ _ _ _ _) 9 (by decide) wF_X7_18 rfl rfl rfl (fun _ => rfl) (fun _ => rfl) rfl ?_
  refine sv_vret (pc := 25) dX7_init_25 rfl (le_t rfl) (le_t rfl) ?_
  refine sw_aastore (pc := 100) (k := 12) dX9_init_100 (gCX7 _ _ _ _ _) rfl rfl rfl (by decide) (by decide) rfl rfl rfl ?_
  refine sv_aload_n (pc := 101) dX9_init_101 rfl rfl ?_
  refine sw_getfield (pc := 102) dX9_init_102 (gCX9 _ _ _ _ _) 5 (by decide) wF_X9_39 rfl rfl rfl ?_
  refine sv_iload (pc := 105) dX9_init_105 rfl ?_
  refine sw_new (pc := 107) (a := 79) (n1 := 80) (ce1 := 79) (sl1 := 1056) (fs := zX7) dX9_init_107 (gCX7 _ _ _ _ _) wC_X9_33 wN_X7 wI_X7 zX7_ok rfl rfl rfl rfl rfl rfl ?_
  refine sv_dup (pc := 110) dX9_init_110 rfl ?_
  refine sv_callI (pc := 111) (M' := mX7_init) (d' := 4) (C' := 2) (S' := 28) (av := []) ?_ (gOk _ _ _ _ _) dX9_init_111 (tX7_init _ _ _ _ _) rfl rfl wV_X7_init wM_X9_42 ⟨le_t rfl, le_t rfl⟩ ⟨le_t rfl, le_t rfl⟩ rfl (le_t rfl) (fun _ _ h => h)
  refine sC.of rfl (by decide) (le_t rfl) ?_
  refine sv_aload_n (pc := 0) dX7_init_0 rfl rfl ?_
  refine sv_objinit (pc := 1) dX7_init_1 wM_X7_3 wV_obj wK_obj ⟨le_t rfl, le_t rfl⟩ (le_t rfl) ?_
  refine sv_aload_n (pc := 4) dX7_init_4 rfl rfl ?_
  refine sv_bipush (pc := 5) (v := 20) dX7_init_5 (by decide) ?_
  refine sw_newarray (pc := 7) (kd := 0) (a := 80) (n1 := 81) (N := 20) (ce1 := 1) (sl1 := 20) (v := .int 0) dX7_init_7 rfl wA_int rfl (fun U => sI_Cond_int U _) (by decide) (by decide) rfl (fun _ => rfl) rfl rfl rfl rfl rfl rfl ?_
  refine sw_putfinal (pc := 9) dX7_init_9 (gCX7 _ _ _ _ _) 0 (by decide) wF_X7_9 rfl rfl rfl rfl rfl (fun _ => rfl) (fun _ => rfl) rfl ?_
  refine sv_aload_n (pc := 12) dX7_init_12 rfl rfl ?_
  refine sv_bipush (pc := 13) (v := 8) dX7_init_13 (by decide) ?_
  refine sw_newarray (pc := 15) (kd := 0) (a := 81) (n1 := 82) (N := 8) (ce1 := 2) (sl1 := 28) (v := .int 0) dX7_init_15 rfl wA_int rfl (fun U => sI_Cond_int U _) (by decide) (by decide) rfl (fun _ => rfl) rfl rfl rfl rfl rfl rfl ?_
  refine sw_putfinal (pc := 17) dX7_init_17 (gCX7 _ _ _ _ _) 1 (by decide) wF_X7_15 rfl rfl rfl rfl rfl (fun _ => rfl) (fun _ => rfl) rfl ?_
  refine sv_aload_n (pc := 20) dX7_init_20 rfl rfl ?_
  refine sv_iconst (pc := 21) (v := (-1)) dX7_init_21 (by decide) ?_
  refine sw_putfield (pc := 22) dX7_init_22 (gCX7 _ _ _ _ _) 9 (by decide) wF_X7_18 rfl rfl rfl (fun _ => rfl) (fun _ => rfl) rfl ?_
  refine sv_vret (pc := 25) dX7_init_25 rfl (le_t rfl) (le_t rfl) ?_
  refine sw_aastore (pc := 114) (k := 12) dX9_init_114 (gCX7 _ _ _ _ _) rfl rfl rfl (by decide) (by decide) rfl rfl rfl ?_
  refine sw_iinc (pc := 115) (v := 13) dX9_init_115 rfl (by decide) (by decide) ?_
  refine sv_goto (pc := 118) (tgt := 77) dX9_init_118 (by decide) ?_
  refine sv_iload (pc := 77) dX9_init_77 rfl ?_
  refine sv_aload_n (pc := 79) dX9_init_79 rfl rfl ?_
  refine sw_getfield (pc := 80) dX9_init_80 (gCX9 _ _ _ _ _) 4 (by decide) wF_X9_35 rfl rfl rfl ?_
  refine sv_arraylength (pc := 83) (v := 20) (ty := .object RX7) dX9_init_83 rfl (lt_t rfl) rfl (by decide) ?_
  refine sv_icmp_ge (pc := 84) (tgt := 121) dX9_init_84 (by decide) (fun h => absurd h (by decide)) (fun _ => ?_)
  refine sv_aload_n (pc := 87) dX9_init_87 rfl rfl ?_
  refine sw_getfield (pc := 88) dX9_init_88 (gCX9 _ _ _ _ _) 4 (by decide) wF_X9_35 rfl rfl rfl ?_
  refine sv_iload (pc := 91) dX9_init_91 rfl ?_
  refine sw_new (pc := 93) (a := 82) (n1 := 83) (ce1 := 82) (sl1 := 1096) (fs := zX7) dX9_init_93 (gCX7 _ _ _ _ _) wC_X9_33 wN_X7 wI_X7 zX7_ok rfl rfl rfl rfl rfl rfl ?_
  refine sv_dup (pc := 96) dX9_init_96 rfl ?_
  refine sv_callI (pc := 97) (M' := mX7_init) (d' := 4) (C' := 2) (S' := 28) (av := []) ?_ (gOk _ _ _ _ _) dX9_init_97 (tX7_init _ _ _ _ _) rfl rfl wV_X7_init wM_X9_42 ⟨le_t rfl, le_t rfl⟩ ⟨le_t rfl, le_t rfl⟩ rfl (le_t rfl) (fun _ _ h => h)
  refine sC.of rfl (by decide) (le_t rfl) ?_
  refine sv_aload_n (pc := 0) dX7_init_0 rfl rfl ?_
  refine sv_objinit (pc := 1) dX7_init_1 wM_X7_3 wV_obj wK_obj ⟨le_t rfl, le_t rfl⟩ (le_t rfl) ?_
  refine sv_aload_n (pc := 4) dX7_init_4 rfl rfl ?_
  refine sv_bipush (pc := 5) (v := 20) dX7_init_5 (by decide) ?_
  refine sw_newarray (pc := 7) (kd := 0) (a := 83) (n1 := 84) (N := 20) (ce1 := 1) (sl1 := 20) (v := .int 0) dX7_init_7 rfl wA_int rfl (fun U => sI_Cond_int U _) (by decide) (by decide) rfl (fun _ => rfl) rfl rfl rfl rfl rfl rfl ?_
  refine sw_putfinal (pc := 9) dX7_init_9 (gCX7 _ _ _ _ _) 0 (by decide) wF_X7_9 rfl rfl rfl rfl rfl (fun _ => rfl) (fun _ => rfl) rfl ?_
  refine sv_aload_n (pc := 12) dX7_init_12 rfl rfl ?_
  refine sv_bipush (pc := 13) (v := 8) dX7_init_13 (by decide) ?_
  refine sw_newarray (pc := 15) (kd := 0) (a := 84) (n1 := 85) (N := 8) (ce1 := 2) (sl1 := 28) (v := .int 0) dX7_init_15 rfl wA_int rfl (fun U => sI_Cond_int U _) (by decide) (by decide) rfl (fun _ => rfl) rfl rfl rfl rfl rfl rfl ?_
  refine sw_putfinal (pc := 17) dX7_init_17 (gCX7 _ _ _ _ _) 1 (by decide) wF_X7_15 rfl rfl rfl rfl rfl (fun _ => rfl) (fun _ => rfl) rfl ?_
  refine sv_aload_n (pc := 20) dX7_init_20 rfl rfl ?_
  refine sv_iconst (pc := 21) (v := (-1)) dX7_init_21 (by decide) ?_
  refine sw_putfield (pc := 22) dX7_init_22 (gCX7 _ _ _ _ _) 9 (by decide) wF_X7_18 rfl rfl rfl (fun _ => rfl) (fun _ => rfl) rfl ?_
  refine sv_vret (pc := 25) dX7_init_25 rfl (le_t rfl) (le_t rfl) ?_
  refine sw_aastore (pc := 100) (k := 13) dX9_init_100 (gCX7 _ _ _ _ _) rfl rfl rfl (by decide) (by decide) rfl rfl rfl ?_
  refine sv_aload_n (pc := 101) dX9_init_101 rfl rfl ?_
  refine sw_getfield (pc := 102) dX9_init_102 (gCX9 _ _ _ _ _) 5 (by decide) wF_X9_39 rfl rfl rfl ?_
  refine sv_iload (pc := 105) dX9_init_105 rfl ?_
  refine sw_new (pc := 107) (a := 85) (n1 := 86) (ce1 := 85) (sl1 := 1136) (fs := zX7) dX9_init_107 (gCX7 _ _ _ _ _) wC_X9_33 wN_X7 wI_X7 zX7_ok rfl rfl rfl rfl rfl rfl ?_
  refine sv_dup (pc := 110) dX9_init_110 rfl ?_
  refine sv_callI (pc := 111) (M' := mX7_init) (d' := 4) (C' := 2) (S' := 28) (av := []) ?_ (gOk _ _ _ _ _) dX9_init_111 (tX7_init _ _ _ _ _) rfl rfl wV_X7_init wM_X9_42 ⟨le_t rfl, le_t rfl⟩ ⟨le_t rfl, le_t rfl⟩ rfl (le_t rfl) (fun _ _ h => h)
  refine sC.of rfl (by decide) (le_t rfl) ?_
  refine sv_aload_n (pc := 0) dX7_init_0 rfl rfl ?_
  refine sv_objinit (pc := 1) dX7_init_1 wM_X7_3 wV_obj wK_obj ⟨le_t rfl, le_t rfl⟩ (le_t rfl) ?_
  refine sv_aload_n (pc := 4) dX7_init_4 rfl rfl ?_
  refine sv_bipush (pc := 5) (v := 20) dX7_init_5 (by decide) ?_
  refine sw_newarray (pc := 7) (kd := 0) (a := 86) (n1 := 87) (N := 20) (ce1 := 1) (sl1 := 20) (v := .int 0) dX7_init_7 rfl wA_int rfl (fun U => sI_Cond_int U _) (by decide) (by decide) rfl (fun _ => rfl) rfl rfl rfl rfl rfl rfl ?_
  refine sw_putfinal (pc := 9) dX7_init_9 (gCX7 _ _ _ _ _) 0 (by decide) wF_X7_9 rfl rfl rfl rfl rfl (fun _ => rfl) (fun _ => rfl) rfl ?_
  refine sv_aload_n (pc := 12) dX7_init_12 rfl rfl ?_
  refine sv_bipush (pc := 13) (v := 8) dX7_init_13 (by decide) ?_
  refine sw_newarray (pc := 15) (kd := 0) (a := 87) (n1 := 88) (N := 8) (ce1 := 2) (sl1 := 28) (v := .int 0) dX7_init_15 rfl wA_int rfl (fun U => sI_Cond_int U _) (by decide) (by decide) rfl (fun _ => rfl) rfl rfl rfl rfl rfl rfl ?_
  refine sw_putfinal (pc := 17) dX7_init_17 (gCX7 _ _ _ _ _) 1 (by decide) wF_X7_15 rfl rfl rfl rfl rfl (fun _ => rfl) (fun _ => rfl) rfl ?_
  refine sv_aload_n (pc := 20) dX7_init_20 rfl rfl ?_
  refine sv_iconst (pc := 21) (v := (-1)) dX7_init_21 (by decide) ?_
  refine sw_putfield (pc := 22) dX7_init_22 (gCX7 _ _ _ _ _) 9 (by decide) wF_X7_18 rfl rfl rfl (fun _ => rfl) (fun _ => rfl) rfl ?_
  refine sv_vret (pc := 25) dX7_init_25 rfl (le_t rfl) (le_t rfl) ?_
  refine sw_aastore (pc := 114) (k := 13) dX9_init_114 (gCX7 _ _ _ _ _) rfl rfl rfl (by decide) (by decide) rfl rfl rfl ?_
  refine sw_iinc (pc := 115) (v := 14) dX9_init_115 rfl (by decide) (by decide) ?_
  refine sv_goto (pc := 118) (tgt := 77) dX9_init_118 (by decide) ?_
  refine sv_iload (pc := 77) dX9_init_77 rfl ?_
  refine sv_aload_n (pc := 79) dX9_init_79 rfl rfl ?_
  refine sw_getfield (pc := 80) dX9_init_80 (gCX9 _ _ _ _ _) 4 (by decide) wF_X9_35 rfl rfl rfl ?_
  refine sv_arraylength (pc := 83) (v := 20) (ty := .object RX7) dX9_init_83 rfl (lt_t rfl) rfl (by decide) ?_
  refine sv_icmp_ge (pc := 84) (tgt := 121) dX9_init_84 (by decide) (fun h => absurd h (by decide)) (fun _ => ?_)
  refine sv_aload_n (pc := 87) dX9_init_87 rfl rfl ?_
  refine sw_getfield (pc := 88) dX9_init_88 (gCX9 _ _ _ _ _) 4 (by decide) wF_X9_35 rfl rfl rfl ?_
  refine sv_iload (pc := 91) dX9_init_91 rfl ?_
  refine sw_new (pc := 93) (a := 88) (n1 := 89) (ce1 := 88) (sl1 := 1176) (fs := zX7) dX9_init_93 (gCX7 _ _ _ _ _) wC_X9_33 wN_X7 wI_X7 zX7_ok rfl rfl rfl rfl rfl rfl ?_
  refine sv_dup (pc := 96) dX9_init_96 rfl ?_
  refine sv_callI (pc := 97) (M' := mX7_init) (d' := 4) (C' := 2) (S' := 28) (av := []) ?_ (gOk _ _ _ _ _) dX9_init_97 (tX7_init _ _ _ _ _) rfl rfl wV_X7_init wM_X9_42 ⟨le_t rfl, le_t rfl⟩ ⟨le_t rfl, le_t rfl⟩ rfl (le_t rfl) (fun _ _ h => h)
  refine sC.of rfl (by decide) (le_t rfl) ?_
  refine sv_aload_n (pc := 0) dX7_init_0 rfl rfl ?_
  refine sv_objinit (pc := 1) dX7_init_1 wM_X7_3 wV_obj wK_obj ⟨le_t rfl, le_t rfl⟩ (le_t rfl) ?_
  refine sv_aload_n (pc := 4) dX7_init_4 rfl rfl ?_
  refine sv_bipush (pc := 5) (v := 20) dX7_init_5 (by decide) ?_
  refine sw_newarray (pc := 7) (kd := 0) (a := 89) (n1 := 90) (N := 20) (ce1 := 1) (sl1 := 20) (v := .int 0) dX7_init_7 rfl wA_int rfl (fun U => sI_Cond_int U _) (by decide) (by decide) rfl (fun _ => rfl) rfl rfl rfl rfl rfl rfl ?_
  refine sw_putfinal (pc := 9) dX7_init_9 (gCX7 _ _ _ _ _) 0 (by decide) wF_X7_9 rfl rfl rfl rfl rfl (fun _ => rfl) (fun _ => rfl) rfl ?_
  refine sv_aload_n (pc := 12) dX7_init_12 rfl rfl ?_
  refine sv_bipush (pc := 13) (v := 8) dX7_init_13 (by decide) ?_
  refine sw_newarray (pc := 15) (kd := 0) (a := 90) (n1 := 91) (N := 8) (ce1 := 2) (sl1 := 28) (v := .int 0) dX7_init_15 rfl wA_int rfl (fun U => sI_Cond_int U _) (by decide) (by decide) rfl (fun _ => rfl) rfl rfl rfl rfl rfl rfl ?_
  refine sw_putfinal (pc := 17) dX7_init_17 (gCX7 _ _ _ _ _) 1 (by decide) wF_X7_15 rfl rfl rfl rfl rfl (fun _ => rfl) (fun _ => rfl) rfl ?_
  refine sv_aload_n (pc := 20) dX7_init_20 rfl rfl ?_
  refine sv_iconst (pc := 21) (v := (-1)) dX7_init_21 (by decide) ?_
  refine sw_putfield (pc := 22) dX7_init_22 (gCX7 _ _ _ _ _) 9 (by decide) wF_X7_18 rfl rfl rfl (fun _ => rfl) (fun _ => rfl) rfl ?_
  refine sv_vret (pc := 25) dX7_init_25 rfl (le_t rfl) (le_t rfl) ?_
  refine sw_aastore (pc := 100) (k := 14) dX9_init_100 (gCX7 _ _ _ _ _) rfl rfl rfl (by decide) (by decide) rfl rfl rfl ?_
  refine sv_aload_n (pc := 101) dX9_init_101 rfl rfl ?_
  refine sw_getfield (pc := 102) dX9_init_102 (gCX9 _ _ _ _ _) 5 (by decide) wF_X9_39 rfl rfl rfl ?_
  refine sv_iload (pc := 105) dX9_init_105 rfl ?_
  refine sw_new (pc := 107) (a := 91) (n1 := 92) (ce1 := 91) (sl1 := 1216) (fs := zX7) dX9_init_107 (gCX7 _ _ _ _ _) wC_X9_33 wN_X7 wI_X7 zX7_ok rfl rfl rfl rfl rfl rfl ?_
  refine sv_dup (pc := 110) dX9_init_110 rfl ?_
  refine sv_callI (pc := 111) (M' := mX7_init) (d' := 4) (C' := 2) (S' := 28) (av := []) ?_ (gOk _ _ _ _ _) dX9_init_111 (tX7_init _ _ _ _ _) rfl rfl wV_X7_init wM_X9_42 ⟨le_t rfl, le_t rfl⟩ ⟨le_t rfl, le_t rfl⟩ rfl (le_t rfl) (fun _ _ h => h)
  refine sC.of rfl (by decide) (le_t rfl) ?_
  refine sv_aload_n (pc := 0) dX7_init_0 rfl rfl ?_
  refine sv_objinit (pc := 1) dX7_init_1 wM_X7_3 wV_obj wK_obj ⟨le_t rfl, le_t rfl⟩ (le_t rfl) ?_
  refine sv_aload_n (pc := 4) dX7_init_4 rfl rfl ?_
  refine sv_bipush (pc := 5) (v := 20) dX7_init_5 (by decide) ?_
  refine sw_newarray (pc := 7) (kd := 0) (a := 92) (n1 := 93) (N := 20) (ce1 := 1) (sl1 := 20) (v := .int 0) dX7_init_7 rfl wA_int rfl (fun U => sI_Cond_int U _) (by decide) (by decide) rfl (fun _ => rfl) rfl rfl rfl rfl rfl rfl ?_
  refine sw_putfinal (pc := 9) dX7_init_9 (gCX7 _ _ _ _ _) 0 (by decide) wF_X7_9 rfl rfl rfl rfl rfl (fun _ => rfl) (fun _ => rfl) rfl ?_
  refine sv_aload_n (pc := 12) dX7_init_12 rfl rfl ?_
  refine sv_bipush (pc := 13) (v := 8) dX7_init_13 (by decide) ?_
  refine sw_newarray (pc := 15) (kd := 0) (a := 93) (n1 := 94) (N := 8) (ce1 := 2) (sl1 := 28) (v := .int 0) dX7_init_15 rfl wA_int rfl (fun U => sI_Cond_int U _) (by decide) (by decide) rfl (fun _ => rfl) rfl rfl rfl rfl rfl rfl ?_
  refine sw_putfinal (pc := 17) dX7_init_17 (gCX7 _ _ _ _ _) 1 (by decide) wF_X7_15 rfl rfl rfl rfl rfl (fun _ => rfl) (fun _ => rfl) rfl ?_
  refine sv_aload_n (pc := 20) dX7_init_20 rfl rfl ?_
  refine sv_iconst (pc := 21) (v := (-1)) dX7_init_21 (by decide) ?_
  refine sw_putfield (pc := 22) dX7_init_22 (gCX7 _ _ _ _ _) 9 (by decide) wF_X7_18 rfl rfl rfl (fun _ => rfl) (fun _ => rfl) rfl ?_
  refine sv_vret (pc := 25) dX7_init_25 rfl (le_t rfl) (le_t rfl) ?_
  refine sw_aastore (pc := 114) (k := 14) dX9_init_114 (gCX7 _ _ _ _ _) rfl rfl rfl (by decide) (by decide) rfl rfl rfl ?_
  refine sw_iinc (pc := 115) (v := 15) dX9_init_115 rfl (by decide) (by decide) ?_
  refine sv_lvG (pc := 118) (lv' := [(0, .ref 0), (1, .int xa), (2, .int xb), (3, .int xk), (4, .int 15)]) (List.forall_mem_cons.mpr ⟨rfl, List.forall_mem_cons.mpr ⟨rfl, List.forall_mem_cons.mpr ⟨rfl, List.forall_mem_cons.mpr ⟨rfl, List.forall_mem_cons.mpr ⟨rfl, fun _ h => absurd h List.not_mem_nil⟩⟩⟩⟩⟩) ?_
  refine sv_goto (pc := 118) (tgt := 77) dX9_init_118 (by decide) ?_
  refine sv_iload (pc := 77) dX9_init_77 rfl ?_
  refine sv_aload_n (pc := 79) dX9_init_79 rfl rfl ?_
  refine sw_getfield (pc := 80) dX9_init_80 (gCX9 _ _ _ _ _) 4 (by decide) wF_X9_35 rfl rfl rfl ?_
  refine sv_arraylength (pc := 83) (v := 20) (ty := .object RX7) dX9_init_83 rfl (lt_t rfl) rfl (by decide) ?_
  refine sv_icmp_ge (pc := 84) (tgt := 121) dX9_init_84 (by decide) (fun h => absurd h (by decide)) (fun _ => ?_)
  refine sv_aload_n (pc := 87) dX9_init_87 rfl rfl ?_
  refine sw_getfield (pc := 88) dX9_init_88 (gCX9 _ _ _ _ _) 4 (by decide) wF_X9_35 rfl rfl rfl ?_
  refine sv_iload (pc := 91) dX9_init_91 rfl ?_
  refine sw_new (pc := 93) (a := 94) (n1 := 95) (ce1 := 94) (sl1 := 1256) (fs := zX7) dX9_init_93 (gCX7 _ _ _ _ _) wC_X9_33 wN_X7 wI_X7 zX7_ok rfl rfl rfl rfl rfl rfl ?_
  refine sv_dup (pc := 96) dX9_init_96 rfl ?_
  refine sv_callI (pc := 97) (M' := mX7_init) (d' := 4) (C' := 2) (S' := 28) (av := []) ?_ (gOk _ _ _ _ _) dX9_init_97 (tX7_init _ _ _ _ _) rfl rfl wV_X7_init wM_X9_42 ⟨le_t rfl, le_t rfl⟩ ⟨le_t rfl, le_t rfl⟩ rfl (le_t rfl) (fun _ _ h => h)
  refine sC.of rfl (by decide) (le_t rfl) ?_
  refine sv_aload_n (pc := 0) dX7_init_0 rfl rfl ?_
  refine sv_objinit (pc := 1) dX7_init_1 wM_X7_3 wV_obj wK_obj ⟨le_t rfl, le_t rfl⟩ (le_t rfl) ?_
  refine sv_aload_n (pc := 4) dX7_init_4 rfl rfl ?_
  refine sv_bipush (pc := 5) (v := 20) dX7_init_5 (by decide) ?_
  refine sw_newarray (pc := 7) (kd := 0) (a := 95) (n1 := 96) (N := 20) (ce1 := 1) (sl1 := 20) (v := .int 0) dX7_init_7 rfl wA_int rfl (fun U => sI_Cond_int U _) (by decide) (by decide) rfl (fun _ => rfl) rfl rfl rfl rfl rfl rfl ?_
  refine sw_putfinal (pc := 9) dX7_init_9 (gCX7 _ _ _ _ _) 0 (by decide) wF_X7_9 rfl rfl rfl rfl rfl (fun _ => rfl) (fun _ => rfl) rfl ?_
  refine sv_aload_n (pc := 12) dX7_init_12 rfl rfl ?_
  refine sv_bipush (pc := 13) (v := 8) dX7_init_13 (by decide) ?_
  refine sw_newarray (pc := 15) (kd := 0) (a := 96) (n1 := 97) (N := 8) (ce1 := 2) (sl1 := 28) (v := .int 0) dX7_init_15 rfl wA_int rfl (fun U => sI_Cond_int U _) (by decide) (by decide) rfl (fun _ => rfl) rfl rfl rfl rfl rfl rfl ?_
  refine sw_putfinal (pc := 17) dX7_init_17 (gCX7 _ _ _ _ _) 1 (by decide) wF_X7_15 rfl rfl rfl rfl rfl (fun _ => rfl) (fun _ => rfl) rfl ?_
  refine sv_aload_n (pc := 20) dX7_init_20 rfl rfl ?_
  refine sv_iconst (pc := 21) (v := (-1)) dX7_init_21 (by decide) ?_
  refine sw_putfield (pc := 22) dX7_init_22 (gCX7 _ _ _ _ _) 9 (by decide) wF_X7_18 rfl rfl rfl (fun _ => rfl) (fun _ => rfl) rfl ?_
  refine sv_vret (pc := 25) dX7_init_25 rfl (le_t rfl) (le_t rfl) ?_
  refine sw_aastore (pc := 100) (k := 15) dX9_init_100 (gCX7 _ _ _ _ _) rfl rfl rfl (by decide) (by decide) rfl rfl rfl ?_
  refine sv_aload_n (pc := 101) dX9_init_101 rfl rfl ?_
  refine sw_getfield (pc := 102) dX9_init_102 (gCX9 _ _ _ _ _) 5 (by decide) wF_X9_39 rfl rfl rfl ?_
  refine sv_iload (pc := 105) dX9_init_105 rfl ?_
  refine sw_new (pc := 107) (a := 97) (n1 := 98) (ce1 := 97) (sl1 := 1296) (fs := zX7) dX9_init_107 (gCX7 _ _ _ _ _) wC_X9_33 wN_X7 wI_X7 zX7_ok rfl rfl rfl rfl rfl rfl ?_
  refine sv_dup (pc := 110) dX9_init_110 rfl ?_
  refine sv_callI (pc := 111) (M' := mX7_init) (d' := 4) (C' := 2) (S' := 28) (av := []) ?_ (gOk _ _ _ _ _) dX9_init_111 (tX7_init _ _ _ _ _) rfl rfl wV_X7_init wM_X9_42 ⟨le_t rfl, le_t rfl⟩ ⟨le_t rfl, le_t rfl⟩ rfl (le_t rfl) (fun _ _ h => h)
  refine sC.of rfl (by decide) (le_t rfl) ?_
  refine sv_aload_n (pc := 0) dX7_init_0 rfl rfl ?_
  refine sv_objinit (pc := 1) dX7_init_1 wM_X7_3 wV_obj wK_obj ⟨le_t rfl, le_t rfl⟩ (le_t rfl) ?_
  refine sv_aload_n (pc := 4) dX7_init_4 rfl rfl ?_
  refine sv_bipush (pc := 5) (v := 20) dX7_init_5 (by decide) ?_
  refine sw_newarray (pc := 7) (kd := 0) (a := 98) (n1 := 99) (N := 20) (ce1 := 1) (sl1 := 20) (v := .int 0) dX7_init_7 rfl wA_int rfl (fun U => sI_Cond_int U _) (by decide) (by decide) rfl (fun _ => rfl) rfl rfl rfl rfl rfl rfl ?_
  refine sw_putfinal (pc := 9) dX7_init_9 (gCX7 _ _ _ _ _) 0 (by decide) wF_X7_9 rfl rfl rfl rfl rfl (fun _ => rfl) (fun _ => rfl) rfl ?_
  refine sv_aload_n (pc := 12) dX7_init_12 rfl rfl ?_
  refine sv_bipush (pc := 13) (v := 8) dX7_init_13 (by decide) ?_
  refine sw_newarray (pc := 15) (kd := 0) (a := 99) (n1 := 100) (N := 8) (ce1 := 2) (sl1 := 28) (v := .int 0) dX7_init_15 rfl wA_int rfl (fun U => sI_Cond_int U _) (by decide) (by decide) rfl (fun _ => rfl) rfl rfl rfl rfl rfl rfl ?_
  refine sw_putfinal (pc := 17) dX7_init_17 (gCX7 _ _ _ _ _) 1 (by decide) wF_X7_15 rfl rfl rfl rfl rfl (fun _ => rfl) (fun _ => rfl) rfl ?_
  refine sv_aload_n (pc := 20) dX7_init_20 rfl rfl ?_
  refine sv_iconst (pc := 21) (v := (-1)) dX7_init_21 (by decide) ?_
  refine sw_putfield (pc := 22) dX7_init_22 (gCX7 _ _ _ _ _) 9 (by decide) wF_X7_18 rfl rfl rfl (fun _ => rfl) (fun _ => rfl) rfl ?_
  refine sv_vret (pc := 25) dX7_init_25 rfl (le_t rfl) (le_t rfl) ?_
  refine sw_aastore (pc := 114) (k := 15) dX9_init_114 (gCX7 _ _ _ _ _) rfl rfl rfl (by decide) (by decide) rfl rfl rfl ?_
  refine sw_iinc (pc := 115) (v := 16) dX9_init_115 rfl (by decide) (by decide) ?_
  refine sv_goto (pc := 118) (tgt := 77) dX9_init_118 (by decide) ?_
  refine sv_iload (pc := 77) dX9_init_77 rfl ?_
  refine sv_aload_n (pc := 79) dX9_init_79 rfl rfl ?_
  refine sw_getfield (pc := 80) dX9_init_80 (gCX9 _ _ _ _ _) 4 (by decide) wF_X9_35 rfl rfl rfl ?_
  refine sv_arraylength (pc := 83) (v := 20) (ty := .object RX7) dX9_init_83 rfl (lt_t rfl) rfl (by decide) ?_
  refine sv_icmp_ge (pc := 84) (tgt := 121) dX9_init_84 (by decide) (fun h => absurd h (by decide)) (fun _ => ?_)
  refine sv_aload_n (pc := 87) dX9_init_87 rfl rfl ?_
  refine sw_getfield (pc := 88) dX9_init_88 (gCX9 _ _ _ _ _) 4 (by decide) wF_X9_35 rfl rfl rfl ?_
  refine sv_iload (pc := 91) dX9_init_91 rfl ?_
  refine sw_new (pc := 93) (a := 100) (n1 := 101) (ce1 := 100) (sl1 := 1336) (fs := zX7) dX9_init_93 (gCX7 _ _ _ _ _) wC_X9_33 wN_X7 wI_X7 zX7_ok rfl rfl rfl rfl rfl rfl ?_
  refine sv_dup (pc := 96) dX9_init_96 rfl ?_
  refine sv_callI (pc := 97) (M' := mX7_init) (d' := 4) (C' := 2) (S' := 28) (av := []) ?_ (gOk _ _ _ _ _) dX9_init_97 (tX7_init _ _ _ _ _) rfl rfl wV_X7_init wM_X9_42 ⟨le_t rfl, le_t rfl⟩ ⟨le_t rfl, le_t rfl⟩ rfl (le_t rfl) (fun _ _ h => h)
  refine sC.of rfl (by decide) (le_t rfl) ?_
  refine sv_aload_n (pc := 0) dX7_init_0 rfl rfl ?_
  refine sv_objinit (pc := 1) dX7_init_1 wM_X7_3 wV_obj wK_obj ⟨le_t rfl, le_t rfl⟩ (le_t rfl) ?_
  refine sv_aload_n (pc := 4) dX7_init_4 rfl rfl ?_
  refine sv_bipush (pc := 5) (v := 20) dX7_init_5 (by decide) ?_
  refine sw_newarray (pc := 7) (kd := 0) (a := 101) (n1 := 102) (N := 20) (ce1 := 1) (sl1 := 20) (v := .int 0) dX7_init_7 rfl wA_int rfl (fun U => sI_Cond_int U _) (by decide) (by decide) rfl (fun _ => rfl) rfl rfl rfl rfl rfl rfl ?_
  refine sw_putfinal (pc := 9) dX7_init_9 (gCX7 _ _ _ _ _) 0 (by decide) wF_X7_9 rfl rfl rfl rfl rfl (fun _ => rfl) (fun _ => rfl) rfl ?_
  refine sv_aload_n (pc := 12) dX7_init_12 rfl rfl ?_
  refine sv_bipush (pc := 13) (v := 8) dX7_init_13 (by decide) ?_
  refine sw_newarray (pc := 15) (kd := 0) (a := 102) (n1 := 103) (N := 8) (ce1 := 2) (sl1 := 28) (v := .int 0) dX7_init_15 rfl wA_int rfl (fun U => sI_Cond_int U _) (by decide) (by decide) rfl (fun _ => rfl) rfl rfl rfl rfl rfl rfl ?_
  refine sw_putfinal (pc := 17) dX7_init_17 (gCX7 _ _ _ _ _) 1 (by decide) wF_X7_15 rfl rfl rfl rfl rfl (fun _ => rfl) (fun _ => rfl) rfl ?_
  refine sv_aload_n (pc := 20) dX7_init_20 rfl rfl ?_
  refine sv_iconst (pc := 21) (v := (-1)) dX7_init_21 (by decide) ?_
  refine sw_putfield (pc := 22) dX7_init_22 (gCX7 _ _ _ _ _) 9 (by decide) wF_X7_18 rfl rfl rfl (fun _ => rfl) (fun _ => rfl) rfl ?_
  refine sv_vret (pc := 25) dX7_init_25 rfl (le_t rfl) (le_t rfl) ?_
  refine sw_aastore (pc := 100) (k := 16) dX9_init_100 (gCX7 _ _ _ _ _) rfl rfl rfl (by decide) (by decide) rfl rfl rfl ?_
  refine sv_aload_n (pc := 101) dX9_init_101 rfl rfl ?_
  refine sw_getfield (pc := 102) dX9_init_102 (gCX9 _ _ _ _ _) 5 (by decide) wF_X9_39 rfl rfl rfl ?_
  refine sv_iload (pc := 105) dX9_init_105 rfl ?_
  refine sw_new (pc := 107) (a := 103) (n1 := 104) (ce1 := 103) (sl1 := 1376) (fs := zX7) dX9_init_107 (gCX7 _ _ _ _ _) wC_X9_33 wN_X7 wI_X7 zX7_ok rfl rfl rfl rfl rfl rfl ?_
  refine sv_dup (pc := 110) dX9_init_110 rfl ?_
  refine sv_callI (pc := 111) (M' := mX7_init) (d' := 4) (C' := 2) (S' := 28) (av := []) ?_ (gOk _ _ _ _ _) dX9_init_111 (tX7_init _ _ _ _ _) rfl rfl wV_X7_init wM_X9_42 ⟨le_t rfl, le_t rfl⟩ ⟨le_t rfl, le_t rfl⟩ rfl (le_t rfl) (fun _ _ h => h)
  refine sC.of rfl (by decide) (le_t rfl) ?_
  refine sv_aload_n (pc := 0) dX7_init_0 rfl rfl ?_
  refine sv_objinit (pc := 1) dX7_init_1 wM_X7_3 wV_obj wK_obj ⟨le_t rfl, le_t rfl⟩ (le_t rfl) ?_
  refine sv_aload_n (pc := 4) dX7_init_4 rfl rfl ?_
  refine sv_bipush (pc := 5) (v := 20) dX7_init_5 (by decide) ?_
  refine sw_newarray (pc := 7) (kd := 0) (a := 104) (n1 := 105) (N := 20) (ce1 := 1) (sl1 := 20) (v := .int 0) dX7_init_7 rfl wA_int rfl (fun U => sI_Cond_int U _) (by decide) (by decide) rfl (fun _ => rfl) rfl rfl rfl rfl rfl rfl ?_
  refine sw_putfinal (pc := 9) dX7_init_9 (gCX7 _ _ _ _ _) 0 (by decide) wF_X7_9 rfl rfl rfl rfl rfl (fun _ => rfl) (fun _ => rfl) rfl ?_
  refine sv_aload_n (pc := 12) dX7_init_12 rfl rfl ?_
  refine sv_bipush (pc := 13) (v := 8) dX7_init_13 (by decide) ?_
  refine sw_newarray (pc := 15) (kd := 0) (a := 105) (n1 := 106) (N := 8) (ce1 := 2) (sl1 := 28) (v := .int 0) dX7_init_15 rfl wA_int rfl (fun U => sI_Cond_int U _) (by decide) (by decide) rfl (fun _ => rfl) rfl rfl rfl rfl rfl rfl ?_
  refine sw_putfinal (pc := 17) dX7_init_17 (gCX7 _ _ _ _ _) 1 (by decide) wF_X7_15 rfl rfl rfl rfl rfl (fun _ => rfl) (fun _ => rfl) rfl ?_
  refine sv_aload_n (pc := 20) dX7_init_20 rfl rfl ?_
  refine sv_iconst (pc := 21) (v := (-1)) dX7_init_21 (by decide) ?_
  refine sw_putfield (pc := 22) dX7_init_22 (gCX7 _ _ _ _ _) 9 (by decide) wF_X7_18 rfl rfl rfl (fun _ => rfl) (fun _ => rfl) rfl ?_
  refine sv_vret (pc := 25) dX7_init_25 rfl (le_t rfl) (le_t rfl) ?_
  refine sw_aastore (pc := 114) (k := 16) dX9_init_114 (gCX7 _ _ _ _ _) rfl rfl rfl (by decide) (by decide) rfl rfl rfl ?_
  refine sw_iinc (pc := 115) (v := 17) dX9_init_115 rfl (by decide) (by decide) ?_
  refine sv_goto (pc := 118) (tgt := 77) dX9_init_118 (by decide) ?_
  refine sv_iload (pc := 77) dX9_init_77 rfl ?_
  refine sv_aload_n (pc := 79) dX9_init_79 rfl rfl ?_
  refine sw_getfield (pc := 80) dX9_init_80 (gCX9 _ _ _ _ _) 4 (by decide) wF_X9_35 rfl rfl rfl ?_
  refine sv_arraylength (pc := 83) (v := 20) (ty := .object RX7) dX9_init_83 rfl (lt_t rfl) rfl (by decide) ?_
  refine sv_icmp_ge (pc := 84) (tgt := 121) dX9_init_84 (by decide) (fun h => absurd h (by decide)) (fun _ => ?_)
  refine sv_aload_n (pc := 87) dX9_init_87 rfl rfl ?_
  refine sw_getfield (pc := 88) dX9_init_88 (gCX9 _ _ _ _ _) 4 (by decide) wF_X9_35 rfl rfl rfl ?_
  refine sv_iload (pc := 91) dX9_init_91 rfl ?_
  refine sw_new (pc := 93) (a := 106) (n1 := 107) (ce1 := 106) (sl1 := 1416) (fs := zX7) dX9_init_93 (gCX7 _ _ _ _ _) wC_X9_33 wN_X7 wI_X7 zX7_ok rfl rfl rfl rfl rfl rfl ?_
  refine sv_dup (pc := 96) dX9_init_96 rfl ?_
  refine sv_callI (pc := 97) (M' := mX7_init) (d' := 4) (C' := 2) (S' := 28) (av := []) ?_ (gOk _ _ _ _ _) dX9_init_97 (tX7_init _ _ _ _ _) rfl rfl wV_X7_init wM_X9_42 ⟨le_t rfl, le_t rfl⟩ ⟨le_t rfl, le_t rfl⟩ rfl (le_t rfl) (fun _ _ h => h)
  refine sC.of rfl (by decide) (le_t rfl) ?_
  refine sv_aload_n (pc := 0) dX7_init_0 rfl rfl ?_
  refine sv_objinit (pc := 1) dX7_init_1 wM_X7_3 wV_obj wK_obj ⟨le_t rfl, le_t rfl⟩ (le_t rfl) ?_
  refine sv_aload_n (pc := 4) dX7_init_4 rfl rfl ?_
  refine sv_bipush (pc := 5) (v := 20) dX7_init_5 (by decide) ?_
  refine sw_newarray (pc := 7) (kd := 0) (a := 107) (n1 := 108) (N := 20) (ce1 := 1) (sl1 := 20) (v := .int 0) dX7_init_7 rfl wA_int rfl (fun U => sI_Cond_int U _) (by decide) (by decide) rfl (fun _ => rfl) rfl rfl rfl rfl rfl rfl ?_
  refine sw_putfinal (pc := 9) dX7_init_9 (gCX7 _ _ _ _ _) 0 (by decide) wF_X7_9 rfl rfl rfl rfl rfl (fun _ => rfl) (fun _ => rfl) rfl ?_
  refine sv_aload_n (pc := 12) dX7_init_12 rfl rfl ?_
  refine sv_bipush (pc := 13) (v := 8) dX7_init_13 (by decide) ?_
  refine sw_newarray (pc := 15) (kd := 0) (a := 108) (n1 := 109) (N := 8) (ce1 := 2) (sl1 := 28) (v := .int 0) dX7_init_15 rfl wA_int rfl (fun U => sI_Cond_int U _) (by decide) (by decide) rfl (fun _ => rfl) rfl rfl rfl rfl rfl rfl ?_
  refine sw_putfinal (pc := 17) dX7_init_17 (gCX7 _ _ _ _ _) 1 (by decide) wF_X7_15 rfl rfl rfl rfl rfl (fun _ => rfl) (fun _ => rfl) rfl ?_
  refine sv_aload_n (pc := 20) dX7_init_20 rfl rfl ?_
  refine sv_iconst (pc := 21) (v := (-1)) dX7_init_21 (by decide) ?_
  refine sw_putfield (pc := 22) dX7_init_22 (gCX7 _ _ _ _ _) 9 (by decide) wF_X7_18 rfl rfl rfl (fun _ => rfl) (fun _ => rfl) rfl ?_
  refine sv_vret (pc := 25) dX7_init_25 rfl (le_t rfl) (le_t rfl) ?_
  refine sw_aastore (pc := 100) (k := 17) dX9_init_100 (gCX7 _ _ _ _ _) rfl rfl rfl (by decide) (by decide) rfl rfl rfl ?_
  refine sv_aload_n (pc := 101) dX9_init_101 rfl rfl ?_
  refine sw_getfield (pc := 102) dX9_init_102 (gCX9 _ _ _ _ _) 5 (by decide) wF_X9_39 rfl rfl rfl ?_
  refine sv_iload (pc := 105) dX9_init_105 rfl ?_
  refine sw_new (pc := 107) (a := 109) (n1 := 110) (ce1 := 109) (sl1 := 1456) (fs := zX7) dX9_init_107 (gCX7 _ _ _ _ _) wC_X9_33 wN_X7 wI_X7 zX7_ok rfl rfl rfl rfl rfl rfl ?_
  refine sv_dup (pc := 110) dX9_init_110 rfl ?_
  refine sv_callI (pc := 111) (M' := mX7_init) (d' := 4) (C' := 2) (S' := 28) (av := []) ?_ (gOk _ _ _ _ _) dX9_init_111 (tX7_init _ _ _ _ _) rfl rfl wV_X7_init wM_X9_42 ⟨le_t rfl, le_t rfl⟩ ⟨le_t rfl, le_t rfl⟩ rfl (le_t rfl) (fun _ _ h => h)
  refine sC.of rfl (by decide) (le_t rfl) ?_
  refine sv_aload_n (pc := 0) dX7_init_0 rfl rfl ?_
  refine sv_objinit (pc := 1) dX7_init_1 wM_X7_3 wV_obj wK_obj ⟨le_t rfl, le_t rfl⟩ (le_t rfl) ?_
  refine sv_aload_n (pc := 4) dX7_init_4 rfl rfl ?_
  refine sv_bipush (pc := 5) (v := 20) dX7_init_5 (by decide) ?_
  refine sw_newarray (pc := 7) (kd := 0) (a := 110) (n1 := 111) (N := 20) (ce1 := 1) (sl1 := 20) (v := .int 0) dX7_init_7 rfl wA_int rfl (fun U => sI_Cond_int U _) (by decide) (by decide) rfl (fun _ => rfl) rfl rfl rfl rfl rfl rfl ?_
  refine sw_putfinal (pc := 9) dX7_init_9 (gCX7 _ _ _ _ _) 0 (by decide) wF_X7_9 rfl rfl rfl rfl rfl (fun _ => rfl) (fun _ => rfl) rfl ?_
  refine sv_aload_n (pc := 12) dX7_init_12 rfl rfl ?_
  refine sv_bipush (pc := 13) (v := 8) dX7_init_13 (by decide) ?_
  refine sw_newarray (pc := 15) (kd := 0) (a := 111) (n1 := 112) (N := 8) (ce1 := 2) (sl1 := 28) (v := .int 0) dX7_init_15 rfl wA_int rfl (fun U => sI_Cond_int U _) (by decide) (by decide) rfl (fun _ => rfl) rfl rfl rfl rfl rfl rfl ?_
  refine sw_putfinal (pc := 17) dX7_init_17 (gCX7 _ _ _ _ _) 1 (by decide) wF_X7_15 rfl rfl rfl rfl rfl (fun _ => rfl) (fun _ => rfl) rfl ?_
  refine sv_aload_n (pc := 20) dX7_init_20 rfl rfl ?_
  refine sv_iconst (pc := 21) (v := (-1)) dX7_init_21 (by decide) ?_
  refine sw_putfield (pc := 22) dX7_init_22 (gCX7 _ _ _ _ _) 9 (by decide) wF_X7_18 rfl rfl rfl (fun _ => rfl) (fun _ => rfl) rfl ?_
  refine sv_vret (pc := 25) dX7_init_25 rfl (le_t rfl) (le_t rfl) ?_
  refine sw_aastore (pc := 114) (k := 17) dX9_init_114 (gCX7 _ _ _ _ _) rfl rfl rfl (by decide) (by decide) rfl rfl rfl ?_
  refine sw_iinc (pc := 115) (v := 18) dX9_init_115 rfl (by decide) (by decide) ?_
  refine sv_goto (pc := 118) (tgt := 77) dX9_init_118 (by decide) ?_
  refine sv_iload (pc := 77) dX9_init_77 rfl ?_
  refine sv_aload_n (pc := 79) dX9_init_79 rfl rfl ?_
  refine sw_getfield (pc := 80) dX9_init_80 (gCX9 _ _ _ _ _) 4 (by decide) wF_X9_35 rfl rfl rfl ?_
  refine sv_arraylength (pc := 83) (v := 20) (ty := .object RX7) dX9_init_83 rfl (lt_t rfl) rfl (by decide) ?_
  refine sv_icmp_ge (pc := 84) (tgt := 121) dX9_init_84 (by decide) (fun h => absurd h (by decide)) (fun _ => ?_)
  refine sv_aload_n (pc := 87) dX9_init_87 rfl rfl ?_
  refine sw_getfield (pc := 88) dX9_init_88 (gCX9 _ _ _ _ _) 4 (by decide) wF_X9_35 rfl rfl rfl ?_
  refine sv_iload (pc := 91) dX9_init_91 rfl ?_
  refine sw_new (pc := 93) (a := 112) (n1 := 113) (ce1 := 112) (sl1 := 1496) (fs := zX7) dX9_init_93 (gCX7 _ _ _ _ _) wC_X9_33 wN_X7 wI_X7 zX7_ok rfl rfl rfl rfl rfl rfl ?_
  refine sv_dup (pc := 96) dX9_init_96 rfl ?_
  refine sv_callI (pc := 97) (M' := mX7_init) (d' := 4) (C' := 2) (S' := 28) (av := []) ?_ (gOk _ _ _ _ _) dX9_init_97 (tX7_init _ _ _ _ _) rfl rfl wV_X7_init wM_X9_42 ⟨le_t rfl, le_t rfl⟩ ⟨le_t rfl, le_t rfl⟩ rfl (le_t rfl) (fun _ _ h => h)
  refine sC.of rfl (by decide) (le_t rfl) ?_
  refine sv_aload_n (pc := 0) dX7_init_0 rfl rfl ?_
  refine sv_objinit (pc := 1) dX7_init_1 wM_X7_3 wV_obj wK_obj ⟨le_t rfl, le_t rfl⟩ (le_t rfl) ?_
  refine sv_aload_n (pc := 4) dX7_init_4 rfl rfl ?_
  refine sv_bipush (pc := 5) (v := 20) dX7_init_5 (by decide) ?_
  refine sw_newarray (pc := 7) (kd := 0) (a := 113) (n1 := 114) (N := 20) (ce1 := 1) (sl1 := 20) (v := .int 0) dX7_init_7 rfl wA_int rfl (fun U => sI_Cond_int U _) (by decide) (by decide) rfl (fun _ => rfl) rfl rfl rfl rfl rfl rfl ?_
  refine sw_putfinal (pc := 9) dX7_init_9 (gCX7 _ _ _ _ _) 0 (by decide) wF_X7_9 rfl rfl rfl rfl rfl (fun _ => rfl) (fun _ => rfl) rfl ?_
  refine sv_aload_n (pc := 12) dX7_init_12 rfl rfl ?_
  refine sv_bipush (pc := 13) (v := 8) dX7_init_13 (by decide) ?_
  refine sw_newarray (pc := 15) (kd := 0) (a := 114) (n1 := 115) (N := 8) (ce1 := 2) (sl1 := 28) (v := .int 0) dX7_init_15 rfl wA_int rfl (fun U => sI_Cond_int U _) (by decide) (by decide) rfl (fun _ => rfl) rfl rfl rfl rfl rfl rfl ?_
  refine sw_putfinal (pc := 17) dX7_init_17 (gCX7 _ _ _ _ _) 1 (by decide) wF_X7_15 rfl rfl rfl rfl rfl (fun _ => rfl) (fun _ => rfl) rfl ?_
  refine sv_aload_n (pc := 20) dX7_init_20 rfl rfl ?_
  refine sv_iconst (pc := 21) (v := (-1)) dX7_init_21 (by decide) ?_
  refine sw_putfield (pc := 22) dX7_init_22 (gCX7 _ _ _ _ _) 9 (by decide) wF_X7_18 rfl rfl rfl (fun _ => rfl) (fun _ => rfl) rfl ?_
  refine sv_vret (pc := 25) dX7_init_25 rfl (le_t rfl) (le_t rfl) ?_
  refine sw_aastore (pc := 100) (k := 18) dX9_init_100 (gCX7 _ _ _ _ _) rfl rfl rfl (by decide) (by decide) rfl rfl rfl ?_
  refine sv_aload_n (pc := 101) dX9_init_101 rfl rfl ?_
  refine sw_getfield (pc := 102) dX9_init_102 (gCX9 _ _ _ _ _) 5 (by decide) wF_X9_39 rfl rfl rfl ?_
  refine sv_iload (pc := 105) dX9_init_105 rfl ?_
  refine sw_new (pc := 107) (a := 115) (n1 := 116) (ce1 := 115) (sl1 := 1536) (fs := zX7) dX9_init_107 (gCX7 _ _ _ _ _) wC_X9_33 wN_X7 wI_X7 zX7_ok rfl rfl rfl rfl rfl rfl ?_
  refine sv_dup (pc := 110) dX9_init_110 rfl ?_
  refine sv_callI (pc := 111) (M' := mX7_init) (d' := 4) (C' := 2) (S' := 28) (av := []) ?_ (gOk _ _ _ _ _) dX9_init_111 (tX7_init _ _ _ _ _) rfl rfl wV_X7_init wM_X9_42 ⟨le_t rfl, le_t rfl⟩ ⟨le_t rfl, le_t rfl⟩ rfl (le_t rfl) (fun _ _ h => h)
  refine sC.of rfl (by decide) (le_t rfl) ?_
  refine sv_aload_n (pc := 0) dX7_init_0 rfl rfl ?_
  refine sv_objinit (pc := 1) dX7_init_1 wM_X7_3 wV_obj wK_obj ⟨le_t rfl, le_t rfl⟩ (le_t rfl) ?_
  refine sv_aload_n (pc := 4) dX7_init_4 rfl rfl ?_
  refine sv_bipush (pc := 5) (v := 20) dX7_init_5 (by decide) ?_
  refine sw_newarray (pc := 7) (kd := 0) (a := 116) (n1 := 117) (N := 20) (ce1 := 1) (sl1 := 20) (v := .int 0) dX7_init_7 rfl wA_int rfl (fun U => sI_Cond_int U _) (by decide) (by decide) rfl (fun _ => rfl) rfl rfl rfl rfl rfl rfl ?_
  refine sw_putfinal (pc := 9) dX7_init_9 (gCX7 _ _ _ _ _) 0 (by decide) wF_X7_9 rfl rfl rfl rfl rfl (fun _ => rfl) (fun _ => rfl) rfl ?_
  refine sv_aload_n (pc := 12) dX7_init_12 rfl rfl ?_
  refine sv_bipush (pc := 13) (v := 8) dX7_init_13 (by decide) ?_
  refine sw_newarray (pc := 15) (kd := 0) (a := 117) (n1 := 118) (N := 8) (ce1 := 2) (sl1 := 28) (v := .int 0) dX7_init_15 rfl wA_int rfl (fun U => sI_Cond_int U _) (by decide) (by decide) rfl (fun _ => rfl) rfl rfl rfl rfl rfl rfl ?_
  refine sw_putfinal (pc := 17) dX7_init_17 (gCX7 _ _ _ _ _) 1 (by decide) wF_X7_15 rfl rfl rfl rfl rfl (fun _ => rfl) (fun _ => rfl) rfl ?_
  refine sv_aload_n (pc := 20) dX7_init_20 rfl rfl ?_
  refine sv_iconst (pc := 21) (v := (-1)) dX7_init_21 (by decide) ?_
  refine sw_putfield (pc := 22) dX7_init_22 (gCX7 _ _ _ _ _) 9 (by decide) wF_X7_18 rfl rfl rfl (fun _ => rfl) (fun _ => rfl) rfl ?_
  refine sv_vret (pc := 25) dX7_init_25 rfl (le_t rfl) (le_t rfl) ?_
  refine sw_aastore (pc := 114) (k := 18) dX9_init_114 (gCX7 _ _ _ _ _) rfl rfl rfl (by decide) (by decide) rfl rfl rfl ?_
  refine sw_iinc (pc := 115) (v := 19) dX9_init_115 rfl (by decide) (by decide) ?_
  refine sv_goto (pc := 118) (tgt := 77) dX9_init_118 (by decide) ?_
  refine sv_iload (pc := 77) dX9_init_77 rfl ?_
  refine sv_aload_n (pc := 79) dX9_init_79 rfl rfl ?_
  refine sw_getfield (pc := 80) dX9_init_80 (gCX9 _ _ _ _ _) 4 (by decide) wF_X9_35 rfl rfl rfl ?_
  refine sv_arraylength (pc := 83) (v := 20) (ty := .object RX7) dX9_init_83 rfl (lt_t rfl) rfl (by decide) ?_
  refine sv_icmp_ge (pc := 84) (tgt := 121) dX9_init_84 (by decide) (fun h => absurd h (by decide)) (fun _ => ?_)
  refine sv_aload_n (pc := 87) dX9_init_87 rfl rfl ?_
  refine sw_getfield (pc := 88) dX9_init_88 (gCX9 _ _ _ _ _) 4 (by decide) wF_X9_35 rfl rfl rfl ?_
  refine sv_iload (pc := 91) dX9_init_91 rfl ?_
  refine sw_new (pc := 93) (a := 118) (n1 := 119) (ce1 := 118) (sl1 := 1576) (fs := zX7) dX9_init_93 (gCX7 _ _ _ _ _) wC_X9_33 wN_X7 wI_X7 zX7_ok rfl rfl rfl rfl rfl rfl ?_
  refine sv_dup (pc := 96) dX9_init_96 rfl ?_
  refine sv_callI (pc := 97) (M' := mX7_init) (d' := 4) (C' := 2) (S' := 28) (av := []) ?_ (gOk _ _ _ _ _) dX9_init_97 (tX7_init _ _ _ _ _) rfl rfl wV_X7_init wM_X9_42 ⟨le_t rfl, le_t rfl⟩ ⟨le_t rfl, le_t rfl⟩ rfl (le_t rfl) (fun _ _ h => h)
  refine sC.of rfl (by decide) (le_t rfl) ?_
  refine sv_aload_n (pc := 0) dX7_init_0 rfl rfl ?_
  refine sv_objinit (pc := 1) dX7_init_1 wM_X7_3 wV_obj wK_obj ⟨le_t rfl, le_t rfl⟩ (le_t rfl) ?_
  refine sv_aload_n (pc := 4) dX7_init_4 rfl rfl ?_
  refine sv_bipush (pc := 5) (v := 20) dX7_init_5 (by decide) ?_
  refine sw_newarray (pc := 7) (kd := 0) (a := 119) (n1 := 120) (N := 20) (ce1 := 1) (sl1 := 20) (v := .int 0) dX7_init_7 rfl wA_int rfl (fun U => sI_Cond_int U _) (by decide) (by decide) rfl (fun _ => rfl) rfl rfl rfl rfl rfl rfl ?_
  refine sw_putfinal (pc := 9) dX7_init_9 (gCX7 _ _ _ _ _) 0 (by decide) wF_X7_9 rfl rfl rfl rfl rfl (fun _ => rfl) (fun _ => rfl) rfl ?_
  refine sv_aload_n (pc := 12) dX7_init_12 rfl rfl ?_
  refine sv_bipush (pc := 13) (v := 8) dX7_init_13 (by decide) ?_
  refine sw_newarray (pc := 15) (kd := 0) (a := 120) (n1 := 121) (N := 8) (ce1 := 2) (sl1 := 28) (v := .int 0) dX7_init_15 rfl wA_int rfl (fun U => sI_Cond_int U _) (by decide) (by decide) rfl (fun _ => rfl) rfl rfl rfl rfl rfl rfl ?_
  refine sw_putfinal (pc := 17) dX7_init_17 (gCX7 _ _ _ _ _) 1 (by decide) wF_X7_15 rfl rfl rfl rfl rfl (fun _ => rfl) (fun _ => rfl) rfl ?_
  refine sv_aload_n (pc := 20) dX7_init_20 rfl rfl ?_
  refine sv_iconst (pc := 21) (v := (-1)) dX7_init_21 (by decide) ?_
  refine sw_putfield (pc := 22) dX7_init_22 (gCX7 _ _ _ _ _) 9 (by decide) wF_X7_18 rfl rfl rfl (fun _ => rfl) (fun _ => rfl) rfl ?_
  refine sv_vret (pc := 25) dX7_init_25 rfl (le_t rfl) (le_t rfl) ?_
  refine sw_aastore (pc := 100) (k := 19) dX9_init_100 (gCX7 _ _ _ _ _) rfl rfl rfl (by decide) (by decide) rfl rfl rfl ?_
  refine sv_aload_n (pc := 101) dX9_init_101 rfl rfl ?_
  refine sw_getfield (pc := 102) dX9_init_102 (gCX9 _ _ _ _ _) 5 (by decide) wF_X9_39 rfl rfl rfl ?_
  refine sv_iload (pc := 105) dX9_init_105 rfl ?_
  refine sw_new (pc := 107) (a := 121) (n1 := 122) (ce1 := 121) (sl1 := 1616) (fs := zX7) dX9_init_107 (gCX7 _ _ _ _ _) wC_X9_33 wN_X7 wI_X7 zX7_ok rfl rfl rfl rfl rfl rfl ?_
  refine sv_dup (pc := 110) dX9_init_110 rfl ?_
  refine sv_callI (pc := 111) (M' := mX7_init) (d' := 4) (C' := 2) (S' := 28) (av := []) ?_ (gOk _ _ _ _ _) dX9_init_111 (tX7_init _ _ _ _ _) rfl rfl wV_X7_init wM_X9_42 ⟨le_t rfl, le_t rfl⟩ ⟨le_t rfl, le_t rfl⟩ rfl (le_t rfl) (fun _ _ h => h)
  refine sC.of rfl (by decide) (le_t rfl) ?_
  refine sv_aload_n (pc := 0) dX7_init_0 rfl rfl ?_
  refine sv_objinit (pc := 1) dX7_init_1 wM_X7_3 wV_obj wK_obj ⟨le_t rfl, le_t rfl⟩ (le_t rfl) ?_
  refine sv_aload_n (pc := 4) dX7_init_4 rfl rfl ?_
  refine sv_bipush (pc := 5) (v := 20) dX7_init_5 (by decide) ?_
  refine sw_newarray (pc := 7) (kd := 0) (a := 122) (n1 := 123) (N := 20) (ce1 := 1) (sl1 := 20) (v := .int 0) dX7_init_7 rfl wA_int rfl (fun U => sI_Cond_int U _) (by decide) (by decide) rfl (fun _ => rfl) rfl rfl rfl rfl rfl rfl ?_
  refine sw_putfinal (pc := 9) dX7_init_9 (gCX7 _ _ _ _ _) 0 (by decide) wF_X7_9 rfl rfl rfl rfl rfl (fun _ => rfl) (fun _ => rfl) rfl ?_
  refine sv_aload_n (pc := 12) dX7_init_12 rfl rfl ?_
  refine sv_bipush (pc := 13) (v := 8) dX7_init_13 (by decide) ?_
  refine sw_newarray (pc := 15) (kd := 0) (a := 123) (n1 := 124) (N := 8) (ce1 := 2) (sl1 := 28) (v := .int 0) dX7_init_15 rfl wA_int rfl (fun U => sI_Cond_int U _) (by decide) (by decide) rfl (fun _ => rfl) rfl rfl rfl rfl rfl rfl ?_
  refine sw_putfinal (pc := 17) dX7_init_17 (gCX7 _ _ _ _ _) 1 (by decide) wF_X7_15 rfl rfl rfl rfl rfl (fun _ => rfl) (fun _ => rfl) rfl ?_
  refine sv_aload_n (pc := 20) dX7_init_20 rfl rfl ?_
  refine sv_iconst (pc := 21) (v := (-1)) dX7_init_21 (by decide) ?_
  refine sw_putfield (pc := 22) dX7_init_22 (gCX7 _ _ _ _ _) 9 (by decide) wF_X7_18 rfl rfl rfl (fun _ => rfl) (fun _ => rfl) rfl ?_
  refine sv_vret (pc := 25) dX7_init_25 rfl (le_t rfl) (le_t rfl) ?_
  refine sw_aastore (pc := 114) (k := 19) dX9_init_114 (gCX7 _ _ _ _ _) rfl rfl rfl (by decide) (by decide) rfl rfl rfl ?_
  refine sw_iinc (pc := 115) (v := 20) dX9_init_115 rfl (by decide) (by decide) ?_
  refine sv_goto (pc := 118) (tgt := 77) dX9_init_118 (by decide) ?_
  refine sv_iload (pc := 77) dX9_init_77 rfl ?_
  refine sv_aload_n (pc := 79) dX9_init_79 rfl rfl ?_
  refine sw_getfield (pc := 80) dX9_init_80 (gCX9 _ _ _ _ _) 4 (by decide) wF_X9_35 rfl rfl rfl ?_
  refine sv_arraylength (pc := 83) (v := 20) (ty := .object RX7) dX9_init_83 rfl (lt_t rfl) rfl (by decide) ?_
  refine sv_icmp_ge (pc := 84) (tgt := 121) dX9_init_84 (by decide) (fun _ => ?_) (fun h => absurd (by decide) h)
  refine sv_vret dX9_init_121 rfl (le_t rfl) (le_t rfl) ⟨rfl, rfl, fun j hj => ?_⟩
  match j, hj with
  | 0, _ => exact rfl
  | 1, _ => exact rfl
  | 2, _ => exact rfl
  | 3, _ => exact rfl
  | 4, _ => exact rfl
  | 5, _ => exact rfl
  | 6, _ => exact rfl
  | 7, _ => exact rfl
  | 8, _ => exact rfl
  | 9, _ => exact rfl
  | 10, _ => exact rfl
  | 11, _ => exact rfl
  | 12, _ => exact rfl
  | 13, _ => exact rfl
  | 14, _ => exact rfl
  | 15, _ => exact rfl
  | 16, _ => exact rfl
  | 17, _ => exact rfl
  | 18, _ => exact rfl
  | 19, _ => exact rfl
  | 20, _ => exact rfl
  | 21, _ => exact rfl
  | 22, _ => exact rfl
  | 23, _ => exact rfl
  | 24, _ => exact rfl
  | 25, _ => exact rfl
  | 26, _ => exact rfl
  | 27, _ => exact rfl
  | 28, _ => exact rfl
  | 29, _ => exact rfl
  | 30, _ => exact rfl
  | 31, _ => exact rfl
  | 32, _ => exact rfl
  | 33, _ => exact rfl
  | 34, _ => exact rfl
  | 35, _ => exact rfl
  | 36, _ => exact rfl
  | 37, _ => exact rfl
  | 38, _ => exact rfl
  | 39, _ => exact rfl
  | 40, _ => exact rfl
  | 41, _ => exact rfl
  | 42, _ => exact rfl
  | 43, _ => exact rfl
  | 44, _ => exact rfl
  | 45, _ => exact rfl
  | 46, _ => exact rfl
  | 47, _ => exact rfl
  | 48, _ => exact rfl
  | 49, _ => exact rfl
  | 50, _ => exact rfl
  | 51, _ => exact rfl
  | 52, _ => exact rfl
  | 53, _ => exact rfl
  | 54, _ => exact rfl
  | 55, _ => exact rfl
  | 56, _ => exact rfl
  | 57, _ => exact rfl
  | 58, _ => exact rfl
  | 59, _ => exact rfl
  | 60, _ => exact rfl
  | 61, _ => exact rfl
  | 62, _ => exact rfl
  | 63, _ => exact rfl
  | 64, _ => exact rfl
  | 65, _ => exact rfl
  | 66, _ => exact rfl
  | 67, _ => exact rfl
  | 68, _ => exact rfl
  | 69, _ => exact rfl
  | 70, _ => exact rfl
  | 71, _ => exact rfl
  | 72, _ => exact rfl
  | 73, _ => exact rfl
  | 74, _ => exact rfl
  | 75, _ => exact rfl
  | 76, _ => exact rfl
  | 77, _ => exact rfl
  | 78, _ => exact rfl
  | 79, _ => exact rfl
  | 80, _ => exact rfl
  | 81, _ => exact rfl
  | 82, _ => exact rfl
  | 83, _ => exact rfl
  | 84, _ => exact rfl
  | 85, _ => exact rfl
  | 86, _ => exact rfl
  | 87, _ => exact rfl
  | 88, _ => exact rfl
  | 89, _ => exact rfl
  | 90, _ => exact rfl
  | 91, _ => exact rfl
  | 92, _ => exact rfl
  | 93, _ => exact rfl
  | 94, _ => exact rfl
  | 95, _ => exact rfl
  | 96, _ => exact rfl
  | 97, _ => exact rfl
  | 98, _ => exact rfl
  | 99, _ => exact rfl
  | 100, _ => exact rfl
  | 101, _ => exact rfl
  | 102, _ => exact rfl
  | 103, _ => exact rfl
  | 104, _ => exact rfl
  | 105, _ => exact rfl
  | 106, _ => exact rfl
  | 107, _ => exact rfl
  | 108, _ => exact rfl
  | 109, _ => exact rfl
  | 110, _ => exact rfl
  | 111, _ => exact rfl
  | 112, _ => exact rfl
  | 113, _ => exact rfl
  | 114, _ => exact rfl
  | 115, _ => exact rfl
  | 116, _ => exact rfl
  | 117, _ => exact rfl
  | 118, _ => exact rfl
  | 119, _ => exact rfl
  | 120, _ => exact rfl
  | 121, _ => exact rfl
  | 122, _ => exact rfl
  | 123, _ => exact rfl
  | n + 124, h => exact absurd h (by omega)
