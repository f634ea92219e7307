/-- the cells of a new DomainHouse -/
def tC : Nat → sE := fun j => match j with
  | 0 => .inr (11, [.ref 1, .ref 2, .ref 3, .ref 6, .ref 21, .ref 23, .ref 32, .ref 76, .ref 87, .ref 94, .int 0, .int 0])
  | 1 => .inl (0, 1000, fun _ => .int 0)
  | 2 => .inl (0, 20, fun _ => .int 0)
  | 3 => .inr (7, [.ref 4, .ref 5, .int 0, .int 0, .int 0, .int 0, .int 0, .int 0, .int 0, .int (-1), .int 0, .int 0])
  | 4 => .inl (0, 20, fun _ => .int 0)
  | 5 => .inl (0, 8, fun _ => .int 0)
  | 6 => .inr (10, [.ref 7, .ref 8, .ref 9, .ref 10, .ref 11, .ref 12, .ref 13, .ref 14, .ref 15, .ref 16, .ref 17, .ref 18, .ref 19, .ref 20, .int 0, .int 0, .int 0, .int 0, .int 0])
  | 7 => .inl (0, 10, fun _ => .int 0)
  | 8 => .inl (0, 10, fun _ => .int 0)
  | 9 => .inl (0, 10, fun _ => .int 0)
  | 10 => .inl (5, 10, fun _ => .null)
  | 11 => .inl (6, 20, fun _ => .null)
  | 12 => .inl (0, 10, fun _ => .int 0)
  | 13 => .inl (0, 10, fun _ => .int 0)
  | 14 => .inl (0, 30, fun _ => .int 0)
  | 15 => .inl (0, 30, fun _ => .int 0)
  | 16 => .inl (0, 30, fun _ => .int 0)
  | 17 => .inl (0, 30, fun _ => .int 0)
  | 18 => .inl (0, 30, fun _ => .int 0)
  | 19 => .inl (0, 30, fun _ => .int 0)
  | 20 => .inl (0, 30, fun _ => .int 0)
  | 21 => .inr (1, [.ref 6, .ref 22, .null, .int 0, .int 0, .int 0, .int 0, .int 0, .int 0])
  | 22 => .inl (7, 12, fun _ => .null)
  | 23 => .inr (6, [.ref 24, .ref 25, .ref 26, .ref 27, .ref 28, .ref 29, .ref 30, .ref 31, .int 0, .int 0, .int 0, .int 0, .int 0, .int 0, .int 0, .int 0, .long 0, .long 0, .int 0, .int 0])
  | 24 => .inl (0, 1001, fun _ => .int 0)
  | 25 => .inl (0, 1001, fun _ => .int 0)
  | 26 => .inl (0, 1001, fun _ => .int 0)
  | 27 => .inl (0, 2000, fun _ => .int 0)
  | 28 => .inl (0, 40, fun _ => .int 0)
  | 29 => .inl (1, 40, fun _ => .long 0)
  | 30 => .inl (1, 250, fun _ => .long 0)
  | 31 => .inl (1, 250, fun _ => .long 0)
  | 32 => .inr (8, [.ref 6, .ref 21, .ref 33, .ref 34, .ref 35, .ref 66, .ref 67, .ref 70, .ref 73, .int 0, .int 0, .int 0, .int 0])
  | 33 => .inl (0, 800, fun _ => .int 0)
  | 34 => .inl (0, 800, sFill 800 (.int (-1)) (fun _ => .int 0))
  | 35 => .inl (4, 10, updV (updV (updV (updV (updV (updV (updV (updV (updV (updV (fun _ => .null) 0 (.ref 36)) 1 (.ref 39)) 2 (.ref 42)) 3 (.ref 45)) 4 (.ref 48)) 5 (.ref 51)) 6 (.ref 54)) 7 (.ref 57)) 8 (.ref 60)) 9 (.ref 63))
  | 36 => .inr (7, [.ref 37, .ref 38, .int 0, .int 0, .int 0, .int 0, .int 0, .int 0, .int 0, .int (-1), .int 0, .int 0])
  | 37 => .inl (0, 20, fun _ => .int 0)
  | 38 => .inl (0, 8, fun _ => .int 0)
  | 39 => .inr (7, [.ref 40, .ref 41, .int 0, .int 0, .int 0, .int 0, .int 0, .int 0, .int 0, .int (-1), .int 0, .int 0])
  | 40 => .inl (0, 20, fun _ => .int 0)
  | 41 => .inl (0, 8, fun _ => .int 0)
  | 42 => .inr (7, [.ref 43, .ref 44, .int 0, .int 0, .int 0, .int 0, .int 0, .int 0, .int 0, .int (-1), .int 0, .int 0])
  | 43 => .inl (0, 20, fun _ => .int 0)
  | 44 => .inl (0, 8, fun _ => .int 0)
  | 45 => .inr (7, [.ref 46, .ref 47, .int 0, .int 0, .int 0, .int 0, .int 0, .int 0, .int 0, .int (-1), .int 0, .int 0])
  | 46 => .inl (0, 20, fun _ => .int 0)
  | 47 => .inl (0, 8, fun _ => .int 0)
  | 48 => .inr (7, [.ref 49, .ref 50, .int 0, .int 0, .int 0, .int 0, .int 0, .int 0, .int 0, .int (-1), .int 0, .int 0])
  | 49 => .inl (0, 20, fun _ => .int 0)
  | 50 => .inl (0, 8, fun _ => .int 0)
  | 51 => .inr (7, [.ref 52, .ref 53, .int 0, .int 0, .int 0, .int 0, .int 0, .int 0, .int 0, .int (-1), .int 0, .int 0])
  | 52 => .inl (0, 20, fun _ => .int 0)
  | 53 => .inl (0, 8, fun _ => .int 0)
  | 54 => .inr (7, [.ref 55, .ref 56, .int 0, .int 0, .int 0, .int 0, .int 0, .int 0, .int 0, .int (-1), .int 0, .int 0])
  | 55 => .inl (0, 20, fun _ => .int 0)
  | 56 => .inl (0, 8, fun _ => .int 0)
  | 57 => .inr (7, [.ref 58, .ref 59, .int 0, .int 0, .int 0, .int 0, .int 0, .int 0, .int 0, .int (-1), .int 0, .int 0])
  | 58 => .inl (0, 20, fun _ => .int 0)
  | 59 => .inl (0, 8, fun _ => .int 0)
  | 60 => .inr (7, [.ref 61, .ref 62, .int 0, .int 0, .int 0, .int 0, .int 0, .int 0, .int 0, .int (-1), .int 0, .int 0])
  | 61 => .inl (0, 20, fun _ => .int 0)
  | 62 => .inl (0, 8, fun _ => .int 0)
  | 63 => .inr (7, [.ref 64, .ref 65, .int 0, .int 0, .int 0, .int 0, .int 0, .int 0, .int 0, .int (-1), .int 0, .int 0])
  | 64 => .inl (0, 20, fun _ => .int 0)
  | 65 => .inl (0, 8, fun _ => .int 0)
  | 66 => .inl (0, 10, fun _ => .int 0)
  | 67 => .inr (7, [.ref 68, .ref 69, .int 0, .int 0, .int 0, .int 0, .int 0, .int 0, .int 0, .int (-1), .int 0, .int 0])
  | 68 => .inl (0, 20, fun _ => .int 0)
  | 69 => .inl (0, 8, fun _ => .int 0)
  | 70 => .inr (7, [.ref 71, .ref 72, .int 0, .int 0, .int 0, .int 0, .int 0, .int 0, .int 0, .int (-1), .int 0, .int 0])
  | 71 => .inl (0, 20, fun _ => .int 0)
  | 72 => .inl (0, 8, fun _ => .int 0)
  | 73 => .inr (7, [.ref 74, .ref 75, .int 0, .int 0, .int 0, .int 0, .int 0, .int 0, .int 0, .int (-1), .int 0, .int 0])
  | 74 => .inl (0, 20, fun _ => .int 0)
  | 75 => .inl (0, 8, fun _ => .int 0)
  | 76 => .inr (3, [.ref 77, .ref 78, .ref 79, .ref 80, .null, .int 0, .int 0, .int 0, .int 0, .ref 81, .ref 84, .ref 85, .ref 86, .int 0, .int 0, .int 0, .int 0])
  | 77 => .inl (0, 256, fun _ => .int 0)
  | 78 => .inl (0, 256, fun _ => .int 0)
  | 79 => .inl (0, 8, fun _ => .int 0)
  | 80 => .inl (0, 4, updV (updV (updV (updV (fun _ => .int 0) 0 (.int (-99999999))) 1 (.int (-99999999))) 2 (.int (-99999999))) 3 (.int (-99999999)))
  | 81 => .inr (7, [.ref 82, .ref 83, .int 0, .int 0, .int 0, .int 0, .int 0, .int 0, .int 0, .int (-1), .int 0, .int 0])
  | 82 => .inl (0, 20, fun _ => .int 0)
  | 83 => .inl (0, 8, fun _ => .int 0)
  | 84 => .inl (0, 1000, fun _ => .int 0)
  | 85 => .inl (0, 1000, fun _ => .int 0)
  | 86 => .inl (0, 256, fun _ => .int 0)
  | 87 => .inr (2, [.ref 6, .ref 88, .ref 90, .ref 91, .ref 92, .ref 93, .int 0, .int 0, .ref 89, .int 0, .int 0])
  | 88 => .inl (0, 11, fun _ => .int 0)
  | 89 => .inl (0, 11, fun _ => .int 0)
  | 90 => .inl (0, 16, fun _ => .int 0)
  | 91 => .inl (0, 16, fun _ => .int 0)
  | 92 => .inl (0, 16, fun _ => .int 0)
  | 93 => .inl (1, 20, fun _ => .long 0)
  | 94 => .inr (4, [.ref 96, .ref 97, .ref 98, .ref 99, .ref 100, .ref 101, .ref 102, .ref 103, .ref 104, .int 0, .int 0, .int 0, .ref 95, .ref 105, .int 0])
  | 95 => .inl (0, 7, fun _ => .int 0)
  | 96 => .inl (0, 245, fun _ => .int 0)
  | 97 => .inl (0, 35, fun _ => .int 0)
  | 98 => .inl (0, 35, fun _ => .int 0)
  | 99 => .inl (0, 35, fun _ => .int 0)
  | 100 => .inl (0, 7, fun _ => .int 0)
  | 101 => .inl (0, 7, fun _ => .int 0)
  | 102 => .inl (0, 16, fun _ => .int 0)
  | 103 => .inl (0, 16, fun _ => .int 0)
  | 104 => .inl (2, 16, fun _ => .int 0)
  | 105 => .inl (0, 4, fun _ => .int 0)
  | _ => .inr (0, [])
set_option maxHeartbeats 40000000 in
set_option maxRecDepth 100000 in
theorem ctorC (l : Launch) (D : va_G) (c : Nat → ClassId) (H0 : Heap) (sa : Nat × Nat × (Nat → Int32)) : sC (gG l D c H0 sa) mX11_init 20 105 12522 [.ref 0] (1, fun _ => .inr (11, zX11)) (fun r hp => r = none ∧ hp.1 = 106 ∧ ∀ j, j < 106 → hp.2 j = tC j) := by
  refine sC.of rfl (by decide) (le_t rfl) ?_
  refine sv_aload_n (pc := 0) dX11_init_0 rfl rfl ?_
  refine sv_objinit (pc := 1) dX11_init_1 wM_X11_1 wV_obj wK_obj ⟨le_t rfl, le_t rfl⟩ (le_t rfl) ?_
  refine sv_aload_n (pc := 4) dX11_init_4 rfl rfl ?_
  refine sv_sipush (pc := 5) (v := 1000) dX11_init_5 (by decide) ?_
  refine sw_newarray (pc := 8) (kd := 0) (a := 1) (n1 := 2) (N := 1000) (ce1 := 1) (sl1 := 1000) (v := .int 0) dX11_init_8 rfl wA_int rfl (fun U => sI_Cond_int U _) (by decide) (by decide) rfl (fun _ => rfl) rfl rfl rfl rfl rfl rfl ?_
  refine sw_putfinal (pc := 10) dX11_init_10 (gCX11 _ _ _ _ _) 0 (by decide) wF_X11_9 rfl rfl rfl rfl rfl (fun _ => rfl) (fun _ => rfl) rfl ?_
  refine sv_aload_n (pc := 13) dX11_init_13 rfl rfl ?_
  refine sv_bipush (pc := 14) (v := 20) dX11_init_14 (by decide) ?_
  refine sw_newarray (pc := 16) (kd := 0) (a := 2) (n1 := 3) (N := 20) (ce1 := 2) (sl1 := 1020) (v := .int 0) dX11_init_16 rfl wA_int rfl (fun U => sI_Cond_int U _) (by decide) (by decide) rfl (fun _ => rfl) rfl rfl rfl rfl rfl rfl ?_
  refine sw_putfinal (pc := 18) dX11_init_18 (gCX11 _ _ _ _ _) 1 (by decide) wF_X11_13 rfl rfl rfl rfl rfl (fun _ => rfl) (fun _ => rfl) rfl ?_
  refine sv_aload_n (pc := 21) dX11_init_21 rfl rfl ?_
  refine sw_new (pc := 22) (a := 3) (n1 := 4) (ce1 := 3) (sl1 := 1032) (fs := zX7) dX11_init_22 (gCX7 _ _ _ _ _) wC_X11_16 wN_X7 wI_X7 zX7_ok rfl rfl rfl rfl rfl rfl ?_
  refine sv_dup (pc := 25) dX11_init_25 rfl ?_
  refine sv_callI (pc := 26) (M' := mX7_init) (d' := 19) (C' := 2) (S' := 28) (av := []) ?_ (gOk _ _ _ _ _) dX11_init_26 (tX7_init _ _ _ _ _) rfl rfl wV_X7_init wM_X11_18 ⟨le_t rfl, le_t rfl⟩ ⟨le_t rfl, le_t rfl⟩ rfl (le_t rfl) (fun _ _ h => h)
  refine sC.of rfl (by decide) (le_t rfl) ?_
  refine sv_aload_n (pc := 0) dX7_init_0 rfl rfl ?_
  refine sv_objinit (pc := 1) dX7_init_1 wM_X7_3 wV_obj wK_obj ⟨le_t rfl, le_t rfl⟩ (le_t rfl) ?_
  refine sv_aload_n (pc := 4) dX7_init_4 rfl rfl ?_
  refine sv_bipush (pc := 5) (v := 20) dX7_init_5 (by decide) ?_
  refine sw_newarray (pc := 7) (kd := 0) (a := 4) (n1 := 5) (N := 20) (ce1 := 1) (sl1 := 20) (v := .int 0) dX7_init_7 rfl wA_int rfl (fun U => sI_Cond_int U _) (by decide) (by decide) rfl (fun _ => rfl) rfl rfl rfl rfl rfl rfl ?_
  refine sw_putfinal (pc := 9) dX7_init_9 (gCX7 _ _ _ _ _) 0 (by decide) wF_X7_9 rfl rfl rfl rfl rfl (fun _ => rfl) (fun _ => rfl) rfl ?_
  refine sv_aload_n (pc := 12) dX7_init_12 rfl rfl ?_
  refine sv_bipush (pc := 13) (v := 8) dX7_init_13 (by decide) ?_
  refine sw_newarray (pc := 15) (kd := 0) (a := 5) (n1 := 6) (N := 8) (ce1 := 2) (sl1 := 28) (v := .int 0) dX7_init_15 rfl wA_int rfl (fun U => sI_Cond_int U _) (by decide) (by decide) rfl (fun _ => rfl) rfl rfl rfl rfl rfl rfl ?_
  refine sw_putfinal (pc := 17) dX7_init_17 (gCX7 _ _ _ _ _) 1 (by decide) wF_X7_15 rfl rfl rfl rfl rfl (fun _ => rfl) (fun _ => rfl) rfl ?_
  refine sv_aload_n (pc := 20) dX7_init_20 rfl rfl ?_
  refine sv_iconst (pc := 21) (v := (-1)) dX7_init_21 (by decide) ?_
  refine sw_putfield (pc := 22) dX7_init_22 (gCX7 _ _ _ _ _) 9 (by decide) wF_X7_18 rfl rfl rfl (fun _ => rfl) (fun _ => rfl) rfl ?_
  refine sv_vret (pc := 25) dX7_init_25 rfl (le_t rfl) (le_t rfl) ?_
  refine sw_putfinal (pc := 29) dX11_init_29 (gCX11 _ _ _ _ _) 2 (by decide) wF_X11_19 rfl rfl rfl rfl rfl (fun _ => rfl) (fun _ => rfl) rfl ?_
  refine sv_aload_n (pc := 32) dX11_init_32 rfl rfl ?_
  refine sw_new (pc := 33) (a := 6) (n1 := 7) (ce1 := 6) (sl1 := 1079) (fs := zX10) dX11_init_33 (gCX10 _ _ _ _ _) wC_X11_23 wN_X10 wI_X10 zX10_ok rfl rfl rfl rfl rfl rfl ?_
  refine sv_dup (pc := 36) dX11_init_36 rfl ?_
  refine sv_callI (pc := 37) (M' := mX10_init) (d' := 19) (C' := 14) (S' := 290) (av := []) ?_ (gOk _ _ _ _ _) dX11_init_37 (tX10_init _ _ _ _ _) rfl rfl wV_X10_init wM_X11_25 ⟨le_t rfl, le_t rfl⟩ ⟨le_t rfl, le_t rfl⟩ rfl (le_t rfl) (fun _ _ h => h)
  refine sC.of rfl (by decide) (le_t rfl) ?_
  refine sv_aload_n (pc := 0) dX10_init_0 rfl rfl ?_
  refine sv_objinit (pc := 1) dX10_init_1 wM_X10_3 wV_obj wK_obj ⟨le_t rfl, le_t rfl⟩ (le_t rfl) ?_
  refine sv_aload_n (pc := 4) dX10_init_4 rfl rfl ?_
  refine sv_bipush (pc := 5) (v := 10) dX10_init_5 (by decide) ?_
  refine sw_newarray (pc := 7) (kd := 0) (a := 7) (n1 := 8) (N := 10) (ce1 := 1) (sl1 := 10) (v := .int 0) dX10_init_7 rfl wA_int rfl (fun U => sI_Cond_int U _) (by decide) (by decide) rfl (fun _ => rfl) rfl rfl rfl rfl rfl rfl ?_
  refine sw_putfinal (pc := 9) dX10_init_9 (gCX10 _ _ _ _ _) 0 (by decide) wF_X10_9 rfl rfl rfl rfl rfl (fun _ => rfl) (fun _ => rfl) rfl ?_
  refine sv_aload_n (pc := 12) dX10_init_12 rfl rfl ?_
  refine sv_bipush (pc := 13) (v := 10) dX10_init_13 (by decide) ?_
  refine sw_newarray (pc := 15) (kd := 0) (a := 8) (n1 := 9) (N := 10) (ce1 := 2) (sl1 := 20) (v := .int 0) dX10_init_15 rfl wA_int rfl (fun U => sI_Cond_int U _) (by decide) (by decide) rfl (fun _ => rfl) rfl rfl rfl rfl rfl rfl ?_
  refine sw_putfinal (pc := 17) dX10_init_17 (gCX10 _ _ _ _ _) 1 (by decide) wF_X10_15 rfl rfl rfl rfl rfl (fun _ => rfl) (fun _ => rfl) rfl ?_
  refine sv_aload_n (pc := 20) dX10_init_20 rfl rfl ?_
  refine sv_bipush (pc := 21) (v := 10) dX10_init_21 (by decide) ?_
  refine sw_newarray (pc := 23) (kd := 0) (a := 9) (n1 := 10) (N := 10) (ce1 := 3) (sl1 := 30) (v := .int 0) dX10_init_23 rfl wA_int rfl (fun U => sI_Cond_int U _) (by decide) (by decide) rfl (fun _ => rfl) rfl rfl rfl rfl rfl rfl ?_
  refine sw_putfinal (pc := 25) dX10_init_25 (gCX10 _ _ _ _ _) 2 (by decide) wF_X10_18 rfl rfl rfl rfl rfl (fun _ => rfl) (fun _ => rfl) rfl ?_
  refine sv_aload_n (pc := 28) dX10_init_28 rfl rfl ?_
  refine sv_bipush (pc := 29) (v := 10) dX10_init_29 (by decide) ?_
  refine sw_anewarray (pc := 31) (kd := 5) (a := 10) (n1 := 11) (N := 10) (ce1 := 4) (sl1 := 40) dX10_init_31 wC_X10_21 rfl (by decide) (by decide) rfl rfl rfl rfl rfl rfl rfl ?_
  refine sw_putfinal (pc := 34) dX10_init_34 (gCX10 _ _ _ _ _) 3 (by decide) wF_X10_23 rfl rfl rfl rfl rfl (fun _ => rfl) (fun _ => rfl) rfl ?_
  refine sv_aload_n (pc := 37) dX10_init_37 rfl rfl ?_
  refine sv_bipush (pc := 38) (v := 20) dX10_init_38 (by decide) ?_
  refine sw_anewarray (pc := 40) (kd := 6) (a := 11) (n1 := 12) (N := 20) (ce1 := 5) (sl1 := 60) dX10_init_40 wC_X10_27 rfl (by decide) (by decide) rfl rfl rfl rfl rfl rfl rfl ?_
  refine sw_putfinal (pc := 43) dX10_init_43 (gCX10 _ _ _ _ _) 4 (by decide) wF_X10_29 rfl rfl rfl rfl rfl (fun _ => rfl) (fun _ => rfl) rfl ?_
  refine sv_aload_n (pc := 46) dX10_init_46 rfl rfl ?_
  refine sv_bipush (pc := 47) (v := 10) dX10_init_47 (by decide) ?_
  refine sw_newarray (pc := 49) (kd := 0) (a := 12) (n1 := 13) (N := 10) (ce1 := 6) (sl1 := 70) (v := .int 0) dX10_init_49 rfl wA_int rfl (fun U => sI_Cond_int U _) (by decide) (by decide) rfl (fun _ => rfl) rfl rfl rfl rfl rfl rfl ?_
  refine sw_putfinal (pc := 51) dX10_init_51 (gCX10 _ _ _ _ _) 5 (by decide) wF_X10_33 rfl rfl rfl rfl rfl (fun _ => rfl) (fun _ => rfl) rfl ?_
  refine sv_aload_n (pc := 54) dX10_init_54 rfl rfl ?_
  refine sv_bipush (pc := 55) (v := 10) dX10_init_55 (by decide) ?_
  refine sw_newarray (pc := 57) (kd := 0) (a := 13) (n1 := 14) (N := 10) (ce1 := 7) (sl1 := 80) (v := .int 0) dX10_init_57 rfl wA_int rfl (fun U => sI_Cond_int U _) (by decide) (by decide) rfl (fun _ => rfl) rfl rfl rfl rfl rfl rfl ?_
  refine sw_putfinal (pc := 59) dX10_init_59 (gCX10 _ _ _ _ _) 6 (by decide) wF_X10_36 rfl rfl rfl rfl rfl (fun _ => rfl) (fun _ => rfl) rfl ?_
  refine sv_aload_n (pc := 62) dX10_init_62 rfl rfl ?_
  refine sv_bipush (pc := 63) (v := 30) dX10_init_63 (by decide) ?_
  refine sw_newarray (pc := 65) (kd := 0) (a := 14) (n1 := 15) (N := 30) (ce1 := 8) (sl1 := 110) (v := .int 0) dX10_init_65 rfl wA_int rfl (fun U => sI_Cond_int U _) (by decide) (by decide) rfl (fun _ => rfl) rfl rfl rfl rfl rfl rfl ?_
  refine sw_putfinal (pc := 67) dX10_init_67 (gCX10 _ _ _ _ _) 7 (by decide) wF_X10_39 rfl rfl rfl rfl rfl (fun _ => rfl) (fun _ => rfl) rfl ?_
  refine sv_aload_n (pc := 70) dX10_init_70 rfl rfl ?_
  refine sv_bipush (pc := 71) (v := 30) dX10_init_71 (by decide) ?_
  refine sw_newarray (pc := 73) (kd := 0) (a := 15) (n1 := 16) (N := 30) (ce1 := 9) (sl1 := 140) (v := .int 0) dX10_init_73 rfl wA_int rfl (fun U => sI_Cond_int U _) (by decide) (by decide) rfl (fun _ => rfl) rfl rfl rfl rfl rfl rfl ?_
  refine sw_putfinal (pc := 75) dX10_init_75 (gCX10 _ _ _ _ _) 8 (by decide) wF_X10_42 rfl rfl rfl rfl rfl (fun _ => rfl) (fun _ => rfl) rfl ?_
  refine sv_aload_n (pc := 78) dX10_init_78 rfl rfl ?_
  refine sv_bipush (pc := 79) (v := 30) dX10_init_79 (by decide) ?_
  refine sw_newarray (pc := 81) (kd := 0) (a := 16) (n1 := 17) (N := 30) (ce1 := 10) (sl1 := 170) (v := .int 0) dX10_init_81 rfl wA_int rfl (fun U => sI_Cond_int U _) (by decide) (by decide) rfl (fun _ => rfl) rfl rfl rfl rfl rfl rfl ?_
  refine sw_putfinal (pc := 83) dX10_init_83 (gCX10 _ _ _ _ _) 9 (by decide) wF_X10_45 rfl rfl rfl rfl rfl (fun _ => rfl) (fun _ => rfl) rfl ?_
  refine sv_aload_n (pc := 86) dX10_init_86 rfl rfl ?_
  refine sv_bipush (pc := 87) (v := 30) dX10_init_87 (by decide) ?_
  refine sw_newarray (pc := 89) (kd := 0) (a := 17) (n1 := 18) (N := 30) (ce1 := 11) (sl1 := 200) (v := .int 0) dX10_init_89 rfl wA_int rfl (fun U => sI_Cond_int U _) (by decide) (by decide) rfl (fun _ => rfl) rfl rfl rfl rfl rfl rfl ?_
  refine sw_putfinal (pc := 91) dX10_init_91 (gCX10 _ _ _ _ _) 10 (by decide) wF_X10_48 rfl rfl rfl rfl rfl (fun _ => rfl) (fun _ => rfl) rfl ?_
  refine sv_aload_n (pc := 94) dX10_init_94 rfl rfl ?_
  refine sv_bipush (pc := 95) (v := 30) dX10_init_95 (by decide) ?_
  refine sw_newarray (pc := 97) (kd := 0) (a := 18) (n1 := 19) (N := 30) (ce1 := 12) (sl1 := 230) (v := .int 0) dX10_init_97 rfl wA_int rfl (fun U => sI_Cond_int U _) (by decide) (by decide) rfl (fun _ => rfl) rfl rfl rfl rfl rfl rfl ?_
  refine sw_putfinal (pc := 99) dX10_init_99 (gCX10 _ _ _ _ _) 11 (by decide) wF_X10_51 rfl rfl rfl rfl rfl (fun _ => rfl) (fun _ => rfl) rfl ?_
  refine sv_aload_n (pc := 102) dX10_init_102 rfl rfl ?_
  refine sv_bipush (pc := 103) (v := 30) dX10_init_103 (by decide) ?_
  refine sw_newarray (pc := 105) (kd := 0) (a := 19) (n1 := 20) (N := 30) (ce1 := 13) (sl1 := 260) (v := .int 0) dX10_init_105 rfl wA_int rfl (fun U => sI_Cond_int U _) (by decide) (by decide) rfl (fun _ => rfl) rfl rfl rfl rfl rfl rfl ?_
  refine sw_putfinal (pc := 107) dX10_init_107 (gCX10 _ _ _ _ _) 12 (by decide) wF_X10_54 rfl rfl rfl rfl rfl (fun _ => rfl) (fun _ => rfl) rfl ?_
  refine sv_aload_n (pc := 110) dX10_init_110 rfl rfl ?_
  refine sv_bipush (pc := 111) (v := 30) dX10_init_111 (by decide) ?_
  refine sw_newarray (pc := 113) (kd := 0) (a := 20) (n1 := 21) (N := 30) (ce1 := 14) (sl1 := 290) (v := .int 0) dX10_init_113 rfl wA_int rfl (fun U => sI_Cond_int U _) (by decide) (by decide) rfl (fun _ => rfl) rfl rfl rfl rfl rfl rfl ?_
  refine sw_putfinal (pc := 115) dX10_init_115 (gCX10 _ _ _ _ _) 13 (by decide) wF_X10_57 rfl rfl rfl rfl rfl (fun _ => rfl) (fun _ => rfl) rfl ?_
  refine sv_vret (pc := 118) dX10_init_118 rfl (le_t rfl) (le_t rfl) ?_
  refine sw_putfinal (pc := 40) dX11_init_40 (gCX11 _ _ _ _ _) 3 (by decide) wF_X11_26 rfl rfl rfl rfl rfl (fun _ => rfl) (fun _ => rfl) rfl ?_
  refine sv_aload_n (pc := 43) dX11_init_43 rfl rfl ?_
  refine sw_new (pc := 44) (a := 21) (n1 := 22) (ce1 := 21) (sl1 := 1378) (fs := zX1) dX11_init_44 (gCX1 _ _ _ _ _) wC_X11_30 wN_X1 wI_X1 zX1_ok rfl rfl rfl rfl rfl rfl ?_
  refine sv_dup (pc := 47) dX11_init_47 rfl ?_
  refine sv_aload_n (pc := 48) dX11_init_48 rfl rfl ?_
  refine sw_getfield (pc := 49) dX11_init_49 (gCX11 _ _ _ _ _) 3 (by decide) wF_X11_26 rfl rfl rfl ?_
  refine sv_callI (pc := 52) (M' := mX1_init) (d' := 19) (C' := 1) (S' := 12) (av := [.ref 6]) ?_ (gOk _ _ _ _ _) dX11_init_52 (tX1_init _ _ _ _ _) rfl rfl wV_X1_init wM_X11_32 ⟨le_t rfl, le_t rfl⟩ ⟨le_t rfl, le_t rfl⟩ rfl (le_t rfl) (fun _ _ h => h)
  refine sC.of rfl (by decide) (le_t rfl) ?_
  refine sv_aload_n (pc := 0) dX1_init_0 rfl rfl ?_
  refine sv_objinit (pc := 1) dX1_init_1 wM_X1_3 wV_obj wK_obj ⟨le_t rfl, le_t rfl⟩ (le_t rfl) ?_
  refine sv_aload_n (pc := 4) dX1_init_4 rfl rfl ?_
  refine sv_aload_n (pc := 5) dX1_init_5 rfl rfl ?_
  refine sw_putfinal (pc := 6) dX1_init_6 (gCX1 _ _ _ _ _) 0 (by decide) wF_X1_9 rfl rfl rfl rfl rfl (fun _ => rfl) (fun _ => rfl) rfl ?_
  refine sv_aload_n (pc := 9) dX1_init_9 rfl rfl ?_
  refine sv_bipush (pc := 10) (v := 12) dX1_init_10 (by decide) ?_
  refine sw_anewarray (pc := 12) (kd := 7) (a := 22) (n1 := 23) (N := 12) (ce1 := 1) (sl1 := 12) dX1_init_12 wC_X1_15 rfl (by decide) (by decide) rfl rfl rfl rfl rfl rfl rfl ?_
  refine sw_putfinal (pc := 15) dX1_init_15 (gCX1 _ _ _ _ _) 1 (by decide) wF_X1_17 rfl rfl rfl rfl rfl (fun _ => rfl) (fun _ => rfl) rfl ?_
  refine sv_vret (pc := 18) dX1_init_18 rfl (le_t rfl) (le_t rfl) ?_
  refine sw_putfinal (pc := 55) dX11_init_55 (gCX11 _ _ _ _ _) 4 (by decide) wF_X11_35 rfl rfl rfl rfl rfl (fun _ => rfl) (fun _ => rfl) rfl ?_
  refine sv_aload_n (pc := 58) dX11_init_58 rfl rfl ?_
  refine sw_new (pc := 59) (a := 23) (n1 := 24) (ce1 := 23) (sl1 := 1410) (fs := zX6) dX11_init_59 (gCX6 _ _ _ _ _) wC_X11_39 wN_X6 wI_X6 zX6_ok rfl rfl rfl rfl rfl rfl ?_
  refine sv_dup (pc := 62) dX11_init_62 rfl ?_
  refine sv_callI (pc := 63) (M' := mX6_init) (d' := 19) (C' := 8) (S' := 5583) (av := []) ?_ (gOk _ _ _ _ _) dX11_init_63 (tX6_init _ _ _ _ _) rfl rfl wV_X6_init wM_X11_41 ⟨le_t rfl, le_t rfl⟩ ⟨le_t rfl, le_t rfl⟩ rfl (le_t rfl) (fun _ _ h => h)
  refine sC.of rfl (by decide) (le_t rfl) ?_
  refine sv_aload_n (pc := 0) dX6_init_0 rfl rfl ?_
  refine sv_objinit (pc := 1) dX6_init_1 wM_X6_3 wV_obj wK_obj ⟨le_t rfl, le_t rfl⟩ (le_t rfl) ?_
  refine sv_aload_n (pc := 4) dX6_init_4 rfl rfl ?_
  refine sv_sipush (pc := 5) (v := 1001) dX6_init_5 (by decide) ?_
  refine sw_newarray (pc := 8) (kd := 0) (a := 24) (n1 := 25) (N := 1001) (ce1 := 1) (sl1 := 1001) (v := .int 0) dX6_init_8 rfl wA_int rfl (fun U => sI_Cond_int U _) (by decide) (by decide) rfl (fun _ => rfl) rfl rfl rfl rfl rfl rfl ?_
  refine sw_putfinal (pc := 10) dX6_init_10 (gCX6 _ _ _ _ _) 0 (by decide) wF_X6_9 rfl rfl rfl rfl rfl (fun _ => rfl) (fun _ => rfl) rfl ?_
  refine sv_aload_n (pc := 13) dX6_init_13 rfl rfl ?_
  refine sv_sipush (pc := 14) (v := 1001) dX6_init_14 (by decide) ?_
  refine sw_newarray (pc := 17) (kd := 0) (a := 25) (n1 := 26) (N := 1001) (ce1 := 2) (sl1 := 2002) (v := .int 0) dX6_init_17 rfl wA_int rfl (fun U => sI_Cond_int U _) (by decide) (by decide) rfl (fun _ => rfl) rfl rfl rfl rfl rfl rfl ?_
  refine sw_putfinal (pc := 19) dX6_init_19 (gCX6 _ _ _ _ _) 1 (by decide) wF_X6_15 rfl rfl rfl rfl rfl (fun _ => rfl) (fun _ => rfl) rfl ?_
  refine sv_aload_n (pc := 22) dX6_init_22 rfl rfl ?_
  refine sv_sipush (pc := 23) (v := 1001) dX6_init_23 (by decide) ?_
  refine sw_newarray (pc := 26) (kd := 0) (a := 26) (n1 := 27) (N := 1001) (ce1 := 3) (sl1 := 3003) (v := .int 0) dX6_init_26 rfl wA_int rfl (fun U => sI_Cond_int U _) (by decide) (by decide) rfl (fun _ => rfl) rfl rfl rfl rfl rfl rfl ?_
  refine sw_putfinal (pc := 28) dX6_init_28 (gCX6 _ _ _ _ _) 2 (by decide) wF_X6_18 rfl rfl rfl rfl rfl (fun _ => rfl) (fun _ => rfl) rfl ?_
  refine sv_aload_n (pc := 31) dX6_init_31 rfl rfl ?_
  refine sv_sipush (pc := 32) (v := 2000) dX6_init_32 (by decide) ?_
  refine sw_newarray (pc := 35) (kd := 0) (a := 27) (n1 := 28) (N := 2000) (ce1 := 4) (sl1 := 5003) (v := .int 0) dX6_init_35 rfl wA_int rfl (fun U => sI_Cond_int U _) (by decide) (by decide) rfl (fun _ => rfl) rfl rfl rfl rfl rfl rfl ?_
  refine sw_putfinal (pc := 37) dX6_init_37 (gCX6 _ _ _ _ _) 3 (by decide) wF_X6_21 rfl rfl rfl rfl rfl (fun _ => rfl) (fun _ => rfl) rfl ?_
  refine sv_aload_n (pc := 40) dX6_init_40 rfl rfl ?_
  refine sv_bipush (pc := 41) (v := 40) dX6_init_41 (by decide) ?_
  refine sw_newarray (pc := 43) (kd := 0) (a := 28) (n1 := 29) (N := 40) (ce1 := 5) (sl1 := 5043) (v := .int 0) dX6_init_43 rfl wA_int rfl (fun U => sI_Cond_int U _) (by decide) (by decide) rfl (fun _ => rfl) rfl rfl rfl rfl rfl rfl ?_
  refine sw_putfinal (pc := 45) dX6_init_45 (gCX6 _ _ _ _ _) 4 (by decide) wF_X6_24 rfl rfl rfl rfl rfl (fun _ => rfl) (fun _ => rfl) rfl ?_
  refine sv_aload_n (pc := 48) dX6_init_48 rfl rfl ?_
  refine sv_bipush (pc := 49) (v := 40) dX6_init_49 (by decide) ?_
  refine sw_newarray (pc := 51) (kd := 1) (a := 29) (n1 := 30) (N := 40) (ce1 := 6) (sl1 := 5083) (v := .long 0) dX6_init_51 rfl wA_long rfl (fun U => sI_Cond_long U _) (by decide) (by decide) rfl (fun _ => rfl) rfl rfl rfl rfl rfl rfl ?_
  refine sw_putfinal (pc := 53) dX6_init_53 (gCX6 _ _ _ _ _) 5 (by decide) wF_X6_27 rfl rfl rfl rfl rfl (fun _ => rfl) (fun _ => rfl) rfl ?_
  refine sv_aload_n (pc := 56) dX6_init_56 rfl rfl ?_
  refine sv_sipush (pc := 57) (v := 250) dX6_init_57 (by decide) ?_
  refine sw_newarray (pc := 60) (kd := 1) (a := 30) (n1 := 31) (N := 250) (ce1 := 7) (sl1 := 5333) (v := .long 0) dX6_init_60 rfl wA_long rfl (fun U => sI_Cond_long U _) (by decide) (by decide) rfl (fun _ => rfl) rfl rfl rfl rfl rfl rfl ?_
  refine sw_putfinal (pc := 62) dX6_init_62 (gCX6 _ _ _ _ _) 6 (by decide) wF_X6_31 rfl rfl rfl rfl rfl (fun _ => rfl) (fun _ => rfl) rfl ?_
  refine sv_aload_n (pc := 65) dX6_init_65 rfl rfl ?_
  refine sv_sipush (pc := 66) (v := 250) dX6_init_66 (by decide) ?_
  refine sw_newarray (pc := 69) (kd := 1) (a := 31) (n1 := 32) (N := 250) (ce1 := 8) (sl1 := 5583) (v := .long 0) dX6_init_69 rfl wA_long rfl (fun U => sI_Cond_long U _) (by decide) (by decide) rfl (fun _ => rfl) rfl rfl rfl rfl rfl rfl ?_
  refine sw_putfinal (pc := 71) dX6_init_71 (gCX6 _ _ _ _ _) 7 (by decide) wF_X6_34 rfl rfl rfl rfl rfl (fun _ => rfl) (fun _ => rfl) rfl ?_
  refine sv_vret (pc := 74) dX6_init_74 rfl (le_t rfl) (le_t rfl) ?_
  refine sw_putfinal (pc := 66) dX11_init_66 (gCX11 _ _ _ _ _) 5 (by decide) wF_X11_42 rfl rfl rfl rfl rfl (fun _ => rfl) (fun _ => rfl) rfl ?_
  refine sv_aload_n (pc := 69) dX11_init_69 rfl rfl ?_
  refine sw_new (pc := 70) (a := 32) (n1 := 33) (ce1 := 32) (sl1 := 7006) (fs := zX8) dX11_init_70 (gCX8 _ _ _ _ _) wC_X11_46 wN_X8 wI_X8 zX8_ok rfl rfl rfl rfl rfl rfl ?_
  refine sv_dup (pc := 73) dX11_init_73 rfl ?_
  refine sv_aload_n (pc := 74) dX11_init_74 rfl rfl ?_
  refine sw_getfield (pc := 75) dX11_init_75 (gCX11 _ _ _ _ _) 3 (by decide) wF_X11_26 rfl rfl rfl ?_
  refine sv_aload_n (pc := 78) dX11_init_78 rfl rfl ?_
  refine sw_getfield (pc := 79) dX11_init_79 (gCX11 _ _ _ _ _) 4 (by decide) wF_X11_35 rfl rfl rfl ?_
  refine sv_callI (pc := 82) (M' := mX8_init) (d' := 19) (C' := 43) (S' := 2140) (av := [.ref 6, .ref 21]) ?_ (gOk _ _ _ _ _) dX11_init_82 (tX8_init _ _ _ _ _) rfl rfl wV_X8_init wM_X11_48 ⟨le_t rfl, le_t rfl⟩ ⟨le_t rfl, le_t rfl⟩ rfl (le_t rfl) (fun _ _ h => h)
  refine sC.of rfl (by decide) (le_t rfl) ?_
  refine sv_aload_n (pc := 0) dX8_init_0 rfl rfl ?_
  refine sv_objinit (pc := 1) dX8_init_1 wM_X8_3 wV_obj wK_obj ⟨le_t rfl, le_t rfl⟩ (le_t rfl) ?_
  refine sv_aload_n (pc := 4) dX8_init_4 rfl rfl ?_
  refine sv_aload_n (pc := 5) dX8_init_5 rfl rfl ?_
  refine sw_putfinal (pc := 6) dX8_init_6 (gCX8 _ _ _ _ _) 0 (by decide) wF_X8_9 rfl rfl rfl rfl rfl (fun _ => rfl) (fun _ => rfl) rfl ?_
  refine sv_aload_n (pc := 9) dX8_init_9 rfl rfl ?_
  refine sv_aload_n (pc := 10) dX8_init_10 rfl rfl ?_
  refine sw_putfinal (pc := 11) dX8_init_11 (gCX8 _ _ _ _ _) 1 (by decide) wF_X8_15 rfl rfl rfl rfl rfl (fun _ => rfl) (fun _ => rfl) rfl ?_
  refine sv_aload_n (pc := 14) dX8_init_14 rfl rfl ?_
  refine sv_sipush (pc := 15) (v := 800) dX8_init_15 (by decide) ?_
  refine sw_newarray (pc := 18) (kd := 0) (a := 33) (n1 := 34) (N := 800) (ce1 := 1) (sl1 := 800) (v := .int 0) dX8_init_18 rfl wA_int rfl (fun U => sI_Cond_int U _) (by decide) (by decide) rfl (fun _ => rfl) rfl rfl rfl rfl rfl rfl ?_
  refine sw_putfinal (pc := 20) dX8_init_20 (gCX8 _ _ _ _ _) 2 (by decide) wF_X8_19 rfl rfl rfl rfl rfl (fun _ => rfl) (fun _ => rfl) rfl ?_
  refine sv_aload_n (pc := 23) dX8_init_23 rfl rfl ?_
  refine sv_sipush (pc := 24) (v := 800) dX8_init_24 (by decide) ?_
  refine sw_newarray (pc := 27) (kd := 0) (a := 34) (n1 := 35) (N := 800) (ce1 := 2) (sl1 := 1600) (v := .int 0) dX8_init_27 rfl wA_int rfl (fun U => sI_Cond_int U _) (by decide) (by decide) rfl (fun _ => rfl) rfl rfl rfl rfl rfl rfl ?_
  refine sw_putfinal (pc := 29) dX8_init_29 (gCX8 _ _ _ _ _) 3 (by decide) wF_X8_23 rfl rfl rfl rfl rfl (fun _ => rfl) (fun _ => rfl) rfl ?_
  refine sv_aload_n (pc := 32) dX8_init_32 rfl rfl ?_
  refine sw_getfield (pc := 33) dX8_init_33 (gCX8 _ _ _ _ _) 3 (by decide) wF_X8_23 rfl rfl rfl ?_
  refine sv_iconst (pc := 36) (v := (-1)) dX8_init_36 (by decide) ?_
  refine sv_callS (pc := 37) (c_fillI _ _ _ _ _ (d := 18) (lt_t rfl) rfl (by decide)) (gOk _ _ _ _ _) dX8_init_37 (tJ_fillI _ _ _ _ _) wS_J_fillI wM_X8_26 ⟨le_t rfl, le_t rfl⟩ ⟨le_t rfl, le_t rfl⟩ rfl (le_t rfl) ?_
  rintro _ _ ⟨rfl, rfl⟩
  refine sv_aload_n (pc := 40) dX8_init_40 rfl rfl ?_
  refine sv_bipush (pc := 41) (v := 10) dX8_init_41 (by decide) ?_
  refine sw_anewarray (pc := 43) (kd := 4) (a := 35) (n1 := 36) (N := 10) (ce1 := 3) (sl1 := 1610) dX8_init_43 wC_X8_32 rfl (by decide) (by decide) rfl rfl rfl rfl rfl rfl rfl ?_
  refine sw_putfinal (pc := 46) dX8_init_46 (gCX8 _ _ _ _ _) 4 (by decide) wF_X8_34 rfl rfl rfl rfl rfl (fun _ => rfl) (fun _ => rfl) rfl ?_
  refine sv_iconst (pc := 49) (v := 0) dX8_init_49 (by decide) ?_
  refine sv_istore_n (pc := 50) dX8_init_50 rfl (by decide) ?_
  refine sv_iload_n (pc := 51) dX8_init_51 rfl rfl ?_
  refine sv_bipush (pc := 52) (v := 10) dX8_init_52 (by decide) ?_
  refine sv_icmp_ge (pc := 54) (tgt := 76) dX8_init_54 (by decide) (fun h => absurd h (by decide)) (fun _ => ?_)
  refine sv_aload_n (pc := 57) dX8_init_57 rfl rfl ?_
  refine sw_getfield (pc := 58) dX8_init_58 (gCX8 _ _ _ _ _) 4 (by decide) wF_X8_34 rfl rfl rfl ?_
  refine sv_iload_n (pc := 61) dX8_init_61 rfl rfl ?_
  refine sw_new (pc := 62) (a := 36) (n1 := 37) (ce1 := 4) (sl1 := 1622) (fs := zX7) dX8_init_62 (gCX7 _ _ _ _ _) wC_X8_32 wN_X7 wI_X7 zX7_ok rfl rfl rfl rfl rfl rfl ?_
  refine sv_dup (pc := 65) dX8_init_65 rfl ?_
  refine sv_callI (pc := 66) (M' := mX7_init) (d' := 18) (C' := 2) (S' := 28) (av := []) ?_ (gOk _ _ _ _ _) dX8_init_66 (tX7_init _ _ _ _ _) rfl rfl wV_X7_init wM_X8_38 ⟨le_t rfl, le_t rfl⟩ ⟨le_t rfl, le_t rfl⟩ rfl (le_t rfl) (fun _ _ h => h)
  refine sC.of rfl (by decide) (le_t rfl) ?_
  refine sv_aload_n (pc := 0) dX7_init_0 rfl rfl ?_
  refine sv_objinit (pc := 1) dX7_init_1 wM_X7_3 wV_obj wK_obj ⟨le_t rfl, le_t rfl⟩ (le_t rfl) ?_
  refine sv_aload_n (pc := 4) dX7_init_4 rfl rfl ?_
  refine sv_bipush (pc := 5) (v := 20) dX7_init_5 (by decide) ?_
  refine sw_newarray (pc := 7) (kd := 0) (a := 37) (n1 := 38) (N := 20) (ce1 := 1) (sl1 := 20) (v := .int 0) dX7_init_7 rfl wA_int rfl (fun U => sI_Cond_int U _) (by decide) (by decide) rfl (fun _ => rfl) rfl rfl rfl rfl rfl rfl ?_
  refine sw_putfinal (pc := 9) dX7_init_9 (gCX7 _ _ _ _ _) 0 (by decide) wF_X7_9 rfl rfl rfl rfl rfl (fun _ => rfl) (fun _ => rfl) rfl ?_
  refine sv_aload_n (pc := 12) dX7_init_12 rfl rfl ?_
  refine sv_bipush (pc := 13) (v := 8) dX7_init_13 (by decide) ?_
  refine sw_newarray (pc := 15) (kd := 0) (a := 38) (n1 := 39) (N := 8) (ce1 := 2) (sl1 := 28) (v := .int 0) dX7_init_15 rfl wA_int rfl (fun U => sI_Cond_int U _) (by decide) (by decide) rfl (fun _ => rfl) rfl rfl rfl rfl rfl rfl ?_
  refine sw_putfinal (pc := 17) dX7_init_17 (gCX7 _ _ _ _ _) 1 (by decide) wF_X7_15 rfl rfl rfl rfl rfl (fun _ => rfl) (fun _ => rfl) rfl ?_
  refine sv_aload_n (pc := 20) dX7_init_20 rfl rfl ?_
  refine sv_iconst (pc := 21) (v := (-1)) dX7_init_21 (by decide) ?_
  refine sw_putfield (pc := 22) dX7_init_22 (gCX7 _ _ _ _ _) 9 (by decide) wF_X7_18 rfl rfl rfl (fun _ => rfl) (fun _ => rfl) rfl ?_
  refine sv_vret (pc := 25) dX7_init_25 rfl (le_t rfl) (le_t rfl) ?_
  refine sw_aastore (pc := 69) (k := 0) dX8_init_69 (gCX7 _ _ _ _ _) rfl rfl rfl (by decide) (by decide) rfl rfl rfl ?_
  refine sw_iinc (pc := 70) (v := 1) dX8_init_70 rfl (by decide) (by decide) ?_
  refine sv_goto (pc := 73) (tgt := 51) dX8_init_73 (by decide) ?_
  refine sv_iload_n (pc := 51) dX8_init_51 rfl rfl ?_
  refine sv_bipush (pc := 52) (v := 10) dX8_init_52 (by decide) ?_
  refine sv_icmp_ge (pc := 54) (tgt := 76) dX8_init_54 (by decide) (fun h => absurd h (by decide)) (fun _ => ?_)
  refine sv_aload_n (pc := 57) dX8_init_57 rfl rfl ?_
  refine sw_getfield (pc := 58) dX8_init_58 (gCX8 _ _ _ _ _) 4 (by decide) wF_X8_34 rfl rfl rfl ?_
  refine sv_iload_n (pc := 61) dX8_init_61 rfl rfl ?_
  refine sw_new (pc := 62) (a := 39) (n1 := 40) (ce1 := 7) (sl1 := 1662) (fs := zX7) dX8_init_62 (gCX7 _ _ _ _ _) wC_X8_32 wN_X7 wI_X7 zX7_ok rfl rfl rfl rfl rfl rfl ?_
  refine sv_dup (pc := 65) dX8_init_65 rfl ?_
  refine sv_callI (pc := 66) (M' := mX7_init) (d' := 18) (C' := 2) (S' := 28) (av := []) ?_ (gOk _ _ _ _ _) dX8_init_66 (tX7_init _ _ _ _ _) rfl rfl wV_X7_init wM_X8_38 ⟨le_t rfl, le_t rfl⟩ ⟨le_t rfl, le_t rfl⟩ rfl (le_t rfl) (fun _ _ h => h)
  refine sC.of rfl (by decide) (le_t rfl) ?_
  refine sv_aload_n (pc := 0) dX7_init_0 rfl rfl ?_
  refine sv_objinit (pc := 1) dX7_init_1 wM_X7_3 wV_obj wK_obj ⟨le_t rfl, le_t rfl⟩ (le_t rfl) ?_
  refine sv_aload_n (pc := 4) dX7_init_4 rfl rfl ?_
  refine sv_bipush (pc := 5) (v := 20) dX7_init_5 (by decide) ?_
  refine sw_newarray (pc := 7) (kd := 0) (a := 40) (n1 := 41) (N := 20) (ce1 := 1) (sl1 := 20) (v := .int 0) dX7_init_7 rfl wA_int rfl (fun U => sI_Cond_int U _) (by decide) (by decide) rfl (fun _ => rfl) rfl rfl rfl rfl rfl rfl ?_
  refine sw_putfinal (pc := 9) dX7_init_9 (gCX7 _ _ _ _ _) 0 (by decide) wF_X7_9 rfl rfl rfl rfl rfl (fun _ => rfl) (fun _ => rfl) rfl ?_
  refine sv_aload_n (pc := 12) dX7_init_12 rfl rfl ?_
  refine sv_bipush (pc := 13) (v := 8) dX7_init_13 (by decide) ?_
  refine sw_newarray (pc := 15) (kd := 0) (a := 41) (n1 := 42) (N := 8) (ce1 := 2) (sl1 := 28) (v := .int 0) dX7_init_15 rfl wA_int rfl (fun U => sI_Cond_int U _) (by decide) (by decide) rfl (fun _ => rfl) rfl rfl rfl rfl rfl rfl ?_
  refine sw_putfinal (pc := 17) dX7_init_17 (gCX7 _ _ _ _ _) 1 (by decide) wF_X7_15 rfl rfl rfl rfl rfl (fun _ => rfl) (fun _ => rfl) rfl ?_
  refine sv_aload_n (pc := 20) dX7_init_20 rfl rfl ?_
  refine sv_iconst (pc := 21) (v := (-1)) dX7_init_21 (by decide) ?_
  refine sw_putfield (pc := 22) dX7_init_22 (gCX7 _ _ _ _ _) 9 (by decide) wF_X7_18 rfl rfl rfl (fun _ => rfl) (fun _ => rfl) rfl ?_
  refine sv_vret (pc := 25) dX7_init_25 rfl (le_t rfl) (le_t rfl) ?_
  refine sw_aastore (pc := 69) (k := 1) dX8_init_69 (gCX7 _ _ _ _ _) rfl rfl rfl (by decide) (by decide) rfl rfl rfl ?_
  refine sw_iinc (pc := 70) (v := 2) dX8_init_70 rfl (by decide) (by decide) ?_
  refine sv_goto (pc := 73) (tgt := 51) dX8_init_73 (by decide) ?_
  refine sv_iload_n (pc := 51) dX8_init_51 rfl rfl ?_
  refine sv_bipush (pc := 52) (v := 10) dX8_init_52 (by decide) ?_
  refine sv_icmp_ge (pc := 54) (tgt := 76) dX8_init_54 (by decide) (fun h => absurd h (by decide)) (fun _ => ?_)
  refine sv_aload_n (pc := 57) dX8_init_57 rfl rfl ?_
  refine sw_getfield (pc := 58) dX8_init_58 (gCX8 _ _ _ _ _) 4 (by decide) wF_X8_34 rfl rfl rfl ?_
  refine sv_iload_n (pc := 61) dX8_init_61 rfl rfl ?_
  refine sw_new (pc := 62) (a := 42) (n1 := 43) (ce1 := 10) (sl1 := 1702) (fs := zX7) dX8_init_62 (gCX7 _ _ _ _ _) wC_X8_32 wN_X7 wI_X7 zX7_ok rfl rfl rfl rfl rfl rfl ?_
  refine sv_dup (pc := 65) dX8_init_65 rfl ?_
  refine sv_callI (pc := 66) (M' := mX7_init) (d' := 18) (C' := 2) (S' := 28) (av := []) ?_ (gOk _ _ _ _ _) dX8_init_66 (tX7_init _ _ _ _ _) rfl rfl wV_X7_init wM_X8_38 ⟨le_t rfl, le_t rfl⟩ ⟨le_t rfl, le_t rfl⟩ rfl (le_t rfl) (fun _ _ h => h)
  refine sC.of rfl (by decide) (le_t rfl) ?_
  refine sv_aload_n (pc := 0) dX7_init_0 rfl rfl ?_
  refine sv_objinit (pc := 1) dX7_init_1 wM_X7_3 wV_obj wK_obj ⟨le_t rfl, le_t rfl⟩ (le_t rfl) ?_
  refine sv_aload_n (pc := 4) dX7_init_4 rfl rfl ?_
  refine sv_bipush (pc := 5) (v := 20) dX7_init_5 (by decide) ?_
  refine sw_newarray (pc := 7) (kd := 0) (a := 43) (n1 := 44) (N := 20) (ce1 := 1) (sl1 := 20) (v := .int 0) dX7_init_7 rfl wA_int rfl (fun U => sI_Cond_int U _) (by decide) (by decide) rfl (fun _ => rfl) rfl rfl rfl rfl rfl rfl ?_
  refine sw_putfinal (pc := 9) dX7_init_9 (gCX7 _ _ _ _ _) 0 (by decide) wF_X7_9 rfl rfl rfl rfl rfl (fun _ => rfl) (fun _ => rfl) rfl ?_
  refine sv_aload_n (pc := 12) dX7_init_12 rfl rfl ?_
  refine sv_bipush (pc := 13) (v := 8) dX7_init_13 (by decide) ?_
  refine sw_newarray (pc := 15) (kd := 0) (a := 44) (n1 := 45) (N := 8) (ce1 := 2) (sl1 := 28) (v := .int 0) dX7_init_15 rfl wA_int rfl (fun U => sI_Cond_int U _) (by decide) (by decide) rfl (fun _ => rfl) rfl rfl rfl rfl rfl rfl ?_
  refine sw_putfinal (pc := 17) dX7_init_17 (gCX7 _ _ _ _ _) 1 (by decide) wF_X7_15 rfl rfl rfl rfl rfl (fun _ => rfl) (fun _ => rfl) rfl ?_
  refine sv_aload_n (pc := 20) dX7_init_20 rfl rfl ?_
  refine sv_iconst (pc := 21) (v := (-1)) dX7_init_21 (by decide) ?_
  refine sw_putfield (pc := 22) dX7_init_22 (gCX7 _ _ _ _ _) 9 (by decide) wF_X7_18 rfl rfl rfl (fun _ => rfl) (fun _ => rfl) rfl ?_
  refine sv_vret (pc := 25) dX7_init_25 rfl (le_t rfl) (le_t rfl) ?_
  refine sw_aastore (pc := 69) (k := 2) dX8_init_69 (gCX7 _ _ _ _ _) rfl rfl rfl (by decide) (by decide) rfl rfl rfl ?_
  refine sw_iinc (pc := 70) (v := 3) dX8_init_70 rfl (by decide) (by decide) ?_
  refine sv_goto (pc := 73) (tgt := 51) dX8_init_73 (by decide) ?_
  refine sv_iload_n (pc := 51) dX8_init_51 rfl rfl ?_
  refine sv_bipush (pc := 52) (v := 10) dX8_init_52 (by decide) ?_
  refine sv_icmp_ge (pc := 54) (tgt := 76) dX8_init_54 (by decide) (fun h => absurd h (by decide)) (fun _ => ?_)
  refine sv_aload_n (pc := 57) dX8_init_57 rfl rfl ?_
  refine sw_getfield (pc := 58) dX8_init_58 (gCX8 _ _ _ _ _) 4 (by decide) wF_X8_34 rfl rfl rfl ?_
  refine sv_iload_n (pc := 61) dX8_init_61 rfl rfl ?_
  refine sw_new (pc := 62) (a := 45) (n1 := 46) (ce1 := 13) (sl1 := 1742) (fs := zX7) dX8_init_62 (gCX7 _ _ _ _ _) wC_X8_32 wN_X7 wI_X7 zX7_ok rfl rfl rfl rfl rfl rfl ?_
  refine sv_dup (pc := 65) dX8_init_65 rfl ?_
  refine sv_callI (pc := 66) (M' := mX7_init) (d' := 18) (C' := 2) (S' := 28) (av := []) ?_ (gOk _ _ _ _ _) dX8_init_66 (tX7_init _ _ _ _ _) rfl rfl wV_X7_init wM_X8_38 ⟨le_t rfl, le_t rfl⟩ ⟨le_t rfl, le_t rfl⟩ rfl (le_t rfl) (fun _ _ h => h)
  refine sC.of rfl (by decide) (le_t rfl) ?_
  refine sv_aload_n (pc := 0) dX7_init_0 rfl rfl ?_
  refine sv_objinit (pc := 1) dX7_init_1 wM_X7_3 wV_obj wK_obj ⟨le_t rfl, le_t rfl⟩ (le_t rfl) ?_
  refine sv_aload_n (pc := 4) dX7_init_4 rfl rfl ?_
  refine sv_bipush (pc := 5) (v := 20) dX7_init_5 (by decide) ?_
  refine sw_newarray (pc := 7) (kd := 0) (a := 46) (n1 := 47) (N := 20) (ce1 := 1) (sl1 := 20) (v := .int 0) dX7_init_7 rfl wA_int rfl (fun U => sI_Cond_int U _) (by decide) (by decide) rfl (fun _ => rfl) rfl rfl rfl rfl rfl rfl ?_
  refine sw_putfinal (pc := 9) dX7_init_9 (gCX7 _ _ _ _ _) 0 (by decide) wF_X7_9 rfl rfl rfl rfl rfl (fun _ => rfl) (fun _ => rfl) rfl ?_
  refine sv_aload_n (pc := 12) dX7_init_12 rfl rfl ?_
  refine sv_bipush (pc := 13) (v := 8) dX7_init_13 (by decide) ?_
  refine sw_newarray (pc := 15) (kd := 0) (a := 47) (n1 := 48) (N := 8) (ce1 := 2) (sl1 := 28) (v := .int 0) dX7_init_15 rfl wA_int rfl (fun U => sI_Cond_int U _) (by decide) (by decide) rfl (fun _ => rfl) rfl rfl rfl rfl rfl rfl ?_
  refine sw_putfinal (pc := 17) dX7_init_17 (gCX7 _ _ _ _ _) 1 (by decide) wF_X7_15 rfl rfl rfl rfl rfl (fun _ => rfl) (fun _ => rfl) rfl ?_
  refine sv_aload_n (pc := 20) dX7_init_20 rfl rfl ?_
  refine sv_iconst (pc := 21) (v := (-1)) dX7_init_21 (by decide) ?_
  refine sw_putfield (pc := 22) dX7_init_22 (gCX7 _ _ _ _ _) 9 (by decide) wF_X7_18 rfl rfl rfl (fun _ => rfl) (fun _ => rfl) rfl ?_
  refine sv_vret (pc := 25) dX7_init_25 rfl (le_t rfl) (le_t rfl) ?_
  refine sw_aastore (pc := 69) (k := 3) dX8_init_69 (gCX7 _ _ _ _ _) rfl rfl rfl (by decide) (by decide) rfl rfl rfl ?_
  refine sw_iinc (pc := 70) (v := 4) dX8_init_70 rfl (by decide) (by decide) ?_
  refine sv_goto (pc := 73) (tgt := 51) dX8_init_73 (by decide) ?_
  refine sv_iload_n (pc := 51) dX8_init_51 rfl rfl ?_
  refine sv_bipush (pc := 52) (v := 10) dX8_init_52 (by decide) ?_
  refine sv_icmp_ge (pc := 54) (tgt := 76) dX8_init_54 (by decide) (fun h => absurd h (by decide)) (fun _ => ?_)
  refine sv_aload_n (pc := 57) dX8_init_57 rfl rfl ?_
  refine sw_getfield (pc := 58) dX8_init_58 (gCX8 _ _ _ _ _) 4 (by decide) wF_X8_34 rfl rfl rfl ?_
  refine sv_iload_n (pc := 61) dX8_init_61 rfl rfl ?_
  refine sw_new (pc := 62) (a := 48) (n1 := 49) (ce1 := 16) (sl1 := 1782) (fs := zX7) dX8_init_62 (gCX7 _ _ _ _ _) wC_X8_32 wN_X7 wI_X7 zX7_ok rfl rfl rfl rfl rfl rfl ?_
  refine sv_dup (pc := 65) dX8_init_65 rfl ?_
  refine sv_callI (pc := 66) (M' := mX7_init) (d' := 18) (C' := 2) (S' := 28) (av := []) ?_ (gOk _ _ _ _ _) dX8_init_66 (tX7_init _ _ _ _ _) rfl rfl wV_X7_init wM_X8_38 ⟨le_t rfl, le_t rfl⟩ ⟨le_t rfl, le_t rfl⟩ rfl (le_t rfl) (fun _ _ h => h)
  refine sC.of rfl (by decide) (le_t rfl) ?_
  refine sv_aload_n (pc := 0) dX7_init_0 rfl rfl ?_
  refine sv_objinit (pc := 1) dX7_init_1 wM_X7_3 wV_obj wK_obj ⟨le_t rfl, le_t rfl⟩ (le_t rfl) ?_
  refine sv_aload_n (pc := 4) dX7_init_4 rfl rfl ?_
  refine sv_bipush (pc := 5) (v := 20) dX7_init_5 (by decide) ?_
  refine sw_newarray (pc := 7) (kd := 0) (a := 49) (n1 := 50) (N := 20) (ce1 := 1) (sl1 := 20) (v := .int 0) dX7_init_7 rfl wA_int rfl (fun U => sI_Cond_int U _) (by decide) (by decide) rfl (fun _ => rfl) rfl rfl rfl rfl rfl rfl ?_
  refine sw_putfinal (pc := 9) dX7_init_9 (gCX7 _ _ _ _ _) 0 (by decide) wF_X7_9 rfl rfl rfl rfl rfl (fun _ => rfl) (fun _ => rfl) rfl ?_
  refine sv_aload_n (pc := 12) dX7_init_12 rfl rfl ?_
  refine sv_bipush (pc := 13) (v := 8) dX7_init_13 (by decide) ?_
  refine sw_newarray (pc := 15) (kd := 0) (a := 50) (n1 := 51) (N := 8) (ce1 := 2) (sl1 := 28) (v := .int 0) dX7_init_15 rfl wA_int rfl (fun U => sI_Cond_int U _) (by decide) (by decide) rfl (fun _ => rfl) rfl rfl rfl rfl rfl rfl ?_
  refine sw_putfinal (pc := 17) dX7_init_17 (gCX7 _ _ _ _ _) 1 (by decide) wF_X7_15 rfl rfl rfl rfl rfl (fun _ => rfl) (fun _ => rfl) rfl ?_
  refine sv_aload_n (pc := 20) dX7_init_20 rfl rfl ?_
  refine sv_iconst (pc := 21) (v := (-1)) dX7_init_21 (by decide) ?_
  refine sw_putfield (pc := 22) dX7_init_22 (gCX7 _ _ _ _ _) 9 (by decide) wF_X7_18 rfl rfl rfl (fun _ => rfl) (fun _ => rfl) rfl ?_
  refine sv_vret (pc := 25) dX7_init_25 rfl (le_t rfl) (le_t rfl) ?_
  refine sw_aastore (pc := 69) (k := 4) dX8_init_69 (gCX7 _ _ _ _ _) rfl rfl rfl (by decide) (by decide) rfl rfl rfl ?_
  refine sw_iinc (pc := 70) (v := 5) dX8_init_70 rfl (by decide) (by decide) ?_
  refine sv_goto (pc := 73) (tgt := 51) dX8_init_73 (by decide) ?_
  refine sv_iload_n (pc := 51) dX8_init_51 rfl rfl ?_
  refine sv_bipush (pc := 52) (v := 10) dX8_init_52 (by decide) ?_
  refine sv_icmp_ge (pc := 54) (tgt := 76) dX8_init_54 (by decide) (fun h => absurd h (by decide)) (fun _ => ?_)
  refine sv_aload_n (pc := 57) dX8_init_57 rfl rfl ?_
  refine sw_getfield (pc := 58) dX8_init_58 (gCX8 _ _ _ _ _) 4 (by decide) wF_X8_34 rfl rfl rfl ?_
  refine sv_iload_n (pc := 61) dX8_init_61 rfl rfl ?_
  refine sw_new (pc := 62) (a := 51) (n1 := 52) (ce1 := 19) (sl1 := 1822) (fs := zX7) dX8_init_62 (gCX7 _ _ _ _ _) wC_X8_32 wN_X7 wI_X7 zX7_ok rfl rfl rfl rfl rfl rfl ?_
  refine sv_dup (pc := 65) dX8_init_65 rfl ?_
  refine sv_callI (pc := 66) (M' := mX7_init) (d' := 18) (C' := 2) (S' := 28) (av := []) ?_ (gOk _ _ _ _ _) dX8_init_66 (tX7_init _ _ _ _ _) rfl rfl wV_X7_init wM_X8_38 ⟨le_t rfl, le_t rfl⟩ ⟨le_t rfl, le_t rfl⟩ rfl (le_t rfl) (fun _ _ h => h)
  refine sC.of rfl (by decide) (le_t rfl) ?_
  refine sv_aload_n (pc := 0) dX7_init_0 rfl rfl ?_
  refine sv_objinit (pc := 1) dX7_init_1 wM_X7_3 wV_obj wK_obj ⟨le_t rfl, le_t rfl⟩ (le_t rfl) ?_
  refine sv_aload_n (pc := 4) dX7_init_4 rfl rfl ?_
  refine sv_bipush (pc := 5) (v := 20) dX7_init_5 (by decide) ?_
  refine sw_newarray (pc := 7) (kd := 0) (a := 52) (n1 := 53) (N := 20) (ce1 := 1) (sl1 := 20) (v := .int 0) dX7_init_7 rfl wA_int rfl (fun U => sI_Cond_int U _) (by decide) (by decide) rfl (fun _ => rfl) rfl rfl rfl rfl rfl rfl ?_
  refine sw_putfinal (pc := 9) dX7_init_9 (gCX7 _ _ _ _ _) 0 (by decide) wF_X7_9 rfl rfl rfl rfl rfl (fun _ => rfl) (fun _ => rfl) rfl ?_
  refine sv_aload_n (pc := 12) dX7_init_12 rfl rfl ?_
  refine sv_bipush (pc := 13) (v := 8) dX7_init_13 (by decide) ?_
  refine sw_newarray (pc := 15) (kd := 0) (a := 53) (n1 := 54) (N := 8) (ce1 := 2) (sl1 := 28) (v := .int 0) dX7_init_15 rfl wA_int rfl (fun U => sI_Cond_int U _) (by decide) (by decide) rfl (fun _ => rfl) rfl rfl rfl rfl rfl rfl ?_
  refine sw_putfinal (pc := 17) dX7_init_17 (gCX7 _ _ _ _ _) 1 (by decide) wF_X7_15 rfl rfl rfl rfl rfl (fun _ => rfl) (fun _ => rfl) rfl ?_
  refine sv_aload_n (pc := 20) dX7_init_20 rfl rfl ?_
  refine sv_iconst (pc := 21) (v := (-1)) dX7_init_21 (by decide) ?_
  refine sw_putfield (pc := 22) dX7_init_22 (gCX7 _ _ _ _ _) 9 (by decide) wF_X7_18 rfl rfl rfl (fun _ => rfl) (fun _ => rfl) rfl ?_
  refine sv_vret (pc := 25) dX7_init_25 rfl (le_t rfl) (le_t rfl) ?_
  refine sw_aastore (pc := 69) (k := 5) dX8_init_69 (gCX7 _ _ _ _ _) rfl rfl rfl (by decide) (by decide) rfl rfl rfl ?_
  refine sw_iinc (pc := 70) (v := 6) dX8_init_70 rfl (by decide) (by decide) ?_
  refine sv_goto (pc := 73) (tgt := 51) dX8_init_73 (by decide) ?_
  refine sv_iload_n (pc := 51) dX8_init_51 rfl rfl ?_
  refine sv_bipush (pc := 52) (v := 10) dX8_init_52 (by decide) ?_
  refine sv_icmp_ge (pc := 54) (tgt := 76) dX8_init_54 (by decide) (fun h => absurd h (by decide)) (fun _ => ?_)
  refine sv_aload_n (pc := 57) dX8_init_57 rfl rfl ?_
  refine sw_getfield (pc := 58) dX8_init_58 (gCX8 _ _ _ _ _) 4 (by decide) wF_X8_34 rfl rfl rfl ?_
  refine sv_iload_n (pc := 61) dX8_init_61 rfl rfl ?_
  refine sw_new (pc := 62) (a := 54) (n1 := 55) (ce1 := 22) (sl1 := 1862) (fs := zX7) dX8_init_62 (gCX7 _ _ _ _ _) wC_X8_32 wN_X7 wI_X7 zX7_ok rfl rfl rfl rfl rfl rfl ?_
  refine sv_dup (pc := 65) dX8_init_65 rfl ?_
  refine sv_callI (pc := 66) (M' := mX7_init) (d' := 18) (C' := 2) (S' := 28) (av := []) ?_ (gOk _ _ _ _ _) dX8_init_66 (tX7_init _ _ _ _ _) rfl rfl wV_X7_init wM_X8_38 ⟨le_t rfl, le_t rfl⟩ ⟨le_t rfl, le_t rfl⟩ rfl (le_t rfl) (fun _ _ h => h)
  refine sC.of rfl (by decide) (le_t rfl) ?_
  refine sv_aload_n (pc := 0) dX7_init_0 rfl rfl ?_
  refine sv_objinit (pc := 1) dX7_init_1 wM_X7_3 wV_obj wK_obj ⟨le_t rfl, le_t rfl⟩ (le_t rfl) ?_
  refine sv_aload_n (pc := 4) dX7_init_4 rfl rfl ?_
  refine sv_bipush (pc := 5) (v := 20) dX7_init_5 (by decide) ?_
  refine sw_newarray (pc := 7) (kd := 0) (a := 55) (n1 := 56) (N := 20) (ce1 := 1) (sl1 := 20) (v := .int 0) dX7_init_7 rfl wA_int rfl (fun U => sI_Cond_int U _) (by decide) (by decide) rfl (fun _ => rfl) rfl rfl rfl rfl rfl rfl ?_
  refine sw_putfinal (pc := 9) dX7_init_9 (gCX7 _ _ _ _ _) 0 (by decide) wF_X7_9 rfl rfl rfl rfl rfl (fun _ => rfl) (fun _ => rfl) rfl ?_
  refine sv_aload_n (pc := 12) dX7_init_12 rfl rfl ?_
  refine sv_bipush (pc := 13) (v := 8) dX7_init_13 (by decide) ?_
  refine sw_newarray (pc := 15) (kd := 0) (a := 56) (n1 := 57) (N := 8) (ce1 := 2) (sl1 := 28) (v := .int 0) dX7_init_15 rfl wA_int rfl (fun U => sI_Cond_int U _) (by decide) (by decide) rfl (fun _ => rfl) rfl rfl rfl rfl rfl rfl ?_
  refine sw_putfinal (pc := 17) dX7_init_17 (gCX7 _ _ _ _ _) 1 (by decide) wF_X7_15 rfl rfl rfl rfl rfl (fun _ => rfl) (fun _ => rfl) rfl ?_
  refine sv_aload_n (pc := 20) dX7_init_20 rfl rfl ?_
  refine sv_iconst (pc := 21) (v := (-1)) dX7_init_21 (by decide) ?_
  refine sw_putfield (pc := 22) dX7_init_22 (gCX7 _ _ _ _ _) 9 (by decide) wF_X7_18 rfl rfl rfl (fun _ => rfl) (fun _ => rfl) rfl ?_
  refine sv_vret (pc := 25) dX7_init_25 rfl (le_t rfl) (le_t rfl) ?_
  refine sw_aastore (pc := 69) (k := 6) dX8_init_69 (gCX7 _ _ _ _ _) rfl rfl rfl (by decide) (by decide) rfl rfl rfl ?_
  refine sw_iinc (pc := 70) (v := 7) dX8_init_70 rfl (by decide) (by decide) ?_
  refine sv_lvG (pc := 73) (lv' := [(0, .ref 32), (1, .ref 6), (2, .ref 21), (3, .int 7)]) (List.forall_mem_cons.mpr ⟨rfl, List.forall_mem_cons.mpr ⟨rfl, List.forall_mem_cons.mpr ⟨rfl, List.forall_mem_cons.mpr ⟨rfl, fun _ h => absurd h List.not_mem_nil⟩⟩⟩⟩) ?_
  refine sv_goto (pc := 73) (tgt := 51) dX8_init_73 (by decide) ?_
  refine sv_iload_n (pc := 51) dX8_init_51 rfl rfl ?_
  refine sv_bipush (pc := 52) (v := 10) dX8_init_52 (by decide) ?_
  refine sv_icmp_ge (pc := 54) (tgt := 76) dX8_init_54 (by decide) (fun h => absurd h (by decide)) (fun _ => ?_)
  refine sv_aload_n (pc := 57) dX8_init_57 rfl rfl ?_
  refine sw_getfield (pc := 58) dX8_init_58 (gCX8 _ _ _ _ _) 4 (by decide) wF_X8_34 rfl rfl rfl ?_
  refine sv_iload_n (pc := 61) dX8_init_61 rfl rfl ?_
  refine sw_new (pc := 62) (a := 57) (n1 := 58) (ce1 := 25) (sl1 := 1902) (fs := zX7) dX8_init_62 (gCX7 _ _ _ _ _) wC_X8_32 wN_X7 wI_X7 zX7_ok rfl rfl rfl rfl rfl rfl ?_
  refine sv_dup (pc := 65) dX8_init_65 rfl ?_
  refine sv_callI (pc := 66) (M' := mX7_init) (d' := 18) (C' := 2) (S' := 28) (av := []) ?_ (gOk _ _ _ _ _) dX8_init_66 (tX7_init _ _ _ _ _) rfl rfl wV_X7_init wM_X8_38 ⟨le_t rfl, le_t rfl⟩ ⟨le_t rfl, le_t rfl⟩ rfl (le_t rfl) (fun _ _ h => h)
  refine sC.of rfl (by decide) (le_t rfl) ?_
  refine sv_aload_n (pc := 0) dX7_init_0 rfl rfl ?_
  refine sv_objinit (pc := 1) dX7_init_1 wM_X7_3 wV_obj wK_obj ⟨le_t rfl, le_t rfl⟩ (le_t rfl) ?_
  refine sv_aload_n (pc := 4) dX7_init_4 rfl rfl ?_
  refine sv_bipush (pc := 5) (v := 20) dX7_init_5 (by decide) ?_
  refine sw_newarray (pc := 7) (kd := 0) (a := 58) (n1 := 59) (N := 20) (ce1 := 1) (sl1 := 20) (v := .int 0) dX7_init_7 rfl wA_int rfl (fun U => sI_Cond_int U _) (by decide) (by decide) rfl (fun _ => rfl) rfl rfl rfl rfl rfl rfl ?_
  refine sw_putfinal (pc := 9) dX7_init_9 (gCX7 _ _ _ _ _) 0 (by decide) wF_X7_9 rfl rfl rfl rfl rfl (fun _ => rfl) (fun _ => rfl) rfl ?_
  refine sv_aload_n (pc := 12) dX7_init_12 rfl rfl ?_
  refine sv_bipush (pc := 13) (v := 8) dX7_init_13 (by decide) ?_
  refine sw_newarray (pc := 15) (kd := 0) (a := 59) (n1 := 60) (N := 8) (ce1 := 2) (sl1 := 28) (v := .int 0) dX7_init_15 rfl wA_int rfl (fun U => sI_Cond_int U _) (by decide) (by decide) rfl (fun _ => rfl) rfl rfl rfl rfl rfl rfl ?_
  refine sw_putfinal (pc := 17) dX7_init_17 (gCX7 _ _ _ _ _) 1 (by decide) wF_X7_15 rfl rfl rfl rfl rfl (fun _ => rfl) (fun _ => rfl) rfl ?_
  refine sv_aload_n (pc := 20) dX7_init_20 rfl rfl ?_
  refine sv_iconst (pc := 21) (v := (-1)) dX7_init_21 (by decide) ?_
  refine sw_putfield (pc := 22) dX7_init_22 (gCX7 _ _ _ _ _) 9 (by decide) wF_X7_18 rfl rfl rfl (fun _ => rfl) (fun _ => rfl) rfl ?_
  refine sv_vret (pc := 25) dX7_init_25 rfl (le_t rfl) (le_t rfl) ?_
  refine sw_aastore (pc := 69) (k := 7) dX8_init_69 (gCX7 _ _ _ _ _) rfl rfl rfl (by decide) (by decide) rfl rfl rfl ?_
  refine sw_iinc (pc := 70) (v := 8) dX8_init_70 rfl (by decide) (by decide) ?_
  refine sv_goto (pc := 73) (tgt := 51) dX8_init_73 (by decide) ?_
  refine sv_iload_n (pc := 51) dX8_init_51 rfl rfl ?_
  refine sv_bipush (pc := 52) (v := 10) dX8_init_52 (by decide) ?_
  refine sv_icmp_ge (pc := 54) (tgt := 76) dX8_init_54 (by decide) (fun h => absurd h (by decide)) (fun _ => ?_)
  refine sv_aload_n (pc := 57) dX8_init_57 rfl rfl ?_
  refine sw_getfield (pc := 58) dX8_init_58 (gCX8 _ _ _ _ _) 4 (by decide) wF_X8_34 rfl rfl rfl ?_
  refine sv_iload_n (pc := 61) dX8_init_61 rfl rfl ?_
  refine sw_new (pc := 62) (a := 60) (n1 := 61) (ce1 := 28) (sl1 := 1942) (fs := zX7) dX8_init_62 (gCX7 _ _ _ _ _) wC_X8_32 wN_X7 wI_X7 zX7_ok rfl rfl rfl rfl rfl rfl ?_
  refine sv_dup (pc := 65) dX8_init_65 rfl ?_
  refine sv_callI (pc := 66) (M' := mX7_init) (d' := 18) (C' := 2) (S' := 28) (av := []) ?_ (gOk _ _ _ _ _) dX8_init_66 (tX7_init _ _ _ _ _) rfl rfl wV_X7_init wM_X8_38 ⟨le_t rfl, le_t rfl⟩ ⟨le_t rfl, le_t rfl⟩ rfl (le_t rfl) (fun _ _ h => h)
  refine sC.of rfl (by decide) (le_t rfl) ?_
  refine sv_aload_n (pc := 0) dX7_init_0 rfl rfl ?_
  refine sv_objinit (pc := 1) dX7_init_1 wM_X7_3 wV_obj wK_obj ⟨le_t rfl, le_t rfl⟩ (le_t rfl) ?_
  refine sv_aload_n (pc := 4) dX7_init_4 rfl rfl ?_
  refine sv_bipush (pc := 5) (v := 20) dX7_init_5 (by decide) ?_
  refine sw_newarray (pc := 7) (kd := 0) (a := 61) (n1 := 62) (N := 20) (ce1 := 1) (sl1 := 20) (v := .int 0) dX7_init_7 rfl wA_int rfl (fun U => sI_Cond_int U _) (by decide) (by decide) rfl (fun _ => rfl) rfl rfl rfl rfl rfl rfl ?_
  refine sw_putfinal (pc := 9) dX7_init_9 (gCX7 _ _ _ _ _) 0 (by decide) wF_X7_9 rfl rfl rfl rfl rfl (fun _ => rfl) (fun _ => rfl) rfl ?_
  refine sv_aload_n (pc := 12) dX7_init_12 rfl rfl ?_
  refine sv_bipush (pc := 13) (v := 8) dX7_init_13 (by decide) ?_
  refine sw_newarray (pc := 15) (kd := 0) (a := 62) (n1 := 63) (N := 8) (ce1 := 2) (sl1 := 28) (v := .int 0) dX7_init_15 rfl wA_int rfl (fun U => sI_Cond_int U _) (by decide) (by decide) rfl (fun _ => rfl) rfl rfl rfl rfl rfl rfl ?_
  refine sw_putfinal (pc := 17) dX7_init_17 (gCX7 _ _ _ _ _) 1 (by decide) wF_X7_15 rfl rfl rfl rfl rfl (fun _ => rfl) (fun _ => rfl) rfl ?_
  refine sv_aload_n (pc := 20) dX7_init_20 rfl rfl ?_
  refine sv_iconst (pc := 21) (v := (-1)) dX7_init_21 (by decide) ?_
  refine sw_putfield (pc := 22) dX7_init_22 (gCX7 _ _ _ _ _) 9 (by decide) wF_X7_18 rfl rfl rfl (fun _ => rfl) (fun _ => rfl) rfl ?_
  refine sv_vret (pc := 25) dX7_init_25 rfl (le_t rfl) (le_t rfl) ?_
  refine sw_aastore (pc := 69) (k := 8) dX8_init_69 (gCX7 _ _ _ _ _) rfl rfl rfl (by decide) (by decide) rfl rfl rfl ?_
  refine sw_iinc (pc := 70) (v := 9) dX8_init_70 rfl (by decide) (by decide) ?_
  refine sv_goto (pc := 73) (tgt := 51) dX8_init_73 (by decide) ?_
  refine sv_iload_n (pc := 51) dX8_init_51 rfl rfl ?_
  refine sv_bipush (pc := 52) (v := 10) dX8_init_52 (by decide) ?_
  refine sv_icmp_ge (pc := 54) (tgt := 76) dX8_init_54 (by decide) (fun h => absurd h (by decide)) (fun _ => ?_)
  refine sv_aload_n (pc := 57) dX8_init_57 rfl rfl ?_
  refine sw_getfield (pc := 58) dX8_init_58 (gCX8 _ _ _ _ _) 4 (by decide) wF_X8_34 rfl rfl rfl ?_
  refine sv_iload_n (pc := 61) dX8_init_61 rfl rfl ?_
  refine sw_new (pc := 62) (a := 63) (n1 := 64) (ce1 := 31) (sl1 := 1982) (fs := zX7) dX8_init_62 (gCX7 _ _ _ _ _) wC_X8_32 wN_X7 wI_X7 zX7_ok rfl rfl rfl rfl rfl rfl ?_
  refine sv_dup (pc := 65) dX8_init_65 rfl ?_
  refine sv_callI (pc := 66) (M' := mX7_init) (d' := 18) (C' := 2) (S' := 28) (av := []) ?_ (gOk _ _ _ _ _) dX8_init_66 (tX7_init _ _ _ _ _) rfl rfl wV_X7_init wM_X8_38 ⟨le_t rfl, le_t rfl⟩ ⟨le_t rfl, le_t rfl⟩ rfl (le_t rfl) (fun _ _ h => h)
  refine sC.of rfl (by decide) (le_t rfl) ?_
  refine sv_aload_n (pc := 0) dX7_init_0 rfl rfl ?_
  refine sv_objinit (pc := 1) dX7_init_1 wM_X7_3 wV_obj wK_obj ⟨le_t rfl, le_t rfl⟩ (le_t rfl) ?_
  refine sv_aload_n (pc := 4) dX7_init_4 rfl rfl ?_
  refine sv_bipush (pc := 5) (v := 20) dX7_init_5 (by decide) ?_
  refine sw_newarray (pc := 7) (kd := 0) (a := 64) (n1 := 65) (N := 20) (ce1 := 1) (sl1 := 20) (v := .int 0) dX7_init_7 rfl wA_int rfl (fun U => sI_Cond_int U _) (by decide) (by decide) rfl (fun _ => rfl) rfl rfl rfl rfl rfl rfl ?_
  refine sw_putfinal (pc := 9) dX7_init_9 (gCX7 _ _ _ _ _) 0 (by decide) wF_X7_9 rfl rfl rfl rfl rfl (fun _ => rfl) (fun _ => rfl) rfl ?_
  refine sv_aload_n (pc := 12) dX7_init_12 rfl rfl ?_
  refine sv_bipush (pc := 13) (v := 8) dX7_init_13 (by decide) ?_
  refine sw_newarray (pc := 15) (kd := 0) (a := 65) (n1 := 66) (N := 8) (ce1 := 2) (sl1 := 28) (v := .int 0) dX7_init_15 rfl wA_int rfl (fun U => sI_Cond_int U _) (by decide) (by decide) rfl (fun _ => rfl) rfl rfl rfl rfl rfl rfl ?_
  refine sw_putfinal (pc := 17) dX7_init_17 (gCX7 _ _ _ _ _) 1 (by decide) wF_X7_15 rfl rfl rfl rfl rfl (fun _ => rfl) (fun _ => rfl) rfl ?_
  refine sv_aload_n (pc := 20) dX7_init_20 rfl rfl ?_
  refine sv_iconst (pc := 21) (v := (-1)) dX7_init_21 (by decide) ?_
  refine sw_putfield (pc := 22) dX7_init_22 (gCX7 _ _ _ _ _) 9 (by decide) wF_X7_18 rfl rfl rfl (fun _ => rfl) (fun _ => rfl) rfl ?_
  refine sv_vret (pc := 25) dX7_init_25 rfl (le_t rfl) (le_t rfl) ?_
  refine sw_aastore (pc := 69) (k := 9) dX8_init_69 (gCX7 _ _ _ _ _) rfl rfl rfl (by decide) (by decide) rfl rfl rfl ?_
  refine sw_iinc (pc := 70) (v := 10) dX8_init_70 rfl (by decide) (by decide) ?_
  refine sv_goto (pc := 73) (tgt := 51) dX8_init_73 (by decide) ?_
  refine sv_iload_n (pc := 51) dX8_init_51 rfl rfl ?_
  refine sv_bipush (pc := 52) (v := 10) dX8_init_52 (by decide) ?_
  refine sv_icmp_ge (pc := 54) (tgt := 76) dX8_init_54 (by decide) (fun _ => ?_) (fun h => absurd (by decide) h)
  refine sv_aload_n (pc := 76) dX8_init_76 rfl rfl ?_
  refine sv_bipush (pc := 77) (v := 10) dX8_init_77 (by decide) ?_
  refine sw_newarray (pc := 79) (kd := 0) (a := 66) (n1 := 67) (N := 10) (ce1 := 34) (sl1 := 2020) (v := .int 0) dX8_init_79 rfl wA_int rfl (fun U => sI_Cond_int U _) (by decide) (by decide) rfl (fun _ => rfl) rfl rfl rfl rfl rfl rfl ?_
  refine sw_putfinal (pc := 81) dX8_init_81 (gCX8 _ _ _ _ _) 5 (by decide) wF_X8_39 rfl rfl rfl rfl rfl (fun _ => rfl) (fun _ => rfl) rfl ?_
  refine sv_aload_n (pc := 84) dX8_init_84 rfl rfl ?_
  refine sw_new (pc := 85) (a := 67) (n1 := 68) (ce1 := 35) (sl1 := 2032) (fs := zX7) dX8_init_85 (gCX7 _ _ _ _ _) wC_X8_32 wN_X7 wI_X7 zX7_ok rfl rfl rfl rfl rfl rfl ?_
  refine sv_dup (pc := 88) dX8_init_88 rfl ?_
  refine sv_callI (pc := 89) (M' := mX7_init) (d' := 18) (C' := 2) (S' := 28) (av := []) ?_ (gOk _ _ _ _ _) dX8_init_89 (tX7_init _ _ _ _ _) rfl rfl wV_X7_init wM_X8_38 ⟨le_t rfl, le_t rfl⟩ ⟨le_t rfl, le_t rfl⟩ rfl (le_t rfl) (fun _ _ h => h)
  refine sC.of rfl (by decide) (le_t rfl) ?_
  refine sv_aload_n (pc := 0) dX7_init_0 rfl rfl ?_
  refine sv_objinit (pc := 1) dX7_init_1 wM_X7_3 wV_obj wK_obj ⟨le_t rfl, le_t rfl⟩ (le_t rfl) ?_
  refine sv_aload_n (pc := 4) dX7_init_4 rfl rfl ?_
  refine sv_bipush (pc := 5) (v := 20) dX7_init_5 (by decide) ?_
  refine sw_newarray (pc := 7) (kd := 0) (a := 68) (n1 := 69) (N := 20) (ce1 := 1) (sl1 := 20) (v := .int 0) dX7_init_7 rfl wA_int rfl (fun U => sI_Cond_int U _) (by decide) (by decide) rfl (fun _ => rfl) rfl rfl rfl rfl rfl rfl ?_
  refine sw_putfinal (pc := 9) dX7_init_9 (gCX7 _ _ _ _ _) 0 (by decide) wF_X7_9 rfl rfl rfl rfl rfl (fun _ => rfl) (fun _ => rfl) rfl ?_
  refine sv_aload_n (pc := 12) dX7_init_12 rfl rfl ?_
  refine sv_bipush (pc := 13) (v := 8) dX7_init_13 (by decide) ?_
  refine sw_newarray (pc := 15) (kd := 0) (a := 69) (n1 := 70) (N := 8) (ce1 := 2) (sl1 := 28) (v := .int 0) dX7_init_15 rfl wA_int rfl (fun U => sI_Cond_int U _) (by decide) (by decide) rfl (fun _ => rfl) rfl rfl rfl rfl rfl rfl ?_
  refine sw_putfinal (pc := 17) dX7_init_17 (gCX7 _ _ _ _ _) 1 (by decide) wF_X7_15 rfl rfl rfl rfl rfl (fun _ => rfl) (fun _ => rfl) rfl ?_
  refine sv_aload_n (pc := 20) dX7_init_20 rfl rfl ?_
  refine sv_iconst (pc := 21) (v := (-1)) dX7_init_21 (by decide) ?_
  refine sw_putfield (pc := 22) dX7_init_22 (gCX7 _ _ _ _ _) 9 (by decide) wF_X7_18 rfl rfl rfl (fun _ => rfl) (fun _ => rfl) rfl ?_
  refine sv_vret (pc := 25) dX7_init_25 rfl (le_t rfl) (le_t rfl) ?_
  refine sw_putfinal (pc := 92) dX8_init_92 (gCX8 _ _ _ _ _) 6 (by decide) wF_X8_42 rfl rfl rfl rfl rfl (fun _ => rfl) (fun _ => rfl) rfl ?_
  refine sv_aload_n (pc := 95) dX8_init_95 rfl rfl ?_
  refine sw_new (pc := 96) (a := 70) (n1 := 71) (ce1 := 38) (sl1 := 2072) (fs := zX7) dX8_init_96 (gCX7 _ _ _ _ _) wC_X8_32 wN_X7 wI_X7 zX7_ok rfl rfl rfl rfl rfl rfl ?_
  refine sv_dup (pc := 99) dX8_init_99 rfl ?_
  refine sv_callI (pc := 100) (M' := mX7_init) (d' := 18) (C' := 2) (S' := 28) (av := []) ?_ (gOk _ _ _ _ _) dX8_init_100 (tX7_init _ _ _ _ _) rfl rfl wV_X7_init wM_X8_38 ⟨le_t rfl, le_t rfl⟩ ⟨le_t rfl, le_t rfl⟩ rfl (le_t rfl) (fun _ _ h => h)
  refine sC.of rfl (by decide) (le_t rfl) ?_
  refine sv_aload_n (pc := 0) dX7_init_0 rfl rfl ?_
  refine sv_objinit (pc := 1) dX7_init_1 wM_X7_3 wV_obj wK_obj ⟨le_t rfl, le_t rfl⟩ (le_t rfl) ?_
  refine sv_aload_n (pc := 4) dX7_init_4 rfl rfl ?_
  refine sv_bipush (pc := 5) (v := 20) dX7_init_5 (by decide) ?_
  refine sw_newarray (pc := 7) (kd := 0) (a := 71) (n1 := 72) (N := 20) (ce1 := 1) (sl1 := 20) (v := .int 0) dX7_init_7 rfl wA_int rfl (fun U => sI_Cond_int U _) (by decide) (by decide) rfl (fun _ => rfl) rfl rfl rfl rfl rfl rfl ?_
  refine sw_putfinal (pc := 9) dX7_init_9 (gCX7 _ _ _ _ _) 0 (by decide) wF_X7_9 rfl rfl rfl rfl rfl (fun _ => rfl) (fun _ => rfl) rfl ?_
  refine sv_aload_n (pc := 12) dX7_init_12 rfl rfl ?_
  refine sv_bipush (pc := 13) (v := 8) dX7_init_13 (by decide) ?_
  refine sw_newarray (pc := 15) (kd := 0) (a := 72) (n1 := 73) (N := 8) (ce1 := 2) (sl1 := 28) (v := .int 0) dX7_init_15 rfl wA_int rfl (fun U => sI_Cond_int U _) (by decide) (by decide) rfl (fun _ => rfl) rfl rfl rfl rfl rfl rfl ?_
  refine sw_putfinal (pc := 17) dX7_init_17 (gCX7 _ _ _ _ _) 1 (by decide) wF_X7_15 rfl rfl rfl rfl rfl (fun _ => rfl) (fun _ => rfl) rfl ?_
  refine sv_aload_n (pc := 20) dX7_init_20 rfl rfl ?_
  refine sv_iconst (pc := 21) (v := (-1)) dX7_init_21 (by decide) ?_
  refine sw_putfield (pc := 22) dX7_init_22 (gCX7 _ _ _ _ _) 9 (by decide) wF_X7_18 rfl rfl rfl (fun _ => rfl) (fun _ => rfl) rfl ?_
  refine sv_vret (pc := 25) dX7_init_25 rfl (le_t rfl) (le_t rfl) ?_
  refine sw_putfinal (pc := 103) dX8_init_103 (gCX8 _ _ _ _ _) 7 (by decide) wF_X8_46 rfl rfl rfl rfl rfl (fun _ => rfl) (fun _ => rfl) rfl ?_
  refine sv_aload_n (pc := 106) dX8_init_106 rfl rfl ?_
  refine sw_new (pc := 107) (a := 73) (n1 := 74) (ce1 := 41) (sl1 := 2112) (fs := zX7) dX8_init_107 (gCX7 _ _ _ _ _) wC_X8_32 wN_X7 wI_X7 zX7_ok rfl rfl rfl rfl rfl rfl ?_
  refine sv_dup (pc := 110) dX8_init_110 rfl ?_
  refine sv_callI (pc := 111) (M' := mX7_init) (d' := 18) (C' := 2) (S' := 28) (av := []) ?_ (gOk _ _ _ _ _) dX8_init_111 (tX7_init _ _ _ _ _) rfl rfl wV_X7_init wM_X8_38 ⟨le_t rfl, le_t rfl⟩ ⟨le_t rfl, le_t rfl⟩ rfl (le_t rfl) (fun _ _ h => h)
  refine sC.of rfl (by decide) (le_t rfl) ?_
  refine sv_aload_n (pc := 0) dX7_init_0 rfl rfl ?_
  refine sv_objinit (pc := 1) dX7_init_1 wM_X7_3 wV_obj wK_obj ⟨le_t rfl, le_t rfl⟩ (le_t rfl) ?_
  refine sv_aload_n (pc := 4) dX7_init_4 rfl rfl ?_
  refine sv_bipush (pc := 5) (v := 20) dX7_init_5 (by decide) ?_
  refine sw_newarray (pc := 7) (kd := 0) (a := 74) (n1 := 75) (N := 20) (ce1 := 1) (sl1 := 20) (v := .int 0) dX7_init_7 rfl wA_int rfl (fun U => sI_Cond_int U _) (by decide) (by decide) rfl (fun _ => rfl) rfl rfl rfl rfl rfl rfl ?_
  refine sw_putfinal (pc := 9) dX7_init_9 (gCX7 _ _ _ _ _) 0 (by decide) wF_X7_9 rfl rfl rfl rfl rfl (fun _ => rfl) (fun _ => rfl) rfl ?_
  refine sv_aload_n (pc := 12) dX7_init_12 rfl rfl ?_
  refine sv_bipush (pc := 13) (v := 8) dX7_init_13 (by decide) ?_
  refine sw_newarray (pc := 15) (kd := 0) (a := 75) (n1 := 76) (N := 8) (ce1 := 2) (sl1 := 28) (v := .int 0) dX7_init_15 rfl wA_int rfl (fun U => sI_Cond_int U _) (by decide) (by decide) rfl (fun _ => rfl) rfl rfl rfl rfl rfl rfl ?_
  refine sw_putfinal (pc := 17) dX7_init_17 (gCX7 _ _ _ _ _) 1 (by decide) wF_X7_15 rfl rfl rfl rfl rfl (fun _ => rfl) (fun _ => rfl) rfl ?_
  refine sv_aload_n (pc := 20) dX7_init_20 rfl rfl ?_
  refine sv_iconst (pc := 21) (v := (-1)) dX7_init_21 (by decide) ?_
  refine sw_putfield (pc := 22) dX7_init_22 (gCX7 _ _ _ _ _) 9 (by decide) wF_X7_18 rfl rfl rfl (fun _ => rfl) (fun _ => rfl) rfl ?_
  refine sv_vret (pc := 25) dX7_init_25 rfl (le_t rfl) (le_t rfl) ?_
  refine sw_putfinal (pc := 114) dX8_init_114 (gCX8 _ _ _ _ _) 8 (by decide) wF_X8_49 rfl rfl rfl rfl rfl (fun _ => rfl) (fun _ => rfl) rfl ?_
  refine sv_vret (pc := 117) dX8_init_117 rfl (le_t rfl) (le_t rfl) ?_
  refine sw_putfinal (pc := 85) dX11_init_85 (gCX11 _ _ _ _ _) 6 (by decide) wF_X11_51 rfl rfl rfl rfl rfl (fun _ => rfl) (fun _ => rfl) rfl ?_
  refine sv_aload_n (pc := 88) dX11_init_88 rfl rfl ?_
  refine sw_new (pc := 89) (a := 76) (n1 := 77) (ce1 := 76) (sl1 := 9163) (fs := zX3) dX11_init_89 (gCX3 _ _ _ _ _) wC_X11_55 wN_X3 wI_X3 zX3_ok rfl rfl rfl rfl rfl rfl ?_
  refine sv_dup (pc := 92) dX11_init_92 rfl ?_
  refine sv_callI (pc := 93) (M' := mX3_init) (d' := 19) (C' := 10) (S' := 2820) (av := []) ?_ (gOk _ _ _ _ _) dX11_init_93 (tX3_init _ _ _ _ _) rfl rfl wV_X3_init wM_X11_57 ⟨le_t rfl, le_t rfl⟩ ⟨le_t rfl, le_t rfl⟩ rfl (le_t rfl) (fun _ _ h => h)
  refine sC.of rfl (by decide) (le_t rfl) ?_
  refine sv_aload_n (pc := 0) dX3_init_0 rfl rfl ?_
  refine sv_objinit (pc := 1) dX3_init_1 wM_X3_3 wV_obj wK_obj ⟨le_t rfl, le_t rfl⟩ (le_t rfl) ?_
  refine sv_aload_n (pc := 4) dX3_init_4 rfl rfl ?_
  refine sv_sipush (pc := 5) (v := 256) dX3_init_5 (by decide) ?_
  refine sw_newarray (pc := 8) (kd := 0) (a := 77) (n1 := 78) (N := 256) (ce1 := 1) (sl1 := 256) (v := .int 0) dX3_init_8 rfl wA_int rfl (fun U => sI_Cond_int U _) (by decide) (by decide) rfl (fun _ => rfl) rfl rfl rfl rfl rfl rfl ?_
  refine sw_putfinal (pc := 10) dX3_init_10 (gCX3 _ _ _ _ _) 0 (by decide) wF_X3_11 rfl rfl rfl rfl rfl (fun _ => rfl) (fun _ => rfl) rfl ?_
  refine sv_aload_n (pc := 13) dX3_init_13 rfl rfl ?_
  refine sv_sipush (pc := 14) (v := 256) dX3_init_14 (by decide) ?_
  refine sw_newarray (pc := 17) (kd := 0) (a := 78) (n1 := 79) (N := 256) (ce1 := 2) (sl1 := 512) (v := .int 0) dX3_init_17 rfl wA_int rfl (fun U => sI_Cond_int U _) (by decide) (by decide) rfl (fun _ => rfl) rfl rfl rfl rfl rfl rfl ?_
  refine sw_putfinal (pc := 19) dX3_init_19 (gCX3 _ _ _ _ _) 1 (by decide) wF_X3_15 rfl rfl rfl rfl rfl (fun _ => rfl) (fun _ => rfl) rfl ?_
  refine sv_aload_n (pc := 22) dX3_init_22 rfl rfl ?_
  refine sv_bipush (pc := 23) (v := 8) dX3_init_23 (by decide) ?_
  refine sw_newarray (pc := 25) (kd := 0) (a := 79) (n1 := 80) (N := 8) (ce1 := 3) (sl1 := 520) (v := .int 0) dX3_init_25 rfl wA_int rfl (fun U => sI_Cond_int U _) (by decide) (by decide) rfl (fun _ => rfl) rfl rfl rfl rfl rfl rfl ?_
  refine sw_putfinal (pc := 27) dX3_init_27 (gCX3 _ _ _ _ _) 2 (by decide) wF_X3_18 rfl rfl rfl rfl rfl (fun _ => rfl) (fun _ => rfl) rfl ?_
  refine sv_aload_n (pc := 30) dX3_init_30 rfl rfl ?_
  refine sv_iconst (pc := 31) (v := 4) dX3_init_31 (by decide) ?_
  refine sw_newarray (pc := 32) (kd := 0) (a := 80) (n1 := 81) (N := 4) (ce1 := 4) (sl1 := 524) (v := .int 0) dX3_init_32 rfl wA_int rfl (fun U => sI_Cond_int U _) (by decide) (by decide) rfl (fun _ => rfl) rfl rfl rfl rfl rfl rfl ?_
  refine sv_dup (pc := 34) dX3_init_34 rfl ?_
  refine sv_iconst (pc := 35) (v := 0) dX3_init_35 (by decide) ?_
  refine sv_ldc (pc := 36) dX3_init_36 wG_X3_21 ?_
  refine sw_iastore (pc := 38) (k := 0) (v := .int (-99999999)) dX3_init_38 rfl rfl rfl (by decide) (by decide) rfl rfl ?_
  refine sv_dup (pc := 39) dX3_init_39 rfl ?_
  refine sv_iconst (pc := 40) (v := 1) dX3_init_40 (by decide) ?_
  refine sv_ldc (pc := 41) dX3_init_41 wG_X3_21 ?_
  refine sw_iastore (pc := 43) (k := 1) (v := .int (-99999999)) dX3_init_43 rfl rfl rfl (by decide) (by decide) rfl rfl ?_
  refine sv_dup (pc := 44) dX3_init_44 rfl ?_
  refine sv_iconst (pc := 45) (v := 2) dX3_init_45 (by decide) ?_
  refine sv_ldc (pc := 46) dX3_init_46 wG_X3_21 ?_
  refine sw_iastore (pc := 48) (k := 2) (v := .int (-99999999)) dX3_init_48 rfl rfl rfl (by decide) (by decide) rfl rfl ?_
  refine sv_dup (pc := 49) dX3_init_49 rfl ?_
  refine sv_iconst (pc := 50) (v := 3) dX3_init_50 (by decide) ?_
  refine sv_ldc (pc := 51) dX3_init_51 wG_X3_21 ?_
  refine sw_iastore (pc := 53) (k := 3) (v := .int (-99999999)) dX3_init_53 rfl rfl rfl (by decide) (by decide) rfl rfl ?_
  refine sw_putfinal (pc := 54) dX3_init_54 (gCX3 _ _ _ _ _) 3 (by decide) wF_X3_22 rfl rfl rfl rfl rfl (fun _ => rfl) (fun _ => rfl) rfl ?_
  refine sv_aload_n (pc := 57) dX3_init_57 rfl rfl ?_
  refine sw_new (pc := 58) (a := 81) (n1 := 82) (ce1 := 5) (sl1 := 536) (fs := zX7) dX3_init_58 (gCX7 _ _ _ _ _) wC_X3_25 wN_X7 wI_X7 zX7_ok rfl rfl rfl rfl rfl rfl ?_
  refine sv_dup (pc := 61) dX3_init_61 rfl ?_
  refine sv_callI (pc := 62) (M' := mX7_init) (d' := 18) (C' := 2) (S' := 28) (av := []) ?_ (gOk _ _ _ _ _) dX3_init_62 (tX7_init _ _ _ _ _) rfl rfl wV_X7_init wM_X3_27 ⟨le_t rfl, le_t rfl⟩ ⟨le_t rfl, le_t rfl⟩ rfl (le_t rfl) (fun _ _ h => h)
  refine sC.of rfl (by decide) (le_t rfl) ?_
  refine sv_aload_n (pc := 0) dX7_init_0 rfl rfl ?_
  refine sv_objinit (pc := 1) dX7_init_1 wM_X7_3 wV_obj wK_obj ⟨le_t rfl, le_t rfl⟩ (le_t rfl) ?_
  refine sv_aload_n (pc := 4) dX7_init_4 rfl rfl ?_
  refine sv_bipush (pc := 5) (v := 20) dX7_init_5 (by decide) ?_
  refine sw_newarray (pc := 7) (kd := 0) (a := 82) (n1 := 83) (N := 20) (ce1 := 1) (sl1 := 20) (v := .int 0) dX7_init_7 rfl wA_int rfl (fun U => sI_Cond_int U _) (by decide) (by decide) rfl (fun _ => rfl) rfl rfl rfl rfl rfl rfl ?_
  refine sw_putfinal (pc := 9) dX7_init_9 (gCX7 _ _ _ _ _) 0 (by decide) wF_X7_9 rfl rfl rfl rfl rfl (fun _ => rfl) (fun _ => rfl) rfl ?_
  refine sv_aload_n (pc := 12) dX7_init_12 rfl rfl ?_
  refine sv_bipush (pc := 13) (v := 8) dX7_init_13 (by decide) ?_
  refine sw_newarray (pc := 15) (kd := 0) (a := 83) (n1 := 84) (N := 8) (ce1 := 2) (sl1 := 28) (v := .int 0) dX7_init_15 rfl wA_int rfl (fun U => sI_Cond_int U _) (by decide) (by decide) rfl (fun _ => rfl) rfl rfl rfl rfl rfl rfl ?_
  refine sw_putfinal (pc := 17) dX7_init_17 (gCX7 _ _ _ _ _) 1 (by decide) wF_X7_15 rfl rfl rfl rfl rfl (fun _ => rfl) (fun _ => rfl) rfl ?_
  refine sv_aload_n (pc := 20) dX7_init_20 rfl rfl ?_
  refine sv_iconst (pc := 21) (v := (-1)) dX7_init_21 (by decide) ?_
  refine sw_putfield (pc := 22) dX7_init_22 (gCX7 _ _ _ _ _) 9 (by decide) wF_X7_18 rfl rfl rfl (fun _ => rfl) (fun _ => rfl) rfl ?_
  refine sv_vret (pc := 25) dX7_init_25 rfl (le_t rfl) (le_t rfl) ?_
  refine sw_putfinal (pc := 65) dX3_init_65 (gCX3 _ _ _ _ _) 9 (by decide) wF_X3_28 rfl rfl rfl rfl rfl (fun _ => rfl) (fun _ => rfl) rfl ?_
  refine sv_aload_n (pc := 68) dX3_init_68 rfl rfl ?_
  refine sv_sipush (pc := 69) (v := 1000) dX3_init_69 (by decide) ?_
  refine sw_newarray (pc := 72) (kd := 0) (a := 84) (n1 := 85) (N := 1000) (ce1 := 8) (sl1 := 1564) (v := .int 0) dX3_init_72 rfl wA_int rfl (fun U => sI_Cond_int U _) (by decide) (by decide) rfl (fun _ => rfl) rfl rfl rfl rfl rfl rfl ?_
  refine sw_putfinal (pc := 74) dX3_init_74 (gCX3 _ _ _ _ _) 10 (by decide) wF_X3_32 rfl rfl rfl rfl rfl (fun _ => rfl) (fun _ => rfl) rfl ?_
  refine sv_aload_n (pc := 77) dX3_init_77 rfl rfl ?_
  refine sv_sipush (pc := 78) (v := 1000) dX3_init_78 (by decide) ?_
  refine sw_newarray (pc := 81) (kd := 0) (a := 85) (n1 := 86) (N := 1000) (ce1 := 9) (sl1 := 2564) (v := .int 0) dX3_init_81 rfl wA_int rfl (fun U => sI_Cond_int U _) (by decide) (by decide) rfl (fun _ => rfl) rfl rfl rfl rfl rfl rfl ?_
  refine sw_putfinal (pc := 83) dX3_init_83 (gCX3 _ _ _ _ _) 11 (by decide) wF_X3_35 rfl rfl rfl rfl rfl (fun _ => rfl) (fun _ => rfl) rfl ?_
  refine sv_aload_n (pc := 86) dX3_init_86 rfl rfl ?_
  refine sv_sipush (pc := 87) (v := 256) dX3_init_87 (by decide) ?_
  refine sw_newarray (pc := 90) (kd := 0) (a := 86) (n1 := 87) (N := 256) (ce1 := 10) (sl1 := 2820) (v := .int 0) dX3_init_90 rfl wA_int rfl (fun U => sI_Cond_int U _) (by decide) (by decide) rfl (fun _ => rfl) rfl rfl rfl rfl rfl rfl ?_
  refine sw_putfinal (pc := 92) dX3_init_92 (gCX3 _ _ _ _ _) 12 (by decide) wF_X3_38 rfl rfl rfl rfl rfl (fun _ => rfl) (fun _ => rfl) rfl ?_
  refine sv_vret (pc := 95) dX3_init_95 rfl (le_t rfl) (le_t rfl) ?_
  refine sw_putfinal (pc := 96) dX11_init_96 (gCX11 _ _ _ _ _) 7 (by decide) wF_X11_58 rfl rfl rfl rfl rfl (fun _ => rfl) (fun _ => rfl) rfl ?_
  refine sv_aload_n (pc := 99) dX11_init_99 rfl rfl ?_
  refine sw_new (pc := 100) (a := 87) (n1 := 88) (ce1 := 87) (sl1 := 11994) (fs := zX2) dX11_init_100 (gCX2 _ _ _ _ _) wC_X11_62 wN_X2 wI_X2 zX2_ok rfl rfl rfl rfl rfl rfl ?_
  refine sv_dup (pc := 103) dX11_init_103 rfl ?_
  refine sv_aload_n (pc := 104) dX11_init_104 rfl rfl ?_
  refine sw_getfield (pc := 105) dX11_init_105 (gCX11 _ _ _ _ _) 3 (by decide) wF_X11_26 rfl rfl rfl ?_
  refine sv_callI (pc := 108) (M' := mX2_init) (d' := 19) (C' := 6) (S' := 90) (av := [.ref 6]) ?_ (gOk _ _ _ _ _) dX11_init_108 (tX2_init _ _ _ _ _) rfl rfl wV_X2_init wM_X11_64 ⟨le_t rfl, le_t rfl⟩ ⟨le_t rfl, le_t rfl⟩ rfl (le_t rfl) (fun _ _ h => h)
  refine sC.of rfl (by decide) (le_t rfl) ?_
  refine sv_aload_n (pc := 0) dX2_init_0 rfl rfl ?_
  refine sv_objinit (pc := 1) dX2_init_1 wM_X2_3 wV_obj wK_obj ⟨le_t rfl, le_t rfl⟩ (le_t rfl) ?_
  refine sv_aload_n (pc := 4) dX2_init_4 rfl rfl ?_
  refine sv_aload_n (pc := 5) dX2_init_5 rfl rfl ?_
  refine sw_putfinal (pc := 6) dX2_init_6 (gCX2 _ _ _ _ _) 0 (by decide) wF_X2_9 rfl rfl rfl rfl rfl (fun _ => rfl) (fun _ => rfl) rfl ?_
  refine sv_aload_n (pc := 9) dX2_init_9 rfl rfl ?_
  refine sv_bipush (pc := 10) (v := 11) dX2_init_10 (by decide) ?_
  refine sw_newarray (pc := 12) (kd := 0) (a := 88) (n1 := 89) (N := 11) (ce1 := 1) (sl1 := 11) (v := .int 0) dX2_init_12 rfl wA_int rfl (fun U => sI_Cond_int U _) (by decide) (by decide) rfl (fun _ => rfl) rfl rfl rfl rfl rfl rfl ?_
  refine sw_putfinal (pc := 14) dX2_init_14 (gCX2 _ _ _ _ _) 1 (by decide) wF_X2_15 rfl rfl rfl rfl rfl (fun _ => rfl) (fun _ => rfl) rfl ?_
  refine sv_aload_n (pc := 17) dX2_init_17 rfl rfl ?_
  refine sv_bipush (pc := 18) (v := 11) dX2_init_18 (by decide) ?_
  refine sw_newarray (pc := 20) (kd := 0) (a := 89) (n1 := 90) (N := 11) (ce1 := 2) (sl1 := 22) (v := .int 0) dX2_init_20 rfl wA_int rfl (fun U => sI_Cond_int U _) (by decide) (by decide) rfl (fun _ => rfl) rfl rfl rfl rfl rfl rfl ?_
  refine sw_putfinal (pc := 22) dX2_init_22 (gCX2 _ _ _ _ _) 8 (by decide) wF_X2_19 rfl rfl rfl rfl rfl (fun _ => rfl) (fun _ => rfl) rfl ?_
  refine sv_aload_n (pc := 25) dX2_init_25 rfl rfl ?_
  refine sv_bipush (pc := 26) (v := 16) dX2_init_26 (by decide) ?_
  refine sw_newarray (pc := 28) (kd := 0) (a := 90) (n1 := 91) (N := 16) (ce1 := 3) (sl1 := 38) (v := .int 0) dX2_init_28 rfl wA_int rfl (fun U => sI_Cond_int U _) (by decide) (by decide) rfl (fun _ => rfl) rfl rfl rfl rfl rfl rfl ?_
  refine sw_putfinal (pc := 30) dX2_init_30 (gCX2 _ _ _ _ _) 2 (by decide) wF_X2_22 rfl rfl rfl rfl rfl (fun _ => rfl) (fun _ => rfl) rfl ?_
  refine sv_aload_n (pc := 33) dX2_init_33 rfl rfl ?_
  refine sv_bipush (pc := 34) (v := 16) dX2_init_34 (by decide) ?_
  refine sw_newarray (pc := 36) (kd := 0) (a := 91) (n1 := 92) (N := 16) (ce1 := 4) (sl1 := 54) (v := .int 0) dX2_init_36 rfl wA_int rfl (fun U => sI_Cond_int U _) (by decide) (by decide) rfl (fun _ => rfl) rfl rfl rfl rfl rfl rfl ?_
  refine sw_putfinal (pc := 38) dX2_init_38 (gCX2 _ _ _ _ _) 3 (by decide) wF_X2_25 rfl rfl rfl rfl rfl (fun _ => rfl) (fun _ => rfl) rfl ?_
  refine sv_aload_n (pc := 41) dX2_init_41 rfl rfl ?_
  refine sv_bipush (pc := 42) (v := 16) dX2_init_42 (by decide) ?_
  refine sw_newarray (pc := 44) (kd := 0) (a := 92) (n1 := 93) (N := 16) (ce1 := 5) (sl1 := 70) (v := .int 0) dX2_init_44 rfl wA_int rfl (fun U => sI_Cond_int U _) (by decide) (by decide) rfl (fun _ => rfl) rfl rfl rfl rfl rfl rfl ?_
  refine sw_putfinal (pc := 46) dX2_init_46 (gCX2 _ _ _ _ _) 4 (by decide) wF_X2_28 rfl rfl rfl rfl rfl (fun _ => rfl) (fun _ => rfl) rfl ?_
  refine sv_aload_n (pc := 49) dX2_init_49 rfl rfl ?_
  refine sv_bipush (pc := 50) (v := 20) dX2_init_50 (by decide) ?_
  refine sw_newarray (pc := 52) (kd := 1) (a := 93) (n1 := 94) (N := 20) (ce1 := 6) (sl1 := 90) (v := .long 0) dX2_init_52 rfl wA_long rfl (fun U => sI_Cond_long U _) (by decide) (by decide) rfl (fun _ => rfl) rfl rfl rfl rfl rfl rfl ?_
  refine sw_putfinal (pc := 54) dX2_init_54 (gCX2 _ _ _ _ _) 5 (by decide) wF_X2_31 rfl rfl rfl rfl rfl (fun _ => rfl) (fun _ => rfl) rfl ?_
  refine sv_vret (pc := 57) dX2_init_57 rfl (le_t rfl) (le_t rfl) ?_
  refine sw_putfinal (pc := 111) dX11_init_111 (gCX11 _ _ _ _ _) 8 (by decide) wF_X11_65 rfl rfl rfl rfl rfl (fun _ => rfl) (fun _ => rfl) rfl ?_
  refine sv_aload_n (pc := 114) dX11_init_114 rfl rfl ?_
  refine sw_new (pc := 115) (a := 94) (n1 := 95) (ce1 := 94) (sl1 := 12099) (fs := zX4) dX11_init_115 (gCX4 _ _ _ _ _) wC_X11_69 wN_X4 wI_X4 zX4_ok rfl rfl rfl rfl rfl rfl ?_
  refine sv_dup (pc := 118) dX11_init_118 rfl ?_
  refine sv_callI (pc := 119) (M' := mX4_init) (d' := 19) (C' := 11) (S' := 423) (av := []) ?_ (gOk _ _ _ _ _) dX11_init_119 (tX4_init _ _ _ _ _) rfl rfl wV_X4_init wM_X11_71 ⟨le_t rfl, le_t rfl⟩ ⟨le_t rfl, le_t rfl⟩ rfl (le_t rfl) (fun _ _ h => h)
  refine sC.of rfl (by decide) (le_t rfl) ?_
  refine sv_aload_n (pc := 0) dX4_init_0 rfl rfl ?_
  refine sv_objinit (pc := 1) dX4_init_1 wM_X4_3 wV_obj wK_obj ⟨le_t rfl, le_t rfl⟩ (le_t rfl) ?_
  refine sv_aload_n (pc := 4) dX4_init_4 rfl rfl ?_
  refine sv_bipush (pc := 5) (v := 7) dX4_init_5 (by decide) ?_
  refine sw_newarray (pc := 7) (kd := 0) (a := 95) (n1 := 96) (N := 7) (ce1 := 1) (sl1 := 7) (v := .int 0) dX4_init_7 rfl wA_int rfl (fun U => sI_Cond_int U _) (by decide) (by decide) rfl (fun _ => rfl) rfl rfl rfl rfl rfl rfl ?_
  refine sw_putfinal (pc := 9) dX4_init_9 (gCX4 _ _ _ _ _) 12 (by decide) wF_X4_11 rfl rfl rfl rfl rfl (fun _ => rfl) (fun _ => rfl) rfl ?_
  refine sv_aload_n (pc := 12) dX4_init_12 rfl rfl ?_
  refine sv_sipush (pc := 13) (v := 245) dX4_init_13 (by decide) ?_
  refine sw_newarray (pc := 16) (kd := 0) (a := 96) (n1 := 97) (N := 245) (ce1 := 2) (sl1 := 252) (v := .int 0) dX4_init_16 rfl wA_int rfl (fun U => sI_Cond_int U _) (by decide) (by decide) rfl (fun _ => rfl) rfl rfl rfl rfl rfl rfl ?_
  refine sw_putfinal (pc := 18) dX4_init_18 (gCX4 _ _ _ _ _) 0 (by decide) wF_X4_15 rfl rfl rfl rfl rfl (fun _ => rfl) (fun _ => rfl) rfl ?_
  refine sv_aload_n (pc := 21) dX4_init_21 rfl rfl ?_
  refine sv_bipush (pc := 22) (v := 35) dX4_init_22 (by decide) ?_
  refine sw_newarray (pc := 24) (kd := 0) (a := 97) (n1 := 98) (N := 35) (ce1 := 3) (sl1 := 287) (v := .int 0) dX4_init_24 rfl wA_int rfl (fun U => sI_Cond_int U _) (by decide) (by decide) rfl (fun _ => rfl) rfl rfl rfl rfl rfl rfl ?_
  refine sw_putfinal (pc := 26) dX4_init_26 (gCX4 _ _ _ _ _) 1 (by decide) wF_X4_18 rfl rfl rfl rfl rfl (fun _ => rfl) (fun _ => rfl) rfl ?_
  refine sv_aload_n (pc := 29) dX4_init_29 rfl rfl ?_
  refine sv_bipush (pc := 30) (v := 35) dX4_init_30 (by decide) ?_
  refine sw_newarray (pc := 32) (kd := 0) (a := 98) (n1 := 99) (N := 35) (ce1 := 4) (sl1 := 322) (v := .int 0) dX4_init_32 rfl wA_int rfl (fun U => sI_Cond_int U _) (by decide) (by decide) rfl (fun _ => rfl) rfl rfl rfl rfl rfl rfl ?_
  refine sw_putfinal (pc := 34) dX4_init_34 (gCX4 _ _ _ _ _) 2 (by decide) wF_X4_21 rfl rfl rfl rfl rfl (fun _ => rfl) (fun _ => rfl) rfl ?_
  refine sv_aload_n (pc := 37) dX4_init_37 rfl rfl ?_
  refine sv_bipush (pc := 38) (v := 35) dX4_init_38 (by decide) ?_
  refine sw_newarray (pc := 40) (kd := 0) (a := 99) (n1 := 100) (N := 35) (ce1 := 5) (sl1 := 357) (v := .int 0) dX4_init_40 rfl wA_int rfl (fun U => sI_Cond_int U _) (by decide) (by decide) rfl (fun _ => rfl) rfl rfl rfl rfl rfl rfl ?_
  refine sw_putfinal (pc := 42) dX4_init_42 (gCX4 _ _ _ _ _) 3 (by decide) wF_X4_24 rfl rfl rfl rfl rfl (fun _ => rfl) (fun _ => rfl) rfl ?_
  refine sv_aload_n (pc := 45) dX4_init_45 rfl rfl ?_
  refine sv_bipush (pc := 46) (v := 7) dX4_init_46 (by decide) ?_
  refine sw_newarray (pc := 48) (kd := 0) (a := 100) (n1 := 101) (N := 7) (ce1 := 6) (sl1 := 364) (v := .int 0) dX4_init_48 rfl wA_int rfl (fun U => sI_Cond_int U _) (by decide) (by decide) rfl (fun _ => rfl) rfl rfl rfl rfl rfl rfl ?_
  refine sw_putfinal (pc := 50) dX4_init_50 (gCX4 _ _ _ _ _) 4 (by decide) wF_X4_27 rfl rfl rfl rfl rfl (fun _ => rfl) (fun _ => rfl) rfl ?_
  refine sv_aload_n (pc := 53) dX4_init_53 rfl rfl ?_
  refine sv_bipush (pc := 54) (v := 7) dX4_init_54 (by decide) ?_
  refine sw_newarray (pc := 56) (kd := 0) (a := 101) (n1 := 102) (N := 7) (ce1 := 7) (sl1 := 371) (v := .int 0) dX4_init_56 rfl wA_int rfl (fun U => sI_Cond_int U _) (by decide) (by decide) rfl (fun _ => rfl) rfl rfl rfl rfl rfl rfl ?_
  refine sw_putfinal (pc := 58) dX4_init_58 (gCX4 _ _ _ _ _) 5 (by decide) wF_X4_30 rfl rfl rfl rfl rfl (fun _ => rfl) (fun _ => rfl) rfl ?_
  refine sv_aload_n (pc := 61) dX4_init_61 rfl rfl ?_
  refine sv_bipush (pc := 62) (v := 16) dX4_init_62 (by decide) ?_
  refine sw_newarray (pc := 64) (kd := 0) (a := 102) (n1 := 103) (N := 16) (ce1 := 8) (sl1 := 387) (v := .int 0) dX4_init_64 rfl wA_int rfl (fun U => sI_Cond_int U _) (by decide) (by decide) rfl (fun _ => rfl) rfl rfl rfl rfl rfl rfl ?_
  refine sw_putfield (pc := 66) dX4_init_66 (gCX4 _ _ _ _ _) 6 (by decide) wF_X4_33 rfl rfl rfl (fun _ => rfl) (fun _ => rfl) rfl ?_
  refine sv_aload_n (pc := 69) dX4_init_69 rfl rfl ?_
  refine sv_bipush (pc := 70) (v := 16) dX4_init_70 (by decide) ?_
  refine sw_newarray (pc := 72) (kd := 0) (a := 103) (n1 := 104) (N := 16) (ce1 := 9) (sl1 := 403) (v := .int 0) dX4_init_72 rfl wA_int rfl (fun U => sI_Cond_int U _) (by decide) (by decide) rfl (fun _ => rfl) rfl rfl rfl rfl rfl rfl ?_
  refine sw_putfield (pc := 74) dX4_init_74 (gCX4 _ _ _ _ _) 7 (by decide) wF_X4_36 rfl rfl rfl (fun _ => rfl) (fun _ => rfl) rfl ?_
  refine sv_aload_n (pc := 77) dX4_init_77 rfl rfl ?_
  refine sv_bipush (pc := 78) (v := 16) dX4_init_78 (by decide) ?_
  refine sw_newarray (pc := 80) (kd := 2) (a := 104) (n1 := 105) (N := 16) (ce1 := 10) (sl1 := 419) (v := .int 0) dX4_init_80 rfl wA_byte rfl (fun U => sI_Cond_byte U _) (by decide) (by decide) rfl (fun _ => rfl) rfl rfl rfl rfl rfl rfl ?_
  refine sw_putfield (pc := 82) dX4_init_82 (gCX4 _ _ _ _ _) 8 (by decide) wF_X4_39 rfl rfl rfl (fun _ => rfl) (fun _ => rfl) rfl ?_
  refine sv_aload_n (pc := 85) dX4_init_85 rfl rfl ?_
  refine sv_iconst (pc := 86) (v := 4) dX4_init_86 (by decide) ?_
  refine sw_newarray (pc := 87) (kd := 0) (a := 105) (n1 := 106) (N := 4) (ce1 := 11) (sl1 := 423) (v := .int 0) dX4_init_87 rfl wA_int rfl (fun U => sI_Cond_int U _) (by decide) (by decide) rfl (fun _ => rfl) rfl rfl rfl rfl rfl rfl ?_
  refine sw_putfinal (pc := 89) dX4_init_89 (gCX4 _ _ _ _ _) 13 (by decide) wF_X4_43 rfl rfl rfl rfl rfl (fun _ => rfl) (fun _ => rfl) rfl ?_
  refine sv_vret (pc := 92) dX4_init_92 rfl (le_t rfl) (le_t rfl) ?_
  refine sw_putfinal (pc := 122) dX11_init_122 (gCX11 _ _ _ _ _) 9 (by decide) wF_X11_72 rfl rfl rfl rfl rfl (fun _ => rfl) (fun _ => rfl) rfl ?_
  refine sv_vret dX11_init_125 rfl (le_t rfl) (le_t rfl) ⟨rfl, rfl, fun j hj => ?_⟩
  match j, hj with
  | 0, _ => exact rfl
  | 1, _ => exact rfl
  | 2, _ => exact rfl
  | 3, _ => exact rfl
  | 4, _ => exact rfl
  | 5, _ => exact rfl
  | 6, _ => exact rfl
  | 7, _ => exact rfl
  | 8, _ => exact rfl
  | 9, _ => exact rfl
  | 10, _ => exact rfl
  | 11, _ => exact rfl
  | 12, _ => exact rfl
  | 13, _ => exact rfl
  | 14, _ => exact rfl
  | 15, _ => exact rfl
  | 16, _ => exact rfl
  | 17, _ => exact rfl
  | 18, _ => exact rfl
  | 19, _ => exact rfl
  | 20, _ => exact rfl
  | 21, _ => exact rfl
  | 22, _ => exact rfl
  | 23, _ => exact rfl
  | 24, _ => exact rfl
  | 25, _ => exact rfl
  | 26, _ => exact rfl
  | 27, _ => exact rfl
  | 28, _ => exact rfl
  | 29, _ => exact rfl
  | 30, _ => exact rfl
  | 31, _ => exact rfl
  | 32, _ => exact rfl
  | 33, _ => exact rfl
  | 34, _ => exact rfl
  | 35, _ => exact rfl
  | 36, _ => exact rfl
  | 37, _ => exact rfl
  | 38, _ => exact rfl
  | 39, _ => exact rfl
  | 40, _ => exact rfl
  | 41, _ => exact rfl
  | 42, _ => exact rfl
  | 43, _ => exact rfl
  | 44, _ => exact rfl
  | 45, _ => exact rfl
  | 46, _ => exact rfl
  | 47, _ => exact rfl
  | 48, _ => exact rfl
  | 49, _ => exact rfl
  | 50, _ => exact rfl
  | 51, _ => exact rfl
  | 52, _ => exact rfl
  | 53, _ => exact rfl
  | 54, _ => exact rfl
  | 55, _ => exact rfl
  | 56, _ => exact rfl
  | 57, _ => exact rfl
  | 58, _ => exact rfl
  | 59, _ => exact rfl
  | 60, _ => exact rfl
  | 61, _ => exact rfl
  | 62, _ => exact rfl
  | 63, _ => exact rfl
  | 64, _ => exact rfl
  | 65, _ => exact rfl
  | 66, _ => exact rfl
  | 67, _ => exact rfl
  | 68, _ => exact rfl
  | 69, _ => exact rfl
  | 70, _ => exact rfl
  | 71, _ => exact rfl
  | 72, _ => exact rfl
  | 73, _ => exact rfl
  | 74, _ => exact rfl
  | 75, _ => exact rfl
  | 76, _ => exact rfl
  | 77, _ => exact rfl
  | 78, _ => exact rfl
  | 79, _ => exact rfl
  | 80, _ => exact rfl
  | 81, _ => exact rfl
  | 82, _ => exact rfl
  | 83, _ => exact rfl
  | 84, _ => exact rfl
  | 85, _ => exact rfl
  | 86, _ => exact rfl
  | 87, _ => exact rfl
  | 88, _ => exact rfl
  | 89, _ => exact rfl
  | 90, _ => exact rfl
  | 91, _ => exact rfl
  | 92, _ => exact rfl
  | 93, _ => exact rfl
  | 94, _ => exact rfl
  | 95, _ => exact rfl
  | 96, _ => exact rfl
  | 97, _ => exact rfl
  | 98, _ => exact rfl
  | 99, _ => exact rfl
  | 100, _ => exact rfl
  | 101, _ => exact rfl
  | 102, _ => exact rfl
  | 103, _ => exact rfl
  | 104, _ => exact rfl
  | 105, _ => exact rfl
  | n + 106, h => exact absurd h (by omega)
