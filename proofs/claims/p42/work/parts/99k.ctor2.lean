/-- the cells of a new DomainHouse and a new DomainHouseModel behind it -/
def tM : Nat → sE := fun j => match j with
  | 0 => .inr (12, [.ref 107, .int 0, .int 0, .ref 108, .ref 109, .int 0, .int 0, .ref 110, .ref 111, .ref 112, .ref 113, .ref 114, .ref 115, .ref 116, .ref 117, .int 0, .ref 118, .int 0, .int 0, .ref 119, .ref 120, .ref 121, .ref 122, .ref 123, .ref 124, .ref 125, .int 0, .int 0, .int 0, .int 0, .int 0, .int 0, .ref 126, .int 0, .int 0, .int 0, .int 0, .int 0, .int 0, .int 0, .ref 127, .ref 128, .ref 129, .ref 130, .ref 131, .ref 132, .ref 133, .ref 134, .ref 135, .ref 136, .ref 137, .ref 138, .ref 139, .ref 140, .ref 141, .ref 142, .ref 143, .ref 144, .int 0, .int 0, .ref 145, .ref 146, .ref 147, .ref 148, .ref 149, .ref 150, .int 0, .ref 151, .ref 152, .ref 153, .int 0, .int 0, .int 0, .int 0, .ref 154, .ref 155, .ref 156, .ref 157, .ref 158, .ref 159, .ref 160, .ref 161, .ref 162, .ref 163, .ref 164, .ref 165, .ref 166, .ref 167, .int 0, .ref 168, .ref 169, .int 0, .ref 170, .int 0, .ref 171, .ref 172, .int 0, .int 0, .int 0, .int 0, .ref 173, .int 0, .int 0, .ref 174, .int 0, .ref 175, .int 0, .ref 176, .int 0, .int 0, .ref 177, .ref 178, .ref 179, .ref 180, .ref 181, .ref 182, .int 0, .ref 183, .ref 184, .ref 185, .ref 186, .ref 187, .ref 188, .ref 189, .ref 190, .ref 191])
  | 1 => .inl (2, 1000, fun _ => .int 0)
  | 2 => .inl (0, 10, fun _ => .int 0)
  | 3 => .inl (0, 10, fun _ => .int 0)
  | 4 => .inl (0, 40, fun _ => .int 0)
  | 5 => .inl (0, 20, fun _ => .int 0)
  | 6 => .inl (3, 20, fun _ => .int 0)
  | 7 => .inl (0, 20, fun _ => .int 0)
  | 8 => .inl (0, 20, fun _ => .int 0)
  | 9 => .inl (0, 80, fun _ => .int 0)
  | 10 => .inl (3, 10, fun _ => .int 0)
  | 11 => .inl (0, 10, fun _ => .int 0)
  | 12 => .inl (0, 20, fun _ => .int 0)
  | 13 => .inl (0, 30, fun _ => .int 0)
  | 14 => .inl (0, 30, fun _ => .int 0)
  | 15 => .inl (0, 30, fun _ => .int 0)
  | 16 => .inl (0, 30, fun _ => .int 0)
  | 17 => .inl (0, 30, fun _ => .int 0)
  | 18 => .inl (0, 30, fun _ => .int 0)
  | 19 => .inl (0, 30, fun _ => .int 0)
  | 20 => .inl (0, 84000, updV (sStr 1400 (fun _ => .int 0)) 0 (.int (-1)))
  | 21 => .inl (0, 13, fun _ => .int 0)
  | 22 => .inl (0, 403, fun _ => .int 0)
  | 23 => .inl (0, 403, fun _ => .int 0)
  | 24 => .inl (0, 13, fun _ => .int 0)
  | 25 => .inl (0, 13, fun _ => .int 0)
  | 26 => .inl (0, 3900, fun _ => .int 0)
  | 27 => .inl (3, 3900, fun _ => .int 0)
  | 28 => .inl (0, 3900, fun _ => .int 0)
  | 29 => .inl (0, 3900, fun _ => .int 0)
  | 30 => .inl (0, 3900, fun _ => .int 0)
  | 31 => .inl (1, 3900, fun _ => .long 0)
  | 32 => .inl (1, 3900, fun _ => .long 0)
  | 33 => .inl (3, 3900, fun _ => .int 0)
  | 34 => .inl (0, 3900, fun _ => .int 0)
  | 35 => .inl (0, 3900, fun _ => .int 0)
  | 36 => .inl (0, 13, fun _ => .int 0)
  | 37 => .inl (0, 533, fun _ => .int 0)
  | 38 => .inl (1, 533, fun _ => .long 0)
  | 39 => .inl (1, 10, fun _ => .long 0)
  | 40 => .inl (1, 10, fun _ => .long 0)
  | 41 => .inl (3, 10, fun _ => .int 0)
  | 42 => .inl (1, 10, fun _ => .long 0)
  | 43 => .inl (1, 10, fun _ => .long 0)
  | 44 => .inl (3, 10, fun _ => .int 0)
  | 45 => .inl (0, 14, fun _ => .int 0)
  | 46 => .inl (0, 14, fun _ => .int 0)
  | 47 => .inl (0, 14, fun _ => .int 0)
  | 48 => .inl (0, 400, fun _ => .int 0)
  | 49 => .inl (3, 400, fun _ => .int 0)
  | 50 => .inl (0, 400, fun _ => .int 0)
  | 51 => .inl (0, 400, sFill 400 (.int (-1)) (fun _ => .int 0))
  | 52 => .inl (0, 400, fun _ => .int 0)
  | 53 => .inl (0, 400, sFill 400 (.int (-1)) (fun _ => .int 0))
  | 54 => .inl (0, 400, fun _ => .int 0)
  | 55 => .inl (0, 100, sFill 100 (.int (-99999999)) (fun _ => .int 0))
  | 56 => .inl (0, 100, sFill 100 (.int (-1)) (fun _ => .int 0))
  | 57 => .inl (0, 60, updV (updV (updV (updV (updV (updV (updV (updV (updV (updV (updV (updV (updV (updV (updV (updV (updV (updV (updV (updV (updV (updV (updV (updV (updV (updV (updV (updV (updV (updV (updV (updV (updV (updV (updV (updV (updV (updV (updV (updV (updV (updV (updV (updV (updV (updV (updV (updV (updV (updV (fun _ => .int 0) 0 (.int 1)) 1 (.int 2)) 2 (.int 3)) 3 (.int 4)) 4 (.int 5)) 6 (.int 1)) 7 (.int 2)) 8 (.int 3)) 9 (.int 4)) 10 (.int 5)) 12 (.int 1)) 13 (.int 2)) 14 (.int 3)) 15 (.int 4)) 16 (.int 5)) 18 (.int 1)) 19 (.int 2)) 20 (.int 3)) 21 (.int 4)) 22 (.int 5)) 24 (.int 1)) 25 (.int 2)) 26 (.int 3)) 27 (.int 4)) 28 (.int 5)) 30 (.int 1)) 31 (.int 2)) 32 (.int 3)) 33 (.int 4)) 34 (.int 5)) 36 (.int 1)) 37 (.int 2)) 38 (.int 3)) 39 (.int 4)) 40 (.int 5)) 42 (.int 1)) 43 (.int 2)) 44 (.int 3)) 45 (.int 4)) 46 (.int 5)) 48 (.int 1)) 49 (.int 2)) 50 (.int 3)) 51 (.int 4)) 52 (.int 5)) 54 (.int 1)) 55 (.int 2)) 56 (.int 3)) 57 (.int 4)) 58 (.int 5))
  | 58 => .inl (3, 10, fun _ => .int 0)
  | 59 => .inl (3, 20, fun _ => .int 0)
  | 60 => .inl (0, 1000, fun _ => .int 0)
  | 61 => .inl (0, 1000, fun _ => .int 0)
  | 62 => .inl (0, 1000, fun _ => .int 0)
  | 63 => .inl (0, 1000, fun _ => .int 0)
  | 64 => .inl (0, 400, fun _ => .int 0)
  | 65 => .inl (3, 256, fun _ => .int 0)
  | 66 => .inl (0, 4, fun _ => .int 0)
  | 67 => .inl (0, 8, fun _ => .int 0)
  | 68 => .inl (0, 300, fun _ => .int 0)
  | 69 => .inl (0, 12, fun _ => .int 0)
  | 70 => .inl (0, 12, fun _ => .int 0)
  | 71 => .inl (0, 16, fun _ => .int 0)
  | 72 => .inl (0, 16, fun _ => .int 0)
  | 73 => .inl (0, 16, fun _ => .int 0)
  | 74 => .inl (0, 400, fun _ => .int 0)
  | 75 => .inl (0, 400, fun _ => .int 0)
  | 76 => .inl (0, 8800, fun _ => .int 0)
  | 77 => .inl (1, 24, fun _ => .long 0)
  | 78 => .inl (0, 7, fun _ => .int 0)
  | 79 => .inl (0, 35, fun _ => .int 0)
  | 80 => .inl (0, 280, fun _ => .int 0)
  | 81 => .inl (0, 8, fun _ => .int 0)
  | 82 => .inl (0, 7, fun _ => .int 0)
  | 83 => .inl (0, 46656, fun _ => .int 0)
  | 84 => .inl (0, 46656, fun _ => .int 0)
  | 85 => .inl (3, 46656, fun _ => .int 0)
  | _ => .inr (0, [])
def tF : Nat → sE := fun j => if j < 106 then tC j else tM (j - 106)
set_option maxHeartbeats 40000000 in
set_option maxRecDepth 100000 in
theorem ctorM (l : Launch) (D : va_G) (c : Nat → ClassId) (H0 : Heap) (sa : Nat × Nat × (Nat → Int32)) : sC (gG l D c H0 sa) mX12_init 20 85 284555 [.ref 106] (107, sUp tC 106 (.inr (12, zX12))) (fun r hp => r = none ∧ hp.1 = 192 ∧ ∀ j, j < 192 → hp.2 j = tF j) := by
  refine sC.of rfl (by decide) (le_t rfl) ?_
  refine sv_aload_n (pc := 0) dX12_init_0 rfl rfl ?_
  refine sv_objinit (pc := 1) dX12_init_1 wM_X12_418 wV_obj wK_obj ⟨le_t rfl, le_t rfl⟩ (le_t rfl) ?_
  refine sv_aload_n (pc := 4) dX12_init_4 rfl rfl ?_
  refine sv_sipush (pc := 5) (v := 1000) dX12_init_5 (by decide) ?_
  refine sw_newarray (pc := 8) (kd := 2) (a := 107) (n1 := 108) (N := 1000) (ce1 := 1) (sl1 := 1000) (v := .int 0) dX12_init_8 rfl wA_byte rfl (fun U => sI_Cond_byte U _) (by decide) (by decide) rfl (fun _ => rfl) rfl rfl rfl rfl rfl rfl ?_
  refine sw_putfinal (pc := 10) dX12_init_10 (gCX12 _ _ _ _ _) 0 (by decide) wF_X12_7 rfl rfl rfl rfl rfl (fun _ => rfl) (fun _ => rfl) rfl ?_
  refine sv_aload_n (pc := 13) dX12_init_13 rfl rfl ?_
  refine sv_bipush (pc := 14) (v := 10) dX12_init_14 (by decide) ?_
  refine sw_newarray (pc := 16) (kd := 0) (a := 108) (n1 := 109) (N := 10) (ce1 := 2) (sl1 := 1010) (v := .int 0) dX12_init_16 rfl wA_int rfl (fun U => sI_Cond_int U _) (by decide) (by decide) rfl (fun _ => rfl) rfl rfl rfl rfl rfl rfl ?_
  refine sw_putfinal (pc := 18) dX12_init_18 (gCX12 _ _ _ _ _) 3 (by decide) wF_X12_22 rfl rfl rfl rfl rfl (fun _ => rfl) (fun _ => rfl) rfl ?_
  refine sv_aload_n (pc := 21) dX12_init_21 rfl rfl ?_
  refine sv_bipush (pc := 22) (v := 10) dX12_init_22 (by decide) ?_
  refine sw_newarray (pc := 24) (kd := 0) (a := 109) (n1 := 110) (N := 10) (ce1 := 3) (sl1 := 1020) (v := .int 0) dX12_init_24 rfl wA_int rfl (fun U => sI_Cond_int U _) (by decide) (by decide) rfl (fun _ => rfl) rfl rfl rfl rfl rfl rfl ?_
  refine sw_putfinal (pc := 26) dX12_init_26 (gCX12 _ _ _ _ _) 4 (by decide) wF_X12_26 rfl rfl rfl rfl rfl (fun _ => rfl) (fun _ => rfl) rfl ?_
  refine sv_aload_n (pc := 29) dX12_init_29 rfl rfl ?_
  refine sv_bipush (pc := 30) (v := 40) dX12_init_30 (by decide) ?_
  refine sw_newarray (pc := 32) (kd := 0) (a := 110) (n1 := 111) (N := 40) (ce1 := 4) (sl1 := 1060) (v := .int 0) dX12_init_32 rfl wA_int rfl (fun U => sI_Cond_int U _) (by decide) (by decide) rfl (fun _ => rfl) rfl rfl rfl rfl rfl rfl ?_
  refine sw_putfinal (pc := 34) dX12_init_34 (gCX12 _ _ _ _ _) 7 (by decide) wF_X12_40 rfl rfl rfl rfl rfl (fun _ => rfl) (fun _ => rfl) rfl ?_
  refine sv_aload_n (pc := 37) dX12_init_37 rfl rfl ?_
  refine sv_bipush (pc := 38) (v := 20) dX12_init_38 (by decide) ?_
  refine sw_newarray (pc := 40) (kd := 0) (a := 111) (n1 := 112) (N := 20) (ce1 := 5) (sl1 := 1080) (v := .int 0) dX12_init_40 rfl wA_int rfl (fun U => sI_Cond_int U _) (by decide) (by decide) rfl (fun _ => rfl) rfl rfl rfl rfl rfl rfl ?_
  refine sw_putfinal (pc := 42) dX12_init_42 (gCX12 _ _ _ _ _) 8 (by decide) wF_X12_46 rfl rfl rfl rfl rfl (fun _ => rfl) (fun _ => rfl) rfl ?_
  refine sv_aload_n (pc := 45) dX12_init_45 rfl rfl ?_
  refine sv_bipush (pc := 46) (v := 20) dX12_init_46 (by decide) ?_
  refine sw_newarray (pc := 48) (kd := 3) (a := 112) (n1 := 113) (N := 20) (ce1 := 6) (sl1 := 1100) (v := .int 0) dX12_init_48 rfl wA_boolean rfl (fun U => sI_Cond_boolean U _) (by decide) (by decide) rfl (fun _ => rfl) rfl rfl rfl rfl rfl rfl ?_
  refine sw_putfinal (pc := 50) dX12_init_50 (gCX12 _ _ _ _ _) 9 (by decide) wF_X12_53 rfl rfl rfl rfl rfl (fun _ => rfl) (fun _ => rfl) rfl ?_
  refine sv_aload_n (pc := 53) dX12_init_53 rfl rfl ?_
  refine sv_bipush (pc := 54) (v := 20) dX12_init_54 (by decide) ?_
  refine sw_newarray (pc := 56) (kd := 0) (a := 113) (n1 := 114) (N := 20) (ce1 := 7) (sl1 := 1120) (v := .int 0) dX12_init_56 rfl wA_int rfl (fun U => sI_Cond_int U _) (by decide) (by decide) rfl (fun _ => rfl) rfl rfl rfl rfl rfl rfl ?_
  refine sw_putfinal (pc := 58) dX12_init_58 (gCX12 _ _ _ _ _) 10 (by decide) wF_X12_57 rfl rfl rfl rfl rfl (fun _ => rfl) (fun _ => rfl) rfl ?_
  refine sv_aload_n (pc := 61) dX12_init_61 rfl rfl ?_
  refine sv_bipush (pc := 62) (v := 20) dX12_init_62 (by decide) ?_
  refine sw_newarray (pc := 64) (kd := 0) (a := 114) (n1 := 115) (N := 20) (ce1 := 8) (sl1 := 1140) (v := .int 0) dX12_init_64 rfl wA_int rfl (fun U => sI_Cond_int U _) (by decide) (by decide) rfl (fun _ => rfl) rfl rfl rfl rfl rfl rfl ?_
  refine sw_putfinal (pc := 66) dX12_init_66 (gCX12 _ _ _ _ _) 11 (by decide) wF_X12_60 rfl rfl rfl rfl rfl (fun _ => rfl) (fun _ => rfl) rfl ?_
  refine sv_aload_n (pc := 69) dX12_init_69 rfl rfl ?_
  refine sv_bipush (pc := 70) (v := 80) dX12_init_70 (by decide) ?_
  refine sw_newarray (pc := 72) (kd := 0) (a := 115) (n1 := 116) (N := 80) (ce1 := 9) (sl1 := 1220) (v := .int 0) dX12_init_72 rfl wA_int rfl (fun U => sI_Cond_int U _) (by decide) (by decide) rfl (fun _ => rfl) rfl rfl rfl rfl rfl rfl ?_
  refine sw_putfinal (pc := 74) dX12_init_74 (gCX12 _ _ _ _ _) 12 (by decide) wF_X12_63 rfl rfl rfl rfl rfl (fun _ => rfl) (fun _ => rfl) rfl ?_
  refine sv_aload_n (pc := 77) dX12_init_77 rfl rfl ?_
  refine sv_bipush (pc := 78) (v := 10) dX12_init_78 (by decide) ?_
  refine sw_newarray (pc := 80) (kd := 3) (a := 116) (n1 := 117) (N := 10) (ce1 := 10) (sl1 := 1230) (v := .int 0) dX12_init_80 rfl wA_boolean rfl (fun U => sI_Cond_boolean U _) (by decide) (by decide) rfl (fun _ => rfl) rfl rfl rfl rfl rfl rfl ?_
  refine sw_putfinal (pc := 82) dX12_init_82 (gCX12 _ _ _ _ _) 13 (by decide) wF_X12_69 rfl rfl rfl rfl rfl (fun _ => rfl) (fun _ => rfl) rfl ?_
  refine sv_aload_n (pc := 85) dX12_init_85 rfl rfl ?_
  refine sv_bipush (pc := 86) (v := 10) dX12_init_86 (by decide) ?_
  refine sw_newarray (pc := 88) (kd := 0) (a := 117) (n1 := 118) (N := 10) (ce1 := 11) (sl1 := 1240) (v := .int 0) dX12_init_88 rfl wA_int rfl (fun U => sI_Cond_int U _) (by decide) (by decide) rfl (fun _ => rfl) rfl rfl rfl rfl rfl rfl ?_
  refine sw_putfinal (pc := 90) dX12_init_90 (gCX12 _ _ _ _ _) 14 (by decide) wF_X12_72 rfl rfl rfl rfl rfl (fun _ => rfl) (fun _ => rfl) rfl ?_
  refine sv_aload_n (pc := 93) dX12_init_93 rfl rfl ?_
  refine sv_bipush (pc := 94) (v := 20) dX12_init_94 (by decide) ?_
  refine sw_newarray (pc := 96) (kd := 0) (a := 118) (n1 := 119) (N := 20) (ce1 := 12) (sl1 := 1260) (v := .int 0) dX12_init_96 rfl wA_int rfl (fun U => sI_Cond_int U _) (by decide) (by decide) rfl (fun _ => rfl) rfl rfl rfl rfl rfl rfl ?_
  refine sw_putfinal (pc := 98) dX12_init_98 (gCX12 _ _ _ _ _) 16 (by decide) wF_X12_82 rfl rfl rfl rfl rfl (fun _ => rfl) (fun _ => rfl) rfl ?_
  refine sv_aload_n (pc := 101) dX12_init_101 rfl rfl ?_
  refine sv_bipush (pc := 102) (v := 30) dX12_init_102 (by decide) ?_
  refine sw_newarray (pc := 104) (kd := 0) (a := 119) (n1 := 120) (N := 30) (ce1 := 13) (sl1 := 1290) (v := .int 0) dX12_init_104 rfl wA_int rfl (fun U => sI_Cond_int U _) (by decide) (by decide) rfl (fun _ => rfl) rfl rfl rfl rfl rfl rfl ?_
  refine sw_putfinal (pc := 106) dX12_init_106 (gCX12 _ _ _ _ _) 19 (by decide) wF_X12_98 rfl rfl rfl rfl rfl (fun _ => rfl) (fun _ => rfl) rfl ?_
  refine sv_aload_n (pc := 109) dX12_init_109 rfl rfl ?_
  refine sv_bipush (pc := 110) (v := 30) dX12_init_110 (by decide) ?_
  refine sw_newarray (pc := 112) (kd := 0) (a := 120) (n1 := 121) (N := 30) (ce1 := 14) (sl1 := 1320) (v := .int 0) dX12_init_112 rfl wA_int rfl (fun U => sI_Cond_int U _) (by decide) (by decide) rfl (fun _ => rfl) rfl rfl rfl rfl rfl rfl ?_
  refine sw_putfinal (pc := 114) dX12_init_114 (gCX12 _ _ _ _ _) 20 (by decide) wF_X12_101 rfl rfl rfl rfl rfl (fun _ => rfl) (fun _ => rfl) rfl ?_
  refine sv_aload_n (pc := 117) dX12_init_117 rfl rfl ?_
  refine sv_bipush (pc := 118) (v := 30) dX12_init_118 (by decide) ?_
  refine sw_newarray (pc := 120) (kd := 0) (a := 121) (n1 := 122) (N := 30) (ce1 := 15) (sl1 := 1350) (v := .int 0) dX12_init_120 rfl wA_int rfl (fun U => sI_Cond_int U _) (by decide) (by decide) rfl (fun _ => rfl) rfl rfl rfl rfl rfl rfl ?_
  refine sw_putfinal (pc := 122) dX12_init_122 (gCX12 _ _ _ _ _) 21 (by decide) wF_X12_104 rfl rfl rfl rfl rfl (fun _ => rfl) (fun _ => rfl) rfl ?_
  refine sv_aload_n (pc := 125) dX12_init_125 rfl rfl ?_
  refine sv_bipush (pc := 126) (v := 30) dX12_init_126 (by decide) ?_
  refine sw_newarray (pc := 128) (kd := 0) (a := 122) (n1 := 123) (N := 30) (ce1 := 16) (sl1 := 1380) (v := .int 0) dX12_init_128 rfl wA_int rfl (fun U => sI_Cond_int U _) (by decide) (by decide) rfl (fun _ => rfl) rfl rfl rfl rfl rfl rfl ?_
  refine sw_putfinal (pc := 130) dX12_init_130 (gCX12 _ _ _ _ _) 22 (by decide) wF_X12_107 rfl rfl rfl rfl rfl (fun _ => rfl) (fun _ => rfl) rfl ?_
  refine sv_aload_n (pc := 133) dX12_init_133 rfl rfl ?_
  refine sv_bipush (pc := 134) (v := 30) dX12_init_134 (by decide) ?_
  refine sw_newarray (pc := 136) (kd := 0) (a := 123) (n1 := 124) (N := 30) (ce1 := 17) (sl1 := 1410) (v := .int 0) dX12_init_136 rfl wA_int rfl (fun U => sI_Cond_int U _) (by decide) (by decide) rfl (fun _ => rfl) rfl rfl rfl rfl rfl rfl ?_
  refine sw_putfinal (pc := 138) dX12_init_138 (gCX12 _ _ _ _ _) 23 (by decide) wF_X12_110 rfl rfl rfl rfl rfl (fun _ => rfl) (fun _ => rfl) rfl ?_
  refine sv_aload_n (pc := 141) dX12_init_141 rfl rfl ?_
  refine sv_bipush (pc := 142) (v := 30) dX12_init_142 (by decide) ?_
  refine sw_newarray (pc := 144) (kd := 0) (a := 124) (n1 := 125) (N := 30) (ce1 := 18) (sl1 := 1440) (v := .int 0) dX12_init_144 rfl wA_int rfl (fun U => sI_Cond_int U _) (by decide) (by decide) rfl (fun _ => rfl) rfl rfl rfl rfl rfl rfl ?_
  refine sw_putfinal (pc := 146) dX12_init_146 (gCX12 _ _ _ _ _) 24 (by decide) wF_X12_113 rfl rfl rfl rfl rfl (fun _ => rfl) (fun _ => rfl) rfl ?_
  refine sv_aload_n (pc := 149) dX12_init_149 rfl rfl ?_
  refine sv_bipush (pc := 150) (v := 30) dX12_init_150 (by decide) ?_
  refine sw_newarray (pc := 152) (kd := 0) (a := 125) (n1 := 126) (N := 30) (ce1 := 19) (sl1 := 1470) (v := .int 0) dX12_init_152 rfl wA_int rfl (fun U => sI_Cond_int U _) (by decide) (by decide) rfl (fun _ => rfl) rfl rfl rfl rfl rfl rfl ?_
  refine sw_putfinal (pc := 154) dX12_init_154 (gCX12 _ _ _ _ _) 25 (by decide) wF_X12_116 rfl rfl rfl rfl rfl (fun _ => rfl) (fun _ => rfl) rfl ?_
  refine sv_aload_n (pc := 157) dX12_init_157 rfl rfl ?_
  refine sv_ldcw (pc := 158) dX12_init_158 wG_X12_423 ?_
  refine sw_newarray (pc := 161) (kd := 0) (a := 126) (n1 := 127) (N := 84000) (ce1 := 20) (sl1 := 85470) (v := .int 0) dX12_init_161 rfl wA_int rfl (fun U => sI_Cond_int U _) (by decide) (by decide) rfl (fun _ => rfl) rfl rfl rfl rfl rfl rfl ?_
  refine sw_putfinal (pc := 163) dX12_init_163 (gCX12 _ _ _ _ _) 32 (by decide) wF_X12_148 rfl rfl rfl rfl rfl (fun _ => rfl) (fun _ => rfl) rfl ?_
  refine sv_aload_n (pc := 166) dX12_init_166 rfl rfl ?_
  refine sv_bipush (pc := 167) (v := 13) dX12_init_167 (by decide) ?_
  refine sw_newarray (pc := 169) (kd := 0) (a := 127) (n1 := 128) (N := 13) (ce1 := 21) (sl1 := 85483) (v := .int 0) dX12_init_169 rfl wA_int rfl (fun U => sI_Cond_int U _) (by decide) (by decide) rfl (fun _ => rfl) rfl rfl rfl rfl rfl rfl ?_
  refine sw_putfinal (pc := 171) dX12_init_171 (gCX12 _ _ _ _ _) 40 (by decide) wF_X12_358 rfl rfl rfl rfl rfl (fun _ => rfl) (fun _ => rfl) rfl ?_
  refine sv_aload_n (pc := 174) dX12_init_174 rfl rfl ?_
  refine sv_sipush (pc := 175) (v := 403) dX12_init_175 (by decide) ?_
  refine sw_newarray (pc := 178) (kd := 0) (a := 128) (n1 := 129) (N := 403) (ce1 := 22) (sl1 := 85886) (v := .int 0) dX12_init_178 rfl wA_int rfl (fun U => sI_Cond_int U _) (by decide) (by decide) rfl (fun _ => rfl) rfl rfl rfl rfl rfl rfl ?_
  refine sw_putfinal (pc := 180) dX12_init_180 (gCX12 _ _ _ _ _) 41 (by decide) wF_X12_361 rfl rfl rfl rfl rfl (fun _ => rfl) (fun _ => rfl) rfl ?_
  refine sv_aload_n (pc := 183) dX12_init_183 rfl rfl ?_
  refine sv_sipush (pc := 184) (v := 403) dX12_init_184 (by decide) ?_
  refine sw_newarray (pc := 187) (kd := 0) (a := 129) (n1 := 130) (N := 403) (ce1 := 23) (sl1 := 86289) (v := .int 0) dX12_init_187 rfl wA_int rfl (fun U => sI_Cond_int U _) (by decide) (by decide) rfl (fun _ => rfl) rfl rfl rfl rfl rfl rfl ?_
  refine sw_putfinal (pc := 189) dX12_init_189 (gCX12 _ _ _ _ _) 42 (by decide) wF_X12_364 rfl rfl rfl rfl rfl (fun _ => rfl) (fun _ => rfl) rfl ?_
  refine sv_aload_n (pc := 192) dX12_init_192 rfl rfl ?_
  refine sv_bipush (pc := 193) (v := 13) dX12_init_193 (by decide) ?_
  refine sw_newarray (pc := 195) (kd := 0) (a := 130) (n1 := 131) (N := 13) (ce1 := 24) (sl1 := 86302) (v := .int 0) dX12_init_195 rfl wA_int rfl (fun U => sI_Cond_int U _) (by decide) (by decide) rfl (fun _ => rfl) rfl rfl rfl rfl rfl rfl ?_
  refine sw_putfinal (pc := 197) dX12_init_197 (gCX12 _ _ _ _ _) 43 (by decide) wF_X12_320 rfl rfl rfl rfl rfl (fun _ => rfl) (fun _ => rfl) rfl ?_
  refine sv_aload_n (pc := 200) dX12_init_200 rfl rfl ?_
  refine sv_bipush (pc := 201) (v := 13) dX12_init_201 (by decide) ?_
  refine sw_newarray (pc := 203) (kd := 0) (a := 131) (n1 := 132) (N := 13) (ce1 := 25) (sl1 := 86315) (v := .int 0) dX12_init_203 rfl wA_int rfl (fun U => sI_Cond_int U _) (by decide) (by decide) rfl (fun _ => rfl) rfl rfl rfl rfl rfl rfl ?_
  refine sw_putfinal (pc := 205) dX12_init_205 (gCX12 _ _ _ _ _) 44 (by decide) wF_X12_346 rfl rfl rfl rfl rfl (fun _ => rfl) (fun _ => rfl) rfl ?_
  refine sv_aload_n (pc := 208) dX12_init_208 rfl rfl ?_
  refine sv_sipush (pc := 209) (v := 3900) dX12_init_209 (by decide) ?_
  refine sw_newarray (pc := 212) (kd := 0) (a := 132) (n1 := 133) (N := 3900) (ce1 := 26) (sl1 := 90215) (v := .int 0) dX12_init_212 rfl wA_int rfl (fun U => sI_Cond_int U _) (by decide) (by decide) rfl (fun _ => rfl) rfl rfl rfl rfl rfl rfl ?_
  refine sw_putfinal (pc := 214) dX12_init_214 (gCX12 _ _ _ _ _) 45 (by decide) wF_X12_323 rfl rfl rfl rfl rfl (fun _ => rfl) (fun _ => rfl) rfl ?_
  refine sv_aload_n (pc := 217) dX12_init_217 rfl rfl ?_
  refine sv_sipush (pc := 218) (v := 3900) dX12_init_218 (by decide) ?_
  refine sw_newarray (pc := 221) (kd := 3) (a := 133) (n1 := 134) (N := 3900) (ce1 := 27) (sl1 := 94115) (v := .int 0) dX12_init_221 rfl wA_boolean rfl (fun U => sI_Cond_boolean U _) (by decide) (by decide) rfl (fun _ => rfl) rfl rfl rfl rfl rfl rfl ?_
  refine sw_putfinal (pc := 223) dX12_init_223 (gCX12 _ _ _ _ _) 46 (by decide) wF_X12_326 rfl rfl rfl rfl rfl (fun _ => rfl) (fun _ => rfl) rfl ?_
  refine sv_aload_n (pc := 226) dX12_init_226 rfl rfl ?_
  refine sv_sipush (pc := 227) (v := 3900) dX12_init_227 (by decide) ?_
  refine sw_newarray (pc := 230) (kd := 0) (a := 134) (n1 := 135) (N := 3900) (ce1 := 28) (sl1 := 98015) (v := .int 0) dX12_init_230 rfl wA_int rfl (fun U => sI_Cond_int U _) (by decide) (by decide) rfl (fun _ => rfl) rfl rfl rfl rfl rfl rfl ?_
  refine sw_putfinal (pc := 232) dX12_init_232 (gCX12 _ _ _ _ _) 47 (by decide) wF_X12_329 rfl rfl rfl rfl rfl (fun _ => rfl) (fun _ => rfl) rfl ?_
  refine sv_aload_n (pc := 235) dX12_init_235 rfl rfl ?_
  refine sv_sipush (pc := 236) (v := 3900) dX12_init_236 (by decide) ?_
  refine sw_newarray (pc := 239) (kd := 0) (a := 135) (n1 := 136) (N := 3900) (ce1 := 29) (sl1 := 101915) (v := .int 0) dX12_init_239 rfl wA_int rfl (fun U => sI_Cond_int U _) (by decide) (by decide) rfl (fun _ => rfl) rfl rfl rfl rfl rfl rfl ?_
  refine sw_putfinal (pc := 241) dX12_init_241 (gCX12 _ _ _ _ _) 48 (by decide) wF_X12_336 rfl rfl rfl rfl rfl (fun _ => rfl) (fun _ => rfl) rfl ?_
  refine sv_aload_n (pc := 244) dX12_init_244 rfl rfl ?_
  refine sv_sipush (pc := 245) (v := 3900) dX12_init_245 (by decide) ?_
  refine sw_newarray (pc := 248) (kd := 0) (a := 136) (n1 := 137) (N := 3900) (ce1 := 30) (sl1 := 105815) (v := .int 0) dX12_init_248 rfl wA_int rfl (fun U => sI_Cond_int U _) (by decide) (by decide) rfl (fun _ => rfl) rfl rfl rfl rfl rfl rfl ?_
  refine sw_putfinal (pc := 250) dX12_init_250 (gCX12 _ _ _ _ _) 49 (by decide) wF_X12_339 rfl rfl rfl rfl rfl (fun _ => rfl) (fun _ => rfl) rfl ?_
  refine sv_aload_n (pc := 253) dX12_init_253 rfl rfl ?_
  refine sv_sipush (pc := 254) (v := 3900) dX12_init_254 (by decide) ?_
  refine sw_newarray (pc := 257) (kd := 1) (a := 137) (n1 := 138) (N := 3900) (ce1 := 31) (sl1 := 109715) (v := .long 0) dX12_init_257 rfl wA_long rfl (fun U => sI_Cond_long U _) (by decide) (by decide) rfl (fun _ => rfl) rfl rfl rfl rfl rfl rfl ?_
  refine sw_putfinal (pc := 259) dX12_init_259 (gCX12 _ _ _ _ _) 50 (by decide) wF_X12_305 rfl rfl rfl rfl rfl (fun _ => rfl) (fun _ => rfl) rfl ?_
  refine sv_aload_n (pc := 262) dX12_init_262 rfl rfl ?_
  refine sv_sipush (pc := 263) (v := 3900) dX12_init_263 (by decide) ?_
  refine sw_newarray (pc := 266) (kd := 1) (a := 138) (n1 := 139) (N := 3900) (ce1 := 32) (sl1 := 113615) (v := .long 0) dX12_init_266 rfl wA_long rfl (fun U => sI_Cond_long U _) (by decide) (by decide) rfl (fun _ => rfl) rfl rfl rfl rfl rfl rfl ?_
  refine sw_putfinal (pc := 268) dX12_init_268 (gCX12 _ _ _ _ _) 51 (by decide) wF_X12_308 rfl rfl rfl rfl rfl (fun _ => rfl) (fun _ => rfl) rfl ?_
  refine sv_aload_n (pc := 271) dX12_init_271 rfl rfl ?_
  refine sv_sipush (pc := 272) (v := 3900) dX12_init_272 (by decide) ?_
  refine sw_newarray (pc := 275) (kd := 3) (a := 139) (n1 := 140) (N := 3900) (ce1 := 33) (sl1 := 117515) (v := .int 0) dX12_init_275 rfl wA_boolean rfl (fun U => sI_Cond_boolean U _) (by decide) (by decide) rfl (fun _ => rfl) rfl rfl rfl rfl rfl rfl ?_
  refine sw_putfinal (pc := 277) dX12_init_277 (gCX12 _ _ _ _ _) 52 (by decide) wF_X12_311 rfl rfl rfl rfl rfl (fun _ => rfl) (fun _ => rfl) rfl ?_
  refine sv_aload_n (pc := 280) dX12_init_280 rfl rfl ?_
  refine sv_sipush (pc := 281) (v := 3900) dX12_init_281 (by decide) ?_
  refine sw_newarray (pc := 284) (kd := 0) (a := 140) (n1 := 141) (N := 3900) (ce1 := 34) (sl1 := 121415) (v := .int 0) dX12_init_284 rfl wA_int rfl (fun U => sI_Cond_int U _) (by decide) (by decide) rfl (fun _ => rfl) rfl rfl rfl rfl rfl rfl ?_
  refine sw_putfinal (pc := 286) dX12_init_286 (gCX12 _ _ _ _ _) 53 (by decide) wF_X12_349 rfl rfl rfl rfl rfl (fun _ => rfl) (fun _ => rfl) rfl ?_
  refine sv_aload_n (pc := 289) dX12_init_289 rfl rfl ?_
  refine sv_sipush (pc := 290) (v := 3900) dX12_init_290 (by decide) ?_
  refine sw_newarray (pc := 293) (kd := 0) (a := 141) (n1 := 142) (N := 3900) (ce1 := 35) (sl1 := 125315) (v := .int 0) dX12_init_293 rfl wA_int rfl (fun U => sI_Cond_int U _) (by decide) (by decide) rfl (fun _ => rfl) rfl rfl rfl rfl rfl rfl ?_
  refine sw_putfinal (pc := 295) dX12_init_295 (gCX12 _ _ _ _ _) 54 (by decide) wF_X12_352 rfl rfl rfl rfl rfl (fun _ => rfl) (fun _ => rfl) rfl ?_
  refine sv_aload_n (pc := 298) dX12_init_298 rfl rfl ?_
  refine sv_bipush (pc := 299) (v := 13) dX12_init_299 (by decide) ?_
  refine sw_newarray (pc := 301) (kd := 0) (a := 142) (n1 := 143) (N := 13) (ce1 := 36) (sl1 := 125328) (v := .int 0) dX12_init_301 rfl wA_int rfl (fun U => sI_Cond_int U _) (by decide) (by decide) rfl (fun _ => rfl) rfl rfl rfl rfl rfl rfl ?_
  refine sw_putfinal (pc := 303) dX12_init_303 (gCX12 _ _ _ _ _) 55 (by decide) wF_X12_292 rfl rfl rfl rfl rfl (fun _ => rfl) (fun _ => rfl) rfl ?_
  refine sv_aload_n (pc := 306) dX12_init_306 rfl rfl ?_
  refine sv_sipush (pc := 307) (v := 533) dX12_init_307 (by decide) ?_
  refine sw_newarray (pc := 310) (kd := 0) (a := 143) (n1 := 144) (N := 533) (ce1 := 37) (sl1 := 125861) (v := .int 0) dX12_init_310 rfl wA_int rfl (fun U => sI_Cond_int U _) (by decide) (by decide) rfl (fun _ => rfl) rfl rfl rfl rfl rfl rfl ?_
  refine sw_putfinal (pc := 312) dX12_init_312 (gCX12 _ _ _ _ _) 56 (by decide) wF_X12_295 rfl rfl rfl rfl rfl (fun _ => rfl) (fun _ => rfl) rfl ?_
  refine sv_aload_n (pc := 315) dX12_init_315 rfl rfl ?_
  refine sv_sipush (pc := 316) (v := 533) dX12_init_316 (by decide) ?_
  refine sw_newarray (pc := 319) (kd := 1) (a := 144) (n1 := 145) (N := 533) (ce1 := 38) (sl1 := 126394) (v := .long 0) dX12_init_319 rfl wA_long rfl (fun U => sI_Cond_long U _) (by decide) (by decide) rfl (fun _ => rfl) rfl rfl rfl rfl rfl rfl ?_
  refine sw_putfinal (pc := 321) dX12_init_321 (gCX12 _ _ _ _ _) 57 (by decide) wF_X12_275 rfl rfl rfl rfl rfl (fun _ => rfl) (fun _ => rfl) rfl ?_
  refine sv_aload_n (pc := 324) dX12_init_324 rfl rfl ?_
  refine sv_bipush (pc := 325) (v := 10) dX12_init_325 (by decide) ?_
  refine sw_newarray (pc := 327) (kd := 1) (a := 145) (n1 := 146) (N := 10) (ce1 := 39) (sl1 := 126404) (v := .long 0) dX12_init_327 rfl wA_long rfl (fun U => sI_Cond_long U _) (by decide) (by decide) rfl (fun _ => rfl) rfl rfl rfl rfl rfl rfl ?_
  refine sw_putfinal (pc := 329) dX12_init_329 (gCX12 _ _ _ _ _) 60 (by decide) wF_X12_250 rfl rfl rfl rfl rfl (fun _ => rfl) (fun _ => rfl) rfl ?_
  refine sv_aload_n (pc := 332) dX12_init_332 rfl rfl ?_
  refine sv_bipush (pc := 333) (v := 10) dX12_init_333 (by decide) ?_
  refine sw_newarray (pc := 335) (kd := 1) (a := 146) (n1 := 147) (N := 10) (ce1 := 40) (sl1 := 126414) (v := .long 0) dX12_init_335 rfl wA_long rfl (fun U => sI_Cond_long U _) (by decide) (by decide) rfl (fun _ => rfl) rfl rfl rfl rfl rfl rfl ?_
  refine sw_putfinal (pc := 337) dX12_init_337 (gCX12 _ _ _ _ _) 61 (by decide) wF_X12_257 rfl rfl rfl rfl rfl (fun _ => rfl) (fun _ => rfl) rfl ?_
  refine sv_aload_n (pc := 340) dX12_init_340 rfl rfl ?_
  refine sv_bipush (pc := 341) (v := 10) dX12_init_341 (by decide) ?_
  refine sw_newarray (pc := 343) (kd := 3) (a := 147) (n1 := 148) (N := 10) (ce1 := 41) (sl1 := 126424) (v := .int 0) dX12_init_343 rfl wA_boolean rfl (fun U => sI_Cond_boolean U _) (by decide) (by decide) rfl (fun _ => rfl) rfl rfl rfl rfl rfl rfl ?_
  refine sw_putfinal (pc := 345) dX12_init_345 (gCX12 _ _ _ _ _) 62 (by decide) wF_X12_260 rfl rfl rfl rfl rfl (fun _ => rfl) (fun _ => rfl) rfl ?_
  refine sv_aload_n (pc := 348) dX12_init_348 rfl rfl ?_
  refine sv_bipush (pc := 349) (v := 10) dX12_init_349 (by decide) ?_
  refine sw_newarray (pc := 351) (kd := 1) (a := 148) (n1 := 149) (N := 10) (ce1 := 42) (sl1 := 126434) (v := .long 0) dX12_init_351 rfl wA_long rfl (fun U => sI_Cond_long U _) (by decide) (by decide) rfl (fun _ => rfl) rfl rfl rfl rfl rfl rfl ?_
  refine sw_putfinal (pc := 353) dX12_init_353 (gCX12 _ _ _ _ _) 63 (by decide) wF_X12_266 rfl rfl rfl rfl rfl (fun _ => rfl) (fun _ => rfl) rfl ?_
  refine sv_aload_n (pc := 356) dX12_init_356 rfl rfl ?_
  refine sv_bipush (pc := 357) (v := 10) dX12_init_357 (by decide) ?_
  refine sw_newarray (pc := 359) (kd := 1) (a := 149) (n1 := 150) (N := 10) (ce1 := 43) (sl1 := 126444) (v := .long 0) dX12_init_359 rfl wA_long rfl (fun U => sI_Cond_long U _) (by decide) (by decide) rfl (fun _ => rfl) rfl rfl rfl rfl rfl rfl ?_
  refine sw_putfinal (pc := 361) dX12_init_361 (gCX12 _ _ _ _ _) 64 (by decide) wF_X12_269 rfl rfl rfl rfl rfl (fun _ => rfl) (fun _ => rfl) rfl ?_
  refine sv_aload_n (pc := 364) dX12_init_364 rfl rfl ?_
  refine sv_bipush (pc := 365) (v := 10) dX12_init_365 (by decide) ?_
  refine sw_newarray (pc := 367) (kd := 3) (a := 150) (n1 := 151) (N := 10) (ce1 := 44) (sl1 := 126454) (v := .int 0) dX12_init_367 rfl wA_boolean rfl (fun U => sI_Cond_boolean U _) (by decide) (by decide) rfl (fun _ => rfl) rfl rfl rfl rfl rfl rfl ?_
  refine sw_putfinal (pc := 369) dX12_init_369 (gCX12 _ _ _ _ _) 65 (by decide) wF_X12_272 rfl rfl rfl rfl rfl (fun _ => rfl) (fun _ => rfl) rfl ?_
  refine sv_aload_n (pc := 372) dX12_init_372 rfl rfl ?_
  refine sv_bipush (pc := 373) (v := 14) dX12_init_373 (by decide) ?_
  refine sw_newarray (pc := 375) (kd := 0) (a := 151) (n1 := 152) (N := 14) (ce1 := 45) (sl1 := 126468) (v := .int 0) dX12_init_375 rfl wA_int rfl (fun U => sI_Cond_int U _) (by decide) (by decide) rfl (fun _ => rfl) rfl rfl rfl rfl rfl rfl ?_
  refine sw_putfinal (pc := 377) dX12_init_377 (gCX12 _ _ _ _ _) 67 (by decide) wF_X12_388 rfl rfl rfl rfl rfl (fun _ => rfl) (fun _ => rfl) rfl ?_
  refine sv_aload_n (pc := 380) dX12_init_380 rfl rfl ?_
  refine sv_bipush (pc := 381) (v := 14) dX12_init_381 (by decide) ?_
  refine sw_newarray (pc := 383) (kd := 0) (a := 152) (n1 := 153) (N := 14) (ce1 := 46) (sl1 := 126482) (v := .int 0) dX12_init_383 rfl wA_int rfl (fun U => sI_Cond_int U _) (by decide) (by decide) rfl (fun _ => rfl) rfl rfl rfl rfl rfl rfl ?_
  refine sw_putfinal (pc := 385) dX12_init_385 (gCX12 _ _ _ _ _) 68 (by decide) wF_X12_391 rfl rfl rfl rfl rfl (fun _ => rfl) (fun _ => rfl) rfl ?_
  refine sv_aload_n (pc := 388) dX12_init_388 rfl rfl ?_
  refine sv_bipush (pc := 389) (v := 14) dX12_init_389 (by decide) ?_
  refine sw_newarray (pc := 391) (kd := 0) (a := 153) (n1 := 154) (N := 14) (ce1 := 47) (sl1 := 126496) (v := .int 0) dX12_init_391 rfl wA_int rfl (fun U => sI_Cond_int U _) (by decide) (by decide) rfl (fun _ => rfl) rfl rfl rfl rfl rfl rfl ?_
  refine sw_putfinal (pc := 393) dX12_init_393 (gCX12 _ _ _ _ _) 69 (by decide) wF_X12_394 rfl rfl rfl rfl rfl (fun _ => rfl) (fun _ => rfl) rfl ?_
  refine sv_aload_n (pc := 396) dX12_init_396 rfl rfl ?_
  refine sv_sipush (pc := 397) (v := 400) dX12_init_397 (by decide) ?_
  refine sw_newarray (pc := 400) (kd := 0) (a := 154) (n1 := 155) (N := 400) (ce1 := 48) (sl1 := 126896) (v := .int 0) dX12_init_400 rfl wA_int rfl (fun U => sI_Cond_int U _) (by decide) (by decide) rfl (fun _ => rfl) rfl rfl rfl rfl rfl rfl ?_
  refine sw_putfinal (pc := 402) dX12_init_402 (gCX12 _ _ _ _ _) 74 (by decide) wF_X12_424 rfl rfl rfl rfl rfl (fun _ => rfl) (fun _ => rfl) rfl ?_
  refine sv_aload_n (pc := 405) dX12_init_405 rfl rfl ?_
  refine sv_sipush (pc := 406) (v := 400) dX12_init_406 (by decide) ?_
  refine sw_newarray (pc := 409) (kd := 3) (a := 155) (n1 := 156) (N := 400) (ce1 := 49) (sl1 := 127296) (v := .int 0) dX12_init_409 rfl wA_boolean rfl (fun U => sI_Cond_boolean U _) (by decide) (by decide) rfl (fun _ => rfl) rfl rfl rfl rfl rfl rfl ?_
  refine sw_putfinal (pc := 411) dX12_init_411 (gCX12 _ _ _ _ _) 75 (by decide) wF_X12_427 rfl rfl rfl rfl rfl (fun _ => rfl) (fun _ => rfl) rfl ?_
  refine sv_aload_n (pc := 414) dX12_init_414 rfl rfl ?_
  refine sv_sipush (pc := 415) (v := 400) dX12_init_415 (by decide) ?_
  refine sw_newarray (pc := 418) (kd := 0) (a := 156) (n1 := 157) (N := 400) (ce1 := 50) (sl1 := 127696) (v := .int 0) dX12_init_418 rfl wA_int rfl (fun U => sI_Cond_int U _) (by decide) (by decide) rfl (fun _ => rfl) rfl rfl rfl rfl rfl rfl ?_
  refine sw_putfinal (pc := 420) dX12_init_420 (gCX12 _ _ _ _ _) 76 (by decide) wF_X12_430 rfl rfl rfl rfl rfl (fun _ => rfl) (fun _ => rfl) rfl ?_
  refine sv_aload_n (pc := 423) dX12_init_423 rfl rfl ?_
  refine sv_sipush (pc := 424) (v := 400) dX12_init_424 (by decide) ?_
  refine sw_newarray (pc := 427) (kd := 0) (a := 157) (n1 := 158) (N := 400) (ce1 := 51) (sl1 := 128096) (v := .int 0) dX12_init_427 rfl wA_int rfl (fun U => sI_Cond_int U _) (by decide) (by decide) rfl (fun _ => rfl) rfl rfl rfl rfl rfl rfl ?_
  refine sw_putfinal (pc := 429) dX12_init_429 (gCX12 _ _ _ _ _) 77 (by decide) wF_X12_433 rfl rfl rfl rfl rfl (fun _ => rfl) (fun _ => rfl) rfl ?_
  refine sv_aload_n (pc := 432) dX12_init_432 rfl rfl ?_
  refine sv_sipush (pc := 433) (v := 400) dX12_init_433 (by decide) ?_
  refine sw_newarray (pc := 436) (kd := 0) (a := 158) (n1 := 159) (N := 400) (ce1 := 52) (sl1 := 128496) (v := .int 0) dX12_init_436 rfl wA_int rfl (fun U => sI_Cond_int U _) (by decide) (by decide) rfl (fun _ => rfl) rfl rfl rfl rfl rfl rfl ?_
  refine sw_putfinal (pc := 438) dX12_init_438 (gCX12 _ _ _ _ _) 78 (by decide) wF_X12_436 rfl rfl rfl rfl rfl (fun _ => rfl) (fun _ => rfl) rfl ?_
  refine sv_aload_n (pc := 441) dX12_init_441 rfl rfl ?_
  refine sv_sipush (pc := 442) (v := 400) dX12_init_442 (by decide) ?_
  refine sw_newarray (pc := 445) (kd := 0) (a := 159) (n1 := 160) (N := 400) (ce1 := 53) (sl1 := 128896) (v := .int 0) dX12_init_445 rfl wA_int rfl (fun U => sI_Cond_int U _) (by decide) (by decide) rfl (fun _ => rfl) rfl rfl rfl rfl rfl rfl ?_
  refine sw_putfinal (pc := 447) dX12_init_447 (gCX12 _ _ _ _ _) 79 (by decide) wF_X12_439 rfl rfl rfl rfl rfl (fun _ => rfl) (fun _ => rfl) rfl ?_
  refine sv_aload_n (pc := 450) dX12_init_450 rfl rfl ?_
  refine sv_sipush (pc := 451) (v := 400) dX12_init_451 (by decide) ?_
  refine sw_newarray (pc := 454) (kd := 0) (a := 160) (n1 := 161) (N := 400) (ce1 := 54) (sl1 := 129296) (v := .int 0) dX12_init_454 rfl wA_int rfl (fun U => sI_Cond_int U _) (by decide) (by decide) rfl (fun _ => rfl) rfl rfl rfl rfl rfl rfl ?_
  refine sw_putfinal (pc := 456) dX12_init_456 (gCX12 _ _ _ _ _) 80 (by decide) wF_X12_442 rfl rfl rfl rfl rfl (fun _ => rfl) (fun _ => rfl) rfl ?_
  refine sv_aload_n (pc := 459) dX12_init_459 rfl rfl ?_
  refine sv_bipush (pc := 460) (v := 100) dX12_init_460 (by decide) ?_
  refine sw_newarray (pc := 462) (kd := 0) (a := 161) (n1 := 162) (N := 100) (ce1 := 55) (sl1 := 129396) (v := .int 0) dX12_init_462 rfl wA_int rfl (fun U => sI_Cond_int U _) (by decide) (by decide) rfl (fun _ => rfl) rfl rfl rfl rfl rfl rfl ?_
  refine sw_putfinal (pc := 464) dX12_init_464 (gCX12 _ _ _ _ _) 81 (by decide) wF_X12_445 rfl rfl rfl rfl rfl (fun _ => rfl) (fun _ => rfl) rfl ?_
  refine sv_aload_n (pc := 467) dX12_init_467 rfl rfl ?_
  refine sv_bipush (pc := 468) (v := 100) dX12_init_468 (by decide) ?_
  refine sw_newarray (pc := 470) (kd := 0) (a := 162) (n1 := 163) (N := 100) (ce1 := 56) (sl1 := 129496) (v := .int 0) dX12_init_470 rfl wA_int rfl (fun U => sI_Cond_int U _) (by decide) (by decide) rfl (fun _ => rfl) rfl rfl rfl rfl rfl rfl ?_
  refine sw_putfinal (pc := 472) dX12_init_472 (gCX12 _ _ _ _ _) 82 (by decide) wF_X12_448 rfl rfl rfl rfl rfl (fun _ => rfl) (fun _ => rfl) rfl ?_
  refine sv_aload_n (pc := 475) dX12_init_475 rfl rfl ?_
  refine sv_bipush (pc := 476) (v := 60) dX12_init_476 (by decide) ?_
  refine sw_newarray (pc := 478) (kd := 0) (a := 163) (n1 := 164) (N := 60) (ce1 := 57) (sl1 := 129556) (v := .int 0) dX12_init_478 rfl wA_int rfl (fun U => sI_Cond_int U _) (by decide) (by decide) rfl (fun _ => rfl) rfl rfl rfl rfl rfl rfl ?_
  refine sw_putfinal (pc := 480) dX12_init_480 (gCX12 _ _ _ _ _) 83 (by decide) wF_X12_451 rfl rfl rfl rfl rfl (fun _ => rfl) (fun _ => rfl) rfl ?_
  refine sv_aload_n (pc := 483) dX12_init_483 rfl rfl ?_
  refine sv_bipush (pc := 484) (v := 10) dX12_init_484 (by decide) ?_
  refine sw_newarray (pc := 486) (kd := 3) (a := 164) (n1 := 165) (N := 10) (ce1 := 58) (sl1 := 129566) (v := .int 0) dX12_init_486 rfl wA_boolean rfl (fun U => sI_Cond_boolean U _) (by decide) (by decide) rfl (fun _ => rfl) rfl rfl rfl rfl rfl rfl ?_
  refine sw_putfinal (pc := 488) dX12_init_488 (gCX12 _ _ _ _ _) 84 (by decide) wF_X12_454 rfl rfl rfl rfl rfl (fun _ => rfl) (fun _ => rfl) rfl ?_
  refine sv_aload_n (pc := 491) dX12_init_491 rfl rfl ?_
  refine sv_bipush (pc := 492) (v := 20) dX12_init_492 (by decide) ?_
  refine sw_newarray (pc := 494) (kd := 3) (a := 165) (n1 := 166) (N := 20) (ce1 := 59) (sl1 := 129586) (v := .int 0) dX12_init_494 rfl wA_boolean rfl (fun U => sI_Cond_boolean U _) (by decide) (by decide) rfl (fun _ => rfl) rfl rfl rfl rfl rfl rfl ?_
  refine sw_putfinal (pc := 496) dX12_init_496 (gCX12 _ _ _ _ _) 85 (by decide) wF_X12_457 rfl rfl rfl rfl rfl (fun _ => rfl) (fun _ => rfl) rfl ?_
  refine sv_aload_n (pc := 499) dX12_init_499 rfl rfl ?_
  refine sv_sipush (pc := 500) (v := 1000) dX12_init_500 (by decide) ?_
  refine sw_newarray (pc := 503) (kd := 0) (a := 166) (n1 := 167) (N := 1000) (ce1 := 60) (sl1 := 130586) (v := .int 0) dX12_init_503 rfl wA_int rfl (fun U => sI_Cond_int U _) (by decide) (by decide) rfl (fun _ => rfl) rfl rfl rfl rfl rfl rfl ?_
  refine sw_putfinal (pc := 505) dX12_init_505 (gCX12 _ _ _ _ _) 86 (by decide) wF_X12_460 rfl rfl rfl rfl rfl (fun _ => rfl) (fun _ => rfl) rfl ?_
  refine sv_aload_n (pc := 508) dX12_init_508 rfl rfl ?_
  refine sv_sipush (pc := 509) (v := 1000) dX12_init_509 (by decide) ?_
  refine sw_newarray (pc := 512) (kd := 0) (a := 167) (n1 := 168) (N := 1000) (ce1 := 61) (sl1 := 131586) (v := .int 0) dX12_init_512 rfl wA_int rfl (fun U => sI_Cond_int U _) (by decide) (by decide) rfl (fun _ => rfl) rfl rfl rfl rfl rfl rfl ?_
  refine sw_putfinal (pc := 514) dX12_init_514 (gCX12 _ _ _ _ _) 87 (by decide) wF_X12_463 rfl rfl rfl rfl rfl (fun _ => rfl) (fun _ => rfl) rfl ?_
  refine sv_aload_n (pc := 517) dX12_init_517 rfl rfl ?_
  refine sv_sipush (pc := 518) (v := 1000) dX12_init_518 (by decide) ?_
  refine sw_newarray (pc := 521) (kd := 0) (a := 168) (n1 := 169) (N := 1000) (ce1 := 62) (sl1 := 132586) (v := .int 0) dX12_init_521 rfl wA_int rfl (fun U => sI_Cond_int U _) (by decide) (by decide) rfl (fun _ => rfl) rfl rfl rfl rfl rfl rfl ?_
  refine sw_putfinal (pc := 523) dX12_init_523 (gCX12 _ _ _ _ _) 89 (by decide) wF_X12_466 rfl rfl rfl rfl rfl (fun _ => rfl) (fun _ => rfl) rfl ?_
  refine sv_aload_n (pc := 526) dX12_init_526 rfl rfl ?_
  refine sv_sipush (pc := 527) (v := 1000) dX12_init_527 (by decide) ?_
  refine sw_newarray (pc := 530) (kd := 0) (a := 169) (n1 := 170) (N := 1000) (ce1 := 63) (sl1 := 133586) (v := .int 0) dX12_init_530 rfl wA_int rfl (fun U => sI_Cond_int U _) (by decide) (by decide) rfl (fun _ => rfl) rfl rfl rfl rfl rfl rfl ?_
  refine sw_putfinal (pc := 532) dX12_init_532 (gCX12 _ _ _ _ _) 90 (by decide) wF_X12_469 rfl rfl rfl rfl rfl (fun _ => rfl) (fun _ => rfl) rfl ?_
  refine sv_aload_n (pc := 535) dX12_init_535 rfl rfl ?_
  refine sv_sipush (pc := 536) (v := 400) dX12_init_536 (by decide) ?_
  refine sw_newarray (pc := 539) (kd := 0) (a := 170) (n1 := 171) (N := 400) (ce1 := 64) (sl1 := 133986) (v := .int 0) dX12_init_539 rfl wA_int rfl (fun U => sI_Cond_int U _) (by decide) (by decide) rfl (fun _ => rfl) rfl rfl rfl rfl rfl rfl ?_
  refine sw_putfinal (pc := 541) dX12_init_541 (gCX12 _ _ _ _ _) 92 (by decide) wF_X12_472 rfl rfl rfl rfl rfl (fun _ => rfl) (fun _ => rfl) rfl ?_
  refine sv_aload_n (pc := 544) dX12_init_544 rfl rfl ?_
  refine sv_sipush (pc := 545) (v := 256) dX12_init_545 (by decide) ?_
  refine sw_newarray (pc := 548) (kd := 3) (a := 171) (n1 := 172) (N := 256) (ce1 := 65) (sl1 := 134242) (v := .int 0) dX12_init_548 rfl wA_boolean rfl (fun U => sI_Cond_boolean U _) (by decide) (by decide) rfl (fun _ => rfl) rfl rfl rfl rfl rfl rfl ?_
  refine sw_putfinal (pc := 550) dX12_init_550 (gCX12 _ _ _ _ _) 94 (by decide) wF_X12_475 rfl rfl rfl rfl rfl (fun _ => rfl) (fun _ => rfl) rfl ?_
  refine sv_aload_n (pc := 553) dX12_init_553 rfl rfl ?_
  refine sv_iconst (pc := 554) (v := 4) dX12_init_554 (by decide) ?_
  refine sw_newarray (pc := 555) (kd := 0) (a := 172) (n1 := 173) (N := 4) (ce1 := 66) (sl1 := 134246) (v := .int 0) dX12_init_555 rfl wA_int rfl (fun U => sI_Cond_int U _) (by decide) (by decide) rfl (fun _ => rfl) rfl rfl rfl rfl rfl rfl ?_
  refine sw_putfinal (pc := 557) dX12_init_557 (gCX12 _ _ _ _ _) 95 (by decide) wF_X12_478 rfl rfl rfl rfl rfl (fun _ => rfl) (fun _ => rfl) rfl ?_
  refine sv_aload_n (pc := 560) dX12_init_560 rfl rfl ?_
  refine sv_bipush (pc := 561) (v := 8) dX12_init_561 (by decide) ?_
  refine sw_newarray (pc := 563) (kd := 0) (a := 173) (n1 := 174) (N := 8) (ce1 := 67) (sl1 := 134254) (v := .int 0) dX12_init_563 rfl wA_int rfl (fun U => sI_Cond_int U _) (by decide) (by decide) rfl (fun _ => rfl) rfl rfl rfl rfl rfl rfl ?_
  refine sw_putfinal (pc := 565) dX12_init_565 (gCX12 _ _ _ _ _) 100 (by decide) wF_X12_481 rfl rfl rfl rfl rfl (fun _ => rfl) (fun _ => rfl) rfl ?_
  refine sv_aload_n (pc := 568) dX12_init_568 rfl rfl ?_
  refine sv_sipush (pc := 569) (v := 300) dX12_init_569 (by decide) ?_
  refine sw_newarray (pc := 572) (kd := 0) (a := 174) (n1 := 175) (N := 300) (ce1 := 68) (sl1 := 134554) (v := .int 0) dX12_init_572 rfl wA_int rfl (fun U => sI_Cond_int U _) (by decide) (by decide) rfl (fun _ => rfl) rfl rfl rfl rfl rfl rfl ?_
  refine sw_putfinal (pc := 574) dX12_init_574 (gCX12 _ _ _ _ _) 103 (by decide) wF_X12_484 rfl rfl rfl rfl rfl (fun _ => rfl) (fun _ => rfl) rfl ?_
  refine sv_aload_n (pc := 577) dX12_init_577 rfl rfl ?_
  refine sv_bipush (pc := 578) (v := 12) dX12_init_578 (by decide) ?_
  refine sw_newarray (pc := 580) (kd := 0) (a := 175) (n1 := 176) (N := 12) (ce1 := 69) (sl1 := 134566) (v := .int 0) dX12_init_580 rfl wA_int rfl (fun U => sI_Cond_int U _) (by decide) (by decide) rfl (fun _ => rfl) rfl rfl rfl rfl rfl rfl ?_
  refine sw_putfinal (pc := 582) dX12_init_582 (gCX12 _ _ _ _ _) 105 (by decide) wF_X12_487 rfl rfl rfl rfl rfl (fun _ => rfl) (fun _ => rfl) rfl ?_
  refine sv_aload_n (pc := 585) dX12_init_585 rfl rfl ?_
  refine sv_bipush (pc := 586) (v := 12) dX12_init_586 (by decide) ?_
  refine sw_newarray (pc := 588) (kd := 0) (a := 176) (n1 := 177) (N := 12) (ce1 := 70) (sl1 := 134578) (v := .int 0) dX12_init_588 rfl wA_int rfl (fun U => sI_Cond_int U _) (by decide) (by decide) rfl (fun _ => rfl) rfl rfl rfl rfl rfl rfl ?_
  refine sw_putfinal (pc := 590) dX12_init_590 (gCX12 _ _ _ _ _) 107 (by decide) wF_X12_490 rfl rfl rfl rfl rfl (fun _ => rfl) (fun _ => rfl) rfl ?_
  refine sv_aload_n (pc := 593) dX12_init_593 rfl rfl ?_
  refine sv_bipush (pc := 594) (v := 16) dX12_init_594 (by decide) ?_
  refine sw_newarray (pc := 596) (kd := 0) (a := 177) (n1 := 178) (N := 16) (ce1 := 71) (sl1 := 134594) (v := .int 0) dX12_init_596 rfl wA_int rfl (fun U => sI_Cond_int U _) (by decide) (by decide) rfl (fun _ => rfl) rfl rfl rfl rfl rfl rfl ?_
  refine sw_putfinal (pc := 598) dX12_init_598 (gCX12 _ _ _ _ _) 110 (by decide) wF_X12_493 rfl rfl rfl rfl rfl (fun _ => rfl) (fun _ => rfl) rfl ?_
  refine sv_aload_n (pc := 601) dX12_init_601 rfl rfl ?_
  refine sv_bipush (pc := 602) (v := 16) dX12_init_602 (by decide) ?_
  refine sw_newarray (pc := 604) (kd := 0) (a := 178) (n1 := 179) (N := 16) (ce1 := 72) (sl1 := 134610) (v := .int 0) dX12_init_604 rfl wA_int rfl (fun U => sI_Cond_int U _) (by decide) (by decide) rfl (fun _ => rfl) rfl rfl rfl rfl rfl rfl ?_
  refine sw_putfinal (pc := 606) dX12_init_606 (gCX12 _ _ _ _ _) 111 (by decide) wF_X12_496 rfl rfl rfl rfl rfl (fun _ => rfl) (fun _ => rfl) rfl ?_
  refine sv_aload_n (pc := 609) dX12_init_609 rfl rfl ?_
  refine sv_bipush (pc := 610) (v := 16) dX12_init_610 (by decide) ?_
  refine sw_newarray (pc := 612) (kd := 0) (a := 179) (n1 := 180) (N := 16) (ce1 := 73) (sl1 := 134626) (v := .int 0) dX12_init_612 rfl wA_int rfl (fun U => sI_Cond_int U _) (by decide) (by decide) rfl (fun _ => rfl) rfl rfl rfl rfl rfl rfl ?_
  refine sw_putfinal (pc := 614) dX12_init_614 (gCX12 _ _ _ _ _) 112 (by decide) wF_X12_499 rfl rfl rfl rfl rfl (fun _ => rfl) (fun _ => rfl) rfl ?_
  refine sv_aload_n (pc := 617) dX12_init_617 rfl rfl ?_
  refine sv_sipush (pc := 618) (v := 400) dX12_init_618 (by decide) ?_
  refine sw_newarray (pc := 621) (kd := 0) (a := 180) (n1 := 181) (N := 400) (ce1 := 74) (sl1 := 135026) (v := .int 0) dX12_init_621 rfl wA_int rfl (fun U => sI_Cond_int U _) (by decide) (by decide) rfl (fun _ => rfl) rfl rfl rfl rfl rfl rfl ?_
  refine sw_putfinal (pc := 623) dX12_init_623 (gCX12 _ _ _ _ _) 113 (by decide) wF_X12_502 rfl rfl rfl rfl rfl (fun _ => rfl) (fun _ => rfl) rfl ?_
  refine sv_aload_n (pc := 626) dX12_init_626 rfl rfl ?_
  refine sv_sipush (pc := 627) (v := 400) dX12_init_627 (by decide) ?_
  refine sw_newarray (pc := 630) (kd := 0) (a := 181) (n1 := 182) (N := 400) (ce1 := 75) (sl1 := 135426) (v := .int 0) dX12_init_630 rfl wA_int rfl (fun U => sI_Cond_int U _) (by decide) (by decide) rfl (fun _ => rfl) rfl rfl rfl rfl rfl rfl ?_
  refine sw_putfinal (pc := 632) dX12_init_632 (gCX12 _ _ _ _ _) 114 (by decide) wF_X12_505 rfl rfl rfl rfl rfl (fun _ => rfl) (fun _ => rfl) rfl ?_
  refine sv_aload_n (pc := 635) dX12_init_635 rfl rfl ?_
  refine sv_sipush (pc := 636) (v := 8800) dX12_init_636 (by decide) ?_
  refine sw_newarray (pc := 639) (kd := 0) (a := 182) (n1 := 183) (N := 8800) (ce1 := 76) (sl1 := 144226) (v := .int 0) dX12_init_639 rfl wA_int rfl (fun U => sI_Cond_int U _) (by decide) (by decide) rfl (fun _ => rfl) rfl rfl rfl rfl rfl rfl ?_
  refine sw_putfinal (pc := 641) dX12_init_641 (gCX12 _ _ _ _ _) 115 (by decide) wF_X12_508 rfl rfl rfl rfl rfl (fun _ => rfl) (fun _ => rfl) rfl ?_
  refine sv_aload_n (pc := 644) dX12_init_644 rfl rfl ?_
  refine sv_bipush (pc := 645) (v := 24) dX12_init_645 (by decide) ?_
  refine sw_newarray (pc := 647) (kd := 1) (a := 183) (n1 := 184) (N := 24) (ce1 := 77) (sl1 := 144250) (v := .long 0) dX12_init_647 rfl wA_long rfl (fun U => sI_Cond_long U _) (by decide) (by decide) rfl (fun _ => rfl) rfl rfl rfl rfl rfl rfl ?_
  refine sw_putfinal (pc := 649) dX12_init_649 (gCX12 _ _ _ _ _) 117 (by decide) wF_X12_511 rfl rfl rfl rfl rfl (fun _ => rfl) (fun _ => rfl) rfl ?_
  refine sv_aload_n (pc := 652) dX12_init_652 rfl rfl ?_
  refine sv_bipush (pc := 653) (v := 7) dX12_init_653 (by decide) ?_
  refine sw_newarray (pc := 655) (kd := 0) (a := 184) (n1 := 185) (N := 7) (ce1 := 78) (sl1 := 144257) (v := .int 0) dX12_init_655 rfl wA_int rfl (fun U => sI_Cond_int U _) (by decide) (by decide) rfl (fun _ => rfl) rfl rfl rfl rfl rfl rfl ?_
  refine sw_putfinal (pc := 657) dX12_init_657 (gCX12 _ _ _ _ _) 118 (by decide) wF_X12_514 rfl rfl rfl rfl rfl (fun _ => rfl) (fun _ => rfl) rfl ?_
  refine sv_aload_n (pc := 660) dX12_init_660 rfl rfl ?_
  refine sv_bipush (pc := 661) (v := 35) dX12_init_661 (by decide) ?_
  refine sw_newarray (pc := 663) (kd := 0) (a := 185) (n1 := 186) (N := 35) (ce1 := 79) (sl1 := 144292) (v := .int 0) dX12_init_663 rfl wA_int rfl (fun U => sI_Cond_int U _) (by decide) (by decide) rfl (fun _ => rfl) rfl rfl rfl rfl rfl rfl ?_
  refine sw_putfinal (pc := 665) dX12_init_665 (gCX12 _ _ _ _ _) 119 (by decide) wF_X12_517 rfl rfl rfl rfl rfl (fun _ => rfl) (fun _ => rfl) rfl ?_
  refine sv_aload_n (pc := 668) dX12_init_668 rfl rfl ?_
  refine sv_sipush (pc := 669) (v := 280) dX12_init_669 (by decide) ?_
  refine sw_newarray (pc := 672) (kd := 0) (a := 186) (n1 := 187) (N := 280) (ce1 := 80) (sl1 := 144572) (v := .int 0) dX12_init_672 rfl wA_int rfl (fun U => sI_Cond_int U _) (by decide) (by decide) rfl (fun _ => rfl) rfl rfl rfl rfl rfl rfl ?_
  refine sw_putfinal (pc := 674) dX12_init_674 (gCX12 _ _ _ _ _) 120 (by decide) wF_X12_520 rfl rfl rfl rfl rfl (fun _ => rfl) (fun _ => rfl) rfl ?_
  refine sv_aload_n (pc := 677) dX12_init_677 rfl rfl ?_
  refine sv_bipush (pc := 678) (v := 8) dX12_init_678 (by decide) ?_
  refine sw_newarray (pc := 680) (kd := 0) (a := 187) (n1 := 188) (N := 8) (ce1 := 81) (sl1 := 144580) (v := .int 0) dX12_init_680 rfl wA_int rfl (fun U => sI_Cond_int U _) (by decide) (by decide) rfl (fun _ => rfl) rfl rfl rfl rfl rfl rfl ?_
  refine sw_putfinal (pc := 682) dX12_init_682 (gCX12 _ _ _ _ _) 121 (by decide) wF_X12_523 rfl rfl rfl rfl rfl (fun _ => rfl) (fun _ => rfl) rfl ?_
  refine sv_aload_n (pc := 685) dX12_init_685 rfl rfl ?_
  refine sv_bipush (pc := 686) (v := 7) dX12_init_686 (by decide) ?_
  refine sw_newarray (pc := 688) (kd := 0) (a := 188) (n1 := 189) (N := 7) (ce1 := 82) (sl1 := 144587) (v := .int 0) dX12_init_688 rfl wA_int rfl (fun U => sI_Cond_int U _) (by decide) (by decide) rfl (fun _ => rfl) rfl rfl rfl rfl rfl rfl ?_
  refine sw_putfinal (pc := 690) dX12_init_690 (gCX12 _ _ _ _ _) 122 (by decide) wF_X12_526 rfl rfl rfl rfl rfl (fun _ => rfl) (fun _ => rfl) rfl ?_
  refine sv_aload_n (pc := 693) dX12_init_693 rfl rfl ?_
  refine sv_ldcw (pc := 694) dX12_init_694 wG_X12_529 ?_
  refine sw_newarray (pc := 697) (kd := 0) (a := 189) (n1 := 190) (N := 46656) (ce1 := 83) (sl1 := 191243) (v := .int 0) dX12_init_697 rfl wA_int rfl (fun U => sI_Cond_int U _) (by decide) (by decide) rfl (fun _ => rfl) rfl rfl rfl rfl rfl rfl ?_
  refine sw_putfinal (pc := 699) dX12_init_699 (gCX12 _ _ _ _ _) 123 (by decide) wF_X12_530 rfl rfl rfl rfl rfl (fun _ => rfl) (fun _ => rfl) rfl ?_
  refine sv_aload_n (pc := 702) dX12_init_702 rfl rfl ?_
  refine sv_ldcw (pc := 703) dX12_init_703 wG_X12_529 ?_
  refine sw_newarray (pc := 706) (kd := 0) (a := 190) (n1 := 191) (N := 46656) (ce1 := 84) (sl1 := 237899) (v := .int 0) dX12_init_706 rfl wA_int rfl (fun U => sI_Cond_int U _) (by decide) (by decide) rfl (fun _ => rfl) rfl rfl rfl rfl rfl rfl ?_
  refine sw_putfinal (pc := 708) dX12_init_708 (gCX12 _ _ _ _ _) 124 (by decide) wF_X12_533 rfl rfl rfl rfl rfl (fun _ => rfl) (fun _ => rfl) rfl ?_
  refine sv_aload_n (pc := 711) dX12_init_711 rfl rfl ?_
  refine sv_ldcw (pc := 712) dX12_init_712 wG_X12_529 ?_
  refine sw_newarray (pc := 715) (kd := 3) (a := 191) (n1 := 192) (N := 46656) (ce1 := 85) (sl1 := 284555) (v := .int 0) dX12_init_715 rfl wA_boolean rfl (fun U => sI_Cond_boolean U _) (by decide) (by decide) rfl (fun _ => rfl) rfl rfl rfl rfl rfl rfl ?_
  refine sw_putfinal (pc := 717) dX12_init_717 (gCX12 _ _ _ _ _) 125 (by decide) wF_X12_536 rfl rfl rfl rfl rfl (fun _ => rfl) (fun _ => rfl) rfl ?_
  refine sv_iconst (pc := 720) (v := 0) dX12_init_720 (by decide) ?_
  refine sv_istore_n (pc := 721) dX12_init_721 rfl (by decide) ?_
  refine lp_routes rfl rfl rfl rfl rfl (by decide) ⟨rfl, rfl⟩ ⟨le_t rfl, le_t rfl⟩ rfl rfl ?_
  refine sv_iconst (pc := 740) (v := 0) dX12_init_740 (by decide) ?_
  refine sv_istore_n (pc := 741) dX12_init_741 rfl (by decide) ?_
  refine lp_events rfl rfl rfl rfl rfl rfl rfl rfl (by decide) (by decide) (by decide) rfl rfl ?_
  refine sv_iconst (pc := 769) (v := 0) dX12_init_769 (by decide) ?_
  refine sv_istore_n (pc := 770) dX12_init_770 rfl (by decide) ?_
  refine lp_picks rfl rfl rfl rfl rfl rfl rfl rfl (by decide) (by decide) (by decide) rfl rfl ?_
  refine sv_iconst (pc := 798) (v := 0) dX12_init_798 (by decide) ?_
  refine sv_istore_n (pc := 799) dX12_init_799 rfl (by decide) ?_
  refine sv_iload_n (pc := 800) dX12_init_800 rfl rfl ?_
  refine sv_bipush (pc := 801) (v := 10) dX12_init_801 (by decide) ?_
  refine sv_icmp_ge (pc := 803) (tgt := 839) dX12_init_803 (by decide) (fun h => absurd h (by decide)) (fun _ => ?_)
  refine sv_iconst (pc := 806) (v := 0) dX12_init_806 (by decide) ?_
  refine sv_istore_n (pc := 807) dX12_init_807 rfl (by decide) ?_
  refine sv_iload_n (pc := 808) dX12_init_808 rfl rfl ?_
  refine sv_iconst (pc := 809) (v := 5) dX12_init_809 (by decide) ?_
  refine sv_icmp_ge (pc := 810) (tgt := 833) dX12_init_810 (by decide) (fun h => absurd h (by decide)) (fun _ => ?_)
  refine sv_aload_n (pc := 813) dX12_init_813 rfl rfl ?_
  refine sw_getfield (pc := 814) dX12_init_814 (gCX12 _ _ _ _ _) 83 (by decide) wF_X12_451 rfl rfl rfl ?_
  refine sv_bipush (pc := 817) (v := 6) dX12_init_817 (by decide) ?_
  refine sv_iload_n (pc := 819) dX12_init_819 rfl rfl ?_
  refine sw_imul (pc := 820) (v := 0) dX12_init_820 (by decide) ?_
  refine sv_iload_n (pc := 821) dX12_init_821 rfl rfl ?_
  refine sw_iadd (pc := 822) (v := 0) dX12_init_822 (by decide) ?_
  refine sv_iload_n (pc := 823) dX12_init_823 rfl rfl ?_
  refine sv_iconst (pc := 824) (v := 1) dX12_init_824 (by decide) ?_
  refine sw_iadd (pc := 825) (v := 1) dX12_init_825 (by decide) ?_
  refine sw_iastore (pc := 826) (k := 0) (v := .int 1) dX12_init_826 rfl rfl rfl (by decide) (by decide) rfl rfl ?_
  refine sw_iinc (pc := 827) (v := 1) dX12_init_827 rfl (by decide) (by decide) ?_
  refine sv_goto (pc := 830) (tgt := 808) dX12_init_830 (by decide) ?_
  refine sv_iload_n (pc := 808) dX12_init_808 rfl rfl ?_
  refine sv_iconst (pc := 809) (v := 5) dX12_init_809 (by decide) ?_
  refine sv_icmp_ge (pc := 810) (tgt := 833) dX12_init_810 (by decide) (fun h => absurd h (by decide)) (fun _ => ?_)
  refine sv_aload_n (pc := 813) dX12_init_813 rfl rfl ?_
  refine sw_getfield (pc := 814) dX12_init_814 (gCX12 _ _ _ _ _) 83 (by decide) wF_X12_451 rfl rfl rfl ?_
  refine sv_bipush (pc := 817) (v := 6) dX12_init_817 (by decide) ?_
  refine sv_iload_n (pc := 819) dX12_init_819 rfl rfl ?_
  refine sw_imul (pc := 820) (v := 0) dX12_init_820 (by decide) ?_
  refine sv_iload_n (pc := 821) dX12_init_821 rfl rfl ?_
  refine sw_iadd (pc := 822) (v := 1) dX12_init_822 (by decide) ?_
  refine sv_iload_n (pc := 823) dX12_init_823 rfl rfl ?_
  refine sv_iconst (pc := 824) (v := 1) dX12_init_824 (by decide) ?_
  refine sw_iadd (pc := 825) (v := 2) dX12_init_825 (by decide) ?_
  refine sw_iastore (pc := 826) (k := 1) (v := .int 2) dX12_init_826 rfl rfl rfl (by decide) (by decide) rfl rfl ?_
  refine sw_iinc (pc := 827) (v := 2) dX12_init_827 rfl (by decide) (by decide) ?_
  refine sv_goto (pc := 830) (tgt := 808) dX12_init_830 (by decide) ?_
  refine sv_iload_n (pc := 808) dX12_init_808 rfl rfl ?_
  refine sv_iconst (pc := 809) (v := 5) dX12_init_809 (by decide) ?_
  refine sv_icmp_ge (pc := 810) (tgt := 833) dX12_init_810 (by decide) (fun h => absurd h (by decide)) (fun _ => ?_)
  refine sv_aload_n (pc := 813) dX12_init_813 rfl rfl ?_
  refine sw_getfield (pc := 814) dX12_init_814 (gCX12 _ _ _ _ _) 83 (by decide) wF_X12_451 rfl rfl rfl ?_
  refine sv_bipush (pc := 817) (v := 6) dX12_init_817 (by decide) ?_
  refine sv_iload_n (pc := 819) dX12_init_819 rfl rfl ?_
  refine sw_imul (pc := 820) (v := 0) dX12_init_820 (by decide) ?_
  refine sv_iload_n (pc := 821) dX12_init_821 rfl rfl ?_
  refine sw_iadd (pc := 822) (v := 2) dX12_init_822 (by decide) ?_
  refine sv_iload_n (pc := 823) dX12_init_823 rfl rfl ?_
  refine sv_iconst (pc := 824) (v := 1) dX12_init_824 (by decide) ?_
  refine sw_iadd (pc := 825) (v := 3) dX12_init_825 (by decide) ?_
  refine sw_iastore (pc := 826) (k := 2) (v := .int 3) dX12_init_826 rfl rfl rfl (by decide) (by decide) rfl rfl ?_
  refine sw_iinc (pc := 827) (v := 3) dX12_init_827 rfl (by decide) (by decide) ?_
  refine sv_lvG (pc := 830) (lv' := [(0, .ref 106), (1, .int 0), (2, .int 3)]) (List.forall_mem_cons.mpr ⟨rfl, List.forall_mem_cons.mpr ⟨rfl, List.forall_mem_cons.mpr ⟨rfl, fun _ h => absurd h List.not_mem_nil⟩⟩⟩) ?_
  refine sv_goto (pc := 830) (tgt := 808) dX12_init_830 (by decide) ?_
  refine sv_iload_n (pc := 808) dX12_init_808 rfl rfl ?_
  refine sv_iconst (pc := 809) (v := 5) dX12_init_809 (by decide) ?_
  refine sv_icmp_ge (pc := 810) (tgt := 833) dX12_init_810 (by decide) (fun h => absurd h (by decide)) (fun _ => ?_)
  refine sv_aload_n (pc := 813) dX12_init_813 rfl rfl ?_
  refine sw_getfield (pc := 814) dX12_init_814 (gCX12 _ _ _ _ _) 83 (by decide) wF_X12_451 rfl rfl rfl ?_
  refine sv_bipush (pc := 817) (v := 6) dX12_init_817 (by decide) ?_
  refine sv_iload_n (pc := 819) dX12_init_819 rfl rfl ?_
  refine sw_imul (pc := 820) (v := 0) dX12_init_820 (by decide) ?_
  refine sv_iload_n (pc := 821) dX12_init_821 rfl rfl ?_
  refine sw_iadd (pc := 822) (v := 3) dX12_init_822 (by decide) ?_
  refine sv_iload_n (pc := 823) dX12_init_823 rfl rfl ?_
  refine sv_iconst (pc := 824) (v := 1) dX12_init_824 (by decide) ?_
  refine sw_iadd (pc := 825) (v := 4) dX12_init_825 (by decide) ?_
  refine sw_iastore (pc := 826) (k := 3) (v := .int 4) dX12_init_826 rfl rfl rfl (by decide) (by decide) rfl rfl ?_
  refine sw_iinc (pc := 827) (v := 4) dX12_init_827 rfl (by decide) (by decide) ?_
  refine sv_goto (pc := 830) (tgt := 808) dX12_init_830 (by decide) ?_
  refine sv_iload_n (pc := 808) dX12_init_808 rfl rfl ?_
  refine sv_iconst (pc := 809) (v := 5) dX12_init_809 (by decide) ?_
  refine sv_icmp_ge (pc := 810) (tgt := 833) dX12_init_810 (by decide) (fun h => absurd h (by decide)) (fun _ => ?_)
  refine sv_aload_n (pc := 813) dX12_init_813 rfl rfl ?_
  refine sw_getfield (pc := 814) dX12_init_814 (gCX12 _ _ _ _ _) 83 (by decide) wF_X12_451 rfl rfl rfl ?_
  refine sv_bipush (pc := 817) (v := 6) dX12_init_817 (by decide) ?_
  refine sv_iload_n (pc := 819) dX12_init_819 rfl rfl ?_
  refine sw_imul (pc := 820) (v := 0) dX12_init_820 (by decide) ?_
  refine sv_iload_n (pc := 821) dX12_init_821 rfl rfl ?_
  refine sw_iadd (pc := 822) (v := 4) dX12_init_822 (by decide) ?_
  refine sv_iload_n (pc := 823) dX12_init_823 rfl rfl ?_
  refine sv_iconst (pc := 824) (v := 1) dX12_init_824 (by decide) ?_
  refine sw_iadd (pc := 825) (v := 5) dX12_init_825 (by decide) ?_
  refine sw_iastore (pc := 826) (k := 4) (v := .int 5) dX12_init_826 rfl rfl rfl (by decide) (by decide) rfl rfl ?_
  refine sw_iinc (pc := 827) (v := 5) dX12_init_827 rfl (by decide) (by decide) ?_
  refine sv_goto (pc := 830) (tgt := 808) dX12_init_830 (by decide) ?_
  refine sv_iload_n (pc := 808) dX12_init_808 rfl rfl ?_
  refine sv_iconst (pc := 809) (v := 5) dX12_init_809 (by decide) ?_
  refine sv_icmp_ge (pc := 810) (tgt := 833) dX12_init_810 (by decide) (fun _ => ?_) (fun h => absurd (by decide) h)
  refine sw_iinc (pc := 833) (v := 1) dX12_init_833 rfl (by decide) (by decide) ?_
  refine sv_goto (pc := 836) (tgt := 800) dX12_init_836 (by decide) ?_
  refine sv_iload_n (pc := 800) dX12_init_800 rfl rfl ?_
  refine sv_bipush (pc := 801) (v := 10) dX12_init_801 (by decide) ?_
  refine sv_icmp_ge (pc := 803) (tgt := 839) dX12_init_803 (by decide) (fun h => absurd h (by decide)) (fun _ => ?_)
  refine sv_iconst (pc := 806) (v := 0) dX12_init_806 (by decide) ?_
  refine sv_istore_n (pc := 807) dX12_init_807 rfl (by decide) ?_
  refine sv_iload_n (pc := 808) dX12_init_808 rfl rfl ?_
  refine sv_iconst (pc := 809) (v := 5) dX12_init_809 (by decide) ?_
  refine sv_icmp_ge (pc := 810) (tgt := 833) dX12_init_810 (by decide) (fun h => absurd h (by decide)) (fun _ => ?_)
  refine sv_aload_n (pc := 813) dX12_init_813 rfl rfl ?_
  refine sw_getfield (pc := 814) dX12_init_814 (gCX12 _ _ _ _ _) 83 (by decide) wF_X12_451 rfl rfl rfl ?_
  refine sv_bipush (pc := 817) (v := 6) dX12_init_817 (by decide) ?_
  refine sv_iload_n (pc := 819) dX12_init_819 rfl rfl ?_
  refine sw_imul (pc := 820) (v := 6) dX12_init_820 (by decide) ?_
  refine sv_iload_n (pc := 821) dX12_init_821 rfl rfl ?_
  refine sw_iadd (pc := 822) (v := 6) dX12_init_822 (by decide) ?_
  refine sv_iload_n (pc := 823) dX12_init_823 rfl rfl ?_
  refine sv_iconst (pc := 824) (v := 1) dX12_init_824 (by decide) ?_
  refine sw_iadd (pc := 825) (v := 1) dX12_init_825 (by decide) ?_
  refine sw_iastore (pc := 826) (k := 6) (v := .int 1) dX12_init_826 rfl rfl rfl (by decide) (by decide) rfl rfl ?_
  refine sw_iinc (pc := 827) (v := 1) dX12_init_827 rfl (by decide) (by decide) ?_
  refine sv_goto (pc := 830) (tgt := 808) dX12_init_830 (by decide) ?_
  refine sv_iload_n (pc := 808) dX12_init_808 rfl rfl ?_
  refine sv_iconst (pc := 809) (v := 5) dX12_init_809 (by decide) ?_
  refine sv_icmp_ge (pc := 810) (tgt := 833) dX12_init_810 (by decide) (fun h => absurd h (by decide)) (fun _ => ?_)
  refine sv_aload_n (pc := 813) dX12_init_813 rfl rfl ?_
  refine sw_getfield (pc := 814) dX12_init_814 (gCX12 _ _ _ _ _) 83 (by decide) wF_X12_451 rfl rfl rfl ?_
  refine sv_bipush (pc := 817) (v := 6) dX12_init_817 (by decide) ?_
  refine sv_iload_n (pc := 819) dX12_init_819 rfl rfl ?_
  refine sw_imul (pc := 820) (v := 6) dX12_init_820 (by decide) ?_
  refine sv_iload_n (pc := 821) dX12_init_821 rfl rfl ?_
  refine sw_iadd (pc := 822) (v := 7) dX12_init_822 (by decide) ?_
  refine sv_iload_n (pc := 823) dX12_init_823 rfl rfl ?_
  refine sv_iconst (pc := 824) (v := 1) dX12_init_824 (by decide) ?_
  refine sw_iadd (pc := 825) (v := 2) dX12_init_825 (by decide) ?_
  refine sw_iastore (pc := 826) (k := 7) (v := .int 2) dX12_init_826 rfl rfl rfl (by decide) (by decide) rfl rfl ?_
  refine sw_iinc (pc := 827) (v := 2) dX12_init_827 rfl (by decide) (by decide) ?_
  refine sv_goto (pc := 830) (tgt := 808) dX12_init_830 (by decide) ?_
  refine sv_iload_n (pc := 808) dX12_init_808 rfl rfl ?_
  refine sv_iconst (pc := 809) (v := 5) dX12_init_809 (by decide) ?_
  refine sv_icmp_ge (pc := 810) (tgt := 833) dX12_init_810 (by decide) (fun h => absurd h (by decide)) (fun _ => ?_)
  refine sv_aload_n (pc := 813) dX12_init_813 rfl rfl ?_
  refine sw_getfield (pc := 814) dX12_init_814 (gCX12 _ _ _ _ _) 83 (by decide) wF_X12_451 rfl rfl rfl ?_
  refine sv_bipush (pc := 817) (v := 6) dX12_init_817 (by decide) ?_
  refine sv_iload_n (pc := 819) dX12_init_819 rfl rfl ?_
  refine sw_imul (pc := 820) (v := 6) dX12_init_820 (by decide) ?_
  refine sv_iload_n (pc := 821) dX12_init_821 rfl rfl ?_
  refine sw_iadd (pc := 822) (v := 8) dX12_init_822 (by decide) ?_
  refine sv_iload_n (pc := 823) dX12_init_823 rfl rfl ?_
  refine sv_iconst (pc := 824) (v := 1) dX12_init_824 (by decide) ?_
  refine sw_iadd (pc := 825) (v := 3) dX12_init_825 (by decide) ?_
  refine sw_iastore (pc := 826) (k := 8) (v := .int 3) dX12_init_826 rfl rfl rfl (by decide) (by decide) rfl rfl ?_
  refine sw_iinc (pc := 827) (v := 3) dX12_init_827 rfl (by decide) (by decide) ?_
  refine sv_goto (pc := 830) (tgt := 808) dX12_init_830 (by decide) ?_
  refine sv_iload_n (pc := 808) dX12_init_808 rfl rfl ?_
  refine sv_iconst (pc := 809) (v := 5) dX12_init_809 (by decide) ?_
  refine sv_icmp_ge (pc := 810) (tgt := 833) dX12_init_810 (by decide) (fun h => absurd h (by decide)) (fun _ => ?_)
  refine sv_aload_n (pc := 813) dX12_init_813 rfl rfl ?_
  refine sw_getfield (pc := 814) dX12_init_814 (gCX12 _ _ _ _ _) 83 (by decide) wF_X12_451 rfl rfl rfl ?_
  refine sv_bipush (pc := 817) (v := 6) dX12_init_817 (by decide) ?_
  refine sv_iload_n (pc := 819) dX12_init_819 rfl rfl ?_
  refine sw_imul (pc := 820) (v := 6) dX12_init_820 (by decide) ?_
  refine sv_iload_n (pc := 821) dX12_init_821 rfl rfl ?_
  refine sw_iadd (pc := 822) (v := 9) dX12_init_822 (by decide) ?_
  refine sv_iload_n (pc := 823) dX12_init_823 rfl rfl ?_
  refine sv_iconst (pc := 824) (v := 1) dX12_init_824 (by decide) ?_
  refine sw_iadd (pc := 825) (v := 4) dX12_init_825 (by decide) ?_
  refine sw_iastore (pc := 826) (k := 9) (v := .int 4) dX12_init_826 rfl rfl rfl (by decide) (by decide) rfl rfl ?_
  refine sw_iinc (pc := 827) (v := 4) dX12_init_827 rfl (by decide) (by decide) ?_
  refine sv_lvG (pc := 830) (lv' := [(0, .ref 106), (1, .int 1), (2, .int 4)]) (List.forall_mem_cons.mpr ⟨rfl, List.forall_mem_cons.mpr ⟨rfl, List.forall_mem_cons.mpr ⟨rfl, fun _ h => absurd h List.not_mem_nil⟩⟩⟩) ?_
  refine sv_goto (pc := 830) (tgt := 808) dX12_init_830 (by decide) ?_
  refine sv_iload_n (pc := 808) dX12_init_808 rfl rfl ?_
  refine sv_iconst (pc := 809) (v := 5) dX12_init_809 (by decide) ?_
  refine sv_icmp_ge (pc := 810) (tgt := 833) dX12_init_810 (by decide) (fun h => absurd h (by decide)) (fun _ => ?_)
  refine sv_aload_n (pc := 813) dX12_init_813 rfl rfl ?_
  refine sw_getfield (pc := 814) dX12_init_814 (gCX12 _ _ _ _ _) 83 (by decide) wF_X12_451 rfl rfl rfl ?_
  refine sv_bipush (pc := 817) (v := 6) dX12_init_817 (by decide) ?_
  refine sv_iload_n (pc := 819) dX12_init_819 rfl rfl ?_
  refine sw_imul (pc := 820) (v := 6) dX12_init_820 (by decide) ?_
  refine sv_iload_n (pc := 821) dX12_init_821 rfl rfl ?_
  refine sw_iadd (pc := 822) (v := 10) dX12_init_822 (by decide) ?_
  refine sv_iload_n (pc := 823) dX12_init_823 rfl rfl ?_
  refine sv_iconst (pc := 824) (v := 1) dX12_init_824 (by decide) ?_
  refine sw_iadd (pc := 825) (v := 5) dX12_init_825 (by decide) ?_
  refine sw_iastore (pc := 826) (k := 10) (v := .int 5) dX12_init_826 rfl rfl rfl (by decide) (by decide) rfl rfl ?_
  refine sw_iinc (pc := 827) (v := 5) dX12_init_827 rfl (by decide) (by decide) ?_
  refine sv_goto (pc := 830) (tgt := 808) dX12_init_830 (by decide) ?_
  refine sv_iload_n (pc := 808) dX12_init_808 rfl rfl ?_
  refine sv_iconst (pc := 809) (v := 5) dX12_init_809 (by decide) ?_
  refine sv_icmp_ge (pc := 810) (tgt := 833) dX12_init_810 (by decide) (fun _ => ?_) (fun h => absurd (by decide) h)
  refine sw_iinc (pc := 833) (v := 2) dX12_init_833 rfl (by decide) (by decide) ?_
  refine sv_goto (pc := 836) (tgt := 800) dX12_init_836 (by decide) ?_
  refine sv_iload_n (pc := 800) dX12_init_800 rfl rfl ?_
  refine sv_bipush (pc := 801) (v := 10) dX12_init_801 (by decide) ?_
  refine sv_icmp_ge (pc := 803) (tgt := 839) dX12_init_803 (by decide) (fun h => absurd h (by decide)) (fun _ => ?_)
  refine sv_iconst (pc := 806) (v := 0) dX12_init_806 (by decide) ?_
  refine sv_istore_n (pc := 807) dX12_init_807 rfl (by decide) ?_
  refine sv_iload_n (pc := 808) dX12_init_808 rfl rfl ?_
  refine sv_iconst (pc := 809) (v := 5) dX12_init_809 (by decide) ?_
  refine sv_icmp_ge (pc := 810) (tgt := 833) dX12_init_810 (by decide) (fun h => absurd h (by decide)) (fun _ => ?_)
  refine sv_aload_n (pc := 813) dX12_init_813 rfl rfl ?_
  refine sw_getfield (pc := 814) dX12_init_814 (gCX12 _ _ _ _ _) 83 (by decide) wF_X12_451 rfl rfl rfl ?_
  refine sv_bipush (pc := 817) (v := 6) dX12_init_817 (by decide) ?_
  refine sv_iload_n (pc := 819) dX12_init_819 rfl rfl ?_
  refine sw_imul (pc := 820) (v := 12) dX12_init_820 (by decide) ?_
  refine sv_iload_n (pc := 821) dX12_init_821 rfl rfl ?_
  refine sw_iadd (pc := 822) (v := 12) dX12_init_822 (by decide) ?_
  refine sv_iload_n (pc := 823) dX12_init_823 rfl rfl ?_
  refine sv_iconst (pc := 824) (v := 1) dX12_init_824 (by decide) ?_
  refine sw_iadd (pc := 825) (v := 1) dX12_init_825 (by decide) ?_
  refine sw_iastore (pc := 826) (k := 12) (v := .int 1) dX12_init_826 rfl rfl rfl (by decide) (by decide) rfl rfl ?_
  refine sw_iinc (pc := 827) (v := 1) dX12_init_827 rfl (by decide) (by decide) ?_
  refine sv_goto (pc := 830) (tgt := 808) dX12_init_830 (by decide) ?_
  refine sv_iload_n (pc := 808) dX12_init_808 rfl rfl ?_
  refine sv_iconst (pc := 809) (v := 5) dX12_init_809 (by decide) ?_
  refine sv_icmp_ge (pc := 810) (tgt := 833) dX12_init_810 (by decide) (fun h => absurd h (by decide)) (fun _ => ?_)
  refine sv_aload_n (pc := 813) dX12_init_813 rfl rfl ?_
  refine sw_getfield (pc := 814) dX12_init_814 (gCX12 _ _ _ _ _) 83 (by decide) wF_X12_451 rfl rfl rfl ?_
  refine sv_bipush (pc := 817) (v := 6) dX12_init_817 (by decide) ?_
  refine sv_iload_n (pc := 819) dX12_init_819 rfl rfl ?_
  refine sw_imul (pc := 820) (v := 12) dX12_init_820 (by decide) ?_
  refine sv_iload_n (pc := 821) dX12_init_821 rfl rfl ?_
  refine sw_iadd (pc := 822) (v := 13) dX12_init_822 (by decide) ?_
  refine sv_iload_n (pc := 823) dX12_init_823 rfl rfl ?_
  refine sv_iconst (pc := 824) (v := 1) dX12_init_824 (by decide) ?_
  refine sw_iadd (pc := 825) (v := 2) dX12_init_825 (by decide) ?_
  refine sw_iastore (pc := 826) (k := 13) (v := .int 2) dX12_init_826 rfl rfl rfl (by decide) (by decide) rfl rfl ?_
  refine sw_iinc (pc := 827) (v := 2) dX12_init_827 rfl (by decide) (by decide) ?_
  refine sv_goto (pc := 830) (tgt := 808) dX12_init_830 (by decide) ?_
  refine sv_iload_n (pc := 808) dX12_init_808 rfl rfl ?_
  refine sv_iconst (pc := 809) (v := 5) dX12_init_809 (by decide) ?_
  refine sv_icmp_ge (pc := 810) (tgt := 833) dX12_init_810 (by decide) (fun h => absurd h (by decide)) (fun _ => ?_)
  refine sv_aload_n (pc := 813) dX12_init_813 rfl rfl ?_
  refine sw_getfield (pc := 814) dX12_init_814 (gCX12 _ _ _ _ _) 83 (by decide) wF_X12_451 rfl rfl rfl ?_
  refine sv_bipush (pc := 817) (v := 6) dX12_init_817 (by decide) ?_
  refine sv_iload_n (pc := 819) dX12_init_819 rfl rfl ?_
  refine sw_imul (pc := 820) (v := 12) dX12_init_820 (by decide) ?_
  refine sv_iload_n (pc := 821) dX12_init_821 rfl rfl ?_
  refine sw_iadd (pc := 822) (v := 14) dX12_init_822 (by decide) ?_
  refine sv_iload_n (pc := 823) dX12_init_823 rfl rfl ?_
  refine sv_iconst (pc := 824) (v := 1) dX12_init_824 (by decide) ?_
  refine sw_iadd (pc := 825) (v := 3) dX12_init_825 (by decide) ?_
  refine sw_iastore (pc := 826) (k := 14) (v := .int 3) dX12_init_826 rfl rfl rfl (by decide) (by decide) rfl rfl ?_
  refine sw_iinc (pc := 827) (v := 3) dX12_init_827 rfl (by decide) (by decide) ?_
  refine sv_goto (pc := 830) (tgt := 808) dX12_init_830 (by decide) ?_
  refine sv_iload_n (pc := 808) dX12_init_808 rfl rfl ?_
  refine sv_iconst (pc := 809) (v := 5) dX12_init_809 (by decide) ?_
  refine sv_icmp_ge (pc := 810) (tgt := 833) dX12_init_810 (by decide) (fun h => absurd h (by decide)) (fun _ => ?_)
  refine sv_aload_n (pc := 813) dX12_init_813 rfl rfl ?_
  refine sw_getfield (pc := 814) dX12_init_814 (gCX12 _ _ _ _ _) 83 (by decide) wF_X12_451 rfl rfl rfl ?_
  refine sv_bipush (pc := 817) (v := 6) dX12_init_817 (by decide) ?_
  refine sv_iload_n (pc := 819) dX12_init_819 rfl rfl ?_
  refine sw_imul (pc := 820) (v := 12) dX12_init_820 (by decide) ?_
  refine sv_iload_n (pc := 821) dX12_init_821 rfl rfl ?_
  refine sw_iadd (pc := 822) (v := 15) dX12_init_822 (by decide) ?_
  refine sv_iload_n (pc := 823) dX12_init_823 rfl rfl ?_
  refine sv_iconst (pc := 824) (v := 1) dX12_init_824 (by decide) ?_
  refine sw_iadd (pc := 825) (v := 4) dX12_init_825 (by decide) ?_
  refine sw_iastore (pc := 826) (k := 15) (v := .int 4) dX12_init_826 rfl rfl rfl (by decide) (by decide) rfl rfl ?_
  refine sw_iinc (pc := 827) (v := 4) dX12_init_827 rfl (by decide) (by decide) ?_
  refine sv_goto (pc := 830) (tgt := 808) dX12_init_830 (by decide) ?_
  refine sv_iload_n (pc := 808) dX12_init_808 rfl rfl ?_
  refine sv_iconst (pc := 809) (v := 5) dX12_init_809 (by decide) ?_
  refine sv_icmp_ge (pc := 810) (tgt := 833) dX12_init_810 (by decide) (fun h => absurd h (by decide)) (fun _ => ?_)
  refine sv_aload_n (pc := 813) dX12_init_813 rfl rfl ?_
  refine sw_getfield (pc := 814) dX12_init_814 (gCX12 _ _ _ _ _) 83 (by decide) wF_X12_451 rfl rfl rfl ?_
  refine sv_bipush (pc := 817) (v := 6) dX12_init_817 (by decide) ?_
  refine sv_iload_n (pc := 819) dX12_init_819 rfl rfl ?_
  refine sw_imul (pc := 820) (v := 12) dX12_init_820 (by decide) ?_
  refine sv_iload_n (pc := 821) dX12_init_821 rfl rfl ?_
  refine sw_iadd (pc := 822) (v := 16) dX12_init_822 (by decide) ?_
  refine sv_iload_n (pc := 823) dX12_init_823 rfl rfl ?_
  refine sv_iconst (pc := 824) (v := 1) dX12_init_824 (by decide) ?_
  refine sw_iadd (pc := 825) (v := 5) dX12_init_825 (by decide) ?_
  refine sw_iastore (pc := 826) (k := 16) (v := .int 5) dX12_init_826 rfl rfl rfl (by decide) (by decide) rfl rfl ?_
  refine sw_iinc (pc := 827) (v := 5) dX12_init_827 rfl (by decide) (by decide) ?_
  refine sv_lvG (pc := 830) (lv' := [(0, .ref 106), (1, .int 2), (2, .int 5)]) (List.forall_mem_cons.mpr ⟨rfl, List.forall_mem_cons.mpr ⟨rfl, List.forall_mem_cons.mpr ⟨rfl, fun _ h => absurd h List.not_mem_nil⟩⟩⟩) ?_
  refine sv_goto (pc := 830) (tgt := 808) dX12_init_830 (by decide) ?_
  refine sv_iload_n (pc := 808) dX12_init_808 rfl rfl ?_
  refine sv_iconst (pc := 809) (v := 5) dX12_init_809 (by decide) ?_
  refine sv_icmp_ge (pc := 810) (tgt := 833) dX12_init_810 (by decide) (fun _ => ?_) (fun h => absurd (by decide) h)
  refine sw_iinc (pc := 833) (v := 3) dX12_init_833 rfl (by decide) (by decide) ?_
  refine sv_goto (pc := 836) (tgt := 800) dX12_init_836 (by decide) ?_
  refine sv_iload_n (pc := 800) dX12_init_800 rfl rfl ?_
  refine sv_bipush (pc := 801) (v := 10) dX12_init_801 (by decide) ?_
  refine sv_icmp_ge (pc := 803) (tgt := 839) dX12_init_803 (by decide) (fun h => absurd h (by decide)) (fun _ => ?_)
  refine sv_iconst (pc := 806) (v := 0) dX12_init_806 (by decide) ?_
  refine sv_istore_n (pc := 807) dX12_init_807 rfl (by decide) ?_
  refine sv_iload_n (pc := 808) dX12_init_808 rfl rfl ?_
  refine sv_iconst (pc := 809) (v := 5) dX12_init_809 (by decide) ?_
  refine sv_icmp_ge (pc := 810) (tgt := 833) dX12_init_810 (by decide) (fun h => absurd h (by decide)) (fun _ => ?_)
  refine sv_aload_n (pc := 813) dX12_init_813 rfl rfl ?_
  refine sw_getfield (pc := 814) dX12_init_814 (gCX12 _ _ _ _ _) 83 (by decide) wF_X12_451 rfl rfl rfl ?_
  refine sv_bipush (pc := 817) (v := 6) dX12_init_817 (by decide) ?_
  refine sv_iload_n (pc := 819) dX12_init_819 rfl rfl ?_
  refine sw_imul (pc := 820) (v := 18) dX12_init_820 (by decide) ?_
  refine sv_iload_n (pc := 821) dX12_init_821 rfl rfl ?_
  refine sw_iadd (pc := 822) (v := 18) dX12_init_822 (by decide) ?_
  refine sv_iload_n (pc := 823) dX12_init_823 rfl rfl ?_
  refine sv_iconst (pc := 824) (v := 1) dX12_init_824 (by decide) ?_
  refine sw_iadd (pc := 825) (v := 1) dX12_init_825 (by decide) ?_
  refine sw_iastore (pc := 826) (k := 18) (v := .int 1) dX12_init_826 rfl rfl rfl (by decide) (by decide) rfl rfl ?_
  refine sw_iinc (pc := 827) (v := 1) dX12_init_827 rfl (by decide) (by decide) ?_
  refine sv_goto (pc := 830) (tgt := 808) dX12_init_830 (by decide) ?_
  refine sv_iload_n (pc := 808) dX12_init_808 rfl rfl ?_
  refine sv_iconst (pc := 809) (v := 5) dX12_init_809 (by decide) ?_
  refine sv_icmp_ge (pc := 810) (tgt := 833) dX12_init_810 (by decide) (fun h => absurd h (by decide)) (fun _ => ?_)
  refine sv_aload_n (pc := 813) dX12_init_813 rfl rfl ?_
  refine sw_getfield (pc := 814) dX12_init_814 (gCX12 _ _ _ _ _) 83 (by decide) wF_X12_451 rfl rfl rfl ?_
  refine sv_bipush (pc := 817) (v := 6) dX12_init_817 (by decide) ?_
  refine sv_iload_n (pc := 819) dX12_init_819 rfl rfl ?_
  refine sw_imul (pc := 820) (v := 18) dX12_init_820 (by decide) ?_
  refine sv_iload_n (pc := 821) dX12_init_821 rfl rfl ?_
  refine sw_iadd (pc := 822) (v := 19) dX12_init_822 (by decide) ?_
  refine sv_iload_n (pc := 823) dX12_init_823 rfl rfl ?_
  refine sv_iconst (pc := 824) (v := 1) dX12_init_824 (by decide) ?_
  refine sw_iadd (pc := 825) (v := 2) dX12_init_825 (by decide) ?_
  refine sw_iastore (pc := 826) (k := 19) (v := .int 2) dX12_init_826 rfl rfl rfl (by decide) (by decide) rfl rfl ?_
  refine sw_iinc (pc := 827) (v := 2) dX12_init_827 rfl (by decide) (by decide) ?_
  refine sv_goto (pc := 830) (tgt := 808) dX12_init_830 (by decide) ?_
  refine sv_iload_n (pc := 808) dX12_init_808 rfl rfl ?_
  refine sv_iconst (pc := 809) (v := 5) dX12_init_809 (by decide) ?_
  refine sv_icmp_ge (pc := 810) (tgt := 833) dX12_init_810 (by decide) (fun h => absurd h (by decide)) (fun _ => ?_)
  refine sv_aload_n (pc := 813) dX12_init_813 rfl rfl ?_
  refine sw_getfield (pc := 814) dX12_init_814 (gCX12 _ _ _ _ _) 83 (by decide) wF_X12_451 rfl rfl rfl ?_
  refine sv_bipush (pc := 817) (v := 6) dX12_init_817 (by decide) ?_
  refine sv_iload_n (pc := 819) dX12_init_819 rfl rfl ?_
  refine sw_imul (pc := 820) (v := 18) dX12_init_820 (by decide) ?_
  refine sv_iload_n (pc := 821) dX12_init_821 rfl rfl ?_
  refine sw_iadd (pc := 822) (v := 20) dX12_init_822 (by decide) ?_
  refine sv_iload_n (pc := 823) dX12_init_823 rfl rfl ?_
  refine sv_iconst (pc := 824) (v := 1) dX12_init_824 (by decide) ?_
  refine sw_iadd (pc := 825) (v := 3) dX12_init_825 (by decide) ?_
  refine sw_iastore (pc := 826) (k := 20) (v := .int 3) dX12_init_826 rfl rfl rfl (by decide) (by decide) rfl rfl ?_
  refine sw_iinc (pc := 827) (v := 3) dX12_init_827 rfl (by decide) (by decide) ?_
  refine sv_goto (pc := 830) (tgt := 808) dX12_init_830 (by decide) ?_
  refine sv_iload_n (pc := 808) dX12_init_808 rfl rfl ?_
  refine sv_iconst (pc := 809) (v := 5) dX12_init_809 (by decide) ?_
  refine sv_icmp_ge (pc := 810) (tgt := 833) dX12_init_810 (by decide) (fun h => absurd h (by decide)) (fun _ => ?_)
  refine sv_aload_n (pc := 813) dX12_init_813 rfl rfl ?_
  refine sw_getfield (pc := 814) dX12_init_814 (gCX12 _ _ _ _ _) 83 (by decide) wF_X12_451 rfl rfl rfl ?_
  refine sv_bipush (pc := 817) (v := 6) dX12_init_817 (by decide) ?_
  refine sv_iload_n (pc := 819) dX12_init_819 rfl rfl ?_
  refine sw_imul (pc := 820) (v := 18) dX12_init_820 (by decide) ?_
  refine sv_iload_n (pc := 821) dX12_init_821 rfl rfl ?_
  refine sw_iadd (pc := 822) (v := 21) dX12_init_822 (by decide) ?_
  refine sv_iload_n (pc := 823) dX12_init_823 rfl rfl ?_
  refine sv_iconst (pc := 824) (v := 1) dX12_init_824 (by decide) ?_
  refine sw_iadd (pc := 825) (v := 4) dX12_init_825 (by decide) ?_
  refine sw_iastore (pc := 826) (k := 21) (v := .int 4) dX12_init_826 rfl rfl rfl (by decide) (by decide) rfl rfl ?_
  refine sw_iinc (pc := 827) (v := 4) dX12_init_827 rfl (by decide) (by decide) ?_
  refine sv_goto (pc := 830) (tgt := 808) dX12_init_830 (by decide) ?_
  refine sv_iload_n (pc := 808) dX12_init_808 rfl rfl ?_
  refine sv_iconst (pc := 809) (v := 5) dX12_init_809 (by decide) ?_
  refine sv_icmp_ge (pc := 810) (tgt := 833) dX12_init_810 (by decide) (fun h => absurd h (by decide)) (fun _ => ?_)
  refine sv_aload_n (pc := 813) dX12_init_813 rfl rfl ?_
  refine sw_getfield (pc := 814) dX12_init_814 (gCX12 _ _ _ _ _) 83 (by decide) wF_X12_451 rfl rfl rfl ?_
  refine sv_bipush (pc := 817) (v := 6) dX12_init_817 (by decide) ?_
  refine sv_iload_n (pc := 819) dX12_init_819 rfl rfl ?_
  refine sw_imul (pc := 820) (v := 18) dX12_init_820 (by decide) ?_
  refine sv_iload_n (pc := 821) dX12_init_821 rfl rfl ?_
  refine sw_iadd (pc := 822) (v := 22) dX12_init_822 (by decide) ?_
  refine sv_iload_n (pc := 823) dX12_init_823 rfl rfl ?_
  refine sv_iconst (pc := 824) (v := 1) dX12_init_824 (by decide) ?_
  refine sw_iadd (pc := 825) (v := 5) dX12_init_825 (by decide) ?_
  refine sw_iastore (pc := 826) (k := 22) (v := .int 5) dX12_init_826 rfl rfl rfl (by decide) (by decide) rfl rfl ?_
  refine sw_iinc (pc := 827) (v := 5) dX12_init_827 rfl (by decide) (by decide) ?_
  refine sv_goto (pc := 830) (tgt := 808) dX12_init_830 (by decide) ?_
  refine sv_iload_n (pc := 808) dX12_init_808 rfl rfl ?_
  refine sv_iconst (pc := 809) (v := 5) dX12_init_809 (by decide) ?_
  refine sv_icmp_ge (pc := 810) (tgt := 833) dX12_init_810 (by decide) (fun _ => ?_) (fun h => absurd (by decide) h)
  refine sw_iinc (pc := 833) (v := 4) dX12_init_833 rfl (by decide) (by decide) ?_
  refine sv_lvG (pc := 836) (lv' := [(0, .ref 106), (1, .int 4), (2, .int 5)]) (List.forall_mem_cons.mpr ⟨rfl, List.forall_mem_cons.mpr ⟨rfl, List.forall_mem_cons.mpr ⟨rfl, fun _ h => absurd h List.not_mem_nil⟩⟩⟩) ?_
  refine sv_goto (pc := 836) (tgt := 800) dX12_init_836 (by decide) ?_
  refine sv_iload_n (pc := 800) dX12_init_800 rfl rfl ?_
  refine sv_bipush (pc := 801) (v := 10) dX12_init_801 (by decide) ?_
  refine sv_icmp_ge (pc := 803) (tgt := 839) dX12_init_803 (by decide) (fun h => absurd h (by decide)) (fun _ => ?_)
  refine sv_iconst (pc := 806) (v := 0) dX12_init_806 (by decide) ?_
  refine sv_istore_n (pc := 807) dX12_init_807 rfl (by decide) ?_
  refine sv_iload_n (pc := 808) dX12_init_808 rfl rfl ?_
  refine sv_iconst (pc := 809) (v := 5) dX12_init_809 (by decide) ?_
  refine sv_icmp_ge (pc := 810) (tgt := 833) dX12_init_810 (by decide) (fun h => absurd h (by decide)) (fun _ => ?_)
  refine sv_aload_n (pc := 813) dX12_init_813 rfl rfl ?_
  refine sw_getfield (pc := 814) dX12_init_814 (gCX12 _ _ _ _ _) 83 (by decide) wF_X12_451 rfl rfl rfl ?_
  refine sv_bipush (pc := 817) (v := 6) dX12_init_817 (by decide) ?_
  refine sv_iload_n (pc := 819) dX12_init_819 rfl rfl ?_
  refine sw_imul (pc := 820) (v := 24) dX12_init_820 (by decide) ?_
  refine sv_iload_n (pc := 821) dX12_init_821 rfl rfl ?_
  refine sw_iadd (pc := 822) (v := 24) dX12_init_822 (by decide) ?_
  refine sv_iload_n (pc := 823) dX12_init_823 rfl rfl ?_
  refine sv_iconst (pc := 824) (v := 1) dX12_init_824 (by decide) ?_
  refine sw_iadd (pc := 825) (v := 1) dX12_init_825 (by decide) ?_
  refine sw_iastore (pc := 826) (k := 24) (v := .int 1) dX12_init_826 rfl rfl rfl (by decide) (by decide) rfl rfl ?_
  refine sw_iinc (pc := 827) (v := 1) dX12_init_827 rfl (by decide) (by decide) ?_
  refine sv_goto (pc := 830) (tgt := 808) dX12_init_830 (by decide) ?_
  refine sv_iload_n (pc := 808) dX12_init_808 rfl rfl ?_
  refine sv_iconst (pc := 809) (v := 5) dX12_init_809 (by decide) ?_
  refine sv_icmp_ge (pc := 810) (tgt := 833) dX12_init_810 (by decide) (fun h => absurd h (by decide)) (fun _ => ?_)
  refine sv_aload_n (pc := 813) dX12_init_813 rfl rfl ?_
  refine sw_getfield (pc := 814) dX12_init_814 (gCX12 _ _ _ _ _) 83 (by decide) wF_X12_451 rfl rfl rfl ?_
  refine sv_bipush (pc := 817) (v := 6) dX12_init_817 (by decide) ?_
  refine sv_iload_n (pc := 819) dX12_init_819 rfl rfl ?_
  refine sw_imul (pc := 820) (v := 24) dX12_init_820 (by decide) ?_
  refine sv_iload_n (pc := 821) dX12_init_821 rfl rfl ?_
  refine sw_iadd (pc := 822) (v := 25) dX12_init_822 (by decide) ?_
  refine sv_iload_n (pc := 823) dX12_init_823 rfl rfl ?_
  refine sv_iconst (pc := 824) (v := 1) dX12_init_824 (by decide) ?_
  refine sw_iadd (pc := 825) (v := 2) dX12_init_825 (by decide) ?_
  refine sw_iastore (pc := 826) (k := 25) (v := .int 2) dX12_init_826 rfl rfl rfl (by decide) (by decide) rfl rfl ?_
  refine sw_iinc (pc := 827) (v := 2) dX12_init_827 rfl (by decide) (by decide) ?_
  refine sv_goto (pc := 830) (tgt := 808) dX12_init_830 (by decide) ?_
  refine sv_iload_n (pc := 808) dX12_init_808 rfl rfl ?_
  refine sv_iconst (pc := 809) (v := 5) dX12_init_809 (by decide) ?_
  refine sv_icmp_ge (pc := 810) (tgt := 833) dX12_init_810 (by decide) (fun h => absurd h (by decide)) (fun _ => ?_)
  refine sv_aload_n (pc := 813) dX12_init_813 rfl rfl ?_
  refine sw_getfield (pc := 814) dX12_init_814 (gCX12 _ _ _ _ _) 83 (by decide) wF_X12_451 rfl rfl rfl ?_
  refine sv_bipush (pc := 817) (v := 6) dX12_init_817 (by decide) ?_
  refine sv_iload_n (pc := 819) dX12_init_819 rfl rfl ?_
  refine sw_imul (pc := 820) (v := 24) dX12_init_820 (by decide) ?_
  refine sv_iload_n (pc := 821) dX12_init_821 rfl rfl ?_
  refine sw_iadd (pc := 822) (v := 26) dX12_init_822 (by decide) ?_
  refine sv_iload_n (pc := 823) dX12_init_823 rfl rfl ?_
  refine sv_iconst (pc := 824) (v := 1) dX12_init_824 (by decide) ?_
  refine sw_iadd (pc := 825) (v := 3) dX12_init_825 (by decide) ?_
  refine sw_iastore (pc := 826) (k := 26) (v := .int 3) dX12_init_826 rfl rfl rfl (by decide) (by decide) rfl rfl ?_
  refine sw_iinc (pc := 827) (v := 3) dX12_init_827 rfl (by decide) (by decide) ?_
  refine sv_goto (pc := 830) (tgt := 808) dX12_init_830 (by decide) ?_
  refine sv_iload_n (pc := 808) dX12_init_808 rfl rfl ?_
  refine sv_iconst (pc := 809) (v := 5) dX12_init_809 (by decide) ?_
  refine sv_icmp_ge (pc := 810) (tgt := 833) dX12_init_810 (by decide) (fun h => absurd h (by decide)) (fun _ => ?_)
  refine sv_aload_n (pc := 813) dX12_init_813 rfl rfl ?_
  refine sw_getfield (pc := 814) dX12_init_814 (gCX12 _ _ _ _ _) 83 (by decide) wF_X12_451 rfl rfl rfl ?_
  refine sv_bipush (pc := 817) (v := 6) dX12_init_817 (by decide) ?_
  refine sv_iload_n (pc := 819) dX12_init_819 rfl rfl ?_
  refine sw_imul (pc := 820) (v := 24) dX12_init_820 (by decide) ?_
  refine sv_iload_n (pc := 821) dX12_init_821 rfl rfl ?_
  refine sw_iadd (pc := 822) (v := 27) dX12_init_822 (by decide) ?_
  refine sv_iload_n (pc := 823) dX12_init_823 rfl rfl ?_
  refine sv_iconst (pc := 824) (v := 1) dX12_init_824 (by decide) ?_
  refine sw_iadd (pc := 825) (v := 4) dX12_init_825 (by decide) ?_
  refine sw_iastore (pc := 826) (k := 27) (v := .int 4) dX12_init_826 rfl rfl rfl (by decide) (by decide) rfl rfl ?_
  refine sw_iinc (pc := 827) (v := 4) dX12_init_827 rfl (by decide) (by decide) ?_
  refine sv_goto (pc := 830) (tgt := 808) dX12_init_830 (by decide) ?_
  refine sv_iload_n (pc := 808) dX12_init_808 rfl rfl ?_
  refine sv_iconst (pc := 809) (v := 5) dX12_init_809 (by decide) ?_
  refine sv_icmp_ge (pc := 810) (tgt := 833) dX12_init_810 (by decide) (fun h => absurd h (by decide)) (fun _ => ?_)
  refine sv_aload_n (pc := 813) dX12_init_813 rfl rfl ?_
  refine sw_getfield (pc := 814) dX12_init_814 (gCX12 _ _ _ _ _) 83 (by decide) wF_X12_451 rfl rfl rfl ?_
  refine sv_bipush (pc := 817) (v := 6) dX12_init_817 (by decide) ?_
  refine sv_iload_n (pc := 819) dX12_init_819 rfl rfl ?_
  refine sw_imul (pc := 820) (v := 24) dX12_init_820 (by decide) ?_
  refine sv_iload_n (pc := 821) dX12_init_821 rfl rfl ?_
  refine sw_iadd (pc := 822) (v := 28) dX12_init_822 (by decide) ?_
  refine sv_iload_n (pc := 823) dX12_init_823 rfl rfl ?_
  refine sv_iconst (pc := 824) (v := 1) dX12_init_824 (by decide) ?_
  refine sw_iadd (pc := 825) (v := 5) dX12_init_825 (by decide) ?_
  refine sw_iastore (pc := 826) (k := 28) (v := .int 5) dX12_init_826 rfl rfl rfl (by decide) (by decide) rfl rfl ?_
  refine sw_iinc (pc := 827) (v := 5) dX12_init_827 rfl (by decide) (by decide) ?_
  refine sv_goto (pc := 830) (tgt := 808) dX12_init_830 (by decide) ?_
  refine sv_iload_n (pc := 808) dX12_init_808 rfl rfl ?_
  refine sv_iconst (pc := 809) (v := 5) dX12_init_809 (by decide) ?_
  refine sv_icmp_ge (pc := 810) (tgt := 833) dX12_init_810 (by decide) (fun _ => ?_) (fun h => absurd (by decide) h)
  refine sw_iinc (pc := 833) (v := 5) dX12_init_833 rfl (by decide) (by decide) ?_
  refine sv_goto (pc := 836) (tgt := 800) dX12_init_836 (by decide) ?_
  refine sv_iload_n (pc := 800) dX12_init_800 rfl rfl ?_
  refine sv_bipush (pc := 801) (v := 10) dX12_init_801 (by decide) ?_
  refine sv_icmp_ge (pc := 803) (tgt := 839) dX12_init_803 (by decide) (fun h => absurd h (by decide)) (fun _ => ?_)
  refine sv_iconst (pc := 806) (v := 0) dX12_init_806 (by decide) ?_
  refine sv_istore_n (pc := 807) dX12_init_807 rfl (by decide) ?_
  refine sv_lvG (pc := 808) (lv' := [(0, .ref 106), (1, .int 5), (2, .int 0)]) (List.forall_mem_cons.mpr ⟨rfl, List.forall_mem_cons.mpr ⟨rfl, List.forall_mem_cons.mpr ⟨rfl, fun _ h => absurd h List.not_mem_nil⟩⟩⟩) ?_
  refine sv_iload_n (pc := 808) dX12_init_808 rfl rfl ?_
  refine sv_iconst (pc := 809) (v := 5) dX12_init_809 (by decide) ?_
  refine sv_icmp_ge (pc := 810) (tgt := 833) dX12_init_810 (by decide) (fun h => absurd h (by decide)) (fun _ => ?_)
  refine sv_aload_n (pc := 813) dX12_init_813 rfl rfl ?_
  refine sw_getfield (pc := 814) dX12_init_814 (gCX12 _ _ _ _ _) 83 (by decide) wF_X12_451 rfl rfl rfl ?_
  refine sv_bipush (pc := 817) (v := 6) dX12_init_817 (by decide) ?_
  refine sv_iload_n (pc := 819) dX12_init_819 rfl rfl ?_
  refine sw_imul (pc := 820) (v := 30) dX12_init_820 (by decide) ?_
  refine sv_iload_n (pc := 821) dX12_init_821 rfl rfl ?_
  refine sw_iadd (pc := 822) (v := 30) dX12_init_822 (by decide) ?_
  refine sv_iload_n (pc := 823) dX12_init_823 rfl rfl ?_
  refine sv_iconst (pc := 824) (v := 1) dX12_init_824 (by decide) ?_
  refine sw_iadd (pc := 825) (v := 1) dX12_init_825 (by decide) ?_
  refine sw_iastore (pc := 826) (k := 30) (v := .int 1) dX12_init_826 rfl rfl rfl (by decide) (by decide) rfl rfl ?_
  refine sw_iinc (pc := 827) (v := 1) dX12_init_827 rfl (by decide) (by decide) ?_
  refine sv_goto (pc := 830) (tgt := 808) dX12_init_830 (by decide) ?_
  refine sv_iload_n (pc := 808) dX12_init_808 rfl rfl ?_
  refine sv_iconst (pc := 809) (v := 5) dX12_init_809 (by decide) ?_
  refine sv_icmp_ge (pc := 810) (tgt := 833) dX12_init_810 (by decide) (fun h => absurd h (by decide)) (fun _ => ?_)
  refine sv_aload_n (pc := 813) dX12_init_813 rfl rfl ?_
  refine sw_getfield (pc := 814) dX12_init_814 (gCX12 _ _ _ _ _) 83 (by decide) wF_X12_451 rfl rfl rfl ?_
  refine sv_bipush (pc := 817) (v := 6) dX12_init_817 (by decide) ?_
  refine sv_iload_n (pc := 819) dX12_init_819 rfl rfl ?_
  refine sw_imul (pc := 820) (v := 30) dX12_init_820 (by decide) ?_
  refine sv_iload_n (pc := 821) dX12_init_821 rfl rfl ?_
  refine sw_iadd (pc := 822) (v := 31) dX12_init_822 (by decide) ?_
  refine sv_iload_n (pc := 823) dX12_init_823 rfl rfl ?_
  refine sv_iconst (pc := 824) (v := 1) dX12_init_824 (by decide) ?_
  refine sw_iadd (pc := 825) (v := 2) dX12_init_825 (by decide) ?_
  refine sw_iastore (pc := 826) (k := 31) (v := .int 2) dX12_init_826 rfl rfl rfl (by decide) (by decide) rfl rfl ?_
  refine sw_iinc (pc := 827) (v := 2) dX12_init_827 rfl (by decide) (by decide) ?_
  refine sv_goto (pc := 830) (tgt := 808) dX12_init_830 (by decide) ?_
  refine sv_iload_n (pc := 808) dX12_init_808 rfl rfl ?_
  refine sv_iconst (pc := 809) (v := 5) dX12_init_809 (by decide) ?_
  refine sv_icmp_ge (pc := 810) (tgt := 833) dX12_init_810 (by decide) (fun h => absurd h (by decide)) (fun _ => ?_)
  refine sv_aload_n (pc := 813) dX12_init_813 rfl rfl ?_
  refine sw_getfield (pc := 814) dX12_init_814 (gCX12 _ _ _ _ _) 83 (by decide) wF_X12_451 rfl rfl rfl ?_
  refine sv_bipush (pc := 817) (v := 6) dX12_init_817 (by decide) ?_
  refine sv_iload_n (pc := 819) dX12_init_819 rfl rfl ?_
  refine sw_imul (pc := 820) (v := 30) dX12_init_820 (by decide) ?_
  refine sv_iload_n (pc := 821) dX12_init_821 rfl rfl ?_
  refine sw_iadd (pc := 822) (v := 32) dX12_init_822 (by decide) ?_
  refine sv_iload_n (pc := 823) dX12_init_823 rfl rfl ?_
  refine sv_iconst (pc := 824) (v := 1) dX12_init_824 (by decide) ?_
  refine sw_iadd (pc := 825) (v := 3) dX12_init_825 (by decide) ?_
  refine sw_iastore (pc := 826) (k := 32) (v := .int 3) dX12_init_826 rfl rfl rfl (by decide) (by decide) rfl rfl ?_
  refine sw_iinc (pc := 827) (v := 3) dX12_init_827 rfl (by decide) (by decide) ?_
  refine sv_goto (pc := 830) (tgt := 808) dX12_init_830 (by decide) ?_
  refine sv_iload_n (pc := 808) dX12_init_808 rfl rfl ?_
  refine sv_iconst (pc := 809) (v := 5) dX12_init_809 (by decide) ?_
  refine sv_icmp_ge (pc := 810) (tgt := 833) dX12_init_810 (by decide) (fun h => absurd h (by decide)) (fun _ => ?_)
  refine sv_aload_n (pc := 813) dX12_init_813 rfl rfl ?_
  refine sw_getfield (pc := 814) dX12_init_814 (gCX12 _ _ _ _ _) 83 (by decide) wF_X12_451 rfl rfl rfl ?_
  refine sv_bipush (pc := 817) (v := 6) dX12_init_817 (by decide) ?_
  refine sv_iload_n (pc := 819) dX12_init_819 rfl rfl ?_
  refine sw_imul (pc := 820) (v := 30) dX12_init_820 (by decide) ?_
  refine sv_iload_n (pc := 821) dX12_init_821 rfl rfl ?_
  refine sw_iadd (pc := 822) (v := 33) dX12_init_822 (by decide) ?_
  refine sv_iload_n (pc := 823) dX12_init_823 rfl rfl ?_
  refine sv_iconst (pc := 824) (v := 1) dX12_init_824 (by decide) ?_
  refine sw_iadd (pc := 825) (v := 4) dX12_init_825 (by decide) ?_
  refine sw_iastore (pc := 826) (k := 33) (v := .int 4) dX12_init_826 rfl rfl rfl (by decide) (by decide) rfl rfl ?_
  refine sw_iinc (pc := 827) (v := 4) dX12_init_827 rfl (by decide) (by decide) ?_
  refine sv_goto (pc := 830) (tgt := 808) dX12_init_830 (by decide) ?_
  refine sv_iload_n (pc := 808) dX12_init_808 rfl rfl ?_
  refine sv_iconst (pc := 809) (v := 5) dX12_init_809 (by decide) ?_
  refine sv_icmp_ge (pc := 810) (tgt := 833) dX12_init_810 (by decide) (fun h => absurd h (by decide)) (fun _ => ?_)
  refine sv_aload_n (pc := 813) dX12_init_813 rfl rfl ?_
  refine sw_getfield (pc := 814) dX12_init_814 (gCX12 _ _ _ _ _) 83 (by decide) wF_X12_451 rfl rfl rfl ?_
  refine sv_bipush (pc := 817) (v := 6) dX12_init_817 (by decide) ?_
  refine sv_iload_n (pc := 819) dX12_init_819 rfl rfl ?_
  refine sw_imul (pc := 820) (v := 30) dX12_init_820 (by decide) ?_
  refine sv_iload_n (pc := 821) dX12_init_821 rfl rfl ?_
  refine sw_iadd (pc := 822) (v := 34) dX12_init_822 (by decide) ?_
  refine sv_iload_n (pc := 823) dX12_init_823 rfl rfl ?_
  refine sv_iconst (pc := 824) (v := 1) dX12_init_824 (by decide) ?_
  refine sw_iadd (pc := 825) (v := 5) dX12_init_825 (by decide) ?_
  refine sw_iastore (pc := 826) (k := 34) (v := .int 5) dX12_init_826 rfl rfl rfl (by decide) (by decide) rfl rfl ?_
  refine sw_iinc (pc := 827) (v := 5) dX12_init_827 rfl (by decide) (by decide) ?_
  refine sv_goto (pc := 830) (tgt := 808) dX12_init_830 (by decide) ?_
  refine sv_iload_n (pc := 808) dX12_init_808 rfl rfl ?_
  refine sv_iconst (pc := 809) (v := 5) dX12_init_809 (by decide) ?_
  refine sv_icmp_ge (pc := 810) (tgt := 833) dX12_init_810 (by decide) (fun _ => ?_) (fun h => absurd (by decide) h)
  refine sw_iinc (pc := 833) (v := 6) dX12_init_833 rfl (by decide) (by decide) ?_
  refine sv_goto (pc := 836) (tgt := 800) dX12_init_836 (by decide) ?_
  refine sv_iload_n (pc := 800) dX12_init_800 rfl rfl ?_
  refine sv_bipush (pc := 801) (v := 10) dX12_init_801 (by decide) ?_
  refine sv_icmp_ge (pc := 803) (tgt := 839) dX12_init_803 (by decide) (fun h => absurd h (by decide)) (fun _ => ?_)
  refine sv_iconst (pc := 806) (v := 0) dX12_init_806 (by decide) ?_
  refine sv_istore_n (pc := 807) dX12_init_807 rfl (by decide) ?_
  refine sv_iload_n (pc := 808) dX12_init_808 rfl rfl ?_
  refine sv_iconst (pc := 809) (v := 5) dX12_init_809 (by decide) ?_
  refine sv_icmp_ge (pc := 810) (tgt := 833) dX12_init_810 (by decide) (fun h => absurd h (by decide)) (fun _ => ?_)
  refine sv_aload_n (pc := 813) dX12_init_813 rfl rfl ?_
  refine sw_getfield (pc := 814) dX12_init_814 (gCX12 _ _ _ _ _) 83 (by decide) wF_X12_451 rfl rfl rfl ?_
  refine sv_bipush (pc := 817) (v := 6) dX12_init_817 (by decide) ?_
  refine sv_iload_n (pc := 819) dX12_init_819 rfl rfl ?_
  refine sw_imul (pc := 820) (v := 36) dX12_init_820 (by decide) ?_
  refine sv_iload_n (pc := 821) dX12_init_821 rfl rfl ?_
  refine sw_iadd (pc := 822) (v := 36) dX12_init_822 (by decide) ?_
  refine sv_iload_n (pc := 823) dX12_init_823 rfl rfl ?_
  refine sv_iconst (pc := 824) (v := 1) dX12_init_824 (by decide) ?_
  refine sw_iadd (pc := 825) (v := 1) dX12_init_825 (by decide) ?_
  refine sw_iastore (pc := 826) (k := 36) (v := .int 1) dX12_init_826 rfl rfl rfl (by decide) (by decide) rfl rfl ?_
  refine sw_iinc (pc := 827) (v := 1) dX12_init_827 rfl (by decide) (by decide) ?_
  refine sv_lvG (pc := 830) (lv' := [(0, .ref 106), (1, .int 6), (2, .int 1)]) (List.forall_mem_cons.mpr ⟨rfl, List.forall_mem_cons.mpr ⟨rfl, List.forall_mem_cons.mpr ⟨rfl, fun _ h => absurd h List.not_mem_nil⟩⟩⟩) ?_
  refine sv_goto (pc := 830) (tgt := 808) dX12_init_830 (by decide) ?_
  refine sv_iload_n (pc := 808) dX12_init_808 rfl rfl ?_
  refine sv_iconst (pc := 809) (v := 5) dX12_init_809 (by decide) ?_
  refine sv_icmp_ge (pc := 810) (tgt := 833) dX12_init_810 (by decide) (fun h => absurd h (by decide)) (fun _ => ?_)
  refine sv_aload_n (pc := 813) dX12_init_813 rfl rfl ?_
  refine sw_getfield (pc := 814) dX12_init_814 (gCX12 _ _ _ _ _) 83 (by decide) wF_X12_451 rfl rfl rfl ?_
  refine sv_bipush (pc := 817) (v := 6) dX12_init_817 (by decide) ?_
  refine sv_iload_n (pc := 819) dX12_init_819 rfl rfl ?_
  refine sw_imul (pc := 820) (v := 36) dX12_init_820 (by decide) ?_
  refine sv_iload_n (pc := 821) dX12_init_821 rfl rfl ?_
  refine sw_iadd (pc := 822) (v := 37) dX12_init_822 (by decide) ?_
  refine sv_iload_n (pc := 823) dX12_init_823 rfl rfl ?_
  refine sv_iconst (pc := 824) (v := 1) dX12_init_824 (by decide) ?_
  refine sw_iadd (pc := 825) (v := 2) dX12_init_825 (by decide) ?_
  refine sw_iastore (pc := 826) (k := 37) (v := .int 2) dX12_init_826 rfl rfl rfl (by decide) (by decide) rfl rfl ?_
  refine sw_iinc (pc := 827) (v := 2) dX12_init_827 rfl (by decide) (by decide) ?_
  refine sv_goto (pc := 830) (tgt := 808) dX12_init_830 (by decide) ?_
  refine sv_iload_n (pc := 808) dX12_init_808 rfl rfl ?_
  refine sv_iconst (pc := 809) (v := 5) dX12_init_809 (by decide) ?_
  refine sv_icmp_ge (pc := 810) (tgt := 833) dX12_init_810 (by decide) (fun h => absurd h (by decide)) (fun _ => ?_)
  refine sv_aload_n (pc := 813) dX12_init_813 rfl rfl ?_
  refine sw_getfield (pc := 814) dX12_init_814 (gCX12 _ _ _ _ _) 83 (by decide) wF_X12_451 rfl rfl rfl ?_
  refine sv_bipush (pc := 817) (v := 6) dX12_init_817 (by decide) ?_
  refine sv_iload_n (pc := 819) dX12_init_819 rfl rfl ?_
  refine sw_imul (pc := 820) (v := 36) dX12_init_820 (by decide) ?_
  refine sv_iload_n (pc := 821) dX12_init_821 rfl rfl ?_
  refine sw_iadd (pc := 822) (v := 38) dX12_init_822 (by decide) ?_
  refine sv_iload_n (pc := 823) dX12_init_823 rfl rfl ?_
  refine sv_iconst (pc := 824) (v := 1) dX12_init_824 (by decide) ?_
  refine sw_iadd (pc := 825) (v := 3) dX12_init_825 (by decide) ?_
  refine sw_iastore (pc := 826) (k := 38) (v := .int 3) dX12_init_826 rfl rfl rfl (by decide) (by decide) rfl rfl ?_
  refine sw_iinc (pc := 827) (v := 3) dX12_init_827 rfl (by decide) (by decide) ?_
  refine sv_goto (pc := 830) (tgt := 808) dX12_init_830 (by decide) ?_
  refine sv_iload_n (pc := 808) dX12_init_808 rfl rfl ?_
  refine sv_iconst (pc := 809) (v := 5) dX12_init_809 (by decide) ?_
  refine sv_icmp_ge (pc := 810) (tgt := 833) dX12_init_810 (by decide) (fun h => absurd h (by decide)) (fun _ => ?_)
  refine sv_aload_n (pc := 813) dX12_init_813 rfl rfl ?_
  refine sw_getfield (pc := 814) dX12_init_814 (gCX12 _ _ _ _ _) 83 (by decide) wF_X12_451 rfl rfl rfl ?_
  refine sv_bipush (pc := 817) (v := 6) dX12_init_817 (by decide) ?_
  refine sv_iload_n (pc := 819) dX12_init_819 rfl rfl ?_
  refine sw_imul (pc := 820) (v := 36) dX12_init_820 (by decide) ?_
  refine sv_iload_n (pc := 821) dX12_init_821 rfl rfl ?_
  refine sw_iadd (pc := 822) (v := 39) dX12_init_822 (by decide) ?_
  refine sv_iload_n (pc := 823) dX12_init_823 rfl rfl ?_
  refine sv_iconst (pc := 824) (v := 1) dX12_init_824 (by decide) ?_
  refine sw_iadd (pc := 825) (v := 4) dX12_init_825 (by decide) ?_
  refine sw_iastore (pc := 826) (k := 39) (v := .int 4) dX12_init_826 rfl rfl rfl (by decide) (by decide) rfl rfl ?_
  refine sw_iinc (pc := 827) (v := 4) dX12_init_827 rfl (by decide) (by decide) ?_
  refine sv_goto (pc := 830) (tgt := 808) dX12_init_830 (by decide) ?_
  refine sv_iload_n (pc := 808) dX12_init_808 rfl rfl ?_
  refine sv_iconst (pc := 809) (v := 5) dX12_init_809 (by decide) ?_
  refine sv_icmp_ge (pc := 810) (tgt := 833) dX12_init_810 (by decide) (fun h => absurd h (by decide)) (fun _ => ?_)
  refine sv_aload_n (pc := 813) dX12_init_813 rfl rfl ?_
  refine sw_getfield (pc := 814) dX12_init_814 (gCX12 _ _ _ _ _) 83 (by decide) wF_X12_451 rfl rfl rfl ?_
  refine sv_bipush (pc := 817) (v := 6) dX12_init_817 (by decide) ?_
  refine sv_iload_n (pc := 819) dX12_init_819 rfl rfl ?_
  refine sw_imul (pc := 820) (v := 36) dX12_init_820 (by decide) ?_
  refine sv_iload_n (pc := 821) dX12_init_821 rfl rfl ?_
  refine sw_iadd (pc := 822) (v := 40) dX12_init_822 (by decide) ?_
  refine sv_iload_n (pc := 823) dX12_init_823 rfl rfl ?_
  refine sv_iconst (pc := 824) (v := 1) dX12_init_824 (by decide) ?_
  refine sw_iadd (pc := 825) (v := 5) dX12_init_825 (by decide) ?_
  refine sw_iastore (pc := 826) (k := 40) (v := .int 5) dX12_init_826 rfl rfl rfl (by decide) (by decide) rfl rfl ?_
  refine sw_iinc (pc := 827) (v := 5) dX12_init_827 rfl (by decide) (by decide) ?_
  refine sv_goto (pc := 830) (tgt := 808) dX12_init_830 (by decide) ?_
  refine sv_iload_n (pc := 808) dX12_init_808 rfl rfl ?_
  refine sv_iconst (pc := 809) (v := 5) dX12_init_809 (by decide) ?_
  refine sv_icmp_ge (pc := 810) (tgt := 833) dX12_init_810 (by decide) (fun _ => ?_) (fun h => absurd (by decide) h)
  refine sw_iinc (pc := 833) (v := 7) dX12_init_833 rfl (by decide) (by decide) ?_
  refine sv_goto (pc := 836) (tgt := 800) dX12_init_836 (by decide) ?_
  refine sv_iload_n (pc := 800) dX12_init_800 rfl rfl ?_
  refine sv_bipush (pc := 801) (v := 10) dX12_init_801 (by decide) ?_
  refine sv_icmp_ge (pc := 803) (tgt := 839) dX12_init_803 (by decide) (fun h => absurd h (by decide)) (fun _ => ?_)
  refine sv_iconst (pc := 806) (v := 0) dX12_init_806 (by decide) ?_
  refine sv_istore_n (pc := 807) dX12_init_807 rfl (by decide) ?_
  refine sv_iload_n (pc := 808) dX12_init_808 rfl rfl ?_
  refine sv_iconst (pc := 809) (v := 5) dX12_init_809 (by decide) ?_
  refine sv_icmp_ge (pc := 810) (tgt := 833) dX12_init_810 (by decide) (fun h => absurd h (by decide)) (fun _ => ?_)
  refine sv_aload_n (pc := 813) dX12_init_813 rfl rfl ?_
  refine sw_getfield (pc := 814) dX12_init_814 (gCX12 _ _ _ _ _) 83 (by decide) wF_X12_451 rfl rfl rfl ?_
  refine sv_bipush (pc := 817) (v := 6) dX12_init_817 (by decide) ?_
  refine sv_iload_n (pc := 819) dX12_init_819 rfl rfl ?_
  refine sw_imul (pc := 820) (v := 42) dX12_init_820 (by decide) ?_
  refine sv_iload_n (pc := 821) dX12_init_821 rfl rfl ?_
  refine sw_iadd (pc := 822) (v := 42) dX12_init_822 (by decide) ?_
  refine sv_iload_n (pc := 823) dX12_init_823 rfl rfl ?_
  refine sv_iconst (pc := 824) (v := 1) dX12_init_824 (by decide) ?_
  refine sw_iadd (pc := 825) (v := 1) dX12_init_825 (by decide) ?_
  refine sw_iastore (pc := 826) (k := 42) (v := .int 1) dX12_init_826 rfl rfl rfl (by decide) (by decide) rfl rfl ?_
  refine sw_iinc (pc := 827) (v := 1) dX12_init_827 rfl (by decide) (by decide) ?_
  refine sv_goto (pc := 830) (tgt := 808) dX12_init_830 (by decide) ?_
  refine sv_iload_n (pc := 808) dX12_init_808 rfl rfl ?_
  refine sv_iconst (pc := 809) (v := 5) dX12_init_809 (by decide) ?_
  refine sv_icmp_ge (pc := 810) (tgt := 833) dX12_init_810 (by decide) (fun h => absurd h (by decide)) (fun _ => ?_)
  refine sv_aload_n (pc := 813) dX12_init_813 rfl rfl ?_
  refine sw_getfield (pc := 814) dX12_init_814 (gCX12 _ _ _ _ _) 83 (by decide) wF_X12_451 rfl rfl rfl ?_
  refine sv_bipush (pc := 817) (v := 6) dX12_init_817 (by decide) ?_
  refine sv_iload_n (pc := 819) dX12_init_819 rfl rfl ?_
  refine sw_imul (pc := 820) (v := 42) dX12_init_820 (by decide) ?_
  refine sv_iload_n (pc := 821) dX12_init_821 rfl rfl ?_
  refine sw_iadd (pc := 822) (v := 43) dX12_init_822 (by decide) ?_
  refine sv_iload_n (pc := 823) dX12_init_823 rfl rfl ?_
  refine sv_iconst (pc := 824) (v := 1) dX12_init_824 (by decide) ?_
  refine sw_iadd (pc := 825) (v := 2) dX12_init_825 (by decide) ?_
  refine sw_iastore (pc := 826) (k := 43) (v := .int 2) dX12_init_826 rfl rfl rfl (by decide) (by decide) rfl rfl ?_
  refine sw_iinc (pc := 827) (v := 2) dX12_init_827 rfl (by decide) (by decide) ?_
  refine sv_lvG (pc := 830) (lv' := [(0, .ref 106), (1, .int 7), (2, .int 2)]) (List.forall_mem_cons.mpr ⟨rfl, List.forall_mem_cons.mpr ⟨rfl, List.forall_mem_cons.mpr ⟨rfl, fun _ h => absurd h List.not_mem_nil⟩⟩⟩) ?_
  refine sv_goto (pc := 830) (tgt := 808) dX12_init_830 (by decide) ?_
  refine sv_iload_n (pc := 808) dX12_init_808 rfl rfl ?_
  refine sv_iconst (pc := 809) (v := 5) dX12_init_809 (by decide) ?_
  refine sv_icmp_ge (pc := 810) (tgt := 833) dX12_init_810 (by decide) (fun h => absurd h (by decide)) (fun _ => ?_)
  refine sv_aload_n (pc := 813) dX12_init_813 rfl rfl ?_
  refine sw_getfield (pc := 814) dX12_init_814 (gCX12 _ _ _ _ _) 83 (by decide) wF_X12_451 rfl rfl rfl ?_
  refine sv_bipush (pc := 817) (v := 6) dX12_init_817 (by decide) ?_
  refine sv_iload_n (pc := 819) dX12_init_819 rfl rfl ?_
  refine sw_imul (pc := 820) (v := 42) dX12_init_820 (by decide) ?_
  refine sv_iload_n (pc := 821) dX12_init_821 rfl rfl ?_
  refine sw_iadd (pc := 822) (v := 44) dX12_init_822 (by decide) ?_
  refine sv_iload_n (pc := 823) dX12_init_823 rfl rfl ?_
  refine sv_iconst (pc := 824) (v := 1) dX12_init_824 (by decide) ?_
  refine sw_iadd (pc := 825) (v := 3) dX12_init_825 (by decide) ?_
  refine sw_iastore (pc := 826) (k := 44) (v := .int 3) dX12_init_826 rfl rfl rfl (by decide) (by decide) rfl rfl ?_
  refine sw_iinc (pc := 827) (v := 3) dX12_init_827 rfl (by decide) (by decide) ?_
  refine sv_goto (pc := 830) (tgt := 808) dX12_init_830 (by decide) ?_
  refine sv_iload_n (pc := 808) dX12_init_808 rfl rfl ?_
  refine sv_iconst (pc := 809) (v := 5) dX12_init_809 (by decide) ?_
  refine sv_icmp_ge (pc := 810) (tgt := 833) dX12_init_810 (by decide) (fun h => absurd h (by decide)) (fun _ => ?_)
  refine sv_aload_n (pc := 813) dX12_init_813 rfl rfl ?_
  refine sw_getfield (pc := 814) dX12_init_814 (gCX12 _ _ _ _ _) 83 (by decide) wF_X12_451 rfl rfl rfl ?_
  refine sv_bipush (pc := 817) (v := 6) dX12_init_817 (by decide) ?_
  refine sv_iload_n (pc := 819) dX12_init_819 rfl rfl ?_
  refine sw_imul (pc := 820) (v := 42) dX12_init_820 (by decide) ?_
  refine sv_iload_n (pc := 821) dX12_init_821 rfl rfl ?_
  refine sw_iadd (pc := 822) (v := 45) dX12_init_822 (by decide) ?_
  refine sv_iload_n (pc := 823) dX12_init_823 rfl rfl ?_
  refine sv_iconst (pc := 824) (v := 1) dX12_init_824 (by decide) ?_
  refine sw_iadd (pc := 825) (v := 4) dX12_init_825 (by decide) ?_
  refine sw_iastore (pc := 826) (k := 45) (v := .int 4) dX12_init_826 rfl rfl rfl (by decide) (by decide) rfl rfl ?_
  refine sw_iinc (pc := 827) (v := 4) dX12_init_827 rfl (by decide) (by decide) ?_
  refine sv_goto (pc := 830) (tgt := 808) dX12_init_830 (by decide) ?_
  refine sv_iload_n (pc := 808) dX12_init_808 rfl rfl ?_
  refine sv_iconst (pc := 809) (v := 5) dX12_init_809 (by decide) ?_
  refine sv_icmp_ge (pc := 810) (tgt := 833) dX12_init_810 (by decide) (fun h => absurd h (by decide)) (fun _ => ?_)
  refine sv_aload_n (pc := 813) dX12_init_813 rfl rfl ?_
  refine sw_getfield (pc := 814) dX12_init_814 (gCX12 _ _ _ _ _) 83 (by decide) wF_X12_451 rfl rfl rfl ?_
  refine sv_bipush (pc := 817) (v := 6) dX12_init_817 (by decide) ?_
  refine sv_iload_n (pc := 819) dX12_init_819 rfl rfl ?_
  refine sw_imul (pc := 820) (v := 42) dX12_init_820 (by decide) ?_
  refine sv_iload_n (pc := 821) dX12_init_821 rfl rfl ?_
  refine sw_iadd (pc := 822) (v := 46) dX12_init_822 (by decide) ?_
  refine sv_iload_n (pc := 823) dX12_init_823 rfl rfl ?_
  refine sv_iconst (pc := 824) (v := 1) dX12_init_824 (by decide) ?_
  refine sw_iadd (pc := 825) (v := 5) dX12_init_825 (by decide) ?_
  refine sw_iastore (pc := 826) (k := 46) (v := .int 5) dX12_init_826 rfl rfl rfl (by decide) (by decide) rfl rfl ?_
  refine sw_iinc (pc := 827) (v := 5) dX12_init_827 rfl (by decide) (by decide) ?_
  refine sv_goto (pc := 830) (tgt := 808) dX12_init_830 (by decide) ?_
  refine sv_iload_n (pc := 808) dX12_init_808 rfl rfl ?_
  refine sv_iconst (pc := 809) (v := 5) dX12_init_809 (by decide) ?_
  refine sv_icmp_ge (pc := 810) (tgt := 833) dX12_init_810 (by decide) (fun _ => ?_) (fun h => absurd (by decide) h)
  refine sw_iinc (pc := 833) (v := 8) dX12_init_833 rfl (by decide) (by decide) ?_
  refine sv_goto (pc := 836) (tgt := 800) dX12_init_836 (by decide) ?_
  refine sv_iload_n (pc := 800) dX12_init_800 rfl rfl ?_
  refine sv_bipush (pc := 801) (v := 10) dX12_init_801 (by decide) ?_
  refine sv_icmp_ge (pc := 803) (tgt := 839) dX12_init_803 (by decide) (fun h => absurd h (by decide)) (fun _ => ?_)
  refine sv_iconst (pc := 806) (v := 0) dX12_init_806 (by decide) ?_
  refine sv_istore_n (pc := 807) dX12_init_807 rfl (by decide) ?_
  refine sv_iload_n (pc := 808) dX12_init_808 rfl rfl ?_
  refine sv_iconst (pc := 809) (v := 5) dX12_init_809 (by decide) ?_
  refine sv_icmp_ge (pc := 810) (tgt := 833) dX12_init_810 (by decide) (fun h => absurd h (by decide)) (fun _ => ?_)
  refine sv_aload_n (pc := 813) dX12_init_813 rfl rfl ?_
  refine sw_getfield (pc := 814) dX12_init_814 (gCX12 _ _ _ _ _) 83 (by decide) wF_X12_451 rfl rfl rfl ?_
  refine sv_bipush (pc := 817) (v := 6) dX12_init_817 (by decide) ?_
  refine sv_iload_n (pc := 819) dX12_init_819 rfl rfl ?_
  refine sw_imul (pc := 820) (v := 48) dX12_init_820 (by decide) ?_
  refine sv_iload_n (pc := 821) dX12_init_821 rfl rfl ?_
  refine sw_iadd (pc := 822) (v := 48) dX12_init_822 (by decide) ?_
  refine sv_iload_n (pc := 823) dX12_init_823 rfl rfl ?_
  refine sv_iconst (pc := 824) (v := 1) dX12_init_824 (by decide) ?_
  refine sw_iadd (pc := 825) (v := 1) dX12_init_825 (by decide) ?_
  refine sw_iastore (pc := 826) (k := 48) (v := .int 1) dX12_init_826 rfl rfl rfl (by decide) (by decide) rfl rfl ?_
  refine sw_iinc (pc := 827) (v := 1) dX12_init_827 rfl (by decide) (by decide) ?_
  refine sv_goto (pc := 830) (tgt := 808) dX12_init_830 (by decide) ?_
  refine sv_iload_n (pc := 808) dX12_init_808 rfl rfl ?_
  refine sv_iconst (pc := 809) (v := 5) dX12_init_809 (by decide) ?_
  refine sv_icmp_ge (pc := 810) (tgt := 833) dX12_init_810 (by decide) (fun h => absurd h (by decide)) (fun _ => ?_)
  refine sv_aload_n (pc := 813) dX12_init_813 rfl rfl ?_
  refine sw_getfield (pc := 814) dX12_init_814 (gCX12 _ _ _ _ _) 83 (by decide) wF_X12_451 rfl rfl rfl ?_
  refine sv_bipush (pc := 817) (v := 6) dX12_init_817 (by decide) ?_
  refine sv_iload_n (pc := 819) dX12_init_819 rfl rfl ?_
  refine sw_imul (pc := 820) (v := 48) dX12_init_820 (by decide) ?_
  refine sv_iload_n (pc := 821) dX12_init_821 rfl rfl ?_
  refine sw_iadd (pc := 822) (v := 49) dX12_init_822 (by decide) ?_
  refine sv_iload_n (pc := 823) dX12_init_823 rfl rfl ?_
  refine sv_iconst (pc := 824) (v := 1) dX12_init_824 (by decide) ?_
  refine sw_iadd (pc := 825) (v := 2) dX12_init_825 (by decide) ?_
  refine sw_iastore (pc := 826) (k := 49) (v := .int 2) dX12_init_826 rfl rfl rfl (by decide) (by decide) rfl rfl ?_
  refine sw_iinc (pc := 827) (v := 2) dX12_init_827 rfl (by decide) (by decide) ?_
  refine sv_goto (pc := 830) (tgt := 808) dX12_init_830 (by decide) ?_
  refine sv_iload_n (pc := 808) dX12_init_808 rfl rfl ?_
  refine sv_iconst (pc := 809) (v := 5) dX12_init_809 (by decide) ?_
  refine sv_icmp_ge (pc := 810) (tgt := 833) dX12_init_810 (by decide) (fun h => absurd h (by decide)) (fun _ => ?_)
  refine sv_aload_n (pc := 813) dX12_init_813 rfl rfl ?_
  refine sw_getfield (pc := 814) dX12_init_814 (gCX12 _ _ _ _ _) 83 (by decide) wF_X12_451 rfl rfl rfl ?_
  refine sv_bipush (pc := 817) (v := 6) dX12_init_817 (by decide) ?_
  refine sv_iload_n (pc := 819) dX12_init_819 rfl rfl ?_
  refine sw_imul (pc := 820) (v := 48) dX12_init_820 (by decide) ?_
  refine sv_iload_n (pc := 821) dX12_init_821 rfl rfl ?_
  refine sw_iadd (pc := 822) (v := 50) dX12_init_822 (by decide) ?_
  refine sv_iload_n (pc := 823) dX12_init_823 rfl rfl ?_
  refine sv_iconst (pc := 824) (v := 1) dX12_init_824 (by decide) ?_
  refine sw_iadd (pc := 825) (v := 3) dX12_init_825 (by decide) ?_
  refine sw_iastore (pc := 826) (k := 50) (v := .int 3) dX12_init_826 rfl rfl rfl (by decide) (by decide) rfl rfl ?_
  refine sw_iinc (pc := 827) (v := 3) dX12_init_827 rfl (by decide) (by decide) ?_
  refine sv_lvG (pc := 830) (lv' := [(0, .ref 106), (1, .int 8), (2, .int 3)]) (List.forall_mem_cons.mpr ⟨rfl, List.forall_mem_cons.mpr ⟨rfl, List.forall_mem_cons.mpr ⟨rfl, fun _ h => absurd h List.not_mem_nil⟩⟩⟩) ?_
  refine sv_goto (pc := 830) (tgt := 808) dX12_init_830 (by decide) ?_
  refine sv_iload_n (pc := 808) dX12_init_808 rfl rfl ?_
  refine sv_iconst (pc := 809) (v := 5) dX12_init_809 (by decide) ?_
  refine sv_icmp_ge (pc := 810) (tgt := 833) dX12_init_810 (by decide) (fun h => absurd h (by decide)) (fun _ => ?_)
  refine sv_aload_n (pc := 813) dX12_init_813 rfl rfl ?_
  refine sw_getfield (pc := 814) dX12_init_814 (gCX12 _ _ _ _ _) 83 (by decide) wF_X12_451 rfl rfl rfl ?_
  refine sv_bipush (pc := 817) (v := 6) dX12_init_817 (by decide) ?_
  refine sv_iload_n (pc := 819) dX12_init_819 rfl rfl ?_
  refine sw_imul (pc := 820) (v := 48) dX12_init_820 (by decide) ?_
  refine sv_iload_n (pc := 821) dX12_init_821 rfl rfl ?_
  refine sw_iadd (pc := 822) (v := 51) dX12_init_822 (by decide) ?_
  refine sv_iload_n (pc := 823) dX12_init_823 rfl rfl ?_
  refine sv_iconst (pc := 824) (v := 1) dX12_init_824 (by decide) ?_
  refine sw_iadd (pc := 825) (v := 4) dX12_init_825 (by decide) ?_
  refine sw_iastore (pc := 826) (k := 51) (v := .int 4) dX12_init_826 rfl rfl rfl (by decide) (by decide) rfl rfl ?_
  refine sw_iinc (pc := 827) (v := 4) dX12_init_827 rfl (by decide) (by decide) ?_
  refine sv_goto (pc := 830) (tgt := 808) dX12_init_830 (by decide) ?_
  refine sv_iload_n (pc := 808) dX12_init_808 rfl rfl ?_
  refine sv_iconst (pc := 809) (v := 5) dX12_init_809 (by decide) ?_
  refine sv_icmp_ge (pc := 810) (tgt := 833) dX12_init_810 (by decide) (fun h => absurd h (by decide)) (fun _ => ?_)
  refine sv_aload_n (pc := 813) dX12_init_813 rfl rfl ?_
  refine sw_getfield (pc := 814) dX12_init_814 (gCX12 _ _ _ _ _) 83 (by decide) wF_X12_451 rfl rfl rfl ?_
  refine sv_bipush (pc := 817) (v := 6) dX12_init_817 (by decide) ?_
  refine sv_iload_n (pc := 819) dX12_init_819 rfl rfl ?_
  refine sw_imul (pc := 820) (v := 48) dX12_init_820 (by decide) ?_
  refine sv_iload_n (pc := 821) dX12_init_821 rfl rfl ?_
  refine sw_iadd (pc := 822) (v := 52) dX12_init_822 (by decide) ?_
  refine sv_iload_n (pc := 823) dX12_init_823 rfl rfl ?_
  refine sv_iconst (pc := 824) (v := 1) dX12_init_824 (by decide) ?_
  refine sw_iadd (pc := 825) (v := 5) dX12_init_825 (by decide) ?_
  refine sw_iastore (pc := 826) (k := 52) (v := .int 5) dX12_init_826 rfl rfl rfl (by decide) (by decide) rfl rfl ?_
  refine sw_iinc (pc := 827) (v := 5) dX12_init_827 rfl (by decide) (by decide) ?_
  refine sv_goto (pc := 830) (tgt := 808) dX12_init_830 (by decide) ?_
  refine sv_iload_n (pc := 808) dX12_init_808 rfl rfl ?_
  refine sv_iconst (pc := 809) (v := 5) dX12_init_809 (by decide) ?_
  refine sv_icmp_ge (pc := 810) (tgt := 833) dX12_init_810 (by decide) (fun _ => ?_) (fun h => absurd (by decide) h)
  refine sw_iinc (pc := 833) (v := 9) dX12_init_833 rfl (by decide) (by decide) ?_
  refine sv_goto (pc := 836) (tgt := 800) dX12_init_836 (by decide) ?_
  refine sv_iload_n (pc := 800) dX12_init_800 rfl rfl ?_
  refine sv_bipush (pc := 801) (v := 10) dX12_init_801 (by decide) ?_
  refine sv_icmp_ge (pc := 803) (tgt := 839) dX12_init_803 (by decide) (fun h => absurd h (by decide)) (fun _ => ?_)
  refine sv_iconst (pc := 806) (v := 0) dX12_init_806 (by decide) ?_
  refine sv_istore_n (pc := 807) dX12_init_807 rfl (by decide) ?_
  refine sv_iload_n (pc := 808) dX12_init_808 rfl rfl ?_
  refine sv_iconst (pc := 809) (v := 5) dX12_init_809 (by decide) ?_
  refine sv_icmp_ge (pc := 810) (tgt := 833) dX12_init_810 (by decide) (fun h => absurd h (by decide)) (fun _ => ?_)
  refine sv_aload_n (pc := 813) dX12_init_813 rfl rfl ?_
  refine sw_getfield (pc := 814) dX12_init_814 (gCX12 _ _ _ _ _) 83 (by decide) wF_X12_451 rfl rfl rfl ?_
  refine sv_bipush (pc := 817) (v := 6) dX12_init_817 (by decide) ?_
  refine sv_iload_n (pc := 819) dX12_init_819 rfl rfl ?_
  refine sw_imul (pc := 820) (v := 54) dX12_init_820 (by decide) ?_
  refine sv_iload_n (pc := 821) dX12_init_821 rfl rfl ?_
  refine sw_iadd (pc := 822) (v := 54) dX12_init_822 (by decide) ?_
  refine sv_iload_n (pc := 823) dX12_init_823 rfl rfl ?_
  refine sv_iconst (pc := 824) (v := 1) dX12_init_824 (by decide) ?_
  refine sw_iadd (pc := 825) (v := 1) dX12_init_825 (by decide) ?_
  refine sw_iastore (pc := 826) (k := 54) (v := .int 1) dX12_init_826 rfl rfl rfl (by decide) (by decide) rfl rfl ?_
  refine sw_iinc (pc := 827) (v := 1) dX12_init_827 rfl (by decide) (by decide) ?_
  refine sv_goto (pc := 830) (tgt := 808) dX12_init_830 (by decide) ?_
  refine sv_iload_n (pc := 808) dX12_init_808 rfl rfl ?_
  refine sv_iconst (pc := 809) (v := 5) dX12_init_809 (by decide) ?_
  refine sv_icmp_ge (pc := 810) (tgt := 833) dX12_init_810 (by decide) (fun h => absurd h (by decide)) (fun _ => ?_)
  refine sv_aload_n (pc := 813) dX12_init_813 rfl rfl ?_
  refine sw_getfield (pc := 814) dX12_init_814 (gCX12 _ _ _ _ _) 83 (by decide) wF_X12_451 rfl rfl rfl ?_
  refine sv_bipush (pc := 817) (v := 6) dX12_init_817 (by decide) ?_
  refine sv_iload_n (pc := 819) dX12_init_819 rfl rfl ?_
  refine sw_imul (pc := 820) (v := 54) dX12_init_820 (by decide) ?_
  refine sv_iload_n (pc := 821) dX12_init_821 rfl rfl ?_
  refine sw_iadd (pc := 822) (v := 55) dX12_init_822 (by decide) ?_
  refine sv_iload_n (pc := 823) dX12_init_823 rfl rfl ?_
  refine sv_iconst (pc := 824) (v := 1) dX12_init_824 (by decide) ?_
  refine sw_iadd (pc := 825) (v := 2) dX12_init_825 (by decide) ?_
  refine sw_iastore (pc := 826) (k := 55) (v := .int 2) dX12_init_826 rfl rfl rfl (by decide) (by decide) rfl rfl ?_
  refine sw_iinc (pc := 827) (v := 2) dX12_init_827 rfl (by decide) (by decide) ?_
  refine sv_goto (pc := 830) (tgt := 808) dX12_init_830 (by decide) ?_
  refine sv_iload_n (pc := 808) dX12_init_808 rfl rfl ?_
  refine sv_iconst (pc := 809) (v := 5) dX12_init_809 (by decide) ?_
  refine sv_icmp_ge (pc := 810) (tgt := 833) dX12_init_810 (by decide) (fun h => absurd h (by decide)) (fun _ => ?_)
  refine sv_aload_n (pc := 813) dX12_init_813 rfl rfl ?_
  refine sw_getfield (pc := 814) dX12_init_814 (gCX12 _ _ _ _ _) 83 (by decide) wF_X12_451 rfl rfl rfl ?_
  refine sv_bipush (pc := 817) (v := 6) dX12_init_817 (by decide) ?_
  refine sv_iload_n (pc := 819) dX12_init_819 rfl rfl ?_
  refine sw_imul (pc := 820) (v := 54) dX12_init_820 (by decide) ?_
  refine sv_iload_n (pc := 821) dX12_init_821 rfl rfl ?_
  refine sw_iadd (pc := 822) (v := 56) dX12_init_822 (by decide) ?_
  refine sv_iload_n (pc := 823) dX12_init_823 rfl rfl ?_
  refine sv_iconst (pc := 824) (v := 1) dX12_init_824 (by decide) ?_
  refine sw_iadd (pc := 825) (v := 3) dX12_init_825 (by decide) ?_
  refine sw_iastore (pc := 826) (k := 56) (v := .int 3) dX12_init_826 rfl rfl rfl (by decide) (by decide) rfl rfl ?_
  refine sw_iinc (pc := 827) (v := 3) dX12_init_827 rfl (by decide) (by decide) ?_
  refine sv_goto (pc := 830) (tgt := 808) dX12_init_830 (by decide) ?_
  refine sv_iload_n (pc := 808) dX12_init_808 rfl rfl ?_
  refine sv_iconst (pc := 809) (v := 5) dX12_init_809 (by decide) ?_
  refine sv_icmp_ge (pc := 810) (tgt := 833) dX12_init_810 (by decide) (fun h => absurd h (by decide)) (fun _ => ?_)
  refine sv_aload_n (pc := 813) dX12_init_813 rfl rfl ?_
  refine sw_getfield (pc := 814) dX12_init_814 (gCX12 _ _ _ _ _) 83 (by decide) wF_X12_451 rfl rfl rfl ?_
  refine sv_bipush (pc := 817) (v := 6) dX12_init_817 (by decide) ?_
  refine sv_iload_n (pc := 819) dX12_init_819 rfl rfl ?_
  refine sw_imul (pc := 820) (v := 54) dX12_init_820 (by decide) ?_
  refine sv_iload_n (pc := 821) dX12_init_821 rfl rfl ?_
  refine sw_iadd (pc := 822) (v := 57) dX12_init_822 (by decide) ?_
  refine sv_iload_n (pc := 823) dX12_init_823 rfl rfl ?_
  refine sv_iconst (pc := 824) (v := 1) dX12_init_824 (by decide) ?_
  refine sw_iadd (pc := 825) (v := 4) dX12_init_825 (by decide) ?_
  refine sw_iastore (pc := 826) (k := 57) (v := .int 4) dX12_init_826 rfl rfl rfl (by decide) (by decide) rfl rfl ?_
  refine sw_iinc (pc := 827) (v := 4) dX12_init_827 rfl (by decide) (by decide) ?_
  refine sv_lvG (pc := 830) (lv' := [(0, .ref 106), (1, .int 9), (2, .int 4)]) (List.forall_mem_cons.mpr ⟨rfl, List.forall_mem_cons.mpr ⟨rfl, List.forall_mem_cons.mpr ⟨rfl, fun _ h => absurd h List.not_mem_nil⟩⟩⟩) ?_
  refine sv_goto (pc := 830) (tgt := 808) dX12_init_830 (by decide) ?_
  refine sv_iload_n (pc := 808) dX12_init_808 rfl rfl ?_
  refine sv_iconst (pc := 809) (v := 5) dX12_init_809 (by decide) ?_
  refine sv_icmp_ge (pc := 810) (tgt := 833) dX12_init_810 (by decide) (fun h => absurd h (by decide)) (fun _ => ?_)
  refine sv_aload_n (pc := 813) dX12_init_813 rfl rfl ?_
  refine sw_getfield (pc := 814) dX12_init_814 (gCX12 _ _ _ _ _) 83 (by decide) wF_X12_451 rfl rfl rfl ?_
  refine sv_bipush (pc := 817) (v := 6) dX12_init_817 (by decide) ?_
  refine sv_iload_n (pc := 819) dX12_init_819 rfl rfl ?_
  refine sw_imul (pc := 820) (v := 54) dX12_init_820 (by decide) ?_
  refine sv_iload_n (pc := 821) dX12_init_821 rfl rfl ?_
  refine sw_iadd (pc := 822) (v := 58) dX12_init_822 (by decide) ?_
  refine sv_iload_n (pc := 823) dX12_init_823 rfl rfl ?_
  refine sv_iconst (pc := 824) (v := 1) dX12_init_824 (by decide) ?_
  refine sw_iadd (pc := 825) (v := 5) dX12_init_825 (by decide) ?_
  refine sw_iastore (pc := 826) (k := 58) (v := .int 5) dX12_init_826 rfl rfl rfl (by decide) (by decide) rfl rfl ?_
  refine sw_iinc (pc := 827) (v := 5) dX12_init_827 rfl (by decide) (by decide) ?_
  refine sv_goto (pc := 830) (tgt := 808) dX12_init_830 (by decide) ?_
  refine sv_iload_n (pc := 808) dX12_init_808 rfl rfl ?_
  refine sv_iconst (pc := 809) (v := 5) dX12_init_809 (by decide) ?_
  refine sv_icmp_ge (pc := 810) (tgt := 833) dX12_init_810 (by decide) (fun _ => ?_) (fun h => absurd (by decide) h)
  refine sw_iinc (pc := 833) (v := 10) dX12_init_833 rfl (by decide) (by decide) ?_
  refine sv_goto (pc := 836) (tgt := 800) dX12_init_836 (by decide) ?_
  refine sv_iload_n (pc := 800) dX12_init_800 rfl rfl ?_
  refine sv_bipush (pc := 801) (v := 10) dX12_init_801 (by decide) ?_
  refine sv_icmp_ge (pc := 803) (tgt := 839) dX12_init_803 (by decide) (fun _ => ?_) (fun h => absurd (by decide) h)
  refine sv_aload_n (pc := 839) dX12_init_839 rfl rfl ?_
  refine sv_iconst (pc := 840) (v := 0) dX12_init_840 (by decide) ?_
  refine sv_callV (pc := 841) (M' := mX12_nothing) (d' := 19) (C' := 0) (S' := 0) (av := [.int 0]) ?_ (gOk _ _ _ _ _) dX12_init_841 (tX12_nothing _ _ _ _ _) ⟨wV_X12_nothing, wL_X12_nothing⟩ wM_X12_539 (gCX12 _ _ _ _ _) rfl (lt_t rfl) rfl ⟨le_t rfl, le_t rfl⟩ ⟨le_t rfl, le_t rfl⟩ rfl (le_t rfl) (fun _ _ h => h)
  refine sC.of rfl (by decide) (le_t rfl) ?_
  refine sv_aload_n (pc := 0) dX12_nothing_0 rfl rfl ?_
  refine sw_getfield (pc := 1) dX12_nothing_1 (gCX12 _ _ _ _ _) 32 (by decide) wF_X12_148 rfl rfl rfl ?_
  refine sv_bipush (pc := 4) (v := 40) dX12_nothing_4 (by decide) ?_
  refine sv_iload_n (pc := 6) dX12_nothing_6 rfl rfl ?_
  refine sw_imul (pc := 7) (v := 0) dX12_nothing_7 (by decide) ?_
  refine sv_iconst (pc := 8) (v := (-1)) dX12_nothing_8 (by decide) ?_
  refine sw_iastore (pc := 9) (k := 0) (v := .int (-1)) dX12_nothing_9 rfl rfl rfl (by decide) (by decide) rfl rfl ?_
  refine sv_vret (pc := 10) dX12_nothing_10 rfl (le_t rfl) (le_t rfl) ?_
  refine sv_vret dX12_init_844 rfl (le_t rfl) (le_t rfl) ⟨rfl, rfl, fun j hj => ?_⟩
  match j, hj with
  | 0, _ => exact rfl
  | 1, _ => exact rfl
  | 2, _ => exact rfl
  | 3, _ => exact rfl
  | 4, _ => exact rfl
  | 5, _ => exact rfl
  | 6, _ => exact rfl
  | 7, _ => exact rfl
  | 8, _ => exact rfl
  | 9, _ => exact rfl
  | 10, _ => exact rfl
  | 11, _ => exact rfl
  | 12, _ => exact rfl
  | 13, _ => exact rfl
  | 14, _ => exact rfl
  | 15, _ => exact rfl
  | 16, _ => exact rfl
  | 17, _ => exact rfl
  | 18, _ => exact rfl
  | 19, _ => exact rfl
  | 20, _ => exact rfl
  | 21, _ => exact rfl
  | 22, _ => exact rfl
  | 23, _ => exact rfl
  | 24, _ => exact rfl
  | 25, _ => exact rfl
  | 26, _ => exact rfl
  | 27, _ => exact rfl
  | 28, _ => exact rfl
  | 29, _ => exact rfl
  | 30, _ => exact rfl
  | 31, _ => exact rfl
  | 32, _ => exact rfl
  | 33, _ => exact rfl
  | 34, _ => exact rfl
  | 35, _ => exact rfl
  | 36, _ => exact rfl
  | 37, _ => exact rfl
  | 38, _ => exact rfl
  | 39, _ => exact rfl
  | 40, _ => exact rfl
  | 41, _ => exact rfl
  | 42, _ => exact rfl
  | 43, _ => exact rfl
  | 44, _ => exact rfl
  | 45, _ => exact rfl
  | 46, _ => exact rfl
  | 47, _ => exact rfl
  | 48, _ => exact rfl
  | 49, _ => exact rfl
  | 50, _ => exact rfl
  | 51, _ => exact rfl
  | 52, _ => exact rfl
  | 53, _ => exact rfl
  | 54, _ => exact rfl
  | 55, _ => exact rfl
  | 56, _ => exact rfl
  | 57, _ => exact rfl
  | 58, _ => exact rfl
  | 59, _ => exact rfl
  | 60, _ => exact rfl
  | 61, _ => exact rfl
  | 62, _ => exact rfl
  | 63, _ => exact rfl
  | 64, _ => exact rfl
  | 65, _ => exact rfl
  | 66, _ => exact rfl
  | 67, _ => exact rfl
  | 68, _ => exact rfl
  | 69, _ => exact rfl
  | 70, _ => exact rfl
  | 71, _ => exact rfl
  | 72, _ => exact rfl
  | 73, _ => exact rfl
  | 74, _ => exact rfl
  | 75, _ => exact rfl
  | 76, _ => exact rfl
  | 77, _ => exact rfl
  | 78, _ => exact rfl
  | 79, _ => exact rfl
  | 80, _ => exact rfl
  | 81, _ => exact rfl
  | 82, _ => exact rfl
  | 83, _ => exact rfl
  | 84, _ => exact rfl
  | 85, _ => exact rfl
  | 86, _ => exact rfl
  | 87, _ => exact rfl
  | 88, _ => exact rfl
  | 89, _ => exact rfl
  | 90, _ => exact rfl
  | 91, _ => exact rfl
  | 92, _ => exact rfl
  | 93, _ => exact rfl
  | 94, _ => exact rfl
  | 95, _ => exact rfl
  | 96, _ => exact rfl
  | 97, _ => exact rfl
  | 98, _ => exact rfl
  | 99, _ => exact rfl
  | 100, _ => exact rfl
  | 101, _ => exact rfl
  | 102, _ => exact rfl
  | 103, _ => exact rfl
  | 104, _ => exact rfl
  | 105, _ => exact rfl
  | 106, _ => exact rfl
  | 107, _ => exact rfl
  | 108, _ => exact rfl
  | 109, _ => exact rfl
  | 110, _ => exact rfl
  | 111, _ => exact rfl
  | 112, _ => exact rfl
  | 113, _ => exact rfl
  | 114, _ => exact rfl
  | 115, _ => exact rfl
  | 116, _ => exact rfl
  | 117, _ => exact rfl
  | 118, _ => exact rfl
  | 119, _ => exact rfl
  | 120, _ => exact rfl
  | 121, _ => exact rfl
  | 122, _ => exact rfl
  | 123, _ => exact rfl
  | 124, _ => exact rfl
  | 125, _ => exact rfl
  | 126, _ => exact rfl
  | 127, _ => exact rfl
  | 128, _ => exact rfl
  | 129, _ => exact rfl
  | 130, _ => exact rfl
  | 131, _ => exact rfl
  | 132, _ => exact rfl
  | 133, _ => exact rfl
  | 134, _ => exact rfl
  | 135, _ => exact rfl
  | 136, _ => exact rfl
  | 137, _ => exact rfl
  | 138, _ => exact rfl
  | 139, _ => exact rfl
  | 140, _ => exact rfl
  | 141, _ => exact rfl
  | 142, _ => exact rfl
  | 143, _ => exact rfl
  | 144, _ => exact rfl
  | 145, _ => exact rfl
  | 146, _ => exact rfl
  | 147, _ => exact rfl
  | 148, _ => exact rfl
  | 149, _ => exact rfl
  | 150, _ => exact rfl
  | 151, _ => exact rfl
  | 152, _ => exact rfl
  | 153, _ => exact rfl
  | 154, _ => exact rfl
  | 155, _ => exact rfl
  | 156, _ => exact rfl
  | 157, _ => exact rfl
  | 158, _ => exact rfl
  | 159, _ => exact rfl
  | 160, _ => exact rfl
  | 161, _ => exact rfl
  | 162, _ => exact rfl
  | 163, _ => exact rfl
  | 164, _ => exact rfl
  | 165, _ => exact rfl
  | 166, _ => exact rfl
  | 167, _ => exact rfl
  | 168, _ => exact rfl
  | 169, _ => exact rfl
  | 170, _ => exact rfl
  | 171, _ => exact rfl
  | 172, _ => exact rfl
  | 173, _ => exact rfl
  | 174, _ => exact rfl
  | 175, _ => exact rfl
  | 176, _ => exact rfl
  | 177, _ => exact rfl
  | 178, _ => exact rfl
  | 179, _ => exact rfl
  | 180, _ => exact rfl
  | 181, _ => exact rfl
  | 182, _ => exact rfl
  | 183, _ => exact rfl
  | 184, _ => exact rfl
  | 185, _ => exact rfl
  | 186, _ => exact rfl
  | 187, _ => exact rfl
  | 188, _ => exact rfl
  | 189, _ => exact rfl
  | 190, _ => exact rfl
  | 191, _ => exact rfl
  | n + 192, h => exact absurd h (by omega)
