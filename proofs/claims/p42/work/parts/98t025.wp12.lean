def WJ_X12_actRead_Wx_2 (w : mW) (μ : mM) (Q : mM → Prop) (μ30 : mM) : Prop := mT w μ30 → mF [106037, 106038] w μ μ30 → ∀ z36 : Int, μ30 106 37 = z36 → (0 ≤ z36 ∧ z36 ≤ 4) → ((z36 = 0) → ∀ z41 : Int, μ30 106 58 = z41 → (0 ≤ z41 ∧ z41 ≤ 12) → ∀ z44 : Int, μ30 131 (z41.toNat) = z44 → (0 ≤ z44 ∧ z44 ≤ 300) → (z44 ≤ (299 : Int)) ∧ ∀ _ : True, ∀ μ50 : mM, mU μ30 131 (z41.toNat) (z44 + 1) μ50 → mT w μ50 → ∀ z53 : Int, μ50 106 36 = z53 → ((-2147483648) ≤ z53 ∧ z53 ≤ 2147483647) → ∀ μ56 : mM, mU μ50 140 (((300 * z41) + z44).toNat) z53 μ56 → mT w μ56 → ∀ z59 : Int, μ56 106 33 = z59 → (0 ≤ z59 ∧ z59 ≤ 1000) → ∀ z62 : Int, μ56 106 1 = z62 → (0 ≤ z62 ∧ z62 ≤ 1000) → ∀ μ65 : mM, mF [106033, 106034, 106035, 106036, 106037, 106038] w μ56 μ65 → mT w μ65 → ∀ z69 : Int, μ65 106 37 = z69 → ∀ z71 : Int, μ65 106 33 = z71 → ∀ z73 : Int, μ65 106 34 = z73 → ∀ z75 : Int, μ65 106 35 = z75 → ∀ z77 : Int, μ65 106 36 = z77 → nxR μ56 μ65 → ((z53 = 25) → WP_X12_within_Wx w μ65 (0) (65535) (fun z149 μ145 => mT w μ145 → mF [106033, 106034, 106035, 106036, 106037, 106038] w μ65 μ145 → ((-2147483648) ≤ z149 ∧ z149 ≤ 2147483647) → ∀ μ150 : mM, mU μ145 141 (((300 * z41) + z44).toNat) z149 μ150 → mT w μ150 → Q μ150)) ∧ ((¬ z53 = 25) → ((¬ z53 = 26) → ((¬ z53 = 12) → ((¬ z53 = 13) → ((¬ z53 = 27) → ((¬ z53 = 28) → Q μ65) ∧ ((z53 = 28) → ∀ z309 : Int, μ65 106 39 = z309 → (0 ≤ z309 ∧ z309 ≤ 12) → WP_X12_within_Wx w μ65 (0) (z309 - 1) (fun z316 μ312 => mT w μ312 → mF [106033, 106034, 106035, 106036, 106037, 106038] w μ65 μ312 → ((-2147483648) ≤ z316 ∧ z316 ≤ 2147483647) → ∀ μ317 : mM, mU μ312 141 (((300 * z41) + z44).toNat) z316 μ317 → mT w μ317 → Q μ317))) ∧ ((z53 = 27) → WP_X12_within_Wx w μ65 (1) (9) (fun z325 μ321 => mT w μ321 → mF [106033, 106034, 106035, 106036, 106037, 106038] w μ65 μ321 → ((-2147483648) ≤ z325 ∧ z325 ≤ 2147483647) → ∀ μ326 : mM, mU μ321 141 (((300 * z41) + z44).toNat) z325 μ326 → mT w μ326 → Q μ326))) ∧ ((z53 = 13) → WP_X12_within_Wx w μ65 (0) (1000000) (fun z334 μ330 => mT w μ330 → mF [106033, 106034, 106035, 106036, 106037, 106038] w μ65 μ330 → ((-2147483648) ≤ z334 ∧ z334 ≤ 2147483647) → ∀ μ335 : mM, mU μ330 141 (((300 * z41) + z44).toNat) z334 μ335 → mT w μ335 → Q μ335))) ∧ ((z53 = 12) → WP_X12_within_Wx w μ65 (0) (1000) (fun z343 μ339 => mT w μ339 → mF [106033, 106034, 106035, 106036, 106037, 106038] w μ65 μ339 → ((-2147483648) ≤ z343 ∧ z343 ≤ 2147483647) → ∀ μ344 : mM, mU μ339 141 (((300 * z41) + z44).toNat) z343 μ344 → mT w μ344 → Q μ344))) ∧ ((z53 = 26) → WP_X12_within_Wx w μ65 (0) (65535) (fun z352 μ348 => mT w μ348 → mF [106033, 106034, 106035, 106036, 106037, 106038] w μ65 μ348 → ((-2147483648) ≤ z352 ∧ z352 ≤ 2147483647) → ∀ μ353 : mM, mU μ348 141 (((300 * z41) + z44).toNat) z352 μ353 → mT w μ353 → Q μ353)))) ∧ ((¬ z36 = 0) → Q μ30)
def WJ_X12_actRead_Wx_1 (w : mW) (μ : mM) (Q : mM → Prop) (z20 : Int) : Prop := (0 ≤ z20 ∧ z20 ≤ 1) → ((¬ z20 = 0) → (WJ_X12_actRead_Wx_2 w μ Q) μ) ∧ ((z20 = 0) → WP_X12_wrong_Wx w μ (2) (fun μ360 => mT w μ360 → mF [106037, 106038] w μ μ360 → (WJ_X12_actRead_Wx_2 w μ Q) μ360))
def WP_X12_actRead_Wx (w : mW) (μ : mM) (Q : mM → Prop) : Prop := ∀ z1 : Int, μ 106 35 = z1 → (0 ≤ z1 ∧ z1 ≤ 3) → ((¬ z1 = 1) → (WJ_X12_actRead_Wx_1 w μ Q) (0 : Int)) ∧ ((z1 = 1) → ∀ z366 : Int, μ 106 36 = z366 → ((-2147483648) ≤ z366 ∧ z366 ≤ 2147483647) → WP_X12_in_W w μ z366 (23) (28) (fun z373 _ => (0 ≤ z373 ∧ z373 ≤ 1) → ((¬ z373 = 0) → (WJ_X12_actRead_Wx_1 w μ Q) (1 : Int)) ∧ ((z373 = 0) → ((z366 = 12) → (WJ_X12_actRead_Wx_1 w μ Q) (1 : Int)) ∧ ((¬ z366 = 12) → ((¬ z366 = 13) → (WJ_X12_actRead_Wx_1 w μ Q) (0 : Int)) ∧ ((z366 = 13) → (WJ_X12_actRead_Wx_1 w μ Q) (1 : Int))))))
theorem vc_X12_actRead_Wx_3 {z53 : Int} (h0 : z53 = 25) (h1 : (-2147483648) ≤ z53 ∧ z53 ≤ 2147483647) : 25 ≤ z53 ∧ z53 ≤ 25 := by omega
theorem vc_X12_actRead_Wx_4 {z53 : Int} (h0 : z53 = 28) (h1 : ¬ z53 = 25) (h2 : ¬ z53 = 26) (h3 : ¬ z53 = 12) (h4 : ¬ z53 = 13) (h5 : ¬ z53 = 27) (h6 : (-2147483648) ≤ z53 ∧ z53 ≤ 2147483647) : 28 ≤ z53 ∧ z53 ≤ 28 := by omega
theorem vc_X12_actRead_Wx_5 {z53 : Int} (h0 : z53 = 27) (h1 : ¬ z53 = 25) (h2 : ¬ z53 = 26) (h3 : ¬ z53 = 12) (h4 : ¬ z53 = 13) (h5 : (-2147483648) ≤ z53 ∧ z53 ≤ 2147483647) : 27 ≤ z53 ∧ z53 ≤ 27 := by omega
theorem vc_X12_actRead_Wx_6 {z53 : Int} (h0 : z53 = 13) (h1 : ¬ z53 = 25) (h2 : ¬ z53 = 26) (h3 : ¬ z53 = 12) (h4 : (-2147483648) ≤ z53 ∧ z53 ≤ 2147483647) : 13 ≤ z53 ∧ z53 ≤ 13 := by omega
theorem vc_X12_actRead_Wx_7 {z53 : Int} (h0 : z53 = 12) (h1 : ¬ z53 = 25) (h2 : ¬ z53 = 26) (h3 : (-2147483648) ≤ z53 ∧ z53 ≤ 2147483647) : 12 ≤ z53 ∧ z53 ≤ 12 := by omega
theorem vc_X12_actRead_Wx_8 {z53 : Int} (h0 : z53 = 26) (h1 : ¬ z53 = 25) (h2 : (-2147483648) ≤ z53 ∧ z53 ≤ 2147483647) : 26 ≤ z53 ∧ z53 ≤ 26 := by omega
theorem vc_X12_actRead_Wx_13 {z366 z373 : Int} (h0 : ¬ z373 = 0) (h1 : (z373 = 1 → (23 : Int) ≤ z366 ∧ z366 ≤ (28 : Int))) (h2 : (z373 = 0 → z366 < (23 : Int) ∨ (28 : Int) < z366)) (h3 : (-2147483648) ≤ z366 ∧ z366 ≤ 2147483647) (h4 : 0 ≤ z373 ∧ z373 ≤ 1) : 1 ≤ z373 ∧ z373 ≤ 1 := by omega
theorem vc_X12_actRead_Wx_14 {z366 z373 : Int} (h0 : (z373 = 1 → (23 : Int) ≤ z366 ∧ z366 ≤ (28 : Int))) (h1 : (z373 = 0 → z366 < (23 : Int) ∨ (28 : Int) < z366)) (h2 : ¬ z373 = 0) (h3 : (-2147483648) ≤ z366 ∧ z366 ≤ 2147483647) (h4 : 1 ≤ z373 ∧ z373 ≤ 1) : z373 = 1 := by omega
theorem vc_X12_actRead_Wx_15 {z366 z373 : Int} (h0 : (23 : Int) ≤ z366 ∧ z366 ≤ (28 : Int)) (h1 : (z373 = 1 → (23 : Int) ≤ z366 ∧ z366 ≤ (28 : Int))) (h2 : (z373 = 0 → z366 < (23 : Int) ∨ (28 : Int) < z366)) (h3 : (-2147483648) ≤ z366 ∧ z366 ≤ 2147483647) (h4 : 1 ≤ z373 ∧ z373 ≤ 1) : 23 ≤ z366 ∧ z366 ≤ 28 := by omega
theorem vc_X12_actRead_Wx_16 {z366 z373 : Int} (h0 : z373 = 0) (h1 : (z373 = 1 → (23 : Int) ≤ z366 ∧ z366 ≤ (28 : Int))) (h2 : (z373 = 0 → z366 < (23 : Int) ∨ (28 : Int) < z366)) (h3 : (-2147483648) ≤ z366 ∧ z366 ≤ 2147483647) (h4 : 0 ≤ z373 ∧ z373 ≤ 1) : 0 ≤ z373 ∧ z373 ≤ 0 := by omega
theorem vc_X12_actRead_Wx_17 {z366 z373 : Int} (h0 : (z373 = 1 → (23 : Int) ≤ z366 ∧ z366 ≤ (28 : Int))) (h1 : (z373 = 0 → z366 < (23 : Int) ∨ (28 : Int) < z366)) (h2 : z373 = 0) (h3 : (-2147483648) ≤ z366 ∧ z366 ≤ 2147483647) (h4 : 0 ≤ z373 ∧ z373 ≤ 0) : z373 = 0 := by omega
theorem vc_X12_actRead_Wx_18 {z366 z373 : Int} (h0 : z366 = 12) (h1 : (z373 = 1 → (23 : Int) ≤ z366 ∧ z366 ≤ (28 : Int))) (h2 : (z373 = 0 → z366 < (23 : Int) ∨ (28 : Int) < z366)) (h3 : z366 < (23 : Int) ∨ (28 : Int) < z366) (h4 : (-2147483648) ≤ z366 ∧ z366 ≤ 2147483647) (h5 : 0 ≤ z373 ∧ z373 ≤ 0) : 12 ≤ z366 ∧ z366 ≤ 12 := by omega
theorem vc_X12_actRead_Wx_19 {z366 z373 : Int} (h0 : z366 = 13) (h1 : (z373 = 1 → (23 : Int) ≤ z366 ∧ z366 ≤ (28 : Int))) (h2 : (z373 = 0 → z366 < (23 : Int) ∨ (28 : Int) < z366)) (h3 : z366 < (23 : Int) ∨ (28 : Int) < z366) (h4 : ¬ z366 = 12) (h5 : (-2147483648) ≤ z366 ∧ z366 ≤ 2147483647) (h6 : 0 ≤ z373 ∧ z373 ≤ 0) : 13 ≤ z366 ∧ z366 ≤ 13 := by omega
set_option maxRecDepth 4000 in
set_option maxHeartbeats 4000000 in
theorem c_X12_actRead_Wx {l : Launch} {D : va_G} {c : Nat → ClassId} {H0 : Heap} {sa : Nat × Nat × (Nat → Int32)} {w : mW} {μ : mM} (hw : mWF w) (hT : mT w μ) {Q : mM → Prop} (hQ : WP_X12_actRead_Wx w μ  Q) : sC (gG l D c H0 sa) mX12_actRead 4 0 0 [.ref 106] (mk w μ) (qV w [106033, 106034, 106035, 106036, 106037, 106038, 131999, 140999, 141999] μ (fun μ1 => Q μ1 ∧ True)) := by
  refine sC.of rfl (by decide) (le_t rfl) ?_
  refine mr_lvE (lv' := [(0, .ref 106)]) rfl ?_
  refine sv_aload_n (pc := 0) dX12_actRead_0 rfl rfl ?_
  refine gf_X12_35 (pc := 1) dX12_actRead_1 wF_X12_230 (A_106 hw) hT fun z1 q2 h3 => ?_
  refine mr_iconst (pc := 4) (z := 1) dX12_actRead_4 ?_
  have J22 : ∀ (z20 : Int), ((0 ≤ z20 ∧ z20 ≤ 1)) → ((WJ_X12_actRead_Wx_1 w μ Q) z20) → sV (gG l D c H0 sa) mX12_actRead (sRm 4 0 0) (sZ (gG l D c H0 sa) 0 0 (qV w [106033, 106034, 106035, 106036, 106037, 106038, 131999, 140999, 141999] μ (fun μ1 => Q μ1 ∧ True))) 45 [(0, .ref 106)] [iv z20] (mk w μ) 0 0 := by
    intro z20 h21 W23
    refine mr_istore_n (pc := 45) (lv' := [(1, iv z20), (0, .ref 106)]) dX12_actRead_45 rfl (by decide) rfl ?_
    refine mr_iload_n (pc := 46) (z := z20) dX12_actRead_46 rfl rfl ?_
    have J34 : ∀ (μ30 : mM), (mT w μ30) → (mF [106037, 106038] w μ μ30) → ((WJ_X12_actRead_Wx_2 w μ Q) μ30) → sV (gG l D c H0 sa) mX12_actRead (sRm 4 0 0) (sZ (gG l D c H0 sa) 0 0 (qV w [106033, 106034, 106035, 106036, 106037, 106038, 131999, 140999, 141999] μ (fun μ1 => Q μ1 ∧ True))) 55 [(0, .ref 106)] [] (mk w μ30) 0 0 := by
      intro μ30 T31 F32 W35
      refine sv_aload_n (pc := 55) dX12_actRead_55 rfl rfl ?_
      refine gf_X12_37 (pc := 56) dX12_actRead_56 wF_X12_215 (A_106 hw) T31 fun z36 q37 h38 => ?_
      refine mr_if_eq (pc := 59) (tgt := 63) dX12_actRead_59 (by decide) (r32 h38 rfl) (fun h39 => ?_) (fun h39 => ?_)
      · have h40 : 0 ≤ z36 ∧ z36 ≤ 0 := (vc_X12_wrong_v_5 h39 h38)
        refine mr_sipush (pc := 63) (z := 300) dX12_actRead_63 (by decide) ?_
        refine sv_aload_n (pc := 66) dX12_actRead_66 rfl rfl ?_
        refine gf_X12_58 (pc := 67) dX12_actRead_67 wF_X12_278 (A_106 hw) T31 fun z41 q42 h43 => ?_
        refine mr_imul (pc := 70) (x := 300) (y := z41) dX12_actRead_70 ?_
        refine sv_aload_n (pc := 71) dX12_actRead_71 rfl rfl ?_
        refine gf_X12_44 (pc := 72) dX12_actRead_72 wF_X12_346 (A_106 hw) T31 ?_
        refine sv_aload_n (pc := 75) dX12_actRead_75 rfl rfl ?_
        refine gk_X12_58 (pc := 76) dX12_actRead_76 wF_X12_278 (A_106 hw) q42 ?_
        refine la_131 (pc := 79) dX12_actRead_79 (A_131 hw) T31 (rIx (n := 13) h43 rfl) fun z44 q45 h46 => ?_
        have W47 := (((((W35 T31 F32) z36 q37 h38).1 h39) z41 q42 h43) z44 q45 h46)
        have h48 : z44 ≤ (299 : Int) := W47.1
        have h49 : 0 ≤ z44 ∧ z44 ≤ 299 := (vc_X12_octet1_1 h48 h46)
        refine mr_iadd (pc := 80) (x := (300 * z41)) (y := z44) dX12_actRead_80 ?_
        refine mr_istore_n (pc := 81) (lv' := [(2, iv ((300 * z41) + z44)), (0, .ref 106)]) dX12_actRead_81 rfl (by decide) rfl ?_
        refine sv_aload_n (pc := 82) dX12_actRead_82 rfl rfl ?_
        refine gf_X12_44 (pc := 83) dX12_actRead_83 wF_X12_346 (A_106 hw) T31 ?_
        refine sv_aload_n (pc := 86) dX12_actRead_86 rfl rfl ?_
        refine gk_X12_58 (pc := 87) dX12_actRead_87 wF_X12_278 (A_106 hw) q42 ?_
        refine sv_dup2 (pc := 90) dX12_actRead_90 rfl rfl ?_
        refine lk_131 (pc := 91) dX12_actRead_91 (A_131 hw) (rIx (n := 13) h43 rfl) q45 ?_
        refine mr_iconst (pc := 92) (z := 1) dX12_actRead_92 ?_
        refine mr_iadd (pc := 93) (x := z44) (y := 1) dX12_actRead_93 ?_
        refine ss_131 (pc := 94) dX12_actRead_94 (A_131 hw) T31 (rIx (n := 13) h43 rfl) (rW (c := 0) (d := 300) (rAdd (e := 1) (f := 300) h49 (rR (x := 1)) rfl) rfl) fun μ50 u51 T52 => ?_
        refine sv_aload_n (pc := 95) dX12_actRead_95 rfl rfl ?_
        refine gf_X12_36 (pc := 96) dX12_actRead_96 wF_X12_233 (A_106 hw) T52 fun z53 q54 h55 => ?_
        refine mr_istore_n (pc := 99) (lv' := [(3, iv z53), (2, iv ((300 * z41) + z44)), (0, .ref 106)]) dX12_actRead_99 rfl (by decide) rfl ?_
        refine sv_aload_n (pc := 100) dX12_actRead_100 rfl rfl ?_
        refine gf_X12_53 (pc := 101) dX12_actRead_101 wF_X12_349 (A_106 hw) T52 ?_
        refine mr_iload_n (pc := 104) (z := ((300 * z41) + z44)) dX12_actRead_104 rfl rfl ?_
        refine mr_iload_n (pc := 105) (z := z53) dX12_actRead_105 rfl rfl ?_
        refine ss_140 (pc := 106) dX12_actRead_106 (A_140 hw) T52 (rIx (n := 3900) (rAdd (e := 0) (f := 3899) (rMulL (n := 300) (e := 0) (f := 3600) h43 rfl) h49 rfl) rfl) h55 fun μ56 u57 T58 => ?_
        refine sv_aload_n (pc := 107) dX12_actRead_107 rfl rfl ?_
        obtain ⟨z59, q60⟩ : ∃ z, μ56 106 33 = z := ⟨_, rfl⟩
        have h61 : (0 ≤ z59 ∧ z59 ≤ 1000) := by rw [← q60]; exact T58 106 106 (A_106 hw) 33
        obtain ⟨z62, q63⟩ : ∃ z, μ56 106 1 = z := ⟨_, rfl⟩
        have h64 : (0 ≤ z62 ∧ z62 ≤ 1000) := by rw [← q63]; exact T58 106 106 (A_106 hw) 1
        refine mr_cVV (pc := 108) (c_X12_next_v hw T58 (u57.f (Or.inl (mAt.ne (A_140 hw) (A_106 hw) rfl)) (u51.f (Or.inl (mAt.ne (A_131 hw) (A_106 hw) rfl)) q37)) q60 q63) (gOk _ _ _ _ _) dX12_actRead_108 (tX12_next _ _ _ _ _) ⟨wV_X12_next, wL_X12_next⟩ wM_X12_247 (gCX12 _ _ _ _ _) rfl (A_106 hw) rfl ⟨le_t rfl, le_t rfl⟩ ⟨le_t rfl, le_t rfl⟩ rfl (le_t rfl) fun μ65 T66 F67 h68 => ?_
        obtain ⟨z69, z71, z73, z75, z77, q70, q72, q74, q76, q78, h79⟩ := h68
        have h80 : (0 ≤ z69 ∧ z69 ≤ 4) := by rw [← q70]; exact T66 106 106 (A_106 hw) 37
        have h81 : (0 ≤ z71 ∧ z71 ≤ 1000) := by rw [← q72]; exact T66 106 106 (A_106 hw) 33
        have h82 : (0 ≤ z73 ∧ z73 ≤ 1000) := by rw [← q74]; exact T66 106 106 (A_106 hw) 34
        have h83 : (0 ≤ z75 ∧ z75 ≤ 3) := by rw [← q76]; exact T66 106 106 (A_106 hw) 35
        have h84 : ((-2147483648) ≤ z77 ∧ z77 ≤ 2147483647) := by rw [← q78]; exact T66 106 106 (A_106 hw) 36
        refine mr_iload_n (pc := 111) (z := z53) dX12_actRead_111 rfl rfl ?_
        refine mr_bipush (pc := 112) (z := 25) dX12_actRead_112 (by decide) ?_
        have W85 := (((((((((((((W47.2 trivial) μ50 u51 T52) z53 q54 h55) μ56 u57 T58) z59 q60 h61) z62 q63 h64) μ65 F67 T66) z69 q70) z71 q72) z73 q74) z75 q76) z77 q78) h79.2.2.2.2.2.2.2.1)
        refine mr_icmp_eq (pc := 114) (tgt := 123) dX12_actRead_114 (by decide) h55 (r32 (rR (x := 25)) rfl) (fun h143 => ?_) (fun h143 => ?_)
        · have h144 : 25 ≤ z53 ∧ z53 ≤ 25 := (vc_X12_actRead_Wx_3 h143 h55)
          refine sv_aload_n (pc := 123) dX12_actRead_123 rfl rfl ?_
          refine gf_X12_54 (pc := 124) dX12_actRead_124 wF_X12_352 (A_106 hw) T66 ?_
          refine mr_iload_n (pc := 127) (z := ((300 * z41) + z44)) dX12_actRead_127 rfl rfl ?_
          refine sv_aload_n (pc := 128) dX12_actRead_128 rfl rfl ?_
          refine mr_iconst (pc := 129) (z := 0) dX12_actRead_129 ?_
          refine mr_ldcw (pc := 130) (z := 65535) dX12_actRead_130 wG_X12_345 (by decide) ?_
          refine mr_cVI (pc := 133) (c_X12_within_Wx hw T66 (rW (c := (-2147483648)) (d := 2147483647) (rR (x := 0)) rfl) (rW (c := (-2147483648)) (d := 2147483647) (rR (x := 65535)) rfl) (W85.1 h143)) (gOk _ _ _ _ _) dX12_actRead_133 (tX12_within _ _ _ _ _) ⟨wV_X12_within, wL_X12_within⟩ wM_X12_314 (gCX12 _ _ _ _ _) rfl (A_106 hw) rfl ⟨le_t rfl, le_t rfl⟩ ⟨le_t rfl, le_t rfl⟩ rfl (le_t rfl) fun z149 μ145 T146 F147 h148 => ?_
          refine ss_141 (pc := 136) dX12_actRead_136 (A_141 hw) T146 (rIx (n := 3900) (rAdd (e := 0) (f := 3899) (rMulL (n := 300) (e := 0) (f := 3600) h43 rfl) h49 rfl) rfl) h148.1 fun μ150 u151 T152 => ?_
          refine sv_goto (pc := 137) (tgt := 231) dX12_actRead_137 (by decide) ?_
          exact mr_vret dX12_actRead_231 rfl (le_t rfl) (le_t rfl) T152 (mF.up (mF.call (mF.call (mF.up (mF.up (mF.call mF.refl F32 rfl) (A_131 hw) u51 rfl) (A_140 hw) u57 rfl) F67 rfl) F147 rfl) (A_141 hw) u151 rfl) ⟨(((h148.2.1 T146 F147) h148.1) μ150 u151 T152), trivial⟩
        refine mr_iload_n (pc := 117) (z := z53) dX12_actRead_117 rfl rfl ?_
        refine mr_bipush (pc := 118) (z := 26) dX12_actRead_118 (by decide) ?_
        refine mr_icmp_ne (pc := 120) (tgt := 140) dX12_actRead_120 (by decide) h55 (r32 (rR (x := 26)) rfl) (fun h201 => ?_) (fun h201 => ?_)
        · refine mr_iload_n (pc := 140) (z := z53) dX12_actRead_140 rfl rfl ?_
          refine mr_bipush (pc := 141) (z := 12) dX12_actRead_141 (by decide) ?_
          refine mr_icmp_ne (pc := 143) (tgt := 163) dX12_actRead_143 (by decide) h55 (r32 (rR (x := 12)) rfl) (fun h241 => ?_) (fun h241 => ?_)
          · refine mr_iload_n (pc := 163) (z := z53) dX12_actRead_163 rfl rfl ?_
            refine mr_bipush (pc := 164) (z := 13) dX12_actRead_164 (by decide) ?_
            refine mr_icmp_ne (pc := 166) (tgt := 186) dX12_actRead_166 (by decide) h55 (r32 (rR (x := 13)) rfl) (fun h272 => ?_) (fun h272 => ?_)
            · refine mr_iload_n (pc := 186) (z := z53) dX12_actRead_186 rfl rfl ?_
              refine mr_bipush (pc := 187) (z := 27) dX12_actRead_187 (by decide) ?_
              refine mr_icmp_ne (pc := 189) (tgt := 208) dX12_actRead_189 (by decide) h55 (r32 (rR (x := 27)) rfl) (fun h294 => ?_) (fun h294 => ?_)
              · refine mr_iload_n (pc := 208) (z := z53) dX12_actRead_208 rfl rfl ?_
                refine mr_bipush (pc := 209) (z := 28) dX12_actRead_209 (by decide) ?_
                refine mr_icmp_ne (pc := 211) (tgt := 231) dX12_actRead_211 (by decide) h55 (r32 (rR (x := 28)) rfl) (fun h307 => ?_) (fun h307 => ?_)
                · exact mr_vret dX12_actRead_231 rfl (le_t rfl) (le_t rfl) T66 (mF.call (mF.up (mF.up (mF.call mF.refl F32 rfl) (A_131 hw) u51 rfl) (A_140 hw) u57 rfl) F67 rfl) ⟨((((((W85.2 h143).1 h201).1 h241).1 h272).1 h294).1 h307), trivial⟩
                have h308 : 28 ≤ z53 ∧ z53 ≤ 28 := (vc_X12_actRead_Wx_4 h307 h143 h201 h241 h272 h294 h55)
                refine sv_aload_n (pc := 214) dX12_actRead_214 rfl rfl ?_
                refine gf_X12_54 (pc := 215) dX12_actRead_215 wF_X12_352 (A_106 hw) T66 ?_
                refine mr_iload_n (pc := 218) (z := ((300 * z41) + z44)) dX12_actRead_218 rfl rfl ?_
                refine sv_aload_n (pc := 219) dX12_actRead_219 rfl rfl ?_
                refine mr_iconst (pc := 220) (z := 0) dX12_actRead_220 ?_
                refine sv_aload_n (pc := 221) dX12_actRead_221 rfl rfl ?_
                refine gf_X12_39 (pc := 222) dX12_actRead_222 wF_X12_355 (A_106 hw) T66 fun z309 q310 h311 => ?_
                refine mr_iconst (pc := 225) (z := 1) dX12_actRead_225 ?_
                refine mr_isub (pc := 226) (x := z309) (y := 1) dX12_actRead_226 ?_
                refine mr_cVI (pc := 227) (c_X12_within_Wx hw T66 (rW (c := (-2147483648)) (d := 2147483647) (rR (x := 0)) rfl) (rW (c := (-2147483648)) (d := 2147483647) (rSub (e := (-1)) (f := 11) h311 (rR (x := 1)) rfl) rfl) (((((((W85.2 h143).1 h201).1 h241).1 h272).1 h294).2 h307) z309 q310 h311)) (gOk _ _ _ _ _) dX12_actRead_227 (tX12_within _ _ _ _ _) ⟨wV_X12_within, wL_X12_within⟩ wM_X12_314 (gCX12 _ _ _ _ _) rfl (A_106 hw) rfl ⟨le_t rfl, le_t rfl⟩ ⟨le_t rfl, le_t rfl⟩ rfl (le_t rfl) fun z316 μ312 T313 F314 h315 => ?_
                refine ss_141 (pc := 230) dX12_actRead_230 (A_141 hw) T313 (rIx (n := 3900) (rAdd (e := 0) (f := 3899) (rMulL (n := 300) (e := 0) (f := 3600) h43 rfl) h49 rfl) rfl) h315.1 fun μ317 u318 T319 => ?_
                exact mr_vret dX12_actRead_231 rfl (le_t rfl) (le_t rfl) T319 (mF.up (mF.call (mF.call (mF.up (mF.up (mF.call mF.refl F32 rfl) (A_131 hw) u51 rfl) (A_140 hw) u57 rfl) F67 rfl) F314 rfl) (A_141 hw) u318 rfl) ⟨(((h315.2.1 T313 F314) h315.1) μ317 u318 T319), trivial⟩
              have h320 : 27 ≤ z53 ∧ z53 ≤ 27 := (vc_X12_actRead_Wx_5 h294 h143 h201 h241 h272 h55)
              refine sv_aload_n (pc := 192) dX12_actRead_192 rfl rfl ?_
              refine gf_X12_54 (pc := 193) dX12_actRead_193 wF_X12_352 (A_106 hw) T66 ?_
              refine mr_iload_n (pc := 196) (z := ((300 * z41) + z44)) dX12_actRead_196 rfl rfl ?_
              refine sv_aload_n (pc := 197) dX12_actRead_197 rfl rfl ?_
              refine mr_iconst (pc := 198) (z := 1) dX12_actRead_198 ?_
              refine mr_bipush (pc := 199) (z := 9) dX12_actRead_199 (by decide) ?_
              refine mr_cVI (pc := 201) (c_X12_within_Wx hw T66 (rW (c := (-2147483648)) (d := 2147483647) (rR (x := 1)) rfl) (rW (c := (-2147483648)) (d := 2147483647) (rR (x := 9)) rfl) (((((W85.2 h143).1 h201).1 h241).1 h272).2 h294)) (gOk _ _ _ _ _) dX12_actRead_201 (tX12_within _ _ _ _ _) ⟨wV_X12_within, wL_X12_within⟩ wM_X12_314 (gCX12 _ _ _ _ _) rfl (A_106 hw) rfl ⟨le_t rfl, le_t rfl⟩ ⟨le_t rfl, le_t rfl⟩ rfl (le_t rfl) fun z325 μ321 T322 F323 h324 => ?_
              refine ss_141 (pc := 204) dX12_actRead_204 (A_141 hw) T322 (rIx (n := 3900) (rAdd (e := 0) (f := 3899) (rMulL (n := 300) (e := 0) (f := 3600) h43 rfl) h49 rfl) rfl) h324.1 fun μ326 u327 T328 => ?_
              refine sv_goto (pc := 205) (tgt := 231) dX12_actRead_205 (by decide) ?_
              exact mr_vret dX12_actRead_231 rfl (le_t rfl) (le_t rfl) T328 (mF.up (mF.call (mF.call (mF.up (mF.up (mF.call mF.refl F32 rfl) (A_131 hw) u51 rfl) (A_140 hw) u57 rfl) F67 rfl) F323 rfl) (A_141 hw) u327 rfl) ⟨(((h324.2.1 T322 F323) h324.1) μ326 u327 T328), trivial⟩
            have h329 : 13 ≤ z53 ∧ z53 ≤ 13 := (vc_X12_actRead_Wx_6 h272 h143 h201 h241 h55)
            refine sv_aload_n (pc := 169) dX12_actRead_169 rfl rfl ?_
            refine gf_X12_54 (pc := 170) dX12_actRead_170 wF_X12_352 (A_106 hw) T66 ?_
            refine mr_iload_n (pc := 173) (z := ((300 * z41) + z44)) dX12_actRead_173 rfl rfl ?_
            refine sv_aload_n (pc := 174) dX12_actRead_174 rfl rfl ?_
            refine mr_iconst (pc := 175) (z := 0) dX12_actRead_175 ?_
            refine mr_ldcw (pc := 176) (z := 1000000) dX12_actRead_176 wG_X12_291 (by decide) ?_
            refine mr_cVI (pc := 179) (c_X12_within_Wx hw T66 (rW (c := (-2147483648)) (d := 2147483647) (rR (x := 0)) rfl) (rW (c := (-2147483648)) (d := 2147483647) (rR (x := 1000000)) rfl) ((((W85.2 h143).1 h201).1 h241).2 h272)) (gOk _ _ _ _ _) dX12_actRead_179 (tX12_within _ _ _ _ _) ⟨wV_X12_within, wL_X12_within⟩ wM_X12_314 (gCX12 _ _ _ _ _) rfl (A_106 hw) rfl ⟨le_t rfl, le_t rfl⟩ ⟨le_t rfl, le_t rfl⟩ rfl (le_t rfl) fun z334 μ330 T331 F332 h333 => ?_
            refine ss_141 (pc := 182) dX12_actRead_182 (A_141 hw) T331 (rIx (n := 3900) (rAdd (e := 0) (f := 3899) (rMulL (n := 300) (e := 0) (f := 3600) h43 rfl) h49 rfl) rfl) h333.1 fun μ335 u336 T337 => ?_
            refine sv_goto (pc := 183) (tgt := 231) dX12_actRead_183 (by decide) ?_
            exact mr_vret dX12_actRead_231 rfl (le_t rfl) (le_t rfl) T337 (mF.up (mF.call (mF.call (mF.up (mF.up (mF.call mF.refl F32 rfl) (A_131 hw) u51 rfl) (A_140 hw) u57 rfl) F67 rfl) F332 rfl) (A_141 hw) u336 rfl) ⟨(((h333.2.1 T331 F332) h333.1) μ335 u336 T337), trivial⟩
          have h338 : 12 ≤ z53 ∧ z53 ≤ 12 := (vc_X12_actRead_Wx_7 h241 h143 h201 h55)
          refine sv_aload_n (pc := 146) dX12_actRead_146 rfl rfl ?_
          refine gf_X12_54 (pc := 147) dX12_actRead_147 wF_X12_352 (A_106 hw) T66 ?_
          refine mr_iload_n (pc := 150) (z := ((300 * z41) + z44)) dX12_actRead_150 rfl rfl ?_
          refine sv_aload_n (pc := 151) dX12_actRead_151 rfl rfl ?_
          refine mr_iconst (pc := 152) (z := 0) dX12_actRead_152 ?_
          refine mr_sipush (pc := 153) (z := 1000) dX12_actRead_153 (by decide) ?_
          refine mr_cVI (pc := 156) (c_X12_within_Wx hw T66 (rW (c := (-2147483648)) (d := 2147483647) (rR (x := 0)) rfl) (rW (c := (-2147483648)) (d := 2147483647) (rR (x := 1000)) rfl) (((W85.2 h143).1 h201).2 h241)) (gOk _ _ _ _ _) dX12_actRead_156 (tX12_within _ _ _ _ _) ⟨wV_X12_within, wL_X12_within⟩ wM_X12_314 (gCX12 _ _ _ _ _) rfl (A_106 hw) rfl ⟨le_t rfl, le_t rfl⟩ ⟨le_t rfl, le_t rfl⟩ rfl (le_t rfl) fun z343 μ339 T340 F341 h342 => ?_
          refine ss_141 (pc := 159) dX12_actRead_159 (A_141 hw) T340 (rIx (n := 3900) (rAdd (e := 0) (f := 3899) (rMulL (n := 300) (e := 0) (f := 3600) h43 rfl) h49 rfl) rfl) h342.1 fun μ344 u345 T346 => ?_
          refine sv_goto (pc := 160) (tgt := 231) dX12_actRead_160 (by decide) ?_
          exact mr_vret dX12_actRead_231 rfl (le_t rfl) (le_t rfl) T346 (mF.up (mF.call (mF.call (mF.up (mF.up (mF.call mF.refl F32 rfl) (A_131 hw) u51 rfl) (A_140 hw) u57 rfl) F67 rfl) F341 rfl) (A_141 hw) u345 rfl) ⟨(((h342.2.1 T340 F341) h342.1) μ344 u345 T346), trivial⟩
        have h347 : 26 ≤ z53 ∧ z53 ≤ 26 := (vc_X12_actRead_Wx_8 h201 h143 h55)
        refine sv_aload_n (pc := 123) dX12_actRead_123 rfl rfl ?_
        refine gf_X12_54 (pc := 124) dX12_actRead_124 wF_X12_352 (A_106 hw) T66 ?_
        refine mr_iload_n (pc := 127) (z := ((300 * z41) + z44)) dX12_actRead_127 rfl rfl ?_
        refine sv_aload_n (pc := 128) dX12_actRead_128 rfl rfl ?_
        refine mr_iconst (pc := 129) (z := 0) dX12_actRead_129 ?_
        refine mr_ldcw (pc := 130) (z := 65535) dX12_actRead_130 wG_X12_345 (by decide) ?_
        refine mr_cVI (pc := 133) (c_X12_within_Wx hw T66 (rW (c := (-2147483648)) (d := 2147483647) (rR (x := 0)) rfl) (rW (c := (-2147483648)) (d := 2147483647) (rR (x := 65535)) rfl) ((W85.2 h143).2 h201)) (gOk _ _ _ _ _) dX12_actRead_133 (tX12_within _ _ _ _ _) ⟨wV_X12_within, wL_X12_within⟩ wM_X12_314 (gCX12 _ _ _ _ _) rfl (A_106 hw) rfl ⟨le_t rfl, le_t rfl⟩ ⟨le_t rfl, le_t rfl⟩ rfl (le_t rfl) fun z352 μ348 T349 F350 h351 => ?_
        refine ss_141 (pc := 136) dX12_actRead_136 (A_141 hw) T349 (rIx (n := 3900) (rAdd (e := 0) (f := 3899) (rMulL (n := 300) (e := 0) (f := 3600) h43 rfl) h49 rfl) rfl) h351.1 fun μ353 u354 T355 => ?_
        refine sv_goto (pc := 137) (tgt := 231) dX12_actRead_137 (by decide) ?_
        exact mr_vret dX12_actRead_231 rfl (le_t rfl) (le_t rfl) T355 (mF.up (mF.call (mF.call (mF.up (mF.up (mF.call mF.refl F32 rfl) (A_131 hw) u51 rfl) (A_140 hw) u57 rfl) F67 rfl) F350 rfl) (A_141 hw) u354 rfl) ⟨(((h351.2.1 T349 F350) h351.1) μ353 u354 T355), trivial⟩
      have h356 : 1 ≤ z36 ∧ z36 ≤ 4 := (vc_X12_wrong_v_1 h39 h38)
      exact mr_vret dX12_actRead_62 rfl (le_t rfl) (le_t rfl) T31 (mF.call mF.refl F32 rfl) ⟨(((W35 T31 F32) z36 q37 h38).2 h39), trivial⟩
    refine mr_if_ne (pc := 47) (tgt := 55) dX12_actRead_47 (by decide) (r32 h21 rfl) (fun h357 => ?_) (fun h357 => ?_)
    · have h358 : 1 ≤ z20 ∧ z20 ≤ 1 := (vc_X12_ring_24 h357 h21)
      refine mr_lvS (lv' := [(0, .ref 106)]) (List.forall_mem_cons.mpr ⟨rfl, fun _ h => absurd h List.not_mem_nil⟩) ?_
      exact J34 μ hT mF.refl ((W23 h21).1 h357)
    have h359 : 0 ≤ z20 ∧ z20 ≤ 0 := (vc_X12_ring_22 h357 h21)
    refine sv_aload_n (pc := 50) dX12_actRead_50 rfl rfl ?_
    refine mr_iconst (pc := 51) (z := 2) dX12_actRead_51 ?_
    refine mr_cVV (pc := 52) (c_X12_wrong_Wx hw hT (rW (c := 1) (d := 4) (rR (x := 2)) rfl) ((W23 h21).2 h357)) (gOk _ _ _ _ _) dX12_actRead_52 (tX12_wrong _ _ _ _ _) ⟨wV_X12_wrong, wL_X12_wrong⟩ wM_X12_240 (gCX12 _ _ _ _ _) rfl (A_106 hw) rfl ⟨le_t rfl, le_t rfl⟩ ⟨le_t rfl, le_t rfl⟩ rfl (le_t rfl) fun μ360 T361 F362 h363 => ?_
    refine mr_lvS (lv' := [(0, .ref 106)]) (List.forall_mem_cons.mpr ⟨rfl, fun _ h => absurd h List.not_mem_nil⟩) ?_
    exact J34 μ360 T361 (mF.call mF.refl F362 rfl) (h363.1 T361 F362)
  refine mr_icmp_ne (pc := 5) (tgt := 44) dX12_actRead_5 (by decide) (r32 h3 rfl) (r32 (rR (x := 1)) rfl) (fun h364 => ?_) (fun h364 => ?_)
  · refine mr_iconst (pc := 44) (z := 0) dX12_actRead_44 ?_
    exact J22 0 (rW (c := 0) (d := 1) (rR (x := 0)) rfl) ((hQ z1 q2 h3).1 h364)
  have h365 : 1 ≤ z1 ∧ z1 ≤ 1 := (vc_X10_firstWrongStep_16 h364 h3)
  refine sv_aload_n (pc := 8) dX12_actRead_8 rfl rfl ?_
  refine gf_X12_36 (pc := 9) dX12_actRead_9 wF_X12_233 (A_106 hw) hT fun z366 q367 h368 => ?_
  refine mr_bipush (pc := 12) (z := 23) dX12_actRead_12 (by decide) ?_
  refine mr_bipush (pc := 14) (z := 28) dX12_actRead_14 (by decide) ?_
  refine mr_cSP (pc := 16) (c_X12_in_W hw hT h368 (rW (c := (-2147483648)) (d := 2147483647) (rR (x := 23)) rfl) (rW (c := (-2147483648)) (d := 2147483647) (rR (x := 28)) rfl) (((hQ z1 q2 h3).2 h364) z366 q367 h368)) (gOk _ _ _ _ _) dX12_actRead_16 (tX12_in _ _ _ _ _) wS_X12_in wM_X12_18 ⟨le_t rfl, le_t rfl⟩ ⟨le_t rfl, le_t rfl⟩ rfl (le_t rfl) fun z373 h372 => ?_
  refine mr_if_ne (pc := 19) (tgt := 40) dX12_actRead_19 (by decide) (r32 h372.1 rfl) (fun h374 => ?_) (fun h374 => ?_)
  · have h375 : 1 ≤ z373 ∧ z373 ≤ 1 := (vc_X12_actRead_Wx_13 h374 h372.2.1 h372.2.2.1 h368 h372.1)
    have h376 : (23 : Int) ≤ z366 ∧ z366 ≤ (28 : Int) := (h372.2.1 (vc_X12_actRead_Wx_14 h372.2.1 h372.2.2.1 h374 h368 h375))
    have h377 : 23 ≤ z366 ∧ z366 ≤ 28 := (vc_X12_actRead_Wx_15 h376 h372.2.1 h372.2.2.1 h368 h375)
    refine mr_iconst (pc := 40) (z := 1) dX12_actRead_40 ?_
    refine sv_goto (pc := 41) (tgt := 45) dX12_actRead_41 (by decide) ?_
    exact J22 1 (rW (c := 0) (d := 1) (rR (x := 1)) rfl) ((h372.2.2.2.1 h372.1).1 h374)
  have h378 : 0 ≤ z373 ∧ z373 ≤ 0 := (vc_X12_actRead_Wx_16 h374 h372.2.1 h372.2.2.1 h368 h372.1)
  have h379 : z366 < (23 : Int) ∨ (28 : Int) < z366 := (h372.2.2.1 (vc_X12_actRead_Wx_17 h372.2.1 h372.2.2.1 h374 h368 h378))
  refine sv_aload_n (pc := 22) dX12_actRead_22 rfl rfl ?_
  refine gk_X12_36 (pc := 23) dX12_actRead_23 wF_X12_233 (A_106 hw) q367 ?_
  refine mr_bipush (pc := 26) (z := 12) dX12_actRead_26 (by decide) ?_
  refine mr_icmp_eq (pc := 28) (tgt := 40) dX12_actRead_28 (by decide) h368 (r32 (rR (x := 12)) rfl) (fun h380 => ?_) (fun h380 => ?_)
  · have h381 : 12 ≤ z366 ∧ z366 ≤ 12 := (vc_X12_actRead_Wx_18 h380 h372.2.1 h372.2.2.1 h379 h368 h378)
    refine mr_iconst (pc := 40) (z := 1) dX12_actRead_40 ?_
    refine sv_goto (pc := 41) (tgt := 45) dX12_actRead_41 (by decide) ?_
    exact J22 1 (rW (c := 0) (d := 1) (rR (x := 1)) rfl) (((h372.2.2.2.1 h372.1).2 h374).1 h380)
  refine sv_aload_n (pc := 31) dX12_actRead_31 rfl rfl ?_
  refine gk_X12_36 (pc := 32) dX12_actRead_32 wF_X12_233 (A_106 hw) q367 ?_
  refine mr_bipush (pc := 35) (z := 13) dX12_actRead_35 (by decide) ?_
  refine mr_icmp_ne (pc := 37) (tgt := 44) dX12_actRead_37 (by decide) h368 (r32 (rR (x := 13)) rfl) (fun h382 => ?_) (fun h382 => ?_)
  · refine mr_iconst (pc := 44) (z := 0) dX12_actRead_44 ?_
    exact J22 0 (rW (c := 0) (d := 1) (rR (x := 0)) rfl) ((((h372.2.2.2.1 h372.1).2 h374).2 h380).1 h382)
  have h383 : 13 ≤ z366 ∧ z366 ≤ 13 := (vc_X12_actRead_Wx_19 h382 h372.2.1 h372.2.2.1 h379 h380 h368 h378)
  refine mr_iconst (pc := 40) (z := 1) dX12_actRead_40 ?_
  refine sv_goto (pc := 41) (tgt := 45) dX12_actRead_41 (by decide) ?_
  exact J22 1 (rW (c := 0) (d := 1) (rR (x := 1)) rfl) ((((h372.2.2.2.1 h372.1).2 h374).2 h380).2 h382)
def WL_X12_rowRead_Wx_5 (w : mW) (Q : mM → Prop) (z37 : Int) (z40 : Int) (μ356 : mM) (rec5 : (mM) → Prop) (s : (mM)) : Prop := ∀ μ496 : mM, s = (μ496) → mT w μ496 → mF [106033, 106034, 106035, 106036, 106037, 106038, 131999, 140999, 141999] w μ356 μ496 → ∀ z504 : Int, μ496 106 37 = z504 → (0 ≤ z504 ∧ z504 ≤ 4) → ∀ z507 : Int, μ496 106 35 = z507 → (0 ≤ z507 ∧ z507 ≤ 3) → ∀ z510 : Int, μ496 106 36 = z510 → ((-2147483648) ≤ z510 ∧ z510 ≤ 2147483647) → WP_X12_isSign_W w μ496 (44) (fun z517 _ => (0 ≤ z517 ∧ z517 ≤ 1) → ((z517 = 0) → WP_X12_sign_Wx w μ496 (59) (fun μ558 => mT w μ558 → mF [106033, 106034, 106035, 106036, 106037, 106038] w μ496 μ558 → ∀ z562 : Int, μ558 130 (z37.toNat) = z562 → (0 ≤ z562 ∧ z562 ≤ 300) → ∀ μ565 : mM, mU μ558 128 ((((31 * z37) + z40) + 1).toNat) z562 μ565 → mT w μ565 → ∀ z568 : Int, μ565 131 (z37.toNat) = z568 → (0 ≤ z568 ∧ z568 ≤ 300) → ∀ μ571 : mM, mU μ565 129 ((((31 * z37) + z40) + 1).toNat) z568 μ571 → mT w μ571 → Q μ571)) ∧ ((¬ z517 = 0) → ∀ z579 : Int, μ496 106 33 = z579 → (0 ≤ z579 ∧ z579 ≤ 1000) → ∀ z582 : Int, μ496 106 1 = z582 → (0 ≤ z582 ∧ z582 ≤ 1000) → ∀ μ585 : mM, mF [106033, 106034, 106035, 106036, 106037, 106038] w μ496 μ585 → mT w μ585 → ∀ z589 : Int, μ585 106 37 = z589 → ∀ z591 : Int, μ585 106 33 = z591 → ∀ z593 : Int, μ585 106 34 = z593 → ∀ z595 : Int, μ585 106 35 = z595 → ∀ z597 : Int, μ585 106 36 = z597 → nxR μ496 μ585 → WP_X12_actRead_Wx w μ585  (fun μ605 => mT w μ605 → mF [106033, 106034, 106035, 106036, 106037, 106038, 131999, 140999, 141999] w μ585 μ605 → rec5 (μ605))))
def WJ_X12_rowRead_Wx_4 (w : mW) (Q : mM → Prop) (z37 : Int) (z40 : Int) (μ74 : mM) (μ350 : mM) : Prop := mT w μ350 → mF [106033, 106034, 106035, 106036, 106037, 106038, 106059, 130999, 132999, 133999, 134999, 135999, 136999, 137999, 138999, 139999, 142999, 143999, 144999, 145999, 146999, 147999, 148999, 149999, 150999] w μ74 μ350 → WP_X12_actRead_Wx w μ350  (fun μ356 => mT w μ356 → mF [106033, 106034, 106035, 106036, 106037, 106038, 131999, 140999, 141999] w μ350 μ356 → loopF (WL_X12_rowRead_Wx_5 w Q z37 z40 μ356) False 1010 (μ356))
def WL_X12_rowRead_Wx_6 (w : mW) (Q : mM → Prop) (z37 : Int) (z40 : Int) (μ74 : mM) (μ643 : mM) (rec6 : (mM) → Prop) (s : (mM)) : Prop := ∀ μ876 : mM, s = (μ876) → mT w μ876 → mF [106033, 106034, 106035, 106036, 106037, 106038, 106059, 130999, 132999, 133999, 134999, 135999, 136999, 137999, 138999, 139999, 142999, 143999, 144999, 145999, 146999, 147999, 148999, 149999, 150999] w μ643 μ876 → ∀ z884 : Int, μ876 106 37 = z884 → (0 ≤ z884 ∧ z884 ≤ 4) → ∀ z887 : Int, μ876 106 35 = z887 → (0 ≤ z887 ∧ z887 ≤ 3) → ∀ z890 : Int, μ876 106 36 = z890 → ((-2147483648) ≤ z890 ∧ z890 ≤ 2147483647) → WP_X12_isWord_W w μ876 (1) (fun z897 _ => (0 ≤ z897 ∧ z897 ≤ 1) → ((z897 = 0) → WP_X12_isWord_W w μ876 (2) (fun z939 _ => (0 ≤ z939 ∧ z939 ≤ 1) → ((¬ z939 = 0) → ∀ z957 : Int, μ876 106 33 = z957 → (0 ≤ z957 ∧ z957 ≤ 1000) → ∀ μ960 : mM, mF [106033, 106034, 106035, 106036, 106037, 106038] w μ876 μ960 → mT w μ960 → ∀ z964 : Int, μ960 106 37 = z964 → ∀ z966 : Int, μ960 106 33 = z966 → ∀ z968 : Int, μ960 106 34 = z968 → ∀ z970 : Int, μ960 106 35 = z970 → ∀ z972 : Int, μ960 106 36 = z972 → nxR μ876 μ960 → (WJ_X12_rowRead_Wx_4 w Q z37 z40 μ74) μ960) ∧ ((z939 = 0) → WP_X12_wrong_Wx w μ876 (2) (fun μ982 => mT w μ982 → mF [106037, 106038] w μ876 μ982 → ∀ z986 : Int, μ982 106 37 = z986 → (0 ≤ z986 ∧ z986 ≤ 4) → ∀ z989 : Int, μ982 106 33 = z989 → (0 ≤ z989 ∧ z989 ≤ 1000) → ∀ μ992 : mM, mF [106033, 106034, 106035, 106036, 106037, 106038] w μ982 μ992 → mT w μ992 → ∀ z996 : Int, μ992 106 37 = z996 → ∀ z998 : Int, μ992 106 33 = z998 → ∀ z1000 : Int, μ992 106 34 = z1000 → ∀ z1002 : Int, μ992 106 35 = z1002 → ∀ z1004 : Int, μ992 106 36 = z1004 → nxR μ982 μ992 → (WJ_X12_rowRead_Wx_4 w Q z37 z40 μ74) μ992)))) ∧ ((¬ z897 = 0) → ∀ z1017 : Int, μ876 106 33 = z1017 → (0 ≤ z1017 ∧ z1017 ≤ 1000) → ∀ μ1020 : mM, mF [106033, 106034, 106035, 106036, 106037, 106038] w μ876 μ1020 → mT w μ1020 → ∀ z1024 : Int, μ1020 106 37 = z1024 → ∀ z1026 : Int, μ1020 106 33 = z1026 → ∀ z1028 : Int, μ1020 106 34 = z1028 → ∀ z1030 : Int, μ1020 106 35 = z1030 → ∀ z1032 : Int, μ1020 106 36 = z1032 → nxR μ876 μ1020 → WP_X12_test_Wx w μ1020  (fun μ1040 => mT w μ1040 → mF [106033, 106034, 106035, 106036, 106037, 106038, 106059, 130999, 132999, 133999, 134999, 135999, 136999, 137999, 138999, 139999, 142999, 143999, 144999, 145999, 146999, 147999, 148999, 149999, 150999] w μ1020 μ1040 → rec6 (μ1040))))
def WJ_X12_rowRead_Wx_3 (w : mW) (Q : mM → Prop) (μ31 : mM) (z37 : Int) (z40 : Int) (μ49 : mM) : Prop := mT w μ49 → mF [106037, 106038] w μ31 μ49 → ∀ z55 : Int, μ49 106 37 = z55 → (0 ≤ z55 ∧ z55 ≤ 4) → ((z55 = 0) → (z40 ≤ (29 : Int)) ∧ ∀ _ : True, ∀ μ62 : mM, mU μ49 127 (z37.toNat) (z40 + 1) μ62 → mT w μ62 → ∀ z65 : Int, μ62 130 (z37.toNat) = z65 → (0 ≤ z65 ∧ z65 ≤ 300) → ∀ μ68 : mM, mU μ62 128 (((31 * z37) + z40).toNat) z65 μ68 → mT w μ68 → ∀ z71 : Int, μ68 131 (z37.toNat) = z71 → (0 ≤ z71 ∧ z71 ≤ 300) → ∀ μ74 : mM, mU μ68 129 (((31 * z37) + z40).toNat) z71 μ74 → mT w μ74 → ∀ z77 : Int, μ74 106 36 = z77 → ((-2147483648) ≤ z77 ∧ z77 ≤ 2147483647) → WP_X12_isWord_W w μ74 (0) (fun z84 _ => (0 ≤ z84 ∧ z84 ≤ 1) → ((z84 = 0) → (WJ_X12_rowRead_Wx_4 w Q z37 z40 μ74) μ74) ∧ ((¬ z84 = 0) → ∀ z617 : Int, μ74 106 33 = z617 → (0 ≤ z617 ∧ z617 ≤ 1000) → ∀ z620 : Int, μ74 106 1 = z620 → (0 ≤ z620 ∧ z620 ≤ 1000) → ∀ μ623 : mM, mF [106033, 106034, 106035, 106036, 106037, 106038] w μ74 μ623 → mT w μ623 → ∀ z627 : Int, μ623 106 37 = z627 → ∀ z629 : Int, μ623 106 33 = z629 → ∀ z631 : Int, μ623 106 34 = z631 → ∀ z633 : Int, μ623 106 35 = z633 → ∀ z635 : Int, μ623 106 36 = z635 → nxR μ74 μ623 → WP_X12_test_Wx w μ623  (fun μ643 => mT w μ643 → mF [106033, 106034, 106035, 106036, 106037, 106038, 106059, 130999, 132999, 133999, 134999, 135999, 136999, 137999, 138999, 139999, 142999, 143999, 144999, 145999, 146999, 147999, 148999, 149999, 150999] w μ623 μ643 → loopF (WL_X12_rowRead_Wx_6 w Q z37 z40 μ74 μ643) False 1010 (μ643))))) ∧ ((¬ z55 = 0) → Q μ49)
def WJ_X12_rowRead_Wx_2 (w : mW) (μ : mM) (Q : mM → Prop) (μ31 : mM) : Prop := mT w μ31 → mF [106037, 106038] w μ μ31 → ∀ z37 : Int, μ31 106 58 = z37 → (0 ≤ z37 ∧ z37 ≤ 12) → ∀ z40 : Int, μ31 127 (z37.toNat) = z40 → (0 ≤ z40 ∧ z40 ≤ 30) → ((¬ z40 = 30) → (WJ_X12_rowRead_Wx_3 w Q μ31 z37 z40) μ31) ∧ ((z40 = 30) → WP_X12_wrong_Wx w μ31 (4) (fun μ1049 => mT w μ1049 → mF [106037, 106038] w μ31 μ1049 → (WJ_X12_rowRead_Wx_3 w Q μ31 z37 z40) μ1049))
def WJ_X12_rowRead_Wx_1 (w : mW) (μ : mM) (Q : mM → Prop) (z21 : Int) : Prop := (0 ≤ z21 ∧ z21 ≤ 1) → ((¬ z21 = 0) → (WJ_X12_rowRead_Wx_2 w μ Q) μ) ∧ ((z21 = 0) → WP_X12_wrong_Wx w μ (2) (fun μ1056 => mT w μ1056 → mF [106037, 106038] w μ μ1056 → (WJ_X12_rowRead_Wx_2 w μ Q) μ1056))
def WP_X12_rowRead_Wx (w : mW) (μ : mM) (Q : mM → Prop) : Prop := ∀ z1 : Int, μ 106 35 = z1 → (0 ≤ z1 ∧ z1 ≤ 3) → ((¬ z1 = 1) → (WJ_X12_rowRead_Wx_1 w μ Q) (0 : Int)) ∧ ((z1 = 1) → ∀ z1062 : Int, μ 106 36 = z1062 → ((-2147483648) ≤ z1062 ∧ z1062 ≤ 2147483647) → ((z1062 = 0) → (WJ_X12_rowRead_Wx_1 w μ Q) (1 : Int)) ∧ ((¬ z1062 = 0) → WP_X12_in_W w μ z1062 (23) (28) (fun z1071 _ => (0 ≤ z1071 ∧ z1071 ≤ 1) → ((¬ z1071 = 0) → (WJ_X12_rowRead_Wx_1 w μ Q) (1 : Int)) ∧ ((z1071 = 0) → ((z1062 = 12) → (WJ_X12_rowRead_Wx_1 w μ Q) (1 : Int)) ∧ ((¬ z1062 = 12) → ((¬ z1062 = 13) → (WJ_X12_rowRead_Wx_1 w μ Q) (0 : Int)) ∧ ((z1062 = 13) → (WJ_X12_rowRead_Wx_1 w μ Q) (1 : Int)))))))
theorem vc_X12_rowRead_Wx_3 {z504 z507 z510 z517 : Int} (h0 : z517 = 0) (h1 : (z517 = 1 → z504 = 0 ∧ z507 = 3 ∧ z510 = (44 : Int))) (h2 : (z517 = 0 → ¬ z504 = 0 ∨ ¬ z507 = 3 ∨ ¬ z510 = (44 : Int))) (h3 : 0 ≤ z504 ∧ z504 ≤ 4) (h4 : 0 ≤ z507 ∧ z507 ≤ 3) (h5 : (-2147483648) ≤ z510 ∧ z510 ≤ 2147483647) (h6 : 0 ≤ z517 ∧ z517 ≤ 1) : 0 ≤ z517 ∧ z517 ≤ 0 := by omega
theorem vc_X12_rowRead_Wx_4 {z504 z507 z510 z517 : Int} (h0 : (z517 = 1 → z504 = 0 ∧ z507 = 3 ∧ z510 = (44 : Int))) (h1 : (z517 = 0 → ¬ z504 = 0 ∨ ¬ z507 = 3 ∨ ¬ z510 = (44 : Int))) (h2 : z517 = 0) (h3 : 0 ≤ z504 ∧ z504 ≤ 4) (h4 : 0 ≤ z507 ∧ z507 ≤ 3) (h5 : (-2147483648) ≤ z510 ∧ z510 ≤ 2147483647) (h6 : 0 ≤ z517 ∧ z517 ≤ 0) : z517 = 0 := by omega
theorem vc_X12_rowRead_Wx_5 {z504 z507 z510 z517 : Int} (h0 : ¬ z517 = 0) (h1 : (z517 = 1 → z504 = 0 ∧ z507 = 3 ∧ z510 = (44 : Int))) (h2 : (z517 = 0 → ¬ z504 = 0 ∨ ¬ z507 = 3 ∨ ¬ z510 = (44 : Int))) (h3 : 0 ≤ z504 ∧ z504 ≤ 4) (h4 : 0 ≤ z507 ∧ z507 ≤ 3) (h5 : (-2147483648) ≤ z510 ∧ z510 ≤ 2147483647) (h6 : 0 ≤ z517 ∧ z517 ≤ 1) : 1 ≤ z517 ∧ z517 ≤ 1 := by omega
theorem vc_X12_rowRead_Wx_6 {z504 z507 z510 z517 : Int} (h0 : (z517 = 1 → z504 = 0 ∧ z507 = 3 ∧ z510 = (44 : Int))) (h1 : (z517 = 0 → ¬ z504 = 0 ∨ ¬ z507 = 3 ∨ ¬ z510 = (44 : Int))) (h2 : ¬ z517 = 0) (h3 : 0 ≤ z504 ∧ z504 ≤ 4) (h4 : 0 ≤ z507 ∧ z507 ≤ 3) (h5 : (-2147483648) ≤ z510 ∧ z510 ≤ 2147483647) (h6 : 1 ≤ z517 ∧ z517 ≤ 1) : z517 = 1 := by omega
theorem vc_X12_rowRead_Wx_7 {z504 z507 z510 z517 : Int} (h0 : z504 = 0 ∧ z507 = 3 ∧ z510 = (44 : Int)) (h1 : (z517 = 1 → z504 = 0 ∧ z507 = 3 ∧ z510 = (44 : Int))) (h2 : (z517 = 0 → ¬ z504 = 0 ∨ ¬ z507 = 3 ∨ ¬ z510 = (44 : Int))) (h3 : 0 ≤ z504 ∧ z504 ≤ 4) (h4 : 0 ≤ z507 ∧ z507 ≤ 3) (h5 : (-2147483648) ≤ z510 ∧ z510 ≤ 2147483647) (h6 : 1 ≤ z517 ∧ z517 ≤ 1) : 0 ≤ z504 ∧ z504 ≤ 0 := by omega
theorem vc_X12_rowRead_Wx_8 {z504 z507 z510 z517 : Int} (h0 : z504 = 0 ∧ z507 = 3 ∧ z510 = (44 : Int)) (h1 : (z517 = 1 → z504 = 0 ∧ z507 = 3 ∧ z510 = (44 : Int))) (h2 : (z517 = 0 → ¬ z504 = 0 ∨ ¬ z507 = 3 ∨ ¬ z510 = (44 : Int))) (h3 : 0 ≤ z504 ∧ z504 ≤ 0) (h4 : 0 ≤ z507 ∧ z507 ≤ 3) (h5 : (-2147483648) ≤ z510 ∧ z510 ≤ 2147483647) (h6 : 1 ≤ z517 ∧ z517 ≤ 1) : 3 ≤ z507 ∧ z507 ≤ 3 := by omega
theorem vc_X12_rowRead_Wx_9 {z504 z507 z510 z517 : Int} (h0 : z504 = 0 ∧ z507 = 3 ∧ z510 = (44 : Int)) (h1 : (z517 = 1 → z504 = 0 ∧ z507 = 3 ∧ z510 = (44 : Int))) (h2 : (z517 = 0 → ¬ z504 = 0 ∨ ¬ z507 = 3 ∨ ¬ z510 = (44 : Int))) (h3 : 0 ≤ z504 ∧ z504 ≤ 0) (h4 : 3 ≤ z507 ∧ z507 ≤ 3) (h5 : (-2147483648) ≤ z510 ∧ z510 ≤ 2147483647) (h6 : 1 ≤ z517 ∧ z517 ≤ 1) : 44 ≤ z510 ∧ z510 ≤ 44 := by omega
theorem vc_X12_rowRead_Wx_10 {z1 z55 z77 z84 : Int} (h0 : z84 = 0) (h1 : (z84 = 1 → z55 = 0 ∧ z1 = 1 ∧ z77 = (0 : Int))) (h2 : (z84 = 0 → ¬ z55 = 0 ∨ ¬ z1 = 1 ∨ ¬ z77 = (0 : Int))) (h3 : 0 ≤ z1 ∧ z1 ≤ 3) (h4 : 0 ≤ z55 ∧ z55 ≤ 0) (h5 : (-2147483648) ≤ z77 ∧ z77 ≤ 2147483647) (h6 : 0 ≤ z84 ∧ z84 ≤ 1) : 0 ≤ z84 ∧ z84 ≤ 0 := by omega
theorem vc_X12_rowRead_Wx_11 {z1 z55 z77 z84 : Int} (h0 : (z84 = 1 → z55 = 0 ∧ z1 = 1 ∧ z77 = (0 : Int))) (h1 : (z84 = 0 → ¬ z55 = 0 ∨ ¬ z1 = 1 ∨ ¬ z77 = (0 : Int))) (h2 : z84 = 0) (h3 : z55 = 0) (h4 : 0 ≤ z1 ∧ z1 ≤ 3) (h5 : 0 ≤ z55 ∧ z55 ≤ 0) (h6 : (-2147483648) ≤ z77 ∧ z77 ≤ 2147483647) (h7 : 0 ≤ z84 ∧ z84 ≤ 0) : z84 = 0 := by omega
theorem vc_X12_rowRead_Wx_12 {z1 z55 z77 z84 : Int} (h0 : ¬ z84 = 0) (h1 : (z84 = 1 → z55 = 0 ∧ z1 = 1 ∧ z77 = (0 : Int))) (h2 : (z84 = 0 → ¬ z55 = 0 ∨ ¬ z1 = 1 ∨ ¬ z77 = (0 : Int))) (h3 : 0 ≤ z1 ∧ z1 ≤ 3) (h4 : 0 ≤ z55 ∧ z55 ≤ 0) (h5 : (-2147483648) ≤ z77 ∧ z77 ≤ 2147483647) (h6 : 0 ≤ z84 ∧ z84 ≤ 1) : 1 ≤ z84 ∧ z84 ≤ 1 := by omega
theorem vc_X12_rowRead_Wx_13 {z1 z55 z77 z84 : Int} (h0 : (z84 = 1 → z55 = 0 ∧ z1 = 1 ∧ z77 = (0 : Int))) (h1 : (z84 = 0 → ¬ z55 = 0 ∨ ¬ z1 = 1 ∨ ¬ z77 = (0 : Int))) (h2 : ¬ z84 = 0) (h3 : z55 = 0) (h4 : 0 ≤ z1 ∧ z1 ≤ 3) (h5 : 0 ≤ z55 ∧ z55 ≤ 0) (h6 : (-2147483648) ≤ z77 ∧ z77 ≤ 2147483647) (h7 : 1 ≤ z84 ∧ z84 ≤ 1) : z84 = 1 := by omega
theorem vc_X12_rowRead_Wx_14 {z1 z55 z77 z84 : Int} (h0 : z55 = 0 ∧ z1 = 1 ∧ z77 = (0 : Int)) (h1 : z55 = 0) (h2 : (z84 = 1 → z55 = 0 ∧ z1 = 1 ∧ z77 = (0 : Int))) (h3 : (z84 = 0 → ¬ z55 = 0 ∨ ¬ z1 = 1 ∨ ¬ z77 = (0 : Int))) (h4 : 0 ≤ z1 ∧ z1 ≤ 3) (h5 : 0 ≤ z55 ∧ z55 ≤ 0) (h6 : (-2147483648) ≤ z77 ∧ z77 ≤ 2147483647) (h7 : 1 ≤ z84 ∧ z84 ≤ 1) : 0 ≤ z77 ∧ z77 ≤ 0 := by omega
theorem vc_X12_rowRead_Wx_15 {z1 z55 z77 z84 : Int} (h0 : z55 = 0 ∧ z1 = 1 ∧ z77 = (0 : Int)) (h1 : z55 = 0) (h2 : (z84 = 1 → z55 = 0 ∧ z1 = 1 ∧ z77 = (0 : Int))) (h3 : (z84 = 0 → ¬ z55 = 0 ∨ ¬ z1 = 1 ∨ ¬ z77 = (0 : Int))) (h4 : 0 ≤ z1 ∧ z1 ≤ 3) (h5 : 0 ≤ z55 ∧ z55 ≤ 0) (h6 : 0 ≤ z77 ∧ z77 ≤ 0) (h7 : 1 ≤ z84 ∧ z84 ≤ 1) : 1 ≤ z1 ∧ z1 ≤ 1 := by omega
theorem vc_X12_rowRead_Wx_16 {z884 z887 z890 z897 : Int} (h0 : z897 = 0) (h1 : (z897 = 1 → z884 = 0 ∧ z887 = 1 ∧ z890 = (1 : Int))) (h2 : (z897 = 0 → ¬ z884 = 0 ∨ ¬ z887 = 1 ∨ ¬ z890 = (1 : Int))) (h3 : 0 ≤ z884 ∧ z884 ≤ 4) (h4 : 0 ≤ z887 ∧ z887 ≤ 3) (h5 : (-2147483648) ≤ z890 ∧ z890 ≤ 2147483647) (h6 : 0 ≤ z897 ∧ z897 ≤ 1) : 0 ≤ z897 ∧ z897 ≤ 0 := by omega
theorem vc_X12_rowRead_Wx_17 {z884 z887 z890 z897 : Int} (h0 : (z897 = 1 → z884 = 0 ∧ z887 = 1 ∧ z890 = (1 : Int))) (h1 : (z897 = 0 → ¬ z884 = 0 ∨ ¬ z887 = 1 ∨ ¬ z890 = (1 : Int))) (h2 : z897 = 0) (h3 : 0 ≤ z884 ∧ z884 ≤ 4) (h4 : 0 ≤ z887 ∧ z887 ≤ 3) (h5 : (-2147483648) ≤ z890 ∧ z890 ≤ 2147483647) (h6 : 0 ≤ z897 ∧ z897 ≤ 0) : z897 = 0 := by omega
theorem vc_X12_rowRead_Wx_18 {z884 z887 z890 z939 : Int} (h0 : ¬ z939 = 0) (h1 : (z939 = 1 → z884 = 0 ∧ z887 = 1 ∧ z890 = (2 : Int))) (h2 : (z939 = 0 → ¬ z884 = 0 ∨ ¬ z887 = 1 ∨ ¬ z890 = (2 : Int))) (h3 : 0 ≤ z884 ∧ z884 ≤ 4) (h4 : 0 ≤ z887 ∧ z887 ≤ 3) (h5 : (-2147483648) ≤ z890 ∧ z890 ≤ 2147483647) (h6 : 0 ≤ z939 ∧ z939 ≤ 1) : 1 ≤ z939 ∧ z939 ≤ 1 := by omega
theorem vc_X12_rowRead_Wx_19 {z884 z887 z890 z897 z939 : Int} (h0 : (z939 = 1 → z884 = 0 ∧ z887 = 1 ∧ z890 = (2 : Int))) (h1 : (z939 = 0 → ¬ z884 = 0 ∨ ¬ z887 = 1 ∨ ¬ z890 = (2 : Int))) (h2 : ¬ z939 = 0) (h3 : (z897 = 1 → z884 = 0 ∧ z887 = 1 ∧ z890 = (1 : Int))) (h4 : (z897 = 0 → ¬ z884 = 0 ∨ ¬ z887 = 1 ∨ ¬ z890 = (1 : Int))) (h5 : ¬ z884 = 0 ∨ ¬ z887 = 1 ∨ ¬ z890 = (1 : Int)) (h6 : 0 ≤ z884 ∧ z884 ≤ 4) (h7 : 0 ≤ z887 ∧ z887 ≤ 3) (h8 : (-2147483648) ≤ z890 ∧ z890 ≤ 2147483647) (h9 : 0 ≤ z897 ∧ z897 ≤ 0) (h10 : 1 ≤ z939 ∧ z939 ≤ 1) : z939 = 1 := by omega
theorem vc_X12_rowRead_Wx_20 {z884 z887 z890 z897 z939 : Int} (h0 : z884 = 0 ∧ z887 = 1 ∧ z890 = (2 : Int)) (h1 : (z897 = 1 → z884 = 0 ∧ z887 = 1 ∧ z890 = (1 : Int))) (h2 : (z897 = 0 → ¬ z884 = 0 ∨ ¬ z887 = 1 ∨ ¬ z890 = (1 : Int))) (h3 : ¬ z884 = 0 ∨ ¬ z887 = 1 ∨ ¬ z890 = (1 : Int)) (h4 : (z939 = 1 → z884 = 0 ∧ z887 = 1 ∧ z890 = (2 : Int))) (h5 : (z939 = 0 → ¬ z884 = 0 ∨ ¬ z887 = 1 ∨ ¬ z890 = (2 : Int))) (h6 : 0 ≤ z884 ∧ z884 ≤ 4) (h7 : 0 ≤ z887 ∧ z887 ≤ 3) (h8 : (-2147483648) ≤ z890 ∧ z890 ≤ 2147483647) (h9 : 0 ≤ z897 ∧ z897 ≤ 0) (h10 : 1 ≤ z939 ∧ z939 ≤ 1) : 2 ≤ z890 ∧ z890 ≤ 2 := by omega
theorem vc_X12_rowRead_Wx_21 {z884 z887 z890 z897 z939 : Int} (h0 : z884 = 0 ∧ z887 = 1 ∧ z890 = (2 : Int)) (h1 : (z897 = 1 → z884 = 0 ∧ z887 = 1 ∧ z890 = (1 : Int))) (h2 : (z897 = 0 → ¬ z884 = 0 ∨ ¬ z887 = 1 ∨ ¬ z890 = (1 : Int))) (h3 : ¬ z884 = 0 ∨ ¬ z887 = 1 ∨ ¬ z890 = (1 : Int)) (h4 : (z939 = 1 → z884 = 0 ∧ z887 = 1 ∧ z890 = (2 : Int))) (h5 : (z939 = 0 → ¬ z884 = 0 ∨ ¬ z887 = 1 ∨ ¬ z890 = (2 : Int))) (h6 : 0 ≤ z884 ∧ z884 ≤ 4) (h7 : 0 ≤ z887 ∧ z887 ≤ 3) (h8 : 2 ≤ z890 ∧ z890 ≤ 2) (h9 : 0 ≤ z897 ∧ z897 ≤ 0) (h10 : 1 ≤ z939 ∧ z939 ≤ 1) : 1 ≤ z887 ∧ z887 ≤ 1 := by omega
theorem vc_X12_rowRead_Wx_22 {z884 z887 z890 z897 z939 : Int} (h0 : z884 = 0 ∧ z887 = 1 ∧ z890 = (2 : Int)) (h1 : (z897 = 1 → z884 = 0 ∧ z887 = 1 ∧ z890 = (1 : Int))) (h2 : (z897 = 0 → ¬ z884 = 0 ∨ ¬ z887 = 1 ∨ ¬ z890 = (1 : Int))) (h3 : ¬ z884 = 0 ∨ ¬ z887 = 1 ∨ ¬ z890 = (1 : Int)) (h4 : (z939 = 1 → z884 = 0 ∧ z887 = 1 ∧ z890 = (2 : Int))) (h5 : (z939 = 0 → ¬ z884 = 0 ∨ ¬ z887 = 1 ∨ ¬ z890 = (2 : Int))) (h6 : 0 ≤ z884 ∧ z884 ≤ 4) (h7 : 1 ≤ z887 ∧ z887 ≤ 1) (h8 : 2 ≤ z890 ∧ z890 ≤ 2) (h9 : 0 ≤ z897 ∧ z897 ≤ 0) (h10 : 1 ≤ z939 ∧ z939 ≤ 1) : 0 ≤ z884 ∧ z884 ≤ 0 := by omega
theorem vc_X12_rowRead_Wx_23 {z884 z887 z890 z939 : Int} (h0 : z939 = 0) (h1 : (z939 = 1 → z884 = 0 ∧ z887 = 1 ∧ z890 = (2 : Int))) (h2 : (z939 = 0 → ¬ z884 = 0 ∨ ¬ z887 = 1 ∨ ¬ z890 = (2 : Int))) (h3 : 0 ≤ z884 ∧ z884 ≤ 4) (h4 : 0 ≤ z887 ∧ z887 ≤ 3) (h5 : (-2147483648) ≤ z890 ∧ z890 ≤ 2147483647) (h6 : 0 ≤ z939 ∧ z939 ≤ 1) : 0 ≤ z939 ∧ z939 ≤ 0 := by omega
theorem vc_X12_rowRead_Wx_24 {z884 z887 z890 z897 z939 : Int} (h0 : (z939 = 1 → z884 = 0 ∧ z887 = 1 ∧ z890 = (2 : Int))) (h1 : (z939 = 0 → ¬ z884 = 0 ∨ ¬ z887 = 1 ∨ ¬ z890 = (2 : Int))) (h2 : z939 = 0) (h3 : (z897 = 1 → z884 = 0 ∧ z887 = 1 ∧ z890 = (1 : Int))) (h4 : (z897 = 0 → ¬ z884 = 0 ∨ ¬ z887 = 1 ∨ ¬ z890 = (1 : Int))) (h5 : ¬ z884 = 0 ∨ ¬ z887 = 1 ∨ ¬ z890 = (1 : Int)) (h6 : 0 ≤ z884 ∧ z884 ≤ 4) (h7 : 0 ≤ z887 ∧ z887 ≤ 3) (h8 : (-2147483648) ≤ z890 ∧ z890 ≤ 2147483647) (h9 : 0 ≤ z897 ∧ z897 ≤ 0) (h10 : 0 ≤ z939 ∧ z939 ≤ 0) : z939 = 0 := by omega
theorem vc_X12_rowRead_Wx_25 {z884 z887 z890 z897 : Int} (h0 : ¬ z897 = 0) (h1 : (z897 = 1 → z884 = 0 ∧ z887 = 1 ∧ z890 = (1 : Int))) (h2 : (z897 = 0 → ¬ z884 = 0 ∨ ¬ z887 = 1 ∨ ¬ z890 = (1 : Int))) (h3 : 0 ≤ z884 ∧ z884 ≤ 4) (h4 : 0 ≤ z887 ∧ z887 ≤ 3) (h5 : (-2147483648) ≤ z890 ∧ z890 ≤ 2147483647) (h6 : 0 ≤ z897 ∧ z897 ≤ 1) : 1 ≤ z897 ∧ z897 ≤ 1 := by omega
theorem vc_X12_rowRead_Wx_26 {z884 z887 z890 z897 : Int} (h0 : (z897 = 1 → z884 = 0 ∧ z887 = 1 ∧ z890 = (1 : Int))) (h1 : (z897 = 0 → ¬ z884 = 0 ∨ ¬ z887 = 1 ∨ ¬ z890 = (1 : Int))) (h2 : ¬ z897 = 0) (h3 : 0 ≤ z884 ∧ z884 ≤ 4) (h4 : 0 ≤ z887 ∧ z887 ≤ 3) (h5 : (-2147483648) ≤ z890 ∧ z890 ≤ 2147483647) (h6 : 1 ≤ z897 ∧ z897 ≤ 1) : z897 = 1 := by omega
theorem vc_X12_rowRead_Wx_27 {z884 z887 z890 z897 : Int} (h0 : z884 = 0 ∧ z887 = 1 ∧ z890 = (1 : Int)) (h1 : (z897 = 1 → z884 = 0 ∧ z887 = 1 ∧ z890 = (1 : Int))) (h2 : (z897 = 0 → ¬ z884 = 0 ∨ ¬ z887 = 1 ∨ ¬ z890 = (1 : Int))) (h3 : 0 ≤ z884 ∧ z884 ≤ 4) (h4 : 0 ≤ z887 ∧ z887 ≤ 3) (h5 : (-2147483648) ≤ z890 ∧ z890 ≤ 2147483647) (h6 : 1 ≤ z897 ∧ z897 ≤ 1) : 1 ≤ z890 ∧ z890 ≤ 1 := by omega
theorem vc_X12_rowRead_Wx_28 {z884 z887 z890 z897 : Int} (h0 : z884 = 0 ∧ z887 = 1 ∧ z890 = (1 : Int)) (h1 : (z897 = 1 → z884 = 0 ∧ z887 = 1 ∧ z890 = (1 : Int))) (h2 : (z897 = 0 → ¬ z884 = 0 ∨ ¬ z887 = 1 ∨ ¬ z890 = (1 : Int))) (h3 : 0 ≤ z884 ∧ z884 ≤ 4) (h4 : 0 ≤ z887 ∧ z887 ≤ 3) (h5 : 1 ≤ z890 ∧ z890 ≤ 1) (h6 : 1 ≤ z897 ∧ z897 ≤ 1) : 1 ≤ z887 ∧ z887 ≤ 1 := by omega
theorem vc_X12_rowRead_Wx_29 {z884 z887 z890 z897 : Int} (h0 : z884 = 0 ∧ z887 = 1 ∧ z890 = (1 : Int)) (h1 : (z897 = 1 → z884 = 0 ∧ z887 = 1 ∧ z890 = (1 : Int))) (h2 : (z897 = 0 → ¬ z884 = 0 ∨ ¬ z887 = 1 ∨ ¬ z890 = (1 : Int))) (h3 : 0 ≤ z884 ∧ z884 ≤ 4) (h4 : 1 ≤ z887 ∧ z887 ≤ 1) (h5 : 1 ≤ z890 ∧ z890 ≤ 1) (h6 : 1 ≤ z897 ∧ z897 ≤ 1) : 0 ≤ z884 ∧ z884 ≤ 0 := by omega
theorem vc_X12_rowRead_Wx_38 {z1062 z1071 : Int} (h0 : (z1071 = 1 → (23 : Int) ≤ z1062 ∧ z1062 ≤ (28 : Int))) (h1 : (z1071 = 0 → z1062 < (23 : Int) ∨ (28 : Int) < z1062)) (h2 : ¬ z1071 = 0) (h3 : ¬ z1062 = 0) (h4 : (-2147483648) ≤ z1062 ∧ z1062 ≤ 2147483647) (h5 : 1 ≤ z1071 ∧ z1071 ≤ 1) : z1071 = 1 := by omega
theorem vc_X12_rowRead_Wx_39 {z1062 z1071 : Int} (h0 : (23 : Int) ≤ z1062 ∧ z1062 ≤ (28 : Int)) (h1 : ¬ z1062 = 0) (h2 : (z1071 = 1 → (23 : Int) ≤ z1062 ∧ z1062 ≤ (28 : Int))) (h3 : (z1071 = 0 → z1062 < (23 : Int) ∨ (28 : Int) < z1062)) (h4 : (-2147483648) ≤ z1062 ∧ z1062 ≤ 2147483647) (h5 : 1 ≤ z1071 ∧ z1071 ≤ 1) : 23 ≤ z1062 ∧ z1062 ≤ 28 := by omega
theorem vc_X12_rowRead_Wx_41 {z1062 z1071 : Int} (h0 : (z1071 = 1 → (23 : Int) ≤ z1062 ∧ z1062 ≤ (28 : Int))) (h1 : (z1071 = 0 → z1062 < (23 : Int) ∨ (28 : Int) < z1062)) (h2 : z1071 = 0) (h3 : ¬ z1062 = 0) (h4 : (-2147483648) ≤ z1062 ∧ z1062 ≤ 2147483647) (h5 : 0 ≤ z1071 ∧ z1071 ≤ 0) : z1071 = 0 := by omega
theorem vc_X12_rowRead_Wx_42 {z1062 z1071 : Int} (h0 : z1062 = 12) (h1 : ¬ z1062 = 0) (h2 : (z1071 = 1 → (23 : Int) ≤ z1062 ∧ z1062 ≤ (28 : Int))) (h3 : (z1071 = 0 → z1062 < (23 : Int) ∨ (28 : Int) < z1062)) (h4 : z1062 < (23 : Int) ∨ (28 : Int) < z1062) (h5 : (-2147483648) ≤ z1062 ∧ z1062 ≤ 2147483647) (h6 : 0 ≤ z1071 ∧ z1071 ≤ 0) : 12 ≤ z1062 ∧ z1062 ≤ 12 := by omega
theorem vc_X12_rowRead_Wx_43 {z1062 z1071 : Int} (h0 : z1062 = 13) (h1 : ¬ z1062 = 0) (h2 : (z1071 = 1 → (23 : Int) ≤ z1062 ∧ z1062 ≤ (28 : Int))) (h3 : (z1071 = 0 → z1062 < (23 : Int) ∨ (28 : Int) < z1062)) (h4 : z1062 < (23 : Int) ∨ (28 : Int) < z1062) (h5 : ¬ z1062 = 12) (h6 : (-2147483648) ≤ z1062 ∧ z1062 ≤ 2147483647) (h7 : 0 ≤ z1071 ∧ z1071 ≤ 0) : 13 ≤ z1062 ∧ z1062 ≤ 13 := by omega
set_option maxRecDepth 4000 in
set_option maxHeartbeats 4000000 in
theorem c_X12_rowRead_Wx {l : Launch} {D : va_G} {c : Nat → ClassId} {H0 : Heap} {sa : Nat × Nat × (Nat → Int32)} {w : mW} {μ : mM} (hw : mWF w) (hT : mT w μ) {Q : mM → Prop} (hQ : WP_X12_rowRead_Wx w μ  Q) : sC (gG l D c H0 sa) mX12_rowRead 6 0 0 [.ref 106] (mk w μ) (qV w [106033, 106034, 106035, 106036, 106037, 106038, 106059, 127999, 128999, 129999, 130999, 131999, 132999, 133999, 134999, 135999, 136999, 137999, 138999, 139999, 140999, 141999, 142999, 143999, 144999, 145999, 146999, 147999, 148999, 149999, 150999] μ (fun μ1 => Q μ1 ∧ True)) := by
  refine sC.of rfl (by decide) (le_t rfl) ?_
  refine mr_lvE (lv' := [(0, .ref 106)]) rfl ?_
  refine sv_aload_n (pc := 0) dX12_rowRead_0 rfl rfl ?_
  refine gf_X12_35 (pc := 1) dX12_rowRead_1 wF_X12_230 (A_106 hw) hT fun z1 q2 h3 => ?_
  refine mr_iconst (pc := 4) (z := 1) dX12_rowRead_4 ?_
  have J23 : ∀ (z21 : Int), ((0 ≤ z21 ∧ z21 ≤ 1)) → ((WJ_X12_rowRead_Wx_1 w μ Q) z21) → sV (gG l D c H0 sa) mX12_rowRead (sRm 6 0 0) (sZ (gG l D c H0 sa) 0 0 (qV w [106033, 106034, 106035, 106036, 106037, 106038, 106059, 127999, 128999, 129999, 130999, 131999, 132999, 133999, 134999, 135999, 136999, 137999, 138999, 139999, 140999, 141999, 142999, 143999, 144999, 145999, 146999, 147999, 148999, 149999, 150999] μ (fun μ1 => Q μ1 ∧ True))) 52 [(0, .ref 106)] [iv z21] (mk w μ) 0 0 := by
    intro z21 h22 W24
    refine mr_istore_n (pc := 52) (lv' := [(1, iv z21), (0, .ref 106)]) dX12_rowRead_52 rfl (by decide) rfl ?_
    refine mr_iload_n (pc := 53) (z := z21) dX12_rowRead_53 rfl rfl ?_
    have J35 : ∀ (μ31 : mM), (mT w μ31) → (mF [106037, 106038] w μ μ31) → ((WJ_X12_rowRead_Wx_2 w μ Q) μ31) → sV (gG l D c H0 sa) mX12_rowRead (sRm 6 0 0) (sZ (gG l D c H0 sa) 0 0 (qV w [106033, 106034, 106035, 106036, 106037, 106038, 106059, 127999, 128999, 129999, 130999, 131999, 132999, 133999, 134999, 135999, 136999, 137999, 138999, 139999, 140999, 141999, 142999, 143999, 144999, 145999, 146999, 147999, 148999, 149999, 150999] μ (fun μ1 => Q μ1 ∧ True))) 62 [(0, .ref 106)] [] (mk w μ31) 0 0 := by
      intro μ31 T32 F33 W36
      refine sv_aload_n (pc := 62) dX12_rowRead_62 rfl rfl ?_
      refine gf_X12_40 (pc := 63) dX12_rowRead_63 wF_X12_358 (A_106 hw) T32 ?_
      refine sv_aload_n (pc := 66) dX12_rowRead_66 rfl rfl ?_
      refine gf_X12_58 (pc := 67) dX12_rowRead_67 wF_X12_278 (A_106 hw) T32 fun z37 q38 h39 => ?_
      refine la_127 (pc := 70) dX12_rowRead_70 (A_127 hw) T32 (rIx (n := 13) h39 rfl) fun z40 q41 h42 => ?_
      refine mr_bipush (pc := 71) (z := 30) dX12_rowRead_71 (by decide) ?_
      have J53 : ∀ (μ49 : mM), (mT w μ49) → (mF [106037, 106038] w μ31 μ49) → ((WJ_X12_rowRead_Wx_3 w Q μ31 z37 z40) μ49) → sV (gG l D c H0 sa) mX12_rowRead (sRm 6 0 0) (sZ (gG l D c H0 sa) 0 0 (qV w [106033, 106034, 106035, 106036, 106037, 106038, 106059, 127999, 128999, 129999, 130999, 131999, 132999, 133999, 134999, 135999, 136999, 137999, 138999, 139999, 140999, 141999, 142999, 143999, 144999, 145999, 146999, 147999, 148999, 149999, 150999] μ (fun μ1 => Q μ1 ∧ True))) 81 [(0, .ref 106)] [] (mk w μ49) 0 0 := by
        intro μ49 T50 F51 W54
        refine sv_aload_n (pc := 81) dX12_rowRead_81 rfl rfl ?_
        refine gf_X12_37 (pc := 82) dX12_rowRead_82 wF_X12_215 (A_106 hw) T50 fun z55 q56 h57 => ?_
        refine mr_if_eq (pc := 85) (tgt := 89) dX12_rowRead_85 (by decide) (r32 h57 rfl) (fun h58 => ?_) (fun h58 => ?_)
        · have h59 : 0 ≤ z55 ∧ z55 ≤ 0 := (vc_X12_wrong_v_5 h58 h57)
          refine mr_bipush (pc := 89) (z := 31) dX12_rowRead_89 (by decide) ?_
          refine sv_aload_n (pc := 91) dX12_rowRead_91 rfl rfl ?_
          refine gk_X12_58 (pc := 92) dX12_rowRead_92 wF_X12_278 (A_106 hw) (F51.f (A_106 hw) rfl q38) ?_
          refine mr_imul (pc := 95) (x := 31) (y := z37) dX12_rowRead_95 ?_
          refine sv_aload_n (pc := 96) dX12_rowRead_96 rfl rfl ?_
          refine gf_X12_40 (pc := 97) dX12_rowRead_97 wF_X12_358 (A_106 hw) T50 ?_
          refine sv_aload_n (pc := 100) dX12_rowRead_100 rfl rfl ?_
          refine gk_X12_58 (pc := 101) dX12_rowRead_101 wF_X12_278 (A_106 hw) (F51.f (A_106 hw) rfl q38) ?_
          refine lk_127 (pc := 104) dX12_rowRead_104 (A_127 hw) (rIx (n := 13) h39 rfl) (F51.f (A_127 hw) rfl q41) ?_
          have h60 : z40 ≤ (29 : Int) := (((W54 T50 F51) z55 q56 h57).1 h58).1
          have h61 : 0 ≤ z40 ∧ z40 ≤ 29 := (vc_X10_addRight_W_1 h60 h42)
          refine mr_iadd (pc := 105) (x := (31 * z37)) (y := z40) dX12_rowRead_105 ?_
          refine mr_istore_n (pc := 106) (lv' := [(2, iv ((31 * z37) + z40)), (0, .ref 106)]) dX12_rowRead_106 rfl (by decide) rfl ?_
          refine sv_aload_n (pc := 107) dX12_rowRead_107 rfl rfl ?_
          refine gf_X12_40 (pc := 108) dX12_rowRead_108 wF_X12_358 (A_106 hw) T50 ?_
          refine sv_aload_n (pc := 111) dX12_rowRead_111 rfl rfl ?_
          refine gk_X12_58 (pc := 112) dX12_rowRead_112 wF_X12_278 (A_106 hw) (F51.f (A_106 hw) rfl q38) ?_
          refine sv_dup2 (pc := 115) dX12_rowRead_115 rfl rfl ?_
          refine lk_127 (pc := 116) dX12_rowRead_116 (A_127 hw) (rIx (n := 13) h39 rfl) (F51.f (A_127 hw) rfl q41) ?_
          refine mr_iconst (pc := 117) (z := 1) dX12_rowRead_117 ?_
          refine mr_iadd (pc := 118) (x := z40) (y := 1) dX12_rowRead_118 ?_
          refine ss_127 (pc := 119) dX12_rowRead_119 (A_127 hw) T50 (rIx (n := 13) h39 rfl) (rW (c := 0) (d := 30) (rAdd (e := 1) (f := 30) h61 (rR (x := 1)) rfl) rfl) fun μ62 u63 T64 => ?_
          refine sv_aload_n (pc := 120) dX12_rowRead_120 rfl rfl ?_
          refine gf_X12_41 (pc := 121) dX12_rowRead_121 wF_X12_361 (A_106 hw) T64 ?_
          refine mr_iload_n (pc := 124) (z := ((31 * z37) + z40)) dX12_rowRead_124 rfl rfl ?_
          refine sv_aload_n (pc := 125) dX12_rowRead_125 rfl rfl ?_
          refine gf_X12_43 (pc := 126) dX12_rowRead_126 wF_X12_320 (A_106 hw) T64 ?_
          refine sv_aload_n (pc := 129) dX12_rowRead_129 rfl rfl ?_
          refine gk_X12_58 (pc := 130) dX12_rowRead_130 wF_X12_278 (A_106 hw) (u63.f (Or.inl (mAt.ne (A_127 hw) (A_106 hw) rfl)) (F51.f (A_106 hw) rfl q38)) ?_
          refine la_130 (pc := 133) dX12_rowRead_133 (A_130 hw) T64 (rIx (n := 13) h39 rfl) fun z65 q66 h67 => ?_
          refine ss_128 (pc := 134) dX12_rowRead_134 (A_128 hw) T64 (rIx (n := 403) (rAdd (e := 0) (f := 401) (rMulL (n := 31) (e := 0) (f := 372) h39 rfl) h61 rfl) rfl) h67 fun μ68 u69 T70 => ?_
          refine sv_aload_n (pc := 135) dX12_rowRead_135 rfl rfl ?_
          refine gf_X12_42 (pc := 136) dX12_rowRead_136 wF_X12_364 (A_106 hw) T70 ?_
          refine mr_iload_n (pc := 139) (z := ((31 * z37) + z40)) dX12_rowRead_139 rfl rfl ?_
          refine sv_aload_n (pc := 140) dX12_rowRead_140 rfl rfl ?_
          refine gf_X12_44 (pc := 141) dX12_rowRead_141 wF_X12_346 (A_106 hw) T70 ?_
          refine sv_aload_n (pc := 144) dX12_rowRead_144 rfl rfl ?_
          refine gk_X12_58 (pc := 145) dX12_rowRead_145 wF_X12_278 (A_106 hw) (u69.f (Or.inl (mAt.ne (A_128 hw) (A_106 hw) rfl)) (u63.f (Or.inl (mAt.ne (A_127 hw) (A_106 hw) rfl)) (F51.f (A_106 hw) rfl q38))) ?_
          refine la_131 (pc := 148) dX12_rowRead_148 (A_131 hw) T70 (rIx (n := 13) h39 rfl) fun z71 q72 h73 => ?_
          refine ss_129 (pc := 149) dX12_rowRead_149 (A_129 hw) T70 (rIx (n := 403) (rAdd (e := 0) (f := 401) (rMulL (n := 31) (e := 0) (f := 372) h39 rfl) h61 rfl) rfl) h73 fun μ74 u75 T76 => ?_
          refine sv_aload_n (pc := 150) dX12_rowRead_150 rfl rfl ?_
          refine mr_iconst (pc := 151) (z := 0) dX12_rowRead_151 ?_
          obtain ⟨z77, q78⟩ : ∃ z, μ74 106 36 = z := ⟨_, rfl⟩
          have h79 : ((-2147483648) ≤ z77 ∧ z77 ≤ 2147483647) := by rw [← q78]; exact T76 106 106 (A_106 hw) 36
          have W85 := ((((((((((W54 T50 F51) z55 q56 h57).1 h58).2 trivial) μ62 u63 T64) z65 q66 h67) μ68 u69 T70) z71 q72 h73) μ74 u75 T76) z77 q78 h79)
          refine mr_cVP (pc := 152) (c_X12_isWord_W hw T76 (rW (c := (-2147483648)) (d := 2147483647) (rR (x := 0)) rfl) (u75.f (Or.inl (mAt.ne (A_129 hw) (A_106 hw) rfl)) (u69.f (Or.inl (mAt.ne (A_128 hw) (A_106 hw) rfl)) (u63.f (Or.inl (mAt.ne (A_127 hw) (A_106 hw) rfl)) q56))) (u75.f (Or.inl (mAt.ne (A_129 hw) (A_106 hw) rfl)) (u69.f (Or.inl (mAt.ne (A_128 hw) (A_106 hw) rfl)) (u63.f (Or.inl (mAt.ne (A_127 hw) (A_106 hw) rfl)) (F51.f (A_106 hw) rfl (F33.f (A_106 hw) rfl q2))))) q78 W85) (gOk _ _ _ _ _) dX12_rowRead_152 (tX12_isWord _ _ _ _ _) ⟨wV_X12_isWord, wL_X12_isWord⟩ wM_X12_288 (gCX12 _ _ _ _ _) rfl (A_106 hw) rfl ⟨le_t rfl, le_t rfl⟩ ⟨le_t rfl, le_t rfl⟩ rfl (le_t rfl) fun z84 h83 => ?_
          have J354 : ∀ (μ350 : mM), (mT w μ350) → (mF [106033, 106034, 106035, 106036, 106037, 106038, 106059, 130999, 132999, 133999, 134999, 135999, 136999, 137999, 138999, 139999, 142999, 143999, 144999, 145999, 146999, 147999, 148999, 149999, 150999] w μ74 μ350) → ((WJ_X12_rowRead_Wx_4 w Q z37 z40 μ74) μ350) → sV (gG l D c H0 sa) mX12_rowRead (sRm 6 0 0) (sZ (gG l D c H0 sa) 0 0 (qV w [106033, 106034, 106035, 106036, 106037, 106038, 106059, 127999, 128999, 129999, 130999, 131999, 132999, 133999, 134999, 135999, 136999, 137999, 138999, 139999, 140999, 141999, 142999, 143999, 144999, 145999, 146999, 147999, 148999, 149999, 150999] μ (fun μ1 => Q μ1 ∧ True))) 202 [(0, .ref 106), (2, iv ((31 * z37) + z40))] [] (mk w μ350) 0 0 := by
            intro μ350 T351 F352 W355
            refine sv_aload_n (pc := 202) dX12_rowRead_202 rfl rfl ?_
            refine mr_cVV (pc := 203) (c_X12_actRead_Wx hw T351 (W355 T351 F352)) (gOk _ _ _ _ _) dX12_rowRead_203 (tX12_actRead _ _ _ _ _) ⟨wV_X12_actRead, wL_X12_actRead⟩ wM_X12_370 (gCX12 _ _ _ _ _) rfl (A_106 hw) rfl ⟨le_t rfl, le_t rfl⟩ ⟨le_t rfl, le_t rfl⟩ rfl (le_t rfl) fun μ356 T357 F358 h359 => ?_
            have L497 : ∀ (nL497 : Nat) (μ496 : mM), mT w μ496 → mF [106033, 106034, 106035, 106036, 106037, 106038, 131999, 140999, 141999] w μ356 μ496 → True → loopF (WL_X12_rowRead_Wx_5 w Q z37 z40 μ356) False nL497 (μ496) → sV (gG l D c H0 sa) mX12_rowRead (sRm 6 0 0) (sZ (gG l D c H0 sa) 0 0 (qV w [106033, 106034, 106035, 106036, 106037, 106038, 106059, 127999, 128999, 129999, 130999, 131999, 132999, 133999, 134999, 135999, 136999, 137999, 138999, 139999, 140999, 141999, 142999, 143999, 144999, 145999, 146999, 147999, 148999, 149999, 150999] μ (fun μ1 => Q μ1 ∧ True))) 206 [(0, .ref 106), (2, iv ((31 * z37) + z40))] [] (mk w μ496) 0 0 := by
              intro nL497
              induction nL497 with
              | zero => intro μ496 T498 F499 h501 W502; exact False.elim W502
              | succ nL497 ih503 =>
                intro μ496 T498 F499 h501 W502
                refine sv_aload_n (pc := 206) dX12_rowRead_206 rfl rfl ?_
                refine mr_bipush (pc := 207) (z := 44) dX12_rowRead_207 (by decide) ?_
                obtain ⟨z504, q505⟩ : ∃ z, μ496 106 37 = z := ⟨_, rfl⟩
                have h506 : (0 ≤ z504 ∧ z504 ≤ 4) := by rw [← q505]; exact T498 106 106 (A_106 hw) 37
                obtain ⟨z507, q508⟩ : ∃ z, μ496 106 35 = z := ⟨_, rfl⟩
                have h509 : (0 ≤ z507 ∧ z507 ≤ 3) := by rw [← q508]; exact T498 106 106 (A_106 hw) 35
                obtain ⟨z510, q511⟩ : ∃ z, μ496 106 36 = z := ⟨_, rfl⟩
                have h512 : ((-2147483648) ≤ z510 ∧ z510 ≤ 2147483647) := by rw [← q511]; exact T498 106 106 (A_106 hw) 36
                refine mr_cVP (pc := 209) (c_X12_isSign_W hw T498 (rW (c := (-2147483648)) (d := 2147483647) (rR (x := 44)) rfl) q505 q508 q511 ((((W502 μ496 rfl  T498 F499) z504 q505 h506) z507 q508 h509) z510 q511 h512)) (gOk _ _ _ _ _) dX12_rowRead_209 (tX12_isSign _ _ _ _ _) ⟨wV_X12_isSign, wL_X12_isSign⟩ wM_X12_244 (gCX12 _ _ _ _ _) rfl (A_106 hw) rfl ⟨le_t rfl, le_t rfl⟩ ⟨le_t rfl, le_t rfl⟩ rfl (le_t rfl) fun z517 h516 => ?_
                refine mr_if_eq (pc := 212) (tgt := 226) dX12_rowRead_212 (by decide) (r32 h516.1 rfl) (fun h555 => ?_) (fun h555 => ?_)
                · have h556 : 0 ≤ z517 ∧ z517 ≤ 0 := (vc_X12_rowRead_Wx_3 h555 h516.2.1 h516.2.2.1 h506 h509 h512 h516.1)
                  have h557 : ¬ z504 = 0 ∨ ¬ z507 = 3 ∨ ¬ z510 = (44 : Int) := (h516.2.2.1 (vc_X12_rowRead_Wx_4 h516.2.1 h516.2.2.1 h555 h506 h509 h512 h556))
                  refine sv_aload_n (pc := 226) dX12_rowRead_226 rfl rfl ?_
                  refine mr_bipush (pc := 227) (z := 59) dX12_rowRead_227 (by decide) ?_
                  refine mr_cVV (pc := 229) (c_X12_sign_Wx hw T498 (rW (c := (-2147483648)) (d := 2147483647) (rR (x := 59)) rfl) ((h516.2.2.2.1 h516.1).1 h555)) (gOk _ _ _ _ _) dX12_rowRead_229 (tX12_sign _ _ _ _ _) ⟨wV_X12_sign, wL_X12_sign⟩ wM_X12_317 (gCX12 _ _ _ _ _) rfl (A_106 hw) rfl ⟨le_t rfl, le_t rfl⟩ ⟨le_t rfl, le_t rfl⟩ rfl (le_t rfl) fun μ558 T559 F560 h561 => ?_
                  refine sv_aload_n (pc := 232) dX12_rowRead_232 rfl rfl ?_
                  refine gf_X12_41 (pc := 233) dX12_rowRead_233 wF_X12_361 (A_106 hw) T559 ?_
                  refine mr_iload_n (pc := 236) (z := ((31 * z37) + z40)) dX12_rowRead_236 rfl rfl ?_
                  refine mr_iconst (pc := 237) (z := 1) dX12_rowRead_237 ?_
                  refine mr_iadd (pc := 238) (x := ((31 * z37) + z40)) (y := 1) dX12_rowRead_238 ?_
                  refine sv_aload_n (pc := 239) dX12_rowRead_239 rfl rfl ?_
                  refine gf_X12_43 (pc := 240) dX12_rowRead_240 wF_X12_320 (A_106 hw) T559 ?_
                  refine sv_aload_n (pc := 243) dX12_rowRead_243 rfl rfl ?_
                  refine gk_X12_58 (pc := 244) dX12_rowRead_244 wF_X12_278 (A_106 hw) (F560.f (A_106 hw) rfl (F499.f (A_106 hw) rfl (F358.f (A_106 hw) rfl (F352.f (A_106 hw) rfl (u75.f (Or.inl (mAt.ne (A_129 hw) (A_106 hw) rfl)) (u69.f (Or.inl (mAt.ne (A_128 hw) (A_106 hw) rfl)) (u63.f (Or.inl (mAt.ne (A_127 hw) (A_106 hw) rfl)) (F51.f (A_106 hw) rfl q38)))))))) ?_
                  refine la_130 (pc := 247) dX12_rowRead_247 (A_130 hw) T559 (rIx (n := 13) h39 rfl) fun z562 q563 h564 => ?_
                  refine ss_128 (pc := 248) dX12_rowRead_248 (A_128 hw) T559 (rIx (n := 403) (rAdd (e := 1) (f := 402) (rAdd (e := 0) (f := 401) (rMulL (n := 31) (e := 0) (f := 372) h39 rfl) h61 rfl) (rR (x := 1)) rfl) rfl) h564 fun μ565 u566 T567 => ?_
                  refine sv_aload_n (pc := 249) dX12_rowRead_249 rfl rfl ?_
                  refine gf_X12_42 (pc := 250) dX12_rowRead_250 wF_X12_364 (A_106 hw) T567 ?_
                  refine mr_iload_n (pc := 253) (z := ((31 * z37) + z40)) dX12_rowRead_253 rfl rfl ?_
                  refine mr_iconst (pc := 254) (z := 1) dX12_rowRead_254 ?_
                  refine mr_iadd (pc := 255) (x := ((31 * z37) + z40)) (y := 1) dX12_rowRead_255 ?_
                  refine sv_aload_n (pc := 256) dX12_rowRead_256 rfl rfl ?_
                  refine gf_X12_44 (pc := 257) dX12_rowRead_257 wF_X12_346 (A_106 hw) T567 ?_
                  refine sv_aload_n (pc := 260) dX12_rowRead_260 rfl rfl ?_
                  refine gk_X12_58 (pc := 261) dX12_rowRead_261 wF_X12_278 (A_106 hw) (u566.f (Or.inl (mAt.ne (A_128 hw) (A_106 hw) rfl)) (F560.f (A_106 hw) rfl (F499.f (A_106 hw) rfl (F358.f (A_106 hw) rfl (F352.f (A_106 hw) rfl (u75.f (Or.inl (mAt.ne (A_129 hw) (A_106 hw) rfl)) (u69.f (Or.inl (mAt.ne (A_128 hw) (A_106 hw) rfl)) (u63.f (Or.inl (mAt.ne (A_127 hw) (A_106 hw) rfl)) (F51.f (A_106 hw) rfl q38))))))))) ?_
                  refine la_131 (pc := 264) dX12_rowRead_264 (A_131 hw) T567 (rIx (n := 13) h39 rfl) fun z568 q569 h570 => ?_
                  refine ss_129 (pc := 265) dX12_rowRead_265 (A_129 hw) T567 (rIx (n := 403) (rAdd (e := 1) (f := 402) (rAdd (e := 0) (f := 401) (rMulL (n := 31) (e := 0) (f := 372) h39 rfl) h61 rfl) (rR (x := 1)) rfl) rfl) h570 fun μ571 u572 T573 => ?_
                  exact mr_vret dX12_rowRead_266 rfl (le_t rfl) (le_t rfl) T573 (mF.up (mF.up (mF.call (mF.call (mF.call (mF.call (mF.up (mF.up (mF.up (mF.call (mF.call mF.refl F33 rfl) F51 rfl) (A_127 hw) u63 rfl) (A_128 hw) u69 rfl) (A_129 hw) u75 rfl) F352 rfl) F358 rfl) F499 rfl) F560 rfl) (A_128 hw) u566 rfl) (A_129 hw) u572 rfl) ⟨(((((h561.1 T559 F560) z562 q563 h564) μ565 u566 T567) z568 q569 h570) μ571 u572 T573), trivial⟩
                have h574 : 1 ≤ z517 ∧ z517 ≤ 1 := (vc_X12_rowRead_Wx_5 h555 h516.2.1 h516.2.2.1 h506 h509 h512 h516.1)
                have h575 : z504 = 0 ∧ z507 = 3 ∧ z510 = (44 : Int) := (h516.2.1 (vc_X12_rowRead_Wx_6 h516.2.1 h516.2.2.1 h555 h506 h509 h512 h574))
                have h576 : 0 ≤ z504 ∧ z504 ≤ 0 := (vc_X12_rowRead_Wx_7 h575 h516.2.1 h516.2.2.1 h506 h509 h512 h574)
                have h577 : 3 ≤ z507 ∧ z507 ≤ 3 := (vc_X12_rowRead_Wx_8 h575 h516.2.1 h516.2.2.1 h576 h509 h512 h574)
                have h578 : 44 ≤ z510 ∧ z510 ≤ 44 := (vc_X12_rowRead_Wx_9 h575 h516.2.1 h516.2.2.1 h576 h577 h512 h574)
                refine sv_aload_n (pc := 215) dX12_rowRead_215 rfl rfl ?_
                obtain ⟨z579, q580⟩ : ∃ z, μ496 106 33 = z := ⟨_, rfl⟩
                have h581 : (0 ≤ z579 ∧ z579 ≤ 1000) := by rw [← q580]; exact T498 106 106 (A_106 hw) 33
                obtain ⟨z582, q583⟩ : ∃ z, μ496 106 1 = z := ⟨_, rfl⟩
                have h584 : (0 ≤ z582 ∧ z582 ≤ 1000) := by rw [← q583]; exact T498 106 106 (A_106 hw) 1
                refine mr_cVV (pc := 216) (c_X12_next_v hw T498 q505 q580 q583) (gOk _ _ _ _ _) dX12_rowRead_216 (tX12_next _ _ _ _ _) ⟨wV_X12_next, wL_X12_next⟩ wM_X12_247 (gCX12 _ _ _ _ _) rfl (A_106 hw) rfl ⟨le_t rfl, le_t rfl⟩ ⟨le_t rfl, le_t rfl⟩ rfl (le_t rfl) fun μ585 T586 F587 h588 => ?_
                obtain ⟨z589, z591, z593, z595, z597, q590, q592, q594, q596, q598, h599⟩ := h588
                have h600 : (0 ≤ z589 ∧ z589 ≤ 4) := by rw [← q590]; exact T586 106 106 (A_106 hw) 37
                have h601 : (0 ≤ z591 ∧ z591 ≤ 1000) := by rw [← q592]; exact T586 106 106 (A_106 hw) 33
                have h602 : (0 ≤ z593 ∧ z593 ≤ 1000) := by rw [← q594]; exact T586 106 106 (A_106 hw) 34
                have h603 : (0 ≤ z595 ∧ z595 ≤ 3) := by rw [← q596]; exact T586 106 106 (A_106 hw) 35
                have h604 : ((-2147483648) ≤ z597 ∧ z597 ≤ 2147483647) := by rw [← q598]; exact T586 106 106 (A_106 hw) 36
                refine sv_aload_n (pc := 219) dX12_rowRead_219 rfl rfl ?_
                have W609 := (((((((((((h516.2.2.2.1 h516.1).2 h555) z579 q580 h581) z582 q583 h584) μ585 F587 T586) z589 q590) z591 q592) z593 q594) z595 q596) z597 q598) h599.2.2.2.2.2.2.2.1)
                refine mr_cVV (pc := 220) (c_X12_actRead_Wx hw T586 W609) (gOk _ _ _ _ _) dX12_rowRead_220 (tX12_actRead _ _ _ _ _) ⟨wV_X12_actRead, wL_X12_actRead⟩ wM_X12_370 (gCX12 _ _ _ _ _) rfl (A_106 hw) rfl ⟨le_t rfl, le_t rfl⟩ ⟨le_t rfl, le_t rfl⟩ rfl (le_t rfl) fun μ605 T606 F607 h608 => ?_
                refine sv_goto (pc := 223) (tgt := 206) dX12_rowRead_223 (by decide) ?_
                exact ih503 μ605 T606 (mF.call (mF.call (mF.call mF.refl F499 rfl) F587 rfl) F607 rfl) trivial (h608.1 T606 F607)
            exact L497 1010 μ356 T357 mF.refl trivial (h359.1 T357 F358)
          refine mr_if_eq (pc := 155) (tgt := 202) dX12_rowRead_155 (by decide) (r32 h83.1 rfl) (fun h610 => ?_) (fun h610 => ?_)
          · have h611 : 0 ≤ z84 ∧ z84 ≤ 0 := (vc_X12_rowRead_Wx_10 h610 h83.2.1 h83.2.2.1 h3 h59 h79 h83.1)
            have h612 : ¬ z55 = 0 ∨ ¬ z1 = 1 ∨ ¬ z77 = (0 : Int) := (h83.2.2.1 (vc_X12_rowRead_Wx_11 h83.2.1 h83.2.2.1 h610 h58 h3 h59 h79 h611))
            refine mr_lvS (lv' := [(0, .ref 106), (2, iv ((31 * z37) + z40))]) (List.forall_mem_cons.mpr ⟨rfl, List.forall_mem_cons.mpr ⟨rfl, fun _ h => absurd h List.not_mem_nil⟩⟩) ?_
            exact J354 μ74 T76 mF.refl ((h83.2.2.2.1 h83.1).1 h610)
          have h613 : 1 ≤ z84 ∧ z84 ≤ 1 := (vc_X12_rowRead_Wx_12 h610 h83.2.1 h83.2.2.1 h3 h59 h79 h83.1)
          have h614 : z55 = 0 ∧ z1 = 1 ∧ z77 = (0 : Int) := (h83.2.1 (vc_X12_rowRead_Wx_13 h83.2.1 h83.2.2.1 h610 h58 h3 h59 h79 h613))
          have h615 : 0 ≤ z77 ∧ z77 ≤ 0 := (vc_X12_rowRead_Wx_14 h614 h58 h83.2.1 h83.2.2.1 h3 h59 h79 h613)
          have h616 : 1 ≤ z1 ∧ z1 ≤ 1 := (vc_X12_rowRead_Wx_15 h614 h58 h83.2.1 h83.2.2.1 h3 h59 h615 h613)
          refine sv_aload_n (pc := 158) dX12_rowRead_158 rfl rfl ?_
          obtain ⟨z617, q618⟩ : ∃ z, μ74 106 33 = z := ⟨_, rfl⟩
          have h619 : (0 ≤ z617 ∧ z617 ≤ 1000) := by rw [← q618]; exact T76 106 106 (A_106 hw) 33
          obtain ⟨z620, q621⟩ : ∃ z, μ74 106 1 = z := ⟨_, rfl⟩
          have h622 : (0 ≤ z620 ∧ z620 ≤ 1000) := by rw [← q621]; exact T76 106 106 (A_106 hw) 1
          refine mr_cVV (pc := 159) (c_X12_next_v hw T76 (u75.f (Or.inl (mAt.ne (A_129 hw) (A_106 hw) rfl)) (u69.f (Or.inl (mAt.ne (A_128 hw) (A_106 hw) rfl)) (u63.f (Or.inl (mAt.ne (A_127 hw) (A_106 hw) rfl)) q56))) q618 q621) (gOk _ _ _ _ _) dX12_rowRead_159 (tX12_next _ _ _ _ _) ⟨wV_X12_next, wL_X12_next⟩ wM_X12_247 (gCX12 _ _ _ _ _) rfl (A_106 hw) rfl ⟨le_t rfl, le_t rfl⟩ ⟨le_t rfl, le_t rfl⟩ rfl (le_t rfl) fun μ623 T624 F625 h626 => ?_
          obtain ⟨z627, z629, z631, z633, z635, q628, q630, q632, q634, q636, h637⟩ := h626
          have h638 : (0 ≤ z627 ∧ z627 ≤ 4) := by rw [← q628]; exact T624 106 106 (A_106 hw) 37
          have h639 : (0 ≤ z629 ∧ z629 ≤ 1000) := by rw [← q630]; exact T624 106 106 (A_106 hw) 33
          have h640 : (0 ≤ z631 ∧ z631 ≤ 1000) := by rw [← q632]; exact T624 106 106 (A_106 hw) 34
          have h641 : (0 ≤ z633 ∧ z633 ≤ 3) := by rw [← q634]; exact T624 106 106 (A_106 hw) 35
          have h642 : ((-2147483648) ≤ z635 ∧ z635 ≤ 2147483647) := by rw [← q636]; exact T624 106 106 (A_106 hw) 36
          refine sv_aload_n (pc := 162) dX12_rowRead_162 rfl rfl ?_
          have W647 := (((((((((((h83.2.2.2.1 h83.1).2 h610) z617 q618 h619) z620 q621 h622) μ623 F625 T624) z627 q628) z629 q630) z631 q632) z633 q634) z635 q636) h637.2.2.2.2.2.2.2.1)
          refine mr_cVV (pc := 163) (c_X12_test_Wx hw T624 W647) (gOk _ _ _ _ _) dX12_rowRead_163 (tX12_test _ _ _ _ _) ⟨wV_X12_test, wL_X12_test⟩ wM_X12_367 (gCX12 _ _ _ _ _) rfl (A_106 hw) rfl ⟨le_t rfl, le_t rfl⟩ ⟨le_t rfl, le_t rfl⟩ rfl (le_t rfl) fun μ643 T644 F645 h646 => ?_
          have L877 : ∀ (nL877 : Nat) (μ876 : mM), mT w μ876 → mF [106033, 106034, 106035, 106036, 106037, 106038, 106059, 130999, 132999, 133999, 134999, 135999, 136999, 137999, 138999, 139999, 142999, 143999, 144999, 145999, 146999, 147999, 148999, 149999, 150999] w μ643 μ876 → True → loopF (WL_X12_rowRead_Wx_6 w Q z37 z40 μ74 μ643) False nL877 (μ876) → sV (gG l D c H0 sa) mX12_rowRead (sRm 6 0 0) (sZ (gG l D c H0 sa) 0 0 (qV w [106033, 106034, 106035, 106036, 106037, 106038, 106059, 127999, 128999, 129999, 130999, 131999, 132999, 133999, 134999, 135999, 136999, 137999, 138999, 139999, 140999, 141999, 142999, 143999, 144999, 145999, 146999, 147999, 148999, 149999, 150999] μ (fun μ1 => Q μ1 ∧ True))) 166 [(0, .ref 106), (2, iv ((31 * z37) + z40))] [] (mk w μ876) 0 0 := by
            intro nL877
            induction nL877 with
            | zero => intro μ876 T878 F879 h881 W882; exact False.elim W882
            | succ nL877 ih883 =>
              intro μ876 T878 F879 h881 W882
              refine sv_aload_n (pc := 166) dX12_rowRead_166 rfl rfl ?_
              refine mr_iconst (pc := 167) (z := 1) dX12_rowRead_167 ?_
              obtain ⟨z884, q885⟩ : ∃ z, μ876 106 37 = z := ⟨_, rfl⟩
              have h886 : (0 ≤ z884 ∧ z884 ≤ 4) := by rw [← q885]; exact T878 106 106 (A_106 hw) 37
              obtain ⟨z887, q888⟩ : ∃ z, μ876 106 35 = z := ⟨_, rfl⟩
              have h889 : (0 ≤ z887 ∧ z887 ≤ 3) := by rw [← q888]; exact T878 106 106 (A_106 hw) 35
              obtain ⟨z890, q891⟩ : ∃ z, μ876 106 36 = z := ⟨_, rfl⟩
              have h892 : ((-2147483648) ≤ z890 ∧ z890 ≤ 2147483647) := by rw [← q891]; exact T878 106 106 (A_106 hw) 36
              refine mr_cVP (pc := 168) (c_X12_isWord_W hw T878 (rW (c := (-2147483648)) (d := 2147483647) (rR (x := 1)) rfl) q885 q888 q891 ((((W882 μ876 rfl  T878 F879) z884 q885 h886) z887 q888 h889) z890 q891 h892)) (gOk _ _ _ _ _) dX12_rowRead_168 (tX12_isWord _ _ _ _ _) ⟨wV_X12_isWord, wL_X12_isWord⟩ wM_X12_288 (gCX12 _ _ _ _ _) rfl (A_106 hw) rfl ⟨le_t rfl, le_t rfl⟩ ⟨le_t rfl, le_t rfl⟩ rfl (le_t rfl) fun z897 h896 => ?_
              refine mr_if_eq (pc := 171) (tgt := 185) dX12_rowRead_171 (by decide) (r32 h896.1 rfl) (fun h932 => ?_) (fun h932 => ?_)
              · have h933 : 0 ≤ z897 ∧ z897 ≤ 0 := (vc_X12_rowRead_Wx_16 h932 h896.2.1 h896.2.2.1 h886 h889 h892 h896.1)
                have h934 : ¬ z884 = 0 ∨ ¬ z887 = 1 ∨ ¬ z890 = (1 : Int) := (h896.2.2.1 (vc_X12_rowRead_Wx_17 h896.2.1 h896.2.2.1 h932 h886 h889 h892 h933))
                refine sv_aload_n (pc := 185) dX12_rowRead_185 rfl rfl ?_
                refine mr_iconst (pc := 186) (z := 2) dX12_rowRead_186 ?_
                refine mr_cVP (pc := 187) (c_X12_isWord_W hw T878 (rW (c := (-2147483648)) (d := 2147483647) (rR (x := 2)) rfl) q885 q888 q891 ((h896.2.2.2.1 h896.1).1 h932)) (gOk _ _ _ _ _) dX12_rowRead_187 (tX12_isWord _ _ _ _ _) ⟨wV_X12_isWord, wL_X12_isWord⟩ wM_X12_288 (gCX12 _ _ _ _ _) rfl (A_106 hw) rfl ⟨le_t rfl, le_t rfl⟩ ⟨le_t rfl, le_t rfl⟩ rfl (le_t rfl) fun z939 h938 => ?_
                refine mr_if_ne (pc := 190) (tgt := 198) dX12_rowRead_190 (by decide) (r32 h938.1 rfl) (fun h951 => ?_) (fun h951 => ?_)
                · have h952 : 1 ≤ z939 ∧ z939 ≤ 1 := (vc_X12_rowRead_Wx_18 h951 h938.2.1 h938.2.2.1 h886 h889 h892 h938.1)
                  have h953 : z884 = 0 ∧ z887 = 1 ∧ z890 = (2 : Int) := (h938.2.1 (vc_X12_rowRead_Wx_19 h938.2.1 h938.2.2.1 h951 h896.2.1 h896.2.2.1 h934 h886 h889 h892 h933 h952))
                  have h954 : 2 ≤ z890 ∧ z890 ≤ 2 := (vc_X12_rowRead_Wx_20 h953 h896.2.1 h896.2.2.1 h934 h938.2.1 h938.2.2.1 h886 h889 h892 h933 h952)
                  have h955 : 1 ≤ z887 ∧ z887 ≤ 1 := (vc_X12_rowRead_Wx_21 h953 h896.2.1 h896.2.2.1 h934 h938.2.1 h938.2.2.1 h886 h889 h954 h933 h952)
                  have h956 : 0 ≤ z884 ∧ z884 ≤ 0 := (vc_X12_rowRead_Wx_22 h953 h896.2.1 h896.2.2.1 h934 h938.2.1 h938.2.2.1 h886 h955 h954 h933 h952)
                  refine sv_aload_n (pc := 198) dX12_rowRead_198 rfl rfl ?_
                  obtain ⟨z957, q958⟩ : ∃ z, μ876 106 33 = z := ⟨_, rfl⟩
                  have h959 : (0 ≤ z957 ∧ z957 ≤ 1000) := by rw [← q958]; exact T878 106 106 (A_106 hw) 33
                  refine mr_cVV (pc := 199) (c_X12_next_v hw T878 q885 q958 (F879.f (A_106 hw) rfl (F645.f (A_106 hw) rfl (F625.f (A_106 hw) rfl q621)))) (gOk _ _ _ _ _) dX12_rowRead_199 (tX12_next _ _ _ _ _) ⟨wV_X12_next, wL_X12_next⟩ wM_X12_247 (gCX12 _ _ _ _ _) rfl (A_106 hw) rfl ⟨le_t rfl, le_t rfl⟩ ⟨le_t rfl, le_t rfl⟩ rfl (le_t rfl) fun μ960 T961 F962 h963 => ?_
                  obtain ⟨z964, z966, z968, z970, z972, q965, q967, q969, q971, q973, h974⟩ := h963
                  have h975 : (0 ≤ z964 ∧ z964 ≤ 4) := by rw [← q965]; exact T961 106 106 (A_106 hw) 37
                  have h976 : (0 ≤ z966 ∧ z966 ≤ 1000) := by rw [← q967]; exact T961 106 106 (A_106 hw) 33
                  have h977 : (0 ≤ z968 ∧ z968 ≤ 1000) := by rw [← q969]; exact T961 106 106 (A_106 hw) 34
                  have h978 : (0 ≤ z970 ∧ z970 ≤ 3) := by rw [← q971]; exact T961 106 106 (A_106 hw) 35
                  have h979 : ((-2147483648) ≤ z972 ∧ z972 ≤ 2147483647) := by rw [← q973]; exact T961 106 106 (A_106 hw) 36
                  exact J354 μ960 T961 (mF.call (mF.call (mF.call (mF.call mF.refl F625 rfl) F645 rfl) F879 rfl) F962 rfl) ((((((((((h938.2.2.2.1 h938.1).1 h951) z957 q958 h959) μ960 F962 T961) z964 q965) z966 q967) z968 q969) z970 q971) z972 q973) h974.2.2.2.2.2.2.2.1)
                have h980 : 0 ≤ z939 ∧ z939 ≤ 0 := (vc_X12_rowRead_Wx_23 h951 h938.2.1 h938.2.2.1 h886 h889 h892 h938.1)
                have h981 : ¬ z884 = 0 ∨ ¬ z887 = 1 ∨ ¬ z890 = (2 : Int) := (h938.2.2.1 (vc_X12_rowRead_Wx_24 h938.2.1 h938.2.2.1 h951 h896.2.1 h896.2.2.1 h934 h886 h889 h892 h933 h980))
                refine sv_aload_n (pc := 193) dX12_rowRead_193 rfl rfl ?_
                refine mr_iconst (pc := 194) (z := 2) dX12_rowRead_194 ?_
                refine mr_cVV (pc := 195) (c_X12_wrong_Wx hw T878 (rW (c := 1) (d := 4) (rR (x := 2)) rfl) ((h938.2.2.2.1 h938.1).2 h951)) (gOk _ _ _ _ _) dX12_rowRead_195 (tX12_wrong _ _ _ _ _) ⟨wV_X12_wrong, wL_X12_wrong⟩ wM_X12_240 (gCX12 _ _ _ _ _) rfl (A_106 hw) rfl ⟨le_t rfl, le_t rfl⟩ ⟨le_t rfl, le_t rfl⟩ rfl (le_t rfl) fun μ982 T983 F984 h985 => ?_
                refine sv_aload_n (pc := 198) dX12_rowRead_198 rfl rfl ?_
                obtain ⟨z986, q987⟩ : ∃ z, μ982 106 37 = z := ⟨_, rfl⟩
                have h988 : (0 ≤ z986 ∧ z986 ≤ 4) := by rw [← q987]; exact T983 106 106 (A_106 hw) 37
                obtain ⟨z989, q990⟩ : ∃ z, μ982 106 33 = z := ⟨_, rfl⟩
                have h991 : (0 ≤ z989 ∧ z989 ≤ 1000) := by rw [← q990]; exact T983 106 106 (A_106 hw) 33
                refine mr_cVV (pc := 199) (c_X12_next_v hw T983 q987 q990 (F984.f (A_106 hw) rfl (F879.f (A_106 hw) rfl (F645.f (A_106 hw) rfl (F625.f (A_106 hw) rfl q621))))) (gOk _ _ _ _ _) dX12_rowRead_199 (tX12_next _ _ _ _ _) ⟨wV_X12_next, wL_X12_next⟩ wM_X12_247 (gCX12 _ _ _ _ _) rfl (A_106 hw) rfl ⟨le_t rfl, le_t rfl⟩ ⟨le_t rfl, le_t rfl⟩ rfl (le_t rfl) fun μ992 T993 F994 h995 => ?_
                obtain ⟨z996, z998, z1000, z1002, z1004, q997, q999, q1001, q1003, q1005, h1006⟩ := h995
                have h1007 : (0 ≤ z996 ∧ z996 ≤ 4) := by rw [← q997]; exact T993 106 106 (A_106 hw) 37
                have h1008 : (0 ≤ z998 ∧ z998 ≤ 1000) := by rw [← q999]; exact T993 106 106 (A_106 hw) 33
                have h1009 : (0 ≤ z1000 ∧ z1000 ≤ 1000) := by rw [← q1001]; exact T993 106 106 (A_106 hw) 34
                have h1010 : (0 ≤ z1002 ∧ z1002 ≤ 3) := by rw [← q1003]; exact T993 106 106 (A_106 hw) 35
                have h1011 : ((-2147483648) ≤ z1004 ∧ z1004 ≤ 2147483647) := by rw [← q1005]; exact T993 106 106 (A_106 hw) 36
                exact J354 μ992 T993 (mF.call (mF.call (mF.call (mF.call (mF.call mF.refl F625 rfl) F645 rfl) F879 rfl) F984 rfl) F994 rfl) ((((((((((h985.1 T983 F984) z986 q987 h988) z989 q990 h991) μ992 F994 T993) z996 q997) z998 q999) z1000 q1001) z1002 q1003) z1004 q1005) h1006.2.2.2.2.2.2.2.1)
              have h1012 : 1 ≤ z897 ∧ z897 ≤ 1 := (vc_X12_rowRead_Wx_25 h932 h896.2.1 h896.2.2.1 h886 h889 h892 h896.1)
              have h1013 : z884 = 0 ∧ z887 = 1 ∧ z890 = (1 : Int) := (h896.2.1 (vc_X12_rowRead_Wx_26 h896.2.1 h896.2.2.1 h932 h886 h889 h892 h1012))
              have h1014 : 1 ≤ z890 ∧ z890 ≤ 1 := (vc_X12_rowRead_Wx_27 h1013 h896.2.1 h896.2.2.1 h886 h889 h892 h1012)
              have h1015 : 1 ≤ z887 ∧ z887 ≤ 1 := (vc_X12_rowRead_Wx_28 h1013 h896.2.1 h896.2.2.1 h886 h889 h1014 h1012)
              have h1016 : 0 ≤ z884 ∧ z884 ≤ 0 := (vc_X12_rowRead_Wx_29 h1013 h896.2.1 h896.2.2.1 h886 h1015 h1014 h1012)
              refine sv_aload_n (pc := 174) dX12_rowRead_174 rfl rfl ?_
              obtain ⟨z1017, q1018⟩ : ∃ z, μ876 106 33 = z := ⟨_, rfl⟩
              have h1019 : (0 ≤ z1017 ∧ z1017 ≤ 1000) := by rw [← q1018]; exact T878 106 106 (A_106 hw) 33
              refine mr_cVV (pc := 175) (c_X12_next_v hw T878 q885 q1018 (F879.f (A_106 hw) rfl (F645.f (A_106 hw) rfl (F625.f (A_106 hw) rfl q621)))) (gOk _ _ _ _ _) dX12_rowRead_175 (tX12_next _ _ _ _ _) ⟨wV_X12_next, wL_X12_next⟩ wM_X12_247 (gCX12 _ _ _ _ _) rfl (A_106 hw) rfl ⟨le_t rfl, le_t rfl⟩ ⟨le_t rfl, le_t rfl⟩ rfl (le_t rfl) fun μ1020 T1021 F1022 h1023 => ?_
              obtain ⟨z1024, z1026, z1028, z1030, z1032, q1025, q1027, q1029, q1031, q1033, h1034⟩ := h1023
              have h1035 : (0 ≤ z1024 ∧ z1024 ≤ 4) := by rw [← q1025]; exact T1021 106 106 (A_106 hw) 37
              have h1036 : (0 ≤ z1026 ∧ z1026 ≤ 1000) := by rw [← q1027]; exact T1021 106 106 (A_106 hw) 33
              have h1037 : (0 ≤ z1028 ∧ z1028 ≤ 1000) := by rw [← q1029]; exact T1021 106 106 (A_106 hw) 34
              have h1038 : (0 ≤ z1030 ∧ z1030 ≤ 3) := by rw [← q1031]; exact T1021 106 106 (A_106 hw) 35
              have h1039 : ((-2147483648) ≤ z1032 ∧ z1032 ≤ 2147483647) := by rw [← q1033]; exact T1021 106 106 (A_106 hw) 36
              refine sv_aload_n (pc := 178) dX12_rowRead_178 rfl rfl ?_
              have W1044 := ((((((((((h896.2.2.2.1 h896.1).2 h932) z1017 q1018 h1019) μ1020 F1022 T1021) z1024 q1025) z1026 q1027) z1028 q1029) z1030 q1031) z1032 q1033) h1034.2.2.2.2.2.2.2.1)
              refine mr_cVV (pc := 179) (c_X12_test_Wx hw T1021 W1044) (gOk _ _ _ _ _) dX12_rowRead_179 (tX12_test _ _ _ _ _) ⟨wV_X12_test, wL_X12_test⟩ wM_X12_367 (gCX12 _ _ _ _ _) rfl (A_106 hw) rfl ⟨le_t rfl, le_t rfl⟩ ⟨le_t rfl, le_t rfl⟩ rfl (le_t rfl) fun μ1040 T1041 F1042 h1043 => ?_
              refine sv_goto (pc := 182) (tgt := 166) dX12_rowRead_182 (by decide) ?_
              exact ih883 μ1040 T1041 (mF.call (mF.call (mF.call mF.refl F879 rfl) F1022 rfl) F1042 rfl) trivial (h1043.1 T1041 F1042)
          refine mr_lvS (lv' := [(0, .ref 106), (2, iv ((31 * z37) + z40))]) (List.forall_mem_cons.mpr ⟨rfl, List.forall_mem_cons.mpr ⟨rfl, fun _ h => absurd h List.not_mem_nil⟩⟩) ?_
          exact L877 1010 μ643 T644 mF.refl trivial (h646.1 T644 F645)
        have h1045 : 1 ≤ z55 ∧ z55 ≤ 4 := (vc_X12_wrong_v_1 h58 h57)
        exact mr_vret dX12_rowRead_88 rfl (le_t rfl) (le_t rfl) T50 (mF.call (mF.call mF.refl F33 rfl) F51 rfl) ⟨(((W54 T50 F51) z55 q56 h57).2 h58), trivial⟩
      refine mr_icmp_ne (pc := 73) (tgt := 81) dX12_rowRead_73 (by decide) (r32 h42 rfl) (r32 (rR (x := 30)) rfl) (fun h1046 => ?_) (fun h1046 => ?_)
      · have h1047 : 0 ≤ z40 ∧ z40 ≤ 29 := (vc_X12_right_W_22 h1046 h42)
        exact J53 μ31 T32 mF.refl ((((W36 T32 F33) z37 q38 h39) z40 q41 h42).1 h1046)
      have h1048 : 30 ≤ z40 ∧ z40 ≤ 30 := (vc_X12_right_W_23 h1046 h42)
      refine sv_aload_n (pc := 76) dX12_rowRead_76 rfl rfl ?_
      refine mr_iconst (pc := 77) (z := 4) dX12_rowRead_77 ?_
      refine mr_cVV (pc := 78) (c_X12_wrong_Wx hw T32 (rW (c := 1) (d := 4) (rR (x := 4)) rfl) ((((W36 T32 F33) z37 q38 h39) z40 q41 h42).2 h1046)) (gOk _ _ _ _ _) dX12_rowRead_78 (tX12_wrong _ _ _ _ _) ⟨wV_X12_wrong, wL_X12_wrong⟩ wM_X12_240 (gCX12 _ _ _ _ _) rfl (A_106 hw) rfl ⟨le_t rfl, le_t rfl⟩ ⟨le_t rfl, le_t rfl⟩ rfl (le_t rfl) fun μ1049 T1050 F1051 h1052 => ?_
      exact J53 μ1049 T1050 (mF.call mF.refl F1051 rfl) (h1052.1 T1050 F1051)
    refine mr_if_ne (pc := 54) (tgt := 62) dX12_rowRead_54 (by decide) (r32 h22 rfl) (fun h1053 => ?_) (fun h1053 => ?_)
    · have h1054 : 1 ≤ z21 ∧ z21 ≤ 1 := (vc_X12_ring_24 h1053 h22)
      refine mr_lvS (lv' := [(0, .ref 106)]) (List.forall_mem_cons.mpr ⟨rfl, fun _ h => absurd h List.not_mem_nil⟩) ?_
      exact J35 μ hT mF.refl ((W24 h22).1 h1053)
    have h1055 : 0 ≤ z21 ∧ z21 ≤ 0 := (vc_X12_ring_22 h1053 h22)
    refine sv_aload_n (pc := 57) dX12_rowRead_57 rfl rfl ?_
    refine mr_iconst (pc := 58) (z := 2) dX12_rowRead_58 ?_
    refine mr_cVV (pc := 59) (c_X12_wrong_Wx hw hT (rW (c := 1) (d := 4) (rR (x := 2)) rfl) ((W24 h22).2 h1053)) (gOk _ _ _ _ _) dX12_rowRead_59 (tX12_wrong _ _ _ _ _) ⟨wV_X12_wrong, wL_X12_wrong⟩ wM_X12_240 (gCX12 _ _ _ _ _) rfl (A_106 hw) rfl ⟨le_t rfl, le_t rfl⟩ ⟨le_t rfl, le_t rfl⟩ rfl (le_t rfl) fun μ1056 T1057 F1058 h1059 => ?_
    refine mr_lvS (lv' := [(0, .ref 106)]) (List.forall_mem_cons.mpr ⟨rfl, fun _ h => absurd h List.not_mem_nil⟩) ?_
    exact J35 μ1056 T1057 (mF.call mF.refl F1058 rfl) (h1059.1 T1057 F1058)
  refine mr_icmp_ne (pc := 5) (tgt := 51) dX12_rowRead_5 (by decide) (r32 h3 rfl) (r32 (rR (x := 1)) rfl) (fun h1060 => ?_) (fun h1060 => ?_)
  · refine mr_iconst (pc := 51) (z := 0) dX12_rowRead_51 ?_
    exact J23 0 (rW (c := 0) (d := 1) (rR (x := 0)) rfl) ((hQ z1 q2 h3).1 h1060)
  have h1061 : 1 ≤ z1 ∧ z1 ≤ 1 := (vc_X10_firstWrongStep_16 h1060 h3)
  refine sv_aload_n (pc := 8) dX12_rowRead_8 rfl rfl ?_
  refine gf_X12_36 (pc := 9) dX12_rowRead_9 wF_X12_233 (A_106 hw) hT fun z1062 q1063 h1064 => ?_
  refine mr_if_eq (pc := 12) (tgt := 47) dX12_rowRead_12 (by decide) h1064 (fun h1065 => ?_) (fun h1065 => ?_)
  · have h1066 : 0 ≤ z1062 ∧ z1062 ≤ 0 := (vc_X12_mask_1 h1065 h1064)
    refine mr_iconst (pc := 47) (z := 1) dX12_rowRead_47 ?_
    refine sv_goto (pc := 48) (tgt := 52) dX12_rowRead_48 (by decide) ?_
    exact J23 1 (rW (c := 0) (d := 1) (rR (x := 1)) rfl) ((((hQ z1 q2 h3).2 h1060) z1062 q1063 h1064).1 h1065)
  refine sv_aload_n (pc := 15) dX12_rowRead_15 rfl rfl ?_
  refine gk_X12_36 (pc := 16) dX12_rowRead_16 wF_X12_233 (A_106 hw) q1063 ?_
  refine mr_bipush (pc := 19) (z := 23) dX12_rowRead_19 (by decide) ?_
  refine mr_bipush (pc := 21) (z := 28) dX12_rowRead_21 (by decide) ?_
  refine mr_cSP (pc := 23) (c_X12_in_W hw hT h1064 (rW (c := (-2147483648)) (d := 2147483647) (rR (x := 23)) rfl) (rW (c := (-2147483648)) (d := 2147483647) (rR (x := 28)) rfl) ((((hQ z1 q2 h3).2 h1060) z1062 q1063 h1064).2 h1065)) (gOk _ _ _ _ _) dX12_rowRead_23 (tX12_in _ _ _ _ _) wS_X12_in wM_X12_18 ⟨le_t rfl, le_t rfl⟩ ⟨le_t rfl, le_t rfl⟩ rfl (le_t rfl) fun z1071 h1070 => ?_
  refine mr_if_ne (pc := 26) (tgt := 47) dX12_rowRead_26 (by decide) (r32 h1070.1 rfl) (fun h1072 => ?_) (fun h1072 => ?_)
  · have h1073 : 1 ≤ z1071 ∧ z1071 ≤ 1 := (vc_X12_actRead_Wx_13 h1072 h1070.2.1 h1070.2.2.1 h1064 h1070.1)
    have h1074 : (23 : Int) ≤ z1062 ∧ z1062 ≤ (28 : Int) := (h1070.2.1 (vc_X12_rowRead_Wx_38 h1070.2.1 h1070.2.2.1 h1072 h1065 h1064 h1073))
    have h1075 : 23 ≤ z1062 ∧ z1062 ≤ 28 := (vc_X12_rowRead_Wx_39 h1074 h1065 h1070.2.1 h1070.2.2.1 h1064 h1073)
    refine mr_iconst (pc := 47) (z := 1) dX12_rowRead_47 ?_
    refine sv_goto (pc := 48) (tgt := 52) dX12_rowRead_48 (by decide) ?_
    exact J23 1 (rW (c := 0) (d := 1) (rR (x := 1)) rfl) ((h1070.2.2.2.1 h1070.1).1 h1072)
  have h1076 : 0 ≤ z1071 ∧ z1071 ≤ 0 := (vc_X12_actRead_Wx_16 h1072 h1070.2.1 h1070.2.2.1 h1064 h1070.1)
  have h1077 : z1062 < (23 : Int) ∨ (28 : Int) < z1062 := (h1070.2.2.1 (vc_X12_rowRead_Wx_41 h1070.2.1 h1070.2.2.1 h1072 h1065 h1064 h1076))
  refine sv_aload_n (pc := 29) dX12_rowRead_29 rfl rfl ?_
  refine gk_X12_36 (pc := 30) dX12_rowRead_30 wF_X12_233 (A_106 hw) q1063 ?_
  refine mr_bipush (pc := 33) (z := 12) dX12_rowRead_33 (by decide) ?_
  refine mr_icmp_eq (pc := 35) (tgt := 47) dX12_rowRead_35 (by decide) h1064 (r32 (rR (x := 12)) rfl) (fun h1078 => ?_) (fun h1078 => ?_)
  · have h1079 : 12 ≤ z1062 ∧ z1062 ≤ 12 := (vc_X12_rowRead_Wx_42 h1078 h1065 h1070.2.1 h1070.2.2.1 h1077 h1064 h1076)
    refine mr_iconst (pc := 47) (z := 1) dX12_rowRead_47 ?_
    refine sv_goto (pc := 48) (tgt := 52) dX12_rowRead_48 (by decide) ?_
    exact J23 1 (rW (c := 0) (d := 1) (rR (x := 1)) rfl) (((h1070.2.2.2.1 h1070.1).2 h1072).1 h1078)
  refine sv_aload_n (pc := 38) dX12_rowRead_38 rfl rfl ?_
  refine gk_X12_36 (pc := 39) dX12_rowRead_39 wF_X12_233 (A_106 hw) q1063 ?_
  refine mr_bipush (pc := 42) (z := 13) dX12_rowRead_42 (by decide) ?_
  refine mr_icmp_ne (pc := 44) (tgt := 51) dX12_rowRead_44 (by decide) h1064 (r32 (rR (x := 13)) rfl) (fun h1080 => ?_) (fun h1080 => ?_)
  · refine mr_iconst (pc := 51) (z := 0) dX12_rowRead_51 ?_
    exact J23 0 (rW (c := 0) (d := 1) (rR (x := 0)) rfl) ((((h1070.2.2.2.1 h1070.1).2 h1072).2 h1078).1 h1080)
  have h1081 : 13 ≤ z1062 ∧ z1062 ≤ 13 := (vc_X12_rowRead_Wx_43 h1080 h1065 h1070.2.1 h1070.2.2.1 h1077 h1078 h1064 h1076)
  refine mr_iconst (pc := 47) (z := 1) dX12_rowRead_47 ?_
  refine sv_goto (pc := 48) (tgt := 52) dX12_rowRead_48 (by decide) ?_
  exact J23 1 (rW (c := 0) (d := 1) (rR (x := 1)) rfl) ((((h1070.2.2.2.1 h1070.1).2 h1072).2 h1078).2 h1080)
def WJ_X12_policy_Wx_3 (w : mW) (Q : Int → mM → Prop) (z1 : Int) (μ116 : mM) (z124 : Int) : Prop := ∀ μ140 : mM, mU μ116 106 (66) z124 μ140 → mT w μ140 → ∀ μ143 : mM, mU μ140 106 (1) (0 : Int) μ143 → mT w μ143 → ((z124 = 0) → ((¬ z1 = 12) → ∀ μ150 : mM, mU μ143 106 (39) (z1 + 1) μ150 → mT w μ150 → Q ((z1 + 1) - 1) μ150) ∧ ((z1 = 12) → Q ((-3) : Int) μ143)) ∧ ((¬ z124 = 0) → ∀ z155 : Int, μ143 106 38 = z155 → (0 ≤ z155 ∧ z155 ≤ 1000) → Q ((-10) - z155) μ143)
def WL_X12_policy_Wx_2 (w : mW) (Q : Int → mM → Prop) (z1 : Int) (μ34 : mM) (rec2 : (mM) → Prop) (s : (mM)) : Prop := ∀ μ116 : mM, s = (μ116) → mT w μ116 → mF [106033, 106034, 106035, 106036, 106037, 106038, 106059, 127999, 128999, 129999, 130999, 131999, 132999, 133999, 134999, 135999, 136999, 137999, 138999, 139999, 140999, 141999, 142999, 143999, 144999, 145999, 146999, 147999, 148999, 149999, 150999] w μ34 μ116 → ∀ z124 : Int, μ116 106 37 = z124 → (0 ≤ z124 ∧ z124 ≤ 4) → ((¬ z124 = 0) → (WJ_X12_policy_Wx_3 w Q z1 μ116 z124) ) ∧ ((z124 = 0) → ∀ z161 : Int, μ116 106 35 = z161 → (0 ≤ z161 ∧ z161 ≤ 3) → ((z161 = 0) → (WJ_X12_policy_Wx_3 w Q z1 μ116 z124) ) ∧ ((¬ z161 = 0) → WP_X12_rowRead_Wx w μ116  (fun μ167 => mT w μ167 → mF [106033, 106034, 106035, 106036, 106037, 106038, 106059, 127999, 128999, 129999, 130999, 131999, 132999, 133999, 134999, 135999, 136999, 137999, 138999, 139999, 140999, 141999, 142999, 143999, 144999, 145999, 146999, 147999, 148999, 149999, 150999] w μ116 μ167 → rec2 (μ167))))
def WJ_X12_policy_Wx_1 (w : mW) (μ : mM) (Q : Int → mM → Prop) (z1 : Int) (z6 : Int) : Prop := (0 ≤ z6 ∧ z6 ≤ 12) → ∀ μ10 : mM, mU μ 106 (58) z6 μ10 → mT w μ10 → ∀ μ13 : mM, mU μ10 127 (z6.toNat) (0 : Int) μ13 → mT w μ13 → ∀ μ16 : mM, mU μ13 130 (z6.toNat) (0 : Int) μ16 → mT w μ16 → ∀ μ19 : mM, mU μ16 131 (z6.toNat) (0 : Int) μ19 → mT w μ19 → ∀ μ22 : mM, mU μ19 142 (z6.toNat) (0 : Int) μ22 → mT w μ22 → ∀ μ25 : mM, mU μ22 106 (33) (0 : Int) μ25 → mT w μ25 → ∀ μ28 : mM, mU μ25 106 (37) (0 : Int) μ28 → mT w μ28 → ∀ z31 : Int, μ28 106 1 = z31 → (0 ≤ z31 ∧ z31 ≤ 1000) → ∀ μ34 : mM, mF [106033, 106034, 106035, 106036, 106037, 106038] w μ28 μ34 → mT w μ34 → ∀ z38 : Int, μ34 106 37 = z38 → ∀ z40 : Int, μ34 106 33 = z40 → ∀ z42 : Int, μ34 106 34 = z42 → ∀ z44 : Int, μ34 106 35 = z44 → ∀ z46 : Int, μ34 106 36 = z46 → nxR μ28 μ34 → loopF (WL_X12_policy_Wx_2 w Q z1 μ34) False 1010 (μ34)
def WP_X12_policy_Wx (w : mW) (μ : mM) (Q : Int → mM → Prop) : Prop := ∀ z1 : Int, μ 106 39 = z1 → (0 ≤ z1 ∧ z1 ≤ 12) → ((12 ≤ z1) → (WJ_X12_policy_Wx_1 w μ Q z1) (12 : Int)) ∧ ((z1 < 12) → (WJ_X12_policy_Wx_1 w μ Q z1) z1)
theorem vc_X12_policy_Wx_2 {z1 : Int} (h0 : ¬ z1 = 12) (h1 : 0 ≤ z1 ∧ z1 ≤ 12) : 0 ≤ z1 ∧ z1 ≤ 11 := by omega
theorem vc_X12_policy_Wx_3 {z1 : Int} (h0 : z1 = 12) (h1 : 0 ≤ z1 ∧ z1 ≤ 12) : 12 ≤ z1 ∧ z1 ≤ 12 := by omega
theorem vc_X12_policy_Wx_7 {z1 : Int} (h0 : 12 ≤ z1) (h1 : 0 ≤ z1 ∧ z1 ≤ 12) : 12 ≤ z1 ∧ z1 ≤ 12 := by omega
theorem vc_X12_policy_Wx_8 {z1 : Int} (h0 : z1 < 12) (h1 : 0 ≤ z1 ∧ z1 ≤ 12) : 0 ≤ z1 ∧ z1 ≤ 11 := by omega
set_option maxRecDepth 4000 in
set_option maxHeartbeats 4000000 in
theorem c_X12_policy_Wx {l : Launch} {D : va_G} {c : Nat → ClassId} {H0 : Heap} {sa : Nat × Nat × (Nat → Int32)} {w : mW} {μ : mM} (hw : mWF w) (hT : mT w μ) {Q : Int → mM → Prop} (hQ : WP_X12_policy_Wx w μ  Q) : sC (gG l D c H0 sa) mX12_policy 7 0 0 [.ref 106] (mk w μ) (qI w [106001, 106033, 106034, 106035, 106036, 106037, 106038, 106039, 106058, 106059, 106066, 127999, 128999, 129999, 130999, 131999, 132999, 133999, 134999, 135999, 136999, 137999, 138999, 139999, 140999, 141999, 142999, 143999, 144999, 145999, 146999, 147999, 148999, 149999, 150999] μ (fun z μ1 => ((-2147483648) ≤ z ∧ z ≤ 2147483647) ∧ Q z μ1 ∧ True)) := by
  refine sC.of rfl (by decide) (le_t rfl) ?_
  refine mr_lvE (lv' := [(0, .ref 106)]) rfl ?_
  refine sv_aload_n (pc := 0) dX12_policy_0 rfl rfl ?_
  refine sv_aload_n (pc := 1) dX12_policy_1 rfl rfl ?_
  refine gf_X12_39 (pc := 2) dX12_policy_2 wF_X12_355 (A_106 hw) hT fun z1 q2 h3 => ?_
  refine mr_bipush (pc := 5) (z := 12) dX12_policy_5 (by decide) ?_
  have J8 : ∀ (z6 : Int), ((0 ≤ z6 ∧ z6 ≤ 12)) → ((WJ_X12_policy_Wx_1 w μ Q z1) z6) → sV (gG l D c H0 sa) mX12_policy (sRm 7 0 0) (sZ (gG l D c H0 sa) 0 0 (qI w [106001, 106033, 106034, 106035, 106036, 106037, 106038, 106039, 106058, 106059, 106066, 127999, 128999, 129999, 130999, 131999, 132999, 133999, 134999, 135999, 136999, 137999, 138999, 139999, 140999, 141999, 142999, 143999, 144999, 145999, 146999, 147999, 148999, 149999, 150999] μ (fun z μ1 => ((-2147483648) ≤ z ∧ z ≤ 2147483647) ∧ Q z μ1 ∧ True))) 19 [(0, .ref 106)] [iv z6, .ref 106] (mk w μ) 0 0 := by
    intro z6 h7 W9
    refine pf_X12_58 (pc := 19) dX12_policy_19 wF_X12_278 (A_106 hw) hT h7 fun μ10 u11 T12 => ?_
    refine sv_aload_n (pc := 22) dX12_policy_22 rfl rfl ?_
    refine gf_X12_40 (pc := 23) dX12_policy_23 wF_X12_358 (A_106 hw) T12 ?_
    refine sv_aload_n (pc := 26) dX12_policy_26 rfl rfl ?_
    refine gk_X12_58 (pc := 27) dX12_policy_27 wF_X12_278 (A_106 hw) u11.1 ?_
    refine mr_iconst (pc := 30) (z := 0) dX12_policy_30 ?_
    refine ss_127 (pc := 31) dX12_policy_31 (A_127 hw) T12 (rIx (n := 13) h7 rfl) (rW (c := 0) (d := 30) (rR (x := 0)) rfl) fun μ13 u14 T15 => ?_
    refine sv_aload_n (pc := 32) dX12_policy_32 rfl rfl ?_
    refine gf_X12_43 (pc := 33) dX12_policy_33 wF_X12_320 (A_106 hw) T15 ?_
    refine sv_aload_n (pc := 36) dX12_policy_36 rfl rfl ?_
    refine gk_X12_58 (pc := 37) dX12_policy_37 wF_X12_278 (A_106 hw) (u14.f (Or.inl (mAt.ne (A_127 hw) (A_106 hw) rfl)) u11.1) ?_
    refine mr_iconst (pc := 40) (z := 0) dX12_policy_40 ?_
    refine ss_130 (pc := 41) dX12_policy_41 (A_130 hw) T15 (rIx (n := 13) h7 rfl) (rW (c := 0) (d := 300) (rR (x := 0)) rfl) fun μ16 u17 T18 => ?_
    refine sv_aload_n (pc := 42) dX12_policy_42 rfl rfl ?_
    refine gf_X12_44 (pc := 43) dX12_policy_43 wF_X12_346 (A_106 hw) T18 ?_
    refine sv_aload_n (pc := 46) dX12_policy_46 rfl rfl ?_
    refine gk_X12_58 (pc := 47) dX12_policy_47 wF_X12_278 (A_106 hw) (u17.f (Or.inl (mAt.ne (A_130 hw) (A_106 hw) rfl)) (u14.f (Or.inl (mAt.ne (A_127 hw) (A_106 hw) rfl)) u11.1)) ?_
    refine mr_iconst (pc := 50) (z := 0) dX12_policy_50 ?_
    refine ss_131 (pc := 51) dX12_policy_51 (A_131 hw) T18 (rIx (n := 13) h7 rfl) (rW (c := 0) (d := 300) (rR (x := 0)) rfl) fun μ19 u20 T21 => ?_
    refine sv_aload_n (pc := 52) dX12_policy_52 rfl rfl ?_
    refine gf_X12_55 (pc := 53) dX12_policy_53 wF_X12_292 (A_106 hw) T21 ?_
    refine sv_aload_n (pc := 56) dX12_policy_56 rfl rfl ?_
    refine gk_X12_58 (pc := 57) dX12_policy_57 wF_X12_278 (A_106 hw) (u20.f (Or.inl (mAt.ne (A_131 hw) (A_106 hw) rfl)) (u17.f (Or.inl (mAt.ne (A_130 hw) (A_106 hw) rfl)) (u14.f (Or.inl (mAt.ne (A_127 hw) (A_106 hw) rfl)) u11.1))) ?_
    refine mr_iconst (pc := 60) (z := 0) dX12_policy_60 ?_
    refine ss_142 (pc := 61) dX12_policy_61 (A_142 hw) T21 (rIx (n := 13) h7 rfl) (rW (c := 0) (d := 40) (rR (x := 0)) rfl) fun μ22 u23 T24 => ?_
    refine sv_aload_n (pc := 62) dX12_policy_62 rfl rfl ?_
    refine mr_iconst (pc := 63) (z := 0) dX12_policy_63 ?_
    refine pf_X12_33 (pc := 64) dX12_policy_64 wF_X12_224 (A_106 hw) T24 (rW (c := 0) (d := 1000) (rR (x := 0)) rfl) fun μ25 u26 T27 => ?_
    refine sv_aload_n (pc := 67) dX12_policy_67 rfl rfl ?_
    refine mr_iconst (pc := 68) (z := 0) dX12_policy_68 ?_
    refine pf_X12_37 (pc := 69) dX12_policy_69 wF_X12_215 (A_106 hw) T27 (rW (c := 0) (d := 4) (rR (x := 0)) rfl) fun μ28 u29 T30 => ?_
    refine sv_aload_n (pc := 72) dX12_policy_72 rfl rfl ?_
    obtain ⟨z31, q32⟩ : ∃ z, μ28 106 1 = z := ⟨_, rfl⟩
    have h33 : (0 ≤ z31 ∧ z31 ≤ 1000) := by rw [← q32]; exact T30 106 106 (A_106 hw) 1
    refine mr_cVV (pc := 73) (c_X12_next_v hw T30 u29.1 (u29.f (Or.inr (by decide)) u26.1) q32) (gOk _ _ _ _ _) dX12_policy_73 (tX12_next _ _ _ _ _) ⟨wV_X12_next, wL_X12_next⟩ wM_X12_247 (gCX12 _ _ _ _ _) rfl (A_106 hw) rfl ⟨le_t rfl, le_t rfl⟩ ⟨le_t rfl, le_t rfl⟩ rfl (le_t rfl) fun μ34 T35 F36 h37 => ?_
    obtain ⟨z38, z40, z42, z44, z46, q39, q41, q43, q45, q47, h48⟩ := h37
    have h49 : (0 ≤ z38 ∧ z38 ≤ 4) := by rw [← q39]; exact T35 106 106 (A_106 hw) 37
    have h50 : (0 ≤ z40 ∧ z40 ≤ 1000) := by rw [← q41]; exact T35 106 106 (A_106 hw) 33
    have h51 : (0 ≤ z42 ∧ z42 ≤ 1000) := by rw [← q43]; exact T35 106 106 (A_106 hw) 34
    have h52 : (0 ≤ z44 ∧ z44 ≤ 3) := by rw [← q45]; exact T35 106 106 (A_106 hw) 35
    have h53 : ((-2147483648) ≤ z46 ∧ z46 ≤ 2147483647) := by rw [← q47]; exact T35 106 106 (A_106 hw) 36
    have L117 : ∀ (nL117 : Nat) (μ116 : mM), mT w μ116 → mF [106033, 106034, 106035, 106036, 106037, 106038, 106059, 127999, 128999, 129999, 130999, 131999, 132999, 133999, 134999, 135999, 136999, 137999, 138999, 139999, 140999, 141999, 142999, 143999, 144999, 145999, 146999, 147999, 148999, 149999, 150999] w μ34 μ116 → True → loopF (WL_X12_policy_Wx_2 w Q z1 μ34) False nL117 (μ116) → sV (gG l D c H0 sa) mX12_policy (sRm 7 0 0) (sZ (gG l D c H0 sa) 0 0 (qI w [106001, 106033, 106034, 106035, 106036, 106037, 106038, 106039, 106058, 106059, 106066, 127999, 128999, 129999, 130999, 131999, 132999, 133999, 134999, 135999, 136999, 137999, 138999, 139999, 140999, 141999, 142999, 143999, 144999, 145999, 146999, 147999, 148999, 149999, 150999] μ (fun z μ1 => ((-2147483648) ≤ z ∧ z ≤ 2147483647) ∧ Q z μ1 ∧ True))) 76 [(0, .ref 106)] [] (mk w μ116) 0 0 := by
      intro nL117
      induction nL117 with
      | zero => intro μ116 T118 F119 h121 W122; exact False.elim W122
      | succ nL117 ih123 =>
        intro μ116 T118 F119 h121 W122
        refine sv_aload_n (pc := 76) dX12_policy_76 rfl rfl ?_
        refine gf_X12_37 (pc := 77) dX12_policy_77 wF_X12_215 (A_106 hw) T118 fun z124 q125 h126 => ?_
        have J138 : ((WJ_X12_policy_Wx_3 w Q z1 μ116 z124) ) → sV (gG l D c H0 sa) mX12_policy (sRm 7 0 0) (sZ (gG l D c H0 sa) 0 0 (qI w [106001, 106033, 106034, 106035, 106036, 106037, 106038, 106039, 106058, 106059, 106066, 127999, 128999, 129999, 130999, 131999, 132999, 133999, 134999, 135999, 136999, 137999, 138999, 139999, 140999, 141999, 142999, 143999, 144999, 145999, 146999, 147999, 148999, 149999, 150999] μ (fun z μ1 => ((-2147483648) ≤ z ∧ z ≤ 2147483647) ∧ Q z μ1 ∧ True))) 97 [(0, .ref 106)] [] (mk w μ116) 0 0 := by
          intro W139
          refine sv_aload_n (pc := 97) dX12_policy_97 rfl rfl ?_
          refine sv_aload_n (pc := 98) dX12_policy_98 rfl rfl ?_
          refine gk_X12_37 (pc := 99) dX12_policy_99 wF_X12_215 (A_106 hw) q125 ?_
          refine pf_X12_66 (pc := 102) dX12_policy_102 wF_X12_376 (A_106 hw) T118 h126 fun μ140 u141 T142 => ?_
          refine sv_aload_n (pc := 105) dX12_policy_105 rfl rfl ?_
          refine mr_iconst (pc := 106) (z := 0) dX12_policy_106 ?_
          refine pf_X12_1 (pc := 107) dX12_policy_107 wF_X12_1 (A_106 hw) T142 (rW (c := 0) (d := 1000) (rR (x := 0)) rfl) fun μ143 u144 T145 => ?_
          refine sv_aload_n (pc := 110) dX12_policy_110 rfl rfl ?_
          refine gk_X12_37 (pc := 111) dX12_policy_111 wF_X12_215 (A_106 hw) (u144.f (Or.inr (by decide)) (u141.f (Or.inr (by decide)) q125)) ?_
          refine mr_if_eq (pc := 114) (tgt := 125) dX12_policy_114 (by decide) (r32 h126 rfl) (fun h146 => ?_) (fun h146 => ?_)
          · have h147 : 0 ≤ z124 ∧ z124 ≤ 0 := (vc_X12_wrong_v_5 h146 h126)
            refine sv_aload_n (pc := 125) dX12_policy_125 rfl rfl ?_
            refine gk_X12_39 (pc := 126) dX12_policy_126 wF_X12_355 (A_106 hw) (u144.f (Or.inr (by decide)) (u141.f (Or.inr (by decide)) (F119.f (A_106 hw) rfl (F36.f (A_106 hw) rfl (u29.f (Or.inr (by decide)) (u26.f (Or.inr (by decide)) (u23.f (Or.inl (mAt.ne (A_142 hw) (A_106 hw) rfl)) (u20.f (Or.inl (mAt.ne (A_131 hw) (A_106 hw) rfl)) (u17.f (Or.inl (mAt.ne (A_130 hw) (A_106 hw) rfl)) (u14.f (Or.inl (mAt.ne (A_127 hw) (A_106 hw) rfl)) (u11.f (Or.inr (by decide)) q2))))))))))) ?_
            refine mr_bipush (pc := 129) (z := 12) dX12_policy_129 (by decide) ?_
            refine mr_icmp_ne (pc := 131) (tgt := 137) dX12_policy_131 (by decide) (r32 h3 rfl) (r32 (rR (x := 12)) rfl) (fun h148 => ?_) (fun h148 => ?_)
            · have h149 : 0 ≤ z1 ∧ z1 ≤ 11 := (vc_X12_policy_Wx_2 h148 h3)
              refine sv_aload_n (pc := 137) dX12_policy_137 rfl rfl ?_
              refine sv_dup (pc := 138) dX12_policy_138 rfl ?_
              refine gk_X12_39 (pc := 139) dX12_policy_139 wF_X12_355 (A_106 hw) (u144.f (Or.inr (by decide)) (u141.f (Or.inr (by decide)) (F119.f (A_106 hw) rfl (F36.f (A_106 hw) rfl (u29.f (Or.inr (by decide)) (u26.f (Or.inr (by decide)) (u23.f (Or.inl (mAt.ne (A_142 hw) (A_106 hw) rfl)) (u20.f (Or.inl (mAt.ne (A_131 hw) (A_106 hw) rfl)) (u17.f (Or.inl (mAt.ne (A_130 hw) (A_106 hw) rfl)) (u14.f (Or.inl (mAt.ne (A_127 hw) (A_106 hw) rfl)) (u11.f (Or.inr (by decide)) q2))))))))))) ?_
              refine mr_iconst (pc := 142) (z := 1) dX12_policy_142 ?_
              refine mr_iadd (pc := 143) (x := z1) (y := 1) dX12_policy_143 ?_
              refine pf_X12_39 (pc := 144) dX12_policy_144 wF_X12_355 (A_106 hw) T145 (rW (c := 0) (d := 12) (rAdd (e := 1) (f := 12) h149 (rR (x := 1)) rfl) rfl) fun μ150 u151 T152 => ?_
              refine sv_aload_n (pc := 147) dX12_policy_147 rfl rfl ?_
              refine gk_X12_39 (pc := 148) dX12_policy_148 wF_X12_355 (A_106 hw) u151.1 ?_
              refine mr_iconst (pc := 151) (z := 1) dX12_policy_151 ?_
              refine mr_isub (pc := 152) (x := (z1 + 1)) (y := 1) dX12_policy_152 ?_
              exact mr_iret dX12_policy_153 rfl (le_t rfl) (le_t rfl) T152 (mF.up (mF.up (mF.up (mF.call (mF.call (mF.up (mF.up (mF.up (mF.up (mF.up (mF.up (mF.up mF.refl (A_106 hw) u11 rfl) (A_127 hw) u14 rfl) (A_130 hw) u17 rfl) (A_131 hw) u20 rfl) (A_142 hw) u23 rfl) (A_106 hw) u26 rfl) (A_106 hw) u29 rfl) F36 rfl) F119 rfl) (A_106 hw) u141 rfl) (A_106 hw) u144 rfl) (A_106 hw) u151 rfl) ⟨(rW (c := (-2147483648)) (d := 2147483647) (rSub (e := 0) (f := 11) (rAdd (e := 1) (f := 12) h149 (rR (x := 1)) rfl) (rR (x := 1)) rfl) rfl), ((((((W139) μ140 u141 T142) μ143 u144 T145).1 h146).1 h148) μ150 u151 T152), trivial⟩
            have h153 : 12 ≤ z1 ∧ z1 ≤ 12 := (vc_X12_policy_Wx_3 h148 h3)
            refine mr_bipush (pc := 134) (z := (-3)) dX12_policy_134 (by decide) ?_
            exact mr_iret dX12_policy_136 rfl (le_t rfl) (le_t rfl) T145 (mF.up (mF.up (mF.call (mF.call (mF.up (mF.up (mF.up (mF.up (mF.up (mF.up (mF.up mF.refl (A_106 hw) u11 rfl) (A_127 hw) u14 rfl) (A_130 hw) u17 rfl) (A_131 hw) u20 rfl) (A_142 hw) u23 rfl) (A_106 hw) u26 rfl) (A_106 hw) u29 rfl) F36 rfl) F119 rfl) (A_106 hw) u141 rfl) (A_106 hw) u144 rfl) ⟨(rW (c := (-2147483648)) (d := 2147483647) (rR (x := (-3))) rfl), (((((W139) μ140 u141 T142) μ143 u144 T145).1 h146).2 h148), trivial⟩
          have h154 : 1 ≤ z124 ∧ z124 ≤ 4 := (vc_X12_wrong_v_1 h146 h126)
          refine mr_bipush (pc := 117) (z := (-10)) dX12_policy_117 (by decide) ?_
          refine sv_aload_n (pc := 119) dX12_policy_119 rfl rfl ?_
          refine gf_X12_38 (pc := 120) dX12_policy_120 wF_X12_221 (A_106 hw) T145 fun z155 q156 h157 => ?_
          refine mr_isub (pc := 123) (x := (-10)) (y := z155) dX12_policy_123 ?_
          exact mr_iret dX12_policy_124 rfl (le_t rfl) (le_t rfl) T145 (mF.up (mF.up (mF.call (mF.call (mF.up (mF.up (mF.up (mF.up (mF.up (mF.up (mF.up mF.refl (A_106 hw) u11 rfl) (A_127 hw) u14 rfl) (A_130 hw) u17 rfl) (A_131 hw) u20 rfl) (A_142 hw) u23 rfl) (A_106 hw) u26 rfl) (A_106 hw) u29 rfl) F36 rfl) F119 rfl) (A_106 hw) u141 rfl) (A_106 hw) u144 rfl) ⟨(rW (c := (-2147483648)) (d := 2147483647) (rSub (e := (-1010)) (f := (-10)) (rR (x := (-10))) h157 rfl) rfl), (((((W139) μ140 u141 T142) μ143 u144 T145).2 h146) z155 q156 h157), trivial⟩
        refine mr_if_ne (pc := 80) (tgt := 97) dX12_policy_80 (by decide) (r32 h126 rfl) (fun h158 => ?_) (fun h158 => ?_)
        · have h159 : 1 ≤ z124 ∧ z124 ≤ 4 := (vc_X12_wrong_v_1 h158 h126)
          exact J138 (((W122 μ116 rfl  T118 F119) z124 q125 h126).1 h158)
        have h160 : 0 ≤ z124 ∧ z124 ≤ 0 := (vc_X12_wrong_v_5 h158 h126)
        refine sv_aload_n (pc := 83) dX12_policy_83 rfl rfl ?_
        refine gf_X12_35 (pc := 84) dX12_policy_84 wF_X12_230 (A_106 hw) T118 fun z161 q162 h163 => ?_
        refine mr_if_eq (pc := 87) (tgt := 97) dX12_policy_87 (by decide) (r32 h163 rfl) (fun h164 => ?_) (fun h164 => ?_)
        · have h165 : 0 ≤ z161 ∧ z161 ≤ 0 := (vc_X12_part_42 h164 h163)
          exact J138 (((((W122 μ116 rfl  T118 F119) z124 q125 h126).2 h158) z161 q162 h163).1 h164)
        have h166 : 1 ≤ z161 ∧ z161 ≤ 3 := (vc_X12_part_41 h164 h163)
        refine sv_aload_n (pc := 90) dX12_policy_90 rfl rfl ?_
        refine mr_cVV (pc := 91) (c_X12_rowRead_Wx hw T118 (((((W122 μ116 rfl  T118 F119) z124 q125 h126).2 h158) z161 q162 h163).2 h164)) (gOk _ _ _ _ _) dX12_policy_91 (tX12_rowRead _ _ _ _ _) ⟨wV_X12_rowRead, wL_X12_rowRead⟩ wM_X12_373 (gCX12 _ _ _ _ _) rfl (A_106 hw) rfl ⟨le_t rfl, le_t rfl⟩ ⟨le_t rfl, le_t rfl⟩ rfl (le_t rfl) fun μ167 T168 F169 h170 => ?_
        refine sv_goto (pc := 94) (tgt := 76) dX12_policy_94 (by decide) ?_
        exact ih123 μ167 T168 (mF.call (mF.call mF.refl F119 rfl) F169 rfl) trivial (h170.1 T168 F169)
    exact L117 1010 μ34 T35 mF.refl trivial ((((((((((((((((W9 h7) μ10 u11 T12) μ13 u14 T15) μ16 u17 T18) μ19 u20 T21) μ22 u23 T24) μ25 u26 T27) μ28 u29 T30) z31 q32 h33) μ34 F36 T35) z38 q39) z40 q41) z42 q43) z44 q45) z46 q47) h48.2.2.2.2.2.2.2.1)
  refine mr_icmp_ge (pc := 7) (tgt := 17) dX12_policy_7 (by decide) (r32 h3 rfl) (r32 (rR (x := 12)) rfl) (fun h171 => ?_) (fun h171 => ?_)
  · have h172 : 12 ≤ z1 ∧ z1 ≤ 12 := (vc_X12_policy_Wx_7 h171 h3)
    refine mr_bipush (pc := 17) (z := 12) dX12_policy_17 (by decide) ?_
    exact J8 12 (rW (c := 0) (d := 12) (rR (x := 12)) rfl) ((hQ z1 q2 h3).1 h171)
  have h173 : 0 ≤ z1 ∧ z1 ≤ 11 := (vc_X12_policy_Wx_8 h171 h3)
  refine sv_aload_n (pc := 10) dX12_policy_10 rfl rfl ?_
  refine gk_X12_39 (pc := 11) dX12_policy_11 wF_X12_355 (A_106 hw) q2 ?_
  refine sv_goto (pc := 14) (tgt := 19) dX12_policy_14 (by decide) ?_
  exact J8 z1 (rW (c := 0) (d := 12) h173 rfl) ((hQ z1 q2 h3).2 h171)
def WP_X12_why_Wx (w : mW) (μ : mM) (p1 : Int) (p2 : Int) (p3 : Int) (Q : Int → mM → Prop) : Prop := ∀ z1 : Int, μ 106 6 = z1 → (0 ≤ z1 ∧ z1 ≤ 20) → WP_X12_isTie_W w μ p1 (fun z8 _ => (0 ≤ z8 ∧ z8 ≤ 1) → ((z8 = 0) → Q ((-1) : Int) μ) ∧ ((¬ z8 = 0) → WP_X12_in_W w μ p2 (0) (1) (fun z20 _ => (0 ≤ z20 ∧ z20 ≤ 1) → ((z20 = 0) → Q ((-1) : Int) μ) ∧ ((¬ z20 = 0) → ∀ z27 : Int, μ 106 2 = z27 → (0 ≤ z27 ∧ z27 ≤ 10) → WP_X12_isPrefix_W w μ p3 (fun z34 _ => (0 ≤ z34 ∧ z34 ≤ 1) → ((¬ z34 = 0) → ∀ z40 : Int, μ 110 ((2 * p1).toNat) = z40 → (0 ≤ z40 ∧ z40 ≤ 9) → ∀ z43 : Int, μ 110 (((2 * p1) + 1).toNat) = z43 → (0 ≤ z43 ∧ z43 ≤ 9) → ((p2 = 0) → WP_X12_slot_W w μ p1 p2 p3 (fun z52 _ => (0 ≤ z52 ∧ z52 ≤ 449) → ∀ z54 : Int, μ 126 ((40 * (130 + z52)).toNat) = z54 → ((-2147483648 ≤ z54 ∧ z54 ≤ 2147483647) ∧ ((40 * (130 + z52)) % 40 = 0 → -1 ≤ z54 ∧ z54 ≤ 9) ∧ ((40 * (130 + z52)) % 40 = 4 → 0 ≤ z54 ∧ z54 ≤ 20) ∧ ((40 * (130 + z52)) % 40 = 5 → 0 ≤ z54 ∧ z54 ≤ 8)) → WP_X12_isThere_W w μ (130 + z52) (fun z62 _ => (0 ≤ z62 ∧ z62 ≤ 1) → ((¬ z62 = 0) → ∀ z67 : Int, μ 161 (((10 * z40) + p3).toNat) = z67 → (z67 = -99999999 ∨ z67 = -4 ∨ (0 ≤ z67 ∧ z67 ≤ 19)) → ((¬ z67 = p1) → ((¬ z67 = (-4)) → WP_X12_candidate_W w μ z40 p1 p3 (fun z77 μ73 => mT w μ73 → mF [106026, 106027, 106028, 106029, 106030, 106031, 126999, 151999, 152999, 153999] w μ μ73 → ((-99999999) ≤ z77 ∧ z77 ≤ 10) → ((z77 = 0) → ((0 : Int) ≤ z67) ∧ ∀ _ : True, WP_X12_unlike_W w μ73 z40 (4 + p1) p1 (30 + ((10 * z40) + p3)) z67 p3 (fun z86 _ => ((-9) ≤ z86 ∧ z86 ≤ 9) → ((¬ z86 = 0) → ((0 ≤ z86) → Q z86 μ73) ∧ ((z86 < 0) → Q (0 - z86) μ73)) ∧ ((z86 = 0) → Q (7 : Int) μ73))) ∧ ((¬ z77 = 0) → Q z77 μ73))) ∧ ((z67 = (-4)) → Q (8 : Int) μ)) ∧ ((z67 = p1) → Q (0 : Int) μ)) ∧ ((z62 = 0) → Q ((-99999999) : Int) μ)))) ∧ (¬ (p2 = 0) → WP_X12_slot_W w μ p1 p2 p3 (fun z107 _ => (0 ≤ z107 ∧ z107 ≤ 449) → ∀ z109 : Int, μ 126 ((40 * (130 + z107)).toNat) = z109 → ((-2147483648 ≤ z109 ∧ z109 ≤ 2147483647) ∧ ((40 * (130 + z107)) % 40 = 0 → -1 ≤ z109 ∧ z109 ≤ 9) ∧ ((40 * (130 + z107)) % 40 = 4 → 0 ≤ z109 ∧ z109 ≤ 20) ∧ ((40 * (130 + z107)) % 40 = 5 → 0 ≤ z109 ∧ z109 ≤ 8)) → WP_X12_isThere_W w μ (130 + z107) (fun z117 _ => (0 ≤ z117 ∧ z117 ≤ 1) → ((¬ z117 = 0) → ∀ z122 : Int, μ 161 (((10 * z43) + p3).toNat) = z122 → (z122 = -99999999 ∨ z122 = -4 ∨ (0 ≤ z122 ∧ z122 ≤ 19)) → ((¬ z122 = p1) → ((¬ z122 = (-4)) → WP_X12_candidate_W w μ z43 p1 p3 (fun z132 μ128 => mT w μ128 → mF [106026, 106027, 106028, 106029, 106030, 106031, 126999, 151999, 152999, 153999] w μ μ128 → ((-99999999) ≤ z132 ∧ z132 ≤ 10) → ((z132 = 0) → ((0 : Int) ≤ z122) ∧ ∀ _ : True, WP_X12_unlike_W w μ128 z43 (4 + p1) p1 (30 + ((10 * z43) + p3)) z122 p3 (fun z141 _ => ((-9) ≤ z141 ∧ z141 ≤ 9) → ((¬ z141 = 0) → ((0 ≤ z141) → Q z141 μ128) ∧ ((z141 < 0) → Q (0 - z141) μ128)) ∧ ((z141 = 0) → Q (7 : Int) μ128))) ∧ ((¬ z132 = 0) → Q z132 μ128))) ∧ ((z122 = (-4)) → Q (8 : Int) μ)) ∧ ((z122 = p1) → Q (0 : Int) μ)) ∧ ((z117 = 0) → Q ((-99999999) : Int) μ))))) ∧ ((z34 = 0) → Q ((-1) : Int) μ))))))
theorem vc_X12_why_Wx_18 {p1 p2 p3 z20 z27 z34 z52 : Int} (h0 : z52 = (((20 * p1) + (10 * p2)) + p3)) (h1 : (z20 = 1 → (0 : Int) ≤ p2 ∧ p2 ≤ (1 : Int))) (h2 : (z20 = 0 → p2 < (0 : Int) ∨ (1 : Int) < p2)) (h3 : (0 : Int) ≤ p2 ∧ p2 ≤ (1 : Int)) (h4 : (z34 = 1 → 0 ≤ p3 ∧ p3 < z27)) (h5 : (z34 = 0 → p3 < 0 ∨ z27 ≤ p3)) (h6 : 0 ≤ p3 ∧ p3 < z27) (h7 : p2 = 0) (h8 : 0 ≤ p1 ∧ p1 ≤ 19) (h9 : 0 ≤ p2 ∧ p2 ≤ 0) (h10 : 0 ≤ p3 ∧ p3 ≤ 9) (h11 : 1 ≤ z20 ∧ z20 ≤ 1) (h12 : 1 ≤ z27 ∧ z27 ≤ 10) (h13 : 1 ≤ z34 ∧ z34 ≤ 1) (h14 : 0 ≤ z52 ∧ z52 ≤ 449) : 0 ≤ z52 ∧ z52 ≤ 389 := by omega
theorem vc_X12_why_Wx_19 {p1 p2 p3 z1 z20 z27 z34 z52 z8 : Int} (h0 : z52 = (((20 * p1) + (10 * p2)) + p3)) (h1 : (z8 = 1 → 0 ≤ p1 ∧ p1 < z1)) (h2 : (z8 = 0 → p1 < 0 ∨ z1 ≤ p1)) (h3 : 0 ≤ p1 ∧ p1 < z1) (h4 : (z20 = 1 → (0 : Int) ≤ p2 ∧ p2 ≤ (1 : Int))) (h5 : (z20 = 0 → p2 < (0 : Int) ∨ (1 : Int) < p2)) (h6 : (0 : Int) ≤ p2 ∧ p2 ≤ (1 : Int)) (h7 : (z34 = 1 → 0 ≤ p3 ∧ p3 < z27)) (h8 : (z34 = 0 → p3 < 0 ∨ z27 ≤ p3)) (h9 : 0 ≤ p3 ∧ p3 < z27) (h10 : p2 = 0) (h11 : 0 ≤ p1 ∧ p1 ≤ 19) (h12 : 0 ≤ p2 ∧ p2 ≤ 0) (h13 : 0 ≤ p3 ∧ p3 ≤ 9) (h14 : 1 ≤ z1 ∧ z1 ≤ 20) (h15 : 1 ≤ z20 ∧ z20 ≤ 1) (h16 : 1 ≤ z27 ∧ z27 ≤ 10) (h17 : 1 ≤ z34 ∧ z34 ≤ 1) (h18 : 0 ≤ z52 ∧ z52 ≤ 389) (h19 : 1 ≤ z8 ∧ z8 ≤ 1) : 0 ≤ (40 * (130 + z52)) := by omega
theorem vc_X12_why_Wx_20 {p1 p2 p3 z1 z20 z27 z34 z52 z8 : Int} (h0 : z52 = (((20 * p1) + (10 * p2)) + p3)) (h1 : (z8 = 1 → 0 ≤ p1 ∧ p1 < z1)) (h2 : (z8 = 0 → p1 < 0 ∨ z1 ≤ p1)) (h3 : 0 ≤ p1 ∧ p1 < z1) (h4 : (z20 = 1 → (0 : Int) ≤ p2 ∧ p2 ≤ (1 : Int))) (h5 : (z20 = 0 → p2 < (0 : Int) ∨ (1 : Int) < p2)) (h6 : (0 : Int) ≤ p2 ∧ p2 ≤ (1 : Int)) (h7 : (z34 = 1 → 0 ≤ p3 ∧ p3 < z27)) (h8 : (z34 = 0 → p3 < 0 ∨ z27 ≤ p3)) (h9 : 0 ≤ p3 ∧ p3 < z27) (h10 : p2 = 0) (h11 : 0 ≤ p1 ∧ p1 ≤ 19) (h12 : 0 ≤ p2 ∧ p2 ≤ 0) (h13 : 0 ≤ p3 ∧ p3 ≤ 9) (h14 : 1 ≤ z1 ∧ z1 ≤ 20) (h15 : 1 ≤ z20 ∧ z20 ≤ 1) (h16 : 1 ≤ z27 ∧ z27 ≤ 10) (h17 : 1 ≤ z34 ∧ z34 ≤ 1) (h18 : 0 ≤ z52 ∧ z52 ≤ 389) (h19 : 1 ≤ z8 ∧ z8 ≤ 1) : (40 * (130 + z52)) % 40 = 0 := by omega
theorem vc_X12_why_Wx_25 {p1 p2 p3 z1 z20 z27 z34 z52 z67 z8 : Int} (h0 : (z8 = 1 → 0 ≤ p1 ∧ p1 < z1)) (h1 : (z8 = 0 → p1 < 0 ∨ z1 ≤ p1)) (h2 : 0 ≤ p1 ∧ p1 < z1) (h3 : z52 = (((20 * p1) + (10 * p2)) + p3)) (h4 : ¬ z67 = p1) (h5 : ¬ z8 = 0) (h6 : (z20 = 1 → (0 : Int) ≤ p2 ∧ p2 ≤ (1 : Int))) (h7 : (z20 = 0 → p2 < (0 : Int) ∨ (1 : Int) < p2)) (h8 : (0 : Int) ≤ p2 ∧ p2 ≤ (1 : Int)) (h9 : (z34 = 1 → 0 ≤ p3 ∧ p3 < z27)) (h10 : (z34 = 0 → p3 < 0 ∨ z27 ≤ p3)) (h11 : 0 ≤ p3 ∧ p3 < z27) (h12 : p2 = 0) (h13 : ¬ z67 = (-4)) (h14 : 0 ≤ p1 ∧ p1 ≤ 19) (h15 : 0 ≤ p2 ∧ p2 ≤ 0) (h16 : 0 ≤ p3 ∧ p3 ≤ 9) (h17 : 1 ≤ z1 ∧ z1 ≤ 20) (h18 : 1 ≤ z20 ∧ z20 ≤ 1) (h19 : 1 ≤ z27 ∧ z27 ≤ 10) (h20 : 1 ≤ z34 ∧ z34 ≤ 1) (h21 : 0 ≤ z52 ∧ z52 ≤ 389) (h22 : (-99999999) ≤ z67 ∧ z67 ≤ 19) (h23 : z67 = -99999999 ∨ z67 = -4 ∨ (0 ≤ z67 ∧ z67 ≤ 19)) (h24 : 1 ≤ z8 ∧ z8 ≤ 1) : p1 < z1 := by omega
theorem vc_X12_why_Wx_27 {z77 : Int} (h0 : z77 = 0) (h1 : (-99999999) ≤ z77 ∧ z77 ≤ 10) : 0 ≤ z77 ∧ z77 ≤ 0 := by omega
theorem vc_X12_why_Wx_28 {p1 z67 : Int} (h0 : 0 ≤ z67) (h1 : ¬ z67 = p1) (h2 : ¬ z67 = (-4)) (h3 : 0 ≤ p1 ∧ p1 ≤ 19) (h4 : (-99999999) ≤ z67 ∧ z67 ≤ 19) (h5 : z67 = -99999999 ∨ z67 = -4 ∨ (0 ≤ z67 ∧ z67 ≤ 19)) : 0 ≤ z67 ∧ z67 ≤ 19 := by omega
theorem vc_X12_why_Wx_29 {z86 : Int} (h0 : 0 ≤ z86) (h1 : ¬ z86 = 0) (h2 : (-9) ≤ z86 ∧ z86 ≤ 9) : 0 ≤ z86 ∧ z86 ≤ 9 := by omega
theorem vc_X12_why_Wx_30 {p1 p2 p3 z1 z20 z27 z34 z52 z67 z8 : Int} (h0 : (z8 = 1 → 0 ≤ p1 ∧ p1 < z1)) (h1 : (z8 = 0 → p1 < 0 ∨ z1 ≤ p1)) (h2 : 0 ≤ p1 ∧ p1 < z1) (h3 : z52 = (((20 * p1) + (10 * p2)) + p3)) (h4 : ¬ z67 = p1) (h5 : ¬ z8 = 0) (h6 : (z20 = 1 → (0 : Int) ≤ p2 ∧ p2 ≤ (1 : Int))) (h7 : (z20 = 0 → p2 < (0 : Int) ∨ (1 : Int) < p2)) (h8 : (0 : Int) ≤ p2 ∧ p2 ≤ (1 : Int)) (h9 : (z34 = 1 → 0 ≤ p3 ∧ p3 < z27)) (h10 : (z34 = 0 → p3 < 0 ∨ z27 ≤ p3)) (h11 : 0 ≤ p3 ∧ p3 < z27) (h12 : p2 = 0) (h13 : ¬ z67 = (-4)) (h14 : 0 ≤ z67) (h15 : 0 ≤ p1 ∧ p1 ≤ 19) (h16 : 0 ≤ p2 ∧ p2 ≤ 0) (h17 : 0 ≤ p3 ∧ p3 ≤ 9) (h18 : 1 ≤ z1 ∧ z1 ≤ 20) (h19 : 1 ≤ z20 ∧ z20 ≤ 1) (h20 : 1 ≤ z27 ∧ z27 ≤ 10) (h21 : 1 ≤ z34 ∧ z34 ≤ 1) (h22 : 0 ≤ z52 ∧ z52 ≤ 389) (h23 : 0 ≤ z67 ∧ z67 ≤ 19) (h24 : z67 = -99999999 ∨ z67 = -4 ∨ (0 ≤ z67 ∧ z67 ≤ 19)) (h25 : 1 ≤ z8 ∧ z8 ≤ 1) : ((40 * p1) + 160) ≤ ((40 * p1) + 160) ∧ ((40 * p1) + 200) ≤ ((40 * p1) + 200) := by omega
theorem vc_X12_why_Wx_31 {p1 p2 p3 z1 z20 z27 z34 z52 z67 z8 : Int} (h0 : (z8 = 1 → 0 ≤ p1 ∧ p1 < z1)) (h1 : (z8 = 0 → p1 < 0 ∨ z1 ≤ p1)) (h2 : 0 ≤ p1 ∧ p1 < z1) (h3 : z52 = (((20 * p1) + (10 * p2)) + p3)) (h4 : ¬ z67 = p1) (h5 : ¬ z8 = 0) (h6 : (z20 = 1 → (0 : Int) ≤ p2 ∧ p2 ≤ (1 : Int))) (h7 : (z20 = 0 → p2 < (0 : Int) ∨ (1 : Int) < p2)) (h8 : (0 : Int) ≤ p2 ∧ p2 ≤ (1 : Int)) (h9 : (z34 = 1 → 0 ≤ p3 ∧ p3 < z27)) (h10 : (z34 = 0 → p3 < 0 ∨ z27 ≤ p3)) (h11 : 0 ≤ p3 ∧ p3 < z27) (h12 : p2 = 0) (h13 : ¬ z67 = (-4)) (h14 : 0 ≤ z67) (h15 : 0 ≤ p1 ∧ p1 ≤ 19) (h16 : 0 ≤ p2 ∧ p2 ≤ 0) (h17 : 0 ≤ p3 ∧ p3 ≤ 9) (h18 : 1 ≤ z1 ∧ z1 ≤ 20) (h19 : 1 ≤ z20 ∧ z20 ≤ 1) (h20 : 1 ≤ z27 ∧ z27 ≤ 10) (h21 : 1 ≤ z34 ∧ z34 ≤ 1) (h22 : 0 ≤ z52 ∧ z52 ≤ 389) (h23 : 0 ≤ z67 ∧ z67 ≤ 19) (h24 : z67 = -99999999 ∨ z67 = -4 ∨ (0 ≤ z67 ∧ z67 ≤ 19)) (h25 : 1 ≤ z8 ∧ z8 ≤ 1) : (1 ≤ ((40 * p1) + 160) ∧ ((40 * p1) + 200) ≤ 1200) ∨ 5200 ≤ ((40 * p1) + 160) := by omega
theorem vc_X12_why_Wx_32 {z86 : Int} (h0 : z86 < 0) (h1 : ¬ z86 = 0) (h2 : (-9) ≤ z86 ∧ z86 ≤ 9) : (-9) ≤ z86 ∧ z86 ≤ (-1) := by omega
theorem vc_X12_why_Wx_34 {p1 p2 p3 z1 z20 z27 z34 z52 z67 z8 : Int} (h0 : (z8 = 1 → 0 ≤ p1 ∧ p1 < z1)) (h1 : (z8 = 0 → p1 < 0 ∨ z1 ≤ p1)) (h2 : 0 ≤ p1 ∧ p1 < z1) (h3 : z52 = (((20 * p1) + (10 * p2)) + p3)) (h4 : ¬ z67 = p1) (h5 : ¬ z8 = 0) (h6 : (z20 = 1 → (0 : Int) ≤ p2 ∧ p2 ≤ (1 : Int))) (h7 : (z20 = 0 → p2 < (0 : Int) ∨ (1 : Int) < p2)) (h8 : (0 : Int) ≤ p2 ∧ p2 ≤ (1 : Int)) (h9 : (z34 = 1 → 0 ≤ p3 ∧ p3 < z27)) (h10 : (z34 = 0 → p3 < 0 ∨ z27 ≤ p3)) (h11 : 0 ≤ p3 ∧ p3 < z27) (h12 : p2 = 0) (h13 : ¬ z67 = (-4)) (h14 : 0 ≤ p1 ∧ p1 ≤ 19) (h15 : 0 ≤ p2 ∧ p2 ≤ 0) (h16 : 0 ≤ p3 ∧ p3 ≤ 9) (h17 : 1 ≤ z1 ∧ z1 ≤ 20) (h18 : 1 ≤ z20 ∧ z20 ≤ 1) (h19 : 1 ≤ z27 ∧ z27 ≤ 10) (h20 : 1 ≤ z34 ∧ z34 ≤ 1) (h21 : 0 ≤ z52 ∧ z52 ≤ 389) (h22 : (-99999999) ≤ z67 ∧ z67 ≤ 19) (h23 : z67 = -99999999 ∨ z67 = -4 ∨ (0 ≤ z67 ∧ z67 ≤ 19)) (h24 : 1 ≤ z8 ∧ z8 ≤ 1) : ((40 * p1) + 160) ≤ ((40 * p1) + 160) ∧ ((40 * p1) + 200) ≤ ((40 * p1) + 200) := by omega
theorem vc_X12_why_Wx_35 {p1 p2 p3 z1 z20 z27 z34 z52 z67 z8 : Int} (h0 : (z8 = 1 → 0 ≤ p1 ∧ p1 < z1)) (h1 : (z8 = 0 → p1 < 0 ∨ z1 ≤ p1)) (h2 : 0 ≤ p1 ∧ p1 < z1) (h3 : z52 = (((20 * p1) + (10 * p2)) + p3)) (h4 : ¬ z67 = p1) (h5 : ¬ z8 = 0) (h6 : (z20 = 1 → (0 : Int) ≤ p2 ∧ p2 ≤ (1 : Int))) (h7 : (z20 = 0 → p2 < (0 : Int) ∨ (1 : Int) < p2)) (h8 : (0 : Int) ≤ p2 ∧ p2 ≤ (1 : Int)) (h9 : (z34 = 1 → 0 ≤ p3 ∧ p3 < z27)) (h10 : (z34 = 0 → p3 < 0 ∨ z27 ≤ p3)) (h11 : 0 ≤ p3 ∧ p3 < z27) (h12 : p2 = 0) (h13 : ¬ z67 = (-4)) (h14 : 0 ≤ p1 ∧ p1 ≤ 19) (h15 : 0 ≤ p2 ∧ p2 ≤ 0) (h16 : 0 ≤ p3 ∧ p3 ≤ 9) (h17 : 1 ≤ z1 ∧ z1 ≤ 20) (h18 : 1 ≤ z20 ∧ z20 ≤ 1) (h19 : 1 ≤ z27 ∧ z27 ≤ 10) (h20 : 1 ≤ z34 ∧ z34 ≤ 1) (h21 : 0 ≤ z52 ∧ z52 ≤ 389) (h22 : (-99999999) ≤ z67 ∧ z67 ≤ 19) (h23 : z67 = -99999999 ∨ z67 = -4 ∨ (0 ≤ z67 ∧ z67 ≤ 19)) (h24 : 1 ≤ z8 ∧ z8 ≤ 1) : (1 ≤ ((40 * p1) + 160) ∧ ((40 * p1) + 200) ≤ 1200) ∨ 5200 ≤ ((40 * p1) + 160) := by omega
theorem vc_X12_why_Wx_36 {p1 z67 : Int} (h0 : z67 = (-4)) (h1 : ¬ z67 = p1) (h2 : 0 ≤ p1 ∧ p1 ≤ 19) (h3 : (-99999999) ≤ z67 ∧ z67 ≤ 19) (h4 : z67 = -99999999 ∨ z67 = -4 ∨ (0 ≤ z67 ∧ z67 ≤ 19)) : (-4) ≤ z67 ∧ z67 ≤ (-4) := by omega
theorem vc_X12_why_Wx_37 {p1 p2 p3 z1 z52 z67 z8 : Int} (h0 : z67 = p1) (h1 : (z8 = 1 → 0 ≤ p1 ∧ p1 < z1)) (h2 : (z8 = 0 → p1 < 0 ∨ z1 ≤ p1)) (h3 : 0 ≤ p1 ∧ p1 < z1) (h4 : z52 = (((20 * p1) + (10 * p2)) + p3)) (h5 : 0 ≤ p1 ∧ p1 ≤ 19) (h6 : 0 ≤ p2 ∧ p2 ≤ 0) (h7 : 0 ≤ p3 ∧ p3 ≤ 9) (h8 : 1 ≤ z1 ∧ z1 ≤ 20) (h9 : 0 ≤ z52 ∧ z52 ≤ 389) (h10 : (-99999999) ≤ z67 ∧ z67 ≤ 19) (h11 : z67 = -99999999 ∨ z67 = -4 ∨ (0 ≤ z67 ∧ z67 ≤ 19)) (h12 : 1 ≤ z8 ∧ z8 ≤ 1) : 0 ≤ z67 ∧ z67 ≤ 19 := by omega
theorem vc_X12_why_Wx_43 {p1 p2 p3 z107 z20 z27 z34 : Int} (h0 : z107 = (((20 * p1) + (10 * p2)) + p3)) (h1 : (z20 = 1 → (0 : Int) ≤ p2 ∧ p2 ≤ (1 : Int))) (h2 : (z20 = 0 → p2 < (0 : Int) ∨ (1 : Int) < p2)) (h3 : (0 : Int) ≤ p2 ∧ p2 ≤ (1 : Int)) (h4 : (z34 = 1 → 0 ≤ p3 ∧ p3 < z27)) (h5 : (z34 = 0 → p3 < 0 ∨ z27 ≤ p3)) (h6 : 0 ≤ p3 ∧ p3 < z27) (h7 : ¬ p2 = 0) (h8 : 0 ≤ p1 ∧ p1 ≤ 19) (h9 : 1 ≤ p2 ∧ p2 ≤ 1) (h10 : 0 ≤ p3 ∧ p3 ≤ 9) (h11 : 0 ≤ z107 ∧ z107 ≤ 449) (h12 : 1 ≤ z20 ∧ z20 ≤ 1) (h13 : 1 ≤ z27 ∧ z27 ≤ 10) (h14 : 1 ≤ z34 ∧ z34 ≤ 1) : 10 ≤ z107 ∧ z107 ≤ 399 := by omega
theorem vc_X12_why_Wx_44 {p1 p2 p3 z1 z107 z20 z27 z34 z8 : Int} (h0 : z107 = (((20 * p1) + (10 * p2)) + p3)) (h1 : (z8 = 1 → 0 ≤ p1 ∧ p1 < z1)) (h2 : (z8 = 0 → p1 < 0 ∨ z1 ≤ p1)) (h3 : 0 ≤ p1 ∧ p1 < z1) (h4 : (z20 = 1 → (0 : Int) ≤ p2 ∧ p2 ≤ (1 : Int))) (h5 : (z20 = 0 → p2 < (0 : Int) ∨ (1 : Int) < p2)) (h6 : (0 : Int) ≤ p2 ∧ p2 ≤ (1 : Int)) (h7 : (z34 = 1 → 0 ≤ p3 ∧ p3 < z27)) (h8 : (z34 = 0 → p3 < 0 ∨ z27 ≤ p3)) (h9 : 0 ≤ p3 ∧ p3 < z27) (h10 : ¬ p2 = 0) (h11 : 0 ≤ p1 ∧ p1 ≤ 19) (h12 : 1 ≤ p2 ∧ p2 ≤ 1) (h13 : 0 ≤ p3 ∧ p3 ≤ 9) (h14 : 1 ≤ z1 ∧ z1 ≤ 20) (h15 : 10 ≤ z107 ∧ z107 ≤ 399) (h16 : 1 ≤ z20 ∧ z20 ≤ 1) (h17 : 1 ≤ z27 ∧ z27 ≤ 10) (h18 : 1 ≤ z34 ∧ z34 ≤ 1) (h19 : 1 ≤ z8 ∧ z8 ≤ 1) : 0 ≤ (40 * (130 + z107)) := by omega
theorem vc_X12_why_Wx_45 {p1 p2 p3 z1 z107 z20 z27 z34 z8 : Int} (h0 : z107 = (((20 * p1) + (10 * p2)) + p3)) (h1 : (z8 = 1 → 0 ≤ p1 ∧ p1 < z1)) (h2 : (z8 = 0 → p1 < 0 ∨ z1 ≤ p1)) (h3 : 0 ≤ p1 ∧ p1 < z1) (h4 : (z20 = 1 → (0 : Int) ≤ p2 ∧ p2 ≤ (1 : Int))) (h5 : (z20 = 0 → p2 < (0 : Int) ∨ (1 : Int) < p2)) (h6 : (0 : Int) ≤ p2 ∧ p2 ≤ (1 : Int)) (h7 : (z34 = 1 → 0 ≤ p3 ∧ p3 < z27)) (h8 : (z34 = 0 → p3 < 0 ∨ z27 ≤ p3)) (h9 : 0 ≤ p3 ∧ p3 < z27) (h10 : ¬ p2 = 0) (h11 : 0 ≤ p1 ∧ p1 ≤ 19) (h12 : 1 ≤ p2 ∧ p2 ≤ 1) (h13 : 0 ≤ p3 ∧ p3 ≤ 9) (h14 : 1 ≤ z1 ∧ z1 ≤ 20) (h15 : 10 ≤ z107 ∧ z107 ≤ 399) (h16 : 1 ≤ z20 ∧ z20 ≤ 1) (h17 : 1 ≤ z27 ∧ z27 ≤ 10) (h18 : 1 ≤ z34 ∧ z34 ≤ 1) (h19 : 1 ≤ z8 ∧ z8 ≤ 1) : (40 * (130 + z107)) % 40 = 0 := by omega
theorem vc_X12_why_Wx_50 {p1 p2 p3 z1 z107 z122 z20 z27 z34 z8 : Int} (h0 : (z8 = 1 → 0 ≤ p1 ∧ p1 < z1)) (h1 : (z8 = 0 → p1 < 0 ∨ z1 ≤ p1)) (h2 : 0 ≤ p1 ∧ p1 < z1) (h3 : z107 = (((20 * p1) + (10 * p2)) + p3)) (h4 : ¬ z122 = p1) (h5 : ¬ z8 = 0) (h6 : (z20 = 1 → (0 : Int) ≤ p2 ∧ p2 ≤ (1 : Int))) (h7 : (z20 = 0 → p2 < (0 : Int) ∨ (1 : Int) < p2)) (h8 : (0 : Int) ≤ p2 ∧ p2 ≤ (1 : Int)) (h9 : (z34 = 1 → 0 ≤ p3 ∧ p3 < z27)) (h10 : (z34 = 0 → p3 < 0 ∨ z27 ≤ p3)) (h11 : 0 ≤ p3 ∧ p3 < z27) (h12 : ¬ p2 = 0) (h13 : ¬ z122 = (-4)) (h14 : 0 ≤ p1 ∧ p1 ≤ 19) (h15 : 1 ≤ p2 ∧ p2 ≤ 1) (h16 : 0 ≤ p3 ∧ p3 ≤ 9) (h17 : 1 ≤ z1 ∧ z1 ≤ 20) (h18 : 10 ≤ z107 ∧ z107 ≤ 399) (h19 : (-99999999) ≤ z122 ∧ z122 ≤ 19) (h20 : z122 = -99999999 ∨ z122 = -4 ∨ (0 ≤ z122 ∧ z122 ≤ 19)) (h21 : 1 ≤ z20 ∧ z20 ≤ 1) (h22 : 1 ≤ z27 ∧ z27 ≤ 10) (h23 : 1 ≤ z34 ∧ z34 ≤ 1) (h24 : 1 ≤ z8 ∧ z8 ≤ 1) : p1 < z1 := by omega
theorem vc_X12_why_Wx_55 {p1 p2 p3 z1 z107 z122 z20 z27 z34 z8 : Int} (h0 : (z8 = 1 → 0 ≤ p1 ∧ p1 < z1)) (h1 : (z8 = 0 → p1 < 0 ∨ z1 ≤ p1)) (h2 : 0 ≤ p1 ∧ p1 < z1) (h3 : z107 = (((20 * p1) + (10 * p2)) + p3)) (h4 : ¬ z122 = p1) (h5 : ¬ z8 = 0) (h6 : (z20 = 1 → (0 : Int) ≤ p2 ∧ p2 ≤ (1 : Int))) (h7 : (z20 = 0 → p2 < (0 : Int) ∨ (1 : Int) < p2)) (h8 : (0 : Int) ≤ p2 ∧ p2 ≤ (1 : Int)) (h9 : (z34 = 1 → 0 ≤ p3 ∧ p3 < z27)) (h10 : (z34 = 0 → p3 < 0 ∨ z27 ≤ p3)) (h11 : 0 ≤ p3 ∧ p3 < z27) (h12 : ¬ p2 = 0) (h13 : ¬ z122 = (-4)) (h14 : 0 ≤ z122) (h15 : 0 ≤ p1 ∧ p1 ≤ 19) (h16 : 1 ≤ p2 ∧ p2 ≤ 1) (h17 : 0 ≤ p3 ∧ p3 ≤ 9) (h18 : 1 ≤ z1 ∧ z1 ≤ 20) (h19 : 10 ≤ z107 ∧ z107 ≤ 399) (h20 : 0 ≤ z122 ∧ z122 ≤ 19) (h21 : z122 = -99999999 ∨ z122 = -4 ∨ (0 ≤ z122 ∧ z122 ≤ 19)) (h22 : 1 ≤ z20 ∧ z20 ≤ 1) (h23 : 1 ≤ z27 ∧ z27 ≤ 10) (h24 : 1 ≤ z34 ∧ z34 ≤ 1) (h25 : 1 ≤ z8 ∧ z8 ≤ 1) : ((40 * p1) + 160) ≤ ((40 * p1) + 160) ∧ ((40 * p1) + 200) ≤ ((40 * p1) + 200) := by omega
theorem vc_X12_why_Wx_56 {p1 p2 p3 z1 z107 z122 z20 z27 z34 z8 : Int} (h0 : (z8 = 1 → 0 ≤ p1 ∧ p1 < z1)) (h1 : (z8 = 0 → p1 < 0 ∨ z1 ≤ p1)) (h2 : 0 ≤ p1 ∧ p1 < z1) (h3 : z107 = (((20 * p1) + (10 * p2)) + p3)) (h4 : ¬ z122 = p1) (h5 : ¬ z8 = 0) (h6 : (z20 = 1 → (0 : Int) ≤ p2 ∧ p2 ≤ (1 : Int))) (h7 : (z20 = 0 → p2 < (0 : Int) ∨ (1 : Int) < p2)) (h8 : (0 : Int) ≤ p2 ∧ p2 ≤ (1 : Int)) (h9 : (z34 = 1 → 0 ≤ p3 ∧ p3 < z27)) (h10 : (z34 = 0 → p3 < 0 ∨ z27 ≤ p3)) (h11 : 0 ≤ p3 ∧ p3 < z27) (h12 : ¬ p2 = 0) (h13 : ¬ z122 = (-4)) (h14 : 0 ≤ z122) (h15 : 0 ≤ p1 ∧ p1 ≤ 19) (h16 : 1 ≤ p2 ∧ p2 ≤ 1) (h17 : 0 ≤ p3 ∧ p3 ≤ 9) (h18 : 1 ≤ z1 ∧ z1 ≤ 20) (h19 : 10 ≤ z107 ∧ z107 ≤ 399) (h20 : 0 ≤ z122 ∧ z122 ≤ 19) (h21 : z122 = -99999999 ∨ z122 = -4 ∨ (0 ≤ z122 ∧ z122 ≤ 19)) (h22 : 1 ≤ z20 ∧ z20 ≤ 1) (h23 : 1 ≤ z27 ∧ z27 ≤ 10) (h24 : 1 ≤ z34 ∧ z34 ≤ 1) (h25 : 1 ≤ z8 ∧ z8 ≤ 1) : (1 ≤ ((40 * p1) + 160) ∧ ((40 * p1) + 200) ≤ 1200) ∨ 5200 ≤ ((40 * p1) + 160) := by omega
theorem vc_X12_why_Wx_59 {p1 p2 p3 z1 z107 z122 z20 z27 z34 z8 : Int} (h0 : (z8 = 1 → 0 ≤ p1 ∧ p1 < z1)) (h1 : (z8 = 0 → p1 < 0 ∨ z1 ≤ p1)) (h2 : 0 ≤ p1 ∧ p1 < z1) (h3 : z107 = (((20 * p1) + (10 * p2)) + p3)) (h4 : ¬ z122 = p1) (h5 : ¬ z8 = 0) (h6 : (z20 = 1 → (0 : Int) ≤ p2 ∧ p2 ≤ (1 : Int))) (h7 : (z20 = 0 → p2 < (0 : Int) ∨ (1 : Int) < p2)) (h8 : (0 : Int) ≤ p2 ∧ p2 ≤ (1 : Int)) (h9 : (z34 = 1 → 0 ≤ p3 ∧ p3 < z27)) (h10 : (z34 = 0 → p3 < 0 ∨ z27 ≤ p3)) (h11 : 0 ≤ p3 ∧ p3 < z27) (h12 : ¬ p2 = 0) (h13 : ¬ z122 = (-4)) (h14 : 0 ≤ p1 ∧ p1 ≤ 19) (h15 : 1 ≤ p2 ∧ p2 ≤ 1) (h16 : 0 ≤ p3 ∧ p3 ≤ 9) (h17 : 1 ≤ z1 ∧ z1 ≤ 20) (h18 : 10 ≤ z107 ∧ z107 ≤ 399) (h19 : (-99999999) ≤ z122 ∧ z122 ≤ 19) (h20 : z122 = -99999999 ∨ z122 = -4 ∨ (0 ≤ z122 ∧ z122 ≤ 19)) (h21 : 1 ≤ z20 ∧ z20 ≤ 1) (h22 : 1 ≤ z27 ∧ z27 ≤ 10) (h23 : 1 ≤ z34 ∧ z34 ≤ 1) (h24 : 1 ≤ z8 ∧ z8 ≤ 1) : ((40 * p1) + 160) ≤ ((40 * p1) + 160) ∧ ((40 * p1) + 200) ≤ ((40 * p1) + 200) := by omega
theorem vc_X12_why_Wx_60 {p1 p2 p3 z1 z107 z122 z20 z27 z34 z8 : Int} (h0 : (z8 = 1 → 0 ≤ p1 ∧ p1 < z1)) (h1 : (z8 = 0 → p1 < 0 ∨ z1 ≤ p1)) (h2 : 0 ≤ p1 ∧ p1 < z1) (h3 : z107 = (((20 * p1) + (10 * p2)) + p3)) (h4 : ¬ z122 = p1) (h5 : ¬ z8 = 0) (h6 : (z20 = 1 → (0 : Int) ≤ p2 ∧ p2 ≤ (1 : Int))) (h7 : (z20 = 0 → p2 < (0 : Int) ∨ (1 : Int) < p2)) (h8 : (0 : Int) ≤ p2 ∧ p2 ≤ (1 : Int)) (h9 : (z34 = 1 → 0 ≤ p3 ∧ p3 < z27)) (h10 : (z34 = 0 → p3 < 0 ∨ z27 ≤ p3)) (h11 : 0 ≤ p3 ∧ p3 < z27) (h12 : ¬ p2 = 0) (h13 : ¬ z122 = (-4)) (h14 : 0 ≤ p1 ∧ p1 ≤ 19) (h15 : 1 ≤ p2 ∧ p2 ≤ 1) (h16 : 0 ≤ p3 ∧ p3 ≤ 9) (h17 : 1 ≤ z1 ∧ z1 ≤ 20) (h18 : 10 ≤ z107 ∧ z107 ≤ 399) (h19 : (-99999999) ≤ z122 ∧ z122 ≤ 19) (h20 : z122 = -99999999 ∨ z122 = -4 ∨ (0 ≤ z122 ∧ z122 ≤ 19)) (h21 : 1 ≤ z20 ∧ z20 ≤ 1) (h22 : 1 ≤ z27 ∧ z27 ≤ 10) (h23 : 1 ≤ z34 ∧ z34 ≤ 1) (h24 : 1 ≤ z8 ∧ z8 ≤ 1) : (1 ≤ ((40 * p1) + 160) ∧ ((40 * p1) + 200) ≤ 1200) ∨ 5200 ≤ ((40 * p1) + 160) := by omega
theorem vc_X12_why_Wx_62 {p1 p2 p3 z1 z107 z122 z8 : Int} (h0 : z122 = p1) (h1 : (z8 = 1 → 0 ≤ p1 ∧ p1 < z1)) (h2 : (z8 = 0 → p1 < 0 ∨ z1 ≤ p1)) (h3 : 0 ≤ p1 ∧ p1 < z1) (h4 : z107 = (((20 * p1) + (10 * p2)) + p3)) (h5 : 0 ≤ p1 ∧ p1 ≤ 19) (h6 : 1 ≤ p2 ∧ p2 ≤ 1) (h7 : 0 ≤ p3 ∧ p3 ≤ 9) (h8 : 1 ≤ z1 ∧ z1 ≤ 20) (h9 : 10 ≤ z107 ∧ z107 ≤ 399) (h10 : (-99999999) ≤ z122 ∧ z122 ≤ 19) (h11 : z122 = -99999999 ∨ z122 = -4 ∨ (0 ≤ z122 ∧ z122 ≤ 19)) (h12 : 1 ≤ z8 ∧ z8 ≤ 1) : 0 ≤ z122 ∧ z122 ≤ 19 := by omega
set_option maxRecDepth 4000 in
set_option maxHeartbeats 4000000 in
theorem c_X12_why_Wx {l : Launch} {D : va_G} {c : Nat → ClassId} {H0 : Heap} {sa : Nat × Nat × (Nat → Int32)} {w : mW} {μ : mM} (hw : mWF w) (hT : mT w μ) {p1 : Int} (hp1 : (-2147483648) ≤ p1 ∧ p1 ≤ 2147483647) {p2 : Int} (hp2 : (-2147483648) ≤ p2 ∧ p2 ≤ 2147483647) {p3 : Int} (hp3 : (-2147483648) ≤ p3 ∧ p3 ≤ 2147483647) (hIG1 : G1 μ) (hIEV : EV μ) (hIPK : PK μ) {Q : Int → mM → Prop} (hQ : WP_X12_why_Wx w μ p1 p2 p3 Q) : sC (gG l D c H0 sa) mX12_why 8 0 0 [.ref 106, iv p1, iv p2, iv p3] (mk w μ) (qI w [106026, 106027, 106028, 106029, 106030, 106031, 126999, 151999, 152999, 153999] μ (fun z μ1 => ((-2147483648) ≤ z ∧ z ≤ 2147483647) ∧ G1 μ1 ∧ EV μ1 ∧ Q z μ1 ∧ True)) := by
  refine sC.of rfl (by decide) (le_t rfl) ?_
  refine mr_lvE (lv' := [(0, .ref 106), (1, iv p1), (2, iv p2), (3, iv p3)]) rfl ?_
  refine sv_aload_n (pc := 0) dX12_why_0 rfl rfl ?_
  refine mr_iload_n (pc := 1) (z := p1) dX12_why_1 rfl rfl ?_
  obtain ⟨z1, q2⟩ : ∃ z, μ 106 6 = z := ⟨_, rfl⟩
  have h3 : (0 ≤ z1 ∧ z1 ≤ 20) := by rw [← q2]; exact hT 106 106 (A_106 hw) 6
  refine mr_cVP (pc := 2) (c_X12_isTie_W hw hT hp1 q2 (hQ z1 q2 h3)) (gOk _ _ _ _ _) dX12_why_2 (tX12_isTie _ _ _ _ _) ⟨wV_X12_isTie, wL_X12_isTie⟩ wM_X12_66 (gCX12 _ _ _ _ _) rfl (A_106 hw) rfl ⟨le_t rfl, le_t rfl⟩ ⟨le_t rfl, le_t rfl⟩ rfl (le_t rfl) fun z8 h7 => ?_
  refine mr_if_eq (pc := 5) (tgt := 25) dX12_why_5 (by decide) (r32 h7.1 rfl) (fun h9 => ?_) (fun h9 => ?_)
  · have h10 : 0 ≤ z8 ∧ z8 ≤ 0 := (vc_X12_write_1 h9 h7.2.1 h7.2.2.1 hp1 h3 h7.1)
    have h11 : p1 < 0 ∨ z1 ≤ p1 := (h7.2.2.1 (vc_X12_write_2 h7.2.1 h7.2.2.1 h9 hp1 h3 h10))
    refine mr_iconst (pc := 25) (z := (-1)) dX12_why_25 ?_
    exact mr_iret dX12_why_26 rfl (le_t rfl) (le_t rfl) hT mF.refl ⟨(rW (c := (-2147483648)) (d := 2147483647) (rR (x := (-1))) rfl), hIG1, hIEV, ((h7.2.2.2.1 h7.1).1 h9), trivial⟩
  have h12 : 1 ≤ z8 ∧ z8 ≤ 1 := (vc_X12_write_3 h9 h7.2.1 h7.2.2.1 hp1 h3 h7.1)
  have h13 : 0 ≤ p1 ∧ p1 < z1 := (h7.2.1 (vc_X12_write_4 h7.2.1 h7.2.2.1 h9 hp1 h3 h12))
  have h14 : 0 ≤ p1 ∧ p1 ≤ 19 := (vc_X12_write_5 h13 h7.2.1 h7.2.2.1 hp1 h3 h12)
  have h15 : 1 ≤ z1 ∧ z1 ≤ 20 := (vc_X12_write_6 h13 h7.2.1 h7.2.2.1 h14 h3 h12)
  refine mr_iload_n (pc := 8) (z := p2) dX12_why_8 rfl rfl ?_
  refine mr_iconst (pc := 9) (z := 0) dX12_why_9 ?_
  refine mr_iconst (pc := 10) (z := 1) dX12_why_10 ?_
  refine mr_cSP (pc := 11) (c_X12_in_W hw hT hp2 (rW (c := (-2147483648)) (d := 2147483647) (rR (x := 0)) rfl) (rW (c := (-2147483648)) (d := 2147483647) (rR (x := 1)) rfl) ((h7.2.2.2.1 h7.1).2 h9)) (gOk _ _ _ _ _) dX12_why_11 (tX12_in _ _ _ _ _) wS_X12_in wM_X12_18 ⟨le_t rfl, le_t rfl⟩ ⟨le_t rfl, le_t rfl⟩ rfl (le_t rfl) fun z20 h19 => ?_
  refine mr_if_eq (pc := 14) (tgt := 25) dX12_why_14 (by decide) (r32 h19.1 rfl) (fun h21 => ?_) (fun h21 => ?_)
  · have h22 : 0 ≤ z20 ∧ z20 ≤ 0 := (vc_X12_write_7 h21 h19.2.1 h19.2.2.1 hp2 h19.1)
    have h23 : p2 < (0 : Int) ∨ (1 : Int) < p2 := (h19.2.2.1 (vc_X12_write_8 h19.2.1 h19.2.2.1 h21 hp2 h22))
    refine mr_iconst (pc := 25) (z := (-1)) dX12_why_25 ?_
    exact mr_iret dX12_why_26 rfl (le_t rfl) (le_t rfl) hT mF.refl ⟨(rW (c := (-2147483648)) (d := 2147483647) (rR (x := (-1))) rfl), hIG1, hIEV, ((h19.2.2.2.1 h19.1).1 h21), trivial⟩
  have h24 : 1 ≤ z20 ∧ z20 ≤ 1 := (vc_X12_write_9 h21 h19.2.1 h19.2.2.1 hp2 h19.1)
  have h25 : (0 : Int) ≤ p2 ∧ p2 ≤ (1 : Int) := (h19.2.1 (vc_X12_write_10 h19.2.1 h19.2.2.1 h21 hp2 h24))
  have h26 : 0 ≤ p2 ∧ p2 ≤ 1 := (vc_X12_write_11 h25 h19.2.1 h19.2.2.1 hp2 h24)
  refine sv_aload_n (pc := 17) dX12_why_17 rfl rfl ?_
  refine mr_iload_n (pc := 18) (z := p3) dX12_why_18 rfl rfl ?_
  obtain ⟨z27, q28⟩ : ∃ z, μ 106 2 = z := ⟨_, rfl⟩
  have h29 : (0 ≤ z27 ∧ z27 ≤ 10) := by rw [← q28]; exact hT 106 106 (A_106 hw) 2
  refine mr_cVP (pc := 19) (c_X12_isPrefix_W hw hT hp3 q28 (((h19.2.2.2.1 h19.1).2 h21) z27 q28 h29)) (gOk _ _ _ _ _) dX12_why_19 (tX12_isPrefix _ _ _ _ _) ⟨wV_X12_isPrefix, wL_X12_isPrefix⟩ wM_X12_92 (gCX12 _ _ _ _ _) rfl (A_106 hw) rfl ⟨le_t rfl, le_t rfl⟩ ⟨le_t rfl, le_t rfl⟩ rfl (le_t rfl) fun z34 h33 => ?_
  refine mr_if_ne (pc := 22) (tgt := 27) dX12_why_22 (by decide) (r32 h33.1 rfl) (fun h35 => ?_) (fun h35 => ?_)
  · have h36 : 1 ≤ z34 ∧ z34 ≤ 1 := (vc_X12_write_12 h35 h33.2.1 h33.2.2.1 hp3 h29 h33.1)
    have h37 : 0 ≤ p3 ∧ p3 < z27 := (h33.2.1 (vc_X12_write_13 h33.2.1 h33.2.2.1 h35 hp3 h29 h36))
    have h38 : 0 ≤ p3 ∧ p3 ≤ 9 := (vc_X12_write_14 h37 h33.2.1 h33.2.2.1 hp3 h29 h36)
    have h39 : 1 ≤ z27 ∧ z27 ≤ 10 := (vc_X12_write_15 h37 h33.2.1 h33.2.2.1 h38 h29 h36)
    refine sv_aload_n (pc := 27) dX12_why_27 rfl rfl ?_
    refine gf_X12_7 (pc := 28) dX12_why_28 wF_X12_40 (A_106 hw) hT ?_
    refine mr_iconst (pc := 31) (z := 2) dX12_why_31 ?_
    refine mr_iload_n (pc := 32) (z := p1) dX12_why_32 rfl rfl ?_
    refine mr_imul (pc := 33) (x := 2) (y := p1) dX12_why_33 ?_
    refine mr_iload_n (pc := 34) (z := p2) dX12_why_34 rfl rfl ?_
    refine mr_iadd (pc := 35) (x := (2 * p1)) (y := p2) dX12_why_35 ?_
    obtain ⟨z40, q41⟩ : ∃ z, μ 110 ((2 * p1).toNat) = z := ⟨_, rfl⟩
    have h42 : (0 ≤ z40 ∧ z40 ≤ 9) := by rw [← q41]; exact hT 110 110 (A_110 hw) ((2 * p1).toNat)
    obtain ⟨z43, q44⟩ : ∃ z, μ 110 (((2 * p1) + 1).toNat) = z := ⟨_, rfl⟩
    have h45 : (0 ≤ z43 ∧ z43 ≤ 9) := by rw [← q44]; exact hT 110 110 (A_110 hw) (((2 * p1) + 1).toNat)
    by_cases h46 : p2 = 0
    · have h47 : 0 ≤ p2 ∧ p2 ≤ 0 := (vc_X12_heard_W_32 h46 h19.2.1 h19.2.2.1 h25 h26 h24)
      refine lk_110 (pc := 36) dX12_why_36 (A_110 hw) (rIx (n := 40) (rAdd (e := 0) (f := 38) (rMulL (n := 2) (e := 0) (f := 38) h14 rfl) h47 rfl) rfl) (ixE q41 (vc_X12_use_W_21 h7.2.1 h7.2.2.1 h13 h19.2.1 h19.2.2.1 h25 h46 h9 h21 h14 h47 h15 h24 h12)) ?_
      refine mr_istore (pc := 37) (lv' := [(4, iv z40), (0, .ref 106), (1, iv p1), (2, iv p2), (3, iv p3)]) dX12_why_37 (by decide) rfl ?_
      refine sv_aload_n (pc := 39) dX12_why_39 rfl rfl ?_
      refine mr_sipush (pc := 40) (z := 130) dX12_why_40 (by decide) ?_
      refine mr_iload_n (pc := 43) (z := p1) dX12_why_43 rfl rfl ?_
      refine mr_iload_n (pc := 44) (z := p2) dX12_why_44 rfl rfl ?_
      refine mr_iload_n (pc := 45) (z := p3) dX12_why_45 rfl rfl ?_
      refine mr_cSP (pc := 46) (c_X12_slot_W hw hT (rW (c := 0) (d := 20) h14 rfl) (rW (c := 0) (d := 2) h47 rfl) h38 (((((h33.2.2.2.1 h33.1).1 h35) z40 q41 h42) z43 q44 h45).1 h46)) (gOk _ _ _ _ _) dX12_why_46 (tX12_slot _ _ _ _ _) wS_X12_slot wM_X12_545 ⟨le_t rfl, le_t rfl⟩ ⟨le_t rfl, le_t rfl⟩ rfl (le_t rfl) fun z52 h51 => ?_
      have h53 : 0 ≤ z52 ∧ z52 ≤ 389 := (vc_X12_why_Wx_18 h51.2.1 h19.2.1 h19.2.2.1 h25 h33.2.1 h33.2.2.1 h37 h46 h14 h47 h38 h24 h39 h36 h51.1)
      refine mr_iadd (pc := 49) (x := 130) (y := z52) dX12_why_49 ?_
      obtain ⟨z54, q55⟩ : ∃ z, μ 126 ((40 * (130 + z52)).toNat) = z := ⟨_, rfl⟩
      have h56 := rt7 hT (A_126 hw) (vc_X12_why_Wx_19 h51.2.1 h7.2.1 h7.2.2.1 h13 h19.2.1 h19.2.2.1 h25 h33.2.1 h33.2.2.1 h37 h46 h14 h47 h38 h15 h24 h39 h36 h53 h12) q55
      have h57 : (-1) ≤ z54 ∧ z54 ≤ 9 := h56.2.1 (vc_X12_why_Wx_20 h51.2.1 h7.2.1 h7.2.2.1 h13 h19.2.1 h19.2.2.1 h25 h33.2.1 h33.2.2.1 h37 h46 h14 h47 h38 h15 h24 h39 h36 h53 h12)
      refine mr_cVP (pc := 50) (c_X12_isThere_W hw hT (rW (c := 0) (d := 2099) (rAdd (e := 130) (f := 519) (rR (x := 130)) h53 rfl) rfl) q55 ((h51.2.2.1 h51.1) z54 q55 h56)) (gOk _ _ _ _ _) dX12_why_50 (tX12_isThere _ _ _ _ _) ⟨wV_X12_isThere, wL_X12_isThere⟩ wM_X12_151 (gCX12 _ _ _ _ _) rfl (A_106 hw) rfl ⟨le_t rfl, le_t rfl⟩ ⟨le_t rfl, le_t rfl⟩ rfl (le_t rfl) fun z62 h61 => ?_
      refine mr_if_ne (pc := 53) (tgt := 59) dX12_why_53 (by decide) (r32 h61.1 rfl) (fun h63 => ?_) (fun h63 => ?_)
      · have h64 : 1 ≤ z62 ∧ z62 ≤ 1 := (vc_X12_candidate_11 h63 h61.2.1 h61.2.2.1 h57 h61.1)
        have h65 : 0 ≤ z54 := (h61.2.1 (vc_X12_candidate_12 h61.2.1 h61.2.2.1 h63 h57 h64))
        have h66 : 0 ≤ z54 ∧ z54 ≤ 9 := (vc_X12_candidate_13 h65 h61.2.1 h61.2.2.1 h57 h64)
        refine mr_bipush (pc := 59) (z := 10) dX12_why_59 (by decide) ?_
        refine mr_iload (pc := 61) (z := z40) dX12_why_61 rfl ?_
        refine mr_imul (pc := 63) (x := 10) (y := z40) dX12_why_63 ?_
        refine mr_iload_n (pc := 64) (z := p3) dX12_why_64 rfl rfl ?_
        refine mr_iadd (pc := 65) (x := (10 * z40)) (y := p3) dX12_why_65 ?_
        refine mr_istore (pc := 66) (lv' := [(5, iv ((10 * z40) + p3)), (4, iv z40), (0, .ref 106), (1, iv p1), (2, iv p2), (3, iv p3)]) dX12_why_66 (by decide) rfl ?_
        refine sv_aload_n (pc := 68) dX12_why_68 rfl rfl ?_
        refine gf_X12_81 (pc := 69) dX12_why_69 wF_X12_445 (A_106 hw) hT ?_
        refine mr_iload (pc := 72) (z := ((10 * z40) + p3)) dX12_why_72 rfl ?_
        refine la_161 (pc := 74) dX12_why_74 (A_161 hw) hT (rIx (n := 100) (rAdd (e := 0) (f := 99) (rMulL (n := 10) (e := 0) (f := 90) h42 rfl) h38 rfl) rfl) fun z67 q68 h69 => ?_
        have h70 : (-99999999) ≤ z67 ∧ z67 ≤ 19 := (vc_X12_sends_3 h69)
        refine mr_iload_n (pc := 75) (z := p1) dX12_why_75 rfl rfl ?_
        refine mr_icmp_ne (pc := 76) (tgt := 81) dX12_why_76 (by decide) (r32 h70 rfl) (r32 h14 rfl) (fun h71 => ?_) (fun h71 => ?_)
        · refine sv_aload_n (pc := 81) dX12_why_81 rfl rfl ?_
          refine gf_X12_81 (pc := 82) dX12_why_82 wF_X12_445 (A_106 hw) hT ?_
          refine mr_iload (pc := 85) (z := ((10 * z40) + p3)) dX12_why_85 rfl ?_
          refine lk_161 (pc := 87) dX12_why_87 (A_161 hw) (rIx (n := 100) (rAdd (e := 0) (f := 99) (rMulL (n := 10) (e := 0) (f := 90) h42 rfl) h38 rfl) rfl) q68 ?_
          refine mr_bipush (pc := 88) (z := (-4)) dX12_why_88 (by decide) ?_
          refine mr_icmp_ne (pc := 90) (tgt := 96) dX12_why_90 (by decide) (r32 h70 rfl) (r32 (rR (x := (-4))) rfl) (fun h72 => ?_) (fun h72 => ?_)
          · refine sv_aload_n (pc := 96) dX12_why_96 rfl rfl ?_
            refine mr_iload (pc := 97) (z := z40) dX12_why_97 rfl ?_
            refine mr_iload_n (pc := 99) (z := p1) dX12_why_99 rfl rfl ?_
            refine mr_iload_n (pc := 100) (z := p3) dX12_why_100 rfl rfl ?_
            refine mr_cVI (pc := 101) (c_X12_candidate_W hw hT h42 h14 h38 q41 q44 q2 (vc_X12_why_Wx_25 h7.2.1 h7.2.2.1 h13 h51.2.1 h71 h9 h19.2.1 h19.2.2.1 h25 h33.2.1 h33.2.2.1 h37 h46 h72 h14 h47 h38 h15 h24 h39 h36 h53 h70 h69 h12) (vc_X12_doEvent_W_22 h42 h45) hIPK (((((h61.2.2.2.1 h61.1).1 h63) z67 q68 h69).1 h71).1 h72)) (gOk _ _ _ _ _) dX12_why_101 (tX12_candidate _ _ _ _ _) ⟨wV_X12_candidate, wL_X12_candidate⟩ wM_X12_565 (gCX12 _ _ _ _ _) rfl (A_106 hw) rfl ⟨le_t rfl, le_t rfl⟩ ⟨le_t rfl, le_t rfl⟩ rfl (le_t rfl) fun z77 μ73 T74 F75 h76 => ?_
            refine mr_istore (pc := 104) (lv' := [(6, iv z77), (5, iv ((10 * z40) + p3)), (4, iv z40), (0, .ref 106), (1, iv p1), (2, iv p2), (3, iv p3)]) dX12_why_104 (by decide) rfl ?_
            refine mr_iload (pc := 106) (z := z77) dX12_why_106 rfl ?_
            refine mr_if_eq (pc := 108) (tgt := 114) dX12_why_108 (by decide) (r32 h76.1 rfl) (fun h78 => ?_) (fun h78 => ?_)
            · have h79 : 0 ≤ z77 ∧ z77 ≤ 0 := (vc_X12_why_Wx_27 h78 h76.1)
              refine sv_aload_n (pc := 114) dX12_why_114 rfl rfl ?_
              refine gf_X12_81 (pc := 115) dX12_why_115 wF_X12_445 (A_106 hw) T74 ?_
              refine mr_iload (pc := 118) (z := ((10 * z40) + p3)) dX12_why_118 rfl ?_
              refine lk_161 (pc := 120) dX12_why_120 (A_161 hw) (rIx (n := 100) (rAdd (e := 0) (f := 99) (rMulL (n := 10) (e := 0) (f := 90) h42 rfl) h38 rfl) rfl) (F75.f (A_161 hw) rfl q68) ?_
              refine mr_istore (pc := 121) (lv' := [(7, iv z67), (6, iv z77), (5, iv ((10 * z40) + p3)), (4, iv z40), (0, .ref 106), (1, iv p1), (2, iv p2), (3, iv p3)]) dX12_why_121 (by decide) rfl ?_
              have h80 : (0 : Int) ≤ z67 := (((h76.2.2.1 T74 F75) h76.1).1 h78).1
              have h81 : 0 ≤ z67 ∧ z67 ≤ 19 := (vc_X12_why_Wx_28 h80 h71 h72 h14 h70 h69)
              refine sv_aload_n (pc := 123) dX12_why_123 rfl rfl ?_
              refine mr_iload (pc := 124) (z := z40) dX12_why_124 rfl ?_
              refine mr_iconst (pc := 126) (z := 4) dX12_why_126 ?_
              refine mr_iload_n (pc := 127) (z := p1) dX12_why_127 rfl rfl ?_
              refine mr_iadd (pc := 128) (x := 4) (y := p1) dX12_why_128 ?_
              refine mr_iload_n (pc := 129) (z := p1) dX12_why_129 rfl rfl ?_
              refine mr_bipush (pc := 130) (z := 30) dX12_why_130 (by decide) ?_
              refine mr_iload (pc := 132) (z := ((10 * z40) + p3)) dX12_why_132 rfl ?_
              refine mr_iadd (pc := 134) (x := 30) (y := ((10 * z40) + p3)) dX12_why_134 ?_
              refine mr_iload (pc := 135) (z := z67) dX12_why_135 rfl ?_
              refine mr_iload_n (pc := 137) (z := p3) dX12_why_137 rfl rfl ?_
              refine mr_cVP (pc := 138) (c_X12_unlike_W hw T74 h42 (rW (c := 0) (d := 2099) (rAdd (e := 4) (f := 23) (rR (x := 4)) h14 rfl) rfl) h14 (rW (c := 0) (d := 2099) (rAdd (e := 30) (f := 129) (rR (x := 30)) (rAdd (e := 0) (f := 99) (rMulL (n := 10) (e := 0) (f := 90) h42 rfl) h38 rfl) rfl) rfl) h81 h38 ((((h76.2.2.1 T74 F75) h76.1).1 h78).2 trivial)) (gOk _ _ _ _ _) dX12_why_138 (tX12_unlike _ _ _ _ _) ⟨wV_X12_unlike, wL_X12_unlike⟩ wM_X12_549 (gCX12 _ _ _ _ _) rfl (A_106 hw) rfl ⟨le_t rfl, le_t rfl⟩ ⟨le_t rfl, le_t rfl⟩ rfl (le_t rfl) fun z86 h85 => ?_
              refine mr_istore (pc := 141) (lv' := [(8, iv z86), (7, iv z67), (6, iv z77), (5, iv ((10 * z40) + p3)), (4, iv z40), (0, .ref 106), (1, iv p1), (2, iv p2), (3, iv p3)]) dX12_why_141 (by decide) rfl ?_
              refine mr_iload (pc := 143) (z := z86) dX12_why_143 rfl ?_
              refine mr_if_ne (pc := 145) (tgt := 153) dX12_why_145 (by decide) (r32 h85.1 rfl) (fun h90 => ?_) (fun h90 => ?_)
              · refine mr_iload (pc := 153) (z := z86) dX12_why_153 rfl ?_
                refine mr_if_ge (pc := 155) (tgt := 164) dX12_why_155 (by decide) (r32 h85.1 rfl) (fun h93 => ?_) (fun h93 => ?_)
                · have h94 : 0 ≤ z86 ∧ z86 ≤ 9 := (vc_X12_why_Wx_29 h93 h90 h85.1)
                  refine mr_iload (pc := 164) (z := z86) dX12_why_164 rfl ?_
                  exact mr_iret dX12_why_166 rfl (le_t rfl) (le_t rfl) T74 (mF.call mF.refl F75 rfl) ⟨(rW (c := (-2147483648)) (d := 2147483647) h94 rfl), (G1.keep hIG1 hw ((mF.call mF.refl F75 rfl) : mF [106026, 106027, 106028, 106029, 106030, 106031, 126999, 151999, 152999, 153999] w μ μ73) rfl rfl ((mG.call mG.refl h76.2.1 (List.forall_mem_cons.mpr ⟨⟨_, List.mem_cons_self, (vc_X12_why_Wx_30 h7.2.1 h7.2.2.1 h13 h51.2.1 h71 h9 h19.2.1 h19.2.2.1 h25 h33.2.1 h33.2.2.1 h37 h46 h72 h80 h14 h47 h38 h15 h24 h39 h36 h53 h81 h69 h12)⟩, (fun _ h => absurd h List.not_mem_nil)⟩)) : mG [(((40 * p1) + 160), ((40 * p1) + 200))] μ μ73) (List.forall_mem_cons.mpr ⟨(vc_X12_why_Wx_31 h7.2.1 h7.2.2.1 h13 h51.2.1 h71 h9 h19.2.1 h19.2.2.1 h25 h33.2.1 h33.2.2.1 h37 h46 h72 h80 h14 h47 h38 h15 h24 h39 h36 h53 h81 h69 h12), (fun _ h => absurd h List.not_mem_nil)⟩)), (EV.keep hIEV hw ((mF.call mF.refl F75 rfl) : mF [106026, 106027, 106028, 106029, 106030, 106031, 126999, 151999, 152999, 153999] w μ μ73) rfl), (((h85.2.1 h85.1).1 h90).1 h93), trivial⟩
                have h95 : (-9) ≤ z86 ∧ z86 ≤ (-1) := (vc_X12_why_Wx_32 h93 h90 h85.1)
                refine mr_iload (pc := 158) (z := z86) dX12_why_158 rfl ?_
                refine mr_ineg (pc := 160) dX12_why_160 ?_
                refine mr_negS ?_
                refine sv_goto (pc := 161) (tgt := 166) dX12_why_161 (by decide) ?_
                exact mr_iret dX12_why_166 rfl (le_t rfl) (le_t rfl) T74 (mF.call mF.refl F75 rfl) ⟨(rW (c := (-2147483648)) (d := 2147483647) (rSub (e := 1) (f := 9) (rR (x := 0)) h95 rfl) rfl), (G1.keep hIG1 hw ((mF.call mF.refl F75 rfl) : mF [106026, 106027, 106028, 106029, 106030, 106031, 126999, 151999, 152999, 153999] w μ μ73) rfl rfl ((mG.call mG.refl h76.2.1 (List.forall_mem_cons.mpr ⟨⟨_, List.mem_cons_self, (vc_X12_why_Wx_30 h7.2.1 h7.2.2.1 h13 h51.2.1 h71 h9 h19.2.1 h19.2.2.1 h25 h33.2.1 h33.2.2.1 h37 h46 h72 h80 h14 h47 h38 h15 h24 h39 h36 h53 h81 h69 h12)⟩, (fun _ h => absurd h List.not_mem_nil)⟩)) : mG [(((40 * p1) + 160), ((40 * p1) + 200))] μ μ73) (List.forall_mem_cons.mpr ⟨(vc_X12_why_Wx_31 h7.2.1 h7.2.2.1 h13 h51.2.1 h71 h9 h19.2.1 h19.2.2.1 h25 h33.2.1 h33.2.2.1 h37 h46 h72 h80 h14 h47 h38 h15 h24 h39 h36 h53 h81 h69 h12), (fun _ h => absurd h List.not_mem_nil)⟩)), (EV.keep hIEV hw ((mF.call mF.refl F75 rfl) : mF [106026, 106027, 106028, 106029, 106030, 106031, 126999, 151999, 152999, 153999] w μ μ73) rfl), (((h85.2.1 h85.1).1 h90).2 h93), trivial⟩
              have h96 : 0 ≤ z86 ∧ z86 ≤ 0 := (vc_X12_beats_W_1 h90 h85.1)
              refine mr_bipush (pc := 148) (z := 7) dX12_why_148 (by decide) ?_
              refine sv_goto (pc := 150) (tgt := 166) dX12_why_150 (by decide) ?_
              exact mr_iret dX12_why_166 rfl (le_t rfl) (le_t rfl) T74 (mF.call mF.refl F75 rfl) ⟨(rW (c := (-2147483648)) (d := 2147483647) (rR (x := 7)) rfl), (G1.keep hIG1 hw ((mF.call mF.refl F75 rfl) : mF [106026, 106027, 106028, 106029, 106030, 106031, 126999, 151999, 152999, 153999] w μ μ73) rfl rfl ((mG.call mG.refl h76.2.1 (List.forall_mem_cons.mpr ⟨⟨_, List.mem_cons_self, (vc_X12_why_Wx_30 h7.2.1 h7.2.2.1 h13 h51.2.1 h71 h9 h19.2.1 h19.2.2.1 h25 h33.2.1 h33.2.2.1 h37 h46 h72 h80 h14 h47 h38 h15 h24 h39 h36 h53 h81 h69 h12)⟩, (fun _ h => absurd h List.not_mem_nil)⟩)) : mG [(((40 * p1) + 160), ((40 * p1) + 200))] μ μ73) (List.forall_mem_cons.mpr ⟨(vc_X12_why_Wx_31 h7.2.1 h7.2.2.1 h13 h51.2.1 h71 h9 h19.2.1 h19.2.2.1 h25 h33.2.1 h33.2.2.1 h37 h46 h72 h80 h14 h47 h38 h15 h24 h39 h36 h53 h81 h69 h12), (fun _ h => absurd h List.not_mem_nil)⟩)), (EV.keep hIEV hw ((mF.call mF.refl F75 rfl) : mF [106026, 106027, 106028, 106029, 106030, 106031, 126999, 151999, 152999, 153999] w μ μ73) rfl), ((h85.2.1 h85.1).2 h90), trivial⟩
            refine mr_iload (pc := 111) (z := z77) dX12_why_111 rfl ?_
            exact mr_iret dX12_why_113 rfl (le_t rfl) (le_t rfl) T74 (mF.call mF.refl F75 rfl) ⟨(rW (c := (-2147483648)) (d := 2147483647) h76.1 rfl), (G1.keep hIG1 hw ((mF.call mF.refl F75 rfl) : mF [106026, 106027, 106028, 106029, 106030, 106031, 126999, 151999, 152999, 153999] w μ μ73) rfl rfl ((mG.call mG.refl h76.2.1 (List.forall_mem_cons.mpr ⟨⟨_, List.mem_cons_self, (vc_X12_why_Wx_34 h7.2.1 h7.2.2.1 h13 h51.2.1 h71 h9 h19.2.1 h19.2.2.1 h25 h33.2.1 h33.2.2.1 h37 h46 h72 h14 h47 h38 h15 h24 h39 h36 h53 h70 h69 h12)⟩, (fun _ h => absurd h List.not_mem_nil)⟩)) : mG [(((40 * p1) + 160), ((40 * p1) + 200))] μ μ73) (List.forall_mem_cons.mpr ⟨(vc_X12_why_Wx_35 h7.2.1 h7.2.2.1 h13 h51.2.1 h71 h9 h19.2.1 h19.2.2.1 h25 h33.2.1 h33.2.2.1 h37 h46 h72 h14 h47 h38 h15 h24 h39 h36 h53 h70 h69 h12), (fun _ h => absurd h List.not_mem_nil)⟩)), (EV.keep hIEV hw ((mF.call mF.refl F75 rfl) : mF [106026, 106027, 106028, 106029, 106030, 106031, 126999, 151999, 152999, 153999] w μ μ73) rfl), (((h76.2.2.1 T74 F75) h76.1).2 h78), trivial⟩
          have h97 : (-4) ≤ z67 ∧ z67 ≤ (-4) := (vc_X12_why_Wx_36 h72 h71 h14 h70 h69)
          refine mr_bipush (pc := 93) (z := 8) dX12_why_93 (by decide) ?_
          exact mr_iret dX12_why_95 rfl (le_t rfl) (le_t rfl) hT mF.refl ⟨(rW (c := (-2147483648)) (d := 2147483647) (rR (x := 8)) rfl), hIG1, hIEV, (((((h61.2.2.2.1 h61.1).1 h63) z67 q68 h69).1 h71).2 h72), trivial⟩
        have h98 : 0 ≤ z67 ∧ z67 ≤ 19 := (vc_X12_why_Wx_37 h71 h7.2.1 h7.2.2.1 h13 h51.2.1 h14 h47 h38 h15 h53 h70 h69 h12)
        refine mr_iconst (pc := 79) (z := 0) dX12_why_79 ?_
        exact mr_iret dX12_why_80 rfl (le_t rfl) (le_t rfl) hT mF.refl ⟨(rW (c := (-2147483648)) (d := 2147483647) (rR (x := 0)) rfl), hIG1, hIEV, ((((h61.2.2.2.1 h61.1).1 h63) z67 q68 h69).2 h71), trivial⟩
      have h99 : 0 ≤ z62 ∧ z62 ≤ 0 := (vc_X12_candidate_32 h63 h61.2.1 h61.2.2.1 h57 h61.1)
      have h100 : z54 < 0 := (h61.2.2.1 (vc_X12_candidate_33 h61.2.1 h61.2.2.1 h63 h57 h99))
      have h101 : (-1) ≤ z54 ∧ z54 ≤ (-1) := (vc_X12_candidate_34 h100 h61.2.1 h61.2.2.1 h57 h99)
      refine mr_ldc (pc := 56) (z := (-99999999)) dX12_why_56 wG_X12_29 (by decide) ?_
      exact mr_iret dX12_why_58 rfl (le_t rfl) (le_t rfl) hT mF.refl ⟨(rW (c := (-2147483648)) (d := 2147483647) (rR (x := (-99999999))) rfl), hIG1, hIEV, ((h61.2.2.2.1 h61.1).2 h63), trivial⟩
    have h102 : 1 ≤ p2 ∧ p2 ≤ 1 := (vc_X12_heard_W_31 h46 h19.2.1 h19.2.2.1 h25 h26 h24)
    refine lk_110 (pc := 36) dX12_why_36 (A_110 hw) (rIx (n := 40) (rAdd (e := 1) (f := 39) (rMulL (n := 2) (e := 0) (f := 38) h14 rfl) h102 rfl) rfl) (ixE q44 (vc_X12_use_W_27 h7.2.1 h7.2.2.1 h13 h19.2.1 h19.2.2.1 h25 h46 h9 h21 h14 h102 h15 h24 h12)) ?_
    refine mr_istore (pc := 37) (lv' := [(4, iv z43), (0, .ref 106), (1, iv p1), (2, iv p2), (3, iv p3)]) dX12_why_37 (by decide) rfl ?_
    refine sv_aload_n (pc := 39) dX12_why_39 rfl rfl ?_
    refine mr_sipush (pc := 40) (z := 130) dX12_why_40 (by decide) ?_
    refine mr_iload_n (pc := 43) (z := p1) dX12_why_43 rfl rfl ?_
    refine mr_iload_n (pc := 44) (z := p2) dX12_why_44 rfl rfl ?_
    refine mr_iload_n (pc := 45) (z := p3) dX12_why_45 rfl rfl ?_
    refine mr_cSP (pc := 46) (c_X12_slot_W hw hT (rW (c := 0) (d := 20) h14 rfl) (rW (c := 0) (d := 2) h102 rfl) h38 (((((h33.2.2.2.1 h33.1).1 h35) z40 q41 h42) z43 q44 h45).2 h46)) (gOk _ _ _ _ _) dX12_why_46 (tX12_slot _ _ _ _ _) wS_X12_slot wM_X12_545 ⟨le_t rfl, le_t rfl⟩ ⟨le_t rfl, le_t rfl⟩ rfl (le_t rfl) fun z107 h106 => ?_
    have h108 : 10 ≤ z107 ∧ z107 ≤ 399 := (vc_X12_why_Wx_43 h106.2.1 h19.2.1 h19.2.2.1 h25 h33.2.1 h33.2.2.1 h37 h46 h14 h102 h38 h106.1 h24 h39 h36)
    refine mr_iadd (pc := 49) (x := 130) (y := z107) dX12_why_49 ?_
    obtain ⟨z109, q110⟩ : ∃ z, μ 126 ((40 * (130 + z107)).toNat) = z := ⟨_, rfl⟩
    have h111 := rt7 hT (A_126 hw) (vc_X12_why_Wx_44 h106.2.1 h7.2.1 h7.2.2.1 h13 h19.2.1 h19.2.2.1 h25 h33.2.1 h33.2.2.1 h37 h46 h14 h102 h38 h15 h108 h24 h39 h36 h12) q110
    have h112 : (-1) ≤ z109 ∧ z109 ≤ 9 := h111.2.1 (vc_X12_why_Wx_45 h106.2.1 h7.2.1 h7.2.2.1 h13 h19.2.1 h19.2.2.1 h25 h33.2.1 h33.2.2.1 h37 h46 h14 h102 h38 h15 h108 h24 h39 h36 h12)
    refine mr_cVP (pc := 50) (c_X12_isThere_W hw hT (rW (c := 0) (d := 2099) (rAdd (e := 140) (f := 529) (rR (x := 130)) h108 rfl) rfl) q110 ((h106.2.2.1 h106.1) z109 q110 h111)) (gOk _ _ _ _ _) dX12_why_50 (tX12_isThere _ _ _ _ _) ⟨wV_X12_isThere, wL_X12_isThere⟩ wM_X12_151 (gCX12 _ _ _ _ _) rfl (A_106 hw) rfl ⟨le_t rfl, le_t rfl⟩ ⟨le_t rfl, le_t rfl⟩ rfl (le_t rfl) fun z117 h116 => ?_
    refine mr_if_ne (pc := 53) (tgt := 59) dX12_why_53 (by decide) (r32 h116.1 rfl) (fun h118 => ?_) (fun h118 => ?_)
    · have h119 : 1 ≤ z117 ∧ z117 ≤ 1 := (vc_X12_candidate_11 h118 h116.2.1 h116.2.2.1 h112 h116.1)
      have h120 : 0 ≤ z109 := (h116.2.1 (vc_X12_candidate_12 h116.2.1 h116.2.2.1 h118 h112 h119))
      have h121 : 0 ≤ z109 ∧ z109 ≤ 9 := (vc_X12_candidate_13 h120 h116.2.1 h116.2.2.1 h112 h119)
      refine mr_bipush (pc := 59) (z := 10) dX12_why_59 (by decide) ?_
      refine mr_iload (pc := 61) (z := z43) dX12_why_61 rfl ?_
      refine mr_imul (pc := 63) (x := 10) (y := z43) dX12_why_63 ?_
      refine mr_iload_n (pc := 64) (z := p3) dX12_why_64 rfl rfl ?_
      refine mr_iadd (pc := 65) (x := (10 * z43)) (y := p3) dX12_why_65 ?_
      refine mr_istore (pc := 66) (lv' := [(5, iv ((10 * z43) + p3)), (4, iv z43), (0, .ref 106), (1, iv p1), (2, iv p2), (3, iv p3)]) dX12_why_66 (by decide) rfl ?_
      refine sv_aload_n (pc := 68) dX12_why_68 rfl rfl ?_
      refine gf_X12_81 (pc := 69) dX12_why_69 wF_X12_445 (A_106 hw) hT ?_
      refine mr_iload (pc := 72) (z := ((10 * z43) + p3)) dX12_why_72 rfl ?_
      refine la_161 (pc := 74) dX12_why_74 (A_161 hw) hT (rIx (n := 100) (rAdd (e := 0) (f := 99) (rMulL (n := 10) (e := 0) (f := 90) h45 rfl) h38 rfl) rfl) fun z122 q123 h124 => ?_
      have h125 : (-99999999) ≤ z122 ∧ z122 ≤ 19 := (vc_X12_sends_3 h124)
      refine mr_iload_n (pc := 75) (z := p1) dX12_why_75 rfl rfl ?_
      refine mr_icmp_ne (pc := 76) (tgt := 81) dX12_why_76 (by decide) (r32 h125 rfl) (r32 h14 rfl) (fun h126 => ?_) (fun h126 => ?_)
      · refine sv_aload_n (pc := 81) dX12_why_81 rfl rfl ?_
        refine gf_X12_81 (pc := 82) dX12_why_82 wF_X12_445 (A_106 hw) hT ?_
        refine mr_iload (pc := 85) (z := ((10 * z43) + p3)) dX12_why_85 rfl ?_
        refine lk_161 (pc := 87) dX12_why_87 (A_161 hw) (rIx (n := 100) (rAdd (e := 0) (f := 99) (rMulL (n := 10) (e := 0) (f := 90) h45 rfl) h38 rfl) rfl) q123 ?_
        refine mr_bipush (pc := 88) (z := (-4)) dX12_why_88 (by decide) ?_
        refine mr_icmp_ne (pc := 90) (tgt := 96) dX12_why_90 (by decide) (r32 h125 rfl) (r32 (rR (x := (-4))) rfl) (fun h127 => ?_) (fun h127 => ?_)
        · refine sv_aload_n (pc := 96) dX12_why_96 rfl rfl ?_
          refine mr_iload (pc := 97) (z := z43) dX12_why_97 rfl ?_
          refine mr_iload_n (pc := 99) (z := p1) dX12_why_99 rfl rfl ?_
          refine mr_iload_n (pc := 100) (z := p3) dX12_why_100 rfl rfl ?_
          refine mr_cVI (pc := 101) (c_X12_candidate_W hw hT h45 h14 h38 q41 q44 q2 (vc_X12_why_Wx_50 h7.2.1 h7.2.2.1 h13 h106.2.1 h126 h9 h19.2.1 h19.2.2.1 h25 h33.2.1 h33.2.2.1 h37 h46 h127 h14 h102 h38 h15 h108 h125 h124 h24 h39 h36 h12) (vc_X12_doEvent_W_25 h42 h45) hIPK (((((h116.2.2.2.1 h116.1).1 h118) z122 q123 h124).1 h126).1 h127)) (gOk _ _ _ _ _) dX12_why_101 (tX12_candidate _ _ _ _ _) ⟨wV_X12_candidate, wL_X12_candidate⟩ wM_X12_565 (gCX12 _ _ _ _ _) rfl (A_106 hw) rfl ⟨le_t rfl, le_t rfl⟩ ⟨le_t rfl, le_t rfl⟩ rfl (le_t rfl) fun z132 μ128 T129 F130 h131 => ?_
          refine mr_istore (pc := 104) (lv' := [(6, iv z132), (5, iv ((10 * z43) + p3)), (4, iv z43), (0, .ref 106), (1, iv p1), (2, iv p2), (3, iv p3)]) dX12_why_104 (by decide) rfl ?_
          refine mr_iload (pc := 106) (z := z132) dX12_why_106 rfl ?_
          refine mr_if_eq (pc := 108) (tgt := 114) dX12_why_108 (by decide) (r32 h131.1 rfl) (fun h133 => ?_) (fun h133 => ?_)
          · have h134 : 0 ≤ z132 ∧ z132 ≤ 0 := (vc_X12_why_Wx_27 h133 h131.1)
            refine sv_aload_n (pc := 114) dX12_why_114 rfl rfl ?_
            refine gf_X12_81 (pc := 115) dX12_why_115 wF_X12_445 (A_106 hw) T129 ?_
            refine mr_iload (pc := 118) (z := ((10 * z43) + p3)) dX12_why_118 rfl ?_
            refine lk_161 (pc := 120) dX12_why_120 (A_161 hw) (rIx (n := 100) (rAdd (e := 0) (f := 99) (rMulL (n := 10) (e := 0) (f := 90) h45 rfl) h38 rfl) rfl) (F130.f (A_161 hw) rfl q123) ?_
            refine mr_istore (pc := 121) (lv' := [(7, iv z122), (6, iv z132), (5, iv ((10 * z43) + p3)), (4, iv z43), (0, .ref 106), (1, iv p1), (2, iv p2), (3, iv p3)]) dX12_why_121 (by decide) rfl ?_
            have h135 : (0 : Int) ≤ z122 := (((h131.2.2.1 T129 F130) h131.1).1 h133).1
            have h136 : 0 ≤ z122 ∧ z122 ≤ 19 := (vc_X12_why_Wx_28 h135 h126 h127 h14 h125 h124)
            refine sv_aload_n (pc := 123) dX12_why_123 rfl rfl ?_
            refine mr_iload (pc := 124) (z := z43) dX12_why_124 rfl ?_
            refine mr_iconst (pc := 126) (z := 4) dX12_why_126 ?_
            refine mr_iload_n (pc := 127) (z := p1) dX12_why_127 rfl rfl ?_
            refine mr_iadd (pc := 128) (x := 4) (y := p1) dX12_why_128 ?_
            refine mr_iload_n (pc := 129) (z := p1) dX12_why_129 rfl rfl ?_
            refine mr_bipush (pc := 130) (z := 30) dX12_why_130 (by decide) ?_
            refine mr_iload (pc := 132) (z := ((10 * z43) + p3)) dX12_why_132 rfl ?_
            refine mr_iadd (pc := 134) (x := 30) (y := ((10 * z43) + p3)) dX12_why_134 ?_
            refine mr_iload (pc := 135) (z := z122) dX12_why_135 rfl ?_
            refine mr_iload_n (pc := 137) (z := p3) dX12_why_137 rfl rfl ?_
            refine mr_cVP (pc := 138) (c_X12_unlike_W hw T129 h45 (rW (c := 0) (d := 2099) (rAdd (e := 4) (f := 23) (rR (x := 4)) h14 rfl) rfl) h14 (rW (c := 0) (d := 2099) (rAdd (e := 30) (f := 129) (rR (x := 30)) (rAdd (e := 0) (f := 99) (rMulL (n := 10) (e := 0) (f := 90) h45 rfl) h38 rfl) rfl) rfl) h136 h38 ((((h131.2.2.1 T129 F130) h131.1).1 h133).2 trivial)) (gOk _ _ _ _ _) dX12_why_138 (tX12_unlike _ _ _ _ _) ⟨wV_X12_unlike, wL_X12_unlike⟩ wM_X12_549 (gCX12 _ _ _ _ _) rfl (A_106 hw) rfl ⟨le_t rfl, le_t rfl⟩ ⟨le_t rfl, le_t rfl⟩ rfl (le_t rfl) fun z141 h140 => ?_
            refine mr_istore (pc := 141) (lv' := [(8, iv z141), (7, iv z122), (6, iv z132), (5, iv ((10 * z43) + p3)), (4, iv z43), (0, .ref 106), (1, iv p1), (2, iv p2), (3, iv p3)]) dX12_why_141 (by decide) rfl ?_
            refine mr_iload (pc := 143) (z := z141) dX12_why_143 rfl ?_
            refine mr_if_ne (pc := 145) (tgt := 153) dX12_why_145 (by decide) (r32 h140.1 rfl) (fun h145 => ?_) (fun h145 => ?_)
            · refine mr_iload (pc := 153) (z := z141) dX12_why_153 rfl ?_
              refine mr_if_ge (pc := 155) (tgt := 164) dX12_why_155 (by decide) (r32 h140.1 rfl) (fun h148 => ?_) (fun h148 => ?_)
              · have h149 : 0 ≤ z141 ∧ z141 ≤ 9 := (vc_X12_why_Wx_29 h148 h145 h140.1)
                refine mr_iload (pc := 164) (z := z141) dX12_why_164 rfl ?_
                exact mr_iret dX12_why_166 rfl (le_t rfl) (le_t rfl) T129 (mF.call mF.refl F130 rfl) ⟨(rW (c := (-2147483648)) (d := 2147483647) h149 rfl), (G1.keep hIG1 hw ((mF.call mF.refl F130 rfl) : mF [106026, 106027, 106028, 106029, 106030, 106031, 126999, 151999, 152999, 153999] w μ μ128) rfl rfl ((mG.call mG.refl h131.2.1 (List.forall_mem_cons.mpr ⟨⟨_, List.mem_cons_self, (vc_X12_why_Wx_55 h7.2.1 h7.2.2.1 h13 h106.2.1 h126 h9 h19.2.1 h19.2.2.1 h25 h33.2.1 h33.2.2.1 h37 h46 h127 h135 h14 h102 h38 h15 h108 h136 h124 h24 h39 h36 h12)⟩, (fun _ h => absurd h List.not_mem_nil)⟩)) : mG [(((40 * p1) + 160), ((40 * p1) + 200))] μ μ128) (List.forall_mem_cons.mpr ⟨(vc_X12_why_Wx_56 h7.2.1 h7.2.2.1 h13 h106.2.1 h126 h9 h19.2.1 h19.2.2.1 h25 h33.2.1 h33.2.2.1 h37 h46 h127 h135 h14 h102 h38 h15 h108 h136 h124 h24 h39 h36 h12), (fun _ h => absurd h List.not_mem_nil)⟩)), (EV.keep hIEV hw ((mF.call mF.refl F130 rfl) : mF [106026, 106027, 106028, 106029, 106030, 106031, 126999, 151999, 152999, 153999] w μ μ128) rfl), (((h140.2.1 h140.1).1 h145).1 h148), trivial⟩
              have h150 : (-9) ≤ z141 ∧ z141 ≤ (-1) := (vc_X12_why_Wx_32 h148 h145 h140.1)
              refine mr_iload (pc := 158) (z := z141) dX12_why_158 rfl ?_
              refine mr_ineg (pc := 160) dX12_why_160 ?_
              refine mr_negS ?_
              refine sv_goto (pc := 161) (tgt := 166) dX12_why_161 (by decide) ?_
              exact mr_iret dX12_why_166 rfl (le_t rfl) (le_t rfl) T129 (mF.call mF.refl F130 rfl) ⟨(rW (c := (-2147483648)) (d := 2147483647) (rSub (e := 1) (f := 9) (rR (x := 0)) h150 rfl) rfl), (G1.keep hIG1 hw ((mF.call mF.refl F130 rfl) : mF [106026, 106027, 106028, 106029, 106030, 106031, 126999, 151999, 152999, 153999] w μ μ128) rfl rfl ((mG.call mG.refl h131.2.1 (List.forall_mem_cons.mpr ⟨⟨_, List.mem_cons_self, (vc_X12_why_Wx_55 h7.2.1 h7.2.2.1 h13 h106.2.1 h126 h9 h19.2.1 h19.2.2.1 h25 h33.2.1 h33.2.2.1 h37 h46 h127 h135 h14 h102 h38 h15 h108 h136 h124 h24 h39 h36 h12)⟩, (fun _ h => absurd h List.not_mem_nil)⟩)) : mG [(((40 * p1) + 160), ((40 * p1) + 200))] μ μ128) (List.forall_mem_cons.mpr ⟨(vc_X12_why_Wx_56 h7.2.1 h7.2.2.1 h13 h106.2.1 h126 h9 h19.2.1 h19.2.2.1 h25 h33.2.1 h33.2.2.1 h37 h46 h127 h135 h14 h102 h38 h15 h108 h136 h124 h24 h39 h36 h12), (fun _ h => absurd h List.not_mem_nil)⟩)), (EV.keep hIEV hw ((mF.call mF.refl F130 rfl) : mF [106026, 106027, 106028, 106029, 106030, 106031, 126999, 151999, 152999, 153999] w μ μ128) rfl), (((h140.2.1 h140.1).1 h145).2 h148), trivial⟩
            have h151 : 0 ≤ z141 ∧ z141 ≤ 0 := (vc_X12_beats_W_1 h145 h140.1)
            refine mr_bipush (pc := 148) (z := 7) dX12_why_148 (by decide) ?_
            refine sv_goto (pc := 150) (tgt := 166) dX12_why_150 (by decide) ?_
            exact mr_iret dX12_why_166 rfl (le_t rfl) (le_t rfl) T129 (mF.call mF.refl F130 rfl) ⟨(rW (c := (-2147483648)) (d := 2147483647) (rR (x := 7)) rfl), (G1.keep hIG1 hw ((mF.call mF.refl F130 rfl) : mF [106026, 106027, 106028, 106029, 106030, 106031, 126999, 151999, 152999, 153999] w μ μ128) rfl rfl ((mG.call mG.refl h131.2.1 (List.forall_mem_cons.mpr ⟨⟨_, List.mem_cons_self, (vc_X12_why_Wx_55 h7.2.1 h7.2.2.1 h13 h106.2.1 h126 h9 h19.2.1 h19.2.2.1 h25 h33.2.1 h33.2.2.1 h37 h46 h127 h135 h14 h102 h38 h15 h108 h136 h124 h24 h39 h36 h12)⟩, (fun _ h => absurd h List.not_mem_nil)⟩)) : mG [(((40 * p1) + 160), ((40 * p1) + 200))] μ μ128) (List.forall_mem_cons.mpr ⟨(vc_X12_why_Wx_56 h7.2.1 h7.2.2.1 h13 h106.2.1 h126 h9 h19.2.1 h19.2.2.1 h25 h33.2.1 h33.2.2.1 h37 h46 h127 h135 h14 h102 h38 h15 h108 h136 h124 h24 h39 h36 h12), (fun _ h => absurd h List.not_mem_nil)⟩)), (EV.keep hIEV hw ((mF.call mF.refl F130 rfl) : mF [106026, 106027, 106028, 106029, 106030, 106031, 126999, 151999, 152999, 153999] w μ μ128) rfl), ((h140.2.1 h140.1).2 h145), trivial⟩
          refine mr_iload (pc := 111) (z := z132) dX12_why_111 rfl ?_
          exact mr_iret dX12_why_113 rfl (le_t rfl) (le_t rfl) T129 (mF.call mF.refl F130 rfl) ⟨(rW (c := (-2147483648)) (d := 2147483647) h131.1 rfl), (G1.keep hIG1 hw ((mF.call mF.refl F130 rfl) : mF [106026, 106027, 106028, 106029, 106030, 106031, 126999, 151999, 152999, 153999] w μ μ128) rfl rfl ((mG.call mG.refl h131.2.1 (List.forall_mem_cons.mpr ⟨⟨_, List.mem_cons_self, (vc_X12_why_Wx_59 h7.2.1 h7.2.2.1 h13 h106.2.1 h126 h9 h19.2.1 h19.2.2.1 h25 h33.2.1 h33.2.2.1 h37 h46 h127 h14 h102 h38 h15 h108 h125 h124 h24 h39 h36 h12)⟩, (fun _ h => absurd h List.not_mem_nil)⟩)) : mG [(((40 * p1) + 160), ((40 * p1) + 200))] μ μ128) (List.forall_mem_cons.mpr ⟨(vc_X12_why_Wx_60 h7.2.1 h7.2.2.1 h13 h106.2.1 h126 h9 h19.2.1 h19.2.2.1 h25 h33.2.1 h33.2.2.1 h37 h46 h127 h14 h102 h38 h15 h108 h125 h124 h24 h39 h36 h12), (fun _ h => absurd h List.not_mem_nil)⟩)), (EV.keep hIEV hw ((mF.call mF.refl F130 rfl) : mF [106026, 106027, 106028, 106029, 106030, 106031, 126999, 151999, 152999, 153999] w μ μ128) rfl), (((h131.2.2.1 T129 F130) h131.1).2 h133), trivial⟩
        have h152 : (-4) ≤ z122 ∧ z122 ≤ (-4) := (vc_X12_why_Wx_36 h127 h126 h14 h125 h124)
        refine mr_bipush (pc := 93) (z := 8) dX12_why_93 (by decide) ?_
        exact mr_iret dX12_why_95 rfl (le_t rfl) (le_t rfl) hT mF.refl ⟨(rW (c := (-2147483648)) (d := 2147483647) (rR (x := 8)) rfl), hIG1, hIEV, (((((h116.2.2.2.1 h116.1).1 h118) z122 q123 h124).1 h126).2 h127), trivial⟩
      have h153 : 0 ≤ z122 ∧ z122 ≤ 19 := (vc_X12_why_Wx_62 h126 h7.2.1 h7.2.2.1 h13 h106.2.1 h14 h102 h38 h15 h108 h125 h124 h12)
      refine mr_iconst (pc := 79) (z := 0) dX12_why_79 ?_
      exact mr_iret dX12_why_80 rfl (le_t rfl) (le_t rfl) hT mF.refl ⟨(rW (c := (-2147483648)) (d := 2147483647) (rR (x := 0)) rfl), hIG1, hIEV, ((((h116.2.2.2.1 h116.1).1 h118) z122 q123 h124).2 h126), trivial⟩
    have h154 : 0 ≤ z117 ∧ z117 ≤ 0 := (vc_X12_candidate_32 h118 h116.2.1 h116.2.2.1 h112 h116.1)
    have h155 : z109 < 0 := (h116.2.2.1 (vc_X12_candidate_33 h116.2.1 h116.2.2.1 h118 h112 h154))
    have h156 : (-1) ≤ z109 ∧ z109 ≤ (-1) := (vc_X12_candidate_34 h155 h116.2.1 h116.2.2.1 h112 h154)
    refine mr_ldc (pc := 56) (z := (-99999999)) dX12_why_56 wG_X12_29 (by decide) ?_
    exact mr_iret dX12_why_58 rfl (le_t rfl) (le_t rfl) hT mF.refl ⟨(rW (c := (-2147483648)) (d := 2147483647) (rR (x := (-99999999))) rfl), hIG1, hIEV, ((h116.2.2.2.1 h116.1).2 h118), trivial⟩
  have h157 : 0 ≤ z34 ∧ z34 ≤ 0 := (vc_X12_write_78 h35 h33.2.1 h33.2.2.1 hp3 h29 h33.1)
  have h158 : p3 < 0 ∨ z27 ≤ p3 := (h33.2.2.1 (vc_X12_write_79 h33.2.1 h33.2.2.1 h35 hp3 h29 h157))
  refine mr_iconst (pc := 25) (z := (-1)) dX12_why_25 ?_
  exact mr_iret dX12_why_26 rfl (le_t rfl) (le_t rfl) hT mF.refl ⟨(rW (c := (-2147483648)) (d := 2147483647) (rR (x := (-1))) rfl), hIG1, hIEV, ((h33.2.2.2.1 h33.1).2 h35), trivial⟩
def WP_X8_reason_W (w : mW) (μ : mM) (p1 : Int) (p2 : Int) (p3 : Int) (Q : Int → mM → Prop) : Prop := ∀ b1 : Nat, μ 11 (p1.toNat) = (b1 : Int) → mAt w b1 220 → WP_X9_placeOf_W w μ p2 p3 (fun z9 _ => (0 ≤ z9 ∧ z9 ≤ 19) → ∀ b10 : Nat, μ (b1 + 2) (z9.toNat) = (b10 : Int) → mAt w b10 200 → WP_X9_end_W w μ b1 p2 (fun z17 _ => (0 ≤ z17 ∧ z17 ≤ 9) → ∀ b18 : Nat, μ 10 (z17.toNat) = (b18 : Int) → mAt w b18 210 → ∀ z21 : Int, μ b10 2 = z21 → (0 ≤ z21 ∧ z21 ≤ 1) → ((¬ z21 = 0) → ∀ z27 : Int, μ (b18 + 2) (p3.toNat) = z27 → ((-1) ≤ z27 ∧ z27 ≤ 2) → ((z27 = (-1)) → WP_X7_passes_W w μ b10 z17 (fun z36 _ => (0 ≤ z36 ∧ z36 ≤ 1) → ((z36 = 0) → WP_X8_gather_W w μ z17 p3 (fun μ39 => mT w μ39 → mF [21002, 21003, 21004, 21005, 21006, 21007, 32009, 200002, 200003, 200004, 200005, 200006, 200007, 200008, 200009, 200010, 200011, 201999, 202999] w μ μ39 → WP_X8_candidateOver_W w μ39 p1 (fun z47 _ => ((-1) ≤ z47 ∧ z47 ≤ 9) → ∀ z49 : Int, μ39 (b18 + 3) (p3.toNat) = z49 → ((z49 = -99999999 ∨ z49 = -4 ∨ (0 ≤ z49 ∧ z49 ≤ 19)) ∧ (0 ≤ z49 → z49 < w.2.2.2 1)) → WP_X8_candidateOver_W w μ39 z49 (fun z57 _ => ((-1) ≤ z57 ∧ z57 ≤ 9) → ((0 ≤ z47) → ((z47 = z57) → Q (0 : Int) μ39) ∧ ((¬ z47 = z57) → ((0 ≤ z57) → ∀ b64 : Nat, μ39 35 (z47.toNat) = (b64 : Int) → mAt w b64 200 → ∀ b67 : Nat, μ39 35 (z57.toNat) = (b67 : Int) → mAt w b67 200 → WP_X0_firstUnlikeStep_W w μ39 b18 b64 b67 (fun z74 _ => ((-2147483648) ≤ z74 ∧ z74 ≤ 2147483647) → Q z74 μ39)) ∧ ((z57 < 0) → Q (0 : Int) μ39))) ∧ ((z47 < 0) → Q (10 : Int) μ39))))) ∧ ((¬ z36 = 0) → Q (9 : Int) μ))) ∧ ((¬ z27 = (-1)) → Q (8 : Int) μ)) ∧ ((z21 = 0) → Q ((-99999999) : Int) μ)))
theorem vc_X8_reason_W_8 {z47 z57 : Int} (h0 : z47 = z57) (h1 : 0 ≤ z47) (h2 : 0 ≤ z47 ∧ z47 ≤ 9) (h3 : (-1) ≤ z57 ∧ z57 ≤ 9) : 0 ≤ z57 ∧ z57 ≤ 9 := by omega
theorem vc_X8_reason_W_9 {z47 z57 : Int} (h0 : 0 ≤ z57) (h1 : ¬ z47 = z57) (h2 : 0 ≤ z47 ∧ z47 ≤ 9) (h3 : (-1) ≤ z57 ∧ z57 ≤ 9) : 0 ≤ z57 ∧ z57 ≤ 9 := by omega
theorem vc_X8_reason_W_10 {z47 z57 : Int} (h0 : z57 < 0) (h1 : ¬ z47 = z57) (h2 : 0 ≤ z47 ∧ z47 ≤ 9) (h3 : (-1) ≤ z57 ∧ z57 ≤ 9) : (-1) ≤ z57 ∧ z57 ≤ (-1) := by omega
set_option maxRecDepth 4000 in
set_option maxHeartbeats 4000000 in
theorem c_X8_reason_W {l : Launch} {D : va_G} {c : Nat → ClassId} {H0 : Heap} {sa : Nat × Nat × (Nat → Int32)} {w : mW} {μ : mM} (hw : mWF w) (hT : mT w μ) {p1 : Int} (hp1 : 0 ≤ p1 ∧ p1 ≤ 19) {p2 : Int} (hp2 : 0 ≤ p2 ∧ p2 ≤ 1) {p3 : Int} (hp3 : 0 ≤ p3 ∧ p3 ≤ 9) (hq0 : p1 < w.2.2.2 1) (hIPC : PC w μ) {Q : Int → mM → Prop} (hQ : WP_X8_reason_W w μ p1 p2 p3 Q) : sC (gG l D c H0 sa) mX8_reason 42 0 0 [.ref 32, iv p1, iv p2, iv p3] (mk w μ) (qI w [21002, 21003, 21004, 21005, 21006, 21007, 32009, 200002, 200003, 200004, 200005, 200006, 200007, 200008, 200009, 200010, 200011, 201999, 202999] μ (fun z μ1 => ((-2147483648) ≤ z ∧ z ≤ 2147483647) ∧ Q z μ1 ∧ True)) := by
  refine sC.of rfl (by decide) (le_t rfl) ?_
  refine mr_lvE (lv' := [(0, .ref 32), (1, iv p1), (2, iv p2), (3, iv p3)]) rfl ?_
  refine sv_aload_n (pc := 0) dX8_reason_0 rfl rfl ?_
  refine gf_X8_0 (pc := 1) dX8_reason_1 wF_X8_9 (A_32 hw) hT ?_
  refine gf_X10_4 (pc := 4) dX8_reason_4 wF_X8_76 (A_6 hw) hT ?_
  refine mr_iload_n (pc := 7) (z := p1) dX8_reason_7 rfl rfl ?_
  refine la_11 (pc := 8) dX8_reason_8 (A_11 hw) hT (rIx (n := 20) hp1 rfl) (vc_X8_say_W_1 hq0 hp1) fun b1 q2 A3 => ?_
  refine mr_astore (pc := 9) (lv' := [(4, .ref b1), (0, .ref 32), (1, iv p1), (2, iv p2), (3, iv p3)]) dX8_reason_9 (by decide) rfl ?_
  refine sv_aload (pc := 11) dX8_reason_11 rfl ?_
  refine gf_X9_4 (pc := 13) dX8_reason_13 wF_X8_96 A3 hT fun A4 => ?_
  refine mr_iload_n (pc := 16) (z := p2) dX8_reason_16 rfl rfl ?_
  refine mr_iload_n (pc := 17) (z := p3) dX8_reason_17 rfl rfl ?_
  refine mr_cSP (pc := 18) (c_X9_placeOf_W hw hT hp2 hp3 (hQ b1 q2 A3)) (gOk _ _ _ _ _) dX8_reason_18 (tX9_placeOf _ _ _ _ _) wS_X9_placeOf wM_X8_99 ⟨le_t rfl, le_t rfl⟩ ⟨le_t rfl, le_t rfl⟩ rfl (le_t rfl) fun z9 h8 => ?_
  refine la_222 (pc := 21) dX8_reason_21 A4 hT (rIx (n := 20) h8.1 rfl) fun b10 q11 A12 => ?_
  refine mr_astore (pc := 22) (lv' := [(5, .ref b10), (4, .ref b1), (0, .ref 32), (1, iv p1), (2, iv p2), (3, iv p3)]) dX8_reason_22 (by decide) rfl ?_
  refine sv_aload (pc := 24) dX8_reason_24 rfl ?_
  refine mr_iload_n (pc := 26) (z := p2) dX8_reason_26 rfl rfl ?_
  refine mr_cVP (pc := 27) (c_X9_end_W hw hT A3 (rW (c := (-2147483648)) (d := 2147483647) hp2 rfl) ((h8.2.1 h8.1) b10 q11 A12)) (gOk _ _ _ _ _) dX8_reason_27 (tX9_end _ _ _ _ _) ⟨wV_X9_end, wL_X9_end⟩ wM_X8_86 (gCX9 _ _ _ _ _) rfl A3 rfl ⟨le_t rfl, le_t rfl⟩ ⟨le_t rfl, le_t rfl⟩ rfl (le_t rfl) fun z17 h16 => ?_
  refine mr_istore (pc := 30) (lv' := [(6, iv z17), (5, .ref b10), (4, .ref b1), (0, .ref 32), (1, iv p1), (2, iv p2), (3, iv p3)]) dX8_reason_30 (by decide) rfl ?_
  refine sv_aload_n (pc := 32) dX8_reason_32 rfl rfl ?_
  refine gf_X8_0 (pc := 33) dX8_reason_33 wF_X8_9 (A_32 hw) hT ?_
  refine gf_X10_3 (pc := 36) dX8_reason_36 wF_X8_162 (A_6 hw) hT ?_
  refine mr_iload (pc := 39) (z := z17) dX8_reason_39 rfl ?_
  refine la_10 (pc := 41) dX8_reason_41 (A_10 hw) hT (rIx (n := 10) h16.1 rfl) (vc_X9_end_1 h16.2.1 h16.1) fun b18 q19 A20 => ?_
  refine mr_astore (pc := 42) (lv' := [(7, .ref b18), (6, iv z17), (5, .ref b10), (4, .ref b1), (0, .ref 32), (1, iv p1), (2, iv p2), (3, iv p3)]) dX8_reason_42 (by decide) rfl ?_
  refine sv_aload (pc := 44) dX8_reason_44 rfl ?_
  refine gf_X7_2 (pc := 46) dX8_reason_46 wF_X8_203 A12 hT fun z21 q22 h23 => ?_
  refine mr_if_ne (pc := 49) (tgt := 55) dX8_reason_49 (by decide) (r32 h23 rfl) (fun h24 => ?_) (fun h24 => ?_)
  · have h25 : 1 ≤ z21 ∧ z21 ≤ 1 := (vc_X12_ring_24 h24 h23)
    refine sv_aload (pc := 55) dX8_reason_55 rfl ?_
    refine gf_X0_1 (pc := 57) dX8_reason_57 wF_X8_167 A20 hT fun A26 => ?_
    refine mr_iload_n (pc := 60) (z := p3) dX8_reason_60 rfl rfl ?_
    refine la_212 (pc := 61) dX8_reason_61 A26 hT (rIx (n := 10) hp3 rfl) fun z27 q28 h29 => ?_
    refine mr_iconst (pc := 62) (z := (-1)) dX8_reason_62 ?_
    refine mr_icmp_eq (pc := 63) (tgt := 69) dX8_reason_63 (by decide) (r32 h29 rfl) (r32 (rR (x := (-1))) rfl) (fun h30 => ?_) (fun h30 => ?_)
    · have h31 : (-1) ≤ z27 ∧ z27 ≤ (-1) := (vc_X8_look_W_22 h30 h29)
      refine sv_aload (pc := 69) dX8_reason_69 rfl ?_
      refine mr_iload (pc := 71) (z := z17) dX8_reason_71 rfl ?_
      refine mr_cVP (pc := 73) (c_X7_passes_W hw hT A12 (rW (c := (-2147483648)) (d := 2147483647) h16.1 rfl) ((((((h16.2.2.1 h16.1) b18 q19 A20) z21 q22 h23).1 h24) z27 q28 h29).1 h30)) (gOk _ _ _ _ _) dX8_reason_73 (tX7_passes _ _ _ _ _) ⟨wV_X7_passes, wL_X7_passes⟩ wM_X8_206 (gCX7 _ _ _ _ _) rfl A12 rfl ⟨le_t rfl, le_t rfl⟩ ⟨le_t rfl, le_t rfl⟩ rfl (le_t rfl) fun z36 h35 => ?_
      refine mr_if_eq (pc := 76) (tgt := 82) dX8_reason_76 (by decide) (r32 h35.1 rfl) (fun h37 => ?_) (fun h37 => ?_)
      · have h38 : 0 ≤ z36 ∧ z36 ≤ 0 := (vc_X12_ring_22 h37 h35.1)
        refine sv_aload_n (pc := 82) dX8_reason_82 rfl rfl ?_
        refine mr_iload (pc := 83) (z := z17) dX8_reason_83 rfl ?_
        refine mr_iload_n (pc := 85) (z := p3) dX8_reason_85 rfl rfl ?_
        refine mr_cVV (pc := 86) (c_X8_gather_W hw hT h16.1 hp3 hIPC ((h35.2.1 h35.1).1 h37)) (gOk _ _ _ _ _) dX8_reason_86 (tX8_gather _ _ _ _ _) ⟨wV_X8_gather, wL_X8_gather⟩ wM_X8_175 (gCX8 _ _ _ _ _) rfl (A_32 hw) rfl ⟨le_t rfl, le_t rfl⟩ ⟨le_t rfl, le_t rfl⟩ rfl (le_t rfl) fun μ39 T40 F41 h42 => ?_
        refine sv_aload_n (pc := 89) dX8_reason_89 rfl rfl ?_
        refine mr_iload_n (pc := 90) (z := p1) dX8_reason_90 rfl rfl ?_
        refine mr_cVP (pc := 91) (c_X8_candidateOver_W hw T40 (rW (c := (-2147483648)) (d := 2147483647) hp1 rfl) (h42.1 T40 F41)) (gOk _ _ _ _ _) dX8_reason_91 (tX8_candidateOver _ _ _ _ _) ⟨wV_X8_candidateOver, wL_X8_candidateOver⟩ wM_X8_276 (gCX8 _ _ _ _ _) rfl (A_32 hw) rfl ⟨le_t rfl, le_t rfl⟩ ⟨le_t rfl, le_t rfl⟩ rfl (le_t rfl) fun z47 h46 => ?_
        refine mr_istore (pc := 94) (lv' := [(8, iv z47), (7, .ref b18), (6, iv z17), (5, .ref b10), (4, .ref b1), (0, .ref 32), (1, iv p1), (2, iv p2), (3, iv p3)]) dX8_reason_94 (by decide) rfl ?_
        refine sv_aload_n (pc := 96) dX8_reason_96 rfl rfl ?_
        refine sv_aload (pc := 97) dX8_reason_97 rfl ?_
        refine gf_X0_2 (pc := 99) dX8_reason_99 wF_X8_190 A20 T40 fun A48 => ?_
        refine mr_iload_n (pc := 102) (z := p3) dX8_reason_102 rfl rfl ?_
        refine la_213 (pc := 103) dX8_reason_103 A48 T40 (rIx (n := 10) hp3 rfl) fun z49 q50 h51 => ?_
        have h52 : (-99999999) ≤ z49 ∧ z49 ≤ 19 := (vc_X12_sends_3 h51.1)
        refine mr_cVP (pc := 104) (c_X8_candidateOver_W hw T40 (rW (c := (-2147483648)) (d := 2147483647) h52 rfl) ((h46.2.1 h46.1) z49 q50 h51)) (gOk _ _ _ _ _) dX8_reason_104 (tX8_candidateOver _ _ _ _ _) ⟨wV_X8_candidateOver, wL_X8_candidateOver⟩ wM_X8_276 (gCX8 _ _ _ _ _) rfl (A_32 hw) rfl ⟨le_t rfl, le_t rfl⟩ ⟨le_t rfl, le_t rfl⟩ rfl (le_t rfl) fun z57 h56 => ?_
        refine mr_istore (pc := 107) (lv' := [(9, iv z57), (8, iv z47), (7, .ref b18), (6, iv z17), (5, .ref b10), (4, .ref b1), (0, .ref 32), (1, iv p1), (2, iv p2), (3, iv p3)]) dX8_reason_107 (by decide) rfl ?_
        refine mr_iload (pc := 109) (z := z47) dX8_reason_109 rfl ?_
        refine mr_if_ge (pc := 111) (tgt := 117) dX8_reason_111 (by decide) (r32 h46.1 rfl) (fun h58 => ?_) (fun h58 => ?_)
        · have h59 : 0 ≤ z47 ∧ z47 ≤ 9 := (vc_X12_isThere_6 h58 h46.1)
          refine mr_iload (pc := 117) (z := z47) dX8_reason_117 rfl ?_
          refine mr_iload (pc := 119) (z := z57) dX8_reason_119 rfl ?_
          refine mr_icmp_eq (pc := 121) (tgt := 129) dX8_reason_121 (by decide) (r32 h59 rfl) (r32 h56.1 rfl) (fun h60 => ?_) (fun h60 => ?_)
          · have h61 : 0 ≤ z57 ∧ z57 ≤ 9 := (vc_X8_reason_W_8 h60 h58 h59 h56.1)
            refine mr_iconst (pc := 129) (z := 0) dX8_reason_129 ?_
            exact mr_iret dX8_reason_130 rfl (le_t rfl) (le_t rfl) T40 (mF.call mF.refl F41 rfl) ⟨(rW (c := (-2147483648)) (d := 2147483647) (rR (x := 0)) rfl), (((h56.2.1 h56.1).1 h58).1 h60), trivial⟩
          refine mr_iload (pc := 124) (z := z57) dX8_reason_124 rfl ?_
          refine mr_if_ge (pc := 126) (tgt := 131) dX8_reason_126 (by decide) (r32 h56.1 rfl) (fun h62 => ?_) (fun h62 => ?_)
          · have h63 : 0 ≤ z57 ∧ z57 ≤ 9 := (vc_X8_reason_W_9 h62 h60 h59 h56.1)
            refine sv_aload (pc := 131) dX8_reason_131 rfl ?_
            refine sv_aload_n (pc := 133) dX8_reason_133 rfl rfl ?_
            refine gf_X8_4 (pc := 134) dX8_reason_134 wF_X8_34 (A_32 hw) T40 ?_
            refine mr_iload (pc := 137) (z := z47) dX8_reason_137 rfl ?_
            refine la_35 (pc := 139) dX8_reason_139 (A_35 hw) T40 (rIx (n := 10) h59 rfl) fun b64 q65 A66 => ?_
            refine sv_aload_n (pc := 140) dX8_reason_140 rfl rfl ?_
            refine gf_X8_4 (pc := 141) dX8_reason_141 wF_X8_34 (A_32 hw) T40 ?_
            refine mr_iload (pc := 144) (z := z57) dX8_reason_144 rfl ?_
            refine la_35 (pc := 146) dX8_reason_146 (A_35 hw) T40 (rIx (n := 10) h63 rfl) fun b67 q68 A69 => ?_
            refine mr_cVP (pc := 147) (c_X0_firstUnlikeStep_W hw T40 A20 A66 A69 ((((((h56.2.1 h56.1).1 h58).2 h60).1 h62) b64 q65 A66) b67 q68 A69)) (gOk _ _ _ _ _) dX8_reason_147 (tX0_firstUnlikeStep _ _ _ _ _) ⟨wV_X0_firstUnlikeStep, wL_X0_firstUnlikeStep⟩ wM_X8_279 (gCX0 _ _ _ _ _) rfl A20 rfl ⟨le_t rfl, le_t rfl⟩ ⟨le_t rfl, le_t rfl⟩ rfl (le_t rfl) fun z74 h73 => ?_
            exact mr_iret dX8_reason_150 rfl (le_t rfl) (le_t rfl) T40 (mF.call mF.refl F41 rfl) ⟨h73.1, (h73.2.1 h73.1), trivial⟩
          have h75 : (-1) ≤ z57 ∧ z57 ≤ (-1) := (vc_X8_reason_W_10 h62 h60 h59 h56.1)
          refine mr_iconst (pc := 129) (z := 0) dX8_reason_129 ?_
          exact mr_iret dX8_reason_130 rfl (le_t rfl) (le_t rfl) T40 (mF.call mF.refl F41 rfl) ⟨(rW (c := (-2147483648)) (d := 2147483647) (rR (x := 0)) rfl), ((((h56.2.1 h56.1).1 h58).2 h60).2 h62), trivial⟩
        have h76 : (-1) ≤ z47 ∧ z47 ≤ (-1) := (vc_X12_isThere_3 h58 h46.1)
        refine mr_bipush (pc := 114) (z := 10) dX8_reason_114 (by decide) ?_
        exact mr_iret dX8_reason_116 rfl (le_t rfl) (le_t rfl) T40 (mF.call mF.refl F41 rfl) ⟨(rW (c := (-2147483648)) (d := 2147483647) (rR (x := 10)) rfl), ((h56.2.1 h56.1).2 h58), trivial⟩
      have h77 : 1 ≤ z36 ∧ z36 ≤ 1 := (vc_X12_ring_24 h37 h35.1)
      refine mr_bipush (pc := 79) (z := 9) dX8_reason_79 (by decide) ?_
      exact mr_iret dX8_reason_81 rfl (le_t rfl) (le_t rfl) hT mF.refl ⟨(rW (c := (-2147483648)) (d := 2147483647) (rR (x := 9)) rfl), ((h35.2.1 h35.1).2 h37), trivial⟩
    have h78 : 0 ≤ z27 ∧ z27 ≤ 2 := (vc_X8_look_W_36 h30 h29)
    refine mr_bipush (pc := 66) (z := 8) dX8_reason_66 (by decide) ?_
    exact mr_iret dX8_reason_68 rfl (le_t rfl) (le_t rfl) hT mF.refl ⟨(rW (c := (-2147483648)) (d := 2147483647) (rR (x := 8)) rfl), ((((((h16.2.2.1 h16.1) b18 q19 A20) z21 q22 h23).1 h24) z27 q28 h29).2 h30), trivial⟩
  have h79 : 0 ≤ z21 ∧ z21 ≤ 0 := (vc_X12_ring_22 h24 h23)
  refine mr_ldc (pc := 52) (z := (-99999999)) dX8_reason_52 wG_X8_166 (by decide) ?_
  exact mr_iret dX8_reason_54 rfl (le_t rfl) (le_t rfl) hT mF.refl ⟨(rW (c := (-2147483648)) (d := 2147483647) (rR (x := (-99999999))) rfl), ((((h16.2.2.1 h16.1) b18 q19 A20) z21 q22 h23).2 h24), trivial⟩
def WP_X11_why_W (w : mW) (μ : mM) (p1 : Int) (p2 : Int) (p3 : Int) (Q : Int → mM → Prop) : Prop := ∀ z1 : Int, μ 6 16 = z1 → (z1 = w.2.2.2 1 ∧ 0 ≤ z1 ∧ z1 ≤ 20) → WP_X11_isTie_W w μ p1 (fun z8 _ => (0 ≤ z8 ∧ z8 ≤ 1) → ((z8 = 0) → Q ((-1) : Int) μ) ∧ ((¬ z8 = 0) → WP_X11_isEither_W w μ p2 (fun z20 _ => (0 ≤ z20 ∧ z20 ≤ 1) → ((z20 = 0) → Q ((-1) : Int) μ) ∧ ((¬ z20 = 0) → ∀ z27 : Int, μ 6 14 = z27 → (0 ≤ z27 ∧ z27 ≤ 10) → WP_X11_isPrefix_W w μ p3 (fun z34 _ => (0 ≤ z34 ∧ z34 ≤ 1) → ((¬ z34 = 0) → WP_X8_reason_W w μ p1 p2 p3 (fun z44 μ40 => mT w μ40 → mF [21002, 21003, 21004, 21005, 21006, 21007, 32009, 200002, 200003, 200004, 200005, 200006, 200007, 200008, 200009, 200010, 200011, 201999, 202999] w μ μ40 → ((-2147483648) ≤ z44 ∧ z44 ≤ 2147483647) → Q z44 μ40)) ∧ ((z34 = 0) → Q ((-1) : Int) μ))))))
set_option maxRecDepth 4000 in
set_option maxHeartbeats 4000000 in
theorem c_X11_why_W {l : Launch} {D : va_G} {c : Nat → ClassId} {H0 : Heap} {sa : Nat × Nat × (Nat → Int32)} {w : mW} {μ : mM} (hw : mWF w) (hT : mT w μ) {p1 : Int} (hp1 : (-2147483648) ≤ p1 ∧ p1 ≤ 2147483647) {p2 : Int} (hp2 : (-2147483648) ≤ p2 ∧ p2 ≤ 2147483647) {p3 : Int} (hp3 : (-2147483648) ≤ p3 ∧ p3 ≤ 2147483647) (hIPC : PC w μ) {Q : Int → mM → Prop} (hQ : WP_X11_why_W w μ p1 p2 p3 Q) : sC (gG l D c H0 sa) mX11_why 43 0 0 [.ref 0, iv p1, iv p2, iv p3] (mk w μ) (qI w [21002, 21003, 21004, 21005, 21006, 21007, 32009, 200002, 200003, 200004, 200005, 200006, 200007, 200008, 200009, 200010, 200011, 201999, 202999] μ (fun z μ1 => ((-2147483648) ≤ z ∧ z ≤ 2147483647) ∧ Q z μ1 ∧ True)) := by
  refine sC.of rfl (by decide) (le_t rfl) ?_
  refine mr_lvE (lv' := [(0, .ref 0), (1, iv p1), (2, iv p2), (3, iv p3)]) rfl ?_
  refine sv_aload_n (pc := 0) dX11_why_0 rfl rfl ?_
  refine mr_iload_n (pc := 1) (z := p1) dX11_why_1 rfl rfl ?_
  obtain ⟨z1, q2⟩ : ∃ z, μ 6 16 = z := ⟨_, rfl⟩
  have h3 : (z1 = w.2.2.2 1 ∧ 0 ≤ z1 ∧ z1 ≤ 20) := by rw [← q2]; exact hT 6 6 (A_6 hw) 16
  refine mr_cVP (pc := 2) (c_X11_isTie_W hw hT hp1 q2 (hQ z1 q2 h3)) (gOk _ _ _ _ _) dX11_why_2 (tX11_isTie _ _ _ _ _) ⟨wV_X11_isTie, wL_X11_isTie⟩ wM_X11_119 (gCX11 _ _ _ _ _) rfl (A_0 hw) rfl ⟨le_t rfl, le_t rfl⟩ ⟨le_t rfl, le_t rfl⟩ rfl (le_t rfl) fun z8 h7 => ?_
  refine mr_if_eq (pc := 5) (tgt := 23) dX11_why_5 (by decide) (r32 h7.1 rfl) (fun h9 => ?_) (fun h9 => ?_)
  · have h10 : 0 ≤ z8 ∧ z8 ≤ 0 := (vc_X12_write_1 h9 h7.2.1 h7.2.2.1 hp1 h3.2 h7.1)
    have h11 : p1 < 0 ∨ z1 ≤ p1 := (h7.2.2.1 (vc_X11_write_2 h7.2.1 h7.2.2.1 h9 h3.1 hp1 h3.2 h10))
    refine mr_iconst (pc := 23) (z := (-1)) dX11_why_23 ?_
    exact mr_iret dX11_why_24 rfl (le_t rfl) (le_t rfl) hT mF.refl ⟨(rW (c := (-2147483648)) (d := 2147483647) (rR (x := (-1))) rfl), ((h7.2.2.2.1 h7.1).1 h9), trivial⟩
  have h12 : 1 ≤ z8 ∧ z8 ≤ 1 := (vc_X12_write_3 h9 h7.2.1 h7.2.2.1 hp1 h3.2 h7.1)
  have h13 : 0 ≤ p1 ∧ p1 < z1 := (h7.2.1 (vc_X11_write_4 h7.2.1 h7.2.2.1 h9 h3.1 hp1 h3.2 h12))
  have h14 : 0 ≤ p1 ∧ p1 ≤ 19 := (vc_X11_write_5 h13 h3.1 h7.2.1 h7.2.2.1 hp1 h3.2 h12)
  have h15 : 1 ≤ z1 ∧ z1 ≤ 20 := (vc_X11_write_6 h13 h3.1 h7.2.1 h7.2.2.1 h14 h3.2 h12)
  refine mr_iload_n (pc := 8) (z := p2) dX11_why_8 rfl rfl ?_
  refine mr_cSP (pc := 9) (c_X11_isEither_W hw hT hp2 ((h7.2.2.2.1 h7.1).2 h9)) (gOk _ _ _ _ _) dX11_why_9 (tX11_isEither _ _ _ _ _) wS_X11_isEither wM_X11_271 ⟨le_t rfl, le_t rfl⟩ ⟨le_t rfl, le_t rfl⟩ rfl (le_t rfl) fun z20 h19 => ?_
  refine mr_if_eq (pc := 12) (tgt := 23) dX11_why_12 (by decide) (r32 h19.1 rfl) (fun h21 => ?_) (fun h21 => ?_)
  · have h22 : 0 ≤ z20 ∧ z20 ≤ 0 := (vc_X11_write_7 h21 h19.2.1 h19.2.2.1 hp2 h19.1)
    have h23 : p2 < 0 ∨ 1 < p2 := (h19.2.2.1 (vc_X11_write_8 h19.2.1 h19.2.2.1 h21 hp2 h22))
    refine mr_iconst (pc := 23) (z := (-1)) dX11_why_23 ?_
    exact mr_iret dX11_why_24 rfl (le_t rfl) (le_t rfl) hT mF.refl ⟨(rW (c := (-2147483648)) (d := 2147483647) (rR (x := (-1))) rfl), ((h19.2.2.2.1 h19.1).1 h21), trivial⟩
  have h24 : 1 ≤ z20 ∧ z20 ≤ 1 := (vc_X11_write_9 h21 h19.2.1 h19.2.2.1 hp2 h19.1)
  have h25 : 0 ≤ p2 ∧ p2 ≤ 1 := (h19.2.1 (vc_X11_write_10 h19.2.1 h19.2.2.1 h21 hp2 h24))
  have h26 : 0 ≤ p2 ∧ p2 ≤ 1 := (vc_X11_write_11 h25 h19.2.1 h19.2.2.1 hp2 h24)
  refine sv_aload_n (pc := 15) dX11_why_15 rfl rfl ?_
  refine mr_iload_n (pc := 16) (z := p3) dX11_why_16 rfl rfl ?_
  obtain ⟨z27, q28⟩ : ∃ z, μ 6 14 = z := ⟨_, rfl⟩
  have h29 : (0 ≤ z27 ∧ z27 ≤ 10) := by rw [← q28]; exact hT 6 6 (A_6 hw) 14
  refine mr_cVP (pc := 17) (c_X11_isPrefix_W hw hT hp3 q28 (((h19.2.2.2.1 h19.1).2 h21) z27 q28 h29)) (gOk _ _ _ _ _) dX11_why_17 (tX11_isPrefix _ _ _ _ _) ⟨wV_X11_isPrefix, wL_X11_isPrefix⟩ wM_X11_182 (gCX11 _ _ _ _ _) rfl (A_0 hw) rfl ⟨le_t rfl, le_t rfl⟩ ⟨le_t rfl, le_t rfl⟩ rfl (le_t rfl) fun z34 h33 => ?_
  refine mr_if_ne (pc := 20) (tgt := 25) dX11_why_20 (by decide) (r32 h33.1 rfl) (fun h35 => ?_) (fun h35 => ?_)
  · have h36 : 1 ≤ z34 ∧ z34 ≤ 1 := (vc_X12_write_12 h35 h33.2.1 h33.2.2.1 hp3 h29 h33.1)
    have h37 : 0 ≤ p3 ∧ p3 < z27 := (h33.2.1 (vc_X12_write_13 h33.2.1 h33.2.2.1 h35 hp3 h29 h36))
    have h38 : 0 ≤ p3 ∧ p3 ≤ 9 := (vc_X12_write_14 h37 h33.2.1 h33.2.2.1 hp3 h29 h36)
    have h39 : 1 ≤ z27 ∧ z27 ≤ 10 := (vc_X12_write_15 h37 h33.2.1 h33.2.2.1 h38 h29 h36)
    refine sv_aload_n (pc := 25) dX11_why_25 rfl rfl ?_
    refine gf_X11_6 (pc := 26) dX11_why_26 wF_X11_51 (A_0 hw) hT ?_
    refine mr_iload_n (pc := 29) (z := p1) dX11_why_29 rfl rfl ?_
    refine mr_iload_n (pc := 30) (z := p2) dX11_why_30 rfl rfl ?_
    refine mr_iload_n (pc := 31) (z := p3) dX11_why_31 rfl rfl ?_
    refine mr_cVI (pc := 32) (c_X8_reason_W hw hT h14 h26 h38 (vc_X11_write_16 h3.1 h7.2.1 h7.2.2.1 h13 h9 h14 h15 h12) hIPC ((h33.2.2.2.1 h33.1).1 h35)) (gOk _ _ _ _ _) dX11_why_32 (tX8_reason _ _ _ _ _) ⟨wV_X8_reason, wL_X8_reason⟩ wM_X11_333 (gCX8 _ _ _ _ _) rfl (A_32 hw) rfl ⟨le_t rfl, le_t rfl⟩ ⟨le_t rfl, le_t rfl⟩ rfl (le_t rfl) fun z44 μ40 T41 F42 h43 => ?_
    exact mr_iret dX11_why_35 rfl (le_t rfl) (le_t rfl) T41 (mF.call mF.refl F42 rfl) ⟨h43.1, ((h43.2.1 T41 F42) h43.1), trivial⟩
  have h45 : 0 ≤ z34 ∧ z34 ≤ 0 := (vc_X12_write_78 h35 h33.2.1 h33.2.2.1 hp3 h29 h33.1)
  have h46 : p3 < 0 ∨ z27 ≤ p3 := (h33.2.2.1 (vc_X12_write_79 h33.2.1 h33.2.2.1 h35 hp3 h29 h45))
  refine mr_iconst (pc := 23) (z := (-1)) dX11_why_23 ?_
  exact mr_iret dX11_why_24 rfl (le_t rfl) (le_t rfl) hT mF.refl ⟨(rW (c := (-2147483648)) (d := 2147483647) (rR (x := (-1))) rfl), ((h33.2.2.2.1 h33.1).2 h35), trivial⟩
def WJ_X8_threeInRing_W_4 (w : mW) (Q : Int → mM → Prop) (μ10 : mM) (z2088 : Int) : Prop := (0 ≤ z2088 ∧ z2088 ≤ 9) → ∀ b2092 : Nat, μ10 35 (z2088.toNat) = (b2092 : Int) → mAt w b2092 200 → ∀ z2095 : Int, μ10 b2092 10 = z2095 → (0 ≤ z2095 ∧ z2095 ≤ 19 ∧ (z2095 = 0 ∨ z2095 < w.2.2.2 1)) → Q z2095 μ10
def WL_X8_threeInRing_W_3 (w : mW) (p3 : Int) (Q : Int → mM → Prop) (b1 : Nat) (μ10 : mM) (z1211 : Int) (z1220 : Int) (rec2 : (Int) → Prop) (z1799 : Int) (b1811 : Nat) (b1814 : Nat) (rec3 : (Int) → Prop) (s : (Int)) : Prop := ∀ z2053 : Int, s = (z2053) → (0 ≤ z2053 ∧ z2053 ≤ 10) → ((z1220 ≤ z2053) → rec2 ((z1799 + 1))) ∧ ((z2053 < z1220) → ∀ b2065 : Nat, μ10 35 (z2053.toNat) = (b2065 : Int) → mAt w b2065 200 → WP_X0_prefers_W w μ10 b1 b1814 b2065 (fun z2072 _ => (0 ≤ z2072 ∧ z2072 ≤ 1) → ((z2072 = 0) → rec3 ((z2053 + 1))) ∧ ((¬ z2072 = 0) → WP_X0_prefers_W w μ10 b1 b2065 b1811 (fun z2080 _ => (0 ≤ z2080 ∧ z2080 ≤ 1) → ((z2080 = 0) → rec3 ((z2053 + 1))) ∧ ((¬ z2080 = 0) → ((¬ p3 = 0) → ((¬ p3 = 1) → (WJ_X8_threeInRing_W_4 w Q μ10) z2053) ∧ ((p3 = 1) → (WJ_X8_threeInRing_W_4 w Q μ10) z1799)) ∧ ((p3 = 0) → (WJ_X8_threeInRing_W_4 w Q μ10) z1211))))))
def WL_X8_threeInRing_W_2 (w : mW) (p3 : Int) (Q : Int → mM → Prop) (b1 : Nat) (μ10 : mM) (rec1 : (Int) → Prop) (z1211 : Int) (z1220 : Int) (rec2 : (Int) → Prop) (s : (Int)) : Prop := ∀ z1799 : Int, s = (z1799) → (0 ≤ z1799 ∧ z1799 ≤ 10) → ((z1220 ≤ z1799) → rec1 ((z1211 + 1))) ∧ ((z1799 < z1220) → ∀ b1811 : Nat, μ10 35 (z1211.toNat) = (b1811 : Int) → mAt w b1811 200 → ∀ b1814 : Nat, μ10 35 (z1799.toNat) = (b1814 : Int) → mAt w b1814 200 → WP_X0_prefers_W w μ10 b1 b1811 b1814 (fun z1821 _ => (0 ≤ z1821 ∧ z1821 ≤ 1) → ((¬ z1821 = 0) → loopF (WL_X8_threeInRing_W_3 w p3 Q b1 μ10 z1211 z1220 rec2 z1799 b1811 b1814) False 12 ((0 : Int))) ∧ ((z1821 = 0) → rec2 ((z1799 + 1)))))
def WL_X8_threeInRing_W_1 (w : mW) (p3 : Int) (Q : Int → mM → Prop) (b1 : Nat) (μ10 : mM) (rec1 : (Int) → Prop) (s : (Int)) : Prop := ∀ z1211 : Int, s = (z1211) → (0 ≤ z1211 ∧ z1211 ≤ 10) → ∀ z1220 : Int, μ10 32 9 = z1220 → (0 ≤ z1220 ∧ z1220 ≤ 10 ∧ (z1220 = 0 ∨ 0 < w.2.2.2 1)) → ((z1220 ≤ z1211) → Q ((-99999999) : Int) μ10) ∧ ((z1211 < z1220) → loopF (WL_X8_threeInRing_W_2 w p3 Q b1 μ10 rec1 z1211 z1220) False 12 ((0 : Int)))
def WP_X8_threeInRing_W (w : mW) (μ : mM) (p1 : Int) (p2 : Int) (p3 : Int) (Q : Int → mM → Prop) : Prop := ∀ b1 : Nat, μ 10 (p1.toNat) = (b1 : Int) → mAt w b1 210 → ∀ z5 : Int, μ (b1 + 2) (p2.toNat) = z5 → ((-1) ≤ z5 ∧ z5 ≤ 2) → ((z5 = (-1)) → WP_X8_gather_W w μ p1 p2 (fun μ10 => mT w μ10 → mF [21002, 21003, 21004, 21005, 21006, 21007, 32009, 200002, 200003, 200004, 200005, 200006, 200007, 200008, 200009, 200010, 200011, 201999, 202999] w μ μ10 → loopF (WL_X8_threeInRing_W_1 w p3 Q b1 μ10) False 12 ((0 : Int)))) ∧ ((¬ z5 = (-1)) → Q ((-99999999) : Int) μ)
theorem vc_X8_threeInRing_W_4 {n1 z1211 z1220 : Int} (h0 : z1211 < z1220) (h1 : (z1220 = 0 ∨ 0 < n1)) (h2 : 0 ≤ z1211 ∧ z1211 ≤ 10) (h3 : 0 ≤ z1220 ∧ z1220 ≤ 10) : 0 ≤ z1211 ∧ z1211 ≤ 9 := by omega
theorem vc_X8_threeInRing_W_5 {n1 z1211 z1220 : Int} (h0 : z1211 < z1220) (h1 : (z1220 = 0 ∨ 0 < n1)) (h2 : 0 ≤ z1211 ∧ z1211 ≤ 9) (h3 : 0 ≤ z1220 ∧ z1220 ≤ 10) : 1 ≤ z1220 ∧ z1220 ≤ 10 := by omega
theorem vc_X8_threeInRing_W_7 {n1 z1211 z1220 z1799 : Int} (h0 : z1220 ≤ z1799) (h1 : (z1220 = 0 ∨ 0 < n1)) (h2 : z1211 < z1220) (h3 : 0 ≤ z1211 ∧ z1211 ≤ 9) (h4 : 1 ≤ z1220 ∧ z1220 ≤ 10) (h5 : 0 ≤ z1799 ∧ z1799 ≤ 10) : 1 ≤ z1799 ∧ z1799 ≤ 10 := by omega
theorem vc_X8_threeInRing_W_8 {N n1 z1211 z1220 z1799 : Int} (h0 : (11 - z1211) < N + 1) (h1 : z1211 < z1220) (h2 : (z1220 = 0 ∨ 0 < n1)) (h3 : z1220 ≤ z1799) (h4 : 0 ≤ z1211 ∧ z1211 ≤ 9) (h5 : 1 ≤ z1220 ∧ z1220 ≤ 10) (h6 : 1 ≤ z1799 ∧ z1799 ≤ 10) : (11 - (z1211 + 1)) < N := by omega
theorem vc_X8_threeInRing_W_9 {n1 z1211 z1220 z1799 : Int} (h0 : z1799 < z1220) (h1 : (z1220 = 0 ∨ 0 < n1)) (h2 : z1211 < z1220) (h3 : 0 ≤ z1211 ∧ z1211 ≤ 9) (h4 : 1 ≤ z1220 ∧ z1220 ≤ 10) (h5 : 0 ≤ z1799 ∧ z1799 ≤ 10) : 0 ≤ z1799 ∧ z1799 ≤ 9 := by omega
theorem vc_X8_threeInRing_W_12 {n1 z1211 z1220 z1799 z2053 : Int} (h0 : z1220 ≤ z2053) (h1 : (z1220 = 0 ∨ 0 < n1)) (h2 : z1211 < z1220) (h3 : z1799 < z1220) (h4 : 0 ≤ z1211 ∧ z1211 ≤ 9) (h5 : 1 ≤ z1220 ∧ z1220 ≤ 10) (h6 : 0 ≤ z1799 ∧ z1799 ≤ 9) (h7 : 0 ≤ z2053 ∧ z2053 ≤ 10) : 1 ≤ z2053 ∧ z2053 ≤ 10 := by omega
theorem vc_X8_threeInRing_W_13 {N n1 z1211 z1220 z1799 z2053 : Int} (h0 : (11 - z1799) < N + 1) (h1 : z1799 < z1220) (h2 : (z1220 = 0 ∨ 0 < n1)) (h3 : z1211 < z1220) (h4 : z1220 ≤ z2053) (h5 : 0 ≤ z1211 ∧ z1211 ≤ 9) (h6 : 1 ≤ z1220 ∧ z1220 ≤ 10) (h7 : 0 ≤ z1799 ∧ z1799 ≤ 9) (h8 : 1 ≤ z2053 ∧ z2053 ≤ 10) : (11 - (z1799 + 1)) < N := by omega
theorem vc_X8_threeInRing_W_14 {n1 z1211 z1220 z1799 z2053 : Int} (h0 : z2053 < z1220) (h1 : (z1220 = 0 ∨ 0 < n1)) (h2 : z1211 < z1220) (h3 : z1799 < z1220) (h4 : 0 ≤ z1211 ∧ z1211 ≤ 9) (h5 : 1 ≤ z1220 ∧ z1220 ≤ 10) (h6 : 0 ≤ z1799 ∧ z1799 ≤ 9) (h7 : 0 ≤ z2053 ∧ z2053 ≤ 10) : 0 ≤ z2053 ∧ z2053 ≤ 9 := by omega
theorem vc_X8_threeInRing_W_16 {N n1 z1211 z1220 z1799 z2053 : Int} (h0 : (11 - z2053) < N + 1) (h1 : z2053 < z1220) (h2 : (z1220 = 0 ∨ 0 < n1)) (h3 : z1211 < z1220) (h4 : z1799 < z1220) (h5 : 0 ≤ z1211 ∧ z1211 ≤ 9) (h6 : 1 ≤ z1220 ∧ z1220 ≤ 10) (h7 : 0 ≤ z1799 ∧ z1799 ≤ 9) (h8 : 0 ≤ z2053 ∧ z2053 ≤ 9) : (11 - (z2053 + 1)) < N := by omega
theorem vc_X8_threeInRing_W_21 {p3 : Int} (h0 : ¬ p3 = 1) (h1 : ¬ p3 = 0) (h2 : 1 ≤ p3 ∧ p3 ≤ 2) : 2 ≤ p3 ∧ p3 ≤ 2 := by omega
theorem vc_X8_threeInRing_W_22 {p3 : Int} (h0 : p3 = 1) (h1 : ¬ p3 = 0) (h2 : 1 ≤ p3 ∧ p3 ≤ 2) : 1 ≤ p3 ∧ p3 ≤ 1 := by omega
theorem vc_X8_threeInRing_W_26 {N n1 z1211 z1220 z1799 : Int} (h0 : (11 - z1799) < N + 1) (h1 : z1799 < z1220) (h2 : (z1220 = 0 ∨ 0 < n1)) (h3 : z1211 < z1220) (h4 : 0 ≤ z1211 ∧ z1211 ≤ 9) (h5 : 1 ≤ z1220 ∧ z1220 ≤ 10) (h6 : 0 ≤ z1799 ∧ z1799 ≤ 9) : (11 - (z1799 + 1)) < N := by omega
set_option maxRecDepth 4000 in
set_option maxHeartbeats 4000000 in
theorem c_X8_threeInRing_W {l : Launch} {D : va_G} {c : Nat → ClassId} {H0 : Heap} {sa : Nat × Nat × (Nat → Int32)} {w : mW} {μ : mM} (hw : mWF w) (hT : mT w μ) {p1 : Int} (hp1 : 0 ≤ p1 ∧ p1 ≤ 9) {p2 : Int} (hp2 : 0 ≤ p2 ∧ p2 ≤ 9) {p3 : Int} (hp3 : 0 ≤ p3 ∧ p3 ≤ 2) (hq0 : p1 < w.2.2.2 0) (hIPC : PC w μ) {Q : Int → mM → Prop} (hQ : WP_X8_threeInRing_W w μ p1 p2 p3 Q) : sC (gG l D c H0 sa) mX8_threeInRing 42 0 0 [.ref 32, iv p1, iv p2, iv p3] (mk w μ) (qI w [21002, 21003, 21004, 21005, 21006, 21007, 32009, 200002, 200003, 200004, 200005, 200006, 200007, 200008, 200009, 200010, 200011, 201999, 202999] μ (fun z μ1 => ((-2147483648) ≤ z ∧ z ≤ 2147483647) ∧ Q z μ1 ∧ True)) := by
  refine sC.of rfl (by decide) (le_t rfl) ?_
  refine mr_lvE (lv' := [(0, .ref 32), (1, iv p1), (2, iv p2), (3, iv p3)]) rfl ?_
  refine sv_aload_n (pc := 0) dX8_threeInRing_0 rfl rfl ?_
  refine gf_X8_0 (pc := 1) dX8_threeInRing_1 wF_X8_9 (A_32 hw) hT ?_
  refine gf_X10_3 (pc := 4) dX8_threeInRing_4 wF_X8_162 (A_6 hw) hT ?_
  refine mr_iload_n (pc := 7) (z := p1) dX8_threeInRing_7 rfl rfl ?_
  refine la_10 (pc := 8) dX8_threeInRing_8 (A_10 hw) hT (rIx (n := 10) hp1 rfl) (vc_X9_end_1 hq0 hp1) fun b1 q2 A3 => ?_
  refine mr_astore (pc := 9) (lv' := [(4, .ref b1), (0, .ref 32), (1, iv p1), (2, iv p2), (3, iv p3)]) dX8_threeInRing_9 (by decide) rfl ?_
  refine sv_aload (pc := 11) dX8_threeInRing_11 rfl ?_
  refine gf_X0_1 (pc := 13) dX8_threeInRing_13 wF_X8_167 A3 hT fun A4 => ?_
  refine mr_iload_n (pc := 16) (z := p2) dX8_threeInRing_16 rfl rfl ?_
  refine la_212 (pc := 17) dX8_threeInRing_17 A4 hT (rIx (n := 10) hp2 rfl) fun z5 q6 h7 => ?_
  refine mr_iconst (pc := 18) (z := (-1)) dX8_threeInRing_18 ?_
  refine mr_icmp_eq (pc := 19) (tgt := 25) dX8_threeInRing_19 (by decide) (r32 h7 rfl) (r32 (rR (x := (-1))) rfl) (fun h8 => ?_) (fun h8 => ?_)
  · have h9 : (-1) ≤ z5 ∧ z5 ≤ (-1) := (vc_X8_look_W_22 h8 h7)
    refine sv_aload_n (pc := 25) dX8_threeInRing_25 rfl rfl ?_
    refine mr_iload_n (pc := 26) (z := p1) dX8_threeInRing_26 rfl rfl ?_
    refine mr_iload_n (pc := 27) (z := p2) dX8_threeInRing_27 rfl rfl ?_
    refine mr_cVV (pc := 28) (c_X8_gather_W hw hT hp1 hp2 hIPC (((hQ b1 q2 A3) z5 q6 h7).1 h8)) (gOk _ _ _ _ _) dX8_threeInRing_28 (tX8_gather _ _ _ _ _) ⟨wV_X8_gather, wL_X8_gather⟩ wM_X8_175 (gCX8 _ _ _ _ _) rfl (A_32 hw) rfl ⟨le_t rfl, le_t rfl⟩ ⟨le_t rfl, le_t rfl⟩ rfl (le_t rfl) fun μ10 T11 F12 h13 => ?_
    refine mr_iconst (pc := 31) (z := 0) dX8_threeInRing_31 ?_
    refine mr_istore (pc := 32) (lv' := [(5, iv 0), (4, .ref b1), (0, .ref 32), (1, iv p1), (2, iv p2), (3, iv p3)]) dX8_threeInRing_32 (by decide) rfl ?_
    have L1212 : ∀ (nL1212 : Nat) (z1211 : Int), True → (0 ≤ z1211 ∧ z1211 ≤ 10) → (11 - z1211) < (nL1212 : Int) → loopF (WL_X8_threeInRing_W_1 w p3 Q b1 μ10) False nL1212 (z1211) → sV (gG l D c H0 sa) mX8_threeInRing (sRm 42 0 0) (sZ (gG l D c H0 sa) 0 0 (qI w [21002, 21003, 21004, 21005, 21006, 21007, 32009, 200002, 200003, 200004, 200005, 200006, 200007, 200008, 200009, 200010, 200011, 201999, 202999] μ (fun z μ1 => ((-2147483648) ≤ z ∧ z ≤ 2147483647) ∧ Q z μ1 ∧ True))) 34 [(0, .ref 32), (3, iv p3), (4, .ref b1), (5, iv z1211)] [] (mk w μ10) 0 0 := by
      intro nL1212
      induction nL1212 with
      | zero => intro z1211 _ h1213 h1217 W1218; exact ((vc_X12_ring_2 h1217 h1213)).elim
      | succ nL1212 ih1219 =>
        intro z1211 _ h1213 h1217 W1218
        refine mr_iload (pc := 34) (z := z1211) dX8_threeInRing_34 rfl ?_
        refine sv_aload_n (pc := 36) dX8_threeInRing_36 rfl rfl ?_
        refine gf_X8_9 (pc := 37) dX8_threeInRing_37 wF_X8_200 (A_32 hw) T11 fun z1220 q1221 h1222 => ?_
        have h1223 : 0 ≤ z1220 ∧ z1220 ≤ 10 := ⟨h1222.1, h1222.2.1⟩
        refine mr_icmp_ge (pc := 40) (tgt := 188) dX8_threeInRing_40 (by decide) (r32 h1213 rfl) (r32 h1223 rfl) (fun h1224 => ?_) (fun h1224 => ?_)
        · refine mr_ldc (pc := 188) (z := (-99999999)) dX8_threeInRing_188 wG_X8_166 (by decide) ?_
          exact mr_iret dX8_threeInRing_190 rfl (le_t rfl) (le_t rfl) T11 (mF.call mF.refl F12 rfl) ⟨(rW (c := (-2147483648)) (d := 2147483647) (rR (x := (-99999999))) rfl), (((W1218 z1211 rfl h1213) z1220 q1221 h1222).1 h1224), trivial⟩
        have h1225 : 0 ≤ z1211 ∧ z1211 ≤ 9 := (vc_X8_threeInRing_W_4 h1224 h1222.2.2 h1213 h1223)
        have h1226 : 1 ≤ z1220 ∧ z1220 ≤ 10 := (vc_X8_threeInRing_W_5 h1224 h1222.2.2 h1225 h1223)
        refine mr_iconst (pc := 43) (z := 0) dX8_threeInRing_43 ?_
        refine mr_istore (pc := 44) (lv' := [(6, iv 0), (0, .ref 32), (3, iv p3), (4, .ref b1), (5, iv z1211)]) dX8_threeInRing_44 (by decide) rfl ?_
        have L1800 : ∀ (nL1800 : Nat) (z1799 : Int), True → (0 ≤ z1799 ∧ z1799 ≤ 10) → (11 - z1799) < (nL1800 : Int) → loopF (WL_X8_threeInRing_W_2 w p3 Q b1 μ10 (loopF (WL_X8_threeInRing_W_1 w p3 Q b1 μ10) False nL1212) z1211 z1220) False nL1800 (z1799) → sV (gG l D c H0 sa) mX8_threeInRing (sRm 42 0 0) (sZ (gG l D c H0 sa) 0 0 (qI w [21002, 21003, 21004, 21005, 21006, 21007, 32009, 200002, 200003, 200004, 200005, 200006, 200007, 200008, 200009, 200010, 200011, 201999, 202999] μ (fun z μ1 => ((-2147483648) ≤ z ∧ z ≤ 2147483647) ∧ Q z μ1 ∧ True))) 46 [(0, .ref 32), (3, iv p3), (4, .ref b1), (5, iv z1211), (6, iv z1799)] [] (mk w μ10) 0 0 := by
          intro nL1800
          induction nL1800 with
          | zero => intro z1799 _ h1801 h1805 W1806; exact ((vc_X12_ring_2 h1805 h1801)).elim
          | succ nL1800 ih1807 =>
            intro z1799 _ h1801 h1805 W1806
            refine mr_iload (pc := 46) (z := z1799) dX8_threeInRing_46 rfl ?_
            refine sv_aload_n (pc := 48) dX8_threeInRing_48 rfl rfl ?_
            refine gk_X8_9 (pc := 49) dX8_threeInRing_49 wF_X8_200 (A_32 hw) q1221 ?_
            refine mr_icmp_ge (pc := 52) (tgt := 182) dX8_threeInRing_52 (by decide) (r32 h1801 rfl) (r32 h1226 rfl) (fun h1808 => ?_) (fun h1808 => ?_)
            · have h1809 : 1 ≤ z1799 ∧ z1799 ≤ 10 := (vc_X8_threeInRing_W_7 h1808 h1222.2.2 h1224 h1225 h1226 h1801)
              refine mr_iinc (pc := 182) (lv' := [(5, iv (z1211 + 1)), (0, .ref 32), (3, iv p3), (4, .ref b1), (6, iv z1799)]) dX8_threeInRing_182 rfl (by decide) rfl ?_
              refine sv_goto (pc := 185) (tgt := 34) dX8_threeInRing_185 (by decide) ?_
              refine mr_lvS (lv' := [(0, .ref 32), (3, iv p3), (4, .ref b1), (5, iv (z1211 + 1))]) (List.forall_mem_cons.mpr ⟨rfl, List.forall_mem_cons.mpr ⟨rfl, List.forall_mem_cons.mpr ⟨rfl, List.forall_mem_cons.mpr ⟨rfl, fun _ h => absurd h List.not_mem_nil⟩⟩⟩⟩) ?_
              exact ih1219 (z1211 + 1) trivial (rW (c := 0) (d := 10) (rAdd (e := 1) (f := 10) h1225 (rR (x := 1)) rfl) rfl) (vc_X8_threeInRing_W_8 (nS h1217) h1224 h1222.2.2 h1808 h1225 h1226 h1809) ((W1806 z1799 rfl h1801).1 h1808)
            have h1810 : 0 ≤ z1799 ∧ z1799 ≤ 9 := (vc_X8_threeInRing_W_9 h1808 h1222.2.2 h1224 h1225 h1226 h1801)
            refine sv_aload (pc := 55) dX8_threeInRing_55 rfl ?_
            refine sv_aload_n (pc := 57) dX8_threeInRing_57 rfl rfl ?_
            refine gf_X8_4 (pc := 58) dX8_threeInRing_58 wF_X8_34 (A_32 hw) T11 ?_
            refine mr_iload (pc := 61) (z := z1211) dX8_threeInRing_61 rfl ?_
            refine la_35 (pc := 63) dX8_threeInRing_63 (A_35 hw) T11 (rIx (n := 10) h1225 rfl) fun b1811 q1812 A1813 => ?_
            refine sv_aload_n (pc := 64) dX8_threeInRing_64 rfl rfl ?_
            refine gf_X8_4 (pc := 65) dX8_threeInRing_65 wF_X8_34 (A_32 hw) T11 ?_
            refine mr_iload (pc := 68) (z := z1799) dX8_threeInRing_68 rfl ?_
            refine la_35 (pc := 70) dX8_threeInRing_70 (A_35 hw) T11 (rIx (n := 10) h1810 rfl) fun b1814 q1815 A1816 => ?_
            refine mr_cVP (pc := 71) (c_X0_prefers_W hw T11 A3 A1813 A1816 ((((W1806 z1799 rfl h1801).2 h1808) b1811 q1812 A1813) b1814 q1815 A1816)) (gOk _ _ _ _ _) dX8_threeInRing_71 (tX0_prefers _ _ _ _ _) ⟨wV_X0_prefers, wL_X0_prefers⟩ wM_X8_235 (gCX0 _ _ _ _ _) rfl A3 rfl ⟨le_t rfl, le_t rfl⟩ ⟨le_t rfl, le_t rfl⟩ rfl (le_t rfl) fun z1821 h1820 => ?_
            refine mr_if_ne (pc := 74) (tgt := 80) dX8_threeInRing_74 (by decide) (r32 h1820.1 rfl) (fun h1822 => ?_) (fun h1822 => ?_)
            · have h1823 : 1 ≤ z1821 ∧ z1821 ≤ 1 := (vc_X12_ring_24 h1822 h1820.1)
              refine mr_iconst (pc := 80) (z := 0) dX8_threeInRing_80 ?_
              refine mr_istore (pc := 81) (lv' := [(7, iv 0), (0, .ref 32), (3, iv p3), (4, .ref b1), (5, iv z1211), (6, iv z1799)]) dX8_threeInRing_81 (by decide) rfl ?_
              have L2054 : ∀ (nL2054 : Nat) (z2053 : Int), True → (0 ≤ z2053 ∧ z2053 ≤ 10) → (11 - z2053) < (nL2054 : Int) → loopF (WL_X8_threeInRing_W_3 w p3 Q b1 μ10 z1211 z1220 (loopF (WL_X8_threeInRing_W_2 w p3 Q b1 μ10 (loopF (WL_X8_threeInRing_W_1 w p3 Q b1 μ10) False nL1212) z1211 z1220) False nL1800) z1799 b1811 b1814) False nL2054 (z2053) → sV (gG l D c H0 sa) mX8_threeInRing (sRm 42 0 0) (sZ (gG l D c H0 sa) 0 0 (qI w [21002, 21003, 21004, 21005, 21006, 21007, 32009, 200002, 200003, 200004, 200005, 200006, 200007, 200008, 200009, 200010, 200011, 201999, 202999] μ (fun z μ1 => ((-2147483648) ≤ z ∧ z ≤ 2147483647) ∧ Q z μ1 ∧ True))) 83 [(0, .ref 32), (3, iv p3), (4, .ref b1), (5, iv z1211), (6, iv z1799), (7, iv z2053)] [] (mk w μ10) 0 0 := by
                intro nL2054
                induction nL2054 with
                | zero => intro z2053 _ h2055 h2059 W2060; exact ((vc_X12_ring_2 h2059 h2055)).elim
                | succ nL2054 ih2061 =>
                  intro z2053 _ h2055 h2059 W2060
                  refine mr_iload (pc := 83) (z := z2053) dX8_threeInRing_83 rfl ?_
                  refine sv_aload_n (pc := 85) dX8_threeInRing_85 rfl rfl ?_
                  refine gk_X8_9 (pc := 86) dX8_threeInRing_86 wF_X8_200 (A_32 hw) q1221 ?_
                  refine mr_icmp_ge (pc := 89) (tgt := 176) dX8_threeInRing_89 (by decide) (r32 h2055 rfl) (r32 h1226 rfl) (fun h2062 => ?_) (fun h2062 => ?_)
                  · have h2063 : 1 ≤ z2053 ∧ z2053 ≤ 10 := (vc_X8_threeInRing_W_12 h2062 h1222.2.2 h1224 h1808 h1225 h1226 h1810 h2055)
                    refine mr_iinc (pc := 176) (lv' := [(6, iv (z1799 + 1)), (0, .ref 32), (3, iv p3), (4, .ref b1), (5, iv z1211), (7, iv z2053)]) dX8_threeInRing_176 rfl (by decide) rfl ?_
                    refine sv_goto (pc := 179) (tgt := 46) dX8_threeInRing_179 (by decide) ?_
                    refine mr_lvS (lv' := [(0, .ref 32), (3, iv p3), (4, .ref b1), (5, iv z1211), (6, iv (z1799 + 1))]) (List.forall_mem_cons.mpr ⟨rfl, List.forall_mem_cons.mpr ⟨rfl, List.forall_mem_cons.mpr ⟨rfl, List.forall_mem_cons.mpr ⟨rfl, List.forall_mem_cons.mpr ⟨rfl, fun _ h => absurd h List.not_mem_nil⟩⟩⟩⟩⟩) ?_
                    exact ih1807 (z1799 + 1) trivial (rW (c := 0) (d := 10) (rAdd (e := 1) (f := 10) h1810 (rR (x := 1)) rfl) rfl) (vc_X8_threeInRing_W_13 (nS h1805) h1808 h1222.2.2 h1224 h2062 h1225 h1226 h1810 h2063) ((W2060 z2053 rfl h2055).1 h2062)
                  have h2064 : 0 ≤ z2053 ∧ z2053 ≤ 9 := (vc_X8_threeInRing_W_14 h2062 h1222.2.2 h1224 h1808 h1225 h1226 h1810 h2055)
                  refine sv_aload (pc := 92) dX8_threeInRing_92 rfl ?_
                  refine sv_aload_n (pc := 94) dX8_threeInRing_94 rfl rfl ?_
                  refine gf_X8_4 (pc := 95) dX8_threeInRing_95 wF_X8_34 (A_32 hw) T11 ?_
                  refine mr_iload (pc := 98) (z := z1799) dX8_threeInRing_98 rfl ?_
                  refine lk_35 (pc := 100) dX8_threeInRing_100 (A_35 hw) (rIx (n := 10) h1810 rfl) q1815 ?_
                  refine sv_aload_n (pc := 101) dX8_threeInRing_101 rfl rfl ?_
                  refine gf_X8_4 (pc := 102) dX8_threeInRing_102 wF_X8_34 (A_32 hw) T11 ?_
                  refine mr_iload (pc := 105) (z := z2053) dX8_threeInRing_105 rfl ?_
                  refine la_35 (pc := 107) dX8_threeInRing_107 (A_35 hw) T11 (rIx (n := 10) h2064 rfl) fun b2065 q2066 A2067 => ?_
                  refine mr_cVP (pc := 108) (c_X0_prefers_W hw T11 A3 A1816 A2067 (((W2060 z2053 rfl h2055).2 h2062) b2065 q2066 A2067)) (gOk _ _ _ _ _) dX8_threeInRing_108 (tX0_prefers _ _ _ _ _) ⟨wV_X0_prefers, wL_X0_prefers⟩ wM_X8_235 (gCX0 _ _ _ _ _) rfl A3 rfl ⟨le_t rfl, le_t rfl⟩ ⟨le_t rfl, le_t rfl⟩ rfl (le_t rfl) fun z2072 h2071 => ?_
                  refine mr_if_eq (pc := 111) (tgt := 170) dX8_threeInRing_111 (by decide) (r32 h2071.1 rfl) (fun h2073 => ?_) (fun h2073 => ?_)
                  · have h2074 : 0 ≤ z2072 ∧ z2072 ≤ 0 := (vc_X12_ring_22 h2073 h2071.1)
                    refine mr_iinc (pc := 170) (lv' := [(7, iv (z2053 + 1)), (0, .ref 32), (3, iv p3), (4, .ref b1), (5, iv z1211), (6, iv z1799)]) dX8_threeInRing_170 rfl (by decide) rfl ?_
                    refine sv_goto (pc := 173) (tgt := 83) dX8_threeInRing_173 (by decide) ?_
                    refine mr_lvS (lv' := [(0, .ref 32), (3, iv p3), (4, .ref b1), (5, iv z1211), (6, iv z1799), (7, iv (z2053 + 1))]) (List.forall_mem_cons.mpr ⟨rfl, List.forall_mem_cons.mpr ⟨rfl, List.forall_mem_cons.mpr ⟨rfl, List.forall_mem_cons.mpr ⟨rfl, List.forall_mem_cons.mpr ⟨rfl, List.forall_mem_cons.mpr ⟨rfl, fun _ h => absurd h List.not_mem_nil⟩⟩⟩⟩⟩⟩) ?_
                    exact ih2061 (z2053 + 1) trivial (rW (c := 0) (d := 10) (rAdd (e := 1) (f := 10) h2064 (rR (x := 1)) rfl) rfl) (vc_X8_threeInRing_W_16 (nS h2059) h2062 h1222.2.2 h1224 h1808 h1225 h1226 h1810 h2064) ((h2071.2.1 h2071.1).1 h2073)
                  have h2075 : 1 ≤ z2072 ∧ z2072 ≤ 1 := (vc_X12_ring_24 h2073 h2071.1)
                  refine sv_aload (pc := 114) dX8_threeInRing_114 rfl ?_
                  refine sv_aload_n (pc := 116) dX8_threeInRing_116 rfl rfl ?_
                  refine gf_X8_4 (pc := 117) dX8_threeInRing_117 wF_X8_34 (A_32 hw) T11 ?_
                  refine mr_iload (pc := 120) (z := z2053) dX8_threeInRing_120 rfl ?_
                  refine lk_35 (pc := 122) dX8_threeInRing_122 (A_35 hw) (rIx (n := 10) h2064 rfl) q2066 ?_
                  refine sv_aload_n (pc := 123) dX8_threeInRing_123 rfl rfl ?_
                  refine gf_X8_4 (pc := 124) dX8_threeInRing_124 wF_X8_34 (A_32 hw) T11 ?_
                  refine mr_iload (pc := 127) (z := z1211) dX8_threeInRing_127 rfl ?_
                  refine lk_35 (pc := 129) dX8_threeInRing_129 (A_35 hw) (rIx (n := 10) h1225 rfl) q1812 ?_
                  refine mr_cVP (pc := 130) (c_X0_prefers_W hw T11 A3 A2067 A1813 ((h2071.2.1 h2071.1).2 h2073)) (gOk _ _ _ _ _) dX8_threeInRing_130 (tX0_prefers _ _ _ _ _) ⟨wV_X0_prefers, wL_X0_prefers⟩ wM_X8_235 (gCX0 _ _ _ _ _) rfl A3 rfl ⟨le_t rfl, le_t rfl⟩ ⟨le_t rfl, le_t rfl⟩ rfl (le_t rfl) fun z2080 h2079 => ?_
                  refine mr_if_eq (pc := 133) (tgt := 170) dX8_threeInRing_133 (by decide) (r32 h2079.1 rfl) (fun h2081 => ?_) (fun h2081 => ?_)
                  · have h2082 : 0 ≤ z2080 ∧ z2080 ≤ 0 := (vc_X12_ring_22 h2081 h2079.1)
                    refine mr_iinc (pc := 170) (lv' := [(7, iv (z2053 + 1)), (0, .ref 32), (3, iv p3), (4, .ref b1), (5, iv z1211), (6, iv z1799)]) dX8_threeInRing_170 rfl (by decide) rfl ?_
                    refine sv_goto (pc := 173) (tgt := 83) dX8_threeInRing_173 (by decide) ?_
                    refine mr_lvS (lv' := [(0, .ref 32), (3, iv p3), (4, .ref b1), (5, iv z1211), (6, iv z1799), (7, iv (z2053 + 1))]) (List.forall_mem_cons.mpr ⟨rfl, List.forall_mem_cons.mpr ⟨rfl, List.forall_mem_cons.mpr ⟨rfl, List.forall_mem_cons.mpr ⟨rfl, List.forall_mem_cons.mpr ⟨rfl, List.forall_mem_cons.mpr ⟨rfl, fun _ h => absurd h List.not_mem_nil⟩⟩⟩⟩⟩⟩) ?_
                    exact ih2061 (z2053 + 1) trivial (rW (c := 0) (d := 10) (rAdd (e := 1) (f := 10) h2064 (rR (x := 1)) rfl) rfl) (vc_X8_threeInRing_W_16 (nS h2059) h2062 h1222.2.2 h1224 h1808 h1225 h1226 h1810 h2064) ((h2079.2.1 h2079.1).1 h2081)
                  have h2083 : 1 ≤ z2080 ∧ z2080 ≤ 1 := (vc_X12_ring_24 h2081 h2079.1)
                  refine mr_iload_n (pc := 136) (z := p3) dX8_threeInRing_136 rfl rfl ?_
                  have J2090 : ∀ (z2088 : Int), ((0 ≤ z2088 ∧ z2088 ≤ 9)) → ((WJ_X8_threeInRing_W_4 w Q μ10) z2088) → sV (gG l D c H0 sa) mX8_threeInRing (sRm 42 0 0) (sZ (gG l D c H0 sa) 0 0 (qI w [21002, 21003, 21004, 21005, 21006, 21007, 32009, 200002, 200003, 200004, 200005, 200006, 200007, 200008, 200009, 200010, 200011, 201999, 202999] μ (fun z μ1 => ((-2147483648) ≤ z ∧ z ≤ 2147483647) ∧ Q z μ1 ∧ True))) 157 [(0, .ref 32)] [iv z2088] (mk w μ10) 0 0 := by
                    intro z2088 h2089 W2091
                    refine mr_istore (pc := 157) (lv' := [(8, iv z2088), (0, .ref 32)]) dX8_threeInRing_157 (by decide) rfl ?_
                    refine sv_aload_n (pc := 159) dX8_threeInRing_159 rfl rfl ?_
                    refine gf_X8_4 (pc := 160) dX8_threeInRing_160 wF_X8_34 (A_32 hw) T11 ?_
                    refine mr_iload (pc := 163) (z := z2088) dX8_threeInRing_163 rfl ?_
                    refine la_35 (pc := 165) dX8_threeInRing_165 (A_35 hw) T11 (rIx (n := 10) h2089 rfl) fun b2092 q2093 A2094 => ?_
                    refine gf_X7_10 (pc := 166) dX8_threeInRing_166 wF_X8_188 A2094 T11 fun z2095 q2096 h2097 => ?_
                    have h2098 : 0 ≤ z2095 ∧ z2095 ≤ 19 := ⟨h2097.1, h2097.2.1⟩
                    exact mr_iret dX8_threeInRing_169 rfl (le_t rfl) (le_t rfl) T11 (mF.call mF.refl F12 rfl) ⟨(rW (c := (-2147483648)) (d := 2147483647) h2098 rfl), (((W2091 h2089) b2092 q2093 A2094) z2095 q2096 h2097), trivial⟩
                  refine mr_if_ne (pc := 137) (tgt := 145) dX8_threeInRing_137 (by decide) (r32 hp3 rfl) (fun h2099 => ?_) (fun h2099 => ?_)
                  · have h2100 : 1 ≤ p3 ∧ p3 ≤ 2 := (vc_X12_provides_3 h2099 hp3)
                    refine mr_iload_n (pc := 145) (z := p3) dX8_threeInRing_145 rfl rfl ?_
                    refine mr_iconst (pc := 146) (z := 1) dX8_threeInRing_146 ?_
                    refine mr_icmp_ne (pc := 147) (tgt := 155) dX8_threeInRing_147 (by decide) (r32 h2100 rfl) (r32 (rR (x := 1)) rfl) (fun h2101 => ?_) (fun h2101 => ?_)
                    · have h2102 : 2 ≤ p3 ∧ p3 ≤ 2 := (vc_X8_threeInRing_W_21 h2101 h2099 h2100)
                      refine mr_iload (pc := 155) (z := z2053) dX8_threeInRing_155 rfl ?_
                      refine mr_lvS (lv' := [(0, .ref 32)]) (List.forall_mem_cons.mpr ⟨rfl, fun _ h => absurd h List.not_mem_nil⟩) ?_
                      exact J2090 z2053 h2064 ((((h2079.2.1 h2079.1).2 h2081).1 h2099).1 h2101)
                    have h2103 : 1 ≤ p3 ∧ p3 ≤ 1 := (vc_X8_threeInRing_W_22 h2101 h2099 h2100)
                    refine mr_iload (pc := 150) (z := z1799) dX8_threeInRing_150 rfl ?_
                    refine sv_goto (pc := 152) (tgt := 157) dX8_threeInRing_152 (by decide) ?_
                    refine mr_lvS (lv' := [(0, .ref 32)]) (List.forall_mem_cons.mpr ⟨rfl, fun _ h => absurd h List.not_mem_nil⟩) ?_
                    exact J2090 z1799 h1810 ((((h2079.2.1 h2079.1).2 h2081).1 h2099).2 h2101)
                  have h2104 : 0 ≤ p3 ∧ p3 ≤ 0 := (vc_X12_provides_4 h2099 hp3)
                  refine mr_iload (pc := 140) (z := z1211) dX8_threeInRing_140 rfl ?_
                  refine sv_goto (pc := 142) (tgt := 157) dX8_threeInRing_142 (by decide) ?_
                  refine mr_lvS (lv' := [(0, .ref 32)]) (List.forall_mem_cons.mpr ⟨rfl, fun _ h => absurd h List.not_mem_nil⟩) ?_
                  exact J2090 z1211 h1225 (((h2079.2.1 h2079.1).2 h2081).2 h2099)
              refine mr_lvS (lv' := [(0, .ref 32), (3, iv p3), (4, .ref b1), (5, iv z1211), (6, iv z1799), (7, iv 0)]) (List.forall_mem_cons.mpr ⟨rfl, List.forall_mem_cons.mpr ⟨rfl, List.forall_mem_cons.mpr ⟨rfl, List.forall_mem_cons.mpr ⟨rfl, List.forall_mem_cons.mpr ⟨rfl, List.forall_mem_cons.mpr ⟨rfl, fun _ h => absurd h List.not_mem_nil⟩⟩⟩⟩⟩⟩) ?_
              exact L2054 12 0 trivial (rW (c := 0) (d := 10) (rR (x := 0)) rfl) vc_X12_ring_27 ((h1820.2.1 h1820.1).1 h1822)
            have h2105 : 0 ≤ z1821 ∧ z1821 ≤ 0 := (vc_X12_ring_22 h1822 h1820.1)
            refine sv_goto (pc := 77) (tgt := 176) dX8_threeInRing_77 (by decide) ?_
            refine mr_iinc (pc := 176) (lv' := [(6, iv (z1799 + 1)), (0, .ref 32), (3, iv p3), (4, .ref b1), (5, iv z1211)]) dX8_threeInRing_176 rfl (by decide) rfl ?_
            refine sv_goto (pc := 179) (tgt := 46) dX8_threeInRing_179 (by decide) ?_
            refine mr_lvS (lv' := [(0, .ref 32), (3, iv p3), (4, .ref b1), (5, iv z1211), (6, iv (z1799 + 1))]) (List.forall_mem_cons.mpr ⟨rfl, List.forall_mem_cons.mpr ⟨rfl, List.forall_mem_cons.mpr ⟨rfl, List.forall_mem_cons.mpr ⟨rfl, List.forall_mem_cons.mpr ⟨rfl, fun _ h => absurd h List.not_mem_nil⟩⟩⟩⟩⟩) ?_
            exact ih1807 (z1799 + 1) trivial (rW (c := 0) (d := 10) (rAdd (e := 1) (f := 10) h1810 (rR (x := 1)) rfl) rfl) (vc_X8_threeInRing_W_26 (nS h1805) h1808 h1222.2.2 h1224 h1225 h1226 h1810) ((h1820.2.1 h1820.1).2 h1822)
        refine mr_lvS (lv' := [(0, .ref 32), (3, iv p3), (4, .ref b1), (5, iv z1211), (6, iv 0)]) (List.forall_mem_cons.mpr ⟨rfl, List.forall_mem_cons.mpr ⟨rfl, List.forall_mem_cons.mpr ⟨rfl, List.forall_mem_cons.mpr ⟨rfl, List.forall_mem_cons.mpr ⟨rfl, fun _ h => absurd h List.not_mem_nil⟩⟩⟩⟩⟩) ?_
        exact L1800 12 0 trivial (rW (c := 0) (d := 10) (rR (x := 0)) rfl) vc_X12_ring_27 (((W1218 z1211 rfl h1213) z1220 q1221 h1222).2 h1224)
    refine mr_lvS (lv' := [(0, .ref 32), (3, iv p3), (4, .ref b1), (5, iv 0)]) (List.forall_mem_cons.mpr ⟨rfl, List.forall_mem_cons.mpr ⟨rfl, List.forall_mem_cons.mpr ⟨rfl, List.forall_mem_cons.mpr ⟨rfl, fun _ h => absurd h List.not_mem_nil⟩⟩⟩⟩) ?_
    exact L1212 12 0 trivial (rW (c := 0) (d := 10) (rR (x := 0)) rfl) vc_X12_ring_27 (h13.1 T11 F12)
  have h2106 : 0 ≤ z5 ∧ z5 ≤ 2 := (vc_X8_look_W_36 h8 h7)
  refine mr_ldc (pc := 22) (z := (-99999999)) dX8_threeInRing_22 wG_X8_166 (by decide) ?_
  exact mr_iret dX8_threeInRing_24 rfl (le_t rfl) (le_t rfl) hT mF.refl ⟨(rW (c := (-2147483648)) (d := 2147483647) (rR (x := (-99999999))) rfl), (((hQ b1 q2 A3) z5 q6 h7).2 h8), trivial⟩
def WP_X11_three_W (w : mW) (μ : mM) (p1 : Int) (p2 : Int) (p3 : Int) (Q : Int → mM → Prop) : Prop := ∀ z1 : Int, μ 6 15 = z1 → (z1 = w.2.2.2 0 ∧ 0 ≤ z1 ∧ z1 ≤ 10) → WP_X11_isDomain_W w μ p1 (fun z8 _ => (0 ≤ z8 ∧ z8 ≤ 1) → ((z8 = 0) → Q ((-1) : Int) μ) ∧ ((¬ z8 = 0) → ∀ z16 : Int, μ 6 14 = z16 → (0 ≤ z16 ∧ z16 ≤ 10) → WP_X11_isPrefix_W w μ p2 (fun z23 _ => (0 ≤ z23 ∧ z23 ≤ 1) → ((¬ z23 = 0) → ((p3 < 0) → Q ((-99999999) : Int) μ) ∧ ((0 ≤ p3) → ((p3 ≤ 2) → WP_X8_threeInRing_W w μ p1 p2 p3 (fun z53 μ49 => mT w μ49 → mF [21002, 21003, 21004, 21005, 21006, 21007, 32009, 200002, 200003, 200004, 200005, 200006, 200007, 200008, 200009, 200010, 200011, 201999, 202999] w μ μ49 → ((-2147483648) ≤ z53 ∧ z53 ≤ 2147483647) → Q z53 μ49)) ∧ ((2 < p3) → Q ((-99999999) : Int) μ))) ∧ ((z23 = 0) → Q ((-1) : Int) μ))))
set_option maxRecDepth 4000 in
set_option maxHeartbeats 4000000 in
theorem c_X11_three_W {l : Launch} {D : va_G} {c : Nat → ClassId} {H0 : Heap} {sa : Nat × Nat × (Nat → Int32)} {w : mW} {μ : mM} (hw : mWF w) (hT : mT w μ) {p1 : Int} (hp1 : (-2147483648) ≤ p1 ∧ p1 ≤ 2147483647) {p2 : Int} (hp2 : (-2147483648) ≤ p2 ∧ p2 ≤ 2147483647) {p3 : Int} (hp3 : (-2147483648) ≤ p3 ∧ p3 ≤ 2147483647) (hIPC : PC w μ) {Q : Int → mM → Prop} (hQ : WP_X11_three_W w μ p1 p2 p3 Q) : sC (gG l D c H0 sa) mX11_three 43 0 0 [.ref 0, iv p1, iv p2, iv p3] (mk w μ) (qI w [21002, 21003, 21004, 21005, 21006, 21007, 32009, 200002, 200003, 200004, 200005, 200006, 200007, 200008, 200009, 200010, 200011, 201999, 202999] μ (fun z μ1 => ((-2147483648) ≤ z ∧ z ≤ 2147483647) ∧ Q z μ1 ∧ True)) := by
  refine sC.of rfl (by decide) (le_t rfl) ?_
  refine mr_lvE (lv' := [(0, .ref 0), (1, iv p1), (2, iv p2), (3, iv p3)]) rfl ?_
  refine sv_aload_n (pc := 0) dX11_three_0 rfl rfl ?_
  refine mr_iload_n (pc := 1) (z := p1) dX11_three_1 rfl rfl ?_
  obtain ⟨z1, q2⟩ : ∃ z, μ 6 15 = z := ⟨_, rfl⟩
  have h3 : (z1 = w.2.2.2 0 ∧ 0 ≤ z1 ∧ z1 ≤ 10) := by rw [← q2]; exact hT 6 6 (A_6 hw) 15
  refine mr_cVP (pc := 2) (c_X11_isDomain_W hw hT hp1 q2 (hQ z1 q2 h3)) (gOk _ _ _ _ _) dX11_three_2 (tX11_isDomain _ _ _ _ _) ⟨wV_X11_isDomain, wL_X11_isDomain⟩ wM_X11_105 (gCX11 _ _ _ _ _) rfl (A_0 hw) rfl ⟨le_t rfl, le_t rfl⟩ ⟨le_t rfl, le_t rfl⟩ rfl (le_t rfl) fun z8 h7 => ?_
  refine mr_if_eq (pc := 5) (tgt := 16) dX11_three_5 (by decide) (r32 h7.1 rfl) (fun h9 => ?_) (fun h9 => ?_)
  · have h10 : 0 ≤ z8 ∧ z8 ≤ 0 := (vc_X12_write_78 h9 h7.2.1 h7.2.2.1 hp1 h3.2 h7.1)
    have h11 : p1 < 0 ∨ z1 ≤ p1 := (h7.2.2.1 (vc_X11_letter_2 h7.2.1 h7.2.2.1 h9 h3.1 hp1 h3.2 h10))
    refine mr_iconst (pc := 16) (z := (-1)) dX11_three_16 ?_
    exact mr_iret dX11_three_17 rfl (le_t rfl) (le_t rfl) hT mF.refl ⟨(rW (c := (-2147483648)) (d := 2147483647) (rR (x := (-1))) rfl), ((h7.2.2.2.1 h7.1).1 h9), trivial⟩
  have h12 : 1 ≤ z8 ∧ z8 ≤ 1 := (vc_X12_write_12 h9 h7.2.1 h7.2.2.1 hp1 h3.2 h7.1)
  have h13 : 0 ≤ p1 ∧ p1 < z1 := (h7.2.1 (vc_X11_letter_4 h7.2.1 h7.2.2.1 h9 h3.1 hp1 h3.2 h12))
  have h14 : 0 ≤ p1 ∧ p1 ≤ 9 := (vc_X11_letter_5 h13 h3.1 h7.2.1 h7.2.2.1 hp1 h3.2 h12)
  have h15 : 1 ≤ z1 ∧ z1 ≤ 10 := (vc_X11_letter_6 h13 h3.1 h7.2.1 h7.2.2.1 h14 h3.2 h12)
  refine sv_aload_n (pc := 8) dX11_three_8 rfl rfl ?_
  refine mr_iload_n (pc := 9) (z := p2) dX11_three_9 rfl rfl ?_
  obtain ⟨z16, q17⟩ : ∃ z, μ 6 14 = z := ⟨_, rfl⟩
  have h18 : (0 ≤ z16 ∧ z16 ≤ 10) := by rw [← q17]; exact hT 6 6 (A_6 hw) 14
  refine mr_cVP (pc := 10) (c_X11_isPrefix_W hw hT hp2 q17 (((h7.2.2.2.1 h7.1).2 h9) z16 q17 h18)) (gOk _ _ _ _ _) dX11_three_10 (tX11_isPrefix _ _ _ _ _) ⟨wV_X11_isPrefix, wL_X11_isPrefix⟩ wM_X11_182 (gCX11 _ _ _ _ _) rfl (A_0 hw) rfl ⟨le_t rfl, le_t rfl⟩ ⟨le_t rfl, le_t rfl⟩ rfl (le_t rfl) fun z23 h22 => ?_
  refine mr_if_ne (pc := 13) (tgt := 18) dX11_three_13 (by decide) (r32 h22.1 rfl) (fun h24 => ?_) (fun h24 => ?_)
  · have h25 : 1 ≤ z23 ∧ z23 ≤ 1 := (vc_X12_write_12 h24 h22.2.1 h22.2.2.1 hp2 h18 h22.1)
    have h26 : 0 ≤ p2 ∧ p2 < z16 := (h22.2.1 (vc_X12_write_13 h22.2.1 h22.2.2.1 h24 hp2 h18 h25))
    have h27 : 0 ≤ p2 ∧ p2 ≤ 9 := (vc_X12_write_14 h26 h22.2.1 h22.2.2.1 hp2 h18 h25)
    refine mr_iload_n (pc := 18) (z := p3) dX11_three_18 rfl rfl ?_
    refine mr_if_lt (pc := 19) (tgt := 27) dX11_three_19 (by decide) hp3 (fun h37 => ?_) (fun h37 => ?_)
    · have h38 : (-2147483648) ≤ p3 ∧ p3 ≤ (-1) := (vc_X12_ring_60 h37 hp3)
      refine mr_ldc (pc := 27) (z := (-99999999)) dX11_three_27 wG_X11_165 (by decide) ?_
      refine sv_goto (pc := 29) (tgt := 42) dX11_three_29 (by decide) ?_
      exact mr_iret dX11_three_42 rfl (le_t rfl) (le_t rfl) hT mF.refl ⟨(rW (c := (-2147483648)) (d := 2147483647) (rR (x := (-99999999))) rfl), (((h22.2.2.2.1 h22.1).1 h24).1 h37), trivial⟩
    have h39 : 0 ≤ p3 ∧ p3 ≤ 2147483647 := (vc_X12_ring_1 h37 hp3)
    refine mr_iload_n (pc := 22) (z := p3) dX11_three_22 rfl rfl ?_
    refine mr_iconst (pc := 23) (z := 2) dX11_three_23 ?_
    refine mr_icmp_le (pc := 24) (tgt := 32) dX11_three_24 (by decide) (r32 h39 rfl) (r32 (rR (x := 2)) rfl) (fun h47 => ?_) (fun h47 => ?_)
    · have h48 : 0 ≤ p3 ∧ p3 ≤ 2 := (vc_X11_units_3 h47 h37 h39)
      refine sv_aload_n (pc := 32) dX11_three_32 rfl rfl ?_
      refine gf_X11_6 (pc := 33) dX11_three_33 wF_X11_51 (A_0 hw) hT ?_
      refine mr_iload_n (pc := 36) (z := p1) dX11_three_36 rfl rfl ?_
      refine mr_iload_n (pc := 37) (z := p2) dX11_three_37 rfl rfl ?_
      refine mr_iload_n (pc := 38) (z := p3) dX11_three_38 rfl rfl ?_
      refine mr_cVI (pc := 39) (c_X8_threeInRing_W hw hT h14 h27 h48 (vc_X11_letter_7 h3.1 h7.2.1 h7.2.2.1 h13 h9 h14 h15 h12) hIPC ((((h22.2.2.2.1 h22.1).1 h24).2 h37).1 h47)) (gOk _ _ _ _ _) dX11_three_39 (tX8_threeInRing _ _ _ _ _) ⟨wV_X8_threeInRing, wL_X8_threeInRing⟩ wM_X11_336 (gCX8 _ _ _ _ _) rfl (A_32 hw) rfl ⟨le_t rfl, le_t rfl⟩ ⟨le_t rfl, le_t rfl⟩ rfl (le_t rfl) fun z53 μ49 T50 F51 h52 => ?_
      exact mr_iret dX11_three_42 rfl (le_t rfl) (le_t rfl) T50 (mF.call mF.refl F51 rfl) ⟨h52.1, ((h52.2.1 T50 F51) h52.1), trivial⟩
    have h54 : 3 ≤ p3 ∧ p3 ≤ 2147483647 := (vc_X11_units_4 h47 h37 h39)
    refine mr_ldc (pc := 27) (z := (-99999999)) dX11_three_27 wG_X11_165 (by decide) ?_
    refine sv_goto (pc := 29) (tgt := 42) dX11_three_29 (by decide) ?_
    exact mr_iret dX11_three_42 rfl (le_t rfl) (le_t rfl) hT mF.refl ⟨(rW (c := (-2147483648)) (d := 2147483647) (rR (x := (-99999999))) rfl), ((((h22.2.2.2.1 h22.1).1 h24).2 h37).2 h47), trivial⟩
  have h55 : 0 ≤ z23 ∧ z23 ≤ 0 := (vc_X12_write_78 h24 h22.2.1 h22.2.2.1 hp2 h18 h22.1)
  have h56 : p2 < 0 ∨ z16 ≤ p2 := (h22.2.2.1 (vc_X12_write_79 h22.2.1 h22.2.2.1 h24 hp2 h18 h55))
  refine mr_iconst (pc := 16) (z := (-1)) dX11_three_16 ?_
  exact mr_iret dX11_three_17 rfl (le_t rfl) (le_t rfl) hT mF.refl ⟨(rW (c := (-2147483648)) (d := 2147483647) (rR (x := (-1))) rfl), ((h22.2.2.2.1 h22.1).2 h24), trivial⟩
def WL_X12_three_W_3 (w : mW) (p1 : Int) (p2 : Int) (p3 : Int) (Q : Int → mM → Prop) (μ43 : mM) (z3103 : Int) (z3112 : Int) (rec2 : (Int) → Prop) (z4607 : Int) (rec3 : (Int) → Prop) (s : (Int)) : Prop := ∀ z5147 : Int, s = (z5147) → (0 ≤ z5147 ∧ z5147 ≤ 20) → ((z3112 ≤ z5147) → rec2 ((z4607 + 1))) ∧ ((z5147 < z3112) → ((z5147 = z3103) → rec3 ((z5147 + 1))) ∧ ((¬ z5147 = z3103) → ((z5147 = z4607) → rec3 ((z5147 + 1))) ∧ ((¬ z5147 = z4607) → ∀ z5161 : Int, μ43 126 ((40 * (4 + z5147)).toNat) = z5161 → ((-2147483648 ≤ z5161 ∧ z5161 ≤ 2147483647) ∧ ((40 * (4 + z5147)) % 40 = 0 → -1 ≤ z5161 ∧ z5161 ≤ 9) ∧ ((40 * (4 + z5147)) % 40 = 4 → 0 ≤ z5161 ∧ z5161 ≤ 20) ∧ ((40 * (4 + z5147)) % 40 = 5 → 0 ≤ z5161 ∧ z5161 ≤ 8)) → WP_X12_isThere_W w μ43 (4 + z5147) (fun z5169 _ => (0 ≤ z5169 ∧ z5169 ≤ 1) → ((¬ z5169 = 0) → WP_X12_beats_W w μ43 p1 z4607 z5147 p2 (fun z5178 _ => (0 ≤ z5178 ∧ z5178 ≤ 1) → ((z5178 = 0) → rec3 ((z5147 + 1))) ∧ ((¬ z5178 = 0) → WP_X12_beats_W w μ43 p1 z5147 z3103 p2 (fun z5186 _ => (0 ≤ z5186 ∧ z5186 ≤ 1) → ((z5186 = 0) → rec3 ((z5147 + 1))) ∧ ((¬ z5186 = 0) → ((¬ p3 = 0) → ((¬ p3 = 1) → Q z5147 μ43) ∧ ((p3 = 1) → Q z4607 μ43)) ∧ ((p3 = 0) → Q z3103 μ43)))))) ∧ ((z5169 = 0) → rec3 ((z5147 + 1)))))))
def WL_X12_three_W_2 (w : mW) (p1 : Int) (p2 : Int) (p3 : Int) (Q : Int → mM → Prop) (μ43 : mM) (rec1 : (Int) → Prop) (z3103 : Int) (z3112 : Int) (rec2 : (Int) → Prop) (s : (Int)) : Prop := ∀ z4607 : Int, s = (z4607) → (0 ≤ z4607 ∧ z4607 ≤ 20) → ((z3112 ≤ z4607) → rec1 ((z3103 + 1))) ∧ ((z4607 < z3112) → ∀ z4619 : Int, μ43 126 ((40 * (4 + z3103)).toNat) = z4619 → ((-2147483648 ≤ z4619 ∧ z4619 ≤ 2147483647) ∧ ((40 * (4 + z3103)) % 40 = 0 → -1 ≤ z4619 ∧ z4619 ≤ 9) ∧ ((40 * (4 + z3103)) % 40 = 4 → 0 ≤ z4619 ∧ z4619 ≤ 20) ∧ ((40 * (4 + z3103)) % 40 = 5 → 0 ≤ z4619 ∧ z4619 ≤ 8)) → WP_X12_isThere_W w μ43 (4 + z3103) (fun z4627 _ => (0 ≤ z4627 ∧ z4627 ≤ 1) → ((z4627 = 0) → rec1 ((z3103 + 1))) ∧ ((¬ z4627 = 0) → ((z4607 = z3103) → rec2 ((z4607 + 1))) ∧ ((¬ z4607 = z3103) → ∀ z4636 : Int, μ43 126 ((40 * (4 + z4607)).toNat) = z4636 → ((-2147483648 ≤ z4636 ∧ z4636 ≤ 2147483647) ∧ ((40 * (4 + z4607)) % 40 = 0 → -1 ≤ z4636 ∧ z4636 ≤ 9) ∧ ((40 * (4 + z4607)) % 40 = 4 → 0 ≤ z4636 ∧ z4636 ≤ 20) ∧ ((40 * (4 + z4607)) % 40 = 5 → 0 ≤ z4636 ∧ z4636 ≤ 8)) → WP_X12_isThere_W w μ43 (4 + z4607) (fun z4644 _ => (0 ≤ z4644 ∧ z4644 ≤ 1) → ((z4644 = 0) → rec2 ((z4607 + 1))) ∧ ((¬ z4644 = 0) → WP_X12_beats_W w μ43 p1 z3103 z4607 p2 (fun z4656 _ => (0 ≤ z4656 ∧ z4656 ≤ 1) → ((¬ z4656 = 0) → loopF (WL_X12_three_W_3 w p1 p2 p3 Q μ43 z3103 z3112 rec2 z4607) False 22 ((0 : Int))) ∧ ((z4656 = 0) → rec2 ((z4607 + 1))))))))))
def WL_X12_three_W_1 (w : mW) (p1 : Int) (p2 : Int) (p3 : Int) (Q : Int → mM → Prop) (μ43 : mM) (rec1 : (Int) → Prop) (s : (Int)) : Prop := ∀ z3103 : Int, s = (z3103) → (0 ≤ z3103 ∧ z3103 ≤ 20) → ∀ z3112 : Int, μ43 106 6 = z3112 → (0 ≤ z3112 ∧ z3112 ≤ 20) → ((z3112 ≤ z3103) → Q ((-99999999) : Int) μ43) ∧ ((z3103 < z3112) → loopF (WL_X12_three_W_2 w p1 p2 p3 Q μ43 rec1 z3103 z3112) False 22 ((0 : Int)))
def WP_X12_three_W (w : mW) (μ : mM) (p1 : Int) (p2 : Int) (p3 : Int) (Q : Int → mM → Prop) : Prop := ∀ z1 : Int, μ 106 5 = z1 → (0 ≤ z1 ∧ z1 ≤ 10) → WP_X12_isDomain_W w μ p1 (fun z8 _ => (0 ≤ z8 ∧ z8 ≤ 1) → ((z8 = 0) → Q ((-1) : Int) μ) ∧ ((¬ z8 = 0) → ∀ z16 : Int, μ 106 2 = z16 → (0 ≤ z16 ∧ z16 ≤ 10) → WP_X12_isPrefix_W w μ p2 (fun z23 _ => (0 ≤ z23 ∧ z23 ≤ 1) → ((¬ z23 = 0) → ∀ z28 : Int, μ 162 (((10 * p1) + p2).toNat) = z28 → ((-1) ≤ z28 ∧ z28 ≤ 2) → ((0 ≤ z28) → Q ((-99999999) : Int) μ) ∧ ((z28 < 0) → WP_X12_in_W w μ p3 (0) (2) (fun z38 _ => (0 ≤ z38 ∧ z38 ≤ 1) → ((¬ z38 = 0) → WP_X12_candidates_W w μ p1 p2 (fun μ43 => mT w μ43 → mF [106026, 106027, 106028, 106029, 106030, 106031, 126999, 151999, 152999, 153999] w μ μ43 → loopF (WL_X12_three_W_1 w p1 p2 p3 Q μ43) False 22 ((0 : Int)))) ∧ ((z38 = 0) → Q ((-99999999) : Int) μ)))) ∧ ((z23 = 0) → Q ((-1) : Int) μ))))
theorem vc_X12_three_W_21 {z3103 z3112 z4607 : Int} (h0 : z3112 ≤ z4607) (h1 : z3103 < z3112) (h2 : 0 ≤ z3103 ∧ z3103 ≤ 19) (h3 : 1 ≤ z3112 ∧ z3112 ≤ 20) (h4 : 0 ≤ z4607 ∧ z4607 ≤ 20) : 1 ≤ z4607 ∧ z4607 ≤ 20 := by omega
theorem vc_X12_three_W_22 {N z3103 z3112 z4607 : Int} (h0 : (21 - z3103) < N + 1) (h1 : z3103 < z3112) (h2 : z3112 ≤ z4607) (h3 : 0 ≤ z3103 ∧ z3103 ≤ 19) (h4 : 1 ≤ z3112 ∧ z3112 ≤ 20) (h5 : 1 ≤ z4607 ∧ z4607 ≤ 20) : (21 - (z3103 + 1)) < N := by omega
theorem vc_X12_three_W_23 {z3103 z3112 z4607 : Int} (h0 : z4607 < z3112) (h1 : z3103 < z3112) (h2 : 0 ≤ z3103 ∧ z3103 ≤ 19) (h3 : 1 ≤ z3112 ∧ z3112 ≤ 20) (h4 : 0 ≤ z4607 ∧ z4607 ≤ 20) : 0 ≤ z4607 ∧ z4607 ≤ 19 := by omega
theorem vc_X12_three_W_24 {z3103 z3112 z4607 : Int} (h0 : z3103 < z3112) (h1 : z4607 < z3112) (h2 : 0 ≤ z3103 ∧ z3103 ≤ 19) (h3 : 1 ≤ z3112 ∧ z3112 ≤ 20) (h4 : 0 ≤ z4607 ∧ z4607 ≤ 19) : 0 ≤ (40 * (4 + z3103)) := by omega
theorem vc_X12_three_W_25 {z3103 z3112 z4607 : Int} (h0 : z3103 < z3112) (h1 : z4607 < z3112) (h2 : 0 ≤ z3103 ∧ z3103 ≤ 19) (h3 : 1 ≤ z3112 ∧ z3112 ≤ 20) (h4 : 0 ≤ z4607 ∧ z4607 ≤ 19) : (40 * (4 + z3103)) % 40 = 0 := by omega
theorem vc_X12_three_W_29 {N z3103 z3112 z4607 : Int} (h0 : (21 - z3103) < N + 1) (h1 : z3103 < z3112) (h2 : z4607 < z3112) (h3 : 0 ≤ z3103 ∧ z3103 ≤ 19) (h4 : 1 ≤ z3112 ∧ z3112 ≤ 20) (h5 : 0 ≤ z4607 ∧ z4607 ≤ 19) : (21 - (z3103 + 1)) < N := by omega
theorem vc_X12_three_W_33 {N z3103 z3112 z4607 : Int} (h0 : (21 - z4607) < N + 1) (h1 : z4607 < z3112) (h2 : z4607 = z3103) (h3 : z3103 < z3112) (h4 : 0 ≤ z3103 ∧ z3103 ≤ 19) (h5 : 1 ≤ z3112 ∧ z3112 ≤ 20) (h6 : 0 ≤ z4607 ∧ z4607 ≤ 19) : (21 - (z4607 + 1)) < N := by omega
theorem vc_X12_three_W_34 {z3103 z3112 z4607 : Int} (h0 : z4607 < z3112) (h1 : ¬ z4607 = z3103) (h2 : z3103 < z3112) (h3 : 0 ≤ z3103 ∧ z3103 ≤ 19) (h4 : 1 ≤ z3112 ∧ z3112 ≤ 20) (h5 : 0 ≤ z4607 ∧ z4607 ≤ 19) : 0 ≤ (40 * (4 + z4607)) := by omega
theorem vc_X12_three_W_35 {z3103 z3112 z4607 : Int} (h0 : z4607 < z3112) (h1 : ¬ z4607 = z3103) (h2 : z3103 < z3112) (h3 : 0 ≤ z3103 ∧ z3103 ≤ 19) (h4 : 1 ≤ z3112 ∧ z3112 ≤ 20) (h5 : 0 ≤ z4607 ∧ z4607 ≤ 19) : (40 * (4 + z4607)) % 40 = 0 := by omega
theorem vc_X12_three_W_39 {N z3103 z3112 z4607 : Int} (h0 : (21 - z4607) < N + 1) (h1 : z4607 < z3112) (h2 : ¬ z4607 = z3103) (h3 : z3103 < z3112) (h4 : 0 ≤ z3103 ∧ z3103 ≤ 19) (h5 : 1 ≤ z3112 ∧ z3112 ≤ 20) (h6 : 0 ≤ z4607 ∧ z4607 ≤ 19) : (21 - (z4607 + 1)) < N := by omega
theorem vc_X12_three_W_45 {z3103 z3112 z4607 z5147 : Int} (h0 : z3112 ≤ z5147) (h1 : z3103 < z3112) (h2 : z4607 < z3112) (h3 : 0 ≤ z3103 ∧ z3103 ≤ 19) (h4 : 1 ≤ z3112 ∧ z3112 ≤ 20) (h5 : 0 ≤ z4607 ∧ z4607 ≤ 19) (h6 : 0 ≤ z5147 ∧ z5147 ≤ 20) : 1 ≤ z5147 ∧ z5147 ≤ 20 := by omega
theorem vc_X12_three_W_46 {N z3103 z3112 z4607 z5147 : Int} (h0 : (21 - z4607) < N + 1) (h1 : z4607 < z3112) (h2 : ¬ z4607 = z3103) (h3 : z3103 < z3112) (h4 : z3112 ≤ z5147) (h5 : 0 ≤ z3103 ∧ z3103 ≤ 19) (h6 : 1 ≤ z3112 ∧ z3112 ≤ 20) (h7 : 0 ≤ z4607 ∧ z4607 ≤ 19) (h8 : 1 ≤ z5147 ∧ z5147 ≤ 20) : (21 - (z4607 + 1)) < N := by omega
theorem vc_X12_three_W_47 {z3103 z3112 z4607 z5147 : Int} (h0 : z5147 < z3112) (h1 : z3103 < z3112) (h2 : z4607 < z3112) (h3 : 0 ≤ z3103 ∧ z3103 ≤ 19) (h4 : 1 ≤ z3112 ∧ z3112 ≤ 20) (h5 : 0 ≤ z4607 ∧ z4607 ≤ 19) (h6 : 0 ≤ z5147 ∧ z5147 ≤ 20) : 0 ≤ z5147 ∧ z5147 ≤ 19 := by omega
theorem vc_X12_three_W_48 {N z3103 z3112 z4607 z5147 : Int} (h0 : (21 - z5147) < N + 1) (h1 : z5147 < z3112) (h2 : z5147 = z3103) (h3 : z3103 < z3112) (h4 : z4607 < z3112) (h5 : ¬ z4607 = z3103) (h6 : 0 ≤ z3103 ∧ z3103 ≤ 19) (h7 : 1 ≤ z3112 ∧ z3112 ≤ 20) (h8 : 0 ≤ z4607 ∧ z4607 ≤ 19) (h9 : 0 ≤ z5147 ∧ z5147 ≤ 19) : (21 - (z5147 + 1)) < N := by omega
theorem vc_X12_three_W_49 {N z3103 z3112 z4607 z5147 : Int} (h0 : (21 - z5147) < N + 1) (h1 : z5147 < z3112) (h2 : ¬ z5147 = z3103) (h3 : z5147 = z4607) (h4 : z3103 < z3112) (h5 : z4607 < z3112) (h6 : ¬ z4607 = z3103) (h7 : 0 ≤ z3103 ∧ z3103 ≤ 19) (h8 : 1 ≤ z3112 ∧ z3112 ≤ 20) (h9 : 0 ≤ z4607 ∧ z4607 ≤ 19) (h10 : 0 ≤ z5147 ∧ z5147 ≤ 19) : (21 - (z5147 + 1)) < N := by omega
theorem vc_X12_three_W_50 {z3103 z3112 z4607 z5147 : Int} (h0 : z5147 < z3112) (h1 : ¬ z5147 = z3103) (h2 : ¬ z5147 = z4607) (h3 : z3103 < z3112) (h4 : z4607 < z3112) (h5 : ¬ z4607 = z3103) (h6 : 0 ≤ z3103 ∧ z3103 ≤ 19) (h7 : 1 ≤ z3112 ∧ z3112 ≤ 20) (h8 : 0 ≤ z4607 ∧ z4607 ≤ 19) (h9 : 0 ≤ z5147 ∧ z5147 ≤ 19) : 0 ≤ (40 * (4 + z5147)) := by omega
theorem vc_X12_three_W_51 {z3103 z3112 z4607 z5147 : Int} (h0 : z5147 < z3112) (h1 : ¬ z5147 = z3103) (h2 : ¬ z5147 = z4607) (h3 : z3103 < z3112) (h4 : z4607 < z3112) (h5 : ¬ z4607 = z3103) (h6 : 0 ≤ z3103 ∧ z3103 ≤ 19) (h7 : 1 ≤ z3112 ∧ z3112 ≤ 20) (h8 : 0 ≤ z4607 ∧ z4607 ≤ 19) (h9 : 0 ≤ z5147 ∧ z5147 ≤ 19) : (40 * (4 + z5147)) % 40 = 0 := by omega
theorem vc_X12_three_W_56 {N z3103 z3112 z4607 z5147 : Int} (h0 : (21 - z5147) < N + 1) (h1 : z5147 < z3112) (h2 : ¬ z5147 = z3103) (h3 : ¬ z5147 = z4607) (h4 : z3103 < z3112) (h5 : z4607 < z3112) (h6 : ¬ z4607 = z3103) (h7 : 0 ≤ z3103 ∧ z3103 ≤ 19) (h8 : 1 ≤ z3112 ∧ z3112 ≤ 20) (h9 : 0 ≤ z4607 ∧ z4607 ≤ 19) (h10 : 0 ≤ z5147 ∧ z5147 ≤ 19) : (21 - (z5147 + 1)) < N := by omega
theorem vc_X12_three_W_60 {p3 z38 : Int} (h0 : ¬ p3 = 0) (h1 : (z38 = 1 → (0 : Int) ≤ p3 ∧ p3 ≤ (2 : Int))) (h2 : (z38 = 0 → p3 < (0 : Int) ∨ (2 : Int) < p3)) (h3 : (0 : Int) ≤ p3 ∧ p3 ≤ (2 : Int)) (h4 : 0 ≤ p3 ∧ p3 ≤ 2) (h5 : 1 ≤ z38 ∧ z38 ≤ 1) : 1 ≤ p3 ∧ p3 ≤ 2 := by omega
theorem vc_X12_three_W_61 {p3 z38 : Int} (h0 : ¬ p3 = 1) (h1 : (z38 = 1 → (0 : Int) ≤ p3 ∧ p3 ≤ (2 : Int))) (h2 : (z38 = 0 → p3 < (0 : Int) ∨ (2 : Int) < p3)) (h3 : (0 : Int) ≤ p3 ∧ p3 ≤ (2 : Int)) (h4 : ¬ p3 = 0) (h5 : 1 ≤ p3 ∧ p3 ≤ 2) (h6 : 1 ≤ z38 ∧ z38 ≤ 1) : 2 ≤ p3 ∧ p3 ≤ 2 := by omega
theorem vc_X12_three_W_62 {p3 z38 : Int} (h0 : p3 = 1) (h1 : (z38 = 1 → (0 : Int) ≤ p3 ∧ p3 ≤ (2 : Int))) (h2 : (z38 = 0 → p3 < (0 : Int) ∨ (2 : Int) < p3)) (h3 : (0 : Int) ≤ p3 ∧ p3 ≤ (2 : Int)) (h4 : ¬ p3 = 0) (h5 : 1 ≤ p3 ∧ p3 ≤ 2) (h6 : 1 ≤ z38 ∧ z38 ≤ 1) : 1 ≤ p3 ∧ p3 ≤ 1 := by omega
theorem vc_X12_three_W_63 {p3 z38 : Int} (h0 : p3 = 0) (h1 : (z38 = 1 → (0 : Int) ≤ p3 ∧ p3 ≤ (2 : Int))) (h2 : (z38 = 0 → p3 < (0 : Int) ∨ (2 : Int) < p3)) (h3 : (0 : Int) ≤ p3 ∧ p3 ≤ (2 : Int)) (h4 : 0 ≤ p3 ∧ p3 ≤ 2) (h5 : 1 ≤ z38 ∧ z38 ≤ 1) : 0 ≤ p3 ∧ p3 ≤ 0 := by omega
set_option maxRecDepth 4000 in
set_option maxHeartbeats 4000000 in
theorem c_X12_three_W {l : Launch} {D : va_G} {c : Nat → ClassId} {H0 : Heap} {sa : Nat × Nat × (Nat → Int32)} {w : mW} {μ : mM} (hw : mWF w) (hT : mT w μ) {p1 : Int} (hp1 : (-2147483648) ≤ p1 ∧ p1 ≤ 2147483647) {p2 : Int} (hp2 : (-2147483648) ≤ p2 ∧ p2 ≤ 2147483647) {p3 : Int} (hp3 : (-2147483648) ≤ p3 ∧ p3 ≤ 2147483647) (hIG1 : G1 μ) (hIEV : EV μ) (hIPK : PK μ) {Q : Int → mM → Prop} (hQ : WP_X12_three_W w μ p1 p2 p3 Q) : sC (gG l D c H0 sa) mX12_three 9 0 0 [.ref 106, iv p1, iv p2, iv p3] (mk w μ) (qI w [106026, 106027, 106028, 106029, 106030, 106031, 126999, 151999, 152999, 153999] μ (fun z μ1 => ((-2147483648) ≤ z ∧ z ≤ 2147483647) ∧ G1 μ1 ∧ EV μ1 ∧ Q z μ1 ∧ True)) := by
  refine sC.of rfl (by decide) (le_t rfl) ?_
  refine mr_lvE (lv' := [(0, .ref 106), (1, iv p1), (2, iv p2), (3, iv p3)]) rfl ?_
  refine sv_aload_n (pc := 0) dX12_three_0 rfl rfl ?_
  refine mr_iload_n (pc := 1) (z := p1) dX12_three_1 rfl rfl ?_
  obtain ⟨z1, q2⟩ : ∃ z, μ 106 5 = z := ⟨_, rfl⟩
  have h3 : (0 ≤ z1 ∧ z1 ≤ 10) := by rw [← q2]; exact hT 106 106 (A_106 hw) 5
  refine mr_cVP (pc := 2) (c_X12_isDomain_W hw hT hp1 q2 (hQ z1 q2 h3)) (gOk _ _ _ _ _) dX12_three_2 (tX12_isDomain _ _ _ _ _) ⟨wV_X12_isDomain, wL_X12_isDomain⟩ wM_X12_49 (gCX12 _ _ _ _ _) rfl (A_106 hw) rfl ⟨le_t rfl, le_t rfl⟩ ⟨le_t rfl, le_t rfl⟩ rfl (le_t rfl) fun z8 h7 => ?_
  refine mr_if_eq (pc := 5) (tgt := 16) dX12_three_5 (by decide) (r32 h7.1 rfl) (fun h9 => ?_) (fun h9 => ?_)
  · have h10 : 0 ≤ z8 ∧ z8 ≤ 0 := (vc_X12_write_78 h9 h7.2.1 h7.2.2.1 hp1 h3 h7.1)
    have h11 : p1 < 0 ∨ z1 ≤ p1 := (h7.2.2.1 (vc_X12_write_79 h7.2.1 h7.2.2.1 h9 hp1 h3 h10))
    refine mr_iconst (pc := 16) (z := (-1)) dX12_three_16 ?_
    exact mr_iret dX12_three_17 rfl (le_t rfl) (le_t rfl) hT mF.refl ⟨(rW (c := (-2147483648)) (d := 2147483647) (rR (x := (-1))) rfl), hIG1, hIEV, ((h7.2.2.2.1 h7.1).1 h9), trivial⟩
  have h12 : 1 ≤ z8 ∧ z8 ≤ 1 := (vc_X12_write_12 h9 h7.2.1 h7.2.2.1 hp1 h3 h7.1)
  have h13 : 0 ≤ p1 ∧ p1 < z1 := (h7.2.1 (vc_X12_write_13 h7.2.1 h7.2.2.1 h9 hp1 h3 h12))
  have h14 : 0 ≤ p1 ∧ p1 ≤ 9 := (vc_X12_write_14 h13 h7.2.1 h7.2.2.1 hp1 h3 h12)
  have h15 : 1 ≤ z1 ∧ z1 ≤ 10 := (vc_X12_write_15 h13 h7.2.1 h7.2.2.1 h14 h3 h12)
  refine sv_aload_n (pc := 8) dX12_three_8 rfl rfl ?_
  refine mr_iload_n (pc := 9) (z := p2) dX12_three_9 rfl rfl ?_
  obtain ⟨z16, q17⟩ : ∃ z, μ 106 2 = z := ⟨_, rfl⟩
  have h18 : (0 ≤ z16 ∧ z16 ≤ 10) := by rw [← q17]; exact hT 106 106 (A_106 hw) 2
  refine mr_cVP (pc := 10) (c_X12_isPrefix_W hw hT hp2 q17 (((h7.2.2.2.1 h7.1).2 h9) z16 q17 h18)) (gOk _ _ _ _ _) dX12_three_10 (tX12_isPrefix _ _ _ _ _) ⟨wV_X12_isPrefix, wL_X12_isPrefix⟩ wM_X12_92 (gCX12 _ _ _ _ _) rfl (A_106 hw) rfl ⟨le_t rfl, le_t rfl⟩ ⟨le_t rfl, le_t rfl⟩ rfl (le_t rfl) fun z23 h22 => ?_
  refine mr_if_ne (pc := 13) (tgt := 18) dX12_three_13 (by decide) (r32 h22.1 rfl) (fun h24 => ?_) (fun h24 => ?_)
  · have h25 : 1 ≤ z23 ∧ z23 ≤ 1 := (vc_X12_write_12 h24 h22.2.1 h22.2.2.1 hp2 h18 h22.1)
    have h26 : 0 ≤ p2 ∧ p2 < z16 := (h22.2.1 (vc_X12_write_13 h22.2.1 h22.2.2.1 h24 hp2 h18 h25))
    have h27 : 0 ≤ p2 ∧ p2 ≤ 9 := (vc_X12_write_14 h26 h22.2.1 h22.2.2.1 hp2 h18 h25)
    refine sv_aload_n (pc := 18) dX12_three_18 rfl rfl ?_
    refine gf_X12_82 (pc := 19) dX12_three_19 wF_X12_448 (A_106 hw) hT ?_
    refine mr_bipush (pc := 22) (z := 10) dX12_three_22 (by decide) ?_
    refine mr_iload_n (pc := 24) (z := p1) dX12_three_24 rfl rfl ?_
    refine mr_imul (pc := 25) (x := 10) (y := p1) dX12_three_25 ?_
    refine mr_iload_n (pc := 26) (z := p2) dX12_three_26 rfl rfl ?_
    refine mr_iadd (pc := 27) (x := (10 * p1)) (y := p2) dX12_three_27 ?_
    refine la_162 (pc := 28) dX12_three_28 (A_162 hw) hT (rIx (n := 100) (rAdd (e := 0) (f := 99) (rMulL (n := 10) (e := 0) (f := 90) h14 rfl) h27 rfl) rfl) fun z28 q29 h30 => ?_
    refine mr_if_ge (pc := 29) (tgt := 41) dX12_three_29 (by decide) (r32 h30 rfl) (fun h31 => ?_) (fun h31 => ?_)
    · have h32 : 0 ≤ z28 ∧ z28 ≤ 2 := (vc_X12_look_W_75 h31 h30)
      refine mr_ldc (pc := 41) (z := (-99999999)) dX12_three_41 wG_X12_29 (by decide) ?_
      exact mr_iret dX12_three_43 rfl (le_t rfl) (le_t rfl) hT mF.refl ⟨(rW (c := (-2147483648)) (d := 2147483647) (rR (x := (-99999999))) rfl), hIG1, hIEV, ((((h22.2.2.2.1 h22.1).1 h24) z28 q29 h30).1 h31), trivial⟩
    have h33 : (-1) ≤ z28 ∧ z28 ≤ (-1) := (vc_X12_look_W_48 h31 h30)
    refine mr_iload_n (pc := 32) (z := p3) dX12_three_32 rfl rfl ?_
    refine mr_iconst (pc := 33) (z := 0) dX12_three_33 ?_
    refine mr_iconst (pc := 34) (z := 2) dX12_three_34 ?_
    refine mr_cSP (pc := 35) (c_X12_in_W hw hT hp3 (rW (c := (-2147483648)) (d := 2147483647) (rR (x := 0)) rfl) (rW (c := (-2147483648)) (d := 2147483647) (rR (x := 2)) rfl) ((((h22.2.2.2.1 h22.1).1 h24) z28 q29 h30).2 h31)) (gOk _ _ _ _ _) dX12_three_35 (tX12_in _ _ _ _ _) wS_X12_in wM_X12_18 ⟨le_t rfl, le_t rfl⟩ ⟨le_t rfl, le_t rfl⟩ rfl (le_t rfl) fun z38 h37 => ?_
    refine mr_if_ne (pc := 38) (tgt := 44) dX12_three_38 (by decide) (r32 h37.1 rfl) (fun h39 => ?_) (fun h39 => ?_)
    · have h40 : 1 ≤ z38 ∧ z38 ≤ 1 := (vc_X12_units_1 h39 h37.2.1 h37.2.2.1 hp3 h37.1)
      have h41 : (0 : Int) ≤ p3 ∧ p3 ≤ (2 : Int) := (h37.2.1 (vc_X12_units_2 h37.2.1 h37.2.2.1 h39 hp3 h40))
      have h42 : 0 ≤ p3 ∧ p3 ≤ 2 := (vc_X12_units_3 h41 h37.2.1 h37.2.2.1 hp3 h40)
      refine sv_aload_n (pc := 44) dX12_three_44 rfl rfl ?_
      refine mr_iload_n (pc := 45) (z := p1) dX12_three_45 rfl rfl ?_
      refine mr_iload_n (pc := 46) (z := p2) dX12_three_46 rfl rfl ?_
      refine mr_cVV (pc := 47) (c_X12_candidates_W hw hT h14 h27 hIPK ((h37.2.2.2.1 h37.1).1 h39)) (gOk _ _ _ _ _) dX12_three_47 (tX12_candidates _ _ _ _ _) ⟨wV_X12_candidates, wL_X12_candidates⟩ wM_X12_572 (gCX12 _ _ _ _ _) rfl (A_106 hw) rfl ⟨le_t rfl, le_t rfl⟩ ⟨le_t rfl, le_t rfl⟩ rfl (le_t rfl) fun μ43 T44 F45 h46 => ?_
      refine mr_iconst (pc := 50) (z := 0) dX12_three_50 ?_
      refine mr_istore (pc := 51) (lv' := [(4, iv 0), (0, .ref 106), (1, iv p1), (2, iv p2), (3, iv p3)]) dX12_three_51 (by decide) rfl ?_
      have L3104 : ∀ (nL3104 : Nat) (z3103 : Int), True → (0 ≤ z3103 ∧ z3103 ≤ 20) → (21 - z3103) < (nL3104 : Int) → loopF (WL_X12_three_W_1 w p1 p2 p3 Q μ43) False nL3104 (z3103) → sV (gG l D c H0 sa) mX12_three (sRm 9 0 0) (sZ (gG l D c H0 sa) 0 0 (qI w [106026, 106027, 106028, 106029, 106030, 106031, 126999, 151999, 152999, 153999] μ (fun z μ1 => ((-2147483648) ≤ z ∧ z ≤ 2147483647) ∧ G1 μ1 ∧ EV μ1 ∧ Q z μ1 ∧ True))) 53 [(0, .ref 106), (1, iv p1), (2, iv p2), (3, iv p3), (4, iv z3103)] [] (mk w μ43) 0 0 := by
        intro nL3104
        induction nL3104 with
        | zero => intro z3103 _ h3105 h3109 W3110; exact ((vc_X12_tieOf_1 h3109 h3105)).elim
        | succ nL3104 ih3111 =>
          intro z3103 _ h3105 h3109 W3110
          refine mr_iload (pc := 53) (z := z3103) dX12_three_53 rfl ?_
          refine sv_aload_n (pc := 55) dX12_three_55 rfl rfl ?_
          refine gf_X12_6 (pc := 56) dX12_three_56 wF_X12_37 (A_106 hw) T44 fun z3112 q3113 h3114 => ?_
          refine mr_icmp_ge (pc := 59) (tgt := 225) dX12_three_59 (by decide) (r32 h3105 rfl) (r32 h3114 rfl) (fun h3115 => ?_) (fun h3115 => ?_)
          · refine mr_ldc (pc := 225) (z := (-99999999)) dX12_three_225 wG_X12_29 (by decide) ?_
            exact mr_iret dX12_three_227 rfl (le_t rfl) (le_t rfl) T44 (mF.call mF.refl F45 rfl) ⟨(rW (c := (-2147483648)) (d := 2147483647) (rR (x := (-99999999))) rfl), (G1.keep hIG1 hw ((mF.call mF.refl F45 rfl) : mF [106026, 106027, 106028, 106029, 106030, 106031, 126999, 151999, 152999, 153999] w μ μ43) rfl rfl ((mG.call mG.refl h46.1 (List.forall_mem_cons.mpr ⟨⟨_, List.mem_cons_self, vc_X12_candidates_W_2⟩, (fun _ h => absurd h List.not_mem_nil)⟩)) : mG [(160, 960)] μ μ43) (List.forall_mem_cons.mpr ⟨vc_X12_look_W_65, (fun _ h => absurd h List.not_mem_nil)⟩)), (EV.keep hIEV hw ((mF.call mF.refl F45 rfl) : mF [106026, 106027, 106028, 106029, 106030, 106031, 126999, 151999, 152999, 153999] w μ μ43) rfl), (((W3110 z3103 rfl h3105) z3112 q3113 h3114).1 h3115), trivial⟩
          have h3116 : 0 ≤ z3103 ∧ z3103 ≤ 19 := (vc_X12_tieOf_3 h3115 h3105 h3114)
          have h3117 : 1 ≤ z3112 ∧ z3112 ≤ 20 := (vc_X12_tieOf_4 h3115 h3116 h3114)
          refine mr_iconst (pc := 62) (z := 0) dX12_three_62 ?_
          refine mr_istore (pc := 63) (lv' := [(5, iv 0), (0, .ref 106), (1, iv p1), (2, iv p2), (3, iv p3), (4, iv z3103)]) dX12_three_63 (by decide) rfl ?_
          have L4608 : ∀ (nL4608 : Nat) (z4607 : Int), True → (0 ≤ z4607 ∧ z4607 ≤ 20) → (21 - z4607) < (nL4608 : Int) → loopF (WL_X12_three_W_2 w p1 p2 p3 Q μ43 (loopF (WL_X12_three_W_1 w p1 p2 p3 Q μ43) False nL3104) z3103 z3112) False nL4608 (z4607) → sV (gG l D c H0 sa) mX12_three (sRm 9 0 0) (sZ (gG l D c H0 sa) 0 0 (qI w [106026, 106027, 106028, 106029, 106030, 106031, 126999, 151999, 152999, 153999] μ (fun z μ1 => ((-2147483648) ≤ z ∧ z ≤ 2147483647) ∧ G1 μ1 ∧ EV μ1 ∧ Q z μ1 ∧ True))) 65 [(0, .ref 106), (1, iv p1), (2, iv p2), (3, iv p3), (4, iv z3103), (5, iv z4607)] [] (mk w μ43) 0 0 := by
            intro nL4608
            induction nL4608 with
            | zero => intro z4607 _ h4609 h4613 W4614; exact ((vc_X12_tieOf_1 h4613 h4609)).elim
            | succ nL4608 ih4615 =>
              intro z4607 _ h4609 h4613 W4614
              refine mr_iload (pc := 65) (z := z4607) dX12_three_65 rfl ?_
              refine sv_aload_n (pc := 67) dX12_three_67 rfl rfl ?_
              refine gk_X12_6 (pc := 68) dX12_three_68 wF_X12_37 (A_106 hw) q3113 ?_
              refine mr_icmp_ge (pc := 71) (tgt := 219) dX12_three_71 (by decide) (r32 h4609 rfl) (r32 h3117 rfl) (fun h4616 => ?_) (fun h4616 => ?_)
              · have h4617 : 1 ≤ z4607 ∧ z4607 ≤ 20 := (vc_X12_three_W_21 h4616 h3115 h3116 h3117 h4609)
                refine mr_iinc (pc := 219) (lv' := [(4, iv (z3103 + 1)), (0, .ref 106), (1, iv p1), (2, iv p2), (3, iv p3), (5, iv z4607)]) dX12_three_219 rfl (by decide) rfl ?_
                refine sv_goto (pc := 222) (tgt := 53) dX12_three_222 (by decide) ?_
                refine mr_lvS (lv' := [(0, .ref 106), (1, iv p1), (2, iv p2), (3, iv p3), (4, iv (z3103 + 1))]) (List.forall_mem_cons.mpr ⟨rfl, List.forall_mem_cons.mpr ⟨rfl, List.forall_mem_cons.mpr ⟨rfl, List.forall_mem_cons.mpr ⟨rfl, List.forall_mem_cons.mpr ⟨rfl, fun _ h => absurd h List.not_mem_nil⟩⟩⟩⟩⟩) ?_
                exact ih3111 (z3103 + 1) trivial (rW (c := 0) (d := 20) (rAdd (e := 1) (f := 20) h3116 (rR (x := 1)) rfl) rfl) (vc_X12_three_W_22 (nS h3109) h3115 h4616 h3116 h3117 h4617) ((W4614 z4607 rfl h4609).1 h4616)
              have h4618 : 0 ≤ z4607 ∧ z4607 ≤ 19 := (vc_X12_three_W_23 h4616 h3115 h3116 h3117 h4609)
              refine sv_aload_n (pc := 74) dX12_three_74 rfl rfl ?_
              refine mr_iconst (pc := 75) (z := 4) dX12_three_75 ?_
              refine mr_iload (pc := 76) (z := z3103) dX12_three_76 rfl ?_
              refine mr_iadd (pc := 78) (x := 4) (y := z3103) dX12_three_78 ?_
              obtain ⟨z4619, q4620⟩ : ∃ z, μ43 126 ((40 * (4 + z3103)).toNat) = z := ⟨_, rfl⟩
              have h4621 := rt7 T44 (A_126 hw) (vc_X12_three_W_24 h3115 h4616 h3116 h3117 h4618) q4620
              have h4622 : (-1) ≤ z4619 ∧ z4619 ≤ 9 := h4621.2.1 (vc_X12_three_W_25 h3115 h4616 h3116 h3117 h4618)
              refine mr_cVP (pc := 79) (c_X12_isThere_W hw T44 (rW (c := 0) (d := 2099) (rAdd (e := 4) (f := 23) (rR (x := 4)) h3116 rfl) rfl) q4620 (((W4614 z4607 rfl h4609).2 h4616) z4619 q4620 h4621)) (gOk _ _ _ _ _) dX12_three_79 (tX12_isThere _ _ _ _ _) ⟨wV_X12_isThere, wL_X12_isThere⟩ wM_X12_151 (gCX12 _ _ _ _ _) rfl (A_106 hw) rfl ⟨le_t rfl, le_t rfl⟩ ⟨le_t rfl, le_t rfl⟩ rfl (le_t rfl) fun z4627 h4626 => ?_
              refine mr_if_eq (pc := 82) (tgt := 219) dX12_three_82 (by decide) (r32 h4626.1 rfl) (fun h4628 => ?_) (fun h4628 => ?_)
              · have h4629 : 0 ≤ z4627 ∧ z4627 ≤ 0 := (vc_X12_candidate_32 h4628 h4626.2.1 h4626.2.2.1 h4622 h4626.1)
                have h4630 : z4619 < 0 := (h4626.2.2.1 (vc_X12_candidate_33 h4626.2.1 h4626.2.2.1 h4628 h4622 h4629))
                have h4631 : (-1) ≤ z4619 ∧ z4619 ≤ (-1) := (vc_X12_candidate_34 h4630 h4626.2.1 h4626.2.2.1 h4622 h4629)
                refine mr_iinc (pc := 219) (lv' := [(4, iv (z3103 + 1)), (0, .ref 106), (1, iv p1), (2, iv p2), (3, iv p3), (5, iv z4607)]) dX12_three_219 rfl (by decide) rfl ?_
                refine sv_goto (pc := 222) (tgt := 53) dX12_three_222 (by decide) ?_
                refine mr_lvS (lv' := [(0, .ref 106), (1, iv p1), (2, iv p2), (3, iv p3), (4, iv (z3103 + 1))]) (List.forall_mem_cons.mpr ⟨rfl, List.forall_mem_cons.mpr ⟨rfl, List.forall_mem_cons.mpr ⟨rfl, List.forall_mem_cons.mpr ⟨rfl, List.forall_mem_cons.mpr ⟨rfl, fun _ h => absurd h List.not_mem_nil⟩⟩⟩⟩⟩) ?_
                exact ih3111 (z3103 + 1) trivial (rW (c := 0) (d := 20) (rAdd (e := 1) (f := 20) h3116 (rR (x := 1)) rfl) rfl) (vc_X12_three_W_29 (nS h3109) h3115 h4616 h3116 h3117 h4618) ((h4626.2.2.2.1 h4626.1).1 h4628)
              have h4632 : 1 ≤ z4627 ∧ z4627 ≤ 1 := (vc_X12_candidate_11 h4628 h4626.2.1 h4626.2.2.1 h4622 h4626.1)
              have h4633 : 0 ≤ z4619 := (h4626.2.1 (vc_X12_candidate_12 h4626.2.1 h4626.2.2.1 h4628 h4622 h4632))
              have h4634 : 0 ≤ z4619 ∧ z4619 ≤ 9 := (vc_X12_candidate_13 h4633 h4626.2.1 h4626.2.2.1 h4622 h4632)
              refine mr_iload (pc := 85) (z := z4607) dX12_three_85 rfl ?_
              refine mr_iload (pc := 87) (z := z3103) dX12_three_87 rfl ?_
              refine mr_icmp_eq (pc := 89) (tgt := 213) dX12_three_89 (by decide) (r32 h4618 rfl) (r32 h3116 rfl) (fun h4635 => ?_) (fun h4635 => ?_)
              · refine mr_iinc (pc := 213) (lv' := [(5, iv (z4607 + 1)), (0, .ref 106), (1, iv p1), (2, iv p2), (3, iv p3), (4, iv z3103)]) dX12_three_213 rfl (by decide) rfl ?_
                refine sv_goto (pc := 216) (tgt := 65) dX12_three_216 (by decide) ?_
                refine mr_lvS (lv' := [(0, .ref 106), (1, iv p1), (2, iv p2), (3, iv p3), (4, iv z3103), (5, iv (z4607 + 1))]) (List.forall_mem_cons.mpr ⟨rfl, List.forall_mem_cons.mpr ⟨rfl, List.forall_mem_cons.mpr ⟨rfl, List.forall_mem_cons.mpr ⟨rfl, List.forall_mem_cons.mpr ⟨rfl, List.forall_mem_cons.mpr ⟨rfl, fun _ h => absurd h List.not_mem_nil⟩⟩⟩⟩⟩⟩) ?_
                exact ih4615 (z4607 + 1) trivial (rW (c := 0) (d := 20) (rAdd (e := 1) (f := 20) h4618 (rR (x := 1)) rfl) rfl) (vc_X12_three_W_33 (nS h4613) h4616 h4635 h3115 h3116 h3117 h4618) (((h4626.2.2.2.1 h4626.1).2 h4628).1 h4635)
              refine sv_aload_n (pc := 92) dX12_three_92 rfl rfl ?_
              refine mr_iconst (pc := 93) (z := 4) dX12_three_93 ?_
              refine mr_iload (pc := 94) (z := z4607) dX12_three_94 rfl ?_
              refine mr_iadd (pc := 96) (x := 4) (y := z4607) dX12_three_96 ?_
              obtain ⟨z4636, q4637⟩ : ∃ z, μ43 126 ((40 * (4 + z4607)).toNat) = z := ⟨_, rfl⟩
              have h4638 := rt7 T44 (A_126 hw) (vc_X12_three_W_34 h4616 h4635 h3115 h3116 h3117 h4618) q4637
              have h4639 : (-1) ≤ z4636 ∧ z4636 ≤ 9 := h4638.2.1 (vc_X12_three_W_35 h4616 h4635 h3115 h3116 h3117 h4618)
              refine mr_cVP (pc := 97) (c_X12_isThere_W hw T44 (rW (c := 0) (d := 2099) (rAdd (e := 4) (f := 23) (rR (x := 4)) h4618 rfl) rfl) q4637 ((((h4626.2.2.2.1 h4626.1).2 h4628).2 h4635) z4636 q4637 h4638)) (gOk _ _ _ _ _) dX12_three_97 (tX12_isThere _ _ _ _ _) ⟨wV_X12_isThere, wL_X12_isThere⟩ wM_X12_151 (gCX12 _ _ _ _ _) rfl (A_106 hw) rfl ⟨le_t rfl, le_t rfl⟩ ⟨le_t rfl, le_t rfl⟩ rfl (le_t rfl) fun z4644 h4643 => ?_
              refine mr_if_eq (pc := 100) (tgt := 213) dX12_three_100 (by decide) (r32 h4643.1 rfl) (fun h4645 => ?_) (fun h4645 => ?_)
              · have h4646 : 0 ≤ z4644 ∧ z4644 ≤ 0 := (vc_X12_candidate_32 h4645 h4643.2.1 h4643.2.2.1 h4639 h4643.1)
                have h4647 : z4636 < 0 := (h4643.2.2.1 (vc_X12_candidate_33 h4643.2.1 h4643.2.2.1 h4645 h4639 h4646))
                have h4648 : (-1) ≤ z4636 ∧ z4636 ≤ (-1) := (vc_X12_candidate_34 h4647 h4643.2.1 h4643.2.2.1 h4639 h4646)
                refine mr_iinc (pc := 213) (lv' := [(5, iv (z4607 + 1)), (0, .ref 106), (1, iv p1), (2, iv p2), (3, iv p3), (4, iv z3103)]) dX12_three_213 rfl (by decide) rfl ?_
                refine sv_goto (pc := 216) (tgt := 65) dX12_three_216 (by decide) ?_
                refine mr_lvS (lv' := [(0, .ref 106), (1, iv p1), (2, iv p2), (3, iv p3), (4, iv z3103), (5, iv (z4607 + 1))]) (List.forall_mem_cons.mpr ⟨rfl, List.forall_mem_cons.mpr ⟨rfl, List.forall_mem_cons.mpr ⟨rfl, List.forall_mem_cons.mpr ⟨rfl, List.forall_mem_cons.mpr ⟨rfl, List.forall_mem_cons.mpr ⟨rfl, fun _ h => absurd h List.not_mem_nil⟩⟩⟩⟩⟩⟩) ?_
                exact ih4615 (z4607 + 1) trivial (rW (c := 0) (d := 20) (rAdd (e := 1) (f := 20) h4618 (rR (x := 1)) rfl) rfl) (vc_X12_three_W_39 (nS h4613) h4616 h4635 h3115 h3116 h3117 h4618) ((h4643.2.2.2.1 h4643.1).1 h4645)
              have h4649 : 1 ≤ z4644 ∧ z4644 ≤ 1 := (vc_X12_candidate_11 h4645 h4643.2.1 h4643.2.2.1 h4639 h4643.1)
              have h4650 : 0 ≤ z4636 := (h4643.2.1 (vc_X12_candidate_12 h4643.2.1 h4643.2.2.1 h4645 h4639 h4649))
              have h4651 : 0 ≤ z4636 ∧ z4636 ≤ 9 := (vc_X12_candidate_13 h4650 h4643.2.1 h4643.2.2.1 h4639 h4649)
              refine sv_aload_n (pc := 103) dX12_three_103 rfl rfl ?_
              refine mr_iload_n (pc := 104) (z := p1) dX12_three_104 rfl rfl ?_
              refine mr_iload (pc := 105) (z := z3103) dX12_three_105 rfl ?_
              refine mr_iload (pc := 107) (z := z4607) dX12_three_107 rfl ?_
              refine mr_iload_n (pc := 109) (z := p2) dX12_three_109 rfl rfl ?_
              refine mr_cVP (pc := 110) (c_X12_beats_W hw T44 h14 h3116 h4618 h27 ((h4643.2.2.2.1 h4643.1).2 h4645)) (gOk _ _ _ _ _) dX12_three_110 (tX12_beats _ _ _ _ _) ⟨wV_X12_beats, wL_X12_beats⟩ wM_X12_568 (gCX12 _ _ _ _ _) rfl (A_106 hw) rfl ⟨le_t rfl, le_t rfl⟩ ⟨le_t rfl, le_t rfl⟩ rfl (le_t rfl) fun z4656 h4655 => ?_
              refine mr_if_ne (pc := 113) (tgt := 119) dX12_three_113 (by decide) (r32 h4655.1 rfl) (fun h4657 => ?_) (fun h4657 => ?_)
              · have h4658 : 1 ≤ z4656 ∧ z4656 ≤ 1 := (vc_X12_ring_24 h4657 h4655.1)
                refine mr_iconst (pc := 119) (z := 0) dX12_three_119 ?_
                refine mr_istore (pc := 120) (lv' := [(6, iv 0), (0, .ref 106), (1, iv p1), (2, iv p2), (3, iv p3), (4, iv z3103), (5, iv z4607)]) dX12_three_120 (by decide) rfl ?_
                have L5148 : ∀ (nL5148 : Nat) (z5147 : Int), True → (0 ≤ z5147 ∧ z5147 ≤ 20) → (21 - z5147) < (nL5148 : Int) → loopF (WL_X12_three_W_3 w p1 p2 p3 Q μ43 z3103 z3112 (loopF (WL_X12_three_W_2 w p1 p2 p3 Q μ43 (loopF (WL_X12_three_W_1 w p1 p2 p3 Q μ43) False nL3104) z3103 z3112) False nL4608) z4607) False nL5148 (z5147) → sV (gG l D c H0 sa) mX12_three (sRm 9 0 0) (sZ (gG l D c H0 sa) 0 0 (qI w [106026, 106027, 106028, 106029, 106030, 106031, 126999, 151999, 152999, 153999] μ (fun z μ1 => ((-2147483648) ≤ z ∧ z ≤ 2147483647) ∧ G1 μ1 ∧ EV μ1 ∧ Q z μ1 ∧ True))) 122 [(0, .ref 106), (1, iv p1), (2, iv p2), (3, iv p3), (4, iv z3103), (5, iv z4607), (6, iv z5147)] [] (mk w μ43) 0 0 := by
                  intro nL5148
                  induction nL5148 with
                  | zero => intro z5147 _ h5149 h5153 W5154; exact ((vc_X12_tieOf_1 h5153 h5149)).elim
                  | succ nL5148 ih5155 =>
                    intro z5147 _ h5149 h5153 W5154
                    refine mr_iload (pc := 122) (z := z5147) dX12_three_122 rfl ?_
                    refine sv_aload_n (pc := 124) dX12_three_124 rfl rfl ?_
                    refine gk_X12_6 (pc := 125) dX12_three_125 wF_X12_37 (A_106 hw) q3113 ?_
                    refine mr_icmp_ge (pc := 128) (tgt := 213) dX12_three_128 (by decide) (r32 h5149 rfl) (r32 h3117 rfl) (fun h5156 => ?_) (fun h5156 => ?_)
                    · have h5157 : 1 ≤ z5147 ∧ z5147 ≤ 20 := (vc_X12_three_W_45 h5156 h3115 h4616 h3116 h3117 h4618 h5149)
                      refine mr_iinc (pc := 213) (lv' := [(5, iv (z4607 + 1)), (0, .ref 106), (1, iv p1), (2, iv p2), (3, iv p3), (4, iv z3103), (6, iv z5147)]) dX12_three_213 rfl (by decide) rfl ?_
                      refine sv_goto (pc := 216) (tgt := 65) dX12_three_216 (by decide) ?_
                      refine mr_lvS (lv' := [(0, .ref 106), (1, iv p1), (2, iv p2), (3, iv p3), (4, iv z3103), (5, iv (z4607 + 1))]) (List.forall_mem_cons.mpr ⟨rfl, List.forall_mem_cons.mpr ⟨rfl, List.forall_mem_cons.mpr ⟨rfl, List.forall_mem_cons.mpr ⟨rfl, List.forall_mem_cons.mpr ⟨rfl, List.forall_mem_cons.mpr ⟨rfl, fun _ h => absurd h List.not_mem_nil⟩⟩⟩⟩⟩⟩) ?_
                      exact ih4615 (z4607 + 1) trivial (rW (c := 0) (d := 20) (rAdd (e := 1) (f := 20) h4618 (rR (x := 1)) rfl) rfl) (vc_X12_three_W_46 (nS h4613) h4616 h4635 h3115 h5156 h3116 h3117 h4618 h5157) ((W5154 z5147 rfl h5149).1 h5156)
                    have h5158 : 0 ≤ z5147 ∧ z5147 ≤ 19 := (vc_X12_three_W_47 h5156 h3115 h4616 h3116 h3117 h4618 h5149)
                    refine mr_iload (pc := 131) (z := z5147) dX12_three_131 rfl ?_
                    refine mr_iload (pc := 133) (z := z3103) dX12_three_133 rfl ?_
                    refine mr_icmp_eq (pc := 135) (tgt := 207) dX12_three_135 (by decide) (r32 h5158 rfl) (r32 h3116 rfl) (fun h5159 => ?_) (fun h5159 => ?_)
                    · refine mr_iinc (pc := 207) (lv' := [(6, iv (z5147 + 1)), (0, .ref 106), (1, iv p1), (2, iv p2), (3, iv p3), (4, iv z3103), (5, iv z4607)]) dX12_three_207 rfl (by decide) rfl ?_
                      refine sv_goto (pc := 210) (tgt := 122) dX12_three_210 (by decide) ?_
                      refine mr_lvS (lv' := [(0, .ref 106), (1, iv p1), (2, iv p2), (3, iv p3), (4, iv z3103), (5, iv z4607), (6, iv (z5147 + 1))]) (List.forall_mem_cons.mpr ⟨rfl, List.forall_mem_cons.mpr ⟨rfl, List.forall_mem_cons.mpr ⟨rfl, List.forall_mem_cons.mpr ⟨rfl, List.forall_mem_cons.mpr ⟨rfl, List.forall_mem_cons.mpr ⟨rfl, List.forall_mem_cons.mpr ⟨rfl, fun _ h => absurd h List.not_mem_nil⟩⟩⟩⟩⟩⟩⟩) ?_
                      exact ih5155 (z5147 + 1) trivial (rW (c := 0) (d := 20) (rAdd (e := 1) (f := 20) h5158 (rR (x := 1)) rfl) rfl) (vc_X12_three_W_48 (nS h5153) h5156 h5159 h3115 h4616 h4635 h3116 h3117 h4618 h5158) (((W5154 z5147 rfl h5149).2 h5156).1 h5159)
                    refine mr_iload (pc := 138) (z := z5147) dX12_three_138 rfl ?_
                    refine mr_iload (pc := 140) (z := z4607) dX12_three_140 rfl ?_
                    refine mr_icmp_eq (pc := 142) (tgt := 207) dX12_three_142 (by decide) (r32 h5158 rfl) (r32 h4618 rfl) (fun h5160 => ?_) (fun h5160 => ?_)
                    · refine mr_iinc (pc := 207) (lv' := [(6, iv (z5147 + 1)), (0, .ref 106), (1, iv p1), (2, iv p2), (3, iv p3), (4, iv z3103), (5, iv z4607)]) dX12_three_207 rfl (by decide) rfl ?_
                      refine sv_goto (pc := 210) (tgt := 122) dX12_three_210 (by decide) ?_
                      refine mr_lvS (lv' := [(0, .ref 106), (1, iv p1), (2, iv p2), (3, iv p3), (4, iv z3103), (5, iv z4607), (6, iv (z5147 + 1))]) (List.forall_mem_cons.mpr ⟨rfl, List.forall_mem_cons.mpr ⟨rfl, List.forall_mem_cons.mpr ⟨rfl, List.forall_mem_cons.mpr ⟨rfl, List.forall_mem_cons.mpr ⟨rfl, List.forall_mem_cons.mpr ⟨rfl, List.forall_mem_cons.mpr ⟨rfl, fun _ h => absurd h List.not_mem_nil⟩⟩⟩⟩⟩⟩⟩) ?_
                      exact ih5155 (z5147 + 1) trivial (rW (c := 0) (d := 20) (rAdd (e := 1) (f := 20) h5158 (rR (x := 1)) rfl) rfl) (vc_X12_three_W_49 (nS h5153) h5156 h5159 h5160 h3115 h4616 h4635 h3116 h3117 h4618 h5158) ((((W5154 z5147 rfl h5149).2 h5156).2 h5159).1 h5160)
                    refine sv_aload_n (pc := 145) dX12_three_145 rfl rfl ?_
                    refine mr_iconst (pc := 146) (z := 4) dX12_three_146 ?_
                    refine mr_iload (pc := 147) (z := z5147) dX12_three_147 rfl ?_
                    refine mr_iadd (pc := 149) (x := 4) (y := z5147) dX12_three_149 ?_
                    obtain ⟨z5161, q5162⟩ : ∃ z, μ43 126 ((40 * (4 + z5147)).toNat) = z := ⟨_, rfl⟩
                    have h5163 := rt7 T44 (A_126 hw) (vc_X12_three_W_50 h5156 h5159 h5160 h3115 h4616 h4635 h3116 h3117 h4618 h5158) q5162
                    have h5164 : (-1) ≤ z5161 ∧ z5161 ≤ 9 := h5163.2.1 (vc_X12_three_W_51 h5156 h5159 h5160 h3115 h4616 h4635 h3116 h3117 h4618 h5158)
                    refine mr_cVP (pc := 150) (c_X12_isThere_W hw T44 (rW (c := 0) (d := 2099) (rAdd (e := 4) (f := 23) (rR (x := 4)) h5158 rfl) rfl) q5162 (((((W5154 z5147 rfl h5149).2 h5156).2 h5159).2 h5160) z5161 q5162 h5163)) (gOk _ _ _ _ _) dX12_three_150 (tX12_isThere _ _ _ _ _) ⟨wV_X12_isThere, wL_X12_isThere⟩ wM_X12_151 (gCX12 _ _ _ _ _) rfl (A_106 hw) rfl ⟨le_t rfl, le_t rfl⟩ ⟨le_t rfl, le_t rfl⟩ rfl (le_t rfl) fun z5169 h5168 => ?_
                    refine mr_if_ne (pc := 153) (tgt := 159) dX12_three_153 (by decide) (r32 h5168.1 rfl) (fun h5170 => ?_) (fun h5170 => ?_)
                    · have h5171 : 1 ≤ z5169 ∧ z5169 ≤ 1 := (vc_X12_candidate_11 h5170 h5168.2.1 h5168.2.2.1 h5164 h5168.1)
                      have h5172 : 0 ≤ z5161 := (h5168.2.1 (vc_X12_candidate_12 h5168.2.1 h5168.2.2.1 h5170 h5164 h5171))
                      have h5173 : 0 ≤ z5161 ∧ z5161 ≤ 9 := (vc_X12_candidate_13 h5172 h5168.2.1 h5168.2.2.1 h5164 h5171)
                      refine sv_aload_n (pc := 159) dX12_three_159 rfl rfl ?_
                      refine mr_iload_n (pc := 160) (z := p1) dX12_three_160 rfl rfl ?_
                      refine mr_iload (pc := 161) (z := z4607) dX12_three_161 rfl ?_
                      refine mr_iload (pc := 163) (z := z5147) dX12_three_163 rfl ?_
                      refine mr_iload_n (pc := 165) (z := p2) dX12_three_165 rfl rfl ?_
                      refine mr_cVP (pc := 166) (c_X12_beats_W hw T44 h14 h4618 h5158 h27 ((h5168.2.2.2.1 h5168.1).1 h5170)) (gOk _ _ _ _ _) dX12_three_166 (tX12_beats _ _ _ _ _) ⟨wV_X12_beats, wL_X12_beats⟩ wM_X12_568 (gCX12 _ _ _ _ _) rfl (A_106 hw) rfl ⟨le_t rfl, le_t rfl⟩ ⟨le_t rfl, le_t rfl⟩ rfl (le_t rfl) fun z5178 h5177 => ?_
                      refine mr_if_eq (pc := 169) (tgt := 207) dX12_three_169 (by decide) (r32 h5177.1 rfl) (fun h5179 => ?_) (fun h5179 => ?_)
                      · have h5180 : 0 ≤ z5178 ∧ z5178 ≤ 0 := (vc_X12_ring_22 h5179 h5177.1)
                        refine mr_iinc (pc := 207) (lv' := [(6, iv (z5147 + 1)), (0, .ref 106), (1, iv p1), (2, iv p2), (3, iv p3), (4, iv z3103), (5, iv z4607)]) dX12_three_207 rfl (by decide) rfl ?_
                        refine sv_goto (pc := 210) (tgt := 122) dX12_three_210 (by decide) ?_
                        refine mr_lvS (lv' := [(0, .ref 106), (1, iv p1), (2, iv p2), (3, iv p3), (4, iv z3103), (5, iv z4607), (6, iv (z5147 + 1))]) (List.forall_mem_cons.mpr ⟨rfl, List.forall_mem_cons.mpr ⟨rfl, List.forall_mem_cons.mpr ⟨rfl, List.forall_mem_cons.mpr ⟨rfl, List.forall_mem_cons.mpr ⟨rfl, List.forall_mem_cons.mpr ⟨rfl, List.forall_mem_cons.mpr ⟨rfl, fun _ h => absurd h List.not_mem_nil⟩⟩⟩⟩⟩⟩⟩) ?_
                        exact ih5155 (z5147 + 1) trivial (rW (c := 0) (d := 20) (rAdd (e := 1) (f := 20) h5158 (rR (x := 1)) rfl) rfl) (vc_X12_three_W_56 (nS h5153) h5156 h5159 h5160 h3115 h4616 h4635 h3116 h3117 h4618 h5158) ((h5177.2.1 h5177.1).1 h5179)
                      have h5181 : 1 ≤ z5178 ∧ z5178 ≤ 1 := (vc_X12_ring_24 h5179 h5177.1)
                      refine sv_aload_n (pc := 172) dX12_three_172 rfl rfl ?_
                      refine mr_iload_n (pc := 173) (z := p1) dX12_three_173 rfl rfl ?_
                      refine mr_iload (pc := 174) (z := z5147) dX12_three_174 rfl ?_
                      refine mr_iload (pc := 176) (z := z3103) dX12_three_176 rfl ?_
                      refine mr_iload_n (pc := 178) (z := p2) dX12_three_178 rfl rfl ?_
                      refine mr_cVP (pc := 179) (c_X12_beats_W hw T44 h14 h5158 h3116 h27 ((h5177.2.1 h5177.1).2 h5179)) (gOk _ _ _ _ _) dX12_three_179 (tX12_beats _ _ _ _ _) ⟨wV_X12_beats, wL_X12_beats⟩ wM_X12_568 (gCX12 _ _ _ _ _) rfl (A_106 hw) rfl ⟨le_t rfl, le_t rfl⟩ ⟨le_t rfl, le_t rfl⟩ rfl (le_t rfl) fun z5186 h5185 => ?_
                      refine mr_if_eq (pc := 182) (tgt := 207) dX12_three_182 (by decide) (r32 h5185.1 rfl) (fun h5187 => ?_) (fun h5187 => ?_)
                      · have h5188 : 0 ≤ z5186 ∧ z5186 ≤ 0 := (vc_X12_ring_22 h5187 h5185.1)
                        refine mr_iinc (pc := 207) (lv' := [(6, iv (z5147 + 1)), (0, .ref 106), (1, iv p1), (2, iv p2), (3, iv p3), (4, iv z3103), (5, iv z4607)]) dX12_three_207 rfl (by decide) rfl ?_
                        refine sv_goto (pc := 210) (tgt := 122) dX12_three_210 (by decide) ?_
                        refine mr_lvS (lv' := [(0, .ref 106), (1, iv p1), (2, iv p2), (3, iv p3), (4, iv z3103), (5, iv z4607), (6, iv (z5147 + 1))]) (List.forall_mem_cons.mpr ⟨rfl, List.forall_mem_cons.mpr ⟨rfl, List.forall_mem_cons.mpr ⟨rfl, List.forall_mem_cons.mpr ⟨rfl, List.forall_mem_cons.mpr ⟨rfl, List.forall_mem_cons.mpr ⟨rfl, List.forall_mem_cons.mpr ⟨rfl, fun _ h => absurd h List.not_mem_nil⟩⟩⟩⟩⟩⟩⟩) ?_
                        exact ih5155 (z5147 + 1) trivial (rW (c := 0) (d := 20) (rAdd (e := 1) (f := 20) h5158 (rR (x := 1)) rfl) rfl) (vc_X12_three_W_56 (nS h5153) h5156 h5159 h5160 h3115 h4616 h4635 h3116 h3117 h4618 h5158) ((h5185.2.1 h5185.1).1 h5187)
                      have h5189 : 1 ≤ z5186 ∧ z5186 ≤ 1 := (vc_X12_ring_24 h5187 h5185.1)
                      refine mr_iload_n (pc := 185) (z := p3) dX12_three_185 rfl rfl ?_
                      refine mr_if_ne (pc := 186) (tgt := 194) dX12_three_186 (by decide) (r32 h42 rfl) (fun h5194 => ?_) (fun h5194 => ?_)
                      · have h5195 : 1 ≤ p3 ∧ p3 ≤ 2 := (vc_X12_three_W_60 h5194 h37.2.1 h37.2.2.1 h41 h42 h40)
                        refine mr_iload_n (pc := 194) (z := p3) dX12_three_194 rfl rfl ?_
                        refine mr_iconst (pc := 195) (z := 1) dX12_three_195 ?_
                        refine mr_icmp_ne (pc := 196) (tgt := 204) dX12_three_196 (by decide) (r32 h5195 rfl) (r32 (rR (x := 1)) rfl) (fun h5198 => ?_) (fun h5198 => ?_)
                        · have h5199 : 2 ≤ p3 ∧ p3 ≤ 2 := (vc_X12_three_W_61 h5198 h37.2.1 h37.2.2.1 h41 h5194 h5195 h40)
                          refine mr_iload (pc := 204) (z := z5147) dX12_three_204 rfl ?_
                          exact mr_iret dX12_three_206 rfl (le_t rfl) (le_t rfl) T44 (mF.call mF.refl F45 rfl) ⟨(rW (c := (-2147483648)) (d := 2147483647) h5158 rfl), (G1.keep hIG1 hw ((mF.call mF.refl F45 rfl) : mF [106026, 106027, 106028, 106029, 106030, 106031, 126999, 151999, 152999, 153999] w μ μ43) rfl rfl ((mG.call mG.refl h46.1 (List.forall_mem_cons.mpr ⟨⟨_, List.mem_cons_self, vc_X12_candidates_W_2⟩, (fun _ h => absurd h List.not_mem_nil)⟩)) : mG [(160, 960)] μ μ43) (List.forall_mem_cons.mpr ⟨vc_X12_look_W_65, (fun _ h => absurd h List.not_mem_nil)⟩)), (EV.keep hIEV hw ((mF.call mF.refl F45 rfl) : mF [106026, 106027, 106028, 106029, 106030, 106031, 126999, 151999, 152999, 153999] w μ μ43) rfl), ((((h5185.2.1 h5185.1).2 h5187).1 h5194).1 h5198), trivial⟩
                        have h5200 : 1 ≤ p3 ∧ p3 ≤ 1 := (vc_X12_three_W_62 h5198 h37.2.1 h37.2.2.1 h41 h5194 h5195 h40)
                        refine mr_iload (pc := 199) (z := z4607) dX12_three_199 rfl ?_
                        refine sv_goto (pc := 201) (tgt := 206) dX12_three_201 (by decide) ?_
                        exact mr_iret dX12_three_206 rfl (le_t rfl) (le_t rfl) T44 (mF.call mF.refl F45 rfl) ⟨(rW (c := (-2147483648)) (d := 2147483647) h4618 rfl), (G1.keep hIG1 hw ((mF.call mF.refl F45 rfl) : mF [106026, 106027, 106028, 106029, 106030, 106031, 126999, 151999, 152999, 153999] w μ μ43) rfl rfl ((mG.call mG.refl h46.1 (List.forall_mem_cons.mpr ⟨⟨_, List.mem_cons_self, vc_X12_candidates_W_2⟩, (fun _ h => absurd h List.not_mem_nil)⟩)) : mG [(160, 960)] μ μ43) (List.forall_mem_cons.mpr ⟨vc_X12_look_W_65, (fun _ h => absurd h List.not_mem_nil)⟩)), (EV.keep hIEV hw ((mF.call mF.refl F45 rfl) : mF [106026, 106027, 106028, 106029, 106030, 106031, 126999, 151999, 152999, 153999] w μ μ43) rfl), ((((h5185.2.1 h5185.1).2 h5187).1 h5194).2 h5198), trivial⟩
                      have h5201 : 0 ≤ p3 ∧ p3 ≤ 0 := (vc_X12_three_W_63 h5194 h37.2.1 h37.2.2.1 h41 h42 h40)
                      refine mr_iload (pc := 189) (z := z3103) dX12_three_189 rfl ?_
                      refine sv_goto (pc := 191) (tgt := 206) dX12_three_191 (by decide) ?_
                      exact mr_iret dX12_three_206 rfl (le_t rfl) (le_t rfl) T44 (mF.call mF.refl F45 rfl) ⟨(rW (c := (-2147483648)) (d := 2147483647) h3116 rfl), (G1.keep hIG1 hw ((mF.call mF.refl F45 rfl) : mF [106026, 106027, 106028, 106029, 106030, 106031, 126999, 151999, 152999, 153999] w μ μ43) rfl rfl ((mG.call mG.refl h46.1 (List.forall_mem_cons.mpr ⟨⟨_, List.mem_cons_self, vc_X12_candidates_W_2⟩, (fun _ h => absurd h List.not_mem_nil)⟩)) : mG [(160, 960)] μ μ43) (List.forall_mem_cons.mpr ⟨vc_X12_look_W_65, (fun _ h => absurd h List.not_mem_nil)⟩)), (EV.keep hIEV hw ((mF.call mF.refl F45 rfl) : mF [106026, 106027, 106028, 106029, 106030, 106031, 126999, 151999, 152999, 153999] w μ μ43) rfl), (((h5185.2.1 h5185.1).2 h5187).2 h5194), trivial⟩
                    have h5202 : 0 ≤ z5169 ∧ z5169 ≤ 0 := (vc_X12_candidate_32 h5170 h5168.2.1 h5168.2.2.1 h5164 h5168.1)
                    have h5203 : z5161 < 0 := (h5168.2.2.1 (vc_X12_candidate_33 h5168.2.1 h5168.2.2.1 h5170 h5164 h5202))
                    have h5204 : (-1) ≤ z5161 ∧ z5161 ≤ (-1) := (vc_X12_candidate_34 h5203 h5168.2.1 h5168.2.2.1 h5164 h5202)
                    refine sv_goto (pc := 156) (tgt := 207) dX12_three_156 (by decide) ?_
                    refine mr_iinc (pc := 207) (lv' := [(6, iv (z5147 + 1)), (0, .ref 106), (1, iv p1), (2, iv p2), (3, iv p3), (4, iv z3103), (5, iv z4607)]) dX12_three_207 rfl (by decide) rfl ?_
                    refine sv_goto (pc := 210) (tgt := 122) dX12_three_210 (by decide) ?_
                    refine mr_lvS (lv' := [(0, .ref 106), (1, iv p1), (2, iv p2), (3, iv p3), (4, iv z3103), (5, iv z4607), (6, iv (z5147 + 1))]) (List.forall_mem_cons.mpr ⟨rfl, List.forall_mem_cons.mpr ⟨rfl, List.forall_mem_cons.mpr ⟨rfl, List.forall_mem_cons.mpr ⟨rfl, List.forall_mem_cons.mpr ⟨rfl, List.forall_mem_cons.mpr ⟨rfl, List.forall_mem_cons.mpr ⟨rfl, fun _ h => absurd h List.not_mem_nil⟩⟩⟩⟩⟩⟩⟩) ?_
                    exact ih5155 (z5147 + 1) trivial (rW (c := 0) (d := 20) (rAdd (e := 1) (f := 20) h5158 (rR (x := 1)) rfl) rfl) (vc_X12_three_W_56 (nS h5153) h5156 h5159 h5160 h3115 h4616 h4635 h3116 h3117 h4618 h5158) ((h5168.2.2.2.1 h5168.1).2 h5170)
                refine mr_lvS (lv' := [(0, .ref 106), (1, iv p1), (2, iv p2), (3, iv p3), (4, iv z3103), (5, iv z4607), (6, iv 0)]) (List.forall_mem_cons.mpr ⟨rfl, List.forall_mem_cons.mpr ⟨rfl, List.forall_mem_cons.mpr ⟨rfl, List.forall_mem_cons.mpr ⟨rfl, List.forall_mem_cons.mpr ⟨rfl, List.forall_mem_cons.mpr ⟨rfl, List.forall_mem_cons.mpr ⟨rfl, fun _ h => absurd h List.not_mem_nil⟩⟩⟩⟩⟩⟩⟩) ?_
                exact L5148 22 0 trivial (rW (c := 0) (d := 20) (rR (x := 0)) rfl) vc_X12_tieOf_12 ((h4655.2.1 h4655.1).1 h4657)
              have h5205 : 0 ≤ z4656 ∧ z4656 ≤ 0 := (vc_X12_ring_22 h4657 h4655.1)
              refine sv_goto (pc := 116) (tgt := 213) dX12_three_116 (by decide) ?_
              refine mr_iinc (pc := 213) (lv' := [(5, iv (z4607 + 1)), (0, .ref 106), (1, iv p1), (2, iv p2), (3, iv p3), (4, iv z3103)]) dX12_three_213 rfl (by decide) rfl ?_
              refine sv_goto (pc := 216) (tgt := 65) dX12_three_216 (by decide) ?_
              refine mr_lvS (lv' := [(0, .ref 106), (1, iv p1), (2, iv p2), (3, iv p3), (4, iv z3103), (5, iv (z4607 + 1))]) (List.forall_mem_cons.mpr ⟨rfl, List.forall_mem_cons.mpr ⟨rfl, List.forall_mem_cons.mpr ⟨rfl, List.forall_mem_cons.mpr ⟨rfl, List.forall_mem_cons.mpr ⟨rfl, List.forall_mem_cons.mpr ⟨rfl, fun _ h => absurd h List.not_mem_nil⟩⟩⟩⟩⟩⟩) ?_
              exact ih4615 (z4607 + 1) trivial (rW (c := 0) (d := 20) (rAdd (e := 1) (f := 20) h4618 (rR (x := 1)) rfl) rfl) (vc_X12_three_W_39 (nS h4613) h4616 h4635 h3115 h3116 h3117 h4618) ((h4655.2.1 h4655.1).2 h4657)
          refine mr_lvS (lv' := [(0, .ref 106), (1, iv p1), (2, iv p2), (3, iv p3), (4, iv z3103), (5, iv 0)]) (List.forall_mem_cons.mpr ⟨rfl, List.forall_mem_cons.mpr ⟨rfl, List.forall_mem_cons.mpr ⟨rfl, List.forall_mem_cons.mpr ⟨rfl, List.forall_mem_cons.mpr ⟨rfl, List.forall_mem_cons.mpr ⟨rfl, fun _ h => absurd h List.not_mem_nil⟩⟩⟩⟩⟩⟩) ?_
          exact L4608 22 0 trivial (rW (c := 0) (d := 20) (rR (x := 0)) rfl) vc_X12_tieOf_12 (((W3110 z3103 rfl h3105) z3112 q3113 h3114).2 h3115)
      refine mr_lvS (lv' := [(0, .ref 106), (1, iv p1), (2, iv p2), (3, iv p3), (4, iv 0)]) (List.forall_mem_cons.mpr ⟨rfl, List.forall_mem_cons.mpr ⟨rfl, List.forall_mem_cons.mpr ⟨rfl, List.forall_mem_cons.mpr ⟨rfl, List.forall_mem_cons.mpr ⟨rfl, fun _ h => absurd h List.not_mem_nil⟩⟩⟩⟩⟩) ?_
      exact L3104 22 0 trivial (rW (c := 0) (d := 20) (rR (x := 0)) rfl) vc_X12_tieOf_12 (h46.2.1 T44 F45)
    have h5206 : 0 ≤ z38 ∧ z38 ≤ 0 := (vc_X12_units_9 h39 h37.2.1 h37.2.2.1 hp3 h37.1)
    have h5207 : p3 < (0 : Int) ∨ (2 : Int) < p3 := (h37.2.2.1 (vc_X12_units_10 h37.2.1 h37.2.2.1 h39 hp3 h5206))
    refine mr_ldc (pc := 41) (z := (-99999999)) dX12_three_41 wG_X12_29 (by decide) ?_
    exact mr_iret dX12_three_43 rfl (le_t rfl) (le_t rfl) hT mF.refl ⟨(rW (c := (-2147483648)) (d := 2147483647) (rR (x := (-99999999))) rfl), hIG1, hIEV, ((h37.2.2.2.1 h37.1).2 h39), trivial⟩
  have h5208 : 0 ≤ z23 ∧ z23 ≤ 0 := (vc_X12_write_78 h24 h22.2.1 h22.2.2.1 hp2 h18 h22.1)
  have h5209 : p2 < 0 ∨ z16 ≤ p2 := (h22.2.2.1 (vc_X12_write_79 h22.2.1 h22.2.2.1 h24 hp2 h18 h5208))
  refine mr_iconst (pc := 16) (z := (-1)) dX12_three_16 ?_
  exact mr_iret dX12_three_17 rfl (le_t rfl) (le_t rfl) hT mF.refl ⟨(rW (c := (-2147483648)) (d := 2147483647) (rR (x := (-1))) rfl), hIG1, hIEV, ((h22.2.2.2.1 h22.1).2 h24), trivial⟩
def WP_X12_verdict_W (w : mW) (μ : mM) (p1 : Int) (p2 : Int) (p3 : Int) (p4 : Int) (Q : Int → mM → Prop) : Prop := ∀ z1 : Int, μ 106 2 = z1 → (0 ≤ z1 ∧ z1 ≤ 10) → WP_X12_isPrefix_W w μ p1 (fun z8 _ => (0 ≤ z8 ∧ z8 ≤ 1) → ((z8 = 0) → Q ((-1) : Int) μ) ∧ ((¬ z8 = 0) → ((p3 < 0) → Q ((-1) : Int) μ) ∧ ((0 ≤ p3) → ((0 ≤ p4) → WP_X12_judged_W w μ p1 p2 p3 p4 (fun z25 μ21 => mT w μ21 → mF [106026, 106027, 106028, 106029, 106030, 106031] w μ μ21 → (0 ≤ z25 ∧ z25 ≤ 2) → Q z25 μ21)) ∧ ((p4 < 0) → Q ((-1) : Int) μ))))
set_option maxRecDepth 4000 in
set_option maxHeartbeats 4000000 in
theorem c_X12_verdict_W {l : Launch} {D : va_G} {c : Nat → ClassId} {H0 : Heap} {sa : Nat × Nat × (Nat → Int32)} {w : mW} {μ : mM} (hw : mWF w) (hT : mT w μ) {p1 : Int} (hp1 : (-2147483648) ≤ p1 ∧ p1 ≤ 2147483647) {p2 : Int} (hp2 : (-2147483648) ≤ p2 ∧ p2 ≤ 2147483647) {p3 : Int} (hp3 : (-2147483648) ≤ p3 ∧ p3 ≤ 2147483647) {p4 : Int} (hp4 : (-2147483648) ≤ p4 ∧ p4 ≤ 2147483647) {Q : Int → mM → Prop} (hQ : WP_X12_verdict_W w μ p1 p2 p3 p4 Q) : sC (gG l D c H0 sa) mX12_verdict 5 0 0 [.ref 106, iv p1, iv p2, iv p3, iv p4] (mk w μ) (qI w [106026, 106027, 106028, 106029, 106030, 106031] μ (fun z μ1 => ((-2147483648) ≤ z ∧ z ≤ 2147483647) ∧ Q z μ1 ∧ True)) := by
  refine sC.of rfl (by decide) (le_t rfl) ?_
  refine mr_lvE (lv' := [(0, .ref 106), (1, iv p1), (2, iv p2), (3, iv p3), (4, iv p4)]) rfl ?_
  refine sv_aload_n (pc := 0) dX12_verdict_0 rfl rfl ?_
  refine mr_iload_n (pc := 1) (z := p1) dX12_verdict_1 rfl rfl ?_
  obtain ⟨z1, q2⟩ : ∃ z, μ 106 2 = z := ⟨_, rfl⟩
  have h3 : (0 ≤ z1 ∧ z1 ≤ 10) := by rw [← q2]; exact hT 106 106 (A_106 hw) 2
  refine mr_cVP (pc := 2) (c_X12_isPrefix_W hw hT hp1 q2 (hQ z1 q2 h3)) (gOk _ _ _ _ _) dX12_verdict_2 (tX12_isPrefix _ _ _ _ _) ⟨wV_X12_isPrefix, wL_X12_isPrefix⟩ wM_X12_92 (gCX12 _ _ _ _ _) rfl (A_106 hw) rfl ⟨le_t rfl, le_t rfl⟩ ⟨le_t rfl, le_t rfl⟩ rfl (le_t rfl) fun z8 h7 => ?_
  refine mr_if_eq (pc := 5) (tgt := 17) dX12_verdict_5 (by decide) (r32 h7.1 rfl) (fun h9 => ?_) (fun h9 => ?_)
  · have h10 : 0 ≤ z8 ∧ z8 ≤ 0 := (vc_X12_write_78 h9 h7.2.1 h7.2.2.1 hp1 h3 h7.1)
    have h11 : p1 < 0 ∨ z1 ≤ p1 := (h7.2.2.1 (vc_X12_write_79 h7.2.1 h7.2.2.1 h9 hp1 h3 h10))
    refine mr_iconst (pc := 17) (z := (-1)) dX12_verdict_17 ?_
    exact mr_iret dX12_verdict_18 rfl (le_t rfl) (le_t rfl) hT mF.refl ⟨(rW (c := (-2147483648)) (d := 2147483647) (rR (x := (-1))) rfl), ((h7.2.2.2.1 h7.1).1 h9), trivial⟩
  have h12 : 1 ≤ z8 ∧ z8 ≤ 1 := (vc_X12_write_12 h9 h7.2.1 h7.2.2.1 hp1 h3 h7.1)
  have h13 : 0 ≤ p1 ∧ p1 < z1 := (h7.2.1 (vc_X12_write_13 h7.2.1 h7.2.2.1 h9 hp1 h3 h12))
  have h14 : 0 ≤ p1 ∧ p1 ≤ 9 := (vc_X12_write_14 h13 h7.2.1 h7.2.2.1 hp1 h3 h12)
  have h15 : 1 ≤ z1 ∧ z1 ≤ 10 := (vc_X12_write_15 h13 h7.2.1 h7.2.2.1 h14 h3 h12)
  refine mr_iload_n (pc := 8) (z := p3) dX12_verdict_8 rfl rfl ?_
  refine mr_if_lt (pc := 9) (tgt := 17) dX12_verdict_9 (by decide) hp3 (fun h16 => ?_) (fun h16 => ?_)
  · have h17 : (-2147483648) ≤ p3 ∧ p3 ≤ (-1) := (vc_X12_ring_60 h16 hp3)
    refine mr_iconst (pc := 17) (z := (-1)) dX12_verdict_17 ?_
    exact mr_iret dX12_verdict_18 rfl (le_t rfl) (le_t rfl) hT mF.refl ⟨(rW (c := (-2147483648)) (d := 2147483647) (rR (x := (-1))) rfl), (((h7.2.2.2.1 h7.1).2 h9).1 h16), trivial⟩
  have h18 : 0 ≤ p3 ∧ p3 ≤ 2147483647 := (vc_X12_ring_1 h16 hp3)
  refine mr_iload (pc := 12) (z := p4) dX12_verdict_12 rfl ?_
  refine mr_if_ge (pc := 14) (tgt := 19) dX12_verdict_14 (by decide) hp4 (fun h19 => ?_) (fun h19 => ?_)
  · have h20 : 0 ≤ p4 ∧ p4 ≤ 2147483647 := (vc_X12_ring_1 h19 hp4)
    refine sv_aload_n (pc := 19) dX12_verdict_19 rfl rfl ?_
    refine mr_iload_n (pc := 20) (z := p1) dX12_verdict_20 rfl rfl ?_
    refine mr_iload_n (pc := 21) (z := p2) dX12_verdict_21 rfl rfl ?_
    refine mr_iload_n (pc := 22) (z := p3) dX12_verdict_22 rfl rfl ?_
    refine mr_iload (pc := 23) (z := p4) dX12_verdict_23 rfl ?_
    refine mr_cVI (pc := 25) (c_X12_judged_W hw hT h14 hp2 (rW (c := (-2147483648)) (d := 2147483647) h18 rfl) (rW (c := (-2147483648)) (d := 2147483647) h20 rfl) ((((h7.2.2.2.1 h7.1).2 h9).2 h16).1 h19)) (gOk _ _ _ _ _) dX12_verdict_25 (tX12_judged _ _ _ _ _) ⟨wV_X12_judged, wL_X12_judged⟩ wM_X12_145 (gCX12 _ _ _ _ _) rfl (A_106 hw) rfl ⟨le_t rfl, le_t rfl⟩ ⟨le_t rfl, le_t rfl⟩ rfl (le_t rfl) fun z25 μ21 T22 F23 h24 => ?_
    exact mr_iret dX12_verdict_28 rfl (le_t rfl) (le_t rfl) T22 (mF.call mF.refl F23 rfl) ⟨(rW (c := (-2147483648)) (d := 2147483647) h24.1 rfl), ((h24.2.1 T22 F23) h24.1), trivial⟩
  have h26 : (-2147483648) ≤ p4 ∧ p4 ≤ (-1) := (vc_X12_ring_60 h19 hp4)
  refine mr_iconst (pc := 17) (z := (-1)) dX12_verdict_17 ?_
  exact mr_iret dX12_verdict_18 rfl (le_t rfl) (le_t rfl) hT mF.refl ⟨(rW (c := (-2147483648)) (d := 2147483647) (rR (x := (-1))) rfl), ((((h7.2.2.2.1 h7.1).2 h9).2 h16).2 h19), trivial⟩
