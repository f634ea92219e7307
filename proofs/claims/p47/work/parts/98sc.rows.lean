theorem vc_X4_addWish_w_2 {f_wp : Int} (h0 : f_wp ≤ 4) (h1 : 0 ≤ f_wp ∧ f_wp ≤ 5) : 0 ≤ f_wp ∧ f_wp ≤ 4 := by omega
theorem vc_X4_addWish_w_4 {f_p f_wp : Int} (h0 : f_p ≤ 6) (h1 : f_wp ≤ 4) (h2 : 0 ≤ f_p ∧ f_p ≤ 6) (h3 : 0 ≤ f_wp ∧ f_wp ≤ 4) : 0 ≤ (((f_p * 5) + f_wp) * 7) := by omega
theorem vc_X4_addWish_w_5 {p2 : Int} (h0 : 2 ≤ p2 ∧ p2 ≤ 7) : 0 ≤ p2 := by omega
theorem vc_X4_addWish_w_6 {p2 : Int} (h0 : 2 ≤ p2 ∧ p2 ≤ 7) : 0 + p2 ≤ ((20 : Nat) : Int) := by omega
theorem vc_X4_addWish_w_7 {f_p f_wp p2 : Int} (h0 : f_p ≤ 6) (h1 : f_wp ≤ 4) (h2 : 0 ≤ f_p ∧ f_p ≤ 6) (h3 : 0 ≤ f_wp ∧ f_wp ≤ 4) (h4 : 2 ≤ p2 ∧ p2 ≤ 7) : (((f_p * 5) + f_wp) * 7) + p2 ≤ ((245 : Nat) : Int) := by omega
theorem vc_X4_addWish_w_8 {f_wp : Int} (h0 : f_wp ≤ 4) (h1 : 0 ≤ f_wp ∧ f_wp ≤ 4) : (f_wp + 1) = f_wp + 1 := by omega
theorem vc_X4_addWish_w_9 {f_p : Int} (h0 : f_p ≤ 6) (h1 : 0 ≤ f_p ∧ f_p ≤ 6) : 0 ≤ f_p := by omega
theorem vc_X4_addWish_w_10 {f_p f_wp : Int} (h0 : f_p ≤ 6) (h1 : f_wp ≤ 4) (h2 : 0 ≤ f_p ∧ f_p ≤ 6) (h3 : 0 ≤ f_wp ∧ f_wp ≤ 4) : 0 ≤ ((f_p * 5) + f_wp) := by omega
theorem vc_X4_addWish_w_11 {f_p f_wp p2 : Int} (h0 : f_p ≤ 6) (h1 : f_wp ≤ 4) (h2 : 0 ≤ f_p ∧ f_p ≤ 6) (h3 : 0 ≤ f_wp ∧ f_wp ≤ 4) (h4 : 2 ≤ p2 ∧ p2 ≤ 7) : (f_wp + 1) = f_wp + 1 ∧ ((f_p * 5) + f_wp) = 5 * f_p + f_wp ∧ p2 = p2 ∧ p2 = p2 := by omega
theorem vc_X4_addWish_w_12 {f_p f_wp : Int} (h0 : f_p ≤ 6) (h1 : f_wp ≤ 4) (h2 : 0 ≤ f_p ∧ f_p ≤ 6) (h3 : 0 ≤ f_wp ∧ f_wp ≤ 4) : (((f_p * 5) + f_wp) * 7) = ((7 : Nat) : Int) * (((f_p * 5) + f_wp)) := by omega
set_option maxRecDepth 4000 in
set_option maxHeartbeats 4000000 in
theorem c_X4_addWish_w {l : Launch} {D : va_G} {c : Nat → ClassId} {H0 : Heap} {sa : Nat × Nat × (Nat → Int32)} {w : mW} {μ : mM} (hw : mWF w) (hT : mT w μ) (hA1 : mAt w 2 2) {p2 : Int} (hp2 : 2 ≤ p2 ∧ p2 ≤ 7) {f_p : Int} (q_f_p : μ 2 ((0 : Int).toNat) = f_p) {f_wp : Int} (q_f_wp : μ 95 (f_p.toNat) = f_wp) (hq0 : f_p ≤ 6) (hq1 : f_wp ≤ 4) (hall : allLe μ 2 p2 6) : sC (gG l D c H0 sa) mX4_addWish 3 0 0 [.ref 94, .ref 2, iv p2] (mk w μ) (qI w [94010, 94011, 95999, 96999, 97999] μ (fun z μ1 => ∃ o_k : Int, μ1 94 10 = o_k ∧ ((-2147483648) ≤ z ∧ z ≤ 2147483647) ∧ (z = f_wp + 1) ∧ (awT μ μ1 95 97 96 7 2 f_p p2 f_wp) ∧ (o_k = 0) ∧ True)) := by
  refine sC.of rfl (by decide) (le_t rfl) ?_
  have ht_f_p : (0 ≤ f_p ∧ f_p ≤ 9) := by rw [← q_f_p]; exact hT 2 2 (A_2 hw) ((0 : Int).toNat)
  have ht_f_wp : (0 ≤ f_wp ∧ f_wp ≤ 5) := by rw [← q_f_wp]; exact hT 95 95 (A_95 hw) (f_p.toNat)
  have h1 : 0 ≤ f_p ∧ f_p ≤ 6 := (vc_X4_find_v_1 hq0 ht_f_p)
  have h2 : 0 ≤ f_wp ∧ f_wp ≤ 4 := (vc_X4_addWish_w_2 hq1 ht_f_wp)
  refine mr_lvE (lv' := [(0, .ref 94), (1, .ref 2), (2, iv p2)]) rfl ?_
  refine sv_aload_n (pc := 0) dX4_addWish_0 rfl rfl ?_
  refine mr_iconst (pc := 1) (z := 0) dX4_addWish_1 ?_
  refine lk_2 (pc := 2) dX4_addWish_2 (A_2 hw) (rIx (n := 20) (rR (x := 0)) rfl) q_f_p ?_
  refine mr_istore_n (pc := 3) (lv' := [(3, iv f_p), (0, .ref 94), (1, .ref 2), (2, iv p2)]) dX4_addWish_3 rfl (by decide) rfl ?_
  refine mr_iload_n (pc := 4) (z := f_p) dX4_addWish_4 rfl rfl ?_
  refine mr_iconst (pc := 5) (z := 5) dX4_addWish_5 ?_
  refine mr_imul (pc := 6) (x := f_p) (y := 5) dX4_addWish_6 ?_
  refine sv_aload_n (pc := 7) dX4_addWish_7 rfl rfl ?_
  refine gf_X4_12 (pc := 8) dX4_addWish_8 wF_X4_11 (A_94 hw) hT ?_
  refine mr_iload_n (pc := 11) (z := f_p) dX4_addWish_11 rfl rfl ?_
  refine lk_95 (pc := 12) dX4_addWish_12 (A_95 hw) (rIx (n := 7) h1 rfl) q_f_wp ?_
  refine mr_iadd (pc := 13) (x := (f_p * 5)) (y := f_wp) dX4_addWish_13 ?_
  refine mr_istore (pc := 14) (lv' := [(4, iv ((f_p * 5) + f_wp)), (3, iv f_p), (0, .ref 94), (1, .ref 2), (2, iv p2)]) dX4_addWish_14 (by decide) rfl ?_
  refine sv_aload_n (pc := 16) dX4_addWish_16 rfl rfl ?_
  refine mr_iconst (pc := 17) (z := 0) dX4_addWish_17 ?_
  refine sv_aload_n (pc := 18) dX4_addWish_18 rfl rfl ?_
  refine gf_X4_0 (pc := 19) dX4_addWish_19 wF_X4_15 (A_94 hw) hT ?_
  refine mr_iload (pc := 22) (z := ((f_p * 5) + f_wp)) dX4_addWish_22 rfl ?_
  refine mr_bipush (pc := 24) (z := 7) dX4_addWish_24 (by decide) ?_
  refine mr_imul (pc := 26) (x := ((f_p * 5) + f_wp)) (y := 7) dX4_addWish_26 ?_
  refine mr_iload_n (pc := 27) (z := p2) dX4_addWish_27 rfl rfl ?_
  refine mr_acR (pc := 28) (sp := 0) (dp := (((f_p * 5) + f_wp) * 7)) (n := p2) dX4_addWish_28 wM_X4_46 wN_J_ac wS_J_ac wI_J_sys rfl (A_2 hw) rfl (A_96 hw) rfl vc_X7_become_1 (vc_X4_addWish_w_4 hq0 hq1 h1 h2) (vc_X4_addWish_w_5 hp2) (by have h := (A_2 hw).2.2.2 rfl; rw [h]; exact (vc_X4_addWish_w_6 hp2)) (by have h := (A_96 hw).2.2.2 rfl; rw [h]; exact (vc_X4_addWish_w_7 hq0 hq1 h1 h2 hp2)) (Nat.le_trans (A_2 hw).2.2.1 (le_t rfl)) (Nat.le_trans (A_96 hw).2.2.1 (le_t rfl)) (le_t rfl) (le_t rfl) (le_t rfl) hT (fun i j h1 h2 _ _ => ⟨(hT 2 2 (A_2 hw) i).1, hall (i : Int) (Int.natCast_nonneg i) (by omega)⟩) fun μ51 q52 T53 => ?_
  have F54 : mF [96999] w μ μ51 := mF.cell q52.1 (A_96 hw) rfl
  refine sv_aload_n (pc := 31) dX4_addWish_31 rfl rfl ?_
  refine gf_X4_1 (pc := 32) dX4_addWish_32 wF_X4_18 (A_94 hw) T53 ?_
  refine mr_iload (pc := 35) (z := ((f_p * 5) + f_wp)) dX4_addWish_35 rfl ?_
  refine mr_iload_n (pc := 37) (z := p2) dX4_addWish_37 rfl rfl ?_
  refine ss_97 (pc := 38) dX4_addWish_38 (A_97 hw) T53 (rIx (n := 35) (rAdd (e := 0) (f := 34) (rMulR (n := 5) (e := 0) (f := 30) h1 rfl) h2 rfl) rfl) (rW (c := 0) (d := 7) hp2 rfl) fun μ55 u56 T57 => ?_
  refine sv_aload_n (pc := 39) dX4_addWish_39 rfl rfl ?_
  refine gf_X4_12 (pc := 40) dX4_addWish_40 wF_X4_11 (A_94 hw) T57 ?_
  refine mr_iload_n (pc := 43) (z := f_p) dX4_addWish_43 rfl rfl ?_
  refine sv_dup2 (pc := 44) dX4_addWish_44 rfl rfl ?_
  refine lk_95 (pc := 45) dX4_addWish_45 (A_95 hw) (rIx (n := 7) h1 rfl) (u56.f (Or.inl (mAt.ne (A_97 hw) (A_95 hw) rfl)) (F54.f (A_95 hw) rfl q_f_wp)) ?_
  refine mr_iconst (pc := 46) (z := 1) dX4_addWish_46 ?_
  refine mr_iadd (pc := 47) (x := f_wp) (y := 1) dX4_addWish_47 ?_
  refine ss_95 (pc := 48) dX4_addWish_48 (A_95 hw) T57 (rIx (n := 7) h1 rfl) (rW (c := 0) (d := 5) (rAdd (e := 1) (f := 5) h2 (rR (x := 1)) rfl) rfl) fun μ58 u59 T60 => ?_
  refine sv_aload_n (pc := 49) dX4_addWish_49 rfl rfl ?_
  refine mr_iconst (pc := 50) (z := 0) dX4_addWish_50 ?_
  refine pf_X4_10 (pc := 51) dX4_addWish_51 wF_X4_52 (A_94 hw) T60 (rW (c := 0) (d := 1) (rR (x := 0)) rfl) fun μ61 u62 T63 => ?_
  refine sv_aload_n (pc := 54) dX4_addWish_54 rfl rfl ?_
  refine mr_iconst (pc := 55) (z := 0) dX4_addWish_55 ?_
  refine pf_X4_11 (pc := 56) dX4_addWish_56 wF_X4_56 (A_94 hw) T63 (rW (c := 0) (d := 1) (rR (x := 0)) rfl) fun μ64 u65 T66 => ?_
  refine sv_aload_n (pc := 59) dX4_addWish_59 rfl rfl ?_
  refine gf_X4_12 (pc := 60) dX4_addWish_60 wF_X4_11 (A_94 hw) T66 ?_
  refine mr_iload_n (pc := 63) (z := f_p) dX4_addWish_63 rfl rfl ?_
  refine lk_95 (pc := 64) dX4_addWish_64 (A_95 hw) (rIx (n := 7) h1 rfl) (u65.f (Or.inl (mAt.ne (A_94 hw) (A_95 hw) rfl)) (u62.f (Or.inl (mAt.ne (A_94 hw) (A_95 hw) rfl)) u59.1)) ?_
  exact mr_iret dX4_addWish_65 rfl (le_t rfl) (le_t rfl) T66 (mF.up (mF.up (mF.up (mF.up (mF.call mF.refl F54 rfl) (A_97 hw) u56 rfl) (A_95 hw) u59 rfl) (A_94 hw) u62 rfl) (A_94 hw) u65 rfl) ⟨0, (u65.f (Or.inr (by decide)) u62.1), (rW (c := (-2147483648)) (d := 2147483647) (rAdd (e := 1) (f := 5) h2 (rR (x := 1)) rfl) rfl), (vc_X4_addWish_w_8 hq1 h2), (awT.of (one.oth (one.oth (one.up (one.oth (one.fr one.refl F54 (A_95 hw) rfl rfl) u56 rfl) (vc_X4_addWish_w_9 hq0 h1) u59) u62 rfl) u65 rfl) (u65.f (Or.inl (mAt.ne (A_94 hw) (A_95 hw) rfl)) (u62.f (Or.inl (mAt.ne (A_94 hw) (A_95 hw) rfl)) u59.1)) (one.oth (one.oth (one.oth (one.up (one.fr one.refl F54 (A_97 hw) rfl rfl) (vc_X4_addWish_w_10 hq0 hq1 h1 h2) u56) u59 rfl) u62 rfl) u65 rfl) (u65.f (Or.inl (mAt.ne (A_94 hw) (A_97 hw) rfl)) (u62.f (Or.inl (mAt.ne (A_94 hw) (A_97 hw) rfl)) (u59.f (Or.inl (mAt.ne (A_95 hw) (A_97 hw) rfl)) u56.1))) (cpT.oth (cpT.oth (cpT.oth (cpT.oth (cpT.ac q52 rfl (vc_X4_addWish_w_4 hq0 hq1 h1 h2)) u56 rfl) u59 rfl) u62 rfl) u65 rfl) (vc_X4_addWish_w_11 hq0 hq1 h1 h2 hp2) (vc_X4_addWish_w_12 hq0 hq1 h1 h2)), vc_X3_forget_z_1, trivial⟩
set_option maxRecDepth 4000 in
set_option maxHeartbeats 4000000 in
theorem c_X11_clear_w {l : Launch} {D : va_G} {c : Nat → ClassId} {H0 : Heap} {sa : Nat × Nat × (Nat → Int32)} {w : mW} {μ : mM} (hw : mWF w) (hT : mT w μ) : sC (gG l D c H0 sa) mX11_clear 2 0 0 [.ref 0] (mk w μ) (qI w [94010, 94011, 95999] μ (fun z μ1 => ∃ o_k : Int, μ1 94 10 = o_k ∧ ((-2147483648) ≤ z ∧ z ≤ 2147483647) ∧ (foI μ μ1 95 7 z) ∧ (o_k = 0) ∧ True)) := by
  refine sC.of rfl (by decide) (le_t rfl) ?_
  refine mr_lvE (lv' := [(0, .ref 0)]) rfl ?_
  refine sv_aload_n (pc := 0) dX11_clear_0 rfl rfl ?_
  refine gf_X11_9 (pc := 1) dX11_clear_1 wF_X11_72 (A_0 hw) hT ?_
  refine mr_cVI (pc := 4) (c_X4_forget_w hw hT) (gOk _ _ _ _ _) dX11_clear_4 (tX4_forget _ _ _ _ _) ⟨wV_X4_forget, wL_X4_forget⟩ wM_X11_394 (gCX4 _ _ _ _ _) rfl (A_94 hw) rfl ⟨le_t rfl, le_t rfl⟩ ⟨le_t rfl, le_t rfl⟩ rfl (le_t rfl) fun z5 μ1 T2 F3 h4 => ?_
  obtain ⟨z6, q7, h8⟩ := h4
  have h9 : (0 ≤ z6 ∧ z6 ≤ 1) := by rw [← q7]; exact T2 94 94 (A_94 hw) 10
  have q10 : μ1 94 10 = 0 := q7.trans h8.2.2.1
  have h11 : 0 ≤ z6 ∧ z6 ≤ 0 := (vc_X12_ring_22 h8.2.2.1 h9)
  exact mr_iret dX11_clear_7 rfl (le_t rfl) (le_t rfl) T2 (mF.call mF.refl F3 rfl) ⟨0, q10, h8.1, h8.2.1, vc_X3_forget_z_1, trivial⟩
theorem vc_X11_wish_w_1 {f_q z143 : Int} (h0 : ¬ z143 = 0) (h1 : (z143 = 1 → 2 ≤ f_q ∧ f_q ≤ 7)) (h2 : 0 ≤ f_q ∧ f_q ≤ 20) (h3 : 0 ≤ z143 ∧ z143 ≤ 1) : 1 ≤ z143 ∧ z143 ≤ 1 := by omega
theorem vc_X11_wish_w_2 {f_q z143 : Int} (h0 : (z143 = 1 → 2 ≤ f_q ∧ f_q ≤ 7)) (h1 : ¬ z143 = 0) (h2 : 0 ≤ f_q ∧ f_q ≤ 20) (h3 : 1 ≤ z143 ∧ z143 ≤ 1) : z143 = 1 := by omega
theorem vc_X11_wish_w_3 {f_q z143 : Int} (h0 : 2 ≤ f_q ∧ f_q ≤ 7) (h1 : (z143 = 1 → 2 ≤ f_q ∧ f_q ≤ 7)) (h2 : 0 ≤ f_q ∧ f_q ≤ 20) (h3 : 1 ≤ z143 ∧ z143 ≤ 1) : 2 ≤ f_q ∧ f_q ≤ 7 := by omega
theorem vc_X11_wish_w_4 {f_q z143 : Int} (h0 : (z143 = 1 → 2 ≤ f_q ∧ f_q ≤ 7)) (h1 : ¬ z143 = 0) (h2 : 2 ≤ f_q ∧ f_q ≤ 7) (h3 : 1 ≤ z143 ∧ z143 ≤ 1) : z143 = 1 := by omega
theorem vc_X11_wish_w_5 {f_q z143 : Int} (h0 : (z143 = 1 → 2 ≤ f_q ∧ f_q ≤ 7)) (h1 : 2 ≤ f_q ∧ f_q ≤ 7) (h2 : ¬ z143 = 0) (h3 : 1 ≤ z143 ∧ z143 ≤ 1) : 0 < f_q := by omega
theorem vc_X11_wish_w_8 {z160 : Int} (h0 : z160 < 0) (h1 : (-1) ≤ z160 ∧ z160 ≤ 4) : (-1) ≤ z160 ∧ z160 ≤ (-1) := by omega
theorem vc_X11_wish_w_9 {z153 : Int} (h0 : z153 < 5) (h1 : 0 ≤ z153 ∧ z153 ≤ 5) : 0 ≤ z153 ∧ z153 ≤ 4 := by omega
theorem vc_X11_wish_w_10 {z153 : Int} (h0 : z153 < 5) (h1 : 0 ≤ z153 ∧ z153 ≤ 4) : z153 ≤ 4 := by omega
theorem vc_X11_wish_w_11 {z153 z169 : Int} (h0 : z169 = (z153 + 1)) (h1 : z153 < 5) (h2 : 0 ≤ z153 ∧ z153 ≤ 4) (h3 : (-2147483648) ≤ z169 ∧ z169 ≤ 2147483647) : 1 ≤ z169 ∧ z169 ≤ 5 := by omega
theorem vc_X11_wish_w_13 {z160 : Int} (h0 : z160 < 0) (h1 : (-1) ≤ z160 ∧ z160 ≤ (-1)) : z160 < 0 := by omega
theorem vc_X11_wish_w_14 {z153 z169 : Int} (h0 : z153 < 5) (h1 : z169 = (z153 + 1)) (h2 : 0 ≤ z153 ∧ z153 ≤ 4) (h3 : 1 ≤ z169 ∧ z169 ≤ 5) : z153 < 5 := by omega
theorem vc_X11_wish_w_15 {z153 z169 : Int} (h0 : z153 < 5) (h1 : z169 = (z153 + 1)) (h2 : 0 ≤ z153 ∧ z153 ≤ 4) (h3 : 1 ≤ z169 ∧ z169 ≤ 5) : z169 = z153 + 1 := by omega
theorem vc_X11_wish_w_16 {z153 z169 : Int} (h0 : z169 = (z153 + 1)) (h1 : z153 < 5) (h2 : 0 ≤ z153 ∧ z153 ≤ 4) (h3 : 1 ≤ z169 ∧ z169 ≤ 5) : z169 ≤ 0 ∨ (0 : Int) = 0 := by omega
theorem vc_X11_wish_w_17 {z153 : Int} (h0 : 5 ≤ z153) (h1 : 0 ≤ z153 ∧ z153 ≤ 5) : 5 ≤ z153 ∧ z153 ≤ 5 := by omega
theorem vc_X11_wish_w_18 {z153 : Int} (h0 : 5 ≤ z153) (h1 : 5 ≤ z153 ∧ z153 ≤ 5) : 5 ≤ z153 := by omega
theorem vc_X11_wish_w_19 {z178 : Int} (h0 : 0 ≤ z178 ∧ z178 ≤ 1) : (-3 : Int) ≤ 0 ∨ z178 = 0 := by omega
theorem vc_X11_wish_w_20 {z160 : Int} (h0 : 0 ≤ z160) (h1 : (-1) ≤ z160 ∧ z160 ≤ 4) : 0 ≤ z160 ∧ z160 ≤ 4 := by omega
theorem vc_X11_wish_w_21 {z160 : Int} (h0 : 0 ≤ z160) (h1 : 0 ≤ z160 ∧ z160 ≤ 4) : 0 ≤ z160 := by omega
theorem vc_X11_wish_w_22 {z182 : Int} (h0 : 0 ≤ z182 ∧ z182 ≤ 1) : (-2 : Int) ≤ 0 ∨ z182 = 0 := by omega
theorem vc_X11_wish_w_23 {f_q z143 : Int} (h0 : z143 = 0) (h1 : (z143 = 1 → 2 ≤ f_q ∧ f_q ≤ 7)) (h2 : 0 ≤ f_q ∧ f_q ≤ 20) (h3 : 0 ≤ z143 ∧ z143 ≤ 1) : 0 ≤ z143 ∧ z143 ≤ 0 := by omega
theorem vc_X11_wish_w_24 {f_q z143 : Int} (h0 : (z143 = 1 → 2 ≤ f_q ∧ f_q ≤ 7)) (h1 : z143 = 0) (h2 : 0 ≤ f_q ∧ f_q ≤ 20) (h3 : 0 ≤ z143 ∧ z143 ≤ 0) : z143 = 0 := by omega
theorem vc_X11_wish_w_25 {z186 : Int} (h0 : 0 ≤ z186 ∧ z186 ≤ 1) : (-1 : Int) ≤ 0 ∨ z186 = 0 := by omega
set_option maxRecDepth 4000 in
set_option maxHeartbeats 4000000 in
theorem c_X11_wish_w {l : Launch} {D : va_G} {c : Nat → ClassId} {H0 : Heap} {sa : Nat × Nat × (Nat → Int32)} {w : mW} {μ : mM} (hw : mWF w) (hT : mT w μ) {f_q : Int} (q_f_q : μ 0 11 = f_q) : sC (gG l D c H0 sa) mX11_wish 4 0 0 [.ref 0] (mk w μ) (qI w [94010, 94011, 95999, 96999, 97999] μ (fun z μ1 => ∃ o_k : Int, μ1 94 10 = o_k ∧ ((-2147483648) ≤ z ∧ z ≤ 2147483647) ∧ (wiA μ μ1 95 97 96 7 2 f_q z) ∧ (z ≤ 0 ∨ o_k = 0) ∧ True)) := by
  refine sC.of rfl (by decide) (le_t rfl) ?_
  have ht_f_q : (0 ≤ f_q ∧ f_q ≤ 20) := by rw [← q_f_q]; exact hT 0 0 (A_0 hw) 11
  refine mr_lvE (lv' := [(0, .ref 0)]) rfl ?_
  refine sv_aload_n (pc := 0) dX11_wish_0 rfl rfl ?_
  refine gf_X11_1 (pc := 1) dX11_wish_1 wF_X11_13 (A_0 hw) hT ?_
  refine sv_aload_n (pc := 4) dX11_wish_4 rfl rfl ?_
  refine gk_X11_11 (pc := 5) dX11_wish_5 wF_X11_169 (A_0 hw) q_f_q ?_
  refine mr_cSP (pc := 8) (c_X4_isWish_v hw hT (A_2 hw) ht_f_q) (gOk _ _ _ _ _) dX11_wish_8 (tX4_isWish _ _ _ _ _) wS_X4_isWish wM_X11_397 ⟨le_t rfl, le_t rfl⟩ ⟨le_t rfl, le_t rfl⟩ rfl (le_t rfl) fun z143 h142 => ?_
  refine mr_if_ne (pc := 11) (tgt := 16) dX11_wish_11 (by decide) (r32 h142.1 rfl) (fun h144 => ?_) (fun h144 => ?_)
  · have h145 : 1 ≤ z143 ∧ z143 ≤ 1 := (vc_X11_wish_w_1 h144 h142.2.1 ht_f_q h142.1)
    have h146 : 2 ≤ f_q ∧ f_q ≤ 7 := (h142.2.1 (vc_X11_wish_w_2 h142.2.1 h144 ht_f_q h145))
    have h147 : 2 ≤ f_q ∧ f_q ≤ 7 := (vc_X11_wish_w_3 h146 h142.2.1 ht_f_q h145)
    obtain ⟨z148, q149⟩ : ∃ z, μ 2 ((0 : Int).toNat) = z := ⟨_, rfl⟩
    have h150 : (0 ≤ z148 ∧ z148 ≤ 9) := by rw [← q149]; exact hT 2 2 (A_2 hw) ((0 : Int).toNat)
    have h151 : z148 ≤ 6 := allLe.at (h142.2.2.1 (vc_X11_wish_w_4 h142.2.1 h144 h146 h145)) (e := 0) (by decide) (vc_X11_wish_w_5 h142.2.1 h146 h144 h145) q149
    have h152 : 0 ≤ z148 ∧ z148 ≤ 6 := (vc_X4_find_v_1 h151 h150)
    refine sv_aload_n (pc := 16) dX11_wish_16 rfl rfl ?_
    refine gf_X11_9 (pc := 17) dX11_wish_17 wF_X11_72 (A_0 hw) hT ?_
    obtain ⟨z153, q154⟩ : ∃ z, μ 95 (z148.toNat) = z := ⟨_, rfl⟩
    have h155 : (0 ≤ z153 ∧ z153 ≤ 5) := by rw [← q154]; exact hT 95 95 (A_95 hw) (z148.toNat)
    refine sv_aload_n (pc := 20) dX11_wish_20 rfl rfl ?_
    refine gf_X11_1 (pc := 21) dX11_wish_21 wF_X11_13 (A_0 hw) hT ?_
    refine mr_iconst (pc := 24) (z := 0) dX11_wish_24 ?_
    refine sv_aload_n (pc := 25) dX11_wish_25 rfl rfl ?_
    refine gk_X11_11 (pc := 26) dX11_wish_26 wF_X11_169 (A_0 hw) q_f_q ?_
    refine mr_cVP (pc := 29) (c_X4_find_v hw hT (A_2 hw) (rR (x := 0)) (rW (c := 0) (d := 7) h147 rfl) q149 q154 (vc_X12_wish_v_96 h151 h152)) (gOk _ _ _ _ _) dX11_wish_29 (tX4_find _ _ _ _ _) ⟨wV_X4_find, wL_X4_find⟩ wM_X11_401 (gCX4 _ _ _ _ _) rfl (A_94 hw) rfl ⟨le_t rfl, le_t rfl⟩ ⟨le_t rfl, le_t rfl⟩ rfl (le_t rfl) fun z160 h159 => ?_
    refine mr_if_lt (pc := 32) (tgt := 38) dX11_wish_32 (by decide) (r32 h159.1 rfl) (fun h161 => ?_) (fun h161 => ?_)
    · have h162 : (-1) ≤ z160 ∧ z160 ≤ (-1) := (vc_X11_wish_w_8 h161 h159.1)
      refine sv_aload_n (pc := 38) dX11_wish_38 rfl rfl ?_
      refine gf_X11_9 (pc := 39) dX11_wish_39 wF_X11_72 (A_0 hw) hT ?_
      refine gf_X4_12 (pc := 42) dX11_wish_42 wF_X11_405 (A_94 hw) hT ?_
      refine sv_aload_n (pc := 45) dX11_wish_45 rfl rfl ?_
      refine gf_X11_1 (pc := 46) dX11_wish_46 wF_X11_13 (A_0 hw) hT ?_
      refine mr_iconst (pc := 49) (z := 0) dX11_wish_49 ?_
      refine lk_2 (pc := 50) dX11_wish_50 (A_2 hw) (rIx (n := 20) (rR (x := 0)) rfl) q149 ?_
      refine lk_95 (pc := 51) dX11_wish_51 (A_95 hw) (rIx (n := 7) h152 rfl) q154 ?_
      refine mr_iconst (pc := 52) (z := 5) dX11_wish_52 ?_
      refine mr_icmp_lt (pc := 53) (tgt := 59) dX11_wish_53 (by decide) (r32 h155 rfl) (r32 (rR (x := 5)) rfl) (fun h163 => ?_) (fun h163 => ?_)
      · have h164 : 0 ≤ z153 ∧ z153 ≤ 4 := (vc_X11_wish_w_9 h163 h155)
        refine sv_aload_n (pc := 59) dX11_wish_59 rfl rfl ?_
        refine gf_X11_9 (pc := 60) dX11_wish_60 wF_X11_72 (A_0 hw) hT ?_
        refine sv_aload_n (pc := 63) dX11_wish_63 rfl rfl ?_
        refine gf_X11_1 (pc := 64) dX11_wish_64 wF_X11_13 (A_0 hw) hT ?_
        refine sv_aload_n (pc := 67) dX11_wish_67 rfl rfl ?_
        refine gk_X11_11 (pc := 68) dX11_wish_68 wF_X11_169 (A_0 hw) q_f_q ?_
        refine mr_cVI (pc := 71) (c_X4_addWish_w hw hT (A_2 hw) h147 q149 q154 (vc_X12_wish_v_96 h151 h152) (vc_X11_wish_w_10 h163 h164) (h142.2.2.1 (vc_X11_wish_w_4 h142.2.1 h144 h146 h145))) (gOk _ _ _ _ _) dX11_wish_71 (tX4_addWish _ _ _ _ _) ⟨wV_X4_addWish, wL_X4_addWish⟩ wM_X11_408 (gCX4 _ _ _ _ _) rfl (A_94 hw) rfl ⟨le_t rfl, le_t rfl⟩ ⟨le_t rfl, le_t rfl⟩ rfl (le_t rfl) fun z169 μ165 T166 F167 h168 => ?_
        obtain ⟨z170, q171, h172⟩ := h168
        have h173 : (0 ≤ z170 ∧ z170 ≤ 1) := by rw [← q171]; exact T166 94 94 (A_94 hw) 10
        have h174 : 1 ≤ z169 ∧ z169 ≤ 5 := (vc_X11_wish_w_11 h172.2.1 h163 h164 h172.1)
        have q175 : μ165 94 10 = 0 := q171.trans h172.2.2.2.1
        have h176 : 0 ≤ z170 ∧ z170 ≤ 0 := (vc_X12_ring_22 h172.2.2.2.1 h173)
        exact mr_iret dX11_wish_74 rfl (le_t rfl) (le_t rfl) T166 (mF.call mF.refl F167 rfl) ⟨0, q175, (rW (c := (-2147483648)) (d := 2147483647) h174 rfl), (wiA.add (h142.2.2.2.1 (vc_X11_wish_w_4 h142.2.1 h144 h146 h145)) q149 q154 (h159.2.1 (vc_X11_wish_w_13 h161 h162)) (vc_X11_wish_w_14 h163 h172.2.1 h164 h174) h172.2.2.1 (vc_X11_wish_w_15 h163 h172.2.1 h164 h174)), (vc_X11_wish_w_16 h172.2.1 h163 h164 h174), trivial⟩
      have h177 : 5 ≤ z153 ∧ z153 ≤ 5 := (vc_X11_wish_w_17 h163 h155)
      refine mr_bipush (pc := 56) (z := (-3)) dX11_wish_56 (by decide) ?_
      obtain ⟨z178, q179⟩ : ∃ z, μ 94 10 = z := ⟨_, rfl⟩
      have h180 : (0 ≤ z178 ∧ z178 ≤ 1) := by rw [← q179]; exact hT 94 94 (A_94 hw) 10
      exact mr_iret dX11_wish_58 rfl (le_t rfl) (le_t rfl) hT mF.refl ⟨z178, q179, (rW (c := (-2147483648)) (d := 2147483647) (rR (x := (-3))) rfl), (wiA.full (h142.2.2.2.1 (vc_X11_wish_w_4 h142.2.1 h144 h146 h145)) q149 q154 (h159.2.1 (vc_X11_wish_w_13 h161 h162)) (vc_X11_wish_w_18 h163 h177)), (vc_X11_wish_w_19 h180), trivial⟩
    have h181 : 0 ≤ z160 ∧ z160 ≤ 4 := (vc_X11_wish_w_20 h161 h159.1)
    refine mr_bipush (pc := 35) (z := (-2)) dX11_wish_35 (by decide) ?_
    obtain ⟨z182, q183⟩ : ∃ z, μ 94 10 = z := ⟨_, rfl⟩
    have h184 : (0 ≤ z182 ∧ z182 ≤ 1) := by rw [← q183]; exact hT 94 94 (A_94 hw) 10
    exact mr_iret dX11_wish_37 rfl (le_t rfl) (le_t rfl) hT mF.refl ⟨z182, q183, (rW (c := (-2147483648)) (d := 2147483647) (rR (x := (-2))) rfl), (wiA.has (h142.2.2.2.1 (vc_X11_wish_w_4 h142.2.1 h144 h146 h145)) q149 q154 (h159.2.2.1 (vc_X11_wish_w_21 h161 h181))), (vc_X11_wish_w_22 h184), trivial⟩
  have h185 : 0 ≤ z143 ∧ z143 ≤ 0 := (vc_X11_wish_w_23 h144 h142.2.1 ht_f_q h142.1)
  refine mr_iconst (pc := 14) (z := (-1)) dX11_wish_14 ?_
  obtain ⟨z186, q187⟩ : ∃ z, μ 94 10 = z := ⟨_, rfl⟩
  have h188 : (0 ≤ z186 ∧ z186 ≤ 1) := by rw [← q187]; exact hT 94 94 (A_94 hw) 10
  exact mr_iret dX11_wish_15 rfl (le_t rfl) (le_t rfl) hT mF.refl ⟨z186, q187, (rW (c := (-2147483648)) (d := 2147483647) (rR (x := (-1))) rfl), (wiA.bad (h142.2.2.2.2.1 (vc_X11_wish_w_24 h142.2.1 h144 ht_f_q h185))), (vc_X11_wish_w_25 h188), trivial⟩
set_option maxRecDepth 4000 in
set_option maxHeartbeats 4000000 in
theorem c_X4_explore_v {l : Launch} {D : va_G} {c : Nat → ClassId} {H0 : Heap} {sa : Nat × Nat × (Nat → Int32)} {w_0 : mW} {μ : mM} (hw_0 : mWF w_0) (hT : mT w_0 μ) {bq : Nat} (q_bq : μ 94 6 = (bq : Int)) (hA_bq : mAt w_0 bq 102) {bf : Nat} (q_bf : μ 94 8 = (bf : Int)) (hA_bf : mAt w_0 bf 104) (hle : w_0.2.2.1 bq = w_0.2.2.1 bf) : sC (gG l D c H0 sa) mX4_explore 12 2 186624 [.ref 94] (mk w_0 μ) (qVx w_0 [94006, 94008, 94009, 94011, 98999, 99999, 100999, 101999, 102999, 104999, 105999] μ (fun w1 μ1 => (w1.2.2.1 (μ1 94 6).toNat = w1.2.2.1 (μ1 94 8).toNat) ∧ (((szW w1 : Int) + 4 * (w_0.2.2.1 bq : Int) ≤ szW w_0 + 4 * (w1.2.2.1 (μ1 94 6).toNat : Int) ∧ (w1.1 : Int) + 2 * (w_0.2.2.1 bq : Int) ≤ (w_0.1 : Int) + 2 * (w1.2.2.1 (μ1 94 6).toNat : Int))) ∧ ((wgT μ1 100 95 ∨ μ1 100 = μ 100)) ∧ True)) := by
  refine sC.of rfl (by decide) (le_t rfl) ?_
  refine mr_lvE (lv' := [(0, .ref 94)]) rfl ?_
  refine sv_aload_n (pc := 0) dX4_explore_0 rfl rfl ?_
  refine gf_X4_11 (pc := 1) dX4_explore_1 wF_X4_56 (A_94 hw_0) hT fun z1 q2 h3 => ?_
  refine mr_if_eq (pc := 4) (tgt := 8) dX4_explore_4 (by decide) (r32 h3 rfl) (fun h4 => ?_) (fun h4 => ?_)
  · have h5 : 0 ≤ z1 ∧ z1 ≤ 0 := (vc_X12_ring_22 h4 h3)
    refine sv_aload_n (pc := 8) dX4_explore_8 rfl rfl ?_
    refine mr_cVV (pc := 9) (c_X4_prepare_v hw_0 hT) (gOk _ _ _ _ _) dX4_explore_9 (tX4_prepare _ _ _ _ _) ⟨wV_X4_prepare, wL_X4_prepare⟩ wM_X4_79 (gCX4 _ _ _ _ _) rfl (A_94 hw_0) rfl ⟨le_t rfl, le_t rfl⟩ ⟨le_t rfl, le_t rfl⟩ rfl (le_t rfl) fun μ6 T7 F8 h9 => ?_
    obtain ⟨z10, q11, h12⟩ := h9
    have h13 : (0 ≤ z10 ∧ z10 ≤ 46656) := by rw [← q11]; exact T7 94 94 (A_94 hw_0) 9
    have h14 : 1 ≤ z10 ∧ z10 ≤ 46656 := (vc_X12_open_r_1 h12.1 h13)
    refine sv_aload_n (pc := 12) dX4_explore_12 rfl rfl ?_
    have q15 : μ6 94 (6) = (bq : Int) := (F8.f (A_94 hw_0) rfl q_bq)
    have q16 : μ6 94 (8) = (bf : Int) := (F8.f (A_94 hw_0) rfl q_bf)
    have q17 : μ6 94 (11) = z1 := (F8.f (A_94 hw_0) rfl q2)
    refine mr_cVVX (pc := 13) (c_X4_makeRoom hw_0 T7 q11 q15 hA_bq q16 hA_bf (vc_X12_tries_36 h12.1 h14) hle) (gOk _ _ _ _ _) dX4_explore_13 (tX4_makeRoom _ _ _ _ _) ⟨wV_X4_makeRoom, wL_X4_makeRoom⟩ wM_X4_104 (gCX4 _ _ _ _ _) rfl (A_94 hw_0) rfl ⟨le_t rfl, le_t rfl⟩ ⟨le_t rfl, le_t rfl⟩ rfl (le_t rfl) fun w_22 μ18 hw_23 T19 F20 h21 => ?_
    refine sv_wid (ce' := 2) (sl' := 186624) (le_t rfl) (le_t rfl) ?_
    have A24 : mAt w_22 bq 102 := (hA_bq).ext F20.1
    have A25 : mAt w_22 bf 104 := (hA_bf).ext F20.1
    have R26 := radix.keepX h12.2.1 F20 (A_100 hw_0) (A_95 hw_0) (fun _ => rfl) (fun _ => rfl)
    obtain ⟨b27, q28, A29⟩ := refE (T19 94 94 (A_94 hw_23) 6)
    obtain ⟨b30, q31, A32⟩ := refE (T19 94 94 (A_94 hw_23) 8)
    refine sv_aload_n (pc := 16) dX4_explore_16 rfl rfl ?_
    refine mr_cVI (pc := 17) (c_X4_spread hw_23 T19 (F20.f (A_94 hw_0) rfl q11) q28 A29 q31 A32 (vc_X12_tries_36 h12.1 h14) (lenQ h21.1 q28) (lenQ h21.2.1 q31) (by have h := R26; rw [q11] at h; exact h)) (gOk _ _ _ _ _) dX4_explore_17 (tX4_spread _ _ _ _ _) ⟨wV_X4_spread, wL_X4_spread⟩ wM_X4_107 (gCX4 _ _ _ _ _) rfl (A_94 hw_23) rfl ⟨le_t rfl, le_t rfl⟩ ⟨le_t rfl, le_t rfl⟩ rfl (le_t rfl) fun z37 μ33 T34 F35 h36 => ?_
    refine mr_istore_n (pc := 20) (lv' := [(1, iv z37), (0, .ref 94)]) dX4_explore_20 rfl (by decide) rfl ?_
    refine sv_aload_n (pc := 21) dX4_explore_21 rfl rfl ?_
    refine mr_cVI (pc := 22) (c_X4_leadBack hw_23 T34 (F35.f (A_94 hw_23) rfl (F20.f (A_94 hw_0) rfl q11)) (F35.f (A_94 hw_23) rfl q28) A29 (F35.f (A_94 hw_23) rfl q31) A32 (vc_X12_tries_36 h12.1 h14) (by have h := (lenQ h21.1 q28); rw [(F20.f (A_94 hw_0) rfl q11)] at h; rw [(F35.f (A_94 hw_23) rfl (F20.f (A_94 hw_0) rfl q11))]; exact h) (by have h := (lenQ h21.2.1 q31); rw [(F20.f (A_94 hw_0) rfl q11)] at h; rw [(F35.f (A_94 hw_23) rfl (F20.f (A_94 hw_0) rfl q11))]; exact h) (by have h := (radix.keep R26 ((mF.call mF.refl F35 rfl) : mF [101999, 102999, 104999, 105999] w_22 μ18 μ33) (A_100 hw_23) (A_95 hw_23) (fun _ => rfl) (fun _ => rfl)); rw [q11] at h; exact h)) (gOk _ _ _ _ _) dX4_explore_22 (tX4_leadBack _ _ _ _ _) ⟨wV_X4_leadBack, wL_X4_leadBack⟩ wM_X4_111 (gCX4 _ _ _ _ _) rfl (A_94 hw_23) rfl ⟨le_t rfl, le_t rfl⟩ ⟨le_t rfl, le_t rfl⟩ rfl (le_t rfl) fun z42 μ38 T39 F40 h41 => ?_
    refine mr_istore_n (pc := 25) (lv' := [(2, iv z42), (1, iv z37), (0, .ref 94)]) dX4_explore_25 rfl (by decide) rfl ?_
    refine sv_aload_n (pc := 26) dX4_explore_26 rfl rfl ?_
    refine gf_X4_13 (pc := 27) dX4_explore_27 wF_X4_43 (A_94 hw_23) T39 ?_
    refine mr_iconst (pc := 30) (z := 0) dX4_explore_30 ?_
    refine mr_iload_n (pc := 31) (z := z37) dX4_explore_31 rfl rfl ?_
    refine ss_105 (pc := 32) dX4_explore_32 (A_105 hw_23) T39 (rIx (n := 4) (rR (x := 0)) rfl) (rW (c := (-2147483648)) (d := 2147483647) h36.1 rfl) fun μ43 u44 T45 => ?_
    refine sv_aload_n (pc := 33) dX4_explore_33 rfl rfl ?_
    refine gf_X4_13 (pc := 34) dX4_explore_34 wF_X4_43 (A_94 hw_23) T45 ?_
    refine mr_iconst (pc := 37) (z := 2) dX4_explore_37 ?_
    refine mr_iload_n (pc := 38) (z := z37) dX4_explore_38 rfl rfl ?_
    refine mr_iload_n (pc := 39) (z := z42) dX4_explore_39 rfl rfl ?_
    refine mr_isub (pc := 40) (x := z37) (y := z42) dX4_explore_40 ?_
    refine ss_105 (pc := 41) dX4_explore_41 (A_105 hw_23) T45 (rIx (n := 4) (rR (x := 2)) rfl) (rW (c := (-2147483648)) (d := 2147483647) (rSub (e := (-46655)) (f := 46656) h36.1 h41.1 rfl) rfl) fun μ46 u47 T48 => ?_
    refine sv_aload_n (pc := 42) dX4_explore_42 rfl rfl ?_
    refine mr_iconst (pc := 43) (z := 1) dX4_explore_43 ?_
    refine pf_X4_11 (pc := 44) dX4_explore_44 wF_X4_56 (A_94 hw_23) T48 (rW (c := 0) (d := 1) (rR (x := 1)) rfl) fun μ49 u50 T51 => ?_
    exact mr_vretX dX4_explore_47 rfl (le_t rfl) (le_t rfl) hw_23 T51 (mX.fr (mX.fr (mX.fr (mX.fr (mX.fr (mX.trans (mX.fr mX.refl F8 rfl) F20 rfl) F35 rfl) F40 rfl) (mF.up mF.refl (A_105 hw_23) u44 rfl : mF [105999] _ _ _) rfl) (mF.up mF.refl (A_105 hw_23) u47 rfl : mF [105999] _ _ _) rfl) (mF.up mF.refl (A_94 hw_23) u50 rfl : mF [94011] _ _ _) rfl) ⟨(lenQ0 (lenQ2 h21.2.2.1 q28 q31) (u50.f (Or.inr (by decide)) (u47.f (Or.inl (mAt.ne (A_105 hw_23) (A_94 hw_23) rfl)) (u44.f (Or.inl (mAt.ne (A_105 hw_23) (A_94 hw_23) rfl)) (F40.f (A_94 hw_23) rfl (F35.f (A_94 hw_23) rfl q28))))) (u50.f (Or.inr (by decide)) (u47.f (Or.inl (mAt.ne (A_105 hw_23) (A_94 hw_23) rfl)) (u44.f (Or.inl (mAt.ne (A_105 hw_23) (A_94 hw_23) rfl)) (F40.f (A_94 hw_23) rfl (F35.f (A_94 hw_23) rfl q31)))))), (potQ h21.2.2.2.1 q28 (u50.f (Or.inr (by decide)) (u47.f (Or.inl (mAt.ne (A_105 hw_23) (A_94 hw_23) rfl)) (u44.f (Or.inl (mAt.ne (A_105 hw_23) (A_94 hw_23) rfl)) (F40.f (A_94 hw_23) rfl (F35.f (A_94 hw_23) rfl q28)))))), (Or.inl (wgT.of (h12.2.2.1).1 (rowX (A_100 hw_0) ((mX.fr (mX.fr (mX.fr (mX.fr (mX.fr (mX.trans mX.refl F20 rfl) F35 rfl) F40 rfl) (mF.up mF.refl (A_105 hw_23) u44 rfl : mF [105999] _ _ _) rfl) (mF.up mF.refl (A_105 hw_23) u47 rfl : mF [105999] _ _ _) rfl) (mF.up mF.refl (A_94 hw_23) u50 rfl : mF [94011] _ _ _) rfl) : mX [94006, 94008, 94011, 101999, 102999, 104999, 105999] w_0 μ6 w_22 μ49) rfl rfl) (rowX (A_95 hw_0) ((mX.fr (mX.fr (mX.fr (mX.fr (mX.fr (mX.trans mX.refl F20 rfl) F35 rfl) F40 rfl) (mF.up mF.refl (A_105 hw_23) u44 rfl : mF [105999] _ _ _) rfl) (mF.up mF.refl (A_105 hw_23) u47 rfl : mF [105999] _ _ _) rfl) (mF.up mF.refl (A_94 hw_23) u50 rfl : mF [94011] _ _ _) rfl) : mX [94006, 94008, 94011, 101999, 102999, 104999, 105999] w_0 μ6 w_22 μ49) rfl rfl))), trivial⟩
  have h52 : 1 ≤ z1 ∧ z1 ≤ 1 := (vc_X12_ring_24 h4 h3)
  exact mr_vretX dX4_explore_7 rfl (le_t rfl) (le_t rfl) hw_0 hT mX.refl ⟨(lenQ0 hle q_bq q_bf), (potM0 q_bq), (Or.inr rfl), trivial⟩
theorem vc_X11_tries_v_3 {p1 : Int} (h0 : p1 ≤ 3) (h1 : 0 ≤ p1) (h2 : 0 ≤ p1 ∧ p1 ≤ 2147483647) : 0 ≤ p1 ∧ p1 ≤ 3 := by omega
theorem vc_X11_tries_v_4 {p1 : Int} (h0 : 3 < p1) (h1 : 0 ≤ p1) (h2 : 0 ≤ p1 ∧ p1 ≤ 2147483647) : 4 ≤ p1 ∧ p1 ≤ 2147483647 := by omega
set_option maxRecDepth 4000 in
set_option maxHeartbeats 4000000 in
theorem c_X11_tries_v {l : Launch} {D : va_G} {c : Nat → ClassId} {H0 : Heap} {sa : Nat × Nat × (Nat → Int32)} {w_0 : mW} {μ : mM} (hw_0 : mWF w_0) (hT : mT w_0 μ) {p1 : Int} (hp1 : (-2147483648) ≤ p1 ∧ p1 ≤ 2147483647) {bq : Nat} (q_bq : μ 94 6 = (bq : Int)) (hA_bq : mAt w_0 bq 102) {bf : Nat} (q_bf : μ 94 8 = (bf : Int)) (hA_bf : mAt w_0 bf 104) (hle : w_0.2.2.1 bq = w_0.2.2.1 bf) : sC (gG l D c H0 sa) mX11_tries 13 2 186624 [.ref 0, iv p1] (mk w_0 μ) (qIx w_0 [94006, 94008, 94009, 94011, 98999, 99999, 100999, 101999, 102999, 104999, 105999] μ (fun z w1 μ1 => ((-2147483648) ≤ z ∧ z ≤ 2147483647) ∧ (w1.2.2.1 (μ1 94 6).toNat = w1.2.2.1 (μ1 94 8).toNat) ∧ (((szW w1 : Int) + 4 * (w_0.2.2.1 bq : Int) ≤ szW w_0 + 4 * (w1.2.2.1 (μ1 94 6).toNat : Int) ∧ (w1.1 : Int) + 2 * (w_0.2.2.1 bq : Int) ≤ (w_0.1 : Int) + 2 * (w1.2.2.1 (μ1 94 6).toNat : Int))) ∧ ((wgT μ1 100 95 ∨ μ1 100 = μ 100)) ∧ True)) := by
  refine sC.of rfl (by decide) (le_t rfl) ?_
  refine mr_lvE (lv' := [(0, .ref 0), (1, iv p1)]) rfl ?_
  refine mr_iload_n (pc := 0) (z := p1) dX11_tries_0 rfl rfl ?_
  refine mr_if_lt (pc := 1) (tgt := 9) dX11_tries_1 (by decide) hp1 (fun h1 => ?_) (fun h1 => ?_)
  · have h2 : (-2147483648) ≤ p1 ∧ p1 ≤ (-1) := (vc_X12_cut_1 h1 hp1)
    refine mr_iconst (pc := 9) (z := (-1)) dX11_tries_9 ?_
    exact mr_iretX dX11_tries_10 rfl (le_t rfl) (le_t rfl) hw_0 hT mX.refl ⟨(rW (c := (-2147483648)) (d := 2147483647) (rR (x := (-1))) rfl), (lenQ0 hle q_bq q_bf), (potM0 q_bq), (Or.inr rfl), trivial⟩
  have h3 : 0 ≤ p1 ∧ p1 ≤ 2147483647 := (vc_X12_cut_2 h1 hp1)
  refine mr_iload_n (pc := 4) (z := p1) dX11_tries_4 rfl rfl ?_
  refine mr_iconst (pc := 5) (z := 3) dX11_tries_5 ?_
  refine mr_icmp_le (pc := 6) (tgt := 11) dX11_tries_6 (by decide) (r32 h3 rfl) (r32 (rR (x := 3)) rfl) (fun h4 => ?_) (fun h4 => ?_)
  · have h5 : 0 ≤ p1 ∧ p1 ≤ 3 := (vc_X11_tries_v_3 h4 h1 h3)
    refine sv_aload_n (pc := 11) dX11_tries_11 rfl rfl ?_
    refine gf_X11_9 (pc := 12) dX11_tries_12 wF_X11_72 (A_0 hw_0) hT ?_
    refine mr_cVVX (pc := 15) (c_X4_explore_v hw_0 hT q_bq hA_bq q_bf hA_bf hle) (gOk _ _ _ _ _) dX11_tries_15 (tX4_explore _ _ _ _ _) ⟨wV_X4_explore, wL_X4_explore⟩ wM_X11_420 (gCX4 _ _ _ _ _) rfl (A_94 hw_0) rfl ⟨le_t rfl, le_t rfl⟩ ⟨le_t rfl, le_t rfl⟩ rfl (le_t rfl) fun w_10 μ6 hw_11 T7 F8 h9 => ?_
    refine sv_wid (ce' := 2) (sl' := 186624) (le_t rfl) (le_t rfl) ?_
    have A12 : mAt w_10 bq 102 := (hA_bq).ext F8.1
    have A13 : mAt w_10 bf 104 := (hA_bf).ext F8.1
    refine sv_aload_n (pc := 18) dX11_tries_18 rfl rfl ?_
    refine gf_X11_9 (pc := 19) dX11_tries_19 wF_X11_72 (A_0 hw_11) T7 ?_
    refine gf_X4_13 (pc := 22) dX11_tries_22 wF_X11_423 (A_94 hw_11) T7 ?_
    refine mr_iload_n (pc := 25) (z := p1) dX11_tries_25 rfl rfl ?_
    refine la_105 (pc := 26) dX11_tries_26 (A_105 hw_11) T7 (rIx (n := 4) h5 rfl) fun z14 q15 h16 => ?_
    exact mr_iretX dX11_tries_27 rfl (le_t rfl) (le_t rfl) hw_11 T7 (mX.trans mX.refl F8 rfl) ⟨h16, h9.1, h9.2.1, h9.2.2.1, trivial⟩
  have h17 : 4 ≤ p1 ∧ p1 ≤ 2147483647 := (vc_X11_tries_v_4 h4 h1 h3)
  refine mr_iconst (pc := 9) (z := (-1)) dX11_tries_9 ?_
  exact mr_iretX dX11_tries_10 rfl (le_t rfl) (le_t rfl) hw_0 hT mX.refl ⟨(rW (c := (-2147483648)) (d := 2147483647) (rR (x := (-1))) rfl), (lenQ0 hle q_bq q_bf), (potM0 q_bq), (Or.inr rfl), trivial⟩
