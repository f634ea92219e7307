section
theorem vc_X3_carry_1 {f_cc : Int} (h0 : f_cc ≤ 255) (h1 : 0 ≤ f_cc ∧ f_cc ≤ 256) : 0 ≤ f_cc ∧ f_cc ≤ 255 := by omega
theorem vc_X3_carry_2 {z35 : Int} (h0 : ¬ z35 = 192) (h1 : 0 ≤ z35 ∧ z35 ≤ 192) : 0 ≤ z35 ∧ z35 ≤ 191 := by omega
theorem vc_X3_carry_3 {f_cc : Int} (h0 : f_cc ≤ 255) (h1 : 0 ≤ f_cc ∧ f_cc ≤ 255) : f_cc ≤ f_cc + 1 := by omega
theorem vc_X3_carry_4 {z35 : Int} (h0 : z35 = 192) (h1 : 0 ≤ z35 ∧ z35 ≤ 192) : 192 ≤ z35 ∧ z35 ≤ 192 := by omega
theorem vc_X3_carry_5 {f_cc : Int} (h0 : f_cc ≤ 255) (h1 : 0 ≤ f_cc ∧ f_cc ≤ 255) : (f_cc + 1) ≤ f_cc + 1 := by omega
set_option maxRecDepth 4000 in
set_option maxHeartbeats 4000000 in
theorem c_X3_carry {l : Launch} {D : va_G} {c : Nat → ClassId} {H0 : Heap} {sa : Nat × Nat × (Nat → Int32)} {w : mW} {μ : mM} (hw : mWF w) (hT : mT w μ) {p1 : Int} (hp1 : (-2147483648) ≤ p1 ∧ p1 ≤ 2147483647) {p2 : Int} (hp2 : (-2147483648) ≤ p2 ∧ p2 ≤ 2147483647) {f_cc : Int} (q_f_cc : μ 76 5 = f_cc) (hq0 : f_cc ≤ 255) : sC (gG l D c H0 sa) mX3_carry 1 0 0 [.ref 76, iv p1, iv p2] (mk w μ) (qV w [76005, 78999] μ (fun μ1 => ∃ o_cc : Int, μ1 76 5 = o_cc ∧ (o_cc ≤ f_cc + 1) ∧ True)) := by
  refine sC.of rfl (by decide) (le_t rfl) ?_
  have ht_f_cc : (0 ≤ f_cc ∧ f_cc ≤ 256) := by rw [← q_f_cc]; exact hT 76 76 (A_76 hw) 5
  have h1 : 0 ≤ f_cc ∧ f_cc ≤ 255 := (vc_X3_carry_1 hq0 ht_f_cc)
  refine mr_lvE (lv' := [(0, .ref 76), (1, iv p1), (2, iv p2)]) rfl ?_
  refine mr_iload_n (pc := 0) (z := p1) dX3_carry_0 rfl rfl ?_
  refine mr_sipush (pc := 1) (z := 192) dX3_carry_1 (by decide) ?_
  refine mr_iand (pc := 4) (x := p1) (y := 192) dX3_carry_4 ?_
  refine mr_gen (P := fun z => 0 ≤ z ∧ z ≤ 192) (rAndR (rR (x := 192)) rfl) fun z35 q36 h37 => ?_
  refine mr_sipush (pc := 5) (z := 192) dX3_carry_5 (by decide) ?_
  refine mr_icmp_ne (pc := 8) (tgt := 31) dX3_carry_8 (by decide) (r32 h37 rfl) (r32 (rR (x := 192)) rfl) (fun h46 => ?_) (fun h46 => ?_)
  · have h47 : 0 ≤ z35 ∧ z35 ≤ 191 := (vc_X3_carry_2 h46 h37)
    exact mr_vret dX3_carry_31 rfl (le_t rfl) (le_t rfl) hT mF.refl ⟨f_cc, q_f_cc, (vc_X3_carry_3 hq0 h1), trivial⟩
  have h48 : 192 ≤ z35 ∧ z35 ≤ 192 := (vc_X3_carry_4 h46 h37)
  refine sv_aload_n (pc := 11) dX3_carry_11 rfl rfl ?_
  refine gf_X3_1 (pc := 12) dX3_carry_12 wF_X3_15 (A_76 hw) hT ?_
  refine sv_aload_n (pc := 15) dX3_carry_15 rfl rfl ?_
  refine gk_X3_5 (pc := 16) dX3_carry_16 wF_X3_79 (A_76 hw) q_f_cc ?_
  refine mr_iload_n (pc := 19) (z := p2) dX3_carry_19 rfl rfl ?_
  refine ss_78 (pc := 20) dX3_carry_20 (A_78 hw) hT (rIx (n := 256) h1 rfl) hp2 fun μ49 u50 T51 => ?_
  refine sv_aload_n (pc := 21) dX3_carry_21 rfl rfl ?_
  refine sv_dup (pc := 22) dX3_carry_22 rfl ?_
  refine gk_X3_5 (pc := 23) dX3_carry_23 wF_X3_79 (A_76 hw) (u50.f (Or.inl (mAt.ne (A_78 hw) (A_76 hw) rfl)) q_f_cc) ?_
  refine mr_iconst (pc := 26) (z := 1) dX3_carry_26 ?_
  refine mr_iadd (pc := 27) (x := f_cc) (y := 1) dX3_carry_27 ?_
  refine pf_X3_5 (pc := 28) dX3_carry_28 wF_X3_79 (A_76 hw) T51 (rW (c := 0) (d := 256) (rAdd (e := 1) (f := 256) h1 (rR (x := 1)) rfl) rfl) fun μ52 u53 T54 => ?_
  exact mr_vret dX3_carry_31 rfl (le_t rfl) (le_t rfl) T54 (mF.up (mF.up mF.refl (A_78 hw) u50 rfl) (A_76 hw) u53 rfl) ⟨(f_cc + 1), u53.1, (vc_X3_carry_5 hq0 h1), trivial⟩
theorem vc_X3_readAttribute_4 {f_cc f_s z721 : Int} (h0 : f_cc ≤ f_s) (h1 : z721 = 0) (h2 : ((f_s + 1) - z721) ≤ 256) (h3 : 0 ≤ f_cc ∧ f_cc ≤ 256) (h4 : 0 ≤ f_s ∧ f_s ≤ 256) (h5 : 0 ≤ z721 ∧ z721 ≤ 0) : f_cc ≤ ((f_s + 1) - z721) := by omega
theorem vc_X3_readAttribute_6 {z715 : Int} (h0 : z715 = 64) (h1 : 0 ≤ z715 ∧ z715 ≤ 207) : 64 ≤ z715 ∧ z715 ≤ 64 := by omega
theorem vc_X3_readAttribute_7 {p2 p3 : Int} (h0 : p2 + p3 ≤ 1000) (h1 : 0 ≤ p2 ∧ p2 ≤ 1000) (h2 : 0 ≤ p3 ∧ p3 ≤ 1000) : p2 + p3 ≤ 1000 := by omega
theorem vc_X3_readAttribute_10 {z718 : Int} (h0 : z718 = 2) (h1 : ¬ z718 = 1) (h2 : 0 ≤ z718 ∧ z718 ≤ 255) : 2 ≤ z718 ∧ z718 ≤ 2 := by omega
theorem vc_X3_readAttribute_15 {z718 : Int} (h0 : z718 = 3) (h1 : ¬ z718 = 1) (h2 : ¬ z718 = 2) (h3 : 0 ≤ z718 ∧ z718 ≤ 255) : 3 ≤ z718 ∧ z718 ≤ 3 := by omega
theorem vc_X3_readAttribute_16 {f_cc f_s z721 : Int} (h0 : f_cc ≤ f_s) (h1 : ((f_s + 1) - z721) ≤ 256) (h2 : 0 ≤ f_cc ∧ f_cc ≤ 256) (h3 : 0 ≤ f_s ∧ f_s ≤ 256) (h4 : 0 ≤ z721 ∧ z721 ≤ 0) : f_cc ≤ 255 := by omega
theorem vc_X3_readAttribute_18 {f_cc f_s z721 z832 : Int} (h0 : f_cc ≤ f_s) (h1 : z721 = 0) (h2 : ((f_s + 1) - z721) ≤ 256) (h3 : z832 ≤ f_cc + 1) (h4 : 0 ≤ f_cc ∧ f_cc ≤ 256) (h5 : 0 ≤ f_s ∧ f_s ≤ 256) (h6 : 0 ≤ z721 ∧ z721 ≤ 0) (h7 : 0 ≤ z832 ∧ z832 ≤ 256) : z832 ≤ ((f_s + 1) - z721) := by omega
theorem vc_X3_readAttribute_20 {z820 : Int} (h0 : z820 = 0) (h1 : 0 ≤ z820 ∧ z820 ≤ 128) : 0 ≤ z820 ∧ z820 ≤ 0 := by omega
theorem vc_X3_readAttribute_21 {z820 : Int} (h0 : ¬ z820 = 0) (h1 : 0 ≤ z820 ∧ z820 ≤ 128) : 1 ≤ z820 ∧ z820 ≤ 128 := by omega
theorem vc_X3_readAttribute_22 {z718 : Int} (h0 : z718 = 4) (h1 : ¬ z718 = 1) (h2 : ¬ z718 = 2) (h3 : ¬ z718 = 3) (h4 : 0 ≤ z718 ∧ z718 ≤ 255) : 4 ≤ z718 ∧ z718 ≤ 4 := by omega
theorem vc_X3_readAttribute_25 {z715 : Int} (h0 : z715 = 128) (h1 : 0 ≤ z715 ∧ z715 ≤ 207) : 128 ≤ z715 ∧ z715 ≤ 128 := by omega
theorem vc_X3_readAttribute_28 {z718 : Int} (h0 : z718 = 5) (h1 : ¬ z718 = 1) (h2 : ¬ z718 = 2) (h3 : ¬ z718 = 3) (h4 : ¬ z718 = 4) (h5 : 0 ≤ z718 ∧ z718 ≤ 255) : 5 ≤ z718 ∧ z718 ≤ 5 := by omega
theorem vc_X3_readAttribute_34 {z718 : Int} (h0 : z718 = 6) (h1 : ¬ z718 = 1) (h2 : ¬ z718 = 2) (h3 : ¬ z718 = 3) (h4 : ¬ z718 = 4) (h5 : ¬ z718 = 5) (h6 : 0 ≤ z718 ∧ z718 ≤ 255) : 6 ≤ z718 ∧ z718 ≤ 6 := by omega
theorem vc_X3_readAttribute_40 {z718 : Int} (h0 : z718 = 7) (h1 : ¬ z718 = 1) (h2 : ¬ z718 = 2) (h3 : ¬ z718 = 3) (h4 : ¬ z718 = 4) (h5 : ¬ z718 = 5) (h6 : ¬ z718 = 6) (h7 : 0 ≤ z718 ∧ z718 ≤ 255) : 7 ≤ z718 ∧ z718 ≤ 7 := by omega
theorem vc_X3_readAttribute_46 {z718 : Int} (h0 : z718 = 8) (h1 : ¬ z718 = 1) (h2 : ¬ z718 = 2) (h3 : ¬ z718 = 3) (h4 : ¬ z718 = 4) (h5 : ¬ z718 = 5) (h6 : ¬ z718 = 6) (h7 : ¬ z718 = 7) (h8 : 0 ≤ z718 ∧ z718 ≤ 255) : 8 ≤ z718 ∧ z718 ≤ 8 := by omega
theorem vc_X3_readAttribute_49 {z715 : Int} (h0 : z715 = 192) (h1 : 0 ≤ z715 ∧ z715 ≤ 207) : 192 ≤ z715 ∧ z715 ≤ 192 := by omega
theorem vc_X3_readAttribute_52 {z718 : Int} (h0 : ¬ z718 = 1) (h1 : ¬ z718 = 2) (h2 : ¬ z718 = 3) (h3 : ¬ z718 = 4) (h4 : ¬ z718 = 5) (h5 : ¬ z718 = 6) (h6 : ¬ z718 = 7) (h7 : ¬ z718 = 8) (h8 : 0 ≤ z718 ∧ z718 ≤ 255) : z718 < 1 ∨ 8 < z718 := by omega
theorem vc_X3_readAttribute_54 {f_cc f_s z1048 z721 : Int} (h0 : f_cc ≤ f_s) (h1 : z721 = 0) (h2 : ((f_s + 1) - z721) ≤ 256) (h3 : z1048 ≤ f_cc + 1) (h4 : 0 ≤ f_cc ∧ f_cc ≤ 256) (h5 : 0 ≤ f_s ∧ f_s ≤ 256) (h6 : 0 ≤ z1048 ∧ z1048 ≤ 256) (h7 : 0 ≤ z721 ∧ z721 ≤ 0) : z1048 ≤ ((f_s + 1) - z721) := by omega
theorem vc_X3_readAttribute_59 {f_cc f_s : Int} (h0 : f_cc ≤ f_s) (h1 : 0 ≤ f_cc ∧ f_cc ≤ 256) (h2 : 0 ≤ f_s ∧ f_s ≤ 256) : f_cc ≤ f_s := by omega
set_option maxRecDepth 4000 in
set_option maxHeartbeats 4000000 in
theorem c_X3_readAttribute {l : Launch} {D : va_G} {c : Nat → ClassId} {H0 : Heap} {sa : Nat × Nat × (Nat → Int32)} {w : mW} {μ : mM} (hw : mWF w) (hT : mT w μ) {p1 : Int} (hp1 : 0 ≤ p1 ∧ p1 ≤ 998) {p2 : Int} (hp2 : 0 ≤ p2 ∧ p2 ≤ 1000) {p3 : Int} (hp3 : 0 ≤ p3 ∧ p3 ≤ 1000) {f_cc : Int} (q_f_cc : μ 76 5 = f_cc) {f_s : Int} (q_f_s : cnt μ 77 256 = f_s) (hq0 : p2 + p3 ≤ 1000) (hq1 : f_cc ≤ f_s) (hIOC : OC μ) : sC (gG l D c H0 sa) mX3_readAttribute 4 0 0 [.ref 76, iv p1, iv p2, iv p3] (mk w μ) (qV w [76005, 76006, 76007, 76008, 77999, 78999, 79999, 80999, 200005, 200006, 200007, 201999] μ (fun μ1 => ∃ o_cc o_s : Int, μ1 76 5 = o_cc ∧ cnt μ1 77 256 = o_s ∧ (o_cc ≤ o_s) ∧ True)) := by
  refine sC.of rfl (by decide) (le_t rfl) ?_
  have ht_f_cc : (0 ≤ f_cc ∧ f_cc ≤ 256) := by rw [← q_f_cc]; exact hT 76 76 (A_76 hw) 5
  have ht_f_s : 0 ≤ f_s ∧ f_s ≤ 256 := by rw [← q_f_s]; exact cnt_rng (fun i => hT 77 77 (A_77 hw) i) 256
  refine mr_lvE (lv' := [(0, .ref 76), (1, iv p1), (2, iv p2), (3, iv p3)]) rfl ?_
  refine sv_aload_n (pc := 0) dX3_readAttribute_0 rfl rfl ?_
  refine gf_X3_4 (pc := 1) dX3_readAttribute_1 wF_X3_41 (A_76 hw) hT hIOC fun b709 q710 A711 => ?_
  refine mr_iload_n (pc := 4) (z := p1) dX3_readAttribute_4 rfl rfl ?_
  refine la_1 (pc := 5) dX3_readAttribute_5 A711 hT (rIx (n := 1000) hp1 rfl) fun z712 q713 h714 => ?_
  refine mr_istore (pc := 6) (lv' := [(4, iv z712), (0, .ref 76), (1, iv p1), (2, iv p2), (3, iv p3)]) dX3_readAttribute_6 (by decide) rfl ?_
  refine mr_iload (pc := 8) (z := z712) dX3_readAttribute_8 rfl ?_
  refine mr_sipush (pc := 10) (z := 207) dX3_readAttribute_10 (by decide) ?_
  refine mr_iand (pc := 13) (x := z712) (y := 207) dX3_readAttribute_13 ?_
  refine mr_gen (P := fun z => 0 ≤ z ∧ z ≤ 207) (rAndR (rR (x := 207)) rfl) fun z715 q716 h717 => ?_
  refine mr_istore (pc := 14) (lv' := [(5, iv z715), (4, iv z712), (0, .ref 76), (1, iv p1), (2, iv p2), (3, iv p3)]) dX3_readAttribute_14 (by decide) rfl ?_
  refine sv_aload_n (pc := 16) dX3_readAttribute_16 rfl rfl ?_
  refine gk_X3_4 (pc := 17) dX3_readAttribute_17 wF_X3_41 (A_76 hw) q710 ?_
  refine mr_iload_n (pc := 20) (z := p1) dX3_readAttribute_20 rfl rfl ?_
  refine mr_iconst (pc := 21) (z := 1) dX3_readAttribute_21 ?_
  refine mr_iadd (pc := 22) (x := p1) (y := 1) dX3_readAttribute_22 ?_
  refine la_1 (pc := 23) dX3_readAttribute_23 A711 hT (rIx (n := 1000) (rAdd (e := 1) (f := 999) hp1 (rR (x := 1)) rfl) rfl) fun z718 q719 h720 => ?_
  refine mr_istore (pc := 24) (lv' := [(6, iv z718), (5, iv z715), (4, iv z712), (0, .ref 76), (1, iv p1), (2, iv p2), (3, iv p3)]) dX3_readAttribute_24 (by decide) rfl ?_
  refine sv_aload_n (pc := 26) dX3_readAttribute_26 rfl rfl ?_
  refine gf_X3_0 (pc := 27) dX3_readAttribute_27 wF_X3_11 (A_76 hw) hT ?_
  refine mr_iload (pc := 30) (z := z718) dX3_readAttribute_30 rfl ?_
  refine la_77 (pc := 32) dX3_readAttribute_32 (A_77 hw) hT (rIx (n := 256) h720 rfl) fun z721 q722 h723 => ?_
  refine mr_if_eq (pc := 33) (tgt := 43) dX3_readAttribute_33 (by decide) (r32 h723 rfl) (fun h724 => ?_) (fun h724 => ?_)
  · have h725 : 0 ≤ z721 ∧ z721 ≤ 0 := (vc_X12_ring_22 h724 h723)
    refine sv_aload_n (pc := 43) dX3_readAttribute_43 rfl rfl ?_
    refine gf_X3_0 (pc := 44) dX3_readAttribute_44 wF_X3_11 (A_76 hw) hT ?_
    refine mr_iload (pc := 47) (z := z718) dX3_readAttribute_47 rfl ?_
    refine mr_iconst (pc := 49) (z := 1) dX3_readAttribute_49 ?_
    refine ss_77 (pc := 50) dX3_readAttribute_50 (A_77 hw) hT (rIx (n := 256) h720 rfl) (rW (c := 0) (d := 1) (rR (x := 1)) rfl) fun μ726 u727 T728 => ?_
    have h729 : ((f_s + 1) - z721) ≤ 256 := by have h := (cnt_rng (fun i => T728 77 77 (A_77 hw) i) 256 : 0 ≤ cnt μ726 77 256 ∧ cnt μ726 77 256 ≤ ((256 : Nat) : Int)).2; rw [(cntU u727 (rIx (n := 256) h720 rfl) rfl q_f_s q722)] at h; exact h
    refine mr_iload (pc := 51) (z := z718) dX3_readAttribute_51 rfl ?_
    by_cases h730 : z718 = 1
    · refine mr_tableIn (pc := 53) (v := 1) (tgt := 100) dX3_readAttribute_53 h730 rfl rfl (by decide) ?_
      have h731 : 1 ≤ z718 ∧ z718 ≤ 1 := (vc_X12_wayRight_28 h730 h720)
      refine sv_aload_n (pc := 100) dX3_readAttribute_100 rfl rfl ?_
      refine mr_iload (pc := 101) (z := z715) dX3_readAttribute_101 rfl ?_
      refine mr_bipush (pc := 103) (z := 64) dX3_readAttribute_103 (by decide) ?_
      have J747 : ∀ (z740 : Int) (μ742 : mM), (mT w μ742) → (mF [200005] w μ726 μ742) → ((0 ≤ z740 ∧ z740 ≤ 1)) → (OC μ742) → sV (gG l D c H0 sa) mX3_readAttribute (sRm 4 0 0) (sZ (gG l D c H0 sa) 0 0 (qV w [76005, 76006, 76007, 76008, 77999, 78999, 79999, 80999, 200005, 200006, 200007, 201999] μ (fun μ1 => ∃ o_cc o_s : Int, μ1 76 5 = o_cc ∧ cnt μ1 77 256 = o_s ∧ (o_cc ≤ o_s) ∧ True))) 122 [(0, .ref 76), (1, iv p1)] [iv z740, .ref 76] (mk w μ742) 0 0 := by
        intro z740 μ742 T743 F744 h741 I746
        refine pf_X3_7 (pc := 122) dX3_readAttribute_122 wF_X3_82 (A_76 hw) T743 h741 fun μ748 u749 T750 => ?_
        refine sv_aload_n (pc := 125) dX3_readAttribute_125 rfl rfl ?_
        refine gk_X3_7 (pc := 126) dX3_readAttribute_126 wF_X3_82 (A_76 hw) u749.1 ?_
        refine mr_istore (pc := 129) (lv' := [(7, iv z740), (0, .ref 76), (1, iv p1)]) dX3_readAttribute_129 (by decide) rfl ?_
        refine sv_goto (pc := 131) (tgt := 246) dX3_readAttribute_131 (by decide) ?_
        refine mr_iload (pc := 246) (z := z740) dX3_readAttribute_246 rfl ?_
        refine mr_if_ne (pc := 248) (tgt := 257) dX3_readAttribute_248 (by decide) (r32 h741 rfl) (fun h757 => ?_) (fun h757 => ?_)
        · have h758 : 1 ≤ z740 ∧ z740 ≤ 1 := (vc_X12_ring_24 h757 h741)
          exact mr_vret dX3_readAttribute_257 rfl (le_t rfl) (le_t rfl) T750 (mF.up (mF.call (mF.up mF.refl (A_77 hw) u727 rfl) F744 rfl) (A_76 hw) u749 rfl) ⟨f_cc, ((f_s + 1) - z721), (u749.f (Or.inr (by decide)) (F744.f (A_76 hw) rfl (u727.f (Or.inl (mAt.ne (A_77 hw) (A_76 hw) rfl)) q_f_cc))), (cntO u749 (by decide) (cntF F744 (A_77 hw) rfl rfl (cntU u727 (rIx (n := 256) h720 rfl) rfl q_f_s q722))), (vc_X3_readAttribute_4 hq1 h724 h729 ht_f_cc ht_f_s h725), trivial⟩
        have h759 : 0 ≤ z740 ∧ z740 ≤ 0 := (vc_X12_ring_22 h757 h741)
        refine sv_aload_n (pc := 251) dX3_readAttribute_251 rfl rfl ?_
        refine mr_iconst (pc := 252) (z := 2) dX3_readAttribute_252 ?_
        refine mr_iload_n (pc := 253) (z := p1) dX3_readAttribute_253 rfl rfl ?_
        refine mr_cVV (pc := 254) (c_X3_note hw T750 (rW (c := 0) (d := 3) (rR (x := 2)) rfl) (rW (c := (-2147483648)) (d := 2147483647) hp1 rfl)) (gOk _ _ _ _ _) dX3_readAttribute_254 (tX3_note _ _ _ _ _) ⟨wV_X3_note, wL_X3_note⟩ wM_X3_92 (gCX3 _ _ _ _ _) rfl (A_76 hw) rfl ⟨le_t rfl, le_t rfl⟩ ⟨le_t rfl, le_t rfl⟩ rfl (le_t rfl) fun μ760 T761 F762 h763 => ?_
        exact mr_vret dX3_readAttribute_257 rfl (le_t rfl) (le_t rfl) T761 (mF.call (mF.up (mF.call (mF.up mF.refl (A_77 hw) u727 rfl) F744 rfl) (A_76 hw) u749 rfl) F762 rfl) ⟨f_cc, ((f_s + 1) - z721), (F762.f (A_76 hw) rfl (u749.f (Or.inr (by decide)) (F744.f (A_76 hw) rfl (u727.f (Or.inl (mAt.ne (A_77 hw) (A_76 hw) rfl)) q_f_cc)))), (cntF F762 (A_77 hw) rfl rfl (cntO u749 (by decide) (cntF F744 (A_77 hw) rfl rfl (cntU u727 (rIx (n := 256) h720 rfl) rfl q_f_s q722)))), (vc_X3_readAttribute_4 hq1 h724 h729 ht_f_cc ht_f_s h725), trivial⟩
      refine mr_icmp_ne (pc := 105) (tgt := 121) dX3_readAttribute_105 (by decide) (r32 h717 rfl) (r32 (rR (x := 64)) rfl) (fun h764 => ?_) (fun h764 => ?_)
      · refine mr_iconst (pc := 121) (z := 0) dX3_readAttribute_121 ?_
        refine mr_lvS (lv' := [(0, .ref 76), (1, iv p1)]) (List.forall_mem_cons.mpr ⟨rfl, List.forall_mem_cons.mpr ⟨rfl, fun _ h => absurd h List.not_mem_nil⟩⟩) ?_
        exact J747 0 μ726 T728 mF.refl (rW (c := 0) (d := 1) (rR (x := 0)) rfl) (OC.keep hIOC hw ((mF.up mF.refl (A_77 hw) u727 rfl) : mF [77999] w μ μ726) rfl)
      have h765 : 64 ≤ z715 ∧ z715 ≤ 64 := (vc_X3_readAttribute_6 h764 h717)
      refine sv_aload_n (pc := 108) dX3_readAttribute_108 rfl rfl ?_
      refine mr_iload_n (pc := 109) (z := p2) dX3_readAttribute_109 rfl rfl ?_
      refine mr_iload_n (pc := 110) (z := p3) dX3_readAttribute_110 rfl rfl ?_
      refine mr_cVI (pc := 111) (c_X3_readOrigin hw T728 hp2 (rW (c := (-2147483648)) (d := 2147483647) hp3 rfl) (vc_X3_readAttribute_7 hq0 hp2 hp3) (OC.keep hIOC hw ((mF.up mF.refl (A_77 hw) u727 rfl) : mF [77999] w μ μ726) rfl)) (gOk _ _ _ _ _) dX3_readAttribute_111 (tX3_readOrigin _ _ _ _ _) ⟨wV_X3_readOrigin, wL_X3_readOrigin⟩ wM_X3_111 (gCX3 _ _ _ _ _) rfl (A_76 hw) rfl ⟨le_t rfl, le_t rfl⟩ ⟨le_t rfl, le_t rfl⟩ rfl (le_t rfl) fun z770 μ766 T767 F768 h769 => ?_
      refine mr_if_eq (pc := 114) (tgt := 121) dX3_readAttribute_114 (by decide) (r32 h769.1 rfl) (fun h771 => ?_) (fun h771 => ?_)
      · have h772 : 0 ≤ z770 ∧ z770 ≤ 0 := (vc_X12_ring_22 h771 h769.1)
        refine mr_iconst (pc := 121) (z := 0) dX3_readAttribute_121 ?_
        refine mr_lvS (lv' := [(0, .ref 76), (1, iv p1)]) (List.forall_mem_cons.mpr ⟨rfl, List.forall_mem_cons.mpr ⟨rfl, fun _ h => absurd h List.not_mem_nil⟩⟩) ?_
        exact J747 0 μ766 T767 (mF.call mF.refl F768 rfl) (rW (c := 0) (d := 1) (rR (x := 0)) rfl) (OC.keep hIOC hw ((mF.call (mF.up mF.refl (A_77 hw) u727 rfl) F768 rfl) : mF [77999, 200005] w μ μ766) rfl)
      have h773 : 1 ≤ z770 ∧ z770 ≤ 1 := (vc_X12_ring_24 h771 h769.1)
      refine mr_iconst (pc := 117) (z := 1) dX3_readAttribute_117 ?_
      refine sv_goto (pc := 118) (tgt := 122) dX3_readAttribute_118 (by decide) ?_
      refine mr_lvS (lv' := [(0, .ref 76), (1, iv p1)]) (List.forall_mem_cons.mpr ⟨rfl, List.forall_mem_cons.mpr ⟨rfl, fun _ h => absurd h List.not_mem_nil⟩⟩) ?_
      exact J747 1 μ766 T767 (mF.call mF.refl F768 rfl) (rW (c := 0) (d := 1) (rR (x := 1)) rfl) (OC.keep hIOC hw ((mF.call (mF.up mF.refl (A_77 hw) u727 rfl) F768 rfl) : mF [77999, 200005] w μ μ766) rfl)
    by_cases h774 : z718 = 2
    · refine mr_tableIn (pc := 53) (v := 2) (tgt := 134) dX3_readAttribute_53 h774 rfl rfl (by decide) ?_
      have h775 : 2 ≤ z718 ∧ z718 ≤ 2 := (vc_X3_readAttribute_10 h774 h730 h720)
      refine sv_aload_n (pc := 134) dX3_readAttribute_134 rfl rfl ?_
      refine mr_iload (pc := 135) (z := z715) dX3_readAttribute_135 rfl ?_
      refine mr_bipush (pc := 137) (z := 64) dX3_readAttribute_137 (by decide) ?_
      have J791 : ∀ (z784 : Int) (μ786 : mM), (mT w μ786) → (mF [200007, 201999] w μ726 μ786) → ((0 ≤ z784 ∧ z784 ≤ 1)) → (OC μ786) → sV (gG l D c H0 sa) mX3_readAttribute (sRm 4 0 0) (sZ (gG l D c H0 sa) 0 0 (qV w [76005, 76006, 76007, 76008, 77999, 78999, 79999, 80999, 200005, 200006, 200007, 201999] μ (fun μ1 => ∃ o_cc o_s : Int, μ1 76 5 = o_cc ∧ cnt μ1 77 256 = o_s ∧ (o_cc ≤ o_s) ∧ True))) 156 [(0, .ref 76), (1, iv p1)] [iv z784, .ref 76] (mk w μ786) 0 0 := by
        intro z784 μ786 T787 F788 h785 I790
        refine pf_X3_8 (pc := 156) dX3_readAttribute_156 wF_X3_85 (A_76 hw) T787 h785 fun μ792 u793 T794 => ?_
        refine sv_aload_n (pc := 159) dX3_readAttribute_159 rfl rfl ?_
        refine gk_X3_8 (pc := 160) dX3_readAttribute_160 wF_X3_85 (A_76 hw) u793.1 ?_
        refine mr_istore (pc := 163) (lv' := [(7, iv z784), (0, .ref 76), (1, iv p1)]) dX3_readAttribute_163 (by decide) rfl ?_
        refine sv_goto (pc := 165) (tgt := 246) dX3_readAttribute_165 (by decide) ?_
        refine mr_iload (pc := 246) (z := z784) dX3_readAttribute_246 rfl ?_
        refine mr_if_ne (pc := 248) (tgt := 257) dX3_readAttribute_248 (by decide) (r32 h785 rfl) (fun h801 => ?_) (fun h801 => ?_)
        · have h802 : 1 ≤ z784 ∧ z784 ≤ 1 := (vc_X12_ring_24 h801 h785)
          exact mr_vret dX3_readAttribute_257 rfl (le_t rfl) (le_t rfl) T794 (mF.up (mF.call (mF.up mF.refl (A_77 hw) u727 rfl) F788 rfl) (A_76 hw) u793 rfl) ⟨f_cc, ((f_s + 1) - z721), (u793.f (Or.inr (by decide)) (F788.f (A_76 hw) rfl (u727.f (Or.inl (mAt.ne (A_77 hw) (A_76 hw) rfl)) q_f_cc))), (cntO u793 (by decide) (cntF F788 (A_77 hw) rfl rfl (cntU u727 (rIx (n := 256) h720 rfl) rfl q_f_s q722))), (vc_X3_readAttribute_4 hq1 h724 h729 ht_f_cc ht_f_s h725), trivial⟩
        have h803 : 0 ≤ z784 ∧ z784 ≤ 0 := (vc_X12_ring_22 h801 h785)
        refine sv_aload_n (pc := 251) dX3_readAttribute_251 rfl rfl ?_
        refine mr_iconst (pc := 252) (z := 2) dX3_readAttribute_252 ?_
        refine mr_iload_n (pc := 253) (z := p1) dX3_readAttribute_253 rfl rfl ?_
        refine mr_cVV (pc := 254) (c_X3_note hw T794 (rW (c := 0) (d := 3) (rR (x := 2)) rfl) (rW (c := (-2147483648)) (d := 2147483647) hp1 rfl)) (gOk _ _ _ _ _) dX3_readAttribute_254 (tX3_note _ _ _ _ _) ⟨wV_X3_note, wL_X3_note⟩ wM_X3_92 (gCX3 _ _ _ _ _) rfl (A_76 hw) rfl ⟨le_t rfl, le_t rfl⟩ ⟨le_t rfl, le_t rfl⟩ rfl (le_t rfl) fun μ804 T805 F806 h807 => ?_
        exact mr_vret dX3_readAttribute_257 rfl (le_t rfl) (le_t rfl) T805 (mF.call (mF.up (mF.call (mF.up mF.refl (A_77 hw) u727 rfl) F788 rfl) (A_76 hw) u793 rfl) F806 rfl) ⟨f_cc, ((f_s + 1) - z721), (F806.f (A_76 hw) rfl (u793.f (Or.inr (by decide)) (F788.f (A_76 hw) rfl (u727.f (Or.inl (mAt.ne (A_77 hw) (A_76 hw) rfl)) q_f_cc)))), (cntF F806 (A_77 hw) rfl rfl (cntO u793 (by decide) (cntF F788 (A_77 hw) rfl rfl (cntU u727 (rIx (n := 256) h720 rfl) rfl q_f_s q722)))), (vc_X3_readAttribute_4 hq1 h724 h729 ht_f_cc ht_f_s h725), trivial⟩
      refine mr_icmp_ne (pc := 139) (tgt := 155) dX3_readAttribute_139 (by decide) (r32 h717 rfl) (r32 (rR (x := 64)) rfl) (fun h808 => ?_) (fun h808 => ?_)
      · refine mr_iconst (pc := 155) (z := 0) dX3_readAttribute_155 ?_
        refine mr_lvS (lv' := [(0, .ref 76), (1, iv p1)]) (List.forall_mem_cons.mpr ⟨rfl, List.forall_mem_cons.mpr ⟨rfl, fun _ h => absurd h List.not_mem_nil⟩⟩) ?_
        exact J791 0 μ726 T728 mF.refl (rW (c := 0) (d := 1) (rR (x := 0)) rfl) (OC.keep hIOC hw ((mF.up mF.refl (A_77 hw) u727 rfl) : mF [77999] w μ μ726) rfl)
      have h809 : 64 ≤ z715 ∧ z715 ≤ 64 := (vc_X3_readAttribute_6 h808 h717)
      refine sv_aload_n (pc := 142) dX3_readAttribute_142 rfl rfl ?_
      refine mr_iload_n (pc := 143) (z := p2) dX3_readAttribute_143 rfl rfl ?_
      refine mr_iload_n (pc := 144) (z := p3) dX3_readAttribute_144 rfl rfl ?_
      refine mr_cVI (pc := 145) (c_X3_readWay hw T728 hp2 hp3 (vc_X3_readAttribute_7 hq0 hp2 hp3) (OC.keep hIOC hw ((mF.up mF.refl (A_77 hw) u727 rfl) : mF [77999] w μ μ726) rfl)) (gOk _ _ _ _ _) dX3_readAttribute_145 (tX3_readWay _ _ _ _ _) ⟨wV_X3_readWay, wL_X3_readWay⟩ wM_X3_115 (gCX3 _ _ _ _ _) rfl (A_76 hw) rfl ⟨le_t rfl, le_t rfl⟩ ⟨le_t rfl, le_t rfl⟩ rfl (le_t rfl) fun z814 μ810 T811 F812 h813 => ?_
      refine mr_if_eq (pc := 148) (tgt := 155) dX3_readAttribute_148 (by decide) (r32 h813.1 rfl) (fun h815 => ?_) (fun h815 => ?_)
      · have h816 : 0 ≤ z814 ∧ z814 ≤ 0 := (vc_X12_ring_22 h815 h813.1)
        refine mr_iconst (pc := 155) (z := 0) dX3_readAttribute_155 ?_
        refine mr_lvS (lv' := [(0, .ref 76), (1, iv p1)]) (List.forall_mem_cons.mpr ⟨rfl, List.forall_mem_cons.mpr ⟨rfl, fun _ h => absurd h List.not_mem_nil⟩⟩) ?_
        exact J791 0 μ810 T811 (mF.call mF.refl F812 rfl) (rW (c := 0) (d := 1) (rR (x := 0)) rfl) (OC.keep hIOC hw ((mF.call (mF.up mF.refl (A_77 hw) u727 rfl) F812 rfl) : mF [77999, 200007, 201999] w μ μ810) rfl)
      have h817 : 1 ≤ z814 ∧ z814 ≤ 1 := (vc_X12_ring_24 h815 h813.1)
      refine mr_iconst (pc := 151) (z := 1) dX3_readAttribute_151 ?_
      refine sv_goto (pc := 152) (tgt := 156) dX3_readAttribute_152 (by decide) ?_
      refine mr_lvS (lv' := [(0, .ref 76), (1, iv p1)]) (List.forall_mem_cons.mpr ⟨rfl, List.forall_mem_cons.mpr ⟨rfl, fun _ h => absurd h List.not_mem_nil⟩⟩) ?_
      exact J791 1 μ810 T811 (mF.call mF.refl F812 rfl) (rW (c := 0) (d := 1) (rR (x := 1)) rfl) (OC.keep hIOC hw ((mF.call (mF.up mF.refl (A_77 hw) u727 rfl) F812 rfl) : mF [77999, 200007, 201999] w μ μ810) rfl)
    by_cases h818 : z718 = 3
    · refine mr_tableIn (pc := 53) (v := 3) (tgt := 222) dX3_readAttribute_53 h818 rfl rfl (by decide) ?_
      have h819 : 3 ≤ z718 ∧ z718 ≤ 3 := (vc_X3_readAttribute_15 h818 h730 h774 h720)
      refine mr_iload (pc := 222) (z := z712) dX3_readAttribute_222 rfl ?_
      refine mr_sipush (pc := 224) (z := 128) dX3_readAttribute_224 (by decide) ?_
      refine mr_iand (pc := 227) (x := z712) (y := 128) dX3_readAttribute_227 ?_
      refine mr_gen (P := fun z => 0 ≤ z ∧ z ≤ 128) (rAndR (rR (x := 128)) rfl) fun z820 q821 h822 => ?_
      have J827 : ∀ (z825 : Int), ((0 ≤ z825 ∧ z825 ≤ 1)) → sV (gG l D c H0 sa) mX3_readAttribute (sRm 4 0 0) (sZ (gG l D c H0 sa) 0 0 (qV w [76005, 76006, 76007, 76008, 77999, 78999, 79999, 80999, 200005, 200006, 200007, 201999] μ (fun μ1 => ∃ o_cc o_s : Int, μ1 76 5 = o_cc ∧ cnt μ1 77 256 = o_s ∧ (o_cc ≤ o_s) ∧ True))) 236 [(0, .ref 76), (1, iv p1), (4, iv z712), (6, iv z718)] [iv z825] (mk w μ726) 0 0 := by
        intro z825 h826
        refine mr_istore (pc := 236) (lv' := [(7, iv z825), (0, .ref 76), (1, iv p1), (4, iv z712), (6, iv z718)]) dX3_readAttribute_236 (by decide) rfl ?_
        refine sv_aload_n (pc := 238) dX3_readAttribute_238 rfl rfl ?_
        refine mr_iload (pc := 239) (z := z712) dX3_readAttribute_239 rfl ?_
        refine mr_iload (pc := 241) (z := z718) dX3_readAttribute_241 rfl ?_
        refine mr_cVV (pc := 243) (c_X3_carry hw T728 (rW (c := (-2147483648)) (d := 2147483647) h714 rfl) (rW (c := (-2147483648)) (d := 2147483647) h819 rfl) (u727.f (Or.inl (mAt.ne (A_77 hw) (A_76 hw) rfl)) q_f_cc) (vc_X3_readAttribute_16 hq1 h729 ht_f_cc ht_f_s h725)) (gOk _ _ _ _ _) dX3_readAttribute_243 (tX3_carry _ _ _ _ _) ⟨wV_X3_carry, wL_X3_carry⟩ wM_X3_124 (gCX3 _ _ _ _ _) rfl (A_76 hw) rfl ⟨le_t rfl, le_t rfl⟩ ⟨le_t rfl, le_t rfl⟩ rfl (le_t rfl) fun μ828 T829 F830 h831 => ?_
        obtain ⟨z832, q833, h834⟩ := h831
        have h835 : (0 ≤ z832 ∧ z832 ≤ 256) := by rw [← q833]; exact T829 76 76 (A_76 hw) 5
        refine mr_iload (pc := 246) (z := z825) dX3_readAttribute_246 rfl ?_
        refine mr_if_ne (pc := 248) (tgt := 257) dX3_readAttribute_248 (by decide) (r32 h826 rfl) (fun h842 => ?_) (fun h842 => ?_)
        · have h843 : 1 ≤ z825 ∧ z825 ≤ 1 := (vc_X12_ring_24 h842 h826)
          exact mr_vret dX3_readAttribute_257 rfl (le_t rfl) (le_t rfl) T829 (mF.call (mF.up mF.refl (A_77 hw) u727 rfl) F830 rfl) ⟨z832, ((f_s + 1) - z721), q833, (cntF F830 (A_77 hw) rfl rfl (cntU u727 (rIx (n := 256) h720 rfl) rfl q_f_s q722)), (vc_X3_readAttribute_18 hq1 h724 h729 h834.1 ht_f_cc ht_f_s h725 h835), trivial⟩
        have h844 : 0 ≤ z825 ∧ z825 ≤ 0 := (vc_X12_ring_22 h842 h826)
        refine sv_aload_n (pc := 251) dX3_readAttribute_251 rfl rfl ?_
        refine mr_iconst (pc := 252) (z := 2) dX3_readAttribute_252 ?_
        refine mr_iload_n (pc := 253) (z := p1) dX3_readAttribute_253 rfl rfl ?_
        refine mr_cVV (pc := 254) (c_X3_note hw T829 (rW (c := 0) (d := 3) (rR (x := 2)) rfl) (rW (c := (-2147483648)) (d := 2147483647) hp1 rfl)) (gOk _ _ _ _ _) dX3_readAttribute_254 (tX3_note _ _ _ _ _) ⟨wV_X3_note, wL_X3_note⟩ wM_X3_92 (gCX3 _ _ _ _ _) rfl (A_76 hw) rfl ⟨le_t rfl, le_t rfl⟩ ⟨le_t rfl, le_t rfl⟩ rfl (le_t rfl) fun μ845 T846 F847 h848 => ?_
        exact mr_vret dX3_readAttribute_257 rfl (le_t rfl) (le_t rfl) T846 (mF.call (mF.call (mF.up mF.refl (A_77 hw) u727 rfl) F830 rfl) F847 rfl) ⟨z832, ((f_s + 1) - z721), (F847.f (A_76 hw) rfl q833), (cntF F847 (A_77 hw) rfl rfl (cntF F830 (A_77 hw) rfl rfl (cntU u727 (rIx (n := 256) h720 rfl) rfl q_f_s q722))), (vc_X3_readAttribute_18 hq1 h724 h729 h834.1 ht_f_cc ht_f_s h725 h835), trivial⟩
      refine mr_if_eq (pc := 228) (tgt := 235) dX3_readAttribute_228 (by decide) (r32 h822 rfl) (fun h849 => ?_) (fun h849 => ?_)
      · have h850 : 0 ≤ z820 ∧ z820 ≤ 0 := (vc_X3_readAttribute_20 h849 h822)
        refine mr_iconst (pc := 235) (z := 0) dX3_readAttribute_235 ?_
        refine mr_lvS (lv' := [(0, .ref 76), (1, iv p1), (4, iv z712), (6, iv z718)]) (List.forall_mem_cons.mpr ⟨rfl, List.forall_mem_cons.mpr ⟨rfl, List.forall_mem_cons.mpr ⟨rfl, List.forall_mem_cons.mpr ⟨rfl, fun _ h => absurd h List.not_mem_nil⟩⟩⟩⟩) ?_
        exact J827 0 (rW (c := 0) (d := 1) (rR (x := 0)) rfl)
      have h851 : 1 ≤ z820 ∧ z820 ≤ 128 := (vc_X3_readAttribute_21 h849 h822)
      refine mr_iconst (pc := 231) (z := 1) dX3_readAttribute_231 ?_
      refine sv_goto (pc := 232) (tgt := 236) dX3_readAttribute_232 (by decide) ?_
      refine mr_lvS (lv' := [(0, .ref 76), (1, iv p1), (4, iv z712), (6, iv z718)]) (List.forall_mem_cons.mpr ⟨rfl, List.forall_mem_cons.mpr ⟨rfl, List.forall_mem_cons.mpr ⟨rfl, List.forall_mem_cons.mpr ⟨rfl, fun _ h => absurd h List.not_mem_nil⟩⟩⟩⟩) ?_
      exact J827 1 (rW (c := 0) (d := 1) (rR (x := 1)) rfl)
    by_cases h852 : z718 = 4
    · refine mr_tableIn (pc := 53) (v := 4) (tgt := 168) dX3_readAttribute_53 h852 rfl rfl (by decide) ?_
      have h853 : 4 ≤ z718 ∧ z718 ≤ 4 := (vc_X3_readAttribute_22 h852 h730 h774 h818 h720)
      refine mr_iload (pc := 168) (z := z715) dX3_readAttribute_168 rfl ?_
      refine mr_sipush (pc := 170) (z := 128) dX3_readAttribute_170 (by decide) ?_
      have J869 : ∀ (z862 : Int) (μ864 : mM), (mT w μ864) → (mF [200006] w μ726 μ864) → ((0 ≤ z862 ∧ z862 ≤ 1)) → (OC μ864) → sV (gG l D c H0 sa) mX3_readAttribute (sRm 4 0 0) (sZ (gG l D c H0 sa) 0 0 (qV w [76005, 76006, 76007, 76008, 77999, 78999, 79999, 80999, 200005, 200006, 200007, 201999] μ (fun μ1 => ∃ o_cc o_s : Int, μ1 76 5 = o_cc ∧ cnt μ1 77 256 = o_s ∧ (o_cc ≤ o_s) ∧ True))) 190 [(0, .ref 76), (1, iv p1)] [iv z862] (mk w μ864) 0 0 := by
        intro z862 μ864 T865 F866 h863 I868
        refine mr_istore (pc := 190) (lv' := [(7, iv z862), (0, .ref 76), (1, iv p1)]) dX3_readAttribute_190 (by decide) rfl ?_
        refine sv_goto (pc := 192) (tgt := 246) dX3_readAttribute_192 (by decide) ?_
        refine mr_iload (pc := 246) (z := z862) dX3_readAttribute_246 rfl ?_
        refine mr_if_ne (pc := 248) (tgt := 257) dX3_readAttribute_248 (by decide) (r32 h863 rfl) (fun h876 => ?_) (fun h876 => ?_)
        · have h877 : 1 ≤ z862 ∧ z862 ≤ 1 := (vc_X12_ring_24 h876 h863)
          exact mr_vret dX3_readAttribute_257 rfl (le_t rfl) (le_t rfl) T865 (mF.call (mF.up mF.refl (A_77 hw) u727 rfl) F866 rfl) ⟨f_cc, ((f_s + 1) - z721), (F866.f (A_76 hw) rfl (u727.f (Or.inl (mAt.ne (A_77 hw) (A_76 hw) rfl)) q_f_cc)), (cntF F866 (A_77 hw) rfl rfl (cntU u727 (rIx (n := 256) h720 rfl) rfl q_f_s q722)), (vc_X3_readAttribute_4 hq1 h724 h729 ht_f_cc ht_f_s h725), trivial⟩
        have h878 : 0 ≤ z862 ∧ z862 ≤ 0 := (vc_X12_ring_22 h876 h863)
        refine sv_aload_n (pc := 251) dX3_readAttribute_251 rfl rfl ?_
        refine mr_iconst (pc := 252) (z := 2) dX3_readAttribute_252 ?_
        refine mr_iload_n (pc := 253) (z := p1) dX3_readAttribute_253 rfl rfl ?_
        refine mr_cVV (pc := 254) (c_X3_note hw T865 (rW (c := 0) (d := 3) (rR (x := 2)) rfl) (rW (c := (-2147483648)) (d := 2147483647) hp1 rfl)) (gOk _ _ _ _ _) dX3_readAttribute_254 (tX3_note _ _ _ _ _) ⟨wV_X3_note, wL_X3_note⟩ wM_X3_92 (gCX3 _ _ _ _ _) rfl (A_76 hw) rfl ⟨le_t rfl, le_t rfl⟩ ⟨le_t rfl, le_t rfl⟩ rfl (le_t rfl) fun μ879 T880 F881 h882 => ?_
        exact mr_vret dX3_readAttribute_257 rfl (le_t rfl) (le_t rfl) T880 (mF.call (mF.call (mF.up mF.refl (A_77 hw) u727 rfl) F866 rfl) F881 rfl) ⟨f_cc, ((f_s + 1) - z721), (F881.f (A_76 hw) rfl (F866.f (A_76 hw) rfl (u727.f (Or.inl (mAt.ne (A_77 hw) (A_76 hw) rfl)) q_f_cc))), (cntF F881 (A_77 hw) rfl rfl (cntF F866 (A_77 hw) rfl rfl (cntU u727 (rIx (n := 256) h720 rfl) rfl q_f_s q722))), (vc_X3_readAttribute_4 hq1 h724 h729 ht_f_cc ht_f_s h725), trivial⟩
      refine mr_icmp_ne (pc := 173) (tgt := 189) dX3_readAttribute_173 (by decide) (r32 h717 rfl) (r32 (rR (x := 128)) rfl) (fun h883 => ?_) (fun h883 => ?_)
      · refine mr_iconst (pc := 189) (z := 0) dX3_readAttribute_189 ?_
        refine mr_lvS (lv' := [(0, .ref 76), (1, iv p1)]) (List.forall_mem_cons.mpr ⟨rfl, List.forall_mem_cons.mpr ⟨rfl, fun _ h => absurd h List.not_mem_nil⟩⟩) ?_
        exact J869 0 μ726 T728 mF.refl (rW (c := 0) (d := 1) (rR (x := 0)) rfl) (OC.keep hIOC hw ((mF.up mF.refl (A_77 hw) u727 rfl) : mF [77999] w μ μ726) rfl)
      have h884 : 128 ≤ z715 ∧ z715 ≤ 128 := (vc_X3_readAttribute_25 h883 h717)
      refine sv_aload_n (pc := 176) dX3_readAttribute_176 rfl rfl ?_
      refine mr_iload_n (pc := 177) (z := p2) dX3_readAttribute_177 rfl rfl ?_
      refine mr_iload_n (pc := 178) (z := p3) dX3_readAttribute_178 rfl rfl ?_
      refine mr_cVI (pc := 179) (c_X3_readCost hw T728 hp2 (rW (c := (-2147483648)) (d := 2147483647) hp3 rfl) (vc_X3_readAttribute_7 hq0 hp2 hp3) (OC.keep hIOC hw ((mF.up mF.refl (A_77 hw) u727 rfl) : mF [77999] w μ μ726) rfl)) (gOk _ _ _ _ _) dX3_readAttribute_179 (tX3_readCost _ _ _ _ _) ⟨wV_X3_readCost, wL_X3_readCost⟩ wM_X3_118 (gCX3 _ _ _ _ _) rfl (A_76 hw) rfl ⟨le_t rfl, le_t rfl⟩ ⟨le_t rfl, le_t rfl⟩ rfl (le_t rfl) fun z889 μ885 T886 F887 h888 => ?_
      refine mr_if_eq (pc := 182) (tgt := 189) dX3_readAttribute_182 (by decide) (r32 h888.1 rfl) (fun h890 => ?_) (fun h890 => ?_)
      · have h891 : 0 ≤ z889 ∧ z889 ≤ 0 := (vc_X12_ring_22 h890 h888.1)
        refine mr_iconst (pc := 189) (z := 0) dX3_readAttribute_189 ?_
        refine mr_lvS (lv' := [(0, .ref 76), (1, iv p1)]) (List.forall_mem_cons.mpr ⟨rfl, List.forall_mem_cons.mpr ⟨rfl, fun _ h => absurd h List.not_mem_nil⟩⟩) ?_
        exact J869 0 μ885 T886 (mF.call mF.refl F887 rfl) (rW (c := 0) (d := 1) (rR (x := 0)) rfl) (OC.keep hIOC hw ((mF.call (mF.up mF.refl (A_77 hw) u727 rfl) F887 rfl) : mF [77999, 200006] w μ μ885) rfl)
      have h892 : 1 ≤ z889 ∧ z889 ≤ 1 := (vc_X12_ring_24 h890 h888.1)
      refine mr_iconst (pc := 185) (z := 1) dX3_readAttribute_185 ?_
      refine sv_goto (pc := 186) (tgt := 190) dX3_readAttribute_186 (by decide) ?_
      refine mr_lvS (lv' := [(0, .ref 76), (1, iv p1)]) (List.forall_mem_cons.mpr ⟨rfl, List.forall_mem_cons.mpr ⟨rfl, fun _ h => absurd h List.not_mem_nil⟩⟩) ?_
      exact J869 1 μ885 T886 (mF.call mF.refl F887 rfl) (rW (c := 0) (d := 1) (rR (x := 1)) rfl) (OC.keep hIOC hw ((mF.call (mF.up mF.refl (A_77 hw) u727 rfl) F887 rfl) : mF [77999, 200006] w μ μ885) rfl)
    by_cases h893 : z718 = 5
    · refine mr_tableIn (pc := 53) (v := 5) (tgt := 222) dX3_readAttribute_53 h893 rfl rfl (by decide) ?_
      have h894 : 5 ≤ z718 ∧ z718 ≤ 5 := (vc_X3_readAttribute_28 h893 h730 h774 h818 h852 h720)
      refine mr_iload (pc := 222) (z := z712) dX3_readAttribute_222 rfl ?_
      refine mr_sipush (pc := 224) (z := 128) dX3_readAttribute_224 (by decide) ?_
      refine mr_iand (pc := 227) (x := z712) (y := 128) dX3_readAttribute_227 ?_
      refine mr_gen (P := fun z => 0 ≤ z ∧ z ≤ 128) (rAndR (rR (x := 128)) rfl) fun z895 q896 h897 => ?_
      have J902 : ∀ (z900 : Int), ((0 ≤ z900 ∧ z900 ≤ 1)) → sV (gG l D c H0 sa) mX3_readAttribute (sRm 4 0 0) (sZ (gG l D c H0 sa) 0 0 (qV w [76005, 76006, 76007, 76008, 77999, 78999, 79999, 80999, 200005, 200006, 200007, 201999] μ (fun μ1 => ∃ o_cc o_s : Int, μ1 76 5 = o_cc ∧ cnt μ1 77 256 = o_s ∧ (o_cc ≤ o_s) ∧ True))) 236 [(0, .ref 76), (1, iv p1), (4, iv z712), (6, iv z718)] [iv z900] (mk w μ726) 0 0 := by
        intro z900 h901
        refine mr_istore (pc := 236) (lv' := [(7, iv z900), (0, .ref 76), (1, iv p1), (4, iv z712), (6, iv z718)]) dX3_readAttribute_236 (by decide) rfl ?_
        refine sv_aload_n (pc := 238) dX3_readAttribute_238 rfl rfl ?_
        refine mr_iload (pc := 239) (z := z712) dX3_readAttribute_239 rfl ?_
        refine mr_iload (pc := 241) (z := z718) dX3_readAttribute_241 rfl ?_
        refine mr_cVV (pc := 243) (c_X3_carry hw T728 (rW (c := (-2147483648)) (d := 2147483647) h714 rfl) (rW (c := (-2147483648)) (d := 2147483647) h894 rfl) (u727.f (Or.inl (mAt.ne (A_77 hw) (A_76 hw) rfl)) q_f_cc) (vc_X3_readAttribute_16 hq1 h729 ht_f_cc ht_f_s h725)) (gOk _ _ _ _ _) dX3_readAttribute_243 (tX3_carry _ _ _ _ _) ⟨wV_X3_carry, wL_X3_carry⟩ wM_X3_124 (gCX3 _ _ _ _ _) rfl (A_76 hw) rfl ⟨le_t rfl, le_t rfl⟩ ⟨le_t rfl, le_t rfl⟩ rfl (le_t rfl) fun μ903 T904 F905 h906 => ?_
        obtain ⟨z907, q908, h909⟩ := h906
        have h910 : (0 ≤ z907 ∧ z907 ≤ 256) := by rw [← q908]; exact T904 76 76 (A_76 hw) 5
        refine mr_iload (pc := 246) (z := z900) dX3_readAttribute_246 rfl ?_
        refine mr_if_ne (pc := 248) (tgt := 257) dX3_readAttribute_248 (by decide) (r32 h901 rfl) (fun h917 => ?_) (fun h917 => ?_)
        · have h918 : 1 ≤ z900 ∧ z900 ≤ 1 := (vc_X12_ring_24 h917 h901)
          exact mr_vret dX3_readAttribute_257 rfl (le_t rfl) (le_t rfl) T904 (mF.call (mF.up mF.refl (A_77 hw) u727 rfl) F905 rfl) ⟨z907, ((f_s + 1) - z721), q908, (cntF F905 (A_77 hw) rfl rfl (cntU u727 (rIx (n := 256) h720 rfl) rfl q_f_s q722)), (vc_X3_readAttribute_18 hq1 h724 h729 h909.1 ht_f_cc ht_f_s h725 h910), trivial⟩
        have h919 : 0 ≤ z900 ∧ z900 ≤ 0 := (vc_X12_ring_22 h917 h901)
        refine sv_aload_n (pc := 251) dX3_readAttribute_251 rfl rfl ?_
        refine mr_iconst (pc := 252) (z := 2) dX3_readAttribute_252 ?_
        refine mr_iload_n (pc := 253) (z := p1) dX3_readAttribute_253 rfl rfl ?_
        refine mr_cVV (pc := 254) (c_X3_note hw T904 (rW (c := 0) (d := 3) (rR (x := 2)) rfl) (rW (c := (-2147483648)) (d := 2147483647) hp1 rfl)) (gOk _ _ _ _ _) dX3_readAttribute_254 (tX3_note _ _ _ _ _) ⟨wV_X3_note, wL_X3_note⟩ wM_X3_92 (gCX3 _ _ _ _ _) rfl (A_76 hw) rfl ⟨le_t rfl, le_t rfl⟩ ⟨le_t rfl, le_t rfl⟩ rfl (le_t rfl) fun μ920 T921 F922 h923 => ?_
        exact mr_vret dX3_readAttribute_257 rfl (le_t rfl) (le_t rfl) T921 (mF.call (mF.call (mF.up mF.refl (A_77 hw) u727 rfl) F905 rfl) F922 rfl) ⟨z907, ((f_s + 1) - z721), (F922.f (A_76 hw) rfl q908), (cntF F922 (A_77 hw) rfl rfl (cntF F905 (A_77 hw) rfl rfl (cntU u727 (rIx (n := 256) h720 rfl) rfl q_f_s q722))), (vc_X3_readAttribute_18 hq1 h724 h729 h909.1 ht_f_cc ht_f_s h725 h910), trivial⟩
      refine mr_if_eq (pc := 228) (tgt := 235) dX3_readAttribute_228 (by decide) (r32 h897 rfl) (fun h924 => ?_) (fun h924 => ?_)
      · have h925 : 0 ≤ z895 ∧ z895 ≤ 0 := (vc_X3_readAttribute_20 h924 h897)
        refine mr_iconst (pc := 235) (z := 0) dX3_readAttribute_235 ?_
        refine mr_lvS (lv' := [(0, .ref 76), (1, iv p1), (4, iv z712), (6, iv z718)]) (List.forall_mem_cons.mpr ⟨rfl, List.forall_mem_cons.mpr ⟨rfl, List.forall_mem_cons.mpr ⟨rfl, List.forall_mem_cons.mpr ⟨rfl, fun _ h => absurd h List.not_mem_nil⟩⟩⟩⟩) ?_
        exact J902 0 (rW (c := 0) (d := 1) (rR (x := 0)) rfl)
      have h926 : 1 ≤ z895 ∧ z895 ≤ 128 := (vc_X3_readAttribute_21 h924 h897)
      refine mr_iconst (pc := 231) (z := 1) dX3_readAttribute_231 ?_
      refine sv_goto (pc := 232) (tgt := 236) dX3_readAttribute_232 (by decide) ?_
      refine mr_lvS (lv' := [(0, .ref 76), (1, iv p1), (4, iv z712), (6, iv z718)]) (List.forall_mem_cons.mpr ⟨rfl, List.forall_mem_cons.mpr ⟨rfl, List.forall_mem_cons.mpr ⟨rfl, List.forall_mem_cons.mpr ⟨rfl, fun _ h => absurd h List.not_mem_nil⟩⟩⟩⟩) ?_
      exact J902 1 (rW (c := 0) (d := 1) (rR (x := 1)) rfl)
    by_cases h927 : z718 = 6
    · refine mr_tableIn (pc := 53) (v := 6) (tgt := 222) dX3_readAttribute_53 h927 rfl rfl (by decide) ?_
      have h928 : 6 ≤ z718 ∧ z718 ≤ 6 := (vc_X3_readAttribute_34 h927 h730 h774 h818 h852 h893 h720)
      refine mr_iload (pc := 222) (z := z712) dX3_readAttribute_222 rfl ?_
      refine mr_sipush (pc := 224) (z := 128) dX3_readAttribute_224 (by decide) ?_
      refine mr_iand (pc := 227) (x := z712) (y := 128) dX3_readAttribute_227 ?_
      refine mr_gen (P := fun z => 0 ≤ z ∧ z ≤ 128) (rAndR (rR (x := 128)) rfl) fun z929 q930 h931 => ?_
      have J936 : ∀ (z934 : Int), ((0 ≤ z934 ∧ z934 ≤ 1)) → sV (gG l D c H0 sa) mX3_readAttribute (sRm 4 0 0) (sZ (gG l D c H0 sa) 0 0 (qV w [76005, 76006, 76007, 76008, 77999, 78999, 79999, 80999, 200005, 200006, 200007, 201999] μ (fun μ1 => ∃ o_cc o_s : Int, μ1 76 5 = o_cc ∧ cnt μ1 77 256 = o_s ∧ (o_cc ≤ o_s) ∧ True))) 236 [(0, .ref 76), (1, iv p1), (4, iv z712), (6, iv z718)] [iv z934] (mk w μ726) 0 0 := by
        intro z934 h935
        refine mr_istore (pc := 236) (lv' := [(7, iv z934), (0, .ref 76), (1, iv p1), (4, iv z712), (6, iv z718)]) dX3_readAttribute_236 (by decide) rfl ?_
        refine sv_aload_n (pc := 238) dX3_readAttribute_238 rfl rfl ?_
        refine mr_iload (pc := 239) (z := z712) dX3_readAttribute_239 rfl ?_
        refine mr_iload (pc := 241) (z := z718) dX3_readAttribute_241 rfl ?_
        refine mr_cVV (pc := 243) (c_X3_carry hw T728 (rW (c := (-2147483648)) (d := 2147483647) h714 rfl) (rW (c := (-2147483648)) (d := 2147483647) h928 rfl) (u727.f (Or.inl (mAt.ne (A_77 hw) (A_76 hw) rfl)) q_f_cc) (vc_X3_readAttribute_16 hq1 h729 ht_f_cc ht_f_s h725)) (gOk _ _ _ _ _) dX3_readAttribute_243 (tX3_carry _ _ _ _ _) ⟨wV_X3_carry, wL_X3_carry⟩ wM_X3_124 (gCX3 _ _ _ _ _) rfl (A_76 hw) rfl ⟨le_t rfl, le_t rfl⟩ ⟨le_t rfl, le_t rfl⟩ rfl (le_t rfl) fun μ937 T938 F939 h940 => ?_
        obtain ⟨z941, q942, h943⟩ := h940
        have h944 : (0 ≤ z941 ∧ z941 ≤ 256) := by rw [← q942]; exact T938 76 76 (A_76 hw) 5
        refine mr_iload (pc := 246) (z := z934) dX3_readAttribute_246 rfl ?_
        refine mr_if_ne (pc := 248) (tgt := 257) dX3_readAttribute_248 (by decide) (r32 h935 rfl) (fun h951 => ?_) (fun h951 => ?_)
        · have h952 : 1 ≤ z934 ∧ z934 ≤ 1 := (vc_X12_ring_24 h951 h935)
          exact mr_vret dX3_readAttribute_257 rfl (le_t rfl) (le_t rfl) T938 (mF.call (mF.up mF.refl (A_77 hw) u727 rfl) F939 rfl) ⟨z941, ((f_s + 1) - z721), q942, (cntF F939 (A_77 hw) rfl rfl (cntU u727 (rIx (n := 256) h720 rfl) rfl q_f_s q722)), (vc_X3_readAttribute_18 hq1 h724 h729 h943.1 ht_f_cc ht_f_s h725 h944), trivial⟩
        have h953 : 0 ≤ z934 ∧ z934 ≤ 0 := (vc_X12_ring_22 h951 h935)
        refine sv_aload_n (pc := 251) dX3_readAttribute_251 rfl rfl ?_
        refine mr_iconst (pc := 252) (z := 2) dX3_readAttribute_252 ?_
        refine mr_iload_n (pc := 253) (z := p1) dX3_readAttribute_253 rfl rfl ?_
        refine mr_cVV (pc := 254) (c_X3_note hw T938 (rW (c := 0) (d := 3) (rR (x := 2)) rfl) (rW (c := (-2147483648)) (d := 2147483647) hp1 rfl)) (gOk _ _ _ _ _) dX3_readAttribute_254 (tX3_note _ _ _ _ _) ⟨wV_X3_note, wL_X3_note⟩ wM_X3_92 (gCX3 _ _ _ _ _) rfl (A_76 hw) rfl ⟨le_t rfl, le_t rfl⟩ ⟨le_t rfl, le_t rfl⟩ rfl (le_t rfl) fun μ954 T955 F956 h957 => ?_
        exact mr_vret dX3_readAttribute_257 rfl (le_t rfl) (le_t rfl) T955 (mF.call (mF.call (mF.up mF.refl (A_77 hw) u727 rfl) F939 rfl) F956 rfl) ⟨z941, ((f_s + 1) - z721), (F956.f (A_76 hw) rfl q942), (cntF F956 (A_77 hw) rfl rfl (cntF F939 (A_77 hw) rfl rfl (cntU u727 (rIx (n := 256) h720 rfl) rfl q_f_s q722))), (vc_X3_readAttribute_18 hq1 h724 h729 h943.1 ht_f_cc ht_f_s h725 h944), trivial⟩
      refine mr_if_eq (pc := 228) (tgt := 235) dX3_readAttribute_228 (by decide) (r32 h931 rfl) (fun h958 => ?_) (fun h958 => ?_)
      · have h959 : 0 ≤ z929 ∧ z929 ≤ 0 := (vc_X3_readAttribute_20 h958 h931)
        refine mr_iconst (pc := 235) (z := 0) dX3_readAttribute_235 ?_
        refine mr_lvS (lv' := [(0, .ref 76), (1, iv p1), (4, iv z712), (6, iv z718)]) (List.forall_mem_cons.mpr ⟨rfl, List.forall_mem_cons.mpr ⟨rfl, List.forall_mem_cons.mpr ⟨rfl, List.forall_mem_cons.mpr ⟨rfl, fun _ h => absurd h List.not_mem_nil⟩⟩⟩⟩) ?_
        exact J936 0 (rW (c := 0) (d := 1) (rR (x := 0)) rfl)
      have h960 : 1 ≤ z929 ∧ z929 ≤ 128 := (vc_X3_readAttribute_21 h958 h931)
      refine mr_iconst (pc := 231) (z := 1) dX3_readAttribute_231 ?_
      refine sv_goto (pc := 232) (tgt := 236) dX3_readAttribute_232 (by decide) ?_
      refine mr_lvS (lv' := [(0, .ref 76), (1, iv p1), (4, iv z712), (6, iv z718)]) (List.forall_mem_cons.mpr ⟨rfl, List.forall_mem_cons.mpr ⟨rfl, List.forall_mem_cons.mpr ⟨rfl, List.forall_mem_cons.mpr ⟨rfl, fun _ h => absurd h List.not_mem_nil⟩⟩⟩⟩) ?_
      exact J936 1 (rW (c := 0) (d := 1) (rR (x := 1)) rfl)
    by_cases h961 : z718 = 7
    · refine mr_tableIn (pc := 53) (v := 7) (tgt := 222) dX3_readAttribute_53 h961 rfl rfl (by decide) ?_
      have h962 : 7 ≤ z718 ∧ z718 ≤ 7 := (vc_X3_readAttribute_40 h961 h730 h774 h818 h852 h893 h927 h720)
      refine mr_iload (pc := 222) (z := z712) dX3_readAttribute_222 rfl ?_
      refine mr_sipush (pc := 224) (z := 128) dX3_readAttribute_224 (by decide) ?_
      refine mr_iand (pc := 227) (x := z712) (y := 128) dX3_readAttribute_227 ?_
      refine mr_gen (P := fun z => 0 ≤ z ∧ z ≤ 128) (rAndR (rR (x := 128)) rfl) fun z963 q964 h965 => ?_
      have J970 : ∀ (z968 : Int), ((0 ≤ z968 ∧ z968 ≤ 1)) → sV (gG l D c H0 sa) mX3_readAttribute (sRm 4 0 0) (sZ (gG l D c H0 sa) 0 0 (qV w [76005, 76006, 76007, 76008, 77999, 78999, 79999, 80999, 200005, 200006, 200007, 201999] μ (fun μ1 => ∃ o_cc o_s : Int, μ1 76 5 = o_cc ∧ cnt μ1 77 256 = o_s ∧ (o_cc ≤ o_s) ∧ True))) 236 [(0, .ref 76), (1, iv p1), (4, iv z712), (6, iv z718)] [iv z968] (mk w μ726) 0 0 := by
        intro z968 h969
        refine mr_istore (pc := 236) (lv' := [(7, iv z968), (0, .ref 76), (1, iv p1), (4, iv z712), (6, iv z718)]) dX3_readAttribute_236 (by decide) rfl ?_
        refine sv_aload_n (pc := 238) dX3_readAttribute_238 rfl rfl ?_
        refine mr_iload (pc := 239) (z := z712) dX3_readAttribute_239 rfl ?_
        refine mr_iload (pc := 241) (z := z718) dX3_readAttribute_241 rfl ?_
        refine mr_cVV (pc := 243) (c_X3_carry hw T728 (rW (c := (-2147483648)) (d := 2147483647) h714 rfl) (rW (c := (-2147483648)) (d := 2147483647) h962 rfl) (u727.f (Or.inl (mAt.ne (A_77 hw) (A_76 hw) rfl)) q_f_cc) (vc_X3_readAttribute_16 hq1 h729 ht_f_cc ht_f_s h725)) (gOk _ _ _ _ _) dX3_readAttribute_243 (tX3_carry _ _ _ _ _) ⟨wV_X3_carry, wL_X3_carry⟩ wM_X3_124 (gCX3 _ _ _ _ _) rfl (A_76 hw) rfl ⟨le_t rfl, le_t rfl⟩ ⟨le_t rfl, le_t rfl⟩ rfl (le_t rfl) fun μ971 T972 F973 h974 => ?_
        obtain ⟨z975, q976, h977⟩ := h974
        have h978 : (0 ≤ z975 ∧ z975 ≤ 256) := by rw [← q976]; exact T972 76 76 (A_76 hw) 5
        refine mr_iload (pc := 246) (z := z968) dX3_readAttribute_246 rfl ?_
        refine mr_if_ne (pc := 248) (tgt := 257) dX3_readAttribute_248 (by decide) (r32 h969 rfl) (fun h985 => ?_) (fun h985 => ?_)
        · have h986 : 1 ≤ z968 ∧ z968 ≤ 1 := (vc_X12_ring_24 h985 h969)
          exact mr_vret dX3_readAttribute_257 rfl (le_t rfl) (le_t rfl) T972 (mF.call (mF.up mF.refl (A_77 hw) u727 rfl) F973 rfl) ⟨z975, ((f_s + 1) - z721), q976, (cntF F973 (A_77 hw) rfl rfl (cntU u727 (rIx (n := 256) h720 rfl) rfl q_f_s q722)), (vc_X3_readAttribute_18 hq1 h724 h729 h977.1 ht_f_cc ht_f_s h725 h978), trivial⟩
        have h987 : 0 ≤ z968 ∧ z968 ≤ 0 := (vc_X12_ring_22 h985 h969)
        refine sv_aload_n (pc := 251) dX3_readAttribute_251 rfl rfl ?_
        refine mr_iconst (pc := 252) (z := 2) dX3_readAttribute_252 ?_
        refine mr_iload_n (pc := 253) (z := p1) dX3_readAttribute_253 rfl rfl ?_
        refine mr_cVV (pc := 254) (c_X3_note hw T972 (rW (c := 0) (d := 3) (rR (x := 2)) rfl) (rW (c := (-2147483648)) (d := 2147483647) hp1 rfl)) (gOk _ _ _ _ _) dX3_readAttribute_254 (tX3_note _ _ _ _ _) ⟨wV_X3_note, wL_X3_note⟩ wM_X3_92 (gCX3 _ _ _ _ _) rfl (A_76 hw) rfl ⟨le_t rfl, le_t rfl⟩ ⟨le_t rfl, le_t rfl⟩ rfl (le_t rfl) fun μ988 T989 F990 h991 => ?_
        exact mr_vret dX3_readAttribute_257 rfl (le_t rfl) (le_t rfl) T989 (mF.call (mF.call (mF.up mF.refl (A_77 hw) u727 rfl) F973 rfl) F990 rfl) ⟨z975, ((f_s + 1) - z721), (F990.f (A_76 hw) rfl q976), (cntF F990 (A_77 hw) rfl rfl (cntF F973 (A_77 hw) rfl rfl (cntU u727 (rIx (n := 256) h720 rfl) rfl q_f_s q722))), (vc_X3_readAttribute_18 hq1 h724 h729 h977.1 ht_f_cc ht_f_s h725 h978), trivial⟩
      refine mr_if_eq (pc := 228) (tgt := 235) dX3_readAttribute_228 (by decide) (r32 h965 rfl) (fun h992 => ?_) (fun h992 => ?_)
      · have h993 : 0 ≤ z963 ∧ z963 ≤ 0 := (vc_X3_readAttribute_20 h992 h965)
        refine mr_iconst (pc := 235) (z := 0) dX3_readAttribute_235 ?_
        refine mr_lvS (lv' := [(0, .ref 76), (1, iv p1), (4, iv z712), (6, iv z718)]) (List.forall_mem_cons.mpr ⟨rfl, List.forall_mem_cons.mpr ⟨rfl, List.forall_mem_cons.mpr ⟨rfl, List.forall_mem_cons.mpr ⟨rfl, fun _ h => absurd h List.not_mem_nil⟩⟩⟩⟩) ?_
        exact J970 0 (rW (c := 0) (d := 1) (rR (x := 0)) rfl)
      have h994 : 1 ≤ z963 ∧ z963 ≤ 128 := (vc_X3_readAttribute_21 h992 h965)
      refine mr_iconst (pc := 231) (z := 1) dX3_readAttribute_231 ?_
      refine sv_goto (pc := 232) (tgt := 236) dX3_readAttribute_232 (by decide) ?_
      refine mr_lvS (lv' := [(0, .ref 76), (1, iv p1), (4, iv z712), (6, iv z718)]) (List.forall_mem_cons.mpr ⟨rfl, List.forall_mem_cons.mpr ⟨rfl, List.forall_mem_cons.mpr ⟨rfl, List.forall_mem_cons.mpr ⟨rfl, fun _ h => absurd h List.not_mem_nil⟩⟩⟩⟩) ?_
      exact J970 1 (rW (c := 0) (d := 1) (rR (x := 1)) rfl)
    by_cases h995 : z718 = 8
    · refine mr_tableIn (pc := 53) (v := 8) (tgt := 195) dX3_readAttribute_53 h995 rfl rfl (by decide) ?_
      have h996 : 8 ≤ z718 ∧ z718 ≤ 8 := (vc_X3_readAttribute_46 h995 h730 h774 h818 h852 h893 h927 h961 h720)
      refine mr_iload (pc := 195) (z := z715) dX3_readAttribute_195 rfl ?_
      refine mr_sipush (pc := 197) (z := 192) dX3_readAttribute_197 (by decide) ?_
      have J1012 : ∀ (z1005 : Int) (μ1007 : mM), (mT w μ1007) → (mF [76006, 79999] w μ726 μ1007) → ((0 ≤ z1005 ∧ z1005 ≤ 1)) → (OC μ1007) → sV (gG l D c H0 sa) mX3_readAttribute (sRm 4 0 0) (sZ (gG l D c H0 sa) 0 0 (qV w [76005, 76006, 76007, 76008, 77999, 78999, 79999, 80999, 200005, 200006, 200007, 201999] μ (fun μ1 => ∃ o_cc o_s : Int, μ1 76 5 = o_cc ∧ cnt μ1 77 256 = o_s ∧ (o_cc ≤ o_s) ∧ True))) 217 [(0, .ref 76), (1, iv p1)] [iv z1005] (mk w μ1007) 0 0 := by
        intro z1005 μ1007 T1008 F1009 h1006 I1011
        refine mr_istore (pc := 217) (lv' := [(7, iv z1005), (0, .ref 76), (1, iv p1)]) dX3_readAttribute_217 (by decide) rfl ?_
        refine sv_goto (pc := 219) (tgt := 246) dX3_readAttribute_219 (by decide) ?_
        refine mr_iload (pc := 246) (z := z1005) dX3_readAttribute_246 rfl ?_
        refine mr_if_ne (pc := 248) (tgt := 257) dX3_readAttribute_248 (by decide) (r32 h1006 rfl) (fun h1019 => ?_) (fun h1019 => ?_)
        · have h1020 : 1 ≤ z1005 ∧ z1005 ≤ 1 := (vc_X12_ring_24 h1019 h1006)
          exact mr_vret dX3_readAttribute_257 rfl (le_t rfl) (le_t rfl) T1008 (mF.call (mF.up mF.refl (A_77 hw) u727 rfl) F1009 rfl) ⟨f_cc, ((f_s + 1) - z721), (F1009.f (A_76 hw) rfl (u727.f (Or.inl (mAt.ne (A_77 hw) (A_76 hw) rfl)) q_f_cc)), (cntF F1009 (A_77 hw) rfl rfl (cntU u727 (rIx (n := 256) h720 rfl) rfl q_f_s q722)), (vc_X3_readAttribute_4 hq1 h724 h729 ht_f_cc ht_f_s h725), trivial⟩
        have h1021 : 0 ≤ z1005 ∧ z1005 ≤ 0 := (vc_X12_ring_22 h1019 h1006)
        refine sv_aload_n (pc := 251) dX3_readAttribute_251 rfl rfl ?_
        refine mr_iconst (pc := 252) (z := 2) dX3_readAttribute_252 ?_
        refine mr_iload_n (pc := 253) (z := p1) dX3_readAttribute_253 rfl rfl ?_
        refine mr_cVV (pc := 254) (c_X3_note hw T1008 (rW (c := 0) (d := 3) (rR (x := 2)) rfl) (rW (c := (-2147483648)) (d := 2147483647) hp1 rfl)) (gOk _ _ _ _ _) dX3_readAttribute_254 (tX3_note _ _ _ _ _) ⟨wV_X3_note, wL_X3_note⟩ wM_X3_92 (gCX3 _ _ _ _ _) rfl (A_76 hw) rfl ⟨le_t rfl, le_t rfl⟩ ⟨le_t rfl, le_t rfl⟩ rfl (le_t rfl) fun μ1022 T1023 F1024 h1025 => ?_
        exact mr_vret dX3_readAttribute_257 rfl (le_t rfl) (le_t rfl) T1023 (mF.call (mF.call (mF.up mF.refl (A_77 hw) u727 rfl) F1009 rfl) F1024 rfl) ⟨f_cc, ((f_s + 1) - z721), (F1024.f (A_76 hw) rfl (F1009.f (A_76 hw) rfl (u727.f (Or.inl (mAt.ne (A_77 hw) (A_76 hw) rfl)) q_f_cc))), (cntF F1024 (A_77 hw) rfl rfl (cntF F1009 (A_77 hw) rfl rfl (cntU u727 (rIx (n := 256) h720 rfl) rfl q_f_s q722))), (vc_X3_readAttribute_4 hq1 h724 h729 ht_f_cc ht_f_s h725), trivial⟩
      refine mr_icmp_ne (pc := 200) (tgt := 216) dX3_readAttribute_200 (by decide) (r32 h717 rfl) (r32 (rR (x := 192)) rfl) (fun h1026 => ?_) (fun h1026 => ?_)
      · refine mr_iconst (pc := 216) (z := 0) dX3_readAttribute_216 ?_
        refine mr_lvS (lv' := [(0, .ref 76), (1, iv p1)]) (List.forall_mem_cons.mpr ⟨rfl, List.forall_mem_cons.mpr ⟨rfl, fun _ h => absurd h List.not_mem_nil⟩⟩) ?_
        exact J1012 0 μ726 T728 mF.refl (rW (c := 0) (d := 1) (rR (x := 0)) rfl) (OC.keep hIOC hw ((mF.up mF.refl (A_77 hw) u727 rfl) : mF [77999] w μ μ726) rfl)
      have h1027 : 192 ≤ z715 ∧ z715 ≤ 192 := (vc_X3_readAttribute_49 h1026 h717)
      refine sv_aload_n (pc := 203) dX3_readAttribute_203 rfl rfl ?_
      refine mr_iload_n (pc := 204) (z := p2) dX3_readAttribute_204 rfl rfl ?_
      refine mr_iload_n (pc := 205) (z := p3) dX3_readAttribute_205 rfl rfl ?_
      refine mr_cVI (pc := 206) (c_X3_readMarks hw T728 hp2 hp3 (vc_X3_readAttribute_7 hq0 hp2 hp3) (OC.keep hIOC hw ((mF.up mF.refl (A_77 hw) u727 rfl) : mF [77999] w μ μ726) rfl)) (gOk _ _ _ _ _) dX3_readAttribute_206 (tX3_readMarks _ _ _ _ _) ⟨wV_X3_readMarks, wL_X3_readMarks⟩ wM_X3_121 (gCX3 _ _ _ _ _) rfl (A_76 hw) rfl ⟨le_t rfl, le_t rfl⟩ ⟨le_t rfl, le_t rfl⟩ rfl (le_t rfl) fun z1032 μ1028 T1029 F1030 h1031 => ?_
      refine mr_if_eq (pc := 209) (tgt := 216) dX3_readAttribute_209 (by decide) (r32 h1031.1 rfl) (fun h1033 => ?_) (fun h1033 => ?_)
      · have h1034 : 0 ≤ z1032 ∧ z1032 ≤ 0 := (vc_X12_ring_22 h1033 h1031.1)
        refine mr_iconst (pc := 216) (z := 0) dX3_readAttribute_216 ?_
        refine mr_lvS (lv' := [(0, .ref 76), (1, iv p1)]) (List.forall_mem_cons.mpr ⟨rfl, List.forall_mem_cons.mpr ⟨rfl, fun _ h => absurd h List.not_mem_nil⟩⟩) ?_
        exact J1012 0 μ1028 T1029 (mF.call mF.refl F1030 rfl) (rW (c := 0) (d := 1) (rR (x := 0)) rfl) (OC.keep hIOC hw ((mF.call (mF.up mF.refl (A_77 hw) u727 rfl) F1030 rfl) : mF [76006, 77999, 79999] w μ μ1028) rfl)
      have h1035 : 1 ≤ z1032 ∧ z1032 ≤ 1 := (vc_X12_ring_24 h1033 h1031.1)
      refine mr_iconst (pc := 212) (z := 1) dX3_readAttribute_212 ?_
      refine sv_goto (pc := 213) (tgt := 217) dX3_readAttribute_213 (by decide) ?_
      refine mr_lvS (lv' := [(0, .ref 76), (1, iv p1)]) (List.forall_mem_cons.mpr ⟨rfl, List.forall_mem_cons.mpr ⟨rfl, fun _ h => absurd h List.not_mem_nil⟩⟩) ?_
      exact J1012 1 μ1028 T1029 (mF.call mF.refl F1030 rfl) (rW (c := 0) (d := 1) (rR (x := 1)) rfl) (OC.keep hIOC hw ((mF.call (mF.up mF.refl (A_77 hw) u727 rfl) F1030 rfl) : mF [76006, 77999, 79999] w μ μ1028) rfl)
    refine mr_tableOut (pc := 53) (tgt := 222) dX3_readAttribute_53 (r32 h720 rfl) (vc_X3_readAttribute_52 h730 h774 h818 h852 h893 h927 h961 h995 h720) (by decide) ?_
    refine mr_iload (pc := 222) (z := z712) dX3_readAttribute_222 rfl ?_
    refine mr_sipush (pc := 224) (z := 128) dX3_readAttribute_224 (by decide) ?_
    refine mr_iand (pc := 227) (x := z712) (y := 128) dX3_readAttribute_227 ?_
    refine mr_gen (P := fun z => 0 ≤ z ∧ z ≤ 128) (rAndR (rR (x := 128)) rfl) fun z1036 q1037 h1038 => ?_
    have J1043 : ∀ (z1041 : Int), ((0 ≤ z1041 ∧ z1041 ≤ 1)) → sV (gG l D c H0 sa) mX3_readAttribute (sRm 4 0 0) (sZ (gG l D c H0 sa) 0 0 (qV w [76005, 76006, 76007, 76008, 77999, 78999, 79999, 80999, 200005, 200006, 200007, 201999] μ (fun μ1 => ∃ o_cc o_s : Int, μ1 76 5 = o_cc ∧ cnt μ1 77 256 = o_s ∧ (o_cc ≤ o_s) ∧ True))) 236 [(0, .ref 76), (1, iv p1), (4, iv z712), (6, iv z718)] [iv z1041] (mk w μ726) 0 0 := by
      intro z1041 h1042
      refine mr_istore (pc := 236) (lv' := [(7, iv z1041), (0, .ref 76), (1, iv p1), (4, iv z712), (6, iv z718)]) dX3_readAttribute_236 (by decide) rfl ?_
      refine sv_aload_n (pc := 238) dX3_readAttribute_238 rfl rfl ?_
      refine mr_iload (pc := 239) (z := z712) dX3_readAttribute_239 rfl ?_
      refine mr_iload (pc := 241) (z := z718) dX3_readAttribute_241 rfl ?_
      refine mr_cVV (pc := 243) (c_X3_carry hw T728 (rW (c := (-2147483648)) (d := 2147483647) h714 rfl) (rW (c := (-2147483648)) (d := 2147483647) h720 rfl) (u727.f (Or.inl (mAt.ne (A_77 hw) (A_76 hw) rfl)) q_f_cc) (vc_X3_readAttribute_16 hq1 h729 ht_f_cc ht_f_s h725)) (gOk _ _ _ _ _) dX3_readAttribute_243 (tX3_carry _ _ _ _ _) ⟨wV_X3_carry, wL_X3_carry⟩ wM_X3_124 (gCX3 _ _ _ _ _) rfl (A_76 hw) rfl ⟨le_t rfl, le_t rfl⟩ ⟨le_t rfl, le_t rfl⟩ rfl (le_t rfl) fun μ1044 T1045 F1046 h1047 => ?_
      obtain ⟨z1048, q1049, h1050⟩ := h1047
      have h1051 : (0 ≤ z1048 ∧ z1048 ≤ 256) := by rw [← q1049]; exact T1045 76 76 (A_76 hw) 5
      refine mr_iload (pc := 246) (z := z1041) dX3_readAttribute_246 rfl ?_
      refine mr_if_ne (pc := 248) (tgt := 257) dX3_readAttribute_248 (by decide) (r32 h1042 rfl) (fun h1058 => ?_) (fun h1058 => ?_)
      · have h1059 : 1 ≤ z1041 ∧ z1041 ≤ 1 := (vc_X12_ring_24 h1058 h1042)
        exact mr_vret dX3_readAttribute_257 rfl (le_t rfl) (le_t rfl) T1045 (mF.call (mF.up mF.refl (A_77 hw) u727 rfl) F1046 rfl) ⟨z1048, ((f_s + 1) - z721), q1049, (cntF F1046 (A_77 hw) rfl rfl (cntU u727 (rIx (n := 256) h720 rfl) rfl q_f_s q722)), (vc_X3_readAttribute_54 hq1 h724 h729 h1050.1 ht_f_cc ht_f_s h1051 h725), trivial⟩
      have h1060 : 0 ≤ z1041 ∧ z1041 ≤ 0 := (vc_X12_ring_22 h1058 h1042)
      refine sv_aload_n (pc := 251) dX3_readAttribute_251 rfl rfl ?_
      refine mr_iconst (pc := 252) (z := 2) dX3_readAttribute_252 ?_
      refine mr_iload_n (pc := 253) (z := p1) dX3_readAttribute_253 rfl rfl ?_
      refine mr_cVV (pc := 254) (c_X3_note hw T1045 (rW (c := 0) (d := 3) (rR (x := 2)) rfl) (rW (c := (-2147483648)) (d := 2147483647) hp1 rfl)) (gOk _ _ _ _ _) dX3_readAttribute_254 (tX3_note _ _ _ _ _) ⟨wV_X3_note, wL_X3_note⟩ wM_X3_92 (gCX3 _ _ _ _ _) rfl (A_76 hw) rfl ⟨le_t rfl, le_t rfl⟩ ⟨le_t rfl, le_t rfl⟩ rfl (le_t rfl) fun μ1061 T1062 F1063 h1064 => ?_
      exact mr_vret dX3_readAttribute_257 rfl (le_t rfl) (le_t rfl) T1062 (mF.call (mF.call (mF.up mF.refl (A_77 hw) u727 rfl) F1046 rfl) F1063 rfl) ⟨z1048, ((f_s + 1) - z721), (F1063.f (A_76 hw) rfl q1049), (cntF F1063 (A_77 hw) rfl rfl (cntF F1046 (A_77 hw) rfl rfl (cntU u727 (rIx (n := 256) h720 rfl) rfl q_f_s q722))), (vc_X3_readAttribute_54 hq1 h724 h729 h1050.1 ht_f_cc ht_f_s h1051 h725), trivial⟩
    refine mr_if_eq (pc := 228) (tgt := 235) dX3_readAttribute_228 (by decide) (r32 h1038 rfl) (fun h1065 => ?_) (fun h1065 => ?_)
    · have h1066 : 0 ≤ z1036 ∧ z1036 ≤ 0 := (vc_X3_readAttribute_20 h1065 h1038)
      refine mr_iconst (pc := 235) (z := 0) dX3_readAttribute_235 ?_
      refine mr_lvS (lv' := [(0, .ref 76), (1, iv p1), (4, iv z712), (6, iv z718)]) (List.forall_mem_cons.mpr ⟨rfl, List.forall_mem_cons.mpr ⟨rfl, List.forall_mem_cons.mpr ⟨rfl, List.forall_mem_cons.mpr ⟨rfl, fun _ h => absurd h List.not_mem_nil⟩⟩⟩⟩) ?_
      exact J1043 0 (rW (c := 0) (d := 1) (rR (x := 0)) rfl)
    have h1067 : 1 ≤ z1036 ∧ z1036 ≤ 128 := (vc_X3_readAttribute_21 h1065 h1038)
    refine mr_iconst (pc := 231) (z := 1) dX3_readAttribute_231 ?_
    refine sv_goto (pc := 232) (tgt := 236) dX3_readAttribute_232 (by decide) ?_
    refine mr_lvS (lv' := [(0, .ref 76), (1, iv p1), (4, iv z712), (6, iv z718)]) (List.forall_mem_cons.mpr ⟨rfl, List.forall_mem_cons.mpr ⟨rfl, List.forall_mem_cons.mpr ⟨rfl, List.forall_mem_cons.mpr ⟨rfl, fun _ h => absurd h List.not_mem_nil⟩⟩⟩⟩) ?_
    exact J1043 1 (rW (c := 0) (d := 1) (rR (x := 1)) rfl)
  have h1068 : 1 ≤ z721 ∧ z721 ≤ 1 := (vc_X12_ring_24 h724 h723)
  refine sv_aload_n (pc := 36) dX3_readAttribute_36 rfl rfl ?_
  refine mr_iconst (pc := 37) (z := 3) dX3_readAttribute_37 ?_
  refine mr_iload_n (pc := 38) (z := p1) dX3_readAttribute_38 rfl rfl ?_
  refine mr_cVV (pc := 39) (c_X3_note hw hT (rW (c := 0) (d := 3) (rR (x := 3)) rfl) (rW (c := (-2147483648)) (d := 2147483647) hp1 rfl)) (gOk _ _ _ _ _) dX3_readAttribute_39 (tX3_note _ _ _ _ _) ⟨wV_X3_note, wL_X3_note⟩ wM_X3_92 (gCX3 _ _ _ _ _) rfl (A_76 hw) rfl ⟨le_t rfl, le_t rfl⟩ ⟨le_t rfl, le_t rfl⟩ rfl (le_t rfl) fun μ1069 T1070 F1071 h1072 => ?_
  exact mr_vret dX3_readAttribute_42 rfl (le_t rfl) (le_t rfl) T1070 (mF.call mF.refl F1071 rfl) ⟨f_cc, f_s, (F1071.f (A_76 hw) rfl q_f_cc), (cntF F1071 (A_77 hw) rfl rfl q_f_s), (vc_X3_readAttribute_59 hq1 ht_f_cc ht_f_s), trivial⟩
theorem vc_X3_readAttributes_1 {f_c2 f_s2 z553 : Int} (h0 : (1003 - z553) < ((0 : Nat) : Int)) (h1 : 0 ≤ f_s2 ∧ f_s2 ≤ 256) (h2 : f_c2 ≤ f_s2) (h3 : 0 ≤ z553 ∧ z553 ≤ 1002) : False := by omega
theorem vc_X3_readAttributes_3 {p2 z553 : Int} (h0 : z553 < p2) (h1 : 0 ≤ p2 ∧ p2 ≤ 1000) (h2 : 0 ≤ z553 ∧ z553 ≤ 1002) : 0 ≤ z553 ∧ z553 ≤ 999 := by omega
theorem vc_X3_readAttributes_5 {z577 : Int} (h0 : z577 = 0) (h1 : 0 ≤ z577 ∧ z577 ≤ 16) : 0 ≤ z577 ∧ z577 ≤ 0 := by omega
theorem vc_X3_readAttributes_6 (h0 : ¬ (0 : Int) = (0 : Int)) : False := by omega
theorem vc_X3_readAttributes_7 {p2 z553 : Int} (h0 : (z553 + 3) ≤ p2) (h1 : z553 < p2) (h2 : 1 ≤ p2 ∧ p2 ≤ 1000) (h3 : 0 ≤ z553 ∧ z553 ≤ 999) : 0 ≤ z553 ∧ z553 ≤ 997 := by omega
theorem vc_X3_readAttributes_8 {p2 z553 : Int} (h0 : (z553 + 3) ≤ p2) (h1 : z553 < p2) (h2 : 1 ≤ p2 ∧ p2 ≤ 1000) (h3 : 0 ≤ z553 ∧ z553 ≤ 997) : 3 ≤ p2 ∧ p2 ≤ 1000 := by omega
theorem vc_X3_readAttributes_9 {p2 z553 z585 : Int} (h0 : z553 < p2) (h1 : (z553 + 3) ≤ p2) (h2 : ((z553 + 3) + z585) ≤ p2) (h3 : 3 ≤ p2 ∧ p2 ≤ 1000) (h4 : 0 ≤ z553 ∧ z553 ≤ 997) (h5 : 0 ≤ z585 ∧ z585 ≤ 255) : (z553 + 3) + z585 ≤ 1000 := by omega
theorem vc_X3_readAttributes_10 {p2 z553 z585 : Int} (h0 : z553 < p2) (h1 : (z553 + 3) ≤ p2) (h2 : ((z553 + 3) + z585) ≤ p2) (h3 : 3 ≤ p2 ∧ p2 ≤ 1000) (h4 : 0 ≤ z553 ∧ z553 ≤ 997) (h5 : 0 ≤ z585 ∧ z585 ≤ 255) : 0 ≤ ((z553 + 3) + z585) ∧ ((z553 + 3) + z585) ≤ 1002 := by omega
theorem vc_X3_readAttributes_12 {N p2 z553 z585 : Int} (h0 : (1003 - z553) < N + 1) (h1 : z553 < p2) (h2 : (z553 + 3) ≤ p2) (h3 : ((z553 + 3) + z585) ≤ p2) (h4 : 3 ≤ p2 ∧ p2 ≤ 1000) (h5 : 0 ≤ z553 ∧ z553 ≤ 997) (h6 : 0 ≤ z585 ∧ z585 ≤ 255) : (1003 - ((z553 + 3) + z585)) < N := by omega
theorem vc_X3_readAttributes_13 {z577 : Int} (h0 : ¬ z577 = 0) (h1 : 0 ≤ z577 ∧ z577 ≤ 16) : 1 ≤ z577 ∧ z577 ≤ 16 := by omega
theorem vc_X3_readAttributes_14 (h0 : (1 : Int) = (0 : Int)) : False := by omega
theorem vc_X3_readAttributes_15 {p2 z553 : Int} (h0 : (z553 + 4) ≤ p2) (h1 : z553 < p2) (h2 : 1 ≤ p2 ∧ p2 ≤ 1000) (h3 : 0 ≤ z553 ∧ z553 ≤ 999) : 0 ≤ z553 ∧ z553 ≤ 996 := by omega
theorem vc_X3_readAttributes_16 {p2 z553 : Int} (h0 : (z553 + 4) ≤ p2) (h1 : z553 < p2) (h2 : 1 ≤ p2 ∧ p2 ≤ 1000) (h3 : 0 ≤ z553 ∧ z553 ≤ 996) : 4 ≤ p2 ∧ p2 ≤ 1000 := by omega
theorem vc_X3_readAttributes_17 {p2 z553 z616 : Int} (h0 : ((z553 + 4) + z616) ≤ p2) (h1 : z553 < p2) (h2 : (z553 + 4) ≤ p2) (h3 : 4 ≤ p2 ∧ p2 ≤ 1000) (h4 : 0 ≤ z553 ∧ z553 ≤ 996) (h5 : 0 ≤ z616 ∧ z616 ≤ 65535) : 0 ≤ z616 ∧ z616 ≤ 996 := by omega
theorem vc_X3_readAttributes_18 {p2 z553 z616 : Int} (h0 : z553 < p2) (h1 : (z553 + 4) ≤ p2) (h2 : ((z553 + 4) + z616) ≤ p2) (h3 : 4 ≤ p2 ∧ p2 ≤ 1000) (h4 : 0 ≤ z553 ∧ z553 ≤ 996) (h5 : 0 ≤ z616 ∧ z616 ≤ 996) : (z553 + 4) + z616 ≤ 1000 := by omega
theorem vc_X3_readAttributes_19 {p2 z553 z616 : Int} (h0 : z553 < p2) (h1 : (z553 + 4) ≤ p2) (h2 : ((z553 + 4) + z616) ≤ p2) (h3 : 4 ≤ p2 ∧ p2 ≤ 1000) (h4 : 0 ≤ z553 ∧ z553 ≤ 996) (h5 : 0 ≤ z616 ∧ z616 ≤ 996) : 0 ≤ ((z553 + 4) + z616) ∧ ((z553 + 4) + z616) ≤ 1002 := by omega
theorem vc_X3_readAttributes_21 {N p2 z553 z616 : Int} (h0 : (1003 - z553) < N + 1) (h1 : z553 < p2) (h2 : (z553 + 4) ≤ p2) (h3 : ((z553 + 4) + z616) ≤ p2) (h4 : 4 ≤ p2 ∧ p2 ≤ 1000) (h5 : 0 ≤ z553 ∧ z553 ≤ 996) (h6 : 0 ≤ z616 ∧ z616 ≤ 996) : (1003 - ((z553 + 4) + z616)) < N := by omega
theorem vc_X3_readAttributes_23 {p1 : Int} (h0 : 0 ≤ p1 ∧ p1 ≤ 1002) : (1003 - p1) < ((1004 : Nat) : Int) := by omega
set_option maxRecDepth 4000 in
set_option maxHeartbeats 4000000 in
theorem c_X3_readAttributes {l : Launch} {D : va_G} {c : Nat → ClassId} {H0 : Heap} {sa : Nat × Nat × (Nat → Int32)} {w : mW} {μ : mM} (hw : mWF w) (hT : mT w μ) {p1 : Int} (hp1 : 0 ≤ p1 ∧ p1 ≤ 1002) {p2 : Int} (hp2 : 0 ≤ p2 ∧ p2 ≤ 1000) {f_cc : Int} (q_f_cc : μ 76 5 = f_cc) {f_s : Int} (q_f_s : cnt μ 77 256 = f_s) (hq0 : f_cc ≤ f_s) (hIOC : OC μ) : sC (gG l D c H0 sa) mX3_readAttributes 5 0 0 [.ref 76, iv p1, iv p2] (mk w μ) (qV w [76005, 76006, 76007, 76008, 77999, 78999, 79999, 80999, 200005, 200006, 200007, 201999] μ (fun μ1 => ∃ o_cc o_s : Int, μ1 76 5 = o_cc ∧ cnt μ1 77 256 = o_s ∧ (o_cc ≤ o_s) ∧ True)) := by
  refine sC.of rfl (by decide) (le_t rfl) ?_
  have ht_f_cc : (0 ≤ f_cc ∧ f_cc ≤ 256) := by rw [← q_f_cc]; exact hT 76 76 (A_76 hw) 5
  have ht_f_s : 0 ≤ f_s ∧ f_s ≤ 256 := by rw [← q_f_s]; exact cnt_rng (fun i => hT 77 77 (A_77 hw) i) 256
  refine mr_lvE (lv' := [(0, .ref 76), (1, iv p1), (2, iv p2)]) rfl ?_
  refine mr_iload_n (pc := 0) (z := p1) dX3_readAttributes_0 rfl rfl ?_
  refine mr_istore_n (pc := 1) (lv' := [(3, iv p1), (0, .ref 76), (1, iv p1), (2, iv p2)]) dX3_readAttributes_1 rfl (by decide) rfl ?_
  have L555 : ∀ (nL555 : Nat) (z553 : Int) (μ554 : mM) (f_c2 : Int) (f_s2 : Int), mT w μ554 → mF [76005, 76006, 76007, 76008, 77999, 78999, 79999, 80999, 200005, 200006, 200007, 201999] w μ μ554 → μ554 76 (5) = f_c2 → cnt μ554 77 256 = f_s2 → (0 ≤ z553 ∧ z553 ≤ 1002) → (f_c2 ≤ f_s2) → OC μ554 → (1003 - z553) < (nL555 : Int) → sV (gG l D c H0 sa) mX3_readAttributes (sRm 5 0 0) (sZ (gG l D c H0 sa) 0 0 (qV w [76005, 76006, 76007, 76008, 77999, 78999, 79999, 80999, 200005, 200006, 200007, 201999] μ (fun μ1 => ∃ o_cc o_s : Int, μ1 76 5 = o_cc ∧ cnt μ1 77 256 = o_s ∧ (o_cc ≤ o_s) ∧ True))) 2 [(0, .ref 76), (2, iv p2), (3, iv z553)] [] (mk w μ554) 0 0 := by
    intro nL555
    induction nL555 with
    | zero => intro z553 μ554 f_c2 f_s2 T557 F558 q563 q564 h556 h560 I561 h562; exact ((vc_X3_readAttributes_1 h562 (by rw [← q564]; exact cnt_rng (fun i => T557 77 77 (A_77 hw) i) 256) h560 h556)).elim
    | succ nL555 ih565 =>
      intro z553 μ554 f_c2 f_s2 T557 F558 q563 q564 h556 h560 I561 h562
      have h566 : (0 ≤ f_c2 ∧ f_c2 ≤ 256) := by rw [← q563]; exact T557 76 76 (A_76 hw) (5)
      have h567 : 0 ≤ f_s2 ∧ f_s2 ≤ 256 := by rw [← q564]; exact cnt_rng (fun i => T557 77 77 (A_77 hw) i) 256
      refine mr_iload_n (pc := 2) (z := z553) dX3_readAttributes_2 rfl rfl ?_
      refine mr_iload_n (pc := 3) (z := p2) dX3_readAttributes_3 rfl rfl ?_
      refine mr_icmp_ge (pc := 4) (tgt := 112) dX3_readAttributes_4 (by decide) (r32 h556 rfl) (r32 hp2 rfl) (fun h568 => ?_) (fun h568 => ?_)
      · exact mr_vret dX3_readAttributes_112 rfl (le_t rfl) (le_t rfl) T557 (mF.call mF.refl F558 rfl) ⟨f_c2, f_s2, q563, q564, (vc_X3_readAttribute_59 h560 h566 h567), trivial⟩
      have h569 : 0 ≤ z553 ∧ z553 ≤ 999 := (vc_X3_readAttributes_3 h568 hp2 h556)
      have h570 : 1 ≤ p2 ∧ p2 ≤ 1000 := (vc_X12_byteAt_4 h568 hp2 h569)
      refine sv_aload_n (pc := 7) dX3_readAttributes_7 rfl rfl ?_
      refine gf_X3_4 (pc := 8) dX3_readAttributes_8 wF_X3_41 (A_76 hw) T557 I561 fun b571 q572 A573 => ?_
      refine mr_iload_n (pc := 11) (z := z553) dX3_readAttributes_11 rfl rfl ?_
      refine la_1 (pc := 12) dX3_readAttributes_12 A573 T557 (rIx (n := 1000) h569 rfl) fun z574 q575 h576 => ?_
      refine mr_bipush (pc := 13) (z := 16) dX3_readAttributes_13 (by decide) ?_
      refine mr_iand (pc := 15) (x := z574) (y := 16) dX3_readAttributes_15 ?_
      refine mr_gen (P := fun z => 0 ≤ z ∧ z ≤ 16) (rAndR (rR (x := 16)) rfl) fun z577 q578 h579 => ?_
      refine mr_if_eq (pc := 16) (tgt := 23) dX3_readAttributes_16 (by decide) (r32 h579 rfl) (fun h580 => ?_) (fun h580 => ?_)
      · have h581 : 0 ≤ z577 ∧ z577 ≤ 0 := (vc_X3_readAttributes_5 h580 h579)
        refine mr_iconst (pc := 23) (z := 0) dX3_readAttributes_23 ?_
        refine mr_istore (pc := 24) (lv' := [(4, iv 0), (0, .ref 76), (2, iv p2), (3, iv z553)]) dX3_readAttributes_24 (by decide) rfl ?_
        refine mr_iload_n (pc := 26) (z := z553) dX3_readAttributes_26 rfl rfl ?_
        refine mr_iload (pc := 27) (z := 0) dX3_readAttributes_27 rfl ?_
        refine mr_if_eq (pc := 29) (tgt := 36) dX3_readAttributes_29 (by decide) (r32 (rR (x := 0)) rfl) (fun _ => ?_) (fun h => ((vc_X3_readAttributes_6 h)).elim)
        refine mr_iconst (pc := 36) (z := 3) dX3_readAttributes_36 ?_
        refine mr_iadd (pc := 37) (x := z553) (y := 3) dX3_readAttributes_37 ?_
        refine mr_istore (pc := 38) (lv' := [(5, iv (z553 + 3)), (4, iv 0), (0, .ref 76), (2, iv p2), (3, iv z553)]) dX3_readAttributes_38 (by decide) rfl ?_
        refine mr_iload (pc := 40) (z := (z553 + 3)) dX3_readAttributes_40 rfl ?_
        refine mr_iload_n (pc := 42) (z := p2) dX3_readAttributes_42 rfl rfl ?_
        refine mr_icmp_le (pc := 43) (tgt := 53) dX3_readAttributes_43 (by decide) (r32 (rAdd (e := 3) (f := 1002) h569 (rR (x := 3)) rfl) rfl) (r32 h570 rfl) (fun h582 => ?_) (fun h582 => ?_)
        · have h583 : 0 ≤ z553 ∧ z553 ≤ 997 := (vc_X3_readAttributes_7 h582 h568 h570 h569)
          have h584 : 3 ≤ p2 ∧ p2 ≤ 1000 := (vc_X3_readAttributes_8 h582 h568 h570 h583)
          refine mr_iload (pc := 53) (z := 0) dX3_readAttributes_53 rfl ?_
          refine mr_if_eq (pc := 55) (tgt := 68) dX3_readAttributes_55 (by decide) (r32 (rR (x := 0)) rfl) (fun _ => ?_) (fun h => ((vc_X3_readAttributes_6 h)).elim)
          refine sv_aload_n (pc := 68) dX3_readAttributes_68 rfl rfl ?_
          refine gk_X3_4 (pc := 69) dX3_readAttributes_69 wF_X3_41 (A_76 hw) q572 ?_
          refine mr_iload_n (pc := 72) (z := z553) dX3_readAttributes_72 rfl rfl ?_
          refine mr_iconst (pc := 73) (z := 2) dX3_readAttributes_73 ?_
          refine mr_iadd (pc := 74) (x := z553) (y := 2) dX3_readAttributes_74 ?_
          refine la_1 (pc := 75) dX3_readAttributes_75 A573 T557 (rIx (n := 1000) (rAdd (e := 2) (f := 999) h583 (rR (x := 2)) rfl) rfl) fun z585 q586 h587 => ?_
          refine mr_istore (pc := 76) (lv' := [(6, iv z585), (5, iv (z553 + 3)), (4, iv 0), (0, .ref 76), (2, iv p2), (3, iv z553)]) dX3_readAttributes_76 (by decide) rfl ?_
          refine mr_iload (pc := 78) (z := (z553 + 3)) dX3_readAttributes_78 rfl ?_
          refine mr_iload (pc := 80) (z := z585) dX3_readAttributes_80 rfl ?_
          refine mr_iadd (pc := 82) (x := (z553 + 3)) (y := z585) dX3_readAttributes_82 ?_
          refine mr_iload_n (pc := 83) (z := p2) dX3_readAttributes_83 rfl rfl ?_
          refine mr_icmp_le (pc := 84) (tgt := 94) dX3_readAttributes_84 (by decide) (r32 (rAdd (e := 3) (f := 1255) (rAdd (e := 3) (f := 1000) h583 (rR (x := 3)) rfl) h587 rfl) rfl) (r32 h584 rfl) (fun h588 => ?_) (fun h588 => ?_)
          · refine sv_aload_n (pc := 94) dX3_readAttributes_94 rfl rfl ?_
            refine mr_iload_n (pc := 95) (z := z553) dX3_readAttributes_95 rfl rfl ?_
            refine mr_iload (pc := 96) (z := (z553 + 3)) dX3_readAttributes_96 rfl ?_
            refine mr_iload (pc := 98) (z := z585) dX3_readAttributes_98 rfl ?_
            refine mr_cVV (pc := 100) (c_X3_readAttribute hw T557 (rW (c := 0) (d := 998) h583 rfl) (rW (c := 0) (d := 1000) (rAdd (e := 3) (f := 1000) h583 (rR (x := 3)) rfl) rfl) (rW (c := 0) (d := 1000) h587 rfl) q563 q564 (vc_X3_readAttributes_9 h568 h582 h588 h584 h583 h587) (vc_X3_readAttribute_59 h560 h566 h567) I561) (gOk _ _ _ _ _) dX3_readAttributes_100 (tX3_readAttribute _ _ _ _ _) ⟨wV_X3_readAttribute, wL_X3_readAttribute⟩ wM_X3_107 (gCX3 _ _ _ _ _) rfl (A_76 hw) rfl ⟨le_t rfl, le_t rfl⟩ ⟨le_t rfl, le_t rfl⟩ rfl (le_t rfl) fun μ589 T590 F591 h592 => ?_
            obtain ⟨z593, z595, q594, q596, h597⟩ := h592
            have h598 : (0 ≤ z593 ∧ z593 ≤ 256) := by rw [← q594]; exact T590 76 76 (A_76 hw) 5
            have h599 : 0 ≤ z595 ∧ z595 ≤ 256 := by rw [← q596]; exact cnt_rng (fun i => T590 77 77 (A_77 hw) i) 256
            refine mr_iload (pc := 103) (z := (z553 + 3)) dX3_readAttributes_103 rfl ?_
            refine mr_iload (pc := 105) (z := z585) dX3_readAttributes_105 rfl ?_
            refine mr_iadd (pc := 107) (x := (z553 + 3)) (y := z585) dX3_readAttributes_107 ?_
            refine mr_istore_n (pc := 108) (lv' := [(3, iv ((z553 + 3) + z585)), (6, iv z585), (5, iv (z553 + 3)), (4, iv 0), (0, .ref 76), (2, iv p2)]) dX3_readAttributes_108 rfl (by decide) rfl ?_
            refine sv_goto (pc := 109) (tgt := 2) dX3_readAttributes_109 (by decide) ?_
            refine mr_lvS (lv' := [(0, .ref 76), (2, iv p2), (3, iv ((z553 + 3) + z585))]) (List.forall_mem_cons.mpr ⟨rfl, List.forall_mem_cons.mpr ⟨rfl, List.forall_mem_cons.mpr ⟨rfl, fun _ h => absurd h List.not_mem_nil⟩⟩⟩) ?_
            exact ih565 ((z553 + 3) + z585) μ589 z593 z595 T590 (mF.call (mF.call mF.refl F558 rfl) F591 rfl) q594 q596 (vc_X3_readAttributes_10 h568 h582 h588 h584 h583 h587) (vc_X3_readAttribute_59 h597.1 h598 h599) (OC.keep I561 hw ((mF.call mF.refl F591 rfl) : mF [76005, 76006, 76007, 76008, 77999, 78999, 79999, 80999, 200005, 200006, 200007, 201999] w μ554 μ589) rfl) (vc_X3_readAttributes_12 (nS h562) h568 h582 h588 h584 h583 h587)
          refine sv_aload_n (pc := 87) dX3_readAttributes_87 rfl rfl ?_
          refine mr_iconst (pc := 88) (z := 2) dX3_readAttributes_88 ?_
          refine mr_iload_n (pc := 89) (z := z553) dX3_readAttributes_89 rfl rfl ?_
          refine mr_cVV (pc := 90) (c_X3_note hw T557 (rW (c := 0) (d := 3) (rR (x := 2)) rfl) (rW (c := (-2147483648)) (d := 2147483647) h583 rfl)) (gOk _ _ _ _ _) dX3_readAttributes_90 (tX3_note _ _ _ _ _) ⟨wV_X3_note, wL_X3_note⟩ wM_X3_92 (gCX3 _ _ _ _ _) rfl (A_76 hw) rfl ⟨le_t rfl, le_t rfl⟩ ⟨le_t rfl, le_t rfl⟩ rfl (le_t rfl) fun μ600 T601 F602 h603 => ?_
          exact mr_vret dX3_readAttributes_93 rfl (le_t rfl) (le_t rfl) T601 (mF.call (mF.call mF.refl F558 rfl) F602 rfl) ⟨f_c2, f_s2, (F602.f (A_76 hw) rfl q563), (cntF F602 (A_77 hw) rfl rfl q564), (vc_X3_readAttribute_59 h560 h566 h567), trivial⟩
        refine sv_aload_n (pc := 46) dX3_readAttributes_46 rfl rfl ?_
        refine mr_iconst (pc := 47) (z := 2) dX3_readAttributes_47 ?_
        refine mr_iload_n (pc := 48) (z := z553) dX3_readAttributes_48 rfl rfl ?_
        refine mr_cVV (pc := 49) (c_X3_note hw T557 (rW (c := 0) (d := 3) (rR (x := 2)) rfl) (rW (c := (-2147483648)) (d := 2147483647) h569 rfl)) (gOk _ _ _ _ _) dX3_readAttributes_49 (tX3_note _ _ _ _ _) ⟨wV_X3_note, wL_X3_note⟩ wM_X3_92 (gCX3 _ _ _ _ _) rfl (A_76 hw) rfl ⟨le_t rfl, le_t rfl⟩ ⟨le_t rfl, le_t rfl⟩ rfl (le_t rfl) fun μ604 T605 F606 h607 => ?_
        exact mr_vret dX3_readAttributes_52 rfl (le_t rfl) (le_t rfl) T605 (mF.call (mF.call mF.refl F558 rfl) F606 rfl) ⟨f_c2, f_s2, (F606.f (A_76 hw) rfl q563), (cntF F606 (A_77 hw) rfl rfl q564), (vc_X3_readAttribute_59 h560 h566 h567), trivial⟩
      have h608 : 1 ≤ z577 ∧ z577 ≤ 16 := (vc_X3_readAttributes_13 h580 h579)
      refine mr_iconst (pc := 19) (z := 1) dX3_readAttributes_19 ?_
      refine sv_goto (pc := 20) (tgt := 24) dX3_readAttributes_20 (by decide) ?_
      refine mr_istore (pc := 24) (lv' := [(4, iv 1), (0, .ref 76), (2, iv p2), (3, iv z553)]) dX3_readAttributes_24 (by decide) rfl ?_
      refine mr_iload_n (pc := 26) (z := z553) dX3_readAttributes_26 rfl rfl ?_
      refine mr_iload (pc := 27) (z := 1) dX3_readAttributes_27 rfl ?_
      refine mr_if_eq (pc := 29) (tgt := 36) dX3_readAttributes_29 (by decide) (r32 (rR (x := 1)) rfl) (fun h => ((vc_X3_readAttributes_14 h)).elim) (fun _ => ?_)
      refine mr_iconst (pc := 32) (z := 4) dX3_readAttributes_32 ?_
      refine sv_goto (pc := 33) (tgt := 37) dX3_readAttributes_33 (by decide) ?_
      refine mr_iadd (pc := 37) (x := z553) (y := 4) dX3_readAttributes_37 ?_
      refine mr_istore (pc := 38) (lv' := [(5, iv (z553 + 4)), (4, iv 1), (0, .ref 76), (2, iv p2), (3, iv z553)]) dX3_readAttributes_38 (by decide) rfl ?_
      refine mr_iload (pc := 40) (z := (z553 + 4)) dX3_readAttributes_40 rfl ?_
      refine mr_iload_n (pc := 42) (z := p2) dX3_readAttributes_42 rfl rfl ?_
      refine mr_icmp_le (pc := 43) (tgt := 53) dX3_readAttributes_43 (by decide) (r32 (rAdd (e := 4) (f := 1003) h569 (rR (x := 4)) rfl) rfl) (r32 h570 rfl) (fun h609 => ?_) (fun h609 => ?_)
      · have h610 : 0 ≤ z553 ∧ z553 ≤ 996 := (vc_X3_readAttributes_15 h609 h568 h570 h569)
        have h611 : 4 ≤ p2 ∧ p2 ≤ 1000 := (vc_X3_readAttributes_16 h609 h568 h570 h610)
        refine mr_iload (pc := 53) (z := 1) dX3_readAttributes_53 rfl ?_
        refine mr_if_eq (pc := 55) (tgt := 68) dX3_readAttributes_55 (by decide) (r32 (rR (x := 1)) rfl) (fun h => ((vc_X3_readAttributes_14 h)).elim) (fun _ => ?_)
        refine sv_aload_n (pc := 58) dX3_readAttributes_58 rfl rfl ?_
        refine mr_iload_n (pc := 59) (z := z553) dX3_readAttributes_59 rfl rfl ?_
        refine mr_iconst (pc := 60) (z := 2) dX3_readAttributes_60 ?_
        refine mr_iadd (pc := 61) (x := z553) (y := 2) dX3_readAttributes_61 ?_
        refine mr_cVP (pc := 62) (c_X3_pairAt hw T557 (rW (c := 0) (d := 998) (rAdd (e := 2) (f := 998) h610 (rR (x := 2)) rfl) rfl) I561) (gOk _ _ _ _ _) dX3_readAttributes_62 (tX3_pairAt _ _ _ _ _) ⟨wV_X3_pairAt, wL_X3_pairAt⟩ wM_X3_88 (gCX3 _ _ _ _ _) rfl (A_76 hw) rfl ⟨le_t rfl, le_t rfl⟩ ⟨le_t rfl, le_t rfl⟩ rfl (le_t rfl) fun z616 h615 => ?_
        refine sv_goto (pc := 65) (tgt := 76) dX3_readAttributes_65 (by decide) ?_
        refine mr_istore (pc := 76) (lv' := [(6, iv z616), (5, iv (z553 + 4)), (4, iv 1), (0, .ref 76), (2, iv p2), (3, iv z553)]) dX3_readAttributes_76 (by decide) rfl ?_
        refine mr_iload (pc := 78) (z := (z553 + 4)) dX3_readAttributes_78 rfl ?_
        refine mr_iload (pc := 80) (z := z616) dX3_readAttributes_80 rfl ?_
        refine mr_iadd (pc := 82) (x := (z553 + 4)) (y := z616) dX3_readAttributes_82 ?_
        refine mr_iload_n (pc := 83) (z := p2) dX3_readAttributes_83 rfl rfl ?_
        refine mr_icmp_le (pc := 84) (tgt := 94) dX3_readAttributes_84 (by decide) (r32 (rAdd (e := 4) (f := 66535) (rAdd (e := 4) (f := 1000) h610 (rR (x := 4)) rfl) h615.1 rfl) rfl) (r32 h611 rfl) (fun h617 => ?_) (fun h617 => ?_)
        · have h618 : 0 ≤ z616 ∧ z616 ≤ 996 := (vc_X3_readAttributes_17 h617 h568 h609 h611 h610 h615.1)
          refine sv_aload_n (pc := 94) dX3_readAttributes_94 rfl rfl ?_
          refine mr_iload_n (pc := 95) (z := z553) dX3_readAttributes_95 rfl rfl ?_
          refine mr_iload (pc := 96) (z := (z553 + 4)) dX3_readAttributes_96 rfl ?_
          refine mr_iload (pc := 98) (z := z616) dX3_readAttributes_98 rfl ?_
          refine mr_cVV (pc := 100) (c_X3_readAttribute hw T557 (rW (c := 0) (d := 998) h610 rfl) (rW (c := 0) (d := 1000) (rAdd (e := 4) (f := 1000) h610 (rR (x := 4)) rfl) rfl) (rW (c := 0) (d := 1000) h618 rfl) q563 q564 (vc_X3_readAttributes_18 h568 h609 h617 h611 h610 h618) (vc_X3_readAttribute_59 h560 h566 h567) I561) (gOk _ _ _ _ _) dX3_readAttributes_100 (tX3_readAttribute _ _ _ _ _) ⟨wV_X3_readAttribute, wL_X3_readAttribute⟩ wM_X3_107 (gCX3 _ _ _ _ _) rfl (A_76 hw) rfl ⟨le_t rfl, le_t rfl⟩ ⟨le_t rfl, le_t rfl⟩ rfl (le_t rfl) fun μ619 T620 F621 h622 => ?_
          obtain ⟨z623, z625, q624, q626, h627⟩ := h622
          have h628 : (0 ≤ z623 ∧ z623 ≤ 256) := by rw [← q624]; exact T620 76 76 (A_76 hw) 5
          have h629 : 0 ≤ z625 ∧ z625 ≤ 256 := by rw [← q626]; exact cnt_rng (fun i => T620 77 77 (A_77 hw) i) 256
          refine mr_iload (pc := 103) (z := (z553 + 4)) dX3_readAttributes_103 rfl ?_
          refine mr_iload (pc := 105) (z := z616) dX3_readAttributes_105 rfl ?_
          refine mr_iadd (pc := 107) (x := (z553 + 4)) (y := z616) dX3_readAttributes_107 ?_
          refine mr_istore_n (pc := 108) (lv' := [(3, iv ((z553 + 4) + z616)), (6, iv z616), (5, iv (z553 + 4)), (4, iv 1), (0, .ref 76), (2, iv p2)]) dX3_readAttributes_108 rfl (by decide) rfl ?_
          refine sv_goto (pc := 109) (tgt := 2) dX3_readAttributes_109 (by decide) ?_
          refine mr_lvS (lv' := [(0, .ref 76), (2, iv p2), (3, iv ((z553 + 4) + z616))]) (List.forall_mem_cons.mpr ⟨rfl, List.forall_mem_cons.mpr ⟨rfl, List.forall_mem_cons.mpr ⟨rfl, fun _ h => absurd h List.not_mem_nil⟩⟩⟩) ?_
          exact ih565 ((z553 + 4) + z616) μ619 z623 z625 T620 (mF.call (mF.call mF.refl F558 rfl) F621 rfl) q624 q626 (vc_X3_readAttributes_19 h568 h609 h617 h611 h610 h618) (vc_X3_readAttribute_59 h627.1 h628 h629) (OC.keep I561 hw ((mF.call mF.refl F621 rfl) : mF [76005, 76006, 76007, 76008, 77999, 78999, 79999, 80999, 200005, 200006, 200007, 201999] w μ554 μ619) rfl) (vc_X3_readAttributes_21 (nS h562) h568 h609 h617 h611 h610 h618)
        refine sv_aload_n (pc := 87) dX3_readAttributes_87 rfl rfl ?_
        refine mr_iconst (pc := 88) (z := 2) dX3_readAttributes_88 ?_
        refine mr_iload_n (pc := 89) (z := z553) dX3_readAttributes_89 rfl rfl ?_
        refine mr_cVV (pc := 90) (c_X3_note hw T557 (rW (c := 0) (d := 3) (rR (x := 2)) rfl) (rW (c := (-2147483648)) (d := 2147483647) h610 rfl)) (gOk _ _ _ _ _) dX3_readAttributes_90 (tX3_note _ _ _ _ _) ⟨wV_X3_note, wL_X3_note⟩ wM_X3_92 (gCX3 _ _ _ _ _) rfl (A_76 hw) rfl ⟨le_t rfl, le_t rfl⟩ ⟨le_t rfl, le_t rfl⟩ rfl (le_t rfl) fun μ630 T631 F632 h633 => ?_
        exact mr_vret dX3_readAttributes_93 rfl (le_t rfl) (le_t rfl) T631 (mF.call (mF.call mF.refl F558 rfl) F632 rfl) ⟨f_c2, f_s2, (F632.f (A_76 hw) rfl q563), (cntF F632 (A_77 hw) rfl rfl q564), (vc_X3_readAttribute_59 h560 h566 h567), trivial⟩
      refine sv_aload_n (pc := 46) dX3_readAttributes_46 rfl rfl ?_
      refine mr_iconst (pc := 47) (z := 2) dX3_readAttributes_47 ?_
      refine mr_iload_n (pc := 48) (z := z553) dX3_readAttributes_48 rfl rfl ?_
      refine mr_cVV (pc := 49) (c_X3_note hw T557 (rW (c := 0) (d := 3) (rR (x := 2)) rfl) (rW (c := (-2147483648)) (d := 2147483647) h569 rfl)) (gOk _ _ _ _ _) dX3_readAttributes_49 (tX3_note _ _ _ _ _) ⟨wV_X3_note, wL_X3_note⟩ wM_X3_92 (gCX3 _ _ _ _ _) rfl (A_76 hw) rfl ⟨le_t rfl, le_t rfl⟩ ⟨le_t rfl, le_t rfl⟩ rfl (le_t rfl) fun μ634 T635 F636 h637 => ?_
      exact mr_vret dX3_readAttributes_52 rfl (le_t rfl) (le_t rfl) T635 (mF.call (mF.call mF.refl F558 rfl) F636 rfl) ⟨f_c2, f_s2, (F636.f (A_76 hw) rfl q563), (cntF F636 (A_77 hw) rfl rfl q564), (vc_X3_readAttribute_59 h560 h566 h567), trivial⟩
  refine mr_lvS (lv' := [(0, .ref 76), (2, iv p2), (3, iv p1)]) (List.forall_mem_cons.mpr ⟨rfl, List.forall_mem_cons.mpr ⟨rfl, List.forall_mem_cons.mpr ⟨rfl, fun _ h => absurd h List.not_mem_nil⟩⟩⟩) ?_
  exact L555 1004 p1 μ f_cc f_s hT mF.refl q_f_cc q_f_s hp1 (vc_X3_readAttribute_59 hq0 ht_f_cc ht_f_s) hIOC (vc_X3_readAttributes_23 hp1)
theorem vc_X3_readParts_1 {f_wd : Int} (h0 : f_wd = 0) (h1 : 0 ≤ f_wd ∧ f_wd ≤ 1000) : 0 ≤ f_wd ∧ f_wd ≤ 0 := by omega
theorem vc_X3_readParts_3 {p1 z241 : Int} (h0 : z241 ≤ p1) (h1 : 0 ≤ p1 ∧ p1 ≤ 1000) (h2 : 2 ≤ z241 ∧ z241 ≤ 65537) : 2 ≤ z241 ∧ z241 ≤ 1000 := by omega
theorem vc_X3_readParts_4 {p1 z241 : Int} (h0 : z241 ≤ p1) (h1 : 0 ≤ p1 ∧ p1 ≤ 1000) (h2 : 2 ≤ z241 ∧ z241 ≤ 1000) : 2 ≤ p1 ∧ p1 ≤ 1000 := by omega
theorem vc_X3_readParts_5 {p1 z241 z262 : Int} (h0 : z262 ≤ p1) (h1 : z241 ≤ p1) (h2 : 2 ≤ p1 ∧ p1 ≤ 1000) (h3 : 2 ≤ z241 ∧ z241 ≤ 1000) (h4 : 4 ≤ z262 ∧ z262 ≤ 66535) : 4 ≤ z262 ∧ z262 ≤ 1000 := by omega
theorem vc_X3_readParts_6 {p1 z241 z262 : Int} (h0 : z262 ≤ p1) (h1 : z241 ≤ p1) (h2 : 2 ≤ p1 ∧ p1 ≤ 1000) (h3 : 2 ≤ z241 ∧ z241 ≤ 1000) (h4 : 4 ≤ z262 ∧ z262 ≤ 1000) : 4 ≤ p1 ∧ p1 ≤ 1000 := by omega
theorem vc_X3_readParts_8 {z251 z283 : Int} (h0 : z283 ≤ 0) (h1 : z283 + z251 ≤ 1000) (h2 : 0 ≤ z251 ∧ z251 ≤ 1000) (h3 : 0 ≤ z283 ∧ z283 ≤ 1000) : 0 ≤ z283 ∧ z283 ≤ 0 := by omega
theorem vc_X3_readParts_9 {z251 z283 : Int} (h0 : z251 + (0 : Int) ≤ 1000) (h1 : z283 + z251 ≤ 1000) (h2 : z283 ≤ 0) (h3 : 0 ≤ z251 ∧ z251 ≤ 1000) (h4 : 0 ≤ z283 ∧ z283 ≤ 0) : z251 + z283 ≤ 1000 := by omega
theorem vc_X3_readParts_10 {z251 z283 : Int} (h0 : 0 < z283) (h1 : z283 + z251 ≤ 1000) (h2 : 0 ≤ z251 ∧ z251 ≤ 1000) (h3 : 0 ≤ z283 ∧ z283 ≤ 1000) : 1 ≤ z283 ∧ z283 ≤ 1000 := by omega
theorem vc_X3_readParts_12 {z251 z283 : Int} (h0 : z251 + (0 : Int) ≤ 1000) (h1 : z283 + z251 ≤ 1000) (h2 : 0 < z283) (h3 : 0 ≤ z251 ∧ z251 ≤ 1000) (h4 : 1 ≤ z283 ∧ z283 ≤ 1000) : z251 + z283 ≤ 1000 := by omega
theorem vc_X3_readParts_16 {f_an z251 : Int} (h0 : f_an = 0) (h1 : z251 + (0 : Int) ≤ 1000) (h2 : 0 ≤ f_an ∧ f_an ≤ 0) (h3 : 0 ≤ z251 ∧ z251 ≤ 1000) : z251 + f_an ≤ 1000 := by omega
theorem vc_X3_readParts_17 {p1 z241 : Int} (h0 : (z241 + 2) ≤ p1) (h1 : z241 ≤ p1) (h2 : 2 ≤ p1 ∧ p1 ≤ 1000) (h3 : 2 ≤ z241 ∧ z241 ≤ 1000) : 2 ≤ z241 ∧ z241 ≤ 998 := by omega
theorem vc_X3_readParts_18 {p1 z241 : Int} (h0 : (z241 + 2) ≤ p1) (h1 : z241 ≤ p1) (h2 : 2 ≤ p1 ∧ p1 ≤ 1000) (h3 : 2 ≤ z241 ∧ z241 ≤ 998) : 4 ≤ p1 ∧ p1 ≤ 1000 := by omega
theorem vc_X3_readParts_19 {f_an f_wd : Int} (h0 : f_wd = 0) (h1 : f_an = 0) (h2 : 0 ≤ f_an ∧ f_an ≤ 0) (h3 : 0 ≤ f_wd ∧ f_wd ≤ 0) : f_wd + f_an ≤ 1000 := by omega
theorem vc_X3_readParts_20 {p1 : Int} (h0 : p1 < 2) (h1 : 0 ≤ p1 ∧ p1 ≤ 1000) : 0 ≤ p1 ∧ p1 ≤ 1 := by omega
theorem vc_X3_readParts_21 {p1 : Int} (h0 : 2 ≤ p1) (h1 : 0 ≤ p1 ∧ p1 ≤ 1000) : 2 ≤ p1 ∧ p1 ≤ 1000 := by omega
set_option maxRecDepth 4000 in
set_option maxHeartbeats 4000000 in
theorem c_X3_readParts {l : Launch} {D : va_G} {c : Nat → ClassId} {H0 : Heap} {sa : Nat × Nat × (Nat → Int32)} {w : mW} {μ : mM} (hw : mWF w) (hT : mT w μ) {p1 : Int} (hp1 : 0 ≤ p1 ∧ p1 ≤ 1000) {f_cc : Int} (q_f_cc : μ 76 5 = f_cc) {f_s : Int} (q_f_s : cnt μ 77 256 = f_s) {f_wd : Int} (q_f_wd : μ 76 13 = f_wd) {f_an : Int} (q_f_an : μ 76 14 = f_an) (hq0 : f_cc ≤ f_s) (hq1 : f_wd = 0) (hq2 : f_an = 0) (hIOC : OC μ) : sC (gG l D c H0 sa) mX3_readParts 6 0 0 [.ref 76, iv p1] (mk w μ) (qV w [76005, 76006, 76007, 76008, 76013, 76014, 77999, 78999, 79999, 80999, 84999, 85999, 200005, 200006, 200007, 201999] μ (fun μ1 => ∃ o_wd o_an : Int, μ1 76 13 = o_wd ∧ μ1 76 14 = o_an ∧ (o_wd + o_an ≤ 1000) ∧ True)) := by
  refine sC.of rfl (by decide) (le_t rfl) ?_
  have ht_f_cc : (0 ≤ f_cc ∧ f_cc ≤ 256) := by rw [← q_f_cc]; exact hT 76 76 (A_76 hw) 5
  have ht_f_s : 0 ≤ f_s ∧ f_s ≤ 256 := by rw [← q_f_s]; exact cnt_rng (fun i => hT 77 77 (A_77 hw) i) 256
  have ht_f_wd : (0 ≤ f_wd ∧ f_wd ≤ 1000) := by rw [← q_f_wd]; exact hT 76 76 (A_76 hw) 13
  have ht_f_an : (0 ≤ f_an ∧ f_an ≤ 1000) := by rw [← q_f_an]; exact hT 76 76 (A_76 hw) 14
  have h1 : 0 ≤ f_wd ∧ f_wd ≤ 0 := (vc_X3_readParts_1 hq1 ht_f_wd)
  have h2 : 0 ≤ f_an ∧ f_an ≤ 0 := (vc_X3_readParts_1 hq2 ht_f_an)
  refine mr_lvE (lv' := [(0, .ref 76), (1, iv p1)]) rfl ?_
  refine mr_iconst (pc := 0) (z := 2) dX3_readParts_0 ?_
  refine mr_istore_n (pc := 1) (lv' := [(2, iv 2), (0, .ref 76), (1, iv p1)]) dX3_readParts_1 rfl (by decide) rfl ?_
  refine mr_iload_n (pc := 2) (z := p1) dX3_readParts_2 rfl rfl ?_
  refine mr_iconst (pc := 3) (z := 2) dX3_readParts_3 ?_
  have J243 : ∀ (z241 : Int), ((2 ≤ z241 ∧ z241 ≤ 65537)) → sV (gG l D c H0 sa) mX3_readParts (sRm 6 0 0) (sZ (gG l D c H0 sa) 0 0 (qV w [76005, 76006, 76007, 76008, 76013, 76014, 77999, 78999, 79999, 80999, 84999, 85999, 200005, 200006, 200007, 201999] μ (fun μ1 => ∃ o_wd o_an : Int, μ1 76 13 = o_wd ∧ μ1 76 14 = o_an ∧ (o_wd + o_an ≤ 1000) ∧ True))) 15 [(0, .ref 76), (1, iv p1), (2, iv z241)] [] (mk w μ) 0 0 := by
    intro z241 h242
    refine mr_iload_n (pc := 15) (z := z241) dX3_readParts_15 rfl rfl ?_
    refine mr_iload_n (pc := 16) (z := p1) dX3_readParts_16 rfl rfl ?_
    refine mr_icmp_le (pc := 17) (tgt := 27) dX3_readParts_17 (by decide) (r32 h242 rfl) (r32 hp1 rfl) (fun h244 => ?_) (fun h244 => ?_)
    · have h245 : 2 ≤ z241 ∧ z241 ≤ 1000 := (vc_X3_readParts_3 h244 hp1 h242)
      have h246 : 2 ≤ p1 ∧ p1 ≤ 1000 := (vc_X3_readParts_4 h244 hp1 h245)
      refine sv_aload_n (pc := 27) dX3_readParts_27 rfl rfl ?_
      refine sv_aload_n (pc := 28) dX3_readParts_28 rfl rfl ?_
      refine mr_iconst (pc := 29) (z := 2) dX3_readParts_29 ?_
      refine mr_iload_n (pc := 30) (z := z241) dX3_readParts_30 rfl rfl ?_
      refine mr_iconst (pc := 31) (z := 0) dX3_readParts_31 ?_
      refine mr_cVI (pc := 32) (c_X3_readPrefixes hw hT (rW (c := 0) (d := 1000) (rR (x := 2)) rfl) (rW (c := 0) (d := 1000) h245 rfl) (rW (c := 0) (d := 1000) (rR (x := 0)) rfl) hIOC) (gOk _ _ _ _ _) dX3_readParts_32 (tX3_readPrefixes _ _ _ _ _) ⟨wV_X3_readPrefixes, wL_X3_readPrefixes⟩ wM_X3_95 (gCX3 _ _ _ _ _) rfl (A_76 hw) rfl ⟨le_t rfl, le_t rfl⟩ ⟨le_t rfl, le_t rfl⟩ rfl (le_t rfl) fun z251 μ247 T248 F249 h250 => ?_
      refine pf_X3_13 (pc := 35) dX3_readParts_35 wF_X3_63 (A_76 hw) T248 h250.1 fun μ252 u253 T254 => ?_
      refine mr_iload_n (pc := 38) (z := z241) dX3_readParts_38 rfl rfl ?_
      refine mr_iconst (pc := 39) (z := 2) dX3_readParts_39 ?_
      refine mr_iadd (pc := 40) (x := z241) (y := 2) dX3_readParts_40 ?_
      refine mr_istore_n (pc := 41) (lv' := [(3, iv (z241 + 2)), (0, .ref 76), (1, iv p1), (2, iv z241)]) dX3_readParts_41 rfl (by decide) rfl ?_
      refine mr_iload_n (pc := 42) (z := (z241 + 2)) dX3_readParts_42 rfl rfl ?_
      refine mr_iload_n (pc := 43) (z := p1) dX3_readParts_43 rfl rfl ?_
      have J264 : ∀ (z262 : Int), ((4 ≤ z262 ∧ z262 ≤ 66535)) → sV (gG l D c H0 sa) mX3_readParts (sRm 6 0 0) (sZ (gG l D c H0 sa) 0 0 (qV w [76005, 76006, 76007, 76008, 76013, 76014, 77999, 78999, 79999, 80999, 84999, 85999, 200005, 200006, 200007, 201999] μ (fun μ1 => ∃ o_wd o_an : Int, μ1 76 13 = o_wd ∧ μ1 76 14 = o_an ∧ (o_wd + o_an ≤ 1000) ∧ True))) 55 [(0, .ref 76), (1, iv p1), (2, iv z241), (3, iv z262)] [] (mk w μ252) 0 0 := by
        intro z262 h263
        refine mr_iload_n (pc := 55) (z := z262) dX3_readParts_55 rfl rfl ?_
        refine mr_iload_n (pc := 56) (z := p1) dX3_readParts_56 rfl rfl ?_
        refine mr_icmp_le (pc := 57) (tgt := 67) dX3_readParts_57 (by decide) (r32 h263 rfl) (r32 h246 rfl) (fun h265 => ?_) (fun h265 => ?_)
        · have h266 : 4 ≤ z262 ∧ z262 ≤ 1000 := (vc_X3_readParts_5 h265 h244 h246 h245 h263)
          have h267 : 4 ≤ p1 ∧ p1 ≤ 1000 := (vc_X3_readParts_6 h265 h244 h246 h245 h266)
          refine sv_aload_n (pc := 67) dX3_readParts_67 rfl rfl ?_
          refine mr_iload_n (pc := 68) (z := z241) dX3_readParts_68 rfl rfl ?_
          refine mr_iconst (pc := 69) (z := 2) dX3_readParts_69 ?_
          refine mr_iadd (pc := 70) (x := z241) (y := 2) dX3_readParts_70 ?_
          refine mr_iload_n (pc := 71) (z := z262) dX3_readParts_71 rfl rfl ?_
          refine mr_cVV (pc := 72) (c_X3_readAttributes hw T254 (rW (c := 0) (d := 1002) (rAdd (e := 4) (f := 1002) h245 (rR (x := 2)) rfl) rfl) (rW (c := 0) (d := 1000) h266 rfl) (u253.f (Or.inr (by decide)) (F249.f (A_76 hw) rfl q_f_cc)) (cntO u253 (by decide) (cntF F249 (A_77 hw) rfl rfl q_f_s)) (vc_X3_readAttribute_59 hq0 ht_f_cc ht_f_s) (OC.keep hIOC hw ((mF.up (mF.call mF.refl F249 rfl) (A_76 hw) u253 rfl) : mF [76013, 80999, 84999, 85999] w μ μ252) rfl)) (gOk _ _ _ _ _) dX3_readParts_72 (tX3_readAttributes _ _ _ _ _) ⟨wV_X3_readAttributes, wL_X3_readAttributes⟩ wM_X3_99 (gCX3 _ _ _ _ _) rfl (A_76 hw) rfl ⟨le_t rfl, le_t rfl⟩ ⟨le_t rfl, le_t rfl⟩ rfl (le_t rfl) fun μ268 T269 F270 h271 => ?_
          obtain ⟨z272, z274, q273, q275, h276⟩ := h271
          have h277 : (0 ≤ z272 ∧ z272 ≤ 256) := by rw [← q273]; exact T269 76 76 (A_76 hw) 5
          have h278 : 0 ≤ z274 ∧ z274 ≤ 256 := by rw [← q275]; exact cnt_rng (fun i => T269 77 77 (A_77 hw) i) 256
          refine sv_aload_n (pc := 75) dX3_readParts_75 rfl rfl ?_
          refine sv_aload_n (pc := 76) dX3_readParts_76 rfl rfl ?_
          refine mr_iload_n (pc := 77) (z := z262) dX3_readParts_77 rfl rfl ?_
          refine mr_iload_n (pc := 78) (z := p1) dX3_readParts_78 rfl rfl ?_
          refine sv_aload_n (pc := 79) dX3_readParts_79 rfl rfl ?_
          refine gk_X3_13 (pc := 80) dX3_readParts_80 wF_X3_63 (A_76 hw) (F270.f (A_76 hw) rfl u253.1) ?_
          refine mr_cVI (pc := 83) (c_X3_readPrefixes hw T269 (rW (c := 0) (d := 1000) h266 rfl) (rW (c := 0) (d := 1000) h267 rfl) h250.1 (OC.keep hIOC hw ((mF.call (mF.up (mF.call mF.refl F249 rfl) (A_76 hw) u253 rfl) F270 rfl) : mF [76005, 76006, 76007, 76008, 76013, 77999, 78999, 79999, 80999, 84999, 85999, 200005, 200006, 200007, 201999] w μ μ268) rfl)) (gOk _ _ _ _ _) dX3_readParts_83 (tX3_readPrefixes _ _ _ _ _) ⟨wV_X3_readPrefixes, wL_X3_readPrefixes⟩ wM_X3_95 (gCX3 _ _ _ _ _) rfl (A_76 hw) rfl ⟨le_t rfl, le_t rfl⟩ ⟨le_t rfl, le_t rfl⟩ rfl (le_t rfl) fun z283 μ279 T280 F281 h282 => ?_
          refine pf_X3_14 (pc := 86) dX3_readParts_86 wF_X3_66 (A_76 hw) T280 h282.1 fun μ284 u285 T286 => ?_
          refine sv_aload_n (pc := 89) dX3_readParts_89 rfl rfl ?_
          refine gk_X3_14 (pc := 90) dX3_readParts_90 wF_X3_66 (A_76 hw) u285.1 ?_
          refine mr_if_le (pc := 93) (tgt := 116) dX3_readParts_93 (by decide) (r32 h282.1 rfl) (fun h307 => ?_) (fun h307 => ?_)
          · have h308 : 0 ≤ z283 ∧ z283 ≤ 0 := (vc_X3_readParts_8 h307 h282.2.1 h250.1 h282.1)
            exact mr_vret dX3_readParts_116 rfl (le_t rfl) (le_t rfl) T286 (mF.up (mF.call (mF.call (mF.up (mF.call mF.refl F249 rfl) (A_76 hw) u253 rfl) F270 rfl) F281 rfl) (A_76 hw) u285 rfl) ⟨z251, z283, (u285.f (Or.inr (by decide)) (F281.f (A_76 hw) rfl (F270.f (A_76 hw) rfl u253.1))), u285.1, (vc_X3_readParts_9 h250.2.1 h282.2.1 h307 h250.1 h308), trivial⟩
          have h309 : 1 ≤ z283 ∧ z283 ≤ 1000 := (vc_X3_readParts_10 h307 h282.2.1 h250.1 h282.1)
          refine sv_aload_n (pc := 96) dX3_readParts_96 rfl rfl ?_
          refine gf_X3_7 (pc := 97) dX3_readParts_97 wF_X3_82 (A_76 hw) T286 fun z310 q311 h312 => ?_
          refine mr_if_eq (pc := 100) (tgt := 110) dX3_readParts_100 (by decide) (r32 h312 rfl) (fun h328 => ?_) (fun h328 => ?_)
          · have h329 : 0 ≤ z310 ∧ z310 ≤ 0 := (vc_X12_ring_22 h328 h312)
            refine sv_aload_n (pc := 110) dX3_readParts_110 rfl rfl ?_
            refine mr_iconst (pc := 111) (z := 2) dX3_readParts_111 ?_
            refine mr_iload_n (pc := 112) (z := z262) dX3_readParts_112 rfl rfl ?_
            refine mr_cVV (pc := 113) (c_X3_note hw T286 (rW (c := 0) (d := 3) (rR (x := 2)) rfl) (rW (c := (-2147483648)) (d := 2147483647) h266 rfl)) (gOk _ _ _ _ _) dX3_readParts_113 (tX3_note _ _ _ _ _) ⟨wV_X3_note, wL_X3_note⟩ wM_X3_92 (gCX3 _ _ _ _ _) rfl (A_76 hw) rfl ⟨le_t rfl, le_t rfl⟩ ⟨le_t rfl, le_t rfl⟩ rfl (le_t rfl) fun μ330 T331 F332 h333 => ?_
            exact mr_vret dX3_readParts_116 rfl (le_t rfl) (le_t rfl) T331 (mF.call (mF.up (mF.call (mF.call (mF.up (mF.call mF.refl F249 rfl) (A_76 hw) u253 rfl) F270 rfl) F281 rfl) (A_76 hw) u285 rfl) F332 rfl) ⟨z251, z283, (F332.f (A_76 hw) rfl (u285.f (Or.inr (by decide)) (F281.f (A_76 hw) rfl (F270.f (A_76 hw) rfl u253.1)))), (F332.f (A_76 hw) rfl u285.1), (vc_X3_readParts_12 h250.2.1 h282.2.1 h307 h250.1 h309), trivial⟩
          have h334 : 1 ≤ z310 ∧ z310 ≤ 1 := (vc_X12_ring_24 h328 h312)
          refine sv_aload_n (pc := 103) dX3_readParts_103 rfl rfl ?_
          refine gf_X3_8 (pc := 104) dX3_readParts_104 wF_X3_85 (A_76 hw) T286 fun z335 q336 h337 => ?_
          refine mr_if_ne (pc := 107) (tgt := 116) dX3_readParts_107 (by decide) (r32 h337 rfl) (fun h344 => ?_) (fun h344 => ?_)
          · have h345 : 1 ≤ z335 ∧ z335 ≤ 1 := (vc_X12_ring_24 h344 h337)
            exact mr_vret dX3_readParts_116 rfl (le_t rfl) (le_t rfl) T286 (mF.up (mF.call (mF.call (mF.up (mF.call mF.refl F249 rfl) (A_76 hw) u253 rfl) F270 rfl) F281 rfl) (A_76 hw) u285 rfl) ⟨z251, z283, (u285.f (Or.inr (by decide)) (F281.f (A_76 hw) rfl (F270.f (A_76 hw) rfl u253.1))), u285.1, (vc_X3_readParts_12 h250.2.1 h282.2.1 h307 h250.1 h309), trivial⟩
          have h346 : 0 ≤ z335 ∧ z335 ≤ 0 := (vc_X12_ring_22 h344 h337)
          refine sv_aload_n (pc := 110) dX3_readParts_110 rfl rfl ?_
          refine mr_iconst (pc := 111) (z := 2) dX3_readParts_111 ?_
          refine mr_iload_n (pc := 112) (z := z262) dX3_readParts_112 rfl rfl ?_
          refine mr_cVV (pc := 113) (c_X3_note hw T286 (rW (c := 0) (d := 3) (rR (x := 2)) rfl) (rW (c := (-2147483648)) (d := 2147483647) h266 rfl)) (gOk _ _ _ _ _) dX3_readParts_113 (tX3_note _ _ _ _ _) ⟨wV_X3_note, wL_X3_note⟩ wM_X3_92 (gCX3 _ _ _ _ _) rfl (A_76 hw) rfl ⟨le_t rfl, le_t rfl⟩ ⟨le_t rfl, le_t rfl⟩ rfl (le_t rfl) fun μ347 T348 F349 h350 => ?_
          exact mr_vret dX3_readParts_116 rfl (le_t rfl) (le_t rfl) T348 (mF.call (mF.up (mF.call (mF.call (mF.up (mF.call mF.refl F249 rfl) (A_76 hw) u253 rfl) F270 rfl) F281 rfl) (A_76 hw) u285 rfl) F349 rfl) ⟨z251, z283, (F349.f (A_76 hw) rfl (u285.f (Or.inr (by decide)) (F281.f (A_76 hw) rfl (F270.f (A_76 hw) rfl u253.1)))), (F349.f (A_76 hw) rfl u285.1), (vc_X3_readParts_12 h250.2.1 h282.2.1 h307 h250.1 h309), trivial⟩
        refine sv_aload_n (pc := 60) dX3_readParts_60 rfl rfl ?_
        refine mr_iconst (pc := 61) (z := 1) dX3_readParts_61 ?_
        refine mr_iload_n (pc := 62) (z := z241) dX3_readParts_62 rfl rfl ?_
        refine mr_cVV (pc := 63) (c_X3_note hw T254 (rW (c := 0) (d := 3) (rR (x := 1)) rfl) (rW (c := (-2147483648)) (d := 2147483647) h245 rfl)) (gOk _ _ _ _ _) dX3_readParts_63 (tX3_note _ _ _ _ _) ⟨wV_X3_note, wL_X3_note⟩ wM_X3_92 (gCX3 _ _ _ _ _) rfl (A_76 hw) rfl ⟨le_t rfl, le_t rfl⟩ ⟨le_t rfl, le_t rfl⟩ rfl (le_t rfl) fun μ351 T352 F353 h354 => ?_
        exact mr_vret dX3_readParts_66 rfl (le_t rfl) (le_t rfl) T352 (mF.call (mF.up (mF.call mF.refl F249 rfl) (A_76 hw) u253 rfl) F353 rfl) ⟨z251, f_an, (F353.f (A_76 hw) rfl u253.1), (F353.f (A_76 hw) rfl (u253.f (Or.inr (by decide)) (F249.f (A_76 hw) rfl q_f_an))), (vc_X3_readParts_16 hq2 h250.2.1 h2 h250.1), trivial⟩
      refine mr_icmp_gt (pc := 44) (tgt := 55) dX3_readParts_44 (by decide) (r32 (rAdd (e := 4) (f := 1002) h245 (rR (x := 2)) rfl) rfl) (r32 h246 rfl) (fun h355 => ?_) (fun h355 => ?_)
      · refine mr_lvS (lv' := [(0, .ref 76), (1, iv p1), (2, iv z241), (3, iv (z241 + 2))]) (List.forall_mem_cons.mpr ⟨rfl, List.forall_mem_cons.mpr ⟨rfl, List.forall_mem_cons.mpr ⟨rfl, List.forall_mem_cons.mpr ⟨rfl, fun _ h => absurd h List.not_mem_nil⟩⟩⟩⟩) ?_
        exact J264 (z241 + 2) (rW (c := 4) (d := 66535) (rAdd (e := 4) (f := 1002) h245 (rR (x := 2)) rfl) rfl)
      have h356 : 2 ≤ z241 ∧ z241 ≤ 998 := (vc_X3_readParts_17 h355 h244 h246 h245)
      have h357 : 4 ≤ p1 ∧ p1 ≤ 1000 := (vc_X3_readParts_18 h355 h244 h246 h356)
      refine mr_iload_n (pc := 47) (z := (z241 + 2)) dX3_readParts_47 rfl rfl ?_
      refine sv_aload_n (pc := 48) dX3_readParts_48 rfl rfl ?_
      refine mr_iload_n (pc := 49) (z := z241) dX3_readParts_49 rfl rfl ?_
      refine mr_cVP (pc := 50) (c_X3_pairAt hw T254 (rW (c := 0) (d := 998) h356 rfl) (OC.keep hIOC hw ((mF.up (mF.call mF.refl F249 rfl) (A_76 hw) u253 rfl) : mF [76013, 80999, 84999, 85999] w μ μ252) rfl)) (gOk _ _ _ _ _) dX3_readParts_50 (tX3_pairAt _ _ _ _ _) ⟨wV_X3_pairAt, wL_X3_pairAt⟩ wM_X3_88 (gCX3 _ _ _ _ _) rfl (A_76 hw) rfl ⟨le_t rfl, le_t rfl⟩ ⟨le_t rfl, le_t rfl⟩ rfl (le_t rfl) fun z362 h361 => ?_
      refine mr_iadd (pc := 53) (x := (z241 + 2)) (y := z362) dX3_readParts_53 ?_
      refine mr_istore_n (pc := 54) (lv' := [(3, iv ((z241 + 2) + z362)), (0, .ref 76), (1, iv p1), (2, iv z241)]) dX3_readParts_54 rfl (by decide) rfl ?_
      refine mr_lvS (lv' := [(0, .ref 76), (1, iv p1), (2, iv z241), (3, iv ((z241 + 2) + z362))]) (List.forall_mem_cons.mpr ⟨rfl, List.forall_mem_cons.mpr ⟨rfl, List.forall_mem_cons.mpr ⟨rfl, List.forall_mem_cons.mpr ⟨rfl, fun _ h => absurd h List.not_mem_nil⟩⟩⟩⟩) ?_
      exact J264 ((z241 + 2) + z362) (rAdd (e := 4) (f := 66535) (rAdd (e := 4) (f := 1000) h356 (rR (x := 2)) rfl) h361.1 rfl)
    refine sv_aload_n (pc := 20) dX3_readParts_20 rfl rfl ?_
    refine mr_iconst (pc := 21) (z := 1) dX3_readParts_21 ?_
    refine mr_iconst (pc := 22) (z := 0) dX3_readParts_22 ?_
    refine mr_cVV (pc := 23) (c_X3_note hw hT (rW (c := 0) (d := 3) (rR (x := 1)) rfl) (rW (c := (-2147483648)) (d := 2147483647) (rR (x := 0)) rfl)) (gOk _ _ _ _ _) dX3_readParts_23 (tX3_note _ _ _ _ _) ⟨wV_X3_note, wL_X3_note⟩ wM_X3_92 (gCX3 _ _ _ _ _) rfl (A_76 hw) rfl ⟨le_t rfl, le_t rfl⟩ ⟨le_t rfl, le_t rfl⟩ rfl (le_t rfl) fun μ363 T364 F365 h366 => ?_
    exact mr_vret dX3_readParts_26 rfl (le_t rfl) (le_t rfl) T364 (mF.call mF.refl F365 rfl) ⟨f_wd, f_an, (F365.f (A_76 hw) rfl q_f_wd), (F365.f (A_76 hw) rfl q_f_an), (vc_X3_readParts_19 hq1 hq2 h2 h1), trivial⟩
  refine mr_icmp_lt (pc := 4) (tgt := 15) dX3_readParts_4 (by decide) (r32 hp1 rfl) (r32 (rR (x := 2)) rfl) (fun h367 => ?_) (fun h367 => ?_)
  · have h368 : 0 ≤ p1 ∧ p1 ≤ 1 := (vc_X3_readParts_20 h367 hp1)
    refine mr_lvS (lv' := [(0, .ref 76), (1, iv p1), (2, iv 2)]) (List.forall_mem_cons.mpr ⟨rfl, List.forall_mem_cons.mpr ⟨rfl, List.forall_mem_cons.mpr ⟨rfl, fun _ h => absurd h List.not_mem_nil⟩⟩⟩) ?_
    exact J243 2 (rW (c := 2) (d := 65537) (rR (x := 2)) rfl)
  have h369 : 2 ≤ p1 ∧ p1 ≤ 1000 := (vc_X3_readParts_21 h367 hp1)
  refine mr_iload_n (pc := 7) (z := 2) dX3_readParts_7 rfl rfl ?_
  refine sv_aload_n (pc := 8) dX3_readParts_8 rfl rfl ?_
  refine mr_iconst (pc := 9) (z := 0) dX3_readParts_9 ?_
  refine mr_cVP (pc := 10) (c_X3_pairAt hw hT (rW (c := 0) (d := 998) (rR (x := 0)) rfl) hIOC) (gOk _ _ _ _ _) dX3_readParts_10 (tX3_pairAt _ _ _ _ _) ⟨wV_X3_pairAt, wL_X3_pairAt⟩ wM_X3_88 (gCX3 _ _ _ _ _) rfl (A_76 hw) rfl ⟨le_t rfl, le_t rfl⟩ ⟨le_t rfl, le_t rfl⟩ rfl (le_t rfl) fun z374 h373 => ?_
  refine mr_iadd (pc := 13) (x := 2) (y := z374) dX3_readParts_13 ?_
  refine mr_istore_n (pc := 14) (lv' := [(2, iv (2 + z374)), (0, .ref 76), (1, iv p1)]) dX3_readParts_14 rfl (by decide) rfl ?_
  refine mr_lvS (lv' := [(0, .ref 76), (1, iv p1), (2, iv (2 + z374))]) (List.forall_mem_cons.mpr ⟨rfl, List.forall_mem_cons.mpr ⟨rfl, List.forall_mem_cons.mpr ⟨rfl, fun _ h => absurd h List.not_mem_nil⟩⟩⟩) ?_
  exact J243 (2 + z374) (rAdd (e := 2) (f := 65537) (rR (x := 2)) h373.1 rfl)
theorem vc_X3_forget_z_1  : ((0 : Int) : Int) = (0 : Int) := by omega
set_option maxRecDepth 4000 in
set_option maxHeartbeats 4000000 in
theorem c_X3_forget_z {l : Launch} {D : va_G} {c : Nat → ClassId} {H0 : Heap} {sa : Nat × Nat × (Nat → Int32)} {w : mW} {μ : mM} (hw : mWF w) (hT : mT w μ) : sC (gG l D c H0 sa) mX3_forget 3 0 0 [.ref 76] (mk w μ) (qV w [76005, 76006, 76007, 76008, 76013, 76014, 76016, 77999, 80999, 200002, 200003, 200004, 200005, 200006, 200007, 200008] μ (fun μ1 => ∃ o_cc o_wd o_an : Int, μ1 76 5 = o_cc ∧ μ1 76 13 = o_wd ∧ μ1 76 14 = o_an ∧ (o_cc = 0) ∧ (o_wd = 0) ∧ (o_an = 0) ∧ True)) := by
  refine sC.of rfl (by decide) (le_t rfl) ?_
  refine mr_lvE (lv' := [(0, .ref 76)]) rfl ?_
  refine sv_aload_n (pc := 0) dX3_forget_0 rfl rfl ?_
  refine gf_X3_3 (pc := 1) dX3_forget_1 wF_X3_22 (A_76 hw) hT ?_
  refine mr_ldc (pc := 4) (z := (-99999999)) dX3_forget_4 wG_X3_21 (by decide) ?_
  refine mr_fillI (pc := 6) dX3_forget_6 wM_X3_69 (A_80 hw) rfl ((A_80 hw).2.2.2 rfl) (lt_t rfl) hT (fun _ => (rW (c := (-2147483648)) (d := 2147483647) (rR (x := (-99999999))) rfl)) ⟨le_t rfl, le_t rfl⟩ ⟨le_t rfl, le_t rfl⟩ (le_t rfl) fun μ1 q2 T3 => ?_
  have F4 : mF [80999] w μ μ1 := mF.cell q2.1 (A_80 hw) rfl
  refine sv_aload_n (pc := 9) dX3_forget_9 rfl rfl ?_
  refine gf_X3_0 (pc := 10) dX3_forget_10 wF_X3_11 (A_76 hw) T3 ?_
  refine mr_iconst (pc := 13) (z := 0) dX3_forget_13 ?_
  refine mr_fillI (pc := 14) dX3_forget_14 wM_X3_69 (A_77 hw) rfl ((A_77 hw).2.2.2 rfl) (lt_t rfl) T3 (fun _ => (rW (c := 0) (d := 1) (rR (x := 0)) rfl)) ⟨le_t rfl, le_t rfl⟩ ⟨le_t rfl, le_t rfl⟩ (le_t rfl) fun μ5 q6 T7 => ?_
  have F8 : mF [77999] w μ1 μ5 := mF.cell q6.1 (A_77 hw) rfl
  refine sv_aload_n (pc := 17) dX3_forget_17 rfl rfl ?_
  refine gf_X3_9 (pc := 18) dX3_forget_18 wF_X3_28 (A_76 hw) T7 ?_
  refine mr_iconst (pc := 21) (z := 0) dX3_forget_21 ?_
  refine mr_iconst (pc := 22) (z := 0) dX3_forget_22 ?_
  refine mr_cVV (pc := 23) (c_X7_begin hw T7 (A_81 hw) (rW (c := 0) (d := 9) (rR (x := 0)) rfl) (rW (c := (-2147483648)) (d := 2147483647) (rR (x := 0)) rfl)) (gOk _ _ _ _ _) dX3_forget_23 (tX7_begin _ _ _ _ _) ⟨wV_X7_begin, wL_X7_begin⟩ wM_X3_75 (gCX7 _ _ _ _ _) rfl (A_81 hw) rfl ⟨le_t rfl, le_t rfl⟩ ⟨le_t rfl, le_t rfl⟩ rfl (le_t rfl) fun μ9 T10 F11 h12 => ?_
  refine sv_aload_n (pc := 26) dX3_forget_26 rfl rfl ?_
  refine mr_iconst (pc := 27) (z := 0) dX3_forget_27 ?_
  refine pf_X3_5 (pc := 28) dX3_forget_28 wF_X3_79 (A_76 hw) T10 (rW (c := 0) (d := 256) (rR (x := 0)) rfl) fun μ13 u14 T15 => ?_
  refine sv_aload_n (pc := 31) dX3_forget_31 rfl rfl ?_
  refine mr_iconst (pc := 32) (z := 0) dX3_forget_32 ?_
  refine pf_X3_6 (pc := 33) dX3_forget_33 wF_X3_59 (A_76 hw) T15 (rW (c := 0) (d := 8) (rR (x := 0)) rfl) fun μ16 u17 T18 => ?_
  refine sv_aload_n (pc := 36) dX3_forget_36 rfl rfl ?_
  refine mr_iconst (pc := 37) (z := 0) dX3_forget_37 ?_
  refine pf_X3_7 (pc := 38) dX3_forget_38 wF_X3_82 (A_76 hw) T18 (rW (c := 0) (d := 1) (rR (x := 0)) rfl) fun μ19 u20 T21 => ?_
  refine sv_aload_n (pc := 41) dX3_forget_41 rfl rfl ?_
  refine mr_iconst (pc := 42) (z := 0) dX3_forget_42 ?_
  refine pf_X3_8 (pc := 43) dX3_forget_43 wF_X3_85 (A_76 hw) T21 (rW (c := 0) (d := 1) (rR (x := 0)) rfl) fun μ22 u23 T24 => ?_
  refine sv_aload_n (pc := 46) dX3_forget_46 rfl rfl ?_
  refine mr_iconst (pc := 47) (z := 0) dX3_forget_47 ?_
  refine pf_X3_13 (pc := 48) dX3_forget_48 wF_X3_63 (A_76 hw) T24 (rW (c := 0) (d := 1000) (rR (x := 0)) rfl) fun μ25 u26 T27 => ?_
  refine sv_aload_n (pc := 51) dX3_forget_51 rfl rfl ?_
  refine mr_iconst (pc := 52) (z := 0) dX3_forget_52 ?_
  refine pf_X3_14 (pc := 53) dX3_forget_53 wF_X3_66 (A_76 hw) T27 (rW (c := 0) (d := 1000) (rR (x := 0)) rfl) fun μ28 u29 T30 => ?_
  refine sv_aload_n (pc := 56) dX3_forget_56 rfl rfl ?_
  refine mr_iconst (pc := 57) (z := 0) dX3_forget_57 ?_
  refine pf_X3_16 (pc := 58) dX3_forget_58 wF_X3_51 (A_76 hw) T30 (rW (c := 0) (d := 1) (rR (x := 0)) rfl) fun μ31 u32 T33 => ?_
  exact mr_vret dX3_forget_61 rfl (le_t rfl) (le_t rfl) T33 (mF.up (mF.up (mF.up (mF.up (mF.up (mF.up (mF.up (mF.call (mF.call (mF.call mF.refl F4 rfl) F8 rfl) F11 rfl) (A_76 hw) u14 rfl) (A_76 hw) u17 rfl) (A_76 hw) u20 rfl) (A_76 hw) u23 rfl) (A_76 hw) u26 rfl) (A_76 hw) u29 rfl) (A_76 hw) u32 rfl) ⟨0, 0, 0, (u32.f (Or.inr (by decide)) (u29.f (Or.inr (by decide)) (u26.f (Or.inr (by decide)) (u23.f (Or.inr (by decide)) (u20.f (Or.inr (by decide)) (u17.f (Or.inr (by decide)) u14.1)))))), (u32.f (Or.inr (by decide)) (u29.f (Or.inr (by decide)) u26.1)), (u32.f (Or.inr (by decide)) u29.1), vc_X3_forget_z_1, vc_X3_forget_z_1, vc_X3_forget_z_1, trivial⟩
theorem vc_X3_read_1 {z8 : Int} (h0 : z8 = 0) (h1 : 0 ≤ z8 ∧ z8 ≤ 256) : 0 ≤ z8 ∧ z8 ≤ 0 := by omega
theorem vc_X3_read_4 {z24 : Int} (h0 : 0 ≤ z24 ∧ z24 ≤ 256) : (0 : Int) ≤ z24 := by omega
theorem vc_X3_read_11 {z31 z33 : Int} (h0 : z31 + z33 ≤ 1000) (h1 : 0 ≤ z31 ∧ z31 ≤ 1000) (h2 : 0 ≤ z33 ∧ z33 ≤ 1000) : 0 ≤ (z31 + z33) ∧ (z31 + z33) ≤ 1000 := by omega
theorem vc_X3_read_12 {z31 z33 : Int} (h0 : z31 + z33 ≤ 1000) (h1 : 0 ≤ z31 ∧ z31 ≤ 1000) (h2 : 0 ≤ z33 ∧ z33 ≤ 1000) : (z31 + z33) + (0 : Int) ≤ 1000 := by omega
set_option maxRecDepth 4000 in
set_option maxHeartbeats 4000000 in
theorem c_X3_read {l : Launch} {D : va_G} {c : Nat → ClassId} {H0 : Heap} {sa : Nat × Nat × (Nat → Int32)} {w : mW} {μ : mM} (hw : mWF w) (hT : mT w μ) (hA1 : mAt w 1 1) {p2 : Int} (hp2 : 0 ≤ p2 ∧ p2 ≤ 1000) : sC (gG l D c H0 sa) mX3_read 7 0 0 [.ref 76, .ref 1, iv p2] (mk w μ) (qI w [76004, 76005, 76006, 76007, 76008, 76013, 76014, 76016, 77999, 78999, 79999, 80999, 84999, 85999, 200002, 200003, 200004, 200005, 200006, 200007, 200008, 201999, 202999] μ (fun z μ1 => ∃ o_wd o_an : Int, μ1 76 13 = o_wd ∧ μ1 76 14 = o_an ∧ ((-2147483648) ≤ z ∧ z ≤ 2147483647) ∧ (o_wd + o_an ≤ 1000) ∧ True)) := by
  refine sC.of rfl (by decide) (le_t rfl) ?_
  refine mr_lvE (lv' := [(0, .ref 76), (1, .ref 1), (2, iv p2)]) rfl ?_
  refine sv_aload_n (pc := 0) dX3_read_0 rfl rfl ?_
  refine sv_aload_n (pc := 1) dX3_read_1 rfl rfl ?_
  refine pf_X3_4 (pc := 2) dX3_read_2 wF_X3_41 (A_76 hw) hT (A_1 hw) fun μ1 u2 T3 => ?_
  refine sv_aload_n (pc := 5) dX3_read_5 rfl rfl ?_
  refine mr_cVV (pc := 6) (c_X3_forget_z hw T3) (gOk _ _ _ _ _) dX3_read_6 (tX3_forget _ _ _ _ _) ⟨wV_X3_forget, wL_X3_forget⟩ wM_X3_44 (gCX3 _ _ _ _ _) rfl (A_76 hw) rfl ⟨le_t rfl, le_t rfl⟩ ⟨le_t rfl, le_t rfl⟩ rfl (le_t rfl) fun μ4 T5 F6 h7 => ?_
  obtain ⟨z8, z10, z12, q9, q11, q13, h14⟩ := h7
  have h15 : (0 ≤ z8 ∧ z8 ≤ 256) := by rw [← q9]; exact T5 76 76 (A_76 hw) 5
  have h16 : (0 ≤ z10 ∧ z10 ≤ 1000) := by rw [← q11]; exact T5 76 76 (A_76 hw) 13
  have h17 : (0 ≤ z12 ∧ z12 ≤ 1000) := by rw [← q13]; exact T5 76 76 (A_76 hw) 14
  have q18 : μ4 76 5 = 0 := q9.trans h14.1
  have h19 : 0 ≤ z8 ∧ z8 ≤ 0 := (vc_X3_read_1 h14.1 h15)
  have q20 : μ4 76 13 = 0 := q11.trans h14.2.1
  have h21 : 0 ≤ z10 ∧ z10 ≤ 0 := (vc_X3_readParts_1 h14.2.1 h16)
  have q22 : μ4 76 14 = 0 := q13.trans h14.2.2.1
  have h23 : 0 ≤ z12 ∧ z12 ≤ 0 := (vc_X3_readParts_1 h14.2.2.1 h17)
  refine sv_aload_n (pc := 9) dX3_read_9 rfl rfl ?_
  refine mr_iload_n (pc := 10) (z := p2) dX3_read_10 rfl rfl ?_
  obtain ⟨z24, q25⟩ : ∃ z, cnt μ4 77 256 = z := ⟨_, rfl⟩
  have h26 : 0 ≤ z24 ∧ z24 ≤ 256 := by rw [← q25]; exact cnt_rng (fun i => T5 77 77 (A_77 hw) i) 256
  refine mr_cVV (pc := 11) (c_X3_readParts hw T5 hp2 q18 q25 q20 q22 (vc_X3_read_4 h26) vc_X3_forget_z_1 vc_X3_forget_z_1 (OC.keep (by show 0 ≤ μ1 76 4; rw [u2.1]; exact Int.natCast_nonneg _) hw ((mF.call mF.refl F6 rfl) : mF [76005, 76006, 76007, 76008, 76013, 76014, 76016, 77999, 80999, 200002, 200003, 200004, 200005, 200006, 200007, 200008] w μ1 μ4) rfl)) (gOk _ _ _ _ _) dX3_read_11 (tX3_readParts _ _ _ _ _) ⟨wV_X3_readParts, wL_X3_readParts⟩ wM_X3_47 (gCX3 _ _ _ _ _) rfl (A_76 hw) rfl ⟨le_t rfl, le_t rfl⟩ ⟨le_t rfl, le_t rfl⟩ rfl (le_t rfl) fun μ27 T28 F29 h30 => ?_
  obtain ⟨z31, z33, q32, q34, h35⟩ := h30
  have h36 : (0 ≤ z31 ∧ z31 ≤ 1000) := by rw [← q32]; exact T28 76 76 (A_76 hw) 13
  have h37 : (0 ≤ z33 ∧ z33 ≤ 1000) := by rw [← q34]; exact T28 76 76 (A_76 hw) 14
  refine sv_aload_n (pc := 14) dX3_read_14 rfl rfl ?_
  refine gf_X3_3 (pc := 15) dX3_read_15 wF_X3_22 (A_76 hw) T28 ?_
  refine mr_iconst (pc := 18) (z := 1) dX3_read_18 ?_
  refine la_80 (pc := 19) dX3_read_19 (A_80 hw) T28 (rIx (n := 4) (rR (x := 1)) rfl) fun z38 q39 h40 => ?_
  refine mr_ldc (pc := 20) (z := (-99999999)) dX3_read_20 wG_X3_21 (by decide) ?_
  refine mr_icmp_eq (pc := 22) (tgt := 27) dX3_read_22 (by decide) h40 (r32 (rR (x := (-99999999))) rfl) (fun h41 => ?_) (fun h41 => ?_)
  · have h42 : (-99999999) ≤ z38 ∧ z38 ≤ (-99999999) := (vc_X12_judgedAnew_21 h41 h40)
    refine sv_aload_n (pc := 27) dX3_read_27 rfl rfl ?_
    refine mr_iconst (pc := 28) (z := 1) dX3_read_28 ?_
    refine pf_X3_16 (pc := 29) dX3_read_29 wF_X3_51 (A_76 hw) T28 (rW (c := 0) (d := 1) (rR (x := 1)) rfl) fun μ43 u44 T45 => ?_
    refine sv_aload_n (pc := 32) dX3_read_32 rfl rfl ?_
    refine gf_X3_9 (pc := 33) dX3_read_33 wF_X3_28 (A_76 hw) T45 ?_
    refine mr_iconst (pc := 36) (z := 0) dX3_read_36 ?_
    refine pf_X7_8 (pc := 37) dX3_read_37 wF_X3_55 (A_81 hw) T45 (rW (c := 0) (d := 8) (rR (x := 0)) rfl) fun μ46 u47 T48 => ?_
    refine mr_iconst (pc := 40) (z := 0) dX3_read_40 ?_
    refine mr_istore_n (pc := 41) (lv' := [(3, iv 0), (0, .ref 76), (1, .ref 1), (2, iv p2)]) dX3_read_41 rfl (by decide) rfl ?_
    have L247 : ∀ (nL247 : Nat) (z245 : Int) (μ246 : mM), mT w μ246 → mF [200008, 202999] w μ46 μ246 → (0 ≤ z245 ∧ z245 ≤ 8) → OC μ246 → (9 - z245) < (nL247 : Int) → sV (gG l D c H0 sa) mX3_read (sRm 7 0 0) (sZ (gG l D c H0 sa) 0 0 (qI w [76004, 76005, 76006, 76007, 76008, 76013, 76014, 76016, 77999, 78999, 79999, 80999, 84999, 85999, 200002, 200003, 200004, 200005, 200006, 200007, 200008, 201999, 202999] μ (fun z μ1 => ∃ o_wd o_an : Int, μ1 76 13 = o_wd ∧ μ1 76 14 = o_an ∧ ((-2147483648) ≤ z ∧ z ≤ 2147483647) ∧ (o_wd + o_an ≤ 1000) ∧ True))) 42 [(0, .ref 76), (3, iv z245)] [] (mk w μ246) 0 0 := by
      intro nL247
      induction nL247 with
      | zero => intro z245 μ246 T249 F250 h248 I252 h253; exact ((vc_X12_same_17 h253 h248)).elim
      | succ nL247 ih254 =>
        intro z245 μ246 T249 F250 h248 I252 h253
        refine mr_iload_n (pc := 42) (z := z245) dX3_read_42 rfl rfl ?_
        refine sv_aload_n (pc := 43) dX3_read_43 rfl rfl ?_
        refine gf_X3_6 (pc := 44) dX3_read_44 wF_X3_59 (A_76 hw) T249 fun z255 q256 h257 => ?_
        refine mr_icmp_ge (pc := 47) (tgt := 69) dX3_read_47 (by decide) (r32 h248 rfl) (r32 h257 rfl) (fun h267 => ?_) (fun h267 => ?_)
        · refine sv_aload_n (pc := 69) dX3_read_69 rfl rfl ?_
          refine gf_X3_3 (pc := 70) dX3_read_70 wF_X3_22 (A_76 hw) T249 ?_
          refine mr_iconst (pc := 73) (z := 2) dX3_read_73 ?_
          refine la_80 (pc := 74) dX3_read_74 (A_80 hw) T249 (rIx (n := 4) (rR (x := 2)) rfl) fun z268 q269 h270 => ?_
          refine mr_ldc (pc := 75) (z := (-99999999)) dX3_read_75 wG_X3_21 (by decide) ?_
          refine mr_icmp_eq (pc := 77) (tgt := 100) dX3_read_77 (by decide) h270 (r32 (rR (x := (-99999999))) rfl) (fun h271 => ?_) (fun h271 => ?_)
          · have h272 : (-99999999) ≤ z268 ∧ z268 ≤ (-99999999) := (vc_X12_judgedAnew_21 h271 h270)
            refine sv_aload_n (pc := 100) dX3_read_100 rfl rfl ?_
            refine gf_X3_3 (pc := 101) dX3_read_101 wF_X3_22 (A_76 hw) T249 ?_
            refine mr_iconst (pc := 104) (z := 3) dX3_read_104 ?_
            refine la_80 (pc := 105) dX3_read_105 (A_80 hw) T249 (rIx (n := 4) (rR (x := 3)) rfl) fun z273 q274 h275 => ?_
            refine mr_ldc (pc := 106) (z := (-99999999)) dX3_read_106 wG_X3_21 (by decide) ?_
            refine mr_icmp_eq (pc := 108) (tgt := 115) dX3_read_108 (by decide) h275 (r32 (rR (x := (-99999999))) rfl) (fun h277 => ?_) (fun h277 => ?_)
            · have h278 : (-99999999) ≤ z273 ∧ z273 ≤ (-99999999) := (vc_X12_judgedAnew_21 h277 h275)
              refine mr_iconst (pc := 115) (z := 0) dX3_read_115 ?_
              exact mr_iret dX3_read_116 rfl (le_t rfl) (le_t rfl) T249 (mF.call (mF.up (mF.up (mF.call (mF.call (mF.up mF.refl (A_76 hw) u2 rfl) F6 rfl) F29 rfl) (A_76 hw) u44 rfl) (A_81 hw) u47 rfl) F250 rfl) ⟨z31, z33, (F250.f (A_76 hw) rfl (u47.f (Or.inl (mAt.ne (A_81 hw) (A_76 hw) rfl)) (u44.f (Or.inr (by decide)) q32))), (F250.f (A_76 hw) rfl (u47.f (Or.inl (mAt.ne (A_81 hw) (A_76 hw) rfl)) (u44.f (Or.inr (by decide)) q34))), (rW (c := (-2147483648)) (d := 2147483647) (rR (x := 0)) rfl), (vc_X3_readAttribute_7 h35.1 h36 h37), trivial⟩
            refine mr_iconst (pc := 111) (z := 3) dX3_read_111 ?_
            refine sv_goto (pc := 112) (tgt := 116) dX3_read_112 (by decide) ?_
            exact mr_iret dX3_read_116 rfl (le_t rfl) (le_t rfl) T249 (mF.call (mF.up (mF.up (mF.call (mF.call (mF.up mF.refl (A_76 hw) u2 rfl) F6 rfl) F29 rfl) (A_76 hw) u44 rfl) (A_81 hw) u47 rfl) F250 rfl) ⟨z31, z33, (F250.f (A_76 hw) rfl (u47.f (Or.inl (mAt.ne (A_81 hw) (A_76 hw) rfl)) (u44.f (Or.inr (by decide)) q32))), (F250.f (A_76 hw) rfl (u47.f (Or.inl (mAt.ne (A_81 hw) (A_76 hw) rfl)) (u44.f (Or.inr (by decide)) q34))), (rW (c := (-2147483648)) (d := 2147483647) (rR (x := 3)) rfl), (vc_X3_readAttribute_7 h35.1 h36 h37), trivial⟩
          refine sv_aload_n (pc := 80) dX3_read_80 rfl rfl ?_
          refine sv_dup (pc := 81) dX3_read_81 rfl ?_
          refine gk_X3_13 (pc := 82) dX3_read_82 wF_X3_63 (A_76 hw) (F250.f (A_76 hw) rfl (u47.f (Or.inl (mAt.ne (A_81 hw) (A_76 hw) rfl)) (u44.f (Or.inr (by decide)) q32))) ?_
          refine sv_aload_n (pc := 85) dX3_read_85 rfl rfl ?_
          refine gk_X3_14 (pc := 86) dX3_read_86 wF_X3_66 (A_76 hw) (F250.f (A_76 hw) rfl (u47.f (Or.inl (mAt.ne (A_81 hw) (A_76 hw) rfl)) (u44.f (Or.inr (by decide)) q34))) ?_
          refine mr_iadd (pc := 89) (x := z31) (y := z33) dX3_read_89 ?_
          refine pf_X3_13 (pc := 90) dX3_read_90 wF_X3_63 (A_76 hw) T249 (vc_X3_read_11 h35.1 h36 h37) fun μ279 u280 T281 => ?_
          refine sv_aload_n (pc := 93) dX3_read_93 rfl rfl ?_
          refine mr_iconst (pc := 94) (z := 0) dX3_read_94 ?_
          refine pf_X3_14 (pc := 95) dX3_read_95 wF_X3_66 (A_76 hw) T281 (rW (c := 0) (d := 1000) (rR (x := 0)) rfl) fun μ282 u283 T284 => ?_
          refine mr_iconst (pc := 98) (z := 2) dX3_read_98 ?_
          exact mr_iret dX3_read_99 rfl (le_t rfl) (le_t rfl) T284 (mF.up (mF.up (mF.call (mF.up (mF.up (mF.call (mF.call (mF.up mF.refl (A_76 hw) u2 rfl) F6 rfl) F29 rfl) (A_76 hw) u44 rfl) (A_81 hw) u47 rfl) F250 rfl) (A_76 hw) u280 rfl) (A_76 hw) u283 rfl) ⟨(z31 + z33), 0, (u283.f (Or.inr (by decide)) u280.1), u283.1, (rW (c := (-2147483648)) (d := 2147483647) (rR (x := 2)) rfl), (vc_X3_read_12 h35.1 h36 h37), trivial⟩
        have h285 : 0 ≤ z245 ∧ z245 ≤ 7 := (vc_X12_marked_3 h267 h248 h257)
        have h286 : 1 ≤ z255 ∧ z255 ≤ 8 := (vc_X12_marked_4 h267 h285 h257)
        refine sv_aload_n (pc := 50) dX3_read_50 rfl rfl ?_
        refine gf_X3_9 (pc := 51) dX3_read_51 wF_X3_28 (A_76 hw) T249 ?_
        refine sv_aload_n (pc := 54) dX3_read_54 rfl rfl ?_
        refine gf_X3_2 (pc := 55) dX3_read_55 wF_X3_18 (A_76 hw) T249 ?_
        refine mr_iload_n (pc := 58) (z := z245) dX3_read_58 rfl rfl ?_
        refine la_79 (pc := 59) dX3_read_59 (A_79 hw) T249 (rIx (n := 8) h285 rfl) fun z287 q288 h289 => ?_
        refine mr_cVV (pc := 60) (c_X7_addMark hw T249 (A_81 hw) h289) (gOk _ _ _ _ _) dX3_read_60 (tX7_addMark _ _ _ _ _) ⟨wV_X7_addMark, wL_X7_addMark⟩ wM_X3_60 (gCX7 _ _ _ _ _) rfl (A_81 hw) rfl ⟨le_t rfl, le_t rfl⟩ ⟨le_t rfl, le_t rfl⟩ rfl (le_t rfl) fun μ290 T291 F292 h293 => ?_
        refine mr_iinc (pc := 63) (lv' := [(3, iv (z245 + 1)), (0, .ref 76)]) dX3_read_63 rfl (by decide) rfl ?_
        refine sv_goto (pc := 66) (tgt := 42) dX3_read_66 (by decide) ?_
        refine mr_lvS (lv' := [(0, .ref 76), (3, iv (z245 + 1))]) (List.forall_mem_cons.mpr ⟨rfl, List.forall_mem_cons.mpr ⟨rfl, fun _ h => absurd h List.not_mem_nil⟩⟩) ?_
        exact ih254 (z245 + 1) μ290 T291 (mF.call (mF.call mF.refl F250 rfl) F292 rfl) (rW (c := 0) (d := 8) (rAdd (e := 1) (f := 8) h285 (rR (x := 1)) rfl) rfl) (OC.keep I252 hw ((mF.call mF.refl F292 rfl) : mF [200008, 202999] w μ246 μ290) rfl) (vc_X12_marked_6 (nS h253) h267 h285 h286)
    refine mr_lvS (lv' := [(0, .ref 76), (3, iv 0)]) (List.forall_mem_cons.mpr ⟨rfl, List.forall_mem_cons.mpr ⟨rfl, fun _ h => absurd h List.not_mem_nil⟩⟩) ?_
    exact L247 10 0 μ46 T48 mF.refl (rW (c := 0) (d := 8) (rR (x := 0)) rfl) (OC.keep (by show 0 ≤ μ1 76 4; rw [u2.1]; exact Int.natCast_nonneg _) hw ((mF.up (mF.up (mF.call (mF.call mF.refl F6 rfl) F29 rfl) (A_76 hw) u44 rfl) (A_81 hw) u47 rfl) : mF [76005, 76006, 76007, 76008, 76013, 76014, 76016, 77999, 78999, 79999, 80999, 84999, 85999, 200002, 200003, 200004, 200005, 200006, 200007, 200008, 201999] w μ1 μ46) rfl) vc_X12_same_28
  refine mr_iconst (pc := 25) (z := 1) dX3_read_25 ?_
  exact mr_iret dX3_read_26 rfl (le_t rfl) (le_t rfl) T28 (mF.call (mF.call (mF.up mF.refl (A_76 hw) u2 rfl) F6 rfl) F29 rfl) ⟨z31, z33, q32, q34, (rW (c := (-2147483648)) (d := 2147483647) (rR (x := 1)) rfl), (vc_X3_readAttribute_7 h35.1 h36 h37), trivial⟩
set_option maxRecDepth 4000 in
set_option maxHeartbeats 4000000 in
theorem c_J_bits {l : Launch} {D : va_G} {c : Nat → ClassId} {H0 : Heap} {sa : Nat × Nat × (Nat → Int32)} {w : mW} {μ : mM} (hw : mWF w) (hT : mT w μ) {p1 : Int} (hp1 : (-2147483648) ≤ p1 ∧ p1 ≤ 2147483647) : sC (gG l D c H0 sa) mJ_bits 1 0 0 [iv p1] (mk w μ) (qP w μ (fun z => ((-2147483648) ≤ z ∧ z ≤ 2147483647) ∧ True)) := by
  refine sC.of rfl (by decide) (le_t rfl) ?_
  refine mr_lvE (lv' := [(0, iv p1)]) rfl ?_
  refine mr_iload_n (pc := 0) (z := p1) dJ_bits_0 rfl rfl ?_
  refine mr_iload_n (pc := 1) (z := p1) dJ_bits_1 rfl rfl ?_
  refine mr_iconst (pc := 2) (z := 1) dJ_bits_2 ?_
  refine mr_iushr (pc := 3) (x := p1) (y := 1) dJ_bits_3 ?_
  refine mr_gen (P := fun z => (-2147483648) ≤ z ∧ z ≤ 2147483647) (r32i _) fun z1 q2 h3 => ?_
  refine mr_ldcw (pc := 4) (z := 1431655765) dJ_bits_4 wG_XI_265 (by decide) ?_
  refine mr_iand (pc := 7) (x := z1) (y := 1431655765) dJ_bits_7 ?_
  refine mr_gen (P := fun z => 0 ≤ z ∧ z ≤ 1431655765) (rAndR (rR (x := 1431655765)) rfl) fun z4 q5 h6 => ?_
  refine mr_isub (pc := 8) (x := p1) (y := z4) dJ_bits_8 ?_
  refine mr_wrap fun z7 h8 => ?_
  refine mr_istore_n (pc := 9) (lv' := [(0, iv z7)]) dJ_bits_9 rfl (by decide) rfl ?_
  refine mr_iload_n (pc := 10) (z := z7) dJ_bits_10 rfl rfl ?_
  refine mr_ldcw (pc := 11) (z := 858993459) dJ_bits_11 wG_XI_266 (by decide) ?_
  refine mr_iand (pc := 14) (x := z7) (y := 858993459) dJ_bits_14 ?_
  refine mr_gen (P := fun z => 0 ≤ z ∧ z ≤ 858993459) (rAndR (rR (x := 858993459)) rfl) fun z9 q10 h11 => ?_
  refine mr_iload_n (pc := 15) (z := z7) dJ_bits_15 rfl rfl ?_
  refine mr_iconst (pc := 16) (z := 2) dJ_bits_16 ?_
  refine mr_iushr (pc := 17) (x := z7) (y := 2) dJ_bits_17 ?_
  refine mr_gen (P := fun z => (-2147483648) ≤ z ∧ z ≤ 2147483647) (r32i _) fun z12 q13 h14 => ?_
  refine mr_ldcw (pc := 18) (z := 858993459) dJ_bits_18 wG_XI_266 (by decide) ?_
  refine mr_iand (pc := 21) (x := z12) (y := 858993459) dJ_bits_21 ?_
  refine mr_gen (P := fun z => 0 ≤ z ∧ z ≤ 858993459) (rAndR (rR (x := 858993459)) rfl) fun z15 q16 h17 => ?_
  refine mr_iadd (pc := 22) (x := z9) (y := z15) dJ_bits_22 ?_
  refine mr_istore_n (pc := 23) (lv' := [(0, iv (z9 + z15))]) dJ_bits_23 rfl (by decide) rfl ?_
  refine mr_iload_n (pc := 24) (z := (z9 + z15)) dJ_bits_24 rfl rfl ?_
  refine mr_iload_n (pc := 25) (z := (z9 + z15)) dJ_bits_25 rfl rfl ?_
  refine mr_iconst (pc := 26) (z := 4) dJ_bits_26 ?_
  refine mr_iushr (pc := 27) (x := (z9 + z15)) (y := 4) dJ_bits_27 ?_
  refine mr_gen (P := fun z => (-2147483648) ≤ z ∧ z ≤ 2147483647) (r32i _) fun z18 q19 h20 => ?_
  refine mr_iadd (pc := 28) (x := (z9 + z15)) (y := z18) dJ_bits_28 ?_
  refine mr_wrap fun z21 h22 => ?_
  refine mr_ldcw (pc := 29) (z := 252645135) dJ_bits_29 wG_XI_267 (by decide) ?_
  refine mr_iand (pc := 32) (x := z21) (y := 252645135) dJ_bits_32 ?_
  refine mr_gen (P := fun z => 0 ≤ z ∧ z ≤ 252645135) (rAndR (rR (x := 252645135)) rfl) fun z23 q24 h25 => ?_
  refine mr_istore_n (pc := 33) (lv' := [(0, iv z23)]) dJ_bits_33 rfl (by decide) rfl ?_
  refine mr_iload_n (pc := 34) (z := z23) dJ_bits_34 rfl rfl ?_
  refine mr_iload_n (pc := 35) (z := z23) dJ_bits_35 rfl rfl ?_
  refine mr_bipush (pc := 36) (z := 8) dJ_bits_36 (by decide) ?_
  refine mr_iushr (pc := 38) (x := z23) (y := 8) dJ_bits_38 ?_
  refine mr_gen (P := fun z => (-2147483648) ≤ z ∧ z ≤ 2147483647) (r32i _) fun z26 q27 h28 => ?_
  refine mr_iadd (pc := 39) (x := z23) (y := z26) dJ_bits_39 ?_
  refine mr_wrap fun z29 h30 => ?_
  refine mr_istore_n (pc := 40) (lv' := [(0, iv z29)]) dJ_bits_40 rfl (by decide) rfl ?_
  refine mr_iload_n (pc := 41) (z := z29) dJ_bits_41 rfl rfl ?_
  refine mr_iload_n (pc := 42) (z := z29) dJ_bits_42 rfl rfl ?_
  refine mr_bipush (pc := 43) (z := 16) dJ_bits_43 (by decide) ?_
  refine mr_iushr (pc := 45) (x := z29) (y := 16) dJ_bits_45 ?_
  refine mr_gen (P := fun z => (-2147483648) ≤ z ∧ z ≤ 2147483647) (r32i _) fun z31 q32 h33 => ?_
  refine mr_iadd (pc := 46) (x := z29) (y := z31) dJ_bits_46 ?_
  refine mr_wrap fun z34 h35 => ?_
  refine mr_istore_n (pc := 47) (lv' := [(0, iv z34)]) dJ_bits_47 rfl (by decide) rfl ?_
  refine mr_iload_n (pc := 48) (z := z34) dJ_bits_48 rfl rfl ?_
  refine mr_bipush (pc := 49) (z := 63) dJ_bits_49 (by decide) ?_
  refine mr_iand (pc := 51) (x := z34) (y := 63) dJ_bits_51 ?_
  refine mr_gen (P := fun z => 0 ≤ z ∧ z ≤ 63) (rAndR (rR (x := 63)) rfl) fun z36 q37 h38 => ?_
  exact mr_iretP dJ_bits_52 rfl (le_t rfl) (le_t rfl) ⟨(rW (c := (-2147483648)) (d := 2147483647) h38 rfl), trivial⟩
theorem vc_X11_cone_8 {p2 : Int} (h0 : ¬ p2 = (-1)) (h1 : (-1) ≤ p2 ∧ p2 ≤ (-1)) : False := by omega
theorem vc_X11_cone_10 {n0 p1 p2 z1 z32 z8 : Int} (h0 : (z32 = 1 → 0 ≤ p2 ∧ p2 < z1)) (h1 : (z32 = 0 → p2 < 0 ∨ z1 ≤ p2)) (h2 : ¬ z32 = 0) (h3 : z1 = n0) (h4 : (z8 = 1 → 0 ≤ p1 ∧ p1 < z1)) (h5 : (z8 = 0 → p1 < 0 ∨ z1 ≤ p1)) (h6 : 0 ≤ p1 ∧ p1 < z1) (h7 : ¬ p2 = (-1)) (h8 : 0 ≤ p1 ∧ p1 ≤ 9) (h9 : (-2147483648) ≤ p2 ∧ p2 ≤ 2147483647) (h10 : 1 ≤ z1 ∧ z1 ≤ 10) (h11 : 1 ≤ z32 ∧ z32 ≤ 1) (h12 : 1 ≤ z8 ∧ z8 ≤ 1) : z32 = 1 := by omega
theorem vc_X11_cone_11 {n0 p1 p2 z1 z32 z8 : Int} (h0 : 0 ≤ p2 ∧ p2 < z1) (h1 : z1 = n0) (h2 : (z8 = 1 → 0 ≤ p1 ∧ p1 < z1)) (h3 : (z8 = 0 → p1 < 0 ∨ z1 ≤ p1)) (h4 : 0 ≤ p1 ∧ p1 < z1) (h5 : ¬ p2 = (-1)) (h6 : (z32 = 1 → 0 ≤ p2 ∧ p2 < z1)) (h7 : (z32 = 0 → p2 < 0 ∨ z1 ≤ p2)) (h8 : 0 ≤ p1 ∧ p1 ≤ 9) (h9 : (-2147483648) ≤ p2 ∧ p2 ≤ 2147483647) (h10 : 1 ≤ z1 ∧ z1 ≤ 10) (h11 : 1 ≤ z32 ∧ z32 ≤ 1) (h12 : 1 ≤ z8 ∧ z8 ≤ 1) : 0 ≤ p2 ∧ p2 ≤ 9 := by omega
theorem vc_X11_cone_12 {p2 : Int} (h0 : p2 = (-1)) (h1 : 0 ≤ p2 ∧ p2 ≤ 9) : False := by omega
theorem vc_X11_cone_14 {n0 p1 p2 z1 z32 z8 : Int} (h0 : (z32 = 1 → 0 ≤ p2 ∧ p2 < z1)) (h1 : (z32 = 0 → p2 < 0 ∨ z1 ≤ p2)) (h2 : z32 = 0) (h3 : z1 = n0) (h4 : (z8 = 1 → 0 ≤ p1 ∧ p1 < z1)) (h5 : (z8 = 0 → p1 < 0 ∨ z1 ≤ p1)) (h6 : 0 ≤ p1 ∧ p1 < z1) (h7 : ¬ p2 = (-1)) (h8 : 0 ≤ p1 ∧ p1 ≤ 9) (h9 : (-2147483648) ≤ p2 ∧ p2 ≤ 2147483647) (h10 : 1 ≤ z1 ∧ z1 ≤ 10) (h11 : 0 ≤ z32 ∧ z32 ≤ 0) (h12 : 1 ≤ z8 ∧ z8 ≤ 1) : z32 = 0 := by omega
set_option maxRecDepth 4000 in
set_option maxHeartbeats 4000000 in
theorem c_X11_cone {l : Launch} {D : va_G} {c : Nat → ClassId} {H0 : Heap} {sa : Nat × Nat × (Nat → Int32)} {w : mW} {μ : mM} (hw : mWF w) (hT : mT w μ) {p1 : Int} (hp1 : (-2147483648) ≤ p1 ∧ p1 ≤ 2147483647) {p2 : Int} (hp2 : (-2147483648) ≤ p2 ∧ p2 ≤ 2147483647) : sC (gG l D c H0 sa) mX11_cone 2 0 0 [.ref 0, iv p1, iv p2] (mk w μ) (qP w μ (fun z => ((-2147483648) ≤ z ∧ z ≤ 2147483647) ∧ True)) := by
  refine sC.of rfl (by decide) (le_t rfl) ?_
  refine mr_lvE (lv' := [(0, .ref 0), (1, iv p1), (2, iv p2)]) rfl ?_
  refine sv_aload_n (pc := 0) dX11_cone_0 rfl rfl ?_
  refine mr_iload_n (pc := 1) (z := p1) dX11_cone_1 rfl rfl ?_
  obtain ⟨z1, q2⟩ : ∃ z, μ 6 15 = z := ⟨_, rfl⟩
  have h3 : (z1 = w.2.2.2 0 ∧ 0 ≤ z1 ∧ z1 ≤ 10) := by rw [← q2]; exact hT 6 6 (A_6 hw) 15
  refine mr_cVP (pc := 2) (c_X11_isDomain hw hT hp1 q2) (gOk _ _ _ _ _) dX11_cone_2 (tX11_isDomain _ _ _ _ _) ⟨wV_X11_isDomain, wL_X11_isDomain⟩ wM_X11_105 (gCX11 _ _ _ _ _) rfl (A_0 hw) rfl ⟨le_t rfl, le_t rfl⟩ ⟨le_t rfl, le_t rfl⟩ rfl (le_t rfl) fun z8 h7 => ?_
  refine mr_if_eq (pc := 5) (tgt := 21) dX11_cone_5 (by decide) (r32 h7.1 rfl) (fun h9 => ?_) (fun h9 => ?_)
  · have h10 : 0 ≤ z8 ∧ z8 ≤ 0 := (vc_X12_write_78 h9 h7.2.1 h7.2.2.1 hp1 h3.2 h7.1)
    have h11 : p1 < 0 ∨ z1 ≤ p1 := (h7.2.2.1 (vc_X11_picked_2 h7.2.1 h7.2.2.1 h9 h3.1 hp1 h3.2 h10))
    refine mr_iconst (pc := 21) (z := (-1)) dX11_cone_21 ?_
    exact mr_iretP dX11_cone_22 rfl (le_t rfl) (le_t rfl) ⟨(rW (c := (-2147483648)) (d := 2147483647) (rR (x := (-1))) rfl), trivial⟩
  have h12 : 1 ≤ z8 ∧ z8 ≤ 1 := (vc_X12_write_12 h9 h7.2.1 h7.2.2.1 hp1 h3.2 h7.1)
  have h13 : 0 ≤ p1 ∧ p1 < z1 := (h7.2.1 (vc_X11_picked_4 h7.2.1 h7.2.2.1 h9 h3.1 hp1 h3.2 h12))
  have h14 : 0 ≤ p1 ∧ p1 ≤ 9 := (vc_X11_picked_5 h13 h3.1 h7.2.1 h7.2.2.1 hp1 h3.2 h12)
  have h15 : 1 ≤ z1 ∧ z1 ≤ 10 := (vc_X11_picked_6 h13 h3.1 h7.2.1 h7.2.2.1 h14 h3.2 h12)
  refine mr_iload_n (pc := 8) (z := p2) dX11_cone_8 rfl rfl ?_
  refine mr_iconst (pc := 9) (z := (-1)) dX11_cone_9 ?_
  refine mr_icmp_eq (pc := 10) (tgt := 23) dX11_cone_10 (by decide) hp2 (r32 (rR (x := (-1))) rfl) (fun h16 => ?_) (fun h16 => ?_)
  · have h17 : (-1) ≤ p2 ∧ p2 ≤ (-1) := (vc_X10_verdictOn_17 h16 hp2)
    refine sv_aload_n (pc := 23) dX11_cone_23 rfl rfl ?_
    refine gf_X11_3 (pc := 24) dX11_cone_24 wF_X11_26 (A_0 hw) hT ?_
    refine mr_iload_n (pc := 27) (z := p1) dX11_cone_27 rfl rfl ?_
    refine mr_cVP (pc := 28) (c_X10_coneOf hw hT h14) (gOk _ _ _ _ _) dX11_cone_28 (tX10_coneOf _ _ _ _ _) ⟨wV_X10_coneOf, wL_X10_coneOf⟩ wM_X11_154 (gCX10 _ _ _ _ _) rfl (A_6 hw) rfl ⟨le_t rfl, le_t rfl⟩ ⟨le_t rfl, le_t rfl⟩ rfl (le_t rfl) fun z22 h21 => ?_
    refine mr_istore_n (pc := 31) (lv' := [(3, iv z22), (0, .ref 0), (1, iv p1), (2, iv p2)]) dX11_cone_31 rfl (by decide) rfl ?_
    refine mr_iload_n (pc := 32) (z := p2) dX11_cone_32 rfl rfl ?_
    refine mr_iconst (pc := 33) (z := (-1)) dX11_cone_33 ?_
    refine mr_icmp_ne (pc := 34) (tgt := 44) dX11_cone_34 (by decide) (r32 h17 rfl) (r32 (rR (x := (-1))) rfl) (fun h => ((vc_X11_cone_8 h h17)).elim) (fun _ => ?_)
    refine mr_iload_n (pc := 37) (z := z22) dX11_cone_37 rfl rfl ?_
    refine mr_cSP (pc := 38) (c_J_bits hw hT h21.1) (gOk _ _ _ _ _) dX11_cone_38 (tJ_bits _ _ _ _ _) wS_J_bits wM_X11_157 ⟨le_t rfl, le_t rfl⟩ ⟨le_t rfl, le_t rfl⟩ rfl (le_t rfl) fun z27 h26 => ?_
    refine sv_goto (pc := 41) (tgt := 49) dX11_cone_41 (by decide) ?_
    exact mr_iretP dX11_cone_49 rfl (le_t rfl) (le_t rfl) ⟨h26.1, trivial⟩
  refine sv_aload_n (pc := 13) dX11_cone_13 rfl rfl ?_
  refine mr_iload_n (pc := 14) (z := p2) dX11_cone_14 rfl rfl ?_
  refine mr_cVP (pc := 15) (c_X11_isDomain hw hT hp2 q2) (gOk _ _ _ _ _) dX11_cone_15 (tX11_isDomain _ _ _ _ _) ⟨wV_X11_isDomain, wL_X11_isDomain⟩ wM_X11_105 (gCX11 _ _ _ _ _) rfl (A_0 hw) rfl ⟨le_t rfl, le_t rfl⟩ ⟨le_t rfl, le_t rfl⟩ rfl (le_t rfl) fun z32 h31 => ?_
  refine mr_if_ne (pc := 18) (tgt := 23) dX11_cone_18 (by decide) (r32 h31.1 rfl) (fun h33 => ?_) (fun h33 => ?_)
  · have h34 : 1 ≤ z32 ∧ z32 ≤ 1 := (vc_X12_differ_7 h33 h31.2.1 h31.2.2.1 hp2 h15 h31.1)
    have h35 : 0 ≤ p2 ∧ p2 < z1 := (h31.2.1 (vc_X11_cone_10 h31.2.1 h31.2.2.1 h33 h3.1 h7.2.1 h7.2.2.1 h13 h16 h14 hp2 h15 h34 h12))
    have h36 : 0 ≤ p2 ∧ p2 ≤ 9 := (vc_X11_cone_11 h35 h3.1 h7.2.1 h7.2.2.1 h13 h16 h31.2.1 h31.2.2.1 h14 hp2 h15 h34 h12)
    refine sv_aload_n (pc := 23) dX11_cone_23 rfl rfl ?_
    refine gf_X11_3 (pc := 24) dX11_cone_24 wF_X11_26 (A_0 hw) hT ?_
    refine mr_iload_n (pc := 27) (z := p1) dX11_cone_27 rfl rfl ?_
    refine mr_cVP (pc := 28) (c_X10_coneOf hw hT h14) (gOk _ _ _ _ _) dX11_cone_28 (tX10_coneOf _ _ _ _ _) ⟨wV_X10_coneOf, wL_X10_coneOf⟩ wM_X11_154 (gCX10 _ _ _ _ _) rfl (A_6 hw) rfl ⟨le_t rfl, le_t rfl⟩ ⟨le_t rfl, le_t rfl⟩ rfl (le_t rfl) fun z41 h40 => ?_
    refine mr_istore_n (pc := 31) (lv' := [(3, iv z41), (0, .ref 0), (1, iv p1), (2, iv p2)]) dX11_cone_31 rfl (by decide) rfl ?_
    refine mr_iload_n (pc := 32) (z := p2) dX11_cone_32 rfl rfl ?_
    refine mr_iconst (pc := 33) (z := (-1)) dX11_cone_33 ?_
    refine mr_icmp_ne (pc := 34) (tgt := 44) dX11_cone_34 (by decide) (r32 h36 rfl) (r32 (rR (x := (-1))) rfl) (fun _ => ?_) (fun h => ((vc_X11_cone_12 h h36)).elim)
    refine mr_iload_n (pc := 44) (z := z41) dX11_cone_44 rfl rfl ?_
    refine mr_iload_n (pc := 45) (z := p2) dX11_cone_45 rfl rfl ?_
    refine mr_ishr (pc := 46) (x := z41) (y := p2) dX11_cone_46 ?_
    refine mr_gen (P := fun z => (-2147483648) ≤ z ∧ z ≤ 2147483647) (r32i _) fun z42 q43 h44 => ?_
    refine mr_iconst (pc := 47) (z := 1) dX11_cone_47 ?_
    refine mr_iand (pc := 48) (x := z42) (y := 1) dX11_cone_48 ?_
    refine mr_gen (P := fun z => 0 ≤ z ∧ z ≤ 1) (rAndR (rR (x := 1)) rfl) fun z45 q46 h47 => ?_
    exact mr_iretP dX11_cone_49 rfl (le_t rfl) (le_t rfl) ⟨(rW (c := (-2147483648)) (d := 2147483647) h47 rfl), trivial⟩
  have h48 : 0 ≤ z32 ∧ z32 ≤ 0 := (vc_X12_differ_44 h33 h31.2.1 h31.2.2.1 hp2 h15 h31.1)
  have h49 : p2 < 0 ∨ z1 ≤ p2 := (h31.2.2.1 (vc_X11_cone_14 h31.2.1 h31.2.2.1 h33 h3.1 h7.2.1 h7.2.2.1 h13 h16 h14 hp2 h15 h48 h12))
  refine mr_iconst (pc := 21) (z := (-1)) dX11_cone_21 ?_
  exact mr_iretP dX11_cone_22 rfl (le_t rfl) (le_t rfl) ⟨(rW (c := (-2147483648)) (d := 2147483647) (rR (x := (-1))) rfl), trivial⟩
theorem vc_X2_leastBelow_32_1 {p3 : Int} (h0 : p3 < 32) (h1 : 32 ≤ p3 ∧ p3 ≤ 32) : False := by omega
set_option maxRecDepth 4000 in
set_option maxHeartbeats 4000000 in
theorem c_X2_leastBelow_32 {l : Launch} {D : va_G} {c : Nat → ClassId} {H0 : Heap} {sa : Nat × Nat × (Nat → Int32)} {w : mW} {μ : mM} (hw : mWF w) (hT : mT w μ) {p1 : Int} (hp1 : 0 ≤ p1 ∧ p1 ≤ 9) {p2 : Int} (hp2 : (-2147483648) ≤ p2 ∧ p2 ≤ 2147483647) {p3 : Int} (hp3 : 32 ≤ p3 ∧ p3 ≤ 32) (hq0 : p1 < w.2.2.2 0) : sC (gG l D c H0 sa) mX2_leastBelow 3 0 0 [.ref 87, iv p1, iv p2, iv p3] (mk w μ) (qI w [87007] μ (fun z μ1 => ((-2147483648) ≤ z ∧ z ≤ 2147483647) ∧ True)) := by
  refine sC.of rfl (by decide) (le_t rfl) ?_
  refine mr_lvE (lv' := [(0, .ref 87), (1, iv p1), (2, iv p2), (3, iv p3)]) rfl ?_
  refine mr_iload_n (pc := 0) (z := p3) dX2_leastBelow_0 rfl rfl ?_
  refine mr_bipush (pc := 1) (z := 32) dX2_leastBelow_1 (by decide) ?_
  refine mr_icmp_ge (pc := 3) (tgt := 16) dX2_leastBelow_3 (by decide) (r32 hp3 rfl) (r32 (rR (x := 32)) rfl) (fun _ => ?_) (fun h => ((vc_X2_leastBelow_32_1 h hp3)).elim)
  refine sv_aload_n (pc := 16) dX2_leastBelow_16 rfl rfl ?_
  refine mr_iload_n (pc := 17) (z := p1) dX2_leastBelow_17 rfl rfl ?_
  refine mr_iload_n (pc := 18) (z := p2) dX2_leastBelow_18 rfl rfl ?_
  refine mr_cVP (pc := 19) (c_X2_tieFor hw hT hp1 hp2 (vc_X9_end_1 hq0 hp1)) (gOk _ _ _ _ _) dX2_leastBelow_19 (tX2_tieFor _ _ _ _ _) ⟨wV_X2_tieFor, wL_X2_tieFor⟩ wM_X2_60 (gCX2 _ _ _ _ _) rfl (A_87 hw) rfl ⟨le_t rfl, le_t rfl⟩ ⟨le_t rfl, le_t rfl⟩ rfl (le_t rfl) fun z5 h4 => ?_
  refine mr_cSP (pc := 22) (c_X2_aimBit hw hT h4.1) (gOk _ _ _ _ _) dX2_leastBelow_22 (tX2_aimBit _ _ _ _ _) wS_X2_aimBit wM_X2_110 ⟨le_t rfl, le_t rfl⟩ ⟨le_t rfl, le_t rfl⟩ rfl (le_t rfl) fun z10 h9 => ?_
  exact mr_iret dX2_leastBelow_25 rfl (le_t rfl) (le_t rfl) hT mF.refl ⟨h9.1, trivial⟩
theorem vc_X2_leastBelow_31_1 {p3 : Int} (h0 : 32 ≤ p3) (h1 : 31 ≤ p3 ∧ p3 ≤ 31) : False := by omega
set_option maxRecDepth 4000 in
set_option maxHeartbeats 4000000 in
theorem c_X2_leastBelow_31 {l : Launch} {D : va_G} {c : Nat → ClassId} {H0 : Heap} {sa : Nat × Nat × (Nat → Int32)} {w : mW} {μ : mM} (hw : mWF w) (hT : mT w μ) {p1 : Int} (hp1 : 0 ≤ p1 ∧ p1 ≤ 9) {p2 : Int} (hp2 : (-2147483648) ≤ p2 ∧ p2 ≤ 2147483647) {p3 : Int} (hp3 : 31 ≤ p3 ∧ p3 ≤ 31) (hq0 : p1 < w.2.2.2 0) : sC (gG l D c H0 sa) mX2_leastBelow 4 0 0 [.ref 87, iv p1, iv p2, iv p3] (mk w μ) (qI w [87007] μ (fun z μ1 => ((-2147483648) ≤ z ∧ z ≤ 2147483647) ∧ True)) := by
  refine sC.of rfl (by decide) (le_t rfl) ?_
  refine mr_lvE (lv' := [(0, .ref 87), (1, iv p1), (2, iv p2), (3, iv p3)]) rfl ?_
  refine mr_iload_n (pc := 0) (z := p3) dX2_leastBelow_0 rfl rfl ?_
  refine mr_bipush (pc := 1) (z := 32) dX2_leastBelow_1 (by decide) ?_
  refine mr_icmp_ge (pc := 3) (tgt := 16) dX2_leastBelow_3 (by decide) (r32 hp3 rfl) (r32 (rR (x := 32)) rfl) (fun h => ((vc_X2_leastBelow_31_1 h hp3)).elim) (fun _ => ?_)
  refine sv_aload_n (pc := 6) dX2_leastBelow_6 rfl rfl ?_
  refine mr_iload_n (pc := 7) (z := p1) dX2_leastBelow_7 rfl rfl ?_
  refine mr_iload_n (pc := 8) (z := p2) dX2_leastBelow_8 rfl rfl ?_
  refine mr_iload_n (pc := 9) (z := p3) dX2_leastBelow_9 rfl rfl ?_
  refine mr_cVP (pc := 10) (c_X2_isSplit hw hT hp1 hp2 (rW (c := (-2147483648)) (d := 2147483647) hp3 rfl) (vc_X9_end_1 hq0 hp1)) (gOk _ _ _ _ _) dX2_leastBelow_10 (tX2_isSplit _ _ _ _ _) ⟨wV_X2_isSplit, wL_X2_isSplit⟩ wM_X2_106 (gCX2 _ _ _ _ _) rfl (A_87 hw) rfl ⟨le_t rfl, le_t rfl⟩ ⟨le_t rfl, le_t rfl⟩ rfl (le_t rfl) fun z5 h4 => ?_
  refine mr_if_ne (pc := 13) (tgt := 26) dX2_leastBelow_13 (by decide) (r32 h4.1 rfl) (fun h6 => ?_) (fun h6 => ?_)
  · have h7 : 1 ≤ z5 ∧ z5 ≤ 1 := (vc_X12_ring_24 h6 h4.1)
    refine sv_aload_n (pc := 26) dX2_leastBelow_26 rfl rfl ?_
    refine mr_iload_n (pc := 27) (z := p1) dX2_leastBelow_27 rfl rfl ?_
    refine mr_iload_n (pc := 28) (z := p2) dX2_leastBelow_28 rfl rfl ?_
    refine mr_iload_n (pc := 29) (z := p3) dX2_leastBelow_29 rfl rfl ?_
    refine mr_iconst (pc := 30) (z := 1) dX2_leastBelow_30 ?_
    refine mr_iadd (pc := 31) (x := p3) (y := 1) dX2_leastBelow_31 ?_
    refine mr_cVI (pc := 32) (c_X2_leastBelow_32 hw hT hp1 hp2 (rAdd (e := 32) (f := 32) hp3 (rR (x := 1)) rfl) (vc_X9_end_1 hq0 hp1)) (gOk _ _ _ _ _) dX2_leastBelow_32 (tX2_leastBelow _ _ _ _ _) ⟨wV_X2_leastBelow, wL_X2_leastBelow⟩ wM_X2_101 (gCX2 _ _ _ _ _) rfl (A_87 hw) rfl ⟨le_t rfl, le_t rfl⟩ ⟨le_t rfl, le_t rfl⟩ rfl (le_t rfl) fun z12 μ8 T9 F10 h11 => ?_
    refine mr_istore (pc := 35) (lv' := [(4, iv z12), (0, .ref 87), (1, iv p1), (2, iv p2), (3, iv p3)]) dX2_leastBelow_35 (by decide) rfl ?_
    refine sv_aload_n (pc := 37) dX2_leastBelow_37 rfl rfl ?_
    refine mr_iload_n (pc := 38) (z := p1) dX2_leastBelow_38 rfl rfl ?_
    refine mr_iload_n (pc := 39) (z := p2) dX2_leastBelow_39 rfl rfl ?_
    refine mr_iconst (pc := 40) (z := 1) dX2_leastBelow_40 ?_
    refine mr_bipush (pc := 41) (z := 31) dX2_leastBelow_41 (by decide) ?_
    refine mr_iload_n (pc := 43) (z := p3) dX2_leastBelow_43 rfl rfl ?_
    refine mr_isub (pc := 44) (x := 31) (y := p3) dX2_leastBelow_44 ?_
    refine mr_ishl (pc := 45) (x := 1) (y := (31 - p3)) dX2_leastBelow_45 ?_
    refine mr_gen (P := fun z => (-2147483648) ≤ z ∧ z ≤ 2147483647) (r32i _) fun z13 q14 h15 => ?_
    refine mr_ior (pc := 46) (x := p2) (y := z13) dX2_leastBelow_46 ?_
    refine mr_gen (P := fun z => (-2147483648) ≤ z ∧ z ≤ 2147483647) (r32i _) fun z16 q17 h18 => ?_
    refine mr_iload_n (pc := 47) (z := p3) dX2_leastBelow_47 rfl rfl ?_
    refine mr_iconst (pc := 48) (z := 1) dX2_leastBelow_48 ?_
    refine mr_iadd (pc := 49) (x := p3) (y := 1) dX2_leastBelow_49 ?_
    refine mr_cVI (pc := 50) (c_X2_leastBelow_32 hw T9 hp1 h18 (rAdd (e := 32) (f := 32) hp3 (rR (x := 1)) rfl) (vc_X9_end_1 hq0 hp1)) (gOk _ _ _ _ _) dX2_leastBelow_50 (tX2_leastBelow _ _ _ _ _) ⟨wV_X2_leastBelow, wL_X2_leastBelow⟩ wM_X2_101 (gCX2 _ _ _ _ _) rfl (A_87 hw) rfl ⟨le_t rfl, le_t rfl⟩ ⟨le_t rfl, le_t rfl⟩ rfl (le_t rfl) fun z23 μ19 T20 F21 h22 => ?_
    refine mr_istore (pc := 53) (lv' := [(5, iv z23), (4, iv z12), (0, .ref 87), (1, iv p1), (2, iv p2), (3, iv p3)]) dX2_leastBelow_53 (by decide) rfl ?_
    refine mr_iload (pc := 55) (z := z12) dX2_leastBelow_55 rfl ?_
    refine mr_iload (pc := 57) (z := z23) dX2_leastBelow_57 rfl ?_
    refine mr_iand (pc := 59) (x := z12) (y := z23) dX2_leastBelow_59 ?_
    refine mr_gen (P := fun z => (-2147483648) ≤ z ∧ z ≤ 2147483647) (r32i _) fun z24 q25 h26 => ?_
    refine mr_if_eq (pc := 60) (tgt := 69) dX2_leastBelow_60 (by decide) h26 (fun h27 => ?_) (fun h27 => ?_)
    · have h28 : 0 ≤ z24 ∧ z24 ≤ 0 := (vc_X12_mask_1 h27 h26)
      refine sv_aload_n (pc := 69) dX2_leastBelow_69 rfl rfl ?_
      refine sv_dup (pc := 70) dX2_leastBelow_70 rfl ?_
      refine gf_X2_7 (pc := 71) dX2_leastBelow_71 wF_X2_98 (A_87 hw) T20 fun z29 q30 h31 => ?_
      refine mr_iconst (pc := 74) (z := 1) dX2_leastBelow_74 ?_
      refine mr_iadd (pc := 75) (x := z29) (y := 1) dX2_leastBelow_75 ?_
      refine mr_wrap fun z32 h33 => ?_
      refine pf_X2_7 (pc := 76) dX2_leastBelow_76 wF_X2_98 (A_87 hw) T20 h33 fun μ34 u35 T36 => ?_
      refine mr_iload (pc := 79) (z := z12) dX2_leastBelow_79 rfl ?_
      refine mr_iload (pc := 81) (z := z23) dX2_leastBelow_81 rfl ?_
      refine mr_ior (pc := 83) (x := z12) (y := z23) dX2_leastBelow_83 ?_
      refine mr_gen (P := fun z => (-2147483648) ≤ z ∧ z ≤ 2147483647) (r32i _) fun z37 q38 h39 => ?_
      exact mr_iret dX2_leastBelow_84 rfl (le_t rfl) (le_t rfl) T36 (mF.up (mF.call (mF.call mF.refl F10 rfl) F21 rfl) (A_87 hw) u35 rfl) ⟨h39, trivial⟩
    refine mr_iload (pc := 63) (z := z12) dX2_leastBelow_63 rfl ?_
    refine mr_iload (pc := 65) (z := z23) dX2_leastBelow_65 rfl ?_
    refine mr_iand (pc := 67) (x := z12) (y := z23) dX2_leastBelow_67 ?_
    refine mr_gen (P := fun z => (-2147483648) ≤ z ∧ z ≤ 2147483647) (r32i _) fun z40 q41 h42 => ?_
    exact mr_iret dX2_leastBelow_68 rfl (le_t rfl) (le_t rfl) T20 (mF.call (mF.call mF.refl F10 rfl) F21 rfl) ⟨h42, trivial⟩
  have h43 : 0 ≤ z5 ∧ z5 ≤ 0 := (vc_X12_ring_22 h6 h4.1)
  refine sv_aload_n (pc := 16) dX2_leastBelow_16 rfl rfl ?_
  refine mr_iload_n (pc := 17) (z := p1) dX2_leastBelow_17 rfl rfl ?_
  refine mr_iload_n (pc := 18) (z := p2) dX2_leastBelow_18 rfl rfl ?_
  refine mr_cVP (pc := 19) (c_X2_tieFor hw hT hp1 hp2 (vc_X9_end_1 hq0 hp1)) (gOk _ _ _ _ _) dX2_leastBelow_19 (tX2_tieFor _ _ _ _ _) ⟨wV_X2_tieFor, wL_X2_tieFor⟩ wM_X2_60 (gCX2 _ _ _ _ _) rfl (A_87 hw) rfl ⟨le_t rfl, le_t rfl⟩ ⟨le_t rfl, le_t rfl⟩ rfl (le_t rfl) fun z48 h47 => ?_
  refine mr_cSP (pc := 22) (c_X2_aimBit hw hT h47.1) (gOk _ _ _ _ _) dX2_leastBelow_22 (tX2_aimBit _ _ _ _ _) wS_X2_aimBit wM_X2_110 ⟨le_t rfl, le_t rfl⟩ ⟨le_t rfl, le_t rfl⟩ rfl (le_t rfl) fun z53 h52 => ?_
  exact mr_iret dX2_leastBelow_25 rfl (le_t rfl) (le_t rfl) hT mF.refl ⟨h52.1, trivial⟩
theorem vc_X2_leastBelow_30_1 {p3 : Int} (h0 : 32 ≤ p3) (h1 : 30 ≤ p3 ∧ p3 ≤ 30) : False := by omega
set_option maxRecDepth 4000 in
set_option maxHeartbeats 4000000 in
theorem c_X2_leastBelow_30 {l : Launch} {D : va_G} {c : Nat → ClassId} {H0 : Heap} {sa : Nat × Nat × (Nat → Int32)} {w : mW} {μ : mM} (hw : mWF w) (hT : mT w μ) {p1 : Int} (hp1 : 0 ≤ p1 ∧ p1 ≤ 9) {p2 : Int} (hp2 : (-2147483648) ≤ p2 ∧ p2 ≤ 2147483647) {p3 : Int} (hp3 : 30 ≤ p3 ∧ p3 ≤ 30) (hq0 : p1 < w.2.2.2 0) : sC (gG l D c H0 sa) mX2_leastBelow 5 0 0 [.ref 87, iv p1, iv p2, iv p3] (mk w μ) (qI w [87007] μ (fun z μ1 => ((-2147483648) ≤ z ∧ z ≤ 2147483647) ∧ True)) := by
  refine sC.of rfl (by decide) (le_t rfl) ?_
  refine mr_lvE (lv' := [(0, .ref 87), (1, iv p1), (2, iv p2), (3, iv p3)]) rfl ?_
  refine mr_iload_n (pc := 0) (z := p3) dX2_leastBelow_0 rfl rfl ?_
  refine mr_bipush (pc := 1) (z := 32) dX2_leastBelow_1 (by decide) ?_
  refine mr_icmp_ge (pc := 3) (tgt := 16) dX2_leastBelow_3 (by decide) (r32 hp3 rfl) (r32 (rR (x := 32)) rfl) (fun h => ((vc_X2_leastBelow_30_1 h hp3)).elim) (fun _ => ?_)
  refine sv_aload_n (pc := 6) dX2_leastBelow_6 rfl rfl ?_
  refine mr_iload_n (pc := 7) (z := p1) dX2_leastBelow_7 rfl rfl ?_
  refine mr_iload_n (pc := 8) (z := p2) dX2_leastBelow_8 rfl rfl ?_
  refine mr_iload_n (pc := 9) (z := p3) dX2_leastBelow_9 rfl rfl ?_
  refine mr_cVP (pc := 10) (c_X2_isSplit hw hT hp1 hp2 (rW (c := (-2147483648)) (d := 2147483647) hp3 rfl) (vc_X9_end_1 hq0 hp1)) (gOk _ _ _ _ _) dX2_leastBelow_10 (tX2_isSplit _ _ _ _ _) ⟨wV_X2_isSplit, wL_X2_isSplit⟩ wM_X2_106 (gCX2 _ _ _ _ _) rfl (A_87 hw) rfl ⟨le_t rfl, le_t rfl⟩ ⟨le_t rfl, le_t rfl⟩ rfl (le_t rfl) fun z5 h4 => ?_
  refine mr_if_ne (pc := 13) (tgt := 26) dX2_leastBelow_13 (by decide) (r32 h4.1 rfl) (fun h6 => ?_) (fun h6 => ?_)
  · have h7 : 1 ≤ z5 ∧ z5 ≤ 1 := (vc_X12_ring_24 h6 h4.1)
    refine sv_aload_n (pc := 26) dX2_leastBelow_26 rfl rfl ?_
    refine mr_iload_n (pc := 27) (z := p1) dX2_leastBelow_27 rfl rfl ?_
    refine mr_iload_n (pc := 28) (z := p2) dX2_leastBelow_28 rfl rfl ?_
    refine mr_iload_n (pc := 29) (z := p3) dX2_leastBelow_29 rfl rfl ?_
    refine mr_iconst (pc := 30) (z := 1) dX2_leastBelow_30 ?_
    refine mr_iadd (pc := 31) (x := p3) (y := 1) dX2_leastBelow_31 ?_
    refine mr_cVI (pc := 32) (c_X2_leastBelow_31 hw hT hp1 hp2 (rAdd (e := 31) (f := 31) hp3 (rR (x := 1)) rfl) (vc_X9_end_1 hq0 hp1)) (gOk _ _ _ _ _) dX2_leastBelow_32 (tX2_leastBelow _ _ _ _ _) ⟨wV_X2_leastBelow, wL_X2_leastBelow⟩ wM_X2_101 (gCX2 _ _ _ _ _) rfl (A_87 hw) rfl ⟨le_t rfl, le_t rfl⟩ ⟨le_t rfl, le_t rfl⟩ rfl (le_t rfl) fun z12 μ8 T9 F10 h11 => ?_
    refine mr_istore (pc := 35) (lv' := [(4, iv z12), (0, .ref 87), (1, iv p1), (2, iv p2), (3, iv p3)]) dX2_leastBelow_35 (by decide) rfl ?_
    refine sv_aload_n (pc := 37) dX2_leastBelow_37 rfl rfl ?_
    refine mr_iload_n (pc := 38) (z := p1) dX2_leastBelow_38 rfl rfl ?_
    refine mr_iload_n (pc := 39) (z := p2) dX2_leastBelow_39 rfl rfl ?_
    refine mr_iconst (pc := 40) (z := 1) dX2_leastBelow_40 ?_
    refine mr_bipush (pc := 41) (z := 31) dX2_leastBelow_41 (by decide) ?_
    refine mr_iload_n (pc := 43) (z := p3) dX2_leastBelow_43 rfl rfl ?_
    refine mr_isub (pc := 44) (x := 31) (y := p3) dX2_leastBelow_44 ?_
    refine mr_ishl (pc := 45) (x := 1) (y := (31 - p3)) dX2_leastBelow_45 ?_
    refine mr_gen (P := fun z => (-2147483648) ≤ z ∧ z ≤ 2147483647) (r32i _) fun z13 q14 h15 => ?_
    refine mr_ior (pc := 46) (x := p2) (y := z13) dX2_leastBelow_46 ?_
    refine mr_gen (P := fun z => (-2147483648) ≤ z ∧ z ≤ 2147483647) (r32i _) fun z16 q17 h18 => ?_
    refine mr_iload_n (pc := 47) (z := p3) dX2_leastBelow_47 rfl rfl ?_
    refine mr_iconst (pc := 48) (z := 1) dX2_leastBelow_48 ?_
    refine mr_iadd (pc := 49) (x := p3) (y := 1) dX2_leastBelow_49 ?_
    refine mr_cVI (pc := 50) (c_X2_leastBelow_31 hw T9 hp1 h18 (rAdd (e := 31) (f := 31) hp3 (rR (x := 1)) rfl) (vc_X9_end_1 hq0 hp1)) (gOk _ _ _ _ _) dX2_leastBelow_50 (tX2_leastBelow _ _ _ _ _) ⟨wV_X2_leastBelow, wL_X2_leastBelow⟩ wM_X2_101 (gCX2 _ _ _ _ _) rfl (A_87 hw) rfl ⟨le_t rfl, le_t rfl⟩ ⟨le_t rfl, le_t rfl⟩ rfl (le_t rfl) fun z23 μ19 T20 F21 h22 => ?_
    refine mr_istore (pc := 53) (lv' := [(5, iv z23), (4, iv z12), (0, .ref 87), (1, iv p1), (2, iv p2), (3, iv p3)]) dX2_leastBelow_53 (by decide) rfl ?_
    refine mr_iload (pc := 55) (z := z12) dX2_leastBelow_55 rfl ?_
    refine mr_iload (pc := 57) (z := z23) dX2_leastBelow_57 rfl ?_
    refine mr_iand (pc := 59) (x := z12) (y := z23) dX2_leastBelow_59 ?_
    refine mr_gen (P := fun z => (-2147483648) ≤ z ∧ z ≤ 2147483647) (r32i _) fun z24 q25 h26 => ?_
    refine mr_if_eq (pc := 60) (tgt := 69) dX2_leastBelow_60 (by decide) h26 (fun h27 => ?_) (fun h27 => ?_)
    · have h28 : 0 ≤ z24 ∧ z24 ≤ 0 := (vc_X12_mask_1 h27 h26)
      refine sv_aload_n (pc := 69) dX2_leastBelow_69 rfl rfl ?_
      refine sv_dup (pc := 70) dX2_leastBelow_70 rfl ?_
      refine gf_X2_7 (pc := 71) dX2_leastBelow_71 wF_X2_98 (A_87 hw) T20 fun z29 q30 h31 => ?_
      refine mr_iconst (pc := 74) (z := 1) dX2_leastBelow_74 ?_
      refine mr_iadd (pc := 75) (x := z29) (y := 1) dX2_leastBelow_75 ?_
      refine mr_wrap fun z32 h33 => ?_
      refine pf_X2_7 (pc := 76) dX2_leastBelow_76 wF_X2_98 (A_87 hw) T20 h33 fun μ34 u35 T36 => ?_
      refine mr_iload (pc := 79) (z := z12) dX2_leastBelow_79 rfl ?_
      refine mr_iload (pc := 81) (z := z23) dX2_leastBelow_81 rfl ?_
      refine mr_ior (pc := 83) (x := z12) (y := z23) dX2_leastBelow_83 ?_
      refine mr_gen (P := fun z => (-2147483648) ≤ z ∧ z ≤ 2147483647) (r32i _) fun z37 q38 h39 => ?_
      exact mr_iret dX2_leastBelow_84 rfl (le_t rfl) (le_t rfl) T36 (mF.up (mF.call (mF.call mF.refl F10 rfl) F21 rfl) (A_87 hw) u35 rfl) ⟨h39, trivial⟩
    refine mr_iload (pc := 63) (z := z12) dX2_leastBelow_63 rfl ?_
    refine mr_iload (pc := 65) (z := z23) dX2_leastBelow_65 rfl ?_
    refine mr_iand (pc := 67) (x := z12) (y := z23) dX2_leastBelow_67 ?_
    refine mr_gen (P := fun z => (-2147483648) ≤ z ∧ z ≤ 2147483647) (r32i _) fun z40 q41 h42 => ?_
    exact mr_iret dX2_leastBelow_68 rfl (le_t rfl) (le_t rfl) T20 (mF.call (mF.call mF.refl F10 rfl) F21 rfl) ⟨h42, trivial⟩
  have h43 : 0 ≤ z5 ∧ z5 ≤ 0 := (vc_X12_ring_22 h6 h4.1)
  refine sv_aload_n (pc := 16) dX2_leastBelow_16 rfl rfl ?_
  refine mr_iload_n (pc := 17) (z := p1) dX2_leastBelow_17 rfl rfl ?_
  refine mr_iload_n (pc := 18) (z := p2) dX2_leastBelow_18 rfl rfl ?_
  refine mr_cVP (pc := 19) (c_X2_tieFor hw hT hp1 hp2 (vc_X9_end_1 hq0 hp1)) (gOk _ _ _ _ _) dX2_leastBelow_19 (tX2_tieFor _ _ _ _ _) ⟨wV_X2_tieFor, wL_X2_tieFor⟩ wM_X2_60 (gCX2 _ _ _ _ _) rfl (A_87 hw) rfl ⟨le_t rfl, le_t rfl⟩ ⟨le_t rfl, le_t rfl⟩ rfl (le_t rfl) fun z48 h47 => ?_
  refine mr_cSP (pc := 22) (c_X2_aimBit hw hT h47.1) (gOk _ _ _ _ _) dX2_leastBelow_22 (tX2_aimBit _ _ _ _ _) wS_X2_aimBit wM_X2_110 ⟨le_t rfl, le_t rfl⟩ ⟨le_t rfl, le_t rfl⟩ rfl (le_t rfl) fun z53 h52 => ?_
  exact mr_iret dX2_leastBelow_25 rfl (le_t rfl) (le_t rfl) hT mF.refl ⟨h52.1, trivial⟩
theorem vc_X2_leastBelow_29_1 {p3 : Int} (h0 : 32 ≤ p3) (h1 : 29 ≤ p3 ∧ p3 ≤ 29) : False := by omega
set_option maxRecDepth 4000 in
set_option maxHeartbeats 4000000 in
theorem c_X2_leastBelow_29 {l : Launch} {D : va_G} {c : Nat → ClassId} {H0 : Heap} {sa : Nat × Nat × (Nat → Int32)} {w : mW} {μ : mM} (hw : mWF w) (hT : mT w μ) {p1 : Int} (hp1 : 0 ≤ p1 ∧ p1 ≤ 9) {p2 : Int} (hp2 : (-2147483648) ≤ p2 ∧ p2 ≤ 2147483647) {p3 : Int} (hp3 : 29 ≤ p3 ∧ p3 ≤ 29) (hq0 : p1 < w.2.2.2 0) : sC (gG l D c H0 sa) mX2_leastBelow 6 0 0 [.ref 87, iv p1, iv p2, iv p3] (mk w μ) (qI w [87007] μ (fun z μ1 => ((-2147483648) ≤ z ∧ z ≤ 2147483647) ∧ True)) := by
  refine sC.of rfl (by decide) (le_t rfl) ?_
  refine mr_lvE (lv' := [(0, .ref 87), (1, iv p1), (2, iv p2), (3, iv p3)]) rfl ?_
  refine mr_iload_n (pc := 0) (z := p3) dX2_leastBelow_0 rfl rfl ?_
  refine mr_bipush (pc := 1) (z := 32) dX2_leastBelow_1 (by decide) ?_
  refine mr_icmp_ge (pc := 3) (tgt := 16) dX2_leastBelow_3 (by decide) (r32 hp3 rfl) (r32 (rR (x := 32)) rfl) (fun h => ((vc_X2_leastBelow_29_1 h hp3)).elim) (fun _ => ?_)
  refine sv_aload_n (pc := 6) dX2_leastBelow_6 rfl rfl ?_
  refine mr_iload_n (pc := 7) (z := p1) dX2_leastBelow_7 rfl rfl ?_
  refine mr_iload_n (pc := 8) (z := p2) dX2_leastBelow_8 rfl rfl ?_
  refine mr_iload_n (pc := 9) (z := p3) dX2_leastBelow_9 rfl rfl ?_
  refine mr_cVP (pc := 10) (c_X2_isSplit hw hT hp1 hp2 (rW (c := (-2147483648)) (d := 2147483647) hp3 rfl) (vc_X9_end_1 hq0 hp1)) (gOk _ _ _ _ _) dX2_leastBelow_10 (tX2_isSplit _ _ _ _ _) ⟨wV_X2_isSplit, wL_X2_isSplit⟩ wM_X2_106 (gCX2 _ _ _ _ _) rfl (A_87 hw) rfl ⟨le_t rfl, le_t rfl⟩ ⟨le_t rfl, le_t rfl⟩ rfl (le_t rfl) fun z5 h4 => ?_
  refine mr_if_ne (pc := 13) (tgt := 26) dX2_leastBelow_13 (by decide) (r32 h4.1 rfl) (fun h6 => ?_) (fun h6 => ?_)
  · have h7 : 1 ≤ z5 ∧ z5 ≤ 1 := (vc_X12_ring_24 h6 h4.1)
    refine sv_aload_n (pc := 26) dX2_leastBelow_26 rfl rfl ?_
    refine mr_iload_n (pc := 27) (z := p1) dX2_leastBelow_27 rfl rfl ?_
    refine mr_iload_n (pc := 28) (z := p2) dX2_leastBelow_28 rfl rfl ?_
    refine mr_iload_n (pc := 29) (z := p3) dX2_leastBelow_29 rfl rfl ?_
    refine mr_iconst (pc := 30) (z := 1) dX2_leastBelow_30 ?_
    refine mr_iadd (pc := 31) (x := p3) (y := 1) dX2_leastBelow_31 ?_
    refine mr_cVI (pc := 32) (c_X2_leastBelow_30 hw hT hp1 hp2 (rAdd (e := 30) (f := 30) hp3 (rR (x := 1)) rfl) (vc_X9_end_1 hq0 hp1)) (gOk _ _ _ _ _) dX2_leastBelow_32 (tX2_leastBelow _ _ _ _ _) ⟨wV_X2_leastBelow, wL_X2_leastBelow⟩ wM_X2_101 (gCX2 _ _ _ _ _) rfl (A_87 hw) rfl ⟨le_t rfl, le_t rfl⟩ ⟨le_t rfl, le_t rfl⟩ rfl (le_t rfl) fun z12 μ8 T9 F10 h11 => ?_
    refine mr_istore (pc := 35) (lv' := [(4, iv z12), (0, .ref 87), (1, iv p1), (2, iv p2), (3, iv p3)]) dX2_leastBelow_35 (by decide) rfl ?_
    refine sv_aload_n (pc := 37) dX2_leastBelow_37 rfl rfl ?_
    refine mr_iload_n (pc := 38) (z := p1) dX2_leastBelow_38 rfl rfl ?_
    refine mr_iload_n (pc := 39) (z := p2) dX2_leastBelow_39 rfl rfl ?_
    refine mr_iconst (pc := 40) (z := 1) dX2_leastBelow_40 ?_
    refine mr_bipush (pc := 41) (z := 31) dX2_leastBelow_41 (by decide) ?_
    refine mr_iload_n (pc := 43) (z := p3) dX2_leastBelow_43 rfl rfl ?_
    refine mr_isub (pc := 44) (x := 31) (y := p3) dX2_leastBelow_44 ?_
    refine mr_ishl (pc := 45) (x := 1) (y := (31 - p3)) dX2_leastBelow_45 ?_
    refine mr_gen (P := fun z => (-2147483648) ≤ z ∧ z ≤ 2147483647) (r32i _) fun z13 q14 h15 => ?_
    refine mr_ior (pc := 46) (x := p2) (y := z13) dX2_leastBelow_46 ?_
    refine mr_gen (P := fun z => (-2147483648) ≤ z ∧ z ≤ 2147483647) (r32i _) fun z16 q17 h18 => ?_
    refine mr_iload_n (pc := 47) (z := p3) dX2_leastBelow_47 rfl rfl ?_
    refine mr_iconst (pc := 48) (z := 1) dX2_leastBelow_48 ?_
    refine mr_iadd (pc := 49) (x := p3) (y := 1) dX2_leastBelow_49 ?_
    refine mr_cVI (pc := 50) (c_X2_leastBelow_30 hw T9 hp1 h18 (rAdd (e := 30) (f := 30) hp3 (rR (x := 1)) rfl) (vc_X9_end_1 hq0 hp1)) (gOk _ _ _ _ _) dX2_leastBelow_50 (tX2_leastBelow _ _ _ _ _) ⟨wV_X2_leastBelow, wL_X2_leastBelow⟩ wM_X2_101 (gCX2 _ _ _ _ _) rfl (A_87 hw) rfl ⟨le_t rfl, le_t rfl⟩ ⟨le_t rfl, le_t rfl⟩ rfl (le_t rfl) fun z23 μ19 T20 F21 h22 => ?_
    refine mr_istore (pc := 53) (lv' := [(5, iv z23), (4, iv z12), (0, .ref 87), (1, iv p1), (2, iv p2), (3, iv p3)]) dX2_leastBelow_53 (by decide) rfl ?_
    refine mr_iload (pc := 55) (z := z12) dX2_leastBelow_55 rfl ?_
    refine mr_iload (pc := 57) (z := z23) dX2_leastBelow_57 rfl ?_
    refine mr_iand (pc := 59) (x := z12) (y := z23) dX2_leastBelow_59 ?_
    refine mr_gen (P := fun z => (-2147483648) ≤ z ∧ z ≤ 2147483647) (r32i _) fun z24 q25 h26 => ?_
    refine mr_if_eq (pc := 60) (tgt := 69) dX2_leastBelow_60 (by decide) h26 (fun h27 => ?_) (fun h27 => ?_)
    · have h28 : 0 ≤ z24 ∧ z24 ≤ 0 := (vc_X12_mask_1 h27 h26)
      refine sv_aload_n (pc := 69) dX2_leastBelow_69 rfl rfl ?_
      refine sv_dup (pc := 70) dX2_leastBelow_70 rfl ?_
      refine gf_X2_7 (pc := 71) dX2_leastBelow_71 wF_X2_98 (A_87 hw) T20 fun z29 q30 h31 => ?_
      refine mr_iconst (pc := 74) (z := 1) dX2_leastBelow_74 ?_
      refine mr_iadd (pc := 75) (x := z29) (y := 1) dX2_leastBelow_75 ?_
      refine mr_wrap fun z32 h33 => ?_
      refine pf_X2_7 (pc := 76) dX2_leastBelow_76 wF_X2_98 (A_87 hw) T20 h33 fun μ34 u35 T36 => ?_
      refine mr_iload (pc := 79) (z := z12) dX2_leastBelow_79 rfl ?_
      refine mr_iload (pc := 81) (z := z23) dX2_leastBelow_81 rfl ?_
      refine mr_ior (pc := 83) (x := z12) (y := z23) dX2_leastBelow_83 ?_
      refine mr_gen (P := fun z => (-2147483648) ≤ z ∧ z ≤ 2147483647) (r32i _) fun z37 q38 h39 => ?_
      exact mr_iret dX2_leastBelow_84 rfl (le_t rfl) (le_t rfl) T36 (mF.up (mF.call (mF.call mF.refl F10 rfl) F21 rfl) (A_87 hw) u35 rfl) ⟨h39, trivial⟩
    refine mr_iload (pc := 63) (z := z12) dX2_leastBelow_63 rfl ?_
    refine mr_iload (pc := 65) (z := z23) dX2_leastBelow_65 rfl ?_
    refine mr_iand (pc := 67) (x := z12) (y := z23) dX2_leastBelow_67 ?_
    refine mr_gen (P := fun z => (-2147483648) ≤ z ∧ z ≤ 2147483647) (r32i _) fun z40 q41 h42 => ?_
    exact mr_iret dX2_leastBelow_68 rfl (le_t rfl) (le_t rfl) T20 (mF.call (mF.call mF.refl F10 rfl) F21 rfl) ⟨h42, trivial⟩
  have h43 : 0 ≤ z5 ∧ z5 ≤ 0 := (vc_X12_ring_22 h6 h4.1)
  refine sv_aload_n (pc := 16) dX2_leastBelow_16 rfl rfl ?_
  refine mr_iload_n (pc := 17) (z := p1) dX2_leastBelow_17 rfl rfl ?_
  refine mr_iload_n (pc := 18) (z := p2) dX2_leastBelow_18 rfl rfl ?_
  refine mr_cVP (pc := 19) (c_X2_tieFor hw hT hp1 hp2 (vc_X9_end_1 hq0 hp1)) (gOk _ _ _ _ _) dX2_leastBelow_19 (tX2_tieFor _ _ _ _ _) ⟨wV_X2_tieFor, wL_X2_tieFor⟩ wM_X2_60 (gCX2 _ _ _ _ _) rfl (A_87 hw) rfl ⟨le_t rfl, le_t rfl⟩ ⟨le_t rfl, le_t rfl⟩ rfl (le_t rfl) fun z48 h47 => ?_
  refine mr_cSP (pc := 22) (c_X2_aimBit hw hT h47.1) (gOk _ _ _ _ _) dX2_leastBelow_22 (tX2_aimBit _ _ _ _ _) wS_X2_aimBit wM_X2_110 ⟨le_t rfl, le_t rfl⟩ ⟨le_t rfl, le_t rfl⟩ rfl (le_t rfl) fun z53 h52 => ?_
  exact mr_iret dX2_leastBelow_25 rfl (le_t rfl) (le_t rfl) hT mF.refl ⟨h52.1, trivial⟩
theorem vc_X2_leastBelow_28_1 {p3 : Int} (h0 : 32 ≤ p3) (h1 : 28 ≤ p3 ∧ p3 ≤ 28) : False := by omega
set_option maxRecDepth 4000 in
set_option maxHeartbeats 4000000 in
theorem c_X2_leastBelow_28 {l : Launch} {D : va_G} {c : Nat → ClassId} {H0 : Heap} {sa : Nat × Nat × (Nat → Int32)} {w : mW} {μ : mM} (hw : mWF w) (hT : mT w μ) {p1 : Int} (hp1 : 0 ≤ p1 ∧ p1 ≤ 9) {p2 : Int} (hp2 : (-2147483648) ≤ p2 ∧ p2 ≤ 2147483647) {p3 : Int} (hp3 : 28 ≤ p3 ∧ p3 ≤ 28) (hq0 : p1 < w.2.2.2 0) : sC (gG l D c H0 sa) mX2_leastBelow 7 0 0 [.ref 87, iv p1, iv p2, iv p3] (mk w μ) (qI w [87007] μ (fun z μ1 => ((-2147483648) ≤ z ∧ z ≤ 2147483647) ∧ True)) := by
  refine sC.of rfl (by decide) (le_t rfl) ?_
  refine mr_lvE (lv' := [(0, .ref 87), (1, iv p1), (2, iv p2), (3, iv p3)]) rfl ?_
  refine mr_iload_n (pc := 0) (z := p3) dX2_leastBelow_0 rfl rfl ?_
  refine mr_bipush (pc := 1) (z := 32) dX2_leastBelow_1 (by decide) ?_
  refine mr_icmp_ge (pc := 3) (tgt := 16) dX2_leastBelow_3 (by decide) (r32 hp3 rfl) (r32 (rR (x := 32)) rfl) (fun h => ((vc_X2_leastBelow_28_1 h hp3)).elim) (fun _ => ?_)
  refine sv_aload_n (pc := 6) dX2_leastBelow_6 rfl rfl ?_
  refine mr_iload_n (pc := 7) (z := p1) dX2_leastBelow_7 rfl rfl ?_
  refine mr_iload_n (pc := 8) (z := p2) dX2_leastBelow_8 rfl rfl ?_
  refine mr_iload_n (pc := 9) (z := p3) dX2_leastBelow_9 rfl rfl ?_
  refine mr_cVP (pc := 10) (c_X2_isSplit hw hT hp1 hp2 (rW (c := (-2147483648)) (d := 2147483647) hp3 rfl) (vc_X9_end_1 hq0 hp1)) (gOk _ _ _ _ _) dX2_leastBelow_10 (tX2_isSplit _ _ _ _ _) ⟨wV_X2_isSplit, wL_X2_isSplit⟩ wM_X2_106 (gCX2 _ _ _ _ _) rfl (A_87 hw) rfl ⟨le_t rfl, le_t rfl⟩ ⟨le_t rfl, le_t rfl⟩ rfl (le_t rfl) fun z5 h4 => ?_
  refine mr_if_ne (pc := 13) (tgt := 26) dX2_leastBelow_13 (by decide) (r32 h4.1 rfl) (fun h6 => ?_) (fun h6 => ?_)
  · have h7 : 1 ≤ z5 ∧ z5 ≤ 1 := (vc_X12_ring_24 h6 h4.1)
    refine sv_aload_n (pc := 26) dX2_leastBelow_26 rfl rfl ?_
    refine mr_iload_n (pc := 27) (z := p1) dX2_leastBelow_27 rfl rfl ?_
    refine mr_iload_n (pc := 28) (z := p2) dX2_leastBelow_28 rfl rfl ?_
    refine mr_iload_n (pc := 29) (z := p3) dX2_leastBelow_29 rfl rfl ?_
    refine mr_iconst (pc := 30) (z := 1) dX2_leastBelow_30 ?_
    refine mr_iadd (pc := 31) (x := p3) (y := 1) dX2_leastBelow_31 ?_
    refine mr_cVI (pc := 32) (c_X2_leastBelow_29 hw hT hp1 hp2 (rAdd (e := 29) (f := 29) hp3 (rR (x := 1)) rfl) (vc_X9_end_1 hq0 hp1)) (gOk _ _ _ _ _) dX2_leastBelow_32 (tX2_leastBelow _ _ _ _ _) ⟨wV_X2_leastBelow, wL_X2_leastBelow⟩ wM_X2_101 (gCX2 _ _ _ _ _) rfl (A_87 hw) rfl ⟨le_t rfl, le_t rfl⟩ ⟨le_t rfl, le_t rfl⟩ rfl (le_t rfl) fun z12 μ8 T9 F10 h11 => ?_
    refine mr_istore (pc := 35) (lv' := [(4, iv z12), (0, .ref 87), (1, iv p1), (2, iv p2), (3, iv p3)]) dX2_leastBelow_35 (by decide) rfl ?_
    refine sv_aload_n (pc := 37) dX2_leastBelow_37 rfl rfl ?_
    refine mr_iload_n (pc := 38) (z := p1) dX2_leastBelow_38 rfl rfl ?_
    refine mr_iload_n (pc := 39) (z := p2) dX2_leastBelow_39 rfl rfl ?_
    refine mr_iconst (pc := 40) (z := 1) dX2_leastBelow_40 ?_
    refine mr_bipush (pc := 41) (z := 31) dX2_leastBelow_41 (by decide) ?_
    refine mr_iload_n (pc := 43) (z := p3) dX2_leastBelow_43 rfl rfl ?_
    refine mr_isub (pc := 44) (x := 31) (y := p3) dX2_leastBelow_44 ?_
    refine mr_ishl (pc := 45) (x := 1) (y := (31 - p3)) dX2_leastBelow_45 ?_
    refine mr_gen (P := fun z => (-2147483648) ≤ z ∧ z ≤ 2147483647) (r32i _) fun z13 q14 h15 => ?_
    refine mr_ior (pc := 46) (x := p2) (y := z13) dX2_leastBelow_46 ?_
    refine mr_gen (P := fun z => (-2147483648) ≤ z ∧ z ≤ 2147483647) (r32i _) fun z16 q17 h18 => ?_
    refine mr_iload_n (pc := 47) (z := p3) dX2_leastBelow_47 rfl rfl ?_
    refine mr_iconst (pc := 48) (z := 1) dX2_leastBelow_48 ?_
    refine mr_iadd (pc := 49) (x := p3) (y := 1) dX2_leastBelow_49 ?_
    refine mr_cVI (pc := 50) (c_X2_leastBelow_29 hw T9 hp1 h18 (rAdd (e := 29) (f := 29) hp3 (rR (x := 1)) rfl) (vc_X9_end_1 hq0 hp1)) (gOk _ _ _ _ _) dX2_leastBelow_50 (tX2_leastBelow _ _ _ _ _) ⟨wV_X2_leastBelow, wL_X2_leastBelow⟩ wM_X2_101 (gCX2 _ _ _ _ _) rfl (A_87 hw) rfl ⟨le_t rfl, le_t rfl⟩ ⟨le_t rfl, le_t rfl⟩ rfl (le_t rfl) fun z23 μ19 T20 F21 h22 => ?_
    refine mr_istore (pc := 53) (lv' := [(5, iv z23), (4, iv z12), (0, .ref 87), (1, iv p1), (2, iv p2), (3, iv p3)]) dX2_leastBelow_53 (by decide) rfl ?_
    refine mr_iload (pc := 55) (z := z12) dX2_leastBelow_55 rfl ?_
    refine mr_iload (pc := 57) (z := z23) dX2_leastBelow_57 rfl ?_
    refine mr_iand (pc := 59) (x := z12) (y := z23) dX2_leastBelow_59 ?_
    refine mr_gen (P := fun z => (-2147483648) ≤ z ∧ z ≤ 2147483647) (r32i _) fun z24 q25 h26 => ?_
    refine mr_if_eq (pc := 60) (tgt := 69) dX2_leastBelow_60 (by decide) h26 (fun h27 => ?_) (fun h27 => ?_)
    · have h28 : 0 ≤ z24 ∧ z24 ≤ 0 := (vc_X12_mask_1 h27 h26)
      refine sv_aload_n (pc := 69) dX2_leastBelow_69 rfl rfl ?_
      refine sv_dup (pc := 70) dX2_leastBelow_70 rfl ?_
      refine gf_X2_7 (pc := 71) dX2_leastBelow_71 wF_X2_98 (A_87 hw) T20 fun z29 q30 h31 => ?_
      refine mr_iconst (pc := 74) (z := 1) dX2_leastBelow_74 ?_
      refine mr_iadd (pc := 75) (x := z29) (y := 1) dX2_leastBelow_75 ?_
      refine mr_wrap fun z32 h33 => ?_
      refine pf_X2_7 (pc := 76) dX2_leastBelow_76 wF_X2_98 (A_87 hw) T20 h33 fun μ34 u35 T36 => ?_
      refine mr_iload (pc := 79) (z := z12) dX2_leastBelow_79 rfl ?_
      refine mr_iload (pc := 81) (z := z23) dX2_leastBelow_81 rfl ?_
      refine mr_ior (pc := 83) (x := z12) (y := z23) dX2_leastBelow_83 ?_
      refine mr_gen (P := fun z => (-2147483648) ≤ z ∧ z ≤ 2147483647) (r32i _) fun z37 q38 h39 => ?_
      exact mr_iret dX2_leastBelow_84 rfl (le_t rfl) (le_t rfl) T36 (mF.up (mF.call (mF.call mF.refl F10 rfl) F21 rfl) (A_87 hw) u35 rfl) ⟨h39, trivial⟩
    refine mr_iload (pc := 63) (z := z12) dX2_leastBelow_63 rfl ?_
    refine mr_iload (pc := 65) (z := z23) dX2_leastBelow_65 rfl ?_
    refine mr_iand (pc := 67) (x := z12) (y := z23) dX2_leastBelow_67 ?_
    refine mr_gen (P := fun z => (-2147483648) ≤ z ∧ z ≤ 2147483647) (r32i _) fun z40 q41 h42 => ?_
    exact mr_iret dX2_leastBelow_68 rfl (le_t rfl) (le_t rfl) T20 (mF.call (mF.call mF.refl F10 rfl) F21 rfl) ⟨h42, trivial⟩
  have h43 : 0 ≤ z5 ∧ z5 ≤ 0 := (vc_X12_ring_22 h6 h4.1)
  refine sv_aload_n (pc := 16) dX2_leastBelow_16 rfl rfl ?_
  refine mr_iload_n (pc := 17) (z := p1) dX2_leastBelow_17 rfl rfl ?_
  refine mr_iload_n (pc := 18) (z := p2) dX2_leastBelow_18 rfl rfl ?_
  refine mr_cVP (pc := 19) (c_X2_tieFor hw hT hp1 hp2 (vc_X9_end_1 hq0 hp1)) (gOk _ _ _ _ _) dX2_leastBelow_19 (tX2_tieFor _ _ _ _ _) ⟨wV_X2_tieFor, wL_X2_tieFor⟩ wM_X2_60 (gCX2 _ _ _ _ _) rfl (A_87 hw) rfl ⟨le_t rfl, le_t rfl⟩ ⟨le_t rfl, le_t rfl⟩ rfl (le_t rfl) fun z48 h47 => ?_
  refine mr_cSP (pc := 22) (c_X2_aimBit hw hT h47.1) (gOk _ _ _ _ _) dX2_leastBelow_22 (tX2_aimBit _ _ _ _ _) wS_X2_aimBit wM_X2_110 ⟨le_t rfl, le_t rfl⟩ ⟨le_t rfl, le_t rfl⟩ rfl (le_t rfl) fun z53 h52 => ?_
  exact mr_iret dX2_leastBelow_25 rfl (le_t rfl) (le_t rfl) hT mF.refl ⟨h52.1, trivial⟩
theorem vc_X2_leastBelow_27_1 {p3 : Int} (h0 : 32 ≤ p3) (h1 : 27 ≤ p3 ∧ p3 ≤ 27) : False := by omega
set_option maxRecDepth 4000 in
set_option maxHeartbeats 4000000 in
theorem c_X2_leastBelow_27 {l : Launch} {D : va_G} {c : Nat → ClassId} {H0 : Heap} {sa : Nat × Nat × (Nat → Int32)} {w : mW} {μ : mM} (hw : mWF w) (hT : mT w μ) {p1 : Int} (hp1 : 0 ≤ p1 ∧ p1 ≤ 9) {p2 : Int} (hp2 : (-2147483648) ≤ p2 ∧ p2 ≤ 2147483647) {p3 : Int} (hp3 : 27 ≤ p3 ∧ p3 ≤ 27) (hq0 : p1 < w.2.2.2 0) : sC (gG l D c H0 sa) mX2_leastBelow 8 0 0 [.ref 87, iv p1, iv p2, iv p3] (mk w μ) (qI w [87007] μ (fun z μ1 => ((-2147483648) ≤ z ∧ z ≤ 2147483647) ∧ True)) := by
  refine sC.of rfl (by decide) (le_t rfl) ?_
  refine mr_lvE (lv' := [(0, .ref 87), (1, iv p1), (2, iv p2), (3, iv p3)]) rfl ?_
  refine mr_iload_n (pc := 0) (z := p3) dX2_leastBelow_0 rfl rfl ?_
  refine mr_bipush (pc := 1) (z := 32) dX2_leastBelow_1 (by decide) ?_
  refine mr_icmp_ge (pc := 3) (tgt := 16) dX2_leastBelow_3 (by decide) (r32 hp3 rfl) (r32 (rR (x := 32)) rfl) (fun h => ((vc_X2_leastBelow_27_1 h hp3)).elim) (fun _ => ?_)
  refine sv_aload_n (pc := 6) dX2_leastBelow_6 rfl rfl ?_
  refine mr_iload_n (pc := 7) (z := p1) dX2_leastBelow_7 rfl rfl ?_
  refine mr_iload_n (pc := 8) (z := p2) dX2_leastBelow_8 rfl rfl ?_
  refine mr_iload_n (pc := 9) (z := p3) dX2_leastBelow_9 rfl rfl ?_
  refine mr_cVP (pc := 10) (c_X2_isSplit hw hT hp1 hp2 (rW (c := (-2147483648)) (d := 2147483647) hp3 rfl) (vc_X9_end_1 hq0 hp1)) (gOk _ _ _ _ _) dX2_leastBelow_10 (tX2_isSplit _ _ _ _ _) ⟨wV_X2_isSplit, wL_X2_isSplit⟩ wM_X2_106 (gCX2 _ _ _ _ _) rfl (A_87 hw) rfl ⟨le_t rfl, le_t rfl⟩ ⟨le_t rfl, le_t rfl⟩ rfl (le_t rfl) fun z5 h4 => ?_
  refine mr_if_ne (pc := 13) (tgt := 26) dX2_leastBelow_13 (by decide) (r32 h4.1 rfl) (fun h6 => ?_) (fun h6 => ?_)
  · have h7 : 1 ≤ z5 ∧ z5 ≤ 1 := (vc_X12_ring_24 h6 h4.1)
    refine sv_aload_n (pc := 26) dX2_leastBelow_26 rfl rfl ?_
    refine mr_iload_n (pc := 27) (z := p1) dX2_leastBelow_27 rfl rfl ?_
    refine mr_iload_n (pc := 28) (z := p2) dX2_leastBelow_28 rfl rfl ?_
    refine mr_iload_n (pc := 29) (z := p3) dX2_leastBelow_29 rfl rfl ?_
    refine mr_iconst (pc := 30) (z := 1) dX2_leastBelow_30 ?_
    refine mr_iadd (pc := 31) (x := p3) (y := 1) dX2_leastBelow_31 ?_
    refine mr_cVI (pc := 32) (c_X2_leastBelow_28 hw hT hp1 hp2 (rAdd (e := 28) (f := 28) hp3 (rR (x := 1)) rfl) (vc_X9_end_1 hq0 hp1)) (gOk _ _ _ _ _) dX2_leastBelow_32 (tX2_leastBelow _ _ _ _ _) ⟨wV_X2_leastBelow, wL_X2_leastBelow⟩ wM_X2_101 (gCX2 _ _ _ _ _) rfl (A_87 hw) rfl ⟨le_t rfl, le_t rfl⟩ ⟨le_t rfl, le_t rfl⟩ rfl (le_t rfl) fun z12 μ8 T9 F10 h11 => ?_
    refine mr_istore (pc := 35) (lv' := [(4, iv z12), (0, .ref 87), (1, iv p1), (2, iv p2), (3, iv p3)]) dX2_leastBelow_35 (by decide) rfl ?_
    refine sv_aload_n (pc := 37) dX2_leastBelow_37 rfl rfl ?_
    refine mr_iload_n (pc := 38) (z := p1) dX2_leastBelow_38 rfl rfl ?_
    refine mr_iload_n (pc := 39) (z := p2) dX2_leastBelow_39 rfl rfl ?_
    refine mr_iconst (pc := 40) (z := 1) dX2_leastBelow_40 ?_
    refine mr_bipush (pc := 41) (z := 31) dX2_leastBelow_41 (by decide) ?_
    refine mr_iload_n (pc := 43) (z := p3) dX2_leastBelow_43 rfl rfl ?_
    refine mr_isub (pc := 44) (x := 31) (y := p3) dX2_leastBelow_44 ?_
    refine mr_ishl (pc := 45) (x := 1) (y := (31 - p3)) dX2_leastBelow_45 ?_
    refine mr_gen (P := fun z => (-2147483648) ≤ z ∧ z ≤ 2147483647) (r32i _) fun z13 q14 h15 => ?_
    refine mr_ior (pc := 46) (x := p2) (y := z13) dX2_leastBelow_46 ?_
    refine mr_gen (P := fun z => (-2147483648) ≤ z ∧ z ≤ 2147483647) (r32i _) fun z16 q17 h18 => ?_
    refine mr_iload_n (pc := 47) (z := p3) dX2_leastBelow_47 rfl rfl ?_
    refine mr_iconst (pc := 48) (z := 1) dX2_leastBelow_48 ?_
    refine mr_iadd (pc := 49) (x := p3) (y := 1) dX2_leastBelow_49 ?_
    refine mr_cVI (pc := 50) (c_X2_leastBelow_28 hw T9 hp1 h18 (rAdd (e := 28) (f := 28) hp3 (rR (x := 1)) rfl) (vc_X9_end_1 hq0 hp1)) (gOk _ _ _ _ _) dX2_leastBelow_50 (tX2_leastBelow _ _ _ _ _) ⟨wV_X2_leastBelow, wL_X2_leastBelow⟩ wM_X2_101 (gCX2 _ _ _ _ _) rfl (A_87 hw) rfl ⟨le_t rfl, le_t rfl⟩ ⟨le_t rfl, le_t rfl⟩ rfl (le_t rfl) fun z23 μ19 T20 F21 h22 => ?_
    refine mr_istore (pc := 53) (lv' := [(5, iv z23), (4, iv z12), (0, .ref 87), (1, iv p1), (2, iv p2), (3, iv p3)]) dX2_leastBelow_53 (by decide) rfl ?_
    refine mr_iload (pc := 55) (z := z12) dX2_leastBelow_55 rfl ?_
    refine mr_iload (pc := 57) (z := z23) dX2_leastBelow_57 rfl ?_
    refine mr_iand (pc := 59) (x := z12) (y := z23) dX2_leastBelow_59 ?_
    refine mr_gen (P := fun z => (-2147483648) ≤ z ∧ z ≤ 2147483647) (r32i _) fun z24 q25 h26 => ?_
    refine mr_if_eq (pc := 60) (tgt := 69) dX2_leastBelow_60 (by decide) h26 (fun h27 => ?_) (fun h27 => ?_)
    · have h28 : 0 ≤ z24 ∧ z24 ≤ 0 := (vc_X12_mask_1 h27 h26)
      refine sv_aload_n (pc := 69) dX2_leastBelow_69 rfl rfl ?_
      refine sv_dup (pc := 70) dX2_leastBelow_70 rfl ?_
      refine gf_X2_7 (pc := 71) dX2_leastBelow_71 wF_X2_98 (A_87 hw) T20 fun z29 q30 h31 => ?_
      refine mr_iconst (pc := 74) (z := 1) dX2_leastBelow_74 ?_
      refine mr_iadd (pc := 75) (x := z29) (y := 1) dX2_leastBelow_75 ?_
      refine mr_wrap fun z32 h33 => ?_
      refine pf_X2_7 (pc := 76) dX2_leastBelow_76 wF_X2_98 (A_87 hw) T20 h33 fun μ34 u35 T36 => ?_
      refine mr_iload (pc := 79) (z := z12) dX2_leastBelow_79 rfl ?_
      refine mr_iload (pc := 81) (z := z23) dX2_leastBelow_81 rfl ?_
      refine mr_ior (pc := 83) (x := z12) (y := z23) dX2_leastBelow_83 ?_
      refine mr_gen (P := fun z => (-2147483648) ≤ z ∧ z ≤ 2147483647) (r32i _) fun z37 q38 h39 => ?_
      exact mr_iret dX2_leastBelow_84 rfl (le_t rfl) (le_t rfl) T36 (mF.up (mF.call (mF.call mF.refl F10 rfl) F21 rfl) (A_87 hw) u35 rfl) ⟨h39, trivial⟩
    refine mr_iload (pc := 63) (z := z12) dX2_leastBelow_63 rfl ?_
    refine mr_iload (pc := 65) (z := z23) dX2_leastBelow_65 rfl ?_
    refine mr_iand (pc := 67) (x := z12) (y := z23) dX2_leastBelow_67 ?_
    refine mr_gen (P := fun z => (-2147483648) ≤ z ∧ z ≤ 2147483647) (r32i _) fun z40 q41 h42 => ?_
    exact mr_iret dX2_leastBelow_68 rfl (le_t rfl) (le_t rfl) T20 (mF.call (mF.call mF.refl F10 rfl) F21 rfl) ⟨h42, trivial⟩
  have h43 : 0 ≤ z5 ∧ z5 ≤ 0 := (vc_X12_ring_22 h6 h4.1)
  refine sv_aload_n (pc := 16) dX2_leastBelow_16 rfl rfl ?_
  refine mr_iload_n (pc := 17) (z := p1) dX2_leastBelow_17 rfl rfl ?_
  refine mr_iload_n (pc := 18) (z := p2) dX2_leastBelow_18 rfl rfl ?_
  refine mr_cVP (pc := 19) (c_X2_tieFor hw hT hp1 hp2 (vc_X9_end_1 hq0 hp1)) (gOk _ _ _ _ _) dX2_leastBelow_19 (tX2_tieFor _ _ _ _ _) ⟨wV_X2_tieFor, wL_X2_tieFor⟩ wM_X2_60 (gCX2 _ _ _ _ _) rfl (A_87 hw) rfl ⟨le_t rfl, le_t rfl⟩ ⟨le_t rfl, le_t rfl⟩ rfl (le_t rfl) fun z48 h47 => ?_
  refine mr_cSP (pc := 22) (c_X2_aimBit hw hT h47.1) (gOk _ _ _ _ _) dX2_leastBelow_22 (tX2_aimBit _ _ _ _ _) wS_X2_aimBit wM_X2_110 ⟨le_t rfl, le_t rfl⟩ ⟨le_t rfl, le_t rfl⟩ rfl (le_t rfl) fun z53 h52 => ?_
  exact mr_iret dX2_leastBelow_25 rfl (le_t rfl) (le_t rfl) hT mF.refl ⟨h52.1, trivial⟩
theorem vc_X2_leastBelow_26_1 {p3 : Int} (h0 : 32 ≤ p3) (h1 : 26 ≤ p3 ∧ p3 ≤ 26) : False := by omega
set_option maxRecDepth 4000 in
set_option maxHeartbeats 4000000 in
theorem c_X2_leastBelow_26 {l : Launch} {D : va_G} {c : Nat → ClassId} {H0 : Heap} {sa : Nat × Nat × (Nat → Int32)} {w : mW} {μ : mM} (hw : mWF w) (hT : mT w μ) {p1 : Int} (hp1 : 0 ≤ p1 ∧ p1 ≤ 9) {p2 : Int} (hp2 : (-2147483648) ≤ p2 ∧ p2 ≤ 2147483647) {p3 : Int} (hp3 : 26 ≤ p3 ∧ p3 ≤ 26) (hq0 : p1 < w.2.2.2 0) : sC (gG l D c H0 sa) mX2_leastBelow 9 0 0 [.ref 87, iv p1, iv p2, iv p3] (mk w μ) (qI w [87007] μ (fun z μ1 => ((-2147483648) ≤ z ∧ z ≤ 2147483647) ∧ True)) := by
  refine sC.of rfl (by decide) (le_t rfl) ?_
  refine mr_lvE (lv' := [(0, .ref 87), (1, iv p1), (2, iv p2), (3, iv p3)]) rfl ?_
  refine mr_iload_n (pc := 0) (z := p3) dX2_leastBelow_0 rfl rfl ?_
  refine mr_bipush (pc := 1) (z := 32) dX2_leastBelow_1 (by decide) ?_
  refine mr_icmp_ge (pc := 3) (tgt := 16) dX2_leastBelow_3 (by decide) (r32 hp3 rfl) (r32 (rR (x := 32)) rfl) (fun h => ((vc_X2_leastBelow_26_1 h hp3)).elim) (fun _ => ?_)
  refine sv_aload_n (pc := 6) dX2_leastBelow_6 rfl rfl ?_
  refine mr_iload_n (pc := 7) (z := p1) dX2_leastBelow_7 rfl rfl ?_
  refine mr_iload_n (pc := 8) (z := p2) dX2_leastBelow_8 rfl rfl ?_
  refine mr_iload_n (pc := 9) (z := p3) dX2_leastBelow_9 rfl rfl ?_
  refine mr_cVP (pc := 10) (c_X2_isSplit hw hT hp1 hp2 (rW (c := (-2147483648)) (d := 2147483647) hp3 rfl) (vc_X9_end_1 hq0 hp1)) (gOk _ _ _ _ _) dX2_leastBelow_10 (tX2_isSplit _ _ _ _ _) ⟨wV_X2_isSplit, wL_X2_isSplit⟩ wM_X2_106 (gCX2 _ _ _ _ _) rfl (A_87 hw) rfl ⟨le_t rfl, le_t rfl⟩ ⟨le_t rfl, le_t rfl⟩ rfl (le_t rfl) fun z5 h4 => ?_
  refine mr_if_ne (pc := 13) (tgt := 26) dX2_leastBelow_13 (by decide) (r32 h4.1 rfl) (fun h6 => ?_) (fun h6 => ?_)
  · have h7 : 1 ≤ z5 ∧ z5 ≤ 1 := (vc_X12_ring_24 h6 h4.1)
    refine sv_aload_n (pc := 26) dX2_leastBelow_26 rfl rfl ?_
    refine mr_iload_n (pc := 27) (z := p1) dX2_leastBelow_27 rfl rfl ?_
    refine mr_iload_n (pc := 28) (z := p2) dX2_leastBelow_28 rfl rfl ?_
    refine mr_iload_n (pc := 29) (z := p3) dX2_leastBelow_29 rfl rfl ?_
    refine mr_iconst (pc := 30) (z := 1) dX2_leastBelow_30 ?_
    refine mr_iadd (pc := 31) (x := p3) (y := 1) dX2_leastBelow_31 ?_
    refine mr_cVI (pc := 32) (c_X2_leastBelow_27 hw hT hp1 hp2 (rAdd (e := 27) (f := 27) hp3 (rR (x := 1)) rfl) (vc_X9_end_1 hq0 hp1)) (gOk _ _ _ _ _) dX2_leastBelow_32 (tX2_leastBelow _ _ _ _ _) ⟨wV_X2_leastBelow, wL_X2_leastBelow⟩ wM_X2_101 (gCX2 _ _ _ _ _) rfl (A_87 hw) rfl ⟨le_t rfl, le_t rfl⟩ ⟨le_t rfl, le_t rfl⟩ rfl (le_t rfl) fun z12 μ8 T9 F10 h11 => ?_
    refine mr_istore (pc := 35) (lv' := [(4, iv z12), (0, .ref 87), (1, iv p1), (2, iv p2), (3, iv p3)]) dX2_leastBelow_35 (by decide) rfl ?_
    refine sv_aload_n (pc := 37) dX2_leastBelow_37 rfl rfl ?_
    refine mr_iload_n (pc := 38) (z := p1) dX2_leastBelow_38 rfl rfl ?_
    refine mr_iload_n (pc := 39) (z := p2) dX2_leastBelow_39 rfl rfl ?_
    refine mr_iconst (pc := 40) (z := 1) dX2_leastBelow_40 ?_
    refine mr_bipush (pc := 41) (z := 31) dX2_leastBelow_41 (by decide) ?_
    refine mr_iload_n (pc := 43) (z := p3) dX2_leastBelow_43 rfl rfl ?_
    refine mr_isub (pc := 44) (x := 31) (y := p3) dX2_leastBelow_44 ?_
    refine mr_ishl (pc := 45) (x := 1) (y := (31 - p3)) dX2_leastBelow_45 ?_
    refine mr_gen (P := fun z => (-2147483648) ≤ z ∧ z ≤ 2147483647) (r32i _) fun z13 q14 h15 => ?_
    refine mr_ior (pc := 46) (x := p2) (y := z13) dX2_leastBelow_46 ?_
    refine mr_gen (P := fun z => (-2147483648) ≤ z ∧ z ≤ 2147483647) (r32i _) fun z16 q17 h18 => ?_
    refine mr_iload_n (pc := 47) (z := p3) dX2_leastBelow_47 rfl rfl ?_
    refine mr_iconst (pc := 48) (z := 1) dX2_leastBelow_48 ?_
    refine mr_iadd (pc := 49) (x := p3) (y := 1) dX2_leastBelow_49 ?_
    refine mr_cVI (pc := 50) (c_X2_leastBelow_27 hw T9 hp1 h18 (rAdd (e := 27) (f := 27) hp3 (rR (x := 1)) rfl) (vc_X9_end_1 hq0 hp1)) (gOk _ _ _ _ _) dX2_leastBelow_50 (tX2_leastBelow _ _ _ _ _) ⟨wV_X2_leastBelow, wL_X2_leastBelow⟩ wM_X2_101 (gCX2 _ _ _ _ _) rfl (A_87 hw) rfl ⟨le_t rfl, le_t rfl⟩ ⟨le_t rfl, le_t rfl⟩ rfl (le_t rfl) fun z23 μ19 T20 F21 h22 => ?_
    refine mr_istore (pc := 53) (lv' := [(5, iv z23), (4, iv z12), (0, .ref 87), (1, iv p1), (2, iv p2), (3, iv p3)]) dX2_leastBelow_53 (by decide) rfl ?_
    refine mr_iload (pc := 55) (z := z12) dX2_leastBelow_55 rfl ?_
    refine mr_iload (pc := 57) (z := z23) dX2_leastBelow_57 rfl ?_
    refine mr_iand (pc := 59) (x := z12) (y := z23) dX2_leastBelow_59 ?_
    refine mr_gen (P := fun z => (-2147483648) ≤ z ∧ z ≤ 2147483647) (r32i _) fun z24 q25 h26 => ?_
    refine mr_if_eq (pc := 60) (tgt := 69) dX2_leastBelow_60 (by decide) h26 (fun h27 => ?_) (fun h27 => ?_)
    · have h28 : 0 ≤ z24 ∧ z24 ≤ 0 := (vc_X12_mask_1 h27 h26)
      refine sv_aload_n (pc := 69) dX2_leastBelow_69 rfl rfl ?_
      refine sv_dup (pc := 70) dX2_leastBelow_70 rfl ?_
      refine gf_X2_7 (pc := 71) dX2_leastBelow_71 wF_X2_98 (A_87 hw) T20 fun z29 q30 h31 => ?_
      refine mr_iconst (pc := 74) (z := 1) dX2_leastBelow_74 ?_
      refine mr_iadd (pc := 75) (x := z29) (y := 1) dX2_leastBelow_75 ?_
      refine mr_wrap fun z32 h33 => ?_
      refine pf_X2_7 (pc := 76) dX2_leastBelow_76 wF_X2_98 (A_87 hw) T20 h33 fun μ34 u35 T36 => ?_
      refine mr_iload (pc := 79) (z := z12) dX2_leastBelow_79 rfl ?_
      refine mr_iload (pc := 81) (z := z23) dX2_leastBelow_81 rfl ?_
      refine mr_ior (pc := 83) (x := z12) (y := z23) dX2_leastBelow_83 ?_
      refine mr_gen (P := fun z => (-2147483648) ≤ z ∧ z ≤ 2147483647) (r32i _) fun z37 q38 h39 => ?_
      exact mr_iret dX2_leastBelow_84 rfl (le_t rfl) (le_t rfl) T36 (mF.up (mF.call (mF.call mF.refl F10 rfl) F21 rfl) (A_87 hw) u35 rfl) ⟨h39, trivial⟩
    refine mr_iload (pc := 63) (z := z12) dX2_leastBelow_63 rfl ?_
    refine mr_iload (pc := 65) (z := z23) dX2_leastBelow_65 rfl ?_
    refine mr_iand (pc := 67) (x := z12) (y := z23) dX2_leastBelow_67 ?_
    refine mr_gen (P := fun z => (-2147483648) ≤ z ∧ z ≤ 2147483647) (r32i _) fun z40 q41 h42 => ?_
    exact mr_iret dX2_leastBelow_68 rfl (le_t rfl) (le_t rfl) T20 (mF.call (mF.call mF.refl F10 rfl) F21 rfl) ⟨h42, trivial⟩
  have h43 : 0 ≤ z5 ∧ z5 ≤ 0 := (vc_X12_ring_22 h6 h4.1)
  refine sv_aload_n (pc := 16) dX2_leastBelow_16 rfl rfl ?_
  refine mr_iload_n (pc := 17) (z := p1) dX2_leastBelow_17 rfl rfl ?_
  refine mr_iload_n (pc := 18) (z := p2) dX2_leastBelow_18 rfl rfl ?_
  refine mr_cVP (pc := 19) (c_X2_tieFor hw hT hp1 hp2 (vc_X9_end_1 hq0 hp1)) (gOk _ _ _ _ _) dX2_leastBelow_19 (tX2_tieFor _ _ _ _ _) ⟨wV_X2_tieFor, wL_X2_tieFor⟩ wM_X2_60 (gCX2 _ _ _ _ _) rfl (A_87 hw) rfl ⟨le_t rfl, le_t rfl⟩ ⟨le_t rfl, le_t rfl⟩ rfl (le_t rfl) fun z48 h47 => ?_
  refine mr_cSP (pc := 22) (c_X2_aimBit hw hT h47.1) (gOk _ _ _ _ _) dX2_leastBelow_22 (tX2_aimBit _ _ _ _ _) wS_X2_aimBit wM_X2_110 ⟨le_t rfl, le_t rfl⟩ ⟨le_t rfl, le_t rfl⟩ rfl (le_t rfl) fun z53 h52 => ?_
  exact mr_iret dX2_leastBelow_25 rfl (le_t rfl) (le_t rfl) hT mF.refl ⟨h52.1, trivial⟩
end
section
theorem vc_X2_leastBelow_25_1 {p3 : Int} (h0 : 32 ≤ p3) (h1 : 25 ≤ p3 ∧ p3 ≤ 25) : False := by omega
set_option maxRecDepth 4000 in
set_option maxHeartbeats 4000000 in
theorem c_X2_leastBelow_25 {l : Launch} {D : va_G} {c : Nat → ClassId} {H0 : Heap} {sa : Nat × Nat × (Nat → Int32)} {w : mW} {μ : mM} (hw : mWF w) (hT : mT w μ) {p1 : Int} (hp1 : 0 ≤ p1 ∧ p1 ≤ 9) {p2 : Int} (hp2 : (-2147483648) ≤ p2 ∧ p2 ≤ 2147483647) {p3 : Int} (hp3 : 25 ≤ p3 ∧ p3 ≤ 25) (hq0 : p1 < w.2.2.2 0) : sC (gG l D c H0 sa) mX2_leastBelow 10 0 0 [.ref 87, iv p1, iv p2, iv p3] (mk w μ) (qI w [87007] μ (fun z μ1 => ((-2147483648) ≤ z ∧ z ≤ 2147483647) ∧ True)) := by
  refine sC.of rfl (by decide) (le_t rfl) ?_
  refine mr_lvE (lv' := [(0, .ref 87), (1, iv p1), (2, iv p2), (3, iv p3)]) rfl ?_
  refine mr_iload_n (pc := 0) (z := p3) dX2_leastBelow_0 rfl rfl ?_
  refine mr_bipush (pc := 1) (z := 32) dX2_leastBelow_1 (by decide) ?_
  refine mr_icmp_ge (pc := 3) (tgt := 16) dX2_leastBelow_3 (by decide) (r32 hp3 rfl) (r32 (rR (x := 32)) rfl) (fun h => ((vc_X2_leastBelow_25_1 h hp3)).elim) (fun _ => ?_)
  refine sv_aload_n (pc := 6) dX2_leastBelow_6 rfl rfl ?_
  refine mr_iload_n (pc := 7) (z := p1) dX2_leastBelow_7 rfl rfl ?_
  refine mr_iload_n (pc := 8) (z := p2) dX2_leastBelow_8 rfl rfl ?_
  refine mr_iload_n (pc := 9) (z := p3) dX2_leastBelow_9 rfl rfl ?_
  refine mr_cVP (pc := 10) (c_X2_isSplit hw hT hp1 hp2 (rW (c := (-2147483648)) (d := 2147483647) hp3 rfl) (vc_X9_end_1 hq0 hp1)) (gOk _ _ _ _ _) dX2_leastBelow_10 (tX2_isSplit _ _ _ _ _) ⟨wV_X2_isSplit, wL_X2_isSplit⟩ wM_X2_106 (gCX2 _ _ _ _ _) rfl (A_87 hw) rfl ⟨le_t rfl, le_t rfl⟩ ⟨le_t rfl, le_t rfl⟩ rfl (le_t rfl) fun z5 h4 => ?_
  refine mr_if_ne (pc := 13) (tgt := 26) dX2_leastBelow_13 (by decide) (r32 h4.1 rfl) (fun h6 => ?_) (fun h6 => ?_)
  · have h7 : 1 ≤ z5 ∧ z5 ≤ 1 := (vc_X12_ring_24 h6 h4.1)
    refine sv_aload_n (pc := 26) dX2_leastBelow_26 rfl rfl ?_
    refine mr_iload_n (pc := 27) (z := p1) dX2_leastBelow_27 rfl rfl ?_
    refine mr_iload_n (pc := 28) (z := p2) dX2_leastBelow_28 rfl rfl ?_
    refine mr_iload_n (pc := 29) (z := p3) dX2_leastBelow_29 rfl rfl ?_
    refine mr_iconst (pc := 30) (z := 1) dX2_leastBelow_30 ?_
    refine mr_iadd (pc := 31) (x := p3) (y := 1) dX2_leastBelow_31 ?_
    refine mr_cVI (pc := 32) (c_X2_leastBelow_26 hw hT hp1 hp2 (rAdd (e := 26) (f := 26) hp3 (rR (x := 1)) rfl) (vc_X9_end_1 hq0 hp1)) (gOk _ _ _ _ _) dX2_leastBelow_32 (tX2_leastBelow _ _ _ _ _) ⟨wV_X2_leastBelow, wL_X2_leastBelow⟩ wM_X2_101 (gCX2 _ _ _ _ _) rfl (A_87 hw) rfl ⟨le_t rfl, le_t rfl⟩ ⟨le_t rfl, le_t rfl⟩ rfl (le_t rfl) fun z12 μ8 T9 F10 h11 => ?_
    refine mr_istore (pc := 35) (lv' := [(4, iv z12), (0, .ref 87), (1, iv p1), (2, iv p2), (3, iv p3)]) dX2_leastBelow_35 (by decide) rfl ?_
    refine sv_aload_n (pc := 37) dX2_leastBelow_37 rfl rfl ?_
    refine mr_iload_n (pc := 38) (z := p1) dX2_leastBelow_38 rfl rfl ?_
    refine mr_iload_n (pc := 39) (z := p2) dX2_leastBelow_39 rfl rfl ?_
    refine mr_iconst (pc := 40) (z := 1) dX2_leastBelow_40 ?_
    refine mr_bipush (pc := 41) (z := 31) dX2_leastBelow_41 (by decide) ?_
    refine mr_iload_n (pc := 43) (z := p3) dX2_leastBelow_43 rfl rfl ?_
    refine mr_isub (pc := 44) (x := 31) (y := p3) dX2_leastBelow_44 ?_
    refine mr_ishl (pc := 45) (x := 1) (y := (31 - p3)) dX2_leastBelow_45 ?_
    refine mr_gen (P := fun z => (-2147483648) ≤ z ∧ z ≤ 2147483647) (r32i _) fun z13 q14 h15 => ?_
    refine mr_ior (pc := 46) (x := p2) (y := z13) dX2_leastBelow_46 ?_
    refine mr_gen (P := fun z => (-2147483648) ≤ z ∧ z ≤ 2147483647) (r32i _) fun z16 q17 h18 => ?_
    refine mr_iload_n (pc := 47) (z := p3) dX2_leastBelow_47 rfl rfl ?_
    refine mr_iconst (pc := 48) (z := 1) dX2_leastBelow_48 ?_
    refine mr_iadd (pc := 49) (x := p3) (y := 1) dX2_leastBelow_49 ?_
    refine mr_cVI (pc := 50) (c_X2_leastBelow_26 hw T9 hp1 h18 (rAdd (e := 26) (f := 26) hp3 (rR (x := 1)) rfl) (vc_X9_end_1 hq0 hp1)) (gOk _ _ _ _ _) dX2_leastBelow_50 (tX2_leastBelow _ _ _ _ _) ⟨wV_X2_leastBelow, wL_X2_leastBelow⟩ wM_X2_101 (gCX2 _ _ _ _ _) rfl (A_87 hw) rfl ⟨le_t rfl, le_t rfl⟩ ⟨le_t rfl, le_t rfl⟩ rfl (le_t rfl) fun z23 μ19 T20 F21 h22 => ?_
    refine mr_istore (pc := 53) (lv' := [(5, iv z23), (4, iv z12), (0, .ref 87), (1, iv p1), (2, iv p2), (3, iv p3)]) dX2_leastBelow_53 (by decide) rfl ?_
    refine mr_iload (pc := 55) (z := z12) dX2_leastBelow_55 rfl ?_
    refine mr_iload (pc := 57) (z := z23) dX2_leastBelow_57 rfl ?_
    refine mr_iand (pc := 59) (x := z12) (y := z23) dX2_leastBelow_59 ?_
    refine mr_gen (P := fun z => (-2147483648) ≤ z ∧ z ≤ 2147483647) (r32i _) fun z24 q25 h26 => ?_
    refine mr_if_eq (pc := 60) (tgt := 69) dX2_leastBelow_60 (by decide) h26 (fun h27 => ?_) (fun h27 => ?_)
    · have h28 : 0 ≤ z24 ∧ z24 ≤ 0 := (vc_X12_mask_1 h27 h26)
      refine sv_aload_n (pc := 69) dX2_leastBelow_69 rfl rfl ?_
      refine sv_dup (pc := 70) dX2_leastBelow_70 rfl ?_
      refine gf_X2_7 (pc := 71) dX2_leastBelow_71 wF_X2_98 (A_87 hw) T20 fun z29 q30 h31 => ?_
      refine mr_iconst (pc := 74) (z := 1) dX2_leastBelow_74 ?_
      refine mr_iadd (pc := 75) (x := z29) (y := 1) dX2_leastBelow_75 ?_
      refine mr_wrap fun z32 h33 => ?_
      refine pf_X2_7 (pc := 76) dX2_leastBelow_76 wF_X2_98 (A_87 hw) T20 h33 fun μ34 u35 T36 => ?_
      refine mr_iload (pc := 79) (z := z12) dX2_leastBelow_79 rfl ?_
      refine mr_iload (pc := 81) (z := z23) dX2_leastBelow_81 rfl ?_
      refine mr_ior (pc := 83) (x := z12) (y := z23) dX2_leastBelow_83 ?_
      refine mr_gen (P := fun z => (-2147483648) ≤ z ∧ z ≤ 2147483647) (r32i _) fun z37 q38 h39 => ?_
      exact mr_iret dX2_leastBelow_84 rfl (le_t rfl) (le_t rfl) T36 (mF.up (mF.call (mF.call mF.refl F10 rfl) F21 rfl) (A_87 hw) u35 rfl) ⟨h39, trivial⟩
    refine mr_iload (pc := 63) (z := z12) dX2_leastBelow_63 rfl ?_
    refine mr_iload (pc := 65) (z := z23) dX2_leastBelow_65 rfl ?_
    refine mr_iand (pc := 67) (x := z12) (y := z23) dX2_leastBelow_67 ?_
    refine mr_gen (P := fun z => (-2147483648) ≤ z ∧ z ≤ 2147483647) (r32i _) fun z40 q41 h42 => ?_
    exact mr_iret dX2_leastBelow_68 rfl (le_t rfl) (le_t rfl) T20 (mF.call (mF.call mF.refl F10 rfl) F21 rfl) ⟨h42, trivial⟩
  have h43 : 0 ≤ z5 ∧ z5 ≤ 0 := (vc_X12_ring_22 h6 h4.1)
  refine sv_aload_n (pc := 16) dX2_leastBelow_16 rfl rfl ?_
  refine mr_iload_n (pc := 17) (z := p1) dX2_leastBelow_17 rfl rfl ?_
  refine mr_iload_n (pc := 18) (z := p2) dX2_leastBelow_18 rfl rfl ?_
  refine mr_cVP (pc := 19) (c_X2_tieFor hw hT hp1 hp2 (vc_X9_end_1 hq0 hp1)) (gOk _ _ _ _ _) dX2_leastBelow_19 (tX2_tieFor _ _ _ _ _) ⟨wV_X2_tieFor, wL_X2_tieFor⟩ wM_X2_60 (gCX2 _ _ _ _ _) rfl (A_87 hw) rfl ⟨le_t rfl, le_t rfl⟩ ⟨le_t rfl, le_t rfl⟩ rfl (le_t rfl) fun z48 h47 => ?_
  refine mr_cSP (pc := 22) (c_X2_aimBit hw hT h47.1) (gOk _ _ _ _ _) dX2_leastBelow_22 (tX2_aimBit _ _ _ _ _) wS_X2_aimBit wM_X2_110 ⟨le_t rfl, le_t rfl⟩ ⟨le_t rfl, le_t rfl⟩ rfl (le_t rfl) fun z53 h52 => ?_
  exact mr_iret dX2_leastBelow_25 rfl (le_t rfl) (le_t rfl) hT mF.refl ⟨h52.1, trivial⟩
theorem vc_X2_leastBelow_24_1 {p3 : Int} (h0 : 32 ≤ p3) (h1 : 24 ≤ p3 ∧ p3 ≤ 24) : False := by omega
set_option maxRecDepth 4000 in
set_option maxHeartbeats 4000000 in
theorem c_X2_leastBelow_24 {l : Launch} {D : va_G} {c : Nat → ClassId} {H0 : Heap} {sa : Nat × Nat × (Nat → Int32)} {w : mW} {μ : mM} (hw : mWF w) (hT : mT w μ) {p1 : Int} (hp1 : 0 ≤ p1 ∧ p1 ≤ 9) {p2 : Int} (hp2 : (-2147483648) ≤ p2 ∧ p2 ≤ 2147483647) {p3 : Int} (hp3 : 24 ≤ p3 ∧ p3 ≤ 24) (hq0 : p1 < w.2.2.2 0) : sC (gG l D c H0 sa) mX2_leastBelow 11 0 0 [.ref 87, iv p1, iv p2, iv p3] (mk w μ) (qI w [87007] μ (fun z μ1 => ((-2147483648) ≤ z ∧ z ≤ 2147483647) ∧ True)) := by
  refine sC.of rfl (by decide) (le_t rfl) ?_
  refine mr_lvE (lv' := [(0, .ref 87), (1, iv p1), (2, iv p2), (3, iv p3)]) rfl ?_
  refine mr_iload_n (pc := 0) (z := p3) dX2_leastBelow_0 rfl rfl ?_
  refine mr_bipush (pc := 1) (z := 32) dX2_leastBelow_1 (by decide) ?_
  refine mr_icmp_ge (pc := 3) (tgt := 16) dX2_leastBelow_3 (by decide) (r32 hp3 rfl) (r32 (rR (x := 32)) rfl) (fun h => ((vc_X2_leastBelow_24_1 h hp3)).elim) (fun _ => ?_)
  refine sv_aload_n (pc := 6) dX2_leastBelow_6 rfl rfl ?_
  refine mr_iload_n (pc := 7) (z := p1) dX2_leastBelow_7 rfl rfl ?_
  refine mr_iload_n (pc := 8) (z := p2) dX2_leastBelow_8 rfl rfl ?_
  refine mr_iload_n (pc := 9) (z := p3) dX2_leastBelow_9 rfl rfl ?_
  refine mr_cVP (pc := 10) (c_X2_isSplit hw hT hp1 hp2 (rW (c := (-2147483648)) (d := 2147483647) hp3 rfl) (vc_X9_end_1 hq0 hp1)) (gOk _ _ _ _ _) dX2_leastBelow_10 (tX2_isSplit _ _ _ _ _) ⟨wV_X2_isSplit, wL_X2_isSplit⟩ wM_X2_106 (gCX2 _ _ _ _ _) rfl (A_87 hw) rfl ⟨le_t rfl, le_t rfl⟩ ⟨le_t rfl, le_t rfl⟩ rfl (le_t rfl) fun z5 h4 => ?_
  refine mr_if_ne (pc := 13) (tgt := 26) dX2_leastBelow_13 (by decide) (r32 h4.1 rfl) (fun h6 => ?_) (fun h6 => ?_)
  · have h7 : 1 ≤ z5 ∧ z5 ≤ 1 := (vc_X12_ring_24 h6 h4.1)
    refine sv_aload_n (pc := 26) dX2_leastBelow_26 rfl rfl ?_
    refine mr_iload_n (pc := 27) (z := p1) dX2_leastBelow_27 rfl rfl ?_
    refine mr_iload_n (pc := 28) (z := p2) dX2_leastBelow_28 rfl rfl ?_
    refine mr_iload_n (pc := 29) (z := p3) dX2_leastBelow_29 rfl rfl ?_
    refine mr_iconst (pc := 30) (z := 1) dX2_leastBelow_30 ?_
    refine mr_iadd (pc := 31) (x := p3) (y := 1) dX2_leastBelow_31 ?_
    refine mr_cVI (pc := 32) (c_X2_leastBelow_25 hw hT hp1 hp2 (rAdd (e := 25) (f := 25) hp3 (rR (x := 1)) rfl) (vc_X9_end_1 hq0 hp1)) (gOk _ _ _ _ _) dX2_leastBelow_32 (tX2_leastBelow _ _ _ _ _) ⟨wV_X2_leastBelow, wL_X2_leastBelow⟩ wM_X2_101 (gCX2 _ _ _ _ _) rfl (A_87 hw) rfl ⟨le_t rfl, le_t rfl⟩ ⟨le_t rfl, le_t rfl⟩ rfl (le_t rfl) fun z12 μ8 T9 F10 h11 => ?_
    refine mr_istore (pc := 35) (lv' := [(4, iv z12), (0, .ref 87), (1, iv p1), (2, iv p2), (3, iv p3)]) dX2_leastBelow_35 (by decide) rfl ?_
    refine sv_aload_n (pc := 37) dX2_leastBelow_37 rfl rfl ?_
    refine mr_iload_n (pc := 38) (z := p1) dX2_leastBelow_38 rfl rfl ?_
    refine mr_iload_n (pc := 39) (z := p2) dX2_leastBelow_39 rfl rfl ?_
    refine mr_iconst (pc := 40) (z := 1) dX2_leastBelow_40 ?_
    refine mr_bipush (pc := 41) (z := 31) dX2_leastBelow_41 (by decide) ?_
    refine mr_iload_n (pc := 43) (z := p3) dX2_leastBelow_43 rfl rfl ?_
    refine mr_isub (pc := 44) (x := 31) (y := p3) dX2_leastBelow_44 ?_
    refine mr_ishl (pc := 45) (x := 1) (y := (31 - p3)) dX2_leastBelow_45 ?_
    refine mr_gen (P := fun z => (-2147483648) ≤ z ∧ z ≤ 2147483647) (r32i _) fun z13 q14 h15 => ?_
    refine mr_ior (pc := 46) (x := p2) (y := z13) dX2_leastBelow_46 ?_
    refine mr_gen (P := fun z => (-2147483648) ≤ z ∧ z ≤ 2147483647) (r32i _) fun z16 q17 h18 => ?_
    refine mr_iload_n (pc := 47) (z := p3) dX2_leastBelow_47 rfl rfl ?_
    refine mr_iconst (pc := 48) (z := 1) dX2_leastBelow_48 ?_
    refine mr_iadd (pc := 49) (x := p3) (y := 1) dX2_leastBelow_49 ?_
    refine mr_cVI (pc := 50) (c_X2_leastBelow_25 hw T9 hp1 h18 (rAdd (e := 25) (f := 25) hp3 (rR (x := 1)) rfl) (vc_X9_end_1 hq0 hp1)) (gOk _ _ _ _ _) dX2_leastBelow_50 (tX2_leastBelow _ _ _ _ _) ⟨wV_X2_leastBelow, wL_X2_leastBelow⟩ wM_X2_101 (gCX2 _ _ _ _ _) rfl (A_87 hw) rfl ⟨le_t rfl, le_t rfl⟩ ⟨le_t rfl, le_t rfl⟩ rfl (le_t rfl) fun z23 μ19 T20 F21 h22 => ?_
    refine mr_istore (pc := 53) (lv' := [(5, iv z23), (4, iv z12), (0, .ref 87), (1, iv p1), (2, iv p2), (3, iv p3)]) dX2_leastBelow_53 (by decide) rfl ?_
    refine mr_iload (pc := 55) (z := z12) dX2_leastBelow_55 rfl ?_
    refine mr_iload (pc := 57) (z := z23) dX2_leastBelow_57 rfl ?_
    refine mr_iand (pc := 59) (x := z12) (y := z23) dX2_leastBelow_59 ?_
    refine mr_gen (P := fun z => (-2147483648) ≤ z ∧ z ≤ 2147483647) (r32i _) fun z24 q25 h26 => ?_
    refine mr_if_eq (pc := 60) (tgt := 69) dX2_leastBelow_60 (by decide) h26 (fun h27 => ?_) (fun h27 => ?_)
    · have h28 : 0 ≤ z24 ∧ z24 ≤ 0 := (vc_X12_mask_1 h27 h26)
      refine sv_aload_n (pc := 69) dX2_leastBelow_69 rfl rfl ?_
      refine sv_dup (pc := 70) dX2_leastBelow_70 rfl ?_
      refine gf_X2_7 (pc := 71) dX2_leastBelow_71 wF_X2_98 (A_87 hw) T20 fun z29 q30 h31 => ?_
      refine mr_iconst (pc := 74) (z := 1) dX2_leastBelow_74 ?_
      refine mr_iadd (pc := 75) (x := z29) (y := 1) dX2_leastBelow_75 ?_
      refine mr_wrap fun z32 h33 => ?_
      refine pf_X2_7 (pc := 76) dX2_leastBelow_76 wF_X2_98 (A_87 hw) T20 h33 fun μ34 u35 T36 => ?_
      refine mr_iload (pc := 79) (z := z12) dX2_leastBelow_79 rfl ?_
      refine mr_iload (pc := 81) (z := z23) dX2_leastBelow_81 rfl ?_
      refine mr_ior (pc := 83) (x := z12) (y := z23) dX2_leastBelow_83 ?_
      refine mr_gen (P := fun z => (-2147483648) ≤ z ∧ z ≤ 2147483647) (r32i _) fun z37 q38 h39 => ?_
      exact mr_iret dX2_leastBelow_84 rfl (le_t rfl) (le_t rfl) T36 (mF.up (mF.call (mF.call mF.refl F10 rfl) F21 rfl) (A_87 hw) u35 rfl) ⟨h39, trivial⟩
    refine mr_iload (pc := 63) (z := z12) dX2_leastBelow_63 rfl ?_
    refine mr_iload (pc := 65) (z := z23) dX2_leastBelow_65 rfl ?_
    refine mr_iand (pc := 67) (x := z12) (y := z23) dX2_leastBelow_67 ?_
    refine mr_gen (P := fun z => (-2147483648) ≤ z ∧ z ≤ 2147483647) (r32i _) fun z40 q41 h42 => ?_
    exact mr_iret dX2_leastBelow_68 rfl (le_t rfl) (le_t rfl) T20 (mF.call (mF.call mF.refl F10 rfl) F21 rfl) ⟨h42, trivial⟩
  have h43 : 0 ≤ z5 ∧ z5 ≤ 0 := (vc_X12_ring_22 h6 h4.1)
  refine sv_aload_n (pc := 16) dX2_leastBelow_16 rfl rfl ?_
  refine mr_iload_n (pc := 17) (z := p1) dX2_leastBelow_17 rfl rfl ?_
  refine mr_iload_n (pc := 18) (z := p2) dX2_leastBelow_18 rfl rfl ?_
  refine mr_cVP (pc := 19) (c_X2_tieFor hw hT hp1 hp2 (vc_X9_end_1 hq0 hp1)) (gOk _ _ _ _ _) dX2_leastBelow_19 (tX2_tieFor _ _ _ _ _) ⟨wV_X2_tieFor, wL_X2_tieFor⟩ wM_X2_60 (gCX2 _ _ _ _ _) rfl (A_87 hw) rfl ⟨le_t rfl, le_t rfl⟩ ⟨le_t rfl, le_t rfl⟩ rfl (le_t rfl) fun z48 h47 => ?_
  refine mr_cSP (pc := 22) (c_X2_aimBit hw hT h47.1) (gOk _ _ _ _ _) dX2_leastBelow_22 (tX2_aimBit _ _ _ _ _) wS_X2_aimBit wM_X2_110 ⟨le_t rfl, le_t rfl⟩ ⟨le_t rfl, le_t rfl⟩ rfl (le_t rfl) fun z53 h52 => ?_
  exact mr_iret dX2_leastBelow_25 rfl (le_t rfl) (le_t rfl) hT mF.refl ⟨h52.1, trivial⟩
theorem vc_X2_leastBelow_23_1 {p3 : Int} (h0 : 32 ≤ p3) (h1 : 23 ≤ p3 ∧ p3 ≤ 23) : False := by omega
set_option maxRecDepth 4000 in
set_option maxHeartbeats 4000000 in
theorem c_X2_leastBelow_23 {l : Launch} {D : va_G} {c : Nat → ClassId} {H0 : Heap} {sa : Nat × Nat × (Nat → Int32)} {w : mW} {μ : mM} (hw : mWF w) (hT : mT w μ) {p1 : Int} (hp1 : 0 ≤ p1 ∧ p1 ≤ 9) {p2 : Int} (hp2 : (-2147483648) ≤ p2 ∧ p2 ≤ 2147483647) {p3 : Int} (hp3 : 23 ≤ p3 ∧ p3 ≤ 23) (hq0 : p1 < w.2.2.2 0) : sC (gG l D c H0 sa) mX2_leastBelow 12 0 0 [.ref 87, iv p1, iv p2, iv p3] (mk w μ) (qI w [87007] μ (fun z μ1 => ((-2147483648) ≤ z ∧ z ≤ 2147483647) ∧ True)) := by
  refine sC.of rfl (by decide) (le_t rfl) ?_
  refine mr_lvE (lv' := [(0, .ref 87), (1, iv p1), (2, iv p2), (3, iv p3)]) rfl ?_
  refine mr_iload_n (pc := 0) (z := p3) dX2_leastBelow_0 rfl rfl ?_
  refine mr_bipush (pc := 1) (z := 32) dX2_leastBelow_1 (by decide) ?_
  refine mr_icmp_ge (pc := 3) (tgt := 16) dX2_leastBelow_3 (by decide) (r32 hp3 rfl) (r32 (rR (x := 32)) rfl) (fun h => ((vc_X2_leastBelow_23_1 h hp3)).elim) (fun _ => ?_)
  refine sv_aload_n (pc := 6) dX2_leastBelow_6 rfl rfl ?_
  refine mr_iload_n (pc := 7) (z := p1) dX2_leastBelow_7 rfl rfl ?_
  refine mr_iload_n (pc := 8) (z := p2) dX2_leastBelow_8 rfl rfl ?_
  refine mr_iload_n (pc := 9) (z := p3) dX2_leastBelow_9 rfl rfl ?_
  refine mr_cVP (pc := 10) (c_X2_isSplit hw hT hp1 hp2 (rW (c := (-2147483648)) (d := 2147483647) hp3 rfl) (vc_X9_end_1 hq0 hp1)) (gOk _ _ _ _ _) dX2_leastBelow_10 (tX2_isSplit _ _ _ _ _) ⟨wV_X2_isSplit, wL_X2_isSplit⟩ wM_X2_106 (gCX2 _ _ _ _ _) rfl (A_87 hw) rfl ⟨le_t rfl, le_t rfl⟩ ⟨le_t rfl, le_t rfl⟩ rfl (le_t rfl) fun z5 h4 => ?_
  refine mr_if_ne (pc := 13) (tgt := 26) dX2_leastBelow_13 (by decide) (r32 h4.1 rfl) (fun h6 => ?_) (fun h6 => ?_)
  · have h7 : 1 ≤ z5 ∧ z5 ≤ 1 := (vc_X12_ring_24 h6 h4.1)
    refine sv_aload_n (pc := 26) dX2_leastBelow_26 rfl rfl ?_
    refine mr_iload_n (pc := 27) (z := p1) dX2_leastBelow_27 rfl rfl ?_
    refine mr_iload_n (pc := 28) (z := p2) dX2_leastBelow_28 rfl rfl ?_
    refine mr_iload_n (pc := 29) (z := p3) dX2_leastBelow_29 rfl rfl ?_
    refine mr_iconst (pc := 30) (z := 1) dX2_leastBelow_30 ?_
    refine mr_iadd (pc := 31) (x := p3) (y := 1) dX2_leastBelow_31 ?_
    refine mr_cVI (pc := 32) (c_X2_leastBelow_24 hw hT hp1 hp2 (rAdd (e := 24) (f := 24) hp3 (rR (x := 1)) rfl) (vc_X9_end_1 hq0 hp1)) (gOk _ _ _ _ _) dX2_leastBelow_32 (tX2_leastBelow _ _ _ _ _) ⟨wV_X2_leastBelow, wL_X2_leastBelow⟩ wM_X2_101 (gCX2 _ _ _ _ _) rfl (A_87 hw) rfl ⟨le_t rfl, le_t rfl⟩ ⟨le_t rfl, le_t rfl⟩ rfl (le_t rfl) fun z12 μ8 T9 F10 h11 => ?_
    refine mr_istore (pc := 35) (lv' := [(4, iv z12), (0, .ref 87), (1, iv p1), (2, iv p2), (3, iv p3)]) dX2_leastBelow_35 (by decide) rfl ?_
    refine sv_aload_n (pc := 37) dX2_leastBelow_37 rfl rfl ?_
    refine mr_iload_n (pc := 38) (z := p1) dX2_leastBelow_38 rfl rfl ?_
    refine mr_iload_n (pc := 39) (z := p2) dX2_leastBelow_39 rfl rfl ?_
    refine mr_iconst (pc := 40) (z := 1) dX2_leastBelow_40 ?_
    refine mr_bipush (pc := 41) (z := 31) dX2_leastBelow_41 (by decide) ?_
    refine mr_iload_n (pc := 43) (z := p3) dX2_leastBelow_43 rfl rfl ?_
    refine mr_isub (pc := 44) (x := 31) (y := p3) dX2_leastBelow_44 ?_
    refine mr_ishl (pc := 45) (x := 1) (y := (31 - p3)) dX2_leastBelow_45 ?_
    refine mr_gen (P := fun z => (-2147483648) ≤ z ∧ z ≤ 2147483647) (r32i _) fun z13 q14 h15 => ?_
    refine mr_ior (pc := 46) (x := p2) (y := z13) dX2_leastBelow_46 ?_
    refine mr_gen (P := fun z => (-2147483648) ≤ z ∧ z ≤ 2147483647) (r32i _) fun z16 q17 h18 => ?_
    refine mr_iload_n (pc := 47) (z := p3) dX2_leastBelow_47 rfl rfl ?_
    refine mr_iconst (pc := 48) (z := 1) dX2_leastBelow_48 ?_
    refine mr_iadd (pc := 49) (x := p3) (y := 1) dX2_leastBelow_49 ?_
    refine mr_cVI (pc := 50) (c_X2_leastBelow_24 hw T9 hp1 h18 (rAdd (e := 24) (f := 24) hp3 (rR (x := 1)) rfl) (vc_X9_end_1 hq0 hp1)) (gOk _ _ _ _ _) dX2_leastBelow_50 (tX2_leastBelow _ _ _ _ _) ⟨wV_X2_leastBelow, wL_X2_leastBelow⟩ wM_X2_101 (gCX2 _ _ _ _ _) rfl (A_87 hw) rfl ⟨le_t rfl, le_t rfl⟩ ⟨le_t rfl, le_t rfl⟩ rfl (le_t rfl) fun z23 μ19 T20 F21 h22 => ?_
    refine mr_istore (pc := 53) (lv' := [(5, iv z23), (4, iv z12), (0, .ref 87), (1, iv p1), (2, iv p2), (3, iv p3)]) dX2_leastBelow_53 (by decide) rfl ?_
    refine mr_iload (pc := 55) (z := z12) dX2_leastBelow_55 rfl ?_
    refine mr_iload (pc := 57) (z := z23) dX2_leastBelow_57 rfl ?_
    refine mr_iand (pc := 59) (x := z12) (y := z23) dX2_leastBelow_59 ?_
    refine mr_gen (P := fun z => (-2147483648) ≤ z ∧ z ≤ 2147483647) (r32i _) fun z24 q25 h26 => ?_
    refine mr_if_eq (pc := 60) (tgt := 69) dX2_leastBelow_60 (by decide) h26 (fun h27 => ?_) (fun h27 => ?_)
    · have h28 : 0 ≤ z24 ∧ z24 ≤ 0 := (vc_X12_mask_1 h27 h26)
      refine sv_aload_n (pc := 69) dX2_leastBelow_69 rfl rfl ?_
      refine sv_dup (pc := 70) dX2_leastBelow_70 rfl ?_
      refine gf_X2_7 (pc := 71) dX2_leastBelow_71 wF_X2_98 (A_87 hw) T20 fun z29 q30 h31 => ?_
      refine mr_iconst (pc := 74) (z := 1) dX2_leastBelow_74 ?_
      refine mr_iadd (pc := 75) (x := z29) (y := 1) dX2_leastBelow_75 ?_
      refine mr_wrap fun z32 h33 => ?_
      refine pf_X2_7 (pc := 76) dX2_leastBelow_76 wF_X2_98 (A_87 hw) T20 h33 fun μ34 u35 T36 => ?_
      refine mr_iload (pc := 79) (z := z12) dX2_leastBelow_79 rfl ?_
      refine mr_iload (pc := 81) (z := z23) dX2_leastBelow_81 rfl ?_
      refine mr_ior (pc := 83) (x := z12) (y := z23) dX2_leastBelow_83 ?_
      refine mr_gen (P := fun z => (-2147483648) ≤ z ∧ z ≤ 2147483647) (r32i _) fun z37 q38 h39 => ?_
      exact mr_iret dX2_leastBelow_84 rfl (le_t rfl) (le_t rfl) T36 (mF.up (mF.call (mF.call mF.refl F10 rfl) F21 rfl) (A_87 hw) u35 rfl) ⟨h39, trivial⟩
    refine mr_iload (pc := 63) (z := z12) dX2_leastBelow_63 rfl ?_
    refine mr_iload (pc := 65) (z := z23) dX2_leastBelow_65 rfl ?_
    refine mr_iand (pc := 67) (x := z12) (y := z23) dX2_leastBelow_67 ?_
    refine mr_gen (P := fun z => (-2147483648) ≤ z ∧ z ≤ 2147483647) (r32i _) fun z40 q41 h42 => ?_
    exact mr_iret dX2_leastBelow_68 rfl (le_t rfl) (le_t rfl) T20 (mF.call (mF.call mF.refl F10 rfl) F21 rfl) ⟨h42, trivial⟩
  have h43 : 0 ≤ z5 ∧ z5 ≤ 0 := (vc_X12_ring_22 h6 h4.1)
  refine sv_aload_n (pc := 16) dX2_leastBelow_16 rfl rfl ?_
  refine mr_iload_n (pc := 17) (z := p1) dX2_leastBelow_17 rfl rfl ?_
  refine mr_iload_n (pc := 18) (z := p2) dX2_leastBelow_18 rfl rfl ?_
  refine mr_cVP (pc := 19) (c_X2_tieFor hw hT hp1 hp2 (vc_X9_end_1 hq0 hp1)) (gOk _ _ _ _ _) dX2_leastBelow_19 (tX2_tieFor _ _ _ _ _) ⟨wV_X2_tieFor, wL_X2_tieFor⟩ wM_X2_60 (gCX2 _ _ _ _ _) rfl (A_87 hw) rfl ⟨le_t rfl, le_t rfl⟩ ⟨le_t rfl, le_t rfl⟩ rfl (le_t rfl) fun z48 h47 => ?_
  refine mr_cSP (pc := 22) (c_X2_aimBit hw hT h47.1) (gOk _ _ _ _ _) dX2_leastBelow_22 (tX2_aimBit _ _ _ _ _) wS_X2_aimBit wM_X2_110 ⟨le_t rfl, le_t rfl⟩ ⟨le_t rfl, le_t rfl⟩ rfl (le_t rfl) fun z53 h52 => ?_
  exact mr_iret dX2_leastBelow_25 rfl (le_t rfl) (le_t rfl) hT mF.refl ⟨h52.1, trivial⟩
theorem vc_X2_leastBelow_22_1 {p3 : Int} (h0 : 32 ≤ p3) (h1 : 22 ≤ p3 ∧ p3 ≤ 22) : False := by omega
set_option maxRecDepth 4000 in
set_option maxHeartbeats 4000000 in
theorem c_X2_leastBelow_22 {l : Launch} {D : va_G} {c : Nat → ClassId} {H0 : Heap} {sa : Nat × Nat × (Nat → Int32)} {w : mW} {μ : mM} (hw : mWF w) (hT : mT w μ) {p1 : Int} (hp1 : 0 ≤ p1 ∧ p1 ≤ 9) {p2 : Int} (hp2 : (-2147483648) ≤ p2 ∧ p2 ≤ 2147483647) {p3 : Int} (hp3 : 22 ≤ p3 ∧ p3 ≤ 22) (hq0 : p1 < w.2.2.2 0) : sC (gG l D c H0 sa) mX2_leastBelow 13 0 0 [.ref 87, iv p1, iv p2, iv p3] (mk w μ) (qI w [87007] μ (fun z μ1 => ((-2147483648) ≤ z ∧ z ≤ 2147483647) ∧ True)) := by
  refine sC.of rfl (by decide) (le_t rfl) ?_
  refine mr_lvE (lv' := [(0, .ref 87), (1, iv p1), (2, iv p2), (3, iv p3)]) rfl ?_
  refine mr_iload_n (pc := 0) (z := p3) dX2_leastBelow_0 rfl rfl ?_
  refine mr_bipush (pc := 1) (z := 32) dX2_leastBelow_1 (by decide) ?_
  refine mr_icmp_ge (pc := 3) (tgt := 16) dX2_leastBelow_3 (by decide) (r32 hp3 rfl) (r32 (rR (x := 32)) rfl) (fun h => ((vc_X2_leastBelow_22_1 h hp3)).elim) (fun _ => ?_)
  refine sv_aload_n (pc := 6) dX2_leastBelow_6 rfl rfl ?_
  refine mr_iload_n (pc := 7) (z := p1) dX2_leastBelow_7 rfl rfl ?_
  refine mr_iload_n (pc := 8) (z := p2) dX2_leastBelow_8 rfl rfl ?_
  refine mr_iload_n (pc := 9) (z := p3) dX2_leastBelow_9 rfl rfl ?_
  refine mr_cVP (pc := 10) (c_X2_isSplit hw hT hp1 hp2 (rW (c := (-2147483648)) (d := 2147483647) hp3 rfl) (vc_X9_end_1 hq0 hp1)) (gOk _ _ _ _ _) dX2_leastBelow_10 (tX2_isSplit _ _ _ _ _) ⟨wV_X2_isSplit, wL_X2_isSplit⟩ wM_X2_106 (gCX2 _ _ _ _ _) rfl (A_87 hw) rfl ⟨le_t rfl, le_t rfl⟩ ⟨le_t rfl, le_t rfl⟩ rfl (le_t rfl) fun z5 h4 => ?_
  refine mr_if_ne (pc := 13) (tgt := 26) dX2_leastBelow_13 (by decide) (r32 h4.1 rfl) (fun h6 => ?_) (fun h6 => ?_)
  · have h7 : 1 ≤ z5 ∧ z5 ≤ 1 := (vc_X12_ring_24 h6 h4.1)
    refine sv_aload_n (pc := 26) dX2_leastBelow_26 rfl rfl ?_
    refine mr_iload_n (pc := 27) (z := p1) dX2_leastBelow_27 rfl rfl ?_
    refine mr_iload_n (pc := 28) (z := p2) dX2_leastBelow_28 rfl rfl ?_
    refine mr_iload_n (pc := 29) (z := p3) dX2_leastBelow_29 rfl rfl ?_
    refine mr_iconst (pc := 30) (z := 1) dX2_leastBelow_30 ?_
    refine mr_iadd (pc := 31) (x := p3) (y := 1) dX2_leastBelow_31 ?_
    refine mr_cVI (pc := 32) (c_X2_leastBelow_23 hw hT hp1 hp2 (rAdd (e := 23) (f := 23) hp3 (rR (x := 1)) rfl) (vc_X9_end_1 hq0 hp1)) (gOk _ _ _ _ _) dX2_leastBelow_32 (tX2_leastBelow _ _ _ _ _) ⟨wV_X2_leastBelow, wL_X2_leastBelow⟩ wM_X2_101 (gCX2 _ _ _ _ _) rfl (A_87 hw) rfl ⟨le_t rfl, le_t rfl⟩ ⟨le_t rfl, le_t rfl⟩ rfl (le_t rfl) fun z12 μ8 T9 F10 h11 => ?_
    refine mr_istore (pc := 35) (lv' := [(4, iv z12), (0, .ref 87), (1, iv p1), (2, iv p2), (3, iv p3)]) dX2_leastBelow_35 (by decide) rfl ?_
    refine sv_aload_n (pc := 37) dX2_leastBelow_37 rfl rfl ?_
    refine mr_iload_n (pc := 38) (z := p1) dX2_leastBelow_38 rfl rfl ?_
    refine mr_iload_n (pc := 39) (z := p2) dX2_leastBelow_39 rfl rfl ?_
    refine mr_iconst (pc := 40) (z := 1) dX2_leastBelow_40 ?_
    refine mr_bipush (pc := 41) (z := 31) dX2_leastBelow_41 (by decide) ?_
    refine mr_iload_n (pc := 43) (z := p3) dX2_leastBelow_43 rfl rfl ?_
    refine mr_isub (pc := 44) (x := 31) (y := p3) dX2_leastBelow_44 ?_
    refine mr_ishl (pc := 45) (x := 1) (y := (31 - p3)) dX2_leastBelow_45 ?_
    refine mr_gen (P := fun z => (-2147483648) ≤ z ∧ z ≤ 2147483647) (r32i _) fun z13 q14 h15 => ?_
    refine mr_ior (pc := 46) (x := p2) (y := z13) dX2_leastBelow_46 ?_
    refine mr_gen (P := fun z => (-2147483648) ≤ z ∧ z ≤ 2147483647) (r32i _) fun z16 q17 h18 => ?_
    refine mr_iload_n (pc := 47) (z := p3) dX2_leastBelow_47 rfl rfl ?_
    refine mr_iconst (pc := 48) (z := 1) dX2_leastBelow_48 ?_
    refine mr_iadd (pc := 49) (x := p3) (y := 1) dX2_leastBelow_49 ?_
    refine mr_cVI (pc := 50) (c_X2_leastBelow_23 hw T9 hp1 h18 (rAdd (e := 23) (f := 23) hp3 (rR (x := 1)) rfl) (vc_X9_end_1 hq0 hp1)) (gOk _ _ _ _ _) dX2_leastBelow_50 (tX2_leastBelow _ _ _ _ _) ⟨wV_X2_leastBelow, wL_X2_leastBelow⟩ wM_X2_101 (gCX2 _ _ _ _ _) rfl (A_87 hw) rfl ⟨le_t rfl, le_t rfl⟩ ⟨le_t rfl, le_t rfl⟩ rfl (le_t rfl) fun z23 μ19 T20 F21 h22 => ?_
    refine mr_istore (pc := 53) (lv' := [(5, iv z23), (4, iv z12), (0, .ref 87), (1, iv p1), (2, iv p2), (3, iv p3)]) dX2_leastBelow_53 (by decide) rfl ?_
    refine mr_iload (pc := 55) (z := z12) dX2_leastBelow_55 rfl ?_
    refine mr_iload (pc := 57) (z := z23) dX2_leastBelow_57 rfl ?_
    refine mr_iand (pc := 59) (x := z12) (y := z23) dX2_leastBelow_59 ?_
    refine mr_gen (P := fun z => (-2147483648) ≤ z ∧ z ≤ 2147483647) (r32i _) fun z24 q25 h26 => ?_
    refine mr_if_eq (pc := 60) (tgt := 69) dX2_leastBelow_60 (by decide) h26 (fun h27 => ?_) (fun h27 => ?_)
    · have h28 : 0 ≤ z24 ∧ z24 ≤ 0 := (vc_X12_mask_1 h27 h26)
      refine sv_aload_n (pc := 69) dX2_leastBelow_69 rfl rfl ?_
      refine sv_dup (pc := 70) dX2_leastBelow_70 rfl ?_
      refine gf_X2_7 (pc := 71) dX2_leastBelow_71 wF_X2_98 (A_87 hw) T20 fun z29 q30 h31 => ?_
      refine mr_iconst (pc := 74) (z := 1) dX2_leastBelow_74 ?_
      refine mr_iadd (pc := 75) (x := z29) (y := 1) dX2_leastBelow_75 ?_
      refine mr_wrap fun z32 h33 => ?_
      refine pf_X2_7 (pc := 76) dX2_leastBelow_76 wF_X2_98 (A_87 hw) T20 h33 fun μ34 u35 T36 => ?_
      refine mr_iload (pc := 79) (z := z12) dX2_leastBelow_79 rfl ?_
      refine mr_iload (pc := 81) (z := z23) dX2_leastBelow_81 rfl ?_
      refine mr_ior (pc := 83) (x := z12) (y := z23) dX2_leastBelow_83 ?_
      refine mr_gen (P := fun z => (-2147483648) ≤ z ∧ z ≤ 2147483647) (r32i _) fun z37 q38 h39 => ?_
      exact mr_iret dX2_leastBelow_84 rfl (le_t rfl) (le_t rfl) T36 (mF.up (mF.call (mF.call mF.refl F10 rfl) F21 rfl) (A_87 hw) u35 rfl) ⟨h39, trivial⟩
    refine mr_iload (pc := 63) (z := z12) dX2_leastBelow_63 rfl ?_
    refine mr_iload (pc := 65) (z := z23) dX2_leastBelow_65 rfl ?_
    refine mr_iand (pc := 67) (x := z12) (y := z23) dX2_leastBelow_67 ?_
    refine mr_gen (P := fun z => (-2147483648) ≤ z ∧ z ≤ 2147483647) (r32i _) fun z40 q41 h42 => ?_
    exact mr_iret dX2_leastBelow_68 rfl (le_t rfl) (le_t rfl) T20 (mF.call (mF.call mF.refl F10 rfl) F21 rfl) ⟨h42, trivial⟩
  have h43 : 0 ≤ z5 ∧ z5 ≤ 0 := (vc_X12_ring_22 h6 h4.1)
  refine sv_aload_n (pc := 16) dX2_leastBelow_16 rfl rfl ?_
  refine mr_iload_n (pc := 17) (z := p1) dX2_leastBelow_17 rfl rfl ?_
  refine mr_iload_n (pc := 18) (z := p2) dX2_leastBelow_18 rfl rfl ?_
  refine mr_cVP (pc := 19) (c_X2_tieFor hw hT hp1 hp2 (vc_X9_end_1 hq0 hp1)) (gOk _ _ _ _ _) dX2_leastBelow_19 (tX2_tieFor _ _ _ _ _) ⟨wV_X2_tieFor, wL_X2_tieFor⟩ wM_X2_60 (gCX2 _ _ _ _ _) rfl (A_87 hw) rfl ⟨le_t rfl, le_t rfl⟩ ⟨le_t rfl, le_t rfl⟩ rfl (le_t rfl) fun z48 h47 => ?_
  refine mr_cSP (pc := 22) (c_X2_aimBit hw hT h47.1) (gOk _ _ _ _ _) dX2_leastBelow_22 (tX2_aimBit _ _ _ _ _) wS_X2_aimBit wM_X2_110 ⟨le_t rfl, le_t rfl⟩ ⟨le_t rfl, le_t rfl⟩ rfl (le_t rfl) fun z53 h52 => ?_
  exact mr_iret dX2_leastBelow_25 rfl (le_t rfl) (le_t rfl) hT mF.refl ⟨h52.1, trivial⟩
theorem vc_X2_leastBelow_21_1 {p3 : Int} (h0 : 32 ≤ p3) (h1 : 21 ≤ p3 ∧ p3 ≤ 21) : False := by omega
set_option maxRecDepth 4000 in
set_option maxHeartbeats 4000000 in
theorem c_X2_leastBelow_21 {l : Launch} {D : va_G} {c : Nat → ClassId} {H0 : Heap} {sa : Nat × Nat × (Nat → Int32)} {w : mW} {μ : mM} (hw : mWF w) (hT : mT w μ) {p1 : Int} (hp1 : 0 ≤ p1 ∧ p1 ≤ 9) {p2 : Int} (hp2 : (-2147483648) ≤ p2 ∧ p2 ≤ 2147483647) {p3 : Int} (hp3 : 21 ≤ p3 ∧ p3 ≤ 21) (hq0 : p1 < w.2.2.2 0) : sC (gG l D c H0 sa) mX2_leastBelow 14 0 0 [.ref 87, iv p1, iv p2, iv p3] (mk w μ) (qI w [87007] μ (fun z μ1 => ((-2147483648) ≤ z ∧ z ≤ 2147483647) ∧ True)) := by
  refine sC.of rfl (by decide) (le_t rfl) ?_
  refine mr_lvE (lv' := [(0, .ref 87), (1, iv p1), (2, iv p2), (3, iv p3)]) rfl ?_
  refine mr_iload_n (pc := 0) (z := p3) dX2_leastBelow_0 rfl rfl ?_
  refine mr_bipush (pc := 1) (z := 32) dX2_leastBelow_1 (by decide) ?_
  refine mr_icmp_ge (pc := 3) (tgt := 16) dX2_leastBelow_3 (by decide) (r32 hp3 rfl) (r32 (rR (x := 32)) rfl) (fun h => ((vc_X2_leastBelow_21_1 h hp3)).elim) (fun _ => ?_)
  refine sv_aload_n (pc := 6) dX2_leastBelow_6 rfl rfl ?_
  refine mr_iload_n (pc := 7) (z := p1) dX2_leastBelow_7 rfl rfl ?_
  refine mr_iload_n (pc := 8) (z := p2) dX2_leastBelow_8 rfl rfl ?_
  refine mr_iload_n (pc := 9) (z := p3) dX2_leastBelow_9 rfl rfl ?_
  refine mr_cVP (pc := 10) (c_X2_isSplit hw hT hp1 hp2 (rW (c := (-2147483648)) (d := 2147483647) hp3 rfl) (vc_X9_end_1 hq0 hp1)) (gOk _ _ _ _ _) dX2_leastBelow_10 (tX2_isSplit _ _ _ _ _) ⟨wV_X2_isSplit, wL_X2_isSplit⟩ wM_X2_106 (gCX2 _ _ _ _ _) rfl (A_87 hw) rfl ⟨le_t rfl, le_t rfl⟩ ⟨le_t rfl, le_t rfl⟩ rfl (le_t rfl) fun z5 h4 => ?_
  refine mr_if_ne (pc := 13) (tgt := 26) dX2_leastBelow_13 (by decide) (r32 h4.1 rfl) (fun h6 => ?_) (fun h6 => ?_)
  · have h7 : 1 ≤ z5 ∧ z5 ≤ 1 := (vc_X12_ring_24 h6 h4.1)
    refine sv_aload_n (pc := 26) dX2_leastBelow_26 rfl rfl ?_
    refine mr_iload_n (pc := 27) (z := p1) dX2_leastBelow_27 rfl rfl ?_
    refine mr_iload_n (pc := 28) (z := p2) dX2_leastBelow_28 rfl rfl ?_
    refine mr_iload_n (pc := 29) (z := p3) dX2_leastBelow_29 rfl rfl ?_
    refine mr_iconst (pc := 30) (z := 1) dX2_leastBelow_30 ?_
    refine mr_iadd (pc := 31) (x := p3) (y := 1) dX2_leastBelow_31 ?_
    refine mr_cVI (pc := 32) (c_X2_leastBelow_22 hw hT hp1 hp2 (rAdd (e := 22) (f := 22) hp3 (rR (x := 1)) rfl) (vc_X9_end_1 hq0 hp1)) (gOk _ _ _ _ _) dX2_leastBelow_32 (tX2_leastBelow _ _ _ _ _) ⟨wV_X2_leastBelow, wL_X2_leastBelow⟩ wM_X2_101 (gCX2 _ _ _ _ _) rfl (A_87 hw) rfl ⟨le_t rfl, le_t rfl⟩ ⟨le_t rfl, le_t rfl⟩ rfl (le_t rfl) fun z12 μ8 T9 F10 h11 => ?_
    refine mr_istore (pc := 35) (lv' := [(4, iv z12), (0, .ref 87), (1, iv p1), (2, iv p2), (3, iv p3)]) dX2_leastBelow_35 (by decide) rfl ?_
    refine sv_aload_n (pc := 37) dX2_leastBelow_37 rfl rfl ?_
    refine mr_iload_n (pc := 38) (z := p1) dX2_leastBelow_38 rfl rfl ?_
    refine mr_iload_n (pc := 39) (z := p2) dX2_leastBelow_39 rfl rfl ?_
    refine mr_iconst (pc := 40) (z := 1) dX2_leastBelow_40 ?_
    refine mr_bipush (pc := 41) (z := 31) dX2_leastBelow_41 (by decide) ?_
    refine mr_iload_n (pc := 43) (z := p3) dX2_leastBelow_43 rfl rfl ?_
    refine mr_isub (pc := 44) (x := 31) (y := p3) dX2_leastBelow_44 ?_
    refine mr_ishl (pc := 45) (x := 1) (y := (31 - p3)) dX2_leastBelow_45 ?_
    refine mr_gen (P := fun z => (-2147483648) ≤ z ∧ z ≤ 2147483647) (r32i _) fun z13 q14 h15 => ?_
    refine mr_ior (pc := 46) (x := p2) (y := z13) dX2_leastBelow_46 ?_
    refine mr_gen (P := fun z => (-2147483648) ≤ z ∧ z ≤ 2147483647) (r32i _) fun z16 q17 h18 => ?_
    refine mr_iload_n (pc := 47) (z := p3) dX2_leastBelow_47 rfl rfl ?_
    refine mr_iconst (pc := 48) (z := 1) dX2_leastBelow_48 ?_
    refine mr_iadd (pc := 49) (x := p3) (y := 1) dX2_leastBelow_49 ?_
    refine mr_cVI (pc := 50) (c_X2_leastBelow_22 hw T9 hp1 h18 (rAdd (e := 22) (f := 22) hp3 (rR (x := 1)) rfl) (vc_X9_end_1 hq0 hp1)) (gOk _ _ _ _ _) dX2_leastBelow_50 (tX2_leastBelow _ _ _ _ _) ⟨wV_X2_leastBelow, wL_X2_leastBelow⟩ wM_X2_101 (gCX2 _ _ _ _ _) rfl (A_87 hw) rfl ⟨le_t rfl, le_t rfl⟩ ⟨le_t rfl, le_t rfl⟩ rfl (le_t rfl) fun z23 μ19 T20 F21 h22 => ?_
    refine mr_istore (pc := 53) (lv' := [(5, iv z23), (4, iv z12), (0, .ref 87), (1, iv p1), (2, iv p2), (3, iv p3)]) dX2_leastBelow_53 (by decide) rfl ?_
    refine mr_iload (pc := 55) (z := z12) dX2_leastBelow_55 rfl ?_
    refine mr_iload (pc := 57) (z := z23) dX2_leastBelow_57 rfl ?_
    refine mr_iand (pc := 59) (x := z12) (y := z23) dX2_leastBelow_59 ?_
    refine mr_gen (P := fun z => (-2147483648) ≤ z ∧ z ≤ 2147483647) (r32i _) fun z24 q25 h26 => ?_
    refine mr_if_eq (pc := 60) (tgt := 69) dX2_leastBelow_60 (by decide) h26 (fun h27 => ?_) (fun h27 => ?_)
    · have h28 : 0 ≤ z24 ∧ z24 ≤ 0 := (vc_X12_mask_1 h27 h26)
      refine sv_aload_n (pc := 69) dX2_leastBelow_69 rfl rfl ?_
      refine sv_dup (pc := 70) dX2_leastBelow_70 rfl ?_
      refine gf_X2_7 (pc := 71) dX2_leastBelow_71 wF_X2_98 (A_87 hw) T20 fun z29 q30 h31 => ?_
      refine mr_iconst (pc := 74) (z := 1) dX2_leastBelow_74 ?_
      refine mr_iadd (pc := 75) (x := z29) (y := 1) dX2_leastBelow_75 ?_
      refine mr_wrap fun z32 h33 => ?_
      refine pf_X2_7 (pc := 76) dX2_leastBelow_76 wF_X2_98 (A_87 hw) T20 h33 fun μ34 u35 T36 => ?_
      refine mr_iload (pc := 79) (z := z12) dX2_leastBelow_79 rfl ?_
      refine mr_iload (pc := 81) (z := z23) dX2_leastBelow_81 rfl ?_
      refine mr_ior (pc := 83) (x := z12) (y := z23) dX2_leastBelow_83 ?_
      refine mr_gen (P := fun z => (-2147483648) ≤ z ∧ z ≤ 2147483647) (r32i _) fun z37 q38 h39 => ?_
      exact mr_iret dX2_leastBelow_84 rfl (le_t rfl) (le_t rfl) T36 (mF.up (mF.call (mF.call mF.refl F10 rfl) F21 rfl) (A_87 hw) u35 rfl) ⟨h39, trivial⟩
    refine mr_iload (pc := 63) (z := z12) dX2_leastBelow_63 rfl ?_
    refine mr_iload (pc := 65) (z := z23) dX2_leastBelow_65 rfl ?_
    refine mr_iand (pc := 67) (x := z12) (y := z23) dX2_leastBelow_67 ?_
    refine mr_gen (P := fun z => (-2147483648) ≤ z ∧ z ≤ 2147483647) (r32i _) fun z40 q41 h42 => ?_
    exact mr_iret dX2_leastBelow_68 rfl (le_t rfl) (le_t rfl) T20 (mF.call (mF.call mF.refl F10 rfl) F21 rfl) ⟨h42, trivial⟩
  have h43 : 0 ≤ z5 ∧ z5 ≤ 0 := (vc_X12_ring_22 h6 h4.1)
  refine sv_aload_n (pc := 16) dX2_leastBelow_16 rfl rfl ?_
  refine mr_iload_n (pc := 17) (z := p1) dX2_leastBelow_17 rfl rfl ?_
  refine mr_iload_n (pc := 18) (z := p2) dX2_leastBelow_18 rfl rfl ?_
  refine mr_cVP (pc := 19) (c_X2_tieFor hw hT hp1 hp2 (vc_X9_end_1 hq0 hp1)) (gOk _ _ _ _ _) dX2_leastBelow_19 (tX2_tieFor _ _ _ _ _) ⟨wV_X2_tieFor, wL_X2_tieFor⟩ wM_X2_60 (gCX2 _ _ _ _ _) rfl (A_87 hw) rfl ⟨le_t rfl, le_t rfl⟩ ⟨le_t rfl, le_t rfl⟩ rfl (le_t rfl) fun z48 h47 => ?_
  refine mr_cSP (pc := 22) (c_X2_aimBit hw hT h47.1) (gOk _ _ _ _ _) dX2_leastBelow_22 (tX2_aimBit _ _ _ _ _) wS_X2_aimBit wM_X2_110 ⟨le_t rfl, le_t rfl⟩ ⟨le_t rfl, le_t rfl⟩ rfl (le_t rfl) fun z53 h52 => ?_
  exact mr_iret dX2_leastBelow_25 rfl (le_t rfl) (le_t rfl) hT mF.refl ⟨h52.1, trivial⟩
theorem vc_X2_leastBelow_20_1 {p3 : Int} (h0 : 32 ≤ p3) (h1 : 20 ≤ p3 ∧ p3 ≤ 20) : False := by omega
set_option maxRecDepth 4000 in
set_option maxHeartbeats 4000000 in
theorem c_X2_leastBelow_20 {l : Launch} {D : va_G} {c : Nat → ClassId} {H0 : Heap} {sa : Nat × Nat × (Nat → Int32)} {w : mW} {μ : mM} (hw : mWF w) (hT : mT w μ) {p1 : Int} (hp1 : 0 ≤ p1 ∧ p1 ≤ 9) {p2 : Int} (hp2 : (-2147483648) ≤ p2 ∧ p2 ≤ 2147483647) {p3 : Int} (hp3 : 20 ≤ p3 ∧ p3 ≤ 20) (hq0 : p1 < w.2.2.2 0) : sC (gG l D c H0 sa) mX2_leastBelow 15 0 0 [.ref 87, iv p1, iv p2, iv p3] (mk w μ) (qI w [87007] μ (fun z μ1 => ((-2147483648) ≤ z ∧ z ≤ 2147483647) ∧ True)) := by
  refine sC.of rfl (by decide) (le_t rfl) ?_
  refine mr_lvE (lv' := [(0, .ref 87), (1, iv p1), (2, iv p2), (3, iv p3)]) rfl ?_
  refine mr_iload_n (pc := 0) (z := p3) dX2_leastBelow_0 rfl rfl ?_
  refine mr_bipush (pc := 1) (z := 32) dX2_leastBelow_1 (by decide) ?_
  refine mr_icmp_ge (pc := 3) (tgt := 16) dX2_leastBelow_3 (by decide) (r32 hp3 rfl) (r32 (rR (x := 32)) rfl) (fun h => ((vc_X2_leastBelow_20_1 h hp3)).elim) (fun _ => ?_)
  refine sv_aload_n (pc := 6) dX2_leastBelow_6 rfl rfl ?_
  refine mr_iload_n (pc := 7) (z := p1) dX2_leastBelow_7 rfl rfl ?_
  refine mr_iload_n (pc := 8) (z := p2) dX2_leastBelow_8 rfl rfl ?_
  refine mr_iload_n (pc := 9) (z := p3) dX2_leastBelow_9 rfl rfl ?_
  refine mr_cVP (pc := 10) (c_X2_isSplit hw hT hp1 hp2 (rW (c := (-2147483648)) (d := 2147483647) hp3 rfl) (vc_X9_end_1 hq0 hp1)) (gOk _ _ _ _ _) dX2_leastBelow_10 (tX2_isSplit _ _ _ _ _) ⟨wV_X2_isSplit, wL_X2_isSplit⟩ wM_X2_106 (gCX2 _ _ _ _ _) rfl (A_87 hw) rfl ⟨le_t rfl, le_t rfl⟩ ⟨le_t rfl, le_t rfl⟩ rfl (le_t rfl) fun z5 h4 => ?_
  refine mr_if_ne (pc := 13) (tgt := 26) dX2_leastBelow_13 (by decide) (r32 h4.1 rfl) (fun h6 => ?_) (fun h6 => ?_)
  · have h7 : 1 ≤ z5 ∧ z5 ≤ 1 := (vc_X12_ring_24 h6 h4.1)
    refine sv_aload_n (pc := 26) dX2_leastBelow_26 rfl rfl ?_
    refine mr_iload_n (pc := 27) (z := p1) dX2_leastBelow_27 rfl rfl ?_
    refine mr_iload_n (pc := 28) (z := p2) dX2_leastBelow_28 rfl rfl ?_
    refine mr_iload_n (pc := 29) (z := p3) dX2_leastBelow_29 rfl rfl ?_
    refine mr_iconst (pc := 30) (z := 1) dX2_leastBelow_30 ?_
    refine mr_iadd (pc := 31) (x := p3) (y := 1) dX2_leastBelow_31 ?_
    refine mr_cVI (pc := 32) (c_X2_leastBelow_21 hw hT hp1 hp2 (rAdd (e := 21) (f := 21) hp3 (rR (x := 1)) rfl) (vc_X9_end_1 hq0 hp1)) (gOk _ _ _ _ _) dX2_leastBelow_32 (tX2_leastBelow _ _ _ _ _) ⟨wV_X2_leastBelow, wL_X2_leastBelow⟩ wM_X2_101 (gCX2 _ _ _ _ _) rfl (A_87 hw) rfl ⟨le_t rfl, le_t rfl⟩ ⟨le_t rfl, le_t rfl⟩ rfl (le_t rfl) fun z12 μ8 T9 F10 h11 => ?_
    refine mr_istore (pc := 35) (lv' := [(4, iv z12), (0, .ref 87), (1, iv p1), (2, iv p2), (3, iv p3)]) dX2_leastBelow_35 (by decide) rfl ?_
    refine sv_aload_n (pc := 37) dX2_leastBelow_37 rfl rfl ?_
    refine mr_iload_n (pc := 38) (z := p1) dX2_leastBelow_38 rfl rfl ?_
    refine mr_iload_n (pc := 39) (z := p2) dX2_leastBelow_39 rfl rfl ?_
    refine mr_iconst (pc := 40) (z := 1) dX2_leastBelow_40 ?_
    refine mr_bipush (pc := 41) (z := 31) dX2_leastBelow_41 (by decide) ?_
    refine mr_iload_n (pc := 43) (z := p3) dX2_leastBelow_43 rfl rfl ?_
    refine mr_isub (pc := 44) (x := 31) (y := p3) dX2_leastBelow_44 ?_
    refine mr_ishl (pc := 45) (x := 1) (y := (31 - p3)) dX2_leastBelow_45 ?_
    refine mr_gen (P := fun z => (-2147483648) ≤ z ∧ z ≤ 2147483647) (r32i _) fun z13 q14 h15 => ?_
    refine mr_ior (pc := 46) (x := p2) (y := z13) dX2_leastBelow_46 ?_
    refine mr_gen (P := fun z => (-2147483648) ≤ z ∧ z ≤ 2147483647) (r32i _) fun z16 q17 h18 => ?_
    refine mr_iload_n (pc := 47) (z := p3) dX2_leastBelow_47 rfl rfl ?_
    refine mr_iconst (pc := 48) (z := 1) dX2_leastBelow_48 ?_
    refine mr_iadd (pc := 49) (x := p3) (y := 1) dX2_leastBelow_49 ?_
    refine mr_cVI (pc := 50) (c_X2_leastBelow_21 hw T9 hp1 h18 (rAdd (e := 21) (f := 21) hp3 (rR (x := 1)) rfl) (vc_X9_end_1 hq0 hp1)) (gOk _ _ _ _ _) dX2_leastBelow_50 (tX2_leastBelow _ _ _ _ _) ⟨wV_X2_leastBelow, wL_X2_leastBelow⟩ wM_X2_101 (gCX2 _ _ _ _ _) rfl (A_87 hw) rfl ⟨le_t rfl, le_t rfl⟩ ⟨le_t rfl, le_t rfl⟩ rfl (le_t rfl) fun z23 μ19 T20 F21 h22 => ?_
    refine mr_istore (pc := 53) (lv' := [(5, iv z23), (4, iv z12), (0, .ref 87), (1, iv p1), (2, iv p2), (3, iv p3)]) dX2_leastBelow_53 (by decide) rfl ?_
    refine mr_iload (pc := 55) (z := z12) dX2_leastBelow_55 rfl ?_
    refine mr_iload (pc := 57) (z := z23) dX2_leastBelow_57 rfl ?_
    refine mr_iand (pc := 59) (x := z12) (y := z23) dX2_leastBelow_59 ?_
    refine mr_gen (P := fun z => (-2147483648) ≤ z ∧ z ≤ 2147483647) (r32i _) fun z24 q25 h26 => ?_
    refine mr_if_eq (pc := 60) (tgt := 69) dX2_leastBelow_60 (by decide) h26 (fun h27 => ?_) (fun h27 => ?_)
    · have h28 : 0 ≤ z24 ∧ z24 ≤ 0 := (vc_X12_mask_1 h27 h26)
      refine sv_aload_n (pc := 69) dX2_leastBelow_69 rfl rfl ?_
      refine sv_dup (pc := 70) dX2_leastBelow_70 rfl ?_
      refine gf_X2_7 (pc := 71) dX2_leastBelow_71 wF_X2_98 (A_87 hw) T20 fun z29 q30 h31 => ?_
      refine mr_iconst (pc := 74) (z := 1) dX2_leastBelow_74 ?_
      refine mr_iadd (pc := 75) (x := z29) (y := 1) dX2_leastBelow_75 ?_
      refine mr_wrap fun z32 h33 => ?_
      refine pf_X2_7 (pc := 76) dX2_leastBelow_76 wF_X2_98 (A_87 hw) T20 h33 fun μ34 u35 T36 => ?_
      refine mr_iload (pc := 79) (z := z12) dX2_leastBelow_79 rfl ?_
      refine mr_iload (pc := 81) (z := z23) dX2_leastBelow_81 rfl ?_
      refine mr_ior (pc := 83) (x := z12) (y := z23) dX2_leastBelow_83 ?_
      refine mr_gen (P := fun z => (-2147483648) ≤ z ∧ z ≤ 2147483647) (r32i _) fun z37 q38 h39 => ?_
      exact mr_iret dX2_leastBelow_84 rfl (le_t rfl) (le_t rfl) T36 (mF.up (mF.call (mF.call mF.refl F10 rfl) F21 rfl) (A_87 hw) u35 rfl) ⟨h39, trivial⟩
    refine mr_iload (pc := 63) (z := z12) dX2_leastBelow_63 rfl ?_
    refine mr_iload (pc := 65) (z := z23) dX2_leastBelow_65 rfl ?_
    refine mr_iand (pc := 67) (x := z12) (y := z23) dX2_leastBelow_67 ?_
    refine mr_gen (P := fun z => (-2147483648) ≤ z ∧ z ≤ 2147483647) (r32i _) fun z40 q41 h42 => ?_
    exact mr_iret dX2_leastBelow_68 rfl (le_t rfl) (le_t rfl) T20 (mF.call (mF.call mF.refl F10 rfl) F21 rfl) ⟨h42, trivial⟩
  have h43 : 0 ≤ z5 ∧ z5 ≤ 0 := (vc_X12_ring_22 h6 h4.1)
  refine sv_aload_n (pc := 16) dX2_leastBelow_16 rfl rfl ?_
  refine mr_iload_n (pc := 17) (z := p1) dX2_leastBelow_17 rfl rfl ?_
  refine mr_iload_n (pc := 18) (z := p2) dX2_leastBelow_18 rfl rfl ?_
  refine mr_cVP (pc := 19) (c_X2_tieFor hw hT hp1 hp2 (vc_X9_end_1 hq0 hp1)) (gOk _ _ _ _ _) dX2_leastBelow_19 (tX2_tieFor _ _ _ _ _) ⟨wV_X2_tieFor, wL_X2_tieFor⟩ wM_X2_60 (gCX2 _ _ _ _ _) rfl (A_87 hw) rfl ⟨le_t rfl, le_t rfl⟩ ⟨le_t rfl, le_t rfl⟩ rfl (le_t rfl) fun z48 h47 => ?_
  refine mr_cSP (pc := 22) (c_X2_aimBit hw hT h47.1) (gOk _ _ _ _ _) dX2_leastBelow_22 (tX2_aimBit _ _ _ _ _) wS_X2_aimBit wM_X2_110 ⟨le_t rfl, le_t rfl⟩ ⟨le_t rfl, le_t rfl⟩ rfl (le_t rfl) fun z53 h52 => ?_
  exact mr_iret dX2_leastBelow_25 rfl (le_t rfl) (le_t rfl) hT mF.refl ⟨h52.1, trivial⟩
theorem vc_X2_leastBelow_19_1 {p3 : Int} (h0 : 32 ≤ p3) (h1 : 19 ≤ p3 ∧ p3 ≤ 19) : False := by omega
set_option maxRecDepth 4000 in
set_option maxHeartbeats 4000000 in
theorem c_X2_leastBelow_19 {l : Launch} {D : va_G} {c : Nat → ClassId} {H0 : Heap} {sa : Nat × Nat × (Nat → Int32)} {w : mW} {μ : mM} (hw : mWF w) (hT : mT w μ) {p1 : Int} (hp1 : 0 ≤ p1 ∧ p1 ≤ 9) {p2 : Int} (hp2 : (-2147483648) ≤ p2 ∧ p2 ≤ 2147483647) {p3 : Int} (hp3 : 19 ≤ p3 ∧ p3 ≤ 19) (hq0 : p1 < w.2.2.2 0) : sC (gG l D c H0 sa) mX2_leastBelow 16 0 0 [.ref 87, iv p1, iv p2, iv p3] (mk w μ) (qI w [87007] μ (fun z μ1 => ((-2147483648) ≤ z ∧ z ≤ 2147483647) ∧ True)) := by
  refine sC.of rfl (by decide) (le_t rfl) ?_
  refine mr_lvE (lv' := [(0, .ref 87), (1, iv p1), (2, iv p2), (3, iv p3)]) rfl ?_
  refine mr_iload_n (pc := 0) (z := p3) dX2_leastBelow_0 rfl rfl ?_
  refine mr_bipush (pc := 1) (z := 32) dX2_leastBelow_1 (by decide) ?_
  refine mr_icmp_ge (pc := 3) (tgt := 16) dX2_leastBelow_3 (by decide) (r32 hp3 rfl) (r32 (rR (x := 32)) rfl) (fun h => ((vc_X2_leastBelow_19_1 h hp3)).elim) (fun _ => ?_)
  refine sv_aload_n (pc := 6) dX2_leastBelow_6 rfl rfl ?_
  refine mr_iload_n (pc := 7) (z := p1) dX2_leastBelow_7 rfl rfl ?_
  refine mr_iload_n (pc := 8) (z := p2) dX2_leastBelow_8 rfl rfl ?_
  refine mr_iload_n (pc := 9) (z := p3) dX2_leastBelow_9 rfl rfl ?_
  refine mr_cVP (pc := 10) (c_X2_isSplit hw hT hp1 hp2 (rW (c := (-2147483648)) (d := 2147483647) hp3 rfl) (vc_X9_end_1 hq0 hp1)) (gOk _ _ _ _ _) dX2_leastBelow_10 (tX2_isSplit _ _ _ _ _) ⟨wV_X2_isSplit, wL_X2_isSplit⟩ wM_X2_106 (gCX2 _ _ _ _ _) rfl (A_87 hw) rfl ⟨le_t rfl, le_t rfl⟩ ⟨le_t rfl, le_t rfl⟩ rfl (le_t rfl) fun z5 h4 => ?_
  refine mr_if_ne (pc := 13) (tgt := 26) dX2_leastBelow_13 (by decide) (r32 h4.1 rfl) (fun h6 => ?_) (fun h6 => ?_)
  · have h7 : 1 ≤ z5 ∧ z5 ≤ 1 := (vc_X12_ring_24 h6 h4.1)
    refine sv_aload_n (pc := 26) dX2_leastBelow_26 rfl rfl ?_
    refine mr_iload_n (pc := 27) (z := p1) dX2_leastBelow_27 rfl rfl ?_
    refine mr_iload_n (pc := 28) (z := p2) dX2_leastBelow_28 rfl rfl ?_
    refine mr_iload_n (pc := 29) (z := p3) dX2_leastBelow_29 rfl rfl ?_
    refine mr_iconst (pc := 30) (z := 1) dX2_leastBelow_30 ?_
    refine mr_iadd (pc := 31) (x := p3) (y := 1) dX2_leastBelow_31 ?_
    refine mr_cVI (pc := 32) (c_X2_leastBelow_20 hw hT hp1 hp2 (rAdd (e := 20) (f := 20) hp3 (rR (x := 1)) rfl) (vc_X9_end_1 hq0 hp1)) (gOk _ _ _ _ _) dX2_leastBelow_32 (tX2_leastBelow _ _ _ _ _) ⟨wV_X2_leastBelow, wL_X2_leastBelow⟩ wM_X2_101 (gCX2 _ _ _ _ _) rfl (A_87 hw) rfl ⟨le_t rfl, le_t rfl⟩ ⟨le_t rfl, le_t rfl⟩ rfl (le_t rfl) fun z12 μ8 T9 F10 h11 => ?_
    refine mr_istore (pc := 35) (lv' := [(4, iv z12), (0, .ref 87), (1, iv p1), (2, iv p2), (3, iv p3)]) dX2_leastBelow_35 (by decide) rfl ?_
    refine sv_aload_n (pc := 37) dX2_leastBelow_37 rfl rfl ?_
    refine mr_iload_n (pc := 38) (z := p1) dX2_leastBelow_38 rfl rfl ?_
    refine mr_iload_n (pc := 39) (z := p2) dX2_leastBelow_39 rfl rfl ?_
    refine mr_iconst (pc := 40) (z := 1) dX2_leastBelow_40 ?_
    refine mr_bipush (pc := 41) (z := 31) dX2_leastBelow_41 (by decide) ?_
    refine mr_iload_n (pc := 43) (z := p3) dX2_leastBelow_43 rfl rfl ?_
    refine mr_isub (pc := 44) (x := 31) (y := p3) dX2_leastBelow_44 ?_
    refine mr_ishl (pc := 45) (x := 1) (y := (31 - p3)) dX2_leastBelow_45 ?_
    refine mr_gen (P := fun z => (-2147483648) ≤ z ∧ z ≤ 2147483647) (r32i _) fun z13 q14 h15 => ?_
    refine mr_ior (pc := 46) (x := p2) (y := z13) dX2_leastBelow_46 ?_
    refine mr_gen (P := fun z => (-2147483648) ≤ z ∧ z ≤ 2147483647) (r32i _) fun z16 q17 h18 => ?_
    refine mr_iload_n (pc := 47) (z := p3) dX2_leastBelow_47 rfl rfl ?_
    refine mr_iconst (pc := 48) (z := 1) dX2_leastBelow_48 ?_
    refine mr_iadd (pc := 49) (x := p3) (y := 1) dX2_leastBelow_49 ?_
    refine mr_cVI (pc := 50) (c_X2_leastBelow_20 hw T9 hp1 h18 (rAdd (e := 20) (f := 20) hp3 (rR (x := 1)) rfl) (vc_X9_end_1 hq0 hp1)) (gOk _ _ _ _ _) dX2_leastBelow_50 (tX2_leastBelow _ _ _ _ _) ⟨wV_X2_leastBelow, wL_X2_leastBelow⟩ wM_X2_101 (gCX2 _ _ _ _ _) rfl (A_87 hw) rfl ⟨le_t rfl, le_t rfl⟩ ⟨le_t rfl, le_t rfl⟩ rfl (le_t rfl) fun z23 μ19 T20 F21 h22 => ?_
    refine mr_istore (pc := 53) (lv' := [(5, iv z23), (4, iv z12), (0, .ref 87), (1, iv p1), (2, iv p2), (3, iv p3)]) dX2_leastBelow_53 (by decide) rfl ?_
    refine mr_iload (pc := 55) (z := z12) dX2_leastBelow_55 rfl ?_
    refine mr_iload (pc := 57) (z := z23) dX2_leastBelow_57 rfl ?_
    refine mr_iand (pc := 59) (x := z12) (y := z23) dX2_leastBelow_59 ?_
    refine mr_gen (P := fun z => (-2147483648) ≤ z ∧ z ≤ 2147483647) (r32i _) fun z24 q25 h26 => ?_
    refine mr_if_eq (pc := 60) (tgt := 69) dX2_leastBelow_60 (by decide) h26 (fun h27 => ?_) (fun h27 => ?_)
    · have h28 : 0 ≤ z24 ∧ z24 ≤ 0 := (vc_X12_mask_1 h27 h26)
      refine sv_aload_n (pc := 69) dX2_leastBelow_69 rfl rfl ?_
      refine sv_dup (pc := 70) dX2_leastBelow_70 rfl ?_
      refine gf_X2_7 (pc := 71) dX2_leastBelow_71 wF_X2_98 (A_87 hw) T20 fun z29 q30 h31 => ?_
      refine mr_iconst (pc := 74) (z := 1) dX2_leastBelow_74 ?_
      refine mr_iadd (pc := 75) (x := z29) (y := 1) dX2_leastBelow_75 ?_
      refine mr_wrap fun z32 h33 => ?_
      refine pf_X2_7 (pc := 76) dX2_leastBelow_76 wF_X2_98 (A_87 hw) T20 h33 fun μ34 u35 T36 => ?_
      refine mr_iload (pc := 79) (z := z12) dX2_leastBelow_79 rfl ?_
      refine mr_iload (pc := 81) (z := z23) dX2_leastBelow_81 rfl ?_
      refine mr_ior (pc := 83) (x := z12) (y := z23) dX2_leastBelow_83 ?_
      refine mr_gen (P := fun z => (-2147483648) ≤ z ∧ z ≤ 2147483647) (r32i _) fun z37 q38 h39 => ?_
      exact mr_iret dX2_leastBelow_84 rfl (le_t rfl) (le_t rfl) T36 (mF.up (mF.call (mF.call mF.refl F10 rfl) F21 rfl) (A_87 hw) u35 rfl) ⟨h39, trivial⟩
    refine mr_iload (pc := 63) (z := z12) dX2_leastBelow_63 rfl ?_
    refine mr_iload (pc := 65) (z := z23) dX2_leastBelow_65 rfl ?_
    refine mr_iand (pc := 67) (x := z12) (y := z23) dX2_leastBelow_67 ?_
    refine mr_gen (P := fun z => (-2147483648) ≤ z ∧ z ≤ 2147483647) (r32i _) fun z40 q41 h42 => ?_
    exact mr_iret dX2_leastBelow_68 rfl (le_t rfl) (le_t rfl) T20 (mF.call (mF.call mF.refl F10 rfl) F21 rfl) ⟨h42, trivial⟩
  have h43 : 0 ≤ z5 ∧ z5 ≤ 0 := (vc_X12_ring_22 h6 h4.1)
  refine sv_aload_n (pc := 16) dX2_leastBelow_16 rfl rfl ?_
  refine mr_iload_n (pc := 17) (z := p1) dX2_leastBelow_17 rfl rfl ?_
  refine mr_iload_n (pc := 18) (z := p2) dX2_leastBelow_18 rfl rfl ?_
  refine mr_cVP (pc := 19) (c_X2_tieFor hw hT hp1 hp2 (vc_X9_end_1 hq0 hp1)) (gOk _ _ _ _ _) dX2_leastBelow_19 (tX2_tieFor _ _ _ _ _) ⟨wV_X2_tieFor, wL_X2_tieFor⟩ wM_X2_60 (gCX2 _ _ _ _ _) rfl (A_87 hw) rfl ⟨le_t rfl, le_t rfl⟩ ⟨le_t rfl, le_t rfl⟩ rfl (le_t rfl) fun z48 h47 => ?_
  refine mr_cSP (pc := 22) (c_X2_aimBit hw hT h47.1) (gOk _ _ _ _ _) dX2_leastBelow_22 (tX2_aimBit _ _ _ _ _) wS_X2_aimBit wM_X2_110 ⟨le_t rfl, le_t rfl⟩ ⟨le_t rfl, le_t rfl⟩ rfl (le_t rfl) fun z53 h52 => ?_
  exact mr_iret dX2_leastBelow_25 rfl (le_t rfl) (le_t rfl) hT mF.refl ⟨h52.1, trivial⟩
theorem vc_X2_leastBelow_18_1 {p3 : Int} (h0 : 32 ≤ p3) (h1 : 18 ≤ p3 ∧ p3 ≤ 18) : False := by omega
set_option maxRecDepth 4000 in
set_option maxHeartbeats 4000000 in
theorem c_X2_leastBelow_18 {l : Launch} {D : va_G} {c : Nat → ClassId} {H0 : Heap} {sa : Nat × Nat × (Nat → Int32)} {w : mW} {μ : mM} (hw : mWF w) (hT : mT w μ) {p1 : Int} (hp1 : 0 ≤ p1 ∧ p1 ≤ 9) {p2 : Int} (hp2 : (-2147483648) ≤ p2 ∧ p2 ≤ 2147483647) {p3 : Int} (hp3 : 18 ≤ p3 ∧ p3 ≤ 18) (hq0 : p1 < w.2.2.2 0) : sC (gG l D c H0 sa) mX2_leastBelow 17 0 0 [.ref 87, iv p1, iv p2, iv p3] (mk w μ) (qI w [87007] μ (fun z μ1 => ((-2147483648) ≤ z ∧ z ≤ 2147483647) ∧ True)) := by
  refine sC.of rfl (by decide) (le_t rfl) ?_
  refine mr_lvE (lv' := [(0, .ref 87), (1, iv p1), (2, iv p2), (3, iv p3)]) rfl ?_
  refine mr_iload_n (pc := 0) (z := p3) dX2_leastBelow_0 rfl rfl ?_
  refine mr_bipush (pc := 1) (z := 32) dX2_leastBelow_1 (by decide) ?_
  refine mr_icmp_ge (pc := 3) (tgt := 16) dX2_leastBelow_3 (by decide) (r32 hp3 rfl) (r32 (rR (x := 32)) rfl) (fun h => ((vc_X2_leastBelow_18_1 h hp3)).elim) (fun _ => ?_)
  refine sv_aload_n (pc := 6) dX2_leastBelow_6 rfl rfl ?_
  refine mr_iload_n (pc := 7) (z := p1) dX2_leastBelow_7 rfl rfl ?_
  refine mr_iload_n (pc := 8) (z := p2) dX2_leastBelow_8 rfl rfl ?_
  refine mr_iload_n (pc := 9) (z := p3) dX2_leastBelow_9 rfl rfl ?_
  refine mr_cVP (pc := 10) (c_X2_isSplit hw hT hp1 hp2 (rW (c := (-2147483648)) (d := 2147483647) hp3 rfl) (vc_X9_end_1 hq0 hp1)) (gOk _ _ _ _ _) dX2_leastBelow_10 (tX2_isSplit _ _ _ _ _) ⟨wV_X2_isSplit, wL_X2_isSplit⟩ wM_X2_106 (gCX2 _ _ _ _ _) rfl (A_87 hw) rfl ⟨le_t rfl, le_t rfl⟩ ⟨le_t rfl, le_t rfl⟩ rfl (le_t rfl) fun z5 h4 => ?_
  refine mr_if_ne (pc := 13) (tgt := 26) dX2_leastBelow_13 (by decide) (r32 h4.1 rfl) (fun h6 => ?_) (fun h6 => ?_)
  · have h7 : 1 ≤ z5 ∧ z5 ≤ 1 := (vc_X12_ring_24 h6 h4.1)
    refine sv_aload_n (pc := 26) dX2_leastBelow_26 rfl rfl ?_
    refine mr_iload_n (pc := 27) (z := p1) dX2_leastBelow_27 rfl rfl ?_
    refine mr_iload_n (pc := 28) (z := p2) dX2_leastBelow_28 rfl rfl ?_
    refine mr_iload_n (pc := 29) (z := p3) dX2_leastBelow_29 rfl rfl ?_
    refine mr_iconst (pc := 30) (z := 1) dX2_leastBelow_30 ?_
    refine mr_iadd (pc := 31) (x := p3) (y := 1) dX2_leastBelow_31 ?_
    refine mr_cVI (pc := 32) (c_X2_leastBelow_19 hw hT hp1 hp2 (rAdd (e := 19) (f := 19) hp3 (rR (x := 1)) rfl) (vc_X9_end_1 hq0 hp1)) (gOk _ _ _ _ _) dX2_leastBelow_32 (tX2_leastBelow _ _ _ _ _) ⟨wV_X2_leastBelow, wL_X2_leastBelow⟩ wM_X2_101 (gCX2 _ _ _ _ _) rfl (A_87 hw) rfl ⟨le_t rfl, le_t rfl⟩ ⟨le_t rfl, le_t rfl⟩ rfl (le_t rfl) fun z12 μ8 T9 F10 h11 => ?_
    refine mr_istore (pc := 35) (lv' := [(4, iv z12), (0, .ref 87), (1, iv p1), (2, iv p2), (3, iv p3)]) dX2_leastBelow_35 (by decide) rfl ?_
    refine sv_aload_n (pc := 37) dX2_leastBelow_37 rfl rfl ?_
    refine mr_iload_n (pc := 38) (z := p1) dX2_leastBelow_38 rfl rfl ?_
    refine mr_iload_n (pc := 39) (z := p2) dX2_leastBelow_39 rfl rfl ?_
    refine mr_iconst (pc := 40) (z := 1) dX2_leastBelow_40 ?_
    refine mr_bipush (pc := 41) (z := 31) dX2_leastBelow_41 (by decide) ?_
    refine mr_iload_n (pc := 43) (z := p3) dX2_leastBelow_43 rfl rfl ?_
    refine mr_isub (pc := 44) (x := 31) (y := p3) dX2_leastBelow_44 ?_
    refine mr_ishl (pc := 45) (x := 1) (y := (31 - p3)) dX2_leastBelow_45 ?_
    refine mr_gen (P := fun z => (-2147483648) ≤ z ∧ z ≤ 2147483647) (r32i _) fun z13 q14 h15 => ?_
    refine mr_ior (pc := 46) (x := p2) (y := z13) dX2_leastBelow_46 ?_
    refine mr_gen (P := fun z => (-2147483648) ≤ z ∧ z ≤ 2147483647) (r32i _) fun z16 q17 h18 => ?_
    refine mr_iload_n (pc := 47) (z := p3) dX2_leastBelow_47 rfl rfl ?_
    refine mr_iconst (pc := 48) (z := 1) dX2_leastBelow_48 ?_
    refine mr_iadd (pc := 49) (x := p3) (y := 1) dX2_leastBelow_49 ?_
    refine mr_cVI (pc := 50) (c_X2_leastBelow_19 hw T9 hp1 h18 (rAdd (e := 19) (f := 19) hp3 (rR (x := 1)) rfl) (vc_X9_end_1 hq0 hp1)) (gOk _ _ _ _ _) dX2_leastBelow_50 (tX2_leastBelow _ _ _ _ _) ⟨wV_X2_leastBelow, wL_X2_leastBelow⟩ wM_X2_101 (gCX2 _ _ _ _ _) rfl (A_87 hw) rfl ⟨le_t rfl, le_t rfl⟩ ⟨le_t rfl, le_t rfl⟩ rfl (le_t rfl) fun z23 μ19 T20 F21 h22 => ?_
    refine mr_istore (pc := 53) (lv' := [(5, iv z23), (4, iv z12), (0, .ref 87), (1, iv p1), (2, iv p2), (3, iv p3)]) dX2_leastBelow_53 (by decide) rfl ?_
    refine mr_iload (pc := 55) (z := z12) dX2_leastBelow_55 rfl ?_
    refine mr_iload (pc := 57) (z := z23) dX2_leastBelow_57 rfl ?_
    refine mr_iand (pc := 59) (x := z12) (y := z23) dX2_leastBelow_59 ?_
    refine mr_gen (P := fun z => (-2147483648) ≤ z ∧ z ≤ 2147483647) (r32i _) fun z24 q25 h26 => ?_
    refine mr_if_eq (pc := 60) (tgt := 69) dX2_leastBelow_60 (by decide) h26 (fun h27 => ?_) (fun h27 => ?_)
    · have h28 : 0 ≤ z24 ∧ z24 ≤ 0 := (vc_X12_mask_1 h27 h26)
      refine sv_aload_n (pc := 69) dX2_leastBelow_69 rfl rfl ?_
      refine sv_dup (pc := 70) dX2_leastBelow_70 rfl ?_
      refine gf_X2_7 (pc := 71) dX2_leastBelow_71 wF_X2_98 (A_87 hw) T20 fun z29 q30 h31 => ?_
      refine mr_iconst (pc := 74) (z := 1) dX2_leastBelow_74 ?_
      refine mr_iadd (pc := 75) (x := z29) (y := 1) dX2_leastBelow_75 ?_
      refine mr_wrap fun z32 h33 => ?_
      refine pf_X2_7 (pc := 76) dX2_leastBelow_76 wF_X2_98 (A_87 hw) T20 h33 fun μ34 u35 T36 => ?_
      refine mr_iload (pc := 79) (z := z12) dX2_leastBelow_79 rfl ?_
      refine mr_iload (pc := 81) (z := z23) dX2_leastBelow_81 rfl ?_
      refine mr_ior (pc := 83) (x := z12) (y := z23) dX2_leastBelow_83 ?_
      refine mr_gen (P := fun z => (-2147483648) ≤ z ∧ z ≤ 2147483647) (r32i _) fun z37 q38 h39 => ?_
      exact mr_iret dX2_leastBelow_84 rfl (le_t rfl) (le_t rfl) T36 (mF.up (mF.call (mF.call mF.refl F10 rfl) F21 rfl) (A_87 hw) u35 rfl) ⟨h39, trivial⟩
    refine mr_iload (pc := 63) (z := z12) dX2_leastBelow_63 rfl ?_
    refine mr_iload (pc := 65) (z := z23) dX2_leastBelow_65 rfl ?_
    refine mr_iand (pc := 67) (x := z12) (y := z23) dX2_leastBelow_67 ?_
    refine mr_gen (P := fun z => (-2147483648) ≤ z ∧ z ≤ 2147483647) (r32i _) fun z40 q41 h42 => ?_
    exact mr_iret dX2_leastBelow_68 rfl (le_t rfl) (le_t rfl) T20 (mF.call (mF.call mF.refl F10 rfl) F21 rfl) ⟨h42, trivial⟩
  have h43 : 0 ≤ z5 ∧ z5 ≤ 0 := (vc_X12_ring_22 h6 h4.1)
  refine sv_aload_n (pc := 16) dX2_leastBelow_16 rfl rfl ?_
  refine mr_iload_n (pc := 17) (z := p1) dX2_leastBelow_17 rfl rfl ?_
  refine mr_iload_n (pc := 18) (z := p2) dX2_leastBelow_18 rfl rfl ?_
  refine mr_cVP (pc := 19) (c_X2_tieFor hw hT hp1 hp2 (vc_X9_end_1 hq0 hp1)) (gOk _ _ _ _ _) dX2_leastBelow_19 (tX2_tieFor _ _ _ _ _) ⟨wV_X2_tieFor, wL_X2_tieFor⟩ wM_X2_60 (gCX2 _ _ _ _ _) rfl (A_87 hw) rfl ⟨le_t rfl, le_t rfl⟩ ⟨le_t rfl, le_t rfl⟩ rfl (le_t rfl) fun z48 h47 => ?_
  refine mr_cSP (pc := 22) (c_X2_aimBit hw hT h47.1) (gOk _ _ _ _ _) dX2_leastBelow_22 (tX2_aimBit _ _ _ _ _) wS_X2_aimBit wM_X2_110 ⟨le_t rfl, le_t rfl⟩ ⟨le_t rfl, le_t rfl⟩ rfl (le_t rfl) fun z53 h52 => ?_
  exact mr_iret dX2_leastBelow_25 rfl (le_t rfl) (le_t rfl) hT mF.refl ⟨h52.1, trivial⟩
theorem vc_X2_leastBelow_17_1 {p3 : Int} (h0 : 32 ≤ p3) (h1 : 17 ≤ p3 ∧ p3 ≤ 17) : False := by omega
set_option maxRecDepth 4000 in
set_option maxHeartbeats 4000000 in
theorem c_X2_leastBelow_17 {l : Launch} {D : va_G} {c : Nat → ClassId} {H0 : Heap} {sa : Nat × Nat × (Nat → Int32)} {w : mW} {μ : mM} (hw : mWF w) (hT : mT w μ) {p1 : Int} (hp1 : 0 ≤ p1 ∧ p1 ≤ 9) {p2 : Int} (hp2 : (-2147483648) ≤ p2 ∧ p2 ≤ 2147483647) {p3 : Int} (hp3 : 17 ≤ p3 ∧ p3 ≤ 17) (hq0 : p1 < w.2.2.2 0) : sC (gG l D c H0 sa) mX2_leastBelow 18 0 0 [.ref 87, iv p1, iv p2, iv p3] (mk w μ) (qI w [87007] μ (fun z μ1 => ((-2147483648) ≤ z ∧ z ≤ 2147483647) ∧ True)) := by
  refine sC.of rfl (by decide) (le_t rfl) ?_
  refine mr_lvE (lv' := [(0, .ref 87), (1, iv p1), (2, iv p2), (3, iv p3)]) rfl ?_
  refine mr_iload_n (pc := 0) (z := p3) dX2_leastBelow_0 rfl rfl ?_
  refine mr_bipush (pc := 1) (z := 32) dX2_leastBelow_1 (by decide) ?_
  refine mr_icmp_ge (pc := 3) (tgt := 16) dX2_leastBelow_3 (by decide) (r32 hp3 rfl) (r32 (rR (x := 32)) rfl) (fun h => ((vc_X2_leastBelow_17_1 h hp3)).elim) (fun _ => ?_)
  refine sv_aload_n (pc := 6) dX2_leastBelow_6 rfl rfl ?_
  refine mr_iload_n (pc := 7) (z := p1) dX2_leastBelow_7 rfl rfl ?_
  refine mr_iload_n (pc := 8) (z := p2) dX2_leastBelow_8 rfl rfl ?_
  refine mr_iload_n (pc := 9) (z := p3) dX2_leastBelow_9 rfl rfl ?_
  refine mr_cVP (pc := 10) (c_X2_isSplit hw hT hp1 hp2 (rW (c := (-2147483648)) (d := 2147483647) hp3 rfl) (vc_X9_end_1 hq0 hp1)) (gOk _ _ _ _ _) dX2_leastBelow_10 (tX2_isSplit _ _ _ _ _) ⟨wV_X2_isSplit, wL_X2_isSplit⟩ wM_X2_106 (gCX2 _ _ _ _ _) rfl (A_87 hw) rfl ⟨le_t rfl, le_t rfl⟩ ⟨le_t rfl, le_t rfl⟩ rfl (le_t rfl) fun z5 h4 => ?_
  refine mr_if_ne (pc := 13) (tgt := 26) dX2_leastBelow_13 (by decide) (r32 h4.1 rfl) (fun h6 => ?_) (fun h6 => ?_)
  · have h7 : 1 ≤ z5 ∧ z5 ≤ 1 := (vc_X12_ring_24 h6 h4.1)
    refine sv_aload_n (pc := 26) dX2_leastBelow_26 rfl rfl ?_
    refine mr_iload_n (pc := 27) (z := p1) dX2_leastBelow_27 rfl rfl ?_
    refine mr_iload_n (pc := 28) (z := p2) dX2_leastBelow_28 rfl rfl ?_
    refine mr_iload_n (pc := 29) (z := p3) dX2_leastBelow_29 rfl rfl ?_
    refine mr_iconst (pc := 30) (z := 1) dX2_leastBelow_30 ?_
    refine mr_iadd (pc := 31) (x := p3) (y := 1) dX2_leastBelow_31 ?_
    refine mr_cVI (pc := 32) (c_X2_leastBelow_18 hw hT hp1 hp2 (rAdd (e := 18) (f := 18) hp3 (rR (x := 1)) rfl) (vc_X9_end_1 hq0 hp1)) (gOk _ _ _ _ _) dX2_leastBelow_32 (tX2_leastBelow _ _ _ _ _) ⟨wV_X2_leastBelow, wL_X2_leastBelow⟩ wM_X2_101 (gCX2 _ _ _ _ _) rfl (A_87 hw) rfl ⟨le_t rfl, le_t rfl⟩ ⟨le_t rfl, le_t rfl⟩ rfl (le_t rfl) fun z12 μ8 T9 F10 h11 => ?_
    refine mr_istore (pc := 35) (lv' := [(4, iv z12), (0, .ref 87), (1, iv p1), (2, iv p2), (3, iv p3)]) dX2_leastBelow_35 (by decide) rfl ?_
    refine sv_aload_n (pc := 37) dX2_leastBelow_37 rfl rfl ?_
    refine mr_iload_n (pc := 38) (z := p1) dX2_leastBelow_38 rfl rfl ?_
    refine mr_iload_n (pc := 39) (z := p2) dX2_leastBelow_39 rfl rfl ?_
    refine mr_iconst (pc := 40) (z := 1) dX2_leastBelow_40 ?_
    refine mr_bipush (pc := 41) (z := 31) dX2_leastBelow_41 (by decide) ?_
    refine mr_iload_n (pc := 43) (z := p3) dX2_leastBelow_43 rfl rfl ?_
    refine mr_isub (pc := 44) (x := 31) (y := p3) dX2_leastBelow_44 ?_
    refine mr_ishl (pc := 45) (x := 1) (y := (31 - p3)) dX2_leastBelow_45 ?_
    refine mr_gen (P := fun z => (-2147483648) ≤ z ∧ z ≤ 2147483647) (r32i _) fun z13 q14 h15 => ?_
    refine mr_ior (pc := 46) (x := p2) (y := z13) dX2_leastBelow_46 ?_
    refine mr_gen (P := fun z => (-2147483648) ≤ z ∧ z ≤ 2147483647) (r32i _) fun z16 q17 h18 => ?_
    refine mr_iload_n (pc := 47) (z := p3) dX2_leastBelow_47 rfl rfl ?_
    refine mr_iconst (pc := 48) (z := 1) dX2_leastBelow_48 ?_
    refine mr_iadd (pc := 49) (x := p3) (y := 1) dX2_leastBelow_49 ?_
    refine mr_cVI (pc := 50) (c_X2_leastBelow_18 hw T9 hp1 h18 (rAdd (e := 18) (f := 18) hp3 (rR (x := 1)) rfl) (vc_X9_end_1 hq0 hp1)) (gOk _ _ _ _ _) dX2_leastBelow_50 (tX2_leastBelow _ _ _ _ _) ⟨wV_X2_leastBelow, wL_X2_leastBelow⟩ wM_X2_101 (gCX2 _ _ _ _ _) rfl (A_87 hw) rfl ⟨le_t rfl, le_t rfl⟩ ⟨le_t rfl, le_t rfl⟩ rfl (le_t rfl) fun z23 μ19 T20 F21 h22 => ?_
    refine mr_istore (pc := 53) (lv' := [(5, iv z23), (4, iv z12), (0, .ref 87), (1, iv p1), (2, iv p2), (3, iv p3)]) dX2_leastBelow_53 (by decide) rfl ?_
    refine mr_iload (pc := 55) (z := z12) dX2_leastBelow_55 rfl ?_
    refine mr_iload (pc := 57) (z := z23) dX2_leastBelow_57 rfl ?_
    refine mr_iand (pc := 59) (x := z12) (y := z23) dX2_leastBelow_59 ?_
    refine mr_gen (P := fun z => (-2147483648) ≤ z ∧ z ≤ 2147483647) (r32i _) fun z24 q25 h26 => ?_
    refine mr_if_eq (pc := 60) (tgt := 69) dX2_leastBelow_60 (by decide) h26 (fun h27 => ?_) (fun h27 => ?_)
    · have h28 : 0 ≤ z24 ∧ z24 ≤ 0 := (vc_X12_mask_1 h27 h26)
      refine sv_aload_n (pc := 69) dX2_leastBelow_69 rfl rfl ?_
      refine sv_dup (pc := 70) dX2_leastBelow_70 rfl ?_
      refine gf_X2_7 (pc := 71) dX2_leastBelow_71 wF_X2_98 (A_87 hw) T20 fun z29 q30 h31 => ?_
      refine mr_iconst (pc := 74) (z := 1) dX2_leastBelow_74 ?_
      refine mr_iadd (pc := 75) (x := z29) (y := 1) dX2_leastBelow_75 ?_
      refine mr_wrap fun z32 h33 => ?_
      refine pf_X2_7 (pc := 76) dX2_leastBelow_76 wF_X2_98 (A_87 hw) T20 h33 fun μ34 u35 T36 => ?_
      refine mr_iload (pc := 79) (z := z12) dX2_leastBelow_79 rfl ?_
      refine mr_iload (pc := 81) (z := z23) dX2_leastBelow_81 rfl ?_
      refine mr_ior (pc := 83) (x := z12) (y := z23) dX2_leastBelow_83 ?_
      refine mr_gen (P := fun z => (-2147483648) ≤ z ∧ z ≤ 2147483647) (r32i _) fun z37 q38 h39 => ?_
      exact mr_iret dX2_leastBelow_84 rfl (le_t rfl) (le_t rfl) T36 (mF.up (mF.call (mF.call mF.refl F10 rfl) F21 rfl) (A_87 hw) u35 rfl) ⟨h39, trivial⟩
    refine mr_iload (pc := 63) (z := z12) dX2_leastBelow_63 rfl ?_
    refine mr_iload (pc := 65) (z := z23) dX2_leastBelow_65 rfl ?_
    refine mr_iand (pc := 67) (x := z12) (y := z23) dX2_leastBelow_67 ?_
    refine mr_gen (P := fun z => (-2147483648) ≤ z ∧ z ≤ 2147483647) (r32i _) fun z40 q41 h42 => ?_
    exact mr_iret dX2_leastBelow_68 rfl (le_t rfl) (le_t rfl) T20 (mF.call (mF.call mF.refl F10 rfl) F21 rfl) ⟨h42, trivial⟩
  have h43 : 0 ≤ z5 ∧ z5 ≤ 0 := (vc_X12_ring_22 h6 h4.1)
  refine sv_aload_n (pc := 16) dX2_leastBelow_16 rfl rfl ?_
  refine mr_iload_n (pc := 17) (z := p1) dX2_leastBelow_17 rfl rfl ?_
  refine mr_iload_n (pc := 18) (z := p2) dX2_leastBelow_18 rfl rfl ?_
  refine mr_cVP (pc := 19) (c_X2_tieFor hw hT hp1 hp2 (vc_X9_end_1 hq0 hp1)) (gOk _ _ _ _ _) dX2_leastBelow_19 (tX2_tieFor _ _ _ _ _) ⟨wV_X2_tieFor, wL_X2_tieFor⟩ wM_X2_60 (gCX2 _ _ _ _ _) rfl (A_87 hw) rfl ⟨le_t rfl, le_t rfl⟩ ⟨le_t rfl, le_t rfl⟩ rfl (le_t rfl) fun z48 h47 => ?_
  refine mr_cSP (pc := 22) (c_X2_aimBit hw hT h47.1) (gOk _ _ _ _ _) dX2_leastBelow_22 (tX2_aimBit _ _ _ _ _) wS_X2_aimBit wM_X2_110 ⟨le_t rfl, le_t rfl⟩ ⟨le_t rfl, le_t rfl⟩ rfl (le_t rfl) fun z53 h52 => ?_
  exact mr_iret dX2_leastBelow_25 rfl (le_t rfl) (le_t rfl) hT mF.refl ⟨h52.1, trivial⟩
theorem vc_X2_leastBelow_16_1 {p3 : Int} (h0 : 32 ≤ p3) (h1 : 16 ≤ p3 ∧ p3 ≤ 16) : False := by omega
set_option maxRecDepth 4000 in
set_option maxHeartbeats 4000000 in
theorem c_X2_leastBelow_16 {l : Launch} {D : va_G} {c : Nat → ClassId} {H0 : Heap} {sa : Nat × Nat × (Nat → Int32)} {w : mW} {μ : mM} (hw : mWF w) (hT : mT w μ) {p1 : Int} (hp1 : 0 ≤ p1 ∧ p1 ≤ 9) {p2 : Int} (hp2 : (-2147483648) ≤ p2 ∧ p2 ≤ 2147483647) {p3 : Int} (hp3 : 16 ≤ p3 ∧ p3 ≤ 16) (hq0 : p1 < w.2.2.2 0) : sC (gG l D c H0 sa) mX2_leastBelow 19 0 0 [.ref 87, iv p1, iv p2, iv p3] (mk w μ) (qI w [87007] μ (fun z μ1 => ((-2147483648) ≤ z ∧ z ≤ 2147483647) ∧ True)) := by
  refine sC.of rfl (by decide) (le_t rfl) ?_
  refine mr_lvE (lv' := [(0, .ref 87), (1, iv p1), (2, iv p2), (3, iv p3)]) rfl ?_
  refine mr_iload_n (pc := 0) (z := p3) dX2_leastBelow_0 rfl rfl ?_
  refine mr_bipush (pc := 1) (z := 32) dX2_leastBelow_1 (by decide) ?_
  refine mr_icmp_ge (pc := 3) (tgt := 16) dX2_leastBelow_3 (by decide) (r32 hp3 rfl) (r32 (rR (x := 32)) rfl) (fun h => ((vc_X2_leastBelow_16_1 h hp3)).elim) (fun _ => ?_)
  refine sv_aload_n (pc := 6) dX2_leastBelow_6 rfl rfl ?_
  refine mr_iload_n (pc := 7) (z := p1) dX2_leastBelow_7 rfl rfl ?_
  refine mr_iload_n (pc := 8) (z := p2) dX2_leastBelow_8 rfl rfl ?_
  refine mr_iload_n (pc := 9) (z := p3) dX2_leastBelow_9 rfl rfl ?_
  refine mr_cVP (pc := 10) (c_X2_isSplit hw hT hp1 hp2 (rW (c := (-2147483648)) (d := 2147483647) hp3 rfl) (vc_X9_end_1 hq0 hp1)) (gOk _ _ _ _ _) dX2_leastBelow_10 (tX2_isSplit _ _ _ _ _) ⟨wV_X2_isSplit, wL_X2_isSplit⟩ wM_X2_106 (gCX2 _ _ _ _ _) rfl (A_87 hw) rfl ⟨le_t rfl, le_t rfl⟩ ⟨le_t rfl, le_t rfl⟩ rfl (le_t rfl) fun z5 h4 => ?_
  refine mr_if_ne (pc := 13) (tgt := 26) dX2_leastBelow_13 (by decide) (r32 h4.1 rfl) (fun h6 => ?_) (fun h6 => ?_)
  · have h7 : 1 ≤ z5 ∧ z5 ≤ 1 := (vc_X12_ring_24 h6 h4.1)
    refine sv_aload_n (pc := 26) dX2_leastBelow_26 rfl rfl ?_
    refine mr_iload_n (pc := 27) (z := p1) dX2_leastBelow_27 rfl rfl ?_
    refine mr_iload_n (pc := 28) (z := p2) dX2_leastBelow_28 rfl rfl ?_
    refine mr_iload_n (pc := 29) (z := p3) dX2_leastBelow_29 rfl rfl ?_
    refine mr_iconst (pc := 30) (z := 1) dX2_leastBelow_30 ?_
    refine mr_iadd (pc := 31) (x := p3) (y := 1) dX2_leastBelow_31 ?_
    refine mr_cVI (pc := 32) (c_X2_leastBelow_17 hw hT hp1 hp2 (rAdd (e := 17) (f := 17) hp3 (rR (x := 1)) rfl) (vc_X9_end_1 hq0 hp1)) (gOk _ _ _ _ _) dX2_leastBelow_32 (tX2_leastBelow _ _ _ _ _) ⟨wV_X2_leastBelow, wL_X2_leastBelow⟩ wM_X2_101 (gCX2 _ _ _ _ _) rfl (A_87 hw) rfl ⟨le_t rfl, le_t rfl⟩ ⟨le_t rfl, le_t rfl⟩ rfl (le_t rfl) fun z12 μ8 T9 F10 h11 => ?_
    refine mr_istore (pc := 35) (lv' := [(4, iv z12), (0, .ref 87), (1, iv p1), (2, iv p2), (3, iv p3)]) dX2_leastBelow_35 (by decide) rfl ?_
    refine sv_aload_n (pc := 37) dX2_leastBelow_37 rfl rfl ?_
    refine mr_iload_n (pc := 38) (z := p1) dX2_leastBelow_38 rfl rfl ?_
    refine mr_iload_n (pc := 39) (z := p2) dX2_leastBelow_39 rfl rfl ?_
    refine mr_iconst (pc := 40) (z := 1) dX2_leastBelow_40 ?_
    refine mr_bipush (pc := 41) (z := 31) dX2_leastBelow_41 (by decide) ?_
    refine mr_iload_n (pc := 43) (z := p3) dX2_leastBelow_43 rfl rfl ?_
    refine mr_isub (pc := 44) (x := 31) (y := p3) dX2_leastBelow_44 ?_
    refine mr_ishl (pc := 45) (x := 1) (y := (31 - p3)) dX2_leastBelow_45 ?_
    refine mr_gen (P := fun z => (-2147483648) ≤ z ∧ z ≤ 2147483647) (r32i _) fun z13 q14 h15 => ?_
    refine mr_ior (pc := 46) (x := p2) (y := z13) dX2_leastBelow_46 ?_
    refine mr_gen (P := fun z => (-2147483648) ≤ z ∧ z ≤ 2147483647) (r32i _) fun z16 q17 h18 => ?_
    refine mr_iload_n (pc := 47) (z := p3) dX2_leastBelow_47 rfl rfl ?_
    refine mr_iconst (pc := 48) (z := 1) dX2_leastBelow_48 ?_
    refine mr_iadd (pc := 49) (x := p3) (y := 1) dX2_leastBelow_49 ?_
    refine mr_cVI (pc := 50) (c_X2_leastBelow_17 hw T9 hp1 h18 (rAdd (e := 17) (f := 17) hp3 (rR (x := 1)) rfl) (vc_X9_end_1 hq0 hp1)) (gOk _ _ _ _ _) dX2_leastBelow_50 (tX2_leastBelow _ _ _ _ _) ⟨wV_X2_leastBelow, wL_X2_leastBelow⟩ wM_X2_101 (gCX2 _ _ _ _ _) rfl (A_87 hw) rfl ⟨le_t rfl, le_t rfl⟩ ⟨le_t rfl, le_t rfl⟩ rfl (le_t rfl) fun z23 μ19 T20 F21 h22 => ?_
    refine mr_istore (pc := 53) (lv' := [(5, iv z23), (4, iv z12), (0, .ref 87), (1, iv p1), (2, iv p2), (3, iv p3)]) dX2_leastBelow_53 (by decide) rfl ?_
    refine mr_iload (pc := 55) (z := z12) dX2_leastBelow_55 rfl ?_
    refine mr_iload (pc := 57) (z := z23) dX2_leastBelow_57 rfl ?_
    refine mr_iand (pc := 59) (x := z12) (y := z23) dX2_leastBelow_59 ?_
    refine mr_gen (P := fun z => (-2147483648) ≤ z ∧ z ≤ 2147483647) (r32i _) fun z24 q25 h26 => ?_
    refine mr_if_eq (pc := 60) (tgt := 69) dX2_leastBelow_60 (by decide) h26 (fun h27 => ?_) (fun h27 => ?_)
    · have h28 : 0 ≤ z24 ∧ z24 ≤ 0 := (vc_X12_mask_1 h27 h26)
      refine sv_aload_n (pc := 69) dX2_leastBelow_69 rfl rfl ?_
      refine sv_dup (pc := 70) dX2_leastBelow_70 rfl ?_
      refine gf_X2_7 (pc := 71) dX2_leastBelow_71 wF_X2_98 (A_87 hw) T20 fun z29 q30 h31 => ?_
      refine mr_iconst (pc := 74) (z := 1) dX2_leastBelow_74 ?_
      refine mr_iadd (pc := 75) (x := z29) (y := 1) dX2_leastBelow_75 ?_
      refine mr_wrap fun z32 h33 => ?_
      refine pf_X2_7 (pc := 76) dX2_leastBelow_76 wF_X2_98 (A_87 hw) T20 h33 fun μ34 u35 T36 => ?_
      refine mr_iload (pc := 79) (z := z12) dX2_leastBelow_79 rfl ?_
      refine mr_iload (pc := 81) (z := z23) dX2_leastBelow_81 rfl ?_
      refine mr_ior (pc := 83) (x := z12) (y := z23) dX2_leastBelow_83 ?_
      refine mr_gen (P := fun z => (-2147483648) ≤ z ∧ z ≤ 2147483647) (r32i _) fun z37 q38 h39 => ?_
      exact mr_iret dX2_leastBelow_84 rfl (le_t rfl) (le_t rfl) T36 (mF.up (mF.call (mF.call mF.refl F10 rfl) F21 rfl) (A_87 hw) u35 rfl) ⟨h39, trivial⟩
    refine mr_iload (pc := 63) (z := z12) dX2_leastBelow_63 rfl ?_
    refine mr_iload (pc := 65) (z := z23) dX2_leastBelow_65 rfl ?_
    refine mr_iand (pc := 67) (x := z12) (y := z23) dX2_leastBelow_67 ?_
    refine mr_gen (P := fun z => (-2147483648) ≤ z ∧ z ≤ 2147483647) (r32i _) fun z40 q41 h42 => ?_
    exact mr_iret dX2_leastBelow_68 rfl (le_t rfl) (le_t rfl) T20 (mF.call (mF.call mF.refl F10 rfl) F21 rfl) ⟨h42, trivial⟩
  have h43 : 0 ≤ z5 ∧ z5 ≤ 0 := (vc_X12_ring_22 h6 h4.1)
  refine sv_aload_n (pc := 16) dX2_leastBelow_16 rfl rfl ?_
  refine mr_iload_n (pc := 17) (z := p1) dX2_leastBelow_17 rfl rfl ?_
  refine mr_iload_n (pc := 18) (z := p2) dX2_leastBelow_18 rfl rfl ?_
  refine mr_cVP (pc := 19) (c_X2_tieFor hw hT hp1 hp2 (vc_X9_end_1 hq0 hp1)) (gOk _ _ _ _ _) dX2_leastBelow_19 (tX2_tieFor _ _ _ _ _) ⟨wV_X2_tieFor, wL_X2_tieFor⟩ wM_X2_60 (gCX2 _ _ _ _ _) rfl (A_87 hw) rfl ⟨le_t rfl, le_t rfl⟩ ⟨le_t rfl, le_t rfl⟩ rfl (le_t rfl) fun z48 h47 => ?_
  refine mr_cSP (pc := 22) (c_X2_aimBit hw hT h47.1) (gOk _ _ _ _ _) dX2_leastBelow_22 (tX2_aimBit _ _ _ _ _) wS_X2_aimBit wM_X2_110 ⟨le_t rfl, le_t rfl⟩ ⟨le_t rfl, le_t rfl⟩ rfl (le_t rfl) fun z53 h52 => ?_
  exact mr_iret dX2_leastBelow_25 rfl (le_t rfl) (le_t rfl) hT mF.refl ⟨h52.1, trivial⟩
theorem vc_X2_leastBelow_15_1 {p3 : Int} (h0 : 32 ≤ p3) (h1 : 15 ≤ p3 ∧ p3 ≤ 15) : False := by omega
set_option maxRecDepth 4000 in
set_option maxHeartbeats 4000000 in
theorem c_X2_leastBelow_15 {l : Launch} {D : va_G} {c : Nat → ClassId} {H0 : Heap} {sa : Nat × Nat × (Nat → Int32)} {w : mW} {μ : mM} (hw : mWF w) (hT : mT w μ) {p1 : Int} (hp1 : 0 ≤ p1 ∧ p1 ≤ 9) {p2 : Int} (hp2 : (-2147483648) ≤ p2 ∧ p2 ≤ 2147483647) {p3 : Int} (hp3 : 15 ≤ p3 ∧ p3 ≤ 15) (hq0 : p1 < w.2.2.2 0) : sC (gG l D c H0 sa) mX2_leastBelow 20 0 0 [.ref 87, iv p1, iv p2, iv p3] (mk w μ) (qI w [87007] μ (fun z μ1 => ((-2147483648) ≤ z ∧ z ≤ 2147483647) ∧ True)) := by
  refine sC.of rfl (by decide) (le_t rfl) ?_
  refine mr_lvE (lv' := [(0, .ref 87), (1, iv p1), (2, iv p2), (3, iv p3)]) rfl ?_
  refine mr_iload_n (pc := 0) (z := p3) dX2_leastBelow_0 rfl rfl ?_
  refine mr_bipush (pc := 1) (z := 32) dX2_leastBelow_1 (by decide) ?_
  refine mr_icmp_ge (pc := 3) (tgt := 16) dX2_leastBelow_3 (by decide) (r32 hp3 rfl) (r32 (rR (x := 32)) rfl) (fun h => ((vc_X2_leastBelow_15_1 h hp3)).elim) (fun _ => ?_)
  refine sv_aload_n (pc := 6) dX2_leastBelow_6 rfl rfl ?_
  refine mr_iload_n (pc := 7) (z := p1) dX2_leastBelow_7 rfl rfl ?_
  refine mr_iload_n (pc := 8) (z := p2) dX2_leastBelow_8 rfl rfl ?_
  refine mr_iload_n (pc := 9) (z := p3) dX2_leastBelow_9 rfl rfl ?_
  refine mr_cVP (pc := 10) (c_X2_isSplit hw hT hp1 hp2 (rW (c := (-2147483648)) (d := 2147483647) hp3 rfl) (vc_X9_end_1 hq0 hp1)) (gOk _ _ _ _ _) dX2_leastBelow_10 (tX2_isSplit _ _ _ _ _) ⟨wV_X2_isSplit, wL_X2_isSplit⟩ wM_X2_106 (gCX2 _ _ _ _ _) rfl (A_87 hw) rfl ⟨le_t rfl, le_t rfl⟩ ⟨le_t rfl, le_t rfl⟩ rfl (le_t rfl) fun z5 h4 => ?_
  refine mr_if_ne (pc := 13) (tgt := 26) dX2_leastBelow_13 (by decide) (r32 h4.1 rfl) (fun h6 => ?_) (fun h6 => ?_)
  · have h7 : 1 ≤ z5 ∧ z5 ≤ 1 := (vc_X12_ring_24 h6 h4.1)
    refine sv_aload_n (pc := 26) dX2_leastBelow_26 rfl rfl ?_
    refine mr_iload_n (pc := 27) (z := p1) dX2_leastBelow_27 rfl rfl ?_
    refine mr_iload_n (pc := 28) (z := p2) dX2_leastBelow_28 rfl rfl ?_
    refine mr_iload_n (pc := 29) (z := p3) dX2_leastBelow_29 rfl rfl ?_
    refine mr_iconst (pc := 30) (z := 1) dX2_leastBelow_30 ?_
    refine mr_iadd (pc := 31) (x := p3) (y := 1) dX2_leastBelow_31 ?_
    refine mr_cVI (pc := 32) (c_X2_leastBelow_16 hw hT hp1 hp2 (rAdd (e := 16) (f := 16) hp3 (rR (x := 1)) rfl) (vc_X9_end_1 hq0 hp1)) (gOk _ _ _ _ _) dX2_leastBelow_32 (tX2_leastBelow _ _ _ _ _) ⟨wV_X2_leastBelow, wL_X2_leastBelow⟩ wM_X2_101 (gCX2 _ _ _ _ _) rfl (A_87 hw) rfl ⟨le_t rfl, le_t rfl⟩ ⟨le_t rfl, le_t rfl⟩ rfl (le_t rfl) fun z12 μ8 T9 F10 h11 => ?_
    refine mr_istore (pc := 35) (lv' := [(4, iv z12), (0, .ref 87), (1, iv p1), (2, iv p2), (3, iv p3)]) dX2_leastBelow_35 (by decide) rfl ?_
    refine sv_aload_n (pc := 37) dX2_leastBelow_37 rfl rfl ?_
    refine mr_iload_n (pc := 38) (z := p1) dX2_leastBelow_38 rfl rfl ?_
    refine mr_iload_n (pc := 39) (z := p2) dX2_leastBelow_39 rfl rfl ?_
    refine mr_iconst (pc := 40) (z := 1) dX2_leastBelow_40 ?_
    refine mr_bipush (pc := 41) (z := 31) dX2_leastBelow_41 (by decide) ?_
    refine mr_iload_n (pc := 43) (z := p3) dX2_leastBelow_43 rfl rfl ?_
    refine mr_isub (pc := 44) (x := 31) (y := p3) dX2_leastBelow_44 ?_
    refine mr_ishl (pc := 45) (x := 1) (y := (31 - p3)) dX2_leastBelow_45 ?_
    refine mr_gen (P := fun z => (-2147483648) ≤ z ∧ z ≤ 2147483647) (r32i _) fun z13 q14 h15 => ?_
    refine mr_ior (pc := 46) (x := p2) (y := z13) dX2_leastBelow_46 ?_
    refine mr_gen (P := fun z => (-2147483648) ≤ z ∧ z ≤ 2147483647) (r32i _) fun z16 q17 h18 => ?_
    refine mr_iload_n (pc := 47) (z := p3) dX2_leastBelow_47 rfl rfl ?_
    refine mr_iconst (pc := 48) (z := 1) dX2_leastBelow_48 ?_
    refine mr_iadd (pc := 49) (x := p3) (y := 1) dX2_leastBelow_49 ?_
    refine mr_cVI (pc := 50) (c_X2_leastBelow_16 hw T9 hp1 h18 (rAdd (e := 16) (f := 16) hp3 (rR (x := 1)) rfl) (vc_X9_end_1 hq0 hp1)) (gOk _ _ _ _ _) dX2_leastBelow_50 (tX2_leastBelow _ _ _ _ _) ⟨wV_X2_leastBelow, wL_X2_leastBelow⟩ wM_X2_101 (gCX2 _ _ _ _ _) rfl (A_87 hw) rfl ⟨le_t rfl, le_t rfl⟩ ⟨le_t rfl, le_t rfl⟩ rfl (le_t rfl) fun z23 μ19 T20 F21 h22 => ?_
    refine mr_istore (pc := 53) (lv' := [(5, iv z23), (4, iv z12), (0, .ref 87), (1, iv p1), (2, iv p2), (3, iv p3)]) dX2_leastBelow_53 (by decide) rfl ?_
    refine mr_iload (pc := 55) (z := z12) dX2_leastBelow_55 rfl ?_
    refine mr_iload (pc := 57) (z := z23) dX2_leastBelow_57 rfl ?_
    refine mr_iand (pc := 59) (x := z12) (y := z23) dX2_leastBelow_59 ?_
    refine mr_gen (P := fun z => (-2147483648) ≤ z ∧ z ≤ 2147483647) (r32i _) fun z24 q25 h26 => ?_
    refine mr_if_eq (pc := 60) (tgt := 69) dX2_leastBelow_60 (by decide) h26 (fun h27 => ?_) (fun h27 => ?_)
    · have h28 : 0 ≤ z24 ∧ z24 ≤ 0 := (vc_X12_mask_1 h27 h26)
      refine sv_aload_n (pc := 69) dX2_leastBelow_69 rfl rfl ?_
      refine sv_dup (pc := 70) dX2_leastBelow_70 rfl ?_
      refine gf_X2_7 (pc := 71) dX2_leastBelow_71 wF_X2_98 (A_87 hw) T20 fun z29 q30 h31 => ?_
      refine mr_iconst (pc := 74) (z := 1) dX2_leastBelow_74 ?_
      refine mr_iadd (pc := 75) (x := z29) (y := 1) dX2_leastBelow_75 ?_
      refine mr_wrap fun z32 h33 => ?_
      refine pf_X2_7 (pc := 76) dX2_leastBelow_76 wF_X2_98 (A_87 hw) T20 h33 fun μ34 u35 T36 => ?_
      refine mr_iload (pc := 79) (z := z12) dX2_leastBelow_79 rfl ?_
      refine mr_iload (pc := 81) (z := z23) dX2_leastBelow_81 rfl ?_
      refine mr_ior (pc := 83) (x := z12) (y := z23) dX2_leastBelow_83 ?_
      refine mr_gen (P := fun z => (-2147483648) ≤ z ∧ z ≤ 2147483647) (r32i _) fun z37 q38 h39 => ?_
      exact mr_iret dX2_leastBelow_84 rfl (le_t rfl) (le_t rfl) T36 (mF.up (mF.call (mF.call mF.refl F10 rfl) F21 rfl) (A_87 hw) u35 rfl) ⟨h39, trivial⟩
    refine mr_iload (pc := 63) (z := z12) dX2_leastBelow_63 rfl ?_
    refine mr_iload (pc := 65) (z := z23) dX2_leastBelow_65 rfl ?_
    refine mr_iand (pc := 67) (x := z12) (y := z23) dX2_leastBelow_67 ?_
    refine mr_gen (P := fun z => (-2147483648) ≤ z ∧ z ≤ 2147483647) (r32i _) fun z40 q41 h42 => ?_
    exact mr_iret dX2_leastBelow_68 rfl (le_t rfl) (le_t rfl) T20 (mF.call (mF.call mF.refl F10 rfl) F21 rfl) ⟨h42, trivial⟩
  have h43 : 0 ≤ z5 ∧ z5 ≤ 0 := (vc_X12_ring_22 h6 h4.1)
  refine sv_aload_n (pc := 16) dX2_leastBelow_16 rfl rfl ?_
  refine mr_iload_n (pc := 17) (z := p1) dX2_leastBelow_17 rfl rfl ?_
  refine mr_iload_n (pc := 18) (z := p2) dX2_leastBelow_18 rfl rfl ?_
  refine mr_cVP (pc := 19) (c_X2_tieFor hw hT hp1 hp2 (vc_X9_end_1 hq0 hp1)) (gOk _ _ _ _ _) dX2_leastBelow_19 (tX2_tieFor _ _ _ _ _) ⟨wV_X2_tieFor, wL_X2_tieFor⟩ wM_X2_60 (gCX2 _ _ _ _ _) rfl (A_87 hw) rfl ⟨le_t rfl, le_t rfl⟩ ⟨le_t rfl, le_t rfl⟩ rfl (le_t rfl) fun z48 h47 => ?_
  refine mr_cSP (pc := 22) (c_X2_aimBit hw hT h47.1) (gOk _ _ _ _ _) dX2_leastBelow_22 (tX2_aimBit _ _ _ _ _) wS_X2_aimBit wM_X2_110 ⟨le_t rfl, le_t rfl⟩ ⟨le_t rfl, le_t rfl⟩ rfl (le_t rfl) fun z53 h52 => ?_
  exact mr_iret dX2_leastBelow_25 rfl (le_t rfl) (le_t rfl) hT mF.refl ⟨h52.1, trivial⟩
theorem vc_X2_leastBelow_14_1 {p3 : Int} (h0 : 32 ≤ p3) (h1 : 14 ≤ p3 ∧ p3 ≤ 14) : False := by omega
set_option maxRecDepth 4000 in
set_option maxHeartbeats 4000000 in
theorem c_X2_leastBelow_14 {l : Launch} {D : va_G} {c : Nat → ClassId} {H0 : Heap} {sa : Nat × Nat × (Nat → Int32)} {w : mW} {μ : mM} (hw : mWF w) (hT : mT w μ) {p1 : Int} (hp1 : 0 ≤ p1 ∧ p1 ≤ 9) {p2 : Int} (hp2 : (-2147483648) ≤ p2 ∧ p2 ≤ 2147483647) {p3 : Int} (hp3 : 14 ≤ p3 ∧ p3 ≤ 14) (hq0 : p1 < w.2.2.2 0) : sC (gG l D c H0 sa) mX2_leastBelow 21 0 0 [.ref 87, iv p1, iv p2, iv p3] (mk w μ) (qI w [87007] μ (fun z μ1 => ((-2147483648) ≤ z ∧ z ≤ 2147483647) ∧ True)) := by
  refine sC.of rfl (by decide) (le_t rfl) ?_
  refine mr_lvE (lv' := [(0, .ref 87), (1, iv p1), (2, iv p2), (3, iv p3)]) rfl ?_
  refine mr_iload_n (pc := 0) (z := p3) dX2_leastBelow_0 rfl rfl ?_
  refine mr_bipush (pc := 1) (z := 32) dX2_leastBelow_1 (by decide) ?_
  refine mr_icmp_ge (pc := 3) (tgt := 16) dX2_leastBelow_3 (by decide) (r32 hp3 rfl) (r32 (rR (x := 32)) rfl) (fun h => ((vc_X2_leastBelow_14_1 h hp3)).elim) (fun _ => ?_)
  refine sv_aload_n (pc := 6) dX2_leastBelow_6 rfl rfl ?_
  refine mr_iload_n (pc := 7) (z := p1) dX2_leastBelow_7 rfl rfl ?_
  refine mr_iload_n (pc := 8) (z := p2) dX2_leastBelow_8 rfl rfl ?_
  refine mr_iload_n (pc := 9) (z := p3) dX2_leastBelow_9 rfl rfl ?_
  refine mr_cVP (pc := 10) (c_X2_isSplit hw hT hp1 hp2 (rW (c := (-2147483648)) (d := 2147483647) hp3 rfl) (vc_X9_end_1 hq0 hp1)) (gOk _ _ _ _ _) dX2_leastBelow_10 (tX2_isSplit _ _ _ _ _) ⟨wV_X2_isSplit, wL_X2_isSplit⟩ wM_X2_106 (gCX2 _ _ _ _ _) rfl (A_87 hw) rfl ⟨le_t rfl, le_t rfl⟩ ⟨le_t rfl, le_t rfl⟩ rfl (le_t rfl) fun z5 h4 => ?_
  refine mr_if_ne (pc := 13) (tgt := 26) dX2_leastBelow_13 (by decide) (r32 h4.1 rfl) (fun h6 => ?_) (fun h6 => ?_)
  · have h7 : 1 ≤ z5 ∧ z5 ≤ 1 := (vc_X12_ring_24 h6 h4.1)
    refine sv_aload_n (pc := 26) dX2_leastBelow_26 rfl rfl ?_
    refine mr_iload_n (pc := 27) (z := p1) dX2_leastBelow_27 rfl rfl ?_
    refine mr_iload_n (pc := 28) (z := p2) dX2_leastBelow_28 rfl rfl ?_
    refine mr_iload_n (pc := 29) (z := p3) dX2_leastBelow_29 rfl rfl ?_
    refine mr_iconst (pc := 30) (z := 1) dX2_leastBelow_30 ?_
    refine mr_iadd (pc := 31) (x := p3) (y := 1) dX2_leastBelow_31 ?_
    refine mr_cVI (pc := 32) (c_X2_leastBelow_15 hw hT hp1 hp2 (rAdd (e := 15) (f := 15) hp3 (rR (x := 1)) rfl) (vc_X9_end_1 hq0 hp1)) (gOk _ _ _ _ _) dX2_leastBelow_32 (tX2_leastBelow _ _ _ _ _) ⟨wV_X2_leastBelow, wL_X2_leastBelow⟩ wM_X2_101 (gCX2 _ _ _ _ _) rfl (A_87 hw) rfl ⟨le_t rfl, le_t rfl⟩ ⟨le_t rfl, le_t rfl⟩ rfl (le_t rfl) fun z12 μ8 T9 F10 h11 => ?_
    refine mr_istore (pc := 35) (lv' := [(4, iv z12), (0, .ref 87), (1, iv p1), (2, iv p2), (3, iv p3)]) dX2_leastBelow_35 (by decide) rfl ?_
    refine sv_aload_n (pc := 37) dX2_leastBelow_37 rfl rfl ?_
    refine mr_iload_n (pc := 38) (z := p1) dX2_leastBelow_38 rfl rfl ?_
    refine mr_iload_n (pc := 39) (z := p2) dX2_leastBelow_39 rfl rfl ?_
    refine mr_iconst (pc := 40) (z := 1) dX2_leastBelow_40 ?_
    refine mr_bipush (pc := 41) (z := 31) dX2_leastBelow_41 (by decide) ?_
    refine mr_iload_n (pc := 43) (z := p3) dX2_leastBelow_43 rfl rfl ?_
    refine mr_isub (pc := 44) (x := 31) (y := p3) dX2_leastBelow_44 ?_
    refine mr_ishl (pc := 45) (x := 1) (y := (31 - p3)) dX2_leastBelow_45 ?_
    refine mr_gen (P := fun z => (-2147483648) ≤ z ∧ z ≤ 2147483647) (r32i _) fun z13 q14 h15 => ?_
    refine mr_ior (pc := 46) (x := p2) (y := z13) dX2_leastBelow_46 ?_
    refine mr_gen (P := fun z => (-2147483648) ≤ z ∧ z ≤ 2147483647) (r32i _) fun z16 q17 h18 => ?_
    refine mr_iload_n (pc := 47) (z := p3) dX2_leastBelow_47 rfl rfl ?_
    refine mr_iconst (pc := 48) (z := 1) dX2_leastBelow_48 ?_
    refine mr_iadd (pc := 49) (x := p3) (y := 1) dX2_leastBelow_49 ?_
    refine mr_cVI (pc := 50) (c_X2_leastBelow_15 hw T9 hp1 h18 (rAdd (e := 15) (f := 15) hp3 (rR (x := 1)) rfl) (vc_X9_end_1 hq0 hp1)) (gOk _ _ _ _ _) dX2_leastBelow_50 (tX2_leastBelow _ _ _ _ _) ⟨wV_X2_leastBelow, wL_X2_leastBelow⟩ wM_X2_101 (gCX2 _ _ _ _ _) rfl (A_87 hw) rfl ⟨le_t rfl, le_t rfl⟩ ⟨le_t rfl, le_t rfl⟩ rfl (le_t rfl) fun z23 μ19 T20 F21 h22 => ?_
    refine mr_istore (pc := 53) (lv' := [(5, iv z23), (4, iv z12), (0, .ref 87), (1, iv p1), (2, iv p2), (3, iv p3)]) dX2_leastBelow_53 (by decide) rfl ?_
    refine mr_iload (pc := 55) (z := z12) dX2_leastBelow_55 rfl ?_
    refine mr_iload (pc := 57) (z := z23) dX2_leastBelow_57 rfl ?_
    refine mr_iand (pc := 59) (x := z12) (y := z23) dX2_leastBelow_59 ?_
    refine mr_gen (P := fun z => (-2147483648) ≤ z ∧ z ≤ 2147483647) (r32i _) fun z24 q25 h26 => ?_
    refine mr_if_eq (pc := 60) (tgt := 69) dX2_leastBelow_60 (by decide) h26 (fun h27 => ?_) (fun h27 => ?_)
    · have h28 : 0 ≤ z24 ∧ z24 ≤ 0 := (vc_X12_mask_1 h27 h26)
      refine sv_aload_n (pc := 69) dX2_leastBelow_69 rfl rfl ?_
      refine sv_dup (pc := 70) dX2_leastBelow_70 rfl ?_
      refine gf_X2_7 (pc := 71) dX2_leastBelow_71 wF_X2_98 (A_87 hw) T20 fun z29 q30 h31 => ?_
      refine mr_iconst (pc := 74) (z := 1) dX2_leastBelow_74 ?_
      refine mr_iadd (pc := 75) (x := z29) (y := 1) dX2_leastBelow_75 ?_
      refine mr_wrap fun z32 h33 => ?_
      refine pf_X2_7 (pc := 76) dX2_leastBelow_76 wF_X2_98 (A_87 hw) T20 h33 fun μ34 u35 T36 => ?_
      refine mr_iload (pc := 79) (z := z12) dX2_leastBelow_79 rfl ?_
      refine mr_iload (pc := 81) (z := z23) dX2_leastBelow_81 rfl ?_
      refine mr_ior (pc := 83) (x := z12) (y := z23) dX2_leastBelow_83 ?_
      refine mr_gen (P := fun z => (-2147483648) ≤ z ∧ z ≤ 2147483647) (r32i _) fun z37 q38 h39 => ?_
      exact mr_iret dX2_leastBelow_84 rfl (le_t rfl) (le_t rfl) T36 (mF.up (mF.call (mF.call mF.refl F10 rfl) F21 rfl) (A_87 hw) u35 rfl) ⟨h39, trivial⟩
    refine mr_iload (pc := 63) (z := z12) dX2_leastBelow_63 rfl ?_
    refine mr_iload (pc := 65) (z := z23) dX2_leastBelow_65 rfl ?_
    refine mr_iand (pc := 67) (x := z12) (y := z23) dX2_leastBelow_67 ?_
    refine mr_gen (P := fun z => (-2147483648) ≤ z ∧ z ≤ 2147483647) (r32i _) fun z40 q41 h42 => ?_
    exact mr_iret dX2_leastBelow_68 rfl (le_t rfl) (le_t rfl) T20 (mF.call (mF.call mF.refl F10 rfl) F21 rfl) ⟨h42, trivial⟩
  have h43 : 0 ≤ z5 ∧ z5 ≤ 0 := (vc_X12_ring_22 h6 h4.1)
  refine sv_aload_n (pc := 16) dX2_leastBelow_16 rfl rfl ?_
  refine mr_iload_n (pc := 17) (z := p1) dX2_leastBelow_17 rfl rfl ?_
  refine mr_iload_n (pc := 18) (z := p2) dX2_leastBelow_18 rfl rfl ?_
  refine mr_cVP (pc := 19) (c_X2_tieFor hw hT hp1 hp2 (vc_X9_end_1 hq0 hp1)) (gOk _ _ _ _ _) dX2_leastBelow_19 (tX2_tieFor _ _ _ _ _) ⟨wV_X2_tieFor, wL_X2_tieFor⟩ wM_X2_60 (gCX2 _ _ _ _ _) rfl (A_87 hw) rfl ⟨le_t rfl, le_t rfl⟩ ⟨le_t rfl, le_t rfl⟩ rfl (le_t rfl) fun z48 h47 => ?_
  refine mr_cSP (pc := 22) (c_X2_aimBit hw hT h47.1) (gOk _ _ _ _ _) dX2_leastBelow_22 (tX2_aimBit _ _ _ _ _) wS_X2_aimBit wM_X2_110 ⟨le_t rfl, le_t rfl⟩ ⟨le_t rfl, le_t rfl⟩ rfl (le_t rfl) fun z53 h52 => ?_
  exact mr_iret dX2_leastBelow_25 rfl (le_t rfl) (le_t rfl) hT mF.refl ⟨h52.1, trivial⟩
theorem vc_X2_leastBelow_13_1 {p3 : Int} (h0 : 32 ≤ p3) (h1 : 13 ≤ p3 ∧ p3 ≤ 13) : False := by omega
set_option maxRecDepth 4000 in
set_option maxHeartbeats 4000000 in
theorem c_X2_leastBelow_13 {l : Launch} {D : va_G} {c : Nat → ClassId} {H0 : Heap} {sa : Nat × Nat × (Nat → Int32)} {w : mW} {μ : mM} (hw : mWF w) (hT : mT w μ) {p1 : Int} (hp1 : 0 ≤ p1 ∧ p1 ≤ 9) {p2 : Int} (hp2 : (-2147483648) ≤ p2 ∧ p2 ≤ 2147483647) {p3 : Int} (hp3 : 13 ≤ p3 ∧ p3 ≤ 13) (hq0 : p1 < w.2.2.2 0) : sC (gG l D c H0 sa) mX2_leastBelow 22 0 0 [.ref 87, iv p1, iv p2, iv p3] (mk w μ) (qI w [87007] μ (fun z μ1 => ((-2147483648) ≤ z ∧ z ≤ 2147483647) ∧ True)) := by
  refine sC.of rfl (by decide) (le_t rfl) ?_
  refine mr_lvE (lv' := [(0, .ref 87), (1, iv p1), (2, iv p2), (3, iv p3)]) rfl ?_
  refine mr_iload_n (pc := 0) (z := p3) dX2_leastBelow_0 rfl rfl ?_
  refine mr_bipush (pc := 1) (z := 32) dX2_leastBelow_1 (by decide) ?_
  refine mr_icmp_ge (pc := 3) (tgt := 16) dX2_leastBelow_3 (by decide) (r32 hp3 rfl) (r32 (rR (x := 32)) rfl) (fun h => ((vc_X2_leastBelow_13_1 h hp3)).elim) (fun _ => ?_)
  refine sv_aload_n (pc := 6) dX2_leastBelow_6 rfl rfl ?_
  refine mr_iload_n (pc := 7) (z := p1) dX2_leastBelow_7 rfl rfl ?_
  refine mr_iload_n (pc := 8) (z := p2) dX2_leastBelow_8 rfl rfl ?_
  refine mr_iload_n (pc := 9) (z := p3) dX2_leastBelow_9 rfl rfl ?_
  refine mr_cVP (pc := 10) (c_X2_isSplit hw hT hp1 hp2 (rW (c := (-2147483648)) (d := 2147483647) hp3 rfl) (vc_X9_end_1 hq0 hp1)) (gOk _ _ _ _ _) dX2_leastBelow_10 (tX2_isSplit _ _ _ _ _) ⟨wV_X2_isSplit, wL_X2_isSplit⟩ wM_X2_106 (gCX2 _ _ _ _ _) rfl (A_87 hw) rfl ⟨le_t rfl, le_t rfl⟩ ⟨le_t rfl, le_t rfl⟩ rfl (le_t rfl) fun z5 h4 => ?_
  refine mr_if_ne (pc := 13) (tgt := 26) dX2_leastBelow_13 (by decide) (r32 h4.1 rfl) (fun h6 => ?_) (fun h6 => ?_)
  · have h7 : 1 ≤ z5 ∧ z5 ≤ 1 := (vc_X12_ring_24 h6 h4.1)
    refine sv_aload_n (pc := 26) dX2_leastBelow_26 rfl rfl ?_
    refine mr_iload_n (pc := 27) (z := p1) dX2_leastBelow_27 rfl rfl ?_
    refine mr_iload_n (pc := 28) (z := p2) dX2_leastBelow_28 rfl rfl ?_
    refine mr_iload_n (pc := 29) (z := p3) dX2_leastBelow_29 rfl rfl ?_
    refine mr_iconst (pc := 30) (z := 1) dX2_leastBelow_30 ?_
    refine mr_iadd (pc := 31) (x := p3) (y := 1) dX2_leastBelow_31 ?_
    refine mr_cVI (pc := 32) (c_X2_leastBelow_14 hw hT hp1 hp2 (rAdd (e := 14) (f := 14) hp3 (rR (x := 1)) rfl) (vc_X9_end_1 hq0 hp1)) (gOk _ _ _ _ _) dX2_leastBelow_32 (tX2_leastBelow _ _ _ _ _) ⟨wV_X2_leastBelow, wL_X2_leastBelow⟩ wM_X2_101 (gCX2 _ _ _ _ _) rfl (A_87 hw) rfl ⟨le_t rfl, le_t rfl⟩ ⟨le_t rfl, le_t rfl⟩ rfl (le_t rfl) fun z12 μ8 T9 F10 h11 => ?_
    refine mr_istore (pc := 35) (lv' := [(4, iv z12), (0, .ref 87), (1, iv p1), (2, iv p2), (3, iv p3)]) dX2_leastBelow_35 (by decide) rfl ?_
    refine sv_aload_n (pc := 37) dX2_leastBelow_37 rfl rfl ?_
    refine mr_iload_n (pc := 38) (z := p1) dX2_leastBelow_38 rfl rfl ?_
    refine mr_iload_n (pc := 39) (z := p2) dX2_leastBelow_39 rfl rfl ?_
    refine mr_iconst (pc := 40) (z := 1) dX2_leastBelow_40 ?_
    refine mr_bipush (pc := 41) (z := 31) dX2_leastBelow_41 (by decide) ?_
    refine mr_iload_n (pc := 43) (z := p3) dX2_leastBelow_43 rfl rfl ?_
    refine mr_isub (pc := 44) (x := 31) (y := p3) dX2_leastBelow_44 ?_
    refine mr_ishl (pc := 45) (x := 1) (y := (31 - p3)) dX2_leastBelow_45 ?_
    refine mr_gen (P := fun z => (-2147483648) ≤ z ∧ z ≤ 2147483647) (r32i _) fun z13 q14 h15 => ?_
    refine mr_ior (pc := 46) (x := p2) (y := z13) dX2_leastBelow_46 ?_
    refine mr_gen (P := fun z => (-2147483648) ≤ z ∧ z ≤ 2147483647) (r32i _) fun z16 q17 h18 => ?_
    refine mr_iload_n (pc := 47) (z := p3) dX2_leastBelow_47 rfl rfl ?_
    refine mr_iconst (pc := 48) (z := 1) dX2_leastBelow_48 ?_
    refine mr_iadd (pc := 49) (x := p3) (y := 1) dX2_leastBelow_49 ?_
    refine mr_cVI (pc := 50) (c_X2_leastBelow_14 hw T9 hp1 h18 (rAdd (e := 14) (f := 14) hp3 (rR (x := 1)) rfl) (vc_X9_end_1 hq0 hp1)) (gOk _ _ _ _ _) dX2_leastBelow_50 (tX2_leastBelow _ _ _ _ _) ⟨wV_X2_leastBelow, wL_X2_leastBelow⟩ wM_X2_101 (gCX2 _ _ _ _ _) rfl (A_87 hw) rfl ⟨le_t rfl, le_t rfl⟩ ⟨le_t rfl, le_t rfl⟩ rfl (le_t rfl) fun z23 μ19 T20 F21 h22 => ?_
    refine mr_istore (pc := 53) (lv' := [(5, iv z23), (4, iv z12), (0, .ref 87), (1, iv p1), (2, iv p2), (3, iv p3)]) dX2_leastBelow_53 (by decide) rfl ?_
    refine mr_iload (pc := 55) (z := z12) dX2_leastBelow_55 rfl ?_
    refine mr_iload (pc := 57) (z := z23) dX2_leastBelow_57 rfl ?_
    refine mr_iand (pc := 59) (x := z12) (y := z23) dX2_leastBelow_59 ?_
    refine mr_gen (P := fun z => (-2147483648) ≤ z ∧ z ≤ 2147483647) (r32i _) fun z24 q25 h26 => ?_
    refine mr_if_eq (pc := 60) (tgt := 69) dX2_leastBelow_60 (by decide) h26 (fun h27 => ?_) (fun h27 => ?_)
    · have h28 : 0 ≤ z24 ∧ z24 ≤ 0 := (vc_X12_mask_1 h27 h26)
      refine sv_aload_n (pc := 69) dX2_leastBelow_69 rfl rfl ?_
      refine sv_dup (pc := 70) dX2_leastBelow_70 rfl ?_
      refine gf_X2_7 (pc := 71) dX2_leastBelow_71 wF_X2_98 (A_87 hw) T20 fun z29 q30 h31 => ?_
      refine mr_iconst (pc := 74) (z := 1) dX2_leastBelow_74 ?_
      refine mr_iadd (pc := 75) (x := z29) (y := 1) dX2_leastBelow_75 ?_
      refine mr_wrap fun z32 h33 => ?_
      refine pf_X2_7 (pc := 76) dX2_leastBelow_76 wF_X2_98 (A_87 hw) T20 h33 fun μ34 u35 T36 => ?_
      refine mr_iload (pc := 79) (z := z12) dX2_leastBelow_79 rfl ?_
      refine mr_iload (pc := 81) (z := z23) dX2_leastBelow_81 rfl ?_
      refine mr_ior (pc := 83) (x := z12) (y := z23) dX2_leastBelow_83 ?_
      refine mr_gen (P := fun z => (-2147483648) ≤ z ∧ z ≤ 2147483647) (r32i _) fun z37 q38 h39 => ?_
      exact mr_iret dX2_leastBelow_84 rfl (le_t rfl) (le_t rfl) T36 (mF.up (mF.call (mF.call mF.refl F10 rfl) F21 rfl) (A_87 hw) u35 rfl) ⟨h39, trivial⟩
    refine mr_iload (pc := 63) (z := z12) dX2_leastBelow_63 rfl ?_
    refine mr_iload (pc := 65) (z := z23) dX2_leastBelow_65 rfl ?_
    refine mr_iand (pc := 67) (x := z12) (y := z23) dX2_leastBelow_67 ?_
    refine mr_gen (P := fun z => (-2147483648) ≤ z ∧ z ≤ 2147483647) (r32i _) fun z40 q41 h42 => ?_
    exact mr_iret dX2_leastBelow_68 rfl (le_t rfl) (le_t rfl) T20 (mF.call (mF.call mF.refl F10 rfl) F21 rfl) ⟨h42, trivial⟩
  have h43 : 0 ≤ z5 ∧ z5 ≤ 0 := (vc_X12_ring_22 h6 h4.1)
  refine sv_aload_n (pc := 16) dX2_leastBelow_16 rfl rfl ?_
  refine mr_iload_n (pc := 17) (z := p1) dX2_leastBelow_17 rfl rfl ?_
  refine mr_iload_n (pc := 18) (z := p2) dX2_leastBelow_18 rfl rfl ?_
  refine mr_cVP (pc := 19) (c_X2_tieFor hw hT hp1 hp2 (vc_X9_end_1 hq0 hp1)) (gOk _ _ _ _ _) dX2_leastBelow_19 (tX2_tieFor _ _ _ _ _) ⟨wV_X2_tieFor, wL_X2_tieFor⟩ wM_X2_60 (gCX2 _ _ _ _ _) rfl (A_87 hw) rfl ⟨le_t rfl, le_t rfl⟩ ⟨le_t rfl, le_t rfl⟩ rfl (le_t rfl) fun z48 h47 => ?_
  refine mr_cSP (pc := 22) (c_X2_aimBit hw hT h47.1) (gOk _ _ _ _ _) dX2_leastBelow_22 (tX2_aimBit _ _ _ _ _) wS_X2_aimBit wM_X2_110 ⟨le_t rfl, le_t rfl⟩ ⟨le_t rfl, le_t rfl⟩ rfl (le_t rfl) fun z53 h52 => ?_
  exact mr_iret dX2_leastBelow_25 rfl (le_t rfl) (le_t rfl) hT mF.refl ⟨h52.1, trivial⟩
theorem vc_X2_leastBelow_12_1 {p3 : Int} (h0 : 32 ≤ p3) (h1 : 12 ≤ p3 ∧ p3 ≤ 12) : False := by omega
set_option maxRecDepth 4000 in
set_option maxHeartbeats 4000000 in
theorem c_X2_leastBelow_12 {l : Launch} {D : va_G} {c : Nat → ClassId} {H0 : Heap} {sa : Nat × Nat × (Nat → Int32)} {w : mW} {μ : mM} (hw : mWF w) (hT : mT w μ) {p1 : Int} (hp1 : 0 ≤ p1 ∧ p1 ≤ 9) {p2 : Int} (hp2 : (-2147483648) ≤ p2 ∧ p2 ≤ 2147483647) {p3 : Int} (hp3 : 12 ≤ p3 ∧ p3 ≤ 12) (hq0 : p1 < w.2.2.2 0) : sC (gG l D c H0 sa) mX2_leastBelow 23 0 0 [.ref 87, iv p1, iv p2, iv p3] (mk w μ) (qI w [87007] μ (fun z μ1 => ((-2147483648) ≤ z ∧ z ≤ 2147483647) ∧ True)) := by
  refine sC.of rfl (by decide) (le_t rfl) ?_
  refine mr_lvE (lv' := [(0, .ref 87), (1, iv p1), (2, iv p2), (3, iv p3)]) rfl ?_
  refine mr_iload_n (pc := 0) (z := p3) dX2_leastBelow_0 rfl rfl ?_
  refine mr_bipush (pc := 1) (z := 32) dX2_leastBelow_1 (by decide) ?_
  refine mr_icmp_ge (pc := 3) (tgt := 16) dX2_leastBelow_3 (by decide) (r32 hp3 rfl) (r32 (rR (x := 32)) rfl) (fun h => ((vc_X2_leastBelow_12_1 h hp3)).elim) (fun _ => ?_)
  refine sv_aload_n (pc := 6) dX2_leastBelow_6 rfl rfl ?_
  refine mr_iload_n (pc := 7) (z := p1) dX2_leastBelow_7 rfl rfl ?_
  refine mr_iload_n (pc := 8) (z := p2) dX2_leastBelow_8 rfl rfl ?_
  refine mr_iload_n (pc := 9) (z := p3) dX2_leastBelow_9 rfl rfl ?_
  refine mr_cVP (pc := 10) (c_X2_isSplit hw hT hp1 hp2 (rW (c := (-2147483648)) (d := 2147483647) hp3 rfl) (vc_X9_end_1 hq0 hp1)) (gOk _ _ _ _ _) dX2_leastBelow_10 (tX2_isSplit _ _ _ _ _) ⟨wV_X2_isSplit, wL_X2_isSplit⟩ wM_X2_106 (gCX2 _ _ _ _ _) rfl (A_87 hw) rfl ⟨le_t rfl, le_t rfl⟩ ⟨le_t rfl, le_t rfl⟩ rfl (le_t rfl) fun z5 h4 => ?_
  refine mr_if_ne (pc := 13) (tgt := 26) dX2_leastBelow_13 (by decide) (r32 h4.1 rfl) (fun h6 => ?_) (fun h6 => ?_)
  · have h7 : 1 ≤ z5 ∧ z5 ≤ 1 := (vc_X12_ring_24 h6 h4.1)
    refine sv_aload_n (pc := 26) dX2_leastBelow_26 rfl rfl ?_
    refine mr_iload_n (pc := 27) (z := p1) dX2_leastBelow_27 rfl rfl ?_
    refine mr_iload_n (pc := 28) (z := p2) dX2_leastBelow_28 rfl rfl ?_
    refine mr_iload_n (pc := 29) (z := p3) dX2_leastBelow_29 rfl rfl ?_
    refine mr_iconst (pc := 30) (z := 1) dX2_leastBelow_30 ?_
    refine mr_iadd (pc := 31) (x := p3) (y := 1) dX2_leastBelow_31 ?_
    refine mr_cVI (pc := 32) (c_X2_leastBelow_13 hw hT hp1 hp2 (rAdd (e := 13) (f := 13) hp3 (rR (x := 1)) rfl) (vc_X9_end_1 hq0 hp1)) (gOk _ _ _ _ _) dX2_leastBelow_32 (tX2_leastBelow _ _ _ _ _) ⟨wV_X2_leastBelow, wL_X2_leastBelow⟩ wM_X2_101 (gCX2 _ _ _ _ _) rfl (A_87 hw) rfl ⟨le_t rfl, le_t rfl⟩ ⟨le_t rfl, le_t rfl⟩ rfl (le_t rfl) fun z12 μ8 T9 F10 h11 => ?_
    refine mr_istore (pc := 35) (lv' := [(4, iv z12), (0, .ref 87), (1, iv p1), (2, iv p2), (3, iv p3)]) dX2_leastBelow_35 (by decide) rfl ?_
    refine sv_aload_n (pc := 37) dX2_leastBelow_37 rfl rfl ?_
    refine mr_iload_n (pc := 38) (z := p1) dX2_leastBelow_38 rfl rfl ?_
    refine mr_iload_n (pc := 39) (z := p2) dX2_leastBelow_39 rfl rfl ?_
    refine mr_iconst (pc := 40) (z := 1) dX2_leastBelow_40 ?_
    refine mr_bipush (pc := 41) (z := 31) dX2_leastBelow_41 (by decide) ?_
    refine mr_iload_n (pc := 43) (z := p3) dX2_leastBelow_43 rfl rfl ?_
    refine mr_isub (pc := 44) (x := 31) (y := p3) dX2_leastBelow_44 ?_
    refine mr_ishl (pc := 45) (x := 1) (y := (31 - p3)) dX2_leastBelow_45 ?_
    refine mr_gen (P := fun z => (-2147483648) ≤ z ∧ z ≤ 2147483647) (r32i _) fun z13 q14 h15 => ?_
    refine mr_ior (pc := 46) (x := p2) (y := z13) dX2_leastBelow_46 ?_
    refine mr_gen (P := fun z => (-2147483648) ≤ z ∧ z ≤ 2147483647) (r32i _) fun z16 q17 h18 => ?_
    refine mr_iload_n (pc := 47) (z := p3) dX2_leastBelow_47 rfl rfl ?_
    refine mr_iconst (pc := 48) (z := 1) dX2_leastBelow_48 ?_
    refine mr_iadd (pc := 49) (x := p3) (y := 1) dX2_leastBelow_49 ?_
    refine mr_cVI (pc := 50) (c_X2_leastBelow_13 hw T9 hp1 h18 (rAdd (e := 13) (f := 13) hp3 (rR (x := 1)) rfl) (vc_X9_end_1 hq0 hp1)) (gOk _ _ _ _ _) dX2_leastBelow_50 (tX2_leastBelow _ _ _ _ _) ⟨wV_X2_leastBelow, wL_X2_leastBelow⟩ wM_X2_101 (gCX2 _ _ _ _ _) rfl (A_87 hw) rfl ⟨le_t rfl, le_t rfl⟩ ⟨le_t rfl, le_t rfl⟩ rfl (le_t rfl) fun z23 μ19 T20 F21 h22 => ?_
    refine mr_istore (pc := 53) (lv' := [(5, iv z23), (4, iv z12), (0, .ref 87), (1, iv p1), (2, iv p2), (3, iv p3)]) dX2_leastBelow_53 (by decide) rfl ?_
    refine mr_iload (pc := 55) (z := z12) dX2_leastBelow_55 rfl ?_
    refine mr_iload (pc := 57) (z := z23) dX2_leastBelow_57 rfl ?_
    refine mr_iand (pc := 59) (x := z12) (y := z23) dX2_leastBelow_59 ?_
    refine mr_gen (P := fun z => (-2147483648) ≤ z ∧ z ≤ 2147483647) (r32i _) fun z24 q25 h26 => ?_
    refine mr_if_eq (pc := 60) (tgt := 69) dX2_leastBelow_60 (by decide) h26 (fun h27 => ?_) (fun h27 => ?_)
    · have h28 : 0 ≤ z24 ∧ z24 ≤ 0 := (vc_X12_mask_1 h27 h26)
      refine sv_aload_n (pc := 69) dX2_leastBelow_69 rfl rfl ?_
      refine sv_dup (pc := 70) dX2_leastBelow_70 rfl ?_
      refine gf_X2_7 (pc := 71) dX2_leastBelow_71 wF_X2_98 (A_87 hw) T20 fun z29 q30 h31 => ?_
      refine mr_iconst (pc := 74) (z := 1) dX2_leastBelow_74 ?_
      refine mr_iadd (pc := 75) (x := z29) (y := 1) dX2_leastBelow_75 ?_
      refine mr_wrap fun z32 h33 => ?_
      refine pf_X2_7 (pc := 76) dX2_leastBelow_76 wF_X2_98 (A_87 hw) T20 h33 fun μ34 u35 T36 => ?_
      refine mr_iload (pc := 79) (z := z12) dX2_leastBelow_79 rfl ?_
      refine mr_iload (pc := 81) (z := z23) dX2_leastBelow_81 rfl ?_
      refine mr_ior (pc := 83) (x := z12) (y := z23) dX2_leastBelow_83 ?_
      refine mr_gen (P := fun z => (-2147483648) ≤ z ∧ z ≤ 2147483647) (r32i _) fun z37 q38 h39 => ?_
      exact mr_iret dX2_leastBelow_84 rfl (le_t rfl) (le_t rfl) T36 (mF.up (mF.call (mF.call mF.refl F10 rfl) F21 rfl) (A_87 hw) u35 rfl) ⟨h39, trivial⟩
    refine mr_iload (pc := 63) (z := z12) dX2_leastBelow_63 rfl ?_
    refine mr_iload (pc := 65) (z := z23) dX2_leastBelow_65 rfl ?_
    refine mr_iand (pc := 67) (x := z12) (y := z23) dX2_leastBelow_67 ?_
    refine mr_gen (P := fun z => (-2147483648) ≤ z ∧ z ≤ 2147483647) (r32i _) fun z40 q41 h42 => ?_
    exact mr_iret dX2_leastBelow_68 rfl (le_t rfl) (le_t rfl) T20 (mF.call (mF.call mF.refl F10 rfl) F21 rfl) ⟨h42, trivial⟩
  have h43 : 0 ≤ z5 ∧ z5 ≤ 0 := (vc_X12_ring_22 h6 h4.1)
  refine sv_aload_n (pc := 16) dX2_leastBelow_16 rfl rfl ?_
  refine mr_iload_n (pc := 17) (z := p1) dX2_leastBelow_17 rfl rfl ?_
  refine mr_iload_n (pc := 18) (z := p2) dX2_leastBelow_18 rfl rfl ?_
  refine mr_cVP (pc := 19) (c_X2_tieFor hw hT hp1 hp2 (vc_X9_end_1 hq0 hp1)) (gOk _ _ _ _ _) dX2_leastBelow_19 (tX2_tieFor _ _ _ _ _) ⟨wV_X2_tieFor, wL_X2_tieFor⟩ wM_X2_60 (gCX2 _ _ _ _ _) rfl (A_87 hw) rfl ⟨le_t rfl, le_t rfl⟩ ⟨le_t rfl, le_t rfl⟩ rfl (le_t rfl) fun z48 h47 => ?_
  refine mr_cSP (pc := 22) (c_X2_aimBit hw hT h47.1) (gOk _ _ _ _ _) dX2_leastBelow_22 (tX2_aimBit _ _ _ _ _) wS_X2_aimBit wM_X2_110 ⟨le_t rfl, le_t rfl⟩ ⟨le_t rfl, le_t rfl⟩ rfl (le_t rfl) fun z53 h52 => ?_
  exact mr_iret dX2_leastBelow_25 rfl (le_t rfl) (le_t rfl) hT mF.refl ⟨h52.1, trivial⟩
theorem vc_X2_leastBelow_11_1 {p3 : Int} (h0 : 32 ≤ p3) (h1 : 11 ≤ p3 ∧ p3 ≤ 11) : False := by omega
set_option maxRecDepth 4000 in
set_option maxHeartbeats 4000000 in
theorem c_X2_leastBelow_11 {l : Launch} {D : va_G} {c : Nat → ClassId} {H0 : Heap} {sa : Nat × Nat × (Nat → Int32)} {w : mW} {μ : mM} (hw : mWF w) (hT : mT w μ) {p1 : Int} (hp1 : 0 ≤ p1 ∧ p1 ≤ 9) {p2 : Int} (hp2 : (-2147483648) ≤ p2 ∧ p2 ≤ 2147483647) {p3 : Int} (hp3 : 11 ≤ p3 ∧ p3 ≤ 11) (hq0 : p1 < w.2.2.2 0) : sC (gG l D c H0 sa) mX2_leastBelow 24 0 0 [.ref 87, iv p1, iv p2, iv p3] (mk w μ) (qI w [87007] μ (fun z μ1 => ((-2147483648) ≤ z ∧ z ≤ 2147483647) ∧ True)) := by
  refine sC.of rfl (by decide) (le_t rfl) ?_
  refine mr_lvE (lv' := [(0, .ref 87), (1, iv p1), (2, iv p2), (3, iv p3)]) rfl ?_
  refine mr_iload_n (pc := 0) (z := p3) dX2_leastBelow_0 rfl rfl ?_
  refine mr_bipush (pc := 1) (z := 32) dX2_leastBelow_1 (by decide) ?_
  refine mr_icmp_ge (pc := 3) (tgt := 16) dX2_leastBelow_3 (by decide) (r32 hp3 rfl) (r32 (rR (x := 32)) rfl) (fun h => ((vc_X2_leastBelow_11_1 h hp3)).elim) (fun _ => ?_)
  refine sv_aload_n (pc := 6) dX2_leastBelow_6 rfl rfl ?_
  refine mr_iload_n (pc := 7) (z := p1) dX2_leastBelow_7 rfl rfl ?_
  refine mr_iload_n (pc := 8) (z := p2) dX2_leastBelow_8 rfl rfl ?_
  refine mr_iload_n (pc := 9) (z := p3) dX2_leastBelow_9 rfl rfl ?_
  refine mr_cVP (pc := 10) (c_X2_isSplit hw hT hp1 hp2 (rW (c := (-2147483648)) (d := 2147483647) hp3 rfl) (vc_X9_end_1 hq0 hp1)) (gOk _ _ _ _ _) dX2_leastBelow_10 (tX2_isSplit _ _ _ _ _) ⟨wV_X2_isSplit, wL_X2_isSplit⟩ wM_X2_106 (gCX2 _ _ _ _ _) rfl (A_87 hw) rfl ⟨le_t rfl, le_t rfl⟩ ⟨le_t rfl, le_t rfl⟩ rfl (le_t rfl) fun z5 h4 => ?_
  refine mr_if_ne (pc := 13) (tgt := 26) dX2_leastBelow_13 (by decide) (r32 h4.1 rfl) (fun h6 => ?_) (fun h6 => ?_)
  · have h7 : 1 ≤ z5 ∧ z5 ≤ 1 := (vc_X12_ring_24 h6 h4.1)
    refine sv_aload_n (pc := 26) dX2_leastBelow_26 rfl rfl ?_
    refine mr_iload_n (pc := 27) (z := p1) dX2_leastBelow_27 rfl rfl ?_
    refine mr_iload_n (pc := 28) (z := p2) dX2_leastBelow_28 rfl rfl ?_
    refine mr_iload_n (pc := 29) (z := p3) dX2_leastBelow_29 rfl rfl ?_
    refine mr_iconst (pc := 30) (z := 1) dX2_leastBelow_30 ?_
    refine mr_iadd (pc := 31) (x := p3) (y := 1) dX2_leastBelow_31 ?_
    refine mr_cVI (pc := 32) (c_X2_leastBelow_12 hw hT hp1 hp2 (rAdd (e := 12) (f := 12) hp3 (rR (x := 1)) rfl) (vc_X9_end_1 hq0 hp1)) (gOk _ _ _ _ _) dX2_leastBelow_32 (tX2_leastBelow _ _ _ _ _) ⟨wV_X2_leastBelow, wL_X2_leastBelow⟩ wM_X2_101 (gCX2 _ _ _ _ _) rfl (A_87 hw) rfl ⟨le_t rfl, le_t rfl⟩ ⟨le_t rfl, le_t rfl⟩ rfl (le_t rfl) fun z12 μ8 T9 F10 h11 => ?_
    refine mr_istore (pc := 35) (lv' := [(4, iv z12), (0, .ref 87), (1, iv p1), (2, iv p2), (3, iv p3)]) dX2_leastBelow_35 (by decide) rfl ?_
    refine sv_aload_n (pc := 37) dX2_leastBelow_37 rfl rfl ?_
    refine mr_iload_n (pc := 38) (z := p1) dX2_leastBelow_38 rfl rfl ?_
    refine mr_iload_n (pc := 39) (z := p2) dX2_leastBelow_39 rfl rfl ?_
    refine mr_iconst (pc := 40) (z := 1) dX2_leastBelow_40 ?_
    refine mr_bipush (pc := 41) (z := 31) dX2_leastBelow_41 (by decide) ?_
    refine mr_iload_n (pc := 43) (z := p3) dX2_leastBelow_43 rfl rfl ?_
    refine mr_isub (pc := 44) (x := 31) (y := p3) dX2_leastBelow_44 ?_
    refine mr_ishl (pc := 45) (x := 1) (y := (31 - p3)) dX2_leastBelow_45 ?_
    refine mr_gen (P := fun z => (-2147483648) ≤ z ∧ z ≤ 2147483647) (r32i _) fun z13 q14 h15 => ?_
    refine mr_ior (pc := 46) (x := p2) (y := z13) dX2_leastBelow_46 ?_
    refine mr_gen (P := fun z => (-2147483648) ≤ z ∧ z ≤ 2147483647) (r32i _) fun z16 q17 h18 => ?_
    refine mr_iload_n (pc := 47) (z := p3) dX2_leastBelow_47 rfl rfl ?_
    refine mr_iconst (pc := 48) (z := 1) dX2_leastBelow_48 ?_
    refine mr_iadd (pc := 49) (x := p3) (y := 1) dX2_leastBelow_49 ?_
    refine mr_cVI (pc := 50) (c_X2_leastBelow_12 hw T9 hp1 h18 (rAdd (e := 12) (f := 12) hp3 (rR (x := 1)) rfl) (vc_X9_end_1 hq0 hp1)) (gOk _ _ _ _ _) dX2_leastBelow_50 (tX2_leastBelow _ _ _ _ _) ⟨wV_X2_leastBelow, wL_X2_leastBelow⟩ wM_X2_101 (gCX2 _ _ _ _ _) rfl (A_87 hw) rfl ⟨le_t rfl, le_t rfl⟩ ⟨le_t rfl, le_t rfl⟩ rfl (le_t rfl) fun z23 μ19 T20 F21 h22 => ?_
    refine mr_istore (pc := 53) (lv' := [(5, iv z23), (4, iv z12), (0, .ref 87), (1, iv p1), (2, iv p2), (3, iv p3)]) dX2_leastBelow_53 (by decide) rfl ?_
    refine mr_iload (pc := 55) (z := z12) dX2_leastBelow_55 rfl ?_
    refine mr_iload (pc := 57) (z := z23) dX2_leastBelow_57 rfl ?_
    refine mr_iand (pc := 59) (x := z12) (y := z23) dX2_leastBelow_59 ?_
    refine mr_gen (P := fun z => (-2147483648) ≤ z ∧ z ≤ 2147483647) (r32i _) fun z24 q25 h26 => ?_
    refine mr_if_eq (pc := 60) (tgt := 69) dX2_leastBelow_60 (by decide) h26 (fun h27 => ?_) (fun h27 => ?_)
    · have h28 : 0 ≤ z24 ∧ z24 ≤ 0 := (vc_X12_mask_1 h27 h26)
      refine sv_aload_n (pc := 69) dX2_leastBelow_69 rfl rfl ?_
      refine sv_dup (pc := 70) dX2_leastBelow_70 rfl ?_
      refine gf_X2_7 (pc := 71) dX2_leastBelow_71 wF_X2_98 (A_87 hw) T20 fun z29 q30 h31 => ?_
      refine mr_iconst (pc := 74) (z := 1) dX2_leastBelow_74 ?_
      refine mr_iadd (pc := 75) (x := z29) (y := 1) dX2_leastBelow_75 ?_
      refine mr_wrap fun z32 h33 => ?_
      refine pf_X2_7 (pc := 76) dX2_leastBelow_76 wF_X2_98 (A_87 hw) T20 h33 fun μ34 u35 T36 => ?_
      refine mr_iload (pc := 79) (z := z12) dX2_leastBelow_79 rfl ?_
      refine mr_iload (pc := 81) (z := z23) dX2_leastBelow_81 rfl ?_
      refine mr_ior (pc := 83) (x := z12) (y := z23) dX2_leastBelow_83 ?_
      refine mr_gen (P := fun z => (-2147483648) ≤ z ∧ z ≤ 2147483647) (r32i _) fun z37 q38 h39 => ?_
      exact mr_iret dX2_leastBelow_84 rfl (le_t rfl) (le_t rfl) T36 (mF.up (mF.call (mF.call mF.refl F10 rfl) F21 rfl) (A_87 hw) u35 rfl) ⟨h39, trivial⟩
    refine mr_iload (pc := 63) (z := z12) dX2_leastBelow_63 rfl ?_
    refine mr_iload (pc := 65) (z := z23) dX2_leastBelow_65 rfl ?_
    refine mr_iand (pc := 67) (x := z12) (y := z23) dX2_leastBelow_67 ?_
    refine mr_gen (P := fun z => (-2147483648) ≤ z ∧ z ≤ 2147483647) (r32i _) fun z40 q41 h42 => ?_
    exact mr_iret dX2_leastBelow_68 rfl (le_t rfl) (le_t rfl) T20 (mF.call (mF.call mF.refl F10 rfl) F21 rfl) ⟨h42, trivial⟩
  have h43 : 0 ≤ z5 ∧ z5 ≤ 0 := (vc_X12_ring_22 h6 h4.1)
  refine sv_aload_n (pc := 16) dX2_leastBelow_16 rfl rfl ?_
  refine mr_iload_n (pc := 17) (z := p1) dX2_leastBelow_17 rfl rfl ?_
  refine mr_iload_n (pc := 18) (z := p2) dX2_leastBelow_18 rfl rfl ?_
  refine mr_cVP (pc := 19) (c_X2_tieFor hw hT hp1 hp2 (vc_X9_end_1 hq0 hp1)) (gOk _ _ _ _ _) dX2_leastBelow_19 (tX2_tieFor _ _ _ _ _) ⟨wV_X2_tieFor, wL_X2_tieFor⟩ wM_X2_60 (gCX2 _ _ _ _ _) rfl (A_87 hw) rfl ⟨le_t rfl, le_t rfl⟩ ⟨le_t rfl, le_t rfl⟩ rfl (le_t rfl) fun z48 h47 => ?_
  refine mr_cSP (pc := 22) (c_X2_aimBit hw hT h47.1) (gOk _ _ _ _ _) dX2_leastBelow_22 (tX2_aimBit _ _ _ _ _) wS_X2_aimBit wM_X2_110 ⟨le_t rfl, le_t rfl⟩ ⟨le_t rfl, le_t rfl⟩ rfl (le_t rfl) fun z53 h52 => ?_
  exact mr_iret dX2_leastBelow_25 rfl (le_t rfl) (le_t rfl) hT mF.refl ⟨h52.1, trivial⟩
theorem vc_X2_leastBelow_10_1 {p3 : Int} (h0 : 32 ≤ p3) (h1 : 10 ≤ p3 ∧ p3 ≤ 10) : False := by omega
set_option maxRecDepth 4000 in
set_option maxHeartbeats 4000000 in
theorem c_X2_leastBelow_10 {l : Launch} {D : va_G} {c : Nat → ClassId} {H0 : Heap} {sa : Nat × Nat × (Nat → Int32)} {w : mW} {μ : mM} (hw : mWF w) (hT : mT w μ) {p1 : Int} (hp1 : 0 ≤ p1 ∧ p1 ≤ 9) {p2 : Int} (hp2 : (-2147483648) ≤ p2 ∧ p2 ≤ 2147483647) {p3 : Int} (hp3 : 10 ≤ p3 ∧ p3 ≤ 10) (hq0 : p1 < w.2.2.2 0) : sC (gG l D c H0 sa) mX2_leastBelow 25 0 0 [.ref 87, iv p1, iv p2, iv p3] (mk w μ) (qI w [87007] μ (fun z μ1 => ((-2147483648) ≤ z ∧ z ≤ 2147483647) ∧ True)) := by
  refine sC.of rfl (by decide) (le_t rfl) ?_
  refine mr_lvE (lv' := [(0, .ref 87), (1, iv p1), (2, iv p2), (3, iv p3)]) rfl ?_
  refine mr_iload_n (pc := 0) (z := p3) dX2_leastBelow_0 rfl rfl ?_
  refine mr_bipush (pc := 1) (z := 32) dX2_leastBelow_1 (by decide) ?_
  refine mr_icmp_ge (pc := 3) (tgt := 16) dX2_leastBelow_3 (by decide) (r32 hp3 rfl) (r32 (rR (x := 32)) rfl) (fun h => ((vc_X2_leastBelow_10_1 h hp3)).elim) (fun _ => ?_)
  refine sv_aload_n (pc := 6) dX2_leastBelow_6 rfl rfl ?_
  refine mr_iload_n (pc := 7) (z := p1) dX2_leastBelow_7 rfl rfl ?_
  refine mr_iload_n (pc := 8) (z := p2) dX2_leastBelow_8 rfl rfl ?_
  refine mr_iload_n (pc := 9) (z := p3) dX2_leastBelow_9 rfl rfl ?_
  refine mr_cVP (pc := 10) (c_X2_isSplit hw hT hp1 hp2 (rW (c := (-2147483648)) (d := 2147483647) hp3 rfl) (vc_X9_end_1 hq0 hp1)) (gOk _ _ _ _ _) dX2_leastBelow_10 (tX2_isSplit _ _ _ _ _) ⟨wV_X2_isSplit, wL_X2_isSplit⟩ wM_X2_106 (gCX2 _ _ _ _ _) rfl (A_87 hw) rfl ⟨le_t rfl, le_t rfl⟩ ⟨le_t rfl, le_t rfl⟩ rfl (le_t rfl) fun z5 h4 => ?_
  refine mr_if_ne (pc := 13) (tgt := 26) dX2_leastBelow_13 (by decide) (r32 h4.1 rfl) (fun h6 => ?_) (fun h6 => ?_)
  · have h7 : 1 ≤ z5 ∧ z5 ≤ 1 := (vc_X12_ring_24 h6 h4.1)
    refine sv_aload_n (pc := 26) dX2_leastBelow_26 rfl rfl ?_
    refine mr_iload_n (pc := 27) (z := p1) dX2_leastBelow_27 rfl rfl ?_
    refine mr_iload_n (pc := 28) (z := p2) dX2_leastBelow_28 rfl rfl ?_
    refine mr_iload_n (pc := 29) (z := p3) dX2_leastBelow_29 rfl rfl ?_
    refine mr_iconst (pc := 30) (z := 1) dX2_leastBelow_30 ?_
    refine mr_iadd (pc := 31) (x := p3) (y := 1) dX2_leastBelow_31 ?_
    refine mr_cVI (pc := 32) (c_X2_leastBelow_11 hw hT hp1 hp2 (rAdd (e := 11) (f := 11) hp3 (rR (x := 1)) rfl) (vc_X9_end_1 hq0 hp1)) (gOk _ _ _ _ _) dX2_leastBelow_32 (tX2_leastBelow _ _ _ _ _) ⟨wV_X2_leastBelow, wL_X2_leastBelow⟩ wM_X2_101 (gCX2 _ _ _ _ _) rfl (A_87 hw) rfl ⟨le_t rfl, le_t rfl⟩ ⟨le_t rfl, le_t rfl⟩ rfl (le_t rfl) fun z12 μ8 T9 F10 h11 => ?_
    refine mr_istore (pc := 35) (lv' := [(4, iv z12), (0, .ref 87), (1, iv p1), (2, iv p2), (3, iv p3)]) dX2_leastBelow_35 (by decide) rfl ?_
    refine sv_aload_n (pc := 37) dX2_leastBelow_37 rfl rfl ?_
    refine mr_iload_n (pc := 38) (z := p1) dX2_leastBelow_38 rfl rfl ?_
    refine mr_iload_n (pc := 39) (z := p2) dX2_leastBelow_39 rfl rfl ?_
    refine mr_iconst (pc := 40) (z := 1) dX2_leastBelow_40 ?_
    refine mr_bipush (pc := 41) (z := 31) dX2_leastBelow_41 (by decide) ?_
    refine mr_iload_n (pc := 43) (z := p3) dX2_leastBelow_43 rfl rfl ?_
    refine mr_isub (pc := 44) (x := 31) (y := p3) dX2_leastBelow_44 ?_
    refine mr_ishl (pc := 45) (x := 1) (y := (31 - p3)) dX2_leastBelow_45 ?_
    refine mr_gen (P := fun z => (-2147483648) ≤ z ∧ z ≤ 2147483647) (r32i _) fun z13 q14 h15 => ?_
    refine mr_ior (pc := 46) (x := p2) (y := z13) dX2_leastBelow_46 ?_
    refine mr_gen (P := fun z => (-2147483648) ≤ z ∧ z ≤ 2147483647) (r32i _) fun z16 q17 h18 => ?_
    refine mr_iload_n (pc := 47) (z := p3) dX2_leastBelow_47 rfl rfl ?_
    refine mr_iconst (pc := 48) (z := 1) dX2_leastBelow_48 ?_
    refine mr_iadd (pc := 49) (x := p3) (y := 1) dX2_leastBelow_49 ?_
    refine mr_cVI (pc := 50) (c_X2_leastBelow_11 hw T9 hp1 h18 (rAdd (e := 11) (f := 11) hp3 (rR (x := 1)) rfl) (vc_X9_end_1 hq0 hp1)) (gOk _ _ _ _ _) dX2_leastBelow_50 (tX2_leastBelow _ _ _ _ _) ⟨wV_X2_leastBelow, wL_X2_leastBelow⟩ wM_X2_101 (gCX2 _ _ _ _ _) rfl (A_87 hw) rfl ⟨le_t rfl, le_t rfl⟩ ⟨le_t rfl, le_t rfl⟩ rfl (le_t rfl) fun z23 μ19 T20 F21 h22 => ?_
    refine mr_istore (pc := 53) (lv' := [(5, iv z23), (4, iv z12), (0, .ref 87), (1, iv p1), (2, iv p2), (3, iv p3)]) dX2_leastBelow_53 (by decide) rfl ?_
    refine mr_iload (pc := 55) (z := z12) dX2_leastBelow_55 rfl ?_
    refine mr_iload (pc := 57) (z := z23) dX2_leastBelow_57 rfl ?_
    refine mr_iand (pc := 59) (x := z12) (y := z23) dX2_leastBelow_59 ?_
    refine mr_gen (P := fun z => (-2147483648) ≤ z ∧ z ≤ 2147483647) (r32i _) fun z24 q25 h26 => ?_
    refine mr_if_eq (pc := 60) (tgt := 69) dX2_leastBelow_60 (by decide) h26 (fun h27 => ?_) (fun h27 => ?_)
    · have h28 : 0 ≤ z24 ∧ z24 ≤ 0 := (vc_X12_mask_1 h27 h26)
      refine sv_aload_n (pc := 69) dX2_leastBelow_69 rfl rfl ?_
      refine sv_dup (pc := 70) dX2_leastBelow_70 rfl ?_
      refine gf_X2_7 (pc := 71) dX2_leastBelow_71 wF_X2_98 (A_87 hw) T20 fun z29 q30 h31 => ?_
      refine mr_iconst (pc := 74) (z := 1) dX2_leastBelow_74 ?_
      refine mr_iadd (pc := 75) (x := z29) (y := 1) dX2_leastBelow_75 ?_
      refine mr_wrap fun z32 h33 => ?_
      refine pf_X2_7 (pc := 76) dX2_leastBelow_76 wF_X2_98 (A_87 hw) T20 h33 fun μ34 u35 T36 => ?_
      refine mr_iload (pc := 79) (z := z12) dX2_leastBelow_79 rfl ?_
      refine mr_iload (pc := 81) (z := z23) dX2_leastBelow_81 rfl ?_
      refine mr_ior (pc := 83) (x := z12) (y := z23) dX2_leastBelow_83 ?_
      refine mr_gen (P := fun z => (-2147483648) ≤ z ∧ z ≤ 2147483647) (r32i _) fun z37 q38 h39 => ?_
      exact mr_iret dX2_leastBelow_84 rfl (le_t rfl) (le_t rfl) T36 (mF.up (mF.call (mF.call mF.refl F10 rfl) F21 rfl) (A_87 hw) u35 rfl) ⟨h39, trivial⟩
    refine mr_iload (pc := 63) (z := z12) dX2_leastBelow_63 rfl ?_
    refine mr_iload (pc := 65) (z := z23) dX2_leastBelow_65 rfl ?_
    refine mr_iand (pc := 67) (x := z12) (y := z23) dX2_leastBelow_67 ?_
    refine mr_gen (P := fun z => (-2147483648) ≤ z ∧ z ≤ 2147483647) (r32i _) fun z40 q41 h42 => ?_
    exact mr_iret dX2_leastBelow_68 rfl (le_t rfl) (le_t rfl) T20 (mF.call (mF.call mF.refl F10 rfl) F21 rfl) ⟨h42, trivial⟩
  have h43 : 0 ≤ z5 ∧ z5 ≤ 0 := (vc_X12_ring_22 h6 h4.1)
  refine sv_aload_n (pc := 16) dX2_leastBelow_16 rfl rfl ?_
  refine mr_iload_n (pc := 17) (z := p1) dX2_leastBelow_17 rfl rfl ?_
  refine mr_iload_n (pc := 18) (z := p2) dX2_leastBelow_18 rfl rfl ?_
  refine mr_cVP (pc := 19) (c_X2_tieFor hw hT hp1 hp2 (vc_X9_end_1 hq0 hp1)) (gOk _ _ _ _ _) dX2_leastBelow_19 (tX2_tieFor _ _ _ _ _) ⟨wV_X2_tieFor, wL_X2_tieFor⟩ wM_X2_60 (gCX2 _ _ _ _ _) rfl (A_87 hw) rfl ⟨le_t rfl, le_t rfl⟩ ⟨le_t rfl, le_t rfl⟩ rfl (le_t rfl) fun z48 h47 => ?_
  refine mr_cSP (pc := 22) (c_X2_aimBit hw hT h47.1) (gOk _ _ _ _ _) dX2_leastBelow_22 (tX2_aimBit _ _ _ _ _) wS_X2_aimBit wM_X2_110 ⟨le_t rfl, le_t rfl⟩ ⟨le_t rfl, le_t rfl⟩ rfl (le_t rfl) fun z53 h52 => ?_
  exact mr_iret dX2_leastBelow_25 rfl (le_t rfl) (le_t rfl) hT mF.refl ⟨h52.1, trivial⟩
theorem vc_X2_leastBelow_9_1 {p3 : Int} (h0 : 32 ≤ p3) (h1 : 9 ≤ p3 ∧ p3 ≤ 9) : False := by omega
set_option maxRecDepth 4000 in
set_option maxHeartbeats 4000000 in
theorem c_X2_leastBelow_9 {l : Launch} {D : va_G} {c : Nat → ClassId} {H0 : Heap} {sa : Nat × Nat × (Nat → Int32)} {w : mW} {μ : mM} (hw : mWF w) (hT : mT w μ) {p1 : Int} (hp1 : 0 ≤ p1 ∧ p1 ≤ 9) {p2 : Int} (hp2 : (-2147483648) ≤ p2 ∧ p2 ≤ 2147483647) {p3 : Int} (hp3 : 9 ≤ p3 ∧ p3 ≤ 9) (hq0 : p1 < w.2.2.2 0) : sC (gG l D c H0 sa) mX2_leastBelow 26 0 0 [.ref 87, iv p1, iv p2, iv p3] (mk w μ) (qI w [87007] μ (fun z μ1 => ((-2147483648) ≤ z ∧ z ≤ 2147483647) ∧ True)) := by
  refine sC.of rfl (by decide) (le_t rfl) ?_
  refine mr_lvE (lv' := [(0, .ref 87), (1, iv p1), (2, iv p2), (3, iv p3)]) rfl ?_
  refine mr_iload_n (pc := 0) (z := p3) dX2_leastBelow_0 rfl rfl ?_
  refine mr_bipush (pc := 1) (z := 32) dX2_leastBelow_1 (by decide) ?_
  refine mr_icmp_ge (pc := 3) (tgt := 16) dX2_leastBelow_3 (by decide) (r32 hp3 rfl) (r32 (rR (x := 32)) rfl) (fun h => ((vc_X2_leastBelow_9_1 h hp3)).elim) (fun _ => ?_)
  refine sv_aload_n (pc := 6) dX2_leastBelow_6 rfl rfl ?_
  refine mr_iload_n (pc := 7) (z := p1) dX2_leastBelow_7 rfl rfl ?_
  refine mr_iload_n (pc := 8) (z := p2) dX2_leastBelow_8 rfl rfl ?_
  refine mr_iload_n (pc := 9) (z := p3) dX2_leastBelow_9 rfl rfl ?_
  refine mr_cVP (pc := 10) (c_X2_isSplit hw hT hp1 hp2 (rW (c := (-2147483648)) (d := 2147483647) hp3 rfl) (vc_X9_end_1 hq0 hp1)) (gOk _ _ _ _ _) dX2_leastBelow_10 (tX2_isSplit _ _ _ _ _) ⟨wV_X2_isSplit, wL_X2_isSplit⟩ wM_X2_106 (gCX2 _ _ _ _ _) rfl (A_87 hw) rfl ⟨le_t rfl, le_t rfl⟩ ⟨le_t rfl, le_t rfl⟩ rfl (le_t rfl) fun z5 h4 => ?_
  refine mr_if_ne (pc := 13) (tgt := 26) dX2_leastBelow_13 (by decide) (r32 h4.1 rfl) (fun h6 => ?_) (fun h6 => ?_)
  · have h7 : 1 ≤ z5 ∧ z5 ≤ 1 := (vc_X12_ring_24 h6 h4.1)
    refine sv_aload_n (pc := 26) dX2_leastBelow_26 rfl rfl ?_
    refine mr_iload_n (pc := 27) (z := p1) dX2_leastBelow_27 rfl rfl ?_
    refine mr_iload_n (pc := 28) (z := p2) dX2_leastBelow_28 rfl rfl ?_
    refine mr_iload_n (pc := 29) (z := p3) dX2_leastBelow_29 rfl rfl ?_
    refine mr_iconst (pc := 30) (z := 1) dX2_leastBelow_30 ?_
    refine mr_iadd (pc := 31) (x := p3) (y := 1) dX2_leastBelow_31 ?_
    refine mr_cVI (pc := 32) (c_X2_leastBelow_10 hw hT hp1 hp2 (rAdd (e := 10) (f := 10) hp3 (rR (x := 1)) rfl) (vc_X9_end_1 hq0 hp1)) (gOk _ _ _ _ _) dX2_leastBelow_32 (tX2_leastBelow _ _ _ _ _) ⟨wV_X2_leastBelow, wL_X2_leastBelow⟩ wM_X2_101 (gCX2 _ _ _ _ _) rfl (A_87 hw) rfl ⟨le_t rfl, le_t rfl⟩ ⟨le_t rfl, le_t rfl⟩ rfl (le_t rfl) fun z12 μ8 T9 F10 h11 => ?_
    refine mr_istore (pc := 35) (lv' := [(4, iv z12), (0, .ref 87), (1, iv p1), (2, iv p2), (3, iv p3)]) dX2_leastBelow_35 (by decide) rfl ?_
    refine sv_aload_n (pc := 37) dX2_leastBelow_37 rfl rfl ?_
    refine mr_iload_n (pc := 38) (z := p1) dX2_leastBelow_38 rfl rfl ?_
    refine mr_iload_n (pc := 39) (z := p2) dX2_leastBelow_39 rfl rfl ?_
    refine mr_iconst (pc := 40) (z := 1) dX2_leastBelow_40 ?_
    refine mr_bipush (pc := 41) (z := 31) dX2_leastBelow_41 (by decide) ?_
    refine mr_iload_n (pc := 43) (z := p3) dX2_leastBelow_43 rfl rfl ?_
    refine mr_isub (pc := 44) (x := 31) (y := p3) dX2_leastBelow_44 ?_
    refine mr_ishl (pc := 45) (x := 1) (y := (31 - p3)) dX2_leastBelow_45 ?_
    refine mr_gen (P := fun z => (-2147483648) ≤ z ∧ z ≤ 2147483647) (r32i _) fun z13 q14 h15 => ?_
    refine mr_ior (pc := 46) (x := p2) (y := z13) dX2_leastBelow_46 ?_
    refine mr_gen (P := fun z => (-2147483648) ≤ z ∧ z ≤ 2147483647) (r32i _) fun z16 q17 h18 => ?_
    refine mr_iload_n (pc := 47) (z := p3) dX2_leastBelow_47 rfl rfl ?_
    refine mr_iconst (pc := 48) (z := 1) dX2_leastBelow_48 ?_
    refine mr_iadd (pc := 49) (x := p3) (y := 1) dX2_leastBelow_49 ?_
    refine mr_cVI (pc := 50) (c_X2_leastBelow_10 hw T9 hp1 h18 (rAdd (e := 10) (f := 10) hp3 (rR (x := 1)) rfl) (vc_X9_end_1 hq0 hp1)) (gOk _ _ _ _ _) dX2_leastBelow_50 (tX2_leastBelow _ _ _ _ _) ⟨wV_X2_leastBelow, wL_X2_leastBelow⟩ wM_X2_101 (gCX2 _ _ _ _ _) rfl (A_87 hw) rfl ⟨le_t rfl, le_t rfl⟩ ⟨le_t rfl, le_t rfl⟩ rfl (le_t rfl) fun z23 μ19 T20 F21 h22 => ?_
    refine mr_istore (pc := 53) (lv' := [(5, iv z23), (4, iv z12), (0, .ref 87), (1, iv p1), (2, iv p2), (3, iv p3)]) dX2_leastBelow_53 (by decide) rfl ?_
    refine mr_iload (pc := 55) (z := z12) dX2_leastBelow_55 rfl ?_
    refine mr_iload (pc := 57) (z := z23) dX2_leastBelow_57 rfl ?_
    refine mr_iand (pc := 59) (x := z12) (y := z23) dX2_leastBelow_59 ?_
    refine mr_gen (P := fun z => (-2147483648) ≤ z ∧ z ≤ 2147483647) (r32i _) fun z24 q25 h26 => ?_
    refine mr_if_eq (pc := 60) (tgt := 69) dX2_leastBelow_60 (by decide) h26 (fun h27 => ?_) (fun h27 => ?_)
    · have h28 : 0 ≤ z24 ∧ z24 ≤ 0 := (vc_X12_mask_1 h27 h26)
      refine sv_aload_n (pc := 69) dX2_leastBelow_69 rfl rfl ?_
      refine sv_dup (pc := 70) dX2_leastBelow_70 rfl ?_
      refine gf_X2_7 (pc := 71) dX2_leastBelow_71 wF_X2_98 (A_87 hw) T20 fun z29 q30 h31 => ?_
      refine mr_iconst (pc := 74) (z := 1) dX2_leastBelow_74 ?_
      refine mr_iadd (pc := 75) (x := z29) (y := 1) dX2_leastBelow_75 ?_
      refine mr_wrap fun z32 h33 => ?_
      refine pf_X2_7 (pc := 76) dX2_leastBelow_76 wF_X2_98 (A_87 hw) T20 h33 fun μ34 u35 T36 => ?_
      refine mr_iload (pc := 79) (z := z12) dX2_leastBelow_79 rfl ?_
      refine mr_iload (pc := 81) (z := z23) dX2_leastBelow_81 rfl ?_
      refine mr_ior (pc := 83) (x := z12) (y := z23) dX2_leastBelow_83 ?_
      refine mr_gen (P := fun z => (-2147483648) ≤ z ∧ z ≤ 2147483647) (r32i _) fun z37 q38 h39 => ?_
      exact mr_iret dX2_leastBelow_84 rfl (le_t rfl) (le_t rfl) T36 (mF.up (mF.call (mF.call mF.refl F10 rfl) F21 rfl) (A_87 hw) u35 rfl) ⟨h39, trivial⟩
    refine mr_iload (pc := 63) (z := z12) dX2_leastBelow_63 rfl ?_
    refine mr_iload (pc := 65) (z := z23) dX2_leastBelow_65 rfl ?_
    refine mr_iand (pc := 67) (x := z12) (y := z23) dX2_leastBelow_67 ?_
    refine mr_gen (P := fun z => (-2147483648) ≤ z ∧ z ≤ 2147483647) (r32i _) fun z40 q41 h42 => ?_
    exact mr_iret dX2_leastBelow_68 rfl (le_t rfl) (le_t rfl) T20 (mF.call (mF.call mF.refl F10 rfl) F21 rfl) ⟨h42, trivial⟩
  have h43 : 0 ≤ z5 ∧ z5 ≤ 0 := (vc_X12_ring_22 h6 h4.1)
  refine sv_aload_n (pc := 16) dX2_leastBelow_16 rfl rfl ?_
  refine mr_iload_n (pc := 17) (z := p1) dX2_leastBelow_17 rfl rfl ?_
  refine mr_iload_n (pc := 18) (z := p2) dX2_leastBelow_18 rfl rfl ?_
  refine mr_cVP (pc := 19) (c_X2_tieFor hw hT hp1 hp2 (vc_X9_end_1 hq0 hp1)) (gOk _ _ _ _ _) dX2_leastBelow_19 (tX2_tieFor _ _ _ _ _) ⟨wV_X2_tieFor, wL_X2_tieFor⟩ wM_X2_60 (gCX2 _ _ _ _ _) rfl (A_87 hw) rfl ⟨le_t rfl, le_t rfl⟩ ⟨le_t rfl, le_t rfl⟩ rfl (le_t rfl) fun z48 h47 => ?_
  refine mr_cSP (pc := 22) (c_X2_aimBit hw hT h47.1) (gOk _ _ _ _ _) dX2_leastBelow_22 (tX2_aimBit _ _ _ _ _) wS_X2_aimBit wM_X2_110 ⟨le_t rfl, le_t rfl⟩ ⟨le_t rfl, le_t rfl⟩ rfl (le_t rfl) fun z53 h52 => ?_
  exact mr_iret dX2_leastBelow_25 rfl (le_t rfl) (le_t rfl) hT mF.refl ⟨h52.1, trivial⟩
theorem vc_X2_leastBelow_8_1 {p3 : Int} (h0 : 32 ≤ p3) (h1 : 8 ≤ p3 ∧ p3 ≤ 8) : False := by omega
set_option maxRecDepth 4000 in
set_option maxHeartbeats 4000000 in
theorem c_X2_leastBelow_8 {l : Launch} {D : va_G} {c : Nat → ClassId} {H0 : Heap} {sa : Nat × Nat × (Nat → Int32)} {w : mW} {μ : mM} (hw : mWF w) (hT : mT w μ) {p1 : Int} (hp1 : 0 ≤ p1 ∧ p1 ≤ 9) {p2 : Int} (hp2 : (-2147483648) ≤ p2 ∧ p2 ≤ 2147483647) {p3 : Int} (hp3 : 8 ≤ p3 ∧ p3 ≤ 8) (hq0 : p1 < w.2.2.2 0) : sC (gG l D c H0 sa) mX2_leastBelow 27 0 0 [.ref 87, iv p1, iv p2, iv p3] (mk w μ) (qI w [87007] μ (fun z μ1 => ((-2147483648) ≤ z ∧ z ≤ 2147483647) ∧ True)) := by
  refine sC.of rfl (by decide) (le_t rfl) ?_
  refine mr_lvE (lv' := [(0, .ref 87), (1, iv p1), (2, iv p2), (3, iv p3)]) rfl ?_
  refine mr_iload_n (pc := 0) (z := p3) dX2_leastBelow_0 rfl rfl ?_
  refine mr_bipush (pc := 1) (z := 32) dX2_leastBelow_1 (by decide) ?_
  refine mr_icmp_ge (pc := 3) (tgt := 16) dX2_leastBelow_3 (by decide) (r32 hp3 rfl) (r32 (rR (x := 32)) rfl) (fun h => ((vc_X2_leastBelow_8_1 h hp3)).elim) (fun _ => ?_)
  refine sv_aload_n (pc := 6) dX2_leastBelow_6 rfl rfl ?_
  refine mr_iload_n (pc := 7) (z := p1) dX2_leastBelow_7 rfl rfl ?_
  refine mr_iload_n (pc := 8) (z := p2) dX2_leastBelow_8 rfl rfl ?_
  refine mr_iload_n (pc := 9) (z := p3) dX2_leastBelow_9 rfl rfl ?_
  refine mr_cVP (pc := 10) (c_X2_isSplit hw hT hp1 hp2 (rW (c := (-2147483648)) (d := 2147483647) hp3 rfl) (vc_X9_end_1 hq0 hp1)) (gOk _ _ _ _ _) dX2_leastBelow_10 (tX2_isSplit _ _ _ _ _) ⟨wV_X2_isSplit, wL_X2_isSplit⟩ wM_X2_106 (gCX2 _ _ _ _ _) rfl (A_87 hw) rfl ⟨le_t rfl, le_t rfl⟩ ⟨le_t rfl, le_t rfl⟩ rfl (le_t rfl) fun z5 h4 => ?_
  refine mr_if_ne (pc := 13) (tgt := 26) dX2_leastBelow_13 (by decide) (r32 h4.1 rfl) (fun h6 => ?_) (fun h6 => ?_)
  · have h7 : 1 ≤ z5 ∧ z5 ≤ 1 := (vc_X12_ring_24 h6 h4.1)
    refine sv_aload_n (pc := 26) dX2_leastBelow_26 rfl rfl ?_
    refine mr_iload_n (pc := 27) (z := p1) dX2_leastBelow_27 rfl rfl ?_
    refine mr_iload_n (pc := 28) (z := p2) dX2_leastBelow_28 rfl rfl ?_
    refine mr_iload_n (pc := 29) (z := p3) dX2_leastBelow_29 rfl rfl ?_
    refine mr_iconst (pc := 30) (z := 1) dX2_leastBelow_30 ?_
    refine mr_iadd (pc := 31) (x := p3) (y := 1) dX2_leastBelow_31 ?_
    refine mr_cVI (pc := 32) (c_X2_leastBelow_9 hw hT hp1 hp2 (rAdd (e := 9) (f := 9) hp3 (rR (x := 1)) rfl) (vc_X9_end_1 hq0 hp1)) (gOk _ _ _ _ _) dX2_leastBelow_32 (tX2_leastBelow _ _ _ _ _) ⟨wV_X2_leastBelow, wL_X2_leastBelow⟩ wM_X2_101 (gCX2 _ _ _ _ _) rfl (A_87 hw) rfl ⟨le_t rfl, le_t rfl⟩ ⟨le_t rfl, le_t rfl⟩ rfl (le_t rfl) fun z12 μ8 T9 F10 h11 => ?_
    refine mr_istore (pc := 35) (lv' := [(4, iv z12), (0, .ref 87), (1, iv p1), (2, iv p2), (3, iv p3)]) dX2_leastBelow_35 (by decide) rfl ?_
    refine sv_aload_n (pc := 37) dX2_leastBelow_37 rfl rfl ?_
    refine mr_iload_n (pc := 38) (z := p1) dX2_leastBelow_38 rfl rfl ?_
    refine mr_iload_n (pc := 39) (z := p2) dX2_leastBelow_39 rfl rfl ?_
    refine mr_iconst (pc := 40) (z := 1) dX2_leastBelow_40 ?_
    refine mr_bipush (pc := 41) (z := 31) dX2_leastBelow_41 (by decide) ?_
    refine mr_iload_n (pc := 43) (z := p3) dX2_leastBelow_43 rfl rfl ?_
    refine mr_isub (pc := 44) (x := 31) (y := p3) dX2_leastBelow_44 ?_
    refine mr_ishl (pc := 45) (x := 1) (y := (31 - p3)) dX2_leastBelow_45 ?_
    refine mr_gen (P := fun z => (-2147483648) ≤ z ∧ z ≤ 2147483647) (r32i _) fun z13 q14 h15 => ?_
    refine mr_ior (pc := 46) (x := p2) (y := z13) dX2_leastBelow_46 ?_
    refine mr_gen (P := fun z => (-2147483648) ≤ z ∧ z ≤ 2147483647) (r32i _) fun z16 q17 h18 => ?_
    refine mr_iload_n (pc := 47) (z := p3) dX2_leastBelow_47 rfl rfl ?_
    refine mr_iconst (pc := 48) (z := 1) dX2_leastBelow_48 ?_
    refine mr_iadd (pc := 49) (x := p3) (y := 1) dX2_leastBelow_49 ?_
    refine mr_cVI (pc := 50) (c_X2_leastBelow_9 hw T9 hp1 h18 (rAdd (e := 9) (f := 9) hp3 (rR (x := 1)) rfl) (vc_X9_end_1 hq0 hp1)) (gOk _ _ _ _ _) dX2_leastBelow_50 (tX2_leastBelow _ _ _ _ _) ⟨wV_X2_leastBelow, wL_X2_leastBelow⟩ wM_X2_101 (gCX2 _ _ _ _ _) rfl (A_87 hw) rfl ⟨le_t rfl, le_t rfl⟩ ⟨le_t rfl, le_t rfl⟩ rfl (le_t rfl) fun z23 μ19 T20 F21 h22 => ?_
    refine mr_istore (pc := 53) (lv' := [(5, iv z23), (4, iv z12), (0, .ref 87), (1, iv p1), (2, iv p2), (3, iv p3)]) dX2_leastBelow_53 (by decide) rfl ?_
    refine mr_iload (pc := 55) (z := z12) dX2_leastBelow_55 rfl ?_
    refine mr_iload (pc := 57) (z := z23) dX2_leastBelow_57 rfl ?_
    refine mr_iand (pc := 59) (x := z12) (y := z23) dX2_leastBelow_59 ?_
    refine mr_gen (P := fun z => (-2147483648) ≤ z ∧ z ≤ 2147483647) (r32i _) fun z24 q25 h26 => ?_
    refine mr_if_eq (pc := 60) (tgt := 69) dX2_leastBelow_60 (by decide) h26 (fun h27 => ?_) (fun h27 => ?_)
    · have h28 : 0 ≤ z24 ∧ z24 ≤ 0 := (vc_X12_mask_1 h27 h26)
      refine sv_aload_n (pc := 69) dX2_leastBelow_69 rfl rfl ?_
      refine sv_dup (pc := 70) dX2_leastBelow_70 rfl ?_
      refine gf_X2_7 (pc := 71) dX2_leastBelow_71 wF_X2_98 (A_87 hw) T20 fun z29 q30 h31 => ?_
      refine mr_iconst (pc := 74) (z := 1) dX2_leastBelow_74 ?_
      refine mr_iadd (pc := 75) (x := z29) (y := 1) dX2_leastBelow_75 ?_
      refine mr_wrap fun z32 h33 => ?_
      refine pf_X2_7 (pc := 76) dX2_leastBelow_76 wF_X2_98 (A_87 hw) T20 h33 fun μ34 u35 T36 => ?_
      refine mr_iload (pc := 79) (z := z12) dX2_leastBelow_79 rfl ?_
      refine mr_iload (pc := 81) (z := z23) dX2_leastBelow_81 rfl ?_
      refine mr_ior (pc := 83) (x := z12) (y := z23) dX2_leastBelow_83 ?_
      refine mr_gen (P := fun z => (-2147483648) ≤ z ∧ z ≤ 2147483647) (r32i _) fun z37 q38 h39 => ?_
      exact mr_iret dX2_leastBelow_84 rfl (le_t rfl) (le_t rfl) T36 (mF.up (mF.call (mF.call mF.refl F10 rfl) F21 rfl) (A_87 hw) u35 rfl) ⟨h39, trivial⟩
    refine mr_iload (pc := 63) (z := z12) dX2_leastBelow_63 rfl ?_
    refine mr_iload (pc := 65) (z := z23) dX2_leastBelow_65 rfl ?_
    refine mr_iand (pc := 67) (x := z12) (y := z23) dX2_leastBelow_67 ?_
    refine mr_gen (P := fun z => (-2147483648) ≤ z ∧ z ≤ 2147483647) (r32i _) fun z40 q41 h42 => ?_
    exact mr_iret dX2_leastBelow_68 rfl (le_t rfl) (le_t rfl) T20 (mF.call (mF.call mF.refl F10 rfl) F21 rfl) ⟨h42, trivial⟩
  have h43 : 0 ≤ z5 ∧ z5 ≤ 0 := (vc_X12_ring_22 h6 h4.1)
  refine sv_aload_n (pc := 16) dX2_leastBelow_16 rfl rfl ?_
  refine mr_iload_n (pc := 17) (z := p1) dX2_leastBelow_17 rfl rfl ?_
  refine mr_iload_n (pc := 18) (z := p2) dX2_leastBelow_18 rfl rfl ?_
  refine mr_cVP (pc := 19) (c_X2_tieFor hw hT hp1 hp2 (vc_X9_end_1 hq0 hp1)) (gOk _ _ _ _ _) dX2_leastBelow_19 (tX2_tieFor _ _ _ _ _) ⟨wV_X2_tieFor, wL_X2_tieFor⟩ wM_X2_60 (gCX2 _ _ _ _ _) rfl (A_87 hw) rfl ⟨le_t rfl, le_t rfl⟩ ⟨le_t rfl, le_t rfl⟩ rfl (le_t rfl) fun z48 h47 => ?_
  refine mr_cSP (pc := 22) (c_X2_aimBit hw hT h47.1) (gOk _ _ _ _ _) dX2_leastBelow_22 (tX2_aimBit _ _ _ _ _) wS_X2_aimBit wM_X2_110 ⟨le_t rfl, le_t rfl⟩ ⟨le_t rfl, le_t rfl⟩ rfl (le_t rfl) fun z53 h52 => ?_
  exact mr_iret dX2_leastBelow_25 rfl (le_t rfl) (le_t rfl) hT mF.refl ⟨h52.1, trivial⟩
theorem vc_X2_leastBelow_7_1 {p3 : Int} (h0 : 32 ≤ p3) (h1 : 7 ≤ p3 ∧ p3 ≤ 7) : False := by omega
set_option maxRecDepth 4000 in
set_option maxHeartbeats 4000000 in
theorem c_X2_leastBelow_7 {l : Launch} {D : va_G} {c : Nat → ClassId} {H0 : Heap} {sa : Nat × Nat × (Nat → Int32)} {w : mW} {μ : mM} (hw : mWF w) (hT : mT w μ) {p1 : Int} (hp1 : 0 ≤ p1 ∧ p1 ≤ 9) {p2 : Int} (hp2 : (-2147483648) ≤ p2 ∧ p2 ≤ 2147483647) {p3 : Int} (hp3 : 7 ≤ p3 ∧ p3 ≤ 7) (hq0 : p1 < w.2.2.2 0) : sC (gG l D c H0 sa) mX2_leastBelow 28 0 0 [.ref 87, iv p1, iv p2, iv p3] (mk w μ) (qI w [87007] μ (fun z μ1 => ((-2147483648) ≤ z ∧ z ≤ 2147483647) ∧ True)) := by
  refine sC.of rfl (by decide) (le_t rfl) ?_
  refine mr_lvE (lv' := [(0, .ref 87), (1, iv p1), (2, iv p2), (3, iv p3)]) rfl ?_
  refine mr_iload_n (pc := 0) (z := p3) dX2_leastBelow_0 rfl rfl ?_
  refine mr_bipush (pc := 1) (z := 32) dX2_leastBelow_1 (by decide) ?_
  refine mr_icmp_ge (pc := 3) (tgt := 16) dX2_leastBelow_3 (by decide) (r32 hp3 rfl) (r32 (rR (x := 32)) rfl) (fun h => ((vc_X2_leastBelow_7_1 h hp3)).elim) (fun _ => ?_)
  refine sv_aload_n (pc := 6) dX2_leastBelow_6 rfl rfl ?_
  refine mr_iload_n (pc := 7) (z := p1) dX2_leastBelow_7 rfl rfl ?_
  refine mr_iload_n (pc := 8) (z := p2) dX2_leastBelow_8 rfl rfl ?_
  refine mr_iload_n (pc := 9) (z := p3) dX2_leastBelow_9 rfl rfl ?_
  refine mr_cVP (pc := 10) (c_X2_isSplit hw hT hp1 hp2 (rW (c := (-2147483648)) (d := 2147483647) hp3 rfl) (vc_X9_end_1 hq0 hp1)) (gOk _ _ _ _ _) dX2_leastBelow_10 (tX2_isSplit _ _ _ _ _) ⟨wV_X2_isSplit, wL_X2_isSplit⟩ wM_X2_106 (gCX2 _ _ _ _ _) rfl (A_87 hw) rfl ⟨le_t rfl, le_t rfl⟩ ⟨le_t rfl, le_t rfl⟩ rfl (le_t rfl) fun z5 h4 => ?_
  refine mr_if_ne (pc := 13) (tgt := 26) dX2_leastBelow_13 (by decide) (r32 h4.1 rfl) (fun h6 => ?_) (fun h6 => ?_)
  · have h7 : 1 ≤ z5 ∧ z5 ≤ 1 := (vc_X12_ring_24 h6 h4.1)
    refine sv_aload_n (pc := 26) dX2_leastBelow_26 rfl rfl ?_
    refine mr_iload_n (pc := 27) (z := p1) dX2_leastBelow_27 rfl rfl ?_
    refine mr_iload_n (pc := 28) (z := p2) dX2_leastBelow_28 rfl rfl ?_
    refine mr_iload_n (pc := 29) (z := p3) dX2_leastBelow_29 rfl rfl ?_
    refine mr_iconst (pc := 30) (z := 1) dX2_leastBelow_30 ?_
    refine mr_iadd (pc := 31) (x := p3) (y := 1) dX2_leastBelow_31 ?_
    refine mr_cVI (pc := 32) (c_X2_leastBelow_8 hw hT hp1 hp2 (rAdd (e := 8) (f := 8) hp3 (rR (x := 1)) rfl) (vc_X9_end_1 hq0 hp1)) (gOk _ _ _ _ _) dX2_leastBelow_32 (tX2_leastBelow _ _ _ _ _) ⟨wV_X2_leastBelow, wL_X2_leastBelow⟩ wM_X2_101 (gCX2 _ _ _ _ _) rfl (A_87 hw) rfl ⟨le_t rfl, le_t rfl⟩ ⟨le_t rfl, le_t rfl⟩ rfl (le_t rfl) fun z12 μ8 T9 F10 h11 => ?_
    refine mr_istore (pc := 35) (lv' := [(4, iv z12), (0, .ref 87), (1, iv p1), (2, iv p2), (3, iv p3)]) dX2_leastBelow_35 (by decide) rfl ?_
    refine sv_aload_n (pc := 37) dX2_leastBelow_37 rfl rfl ?_
    refine mr_iload_n (pc := 38) (z := p1) dX2_leastBelow_38 rfl rfl ?_
    refine mr_iload_n (pc := 39) (z := p2) dX2_leastBelow_39 rfl rfl ?_
    refine mr_iconst (pc := 40) (z := 1) dX2_leastBelow_40 ?_
    refine mr_bipush (pc := 41) (z := 31) dX2_leastBelow_41 (by decide) ?_
    refine mr_iload_n (pc := 43) (z := p3) dX2_leastBelow_43 rfl rfl ?_
    refine mr_isub (pc := 44) (x := 31) (y := p3) dX2_leastBelow_44 ?_
    refine mr_ishl (pc := 45) (x := 1) (y := (31 - p3)) dX2_leastBelow_45 ?_
    refine mr_gen (P := fun z => (-2147483648) ≤ z ∧ z ≤ 2147483647) (r32i _) fun z13 q14 h15 => ?_
    refine mr_ior (pc := 46) (x := p2) (y := z13) dX2_leastBelow_46 ?_
    refine mr_gen (P := fun z => (-2147483648) ≤ z ∧ z ≤ 2147483647) (r32i _) fun z16 q17 h18 => ?_
    refine mr_iload_n (pc := 47) (z := p3) dX2_leastBelow_47 rfl rfl ?_
    refine mr_iconst (pc := 48) (z := 1) dX2_leastBelow_48 ?_
    refine mr_iadd (pc := 49) (x := p3) (y := 1) dX2_leastBelow_49 ?_
    refine mr_cVI (pc := 50) (c_X2_leastBelow_8 hw T9 hp1 h18 (rAdd (e := 8) (f := 8) hp3 (rR (x := 1)) rfl) (vc_X9_end_1 hq0 hp1)) (gOk _ _ _ _ _) dX2_leastBelow_50 (tX2_leastBelow _ _ _ _ _) ⟨wV_X2_leastBelow, wL_X2_leastBelow⟩ wM_X2_101 (gCX2 _ _ _ _ _) rfl (A_87 hw) rfl ⟨le_t rfl, le_t rfl⟩ ⟨le_t rfl, le_t rfl⟩ rfl (le_t rfl) fun z23 μ19 T20 F21 h22 => ?_
    refine mr_istore (pc := 53) (lv' := [(5, iv z23), (4, iv z12), (0, .ref 87), (1, iv p1), (2, iv p2), (3, iv p3)]) dX2_leastBelow_53 (by decide) rfl ?_
    refine mr_iload (pc := 55) (z := z12) dX2_leastBelow_55 rfl ?_
    refine mr_iload (pc := 57) (z := z23) dX2_leastBelow_57 rfl ?_
    refine mr_iand (pc := 59) (x := z12) (y := z23) dX2_leastBelow_59 ?_
    refine mr_gen (P := fun z => (-2147483648) ≤ z ∧ z ≤ 2147483647) (r32i _) fun z24 q25 h26 => ?_
    refine mr_if_eq (pc := 60) (tgt := 69) dX2_leastBelow_60 (by decide) h26 (fun h27 => ?_) (fun h27 => ?_)
    · have h28 : 0 ≤ z24 ∧ z24 ≤ 0 := (vc_X12_mask_1 h27 h26)
      refine sv_aload_n (pc := 69) dX2_leastBelow_69 rfl rfl ?_
      refine sv_dup (pc := 70) dX2_leastBelow_70 rfl ?_
      refine gf_X2_7 (pc := 71) dX2_leastBelow_71 wF_X2_98 (A_87 hw) T20 fun z29 q30 h31 => ?_
      refine mr_iconst (pc := 74) (z := 1) dX2_leastBelow_74 ?_
      refine mr_iadd (pc := 75) (x := z29) (y := 1) dX2_leastBelow_75 ?_
      refine mr_wrap fun z32 h33 => ?_
      refine pf_X2_7 (pc := 76) dX2_leastBelow_76 wF_X2_98 (A_87 hw) T20 h33 fun μ34 u35 T36 => ?_
      refine mr_iload (pc := 79) (z := z12) dX2_leastBelow_79 rfl ?_
      refine mr_iload (pc := 81) (z := z23) dX2_leastBelow_81 rfl ?_
      refine mr_ior (pc := 83) (x := z12) (y := z23) dX2_leastBelow_83 ?_
      refine mr_gen (P := fun z => (-2147483648) ≤ z ∧ z ≤ 2147483647) (r32i _) fun z37 q38 h39 => ?_
      exact mr_iret dX2_leastBelow_84 rfl (le_t rfl) (le_t rfl) T36 (mF.up (mF.call (mF.call mF.refl F10 rfl) F21 rfl) (A_87 hw) u35 rfl) ⟨h39, trivial⟩
    refine mr_iload (pc := 63) (z := z12) dX2_leastBelow_63 rfl ?_
    refine mr_iload (pc := 65) (z := z23) dX2_leastBelow_65 rfl ?_
    refine mr_iand (pc := 67) (x := z12) (y := z23) dX2_leastBelow_67 ?_
    refine mr_gen (P := fun z => (-2147483648) ≤ z ∧ z ≤ 2147483647) (r32i _) fun z40 q41 h42 => ?_
    exact mr_iret dX2_leastBelow_68 rfl (le_t rfl) (le_t rfl) T20 (mF.call (mF.call mF.refl F10 rfl) F21 rfl) ⟨h42, trivial⟩
  have h43 : 0 ≤ z5 ∧ z5 ≤ 0 := (vc_X12_ring_22 h6 h4.1)
  refine sv_aload_n (pc := 16) dX2_leastBelow_16 rfl rfl ?_
  refine mr_iload_n (pc := 17) (z := p1) dX2_leastBelow_17 rfl rfl ?_
  refine mr_iload_n (pc := 18) (z := p2) dX2_leastBelow_18 rfl rfl ?_
  refine mr_cVP (pc := 19) (c_X2_tieFor hw hT hp1 hp2 (vc_X9_end_1 hq0 hp1)) (gOk _ _ _ _ _) dX2_leastBelow_19 (tX2_tieFor _ _ _ _ _) ⟨wV_X2_tieFor, wL_X2_tieFor⟩ wM_X2_60 (gCX2 _ _ _ _ _) rfl (A_87 hw) rfl ⟨le_t rfl, le_t rfl⟩ ⟨le_t rfl, le_t rfl⟩ rfl (le_t rfl) fun z48 h47 => ?_
  refine mr_cSP (pc := 22) (c_X2_aimBit hw hT h47.1) (gOk _ _ _ _ _) dX2_leastBelow_22 (tX2_aimBit _ _ _ _ _) wS_X2_aimBit wM_X2_110 ⟨le_t rfl, le_t rfl⟩ ⟨le_t rfl, le_t rfl⟩ rfl (le_t rfl) fun z53 h52 => ?_
  exact mr_iret dX2_leastBelow_25 rfl (le_t rfl) (le_t rfl) hT mF.refl ⟨h52.1, trivial⟩
theorem vc_X2_leastBelow_6_1 {p3 : Int} (h0 : 32 ≤ p3) (h1 : 6 ≤ p3 ∧ p3 ≤ 6) : False := by omega
set_option maxRecDepth 4000 in
set_option maxHeartbeats 4000000 in
theorem c_X2_leastBelow_6 {l : Launch} {D : va_G} {c : Nat → ClassId} {H0 : Heap} {sa : Nat × Nat × (Nat → Int32)} {w : mW} {μ : mM} (hw : mWF w) (hT : mT w μ) {p1 : Int} (hp1 : 0 ≤ p1 ∧ p1 ≤ 9) {p2 : Int} (hp2 : (-2147483648) ≤ p2 ∧ p2 ≤ 2147483647) {p3 : Int} (hp3 : 6 ≤ p3 ∧ p3 ≤ 6) (hq0 : p1 < w.2.2.2 0) : sC (gG l D c H0 sa) mX2_leastBelow 29 0 0 [.ref 87, iv p1, iv p2, iv p3] (mk w μ) (qI w [87007] μ (fun z μ1 => ((-2147483648) ≤ z ∧ z ≤ 2147483647) ∧ True)) := by
  refine sC.of rfl (by decide) (le_t rfl) ?_
  refine mr_lvE (lv' := [(0, .ref 87), (1, iv p1), (2, iv p2), (3, iv p3)]) rfl ?_
  refine mr_iload_n (pc := 0) (z := p3) dX2_leastBelow_0 rfl rfl ?_
  refine mr_bipush (pc := 1) (z := 32) dX2_leastBelow_1 (by decide) ?_
  refine mr_icmp_ge (pc := 3) (tgt := 16) dX2_leastBelow_3 (by decide) (r32 hp3 rfl) (r32 (rR (x := 32)) rfl) (fun h => ((vc_X2_leastBelow_6_1 h hp3)).elim) (fun _ => ?_)
  refine sv_aload_n (pc := 6) dX2_leastBelow_6 rfl rfl ?_
  refine mr_iload_n (pc := 7) (z := p1) dX2_leastBelow_7 rfl rfl ?_
  refine mr_iload_n (pc := 8) (z := p2) dX2_leastBelow_8 rfl rfl ?_
  refine mr_iload_n (pc := 9) (z := p3) dX2_leastBelow_9 rfl rfl ?_
  refine mr_cVP (pc := 10) (c_X2_isSplit hw hT hp1 hp2 (rW (c := (-2147483648)) (d := 2147483647) hp3 rfl) (vc_X9_end_1 hq0 hp1)) (gOk _ _ _ _ _) dX2_leastBelow_10 (tX2_isSplit _ _ _ _ _) ⟨wV_X2_isSplit, wL_X2_isSplit⟩ wM_X2_106 (gCX2 _ _ _ _ _) rfl (A_87 hw) rfl ⟨le_t rfl, le_t rfl⟩ ⟨le_t rfl, le_t rfl⟩ rfl (le_t rfl) fun z5 h4 => ?_
  refine mr_if_ne (pc := 13) (tgt := 26) dX2_leastBelow_13 (by decide) (r32 h4.1 rfl) (fun h6 => ?_) (fun h6 => ?_)
  · have h7 : 1 ≤ z5 ∧ z5 ≤ 1 := (vc_X12_ring_24 h6 h4.1)
    refine sv_aload_n (pc := 26) dX2_leastBelow_26 rfl rfl ?_
    refine mr_iload_n (pc := 27) (z := p1) dX2_leastBelow_27 rfl rfl ?_
    refine mr_iload_n (pc := 28) (z := p2) dX2_leastBelow_28 rfl rfl ?_
    refine mr_iload_n (pc := 29) (z := p3) dX2_leastBelow_29 rfl rfl ?_
    refine mr_iconst (pc := 30) (z := 1) dX2_leastBelow_30 ?_
    refine mr_iadd (pc := 31) (x := p3) (y := 1) dX2_leastBelow_31 ?_
    refine mr_cVI (pc := 32) (c_X2_leastBelow_7 hw hT hp1 hp2 (rAdd (e := 7) (f := 7) hp3 (rR (x := 1)) rfl) (vc_X9_end_1 hq0 hp1)) (gOk _ _ _ _ _) dX2_leastBelow_32 (tX2_leastBelow _ _ _ _ _) ⟨wV_X2_leastBelow, wL_X2_leastBelow⟩ wM_X2_101 (gCX2 _ _ _ _ _) rfl (A_87 hw) rfl ⟨le_t rfl, le_t rfl⟩ ⟨le_t rfl, le_t rfl⟩ rfl (le_t rfl) fun z12 μ8 T9 F10 h11 => ?_
    refine mr_istore (pc := 35) (lv' := [(4, iv z12), (0, .ref 87), (1, iv p1), (2, iv p2), (3, iv p3)]) dX2_leastBelow_35 (by decide) rfl ?_
    refine sv_aload_n (pc := 37) dX2_leastBelow_37 rfl rfl ?_
    refine mr_iload_n (pc := 38) (z := p1) dX2_leastBelow_38 rfl rfl ?_
    refine mr_iload_n (pc := 39) (z := p2) dX2_leastBelow_39 rfl rfl ?_
    refine mr_iconst (pc := 40) (z := 1) dX2_leastBelow_40 ?_
    refine mr_bipush (pc := 41) (z := 31) dX2_leastBelow_41 (by decide) ?_
    refine mr_iload_n (pc := 43) (z := p3) dX2_leastBelow_43 rfl rfl ?_
    refine mr_isub (pc := 44) (x := 31) (y := p3) dX2_leastBelow_44 ?_
    refine mr_ishl (pc := 45) (x := 1) (y := (31 - p3)) dX2_leastBelow_45 ?_
    refine mr_gen (P := fun z => (-2147483648) ≤ z ∧ z ≤ 2147483647) (r32i _) fun z13 q14 h15 => ?_
    refine mr_ior (pc := 46) (x := p2) (y := z13) dX2_leastBelow_46 ?_
    refine mr_gen (P := fun z => (-2147483648) ≤ z ∧ z ≤ 2147483647) (r32i _) fun z16 q17 h18 => ?_
    refine mr_iload_n (pc := 47) (z := p3) dX2_leastBelow_47 rfl rfl ?_
    refine mr_iconst (pc := 48) (z := 1) dX2_leastBelow_48 ?_
    refine mr_iadd (pc := 49) (x := p3) (y := 1) dX2_leastBelow_49 ?_
    refine mr_cVI (pc := 50) (c_X2_leastBelow_7 hw T9 hp1 h18 (rAdd (e := 7) (f := 7) hp3 (rR (x := 1)) rfl) (vc_X9_end_1 hq0 hp1)) (gOk _ _ _ _ _) dX2_leastBelow_50 (tX2_leastBelow _ _ _ _ _) ⟨wV_X2_leastBelow, wL_X2_leastBelow⟩ wM_X2_101 (gCX2 _ _ _ _ _) rfl (A_87 hw) rfl ⟨le_t rfl, le_t rfl⟩ ⟨le_t rfl, le_t rfl⟩ rfl (le_t rfl) fun z23 μ19 T20 F21 h22 => ?_
    refine mr_istore (pc := 53) (lv' := [(5, iv z23), (4, iv z12), (0, .ref 87), (1, iv p1), (2, iv p2), (3, iv p3)]) dX2_leastBelow_53 (by decide) rfl ?_
    refine mr_iload (pc := 55) (z := z12) dX2_leastBelow_55 rfl ?_
    refine mr_iload (pc := 57) (z := z23) dX2_leastBelow_57 rfl ?_
    refine mr_iand (pc := 59) (x := z12) (y := z23) dX2_leastBelow_59 ?_
    refine mr_gen (P := fun z => (-2147483648) ≤ z ∧ z ≤ 2147483647) (r32i _) fun z24 q25 h26 => ?_
    refine mr_if_eq (pc := 60) (tgt := 69) dX2_leastBelow_60 (by decide) h26 (fun h27 => ?_) (fun h27 => ?_)
    · have h28 : 0 ≤ z24 ∧ z24 ≤ 0 := (vc_X12_mask_1 h27 h26)
      refine sv_aload_n (pc := 69) dX2_leastBelow_69 rfl rfl ?_
      refine sv_dup (pc := 70) dX2_leastBelow_70 rfl ?_
      refine gf_X2_7 (pc := 71) dX2_leastBelow_71 wF_X2_98 (A_87 hw) T20 fun z29 q30 h31 => ?_
      refine mr_iconst (pc := 74) (z := 1) dX2_leastBelow_74 ?_
      refine mr_iadd (pc := 75) (x := z29) (y := 1) dX2_leastBelow_75 ?_
      refine mr_wrap fun z32 h33 => ?_
      refine pf_X2_7 (pc := 76) dX2_leastBelow_76 wF_X2_98 (A_87 hw) T20 h33 fun μ34 u35 T36 => ?_
      refine mr_iload (pc := 79) (z := z12) dX2_leastBelow_79 rfl ?_
      refine mr_iload (pc := 81) (z := z23) dX2_leastBelow_81 rfl ?_
      refine mr_ior (pc := 83) (x := z12) (y := z23) dX2_leastBelow_83 ?_
      refine mr_gen (P := fun z => (-2147483648) ≤ z ∧ z ≤ 2147483647) (r32i _) fun z37 q38 h39 => ?_
      exact mr_iret dX2_leastBelow_84 rfl (le_t rfl) (le_t rfl) T36 (mF.up (mF.call (mF.call mF.refl F10 rfl) F21 rfl) (A_87 hw) u35 rfl) ⟨h39, trivial⟩
    refine mr_iload (pc := 63) (z := z12) dX2_leastBelow_63 rfl ?_
    refine mr_iload (pc := 65) (z := z23) dX2_leastBelow_65 rfl ?_
    refine mr_iand (pc := 67) (x := z12) (y := z23) dX2_leastBelow_67 ?_
    refine mr_gen (P := fun z => (-2147483648) ≤ z ∧ z ≤ 2147483647) (r32i _) fun z40 q41 h42 => ?_
    exact mr_iret dX2_leastBelow_68 rfl (le_t rfl) (le_t rfl) T20 (mF.call (mF.call mF.refl F10 rfl) F21 rfl) ⟨h42, trivial⟩
  have h43 : 0 ≤ z5 ∧ z5 ≤ 0 := (vc_X12_ring_22 h6 h4.1)
  refine sv_aload_n (pc := 16) dX2_leastBelow_16 rfl rfl ?_
  refine mr_iload_n (pc := 17) (z := p1) dX2_leastBelow_17 rfl rfl ?_
  refine mr_iload_n (pc := 18) (z := p2) dX2_leastBelow_18 rfl rfl ?_
  refine mr_cVP (pc := 19) (c_X2_tieFor hw hT hp1 hp2 (vc_X9_end_1 hq0 hp1)) (gOk _ _ _ _ _) dX2_leastBelow_19 (tX2_tieFor _ _ _ _ _) ⟨wV_X2_tieFor, wL_X2_tieFor⟩ wM_X2_60 (gCX2 _ _ _ _ _) rfl (A_87 hw) rfl ⟨le_t rfl, le_t rfl⟩ ⟨le_t rfl, le_t rfl⟩ rfl (le_t rfl) fun z48 h47 => ?_
  refine mr_cSP (pc := 22) (c_X2_aimBit hw hT h47.1) (gOk _ _ _ _ _) dX2_leastBelow_22 (tX2_aimBit _ _ _ _ _) wS_X2_aimBit wM_X2_110 ⟨le_t rfl, le_t rfl⟩ ⟨le_t rfl, le_t rfl⟩ rfl (le_t rfl) fun z53 h52 => ?_
  exact mr_iret dX2_leastBelow_25 rfl (le_t rfl) (le_t rfl) hT mF.refl ⟨h52.1, trivial⟩
theorem vc_X2_leastBelow_5_1 {p3 : Int} (h0 : 32 ≤ p3) (h1 : 5 ≤ p3 ∧ p3 ≤ 5) : False := by omega
set_option maxRecDepth 4000 in
set_option maxHeartbeats 4000000 in
theorem c_X2_leastBelow_5 {l : Launch} {D : va_G} {c : Nat → ClassId} {H0 : Heap} {sa : Nat × Nat × (Nat → Int32)} {w : mW} {μ : mM} (hw : mWF w) (hT : mT w μ) {p1 : Int} (hp1 : 0 ≤ p1 ∧ p1 ≤ 9) {p2 : Int} (hp2 : (-2147483648) ≤ p2 ∧ p2 ≤ 2147483647) {p3 : Int} (hp3 : 5 ≤ p3 ∧ p3 ≤ 5) (hq0 : p1 < w.2.2.2 0) : sC (gG l D c H0 sa) mX2_leastBelow 30 0 0 [.ref 87, iv p1, iv p2, iv p3] (mk w μ) (qI w [87007] μ (fun z μ1 => ((-2147483648) ≤ z ∧ z ≤ 2147483647) ∧ True)) := by
  refine sC.of rfl (by decide) (le_t rfl) ?_
  refine mr_lvE (lv' := [(0, .ref 87), (1, iv p1), (2, iv p2), (3, iv p3)]) rfl ?_
  refine mr_iload_n (pc := 0) (z := p3) dX2_leastBelow_0 rfl rfl ?_
  refine mr_bipush (pc := 1) (z := 32) dX2_leastBelow_1 (by decide) ?_
  refine mr_icmp_ge (pc := 3) (tgt := 16) dX2_leastBelow_3 (by decide) (r32 hp3 rfl) (r32 (rR (x := 32)) rfl) (fun h => ((vc_X2_leastBelow_5_1 h hp3)).elim) (fun _ => ?_)
  refine sv_aload_n (pc := 6) dX2_leastBelow_6 rfl rfl ?_
  refine mr_iload_n (pc := 7) (z := p1) dX2_leastBelow_7 rfl rfl ?_
  refine mr_iload_n (pc := 8) (z := p2) dX2_leastBelow_8 rfl rfl ?_
  refine mr_iload_n (pc := 9) (z := p3) dX2_leastBelow_9 rfl rfl ?_
  refine mr_cVP (pc := 10) (c_X2_isSplit hw hT hp1 hp2 (rW (c := (-2147483648)) (d := 2147483647) hp3 rfl) (vc_X9_end_1 hq0 hp1)) (gOk _ _ _ _ _) dX2_leastBelow_10 (tX2_isSplit _ _ _ _ _) ⟨wV_X2_isSplit, wL_X2_isSplit⟩ wM_X2_106 (gCX2 _ _ _ _ _) rfl (A_87 hw) rfl ⟨le_t rfl, le_t rfl⟩ ⟨le_t rfl, le_t rfl⟩ rfl (le_t rfl) fun z5 h4 => ?_
  refine mr_if_ne (pc := 13) (tgt := 26) dX2_leastBelow_13 (by decide) (r32 h4.1 rfl) (fun h6 => ?_) (fun h6 => ?_)
  · have h7 : 1 ≤ z5 ∧ z5 ≤ 1 := (vc_X12_ring_24 h6 h4.1)
    refine sv_aload_n (pc := 26) dX2_leastBelow_26 rfl rfl ?_
    refine mr_iload_n (pc := 27) (z := p1) dX2_leastBelow_27 rfl rfl ?_
    refine mr_iload_n (pc := 28) (z := p2) dX2_leastBelow_28 rfl rfl ?_
    refine mr_iload_n (pc := 29) (z := p3) dX2_leastBelow_29 rfl rfl ?_
    refine mr_iconst (pc := 30) (z := 1) dX2_leastBelow_30 ?_
    refine mr_iadd (pc := 31) (x := p3) (y := 1) dX2_leastBelow_31 ?_
    refine mr_cVI (pc := 32) (c_X2_leastBelow_6 hw hT hp1 hp2 (rAdd (e := 6) (f := 6) hp3 (rR (x := 1)) rfl) (vc_X9_end_1 hq0 hp1)) (gOk _ _ _ _ _) dX2_leastBelow_32 (tX2_leastBelow _ _ _ _ _) ⟨wV_X2_leastBelow, wL_X2_leastBelow⟩ wM_X2_101 (gCX2 _ _ _ _ _) rfl (A_87 hw) rfl ⟨le_t rfl, le_t rfl⟩ ⟨le_t rfl, le_t rfl⟩ rfl (le_t rfl) fun z12 μ8 T9 F10 h11 => ?_
    refine mr_istore (pc := 35) (lv' := [(4, iv z12), (0, .ref 87), (1, iv p1), (2, iv p2), (3, iv p3)]) dX2_leastBelow_35 (by decide) rfl ?_
    refine sv_aload_n (pc := 37) dX2_leastBelow_37 rfl rfl ?_
    refine mr_iload_n (pc := 38) (z := p1) dX2_leastBelow_38 rfl rfl ?_
    refine mr_iload_n (pc := 39) (z := p2) dX2_leastBelow_39 rfl rfl ?_
    refine mr_iconst (pc := 40) (z := 1) dX2_leastBelow_40 ?_
    refine mr_bipush (pc := 41) (z := 31) dX2_leastBelow_41 (by decide) ?_
    refine mr_iload_n (pc := 43) (z := p3) dX2_leastBelow_43 rfl rfl ?_
    refine mr_isub (pc := 44) (x := 31) (y := p3) dX2_leastBelow_44 ?_
    refine mr_ishl (pc := 45) (x := 1) (y := (31 - p3)) dX2_leastBelow_45 ?_
    refine mr_gen (P := fun z => (-2147483648) ≤ z ∧ z ≤ 2147483647) (r32i _) fun z13 q14 h15 => ?_
    refine mr_ior (pc := 46) (x := p2) (y := z13) dX2_leastBelow_46 ?_
    refine mr_gen (P := fun z => (-2147483648) ≤ z ∧ z ≤ 2147483647) (r32i _) fun z16 q17 h18 => ?_
    refine mr_iload_n (pc := 47) (z := p3) dX2_leastBelow_47 rfl rfl ?_
    refine mr_iconst (pc := 48) (z := 1) dX2_leastBelow_48 ?_
    refine mr_iadd (pc := 49) (x := p3) (y := 1) dX2_leastBelow_49 ?_
    refine mr_cVI (pc := 50) (c_X2_leastBelow_6 hw T9 hp1 h18 (rAdd (e := 6) (f := 6) hp3 (rR (x := 1)) rfl) (vc_X9_end_1 hq0 hp1)) (gOk _ _ _ _ _) dX2_leastBelow_50 (tX2_leastBelow _ _ _ _ _) ⟨wV_X2_leastBelow, wL_X2_leastBelow⟩ wM_X2_101 (gCX2 _ _ _ _ _) rfl (A_87 hw) rfl ⟨le_t rfl, le_t rfl⟩ ⟨le_t rfl, le_t rfl⟩ rfl (le_t rfl) fun z23 μ19 T20 F21 h22 => ?_
    refine mr_istore (pc := 53) (lv' := [(5, iv z23), (4, iv z12), (0, .ref 87), (1, iv p1), (2, iv p2), (3, iv p3)]) dX2_leastBelow_53 (by decide) rfl ?_
    refine mr_iload (pc := 55) (z := z12) dX2_leastBelow_55 rfl ?_
    refine mr_iload (pc := 57) (z := z23) dX2_leastBelow_57 rfl ?_
    refine mr_iand (pc := 59) (x := z12) (y := z23) dX2_leastBelow_59 ?_
    refine mr_gen (P := fun z => (-2147483648) ≤ z ∧ z ≤ 2147483647) (r32i _) fun z24 q25 h26 => ?_
    refine mr_if_eq (pc := 60) (tgt := 69) dX2_leastBelow_60 (by decide) h26 (fun h27 => ?_) (fun h27 => ?_)
    · have h28 : 0 ≤ z24 ∧ z24 ≤ 0 := (vc_X12_mask_1 h27 h26)
      refine sv_aload_n (pc := 69) dX2_leastBelow_69 rfl rfl ?_
      refine sv_dup (pc := 70) dX2_leastBelow_70 rfl ?_
      refine gf_X2_7 (pc := 71) dX2_leastBelow_71 wF_X2_98 (A_87 hw) T20 fun z29 q30 h31 => ?_
      refine mr_iconst (pc := 74) (z := 1) dX2_leastBelow_74 ?_
      refine mr_iadd (pc := 75) (x := z29) (y := 1) dX2_leastBelow_75 ?_
      refine mr_wrap fun z32 h33 => ?_
      refine pf_X2_7 (pc := 76) dX2_leastBelow_76 wF_X2_98 (A_87 hw) T20 h33 fun μ34 u35 T36 => ?_
      refine mr_iload (pc := 79) (z := z12) dX2_leastBelow_79 rfl ?_
      refine mr_iload (pc := 81) (z := z23) dX2_leastBelow_81 rfl ?_
      refine mr_ior (pc := 83) (x := z12) (y := z23) dX2_leastBelow_83 ?_
      refine mr_gen (P := fun z => (-2147483648) ≤ z ∧ z ≤ 2147483647) (r32i _) fun z37 q38 h39 => ?_
      exact mr_iret dX2_leastBelow_84 rfl (le_t rfl) (le_t rfl) T36 (mF.up (mF.call (mF.call mF.refl F10 rfl) F21 rfl) (A_87 hw) u35 rfl) ⟨h39, trivial⟩
    refine mr_iload (pc := 63) (z := z12) dX2_leastBelow_63 rfl ?_
    refine mr_iload (pc := 65) (z := z23) dX2_leastBelow_65 rfl ?_
    refine mr_iand (pc := 67) (x := z12) (y := z23) dX2_leastBelow_67 ?_
    refine mr_gen (P := fun z => (-2147483648) ≤ z ∧ z ≤ 2147483647) (r32i _) fun z40 q41 h42 => ?_
    exact mr_iret dX2_leastBelow_68 rfl (le_t rfl) (le_t rfl) T20 (mF.call (mF.call mF.refl F10 rfl) F21 rfl) ⟨h42, trivial⟩
  have h43 : 0 ≤ z5 ∧ z5 ≤ 0 := (vc_X12_ring_22 h6 h4.1)
  refine sv_aload_n (pc := 16) dX2_leastBelow_16 rfl rfl ?_
  refine mr_iload_n (pc := 17) (z := p1) dX2_leastBelow_17 rfl rfl ?_
  refine mr_iload_n (pc := 18) (z := p2) dX2_leastBelow_18 rfl rfl ?_
  refine mr_cVP (pc := 19) (c_X2_tieFor hw hT hp1 hp2 (vc_X9_end_1 hq0 hp1)) (gOk _ _ _ _ _) dX2_leastBelow_19 (tX2_tieFor _ _ _ _ _) ⟨wV_X2_tieFor, wL_X2_tieFor⟩ wM_X2_60 (gCX2 _ _ _ _ _) rfl (A_87 hw) rfl ⟨le_t rfl, le_t rfl⟩ ⟨le_t rfl, le_t rfl⟩ rfl (le_t rfl) fun z48 h47 => ?_
  refine mr_cSP (pc := 22) (c_X2_aimBit hw hT h47.1) (gOk _ _ _ _ _) dX2_leastBelow_22 (tX2_aimBit _ _ _ _ _) wS_X2_aimBit wM_X2_110 ⟨le_t rfl, le_t rfl⟩ ⟨le_t rfl, le_t rfl⟩ rfl (le_t rfl) fun z53 h52 => ?_
  exact mr_iret dX2_leastBelow_25 rfl (le_t rfl) (le_t rfl) hT mF.refl ⟨h52.1, trivial⟩
end
section
theorem vc_X2_leastBelow_4_1 {p3 : Int} (h0 : 32 ≤ p3) (h1 : 4 ≤ p3 ∧ p3 ≤ 4) : False := by omega
set_option maxRecDepth 4000 in
set_option maxHeartbeats 4000000 in
theorem c_X2_leastBelow_4 {l : Launch} {D : va_G} {c : Nat → ClassId} {H0 : Heap} {sa : Nat × Nat × (Nat → Int32)} {w : mW} {μ : mM} (hw : mWF w) (hT : mT w μ) {p1 : Int} (hp1 : 0 ≤ p1 ∧ p1 ≤ 9) {p2 : Int} (hp2 : (-2147483648) ≤ p2 ∧ p2 ≤ 2147483647) {p3 : Int} (hp3 : 4 ≤ p3 ∧ p3 ≤ 4) (hq0 : p1 < w.2.2.2 0) : sC (gG l D c H0 sa) mX2_leastBelow 31 0 0 [.ref 87, iv p1, iv p2, iv p3] (mk w μ) (qI w [87007] μ (fun z μ1 => ((-2147483648) ≤ z ∧ z ≤ 2147483647) ∧ True)) := by
  refine sC.of rfl (by decide) (le_t rfl) ?_
  refine mr_lvE (lv' := [(0, .ref 87), (1, iv p1), (2, iv p2), (3, iv p3)]) rfl ?_
  refine mr_iload_n (pc := 0) (z := p3) dX2_leastBelow_0 rfl rfl ?_
  refine mr_bipush (pc := 1) (z := 32) dX2_leastBelow_1 (by decide) ?_
  refine mr_icmp_ge (pc := 3) (tgt := 16) dX2_leastBelow_3 (by decide) (r32 hp3 rfl) (r32 (rR (x := 32)) rfl) (fun h => ((vc_X2_leastBelow_4_1 h hp3)).elim) (fun _ => ?_)
  refine sv_aload_n (pc := 6) dX2_leastBelow_6 rfl rfl ?_
  refine mr_iload_n (pc := 7) (z := p1) dX2_leastBelow_7 rfl rfl ?_
  refine mr_iload_n (pc := 8) (z := p2) dX2_leastBelow_8 rfl rfl ?_
  refine mr_iload_n (pc := 9) (z := p3) dX2_leastBelow_9 rfl rfl ?_
  refine mr_cVP (pc := 10) (c_X2_isSplit hw hT hp1 hp2 (rW (c := (-2147483648)) (d := 2147483647) hp3 rfl) (vc_X9_end_1 hq0 hp1)) (gOk _ _ _ _ _) dX2_leastBelow_10 (tX2_isSplit _ _ _ _ _) ⟨wV_X2_isSplit, wL_X2_isSplit⟩ wM_X2_106 (gCX2 _ _ _ _ _) rfl (A_87 hw) rfl ⟨le_t rfl, le_t rfl⟩ ⟨le_t rfl, le_t rfl⟩ rfl (le_t rfl) fun z5 h4 => ?_
  refine mr_if_ne (pc := 13) (tgt := 26) dX2_leastBelow_13 (by decide) (r32 h4.1 rfl) (fun h6 => ?_) (fun h6 => ?_)
  · have h7 : 1 ≤ z5 ∧ z5 ≤ 1 := (vc_X12_ring_24 h6 h4.1)
    refine sv_aload_n (pc := 26) dX2_leastBelow_26 rfl rfl ?_
    refine mr_iload_n (pc := 27) (z := p1) dX2_leastBelow_27 rfl rfl ?_
    refine mr_iload_n (pc := 28) (z := p2) dX2_leastBelow_28 rfl rfl ?_
    refine mr_iload_n (pc := 29) (z := p3) dX2_leastBelow_29 rfl rfl ?_
    refine mr_iconst (pc := 30) (z := 1) dX2_leastBelow_30 ?_
    refine mr_iadd (pc := 31) (x := p3) (y := 1) dX2_leastBelow_31 ?_
    refine mr_cVI (pc := 32) (c_X2_leastBelow_5 hw hT hp1 hp2 (rAdd (e := 5) (f := 5) hp3 (rR (x := 1)) rfl) (vc_X9_end_1 hq0 hp1)) (gOk _ _ _ _ _) dX2_leastBelow_32 (tX2_leastBelow _ _ _ _ _) ⟨wV_X2_leastBelow, wL_X2_leastBelow⟩ wM_X2_101 (gCX2 _ _ _ _ _) rfl (A_87 hw) rfl ⟨le_t rfl, le_t rfl⟩ ⟨le_t rfl, le_t rfl⟩ rfl (le_t rfl) fun z12 μ8 T9 F10 h11 => ?_
    refine mr_istore (pc := 35) (lv' := [(4, iv z12), (0, .ref 87), (1, iv p1), (2, iv p2), (3, iv p3)]) dX2_leastBelow_35 (by decide) rfl ?_
    refine sv_aload_n (pc := 37) dX2_leastBelow_37 rfl rfl ?_
    refine mr_iload_n (pc := 38) (z := p1) dX2_leastBelow_38 rfl rfl ?_
    refine mr_iload_n (pc := 39) (z := p2) dX2_leastBelow_39 rfl rfl ?_
    refine mr_iconst (pc := 40) (z := 1) dX2_leastBelow_40 ?_
    refine mr_bipush (pc := 41) (z := 31) dX2_leastBelow_41 (by decide) ?_
    refine mr_iload_n (pc := 43) (z := p3) dX2_leastBelow_43 rfl rfl ?_
    refine mr_isub (pc := 44) (x := 31) (y := p3) dX2_leastBelow_44 ?_
    refine mr_ishl (pc := 45) (x := 1) (y := (31 - p3)) dX2_leastBelow_45 ?_
    refine mr_gen (P := fun z => (-2147483648) ≤ z ∧ z ≤ 2147483647) (r32i _) fun z13 q14 h15 => ?_
    refine mr_ior (pc := 46) (x := p2) (y := z13) dX2_leastBelow_46 ?_
    refine mr_gen (P := fun z => (-2147483648) ≤ z ∧ z ≤ 2147483647) (r32i _) fun z16 q17 h18 => ?_
    refine mr_iload_n (pc := 47) (z := p3) dX2_leastBelow_47 rfl rfl ?_
    refine mr_iconst (pc := 48) (z := 1) dX2_leastBelow_48 ?_
    refine mr_iadd (pc := 49) (x := p3) (y := 1) dX2_leastBelow_49 ?_
    refine mr_cVI (pc := 50) (c_X2_leastBelow_5 hw T9 hp1 h18 (rAdd (e := 5) (f := 5) hp3 (rR (x := 1)) rfl) (vc_X9_end_1 hq0 hp1)) (gOk _ _ _ _ _) dX2_leastBelow_50 (tX2_leastBelow _ _ _ _ _) ⟨wV_X2_leastBelow, wL_X2_leastBelow⟩ wM_X2_101 (gCX2 _ _ _ _ _) rfl (A_87 hw) rfl ⟨le_t rfl, le_t rfl⟩ ⟨le_t rfl, le_t rfl⟩ rfl (le_t rfl) fun z23 μ19 T20 F21 h22 => ?_
    refine mr_istore (pc := 53) (lv' := [(5, iv z23), (4, iv z12), (0, .ref 87), (1, iv p1), (2, iv p2), (3, iv p3)]) dX2_leastBelow_53 (by decide) rfl ?_
    refine mr_iload (pc := 55) (z := z12) dX2_leastBelow_55 rfl ?_
    refine mr_iload (pc := 57) (z := z23) dX2_leastBelow_57 rfl ?_
    refine mr_iand (pc := 59) (x := z12) (y := z23) dX2_leastBelow_59 ?_
    refine mr_gen (P := fun z => (-2147483648) ≤ z ∧ z ≤ 2147483647) (r32i _) fun z24 q25 h26 => ?_
    refine mr_if_eq (pc := 60) (tgt := 69) dX2_leastBelow_60 (by decide) h26 (fun h27 => ?_) (fun h27 => ?_)
    · have h28 : 0 ≤ z24 ∧ z24 ≤ 0 := (vc_X12_mask_1 h27 h26)
      refine sv_aload_n (pc := 69) dX2_leastBelow_69 rfl rfl ?_
      refine sv_dup (pc := 70) dX2_leastBelow_70 rfl ?_
      refine gf_X2_7 (pc := 71) dX2_leastBelow_71 wF_X2_98 (A_87 hw) T20 fun z29 q30 h31 => ?_
      refine mr_iconst (pc := 74) (z := 1) dX2_leastBelow_74 ?_
      refine mr_iadd (pc := 75) (x := z29) (y := 1) dX2_leastBelow_75 ?_
      refine mr_wrap fun z32 h33 => ?_
      refine pf_X2_7 (pc := 76) dX2_leastBelow_76 wF_X2_98 (A_87 hw) T20 h33 fun μ34 u35 T36 => ?_
      refine mr_iload (pc := 79) (z := z12) dX2_leastBelow_79 rfl ?_
      refine mr_iload (pc := 81) (z := z23) dX2_leastBelow_81 rfl ?_
      refine mr_ior (pc := 83) (x := z12) (y := z23) dX2_leastBelow_83 ?_
      refine mr_gen (P := fun z => (-2147483648) ≤ z ∧ z ≤ 2147483647) (r32i _) fun z37 q38 h39 => ?_
      exact mr_iret dX2_leastBelow_84 rfl (le_t rfl) (le_t rfl) T36 (mF.up (mF.call (mF.call mF.refl F10 rfl) F21 rfl) (A_87 hw) u35 rfl) ⟨h39, trivial⟩
    refine mr_iload (pc := 63) (z := z12) dX2_leastBelow_63 rfl ?_
    refine mr_iload (pc := 65) (z := z23) dX2_leastBelow_65 rfl ?_
    refine mr_iand (pc := 67) (x := z12) (y := z23) dX2_leastBelow_67 ?_
    refine mr_gen (P := fun z => (-2147483648) ≤ z ∧ z ≤ 2147483647) (r32i _) fun z40 q41 h42 => ?_
    exact mr_iret dX2_leastBelow_68 rfl (le_t rfl) (le_t rfl) T20 (mF.call (mF.call mF.refl F10 rfl) F21 rfl) ⟨h42, trivial⟩
  have h43 : 0 ≤ z5 ∧ z5 ≤ 0 := (vc_X12_ring_22 h6 h4.1)
  refine sv_aload_n (pc := 16) dX2_leastBelow_16 rfl rfl ?_
  refine mr_iload_n (pc := 17) (z := p1) dX2_leastBelow_17 rfl rfl ?_
  refine mr_iload_n (pc := 18) (z := p2) dX2_leastBelow_18 rfl rfl ?_
  refine mr_cVP (pc := 19) (c_X2_tieFor hw hT hp1 hp2 (vc_X9_end_1 hq0 hp1)) (gOk _ _ _ _ _) dX2_leastBelow_19 (tX2_tieFor _ _ _ _ _) ⟨wV_X2_tieFor, wL_X2_tieFor⟩ wM_X2_60 (gCX2 _ _ _ _ _) rfl (A_87 hw) rfl ⟨le_t rfl, le_t rfl⟩ ⟨le_t rfl, le_t rfl⟩ rfl (le_t rfl) fun z48 h47 => ?_
  refine mr_cSP (pc := 22) (c_X2_aimBit hw hT h47.1) (gOk _ _ _ _ _) dX2_leastBelow_22 (tX2_aimBit _ _ _ _ _) wS_X2_aimBit wM_X2_110 ⟨le_t rfl, le_t rfl⟩ ⟨le_t rfl, le_t rfl⟩ rfl (le_t rfl) fun z53 h52 => ?_
  exact mr_iret dX2_leastBelow_25 rfl (le_t rfl) (le_t rfl) hT mF.refl ⟨h52.1, trivial⟩
theorem vc_X2_leastBelow_3_1 {p3 : Int} (h0 : 32 ≤ p3) (h1 : 3 ≤ p3 ∧ p3 ≤ 3) : False := by omega
set_option maxRecDepth 4000 in
set_option maxHeartbeats 4000000 in
theorem c_X2_leastBelow_3 {l : Launch} {D : va_G} {c : Nat → ClassId} {H0 : Heap} {sa : Nat × Nat × (Nat → Int32)} {w : mW} {μ : mM} (hw : mWF w) (hT : mT w μ) {p1 : Int} (hp1 : 0 ≤ p1 ∧ p1 ≤ 9) {p2 : Int} (hp2 : (-2147483648) ≤ p2 ∧ p2 ≤ 2147483647) {p3 : Int} (hp3 : 3 ≤ p3 ∧ p3 ≤ 3) (hq0 : p1 < w.2.2.2 0) : sC (gG l D c H0 sa) mX2_leastBelow 32 0 0 [.ref 87, iv p1, iv p2, iv p3] (mk w μ) (qI w [87007] μ (fun z μ1 => ((-2147483648) ≤ z ∧ z ≤ 2147483647) ∧ True)) := by
  refine sC.of rfl (by decide) (le_t rfl) ?_
  refine mr_lvE (lv' := [(0, .ref 87), (1, iv p1), (2, iv p2), (3, iv p3)]) rfl ?_
  refine mr_iload_n (pc := 0) (z := p3) dX2_leastBelow_0 rfl rfl ?_
  refine mr_bipush (pc := 1) (z := 32) dX2_leastBelow_1 (by decide) ?_
  refine mr_icmp_ge (pc := 3) (tgt := 16) dX2_leastBelow_3 (by decide) (r32 hp3 rfl) (r32 (rR (x := 32)) rfl) (fun h => ((vc_X2_leastBelow_3_1 h hp3)).elim) (fun _ => ?_)
  refine sv_aload_n (pc := 6) dX2_leastBelow_6 rfl rfl ?_
  refine mr_iload_n (pc := 7) (z := p1) dX2_leastBelow_7 rfl rfl ?_
  refine mr_iload_n (pc := 8) (z := p2) dX2_leastBelow_8 rfl rfl ?_
  refine mr_iload_n (pc := 9) (z := p3) dX2_leastBelow_9 rfl rfl ?_
  refine mr_cVP (pc := 10) (c_X2_isSplit hw hT hp1 hp2 (rW (c := (-2147483648)) (d := 2147483647) hp3 rfl) (vc_X9_end_1 hq0 hp1)) (gOk _ _ _ _ _) dX2_leastBelow_10 (tX2_isSplit _ _ _ _ _) ⟨wV_X2_isSplit, wL_X2_isSplit⟩ wM_X2_106 (gCX2 _ _ _ _ _) rfl (A_87 hw) rfl ⟨le_t rfl, le_t rfl⟩ ⟨le_t rfl, le_t rfl⟩ rfl (le_t rfl) fun z5 h4 => ?_
  refine mr_if_ne (pc := 13) (tgt := 26) dX2_leastBelow_13 (by decide) (r32 h4.1 rfl) (fun h6 => ?_) (fun h6 => ?_)
  · have h7 : 1 ≤ z5 ∧ z5 ≤ 1 := (vc_X12_ring_24 h6 h4.1)
    refine sv_aload_n (pc := 26) dX2_leastBelow_26 rfl rfl ?_
    refine mr_iload_n (pc := 27) (z := p1) dX2_leastBelow_27 rfl rfl ?_
    refine mr_iload_n (pc := 28) (z := p2) dX2_leastBelow_28 rfl rfl ?_
    refine mr_iload_n (pc := 29) (z := p3) dX2_leastBelow_29 rfl rfl ?_
    refine mr_iconst (pc := 30) (z := 1) dX2_leastBelow_30 ?_
    refine mr_iadd (pc := 31) (x := p3) (y := 1) dX2_leastBelow_31 ?_
    refine mr_cVI (pc := 32) (c_X2_leastBelow_4 hw hT hp1 hp2 (rAdd (e := 4) (f := 4) hp3 (rR (x := 1)) rfl) (vc_X9_end_1 hq0 hp1)) (gOk _ _ _ _ _) dX2_leastBelow_32 (tX2_leastBelow _ _ _ _ _) ⟨wV_X2_leastBelow, wL_X2_leastBelow⟩ wM_X2_101 (gCX2 _ _ _ _ _) rfl (A_87 hw) rfl ⟨le_t rfl, le_t rfl⟩ ⟨le_t rfl, le_t rfl⟩ rfl (le_t rfl) fun z12 μ8 T9 F10 h11 => ?_
    refine mr_istore (pc := 35) (lv' := [(4, iv z12), (0, .ref 87), (1, iv p1), (2, iv p2), (3, iv p3)]) dX2_leastBelow_35 (by decide) rfl ?_
    refine sv_aload_n (pc := 37) dX2_leastBelow_37 rfl rfl ?_
    refine mr_iload_n (pc := 38) (z := p1) dX2_leastBelow_38 rfl rfl ?_
    refine mr_iload_n (pc := 39) (z := p2) dX2_leastBelow_39 rfl rfl ?_
    refine mr_iconst (pc := 40) (z := 1) dX2_leastBelow_40 ?_
    refine mr_bipush (pc := 41) (z := 31) dX2_leastBelow_41 (by decide) ?_
    refine mr_iload_n (pc := 43) (z := p3) dX2_leastBelow_43 rfl rfl ?_
    refine mr_isub (pc := 44) (x := 31) (y := p3) dX2_leastBelow_44 ?_
    refine mr_ishl (pc := 45) (x := 1) (y := (31 - p3)) dX2_leastBelow_45 ?_
    refine mr_gen (P := fun z => (-2147483648) ≤ z ∧ z ≤ 2147483647) (r32i _) fun z13 q14 h15 => ?_
    refine mr_ior (pc := 46) (x := p2) (y := z13) dX2_leastBelow_46 ?_
    refine mr_gen (P := fun z => (-2147483648) ≤ z ∧ z ≤ 2147483647) (r32i _) fun z16 q17 h18 => ?_
    refine mr_iload_n (pc := 47) (z := p3) dX2_leastBelow_47 rfl rfl ?_
    refine mr_iconst (pc := 48) (z := 1) dX2_leastBelow_48 ?_
    refine mr_iadd (pc := 49) (x := p3) (y := 1) dX2_leastBelow_49 ?_
    refine mr_cVI (pc := 50) (c_X2_leastBelow_4 hw T9 hp1 h18 (rAdd (e := 4) (f := 4) hp3 (rR (x := 1)) rfl) (vc_X9_end_1 hq0 hp1)) (gOk _ _ _ _ _) dX2_leastBelow_50 (tX2_leastBelow _ _ _ _ _) ⟨wV_X2_leastBelow, wL_X2_leastBelow⟩ wM_X2_101 (gCX2 _ _ _ _ _) rfl (A_87 hw) rfl ⟨le_t rfl, le_t rfl⟩ ⟨le_t rfl, le_t rfl⟩ rfl (le_t rfl) fun z23 μ19 T20 F21 h22 => ?_
    refine mr_istore (pc := 53) (lv' := [(5, iv z23), (4, iv z12), (0, .ref 87), (1, iv p1), (2, iv p2), (3, iv p3)]) dX2_leastBelow_53 (by decide) rfl ?_
    refine mr_iload (pc := 55) (z := z12) dX2_leastBelow_55 rfl ?_
    refine mr_iload (pc := 57) (z := z23) dX2_leastBelow_57 rfl ?_
    refine mr_iand (pc := 59) (x := z12) (y := z23) dX2_leastBelow_59 ?_
    refine mr_gen (P := fun z => (-2147483648) ≤ z ∧ z ≤ 2147483647) (r32i _) fun z24 q25 h26 => ?_
    refine mr_if_eq (pc := 60) (tgt := 69) dX2_leastBelow_60 (by decide) h26 (fun h27 => ?_) (fun h27 => ?_)
    · have h28 : 0 ≤ z24 ∧ z24 ≤ 0 := (vc_X12_mask_1 h27 h26)
      refine sv_aload_n (pc := 69) dX2_leastBelow_69 rfl rfl ?_
      refine sv_dup (pc := 70) dX2_leastBelow_70 rfl ?_
      refine gf_X2_7 (pc := 71) dX2_leastBelow_71 wF_X2_98 (A_87 hw) T20 fun z29 q30 h31 => ?_
      refine mr_iconst (pc := 74) (z := 1) dX2_leastBelow_74 ?_
      refine mr_iadd (pc := 75) (x := z29) (y := 1) dX2_leastBelow_75 ?_
      refine mr_wrap fun z32 h33 => ?_
      refine pf_X2_7 (pc := 76) dX2_leastBelow_76 wF_X2_98 (A_87 hw) T20 h33 fun μ34 u35 T36 => ?_
      refine mr_iload (pc := 79) (z := z12) dX2_leastBelow_79 rfl ?_
      refine mr_iload (pc := 81) (z := z23) dX2_leastBelow_81 rfl ?_
      refine mr_ior (pc := 83) (x := z12) (y := z23) dX2_leastBelow_83 ?_
      refine mr_gen (P := fun z => (-2147483648) ≤ z ∧ z ≤ 2147483647) (r32i _) fun z37 q38 h39 => ?_
      exact mr_iret dX2_leastBelow_84 rfl (le_t rfl) (le_t rfl) T36 (mF.up (mF.call (mF.call mF.refl F10 rfl) F21 rfl) (A_87 hw) u35 rfl) ⟨h39, trivial⟩
    refine mr_iload (pc := 63) (z := z12) dX2_leastBelow_63 rfl ?_
    refine mr_iload (pc := 65) (z := z23) dX2_leastBelow_65 rfl ?_
    refine mr_iand (pc := 67) (x := z12) (y := z23) dX2_leastBelow_67 ?_
    refine mr_gen (P := fun z => (-2147483648) ≤ z ∧ z ≤ 2147483647) (r32i _) fun z40 q41 h42 => ?_
    exact mr_iret dX2_leastBelow_68 rfl (le_t rfl) (le_t rfl) T20 (mF.call (mF.call mF.refl F10 rfl) F21 rfl) ⟨h42, trivial⟩
  have h43 : 0 ≤ z5 ∧ z5 ≤ 0 := (vc_X12_ring_22 h6 h4.1)
  refine sv_aload_n (pc := 16) dX2_leastBelow_16 rfl rfl ?_
  refine mr_iload_n (pc := 17) (z := p1) dX2_leastBelow_17 rfl rfl ?_
  refine mr_iload_n (pc := 18) (z := p2) dX2_leastBelow_18 rfl rfl ?_
  refine mr_cVP (pc := 19) (c_X2_tieFor hw hT hp1 hp2 (vc_X9_end_1 hq0 hp1)) (gOk _ _ _ _ _) dX2_leastBelow_19 (tX2_tieFor _ _ _ _ _) ⟨wV_X2_tieFor, wL_X2_tieFor⟩ wM_X2_60 (gCX2 _ _ _ _ _) rfl (A_87 hw) rfl ⟨le_t rfl, le_t rfl⟩ ⟨le_t rfl, le_t rfl⟩ rfl (le_t rfl) fun z48 h47 => ?_
  refine mr_cSP (pc := 22) (c_X2_aimBit hw hT h47.1) (gOk _ _ _ _ _) dX2_leastBelow_22 (tX2_aimBit _ _ _ _ _) wS_X2_aimBit wM_X2_110 ⟨le_t rfl, le_t rfl⟩ ⟨le_t rfl, le_t rfl⟩ rfl (le_t rfl) fun z53 h52 => ?_
  exact mr_iret dX2_leastBelow_25 rfl (le_t rfl) (le_t rfl) hT mF.refl ⟨h52.1, trivial⟩
theorem vc_X2_leastBelow_2_1 {p3 : Int} (h0 : 32 ≤ p3) (h1 : 2 ≤ p3 ∧ p3 ≤ 2) : False := by omega
set_option maxRecDepth 4000 in
set_option maxHeartbeats 4000000 in
theorem c_X2_leastBelow_2 {l : Launch} {D : va_G} {c : Nat → ClassId} {H0 : Heap} {sa : Nat × Nat × (Nat → Int32)} {w : mW} {μ : mM} (hw : mWF w) (hT : mT w μ) {p1 : Int} (hp1 : 0 ≤ p1 ∧ p1 ≤ 9) {p2 : Int} (hp2 : (-2147483648) ≤ p2 ∧ p2 ≤ 2147483647) {p3 : Int} (hp3 : 2 ≤ p3 ∧ p3 ≤ 2) (hq0 : p1 < w.2.2.2 0) : sC (gG l D c H0 sa) mX2_leastBelow 33 0 0 [.ref 87, iv p1, iv p2, iv p3] (mk w μ) (qI w [87007] μ (fun z μ1 => ((-2147483648) ≤ z ∧ z ≤ 2147483647) ∧ True)) := by
  refine sC.of rfl (by decide) (le_t rfl) ?_
  refine mr_lvE (lv' := [(0, .ref 87), (1, iv p1), (2, iv p2), (3, iv p3)]) rfl ?_
  refine mr_iload_n (pc := 0) (z := p3) dX2_leastBelow_0 rfl rfl ?_
  refine mr_bipush (pc := 1) (z := 32) dX2_leastBelow_1 (by decide) ?_
  refine mr_icmp_ge (pc := 3) (tgt := 16) dX2_leastBelow_3 (by decide) (r32 hp3 rfl) (r32 (rR (x := 32)) rfl) (fun h => ((vc_X2_leastBelow_2_1 h hp3)).elim) (fun _ => ?_)
  refine sv_aload_n (pc := 6) dX2_leastBelow_6 rfl rfl ?_
  refine mr_iload_n (pc := 7) (z := p1) dX2_leastBelow_7 rfl rfl ?_
  refine mr_iload_n (pc := 8) (z := p2) dX2_leastBelow_8 rfl rfl ?_
  refine mr_iload_n (pc := 9) (z := p3) dX2_leastBelow_9 rfl rfl ?_
  refine mr_cVP (pc := 10) (c_X2_isSplit hw hT hp1 hp2 (rW (c := (-2147483648)) (d := 2147483647) hp3 rfl) (vc_X9_end_1 hq0 hp1)) (gOk _ _ _ _ _) dX2_leastBelow_10 (tX2_isSplit _ _ _ _ _) ⟨wV_X2_isSplit, wL_X2_isSplit⟩ wM_X2_106 (gCX2 _ _ _ _ _) rfl (A_87 hw) rfl ⟨le_t rfl, le_t rfl⟩ ⟨le_t rfl, le_t rfl⟩ rfl (le_t rfl) fun z5 h4 => ?_
  refine mr_if_ne (pc := 13) (tgt := 26) dX2_leastBelow_13 (by decide) (r32 h4.1 rfl) (fun h6 => ?_) (fun h6 => ?_)
  · have h7 : 1 ≤ z5 ∧ z5 ≤ 1 := (vc_X12_ring_24 h6 h4.1)
    refine sv_aload_n (pc := 26) dX2_leastBelow_26 rfl rfl ?_
    refine mr_iload_n (pc := 27) (z := p1) dX2_leastBelow_27 rfl rfl ?_
    refine mr_iload_n (pc := 28) (z := p2) dX2_leastBelow_28 rfl rfl ?_
    refine mr_iload_n (pc := 29) (z := p3) dX2_leastBelow_29 rfl rfl ?_
    refine mr_iconst (pc := 30) (z := 1) dX2_leastBelow_30 ?_
    refine mr_iadd (pc := 31) (x := p3) (y := 1) dX2_leastBelow_31 ?_
    refine mr_cVI (pc := 32) (c_X2_leastBelow_3 hw hT hp1 hp2 (rAdd (e := 3) (f := 3) hp3 (rR (x := 1)) rfl) (vc_X9_end_1 hq0 hp1)) (gOk _ _ _ _ _) dX2_leastBelow_32 (tX2_leastBelow _ _ _ _ _) ⟨wV_X2_leastBelow, wL_X2_leastBelow⟩ wM_X2_101 (gCX2 _ _ _ _ _) rfl (A_87 hw) rfl ⟨le_t rfl, le_t rfl⟩ ⟨le_t rfl, le_t rfl⟩ rfl (le_t rfl) fun z12 μ8 T9 F10 h11 => ?_
    refine mr_istore (pc := 35) (lv' := [(4, iv z12), (0, .ref 87), (1, iv p1), (2, iv p2), (3, iv p3)]) dX2_leastBelow_35 (by decide) rfl ?_
    refine sv_aload_n (pc := 37) dX2_leastBelow_37 rfl rfl ?_
    refine mr_iload_n (pc := 38) (z := p1) dX2_leastBelow_38 rfl rfl ?_
    refine mr_iload_n (pc := 39) (z := p2) dX2_leastBelow_39 rfl rfl ?_
    refine mr_iconst (pc := 40) (z := 1) dX2_leastBelow_40 ?_
    refine mr_bipush (pc := 41) (z := 31) dX2_leastBelow_41 (by decide) ?_
    refine mr_iload_n (pc := 43) (z := p3) dX2_leastBelow_43 rfl rfl ?_
    refine mr_isub (pc := 44) (x := 31) (y := p3) dX2_leastBelow_44 ?_
    refine mr_ishl (pc := 45) (x := 1) (y := (31 - p3)) dX2_leastBelow_45 ?_
    refine mr_gen (P := fun z => (-2147483648) ≤ z ∧ z ≤ 2147483647) (r32i _) fun z13 q14 h15 => ?_
    refine mr_ior (pc := 46) (x := p2) (y := z13) dX2_leastBelow_46 ?_
    refine mr_gen (P := fun z => (-2147483648) ≤ z ∧ z ≤ 2147483647) (r32i _) fun z16 q17 h18 => ?_
    refine mr_iload_n (pc := 47) (z := p3) dX2_leastBelow_47 rfl rfl ?_
    refine mr_iconst (pc := 48) (z := 1) dX2_leastBelow_48 ?_
    refine mr_iadd (pc := 49) (x := p3) (y := 1) dX2_leastBelow_49 ?_
    refine mr_cVI (pc := 50) (c_X2_leastBelow_3 hw T9 hp1 h18 (rAdd (e := 3) (f := 3) hp3 (rR (x := 1)) rfl) (vc_X9_end_1 hq0 hp1)) (gOk _ _ _ _ _) dX2_leastBelow_50 (tX2_leastBelow _ _ _ _ _) ⟨wV_X2_leastBelow, wL_X2_leastBelow⟩ wM_X2_101 (gCX2 _ _ _ _ _) rfl (A_87 hw) rfl ⟨le_t rfl, le_t rfl⟩ ⟨le_t rfl, le_t rfl⟩ rfl (le_t rfl) fun z23 μ19 T20 F21 h22 => ?_
    refine mr_istore (pc := 53) (lv' := [(5, iv z23), (4, iv z12), (0, .ref 87), (1, iv p1), (2, iv p2), (3, iv p3)]) dX2_leastBelow_53 (by decide) rfl ?_
    refine mr_iload (pc := 55) (z := z12) dX2_leastBelow_55 rfl ?_
    refine mr_iload (pc := 57) (z := z23) dX2_leastBelow_57 rfl ?_
    refine mr_iand (pc := 59) (x := z12) (y := z23) dX2_leastBelow_59 ?_
    refine mr_gen (P := fun z => (-2147483648) ≤ z ∧ z ≤ 2147483647) (r32i _) fun z24 q25 h26 => ?_
    refine mr_if_eq (pc := 60) (tgt := 69) dX2_leastBelow_60 (by decide) h26 (fun h27 => ?_) (fun h27 => ?_)
    · have h28 : 0 ≤ z24 ∧ z24 ≤ 0 := (vc_X12_mask_1 h27 h26)
      refine sv_aload_n (pc := 69) dX2_leastBelow_69 rfl rfl ?_
      refine sv_dup (pc := 70) dX2_leastBelow_70 rfl ?_
      refine gf_X2_7 (pc := 71) dX2_leastBelow_71 wF_X2_98 (A_87 hw) T20 fun z29 q30 h31 => ?_
      refine mr_iconst (pc := 74) (z := 1) dX2_leastBelow_74 ?_
      refine mr_iadd (pc := 75) (x := z29) (y := 1) dX2_leastBelow_75 ?_
      refine mr_wrap fun z32 h33 => ?_
      refine pf_X2_7 (pc := 76) dX2_leastBelow_76 wF_X2_98 (A_87 hw) T20 h33 fun μ34 u35 T36 => ?_
      refine mr_iload (pc := 79) (z := z12) dX2_leastBelow_79 rfl ?_
      refine mr_iload (pc := 81) (z := z23) dX2_leastBelow_81 rfl ?_
      refine mr_ior (pc := 83) (x := z12) (y := z23) dX2_leastBelow_83 ?_
      refine mr_gen (P := fun z => (-2147483648) ≤ z ∧ z ≤ 2147483647) (r32i _) fun z37 q38 h39 => ?_
      exact mr_iret dX2_leastBelow_84 rfl (le_t rfl) (le_t rfl) T36 (mF.up (mF.call (mF.call mF.refl F10 rfl) F21 rfl) (A_87 hw) u35 rfl) ⟨h39, trivial⟩
    refine mr_iload (pc := 63) (z := z12) dX2_leastBelow_63 rfl ?_
    refine mr_iload (pc := 65) (z := z23) dX2_leastBelow_65 rfl ?_
    refine mr_iand (pc := 67) (x := z12) (y := z23) dX2_leastBelow_67 ?_
    refine mr_gen (P := fun z => (-2147483648) ≤ z ∧ z ≤ 2147483647) (r32i _) fun z40 q41 h42 => ?_
    exact mr_iret dX2_leastBelow_68 rfl (le_t rfl) (le_t rfl) T20 (mF.call (mF.call mF.refl F10 rfl) F21 rfl) ⟨h42, trivial⟩
  have h43 : 0 ≤ z5 ∧ z5 ≤ 0 := (vc_X12_ring_22 h6 h4.1)
  refine sv_aload_n (pc := 16) dX2_leastBelow_16 rfl rfl ?_
  refine mr_iload_n (pc := 17) (z := p1) dX2_leastBelow_17 rfl rfl ?_
  refine mr_iload_n (pc := 18) (z := p2) dX2_leastBelow_18 rfl rfl ?_
  refine mr_cVP (pc := 19) (c_X2_tieFor hw hT hp1 hp2 (vc_X9_end_1 hq0 hp1)) (gOk _ _ _ _ _) dX2_leastBelow_19 (tX2_tieFor _ _ _ _ _) ⟨wV_X2_tieFor, wL_X2_tieFor⟩ wM_X2_60 (gCX2 _ _ _ _ _) rfl (A_87 hw) rfl ⟨le_t rfl, le_t rfl⟩ ⟨le_t rfl, le_t rfl⟩ rfl (le_t rfl) fun z48 h47 => ?_
  refine mr_cSP (pc := 22) (c_X2_aimBit hw hT h47.1) (gOk _ _ _ _ _) dX2_leastBelow_22 (tX2_aimBit _ _ _ _ _) wS_X2_aimBit wM_X2_110 ⟨le_t rfl, le_t rfl⟩ ⟨le_t rfl, le_t rfl⟩ rfl (le_t rfl) fun z53 h52 => ?_
  exact mr_iret dX2_leastBelow_25 rfl (le_t rfl) (le_t rfl) hT mF.refl ⟨h52.1, trivial⟩
theorem vc_X2_leastBelow_1_1 {p3 : Int} (h0 : 32 ≤ p3) (h1 : 1 ≤ p3 ∧ p3 ≤ 1) : False := by omega
set_option maxRecDepth 4000 in
set_option maxHeartbeats 4000000 in
theorem c_X2_leastBelow_1 {l : Launch} {D : va_G} {c : Nat → ClassId} {H0 : Heap} {sa : Nat × Nat × (Nat → Int32)} {w : mW} {μ : mM} (hw : mWF w) (hT : mT w μ) {p1 : Int} (hp1 : 0 ≤ p1 ∧ p1 ≤ 9) {p2 : Int} (hp2 : (-2147483648) ≤ p2 ∧ p2 ≤ 2147483647) {p3 : Int} (hp3 : 1 ≤ p3 ∧ p3 ≤ 1) (hq0 : p1 < w.2.2.2 0) : sC (gG l D c H0 sa) mX2_leastBelow 34 0 0 [.ref 87, iv p1, iv p2, iv p3] (mk w μ) (qI w [87007] μ (fun z μ1 => ((-2147483648) ≤ z ∧ z ≤ 2147483647) ∧ True)) := by
  refine sC.of rfl (by decide) (le_t rfl) ?_
  refine mr_lvE (lv' := [(0, .ref 87), (1, iv p1), (2, iv p2), (3, iv p3)]) rfl ?_
  refine mr_iload_n (pc := 0) (z := p3) dX2_leastBelow_0 rfl rfl ?_
  refine mr_bipush (pc := 1) (z := 32) dX2_leastBelow_1 (by decide) ?_
  refine mr_icmp_ge (pc := 3) (tgt := 16) dX2_leastBelow_3 (by decide) (r32 hp3 rfl) (r32 (rR (x := 32)) rfl) (fun h => ((vc_X2_leastBelow_1_1 h hp3)).elim) (fun _ => ?_)
  refine sv_aload_n (pc := 6) dX2_leastBelow_6 rfl rfl ?_
  refine mr_iload_n (pc := 7) (z := p1) dX2_leastBelow_7 rfl rfl ?_
  refine mr_iload_n (pc := 8) (z := p2) dX2_leastBelow_8 rfl rfl ?_
  refine mr_iload_n (pc := 9) (z := p3) dX2_leastBelow_9 rfl rfl ?_
  refine mr_cVP (pc := 10) (c_X2_isSplit hw hT hp1 hp2 (rW (c := (-2147483648)) (d := 2147483647) hp3 rfl) (vc_X9_end_1 hq0 hp1)) (gOk _ _ _ _ _) dX2_leastBelow_10 (tX2_isSplit _ _ _ _ _) ⟨wV_X2_isSplit, wL_X2_isSplit⟩ wM_X2_106 (gCX2 _ _ _ _ _) rfl (A_87 hw) rfl ⟨le_t rfl, le_t rfl⟩ ⟨le_t rfl, le_t rfl⟩ rfl (le_t rfl) fun z5 h4 => ?_
  refine mr_if_ne (pc := 13) (tgt := 26) dX2_leastBelow_13 (by decide) (r32 h4.1 rfl) (fun h6 => ?_) (fun h6 => ?_)
  · have h7 : 1 ≤ z5 ∧ z5 ≤ 1 := (vc_X12_ring_24 h6 h4.1)
    refine sv_aload_n (pc := 26) dX2_leastBelow_26 rfl rfl ?_
    refine mr_iload_n (pc := 27) (z := p1) dX2_leastBelow_27 rfl rfl ?_
    refine mr_iload_n (pc := 28) (z := p2) dX2_leastBelow_28 rfl rfl ?_
    refine mr_iload_n (pc := 29) (z := p3) dX2_leastBelow_29 rfl rfl ?_
    refine mr_iconst (pc := 30) (z := 1) dX2_leastBelow_30 ?_
    refine mr_iadd (pc := 31) (x := p3) (y := 1) dX2_leastBelow_31 ?_
    refine mr_cVI (pc := 32) (c_X2_leastBelow_2 hw hT hp1 hp2 (rAdd (e := 2) (f := 2) hp3 (rR (x := 1)) rfl) (vc_X9_end_1 hq0 hp1)) (gOk _ _ _ _ _) dX2_leastBelow_32 (tX2_leastBelow _ _ _ _ _) ⟨wV_X2_leastBelow, wL_X2_leastBelow⟩ wM_X2_101 (gCX2 _ _ _ _ _) rfl (A_87 hw) rfl ⟨le_t rfl, le_t rfl⟩ ⟨le_t rfl, le_t rfl⟩ rfl (le_t rfl) fun z12 μ8 T9 F10 h11 => ?_
    refine mr_istore (pc := 35) (lv' := [(4, iv z12), (0, .ref 87), (1, iv p1), (2, iv p2), (3, iv p3)]) dX2_leastBelow_35 (by decide) rfl ?_
    refine sv_aload_n (pc := 37) dX2_leastBelow_37 rfl rfl ?_
    refine mr_iload_n (pc := 38) (z := p1) dX2_leastBelow_38 rfl rfl ?_
    refine mr_iload_n (pc := 39) (z := p2) dX2_leastBelow_39 rfl rfl ?_
    refine mr_iconst (pc := 40) (z := 1) dX2_leastBelow_40 ?_
    refine mr_bipush (pc := 41) (z := 31) dX2_leastBelow_41 (by decide) ?_
    refine mr_iload_n (pc := 43) (z := p3) dX2_leastBelow_43 rfl rfl ?_
    refine mr_isub (pc := 44) (x := 31) (y := p3) dX2_leastBelow_44 ?_
    refine mr_ishl (pc := 45) (x := 1) (y := (31 - p3)) dX2_leastBelow_45 ?_
    refine mr_gen (P := fun z => (-2147483648) ≤ z ∧ z ≤ 2147483647) (r32i _) fun z13 q14 h15 => ?_
    refine mr_ior (pc := 46) (x := p2) (y := z13) dX2_leastBelow_46 ?_
    refine mr_gen (P := fun z => (-2147483648) ≤ z ∧ z ≤ 2147483647) (r32i _) fun z16 q17 h18 => ?_
    refine mr_iload_n (pc := 47) (z := p3) dX2_leastBelow_47 rfl rfl ?_
    refine mr_iconst (pc := 48) (z := 1) dX2_leastBelow_48 ?_
    refine mr_iadd (pc := 49) (x := p3) (y := 1) dX2_leastBelow_49 ?_
    refine mr_cVI (pc := 50) (c_X2_leastBelow_2 hw T9 hp1 h18 (rAdd (e := 2) (f := 2) hp3 (rR (x := 1)) rfl) (vc_X9_end_1 hq0 hp1)) (gOk _ _ _ _ _) dX2_leastBelow_50 (tX2_leastBelow _ _ _ _ _) ⟨wV_X2_leastBelow, wL_X2_leastBelow⟩ wM_X2_101 (gCX2 _ _ _ _ _) rfl (A_87 hw) rfl ⟨le_t rfl, le_t rfl⟩ ⟨le_t rfl, le_t rfl⟩ rfl (le_t rfl) fun z23 μ19 T20 F21 h22 => ?_
    refine mr_istore (pc := 53) (lv' := [(5, iv z23), (4, iv z12), (0, .ref 87), (1, iv p1), (2, iv p2), (3, iv p3)]) dX2_leastBelow_53 (by decide) rfl ?_
    refine mr_iload (pc := 55) (z := z12) dX2_leastBelow_55 rfl ?_
    refine mr_iload (pc := 57) (z := z23) dX2_leastBelow_57 rfl ?_
    refine mr_iand (pc := 59) (x := z12) (y := z23) dX2_leastBelow_59 ?_
    refine mr_gen (P := fun z => (-2147483648) ≤ z ∧ z ≤ 2147483647) (r32i _) fun z24 q25 h26 => ?_
    refine mr_if_eq (pc := 60) (tgt := 69) dX2_leastBelow_60 (by decide) h26 (fun h27 => ?_) (fun h27 => ?_)
    · have h28 : 0 ≤ z24 ∧ z24 ≤ 0 := (vc_X12_mask_1 h27 h26)
      refine sv_aload_n (pc := 69) dX2_leastBelow_69 rfl rfl ?_
      refine sv_dup (pc := 70) dX2_leastBelow_70 rfl ?_
      refine gf_X2_7 (pc := 71) dX2_leastBelow_71 wF_X2_98 (A_87 hw) T20 fun z29 q30 h31 => ?_
      refine mr_iconst (pc := 74) (z := 1) dX2_leastBelow_74 ?_
      refine mr_iadd (pc := 75) (x := z29) (y := 1) dX2_leastBelow_75 ?_
      refine mr_wrap fun z32 h33 => ?_
      refine pf_X2_7 (pc := 76) dX2_leastBelow_76 wF_X2_98 (A_87 hw) T20 h33 fun μ34 u35 T36 => ?_
      refine mr_iload (pc := 79) (z := z12) dX2_leastBelow_79 rfl ?_
      refine mr_iload (pc := 81) (z := z23) dX2_leastBelow_81 rfl ?_
      refine mr_ior (pc := 83) (x := z12) (y := z23) dX2_leastBelow_83 ?_
      refine mr_gen (P := fun z => (-2147483648) ≤ z ∧ z ≤ 2147483647) (r32i _) fun z37 q38 h39 => ?_
      exact mr_iret dX2_leastBelow_84 rfl (le_t rfl) (le_t rfl) T36 (mF.up (mF.call (mF.call mF.refl F10 rfl) F21 rfl) (A_87 hw) u35 rfl) ⟨h39, trivial⟩
    refine mr_iload (pc := 63) (z := z12) dX2_leastBelow_63 rfl ?_
    refine mr_iload (pc := 65) (z := z23) dX2_leastBelow_65 rfl ?_
    refine mr_iand (pc := 67) (x := z12) (y := z23) dX2_leastBelow_67 ?_
    refine mr_gen (P := fun z => (-2147483648) ≤ z ∧ z ≤ 2147483647) (r32i _) fun z40 q41 h42 => ?_
    exact mr_iret dX2_leastBelow_68 rfl (le_t rfl) (le_t rfl) T20 (mF.call (mF.call mF.refl F10 rfl) F21 rfl) ⟨h42, trivial⟩
  have h43 : 0 ≤ z5 ∧ z5 ≤ 0 := (vc_X12_ring_22 h6 h4.1)
  refine sv_aload_n (pc := 16) dX2_leastBelow_16 rfl rfl ?_
  refine mr_iload_n (pc := 17) (z := p1) dX2_leastBelow_17 rfl rfl ?_
  refine mr_iload_n (pc := 18) (z := p2) dX2_leastBelow_18 rfl rfl ?_
  refine mr_cVP (pc := 19) (c_X2_tieFor hw hT hp1 hp2 (vc_X9_end_1 hq0 hp1)) (gOk _ _ _ _ _) dX2_leastBelow_19 (tX2_tieFor _ _ _ _ _) ⟨wV_X2_tieFor, wL_X2_tieFor⟩ wM_X2_60 (gCX2 _ _ _ _ _) rfl (A_87 hw) rfl ⟨le_t rfl, le_t rfl⟩ ⟨le_t rfl, le_t rfl⟩ rfl (le_t rfl) fun z48 h47 => ?_
  refine mr_cSP (pc := 22) (c_X2_aimBit hw hT h47.1) (gOk _ _ _ _ _) dX2_leastBelow_22 (tX2_aimBit _ _ _ _ _) wS_X2_aimBit wM_X2_110 ⟨le_t rfl, le_t rfl⟩ ⟨le_t rfl, le_t rfl⟩ rfl (le_t rfl) fun z53 h52 => ?_
  exact mr_iret dX2_leastBelow_25 rfl (le_t rfl) (le_t rfl) hT mF.refl ⟨h52.1, trivial⟩
theorem vc_X2_leastBelow_0_1 {p3 : Int} (h0 : 32 ≤ p3) (h1 : 0 ≤ p3 ∧ p3 ≤ 0) : False := by omega
set_option maxRecDepth 4000 in
set_option maxHeartbeats 4000000 in
theorem c_X2_leastBelow_0 {l : Launch} {D : va_G} {c : Nat → ClassId} {H0 : Heap} {sa : Nat × Nat × (Nat → Int32)} {w : mW} {μ : mM} (hw : mWF w) (hT : mT w μ) {p1 : Int} (hp1 : 0 ≤ p1 ∧ p1 ≤ 9) {p2 : Int} (hp2 : (-2147483648) ≤ p2 ∧ p2 ≤ 2147483647) {p3 : Int} (hp3 : 0 ≤ p3 ∧ p3 ≤ 0) (hq0 : p1 < w.2.2.2 0) : sC (gG l D c H0 sa) mX2_leastBelow 35 0 0 [.ref 87, iv p1, iv p2, iv p3] (mk w μ) (qI w [87007] μ (fun z μ1 => ((-2147483648) ≤ z ∧ z ≤ 2147483647) ∧ True)) := by
  refine sC.of rfl (by decide) (le_t rfl) ?_
  refine mr_lvE (lv' := [(0, .ref 87), (1, iv p1), (2, iv p2), (3, iv p3)]) rfl ?_
  refine mr_iload_n (pc := 0) (z := p3) dX2_leastBelow_0 rfl rfl ?_
  refine mr_bipush (pc := 1) (z := 32) dX2_leastBelow_1 (by decide) ?_
  refine mr_icmp_ge (pc := 3) (tgt := 16) dX2_leastBelow_3 (by decide) (r32 hp3 rfl) (r32 (rR (x := 32)) rfl) (fun h => ((vc_X2_leastBelow_0_1 h hp3)).elim) (fun _ => ?_)
  refine sv_aload_n (pc := 6) dX2_leastBelow_6 rfl rfl ?_
  refine mr_iload_n (pc := 7) (z := p1) dX2_leastBelow_7 rfl rfl ?_
  refine mr_iload_n (pc := 8) (z := p2) dX2_leastBelow_8 rfl rfl ?_
  refine mr_iload_n (pc := 9) (z := p3) dX2_leastBelow_9 rfl rfl ?_
  refine mr_cVP (pc := 10) (c_X2_isSplit hw hT hp1 hp2 (rW (c := (-2147483648)) (d := 2147483647) hp3 rfl) (vc_X9_end_1 hq0 hp1)) (gOk _ _ _ _ _) dX2_leastBelow_10 (tX2_isSplit _ _ _ _ _) ⟨wV_X2_isSplit, wL_X2_isSplit⟩ wM_X2_106 (gCX2 _ _ _ _ _) rfl (A_87 hw) rfl ⟨le_t rfl, le_t rfl⟩ ⟨le_t rfl, le_t rfl⟩ rfl (le_t rfl) fun z5 h4 => ?_
  refine mr_if_ne (pc := 13) (tgt := 26) dX2_leastBelow_13 (by decide) (r32 h4.1 rfl) (fun h6 => ?_) (fun h6 => ?_)
  · have h7 : 1 ≤ z5 ∧ z5 ≤ 1 := (vc_X12_ring_24 h6 h4.1)
    refine sv_aload_n (pc := 26) dX2_leastBelow_26 rfl rfl ?_
    refine mr_iload_n (pc := 27) (z := p1) dX2_leastBelow_27 rfl rfl ?_
    refine mr_iload_n (pc := 28) (z := p2) dX2_leastBelow_28 rfl rfl ?_
    refine mr_iload_n (pc := 29) (z := p3) dX2_leastBelow_29 rfl rfl ?_
    refine mr_iconst (pc := 30) (z := 1) dX2_leastBelow_30 ?_
    refine mr_iadd (pc := 31) (x := p3) (y := 1) dX2_leastBelow_31 ?_
    refine mr_cVI (pc := 32) (c_X2_leastBelow_1 hw hT hp1 hp2 (rAdd (e := 1) (f := 1) hp3 (rR (x := 1)) rfl) (vc_X9_end_1 hq0 hp1)) (gOk _ _ _ _ _) dX2_leastBelow_32 (tX2_leastBelow _ _ _ _ _) ⟨wV_X2_leastBelow, wL_X2_leastBelow⟩ wM_X2_101 (gCX2 _ _ _ _ _) rfl (A_87 hw) rfl ⟨le_t rfl, le_t rfl⟩ ⟨le_t rfl, le_t rfl⟩ rfl (le_t rfl) fun z12 μ8 T9 F10 h11 => ?_
    refine mr_istore (pc := 35) (lv' := [(4, iv z12), (0, .ref 87), (1, iv p1), (2, iv p2), (3, iv p3)]) dX2_leastBelow_35 (by decide) rfl ?_
    refine sv_aload_n (pc := 37) dX2_leastBelow_37 rfl rfl ?_
    refine mr_iload_n (pc := 38) (z := p1) dX2_leastBelow_38 rfl rfl ?_
    refine mr_iload_n (pc := 39) (z := p2) dX2_leastBelow_39 rfl rfl ?_
    refine mr_iconst (pc := 40) (z := 1) dX2_leastBelow_40 ?_
    refine mr_bipush (pc := 41) (z := 31) dX2_leastBelow_41 (by decide) ?_
    refine mr_iload_n (pc := 43) (z := p3) dX2_leastBelow_43 rfl rfl ?_
    refine mr_isub (pc := 44) (x := 31) (y := p3) dX2_leastBelow_44 ?_
    refine mr_ishl (pc := 45) (x := 1) (y := (31 - p3)) dX2_leastBelow_45 ?_
    refine mr_gen (P := fun z => (-2147483648) ≤ z ∧ z ≤ 2147483647) (r32i _) fun z13 q14 h15 => ?_
    refine mr_ior (pc := 46) (x := p2) (y := z13) dX2_leastBelow_46 ?_
    refine mr_gen (P := fun z => (-2147483648) ≤ z ∧ z ≤ 2147483647) (r32i _) fun z16 q17 h18 => ?_
    refine mr_iload_n (pc := 47) (z := p3) dX2_leastBelow_47 rfl rfl ?_
    refine mr_iconst (pc := 48) (z := 1) dX2_leastBelow_48 ?_
    refine mr_iadd (pc := 49) (x := p3) (y := 1) dX2_leastBelow_49 ?_
    refine mr_cVI (pc := 50) (c_X2_leastBelow_1 hw T9 hp1 h18 (rAdd (e := 1) (f := 1) hp3 (rR (x := 1)) rfl) (vc_X9_end_1 hq0 hp1)) (gOk _ _ _ _ _) dX2_leastBelow_50 (tX2_leastBelow _ _ _ _ _) ⟨wV_X2_leastBelow, wL_X2_leastBelow⟩ wM_X2_101 (gCX2 _ _ _ _ _) rfl (A_87 hw) rfl ⟨le_t rfl, le_t rfl⟩ ⟨le_t rfl, le_t rfl⟩ rfl (le_t rfl) fun z23 μ19 T20 F21 h22 => ?_
    refine mr_istore (pc := 53) (lv' := [(5, iv z23), (4, iv z12), (0, .ref 87), (1, iv p1), (2, iv p2), (3, iv p3)]) dX2_leastBelow_53 (by decide) rfl ?_
    refine mr_iload (pc := 55) (z := z12) dX2_leastBelow_55 rfl ?_
    refine mr_iload (pc := 57) (z := z23) dX2_leastBelow_57 rfl ?_
    refine mr_iand (pc := 59) (x := z12) (y := z23) dX2_leastBelow_59 ?_
    refine mr_gen (P := fun z => (-2147483648) ≤ z ∧ z ≤ 2147483647) (r32i _) fun z24 q25 h26 => ?_
    refine mr_if_eq (pc := 60) (tgt := 69) dX2_leastBelow_60 (by decide) h26 (fun h27 => ?_) (fun h27 => ?_)
    · have h28 : 0 ≤ z24 ∧ z24 ≤ 0 := (vc_X12_mask_1 h27 h26)
      refine sv_aload_n (pc := 69) dX2_leastBelow_69 rfl rfl ?_
      refine sv_dup (pc := 70) dX2_leastBelow_70 rfl ?_
      refine gf_X2_7 (pc := 71) dX2_leastBelow_71 wF_X2_98 (A_87 hw) T20 fun z29 q30 h31 => ?_
      refine mr_iconst (pc := 74) (z := 1) dX2_leastBelow_74 ?_
      refine mr_iadd (pc := 75) (x := z29) (y := 1) dX2_leastBelow_75 ?_
      refine mr_wrap fun z32 h33 => ?_
      refine pf_X2_7 (pc := 76) dX2_leastBelow_76 wF_X2_98 (A_87 hw) T20 h33 fun μ34 u35 T36 => ?_
      refine mr_iload (pc := 79) (z := z12) dX2_leastBelow_79 rfl ?_
      refine mr_iload (pc := 81) (z := z23) dX2_leastBelow_81 rfl ?_
      refine mr_ior (pc := 83) (x := z12) (y := z23) dX2_leastBelow_83 ?_
      refine mr_gen (P := fun z => (-2147483648) ≤ z ∧ z ≤ 2147483647) (r32i _) fun z37 q38 h39 => ?_
      exact mr_iret dX2_leastBelow_84 rfl (le_t rfl) (le_t rfl) T36 (mF.up (mF.call (mF.call mF.refl F10 rfl) F21 rfl) (A_87 hw) u35 rfl) ⟨h39, trivial⟩
    refine mr_iload (pc := 63) (z := z12) dX2_leastBelow_63 rfl ?_
    refine mr_iload (pc := 65) (z := z23) dX2_leastBelow_65 rfl ?_
    refine mr_iand (pc := 67) (x := z12) (y := z23) dX2_leastBelow_67 ?_
    refine mr_gen (P := fun z => (-2147483648) ≤ z ∧ z ≤ 2147483647) (r32i _) fun z40 q41 h42 => ?_
    exact mr_iret dX2_leastBelow_68 rfl (le_t rfl) (le_t rfl) T20 (mF.call (mF.call mF.refl F10 rfl) F21 rfl) ⟨h42, trivial⟩
  have h43 : 0 ≤ z5 ∧ z5 ≤ 0 := (vc_X12_ring_22 h6 h4.1)
  refine sv_aload_n (pc := 16) dX2_leastBelow_16 rfl rfl ?_
  refine mr_iload_n (pc := 17) (z := p1) dX2_leastBelow_17 rfl rfl ?_
  refine mr_iload_n (pc := 18) (z := p2) dX2_leastBelow_18 rfl rfl ?_
  refine mr_cVP (pc := 19) (c_X2_tieFor hw hT hp1 hp2 (vc_X9_end_1 hq0 hp1)) (gOk _ _ _ _ _) dX2_leastBelow_19 (tX2_tieFor _ _ _ _ _) ⟨wV_X2_tieFor, wL_X2_tieFor⟩ wM_X2_60 (gCX2 _ _ _ _ _) rfl (A_87 hw) rfl ⟨le_t rfl, le_t rfl⟩ ⟨le_t rfl, le_t rfl⟩ rfl (le_t rfl) fun z48 h47 => ?_
  refine mr_cSP (pc := 22) (c_X2_aimBit hw hT h47.1) (gOk _ _ _ _ _) dX2_leastBelow_22 (tX2_aimBit _ _ _ _ _) wS_X2_aimBit wM_X2_110 ⟨le_t rfl, le_t rfl⟩ ⟨le_t rfl, le_t rfl⟩ rfl (le_t rfl) fun z53 h52 => ?_
  exact mr_iret dX2_leastBelow_25 rfl (le_t rfl) (le_t rfl) hT mF.refl ⟨h52.1, trivial⟩
theorem vc_X2_leastTable_2 {z9 : Int} (h0 : z9 = 0) (h1 : 0 ≤ z9 ∧ z9 ≤ 2097152) : 0 ≤ z9 ∧ z9 ≤ 0 := by omega
theorem vc_X2_leastTable_3 {z9 : Int} (h0 : ¬ z9 = 0) (h1 : 0 ≤ z9 ∧ z9 ≤ 2097152) : 1 ≤ z9 ∧ z9 ≤ 2097152 := by omega
set_option maxRecDepth 4000 in
set_option maxHeartbeats 4000000 in
theorem c_X2_leastTable {l : Launch} {D : va_G} {c : Nat → ClassId} {H0 : Heap} {sa : Nat × Nat × (Nat → Int32)} {w : mW} {μ : mM} (hw : mWF w) (hT : mT w μ) {p1 : Int} (hp1 : 0 ≤ p1 ∧ p1 ≤ 9) (hq0 : p1 < w.2.2.2 0) : sC (gG l D c H0 sa) mX2_leastTable 36 0 0 [.ref 87, iv p1] (mk w μ) (qI w [87007] μ (fun z μ1 => ((-2147483648) ≤ z ∧ z ≤ 2147483647) ∧ True)) := by
  refine sC.of rfl (by decide) (le_t rfl) ?_
  refine mr_lvE (lv' := [(0, .ref 87), (1, iv p1)]) rfl ?_
  refine sv_aload_n (pc := 0) dX2_leastTable_0 rfl rfl ?_
  refine mr_iconst (pc := 1) (z := 0) dX2_leastTable_1 ?_
  refine pf_X2_7 (pc := 2) dX2_leastTable_2 wF_X2_98 (A_87 hw) hT (rW (c := (-2147483648)) (d := 2147483647) (rR (x := 0)) rfl) fun μ1 u2 T3 => ?_
  refine sv_aload_n (pc := 5) dX2_leastTable_5 rfl rfl ?_
  refine mr_iload_n (pc := 6) (z := p1) dX2_leastTable_6 rfl rfl ?_
  refine mr_iconst (pc := 7) (z := 0) dX2_leastTable_7 ?_
  refine mr_iconst (pc := 8) (z := 0) dX2_leastTable_8 ?_
  refine mr_cVI (pc := 9) (c_X2_leastBelow_0 hw T3 hp1 (rW (c := (-2147483648)) (d := 2147483647) (rR (x := 0)) rfl) (rR (x := 0)) (vc_X9_end_1 hq0 hp1)) (gOk _ _ _ _ _) dX2_leastTable_9 (tX2_leastBelow _ _ _ _ _) ⟨wV_X2_leastBelow, wL_X2_leastBelow⟩ wM_X2_101 (gCX2 _ _ _ _ _) rfl (A_87 hw) rfl ⟨le_t rfl, le_t rfl⟩ ⟨le_t rfl, le_t rfl⟩ rfl (le_t rfl) fun z8 μ4 T5 F6 h7 => ?_
  refine mr_istore_n (pc := 12) (lv' := [(2, iv z8), (0, .ref 87), (1, iv p1)]) dX2_leastTable_12 rfl (by decide) rfl ?_
  refine mr_iload_n (pc := 13) (z := z8) dX2_leastTable_13 rfl rfl ?_
  refine mr_ldc (pc := 14) (z := 2097152) dX2_leastTable_14 wG_X2_105 (by decide) ?_
  refine mr_iand (pc := 16) (x := z8) (y := 2097152) dX2_leastTable_16 ?_
  refine mr_gen (P := fun z => 0 ≤ z ∧ z ≤ 2097152) (rAndR (rR (x := 2097152)) rfl) fun z9 q10 h11 => ?_
  refine mr_if_eq (pc := 17) (tgt := 27) dX2_leastTable_17 (by decide) (r32 h11 rfl) (fun h22 => ?_) (fun h22 => ?_)
  · have h23 : 0 ≤ z9 ∧ z9 ≤ 0 := (vc_X2_leastTable_2 h22 h11)
    refine sv_aload_n (pc := 27) dX2_leastTable_27 rfl rfl ?_
    refine gf_X2_7 (pc := 28) dX2_leastTable_28 wF_X2_98 (A_87 hw) T5 fun z24 q25 h26 => ?_
    refine mr_iconst (pc := 31) (z := 1) dX2_leastTable_31 ?_
    refine mr_iadd (pc := 32) (x := z24) (y := 1) dX2_leastTable_32 ?_
    refine mr_wrap fun z27 h28 => ?_
    exact mr_iret dX2_leastTable_33 rfl (le_t rfl) (le_t rfl) T5 (mF.call (mF.up mF.refl (A_87 hw) u2 rfl) F6 rfl) ⟨h28, trivial⟩
  have h29 : 1 ≤ z9 ∧ z9 ≤ 2097152 := (vc_X2_leastTable_3 h22 h11)
  refine sv_aload_n (pc := 20) dX2_leastTable_20 rfl rfl ?_
  refine gf_X2_7 (pc := 21) dX2_leastTable_21 wF_X2_98 (A_87 hw) T5 fun z30 q31 h32 => ?_
  refine sv_goto (pc := 24) (tgt := 33) dX2_leastTable_24 (by decide) ?_
  exact mr_iret dX2_leastTable_33 rfl (le_t rfl) (le_t rfl) T5 (mF.call (mF.up mF.refl (A_87 hw) u2 rfl) F6 rfl) ⟨h32, trivial⟩
set_option maxRecDepth 4000 in
set_option maxHeartbeats 4000000 in
theorem c_X11_least {l : Launch} {D : va_G} {c : Nat → ClassId} {H0 : Heap} {sa : Nat × Nat × (Nat → Int32)} {w : mW} {μ : mM} (hw : mWF w) (hT : mT w μ) {p1 : Int} (hp1 : (-2147483648) ≤ p1 ∧ p1 ≤ 2147483647) : sC (gG l D c H0 sa) mX11_least 37 0 0 [.ref 0, iv p1] (mk w μ) (qI w [87007] μ (fun z μ1 => ((-2147483648) ≤ z ∧ z ≤ 2147483647) ∧ True)) := by
  refine sC.of rfl (by decide) (le_t rfl) ?_
  refine mr_lvE (lv' := [(0, .ref 0), (1, iv p1)]) rfl ?_
  refine sv_aload_n (pc := 0) dX11_least_0 rfl rfl ?_
  refine mr_iload_n (pc := 1) (z := p1) dX11_least_1 rfl rfl ?_
  obtain ⟨z1, q2⟩ : ∃ z, μ 6 15 = z := ⟨_, rfl⟩
  have h3 : (z1 = w.2.2.2 0 ∧ 0 ≤ z1 ∧ z1 ≤ 10) := by rw [← q2]; exact hT 6 6 (A_6 hw) 15
  refine mr_cVP (pc := 2) (c_X11_isDomain hw hT hp1 q2) (gOk _ _ _ _ _) dX11_least_2 (tX11_isDomain _ _ _ _ _) ⟨wV_X11_isDomain, wL_X11_isDomain⟩ wM_X11_105 (gCX11 _ _ _ _ _) rfl (A_0 hw) rfl ⟨le_t rfl, le_t rfl⟩ ⟨le_t rfl, le_t rfl⟩ rfl (le_t rfl) fun z8 h7 => ?_
  refine mr_if_eq (pc := 5) (tgt := 19) dX11_least_5 (by decide) (r32 h7.1 rfl) (fun h20 => ?_) (fun h20 => ?_)
  · have h21 : 0 ≤ z8 ∧ z8 ≤ 0 := (vc_X12_write_78 h20 h7.2.1 h7.2.2.1 hp1 h3.2 h7.1)
    have h22 : p1 < 0 ∨ z1 ≤ p1 := (h7.2.2.1 (vc_X11_picked_2 h7.2.1 h7.2.2.1 h20 h3.1 hp1 h3.2 h21))
    refine mr_iconst (pc := 19) (z := (-1)) dX11_least_19 ?_
    exact mr_iret dX11_least_20 rfl (le_t rfl) (le_t rfl) hT mF.refl ⟨(rW (c := (-2147483648)) (d := 2147483647) (rR (x := (-1))) rfl), trivial⟩
  have h23 : 1 ≤ z8 ∧ z8 ≤ 1 := (vc_X12_write_12 h20 h7.2.1 h7.2.2.1 hp1 h3.2 h7.1)
  have h24 : 0 ≤ p1 ∧ p1 < z1 := (h7.2.1 (vc_X11_picked_4 h7.2.1 h7.2.2.1 h20 h3.1 hp1 h3.2 h23))
  have h25 : 0 ≤ p1 ∧ p1 ≤ 9 := (vc_X11_picked_5 h24 h3.1 h7.2.1 h7.2.2.1 hp1 h3.2 h23)
  have h26 : 1 ≤ z1 ∧ z1 ≤ 10 := (vc_X11_picked_6 h24 h3.1 h7.2.1 h7.2.2.1 h25 h3.2 h23)
  refine sv_aload_n (pc := 8) dX11_least_8 rfl rfl ?_
  refine gf_X11_8 (pc := 9) dX11_least_9 wF_X11_65 (A_0 hw) hT ?_
  refine mr_iload_n (pc := 12) (z := p1) dX11_least_12 rfl rfl ?_
  refine mr_cVI (pc := 13) (c_X2_leastTable hw hT h25 (vc_X11_picked_10 h3.1 h7.2.1 h7.2.2.1 h24 h20 h25 h26 h23)) (gOk _ _ _ _ _) dX11_least_13 (tX2_leastTable _ _ _ _ _) ⟨wV_X2_leastTable, wL_X2_leastTable⟩ wM_X11_385 (gCX2 _ _ _ _ _) rfl (A_87 hw) rfl ⟨le_t rfl, le_t rfl⟩ ⟨le_t rfl, le_t rfl⟩ rfl (le_t rfl) fun z31 μ27 T28 F29 h30 => ?_
  refine sv_goto (pc := 16) (tgt := 20) dX11_least_16 (by decide) ?_
  exact mr_iret dX11_least_20 rfl (le_t rfl) (le_t rfl) T28 (mF.call mF.refl F29 rfl) ⟨h30.1, trivial⟩
theorem vc_X10_tieBetween_end_9 {n0 p1 p2 z226 z233 : Int} (h0 : z226 < n0) (h1 : ¬ z226 = p1) (h2 : z226 = p2) (h3 : z233 < n0) (h4 : z233 = p1) (h5 : 0 ≤ p1 ∧ p1 ≤ 9) (h6 : 0 ≤ p2 ∧ p2 ≤ 9) (h7 : 0 ≤ z226 ∧ z226 ≤ 9) (h8 : 0 ≤ z233 ∧ z233 ≤ 9) : z226 = p1 ∨ z233 = p1 := by omega
theorem vc_X10_tieBetween_end_12 {n0 p1 p2 z226 z240 : Int} (h0 : z226 < n0) (h1 : z226 = p1) (h2 : z240 < n0) (h3 : z240 = p2) (h4 : 0 ≤ p1 ∧ p1 ≤ 9) (h5 : 0 ≤ p2 ∧ p2 ≤ 9) (h6 : 0 ≤ z226 ∧ z226 ≤ 9) (h7 : 0 ≤ z240 ∧ z240 ≤ 9) : z226 = p1 ∨ z240 = p1 := by omega
theorem vc_X10_tieBetween_end_14 {n0 p1 p2 z226 z240 : Int} (h0 : z226 < n0) (h1 : z226 = p1) (h2 : z240 < n0) (h3 : ¬ z240 = p2) (h4 : z226 = p2) (h5 : z240 = p1) (h6 : 0 ≤ p1 ∧ p1 ≤ 9) (h7 : 0 ≤ p2 ∧ p2 ≤ 9) (h8 : 0 ≤ z226 ∧ z226 ≤ 9) (h9 : 0 ≤ z240 ∧ z240 ≤ 9) : z226 = p1 ∨ z240 = p1 := by omega
set_option maxRecDepth 4000 in
set_option maxHeartbeats 4000000 in
theorem c_X10_tieBetween_end {l : Launch} {D : va_G} {c : Nat → ClassId} {H0 : Heap} {sa : Nat × Nat × (Nat → Int32)} {w : mW} {μ : mM} (hw : mWF w) (hT : mT w μ) {p1 : Int} (hp1 : (-2147483648) ≤ p1 ∧ p1 ≤ 2147483647) {p2 : Int} (hp2 : (-2147483648) ≤ p2 ∧ p2 ≤ 2147483647) : sC (gG l D c H0 sa) mX10_tieBetween 1 0 0 [.ref 6, iv p1, iv p2] (mk w μ) (qP w μ (fun z => ((-1) ≤ z ∧ z ≤ 19) ∧ (z < w.2.2.2 1) ∧ (z < 0 ∨ ∃ b : Nat, μ 11 z.toNat = (b : Int) ∧ (μ b 0 = p1 ∨ μ b 1 = p1)) ∧ True)) := by
  refine sC.of rfl (by decide) (le_t rfl) ?_
  refine mr_lvE (lv' := [(0, .ref 6), (1, iv p1), (2, iv p2)]) rfl ?_
  refine mr_iconst (pc := 0) (z := 0) dX10_tieBetween_0 ?_
  refine mr_istore_n (pc := 1) (lv' := [(3, iv 0), (0, .ref 6), (1, iv p1), (2, iv p2)]) dX10_tieBetween_1 rfl (by decide) rfl ?_
  have L210 : ∀ (nL210 : Nat) (z209 : Int), True → (0 ≤ z209 ∧ z209 ≤ 20) → (21 - z209) < (nL210 : Int) → sV (gG l D c H0 sa) mX10_tieBetween (sRm 1 0 0) (sZ (gG l D c H0 sa) 0 0 (qP w μ (fun z => ((-1) ≤ z ∧ z ≤ 19) ∧ (z < w.2.2.2 1) ∧ (z < 0 ∨ ∃ b : Nat, μ 11 z.toNat = (b : Int) ∧ (μ b 0 = p1 ∨ μ b 1 = p1)) ∧ True))) 2 [(0, .ref 6), (1, iv p1), (2, iv p2), (3, iv z209)] [] (mk w μ) 0 0 := by
    intro nL210
    induction nL210 with
    | zero => intro z209 _ h211 h215; exact ((vc_X12_tieOf_1 h215 h211)).elim
    | succ nL210 ih216 =>
      intro z209 _ h211 h215
      refine mr_iload_n (pc := 2) (z := z209) dX10_tieBetween_2 rfl rfl ?_
      refine sv_aload_n (pc := 3) dX10_tieBetween_3 rfl rfl ?_
      refine gf_X10_16 (pc := 4) dX10_tieBetween_4 wF_X10_72 (A_6 hw) hT fun z217 q218 h219 => ?_
      refine mr_icmp_ge (pc := 7) (tgt := 62) dX10_tieBetween_7 (by decide) (r32 h211 rfl) (r32 h219.2 rfl) (fun h220 => ?_) (fun h220 => ?_)
      · refine mr_iconst (pc := 62) (z := (-1)) dX10_tieBetween_62 ?_
        exact mr_iretP dX10_tieBetween_63 rfl (le_t rfl) (le_t rfl) ⟨(rW (c := (-1)) (d := 19) (rR (x := (-1))) rfl), (vc_X10_tieBetween_2 h219.1 h220 h211 h219.2), (Or.inl (by decide)), trivial⟩
      have h221 : 0 ≤ z209 ∧ z209 ≤ 19 := (vc_X10_tieBetween_3 h220 h219.1 h211 h219.2)
      have h222 : 1 ≤ z217 ∧ z217 ≤ 20 := (vc_X10_tieBetween_4 h220 h219.1 h221 h219.2)
      refine sv_aload_n (pc := 10) dX10_tieBetween_10 rfl rfl ?_
      refine gf_X10_4 (pc := 11) dX10_tieBetween_11 wF_X10_29 (A_6 hw) hT ?_
      refine mr_iload_n (pc := 14) (z := z209) dX10_tieBetween_14 rfl rfl ?_
      refine la_11 (pc := 15) dX10_tieBetween_15 (A_11 hw) hT (rIx (n := 20) h221 rfl) (vc_X10_tieBetween_5 h219.1 h220 h221 h222) fun b223 q224 A225 => ?_
      refine mr_astore (pc := 16) (lv' := [(4, .ref b223), (0, .ref 6), (1, iv p1), (2, iv p2), (3, iv z209)]) dX10_tieBetween_16 (by decide) rfl ?_
      refine sv_aload (pc := 18) dX10_tieBetween_18 rfl ?_
      refine gf_X9_0 (pc := 20) dX10_tieBetween_20 wF_X10_78 A225 hT fun z226 q227 h228 => ?_
      have h229 : 0 ≤ z226 ∧ z226 ≤ 9 := ⟨h228.1, h228.2.1⟩
      refine mr_iload_n (pc := 23) (z := p1) dX10_tieBetween_23 rfl rfl ?_
      refine mr_icmp_ne (pc := 24) (tgt := 36) dX10_tieBetween_24 (by decide) (r32 h229 rfl) hp1 (fun h230 => ?_) (fun h230 => ?_)
      · refine sv_aload (pc := 36) dX10_tieBetween_36 rfl ?_
        refine gk_X9_0 (pc := 38) dX10_tieBetween_38 wF_X10_78 A225 q227 ?_
        refine mr_iload_n (pc := 41) (z := p2) dX10_tieBetween_41 rfl rfl ?_
        refine mr_icmp_ne (pc := 42) (tgt := 56) dX10_tieBetween_42 (by decide) (r32 h229 rfl) hp2 (fun h231 => ?_) (fun h231 => ?_)
        · refine mr_iinc (pc := 56) (lv' := [(3, iv (z209 + 1)), (4, .ref b223), (0, .ref 6), (1, iv p1), (2, iv p2)]) dX10_tieBetween_56 rfl (by decide) rfl ?_
          refine sv_goto (pc := 59) (tgt := 2) dX10_tieBetween_59 (by decide) ?_
          refine mr_lvS (lv' := [(0, .ref 6), (1, iv p1), (2, iv p2), (3, iv (z209 + 1))]) (List.forall_mem_cons.mpr ⟨rfl, List.forall_mem_cons.mpr ⟨rfl, List.forall_mem_cons.mpr ⟨rfl, List.forall_mem_cons.mpr ⟨rfl, fun _ h => absurd h List.not_mem_nil⟩⟩⟩⟩) ?_
          exact ih216 (z209 + 1) trivial (rW (c := 0) (d := 20) (rAdd (e := 1) (f := 20) h221 (rR (x := 1)) rfl) rfl) (vc_X10_tieBetween_6 (nS h215) h220 h219.1 h221 h222)
        have h232 : 0 ≤ p2 ∧ p2 ≤ 9 := (vc_X10_tieBetween_7 h231 h228.2.2 h230 hp1 hp2 h229)
        refine sv_aload (pc := 45) dX10_tieBetween_45 rfl ?_
        refine gf_X9_1 (pc := 47) dX10_tieBetween_47 wF_X10_81 A225 hT fun z233 q234 h235 => ?_
        have h236 : 0 ≤ z233 ∧ z233 ≤ 9 := ⟨h235.1, h235.2.1⟩
        refine mr_iload_n (pc := 50) (z := p1) dX10_tieBetween_50 rfl rfl ?_
        refine mr_icmp_ne (pc := 51) (tgt := 56) dX10_tieBetween_51 (by decide) (r32 h236 rfl) hp1 (fun h237 => ?_) (fun h237 => ?_)
        · refine mr_iinc (pc := 56) (lv' := [(3, iv (z209 + 1)), (4, .ref b223), (0, .ref 6), (1, iv p1), (2, iv p2)]) dX10_tieBetween_56 rfl (by decide) rfl ?_
          refine sv_goto (pc := 59) (tgt := 2) dX10_tieBetween_59 (by decide) ?_
          refine mr_lvS (lv' := [(0, .ref 6), (1, iv p1), (2, iv p2), (3, iv (z209 + 1))]) (List.forall_mem_cons.mpr ⟨rfl, List.forall_mem_cons.mpr ⟨rfl, List.forall_mem_cons.mpr ⟨rfl, List.forall_mem_cons.mpr ⟨rfl, fun _ h => absurd h List.not_mem_nil⟩⟩⟩⟩) ?_
          exact ih216 (z209 + 1) trivial (rW (c := 0) (d := 20) (rAdd (e := 1) (f := 20) h221 (rR (x := 1)) rfl) rfl) (vc_X10_tieBetween_6 (nS h215) h220 h219.1 h221 h222)
        have h238 : 0 ≤ p1 ∧ p1 ≤ 9 := (vc_X10_tieBetween_8 h237 h230 h235.2.2 hp1 h229 h236)
        refine mr_iload_n (pc := 54) (z := z209) dX10_tieBetween_54 rfl rfl ?_
        exact mr_iretP dX10_tieBetween_55 rfl (le_t rfl) (le_t rfl) ⟨(rW (c := (-1)) (d := 19) h221 rfl), (vc_X10_tieBetween_5 h219.1 h220 h221 h222), (Or.inr ⟨b223, q224, by rw [q227, q234]; exact (vc_X10_tieBetween_end_9 h228.2.2 h230 h231 h235.2.2 h237 h238 h232 h229 h236)⟩), trivial⟩
      have h239 : 0 ≤ p1 ∧ p1 ≤ 9 := (vc_X10_tieBetween_9 h230 h228.2.2 hp1 h229)
      refine sv_aload (pc := 27) dX10_tieBetween_27 rfl ?_
      refine gf_X9_1 (pc := 29) dX10_tieBetween_29 wF_X10_81 A225 hT fun z240 q241 h242 => ?_
      have h243 : 0 ≤ z240 ∧ z240 ≤ 9 := ⟨h242.1, h242.2.1⟩
      refine mr_iload_n (pc := 32) (z := p2) dX10_tieBetween_32 rfl rfl ?_
      refine mr_icmp_eq (pc := 33) (tgt := 54) dX10_tieBetween_33 (by decide) (r32 h243 rfl) hp2 (fun h244 => ?_) (fun h244 => ?_)
      · have h245 : 0 ≤ p2 ∧ p2 ≤ 9 := (vc_X10_tieBetween_9 h244 h242.2.2 hp2 h243)
        refine mr_iload_n (pc := 54) (z := z209) dX10_tieBetween_54 rfl rfl ?_
        exact mr_iretP dX10_tieBetween_55 rfl (le_t rfl) (le_t rfl) ⟨(rW (c := (-1)) (d := 19) h221 rfl), (vc_X10_tieBetween_5 h219.1 h220 h221 h222), (Or.inr ⟨b223, q224, by rw [q227, q241]; exact (vc_X10_tieBetween_end_12 h228.2.2 h230 h242.2.2 h244 h239 h245 h229 h243)⟩), trivial⟩
      refine sv_aload (pc := 36) dX10_tieBetween_36 rfl ?_
      refine gk_X9_0 (pc := 38) dX10_tieBetween_38 wF_X10_78 A225 q227 ?_
      refine mr_iload_n (pc := 41) (z := p2) dX10_tieBetween_41 rfl rfl ?_
      refine mr_icmp_ne (pc := 42) (tgt := 56) dX10_tieBetween_42 (by decide) (r32 h229 rfl) hp2 (fun h246 => ?_) (fun h246 => ?_)
      · refine mr_iinc (pc := 56) (lv' := [(3, iv (z209 + 1)), (4, .ref b223), (0, .ref 6), (1, iv p1), (2, iv p2)]) dX10_tieBetween_56 rfl (by decide) rfl ?_
        refine sv_goto (pc := 59) (tgt := 2) dX10_tieBetween_59 (by decide) ?_
        refine mr_lvS (lv' := [(0, .ref 6), (1, iv p1), (2, iv p2), (3, iv (z209 + 1))]) (List.forall_mem_cons.mpr ⟨rfl, List.forall_mem_cons.mpr ⟨rfl, List.forall_mem_cons.mpr ⟨rfl, List.forall_mem_cons.mpr ⟨rfl, fun _ h => absurd h List.not_mem_nil⟩⟩⟩⟩) ?_
        exact ih216 (z209 + 1) trivial (rW (c := 0) (d := 20) (rAdd (e := 1) (f := 20) h221 (rR (x := 1)) rfl) rfl) (vc_X10_tieBetween_6 (nS h215) h220 h219.1 h221 h222)
      have h247 : 0 ≤ p2 ∧ p2 ≤ 9 := (vc_X10_tieBetween_11 h246 h228.2.2 h230 h244 h239 hp2 h229 h243)
      refine sv_aload (pc := 45) dX10_tieBetween_45 rfl ?_
      refine gk_X9_1 (pc := 47) dX10_tieBetween_47 wF_X10_81 A225 q241 ?_
      refine mr_iload_n (pc := 50) (z := p1) dX10_tieBetween_50 rfl rfl ?_
      refine mr_icmp_ne (pc := 51) (tgt := 56) dX10_tieBetween_51 (by decide) (r32 h243 rfl) (r32 h239 rfl) (fun h248 => ?_) (fun h248 => ?_)
      · refine mr_iinc (pc := 56) (lv' := [(3, iv (z209 + 1)), (4, .ref b223), (0, .ref 6), (1, iv p1), (2, iv p2)]) dX10_tieBetween_56 rfl (by decide) rfl ?_
        refine sv_goto (pc := 59) (tgt := 2) dX10_tieBetween_59 (by decide) ?_
        refine mr_lvS (lv' := [(0, .ref 6), (1, iv p1), (2, iv p2), (3, iv (z209 + 1))]) (List.forall_mem_cons.mpr ⟨rfl, List.forall_mem_cons.mpr ⟨rfl, List.forall_mem_cons.mpr ⟨rfl, List.forall_mem_cons.mpr ⟨rfl, fun _ h => absurd h List.not_mem_nil⟩⟩⟩⟩) ?_
        exact ih216 (z209 + 1) trivial (rW (c := 0) (d := 20) (rAdd (e := 1) (f := 20) h221 (rR (x := 1)) rfl) rfl) (vc_X10_tieBetween_6 (nS h215) h220 h219.1 h221 h222)
      refine mr_iload_n (pc := 54) (z := z209) dX10_tieBetween_54 rfl rfl ?_
      exact mr_iretP dX10_tieBetween_55 rfl (le_t rfl) (le_t rfl) ⟨(rW (c := (-1)) (d := 19) h221 rfl), (vc_X10_tieBetween_5 h219.1 h220 h221 h222), (Or.inr ⟨b223, q224, by rw [q227, q241]; exact (vc_X10_tieBetween_end_14 h228.2.2 h230 h242.2.2 h244 h246 h248 h239 h247 h229 h243)⟩), trivial⟩
  refine mr_lvS (lv' := [(0, .ref 6), (1, iv p1), (2, iv p2), (3, iv 0)]) (List.forall_mem_cons.mpr ⟨rfl, List.forall_mem_cons.mpr ⟨rfl, List.forall_mem_cons.mpr ⟨rfl, List.forall_mem_cons.mpr ⟨rfl, fun _ h => absurd h List.not_mem_nil⟩⟩⟩⟩) ?_
  exact L210 22 0 trivial (rW (c := 0) (d := 20) (rR (x := 0)) rfl) vc_X12_tieOf_12
theorem vc_X9_sideOf_e_1 {n0 p1 z1 z5 : Int} (h0 : ¬ p1 = z5) (h1 : z5 < n0) (h2 : z1 = p1 ∨ z5 = p1) (h3 : ¬ p1 = z1) (h4 : z1 < n0) (h5 : (-2147483648) ≤ p1 ∧ p1 ≤ 2147483647) (h6 : 0 ≤ z1 ∧ z1 ≤ 9) (h7 : 0 ≤ z5 ∧ z5 ≤ 9) : False := by omega
theorem vc_X9_sideOf_e_2 {n0 p1 z1 z5 : Int} (h0 : p1 = z5) (h1 : z5 < n0) (h2 : z1 = p1 ∨ z5 = p1) (h3 : ¬ p1 = z1) (h4 : (-2147483648) ≤ p1 ∧ p1 ≤ 2147483647) (h5 : 0 ≤ z1 ∧ z1 ≤ 9) (h6 : 0 ≤ z5 ∧ z5 ≤ 9) : 0 ≤ p1 ∧ p1 ≤ 9 := by omega
theorem vc_X9_sideOf_e_3 {n0 p1 z1 z5 : Int} (h0 : p1 = z1) (h1 : z1 < n0) (h2 : z1 = p1 ∨ z5 = p1) (h3 : (-2147483648) ≤ p1 ∧ p1 ≤ 2147483647) (h4 : 0 ≤ z1 ∧ z1 ≤ 9) (h5 : 0 ≤ z5 ∧ z5 ≤ 9) : 0 ≤ p1 ∧ p1 ≤ 9 := by omega
set_option maxRecDepth 4000 in
set_option maxHeartbeats 4000000 in
theorem c_X9_sideOf_e {l : Launch} {D : va_G} {c : Nat → ClassId} {H0 : Heap} {sa : Nat × Nat × (Nat → Int32)} {w : mW} {μ : mM} (hw : mWF w) (hT : mT w μ) {a0 : Nat} (hA0 : mAt w a0 220) {p1 : Int} (hp1 : (-2147483648) ≤ p1 ∧ p1 ≤ 2147483647) (hend : μ a0 0 = p1 ∨ μ a0 1 = p1) : sC (gG l D c H0 sa) mX9_sideOf 1 0 0 [.ref a0, iv p1] (mk w μ) (qP w μ (fun z => (0 ≤ z ∧ z ≤ 1) ∧ True)) := by
  refine sC.of rfl (by decide) (le_t rfl) ?_
  obtain ⟨z1, q2⟩ : ∃ z, μ a0 0 = z := ⟨_, rfl⟩
  have h3 : (0 ≤ z1 ∧ z1 ≤ 9 ∧ z1 < w.2.2.2 0) := by rw [← q2]; exact hT a0 220 hA0 0
  have h4 : 0 ≤ z1 ∧ z1 ≤ 9 := ⟨h3.1, h3.2.1⟩
  obtain ⟨z5, q6⟩ : ∃ z, μ a0 1 = z := ⟨_, rfl⟩
  have h7 : (0 ≤ z5 ∧ z5 ≤ 9 ∧ z5 < w.2.2.2 0) := by rw [← q6]; exact hT a0 220 hA0 1
  have h8 : 0 ≤ z5 ∧ z5 ≤ 9 := ⟨h7.1, h7.2.1⟩
  refine mr_lvE (lv' := [(0, .ref a0), (1, iv p1)]) rfl ?_
  have h18 : z1 = p1 ∨ z5 = p1 := by have h := hend; rw [q2, q6] at h; exact h
  refine mr_iload_n (pc := 0) (z := p1) dX9_sideOf_0 rfl rfl ?_
  refine sv_aload_n (pc := 1) dX9_sideOf_1 rfl rfl ?_
  refine gk_X9_0 (pc := 2) dX9_sideOf_2 wF_X9_9 hA0 q2 ?_
  refine mr_icmp_ne (pc := 5) (tgt := 10) dX9_sideOf_5 (by decide) hp1 (r32 h4 rfl) (fun h19 => ?_) (fun h19 => ?_)
  · refine mr_iload_n (pc := 10) (z := p1) dX9_sideOf_10 rfl rfl ?_
    refine sv_aload_n (pc := 11) dX9_sideOf_11 rfl rfl ?_
    refine gk_X9_1 (pc := 12) dX9_sideOf_12 wF_X9_15 hA0 q6 ?_
    refine mr_icmp_ne (pc := 15) (tgt := 22) dX9_sideOf_15 (by decide) hp1 (r32 h8 rfl) (fun h => ((vc_X9_sideOf_e_1 h h7.2.2 h18 h19 h3.2.2 hp1 h4 h8)).elim) (fun h20 => ?_)
    have h21 : 0 ≤ p1 ∧ p1 ≤ 9 := (vc_X9_sideOf_e_2 h20 h7.2.2 h18 h19 hp1 h4 h8)
    refine mr_iconst (pc := 18) (z := 1) dX9_sideOf_18 ?_
    refine sv_goto (pc := 19) (tgt := 23) dX9_sideOf_19 (by decide) ?_
    exact mr_iretP dX9_sideOf_23 rfl (le_t rfl) (le_t rfl) ⟨(rW (c := 0) (d := 1) (rR (x := 1)) rfl), trivial⟩
  have h22 : 0 ≤ p1 ∧ p1 ≤ 9 := (vc_X9_sideOf_e_3 h19 h3.2.2 h18 hp1 h4 h8)
  refine mr_iconst (pc := 8) (z := 0) dX9_sideOf_8 ?_
  exact mr_iretP dX9_sideOf_9 rfl (le_t rfl) (le_t rfl) ⟨(rW (c := 0) (d := 1) (rR (x := 0)) rfl), trivial⟩
theorem vc_X11_judge_11 {n0 p2 p3 z10 z17 z28 : Int} (h0 : (z28 = 1 → 0 ≤ p3 ∧ p3 < z10)) (h1 : (z28 = 0 → p3 < 0 ∨ z10 ≤ p3)) (h2 : ¬ z28 = 0) (h3 : z10 = n0) (h4 : (z17 = 1 → 0 ≤ p2 ∧ p2 < z10)) (h5 : (z17 = 0 → p2 < 0 ∨ z10 ≤ p2)) (h6 : 0 ≤ p2 ∧ p2 < z10) (h7 : 0 ≤ p2 ∧ p2 ≤ 9) (h8 : (-2147483648) ≤ p3 ∧ p3 ≤ 2147483647) (h9 : 0 ≤ z10 ∧ z10 ≤ 10) (h10 : 1 ≤ z17 ∧ z17 ≤ 1) (h11 : 1 ≤ z28 ∧ z28 ≤ 1) : z28 = 1 := by omega
theorem vc_X11_judge_12 {n0 p2 p3 z10 z17 z28 : Int} (h0 : 0 ≤ p3 ∧ p3 < z10) (h1 : z10 = n0) (h2 : (z17 = 1 → 0 ≤ p2 ∧ p2 < z10)) (h3 : (z17 = 0 → p2 < 0 ∨ z10 ≤ p2)) (h4 : 0 ≤ p2 ∧ p2 < z10) (h5 : (z28 = 1 → 0 ≤ p3 ∧ p3 < z10)) (h6 : (z28 = 0 → p3 < 0 ∨ z10 ≤ p3)) (h7 : 0 ≤ p2 ∧ p2 ≤ 9) (h8 : (-2147483648) ≤ p3 ∧ p3 ≤ 2147483647) (h9 : 0 ≤ z10 ∧ z10 ≤ 10) (h10 : 1 ≤ z17 ∧ z17 ≤ 1) (h11 : 1 ≤ z28 ∧ z28 ≤ 1) : 0 ≤ p3 ∧ p3 ≤ 9 := by omega
theorem vc_X11_judge_13 {n0 p2 p3 z10 z17 z28 : Int} (h0 : 0 ≤ p3 ∧ p3 < z10) (h1 : z10 = n0) (h2 : (z17 = 1 → 0 ≤ p2 ∧ p2 < z10)) (h3 : (z17 = 0 → p2 < 0 ∨ z10 ≤ p2)) (h4 : 0 ≤ p2 ∧ p2 < z10) (h5 : (z28 = 1 → 0 ≤ p3 ∧ p3 < z10)) (h6 : (z28 = 0 → p3 < 0 ∨ z10 ≤ p3)) (h7 : 0 ≤ p2 ∧ p2 ≤ 9) (h8 : 0 ≤ p3 ∧ p3 ≤ 9) (h9 : 0 ≤ z10 ∧ z10 ≤ 10) (h10 : 1 ≤ z17 ∧ z17 ≤ 1) (h11 : 1 ≤ z28 ∧ z28 ≤ 1) : 1 ≤ z10 ∧ z10 ≤ 10 := by omega
theorem vc_X11_judge_17 {n1 z38 : Int} (h0 : z38 < n1) (h1 : 0 ≤ z38) (h2 : 0 ≤ z38 ∧ z38 ≤ 19) : ¬ z38 < 0 := by omega
theorem vc_X11_judge_23 {n0 p2 p3 z10 z17 z28 : Int} (h0 : (z28 = 1 → 0 ≤ p3 ∧ p3 < z10)) (h1 : (z28 = 0 → p3 < 0 ∨ z10 ≤ p3)) (h2 : z28 = 0) (h3 : z10 = n0) (h4 : (z17 = 1 → 0 ≤ p2 ∧ p2 < z10)) (h5 : (z17 = 0 → p2 < 0 ∨ z10 ≤ p2)) (h6 : 0 ≤ p2 ∧ p2 < z10) (h7 : 0 ≤ p2 ∧ p2 ≤ 9) (h8 : (-2147483648) ≤ p3 ∧ p3 ≤ 2147483647) (h9 : 0 ≤ z10 ∧ z10 ≤ 10) (h10 : 1 ≤ z17 ∧ z17 ≤ 1) (h11 : 0 ≤ z28 ∧ z28 ≤ 0) : z28 = 0 := by omega
set_option maxRecDepth 4000 in
set_option maxHeartbeats 4000000 in
theorem c_X11_judge {l : Launch} {D : va_G} {c : Nat → ClassId} {H0 : Heap} {sa : Nat × Nat × (Nat → Int32)} {w : mW} {μ : mM} (hw : mWF w) (hT : mT w μ) {p1 : Int} (hp1 : (-2147483648) ≤ p1 ∧ p1 ≤ 2147483647) {p2 : Int} (hp2 : (-2147483648) ≤ p2 ∧ p2 ≤ 2147483647) {p3 : Int} (hp3 : (-2147483648) ≤ p3 ∧ p3 ≤ 2147483647) (hIPC : PC w μ) : sC (gG l D c H0 sa) mX11_judge 41 0 0 [.ref 0, iv p1, iv p2, iv p3] (mk w μ) (qI w [21002, 21003, 21004, 21005, 21006, 21007, 200004, 200006, 200007, 200008, 201999, 202999] μ (fun z μ1 => ((-2147483648) ≤ z ∧ z ≤ 2147483647) ∧ True)) := by
  refine sC.of rfl (by decide) (le_t rfl) ?_
  refine mr_lvE (lv' := [(0, .ref 0), (1, iv p1), (2, iv p2), (3, iv p3)]) rfl ?_
  refine mr_iload_n (pc := 0) (z := p1) dX11_judge_0 rfl rfl ?_
  refine mr_if_lt (pc := 1) (tgt := 31) dX11_judge_1 (by decide) hp1 (fun h1 => ?_) (fun h1 => ?_)
  · have h2 : (-2147483648) ≤ p1 ∧ p1 ≤ (-1) := (vc_X12_ring_60 h1 hp1)
    refine mr_iconst (pc := 31) (z := (-1)) dX11_judge_31 ?_
    exact mr_iret dX11_judge_32 rfl (le_t rfl) (le_t rfl) hT mF.refl ⟨(rW (c := (-2147483648)) (d := 2147483647) (rR (x := (-1))) rfl), trivial⟩
  have h3 : 0 ≤ p1 ∧ p1 ≤ 2147483647 := (vc_X12_ring_1 h1 hp1)
  refine mr_iload_n (pc := 4) (z := p1) dX11_judge_4 rfl rfl ?_
  refine sv_aload_n (pc := 5) dX11_judge_5 rfl rfl ?_
  refine gf_X11_4 (pc := 6) dX11_judge_6 wF_X11_35 (A_0 hw) hT ?_
  refine gf_X1_8 (pc := 9) dX11_judge_9 wF_X11_205 (A_21 hw) hT fun z4 q5 h6 => ?_
  refine mr_icmp_ge (pc := 12) (tgt := 31) dX11_judge_12 (by decide) (r32 h3 rfl) (r32 h6.2 rfl) (fun h7 => ?_) (fun h7 => ?_)
  · refine mr_iconst (pc := 31) (z := (-1)) dX11_judge_31 ?_
    exact mr_iret dX11_judge_32 rfl (le_t rfl) (le_t rfl) hT mF.refl ⟨(rW (c := (-2147483648)) (d := 2147483647) (rR (x := (-1))) rfl), trivial⟩
  have h8 : 0 ≤ p1 ∧ p1 ≤ 11 := (vc_X1_goThrough_13_3 h7 h1 h6.1 h3 h6.2)
  have h9 : 1 ≤ z4 ∧ z4 ≤ 12 := (vc_X1_goThrough_13_4 h7 h1 h6.1 h8 h6.2)
  refine sv_aload_n (pc := 15) dX11_judge_15 rfl rfl ?_
  refine mr_iload_n (pc := 16) (z := p2) dX11_judge_16 rfl rfl ?_
  obtain ⟨z10, q11⟩ : ∃ z, μ 6 15 = z := ⟨_, rfl⟩
  have h12 : (z10 = w.2.2.2 0 ∧ 0 ≤ z10 ∧ z10 ≤ 10) := by rw [← q11]; exact hT 6 6 (A_6 hw) 15
  refine mr_cVP (pc := 17) (c_X11_isDomain hw hT hp2 q11) (gOk _ _ _ _ _) dX11_judge_17 (tX11_isDomain _ _ _ _ _) ⟨wV_X11_isDomain, wL_X11_isDomain⟩ wM_X11_105 (gCX11 _ _ _ _ _) rfl (A_0 hw) rfl ⟨le_t rfl, le_t rfl⟩ ⟨le_t rfl, le_t rfl⟩ rfl (le_t rfl) fun z17 h16 => ?_
  refine mr_if_eq (pc := 20) (tgt := 31) dX11_judge_20 (by decide) (r32 h16.1 rfl) (fun h18 => ?_) (fun h18 => ?_)
  · have h19 : 0 ≤ z17 ∧ z17 ≤ 0 := (vc_X12_write_78 h18 h16.2.1 h16.2.2.1 hp2 h12.2 h16.1)
    have h20 : p2 < 0 ∨ z10 ≤ p2 := (h16.2.2.1 (vc_X11_picked_2 h16.2.1 h16.2.2.1 h18 h12.1 hp2 h12.2 h19))
    refine mr_iconst (pc := 31) (z := (-1)) dX11_judge_31 ?_
    exact mr_iret dX11_judge_32 rfl (le_t rfl) (le_t rfl) hT mF.refl ⟨(rW (c := (-2147483648)) (d := 2147483647) (rR (x := (-1))) rfl), trivial⟩
  have h21 : 1 ≤ z17 ∧ z17 ≤ 1 := (vc_X12_write_12 h18 h16.2.1 h16.2.2.1 hp2 h12.2 h16.1)
  have h22 : 0 ≤ p2 ∧ p2 < z10 := (h16.2.1 (vc_X11_picked_4 h16.2.1 h16.2.2.1 h18 h12.1 hp2 h12.2 h21))
  have h23 : 0 ≤ p2 ∧ p2 ≤ 9 := (vc_X11_picked_5 h22 h12.1 h16.2.1 h16.2.2.1 hp2 h12.2 h21)
  refine sv_aload_n (pc := 23) dX11_judge_23 rfl rfl ?_
  refine mr_iload_n (pc := 24) (z := p3) dX11_judge_24 rfl rfl ?_
  refine mr_cVP (pc := 25) (c_X11_isDomain hw hT hp3 q11) (gOk _ _ _ _ _) dX11_judge_25 (tX11_isDomain _ _ _ _ _) ⟨wV_X11_isDomain, wL_X11_isDomain⟩ wM_X11_105 (gCX11 _ _ _ _ _) rfl (A_0 hw) rfl ⟨le_t rfl, le_t rfl⟩ ⟨le_t rfl, le_t rfl⟩ rfl (le_t rfl) fun z28 h27 => ?_
  refine mr_if_ne (pc := 28) (tgt := 33) dX11_judge_28 (by decide) (r32 h27.1 rfl) (fun h29 => ?_) (fun h29 => ?_)
  · have h30 : 1 ≤ z28 ∧ z28 ≤ 1 := (vc_X12_write_12 h29 h27.2.1 h27.2.2.1 hp3 h12.2 h27.1)
    have h31 : 0 ≤ p3 ∧ p3 < z10 := (h27.2.1 (vc_X11_judge_11 h27.2.1 h27.2.2.1 h29 h12.1 h16.2.1 h16.2.2.1 h22 h23 hp3 h12.2 h21 h30))
    have h32 : 0 ≤ p3 ∧ p3 ≤ 9 := (vc_X11_judge_12 h31 h12.1 h16.2.1 h16.2.2.1 h22 h27.2.1 h27.2.2.1 h23 hp3 h12.2 h21 h30)
    have h33 : 1 ≤ z10 ∧ z10 ≤ 10 := (vc_X11_judge_13 h31 h12.1 h16.2.1 h16.2.2.1 h22 h27.2.1 h27.2.2.1 h23 h32 h12.2 h21 h30)
    refine sv_aload_n (pc := 33) dX11_judge_33 rfl rfl ?_
    refine gf_X11_3 (pc := 34) dX11_judge_34 wF_X11_26 (A_0 hw) hT ?_
    refine mr_iload_n (pc := 37) (z := p2) dX11_judge_37 rfl rfl ?_
    refine mr_iload_n (pc := 38) (z := p3) dX11_judge_38 rfl rfl ?_
    refine mr_cVP (pc := 39) (c_X10_tieBetween_end hw hT (rW (c := (-2147483648)) (d := 2147483647) h23 rfl) (rW (c := (-2147483648)) (d := 2147483647) h32 rfl)) (gOk _ _ _ _ _) dX11_judge_39 (tX10_tieBetween _ _ _ _ _) ⟨wV_X10_tieBetween, wL_X10_tieBetween⟩ wM_X11_109 (gCX10 _ _ _ _ _) rfl (A_6 hw) rfl ⟨le_t rfl, le_t rfl⟩ ⟨le_t rfl, le_t rfl⟩ rfl (le_t rfl) fun z38 h37 => ?_
    refine mr_istore (pc := 42) (lv' := [(4, iv z38), (0, .ref 0), (1, iv p1), (2, iv p2), (3, iv p3)]) dX11_judge_42 (by decide) rfl ?_
    refine mr_iload (pc := 44) (z := z38) dX11_judge_44 rfl ?_
    refine mr_if_ge (pc := 46) (tgt := 51) dX11_judge_46 (by decide) (r32 h37.1 rfl) (fun h39 => ?_) (fun h39 => ?_)
    · have h40 : 0 ≤ z38 ∧ z38 ≤ 19 := (vc_X10_firstWrongStep_4 h39 h37.2.1 h37.1)
      refine sv_aload_n (pc := 51) dX11_judge_51 rfl rfl ?_
      refine gf_X11_2 (pc := 52) dX11_judge_52 wF_X11_19 (A_0 hw) hT ?_
      refine gf_X7_2 (pc := 55) dX11_judge_55 wF_X11_246 (A_3 hw) hT fun z41 q42 h43 => ?_
      refine mr_if_ne (pc := 58) (tgt := 64) dX11_judge_58 (by decide) (r32 h43 rfl) (fun h44 => ?_) (fun h44 => ?_)
      · have h45 : 1 ≤ z41 ∧ z41 ≤ 1 := (vc_X12_ring_24 h44 h43)
        refine sv_aload_n (pc := 64) dX11_judge_64 rfl rfl ?_
        refine gf_X11_3 (pc := 65) dX11_judge_65 wF_X11_26 (A_0 hw) hT ?_
        refine gf_X10_4 (pc := 68) dX11_judge_68 wF_X11_122 (A_6 hw) hT ?_
        refine mr_iload (pc := 71) (z := z38) dX11_judge_71 rfl ?_
        refine la_11 (pc := 73) dX11_judge_73 (A_11 hw) hT (rIx (n := 20) h40 rfl) (vc_X10_firstWrongStep_5 h37.2.1 h39 h40) fun b46 q47 A48 => ?_
        have H49 : μ b46 0 = p2 ∨ μ b46 1 = p2 := tieEnd (h37.2.2.1) (vc_X11_judge_17 h37.2.1 h39 h40) q47
        refine mr_astore (pc := 74) (lv' := [(5, .ref b46), (4, iv z38), (0, .ref 0), (1, iv p1), (2, iv p2), (3, iv p3)]) dX11_judge_74 (by decide) rfl ?_
        refine sv_aload_n (pc := 76) dX11_judge_76 rfl rfl ?_
        refine gf_X11_4 (pc := 77) dX11_judge_77 wF_X11_35 (A_0 hw) hT ?_
        refine mr_iload_n (pc := 80) (z := p1) dX11_judge_80 rfl rfl ?_
        refine sv_aload_n (pc := 81) dX11_judge_81 rfl rfl ?_
        refine gf_X11_2 (pc := 82) dX11_judge_82 wF_X11_19 (A_0 hw) hT ?_
        refine sv_aload (pc := 85) dX11_judge_85 rfl ?_
        refine sv_aload (pc := 87) dX11_judge_87 rfl ?_
        refine mr_iload_n (pc := 89) (z := p2) dX11_judge_89 rfl rfl ?_
        refine mr_cVP (pc := 90) (c_X9_sideOf_e hw hT A48 (rW (c := (-2147483648)) (d := 2147483647) h23 rfl) H49) (gOk _ _ _ _ _) dX11_judge_90 (tX9_sideOf _ _ _ _ _) ⟨wV_X9_sideOf, wL_X9_sideOf⟩ wM_X11_249 (gCX9 _ _ _ _ _) rfl A48 rfl ⟨le_t rfl, le_t rfl⟩ ⟨le_t rfl, le_t rfl⟩ rfl (le_t rfl) fun z54 h53 => ?_
        refine mr_cVI (pc := 93) (c_X1_lets hw hT (rW (c := (-2147483648)) (d := 2147483647) h8 rfl) (A_3 hw) A48 h53.1 hIPC) (gOk _ _ _ _ _) dX11_judge_93 (tX1_lets _ _ _ _ _) ⟨wV_X1_lets, wL_X1_lets⟩ wM_X11_252 (gCX1 _ _ _ _ _) rfl (A_21 hw) rfl ⟨le_t rfl, le_t rfl⟩ ⟨le_t rfl, le_t rfl⟩ rfl (le_t rfl) fun z59 μ55 T56 F57 h58 => ?_
        refine mr_if_eq (pc := 96) (tgt := 103) dX11_judge_96 (by decide) (r32 h58.1 rfl) (fun h62 => ?_) (fun h62 => ?_)
        · have h63 : 0 ≤ z59 ∧ z59 ≤ 0 := (vc_X12_ring_22 h62 h58.1)
          refine mr_iconst (pc := 103) (z := 0) dX11_judge_103 ?_
          exact mr_iret dX11_judge_104 rfl (le_t rfl) (le_t rfl) T56 (mF.call mF.refl F57 rfl) ⟨(rW (c := (-2147483648)) (d := 2147483647) (rR (x := 0)) rfl), trivial⟩
        have h64 : 1 ≤ z59 ∧ z59 ≤ 1 := (vc_X12_ring_24 h62 h58.1)
        refine mr_iconst (pc := 99) (z := 1) dX11_judge_99 ?_
        refine sv_goto (pc := 100) (tgt := 104) dX11_judge_100 (by decide) ?_
        exact mr_iret dX11_judge_104 rfl (le_t rfl) (le_t rfl) T56 (mF.call mF.refl F57 rfl) ⟨(rW (c := (-2147483648)) (d := 2147483647) (rR (x := 1)) rfl), trivial⟩
      have h65 : 0 ≤ z41 ∧ z41 ≤ 0 := (vc_X12_ring_22 h44 h43)
      refine mr_bipush (pc := 61) (z := (-2)) dX11_judge_61 (by decide) ?_
      exact mr_iret dX11_judge_63 rfl (le_t rfl) (le_t rfl) hT mF.refl ⟨(rW (c := (-2147483648)) (d := 2147483647) (rR (x := (-2))) rfl), trivial⟩
    have h66 : (-1) ≤ z38 ∧ z38 ≤ (-1) := (vc_X10_firstWrongStep_18 h39 h37.2.1 h37.1)
    refine mr_iconst (pc := 49) (z := (-1)) dX11_judge_49 ?_
    exact mr_iret dX11_judge_50 rfl (le_t rfl) (le_t rfl) hT mF.refl ⟨(rW (c := (-2147483648)) (d := 2147483647) (rR (x := (-1))) rfl), trivial⟩
  have h67 : 0 ≤ z28 ∧ z28 ≤ 0 := (vc_X12_write_78 h29 h27.2.1 h27.2.2.1 hp3 h12.2 h27.1)
  have h68 : p3 < 0 ∨ z10 ≤ p3 := (h27.2.2.1 (vc_X11_judge_23 h27.2.1 h27.2.2.1 h29 h12.1 h16.2.1 h16.2.2.1 h22 h23 hp3 h12.2 h21 h67))
  refine mr_iconst (pc := 31) (z := (-1)) dX11_judge_31 ?_
  exact mr_iret dX11_judge_32 rfl (le_t rfl) (le_t rfl) hT mF.refl ⟨(rW (c := (-2147483648)) (d := 2147483647) (rR (x := (-1))) rfl), trivial⟩
end
section
/-! Nets: a state as a number of figures; queues without repeats. -/
theorem digT {W b K N s d t : Int} (hW : 0 < W) (hb : 0 < b) (hN : N = W * b * K) (hs : 0 ≤ s ∧ s < N) (hd : d = s / W % b) (ht : 0 ≤ t ∧ t < b) : 0 ≤ s + (t - d) * W ∧ s + (t - d) * W < N := by
  have h1 : s = W * (s / W) + s % W := (Int.mul_ediv_add_emod s W).symm
  have h2 : s / W = b * (s / W / b) + s / W % b := (Int.mul_ediv_add_emod (s / W) b).symm
  have r0 := Int.emod_nonneg s (show W ≠ 0 by omega)
  have r1 := Int.emod_lt_of_pos s hW
  have q0 : 0 ≤ s / W := Int.ediv_nonneg hs.1 (by omega)
  have p0 : 0 ≤ s / W / b := Int.ediv_nonneg q0 (by omega)
  have e : s + (t - d) * W = W * (b * (s / W / b) + t) + s % W := by
    rw [← hd] at h2
    have a1 : W * (s / W) = W * (b * (s / W / b)) + W * d := by
      have := congrArg (fun x => W * x) h2
      simp only [Int.mul_add] at this
      exact this
    have a2 : (t - d) * W = W * t - W * d := by rw [Int.mul_comm, Int.mul_sub]
    rw [Int.mul_add]
    omega
  have hp : s / W / b < K := by
    have e1 : s / W / b = s / (W * b) := Int.ediv_ediv_of_nonneg (by omega)
    rw [e1]
    refine Int.ediv_lt_of_lt_mul (Int.mul_pos hW hb) ?_
    rw [Int.mul_comm K (W * b), ← hN]; exact hs.2
  have hlow : 0 ≤ W * (b * (s / W / b) + t) := Int.mul_nonneg (by omega) (by have := Int.mul_nonneg (show 0 ≤ b by omega) p0; omega)
  have hup : W * (b * (s / W / b) + t) + W ≤ N := by
    have g1 : b * (s / W / b) + t + 1 ≤ b * (s / W / b + 1) := by rw [Int.mul_add]; omega
    have g2 : b * (s / W / b + 1) ≤ b * K := Int.mul_le_mul_of_nonneg_left (by omega) (by omega)
    have g3 : W * (b * (s / W / b) + t + 1) ≤ W * (b * K) := Int.mul_le_mul_of_nonneg_left (by omega) (by omega)
    rw [Int.mul_add W _ 1, Int.mul_one] at g3
    rw [hN, Int.mul_assoc]; exact g3
  rw [e]
  omega
theorem rMulS {x y m k e : Int} (hx : -m ≤ x ∧ x ≤ m) (hy : 0 ≤ y ∧ y ≤ k) (hm : 0 ≤ m) (he : m * k = e) : -e ≤ x * y ∧ x * y ≤ e := by
  have a1 : x * y ≤ m * y := Int.mul_le_mul_of_nonneg_right hx.2 hy.1
  have a2 : m * y ≤ m * k := Int.mul_le_mul_of_nonneg_left hy.2 hm
  have a3 : (-m) * y ≤ x * y := Int.mul_le_mul_of_nonneg_right hx.1 hy.1
  have a4 : (-m) * y = -(m * y) := Int.neg_mul m y
  omega
/-- the six places' weights: rows a (weights) and v (wishes), N states -/
def radx (μ : mM) (a v : Nat) (N : Int) (p : Nat) : Prop := 0 < μ a p ∧ ∃ K, N = μ a p * (μ v p + 1) * K
def radix (μ : mM) (a v : Nat) (N : Int) : Prop := radx μ a v N 1 ∧ radx μ a v N 2 ∧ radx μ a v N 3 ∧ radx μ a v N 4 ∧ radx μ a v N 5 ∧ radx μ a v N 6
theorem radix.mk {μ : mM} {a v : Nat} {v1 v2 v3 v4 v5 v6 w1 w2 w3 w4 w5 w6 N : Int} (qv1 : μ v 1 = v1) (qv2 : μ v 2 = v2) (qv3 : μ v 3 = v3) (qv4 : μ v 4 = v4) (qv5 : μ v 5 = v5) (qv6 : μ v 6 = v6) (q1 : μ a 1 = w1) (q2 : μ a 2 = w2) (q3 : μ a 3 = w3) (q4 : μ a 4 = w4) (q5 : μ a 5 = w5) (q6 : μ a 6 = w6) (p1 : 0 < w1) (p2 : 0 < w2) (p3 : 0 < w3) (p4 : 0 < w4) (p5 : 0 < w5) (p6 : 0 < w6) (e6 : w5 = w6 * (v6 + 1)) (e5 : w4 = w5 * (v5 + 1)) (e4 : w3 = w4 * (v4 + 1)) (e3 : w2 = w3 * (v3 + 1)) (e2 : w1 = w2 * (v2 + 1)) (e1 : N = w1 * (v1 + 1)) : radix μ a v N := by
  refine ⟨⟨by rw [q1]; exact p1, 1, ?_⟩, ⟨by rw [q2]; exact p2, v1 + 1, ?_⟩, ⟨by rw [q3]; exact p3, (v2 + 1) * (v1 + 1), ?_⟩, ⟨by rw [q4]; exact p4, (v3 + 1) * ((v2 + 1) * (v1 + 1)), ?_⟩, ⟨by rw [q5]; exact p5, (v4 + 1) * ((v3 + 1) * ((v2 + 1) * (v1 + 1))), ?_⟩, ⟨by rw [q6]; exact p6, (v5 + 1) * ((v4 + 1) * ((v3 + 1) * ((v2 + 1) * (v1 + 1)))), ?_⟩⟩
  · rw [q1, qv1, Int.mul_one]; exact e1
  · rw [q2, qv2, e1, e2]
  · rw [q3, qv3, e1, e2, e3]; simp only [Int.mul_assoc]
  · rw [q4, qv4, e1, e2, e3, e4]; simp only [Int.mul_assoc]
  · rw [q5, qv5, e1, e2, e3, e4, e5]; simp only [Int.mul_assoc]
  · rw [q6, qv6, e1, e2, e3, e4, e5, e6]; simp only [Int.mul_assoc]
theorem radix.at {μ : mM} {a v : Nat} {N p : Int} (h : radix μ a v N) (hp : 1 ≤ p ∧ p ≤ 6) : radx μ a v N p.toNat := by
  obtain ⟨h1, h2, h3, h4, h5, h6⟩ := h
  have : p = 1 ∨ p = 2 ∨ p = 3 ∨ p = 4 ∨ p = 5 ∨ p = 6 := by omega
  rcases this with e | e | e | e | e | e <;> subst e <;> assumption
theorem radix.keep {l : List Nat} {w : mW} {μ μ1 : mM} {a v sa sv : Nat} {N : Int} (h : radix μ a v N) (hF : mF l w μ μ1) (hA : mAt w a sa) (hV : mAt w v sv) (ha : ∀ i, l.elem (1000 * sa + (if mArr sa then 999 else i)) = false) (hv : ∀ i, l.elem (1000 * sv + (if mArr sv then 999 else i)) = false) : radix μ1 a v N := by
  have e1 : ∀ i, μ1 a i = μ a i := fun i => hF.f hA (ha i) rfl
  have e2 : ∀ i, μ1 v i = μ v i := fun i => hF.f hV (hv i) rfl
  unfold radix radx at h ⊢
  simp only [e1, e2]; exact h
def dig (μ : mM) (h a v : Nat) (s : Int) (p : Nat) : Prop := μ h p = s / μ a p % (μ v p + 1)
def digs (μ : mM) (h a v : Nat) (s : Int) : Prop := dig μ h a v s 1 ∧ dig μ h a v s 2 ∧ dig μ h a v s 3 ∧ dig μ h a v s 4 ∧ dig μ h a v s 5 ∧ dig μ h a v s 6
theorem dig.mk {μ : mM} {h a v p : Nat} {s z x y b : Int} (qh : μ h p = z) (qa : μ a p = x) (qv : μ v p = y) (e1 : s / x = b) (e2 : b % (y + 1) = z) : dig μ h a v s p := by
  unfold dig; rw [qh, qa, qv, e1, e2]
theorem digs.at {μ : mM} {h a v : Nat} {s p : Int} (g : digs μ h a v s) (hp : 1 ≤ p ∧ p ≤ 6) : dig μ h a v s p.toNat := by
  obtain ⟨h1, h2, h3, h4, h5, h6⟩ := g
  have : p = 1 ∨ p = 2 ∨ p = 3 ∨ p = 4 ∨ p = 5 ∨ p = 6 := by omega
  rcases this with e | e | e | e | e | e <;> subst e <;> assumption
theorem digs.keep {l : List Nat} {w : mW} {μ μ1 : mM} {h a v sh sa sv : Nat} {s : Int} (g : digs μ h a v s) (hF : mF l w μ μ1) (hH : mAt w h sh) (hA : mAt w a sa) (hV : mAt w v sv) (hh : ∀ i, l.elem (1000 * sh + (if mArr sh then 999 else i)) = false) (ha : ∀ i, l.elem (1000 * sa + (if mArr sa then 999 else i)) = false) (hv : ∀ i, l.elem (1000 * sv + (if mArr sv then 999 else i)) = false) : digs μ1 h a v s := by
  have e0 : ∀ i, μ1 h i = μ h i := fun i => hF.f hH (hh i) rfl
  have e1 : ∀ i, μ1 a i = μ a i := fun i => hF.f hA (ha i) rfl
  have e2 : ∀ i, μ1 v i = μ v i := fun i => hF.f hV (hv i) rfl
  unfold digs dig at g ⊢
  simp only [e0, e1, e2]; exact g
theorem net_t {μ : mM} {h a v : Nat} {N s p t x y z : Int} (hr : radix μ a v N) (hd : digs μ h a v s) (hp : 1 ≤ p ∧ p ≤ 6) (hs : 0 ≤ s ∧ s < N) (qa : μ a p.toNat = x) (qv : μ v p.toNat = y) (qh : μ h p.toNat = z) (hy : 0 ≤ y) (ht : 0 ≤ t ∧ t ≤ y) {e : Int} (he : (t - z) * x = e) : 0 ≤ s + e ∧ s + e < N := by
  obtain ⟨w0, K, hK⟩ := hr.at hp
  have d := hd.at hp
  unfold dig at d
  rw [qa] at w0
  rw [qa, qv] at hK
  rw [qa, qv, qh] at d
  rw [← he]
  exact digT w0 (by omega) hK hs d (by omega)
/-- a queue: its entries are states that were reached, none stands there twice -/
def quOK (μ : mM) (n N : Int) : Prop := (∀ i : Int, 0 ≤ i → i < n → 0 ≤ μ 190 i.toNat ∧ μ 190 i.toNat < N ∧ 0 ≤ μ 189 (μ 190 i.toNat).toNat ∧ μ 189 (μ 190 i.toNat).toNat ≤ i) ∧ dist μ 190 n
theorem quOK.pig {μ : mM} {n N : Int} (h : quOK μ n N) (hN : 0 ≤ N) : n ≤ N := by
  by_cases h0 : n ≤ 0
  · omega
  · have := pigeon N.toNat n.toNat (fun i => (μ 190 i).toNat) (fun i hi => by have := h.1 i (by omega) (by omega); have e : ((i : Int)).toNat = i := rfl; rw [e] at this; show (μ 190 i).toNat < N.toNat; omega) (fun i j hij hj => by
      have h1 := h.2 i j (by omega) (by omega) (by omega)
      have h2 := h.1 i (by omega) (by omega)
      have h3 := h.1 j (by omega) (by omega)
      have e1 : ((i : Int)).toNat = i := rfl
      have e2 : ((j : Int)).toNat = j := rfl
      rw [e1] at h1 h2
      rw [e2] at h1 h3
      show (μ 190 i).toNat ≠ (μ 190 j).toNat
      omega)
    omega
theorem quOK.rd {μ : mM} {n N i s v : Int} (h : quOK μ n N) (h0 : 0 ≤ i) (h1 : i < n) (q : μ 190 i.toNat = s) (qv : μ 189 s.toNat = v) : 0 ≤ v ∧ v ≤ i := by
  have := h.1 i h0 h1
  rw [q, qv] at this; exact this.2.2
theorem quOK.st {μ : mM} {n N i s : Int} (h : quOK μ n N) (h0 : 0 ≤ i) (h1 : i < n) (q : μ 190 i.toNat = s) : 0 ≤ s ∧ s < N := by
  have := h.1 i h0 h1
  rw [q] at this; exact ⟨this.1, this.2.1⟩
theorem quOK.keep {l : List Nat} {w : mW} {μ μ1 : mM} {n N : Int} (h : quOK μ n N) (hw : mWF w) (hF : mF l w μ μ1) (hl : (!(l.elem 189999) && !(l.elem 190999)) = true) : quOK μ1 n N := by
  simp only [Bool.and_eq_true, Bool.not_eq_true'] at hl
  have e1 : μ1 189 = μ 189 := funext fun i => hF.f (A_189 hw) hl.1 rfl
  have e2 : μ1 190 = μ 190 := funext fun i => hF.f (A_190 hw) hl.2 rfl
  unfold quOK dist at h ⊢
  rw [e1, e2]; exact h
theorem quOK.push {μ μ1 μ2 : mM} {n N t v o : Int} (h : quOK μ n N) (hn : 0 ≤ n) (ht : 0 ≤ t ∧ t < N) (qo : μ 189 t.toNat = o) (ho : o < 0) (u1 : mU μ 189 t.toNat v μ1) (hv : 0 ≤ v ∧ v ≤ n) (u2 : mU μ1 190 n.toNat t μ2) : quOK μ2 (n + 1) N := by
  have hq : ∀ i : Int, 0 ≤ i → i < n → μ2 190 i.toNat = μ 190 i.toNat := fun i h0 h1 => by rw [u2.2 190 _ (Or.inr (by omega)), u1.2 190 _ (Or.inl (by decide))]
  have hn2 : μ2 190 n.toNat = t := u2.1
  have ne : ∀ i : Int, 0 ≤ i → i < n → μ 190 i.toNat ≠ t := fun i h0 h1 e => by
    have := h.1 i h0 h1
    rw [e, qo] at this; omega
  refine ⟨fun i h0 h1 => ?_, ?_⟩
  · by_cases he : i = n
    · rw [he, hn2, u2.2 189 _ (Or.inl (by decide)), u1.1]; omega
    · have g := h.1 i h0 (by omega)
      have gn := ne i h0 (by omega)
      rw [hq i h0 (by omega), u2.2 189 _ (Or.inl (by decide)), u1.2 189 _ (Or.inr (by omega))]
      exact g
  · intro i j hi hij hj
    by_cases he : j = n
    · rw [he, hn2, hq i hi (by omega)]; exact ne i hi (by omega)
    · rw [hq i hi (by omega), hq j (by omega) (by omega)]; exact h.2 i j hi hij (by omega)
theorem quOK.room {μ : mM} {n N t o : Int} (h : quOK μ n N) (hn : 0 ≤ n) (ht : 0 ≤ t ∧ t < N) (qo : μ 189 t.toNat = o) (ho : o < 0) : n < N := by
  have := (h.push hn ht qo ho mUp_ok ⟨Int.le_refl 0, hn⟩ mUp_ok).pig (by omega)
  omega
theorem quOK.init {μ μ1 μ2 : mM} {N e : Int} (he : e = N - 1) (hN : 1 ≤ N) (u1 : mU μ 190 (0 : Int).toNat e μ1) (u2 : mU μ1 189 e.toNat 0 μ2) : quOK μ2 1 N := by
  have h0 : μ2 190 (0 : Int).toNat = e := by rw [u2.2 190 _ (Or.inl (by decide)), u1.1]
  refine ⟨fun i i0 i1 => ?_, fun i j i0 ij j1 => by omega⟩
  have : i = 0 := by omega
  subst this
  rw [h0, u2.1]; omega
end
section
theorem dX12_tries_0 : decode cX12_tries 0 = .ok (.iload_n 1, 1) := dc0 dO_27 (by decide +kernel)
theorem dX12_tries_1 : decode cX12_tries 1 = .ok (.iconst 0, 1) := dc0 dO_3 (by decide +kernel)
theorem dX12_tries_2 : decode cX12_tries 2 = .ok (.iconst 3, 1) := dc0 dO_6 (by decide +kernel)
theorem dX12_tries_3 : decode cX12_tries 3 = .ok (.invokestatic 18, 3) := dcU2 dO_184 (by decide +kernel)
theorem dX12_tries_6 : decode cX12_tries 6 = .ok (.ifCond .ne 5, 3) := dcS2 dO_154 (by decide +kernel)
theorem dX12_tries_9 : decode cX12_tries 9 = .ok (.iconst (-1), 1) := dc0 dO_2 (by decide +kernel)
theorem dX12_tries_10 : decode cX12_tries 10 = .ok (.ireturn, 1) := dc0 dO_172 (by decide +kernel)
theorem dX12_tries_11 : decode cX12_tries 11 = .ok (.aload_n 0, 1) := dc0 dO_42 (by decide +kernel)
theorem dX12_tries_12 : decode cX12_tries 12 = .ok (.invokevirtual 728, 3) := dcU2 dO_182 (by decide +kernel)
theorem dX12_tries_15 : decode cX12_tries 15 = .ok (.istore_n 2, 1) := dc0 dO_61 (by decide +kernel)
theorem dX12_tries_16 : decode cX12_tries 16 = .ok (.iconst 0, 1) := dc0 dO_3 (by decide +kernel)
theorem dX12_tries_17 : decode cX12_tries 17 = .ok (.istore_n 3, 1) := dc0 dO_62 (by decide +kernel)
theorem dX12_tries_18 : decode cX12_tries 18 = .ok (.iload_n 3, 1) := dc0 dO_29 (by decide +kernel)
theorem dX12_tries_19 : decode cX12_tries 19 = .ok (.iload_n 2, 1) := dc0 dO_28 (by decide +kernel)
theorem dX12_tries_20 : decode cX12_tries 20 = .ok (.if_icmp .ge 23, 3) := dcS2 dO_162 (by decide +kernel)
theorem dX12_tries_23 : decode cX12_tries 23 = .ok (.aload_n 0, 1) := dc0 dO_42 (by decide +kernel)
theorem dX12_tries_24 : decode cX12_tries 24 = .ok (.getfield 530, 3) := dcU2 dO_180 (by decide +kernel)
theorem dX12_tries_27 : decode cX12_tries 27 = .ok (.iload_n 3, 1) := dc0 dO_29 (by decide +kernel)
theorem dX12_tries_28 : decode cX12_tries 28 = .ok (.iconst (-1), 1) := dc0 dO_2 (by decide +kernel)
theorem dX12_tries_29 : decode cX12_tries 29 = .ok (.iastore, 1) := dc0 dO_79 (by decide +kernel)
theorem dX12_tries_30 : decode cX12_tries 30 = .ok (.aload_n 0, 1) := dc0 dO_42 (by decide +kernel)
theorem dX12_tries_31 : decode cX12_tries 31 = .ok (.getfield 536, 3) := dcU2 dO_180 (by decide +kernel)
theorem dX12_tries_34 : decode cX12_tries 34 = .ok (.iload_n 3, 1) := dc0 dO_29 (by decide +kernel)
theorem dX12_tries_35 : decode cX12_tries 35 = .ok (.iconst 0, 1) := dc0 dO_3 (by decide +kernel)
theorem dX12_tries_36 : decode cX12_tries 36 = .ok (.bastore, 1) := dc0 dO_84 (by decide +kernel)
theorem dX12_tries_37 : decode cX12_tries 37 = .ok (.iinc 3 1, 3) := dcI dO_132 (by decide +kernel)
theorem dX12_tries_40 : decode cX12_tries 40 = .ok (.goto (-22), 3) := dcS2 dO_167 (by decide +kernel)
theorem dX12_tries_43 : decode cX12_tries 43 = .ok (.iconst 0, 1) := dc0 dO_3 (by decide +kernel)
theorem dX12_tries_44 : decode cX12_tries 44 = .ok (.istore_n 3, 1) := dc0 dO_62 (by decide +kernel)
theorem dX12_tries_45 : decode cX12_tries 45 = .ok (.aload_n 0, 1) := dc0 dO_42 (by decide +kernel)
theorem dX12_tries_46 : decode cX12_tries 46 = .ok (.getfield 533, 3) := dcU2 dO_180 (by decide +kernel)
theorem dX12_tries_49 : decode cX12_tries 49 = .ok (.iload_n 3, 1) := dc0 dO_29 (by decide +kernel)
theorem dX12_tries_50 : decode cX12_tries 50 = .ok (.iload_n 2, 1) := dc0 dO_28 (by decide +kernel)
theorem dX12_tries_51 : decode cX12_tries 51 = .ok (.iconst 1, 1) := dc0 dO_4 (by decide +kernel)
theorem dX12_tries_52 : decode cX12_tries 52 = .ok (.isub, 1) := dc0 dO_100 (by decide +kernel)
theorem dX12_tries_53 : decode cX12_tries 53 = .ok (.iastore, 1) := dc0 dO_79 (by decide +kernel)
theorem dX12_tries_54 : decode cX12_tries 54 = .ok (.aload_n 0, 1) := dc0 dO_42 (by decide +kernel)
theorem dX12_tries_55 : decode cX12_tries 55 = .ok (.getfield 530, 3) := dcU2 dO_180 (by decide +kernel)
theorem dX12_tries_58 : decode cX12_tries 58 = .ok (.iload_n 2, 1) := dc0 dO_28 (by decide +kernel)
theorem dX12_tries_59 : decode cX12_tries 59 = .ok (.iconst 1, 1) := dc0 dO_4 (by decide +kernel)
theorem dX12_tries_60 : decode cX12_tries 60 = .ok (.isub, 1) := dc0 dO_100 (by decide +kernel)
theorem dX12_tries_61 : decode cX12_tries 61 = .ok (.iconst 0, 1) := dc0 dO_3 (by decide +kernel)
theorem dX12_tries_62 : decode cX12_tries 62 = .ok (.iastore, 1) := dc0 dO_79 (by decide +kernel)
theorem dX12_tries_63 : decode cX12_tries 63 = .ok (.iinc 3 1, 3) := dcI dO_132 (by decide +kernel)
theorem dX12_tries_66 : decode cX12_tries 66 = .ok (.iconst 0, 1) := dc0 dO_3 (by decide +kernel)
theorem dX12_tries_67 : decode cX12_tries 67 = .ok (.istore 4, 2) := dcU1 dO_54 (by decide +kernel)
theorem dX12_tries_69 : decode cX12_tries 69 = .ok (.ldc 29, 2) := dcU1 dO_18 (by decide +kernel)
theorem dX12_tries_71 : decode cX12_tries 71 = .ok (.istore 5, 2) := dcU1 dO_54 (by decide +kernel)
theorem dX12_tries_73 : decode cX12_tries 73 = .ok (.iconst 0, 1) := dc0 dO_3 (by decide +kernel)
theorem dX12_tries_74 : decode cX12_tries 74 = .ok (.istore 6, 2) := dcU1 dO_54 (by decide +kernel)
theorem dX12_tries_76 : decode cX12_tries 76 = .ok (.iload 6, 2) := dcU1 dO_21 (by decide +kernel)
theorem dX12_tries_78 : decode cX12_tries 78 = .ok (.iload_n 3, 1) := dc0 dO_29 (by decide +kernel)
theorem dX12_tries_79 : decode cX12_tries 79 = .ok (.if_icmp .ge 161, 3) := dcS2 dO_162 (by decide +kernel)
theorem dX12_tries_82 : decode cX12_tries 82 = .ok (.aload_n 0, 1) := dc0 dO_42 (by decide +kernel)
theorem dX12_tries_83 : decode cX12_tries 83 = .ok (.getfield 533, 3) := dcU2 dO_180 (by decide +kernel)
theorem dX12_tries_86 : decode cX12_tries 86 = .ok (.iload 6, 2) := dcU1 dO_21 (by decide +kernel)
theorem dX12_tries_88 : decode cX12_tries 88 = .ok (.iaload, 1) := dc0 dO_46 (by decide +kernel)
theorem dX12_tries_89 : decode cX12_tries 89 = .ok (.istore 7, 2) := dcU1 dO_54 (by decide +kernel)
theorem dX12_tries_91 : decode cX12_tries 91 = .ok (.iconst 1, 1) := dc0 dO_4 (by decide +kernel)
theorem dX12_tries_92 : decode cX12_tries 92 = .ok (.istore 8, 2) := dcU1 dO_54 (by decide +kernel)
theorem dX12_tries_94 : decode cX12_tries 94 = .ok (.aload_n 0, 1) := dc0 dO_42 (by decide +kernel)
theorem dX12_tries_95 : decode cX12_tries 95 = .ok (.iload 7, 2) := dcU1 dO_21 (by decide +kernel)
theorem dX12_tries_97 : decode cX12_tries 97 = .ok (.invokevirtual 722, 3) := dcU2 dO_182 (by decide +kernel)
theorem dX12_tries_100 : decode cX12_tries 100 = .ok (.iconst 1, 1) := dc0 dO_4 (by decide +kernel)
theorem dX12_tries_101 : decode cX12_tries 101 = .ok (.istore 9, 2) := dcU1 dO_54 (by decide +kernel)
theorem dX12_tries_103 : decode cX12_tries 103 = .ok (.iload 9, 2) := dcU1 dO_21 (by decide +kernel)
theorem dX12_tries_105 : decode cX12_tries 105 = .ok (.bipush 6, 2) := dcS1 dO_16 (by decide +kernel)
theorem dX12_tries_107 : decode cX12_tries 107 = .ok (.if_icmp .gt 95, 3) := dcS2 dO_163 (by decide +kernel)
theorem dX12_tries_110 : decode cX12_tries 110 = .ok (.aload_n 0, 1) := dc0 dO_42 (by decide +kernel)
theorem dX12_tries_111 : decode cX12_tries 111 = .ok (.iload 9, 2) := dcU1 dO_21 (by decide +kernel)
theorem dX12_tries_113 : decode cX12_tries 113 = .ok (.invokevirtual 725, 3) := dcU2 dO_182 (by decide +kernel)
theorem dX12_tries_116 : decode cX12_tries 116 = .ok (.istore 10, 2) := dcU1 dO_54 (by decide +kernel)
theorem dX12_tries_118 : decode cX12_tries 118 = .ok (.iload 10, 2) := dcU1 dO_21 (by decide +kernel)
theorem dX12_tries_120 : decode cX12_tries 120 = .ok (.aload_n 0, 1) := dc0 dO_42 (by decide +kernel)
theorem dX12_tries_121 : decode cX12_tries 121 = .ok (.getfield 526, 3) := dcU2 dO_180 (by decide +kernel)
theorem dX12_tries_124 : decode cX12_tries 124 = .ok (.iload 9, 2) := dcU1 dO_21 (by decide +kernel)
theorem dX12_tries_126 : decode cX12_tries 126 = .ok (.iaload, 1) := dc0 dO_46 (by decide +kernel)
theorem dX12_tries_127 : decode cX12_tries 127 = .ok (.if_icmp .ne 6, 3) := dcS2 dO_160 (by decide +kernel)
theorem sfx_cX12_tries_128 : (cX12_tries.data.toList.drop 128).take 67 = [0, 6, 167, 0, 66, 3, 54, 8, 21, 7, 21, 10, 42, 180, 2, 14, 21, 9, 46, 100, 42, 180, 2, 11, 21, 9, 46, 104, 96, 54, 11, 42, 180, 2, 18, 21, 11, 46, 156, 0, 30, 42, 180, 2, 18, 21, 11, 42, 180, 2, 18, 21, 7, 46, 4, 96, 79, 42, 180, 2, 21, 29, 21, 11, 79, 132, 3] := by decide +kernel
theorem dX12_tries_130 : decode cX12_tries 130 = .ok (.goto 66, 3) := dcS2 dO_167 (rdS2.ch sfx_cX12_tries_128 2 rfl (by decide +kernel))
theorem dX12_tries_133 : decode cX12_tries 133 = .ok (.iconst 0, 1) := dc0 dO_3 (rdB.ch sfx_cX12_tries_128 5 rfl (by decide +kernel))
theorem dX12_tries_134 : decode cX12_tries 134 = .ok (.istore 8, 2) := dcU1 dO_54 (rdU1.ch sfx_cX12_tries_128 6 rfl (by decide +kernel))
theorem dX12_tries_136 : decode cX12_tries 136 = .ok (.iload 7, 2) := dcU1 dO_21 (rdU1.ch sfx_cX12_tries_128 8 rfl (by decide +kernel))
theorem dX12_tries_138 : decode cX12_tries 138 = .ok (.iload 10, 2) := dcU1 dO_21 (rdU1.ch sfx_cX12_tries_128 10 rfl (by decide +kernel))
theorem dX12_tries_140 : decode cX12_tries 140 = .ok (.aload_n 0, 1) := dc0 dO_42 (rdB.ch sfx_cX12_tries_128 12 rfl (by decide +kernel))
theorem dX12_tries_141 : decode cX12_tries 141 = .ok (.getfield 526, 3) := dcU2 dO_180 (rdU2.ch sfx_cX12_tries_128 13 rfl (by decide +kernel))
theorem dX12_tries_144 : decode cX12_tries 144 = .ok (.iload 9, 2) := dcU1 dO_21 (rdU1.ch sfx_cX12_tries_128 16 rfl (by decide +kernel))
theorem dX12_tries_146 : decode cX12_tries 146 = .ok (.iaload, 1) := dc0 dO_46 (rdB.ch sfx_cX12_tries_128 18 rfl (by decide +kernel))
theorem dX12_tries_147 : decode cX12_tries 147 = .ok (.isub, 1) := dc0 dO_100 (rdB.ch sfx_cX12_tries_128 19 rfl (by decide +kernel))
theorem dX12_tries_148 : decode cX12_tries 148 = .ok (.aload_n 0, 1) := dc0 dO_42 (rdB.ch sfx_cX12_tries_128 20 rfl (by decide +kernel))
theorem dX12_tries_149 : decode cX12_tries 149 = .ok (.getfield 523, 3) := dcU2 dO_180 (rdU2.ch sfx_cX12_tries_128 21 rfl (by decide +kernel))
theorem dX12_tries_152 : decode cX12_tries 152 = .ok (.iload 9, 2) := dcU1 dO_21 (rdU1.ch sfx_cX12_tries_128 24 rfl (by decide +kernel))
theorem dX12_tries_154 : decode cX12_tries 154 = .ok (.iaload, 1) := dc0 dO_46 (rdB.ch sfx_cX12_tries_128 26 rfl (by decide +kernel))
theorem dX12_tries_155 : decode cX12_tries 155 = .ok (.imul, 1) := dc0 dO_104 (rdB.ch sfx_cX12_tries_128 27 rfl (by decide +kernel))
theorem dX12_tries_156 : decode cX12_tries 156 = .ok (.iadd, 1) := dc0 dO_96 (rdB.ch sfx_cX12_tries_128 28 rfl (by decide +kernel))
theorem dX12_tries_157 : decode cX12_tries 157 = .ok (.istore 11, 2) := dcU1 dO_54 (rdU1.ch sfx_cX12_tries_128 29 rfl (by decide +kernel))
theorem dX12_tries_159 : decode cX12_tries 159 = .ok (.aload_n 0, 1) := dc0 dO_42 (rdB.ch sfx_cX12_tries_128 31 rfl (by decide +kernel))
theorem dX12_tries_160 : decode cX12_tries 160 = .ok (.getfield 530, 3) := dcU2 dO_180 (rdU2.ch sfx_cX12_tries_128 32 rfl (by decide +kernel))
theorem dX12_tries_163 : decode cX12_tries 163 = .ok (.iload 11, 2) := dcU1 dO_21 (rdU1.ch sfx_cX12_tries_128 35 rfl (by decide +kernel))
theorem dX12_tries_165 : decode cX12_tries 165 = .ok (.iaload, 1) := dc0 dO_46 (rdB.ch sfx_cX12_tries_128 37 rfl (by decide +kernel))
theorem dX12_tries_166 : decode cX12_tries 166 = .ok (.ifCond .ge 30, 3) := dcS2 dO_156 (rdS2.ch sfx_cX12_tries_128 38 rfl (by decide +kernel))
theorem dX12_tries_169 : decode cX12_tries 169 = .ok (.aload_n 0, 1) := dc0 dO_42 (rdB.ch sfx_cX12_tries_128 41 rfl (by decide +kernel))
theorem dX12_tries_170 : decode cX12_tries 170 = .ok (.getfield 530, 3) := dcU2 dO_180 (rdU2.ch sfx_cX12_tries_128 42 rfl (by decide +kernel))
theorem dX12_tries_173 : decode cX12_tries 173 = .ok (.iload 11, 2) := dcU1 dO_21 (rdU1.ch sfx_cX12_tries_128 45 rfl (by decide +kernel))
theorem dX12_tries_175 : decode cX12_tries 175 = .ok (.aload_n 0, 1) := dc0 dO_42 (rdB.ch sfx_cX12_tries_128 47 rfl (by decide +kernel))
theorem dX12_tries_176 : decode cX12_tries 176 = .ok (.getfield 530, 3) := dcU2 dO_180 (rdU2.ch sfx_cX12_tries_128 48 rfl (by decide +kernel))
theorem dX12_tries_179 : decode cX12_tries 179 = .ok (.iload 7, 2) := dcU1 dO_21 (rdU1.ch sfx_cX12_tries_128 51 rfl (by decide +kernel))
theorem dX12_tries_181 : decode cX12_tries 181 = .ok (.iaload, 1) := dc0 dO_46 (rdB.ch sfx_cX12_tries_128 53 rfl (by decide +kernel))
theorem dX12_tries_182 : decode cX12_tries 182 = .ok (.iconst 1, 1) := dc0 dO_4 (rdB.ch sfx_cX12_tries_128 54 rfl (by decide +kernel))
theorem dX12_tries_183 : decode cX12_tries 183 = .ok (.iadd, 1) := dc0 dO_96 (rdB.ch sfx_cX12_tries_128 55 rfl (by decide +kernel))
theorem dX12_tries_184 : decode cX12_tries 184 = .ok (.iastore, 1) := dc0 dO_79 (rdB.ch sfx_cX12_tries_128 56 rfl (by decide +kernel))
theorem dX12_tries_185 : decode cX12_tries 185 = .ok (.aload_n 0, 1) := dc0 dO_42 (rdB.ch sfx_cX12_tries_128 57 rfl (by decide +kernel))
theorem dX12_tries_186 : decode cX12_tries 186 = .ok (.getfield 533, 3) := dcU2 dO_180 (rdU2.ch sfx_cX12_tries_128 58 rfl (by decide +kernel))
theorem dX12_tries_189 : decode cX12_tries 189 = .ok (.iload_n 3, 1) := dc0 dO_29 (rdB.ch sfx_cX12_tries_128 61 rfl (by decide +kernel))
theorem dX12_tries_190 : decode cX12_tries 190 = .ok (.iload 11, 2) := dcU1 dO_21 (rdU1.ch sfx_cX12_tries_128 62 rfl (by decide +kernel))
theorem sfx_cX12_tries_192 : (cX12_tries.data.toList.drop 192).take 67 = [79, 132, 3, 1, 132, 9, 1, 167, 255, 160, 21, 8, 153, 0, 30, 132, 4, 1, 42, 180, 2, 24, 21, 7, 4, 84, 21, 5, 18, 29, 160, 0, 12, 42, 180, 2, 18, 21, 7, 46, 54, 5, 132, 6, 1, 167, 255, 95, 27, 154, 0, 5, 29, 172, 27, 4, 160, 0, 6, 21, 4, 172, 27, 6, 160, 0, 6] := by decide +kernel
theorem dX12_tries_192 : decode cX12_tries 192 = .ok (.iastore, 1) := dc0 dO_79 (rdB.ch sfx_cX12_tries_192 0 rfl (by decide +kernel))
theorem dX12_tries_193 : decode cX12_tries 193 = .ok (.iinc 3 1, 3) := dcI dO_132 (rdI.ch sfx_cX12_tries_192 1 rfl (by decide +kernel))
theorem dX12_tries_196 : decode cX12_tries 196 = .ok (.iinc 9 1, 3) := dcI dO_132 (rdI.ch sfx_cX12_tries_192 4 rfl (by decide +kernel))
theorem dX12_tries_199 : decode cX12_tries 199 = .ok (.goto (-96), 3) := dcS2 dO_167 (rdS2.ch sfx_cX12_tries_192 7 rfl (by decide +kernel))
theorem dX12_tries_202 : decode cX12_tries 202 = .ok (.iload 8, 2) := dcU1 dO_21 (rdU1.ch sfx_cX12_tries_192 10 rfl (by decide +kernel))
theorem dX12_tries_204 : decode cX12_tries 204 = .ok (.ifCond .eq 30, 3) := dcS2 dO_153 (rdS2.ch sfx_cX12_tries_192 12 rfl (by decide +kernel))
theorem dX12_tries_207 : decode cX12_tries 207 = .ok (.iinc 4 1, 3) := dcI dO_132 (rdI.ch sfx_cX12_tries_192 15 rfl (by decide +kernel))
theorem dX12_tries_210 : decode cX12_tries 210 = .ok (.aload_n 0, 1) := dc0 dO_42 (rdB.ch sfx_cX12_tries_192 18 rfl (by decide +kernel))
theorem dX12_tries_211 : decode cX12_tries 211 = .ok (.getfield 536, 3) := dcU2 dO_180 (rdU2.ch sfx_cX12_tries_192 19 rfl (by decide +kernel))
theorem dX12_tries_214 : decode cX12_tries 214 = .ok (.iload 7, 2) := dcU1 dO_21 (rdU1.ch sfx_cX12_tries_192 22 rfl (by decide +kernel))
theorem dX12_tries_216 : decode cX12_tries 216 = .ok (.iconst 1, 1) := dc0 dO_4 (rdB.ch sfx_cX12_tries_192 24 rfl (by decide +kernel))
theorem dX12_tries_217 : decode cX12_tries 217 = .ok (.bastore, 1) := dc0 dO_84 (rdB.ch sfx_cX12_tries_192 25 rfl (by decide +kernel))
theorem dX12_tries_218 : decode cX12_tries 218 = .ok (.iload 5, 2) := dcU1 dO_21 (rdU1.ch sfx_cX12_tries_192 26 rfl (by decide +kernel))
theorem dX12_tries_220 : decode cX12_tries 220 = .ok (.ldc 29, 2) := dcU1 dO_18 (rdU1.ch sfx_cX12_tries_192 28 rfl (by decide +kernel))
theorem dX12_tries_222 : decode cX12_tries 222 = .ok (.if_icmp .ne 12, 3) := dcS2 dO_160 (rdS2.ch sfx_cX12_tries_192 30 rfl (by decide +kernel))
theorem dX12_tries_225 : decode cX12_tries 225 = .ok (.aload_n 0, 1) := dc0 dO_42 (rdB.ch sfx_cX12_tries_192 33 rfl (by decide +kernel))
theorem dX12_tries_226 : decode cX12_tries 226 = .ok (.getfield 530, 3) := dcU2 dO_180 (rdU2.ch sfx_cX12_tries_192 34 rfl (by decide +kernel))
theorem dX12_tries_229 : decode cX12_tries 229 = .ok (.iload 7, 2) := dcU1 dO_21 (rdU1.ch sfx_cX12_tries_192 37 rfl (by decide +kernel))
theorem dX12_tries_231 : decode cX12_tries 231 = .ok (.iaload, 1) := dc0 dO_46 (rdB.ch sfx_cX12_tries_192 39 rfl (by decide +kernel))
theorem dX12_tries_232 : decode cX12_tries 232 = .ok (.istore 5, 2) := dcU1 dO_54 (rdU1.ch sfx_cX12_tries_192 40 rfl (by decide +kernel))
theorem dX12_tries_234 : decode cX12_tries 234 = .ok (.iinc 6 1, 3) := dcI dO_132 (rdI.ch sfx_cX12_tries_192 42 rfl (by decide +kernel))
theorem dX12_tries_237 : decode cX12_tries 237 = .ok (.goto (-161), 3) := dcS2 dO_167 (rdS2.ch sfx_cX12_tries_192 45 rfl (by decide +kernel))
theorem dX12_tries_240 : decode cX12_tries 240 = .ok (.iload_n 1, 1) := dc0 dO_27 (rdB.ch sfx_cX12_tries_192 48 rfl (by decide +kernel))
theorem dX12_tries_241 : decode cX12_tries 241 = .ok (.ifCond .ne 5, 3) := dcS2 dO_154 (rdS2.ch sfx_cX12_tries_192 49 rfl (by decide +kernel))
theorem dX12_tries_244 : decode cX12_tries 244 = .ok (.iload_n 3, 1) := dc0 dO_29 (rdB.ch sfx_cX12_tries_192 52 rfl (by decide +kernel))
theorem dX12_tries_245 : decode cX12_tries 245 = .ok (.ireturn, 1) := dc0 dO_172 (rdB.ch sfx_cX12_tries_192 53 rfl (by decide +kernel))
theorem dX12_tries_246 : decode cX12_tries 246 = .ok (.iload_n 1, 1) := dc0 dO_27 (rdB.ch sfx_cX12_tries_192 54 rfl (by decide +kernel))
theorem dX12_tries_247 : decode cX12_tries 247 = .ok (.iconst 1, 1) := dc0 dO_4 (rdB.ch sfx_cX12_tries_192 55 rfl (by decide +kernel))
theorem dX12_tries_248 : decode cX12_tries 248 = .ok (.if_icmp .ne 6, 3) := dcS2 dO_160 (rdS2.ch sfx_cX12_tries_192 56 rfl (by decide +kernel))
theorem dX12_tries_251 : decode cX12_tries 251 = .ok (.iload 4, 2) := dcU1 dO_21 (rdU1.ch sfx_cX12_tries_192 59 rfl (by decide +kernel))
theorem dX12_tries_253 : decode cX12_tries 253 = .ok (.ireturn, 1) := dc0 dO_172 (rdB.ch sfx_cX12_tries_192 61 rfl (by decide +kernel))
theorem dX12_tries_254 : decode cX12_tries 254 = .ok (.iload_n 1, 1) := dc0 dO_27 (rdB.ch sfx_cX12_tries_192 62 rfl (by decide +kernel))
theorem dX12_tries_255 : decode cX12_tries 255 = .ok (.iconst 3, 1) := dc0 dO_6 (rdB.ch sfx_cX12_tries_192 63 rfl (by decide +kernel))
theorem sfx_cX12_tries_256 : (cX12_tries.data.toList.drop 256).take 67 = [160, 0, 6, 21, 5, 172, 4, 54, 6, 21, 6, 153, 0, 138, 3, 54, 6, 29, 4, 100, 54, 7, 21, 7, 155, 0, 122, 42, 180, 2, 21, 21, 7, 46, 54, 8, 42, 180, 2, 24, 21, 8, 51, 153, 0, 6, 167, 0, 94, 42, 21, 8, 182, 2, 210, 4, 54, 9, 21, 9, 16, 6, 163, 0, 56, 42, 180] := by decide +kernel
theorem dX12_tries_256 : decode cX12_tries 256 = .ok (.if_icmp .ne 6, 3) := dcS2 dO_160 (rdS2.ch sfx_cX12_tries_256 0 rfl (by decide +kernel))
theorem dX12_tries_259 : decode cX12_tries 259 = .ok (.iload 5, 2) := dcU1 dO_21 (rdU1.ch sfx_cX12_tries_256 3 rfl (by decide +kernel))
theorem dX12_tries_261 : decode cX12_tries 261 = .ok (.ireturn, 1) := dc0 dO_172 (rdB.ch sfx_cX12_tries_256 5 rfl (by decide +kernel))
theorem dX12_tries_262 : decode cX12_tries 262 = .ok (.iconst 1, 1) := dc0 dO_4 (rdB.ch sfx_cX12_tries_256 6 rfl (by decide +kernel))
theorem dX12_tries_263 : decode cX12_tries 263 = .ok (.istore 6, 2) := dcU1 dO_54 (rdU1.ch sfx_cX12_tries_256 7 rfl (by decide +kernel))
theorem dX12_tries_265 : decode cX12_tries 265 = .ok (.iload 6, 2) := dcU1 dO_21 (rdU1.ch sfx_cX12_tries_256 9 rfl (by decide +kernel))
theorem dX12_tries_267 : decode cX12_tries 267 = .ok (.ifCond .eq 138, 3) := dcS2 dO_153 (rdS2.ch sfx_cX12_tries_256 11 rfl (by decide +kernel))
theorem dX12_tries_270 : decode cX12_tries 270 = .ok (.iconst 0, 1) := dc0 dO_3 (rdB.ch sfx_cX12_tries_256 14 rfl (by decide +kernel))
theorem dX12_tries_271 : decode cX12_tries 271 = .ok (.istore 6, 2) := dcU1 dO_54 (rdU1.ch sfx_cX12_tries_256 15 rfl (by decide +kernel))
theorem dX12_tries_273 : decode cX12_tries 273 = .ok (.iload_n 3, 1) := dc0 dO_29 (rdB.ch sfx_cX12_tries_256 17 rfl (by decide +kernel))
theorem dX12_tries_274 : decode cX12_tries 274 = .ok (.iconst 1, 1) := dc0 dO_4 (rdB.ch sfx_cX12_tries_256 18 rfl (by decide +kernel))
theorem dX12_tries_275 : decode cX12_tries 275 = .ok (.isub, 1) := dc0 dO_100 (rdB.ch sfx_cX12_tries_256 19 rfl (by decide +kernel))
theorem dX12_tries_276 : decode cX12_tries 276 = .ok (.istore 7, 2) := dcU1 dO_54 (rdU1.ch sfx_cX12_tries_256 20 rfl (by decide +kernel))
theorem dX12_tries_278 : decode cX12_tries 278 = .ok (.iload 7, 2) := dcU1 dO_21 (rdU1.ch sfx_cX12_tries_256 22 rfl (by decide +kernel))
theorem dX12_tries_280 : decode cX12_tries 280 = .ok (.ifCond .lt 122, 3) := dcS2 dO_155 (rdS2.ch sfx_cX12_tries_256 24 rfl (by decide +kernel))
theorem dX12_tries_283 : decode cX12_tries 283 = .ok (.aload_n 0, 1) := dc0 dO_42 (rdB.ch sfx_cX12_tries_256 27 rfl (by decide +kernel))
theorem dX12_tries_284 : decode cX12_tries 284 = .ok (.getfield 533, 3) := dcU2 dO_180 (rdU2.ch sfx_cX12_tries_256 28 rfl (by decide +kernel))
theorem dX12_tries_287 : decode cX12_tries 287 = .ok (.iload 7, 2) := dcU1 dO_21 (rdU1.ch sfx_cX12_tries_256 31 rfl (by decide +kernel))
theorem dX12_tries_289 : decode cX12_tries 289 = .ok (.iaload, 1) := dc0 dO_46 (rdB.ch sfx_cX12_tries_256 33 rfl (by decide +kernel))
theorem dX12_tries_290 : decode cX12_tries 290 = .ok (.istore 8, 2) := dcU1 dO_54 (rdU1.ch sfx_cX12_tries_256 34 rfl (by decide +kernel))
theorem dX12_tries_292 : decode cX12_tries 292 = .ok (.aload_n 0, 1) := dc0 dO_42 (rdB.ch sfx_cX12_tries_256 36 rfl (by decide +kernel))
theorem dX12_tries_293 : decode cX12_tries 293 = .ok (.getfield 536, 3) := dcU2 dO_180 (rdU2.ch sfx_cX12_tries_256 37 rfl (by decide +kernel))
theorem dX12_tries_296 : decode cX12_tries 296 = .ok (.iload 8, 2) := dcU1 dO_21 (rdU1.ch sfx_cX12_tries_256 40 rfl (by decide +kernel))
theorem dX12_tries_298 : decode cX12_tries 298 = .ok (.baload, 1) := dc0 dO_51 (rdB.ch sfx_cX12_tries_256 42 rfl (by decide +kernel))
theorem dX12_tries_299 : decode cX12_tries 299 = .ok (.ifCond .eq 6, 3) := dcS2 dO_153 (rdS2.ch sfx_cX12_tries_256 43 rfl (by decide +kernel))
theorem dX12_tries_302 : decode cX12_tries 302 = .ok (.goto 94, 3) := dcS2 dO_167 (rdS2.ch sfx_cX12_tries_256 46 rfl (by decide +kernel))
theorem dX12_tries_305 : decode cX12_tries 305 = .ok (.aload_n 0, 1) := dc0 dO_42 (rdB.ch sfx_cX12_tries_256 49 rfl (by decide +kernel))
theorem dX12_tries_306 : decode cX12_tries 306 = .ok (.iload 8, 2) := dcU1 dO_21 (rdU1.ch sfx_cX12_tries_256 50 rfl (by decide +kernel))
theorem dX12_tries_308 : decode cX12_tries 308 = .ok (.invokevirtual 722, 3) := dcU2 dO_182 (rdU2.ch sfx_cX12_tries_256 52 rfl (by decide +kernel))
theorem dX12_tries_311 : decode cX12_tries 311 = .ok (.iconst 1, 1) := dc0 dO_4 (rdB.ch sfx_cX12_tries_256 55 rfl (by decide +kernel))
theorem dX12_tries_312 : decode cX12_tries 312 = .ok (.istore 9, 2) := dcU1 dO_54 (rdU1.ch sfx_cX12_tries_256 56 rfl (by decide +kernel))
theorem dX12_tries_314 : decode cX12_tries 314 = .ok (.iload 9, 2) := dcU1 dO_21 (rdU1.ch sfx_cX12_tries_256 58 rfl (by decide +kernel))
theorem dX12_tries_316 : decode cX12_tries 316 = .ok (.bipush 6, 2) := dcS1 dO_16 (rdS1.ch sfx_cX12_tries_256 60 rfl (by decide +kernel))
theorem dX12_tries_318 : decode cX12_tries 318 = .ok (.if_icmp .gt 56, 3) := dcS2 dO_163 (rdS2.ch sfx_cX12_tries_256 62 rfl (by decide +kernel))
theorem sfx_cX12_tries_320 : (cX12_tries.data.toList.drop 320).take 67 = [56, 42, 180, 2, 24, 21, 8, 51, 154, 0, 46, 42, 180, 2, 24, 21, 8, 42, 180, 2, 24, 21, 8, 42, 21, 9, 182, 2, 213, 42, 180, 2, 14, 21, 9, 46, 100, 42, 180, 2, 11, 21, 9, 46, 104, 96, 51, 84, 132, 9, 1, 167, 255, 199, 21, 6, 154, 0, 13, 42, 180, 2, 24, 21, 8, 51, 153] := by decide +kernel
theorem dX12_tries_321 : decode cX12_tries 321 = .ok (.aload_n 0, 1) := dc0 dO_42 (rdB.ch sfx_cX12_tries_320 1 rfl (by decide +kernel))
theorem dX12_tries_322 : decode cX12_tries 322 = .ok (.getfield 536, 3) := dcU2 dO_180 (rdU2.ch sfx_cX12_tries_320 2 rfl (by decide +kernel))
theorem dX12_tries_325 : decode cX12_tries 325 = .ok (.iload 8, 2) := dcU1 dO_21 (rdU1.ch sfx_cX12_tries_320 5 rfl (by decide +kernel))
theorem dX12_tries_327 : decode cX12_tries 327 = .ok (.baload, 1) := dc0 dO_51 (rdB.ch sfx_cX12_tries_320 7 rfl (by decide +kernel))
theorem dX12_tries_328 : decode cX12_tries 328 = .ok (.ifCond .ne 46, 3) := dcS2 dO_154 (rdS2.ch sfx_cX12_tries_320 8 rfl (by decide +kernel))
theorem dX12_tries_331 : decode cX12_tries 331 = .ok (.aload_n 0, 1) := dc0 dO_42 (rdB.ch sfx_cX12_tries_320 11 rfl (by decide +kernel))
theorem dX12_tries_332 : decode cX12_tries 332 = .ok (.getfield 536, 3) := dcU2 dO_180 (rdU2.ch sfx_cX12_tries_320 12 rfl (by decide +kernel))
theorem dX12_tries_335 : decode cX12_tries 335 = .ok (.iload 8, 2) := dcU1 dO_21 (rdU1.ch sfx_cX12_tries_320 15 rfl (by decide +kernel))
theorem dX12_tries_337 : decode cX12_tries 337 = .ok (.aload_n 0, 1) := dc0 dO_42 (rdB.ch sfx_cX12_tries_320 17 rfl (by decide +kernel))
theorem dX12_tries_338 : decode cX12_tries 338 = .ok (.getfield 536, 3) := dcU2 dO_180 (rdU2.ch sfx_cX12_tries_320 18 rfl (by decide +kernel))
theorem dX12_tries_341 : decode cX12_tries 341 = .ok (.iload 8, 2) := dcU1 dO_21 (rdU1.ch sfx_cX12_tries_320 21 rfl (by decide +kernel))
theorem dX12_tries_343 : decode cX12_tries 343 = .ok (.aload_n 0, 1) := dc0 dO_42 (rdB.ch sfx_cX12_tries_320 23 rfl (by decide +kernel))
theorem dX12_tries_344 : decode cX12_tries 344 = .ok (.iload 9, 2) := dcU1 dO_21 (rdU1.ch sfx_cX12_tries_320 24 rfl (by decide +kernel))
theorem dX12_tries_346 : decode cX12_tries 346 = .ok (.invokevirtual 725, 3) := dcU2 dO_182 (rdU2.ch sfx_cX12_tries_320 26 rfl (by decide +kernel))
theorem dX12_tries_349 : decode cX12_tries 349 = .ok (.aload_n 0, 1) := dc0 dO_42 (rdB.ch sfx_cX12_tries_320 29 rfl (by decide +kernel))
theorem dX12_tries_350 : decode cX12_tries 350 = .ok (.getfield 526, 3) := dcU2 dO_180 (rdU2.ch sfx_cX12_tries_320 30 rfl (by decide +kernel))
theorem dX12_tries_353 : decode cX12_tries 353 = .ok (.iload 9, 2) := dcU1 dO_21 (rdU1.ch sfx_cX12_tries_320 33 rfl (by decide +kernel))
theorem dX12_tries_355 : decode cX12_tries 355 = .ok (.iaload, 1) := dc0 dO_46 (rdB.ch sfx_cX12_tries_320 35 rfl (by decide +kernel))
theorem dX12_tries_356 : decode cX12_tries 356 = .ok (.isub, 1) := dc0 dO_100 (rdB.ch sfx_cX12_tries_320 36 rfl (by decide +kernel))
theorem dX12_tries_357 : decode cX12_tries 357 = .ok (.aload_n 0, 1) := dc0 dO_42 (rdB.ch sfx_cX12_tries_320 37 rfl (by decide +kernel))
theorem dX12_tries_358 : decode cX12_tries 358 = .ok (.getfield 523, 3) := dcU2 dO_180 (rdU2.ch sfx_cX12_tries_320 38 rfl (by decide +kernel))
theorem dX12_tries_361 : decode cX12_tries 361 = .ok (.iload 9, 2) := dcU1 dO_21 (rdU1.ch sfx_cX12_tries_320 41 rfl (by decide +kernel))
theorem dX12_tries_363 : decode cX12_tries 363 = .ok (.iaload, 1) := dc0 dO_46 (rdB.ch sfx_cX12_tries_320 43 rfl (by decide +kernel))
theorem dX12_tries_364 : decode cX12_tries 364 = .ok (.imul, 1) := dc0 dO_104 (rdB.ch sfx_cX12_tries_320 44 rfl (by decide +kernel))
theorem dX12_tries_365 : decode cX12_tries 365 = .ok (.iadd, 1) := dc0 dO_96 (rdB.ch sfx_cX12_tries_320 45 rfl (by decide +kernel))
theorem dX12_tries_366 : decode cX12_tries 366 = .ok (.baload, 1) := dc0 dO_51 (rdB.ch sfx_cX12_tries_320 46 rfl (by decide +kernel))
theorem dX12_tries_367 : decode cX12_tries 367 = .ok (.bastore, 1) := dc0 dO_84 (rdB.ch sfx_cX12_tries_320 47 rfl (by decide +kernel))
theorem dX12_tries_368 : decode cX12_tries 368 = .ok (.iinc 9 1, 3) := dcI dO_132 (rdI.ch sfx_cX12_tries_320 48 rfl (by decide +kernel))
theorem dX12_tries_371 : decode cX12_tries 371 = .ok (.goto (-57), 3) := dcS2 dO_167 (rdS2.ch sfx_cX12_tries_320 51 rfl (by decide +kernel))
theorem dX12_tries_374 : decode cX12_tries 374 = .ok (.iload 6, 2) := dcU1 dO_21 (rdU1.ch sfx_cX12_tries_320 54 rfl (by decide +kernel))
theorem dX12_tries_376 : decode cX12_tries 376 = .ok (.ifCond .ne 13, 3) := dcS2 dO_154 (rdS2.ch sfx_cX12_tries_320 56 rfl (by decide +kernel))
theorem dX12_tries_379 : decode cX12_tries 379 = .ok (.aload_n 0, 1) := dc0 dO_42 (rdB.ch sfx_cX12_tries_320 59 rfl (by decide +kernel))
theorem dX12_tries_380 : decode cX12_tries 380 = .ok (.getfield 536, 3) := dcU2 dO_180 (rdU2.ch sfx_cX12_tries_320 60 rfl (by decide +kernel))
theorem dX12_tries_383 : decode cX12_tries 383 = .ok (.iload 8, 2) := dcU1 dO_21 (rdU1.ch sfx_cX12_tries_320 63 rfl (by decide +kernel))
theorem sfx_cX12_tries_384 : (cX12_tries.data.toList.drop 384).take 67 = [8, 51, 153, 0, 7, 4, 167, 0, 4, 3, 54, 6, 132, 7, 255, 167, 255, 135, 167, 255, 119, 3, 54, 7, 3, 54, 8, 21, 8, 29, 162, 0, 34, 21, 7, 42, 180, 2, 24, 42, 180, 2, 21, 21, 8, 46, 51, 153, 0, 7, 3, 167, 0, 4, 4, 96, 54, 7, 132, 8, 1, 167, 255, 222, 21, 7, 172] := by decide +kernel
theorem dX12_tries_385 : decode cX12_tries 385 = .ok (.baload, 1) := dc0 dO_51 (rdB.ch sfx_cX12_tries_384 1 rfl (by decide +kernel))
theorem dX12_tries_386 : decode cX12_tries 386 = .ok (.ifCond .eq 7, 3) := dcS2 dO_153 (rdS2.ch sfx_cX12_tries_384 2 rfl (by decide +kernel))
theorem dX12_tries_389 : decode cX12_tries 389 = .ok (.iconst 1, 1) := dc0 dO_4 (rdB.ch sfx_cX12_tries_384 5 rfl (by decide +kernel))
theorem dX12_tries_390 : decode cX12_tries 390 = .ok (.goto 4, 3) := dcS2 dO_167 (rdS2.ch sfx_cX12_tries_384 6 rfl (by decide +kernel))
theorem dX12_tries_393 : decode cX12_tries 393 = .ok (.iconst 0, 1) := dc0 dO_3 (rdB.ch sfx_cX12_tries_384 9 rfl (by decide +kernel))
theorem dX12_tries_394 : decode cX12_tries 394 = .ok (.istore 6, 2) := dcU1 dO_54 (rdU1.ch sfx_cX12_tries_384 10 rfl (by decide +kernel))
theorem dX12_tries_396 : decode cX12_tries 396 = .ok (.iinc 7 (-1), 3) := dcI dO_132 (rdI.ch sfx_cX12_tries_384 12 rfl (by decide +kernel))
theorem dX12_tries_399 : decode cX12_tries 399 = .ok (.goto (-121), 3) := dcS2 dO_167 (rdS2.ch sfx_cX12_tries_384 15 rfl (by decide +kernel))
theorem dX12_tries_402 : decode cX12_tries 402 = .ok (.goto (-137), 3) := dcS2 dO_167 (rdS2.ch sfx_cX12_tries_384 18 rfl (by decide +kernel))
theorem dX12_tries_405 : decode cX12_tries 405 = .ok (.iconst 0, 1) := dc0 dO_3 (rdB.ch sfx_cX12_tries_384 21 rfl (by decide +kernel))
theorem dX12_tries_406 : decode cX12_tries 406 = .ok (.istore 7, 2) := dcU1 dO_54 (rdU1.ch sfx_cX12_tries_384 22 rfl (by decide +kernel))
theorem dX12_tries_408 : decode cX12_tries 408 = .ok (.iconst 0, 1) := dc0 dO_3 (rdB.ch sfx_cX12_tries_384 24 rfl (by decide +kernel))
theorem dX12_tries_409 : decode cX12_tries 409 = .ok (.istore 8, 2) := dcU1 dO_54 (rdU1.ch sfx_cX12_tries_384 25 rfl (by decide +kernel))
theorem dX12_tries_411 : decode cX12_tries 411 = .ok (.iload 8, 2) := dcU1 dO_21 (rdU1.ch sfx_cX12_tries_384 27 rfl (by decide +kernel))
theorem dX12_tries_413 : decode cX12_tries 413 = .ok (.iload_n 3, 1) := dc0 dO_29 (rdB.ch sfx_cX12_tries_384 29 rfl (by decide +kernel))
theorem dX12_tries_414 : decode cX12_tries 414 = .ok (.if_icmp .ge 34, 3) := dcS2 dO_162 (rdS2.ch sfx_cX12_tries_384 30 rfl (by decide +kernel))
theorem dX12_tries_417 : decode cX12_tries 417 = .ok (.iload 7, 2) := dcU1 dO_21 (rdU1.ch sfx_cX12_tries_384 33 rfl (by decide +kernel))
theorem dX12_tries_419 : decode cX12_tries 419 = .ok (.aload_n 0, 1) := dc0 dO_42 (rdB.ch sfx_cX12_tries_384 35 rfl (by decide +kernel))
theorem dX12_tries_420 : decode cX12_tries 420 = .ok (.getfield 536, 3) := dcU2 dO_180 (rdU2.ch sfx_cX12_tries_384 36 rfl (by decide +kernel))
theorem dX12_tries_423 : decode cX12_tries 423 = .ok (.aload_n 0, 1) := dc0 dO_42 (rdB.ch sfx_cX12_tries_384 39 rfl (by decide +kernel))
theorem dX12_tries_424 : decode cX12_tries 424 = .ok (.getfield 533, 3) := dcU2 dO_180 (rdU2.ch sfx_cX12_tries_384 40 rfl (by decide +kernel))
theorem dX12_tries_427 : decode cX12_tries 427 = .ok (.iload 8, 2) := dcU1 dO_21 (rdU1.ch sfx_cX12_tries_384 43 rfl (by decide +kernel))
theorem dX12_tries_429 : decode cX12_tries 429 = .ok (.iaload, 1) := dc0 dO_46 (rdB.ch sfx_cX12_tries_384 45 rfl (by decide +kernel))
theorem dX12_tries_430 : decode cX12_tries 430 = .ok (.baload, 1) := dc0 dO_51 (rdB.ch sfx_cX12_tries_384 46 rfl (by decide +kernel))
theorem dX12_tries_431 : decode cX12_tries 431 = .ok (.ifCond .eq 7, 3) := dcS2 dO_153 (rdS2.ch sfx_cX12_tries_384 47 rfl (by decide +kernel))
theorem dX12_tries_434 : decode cX12_tries 434 = .ok (.iconst 0, 1) := dc0 dO_3 (rdB.ch sfx_cX12_tries_384 50 rfl (by decide +kernel))
theorem dX12_tries_435 : decode cX12_tries 435 = .ok (.goto 4, 3) := dcS2 dO_167 (rdS2.ch sfx_cX12_tries_384 51 rfl (by decide +kernel))
theorem dX12_tries_438 : decode cX12_tries 438 = .ok (.iconst 1, 1) := dc0 dO_4 (rdB.ch sfx_cX12_tries_384 54 rfl (by decide +kernel))
theorem dX12_tries_439 : decode cX12_tries 439 = .ok (.iadd, 1) := dc0 dO_96 (rdB.ch sfx_cX12_tries_384 55 rfl (by decide +kernel))
theorem dX12_tries_440 : decode cX12_tries 440 = .ok (.istore 7, 2) := dcU1 dO_54 (rdU1.ch sfx_cX12_tries_384 56 rfl (by decide +kernel))
theorem dX12_tries_442 : decode cX12_tries 442 = .ok (.iinc 8 1, 3) := dcI dO_132 (rdI.ch sfx_cX12_tries_384 58 rfl (by decide +kernel))
theorem dX12_tries_445 : decode cX12_tries 445 = .ok (.goto (-34), 3) := dcS2 dO_167 (rdS2.ch sfx_cX12_tries_384 61 rfl (by decide +kernel))
theorem sfx_cX12_tries_448 : (cX12_tries.data.toList.drop 448).take 67 = [21, 7, 172] := by decide +kernel
theorem dX12_tries_448 : decode cX12_tries 448 = .ok (.iload 7, 2) := dcU1 dO_21 (rdU1.ch sfx_cX12_tries_448 0 rfl (by decide +kernel))
theorem dX12_tries_450 : decode cX12_tries 450 = .ok (.ireturn, 1) := dc0 dO_172 (rdB.ch sfx_cX12_tries_448 2 rfl (by decide +kernel))
end
