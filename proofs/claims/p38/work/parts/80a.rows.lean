section
set_option maxRecDepth 4000 in
set_option maxHeartbeats 4000000 in
theorem c_J_bits {l : Launch} {D : va_G} {c : Nat → ClassId} {H0 : Heap} {sa : Nat × Nat × (Nat → Int32)} {w : mW} {μ : mM} (hw : mWF w) (hT : mT w μ) {p1 : Int} (hp1 : (-2147483648) ≤ p1 ∧ p1 ≤ 2147483647) : sC (gG l D c H0 sa) mJ_bits 1 0 0 [iv p1] (mk w μ) (qP w μ (fun z => ((-2147483648) ≤ z ∧ z ≤ 2147483647) ∧ True)) := by
  refine sC.of rfl (by decide) (le_t rfl) ?_
  refine mr_lvE (lv' := [(0, iv p1)]) rfl ?_
  refine mr_iload_n (pc := 0) (z := p1) dJ_bits_0 rfl rfl ?_
  refine mr_iload_n (pc := 1) (z := p1) dJ_bits_1 rfl rfl ?_
  refine mr_iconst (pc := 2) (z := 1) dJ_bits_2 ?_
  refine mr_iushr (pc := 3) (x := p1) (y := 1) dJ_bits_3 ?_
  refine mr_gen (P := fun z => (-2147483648) ≤ z ∧ z ≤ 2147483647) (r32i _) fun z1 q2 h3 => ?_
  refine mr_ldcw (pc := 4) (z := 1431655765) dJ_bits_4 wG_XI_265 (by decide) ?_
  refine mr_iand (pc := 7) (x := z1) (y := 1431655765) dJ_bits_7 ?_
  refine mr_gen (P := fun z => 0 ≤ z ∧ z ≤ 1431655765) (rAndR (rR (x := 1431655765)) rfl) fun z4 q5 h6 => ?_
  refine mr_isub (pc := 8) (x := p1) (y := z4) dJ_bits_8 ?_
  refine mr_wrap fun z7 h8 => ?_
  refine mr_istore_n (pc := 9) (lv' := [(0, iv z7)]) dJ_bits_9 rfl (by decide) rfl ?_
  refine mr_iload_n (pc := 10) (z := z7) dJ_bits_10 rfl rfl ?_
  refine mr_ldcw (pc := 11) (z := 858993459) dJ_bits_11 wG_XI_266 (by decide) ?_
  refine mr_iand (pc := 14) (x := z7) (y := 858993459) dJ_bits_14 ?_
  refine mr_gen (P := fun z => 0 ≤ z ∧ z ≤ 858993459) (rAndR (rR (x := 858993459)) rfl) fun z9 q10 h11 => ?_
  refine mr_iload_n (pc := 15) (z := z7) dJ_bits_15 rfl rfl ?_
  refine mr_iconst (pc := 16) (z := 2) dJ_bits_16 ?_
  refine mr_iushr (pc := 17) (x := z7) (y := 2) dJ_bits_17 ?_
  refine mr_gen (P := fun z => (-2147483648) ≤ z ∧ z ≤ 2147483647) (r32i _) fun z12 q13 h14 => ?_
  refine mr_ldcw (pc := 18) (z := 858993459) dJ_bits_18 wG_XI_266 (by decide) ?_
  refine mr_iand (pc := 21) (x := z12) (y := 858993459) dJ_bits_21 ?_
  refine mr_gen (P := fun z => 0 ≤ z ∧ z ≤ 858993459) (rAndR (rR (x := 858993459)) rfl) fun z15 q16 h17 => ?_
  refine mr_iadd (pc := 22) (x := z9) (y := z15) dJ_bits_22 ?_
  refine mr_istore_n (pc := 23) (lv' := [(0, iv (z9 + z15))]) dJ_bits_23 rfl (by decide) rfl ?_
  refine mr_iload_n (pc := 24) (z := (z9 + z15)) dJ_bits_24 rfl rfl ?_
  refine mr_iload_n (pc := 25) (z := (z9 + z15)) dJ_bits_25 rfl rfl ?_
  refine mr_iconst (pc := 26) (z := 4) dJ_bits_26 ?_
  refine mr_iushr (pc := 27) (x := (z9 + z15)) (y := 4) dJ_bits_27 ?_
  refine mr_gen (P := fun z => (-2147483648) ≤ z ∧ z ≤ 2147483647) (r32i _) fun z18 q19 h20 => ?_
  refine mr_iadd (pc := 28) (x := (z9 + z15)) (y := z18) dJ_bits_28 ?_
  refine mr_wrap fun z21 h22 => ?_
  refine mr_ldcw (pc := 29) (z := 252645135) dJ_bits_29 wG_XI_267 (by decide) ?_
  refine mr_iand (pc := 32) (x := z21) (y := 252645135) dJ_bits_32 ?_
  refine mr_gen (P := fun z => 0 ≤ z ∧ z ≤ 252645135) (rAndR (rR (x := 252645135)) rfl) fun z23 q24 h25 => ?_
  refine mr_istore_n (pc := 33) (lv' := [(0, iv z23)]) dJ_bits_33 rfl (by decide) rfl ?_
  refine mr_iload_n (pc := 34) (z := z23) dJ_bits_34 rfl rfl ?_
  refine mr_iload_n (pc := 35) (z := z23) dJ_bits_35 rfl rfl ?_
  refine mr_bipush (pc := 36) (z := 8) dJ_bits_36 (by decide) ?_
  refine mr_iushr (pc := 38) (x := z23) (y := 8) dJ_bits_38 ?_
  refine mr_gen (P := fun z => (-2147483648) ≤ z ∧ z ≤ 2147483647) (r32i _) fun z26 q27 h28 => ?_
  refine mr_iadd (pc := 39) (x := z23) (y := z26) dJ_bits_39 ?_
  refine mr_wrap fun z29 h30 => ?_
  refine mr_istore_n (pc := 40) (lv' := [(0, iv z29)]) dJ_bits_40 rfl (by decide) rfl ?_
  refine mr_iload_n (pc := 41) (z := z29) dJ_bits_41 rfl rfl ?_
  refine mr_iload_n (pc := 42) (z := z29) dJ_bits_42 rfl rfl ?_
  refine mr_bipush (pc := 43) (z := 16) dJ_bits_43 (by decide) ?_
  refine mr_iushr (pc := 45) (x := z29) (y := 16) dJ_bits_45 ?_
  refine mr_gen (P := fun z => (-2147483648) ≤ z ∧ z ≤ 2147483647) (r32i _) fun z31 q32 h33 => ?_
  refine mr_iadd (pc := 46) (x := z29) (y := z31) dJ_bits_46 ?_
  refine mr_wrap fun z34 h35 => ?_
  refine mr_istore_n (pc := 47) (lv' := [(0, iv z34)]) dJ_bits_47 rfl (by decide) rfl ?_
  refine mr_iload_n (pc := 48) (z := z34) dJ_bits_48 rfl rfl ?_
  refine mr_bipush (pc := 49) (z := 63) dJ_bits_49 (by decide) ?_
  refine mr_iand (pc := 51) (x := z34) (y := 63) dJ_bits_51 ?_
  refine mr_gen (P := fun z => 0 ≤ z ∧ z ≤ 63) (rAndR (rR (x := 63)) rfl) fun z36 q37 h38 => ?_
  exact mr_iretP dJ_bits_52 rfl (le_t rfl) (le_t rfl) ⟨(rW (c := (-2147483648)) (d := 2147483647) h38 rfl), trivial⟩
theorem vc_X11_cone_8 {p2 : Int} (h0 : ¬ p2 = (-1)) (h1 : (-1) ≤ p2 ∧ p2 ≤ (-1)) : False := by omega
theorem vc_X11_cone_10 {n0 p1 p2 z1 z32 z8 : Int} (h0 : (z32 = 1 → 0 ≤ p2 ∧ p2 < z1)) (h1 : (z32 = 0 → p2 < 0 ∨ z1 ≤ p2)) (h2 : ¬ z32 = 0) (h3 : z1 = n0) (h4 : (z8 = 1 → 0 ≤ p1 ∧ p1 < z1)) (h5 : (z8 = 0 → p1 < 0 ∨ z1 ≤ p1)) (h6 : 0 ≤ p1 ∧ p1 < z1) (h7 : ¬ p2 = (-1)) (h8 : 0 ≤ p1 ∧ p1 ≤ 9) (h9 : (-2147483648) ≤ p2 ∧ p2 ≤ 2147483647) (h10 : 1 ≤ z1 ∧ z1 ≤ 10) (h11 : 1 ≤ z32 ∧ z32 ≤ 1) (h12 : 1 ≤ z8 ∧ z8 ≤ 1) : z32 = 1 := by omega
theorem vc_X11_cone_11 {n0 p1 p2 z1 z32 z8 : Int} (h0 : 0 ≤ p2 ∧ p2 < z1) (h1 : z1 = n0) (h2 : (z8 = 1 → 0 ≤ p1 ∧ p1 < z1)) (h3 : (z8 = 0 → p1 < 0 ∨ z1 ≤ p1)) (h4 : 0 ≤ p1 ∧ p1 < z1) (h5 : ¬ p2 = (-1)) (h6 : (z32 = 1 → 0 ≤ p2 ∧ p2 < z1)) (h7 : (z32 = 0 → p2 < 0 ∨ z1 ≤ p2)) (h8 : 0 ≤ p1 ∧ p1 ≤ 9) (h9 : (-2147483648) ≤ p2 ∧ p2 ≤ 2147483647) (h10 : 1 ≤ z1 ∧ z1 ≤ 10) (h11 : 1 ≤ z32 ∧ z32 ≤ 1) (h12 : 1 ≤ z8 ∧ z8 ≤ 1) : 0 ≤ p2 ∧ p2 ≤ 9 := by omega
theorem vc_X11_cone_12 {p2 : Int} (h0 : p2 = (-1)) (h1 : 0 ≤ p2 ∧ p2 ≤ 9) : False := by omega
theorem vc_X11_cone_14 {n0 p1 p2 z1 z32 z8 : Int} (h0 : (z32 = 1 → 0 ≤ p2 ∧ p2 < z1)) (h1 : (z32 = 0 → p2 < 0 ∨ z1 ≤ p2)) (h2 : z32 = 0) (h3 : z1 = n0) (h4 : (z8 = 1 → 0 ≤ p1 ∧ p1 < z1)) (h5 : (z8 = 0 → p1 < 0 ∨ z1 ≤ p1)) (h6 : 0 ≤ p1 ∧ p1 < z1) (h7 : ¬ p2 = (-1)) (h8 : 0 ≤ p1 ∧ p1 ≤ 9) (h9 : (-2147483648) ≤ p2 ∧ p2 ≤ 2147483647) (h10 : 1 ≤ z1 ∧ z1 ≤ 10) (h11 : 0 ≤ z32 ∧ z32 ≤ 0) (h12 : 1 ≤ z8 ∧ z8 ≤ 1) : z32 = 0 := by omega
set_option maxRecDepth 4000 in
set_option maxHeartbeats 4000000 in
theorem c_X11_cone {l : Launch} {D : va_G} {c : Nat → ClassId} {H0 : Heap} {sa : Nat × Nat × (Nat → Int32)} {w : mW} {μ : mM} (hw : mWF w) (hT : mT w μ) {p1 : Int} (hp1 : (-2147483648) ≤ p1 ∧ p1 ≤ 2147483647) {p2 : Int} (hp2 : (-2147483648) ≤ p2 ∧ p2 ≤ 2147483647) : sC (gG l D c H0 sa) mX11_cone 2 0 0 [.ref 0, iv p1, iv p2] (mk w μ) (qP w μ (fun z => ((-2147483648) ≤ z ∧ z ≤ 2147483647) ∧ True)) := by
  refine sC.of rfl (by decide) (le_t rfl) ?_
  refine mr_lvE (lv' := [(0, .ref 0), (1, iv p1), (2, iv p2)]) rfl ?_
  refine sv_aload_n (pc := 0) dX11_cone_0 rfl rfl ?_
  refine mr_iload_n (pc := 1) (z := p1) dX11_cone_1 rfl rfl ?_
  obtain ⟨z1, q2⟩ : ∃ z, μ 6 15 = z := ⟨_, rfl⟩
  have h3 : (z1 = w.2.2.2 0 ∧ 0 ≤ z1 ∧ z1 ≤ 10) := by rw [← q2]; exact hT 6 6 (A_6 hw) 15
  refine mr_cVP (pc := 2) (c_X11_isDomain hw hT hp1 q2) (gOk _ _ _ _ _) dX11_cone_2 (tX11_isDomain _ _ _ _ _) ⟨wV_X11_isDomain, wL_X11_isDomain⟩ wM_X11_105 (gCX11 _ _ _ _ _) rfl (A_0 hw) rfl ⟨le_t rfl, le_t rfl⟩ ⟨le_t rfl, le_t rfl⟩ rfl (le_t rfl) fun z8 h7 => ?_
  refine mr_if_eq (pc := 5) (tgt := 21) dX11_cone_5 (by decide) (r32 h7.1 rfl) (fun h9 => ?_) (fun h9 => ?_)
  · have h10 : 0 ≤ z8 ∧ z8 ≤ 0 := (vc_X12_write_78 h9 h7.2.1 h7.2.2.1 hp1 h3.2 h7.1)
    have h11 : p1 < 0 ∨ z1 ≤ p1 := (h7.2.2.1 (vc_X11_demand_2 h7.2.1 h7.2.2.1 h9 h3.1 hp1 h3.2 h10))
    refine mr_iconst (pc := 21) (z := (-1)) dX11_cone_21 ?_
    exact mr_iretP dX11_cone_22 rfl (le_t rfl) (le_t rfl) ⟨(rW (c := (-2147483648)) (d := 2147483647) (rR (x := (-1))) rfl), trivial⟩
  have h12 : 1 ≤ z8 ∧ z8 ≤ 1 := (vc_X12_write_12 h9 h7.2.1 h7.2.2.1 hp1 h3.2 h7.1)
  have h13 : 0 ≤ p1 ∧ p1 < z1 := (h7.2.1 (vc_X11_demand_4 h7.2.1 h7.2.2.1 h9 h3.1 hp1 h3.2 h12))
  have h14 : 0 ≤ p1 ∧ p1 ≤ 9 := (vc_X11_demand_5 h13 h3.1 h7.2.1 h7.2.2.1 hp1 h3.2 h12)
  have h15 : 1 ≤ z1 ∧ z1 ≤ 10 := (vc_X11_demand_6 h13 h3.1 h7.2.1 h7.2.2.1 h14 h3.2 h12)
  refine mr_iload_n (pc := 8) (z := p2) dX11_cone_8 rfl rfl ?_
  refine mr_iconst (pc := 9) (z := (-1)) dX11_cone_9 ?_
  refine mr_icmp_eq (pc := 10) (tgt := 23) dX11_cone_10 (by decide) hp2 (r32 (rR (x := (-1))) rfl) (fun h16 => ?_) (fun h16 => ?_)
  · have h17 : (-1) ≤ p2 ∧ p2 ≤ (-1) := (vc_X10_verdictOn_17 h16 hp2)
    refine sv_aload_n (pc := 23) dX11_cone_23 rfl rfl ?_
    refine gf_X11_3 (pc := 24) dX11_cone_24 wF_X11_26 (A_0 hw) hT ?_
    refine mr_iload_n (pc := 27) (z := p1) dX11_cone_27 rfl rfl ?_
    refine mr_cVP (pc := 28) (c_X10_coneOf hw hT h14) (gOk _ _ _ _ _) dX11_cone_28 (tX10_coneOf _ _ _ _ _) ⟨wV_X10_coneOf, wL_X10_coneOf⟩ wM_X11_154 (gCX10 _ _ _ _ _) rfl (A_6 hw) rfl ⟨le_t rfl, le_t rfl⟩ ⟨le_t rfl, le_t rfl⟩ rfl (le_t rfl) fun z22 h21 => ?_
    refine mr_istore_n (pc := 31) (lv' := [(3, iv z22), (0, .ref 0), (1, iv p1), (2, iv p2)]) dX11_cone_31 rfl (by decide) rfl ?_
    refine mr_iload_n (pc := 32) (z := p2) dX11_cone_32 rfl rfl ?_
    refine mr_iconst (pc := 33) (z := (-1)) dX11_cone_33 ?_
    refine mr_icmp_ne (pc := 34) (tgt := 44) dX11_cone_34 (by decide) (r32 h17 rfl) (r32 (rR (x := (-1))) rfl) (fun h => ((vc_X11_cone_8 h h17)).elim) (fun _ => ?_)
    refine mr_iload_n (pc := 37) (z := z22) dX11_cone_37 rfl rfl ?_
    refine mr_cSP (pc := 38) (c_J_bits hw hT h21.1) (gOk _ _ _ _ _) dX11_cone_38 (tJ_bits _ _ _ _ _) wS_J_bits wM_X11_157 ⟨le_t rfl, le_t rfl⟩ ⟨le_t rfl, le_t rfl⟩ rfl (le_t rfl) fun z27 h26 => ?_
    refine sv_goto (pc := 41) (tgt := 49) dX11_cone_41 (by decide) ?_
    exact mr_iretP dX11_cone_49 rfl (le_t rfl) (le_t rfl) ⟨h26.1, trivial⟩
  refine sv_aload_n (pc := 13) dX11_cone_13 rfl rfl ?_
  refine mr_iload_n (pc := 14) (z := p2) dX11_cone_14 rfl rfl ?_
  refine mr_cVP (pc := 15) (c_X11_isDomain hw hT hp2 q2) (gOk _ _ _ _ _) dX11_cone_15 (tX11_isDomain _ _ _ _ _) ⟨wV_X11_isDomain, wL_X11_isDomain⟩ wM_X11_105 (gCX11 _ _ _ _ _) rfl (A_0 hw) rfl ⟨le_t rfl, le_t rfl⟩ ⟨le_t rfl, le_t rfl⟩ rfl (le_t rfl) fun z32 h31 => ?_
  refine mr_if_ne (pc := 18) (tgt := 23) dX11_cone_18 (by decide) (r32 h31.1 rfl) (fun h33 => ?_) (fun h33 => ?_)
  · have h34 : 1 ≤ z32 ∧ z32 ≤ 1 := (vc_X12_differ_7 h33 h31.2.1 h31.2.2.1 hp2 h15 h31.1)
    have h35 : 0 ≤ p2 ∧ p2 < z1 := (h31.2.1 (vc_X11_cone_10 h31.2.1 h31.2.2.1 h33 h3.1 h7.2.1 h7.2.2.1 h13 h16 h14 hp2 h15 h34 h12))
    have h36 : 0 ≤ p2 ∧ p2 ≤ 9 := (vc_X11_cone_11 h35 h3.1 h7.2.1 h7.2.2.1 h13 h16 h31.2.1 h31.2.2.1 h14 hp2 h15 h34 h12)
    refine sv_aload_n (pc := 23) dX11_cone_23 rfl rfl ?_
    refine gf_X11_3 (pc := 24) dX11_cone_24 wF_X11_26 (A_0 hw) hT ?_
    refine mr_iload_n (pc := 27) (z := p1) dX11_cone_27 rfl rfl ?_
    refine mr_cVP (pc := 28) (c_X10_coneOf hw hT h14) (gOk _ _ _ _ _) dX11_cone_28 (tX10_coneOf _ _ _ _ _) ⟨wV_X10_coneOf, wL_X10_coneOf⟩ wM_X11_154 (gCX10 _ _ _ _ _) rfl (A_6 hw) rfl ⟨le_t rfl, le_t rfl⟩ ⟨le_t rfl, le_t rfl⟩ rfl (le_t rfl) fun z41 h40 => ?_
    refine mr_istore_n (pc := 31) (lv' := [(3, iv z41), (0, .ref 0), (1, iv p1), (2, iv p2)]) dX11_cone_31 rfl (by decide) rfl ?_
    refine mr_iload_n (pc := 32) (z := p2) dX11_cone_32 rfl rfl ?_
    refine mr_iconst (pc := 33) (z := (-1)) dX11_cone_33 ?_
    refine mr_icmp_ne (pc := 34) (tgt := 44) dX11_cone_34 (by decide) (r32 h36 rfl) (r32 (rR (x := (-1))) rfl) (fun _ => ?_) (fun h => ((vc_X11_cone_12 h h36)).elim)
    refine mr_iload_n (pc := 44) (z := z41) dX11_cone_44 rfl rfl ?_
    refine mr_iload_n (pc := 45) (z := p2) dX11_cone_45 rfl rfl ?_
    refine mr_ishr (pc := 46) (x := z41) (y := p2) dX11_cone_46 ?_
    refine mr_gen (P := fun z => (-2147483648) ≤ z ∧ z ≤ 2147483647) (r32i _) fun z42 q43 h44 => ?_
    refine mr_iconst (pc := 47) (z := 1) dX11_cone_47 ?_
    refine mr_iand (pc := 48) (x := z42) (y := 1) dX11_cone_48 ?_
    refine mr_gen (P := fun z => 0 ≤ z ∧ z ≤ 1) (rAndR (rR (x := 1)) rfl) fun z45 q46 h47 => ?_
    exact mr_iretP dX11_cone_49 rfl (le_t rfl) (le_t rfl) ⟨(rW (c := (-2147483648)) (d := 2147483647) h47 rfl), trivial⟩
  have h48 : 0 ≤ z32 ∧ z32 ≤ 0 := (vc_X12_differ_44 h33 h31.2.1 h31.2.2.1 hp2 h15 h31.1)
  have h49 : p2 < 0 ∨ z1 ≤ p2 := (h31.2.2.1 (vc_X11_cone_14 h31.2.1 h31.2.2.1 h33 h3.1 h7.2.1 h7.2.2.1 h13 h16 h14 hp2 h15 h48 h12))
  refine mr_iconst (pc := 21) (z := (-1)) dX11_cone_21 ?_
  exact mr_iretP dX11_cone_22 rfl (le_t rfl) (le_t rfl) ⟨(rW (c := (-2147483648)) (d := 2147483647) (rR (x := (-1))) rfl), trivial⟩
theorem vc_X2_leastBelow_32_1 {p3 : Int} (h0 : p3 < 32) (h1 : 32 ≤ p3 ∧ p3 ≤ 32) : False := by omega
set_option maxRecDepth 4000 in
set_option maxHeartbeats 4000000 in
theorem c_X2_leastBelow_32 {l : Launch} {D : va_G} {c : Nat → ClassId} {H0 : Heap} {sa : Nat × Nat × (Nat → Int32)} {w : mW} {μ : mM} (hw : mWF w) (hT : mT w μ) {p1 : Int} (hp1 : 0 ≤ p1 ∧ p1 ≤ 9) {p2 : Int} (hp2 : (-2147483648) ≤ p2 ∧ p2 ≤ 2147483647) {p3 : Int} (hp3 : 32 ≤ p3 ∧ p3 ≤ 32) (hq0 : p1 < w.2.2.2 0) : sC (gG l D c H0 sa) mX2_leastBelow 3 0 0 [.ref 87, iv p1, iv p2, iv p3] (mk w μ) (qI w [87007] μ (fun z μ1 => ((-2147483648) ≤ z ∧ z ≤ 2147483647) ∧ True)) := by
  refine sC.of rfl (by decide) (le_t rfl) ?_
  refine mr_lvE (lv' := [(0, .ref 87), (1, iv p1), (2, iv p2), (3, iv p3)]) rfl ?_
  refine mr_iload_n (pc := 0) (z := p3) dX2_leastBelow_0 rfl rfl ?_
  refine mr_bipush (pc := 1) (z := 32) dX2_leastBelow_1 (by decide) ?_
  refine mr_icmp_ge (pc := 3) (tgt := 16) dX2_leastBelow_3 (by decide) (r32 hp3 rfl) (r32 (rR (x := 32)) rfl) (fun _ => ?_) (fun h => ((vc_X2_leastBelow_32_1 h hp3)).elim)
  refine sv_aload_n (pc := 16) dX2_leastBelow_16 rfl rfl ?_
  refine mr_iload_n (pc := 17) (z := p1) dX2_leastBelow_17 rfl rfl ?_
  refine mr_iload_n (pc := 18) (z := p2) dX2_leastBelow_18 rfl rfl ?_
  refine mr_cVP (pc := 19) (c_X2_tieFor hw hT hp1 hp2 (vc_X9_end_1 hq0 hp1)) (gOk _ _ _ _ _) dX2_leastBelow_19 (tX2_tieFor _ _ _ _ _) ⟨wV_X2_tieFor, wL_X2_tieFor⟩ wM_X2_60 (gCX2 _ _ _ _ _) rfl (A_87 hw) rfl ⟨le_t rfl, le_t rfl⟩ ⟨le_t rfl, le_t rfl⟩ rfl (le_t rfl) fun z5 h4 => ?_
  refine mr_cSP (pc := 22) (c_X2_aimBit hw hT h4.1) (gOk _ _ _ _ _) dX2_leastBelow_22 (tX2_aimBit _ _ _ _ _) wS_X2_aimBit wM_X2_110 ⟨le_t rfl, le_t rfl⟩ ⟨le_t rfl, le_t rfl⟩ rfl (le_t rfl) fun z10 h9 => ?_
  exact mr_iret dX2_leastBelow_25 rfl (le_t rfl) (le_t rfl) hT mF.refl ⟨h9.1, trivial⟩
theorem vc_X2_leastBelow_31_1 {p3 : Int} (h0 : 32 ≤ p3) (h1 : 31 ≤ p3 ∧ p3 ≤ 31) : False := by omega
set_option maxRecDepth 4000 in
set_option maxHeartbeats 4000000 in
theorem c_X2_leastBelow_31 {l : Launch} {D : va_G} {c : Nat → ClassId} {H0 : Heap} {sa : Nat × Nat × (Nat → Int32)} {w : mW} {μ : mM} (hw : mWF w) (hT : mT w μ) {p1 : Int} (hp1 : 0 ≤ p1 ∧ p1 ≤ 9) {p2 : Int} (hp2 : (-2147483648) ≤ p2 ∧ p2 ≤ 2147483647) {p3 : Int} (hp3 : 31 ≤ p3 ∧ p3 ≤ 31) (hq0 : p1 < w.2.2.2 0) : sC (gG l D c H0 sa) mX2_leastBelow 4 0 0 [.ref 87, iv p1, iv p2, iv p3] (mk w μ) (qI w [87007] μ (fun z μ1 => ((-2147483648) ≤ z ∧ z ≤ 2147483647) ∧ True)) := by
  refine sC.of rfl (by decide) (le_t rfl) ?_
  refine mr_lvE (lv' := [(0, .ref 87), (1, iv p1), (2, iv p2), (3, iv p3)]) rfl ?_
  refine mr_iload_n (pc := 0) (z := p3) dX2_leastBelow_0 rfl rfl ?_
  refine mr_bipush (pc := 1) (z := 32) dX2_leastBelow_1 (by decide) ?_
  refine mr_icmp_ge (pc := 3) (tgt := 16) dX2_leastBelow_3 (by decide) (r32 hp3 rfl) (r32 (rR (x := 32)) rfl) (fun h => ((vc_X2_leastBelow_31_1 h hp3)).elim) (fun _ => ?_)
  refine sv_aload_n (pc := 6) dX2_leastBelow_6 rfl rfl ?_
  refine mr_iload_n (pc := 7) (z := p1) dX2_leastBelow_7 rfl rfl ?_
  refine mr_iload_n (pc := 8) (z := p2) dX2_leastBelow_8 rfl rfl ?_
  refine mr_iload_n (pc := 9) (z := p3) dX2_leastBelow_9 rfl rfl ?_
  refine mr_cVP (pc := 10) (c_X2_isSplit hw hT hp1 hp2 (rW (c := (-2147483648)) (d := 2147483647) hp3 rfl) (vc_X9_end_1 hq0 hp1)) (gOk _ _ _ _ _) dX2_leastBelow_10 (tX2_isSplit _ _ _ _ _) ⟨wV_X2_isSplit, wL_X2_isSplit⟩ wM_X2_106 (gCX2 _ _ _ _ _) rfl (A_87 hw) rfl ⟨le_t rfl, le_t rfl⟩ ⟨le_t rfl, le_t rfl⟩ rfl (le_t rfl) fun z5 h4 => ?_
  refine mr_if_ne (pc := 13) (tgt := 26) dX2_leastBelow_13 (by decide) (r32 h4.1 rfl) (fun h6 => ?_) (fun h6 => ?_)
  · have h7 : 1 ≤ z5 ∧ z5 ≤ 1 := (vc_X12_ring_24 h6 h4.1)
    refine sv_aload_n (pc := 26) dX2_leastBelow_26 rfl rfl ?_
    refine mr_iload_n (pc := 27) (z := p1) dX2_leastBelow_27 rfl rfl ?_
    refine mr_iload_n (pc := 28) (z := p2) dX2_leastBelow_28 rfl rfl ?_
    refine mr_iload_n (pc := 29) (z := p3) dX2_leastBelow_29 rfl rfl ?_
    refine mr_iconst (pc := 30) (z := 1) dX2_leastBelow_30 ?_
    refine mr_iadd (pc := 31) (x := p3) (y := 1) dX2_leastBelow_31 ?_
    refine mr_cVI (pc := 32) (c_X2_leastBelow_32 hw hT hp1 hp2 (rAdd (e := 32) (f := 32) hp3 (rR (x := 1)) rfl) (vc_X9_end_1 hq0 hp1)) (gOk _ _ _ _ _) dX2_leastBelow_32 (tX2_leastBelow _ _ _ _ _) ⟨wV_X2_leastBelow, wL_X2_leastBelow⟩ wM_X2_101 (gCX2 _ _ _ _ _) rfl (A_87 hw) rfl ⟨le_t rfl, le_t rfl⟩ ⟨le_t rfl, le_t rfl⟩ rfl (le_t rfl) fun z12 μ8 T9 F10 h11 => ?_
    refine mr_istore (pc := 35) (lv' := [(4, iv z12), (0, .ref 87), (1, iv p1), (2, iv p2), (3, iv p3)]) dX2_leastBelow_35 (by decide) rfl ?_
    refine sv_aload_n (pc := 37) dX2_leastBelow_37 rfl rfl ?_
    refine mr_iload_n (pc := 38) (z := p1) dX2_leastBelow_38 rfl rfl ?_
    refine mr_iload_n (pc := 39) (z := p2) dX2_leastBelow_39 rfl rfl ?_
    refine mr_iconst (pc := 40) (z := 1) dX2_leastBelow_40 ?_
    refine mr_bipush (pc := 41) (z := 31) dX2_leastBelow_41 (by decide) ?_
    refine mr_iload_n (pc := 43) (z := p3) dX2_leastBelow_43 rfl rfl ?_
    refine mr_isub (pc := 44) (x := 31) (y := p3) dX2_leastBelow_44 ?_
    refine mr_ishl (pc := 45) (x := 1) (y := (31 - p3)) dX2_leastBelow_45 ?_
    refine mr_gen (P := fun z => (-2147483648) ≤ z ∧ z ≤ 2147483647) (r32i _) fun z13 q14 h15 => ?_
    refine mr_ior (pc := 46) (x := p2) (y := z13) dX2_leastBelow_46 ?_
    refine mr_gen (P := fun z => (-2147483648) ≤ z ∧ z ≤ 2147483647) (r32i _) fun z16 q17 h18 => ?_
    refine mr_iload_n (pc := 47) (z := p3) dX2_leastBelow_47 rfl rfl ?_
    refine mr_iconst (pc := 48) (z := 1) dX2_leastBelow_48 ?_
    refine mr_iadd (pc := 49) (x := p3) (y := 1) dX2_leastBelow_49 ?_
    refine mr_cVI (pc := 50) (c_X2_leastBelow_32 hw T9 hp1 h18 (rAdd (e := 32) (f := 32) hp3 (rR (x := 1)) rfl) (vc_X9_end_1 hq0 hp1)) (gOk _ _ _ _ _) dX2_leastBelow_50 (tX2_leastBelow _ _ _ _ _) ⟨wV_X2_leastBelow, wL_X2_leastBelow⟩ wM_X2_101 (gCX2 _ _ _ _ _) rfl (A_87 hw) rfl ⟨le_t rfl, le_t rfl⟩ ⟨le_t rfl, le_t rfl⟩ rfl (le_t rfl) fun z23 μ19 T20 F21 h22 => ?_
    refine mr_istore (pc := 53) (lv' := [(5, iv z23), (4, iv z12), (0, .ref 87), (1, iv p1), (2, iv p2), (3, iv p3)]) dX2_leastBelow_53 (by decide) rfl ?_
    refine mr_iload (pc := 55) (z := z12) dX2_leastBelow_55 rfl ?_
    refine mr_iload (pc := 57) (z := z23) dX2_leastBelow_57 rfl ?_
    refine mr_iand (pc := 59) (x := z12) (y := z23) dX2_leastBelow_59 ?_
    refine mr_gen (P := fun z => (-2147483648) ≤ z ∧ z ≤ 2147483647) (r32i _) fun z24 q25 h26 => ?_
    refine mr_if_eq (pc := 60) (tgt := 69) dX2_leastBelow_60 (by decide) h26 (fun h27 => ?_) (fun h27 => ?_)
    · have h28 : 0 ≤ z24 ∧ z24 ≤ 0 := (vc_X12_mask_1 h27 h26)
      refine sv_aload_n (pc := 69) dX2_leastBelow_69 rfl rfl ?_
      refine sv_dup (pc := 70) dX2_leastBelow_70 rfl ?_
      refine gf_X2_7 (pc := 71) dX2_leastBelow_71 wF_X2_98 (A_87 hw) T20 fun z29 q30 h31 => ?_
      refine mr_iconst (pc := 74) (z := 1) dX2_leastBelow_74 ?_
      refine mr_iadd (pc := 75) (x := z29) (y := 1) dX2_leastBelow_75 ?_
      refine mr_wrap fun z32 h33 => ?_
      refine pf_X2_7 (pc := 76) dX2_leastBelow_76 wF_X2_98 (A_87 hw) T20 h33 fun μ34 u35 T36 => ?_
      refine mr_iload (pc := 79) (z := z12) dX2_leastBelow_79 rfl ?_
      refine mr_iload (pc := 81) (z := z23) dX2_leastBelow_81 rfl ?_
      refine mr_ior (pc := 83) (x := z12) (y := z23) dX2_leastBelow_83 ?_
      refine mr_gen (P := fun z => (-2147483648) ≤ z ∧ z ≤ 2147483647) (r32i _) fun z37 q38 h39 => ?_
      exact mr_iret dX2_leastBelow_84 rfl (le_t rfl) (le_t rfl) T36 (mF.up (mF.call (mF.call mF.refl F10 rfl) F21 rfl) (A_87 hw) u35 rfl) ⟨h39, trivial⟩
    refine mr_iload (pc := 63) (z := z12) dX2_leastBelow_63 rfl ?_
    refine mr_iload (pc := 65) (z := z23) dX2_leastBelow_65 rfl ?_
    refine mr_iand (pc := 67) (x := z12) (y := z23) dX2_leastBelow_67 ?_
    refine mr_gen (P := fun z => (-2147483648) ≤ z ∧ z ≤ 2147483647) (r32i _) fun z40 q41 h42 => ?_
    exact mr_iret dX2_leastBelow_68 rfl (le_t rfl) (le_t rfl) T20 (mF.call (mF.call mF.refl F10 rfl) F21 rfl) ⟨h42, trivial⟩
  have h43 : 0 ≤ z5 ∧ z5 ≤ 0 := (vc_X12_ring_22 h6 h4.1)
  refine sv_aload_n (pc := 16) dX2_leastBelow_16 rfl rfl ?_
  refine mr_iload_n (pc := 17) (z := p1) dX2_leastBelow_17 rfl rfl ?_
  refine mr_iload_n (pc := 18) (z := p2) dX2_leastBelow_18 rfl rfl ?_
  refine mr_cVP (pc := 19) (c_X2_tieFor hw hT hp1 hp2 (vc_X9_end_1 hq0 hp1)) (gOk _ _ _ _ _) dX2_leastBelow_19 (tX2_tieFor _ _ _ _ _) ⟨wV_X2_tieFor, wL_X2_tieFor⟩ wM_X2_60 (gCX2 _ _ _ _ _) rfl (A_87 hw) rfl ⟨le_t rfl, le_t rfl⟩ ⟨le_t rfl, le_t rfl⟩ rfl (le_t rfl) fun z48 h47 => ?_
  refine mr_cSP (pc := 22) (c_X2_aimBit hw hT h47.1) (gOk _ _ _ _ _) dX2_leastBelow_22 (tX2_aimBit _ _ _ _ _) wS_X2_aimBit wM_X2_110 ⟨le_t rfl, le_t rfl⟩ ⟨le_t rfl, le_t rfl⟩ rfl (le_t rfl) fun z53 h52 => ?_
  exact mr_iret dX2_leastBelow_25 rfl (le_t rfl) (le_t rfl) hT mF.refl ⟨h52.1, trivial⟩
theorem vc_X2_leastBelow_30_1 {p3 : Int} (h0 : 32 ≤ p3) (h1 : 30 ≤ p3 ∧ p3 ≤ 30) : False := by omega
set_option maxRecDepth 4000 in
set_option maxHeartbeats 4000000 in
theorem c_X2_leastBelow_30 {l : Launch} {D : va_G} {c : Nat → ClassId} {H0 : Heap} {sa : Nat × Nat × (Nat → Int32)} {w : mW} {μ : mM} (hw : mWF w) (hT : mT w μ) {p1 : Int} (hp1 : 0 ≤ p1 ∧ p1 ≤ 9) {p2 : Int} (hp2 : (-2147483648) ≤ p2 ∧ p2 ≤ 2147483647) {p3 : Int} (hp3 : 30 ≤ p3 ∧ p3 ≤ 30) (hq0 : p1 < w.2.2.2 0) : sC (gG l D c H0 sa) mX2_leastBelow 5 0 0 [.ref 87, iv p1, iv p2, iv p3] (mk w μ) (qI w [87007] μ (fun z μ1 => ((-2147483648) ≤ z ∧ z ≤ 2147483647) ∧ True)) := by
  refine sC.of rfl (by decide) (le_t rfl) ?_
  refine mr_lvE (lv' := [(0, .ref 87), (1, iv p1), (2, iv p2), (3, iv p3)]) rfl ?_
  refine mr_iload_n (pc := 0) (z := p3) dX2_leastBelow_0 rfl rfl ?_
  refine mr_bipush (pc := 1) (z := 32) dX2_leastBelow_1 (by decide) ?_
  refine mr_icmp_ge (pc := 3) (tgt := 16) dX2_leastBelow_3 (by decide) (r32 hp3 rfl) (r32 (rR (x := 32)) rfl) (fun h => ((vc_X2_leastBelow_30_1 h hp3)).elim) (fun _ => ?_)
  refine sv_aload_n (pc := 6) dX2_leastBelow_6 rfl rfl ?_
  refine mr_iload_n (pc := 7) (z := p1) dX2_leastBelow_7 rfl rfl ?_
  refine mr_iload_n (pc := 8) (z := p2) dX2_leastBelow_8 rfl rfl ?_
  refine mr_iload_n (pc := 9) (z := p3) dX2_leastBelow_9 rfl rfl ?_
  refine mr_cVP (pc := 10) (c_X2_isSplit hw hT hp1 hp2 (rW (c := (-2147483648)) (d := 2147483647) hp3 rfl) (vc_X9_end_1 hq0 hp1)) (gOk _ _ _ _ _) dX2_leastBelow_10 (tX2_isSplit _ _ _ _ _) ⟨wV_X2_isSplit, wL_X2_isSplit⟩ wM_X2_106 (gCX2 _ _ _ _ _) rfl (A_87 hw) rfl ⟨le_t rfl, le_t rfl⟩ ⟨le_t rfl, le_t rfl⟩ rfl (le_t rfl) fun z5 h4 => ?_
  refine mr_if_ne (pc := 13) (tgt := 26) dX2_leastBelow_13 (by decide) (r32 h4.1 rfl) (fun h6 => ?_) (fun h6 => ?_)
  · have h7 : 1 ≤ z5 ∧ z5 ≤ 1 := (vc_X12_ring_24 h6 h4.1)
    refine sv_aload_n (pc := 26) dX2_leastBelow_26 rfl rfl ?_
    refine mr_iload_n (pc := 27) (z := p1) dX2_leastBelow_27 rfl rfl ?_
    refine mr_iload_n (pc := 28) (z := p2) dX2_leastBelow_28 rfl rfl ?_
    refine mr_iload_n (pc := 29) (z := p3) dX2_leastBelow_29 rfl rfl ?_
    refine mr_iconst (pc := 30) (z := 1) dX2_leastBelow_30 ?_
    refine mr_iadd (pc := 31) (x := p3) (y := 1) dX2_leastBelow_31 ?_
    refine mr_cVI (pc := 32) (c_X2_leastBelow_31 hw hT hp1 hp2 (rAdd (e := 31) (f := 31) hp3 (rR (x := 1)) rfl) (vc_X9_end_1 hq0 hp1)) (gOk _ _ _ _ _) dX2_leastBelow_32 (tX2_leastBelow _ _ _ _ _) ⟨wV_X2_leastBelow, wL_X2_leastBelow⟩ wM_X2_101 (gCX2 _ _ _ _ _) rfl (A_87 hw) rfl ⟨le_t rfl, le_t rfl⟩ ⟨le_t rfl, le_t rfl⟩ rfl (le_t rfl) fun z12 μ8 T9 F10 h11 => ?_
    refine mr_istore (pc := 35) (lv' := [(4, iv z12), (0, .ref 87), (1, iv p1), (2, iv p2), (3, iv p3)]) dX2_leastBelow_35 (by decide) rfl ?_
    refine sv_aload_n (pc := 37) dX2_leastBelow_37 rfl rfl ?_
    refine mr_iload_n (pc := 38) (z := p1) dX2_leastBelow_38 rfl rfl ?_
    refine mr_iload_n (pc := 39) (z := p2) dX2_leastBelow_39 rfl rfl ?_
    refine mr_iconst (pc := 40) (z := 1) dX2_leastBelow_40 ?_
    refine mr_bipush (pc := 41) (z := 31) dX2_leastBelow_41 (by decide) ?_
    refine mr_iload_n (pc := 43) (z := p3) dX2_leastBelow_43 rfl rfl ?_
    refine mr_isub (pc := 44) (x := 31) (y := p3) dX2_leastBelow_44 ?_
    refine mr_ishl (pc := 45) (x := 1) (y := (31 - p3)) dX2_leastBelow_45 ?_
    refine mr_gen (P := fun z => (-2147483648) ≤ z ∧ z ≤ 2147483647) (r32i _) fun z13 q14 h15 => ?_
    refine mr_ior (pc := 46) (x := p2) (y := z13) dX2_leastBelow_46 ?_
    refine mr_gen (P := fun z => (-2147483648) ≤ z ∧ z ≤ 2147483647) (r32i _) fun z16 q17 h18 => ?_
    refine mr_iload_n (pc := 47) (z := p3) dX2_leastBelow_47 rfl rfl ?_
    refine mr_iconst (pc := 48) (z := 1) dX2_leastBelow_48 ?_
    refine mr_iadd (pc := 49) (x := p3) (y := 1) dX2_leastBelow_49 ?_
    refine mr_cVI (pc := 50) (c_X2_leastBelow_31 hw T9 hp1 h18 (rAdd (e := 31) (f := 31) hp3 (rR (x := 1)) rfl) (vc_X9_end_1 hq0 hp1)) (gOk _ _ _ _ _) dX2_leastBelow_50 (tX2_leastBelow _ _ _ _ _) ⟨wV_X2_leastBelow, wL_X2_leastBelow⟩ wM_X2_101 (gCX2 _ _ _ _ _) rfl (A_87 hw) rfl ⟨le_t rfl, le_t rfl⟩ ⟨le_t rfl, le_t rfl⟩ rfl (le_t rfl) fun z23 μ19 T20 F21 h22 => ?_
    refine mr_istore (pc := 53) (lv' := [(5, iv z23), (4, iv z12), (0, .ref 87), (1, iv p1), (2, iv p2), (3, iv p3)]) dX2_leastBelow_53 (by decide) rfl ?_
    refine mr_iload (pc := 55) (z := z12) dX2_leastBelow_55 rfl ?_
    refine mr_iload (pc := 57) (z := z23) dX2_leastBelow_57 rfl ?_
    refine mr_iand (pc := 59) (x := z12) (y := z23) dX2_leastBelow_59 ?_
    refine mr_gen (P := fun z => (-2147483648) ≤ z ∧ z ≤ 2147483647) (r32i _) fun z24 q25 h26 => ?_
    refine mr_if_eq (pc := 60) (tgt := 69) dX2_leastBelow_60 (by decide) h26 (fun h27 => ?_) (fun h27 => ?_)
    · have h28 : 0 ≤ z24 ∧ z24 ≤ 0 := (vc_X12_mask_1 h27 h26)
      refine sv_aload_n (pc := 69) dX2_leastBelow_69 rfl rfl ?_
      refine sv_dup (pc := 70) dX2_leastBelow_70 rfl ?_
      refine gf_X2_7 (pc := 71) dX2_leastBelow_71 wF_X2_98 (A_87 hw) T20 fun z29 q30 h31 => ?_
      refine mr_iconst (pc := 74) (z := 1) dX2_leastBelow_74 ?_
      refine mr_iadd (pc := 75) (x := z29) (y := 1) dX2_leastBelow_75 ?_
      refine mr_wrap fun z32 h33 => ?_
      refine pf_X2_7 (pc := 76) dX2_leastBelow_76 wF_X2_98 (A_87 hw) T20 h33 fun μ34 u35 T36 => ?_
      refine mr_iload (pc := 79) (z := z12) dX2_leastBelow_79 rfl ?_
      refine mr_iload (pc := 81) (z := z23) dX2_leastBelow_81 rfl ?_
      refine mr_ior (pc := 83) (x := z12) (y := z23) dX2_leastBelow_83 ?_
      refine mr_gen (P := fun z => (-2147483648) ≤ z ∧ z ≤ 2147483647) (r32i _) fun z37 q38 h39 => ?_
      exact mr_iret dX2_leastBelow_84 rfl (le_t rfl) (le_t rfl) T36 (mF.up (mF.call (mF.call mF.refl F10 rfl) F21 rfl) (A_87 hw) u35 rfl) ⟨h39, trivial⟩
    refine mr_iload (pc := 63) (z := z12) dX2_leastBelow_63 rfl ?_
    refine mr_iload (pc := 65) (z := z23) dX2_leastBelow_65 rfl ?_
    refine mr_iand (pc := 67) (x := z12) (y := z23) dX2_leastBelow_67 ?_
    refine mr_gen (P := fun z => (-2147483648) ≤ z ∧ z ≤ 2147483647) (r32i _) fun z40 q41 h42 => ?_
    exact mr_iret dX2_leastBelow_68 rfl (le_t rfl) (le_t rfl) T20 (mF.call (mF.call mF.refl F10 rfl) F21 rfl) ⟨h42, trivial⟩
  have h43 : 0 ≤ z5 ∧ z5 ≤ 0 := (vc_X12_ring_22 h6 h4.1)
  refine sv_aload_n (pc := 16) dX2_leastBelow_16 rfl rfl ?_
  refine mr_iload_n (pc := 17) (z := p1) dX2_leastBelow_17 rfl rfl ?_
  refine mr_iload_n (pc := 18) (z := p2) dX2_leastBelow_18 rfl rfl ?_
  refine mr_cVP (pc := 19) (c_X2_tieFor hw hT hp1 hp2 (vc_X9_end_1 hq0 hp1)) (gOk _ _ _ _ _) dX2_leastBelow_19 (tX2_tieFor _ _ _ _ _) ⟨wV_X2_tieFor, wL_X2_tieFor⟩ wM_X2_60 (gCX2 _ _ _ _ _) rfl (A_87 hw) rfl ⟨le_t rfl, le_t rfl⟩ ⟨le_t rfl, le_t rfl⟩ rfl (le_t rfl) fun z48 h47 => ?_
  refine mr_cSP (pc := 22) (c_X2_aimBit hw hT h47.1) (gOk _ _ _ _ _) dX2_leastBelow_22 (tX2_aimBit _ _ _ _ _) wS_X2_aimBit wM_X2_110 ⟨le_t rfl, le_t rfl⟩ ⟨le_t rfl, le_t rfl⟩ rfl (le_t rfl) fun z53 h52 => ?_
  exact mr_iret dX2_leastBelow_25 rfl (le_t rfl) (le_t rfl) hT mF.refl ⟨h52.1, trivial⟩
theorem vc_X2_leastBelow_29_1 {p3 : Int} (h0 : 32 ≤ p3) (h1 : 29 ≤ p3 ∧ p3 ≤ 29) : False := by omega
set_option maxRecDepth 4000 in
set_option maxHeartbeats 4000000 in
theorem c_X2_leastBelow_29 {l : Launch} {D : va_G} {c : Nat → ClassId} {H0 : Heap} {sa : Nat × Nat × (Nat → Int32)} {w : mW} {μ : mM} (hw : mWF w) (hT : mT w μ) {p1 : Int} (hp1 : 0 ≤ p1 ∧ p1 ≤ 9) {p2 : Int} (hp2 : (-2147483648) ≤ p2 ∧ p2 ≤ 2147483647) {p3 : Int} (hp3 : 29 ≤ p3 ∧ p3 ≤ 29) (hq0 : p1 < w.2.2.2 0) : sC (gG l D c H0 sa) mX2_leastBelow 6 0 0 [.ref 87, iv p1, iv p2, iv p3] (mk w μ) (qI w [87007] μ (fun z μ1 => ((-2147483648) ≤ z ∧ z ≤ 2147483647) ∧ True)) := by
  refine sC.of rfl (by decide) (le_t rfl) ?_
  refine mr_lvE (lv' := [(0, .ref 87), (1, iv p1), (2, iv p2), (3, iv p3)]) rfl ?_
  refine mr_iload_n (pc := 0) (z := p3) dX2_leastBelow_0 rfl rfl ?_
  refine mr_bipush (pc := 1) (z := 32) dX2_leastBelow_1 (by decide) ?_
  refine mr_icmp_ge (pc := 3) (tgt := 16) dX2_leastBelow_3 (by decide) (r32 hp3 rfl) (r32 (rR (x := 32)) rfl) (fun h => ((vc_X2_leastBelow_29_1 h hp3)).elim) (fun _ => ?_)
  refine sv_aload_n (pc := 6) dX2_leastBelow_6 rfl rfl ?_
  refine mr_iload_n (pc := 7) (z := p1) dX2_leastBelow_7 rfl rfl ?_
  refine mr_iload_n (pc := 8) (z := p2) dX2_leastBelow_8 rfl rfl ?_
  refine mr_iload_n (pc := 9) (z := p3) dX2_leastBelow_9 rfl rfl ?_
  refine mr_cVP (pc := 10) (c_X2_isSplit hw hT hp1 hp2 (rW (c := (-2147483648)) (d := 2147483647) hp3 rfl) (vc_X9_end_1 hq0 hp1)) (gOk _ _ _ _ _) dX2_leastBelow_10 (tX2_isSplit _ _ _ _ _) ⟨wV_X2_isSplit, wL_X2_isSplit⟩ wM_X2_106 (gCX2 _ _ _ _ _) rfl (A_87 hw) rfl ⟨le_t rfl, le_t rfl⟩ ⟨le_t rfl, le_t rfl⟩ rfl (le_t rfl) fun z5 h4 => ?_
  refine mr_if_ne (pc := 13) (tgt := 26) dX2_leastBelow_13 (by decide) (r32 h4.1 rfl) (fun h6 => ?_) (fun h6 => ?_)
  · have h7 : 1 ≤ z5 ∧ z5 ≤ 1 := (vc_X12_ring_24 h6 h4.1)
    refine sv_aload_n (pc := 26) dX2_leastBelow_26 rfl rfl ?_
    refine mr_iload_n (pc := 27) (z := p1) dX2_leastBelow_27 rfl rfl ?_
    refine mr_iload_n (pc := 28) (z := p2) dX2_leastBelow_28 rfl rfl ?_
    refine mr_iload_n (pc := 29) (z := p3) dX2_leastBelow_29 rfl rfl ?_
    refine mr_iconst (pc := 30) (z := 1) dX2_leastBelow_30 ?_
    refine mr_iadd (pc := 31) (x := p3) (y := 1) dX2_leastBelow_31 ?_
    refine mr_cVI (pc := 32) (c_X2_leastBelow_30 hw hT hp1 hp2 (rAdd (e := 30) (f := 30) hp3 (rR (x := 1)) rfl) (vc_X9_end_1 hq0 hp1)) (gOk _ _ _ _ _) dX2_leastBelow_32 (tX2_leastBelow _ _ _ _ _) ⟨wV_X2_leastBelow, wL_X2_leastBelow⟩ wM_X2_101 (gCX2 _ _ _ _ _) rfl (A_87 hw) rfl ⟨le_t rfl, le_t rfl⟩ ⟨le_t rfl, le_t rfl⟩ rfl (le_t rfl) fun z12 μ8 T9 F10 h11 => ?_
    refine mr_istore (pc := 35) (lv' := [(4, iv z12), (0, .ref 87), (1, iv p1), (2, iv p2), (3, iv p3)]) dX2_leastBelow_35 (by decide) rfl ?_
    refine sv_aload_n (pc := 37) dX2_leastBelow_37 rfl rfl ?_
    refine mr_iload_n (pc := 38) (z := p1) dX2_leastBelow_38 rfl rfl ?_
    refine mr_iload_n (pc := 39) (z := p2) dX2_leastBelow_39 rfl rfl ?_
    refine mr_iconst (pc := 40) (z := 1) dX2_leastBelow_40 ?_
    refine mr_bipush (pc := 41) (z := 31) dX2_leastBelow_41 (by decide) ?_
    refine mr_iload_n (pc := 43) (z := p3) dX2_leastBelow_43 rfl rfl ?_
    refine mr_isub (pc := 44) (x := 31) (y := p3) dX2_leastBelow_44 ?_
    refine mr_ishl (pc := 45) (x := 1) (y := (31 - p3)) dX2_leastBelow_45 ?_
    refine mr_gen (P := fun z => (-2147483648) ≤ z ∧ z ≤ 2147483647) (r32i _) fun z13 q14 h15 => ?_
    refine mr_ior (pc := 46) (x := p2) (y := z13) dX2_leastBelow_46 ?_
    refine mr_gen (P := fun z => (-2147483648) ≤ z ∧ z ≤ 2147483647) (r32i _) fun z16 q17 h18 => ?_
    refine mr_iload_n (pc := 47) (z := p3) dX2_leastBelow_47 rfl rfl ?_
    refine mr_iconst (pc := 48) (z := 1) dX2_leastBelow_48 ?_
    refine mr_iadd (pc := 49) (x := p3) (y := 1) dX2_leastBelow_49 ?_
    refine mr_cVI (pc := 50) (c_X2_leastBelow_30 hw T9 hp1 h18 (rAdd (e := 30) (f := 30) hp3 (rR (x := 1)) rfl) (vc_X9_end_1 hq0 hp1)) (gOk _ _ _ _ _) dX2_leastBelow_50 (tX2_leastBelow _ _ _ _ _) ⟨wV_X2_leastBelow, wL_X2_leastBelow⟩ wM_X2_101 (gCX2 _ _ _ _ _) rfl (A_87 hw) rfl ⟨le_t rfl, le_t rfl⟩ ⟨le_t rfl, le_t rfl⟩ rfl (le_t rfl) fun z23 μ19 T20 F21 h22 => ?_
    refine mr_istore (pc := 53) (lv' := [(5, iv z23), (4, iv z12), (0, .ref 87), (1, iv p1), (2, iv p2), (3, iv p3)]) dX2_leastBelow_53 (by decide) rfl ?_
    refine mr_iload (pc := 55) (z := z12) dX2_leastBelow_55 rfl ?_
    refine mr_iload (pc := 57) (z := z23) dX2_leastBelow_57 rfl ?_
    refine mr_iand (pc := 59) (x := z12) (y := z23) dX2_leastBelow_59 ?_
    refine mr_gen (P := fun z => (-2147483648) ≤ z ∧ z ≤ 2147483647) (r32i _) fun z24 q25 h26 => ?_
    refine mr_if_eq (pc := 60) (tgt := 69) dX2_leastBelow_60 (by decide) h26 (fun h27 => ?_) (fun h27 => ?_)
    · have h28 : 0 ≤ z24 ∧ z24 ≤ 0 := (vc_X12_mask_1 h27 h26)
      refine sv_aload_n (pc := 69) dX2_leastBelow_69 rfl rfl ?_
      refine sv_dup (pc := 70) dX2_leastBelow_70 rfl ?_
      refine gf_X2_7 (pc := 71) dX2_leastBelow_71 wF_X2_98 (A_87 hw) T20 fun z29 q30 h31 => ?_
      refine mr_iconst (pc := 74) (z := 1) dX2_leastBelow_74 ?_
      refine mr_iadd (pc := 75) (x := z29) (y := 1) dX2_leastBelow_75 ?_
      refine mr_wrap fun z32 h33 => ?_
      refine pf_X2_7 (pc := 76) dX2_leastBelow_76 wF_X2_98 (A_87 hw) T20 h33 fun μ34 u35 T36 => ?_
      refine mr_iload (pc := 79) (z := z12) dX2_leastBelow_79 rfl ?_
      refine mr_iload (pc := 81) (z := z23) dX2_leastBelow_81 rfl ?_
      refine mr_ior (pc := 83) (x := z12) (y := z23) dX2_leastBelow_83 ?_
      refine mr_gen (P := fun z => (-2147483648) ≤ z ∧ z ≤ 2147483647) (r32i _) fun z37 q38 h39 => ?_
      exact mr_iret dX2_leastBelow_84 rfl (le_t rfl) (le_t rfl) T36 (mF.up (mF.call (mF.call mF.refl F10 rfl) F21 rfl) (A_87 hw) u35 rfl) ⟨h39, trivial⟩
    refine mr_iload (pc := 63) (z := z12) dX2_leastBelow_63 rfl ?_
    refine mr_iload (pc := 65) (z := z23) dX2_leastBelow_65 rfl ?_
    refine mr_iand (pc := 67) (x := z12) (y := z23) dX2_leastBelow_67 ?_
    refine mr_gen (P := fun z => (-2147483648) ≤ z ∧ z ≤ 2147483647) (r32i _) fun z40 q41 h42 => ?_
    exact mr_iret dX2_leastBelow_68 rfl (le_t rfl) (le_t rfl) T20 (mF.call (mF.call mF.refl F10 rfl) F21 rfl) ⟨h42, trivial⟩
  have h43 : 0 ≤ z5 ∧ z5 ≤ 0 := (vc_X12_ring_22 h6 h4.1)
  refine sv_aload_n (pc := 16) dX2_leastBelow_16 rfl rfl ?_
  refine mr_iload_n (pc := 17) (z := p1) dX2_leastBelow_17 rfl rfl ?_
  refine mr_iload_n (pc := 18) (z := p2) dX2_leastBelow_18 rfl rfl ?_
  refine mr_cVP (pc := 19) (c_X2_tieFor hw hT hp1 hp2 (vc_X9_end_1 hq0 hp1)) (gOk _ _ _ _ _) dX2_leastBelow_19 (tX2_tieFor _ _ _ _ _) ⟨wV_X2_tieFor, wL_X2_tieFor⟩ wM_X2_60 (gCX2 _ _ _ _ _) rfl (A_87 hw) rfl ⟨le_t rfl, le_t rfl⟩ ⟨le_t rfl, le_t rfl⟩ rfl (le_t rfl) fun z48 h47 => ?_
  refine mr_cSP (pc := 22) (c_X2_aimBit hw hT h47.1) (gOk _ _ _ _ _) dX2_leastBelow_22 (tX2_aimBit _ _ _ _ _) wS_X2_aimBit wM_X2_110 ⟨le_t rfl, le_t rfl⟩ ⟨le_t rfl, le_t rfl⟩ rfl (le_t rfl) fun z53 h52 => ?_
  exact mr_iret dX2_leastBelow_25 rfl (le_t rfl) (le_t rfl) hT mF.refl ⟨h52.1, trivial⟩
theorem vc_X2_leastBelow_28_1 {p3 : Int} (h0 : 32 ≤ p3) (h1 : 28 ≤ p3 ∧ p3 ≤ 28) : False := by omega
set_option maxRecDepth 4000 in
set_option maxHeartbeats 4000000 in
theorem c_X2_leastBelow_28 {l : Launch} {D : va_G} {c : Nat → ClassId} {H0 : Heap} {sa : Nat × Nat × (Nat → Int32)} {w : mW} {μ : mM} (hw : mWF w) (hT : mT w μ) {p1 : Int} (hp1 : 0 ≤ p1 ∧ p1 ≤ 9) {p2 : Int} (hp2 : (-2147483648) ≤ p2 ∧ p2 ≤ 2147483647) {p3 : Int} (hp3 : 28 ≤ p3 ∧ p3 ≤ 28) (hq0 : p1 < w.2.2.2 0) : sC (gG l D c H0 sa) mX2_leastBelow 7 0 0 [.ref 87, iv p1, iv p2, iv p3] (mk w μ) (qI w [87007] μ (fun z μ1 => ((-2147483648) ≤ z ∧ z ≤ 2147483647) ∧ True)) := by
  refine sC.of rfl (by decide) (le_t rfl) ?_
  refine mr_lvE (lv' := [(0, .ref 87), (1, iv p1), (2, iv p2), (3, iv p3)]) rfl ?_
  refine mr_iload_n (pc := 0) (z := p3) dX2_leastBelow_0 rfl rfl ?_
  refine mr_bipush (pc := 1) (z := 32) dX2_leastBelow_1 (by decide) ?_
  refine mr_icmp_ge (pc := 3) (tgt := 16) dX2_leastBelow_3 (by decide) (r32 hp3 rfl) (r32 (rR (x := 32)) rfl) (fun h => ((vc_X2_leastBelow_28_1 h hp3)).elim) (fun _ => ?_)
  refine sv_aload_n (pc := 6) dX2_leastBelow_6 rfl rfl ?_
  refine mr_iload_n (pc := 7) (z := p1) dX2_leastBelow_7 rfl rfl ?_
  refine mr_iload_n (pc := 8) (z := p2) dX2_leastBelow_8 rfl rfl ?_
  refine mr_iload_n (pc := 9) (z := p3) dX2_leastBelow_9 rfl rfl ?_
  refine mr_cVP (pc := 10) (c_X2_isSplit hw hT hp1 hp2 (rW (c := (-2147483648)) (d := 2147483647) hp3 rfl) (vc_X9_end_1 hq0 hp1)) (gOk _ _ _ _ _) dX2_leastBelow_10 (tX2_isSplit _ _ _ _ _) ⟨wV_X2_isSplit, wL_X2_isSplit⟩ wM_X2_106 (gCX2 _ _ _ _ _) rfl (A_87 hw) rfl ⟨le_t rfl, le_t rfl⟩ ⟨le_t rfl, le_t rfl⟩ rfl (le_t rfl) fun z5 h4 => ?_
  refine mr_if_ne (pc := 13) (tgt := 26) dX2_leastBelow_13 (by decide) (r32 h4.1 rfl) (fun h6 => ?_) (fun h6 => ?_)
  · have h7 : 1 ≤ z5 ∧ z5 ≤ 1 := (vc_X12_ring_24 h6 h4.1)
    refine sv_aload_n (pc := 26) dX2_leastBelow_26 rfl rfl ?_
    refine mr_iload_n (pc := 27) (z := p1) dX2_leastBelow_27 rfl rfl ?_
    refine mr_iload_n (pc := 28) (z := p2) dX2_leastBelow_28 rfl rfl ?_
    refine mr_iload_n (pc := 29) (z := p3) dX2_leastBelow_29 rfl rfl ?_
    refine mr_iconst (pc := 30) (z := 1) dX2_leastBelow_30 ?_
    refine mr_iadd (pc := 31) (x := p3) (y := 1) dX2_leastBelow_31 ?_
    refine mr_cVI (pc := 32) (c_X2_leastBelow_29 hw hT hp1 hp2 (rAdd (e := 29) (f := 29) hp3 (rR (x := 1)) rfl) (vc_X9_end_1 hq0 hp1)) (gOk _ _ _ _ _) dX2_leastBelow_32 (tX2_leastBelow _ _ _ _ _) ⟨wV_X2_leastBelow, wL_X2_leastBelow⟩ wM_X2_101 (gCX2 _ _ _ _ _) rfl (A_87 hw) rfl ⟨le_t rfl, le_t rfl⟩ ⟨le_t rfl, le_t rfl⟩ rfl (le_t rfl) fun z12 μ8 T9 F10 h11 => ?_
    refine mr_istore (pc := 35) (lv' := [(4, iv z12), (0, .ref 87), (1, iv p1), (2, iv p2), (3, iv p3)]) dX2_leastBelow_35 (by decide) rfl ?_
    refine sv_aload_n (pc := 37) dX2_leastBelow_37 rfl rfl ?_
    refine mr_iload_n (pc := 38) (z := p1) dX2_leastBelow_38 rfl rfl ?_
    refine mr_iload_n (pc := 39) (z := p2) dX2_leastBelow_39 rfl rfl ?_
    refine mr_iconst (pc := 40) (z := 1) dX2_leastBelow_40 ?_
    refine mr_bipush (pc := 41) (z := 31) dX2_leastBelow_41 (by decide) ?_
    refine mr_iload_n (pc := 43) (z := p3) dX2_leastBelow_43 rfl rfl ?_
    refine mr_isub (pc := 44) (x := 31) (y := p3) dX2_leastBelow_44 ?_
    refine mr_ishl (pc := 45) (x := 1) (y := (31 - p3)) dX2_leastBelow_45 ?_
    refine mr_gen (P := fun z => (-2147483648) ≤ z ∧ z ≤ 2147483647) (r32i _) fun z13 q14 h15 => ?_
    refine mr_ior (pc := 46) (x := p2) (y := z13) dX2_leastBelow_46 ?_
    refine mr_gen (P := fun z => (-2147483648) ≤ z ∧ z ≤ 2147483647) (r32i _) fun z16 q17 h18 => ?_
    refine mr_iload_n (pc := 47) (z := p3) dX2_leastBelow_47 rfl rfl ?_
    refine mr_iconst (pc := 48) (z := 1) dX2_leastBelow_48 ?_
    refine mr_iadd (pc := 49) (x := p3) (y := 1) dX2_leastBelow_49 ?_
    refine mr_cVI (pc := 50) (c_X2_leastBelow_29 hw T9 hp1 h18 (rAdd (e := 29) (f := 29) hp3 (rR (x := 1)) rfl) (vc_X9_end_1 hq0 hp1)) (gOk _ _ _ _ _) dX2_leastBelow_50 (tX2_leastBelow _ _ _ _ _) ⟨wV_X2_leastBelow, wL_X2_leastBelow⟩ wM_X2_101 (gCX2 _ _ _ _ _) rfl (A_87 hw) rfl ⟨le_t rfl, le_t rfl⟩ ⟨le_t rfl, le_t rfl⟩ rfl (le_t rfl) fun z23 μ19 T20 F21 h22 => ?_
    refine mr_istore (pc := 53) (lv' := [(5, iv z23), (4, iv z12), (0, .ref 87), (1, iv p1), (2, iv p2), (3, iv p3)]) dX2_leastBelow_53 (by decide) rfl ?_
    refine mr_iload (pc := 55) (z := z12) dX2_leastBelow_55 rfl ?_
    refine mr_iload (pc := 57) (z := z23) dX2_leastBelow_57 rfl ?_
    refine mr_iand (pc := 59) (x := z12) (y := z23) dX2_leastBelow_59 ?_
    refine mr_gen (P := fun z => (-2147483648) ≤ z ∧ z ≤ 2147483647) (r32i _) fun z24 q25 h26 => ?_
    refine mr_if_eq (pc := 60) (tgt := 69) dX2_leastBelow_60 (by decide) h26 (fun h27 => ?_) (fun h27 => ?_)
    · have h28 : 0 ≤ z24 ∧ z24 ≤ 0 := (vc_X12_mask_1 h27 h26)
      refine sv_aload_n (pc := 69) dX2_leastBelow_69 rfl rfl ?_
      refine sv_dup (pc := 70) dX2_leastBelow_70 rfl ?_
      refine gf_X2_7 (pc := 71) dX2_leastBelow_71 wF_X2_98 (A_87 hw) T20 fun z29 q30 h31 => ?_
      refine mr_iconst (pc := 74) (z := 1) dX2_leastBelow_74 ?_
      refine mr_iadd (pc := 75) (x := z29) (y := 1) dX2_leastBelow_75 ?_
      refine mr_wrap fun z32 h33 => ?_
      refine pf_X2_7 (pc := 76) dX2_leastBelow_76 wF_X2_98 (A_87 hw) T20 h33 fun μ34 u35 T36 => ?_
      refine mr_iload (pc := 79) (z := z12) dX2_leastBelow_79 rfl ?_
      refine mr_iload (pc := 81) (z := z23) dX2_leastBelow_81 rfl ?_
      refine mr_ior (pc := 83) (x := z12) (y := z23) dX2_leastBelow_83 ?_
      refine mr_gen (P := fun z => (-2147483648) ≤ z ∧ z ≤ 2147483647) (r32i _) fun z37 q38 h39 => ?_
      exact mr_iret dX2_leastBelow_84 rfl (le_t rfl) (le_t rfl) T36 (mF.up (mF.call (mF.call mF.refl F10 rfl) F21 rfl) (A_87 hw) u35 rfl) ⟨h39, trivial⟩
    refine mr_iload (pc := 63) (z := z12) dX2_leastBelow_63 rfl ?_
    refine mr_iload (pc := 65) (z := z23) dX2_leastBelow_65 rfl ?_
    refine mr_iand (pc := 67) (x := z12) (y := z23) dX2_leastBelow_67 ?_
    refine mr_gen (P := fun z => (-2147483648) ≤ z ∧ z ≤ 2147483647) (r32i _) fun z40 q41 h42 => ?_
    exact mr_iret dX2_leastBelow_68 rfl (le_t rfl) (le_t rfl) T20 (mF.call (mF.call mF.refl F10 rfl) F21 rfl) ⟨h42, trivial⟩
  have h43 : 0 ≤ z5 ∧ z5 ≤ 0 := (vc_X12_ring_22 h6 h4.1)
  refine sv_aload_n (pc := 16) dX2_leastBelow_16 rfl rfl ?_
  refine mr_iload_n (pc := 17) (z := p1) dX2_leastBelow_17 rfl rfl ?_
  refine mr_iload_n (pc := 18) (z := p2) dX2_leastBelow_18 rfl rfl ?_
  refine mr_cVP (pc := 19) (c_X2_tieFor hw hT hp1 hp2 (vc_X9_end_1 hq0 hp1)) (gOk _ _ _ _ _) dX2_leastBelow_19 (tX2_tieFor _ _ _ _ _) ⟨wV_X2_tieFor, wL_X2_tieFor⟩ wM_X2_60 (gCX2 _ _ _ _ _) rfl (A_87 hw) rfl ⟨le_t rfl, le_t rfl⟩ ⟨le_t rfl, le_t rfl⟩ rfl (le_t rfl) fun z48 h47 => ?_
  refine mr_cSP (pc := 22) (c_X2_aimBit hw hT h47.1) (gOk _ _ _ _ _) dX2_leastBelow_22 (tX2_aimBit _ _ _ _ _) wS_X2_aimBit wM_X2_110 ⟨le_t rfl, le_t rfl⟩ ⟨le_t rfl, le_t rfl⟩ rfl (le_t rfl) fun z53 h52 => ?_
  exact mr_iret dX2_leastBelow_25 rfl (le_t rfl) (le_t rfl) hT mF.refl ⟨h52.1, trivial⟩
theorem vc_X2_leastBelow_27_1 {p3 : Int} (h0 : 32 ≤ p3) (h1 : 27 ≤ p3 ∧ p3 ≤ 27) : False := by omega
set_option maxRecDepth 4000 in
set_option maxHeartbeats 4000000 in
theorem c_X2_leastBelow_27 {l : Launch} {D : va_G} {c : Nat → ClassId} {H0 : Heap} {sa : Nat × Nat × (Nat → Int32)} {w : mW} {μ : mM} (hw : mWF w) (hT : mT w μ) {p1 : Int} (hp1 : 0 ≤ p1 ∧ p1 ≤ 9) {p2 : Int} (hp2 : (-2147483648) ≤ p2 ∧ p2 ≤ 2147483647) {p3 : Int} (hp3 : 27 ≤ p3 ∧ p3 ≤ 27) (hq0 : p1 < w.2.2.2 0) : sC (gG l D c H0 sa) mX2_leastBelow 8 0 0 [.ref 87, iv p1, iv p2, iv p3] (mk w μ) (qI w [87007] μ (fun z μ1 => ((-2147483648) ≤ z ∧ z ≤ 2147483647) ∧ True)) := by
  refine sC.of rfl (by decide) (le_t rfl) ?_
  refine mr_lvE (lv' := [(0, .ref 87), (1, iv p1), (2, iv p2), (3, iv p3)]) rfl ?_
  refine mr_iload_n (pc := 0) (z := p3) dX2_leastBelow_0 rfl rfl ?_
  refine mr_bipush (pc := 1) (z := 32) dX2_leastBelow_1 (by decide) ?_
  refine mr_icmp_ge (pc := 3) (tgt := 16) dX2_leastBelow_3 (by decide) (r32 hp3 rfl) (r32 (rR (x := 32)) rfl) (fun h => ((vc_X2_leastBelow_27_1 h hp3)).elim) (fun _ => ?_)
  refine sv_aload_n (pc := 6) dX2_leastBelow_6 rfl rfl ?_
  refine mr_iload_n (pc := 7) (z := p1) dX2_leastBelow_7 rfl rfl ?_
  refine mr_iload_n (pc := 8) (z := p2) dX2_leastBelow_8 rfl rfl ?_
  refine mr_iload_n (pc := 9) (z := p3) dX2_leastBelow_9 rfl rfl ?_
  refine mr_cVP (pc := 10) (c_X2_isSplit hw hT hp1 hp2 (rW (c := (-2147483648)) (d := 2147483647) hp3 rfl) (vc_X9_end_1 hq0 hp1)) (gOk _ _ _ _ _) dX2_leastBelow_10 (tX2_isSplit _ _ _ _ _) ⟨wV_X2_isSplit, wL_X2_isSplit⟩ wM_X2_106 (gCX2 _ _ _ _ _) rfl (A_87 hw) rfl ⟨le_t rfl, le_t rfl⟩ ⟨le_t rfl, le_t rfl⟩ rfl (le_t rfl) fun z5 h4 => ?_
  refine mr_if_ne (pc := 13) (tgt := 26) dX2_leastBelow_13 (by decide) (r32 h4.1 rfl) (fun h6 => ?_) (fun h6 => ?_)
  · have h7 : 1 ≤ z5 ∧ z5 ≤ 1 := (vc_X12_ring_24 h6 h4.1)
    refine sv_aload_n (pc := 26) dX2_leastBelow_26 rfl rfl ?_
    refine mr_iload_n (pc := 27) (z := p1) dX2_leastBelow_27 rfl rfl ?_
    refine mr_iload_n (pc := 28) (z := p2) dX2_leastBelow_28 rfl rfl ?_
    refine mr_iload_n (pc := 29) (z := p3) dX2_leastBelow_29 rfl rfl ?_
    refine mr_iconst (pc := 30) (z := 1) dX2_leastBelow_30 ?_
    refine mr_iadd (pc := 31) (x := p3) (y := 1) dX2_leastBelow_31 ?_
    refine mr_cVI (pc := 32) (c_X2_leastBelow_28 hw hT hp1 hp2 (rAdd (e := 28) (f := 28) hp3 (rR (x := 1)) rfl) (vc_X9_end_1 hq0 hp1)) (gOk _ _ _ _ _) dX2_leastBelow_32 (tX2_leastBelow _ _ _ _ _) ⟨wV_X2_leastBelow, wL_X2_leastBelow⟩ wM_X2_101 (gCX2 _ _ _ _ _) rfl (A_87 hw) rfl ⟨le_t rfl, le_t rfl⟩ ⟨le_t rfl, le_t rfl⟩ rfl (le_t rfl) fun z12 μ8 T9 F10 h11 => ?_
    refine mr_istore (pc := 35) (lv' := [(4, iv z12), (0, .ref 87), (1, iv p1), (2, iv p2), (3, iv p3)]) dX2_leastBelow_35 (by decide) rfl ?_
    refine sv_aload_n (pc := 37) dX2_leastBelow_37 rfl rfl ?_
    refine mr_iload_n (pc := 38) (z := p1) dX2_leastBelow_38 rfl rfl ?_
    refine mr_iload_n (pc := 39) (z := p2) dX2_leastBelow_39 rfl rfl ?_
    refine mr_iconst (pc := 40) (z := 1) dX2_leastBelow_40 ?_
    refine mr_bipush (pc := 41) (z := 31) dX2_leastBelow_41 (by decide) ?_
    refine mr_iload_n (pc := 43) (z := p3) dX2_leastBelow_43 rfl rfl ?_
    refine mr_isub (pc := 44) (x := 31) (y := p3) dX2_leastBelow_44 ?_
    refine mr_ishl (pc := 45) (x := 1) (y := (31 - p3)) dX2_leastBelow_45 ?_
    refine mr_gen (P := fun z => (-2147483648) ≤ z ∧ z ≤ 2147483647) (r32i _) fun z13 q14 h15 => ?_
    refine mr_ior (pc := 46) (x := p2) (y := z13) dX2_leastBelow_46 ?_
    refine mr_gen (P := fun z => (-2147483648) ≤ z ∧ z ≤ 2147483647) (r32i _) fun z16 q17 h18 => ?_
    refine mr_iload_n (pc := 47) (z := p3) dX2_leastBelow_47 rfl rfl ?_
    refine mr_iconst (pc := 48) (z := 1) dX2_leastBelow_48 ?_
    refine mr_iadd (pc := 49) (x := p3) (y := 1) dX2_leastBelow_49 ?_
    refine mr_cVI (pc := 50) (c_X2_leastBelow_28 hw T9 hp1 h18 (rAdd (e := 28) (f := 28) hp3 (rR (x := 1)) rfl) (vc_X9_end_1 hq0 hp1)) (gOk _ _ _ _ _) dX2_leastBelow_50 (tX2_leastBelow _ _ _ _ _) ⟨wV_X2_leastBelow, wL_X2_leastBelow⟩ wM_X2_101 (gCX2 _ _ _ _ _) rfl (A_87 hw) rfl ⟨le_t rfl, le_t rfl⟩ ⟨le_t rfl, le_t rfl⟩ rfl (le_t rfl) fun z23 μ19 T20 F21 h22 => ?_
    refine mr_istore (pc := 53) (lv' := [(5, iv z23), (4, iv z12), (0, .ref 87), (1, iv p1), (2, iv p2), (3, iv p3)]) dX2_leastBelow_53 (by decide) rfl ?_
    refine mr_iload (pc := 55) (z := z12) dX2_leastBelow_55 rfl ?_
    refine mr_iload (pc := 57) (z := z23) dX2_leastBelow_57 rfl ?_
    refine mr_iand (pc := 59) (x := z12) (y := z23) dX2_leastBelow_59 ?_
    refine mr_gen (P := fun z => (-2147483648) ≤ z ∧ z ≤ 2147483647) (r32i _) fun z24 q25 h26 => ?_
    refine mr_if_eq (pc := 60) (tgt := 69) dX2_leastBelow_60 (by decide) h26 (fun h27 => ?_) (fun h27 => ?_)
    · have h28 : 0 ≤ z24 ∧ z24 ≤ 0 := (vc_X12_mask_1 h27 h26)
      refine sv_aload_n (pc := 69) dX2_leastBelow_69 rfl rfl ?_
      refine sv_dup (pc := 70) dX2_leastBelow_70 rfl ?_
      refine gf_X2_7 (pc := 71) dX2_leastBelow_71 wF_X2_98 (A_87 hw) T20 fun z29 q30 h31 => ?_
      refine mr_iconst (pc := 74) (z := 1) dX2_leastBelow_74 ?_
      refine mr_iadd (pc := 75) (x := z29) (y := 1) dX2_leastBelow_75 ?_
      refine mr_wrap fun z32 h33 => ?_
      refine pf_X2_7 (pc := 76) dX2_leastBelow_76 wF_X2_98 (A_87 hw) T20 h33 fun μ34 u35 T36 => ?_
      refine mr_iload (pc := 79) (z := z12) dX2_leastBelow_79 rfl ?_
      refine mr_iload (pc := 81) (z := z23) dX2_leastBelow_81 rfl ?_
      refine mr_ior (pc := 83) (x := z12) (y := z23) dX2_leastBelow_83 ?_
      refine mr_gen (P := fun z => (-2147483648) ≤ z ∧ z ≤ 2147483647) (r32i _) fun z37 q38 h39 => ?_
      exact mr_iret dX2_leastBelow_84 rfl (le_t rfl) (le_t rfl) T36 (mF.up (mF.call (mF.call mF.refl F10 rfl) F21 rfl) (A_87 hw) u35 rfl) ⟨h39, trivial⟩
    refine mr_iload (pc := 63) (z := z12) dX2_leastBelow_63 rfl ?_
    refine mr_iload (pc := 65) (z := z23) dX2_leastBelow_65 rfl ?_
    refine mr_iand (pc := 67) (x := z12) (y := z23) dX2_leastBelow_67 ?_
    refine mr_gen (P := fun z => (-2147483648) ≤ z ∧ z ≤ 2147483647) (r32i _) fun z40 q41 h42 => ?_
    exact mr_iret dX2_leastBelow_68 rfl (le_t rfl) (le_t rfl) T20 (mF.call (mF.call mF.refl F10 rfl) F21 rfl) ⟨h42, trivial⟩
  have h43 : 0 ≤ z5 ∧ z5 ≤ 0 := (vc_X12_ring_22 h6 h4.1)
  refine sv_aload_n (pc := 16) dX2_leastBelow_16 rfl rfl ?_
  refine mr_iload_n (pc := 17) (z := p1) dX2_leastBelow_17 rfl rfl ?_
  refine mr_iload_n (pc := 18) (z := p2) dX2_leastBelow_18 rfl rfl ?_
  refine mr_cVP (pc := 19) (c_X2_tieFor hw hT hp1 hp2 (vc_X9_end_1 hq0 hp1)) (gOk _ _ _ _ _) dX2_leastBelow_19 (tX2_tieFor _ _ _ _ _) ⟨wV_X2_tieFor, wL_X2_tieFor⟩ wM_X2_60 (gCX2 _ _ _ _ _) rfl (A_87 hw) rfl ⟨le_t rfl, le_t rfl⟩ ⟨le_t rfl, le_t rfl⟩ rfl (le_t rfl) fun z48 h47 => ?_
  refine mr_cSP (pc := 22) (c_X2_aimBit hw hT h47.1) (gOk _ _ _ _ _) dX2_leastBelow_22 (tX2_aimBit _ _ _ _ _) wS_X2_aimBit wM_X2_110 ⟨le_t rfl, le_t rfl⟩ ⟨le_t rfl, le_t rfl⟩ rfl (le_t rfl) fun z53 h52 => ?_
  exact mr_iret dX2_leastBelow_25 rfl (le_t rfl) (le_t rfl) hT mF.refl ⟨h52.1, trivial⟩
theorem vc_X2_leastBelow_26_1 {p3 : Int} (h0 : 32 ≤ p3) (h1 : 26 ≤ p3 ∧ p3 ≤ 26) : False := by omega
set_option maxRecDepth 4000 in
set_option maxHeartbeats 4000000 in
theorem c_X2_leastBelow_26 {l : Launch} {D : va_G} {c : Nat → ClassId} {H0 : Heap} {sa : Nat × Nat × (Nat → Int32)} {w : mW} {μ : mM} (hw : mWF w) (hT : mT w μ) {p1 : Int} (hp1 : 0 ≤ p1 ∧ p1 ≤ 9) {p2 : Int} (hp2 : (-2147483648) ≤ p2 ∧ p2 ≤ 2147483647) {p3 : Int} (hp3 : 26 ≤ p3 ∧ p3 ≤ 26) (hq0 : p1 < w.2.2.2 0) : sC (gG l D c H0 sa) mX2_leastBelow 9 0 0 [.ref 87, iv p1, iv p2, iv p3] (mk w μ) (qI w [87007] μ (fun z μ1 => ((-2147483648) ≤ z ∧ z ≤ 2147483647) ∧ True)) := by
  refine sC.of rfl (by decide) (le_t rfl) ?_
  refine mr_lvE (lv' := [(0, .ref 87), (1, iv p1), (2, iv p2), (3, iv p3)]) rfl ?_
  refine mr_iload_n (pc := 0) (z := p3) dX2_leastBelow_0 rfl rfl ?_
  refine mr_bipush (pc := 1) (z := 32) dX2_leastBelow_1 (by decide) ?_
  refine mr_icmp_ge (pc := 3) (tgt := 16) dX2_leastBelow_3 (by decide) (r32 hp3 rfl) (r32 (rR (x := 32)) rfl) (fun h => ((vc_X2_leastBelow_26_1 h hp3)).elim) (fun _ => ?_)
  refine sv_aload_n (pc := 6) dX2_leastBelow_6 rfl rfl ?_
  refine mr_iload_n (pc := 7) (z := p1) dX2_leastBelow_7 rfl rfl ?_
  refine mr_iload_n (pc := 8) (z := p2) dX2_leastBelow_8 rfl rfl ?_
  refine mr_iload_n (pc := 9) (z := p3) dX2_leastBelow_9 rfl rfl ?_
  refine mr_cVP (pc := 10) (c_X2_isSplit hw hT hp1 hp2 (rW (c := (-2147483648)) (d := 2147483647) hp3 rfl) (vc_X9_end_1 hq0 hp1)) (gOk _ _ _ _ _) dX2_leastBelow_10 (tX2_isSplit _ _ _ _ _) ⟨wV_X2_isSplit, wL_X2_isSplit⟩ wM_X2_106 (gCX2 _ _ _ _ _) rfl (A_87 hw) rfl ⟨le_t rfl, le_t rfl⟩ ⟨le_t rfl, le_t rfl⟩ rfl (le_t rfl) fun z5 h4 => ?_
  refine mr_if_ne (pc := 13) (tgt := 26) dX2_leastBelow_13 (by decide) (r32 h4.1 rfl) (fun h6 => ?_) (fun h6 => ?_)
  · have h7 : 1 ≤ z5 ∧ z5 ≤ 1 := (vc_X12_ring_24 h6 h4.1)
    refine sv_aload_n (pc := 26) dX2_leastBelow_26 rfl rfl ?_
    refine mr_iload_n (pc := 27) (z := p1) dX2_leastBelow_27 rfl rfl ?_
    refine mr_iload_n (pc := 28) (z := p2) dX2_leastBelow_28 rfl rfl ?_
    refine mr_iload_n (pc := 29) (z := p3) dX2_leastBelow_29 rfl rfl ?_
    refine mr_iconst (pc := 30) (z := 1) dX2_leastBelow_30 ?_
    refine mr_iadd (pc := 31) (x := p3) (y := 1) dX2_leastBelow_31 ?_
    refine mr_cVI (pc := 32) (c_X2_leastBelow_27 hw hT hp1 hp2 (rAdd (e := 27) (f := 27) hp3 (rR (x := 1)) rfl) (vc_X9_end_1 hq0 hp1)) (gOk _ _ _ _ _) dX2_leastBelow_32 (tX2_leastBelow _ _ _ _ _) ⟨wV_X2_leastBelow, wL_X2_leastBelow⟩ wM_X2_101 (gCX2 _ _ _ _ _) rfl (A_87 hw) rfl ⟨le_t rfl, le_t rfl⟩ ⟨le_t rfl, le_t rfl⟩ rfl (le_t rfl) fun z12 μ8 T9 F10 h11 => ?_
    refine mr_istore (pc := 35) (lv' := [(4, iv z12), (0, .ref 87), (1, iv p1), (2, iv p2), (3, iv p3)]) dX2_leastBelow_35 (by decide) rfl ?_
    refine sv_aload_n (pc := 37) dX2_leastBelow_37 rfl rfl ?_
    refine mr_iload_n (pc := 38) (z := p1) dX2_leastBelow_38 rfl rfl ?_
    refine mr_iload_n (pc := 39) (z := p2) dX2_leastBelow_39 rfl rfl ?_
    refine mr_iconst (pc := 40) (z := 1) dX2_leastBelow_40 ?_
    refine mr_bipush (pc := 41) (z := 31) dX2_leastBelow_41 (by decide) ?_
    refine mr_iload_n (pc := 43) (z := p3) dX2_leastBelow_43 rfl rfl ?_
    refine mr_isub (pc := 44) (x := 31) (y := p3) dX2_leastBelow_44 ?_
    refine mr_ishl (pc := 45) (x := 1) (y := (31 - p3)) dX2_leastBelow_45 ?_
    refine mr_gen (P := fun z => (-2147483648) ≤ z ∧ z ≤ 2147483647) (r32i _) fun z13 q14 h15 => ?_
    refine mr_ior (pc := 46) (x := p2) (y := z13) dX2_leastBelow_46 ?_
    refine mr_gen (P := fun z => (-2147483648) ≤ z ∧ z ≤ 2147483647) (r32i _) fun z16 q17 h18 => ?_
    refine mr_iload_n (pc := 47) (z := p3) dX2_leastBelow_47 rfl rfl ?_
    refine mr_iconst (pc := 48) (z := 1) dX2_leastBelow_48 ?_
    refine mr_iadd (pc := 49) (x := p3) (y := 1) dX2_leastBelow_49 ?_
    refine mr_cVI (pc := 50) (c_X2_leastBelow_27 hw T9 hp1 h18 (rAdd (e := 27) (f := 27) hp3 (rR (x := 1)) rfl) (vc_X9_end_1 hq0 hp1)) (gOk _ _ _ _ _) dX2_leastBelow_50 (tX2_leastBelow _ _ _ _ _) ⟨wV_X2_leastBelow, wL_X2_leastBelow⟩ wM_X2_101 (gCX2 _ _ _ _ _) rfl (A_87 hw) rfl ⟨le_t rfl, le_t rfl⟩ ⟨le_t rfl, le_t rfl⟩ rfl (le_t rfl) fun z23 μ19 T20 F21 h22 => ?_
    refine mr_istore (pc := 53) (lv' := [(5, iv z23), (4, iv z12), (0, .ref 87), (1, iv p1), (2, iv p2), (3, iv p3)]) dX2_leastBelow_53 (by decide) rfl ?_
    refine mr_iload (pc := 55) (z := z12) dX2_leastBelow_55 rfl ?_
    refine mr_iload (pc := 57) (z := z23) dX2_leastBelow_57 rfl ?_
    refine mr_iand (pc := 59) (x := z12) (y := z23) dX2_leastBelow_59 ?_
    refine mr_gen (P := fun z => (-2147483648) ≤ z ∧ z ≤ 2147483647) (r32i _) fun z24 q25 h26 => ?_
    refine mr_if_eq (pc := 60) (tgt := 69) dX2_leastBelow_60 (by decide) h26 (fun h27 => ?_) (fun h27 => ?_)
    · have h28 : 0 ≤ z24 ∧ z24 ≤ 0 := (vc_X12_mask_1 h27 h26)
      refine sv_aload_n (pc := 69) dX2_leastBelow_69 rfl rfl ?_
      refine sv_dup (pc := 70) dX2_leastBelow_70 rfl ?_
      refine gf_X2_7 (pc := 71) dX2_leastBelow_71 wF_X2_98 (A_87 hw) T20 fun z29 q30 h31 => ?_
      refine mr_iconst (pc := 74) (z := 1) dX2_leastBelow_74 ?_
      refine mr_iadd (pc := 75) (x := z29) (y := 1) dX2_leastBelow_75 ?_
      refine mr_wrap fun z32 h33 => ?_
      refine pf_X2_7 (pc := 76) dX2_leastBelow_76 wF_X2_98 (A_87 hw) T20 h33 fun μ34 u35 T36 => ?_
      refine mr_iload (pc := 79) (z := z12) dX2_leastBelow_79 rfl ?_
      refine mr_iload (pc := 81) (z := z23) dX2_leastBelow_81 rfl ?_
      refine mr_ior (pc := 83) (x := z12) (y := z23) dX2_leastBelow_83 ?_
      refine mr_gen (P := fun z => (-2147483648) ≤ z ∧ z ≤ 2147483647) (r32i _) fun z37 q38 h39 => ?_
      exact mr_iret dX2_leastBelow_84 rfl (le_t rfl) (le_t rfl) T36 (mF.up (mF.call (mF.call mF.refl F10 rfl) F21 rfl) (A_87 hw) u35 rfl) ⟨h39, trivial⟩
    refine mr_iload (pc := 63) (z := z12) dX2_leastBelow_63 rfl ?_
    refine mr_iload (pc := 65) (z := z23) dX2_leastBelow_65 rfl ?_
    refine mr_iand (pc := 67) (x := z12) (y := z23) dX2_leastBelow_67 ?_
    refine mr_gen (P := fun z => (-2147483648) ≤ z ∧ z ≤ 2147483647) (r32i _) fun z40 q41 h42 => ?_
    exact mr_iret dX2_leastBelow_68 rfl (le_t rfl) (le_t rfl) T20 (mF.call (mF.call mF.refl F10 rfl) F21 rfl) ⟨h42, trivial⟩
  have h43 : 0 ≤ z5 ∧ z5 ≤ 0 := (vc_X12_ring_22 h6 h4.1)
  refine sv_aload_n (pc := 16) dX2_leastBelow_16 rfl rfl ?_
  refine mr_iload_n (pc := 17) (z := p1) dX2_leastBelow_17 rfl rfl ?_
  refine mr_iload_n (pc := 18) (z := p2) dX2_leastBelow_18 rfl rfl ?_
  refine mr_cVP (pc := 19) (c_X2_tieFor hw hT hp1 hp2 (vc_X9_end_1 hq0 hp1)) (gOk _ _ _ _ _) dX2_leastBelow_19 (tX2_tieFor _ _ _ _ _) ⟨wV_X2_tieFor, wL_X2_tieFor⟩ wM_X2_60 (gCX2 _ _ _ _ _) rfl (A_87 hw) rfl ⟨le_t rfl, le_t rfl⟩ ⟨le_t rfl, le_t rfl⟩ rfl (le_t rfl) fun z48 h47 => ?_
  refine mr_cSP (pc := 22) (c_X2_aimBit hw hT h47.1) (gOk _ _ _ _ _) dX2_leastBelow_22 (tX2_aimBit _ _ _ _ _) wS_X2_aimBit wM_X2_110 ⟨le_t rfl, le_t rfl⟩ ⟨le_t rfl, le_t rfl⟩ rfl (le_t rfl) fun z53 h52 => ?_
  exact mr_iret dX2_leastBelow_25 rfl (le_t rfl) (le_t rfl) hT mF.refl ⟨h52.1, trivial⟩
end
section
theorem vc_X2_leastBelow_25_1 {p3 : Int} (h0 : 32 ≤ p3) (h1 : 25 ≤ p3 ∧ p3 ≤ 25) : False := by omega
set_option maxRecDepth 4000 in
set_option maxHeartbeats 4000000 in
theorem c_X2_leastBelow_25 {l : Launch} {D : va_G} {c : Nat → ClassId} {H0 : Heap} {sa : Nat × Nat × (Nat → Int32)} {w : mW} {μ : mM} (hw : mWF w) (hT : mT w μ) {p1 : Int} (hp1 : 0 ≤ p1 ∧ p1 ≤ 9) {p2 : Int} (hp2 : (-2147483648) ≤ p2 ∧ p2 ≤ 2147483647) {p3 : Int} (hp3 : 25 ≤ p3 ∧ p3 ≤ 25) (hq0 : p1 < w.2.2.2 0) : sC (gG l D c H0 sa) mX2_leastBelow 10 0 0 [.ref 87, iv p1, iv p2, iv p3] (mk w μ) (qI w [87007] μ (fun z μ1 => ((-2147483648) ≤ z ∧ z ≤ 2147483647) ∧ True)) := by
  refine sC.of rfl (by decide) (le_t rfl) ?_
  refine mr_lvE (lv' := [(0, .ref 87), (1, iv p1), (2, iv p2), (3, iv p3)]) rfl ?_
  refine mr_iload_n (pc := 0) (z := p3) dX2_leastBelow_0 rfl rfl ?_
  refine mr_bipush (pc := 1) (z := 32) dX2_leastBelow_1 (by decide) ?_
  refine mr_icmp_ge (pc := 3) (tgt := 16) dX2_leastBelow_3 (by decide) (r32 hp3 rfl) (r32 (rR (x := 32)) rfl) (fun h => ((vc_X2_leastBelow_25_1 h hp3)).elim) (fun _ => ?_)
  refine sv_aload_n (pc := 6) dX2_leastBelow_6 rfl rfl ?_
  refine mr_iload_n (pc := 7) (z := p1) dX2_leastBelow_7 rfl rfl ?_
  refine mr_iload_n (pc := 8) (z := p2) dX2_leastBelow_8 rfl rfl ?_
  refine mr_iload_n (pc := 9) (z := p3) dX2_leastBelow_9 rfl rfl ?_
  refine mr_cVP (pc := 10) (c_X2_isSplit hw hT hp1 hp2 (rW (c := (-2147483648)) (d := 2147483647) hp3 rfl) (vc_X9_end_1 hq0 hp1)) (gOk _ _ _ _ _) dX2_leastBelow_10 (tX2_isSplit _ _ _ _ _) ⟨wV_X2_isSplit, wL_X2_isSplit⟩ wM_X2_106 (gCX2 _ _ _ _ _) rfl (A_87 hw) rfl ⟨le_t rfl, le_t rfl⟩ ⟨le_t rfl, le_t rfl⟩ rfl (le_t rfl) fun z5 h4 => ?_
  refine mr_if_ne (pc := 13) (tgt := 26) dX2_leastBelow_13 (by decide) (r32 h4.1 rfl) (fun h6 => ?_) (fun h6 => ?_)
  · have h7 : 1 ≤ z5 ∧ z5 ≤ 1 := (vc_X12_ring_24 h6 h4.1)
    refine sv_aload_n (pc := 26) dX2_leastBelow_26 rfl rfl ?_
    refine mr_iload_n (pc := 27) (z := p1) dX2_leastBelow_27 rfl rfl ?_
    refine mr_iload_n (pc := 28) (z := p2) dX2_leastBelow_28 rfl rfl ?_
    refine mr_iload_n (pc := 29) (z := p3) dX2_leastBelow_29 rfl rfl ?_
    refine mr_iconst (pc := 30) (z := 1) dX2_leastBelow_30 ?_
    refine mr_iadd (pc := 31) (x := p3) (y := 1) dX2_leastBelow_31 ?_
    refine mr_cVI (pc := 32) (c_X2_leastBelow_26 hw hT hp1 hp2 (rAdd (e := 26) (f := 26) hp3 (rR (x := 1)) rfl) (vc_X9_end_1 hq0 hp1)) (gOk _ _ _ _ _) dX2_leastBelow_32 (tX2_leastBelow _ _ _ _ _) ⟨wV_X2_leastBelow, wL_X2_leastBelow⟩ wM_X2_101 (gCX2 _ _ _ _ _) rfl (A_87 hw) rfl ⟨le_t rfl, le_t rfl⟩ ⟨le_t rfl, le_t rfl⟩ rfl (le_t rfl) fun z12 μ8 T9 F10 h11 => ?_
    refine mr_istore (pc := 35) (lv' := [(4, iv z12), (0, .ref 87), (1, iv p1), (2, iv p2), (3, iv p3)]) dX2_leastBelow_35 (by decide) rfl ?_
    refine sv_aload_n (pc := 37) dX2_leastBelow_37 rfl rfl ?_
    refine mr_iload_n (pc := 38) (z := p1) dX2_leastBelow_38 rfl rfl ?_
    refine mr_iload_n (pc := 39) (z := p2) dX2_leastBelow_39 rfl rfl ?_
    refine mr_iconst (pc := 40) (z := 1) dX2_leastBelow_40 ?_
    refine mr_bipush (pc := 41) (z := 31) dX2_leastBelow_41 (by decide) ?_
    refine mr_iload_n (pc := 43) (z := p3) dX2_leastBelow_43 rfl rfl ?_
    refine mr_isub (pc := 44) (x := 31) (y := p3) dX2_leastBelow_44 ?_
    refine mr_ishl (pc := 45) (x := 1) (y := (31 - p3)) dX2_leastBelow_45 ?_
    refine mr_gen (P := fun z => (-2147483648) ≤ z ∧ z ≤ 2147483647) (r32i _) fun z13 q14 h15 => ?_
    refine mr_ior (pc := 46) (x := p2) (y := z13) dX2_leastBelow_46 ?_
    refine mr_gen (P := fun z => (-2147483648) ≤ z ∧ z ≤ 2147483647) (r32i _) fun z16 q17 h18 => ?_
    refine mr_iload_n (pc := 47) (z := p3) dX2_leastBelow_47 rfl rfl ?_
    refine mr_iconst (pc := 48) (z := 1) dX2_leastBelow_48 ?_
    refine mr_iadd (pc := 49) (x := p3) (y := 1) dX2_leastBelow_49 ?_
    refine mr_cVI (pc := 50) (c_X2_leastBelow_26 hw T9 hp1 h18 (rAdd (e := 26) (f := 26) hp3 (rR (x := 1)) rfl) (vc_X9_end_1 hq0 hp1)) (gOk _ _ _ _ _) dX2_leastBelow_50 (tX2_leastBelow _ _ _ _ _) ⟨wV_X2_leastBelow, wL_X2_leastBelow⟩ wM_X2_101 (gCX2 _ _ _ _ _) rfl (A_87 hw) rfl ⟨le_t rfl, le_t rfl⟩ ⟨le_t rfl, le_t rfl⟩ rfl (le_t rfl) fun z23 μ19 T20 F21 h22 => ?_
    refine mr_istore (pc := 53) (lv' := [(5, iv z23), (4, iv z12), (0, .ref 87), (1, iv p1), (2, iv p2), (3, iv p3)]) dX2_leastBelow_53 (by decide) rfl ?_
    refine mr_iload (pc := 55) (z := z12) dX2_leastBelow_55 rfl ?_
    refine mr_iload (pc := 57) (z := z23) dX2_leastBelow_57 rfl ?_
    refine mr_iand (pc := 59) (x := z12) (y := z23) dX2_leastBelow_59 ?_
    refine mr_gen (P := fun z => (-2147483648) ≤ z ∧ z ≤ 2147483647) (r32i _) fun z24 q25 h26 => ?_
    refine mr_if_eq (pc := 60) (tgt := 69) dX2_leastBelow_60 (by decide) h26 (fun h27 => ?_) (fun h27 => ?_)
    · have h28 : 0 ≤ z24 ∧ z24 ≤ 0 := (vc_X12_mask_1 h27 h26)
      refine sv_aload_n (pc := 69) dX2_leastBelow_69 rfl rfl ?_
      refine sv_dup (pc := 70) dX2_leastBelow_70 rfl ?_
      refine gf_X2_7 (pc := 71) dX2_leastBelow_71 wF_X2_98 (A_87 hw) T20 fun z29 q30 h31 => ?_
      refine mr_iconst (pc := 74) (z := 1) dX2_leastBelow_74 ?_
      refine mr_iadd (pc := 75) (x := z29) (y := 1) dX2_leastBelow_75 ?_
      refine mr_wrap fun z32 h33 => ?_
      refine pf_X2_7 (pc := 76) dX2_leastBelow_76 wF_X2_98 (A_87 hw) T20 h33 fun μ34 u35 T36 => ?_
      refine mr_iload (pc := 79) (z := z12) dX2_leastBelow_79 rfl ?_
      refine mr_iload (pc := 81) (z := z23) dX2_leastBelow_81 rfl ?_
      refine mr_ior (pc := 83) (x := z12) (y := z23) dX2_leastBelow_83 ?_
      refine mr_gen (P := fun z => (-2147483648) ≤ z ∧ z ≤ 2147483647) (r32i _) fun z37 q38 h39 => ?_
      exact mr_iret dX2_leastBelow_84 rfl (le_t rfl) (le_t rfl) T36 (mF.up (mF.call (mF.call mF.refl F10 rfl) F21 rfl) (A_87 hw) u35 rfl) ⟨h39, trivial⟩
    refine mr_iload (pc := 63) (z := z12) dX2_leastBelow_63 rfl ?_
    refine mr_iload (pc := 65) (z := z23) dX2_leastBelow_65 rfl ?_
    refine mr_iand (pc := 67) (x := z12) (y := z23) dX2_leastBelow_67 ?_
    refine mr_gen (P := fun z => (-2147483648) ≤ z ∧ z ≤ 2147483647) (r32i _) fun z40 q41 h42 => ?_
    exact mr_iret dX2_leastBelow_68 rfl (le_t rfl) (le_t rfl) T20 (mF.call (mF.call mF.refl F10 rfl) F21 rfl) ⟨h42, trivial⟩
  have h43 : 0 ≤ z5 ∧ z5 ≤ 0 := (vc_X12_ring_22 h6 h4.1)
  refine sv_aload_n (pc := 16) dX2_leastBelow_16 rfl rfl ?_
  refine mr_iload_n (pc := 17) (z := p1) dX2_leastBelow_17 rfl rfl ?_
  refine mr_iload_n (pc := 18) (z := p2) dX2_leastBelow_18 rfl rfl ?_
  refine mr_cVP (pc := 19) (c_X2_tieFor hw hT hp1 hp2 (vc_X9_end_1 hq0 hp1)) (gOk _ _ _ _ _) dX2_leastBelow_19 (tX2_tieFor _ _ _ _ _) ⟨wV_X2_tieFor, wL_X2_tieFor⟩ wM_X2_60 (gCX2 _ _ _ _ _) rfl (A_87 hw) rfl ⟨le_t rfl, le_t rfl⟩ ⟨le_t rfl, le_t rfl⟩ rfl (le_t rfl) fun z48 h47 => ?_
  refine mr_cSP (pc := 22) (c_X2_aimBit hw hT h47.1) (gOk _ _ _ _ _) dX2_leastBelow_22 (tX2_aimBit _ _ _ _ _) wS_X2_aimBit wM_X2_110 ⟨le_t rfl, le_t rfl⟩ ⟨le_t rfl, le_t rfl⟩ rfl (le_t rfl) fun z53 h52 => ?_
  exact mr_iret dX2_leastBelow_25 rfl (le_t rfl) (le_t rfl) hT mF.refl ⟨h52.1, trivial⟩
theorem vc_X2_leastBelow_24_1 {p3 : Int} (h0 : 32 ≤ p3) (h1 : 24 ≤ p3 ∧ p3 ≤ 24) : False := by omega
set_option maxRecDepth 4000 in
set_option maxHeartbeats 4000000 in
theorem c_X2_leastBelow_24 {l : Launch} {D : va_G} {c : Nat → ClassId} {H0 : Heap} {sa : Nat × Nat × (Nat → Int32)} {w : mW} {μ : mM} (hw : mWF w) (hT : mT w μ) {p1 : Int} (hp1 : 0 ≤ p1 ∧ p1 ≤ 9) {p2 : Int} (hp2 : (-2147483648) ≤ p2 ∧ p2 ≤ 2147483647) {p3 : Int} (hp3 : 24 ≤ p3 ∧ p3 ≤ 24) (hq0 : p1 < w.2.2.2 0) : sC (gG l D c H0 sa) mX2_leastBelow 11 0 0 [.ref 87, iv p1, iv p2, iv p3] (mk w μ) (qI w [87007] μ (fun z μ1 => ((-2147483648) ≤ z ∧ z ≤ 2147483647) ∧ True)) := by
  refine sC.of rfl (by decide) (le_t rfl) ?_
  refine mr_lvE (lv' := [(0, .ref 87), (1, iv p1), (2, iv p2), (3, iv p3)]) rfl ?_
  refine mr_iload_n (pc := 0) (z := p3) dX2_leastBelow_0 rfl rfl ?_
  refine mr_bipush (pc := 1) (z := 32) dX2_leastBelow_1 (by decide) ?_
  refine mr_icmp_ge (pc := 3) (tgt := 16) dX2_leastBelow_3 (by decide) (r32 hp3 rfl) (r32 (rR (x := 32)) rfl) (fun h => ((vc_X2_leastBelow_24_1 h hp3)).elim) (fun _ => ?_)
  refine sv_aload_n (pc := 6) dX2_leastBelow_6 rfl rfl ?_
  refine mr_iload_n (pc := 7) (z := p1) dX2_leastBelow_7 rfl rfl ?_
  refine mr_iload_n (pc := 8) (z := p2) dX2_leastBelow_8 rfl rfl ?_
  refine mr_iload_n (pc := 9) (z := p3) dX2_leastBelow_9 rfl rfl ?_
  refine mr_cVP (pc := 10) (c_X2_isSplit hw hT hp1 hp2 (rW (c := (-2147483648)) (d := 2147483647) hp3 rfl) (vc_X9_end_1 hq0 hp1)) (gOk _ _ _ _ _) dX2_leastBelow_10 (tX2_isSplit _ _ _ _ _) ⟨wV_X2_isSplit, wL_X2_isSplit⟩ wM_X2_106 (gCX2 _ _ _ _ _) rfl (A_87 hw) rfl ⟨le_t rfl, le_t rfl⟩ ⟨le_t rfl, le_t rfl⟩ rfl (le_t rfl) fun z5 h4 => ?_
  refine mr_if_ne (pc := 13) (tgt := 26) dX2_leastBelow_13 (by decide) (r32 h4.1 rfl) (fun h6 => ?_) (fun h6 => ?_)
  · have h7 : 1 ≤ z5 ∧ z5 ≤ 1 := (vc_X12_ring_24 h6 h4.1)
    refine sv_aload_n (pc := 26) dX2_leastBelow_26 rfl rfl ?_
    refine mr_iload_n (pc := 27) (z := p1) dX2_leastBelow_27 rfl rfl ?_
    refine mr_iload_n (pc := 28) (z := p2) dX2_leastBelow_28 rfl rfl ?_
    refine mr_iload_n (pc := 29) (z := p3) dX2_leastBelow_29 rfl rfl ?_
    refine mr_iconst (pc := 30) (z := 1) dX2_leastBelow_30 ?_
    refine mr_iadd (pc := 31) (x := p3) (y := 1) dX2_leastBelow_31 ?_
    refine mr_cVI (pc := 32) (c_X2_leastBelow_25 hw hT hp1 hp2 (rAdd (e := 25) (f := 25) hp3 (rR (x := 1)) rfl) (vc_X9_end_1 hq0 hp1)) (gOk _ _ _ _ _) dX2_leastBelow_32 (tX2_leastBelow _ _ _ _ _) ⟨wV_X2_leastBelow, wL_X2_leastBelow⟩ wM_X2_101 (gCX2 _ _ _ _ _) rfl (A_87 hw) rfl ⟨le_t rfl, le_t rfl⟩ ⟨le_t rfl, le_t rfl⟩ rfl (le_t rfl) fun z12 μ8 T9 F10 h11 => ?_
    refine mr_istore (pc := 35) (lv' := [(4, iv z12), (0, .ref 87), (1, iv p1), (2, iv p2), (3, iv p3)]) dX2_leastBelow_35 (by decide) rfl ?_
    refine sv_aload_n (pc := 37) dX2_leastBelow_37 rfl rfl ?_
    refine mr_iload_n (pc := 38) (z := p1) dX2_leastBelow_38 rfl rfl ?_
    refine mr_iload_n (pc := 39) (z := p2) dX2_leastBelow_39 rfl rfl ?_
    refine mr_iconst (pc := 40) (z := 1) dX2_leastBelow_40 ?_
    refine mr_bipush (pc := 41) (z := 31) dX2_leastBelow_41 (by decide) ?_
    refine mr_iload_n (pc := 43) (z := p3) dX2_leastBelow_43 rfl rfl ?_
    refine mr_isub (pc := 44) (x := 31) (y := p3) dX2_leastBelow_44 ?_
    refine mr_ishl (pc := 45) (x := 1) (y := (31 - p3)) dX2_leastBelow_45 ?_
    refine mr_gen (P := fun z => (-2147483648) ≤ z ∧ z ≤ 2147483647) (r32i _) fun z13 q14 h15 => ?_
    refine mr_ior (pc := 46) (x := p2) (y := z13) dX2_leastBelow_46 ?_
    refine mr_gen (P := fun z => (-2147483648) ≤ z ∧ z ≤ 2147483647) (r32i _) fun z16 q17 h18 => ?_
    refine mr_iload_n (pc := 47) (z := p3) dX2_leastBelow_47 rfl rfl ?_
    refine mr_iconst (pc := 48) (z := 1) dX2_leastBelow_48 ?_
    refine mr_iadd (pc := 49) (x := p3) (y := 1) dX2_leastBelow_49 ?_
    refine mr_cVI (pc := 50) (c_X2_leastBelow_25 hw T9 hp1 h18 (rAdd (e := 25) (f := 25) hp3 (rR (x := 1)) rfl) (vc_X9_end_1 hq0 hp1)) (gOk _ _ _ _ _) dX2_leastBelow_50 (tX2_leastBelow _ _ _ _ _) ⟨wV_X2_leastBelow, wL_X2_leastBelow⟩ wM_X2_101 (gCX2 _ _ _ _ _) rfl (A_87 hw) rfl ⟨le_t rfl, le_t rfl⟩ ⟨le_t rfl, le_t rfl⟩ rfl (le_t rfl) fun z23 μ19 T20 F21 h22 => ?_
    refine mr_istore (pc := 53) (lv' := [(5, iv z23), (4, iv z12), (0, .ref 87), (1, iv p1), (2, iv p2), (3, iv p3)]) dX2_leastBelow_53 (by decide) rfl ?_
    refine mr_iload (pc := 55) (z := z12) dX2_leastBelow_55 rfl ?_
    refine mr_iload (pc := 57) (z := z23) dX2_leastBelow_57 rfl ?_
    refine mr_iand (pc := 59) (x := z12) (y := z23) dX2_leastBelow_59 ?_
    refine mr_gen (P := fun z => (-2147483648) ≤ z ∧ z ≤ 2147483647) (r32i _) fun z24 q25 h26 => ?_
    refine mr_if_eq (pc := 60) (tgt := 69) dX2_leastBelow_60 (by decide) h26 (fun h27 => ?_) (fun h27 => ?_)
    · have h28 : 0 ≤ z24 ∧ z24 ≤ 0 := (vc_X12_mask_1 h27 h26)
      refine sv_aload_n (pc := 69) dX2_leastBelow_69 rfl rfl ?_
      refine sv_dup (pc := 70) dX2_leastBelow_70 rfl ?_
      refine gf_X2_7 (pc := 71) dX2_leastBelow_71 wF_X2_98 (A_87 hw) T20 fun z29 q30 h31 => ?_
      refine mr_iconst (pc := 74) (z := 1) dX2_leastBelow_74 ?_
      refine mr_iadd (pc := 75) (x := z29) (y := 1) dX2_leastBelow_75 ?_
      refine mr_wrap fun z32 h33 => ?_
      refine pf_X2_7 (pc := 76) dX2_leastBelow_76 wF_X2_98 (A_87 hw) T20 h33 fun μ34 u35 T36 => ?_
      refine mr_iload (pc := 79) (z := z12) dX2_leastBelow_79 rfl ?_
      refine mr_iload (pc := 81) (z := z23) dX2_leastBelow_81 rfl ?_
      refine mr_ior (pc := 83) (x := z12) (y := z23) dX2_leastBelow_83 ?_
      refine mr_gen (P := fun z => (-2147483648) ≤ z ∧ z ≤ 2147483647) (r32i _) fun z37 q38 h39 => ?_
      exact mr_iret dX2_leastBelow_84 rfl (le_t rfl) (le_t rfl) T36 (mF.up (mF.call (mF.call mF.refl F10 rfl) F21 rfl) (A_87 hw) u35 rfl) ⟨h39, trivial⟩
    refine mr_iload (pc := 63) (z := z12) dX2_leastBelow_63 rfl ?_
    refine mr_iload (pc := 65) (z := z23) dX2_leastBelow_65 rfl ?_
    refine mr_iand (pc := 67) (x := z12) (y := z23) dX2_leastBelow_67 ?_
    refine mr_gen (P := fun z => (-2147483648) ≤ z ∧ z ≤ 2147483647) (r32i _) fun z40 q41 h42 => ?_
    exact mr_iret dX2_leastBelow_68 rfl (le_t rfl) (le_t rfl) T20 (mF.call (mF.call mF.refl F10 rfl) F21 rfl) ⟨h42, trivial⟩
  have h43 : 0 ≤ z5 ∧ z5 ≤ 0 := (vc_X12_ring_22 h6 h4.1)
  refine sv_aload_n (pc := 16) dX2_leastBelow_16 rfl rfl ?_
  refine mr_iload_n (pc := 17) (z := p1) dX2_leastBelow_17 rfl rfl ?_
  refine mr_iload_n (pc := 18) (z := p2) dX2_leastBelow_18 rfl rfl ?_
  refine mr_cVP (pc := 19) (c_X2_tieFor hw hT hp1 hp2 (vc_X9_end_1 hq0 hp1)) (gOk _ _ _ _ _) dX2_leastBelow_19 (tX2_tieFor _ _ _ _ _) ⟨wV_X2_tieFor, wL_X2_tieFor⟩ wM_X2_60 (gCX2 _ _ _ _ _) rfl (A_87 hw) rfl ⟨le_t rfl, le_t rfl⟩ ⟨le_t rfl, le_t rfl⟩ rfl (le_t rfl) fun z48 h47 => ?_
  refine mr_cSP (pc := 22) (c_X2_aimBit hw hT h47.1) (gOk _ _ _ _ _) dX2_leastBelow_22 (tX2_aimBit _ _ _ _ _) wS_X2_aimBit wM_X2_110 ⟨le_t rfl, le_t rfl⟩ ⟨le_t rfl, le_t rfl⟩ rfl (le_t rfl) fun z53 h52 => ?_
  exact mr_iret dX2_leastBelow_25 rfl (le_t rfl) (le_t rfl) hT mF.refl ⟨h52.1, trivial⟩
theorem vc_X2_leastBelow_23_1 {p3 : Int} (h0 : 32 ≤ p3) (h1 : 23 ≤ p3 ∧ p3 ≤ 23) : False := by omega
set_option maxRecDepth 4000 in
set_option maxHeartbeats 4000000 in
theorem c_X2_leastBelow_23 {l : Launch} {D : va_G} {c : Nat → ClassId} {H0 : Heap} {sa : Nat × Nat × (Nat → Int32)} {w : mW} {μ : mM} (hw : mWF w) (hT : mT w μ) {p1 : Int} (hp1 : 0 ≤ p1 ∧ p1 ≤ 9) {p2 : Int} (hp2 : (-2147483648) ≤ p2 ∧ p2 ≤ 2147483647) {p3 : Int} (hp3 : 23 ≤ p3 ∧ p3 ≤ 23) (hq0 : p1 < w.2.2.2 0) : sC (gG l D c H0 sa) mX2_leastBelow 12 0 0 [.ref 87, iv p1, iv p2, iv p3] (mk w μ) (qI w [87007] μ (fun z μ1 => ((-2147483648) ≤ z ∧ z ≤ 2147483647) ∧ True)) := by
  refine sC.of rfl (by decide) (le_t rfl) ?_
  refine mr_lvE (lv' := [(0, .ref 87), (1, iv p1), (2, iv p2), (3, iv p3)]) rfl ?_
  refine mr_iload_n (pc := 0) (z := p3) dX2_leastBelow_0 rfl rfl ?_
  refine mr_bipush (pc := 1) (z := 32) dX2_leastBelow_1 (by decide) ?_
  refine mr_icmp_ge (pc := 3) (tgt := 16) dX2_leastBelow_3 (by decide) (r32 hp3 rfl) (r32 (rR (x := 32)) rfl) (fun h => ((vc_X2_leastBelow_23_1 h hp3)).elim) (fun _ => ?_)
  refine sv_aload_n (pc := 6) dX2_leastBelow_6 rfl rfl ?_
  refine mr_iload_n (pc := 7) (z := p1) dX2_leastBelow_7 rfl rfl ?_
  refine mr_iload_n (pc := 8) (z := p2) dX2_leastBelow_8 rfl rfl ?_
  refine mr_iload_n (pc := 9) (z := p3) dX2_leastBelow_9 rfl rfl ?_
  refine mr_cVP (pc := 10) (c_X2_isSplit hw hT hp1 hp2 (rW (c := (-2147483648)) (d := 2147483647) hp3 rfl) (vc_X9_end_1 hq0 hp1)) (gOk _ _ _ _ _) dX2_leastBelow_10 (tX2_isSplit _ _ _ _ _) ⟨wV_X2_isSplit, wL_X2_isSplit⟩ wM_X2_106 (gCX2 _ _ _ _ _) rfl (A_87 hw) rfl ⟨le_t rfl, le_t rfl⟩ ⟨le_t rfl, le_t rfl⟩ rfl (le_t rfl) fun z5 h4 => ?_
  refine mr_if_ne (pc := 13) (tgt := 26) dX2_leastBelow_13 (by decide) (r32 h4.1 rfl) (fun h6 => ?_) (fun h6 => ?_)
  · have h7 : 1 ≤ z5 ∧ z5 ≤ 1 := (vc_X12_ring_24 h6 h4.1)
    refine sv_aload_n (pc := 26) dX2_leastBelow_26 rfl rfl ?_
    refine mr_iload_n (pc := 27) (z := p1) dX2_leastBelow_27 rfl rfl ?_
    refine mr_iload_n (pc := 28) (z := p2) dX2_leastBelow_28 rfl rfl ?_
    refine mr_iload_n (pc := 29) (z := p3) dX2_leastBelow_29 rfl rfl ?_
    refine mr_iconst (pc := 30) (z := 1) dX2_leastBelow_30 ?_
    refine mr_iadd (pc := 31) (x := p3) (y := 1) dX2_leastBelow_31 ?_
    refine mr_cVI (pc := 32) (c_X2_leastBelow_24 hw hT hp1 hp2 (rAdd (e := 24) (f := 24) hp3 (rR (x := 1)) rfl) (vc_X9_end_1 hq0 hp1)) (gOk _ _ _ _ _) dX2_leastBelow_32 (tX2_leastBelow _ _ _ _ _) ⟨wV_X2_leastBelow, wL_X2_leastBelow⟩ wM_X2_101 (gCX2 _ _ _ _ _) rfl (A_87 hw) rfl ⟨le_t rfl, le_t rfl⟩ ⟨le_t rfl, le_t rfl⟩ rfl (le_t rfl) fun z12 μ8 T9 F10 h11 => ?_
    refine mr_istore (pc := 35) (lv' := [(4, iv z12), (0, .ref 87), (1, iv p1), (2, iv p2), (3, iv p3)]) dX2_leastBelow_35 (by decide) rfl ?_
    refine sv_aload_n (pc := 37) dX2_leastBelow_37 rfl rfl ?_
    refine mr_iload_n (pc := 38) (z := p1) dX2_leastBelow_38 rfl rfl ?_
    refine mr_iload_n (pc := 39) (z := p2) dX2_leastBelow_39 rfl rfl ?_
    refine mr_iconst (pc := 40) (z := 1) dX2_leastBelow_40 ?_
    refine mr_bipush (pc := 41) (z := 31) dX2_leastBelow_41 (by decide) ?_
    refine mr_iload_n (pc := 43) (z := p3) dX2_leastBelow_43 rfl rfl ?_
    refine mr_isub (pc := 44) (x := 31) (y := p3) dX2_leastBelow_44 ?_
    refine mr_ishl (pc := 45) (x := 1) (y := (31 - p3)) dX2_leastBelow_45 ?_
    refine mr_gen (P := fun z => (-2147483648) ≤ z ∧ z ≤ 2147483647) (r32i _) fun z13 q14 h15 => ?_
    refine mr_ior (pc := 46) (x := p2) (y := z13) dX2_leastBelow_46 ?_
    refine mr_gen (P := fun z => (-2147483648) ≤ z ∧ z ≤ 2147483647) (r32i _) fun z16 q17 h18 => ?_
    refine mr_iload_n (pc := 47) (z := p3) dX2_leastBelow_47 rfl rfl ?_
    refine mr_iconst (pc := 48) (z := 1) dX2_leastBelow_48 ?_
    refine mr_iadd (pc := 49) (x := p3) (y := 1) dX2_leastBelow_49 ?_
    refine mr_cVI (pc := 50) (c_X2_leastBelow_24 hw T9 hp1 h18 (rAdd (e := 24) (f := 24) hp3 (rR (x := 1)) rfl) (vc_X9_end_1 hq0 hp1)) (gOk _ _ _ _ _) dX2_leastBelow_50 (tX2_leastBelow _ _ _ _ _) ⟨wV_X2_leastBelow, wL_X2_leastBelow⟩ wM_X2_101 (gCX2 _ _ _ _ _) rfl (A_87 hw) rfl ⟨le_t rfl, le_t rfl⟩ ⟨le_t rfl, le_t rfl⟩ rfl (le_t rfl) fun z23 μ19 T20 F21 h22 => ?_
    refine mr_istore (pc := 53) (lv' := [(5, iv z23), (4, iv z12), (0, .ref 87), (1, iv p1), (2, iv p2), (3, iv p3)]) dX2_leastBelow_53 (by decide) rfl ?_
    refine mr_iload (pc := 55) (z := z12) dX2_leastBelow_55 rfl ?_
    refine mr_iload (pc := 57) (z := z23) dX2_leastBelow_57 rfl ?_
    refine mr_iand (pc := 59) (x := z12) (y := z23) dX2_leastBelow_59 ?_
    refine mr_gen (P := fun z => (-2147483648) ≤ z ∧ z ≤ 2147483647) (r32i _) fun z24 q25 h26 => ?_
    refine mr_if_eq (pc := 60) (tgt := 69) dX2_leastBelow_60 (by decide) h26 (fun h27 => ?_) (fun h27 => ?_)
    · have h28 : 0 ≤ z24 ∧ z24 ≤ 0 := (vc_X12_mask_1 h27 h26)
      refine sv_aload_n (pc := 69) dX2_leastBelow_69 rfl rfl ?_
      refine sv_dup (pc := 70) dX2_leastBelow_70 rfl ?_
      refine gf_X2_7 (pc := 71) dX2_leastBelow_71 wF_X2_98 (A_87 hw) T20 fun z29 q30 h31 => ?_
      refine mr_iconst (pc := 74) (z := 1) dX2_leastBelow_74 ?_
      refine mr_iadd (pc := 75) (x := z29) (y := 1) dX2_leastBelow_75 ?_
      refine mr_wrap fun z32 h33 => ?_
      refine pf_X2_7 (pc := 76) dX2_leastBelow_76 wF_X2_98 (A_87 hw) T20 h33 fun μ34 u35 T36 => ?_
      refine mr_iload (pc := 79) (z := z12) dX2_leastBelow_79 rfl ?_
      refine mr_iload (pc := 81) (z := z23) dX2_leastBelow_81 rfl ?_
      refine mr_ior (pc := 83) (x := z12) (y := z23) dX2_leastBelow_83 ?_
      refine mr_gen (P := fun z => (-2147483648) ≤ z ∧ z ≤ 2147483647) (r32i _) fun z37 q38 h39 => ?_
      exact mr_iret dX2_leastBelow_84 rfl (le_t rfl) (le_t rfl) T36 (mF.up (mF.call (mF.call mF.refl F10 rfl) F21 rfl) (A_87 hw) u35 rfl) ⟨h39, trivial⟩
    refine mr_iload (pc := 63) (z := z12) dX2_leastBelow_63 rfl ?_
    refine mr_iload (pc := 65) (z := z23) dX2_leastBelow_65 rfl ?_
    refine mr_iand (pc := 67) (x := z12) (y := z23) dX2_leastBelow_67 ?_
    refine mr_gen (P := fun z => (-2147483648) ≤ z ∧ z ≤ 2147483647) (r32i _) fun z40 q41 h42 => ?_
    exact mr_iret dX2_leastBelow_68 rfl (le_t rfl) (le_t rfl) T20 (mF.call (mF.call mF.refl F10 rfl) F21 rfl) ⟨h42, trivial⟩
  have h43 : 0 ≤ z5 ∧ z5 ≤ 0 := (vc_X12_ring_22 h6 h4.1)
  refine sv_aload_n (pc := 16) dX2_leastBelow_16 rfl rfl ?_
  refine mr_iload_n (pc := 17) (z := p1) dX2_leastBelow_17 rfl rfl ?_
  refine mr_iload_n (pc := 18) (z := p2) dX2_leastBelow_18 rfl rfl ?_
  refine mr_cVP (pc := 19) (c_X2_tieFor hw hT hp1 hp2 (vc_X9_end_1 hq0 hp1)) (gOk _ _ _ _ _) dX2_leastBelow_19 (tX2_tieFor _ _ _ _ _) ⟨wV_X2_tieFor, wL_X2_tieFor⟩ wM_X2_60 (gCX2 _ _ _ _ _) rfl (A_87 hw) rfl ⟨le_t rfl, le_t rfl⟩ ⟨le_t rfl, le_t rfl⟩ rfl (le_t rfl) fun z48 h47 => ?_
  refine mr_cSP (pc := 22) (c_X2_aimBit hw hT h47.1) (gOk _ _ _ _ _) dX2_leastBelow_22 (tX2_aimBit _ _ _ _ _) wS_X2_aimBit wM_X2_110 ⟨le_t rfl, le_t rfl⟩ ⟨le_t rfl, le_t rfl⟩ rfl (le_t rfl) fun z53 h52 => ?_
  exact mr_iret dX2_leastBelow_25 rfl (le_t rfl) (le_t rfl) hT mF.refl ⟨h52.1, trivial⟩
theorem vc_X2_leastBelow_22_1 {p3 : Int} (h0 : 32 ≤ p3) (h1 : 22 ≤ p3 ∧ p3 ≤ 22) : False := by omega
set_option maxRecDepth 4000 in
set_option maxHeartbeats 4000000 in
theorem c_X2_leastBelow_22 {l : Launch} {D : va_G} {c : Nat → ClassId} {H0 : Heap} {sa : Nat × Nat × (Nat → Int32)} {w : mW} {μ : mM} (hw : mWF w) (hT : mT w μ) {p1 : Int} (hp1 : 0 ≤ p1 ∧ p1 ≤ 9) {p2 : Int} (hp2 : (-2147483648) ≤ p2 ∧ p2 ≤ 2147483647) {p3 : Int} (hp3 : 22 ≤ p3 ∧ p3 ≤ 22) (hq0 : p1 < w.2.2.2 0) : sC (gG l D c H0 sa) mX2_leastBelow 13 0 0 [.ref 87, iv p1, iv p2, iv p3] (mk w μ) (qI w [87007] μ (fun z μ1 => ((-2147483648) ≤ z ∧ z ≤ 2147483647) ∧ True)) := by
  refine sC.of rfl (by decide) (le_t rfl) ?_
  refine mr_lvE (lv' := [(0, .ref 87), (1, iv p1), (2, iv p2), (3, iv p3)]) rfl ?_
  refine mr_iload_n (pc := 0) (z := p3) dX2_leastBelow_0 rfl rfl ?_
  refine mr_bipush (pc := 1) (z := 32) dX2_leastBelow_1 (by decide) ?_
  refine mr_icmp_ge (pc := 3) (tgt := 16) dX2_leastBelow_3 (by decide) (r32 hp3 rfl) (r32 (rR (x := 32)) rfl) (fun h => ((vc_X2_leastBelow_22_1 h hp3)).elim) (fun _ => ?_)
  refine sv_aload_n (pc := 6) dX2_leastBelow_6 rfl rfl ?_
  refine mr_iload_n (pc := 7) (z := p1) dX2_leastBelow_7 rfl rfl ?_
  refine mr_iload_n (pc := 8) (z := p2) dX2_leastBelow_8 rfl rfl ?_
  refine mr_iload_n (pc := 9) (z := p3) dX2_leastBelow_9 rfl rfl ?_
  refine mr_cVP (pc := 10) (c_X2_isSplit hw hT hp1 hp2 (rW (c := (-2147483648)) (d := 2147483647) hp3 rfl) (vc_X9_end_1 hq0 hp1)) (gOk _ _ _ _ _) dX2_leastBelow_10 (tX2_isSplit _ _ _ _ _) ⟨wV_X2_isSplit, wL_X2_isSplit⟩ wM_X2_106 (gCX2 _ _ _ _ _) rfl (A_87 hw) rfl ⟨le_t rfl, le_t rfl⟩ ⟨le_t rfl, le_t rfl⟩ rfl (le_t rfl) fun z5 h4 => ?_
  refine mr_if_ne (pc := 13) (tgt := 26) dX2_leastBelow_13 (by decide) (r32 h4.1 rfl) (fun h6 => ?_) (fun h6 => ?_)
  · have h7 : 1 ≤ z5 ∧ z5 ≤ 1 := (vc_X12_ring_24 h6 h4.1)
    refine sv_aload_n (pc := 26) dX2_leastBelow_26 rfl rfl ?_
    refine mr_iload_n (pc := 27) (z := p1) dX2_leastBelow_27 rfl rfl ?_
    refine mr_iload_n (pc := 28) (z := p2) dX2_leastBelow_28 rfl rfl ?_
    refine mr_iload_n (pc := 29) (z := p3) dX2_leastBelow_29 rfl rfl ?_
    refine mr_iconst (pc := 30) (z := 1) dX2_leastBelow_30 ?_
    refine mr_iadd (pc := 31) (x := p3) (y := 1) dX2_leastBelow_31 ?_
    refine mr_cVI (pc := 32) (c_X2_leastBelow_23 hw hT hp1 hp2 (rAdd (e := 23) (f := 23) hp3 (rR (x := 1)) rfl) (vc_X9_end_1 hq0 hp1)) (gOk _ _ _ _ _) dX2_leastBelow_32 (tX2_leastBelow _ _ _ _ _) ⟨wV_X2_leastBelow, wL_X2_leastBelow⟩ wM_X2_101 (gCX2 _ _ _ _ _) rfl (A_87 hw) rfl ⟨le_t rfl, le_t rfl⟩ ⟨le_t rfl, le_t rfl⟩ rfl (le_t rfl) fun z12 μ8 T9 F10 h11 => ?_
    refine mr_istore (pc := 35) (lv' := [(4, iv z12), (0, .ref 87), (1, iv p1), (2, iv p2), (3, iv p3)]) dX2_leastBelow_35 (by decide) rfl ?_
    refine sv_aload_n (pc := 37) dX2_leastBelow_37 rfl rfl ?_
    refine mr_iload_n (pc := 38) (z := p1) dX2_leastBelow_38 rfl rfl ?_
    refine mr_iload_n (pc := 39) (z := p2) dX2_leastBelow_39 rfl rfl ?_
    refine mr_iconst (pc := 40) (z := 1) dX2_leastBelow_40 ?_
    refine mr_bipush (pc := 41) (z := 31) dX2_leastBelow_41 (by decide) ?_
    refine mr_iload_n (pc := 43) (z := p3) dX2_leastBelow_43 rfl rfl ?_
    refine mr_isub (pc := 44) (x := 31) (y := p3) dX2_leastBelow_44 ?_
    refine mr_ishl (pc := 45) (x := 1) (y := (31 - p3)) dX2_leastBelow_45 ?_
    refine mr_gen (P := fun z => (-2147483648) ≤ z ∧ z ≤ 2147483647) (r32i _) fun z13 q14 h15 => ?_
    refine mr_ior (pc := 46) (x := p2) (y := z13) dX2_leastBelow_46 ?_
    refine mr_gen (P := fun z => (-2147483648) ≤ z ∧ z ≤ 2147483647) (r32i _) fun z16 q17 h18 => ?_
    refine mr_iload_n (pc := 47) (z := p3) dX2_leastBelow_47 rfl rfl ?_
    refine mr_iconst (pc := 48) (z := 1) dX2_leastBelow_48 ?_
    refine mr_iadd (pc := 49) (x := p3) (y := 1) dX2_leastBelow_49 ?_
    refine mr_cVI (pc := 50) (c_X2_leastBelow_23 hw T9 hp1 h18 (rAdd (e := 23) (f := 23) hp3 (rR (x := 1)) rfl) (vc_X9_end_1 hq0 hp1)) (gOk _ _ _ _ _) dX2_leastBelow_50 (tX2_leastBelow _ _ _ _ _) ⟨wV_X2_leastBelow, wL_X2_leastBelow⟩ wM_X2_101 (gCX2 _ _ _ _ _) rfl (A_87 hw) rfl ⟨le_t rfl, le_t rfl⟩ ⟨le_t rfl, le_t rfl⟩ rfl (le_t rfl) fun z23 μ19 T20 F21 h22 => ?_
    refine mr_istore (pc := 53) (lv' := [(5, iv z23), (4, iv z12), (0, .ref 87), (1, iv p1), (2, iv p2), (3, iv p3)]) dX2_leastBelow_53 (by decide) rfl ?_
    refine mr_iload (pc := 55) (z := z12) dX2_leastBelow_55 rfl ?_
    refine mr_iload (pc := 57) (z := z23) dX2_leastBelow_57 rfl ?_
    refine mr_iand (pc := 59) (x := z12) (y := z23) dX2_leastBelow_59 ?_
    refine mr_gen (P := fun z => (-2147483648) ≤ z ∧ z ≤ 2147483647) (r32i _) fun z24 q25 h26 => ?_
    refine mr_if_eq (pc := 60) (tgt := 69) dX2_leastBelow_60 (by decide) h26 (fun h27 => ?_) (fun h27 => ?_)
    · have h28 : 0 ≤ z24 ∧ z24 ≤ 0 := (vc_X12_mask_1 h27 h26)
      refine sv_aload_n (pc := 69) dX2_leastBelow_69 rfl rfl ?_
      refine sv_dup (pc := 70) dX2_leastBelow_70 rfl ?_
      refine gf_X2_7 (pc := 71) dX2_leastBelow_71 wF_X2_98 (A_87 hw) T20 fun z29 q30 h31 => ?_
      refine mr_iconst (pc := 74) (z := 1) dX2_leastBelow_74 ?_
      refine mr_iadd (pc := 75) (x := z29) (y := 1) dX2_leastBelow_75 ?_
      refine mr_wrap fun z32 h33 => ?_
      refine pf_X2_7 (pc := 76) dX2_leastBelow_76 wF_X2_98 (A_87 hw) T20 h33 fun μ34 u35 T36 => ?_
      refine mr_iload (pc := 79) (z := z12) dX2_leastBelow_79 rfl ?_
      refine mr_iload (pc := 81) (z := z23) dX2_leastBelow_81 rfl ?_
      refine mr_ior (pc := 83) (x := z12) (y := z23) dX2_leastBelow_83 ?_
      refine mr_gen (P := fun z => (-2147483648) ≤ z ∧ z ≤ 2147483647) (r32i _) fun z37 q38 h39 => ?_
      exact mr_iret dX2_leastBelow_84 rfl (le_t rfl) (le_t rfl) T36 (mF.up (mF.call (mF.call mF.refl F10 rfl) F21 rfl) (A_87 hw) u35 rfl) ⟨h39, trivial⟩
    refine mr_iload (pc := 63) (z := z12) dX2_leastBelow_63 rfl ?_
    refine mr_iload (pc := 65) (z := z23) dX2_leastBelow_65 rfl ?_
    refine mr_iand (pc := 67) (x := z12) (y := z23) dX2_leastBelow_67 ?_
    refine mr_gen (P := fun z => (-2147483648) ≤ z ∧ z ≤ 2147483647) (r32i _) fun z40 q41 h42 => ?_
    exact mr_iret dX2_leastBelow_68 rfl (le_t rfl) (le_t rfl) T20 (mF.call (mF.call mF.refl F10 rfl) F21 rfl) ⟨h42, trivial⟩
  have h43 : 0 ≤ z5 ∧ z5 ≤ 0 := (vc_X12_ring_22 h6 h4.1)
  refine sv_aload_n (pc := 16) dX2_leastBelow_16 rfl rfl ?_
  refine mr_iload_n (pc := 17) (z := p1) dX2_leastBelow_17 rfl rfl ?_
  refine mr_iload_n (pc := 18) (z := p2) dX2_leastBelow_18 rfl rfl ?_
  refine mr_cVP (pc := 19) (c_X2_tieFor hw hT hp1 hp2 (vc_X9_end_1 hq0 hp1)) (gOk _ _ _ _ _) dX2_leastBelow_19 (tX2_tieFor _ _ _ _ _) ⟨wV_X2_tieFor, wL_X2_tieFor⟩ wM_X2_60 (gCX2 _ _ _ _ _) rfl (A_87 hw) rfl ⟨le_t rfl, le_t rfl⟩ ⟨le_t rfl, le_t rfl⟩ rfl (le_t rfl) fun z48 h47 => ?_
  refine mr_cSP (pc := 22) (c_X2_aimBit hw hT h47.1) (gOk _ _ _ _ _) dX2_leastBelow_22 (tX2_aimBit _ _ _ _ _) wS_X2_aimBit wM_X2_110 ⟨le_t rfl, le_t rfl⟩ ⟨le_t rfl, le_t rfl⟩ rfl (le_t rfl) fun z53 h52 => ?_
  exact mr_iret dX2_leastBelow_25 rfl (le_t rfl) (le_t rfl) hT mF.refl ⟨h52.1, trivial⟩
theorem vc_X2_leastBelow_21_1 {p3 : Int} (h0 : 32 ≤ p3) (h1 : 21 ≤ p3 ∧ p3 ≤ 21) : False := by omega
set_option maxRecDepth 4000 in
set_option maxHeartbeats 4000000 in
theorem c_X2_leastBelow_21 {l : Launch} {D : va_G} {c : Nat → ClassId} {H0 : Heap} {sa : Nat × Nat × (Nat → Int32)} {w : mW} {μ : mM} (hw : mWF w) (hT : mT w μ) {p1 : Int} (hp1 : 0 ≤ p1 ∧ p1 ≤ 9) {p2 : Int} (hp2 : (-2147483648) ≤ p2 ∧ p2 ≤ 2147483647) {p3 : Int} (hp3 : 21 ≤ p3 ∧ p3 ≤ 21) (hq0 : p1 < w.2.2.2 0) : sC (gG l D c H0 sa) mX2_leastBelow 14 0 0 [.ref 87, iv p1, iv p2, iv p3] (mk w μ) (qI w [87007] μ (fun z μ1 => ((-2147483648) ≤ z ∧ z ≤ 2147483647) ∧ True)) := by
  refine sC.of rfl (by decide) (le_t rfl) ?_
  refine mr_lvE (lv' := [(0, .ref 87), (1, iv p1), (2, iv p2), (3, iv p3)]) rfl ?_
  refine mr_iload_n (pc := 0) (z := p3) dX2_leastBelow_0 rfl rfl ?_
  refine mr_bipush (pc := 1) (z := 32) dX2_leastBelow_1 (by decide) ?_
  refine mr_icmp_ge (pc := 3) (tgt := 16) dX2_leastBelow_3 (by decide) (r32 hp3 rfl) (r32 (rR (x := 32)) rfl) (fun h => ((vc_X2_leastBelow_21_1 h hp3)).elim) (fun _ => ?_)
  refine sv_aload_n (pc := 6) dX2_leastBelow_6 rfl rfl ?_
  refine mr_iload_n (pc := 7) (z := p1) dX2_leastBelow_7 rfl rfl ?_
  refine mr_iload_n (pc := 8) (z := p2) dX2_leastBelow_8 rfl rfl ?_
  refine mr_iload_n (pc := 9) (z := p3) dX2_leastBelow_9 rfl rfl ?_
  refine mr_cVP (pc := 10) (c_X2_isSplit hw hT hp1 hp2 (rW (c := (-2147483648)) (d := 2147483647) hp3 rfl) (vc_X9_end_1 hq0 hp1)) (gOk _ _ _ _ _) dX2_leastBelow_10 (tX2_isSplit _ _ _ _ _) ⟨wV_X2_isSplit, wL_X2_isSplit⟩ wM_X2_106 (gCX2 _ _ _ _ _) rfl (A_87 hw) rfl ⟨le_t rfl, le_t rfl⟩ ⟨le_t rfl, le_t rfl⟩ rfl (le_t rfl) fun z5 h4 => ?_
  refine mr_if_ne (pc := 13) (tgt := 26) dX2_leastBelow_13 (by decide) (r32 h4.1 rfl) (fun h6 => ?_) (fun h6 => ?_)
  · have h7 : 1 ≤ z5 ∧ z5 ≤ 1 := (vc_X12_ring_24 h6 h4.1)
    refine sv_aload_n (pc := 26) dX2_leastBelow_26 rfl rfl ?_
    refine mr_iload_n (pc := 27) (z := p1) dX2_leastBelow_27 rfl rfl ?_
    refine mr_iload_n (pc := 28) (z := p2) dX2_leastBelow_28 rfl rfl ?_
    refine mr_iload_n (pc := 29) (z := p3) dX2_leastBelow_29 rfl rfl ?_
    refine mr_iconst (pc := 30) (z := 1) dX2_leastBelow_30 ?_
    refine mr_iadd (pc := 31) (x := p3) (y := 1) dX2_leastBelow_31 ?_
    refine mr_cVI (pc := 32) (c_X2_leastBelow_22 hw hT hp1 hp2 (rAdd (e := 22) (f := 22) hp3 (rR (x := 1)) rfl) (vc_X9_end_1 hq0 hp1)) (gOk _ _ _ _ _) dX2_leastBelow_32 (tX2_leastBelow _ _ _ _ _) ⟨wV_X2_leastBelow, wL_X2_leastBelow⟩ wM_X2_101 (gCX2 _ _ _ _ _) rfl (A_87 hw) rfl ⟨le_t rfl, le_t rfl⟩ ⟨le_t rfl, le_t rfl⟩ rfl (le_t rfl) fun z12 μ8 T9 F10 h11 => ?_
    refine mr_istore (pc := 35) (lv' := [(4, iv z12), (0, .ref 87), (1, iv p1), (2, iv p2), (3, iv p3)]) dX2_leastBelow_35 (by decide) rfl ?_
    refine sv_aload_n (pc := 37) dX2_leastBelow_37 rfl rfl ?_
    refine mr_iload_n (pc := 38) (z := p1) dX2_leastBelow_38 rfl rfl ?_
    refine mr_iload_n (pc := 39) (z := p2) dX2_leastBelow_39 rfl rfl ?_
    refine mr_iconst (pc := 40) (z := 1) dX2_leastBelow_40 ?_
    refine mr_bipush (pc := 41) (z := 31) dX2_leastBelow_41 (by decide) ?_
    refine mr_iload_n (pc := 43) (z := p3) dX2_leastBelow_43 rfl rfl ?_
    refine mr_isub (pc := 44) (x := 31) (y := p3) dX2_leastBelow_44 ?_
    refine mr_ishl (pc := 45) (x := 1) (y := (31 - p3)) dX2_leastBelow_45 ?_
    refine mr_gen (P := fun z => (-2147483648) ≤ z ∧ z ≤ 2147483647) (r32i _) fun z13 q14 h15 => ?_
    refine mr_ior (pc := 46) (x := p2) (y := z13) dX2_leastBelow_46 ?_
    refine mr_gen (P := fun z => (-2147483648) ≤ z ∧ z ≤ 2147483647) (r32i _) fun z16 q17 h18 => ?_
    refine mr_iload_n (pc := 47) (z := p3) dX2_leastBelow_47 rfl rfl ?_
    refine mr_iconst (pc := 48) (z := 1) dX2_leastBelow_48 ?_
    refine mr_iadd (pc := 49) (x := p3) (y := 1) dX2_leastBelow_49 ?_
    refine mr_cVI (pc := 50) (c_X2_leastBelow_22 hw T9 hp1 h18 (rAdd (e := 22) (f := 22) hp3 (rR (x := 1)) rfl) (vc_X9_end_1 hq0 hp1)) (gOk _ _ _ _ _) dX2_leastBelow_50 (tX2_leastBelow _ _ _ _ _) ⟨wV_X2_leastBelow, wL_X2_leastBelow⟩ wM_X2_101 (gCX2 _ _ _ _ _) rfl (A_87 hw) rfl ⟨le_t rfl, le_t rfl⟩ ⟨le_t rfl, le_t rfl⟩ rfl (le_t rfl) fun z23 μ19 T20 F21 h22 => ?_
    refine mr_istore (pc := 53) (lv' := [(5, iv z23), (4, iv z12), (0, .ref 87), (1, iv p1), (2, iv p2), (3, iv p3)]) dX2_leastBelow_53 (by decide) rfl ?_
    refine mr_iload (pc := 55) (z := z12) dX2_leastBelow_55 rfl ?_
    refine mr_iload (pc := 57) (z := z23) dX2_leastBelow_57 rfl ?_
    refine mr_iand (pc := 59) (x := z12) (y := z23) dX2_leastBelow_59 ?_
    refine mr_gen (P := fun z => (-2147483648) ≤ z ∧ z ≤ 2147483647) (r32i _) fun z24 q25 h26 => ?_
    refine mr_if_eq (pc := 60) (tgt := 69) dX2_leastBelow_60 (by decide) h26 (fun h27 => ?_) (fun h27 => ?_)
    · have h28 : 0 ≤ z24 ∧ z24 ≤ 0 := (vc_X12_mask_1 h27 h26)
      refine sv_aload_n (pc := 69) dX2_leastBelow_69 rfl rfl ?_
      refine sv_dup (pc := 70) dX2_leastBelow_70 rfl ?_
      refine gf_X2_7 (pc := 71) dX2_leastBelow_71 wF_X2_98 (A_87 hw) T20 fun z29 q30 h31 => ?_
      refine mr_iconst (pc := 74) (z := 1) dX2_leastBelow_74 ?_
      refine mr_iadd (pc := 75) (x := z29) (y := 1) dX2_leastBelow_75 ?_
      refine mr_wrap fun z32 h33 => ?_
      refine pf_X2_7 (pc := 76) dX2_leastBelow_76 wF_X2_98 (A_87 hw) T20 h33 fun μ34 u35 T36 => ?_
      refine mr_iload (pc := 79) (z := z12) dX2_leastBelow_79 rfl ?_
      refine mr_iload (pc := 81) (z := z23) dX2_leastBelow_81 rfl ?_
      refine mr_ior (pc := 83) (x := z12) (y := z23) dX2_leastBelow_83 ?_
      refine mr_gen (P := fun z => (-2147483648) ≤ z ∧ z ≤ 2147483647) (r32i _) fun z37 q38 h39 => ?_
      exact mr_iret dX2_leastBelow_84 rfl (le_t rfl) (le_t rfl) T36 (mF.up (mF.call (mF.call mF.refl F10 rfl) F21 rfl) (A_87 hw) u35 rfl) ⟨h39, trivial⟩
    refine mr_iload (pc := 63) (z := z12) dX2_leastBelow_63 rfl ?_
    refine mr_iload (pc := 65) (z := z23) dX2_leastBelow_65 rfl ?_
    refine mr_iand (pc := 67) (x := z12) (y := z23) dX2_leastBelow_67 ?_
    refine mr_gen (P := fun z => (-2147483648) ≤ z ∧ z ≤ 2147483647) (r32i _) fun z40 q41 h42 => ?_
    exact mr_iret dX2_leastBelow_68 rfl (le_t rfl) (le_t rfl) T20 (mF.call (mF.call mF.refl F10 rfl) F21 rfl) ⟨h42, trivial⟩
  have h43 : 0 ≤ z5 ∧ z5 ≤ 0 := (vc_X12_ring_22 h6 h4.1)
  refine sv_aload_n (pc := 16) dX2_leastBelow_16 rfl rfl ?_
  refine mr_iload_n (pc := 17) (z := p1) dX2_leastBelow_17 rfl rfl ?_
  refine mr_iload_n (pc := 18) (z := p2) dX2_leastBelow_18 rfl rfl ?_
  refine mr_cVP (pc := 19) (c_X2_tieFor hw hT hp1 hp2 (vc_X9_end_1 hq0 hp1)) (gOk _ _ _ _ _) dX2_leastBelow_19 (tX2_tieFor _ _ _ _ _) ⟨wV_X2_tieFor, wL_X2_tieFor⟩ wM_X2_60 (gCX2 _ _ _ _ _) rfl (A_87 hw) rfl ⟨le_t rfl, le_t rfl⟩ ⟨le_t rfl, le_t rfl⟩ rfl (le_t rfl) fun z48 h47 => ?_
  refine mr_cSP (pc := 22) (c_X2_aimBit hw hT h47.1) (gOk _ _ _ _ _) dX2_leastBelow_22 (tX2_aimBit _ _ _ _ _) wS_X2_aimBit wM_X2_110 ⟨le_t rfl, le_t rfl⟩ ⟨le_t rfl, le_t rfl⟩ rfl (le_t rfl) fun z53 h52 => ?_
  exact mr_iret dX2_leastBelow_25 rfl (le_t rfl) (le_t rfl) hT mF.refl ⟨h52.1, trivial⟩
theorem vc_X2_leastBelow_20_1 {p3 : Int} (h0 : 32 ≤ p3) (h1 : 20 ≤ p3 ∧ p3 ≤ 20) : False := by omega
set_option maxRecDepth 4000 in
set_option maxHeartbeats 4000000 in
theorem c_X2_leastBelow_20 {l : Launch} {D : va_G} {c : Nat → ClassId} {H0 : Heap} {sa : Nat × Nat × (Nat → Int32)} {w : mW} {μ : mM} (hw : mWF w) (hT : mT w μ) {p1 : Int} (hp1 : 0 ≤ p1 ∧ p1 ≤ 9) {p2 : Int} (hp2 : (-2147483648) ≤ p2 ∧ p2 ≤ 2147483647) {p3 : Int} (hp3 : 20 ≤ p3 ∧ p3 ≤ 20) (hq0 : p1 < w.2.2.2 0) : sC (gG l D c H0 sa) mX2_leastBelow 15 0 0 [.ref 87, iv p1, iv p2, iv p3] (mk w μ) (qI w [87007] μ (fun z μ1 => ((-2147483648) ≤ z ∧ z ≤ 2147483647) ∧ True)) := by
  refine sC.of rfl (by decide) (le_t rfl) ?_
  refine mr_lvE (lv' := [(0, .ref 87), (1, iv p1), (2, iv p2), (3, iv p3)]) rfl ?_
  refine mr_iload_n (pc := 0) (z := p3) dX2_leastBelow_0 rfl rfl ?_
  refine mr_bipush (pc := 1) (z := 32) dX2_leastBelow_1 (by decide) ?_
  refine mr_icmp_ge (pc := 3) (tgt := 16) dX2_leastBelow_3 (by decide) (r32 hp3 rfl) (r32 (rR (x := 32)) rfl) (fun h => ((vc_X2_leastBelow_20_1 h hp3)).elim) (fun _ => ?_)
  refine sv_aload_n (pc := 6) dX2_leastBelow_6 rfl rfl ?_
  refine mr_iload_n (pc := 7) (z := p1) dX2_leastBelow_7 rfl rfl ?_
  refine mr_iload_n (pc := 8) (z := p2) dX2_leastBelow_8 rfl rfl ?_
  refine mr_iload_n (pc := 9) (z := p3) dX2_leastBelow_9 rfl rfl ?_
  refine mr_cVP (pc := 10) (c_X2_isSplit hw hT hp1 hp2 (rW (c := (-2147483648)) (d := 2147483647) hp3 rfl) (vc_X9_end_1 hq0 hp1)) (gOk _ _ _ _ _) dX2_leastBelow_10 (tX2_isSplit _ _ _ _ _) ⟨wV_X2_isSplit, wL_X2_isSplit⟩ wM_X2_106 (gCX2 _ _ _ _ _) rfl (A_87 hw) rfl ⟨le_t rfl, le_t rfl⟩ ⟨le_t rfl, le_t rfl⟩ rfl (le_t rfl) fun z5 h4 => ?_
  refine mr_if_ne (pc := 13) (tgt := 26) dX2_leastBelow_13 (by decide) (r32 h4.1 rfl) (fun h6 => ?_) (fun h6 => ?_)
  · have h7 : 1 ≤ z5 ∧ z5 ≤ 1 := (vc_X12_ring_24 h6 h4.1)
    refine sv_aload_n (pc := 26) dX2_leastBelow_26 rfl rfl ?_
    refine mr_iload_n (pc := 27) (z := p1) dX2_leastBelow_27 rfl rfl ?_
    refine mr_iload_n (pc := 28) (z := p2) dX2_leastBelow_28 rfl rfl ?_
    refine mr_iload_n (pc := 29) (z := p3) dX2_leastBelow_29 rfl rfl ?_
    refine mr_iconst (pc := 30) (z := 1) dX2_leastBelow_30 ?_
    refine mr_iadd (pc := 31) (x := p3) (y := 1) dX2_leastBelow_31 ?_
    refine mr_cVI (pc := 32) (c_X2_leastBelow_21 hw hT hp1 hp2 (rAdd (e := 21) (f := 21) hp3 (rR (x := 1)) rfl) (vc_X9_end_1 hq0 hp1)) (gOk _ _ _ _ _) dX2_leastBelow_32 (tX2_leastBelow _ _ _ _ _) ⟨wV_X2_leastBelow, wL_X2_leastBelow⟩ wM_X2_101 (gCX2 _ _ _ _ _) rfl (A_87 hw) rfl ⟨le_t rfl, le_t rfl⟩ ⟨le_t rfl, le_t rfl⟩ rfl (le_t rfl) fun z12 μ8 T9 F10 h11 => ?_
    refine mr_istore (pc := 35) (lv' := [(4, iv z12), (0, .ref 87), (1, iv p1), (2, iv p2), (3, iv p3)]) dX2_leastBelow_35 (by decide) rfl ?_
    refine sv_aload_n (pc := 37) dX2_leastBelow_37 rfl rfl ?_
    refine mr_iload_n (pc := 38) (z := p1) dX2_leastBelow_38 rfl rfl ?_
    refine mr_iload_n (pc := 39) (z := p2) dX2_leastBelow_39 rfl rfl ?_
    refine mr_iconst (pc := 40) (z := 1) dX2_leastBelow_40 ?_
    refine mr_bipush (pc := 41) (z := 31) dX2_leastBelow_41 (by decide) ?_
    refine mr_iload_n (pc := 43) (z := p3) dX2_leastBelow_43 rfl rfl ?_
    refine mr_isub (pc := 44) (x := 31) (y := p3) dX2_leastBelow_44 ?_
    refine mr_ishl (pc := 45) (x := 1) (y := (31 - p3)) dX2_leastBelow_45 ?_
    refine mr_gen (P := fun z => (-2147483648) ≤ z ∧ z ≤ 2147483647) (r32i _) fun z13 q14 h15 => ?_
    refine mr_ior (pc := 46) (x := p2) (y := z13) dX2_leastBelow_46 ?_
    refine mr_gen (P := fun z => (-2147483648) ≤ z ∧ z ≤ 2147483647) (r32i _) fun z16 q17 h18 => ?_
    refine mr_iload_n (pc := 47) (z := p3) dX2_leastBelow_47 rfl rfl ?_
    refine mr_iconst (pc := 48) (z := 1) dX2_leastBelow_48 ?_
    refine mr_iadd (pc := 49) (x := p3) (y := 1) dX2_leastBelow_49 ?_
    refine mr_cVI (pc := 50) (c_X2_leastBelow_21 hw T9 hp1 h18 (rAdd (e := 21) (f := 21) hp3 (rR (x := 1)) rfl) (vc_X9_end_1 hq0 hp1)) (gOk _ _ _ _ _) dX2_leastBelow_50 (tX2_leastBelow _ _ _ _ _) ⟨wV_X2_leastBelow, wL_X2_leastBelow⟩ wM_X2_101 (gCX2 _ _ _ _ _) rfl (A_87 hw) rfl ⟨le_t rfl, le_t rfl⟩ ⟨le_t rfl, le_t rfl⟩ rfl (le_t rfl) fun z23 μ19 T20 F21 h22 => ?_
    refine mr_istore (pc := 53) (lv' := [(5, iv z23), (4, iv z12), (0, .ref 87), (1, iv p1), (2, iv p2), (3, iv p3)]) dX2_leastBelow_53 (by decide) rfl ?_
    refine mr_iload (pc := 55) (z := z12) dX2_leastBelow_55 rfl ?_
    refine mr_iload (pc := 57) (z := z23) dX2_leastBelow_57 rfl ?_
    refine mr_iand (pc := 59) (x := z12) (y := z23) dX2_leastBelow_59 ?_
    refine mr_gen (P := fun z => (-2147483648) ≤ z ∧ z ≤ 2147483647) (r32i _) fun z24 q25 h26 => ?_
    refine mr_if_eq (pc := 60) (tgt := 69) dX2_leastBelow_60 (by decide) h26 (fun h27 => ?_) (fun h27 => ?_)
    · have h28 : 0 ≤ z24 ∧ z24 ≤ 0 := (vc_X12_mask_1 h27 h26)
      refine sv_aload_n (pc := 69) dX2_leastBelow_69 rfl rfl ?_
      refine sv_dup (pc := 70) dX2_leastBelow_70 rfl ?_
      refine gf_X2_7 (pc := 71) dX2_leastBelow_71 wF_X2_98 (A_87 hw) T20 fun z29 q30 h31 => ?_
      refine mr_iconst (pc := 74) (z := 1) dX2_leastBelow_74 ?_
      refine mr_iadd (pc := 75) (x := z29) (y := 1) dX2_leastBelow_75 ?_
      refine mr_wrap fun z32 h33 => ?_
      refine pf_X2_7 (pc := 76) dX2_leastBelow_76 wF_X2_98 (A_87 hw) T20 h33 fun μ34 u35 T36 => ?_
      refine mr_iload (pc := 79) (z := z12) dX2_leastBelow_79 rfl ?_
      refine mr_iload (pc := 81) (z := z23) dX2_leastBelow_81 rfl ?_
      refine mr_ior (pc := 83) (x := z12) (y := z23) dX2_leastBelow_83 ?_
      refine mr_gen (P := fun z => (-2147483648) ≤ z ∧ z ≤ 2147483647) (r32i _) fun z37 q38 h39 => ?_
      exact mr_iret dX2_leastBelow_84 rfl (le_t rfl) (le_t rfl) T36 (mF.up (mF.call (mF.call mF.refl F10 rfl) F21 rfl) (A_87 hw) u35 rfl) ⟨h39, trivial⟩
    refine mr_iload (pc := 63) (z := z12) dX2_leastBelow_63 rfl ?_
    refine mr_iload (pc := 65) (z := z23) dX2_leastBelow_65 rfl ?_
    refine mr_iand (pc := 67) (x := z12) (y := z23) dX2_leastBelow_67 ?_
    refine mr_gen (P := fun z => (-2147483648) ≤ z ∧ z ≤ 2147483647) (r32i _) fun z40 q41 h42 => ?_
    exact mr_iret dX2_leastBelow_68 rfl (le_t rfl) (le_t rfl) T20 (mF.call (mF.call mF.refl F10 rfl) F21 rfl) ⟨h42, trivial⟩
  have h43 : 0 ≤ z5 ∧ z5 ≤ 0 := (vc_X12_ring_22 h6 h4.1)
  refine sv_aload_n (pc := 16) dX2_leastBelow_16 rfl rfl ?_
  refine mr_iload_n (pc := 17) (z := p1) dX2_leastBelow_17 rfl rfl ?_
  refine mr_iload_n (pc := 18) (z := p2) dX2_leastBelow_18 rfl rfl ?_
  refine mr_cVP (pc := 19) (c_X2_tieFor hw hT hp1 hp2 (vc_X9_end_1 hq0 hp1)) (gOk _ _ _ _ _) dX2_leastBelow_19 (tX2_tieFor _ _ _ _ _) ⟨wV_X2_tieFor, wL_X2_tieFor⟩ wM_X2_60 (gCX2 _ _ _ _ _) rfl (A_87 hw) rfl ⟨le_t rfl, le_t rfl⟩ ⟨le_t rfl, le_t rfl⟩ rfl (le_t rfl) fun z48 h47 => ?_
  refine mr_cSP (pc := 22) (c_X2_aimBit hw hT h47.1) (gOk _ _ _ _ _) dX2_leastBelow_22 (tX2_aimBit _ _ _ _ _) wS_X2_aimBit wM_X2_110 ⟨le_t rfl, le_t rfl⟩ ⟨le_t rfl, le_t rfl⟩ rfl (le_t rfl) fun z53 h52 => ?_
  exact mr_iret dX2_leastBelow_25 rfl (le_t rfl) (le_t rfl) hT mF.refl ⟨h52.1, trivial⟩
theorem vc_X2_leastBelow_19_1 {p3 : Int} (h0 : 32 ≤ p3) (h1 : 19 ≤ p3 ∧ p3 ≤ 19) : False := by omega
set_option maxRecDepth 4000 in
set_option maxHeartbeats 4000000 in
theorem c_X2_leastBelow_19 {l : Launch} {D : va_G} {c : Nat → ClassId} {H0 : Heap} {sa : Nat × Nat × (Nat → Int32)} {w : mW} {μ : mM} (hw : mWF w) (hT : mT w μ) {p1 : Int} (hp1 : 0 ≤ p1 ∧ p1 ≤ 9) {p2 : Int} (hp2 : (-2147483648) ≤ p2 ∧ p2 ≤ 2147483647) {p3 : Int} (hp3 : 19 ≤ p3 ∧ p3 ≤ 19) (hq0 : p1 < w.2.2.2 0) : sC (gG l D c H0 sa) mX2_leastBelow 16 0 0 [.ref 87, iv p1, iv p2, iv p3] (mk w μ) (qI w [87007] μ (fun z μ1 => ((-2147483648) ≤ z ∧ z ≤ 2147483647) ∧ True)) := by
  refine sC.of rfl (by decide) (le_t rfl) ?_
  refine mr_lvE (lv' := [(0, .ref 87), (1, iv p1), (2, iv p2), (3, iv p3)]) rfl ?_
  refine mr_iload_n (pc := 0) (z := p3) dX2_leastBelow_0 rfl rfl ?_
  refine mr_bipush (pc := 1) (z := 32) dX2_leastBelow_1 (by decide) ?_
  refine mr_icmp_ge (pc := 3) (tgt := 16) dX2_leastBelow_3 (by decide) (r32 hp3 rfl) (r32 (rR (x := 32)) rfl) (fun h => ((vc_X2_leastBelow_19_1 h hp3)).elim) (fun _ => ?_)
  refine sv_aload_n (pc := 6) dX2_leastBelow_6 rfl rfl ?_
  refine mr_iload_n (pc := 7) (z := p1) dX2_leastBelow_7 rfl rfl ?_
  refine mr_iload_n (pc := 8) (z := p2) dX2_leastBelow_8 rfl rfl ?_
  refine mr_iload_n (pc := 9) (z := p3) dX2_leastBelow_9 rfl rfl ?_
  refine mr_cVP (pc := 10) (c_X2_isSplit hw hT hp1 hp2 (rW (c := (-2147483648)) (d := 2147483647) hp3 rfl) (vc_X9_end_1 hq0 hp1)) (gOk _ _ _ _ _) dX2_leastBelow_10 (tX2_isSplit _ _ _ _ _) ⟨wV_X2_isSplit, wL_X2_isSplit⟩ wM_X2_106 (gCX2 _ _ _ _ _) rfl (A_87 hw) rfl ⟨le_t rfl, le_t rfl⟩ ⟨le_t rfl, le_t rfl⟩ rfl (le_t rfl) fun z5 h4 => ?_
  refine mr_if_ne (pc := 13) (tgt := 26) dX2_leastBelow_13 (by decide) (r32 h4.1 rfl) (fun h6 => ?_) (fun h6 => ?_)
  · have h7 : 1 ≤ z5 ∧ z5 ≤ 1 := (vc_X12_ring_24 h6 h4.1)
    refine sv_aload_n (pc := 26) dX2_leastBelow_26 rfl rfl ?_
    refine mr_iload_n (pc := 27) (z := p1) dX2_leastBelow_27 rfl rfl ?_
    refine mr_iload_n (pc := 28) (z := p2) dX2_leastBelow_28 rfl rfl ?_
    refine mr_iload_n (pc := 29) (z := p3) dX2_leastBelow_29 rfl rfl ?_
    refine mr_iconst (pc := 30) (z := 1) dX2_leastBelow_30 ?_
    refine mr_iadd (pc := 31) (x := p3) (y := 1) dX2_leastBelow_31 ?_
    refine mr_cVI (pc := 32) (c_X2_leastBelow_20 hw hT hp1 hp2 (rAdd (e := 20) (f := 20) hp3 (rR (x := 1)) rfl) (vc_X9_end_1 hq0 hp1)) (gOk _ _ _ _ _) dX2_leastBelow_32 (tX2_leastBelow _ _ _ _ _) ⟨wV_X2_leastBelow, wL_X2_leastBelow⟩ wM_X2_101 (gCX2 _ _ _ _ _) rfl (A_87 hw) rfl ⟨le_t rfl, le_t rfl⟩ ⟨le_t rfl, le_t rfl⟩ rfl (le_t rfl) fun z12 μ8 T9 F10 h11 => ?_
    refine mr_istore (pc := 35) (lv' := [(4, iv z12), (0, .ref 87), (1, iv p1), (2, iv p2), (3, iv p3)]) dX2_leastBelow_35 (by decide) rfl ?_
    refine sv_aload_n (pc := 37) dX2_leastBelow_37 rfl rfl ?_
    refine mr_iload_n (pc := 38) (z := p1) dX2_leastBelow_38 rfl rfl ?_
    refine mr_iload_n (pc := 39) (z := p2) dX2_leastBelow_39 rfl rfl ?_
    refine mr_iconst (pc := 40) (z := 1) dX2_leastBelow_40 ?_
    refine mr_bipush (pc := 41) (z := 31) dX2_leastBelow_41 (by decide) ?_
    refine mr_iload_n (pc := 43) (z := p3) dX2_leastBelow_43 rfl rfl ?_
    refine mr_isub (pc := 44) (x := 31) (y := p3) dX2_leastBelow_44 ?_
    refine mr_ishl (pc := 45) (x := 1) (y := (31 - p3)) dX2_leastBelow_45 ?_
    refine mr_gen (P := fun z => (-2147483648) ≤ z ∧ z ≤ 2147483647) (r32i _) fun z13 q14 h15 => ?_
    refine mr_ior (pc := 46) (x := p2) (y := z13) dX2_leastBelow_46 ?_
    refine mr_gen (P := fun z => (-2147483648) ≤ z ∧ z ≤ 2147483647) (r32i _) fun z16 q17 h18 => ?_
    refine mr_iload_n (pc := 47) (z := p3) dX2_leastBelow_47 rfl rfl ?_
    refine mr_iconst (pc := 48) (z := 1) dX2_leastBelow_48 ?_
    refine mr_iadd (pc := 49) (x := p3) (y := 1) dX2_leastBelow_49 ?_
    refine mr_cVI (pc := 50) (c_X2_leastBelow_20 hw T9 hp1 h18 (rAdd (e := 20) (f := 20) hp3 (rR (x := 1)) rfl) (vc_X9_end_1 hq0 hp1)) (gOk _ _ _ _ _) dX2_leastBelow_50 (tX2_leastBelow _ _ _ _ _) ⟨wV_X2_leastBelow, wL_X2_leastBelow⟩ wM_X2_101 (gCX2 _ _ _ _ _) rfl (A_87 hw) rfl ⟨le_t rfl, le_t rfl⟩ ⟨le_t rfl, le_t rfl⟩ rfl (le_t rfl) fun z23 μ19 T20 F21 h22 => ?_
    refine mr_istore (pc := 53) (lv' := [(5, iv z23), (4, iv z12), (0, .ref 87), (1, iv p1), (2, iv p2), (3, iv p3)]) dX2_leastBelow_53 (by decide) rfl ?_
    refine mr_iload (pc := 55) (z := z12) dX2_leastBelow_55 rfl ?_
    refine mr_iload (pc := 57) (z := z23) dX2_leastBelow_57 rfl ?_
    refine mr_iand (pc := 59) (x := z12) (y := z23) dX2_leastBelow_59 ?_
    refine mr_gen (P := fun z => (-2147483648) ≤ z ∧ z ≤ 2147483647) (r32i _) fun z24 q25 h26 => ?_
    refine mr_if_eq (pc := 60) (tgt := 69) dX2_leastBelow_60 (by decide) h26 (fun h27 => ?_) (fun h27 => ?_)
    · have h28 : 0 ≤ z24 ∧ z24 ≤ 0 := (vc_X12_mask_1 h27 h26)
      refine sv_aload_n (pc := 69) dX2_leastBelow_69 rfl rfl ?_
      refine sv_dup (pc := 70) dX2_leastBelow_70 rfl ?_
      refine gf_X2_7 (pc := 71) dX2_leastBelow_71 wF_X2_98 (A_87 hw) T20 fun z29 q30 h31 => ?_
      refine mr_iconst (pc := 74) (z := 1) dX2_leastBelow_74 ?_
      refine mr_iadd (pc := 75) (x := z29) (y := 1) dX2_leastBelow_75 ?_
      refine mr_wrap fun z32 h33 => ?_
      refine pf_X2_7 (pc := 76) dX2_leastBelow_76 wF_X2_98 (A_87 hw) T20 h33 fun μ34 u35 T36 => ?_
      refine mr_iload (pc := 79) (z := z12) dX2_leastBelow_79 rfl ?_
      refine mr_iload (pc := 81) (z := z23) dX2_leastBelow_81 rfl ?_
      refine mr_ior (pc := 83) (x := z12) (y := z23) dX2_leastBelow_83 ?_
      refine mr_gen (P := fun z => (-2147483648) ≤ z ∧ z ≤ 2147483647) (r32i _) fun z37 q38 h39 => ?_
      exact mr_iret dX2_leastBelow_84 rfl (le_t rfl) (le_t rfl) T36 (mF.up (mF.call (mF.call mF.refl F10 rfl) F21 rfl) (A_87 hw) u35 rfl) ⟨h39, trivial⟩
    refine mr_iload (pc := 63) (z := z12) dX2_leastBelow_63 rfl ?_
    refine mr_iload (pc := 65) (z := z23) dX2_leastBelow_65 rfl ?_
    refine mr_iand (pc := 67) (x := z12) (y := z23) dX2_leastBelow_67 ?_
    refine mr_gen (P := fun z => (-2147483648) ≤ z ∧ z ≤ 2147483647) (r32i _) fun z40 q41 h42 => ?_
    exact mr_iret dX2_leastBelow_68 rfl (le_t rfl) (le_t rfl) T20 (mF.call (mF.call mF.refl F10 rfl) F21 rfl) ⟨h42, trivial⟩
  have h43 : 0 ≤ z5 ∧ z5 ≤ 0 := (vc_X12_ring_22 h6 h4.1)
  refine sv_aload_n (pc := 16) dX2_leastBelow_16 rfl rfl ?_
  refine mr_iload_n (pc := 17) (z := p1) dX2_leastBelow_17 rfl rfl ?_
  refine mr_iload_n (pc := 18) (z := p2) dX2_leastBelow_18 rfl rfl ?_
  refine mr_cVP (pc := 19) (c_X2_tieFor hw hT hp1 hp2 (vc_X9_end_1 hq0 hp1)) (gOk _ _ _ _ _) dX2_leastBelow_19 (tX2_tieFor _ _ _ _ _) ⟨wV_X2_tieFor, wL_X2_tieFor⟩ wM_X2_60 (gCX2 _ _ _ _ _) rfl (A_87 hw) rfl ⟨le_t rfl, le_t rfl⟩ ⟨le_t rfl, le_t rfl⟩ rfl (le_t rfl) fun z48 h47 => ?_
  refine mr_cSP (pc := 22) (c_X2_aimBit hw hT h47.1) (gOk _ _ _ _ _) dX2_leastBelow_22 (tX2_aimBit _ _ _ _ _) wS_X2_aimBit wM_X2_110 ⟨le_t rfl, le_t rfl⟩ ⟨le_t rfl, le_t rfl⟩ rfl (le_t rfl) fun z53 h52 => ?_
  exact mr_iret dX2_leastBelow_25 rfl (le_t rfl) (le_t rfl) hT mF.refl ⟨h52.1, trivial⟩
theorem vc_X2_leastBelow_18_1 {p3 : Int} (h0 : 32 ≤ p3) (h1 : 18 ≤ p3 ∧ p3 ≤ 18) : False := by omega
set_option maxRecDepth 4000 in
set_option maxHeartbeats 4000000 in
theorem c_X2_leastBelow_18 {l : Launch} {D : va_G} {c : Nat → ClassId} {H0 : Heap} {sa : Nat × Nat × (Nat → Int32)} {w : mW} {μ : mM} (hw : mWF w) (hT : mT w μ) {p1 : Int} (hp1 : 0 ≤ p1 ∧ p1 ≤ 9) {p2 : Int} (hp2 : (-2147483648) ≤ p2 ∧ p2 ≤ 2147483647) {p3 : Int} (hp3 : 18 ≤ p3 ∧ p3 ≤ 18) (hq0 : p1 < w.2.2.2 0) : sC (gG l D c H0 sa) mX2_leastBelow 17 0 0 [.ref 87, iv p1, iv p2, iv p3] (mk w μ) (qI w [87007] μ (fun z μ1 => ((-2147483648) ≤ z ∧ z ≤ 2147483647) ∧ True)) := by
  refine sC.of rfl (by decide) (le_t rfl) ?_
  refine mr_lvE (lv' := [(0, .ref 87), (1, iv p1), (2, iv p2), (3, iv p3)]) rfl ?_
  refine mr_iload_n (pc := 0) (z := p3) dX2_leastBelow_0 rfl rfl ?_
  refine mr_bipush (pc := 1) (z := 32) dX2_leastBelow_1 (by decide) ?_
  refine mr_icmp_ge (pc := 3) (tgt := 16) dX2_leastBelow_3 (by decide) (r32 hp3 rfl) (r32 (rR (x := 32)) rfl) (fun h => ((vc_X2_leastBelow_18_1 h hp3)).elim) (fun _ => ?_)
  refine sv_aload_n (pc := 6) dX2_leastBelow_6 rfl rfl ?_
  refine mr_iload_n (pc := 7) (z := p1) dX2_leastBelow_7 rfl rfl ?_
  refine mr_iload_n (pc := 8) (z := p2) dX2_leastBelow_8 rfl rfl ?_
  refine mr_iload_n (pc := 9) (z := p3) dX2_leastBelow_9 rfl rfl ?_
  refine mr_cVP (pc := 10) (c_X2_isSplit hw hT hp1 hp2 (rW (c := (-2147483648)) (d := 2147483647) hp3 rfl) (vc_X9_end_1 hq0 hp1)) (gOk _ _ _ _ _) dX2_leastBelow_10 (tX2_isSplit _ _ _ _ _) ⟨wV_X2_isSplit, wL_X2_isSplit⟩ wM_X2_106 (gCX2 _ _ _ _ _) rfl (A_87 hw) rfl ⟨le_t rfl, le_t rfl⟩ ⟨le_t rfl, le_t rfl⟩ rfl (le_t rfl) fun z5 h4 => ?_
  refine mr_if_ne (pc := 13) (tgt := 26) dX2_leastBelow_13 (by decide) (r32 h4.1 rfl) (fun h6 => ?_) (fun h6 => ?_)
  · have h7 : 1 ≤ z5 ∧ z5 ≤ 1 := (vc_X12_ring_24 h6 h4.1)
    refine sv_aload_n (pc := 26) dX2_leastBelow_26 rfl rfl ?_
    refine mr_iload_n (pc := 27) (z := p1) dX2_leastBelow_27 rfl rfl ?_
    refine mr_iload_n (pc := 28) (z := p2) dX2_leastBelow_28 rfl rfl ?_
    refine mr_iload_n (pc := 29) (z := p3) dX2_leastBelow_29 rfl rfl ?_
    refine mr_iconst (pc := 30) (z := 1) dX2_leastBelow_30 ?_
    refine mr_iadd (pc := 31) (x := p3) (y := 1) dX2_leastBelow_31 ?_
    refine mr_cVI (pc := 32) (c_X2_leastBelow_19 hw hT hp1 hp2 (rAdd (e := 19) (f := 19) hp3 (rR (x := 1)) rfl) (vc_X9_end_1 hq0 hp1)) (gOk _ _ _ _ _) dX2_leastBelow_32 (tX2_leastBelow _ _ _ _ _) ⟨wV_X2_leastBelow, wL_X2_leastBelow⟩ wM_X2_101 (gCX2 _ _ _ _ _) rfl (A_87 hw) rfl ⟨le_t rfl, le_t rfl⟩ ⟨le_t rfl, le_t rfl⟩ rfl (le_t rfl) fun z12 μ8 T9 F10 h11 => ?_
    refine mr_istore (pc := 35) (lv' := [(4, iv z12), (0, .ref 87), (1, iv p1), (2, iv p2), (3, iv p3)]) dX2_leastBelow_35 (by decide) rfl ?_
    refine sv_aload_n (pc := 37) dX2_leastBelow_37 rfl rfl ?_
    refine mr_iload_n (pc := 38) (z := p1) dX2_leastBelow_38 rfl rfl ?_
    refine mr_iload_n (pc := 39) (z := p2) dX2_leastBelow_39 rfl rfl ?_
    refine mr_iconst (pc := 40) (z := 1) dX2_leastBelow_40 ?_
    refine mr_bipush (pc := 41) (z := 31) dX2_leastBelow_41 (by decide) ?_
    refine mr_iload_n (pc := 43) (z := p3) dX2_leastBelow_43 rfl rfl ?_
    refine mr_isub (pc := 44) (x := 31) (y := p3) dX2_leastBelow_44 ?_
    refine mr_ishl (pc := 45) (x := 1) (y := (31 - p3)) dX2_leastBelow_45 ?_
    refine mr_gen (P := fun z => (-2147483648) ≤ z ∧ z ≤ 2147483647) (r32i _) fun z13 q14 h15 => ?_
    refine mr_ior (pc := 46) (x := p2) (y := z13) dX2_leastBelow_46 ?_
    refine mr_gen (P := fun z => (-2147483648) ≤ z ∧ z ≤ 2147483647) (r32i _) fun z16 q17 h18 => ?_
    refine mr_iload_n (pc := 47) (z := p3) dX2_leastBelow_47 rfl rfl ?_
    refine mr_iconst (pc := 48) (z := 1) dX2_leastBelow_48 ?_
    refine mr_iadd (pc := 49) (x := p3) (y := 1) dX2_leastBelow_49 ?_
    refine mr_cVI (pc := 50) (c_X2_leastBelow_19 hw T9 hp1 h18 (rAdd (e := 19) (f := 19) hp3 (rR (x := 1)) rfl) (vc_X9_end_1 hq0 hp1)) (gOk _ _ _ _ _) dX2_leastBelow_50 (tX2_leastBelow _ _ _ _ _) ⟨wV_X2_leastBelow, wL_X2_leastBelow⟩ wM_X2_101 (gCX2 _ _ _ _ _) rfl (A_87 hw) rfl ⟨le_t rfl, le_t rfl⟩ ⟨le_t rfl, le_t rfl⟩ rfl (le_t rfl) fun z23 μ19 T20 F21 h22 => ?_
    refine mr_istore (pc := 53) (lv' := [(5, iv z23), (4, iv z12), (0, .ref 87), (1, iv p1), (2, iv p2), (3, iv p3)]) dX2_leastBelow_53 (by decide) rfl ?_
    refine mr_iload (pc := 55) (z := z12) dX2_leastBelow_55 rfl ?_
    refine mr_iload (pc := 57) (z := z23) dX2_leastBelow_57 rfl ?_
    refine mr_iand (pc := 59) (x := z12) (y := z23) dX2_leastBelow_59 ?_
    refine mr_gen (P := fun z => (-2147483648) ≤ z ∧ z ≤ 2147483647) (r32i _) fun z24 q25 h26 => ?_
    refine mr_if_eq (pc := 60) (tgt := 69) dX2_leastBelow_60 (by decide) h26 (fun h27 => ?_) (fun h27 => ?_)
    · have h28 : 0 ≤ z24 ∧ z24 ≤ 0 := (vc_X12_mask_1 h27 h26)
      refine sv_aload_n (pc := 69) dX2_leastBelow_69 rfl rfl ?_
      refine sv_dup (pc := 70) dX2_leastBelow_70 rfl ?_
      refine gf_X2_7 (pc := 71) dX2_leastBelow_71 wF_X2_98 (A_87 hw) T20 fun z29 q30 h31 => ?_
      refine mr_iconst (pc := 74) (z := 1) dX2_leastBelow_74 ?_
      refine mr_iadd (pc := 75) (x := z29) (y := 1) dX2_leastBelow_75 ?_
      refine mr_wrap fun z32 h33 => ?_
      refine pf_X2_7 (pc := 76) dX2_leastBelow_76 wF_X2_98 (A_87 hw) T20 h33 fun μ34 u35 T36 => ?_
      refine mr_iload (pc := 79) (z := z12) dX2_leastBelow_79 rfl ?_
      refine mr_iload (pc := 81) (z := z23) dX2_leastBelow_81 rfl ?_
      refine mr_ior (pc := 83) (x := z12) (y := z23) dX2_leastBelow_83 ?_
      refine mr_gen (P := fun z => (-2147483648) ≤ z ∧ z ≤ 2147483647) (r32i _) fun z37 q38 h39 => ?_
      exact mr_iret dX2_leastBelow_84 rfl (le_t rfl) (le_t rfl) T36 (mF.up (mF.call (mF.call mF.refl F10 rfl) F21 rfl) (A_87 hw) u35 rfl) ⟨h39, trivial⟩
    refine mr_iload (pc := 63) (z := z12) dX2_leastBelow_63 rfl ?_
    refine mr_iload (pc := 65) (z := z23) dX2_leastBelow_65 rfl ?_
    refine mr_iand (pc := 67) (x := z12) (y := z23) dX2_leastBelow_67 ?_
    refine mr_gen (P := fun z => (-2147483648) ≤ z ∧ z ≤ 2147483647) (r32i _) fun z40 q41 h42 => ?_
    exact mr_iret dX2_leastBelow_68 rfl (le_t rfl) (le_t rfl) T20 (mF.call (mF.call mF.refl F10 rfl) F21 rfl) ⟨h42, trivial⟩
  have h43 : 0 ≤ z5 ∧ z5 ≤ 0 := (vc_X12_ring_22 h6 h4.1)
  refine sv_aload_n (pc := 16) dX2_leastBelow_16 rfl rfl ?_
  refine mr_iload_n (pc := 17) (z := p1) dX2_leastBelow_17 rfl rfl ?_
  refine mr_iload_n (pc := 18) (z := p2) dX2_leastBelow_18 rfl rfl ?_
  refine mr_cVP (pc := 19) (c_X2_tieFor hw hT hp1 hp2 (vc_X9_end_1 hq0 hp1)) (gOk _ _ _ _ _) dX2_leastBelow_19 (tX2_tieFor _ _ _ _ _) ⟨wV_X2_tieFor, wL_X2_tieFor⟩ wM_X2_60 (gCX2 _ _ _ _ _) rfl (A_87 hw) rfl ⟨le_t rfl, le_t rfl⟩ ⟨le_t rfl, le_t rfl⟩ rfl (le_t rfl) fun z48 h47 => ?_
  refine mr_cSP (pc := 22) (c_X2_aimBit hw hT h47.1) (gOk _ _ _ _ _) dX2_leastBelow_22 (tX2_aimBit _ _ _ _ _) wS_X2_aimBit wM_X2_110 ⟨le_t rfl, le_t rfl⟩ ⟨le_t rfl, le_t rfl⟩ rfl (le_t rfl) fun z53 h52 => ?_
  exact mr_iret dX2_leastBelow_25 rfl (le_t rfl) (le_t rfl) hT mF.refl ⟨h52.1, trivial⟩
theorem vc_X2_leastBelow_17_1 {p3 : Int} (h0 : 32 ≤ p3) (h1 : 17 ≤ p3 ∧ p3 ≤ 17) : False := by omega
set_option maxRecDepth 4000 in
set_option maxHeartbeats 4000000 in
theorem c_X2_leastBelow_17 {l : Launch} {D : va_G} {c : Nat → ClassId} {H0 : Heap} {sa : Nat × Nat × (Nat → Int32)} {w : mW} {μ : mM} (hw : mWF w) (hT : mT w μ) {p1 : Int} (hp1 : 0 ≤ p1 ∧ p1 ≤ 9) {p2 : Int} (hp2 : (-2147483648) ≤ p2 ∧ p2 ≤ 2147483647) {p3 : Int} (hp3 : 17 ≤ p3 ∧ p3 ≤ 17) (hq0 : p1 < w.2.2.2 0) : sC (gG l D c H0 sa) mX2_leastBelow 18 0 0 [.ref 87, iv p1, iv p2, iv p3] (mk w μ) (qI w [87007] μ (fun z μ1 => ((-2147483648) ≤ z ∧ z ≤ 2147483647) ∧ True)) := by
  refine sC.of rfl (by decide) (le_t rfl) ?_
  refine mr_lvE (lv' := [(0, .ref 87), (1, iv p1), (2, iv p2), (3, iv p3)]) rfl ?_
  refine mr_iload_n (pc := 0) (z := p3) dX2_leastBelow_0 rfl rfl ?_
  refine mr_bipush (pc := 1) (z := 32) dX2_leastBelow_1 (by decide) ?_
  refine mr_icmp_ge (pc := 3) (tgt := 16) dX2_leastBelow_3 (by decide) (r32 hp3 rfl) (r32 (rR (x := 32)) rfl) (fun h => ((vc_X2_leastBelow_17_1 h hp3)).elim) (fun _ => ?_)
  refine sv_aload_n (pc := 6) dX2_leastBelow_6 rfl rfl ?_
  refine mr_iload_n (pc := 7) (z := p1) dX2_leastBelow_7 rfl rfl ?_
  refine mr_iload_n (pc := 8) (z := p2) dX2_leastBelow_8 rfl rfl ?_
  refine mr_iload_n (pc := 9) (z := p3) dX2_leastBelow_9 rfl rfl ?_
  refine mr_cVP (pc := 10) (c_X2_isSplit hw hT hp1 hp2 (rW (c := (-2147483648)) (d := 2147483647) hp3 rfl) (vc_X9_end_1 hq0 hp1)) (gOk _ _ _ _ _) dX2_leastBelow_10 (tX2_isSplit _ _ _ _ _) ⟨wV_X2_isSplit, wL_X2_isSplit⟩ wM_X2_106 (gCX2 _ _ _ _ _) rfl (A_87 hw) rfl ⟨le_t rfl, le_t rfl⟩ ⟨le_t rfl, le_t rfl⟩ rfl (le_t rfl) fun z5 h4 => ?_
  refine mr_if_ne (pc := 13) (tgt := 26) dX2_leastBelow_13 (by decide) (r32 h4.1 rfl) (fun h6 => ?_) (fun h6 => ?_)
  · have h7 : 1 ≤ z5 ∧ z5 ≤ 1 := (vc_X12_ring_24 h6 h4.1)
    refine sv_aload_n (pc := 26) dX2_leastBelow_26 rfl rfl ?_
    refine mr_iload_n (pc := 27) (z := p1) dX2_leastBelow_27 rfl rfl ?_
    refine mr_iload_n (pc := 28) (z := p2) dX2_leastBelow_28 rfl rfl ?_
    refine mr_iload_n (pc := 29) (z := p3) dX2_leastBelow_29 rfl rfl ?_
    refine mr_iconst (pc := 30) (z := 1) dX2_leastBelow_30 ?_
    refine mr_iadd (pc := 31) (x := p3) (y := 1) dX2_leastBelow_31 ?_
    refine mr_cVI (pc := 32) (c_X2_leastBelow_18 hw hT hp1 hp2 (rAdd (e := 18) (f := 18) hp3 (rR (x := 1)) rfl) (vc_X9_end_1 hq0 hp1)) (gOk _ _ _ _ _) dX2_leastBelow_32 (tX2_leastBelow _ _ _ _ _) ⟨wV_X2_leastBelow, wL_X2_leastBelow⟩ wM_X2_101 (gCX2 _ _ _ _ _) rfl (A_87 hw) rfl ⟨le_t rfl, le_t rfl⟩ ⟨le_t rfl, le_t rfl⟩ rfl (le_t rfl) fun z12 μ8 T9 F10 h11 => ?_
    refine mr_istore (pc := 35) (lv' := [(4, iv z12), (0, .ref 87), (1, iv p1), (2, iv p2), (3, iv p3)]) dX2_leastBelow_35 (by decide) rfl ?_
    refine sv_aload_n (pc := 37) dX2_leastBelow_37 rfl rfl ?_
    refine mr_iload_n (pc := 38) (z := p1) dX2_leastBelow_38 rfl rfl ?_
    refine mr_iload_n (pc := 39) (z := p2) dX2_leastBelow_39 rfl rfl ?_
    refine mr_iconst (pc := 40) (z := 1) dX2_leastBelow_40 ?_
    refine mr_bipush (pc := 41) (z := 31) dX2_leastBelow_41 (by decide) ?_
    refine mr_iload_n (pc := 43) (z := p3) dX2_leastBelow_43 rfl rfl ?_
    refine mr_isub (pc := 44) (x := 31) (y := p3) dX2_leastBelow_44 ?_
    refine mr_ishl (pc := 45) (x := 1) (y := (31 - p3)) dX2_leastBelow_45 ?_
    refine mr_gen (P := fun z => (-2147483648) ≤ z ∧ z ≤ 2147483647) (r32i _) fun z13 q14 h15 => ?_
    refine mr_ior (pc := 46) (x := p2) (y := z13) dX2_leastBelow_46 ?_
    refine mr_gen (P := fun z => (-2147483648) ≤ z ∧ z ≤ 2147483647) (r32i _) fun z16 q17 h18 => ?_
    refine mr_iload_n (pc := 47) (z := p3) dX2_leastBelow_47 rfl rfl ?_
    refine mr_iconst (pc := 48) (z := 1) dX2_leastBelow_48 ?_
    refine mr_iadd (pc := 49) (x := p3) (y := 1) dX2_leastBelow_49 ?_
    refine mr_cVI (pc := 50) (c_X2_leastBelow_18 hw T9 hp1 h18 (rAdd (e := 18) (f := 18) hp3 (rR (x := 1)) rfl) (vc_X9_end_1 hq0 hp1)) (gOk _ _ _ _ _) dX2_leastBelow_50 (tX2_leastBelow _ _ _ _ _) ⟨wV_X2_leastBelow, wL_X2_leastBelow⟩ wM_X2_101 (gCX2 _ _ _ _ _) rfl (A_87 hw) rfl ⟨le_t rfl, le_t rfl⟩ ⟨le_t rfl, le_t rfl⟩ rfl (le_t rfl) fun z23 μ19 T20 F21 h22 => ?_
    refine mr_istore (pc := 53) (lv' := [(5, iv z23), (4, iv z12), (0, .ref 87), (1, iv p1), (2, iv p2), (3, iv p3)]) dX2_leastBelow_53 (by decide) rfl ?_
    refine mr_iload (pc := 55) (z := z12) dX2_leastBelow_55 rfl ?_
    refine mr_iload (pc := 57) (z := z23) dX2_leastBelow_57 rfl ?_
    refine mr_iand (pc := 59) (x := z12) (y := z23) dX2_leastBelow_59 ?_
    refine mr_gen (P := fun z => (-2147483648) ≤ z ∧ z ≤ 2147483647) (r32i _) fun z24 q25 h26 => ?_
    refine mr_if_eq (pc := 60) (tgt := 69) dX2_leastBelow_60 (by decide) h26 (fun h27 => ?_) (fun h27 => ?_)
    · have h28 : 0 ≤ z24 ∧ z24 ≤ 0 := (vc_X12_mask_1 h27 h26)
      refine sv_aload_n (pc := 69) dX2_leastBelow_69 rfl rfl ?_
      refine sv_dup (pc := 70) dX2_leastBelow_70 rfl ?_
      refine gf_X2_7 (pc := 71) dX2_leastBelow_71 wF_X2_98 (A_87 hw) T20 fun z29 q30 h31 => ?_
      refine mr_iconst (pc := 74) (z := 1) dX2_leastBelow_74 ?_
      refine mr_iadd (pc := 75) (x := z29) (y := 1) dX2_leastBelow_75 ?_
      refine mr_wrap fun z32 h33 => ?_
      refine pf_X2_7 (pc := 76) dX2_leastBelow_76 wF_X2_98 (A_87 hw) T20 h33 fun μ34 u35 T36 => ?_
      refine mr_iload (pc := 79) (z := z12) dX2_leastBelow_79 rfl ?_
      refine mr_iload (pc := 81) (z := z23) dX2_leastBelow_81 rfl ?_
      refine mr_ior (pc := 83) (x := z12) (y := z23) dX2_leastBelow_83 ?_
      refine mr_gen (P := fun z => (-2147483648) ≤ z ∧ z ≤ 2147483647) (r32i _) fun z37 q38 h39 => ?_
      exact mr_iret dX2_leastBelow_84 rfl (le_t rfl) (le_t rfl) T36 (mF.up (mF.call (mF.call mF.refl F10 rfl) F21 rfl) (A_87 hw) u35 rfl) ⟨h39, trivial⟩
    refine mr_iload (pc := 63) (z := z12) dX2_leastBelow_63 rfl ?_
    refine mr_iload (pc := 65) (z := z23) dX2_leastBelow_65 rfl ?_
    refine mr_iand (pc := 67) (x := z12) (y := z23) dX2_leastBelow_67 ?_
    refine mr_gen (P := fun z => (-2147483648) ≤ z ∧ z ≤ 2147483647) (r32i _) fun z40 q41 h42 => ?_
    exact mr_iret dX2_leastBelow_68 rfl (le_t rfl) (le_t rfl) T20 (mF.call (mF.call mF.refl F10 rfl) F21 rfl) ⟨h42, trivial⟩
  have h43 : 0 ≤ z5 ∧ z5 ≤ 0 := (vc_X12_ring_22 h6 h4.1)
  refine sv_aload_n (pc := 16) dX2_leastBelow_16 rfl rfl ?_
  refine mr_iload_n (pc := 17) (z := p1) dX2_leastBelow_17 rfl rfl ?_
  refine mr_iload_n (pc := 18) (z := p2) dX2_leastBelow_18 rfl rfl ?_
  refine mr_cVP (pc := 19) (c_X2_tieFor hw hT hp1 hp2 (vc_X9_end_1 hq0 hp1)) (gOk _ _ _ _ _) dX2_leastBelow_19 (tX2_tieFor _ _ _ _ _) ⟨wV_X2_tieFor, wL_X2_tieFor⟩ wM_X2_60 (gCX2 _ _ _ _ _) rfl (A_87 hw) rfl ⟨le_t rfl, le_t rfl⟩ ⟨le_t rfl, le_t rfl⟩ rfl (le_t rfl) fun z48 h47 => ?_
  refine mr_cSP (pc := 22) (c_X2_aimBit hw hT h47.1) (gOk _ _ _ _ _) dX2_leastBelow_22 (tX2_aimBit _ _ _ _ _) wS_X2_aimBit wM_X2_110 ⟨le_t rfl, le_t rfl⟩ ⟨le_t rfl, le_t rfl⟩ rfl (le_t rfl) fun z53 h52 => ?_
  exact mr_iret dX2_leastBelow_25 rfl (le_t rfl) (le_t rfl) hT mF.refl ⟨h52.1, trivial⟩
theorem vc_X2_leastBelow_16_1 {p3 : Int} (h0 : 32 ≤ p3) (h1 : 16 ≤ p3 ∧ p3 ≤ 16) : False := by omega
set_option maxRecDepth 4000 in
set_option maxHeartbeats 4000000 in
theorem c_X2_leastBelow_16 {l : Launch} {D : va_G} {c : Nat → ClassId} {H0 : Heap} {sa : Nat × Nat × (Nat → Int32)} {w : mW} {μ : mM} (hw : mWF w) (hT : mT w μ) {p1 : Int} (hp1 : 0 ≤ p1 ∧ p1 ≤ 9) {p2 : Int} (hp2 : (-2147483648) ≤ p2 ∧ p2 ≤ 2147483647) {p3 : Int} (hp3 : 16 ≤ p3 ∧ p3 ≤ 16) (hq0 : p1 < w.2.2.2 0) : sC (gG l D c H0 sa) mX2_leastBelow 19 0 0 [.ref 87, iv p1, iv p2, iv p3] (mk w μ) (qI w [87007] μ (fun z μ1 => ((-2147483648) ≤ z ∧ z ≤ 2147483647) ∧ True)) := by
  refine sC.of rfl (by decide) (le_t rfl) ?_
  refine mr_lvE (lv' := [(0, .ref 87), (1, iv p1), (2, iv p2), (3, iv p3)]) rfl ?_
  refine mr_iload_n (pc := 0) (z := p3) dX2_leastBelow_0 rfl rfl ?_
  refine mr_bipush (pc := 1) (z := 32) dX2_leastBelow_1 (by decide) ?_
  refine mr_icmp_ge (pc := 3) (tgt := 16) dX2_leastBelow_3 (by decide) (r32 hp3 rfl) (r32 (rR (x := 32)) rfl) (fun h => ((vc_X2_leastBelow_16_1 h hp3)).elim) (fun _ => ?_)
  refine sv_aload_n (pc := 6) dX2_leastBelow_6 rfl rfl ?_
  refine mr_iload_n (pc := 7) (z := p1) dX2_leastBelow_7 rfl rfl ?_
  refine mr_iload_n (pc := 8) (z := p2) dX2_leastBelow_8 rfl rfl ?_
  refine mr_iload_n (pc := 9) (z := p3) dX2_leastBelow_9 rfl rfl ?_
  refine mr_cVP (pc := 10) (c_X2_isSplit hw hT hp1 hp2 (rW (c := (-2147483648)) (d := 2147483647) hp3 rfl) (vc_X9_end_1 hq0 hp1)) (gOk _ _ _ _ _) dX2_leastBelow_10 (tX2_isSplit _ _ _ _ _) ⟨wV_X2_isSplit, wL_X2_isSplit⟩ wM_X2_106 (gCX2 _ _ _ _ _) rfl (A_87 hw) rfl ⟨le_t rfl, le_t rfl⟩ ⟨le_t rfl, le_t rfl⟩ rfl (le_t rfl) fun z5 h4 => ?_
  refine mr_if_ne (pc := 13) (tgt := 26) dX2_leastBelow_13 (by decide) (r32 h4.1 rfl) (fun h6 => ?_) (fun h6 => ?_)
  · have h7 : 1 ≤ z5 ∧ z5 ≤ 1 := (vc_X12_ring_24 h6 h4.1)
    refine sv_aload_n (pc := 26) dX2_leastBelow_26 rfl rfl ?_
    refine mr_iload_n (pc := 27) (z := p1) dX2_leastBelow_27 rfl rfl ?_
    refine mr_iload_n (pc := 28) (z := p2) dX2_leastBelow_28 rfl rfl ?_
    refine mr_iload_n (pc := 29) (z := p3) dX2_leastBelow_29 rfl rfl ?_
    refine mr_iconst (pc := 30) (z := 1) dX2_leastBelow_30 ?_
    refine mr_iadd (pc := 31) (x := p3) (y := 1) dX2_leastBelow_31 ?_
    refine mr_cVI (pc := 32) (c_X2_leastBelow_17 hw hT hp1 hp2 (rAdd (e := 17) (f := 17) hp3 (rR (x := 1)) rfl) (vc_X9_end_1 hq0 hp1)) (gOk _ _ _ _ _) dX2_leastBelow_32 (tX2_leastBelow _ _ _ _ _) ⟨wV_X2_leastBelow, wL_X2_leastBelow⟩ wM_X2_101 (gCX2 _ _ _ _ _) rfl (A_87 hw) rfl ⟨le_t rfl, le_t rfl⟩ ⟨le_t rfl, le_t rfl⟩ rfl (le_t rfl) fun z12 μ8 T9 F10 h11 => ?_
    refine mr_istore (pc := 35) (lv' := [(4, iv z12), (0, .ref 87), (1, iv p1), (2, iv p2), (3, iv p3)]) dX2_leastBelow_35 (by decide) rfl ?_
    refine sv_aload_n (pc := 37) dX2_leastBelow_37 rfl rfl ?_
    refine mr_iload_n (pc := 38) (z := p1) dX2_leastBelow_38 rfl rfl ?_
    refine mr_iload_n (pc := 39) (z := p2) dX2_leastBelow_39 rfl rfl ?_
    refine mr_iconst (pc := 40) (z := 1) dX2_leastBelow_40 ?_
    refine mr_bipush (pc := 41) (z := 31) dX2_leastBelow_41 (by decide) ?_
    refine mr_iload_n (pc := 43) (z := p3) dX2_leastBelow_43 rfl rfl ?_
    refine mr_isub (pc := 44) (x := 31) (y := p3) dX2_leastBelow_44 ?_
    refine mr_ishl (pc := 45) (x := 1) (y := (31 - p3)) dX2_leastBelow_45 ?_
    refine mr_gen (P := fun z => (-2147483648) ≤ z ∧ z ≤ 2147483647) (r32i _) fun z13 q14 h15 => ?_
    refine mr_ior (pc := 46) (x := p2) (y := z13) dX2_leastBelow_46 ?_
    refine mr_gen (P := fun z => (-2147483648) ≤ z ∧ z ≤ 2147483647) (r32i _) fun z16 q17 h18 => ?_
    refine mr_iload_n (pc := 47) (z := p3) dX2_leastBelow_47 rfl rfl ?_
    refine mr_iconst (pc := 48) (z := 1) dX2_leastBelow_48 ?_
    refine mr_iadd (pc := 49) (x := p3) (y := 1) dX2_leastBelow_49 ?_
    refine mr_cVI (pc := 50) (c_X2_leastBelow_17 hw T9 hp1 h18 (rAdd (e := 17) (f := 17) hp3 (rR (x := 1)) rfl) (vc_X9_end_1 hq0 hp1)) (gOk _ _ _ _ _) dX2_leastBelow_50 (tX2_leastBelow _ _ _ _ _) ⟨wV_X2_leastBelow, wL_X2_leastBelow⟩ wM_X2_101 (gCX2 _ _ _ _ _) rfl (A_87 hw) rfl ⟨le_t rfl, le_t rfl⟩ ⟨le_t rfl, le_t rfl⟩ rfl (le_t rfl) fun z23 μ19 T20 F21 h22 => ?_
    refine mr_istore (pc := 53) (lv' := [(5, iv z23), (4, iv z12), (0, .ref 87), (1, iv p1), (2, iv p2), (3, iv p3)]) dX2_leastBelow_53 (by decide) rfl ?_
    refine mr_iload (pc := 55) (z := z12) dX2_leastBelow_55 rfl ?_
    refine mr_iload (pc := 57) (z := z23) dX2_leastBelow_57 rfl ?_
    refine mr_iand (pc := 59) (x := z12) (y := z23) dX2_leastBelow_59 ?_
    refine mr_gen (P := fun z => (-2147483648) ≤ z ∧ z ≤ 2147483647) (r32i _) fun z24 q25 h26 => ?_
    refine mr_if_eq (pc := 60) (tgt := 69) dX2_leastBelow_60 (by decide) h26 (fun h27 => ?_) (fun h27 => ?_)
    · have h28 : 0 ≤ z24 ∧ z24 ≤ 0 := (vc_X12_mask_1 h27 h26)
      refine sv_aload_n (pc := 69) dX2_leastBelow_69 rfl rfl ?_
      refine sv_dup (pc := 70) dX2_leastBelow_70 rfl ?_
      refine gf_X2_7 (pc := 71) dX2_leastBelow_71 wF_X2_98 (A_87 hw) T20 fun z29 q30 h31 => ?_
      refine mr_iconst (pc := 74) (z := 1) dX2_leastBelow_74 ?_
      refine mr_iadd (pc := 75) (x := z29) (y := 1) dX2_leastBelow_75 ?_
      refine mr_wrap fun z32 h33 => ?_
      refine pf_X2_7 (pc := 76) dX2_leastBelow_76 wF_X2_98 (A_87 hw) T20 h33 fun μ34 u35 T36 => ?_
      refine mr_iload (pc := 79) (z := z12) dX2_leastBelow_79 rfl ?_
      refine mr_iload (pc := 81) (z := z23) dX2_leastBelow_81 rfl ?_
      refine mr_ior (pc := 83) (x := z12) (y := z23) dX2_leastBelow_83 ?_
      refine mr_gen (P := fun z => (-2147483648) ≤ z ∧ z ≤ 2147483647) (r32i _) fun z37 q38 h39 => ?_
      exact mr_iret dX2_leastBelow_84 rfl (le_t rfl) (le_t rfl) T36 (mF.up (mF.call (mF.call mF.refl F10 rfl) F21 rfl) (A_87 hw) u35 rfl) ⟨h39, trivial⟩
    refine mr_iload (pc := 63) (z := z12) dX2_leastBelow_63 rfl ?_
    refine mr_iload (pc := 65) (z := z23) dX2_leastBelow_65 rfl ?_
    refine mr_iand (pc := 67) (x := z12) (y := z23) dX2_leastBelow_67 ?_
    refine mr_gen (P := fun z => (-2147483648) ≤ z ∧ z ≤ 2147483647) (r32i _) fun z40 q41 h42 => ?_
    exact mr_iret dX2_leastBelow_68 rfl (le_t rfl) (le_t rfl) T20 (mF.call (mF.call mF.refl F10 rfl) F21 rfl) ⟨h42, trivial⟩
  have h43 : 0 ≤ z5 ∧ z5 ≤ 0 := (vc_X12_ring_22 h6 h4.1)
  refine sv_aload_n (pc := 16) dX2_leastBelow_16 rfl rfl ?_
  refine mr_iload_n (pc := 17) (z := p1) dX2_leastBelow_17 rfl rfl ?_
  refine mr_iload_n (pc := 18) (z := p2) dX2_leastBelow_18 rfl rfl ?_
  refine mr_cVP (pc := 19) (c_X2_tieFor hw hT hp1 hp2 (vc_X9_end_1 hq0 hp1)) (gOk _ _ _ _ _) dX2_leastBelow_19 (tX2_tieFor _ _ _ _ _) ⟨wV_X2_tieFor, wL_X2_tieFor⟩ wM_X2_60 (gCX2 _ _ _ _ _) rfl (A_87 hw) rfl ⟨le_t rfl, le_t rfl⟩ ⟨le_t rfl, le_t rfl⟩ rfl (le_t rfl) fun z48 h47 => ?_
  refine mr_cSP (pc := 22) (c_X2_aimBit hw hT h47.1) (gOk _ _ _ _ _) dX2_leastBelow_22 (tX2_aimBit _ _ _ _ _) wS_X2_aimBit wM_X2_110 ⟨le_t rfl, le_t rfl⟩ ⟨le_t rfl, le_t rfl⟩ rfl (le_t rfl) fun z53 h52 => ?_
  exact mr_iret dX2_leastBelow_25 rfl (le_t rfl) (le_t rfl) hT mF.refl ⟨h52.1, trivial⟩
theorem vc_X2_leastBelow_15_1 {p3 : Int} (h0 : 32 ≤ p3) (h1 : 15 ≤ p3 ∧ p3 ≤ 15) : False := by omega
set_option maxRecDepth 4000 in
set_option maxHeartbeats 4000000 in
theorem c_X2_leastBelow_15 {l : Launch} {D : va_G} {c : Nat → ClassId} {H0 : Heap} {sa : Nat × Nat × (Nat → Int32)} {w : mW} {μ : mM} (hw : mWF w) (hT : mT w μ) {p1 : Int} (hp1 : 0 ≤ p1 ∧ p1 ≤ 9) {p2 : Int} (hp2 : (-2147483648) ≤ p2 ∧ p2 ≤ 2147483647) {p3 : Int} (hp3 : 15 ≤ p3 ∧ p3 ≤ 15) (hq0 : p1 < w.2.2.2 0) : sC (gG l D c H0 sa) mX2_leastBelow 20 0 0 [.ref 87, iv p1, iv p2, iv p3] (mk w μ) (qI w [87007] μ (fun z μ1 => ((-2147483648) ≤ z ∧ z ≤ 2147483647) ∧ True)) := by
  refine sC.of rfl (by decide) (le_t rfl) ?_
  refine mr_lvE (lv' := [(0, .ref 87), (1, iv p1), (2, iv p2), (3, iv p3)]) rfl ?_
  refine mr_iload_n (pc := 0) (z := p3) dX2_leastBelow_0 rfl rfl ?_
  refine mr_bipush (pc := 1) (z := 32) dX2_leastBelow_1 (by decide) ?_
  refine mr_icmp_ge (pc := 3) (tgt := 16) dX2_leastBelow_3 (by decide) (r32 hp3 rfl) (r32 (rR (x := 32)) rfl) (fun h => ((vc_X2_leastBelow_15_1 h hp3)).elim) (fun _ => ?_)
  refine sv_aload_n (pc := 6) dX2_leastBelow_6 rfl rfl ?_
  refine mr_iload_n (pc := 7) (z := p1) dX2_leastBelow_7 rfl rfl ?_
  refine mr_iload_n (pc := 8) (z := p2) dX2_leastBelow_8 rfl rfl ?_
  refine mr_iload_n (pc := 9) (z := p3) dX2_leastBelow_9 rfl rfl ?_
  refine mr_cVP (pc := 10) (c_X2_isSplit hw hT hp1 hp2 (rW (c := (-2147483648)) (d := 2147483647) hp3 rfl) (vc_X9_end_1 hq0 hp1)) (gOk _ _ _ _ _) dX2_leastBelow_10 (tX2_isSplit _ _ _ _ _) ⟨wV_X2_isSplit, wL_X2_isSplit⟩ wM_X2_106 (gCX2 _ _ _ _ _) rfl (A_87 hw) rfl ⟨le_t rfl, le_t rfl⟩ ⟨le_t rfl, le_t rfl⟩ rfl (le_t rfl) fun z5 h4 => ?_
  refine mr_if_ne (pc := 13) (tgt := 26) dX2_leastBelow_13 (by decide) (r32 h4.1 rfl) (fun h6 => ?_) (fun h6 => ?_)
  · have h7 : 1 ≤ z5 ∧ z5 ≤ 1 := (vc_X12_ring_24 h6 h4.1)
    refine sv_aload_n (pc := 26) dX2_leastBelow_26 rfl rfl ?_
    refine mr_iload_n (pc := 27) (z := p1) dX2_leastBelow_27 rfl rfl ?_
    refine mr_iload_n (pc := 28) (z := p2) dX2_leastBelow_28 rfl rfl ?_
    refine mr_iload_n (pc := 29) (z := p3) dX2_leastBelow_29 rfl rfl ?_
    refine mr_iconst (pc := 30) (z := 1) dX2_leastBelow_30 ?_
    refine mr_iadd (pc := 31) (x := p3) (y := 1) dX2_leastBelow_31 ?_
    refine mr_cVI (pc := 32) (c_X2_leastBelow_16 hw hT hp1 hp2 (rAdd (e := 16) (f := 16) hp3 (rR (x := 1)) rfl) (vc_X9_end_1 hq0 hp1)) (gOk _ _ _ _ _) dX2_leastBelow_32 (tX2_leastBelow _ _ _ _ _) ⟨wV_X2_leastBelow, wL_X2_leastBelow⟩ wM_X2_101 (gCX2 _ _ _ _ _) rfl (A_87 hw) rfl ⟨le_t rfl, le_t rfl⟩ ⟨le_t rfl, le_t rfl⟩ rfl (le_t rfl) fun z12 μ8 T9 F10 h11 => ?_
    refine mr_istore (pc := 35) (lv' := [(4, iv z12), (0, .ref 87), (1, iv p1), (2, iv p2), (3, iv p3)]) dX2_leastBelow_35 (by decide) rfl ?_
    refine sv_aload_n (pc := 37) dX2_leastBelow_37 rfl rfl ?_
    refine mr_iload_n (pc := 38) (z := p1) dX2_leastBelow_38 rfl rfl ?_
    refine mr_iload_n (pc := 39) (z := p2) dX2_leastBelow_39 rfl rfl ?_
    refine mr_iconst (pc := 40) (z := 1) dX2_leastBelow_40 ?_
    refine mr_bipush (pc := 41) (z := 31) dX2_leastBelow_41 (by decide) ?_
    refine mr_iload_n (pc := 43) (z := p3) dX2_leastBelow_43 rfl rfl ?_
    refine mr_isub (pc := 44) (x := 31) (y := p3) dX2_leastBelow_44 ?_
    refine mr_ishl (pc := 45) (x := 1) (y := (31 - p3)) dX2_leastBelow_45 ?_
    refine mr_gen (P := fun z => (-2147483648) ≤ z ∧ z ≤ 2147483647) (r32i _) fun z13 q14 h15 => ?_
    refine mr_ior (pc := 46) (x := p2) (y := z13) dX2_leastBelow_46 ?_
    refine mr_gen (P := fun z => (-2147483648) ≤ z ∧ z ≤ 2147483647) (r32i _) fun z16 q17 h18 => ?_
    refine mr_iload_n (pc := 47) (z := p3) dX2_leastBelow_47 rfl rfl ?_
    refine mr_iconst (pc := 48) (z := 1) dX2_leastBelow_48 ?_
    refine mr_iadd (pc := 49) (x := p3) (y := 1) dX2_leastBelow_49 ?_
    refine mr_cVI (pc := 50) (c_X2_leastBelow_16 hw T9 hp1 h18 (rAdd (e := 16) (f := 16) hp3 (rR (x := 1)) rfl) (vc_X9_end_1 hq0 hp1)) (gOk _ _ _ _ _) dX2_leastBelow_50 (tX2_leastBelow _ _ _ _ _) ⟨wV_X2_leastBelow, wL_X2_leastBelow⟩ wM_X2_101 (gCX2 _ _ _ _ _) rfl (A_87 hw) rfl ⟨le_t rfl, le_t rfl⟩ ⟨le_t rfl, le_t rfl⟩ rfl (le_t rfl) fun z23 μ19 T20 F21 h22 => ?_
    refine mr_istore (pc := 53) (lv' := [(5, iv z23), (4, iv z12), (0, .ref 87), (1, iv p1), (2, iv p2), (3, iv p3)]) dX2_leastBelow_53 (by decide) rfl ?_
    refine mr_iload (pc := 55) (z := z12) dX2_leastBelow_55 rfl ?_
    refine mr_iload (pc := 57) (z := z23) dX2_leastBelow_57 rfl ?_
    refine mr_iand (pc := 59) (x := z12) (y := z23) dX2_leastBelow_59 ?_
    refine mr_gen (P := fun z => (-2147483648) ≤ z ∧ z ≤ 2147483647) (r32i _) fun z24 q25 h26 => ?_
    refine mr_if_eq (pc := 60) (tgt := 69) dX2_leastBelow_60 (by decide) h26 (fun h27 => ?_) (fun h27 => ?_)
    · have h28 : 0 ≤ z24 ∧ z24 ≤ 0 := (vc_X12_mask_1 h27 h26)
      refine sv_aload_n (pc := 69) dX2_leastBelow_69 rfl rfl ?_
      refine sv_dup (pc := 70) dX2_leastBelow_70 rfl ?_
      refine gf_X2_7 (pc := 71) dX2_leastBelow_71 wF_X2_98 (A_87 hw) T20 fun z29 q30 h31 => ?_
      refine mr_iconst (pc := 74) (z := 1) dX2_leastBelow_74 ?_
      refine mr_iadd (pc := 75) (x := z29) (y := 1) dX2_leastBelow_75 ?_
      refine mr_wrap fun z32 h33 => ?_
      refine pf_X2_7 (pc := 76) dX2_leastBelow_76 wF_X2_98 (A_87 hw) T20 h33 fun μ34 u35 T36 => ?_
      refine mr_iload (pc := 79) (z := z12) dX2_leastBelow_79 rfl ?_
      refine mr_iload (pc := 81) (z := z23) dX2_leastBelow_81 rfl ?_
      refine mr_ior (pc := 83) (x := z12) (y := z23) dX2_leastBelow_83 ?_
      refine mr_gen (P := fun z => (-2147483648) ≤ z ∧ z ≤ 2147483647) (r32i _) fun z37 q38 h39 => ?_
      exact mr_iret dX2_leastBelow_84 rfl (le_t rfl) (le_t rfl) T36 (mF.up (mF.call (mF.call mF.refl F10 rfl) F21 rfl) (A_87 hw) u35 rfl) ⟨h39, trivial⟩
    refine mr_iload (pc := 63) (z := z12) dX2_leastBelow_63 rfl ?_
    refine mr_iload (pc := 65) (z := z23) dX2_leastBelow_65 rfl ?_
    refine mr_iand (pc := 67) (x := z12) (y := z23) dX2_leastBelow_67 ?_
    refine mr_gen (P := fun z => (-2147483648) ≤ z ∧ z ≤ 2147483647) (r32i _) fun z40 q41 h42 => ?_
    exact mr_iret dX2_leastBelow_68 rfl (le_t rfl) (le_t rfl) T20 (mF.call (mF.call mF.refl F10 rfl) F21 rfl) ⟨h42, trivial⟩
  have h43 : 0 ≤ z5 ∧ z5 ≤ 0 := (vc_X12_ring_22 h6 h4.1)
  refine sv_aload_n (pc := 16) dX2_leastBelow_16 rfl rfl ?_
  refine mr_iload_n (pc := 17) (z := p1) dX2_leastBelow_17 rfl rfl ?_
  refine mr_iload_n (pc := 18) (z := p2) dX2_leastBelow_18 rfl rfl ?_
  refine mr_cVP (pc := 19) (c_X2_tieFor hw hT hp1 hp2 (vc_X9_end_1 hq0 hp1)) (gOk _ _ _ _ _) dX2_leastBelow_19 (tX2_tieFor _ _ _ _ _) ⟨wV_X2_tieFor, wL_X2_tieFor⟩ wM_X2_60 (gCX2 _ _ _ _ _) rfl (A_87 hw) rfl ⟨le_t rfl, le_t rfl⟩ ⟨le_t rfl, le_t rfl⟩ rfl (le_t rfl) fun z48 h47 => ?_
  refine mr_cSP (pc := 22) (c_X2_aimBit hw hT h47.1) (gOk _ _ _ _ _) dX2_leastBelow_22 (tX2_aimBit _ _ _ _ _) wS_X2_aimBit wM_X2_110 ⟨le_t rfl, le_t rfl⟩ ⟨le_t rfl, le_t rfl⟩ rfl (le_t rfl) fun z53 h52 => ?_
  exact mr_iret dX2_leastBelow_25 rfl (le_t rfl) (le_t rfl) hT mF.refl ⟨h52.1, trivial⟩
theorem vc_X2_leastBelow_14_1 {p3 : Int} (h0 : 32 ≤ p3) (h1 : 14 ≤ p3 ∧ p3 ≤ 14) : False := by omega
set_option maxRecDepth 4000 in
set_option maxHeartbeats 4000000 in
theorem c_X2_leastBelow_14 {l : Launch} {D : va_G} {c : Nat → ClassId} {H0 : Heap} {sa : Nat × Nat × (Nat → Int32)} {w : mW} {μ : mM} (hw : mWF w) (hT : mT w μ) {p1 : Int} (hp1 : 0 ≤ p1 ∧ p1 ≤ 9) {p2 : Int} (hp2 : (-2147483648) ≤ p2 ∧ p2 ≤ 2147483647) {p3 : Int} (hp3 : 14 ≤ p3 ∧ p3 ≤ 14) (hq0 : p1 < w.2.2.2 0) : sC (gG l D c H0 sa) mX2_leastBelow 21 0 0 [.ref 87, iv p1, iv p2, iv p3] (mk w μ) (qI w [87007] μ (fun z μ1 => ((-2147483648) ≤ z ∧ z ≤ 2147483647) ∧ True)) := by
  refine sC.of rfl (by decide) (le_t rfl) ?_
  refine mr_lvE (lv' := [(0, .ref 87), (1, iv p1), (2, iv p2), (3, iv p3)]) rfl ?_
  refine mr_iload_n (pc := 0) (z := p3) dX2_leastBelow_0 rfl rfl ?_
  refine mr_bipush (pc := 1) (z := 32) dX2_leastBelow_1 (by decide) ?_
  refine mr_icmp_ge (pc := 3) (tgt := 16) dX2_leastBelow_3 (by decide) (r32 hp3 rfl) (r32 (rR (x := 32)) rfl) (fun h => ((vc_X2_leastBelow_14_1 h hp3)).elim) (fun _ => ?_)
  refine sv_aload_n (pc := 6) dX2_leastBelow_6 rfl rfl ?_
  refine mr_iload_n (pc := 7) (z := p1) dX2_leastBelow_7 rfl rfl ?_
  refine mr_iload_n (pc := 8) (z := p2) dX2_leastBelow_8 rfl rfl ?_
  refine mr_iload_n (pc := 9) (z := p3) dX2_leastBelow_9 rfl rfl ?_
  refine mr_cVP (pc := 10) (c_X2_isSplit hw hT hp1 hp2 (rW (c := (-2147483648)) (d := 2147483647) hp3 rfl) (vc_X9_end_1 hq0 hp1)) (gOk _ _ _ _ _) dX2_leastBelow_10 (tX2_isSplit _ _ _ _ _) ⟨wV_X2_isSplit, wL_X2_isSplit⟩ wM_X2_106 (gCX2 _ _ _ _ _) rfl (A_87 hw) rfl ⟨le_t rfl, le_t rfl⟩ ⟨le_t rfl, le_t rfl⟩ rfl (le_t rfl) fun z5 h4 => ?_
  refine mr_if_ne (pc := 13) (tgt := 26) dX2_leastBelow_13 (by decide) (r32 h4.1 rfl) (fun h6 => ?_) (fun h6 => ?_)
  · have h7 : 1 ≤ z5 ∧ z5 ≤ 1 := (vc_X12_ring_24 h6 h4.1)
    refine sv_aload_n (pc := 26) dX2_leastBelow_26 rfl rfl ?_
    refine mr_iload_n (pc := 27) (z := p1) dX2_leastBelow_27 rfl rfl ?_
    refine mr_iload_n (pc := 28) (z := p2) dX2_leastBelow_28 rfl rfl ?_
    refine mr_iload_n (pc := 29) (z := p3) dX2_leastBelow_29 rfl rfl ?_
    refine mr_iconst (pc := 30) (z := 1) dX2_leastBelow_30 ?_
    refine mr_iadd (pc := 31) (x := p3) (y := 1) dX2_leastBelow_31 ?_
    refine mr_cVI (pc := 32) (c_X2_leastBelow_15 hw hT hp1 hp2 (rAdd (e := 15) (f := 15) hp3 (rR (x := 1)) rfl) (vc_X9_end_1 hq0 hp1)) (gOk _ _ _ _ _) dX2_leastBelow_32 (tX2_leastBelow _ _ _ _ _) ⟨wV_X2_leastBelow, wL_X2_leastBelow⟩ wM_X2_101 (gCX2 _ _ _ _ _) rfl (A_87 hw) rfl ⟨le_t rfl, le_t rfl⟩ ⟨le_t rfl, le_t rfl⟩ rfl (le_t rfl) fun z12 μ8 T9 F10 h11 => ?_
    refine mr_istore (pc := 35) (lv' := [(4, iv z12), (0, .ref 87), (1, iv p1), (2, iv p2), (3, iv p3)]) dX2_leastBelow_35 (by decide) rfl ?_
    refine sv_aload_n (pc := 37) dX2_leastBelow_37 rfl rfl ?_
    refine mr_iload_n (pc := 38) (z := p1) dX2_leastBelow_38 rfl rfl ?_
    refine mr_iload_n (pc := 39) (z := p2) dX2_leastBelow_39 rfl rfl ?_
    refine mr_iconst (pc := 40) (z := 1) dX2_leastBelow_40 ?_
    refine mr_bipush (pc := 41) (z := 31) dX2_leastBelow_41 (by decide) ?_
    refine mr_iload_n (pc := 43) (z := p3) dX2_leastBelow_43 rfl rfl ?_
    refine mr_isub (pc := 44) (x := 31) (y := p3) dX2_leastBelow_44 ?_
    refine mr_ishl (pc := 45) (x := 1) (y := (31 - p3)) dX2_leastBelow_45 ?_
    refine mr_gen (P := fun z => (-2147483648) ≤ z ∧ z ≤ 2147483647) (r32i _) fun z13 q14 h15 => ?_
    refine mr_ior (pc := 46) (x := p2) (y := z13) dX2_leastBelow_46 ?_
    refine mr_gen (P := fun z => (-2147483648) ≤ z ∧ z ≤ 2147483647) (r32i _) fun z16 q17 h18 => ?_
    refine mr_iload_n (pc := 47) (z := p3) dX2_leastBelow_47 rfl rfl ?_
    refine mr_iconst (pc := 48) (z := 1) dX2_leastBelow_48 ?_
    refine mr_iadd (pc := 49) (x := p3) (y := 1) dX2_leastBelow_49 ?_
    refine mr_cVI (pc := 50) (c_X2_leastBelow_15 hw T9 hp1 h18 (rAdd (e := 15) (f := 15) hp3 (rR (x := 1)) rfl) (vc_X9_end_1 hq0 hp1)) (gOk _ _ _ _ _) dX2_leastBelow_50 (tX2_leastBelow _ _ _ _ _) ⟨wV_X2_leastBelow, wL_X2_leastBelow⟩ wM_X2_101 (gCX2 _ _ _ _ _) rfl (A_87 hw) rfl ⟨le_t rfl, le_t rfl⟩ ⟨le_t rfl, le_t rfl⟩ rfl (le_t rfl) fun z23 μ19 T20 F21 h22 => ?_
    refine mr_istore (pc := 53) (lv' := [(5, iv z23), (4, iv z12), (0, .ref 87), (1, iv p1), (2, iv p2), (3, iv p3)]) dX2_leastBelow_53 (by decide) rfl ?_
    refine mr_iload (pc := 55) (z := z12) dX2_leastBelow_55 rfl ?_
    refine mr_iload (pc := 57) (z := z23) dX2_leastBelow_57 rfl ?_
    refine mr_iand (pc := 59) (x := z12) (y := z23) dX2_leastBelow_59 ?_
    refine mr_gen (P := fun z => (-2147483648) ≤ z ∧ z ≤ 2147483647) (r32i _) fun z24 q25 h26 => ?_
    refine mr_if_eq (pc := 60) (tgt := 69) dX2_leastBelow_60 (by decide) h26 (fun h27 => ?_) (fun h27 => ?_)
    · have h28 : 0 ≤ z24 ∧ z24 ≤ 0 := (vc_X12_mask_1 h27 h26)
      refine sv_aload_n (pc := 69) dX2_leastBelow_69 rfl rfl ?_
      refine sv_dup (pc := 70) dX2_leastBelow_70 rfl ?_
      refine gf_X2_7 (pc := 71) dX2_leastBelow_71 wF_X2_98 (A_87 hw) T20 fun z29 q30 h31 => ?_
      refine mr_iconst (pc := 74) (z := 1) dX2_leastBelow_74 ?_
      refine mr_iadd (pc := 75) (x := z29) (y := 1) dX2_leastBelow_75 ?_
      refine mr_wrap fun z32 h33 => ?_
      refine pf_X2_7 (pc := 76) dX2_leastBelow_76 wF_X2_98 (A_87 hw) T20 h33 fun μ34 u35 T36 => ?_
      refine mr_iload (pc := 79) (z := z12) dX2_leastBelow_79 rfl ?_
      refine mr_iload (pc := 81) (z := z23) dX2_leastBelow_81 rfl ?_
      refine mr_ior (pc := 83) (x := z12) (y := z23) dX2_leastBelow_83 ?_
      refine mr_gen (P := fun z => (-2147483648) ≤ z ∧ z ≤ 2147483647) (r32i _) fun z37 q38 h39 => ?_
      exact mr_iret dX2_leastBelow_84 rfl (le_t rfl) (le_t rfl) T36 (mF.up (mF.call (mF.call mF.refl F10 rfl) F21 rfl) (A_87 hw) u35 rfl) ⟨h39, trivial⟩
    refine mr_iload (pc := 63) (z := z12) dX2_leastBelow_63 rfl ?_
    refine mr_iload (pc := 65) (z := z23) dX2_leastBelow_65 rfl ?_
    refine mr_iand (pc := 67) (x := z12) (y := z23) dX2_leastBelow_67 ?_
    refine mr_gen (P := fun z => (-2147483648) ≤ z ∧ z ≤ 2147483647) (r32i _) fun z40 q41 h42 => ?_
    exact mr_iret dX2_leastBelow_68 rfl (le_t rfl) (le_t rfl) T20 (mF.call (mF.call mF.refl F10 rfl) F21 rfl) ⟨h42, trivial⟩
  have h43 : 0 ≤ z5 ∧ z5 ≤ 0 := (vc_X12_ring_22 h6 h4.1)
  refine sv_aload_n (pc := 16) dX2_leastBelow_16 rfl rfl ?_
  refine mr_iload_n (pc := 17) (z := p1) dX2_leastBelow_17 rfl rfl ?_
  refine mr_iload_n (pc := 18) (z := p2) dX2_leastBelow_18 rfl rfl ?_
  refine mr_cVP (pc := 19) (c_X2_tieFor hw hT hp1 hp2 (vc_X9_end_1 hq0 hp1)) (gOk _ _ _ _ _) dX2_leastBelow_19 (tX2_tieFor _ _ _ _ _) ⟨wV_X2_tieFor, wL_X2_tieFor⟩ wM_X2_60 (gCX2 _ _ _ _ _) rfl (A_87 hw) rfl ⟨le_t rfl, le_t rfl⟩ ⟨le_t rfl, le_t rfl⟩ rfl (le_t rfl) fun z48 h47 => ?_
  refine mr_cSP (pc := 22) (c_X2_aimBit hw hT h47.1) (gOk _ _ _ _ _) dX2_leastBelow_22 (tX2_aimBit _ _ _ _ _) wS_X2_aimBit wM_X2_110 ⟨le_t rfl, le_t rfl⟩ ⟨le_t rfl, le_t rfl⟩ rfl (le_t rfl) fun z53 h52 => ?_
  exact mr_iret dX2_leastBelow_25 rfl (le_t rfl) (le_t rfl) hT mF.refl ⟨h52.1, trivial⟩
theorem vc_X2_leastBelow_13_1 {p3 : Int} (h0 : 32 ≤ p3) (h1 : 13 ≤ p3 ∧ p3 ≤ 13) : False := by omega
set_option maxRecDepth 4000 in
set_option maxHeartbeats 4000000 in
theorem c_X2_leastBelow_13 {l : Launch} {D : va_G} {c : Nat → ClassId} {H0 : Heap} {sa : Nat × Nat × (Nat → Int32)} {w : mW} {μ : mM} (hw : mWF w) (hT : mT w μ) {p1 : Int} (hp1 : 0 ≤ p1 ∧ p1 ≤ 9) {p2 : Int} (hp2 : (-2147483648) ≤ p2 ∧ p2 ≤ 2147483647) {p3 : Int} (hp3 : 13 ≤ p3 ∧ p3 ≤ 13) (hq0 : p1 < w.2.2.2 0) : sC (gG l D c H0 sa) mX2_leastBelow 22 0 0 [.ref 87, iv p1, iv p2, iv p3] (mk w μ) (qI w [87007] μ (fun z μ1 => ((-2147483648) ≤ z ∧ z ≤ 2147483647) ∧ True)) := by
  refine sC.of rfl (by decide) (le_t rfl) ?_
  refine mr_lvE (lv' := [(0, .ref 87), (1, iv p1), (2, iv p2), (3, iv p3)]) rfl ?_
  refine mr_iload_n (pc := 0) (z := p3) dX2_leastBelow_0 rfl rfl ?_
  refine mr_bipush (pc := 1) (z := 32) dX2_leastBelow_1 (by decide) ?_
  refine mr_icmp_ge (pc := 3) (tgt := 16) dX2_leastBelow_3 (by decide) (r32 hp3 rfl) (r32 (rR (x := 32)) rfl) (fun h => ((vc_X2_leastBelow_13_1 h hp3)).elim) (fun _ => ?_)
  refine sv_aload_n (pc := 6) dX2_leastBelow_6 rfl rfl ?_
  refine mr_iload_n (pc := 7) (z := p1) dX2_leastBelow_7 rfl rfl ?_
  refine mr_iload_n (pc := 8) (z := p2) dX2_leastBelow_8 rfl rfl ?_
  refine mr_iload_n (pc := 9) (z := p3) dX2_leastBelow_9 rfl rfl ?_
  refine mr_cVP (pc := 10) (c_X2_isSplit hw hT hp1 hp2 (rW (c := (-2147483648)) (d := 2147483647) hp3 rfl) (vc_X9_end_1 hq0 hp1)) (gOk _ _ _ _ _) dX2_leastBelow_10 (tX2_isSplit _ _ _ _ _) ⟨wV_X2_isSplit, wL_X2_isSplit⟩ wM_X2_106 (gCX2 _ _ _ _ _) rfl (A_87 hw) rfl ⟨le_t rfl, le_t rfl⟩ ⟨le_t rfl, le_t rfl⟩ rfl (le_t rfl) fun z5 h4 => ?_
  refine mr_if_ne (pc := 13) (tgt := 26) dX2_leastBelow_13 (by decide) (r32 h4.1 rfl) (fun h6 => ?_) (fun h6 => ?_)
  · have h7 : 1 ≤ z5 ∧ z5 ≤ 1 := (vc_X12_ring_24 h6 h4.1)
    refine sv_aload_n (pc := 26) dX2_leastBelow_26 rfl rfl ?_
    refine mr_iload_n (pc := 27) (z := p1) dX2_leastBelow_27 rfl rfl ?_
    refine mr_iload_n (pc := 28) (z := p2) dX2_leastBelow_28 rfl rfl ?_
    refine mr_iload_n (pc := 29) (z := p3) dX2_leastBelow_29 rfl rfl ?_
    refine mr_iconst (pc := 30) (z := 1) dX2_leastBelow_30 ?_
    refine mr_iadd (pc := 31) (x := p3) (y := 1) dX2_leastBelow_31 ?_
    refine mr_cVI (pc := 32) (c_X2_leastBelow_14 hw hT hp1 hp2 (rAdd (e := 14) (f := 14) hp3 (rR (x := 1)) rfl) (vc_X9_end_1 hq0 hp1)) (gOk _ _ _ _ _) dX2_leastBelow_32 (tX2_leastBelow _ _ _ _ _) ⟨wV_X2_leastBelow, wL_X2_leastBelow⟩ wM_X2_101 (gCX2 _ _ _ _ _) rfl (A_87 hw) rfl ⟨le_t rfl, le_t rfl⟩ ⟨le_t rfl, le_t rfl⟩ rfl (le_t rfl) fun z12 μ8 T9 F10 h11 => ?_
    refine mr_istore (pc := 35) (lv' := [(4, iv z12), (0, .ref 87), (1, iv p1), (2, iv p2), (3, iv p3)]) dX2_leastBelow_35 (by decide) rfl ?_
    refine sv_aload_n (pc := 37) dX2_leastBelow_37 rfl rfl ?_
    refine mr_iload_n (pc := 38) (z := p1) dX2_leastBelow_38 rfl rfl ?_
    refine mr_iload_n (pc := 39) (z := p2) dX2_leastBelow_39 rfl rfl ?_
    refine mr_iconst (pc := 40) (z := 1) dX2_leastBelow_40 ?_
    refine mr_bipush (pc := 41) (z := 31) dX2_leastBelow_41 (by decide) ?_
    refine mr_iload_n (pc := 43) (z := p3) dX2_leastBelow_43 rfl rfl ?_
    refine mr_isub (pc := 44) (x := 31) (y := p3) dX2_leastBelow_44 ?_
    refine mr_ishl (pc := 45) (x := 1) (y := (31 - p3)) dX2_leastBelow_45 ?_
    refine mr_gen (P := fun z => (-2147483648) ≤ z ∧ z ≤ 2147483647) (r32i _) fun z13 q14 h15 => ?_
    refine mr_ior (pc := 46) (x := p2) (y := z13) dX2_leastBelow_46 ?_
    refine mr_gen (P := fun z => (-2147483648) ≤ z ∧ z ≤ 2147483647) (r32i _) fun z16 q17 h18 => ?_
    refine mr_iload_n (pc := 47) (z := p3) dX2_leastBelow_47 rfl rfl ?_
    refine mr_iconst (pc := 48) (z := 1) dX2_leastBelow_48 ?_
    refine mr_iadd (pc := 49) (x := p3) (y := 1) dX2_leastBelow_49 ?_
    refine mr_cVI (pc := 50) (c_X2_leastBelow_14 hw T9 hp1 h18 (rAdd (e := 14) (f := 14) hp3 (rR (x := 1)) rfl) (vc_X9_end_1 hq0 hp1)) (gOk _ _ _ _ _) dX2_leastBelow_50 (tX2_leastBelow _ _ _ _ _) ⟨wV_X2_leastBelow, wL_X2_leastBelow⟩ wM_X2_101 (gCX2 _ _ _ _ _) rfl (A_87 hw) rfl ⟨le_t rfl, le_t rfl⟩ ⟨le_t rfl, le_t rfl⟩ rfl (le_t rfl) fun z23 μ19 T20 F21 h22 => ?_
    refine mr_istore (pc := 53) (lv' := [(5, iv z23), (4, iv z12), (0, .ref 87), (1, iv p1), (2, iv p2), (3, iv p3)]) dX2_leastBelow_53 (by decide) rfl ?_
    refine mr_iload (pc := 55) (z := z12) dX2_leastBelow_55 rfl ?_
    refine mr_iload (pc := 57) (z := z23) dX2_leastBelow_57 rfl ?_
    refine mr_iand (pc := 59) (x := z12) (y := z23) dX2_leastBelow_59 ?_
    refine mr_gen (P := fun z => (-2147483648) ≤ z ∧ z ≤ 2147483647) (r32i _) fun z24 q25 h26 => ?_
    refine mr_if_eq (pc := 60) (tgt := 69) dX2_leastBelow_60 (by decide) h26 (fun h27 => ?_) (fun h27 => ?_)
    · have h28 : 0 ≤ z24 ∧ z24 ≤ 0 := (vc_X12_mask_1 h27 h26)
      refine sv_aload_n (pc := 69) dX2_leastBelow_69 rfl rfl ?_
      refine sv_dup (pc := 70) dX2_leastBelow_70 rfl ?_
      refine gf_X2_7 (pc := 71) dX2_leastBelow_71 wF_X2_98 (A_87 hw) T20 fun z29 q30 h31 => ?_
      refine mr_iconst (pc := 74) (z := 1) dX2_leastBelow_74 ?_
      refine mr_iadd (pc := 75) (x := z29) (y := 1) dX2_leastBelow_75 ?_
      refine mr_wrap fun z32 h33 => ?_
      refine pf_X2_7 (pc := 76) dX2_leastBelow_76 wF_X2_98 (A_87 hw) T20 h33 fun μ34 u35 T36 => ?_
      refine mr_iload (pc := 79) (z := z12) dX2_leastBelow_79 rfl ?_
      refine mr_iload (pc := 81) (z := z23) dX2_leastBelow_81 rfl ?_
      refine mr_ior (pc := 83) (x := z12) (y := z23) dX2_leastBelow_83 ?_
      refine mr_gen (P := fun z => (-2147483648) ≤ z ∧ z ≤ 2147483647) (r32i _) fun z37 q38 h39 => ?_
      exact mr_iret dX2_leastBelow_84 rfl (le_t rfl) (le_t rfl) T36 (mF.up (mF.call (mF.call mF.refl F10 rfl) F21 rfl) (A_87 hw) u35 rfl) ⟨h39, trivial⟩
    refine mr_iload (pc := 63) (z := z12) dX2_leastBelow_63 rfl ?_
    refine mr_iload (pc := 65) (z := z23) dX2_leastBelow_65 rfl ?_
    refine mr_iand (pc := 67) (x := z12) (y := z23) dX2_leastBelow_67 ?_
    refine mr_gen (P := fun z => (-2147483648) ≤ z ∧ z ≤ 2147483647) (r32i _) fun z40 q41 h42 => ?_
    exact mr_iret dX2_leastBelow_68 rfl (le_t rfl) (le_t rfl) T20 (mF.call (mF.call mF.refl F10 rfl) F21 rfl) ⟨h42, trivial⟩
  have h43 : 0 ≤ z5 ∧ z5 ≤ 0 := (vc_X12_ring_22 h6 h4.1)
  refine sv_aload_n (pc := 16) dX2_leastBelow_16 rfl rfl ?_
  refine mr_iload_n (pc := 17) (z := p1) dX2_leastBelow_17 rfl rfl ?_
  refine mr_iload_n (pc := 18) (z := p2) dX2_leastBelow_18 rfl rfl ?_
  refine mr_cVP (pc := 19) (c_X2_tieFor hw hT hp1 hp2 (vc_X9_end_1 hq0 hp1)) (gOk _ _ _ _ _) dX2_leastBelow_19 (tX2_tieFor _ _ _ _ _) ⟨wV_X2_tieFor, wL_X2_tieFor⟩ wM_X2_60 (gCX2 _ _ _ _ _) rfl (A_87 hw) rfl ⟨le_t rfl, le_t rfl⟩ ⟨le_t rfl, le_t rfl⟩ rfl (le_t rfl) fun z48 h47 => ?_
  refine mr_cSP (pc := 22) (c_X2_aimBit hw hT h47.1) (gOk _ _ _ _ _) dX2_leastBelow_22 (tX2_aimBit _ _ _ _ _) wS_X2_aimBit wM_X2_110 ⟨le_t rfl, le_t rfl⟩ ⟨le_t rfl, le_t rfl⟩ rfl (le_t rfl) fun z53 h52 => ?_
  exact mr_iret dX2_leastBelow_25 rfl (le_t rfl) (le_t rfl) hT mF.refl ⟨h52.1, trivial⟩
theorem vc_X2_leastBelow_12_1 {p3 : Int} (h0 : 32 ≤ p3) (h1 : 12 ≤ p3 ∧ p3 ≤ 12) : False := by omega
set_option maxRecDepth 4000 in
set_option maxHeartbeats 4000000 in
theorem c_X2_leastBelow_12 {l : Launch} {D : va_G} {c : Nat → ClassId} {H0 : Heap} {sa : Nat × Nat × (Nat → Int32)} {w : mW} {μ : mM} (hw : mWF w) (hT : mT w μ) {p1 : Int} (hp1 : 0 ≤ p1 ∧ p1 ≤ 9) {p2 : Int} (hp2 : (-2147483648) ≤ p2 ∧ p2 ≤ 2147483647) {p3 : Int} (hp3 : 12 ≤ p3 ∧ p3 ≤ 12) (hq0 : p1 < w.2.2.2 0) : sC (gG l D c H0 sa) mX2_leastBelow 23 0 0 [.ref 87, iv p1, iv p2, iv p3] (mk w μ) (qI w [87007] μ (fun z μ1 => ((-2147483648) ≤ z ∧ z ≤ 2147483647) ∧ True)) := by
  refine sC.of rfl (by decide) (le_t rfl) ?_
  refine mr_lvE (lv' := [(0, .ref 87), (1, iv p1), (2, iv p2), (3, iv p3)]) rfl ?_
  refine mr_iload_n (pc := 0) (z := p3) dX2_leastBelow_0 rfl rfl ?_
  refine mr_bipush (pc := 1) (z := 32) dX2_leastBelow_1 (by decide) ?_
  refine mr_icmp_ge (pc := 3) (tgt := 16) dX2_leastBelow_3 (by decide) (r32 hp3 rfl) (r32 (rR (x := 32)) rfl) (fun h => ((vc_X2_leastBelow_12_1 h hp3)).elim) (fun _ => ?_)
  refine sv_aload_n (pc := 6) dX2_leastBelow_6 rfl rfl ?_
  refine mr_iload_n (pc := 7) (z := p1) dX2_leastBelow_7 rfl rfl ?_
  refine mr_iload_n (pc := 8) (z := p2) dX2_leastBelow_8 rfl rfl ?_
  refine mr_iload_n (pc := 9) (z := p3) dX2_leastBelow_9 rfl rfl ?_
  refine mr_cVP (pc := 10) (c_X2_isSplit hw hT hp1 hp2 (rW (c := (-2147483648)) (d := 2147483647) hp3 rfl) (vc_X9_end_1 hq0 hp1)) (gOk _ _ _ _ _) dX2_leastBelow_10 (tX2_isSplit _ _ _ _ _) ⟨wV_X2_isSplit, wL_X2_isSplit⟩ wM_X2_106 (gCX2 _ _ _ _ _) rfl (A_87 hw) rfl ⟨le_t rfl, le_t rfl⟩ ⟨le_t rfl, le_t rfl⟩ rfl (le_t rfl) fun z5 h4 => ?_
  refine mr_if_ne (pc := 13) (tgt := 26) dX2_leastBelow_13 (by decide) (r32 h4.1 rfl) (fun h6 => ?_) (fun h6 => ?_)
  · have h7 : 1 ≤ z5 ∧ z5 ≤ 1 := (vc_X12_ring_24 h6 h4.1)
    refine sv_aload_n (pc := 26) dX2_leastBelow_26 rfl rfl ?_
    refine mr_iload_n (pc := 27) (z := p1) dX2_leastBelow_27 rfl rfl ?_
    refine mr_iload_n (pc := 28) (z := p2) dX2_leastBelow_28 rfl rfl ?_
    refine mr_iload_n (pc := 29) (z := p3) dX2_leastBelow_29 rfl rfl ?_
    refine mr_iconst (pc := 30) (z := 1) dX2_leastBelow_30 ?_
    refine mr_iadd (pc := 31) (x := p3) (y := 1) dX2_leastBelow_31 ?_
    refine mr_cVI (pc := 32) (c_X2_leastBelow_13 hw hT hp1 hp2 (rAdd (e := 13) (f := 13) hp3 (rR (x := 1)) rfl) (vc_X9_end_1 hq0 hp1)) (gOk _ _ _ _ _) dX2_leastBelow_32 (tX2_leastBelow _ _ _ _ _) ⟨wV_X2_leastBelow, wL_X2_leastBelow⟩ wM_X2_101 (gCX2 _ _ _ _ _) rfl (A_87 hw) rfl ⟨le_t rfl, le_t rfl⟩ ⟨le_t rfl, le_t rfl⟩ rfl (le_t rfl) fun z12 μ8 T9 F10 h11 => ?_
    refine mr_istore (pc := 35) (lv' := [(4, iv z12), (0, .ref 87), (1, iv p1), (2, iv p2), (3, iv p3)]) dX2_leastBelow_35 (by decide) rfl ?_
    refine sv_aload_n (pc := 37) dX2_leastBelow_37 rfl rfl ?_
    refine mr_iload_n (pc := 38) (z := p1) dX2_leastBelow_38 rfl rfl ?_
    refine mr_iload_n (pc := 39) (z := p2) dX2_leastBelow_39 rfl rfl ?_
    refine mr_iconst (pc := 40) (z := 1) dX2_leastBelow_40 ?_
    refine mr_bipush (pc := 41) (z := 31) dX2_leastBelow_41 (by decide) ?_
    refine mr_iload_n (pc := 43) (z := p3) dX2_leastBelow_43 rfl rfl ?_
    refine mr_isub (pc := 44) (x := 31) (y := p3) dX2_leastBelow_44 ?_
    refine mr_ishl (pc := 45) (x := 1) (y := (31 - p3)) dX2_leastBelow_45 ?_
    refine mr_gen (P := fun z => (-2147483648) ≤ z ∧ z ≤ 2147483647) (r32i _) fun z13 q14 h15 => ?_
    refine mr_ior (pc := 46) (x := p2) (y := z13) dX2_leastBelow_46 ?_
    refine mr_gen (P := fun z => (-2147483648) ≤ z ∧ z ≤ 2147483647) (r32i _) fun z16 q17 h18 => ?_
    refine mr_iload_n (pc := 47) (z := p3) dX2_leastBelow_47 rfl rfl ?_
    refine mr_iconst (pc := 48) (z := 1) dX2_leastBelow_48 ?_
    refine mr_iadd (pc := 49) (x := p3) (y := 1) dX2_leastBelow_49 ?_
    refine mr_cVI (pc := 50) (c_X2_leastBelow_13 hw T9 hp1 h18 (rAdd (e := 13) (f := 13) hp3 (rR (x := 1)) rfl) (vc_X9_end_1 hq0 hp1)) (gOk _ _ _ _ _) dX2_leastBelow_50 (tX2_leastBelow _ _ _ _ _) ⟨wV_X2_leastBelow, wL_X2_leastBelow⟩ wM_X2_101 (gCX2 _ _ _ _ _) rfl (A_87 hw) rfl ⟨le_t rfl, le_t rfl⟩ ⟨le_t rfl, le_t rfl⟩ rfl (le_t rfl) fun z23 μ19 T20 F21 h22 => ?_
    refine mr_istore (pc := 53) (lv' := [(5, iv z23), (4, iv z12), (0, .ref 87), (1, iv p1), (2, iv p2), (3, iv p3)]) dX2_leastBelow_53 (by decide) rfl ?_
    refine mr_iload (pc := 55) (z := z12) dX2_leastBelow_55 rfl ?_
    refine mr_iload (pc := 57) (z := z23) dX2_leastBelow_57 rfl ?_
    refine mr_iand (pc := 59) (x := z12) (y := z23) dX2_leastBelow_59 ?_
    refine mr_gen (P := fun z => (-2147483648) ≤ z ∧ z ≤ 2147483647) (r32i _) fun z24 q25 h26 => ?_
    refine mr_if_eq (pc := 60) (tgt := 69) dX2_leastBelow_60 (by decide) h26 (fun h27 => ?_) (fun h27 => ?_)
    · have h28 : 0 ≤ z24 ∧ z24 ≤ 0 := (vc_X12_mask_1 h27 h26)
      refine sv_aload_n (pc := 69) dX2_leastBelow_69 rfl rfl ?_
      refine sv_dup (pc := 70) dX2_leastBelow_70 rfl ?_
      refine gf_X2_7 (pc := 71) dX2_leastBelow_71 wF_X2_98 (A_87 hw) T20 fun z29 q30 h31 => ?_
      refine mr_iconst (pc := 74) (z := 1) dX2_leastBelow_74 ?_
      refine mr_iadd (pc := 75) (x := z29) (y := 1) dX2_leastBelow_75 ?_
      refine mr_wrap fun z32 h33 => ?_
      refine pf_X2_7 (pc := 76) dX2_leastBelow_76 wF_X2_98 (A_87 hw) T20 h33 fun μ34 u35 T36 => ?_
      refine mr_iload (pc := 79) (z := z12) dX2_leastBelow_79 rfl ?_
      refine mr_iload (pc := 81) (z := z23) dX2_leastBelow_81 rfl ?_
      refine mr_ior (pc := 83) (x := z12) (y := z23) dX2_leastBelow_83 ?_
      refine mr_gen (P := fun z => (-2147483648) ≤ z ∧ z ≤ 2147483647) (r32i _) fun z37 q38 h39 => ?_
      exact mr_iret dX2_leastBelow_84 rfl (le_t rfl) (le_t rfl) T36 (mF.up (mF.call (mF.call mF.refl F10 rfl) F21 rfl) (A_87 hw) u35 rfl) ⟨h39, trivial⟩
    refine mr_iload (pc := 63) (z := z12) dX2_leastBelow_63 rfl ?_
    refine mr_iload (pc := 65) (z := z23) dX2_leastBelow_65 rfl ?_
    refine mr_iand (pc := 67) (x := z12) (y := z23) dX2_leastBelow_67 ?_
    refine mr_gen (P := fun z => (-2147483648) ≤ z ∧ z ≤ 2147483647) (r32i _) fun z40 q41 h42 => ?_
    exact mr_iret dX2_leastBelow_68 rfl (le_t rfl) (le_t rfl) T20 (mF.call (mF.call mF.refl F10 rfl) F21 rfl) ⟨h42, trivial⟩
  have h43 : 0 ≤ z5 ∧ z5 ≤ 0 := (vc_X12_ring_22 h6 h4.1)
  refine sv_aload_n (pc := 16) dX2_leastBelow_16 rfl rfl ?_
  refine mr_iload_n (pc := 17) (z := p1) dX2_leastBelow_17 rfl rfl ?_
  refine mr_iload_n (pc := 18) (z := p2) dX2_leastBelow_18 rfl rfl ?_
  refine mr_cVP (pc := 19) (c_X2_tieFor hw hT hp1 hp2 (vc_X9_end_1 hq0 hp1)) (gOk _ _ _ _ _) dX2_leastBelow_19 (tX2_tieFor _ _ _ _ _) ⟨wV_X2_tieFor, wL_X2_tieFor⟩ wM_X2_60 (gCX2 _ _ _ _ _) rfl (A_87 hw) rfl ⟨le_t rfl, le_t rfl⟩ ⟨le_t rfl, le_t rfl⟩ rfl (le_t rfl) fun z48 h47 => ?_
  refine mr_cSP (pc := 22) (c_X2_aimBit hw hT h47.1) (gOk _ _ _ _ _) dX2_leastBelow_22 (tX2_aimBit _ _ _ _ _) wS_X2_aimBit wM_X2_110 ⟨le_t rfl, le_t rfl⟩ ⟨le_t rfl, le_t rfl⟩ rfl (le_t rfl) fun z53 h52 => ?_
  exact mr_iret dX2_leastBelow_25 rfl (le_t rfl) (le_t rfl) hT mF.refl ⟨h52.1, trivial⟩
theorem vc_X2_leastBelow_11_1 {p3 : Int} (h0 : 32 ≤ p3) (h1 : 11 ≤ p3 ∧ p3 ≤ 11) : False := by omega
set_option maxRecDepth 4000 in
set_option maxHeartbeats 4000000 in
theorem c_X2_leastBelow_11 {l : Launch} {D : va_G} {c : Nat → ClassId} {H0 : Heap} {sa : Nat × Nat × (Nat → Int32)} {w : mW} {μ : mM} (hw : mWF w) (hT : mT w μ) {p1 : Int} (hp1 : 0 ≤ p1 ∧ p1 ≤ 9) {p2 : Int} (hp2 : (-2147483648) ≤ p2 ∧ p2 ≤ 2147483647) {p3 : Int} (hp3 : 11 ≤ p3 ∧ p3 ≤ 11) (hq0 : p1 < w.2.2.2 0) : sC (gG l D c H0 sa) mX2_leastBelow 24 0 0 [.ref 87, iv p1, iv p2, iv p3] (mk w μ) (qI w [87007] μ (fun z μ1 => ((-2147483648) ≤ z ∧ z ≤ 2147483647) ∧ True)) := by
  refine sC.of rfl (by decide) (le_t rfl) ?_
  refine mr_lvE (lv' := [(0, .ref 87), (1, iv p1), (2, iv p2), (3, iv p3)]) rfl ?_
  refine mr_iload_n (pc := 0) (z := p3) dX2_leastBelow_0 rfl rfl ?_
  refine mr_bipush (pc := 1) (z := 32) dX2_leastBelow_1 (by decide) ?_
  refine mr_icmp_ge (pc := 3) (tgt := 16) dX2_leastBelow_3 (by decide) (r32 hp3 rfl) (r32 (rR (x := 32)) rfl) (fun h => ((vc_X2_leastBelow_11_1 h hp3)).elim) (fun _ => ?_)
  refine sv_aload_n (pc := 6) dX2_leastBelow_6 rfl rfl ?_
  refine mr_iload_n (pc := 7) (z := p1) dX2_leastBelow_7 rfl rfl ?_
  refine mr_iload_n (pc := 8) (z := p2) dX2_leastBelow_8 rfl rfl ?_
  refine mr_iload_n (pc := 9) (z := p3) dX2_leastBelow_9 rfl rfl ?_
  refine mr_cVP (pc := 10) (c_X2_isSplit hw hT hp1 hp2 (rW (c := (-2147483648)) (d := 2147483647) hp3 rfl) (vc_X9_end_1 hq0 hp1)) (gOk _ _ _ _ _) dX2_leastBelow_10 (tX2_isSplit _ _ _ _ _) ⟨wV_X2_isSplit, wL_X2_isSplit⟩ wM_X2_106 (gCX2 _ _ _ _ _) rfl (A_87 hw) rfl ⟨le_t rfl, le_t rfl⟩ ⟨le_t rfl, le_t rfl⟩ rfl (le_t rfl) fun z5 h4 => ?_
  refine mr_if_ne (pc := 13) (tgt := 26) dX2_leastBelow_13 (by decide) (r32 h4.1 rfl) (fun h6 => ?_) (fun h6 => ?_)
  · have h7 : 1 ≤ z5 ∧ z5 ≤ 1 := (vc_X12_ring_24 h6 h4.1)
    refine sv_aload_n (pc := 26) dX2_leastBelow_26 rfl rfl ?_
    refine mr_iload_n (pc := 27) (z := p1) dX2_leastBelow_27 rfl rfl ?_
    refine mr_iload_n (pc := 28) (z := p2) dX2_leastBelow_28 rfl rfl ?_
    refine mr_iload_n (pc := 29) (z := p3) dX2_leastBelow_29 rfl rfl ?_
    refine mr_iconst (pc := 30) (z := 1) dX2_leastBelow_30 ?_
    refine mr_iadd (pc := 31) (x := p3) (y := 1) dX2_leastBelow_31 ?_
    refine mr_cVI (pc := 32) (c_X2_leastBelow_12 hw hT hp1 hp2 (rAdd (e := 12) (f := 12) hp3 (rR (x := 1)) rfl) (vc_X9_end_1 hq0 hp1)) (gOk _ _ _ _ _) dX2_leastBelow_32 (tX2_leastBelow _ _ _ _ _) ⟨wV_X2_leastBelow, wL_X2_leastBelow⟩ wM_X2_101 (gCX2 _ _ _ _ _) rfl (A_87 hw) rfl ⟨le_t rfl, le_t rfl⟩ ⟨le_t rfl, le_t rfl⟩ rfl (le_t rfl) fun z12 μ8 T9 F10 h11 => ?_
    refine mr_istore (pc := 35) (lv' := [(4, iv z12), (0, .ref 87), (1, iv p1), (2, iv p2), (3, iv p3)]) dX2_leastBelow_35 (by decide) rfl ?_
    refine sv_aload_n (pc := 37) dX2_leastBelow_37 rfl rfl ?_
    refine mr_iload_n (pc := 38) (z := p1) dX2_leastBelow_38 rfl rfl ?_
    refine mr_iload_n (pc := 39) (z := p2) dX2_leastBelow_39 rfl rfl ?_
    refine mr_iconst (pc := 40) (z := 1) dX2_leastBelow_40 ?_
    refine mr_bipush (pc := 41) (z := 31) dX2_leastBelow_41 (by decide) ?_
    refine mr_iload_n (pc := 43) (z := p3) dX2_leastBelow_43 rfl rfl ?_
    refine mr_isub (pc := 44) (x := 31) (y := p3) dX2_leastBelow_44 ?_
    refine mr_ishl (pc := 45) (x := 1) (y := (31 - p3)) dX2_leastBelow_45 ?_
    refine mr_gen (P := fun z => (-2147483648) ≤ z ∧ z ≤ 2147483647) (r32i _) fun z13 q14 h15 => ?_
    refine mr_ior (pc := 46) (x := p2) (y := z13) dX2_leastBelow_46 ?_
    refine mr_gen (P := fun z => (-2147483648) ≤ z ∧ z ≤ 2147483647) (r32i _) fun z16 q17 h18 => ?_
    refine mr_iload_n (pc := 47) (z := p3) dX2_leastBelow_47 rfl rfl ?_
    refine mr_iconst (pc := 48) (z := 1) dX2_leastBelow_48 ?_
    refine mr_iadd (pc := 49) (x := p3) (y := 1) dX2_leastBelow_49 ?_
    refine mr_cVI (pc := 50) (c_X2_leastBelow_12 hw T9 hp1 h18 (rAdd (e := 12) (f := 12) hp3 (rR (x := 1)) rfl) (vc_X9_end_1 hq0 hp1)) (gOk _ _ _ _ _) dX2_leastBelow_50 (tX2_leastBelow _ _ _ _ _) ⟨wV_X2_leastBelow, wL_X2_leastBelow⟩ wM_X2_101 (gCX2 _ _ _ _ _) rfl (A_87 hw) rfl ⟨le_t rfl, le_t rfl⟩ ⟨le_t rfl, le_t rfl⟩ rfl (le_t rfl) fun z23 μ19 T20 F21 h22 => ?_
    refine mr_istore (pc := 53) (lv' := [(5, iv z23), (4, iv z12), (0, .ref 87), (1, iv p1), (2, iv p2), (3, iv p3)]) dX2_leastBelow_53 (by decide) rfl ?_
    refine mr_iload (pc := 55) (z := z12) dX2_leastBelow_55 rfl ?_
    refine mr_iload (pc := 57) (z := z23) dX2_leastBelow_57 rfl ?_
    refine mr_iand (pc := 59) (x := z12) (y := z23) dX2_leastBelow_59 ?_
    refine mr_gen (P := fun z => (-2147483648) ≤ z ∧ z ≤ 2147483647) (r32i _) fun z24 q25 h26 => ?_
    refine mr_if_eq (pc := 60) (tgt := 69) dX2_leastBelow_60 (by decide) h26 (fun h27 => ?_) (fun h27 => ?_)
    · have h28 : 0 ≤ z24 ∧ z24 ≤ 0 := (vc_X12_mask_1 h27 h26)
      refine sv_aload_n (pc := 69) dX2_leastBelow_69 rfl rfl ?_
      refine sv_dup (pc := 70) dX2_leastBelow_70 rfl ?_
      refine gf_X2_7 (pc := 71) dX2_leastBelow_71 wF_X2_98 (A_87 hw) T20 fun z29 q30 h31 => ?_
      refine mr_iconst (pc := 74) (z := 1) dX2_leastBelow_74 ?_
      refine mr_iadd (pc := 75) (x := z29) (y := 1) dX2_leastBelow_75 ?_
      refine mr_wrap fun z32 h33 => ?_
      refine pf_X2_7 (pc := 76) dX2_leastBelow_76 wF_X2_98 (A_87 hw) T20 h33 fun μ34 u35 T36 => ?_
      refine mr_iload (pc := 79) (z := z12) dX2_leastBelow_79 rfl ?_
      refine mr_iload (pc := 81) (z := z23) dX2_leastBelow_81 rfl ?_
      refine mr_ior (pc := 83) (x := z12) (y := z23) dX2_leastBelow_83 ?_
      refine mr_gen (P := fun z => (-2147483648) ≤ z ∧ z ≤ 2147483647) (r32i _) fun z37 q38 h39 => ?_
      exact mr_iret dX2_leastBelow_84 rfl (le_t rfl) (le_t rfl) T36 (mF.up (mF.call (mF.call mF.refl F10 rfl) F21 rfl) (A_87 hw) u35 rfl) ⟨h39, trivial⟩
    refine mr_iload (pc := 63) (z := z12) dX2_leastBelow_63 rfl ?_
    refine mr_iload (pc := 65) (z := z23) dX2_leastBelow_65 rfl ?_
    refine mr_iand (pc := 67) (x := z12) (y := z23) dX2_leastBelow_67 ?_
    refine mr_gen (P := fun z => (-2147483648) ≤ z ∧ z ≤ 2147483647) (r32i _) fun z40 q41 h42 => ?_
    exact mr_iret dX2_leastBelow_68 rfl (le_t rfl) (le_t rfl) T20 (mF.call (mF.call mF.refl F10 rfl) F21 rfl) ⟨h42, trivial⟩
  have h43 : 0 ≤ z5 ∧ z5 ≤ 0 := (vc_X12_ring_22 h6 h4.1)
  refine sv_aload_n (pc := 16) dX2_leastBelow_16 rfl rfl ?_
  refine mr_iload_n (pc := 17) (z := p1) dX2_leastBelow_17 rfl rfl ?_
  refine mr_iload_n (pc := 18) (z := p2) dX2_leastBelow_18 rfl rfl ?_
  refine mr_cVP (pc := 19) (c_X2_tieFor hw hT hp1 hp2 (vc_X9_end_1 hq0 hp1)) (gOk _ _ _ _ _) dX2_leastBelow_19 (tX2_tieFor _ _ _ _ _) ⟨wV_X2_tieFor, wL_X2_tieFor⟩ wM_X2_60 (gCX2 _ _ _ _ _) rfl (A_87 hw) rfl ⟨le_t rfl, le_t rfl⟩ ⟨le_t rfl, le_t rfl⟩ rfl (le_t rfl) fun z48 h47 => ?_
  refine mr_cSP (pc := 22) (c_X2_aimBit hw hT h47.1) (gOk _ _ _ _ _) dX2_leastBelow_22 (tX2_aimBit _ _ _ _ _) wS_X2_aimBit wM_X2_110 ⟨le_t rfl, le_t rfl⟩ ⟨le_t rfl, le_t rfl⟩ rfl (le_t rfl) fun z53 h52 => ?_
  exact mr_iret dX2_leastBelow_25 rfl (le_t rfl) (le_t rfl) hT mF.refl ⟨h52.1, trivial⟩
theorem vc_X2_leastBelow_10_1 {p3 : Int} (h0 : 32 ≤ p3) (h1 : 10 ≤ p3 ∧ p3 ≤ 10) : False := by omega
set_option maxRecDepth 4000 in
set_option maxHeartbeats 4000000 in
theorem c_X2_leastBelow_10 {l : Launch} {D : va_G} {c : Nat → ClassId} {H0 : Heap} {sa : Nat × Nat × (Nat → Int32)} {w : mW} {μ : mM} (hw : mWF w) (hT : mT w μ) {p1 : Int} (hp1 : 0 ≤ p1 ∧ p1 ≤ 9) {p2 : Int} (hp2 : (-2147483648) ≤ p2 ∧ p2 ≤ 2147483647) {p3 : Int} (hp3 : 10 ≤ p3 ∧ p3 ≤ 10) (hq0 : p1 < w.2.2.2 0) : sC (gG l D c H0 sa) mX2_leastBelow 25 0 0 [.ref 87, iv p1, iv p2, iv p3] (mk w μ) (qI w [87007] μ (fun z μ1 => ((-2147483648) ≤ z ∧ z ≤ 2147483647) ∧ True)) := by
  refine sC.of rfl (by decide) (le_t rfl) ?_
  refine mr_lvE (lv' := [(0, .ref 87), (1, iv p1), (2, iv p2), (3, iv p3)]) rfl ?_
  refine mr_iload_n (pc := 0) (z := p3) dX2_leastBelow_0 rfl rfl ?_
  refine mr_bipush (pc := 1) (z := 32) dX2_leastBelow_1 (by decide) ?_
  refine mr_icmp_ge (pc := 3) (tgt := 16) dX2_leastBelow_3 (by decide) (r32 hp3 rfl) (r32 (rR (x := 32)) rfl) (fun h => ((vc_X2_leastBelow_10_1 h hp3)).elim) (fun _ => ?_)
  refine sv_aload_n (pc := 6) dX2_leastBelow_6 rfl rfl ?_
  refine mr_iload_n (pc := 7) (z := p1) dX2_leastBelow_7 rfl rfl ?_
  refine mr_iload_n (pc := 8) (z := p2) dX2_leastBelow_8 rfl rfl ?_
  refine mr_iload_n (pc := 9) (z := p3) dX2_leastBelow_9 rfl rfl ?_
  refine mr_cVP (pc := 10) (c_X2_isSplit hw hT hp1 hp2 (rW (c := (-2147483648)) (d := 2147483647) hp3 rfl) (vc_X9_end_1 hq0 hp1)) (gOk _ _ _ _ _) dX2_leastBelow_10 (tX2_isSplit _ _ _ _ _) ⟨wV_X2_isSplit, wL_X2_isSplit⟩ wM_X2_106 (gCX2 _ _ _ _ _) rfl (A_87 hw) rfl ⟨le_t rfl, le_t rfl⟩ ⟨le_t rfl, le_t rfl⟩ rfl (le_t rfl) fun z5 h4 => ?_
  refine mr_if_ne (pc := 13) (tgt := 26) dX2_leastBelow_13 (by decide) (r32 h4.1 rfl) (fun h6 => ?_) (fun h6 => ?_)
  · have h7 : 1 ≤ z5 ∧ z5 ≤ 1 := (vc_X12_ring_24 h6 h4.1)
    refine sv_aload_n (pc := 26) dX2_leastBelow_26 rfl rfl ?_
    refine mr_iload_n (pc := 27) (z := p1) dX2_leastBelow_27 rfl rfl ?_
    refine mr_iload_n (pc := 28) (z := p2) dX2_leastBelow_28 rfl rfl ?_
    refine mr_iload_n (pc := 29) (z := p3) dX2_leastBelow_29 rfl rfl ?_
    refine mr_iconst (pc := 30) (z := 1) dX2_leastBelow_30 ?_
    refine mr_iadd (pc := 31) (x := p3) (y := 1) dX2_leastBelow_31 ?_
    refine mr_cVI (pc := 32) (c_X2_leastBelow_11 hw hT hp1 hp2 (rAdd (e := 11) (f := 11) hp3 (rR (x := 1)) rfl) (vc_X9_end_1 hq0 hp1)) (gOk _ _ _ _ _) dX2_leastBelow_32 (tX2_leastBelow _ _ _ _ _) ⟨wV_X2_leastBelow, wL_X2_leastBelow⟩ wM_X2_101 (gCX2 _ _ _ _ _) rfl (A_87 hw) rfl ⟨le_t rfl, le_t rfl⟩ ⟨le_t rfl, le_t rfl⟩ rfl (le_t rfl) fun z12 μ8 T9 F10 h11 => ?_
    refine mr_istore (pc := 35) (lv' := [(4, iv z12), (0, .ref 87), (1, iv p1), (2, iv p2), (3, iv p3)]) dX2_leastBelow_35 (by decide) rfl ?_
    refine sv_aload_n (pc := 37) dX2_leastBelow_37 rfl rfl ?_
    refine mr_iload_n (pc := 38) (z := p1) dX2_leastBelow_38 rfl rfl ?_
    refine mr_iload_n (pc := 39) (z := p2) dX2_leastBelow_39 rfl rfl ?_
    refine mr_iconst (pc := 40) (z := 1) dX2_leastBelow_40 ?_
    refine mr_bipush (pc := 41) (z := 31) dX2_leastBelow_41 (by decide) ?_
    refine mr_iload_n (pc := 43) (z := p3) dX2_leastBelow_43 rfl rfl ?_
    refine mr_isub (pc := 44) (x := 31) (y := p3) dX2_leastBelow_44 ?_
    refine mr_ishl (pc := 45) (x := 1) (y := (31 - p3)) dX2_leastBelow_45 ?_
    refine mr_gen (P := fun z => (-2147483648) ≤ z ∧ z ≤ 2147483647) (r32i _) fun z13 q14 h15 => ?_
    refine mr_ior (pc := 46) (x := p2) (y := z13) dX2_leastBelow_46 ?_
    refine mr_gen (P := fun z => (-2147483648) ≤ z ∧ z ≤ 2147483647) (r32i _) fun z16 q17 h18 => ?_
    refine mr_iload_n (pc := 47) (z := p3) dX2_leastBelow_47 rfl rfl ?_
    refine mr_iconst (pc := 48) (z := 1) dX2_leastBelow_48 ?_
    refine mr_iadd (pc := 49) (x := p3) (y := 1) dX2_leastBelow_49 ?_
    refine mr_cVI (pc := 50) (c_X2_leastBelow_11 hw T9 hp1 h18 (rAdd (e := 11) (f := 11) hp3 (rR (x := 1)) rfl) (vc_X9_end_1 hq0 hp1)) (gOk _ _ _ _ _) dX2_leastBelow_50 (tX2_leastBelow _ _ _ _ _) ⟨wV_X2_leastBelow, wL_X2_leastBelow⟩ wM_X2_101 (gCX2 _ _ _ _ _) rfl (A_87 hw) rfl ⟨le_t rfl, le_t rfl⟩ ⟨le_t rfl, le_t rfl⟩ rfl (le_t rfl) fun z23 μ19 T20 F21 h22 => ?_
    refine mr_istore (pc := 53) (lv' := [(5, iv z23), (4, iv z12), (0, .ref 87), (1, iv p1), (2, iv p2), (3, iv p3)]) dX2_leastBelow_53 (by decide) rfl ?_
    refine mr_iload (pc := 55) (z := z12) dX2_leastBelow_55 rfl ?_
    refine mr_iload (pc := 57) (z := z23) dX2_leastBelow_57 rfl ?_
    refine mr_iand (pc := 59) (x := z12) (y := z23) dX2_leastBelow_59 ?_
    refine mr_gen (P := fun z => (-2147483648) ≤ z ∧ z ≤ 2147483647) (r32i _) fun z24 q25 h26 => ?_
    refine mr_if_eq (pc := 60) (tgt := 69) dX2_leastBelow_60 (by decide) h26 (fun h27 => ?_) (fun h27 => ?_)
    · have h28 : 0 ≤ z24 ∧ z24 ≤ 0 := (vc_X12_mask_1 h27 h26)
      refine sv_aload_n (pc := 69) dX2_leastBelow_69 rfl rfl ?_
      refine sv_dup (pc := 70) dX2_leastBelow_70 rfl ?_
      refine gf_X2_7 (pc := 71) dX2_leastBelow_71 wF_X2_98 (A_87 hw) T20 fun z29 q30 h31 => ?_
      refine mr_iconst (pc := 74) (z := 1) dX2_leastBelow_74 ?_
      refine mr_iadd (pc := 75) (x := z29) (y := 1) dX2_leastBelow_75 ?_
      refine mr_wrap fun z32 h33 => ?_
      refine pf_X2_7 (pc := 76) dX2_leastBelow_76 wF_X2_98 (A_87 hw) T20 h33 fun μ34 u35 T36 => ?_
      refine mr_iload (pc := 79) (z := z12) dX2_leastBelow_79 rfl ?_
      refine mr_iload (pc := 81) (z := z23) dX2_leastBelow_81 rfl ?_
      refine mr_ior (pc := 83) (x := z12) (y := z23) dX2_leastBelow_83 ?_
      refine mr_gen (P := fun z => (-2147483648) ≤ z ∧ z ≤ 2147483647) (r32i _) fun z37 q38 h39 => ?_
      exact mr_iret dX2_leastBelow_84 rfl (le_t rfl) (le_t rfl) T36 (mF.up (mF.call (mF.call mF.refl F10 rfl) F21 rfl) (A_87 hw) u35 rfl) ⟨h39, trivial⟩
    refine mr_iload (pc := 63) (z := z12) dX2_leastBelow_63 rfl ?_
    refine mr_iload (pc := 65) (z := z23) dX2_leastBelow_65 rfl ?_
    refine mr_iand (pc := 67) (x := z12) (y := z23) dX2_leastBelow_67 ?_
    refine mr_gen (P := fun z => (-2147483648) ≤ z ∧ z ≤ 2147483647) (r32i _) fun z40 q41 h42 => ?_
    exact mr_iret dX2_leastBelow_68 rfl (le_t rfl) (le_t rfl) T20 (mF.call (mF.call mF.refl F10 rfl) F21 rfl) ⟨h42, trivial⟩
  have h43 : 0 ≤ z5 ∧ z5 ≤ 0 := (vc_X12_ring_22 h6 h4.1)
  refine sv_aload_n (pc := 16) dX2_leastBelow_16 rfl rfl ?_
  refine mr_iload_n (pc := 17) (z := p1) dX2_leastBelow_17 rfl rfl ?_
  refine mr_iload_n (pc := 18) (z := p2) dX2_leastBelow_18 rfl rfl ?_
  refine mr_cVP (pc := 19) (c_X2_tieFor hw hT hp1 hp2 (vc_X9_end_1 hq0 hp1)) (gOk _ _ _ _ _) dX2_leastBelow_19 (tX2_tieFor _ _ _ _ _) ⟨wV_X2_tieFor, wL_X2_tieFor⟩ wM_X2_60 (gCX2 _ _ _ _ _) rfl (A_87 hw) rfl ⟨le_t rfl, le_t rfl⟩ ⟨le_t rfl, le_t rfl⟩ rfl (le_t rfl) fun z48 h47 => ?_
  refine mr_cSP (pc := 22) (c_X2_aimBit hw hT h47.1) (gOk _ _ _ _ _) dX2_leastBelow_22 (tX2_aimBit _ _ _ _ _) wS_X2_aimBit wM_X2_110 ⟨le_t rfl, le_t rfl⟩ ⟨le_t rfl, le_t rfl⟩ rfl (le_t rfl) fun z53 h52 => ?_
  exact mr_iret dX2_leastBelow_25 rfl (le_t rfl) (le_t rfl) hT mF.refl ⟨h52.1, trivial⟩
theorem vc_X2_leastBelow_9_1 {p3 : Int} (h0 : 32 ≤ p3) (h1 : 9 ≤ p3 ∧ p3 ≤ 9) : False := by omega
set_option maxRecDepth 4000 in
set_option maxHeartbeats 4000000 in
theorem c_X2_leastBelow_9 {l : Launch} {D : va_G} {c : Nat → ClassId} {H0 : Heap} {sa : Nat × Nat × (Nat → Int32)} {w : mW} {μ : mM} (hw : mWF w) (hT : mT w μ) {p1 : Int} (hp1 : 0 ≤ p1 ∧ p1 ≤ 9) {p2 : Int} (hp2 : (-2147483648) ≤ p2 ∧ p2 ≤ 2147483647) {p3 : Int} (hp3 : 9 ≤ p3 ∧ p3 ≤ 9) (hq0 : p1 < w.2.2.2 0) : sC (gG l D c H0 sa) mX2_leastBelow 26 0 0 [.ref 87, iv p1, iv p2, iv p3] (mk w μ) (qI w [87007] μ (fun z μ1 => ((-2147483648) ≤ z ∧ z ≤ 2147483647) ∧ True)) := by
  refine sC.of rfl (by decide) (le_t rfl) ?_
  refine mr_lvE (lv' := [(0, .ref 87), (1, iv p1), (2, iv p2), (3, iv p3)]) rfl ?_
  refine mr_iload_n (pc := 0) (z := p3) dX2_leastBelow_0 rfl rfl ?_
  refine mr_bipush (pc := 1) (z := 32) dX2_leastBelow_1 (by decide) ?_
  refine mr_icmp_ge (pc := 3) (tgt := 16) dX2_leastBelow_3 (by decide) (r32 hp3 rfl) (r32 (rR (x := 32)) rfl) (fun h => ((vc_X2_leastBelow_9_1 h hp3)).elim) (fun _ => ?_)
  refine sv_aload_n (pc := 6) dX2_leastBelow_6 rfl rfl ?_
  refine mr_iload_n (pc := 7) (z := p1) dX2_leastBelow_7 rfl rfl ?_
  refine mr_iload_n (pc := 8) (z := p2) dX2_leastBelow_8 rfl rfl ?_
  refine mr_iload_n (pc := 9) (z := p3) dX2_leastBelow_9 rfl rfl ?_
  refine mr_cVP (pc := 10) (c_X2_isSplit hw hT hp1 hp2 (rW (c := (-2147483648)) (d := 2147483647) hp3 rfl) (vc_X9_end_1 hq0 hp1)) (gOk _ _ _ _ _) dX2_leastBelow_10 (tX2_isSplit _ _ _ _ _) ⟨wV_X2_isSplit, wL_X2_isSplit⟩ wM_X2_106 (gCX2 _ _ _ _ _) rfl (A_87 hw) rfl ⟨le_t rfl, le_t rfl⟩ ⟨le_t rfl, le_t rfl⟩ rfl (le_t rfl) fun z5 h4 => ?_
  refine mr_if_ne (pc := 13) (tgt := 26) dX2_leastBelow_13 (by decide) (r32 h4.1 rfl) (fun h6 => ?_) (fun h6 => ?_)
  · have h7 : 1 ≤ z5 ∧ z5 ≤ 1 := (vc_X12_ring_24 h6 h4.1)
    refine sv_aload_n (pc := 26) dX2_leastBelow_26 rfl rfl ?_
    refine mr_iload_n (pc := 27) (z := p1) dX2_leastBelow_27 rfl rfl ?_
    refine mr_iload_n (pc := 28) (z := p2) dX2_leastBelow_28 rfl rfl ?_
    refine mr_iload_n (pc := 29) (z := p3) dX2_leastBelow_29 rfl rfl ?_
    refine mr_iconst (pc := 30) (z := 1) dX2_leastBelow_30 ?_
    refine mr_iadd (pc := 31) (x := p3) (y := 1) dX2_leastBelow_31 ?_
    refine mr_cVI (pc := 32) (c_X2_leastBelow_10 hw hT hp1 hp2 (rAdd (e := 10) (f := 10) hp3 (rR (x := 1)) rfl) (vc_X9_end_1 hq0 hp1)) (gOk _ _ _ _ _) dX2_leastBelow_32 (tX2_leastBelow _ _ _ _ _) ⟨wV_X2_leastBelow, wL_X2_leastBelow⟩ wM_X2_101 (gCX2 _ _ _ _ _) rfl (A_87 hw) rfl ⟨le_t rfl, le_t rfl⟩ ⟨le_t rfl, le_t rfl⟩ rfl (le_t rfl) fun z12 μ8 T9 F10 h11 => ?_
    refine mr_istore (pc := 35) (lv' := [(4, iv z12), (0, .ref 87), (1, iv p1), (2, iv p2), (3, iv p3)]) dX2_leastBelow_35 (by decide) rfl ?_
    refine sv_aload_n (pc := 37) dX2_leastBelow_37 rfl rfl ?_
    refine mr_iload_n (pc := 38) (z := p1) dX2_leastBelow_38 rfl rfl ?_
    refine mr_iload_n (pc := 39) (z := p2) dX2_leastBelow_39 rfl rfl ?_
    refine mr_iconst (pc := 40) (z := 1) dX2_leastBelow_40 ?_
    refine mr_bipush (pc := 41) (z := 31) dX2_leastBelow_41 (by decide) ?_
    refine mr_iload_n (pc := 43) (z := p3) dX2_leastBelow_43 rfl rfl ?_
    refine mr_isub (pc := 44) (x := 31) (y := p3) dX2_leastBelow_44 ?_
    refine mr_ishl (pc := 45) (x := 1) (y := (31 - p3)) dX2_leastBelow_45 ?_
    refine mr_gen (P := fun z => (-2147483648) ≤ z ∧ z ≤ 2147483647) (r32i _) fun z13 q14 h15 => ?_
    refine mr_ior (pc := 46) (x := p2) (y := z13) dX2_leastBelow_46 ?_
    refine mr_gen (P := fun z => (-2147483648) ≤ z ∧ z ≤ 2147483647) (r32i _) fun z16 q17 h18 => ?_
    refine mr_iload_n (pc := 47) (z := p3) dX2_leastBelow_47 rfl rfl ?_
    refine mr_iconst (pc := 48) (z := 1) dX2_leastBelow_48 ?_
    refine mr_iadd (pc := 49) (x := p3) (y := 1) dX2_leastBelow_49 ?_
    refine mr_cVI (pc := 50) (c_X2_leastBelow_10 hw T9 hp1 h18 (rAdd (e := 10) (f := 10) hp3 (rR (x := 1)) rfl) (vc_X9_end_1 hq0 hp1)) (gOk _ _ _ _ _) dX2_leastBelow_50 (tX2_leastBelow _ _ _ _ _) ⟨wV_X2_leastBelow, wL_X2_leastBelow⟩ wM_X2_101 (gCX2 _ _ _ _ _) rfl (A_87 hw) rfl ⟨le_t rfl, le_t rfl⟩ ⟨le_t rfl, le_t rfl⟩ rfl (le_t rfl) fun z23 μ19 T20 F21 h22 => ?_
    refine mr_istore (pc := 53) (lv' := [(5, iv z23), (4, iv z12), (0, .ref 87), (1, iv p1), (2, iv p2), (3, iv p3)]) dX2_leastBelow_53 (by decide) rfl ?_
    refine mr_iload (pc := 55) (z := z12) dX2_leastBelow_55 rfl ?_
    refine mr_iload (pc := 57) (z := z23) dX2_leastBelow_57 rfl ?_
    refine mr_iand (pc := 59) (x := z12) (y := z23) dX2_leastBelow_59 ?_
    refine mr_gen (P := fun z => (-2147483648) ≤ z ∧ z ≤ 2147483647) (r32i _) fun z24 q25 h26 => ?_
    refine mr_if_eq (pc := 60) (tgt := 69) dX2_leastBelow_60 (by decide) h26 (fun h27 => ?_) (fun h27 => ?_)
    · have h28 : 0 ≤ z24 ∧ z24 ≤ 0 := (vc_X12_mask_1 h27 h26)
      refine sv_aload_n (pc := 69) dX2_leastBelow_69 rfl rfl ?_
      refine sv_dup (pc := 70) dX2_leastBelow_70 rfl ?_
      refine gf_X2_7 (pc := 71) dX2_leastBelow_71 wF_X2_98 (A_87 hw) T20 fun z29 q30 h31 => ?_
      refine mr_iconst (pc := 74) (z := 1) dX2_leastBelow_74 ?_
      refine mr_iadd (pc := 75) (x := z29) (y := 1) dX2_leastBelow_75 ?_
      refine mr_wrap fun z32 h33 => ?_
      refine pf_X2_7 (pc := 76) dX2_leastBelow_76 wF_X2_98 (A_87 hw) T20 h33 fun μ34 u35 T36 => ?_
      refine mr_iload (pc := 79) (z := z12) dX2_leastBelow_79 rfl ?_
      refine mr_iload (pc := 81) (z := z23) dX2_leastBelow_81 rfl ?_
      refine mr_ior (pc := 83) (x := z12) (y := z23) dX2_leastBelow_83 ?_
      refine mr_gen (P := fun z => (-2147483648) ≤ z ∧ z ≤ 2147483647) (r32i _) fun z37 q38 h39 => ?_
      exact mr_iret dX2_leastBelow_84 rfl (le_t rfl) (le_t rfl) T36 (mF.up (mF.call (mF.call mF.refl F10 rfl) F21 rfl) (A_87 hw) u35 rfl) ⟨h39, trivial⟩
    refine mr_iload (pc := 63) (z := z12) dX2_leastBelow_63 rfl ?_
    refine mr_iload (pc := 65) (z := z23) dX2_leastBelow_65 rfl ?_
    refine mr_iand (pc := 67) (x := z12) (y := z23) dX2_leastBelow_67 ?_
    refine mr_gen (P := fun z => (-2147483648) ≤ z ∧ z ≤ 2147483647) (r32i _) fun z40 q41 h42 => ?_
    exact mr_iret dX2_leastBelow_68 rfl (le_t rfl) (le_t rfl) T20 (mF.call (mF.call mF.refl F10 rfl) F21 rfl) ⟨h42, trivial⟩
  have h43 : 0 ≤ z5 ∧ z5 ≤ 0 := (vc_X12_ring_22 h6 h4.1)
  refine sv_aload_n (pc := 16) dX2_leastBelow_16 rfl rfl ?_
  refine mr_iload_n (pc := 17) (z := p1) dX2_leastBelow_17 rfl rfl ?_
  refine mr_iload_n (pc := 18) (z := p2) dX2_leastBelow_18 rfl rfl ?_
  refine mr_cVP (pc := 19) (c_X2_tieFor hw hT hp1 hp2 (vc_X9_end_1 hq0 hp1)) (gOk _ _ _ _ _) dX2_leastBelow_19 (tX2_tieFor _ _ _ _ _) ⟨wV_X2_tieFor, wL_X2_tieFor⟩ wM_X2_60 (gCX2 _ _ _ _ _) rfl (A_87 hw) rfl ⟨le_t rfl, le_t rfl⟩ ⟨le_t rfl, le_t rfl⟩ rfl (le_t rfl) fun z48 h47 => ?_
  refine mr_cSP (pc := 22) (c_X2_aimBit hw hT h47.1) (gOk _ _ _ _ _) dX2_leastBelow_22 (tX2_aimBit _ _ _ _ _) wS_X2_aimBit wM_X2_110 ⟨le_t rfl, le_t rfl⟩ ⟨le_t rfl, le_t rfl⟩ rfl (le_t rfl) fun z53 h52 => ?_
  exact mr_iret dX2_leastBelow_25 rfl (le_t rfl) (le_t rfl) hT mF.refl ⟨h52.1, trivial⟩
theorem vc_X2_leastBelow_8_1 {p3 : Int} (h0 : 32 ≤ p3) (h1 : 8 ≤ p3 ∧ p3 ≤ 8) : False := by omega
set_option maxRecDepth 4000 in
set_option maxHeartbeats 4000000 in
theorem c_X2_leastBelow_8 {l : Launch} {D : va_G} {c : Nat → ClassId} {H0 : Heap} {sa : Nat × Nat × (Nat → Int32)} {w : mW} {μ : mM} (hw : mWF w) (hT : mT w μ) {p1 : Int} (hp1 : 0 ≤ p1 ∧ p1 ≤ 9) {p2 : Int} (hp2 : (-2147483648) ≤ p2 ∧ p2 ≤ 2147483647) {p3 : Int} (hp3 : 8 ≤ p3 ∧ p3 ≤ 8) (hq0 : p1 < w.2.2.2 0) : sC (gG l D c H0 sa) mX2_leastBelow 27 0 0 [.ref 87, iv p1, iv p2, iv p3] (mk w μ) (qI w [87007] μ (fun z μ1 => ((-2147483648) ≤ z ∧ z ≤ 2147483647) ∧ True)) := by
  refine sC.of rfl (by decide) (le_t rfl) ?_
  refine mr_lvE (lv' := [(0, .ref 87), (1, iv p1), (2, iv p2), (3, iv p3)]) rfl ?_
  refine mr_iload_n (pc := 0) (z := p3) dX2_leastBelow_0 rfl rfl ?_
  refine mr_bipush (pc := 1) (z := 32) dX2_leastBelow_1 (by decide) ?_
  refine mr_icmp_ge (pc := 3) (tgt := 16) dX2_leastBelow_3 (by decide) (r32 hp3 rfl) (r32 (rR (x := 32)) rfl) (fun h => ((vc_X2_leastBelow_8_1 h hp3)).elim) (fun _ => ?_)
  refine sv_aload_n (pc := 6) dX2_leastBelow_6 rfl rfl ?_
  refine mr_iload_n (pc := 7) (z := p1) dX2_leastBelow_7 rfl rfl ?_
  refine mr_iload_n (pc := 8) (z := p2) dX2_leastBelow_8 rfl rfl ?_
  refine mr_iload_n (pc := 9) (z := p3) dX2_leastBelow_9 rfl rfl ?_
  refine mr_cVP (pc := 10) (c_X2_isSplit hw hT hp1 hp2 (rW (c := (-2147483648)) (d := 2147483647) hp3 rfl) (vc_X9_end_1 hq0 hp1)) (gOk _ _ _ _ _) dX2_leastBelow_10 (tX2_isSplit _ _ _ _ _) ⟨wV_X2_isSplit, wL_X2_isSplit⟩ wM_X2_106 (gCX2 _ _ _ _ _) rfl (A_87 hw) rfl ⟨le_t rfl, le_t rfl⟩ ⟨le_t rfl, le_t rfl⟩ rfl (le_t rfl) fun z5 h4 => ?_
  refine mr_if_ne (pc := 13) (tgt := 26) dX2_leastBelow_13 (by decide) (r32 h4.1 rfl) (fun h6 => ?_) (fun h6 => ?_)
  · have h7 : 1 ≤ z5 ∧ z5 ≤ 1 := (vc_X12_ring_24 h6 h4.1)
    refine sv_aload_n (pc := 26) dX2_leastBelow_26 rfl rfl ?_
    refine mr_iload_n (pc := 27) (z := p1) dX2_leastBelow_27 rfl rfl ?_
    refine mr_iload_n (pc := 28) (z := p2) dX2_leastBelow_28 rfl rfl ?_
    refine mr_iload_n (pc := 29) (z := p3) dX2_leastBelow_29 rfl rfl ?_
    refine mr_iconst (pc := 30) (z := 1) dX2_leastBelow_30 ?_
    refine mr_iadd (pc := 31) (x := p3) (y := 1) dX2_leastBelow_31 ?_
    refine mr_cVI (pc := 32) (c_X2_leastBelow_9 hw hT hp1 hp2 (rAdd (e := 9) (f := 9) hp3 (rR (x := 1)) rfl) (vc_X9_end_1 hq0 hp1)) (gOk _ _ _ _ _) dX2_leastBelow_32 (tX2_leastBelow _ _ _ _ _) ⟨wV_X2_leastBelow, wL_X2_leastBelow⟩ wM_X2_101 (gCX2 _ _ _ _ _) rfl (A_87 hw) rfl ⟨le_t rfl, le_t rfl⟩ ⟨le_t rfl, le_t rfl⟩ rfl (le_t rfl) fun z12 μ8 T9 F10 h11 => ?_
    refine mr_istore (pc := 35) (lv' := [(4, iv z12), (0, .ref 87), (1, iv p1), (2, iv p2), (3, iv p3)]) dX2_leastBelow_35 (by decide) rfl ?_
    refine sv_aload_n (pc := 37) dX2_leastBelow_37 rfl rfl ?_
    refine mr_iload_n (pc := 38) (z := p1) dX2_leastBelow_38 rfl rfl ?_
    refine mr_iload_n (pc := 39) (z := p2) dX2_leastBelow_39 rfl rfl ?_
    refine mr_iconst (pc := 40) (z := 1) dX2_leastBelow_40 ?_
    refine mr_bipush (pc := 41) (z := 31) dX2_leastBelow_41 (by decide) ?_
    refine mr_iload_n (pc := 43) (z := p3) dX2_leastBelow_43 rfl rfl ?_
    refine mr_isub (pc := 44) (x := 31) (y := p3) dX2_leastBelow_44 ?_
    refine mr_ishl (pc := 45) (x := 1) (y := (31 - p3)) dX2_leastBelow_45 ?_
    refine mr_gen (P := fun z => (-2147483648) ≤ z ∧ z ≤ 2147483647) (r32i _) fun z13 q14 h15 => ?_
    refine mr_ior (pc := 46) (x := p2) (y := z13) dX2_leastBelow_46 ?_
    refine mr_gen (P := fun z => (-2147483648) ≤ z ∧ z ≤ 2147483647) (r32i _) fun z16 q17 h18 => ?_
    refine mr_iload_n (pc := 47) (z := p3) dX2_leastBelow_47 rfl rfl ?_
    refine mr_iconst (pc := 48) (z := 1) dX2_leastBelow_48 ?_
    refine mr_iadd (pc := 49) (x := p3) (y := 1) dX2_leastBelow_49 ?_
    refine mr_cVI (pc := 50) (c_X2_leastBelow_9 hw T9 hp1 h18 (rAdd (e := 9) (f := 9) hp3 (rR (x := 1)) rfl) (vc_X9_end_1 hq0 hp1)) (gOk _ _ _ _ _) dX2_leastBelow_50 (tX2_leastBelow _ _ _ _ _) ⟨wV_X2_leastBelow, wL_X2_leastBelow⟩ wM_X2_101 (gCX2 _ _ _ _ _) rfl (A_87 hw) rfl ⟨le_t rfl, le_t rfl⟩ ⟨le_t rfl, le_t rfl⟩ rfl (le_t rfl) fun z23 μ19 T20 F21 h22 => ?_
    refine mr_istore (pc := 53) (lv' := [(5, iv z23), (4, iv z12), (0, .ref 87), (1, iv p1), (2, iv p2), (3, iv p3)]) dX2_leastBelow_53 (by decide) rfl ?_
    refine mr_iload (pc := 55) (z := z12) dX2_leastBelow_55 rfl ?_
    refine mr_iload (pc := 57) (z := z23) dX2_leastBelow_57 rfl ?_
    refine mr_iand (pc := 59) (x := z12) (y := z23) dX2_leastBelow_59 ?_
    refine mr_gen (P := fun z => (-2147483648) ≤ z ∧ z ≤ 2147483647) (r32i _) fun z24 q25 h26 => ?_
    refine mr_if_eq (pc := 60) (tgt := 69) dX2_leastBelow_60 (by decide) h26 (fun h27 => ?_) (fun h27 => ?_)
    · have h28 : 0 ≤ z24 ∧ z24 ≤ 0 := (vc_X12_mask_1 h27 h26)
      refine sv_aload_n (pc := 69) dX2_leastBelow_69 rfl rfl ?_
      refine sv_dup (pc := 70) dX2_leastBelow_70 rfl ?_
      refine gf_X2_7 (pc := 71) dX2_leastBelow_71 wF_X2_98 (A_87 hw) T20 fun z29 q30 h31 => ?_
      refine mr_iconst (pc := 74) (z := 1) dX2_leastBelow_74 ?_
      refine mr_iadd (pc := 75) (x := z29) (y := 1) dX2_leastBelow_75 ?_
      refine mr_wrap fun z32 h33 => ?_
      refine pf_X2_7 (pc := 76) dX2_leastBelow_76 wF_X2_98 (A_87 hw) T20 h33 fun μ34 u35 T36 => ?_
      refine mr_iload (pc := 79) (z := z12) dX2_leastBelow_79 rfl ?_
      refine mr_iload (pc := 81) (z := z23) dX2_leastBelow_81 rfl ?_
      refine mr_ior (pc := 83) (x := z12) (y := z23) dX2_leastBelow_83 ?_
      refine mr_gen (P := fun z => (-2147483648) ≤ z ∧ z ≤ 2147483647) (r32i _) fun z37 q38 h39 => ?_
      exact mr_iret dX2_leastBelow_84 rfl (le_t rfl) (le_t rfl) T36 (mF.up (mF.call (mF.call mF.refl F10 rfl) F21 rfl) (A_87 hw) u35 rfl) ⟨h39, trivial⟩
    refine mr_iload (pc := 63) (z := z12) dX2_leastBelow_63 rfl ?_
    refine mr_iload (pc := 65) (z := z23) dX2_leastBelow_65 rfl ?_
    refine mr_iand (pc := 67) (x := z12) (y := z23) dX2_leastBelow_67 ?_
    refine mr_gen (P := fun z => (-2147483648) ≤ z ∧ z ≤ 2147483647) (r32i _) fun z40 q41 h42 => ?_
    exact mr_iret dX2_leastBelow_68 rfl (le_t rfl) (le_t rfl) T20 (mF.call (mF.call mF.refl F10 rfl) F21 rfl) ⟨h42, trivial⟩
  have h43 : 0 ≤ z5 ∧ z5 ≤ 0 := (vc_X12_ring_22 h6 h4.1)
  refine sv_aload_n (pc := 16) dX2_leastBelow_16 rfl rfl ?_
  refine mr_iload_n (pc := 17) (z := p1) dX2_leastBelow_17 rfl rfl ?_
  refine mr_iload_n (pc := 18) (z := p2) dX2_leastBelow_18 rfl rfl ?_
  refine mr_cVP (pc := 19) (c_X2_tieFor hw hT hp1 hp2 (vc_X9_end_1 hq0 hp1)) (gOk _ _ _ _ _) dX2_leastBelow_19 (tX2_tieFor _ _ _ _ _) ⟨wV_X2_tieFor, wL_X2_tieFor⟩ wM_X2_60 (gCX2 _ _ _ _ _) rfl (A_87 hw) rfl ⟨le_t rfl, le_t rfl⟩ ⟨le_t rfl, le_t rfl⟩ rfl (le_t rfl) fun z48 h47 => ?_
  refine mr_cSP (pc := 22) (c_X2_aimBit hw hT h47.1) (gOk _ _ _ _ _) dX2_leastBelow_22 (tX2_aimBit _ _ _ _ _) wS_X2_aimBit wM_X2_110 ⟨le_t rfl, le_t rfl⟩ ⟨le_t rfl, le_t rfl⟩ rfl (le_t rfl) fun z53 h52 => ?_
  exact mr_iret dX2_leastBelow_25 rfl (le_t rfl) (le_t rfl) hT mF.refl ⟨h52.1, trivial⟩
theorem vc_X2_leastBelow_7_1 {p3 : Int} (h0 : 32 ≤ p3) (h1 : 7 ≤ p3 ∧ p3 ≤ 7) : False := by omega
set_option maxRecDepth 4000 in
set_option maxHeartbeats 4000000 in
theorem c_X2_leastBelow_7 {l : Launch} {D : va_G} {c : Nat → ClassId} {H0 : Heap} {sa : Nat × Nat × (Nat → Int32)} {w : mW} {μ : mM} (hw : mWF w) (hT : mT w μ) {p1 : Int} (hp1 : 0 ≤ p1 ∧ p1 ≤ 9) {p2 : Int} (hp2 : (-2147483648) ≤ p2 ∧ p2 ≤ 2147483647) {p3 : Int} (hp3 : 7 ≤ p3 ∧ p3 ≤ 7) (hq0 : p1 < w.2.2.2 0) : sC (gG l D c H0 sa) mX2_leastBelow 28 0 0 [.ref 87, iv p1, iv p2, iv p3] (mk w μ) (qI w [87007] μ (fun z μ1 => ((-2147483648) ≤ z ∧ z ≤ 2147483647) ∧ True)) := by
  refine sC.of rfl (by decide) (le_t rfl) ?_
  refine mr_lvE (lv' := [(0, .ref 87), (1, iv p1), (2, iv p2), (3, iv p3)]) rfl ?_
  refine mr_iload_n (pc := 0) (z := p3) dX2_leastBelow_0 rfl rfl ?_
  refine mr_bipush (pc := 1) (z := 32) dX2_leastBelow_1 (by decide) ?_
  refine mr_icmp_ge (pc := 3) (tgt := 16) dX2_leastBelow_3 (by decide) (r32 hp3 rfl) (r32 (rR (x := 32)) rfl) (fun h => ((vc_X2_leastBelow_7_1 h hp3)).elim) (fun _ => ?_)
  refine sv_aload_n (pc := 6) dX2_leastBelow_6 rfl rfl ?_
  refine mr_iload_n (pc := 7) (z := p1) dX2_leastBelow_7 rfl rfl ?_
  refine mr_iload_n (pc := 8) (z := p2) dX2_leastBelow_8 rfl rfl ?_
  refine mr_iload_n (pc := 9) (z := p3) dX2_leastBelow_9 rfl rfl ?_
  refine mr_cVP (pc := 10) (c_X2_isSplit hw hT hp1 hp2 (rW (c := (-2147483648)) (d := 2147483647) hp3 rfl) (vc_X9_end_1 hq0 hp1)) (gOk _ _ _ _ _) dX2_leastBelow_10 (tX2_isSplit _ _ _ _ _) ⟨wV_X2_isSplit, wL_X2_isSplit⟩ wM_X2_106 (gCX2 _ _ _ _ _) rfl (A_87 hw) rfl ⟨le_t rfl, le_t rfl⟩ ⟨le_t rfl, le_t rfl⟩ rfl (le_t rfl) fun z5 h4 => ?_
  refine mr_if_ne (pc := 13) (tgt := 26) dX2_leastBelow_13 (by decide) (r32 h4.1 rfl) (fun h6 => ?_) (fun h6 => ?_)
  · have h7 : 1 ≤ z5 ∧ z5 ≤ 1 := (vc_X12_ring_24 h6 h4.1)
    refine sv_aload_n (pc := 26) dX2_leastBelow_26 rfl rfl ?_
    refine mr_iload_n (pc := 27) (z := p1) dX2_leastBelow_27 rfl rfl ?_
    refine mr_iload_n (pc := 28) (z := p2) dX2_leastBelow_28 rfl rfl ?_
    refine mr_iload_n (pc := 29) (z := p3) dX2_leastBelow_29 rfl rfl ?_
    refine mr_iconst (pc := 30) (z := 1) dX2_leastBelow_30 ?_
    refine mr_iadd (pc := 31) (x := p3) (y := 1) dX2_leastBelow_31 ?_
    refine mr_cVI (pc := 32) (c_X2_leastBelow_8 hw hT hp1 hp2 (rAdd (e := 8) (f := 8) hp3 (rR (x := 1)) rfl) (vc_X9_end_1 hq0 hp1)) (gOk _ _ _ _ _) dX2_leastBelow_32 (tX2_leastBelow _ _ _ _ _) ⟨wV_X2_leastBelow, wL_X2_leastBelow⟩ wM_X2_101 (gCX2 _ _ _ _ _) rfl (A_87 hw) rfl ⟨le_t rfl, le_t rfl⟩ ⟨le_t rfl, le_t rfl⟩ rfl (le_t rfl) fun z12 μ8 T9 F10 h11 => ?_
    refine mr_istore (pc := 35) (lv' := [(4, iv z12), (0, .ref 87), (1, iv p1), (2, iv p2), (3, iv p3)]) dX2_leastBelow_35 (by decide) rfl ?_
    refine sv_aload_n (pc := 37) dX2_leastBelow_37 rfl rfl ?_
    refine mr_iload_n (pc := 38) (z := p1) dX2_leastBelow_38 rfl rfl ?_
    refine mr_iload_n (pc := 39) (z := p2) dX2_leastBelow_39 rfl rfl ?_
    refine mr_iconst (pc := 40) (z := 1) dX2_leastBelow_40 ?_
    refine mr_bipush (pc := 41) (z := 31) dX2_leastBelow_41 (by decide) ?_
    refine mr_iload_n (pc := 43) (z := p3) dX2_leastBelow_43 rfl rfl ?_
    refine mr_isub (pc := 44) (x := 31) (y := p3) dX2_leastBelow_44 ?_
    refine mr_ishl (pc := 45) (x := 1) (y := (31 - p3)) dX2_leastBelow_45 ?_
    refine mr_gen (P := fun z => (-2147483648) ≤ z ∧ z ≤ 2147483647) (r32i _) fun z13 q14 h15 => ?_
    refine mr_ior (pc := 46) (x := p2) (y := z13) dX2_leastBelow_46 ?_
    refine mr_gen (P := fun z => (-2147483648) ≤ z ∧ z ≤ 2147483647) (r32i _) fun z16 q17 h18 => ?_
    refine mr_iload_n (pc := 47) (z := p3) dX2_leastBelow_47 rfl rfl ?_
    refine mr_iconst (pc := 48) (z := 1) dX2_leastBelow_48 ?_
    refine mr_iadd (pc := 49) (x := p3) (y := 1) dX2_leastBelow_49 ?_
    refine mr_cVI (pc := 50) (c_X2_leastBelow_8 hw T9 hp1 h18 (rAdd (e := 8) (f := 8) hp3 (rR (x := 1)) rfl) (vc_X9_end_1 hq0 hp1)) (gOk _ _ _ _ _) dX2_leastBelow_50 (tX2_leastBelow _ _ _ _ _) ⟨wV_X2_leastBelow, wL_X2_leastBelow⟩ wM_X2_101 (gCX2 _ _ _ _ _) rfl (A_87 hw) rfl ⟨le_t rfl, le_t rfl⟩ ⟨le_t rfl, le_t rfl⟩ rfl (le_t rfl) fun z23 μ19 T20 F21 h22 => ?_
    refine mr_istore (pc := 53) (lv' := [(5, iv z23), (4, iv z12), (0, .ref 87), (1, iv p1), (2, iv p2), (3, iv p3)]) dX2_leastBelow_53 (by decide) rfl ?_
    refine mr_iload (pc := 55) (z := z12) dX2_leastBelow_55 rfl ?_
    refine mr_iload (pc := 57) (z := z23) dX2_leastBelow_57 rfl ?_
    refine mr_iand (pc := 59) (x := z12) (y := z23) dX2_leastBelow_59 ?_
    refine mr_gen (P := fun z => (-2147483648) ≤ z ∧ z ≤ 2147483647) (r32i _) fun z24 q25 h26 => ?_
    refine mr_if_eq (pc := 60) (tgt := 69) dX2_leastBelow_60 (by decide) h26 (fun h27 => ?_) (fun h27 => ?_)
    · have h28 : 0 ≤ z24 ∧ z24 ≤ 0 := (vc_X12_mask_1 h27 h26)
      refine sv_aload_n (pc := 69) dX2_leastBelow_69 rfl rfl ?_
      refine sv_dup (pc := 70) dX2_leastBelow_70 rfl ?_
      refine gf_X2_7 (pc := 71) dX2_leastBelow_71 wF_X2_98 (A_87 hw) T20 fun z29 q30 h31 => ?_
      refine mr_iconst (pc := 74) (z := 1) dX2_leastBelow_74 ?_
      refine mr_iadd (pc := 75) (x := z29) (y := 1) dX2_leastBelow_75 ?_
      refine mr_wrap fun z32 h33 => ?_
      refine pf_X2_7 (pc := 76) dX2_leastBelow_76 wF_X2_98 (A_87 hw) T20 h33 fun μ34 u35 T36 => ?_
      refine mr_iload (pc := 79) (z := z12) dX2_leastBelow_79 rfl ?_
      refine mr_iload (pc := 81) (z := z23) dX2_leastBelow_81 rfl ?_
      refine mr_ior (pc := 83) (x := z12) (y := z23) dX2_leastBelow_83 ?_
      refine mr_gen (P := fun z => (-2147483648) ≤ z ∧ z ≤ 2147483647) (r32i _) fun z37 q38 h39 => ?_
      exact mr_iret dX2_leastBelow_84 rfl (le_t rfl) (le_t rfl) T36 (mF.up (mF.call (mF.call mF.refl F10 rfl) F21 rfl) (A_87 hw) u35 rfl) ⟨h39, trivial⟩
    refine mr_iload (pc := 63) (z := z12) dX2_leastBelow_63 rfl ?_
    refine mr_iload (pc := 65) (z := z23) dX2_leastBelow_65 rfl ?_
    refine mr_iand (pc := 67) (x := z12) (y := z23) dX2_leastBelow_67 ?_
    refine mr_gen (P := fun z => (-2147483648) ≤ z ∧ z ≤ 2147483647) (r32i _) fun z40 q41 h42 => ?_
    exact mr_iret dX2_leastBelow_68 rfl (le_t rfl) (le_t rfl) T20 (mF.call (mF.call mF.refl F10 rfl) F21 rfl) ⟨h42, trivial⟩
  have h43 : 0 ≤ z5 ∧ z5 ≤ 0 := (vc_X12_ring_22 h6 h4.1)
  refine sv_aload_n (pc := 16) dX2_leastBelow_16 rfl rfl ?_
  refine mr_iload_n (pc := 17) (z := p1) dX2_leastBelow_17 rfl rfl ?_
  refine mr_iload_n (pc := 18) (z := p2) dX2_leastBelow_18 rfl rfl ?_
  refine mr_cVP (pc := 19) (c_X2_tieFor hw hT hp1 hp2 (vc_X9_end_1 hq0 hp1)) (gOk _ _ _ _ _) dX2_leastBelow_19 (tX2_tieFor _ _ _ _ _) ⟨wV_X2_tieFor, wL_X2_tieFor⟩ wM_X2_60 (gCX2 _ _ _ _ _) rfl (A_87 hw) rfl ⟨le_t rfl, le_t rfl⟩ ⟨le_t rfl, le_t rfl⟩ rfl (le_t rfl) fun z48 h47 => ?_
  refine mr_cSP (pc := 22) (c_X2_aimBit hw hT h47.1) (gOk _ _ _ _ _) dX2_leastBelow_22 (tX2_aimBit _ _ _ _ _) wS_X2_aimBit wM_X2_110 ⟨le_t rfl, le_t rfl⟩ ⟨le_t rfl, le_t rfl⟩ rfl (le_t rfl) fun z53 h52 => ?_
  exact mr_iret dX2_leastBelow_25 rfl (le_t rfl) (le_t rfl) hT mF.refl ⟨h52.1, trivial⟩
theorem vc_X2_leastBelow_6_1 {p3 : Int} (h0 : 32 ≤ p3) (h1 : 6 ≤ p3 ∧ p3 ≤ 6) : False := by omega
set_option maxRecDepth 4000 in
set_option maxHeartbeats 4000000 in
theorem c_X2_leastBelow_6 {l : Launch} {D : va_G} {c : Nat → ClassId} {H0 : Heap} {sa : Nat × Nat × (Nat → Int32)} {w : mW} {μ : mM} (hw : mWF w) (hT : mT w μ) {p1 : Int} (hp1 : 0 ≤ p1 ∧ p1 ≤ 9) {p2 : Int} (hp2 : (-2147483648) ≤ p2 ∧ p2 ≤ 2147483647) {p3 : Int} (hp3 : 6 ≤ p3 ∧ p3 ≤ 6) (hq0 : p1 < w.2.2.2 0) : sC (gG l D c H0 sa) mX2_leastBelow 29 0 0 [.ref 87, iv p1, iv p2, iv p3] (mk w μ) (qI w [87007] μ (fun z μ1 => ((-2147483648) ≤ z ∧ z ≤ 2147483647) ∧ True)) := by
  refine sC.of rfl (by decide) (le_t rfl) ?_
  refine mr_lvE (lv' := [(0, .ref 87), (1, iv p1), (2, iv p2), (3, iv p3)]) rfl ?_
  refine mr_iload_n (pc := 0) (z := p3) dX2_leastBelow_0 rfl rfl ?_
  refine mr_bipush (pc := 1) (z := 32) dX2_leastBelow_1 (by decide) ?_
  refine mr_icmp_ge (pc := 3) (tgt := 16) dX2_leastBelow_3 (by decide) (r32 hp3 rfl) (r32 (rR (x := 32)) rfl) (fun h => ((vc_X2_leastBelow_6_1 h hp3)).elim) (fun _ => ?_)
  refine sv_aload_n (pc := 6) dX2_leastBelow_6 rfl rfl ?_
  refine mr_iload_n (pc := 7) (z := p1) dX2_leastBelow_7 rfl rfl ?_
  refine mr_iload_n (pc := 8) (z := p2) dX2_leastBelow_8 rfl rfl ?_
  refine mr_iload_n (pc := 9) (z := p3) dX2_leastBelow_9 rfl rfl ?_
  refine mr_cVP (pc := 10) (c_X2_isSplit hw hT hp1 hp2 (rW (c := (-2147483648)) (d := 2147483647) hp3 rfl) (vc_X9_end_1 hq0 hp1)) (gOk _ _ _ _ _) dX2_leastBelow_10 (tX2_isSplit _ _ _ _ _) ⟨wV_X2_isSplit, wL_X2_isSplit⟩ wM_X2_106 (gCX2 _ _ _ _ _) rfl (A_87 hw) rfl ⟨le_t rfl, le_t rfl⟩ ⟨le_t rfl, le_t rfl⟩ rfl (le_t rfl) fun z5 h4 => ?_
  refine mr_if_ne (pc := 13) (tgt := 26) dX2_leastBelow_13 (by decide) (r32 h4.1 rfl) (fun h6 => ?_) (fun h6 => ?_)
  · have h7 : 1 ≤ z5 ∧ z5 ≤ 1 := (vc_X12_ring_24 h6 h4.1)
    refine sv_aload_n (pc := 26) dX2_leastBelow_26 rfl rfl ?_
    refine mr_iload_n (pc := 27) (z := p1) dX2_leastBelow_27 rfl rfl ?_
    refine mr_iload_n (pc := 28) (z := p2) dX2_leastBelow_28 rfl rfl ?_
    refine mr_iload_n (pc := 29) (z := p3) dX2_leastBelow_29 rfl rfl ?_
    refine mr_iconst (pc := 30) (z := 1) dX2_leastBelow_30 ?_
    refine mr_iadd (pc := 31) (x := p3) (y := 1) dX2_leastBelow_31 ?_
    refine mr_cVI (pc := 32) (c_X2_leastBelow_7 hw hT hp1 hp2 (rAdd (e := 7) (f := 7) hp3 (rR (x := 1)) rfl) (vc_X9_end_1 hq0 hp1)) (gOk _ _ _ _ _) dX2_leastBelow_32 (tX2_leastBelow _ _ _ _ _) ⟨wV_X2_leastBelow, wL_X2_leastBelow⟩ wM_X2_101 (gCX2 _ _ _ _ _) rfl (A_87 hw) rfl ⟨le_t rfl, le_t rfl⟩ ⟨le_t rfl, le_t rfl⟩ rfl (le_t rfl) fun z12 μ8 T9 F10 h11 => ?_
    refine mr_istore (pc := 35) (lv' := [(4, iv z12), (0, .ref 87), (1, iv p1), (2, iv p2), (3, iv p3)]) dX2_leastBelow_35 (by decide) rfl ?_
    refine sv_aload_n (pc := 37) dX2_leastBelow_37 rfl rfl ?_
    refine mr_iload_n (pc := 38) (z := p1) dX2_leastBelow_38 rfl rfl ?_
    refine mr_iload_n (pc := 39) (z := p2) dX2_leastBelow_39 rfl rfl ?_
    refine mr_iconst (pc := 40) (z := 1) dX2_leastBelow_40 ?_
    refine mr_bipush (pc := 41) (z := 31) dX2_leastBelow_41 (by decide) ?_
    refine mr_iload_n (pc := 43) (z := p3) dX2_leastBelow_43 rfl rfl ?_
    refine mr_isub (pc := 44) (x := 31) (y := p3) dX2_leastBelow_44 ?_
    refine mr_ishl (pc := 45) (x := 1) (y := (31 - p3)) dX2_leastBelow_45 ?_
    refine mr_gen (P := fun z => (-2147483648) ≤ z ∧ z ≤ 2147483647) (r32i _) fun z13 q14 h15 => ?_
    refine mr_ior (pc := 46) (x := p2) (y := z13) dX2_leastBelow_46 ?_
    refine mr_gen (P := fun z => (-2147483648) ≤ z ∧ z ≤ 2147483647) (r32i _) fun z16 q17 h18 => ?_
    refine mr_iload_n (pc := 47) (z := p3) dX2_leastBelow_47 rfl rfl ?_
    refine mr_iconst (pc := 48) (z := 1) dX2_leastBelow_48 ?_
    refine mr_iadd (pc := 49) (x := p3) (y := 1) dX2_leastBelow_49 ?_
    refine mr_cVI (pc := 50) (c_X2_leastBelow_7 hw T9 hp1 h18 (rAdd (e := 7) (f := 7) hp3 (rR (x := 1)) rfl) (vc_X9_end_1 hq0 hp1)) (gOk _ _ _ _ _) dX2_leastBelow_50 (tX2_leastBelow _ _ _ _ _) ⟨wV_X2_leastBelow, wL_X2_leastBelow⟩ wM_X2_101 (gCX2 _ _ _ _ _) rfl (A_87 hw) rfl ⟨le_t rfl, le_t rfl⟩ ⟨le_t rfl, le_t rfl⟩ rfl (le_t rfl) fun z23 μ19 T20 F21 h22 => ?_
    refine mr_istore (pc := 53) (lv' := [(5, iv z23), (4, iv z12), (0, .ref 87), (1, iv p1), (2, iv p2), (3, iv p3)]) dX2_leastBelow_53 (by decide) rfl ?_
    refine mr_iload (pc := 55) (z := z12) dX2_leastBelow_55 rfl ?_
    refine mr_iload (pc := 57) (z := z23) dX2_leastBelow_57 rfl ?_
    refine mr_iand (pc := 59) (x := z12) (y := z23) dX2_leastBelow_59 ?_
    refine mr_gen (P := fun z => (-2147483648) ≤ z ∧ z ≤ 2147483647) (r32i _) fun z24 q25 h26 => ?_
    refine mr_if_eq (pc := 60) (tgt := 69) dX2_leastBelow_60 (by decide) h26 (fun h27 => ?_) (fun h27 => ?_)
    · have h28 : 0 ≤ z24 ∧ z24 ≤ 0 := (vc_X12_mask_1 h27 h26)
      refine sv_aload_n (pc := 69) dX2_leastBelow_69 rfl rfl ?_
      refine sv_dup (pc := 70) dX2_leastBelow_70 rfl ?_
      refine gf_X2_7 (pc := 71) dX2_leastBelow_71 wF_X2_98 (A_87 hw) T20 fun z29 q30 h31 => ?_
      refine mr_iconst (pc := 74) (z := 1) dX2_leastBelow_74 ?_
      refine mr_iadd (pc := 75) (x := z29) (y := 1) dX2_leastBelow_75 ?_
      refine mr_wrap fun z32 h33 => ?_
      refine pf_X2_7 (pc := 76) dX2_leastBelow_76 wF_X2_98 (A_87 hw) T20 h33 fun μ34 u35 T36 => ?_
      refine mr_iload (pc := 79) (z := z12) dX2_leastBelow_79 rfl ?_
      refine mr_iload (pc := 81) (z := z23) dX2_leastBelow_81 rfl ?_
      refine mr_ior (pc := 83) (x := z12) (y := z23) dX2_leastBelow_83 ?_
      refine mr_gen (P := fun z => (-2147483648) ≤ z ∧ z ≤ 2147483647) (r32i _) fun z37 q38 h39 => ?_
      exact mr_iret dX2_leastBelow_84 rfl (le_t rfl) (le_t rfl) T36 (mF.up (mF.call (mF.call mF.refl F10 rfl) F21 rfl) (A_87 hw) u35 rfl) ⟨h39, trivial⟩
    refine mr_iload (pc := 63) (z := z12) dX2_leastBelow_63 rfl ?_
    refine mr_iload (pc := 65) (z := z23) dX2_leastBelow_65 rfl ?_
    refine mr_iand (pc := 67) (x := z12) (y := z23) dX2_leastBelow_67 ?_
    refine mr_gen (P := fun z => (-2147483648) ≤ z ∧ z ≤ 2147483647) (r32i _) fun z40 q41 h42 => ?_
    exact mr_iret dX2_leastBelow_68 rfl (le_t rfl) (le_t rfl) T20 (mF.call (mF.call mF.refl F10 rfl) F21 rfl) ⟨h42, trivial⟩
  have h43 : 0 ≤ z5 ∧ z5 ≤ 0 := (vc_X12_ring_22 h6 h4.1)
  refine sv_aload_n (pc := 16) dX2_leastBelow_16 rfl rfl ?_
  refine mr_iload_n (pc := 17) (z := p1) dX2_leastBelow_17 rfl rfl ?_
  refine mr_iload_n (pc := 18) (z := p2) dX2_leastBelow_18 rfl rfl ?_
  refine mr_cVP (pc := 19) (c_X2_tieFor hw hT hp1 hp2 (vc_X9_end_1 hq0 hp1)) (gOk _ _ _ _ _) dX2_leastBelow_19 (tX2_tieFor _ _ _ _ _) ⟨wV_X2_tieFor, wL_X2_tieFor⟩ wM_X2_60 (gCX2 _ _ _ _ _) rfl (A_87 hw) rfl ⟨le_t rfl, le_t rfl⟩ ⟨le_t rfl, le_t rfl⟩ rfl (le_t rfl) fun z48 h47 => ?_
  refine mr_cSP (pc := 22) (c_X2_aimBit hw hT h47.1) (gOk _ _ _ _ _) dX2_leastBelow_22 (tX2_aimBit _ _ _ _ _) wS_X2_aimBit wM_X2_110 ⟨le_t rfl, le_t rfl⟩ ⟨le_t rfl, le_t rfl⟩ rfl (le_t rfl) fun z53 h52 => ?_
  exact mr_iret dX2_leastBelow_25 rfl (le_t rfl) (le_t rfl) hT mF.refl ⟨h52.1, trivial⟩
theorem vc_X2_leastBelow_5_1 {p3 : Int} (h0 : 32 ≤ p3) (h1 : 5 ≤ p3 ∧ p3 ≤ 5) : False := by omega
set_option maxRecDepth 4000 in
set_option maxHeartbeats 4000000 in
theorem c_X2_leastBelow_5 {l : Launch} {D : va_G} {c : Nat → ClassId} {H0 : Heap} {sa : Nat × Nat × (Nat → Int32)} {w : mW} {μ : mM} (hw : mWF w) (hT : mT w μ) {p1 : Int} (hp1 : 0 ≤ p1 ∧ p1 ≤ 9) {p2 : Int} (hp2 : (-2147483648) ≤ p2 ∧ p2 ≤ 2147483647) {p3 : Int} (hp3 : 5 ≤ p3 ∧ p3 ≤ 5) (hq0 : p1 < w.2.2.2 0) : sC (gG l D c H0 sa) mX2_leastBelow 30 0 0 [.ref 87, iv p1, iv p2, iv p3] (mk w μ) (qI w [87007] μ (fun z μ1 => ((-2147483648) ≤ z ∧ z ≤ 2147483647) ∧ True)) := by
  refine sC.of rfl (by decide) (le_t rfl) ?_
  refine mr_lvE (lv' := [(0, .ref 87), (1, iv p1), (2, iv p2), (3, iv p3)]) rfl ?_
  refine mr_iload_n (pc := 0) (z := p3) dX2_leastBelow_0 rfl rfl ?_
  refine mr_bipush (pc := 1) (z := 32) dX2_leastBelow_1 (by decide) ?_
  refine mr_icmp_ge (pc := 3) (tgt := 16) dX2_leastBelow_3 (by decide) (r32 hp3 rfl) (r32 (rR (x := 32)) rfl) (fun h => ((vc_X2_leastBelow_5_1 h hp3)).elim) (fun _ => ?_)
  refine sv_aload_n (pc := 6) dX2_leastBelow_6 rfl rfl ?_
  refine mr_iload_n (pc := 7) (z := p1) dX2_leastBelow_7 rfl rfl ?_
  refine mr_iload_n (pc := 8) (z := p2) dX2_leastBelow_8 rfl rfl ?_
  refine mr_iload_n (pc := 9) (z := p3) dX2_leastBelow_9 rfl rfl ?_
  refine mr_cVP (pc := 10) (c_X2_isSplit hw hT hp1 hp2 (rW (c := (-2147483648)) (d := 2147483647) hp3 rfl) (vc_X9_end_1 hq0 hp1)) (gOk _ _ _ _ _) dX2_leastBelow_10 (tX2_isSplit _ _ _ _ _) ⟨wV_X2_isSplit, wL_X2_isSplit⟩ wM_X2_106 (gCX2 _ _ _ _ _) rfl (A_87 hw) rfl ⟨le_t rfl, le_t rfl⟩ ⟨le_t rfl, le_t rfl⟩ rfl (le_t rfl) fun z5 h4 => ?_
  refine mr_if_ne (pc := 13) (tgt := 26) dX2_leastBelow_13 (by decide) (r32 h4.1 rfl) (fun h6 => ?_) (fun h6 => ?_)
  · have h7 : 1 ≤ z5 ∧ z5 ≤ 1 := (vc_X12_ring_24 h6 h4.1)
    refine sv_aload_n (pc := 26) dX2_leastBelow_26 rfl rfl ?_
    refine mr_iload_n (pc := 27) (z := p1) dX2_leastBelow_27 rfl rfl ?_
    refine mr_iload_n (pc := 28) (z := p2) dX2_leastBelow_28 rfl rfl ?_
    refine mr_iload_n (pc := 29) (z := p3) dX2_leastBelow_29 rfl rfl ?_
    refine mr_iconst (pc := 30) (z := 1) dX2_leastBelow_30 ?_
    refine mr_iadd (pc := 31) (x := p3) (y := 1) dX2_leastBelow_31 ?_
    refine mr_cVI (pc := 32) (c_X2_leastBelow_6 hw hT hp1 hp2 (rAdd (e := 6) (f := 6) hp3 (rR (x := 1)) rfl) (vc_X9_end_1 hq0 hp1)) (gOk _ _ _ _ _) dX2_leastBelow_32 (tX2_leastBelow _ _ _ _ _) ⟨wV_X2_leastBelow, wL_X2_leastBelow⟩ wM_X2_101 (gCX2 _ _ _ _ _) rfl (A_87 hw) rfl ⟨le_t rfl, le_t rfl⟩ ⟨le_t rfl, le_t rfl⟩ rfl (le_t rfl) fun z12 μ8 T9 F10 h11 => ?_
    refine mr_istore (pc := 35) (lv' := [(4, iv z12), (0, .ref 87), (1, iv p1), (2, iv p2), (3, iv p3)]) dX2_leastBelow_35 (by decide) rfl ?_
    refine sv_aload_n (pc := 37) dX2_leastBelow_37 rfl rfl ?_
    refine mr_iload_n (pc := 38) (z := p1) dX2_leastBelow_38 rfl rfl ?_
    refine mr_iload_n (pc := 39) (z := p2) dX2_leastBelow_39 rfl rfl ?_
    refine mr_iconst (pc := 40) (z := 1) dX2_leastBelow_40 ?_
    refine mr_bipush (pc := 41) (z := 31) dX2_leastBelow_41 (by decide) ?_
    refine mr_iload_n (pc := 43) (z := p3) dX2_leastBelow_43 rfl rfl ?_
    refine mr_isub (pc := 44) (x := 31) (y := p3) dX2_leastBelow_44 ?_
    refine mr_ishl (pc := 45) (x := 1) (y := (31 - p3)) dX2_leastBelow_45 ?_
    refine mr_gen (P := fun z => (-2147483648) ≤ z ∧ z ≤ 2147483647) (r32i _) fun z13 q14 h15 => ?_
    refine mr_ior (pc := 46) (x := p2) (y := z13) dX2_leastBelow_46 ?_
    refine mr_gen (P := fun z => (-2147483648) ≤ z ∧ z ≤ 2147483647) (r32i _) fun z16 q17 h18 => ?_
    refine mr_iload_n (pc := 47) (z := p3) dX2_leastBelow_47 rfl rfl ?_
    refine mr_iconst (pc := 48) (z := 1) dX2_leastBelow_48 ?_
    refine mr_iadd (pc := 49) (x := p3) (y := 1) dX2_leastBelow_49 ?_
    refine mr_cVI (pc := 50) (c_X2_leastBelow_6 hw T9 hp1 h18 (rAdd (e := 6) (f := 6) hp3 (rR (x := 1)) rfl) (vc_X9_end_1 hq0 hp1)) (gOk _ _ _ _ _) dX2_leastBelow_50 (tX2_leastBelow _ _ _ _ _) ⟨wV_X2_leastBelow, wL_X2_leastBelow⟩ wM_X2_101 (gCX2 _ _ _ _ _) rfl (A_87 hw) rfl ⟨le_t rfl, le_t rfl⟩ ⟨le_t rfl, le_t rfl⟩ rfl (le_t rfl) fun z23 μ19 T20 F21 h22 => ?_
    refine mr_istore (pc := 53) (lv' := [(5, iv z23), (4, iv z12), (0, .ref 87), (1, iv p1), (2, iv p2), (3, iv p3)]) dX2_leastBelow_53 (by decide) rfl ?_
    refine mr_iload (pc := 55) (z := z12) dX2_leastBelow_55 rfl ?_
    refine mr_iload (pc := 57) (z := z23) dX2_leastBelow_57 rfl ?_
    refine mr_iand (pc := 59) (x := z12) (y := z23) dX2_leastBelow_59 ?_
    refine mr_gen (P := fun z => (-2147483648) ≤ z ∧ z ≤ 2147483647) (r32i _) fun z24 q25 h26 => ?_
    refine mr_if_eq (pc := 60) (tgt := 69) dX2_leastBelow_60 (by decide) h26 (fun h27 => ?_) (fun h27 => ?_)
    · have h28 : 0 ≤ z24 ∧ z24 ≤ 0 := (vc_X12_mask_1 h27 h26)
      refine sv_aload_n (pc := 69) dX2_leastBelow_69 rfl rfl ?_
      refine sv_dup (pc := 70) dX2_leastBelow_70 rfl ?_
      refine gf_X2_7 (pc := 71) dX2_leastBelow_71 wF_X2_98 (A_87 hw) T20 fun z29 q30 h31 => ?_
      refine mr_iconst (pc := 74) (z := 1) dX2_leastBelow_74 ?_
      refine mr_iadd (pc := 75) (x := z29) (y := 1) dX2_leastBelow_75 ?_
      refine mr_wrap fun z32 h33 => ?_
      refine pf_X2_7 (pc := 76) dX2_leastBelow_76 wF_X2_98 (A_87 hw) T20 h33 fun μ34 u35 T36 => ?_
      refine mr_iload (pc := 79) (z := z12) dX2_leastBelow_79 rfl ?_
      refine mr_iload (pc := 81) (z := z23) dX2_leastBelow_81 rfl ?_
      refine mr_ior (pc := 83) (x := z12) (y := z23) dX2_leastBelow_83 ?_
      refine mr_gen (P := fun z => (-2147483648) ≤ z ∧ z ≤ 2147483647) (r32i _) fun z37 q38 h39 => ?_
      exact mr_iret dX2_leastBelow_84 rfl (le_t rfl) (le_t rfl) T36 (mF.up (mF.call (mF.call mF.refl F10 rfl) F21 rfl) (A_87 hw) u35 rfl) ⟨h39, trivial⟩
    refine mr_iload (pc := 63) (z := z12) dX2_leastBelow_63 rfl ?_
    refine mr_iload (pc := 65) (z := z23) dX2_leastBelow_65 rfl ?_
    refine mr_iand (pc := 67) (x := z12) (y := z23) dX2_leastBelow_67 ?_
    refine mr_gen (P := fun z => (-2147483648) ≤ z ∧ z ≤ 2147483647) (r32i _) fun z40 q41 h42 => ?_
    exact mr_iret dX2_leastBelow_68 rfl (le_t rfl) (le_t rfl) T20 (mF.call (mF.call mF.refl F10 rfl) F21 rfl) ⟨h42, trivial⟩
  have h43 : 0 ≤ z5 ∧ z5 ≤ 0 := (vc_X12_ring_22 h6 h4.1)
  refine sv_aload_n (pc := 16) dX2_leastBelow_16 rfl rfl ?_
  refine mr_iload_n (pc := 17) (z := p1) dX2_leastBelow_17 rfl rfl ?_
  refine mr_iload_n (pc := 18) (z := p2) dX2_leastBelow_18 rfl rfl ?_
  refine mr_cVP (pc := 19) (c_X2_tieFor hw hT hp1 hp2 (vc_X9_end_1 hq0 hp1)) (gOk _ _ _ _ _) dX2_leastBelow_19 (tX2_tieFor _ _ _ _ _) ⟨wV_X2_tieFor, wL_X2_tieFor⟩ wM_X2_60 (gCX2 _ _ _ _ _) rfl (A_87 hw) rfl ⟨le_t rfl, le_t rfl⟩ ⟨le_t rfl, le_t rfl⟩ rfl (le_t rfl) fun z48 h47 => ?_
  refine mr_cSP (pc := 22) (c_X2_aimBit hw hT h47.1) (gOk _ _ _ _ _) dX2_leastBelow_22 (tX2_aimBit _ _ _ _ _) wS_X2_aimBit wM_X2_110 ⟨le_t rfl, le_t rfl⟩ ⟨le_t rfl, le_t rfl⟩ rfl (le_t rfl) fun z53 h52 => ?_
  exact mr_iret dX2_leastBelow_25 rfl (le_t rfl) (le_t rfl) hT mF.refl ⟨h52.1, trivial⟩
end
section
theorem vc_X2_leastBelow_4_1 {p3 : Int} (h0 : 32 ≤ p3) (h1 : 4 ≤ p3 ∧ p3 ≤ 4) : False := by omega
set_option maxRecDepth 4000 in
set_option maxHeartbeats 4000000 in
theorem c_X2_leastBelow_4 {l : Launch} {D : va_G} {c : Nat → ClassId} {H0 : Heap} {sa : Nat × Nat × (Nat → Int32)} {w : mW} {μ : mM} (hw : mWF w) (hT : mT w μ) {p1 : Int} (hp1 : 0 ≤ p1 ∧ p1 ≤ 9) {p2 : Int} (hp2 : (-2147483648) ≤ p2 ∧ p2 ≤ 2147483647) {p3 : Int} (hp3 : 4 ≤ p3 ∧ p3 ≤ 4) (hq0 : p1 < w.2.2.2 0) : sC (gG l D c H0 sa) mX2_leastBelow 31 0 0 [.ref 87, iv p1, iv p2, iv p3] (mk w μ) (qI w [87007] μ (fun z μ1 => ((-2147483648) ≤ z ∧ z ≤ 2147483647) ∧ True)) := by
  refine sC.of rfl (by decide) (le_t rfl) ?_
  refine mr_lvE (lv' := [(0, .ref 87), (1, iv p1), (2, iv p2), (3, iv p3)]) rfl ?_
  refine mr_iload_n (pc := 0) (z := p3) dX2_leastBelow_0 rfl rfl ?_
  refine mr_bipush (pc := 1) (z := 32) dX2_leastBelow_1 (by decide) ?_
  refine mr_icmp_ge (pc := 3) (tgt := 16) dX2_leastBelow_3 (by decide) (r32 hp3 rfl) (r32 (rR (x := 32)) rfl) (fun h => ((vc_X2_leastBelow_4_1 h hp3)).elim) (fun _ => ?_)
  refine sv_aload_n (pc := 6) dX2_leastBelow_6 rfl rfl ?_
  refine mr_iload_n (pc := 7) (z := p1) dX2_leastBelow_7 rfl rfl ?_
  refine mr_iload_n (pc := 8) (z := p2) dX2_leastBelow_8 rfl rfl ?_
  refine mr_iload_n (pc := 9) (z := p3) dX2_leastBelow_9 rfl rfl ?_
  refine mr_cVP (pc := 10) (c_X2_isSplit hw hT hp1 hp2 (rW (c := (-2147483648)) (d := 2147483647) hp3 rfl) (vc_X9_end_1 hq0 hp1)) (gOk _ _ _ _ _) dX2_leastBelow_10 (tX2_isSplit _ _ _ _ _) ⟨wV_X2_isSplit, wL_X2_isSplit⟩ wM_X2_106 (gCX2 _ _ _ _ _) rfl (A_87 hw) rfl ⟨le_t rfl, le_t rfl⟩ ⟨le_t rfl, le_t rfl⟩ rfl (le_t rfl) fun z5 h4 => ?_
  refine mr_if_ne (pc := 13) (tgt := 26) dX2_leastBelow_13 (by decide) (r32 h4.1 rfl) (fun h6 => ?_) (fun h6 => ?_)
  · have h7 : 1 ≤ z5 ∧ z5 ≤ 1 := (vc_X12_ring_24 h6 h4.1)
    refine sv_aload_n (pc := 26) dX2_leastBelow_26 rfl rfl ?_
    refine mr_iload_n (pc := 27) (z := p1) dX2_leastBelow_27 rfl rfl ?_
    refine mr_iload_n (pc := 28) (z := p2) dX2_leastBelow_28 rfl rfl ?_
    refine mr_iload_n (pc := 29) (z := p3) dX2_leastBelow_29 rfl rfl ?_
    refine mr_iconst (pc := 30) (z := 1) dX2_leastBelow_30 ?_
    refine mr_iadd (pc := 31) (x := p3) (y := 1) dX2_leastBelow_31 ?_
    refine mr_cVI (pc := 32) (c_X2_leastBelow_5 hw hT hp1 hp2 (rAdd (e := 5) (f := 5) hp3 (rR (x := 1)) rfl) (vc_X9_end_1 hq0 hp1)) (gOk _ _ _ _ _) dX2_leastBelow_32 (tX2_leastBelow _ _ _ _ _) ⟨wV_X2_leastBelow, wL_X2_leastBelow⟩ wM_X2_101 (gCX2 _ _ _ _ _) rfl (A_87 hw) rfl ⟨le_t rfl, le_t rfl⟩ ⟨le_t rfl, le_t rfl⟩ rfl (le_t rfl) fun z12 μ8 T9 F10 h11 => ?_
    refine mr_istore (pc := 35) (lv' := [(4, iv z12), (0, .ref 87), (1, iv p1), (2, iv p2), (3, iv p3)]) dX2_leastBelow_35 (by decide) rfl ?_
    refine sv_aload_n (pc := 37) dX2_leastBelow_37 rfl rfl ?_
    refine mr_iload_n (pc := 38) (z := p1) dX2_leastBelow_38 rfl rfl ?_
    refine mr_iload_n (pc := 39) (z := p2) dX2_leastBelow_39 rfl rfl ?_
    refine mr_iconst (pc := 40) (z := 1) dX2_leastBelow_40 ?_
    refine mr_bipush (pc := 41) (z := 31) dX2_leastBelow_41 (by decide) ?_
    refine mr_iload_n (pc := 43) (z := p3) dX2_leastBelow_43 rfl rfl ?_
    refine mr_isub (pc := 44) (x := 31) (y := p3) dX2_leastBelow_44 ?_
    refine mr_ishl (pc := 45) (x := 1) (y := (31 - p3)) dX2_leastBelow_45 ?_
    refine mr_gen (P := fun z => (-2147483648) ≤ z ∧ z ≤ 2147483647) (r32i _) fun z13 q14 h15 => ?_
    refine mr_ior (pc := 46) (x := p2) (y := z13) dX2_leastBelow_46 ?_
    refine mr_gen (P := fun z => (-2147483648) ≤ z ∧ z ≤ 2147483647) (r32i _) fun z16 q17 h18 => ?_
    refine mr_iload_n (pc := 47) (z := p3) dX2_leastBelow_47 rfl rfl ?_
    refine mr_iconst (pc := 48) (z := 1) dX2_leastBelow_48 ?_
    refine mr_iadd (pc := 49) (x := p3) (y := 1) dX2_leastBelow_49 ?_
    refine mr_cVI (pc := 50) (c_X2_leastBelow_5 hw T9 hp1 h18 (rAdd (e := 5) (f := 5) hp3 (rR (x := 1)) rfl) (vc_X9_end_1 hq0 hp1)) (gOk _ _ _ _ _) dX2_leastBelow_50 (tX2_leastBelow _ _ _ _ _) ⟨wV_X2_leastBelow, wL_X2_leastBelow⟩ wM_X2_101 (gCX2 _ _ _ _ _) rfl (A_87 hw) rfl ⟨le_t rfl, le_t rfl⟩ ⟨le_t rfl, le_t rfl⟩ rfl (le_t rfl) fun z23 μ19 T20 F21 h22 => ?_
    refine mr_istore (pc := 53) (lv' := [(5, iv z23), (4, iv z12), (0, .ref 87), (1, iv p1), (2, iv p2), (3, iv p3)]) dX2_leastBelow_53 (by decide) rfl ?_
    refine mr_iload (pc := 55) (z := z12) dX2_leastBelow_55 rfl ?_
    refine mr_iload (pc := 57) (z := z23) dX2_leastBelow_57 rfl ?_
    refine mr_iand (pc := 59) (x := z12) (y := z23) dX2_leastBelow_59 ?_
    refine mr_gen (P := fun z => (-2147483648) ≤ z ∧ z ≤ 2147483647) (r32i _) fun z24 q25 h26 => ?_
    refine mr_if_eq (pc := 60) (tgt := 69) dX2_leastBelow_60 (by decide) h26 (fun h27 => ?_) (fun h27 => ?_)
    · have h28 : 0 ≤ z24 ∧ z24 ≤ 0 := (vc_X12_mask_1 h27 h26)
      refine sv_aload_n (pc := 69) dX2_leastBelow_69 rfl rfl ?_
      refine sv_dup (pc := 70) dX2_leastBelow_70 rfl ?_
      refine gf_X2_7 (pc := 71) dX2_leastBelow_71 wF_X2_98 (A_87 hw) T20 fun z29 q30 h31 => ?_
      refine mr_iconst (pc := 74) (z := 1) dX2_leastBelow_74 ?_
      refine mr_iadd (pc := 75) (x := z29) (y := 1) dX2_leastBelow_75 ?_
      refine mr_wrap fun z32 h33 => ?_
      refine pf_X2_7 (pc := 76) dX2_leastBelow_76 wF_X2_98 (A_87 hw) T20 h33 fun μ34 u35 T36 => ?_
      refine mr_iload (pc := 79) (z := z12) dX2_leastBelow_79 rfl ?_
      refine mr_iload (pc := 81) (z := z23) dX2_leastBelow_81 rfl ?_
      refine mr_ior (pc := 83) (x := z12) (y := z23) dX2_leastBelow_83 ?_
      refine mr_gen (P := fun z => (-2147483648) ≤ z ∧ z ≤ 2147483647) (r32i _) fun z37 q38 h39 => ?_
      exact mr_iret dX2_leastBelow_84 rfl (le_t rfl) (le_t rfl) T36 (mF.up (mF.call (mF.call mF.refl F10 rfl) F21 rfl) (A_87 hw) u35 rfl) ⟨h39, trivial⟩
    refine mr_iload (pc := 63) (z := z12) dX2_leastBelow_63 rfl ?_
    refine mr_iload (pc := 65) (z := z23) dX2_leastBelow_65 rfl ?_
    refine mr_iand (pc := 67) (x := z12) (y := z23) dX2_leastBelow_67 ?_
    refine mr_gen (P := fun z => (-2147483648) ≤ z ∧ z ≤ 2147483647) (r32i _) fun z40 q41 h42 => ?_
    exact mr_iret dX2_leastBelow_68 rfl (le_t rfl) (le_t rfl) T20 (mF.call (mF.call mF.refl F10 rfl) F21 rfl) ⟨h42, trivial⟩
  have h43 : 0 ≤ z5 ∧ z5 ≤ 0 := (vc_X12_ring_22 h6 h4.1)
  refine sv_aload_n (pc := 16) dX2_leastBelow_16 rfl rfl ?_
  refine mr_iload_n (pc := 17) (z := p1) dX2_leastBelow_17 rfl rfl ?_
  refine mr_iload_n (pc := 18) (z := p2) dX2_leastBelow_18 rfl rfl ?_
  refine mr_cVP (pc := 19) (c_X2_tieFor hw hT hp1 hp2 (vc_X9_end_1 hq0 hp1)) (gOk _ _ _ _ _) dX2_leastBelow_19 (tX2_tieFor _ _ _ _ _) ⟨wV_X2_tieFor, wL_X2_tieFor⟩ wM_X2_60 (gCX2 _ _ _ _ _) rfl (A_87 hw) rfl ⟨le_t rfl, le_t rfl⟩ ⟨le_t rfl, le_t rfl⟩ rfl (le_t rfl) fun z48 h47 => ?_
  refine mr_cSP (pc := 22) (c_X2_aimBit hw hT h47.1) (gOk _ _ _ _ _) dX2_leastBelow_22 (tX2_aimBit _ _ _ _ _) wS_X2_aimBit wM_X2_110 ⟨le_t rfl, le_t rfl⟩ ⟨le_t rfl, le_t rfl⟩ rfl (le_t rfl) fun z53 h52 => ?_
  exact mr_iret dX2_leastBelow_25 rfl (le_t rfl) (le_t rfl) hT mF.refl ⟨h52.1, trivial⟩
theorem vc_X2_leastBelow_3_1 {p3 : Int} (h0 : 32 ≤ p3) (h1 : 3 ≤ p3 ∧ p3 ≤ 3) : False := by omega
set_option maxRecDepth 4000 in
set_option maxHeartbeats 4000000 in
theorem c_X2_leastBelow_3 {l : Launch} {D : va_G} {c : Nat → ClassId} {H0 : Heap} {sa : Nat × Nat × (Nat → Int32)} {w : mW} {μ : mM} (hw : mWF w) (hT : mT w μ) {p1 : Int} (hp1 : 0 ≤ p1 ∧ p1 ≤ 9) {p2 : Int} (hp2 : (-2147483648) ≤ p2 ∧ p2 ≤ 2147483647) {p3 : Int} (hp3 : 3 ≤ p3 ∧ p3 ≤ 3) (hq0 : p1 < w.2.2.2 0) : sC (gG l D c H0 sa) mX2_leastBelow 32 0 0 [.ref 87, iv p1, iv p2, iv p3] (mk w μ) (qI w [87007] μ (fun z μ1 => ((-2147483648) ≤ z ∧ z ≤ 2147483647) ∧ True)) := by
  refine sC.of rfl (by decide) (le_t rfl) ?_
  refine mr_lvE (lv' := [(0, .ref 87), (1, iv p1), (2, iv p2), (3, iv p3)]) rfl ?_
  refine mr_iload_n (pc := 0) (z := p3) dX2_leastBelow_0 rfl rfl ?_
  refine mr_bipush (pc := 1) (z := 32) dX2_leastBelow_1 (by decide) ?_
  refine mr_icmp_ge (pc := 3) (tgt := 16) dX2_leastBelow_3 (by decide) (r32 hp3 rfl) (r32 (rR (x := 32)) rfl) (fun h => ((vc_X2_leastBelow_3_1 h hp3)).elim) (fun _ => ?_)
  refine sv_aload_n (pc := 6) dX2_leastBelow_6 rfl rfl ?_
  refine mr_iload_n (pc := 7) (z := p1) dX2_leastBelow_7 rfl rfl ?_
  refine mr_iload_n (pc := 8) (z := p2) dX2_leastBelow_8 rfl rfl ?_
  refine mr_iload_n (pc := 9) (z := p3) dX2_leastBelow_9 rfl rfl ?_
  refine mr_cVP (pc := 10) (c_X2_isSplit hw hT hp1 hp2 (rW (c := (-2147483648)) (d := 2147483647) hp3 rfl) (vc_X9_end_1 hq0 hp1)) (gOk _ _ _ _ _) dX2_leastBelow_10 (tX2_isSplit _ _ _ _ _) ⟨wV_X2_isSplit, wL_X2_isSplit⟩ wM_X2_106 (gCX2 _ _ _ _ _) rfl (A_87 hw) rfl ⟨le_t rfl, le_t rfl⟩ ⟨le_t rfl, le_t rfl⟩ rfl (le_t rfl) fun z5 h4 => ?_
  refine mr_if_ne (pc := 13) (tgt := 26) dX2_leastBelow_13 (by decide) (r32 h4.1 rfl) (fun h6 => ?_) (fun h6 => ?_)
  · have h7 : 1 ≤ z5 ∧ z5 ≤ 1 := (vc_X12_ring_24 h6 h4.1)
    refine sv_aload_n (pc := 26) dX2_leastBelow_26 rfl rfl ?_
    refine mr_iload_n (pc := 27) (z := p1) dX2_leastBelow_27 rfl rfl ?_
    refine mr_iload_n (pc := 28) (z := p2) dX2_leastBelow_28 rfl rfl ?_
    refine mr_iload_n (pc := 29) (z := p3) dX2_leastBelow_29 rfl rfl ?_
    refine mr_iconst (pc := 30) (z := 1) dX2_leastBelow_30 ?_
    refine mr_iadd (pc := 31) (x := p3) (y := 1) dX2_leastBelow_31 ?_
    refine mr_cVI (pc := 32) (c_X2_leastBelow_4 hw hT hp1 hp2 (rAdd (e := 4) (f := 4) hp3 (rR (x := 1)) rfl) (vc_X9_end_1 hq0 hp1)) (gOk _ _ _ _ _) dX2_leastBelow_32 (tX2_leastBelow _ _ _ _ _) ⟨wV_X2_leastBelow, wL_X2_leastBelow⟩ wM_X2_101 (gCX2 _ _ _ _ _) rfl (A_87 hw) rfl ⟨le_t rfl, le_t rfl⟩ ⟨le_t rfl, le_t rfl⟩ rfl (le_t rfl) fun z12 μ8 T9 F10 h11 => ?_
    refine mr_istore (pc := 35) (lv' := [(4, iv z12), (0, .ref 87), (1, iv p1), (2, iv p2), (3, iv p3)]) dX2_leastBelow_35 (by decide) rfl ?_
    refine sv_aload_n (pc := 37) dX2_leastBelow_37 rfl rfl ?_
    refine mr_iload_n (pc := 38) (z := p1) dX2_leastBelow_38 rfl rfl ?_
    refine mr_iload_n (pc := 39) (z := p2) dX2_leastBelow_39 rfl rfl ?_
    refine mr_iconst (pc := 40) (z := 1) dX2_leastBelow_40 ?_
    refine mr_bipush (pc := 41) (z := 31) dX2_leastBelow_41 (by decide) ?_
    refine mr_iload_n (pc := 43) (z := p3) dX2_leastBelow_43 rfl rfl ?_
    refine mr_isub (pc := 44) (x := 31) (y := p3) dX2_leastBelow_44 ?_
    refine mr_ishl (pc := 45) (x := 1) (y := (31 - p3)) dX2_leastBelow_45 ?_
    refine mr_gen (P := fun z => (-2147483648) ≤ z ∧ z ≤ 2147483647) (r32i _) fun z13 q14 h15 => ?_
    refine mr_ior (pc := 46) (x := p2) (y := z13) dX2_leastBelow_46 ?_
    refine mr_gen (P := fun z => (-2147483648) ≤ z ∧ z ≤ 2147483647) (r32i _) fun z16 q17 h18 => ?_
    refine mr_iload_n (pc := 47) (z := p3) dX2_leastBelow_47 rfl rfl ?_
    refine mr_iconst (pc := 48) (z := 1) dX2_leastBelow_48 ?_
    refine mr_iadd (pc := 49) (x := p3) (y := 1) dX2_leastBelow_49 ?_
    refine mr_cVI (pc := 50) (c_X2_leastBelow_4 hw T9 hp1 h18 (rAdd (e := 4) (f := 4) hp3 (rR (x := 1)) rfl) (vc_X9_end_1 hq0 hp1)) (gOk _ _ _ _ _) dX2_leastBelow_50 (tX2_leastBelow _ _ _ _ _) ⟨wV_X2_leastBelow, wL_X2_leastBelow⟩ wM_X2_101 (gCX2 _ _ _ _ _) rfl (A_87 hw) rfl ⟨le_t rfl, le_t rfl⟩ ⟨le_t rfl, le_t rfl⟩ rfl (le_t rfl) fun z23 μ19 T20 F21 h22 => ?_
    refine mr_istore (pc := 53) (lv' := [(5, iv z23), (4, iv z12), (0, .ref 87), (1, iv p1), (2, iv p2), (3, iv p3)]) dX2_leastBelow_53 (by decide) rfl ?_
    refine mr_iload (pc := 55) (z := z12) dX2_leastBelow_55 rfl ?_
    refine mr_iload (pc := 57) (z := z23) dX2_leastBelow_57 rfl ?_
    refine mr_iand (pc := 59) (x := z12) (y := z23) dX2_leastBelow_59 ?_
    refine mr_gen (P := fun z => (-2147483648) ≤ z ∧ z ≤ 2147483647) (r32i _) fun z24 q25 h26 => ?_
    refine mr_if_eq (pc := 60) (tgt := 69) dX2_leastBelow_60 (by decide) h26 (fun h27 => ?_) (fun h27 => ?_)
    · have h28 : 0 ≤ z24 ∧ z24 ≤ 0 := (vc_X12_mask_1 h27 h26)
      refine sv_aload_n (pc := 69) dX2_leastBelow_69 rfl rfl ?_
      refine sv_dup (pc := 70) dX2_leastBelow_70 rfl ?_
      refine gf_X2_7 (pc := 71) dX2_leastBelow_71 wF_X2_98 (A_87 hw) T20 fun z29 q30 h31 => ?_
      refine mr_iconst (pc := 74) (z := 1) dX2_leastBelow_74 ?_
      refine mr_iadd (pc := 75) (x := z29) (y := 1) dX2_leastBelow_75 ?_
      refine mr_wrap fun z32 h33 => ?_
      refine pf_X2_7 (pc := 76) dX2_leastBelow_76 wF_X2_98 (A_87 hw) T20 h33 fun μ34 u35 T36 => ?_
      refine mr_iload (pc := 79) (z := z12) dX2_leastBelow_79 rfl ?_
      refine mr_iload (pc := 81) (z := z23) dX2_leastBelow_81 rfl ?_
      refine mr_ior (pc := 83) (x := z12) (y := z23) dX2_leastBelow_83 ?_
      refine mr_gen (P := fun z => (-2147483648) ≤ z ∧ z ≤ 2147483647) (r32i _) fun z37 q38 h39 => ?_
      exact mr_iret dX2_leastBelow_84 rfl (le_t rfl) (le_t rfl) T36 (mF.up (mF.call (mF.call mF.refl F10 rfl) F21 rfl) (A_87 hw) u35 rfl) ⟨h39, trivial⟩
    refine mr_iload (pc := 63) (z := z12) dX2_leastBelow_63 rfl ?_
    refine mr_iload (pc := 65) (z := z23) dX2_leastBelow_65 rfl ?_
    refine mr_iand (pc := 67) (x := z12) (y := z23) dX2_leastBelow_67 ?_
    refine mr_gen (P := fun z => (-2147483648) ≤ z ∧ z ≤ 2147483647) (r32i _) fun z40 q41 h42 => ?_
    exact mr_iret dX2_leastBelow_68 rfl (le_t rfl) (le_t rfl) T20 (mF.call (mF.call mF.refl F10 rfl) F21 rfl) ⟨h42, trivial⟩
  have h43 : 0 ≤ z5 ∧ z5 ≤ 0 := (vc_X12_ring_22 h6 h4.1)
  refine sv_aload_n (pc := 16) dX2_leastBelow_16 rfl rfl ?_
  refine mr_iload_n (pc := 17) (z := p1) dX2_leastBelow_17 rfl rfl ?_
  refine mr_iload_n (pc := 18) (z := p2) dX2_leastBelow_18 rfl rfl ?_
  refine mr_cVP (pc := 19) (c_X2_tieFor hw hT hp1 hp2 (vc_X9_end_1 hq0 hp1)) (gOk _ _ _ _ _) dX2_leastBelow_19 (tX2_tieFor _ _ _ _ _) ⟨wV_X2_tieFor, wL_X2_tieFor⟩ wM_X2_60 (gCX2 _ _ _ _ _) rfl (A_87 hw) rfl ⟨le_t rfl, le_t rfl⟩ ⟨le_t rfl, le_t rfl⟩ rfl (le_t rfl) fun z48 h47 => ?_
  refine mr_cSP (pc := 22) (c_X2_aimBit hw hT h47.1) (gOk _ _ _ _ _) dX2_leastBelow_22 (tX2_aimBit _ _ _ _ _) wS_X2_aimBit wM_X2_110 ⟨le_t rfl, le_t rfl⟩ ⟨le_t rfl, le_t rfl⟩ rfl (le_t rfl) fun z53 h52 => ?_
  exact mr_iret dX2_leastBelow_25 rfl (le_t rfl) (le_t rfl) hT mF.refl ⟨h52.1, trivial⟩
theorem vc_X2_leastBelow_2_1 {p3 : Int} (h0 : 32 ≤ p3) (h1 : 2 ≤ p3 ∧ p3 ≤ 2) : False := by omega
set_option maxRecDepth 4000 in
set_option maxHeartbeats 4000000 in
theorem c_X2_leastBelow_2 {l : Launch} {D : va_G} {c : Nat → ClassId} {H0 : Heap} {sa : Nat × Nat × (Nat → Int32)} {w : mW} {μ : mM} (hw : mWF w) (hT : mT w μ) {p1 : Int} (hp1 : 0 ≤ p1 ∧ p1 ≤ 9) {p2 : Int} (hp2 : (-2147483648) ≤ p2 ∧ p2 ≤ 2147483647) {p3 : Int} (hp3 : 2 ≤ p3 ∧ p3 ≤ 2) (hq0 : p1 < w.2.2.2 0) : sC (gG l D c H0 sa) mX2_leastBelow 33 0 0 [.ref 87, iv p1, iv p2, iv p3] (mk w μ) (qI w [87007] μ (fun z μ1 => ((-2147483648) ≤ z ∧ z ≤ 2147483647) ∧ True)) := by
  refine sC.of rfl (by decide) (le_t rfl) ?_
  refine mr_lvE (lv' := [(0, .ref 87), (1, iv p1), (2, iv p2), (3, iv p3)]) rfl ?_
  refine mr_iload_n (pc := 0) (z := p3) dX2_leastBelow_0 rfl rfl ?_
  refine mr_bipush (pc := 1) (z := 32) dX2_leastBelow_1 (by decide) ?_
  refine mr_icmp_ge (pc := 3) (tgt := 16) dX2_leastBelow_3 (by decide) (r32 hp3 rfl) (r32 (rR (x := 32)) rfl) (fun h => ((vc_X2_leastBelow_2_1 h hp3)).elim) (fun _ => ?_)
  refine sv_aload_n (pc := 6) dX2_leastBelow_6 rfl rfl ?_
  refine mr_iload_n (pc := 7) (z := p1) dX2_leastBelow_7 rfl rfl ?_
  refine mr_iload_n (pc := 8) (z := p2) dX2_leastBelow_8 rfl rfl ?_
  refine mr_iload_n (pc := 9) (z := p3) dX2_leastBelow_9 rfl rfl ?_
  refine mr_cVP (pc := 10) (c_X2_isSplit hw hT hp1 hp2 (rW (c := (-2147483648)) (d := 2147483647) hp3 rfl) (vc_X9_end_1 hq0 hp1)) (gOk _ _ _ _ _) dX2_leastBelow_10 (tX2_isSplit _ _ _ _ _) ⟨wV_X2_isSplit, wL_X2_isSplit⟩ wM_X2_106 (gCX2 _ _ _ _ _) rfl (A_87 hw) rfl ⟨le_t rfl, le_t rfl⟩ ⟨le_t rfl, le_t rfl⟩ rfl (le_t rfl) fun z5 h4 => ?_
  refine mr_if_ne (pc := 13) (tgt := 26) dX2_leastBelow_13 (by decide) (r32 h4.1 rfl) (fun h6 => ?_) (fun h6 => ?_)
  · have h7 : 1 ≤ z5 ∧ z5 ≤ 1 := (vc_X12_ring_24 h6 h4.1)
    refine sv_aload_n (pc := 26) dX2_leastBelow_26 rfl rfl ?_
    refine mr_iload_n (pc := 27) (z := p1) dX2_leastBelow_27 rfl rfl ?_
    refine mr_iload_n (pc := 28) (z := p2) dX2_leastBelow_28 rfl rfl ?_
    refine mr_iload_n (pc := 29) (z := p3) dX2_leastBelow_29 rfl rfl ?_
    refine mr_iconst (pc := 30) (z := 1) dX2_leastBelow_30 ?_
    refine mr_iadd (pc := 31) (x := p3) (y := 1) dX2_leastBelow_31 ?_
    refine mr_cVI (pc := 32) (c_X2_leastBelow_3 hw hT hp1 hp2 (rAdd (e := 3) (f := 3) hp3 (rR (x := 1)) rfl) (vc_X9_end_1 hq0 hp1)) (gOk _ _ _ _ _) dX2_leastBelow_32 (tX2_leastBelow _ _ _ _ _) ⟨wV_X2_leastBelow, wL_X2_leastBelow⟩ wM_X2_101 (gCX2 _ _ _ _ _) rfl (A_87 hw) rfl ⟨le_t rfl, le_t rfl⟩ ⟨le_t rfl, le_t rfl⟩ rfl (le_t rfl) fun z12 μ8 T9 F10 h11 => ?_
    refine mr_istore (pc := 35) (lv' := [(4, iv z12), (0, .ref 87), (1, iv p1), (2, iv p2), (3, iv p3)]) dX2_leastBelow_35 (by decide) rfl ?_
    refine sv_aload_n (pc := 37) dX2_leastBelow_37 rfl rfl ?_
    refine mr_iload_n (pc := 38) (z := p1) dX2_leastBelow_38 rfl rfl ?_
    refine mr_iload_n (pc := 39) (z := p2) dX2_leastBelow_39 rfl rfl ?_
    refine mr_iconst (pc := 40) (z := 1) dX2_leastBelow_40 ?_
    refine mr_bipush (pc := 41) (z := 31) dX2_leastBelow_41 (by decide) ?_
    refine mr_iload_n (pc := 43) (z := p3) dX2_leastBelow_43 rfl rfl ?_
    refine mr_isub (pc := 44) (x := 31) (y := p3) dX2_leastBelow_44 ?_
    refine mr_ishl (pc := 45) (x := 1) (y := (31 - p3)) dX2_leastBelow_45 ?_
    refine mr_gen (P := fun z => (-2147483648) ≤ z ∧ z ≤ 2147483647) (r32i _) fun z13 q14 h15 => ?_
    refine mr_ior (pc := 46) (x := p2) (y := z13) dX2_leastBelow_46 ?_
    refine mr_gen (P := fun z => (-2147483648) ≤ z ∧ z ≤ 2147483647) (r32i _) fun z16 q17 h18 => ?_
    refine mr_iload_n (pc := 47) (z := p3) dX2_leastBelow_47 rfl rfl ?_
    refine mr_iconst (pc := 48) (z := 1) dX2_leastBelow_48 ?_
    refine mr_iadd (pc := 49) (x := p3) (y := 1) dX2_leastBelow_49 ?_
    refine mr_cVI (pc := 50) (c_X2_leastBelow_3 hw T9 hp1 h18 (rAdd (e := 3) (f := 3) hp3 (rR (x := 1)) rfl) (vc_X9_end_1 hq0 hp1)) (gOk _ _ _ _ _) dX2_leastBelow_50 (tX2_leastBelow _ _ _ _ _) ⟨wV_X2_leastBelow, wL_X2_leastBelow⟩ wM_X2_101 (gCX2 _ _ _ _ _) rfl (A_87 hw) rfl ⟨le_t rfl, le_t rfl⟩ ⟨le_t rfl, le_t rfl⟩ rfl (le_t rfl) fun z23 μ19 T20 F21 h22 => ?_
    refine mr_istore (pc := 53) (lv' := [(5, iv z23), (4, iv z12), (0, .ref 87), (1, iv p1), (2, iv p2), (3, iv p3)]) dX2_leastBelow_53 (by decide) rfl ?_
    refine mr_iload (pc := 55) (z := z12) dX2_leastBelow_55 rfl ?_
    refine mr_iload (pc := 57) (z := z23) dX2_leastBelow_57 rfl ?_
    refine mr_iand (pc := 59) (x := z12) (y := z23) dX2_leastBelow_59 ?_
    refine mr_gen (P := fun z => (-2147483648) ≤ z ∧ z ≤ 2147483647) (r32i _) fun z24 q25 h26 => ?_
    refine mr_if_eq (pc := 60) (tgt := 69) dX2_leastBelow_60 (by decide) h26 (fun h27 => ?_) (fun h27 => ?_)
    · have h28 : 0 ≤ z24 ∧ z24 ≤ 0 := (vc_X12_mask_1 h27 h26)
      refine sv_aload_n (pc := 69) dX2_leastBelow_69 rfl rfl ?_
      refine sv_dup (pc := 70) dX2_leastBelow_70 rfl ?_
      refine gf_X2_7 (pc := 71) dX2_leastBelow_71 wF_X2_98 (A_87 hw) T20 fun z29 q30 h31 => ?_
      refine mr_iconst (pc := 74) (z := 1) dX2_leastBelow_74 ?_
      refine mr_iadd (pc := 75) (x := z29) (y := 1) dX2_leastBelow_75 ?_
      refine mr_wrap fun z32 h33 => ?_
      refine pf_X2_7 (pc := 76) dX2_leastBelow_76 wF_X2_98 (A_87 hw) T20 h33 fun μ34 u35 T36 => ?_
      refine mr_iload (pc := 79) (z := z12) dX2_leastBelow_79 rfl ?_
      refine mr_iload (pc := 81) (z := z23) dX2_leastBelow_81 rfl ?_
      refine mr_ior (pc := 83) (x := z12) (y := z23) dX2_leastBelow_83 ?_
      refine mr_gen (P := fun z => (-2147483648) ≤ z ∧ z ≤ 2147483647) (r32i _) fun z37 q38 h39 => ?_
      exact mr_iret dX2_leastBelow_84 rfl (le_t rfl) (le_t rfl) T36 (mF.up (mF.call (mF.call mF.refl F10 rfl) F21 rfl) (A_87 hw) u35 rfl) ⟨h39, trivial⟩
    refine mr_iload (pc := 63) (z := z12) dX2_leastBelow_63 rfl ?_
    refine mr_iload (pc := 65) (z := z23) dX2_leastBelow_65 rfl ?_
    refine mr_iand (pc := 67) (x := z12) (y := z23) dX2_leastBelow_67 ?_
    refine mr_gen (P := fun z => (-2147483648) ≤ z ∧ z ≤ 2147483647) (r32i _) fun z40 q41 h42 => ?_
    exact mr_iret dX2_leastBelow_68 rfl (le_t rfl) (le_t rfl) T20 (mF.call (mF.call mF.refl F10 rfl) F21 rfl) ⟨h42, trivial⟩
  have h43 : 0 ≤ z5 ∧ z5 ≤ 0 := (vc_X12_ring_22 h6 h4.1)
  refine sv_aload_n (pc := 16) dX2_leastBelow_16 rfl rfl ?_
  refine mr_iload_n (pc := 17) (z := p1) dX2_leastBelow_17 rfl rfl ?_
  refine mr_iload_n (pc := 18) (z := p2) dX2_leastBelow_18 rfl rfl ?_
  refine mr_cVP (pc := 19) (c_X2_tieFor hw hT hp1 hp2 (vc_X9_end_1 hq0 hp1)) (gOk _ _ _ _ _) dX2_leastBelow_19 (tX2_tieFor _ _ _ _ _) ⟨wV_X2_tieFor, wL_X2_tieFor⟩ wM_X2_60 (gCX2 _ _ _ _ _) rfl (A_87 hw) rfl ⟨le_t rfl, le_t rfl⟩ ⟨le_t rfl, le_t rfl⟩ rfl (le_t rfl) fun z48 h47 => ?_
  refine mr_cSP (pc := 22) (c_X2_aimBit hw hT h47.1) (gOk _ _ _ _ _) dX2_leastBelow_22 (tX2_aimBit _ _ _ _ _) wS_X2_aimBit wM_X2_110 ⟨le_t rfl, le_t rfl⟩ ⟨le_t rfl, le_t rfl⟩ rfl (le_t rfl) fun z53 h52 => ?_
  exact mr_iret dX2_leastBelow_25 rfl (le_t rfl) (le_t rfl) hT mF.refl ⟨h52.1, trivial⟩
theorem vc_X2_leastBelow_1_1 {p3 : Int} (h0 : 32 ≤ p3) (h1 : 1 ≤ p3 ∧ p3 ≤ 1) : False := by omega
set_option maxRecDepth 4000 in
set_option maxHeartbeats 4000000 in
theorem c_X2_leastBelow_1 {l : Launch} {D : va_G} {c : Nat → ClassId} {H0 : Heap} {sa : Nat × Nat × (Nat → Int32)} {w : mW} {μ : mM} (hw : mWF w) (hT : mT w μ) {p1 : Int} (hp1 : 0 ≤ p1 ∧ p1 ≤ 9) {p2 : Int} (hp2 : (-2147483648) ≤ p2 ∧ p2 ≤ 2147483647) {p3 : Int} (hp3 : 1 ≤ p3 ∧ p3 ≤ 1) (hq0 : p1 < w.2.2.2 0) : sC (gG l D c H0 sa) mX2_leastBelow 34 0 0 [.ref 87, iv p1, iv p2, iv p3] (mk w μ) (qI w [87007] μ (fun z μ1 => ((-2147483648) ≤ z ∧ z ≤ 2147483647) ∧ True)) := by
  refine sC.of rfl (by decide) (le_t rfl) ?_
  refine mr_lvE (lv' := [(0, .ref 87), (1, iv p1), (2, iv p2), (3, iv p3)]) rfl ?_
  refine mr_iload_n (pc := 0) (z := p3) dX2_leastBelow_0 rfl rfl ?_
  refine mr_bipush (pc := 1) (z := 32) dX2_leastBelow_1 (by decide) ?_
  refine mr_icmp_ge (pc := 3) (tgt := 16) dX2_leastBelow_3 (by decide) (r32 hp3 rfl) (r32 (rR (x := 32)) rfl) (fun h => ((vc_X2_leastBelow_1_1 h hp3)).elim) (fun _ => ?_)
  refine sv_aload_n (pc := 6) dX2_leastBelow_6 rfl rfl ?_
  refine mr_iload_n (pc := 7) (z := p1) dX2_leastBelow_7 rfl rfl ?_
  refine mr_iload_n (pc := 8) (z := p2) dX2_leastBelow_8 rfl rfl ?_
  refine mr_iload_n (pc := 9) (z := p3) dX2_leastBelow_9 rfl rfl ?_
  refine mr_cVP (pc := 10) (c_X2_isSplit hw hT hp1 hp2 (rW (c := (-2147483648)) (d := 2147483647) hp3 rfl) (vc_X9_end_1 hq0 hp1)) (gOk _ _ _ _ _) dX2_leastBelow_10 (tX2_isSplit _ _ _ _ _) ⟨wV_X2_isSplit, wL_X2_isSplit⟩ wM_X2_106 (gCX2 _ _ _ _ _) rfl (A_87 hw) rfl ⟨le_t rfl, le_t rfl⟩ ⟨le_t rfl, le_t rfl⟩ rfl (le_t rfl) fun z5 h4 => ?_
  refine mr_if_ne (pc := 13) (tgt := 26) dX2_leastBelow_13 (by decide) (r32 h4.1 rfl) (fun h6 => ?_) (fun h6 => ?_)
  · have h7 : 1 ≤ z5 ∧ z5 ≤ 1 := (vc_X12_ring_24 h6 h4.1)
    refine sv_aload_n (pc := 26) dX2_leastBelow_26 rfl rfl ?_
    refine mr_iload_n (pc := 27) (z := p1) dX2_leastBelow_27 rfl rfl ?_
    refine mr_iload_n (pc := 28) (z := p2) dX2_leastBelow_28 rfl rfl ?_
    refine mr_iload_n (pc := 29) (z := p3) dX2_leastBelow_29 rfl rfl ?_
    refine mr_iconst (pc := 30) (z := 1) dX2_leastBelow_30 ?_
    refine mr_iadd (pc := 31) (x := p3) (y := 1) dX2_leastBelow_31 ?_
    refine mr_cVI (pc := 32) (c_X2_leastBelow_2 hw hT hp1 hp2 (rAdd (e := 2) (f := 2) hp3 (rR (x := 1)) rfl) (vc_X9_end_1 hq0 hp1)) (gOk _ _ _ _ _) dX2_leastBelow_32 (tX2_leastBelow _ _ _ _ _) ⟨wV_X2_leastBelow, wL_X2_leastBelow⟩ wM_X2_101 (gCX2 _ _ _ _ _) rfl (A_87 hw) rfl ⟨le_t rfl, le_t rfl⟩ ⟨le_t rfl, le_t rfl⟩ rfl (le_t rfl) fun z12 μ8 T9 F10 h11 => ?_
    refine mr_istore (pc := 35) (lv' := [(4, iv z12), (0, .ref 87), (1, iv p1), (2, iv p2), (3, iv p3)]) dX2_leastBelow_35 (by decide) rfl ?_
    refine sv_aload_n (pc := 37) dX2_leastBelow_37 rfl rfl ?_
    refine mr_iload_n (pc := 38) (z := p1) dX2_leastBelow_38 rfl rfl ?_
    refine mr_iload_n (pc := 39) (z := p2) dX2_leastBelow_39 rfl rfl ?_
    refine mr_iconst (pc := 40) (z := 1) dX2_leastBelow_40 ?_
    refine mr_bipush (pc := 41) (z := 31) dX2_leastBelow_41 (by decide) ?_
    refine mr_iload_n (pc := 43) (z := p3) dX2_leastBelow_43 rfl rfl ?_
    refine mr_isub (pc := 44) (x := 31) (y := p3) dX2_leastBelow_44 ?_
    refine mr_ishl (pc := 45) (x := 1) (y := (31 - p3)) dX2_leastBelow_45 ?_
    refine mr_gen (P := fun z => (-2147483648) ≤ z ∧ z ≤ 2147483647) (r32i _) fun z13 q14 h15 => ?_
    refine mr_ior (pc := 46) (x := p2) (y := z13) dX2_leastBelow_46 ?_
    refine mr_gen (P := fun z => (-2147483648) ≤ z ∧ z ≤ 2147483647) (r32i _) fun z16 q17 h18 => ?_
    refine mr_iload_n (pc := 47) (z := p3) dX2_leastBelow_47 rfl rfl ?_
    refine mr_iconst (pc := 48) (z := 1) dX2_leastBelow_48 ?_
    refine mr_iadd (pc := 49) (x := p3) (y := 1) dX2_leastBelow_49 ?_
    refine mr_cVI (pc := 50) (c_X2_leastBelow_2 hw T9 hp1 h18 (rAdd (e := 2) (f := 2) hp3 (rR (x := 1)) rfl) (vc_X9_end_1 hq0 hp1)) (gOk _ _ _ _ _) dX2_leastBelow_50 (tX2_leastBelow _ _ _ _ _) ⟨wV_X2_leastBelow, wL_X2_leastBelow⟩ wM_X2_101 (gCX2 _ _ _ _ _) rfl (A_87 hw) rfl ⟨le_t rfl, le_t rfl⟩ ⟨le_t rfl, le_t rfl⟩ rfl (le_t rfl) fun z23 μ19 T20 F21 h22 => ?_
    refine mr_istore (pc := 53) (lv' := [(5, iv z23), (4, iv z12), (0, .ref 87), (1, iv p1), (2, iv p2), (3, iv p3)]) dX2_leastBelow_53 (by decide) rfl ?_
    refine mr_iload (pc := 55) (z := z12) dX2_leastBelow_55 rfl ?_
    refine mr_iload (pc := 57) (z := z23) dX2_leastBelow_57 rfl ?_
    refine mr_iand (pc := 59) (x := z12) (y := z23) dX2_leastBelow_59 ?_
    refine mr_gen (P := fun z => (-2147483648) ≤ z ∧ z ≤ 2147483647) (r32i _) fun z24 q25 h26 => ?_
    refine mr_if_eq (pc := 60) (tgt := 69) dX2_leastBelow_60 (by decide) h26 (fun h27 => ?_) (fun h27 => ?_)
    · have h28 : 0 ≤ z24 ∧ z24 ≤ 0 := (vc_X12_mask_1 h27 h26)
      refine sv_aload_n (pc := 69) dX2_leastBelow_69 rfl rfl ?_
      refine sv_dup (pc := 70) dX2_leastBelow_70 rfl ?_
      refine gf_X2_7 (pc := 71) dX2_leastBelow_71 wF_X2_98 (A_87 hw) T20 fun z29 q30 h31 => ?_
      refine mr_iconst (pc := 74) (z := 1) dX2_leastBelow_74 ?_
      refine mr_iadd (pc := 75) (x := z29) (y := 1) dX2_leastBelow_75 ?_
      refine mr_wrap fun z32 h33 => ?_
      refine pf_X2_7 (pc := 76) dX2_leastBelow_76 wF_X2_98 (A_87 hw) T20 h33 fun μ34 u35 T36 => ?_
      refine mr_iload (pc := 79) (z := z12) dX2_leastBelow_79 rfl ?_
      refine mr_iload (pc := 81) (z := z23) dX2_leastBelow_81 rfl ?_
      refine mr_ior (pc := 83) (x := z12) (y := z23) dX2_leastBelow_83 ?_
      refine mr_gen (P := fun z => (-2147483648) ≤ z ∧ z ≤ 2147483647) (r32i _) fun z37 q38 h39 => ?_
      exact mr_iret dX2_leastBelow_84 rfl (le_t rfl) (le_t rfl) T36 (mF.up (mF.call (mF.call mF.refl F10 rfl) F21 rfl) (A_87 hw) u35 rfl) ⟨h39, trivial⟩
    refine mr_iload (pc := 63) (z := z12) dX2_leastBelow_63 rfl ?_
    refine mr_iload (pc := 65) (z := z23) dX2_leastBelow_65 rfl ?_
    refine mr_iand (pc := 67) (x := z12) (y := z23) dX2_leastBelow_67 ?_
    refine mr_gen (P := fun z => (-2147483648) ≤ z ∧ z ≤ 2147483647) (r32i _) fun z40 q41 h42 => ?_
    exact mr_iret dX2_leastBelow_68 rfl (le_t rfl) (le_t rfl) T20 (mF.call (mF.call mF.refl F10 rfl) F21 rfl) ⟨h42, trivial⟩
  have h43 : 0 ≤ z5 ∧ z5 ≤ 0 := (vc_X12_ring_22 h6 h4.1)
  refine sv_aload_n (pc := 16) dX2_leastBelow_16 rfl rfl ?_
  refine mr_iload_n (pc := 17) (z := p1) dX2_leastBelow_17 rfl rfl ?_
  refine mr_iload_n (pc := 18) (z := p2) dX2_leastBelow_18 rfl rfl ?_
  refine mr_cVP (pc := 19) (c_X2_tieFor hw hT hp1 hp2 (vc_X9_end_1 hq0 hp1)) (gOk _ _ _ _ _) dX2_leastBelow_19 (tX2_tieFor _ _ _ _ _) ⟨wV_X2_tieFor, wL_X2_tieFor⟩ wM_X2_60 (gCX2 _ _ _ _ _) rfl (A_87 hw) rfl ⟨le_t rfl, le_t rfl⟩ ⟨le_t rfl, le_t rfl⟩ rfl (le_t rfl) fun z48 h47 => ?_
  refine mr_cSP (pc := 22) (c_X2_aimBit hw hT h47.1) (gOk _ _ _ _ _) dX2_leastBelow_22 (tX2_aimBit _ _ _ _ _) wS_X2_aimBit wM_X2_110 ⟨le_t rfl, le_t rfl⟩ ⟨le_t rfl, le_t rfl⟩ rfl (le_t rfl) fun z53 h52 => ?_
  exact mr_iret dX2_leastBelow_25 rfl (le_t rfl) (le_t rfl) hT mF.refl ⟨h52.1, trivial⟩
theorem vc_X2_leastBelow_0_1 {p3 : Int} (h0 : 32 ≤ p3) (h1 : 0 ≤ p3 ∧ p3 ≤ 0) : False := by omega
set_option maxRecDepth 4000 in
set_option maxHeartbeats 4000000 in
theorem c_X2_leastBelow_0 {l : Launch} {D : va_G} {c : Nat → ClassId} {H0 : Heap} {sa : Nat × Nat × (Nat → Int32)} {w : mW} {μ : mM} (hw : mWF w) (hT : mT w μ) {p1 : Int} (hp1 : 0 ≤ p1 ∧ p1 ≤ 9) {p2 : Int} (hp2 : (-2147483648) ≤ p2 ∧ p2 ≤ 2147483647) {p3 : Int} (hp3 : 0 ≤ p3 ∧ p3 ≤ 0) (hq0 : p1 < w.2.2.2 0) : sC (gG l D c H0 sa) mX2_leastBelow 35 0 0 [.ref 87, iv p1, iv p2, iv p3] (mk w μ) (qI w [87007] μ (fun z μ1 => ((-2147483648) ≤ z ∧ z ≤ 2147483647) ∧ True)) := by
  refine sC.of rfl (by decide) (le_t rfl) ?_
  refine mr_lvE (lv' := [(0, .ref 87), (1, iv p1), (2, iv p2), (3, iv p3)]) rfl ?_
  refine mr_iload_n (pc := 0) (z := p3) dX2_leastBelow_0 rfl rfl ?_
  refine mr_bipush (pc := 1) (z := 32) dX2_leastBelow_1 (by decide) ?_
  refine mr_icmp_ge (pc := 3) (tgt := 16) dX2_leastBelow_3 (by decide) (r32 hp3 rfl) (r32 (rR (x := 32)) rfl) (fun h => ((vc_X2_leastBelow_0_1 h hp3)).elim) (fun _ => ?_)
  refine sv_aload_n (pc := 6) dX2_leastBelow_6 rfl rfl ?_
  refine mr_iload_n (pc := 7) (z := p1) dX2_leastBelow_7 rfl rfl ?_
  refine mr_iload_n (pc := 8) (z := p2) dX2_leastBelow_8 rfl rfl ?_
  refine mr_iload_n (pc := 9) (z := p3) dX2_leastBelow_9 rfl rfl ?_
  refine mr_cVP (pc := 10) (c_X2_isSplit hw hT hp1 hp2 (rW (c := (-2147483648)) (d := 2147483647) hp3 rfl) (vc_X9_end_1 hq0 hp1)) (gOk _ _ _ _ _) dX2_leastBelow_10 (tX2_isSplit _ _ _ _ _) ⟨wV_X2_isSplit, wL_X2_isSplit⟩ wM_X2_106 (gCX2 _ _ _ _ _) rfl (A_87 hw) rfl ⟨le_t rfl, le_t rfl⟩ ⟨le_t rfl, le_t rfl⟩ rfl (le_t rfl) fun z5 h4 => ?_
  refine mr_if_ne (pc := 13) (tgt := 26) dX2_leastBelow_13 (by decide) (r32 h4.1 rfl) (fun h6 => ?_) (fun h6 => ?_)
  · have h7 : 1 ≤ z5 ∧ z5 ≤ 1 := (vc_X12_ring_24 h6 h4.1)
    refine sv_aload_n (pc := 26) dX2_leastBelow_26 rfl rfl ?_
    refine mr_iload_n (pc := 27) (z := p1) dX2_leastBelow_27 rfl rfl ?_
    refine mr_iload_n (pc := 28) (z := p2) dX2_leastBelow_28 rfl rfl ?_
    refine mr_iload_n (pc := 29) (z := p3) dX2_leastBelow_29 rfl rfl ?_
    refine mr_iconst (pc := 30) (z := 1) dX2_leastBelow_30 ?_
    refine mr_iadd (pc := 31) (x := p3) (y := 1) dX2_leastBelow_31 ?_
    refine mr_cVI (pc := 32) (c_X2_leastBelow_1 hw hT hp1 hp2 (rAdd (e := 1) (f := 1) hp3 (rR (x := 1)) rfl) (vc_X9_end_1 hq0 hp1)) (gOk _ _ _ _ _) dX2_leastBelow_32 (tX2_leastBelow _ _ _ _ _) ⟨wV_X2_leastBelow, wL_X2_leastBelow⟩ wM_X2_101 (gCX2 _ _ _ _ _) rfl (A_87 hw) rfl ⟨le_t rfl, le_t rfl⟩ ⟨le_t rfl, le_t rfl⟩ rfl (le_t rfl) fun z12 μ8 T9 F10 h11 => ?_
    refine mr_istore (pc := 35) (lv' := [(4, iv z12), (0, .ref 87), (1, iv p1), (2, iv p2), (3, iv p3)]) dX2_leastBelow_35 (by decide) rfl ?_
    refine sv_aload_n (pc := 37) dX2_leastBelow_37 rfl rfl ?_
    refine mr_iload_n (pc := 38) (z := p1) dX2_leastBelow_38 rfl rfl ?_
    refine mr_iload_n (pc := 39) (z := p2) dX2_leastBelow_39 rfl rfl ?_
    refine mr_iconst (pc := 40) (z := 1) dX2_leastBelow_40 ?_
    refine mr_bipush (pc := 41) (z := 31) dX2_leastBelow_41 (by decide) ?_
    refine mr_iload_n (pc := 43) (z := p3) dX2_leastBelow_43 rfl rfl ?_
    refine mr_isub (pc := 44) (x := 31) (y := p3) dX2_leastBelow_44 ?_
    refine mr_ishl (pc := 45) (x := 1) (y := (31 - p3)) dX2_leastBelow_45 ?_
    refine mr_gen (P := fun z => (-2147483648) ≤ z ∧ z ≤ 2147483647) (r32i _) fun z13 q14 h15 => ?_
    refine mr_ior (pc := 46) (x := p2) (y := z13) dX2_leastBelow_46 ?_
    refine mr_gen (P := fun z => (-2147483648) ≤ z ∧ z ≤ 2147483647) (r32i _) fun z16 q17 h18 => ?_
    refine mr_iload_n (pc := 47) (z := p3) dX2_leastBelow_47 rfl rfl ?_
    refine mr_iconst (pc := 48) (z := 1) dX2_leastBelow_48 ?_
    refine mr_iadd (pc := 49) (x := p3) (y := 1) dX2_leastBelow_49 ?_
    refine mr_cVI (pc := 50) (c_X2_leastBelow_1 hw T9 hp1 h18 (rAdd (e := 1) (f := 1) hp3 (rR (x := 1)) rfl) (vc_X9_end_1 hq0 hp1)) (gOk _ _ _ _ _) dX2_leastBelow_50 (tX2_leastBelow _ _ _ _ _) ⟨wV_X2_leastBelow, wL_X2_leastBelow⟩ wM_X2_101 (gCX2 _ _ _ _ _) rfl (A_87 hw) rfl ⟨le_t rfl, le_t rfl⟩ ⟨le_t rfl, le_t rfl⟩ rfl (le_t rfl) fun z23 μ19 T20 F21 h22 => ?_
    refine mr_istore (pc := 53) (lv' := [(5, iv z23), (4, iv z12), (0, .ref 87), (1, iv p1), (2, iv p2), (3, iv p3)]) dX2_leastBelow_53 (by decide) rfl ?_
    refine mr_iload (pc := 55) (z := z12) dX2_leastBelow_55 rfl ?_
    refine mr_iload (pc := 57) (z := z23) dX2_leastBelow_57 rfl ?_
    refine mr_iand (pc := 59) (x := z12) (y := z23) dX2_leastBelow_59 ?_
    refine mr_gen (P := fun z => (-2147483648) ≤ z ∧ z ≤ 2147483647) (r32i _) fun z24 q25 h26 => ?_
    refine mr_if_eq (pc := 60) (tgt := 69) dX2_leastBelow_60 (by decide) h26 (fun h27 => ?_) (fun h27 => ?_)
    · have h28 : 0 ≤ z24 ∧ z24 ≤ 0 := (vc_X12_mask_1 h27 h26)
      refine sv_aload_n (pc := 69) dX2_leastBelow_69 rfl rfl ?_
      refine sv_dup (pc := 70) dX2_leastBelow_70 rfl ?_
      refine gf_X2_7 (pc := 71) dX2_leastBelow_71 wF_X2_98 (A_87 hw) T20 fun z29 q30 h31 => ?_
      refine mr_iconst (pc := 74) (z := 1) dX2_leastBelow_74 ?_
      refine mr_iadd (pc := 75) (x := z29) (y := 1) dX2_leastBelow_75 ?_
      refine mr_wrap fun z32 h33 => ?_
      refine pf_X2_7 (pc := 76) dX2_leastBelow_76 wF_X2_98 (A_87 hw) T20 h33 fun μ34 u35 T36 => ?_
      refine mr_iload (pc := 79) (z := z12) dX2_leastBelow_79 rfl ?_
      refine mr_iload (pc := 81) (z := z23) dX2_leastBelow_81 rfl ?_
      refine mr_ior (pc := 83) (x := z12) (y := z23) dX2_leastBelow_83 ?_
      refine mr_gen (P := fun z => (-2147483648) ≤ z ∧ z ≤ 2147483647) (r32i _) fun z37 q38 h39 => ?_
      exact mr_iret dX2_leastBelow_84 rfl (le_t rfl) (le_t rfl) T36 (mF.up (mF.call (mF.call mF.refl F10 rfl) F21 rfl) (A_87 hw) u35 rfl) ⟨h39, trivial⟩
    refine mr_iload (pc := 63) (z := z12) dX2_leastBelow_63 rfl ?_
    refine mr_iload (pc := 65) (z := z23) dX2_leastBelow_65 rfl ?_
    refine mr_iand (pc := 67) (x := z12) (y := z23) dX2_leastBelow_67 ?_
    refine mr_gen (P := fun z => (-2147483648) ≤ z ∧ z ≤ 2147483647) (r32i _) fun z40 q41 h42 => ?_
    exact mr_iret dX2_leastBelow_68 rfl (le_t rfl) (le_t rfl) T20 (mF.call (mF.call mF.refl F10 rfl) F21 rfl) ⟨h42, trivial⟩
  have h43 : 0 ≤ z5 ∧ z5 ≤ 0 := (vc_X12_ring_22 h6 h4.1)
  refine sv_aload_n (pc := 16) dX2_leastBelow_16 rfl rfl ?_
  refine mr_iload_n (pc := 17) (z := p1) dX2_leastBelow_17 rfl rfl ?_
  refine mr_iload_n (pc := 18) (z := p2) dX2_leastBelow_18 rfl rfl ?_
  refine mr_cVP (pc := 19) (c_X2_tieFor hw hT hp1 hp2 (vc_X9_end_1 hq0 hp1)) (gOk _ _ _ _ _) dX2_leastBelow_19 (tX2_tieFor _ _ _ _ _) ⟨wV_X2_tieFor, wL_X2_tieFor⟩ wM_X2_60 (gCX2 _ _ _ _ _) rfl (A_87 hw) rfl ⟨le_t rfl, le_t rfl⟩ ⟨le_t rfl, le_t rfl⟩ rfl (le_t rfl) fun z48 h47 => ?_
  refine mr_cSP (pc := 22) (c_X2_aimBit hw hT h47.1) (gOk _ _ _ _ _) dX2_leastBelow_22 (tX2_aimBit _ _ _ _ _) wS_X2_aimBit wM_X2_110 ⟨le_t rfl, le_t rfl⟩ ⟨le_t rfl, le_t rfl⟩ rfl (le_t rfl) fun z53 h52 => ?_
  exact mr_iret dX2_leastBelow_25 rfl (le_t rfl) (le_t rfl) hT mF.refl ⟨h52.1, trivial⟩
theorem vc_X2_leastTable_2 {z9 : Int} (h0 : z9 = 0) (h1 : 0 ≤ z9 ∧ z9 ≤ 2097152) : 0 ≤ z9 ∧ z9 ≤ 0 := by omega
theorem vc_X2_leastTable_3 {z9 : Int} (h0 : ¬ z9 = 0) (h1 : 0 ≤ z9 ∧ z9 ≤ 2097152) : 1 ≤ z9 ∧ z9 ≤ 2097152 := by omega
set_option maxRecDepth 4000 in
set_option maxHeartbeats 4000000 in
theorem c_X2_leastTable {l : Launch} {D : va_G} {c : Nat → ClassId} {H0 : Heap} {sa : Nat × Nat × (Nat → Int32)} {w : mW} {μ : mM} (hw : mWF w) (hT : mT w μ) {p1 : Int} (hp1 : 0 ≤ p1 ∧ p1 ≤ 9) (hq0 : p1 < w.2.2.2 0) : sC (gG l D c H0 sa) mX2_leastTable 36 0 0 [.ref 87, iv p1] (mk w μ) (qI w [87007] μ (fun z μ1 => ((-2147483648) ≤ z ∧ z ≤ 2147483647) ∧ True)) := by
  refine sC.of rfl (by decide) (le_t rfl) ?_
  refine mr_lvE (lv' := [(0, .ref 87), (1, iv p1)]) rfl ?_
  refine sv_aload_n (pc := 0) dX2_leastTable_0 rfl rfl ?_
  refine mr_iconst (pc := 1) (z := 0) dX2_leastTable_1 ?_
  refine pf_X2_7 (pc := 2) dX2_leastTable_2 wF_X2_98 (A_87 hw) hT (rW (c := (-2147483648)) (d := 2147483647) (rR (x := 0)) rfl) fun μ1 u2 T3 => ?_
  refine sv_aload_n (pc := 5) dX2_leastTable_5 rfl rfl ?_
  refine mr_iload_n (pc := 6) (z := p1) dX2_leastTable_6 rfl rfl ?_
  refine mr_iconst (pc := 7) (z := 0) dX2_leastTable_7 ?_
  refine mr_iconst (pc := 8) (z := 0) dX2_leastTable_8 ?_
  refine mr_cVI (pc := 9) (c_X2_leastBelow_0 hw T3 hp1 (rW (c := (-2147483648)) (d := 2147483647) (rR (x := 0)) rfl) (rR (x := 0)) (vc_X9_end_1 hq0 hp1)) (gOk _ _ _ _ _) dX2_leastTable_9 (tX2_leastBelow _ _ _ _ _) ⟨wV_X2_leastBelow, wL_X2_leastBelow⟩ wM_X2_101 (gCX2 _ _ _ _ _) rfl (A_87 hw) rfl ⟨le_t rfl, le_t rfl⟩ ⟨le_t rfl, le_t rfl⟩ rfl (le_t rfl) fun z8 μ4 T5 F6 h7 => ?_
  refine mr_istore_n (pc := 12) (lv' := [(2, iv z8), (0, .ref 87), (1, iv p1)]) dX2_leastTable_12 rfl (by decide) rfl ?_
  refine mr_iload_n (pc := 13) (z := z8) dX2_leastTable_13 rfl rfl ?_
  refine mr_ldc (pc := 14) (z := 2097152) dX2_leastTable_14 wG_X2_105 (by decide) ?_
  refine mr_iand (pc := 16) (x := z8) (y := 2097152) dX2_leastTable_16 ?_
  refine mr_gen (P := fun z => 0 ≤ z ∧ z ≤ 2097152) (rAndR (rR (x := 2097152)) rfl) fun z9 q10 h11 => ?_
  refine mr_if_eq (pc := 17) (tgt := 27) dX2_leastTable_17 (by decide) (r32 h11 rfl) (fun h22 => ?_) (fun h22 => ?_)
  · have h23 : 0 ≤ z9 ∧ z9 ≤ 0 := (vc_X2_leastTable_2 h22 h11)
    refine sv_aload_n (pc := 27) dX2_leastTable_27 rfl rfl ?_
    refine gf_X2_7 (pc := 28) dX2_leastTable_28 wF_X2_98 (A_87 hw) T5 fun z24 q25 h26 => ?_
    refine mr_iconst (pc := 31) (z := 1) dX2_leastTable_31 ?_
    refine mr_iadd (pc := 32) (x := z24) (y := 1) dX2_leastTable_32 ?_
    refine mr_wrap fun z27 h28 => ?_
    exact mr_iret dX2_leastTable_33 rfl (le_t rfl) (le_t rfl) T5 (mF.call (mF.up mF.refl (A_87 hw) u2 rfl) F6 rfl) ⟨h28, trivial⟩
  have h29 : 1 ≤ z9 ∧ z9 ≤ 2097152 := (vc_X2_leastTable_3 h22 h11)
  refine sv_aload_n (pc := 20) dX2_leastTable_20 rfl rfl ?_
  refine gf_X2_7 (pc := 21) dX2_leastTable_21 wF_X2_98 (A_87 hw) T5 fun z30 q31 h32 => ?_
  refine sv_goto (pc := 24) (tgt := 33) dX2_leastTable_24 (by decide) ?_
  exact mr_iret dX2_leastTable_33 rfl (le_t rfl) (le_t rfl) T5 (mF.call (mF.up mF.refl (A_87 hw) u2 rfl) F6 rfl) ⟨h32, trivial⟩
theorem vc_X11_least_7 {n0 p1 z1 z8 : Int} (h0 : z1 = n0) (h1 : (z8 = 1 → 0 ≤ p1 ∧ p1 < z1)) (h2 : (z8 = 0 → p1 < 0 ∨ z1 ≤ p1)) (h3 : 0 ≤ p1 ∧ p1 < z1) (h4 : ¬ z8 = 0) (h5 : 0 ≤ p1 ∧ p1 ≤ 9) (h6 : 1 ≤ z1 ∧ z1 ≤ 10) (h7 : 1 ≤ z8 ∧ z8 ≤ 1) : p1 < n0 := by omega
set_option maxRecDepth 4000 in
set_option maxHeartbeats 4000000 in
theorem c_X11_least {l : Launch} {D : va_G} {c : Nat → ClassId} {H0 : Heap} {sa : Nat × Nat × (Nat → Int32)} {w : mW} {μ : mM} (hw : mWF w) (hT : mT w μ) {p1 : Int} (hp1 : (-2147483648) ≤ p1 ∧ p1 ≤ 2147483647) : sC (gG l D c H0 sa) mX11_least 37 0 0 [.ref 0, iv p1] (mk w μ) (qI w [87007] μ (fun z μ1 => ((-2147483648) ≤ z ∧ z ≤ 2147483647) ∧ True)) := by
  refine sC.of rfl (by decide) (le_t rfl) ?_
  refine mr_lvE (lv' := [(0, .ref 0), (1, iv p1)]) rfl ?_
  refine sv_aload_n (pc := 0) dX11_least_0 rfl rfl ?_
  refine mr_iload_n (pc := 1) (z := p1) dX11_least_1 rfl rfl ?_
  obtain ⟨z1, q2⟩ : ∃ z, μ 6 15 = z := ⟨_, rfl⟩
  have h3 : (z1 = w.2.2.2 0 ∧ 0 ≤ z1 ∧ z1 ≤ 10) := by rw [← q2]; exact hT 6 6 (A_6 hw) 15
  refine mr_cVP (pc := 2) (c_X11_isDomain hw hT hp1 q2) (gOk _ _ _ _ _) dX11_least_2 (tX11_isDomain _ _ _ _ _) ⟨wV_X11_isDomain, wL_X11_isDomain⟩ wM_X11_105 (gCX11 _ _ _ _ _) rfl (A_0 hw) rfl ⟨le_t rfl, le_t rfl⟩ ⟨le_t rfl, le_t rfl⟩ rfl (le_t rfl) fun z8 h7 => ?_
  refine mr_if_eq (pc := 5) (tgt := 19) dX11_least_5 (by decide) (r32 h7.1 rfl) (fun h20 => ?_) (fun h20 => ?_)
  · have h21 : 0 ≤ z8 ∧ z8 ≤ 0 := (vc_X12_write_78 h20 h7.2.1 h7.2.2.1 hp1 h3.2 h7.1)
    have h22 : p1 < 0 ∨ z1 ≤ p1 := (h7.2.2.1 (vc_X11_demand_2 h7.2.1 h7.2.2.1 h20 h3.1 hp1 h3.2 h21))
    refine mr_iconst (pc := 19) (z := (-1)) dX11_least_19 ?_
    exact mr_iret dX11_least_20 rfl (le_t rfl) (le_t rfl) hT mF.refl ⟨(rW (c := (-2147483648)) (d := 2147483647) (rR (x := (-1))) rfl), trivial⟩
  have h23 : 1 ≤ z8 ∧ z8 ≤ 1 := (vc_X12_write_12 h20 h7.2.1 h7.2.2.1 hp1 h3.2 h7.1)
  have h24 : 0 ≤ p1 ∧ p1 < z1 := (h7.2.1 (vc_X11_demand_4 h7.2.1 h7.2.2.1 h20 h3.1 hp1 h3.2 h23))
  have h25 : 0 ≤ p1 ∧ p1 ≤ 9 := (vc_X11_demand_5 h24 h3.1 h7.2.1 h7.2.2.1 hp1 h3.2 h23)
  have h26 : 1 ≤ z1 ∧ z1 ≤ 10 := (vc_X11_demand_6 h24 h3.1 h7.2.1 h7.2.2.1 h25 h3.2 h23)
  refine sv_aload_n (pc := 8) dX11_least_8 rfl rfl ?_
  refine gf_X11_8 (pc := 9) dX11_least_9 wF_X11_65 (A_0 hw) hT ?_
  refine mr_iload_n (pc := 12) (z := p1) dX11_least_12 rfl rfl ?_
  refine mr_cVI (pc := 13) (c_X2_leastTable hw hT h25 (vc_X11_least_7 h3.1 h7.2.1 h7.2.2.1 h24 h20 h25 h26 h23)) (gOk _ _ _ _ _) dX11_least_13 (tX2_leastTable _ _ _ _ _) ⟨wV_X2_leastTable, wL_X2_leastTable⟩ wM_X11_385 (gCX2 _ _ _ _ _) rfl (A_87 hw) rfl ⟨le_t rfl, le_t rfl⟩ ⟨le_t rfl, le_t rfl⟩ rfl (le_t rfl) fun z31 μ27 T28 F29 h30 => ?_
  refine sv_goto (pc := 16) (tgt := 20) dX11_least_16 (by decide) ?_
  exact mr_iret dX11_least_20 rfl (le_t rfl) (le_t rfl) T28 (mF.call mF.refl F29 rfl) ⟨h30.1, trivial⟩
end
section
/-! Nets: a state as a number of figures; queues without repeats. -/
theorem digT {W b K N s d t : Int} (hW : 0 < W) (hb : 0 < b) (hN : N = W * b * K) (hs : 0 ≤ s ∧ s < N) (hd : d = s / W % b) (ht : 0 ≤ t ∧ t < b) : 0 ≤ s + (t - d) * W ∧ s + (t - d) * W < N := by
  have h1 : s = W * (s / W) + s % W := (Int.mul_ediv_add_emod s W).symm
  have h2 : s / W = b * (s / W / b) + s / W % b := (Int.mul_ediv_add_emod (s / W) b).symm
  have r0 := Int.emod_nonneg s (show W ≠ 0 by omega)
  have r1 := Int.emod_lt_of_pos s hW
  have q0 : 0 ≤ s / W := Int.ediv_nonneg hs.1 (by omega)
  have p0 : 0 ≤ s / W / b := Int.ediv_nonneg q0 (by omega)
  have e : s + (t - d) * W = W * (b * (s / W / b) + t) + s % W := by
    rw [← hd] at h2
    have a1 : W * (s / W) = W * (b * (s / W / b)) + W * d := by
      have := congrArg (fun x => W * x) h2
      simp only [Int.mul_add] at this
      exact this
    have a2 : (t - d) * W = W * t - W * d := by rw [Int.mul_comm, Int.mul_sub]
    rw [Int.mul_add]
    omega
  have hp : s / W / b < K := by
    have e1 : s / W / b = s / (W * b) := Int.ediv_ediv_of_nonneg (by omega)
    rw [e1]
    refine Int.ediv_lt_of_lt_mul (Int.mul_pos hW hb) ?_
    rw [Int.mul_comm K (W * b), ← hN]; exact hs.2
  have hlow : 0 ≤ W * (b * (s / W / b) + t) := Int.mul_nonneg (by omega) (by have := Int.mul_nonneg (show 0 ≤ b by omega) p0; omega)
  have hup : W * (b * (s / W / b) + t) + W ≤ N := by
    have g1 : b * (s / W / b) + t + 1 ≤ b * (s / W / b + 1) := by rw [Int.mul_add]; omega
    have g2 : b * (s / W / b + 1) ≤ b * K := Int.mul_le_mul_of_nonneg_left (by omega) (by omega)
    have g3 : W * (b * (s / W / b) + t + 1) ≤ W * (b * K) := Int.mul_le_mul_of_nonneg_left (by omega) (by omega)
    rw [Int.mul_add W _ 1, Int.mul_one] at g3
    rw [hN, Int.mul_assoc]; exact g3
  rw [e]
  omega
theorem rMulS {x y m k e : Int} (hx : -m ≤ x ∧ x ≤ m) (hy : 0 ≤ y ∧ y ≤ k) (hm : 0 ≤ m) (he : m * k = e) : -e ≤ x * y ∧ x * y ≤ e := by
  have a1 : x * y ≤ m * y := Int.mul_le_mul_of_nonneg_right hx.2 hy.1
  have a2 : m * y ≤ m * k := Int.mul_le_mul_of_nonneg_left hy.2 hm
  have a3 : (-m) * y ≤ x * y := Int.mul_le_mul_of_nonneg_right hx.1 hy.1
  have a4 : (-m) * y = -(m * y) := Int.neg_mul m y
  omega
/-- the six places' weights: rows a (weights) and v (wishes), N states -/
def radx (μ : mM) (a v : Nat) (N : Int) (p : Nat) : Prop := 0 < μ a p ∧ ∃ K, N = μ a p * (μ v p + 1) * K
def radix (μ : mM) (a v : Nat) (N : Int) : Prop := radx μ a v N 1 ∧ radx μ a v N 2 ∧ radx μ a v N 3 ∧ radx μ a v N 4 ∧ radx μ a v N 5 ∧ radx μ a v N 6
theorem radix.mk {μ : mM} {a v : Nat} {v1 v2 v3 v4 v5 v6 w1 w2 w3 w4 w5 w6 N : Int} (qv1 : μ v 1 = v1) (qv2 : μ v 2 = v2) (qv3 : μ v 3 = v3) (qv4 : μ v 4 = v4) (qv5 : μ v 5 = v5) (qv6 : μ v 6 = v6) (q1 : μ a 1 = w1) (q2 : μ a 2 = w2) (q3 : μ a 3 = w3) (q4 : μ a 4 = w4) (q5 : μ a 5 = w5) (q6 : μ a 6 = w6) (p1 : 0 < w1) (p2 : 0 < w2) (p3 : 0 < w3) (p4 : 0 < w4) (p5 : 0 < w5) (p6 : 0 < w6) (e6 : w5 = w6 * (v6 + 1)) (e5 : w4 = w5 * (v5 + 1)) (e4 : w3 = w4 * (v4 + 1)) (e3 : w2 = w3 * (v3 + 1)) (e2 : w1 = w2 * (v2 + 1)) (e1 : N = w1 * (v1 + 1)) : radix μ a v N := by
  refine ⟨⟨by rw [q1]; exact p1, 1, ?_⟩, ⟨by rw [q2]; exact p2, v1 + 1, ?_⟩, ⟨by rw [q3]; exact p3, (v2 + 1) * (v1 + 1), ?_⟩, ⟨by rw [q4]; exact p4, (v3 + 1) * ((v2 + 1) * (v1 + 1)), ?_⟩, ⟨by rw [q5]; exact p5, (v4 + 1) * ((v3 + 1) * ((v2 + 1) * (v1 + 1))), ?_⟩, ⟨by rw [q6]; exact p6, (v5 + 1) * ((v4 + 1) * ((v3 + 1) * ((v2 + 1) * (v1 + 1)))), ?_⟩⟩
  · rw [q1, qv1, Int.mul_one]; exact e1
  · rw [q2, qv2, e1, e2]
  · rw [q3, qv3, e1, e2, e3]; simp only [Int.mul_assoc]
  · rw [q4, qv4, e1, e2, e3, e4]; simp only [Int.mul_assoc]
  · rw [q5, qv5, e1, e2, e3, e4, e5]; simp only [Int.mul_assoc]
  · rw [q6, qv6, e1, e2, e3, e4, e5, e6]; simp only [Int.mul_assoc]
theorem radix.at {μ : mM} {a v : Nat} {N p : Int} (h : radix μ a v N) (hp : 1 ≤ p ∧ p ≤ 6) : radx μ a v N p.toNat := by
  obtain ⟨h1, h2, h3, h4, h5, h6⟩ := h
  have : p = 1 ∨ p = 2 ∨ p = 3 ∨ p = 4 ∨ p = 5 ∨ p = 6 := by omega
  rcases this with e | e | e | e | e | e <;> subst e <;> assumption
theorem radix.keep {l : List Nat} {w : mW} {μ μ1 : mM} {a v sa sv : Nat} {N : Int} (h : radix μ a v N) (hF : mF l w μ μ1) (hA : mAt w a sa) (hV : mAt w v sv) (ha : ∀ i, l.elem (1000 * sa + (if mArr sa then 999 else i)) = false) (hv : ∀ i, l.elem (1000 * sv + (if mArr sv then 999 else i)) = false) : radix μ1 a v N := by
  have e1 : ∀ i, μ1 a i = μ a i := fun i => hF.f hA (ha i) rfl
  have e2 : ∀ i, μ1 v i = μ v i := fun i => hF.f hV (hv i) rfl
  unfold radix radx at h ⊢
  simp only [e1, e2]; exact h
def dig (μ : mM) (h a v : Nat) (s : Int) (p : Nat) : Prop := μ h p = s / μ a p % (μ v p + 1)
def digs (μ : mM) (h a v : Nat) (s : Int) : Prop := dig μ h a v s 1 ∧ dig μ h a v s 2 ∧ dig μ h a v s 3 ∧ dig μ h a v s 4 ∧ dig μ h a v s 5 ∧ dig μ h a v s 6
theorem dig.mk {μ : mM} {h a v p : Nat} {s z x y b : Int} (qh : μ h p = z) (qa : μ a p = x) (qv : μ v p = y) (e1 : s / x = b) (e2 : b % (y + 1) = z) : dig μ h a v s p := by
  unfold dig; rw [qh, qa, qv, e1, e2]
theorem digs.at {μ : mM} {h a v : Nat} {s p : Int} (g : digs μ h a v s) (hp : 1 ≤ p ∧ p ≤ 6) : dig μ h a v s p.toNat := by
  obtain ⟨h1, h2, h3, h4, h5, h6⟩ := g
  have : p = 1 ∨ p = 2 ∨ p = 3 ∨ p = 4 ∨ p = 5 ∨ p = 6 := by omega
  rcases this with e | e | e | e | e | e <;> subst e <;> assumption
theorem digs.keep {l : List Nat} {w : mW} {μ μ1 : mM} {h a v sh sa sv : Nat} {s : Int} (g : digs μ h a v s) (hF : mF l w μ μ1) (hH : mAt w h sh) (hA : mAt w a sa) (hV : mAt w v sv) (hh : ∀ i, l.elem (1000 * sh + (if mArr sh then 999 else i)) = false) (ha : ∀ i, l.elem (1000 * sa + (if mArr sa then 999 else i)) = false) (hv : ∀ i, l.elem (1000 * sv + (if mArr sv then 999 else i)) = false) : digs μ1 h a v s := by
  have e0 : ∀ i, μ1 h i = μ h i := fun i => hF.f hH (hh i) rfl
  have e1 : ∀ i, μ1 a i = μ a i := fun i => hF.f hA (ha i) rfl
  have e2 : ∀ i, μ1 v i = μ v i := fun i => hF.f hV (hv i) rfl
  unfold digs dig at g ⊢
  simp only [e0, e1, e2]; exact g
theorem net_t {μ : mM} {h a v : Nat} {N s p t x y z : Int} (hr : radix μ a v N) (hd : digs μ h a v s) (hp : 1 ≤ p ∧ p ≤ 6) (hs : 0 ≤ s ∧ s < N) (qa : μ a p.toNat = x) (qv : μ v p.toNat = y) (qh : μ h p.toNat = z) (hy : 0 ≤ y) (ht : 0 ≤ t ∧ t ≤ y) {e : Int} (he : (t - z) * x = e) : 0 ≤ s + e ∧ s + e < N := by
  obtain ⟨w0, K, hK⟩ := hr.at hp
  have d := hd.at hp
  unfold dig at d
  rw [qa] at w0
  rw [qa, qv] at hK
  rw [qa, qv, qh] at d
  rw [← he]
  exact digT w0 (by omega) hK hs d (by omega)
/-- a queue: its entries are states that were reached, none stands there twice -/
def quOK (μ : mM) (n N : Int) : Prop := (∀ i : Int, 0 ≤ i → i < n → 0 ≤ μ 190 i.toNat ∧ μ 190 i.toNat < N ∧ 0 ≤ μ 189 (μ 190 i.toNat).toNat ∧ μ 189 (μ 190 i.toNat).toNat ≤ i) ∧ dist μ 190 n
theorem quOK.pig {μ : mM} {n N : Int} (h : quOK μ n N) (hN : 0 ≤ N) : n ≤ N := by
  by_cases h0 : n ≤ 0
  · omega
  · have := pigeon N.toNat n.toNat (fun i => (μ 190 i).toNat) (fun i hi => by have := h.1 i (by omega) (by omega); have e : ((i : Int)).toNat = i := rfl; rw [e] at this; show (μ 190 i).toNat < N.toNat; omega) (fun i j hij hj => by
      have h1 := h.2 i j (by omega) (by omega) (by omega)
      have h2 := h.1 i (by omega) (by omega)
      have h3 := h.1 j (by omega) (by omega)
      have e1 : ((i : Int)).toNat = i := rfl
      have e2 : ((j : Int)).toNat = j := rfl
      rw [e1] at h1 h2
      rw [e2] at h1 h3
      show (μ 190 i).toNat ≠ (μ 190 j).toNat
      omega)
    omega
theorem quOK.rd {μ : mM} {n N i s v : Int} (h : quOK μ n N) (h0 : 0 ≤ i) (h1 : i < n) (q : μ 190 i.toNat = s) (qv : μ 189 s.toNat = v) : 0 ≤ v ∧ v ≤ i := by
  have := h.1 i h0 h1
  rw [q, qv] at this; exact this.2.2
theorem quOK.st {μ : mM} {n N i s : Int} (h : quOK μ n N) (h0 : 0 ≤ i) (h1 : i < n) (q : μ 190 i.toNat = s) : 0 ≤ s ∧ s < N := by
  have := h.1 i h0 h1
  rw [q] at this; exact ⟨this.1, this.2.1⟩
theorem quOK.keep {l : List Nat} {w : mW} {μ μ1 : mM} {n N : Int} (h : quOK μ n N) (hw : mWF w) (hF : mF l w μ μ1) (hl : (!(l.elem 189999) && !(l.elem 190999)) = true) : quOK μ1 n N := by
  simp only [Bool.and_eq_true, Bool.not_eq_true'] at hl
  have e1 : μ1 189 = μ 189 := funext fun i => hF.f (A_189 hw) hl.1 rfl
  have e2 : μ1 190 = μ 190 := funext fun i => hF.f (A_190 hw) hl.2 rfl
  unfold quOK dist at h ⊢
  rw [e1, e2]; exact h
theorem quOK.push {μ μ1 μ2 : mM} {n N t v o : Int} (h : quOK μ n N) (hn : 0 ≤ n) (ht : 0 ≤ t ∧ t < N) (qo : μ 189 t.toNat = o) (ho : o < 0) (u1 : mU μ 189 t.toNat v μ1) (hv : 0 ≤ v ∧ v ≤ n) (u2 : mU μ1 190 n.toNat t μ2) : quOK μ2 (n + 1) N := by
  have hq : ∀ i : Int, 0 ≤ i → i < n → μ2 190 i.toNat = μ 190 i.toNat := fun i h0 h1 => by rw [u2.2 190 _ (Or.inr (by omega)), u1.2 190 _ (Or.inl (by decide))]
  have hn2 : μ2 190 n.toNat = t := u2.1
  have ne : ∀ i : Int, 0 ≤ i → i < n → μ 190 i.toNat ≠ t := fun i h0 h1 e => by
    have := h.1 i h0 h1
    rw [e, qo] at this; omega
  refine ⟨fun i h0 h1 => ?_, ?_⟩
  · by_cases he : i = n
    · rw [he, hn2, u2.2 189 _ (Or.inl (by decide)), u1.1]; omega
    · have g := h.1 i h0 (by omega)
      have gn := ne i h0 (by omega)
      rw [hq i h0 (by omega), u2.2 189 _ (Or.inl (by decide)), u1.2 189 _ (Or.inr (by omega))]
      exact g
  · intro i j hi hij hj
    by_cases he : j = n
    · rw [he, hn2, hq i hi (by omega)]; exact ne i hi (by omega)
    · rw [hq i hi (by omega), hq j (by omega) (by omega)]; exact h.2 i j hi hij (by omega)
theorem quOK.room {μ : mM} {n N t o : Int} (h : quOK μ n N) (hn : 0 ≤ n) (ht : 0 ≤ t ∧ t < N) (qo : μ 189 t.toNat = o) (ho : o < 0) : n < N := by
  have := (h.push hn ht qo ho mUp_ok ⟨Int.le_refl 0, hn⟩ mUp_ok).pig (by omega)
  omega
theorem quOK.init {μ μ1 μ2 : mM} {N e : Int} (he : e = N - 1) (hN : 1 ≤ N) (u1 : mU μ 190 (0 : Int).toNat e μ1) (u2 : mU μ1 189 e.toNat 0 μ2) : quOK μ2 1 N := by
  have h0 : μ2 190 (0 : Int).toNat = e := by rw [u2.2 190 _ (Or.inl (by decide)), u1.1]
  refine ⟨fun i i0 i1 => ?_, fun i j i0 ij j1 => by omega⟩
  have : i = 0 := by omega
  subst this
  rw [h0, u2.1]; omega
end
section
theorem dX12_tries_0 : decode cX12_tries 0 = .ok (.iload_n 1, 1) := dc0 dO_27 (by decide +kernel)
theorem dX12_tries_1 : decode cX12_tries 1 = .ok (.iconst 0, 1) := dc0 dO_3 (by decide +kernel)
theorem dX12_tries_2 : decode cX12_tries 2 = .ok (.iconst 3, 1) := dc0 dO_6 (by decide +kernel)
theorem dX12_tries_3 : decode cX12_tries 3 = .ok (.invokestatic 18, 3) := dcU2 dO_184 (by decide +kernel)
theorem dX12_tries_6 : decode cX12_tries 6 = .ok (.ifCond .ne 5, 3) := dcS2 dO_154 (by decide +kernel)
theorem dX12_tries_9 : decode cX12_tries 9 = .ok (.iconst (-1), 1) := dc0 dO_2 (by decide +kernel)
theorem dX12_tries_10 : decode cX12_tries 10 = .ok (.ireturn, 1) := dc0 dO_172 (by decide +kernel)
theorem dX12_tries_11 : decode cX12_tries 11 = .ok (.aload_n 0, 1) := dc0 dO_42 (by decide +kernel)
theorem dX12_tries_12 : decode cX12_tries 12 = .ok (.invokevirtual 728, 3) := dcU2 dO_182 (by decide +kernel)
theorem dX12_tries_15 : decode cX12_tries 15 = .ok (.istore_n 2, 1) := dc0 dO_61 (by decide +kernel)
theorem dX12_tries_16 : decode cX12_tries 16 = .ok (.iconst 0, 1) := dc0 dO_3 (by decide +kernel)
theorem dX12_tries_17 : decode cX12_tries 17 = .ok (.istore_n 3, 1) := dc0 dO_62 (by decide +kernel)
theorem dX12_tries_18 : decode cX12_tries 18 = .ok (.iload_n 3, 1) := dc0 dO_29 (by decide +kernel)
theorem dX12_tries_19 : decode cX12_tries 19 = .ok (.iload_n 2, 1) := dc0 dO_28 (by decide +kernel)
theorem dX12_tries_20 : decode cX12_tries 20 = .ok (.if_icmp .ge 23, 3) := dcS2 dO_162 (by decide +kernel)
theorem dX12_tries_23 : decode cX12_tries 23 = .ok (.aload_n 0, 1) := dc0 dO_42 (by decide +kernel)
theorem dX12_tries_24 : decode cX12_tries 24 = .ok (.getfield 530, 3) := dcU2 dO_180 (by decide +kernel)
theorem dX12_tries_27 : decode cX12_tries 27 = .ok (.iload_n 3, 1) := dc0 dO_29 (by decide +kernel)
theorem dX12_tries_28 : decode cX12_tries 28 = .ok (.iconst (-1), 1) := dc0 dO_2 (by decide +kernel)
theorem dX12_tries_29 : decode cX12_tries 29 = .ok (.iastore, 1) := dc0 dO_79 (by decide +kernel)
theorem dX12_tries_30 : decode cX12_tries 30 = .ok (.aload_n 0, 1) := dc0 dO_42 (by decide +kernel)
theorem dX12_tries_31 : decode cX12_tries 31 = .ok (.getfield 536, 3) := dcU2 dO_180 (by decide +kernel)
theorem dX12_tries_34 : decode cX12_tries 34 = .ok (.iload_n 3, 1) := dc0 dO_29 (by decide +kernel)
theorem dX12_tries_35 : decode cX12_tries 35 = .ok (.iconst 0, 1) := dc0 dO_3 (by decide +kernel)
theorem dX12_tries_36 : decode cX12_tries 36 = .ok (.bastore, 1) := dc0 dO_84 (by decide +kernel)
theorem dX12_tries_37 : decode cX12_tries 37 = .ok (.iinc 3 1, 3) := dcI dO_132 (by decide +kernel)
theorem dX12_tries_40 : decode cX12_tries 40 = .ok (.goto (-22), 3) := dcS2 dO_167 (by decide +kernel)
theorem dX12_tries_43 : decode cX12_tries 43 = .ok (.iconst 0, 1) := dc0 dO_3 (by decide +kernel)
theorem dX12_tries_44 : decode cX12_tries 44 = .ok (.istore_n 3, 1) := dc0 dO_62 (by decide +kernel)
theorem dX12_tries_45 : decode cX12_tries 45 = .ok (.aload_n 0, 1) := dc0 dO_42 (by decide +kernel)
theorem dX12_tries_46 : decode cX12_tries 46 = .ok (.getfield 533, 3) := dcU2 dO_180 (by decide +kernel)
theorem dX12_tries_49 : decode cX12_tries 49 = .ok (.iload_n 3, 1) := dc0 dO_29 (by decide +kernel)
theorem dX12_tries_50 : decode cX12_tries 50 = .ok (.iload_n 2, 1) := dc0 dO_28 (by decide +kernel)
theorem dX12_tries_51 : decode cX12_tries 51 = .ok (.iconst 1, 1) := dc0 dO_4 (by decide +kernel)
theorem dX12_tries_52 : decode cX12_tries 52 = .ok (.isub, 1) := dc0 dO_100 (by decide +kernel)
theorem dX12_tries_53 : decode cX12_tries 53 = .ok (.iastore, 1) := dc0 dO_79 (by decide +kernel)
theorem dX12_tries_54 : decode cX12_tries 54 = .ok (.aload_n 0, 1) := dc0 dO_42 (by decide +kernel)
theorem dX12_tries_55 : decode cX12_tries 55 = .ok (.getfield 530, 3) := dcU2 dO_180 (by decide +kernel)
theorem dX12_tries_58 : decode cX12_tries 58 = .ok (.iload_n 2, 1) := dc0 dO_28 (by decide +kernel)
theorem dX12_tries_59 : decode cX12_tries 59 = .ok (.iconst 1, 1) := dc0 dO_4 (by decide +kernel)
theorem dX12_tries_60 : decode cX12_tries 60 = .ok (.isub, 1) := dc0 dO_100 (by decide +kernel)
theorem dX12_tries_61 : decode cX12_tries 61 = .ok (.iconst 0, 1) := dc0 dO_3 (by decide +kernel)
theorem dX12_tries_62 : decode cX12_tries 62 = .ok (.iastore, 1) := dc0 dO_79 (by decide +kernel)
theorem dX12_tries_63 : decode cX12_tries 63 = .ok (.iinc 3 1, 3) := dcI dO_132 (by decide +kernel)
theorem dX12_tries_66 : decode cX12_tries 66 = .ok (.iconst 0, 1) := dc0 dO_3 (by decide +kernel)
theorem dX12_tries_67 : decode cX12_tries 67 = .ok (.istore 4, 2) := dcU1 dO_54 (by decide +kernel)
theorem dX12_tries_69 : decode cX12_tries 69 = .ok (.ldc 29, 2) := dcU1 dO_18 (by decide +kernel)
theorem dX12_tries_71 : decode cX12_tries 71 = .ok (.istore 5, 2) := dcU1 dO_54 (by decide +kernel)
theorem dX12_tries_73 : decode cX12_tries 73 = .ok (.iconst 0, 1) := dc0 dO_3 (by decide +kernel)
theorem dX12_tries_74 : decode cX12_tries 74 = .ok (.istore 6, 2) := dcU1 dO_54 (by decide +kernel)
theorem dX12_tries_76 : decode cX12_tries 76 = .ok (.iload 6, 2) := dcU1 dO_21 (by decide +kernel)
theorem dX12_tries_78 : decode cX12_tries 78 = .ok (.iload_n 3, 1) := dc0 dO_29 (by decide +kernel)
theorem dX12_tries_79 : decode cX12_tries 79 = .ok (.if_icmp .ge 161, 3) := dcS2 dO_162 (by decide +kernel)
theorem dX12_tries_82 : decode cX12_tries 82 = .ok (.aload_n 0, 1) := dc0 dO_42 (by decide +kernel)
theorem dX12_tries_83 : decode cX12_tries 83 = .ok (.getfield 533, 3) := dcU2 dO_180 (by decide +kernel)
theorem dX12_tries_86 : decode cX12_tries 86 = .ok (.iload 6, 2) := dcU1 dO_21 (by decide +kernel)
theorem dX12_tries_88 : decode cX12_tries 88 = .ok (.iaload, 1) := dc0 dO_46 (by decide +kernel)
theorem dX12_tries_89 : decode cX12_tries 89 = .ok (.istore 7, 2) := dcU1 dO_54 (by decide +kernel)
theorem dX12_tries_91 : decode cX12_tries 91 = .ok (.iconst 1, 1) := dc0 dO_4 (by decide +kernel)
theorem dX12_tries_92 : decode cX12_tries 92 = .ok (.istore 8, 2) := dcU1 dO_54 (by decide +kernel)
theorem dX12_tries_94 : decode cX12_tries 94 = .ok (.aload_n 0, 1) := dc0 dO_42 (by decide +kernel)
theorem dX12_tries_95 : decode cX12_tries 95 = .ok (.iload 7, 2) := dcU1 dO_21 (by decide +kernel)
theorem dX12_tries_97 : decode cX12_tries 97 = .ok (.invokevirtual 722, 3) := dcU2 dO_182 (by decide +kernel)
theorem dX12_tries_100 : decode cX12_tries 100 = .ok (.iconst 1, 1) := dc0 dO_4 (by decide +kernel)
theorem dX12_tries_101 : decode cX12_tries 101 = .ok (.istore 9, 2) := dcU1 dO_54 (by decide +kernel)
theorem dX12_tries_103 : decode cX12_tries 103 = .ok (.iload 9, 2) := dcU1 dO_21 (by decide +kernel)
theorem dX12_tries_105 : decode cX12_tries 105 = .ok (.bipush 6, 2) := dcS1 dO_16 (by decide +kernel)
theorem dX12_tries_107 : decode cX12_tries 107 = .ok (.if_icmp .gt 95, 3) := dcS2 dO_163 (by decide +kernel)
theorem dX12_tries_110 : decode cX12_tries 110 = .ok (.aload_n 0, 1) := dc0 dO_42 (by decide +kernel)
theorem dX12_tries_111 : decode cX12_tries 111 = .ok (.iload 9, 2) := dcU1 dO_21 (by decide +kernel)
theorem dX12_tries_113 : decode cX12_tries 113 = .ok (.invokevirtual 725, 3) := dcU2 dO_182 (by decide +kernel)
theorem dX12_tries_116 : decode cX12_tries 116 = .ok (.istore 10, 2) := dcU1 dO_54 (by decide +kernel)
theorem dX12_tries_118 : decode cX12_tries 118 = .ok (.iload 10, 2) := dcU1 dO_21 (by decide +kernel)
theorem dX12_tries_120 : decode cX12_tries 120 = .ok (.aload_n 0, 1) := dc0 dO_42 (by decide +kernel)
theorem dX12_tries_121 : decode cX12_tries 121 = .ok (.getfield 526, 3) := dcU2 dO_180 (by decide +kernel)
theorem dX12_tries_124 : decode cX12_tries 124 = .ok (.iload 9, 2) := dcU1 dO_21 (by decide +kernel)
theorem dX12_tries_126 : decode cX12_tries 126 = .ok (.iaload, 1) := dc0 dO_46 (by decide +kernel)
theorem dX12_tries_127 : decode cX12_tries 127 = .ok (.if_icmp .ne 6, 3) := dcS2 dO_160 (by decide +kernel)
theorem sfx_cX12_tries_128 : (cX12_tries.data.toList.drop 128).take 67 = [0, 6, 167, 0, 66, 3, 54, 8, 21, 7, 21, 10, 42, 180, 2, 14, 21, 9, 46, 100, 42, 180, 2, 11, 21, 9, 46, 104, 96, 54, 11, 42, 180, 2, 18, 21, 11, 46, 156, 0, 30, 42, 180, 2, 18, 21, 11, 42, 180, 2, 18, 21, 7, 46, 4, 96, 79, 42, 180, 2, 21, 29, 21, 11, 79, 132, 3] := by decide +kernel
theorem dX12_tries_130 : decode cX12_tries 130 = .ok (.goto 66, 3) := dcS2 dO_167 (rdS2.ch sfx_cX12_tries_128 2 rfl (by decide +kernel))
theorem dX12_tries_133 : decode cX12_tries 133 = .ok (.iconst 0, 1) := dc0 dO_3 (rdB.ch sfx_cX12_tries_128 5 rfl (by decide +kernel))
theorem dX12_tries_134 : decode cX12_tries 134 = .ok (.istore 8, 2) := dcU1 dO_54 (rdU1.ch sfx_cX12_tries_128 6 rfl (by decide +kernel))
theorem dX12_tries_136 : decode cX12_tries 136 = .ok (.iload 7, 2) := dcU1 dO_21 (rdU1.ch sfx_cX12_tries_128 8 rfl (by decide +kernel))
theorem dX12_tries_138 : decode cX12_tries 138 = .ok (.iload 10, 2) := dcU1 dO_21 (rdU1.ch sfx_cX12_tries_128 10 rfl (by decide +kernel))
theorem dX12_tries_140 : decode cX12_tries 140 = .ok (.aload_n 0, 1) := dc0 dO_42 (rdB.ch sfx_cX12_tries_128 12 rfl (by decide +kernel))
theorem dX12_tries_141 : decode cX12_tries 141 = .ok (.getfield 526, 3) := dcU2 dO_180 (rdU2.ch sfx_cX12_tries_128 13 rfl (by decide +kernel))
theorem dX12_tries_144 : decode cX12_tries 144 = .ok (.iload 9, 2) := dcU1 dO_21 (rdU1.ch sfx_cX12_tries_128 16 rfl (by decide +kernel))
theorem dX12_tries_146 : decode cX12_tries 146 = .ok (.iaload, 1) := dc0 dO_46 (rdB.ch sfx_cX12_tries_128 18 rfl (by decide +kernel))
theorem dX12_tries_147 : decode cX12_tries 147 = .ok (.isub, 1) := dc0 dO_100 (rdB.ch sfx_cX12_tries_128 19 rfl (by decide +kernel))
theorem dX12_tries_148 : decode cX12_tries 148 = .ok (.aload_n 0, 1) := dc0 dO_42 (rdB.ch sfx_cX12_tries_128 20 rfl (by decide +kernel))
theorem dX12_tries_149 : decode cX12_tries 149 = .ok (.getfield 523, 3) := dcU2 dO_180 (rdU2.ch sfx_cX12_tries_128 21 rfl (by decide +kernel))
theorem dX12_tries_152 : decode cX12_tries 152 = .ok (.iload 9, 2) := dcU1 dO_21 (rdU1.ch sfx_cX12_tries_128 24 rfl (by decide +kernel))
theorem dX12_tries_154 : decode cX12_tries 154 = .ok (.iaload, 1) := dc0 dO_46 (rdB.ch sfx_cX12_tries_128 26 rfl (by decide +kernel))
theorem dX12_tries_155 : decode cX12_tries 155 = .ok (.imul, 1) := dc0 dO_104 (rdB.ch sfx_cX12_tries_128 27 rfl (by decide +kernel))
theorem dX12_tries_156 : decode cX12_tries 156 = .ok (.iadd, 1) := dc0 dO_96 (rdB.ch sfx_cX12_tries_128 28 rfl (by decide +kernel))
theorem dX12_tries_157 : decode cX12_tries 157 = .ok (.istore 11, 2) := dcU1 dO_54 (rdU1.ch sfx_cX12_tries_128 29 rfl (by decide +kernel))
theorem dX12_tries_159 : decode cX12_tries 159 = .ok (.aload_n 0, 1) := dc0 dO_42 (rdB.ch sfx_cX12_tries_128 31 rfl (by decide +kernel))
theorem dX12_tries_160 : decode cX12_tries 160 = .ok (.getfield 530, 3) := dcU2 dO_180 (rdU2.ch sfx_cX12_tries_128 32 rfl (by decide +kernel))
theorem dX12_tries_163 : decode cX12_tries 163 = .ok (.iload 11, 2) := dcU1 dO_21 (rdU1.ch sfx_cX12_tries_128 35 rfl (by decide +kernel))
theorem dX12_tries_165 : decode cX12_tries 165 = .ok (.iaload, 1) := dc0 dO_46 (rdB.ch sfx_cX12_tries_128 37 rfl (by decide +kernel))
theorem dX12_tries_166 : decode cX12_tries 166 = .ok (.ifCond .ge 30, 3) := dcS2 dO_156 (rdS2.ch sfx_cX12_tries_128 38 rfl (by decide +kernel))
theorem dX12_tries_169 : decode cX12_tries 169 = .ok (.aload_n 0, 1) := dc0 dO_42 (rdB.ch sfx_cX12_tries_128 41 rfl (by decide +kernel))
theorem dX12_tries_170 : decode cX12_tries 170 = .ok (.getfield 530, 3) := dcU2 dO_180 (rdU2.ch sfx_cX12_tries_128 42 rfl (by decide +kernel))
theorem dX12_tries_173 : decode cX12_tries 173 = .ok (.iload 11, 2) := dcU1 dO_21 (rdU1.ch sfx_cX12_tries_128 45 rfl (by decide +kernel))
theorem dX12_tries_175 : decode cX12_tries 175 = .ok (.aload_n 0, 1) := dc0 dO_42 (rdB.ch sfx_cX12_tries_128 47 rfl (by decide +kernel))
theorem dX12_tries_176 : decode cX12_tries 176 = .ok (.getfield 530, 3) := dcU2 dO_180 (rdU2.ch sfx_cX12_tries_128 48 rfl (by decide +kernel))
theorem dX12_tries_179 : decode cX12_tries 179 = .ok (.iload 7, 2) := dcU1 dO_21 (rdU1.ch sfx_cX12_tries_128 51 rfl (by decide +kernel))
theorem dX12_tries_181 : decode cX12_tries 181 = .ok (.iaload, 1) := dc0 dO_46 (rdB.ch sfx_cX12_tries_128 53 rfl (by decide +kernel))
theorem dX12_tries_182 : decode cX12_tries 182 = .ok (.iconst 1, 1) := dc0 dO_4 (rdB.ch sfx_cX12_tries_128 54 rfl (by decide +kernel))
theorem dX12_tries_183 : decode cX12_tries 183 = .ok (.iadd, 1) := dc0 dO_96 (rdB.ch sfx_cX12_tries_128 55 rfl (by decide +kernel))
theorem dX12_tries_184 : decode cX12_tries 184 = .ok (.iastore, 1) := dc0 dO_79 (rdB.ch sfx_cX12_tries_128 56 rfl (by decide +kernel))
theorem dX12_tries_185 : decode cX12_tries 185 = .ok (.aload_n 0, 1) := dc0 dO_42 (rdB.ch sfx_cX12_tries_128 57 rfl (by decide +kernel))
theorem dX12_tries_186 : decode cX12_tries 186 = .ok (.getfield 533, 3) := dcU2 dO_180 (rdU2.ch sfx_cX12_tries_128 58 rfl (by decide +kernel))
theorem dX12_tries_189 : decode cX12_tries 189 = .ok (.iload_n 3, 1) := dc0 dO_29 (rdB.ch sfx_cX12_tries_128 61 rfl (by decide +kernel))
theorem dX12_tries_190 : decode cX12_tries 190 = .ok (.iload 11, 2) := dcU1 dO_21 (rdU1.ch sfx_cX12_tries_128 62 rfl (by decide +kernel))
theorem sfx_cX12_tries_192 : (cX12_tries.data.toList.drop 192).take 67 = [79, 132, 3, 1, 132, 9, 1, 167, 255, 160, 21, 8, 153, 0, 30, 132, 4, 1, 42, 180, 2, 24, 21, 7, 4, 84, 21, 5, 18, 29, 160, 0, 12, 42, 180, 2, 18, 21, 7, 46, 54, 5, 132, 6, 1, 167, 255, 95, 27, 154, 0, 5, 29, 172, 27, 4, 160, 0, 6, 21, 4, 172, 27, 6, 160, 0, 6] := by decide +kernel
theorem dX12_tries_192 : decode cX12_tries 192 = .ok (.iastore, 1) := dc0 dO_79 (rdB.ch sfx_cX12_tries_192 0 rfl (by decide +kernel))
theorem dX12_tries_193 : decode cX12_tries 193 = .ok (.iinc 3 1, 3) := dcI dO_132 (rdI.ch sfx_cX12_tries_192 1 rfl (by decide +kernel))
theorem dX12_tries_196 : decode cX12_tries 196 = .ok (.iinc 9 1, 3) := dcI dO_132 (rdI.ch sfx_cX12_tries_192 4 rfl (by decide +kernel))
theorem dX12_tries_199 : decode cX12_tries 199 = .ok (.goto (-96), 3) := dcS2 dO_167 (rdS2.ch sfx_cX12_tries_192 7 rfl (by decide +kernel))
theorem dX12_tries_202 : decode cX12_tries 202 = .ok (.iload 8, 2) := dcU1 dO_21 (rdU1.ch sfx_cX12_tries_192 10 rfl (by decide +kernel))
theorem dX12_tries_204 : decode cX12_tries 204 = .ok (.ifCond .eq 30, 3) := dcS2 dO_153 (rdS2.ch sfx_cX12_tries_192 12 rfl (by decide +kernel))
theorem dX12_tries_207 : decode cX12_tries 207 = .ok (.iinc 4 1, 3) := dcI dO_132 (rdI.ch sfx_cX12_tries_192 15 rfl (by decide +kernel))
theorem dX12_tries_210 : decode cX12_tries 210 = .ok (.aload_n 0, 1) := dc0 dO_42 (rdB.ch sfx_cX12_tries_192 18 rfl (by decide +kernel))
theorem dX12_tries_211 : decode cX12_tries 211 = .ok (.getfield 536, 3) := dcU2 dO_180 (rdU2.ch sfx_cX12_tries_192 19 rfl (by decide +kernel))
theorem dX12_tries_214 : decode cX12_tries 214 = .ok (.iload 7, 2) := dcU1 dO_21 (rdU1.ch sfx_cX12_tries_192 22 rfl (by decide +kernel))
theorem dX12_tries_216 : decode cX12_tries 216 = .ok (.iconst 1, 1) := dc0 dO_4 (rdB.ch sfx_cX12_tries_192 24 rfl (by decide +kernel))
theorem dX12_tries_217 : decode cX12_tries 217 = .ok (.bastore, 1) := dc0 dO_84 (rdB.ch sfx_cX12_tries_192 25 rfl (by decide +kernel))
theorem dX12_tries_218 : decode cX12_tries 218 = .ok (.iload 5, 2) := dcU1 dO_21 (rdU1.ch sfx_cX12_tries_192 26 rfl (by decide +kernel))
theorem dX12_tries_220 : decode cX12_tries 220 = .ok (.ldc 29, 2) := dcU1 dO_18 (rdU1.ch sfx_cX12_tries_192 28 rfl (by decide +kernel))
theorem dX12_tries_222 : decode cX12_tries 222 = .ok (.if_icmp .ne 12, 3) := dcS2 dO_160 (rdS2.ch sfx_cX12_tries_192 30 rfl (by decide +kernel))
theorem dX12_tries_225 : decode cX12_tries 225 = .ok (.aload_n 0, 1) := dc0 dO_42 (rdB.ch sfx_cX12_tries_192 33 rfl (by decide +kernel))
theorem dX12_tries_226 : decode cX12_tries 226 = .ok (.getfield 530, 3) := dcU2 dO_180 (rdU2.ch sfx_cX12_tries_192 34 rfl (by decide +kernel))
theorem dX12_tries_229 : decode cX12_tries 229 = .ok (.iload 7, 2) := dcU1 dO_21 (rdU1.ch sfx_cX12_tries_192 37 rfl (by decide +kernel))
theorem dX12_tries_231 : decode cX12_tries 231 = .ok (.iaload, 1) := dc0 dO_46 (rdB.ch sfx_cX12_tries_192 39 rfl (by decide +kernel))
theorem dX12_tries_232 : decode cX12_tries 232 = .ok (.istore 5, 2) := dcU1 dO_54 (rdU1.ch sfx_cX12_tries_192 40 rfl (by decide +kernel))
theorem dX12_tries_234 : decode cX12_tries 234 = .ok (.iinc 6 1, 3) := dcI dO_132 (rdI.ch sfx_cX12_tries_192 42 rfl (by decide +kernel))
theorem dX12_tries_237 : decode cX12_tries 237 = .ok (.goto (-161), 3) := dcS2 dO_167 (rdS2.ch sfx_cX12_tries_192 45 rfl (by decide +kernel))
theorem dX12_tries_240 : decode cX12_tries 240 = .ok (.iload_n 1, 1) := dc0 dO_27 (rdB.ch sfx_cX12_tries_192 48 rfl (by decide +kernel))
theorem dX12_tries_241 : decode cX12_tries 241 = .ok (.ifCond .ne 5, 3) := dcS2 dO_154 (rdS2.ch sfx_cX12_tries_192 49 rfl (by decide +kernel))
theorem dX12_tries_244 : decode cX12_tries 244 = .ok (.iload_n 3, 1) := dc0 dO_29 (rdB.ch sfx_cX12_tries_192 52 rfl (by decide +kernel))
theorem dX12_tries_245 : decode cX12_tries 245 = .ok (.ireturn, 1) := dc0 dO_172 (rdB.ch sfx_cX12_tries_192 53 rfl (by decide +kernel))
theorem dX12_tries_246 : decode cX12_tries 246 = .ok (.iload_n 1, 1) := dc0 dO_27 (rdB.ch sfx_cX12_tries_192 54 rfl (by decide +kernel))
theorem dX12_tries_247 : decode cX12_tries 247 = .ok (.iconst 1, 1) := dc0 dO_4 (rdB.ch sfx_cX12_tries_192 55 rfl (by decide +kernel))
theorem dX12_tries_248 : decode cX12_tries 248 = .ok (.if_icmp .ne 6, 3) := dcS2 dO_160 (rdS2.ch sfx_cX12_tries_192 56 rfl (by decide +kernel))
theorem dX12_tries_251 : decode cX12_tries 251 = .ok (.iload 4, 2) := dcU1 dO_21 (rdU1.ch sfx_cX12_tries_192 59 rfl (by decide +kernel))
theorem dX12_tries_253 : decode cX12_tries 253 = .ok (.ireturn, 1) := dc0 dO_172 (rdB.ch sfx_cX12_tries_192 61 rfl (by decide +kernel))
theorem dX12_tries_254 : decode cX12_tries 254 = .ok (.iload_n 1, 1) := dc0 dO_27 (rdB.ch sfx_cX12_tries_192 62 rfl (by decide +kernel))
theorem dX12_tries_255 : decode cX12_tries 255 = .ok (.iconst 3, 1) := dc0 dO_6 (rdB.ch sfx_cX12_tries_192 63 rfl (by decide +kernel))
theorem sfx_cX12_tries_256 : (cX12_tries.data.toList.drop 256).take 67 = [160, 0, 6, 21, 5, 172, 4, 54, 6, 21, 6, 153, 0, 138, 3, 54, 6, 29, 4, 100, 54, 7, 21, 7, 155, 0, 122, 42, 180, 2, 21, 21, 7, 46, 54, 8, 42, 180, 2, 24, 21, 8, 51, 153, 0, 6, 167, 0, 94, 42, 21, 8, 182, 2, 210, 4, 54, 9, 21, 9, 16, 6, 163, 0, 56, 42, 180] := by decide +kernel
theorem dX12_tries_256 : decode cX12_tries 256 = .ok (.if_icmp .ne 6, 3) := dcS2 dO_160 (rdS2.ch sfx_cX12_tries_256 0 rfl (by decide +kernel))
theorem dX12_tries_259 : decode cX12_tries 259 = .ok (.iload 5, 2) := dcU1 dO_21 (rdU1.ch sfx_cX12_tries_256 3 rfl (by decide +kernel))
theorem dX12_tries_261 : decode cX12_tries 261 = .ok (.ireturn, 1) := dc0 dO_172 (rdB.ch sfx_cX12_tries_256 5 rfl (by decide +kernel))
theorem dX12_tries_262 : decode cX12_tries 262 = .ok (.iconst 1, 1) := dc0 dO_4 (rdB.ch sfx_cX12_tries_256 6 rfl (by decide +kernel))
theorem dX12_tries_263 : decode cX12_tries 263 = .ok (.istore 6, 2) := dcU1 dO_54 (rdU1.ch sfx_cX12_tries_256 7 rfl (by decide +kernel))
theorem dX12_tries_265 : decode cX12_tries 265 = .ok (.iload 6, 2) := dcU1 dO_21 (rdU1.ch sfx_cX12_tries_256 9 rfl (by decide +kernel))
theorem dX12_tries_267 : decode cX12_tries 267 = .ok (.ifCond .eq 138, 3) := dcS2 dO_153 (rdS2.ch sfx_cX12_tries_256 11 rfl (by decide +kernel))
theorem dX12_tries_270 : decode cX12_tries 270 = .ok (.iconst 0, 1) := dc0 dO_3 (rdB.ch sfx_cX12_tries_256 14 rfl (by decide +kernel))
theorem dX12_tries_271 : decode cX12_tries 271 = .ok (.istore 6, 2) := dcU1 dO_54 (rdU1.ch sfx_cX12_tries_256 15 rfl (by decide +kernel))
theorem dX12_tries_273 : decode cX12_tries 273 = .ok (.iload_n 3, 1) := dc0 dO_29 (rdB.ch sfx_cX12_tries_256 17 rfl (by decide +kernel))
theorem dX12_tries_274 : decode cX12_tries 274 = .ok (.iconst 1, 1) := dc0 dO_4 (rdB.ch sfx_cX12_tries_256 18 rfl (by decide +kernel))
theorem dX12_tries_275 : decode cX12_tries 275 = .ok (.isub, 1) := dc0 dO_100 (rdB.ch sfx_cX12_tries_256 19 rfl (by decide +kernel))
theorem dX12_tries_276 : decode cX12_tries 276 = .ok (.istore 7, 2) := dcU1 dO_54 (rdU1.ch sfx_cX12_tries_256 20 rfl (by decide +kernel))
theorem dX12_tries_278 : decode cX12_tries 278 = .ok (.iload 7, 2) := dcU1 dO_21 (rdU1.ch sfx_cX12_tries_256 22 rfl (by decide +kernel))
theorem dX12_tries_280 : decode cX12_tries 280 = .ok (.ifCond .lt 122, 3) := dcS2 dO_155 (rdS2.ch sfx_cX12_tries_256 24 rfl (by decide +kernel))
theorem dX12_tries_283 : decode cX12_tries 283 = .ok (.aload_n 0, 1) := dc0 dO_42 (rdB.ch sfx_cX12_tries_256 27 rfl (by decide +kernel))
theorem dX12_tries_284 : decode cX12_tries 284 = .ok (.getfield 533, 3) := dcU2 dO_180 (rdU2.ch sfx_cX12_tries_256 28 rfl (by decide +kernel))
theorem dX12_tries_287 : decode cX12_tries 287 = .ok (.iload 7, 2) := dcU1 dO_21 (rdU1.ch sfx_cX12_tries_256 31 rfl (by decide +kernel))
theorem dX12_tries_289 : decode cX12_tries 289 = .ok (.iaload, 1) := dc0 dO_46 (rdB.ch sfx_cX12_tries_256 33 rfl (by decide +kernel))
theorem dX12_tries_290 : decode cX12_tries 290 = .ok (.istore 8, 2) := dcU1 dO_54 (rdU1.ch sfx_cX12_tries_256 34 rfl (by decide +kernel))
theorem dX12_tries_292 : decode cX12_tries 292 = .ok (.aload_n 0, 1) := dc0 dO_42 (rdB.ch sfx_cX12_tries_256 36 rfl (by decide +kernel))
theorem dX12_tries_293 : decode cX12_tries 293 = .ok (.getfield 536, 3) := dcU2 dO_180 (rdU2.ch sfx_cX12_tries_256 37 rfl (by decide +kernel))
theorem dX12_tries_296 : decode cX12_tries 296 = .ok (.iload 8, 2) := dcU1 dO_21 (rdU1.ch sfx_cX12_tries_256 40 rfl (by decide +kernel))
theorem dX12_tries_298 : decode cX12_tries 298 = .ok (.baload, 1) := dc0 dO_51 (rdB.ch sfx_cX12_tries_256 42 rfl (by decide +kernel))
theorem dX12_tries_299 : decode cX12_tries 299 = .ok (.ifCond .eq 6, 3) := dcS2 dO_153 (rdS2.ch sfx_cX12_tries_256 43 rfl (by decide +kernel))
theorem dX12_tries_302 : decode cX12_tries 302 = .ok (.goto 94, 3) := dcS2 dO_167 (rdS2.ch sfx_cX12_tries_256 46 rfl (by decide +kernel))
theorem dX12_tries_305 : decode cX12_tries 305 = .ok (.aload_n 0, 1) := dc0 dO_42 (rdB.ch sfx_cX12_tries_256 49 rfl (by decide +kernel))
theorem dX12_tries_306 : decode cX12_tries 306 = .ok (.iload 8, 2) := dcU1 dO_21 (rdU1.ch sfx_cX12_tries_256 50 rfl (by decide +kernel))
theorem dX12_tries_308 : decode cX12_tries 308 = .ok (.invokevirtual 722, 3) := dcU2 dO_182 (rdU2.ch sfx_cX12_tries_256 52 rfl (by decide +kernel))
theorem dX12_tries_311 : decode cX12_tries 311 = .ok (.iconst 1, 1) := dc0 dO_4 (rdB.ch sfx_cX12_tries_256 55 rfl (by decide +kernel))
theorem dX12_tries_312 : decode cX12_tries 312 = .ok (.istore 9, 2) := dcU1 dO_54 (rdU1.ch sfx_cX12_tries_256 56 rfl (by decide +kernel))
theorem dX12_tries_314 : decode cX12_tries 314 = .ok (.iload 9, 2) := dcU1 dO_21 (rdU1.ch sfx_cX12_tries_256 58 rfl (by decide +kernel))
theorem dX12_tries_316 : decode cX12_tries 316 = .ok (.bipush 6, 2) := dcS1 dO_16 (rdS1.ch sfx_cX12_tries_256 60 rfl (by decide +kernel))
theorem dX12_tries_318 : decode cX12_tries 318 = .ok (.if_icmp .gt 56, 3) := dcS2 dO_163 (rdS2.ch sfx_cX12_tries_256 62 rfl (by decide +kernel))
theorem sfx_cX12_tries_320 : (cX12_tries.data.toList.drop 320).take 67 = [56, 42, 180, 2, 24, 21, 8, 51, 154, 0, 46, 42, 180, 2, 24, 21, 8, 42, 180, 2, 24, 21, 8, 42, 21, 9, 182, 2, 213, 42, 180, 2, 14, 21, 9, 46, 100, 42, 180, 2, 11, 21, 9, 46, 104, 96, 51, 84, 132, 9, 1, 167, 255, 199, 21, 6, 154, 0, 13, 42, 180, 2, 24, 21, 8, 51, 153] := by decide +kernel
theorem dX12_tries_321 : decode cX12_tries 321 = .ok (.aload_n 0, 1) := dc0 dO_42 (rdB.ch sfx_cX12_tries_320 1 rfl (by decide +kernel))
theorem dX12_tries_322 : decode cX12_tries 322 = .ok (.getfield 536, 3) := dcU2 dO_180 (rdU2.ch sfx_cX12_tries_320 2 rfl (by decide +kernel))
theorem dX12_tries_325 : decode cX12_tries 325 = .ok (.iload 8, 2) := dcU1 dO_21 (rdU1.ch sfx_cX12_tries_320 5 rfl (by decide +kernel))
theorem dX12_tries_327 : decode cX12_tries 327 = .ok (.baload, 1) := dc0 dO_51 (rdB.ch sfx_cX12_tries_320 7 rfl (by decide +kernel))
theorem dX12_tries_328 : decode cX12_tries 328 = .ok (.ifCond .ne 46, 3) := dcS2 dO_154 (rdS2.ch sfx_cX12_tries_320 8 rfl (by decide +kernel))
theorem dX12_tries_331 : decode cX12_tries 331 = .ok (.aload_n 0, 1) := dc0 dO_42 (rdB.ch sfx_cX12_tries_320 11 rfl (by decide +kernel))
theorem dX12_tries_332 : decode cX12_tries 332 = .ok (.getfield 536, 3) := dcU2 dO_180 (rdU2.ch sfx_cX12_tries_320 12 rfl (by decide +kernel))
theorem dX12_tries_335 : decode cX12_tries 335 = .ok (.iload 8, 2) := dcU1 dO_21 (rdU1.ch sfx_cX12_tries_320 15 rfl (by decide +kernel))
theorem dX12_tries_337 : decode cX12_tries 337 = .ok (.aload_n 0, 1) := dc0 dO_42 (rdB.ch sfx_cX12_tries_320 17 rfl (by decide +kernel))
theorem dX12_tries_338 : decode cX12_tries 338 = .ok (.getfield 536, 3) := dcU2 dO_180 (rdU2.ch sfx_cX12_tries_320 18 rfl (by decide +kernel))
theorem dX12_tries_341 : decode cX12_tries 341 = .ok (.iload 8, 2) := dcU1 dO_21 (rdU1.ch sfx_cX12_tries_320 21 rfl (by decide +kernel))
theorem dX12_tries_343 : decode cX12_tries 343 = .ok (.aload_n 0, 1) := dc0 dO_42 (rdB.ch sfx_cX12_tries_320 23 rfl (by decide +kernel))
theorem dX12_tries_344 : decode cX12_tries 344 = .ok (.iload 9, 2) := dcU1 dO_21 (rdU1.ch sfx_cX12_tries_320 24 rfl (by decide +kernel))
theorem dX12_tries_346 : decode cX12_tries 346 = .ok (.invokevirtual 725, 3) := dcU2 dO_182 (rdU2.ch sfx_cX12_tries_320 26 rfl (by decide +kernel))
theorem dX12_tries_349 : decode cX12_tries 349 = .ok (.aload_n 0, 1) := dc0 dO_42 (rdB.ch sfx_cX12_tries_320 29 rfl (by decide +kernel))
theorem dX12_tries_350 : decode cX12_tries 350 = .ok (.getfield 526, 3) := dcU2 dO_180 (rdU2.ch sfx_cX12_tries_320 30 rfl (by decide +kernel))
theorem dX12_tries_353 : decode cX12_tries 353 = .ok (.iload 9, 2) := dcU1 dO_21 (rdU1.ch sfx_cX12_tries_320 33 rfl (by decide +kernel))
theorem dX12_tries_355 : decode cX12_tries 355 = .ok (.iaload, 1) := dc0 dO_46 (rdB.ch sfx_cX12_tries_320 35 rfl (by decide +kernel))
theorem dX12_tries_356 : decode cX12_tries 356 = .ok (.isub, 1) := dc0 dO_100 (rdB.ch sfx_cX12_tries_320 36 rfl (by decide +kernel))
theorem dX12_tries_357 : decode cX12_tries 357 = .ok (.aload_n 0, 1) := dc0 dO_42 (rdB.ch sfx_cX12_tries_320 37 rfl (by decide +kernel))
theorem dX12_tries_358 : decode cX12_tries 358 = .ok (.getfield 523, 3) := dcU2 dO_180 (rdU2.ch sfx_cX12_tries_320 38 rfl (by decide +kernel))
theorem dX12_tries_361 : decode cX12_tries 361 = .ok (.iload 9, 2) := dcU1 dO_21 (rdU1.ch sfx_cX12_tries_320 41 rfl (by decide +kernel))
theorem dX12_tries_363 : decode cX12_tries 363 = .ok (.iaload, 1) := dc0 dO_46 (rdB.ch sfx_cX12_tries_320 43 rfl (by decide +kernel))
theorem dX12_tries_364 : decode cX12_tries 364 = .ok (.imul, 1) := dc0 dO_104 (rdB.ch sfx_cX12_tries_320 44 rfl (by decide +kernel))
theorem dX12_tries_365 : decode cX12_tries 365 = .ok (.iadd, 1) := dc0 dO_96 (rdB.ch sfx_cX12_tries_320 45 rfl (by decide +kernel))
theorem dX12_tries_366 : decode cX12_tries 366 = .ok (.baload, 1) := dc0 dO_51 (rdB.ch sfx_cX12_tries_320 46 rfl (by decide +kernel))
theorem dX12_tries_367 : decode cX12_tries 367 = .ok (.bastore, 1) := dc0 dO_84 (rdB.ch sfx_cX12_tries_320 47 rfl (by decide +kernel))
theorem dX12_tries_368 : decode cX12_tries 368 = .ok (.iinc 9 1, 3) := dcI dO_132 (rdI.ch sfx_cX12_tries_320 48 rfl (by decide +kernel))
theorem dX12_tries_371 : decode cX12_tries 371 = .ok (.goto (-57), 3) := dcS2 dO_167 (rdS2.ch sfx_cX12_tries_320 51 rfl (by decide +kernel))
theorem dX12_tries_374 : decode cX12_tries 374 = .ok (.iload 6, 2) := dcU1 dO_21 (rdU1.ch sfx_cX12_tries_320 54 rfl (by decide +kernel))
theorem dX12_tries_376 : decode cX12_tries 376 = .ok (.ifCond .ne 13, 3) := dcS2 dO_154 (rdS2.ch sfx_cX12_tries_320 56 rfl (by decide +kernel))
theorem dX12_tries_379 : decode cX12_tries 379 = .ok (.aload_n 0, 1) := dc0 dO_42 (rdB.ch sfx_cX12_tries_320 59 rfl (by decide +kernel))
theorem dX12_tries_380 : decode cX12_tries 380 = .ok (.getfield 536, 3) := dcU2 dO_180 (rdU2.ch sfx_cX12_tries_320 60 rfl (by decide +kernel))
theorem dX12_tries_383 : decode cX12_tries 383 = .ok (.iload 8, 2) := dcU1 dO_21 (rdU1.ch sfx_cX12_tries_320 63 rfl (by decide +kernel))
theorem sfx_cX12_tries_384 : (cX12_tries.data.toList.drop 384).take 67 = [8, 51, 153, 0, 7, 4, 167, 0, 4, 3, 54, 6, 132, 7, 255, 167, 255, 135, 167, 255, 119, 3, 54, 7, 3, 54, 8, 21, 8, 29, 162, 0, 34, 21, 7, 42, 180, 2, 24, 42, 180, 2, 21, 21, 8, 46, 51, 153, 0, 7, 3, 167, 0, 4, 4, 96, 54, 7, 132, 8, 1, 167, 255, 222, 21, 7, 172] := by decide +kernel
theorem dX12_tries_385 : decode cX12_tries 385 = .ok (.baload, 1) := dc0 dO_51 (rdB.ch sfx_cX12_tries_384 1 rfl (by decide +kernel))
theorem dX12_tries_386 : decode cX12_tries 386 = .ok (.ifCond .eq 7, 3) := dcS2 dO_153 (rdS2.ch sfx_cX12_tries_384 2 rfl (by decide +kernel))
theorem dX12_tries_389 : decode cX12_tries 389 = .ok (.iconst 1, 1) := dc0 dO_4 (rdB.ch sfx_cX12_tries_384 5 rfl (by decide +kernel))
theorem dX12_tries_390 : decode cX12_tries 390 = .ok (.goto 4, 3) := dcS2 dO_167 (rdS2.ch sfx_cX12_tries_384 6 rfl (by decide +kernel))
theorem dX12_tries_393 : decode cX12_tries 393 = .ok (.iconst 0, 1) := dc0 dO_3 (rdB.ch sfx_cX12_tries_384 9 rfl (by decide +kernel))
theorem dX12_tries_394 : decode cX12_tries 394 = .ok (.istore 6, 2) := dcU1 dO_54 (rdU1.ch sfx_cX12_tries_384 10 rfl (by decide +kernel))
theorem dX12_tries_396 : decode cX12_tries 396 = .ok (.iinc 7 (-1), 3) := dcI dO_132 (rdI.ch sfx_cX12_tries_384 12 rfl (by decide +kernel))
theorem dX12_tries_399 : decode cX12_tries 399 = .ok (.goto (-121), 3) := dcS2 dO_167 (rdS2.ch sfx_cX12_tries_384 15 rfl (by decide +kernel))
theorem dX12_tries_402 : decode cX12_tries 402 = .ok (.goto (-137), 3) := dcS2 dO_167 (rdS2.ch sfx_cX12_tries_384 18 rfl (by decide +kernel))
theorem dX12_tries_405 : decode cX12_tries 405 = .ok (.iconst 0, 1) := dc0 dO_3 (rdB.ch sfx_cX12_tries_384 21 rfl (by decide +kernel))
theorem dX12_tries_406 : decode cX12_tries 406 = .ok (.istore 7, 2) := dcU1 dO_54 (rdU1.ch sfx_cX12_tries_384 22 rfl (by decide +kernel))
theorem dX12_tries_408 : decode cX12_tries 408 = .ok (.iconst 0, 1) := dc0 dO_3 (rdB.ch sfx_cX12_tries_384 24 rfl (by decide +kernel))
theorem dX12_tries_409 : decode cX12_tries 409 = .ok (.istore 8, 2) := dcU1 dO_54 (rdU1.ch sfx_cX12_tries_384 25 rfl (by decide +kernel))
theorem dX12_tries_411 : decode cX12_tries 411 = .ok (.iload 8, 2) := dcU1 dO_21 (rdU1.ch sfx_cX12_tries_384 27 rfl (by decide +kernel))
theorem dX12_tries_413 : decode cX12_tries 413 = .ok (.iload_n 3, 1) := dc0 dO_29 (rdB.ch sfx_cX12_tries_384 29 rfl (by decide +kernel))
theorem dX12_tries_414 : decode cX12_tries 414 = .ok (.if_icmp .ge 34, 3) := dcS2 dO_162 (rdS2.ch sfx_cX12_tries_384 30 rfl (by decide +kernel))
theorem dX12_tries_417 : decode cX12_tries 417 = .ok (.iload 7, 2) := dcU1 dO_21 (rdU1.ch sfx_cX12_tries_384 33 rfl (by decide +kernel))
theorem dX12_tries_419 : decode cX12_tries 419 = .ok (.aload_n 0, 1) := dc0 dO_42 (rdB.ch sfx_cX12_tries_384 35 rfl (by decide +kernel))
theorem dX12_tries_420 : decode cX12_tries 420 = .ok (.getfield 536, 3) := dcU2 dO_180 (rdU2.ch sfx_cX12_tries_384 36 rfl (by decide +kernel))
theorem dX12_tries_423 : decode cX12_tries 423 = .ok (.aload_n 0, 1) := dc0 dO_42 (rdB.ch sfx_cX12_tries_384 39 rfl (by decide +kernel))
theorem dX12_tries_424 : decode cX12_tries 424 = .ok (.getfield 533, 3) := dcU2 dO_180 (rdU2.ch sfx_cX12_tries_384 40 rfl (by decide +kernel))
theorem dX12_tries_427 : decode cX12_tries 427 = .ok (.iload 8, 2) := dcU1 dO_21 (rdU1.ch sfx_cX12_tries_384 43 rfl (by decide +kernel))
theorem dX12_tries_429 : decode cX12_tries 429 = .ok (.iaload, 1) := dc0 dO_46 (rdB.ch sfx_cX12_tries_384 45 rfl (by decide +kernel))
theorem dX12_tries_430 : decode cX12_tries 430 = .ok (.baload, 1) := dc0 dO_51 (rdB.ch sfx_cX12_tries_384 46 rfl (by decide +kernel))
theorem dX12_tries_431 : decode cX12_tries 431 = .ok (.ifCond .eq 7, 3) := dcS2 dO_153 (rdS2.ch sfx_cX12_tries_384 47 rfl (by decide +kernel))
theorem dX12_tries_434 : decode cX12_tries 434 = .ok (.iconst 0, 1) := dc0 dO_3 (rdB.ch sfx_cX12_tries_384 50 rfl (by decide +kernel))
theorem dX12_tries_435 : decode cX12_tries 435 = .ok (.goto 4, 3) := dcS2 dO_167 (rdS2.ch sfx_cX12_tries_384 51 rfl (by decide +kernel))
theorem dX12_tries_438 : decode cX12_tries 438 = .ok (.iconst 1, 1) := dc0 dO_4 (rdB.ch sfx_cX12_tries_384 54 rfl (by decide +kernel))
theorem dX12_tries_439 : decode cX12_tries 439 = .ok (.iadd, 1) := dc0 dO_96 (rdB.ch sfx_cX12_tries_384 55 rfl (by decide +kernel))
theorem dX12_tries_440 : decode cX12_tries 440 = .ok (.istore 7, 2) := dcU1 dO_54 (rdU1.ch sfx_cX12_tries_384 56 rfl (by decide +kernel))
theorem dX12_tries_442 : decode cX12_tries 442 = .ok (.iinc 8 1, 3) := dcI dO_132 (rdI.ch sfx_cX12_tries_384 58 rfl (by decide +kernel))
theorem dX12_tries_445 : decode cX12_tries 445 = .ok (.goto (-34), 3) := dcS2 dO_167 (rdS2.ch sfx_cX12_tries_384 61 rfl (by decide +kernel))
theorem sfx_cX12_tries_448 : (cX12_tries.data.toList.drop 448).take 67 = [21, 7, 172] := by decide +kernel
theorem dX12_tries_448 : decode cX12_tries 448 = .ok (.iload 7, 2) := dcU1 dO_21 (rdU1.ch sfx_cX12_tries_448 0 rfl (by decide +kernel))
theorem dX12_tries_450 : decode cX12_tries 450 = .ok (.ireturn, 1) := dc0 dO_172 (rdB.ch sfx_cX12_tries_448 2 rfl (by decide +kernel))
end
