theorem vc_X2_aimBit_1 {p1 : Int} (h0 : 0 ≤ p1) (h1 : ¬ p1 = (-4)) (h2 : (-99999999) ≤ p1 ∧ p1 ≤ 19) : 0 ≤ p1 ∧ p1 ≤ 19 := by omega
theorem vc_X2_aimBit_2 {p1 : Int} (h0 : p1 < 0) (h1 : ¬ p1 = (-4)) (h2 : (-99999999) ≤ p1 ∧ p1 ≤ 19) : (-99999999) ≤ p1 ∧ p1 ≤ (-1) := by omega
theorem vc_X2_aimBit_3 {p1 : Int} (h0 : p1 = (-4)) (h1 : (-99999999) ≤ p1 ∧ p1 ≤ 19) : (-4) ≤ p1 ∧ p1 ≤ (-4) := by omega
set_option maxRecDepth 4000 in
set_option maxHeartbeats 4000000 in
theorem c_X2_aimBit {l : Launch} {D : va_G} {c : Nat → ClassId} {H0 : Heap} {sa : Nat × Nat × (Nat → Int32)} {w : mW} {μ : mM} (hw : mWF w) (hT : mT w μ) {p1 : Int} (hp1 : (-99999999) ≤ p1 ∧ p1 ≤ 19) : sC (gG l D c H0 sa) mX2_aimBit 1 0 0 [iv p1] (mk w μ) (qP w μ (fun z => ((-2147483648) ≤ z ∧ z ≤ 2147483647) ∧ True)) := by
  refine sC.of rfl (by decide) (le_t rfl) ?_
  refine mr_lvE (lv' := [(0, iv p1)]) rfl ?_
  refine mr_iload_n (pc := 0) (z := p1) dX2_aimBit_0 rfl rfl ?_
  refine mr_bipush (pc := 1) (z := (-4)) dX2_aimBit_1 (by decide) ?_
  refine mr_icmp_ne (pc := 3) (tgt := 9) dX2_aimBit_3 (by decide) (r32 hp1 rfl) (r32 (rR (x := (-4))) rfl) (fun h1 => ?_) (fun h1 => ?_)
  · refine mr_iload_n (pc := 9) (z := p1) dX2_aimBit_9 rfl rfl ?_
    refine mr_if_ge (pc := 10) (tgt := 18) dX2_aimBit_10 (by decide) (r32 hp1 rfl) (fun h7 => ?_) (fun h7 => ?_)
    · have h8 : 0 ≤ p1 ∧ p1 ≤ 19 := (vc_X2_aimBit_1 h7 h1 hp1)
      refine mr_iconst (pc := 18) (z := 1) dX2_aimBit_18 ?_
      refine mr_iload_n (pc := 19) (z := p1) dX2_aimBit_19 rfl rfl ?_
      refine mr_ishl (pc := 20) (x := 1) (y := p1) dX2_aimBit_20 ?_
      refine mr_gen (P := fun z => (-2147483648) ≤ z ∧ z ≤ 2147483647) (r32i _) fun z9 q10 h11 => ?_
      exact mr_iretP dX2_aimBit_21 rfl (le_t rfl) (le_t rfl) ⟨h11, trivial⟩
    have h12 : (-99999999) ≤ p1 ∧ p1 ≤ (-1) := (vc_X2_aimBit_2 h7 h1 hp1)
    refine mr_ldc (pc := 13) (z := 2097152) dX2_aimBit_13 wG_X2_105 (by decide) ?_
    refine sv_goto (pc := 15) (tgt := 21) dX2_aimBit_15 (by decide) ?_
    exact mr_iretP dX2_aimBit_21 rfl (le_t rfl) (le_t rfl) ⟨(rW (c := (-2147483648)) (d := 2147483647) (rR (x := 2097152)) rfl), trivial⟩
  have h13 : (-4) ≤ p1 ∧ p1 ≤ (-4) := (vc_X2_aimBit_3 h1 hp1)
  refine mr_ldc (pc := 6) (z := 1048576) dX2_aimBit_6 wG_X2_116 (by decide) ?_
  exact mr_iretP dX2_aimBit_8 rfl (le_t rfl) (le_t rfl) ⟨(rW (c := (-2147483648)) (d := 2147483647) (rR (x := 1048576)) rfl), trivial⟩
theorem vc_X2_insertBorder_1 {z43 : Int} (h0 : (z43 - (-1)) < ((0 : Nat) : Int)) (h1 : 0 ≤ z43 ∧ z43 ≤ 19) : False := by omega
theorem vc_X2_insertBorder_2 {z43 : Int} (h0 : z43 ≤ 0) (h1 : 0 ≤ z43 ∧ z43 ≤ 19) : 0 ≤ z43 ∧ z43 ≤ 0 := by omega
theorem vc_X2_insertBorder_3 {z43 : Int} (h0 : 0 < z43) (h1 : 0 ≤ z43 ∧ z43 ≤ 19) : 1 ≤ z43 ∧ z43 ≤ 19 := by omega
theorem vc_X2_insertBorder_4 {z74 : Int} (h0 : z74 ≤ 0) (h1 : (-1) ≤ z74 ∧ z74 ≤ 1) : (-1) ≤ z74 ∧ z74 ≤ 0 := by omega
theorem vc_X2_insertBorder_5 {z74 : Int} (h0 : 0 < z74) (h1 : (-1) ≤ z74 ∧ z74 ≤ 1) : 1 ≤ z74 ∧ z74 ≤ 1 := by omega
theorem vc_X2_insertBorder_6 {N z43 : Int} (h0 : (z43 - (-1)) < N + 1) (h1 : 0 < z43) (h2 : 1 ≤ z43 ∧ z43 ≤ 19) : ((z43 + (-1)) - (-1)) < N := by omega
theorem vc_X2_insertBorder_7 {p2 : Int} (h0 : 0 ≤ p2 ∧ p2 ≤ 19) : (p2 - (-1)) < ((21 : Nat) : Int) := by omega
set_option maxRecDepth 4000 in
set_option maxHeartbeats 4000000 in
theorem c_X2_insertBorder {l : Launch} {D : va_G} {c : Nat → ClassId} {H0 : Heap} {sa : Nat × Nat × (Nat → Int32)} {w : mW} {μ : mM} (hw : mWF w) (hT : mT w μ) {p1 : Int} (hp1 : (-9223372036854775808) ≤ p1 ∧ p1 ≤ 9223372036854775807) {p2 : Int} (hp2 : 0 ≤ p2 ∧ p2 ≤ 19) : sC (gG l D c H0 sa) mX2_insertBorder 1 0 0 [.ref 87, jv p1, iv p2] (mk w μ) (qV w [93999] μ (fun μ1 => True)) := by
  refine sC.of rfl (by decide) (le_t rfl) ?_
  refine mr_lvE (lv' := [(0, .ref 87), (1, jv p1), (3, iv p2)]) rfl ?_
  refine mr_iload_n (pc := 0) (z := p2) dX2_insertBorder_0 rfl rfl ?_
  refine mr_istore (pc := 1) (lv' := [(4, iv p2), (0, .ref 87), (1, jv p1), (3, iv p2)]) dX2_insertBorder_1 (by decide) rfl ?_
  have L45 : ∀ (nL45 : Nat) (z43 : Int) (μ44 : mM), mT w μ44 → mF [93999] w μ μ44 → (0 ≤ z43 ∧ z43 ≤ 19) → (z43 - (-1)) < (nL45 : Int) → sV (gG l D c H0 sa) mX2_insertBorder (sRm 1 0 0) (sZ (gG l D c H0 sa) 0 0 (qV w [93999] μ (fun μ1 => True))) 3 [(0, .ref 87), (1, jv p1), (4, iv z43)] [] (mk w μ44) 0 0 := by
    intro nL45
    induction nL45 with
    | zero => intro z43 μ44 T47 F48 h46 h50; exact ((vc_X2_insertBorder_1 h50 h46)).elim
    | succ nL45 ih51 =>
      intro z43 μ44 T47 F48 h46 h50
      refine mr_iload (pc := 3) (z := z43) dX2_insertBorder_3 rfl ?_
      refine mr_if_le (pc := 5) (tgt := 44) dX2_insertBorder_5 (by decide) (r32 h46 rfl) (fun h65 => ?_) (fun h65 => ?_)
      · have h66 : 0 ≤ z43 ∧ z43 ≤ 0 := (vc_X2_insertBorder_2 h65 h46)
        refine sv_aload_n (pc := 44) dX2_insertBorder_44 rfl rfl ?_
        refine gf_X2_5 (pc := 45) dX2_insertBorder_45 wF_X2_31 (A_87 hw) T47 ?_
        refine mr_iload (pc := 48) (z := z43) dX2_insertBorder_48 rfl ?_
        refine mr_lload_n (pc := 50) (z := p1) dX2_insertBorder_50 rfl rfl ?_
        refine ss_93 (pc := 51) dX2_insertBorder_51 (A_93 hw) T47 (rIx (n := 20) h66 rfl) hp1 fun μ67 u68 T69 => ?_
        exact mr_vret dX2_insertBorder_52 rfl (le_t rfl) (le_t rfl) T69 (mF.up (mF.call mF.refl F48 rfl) (A_93 hw) u68 rfl) trivial
      have h70 : 1 ≤ z43 ∧ z43 ≤ 19 := (vc_X2_insertBorder_3 h65 h46)
      refine sv_aload_n (pc := 8) dX2_insertBorder_8 rfl rfl ?_
      refine gf_X2_5 (pc := 9) dX2_insertBorder_9 wF_X2_31 (A_87 hw) T47 ?_
      refine mr_iload (pc := 12) (z := z43) dX2_insertBorder_12 rfl ?_
      refine mr_iconst (pc := 14) (z := 1) dX2_insertBorder_14 ?_
      refine mr_isub (pc := 15) (x := z43) (y := 1) dX2_insertBorder_15 ?_
      refine la_93 (pc := 16) dX2_insertBorder_16 (A_93 hw) T47 (rIx (n := 20) (rSub (e := 0) (f := 18) h70 (rR (x := 1)) rfl) rfl) fun z71 q72 h73 => ?_
      refine mr_lload_n (pc := 17) (z := p1) dX2_insertBorder_17 rfl rfl ?_
      refine mr_lcmp (pc := 18) dX2_insertBorder_18 ?_
      refine mr_gen (P := fun z => (-1) ≤ z ∧ z ≤ 1) (lg_cmp_r _ _) fun z74 q75 h76 => ?_
      refine mr_if_le (pc := 19) (tgt := 44) dX2_insertBorder_19 (by decide) (r32 h76 rfl) (fun h82 => ?_) (fun h82 => ?_)
      · have h83 : (-1) ≤ z74 ∧ z74 ≤ 0 := (vc_X2_insertBorder_4 h82 h76)
        refine sv_aload_n (pc := 44) dX2_insertBorder_44 rfl rfl ?_
        refine gf_X2_5 (pc := 45) dX2_insertBorder_45 wF_X2_31 (A_87 hw) T47 ?_
        refine mr_iload (pc := 48) (z := z43) dX2_insertBorder_48 rfl ?_
        refine mr_lload_n (pc := 50) (z := p1) dX2_insertBorder_50 rfl rfl ?_
        refine ss_93 (pc := 51) dX2_insertBorder_51 (A_93 hw) T47 (rIx (n := 20) h70 rfl) hp1 fun μ84 u85 T86 => ?_
        exact mr_vret dX2_insertBorder_52 rfl (le_t rfl) (le_t rfl) T86 (mF.up (mF.call mF.refl F48 rfl) (A_93 hw) u85 rfl) trivial
      have h87 : 1 ≤ z74 ∧ z74 ≤ 1 := (vc_X2_insertBorder_5 h82 h76)
      refine sv_aload_n (pc := 22) dX2_insertBorder_22 rfl rfl ?_
      refine gf_X2_5 (pc := 23) dX2_insertBorder_23 wF_X2_31 (A_87 hw) T47 ?_
      refine mr_iload (pc := 26) (z := z43) dX2_insertBorder_26 rfl ?_
      refine sv_aload_n (pc := 28) dX2_insertBorder_28 rfl rfl ?_
      refine gf_X2_5 (pc := 29) dX2_insertBorder_29 wF_X2_31 (A_87 hw) T47 ?_
      refine mr_iload (pc := 32) (z := z43) dX2_insertBorder_32 rfl ?_
      refine mr_iconst (pc := 34) (z := 1) dX2_insertBorder_34 ?_
      refine mr_isub (pc := 35) (x := z43) (y := 1) dX2_insertBorder_35 ?_
      refine lk_93 (pc := 36) dX2_insertBorder_36 (A_93 hw) (rIx (n := 20) (rSub (e := 0) (f := 18) h70 (rR (x := 1)) rfl) rfl) q72 ?_
      refine ss_93 (pc := 37) dX2_insertBorder_37 (A_93 hw) T47 (rIx (n := 20) h70 rfl) h73 fun μ88 u89 T90 => ?_
      refine mr_iinc (pc := 38) (lv' := [(4, iv (z43 + (-1))), (0, .ref 87), (1, jv p1)]) dX2_insertBorder_38 rfl (by decide) rfl ?_
      refine sv_goto (pc := 41) (tgt := 3) dX2_insertBorder_41 (by decide) ?_
      refine mr_lvS (lv' := [(0, .ref 87), (1, jv p1), (4, iv (z43 + (-1)))]) (List.forall_mem_cons.mpr ⟨rfl, List.forall_mem_cons.mpr ⟨rfl, List.forall_mem_cons.mpr ⟨rfl, fun _ h => absurd h List.not_mem_nil⟩⟩⟩) ?_
      exact ih51 (z43 + (-1)) μ88 T90 (mF.up (mF.call mF.refl F48 rfl) (A_93 hw) u89 rfl) (rW (c := 0) (d := 19) (rAdd (e := 0) (f := 18) h70 (rR (x := (-1))) rfl) rfl) (vc_X2_insertBorder_6 (nS h50) h65 h70)
  refine mr_lvS (lv' := [(0, .ref 87), (1, jv p1), (4, iv p2)]) (List.forall_mem_cons.mpr ⟨rfl, List.forall_mem_cons.mpr ⟨rfl, List.forall_mem_cons.mpr ⟨rfl, fun _ h => absurd h List.not_mem_nil⟩⟩⟩) ?_
  exact L45 21 p2 μ hT mF.refl hp2 (vc_X2_insertBorder_7 hp2)
theorem vc_X2_layBorders_1 {z246 z247 : Int} (h0 : (21 - z247) < ((0 : Nat) : Int)) (h1 : z247 = 2 * z246) (h2 : 0 ≤ z246 ∧ z246 ≤ 10) (h3 : 0 ≤ z247 ∧ z247 ≤ 20) : False := by omega
theorem vc_X2_layBorders_2 {z246 z247 z258 : Int} (h0 : z246 < z258) (h1 : z247 = 2 * z246) (h2 : 0 ≤ z246 ∧ z246 ≤ 10) (h3 : 0 ≤ z247 ∧ z247 ≤ 20) (h4 : 0 ≤ z258 ∧ z258 ≤ 10) : 0 ≤ z246 ∧ z246 ≤ 9 := by omega
theorem vc_X2_layBorders_3 {z246 z247 z258 : Int} (h0 : z246 < z258) (h1 : z247 = 2 * z246) (h2 : 0 ≤ z246 ∧ z246 ≤ 9) (h3 : 0 ≤ z247 ∧ z247 ≤ 20) (h4 : 0 ≤ z258 ∧ z258 ≤ 10) : 1 ≤ z258 ∧ z258 ≤ 10 := by omega
theorem vc_X2_layBorders_4 {z246 z247 z258 : Int} (h0 : z247 = 2 * z246) (h1 : z246 < z258) (h2 : 0 ≤ z246 ∧ z246 ≤ 9) (h3 : 0 ≤ z247 ∧ z247 ≤ 20) (h4 : 1 ≤ z258 ∧ z258 ≤ 10) : 0 ≤ z247 ∧ z247 ≤ 19 := by omega
theorem vc_X2_layBorders_5 {z246 z247 z258 : Int} (h0 : z247 = 2 * z246) (h1 : z246 < z258) (h2 : 0 ≤ z246 ∧ z246 ≤ 9) (h3 : 0 ≤ z247 ∧ z247 ≤ 20) (h4 : 1 ≤ z258 ∧ z258 ≤ 10) : 0 ≤ (z247 + 1) ∧ (z247 + 1) ≤ 19 := by omega
theorem vc_X2_layBorders_6 {z246 z247 z258 : Int} (h0 : z247 = 2 * z246) (h1 : z246 < z258) (h2 : 0 ≤ z246 ∧ z246 ≤ 9) (h3 : 0 ≤ z247 ∧ z247 ≤ 20) (h4 : 1 ≤ z258 ∧ z258 ≤ 10) : 0 ≤ (z247 + 2) ∧ (z247 + 2) ≤ 20 := by omega
theorem vc_X2_layBorders_7 {z246 z247 z258 : Int} (h0 : z247 = 2 * z246) (h1 : z246 < z258) (h2 : 0 ≤ z246 ∧ z246 ≤ 9) (h3 : 0 ≤ z247 ∧ z247 ≤ 20) (h4 : 1 ≤ z258 ∧ z258 ≤ 10) : (z247 + 2) = 2 * (z246 + 1) := by omega
theorem vc_X2_layBorders_8 {N z246 z247 z258 : Int} (h0 : (21 - z247) < N + 1) (h1 : z247 = 2 * z246) (h2 : z246 < z258) (h3 : 0 ≤ z246 ∧ z246 ≤ 9) (h4 : 0 ≤ z247 ∧ z247 ≤ 20) (h5 : 1 ≤ z258 ∧ z258 ≤ 10) : (21 - (z247 + 2)) < N := by omega
theorem vc_X2_layBorders_9  : ((0 : Int) : Int) = (2 : Int) * ((0 : Int) : Int) := by omega
theorem vc_X2_layBorders_10  : (21 - 0) < ((22 : Nat) : Int) := by omega
set_option maxRecDepth 4000 in
set_option maxHeartbeats 4000000 in
theorem c_X2_layBorders {l : Launch} {D : va_G} {c : Nat → ClassId} {H0 : Heap} {sa : Nat × Nat × (Nat → Int32)} {w : mW} {μ : mM} (hw : mWF w) (hT : mT w μ) : sC (gG l D c H0 sa) mX2_layBorders 2 0 0 [.ref 87] (mk w μ) (qI w [93999] μ (fun z μ1 => (0 ≤ z ∧ z ≤ 20) ∧ True)) := by
  refine sC.of rfl (by decide) (le_t rfl) ?_
  refine mr_lvE (lv' := [(0, .ref 87)]) rfl ?_
  refine mr_iconst (pc := 0) (z := 0) dX2_layBorders_0 ?_
  refine mr_istore_n (pc := 1) (lv' := [(1, iv 0), (0, .ref 87)]) dX2_layBorders_1 rfl (by decide) rfl ?_
  refine mr_iconst (pc := 2) (z := 0) dX2_layBorders_2 ?_
  refine mr_istore_n (pc := 3) (lv' := [(2, iv 0), (1, iv 0), (0, .ref 87)]) dX2_layBorders_3 rfl (by decide) rfl ?_
  have L249 : ∀ (nL249 : Nat) (z247 z246 : Int) (μ248 : mM), mT w μ248 → mF [93999] w μ μ248 → (0 ≤ z247 ∧ z247 ≤ 20) → (0 ≤ z246 ∧ z246 ≤ 10) → (z247 = 2 * z246) → (21 - z247) < (nL249 : Int) → sV (gG l D c H0 sa) mX2_layBorders (sRm 2 0 0) (sZ (gG l D c H0 sa) 0 0 (qI w [93999] μ (fun z μ1 => (0 ≤ z ∧ z ≤ 20) ∧ True))) 4 [(0, .ref 87), (1, iv z247), (2, iv z246)] [] (mk w μ248) 0 0 := by
    intro nL249
    induction nL249 with
    | zero => intro z247 z246 μ248 T252 F253 h250 h251 h255 h256; exact ((vc_X2_layBorders_1 h256 h255 h251 h250)).elim
    | succ nL249 ih257 =>
      intro z247 z246 μ248 T252 F253 h250 h251 h255 h256
      refine mr_iload_n (pc := 4) (z := z246) dX2_layBorders_4 rfl rfl ?_
      refine sv_aload_n (pc := 5) dX2_layBorders_5 rfl rfl ?_
      refine gf_X2_0 (pc := 6) dX2_layBorders_6 wF_X2_9 (A_87 hw) T252 ?_
      refine gf_X10_14 (pc := 9) dX2_layBorders_9 wF_X2_42 (A_6 hw) T252 fun z258 q259 h260 => ?_
      refine mr_icmp_ge (pc := 12) (tgt := 68) dX2_layBorders_12 (by decide) (r32 h251 rfl) (r32 h260 rfl) (fun h289 => ?_) (fun h289 => ?_)
      · refine mr_iload_n (pc := 68) (z := z247) dX2_layBorders_68 rfl rfl ?_
        exact mr_iret dX2_layBorders_69 rfl (le_t rfl) (le_t rfl) T252 (mF.call mF.refl F253 rfl) ⟨h250, trivial⟩
      have h290 : 0 ≤ z246 ∧ z246 ≤ 9 := (vc_X2_layBorders_2 h289 h255 h251 h250 h260)
      have h291 : 1 ≤ z258 ∧ z258 ≤ 10 := (vc_X2_layBorders_3 h289 h255 h290 h250 h260)
      refine sv_aload_n (pc := 15) dX2_layBorders_15 rfl rfl ?_
      refine gf_X2_0 (pc := 16) dX2_layBorders_16 wF_X2_9 (A_87 hw) T252 ?_
      refine gf_X10_0 (pc := 19) dX2_layBorders_19 wF_X2_49 (A_6 hw) T252 ?_
      refine mr_iload_n (pc := 22) (z := z246) dX2_layBorders_22 rfl rfl ?_
      refine la_7 (pc := 23) dX2_layBorders_23 (A_7 hw) T252 (rIx (n := 10) h290 rfl) fun z292 q293 h294 => ?_
      refine mr_i2l (pc := 24) dX2_layBorders_24 h294 ?_
      refine mr_genL (r3264 h294) fun z295 q296 h297 => ?_
      refine mr_ldc2 (pc := 25) (z := 4294967295) dX2_layBorders_25 wH_X2_121 (by decide) ?_
      refine mr_land (pc := 28) dX2_layBorders_28 ?_
      refine mr_genL (r64i _) fun z298 q299 h300 => ?_
      refine mr_lstore_n (pc := 29) (lv' := [(3, jv z298), (0, .ref 87), (1, iv z247), (2, iv z246)]) dX2_layBorders_29 rfl (by decide) rfl ?_
      refine sv_aload_n (pc := 30) dX2_layBorders_30 rfl rfl ?_
      refine mr_lload_n (pc := 31) (z := z298) dX2_layBorders_31 rfl rfl ?_
      refine mr_iload_n (pc := 32) (z := z247) dX2_layBorders_32 rfl rfl ?_
      refine mr_cVV (pc := 33) (c_X2_insertBorder hw T252 h300 (vc_X2_layBorders_4 h255 h289 h290 h250 h291)) (gOk _ _ _ _ _) dX2_layBorders_33 (tX2_insertBorder _ _ _ _ _) ⟨wV_X2_insertBorder, wL_X2_insertBorder⟩ wM_X2_123 (gCX2 _ _ _ _ _) rfl (A_87 hw) rfl ⟨le_t rfl, le_t rfl⟩ ⟨le_t rfl, le_t rfl⟩ rfl (le_t rfl) fun μ301 T302 F303 h304 => ?_
      refine sv_aload_n (pc := 36) dX2_layBorders_36 rfl rfl ?_
      refine mr_lload_n (pc := 37) (z := z298) dX2_layBorders_37 rfl rfl ?_
      refine mr_lconst (pc := 38) (z := 1) dX2_layBorders_38 (by decide) ?_
      refine mr_bipush (pc := 39) (z := 32) dX2_layBorders_39 (by decide) ?_
      refine sv_aload_n (pc := 41) dX2_layBorders_41 rfl rfl ?_
      refine gf_X2_0 (pc := 42) dX2_layBorders_42 wF_X2_9 (A_87 hw) T302 ?_
      refine gf_X10_1 (pc := 45) dX2_layBorders_45 wF_X2_57 (A_6 hw) T302 ?_
      refine mr_iload_n (pc := 48) (z := z246) dX2_layBorders_48 rfl rfl ?_
      refine la_8 (pc := 49) dX2_layBorders_49 (A_8 hw) T302 (rIx (n := 10) h290 rfl) fun z305 q306 h307 => ?_
      refine mr_isub (pc := 50) (x := 32) (y := z305) dX2_layBorders_50 ?_
      refine mr_lshl (pc := 51) dX2_layBorders_51 ?_
      refine mr_genL (r64i _) fun z308 q309 h310 => ?_
      refine mr_ladd (pc := 52) dX2_layBorders_52 ?_
      refine mr_genL (r64i _) fun z311 q312 h313 => ?_
      refine mr_iload_n (pc := 53) (z := z247) dX2_layBorders_53 rfl rfl ?_
      refine mr_iconst (pc := 54) (z := 1) dX2_layBorders_54 ?_
      refine mr_iadd (pc := 55) (x := z247) (y := 1) dX2_layBorders_55 ?_
      refine mr_cVV (pc := 56) (c_X2_insertBorder hw T302 h313 (vc_X2_layBorders_5 h255 h289 h290 h250 h291)) (gOk _ _ _ _ _) dX2_layBorders_56 (tX2_insertBorder _ _ _ _ _) ⟨wV_X2_insertBorder, wL_X2_insertBorder⟩ wM_X2_123 (gCX2 _ _ _ _ _) rfl (A_87 hw) rfl ⟨le_t rfl, le_t rfl⟩ ⟨le_t rfl, le_t rfl⟩ rfl (le_t rfl) fun μ314 T315 F316 h317 => ?_
      refine mr_iinc (pc := 59) (lv' := [(1, iv (z247 + 2)), (3, jv z298), (0, .ref 87), (2, iv z246)]) dX2_layBorders_59 rfl (by decide) rfl ?_
      refine mr_iinc (pc := 62) (lv' := [(2, iv (z246 + 1)), (1, iv (z247 + 2)), (3, jv z298), (0, .ref 87)]) dX2_layBorders_62 rfl (by decide) rfl ?_
      refine sv_goto (pc := 65) (tgt := 4) dX2_layBorders_65 (by decide) ?_
      refine mr_lvS (lv' := [(0, .ref 87), (1, iv (z247 + 2)), (2, iv (z246 + 1))]) (List.forall_mem_cons.mpr ⟨rfl, List.forall_mem_cons.mpr ⟨rfl, List.forall_mem_cons.mpr ⟨rfl, fun _ h => absurd h List.not_mem_nil⟩⟩⟩) ?_
      exact ih257 (z247 + 2) (z246 + 1) μ314 T315 (mF.call (mF.call (mF.call mF.refl F253 rfl) F303 rfl) F316 rfl) (vc_X2_layBorders_6 h255 h289 h290 h250 h291) (rW (c := 0) (d := 10) (rAdd (e := 1) (f := 10) h290 (rR (x := 1)) rfl) rfl) (vc_X2_layBorders_7 h255 h289 h290 h250 h291) (vc_X2_layBorders_8 (nS h256) h255 h289 h290 h250 h291)
  refine mr_lvS (lv' := [(0, .ref 87), (1, iv 0), (2, iv 0)]) (List.forall_mem_cons.mpr ⟨rfl, List.forall_mem_cons.mpr ⟨rfl, List.forall_mem_cons.mpr ⟨rfl, fun _ h => absurd h List.not_mem_nil⟩⟩⟩) ?_
  exact L249 22 0 0 μ hT mF.refl (rW (c := 0) (d := 20) (rR (x := 0)) rfl) (rW (c := 0) (d := 10) (rR (x := 0)) rfl) vc_X2_layBorders_9 vc_X2_layBorders_10
theorem vc_X2_isSplit_1 {z223 : Int} (h0 : (11 - z223) < ((0 : Nat) : Int)) (h1 : 0 ≤ z223 ∧ z223 ≤ 10) : False := by omega
theorem vc_X2_isSplit_2 {z223 z231 : Int} (h0 : z223 < z231) (h1 : 0 ≤ z223 ∧ z223 ≤ 10) (h2 : 0 ≤ z231 ∧ z231 ≤ 10) : 0 ≤ z223 ∧ z223 ≤ 9 := by omega
theorem vc_X2_isSplit_3 {z223 z231 : Int} (h0 : z223 < z231) (h1 : 0 ≤ z223 ∧ z223 ≤ 9) (h2 : 0 ≤ z231 ∧ z231 ≤ 10) : 1 ≤ z231 ∧ z231 ≤ 10 := by omega
theorem vc_X2_isSplit_4 {z248 : Int} (h0 : z248 = 0) (h1 : 0 ≤ z248 ∧ z248 ≤ 1) : 0 ≤ z248 ∧ z248 ≤ 0 := by omega
theorem vc_X2_isSplit_5 {N z223 z231 : Int} (h0 : (11 - z223) < N + 1) (h1 : z223 < z231) (h2 : 0 ≤ z223 ∧ z223 ≤ 9) (h3 : 1 ≤ z231 ∧ z231 ≤ 10) : (11 - (z223 + 1)) < N := by omega
theorem vc_X2_isSplit_6 {z248 : Int} (h0 : ¬ z248 = 0) (h1 : 0 ≤ z248 ∧ z248 ≤ 1) : 1 ≤ z248 ∧ z248 ≤ 1 := by omega
theorem vc_X2_isSplit_7 {n0 p1 : Int} (h0 : p1 < n0) (h1 : 0 ≤ p1 ∧ p1 ≤ 9) : p1 < n0 := by omega
theorem vc_X2_isSplit_8 {z258 : Int} (h0 : z258 = -99999999 ∨ z258 = -4 ∨ (0 ≤ z258 ∧ z258 ≤ 19)) : -99999999 ≤ z258 ∧ z258 ≤ 19 := by omega
theorem vc_X2_isSplit_9 {n1 z258 : Int} (h0 : z258 = (-99999999)) (h1 : (0 ≤ z258 → z258 < n1)) (h2 : (-99999999) ≤ z258 ∧ z258 ≤ 19) (h3 : z258 = -99999999 ∨ z258 = -4 ∨ (0 ≤ z258 ∧ z258 ≤ 19)) : (-99999999) ≤ z258 ∧ z258 ≤ (-99999999) := by omega
theorem vc_X2_isSplit_10 {n1 z258 : Int} (h0 : ¬ z258 = (-99999999)) (h1 : (0 ≤ z258 → z258 < n1)) (h2 : (-99999999) ≤ z258 ∧ z258 ≤ 19) (h3 : z258 = -99999999 ∨ z258 = -4 ∨ (0 ≤ z258 ∧ z258 ≤ 19)) : (-4) ≤ z258 ∧ z258 ≤ 19 := by omega
theorem vc_X2_isSplit_11 {p3 z237 : Int} (h0 : z237 ≤ p3) (h1 : (-2147483648) ≤ p3 ∧ p3 ≤ 2147483647) (h2 : 0 ≤ z237 ∧ z237 ≤ 32) : 0 ≤ p3 ∧ p3 ≤ 2147483647 := by omega
theorem vc_X2_isSplit_12 {p3 z237 : Int} (h0 : p3 < z237) (h1 : (-2147483648) ≤ p3 ∧ p3 ≤ 2147483647) (h2 : 0 ≤ z237 ∧ z237 ≤ 32) : (-2147483648) ≤ p3 ∧ p3 ≤ 31 := by omega
theorem vc_X2_isSplit_13  : (11 - 0) < ((12 : Nat) : Int) := by omega
set_option maxRecDepth 4000 in
set_option maxHeartbeats 4000000 in
theorem c_X2_isSplit {l : Launch} {D : va_G} {c : Nat → ClassId} {H0 : Heap} {sa : Nat × Nat × (Nat → Int32)} {w : mW} {μ : mM} (hw : mWF w) (hT : mT w μ) {p1 : Int} (hp1 : 0 ≤ p1 ∧ p1 ≤ 9) {p2 : Int} (hp2 : (-2147483648) ≤ p2 ∧ p2 ≤ 2147483647) {p3 : Int} (hp3 : (-2147483648) ≤ p3 ∧ p3 ≤ 2147483647) (hq0 : p1 < w.2.2.2 0) : sC (gG l D c H0 sa) mX2_isSplit 2 0 0 [.ref 87, iv p1, iv p2, iv p3] (mk w μ) (qP w μ (fun z => (0 ≤ z ∧ z ≤ 1) ∧ True)) := by
  refine sC.of rfl (by decide) (le_t rfl) ?_
  refine mr_lvE (lv' := [(0, .ref 87), (1, iv p1), (2, iv p2), (3, iv p3)]) rfl ?_
  refine mr_iload_n (pc := 0) (z := p3) dX2_isSplit_0 rfl rfl ?_
  refine mr_cSP (pc := 1) (c_X10_maskOf hw hT hp3) (gOk _ _ _ _ _) dX2_isSplit_1 (tX10_maskOf _ _ _ _ _) wS_X10_maskOf wM_X2_113 ⟨le_t rfl, le_t rfl⟩ ⟨le_t rfl, le_t rfl⟩ rfl (le_t rfl) fun z5 h4 => ?_
  refine mr_istore (pc := 4) (lv' := [(4, iv z5), (0, .ref 87), (1, iv p1), (2, iv p2), (3, iv p3)]) dX2_isSplit_4 (by decide) rfl ?_
  refine mr_iconst (pc := 6) (z := 0) dX2_isSplit_6 ?_
  refine mr_istore (pc := 7) (lv' := [(5, iv 0), (4, iv z5), (0, .ref 87), (1, iv p1), (2, iv p2), (3, iv p3)]) dX2_isSplit_7 (by decide) rfl ?_
  have L224 : ∀ (nL224 : Nat) (z223 : Int), True → (0 ≤ z223 ∧ z223 ≤ 10) → (11 - z223) < (nL224 : Int) → sV (gG l D c H0 sa) mX2_isSplit (sRm 2 0 0) (sZ (gG l D c H0 sa) 0 0 (qP w μ (fun z => (0 ≤ z ∧ z ≤ 1) ∧ True))) 9 [(0, .ref 87), (1, iv p1), (2, iv p2), (3, iv p3), (4, iv z5), (5, iv z223)] [] (mk w μ) 0 0 := by
    intro nL224
    induction nL224 with
    | zero => intro z223 _ h225 h229; exact ((vc_X2_isSplit_1 h229 h225)).elim
    | succ nL224 ih230 =>
      intro z223 _ h225 h229
      refine mr_iload (pc := 9) (z := z223) dX2_isSplit_9 rfl ?_
      refine sv_aload_n (pc := 11) dX2_isSplit_11 rfl rfl ?_
      refine gf_X2_0 (pc := 12) dX2_isSplit_12 wF_X2_9 (A_87 hw) hT ?_
      refine gf_X10_14 (pc := 15) dX2_isSplit_15 wF_X2_42 (A_6 hw) hT fun z231 q232 h233 => ?_
      refine mr_icmp_ge (pc := 18) (tgt := 92) dX2_isSplit_18 (by decide) (r32 h225 rfl) (r32 h233 rfl) (fun h234 => ?_) (fun h234 => ?_)
      · refine mr_iconst (pc := 92) (z := 0) dX2_isSplit_92 ?_
        exact mr_zretP dX2_isSplit_93 rfl (rW (c := 0) (d := 1) (rR (x := 0)) rfl) (le_t rfl) (le_t rfl) ⟨(rW (c := 0) (d := 1) (rR (x := 0)) rfl), trivial⟩
      have h235 : 0 ≤ z223 ∧ z223 ≤ 9 := (vc_X2_isSplit_2 h234 h225 h233)
      have h236 : 1 ≤ z231 ∧ z231 ≤ 10 := (vc_X2_isSplit_3 h234 h235 h233)
      refine sv_aload_n (pc := 21) dX2_isSplit_21 rfl rfl ?_
      refine gf_X2_0 (pc := 22) dX2_isSplit_22 wF_X2_9 (A_87 hw) hT ?_
      refine gf_X10_1 (pc := 25) dX2_isSplit_25 wF_X2_57 (A_6 hw) hT ?_
      refine mr_iload (pc := 28) (z := z223) dX2_isSplit_28 rfl ?_
      refine la_8 (pc := 30) dX2_isSplit_30 (A_8 hw) hT (rIx (n := 10) h235 rfl) fun z237 q238 h239 => ?_
      refine mr_iload_n (pc := 31) (z := p3) dX2_isSplit_31 rfl rfl ?_
      have J250 : ∀ (z248 : Int), ((0 ≤ z248 ∧ z248 ≤ 1)) → sV (gG l D c H0 sa) mX2_isSplit (sRm 2 0 0) (sZ (gG l D c H0 sa) 0 0 (qP w μ (fun z => (0 ≤ z ∧ z ≤ 1) ∧ True))) 57 [(0, .ref 87), (1, iv p1), (2, iv p2), (3, iv p3), (4, iv z5), (5, iv z223)] [iv z248] (mk w μ) 0 0 := by
        intro z248 h249
        refine mr_istore (pc := 57) (lv' := [(6, iv z248), (0, .ref 87), (1, iv p1), (2, iv p2), (3, iv p3), (4, iv z5), (5, iv z223)]) dX2_isSplit_57 (by decide) rfl ?_
        refine mr_iload (pc := 59) (z := z248) dX2_isSplit_59 rfl ?_
        refine mr_if_eq (pc := 61) (tgt := 86) dX2_isSplit_61 (by decide) (r32 h249 rfl) (fun h251 => ?_) (fun h251 => ?_)
        · have h252 : 0 ≤ z248 ∧ z248 ≤ 0 := (vc_X2_isSplit_4 h251 h249)
          refine mr_iinc (pc := 86) (lv' := [(5, iv (z223 + 1)), (6, iv z248), (0, .ref 87), (1, iv p1), (2, iv p2), (3, iv p3), (4, iv z5)]) dX2_isSplit_86 rfl (by decide) rfl ?_
          refine sv_goto (pc := 89) (tgt := 9) dX2_isSplit_89 (by decide) ?_
          refine mr_lvS (lv' := [(0, .ref 87), (1, iv p1), (2, iv p2), (3, iv p3), (4, iv z5), (5, iv (z223 + 1))]) (List.forall_mem_cons.mpr ⟨rfl, List.forall_mem_cons.mpr ⟨rfl, List.forall_mem_cons.mpr ⟨rfl, List.forall_mem_cons.mpr ⟨rfl, List.forall_mem_cons.mpr ⟨rfl, List.forall_mem_cons.mpr ⟨rfl, fun _ h => absurd h List.not_mem_nil⟩⟩⟩⟩⟩⟩) ?_
          exact ih230 (z223 + 1) trivial (rW (c := 0) (d := 10) (rAdd (e := 1) (f := 10) h235 (rR (x := 1)) rfl) rfl) (vc_X2_isSplit_5 (nS h229) h234 h235 h236)
        have h253 : 1 ≤ z248 ∧ z248 ≤ 1 := (vc_X2_isSplit_6 h251 h249)
        refine sv_aload_n (pc := 64) dX2_isSplit_64 rfl rfl ?_
        refine gf_X2_0 (pc := 65) dX2_isSplit_65 wF_X2_9 (A_87 hw) hT ?_
        refine gf_X10_3 (pc := 68) dX2_isSplit_68 wF_X2_35 (A_6 hw) hT ?_
        refine mr_iload_n (pc := 71) (z := p1) dX2_isSplit_71 rfl rfl ?_
        refine la_10 (pc := 72) dX2_isSplit_72 (A_10 hw) hT (rIx (n := 10) hp1 rfl) (vc_X2_isSplit_7 hq0 hp1) fun b254 q255 A256 => ?_
        refine gf_X0_2 (pc := 73) dX2_isSplit_73 wF_X2_52 A256 hT fun A257 => ?_
        refine mr_iload (pc := 76) (z := z223) dX2_isSplit_76 rfl ?_
        refine la_213 (pc := 78) dX2_isSplit_78 A257 hT (rIx (n := 10) h235 rfl) fun z258 q259 h260 => ?_
        have h261 : (-99999999) ≤ z258 ∧ z258 ≤ 19 := (vc_X2_isSplit_8 h260.1)
        refine mr_ldc (pc := 79) (z := (-99999999)) dX2_isSplit_79 wG_X2_41 (by decide) ?_
        refine mr_icmp_eq (pc := 81) (tgt := 86) dX2_isSplit_81 (by decide) (r32 h261 rfl) (r32 (rR (x := (-99999999))) rfl) (fun h262 => ?_) (fun h262 => ?_)
        · have h263 : (-99999999) ≤ z258 ∧ z258 ≤ (-99999999) := (vc_X2_isSplit_9 h262 h260.2 h261 h260.1)
          refine mr_iinc (pc := 86) (lv' := [(5, iv (z223 + 1)), (6, iv z248), (0, .ref 87), (1, iv p1), (2, iv p2), (3, iv p3), (4, iv z5)]) dX2_isSplit_86 rfl (by decide) rfl ?_
          refine sv_goto (pc := 89) (tgt := 9) dX2_isSplit_89 (by decide) ?_
          refine mr_lvS (lv' := [(0, .ref 87), (1, iv p1), (2, iv p2), (3, iv p3), (4, iv z5), (5, iv (z223 + 1))]) (List.forall_mem_cons.mpr ⟨rfl, List.forall_mem_cons.mpr ⟨rfl, List.forall_mem_cons.mpr ⟨rfl, List.forall_mem_cons.mpr ⟨rfl, List.forall_mem_cons.mpr ⟨rfl, List.forall_mem_cons.mpr ⟨rfl, fun _ h => absurd h List.not_mem_nil⟩⟩⟩⟩⟩⟩) ?_
          exact ih230 (z223 + 1) trivial (rW (c := 0) (d := 10) (rAdd (e := 1) (f := 10) h235 (rR (x := 1)) rfl) rfl) (vc_X2_isSplit_5 (nS h229) h234 h235 h236)
        have h264 : (-4) ≤ z258 ∧ z258 ≤ 19 := (vc_X2_isSplit_10 h262 h260.2 h261 h260.1)
        refine mr_iconst (pc := 84) (z := 1) dX2_isSplit_84 ?_
        exact mr_zretP dX2_isSplit_85 rfl (rW (c := 0) (d := 1) (rR (x := 1)) rfl) (le_t rfl) (le_t rfl) ⟨(rW (c := 0) (d := 1) (rR (x := 1)) rfl), trivial⟩
      refine mr_icmp_le (pc := 32) (tgt := 56) dX2_isSplit_32 (by decide) (r32 h239 rfl) hp3 (fun h265 => ?_) (fun h265 => ?_)
      · have h266 : 0 ≤ p3 ∧ p3 ≤ 2147483647 := (vc_X2_isSplit_11 h265 hp3 h239)
        refine mr_iconst (pc := 56) (z := 0) dX2_isSplit_56 ?_
        exact J250 0 (rW (c := 0) (d := 1) (rR (x := 0)) rfl)
      have h267 : (-2147483648) ≤ p3 ∧ p3 ≤ 31 := (vc_X2_isSplit_12 h265 hp3 h239)
      refine sv_aload_n (pc := 35) dX2_isSplit_35 rfl rfl ?_
      refine gf_X2_0 (pc := 36) dX2_isSplit_36 wF_X2_9 (A_87 hw) hT ?_
      refine gf_X10_0 (pc := 39) dX2_isSplit_39 wF_X2_49 (A_6 hw) hT ?_
      refine mr_iload (pc := 42) (z := z223) dX2_isSplit_42 rfl ?_
      refine la_7 (pc := 44) dX2_isSplit_44 (A_7 hw) hT (rIx (n := 10) h235 rfl) fun z268 q269 h270 => ?_
      refine mr_iload (pc := 45) (z := z5) dX2_isSplit_45 rfl ?_
      refine mr_iand (pc := 47) (x := z268) (y := z5) dX2_isSplit_47 ?_
      refine mr_gen (P := fun z => (-2147483648) ≤ z ∧ z ≤ 2147483647) (r32i _) fun z271 q272 h273 => ?_
      refine mr_iload_n (pc := 48) (z := p2) dX2_isSplit_48 rfl rfl ?_
      refine mr_icmp_ne (pc := 49) (tgt := 56) dX2_isSplit_49 (by decide) h273 hp2 (fun h274 => ?_) (fun h274 => ?_)
      · refine mr_iconst (pc := 56) (z := 0) dX2_isSplit_56 ?_
        exact J250 0 (rW (c := 0) (d := 1) (rR (x := 0)) rfl)
      refine mr_iconst (pc := 52) (z := 1) dX2_isSplit_52 ?_
      refine sv_goto (pc := 53) (tgt := 57) dX2_isSplit_53 (by decide) ?_
      exact J250 1 (rW (c := 0) (d := 1) (rR (x := 1)) rfl)
  refine mr_lvS (lv' := [(0, .ref 87), (1, iv p1), (2, iv p2), (3, iv p3), (4, iv z5), (5, iv 0)]) (List.forall_mem_cons.mpr ⟨rfl, List.forall_mem_cons.mpr ⟨rfl, List.forall_mem_cons.mpr ⟨rfl, List.forall_mem_cons.mpr ⟨rfl, List.forall_mem_cons.mpr ⟨rfl, List.forall_mem_cons.mpr ⟨rfl, fun _ h => absurd h List.not_mem_nil⟩⟩⟩⟩⟩⟩) ?_
  exact L224 12 0 trivial (rW (c := 0) (d := 10) (rR (x := 0)) rfl) vc_X2_isSplit_13
theorem vc_X2_addDemand_1 {f_d n0 : Int} (h0 : f_d ≤ 15) (h1 : (f_d = 0 ∨ 0 < n0)) (h2 : 0 ≤ f_d ∧ f_d ≤ 16) : 0 ≤ f_d ∧ f_d ≤ 15 := by omega
theorem vc_X2_addDemand_2 {f_d n0 p1 : Int} (h0 : (f_d = 0 ∨ 0 < n0)) (h1 : p1 < n0) (h2 : f_d ≤ 15) (h3 : 0 ≤ f_d ∧ f_d ≤ 15) (h4 : 0 ≤ p1 ∧ p1 ≤ 9) : 0 ≤ p1 ∧ p1 ≤ 9 ∧ (p1 = 0 ∨ p1 < n0) := by omega
theorem vc_X2_addDemand_3 {f_d n0 p1 : Int} (h0 : (f_d = 0 ∨ 0 < n0)) (h1 : p1 < n0) (h2 : f_d ≤ 15) (h3 : 0 ≤ f_d ∧ f_d ≤ 15) (h4 : 0 ≤ p1 ∧ p1 ≤ 9) : 0 ≤ (f_d + 1) ∧ (f_d + 1) ≤ 16 ∧ ((f_d + 1) = 0 ∨ 0 < n0) := by omega
set_option maxRecDepth 4000 in
set_option maxHeartbeats 4000000 in
theorem c_X2_addDemand {l : Launch} {D : va_G} {c : Nat → ClassId} {H0 : Heap} {sa : Nat × Nat × (Nat → Int32)} {w : mW} {μ : mM} (hw : mWF w) (hT : mT w μ) {p1 : Int} (hp1 : 0 ≤ p1 ∧ p1 ≤ 9) {p2 : Int} (hp2 : (-2147483648) ≤ p2 ∧ p2 ≤ 2147483647) {p3 : Int} (hp3 : (-2147483648) ≤ p3 ∧ p3 ≤ 2147483647) {f_d : Int} (q_f_d : μ 87 10 = f_d) (hq0 : p1 < w.2.2.2 0) (hq1 : f_d ≤ 15) : sC (gG l D c H0 sa) mX2_addDemand 1 0 0 [.ref 87, iv p1, iv p2, iv p3] (mk w μ) (qI w [87010, 90999, 91999, 92999] μ (fun z μ1 => ((-2147483648) ≤ z ∧ z ≤ 2147483647) ∧ True)) := by
  refine sC.of rfl (by decide) (le_t rfl) ?_
  have ht_f_d : (0 ≤ f_d ∧ f_d ≤ 16 ∧ (f_d = 0 ∨ 0 < w.2.2.2 0)) := by rw [← q_f_d]; exact hT 87 87 (A_87 hw) 10
  have h1 : 0 ≤ f_d ∧ f_d ≤ 16 := ⟨ht_f_d.1, ht_f_d.2.1⟩
  have h2 : 0 ≤ f_d ∧ f_d ≤ 15 := (vc_X2_addDemand_1 hq1 ht_f_d.2.2 h1)
  refine mr_lvE (lv' := [(0, .ref 87), (1, iv p1), (2, iv p2), (3, iv p3)]) rfl ?_
  refine sv_aload_n (pc := 0) dX2_addDemand_0 rfl rfl ?_
  refine gf_X2_2 (pc := 1) dX2_addDemand_1 wF_X2_22 (A_87 hw) hT ?_
  refine sv_aload_n (pc := 4) dX2_addDemand_4 rfl rfl ?_
  refine gk_X2_10 (pc := 5) dX2_addDemand_5 wF_X2_95 (A_87 hw) q_f_d ?_
  refine mr_iload_n (pc := 8) (z := p1) dX2_addDemand_8 rfl rfl ?_
  refine ss_90 (pc := 9) dX2_addDemand_9 (A_90 hw) hT (rIx (n := 16) h2 rfl) (vc_X2_addDemand_2 ht_f_d.2.2 hq0 hq1 h2 hp1) fun μ39 u40 T41 => ?_
  refine sv_aload_n (pc := 10) dX2_addDemand_10 rfl rfl ?_
  refine gf_X2_3 (pc := 11) dX2_addDemand_11 wF_X2_25 (A_87 hw) T41 ?_
  refine sv_aload_n (pc := 14) dX2_addDemand_14 rfl rfl ?_
  refine gk_X2_10 (pc := 15) dX2_addDemand_15 wF_X2_95 (A_87 hw) (u40.f (Or.inl (mAt.ne (A_90 hw) (A_87 hw) rfl)) q_f_d) ?_
  refine mr_iload_n (pc := 18) (z := p2) dX2_addDemand_18 rfl rfl ?_
  refine ss_91 (pc := 19) dX2_addDemand_19 (A_91 hw) T41 (rIx (n := 16) h2 rfl) hp2 fun μ42 u43 T44 => ?_
  refine sv_aload_n (pc := 20) dX2_addDemand_20 rfl rfl ?_
  refine gf_X2_4 (pc := 21) dX2_addDemand_21 wF_X2_28 (A_87 hw) T44 ?_
  refine sv_aload_n (pc := 24) dX2_addDemand_24 rfl rfl ?_
  refine gk_X2_10 (pc := 25) dX2_addDemand_25 wF_X2_95 (A_87 hw) (u43.f (Or.inl (mAt.ne (A_91 hw) (A_87 hw) rfl)) (u40.f (Or.inl (mAt.ne (A_90 hw) (A_87 hw) rfl)) q_f_d)) ?_
  refine mr_iload_n (pc := 28) (z := p3) dX2_addDemand_28 rfl rfl ?_
  refine ss_92 (pc := 29) dX2_addDemand_29 (A_92 hw) T44 (rIx (n := 16) h2 rfl) hp3 fun μ45 u46 T47 => ?_
  refine sv_aload_n (pc := 30) dX2_addDemand_30 rfl rfl ?_
  refine sv_dup (pc := 31) dX2_addDemand_31 rfl ?_
  refine gk_X2_10 (pc := 32) dX2_addDemand_32 wF_X2_95 (A_87 hw) (u46.f (Or.inl (mAt.ne (A_92 hw) (A_87 hw) rfl)) (u43.f (Or.inl (mAt.ne (A_91 hw) (A_87 hw) rfl)) (u40.f (Or.inl (mAt.ne (A_90 hw) (A_87 hw) rfl)) q_f_d))) ?_
  refine mr_iconst (pc := 35) (z := 1) dX2_addDemand_35 ?_
  refine mr_iadd (pc := 36) (x := f_d) (y := 1) dX2_addDemand_36 ?_
  refine pf_X2_10 (pc := 37) dX2_addDemand_37 wF_X2_95 (A_87 hw) T47 (vc_X2_addDemand_3 ht_f_d.2.2 hq0 hq1 h2 hp1) fun μ48 u49 T50 => ?_
  refine sv_aload_n (pc := 40) dX2_addDemand_40 rfl rfl ?_
  refine gk_X2_10 (pc := 41) dX2_addDemand_41 wF_X2_95 (A_87 hw) u49.1 ?_
  refine mr_iconst (pc := 44) (z := 1) dX2_addDemand_44 ?_
  refine mr_isub (pc := 45) (x := (f_d + 1)) (y := 1) dX2_addDemand_45 ?_
  exact mr_iret dX2_addDemand_46 rfl (le_t rfl) (le_t rfl) T50 (mF.up (mF.up (mF.up (mF.up mF.refl (A_90 hw) u40 rfl) (A_91 hw) u43 rfl) (A_92 hw) u46 rfl) (A_87 hw) u49 rfl) ⟨(rW (c := (-2147483648)) (d := 2147483647) (rSub (e := 0) (f := 15) (rAdd (e := 1) (f := 16) h2 (rR (x := 1)) rfl) (rR (x := 1)) rfl) rfl), trivial⟩
theorem vc_X11_led_1 {p1 : Int} (h0 : p1 < 0) (h1 : (-2147483648) ≤ p1 ∧ p1 ≤ 2147483647) : (-2147483648) ≤ p1 ∧ p1 ≤ (-1) := by omega
theorem vc_X11_led_2 {p1 : Int} (h0 : 0 ≤ p1) (h1 : (-2147483648) ≤ p1 ∧ p1 ≤ 2147483647) : 0 ≤ p1 ∧ p1 ≤ 2147483647 := by omega
theorem vc_X11_led_3 {p1 z14 : Int} (h0 : p1 < z14) (h1 : 0 ≤ p1) (h2 : 0 ≤ p1 ∧ p1 ≤ 2147483647) (h3 : 0 ≤ z14 ∧ z14 ≤ 11) : 0 ≤ p1 ∧ p1 ≤ 10 := by omega
theorem vc_X11_led_4 {p1 z14 : Int} (h0 : p1 < z14) (h1 : 0 ≤ p1) (h2 : 0 ≤ p1 ∧ p1 ≤ 10) (h3 : 0 ≤ z14 ∧ z14 ≤ 11) : 1 ≤ z14 ∧ z14 ≤ 11 := by omega
set_option maxRecDepth 4000 in
set_option maxHeartbeats 4000000 in
theorem c_X11_led {l : Launch} {D : va_G} {c : Nat → ClassId} {H0 : Heap} {sa : Nat × Nat × (Nat → Int32)} {w : mW} {μ : mM} (hw : mWF w) (hT : mT w μ) {p1 : Int} (hp1 : (-2147483648) ≤ p1 ∧ p1 ≤ 2147483647) : sC (gG l D c H0 sa) mX11_led 1 0 0 [.ref 0, iv p1] (mk w μ) (qP w μ (fun z => ((-2147483648) ≤ z ∧ z ≤ 2147483647) ∧ True)) := by
  refine sC.of rfl (by decide) (le_t rfl) ?_
  refine mr_lvE (lv' := [(0, .ref 0), (1, iv p1)]) rfl ?_
  refine mr_iload_n (pc := 0) (z := p1) dX11_led_0 rfl rfl ?_
  refine mr_if_lt (pc := 1) (tgt := 15) dX11_led_1 (by decide) hp1 (fun h11 => ?_) (fun h11 => ?_)
  · have h12 : (-2147483648) ≤ p1 ∧ p1 ≤ (-1) := (vc_X11_led_1 h11 hp1)
    refine mr_ldc (pc := 15) (z := (-99999999)) dX11_led_15 wG_X11_165 (by decide) ?_
    refine sv_goto (pc := 17) (tgt := 29) dX11_led_17 (by decide) ?_
    exact mr_iretP dX11_led_29 rfl (le_t rfl) (le_t rfl) ⟨(rW (c := (-2147483648)) (d := 2147483647) (rR (x := (-99999999))) rfl), trivial⟩
  have h13 : 0 ≤ p1 ∧ p1 ≤ 2147483647 := (vc_X11_led_2 h11 hp1)
  refine mr_iload_n (pc := 4) (z := p1) dX11_led_4 rfl rfl ?_
  refine sv_aload_n (pc := 5) dX11_led_5 rfl rfl ?_
  refine gf_X11_8 (pc := 6) dX11_led_6 wF_X11_65 (A_0 hw) hT ?_
  refine gf_X2_9 (pc := 9) dX11_led_9 wF_X11_367 (A_87 hw) hT fun z14 q15 h16 => ?_
  refine mr_icmp_lt (pc := 12) (tgt := 20) dX11_led_12 (by decide) (r32 h13 rfl) (r32 h16 rfl) (fun h22 => ?_) (fun h22 => ?_)
  · have h23 : 0 ≤ p1 ∧ p1 ≤ 10 := (vc_X11_led_3 h22 h11 h13 h16)
    have h24 : 1 ≤ z14 ∧ z14 ≤ 11 := (vc_X11_led_4 h22 h11 h23 h16)
    refine sv_aload_n (pc := 20) dX11_led_20 rfl rfl ?_
    refine gf_X11_8 (pc := 21) dX11_led_21 wF_X11_65 (A_0 hw) hT ?_
    refine gf_X2_8 (pc := 24) dX11_led_24 wF_X11_370 (A_87 hw) hT ?_
    refine mr_iload_n (pc := 27) (z := p1) dX11_led_27 rfl rfl ?_
    refine la_89 (pc := 28) dX11_led_28 (A_89 hw) hT (rIx (n := 11) h23 rfl) fun z25 q26 h27 => ?_
    exact mr_iretP dX11_led_29 rfl (le_t rfl) (le_t rfl) ⟨h27, trivial⟩
  refine mr_ldc (pc := 15) (z := (-99999999)) dX11_led_15 wG_X11_165 (by decide) ?_
  refine sv_goto (pc := 17) (tgt := 29) dX11_led_17 (by decide) ?_
  exact mr_iretP dX11_led_29 rfl (le_t rfl) (le_t rfl) ⟨(rW (c := (-2147483648)) (d := 2147483647) (rR (x := (-99999999))) rfl), trivial⟩
theorem vc_X11_octet_1 {p1 : Int} (h0 : p1 < 0) (h1 : (-2147483648) ≤ p1 ∧ p1 ≤ 2147483647) : (-2147483648) ≤ p1 ∧ p1 ≤ (-1) := by omega
theorem vc_X11_octet_2 {p1 : Int} (h0 : 0 ≤ p1) (h1 : (-2147483648) ≤ p1 ∧ p1 ≤ 2147483647) : 0 ≤ p1 ∧ p1 ≤ 2147483647 := by omega
theorem vc_X11_octet_3 {p1 z14 : Int} (h0 : p1 < z14) (h1 : 0 ≤ p1) (h2 : 0 ≤ p1 ∧ p1 ≤ 2147483647) (h3 : 0 ≤ z14 ∧ z14 ≤ 256) : 0 ≤ p1 ∧ p1 ≤ 255 := by omega
theorem vc_X11_octet_4 {p1 z14 : Int} (h0 : p1 < z14) (h1 : 0 ≤ p1) (h2 : 0 ≤ p1 ∧ p1 ≤ 255) (h3 : 0 ≤ z14 ∧ z14 ≤ 256) : 1 ≤ z14 ∧ z14 ≤ 256 := by omega
set_option maxRecDepth 4000 in
set_option maxHeartbeats 4000000 in
theorem c_X11_octet {l : Launch} {D : va_G} {c : Nat → ClassId} {H0 : Heap} {sa : Nat × Nat × (Nat → Int32)} {w : mW} {μ : mM} (hw : mWF w) (hT : mT w μ) {p1 : Int} (hp1 : (-2147483648) ≤ p1 ∧ p1 ≤ 2147483647) : sC (gG l D c H0 sa) mX11_octet 1 0 0 [.ref 0, iv p1] (mk w μ) (qP w μ (fun z => ((-2147483648) ≤ z ∧ z ≤ 2147483647) ∧ True)) := by
  refine sC.of rfl (by decide) (le_t rfl) ?_
  refine mr_lvE (lv' := [(0, .ref 0), (1, iv p1)]) rfl ?_
  refine mr_iload_n (pc := 0) (z := p1) dX11_octet_0 rfl rfl ?_
  refine mr_if_lt (pc := 1) (tgt := 15) dX11_octet_1 (by decide) hp1 (fun h11 => ?_) (fun h11 => ?_)
  · have h12 : (-2147483648) ≤ p1 ∧ p1 ≤ (-1) := (vc_X11_octet_1 h11 hp1)
    refine mr_ldc (pc := 15) (z := (-99999999)) dX11_octet_15 wG_X11_165 (by decide) ?_
    refine sv_goto (pc := 17) (tgt := 29) dX11_octet_17 (by decide) ?_
    exact mr_iretP dX11_octet_29 rfl (le_t rfl) (le_t rfl) ⟨(rW (c := (-2147483648)) (d := 2147483647) (rR (x := (-99999999))) rfl), trivial⟩
  have h13 : 0 ≤ p1 ∧ p1 ≤ 2147483647 := (vc_X11_octet_2 h11 hp1)
  refine mr_iload_n (pc := 4) (z := p1) dX11_octet_4 rfl rfl ?_
  refine sv_aload_n (pc := 5) dX11_octet_5 rfl rfl ?_
  refine gf_X11_7 (pc := 6) dX11_octet_6 wF_X11_58 (A_0 hw) hT ?_
  refine gf_X3_15 (pc := 9) dX11_octet_9 wF_X11_358 (A_76 hw) hT fun z14 q15 h16 => ?_
  refine mr_icmp_lt (pc := 12) (tgt := 20) dX11_octet_12 (by decide) (r32 h13 rfl) (r32 h16 rfl) (fun h22 => ?_) (fun h22 => ?_)
  · have h23 : 0 ≤ p1 ∧ p1 ≤ 255 := (vc_X11_octet_3 h22 h11 h13 h16)
    have h24 : 1 ≤ z14 ∧ z14 ≤ 256 := (vc_X11_octet_4 h22 h11 h23 h16)
    refine sv_aload_n (pc := 20) dX11_octet_20 rfl rfl ?_
    refine gf_X11_7 (pc := 21) dX11_octet_21 wF_X11_58 (A_0 hw) hT ?_
    refine gf_X3_12 (pc := 24) dX11_octet_24 wF_X11_361 (A_76 hw) hT ?_
    refine mr_iload_n (pc := 27) (z := p1) dX11_octet_27 rfl rfl ?_
    refine la_86 (pc := 28) dX11_octet_28 (A_86 hw) hT (rIx (n := 256) h23 rfl) fun z25 q26 h27 => ?_
    exact mr_iretP dX11_octet_29 rfl (le_t rfl) (le_t rfl) ⟨h27, trivial⟩
  refine mr_ldc (pc := 15) (z := (-99999999)) dX11_octet_15 wG_X11_165 (by decide) ?_
  refine sv_goto (pc := 17) (tgt := 29) dX11_octet_17 (by decide) ?_
  exact mr_iretP dX11_octet_29 rfl (le_t rfl) (le_t rfl) ⟨(rW (c := (-2147483648)) (d := 2147483647) (rR (x := (-99999999))) rfl), trivial⟩
theorem vc_X3_note_1 {z1 : Int} (h0 : z1 = (-99999999)) (h1 : (-2147483648) ≤ z1 ∧ z1 ≤ 2147483647) : (-99999999) ≤ z1 ∧ z1 ≤ (-99999999) := by omega
set_option maxRecDepth 4000 in
set_option maxHeartbeats 4000000 in
theorem c_X3_note {l : Launch} {D : va_G} {c : Nat → ClassId} {H0 : Heap} {sa : Nat × Nat × (Nat → Int32)} {w : mW} {μ : mM} (hw : mWF w) (hT : mT w μ) {p1 : Int} (hp1 : 0 ≤ p1 ∧ p1 ≤ 3) {p2 : Int} (hp2 : (-2147483648) ≤ p2 ∧ p2 ≤ 2147483647) : sC (gG l D c H0 sa) mX3_note 1 0 0 [.ref 76, iv p1, iv p2] (mk w μ) (qV w [80999] μ (fun μ1 => True)) := by
  refine sC.of rfl (by decide) (le_t rfl) ?_
  refine mr_lvE (lv' := [(0, .ref 76), (1, iv p1), (2, iv p2)]) rfl ?_
  refine sv_aload_n (pc := 0) dX3_note_0 rfl rfl ?_
  refine gf_X3_3 (pc := 1) dX3_note_1 wF_X3_22 (A_76 hw) hT ?_
  refine mr_iload_n (pc := 4) (z := p1) dX3_note_4 rfl rfl ?_
  refine la_80 (pc := 5) dX3_note_5 (A_80 hw) hT (rIx (n := 4) hp1 rfl) fun z1 q2 h3 => ?_
  refine mr_ldc (pc := 6) (z := (-99999999)) dX3_note_6 wG_X3_21 (by decide) ?_
  refine mr_icmp_ne (pc := 8) (tgt := 18) dX3_note_8 (by decide) h3 (r32 (rR (x := (-99999999))) rfl) (fun h8 => ?_) (fun h8 => ?_)
  · exact mr_vret dX3_note_18 rfl (le_t rfl) (le_t rfl) hT mF.refl trivial
  have h9 : (-99999999) ≤ z1 ∧ z1 ≤ (-99999999) := (vc_X3_note_1 h8 h3)
  refine sv_aload_n (pc := 11) dX3_note_11 rfl rfl ?_
  refine gf_X3_3 (pc := 12) dX3_note_12 wF_X3_22 (A_76 hw) hT ?_
  refine mr_iload_n (pc := 15) (z := p1) dX3_note_15 rfl rfl ?_
  refine mr_iload_n (pc := 16) (z := p2) dX3_note_16 rfl rfl ?_
  refine ss_80 (pc := 17) dX3_note_17 (A_80 hw) hT (rIx (n := 4) hp1 rfl) hp2 fun μ10 u11 T12 => ?_
  exact mr_vret dX3_note_18 rfl (le_t rfl) (le_t rfl) T12 (mF.up mF.refl (A_80 hw) u11 rfl) trivial
theorem vc_X3_keepMark_1 {z95 : Int} (h0 : (9 - z95) < ((0 : Nat) : Int)) (h1 : 0 ≤ z95 ∧ z95 ≤ 8) : False := by omega
theorem vc_X3_keepMark_2 {z103 z95 : Int} (h0 : 8 ≤ z103) (h1 : z103 ≤ z95) (h2 : 0 ≤ z103 ∧ z103 ≤ 8) (h3 : 0 ≤ z95 ∧ z95 ≤ 8) : 8 ≤ z103 ∧ z103 ≤ 8 := by omega
theorem vc_X3_keepMark_3 {z103 z95 : Int} (h0 : z103 < 8) (h1 : z103 ≤ z95) (h2 : 0 ≤ z103 ∧ z103 ≤ 8) (h3 : 0 ≤ z95 ∧ z95 ≤ 8) : 0 ≤ z103 ∧ z103 ≤ 7 := by omega
theorem vc_X3_keepMark_4 {z103 z95 : Int} (h0 : z95 < z103) (h1 : 0 ≤ z103 ∧ z103 ≤ 8) (h2 : 0 ≤ z95 ∧ z95 ≤ 8) : 0 ≤ z95 ∧ z95 ≤ 7 := by omega
theorem vc_X3_keepMark_5 {z103 z95 : Int} (h0 : z95 < z103) (h1 : 0 ≤ z103 ∧ z103 ≤ 8) (h2 : 0 ≤ z95 ∧ z95 ≤ 7) : 1 ≤ z103 ∧ z103 ≤ 8 := by omega
theorem vc_X3_keepMark_6 {N z103 z95 : Int} (h0 : (9 - z95) < N + 1) (h1 : z95 < z103) (h2 : 1 ≤ z103 ∧ z103 ≤ 8) (h3 : 0 ≤ z95 ∧ z95 ≤ 7) : (9 - (z95 + 1)) < N := by omega
theorem vc_X3_keepMark_7  : (9 - 0) < ((10 : Nat) : Int) := by omega
set_option maxRecDepth 4000 in
set_option maxHeartbeats 4000000 in
theorem c_X3_keepMark {l : Launch} {D : va_G} {c : Nat → ClassId} {H0 : Heap} {sa : Nat × Nat × (Nat → Int32)} {w : mW} {μ : mM} (hw : mWF w) (hT : mT w μ) {p1 : Int} (hp1 : (-2147483648) ≤ p1 ∧ p1 ≤ 2147483647) : sC (gG l D c H0 sa) mX3_keepMark 1 0 0 [.ref 76, iv p1] (mk w μ) (qV w [76006, 79999] μ (fun μ1 => True)) := by
  refine sC.of rfl (by decide) (le_t rfl) ?_
  refine mr_lvE (lv' := [(0, .ref 76), (1, iv p1)]) rfl ?_
  refine mr_iconst (pc := 0) (z := 0) dX3_keepMark_0 ?_
  refine mr_istore_n (pc := 1) (lv' := [(2, iv 0), (0, .ref 76), (1, iv p1)]) dX3_keepMark_1 rfl (by decide) rfl ?_
  have L96 : ∀ (nL96 : Nat) (z95 : Int), True → (0 ≤ z95 ∧ z95 ≤ 8) → (9 - z95) < (nL96 : Int) → sV (gG l D c H0 sa) mX3_keepMark (sRm 1 0 0) (sZ (gG l D c H0 sa) 0 0 (qV w [76006, 79999] μ (fun μ1 => True))) 2 [(0, .ref 76), (1, iv p1), (2, iv z95)] [] (mk w μ) 0 0 := by
    intro nL96
    induction nL96 with
    | zero => intro z95 _ h97 h101; exact ((vc_X3_keepMark_1 h101 h97)).elim
    | succ nL96 ih102 =>
      intro z95 _ h97 h101
      refine mr_iload_n (pc := 2) (z := z95) dX3_keepMark_2 rfl rfl ?_
      refine sv_aload_n (pc := 3) dX3_keepMark_3 rfl rfl ?_
      refine gf_X3_6 (pc := 4) dX3_keepMark_4 wF_X3_59 (A_76 hw) hT fun z103 q104 h105 => ?_
      refine mr_icmp_ge (pc := 7) (tgt := 27) dX3_keepMark_7 (by decide) (r32 h97 rfl) (r32 h105 rfl) (fun h106 => ?_) (fun h106 => ?_)
      · refine sv_aload_n (pc := 27) dX3_keepMark_27 rfl rfl ?_
        refine gk_X3_6 (pc := 28) dX3_keepMark_28 wF_X3_59 (A_76 hw) q104 ?_
        refine mr_bipush (pc := 31) (z := 8) dX3_keepMark_31 (by decide) ?_
        refine mr_icmp_ge (pc := 33) (tgt := 56) dX3_keepMark_33 (by decide) (r32 h105 rfl) (r32 (rR (x := 8)) rfl) (fun h115 => ?_) (fun h115 => ?_)
        · have h116 : 8 ≤ z103 ∧ z103 ≤ 8 := (vc_X3_keepMark_2 h115 h106 h105 h97)
          exact mr_vret dX3_keepMark_56 rfl (le_t rfl) (le_t rfl) hT mF.refl trivial
        have h117 : 0 ≤ z103 ∧ z103 ≤ 7 := (vc_X3_keepMark_3 h115 h106 h105 h97)
        refine sv_aload_n (pc := 36) dX3_keepMark_36 rfl rfl ?_
        refine gf_X3_2 (pc := 37) dX3_keepMark_37 wF_X3_18 (A_76 hw) hT ?_
        refine sv_aload_n (pc := 40) dX3_keepMark_40 rfl rfl ?_
        refine gk_X3_6 (pc := 41) dX3_keepMark_41 wF_X3_59 (A_76 hw) q104 ?_
        refine mr_iload_n (pc := 44) (z := p1) dX3_keepMark_44 rfl rfl ?_
        refine ss_79 (pc := 45) dX3_keepMark_45 (A_79 hw) hT (rIx (n := 8) h117 rfl) hp1 fun μ118 u119 T120 => ?_
        refine sv_aload_n (pc := 46) dX3_keepMark_46 rfl rfl ?_
        refine sv_dup (pc := 47) dX3_keepMark_47 rfl ?_
        refine gk_X3_6 (pc := 48) dX3_keepMark_48 wF_X3_59 (A_76 hw) (u119.f (Or.inl (mAt.ne (A_79 hw) (A_76 hw) rfl)) q104) ?_
        refine mr_iconst (pc := 51) (z := 1) dX3_keepMark_51 ?_
        refine mr_iadd (pc := 52) (x := z103) (y := 1) dX3_keepMark_52 ?_
        refine pf_X3_6 (pc := 53) dX3_keepMark_53 wF_X3_59 (A_76 hw) T120 (rW (c := 0) (d := 8) (rAdd (e := 1) (f := 8) h117 (rR (x := 1)) rfl) rfl) fun μ121 u122 T123 => ?_
        exact mr_vret dX3_keepMark_56 rfl (le_t rfl) (le_t rfl) T123 (mF.up (mF.up mF.refl (A_79 hw) u119 rfl) (A_76 hw) u122 rfl) trivial
      have h124 : 0 ≤ z95 ∧ z95 ≤ 7 := (vc_X3_keepMark_4 h106 h105 h97)
      have h125 : 1 ≤ z103 ∧ z103 ≤ 8 := (vc_X3_keepMark_5 h106 h105 h124)
      refine sv_aload_n (pc := 10) dX3_keepMark_10 rfl rfl ?_
      refine gf_X3_2 (pc := 11) dX3_keepMark_11 wF_X3_18 (A_76 hw) hT ?_
      refine mr_iload_n (pc := 14) (z := z95) dX3_keepMark_14 rfl rfl ?_
      refine la_79 (pc := 15) dX3_keepMark_15 (A_79 hw) hT (rIx (n := 8) h124 rfl) fun z126 q127 h128 => ?_
      refine mr_iload_n (pc := 16) (z := p1) dX3_keepMark_16 rfl rfl ?_
      refine mr_icmp_ne (pc := 17) (tgt := 21) dX3_keepMark_17 (by decide) h128 hp1 (fun h129 => ?_) (fun h129 => ?_)
      · refine mr_iinc (pc := 21) (lv' := [(2, iv (z95 + 1)), (0, .ref 76), (1, iv p1)]) dX3_keepMark_21 rfl (by decide) rfl ?_
        refine sv_goto (pc := 24) (tgt := 2) dX3_keepMark_24 (by decide) ?_
        refine mr_lvS (lv' := [(0, .ref 76), (1, iv p1), (2, iv (z95 + 1))]) (List.forall_mem_cons.mpr ⟨rfl, List.forall_mem_cons.mpr ⟨rfl, List.forall_mem_cons.mpr ⟨rfl, fun _ h => absurd h List.not_mem_nil⟩⟩⟩) ?_
        exact ih102 (z95 + 1) trivial (rW (c := 0) (d := 8) (rAdd (e := 1) (f := 8) h124 (rR (x := 1)) rfl) rfl) (vc_X3_keepMark_6 (nS h101) h106 h125 h124)
      exact mr_vret dX3_keepMark_20 rfl (le_t rfl) (le_t rfl) hT mF.refl trivial
  refine mr_lvS (lv' := [(0, .ref 76), (1, iv p1), (2, iv 0)]) (List.forall_mem_cons.mpr ⟨rfl, List.forall_mem_cons.mpr ⟨rfl, List.forall_mem_cons.mpr ⟨rfl, fun _ h => absurd h List.not_mem_nil⟩⟩⟩) ?_
  exact L96 10 0 trivial (rW (c := 0) (d := 8) (rR (x := 0)) rfl) vc_X3_keepMark_7
theorem vc_X3_placeTold_1 {z30 : Int} (h0 : (5 - z30) < ((0 : Nat) : Int)) (h1 : 1 ≤ z30 ∧ z30 ≤ 4) : False := by omega
theorem vc_X3_placeTold_2 {z30 : Int} (h0 : 3 < z30) (h1 : 1 ≤ z30 ∧ z30 ≤ 4) : 4 ≤ z30 ∧ z30 ≤ 4 := by omega
theorem vc_X3_placeTold_3 {z30 : Int} (h0 : z30 ≤ 3) (h1 : 1 ≤ z30 ∧ z30 ≤ 4) : 1 ≤ z30 ∧ z30 ≤ 3 := by omega
theorem vc_X3_placeTold_4 {z41 : Int} (h0 : z41 = (-99999999)) (h1 : (-2147483648) ≤ z41 ∧ z41 ≤ 2147483647) : (-99999999) ≤ z41 ∧ z41 ≤ (-99999999) := by omega
theorem vc_X3_placeTold_5 {N z30 : Int} (h0 : (5 - z30) < N + 1) (h1 : z30 ≤ 3) (h2 : 1 ≤ z30 ∧ z30 ≤ 3) : (5 - (z30 + 1)) < N := by omega
theorem vc_X3_placeTold_6  : (5 - 1) < ((5 : Nat) : Int) := by omega
set_option maxRecDepth 4000 in
set_option maxHeartbeats 4000000 in
theorem c_X3_placeTold {l : Launch} {D : va_G} {c : Nat → ClassId} {H0 : Heap} {sa : Nat × Nat × (Nat → Int32)} {w : mW} {μ : mM} (hw : mWF w) (hT : mT w μ) : sC (gG l D c H0 sa) mX3_placeTold 1 0 0 [.ref 76] (mk w μ) (qP w μ (fun z => ((-2147483648) ≤ z ∧ z ≤ 2147483647) ∧ True)) := by
  refine sC.of rfl (by decide) (le_t rfl) ?_
  refine mr_lvE (lv' := [(0, .ref 76)]) rfl ?_
  refine mr_iconst (pc := 0) (z := 1) dX3_placeTold_0 ?_
  refine mr_istore_n (pc := 1) (lv' := [(1, iv 1), (0, .ref 76)]) dX3_placeTold_1 rfl (by decide) rfl ?_
  have L31 : ∀ (nL31 : Nat) (z30 : Int), True → (1 ≤ z30 ∧ z30 ≤ 4) → (5 - z30) < (nL31 : Int) → sV (gG l D c H0 sa) mX3_placeTold (sRm 1 0 0) (sZ (gG l D c H0 sa) 0 0 (qP w μ (fun z => ((-2147483648) ≤ z ∧ z ≤ 2147483647) ∧ True))) 2 [(0, .ref 76), (1, iv z30)] [] (mk w μ) 0 0 := by
    intro nL31
    induction nL31 with
    | zero => intro z30 _ h32 h36; exact ((vc_X3_placeTold_1 h36 h32)).elim
    | succ nL31 ih37 =>
      intro z30 _ h32 h36
      refine mr_iload_n (pc := 2) (z := z30) dX3_placeTold_2 rfl rfl ?_
      refine mr_iconst (pc := 3) (z := 3) dX3_placeTold_3 ?_
      refine mr_icmp_gt (pc := 4) (tgt := 31) dX3_placeTold_4 (by decide) (r32 h32 rfl) (r32 (rR (x := 3)) rfl) (fun h38 => ?_) (fun h38 => ?_)
      · have h39 : 4 ≤ z30 ∧ z30 ≤ 4 := (vc_X3_placeTold_2 h38 h32)
        refine mr_ldc (pc := 31) (z := (-99999999)) dX3_placeTold_31 wG_X3_21 (by decide) ?_
        exact mr_iretP dX3_placeTold_33 rfl (le_t rfl) (le_t rfl) ⟨(rW (c := (-2147483648)) (d := 2147483647) (rR (x := (-99999999))) rfl), trivial⟩
      have h40 : 1 ≤ z30 ∧ z30 ≤ 3 := (vc_X3_placeTold_3 h38 h32)
      refine sv_aload_n (pc := 7) dX3_placeTold_7 rfl rfl ?_
      refine gf_X3_3 (pc := 8) dX3_placeTold_8 wF_X3_22 (A_76 hw) hT ?_
      refine mr_iload_n (pc := 11) (z := z30) dX3_placeTold_11 rfl rfl ?_
      refine la_80 (pc := 12) dX3_placeTold_12 (A_80 hw) hT (rIx (n := 4) h40 rfl) fun z41 q42 h43 => ?_
      refine mr_ldc (pc := 13) (z := (-99999999)) dX3_placeTold_13 wG_X3_21 (by decide) ?_
      refine mr_icmp_eq (pc := 15) (tgt := 25) dX3_placeTold_15 (by decide) h43 (r32 (rR (x := (-99999999))) rfl) (fun h44 => ?_) (fun h44 => ?_)
      · have h45 : (-99999999) ≤ z41 ∧ z41 ≤ (-99999999) := (vc_X3_placeTold_4 h44 h43)
        refine mr_iinc (pc := 25) (lv' := [(1, iv (z30 + 1)), (0, .ref 76)]) dX3_placeTold_25 rfl (by decide) rfl ?_
        refine sv_goto (pc := 28) (tgt := 2) dX3_placeTold_28 (by decide) ?_
        refine mr_lvS (lv' := [(0, .ref 76), (1, iv (z30 + 1))]) (List.forall_mem_cons.mpr ⟨rfl, List.forall_mem_cons.mpr ⟨rfl, fun _ h => absurd h List.not_mem_nil⟩⟩) ?_
        exact ih37 (z30 + 1) trivial (rW (c := 1) (d := 4) (rAdd (e := 2) (f := 4) h40 (rR (x := 1)) rfl) rfl) (vc_X3_placeTold_5 (nS h36) h38 h40)
      refine sv_aload_n (pc := 18) dX3_placeTold_18 rfl rfl ?_
      refine gf_X3_3 (pc := 19) dX3_placeTold_19 wF_X3_22 (A_76 hw) hT ?_
      refine mr_iload_n (pc := 22) (z := z30) dX3_placeTold_22 rfl rfl ?_
      refine lk_80 (pc := 23) dX3_placeTold_23 (A_80 hw) (rIx (n := 4) h40 rfl) q42 ?_
      exact mr_iretP dX3_placeTold_24 rfl (le_t rfl) (le_t rfl) ⟨h43, trivial⟩
  refine mr_lvS (lv' := [(0, .ref 76), (1, iv 1)]) (List.forall_mem_cons.mpr ⟨rfl, List.forall_mem_cons.mpr ⟨rfl, fun _ h => absurd h List.not_mem_nil⟩⟩) ?_
  exact L31 5 1 trivial (rW (c := 1) (d := 4) (rR (x := 1)) rfl) vc_X3_placeTold_6
theorem vc_X3_toldInAll_1 {p1 : Int} (h0 : p1 = 1) (h1 : (-2147483648) ≤ p1 ∧ p1 ≤ 2147483647) : 1 ≤ p1 ∧ p1 ≤ 1 := by omega
theorem vc_X3_toldInAll_2 {p1 : Int} (h0 : p1 = 2) (h1 : ¬ p1 = 1) (h2 : (-2147483648) ≤ p1 ∧ p1 ≤ 2147483647) : 2 ≤ p1 ∧ p1 ≤ 2 := by omega
theorem vc_X3_toldInAll_3 {p1 : Int} (h0 : p1 = 3) (h1 : ¬ p1 = 1) (h2 : ¬ p1 = 2) (h3 : (-2147483648) ≤ p1 ∧ p1 ≤ 2147483647) : 3 ≤ p1 ∧ p1 ≤ 3 := by omega
theorem vc_X3_toldInAll_4 {p1 : Int} (h0 : p1 = 4) (h1 : ¬ p1 = 1) (h2 : ¬ p1 = 2) (h3 : ¬ p1 = 3) (h4 : (-2147483648) ≤ p1 ∧ p1 ≤ 2147483647) : 4 ≤ p1 ∧ p1 ≤ 4 := by omega
theorem vc_X3_toldInAll_5 {p1 : Int} (h0 : p1 = 5) (h1 : ¬ p1 = 1) (h2 : ¬ p1 = 2) (h3 : ¬ p1 = 3) (h4 : ¬ p1 = 4) (h5 : (-2147483648) ≤ p1 ∧ p1 ≤ 2147483647) : 5 ≤ p1 ∧ p1 ≤ 5 := by omega
theorem vc_X3_toldInAll_6 {p1 : Int} (h0 : p1 = 6) (h1 : ¬ p1 = 1) (h2 : ¬ p1 = 2) (h3 : ¬ p1 = 3) (h4 : ¬ p1 = 4) (h5 : ¬ p1 = 5) (h6 : (-2147483648) ≤ p1 ∧ p1 ≤ 2147483647) : 6 ≤ p1 ∧ p1 ≤ 6 := by omega
theorem vc_X3_toldInAll_7 {p1 : Int} (h0 : p1 = 7) (h1 : ¬ p1 = 1) (h2 : ¬ p1 = 2) (h3 : ¬ p1 = 3) (h4 : ¬ p1 = 4) (h5 : ¬ p1 = 5) (h6 : ¬ p1 = 6) (h7 : (-2147483648) ≤ p1 ∧ p1 ≤ 2147483647) : 7 ≤ p1 ∧ p1 ≤ 7 := by omega
theorem vc_X3_toldInAll_8 {p1 : Int} (h0 : ¬ p1 = 1) (h1 : ¬ p1 = 2) (h2 : ¬ p1 = 3) (h3 : ¬ p1 = 4) (h4 : ¬ p1 = 5) (h5 : ¬ p1 = 6) (h6 : ¬ p1 = 7) (h7 : (-2147483648) ≤ p1 ∧ p1 ≤ 2147483647) : p1 < 1 ∨ 7 < p1 := by omega
set_option maxRecDepth 4000 in
set_option maxHeartbeats 4000000 in
theorem c_X3_toldInAll {l : Launch} {D : va_G} {c : Nat → ClassId} {H0 : Heap} {sa : Nat × Nat × (Nat → Int32)} {w : mW} {μ : mM} (hw : mWF w) (hT : mT w μ) {p1 : Int} (hp1 : (-2147483648) ≤ p1 ∧ p1 ≤ 2147483647) : sC (gG l D c H0 sa) mX3_toldInAll 1 0 0 [.ref 76, iv p1] (mk w μ) (qP w μ (fun z => ((-2147483648) ≤ z ∧ z ≤ 2147483647) ∧ True)) := by
  refine sC.of rfl (by decide) (le_t rfl) ?_
  refine mr_lvE (lv' := [(0, .ref 76), (1, iv p1)]) rfl ?_
  refine mr_iload_n (pc := 0) (z := p1) dX3_toldInAll_0 rfl rfl ?_
  by_cases h1 : p1 = 1
  · refine mr_tableIn (pc := 1) (v := 1) (tgt := 44) dX3_toldInAll_1 h1 rfl rfl (by decide) ?_
    have h2 : 1 ≤ p1 ∧ p1 ≤ 1 := (vc_X3_toldInAll_1 h1 hp1)
    refine sv_aload_n (pc := 44) dX3_toldInAll_44 rfl rfl ?_
    refine gf_X3_13 (pc := 45) dX3_toldInAll_45 wF_X3_63 (A_76 hw) hT fun z3 q4 h5 => ?_
    exact mr_iretP dX3_toldInAll_48 rfl (le_t rfl) (le_t rfl) ⟨(rW (c := (-2147483648)) (d := 2147483647) h5 rfl), trivial⟩
  by_cases h6 : p1 = 2
  · refine mr_tableIn (pc := 1) (v := 2) (tgt := 49) dX3_toldInAll_1 h6 rfl rfl (by decide) ?_
    have h7 : 2 ≤ p1 ∧ p1 ≤ 2 := (vc_X3_toldInAll_2 h6 h1 hp1)
    refine sv_aload_n (pc := 49) dX3_toldInAll_49 rfl rfl ?_
    refine gf_X3_14 (pc := 50) dX3_toldInAll_50 wF_X3_66 (A_76 hw) hT fun z8 q9 h10 => ?_
    exact mr_iretP dX3_toldInAll_53 rfl (le_t rfl) (le_t rfl) ⟨(rW (c := (-2147483648)) (d := 2147483647) h10 rfl), trivial⟩
  by_cases h11 : p1 = 3
  · refine mr_tableIn (pc := 1) (v := 3) (tgt := 54) dX3_toldInAll_1 h11 rfl rfl (by decide) ?_
    have h12 : 3 ≤ p1 ∧ p1 ≤ 3 := (vc_X3_toldInAll_3 h11 h1 h6 hp1)
    refine sv_aload_n (pc := 54) dX3_toldInAll_54 rfl rfl ?_
    refine gf_X3_5 (pc := 55) dX3_toldInAll_55 wF_X3_79 (A_76 hw) hT fun z13 q14 h15 => ?_
    exact mr_iretP dX3_toldInAll_58 rfl (le_t rfl) (le_t rfl) ⟨(rW (c := (-2147483648)) (d := 2147483647) h15 rfl), trivial⟩
  by_cases h16 : p1 = 4
  · refine mr_tableIn (pc := 1) (v := 4) (tgt := 59) dX3_toldInAll_1 h16 rfl rfl (by decide) ?_
    have h17 : 4 ≤ p1 ∧ p1 ≤ 4 := (vc_X3_toldInAll_4 h16 h1 h6 h11 hp1)
    refine sv_aload_n (pc := 59) dX3_toldInAll_59 rfl rfl ?_
    refine gf_X3_9 (pc := 60) dX3_toldInAll_60 wF_X3_28 (A_76 hw) hT ?_
    refine gf_X7_5 (pc := 63) dX3_toldInAll_63 wF_X3_127 (A_81 hw) hT fun z18 q19 h20 => ?_
    exact mr_iretP dX3_toldInAll_66 rfl (le_t rfl) (le_t rfl) ⟨h20, trivial⟩
  by_cases h21 : p1 = 5
  · refine mr_tableIn (pc := 1) (v := 5) (tgt := 67) dX3_toldInAll_1 h21 rfl rfl (by decide) ?_
    have h22 : 5 ≤ p1 ∧ p1 ≤ 5 := (vc_X3_toldInAll_5 h21 h1 h6 h11 h16 hp1)
    refine sv_aload_n (pc := 67) dX3_toldInAll_67 rfl rfl ?_
    refine gf_X3_9 (pc := 68) dX3_toldInAll_68 wF_X3_28 (A_76 hw) hT ?_
    refine gf_X7_6 (pc := 71) dX3_toldInAll_71 wF_X3_134 (A_81 hw) hT fun z23 q24 h25 => ?_
    exact mr_iretP dX3_toldInAll_74 rfl (le_t rfl) (le_t rfl) ⟨h25, trivial⟩
  by_cases h26 : p1 = 6
  · refine mr_tableIn (pc := 1) (v := 6) (tgt := 75) dX3_toldInAll_1 h26 rfl rfl (by decide) ?_
    have h27 : 6 ≤ p1 ∧ p1 ≤ 6 := (vc_X3_toldInAll_6 h26 h1 h6 h11 h16 h21 hp1)
    refine sv_aload_n (pc := 75) dX3_toldInAll_75 rfl rfl ?_
    refine gf_X3_9 (pc := 76) dX3_toldInAll_76 wF_X3_28 (A_76 hw) hT ?_
    refine gf_X7_7 (pc := 79) dX3_toldInAll_79 wF_X3_147 (A_81 hw) hT fun z28 q29 h30 => ?_
    exact mr_iretP dX3_toldInAll_82 rfl (le_t rfl) (le_t rfl) ⟨(rW (c := (-2147483648)) (d := 2147483647) h30 rfl), trivial⟩
  by_cases h31 : p1 = 7
  · refine mr_tableIn (pc := 1) (v := 7) (tgt := 83) dX3_toldInAll_1 h31 rfl rfl (by decide) ?_
    have h32 : 7 ≤ p1 ∧ p1 ≤ 7 := (vc_X3_toldInAll_7 h31 h1 h6 h11 h16 h21 h26 hp1)
    refine sv_aload_n (pc := 83) dX3_toldInAll_83 rfl rfl ?_
    refine gf_X3_6 (pc := 84) dX3_toldInAll_84 wF_X3_59 (A_76 hw) hT fun z33 q34 h35 => ?_
    exact mr_iretP dX3_toldInAll_87 rfl (le_t rfl) (le_t rfl) ⟨(rW (c := (-2147483648)) (d := 2147483647) h35 rfl), trivial⟩
  refine mr_tableOut (pc := 1) (tgt := 88) dX3_toldInAll_1 hp1 (vc_X3_toldInAll_8 h1 h6 h11 h16 h21 h26 h31 hp1) (by decide) ?_
  refine mr_ldc (pc := 88) (z := (-99999999)) dX3_toldInAll_88 wG_X3_21 (by decide) ?_
  exact mr_iretP dX3_toldInAll_90 rfl (le_t rfl) (le_t rfl) ⟨(rW (c := (-2147483648)) (d := 2147483647) (rR (x := (-99999999))) rfl), trivial⟩
theorem vc_X3_toldOfRow_1  : (0 : Int) < (100 : Int) ∧ (100 : Int) ≤ (2147483647 : Int) := by omega
theorem vc_X3_toldOfRow_2 {p1 z211 : Int} (h0 : z211 = 1) (h1 : p1 / 100 = z211) (h2 : 100 ≤ p1 ∧ p1 ≤ 2147483647) (h3 : 1 ≤ z211 ∧ z211 ≤ 21474836) : 1 ≤ z211 ∧ z211 ≤ 1 := by omega
theorem vc_X3_toldOfRow_3 {f_an f_wd p1 z208 : Int} (h0 : f_wd ≤ z208) (h1 : f_wd + f_an ≤ 1000) (h2 : p1 % 100 = z208) (h3 : 0 ≤ f_an ∧ f_an ≤ 1000) (h4 : 0 ≤ f_wd ∧ f_wd ≤ 1000) (h5 : 100 ≤ p1 ∧ p1 ≤ 2147483647) (h6 : 0 ≤ z208 ∧ z208 ≤ 99) : 0 ≤ f_wd ∧ f_wd ≤ 99 := by omega
theorem vc_X3_toldOfRow_4 {f_an f_wd p1 z208 : Int} (h0 : z208 < f_wd) (h1 : f_wd + f_an ≤ 1000) (h2 : p1 % 100 = z208) (h3 : 0 ≤ f_an ∧ f_an ≤ 1000) (h4 : 0 ≤ f_wd ∧ f_wd ≤ 1000) (h5 : 100 ≤ p1 ∧ p1 ≤ 2147483647) (h6 : 0 ≤ z208 ∧ z208 ≤ 99) : 1 ≤ f_wd ∧ f_wd ≤ 1000 := by omega
theorem vc_X3_toldOfRow_5 {p1 z211 : Int} (h0 : ¬ z211 = 1) (h1 : p1 / 100 = z211) (h2 : 100 ≤ p1 ∧ p1 ≤ 2147483647) (h3 : 1 ≤ z211 ∧ z211 ≤ 21474836) : 2 ≤ z211 ∧ z211 ≤ 21474836 := by omega
theorem vc_X3_toldOfRow_6 {p1 z211 : Int} (h0 : z211 = 2) (h1 : p1 / 100 = z211) (h2 : ¬ z211 = 1) (h3 : 100 ≤ p1 ∧ p1 ≤ 2147483647) (h4 : 2 ≤ z211 ∧ z211 ≤ 21474836) : 2 ≤ z211 ∧ z211 ≤ 2 := by omega
theorem vc_X3_toldOfRow_7 {p1 z211 : Int} (h0 : ¬ z211 = 2) (h1 : p1 / 100 = z211) (h2 : ¬ z211 = 1) (h3 : 100 ≤ p1 ∧ p1 ≤ 2147483647) (h4 : 2 ≤ z211 ∧ z211 ≤ 21474836) : 3 ≤ z211 ∧ z211 ≤ 21474836 := by omega
theorem vc_X3_toldOfRow_8 {p1 z211 : Int} (h0 : z211 = 3) (h1 : p1 / 100 = z211) (h2 : ¬ z211 = 1) (h3 : ¬ z211 = 2) (h4 : 100 ≤ p1 ∧ p1 ≤ 2147483647) (h5 : 3 ≤ z211 ∧ z211 ≤ 21474836) : 3 ≤ z211 ∧ z211 ≤ 3 := by omega
theorem vc_X3_toldOfRow_9 {f_an f_wd p1 z208 : Int} (h0 : f_an ≤ z208) (h1 : f_wd + f_an ≤ 1000) (h2 : p1 % 100 = z208) (h3 : 0 ≤ f_an ∧ f_an ≤ 1000) (h4 : 0 ≤ f_wd ∧ f_wd ≤ 1000) (h5 : 100 ≤ p1 ∧ p1 ≤ 2147483647) (h6 : 0 ≤ z208 ∧ z208 ≤ 99) : 0 ≤ f_an ∧ f_an ≤ 99 := by omega
theorem vc_X3_toldOfRow_10 {f_an f_wd p1 z208 : Int} (h0 : z208 < f_an) (h1 : f_wd + f_an ≤ 1000) (h2 : p1 % 100 = z208) (h3 : 0 ≤ f_an ∧ f_an ≤ 1000) (h4 : 0 ≤ f_wd ∧ f_wd ≤ 1000) (h5 : 100 ≤ p1 ∧ p1 ≤ 2147483647) (h6 : 0 ≤ z208 ∧ z208 ≤ 99) : 1 ≤ f_an ∧ f_an ≤ 1000 := by omega
theorem vc_X3_toldOfRow_11 {f_an f_wd p1 z208 z211 : Int} (h0 : f_wd + f_an ≤ 1000) (h1 : p1 % 100 = z208) (h2 : z208 < f_an) (h3 : p1 / 100 = z211) (h4 : 1 ≤ f_an ∧ f_an ≤ 1000) (h5 : 0 ≤ f_wd ∧ f_wd ≤ 1000) (h6 : 100 ≤ p1 ∧ p1 ≤ 2147483647) (h7 : 0 ≤ z208 ∧ z208 ≤ 99) (h8 : 3 ≤ z211 ∧ z211 ≤ 3) : 0 ≤ (f_wd + z208) ∧ (f_wd + z208) < 1000 := by omega
theorem vc_X3_toldOfRow_12 {p1 z211 : Int} (h0 : ¬ z211 = 3) (h1 : p1 / 100 = z211) (h2 : ¬ z211 = 1) (h3 : ¬ z211 = 2) (h4 : 100 ≤ p1 ∧ p1 ≤ 2147483647) (h5 : 3 ≤ z211 ∧ z211 ≤ 21474836) : 4 ≤ z211 ∧ z211 ≤ 21474836 := by omega
theorem vc_X3_toldOfRow_13 {p1 z211 : Int} (h0 : z211 = 4) (h1 : p1 / 100 = z211) (h2 : ¬ z211 = 1) (h3 : ¬ z211 = 2) (h4 : ¬ z211 = 3) (h5 : 100 ≤ p1 ∧ p1 ≤ 2147483647) (h6 : 4 ≤ z211 ∧ z211 ≤ 21474836) : 4 ≤ z211 ∧ z211 ≤ 4 := by omega
theorem vc_X3_toldOfRow_14 {f_an f_wd p1 z208 z211 : Int} (h0 : f_wd + f_an ≤ 1000) (h1 : p1 % 100 = z208) (h2 : z208 < f_an) (h3 : p1 / 100 = z211) (h4 : 1 ≤ f_an ∧ f_an ≤ 1000) (h5 : 0 ≤ f_wd ∧ f_wd ≤ 1000) (h6 : 100 ≤ p1 ∧ p1 ≤ 2147483647) (h7 : 0 ≤ z208 ∧ z208 ≤ 99) (h8 : 4 ≤ z211 ∧ z211 ≤ 4) : 0 ≤ (f_wd + z208) ∧ (f_wd + z208) < 1000 := by omega
theorem vc_X3_toldOfRow_15 {p1 z211 : Int} (h0 : ¬ z211 = 4) (h1 : p1 / 100 = z211) (h2 : ¬ z211 = 1) (h3 : ¬ z211 = 2) (h4 : ¬ z211 = 3) (h5 : 100 ≤ p1 ∧ p1 ≤ 2147483647) (h6 : 4 ≤ z211 ∧ z211 ≤ 21474836) : 5 ≤ z211 ∧ z211 ≤ 21474836 := by omega
theorem vc_X3_toldOfRow_16 {p1 z211 : Int} (h0 : z211 = 5) (h1 : p1 / 100 = z211) (h2 : ¬ z211 = 1) (h3 : ¬ z211 = 2) (h4 : ¬ z211 = 3) (h5 : ¬ z211 = 4) (h6 : 100 ≤ p1 ∧ p1 ≤ 2147483647) (h7 : 5 ≤ z211 ∧ z211 ≤ 21474836) : 5 ≤ z211 ∧ z211 ≤ 5 := by omega
theorem vc_X3_toldOfRow_17 {p1 z208 z272 : Int} (h0 : z208 < z272) (h1 : p1 % 100 = z208) (h2 : 100 ≤ p1 ∧ p1 ≤ 2147483647) (h3 : 0 ≤ z208 ∧ z208 ≤ 99) (h4 : 0 ≤ z272 ∧ z272 ≤ 20) : 0 ≤ z208 ∧ z208 ≤ 19 := by omega
theorem vc_X3_toldOfRow_18 {p1 z208 z272 : Int} (h0 : z208 < z272) (h1 : p1 % 100 = z208) (h2 : 100 ≤ p1 ∧ p1 ≤ 2147483647) (h3 : 0 ≤ z208 ∧ z208 ≤ 19) (h4 : 0 ≤ z272 ∧ z272 ≤ 20) : 1 ≤ z272 ∧ z272 ≤ 20 := by omega
theorem vc_X3_toldOfRow_19 {p1 z211 : Int} (h0 : ¬ z211 = 5) (h1 : p1 / 100 = z211) (h2 : ¬ z211 = 1) (h3 : ¬ z211 = 2) (h4 : ¬ z211 = 3) (h5 : ¬ z211 = 4) (h6 : 100 ≤ p1 ∧ p1 ≤ 2147483647) (h7 : 5 ≤ z211 ∧ z211 ≤ 21474836) : 6 ≤ z211 ∧ z211 ≤ 21474836 := by omega
theorem vc_X3_toldOfRow_20 {p1 z211 : Int} (h0 : z211 = 6) (h1 : p1 / 100 = z211) (h2 : ¬ z211 = 1) (h3 : ¬ z211 = 2) (h4 : ¬ z211 = 3) (h5 : ¬ z211 = 4) (h6 : ¬ z211 = 5) (h7 : 100 ≤ p1 ∧ p1 ≤ 2147483647) (h8 : 6 ≤ z211 ∧ z211 ≤ 21474836) : 6 ≤ z211 ∧ z211 ≤ 6 := by omega
theorem vc_X3_toldOfRow_21 {p1 z208 z291 : Int} (h0 : z208 < z291) (h1 : p1 % 100 = z208) (h2 : 100 ≤ p1 ∧ p1 ≤ 2147483647) (h3 : 0 ≤ z208 ∧ z208 ≤ 99) (h4 : 0 ≤ z291 ∧ z291 ≤ 8) : 0 ≤ z208 ∧ z208 ≤ 7 := by omega
theorem vc_X3_toldOfRow_22 {p1 z208 z291 : Int} (h0 : z208 < z291) (h1 : p1 % 100 = z208) (h2 : 100 ≤ p1 ∧ p1 ≤ 2147483647) (h3 : 0 ≤ z208 ∧ z208 ≤ 7) (h4 : 0 ≤ z291 ∧ z291 ≤ 8) : 1 ≤ z291 ∧ z291 ≤ 8 := by omega
theorem vc_X3_toldOfRow_23 {p1 z211 : Int} (h0 : ¬ z211 = 6) (h1 : p1 / 100 = z211) (h2 : ¬ z211 = 1) (h3 : ¬ z211 = 2) (h4 : ¬ z211 = 3) (h5 : ¬ z211 = 4) (h6 : ¬ z211 = 5) (h7 : 100 ≤ p1 ∧ p1 ≤ 2147483647) (h8 : 6 ≤ z211 ∧ z211 ≤ 21474836) : 7 ≤ z211 ∧ z211 ≤ 21474836 := by omega
theorem vc_X3_toldOfRow_24 {p1 z208 z211 : Int} (h0 : p1 / 100 = z211) (h1 : ¬ z211 = 1) (h2 : ¬ z211 = 2) (h3 : ¬ z211 = 3) (h4 : ¬ z211 = 4) (h5 : ¬ z211 = 5) (h6 : ¬ z211 = 6) (h7 : p1 % 100 = z208) (h8 : 100 ≤ p1 ∧ p1 ≤ 2147483647) (h9 : 0 ≤ z208 ∧ z208 ≤ 99) (h10 : 7 ≤ z211 ∧ z211 ≤ 21474836) : z211 < 1 ∨ 6 < z211 := by omega
theorem vc_X3_toldOfRow_25 {p1 z208 z211 z306 : Int} (h0 : z306 ≤ (p1 - 700)) (h1 : p1 % 100 = z208) (h2 : p1 / 100 = z211) (h3 : 100 ≤ p1 ∧ p1 ≤ 2147483647) (h4 : 0 ≤ z208 ∧ z208 ≤ 99) (h5 : 7 ≤ z211 ∧ z211 ≤ 21474836) (h6 : 0 ≤ z306 ∧ z306 ≤ 256) : 700 ≤ p1 ∧ p1 ≤ 2147483647 := by omega
theorem vc_X3_toldOfRow_26 {p1 z208 z211 z306 : Int} (h0 : (p1 - 700) < z306) (h1 : p1 % 100 = z208) (h2 : p1 / 100 = z211) (h3 : 100 ≤ p1 ∧ p1 ≤ 2147483647) (h4 : 0 ≤ z208 ∧ z208 ≤ 99) (h5 : 7 ≤ z211 ∧ z211 ≤ 21474836) (h6 : 0 ≤ z306 ∧ z306 ≤ 256) : 100 ≤ p1 ∧ p1 ≤ 955 := by omega
theorem vc_X3_toldOfRow_27 {p1 z208 z211 z306 : Int} (h0 : p1 % 100 = z208) (h1 : p1 / 100 = z211) (h2 : (p1 - 700) < z306) (h3 : ¬ z211 = 1) (h4 : ¬ z211 = 2) (h5 : ¬ z211 = 3) (h6 : ¬ z211 = 4) (h7 : ¬ z211 = 5) (h8 : ¬ z211 = 6) (h9 : 100 ≤ p1 ∧ p1 ≤ 955) (h10 : 0 ≤ z208 ∧ z208 ≤ 99) (h11 : 7 ≤ z211 ∧ z211 ≤ 21474836) (h12 : 0 ≤ z306 ∧ z306 ≤ 256) : 0 ≤ (p1 - 700) ∧ (p1 - 700) < 256 := by omega
set_option maxRecDepth 4000 in
set_option maxHeartbeats 4000000 in
theorem c_X3_toldOfRow {l : Launch} {D : va_G} {c : Nat → ClassId} {H0 : Heap} {sa : Nat × Nat × (Nat → Int32)} {w : mW} {μ : mM} (hw : mWF w) (hT : mT w μ) {p1 : Int} (hp1 : 100 ≤ p1 ∧ p1 ≤ 2147483647) {f_wd : Int} (q_f_wd : μ 76 13 = f_wd) {f_an : Int} (q_f_an : μ 76 14 = f_an) (hq0 : f_wd + f_an ≤ 1000) : sC (gG l D c H0 sa) mX3_toldOfRow 1 0 0 [.ref 76, iv p1] (mk w μ) (qP w μ (fun z => ((-2147483648) ≤ z ∧ z ≤ 2147483647) ∧ True)) := by
  refine sC.of rfl (by decide) (le_t rfl) ?_
  have ht_f_wd : (0 ≤ f_wd ∧ f_wd ≤ 1000) := by rw [← q_f_wd]; exact hT 76 76 (A_76 hw) 13
  have ht_f_an : (0 ≤ f_an ∧ f_an ≤ 1000) := by rw [← q_f_an]; exact hT 76 76 (A_76 hw) 14
  refine mr_lvE (lv' := [(0, .ref 76), (1, iv p1)]) rfl ?_
  refine mr_iload_n (pc := 0) (z := p1) dX3_toldOfRow_0 rfl rfl ?_
  refine mr_bipush (pc := 1) (z := 100) dX3_toldOfRow_1 (by decide) ?_
  refine mr_irem (pc := 3) (x := p1) (y := 100) dX3_toldOfRow_3 (rW (c := 0) (d := 2147483647) hp1 rfl) vc_X3_toldOfRow_1 ?_
  refine mr_gen (P := fun z => 0 ≤ z ∧ z ≤ 99) (rMod hp1 rfl) fun z208 q209 h210 => ?_
  refine mr_istore_n (pc := 4) (lv' := [(2, iv z208), (0, .ref 76), (1, iv p1)]) dX3_toldOfRow_4 rfl (by decide) rfl ?_
  refine mr_iload_n (pc := 5) (z := p1) dX3_toldOfRow_5 rfl rfl ?_
  refine mr_bipush (pc := 6) (z := 100) dX3_toldOfRow_6 (by decide) ?_
  refine mr_idiv (pc := 8) (x := p1) (y := 100) dX3_toldOfRow_8 (rW (c := 0) (d := 2147483647) hp1 rfl) vc_X3_toldOfRow_1 ?_
  refine mr_gen (P := fun z => 1 ≤ z ∧ z ≤ 21474836) (rDiv hp1 rfl) fun z211 q212 h213 => ?_
  by_cases h214 : z211 = 1
  · refine mr_tableIn (pc := 9) (v := 1) (tgt := 48) dX3_toldOfRow_9 h214 rfl rfl (by decide) ?_
    have h215 : 1 ≤ z211 ∧ z211 ≤ 1 := (vc_X3_toldOfRow_2 h214 q212 hp1 h213)
    refine mr_iload_n (pc := 48) (z := z208) dX3_toldOfRow_48 rfl rfl ?_
    refine sv_aload_n (pc := 49) dX3_toldOfRow_49 rfl rfl ?_
    refine gk_X3_13 (pc := 50) dX3_toldOfRow_50 wF_X3_63 (A_76 hw) q_f_wd ?_
    refine mr_icmp_ge (pc := 53) (tgt := 65) dX3_toldOfRow_53 (by decide) (r32 h210 rfl) (r32 ht_f_wd rfl) (fun h221 => ?_) (fun h221 => ?_)
    · have h222 : 0 ≤ f_wd ∧ f_wd ≤ 99 := (vc_X3_toldOfRow_3 h221 hq0 q209 ht_f_an ht_f_wd hp1 h210)
      refine mr_ldc (pc := 65) (z := (-99999999)) dX3_toldOfRow_65 wG_X3_21 (by decide) ?_
      exact mr_iretP dX3_toldOfRow_67 rfl (le_t rfl) (le_t rfl) ⟨(rW (c := (-2147483648)) (d := 2147483647) (rR (x := (-99999999))) rfl), trivial⟩
    have h223 : 1 ≤ f_wd ∧ f_wd ≤ 1000 := (vc_X3_toldOfRow_4 h221 hq0 q209 ht_f_an ht_f_wd hp1 h210)
    refine sv_aload_n (pc := 56) dX3_toldOfRow_56 rfl rfl ?_
    refine gf_X3_10 (pc := 57) dX3_toldOfRow_57 wF_X3_32 (A_76 hw) hT ?_
    refine mr_iload_n (pc := 60) (z := z208) dX3_toldOfRow_60 rfl rfl ?_
    refine la_84 (pc := 61) dX3_toldOfRow_61 (A_84 hw) hT (rIx (n := 1000) h210 rfl) fun z224 q225 h226 => ?_
    refine sv_goto (pc := 62) (tgt := 67) dX3_toldOfRow_62 (by decide) ?_
    exact mr_iretP dX3_toldOfRow_67 rfl (le_t rfl) (le_t rfl) ⟨h226, trivial⟩
  have h227 : 2 ≤ z211 ∧ z211 ≤ 21474836 := (vc_X3_toldOfRow_5 h214 q212 hp1 h213)
  by_cases h228 : z211 = 2
  · refine mr_tableIn (pc := 9) (v := 2) (tgt := 68) dX3_toldOfRow_9 h228 rfl rfl (by decide) ?_
    have h229 : 2 ≤ z211 ∧ z211 ≤ 2 := (vc_X3_toldOfRow_6 h228 q212 h214 hp1 h227)
    refine mr_iload_n (pc := 68) (z := z208) dX3_toldOfRow_68 rfl rfl ?_
    refine sv_aload_n (pc := 69) dX3_toldOfRow_69 rfl rfl ?_
    refine gk_X3_13 (pc := 70) dX3_toldOfRow_70 wF_X3_63 (A_76 hw) q_f_wd ?_
    refine mr_icmp_ge (pc := 73) (tgt := 85) dX3_toldOfRow_73 (by decide) (r32 h210 rfl) (r32 ht_f_wd rfl) (fun h235 => ?_) (fun h235 => ?_)
    · have h236 : 0 ≤ f_wd ∧ f_wd ≤ 99 := (vc_X3_toldOfRow_3 h235 hq0 q209 ht_f_an ht_f_wd hp1 h210)
      refine mr_ldc (pc := 85) (z := (-99999999)) dX3_toldOfRow_85 wG_X3_21 (by decide) ?_
      exact mr_iretP dX3_toldOfRow_87 rfl (le_t rfl) (le_t rfl) ⟨(rW (c := (-2147483648)) (d := 2147483647) (rR (x := (-99999999))) rfl), trivial⟩
    have h237 : 1 ≤ f_wd ∧ f_wd ≤ 1000 := (vc_X3_toldOfRow_4 h235 hq0 q209 ht_f_an ht_f_wd hp1 h210)
    refine sv_aload_n (pc := 76) dX3_toldOfRow_76 rfl rfl ?_
    refine gf_X3_11 (pc := 77) dX3_toldOfRow_77 wF_X3_35 (A_76 hw) hT ?_
    refine mr_iload_n (pc := 80) (z := z208) dX3_toldOfRow_80 rfl rfl ?_
    refine la_85 (pc := 81) dX3_toldOfRow_81 (A_85 hw) hT (rIx (n := 1000) h210 rfl) fun z238 q239 h240 => ?_
    refine sv_goto (pc := 82) (tgt := 87) dX3_toldOfRow_82 (by decide) ?_
    exact mr_iretP dX3_toldOfRow_87 rfl (le_t rfl) (le_t rfl) ⟨h240, trivial⟩
  have h241 : 3 ≤ z211 ∧ z211 ≤ 21474836 := (vc_X3_toldOfRow_7 h228 q212 h214 hp1 h227)
  by_cases h242 : z211 = 3
  · refine mr_tableIn (pc := 9) (v := 3) (tgt := 88) dX3_toldOfRow_9 h242 rfl rfl (by decide) ?_
    have h243 : 3 ≤ z211 ∧ z211 ≤ 3 := (vc_X3_toldOfRow_8 h242 q212 h214 h228 hp1 h241)
    refine mr_iload_n (pc := 88) (z := z208) dX3_toldOfRow_88 rfl rfl ?_
    refine sv_aload_n (pc := 89) dX3_toldOfRow_89 rfl rfl ?_
    refine gk_X3_14 (pc := 90) dX3_toldOfRow_90 wF_X3_66 (A_76 hw) q_f_an ?_
    refine mr_icmp_ge (pc := 93) (tgt := 110) dX3_toldOfRow_93 (by decide) (r32 h210 rfl) (r32 ht_f_an rfl) (fun h249 => ?_) (fun h249 => ?_)
    · have h250 : 0 ≤ f_an ∧ f_an ≤ 99 := (vc_X3_toldOfRow_9 h249 hq0 q209 ht_f_an ht_f_wd hp1 h210)
      refine mr_ldc (pc := 110) (z := (-99999999)) dX3_toldOfRow_110 wG_X3_21 (by decide) ?_
      exact mr_iretP dX3_toldOfRow_112 rfl (le_t rfl) (le_t rfl) ⟨(rW (c := (-2147483648)) (d := 2147483647) (rR (x := (-99999999))) rfl), trivial⟩
    have h251 : 1 ≤ f_an ∧ f_an ≤ 1000 := (vc_X3_toldOfRow_10 h249 hq0 q209 ht_f_an ht_f_wd hp1 h210)
    refine sv_aload_n (pc := 96) dX3_toldOfRow_96 rfl rfl ?_
    refine gf_X3_10 (pc := 97) dX3_toldOfRow_97 wF_X3_32 (A_76 hw) hT ?_
    refine sv_aload_n (pc := 100) dX3_toldOfRow_100 rfl rfl ?_
    refine gk_X3_13 (pc := 101) dX3_toldOfRow_101 wF_X3_63 (A_76 hw) q_f_wd ?_
    refine mr_iload_n (pc := 104) (z := z208) dX3_toldOfRow_104 rfl rfl ?_
    refine mr_iadd (pc := 105) (x := f_wd) (y := z208) dX3_toldOfRow_105 ?_
    refine la_84 (pc := 106) dX3_toldOfRow_106 (A_84 hw) hT (vc_X3_toldOfRow_11 hq0 q209 h249 q212 h251 ht_f_wd hp1 h210 h243) fun z252 q253 h254 => ?_
    refine sv_goto (pc := 107) (tgt := 112) dX3_toldOfRow_107 (by decide) ?_
    exact mr_iretP dX3_toldOfRow_112 rfl (le_t rfl) (le_t rfl) ⟨h254, trivial⟩
  have h255 : 4 ≤ z211 ∧ z211 ≤ 21474836 := (vc_X3_toldOfRow_12 h242 q212 h214 h228 hp1 h241)
  by_cases h256 : z211 = 4
  · refine mr_tableIn (pc := 9) (v := 4) (tgt := 113) dX3_toldOfRow_9 h256 rfl rfl (by decide) ?_
    have h257 : 4 ≤ z211 ∧ z211 ≤ 4 := (vc_X3_toldOfRow_13 h256 q212 h214 h228 h242 hp1 h255)
    refine mr_iload_n (pc := 113) (z := z208) dX3_toldOfRow_113 rfl rfl ?_
    refine sv_aload_n (pc := 114) dX3_toldOfRow_114 rfl rfl ?_
    refine gk_X3_14 (pc := 115) dX3_toldOfRow_115 wF_X3_66 (A_76 hw) q_f_an ?_
    refine mr_icmp_ge (pc := 118) (tgt := 135) dX3_toldOfRow_118 (by decide) (r32 h210 rfl) (r32 ht_f_an rfl) (fun h263 => ?_) (fun h263 => ?_)
    · have h264 : 0 ≤ f_an ∧ f_an ≤ 99 := (vc_X3_toldOfRow_9 h263 hq0 q209 ht_f_an ht_f_wd hp1 h210)
      refine mr_ldc (pc := 135) (z := (-99999999)) dX3_toldOfRow_135 wG_X3_21 (by decide) ?_
      exact mr_iretP dX3_toldOfRow_137 rfl (le_t rfl) (le_t rfl) ⟨(rW (c := (-2147483648)) (d := 2147483647) (rR (x := (-99999999))) rfl), trivial⟩
    have h265 : 1 ≤ f_an ∧ f_an ≤ 1000 := (vc_X3_toldOfRow_10 h263 hq0 q209 ht_f_an ht_f_wd hp1 h210)
    refine sv_aload_n (pc := 121) dX3_toldOfRow_121 rfl rfl ?_
    refine gf_X3_11 (pc := 122) dX3_toldOfRow_122 wF_X3_35 (A_76 hw) hT ?_
    refine sv_aload_n (pc := 125) dX3_toldOfRow_125 rfl rfl ?_
    refine gk_X3_13 (pc := 126) dX3_toldOfRow_126 wF_X3_63 (A_76 hw) q_f_wd ?_
    refine mr_iload_n (pc := 129) (z := z208) dX3_toldOfRow_129 rfl rfl ?_
    refine mr_iadd (pc := 130) (x := f_wd) (y := z208) dX3_toldOfRow_130 ?_
    refine la_85 (pc := 131) dX3_toldOfRow_131 (A_85 hw) hT (vc_X3_toldOfRow_14 hq0 q209 h263 q212 h265 ht_f_wd hp1 h210 h257) fun z266 q267 h268 => ?_
    refine sv_goto (pc := 132) (tgt := 137) dX3_toldOfRow_132 (by decide) ?_
    exact mr_iretP dX3_toldOfRow_137 rfl (le_t rfl) (le_t rfl) ⟨h268, trivial⟩
  have h269 : 5 ≤ z211 ∧ z211 ≤ 21474836 := (vc_X3_toldOfRow_15 h256 q212 h214 h228 h242 hp1 h255)
  by_cases h270 : z211 = 5
  · refine mr_tableIn (pc := 9) (v := 5) (tgt := 138) dX3_toldOfRow_9 h270 rfl rfl (by decide) ?_
    have h271 : 5 ≤ z211 ∧ z211 ≤ 5 := (vc_X3_toldOfRow_16 h270 q212 h214 h228 h242 h256 hp1 h269)
    refine mr_iload_n (pc := 138) (z := z208) dX3_toldOfRow_138 rfl rfl ?_
    refine sv_aload_n (pc := 139) dX3_toldOfRow_139 rfl rfl ?_
    refine gf_X3_9 (pc := 140) dX3_toldOfRow_140 wF_X3_28 (A_76 hw) hT ?_
    refine gf_X7_7 (pc := 143) dX3_toldOfRow_143 wF_X3_147 (A_81 hw) hT fun z272 q273 h274 => ?_
    refine mr_icmp_ge (pc := 146) (tgt := 161) dX3_toldOfRow_146 (by decide) (r32 h210 rfl) (r32 h274 rfl) (fun h281 => ?_) (fun h281 => ?_)
    · refine mr_ldc (pc := 161) (z := (-99999999)) dX3_toldOfRow_161 wG_X3_21 (by decide) ?_
      exact mr_iretP dX3_toldOfRow_163 rfl (le_t rfl) (le_t rfl) ⟨(rW (c := (-2147483648)) (d := 2147483647) (rR (x := (-99999999))) rfl), trivial⟩
    have h282 : 0 ≤ z208 ∧ z208 ≤ 19 := (vc_X3_toldOfRow_17 h281 q209 hp1 h210 h274)
    have h283 : 1 ≤ z272 ∧ z272 ≤ 20 := (vc_X3_toldOfRow_18 h281 q209 hp1 h282 h274)
    refine sv_aload_n (pc := 149) dX3_toldOfRow_149 rfl rfl ?_
    refine gf_X3_9 (pc := 150) dX3_toldOfRow_150 wF_X3_28 (A_76 hw) hT ?_
    refine gf_X7_0 (pc := 153) dX3_toldOfRow_153 wF_X3_140 (A_81 hw) hT fun A284 => ?_
    refine mr_iload_n (pc := 156) (z := z208) dX3_toldOfRow_156 rfl rfl ?_
    refine la_201 (pc := 157) dX3_toldOfRow_157 A284 hT (rIx (n := 20) h282 rfl) fun z285 q286 h287 => ?_
    refine sv_goto (pc := 158) (tgt := 163) dX3_toldOfRow_158 (by decide) ?_
    exact mr_iretP dX3_toldOfRow_163 rfl (le_t rfl) (le_t rfl) ⟨h287, trivial⟩
  have h288 : 6 ≤ z211 ∧ z211 ≤ 21474836 := (vc_X3_toldOfRow_19 h270 q212 h214 h228 h242 h256 hp1 h269)
  by_cases h289 : z211 = 6
  · refine mr_tableIn (pc := 9) (v := 6) (tgt := 164) dX3_toldOfRow_9 h289 rfl rfl (by decide) ?_
    have h290 : 6 ≤ z211 ∧ z211 ≤ 6 := (vc_X3_toldOfRow_20 h289 q212 h214 h228 h242 h256 h270 hp1 h288)
    refine mr_iload_n (pc := 164) (z := z208) dX3_toldOfRow_164 rfl rfl ?_
    refine sv_aload_n (pc := 165) dX3_toldOfRow_165 rfl rfl ?_
    refine gf_X3_6 (pc := 166) dX3_toldOfRow_166 wF_X3_59 (A_76 hw) hT fun z291 q292 h293 => ?_
    refine mr_icmp_ge (pc := 169) (tgt := 181) dX3_toldOfRow_169 (by decide) (r32 h210 rfl) (r32 h293 rfl) (fun h299 => ?_) (fun h299 => ?_)
    · refine mr_ldc (pc := 181) (z := (-99999999)) dX3_toldOfRow_181 wG_X3_21 (by decide) ?_
      exact mr_iretP dX3_toldOfRow_183 rfl (le_t rfl) (le_t rfl) ⟨(rW (c := (-2147483648)) (d := 2147483647) (rR (x := (-99999999))) rfl), trivial⟩
    have h300 : 0 ≤ z208 ∧ z208 ≤ 7 := (vc_X3_toldOfRow_21 h299 q209 hp1 h210 h293)
    have h301 : 1 ≤ z291 ∧ z291 ≤ 8 := (vc_X3_toldOfRow_22 h299 q209 hp1 h300 h293)
    refine sv_aload_n (pc := 172) dX3_toldOfRow_172 rfl rfl ?_
    refine gf_X3_2 (pc := 173) dX3_toldOfRow_173 wF_X3_18 (A_76 hw) hT ?_
    refine mr_iload_n (pc := 176) (z := z208) dX3_toldOfRow_176 rfl rfl ?_
    refine la_79 (pc := 177) dX3_toldOfRow_177 (A_79 hw) hT (rIx (n := 8) h300 rfl) fun z302 q303 h304 => ?_
    refine sv_goto (pc := 178) (tgt := 183) dX3_toldOfRow_178 (by decide) ?_
    exact mr_iretP dX3_toldOfRow_183 rfl (le_t rfl) (le_t rfl) ⟨h304, trivial⟩
  have h305 : 7 ≤ z211 ∧ z211 ≤ 21474836 := (vc_X3_toldOfRow_23 h289 q212 h214 h228 h242 h256 h270 hp1 h288)
  refine mr_tableOut (pc := 9) (tgt := 184) dX3_toldOfRow_9 (r32 h305 rfl) (vc_X3_toldOfRow_24 q212 h214 h228 h242 h256 h270 h289 q209 hp1 h210 h305) (by decide) ?_
  refine mr_iload_n (pc := 184) (z := p1) dX3_toldOfRow_184 rfl rfl ?_
  refine mr_sipush (pc := 185) (z := 700) dX3_toldOfRow_185 (by decide) ?_
  refine mr_isub (pc := 188) (x := p1) (y := 700) dX3_toldOfRow_188 ?_
  refine sv_aload_n (pc := 189) dX3_toldOfRow_189 rfl rfl ?_
  refine gf_X3_5 (pc := 190) dX3_toldOfRow_190 wF_X3_79 (A_76 hw) hT fun z306 q307 h308 => ?_
  refine mr_icmp_ge (pc := 193) (tgt := 209) dX3_toldOfRow_193 (by decide) (r32 (rSub (e := (-600)) (f := 2147482947) hp1 (rR (x := 700)) rfl) rfl) (r32 h308 rfl) (fun h314 => ?_) (fun h314 => ?_)
  · have h315 : 700 ≤ p1 ∧ p1 ≤ 2147483647 := (vc_X3_toldOfRow_25 h314 q209 q212 hp1 h210 h305 h308)
    refine mr_ldc (pc := 209) (z := (-99999999)) dX3_toldOfRow_209 wG_X3_21 (by decide) ?_
    exact mr_iretP dX3_toldOfRow_211 rfl (le_t rfl) (le_t rfl) ⟨(rW (c := (-2147483648)) (d := 2147483647) (rR (x := (-99999999))) rfl), trivial⟩
  have h316 : 100 ≤ p1 ∧ p1 ≤ 955 := (vc_X3_toldOfRow_26 h314 q209 q212 hp1 h210 h305 h308)
  refine sv_aload_n (pc := 196) dX3_toldOfRow_196 rfl rfl ?_
  refine gf_X3_1 (pc := 197) dX3_toldOfRow_197 wF_X3_15 (A_76 hw) hT ?_
  refine mr_iload_n (pc := 200) (z := p1) dX3_toldOfRow_200 rfl rfl ?_
  refine mr_sipush (pc := 201) (z := 700) dX3_toldOfRow_201 (by decide) ?_
  refine mr_isub (pc := 204) (x := p1) (y := 700) dX3_toldOfRow_204 ?_
  refine la_78 (pc := 205) dX3_toldOfRow_205 (A_78 hw) hT (vc_X3_toldOfRow_27 q209 q212 h314 h214 h228 h242 h256 h270 h289 h316 h210 h305 h308) fun z317 q318 h319 => ?_
  refine sv_goto (pc := 206) (tgt := 211) dX3_toldOfRow_206 (by decide) ?_
  exact mr_iretP dX3_toldOfRow_211 rfl (le_t rfl) (le_t rfl) ⟨h319, trivial⟩
theorem vc_X3_told_1 {z77 : Int} (h0 : z77 = 0) (h1 : 0 ≤ z77 ∧ z77 ≤ 1) : 0 ≤ z77 ∧ z77 ≤ 0 := by omega
theorem vc_X3_told_2 {z77 : Int} (h0 : ¬ z77 = 0) (h1 : 0 ≤ z77 ∧ z77 ≤ 1) : 1 ≤ z77 ∧ z77 ≤ 1 := by omega
theorem vc_X3_told_3 {p1 : Int} (h0 : 0 ≤ p1) (h1 : ¬ p1 = 0) (h2 : (-2147483648) ≤ p1 ∧ p1 ≤ 2147483647) : 0 ≤ p1 ∧ p1 ≤ 2147483647 := by omega
theorem vc_X3_told_4 {p1 : Int} (h0 : 100 ≤ p1) (h1 : ¬ p1 = 0) (h2 : 0 ≤ p1) (h3 : 0 ≤ p1 ∧ p1 ≤ 2147483647) : 100 ≤ p1 ∧ p1 ≤ 2147483647 := by omega
theorem vc_X3_told_5 {f_an f_wd : Int} (h0 : f_wd + f_an ≤ 1000) (h1 : 0 ≤ f_an ∧ f_an ≤ 1000) (h2 : 0 ≤ f_wd ∧ f_wd ≤ 1000) : f_wd + f_an ≤ 1000 := by omega
theorem vc_X3_told_6 {p1 : Int} (h0 : p1 < 100) (h1 : ¬ p1 = 0) (h2 : 0 ≤ p1) (h3 : 0 ≤ p1 ∧ p1 ≤ 2147483647) : 0 ≤ p1 ∧ p1 ≤ 99 := by omega
theorem vc_X3_told_7 {p1 : Int} (h0 : p1 < 0) (h1 : ¬ p1 = 0) (h2 : (-2147483648) ≤ p1 ∧ p1 ≤ 2147483647) : (-2147483648) ≤ p1 ∧ p1 ≤ (-1) := by omega
theorem vc_X3_told_8 {p1 : Int} (h0 : p1 = 0) (h1 : (-2147483648) ≤ p1 ∧ p1 ≤ 2147483647) : 0 ≤ p1 ∧ p1 ≤ 0 := by omega
set_option maxRecDepth 4000 in
set_option maxHeartbeats 4000000 in
theorem c_X3_told {l : Launch} {D : va_G} {c : Nat → ClassId} {H0 : Heap} {sa : Nat × Nat × (Nat → Int32)} {w : mW} {μ : mM} (hw : mWF w) (hT : mT w μ) {p1 : Int} (hp1 : (-2147483648) ≤ p1 ∧ p1 ≤ 2147483647) {f_wd : Int} (q_f_wd : μ 76 13 = f_wd) {f_an : Int} (q_f_an : μ 76 14 = f_an) (hq0 : f_wd + f_an ≤ 1000) : sC (gG l D c H0 sa) mX3_told 2 0 0 [.ref 76, iv p1] (mk w μ) (qP w μ (fun z => ((-2147483648) ≤ z ∧ z ≤ 2147483647) ∧ True)) := by
  refine sC.of rfl (by decide) (le_t rfl) ?_
  have ht_f_wd : (0 ≤ f_wd ∧ f_wd ≤ 1000) := by rw [← q_f_wd]; exact hT 76 76 (A_76 hw) 13
  have ht_f_an : (0 ≤ f_an ∧ f_an ≤ 1000) := by rw [← q_f_an]; exact hT 76 76 (A_76 hw) 14
  refine mr_lvE (lv' := [(0, .ref 76), (1, iv p1)]) rfl ?_
  refine mr_iload_n (pc := 0) (z := p1) dX3_told_0 rfl rfl ?_
  refine mr_if_ne (pc := 1) (tgt := 9) dX3_told_1 (by decide) hp1 (fun h76 => ?_) (fun h76 => ?_)
  · refine sv_aload_n (pc := 9) dX3_told_9 rfl rfl ?_
    refine gf_X3_16 (pc := 10) dX3_told_10 wF_X3_51 (A_76 hw) hT fun z77 q78 h79 => ?_
    refine mr_if_eq (pc := 13) (tgt := 20) dX3_told_13 (by decide) (r32 h79 rfl) (fun h80 => ?_) (fun h80 => ?_)
    · have h81 : 0 ≤ z77 ∧ z77 ≤ 0 := (vc_X3_told_1 h80 h79)
      refine mr_ldc (pc := 20) (z := (-99999999)) dX3_told_20 wG_X3_21 (by decide) ?_
      exact mr_iretP dX3_told_22 rfl (le_t rfl) (le_t rfl) ⟨(rW (c := (-2147483648)) (d := 2147483647) (rR (x := (-99999999))) rfl), trivial⟩
    have h82 : 1 ≤ z77 ∧ z77 ≤ 1 := (vc_X3_told_2 h80 h79)
    refine mr_iload_n (pc := 16) (z := p1) dX3_told_16 rfl rfl ?_
    refine mr_if_ge (pc := 17) (tgt := 23) dX3_told_17 (by decide) hp1 (fun h83 => ?_) (fun h83 => ?_)
    · have h84 : 0 ≤ p1 ∧ p1 ≤ 2147483647 := (vc_X3_told_3 h83 h76 hp1)
      refine mr_iload_n (pc := 23) (z := p1) dX3_told_23 rfl rfl ?_
      refine mr_bipush (pc := 24) (z := 100) dX3_told_24 (by decide) ?_
      refine mr_icmp_ge (pc := 26) (tgt := 37) dX3_told_26 (by decide) (r32 h84 rfl) (r32 (rR (x := 100)) rfl) (fun h97 => ?_) (fun h97 => ?_)
      · have h98 : 100 ≤ p1 ∧ p1 ≤ 2147483647 := (vc_X3_told_4 h97 h76 h83 h84)
        refine sv_aload_n (pc := 37) dX3_told_37 rfl rfl ?_
        refine mr_iload_n (pc := 38) (z := p1) dX3_told_38 rfl rfl ?_
        refine mr_cVP (pc := 39) (c_X3_toldOfRow hw hT h98 q_f_wd q_f_an (vc_X3_told_5 hq0 ht_f_an ht_f_wd)) (gOk _ _ _ _ _) dX3_told_39 (tX3_toldOfRow _ _ _ _ _) ⟨wV_X3_toldOfRow, wL_X3_toldOfRow⟩ wM_X3_160 (gCX3 _ _ _ _ _) rfl (A_76 hw) rfl ⟨le_t rfl, le_t rfl⟩ ⟨le_t rfl, le_t rfl⟩ rfl (le_t rfl) fun z103 h102 => ?_
        exact mr_iretP dX3_told_42 rfl (le_t rfl) (le_t rfl) ⟨h102.1, trivial⟩
      have h104 : 0 ≤ p1 ∧ p1 ≤ 99 := (vc_X3_told_6 h97 h76 h83 h84)
      refine sv_aload_n (pc := 29) dX3_told_29 rfl rfl ?_
      refine mr_iload_n (pc := 30) (z := p1) dX3_told_30 rfl rfl ?_
      refine mr_cVP (pc := 31) (c_X3_toldInAll hw hT (rW (c := (-2147483648)) (d := 2147483647) h104 rfl)) (gOk _ _ _ _ _) dX3_told_31 (tX3_toldInAll _ _ _ _ _) ⟨wV_X3_toldInAll, wL_X3_toldInAll⟩ wM_X3_157 (gCX3 _ _ _ _ _) rfl (A_76 hw) rfl ⟨le_t rfl, le_t rfl⟩ ⟨le_t rfl, le_t rfl⟩ rfl (le_t rfl) fun z109 h108 => ?_
      refine sv_goto (pc := 34) (tgt := 42) dX3_told_34 (by decide) ?_
      exact mr_iretP dX3_told_42 rfl (le_t rfl) (le_t rfl) ⟨h108.1, trivial⟩
    have h110 : (-2147483648) ≤ p1 ∧ p1 ≤ (-1) := (vc_X3_told_7 h83 h76 hp1)
    refine mr_ldc (pc := 20) (z := (-99999999)) dX3_told_20 wG_X3_21 (by decide) ?_
    exact mr_iretP dX3_told_22 rfl (le_t rfl) (le_t rfl) ⟨(rW (c := (-2147483648)) (d := 2147483647) (rR (x := (-99999999))) rfl), trivial⟩
  have h111 : 0 ≤ p1 ∧ p1 ≤ 0 := (vc_X3_told_8 h76 hp1)
  refine sv_aload_n (pc := 4) dX3_told_4 rfl rfl ?_
  refine mr_cVP (pc := 5) (c_X3_placeTold hw hT) (gOk _ _ _ _ _) dX3_told_5 (tX3_placeTold _ _ _ _ _) ⟨wV_X3_placeTold, wL_X3_placeTold⟩ wM_X3_153 (gCX3 _ _ _ _ _) rfl (A_76 hw) rfl ⟨le_t rfl, le_t rfl⟩ ⟨le_t rfl, le_t rfl⟩ rfl (le_t rfl) fun z116 h115 => ?_
  exact mr_iretP dX3_told_8 rfl (le_t rfl) (le_t rfl) ⟨h115.1, trivial⟩
theorem vc_X11_part_1 {f_an f_wd : Int} (h0 : f_wd + f_an ≤ 1000) (h1 : 0 ≤ f_an ∧ f_an ≤ 1000) (h2 : 0 ≤ f_wd ∧ f_wd ≤ 1000) : f_wd + f_an ≤ 1000 := by omega
set_option maxRecDepth 4000 in
set_option maxHeartbeats 4000000 in
theorem c_X11_part {l : Launch} {D : va_G} {c : Nat → ClassId} {H0 : Heap} {sa : Nat × Nat × (Nat → Int32)} {w : mW} {μ : mM} (hw : mWF w) (hT : mT w μ) {p1 : Int} (hp1 : (-2147483648) ≤ p1 ∧ p1 ≤ 2147483647) {f_wd : Int} (q_f_wd : μ 76 13 = f_wd) {f_an : Int} (q_f_an : μ 76 14 = f_an) (hq0 : f_wd + f_an ≤ 1000) : sC (gG l D c H0 sa) mX11_part 3 0 0 [.ref 0, iv p1] (mk w μ) (qP w μ (fun z => ((-2147483648) ≤ z ∧ z ≤ 2147483647) ∧ True)) := by
  refine sC.of rfl (by decide) (le_t rfl) ?_
  have ht_f_wd : (0 ≤ f_wd ∧ f_wd ≤ 1000) := by rw [← q_f_wd]; exact hT 76 76 (A_76 hw) 13
  have ht_f_an : (0 ≤ f_an ∧ f_an ≤ 1000) := by rw [← q_f_an]; exact hT 76 76 (A_76 hw) 14
  refine mr_lvE (lv' := [(0, .ref 0), (1, iv p1)]) rfl ?_
  refine sv_aload_n (pc := 0) dX11_part_0 rfl rfl ?_
  refine gf_X11_7 (pc := 1) dX11_part_1 wF_X11_58 (A_0 hw) hT ?_
  refine mr_iload_n (pc := 4) (z := p1) dX11_part_4 rfl rfl ?_
  refine mr_cVP (pc := 5) (c_X3_told hw hT hp1 q_f_wd q_f_an (vc_X11_part_1 hq0 ht_f_an ht_f_wd)) (gOk _ _ _ _ _) dX11_part_5 (tX3_told _ _ _ _ _) ⟨wV_X3_told, wL_X3_told⟩ wM_X11_341 (gCX3 _ _ _ _ _) rfl (A_76 hw) rfl ⟨le_t rfl, le_t rfl⟩ ⟨le_t rfl, le_t rfl⟩ rfl (le_t rfl) fun z20 h19 => ?_
  exact mr_iretP dX11_part_8 rfl (le_t rfl) (le_t rfl) ⟨h19.1, trivial⟩
theorem vc_X3_putNumber_1 {z43 : Int} (h0 : (z43 - (-2)) < ((0 : Nat) : Int)) (h1 : (-1) ≤ z43 ∧ z43 ≤ 3) : False := by omega
theorem vc_X3_putNumber_2 {z43 : Int} (h0 : z43 < 0) (h1 : (-1) ≤ z43 ∧ z43 ≤ 3) : (-1) ≤ z43 ∧ z43 ≤ (-1) := by omega
theorem vc_X3_putNumber_3 {z43 : Int} (h0 : 0 ≤ z43) (h1 : (-1) ≤ z43 ∧ z43 ≤ 3) : 0 ≤ z43 ∧ z43 ≤ 3 := by omega
theorem vc_X3_putNumber_4 {z74 : Int} (h0 : 256 ≤ z74) (h1 : 0 ≤ z74 ∧ z74 ≤ 256) : 256 ≤ z74 ∧ z74 ≤ 256 := by omega
theorem vc_X3_putNumber_5 {z74 : Int} (h0 : z74 < 256) (h1 : 0 ≤ z74 ∧ z74 ≤ 256) : 0 ≤ z74 ∧ z74 ≤ 255 := by omega
theorem vc_X3_putNumber_6 {N z43 : Int} (h0 : (z43 - (-2)) < N + 1) (h1 : 0 ≤ z43) (h2 : 0 ≤ z43 ∧ z43 ≤ 3) : ((z43 + (-1)) - (-2)) < N := by omega
theorem vc_X3_putNumber_7 {p2 : Int} (h0 : 0 ≤ p2 ∧ p2 ≤ 4) : ((p2 - 1) - (-2)) < ((6 : Nat) : Int) := by omega
set_option maxRecDepth 4000 in
set_option maxHeartbeats 4000000 in
theorem c_X3_putNumber {l : Launch} {D : va_G} {c : Nat → ClassId} {H0 : Heap} {sa : Nat × Nat × (Nat → Int32)} {w : mW} {μ : mM} (hw : mWF w) (hT : mT w μ) {p1 : Int} (hp1 : (-2147483648) ≤ p1 ∧ p1 ≤ 2147483647) {p2 : Int} (hp2 : 0 ≤ p2 ∧ p2 ≤ 4) : sC (gG l D c H0 sa) mX3_putNumber 1 0 0 [.ref 76, iv p1, iv p2] (mk w μ) (qV w [76015, 86999] μ (fun μ1 => True)) := by
  refine sC.of rfl (by decide) (le_t rfl) ?_
  refine mr_lvE (lv' := [(0, .ref 76), (1, iv p1), (2, iv p2)]) rfl ?_
  refine mr_iload_n (pc := 0) (z := p2) dX3_putNumber_0 rfl rfl ?_
  refine mr_iconst (pc := 1) (z := 1) dX3_putNumber_1 ?_
  refine mr_isub (pc := 2) (x := p2) (y := 1) dX3_putNumber_2 ?_
  refine mr_istore_n (pc := 3) (lv' := [(3, iv (p2 - 1)), (0, .ref 76), (1, iv p1), (2, iv p2)]) dX3_putNumber_3 rfl (by decide) rfl ?_
  have L45 : ∀ (nL45 : Nat) (z43 : Int) (μ44 : mM), mT w μ44 → mF [76015, 86999] w μ μ44 → ((-1) ≤ z43 ∧ z43 ≤ 3) → (z43 - (-2)) < (nL45 : Int) → sV (gG l D c H0 sa) mX3_putNumber (sRm 1 0 0) (sZ (gG l D c H0 sa) 0 0 (qV w [76015, 86999] μ (fun μ1 => True))) 4 [(0, .ref 76), (1, iv p1), (3, iv z43)] [] (mk w μ44) 0 0 := by
    intro nL45
    induction nL45 with
    | zero => intro z43 μ44 T47 F48 h46 h50; exact ((vc_X3_putNumber_1 h50 h46)).elim
    | succ nL45 ih51 =>
      intro z43 μ44 T47 F48 h46 h50
      refine mr_iload_n (pc := 4) (z := z43) dX3_putNumber_4 rfl rfl ?_
      refine mr_if_lt (pc := 5) (tgt := 53) dX3_putNumber_5 (by decide) (r32 h46 rfl) (fun h71 => ?_) (fun h71 => ?_)
      · have h72 : (-1) ≤ z43 ∧ z43 ≤ (-1) := (vc_X3_putNumber_2 h71 h46)
        exact mr_vret dX3_putNumber_53 rfl (le_t rfl) (le_t rfl) T47 (mF.call mF.refl F48 rfl) trivial
      have h73 : 0 ≤ z43 ∧ z43 ≤ 3 := (vc_X3_putNumber_3 h71 h46)
      refine sv_aload_n (pc := 8) dX3_putNumber_8 rfl rfl ?_
      refine gf_X3_15 (pc := 9) dX3_putNumber_9 wF_X3_163 (A_76 hw) T47 fun z74 q75 h76 => ?_
      refine mr_sipush (pc := 12) (z := 256) dX3_putNumber_12 (by decide) ?_
      refine mr_icmp_ge (pc := 15) (tgt := 53) dX3_putNumber_15 (by decide) (r32 h76 rfl) (r32 (rR (x := 256)) rfl) (fun h91 => ?_) (fun h91 => ?_)
      · have h92 : 256 ≤ z74 ∧ z74 ≤ 256 := (vc_X3_putNumber_4 h91 h76)
        exact mr_vret dX3_putNumber_53 rfl (le_t rfl) (le_t rfl) T47 (mF.call mF.refl F48 rfl) trivial
      have h93 : 0 ≤ z74 ∧ z74 ≤ 255 := (vc_X3_putNumber_5 h91 h76)
      refine sv_aload_n (pc := 18) dX3_putNumber_18 rfl rfl ?_
      refine gf_X3_12 (pc := 19) dX3_putNumber_19 wF_X3_38 (A_76 hw) T47 ?_
      refine sv_aload_n (pc := 22) dX3_putNumber_22 rfl rfl ?_
      refine gk_X3_15 (pc := 23) dX3_putNumber_23 wF_X3_163 (A_76 hw) q75 ?_
      refine mr_iload_n (pc := 26) (z := p1) dX3_putNumber_26 rfl rfl ?_
      refine mr_bipush (pc := 27) (z := 8) dX3_putNumber_27 (by decide) ?_
      refine mr_iload_n (pc := 29) (z := z43) dX3_putNumber_29 rfl rfl ?_
      refine mr_imul (pc := 30) (x := 8) (y := z43) dX3_putNumber_30 ?_
      refine mr_iushr (pc := 31) (x := p1) (y := (8 * z43)) dX3_putNumber_31 ?_
      refine mr_gen (P := fun z => (-2147483648) ≤ z ∧ z ≤ 2147483647) (r32i _) fun z94 q95 h96 => ?_
      refine mr_sipush (pc := 32) (z := 255) dX3_putNumber_32 (by decide) ?_
      refine mr_iand (pc := 35) (x := z94) (y := 255) dX3_putNumber_35 ?_
      refine mr_gen (P := fun z => 0 ≤ z ∧ z ≤ 255) (rAndR (rR (x := 255)) rfl) fun z97 q98 h99 => ?_
      refine ss_86 (pc := 36) dX3_putNumber_36 (A_86 hw) T47 (rIx (n := 256) h93 rfl) (rW (c := (-2147483648)) (d := 2147483647) h99 rfl) fun μ100 u101 T102 => ?_
      refine sv_aload_n (pc := 37) dX3_putNumber_37 rfl rfl ?_
      refine sv_dup (pc := 38) dX3_putNumber_38 rfl ?_
      refine gk_X3_15 (pc := 39) dX3_putNumber_39 wF_X3_163 (A_76 hw) (u101.f (Or.inl (mAt.ne (A_86 hw) (A_76 hw) rfl)) q75) ?_
      refine mr_iconst (pc := 42) (z := 1) dX3_putNumber_42 ?_
      refine mr_iadd (pc := 43) (x := z74) (y := 1) dX3_putNumber_43 ?_
      refine pf_X3_15 (pc := 44) dX3_putNumber_44 wF_X3_163 (A_76 hw) T102 (rW (c := 0) (d := 256) (rAdd (e := 1) (f := 256) h93 (rR (x := 1)) rfl) rfl) fun μ103 u104 T105 => ?_
      refine mr_iinc (pc := 47) (lv' := [(3, iv (z43 + (-1))), (0, .ref 76), (1, iv p1)]) dX3_putNumber_47 rfl (by decide) rfl ?_
      refine sv_goto (pc := 50) (tgt := 4) dX3_putNumber_50 (by decide) ?_
      refine mr_lvS (lv' := [(0, .ref 76), (1, iv p1), (3, iv (z43 + (-1)))]) (List.forall_mem_cons.mpr ⟨rfl, List.forall_mem_cons.mpr ⟨rfl, List.forall_mem_cons.mpr ⟨rfl, fun _ h => absurd h List.not_mem_nil⟩⟩⟩) ?_
      exact ih51 (z43 + (-1)) μ103 T105 (mF.up (mF.up (mF.call mF.refl F48 rfl) (A_86 hw) u101 rfl) (A_76 hw) u104 rfl) (rW (c := (-1)) (d := 3) (rAdd (e := (-1)) (f := 2) h73 (rR (x := (-1))) rfl) rfl) (vc_X3_putNumber_6 (nS h50) h71 h73)
  refine mr_lvS (lv' := [(0, .ref 76), (1, iv p1), (3, iv (p2 - 1))]) (List.forall_mem_cons.mpr ⟨rfl, List.forall_mem_cons.mpr ⟨rfl, List.forall_mem_cons.mpr ⟨rfl, fun _ h => absurd h List.not_mem_nil⟩⟩⟩) ?_
  exact L45 6 (p2 - 1) μ hT mF.refl (rSub (e := (-1)) (f := 3) hp2 (rR (x := 1)) rfl) (vc_X3_putNumber_7 hp2)
set_option maxRecDepth 4000 in
set_option maxHeartbeats 4000000 in
theorem c_X3_putHead {l : Launch} {D : va_G} {c : Nat → ClassId} {H0 : Heap} {sa : Nat × Nat × (Nat → Int32)} {w : mW} {μ : mM} (hw : mWF w) (hT : mT w μ) {p1 : Int} (hp1 : (-2147483648) ≤ p1 ∧ p1 ≤ 2147483647) {p2 : Int} (hp2 : (-2147483648) ≤ p2 ∧ p2 ≤ 2147483647) {p3 : Int} (hp3 : (-2147483648) ≤ p3 ∧ p3 ≤ 2147483647) : sC (gG l D c H0 sa) mX3_putHead 2 0 0 [.ref 76, iv p1, iv p2, iv p3] (mk w μ) (qV w [76015, 86999] μ (fun μ1 => True)) := by
  refine sC.of rfl (by decide) (le_t rfl) ?_
  refine mr_lvE (lv' := [(0, .ref 76), (1, iv p1), (2, iv p2), (3, iv p3)]) rfl ?_
  refine sv_aload_n (pc := 0) dX3_putHead_0 rfl rfl ?_
  refine mr_iload_n (pc := 1) (z := p1) dX3_putHead_1 rfl rfl ?_
  refine mr_iconst (pc := 2) (z := 1) dX3_putHead_2 ?_
  refine mr_cVV (pc := 3) (c_X3_putNumber hw hT hp1 (rW (c := 0) (d := 4) (rR (x := 1)) rfl)) (gOk _ _ _ _ _) dX3_putHead_3 (tX3_putNumber _ _ _ _ _) ⟨wV_X3_putNumber, wL_X3_putNumber⟩ wM_X3_169 (gCX3 _ _ _ _ _) rfl (A_76 hw) rfl ⟨le_t rfl, le_t rfl⟩ ⟨le_t rfl, le_t rfl⟩ rfl (le_t rfl) fun μ1 T2 F3 h4 => ?_
  refine sv_aload_n (pc := 6) dX3_putHead_6 rfl rfl ?_
  refine mr_iload_n (pc := 7) (z := p2) dX3_putHead_7 rfl rfl ?_
  refine mr_iconst (pc := 8) (z := 1) dX3_putHead_8 ?_
  refine mr_cVV (pc := 9) (c_X3_putNumber hw T2 hp2 (rW (c := 0) (d := 4) (rR (x := 1)) rfl)) (gOk _ _ _ _ _) dX3_putHead_9 (tX3_putNumber _ _ _ _ _) ⟨wV_X3_putNumber, wL_X3_putNumber⟩ wM_X3_169 (gCX3 _ _ _ _ _) rfl (A_76 hw) rfl ⟨le_t rfl, le_t rfl⟩ ⟨le_t rfl, le_t rfl⟩ rfl (le_t rfl) fun μ5 T6 F7 h8 => ?_
  refine sv_aload_n (pc := 12) dX3_putHead_12 rfl rfl ?_
  refine mr_iload_n (pc := 13) (z := p3) dX3_putHead_13 rfl rfl ?_
  refine mr_iconst (pc := 14) (z := 1) dX3_putHead_14 ?_
  refine mr_cVV (pc := 15) (c_X3_putNumber hw T6 hp3 (rW (c := 0) (d := 4) (rR (x := 1)) rfl)) (gOk _ _ _ _ _) dX3_putHead_15 (tX3_putNumber _ _ _ _ _) ⟨wV_X3_putNumber, wL_X3_putNumber⟩ wM_X3_169 (gCX3 _ _ _ _ _) rfl (A_76 hw) rfl ⟨le_t rfl, le_t rfl⟩ ⟨le_t rfl, le_t rfl⟩ rfl (le_t rfl) fun μ9 T10 F11 h12 => ?_
  exact mr_vret dX3_putHead_18 rfl (le_t rfl) (le_t rfl) T10 (mF.call (mF.call (mF.call mF.refl F3 rfl) F7 rfl) F11 rfl) trivial
theorem vc_X3_putPrefix_1  : (0 : Int) < (8 : Int) ∧ (8 : Int) ≤ (2147483647 : Int) := by omega
theorem vc_X3_putPrefix_2 {z74 : Int} (h0 : (5 - z74) < ((0 : Nat) : Int)) (h1 : 0 ≤ z74 ∧ z74 ≤ 4) : False := by omega
theorem vc_X3_putPrefix_3 {p2 z5 z74 : Int} (h0 : z74 < z5) (h1 : (p2 + 7) / 8 = z5) (h2 : 0 ≤ p2 ∧ p2 ≤ 32) (h3 : 0 ≤ z5 ∧ z5 ≤ 4) (h4 : 0 ≤ z74 ∧ z74 ≤ 4) : 0 ≤ z74 ∧ z74 ≤ 3 := by omega
theorem vc_X3_putPrefix_4 {p2 z5 z74 : Int} (h0 : z74 < z5) (h1 : (p2 + 7) / 8 = z5) (h2 : 0 ≤ p2 ∧ p2 ≤ 32) (h3 : 0 ≤ z5 ∧ z5 ≤ 4) (h4 : 0 ≤ z74 ∧ z74 ≤ 3) : 1 ≤ z5 ∧ z5 ≤ 4 := by omega
theorem vc_X3_putPrefix_5 {N p2 z5 z74 : Int} (h0 : (5 - z74) < N + 1) (h1 : z74 < z5) (h2 : (p2 + 7) / 8 = z5) (h3 : 0 ≤ p2 ∧ p2 ≤ 32) (h4 : 1 ≤ z5 ∧ z5 ≤ 4) (h5 : 0 ≤ z74 ∧ z74 ≤ 3) : (5 - (z74 + 1)) < N := by omega
theorem vc_X3_putPrefix_6  : (5 - 0) < ((6 : Nat) : Int) := by omega
set_option maxRecDepth 4000 in
set_option maxHeartbeats 4000000 in
theorem c_X3_putPrefix {l : Launch} {D : va_G} {c : Nat → ClassId} {H0 : Heap} {sa : Nat × Nat × (Nat → Int32)} {w : mW} {μ : mM} (hw : mWF w) (hT : mT w μ) {p1 : Int} (hp1 : (-2147483648) ≤ p1 ∧ p1 ≤ 2147483647) {p2 : Int} (hp2 : 0 ≤ p2 ∧ p2 ≤ 32) : sC (gG l D c H0 sa) mX3_putPrefix 2 0 0 [.ref 76, iv p1, iv p2] (mk w μ) (qV w [76015, 86999] μ (fun μ1 => True)) := by
  refine sC.of rfl (by decide) (le_t rfl) ?_
  refine mr_lvE (lv' := [(0, .ref 76), (1, iv p1), (2, iv p2)]) rfl ?_
  refine sv_aload_n (pc := 0) dX3_putPrefix_0 rfl rfl ?_
  refine mr_iload_n (pc := 1) (z := p2) dX3_putPrefix_1 rfl rfl ?_
  refine mr_iconst (pc := 2) (z := 1) dX3_putPrefix_2 ?_
  refine mr_cVV (pc := 3) (c_X3_putNumber hw hT (rW (c := (-2147483648)) (d := 2147483647) hp2 rfl) (rW (c := 0) (d := 4) (rR (x := 1)) rfl)) (gOk _ _ _ _ _) dX3_putPrefix_3 (tX3_putNumber _ _ _ _ _) ⟨wV_X3_putNumber, wL_X3_putNumber⟩ wM_X3_169 (gCX3 _ _ _ _ _) rfl (A_76 hw) rfl ⟨le_t rfl, le_t rfl⟩ ⟨le_t rfl, le_t rfl⟩ rfl (le_t rfl) fun μ1 T2 F3 h4 => ?_
  refine mr_iload_n (pc := 6) (z := p2) dX3_putPrefix_6 rfl rfl ?_
  refine mr_bipush (pc := 7) (z := 7) dX3_putPrefix_7 (by decide) ?_
  refine mr_iadd (pc := 9) (x := p2) (y := 7) dX3_putPrefix_9 ?_
  refine mr_bipush (pc := 10) (z := 8) dX3_putPrefix_10 (by decide) ?_
  refine mr_idiv (pc := 12) (x := (p2 + 7)) (y := 8) dX3_putPrefix_12 (rW (c := 0) (d := 2147483647) (rAdd (e := 7) (f := 39) hp2 (rR (x := 7)) rfl) rfl) vc_X3_putPrefix_1 ?_
  refine mr_gen (P := fun z => 0 ≤ z ∧ z ≤ 4) (rDiv (rAdd (e := 7) (f := 39) hp2 (rR (x := 7)) rfl) rfl) fun z5 q6 h7 => ?_
  refine mr_istore_n (pc := 13) (lv' := [(3, iv z5), (0, .ref 76), (1, iv p1), (2, iv p2)]) dX3_putPrefix_13 rfl (by decide) rfl ?_
  refine mr_iconst (pc := 14) (z := 0) dX3_putPrefix_14 ?_
  refine mr_istore (pc := 15) (lv' := [(4, iv 0), (3, iv z5), (0, .ref 76), (1, iv p1), (2, iv p2)]) dX3_putPrefix_15 (by decide) rfl ?_
  have L76 : ∀ (nL76 : Nat) (z74 : Int) (μ75 : mM), mT w μ75 → mF [76015, 86999] w μ1 μ75 → (0 ≤ z74 ∧ z74 ≤ 4) → (5 - z74) < (nL76 : Int) → sV (gG l D c H0 sa) mX3_putPrefix (sRm 2 0 0) (sZ (gG l D c H0 sa) 0 0 (qV w [76015, 86999] μ (fun μ1 => True))) 17 [(0, .ref 76), (1, iv p1), (3, iv z5), (4, iv z74)] [] (mk w μ75) 0 0 := by
    intro nL76
    induction nL76 with
    | zero => intro z74 μ75 T78 F79 h77 h81; exact ((vc_X3_putPrefix_2 h81 h77)).elim
    | succ nL76 ih82 =>
      intro z74 μ75 T78 F79 h77 h81
      refine mr_iload (pc := 17) (z := z74) dX3_putPrefix_17 rfl ?_
      refine mr_iload_n (pc := 19) (z := z5) dX3_putPrefix_19 rfl rfl ?_
      refine mr_icmp_ge (pc := 20) (tgt := 44) dX3_putPrefix_20 (by decide) (r32 h77 rfl) (r32 h7 rfl) (fun h92 => ?_) (fun h92 => ?_)
      · exact mr_vret dX3_putPrefix_44 rfl (le_t rfl) (le_t rfl) T78 (mF.call (mF.call mF.refl F3 rfl) F79 rfl) trivial
      have h93 : 0 ≤ z74 ∧ z74 ≤ 3 := (vc_X3_putPrefix_3 h92 q6 hp2 h7 h77)
      have h94 : 1 ≤ z5 ∧ z5 ≤ 4 := (vc_X3_putPrefix_4 h92 q6 hp2 h7 h93)
      refine sv_aload_n (pc := 23) dX3_putPrefix_23 rfl rfl ?_
      refine mr_iload_n (pc := 24) (z := p1) dX3_putPrefix_24 rfl rfl ?_
      refine mr_bipush (pc := 25) (z := 24) dX3_putPrefix_25 (by decide) ?_
      refine mr_bipush (pc := 27) (z := 8) dX3_putPrefix_27 (by decide) ?_
      refine mr_iload (pc := 29) (z := z74) dX3_putPrefix_29 rfl ?_
      refine mr_imul (pc := 31) (x := 8) (y := z74) dX3_putPrefix_31 ?_
      refine mr_isub (pc := 32) (x := 24) (y := (8 * z74)) dX3_putPrefix_32 ?_
      refine mr_iushr (pc := 33) (x := p1) (y := (24 - (8 * z74))) dX3_putPrefix_33 ?_
      refine mr_gen (P := fun z => (-2147483648) ≤ z ∧ z ≤ 2147483647) (r32i _) fun z95 q96 h97 => ?_
      refine mr_iconst (pc := 34) (z := 1) dX3_putPrefix_34 ?_
      refine mr_cVV (pc := 35) (c_X3_putNumber hw T78 h97 (rW (c := 0) (d := 4) (rR (x := 1)) rfl)) (gOk _ _ _ _ _) dX3_putPrefix_35 (tX3_putNumber _ _ _ _ _) ⟨wV_X3_putNumber, wL_X3_putNumber⟩ wM_X3_169 (gCX3 _ _ _ _ _) rfl (A_76 hw) rfl ⟨le_t rfl, le_t rfl⟩ ⟨le_t rfl, le_t rfl⟩ rfl (le_t rfl) fun μ98 T99 F100 h101 => ?_
      refine mr_iinc (pc := 38) (lv' := [(4, iv (z74 + 1)), (0, .ref 76), (1, iv p1), (3, iv z5)]) dX3_putPrefix_38 rfl (by decide) rfl ?_
      refine sv_goto (pc := 41) (tgt := 17) dX3_putPrefix_41 (by decide) ?_
      refine mr_lvS (lv' := [(0, .ref 76), (1, iv p1), (3, iv z5), (4, iv (z74 + 1))]) (List.forall_mem_cons.mpr ⟨rfl, List.forall_mem_cons.mpr ⟨rfl, List.forall_mem_cons.mpr ⟨rfl, List.forall_mem_cons.mpr ⟨rfl, fun _ h => absurd h List.not_mem_nil⟩⟩⟩⟩) ?_
      exact ih82 (z74 + 1) μ98 T99 (mF.call (mF.call mF.refl F79 rfl) F100 rfl) (rW (c := 0) (d := 4) (rAdd (e := 1) (f := 4) h93 (rR (x := 1)) rfl) rfl) (vc_X3_putPrefix_5 (nS h81) h92 q6 hp2 h94 h93)
  refine mr_lvS (lv' := [(0, .ref 76), (1, iv p1), (3, iv z5), (4, iv 0)]) (List.forall_mem_cons.mpr ⟨rfl, List.forall_mem_cons.mpr ⟨rfl, List.forall_mem_cons.mpr ⟨rfl, List.forall_mem_cons.mpr ⟨rfl, fun _ h => absurd h List.not_mem_nil⟩⟩⟩⟩) ?_
  exact L76 6 0 μ1 T2 mF.refl (rW (c := 0) (d := 4) (rR (x := 0)) rfl) vc_X3_putPrefix_6
theorem vc_X3_putAttributes_1 {z872 : Int} (h0 : (21 - z872) < ((0 : Nat) : Int)) (h1 : 0 ≤ z872 ∧ z872 ≤ 20) : False := by omega
theorem vc_X3_putAttributes_2 {z1031 : Int} (h0 : (9 - z1031) < ((0 : Nat) : Int)) (h1 : 0 ≤ z1031 ∧ z1031 ≤ 8) : False := by omega
theorem vc_X3_putAttributes_3 {z1031 z909 : Int} (h0 : z1031 < z909) (h1 : 0 ≤ z1031 ∧ z1031 ≤ 8) (h2 : 0 ≤ z909 ∧ z909 ≤ 8) : 0 ≤ z1031 ∧ z1031 ≤ 7 := by omega
theorem vc_X3_putAttributes_4 {z1031 z909 : Int} (h0 : z1031 < z909) (h1 : 0 ≤ z1031 ∧ z1031 ≤ 7) (h2 : 0 ≤ z909 ∧ z909 ≤ 8) : 1 ≤ z909 ∧ z909 ≤ 8 := by omega
theorem vc_X3_putAttributes_5 {N z1031 z909 : Int} (h0 : (9 - z1031) < N + 1) (h1 : z1031 < z909) (h2 : 0 ≤ z1031 ∧ z1031 ≤ 7) (h3 : 1 ≤ z909 ∧ z909 ≤ 8) : (9 - (z1031 + 1)) < N := by omega
theorem vc_X3_putAttributes_6  : (9 - 0) < ((10 : Nat) : Int) := by omega
theorem vc_X3_putAttributes_7 {z909 : Int} (h0 : z909 ≤ 0) (h1 : 0 ≤ z909 ∧ z909 ≤ 8) : 0 ≤ z909 ∧ z909 ≤ 0 := by omega
theorem vc_X3_putAttributes_8 {z909 : Int} (h0 : 0 < z909) (h1 : 0 ≤ z909 ∧ z909 ≤ 8) : 1 ≤ z909 ∧ z909 ≤ 8 := by omega
theorem vc_X3_putAttributes_9 {z892 : Int} (h0 : z892 = 0) (h1 : (-2147483648) ≤ z892 ∧ z892 ≤ 2147483647) : 0 ≤ z892 ∧ z892 ≤ 0 := by omega
theorem vc_X3_putAttributes_10 {z12 z872 : Int} (h0 : z872 < z12) (h1 : 0 ≤ z12 ∧ z12 ≤ 20) (h2 : 0 ≤ z872 ∧ z872 ≤ 20) : 0 ≤ z872 ∧ z872 ≤ 19 := by omega
theorem vc_X3_putAttributes_11 {z12 z872 : Int} (h0 : z872 < z12) (h1 : 0 ≤ z12 ∧ z12 ≤ 20) (h2 : 0 ≤ z872 ∧ z872 ≤ 19) : 1 ≤ z12 ∧ z12 ≤ 20 := by omega
theorem vc_X3_putAttributes_12 {N z12 z872 : Int} (h0 : (21 - z872) < N + 1) (h1 : z872 < z12) (h2 : 1 ≤ z12 ∧ z12 ≤ 20) (h3 : 0 ≤ z872 ∧ z872 ≤ 19) : (21 - (z872 + 1)) < N := by omega
theorem vc_X3_putAttributes_13  : (21 - 0) < ((22 : Nat) : Int) := by omega
set_option maxRecDepth 4000 in
set_option maxHeartbeats 4000000 in
theorem c_X3_putAttributes {l : Launch} {D : va_G} {c : Nat → ClassId} {H0 : Heap} {sa : Nat × Nat × (Nat → Int32)} {w : mW} {μ : mM} (hw : mWF w) (hT : mT w μ) {a1 : Nat} (hA1 : mAt w a1 200) : sC (gG l D c H0 sa) mX3_putAttributes 3 0 0 [.ref 76, .ref a1] (mk w μ) (qV w [76015, 86999] μ (fun μ1 => True)) := by
  refine sC.of rfl (by decide) (le_t rfl) ?_
  refine mr_lvE (lv' := [(0, .ref 76), (1, .ref a1)]) rfl ?_
  refine sv_aload_n (pc := 0) dX3_putAttributes_0 rfl rfl ?_
  refine mr_bipush (pc := 1) (z := 64) dX3_putAttributes_1 (by decide) ?_
  refine mr_iconst (pc := 3) (z := 1) dX3_putAttributes_3 ?_
  refine mr_iconst (pc := 4) (z := 1) dX3_putAttributes_4 ?_
  refine mr_cVV (pc := 5) (c_X3_putHead hw hT (rW (c := (-2147483648)) (d := 2147483647) (rR (x := 64)) rfl) (rW (c := (-2147483648)) (d := 2147483647) (rR (x := 1)) rfl) (rW (c := (-2147483648)) (d := 2147483647) (rR (x := 1)) rfl)) (gOk _ _ _ _ _) dX3_putAttributes_5 (tX3_putHead _ _ _ _ _) ⟨wV_X3_putHead, wL_X3_putHead⟩ wM_X3_179 (gCX3 _ _ _ _ _) rfl (A_76 hw) rfl ⟨le_t rfl, le_t rfl⟩ ⟨le_t rfl, le_t rfl⟩ rfl (le_t rfl) fun μ1 T2 F3 h4 => ?_
  refine sv_aload_n (pc := 8) dX3_putAttributes_8 rfl rfl ?_
  refine sv_aload_n (pc := 9) dX3_putAttributes_9 rfl rfl ?_
  refine gf_X7_5 (pc := 10) dX3_putAttributes_10 wF_X3_127 hA1 T2 fun z5 q6 h7 => ?_
  refine mr_iconst (pc := 13) (z := 1) dX3_putAttributes_13 ?_
  refine mr_cVV (pc := 14) (c_X3_putNumber hw T2 h7 (rW (c := 0) (d := 4) (rR (x := 1)) rfl)) (gOk _ _ _ _ _) dX3_putAttributes_14 (tX3_putNumber _ _ _ _ _) ⟨wV_X3_putNumber, wL_X3_putNumber⟩ wM_X3_169 (gCX3 _ _ _ _ _) rfl (A_76 hw) rfl ⟨le_t rfl, le_t rfl⟩ ⟨le_t rfl, le_t rfl⟩ rfl (le_t rfl) fun μ8 T9 F10 h11 => ?_
  refine sv_aload_n (pc := 17) dX3_putAttributes_17 rfl rfl ?_
  refine mr_bipush (pc := 18) (z := 64) dX3_putAttributes_18 (by decide) ?_
  refine mr_iconst (pc := 20) (z := 2) dX3_putAttributes_20 ?_
  refine mr_iconst (pc := 21) (z := 2) dX3_putAttributes_21 ?_
  refine mr_iconst (pc := 22) (z := 4) dX3_putAttributes_22 ?_
  refine sv_aload_n (pc := 23) dX3_putAttributes_23 rfl rfl ?_
  refine gf_X7_7 (pc := 24) dX3_putAttributes_24 wF_X3_147 hA1 T9 fun z12 q13 h14 => ?_
  refine mr_imul (pc := 27) (x := 4) (y := z12) dX3_putAttributes_27 ?_
  refine mr_iadd (pc := 28) (x := 2) (y := (4 * z12)) dX3_putAttributes_28 ?_
  refine mr_cVV (pc := 29) (c_X3_putHead hw T9 (rW (c := (-2147483648)) (d := 2147483647) (rR (x := 64)) rfl) (rW (c := (-2147483648)) (d := 2147483647) (rR (x := 2)) rfl) (rW (c := (-2147483648)) (d := 2147483647) (rAdd (e := 2) (f := 82) (rR (x := 2)) (rMulL (n := 4) (e := 0) (f := 80) h14 rfl) rfl) rfl)) (gOk _ _ _ _ _) dX3_putAttributes_29 (tX3_putHead _ _ _ _ _) ⟨wV_X3_putHead, wL_X3_putHead⟩ wM_X3_179 (gCX3 _ _ _ _ _) rfl (A_76 hw) rfl ⟨le_t rfl, le_t rfl⟩ ⟨le_t rfl, le_t rfl⟩ rfl (le_t rfl) fun μ15 T16 F17 h18 => ?_
  refine sv_aload_n (pc := 32) dX3_putAttributes_32 rfl rfl ?_
  refine mr_iconst (pc := 33) (z := 2) dX3_putAttributes_33 ?_
  refine mr_iconst (pc := 34) (z := 1) dX3_putAttributes_34 ?_
  refine mr_cVV (pc := 35) (c_X3_putNumber hw T16 (rW (c := (-2147483648)) (d := 2147483647) (rR (x := 2)) rfl) (rW (c := 0) (d := 4) (rR (x := 1)) rfl)) (gOk _ _ _ _ _) dX3_putAttributes_35 (tX3_putNumber _ _ _ _ _) ⟨wV_X3_putNumber, wL_X3_putNumber⟩ wM_X3_169 (gCX3 _ _ _ _ _) rfl (A_76 hw) rfl ⟨le_t rfl, le_t rfl⟩ ⟨le_t rfl, le_t rfl⟩ rfl (le_t rfl) fun μ19 T20 F21 h22 => ?_
  refine sv_aload_n (pc := 38) dX3_putAttributes_38 rfl rfl ?_
  refine sv_aload_n (pc := 39) dX3_putAttributes_39 rfl rfl ?_
  refine gk_X7_7 (pc := 40) dX3_putAttributes_40 wF_X3_147 hA1 (F21.f hA1 rfl (F17.f hA1 rfl q13)) ?_
  refine mr_iconst (pc := 43) (z := 1) dX3_putAttributes_43 ?_
  refine mr_cVV (pc := 44) (c_X3_putNumber hw T20 (rW (c := (-2147483648)) (d := 2147483647) h14 rfl) (rW (c := 0) (d := 4) (rR (x := 1)) rfl)) (gOk _ _ _ _ _) dX3_putAttributes_44 (tX3_putNumber _ _ _ _ _) ⟨wV_X3_putNumber, wL_X3_putNumber⟩ wM_X3_169 (gCX3 _ _ _ _ _) rfl (A_76 hw) rfl ⟨le_t rfl, le_t rfl⟩ ⟨le_t rfl, le_t rfl⟩ rfl (le_t rfl) fun μ23 T24 F25 h26 => ?_
  refine mr_iconst (pc := 47) (z := 0) dX3_putAttributes_47 ?_
  refine mr_istore_n (pc := 48) (lv' := [(2, iv 0), (0, .ref 76), (1, .ref a1)]) dX3_putAttributes_48 rfl (by decide) rfl ?_
  have L874 : ∀ (nL874 : Nat) (z872 : Int) (μ873 : mM), mT w μ873 → mF [76015, 86999] w μ23 μ873 → (0 ≤ z872 ∧ z872 ≤ 20) → (21 - z872) < (nL874 : Int) → sV (gG l D c H0 sa) mX3_putAttributes (sRm 3 0 0) (sZ (gG l D c H0 sa) 0 0 (qV w [76015, 86999] μ (fun μ1 => True))) 49 [(0, .ref 76), (1, .ref a1), (2, iv z872)] [] (mk w μ873) 0 0 := by
    intro nL874
    induction nL874 with
    | zero => intro z872 μ873 T876 F877 h875 h879; exact ((vc_X3_putAttributes_1 h879 h875)).elim
    | succ nL874 ih880 =>
      intro z872 μ873 T876 F877 h875 h879
      refine mr_iload_n (pc := 49) (z := z872) dX3_putAttributes_49 rfl rfl ?_
      refine sv_aload_n (pc := 50) dX3_putAttributes_50 rfl rfl ?_
      refine gk_X7_7 (pc := 51) dX3_putAttributes_51 wF_X3_147 hA1 (F877.f hA1 rfl (F25.f hA1 rfl (F21.f hA1 rfl (F17.f hA1 rfl q13)))) ?_
      refine mr_icmp_ge (pc := 54) (tgt := 74) dX3_putAttributes_54 (by decide) (r32 h875 rfl) (r32 h14 rfl) (fun h891 => ?_) (fun h891 => ?_)
      · refine sv_aload_n (pc := 74) dX3_putAttributes_74 rfl rfl ?_
        refine gf_X7_6 (pc := 75) dX3_putAttributes_75 wF_X3_134 hA1 T876 fun z892 q893 h894 => ?_
        have J908 : ∀ (μ904 : mM), (mT w μ904) → (mF [76015, 86999] w μ873 μ904) → sV (gG l D c H0 sa) mX3_putAttributes (sRm 3 0 0) (sZ (gG l D c H0 sa) 0 0 (qV w [76015, 86999] μ (fun μ1 => True))) 99 [(0, .ref 76), (1, .ref a1)] [] (mk w μ904) 0 0 := by
          intro μ904 T905 F906
          refine sv_aload_n (pc := 99) dX3_putAttributes_99 rfl rfl ?_
          refine gf_X7_8 (pc := 100) dX3_putAttributes_100 wF_X3_55 hA1 T905 fun z909 q910 h911 => ?_
          have J922 : ∀ (μ918 : mM), (mT w μ918) → (mF [76015, 86999] w μ904 μ918) → sV (gG l D c H0 sa) mX3_putAttributes (sRm 3 0 0) (sZ (gG l D c H0 sa) 0 0 (qV w [76015, 86999] μ (fun μ1 => True))) 121 [(0, .ref 76), (1, .ref a1)] [] (mk w μ918) 0 0 := by
            intro μ918 T919 F920
            refine mr_iconst (pc := 121) (z := 0) dX3_putAttributes_121 ?_
            refine mr_istore_n (pc := 122) (lv' := [(2, iv 0), (0, .ref 76), (1, .ref a1)]) dX3_putAttributes_122 rfl (by decide) rfl ?_
            have L1033 : ∀ (nL1033 : Nat) (z1031 : Int) (μ1032 : mM), mT w μ1032 → mF [76015, 86999] w μ918 μ1032 → (0 ≤ z1031 ∧ z1031 ≤ 8) → (9 - z1031) < (nL1033 : Int) → sV (gG l D c H0 sa) mX3_putAttributes (sRm 3 0 0) (sZ (gG l D c H0 sa) 0 0 (qV w [76015, 86999] μ (fun μ1 => True))) 123 [(0, .ref 76), (1, .ref a1), (2, iv z1031)] [] (mk w μ1032) 0 0 := by
              intro nL1033
              induction nL1033 with
              | zero => intro z1031 μ1032 T1035 F1036 h1034 h1038; exact ((vc_X3_putAttributes_2 h1038 h1034)).elim
              | succ nL1033 ih1039 =>
                intro z1031 μ1032 T1035 F1036 h1034 h1038
                refine mr_iload_n (pc := 123) (z := z1031) dX3_putAttributes_123 rfl rfl ?_
                refine sv_aload_n (pc := 124) dX3_putAttributes_124 rfl rfl ?_
                refine gk_X7_8 (pc := 125) dX3_putAttributes_125 wF_X3_55 hA1 (F1036.f hA1 rfl (F920.f hA1 rfl q910)) ?_
                refine mr_icmp_ge (pc := 128) (tgt := 148) dX3_putAttributes_128 (by decide) (r32 h1034 rfl) (r32 h911 rfl) (fun h1050 => ?_) (fun h1050 => ?_)
                · exact mr_vret dX3_putAttributes_148 rfl (le_t rfl) (le_t rfl) T1035 (mF.call (mF.call (mF.call (mF.call (mF.call (mF.call (mF.call (mF.call (mF.call mF.refl F3 rfl) F10 rfl) F17 rfl) F21 rfl) F25 rfl) F877 rfl) F906 rfl) F920 rfl) F1036 rfl) trivial
                have h1051 : 0 ≤ z1031 ∧ z1031 ≤ 7 := (vc_X3_putAttributes_3 h1050 h1034 h911)
                have h1052 : 1 ≤ z909 ∧ z909 ≤ 8 := (vc_X3_putAttributes_4 h1050 h1051 h911)
                refine sv_aload_n (pc := 131) dX3_putAttributes_131 rfl rfl ?_
                refine sv_aload_n (pc := 132) dX3_putAttributes_132 rfl rfl ?_
                refine gf_X7_1 (pc := 133) dX3_putAttributes_133 wF_X3_182 hA1 T1035 fun A1053 => ?_
                refine mr_iload_n (pc := 136) (z := z1031) dX3_putAttributes_136 rfl rfl ?_
                refine la_202 (pc := 137) dX3_putAttributes_137 A1053 T1035 (rIx (n := 8) h1051 rfl) fun z1054 q1055 h1056 => ?_
                refine mr_iconst (pc := 138) (z := 4) dX3_putAttributes_138 ?_
                refine mr_cVV (pc := 139) (c_X3_putNumber hw T1035 h1056 (rW (c := 0) (d := 4) (rR (x := 4)) rfl)) (gOk _ _ _ _ _) dX3_putAttributes_139 (tX3_putNumber _ _ _ _ _) ⟨wV_X3_putNumber, wL_X3_putNumber⟩ wM_X3_169 (gCX3 _ _ _ _ _) rfl (A_76 hw) rfl ⟨le_t rfl, le_t rfl⟩ ⟨le_t rfl, le_t rfl⟩ rfl (le_t rfl) fun μ1057 T1058 F1059 h1060 => ?_
                refine mr_iinc (pc := 142) (lv' := [(2, iv (z1031 + 1)), (0, .ref 76), (1, .ref a1)]) dX3_putAttributes_142 rfl (by decide) rfl ?_
                refine sv_goto (pc := 145) (tgt := 123) dX3_putAttributes_145 (by decide) ?_
                refine mr_lvS (lv' := [(0, .ref 76), (1, .ref a1), (2, iv (z1031 + 1))]) (List.forall_mem_cons.mpr ⟨rfl, List.forall_mem_cons.mpr ⟨rfl, List.forall_mem_cons.mpr ⟨rfl, fun _ h => absurd h List.not_mem_nil⟩⟩⟩) ?_
                exact ih1039 (z1031 + 1) μ1057 T1058 (mF.call (mF.call mF.refl F1036 rfl) F1059 rfl) (rW (c := 0) (d := 8) (rAdd (e := 1) (f := 8) h1051 (rR (x := 1)) rfl) rfl) (vc_X3_putAttributes_5 (nS h1038) h1050 h1051 h1052)
            refine mr_lvS (lv' := [(0, .ref 76), (1, .ref a1), (2, iv 0)]) (List.forall_mem_cons.mpr ⟨rfl, List.forall_mem_cons.mpr ⟨rfl, List.forall_mem_cons.mpr ⟨rfl, fun _ h => absurd h List.not_mem_nil⟩⟩⟩) ?_
            exact L1033 10 0 μ918 T919 mF.refl (rW (c := 0) (d := 8) (rR (x := 0)) rfl) vc_X3_putAttributes_6
          refine mr_if_le (pc := 103) (tgt := 121) dX3_putAttributes_103 (by decide) (r32 h911 rfl) (fun h1061 => ?_) (fun h1061 => ?_)
          · have h1062 : 0 ≤ z909 ∧ z909 ≤ 0 := (vc_X3_putAttributes_7 h1061 h911)
            exact J922 μ904 T905 mF.refl
          have h1063 : 1 ≤ z909 ∧ z909 ≤ 8 := (vc_X3_putAttributes_8 h1061 h911)
          refine sv_aload_n (pc := 106) dX3_putAttributes_106 rfl rfl ?_
          refine mr_sipush (pc := 107) (z := 192) dX3_putAttributes_107 (by decide) ?_
          refine mr_bipush (pc := 110) (z := 8) dX3_putAttributes_110 (by decide) ?_
          refine mr_iconst (pc := 112) (z := 4) dX3_putAttributes_112 ?_
          refine sv_aload_n (pc := 113) dX3_putAttributes_113 rfl rfl ?_
          refine gk_X7_8 (pc := 114) dX3_putAttributes_114 wF_X3_55 hA1 q910 ?_
          refine mr_imul (pc := 117) (x := 4) (y := z909) dX3_putAttributes_117 ?_
          refine mr_cVV (pc := 118) (c_X3_putHead hw T905 (rW (c := (-2147483648)) (d := 2147483647) (rR (x := 192)) rfl) (rW (c := (-2147483648)) (d := 2147483647) (rR (x := 8)) rfl) (rW (c := (-2147483648)) (d := 2147483647) (rMulL (n := 4) (e := 4) (f := 32) h1063 rfl) rfl)) (gOk _ _ _ _ _) dX3_putAttributes_118 (tX3_putHead _ _ _ _ _) ⟨wV_X3_putHead, wL_X3_putHead⟩ wM_X3_179 (gCX3 _ _ _ _ _) rfl (A_76 hw) rfl ⟨le_t rfl, le_t rfl⟩ ⟨le_t rfl, le_t rfl⟩ rfl (le_t rfl) fun μ1064 T1065 F1066 h1067 => ?_
          exact J922 μ1064 T1065 (mF.call mF.refl F1066 rfl)
        refine mr_if_eq (pc := 78) (tgt := 99) dX3_putAttributes_78 (by decide) h894 (fun h1068 => ?_) (fun h1068 => ?_)
        · have h1069 : 0 ≤ z892 ∧ z892 ≤ 0 := (vc_X3_putAttributes_9 h1068 h894)
          refine mr_lvS (lv' := [(0, .ref 76), (1, .ref a1)]) (List.forall_mem_cons.mpr ⟨rfl, List.forall_mem_cons.mpr ⟨rfl, fun _ h => absurd h List.not_mem_nil⟩⟩) ?_
          exact J908 μ873 T876 mF.refl
        refine sv_aload_n (pc := 81) dX3_putAttributes_81 rfl rfl ?_
        refine mr_sipush (pc := 82) (z := 128) dX3_putAttributes_82 (by decide) ?_
        refine mr_iconst (pc := 85) (z := 4) dX3_putAttributes_85 ?_
        refine mr_iconst (pc := 86) (z := 4) dX3_putAttributes_86 ?_
        refine mr_cVV (pc := 87) (c_X3_putHead hw T876 (rW (c := (-2147483648)) (d := 2147483647) (rR (x := 128)) rfl) (rW (c := (-2147483648)) (d := 2147483647) (rR (x := 4)) rfl) (rW (c := (-2147483648)) (d := 2147483647) (rR (x := 4)) rfl)) (gOk _ _ _ _ _) dX3_putAttributes_87 (tX3_putHead _ _ _ _ _) ⟨wV_X3_putHead, wL_X3_putHead⟩ wM_X3_179 (gCX3 _ _ _ _ _) rfl (A_76 hw) rfl ⟨le_t rfl, le_t rfl⟩ ⟨le_t rfl, le_t rfl⟩ rfl (le_t rfl) fun μ1070 T1071 F1072 h1073 => ?_
        refine sv_aload_n (pc := 90) dX3_putAttributes_90 rfl rfl ?_
        refine sv_aload_n (pc := 91) dX3_putAttributes_91 rfl rfl ?_
        refine gk_X7_6 (pc := 92) dX3_putAttributes_92 wF_X3_134 hA1 (F1072.f hA1 rfl q893) ?_
        refine mr_iconst (pc := 95) (z := 4) dX3_putAttributes_95 ?_
        refine mr_cVV (pc := 96) (c_X3_putNumber hw T1071 h894 (rW (c := 0) (d := 4) (rR (x := 4)) rfl)) (gOk _ _ _ _ _) dX3_putAttributes_96 (tX3_putNumber _ _ _ _ _) ⟨wV_X3_putNumber, wL_X3_putNumber⟩ wM_X3_169 (gCX3 _ _ _ _ _) rfl (A_76 hw) rfl ⟨le_t rfl, le_t rfl⟩ ⟨le_t rfl, le_t rfl⟩ rfl (le_t rfl) fun μ1074 T1075 F1076 h1077 => ?_
        refine mr_lvS (lv' := [(0, .ref 76), (1, .ref a1)]) (List.forall_mem_cons.mpr ⟨rfl, List.forall_mem_cons.mpr ⟨rfl, fun _ h => absurd h List.not_mem_nil⟩⟩) ?_
        exact J908 μ1074 T1075 (mF.call (mF.call mF.refl F1072 rfl) F1076 rfl)
      have h1078 : 0 ≤ z872 ∧ z872 ≤ 19 := (vc_X3_putAttributes_10 h891 h14 h875)
      have h1079 : 1 ≤ z12 ∧ z12 ≤ 20 := (vc_X3_putAttributes_11 h891 h14 h1078)
      refine sv_aload_n (pc := 57) dX3_putAttributes_57 rfl rfl ?_
      refine sv_aload_n (pc := 58) dX3_putAttributes_58 rfl rfl ?_
      refine gf_X7_0 (pc := 59) dX3_putAttributes_59 wF_X3_140 hA1 T876 fun A1080 => ?_
      refine mr_iload_n (pc := 62) (z := z872) dX3_putAttributes_62 rfl rfl ?_
      refine la_201 (pc := 63) dX3_putAttributes_63 A1080 T876 (rIx (n := 20) h1078 rfl) fun z1081 q1082 h1083 => ?_
      refine mr_iconst (pc := 64) (z := 4) dX3_putAttributes_64 ?_
      refine mr_cVV (pc := 65) (c_X3_putNumber hw T876 h1083 (rW (c := 0) (d := 4) (rR (x := 4)) rfl)) (gOk _ _ _ _ _) dX3_putAttributes_65 (tX3_putNumber _ _ _ _ _) ⟨wV_X3_putNumber, wL_X3_putNumber⟩ wM_X3_169 (gCX3 _ _ _ _ _) rfl (A_76 hw) rfl ⟨le_t rfl, le_t rfl⟩ ⟨le_t rfl, le_t rfl⟩ rfl (le_t rfl) fun μ1084 T1085 F1086 h1087 => ?_
      refine mr_iinc (pc := 68) (lv' := [(2, iv (z872 + 1)), (0, .ref 76), (1, .ref a1)]) dX3_putAttributes_68 rfl (by decide) rfl ?_
      refine sv_goto (pc := 71) (tgt := 49) dX3_putAttributes_71 (by decide) ?_
      refine mr_lvS (lv' := [(0, .ref 76), (1, .ref a1), (2, iv (z872 + 1))]) (List.forall_mem_cons.mpr ⟨rfl, List.forall_mem_cons.mpr ⟨rfl, List.forall_mem_cons.mpr ⟨rfl, fun _ h => absurd h List.not_mem_nil⟩⟩⟩) ?_
      exact ih880 (z872 + 1) μ1084 T1085 (mF.call (mF.call mF.refl F877 rfl) F1086 rfl) (rW (c := 0) (d := 20) (rAdd (e := 1) (f := 20) h1078 (rR (x := 1)) rfl) rfl) (vc_X3_putAttributes_12 (nS h879) h891 h1079 h1078)
  refine mr_lvS (lv' := [(0, .ref 76), (1, .ref a1), (2, iv 0)]) (List.forall_mem_cons.mpr ⟨rfl, List.forall_mem_cons.mpr ⟨rfl, List.forall_mem_cons.mpr ⟨rfl, fun _ h => absurd h List.not_mem_nil⟩⟩⟩) ?_
  exact L874 22 0 μ23 T24 mF.refl (rW (c := 0) (d := 20) (rR (x := 0)) rfl) vc_X3_putAttributes_13
theorem vc_X3_putDown_1  : (0 : Int) < (8 : Int) ∧ (8 : Int) ≤ (2147483647 : Int) := by omega
theorem vc_X3_putDown_2 {z7 : Int} (h0 : ¬ z7 = 0) (h1 : 0 ≤ z7 ∧ z7 ≤ 1) : 1 ≤ z7 ∧ z7 ≤ 1 := by omega
theorem vc_X3_putDown_3 {z7 : Int} (h0 : z7 = 0) (h1 : 0 ≤ z7 ∧ z7 ≤ 1) : 0 ≤ z7 ∧ z7 ≤ 0 := by omega
set_option maxRecDepth 4000 in
set_option maxHeartbeats 4000000 in
theorem c_X3_putDown {l : Launch} {D : va_G} {c : Nat → ClassId} {H0 : Heap} {sa : Nat × Nat × (Nat → Int32)} {w : mW} {μ : mM} (hw : mWF w) (hT : mT w μ) {a1 : Nat} (hA1 : mAt w a1 200) {p2 : Int} (hp2 : (-2147483648) ≤ p2 ∧ p2 ≤ 2147483647) {p3 : Int} (hp3 : 0 ≤ p3 ∧ p3 ≤ 32) : sC (gG l D c H0 sa) mX3_putDown 4 0 0 [.ref 76, .ref a1, iv p2, iv p3] (mk w μ) (qI w [76015, 86999] μ (fun z μ1 => ((-2147483648) ≤ z ∧ z ≤ 2147483647) ∧ True)) := by
  refine sC.of rfl (by decide) (le_t rfl) ?_
  refine mr_lvE (lv' := [(0, .ref 76), (1, .ref a1), (2, iv p2), (3, iv p3)]) rfl ?_
  refine sv_aload_n (pc := 0) dX3_putDown_0 rfl rfl ?_
  refine mr_iconst (pc := 1) (z := 0) dX3_putDown_1 ?_
  refine pf_X3_15 (pc := 2) dX3_putDown_2 wF_X3_163 (A_76 hw) hT (rW (c := 0) (d := 256) (rR (x := 0)) rfl) fun μ1 u2 T3 => ?_
  refine mr_iconst (pc := 5) (z := 1) dX3_putDown_5 ?_
  refine mr_iload_n (pc := 6) (z := p3) dX3_putDown_6 rfl rfl ?_
  refine mr_bipush (pc := 7) (z := 7) dX3_putDown_7 (by decide) ?_
  refine mr_iadd (pc := 9) (x := p3) (y := 7) dX3_putDown_9 ?_
  refine mr_bipush (pc := 10) (z := 8) dX3_putDown_10 (by decide) ?_
  refine mr_idiv (pc := 12) (x := (p3 + 7)) (y := 8) dX3_putDown_12 (rW (c := 0) (d := 2147483647) (rAdd (e := 7) (f := 39) hp3 (rR (x := 7)) rfl) rfl) vc_X3_putDown_1 ?_
  refine mr_gen (P := fun z => 0 ≤ z ∧ z ≤ 4) (rDiv (rAdd (e := 7) (f := 39) hp3 (rR (x := 7)) rfl) rfl) fun z4 q5 h6 => ?_
  refine mr_iadd (pc := 13) (x := 1) (y := z4) dX3_putDown_13 ?_
  refine mr_istore (pc := 14) (lv' := [(4, iv (1 + z4)), (0, .ref 76), (1, .ref a1), (2, iv p2), (3, iv p3)]) dX3_putDown_14 (by decide) rfl ?_
  refine sv_aload_n (pc := 16) dX3_putDown_16 rfl rfl ?_
  refine gf_X7_2 (pc := 17) dX3_putDown_17 wF_X3_166 hA1 T3 fun z7 q8 h9 => ?_
  refine mr_if_ne (pc := 20) (tgt := 47) dX3_putDown_20 (by decide) (r32 h9 rfl) (fun h10 => ?_) (fun h10 => ?_)
  · have h11 : 1 ≤ z7 ∧ z7 ≤ 1 := (vc_X3_putDown_2 h10 h9)
    refine sv_aload_n (pc := 47) dX3_putDown_47 rfl rfl ?_
    refine mr_iconst (pc := 48) (z := 0) dX3_putDown_48 ?_
    refine mr_iconst (pc := 49) (z := 4) dX3_putDown_49 ?_
    refine mr_cVV (pc := 50) (c_X3_putNumber hw T3 (rW (c := (-2147483648)) (d := 2147483647) (rR (x := 0)) rfl) (rW (c := 0) (d := 4) (rR (x := 4)) rfl)) (gOk _ _ _ _ _) dX3_putDown_50 (tX3_putNumber _ _ _ _ _) ⟨wV_X3_putNumber, wL_X3_putNumber⟩ wM_X3_169 (gCX3 _ _ _ _ _) rfl (A_76 hw) rfl ⟨le_t rfl, le_t rfl⟩ ⟨le_t rfl, le_t rfl⟩ rfl (le_t rfl) fun μ12 T13 F14 h15 => ?_
    refine sv_aload_n (pc := 53) dX3_putDown_53 rfl rfl ?_
    refine sv_aload_n (pc := 54) dX3_putDown_54 rfl rfl ?_
    refine mr_cVV (pc := 55) (c_X3_putAttributes hw T13 hA1) (gOk _ _ _ _ _) dX3_putDown_55 (tX3_putAttributes _ _ _ _ _) ⟨wV_X3_putAttributes, wL_X3_putAttributes⟩ wM_X3_175 (gCX3 _ _ _ _ _) rfl (A_76 hw) rfl ⟨le_t rfl, le_t rfl⟩ ⟨le_t rfl, le_t rfl⟩ rfl (le_t rfl) fun μ16 T17 F18 h19 => ?_
    refine sv_aload_n (pc := 58) dX3_putDown_58 rfl rfl ?_
    refine gf_X3_15 (pc := 59) dX3_putDown_59 wF_X3_163 (A_76 hw) T17 fun z20 q21 h22 => ?_
    refine mr_iconst (pc := 62) (z := 4) dX3_putDown_62 ?_
    refine mr_isub (pc := 63) (x := z20) (y := 4) dX3_putDown_63 ?_
    refine mr_istore (pc := 64) (lv' := [(5, iv (z20 - 4)), (4, iv (1 + z4)), (0, .ref 76), (1, .ref a1), (2, iv p2), (3, iv p3)]) dX3_putDown_64 (by decide) rfl ?_
    refine sv_aload_n (pc := 66) dX3_putDown_66 rfl rfl ?_
    refine gf_X3_12 (pc := 67) dX3_putDown_67 wF_X3_38 (A_76 hw) T17 ?_
    refine mr_iconst (pc := 70) (z := 2) dX3_putDown_70 ?_
    refine mr_iload (pc := 71) (z := (z20 - 4)) dX3_putDown_71 rfl ?_
    refine mr_bipush (pc := 73) (z := 8) dX3_putDown_73 (by decide) ?_
    refine mr_ishr (pc := 75) (x := (z20 - 4)) (y := 8) dX3_putDown_75 ?_
    refine mr_gen (P := fun z => (-2147483648) ≤ z ∧ z ≤ 2147483647) (r32i _) fun z23 q24 h25 => ?_
    refine ss_86 (pc := 76) dX3_putDown_76 (A_86 hw) T17 (rIx (n := 256) (rR (x := 2)) rfl) h25 fun μ26 u27 T28 => ?_
    refine sv_aload_n (pc := 77) dX3_putDown_77 rfl rfl ?_
    refine gf_X3_12 (pc := 78) dX3_putDown_78 wF_X3_38 (A_76 hw) T28 ?_
    refine mr_iconst (pc := 81) (z := 3) dX3_putDown_81 ?_
    refine mr_iload (pc := 82) (z := (z20 - 4)) dX3_putDown_82 rfl ?_
    refine mr_sipush (pc := 84) (z := 255) dX3_putDown_84 (by decide) ?_
    refine mr_iand (pc := 87) (x := (z20 - 4)) (y := 255) dX3_putDown_87 ?_
    refine mr_gen (P := fun z => 0 ≤ z ∧ z ≤ 255) (rAndR (rR (x := 255)) rfl) fun z29 q30 h31 => ?_
    refine ss_86 (pc := 88) dX3_putDown_88 (A_86 hw) T28 (rIx (n := 256) (rR (x := 3)) rfl) (rW (c := (-2147483648)) (d := 2147483647) h31 rfl) fun μ32 u33 T34 => ?_
    refine sv_aload_n (pc := 89) dX3_putDown_89 rfl rfl ?_
    refine mr_iload_n (pc := 90) (z := p2) dX3_putDown_90 rfl rfl ?_
    refine mr_iload_n (pc := 91) (z := p3) dX3_putDown_91 rfl rfl ?_
    refine mr_cVV (pc := 92) (c_X3_putPrefix hw T34 hp2 hp3) (gOk _ _ _ _ _) dX3_putDown_92 (tX3_putPrefix _ _ _ _ _) ⟨wV_X3_putPrefix, wL_X3_putPrefix⟩ wM_X3_172 (gCX3 _ _ _ _ _) rfl (A_76 hw) rfl ⟨le_t rfl, le_t rfl⟩ ⟨le_t rfl, le_t rfl⟩ rfl (le_t rfl) fun μ35 T36 F37 h38 => ?_
    refine sv_aload_n (pc := 95) dX3_putDown_95 rfl rfl ?_
    refine gf_X3_15 (pc := 96) dX3_putDown_96 wF_X3_163 (A_76 hw) T36 fun z39 q40 h41 => ?_
    exact mr_iret dX3_putDown_99 rfl (le_t rfl) (le_t rfl) T36 (mF.call (mF.up (mF.up (mF.call (mF.call (mF.up mF.refl (A_76 hw) u2 rfl) F14 rfl) F18 rfl) (A_86 hw) u27 rfl) (A_86 hw) u33 rfl) F37 rfl) ⟨(rW (c := (-2147483648)) (d := 2147483647) h41 rfl), trivial⟩
  have h42 : 0 ≤ z7 ∧ z7 ≤ 0 := (vc_X3_putDown_3 h10 h9)
  refine sv_aload_n (pc := 23) dX3_putDown_23 rfl rfl ?_
  refine mr_iload (pc := 24) (z := (1 + z4)) dX3_putDown_24 rfl ?_
  refine mr_iconst (pc := 26) (z := 2) dX3_putDown_26 ?_
  refine mr_cVV (pc := 27) (c_X3_putNumber hw T3 (rW (c := (-2147483648)) (d := 2147483647) (rAdd (e := 1) (f := 5) (rR (x := 1)) h6 rfl) rfl) (rW (c := 0) (d := 4) (rR (x := 2)) rfl)) (gOk _ _ _ _ _) dX3_putDown_27 (tX3_putNumber _ _ _ _ _) ⟨wV_X3_putNumber, wL_X3_putNumber⟩ wM_X3_169 (gCX3 _ _ _ _ _) rfl (A_76 hw) rfl ⟨le_t rfl, le_t rfl⟩ ⟨le_t rfl, le_t rfl⟩ rfl (le_t rfl) fun μ43 T44 F45 h46 => ?_
  refine sv_aload_n (pc := 30) dX3_putDown_30 rfl rfl ?_
  refine mr_iload_n (pc := 31) (z := p2) dX3_putDown_31 rfl rfl ?_
  refine mr_iload_n (pc := 32) (z := p3) dX3_putDown_32 rfl rfl ?_
  refine mr_cVV (pc := 33) (c_X3_putPrefix hw T44 hp2 hp3) (gOk _ _ _ _ _) dX3_putDown_33 (tX3_putPrefix _ _ _ _ _) ⟨wV_X3_putPrefix, wL_X3_putPrefix⟩ wM_X3_172 (gCX3 _ _ _ _ _) rfl (A_76 hw) rfl ⟨le_t rfl, le_t rfl⟩ ⟨le_t rfl, le_t rfl⟩ rfl (le_t rfl) fun μ47 T48 F49 h50 => ?_
  refine sv_aload_n (pc := 36) dX3_putDown_36 rfl rfl ?_
  refine mr_iconst (pc := 37) (z := 0) dX3_putDown_37 ?_
  refine mr_iconst (pc := 38) (z := 2) dX3_putDown_38 ?_
  refine mr_cVV (pc := 39) (c_X3_putNumber hw T48 (rW (c := (-2147483648)) (d := 2147483647) (rR (x := 0)) rfl) (rW (c := 0) (d := 4) (rR (x := 2)) rfl)) (gOk _ _ _ _ _) dX3_putDown_39 (tX3_putNumber _ _ _ _ _) ⟨wV_X3_putNumber, wL_X3_putNumber⟩ wM_X3_169 (gCX3 _ _ _ _ _) rfl (A_76 hw) rfl ⟨le_t rfl, le_t rfl⟩ ⟨le_t rfl, le_t rfl⟩ rfl (le_t rfl) fun μ51 T52 F53 h54 => ?_
  refine sv_aload_n (pc := 42) dX3_putDown_42 rfl rfl ?_
  refine gf_X3_15 (pc := 43) dX3_putDown_43 wF_X3_163 (A_76 hw) T52 fun z55 q56 h57 => ?_
  exact mr_iret dX3_putDown_46 rfl (le_t rfl) (le_t rfl) T52 (mF.call (mF.call (mF.call (mF.up mF.refl (A_76 hw) u2 rfl) F45 rfl) F49 rfl) F53 rfl) ⟨(rW (c := (-2147483648)) (d := 2147483647) h57 rfl), trivial⟩
theorem vc_X11_write_1 {p1 z1 z8 : Int} (h0 : z8 = 0) (h1 : (z8 = 1 → 0 ≤ p1 ∧ p1 < z1)) (h2 : (z8 = 0 → p1 < 0 ∨ z1 ≤ p1)) (h3 : (-2147483648) ≤ p1 ∧ p1 ≤ 2147483647) (h4 : 0 ≤ z1 ∧ z1 ≤ 20) (h5 : 0 ≤ z8 ∧ z8 ≤ 1) : 0 ≤ z8 ∧ z8 ≤ 0 := by omega
theorem vc_X11_write_2 {n1 p1 z1 z8 : Int} (h0 : (z8 = 1 → 0 ≤ p1 ∧ p1 < z1)) (h1 : (z8 = 0 → p1 < 0 ∨ z1 ≤ p1)) (h2 : z8 = 0) (h3 : z1 = n1) (h4 : (-2147483648) ≤ p1 ∧ p1 ≤ 2147483647) (h5 : 0 ≤ z1 ∧ z1 ≤ 20) (h6 : 0 ≤ z8 ∧ z8 ≤ 0) : z8 = 0 := by omega
theorem vc_X11_write_3 {p1 z1 z8 : Int} (h0 : ¬ z8 = 0) (h1 : (z8 = 1 → 0 ≤ p1 ∧ p1 < z1)) (h2 : (z8 = 0 → p1 < 0 ∨ z1 ≤ p1)) (h3 : (-2147483648) ≤ p1 ∧ p1 ≤ 2147483647) (h4 : 0 ≤ z1 ∧ z1 ≤ 20) (h5 : 0 ≤ z8 ∧ z8 ≤ 1) : 1 ≤ z8 ∧ z8 ≤ 1 := by omega
theorem vc_X11_write_4 {n1 p1 z1 z8 : Int} (h0 : (z8 = 1 → 0 ≤ p1 ∧ p1 < z1)) (h1 : (z8 = 0 → p1 < 0 ∨ z1 ≤ p1)) (h2 : ¬ z8 = 0) (h3 : z1 = n1) (h4 : (-2147483648) ≤ p1 ∧ p1 ≤ 2147483647) (h5 : 0 ≤ z1 ∧ z1 ≤ 20) (h6 : 1 ≤ z8 ∧ z8 ≤ 1) : z8 = 1 := by omega
theorem vc_X11_write_5 {n1 p1 z1 z8 : Int} (h0 : 0 ≤ p1 ∧ p1 < z1) (h1 : z1 = n1) (h2 : (z8 = 1 → 0 ≤ p1 ∧ p1 < z1)) (h3 : (z8 = 0 → p1 < 0 ∨ z1 ≤ p1)) (h4 : (-2147483648) ≤ p1 ∧ p1 ≤ 2147483647) (h5 : 0 ≤ z1 ∧ z1 ≤ 20) (h6 : 1 ≤ z8 ∧ z8 ≤ 1) : 0 ≤ p1 ∧ p1 ≤ 19 := by omega
theorem vc_X11_write_6 {n1 p1 z1 z8 : Int} (h0 : 0 ≤ p1 ∧ p1 < z1) (h1 : z1 = n1) (h2 : (z8 = 1 → 0 ≤ p1 ∧ p1 < z1)) (h3 : (z8 = 0 → p1 < 0 ∨ z1 ≤ p1)) (h4 : 0 ≤ p1 ∧ p1 ≤ 19) (h5 : 0 ≤ z1 ∧ z1 ≤ 20) (h6 : 1 ≤ z8 ∧ z8 ≤ 1) : 1 ≤ z1 ∧ z1 ≤ 20 := by omega
theorem vc_X11_write_7 {p2 z20 : Int} (h0 : z20 = 0) (h1 : (z20 = 1 → 0 ≤ p2 ∧ p2 ≤ 1)) (h2 : (z20 = 0 → p2 < 0 ∨ 1 < p2)) (h3 : (-2147483648) ≤ p2 ∧ p2 ≤ 2147483647) (h4 : 0 ≤ z20 ∧ z20 ≤ 1) : 0 ≤ z20 ∧ z20 ≤ 0 := by omega
theorem vc_X11_write_8 {p2 z20 : Int} (h0 : (z20 = 1 → 0 ≤ p2 ∧ p2 ≤ 1)) (h1 : (z20 = 0 → p2 < 0 ∨ 1 < p2)) (h2 : z20 = 0) (h3 : (-2147483648) ≤ p2 ∧ p2 ≤ 2147483647) (h4 : 0 ≤ z20 ∧ z20 ≤ 0) : z20 = 0 := by omega
theorem vc_X11_write_9 {p2 z20 : Int} (h0 : ¬ z20 = 0) (h1 : (z20 = 1 → 0 ≤ p2 ∧ p2 ≤ 1)) (h2 : (z20 = 0 → p2 < 0 ∨ 1 < p2)) (h3 : (-2147483648) ≤ p2 ∧ p2 ≤ 2147483647) (h4 : 0 ≤ z20 ∧ z20 ≤ 1) : 1 ≤ z20 ∧ z20 ≤ 1 := by omega
theorem vc_X11_write_10 {p2 z20 : Int} (h0 : (z20 = 1 → 0 ≤ p2 ∧ p2 ≤ 1)) (h1 : (z20 = 0 → p2 < 0 ∨ 1 < p2)) (h2 : ¬ z20 = 0) (h3 : (-2147483648) ≤ p2 ∧ p2 ≤ 2147483647) (h4 : 1 ≤ z20 ∧ z20 ≤ 1) : z20 = 1 := by omega
theorem vc_X11_write_11 {p2 z20 : Int} (h0 : 0 ≤ p2 ∧ p2 ≤ 1) (h1 : (z20 = 1 → 0 ≤ p2 ∧ p2 ≤ 1)) (h2 : (z20 = 0 → p2 < 0 ∨ 1 < p2)) (h3 : (-2147483648) ≤ p2 ∧ p2 ≤ 2147483647) (h4 : 1 ≤ z20 ∧ z20 ≤ 1) : 0 ≤ p2 ∧ p2 ≤ 1 := by omega
theorem vc_X11_write_12 {p3 z27 z34 : Int} (h0 : ¬ z34 = 0) (h1 : (z34 = 1 → 0 ≤ p3 ∧ p3 < z27)) (h2 : (z34 = 0 → p3 < 0 ∨ z27 ≤ p3)) (h3 : (-2147483648) ≤ p3 ∧ p3 ≤ 2147483647) (h4 : 0 ≤ z27 ∧ z27 ≤ 10) (h5 : 0 ≤ z34 ∧ z34 ≤ 1) : 1 ≤ z34 ∧ z34 ≤ 1 := by omega
theorem vc_X11_write_13 {p3 z27 z34 : Int} (h0 : (z34 = 1 → 0 ≤ p3 ∧ p3 < z27)) (h1 : (z34 = 0 → p3 < 0 ∨ z27 ≤ p3)) (h2 : ¬ z34 = 0) (h3 : (-2147483648) ≤ p3 ∧ p3 ≤ 2147483647) (h4 : 0 ≤ z27 ∧ z27 ≤ 10) (h5 : 1 ≤ z34 ∧ z34 ≤ 1) : z34 = 1 := by omega
theorem vc_X11_write_14 {p3 z27 z34 : Int} (h0 : 0 ≤ p3 ∧ p3 < z27) (h1 : (z34 = 1 → 0 ≤ p3 ∧ p3 < z27)) (h2 : (z34 = 0 → p3 < 0 ∨ z27 ≤ p3)) (h3 : (-2147483648) ≤ p3 ∧ p3 ≤ 2147483647) (h4 : 0 ≤ z27 ∧ z27 ≤ 10) (h5 : 1 ≤ z34 ∧ z34 ≤ 1) : 0 ≤ p3 ∧ p3 ≤ 9 := by omega
theorem vc_X11_write_15 {p3 z27 z34 : Int} (h0 : 0 ≤ p3 ∧ p3 < z27) (h1 : (z34 = 1 → 0 ≤ p3 ∧ p3 < z27)) (h2 : (z34 = 0 → p3 < 0 ∨ z27 ≤ p3)) (h3 : 0 ≤ p3 ∧ p3 ≤ 9) (h4 : 0 ≤ z27 ∧ z27 ≤ 10) (h5 : 1 ≤ z34 ∧ z34 ≤ 1) : 1 ≤ z27 ∧ z27 ≤ 10 := by omega
theorem vc_X11_write_16 {n1 p1 z1 z8 : Int} (h0 : z1 = n1) (h1 : (z8 = 1 → 0 ≤ p1 ∧ p1 < z1)) (h2 : (z8 = 0 → p1 < 0 ∨ z1 ≤ p1)) (h3 : 0 ≤ p1 ∧ p1 < z1) (h4 : ¬ z8 = 0) (h5 : 0 ≤ p1 ∧ p1 ≤ 19) (h6 : 1 ≤ z1 ∧ z1 ≤ 20) (h7 : 1 ≤ z8 ∧ z8 ≤ 1) : p1 < n1 := by omega
theorem vc_X11_write_17 {p3 z27 z34 : Int} (h0 : z34 = 0) (h1 : (z34 = 1 → 0 ≤ p3 ∧ p3 < z27)) (h2 : (z34 = 0 → p3 < 0 ∨ z27 ≤ p3)) (h3 : (-2147483648) ≤ p3 ∧ p3 ≤ 2147483647) (h4 : 0 ≤ z27 ∧ z27 ≤ 10) (h5 : 0 ≤ z34 ∧ z34 ≤ 1) : 0 ≤ z34 ∧ z34 ≤ 0 := by omega
theorem vc_X11_write_18 {p3 z27 z34 : Int} (h0 : (z34 = 1 → 0 ≤ p3 ∧ p3 < z27)) (h1 : (z34 = 0 → p3 < 0 ∨ z27 ≤ p3)) (h2 : z34 = 0) (h3 : (-2147483648) ≤ p3 ∧ p3 ≤ 2147483647) (h4 : 0 ≤ z27 ∧ z27 ≤ 10) (h5 : 0 ≤ z34 ∧ z34 ≤ 0) : z34 = 0 := by omega
set_option maxRecDepth 4000 in
set_option maxHeartbeats 4000000 in
theorem c_X11_write {l : Launch} {D : va_G} {c : Nat → ClassId} {H0 : Heap} {sa : Nat × Nat × (Nat → Int32)} {w : mW} {μ : mM} (hw : mWF w) (hT : mT w μ) {p1 : Int} (hp1 : (-2147483648) ≤ p1 ∧ p1 ≤ 2147483647) {p2 : Int} (hp2 : (-2147483648) ≤ p2 ∧ p2 ≤ 2147483647) {p3 : Int} (hp3 : (-2147483648) ≤ p3 ∧ p3 ≤ 2147483647) : sC (gG l D c H0 sa) mX11_write 5 0 0 [.ref 0, iv p1, iv p2, iv p3] (mk w μ) (qI w [76015, 86999] μ (fun z μ1 => ((-2147483648) ≤ z ∧ z ≤ 2147483647) ∧ True)) := by
  refine sC.of rfl (by decide) (le_t rfl) ?_
  refine mr_lvE (lv' := [(0, .ref 0), (1, iv p1), (2, iv p2), (3, iv p3)]) rfl ?_
  refine sv_aload_n (pc := 0) dX11_write_0 rfl rfl ?_
  refine mr_iload_n (pc := 1) (z := p1) dX11_write_1 rfl rfl ?_
  obtain ⟨z1, q2⟩ : ∃ z, μ 6 16 = z := ⟨_, rfl⟩
  have h3 : (z1 = w.2.2.2 1 ∧ 0 ≤ z1 ∧ z1 ≤ 20) := by rw [← q2]; exact hT 6 6 (A_6 hw) 16
  refine mr_cVP (pc := 2) (c_X11_isTie hw hT hp1 q2) (gOk _ _ _ _ _) dX11_write_2 (tX11_isTie _ _ _ _ _) ⟨wV_X11_isTie, wL_X11_isTie⟩ wM_X11_119 (gCX11 _ _ _ _ _) rfl (A_0 hw) rfl ⟨le_t rfl, le_t rfl⟩ ⟨le_t rfl, le_t rfl⟩ rfl (le_t rfl) fun z8 h7 => ?_
  refine mr_if_eq (pc := 5) (tgt := 23) dX11_write_5 (by decide) (r32 h7.1 rfl) (fun h9 => ?_) (fun h9 => ?_)
  · have h10 : 0 ≤ z8 ∧ z8 ≤ 0 := (vc_X11_write_1 h9 h7.2.1 h7.2.2.1 hp1 h3.2 h7.1)
    have h11 : p1 < 0 ∨ z1 ≤ p1 := (h7.2.2.1 (vc_X11_write_2 h7.2.1 h7.2.2.1 h9 h3.1 hp1 h3.2 h10))
    refine mr_iconst (pc := 23) (z := (-1)) dX11_write_23 ?_
    exact mr_iret dX11_write_24 rfl (le_t rfl) (le_t rfl) hT mF.refl ⟨(rW (c := (-2147483648)) (d := 2147483647) (rR (x := (-1))) rfl), trivial⟩
  have h12 : 1 ≤ z8 ∧ z8 ≤ 1 := (vc_X11_write_3 h9 h7.2.1 h7.2.2.1 hp1 h3.2 h7.1)
  have h13 : 0 ≤ p1 ∧ p1 < z1 := (h7.2.1 (vc_X11_write_4 h7.2.1 h7.2.2.1 h9 h3.1 hp1 h3.2 h12))
  have h14 : 0 ≤ p1 ∧ p1 ≤ 19 := (vc_X11_write_5 h13 h3.1 h7.2.1 h7.2.2.1 hp1 h3.2 h12)
  have h15 : 1 ≤ z1 ∧ z1 ≤ 20 := (vc_X11_write_6 h13 h3.1 h7.2.1 h7.2.2.1 h14 h3.2 h12)
  refine mr_iload_n (pc := 8) (z := p2) dX11_write_8 rfl rfl ?_
  refine mr_cSP (pc := 9) (c_X11_isEither hw hT hp2) (gOk _ _ _ _ _) dX11_write_9 (tX11_isEither _ _ _ _ _) wS_X11_isEither wM_X11_271 ⟨le_t rfl, le_t rfl⟩ ⟨le_t rfl, le_t rfl⟩ rfl (le_t rfl) fun z20 h19 => ?_
  refine mr_if_eq (pc := 12) (tgt := 23) dX11_write_12 (by decide) (r32 h19.1 rfl) (fun h21 => ?_) (fun h21 => ?_)
  · have h22 : 0 ≤ z20 ∧ z20 ≤ 0 := (vc_X11_write_7 h21 h19.2.1 h19.2.2.1 hp2 h19.1)
    have h23 : p2 < 0 ∨ 1 < p2 := (h19.2.2.1 (vc_X11_write_8 h19.2.1 h19.2.2.1 h21 hp2 h22))
    refine mr_iconst (pc := 23) (z := (-1)) dX11_write_23 ?_
    exact mr_iret dX11_write_24 rfl (le_t rfl) (le_t rfl) hT mF.refl ⟨(rW (c := (-2147483648)) (d := 2147483647) (rR (x := (-1))) rfl), trivial⟩
  have h24 : 1 ≤ z20 ∧ z20 ≤ 1 := (vc_X11_write_9 h21 h19.2.1 h19.2.2.1 hp2 h19.1)
  have h25 : 0 ≤ p2 ∧ p2 ≤ 1 := (h19.2.1 (vc_X11_write_10 h19.2.1 h19.2.2.1 h21 hp2 h24))
  have h26 : 0 ≤ p2 ∧ p2 ≤ 1 := (vc_X11_write_11 h25 h19.2.1 h19.2.2.1 hp2 h24)
  refine sv_aload_n (pc := 15) dX11_write_15 rfl rfl ?_
  refine mr_iload_n (pc := 16) (z := p3) dX11_write_16 rfl rfl ?_
  obtain ⟨z27, q28⟩ : ∃ z, μ 6 14 = z := ⟨_, rfl⟩
  have h29 : (0 ≤ z27 ∧ z27 ≤ 10) := by rw [← q28]; exact hT 6 6 (A_6 hw) 14
  refine mr_cVP (pc := 17) (c_X11_isPrefix hw hT hp3 q28) (gOk _ _ _ _ _) dX11_write_17 (tX11_isPrefix _ _ _ _ _) ⟨wV_X11_isPrefix, wL_X11_isPrefix⟩ wM_X11_182 (gCX11 _ _ _ _ _) rfl (A_0 hw) rfl ⟨le_t rfl, le_t rfl⟩ ⟨le_t rfl, le_t rfl⟩ rfl (le_t rfl) fun z34 h33 => ?_
  refine mr_if_ne (pc := 20) (tgt := 25) dX11_write_20 (by decide) (r32 h33.1 rfl) (fun h35 => ?_) (fun h35 => ?_)
  · have h36 : 1 ≤ z34 ∧ z34 ≤ 1 := (vc_X11_write_12 h35 h33.2.1 h33.2.2.1 hp3 h29 h33.1)
    have h37 : 0 ≤ p3 ∧ p3 < z27 := (h33.2.1 (vc_X11_write_13 h33.2.1 h33.2.2.1 h35 hp3 h29 h36))
    have h38 : 0 ≤ p3 ∧ p3 ≤ 9 := (vc_X11_write_14 h37 h33.2.1 h33.2.2.1 hp3 h29 h36)
    have h39 : 1 ≤ z27 ∧ z27 ≤ 10 := (vc_X11_write_15 h37 h33.2.1 h33.2.2.1 h38 h29 h36)
    refine sv_aload_n (pc := 25) dX11_write_25 rfl rfl ?_
    refine gf_X11_3 (pc := 26) dX11_write_26 wF_X11_26 (A_0 hw) hT ?_
    refine gf_X10_4 (pc := 29) dX11_write_29 wF_X11_122 (A_6 hw) hT ?_
    refine mr_iload_n (pc := 32) (z := p1) dX11_write_32 rfl rfl ?_
    refine la_11 (pc := 33) dX11_write_33 (A_11 hw) hT (rIx (n := 20) h14 rfl) (vc_X11_write_16 h3.1 h7.2.1 h7.2.2.1 h13 h9 h14 h15 h12) fun b40 q41 A42 => ?_
    refine gf_X9_5 (pc := 34) dX11_write_34 wF_X11_327 A42 hT fun A43 => ?_
    refine mr_iload_n (pc := 37) (z := p2) dX11_write_37 rfl rfl ?_
    refine mr_iload_n (pc := 38) (z := p3) dX11_write_38 rfl rfl ?_
    refine mr_cSP (pc := 39) (c_X9_placeOf hw hT h26 h38) (gOk _ _ _ _ _) dX11_write_39 (tX9_placeOf _ _ _ _ _) wS_X9_placeOf wM_X11_321 ⟨le_t rfl, le_t rfl⟩ ⟨le_t rfl, le_t rfl⟩ rfl (le_t rfl) fun z48 h47 => ?_
    refine la_223 (pc := 42) dX11_write_42 A43 hT (rIx (n := 20) h47.1 rfl) fun b49 q50 A51 => ?_
    refine mr_astore (pc := 43) (lv' := [(4, .ref b49), (0, .ref 0), (1, iv p1), (2, iv p2), (3, iv p3)]) dX11_write_43 (by decide) rfl ?_
    refine sv_aload_n (pc := 45) dX11_write_45 rfl rfl ?_
    refine gf_X11_7 (pc := 46) dX11_write_46 wF_X11_58 (A_0 hw) hT ?_
    refine sv_aload (pc := 49) dX11_write_49 rfl ?_
    refine sv_aload_n (pc := 51) dX11_write_51 rfl rfl ?_
    refine gf_X11_3 (pc := 52) dX11_write_52 wF_X11_26 (A_0 hw) hT ?_
    refine gf_X10_0 (pc := 55) dX11_write_55 wF_X11_351 (A_6 hw) hT ?_
    refine mr_iload_n (pc := 58) (z := p3) dX11_write_58 rfl rfl ?_
    refine la_7 (pc := 59) dX11_write_59 (A_7 hw) hT (rIx (n := 10) h38 rfl) fun z52 q53 h54 => ?_
    refine sv_aload_n (pc := 60) dX11_write_60 rfl rfl ?_
    refine gf_X11_3 (pc := 61) dX11_write_61 wF_X11_26 (A_0 hw) hT ?_
    refine gf_X10_1 (pc := 64) dX11_write_64 wF_X11_185 (A_6 hw) hT ?_
    refine mr_iload_n (pc := 67) (z := p3) dX11_write_67 rfl rfl ?_
    refine la_8 (pc := 68) dX11_write_68 (A_8 hw) hT (rIx (n := 10) h38 rfl) fun z55 q56 h57 => ?_
    refine mr_cVI (pc := 69) (c_X3_putDown hw hT A51 h54 h57) (gOk _ _ _ _ _) dX11_write_69 (tX3_putDown _ _ _ _ _) ⟨wV_X3_putDown, wL_X3_putDown⟩ wM_X11_354 (gCX3 _ _ _ _ _) rfl (A_76 hw) rfl ⟨le_t rfl, le_t rfl⟩ ⟨le_t rfl, le_t rfl⟩ rfl (le_t rfl) fun z62 μ58 T59 F60 h61 => ?_
    exact mr_iret dX11_write_72 rfl (le_t rfl) (le_t rfl) T59 (mF.call mF.refl F60 rfl) ⟨h61.1, trivial⟩
  have h63 : 0 ≤ z34 ∧ z34 ≤ 0 := (vc_X11_write_17 h35 h33.2.1 h33.2.2.1 hp3 h29 h33.1)
  have h64 : p3 < 0 ∨ z27 ≤ p3 := (h33.2.2.1 (vc_X11_write_18 h33.2.1 h33.2.2.1 h35 hp3 h29 h63))
  refine mr_iconst (pc := 23) (z := (-1)) dX11_write_23 ?_
  exact mr_iret dX11_write_24 rfl (le_t rfl) (le_t rfl) hT mF.refl ⟨(rW (c := (-2147483648)) (d := 2147483647) (rR (x := (-1))) rfl), trivial⟩
theorem vc_X3_sortWithoutSign_1 {z111 : Int} (h0 : (22 - z111) < ((0 : Nat) : Int)) (h1 : 1 ≤ z111 ∧ z111 ≤ 21) : False := by omega
theorem vc_X3_sortWithoutSign_2 {p3 z111 : Int} (h0 : z111 < p3) (h1 : 0 ≤ p3 ∧ p3 ≤ 20) (h2 : 1 ≤ z111 ∧ z111 ≤ 21) : 1 ≤ z111 ∧ z111 ≤ 19 := by omega
theorem vc_X3_sortWithoutSign_3 {p3 z111 : Int} (h0 : z111 < p3) (h1 : 0 ≤ p3 ∧ p3 ≤ 20) (h2 : 1 ≤ z111 ∧ z111 ≤ 19) : 2 ≤ p3 ∧ p3 ≤ 20 := by omega
theorem vc_X3_sortWithoutSign_4 {z251 : Int} (h0 : (z251 - (-1)) < ((0 : Nat) : Int)) (h1 : 0 ≤ z251 ∧ z251 ≤ 19) : False := by omega
theorem vc_X3_sortWithoutSign_5 {N p3 z111 : Int} (h0 : (22 - z111) < N + 1) (h1 : z111 < p3) (h2 : 2 ≤ p3 ∧ p3 ≤ 20) (h3 : 1 ≤ z111 ∧ z111 ≤ 19) : (22 - (z111 + 1)) < N := by omega
theorem vc_X3_sortWithoutSign_6 {p2 z251 : Int} (h0 : p2 < z251) (h1 : 0 ≤ p2 ∧ p2 ≤ 20) (h2 : 0 ≤ z251 ∧ z251 ≤ 19) : 1 ≤ z251 ∧ z251 ≤ 19 := by omega
theorem vc_X3_sortWithoutSign_7 {p2 z251 : Int} (h0 : p2 < z251) (h1 : 0 ≤ p2 ∧ p2 ≤ 20) (h2 : 1 ≤ z251 ∧ z251 ≤ 19) : 0 ≤ p2 ∧ p2 ≤ 18 := by omega
theorem vc_X3_sortWithoutSign_8 {z285 z288 : Int} (h0 : z288 < z285) (h1 : (-2147483648) ≤ z285 ∧ z285 ≤ 2147483647) (h2 : (-2147483648) ≤ z288 ∧ z288 ≤ 2147483647) : (-2147483647) ≤ z285 ∧ z285 ≤ 2147483647 := by omega
theorem vc_X3_sortWithoutSign_9 {z285 z288 : Int} (h0 : z288 < z285) (h1 : (-2147483647) ≤ z285 ∧ z285 ≤ 2147483647) (h2 : (-2147483648) ≤ z288 ∧ z288 ≤ 2147483647) : (-2147483648) ≤ z288 ∧ z288 ≤ 2147483646 := by omega
theorem vc_X3_sortWithoutSign_10 {N p2 z251 : Int} (h0 : (z251 - (-1)) < N + 1) (h1 : p2 < z251) (h2 : 0 ≤ p2 ∧ p2 ≤ 18) (h3 : 1 ≤ z251 ∧ z251 ≤ 19) : ((z251 + (-1)) - (-1)) < N := by omega
theorem vc_X3_sortWithoutSign_11 {p3 z111 : Int} (h0 : z111 < p3) (h1 : 2 ≤ p3 ∧ p3 ≤ 20) (h2 : 1 ≤ z111 ∧ z111 ≤ 19) : (z111 - (-1)) < ((21 : Nat) : Int) := by omega
theorem vc_X3_sortWithoutSign_12 {p2 : Int} (h0 : 0 ≤ p2 ∧ p2 ≤ 20) : (22 - (p2 + 1)) < ((22 : Nat) : Int) := by omega
set_option maxRecDepth 4000 in
set_option maxHeartbeats 4000000 in
theorem c_X3_sortWithoutSign {l : Launch} {D : va_G} {c : Nat → ClassId} {H0 : Heap} {sa : Nat × Nat × (Nat → Int32)} {w : mW} {μ : mM} (hw : mWF w) (hT : mT w μ) {a1 : Nat} (hA1 : mAt w a1 201) {p2 : Int} (hp2 : 0 ≤ p2 ∧ p2 ≤ 20) {p3 : Int} (hp3 : 0 ≤ p3 ∧ p3 ≤ 20) : sC (gG l D c H0 sa) mX3_sortWithoutSign 1 0 0 [.ref a1, iv p2, iv p3] (mk w μ) (qV w [201999] μ (fun μ1 => True)) := by
  refine sC.of rfl (by decide) (le_t rfl) ?_
  refine mr_lvE (lv' := [(0, .ref a1), (1, iv p2), (2, iv p3)]) rfl ?_
  refine mr_iload_n (pc := 0) (z := p2) dX3_sortWithoutSign_0 rfl rfl ?_
  refine mr_iconst (pc := 1) (z := 1) dX3_sortWithoutSign_1 ?_
  refine mr_iadd (pc := 2) (x := p2) (y := 1) dX3_sortWithoutSign_2 ?_
  refine mr_istore_n (pc := 3) (lv' := [(3, iv (p2 + 1)), (0, .ref a1), (1, iv p2), (2, iv p3)]) dX3_sortWithoutSign_3 rfl (by decide) rfl ?_
  have L113 : ∀ (nL113 : Nat) (z111 : Int) (μ112 : mM), mT w μ112 → mF [201999] w μ μ112 → (1 ≤ z111 ∧ z111 ≤ 21) → (22 - z111) < (nL113 : Int) → sV (gG l D c H0 sa) mX3_sortWithoutSign (sRm 1 0 0) (sZ (gG l D c H0 sa) 0 0 (qV w [201999] μ (fun μ1 => True))) 4 [(0, .ref a1), (1, iv p2), (2, iv p3), (3, iv z111)] [] (mk w μ112) 0 0 := by
    intro nL113
    induction nL113 with
    | zero => intro z111 μ112 T115 F116 h114 h118; exact ((vc_X3_sortWithoutSign_1 h118 h114)).elim
    | succ nL113 ih119 =>
      intro z111 μ112 T115 F116 h114 h118
      refine mr_iload_n (pc := 4) (z := z111) dX3_sortWithoutSign_4 rfl rfl ?_
      refine mr_iload_n (pc := 5) (z := p3) dX3_sortWithoutSign_5 rfl rfl ?_
      refine mr_icmp_ge (pc := 6) (tgt := 68) dX3_sortWithoutSign_6 (by decide) (r32 h114 rfl) (r32 hp3 rfl) (fun h173 => ?_) (fun h173 => ?_)
      · exact mr_vret dX3_sortWithoutSign_68 rfl (le_t rfl) (le_t rfl) T115 (mF.call mF.refl F116 rfl) trivial
      have h174 : 1 ≤ z111 ∧ z111 ≤ 19 := (vc_X3_sortWithoutSign_2 h173 hp3 h114)
      have h175 : 2 ≤ p3 ∧ p3 ≤ 20 := (vc_X3_sortWithoutSign_3 h173 hp3 h174)
      refine sv_aload_n (pc := 9) dX3_sortWithoutSign_9 rfl rfl ?_
      refine mr_iload_n (pc := 10) (z := z111) dX3_sortWithoutSign_10 rfl rfl ?_
      refine la_201 (pc := 11) dX3_sortWithoutSign_11 hA1 T115 (rIx (n := 20) h174 rfl) fun z176 q177 h178 => ?_
      refine mr_istore (pc := 12) (lv' := [(4, iv z176), (0, .ref a1), (1, iv p2), (2, iv p3), (3, iv z111)]) dX3_sortWithoutSign_12 (by decide) rfl ?_
      refine mr_iload_n (pc := 14) (z := z111) dX3_sortWithoutSign_14 rfl rfl ?_
      refine mr_istore (pc := 15) (lv' := [(5, iv z111), (4, iv z176), (0, .ref a1), (1, iv p2), (2, iv p3), (3, iv z111)]) dX3_sortWithoutSign_15 (by decide) rfl ?_
      have L253 : ∀ (nL253 : Nat) (z251 : Int) (μ252 : mM), mT w μ252 → mF [201999] w μ112 μ252 → (0 ≤ z251 ∧ z251 ≤ 19) → (z251 - (-1)) < (nL253 : Int) → sV (gG l D c H0 sa) mX3_sortWithoutSign (sRm 1 0 0) (sZ (gG l D c H0 sa) 0 0 (qV w [201999] μ (fun μ1 => True))) 17 [(0, .ref a1), (1, iv p2), (2, iv p3), (3, iv z111), (4, iv z176), (5, iv z251)] [] (mk w μ252) 0 0 := by
        intro nL253
        induction nL253 with
        | zero => intro z251 μ252 T255 F256 h254 h258; exact ((vc_X3_sortWithoutSign_4 h258 h254)).elim
        | succ nL253 ih259 =>
          intro z251 μ252 T255 F256 h254 h258
          refine mr_iload (pc := 17) (z := z251) dX3_sortWithoutSign_17 rfl ?_
          refine mr_iload_n (pc := 19) (z := p2) dX3_sortWithoutSign_19 rfl rfl ?_
          refine mr_icmp_le (pc := 20) (tgt := 56) dX3_sortWithoutSign_20 (by decide) (r32 h254 rfl) (r32 hp2 rfl) (fun h276 => ?_) (fun h276 => ?_)
          · refine sv_aload_n (pc := 56) dX3_sortWithoutSign_56 rfl rfl ?_
            refine mr_iload (pc := 57) (z := z251) dX3_sortWithoutSign_57 rfl ?_
            refine mr_iload (pc := 59) (z := z176) dX3_sortWithoutSign_59 rfl ?_
            refine ss_201 (pc := 61) dX3_sortWithoutSign_61 hA1 T255 (rIx (n := 20) h254 rfl) h178 fun μ277 u278 T279 => ?_
            refine mr_iinc (pc := 62) (lv' := [(3, iv (z111 + 1)), (0, .ref a1), (1, iv p2), (2, iv p3), (4, iv z176), (5, iv z251)]) dX3_sortWithoutSign_62 rfl (by decide) rfl ?_
            refine sv_goto (pc := 65) (tgt := 4) dX3_sortWithoutSign_65 (by decide) ?_
            refine mr_lvS (lv' := [(0, .ref a1), (1, iv p2), (2, iv p3), (3, iv (z111 + 1))]) (List.forall_mem_cons.mpr ⟨rfl, List.forall_mem_cons.mpr ⟨rfl, List.forall_mem_cons.mpr ⟨rfl, List.forall_mem_cons.mpr ⟨rfl, fun _ h => absurd h List.not_mem_nil⟩⟩⟩⟩) ?_
            exact ih119 (z111 + 1) μ277 T279 (mF.up (mF.call (mF.call mF.refl F116 rfl) F256 rfl) hA1 u278 rfl) (rW (c := 1) (d := 21) (rAdd (e := 2) (f := 20) h174 (rR (x := 1)) rfl) rfl) (vc_X3_sortWithoutSign_5 (nS h118) h173 h175 h174)
          have h280 : 1 ≤ z251 ∧ z251 ≤ 19 := (vc_X3_sortWithoutSign_6 h276 hp2 h254)
          have h281 : 0 ≤ p2 ∧ p2 ≤ 18 := (vc_X3_sortWithoutSign_7 h276 hp2 h280)
          refine sv_aload_n (pc := 23) dX3_sortWithoutSign_23 rfl rfl ?_
          refine mr_iload (pc := 24) (z := z251) dX3_sortWithoutSign_24 rfl ?_
          refine mr_iconst (pc := 26) (z := 1) dX3_sortWithoutSign_26 ?_
          refine mr_isub (pc := 27) (x := z251) (y := 1) dX3_sortWithoutSign_27 ?_
          refine la_201 (pc := 28) dX3_sortWithoutSign_28 hA1 T255 (rIx (n := 20) (rSub (e := 0) (f := 18) h280 (rR (x := 1)) rfl) rfl) fun z282 q283 h284 => ?_
          refine mr_ldc (pc := 29) (z := (-2147483648)) dX3_sortWithoutSign_29 wG_X3_152 (by decide) ?_
          refine mr_ixor (pc := 31) (x := z282) (y := (-2147483648)) dX3_sortWithoutSign_31 ?_
          refine mr_gen (P := fun z => (-2147483648) ≤ z ∧ z ≤ 2147483647) (r32i _) fun z285 q286 h287 => ?_
          refine mr_iload (pc := 32) (z := z176) dX3_sortWithoutSign_32 rfl ?_
          refine mr_ldc (pc := 34) (z := (-2147483648)) dX3_sortWithoutSign_34 wG_X3_152 (by decide) ?_
          refine mr_ixor (pc := 36) (x := z176) (y := (-2147483648)) dX3_sortWithoutSign_36 ?_
          refine mr_gen (P := fun z => (-2147483648) ≤ z ∧ z ≤ 2147483647) (r32i _) fun z288 q289 h290 => ?_
          refine mr_icmp_le (pc := 37) (tgt := 56) dX3_sortWithoutSign_37 (by decide) h287 h290 (fun h296 => ?_) (fun h296 => ?_)
          · refine sv_aload_n (pc := 56) dX3_sortWithoutSign_56 rfl rfl ?_
            refine mr_iload (pc := 57) (z := z251) dX3_sortWithoutSign_57 rfl ?_
            refine mr_iload (pc := 59) (z := z176) dX3_sortWithoutSign_59 rfl ?_
            refine ss_201 (pc := 61) dX3_sortWithoutSign_61 hA1 T255 (rIx (n := 20) h280 rfl) h178 fun μ297 u298 T299 => ?_
            refine mr_iinc (pc := 62) (lv' := [(3, iv (z111 + 1)), (0, .ref a1), (1, iv p2), (2, iv p3), (4, iv z176), (5, iv z251)]) dX3_sortWithoutSign_62 rfl (by decide) rfl ?_
            refine sv_goto (pc := 65) (tgt := 4) dX3_sortWithoutSign_65 (by decide) ?_
            refine mr_lvS (lv' := [(0, .ref a1), (1, iv p2), (2, iv p3), (3, iv (z111 + 1))]) (List.forall_mem_cons.mpr ⟨rfl, List.forall_mem_cons.mpr ⟨rfl, List.forall_mem_cons.mpr ⟨rfl, List.forall_mem_cons.mpr ⟨rfl, fun _ h => absurd h List.not_mem_nil⟩⟩⟩⟩) ?_
            exact ih119 (z111 + 1) μ297 T299 (mF.up (mF.call (mF.call mF.refl F116 rfl) F256 rfl) hA1 u298 rfl) (rW (c := 1) (d := 21) (rAdd (e := 2) (f := 20) h174 (rR (x := 1)) rfl) rfl) (vc_X3_sortWithoutSign_5 (nS h118) h173 h175 h174)
          have h300 : (-2147483647) ≤ z285 ∧ z285 ≤ 2147483647 := (vc_X3_sortWithoutSign_8 h296 h287 h290)
          have h301 : (-2147483648) ≤ z288 ∧ z288 ≤ 2147483646 := (vc_X3_sortWithoutSign_9 h296 h300 h290)
          refine sv_aload_n (pc := 40) dX3_sortWithoutSign_40 rfl rfl ?_
          refine mr_iload (pc := 41) (z := z251) dX3_sortWithoutSign_41 rfl ?_
          refine sv_aload_n (pc := 43) dX3_sortWithoutSign_43 rfl rfl ?_
          refine mr_iload (pc := 44) (z := z251) dX3_sortWithoutSign_44 rfl ?_
          refine mr_iconst (pc := 46) (z := 1) dX3_sortWithoutSign_46 ?_
          refine mr_isub (pc := 47) (x := z251) (y := 1) dX3_sortWithoutSign_47 ?_
          refine lk_201 (pc := 48) dX3_sortWithoutSign_48 hA1 (rIx (n := 20) (rSub (e := 0) (f := 18) h280 (rR (x := 1)) rfl) rfl) q283 ?_
          refine ss_201 (pc := 49) dX3_sortWithoutSign_49 hA1 T255 (rIx (n := 20) h280 rfl) h284 fun μ302 u303 T304 => ?_
          refine mr_iinc (pc := 50) (lv' := [(5, iv (z251 + (-1))), (0, .ref a1), (1, iv p2), (2, iv p3), (3, iv z111), (4, iv z176)]) dX3_sortWithoutSign_50 rfl (by decide) rfl ?_
          refine sv_goto (pc := 53) (tgt := 17) dX3_sortWithoutSign_53 (by decide) ?_
          refine mr_lvS (lv' := [(0, .ref a1), (1, iv p2), (2, iv p3), (3, iv z111), (4, iv z176), (5, iv (z251 + (-1)))]) (List.forall_mem_cons.mpr ⟨rfl, List.forall_mem_cons.mpr ⟨rfl, List.forall_mem_cons.mpr ⟨rfl, List.forall_mem_cons.mpr ⟨rfl, List.forall_mem_cons.mpr ⟨rfl, List.forall_mem_cons.mpr ⟨rfl, fun _ h => absurd h List.not_mem_nil⟩⟩⟩⟩⟩⟩) ?_
          exact ih259 (z251 + (-1)) μ302 T304 (mF.up (mF.call mF.refl F256 rfl) hA1 u303 rfl) (rW (c := 0) (d := 19) (rAdd (e := 0) (f := 18) h280 (rR (x := (-1))) rfl) rfl) (vc_X3_sortWithoutSign_10 (nS h258) h276 h281 h280)
      refine mr_lvS (lv' := [(0, .ref a1), (1, iv p2), (2, iv p3), (3, iv z111), (4, iv z176), (5, iv z111)]) (List.forall_mem_cons.mpr ⟨rfl, List.forall_mem_cons.mpr ⟨rfl, List.forall_mem_cons.mpr ⟨rfl, List.forall_mem_cons.mpr ⟨rfl, List.forall_mem_cons.mpr ⟨rfl, List.forall_mem_cons.mpr ⟨rfl, fun _ h => absurd h List.not_mem_nil⟩⟩⟩⟩⟩⟩) ?_
      exact L253 21 z111 μ112 T115 mF.refl (rW (c := 0) (d := 19) h174 rfl) (vc_X3_sortWithoutSign_11 h173 h175 h174)
  refine mr_lvS (lv' := [(0, .ref a1), (1, iv p2), (2, iv p3), (3, iv (p2 + 1))]) (List.forall_mem_cons.mpr ⟨rfl, List.forall_mem_cons.mpr ⟨rfl, List.forall_mem_cons.mpr ⟨rfl, List.forall_mem_cons.mpr ⟨rfl, fun _ h => absurd h List.not_mem_nil⟩⟩⟩⟩) ?_
  exact L113 22 (p2 + 1) μ hT mF.refl (rAdd (e := 1) (f := 21) hp2 (rR (x := 1)) rfl) (vc_X3_sortWithoutSign_12 hp2)
theorem vc_X6_isLetter_1 {p1 : Int} (h0 : p1 < 97) (h1 : (-2147483648) ≤ p1 ∧ p1 ≤ 2147483647) : (-2147483648) ≤ p1 ∧ p1 ≤ 96 := by omega
theorem vc_X6_isLetter_2 {p1 : Int} (h0 : 97 ≤ p1) (h1 : (-2147483648) ≤ p1 ∧ p1 ≤ 2147483647) : 97 ≤ p1 ∧ p1 ≤ 2147483647 := by omega
theorem vc_X6_isLetter_3 {p1 : Int} (h0 : 122 < p1) (h1 : 97 ≤ p1) (h2 : 97 ≤ p1 ∧ p1 ≤ 2147483647) : 123 ≤ p1 ∧ p1 ≤ 2147483647 := by omega
theorem vc_X6_isLetter_4 {p1 : Int} (h0 : p1 ≤ 122) (h1 : 97 ≤ p1) (h2 : 97 ≤ p1 ∧ p1 ≤ 2147483647) : 97 ≤ p1 ∧ p1 ≤ 122 := by omega
set_option maxRecDepth 4000 in
set_option maxHeartbeats 4000000 in
theorem c_X6_isLetter {l : Launch} {D : va_G} {c : Nat → ClassId} {H0 : Heap} {sa : Nat × Nat × (Nat → Int32)} {w : mW} {μ : mM} (hw : mWF w) (hT : mT w μ) {p1 : Int} (hp1 : (-2147483648) ≤ p1 ∧ p1 ≤ 2147483647) : sC (gG l D c H0 sa) mX6_isLetter 1 0 0 [iv p1] (mk w μ) (qP w μ (fun z => (0 ≤ z ∧ z ≤ 1) ∧ True)) := by
  refine sC.of rfl (by decide) (le_t rfl) ?_
  refine mr_lvE (lv' := [(0, iv p1)]) rfl ?_
  refine mr_iload_n (pc := 0) (z := p1) dX6_isLetter_0 rfl rfl ?_
  refine mr_bipush (pc := 1) (z := 97) dX6_isLetter_1 (by decide) ?_
  refine mr_icmp_lt (pc := 3) (tgt := 16) dX6_isLetter_3 (by decide) hp1 (r32 (rR (x := 97)) rfl) (fun h5 => ?_) (fun h5 => ?_)
  · have h6 : (-2147483648) ≤ p1 ∧ p1 ≤ 96 := (vc_X6_isLetter_1 h5 hp1)
    refine mr_iconst (pc := 16) (z := 0) dX6_isLetter_16 ?_
    exact mr_zretP dX6_isLetter_17 rfl (rW (c := 0) (d := 1) (rR (x := 0)) rfl) (le_t rfl) (le_t rfl) ⟨(rW (c := 0) (d := 1) (rR (x := 0)) rfl), trivial⟩
  have h7 : 97 ≤ p1 ∧ p1 ≤ 2147483647 := (vc_X6_isLetter_2 h5 hp1)
  refine mr_iload_n (pc := 6) (z := p1) dX6_isLetter_6 rfl rfl ?_
  refine mr_bipush (pc := 7) (z := 122) dX6_isLetter_7 (by decide) ?_
  refine mr_icmp_gt (pc := 9) (tgt := 16) dX6_isLetter_9 (by decide) (r32 h7 rfl) (r32 (rR (x := 122)) rfl) (fun h10 => ?_) (fun h10 => ?_)
  · have h11 : 123 ≤ p1 ∧ p1 ≤ 2147483647 := (vc_X6_isLetter_3 h10 h5 h7)
    refine mr_iconst (pc := 16) (z := 0) dX6_isLetter_16 ?_
    exact mr_zretP dX6_isLetter_17 rfl (rW (c := 0) (d := 1) (rR (x := 0)) rfl) (le_t rfl) (le_t rfl) ⟨(rW (c := 0) (d := 1) (rR (x := 0)) rfl), trivial⟩
  have h12 : 97 ≤ p1 ∧ p1 ≤ 122 := (vc_X6_isLetter_4 h10 h5 h7)
  refine mr_iconst (pc := 12) (z := 1) dX6_isLetter_12 ?_
  refine sv_goto (pc := 13) (tgt := 17) dX6_isLetter_13 (by decide) ?_
  exact mr_zretP dX6_isLetter_17 rfl (rW (c := 0) (d := 1) (rR (x := 1)) rfl) (le_t rfl) (le_t rfl) ⟨(rW (c := 0) (d := 1) (rR (x := 1)) rfl), trivial⟩
theorem vc_X6_isFigure_1 {p1 : Int} (h0 : p1 < 48) (h1 : (-2147483648) ≤ p1 ∧ p1 ≤ 2147483647) : (-2147483648) ≤ p1 ∧ p1 ≤ 47 := by omega
theorem vc_X6_isFigure_2 {p1 : Int} (h0 : 48 ≤ p1) (h1 : (-2147483648) ≤ p1 ∧ p1 ≤ 2147483647) : 48 ≤ p1 ∧ p1 ≤ 2147483647 := by omega
theorem vc_X6_isFigure_3 {p1 : Int} (h0 : 57 < p1) (h1 : 48 ≤ p1) (h2 : 48 ≤ p1 ∧ p1 ≤ 2147483647) : 58 ≤ p1 ∧ p1 ≤ 2147483647 := by omega
theorem vc_X6_isFigure_4 {p1 : Int} (h0 : p1 ≤ 57) (h1 : 48 ≤ p1) (h2 : 48 ≤ p1 ∧ p1 ≤ 2147483647) : 48 ≤ p1 ∧ p1 ≤ 57 := by omega
set_option maxRecDepth 4000 in
set_option maxHeartbeats 4000000 in
theorem c_X6_isFigure {l : Launch} {D : va_G} {c : Nat → ClassId} {H0 : Heap} {sa : Nat × Nat × (Nat → Int32)} {w : mW} {μ : mM} (hw : mWF w) (hT : mT w μ) {p1 : Int} (hp1 : (-2147483648) ≤ p1 ∧ p1 ≤ 2147483647) : sC (gG l D c H0 sa) mX6_isFigure 1 0 0 [iv p1] (mk w μ) (qP w μ (fun z => (0 ≤ z ∧ z ≤ 1) ∧ True)) := by
  refine sC.of rfl (by decide) (le_t rfl) ?_
  refine mr_lvE (lv' := [(0, iv p1)]) rfl ?_
  refine mr_iload_n (pc := 0) (z := p1) dX6_isFigure_0 rfl rfl ?_
  refine mr_bipush (pc := 1) (z := 48) dX6_isFigure_1 (by decide) ?_
  refine mr_icmp_lt (pc := 3) (tgt := 16) dX6_isFigure_3 (by decide) hp1 (r32 (rR (x := 48)) rfl) (fun h5 => ?_) (fun h5 => ?_)
  · have h6 : (-2147483648) ≤ p1 ∧ p1 ≤ 47 := (vc_X6_isFigure_1 h5 hp1)
    refine mr_iconst (pc := 16) (z := 0) dX6_isFigure_16 ?_
    exact mr_zretP dX6_isFigure_17 rfl (rW (c := 0) (d := 1) (rR (x := 0)) rfl) (le_t rfl) (le_t rfl) ⟨(rW (c := 0) (d := 1) (rR (x := 0)) rfl), trivial⟩
  have h7 : 48 ≤ p1 ∧ p1 ≤ 2147483647 := (vc_X6_isFigure_2 h5 hp1)
  refine mr_iload_n (pc := 6) (z := p1) dX6_isFigure_6 rfl rfl ?_
  refine mr_bipush (pc := 7) (z := 57) dX6_isFigure_7 (by decide) ?_
  refine mr_icmp_gt (pc := 9) (tgt := 16) dX6_isFigure_9 (by decide) (r32 h7 rfl) (r32 (rR (x := 57)) rfl) (fun h10 => ?_) (fun h10 => ?_)
  · have h11 : 58 ≤ p1 ∧ p1 ≤ 2147483647 := (vc_X6_isFigure_3 h10 h5 h7)
    refine mr_iconst (pc := 16) (z := 0) dX6_isFigure_16 ?_
    exact mr_zretP dX6_isFigure_17 rfl (rW (c := 0) (d := 1) (rR (x := 0)) rfl) (le_t rfl) (le_t rfl) ⟨(rW (c := 0) (d := 1) (rR (x := 0)) rfl), trivial⟩
  have h12 : 48 ≤ p1 ∧ p1 ≤ 57 := (vc_X6_isFigure_4 h10 h5 h7)
  refine mr_iconst (pc := 12) (z := 1) dX6_isFigure_12 ?_
  refine sv_goto (pc := 13) (tgt := 17) dX6_isFigure_13 (by decide) ?_
  exact mr_zretP dX6_isFigure_17 rfl (rW (c := 0) (d := 1) (rR (x := 1)) rfl) (le_t rfl) (le_t rfl) ⟨(rW (c := 0) (d := 1) (rR (x := 1)) rfl), trivial⟩
theorem vc_X6_verdictOf_1 {p1 : Int} (h0 : p1 = 21) (h1 : ¬ p1 = 20) (h2 : (-2147483648) ≤ p1 ∧ p1 ≤ 2147483647) : 21 ≤ p1 ∧ p1 ≤ 21 := by omega
theorem vc_X6_verdictOf_2 {p1 : Int} (h0 : p1 = 20) (h1 : (-2147483648) ≤ p1 ∧ p1 ≤ 2147483647) : 20 ≤ p1 ∧ p1 ≤ 20 := by omega
set_option maxRecDepth 4000 in
set_option maxHeartbeats 4000000 in
theorem c_X6_verdictOf {l : Launch} {D : va_G} {c : Nat → ClassId} {H0 : Heap} {sa : Nat × Nat × (Nat → Int32)} {w : mW} {μ : mM} (hw : mWF w) (hT : mT w μ) {p1 : Int} (hp1 : (-2147483648) ≤ p1 ∧ p1 ≤ 2147483647) : sC (gG l D c H0 sa) mX6_verdictOf 1 0 0 [iv p1] (mk w μ) (qP w μ (fun z => ((-2147483648) ≤ z ∧ z ≤ 2147483647) ∧ True)) := by
  refine sC.of rfl (by decide) (le_t rfl) ?_
  refine mr_lvE (lv' := [(0, iv p1)]) rfl ?_
  refine mr_iload_n (pc := 0) (z := p1) dX6_verdictOf_0 rfl rfl ?_
  refine mr_bipush (pc := 1) (z := 20) dX6_verdictOf_1 (by decide) ?_
  refine mr_icmp_ne (pc := 3) (tgt := 8) dX6_verdictOf_3 (by decide) hp1 (r32 (rR (x := 20)) rfl) (fun h1 => ?_) (fun h1 => ?_)
  · refine mr_iload_n (pc := 8) (z := p1) dX6_verdictOf_8 rfl rfl ?_
    refine mr_bipush (pc := 9) (z := 21) dX6_verdictOf_9 (by decide) ?_
    refine mr_icmp_ne (pc := 11) (tgt := 18) dX6_verdictOf_11 (by decide) hp1 (r32 (rR (x := 21)) rfl) (fun h3 => ?_) (fun h3 => ?_)
    · refine mr_iconst (pc := 18) (z := 0) dX6_verdictOf_18 ?_
      exact mr_iretP dX6_verdictOf_19 rfl (le_t rfl) (le_t rfl) ⟨(rW (c := (-2147483648)) (d := 2147483647) (rR (x := 0)) rfl), trivial⟩
    have h4 : 21 ≤ p1 ∧ p1 ≤ 21 := (vc_X6_verdictOf_1 h3 h1 hp1)
    refine mr_iconst (pc := 14) (z := 2) dX6_verdictOf_14 ?_
    refine sv_goto (pc := 15) (tgt := 19) dX6_verdictOf_15 (by decide) ?_
    exact mr_iretP dX6_verdictOf_19 rfl (le_t rfl) (le_t rfl) ⟨(rW (c := (-2147483648)) (d := 2147483647) (rR (x := 2)) rfl), trivial⟩
  have h5 : 20 ≤ p1 ∧ p1 ≤ 20 := (vc_X6_verdictOf_2 h1 hp1)
  refine mr_iconst (pc := 6) (z := 1) dX6_verdictOf_6 ?_
  exact mr_iretP dX6_verdictOf_7 rfl (le_t rfl) (le_t rfl) ⟨(rW (c := (-2147483648)) (d := 2147483647) (rR (x := 1)) rfl), trivial⟩
