def WP_X2_leastBelow_W19 (w : mW) (μ : mM) (p1 : Int) (p2 : Int) (p3 : Int) (Q : Int → mM → Prop) : Prop := WP_X2_isSplit_W w μ p1 p2 p3 (fun z5 _ => (0 ≤ z5 ∧ z5 ≤ 1) → ((¬ z5 = 0) → WP_X2_leastBelow_W20 w μ p1 p2 (p3 + 1) (fun z12 μ8 => mT w μ8 → mF [87007] w μ μ8 → ((-2147483648) ≤ z12 ∧ z12 ≤ 2147483647) → ∀ z13 : Int, bShl (1 : Int) (31 - p3) = z13 → ∀ z16 : Int, bOr p2 z13 = z16 → WP_X2_leastBelow_W20 w μ8 p1 z16 (p3 + 1) (fun z23 μ19 => mT w μ19 → mF [87007] w μ8 μ19 → ((-2147483648) ≤ z23 ∧ z23 ≤ 2147483647) → ∀ z24 : Int, bAnd z12 z23 = z24 → ((z24 = 0) → ∀ z29 : Int, μ19 87 7 = z29 → ((-2147483648) ≤ z29 ∧ z29 ≤ 2147483647) → ∀ z32 : Int, (-2147483648 ≤ z32 ∧ z32 ≤ 2147483647) → (z32 - (z29 + 1)) % 4294967296 = 0 → ∀ μ35 : mM, mU μ19 87 (7) z32 μ35 → mT w μ35 → ∀ z38 : Int, bOr z12 z23 = z38 → Q z38 μ35) ∧ ((¬ z24 = 0) → ∀ z41 : Int, bAnd z12 z23 = z41 → Q z41 μ19)))) ∧ ((z5 = 0) → WP_X2_tieFor_W w μ p1 p2 (fun z49 _ => ((-99999999) ≤ z49 ∧ z49 ≤ 19) → WP_X2_aimBit_W w μ z49 (fun z54 _ => ((-2147483648) ≤ z54 ∧ z54 ≤ 2147483647) → Q z54 μ))))
theorem vc_X2_leastBelow_W19_1 {p3 : Int} (h0 : 32 ≤ p3) (h1 : 19 ≤ p3 ∧ p3 ≤ 19) : False := by omega
set_option maxRecDepth 4000 in
set_option maxHeartbeats 4000000 in
theorem c_X2_leastBelow_W19 {l : Launch} {D : va_G} {c : Nat → ClassId} {H0 : Heap} {sa : Nat × Nat × (Nat → Int32)} {w : mW} {μ : mM} (hw : mWF w) (hT : mT w μ) {p1 : Int} (hp1 : 0 ≤ p1 ∧ p1 ≤ 9) {p2 : Int} (hp2 : (-2147483648) ≤ p2 ∧ p2 ≤ 2147483647) {p3 : Int} (hp3 : 19 ≤ p3 ∧ p3 ≤ 19) (hq0 : p1 < w.2.2.2 0) {Q : Int → mM → Prop} (hQ : WP_X2_leastBelow_W19 w μ p1 p2 p3 Q) : sC (gG l D c H0 sa) mX2_leastBelow 16 0 0 [.ref 87, iv p1, iv p2, iv p3] (mk w μ) (qI w [87007] μ (fun z μ1 => ((-2147483648) ≤ z ∧ z ≤ 2147483647) ∧ Q z μ1 ∧ True)) := by
  refine sC.of rfl (by decide) (le_t rfl) ?_
  refine mr_lvE (lv' := [(0, .ref 87), (1, iv p1), (2, iv p2), (3, iv p3)]) rfl ?_
  refine mr_iload_n (pc := 0) (z := p3) dX2_leastBelow_0 rfl rfl ?_
  refine mr_bipush (pc := 1) (z := 32) dX2_leastBelow_1 (by decide) ?_
  refine mr_icmp_ge (pc := 3) (tgt := 16) dX2_leastBelow_3 (by decide) (r32 hp3 rfl) (r32 (rR (x := 32)) rfl) (fun h => ((vc_X2_leastBelow_W19_1 h hp3)).elim) (fun _ => ?_)
  refine sv_aload_n (pc := 6) dX2_leastBelow_6 rfl rfl ?_
  refine mr_iload_n (pc := 7) (z := p1) dX2_leastBelow_7 rfl rfl ?_
  refine mr_iload_n (pc := 8) (z := p2) dX2_leastBelow_8 rfl rfl ?_
  refine mr_iload_n (pc := 9) (z := p3) dX2_leastBelow_9 rfl rfl ?_
  refine mr_cVP (pc := 10) (c_X2_isSplit_W hw hT hp1 hp2 (rW (c := (-2147483648)) (d := 2147483647) hp3 rfl) (vc_X9_end_1 hq0 hp1) hQ) (gOk _ _ _ _ _) dX2_leastBelow_10 (tX2_isSplit _ _ _ _ _) ⟨wV_X2_isSplit, wL_X2_isSplit⟩ wM_X2_106 (gCX2 _ _ _ _ _) rfl (A_87 hw) rfl ⟨le_t rfl, le_t rfl⟩ ⟨le_t rfl, le_t rfl⟩ rfl (le_t rfl) fun z5 h4 => ?_
  refine mr_if_ne (pc := 13) (tgt := 26) dX2_leastBelow_13 (by decide) (r32 h4.1 rfl) (fun h6 => ?_) (fun h6 => ?_)
  · have h7 : 1 ≤ z5 ∧ z5 ≤ 1 := (vc_X12_ring_24 h6 h4.1)
    refine sv_aload_n (pc := 26) dX2_leastBelow_26 rfl rfl ?_
    refine mr_iload_n (pc := 27) (z := p1) dX2_leastBelow_27 rfl rfl ?_
    refine mr_iload_n (pc := 28) (z := p2) dX2_leastBelow_28 rfl rfl ?_
    refine mr_iload_n (pc := 29) (z := p3) dX2_leastBelow_29 rfl rfl ?_
    refine mr_iconst (pc := 30) (z := 1) dX2_leastBelow_30 ?_
    refine mr_iadd (pc := 31) (x := p3) (y := 1) dX2_leastBelow_31 ?_
    refine mr_cVI (pc := 32) (c_X2_leastBelow_W20 hw hT hp1 hp2 (rAdd (e := 20) (f := 20) hp3 (rR (x := 1)) rfl) (vc_X9_end_1 hq0 hp1) ((h4.2.1 h4.1).1 h6)) (gOk _ _ _ _ _) dX2_leastBelow_32 (tX2_leastBelow _ _ _ _ _) ⟨wV_X2_leastBelow, wL_X2_leastBelow⟩ wM_X2_101 (gCX2 _ _ _ _ _) rfl (A_87 hw) rfl ⟨le_t rfl, le_t rfl⟩ ⟨le_t rfl, le_t rfl⟩ rfl (le_t rfl) fun z12 μ8 T9 F10 h11 => ?_
    refine mr_istore (pc := 35) (lv' := [(4, iv z12), (0, .ref 87), (1, iv p1), (2, iv p2), (3, iv p3)]) dX2_leastBelow_35 (by decide) rfl ?_
    refine sv_aload_n (pc := 37) dX2_leastBelow_37 rfl rfl ?_
    refine mr_iload_n (pc := 38) (z := p1) dX2_leastBelow_38 rfl rfl ?_
    refine mr_iload_n (pc := 39) (z := p2) dX2_leastBelow_39 rfl rfl ?_
    refine mr_iconst (pc := 40) (z := 1) dX2_leastBelow_40 ?_
    refine mr_bipush (pc := 41) (z := 31) dX2_leastBelow_41 (by decide) ?_
    refine mr_iload_n (pc := 43) (z := p3) dX2_leastBelow_43 rfl rfl ?_
    refine mr_isub (pc := 44) (x := 31) (y := p3) dX2_leastBelow_44 ?_
    refine mr_ishl (pc := 45) (x := 1) (y := (31 - p3)) dX2_leastBelow_45 ?_
    refine mr_gen (P := fun z => (-2147483648) ≤ z ∧ z ≤ 2147483647) (r32i _) fun z13 q14 h15 => ?_
    refine mr_ior (pc := 46) (x := p2) (y := z13) dX2_leastBelow_46 ?_
    refine mr_gen (P := fun z => (-2147483648) ≤ z ∧ z ≤ 2147483647) (r32i _) fun z16 q17 h18 => ?_
    refine mr_iload_n (pc := 47) (z := p3) dX2_leastBelow_47 rfl rfl ?_
    refine mr_iconst (pc := 48) (z := 1) dX2_leastBelow_48 ?_
    refine mr_iadd (pc := 49) (x := p3) (y := 1) dX2_leastBelow_49 ?_
    refine mr_cVI (pc := 50) (c_X2_leastBelow_W20 hw T9 hp1 h18 (rAdd (e := 20) (f := 20) hp3 (rR (x := 1)) rfl) (vc_X9_end_1 hq0 hp1) ((((h11.2.1 T9 F10) h11.1) z13 q14) z16 q17)) (gOk _ _ _ _ _) dX2_leastBelow_50 (tX2_leastBelow _ _ _ _ _) ⟨wV_X2_leastBelow, wL_X2_leastBelow⟩ wM_X2_101 (gCX2 _ _ _ _ _) rfl (A_87 hw) rfl ⟨le_t rfl, le_t rfl⟩ ⟨le_t rfl, le_t rfl⟩ rfl (le_t rfl) fun z23 μ19 T20 F21 h22 => ?_
    refine mr_istore (pc := 53) (lv' := [(5, iv z23), (4, iv z12), (0, .ref 87), (1, iv p1), (2, iv p2), (3, iv p3)]) dX2_leastBelow_53 (by decide) rfl ?_
    refine mr_iload (pc := 55) (z := z12) dX2_leastBelow_55 rfl ?_
    refine mr_iload (pc := 57) (z := z23) dX2_leastBelow_57 rfl ?_
    refine mr_iand (pc := 59) (x := z12) (y := z23) dX2_leastBelow_59 ?_
    refine mr_gen (P := fun z => (-2147483648) ≤ z ∧ z ≤ 2147483647) (r32i _) fun z24 q25 h26 => ?_
    refine mr_if_eq (pc := 60) (tgt := 69) dX2_leastBelow_60 (by decide) h26 (fun h27 => ?_) (fun h27 => ?_)
    · have h28 : 0 ≤ z24 ∧ z24 ≤ 0 := (vc_X12_mask_1 h27 h26)
      refine sv_aload_n (pc := 69) dX2_leastBelow_69 rfl rfl ?_
      refine sv_dup (pc := 70) dX2_leastBelow_70 rfl ?_
      refine gf_X2_7 (pc := 71) dX2_leastBelow_71 wF_X2_98 (A_87 hw) T20 fun z29 q30 h31 => ?_
      refine mr_iconst (pc := 74) (z := 1) dX2_leastBelow_74 ?_
      refine mr_iadd (pc := 75) (x := z29) (y := 1) dX2_leastBelow_75 ?_
      refine mr_wrapF fun z32 h33 h34 => ?_
      refine pf_X2_7 (pc := 76) dX2_leastBelow_76 wF_X2_98 (A_87 hw) T20 h33 fun μ35 u36 T37 => ?_
      refine mr_iload (pc := 79) (z := z12) dX2_leastBelow_79 rfl ?_
      refine mr_iload (pc := 81) (z := z23) dX2_leastBelow_81 rfl ?_
      refine mr_ior (pc := 83) (x := z12) (y := z23) dX2_leastBelow_83 ?_
      refine mr_gen (P := fun z => (-2147483648) ≤ z ∧ z ≤ 2147483647) (r32i _) fun z38 q39 h40 => ?_
      exact mr_iret dX2_leastBelow_84 rfl (le_t rfl) (le_t rfl) T37 (mF.up (mF.call (mF.call mF.refl F10 rfl) F21 rfl) (A_87 hw) u36 rfl) ⟨h40, ((((((((h22.2.1 T20 F21) h22.1) z24 q25).1 h27) z29 q30 h31) z32 h33 h34) μ35 u36 T37) z38 q39), trivial⟩
    refine mr_iload (pc := 63) (z := z12) dX2_leastBelow_63 rfl ?_
    refine mr_iload (pc := 65) (z := z23) dX2_leastBelow_65 rfl ?_
    refine mr_iand (pc := 67) (x := z12) (y := z23) dX2_leastBelow_67 ?_
    refine mr_gen (P := fun z => (-2147483648) ≤ z ∧ z ≤ 2147483647) (r32i _) fun z41 q42 h43 => ?_
    exact mr_iret dX2_leastBelow_68 rfl (le_t rfl) (le_t rfl) T20 (mF.call (mF.call mF.refl F10 rfl) F21 rfl) ⟨h43, (((((h22.2.1 T20 F21) h22.1) z24 q25).2 h27) z41 q42), trivial⟩
  have h44 : 0 ≤ z5 ∧ z5 ≤ 0 := (vc_X12_ring_22 h6 h4.1)
  refine sv_aload_n (pc := 16) dX2_leastBelow_16 rfl rfl ?_
  refine mr_iload_n (pc := 17) (z := p1) dX2_leastBelow_17 rfl rfl ?_
  refine mr_iload_n (pc := 18) (z := p2) dX2_leastBelow_18 rfl rfl ?_
  refine mr_cVP (pc := 19) (c_X2_tieFor_W hw hT hp1 hp2 (vc_X9_end_1 hq0 hp1) ((h4.2.1 h4.1).2 h6)) (gOk _ _ _ _ _) dX2_leastBelow_19 (tX2_tieFor _ _ _ _ _) ⟨wV_X2_tieFor, wL_X2_tieFor⟩ wM_X2_60 (gCX2 _ _ _ _ _) rfl (A_87 hw) rfl ⟨le_t rfl, le_t rfl⟩ ⟨le_t rfl, le_t rfl⟩ rfl (le_t rfl) fun z49 h48 => ?_
  refine mr_cSP (pc := 22) (c_X2_aimBit_W hw hT h48.1 (h48.2.2.2.1 h48.1)) (gOk _ _ _ _ _) dX2_leastBelow_22 (tX2_aimBit _ _ _ _ _) wS_X2_aimBit wM_X2_110 ⟨le_t rfl, le_t rfl⟩ ⟨le_t rfl, le_t rfl⟩ rfl (le_t rfl) fun z54 h53 => ?_
  exact mr_iret dX2_leastBelow_25 rfl (le_t rfl) (le_t rfl) hT mF.refl ⟨h53.1, (h53.2.1 h53.1), trivial⟩
def WP_X2_leastBelow_W18 (w : mW) (μ : mM) (p1 : Int) (p2 : Int) (p3 : Int) (Q : Int → mM → Prop) : Prop := WP_X2_isSplit_W w μ p1 p2 p3 (fun z5 _ => (0 ≤ z5 ∧ z5 ≤ 1) → ((¬ z5 = 0) → WP_X2_leastBelow_W19 w μ p1 p2 (p3 + 1) (fun z12 μ8 => mT w μ8 → mF [87007] w μ μ8 → ((-2147483648) ≤ z12 ∧ z12 ≤ 2147483647) → ∀ z13 : Int, bShl (1 : Int) (31 - p3) = z13 → ∀ z16 : Int, bOr p2 z13 = z16 → WP_X2_leastBelow_W19 w μ8 p1 z16 (p3 + 1) (fun z23 μ19 => mT w μ19 → mF [87007] w μ8 μ19 → ((-2147483648) ≤ z23 ∧ z23 ≤ 2147483647) → ∀ z24 : Int, bAnd z12 z23 = z24 → ((z24 = 0) → ∀ z29 : Int, μ19 87 7 = z29 → ((-2147483648) ≤ z29 ∧ z29 ≤ 2147483647) → ∀ z32 : Int, (-2147483648 ≤ z32 ∧ z32 ≤ 2147483647) → (z32 - (z29 + 1)) % 4294967296 = 0 → ∀ μ35 : mM, mU μ19 87 (7) z32 μ35 → mT w μ35 → ∀ z38 : Int, bOr z12 z23 = z38 → Q z38 μ35) ∧ ((¬ z24 = 0) → ∀ z41 : Int, bAnd z12 z23 = z41 → Q z41 μ19)))) ∧ ((z5 = 0) → WP_X2_tieFor_W w μ p1 p2 (fun z49 _ => ((-99999999) ≤ z49 ∧ z49 ≤ 19) → WP_X2_aimBit_W w μ z49 (fun z54 _ => ((-2147483648) ≤ z54 ∧ z54 ≤ 2147483647) → Q z54 μ))))
theorem vc_X2_leastBelow_W18_1 {p3 : Int} (h0 : 32 ≤ p3) (h1 : 18 ≤ p3 ∧ p3 ≤ 18) : False := by omega
set_option maxRecDepth 4000 in
set_option maxHeartbeats 4000000 in
theorem c_X2_leastBelow_W18 {l : Launch} {D : va_G} {c : Nat → ClassId} {H0 : Heap} {sa : Nat × Nat × (Nat → Int32)} {w : mW} {μ : mM} (hw : mWF w) (hT : mT w μ) {p1 : Int} (hp1 : 0 ≤ p1 ∧ p1 ≤ 9) {p2 : Int} (hp2 : (-2147483648) ≤ p2 ∧ p2 ≤ 2147483647) {p3 : Int} (hp3 : 18 ≤ p3 ∧ p3 ≤ 18) (hq0 : p1 < w.2.2.2 0) {Q : Int → mM → Prop} (hQ : WP_X2_leastBelow_W18 w μ p1 p2 p3 Q) : sC (gG l D c H0 sa) mX2_leastBelow 17 0 0 [.ref 87, iv p1, iv p2, iv p3] (mk w μ) (qI w [87007] μ (fun z μ1 => ((-2147483648) ≤ z ∧ z ≤ 2147483647) ∧ Q z μ1 ∧ True)) := by
  refine sC.of rfl (by decide) (le_t rfl) ?_
  refine mr_lvE (lv' := [(0, .ref 87), (1, iv p1), (2, iv p2), (3, iv p3)]) rfl ?_
  refine mr_iload_n (pc := 0) (z := p3) dX2_leastBelow_0 rfl rfl ?_
  refine mr_bipush (pc := 1) (z := 32) dX2_leastBelow_1 (by decide) ?_
  refine mr_icmp_ge (pc := 3) (tgt := 16) dX2_leastBelow_3 (by decide) (r32 hp3 rfl) (r32 (rR (x := 32)) rfl) (fun h => ((vc_X2_leastBelow_W18_1 h hp3)).elim) (fun _ => ?_)
  refine sv_aload_n (pc := 6) dX2_leastBelow_6 rfl rfl ?_
  refine mr_iload_n (pc := 7) (z := p1) dX2_leastBelow_7 rfl rfl ?_
  refine mr_iload_n (pc := 8) (z := p2) dX2_leastBelow_8 rfl rfl ?_
  refine mr_iload_n (pc := 9) (z := p3) dX2_leastBelow_9 rfl rfl ?_
  refine mr_cVP (pc := 10) (c_X2_isSplit_W hw hT hp1 hp2 (rW (c := (-2147483648)) (d := 2147483647) hp3 rfl) (vc_X9_end_1 hq0 hp1) hQ) (gOk _ _ _ _ _) dX2_leastBelow_10 (tX2_isSplit _ _ _ _ _) ⟨wV_X2_isSplit, wL_X2_isSplit⟩ wM_X2_106 (gCX2 _ _ _ _ _) rfl (A_87 hw) rfl ⟨le_t rfl, le_t rfl⟩ ⟨le_t rfl, le_t rfl⟩ rfl (le_t rfl) fun z5 h4 => ?_
  refine mr_if_ne (pc := 13) (tgt := 26) dX2_leastBelow_13 (by decide) (r32 h4.1 rfl) (fun h6 => ?_) (fun h6 => ?_)
  · have h7 : 1 ≤ z5 ∧ z5 ≤ 1 := (vc_X12_ring_24 h6 h4.1)
    refine sv_aload_n (pc := 26) dX2_leastBelow_26 rfl rfl ?_
    refine mr_iload_n (pc := 27) (z := p1) dX2_leastBelow_27 rfl rfl ?_
    refine mr_iload_n (pc := 28) (z := p2) dX2_leastBelow_28 rfl rfl ?_
    refine mr_iload_n (pc := 29) (z := p3) dX2_leastBelow_29 rfl rfl ?_
    refine mr_iconst (pc := 30) (z := 1) dX2_leastBelow_30 ?_
    refine mr_iadd (pc := 31) (x := p3) (y := 1) dX2_leastBelow_31 ?_
    refine mr_cVI (pc := 32) (c_X2_leastBelow_W19 hw hT hp1 hp2 (rAdd (e := 19) (f := 19) hp3 (rR (x := 1)) rfl) (vc_X9_end_1 hq0 hp1) ((h4.2.1 h4.1).1 h6)) (gOk _ _ _ _ _) dX2_leastBelow_32 (tX2_leastBelow _ _ _ _ _) ⟨wV_X2_leastBelow, wL_X2_leastBelow⟩ wM_X2_101 (gCX2 _ _ _ _ _) rfl (A_87 hw) rfl ⟨le_t rfl, le_t rfl⟩ ⟨le_t rfl, le_t rfl⟩ rfl (le_t rfl) fun z12 μ8 T9 F10 h11 => ?_
    refine mr_istore (pc := 35) (lv' := [(4, iv z12), (0, .ref 87), (1, iv p1), (2, iv p2), (3, iv p3)]) dX2_leastBelow_35 (by decide) rfl ?_
    refine sv_aload_n (pc := 37) dX2_leastBelow_37 rfl rfl ?_
    refine mr_iload_n (pc := 38) (z := p1) dX2_leastBelow_38 rfl rfl ?_
    refine mr_iload_n (pc := 39) (z := p2) dX2_leastBelow_39 rfl rfl ?_
    refine mr_iconst (pc := 40) (z := 1) dX2_leastBelow_40 ?_
    refine mr_bipush (pc := 41) (z := 31) dX2_leastBelow_41 (by decide) ?_
    refine mr_iload_n (pc := 43) (z := p3) dX2_leastBelow_43 rfl rfl ?_
    refine mr_isub (pc := 44) (x := 31) (y := p3) dX2_leastBelow_44 ?_
    refine mr_ishl (pc := 45) (x := 1) (y := (31 - p3)) dX2_leastBelow_45 ?_
    refine mr_gen (P := fun z => (-2147483648) ≤ z ∧ z ≤ 2147483647) (r32i _) fun z13 q14 h15 => ?_
    refine mr_ior (pc := 46) (x := p2) (y := z13) dX2_leastBelow_46 ?_
    refine mr_gen (P := fun z => (-2147483648) ≤ z ∧ z ≤ 2147483647) (r32i _) fun z16 q17 h18 => ?_
    refine mr_iload_n (pc := 47) (z := p3) dX2_leastBelow_47 rfl rfl ?_
    refine mr_iconst (pc := 48) (z := 1) dX2_leastBelow_48 ?_
    refine mr_iadd (pc := 49) (x := p3) (y := 1) dX2_leastBelow_49 ?_
    refine mr_cVI (pc := 50) (c_X2_leastBelow_W19 hw T9 hp1 h18 (rAdd (e := 19) (f := 19) hp3 (rR (x := 1)) rfl) (vc_X9_end_1 hq0 hp1) ((((h11.2.1 T9 F10) h11.1) z13 q14) z16 q17)) (gOk _ _ _ _ _) dX2_leastBelow_50 (tX2_leastBelow _ _ _ _ _) ⟨wV_X2_leastBelow, wL_X2_leastBelow⟩ wM_X2_101 (gCX2 _ _ _ _ _) rfl (A_87 hw) rfl ⟨le_t rfl, le_t rfl⟩ ⟨le_t rfl, le_t rfl⟩ rfl (le_t rfl) fun z23 μ19 T20 F21 h22 => ?_
    refine mr_istore (pc := 53) (lv' := [(5, iv z23), (4, iv z12), (0, .ref 87), (1, iv p1), (2, iv p2), (3, iv p3)]) dX2_leastBelow_53 (by decide) rfl ?_
    refine mr_iload (pc := 55) (z := z12) dX2_leastBelow_55 rfl ?_
    refine mr_iload (pc := 57) (z := z23) dX2_leastBelow_57 rfl ?_
    refine mr_iand (pc := 59) (x := z12) (y := z23) dX2_leastBelow_59 ?_
    refine mr_gen (P := fun z => (-2147483648) ≤ z ∧ z ≤ 2147483647) (r32i _) fun z24 q25 h26 => ?_
    refine mr_if_eq (pc := 60) (tgt := 69) dX2_leastBelow_60 (by decide) h26 (fun h27 => ?_) (fun h27 => ?_)
    · have h28 : 0 ≤ z24 ∧ z24 ≤ 0 := (vc_X12_mask_1 h27 h26)
      refine sv_aload_n (pc := 69) dX2_leastBelow_69 rfl rfl ?_
      refine sv_dup (pc := 70) dX2_leastBelow_70 rfl ?_
      refine gf_X2_7 (pc := 71) dX2_leastBelow_71 wF_X2_98 (A_87 hw) T20 fun z29 q30 h31 => ?_
      refine mr_iconst (pc := 74) (z := 1) dX2_leastBelow_74 ?_
      refine mr_iadd (pc := 75) (x := z29) (y := 1) dX2_leastBelow_75 ?_
      refine mr_wrapF fun z32 h33 h34 => ?_
      refine pf_X2_7 (pc := 76) dX2_leastBelow_76 wF_X2_98 (A_87 hw) T20 h33 fun μ35 u36 T37 => ?_
      refine mr_iload (pc := 79) (z := z12) dX2_leastBelow_79 rfl ?_
      refine mr_iload (pc := 81) (z := z23) dX2_leastBelow_81 rfl ?_
      refine mr_ior (pc := 83) (x := z12) (y := z23) dX2_leastBelow_83 ?_
      refine mr_gen (P := fun z => (-2147483648) ≤ z ∧ z ≤ 2147483647) (r32i _) fun z38 q39 h40 => ?_
      exact mr_iret dX2_leastBelow_84 rfl (le_t rfl) (le_t rfl) T37 (mF.up (mF.call (mF.call mF.refl F10 rfl) F21 rfl) (A_87 hw) u36 rfl) ⟨h40, ((((((((h22.2.1 T20 F21) h22.1) z24 q25).1 h27) z29 q30 h31) z32 h33 h34) μ35 u36 T37) z38 q39), trivial⟩
    refine mr_iload (pc := 63) (z := z12) dX2_leastBelow_63 rfl ?_
    refine mr_iload (pc := 65) (z := z23) dX2_leastBelow_65 rfl ?_
    refine mr_iand (pc := 67) (x := z12) (y := z23) dX2_leastBelow_67 ?_
    refine mr_gen (P := fun z => (-2147483648) ≤ z ∧ z ≤ 2147483647) (r32i _) fun z41 q42 h43 => ?_
    exact mr_iret dX2_leastBelow_68 rfl (le_t rfl) (le_t rfl) T20 (mF.call (mF.call mF.refl F10 rfl) F21 rfl) ⟨h43, (((((h22.2.1 T20 F21) h22.1) z24 q25).2 h27) z41 q42), trivial⟩
  have h44 : 0 ≤ z5 ∧ z5 ≤ 0 := (vc_X12_ring_22 h6 h4.1)
  refine sv_aload_n (pc := 16) dX2_leastBelow_16 rfl rfl ?_
  refine mr_iload_n (pc := 17) (z := p1) dX2_leastBelow_17 rfl rfl ?_
  refine mr_iload_n (pc := 18) (z := p2) dX2_leastBelow_18 rfl rfl ?_
  refine mr_cVP (pc := 19) (c_X2_tieFor_W hw hT hp1 hp2 (vc_X9_end_1 hq0 hp1) ((h4.2.1 h4.1).2 h6)) (gOk _ _ _ _ _) dX2_leastBelow_19 (tX2_tieFor _ _ _ _ _) ⟨wV_X2_tieFor, wL_X2_tieFor⟩ wM_X2_60 (gCX2 _ _ _ _ _) rfl (A_87 hw) rfl ⟨le_t rfl, le_t rfl⟩ ⟨le_t rfl, le_t rfl⟩ rfl (le_t rfl) fun z49 h48 => ?_
  refine mr_cSP (pc := 22) (c_X2_aimBit_W hw hT h48.1 (h48.2.2.2.1 h48.1)) (gOk _ _ _ _ _) dX2_leastBelow_22 (tX2_aimBit _ _ _ _ _) wS_X2_aimBit wM_X2_110 ⟨le_t rfl, le_t rfl⟩ ⟨le_t rfl, le_t rfl⟩ rfl (le_t rfl) fun z54 h53 => ?_
  exact mr_iret dX2_leastBelow_25 rfl (le_t rfl) (le_t rfl) hT mF.refl ⟨h53.1, (h53.2.1 h53.1), trivial⟩
def WP_X2_leastBelow_W17 (w : mW) (μ : mM) (p1 : Int) (p2 : Int) (p3 : Int) (Q : Int → mM → Prop) : Prop := WP_X2_isSplit_W w μ p1 p2 p3 (fun z5 _ => (0 ≤ z5 ∧ z5 ≤ 1) → ((¬ z5 = 0) → WP_X2_leastBelow_W18 w μ p1 p2 (p3 + 1) (fun z12 μ8 => mT w μ8 → mF [87007] w μ μ8 → ((-2147483648) ≤ z12 ∧ z12 ≤ 2147483647) → ∀ z13 : Int, bShl (1 : Int) (31 - p3) = z13 → ∀ z16 : Int, bOr p2 z13 = z16 → WP_X2_leastBelow_W18 w μ8 p1 z16 (p3 + 1) (fun z23 μ19 => mT w μ19 → mF [87007] w μ8 μ19 → ((-2147483648) ≤ z23 ∧ z23 ≤ 2147483647) → ∀ z24 : Int, bAnd z12 z23 = z24 → ((z24 = 0) → ∀ z29 : Int, μ19 87 7 = z29 → ((-2147483648) ≤ z29 ∧ z29 ≤ 2147483647) → ∀ z32 : Int, (-2147483648 ≤ z32 ∧ z32 ≤ 2147483647) → (z32 - (z29 + 1)) % 4294967296 = 0 → ∀ μ35 : mM, mU μ19 87 (7) z32 μ35 → mT w μ35 → ∀ z38 : Int, bOr z12 z23 = z38 → Q z38 μ35) ∧ ((¬ z24 = 0) → ∀ z41 : Int, bAnd z12 z23 = z41 → Q z41 μ19)))) ∧ ((z5 = 0) → WP_X2_tieFor_W w μ p1 p2 (fun z49 _ => ((-99999999) ≤ z49 ∧ z49 ≤ 19) → WP_X2_aimBit_W w μ z49 (fun z54 _ => ((-2147483648) ≤ z54 ∧ z54 ≤ 2147483647) → Q z54 μ))))
theorem vc_X2_leastBelow_W17_1 {p3 : Int} (h0 : 32 ≤ p3) (h1 : 17 ≤ p3 ∧ p3 ≤ 17) : False := by omega
set_option maxRecDepth 4000 in
set_option maxHeartbeats 4000000 in
theorem c_X2_leastBelow_W17 {l : Launch} {D : va_G} {c : Nat → ClassId} {H0 : Heap} {sa : Nat × Nat × (Nat → Int32)} {w : mW} {μ : mM} (hw : mWF w) (hT : mT w μ) {p1 : Int} (hp1 : 0 ≤ p1 ∧ p1 ≤ 9) {p2 : Int} (hp2 : (-2147483648) ≤ p2 ∧ p2 ≤ 2147483647) {p3 : Int} (hp3 : 17 ≤ p3 ∧ p3 ≤ 17) (hq0 : p1 < w.2.2.2 0) {Q : Int → mM → Prop} (hQ : WP_X2_leastBelow_W17 w μ p1 p2 p3 Q) : sC (gG l D c H0 sa) mX2_leastBelow 18 0 0 [.ref 87, iv p1, iv p2, iv p3] (mk w μ) (qI w [87007] μ (fun z μ1 => ((-2147483648) ≤ z ∧ z ≤ 2147483647) ∧ Q z μ1 ∧ True)) := by
  refine sC.of rfl (by decide) (le_t rfl) ?_
  refine mr_lvE (lv' := [(0, .ref 87), (1, iv p1), (2, iv p2), (3, iv p3)]) rfl ?_
  refine mr_iload_n (pc := 0) (z := p3) dX2_leastBelow_0 rfl rfl ?_
  refine mr_bipush (pc := 1) (z := 32) dX2_leastBelow_1 (by decide) ?_
  refine mr_icmp_ge (pc := 3) (tgt := 16) dX2_leastBelow_3 (by decide) (r32 hp3 rfl) (r32 (rR (x := 32)) rfl) (fun h => ((vc_X2_leastBelow_W17_1 h hp3)).elim) (fun _ => ?_)
  refine sv_aload_n (pc := 6) dX2_leastBelow_6 rfl rfl ?_
  refine mr_iload_n (pc := 7) (z := p1) dX2_leastBelow_7 rfl rfl ?_
  refine mr_iload_n (pc := 8) (z := p2) dX2_leastBelow_8 rfl rfl ?_
  refine mr_iload_n (pc := 9) (z := p3) dX2_leastBelow_9 rfl rfl ?_
  refine mr_cVP (pc := 10) (c_X2_isSplit_W hw hT hp1 hp2 (rW (c := (-2147483648)) (d := 2147483647) hp3 rfl) (vc_X9_end_1 hq0 hp1) hQ) (gOk _ _ _ _ _) dX2_leastBelow_10 (tX2_isSplit _ _ _ _ _) ⟨wV_X2_isSplit, wL_X2_isSplit⟩ wM_X2_106 (gCX2 _ _ _ _ _) rfl (A_87 hw) rfl ⟨le_t rfl, le_t rfl⟩ ⟨le_t rfl, le_t rfl⟩ rfl (le_t rfl) fun z5 h4 => ?_
  refine mr_if_ne (pc := 13) (tgt := 26) dX2_leastBelow_13 (by decide) (r32 h4.1 rfl) (fun h6 => ?_) (fun h6 => ?_)
  · have h7 : 1 ≤ z5 ∧ z5 ≤ 1 := (vc_X12_ring_24 h6 h4.1)
    refine sv_aload_n (pc := 26) dX2_leastBelow_26 rfl rfl ?_
    refine mr_iload_n (pc := 27) (z := p1) dX2_leastBelow_27 rfl rfl ?_
    refine mr_iload_n (pc := 28) (z := p2) dX2_leastBelow_28 rfl rfl ?_
    refine mr_iload_n (pc := 29) (z := p3) dX2_leastBelow_29 rfl rfl ?_
    refine mr_iconst (pc := 30) (z := 1) dX2_leastBelow_30 ?_
    refine mr_iadd (pc := 31) (x := p3) (y := 1) dX2_leastBelow_31 ?_
    refine mr_cVI (pc := 32) (c_X2_leastBelow_W18 hw hT hp1 hp2 (rAdd (e := 18) (f := 18) hp3 (rR (x := 1)) rfl) (vc_X9_end_1 hq0 hp1) ((h4.2.1 h4.1).1 h6)) (gOk _ _ _ _ _) dX2_leastBelow_32 (tX2_leastBelow _ _ _ _ _) ⟨wV_X2_leastBelow, wL_X2_leastBelow⟩ wM_X2_101 (gCX2 _ _ _ _ _) rfl (A_87 hw) rfl ⟨le_t rfl, le_t rfl⟩ ⟨le_t rfl, le_t rfl⟩ rfl (le_t rfl) fun z12 μ8 T9 F10 h11 => ?_
    refine mr_istore (pc := 35) (lv' := [(4, iv z12), (0, .ref 87), (1, iv p1), (2, iv p2), (3, iv p3)]) dX2_leastBelow_35 (by decide) rfl ?_
    refine sv_aload_n (pc := 37) dX2_leastBelow_37 rfl rfl ?_
    refine mr_iload_n (pc := 38) (z := p1) dX2_leastBelow_38 rfl rfl ?_
    refine mr_iload_n (pc := 39) (z := p2) dX2_leastBelow_39 rfl rfl ?_
    refine mr_iconst (pc := 40) (z := 1) dX2_leastBelow_40 ?_
    refine mr_bipush (pc := 41) (z := 31) dX2_leastBelow_41 (by decide) ?_
    refine mr_iload_n (pc := 43) (z := p3) dX2_leastBelow_43 rfl rfl ?_
    refine mr_isub (pc := 44) (x := 31) (y := p3) dX2_leastBelow_44 ?_
    refine mr_ishl (pc := 45) (x := 1) (y := (31 - p3)) dX2_leastBelow_45 ?_
    refine mr_gen (P := fun z => (-2147483648) ≤ z ∧ z ≤ 2147483647) (r32i _) fun z13 q14 h15 => ?_
    refine mr_ior (pc := 46) (x := p2) (y := z13) dX2_leastBelow_46 ?_
    refine mr_gen (P := fun z => (-2147483648) ≤ z ∧ z ≤ 2147483647) (r32i _) fun z16 q17 h18 => ?_
    refine mr_iload_n (pc := 47) (z := p3) dX2_leastBelow_47 rfl rfl ?_
    refine mr_iconst (pc := 48) (z := 1) dX2_leastBelow_48 ?_
    refine mr_iadd (pc := 49) (x := p3) (y := 1) dX2_leastBelow_49 ?_
    refine mr_cVI (pc := 50) (c_X2_leastBelow_W18 hw T9 hp1 h18 (rAdd (e := 18) (f := 18) hp3 (rR (x := 1)) rfl) (vc_X9_end_1 hq0 hp1) ((((h11.2.1 T9 F10) h11.1) z13 q14) z16 q17)) (gOk _ _ _ _ _) dX2_leastBelow_50 (tX2_leastBelow _ _ _ _ _) ⟨wV_X2_leastBelow, wL_X2_leastBelow⟩ wM_X2_101 (gCX2 _ _ _ _ _) rfl (A_87 hw) rfl ⟨le_t rfl, le_t rfl⟩ ⟨le_t rfl, le_t rfl⟩ rfl (le_t rfl) fun z23 μ19 T20 F21 h22 => ?_
    refine mr_istore (pc := 53) (lv' := [(5, iv z23), (4, iv z12), (0, .ref 87), (1, iv p1), (2, iv p2), (3, iv p3)]) dX2_leastBelow_53 (by decide) rfl ?_
    refine mr_iload (pc := 55) (z := z12) dX2_leastBelow_55 rfl ?_
    refine mr_iload (pc := 57) (z := z23) dX2_leastBelow_57 rfl ?_
    refine mr_iand (pc := 59) (x := z12) (y := z23) dX2_leastBelow_59 ?_
    refine mr_gen (P := fun z => (-2147483648) ≤ z ∧ z ≤ 2147483647) (r32i _) fun z24 q25 h26 => ?_
    refine mr_if_eq (pc := 60) (tgt := 69) dX2_leastBelow_60 (by decide) h26 (fun h27 => ?_) (fun h27 => ?_)
    · have h28 : 0 ≤ z24 ∧ z24 ≤ 0 := (vc_X12_mask_1 h27 h26)
      refine sv_aload_n (pc := 69) dX2_leastBelow_69 rfl rfl ?_
      refine sv_dup (pc := 70) dX2_leastBelow_70 rfl ?_
      refine gf_X2_7 (pc := 71) dX2_leastBelow_71 wF_X2_98 (A_87 hw) T20 fun z29 q30 h31 => ?_
      refine mr_iconst (pc := 74) (z := 1) dX2_leastBelow_74 ?_
      refine mr_iadd (pc := 75) (x := z29) (y := 1) dX2_leastBelow_75 ?_
      refine mr_wrapF fun z32 h33 h34 => ?_
      refine pf_X2_7 (pc := 76) dX2_leastBelow_76 wF_X2_98 (A_87 hw) T20 h33 fun μ35 u36 T37 => ?_
      refine mr_iload (pc := 79) (z := z12) dX2_leastBelow_79 rfl ?_
      refine mr_iload (pc := 81) (z := z23) dX2_leastBelow_81 rfl ?_
      refine mr_ior (pc := 83) (x := z12) (y := z23) dX2_leastBelow_83 ?_
      refine mr_gen (P := fun z => (-2147483648) ≤ z ∧ z ≤ 2147483647) (r32i _) fun z38 q39 h40 => ?_
      exact mr_iret dX2_leastBelow_84 rfl (le_t rfl) (le_t rfl) T37 (mF.up (mF.call (mF.call mF.refl F10 rfl) F21 rfl) (A_87 hw) u36 rfl) ⟨h40, ((((((((h22.2.1 T20 F21) h22.1) z24 q25).1 h27) z29 q30 h31) z32 h33 h34) μ35 u36 T37) z38 q39), trivial⟩
    refine mr_iload (pc := 63) (z := z12) dX2_leastBelow_63 rfl ?_
    refine mr_iload (pc := 65) (z := z23) dX2_leastBelow_65 rfl ?_
    refine mr_iand (pc := 67) (x := z12) (y := z23) dX2_leastBelow_67 ?_
    refine mr_gen (P := fun z => (-2147483648) ≤ z ∧ z ≤ 2147483647) (r32i _) fun z41 q42 h43 => ?_
    exact mr_iret dX2_leastBelow_68 rfl (le_t rfl) (le_t rfl) T20 (mF.call (mF.call mF.refl F10 rfl) F21 rfl) ⟨h43, (((((h22.2.1 T20 F21) h22.1) z24 q25).2 h27) z41 q42), trivial⟩
  have h44 : 0 ≤ z5 ∧ z5 ≤ 0 := (vc_X12_ring_22 h6 h4.1)
  refine sv_aload_n (pc := 16) dX2_leastBelow_16 rfl rfl ?_
  refine mr_iload_n (pc := 17) (z := p1) dX2_leastBelow_17 rfl rfl ?_
  refine mr_iload_n (pc := 18) (z := p2) dX2_leastBelow_18 rfl rfl ?_
  refine mr_cVP (pc := 19) (c_X2_tieFor_W hw hT hp1 hp2 (vc_X9_end_1 hq0 hp1) ((h4.2.1 h4.1).2 h6)) (gOk _ _ _ _ _) dX2_leastBelow_19 (tX2_tieFor _ _ _ _ _) ⟨wV_X2_tieFor, wL_X2_tieFor⟩ wM_X2_60 (gCX2 _ _ _ _ _) rfl (A_87 hw) rfl ⟨le_t rfl, le_t rfl⟩ ⟨le_t rfl, le_t rfl⟩ rfl (le_t rfl) fun z49 h48 => ?_
  refine mr_cSP (pc := 22) (c_X2_aimBit_W hw hT h48.1 (h48.2.2.2.1 h48.1)) (gOk _ _ _ _ _) dX2_leastBelow_22 (tX2_aimBit _ _ _ _ _) wS_X2_aimBit wM_X2_110 ⟨le_t rfl, le_t rfl⟩ ⟨le_t rfl, le_t rfl⟩ rfl (le_t rfl) fun z54 h53 => ?_
  exact mr_iret dX2_leastBelow_25 rfl (le_t rfl) (le_t rfl) hT mF.refl ⟨h53.1, (h53.2.1 h53.1), trivial⟩
def WP_X2_leastBelow_W16 (w : mW) (μ : mM) (p1 : Int) (p2 : Int) (p3 : Int) (Q : Int → mM → Prop) : Prop := WP_X2_isSplit_W w μ p1 p2 p3 (fun z5 _ => (0 ≤ z5 ∧ z5 ≤ 1) → ((¬ z5 = 0) → WP_X2_leastBelow_W17 w μ p1 p2 (p3 + 1) (fun z12 μ8 => mT w μ8 → mF [87007] w μ μ8 → ((-2147483648) ≤ z12 ∧ z12 ≤ 2147483647) → ∀ z13 : Int, bShl (1 : Int) (31 - p3) = z13 → ∀ z16 : Int, bOr p2 z13 = z16 → WP_X2_leastBelow_W17 w μ8 p1 z16 (p3 + 1) (fun z23 μ19 => mT w μ19 → mF [87007] w μ8 μ19 → ((-2147483648) ≤ z23 ∧ z23 ≤ 2147483647) → ∀ z24 : Int, bAnd z12 z23 = z24 → ((z24 = 0) → ∀ z29 : Int, μ19 87 7 = z29 → ((-2147483648) ≤ z29 ∧ z29 ≤ 2147483647) → ∀ z32 : Int, (-2147483648 ≤ z32 ∧ z32 ≤ 2147483647) → (z32 - (z29 + 1)) % 4294967296 = 0 → ∀ μ35 : mM, mU μ19 87 (7) z32 μ35 → mT w μ35 → ∀ z38 : Int, bOr z12 z23 = z38 → Q z38 μ35) ∧ ((¬ z24 = 0) → ∀ z41 : Int, bAnd z12 z23 = z41 → Q z41 μ19)))) ∧ ((z5 = 0) → WP_X2_tieFor_W w μ p1 p2 (fun z49 _ => ((-99999999) ≤ z49 ∧ z49 ≤ 19) → WP_X2_aimBit_W w μ z49 (fun z54 _ => ((-2147483648) ≤ z54 ∧ z54 ≤ 2147483647) → Q z54 μ))))
theorem vc_X2_leastBelow_W16_1 {p3 : Int} (h0 : 32 ≤ p3) (h1 : 16 ≤ p3 ∧ p3 ≤ 16) : False := by omega
set_option maxRecDepth 4000 in
set_option maxHeartbeats 4000000 in
theorem c_X2_leastBelow_W16 {l : Launch} {D : va_G} {c : Nat → ClassId} {H0 : Heap} {sa : Nat × Nat × (Nat → Int32)} {w : mW} {μ : mM} (hw : mWF w) (hT : mT w μ) {p1 : Int} (hp1 : 0 ≤ p1 ∧ p1 ≤ 9) {p2 : Int} (hp2 : (-2147483648) ≤ p2 ∧ p2 ≤ 2147483647) {p3 : Int} (hp3 : 16 ≤ p3 ∧ p3 ≤ 16) (hq0 : p1 < w.2.2.2 0) {Q : Int → mM → Prop} (hQ : WP_X2_leastBelow_W16 w μ p1 p2 p3 Q) : sC (gG l D c H0 sa) mX2_leastBelow 19 0 0 [.ref 87, iv p1, iv p2, iv p3] (mk w μ) (qI w [87007] μ (fun z μ1 => ((-2147483648) ≤ z ∧ z ≤ 2147483647) ∧ Q z μ1 ∧ True)) := by
  refine sC.of rfl (by decide) (le_t rfl) ?_
  refine mr_lvE (lv' := [(0, .ref 87), (1, iv p1), (2, iv p2), (3, iv p3)]) rfl ?_
  refine mr_iload_n (pc := 0) (z := p3) dX2_leastBelow_0 rfl rfl ?_
  refine mr_bipush (pc := 1) (z := 32) dX2_leastBelow_1 (by decide) ?_
  refine mr_icmp_ge (pc := 3) (tgt := 16) dX2_leastBelow_3 (by decide) (r32 hp3 rfl) (r32 (rR (x := 32)) rfl) (fun h => ((vc_X2_leastBelow_W16_1 h hp3)).elim) (fun _ => ?_)
  refine sv_aload_n (pc := 6) dX2_leastBelow_6 rfl rfl ?_
  refine mr_iload_n (pc := 7) (z := p1) dX2_leastBelow_7 rfl rfl ?_
  refine mr_iload_n (pc := 8) (z := p2) dX2_leastBelow_8 rfl rfl ?_
  refine mr_iload_n (pc := 9) (z := p3) dX2_leastBelow_9 rfl rfl ?_
  refine mr_cVP (pc := 10) (c_X2_isSplit_W hw hT hp1 hp2 (rW (c := (-2147483648)) (d := 2147483647) hp3 rfl) (vc_X9_end_1 hq0 hp1) hQ) (gOk _ _ _ _ _) dX2_leastBelow_10 (tX2_isSplit _ _ _ _ _) ⟨wV_X2_isSplit, wL_X2_isSplit⟩ wM_X2_106 (gCX2 _ _ _ _ _) rfl (A_87 hw) rfl ⟨le_t rfl, le_t rfl⟩ ⟨le_t rfl, le_t rfl⟩ rfl (le_t rfl) fun z5 h4 => ?_
  refine mr_if_ne (pc := 13) (tgt := 26) dX2_leastBelow_13 (by decide) (r32 h4.1 rfl) (fun h6 => ?_) (fun h6 => ?_)
  · have h7 : 1 ≤ z5 ∧ z5 ≤ 1 := (vc_X12_ring_24 h6 h4.1)
    refine sv_aload_n (pc := 26) dX2_leastBelow_26 rfl rfl ?_
    refine mr_iload_n (pc := 27) (z := p1) dX2_leastBelow_27 rfl rfl ?_
    refine mr_iload_n (pc := 28) (z := p2) dX2_leastBelow_28 rfl rfl ?_
    refine mr_iload_n (pc := 29) (z := p3) dX2_leastBelow_29 rfl rfl ?_
    refine mr_iconst (pc := 30) (z := 1) dX2_leastBelow_30 ?_
    refine mr_iadd (pc := 31) (x := p3) (y := 1) dX2_leastBelow_31 ?_
    refine mr_cVI (pc := 32) (c_X2_leastBelow_W17 hw hT hp1 hp2 (rAdd (e := 17) (f := 17) hp3 (rR (x := 1)) rfl) (vc_X9_end_1 hq0 hp1) ((h4.2.1 h4.1).1 h6)) (gOk _ _ _ _ _) dX2_leastBelow_32 (tX2_leastBelow _ _ _ _ _) ⟨wV_X2_leastBelow, wL_X2_leastBelow⟩ wM_X2_101 (gCX2 _ _ _ _ _) rfl (A_87 hw) rfl ⟨le_t rfl, le_t rfl⟩ ⟨le_t rfl, le_t rfl⟩ rfl (le_t rfl) fun z12 μ8 T9 F10 h11 => ?_
    refine mr_istore (pc := 35) (lv' := [(4, iv z12), (0, .ref 87), (1, iv p1), (2, iv p2), (3, iv p3)]) dX2_leastBelow_35 (by decide) rfl ?_
    refine sv_aload_n (pc := 37) dX2_leastBelow_37 rfl rfl ?_
    refine mr_iload_n (pc := 38) (z := p1) dX2_leastBelow_38 rfl rfl ?_
    refine mr_iload_n (pc := 39) (z := p2) dX2_leastBelow_39 rfl rfl ?_
    refine mr_iconst (pc := 40) (z := 1) dX2_leastBelow_40 ?_
    refine mr_bipush (pc := 41) (z := 31) dX2_leastBelow_41 (by decide) ?_
    refine mr_iload_n (pc := 43) (z := p3) dX2_leastBelow_43 rfl rfl ?_
    refine mr_isub (pc := 44) (x := 31) (y := p3) dX2_leastBelow_44 ?_
    refine mr_ishl (pc := 45) (x := 1) (y := (31 - p3)) dX2_leastBelow_45 ?_
    refine mr_gen (P := fun z => (-2147483648) ≤ z ∧ z ≤ 2147483647) (r32i _) fun z13 q14 h15 => ?_
    refine mr_ior (pc := 46) (x := p2) (y := z13) dX2_leastBelow_46 ?_
    refine mr_gen (P := fun z => (-2147483648) ≤ z ∧ z ≤ 2147483647) (r32i _) fun z16 q17 h18 => ?_
    refine mr_iload_n (pc := 47) (z := p3) dX2_leastBelow_47 rfl rfl ?_
    refine mr_iconst (pc := 48) (z := 1) dX2_leastBelow_48 ?_
    refine mr_iadd (pc := 49) (x := p3) (y := 1) dX2_leastBelow_49 ?_
    refine mr_cVI (pc := 50) (c_X2_leastBelow_W17 hw T9 hp1 h18 (rAdd (e := 17) (f := 17) hp3 (rR (x := 1)) rfl) (vc_X9_end_1 hq0 hp1) ((((h11.2.1 T9 F10) h11.1) z13 q14) z16 q17)) (gOk _ _ _ _ _) dX2_leastBelow_50 (tX2_leastBelow _ _ _ _ _) ⟨wV_X2_leastBelow, wL_X2_leastBelow⟩ wM_X2_101 (gCX2 _ _ _ _ _) rfl (A_87 hw) rfl ⟨le_t rfl, le_t rfl⟩ ⟨le_t rfl, le_t rfl⟩ rfl (le_t rfl) fun z23 μ19 T20 F21 h22 => ?_
    refine mr_istore (pc := 53) (lv' := [(5, iv z23), (4, iv z12), (0, .ref 87), (1, iv p1), (2, iv p2), (3, iv p3)]) dX2_leastBelow_53 (by decide) rfl ?_
    refine mr_iload (pc := 55) (z := z12) dX2_leastBelow_55 rfl ?_
    refine mr_iload (pc := 57) (z := z23) dX2_leastBelow_57 rfl ?_
    refine mr_iand (pc := 59) (x := z12) (y := z23) dX2_leastBelow_59 ?_
    refine mr_gen (P := fun z => (-2147483648) ≤ z ∧ z ≤ 2147483647) (r32i _) fun z24 q25 h26 => ?_
    refine mr_if_eq (pc := 60) (tgt := 69) dX2_leastBelow_60 (by decide) h26 (fun h27 => ?_) (fun h27 => ?_)
    · have h28 : 0 ≤ z24 ∧ z24 ≤ 0 := (vc_X12_mask_1 h27 h26)
      refine sv_aload_n (pc := 69) dX2_leastBelow_69 rfl rfl ?_
      refine sv_dup (pc := 70) dX2_leastBelow_70 rfl ?_
      refine gf_X2_7 (pc := 71) dX2_leastBelow_71 wF_X2_98 (A_87 hw) T20 fun z29 q30 h31 => ?_
      refine mr_iconst (pc := 74) (z := 1) dX2_leastBelow_74 ?_
      refine mr_iadd (pc := 75) (x := z29) (y := 1) dX2_leastBelow_75 ?_
      refine mr_wrapF fun z32 h33 h34 => ?_
      refine pf_X2_7 (pc := 76) dX2_leastBelow_76 wF_X2_98 (A_87 hw) T20 h33 fun μ35 u36 T37 => ?_
      refine mr_iload (pc := 79) (z := z12) dX2_leastBelow_79 rfl ?_
      refine mr_iload (pc := 81) (z := z23) dX2_leastBelow_81 rfl ?_
      refine mr_ior (pc := 83) (x := z12) (y := z23) dX2_leastBelow_83 ?_
      refine mr_gen (P := fun z => (-2147483648) ≤ z ∧ z ≤ 2147483647) (r32i _) fun z38 q39 h40 => ?_
      exact mr_iret dX2_leastBelow_84 rfl (le_t rfl) (le_t rfl) T37 (mF.up (mF.call (mF.call mF.refl F10 rfl) F21 rfl) (A_87 hw) u36 rfl) ⟨h40, ((((((((h22.2.1 T20 F21) h22.1) z24 q25).1 h27) z29 q30 h31) z32 h33 h34) μ35 u36 T37) z38 q39), trivial⟩
    refine mr_iload (pc := 63) (z := z12) dX2_leastBelow_63 rfl ?_
    refine mr_iload (pc := 65) (z := z23) dX2_leastBelow_65 rfl ?_
    refine mr_iand (pc := 67) (x := z12) (y := z23) dX2_leastBelow_67 ?_
    refine mr_gen (P := fun z => (-2147483648) ≤ z ∧ z ≤ 2147483647) (r32i _) fun z41 q42 h43 => ?_
    exact mr_iret dX2_leastBelow_68 rfl (le_t rfl) (le_t rfl) T20 (mF.call (mF.call mF.refl F10 rfl) F21 rfl) ⟨h43, (((((h22.2.1 T20 F21) h22.1) z24 q25).2 h27) z41 q42), trivial⟩
  have h44 : 0 ≤ z5 ∧ z5 ≤ 0 := (vc_X12_ring_22 h6 h4.1)
  refine sv_aload_n (pc := 16) dX2_leastBelow_16 rfl rfl ?_
  refine mr_iload_n (pc := 17) (z := p1) dX2_leastBelow_17 rfl rfl ?_
  refine mr_iload_n (pc := 18) (z := p2) dX2_leastBelow_18 rfl rfl ?_
  refine mr_cVP (pc := 19) (c_X2_tieFor_W hw hT hp1 hp2 (vc_X9_end_1 hq0 hp1) ((h4.2.1 h4.1).2 h6)) (gOk _ _ _ _ _) dX2_leastBelow_19 (tX2_tieFor _ _ _ _ _) ⟨wV_X2_tieFor, wL_X2_tieFor⟩ wM_X2_60 (gCX2 _ _ _ _ _) rfl (A_87 hw) rfl ⟨le_t rfl, le_t rfl⟩ ⟨le_t rfl, le_t rfl⟩ rfl (le_t rfl) fun z49 h48 => ?_
  refine mr_cSP (pc := 22) (c_X2_aimBit_W hw hT h48.1 (h48.2.2.2.1 h48.1)) (gOk _ _ _ _ _) dX2_leastBelow_22 (tX2_aimBit _ _ _ _ _) wS_X2_aimBit wM_X2_110 ⟨le_t rfl, le_t rfl⟩ ⟨le_t rfl, le_t rfl⟩ rfl (le_t rfl) fun z54 h53 => ?_
  exact mr_iret dX2_leastBelow_25 rfl (le_t rfl) (le_t rfl) hT mF.refl ⟨h53.1, (h53.2.1 h53.1), trivial⟩
def WP_X2_leastBelow_W15 (w : mW) (μ : mM) (p1 : Int) (p2 : Int) (p3 : Int) (Q : Int → mM → Prop) : Prop := WP_X2_isSplit_W w μ p1 p2 p3 (fun z5 _ => (0 ≤ z5 ∧ z5 ≤ 1) → ((¬ z5 = 0) → WP_X2_leastBelow_W16 w μ p1 p2 (p3 + 1) (fun z12 μ8 => mT w μ8 → mF [87007] w μ μ8 → ((-2147483648) ≤ z12 ∧ z12 ≤ 2147483647) → ∀ z13 : Int, bShl (1 : Int) (31 - p3) = z13 → ∀ z16 : Int, bOr p2 z13 = z16 → WP_X2_leastBelow_W16 w μ8 p1 z16 (p3 + 1) (fun z23 μ19 => mT w μ19 → mF [87007] w μ8 μ19 → ((-2147483648) ≤ z23 ∧ z23 ≤ 2147483647) → ∀ z24 : Int, bAnd z12 z23 = z24 → ((z24 = 0) → ∀ z29 : Int, μ19 87 7 = z29 → ((-2147483648) ≤ z29 ∧ z29 ≤ 2147483647) → ∀ z32 : Int, (-2147483648 ≤ z32 ∧ z32 ≤ 2147483647) → (z32 - (z29 + 1)) % 4294967296 = 0 → ∀ μ35 : mM, mU μ19 87 (7) z32 μ35 → mT w μ35 → ∀ z38 : Int, bOr z12 z23 = z38 → Q z38 μ35) ∧ ((¬ z24 = 0) → ∀ z41 : Int, bAnd z12 z23 = z41 → Q z41 μ19)))) ∧ ((z5 = 0) → WP_X2_tieFor_W w μ p1 p2 (fun z49 _ => ((-99999999) ≤ z49 ∧ z49 ≤ 19) → WP_X2_aimBit_W w μ z49 (fun z54 _ => ((-2147483648) ≤ z54 ∧ z54 ≤ 2147483647) → Q z54 μ))))
theorem vc_X2_leastBelow_W15_1 {p3 : Int} (h0 : 32 ≤ p3) (h1 : 15 ≤ p3 ∧ p3 ≤ 15) : False := by omega
set_option maxRecDepth 4000 in
set_option maxHeartbeats 4000000 in
theorem c_X2_leastBelow_W15 {l : Launch} {D : va_G} {c : Nat → ClassId} {H0 : Heap} {sa : Nat × Nat × (Nat → Int32)} {w : mW} {μ : mM} (hw : mWF w) (hT : mT w μ) {p1 : Int} (hp1 : 0 ≤ p1 ∧ p1 ≤ 9) {p2 : Int} (hp2 : (-2147483648) ≤ p2 ∧ p2 ≤ 2147483647) {p3 : Int} (hp3 : 15 ≤ p3 ∧ p3 ≤ 15) (hq0 : p1 < w.2.2.2 0) {Q : Int → mM → Prop} (hQ : WP_X2_leastBelow_W15 w μ p1 p2 p3 Q) : sC (gG l D c H0 sa) mX2_leastBelow 20 0 0 [.ref 87, iv p1, iv p2, iv p3] (mk w μ) (qI w [87007] μ (fun z μ1 => ((-2147483648) ≤ z ∧ z ≤ 2147483647) ∧ Q z μ1 ∧ True)) := by
  refine sC.of rfl (by decide) (le_t rfl) ?_
  refine mr_lvE (lv' := [(0, .ref 87), (1, iv p1), (2, iv p2), (3, iv p3)]) rfl ?_
  refine mr_iload_n (pc := 0) (z := p3) dX2_leastBelow_0 rfl rfl ?_
  refine mr_bipush (pc := 1) (z := 32) dX2_leastBelow_1 (by decide) ?_
  refine mr_icmp_ge (pc := 3) (tgt := 16) dX2_leastBelow_3 (by decide) (r32 hp3 rfl) (r32 (rR (x := 32)) rfl) (fun h => ((vc_X2_leastBelow_W15_1 h hp3)).elim) (fun _ => ?_)
  refine sv_aload_n (pc := 6) dX2_leastBelow_6 rfl rfl ?_
  refine mr_iload_n (pc := 7) (z := p1) dX2_leastBelow_7 rfl rfl ?_
  refine mr_iload_n (pc := 8) (z := p2) dX2_leastBelow_8 rfl rfl ?_
  refine mr_iload_n (pc := 9) (z := p3) dX2_leastBelow_9 rfl rfl ?_
  refine mr_cVP (pc := 10) (c_X2_isSplit_W hw hT hp1 hp2 (rW (c := (-2147483648)) (d := 2147483647) hp3 rfl) (vc_X9_end_1 hq0 hp1) hQ) (gOk _ _ _ _ _) dX2_leastBelow_10 (tX2_isSplit _ _ _ _ _) ⟨wV_X2_isSplit, wL_X2_isSplit⟩ wM_X2_106 (gCX2 _ _ _ _ _) rfl (A_87 hw) rfl ⟨le_t rfl, le_t rfl⟩ ⟨le_t rfl, le_t rfl⟩ rfl (le_t rfl) fun z5 h4 => ?_
  refine mr_if_ne (pc := 13) (tgt := 26) dX2_leastBelow_13 (by decide) (r32 h4.1 rfl) (fun h6 => ?_) (fun h6 => ?_)
  · have h7 : 1 ≤ z5 ∧ z5 ≤ 1 := (vc_X12_ring_24 h6 h4.1)
    refine sv_aload_n (pc := 26) dX2_leastBelow_26 rfl rfl ?_
    refine mr_iload_n (pc := 27) (z := p1) dX2_leastBelow_27 rfl rfl ?_
    refine mr_iload_n (pc := 28) (z := p2) dX2_leastBelow_28 rfl rfl ?_
    refine mr_iload_n (pc := 29) (z := p3) dX2_leastBelow_29 rfl rfl ?_
    refine mr_iconst (pc := 30) (z := 1) dX2_leastBelow_30 ?_
    refine mr_iadd (pc := 31) (x := p3) (y := 1) dX2_leastBelow_31 ?_
    refine mr_cVI (pc := 32) (c_X2_leastBelow_W16 hw hT hp1 hp2 (rAdd (e := 16) (f := 16) hp3 (rR (x := 1)) rfl) (vc_X9_end_1 hq0 hp1) ((h4.2.1 h4.1).1 h6)) (gOk _ _ _ _ _) dX2_leastBelow_32 (tX2_leastBelow _ _ _ _ _) ⟨wV_X2_leastBelow, wL_X2_leastBelow⟩ wM_X2_101 (gCX2 _ _ _ _ _) rfl (A_87 hw) rfl ⟨le_t rfl, le_t rfl⟩ ⟨le_t rfl, le_t rfl⟩ rfl (le_t rfl) fun z12 μ8 T9 F10 h11 => ?_
    refine mr_istore (pc := 35) (lv' := [(4, iv z12), (0, .ref 87), (1, iv p1), (2, iv p2), (3, iv p3)]) dX2_leastBelow_35 (by decide) rfl ?_
    refine sv_aload_n (pc := 37) dX2_leastBelow_37 rfl rfl ?_
    refine mr_iload_n (pc := 38) (z := p1) dX2_leastBelow_38 rfl rfl ?_
    refine mr_iload_n (pc := 39) (z := p2) dX2_leastBelow_39 rfl rfl ?_
    refine mr_iconst (pc := 40) (z := 1) dX2_leastBelow_40 ?_
    refine mr_bipush (pc := 41) (z := 31) dX2_leastBelow_41 (by decide) ?_
    refine mr_iload_n (pc := 43) (z := p3) dX2_leastBelow_43 rfl rfl ?_
    refine mr_isub (pc := 44) (x := 31) (y := p3) dX2_leastBelow_44 ?_
    refine mr_ishl (pc := 45) (x := 1) (y := (31 - p3)) dX2_leastBelow_45 ?_
    refine mr_gen (P := fun z => (-2147483648) ≤ z ∧ z ≤ 2147483647) (r32i _) fun z13 q14 h15 => ?_
    refine mr_ior (pc := 46) (x := p2) (y := z13) dX2_leastBelow_46 ?_
    refine mr_gen (P := fun z => (-2147483648) ≤ z ∧ z ≤ 2147483647) (r32i _) fun z16 q17 h18 => ?_
    refine mr_iload_n (pc := 47) (z := p3) dX2_leastBelow_47 rfl rfl ?_
    refine mr_iconst (pc := 48) (z := 1) dX2_leastBelow_48 ?_
    refine mr_iadd (pc := 49) (x := p3) (y := 1) dX2_leastBelow_49 ?_
    refine mr_cVI (pc := 50) (c_X2_leastBelow_W16 hw T9 hp1 h18 (rAdd (e := 16) (f := 16) hp3 (rR (x := 1)) rfl) (vc_X9_end_1 hq0 hp1) ((((h11.2.1 T9 F10) h11.1) z13 q14) z16 q17)) (gOk _ _ _ _ _) dX2_leastBelow_50 (tX2_leastBelow _ _ _ _ _) ⟨wV_X2_leastBelow, wL_X2_leastBelow⟩ wM_X2_101 (gCX2 _ _ _ _ _) rfl (A_87 hw) rfl ⟨le_t rfl, le_t rfl⟩ ⟨le_t rfl, le_t rfl⟩ rfl (le_t rfl) fun z23 μ19 T20 F21 h22 => ?_
    refine mr_istore (pc := 53) (lv' := [(5, iv z23), (4, iv z12), (0, .ref 87), (1, iv p1), (2, iv p2), (3, iv p3)]) dX2_leastBelow_53 (by decide) rfl ?_
    refine mr_iload (pc := 55) (z := z12) dX2_leastBelow_55 rfl ?_
    refine mr_iload (pc := 57) (z := z23) dX2_leastBelow_57 rfl ?_
    refine mr_iand (pc := 59) (x := z12) (y := z23) dX2_leastBelow_59 ?_
    refine mr_gen (P := fun z => (-2147483648) ≤ z ∧ z ≤ 2147483647) (r32i _) fun z24 q25 h26 => ?_
    refine mr_if_eq (pc := 60) (tgt := 69) dX2_leastBelow_60 (by decide) h26 (fun h27 => ?_) (fun h27 => ?_)
    · have h28 : 0 ≤ z24 ∧ z24 ≤ 0 := (vc_X12_mask_1 h27 h26)
      refine sv_aload_n (pc := 69) dX2_leastBelow_69 rfl rfl ?_
      refine sv_dup (pc := 70) dX2_leastBelow_70 rfl ?_
      refine gf_X2_7 (pc := 71) dX2_leastBelow_71 wF_X2_98 (A_87 hw) T20 fun z29 q30 h31 => ?_
      refine mr_iconst (pc := 74) (z := 1) dX2_leastBelow_74 ?_
      refine mr_iadd (pc := 75) (x := z29) (y := 1) dX2_leastBelow_75 ?_
      refine mr_wrapF fun z32 h33 h34 => ?_
      refine pf_X2_7 (pc := 76) dX2_leastBelow_76 wF_X2_98 (A_87 hw) T20 h33 fun μ35 u36 T37 => ?_
      refine mr_iload (pc := 79) (z := z12) dX2_leastBelow_79 rfl ?_
      refine mr_iload (pc := 81) (z := z23) dX2_leastBelow_81 rfl ?_
      refine mr_ior (pc := 83) (x := z12) (y := z23) dX2_leastBelow_83 ?_
      refine mr_gen (P := fun z => (-2147483648) ≤ z ∧ z ≤ 2147483647) (r32i _) fun z38 q39 h40 => ?_
      exact mr_iret dX2_leastBelow_84 rfl (le_t rfl) (le_t rfl) T37 (mF.up (mF.call (mF.call mF.refl F10 rfl) F21 rfl) (A_87 hw) u36 rfl) ⟨h40, ((((((((h22.2.1 T20 F21) h22.1) z24 q25).1 h27) z29 q30 h31) z32 h33 h34) μ35 u36 T37) z38 q39), trivial⟩
    refine mr_iload (pc := 63) (z := z12) dX2_leastBelow_63 rfl ?_
    refine mr_iload (pc := 65) (z := z23) dX2_leastBelow_65 rfl ?_
    refine mr_iand (pc := 67) (x := z12) (y := z23) dX2_leastBelow_67 ?_
    refine mr_gen (P := fun z => (-2147483648) ≤ z ∧ z ≤ 2147483647) (r32i _) fun z41 q42 h43 => ?_
    exact mr_iret dX2_leastBelow_68 rfl (le_t rfl) (le_t rfl) T20 (mF.call (mF.call mF.refl F10 rfl) F21 rfl) ⟨h43, (((((h22.2.1 T20 F21) h22.1) z24 q25).2 h27) z41 q42), trivial⟩
  have h44 : 0 ≤ z5 ∧ z5 ≤ 0 := (vc_X12_ring_22 h6 h4.1)
  refine sv_aload_n (pc := 16) dX2_leastBelow_16 rfl rfl ?_
  refine mr_iload_n (pc := 17) (z := p1) dX2_leastBelow_17 rfl rfl ?_
  refine mr_iload_n (pc := 18) (z := p2) dX2_leastBelow_18 rfl rfl ?_
  refine mr_cVP (pc := 19) (c_X2_tieFor_W hw hT hp1 hp2 (vc_X9_end_1 hq0 hp1) ((h4.2.1 h4.1).2 h6)) (gOk _ _ _ _ _) dX2_leastBelow_19 (tX2_tieFor _ _ _ _ _) ⟨wV_X2_tieFor, wL_X2_tieFor⟩ wM_X2_60 (gCX2 _ _ _ _ _) rfl (A_87 hw) rfl ⟨le_t rfl, le_t rfl⟩ ⟨le_t rfl, le_t rfl⟩ rfl (le_t rfl) fun z49 h48 => ?_
  refine mr_cSP (pc := 22) (c_X2_aimBit_W hw hT h48.1 (h48.2.2.2.1 h48.1)) (gOk _ _ _ _ _) dX2_leastBelow_22 (tX2_aimBit _ _ _ _ _) wS_X2_aimBit wM_X2_110 ⟨le_t rfl, le_t rfl⟩ ⟨le_t rfl, le_t rfl⟩ rfl (le_t rfl) fun z54 h53 => ?_
  exact mr_iret dX2_leastBelow_25 rfl (le_t rfl) (le_t rfl) hT mF.refl ⟨h53.1, (h53.2.1 h53.1), trivial⟩
def WP_X2_leastBelow_W14 (w : mW) (μ : mM) (p1 : Int) (p2 : Int) (p3 : Int) (Q : Int → mM → Prop) : Prop := WP_X2_isSplit_W w μ p1 p2 p3 (fun z5 _ => (0 ≤ z5 ∧ z5 ≤ 1) → ((¬ z5 = 0) → WP_X2_leastBelow_W15 w μ p1 p2 (p3 + 1) (fun z12 μ8 => mT w μ8 → mF [87007] w μ μ8 → ((-2147483648) ≤ z12 ∧ z12 ≤ 2147483647) → ∀ z13 : Int, bShl (1 : Int) (31 - p3) = z13 → ∀ z16 : Int, bOr p2 z13 = z16 → WP_X2_leastBelow_W15 w μ8 p1 z16 (p3 + 1) (fun z23 μ19 => mT w μ19 → mF [87007] w μ8 μ19 → ((-2147483648) ≤ z23 ∧ z23 ≤ 2147483647) → ∀ z24 : Int, bAnd z12 z23 = z24 → ((z24 = 0) → ∀ z29 : Int, μ19 87 7 = z29 → ((-2147483648) ≤ z29 ∧ z29 ≤ 2147483647) → ∀ z32 : Int, (-2147483648 ≤ z32 ∧ z32 ≤ 2147483647) → (z32 - (z29 + 1)) % 4294967296 = 0 → ∀ μ35 : mM, mU μ19 87 (7) z32 μ35 → mT w μ35 → ∀ z38 : Int, bOr z12 z23 = z38 → Q z38 μ35) ∧ ((¬ z24 = 0) → ∀ z41 : Int, bAnd z12 z23 = z41 → Q z41 μ19)))) ∧ ((z5 = 0) → WP_X2_tieFor_W w μ p1 p2 (fun z49 _ => ((-99999999) ≤ z49 ∧ z49 ≤ 19) → WP_X2_aimBit_W w μ z49 (fun z54 _ => ((-2147483648) ≤ z54 ∧ z54 ≤ 2147483647) → Q z54 μ))))
theorem vc_X2_leastBelow_W14_1 {p3 : Int} (h0 : 32 ≤ p3) (h1 : 14 ≤ p3 ∧ p3 ≤ 14) : False := by omega
set_option maxRecDepth 4000 in
set_option maxHeartbeats 4000000 in
theorem c_X2_leastBelow_W14 {l : Launch} {D : va_G} {c : Nat → ClassId} {H0 : Heap} {sa : Nat × Nat × (Nat → Int32)} {w : mW} {μ : mM} (hw : mWF w) (hT : mT w μ) {p1 : Int} (hp1 : 0 ≤ p1 ∧ p1 ≤ 9) {p2 : Int} (hp2 : (-2147483648) ≤ p2 ∧ p2 ≤ 2147483647) {p3 : Int} (hp3 : 14 ≤ p3 ∧ p3 ≤ 14) (hq0 : p1 < w.2.2.2 0) {Q : Int → mM → Prop} (hQ : WP_X2_leastBelow_W14 w μ p1 p2 p3 Q) : sC (gG l D c H0 sa) mX2_leastBelow 21 0 0 [.ref 87, iv p1, iv p2, iv p3] (mk w μ) (qI w [87007] μ (fun z μ1 => ((-2147483648) ≤ z ∧ z ≤ 2147483647) ∧ Q z μ1 ∧ True)) := by
  refine sC.of rfl (by decide) (le_t rfl) ?_
  refine mr_lvE (lv' := [(0, .ref 87), (1, iv p1), (2, iv p2), (3, iv p3)]) rfl ?_
  refine mr_iload_n (pc := 0) (z := p3) dX2_leastBelow_0 rfl rfl ?_
  refine mr_bipush (pc := 1) (z := 32) dX2_leastBelow_1 (by decide) ?_
  refine mr_icmp_ge (pc := 3) (tgt := 16) dX2_leastBelow_3 (by decide) (r32 hp3 rfl) (r32 (rR (x := 32)) rfl) (fun h => ((vc_X2_leastBelow_W14_1 h hp3)).elim) (fun _ => ?_)
  refine sv_aload_n (pc := 6) dX2_leastBelow_6 rfl rfl ?_
  refine mr_iload_n (pc := 7) (z := p1) dX2_leastBelow_7 rfl rfl ?_
  refine mr_iload_n (pc := 8) (z := p2) dX2_leastBelow_8 rfl rfl ?_
  refine mr_iload_n (pc := 9) (z := p3) dX2_leastBelow_9 rfl rfl ?_
  refine mr_cVP (pc := 10) (c_X2_isSplit_W hw hT hp1 hp2 (rW (c := (-2147483648)) (d := 2147483647) hp3 rfl) (vc_X9_end_1 hq0 hp1) hQ) (gOk _ _ _ _ _) dX2_leastBelow_10 (tX2_isSplit _ _ _ _ _) ⟨wV_X2_isSplit, wL_X2_isSplit⟩ wM_X2_106 (gCX2 _ _ _ _ _) rfl (A_87 hw) rfl ⟨le_t rfl, le_t rfl⟩ ⟨le_t rfl, le_t rfl⟩ rfl (le_t rfl) fun z5 h4 => ?_
  refine mr_if_ne (pc := 13) (tgt := 26) dX2_leastBelow_13 (by decide) (r32 h4.1 rfl) (fun h6 => ?_) (fun h6 => ?_)
  · have h7 : 1 ≤ z5 ∧ z5 ≤ 1 := (vc_X12_ring_24 h6 h4.1)
    refine sv_aload_n (pc := 26) dX2_leastBelow_26 rfl rfl ?_
    refine mr_iload_n (pc := 27) (z := p1) dX2_leastBelow_27 rfl rfl ?_
    refine mr_iload_n (pc := 28) (z := p2) dX2_leastBelow_28 rfl rfl ?_
    refine mr_iload_n (pc := 29) (z := p3) dX2_leastBelow_29 rfl rfl ?_
    refine mr_iconst (pc := 30) (z := 1) dX2_leastBelow_30 ?_
    refine mr_iadd (pc := 31) (x := p3) (y := 1) dX2_leastBelow_31 ?_
    refine mr_cVI (pc := 32) (c_X2_leastBelow_W15 hw hT hp1 hp2 (rAdd (e := 15) (f := 15) hp3 (rR (x := 1)) rfl) (vc_X9_end_1 hq0 hp1) ((h4.2.1 h4.1).1 h6)) (gOk _ _ _ _ _) dX2_leastBelow_32 (tX2_leastBelow _ _ _ _ _) ⟨wV_X2_leastBelow, wL_X2_leastBelow⟩ wM_X2_101 (gCX2 _ _ _ _ _) rfl (A_87 hw) rfl ⟨le_t rfl, le_t rfl⟩ ⟨le_t rfl, le_t rfl⟩ rfl (le_t rfl) fun z12 μ8 T9 F10 h11 => ?_
    refine mr_istore (pc := 35) (lv' := [(4, iv z12), (0, .ref 87), (1, iv p1), (2, iv p2), (3, iv p3)]) dX2_leastBelow_35 (by decide) rfl ?_
    refine sv_aload_n (pc := 37) dX2_leastBelow_37 rfl rfl ?_
    refine mr_iload_n (pc := 38) (z := p1) dX2_leastBelow_38 rfl rfl ?_
    refine mr_iload_n (pc := 39) (z := p2) dX2_leastBelow_39 rfl rfl ?_
    refine mr_iconst (pc := 40) (z := 1) dX2_leastBelow_40 ?_
    refine mr_bipush (pc := 41) (z := 31) dX2_leastBelow_41 (by decide) ?_
    refine mr_iload_n (pc := 43) (z := p3) dX2_leastBelow_43 rfl rfl ?_
    refine mr_isub (pc := 44) (x := 31) (y := p3) dX2_leastBelow_44 ?_
    refine mr_ishl (pc := 45) (x := 1) (y := (31 - p3)) dX2_leastBelow_45 ?_
    refine mr_gen (P := fun z => (-2147483648) ≤ z ∧ z ≤ 2147483647) (r32i _) fun z13 q14 h15 => ?_
    refine mr_ior (pc := 46) (x := p2) (y := z13) dX2_leastBelow_46 ?_
    refine mr_gen (P := fun z => (-2147483648) ≤ z ∧ z ≤ 2147483647) (r32i _) fun z16 q17 h18 => ?_
    refine mr_iload_n (pc := 47) (z := p3) dX2_leastBelow_47 rfl rfl ?_
    refine mr_iconst (pc := 48) (z := 1) dX2_leastBelow_48 ?_
    refine mr_iadd (pc := 49) (x := p3) (y := 1) dX2_leastBelow_49 ?_
    refine mr_cVI (pc := 50) (c_X2_leastBelow_W15 hw T9 hp1 h18 (rAdd (e := 15) (f := 15) hp3 (rR (x := 1)) rfl) (vc_X9_end_1 hq0 hp1) ((((h11.2.1 T9 F10) h11.1) z13 q14) z16 q17)) (gOk _ _ _ _ _) dX2_leastBelow_50 (tX2_leastBelow _ _ _ _ _) ⟨wV_X2_leastBelow, wL_X2_leastBelow⟩ wM_X2_101 (gCX2 _ _ _ _ _) rfl (A_87 hw) rfl ⟨le_t rfl, le_t rfl⟩ ⟨le_t rfl, le_t rfl⟩ rfl (le_t rfl) fun z23 μ19 T20 F21 h22 => ?_
    refine mr_istore (pc := 53) (lv' := [(5, iv z23), (4, iv z12), (0, .ref 87), (1, iv p1), (2, iv p2), (3, iv p3)]) dX2_leastBelow_53 (by decide) rfl ?_
    refine mr_iload (pc := 55) (z := z12) dX2_leastBelow_55 rfl ?_
    refine mr_iload (pc := 57) (z := z23) dX2_leastBelow_57 rfl ?_
    refine mr_iand (pc := 59) (x := z12) (y := z23) dX2_leastBelow_59 ?_
    refine mr_gen (P := fun z => (-2147483648) ≤ z ∧ z ≤ 2147483647) (r32i _) fun z24 q25 h26 => ?_
    refine mr_if_eq (pc := 60) (tgt := 69) dX2_leastBelow_60 (by decide) h26 (fun h27 => ?_) (fun h27 => ?_)
    · have h28 : 0 ≤ z24 ∧ z24 ≤ 0 := (vc_X12_mask_1 h27 h26)
      refine sv_aload_n (pc := 69) dX2_leastBelow_69 rfl rfl ?_
      refine sv_dup (pc := 70) dX2_leastBelow_70 rfl ?_
      refine gf_X2_7 (pc := 71) dX2_leastBelow_71 wF_X2_98 (A_87 hw) T20 fun z29 q30 h31 => ?_
      refine mr_iconst (pc := 74) (z := 1) dX2_leastBelow_74 ?_
      refine mr_iadd (pc := 75) (x := z29) (y := 1) dX2_leastBelow_75 ?_
      refine mr_wrapF fun z32 h33 h34 => ?_
      refine pf_X2_7 (pc := 76) dX2_leastBelow_76 wF_X2_98 (A_87 hw) T20 h33 fun μ35 u36 T37 => ?_
      refine mr_iload (pc := 79) (z := z12) dX2_leastBelow_79 rfl ?_
      refine mr_iload (pc := 81) (z := z23) dX2_leastBelow_81 rfl ?_
      refine mr_ior (pc := 83) (x := z12) (y := z23) dX2_leastBelow_83 ?_
      refine mr_gen (P := fun z => (-2147483648) ≤ z ∧ z ≤ 2147483647) (r32i _) fun z38 q39 h40 => ?_
      exact mr_iret dX2_leastBelow_84 rfl (le_t rfl) (le_t rfl) T37 (mF.up (mF.call (mF.call mF.refl F10 rfl) F21 rfl) (A_87 hw) u36 rfl) ⟨h40, ((((((((h22.2.1 T20 F21) h22.1) z24 q25).1 h27) z29 q30 h31) z32 h33 h34) μ35 u36 T37) z38 q39), trivial⟩
    refine mr_iload (pc := 63) (z := z12) dX2_leastBelow_63 rfl ?_
    refine mr_iload (pc := 65) (z := z23) dX2_leastBelow_65 rfl ?_
    refine mr_iand (pc := 67) (x := z12) (y := z23) dX2_leastBelow_67 ?_
    refine mr_gen (P := fun z => (-2147483648) ≤ z ∧ z ≤ 2147483647) (r32i _) fun z41 q42 h43 => ?_
    exact mr_iret dX2_leastBelow_68 rfl (le_t rfl) (le_t rfl) T20 (mF.call (mF.call mF.refl F10 rfl) F21 rfl) ⟨h43, (((((h22.2.1 T20 F21) h22.1) z24 q25).2 h27) z41 q42), trivial⟩
  have h44 : 0 ≤ z5 ∧ z5 ≤ 0 := (vc_X12_ring_22 h6 h4.1)
  refine sv_aload_n (pc := 16) dX2_leastBelow_16 rfl rfl ?_
  refine mr_iload_n (pc := 17) (z := p1) dX2_leastBelow_17 rfl rfl ?_
  refine mr_iload_n (pc := 18) (z := p2) dX2_leastBelow_18 rfl rfl ?_
  refine mr_cVP (pc := 19) (c_X2_tieFor_W hw hT hp1 hp2 (vc_X9_end_1 hq0 hp1) ((h4.2.1 h4.1).2 h6)) (gOk _ _ _ _ _) dX2_leastBelow_19 (tX2_tieFor _ _ _ _ _) ⟨wV_X2_tieFor, wL_X2_tieFor⟩ wM_X2_60 (gCX2 _ _ _ _ _) rfl (A_87 hw) rfl ⟨le_t rfl, le_t rfl⟩ ⟨le_t rfl, le_t rfl⟩ rfl (le_t rfl) fun z49 h48 => ?_
  refine mr_cSP (pc := 22) (c_X2_aimBit_W hw hT h48.1 (h48.2.2.2.1 h48.1)) (gOk _ _ _ _ _) dX2_leastBelow_22 (tX2_aimBit _ _ _ _ _) wS_X2_aimBit wM_X2_110 ⟨le_t rfl, le_t rfl⟩ ⟨le_t rfl, le_t rfl⟩ rfl (le_t rfl) fun z54 h53 => ?_
  exact mr_iret dX2_leastBelow_25 rfl (le_t rfl) (le_t rfl) hT mF.refl ⟨h53.1, (h53.2.1 h53.1), trivial⟩
def WP_X2_leastBelow_W13 (w : mW) (μ : mM) (p1 : Int) (p2 : Int) (p3 : Int) (Q : Int → mM → Prop) : Prop := WP_X2_isSplit_W w μ p1 p2 p3 (fun z5 _ => (0 ≤ z5 ∧ z5 ≤ 1) → ((¬ z5 = 0) → WP_X2_leastBelow_W14 w μ p1 p2 (p3 + 1) (fun z12 μ8 => mT w μ8 → mF [87007] w μ μ8 → ((-2147483648) ≤ z12 ∧ z12 ≤ 2147483647) → ∀ z13 : Int, bShl (1 : Int) (31 - p3) = z13 → ∀ z16 : Int, bOr p2 z13 = z16 → WP_X2_leastBelow_W14 w μ8 p1 z16 (p3 + 1) (fun z23 μ19 => mT w μ19 → mF [87007] w μ8 μ19 → ((-2147483648) ≤ z23 ∧ z23 ≤ 2147483647) → ∀ z24 : Int, bAnd z12 z23 = z24 → ((z24 = 0) → ∀ z29 : Int, μ19 87 7 = z29 → ((-2147483648) ≤ z29 ∧ z29 ≤ 2147483647) → ∀ z32 : Int, (-2147483648 ≤ z32 ∧ z32 ≤ 2147483647) → (z32 - (z29 + 1)) % 4294967296 = 0 → ∀ μ35 : mM, mU μ19 87 (7) z32 μ35 → mT w μ35 → ∀ z38 : Int, bOr z12 z23 = z38 → Q z38 μ35) ∧ ((¬ z24 = 0) → ∀ z41 : Int, bAnd z12 z23 = z41 → Q z41 μ19)))) ∧ ((z5 = 0) → WP_X2_tieFor_W w μ p1 p2 (fun z49 _ => ((-99999999) ≤ z49 ∧ z49 ≤ 19) → WP_X2_aimBit_W w μ z49 (fun z54 _ => ((-2147483648) ≤ z54 ∧ z54 ≤ 2147483647) → Q z54 μ))))
theorem vc_X2_leastBelow_W13_1 {p3 : Int} (h0 : 32 ≤ p3) (h1 : 13 ≤ p3 ∧ p3 ≤ 13) : False := by omega
set_option maxRecDepth 4000 in
set_option maxHeartbeats 4000000 in
theorem c_X2_leastBelow_W13 {l : Launch} {D : va_G} {c : Nat → ClassId} {H0 : Heap} {sa : Nat × Nat × (Nat → Int32)} {w : mW} {μ : mM} (hw : mWF w) (hT : mT w μ) {p1 : Int} (hp1 : 0 ≤ p1 ∧ p1 ≤ 9) {p2 : Int} (hp2 : (-2147483648) ≤ p2 ∧ p2 ≤ 2147483647) {p3 : Int} (hp3 : 13 ≤ p3 ∧ p3 ≤ 13) (hq0 : p1 < w.2.2.2 0) {Q : Int → mM → Prop} (hQ : WP_X2_leastBelow_W13 w μ p1 p2 p3 Q) : sC (gG l D c H0 sa) mX2_leastBelow 22 0 0 [.ref 87, iv p1, iv p2, iv p3] (mk w μ) (qI w [87007] μ (fun z μ1 => ((-2147483648) ≤ z ∧ z ≤ 2147483647) ∧ Q z μ1 ∧ True)) := by
  refine sC.of rfl (by decide) (le_t rfl) ?_
  refine mr_lvE (lv' := [(0, .ref 87), (1, iv p1), (2, iv p2), (3, iv p3)]) rfl ?_
  refine mr_iload_n (pc := 0) (z := p3) dX2_leastBelow_0 rfl rfl ?_
  refine mr_bipush (pc := 1) (z := 32) dX2_leastBelow_1 (by decide) ?_
  refine mr_icmp_ge (pc := 3) (tgt := 16) dX2_leastBelow_3 (by decide) (r32 hp3 rfl) (r32 (rR (x := 32)) rfl) (fun h => ((vc_X2_leastBelow_W13_1 h hp3)).elim) (fun _ => ?_)
  refine sv_aload_n (pc := 6) dX2_leastBelow_6 rfl rfl ?_
  refine mr_iload_n (pc := 7) (z := p1) dX2_leastBelow_7 rfl rfl ?_
  refine mr_iload_n (pc := 8) (z := p2) dX2_leastBelow_8 rfl rfl ?_
  refine mr_iload_n (pc := 9) (z := p3) dX2_leastBelow_9 rfl rfl ?_
  refine mr_cVP (pc := 10) (c_X2_isSplit_W hw hT hp1 hp2 (rW (c := (-2147483648)) (d := 2147483647) hp3 rfl) (vc_X9_end_1 hq0 hp1) hQ) (gOk _ _ _ _ _) dX2_leastBelow_10 (tX2_isSplit _ _ _ _ _) ⟨wV_X2_isSplit, wL_X2_isSplit⟩ wM_X2_106 (gCX2 _ _ _ _ _) rfl (A_87 hw) rfl ⟨le_t rfl, le_t rfl⟩ ⟨le_t rfl, le_t rfl⟩ rfl (le_t rfl) fun z5 h4 => ?_
  refine mr_if_ne (pc := 13) (tgt := 26) dX2_leastBelow_13 (by decide) (r32 h4.1 rfl) (fun h6 => ?_) (fun h6 => ?_)
  · have h7 : 1 ≤ z5 ∧ z5 ≤ 1 := (vc_X12_ring_24 h6 h4.1)
    refine sv_aload_n (pc := 26) dX2_leastBelow_26 rfl rfl ?_
    refine mr_iload_n (pc := 27) (z := p1) dX2_leastBelow_27 rfl rfl ?_
    refine mr_iload_n (pc := 28) (z := p2) dX2_leastBelow_28 rfl rfl ?_
    refine mr_iload_n (pc := 29) (z := p3) dX2_leastBelow_29 rfl rfl ?_
    refine mr_iconst (pc := 30) (z := 1) dX2_leastBelow_30 ?_
    refine mr_iadd (pc := 31) (x := p3) (y := 1) dX2_leastBelow_31 ?_
    refine mr_cVI (pc := 32) (c_X2_leastBelow_W14 hw hT hp1 hp2 (rAdd (e := 14) (f := 14) hp3 (rR (x := 1)) rfl) (vc_X9_end_1 hq0 hp1) ((h4.2.1 h4.1).1 h6)) (gOk _ _ _ _ _) dX2_leastBelow_32 (tX2_leastBelow _ _ _ _ _) ⟨wV_X2_leastBelow, wL_X2_leastBelow⟩ wM_X2_101 (gCX2 _ _ _ _ _) rfl (A_87 hw) rfl ⟨le_t rfl, le_t rfl⟩ ⟨le_t rfl, le_t rfl⟩ rfl (le_t rfl) fun z12 μ8 T9 F10 h11 => ?_
    refine mr_istore (pc := 35) (lv' := [(4, iv z12), (0, .ref 87), (1, iv p1), (2, iv p2), (3, iv p3)]) dX2_leastBelow_35 (by decide) rfl ?_
    refine sv_aload_n (pc := 37) dX2_leastBelow_37 rfl rfl ?_
    refine mr_iload_n (pc := 38) (z := p1) dX2_leastBelow_38 rfl rfl ?_
    refine mr_iload_n (pc := 39) (z := p2) dX2_leastBelow_39 rfl rfl ?_
    refine mr_iconst (pc := 40) (z := 1) dX2_leastBelow_40 ?_
    refine mr_bipush (pc := 41) (z := 31) dX2_leastBelow_41 (by decide) ?_
    refine mr_iload_n (pc := 43) (z := p3) dX2_leastBelow_43 rfl rfl ?_
    refine mr_isub (pc := 44) (x := 31) (y := p3) dX2_leastBelow_44 ?_
    refine mr_ishl (pc := 45) (x := 1) (y := (31 - p3)) dX2_leastBelow_45 ?_
    refine mr_gen (P := fun z => (-2147483648) ≤ z ∧ z ≤ 2147483647) (r32i _) fun z13 q14 h15 => ?_
    refine mr_ior (pc := 46) (x := p2) (y := z13) dX2_leastBelow_46 ?_
    refine mr_gen (P := fun z => (-2147483648) ≤ z ∧ z ≤ 2147483647) (r32i _) fun z16 q17 h18 => ?_
    refine mr_iload_n (pc := 47) (z := p3) dX2_leastBelow_47 rfl rfl ?_
    refine mr_iconst (pc := 48) (z := 1) dX2_leastBelow_48 ?_
    refine mr_iadd (pc := 49) (x := p3) (y := 1) dX2_leastBelow_49 ?_
    refine mr_cVI (pc := 50) (c_X2_leastBelow_W14 hw T9 hp1 h18 (rAdd (e := 14) (f := 14) hp3 (rR (x := 1)) rfl) (vc_X9_end_1 hq0 hp1) ((((h11.2.1 T9 F10) h11.1) z13 q14) z16 q17)) (gOk _ _ _ _ _) dX2_leastBelow_50 (tX2_leastBelow _ _ _ _ _) ⟨wV_X2_leastBelow, wL_X2_leastBelow⟩ wM_X2_101 (gCX2 _ _ _ _ _) rfl (A_87 hw) rfl ⟨le_t rfl, le_t rfl⟩ ⟨le_t rfl, le_t rfl⟩ rfl (le_t rfl) fun z23 μ19 T20 F21 h22 => ?_
    refine mr_istore (pc := 53) (lv' := [(5, iv z23), (4, iv z12), (0, .ref 87), (1, iv p1), (2, iv p2), (3, iv p3)]) dX2_leastBelow_53 (by decide) rfl ?_
    refine mr_iload (pc := 55) (z := z12) dX2_leastBelow_55 rfl ?_
    refine mr_iload (pc := 57) (z := z23) dX2_leastBelow_57 rfl ?_
    refine mr_iand (pc := 59) (x := z12) (y := z23) dX2_leastBelow_59 ?_
    refine mr_gen (P := fun z => (-2147483648) ≤ z ∧ z ≤ 2147483647) (r32i _) fun z24 q25 h26 => ?_
    refine mr_if_eq (pc := 60) (tgt := 69) dX2_leastBelow_60 (by decide) h26 (fun h27 => ?_) (fun h27 => ?_)
    · have h28 : 0 ≤ z24 ∧ z24 ≤ 0 := (vc_X12_mask_1 h27 h26)
      refine sv_aload_n (pc := 69) dX2_leastBelow_69 rfl rfl ?_
      refine sv_dup (pc := 70) dX2_leastBelow_70 rfl ?_
      refine gf_X2_7 (pc := 71) dX2_leastBelow_71 wF_X2_98 (A_87 hw) T20 fun z29 q30 h31 => ?_
      refine mr_iconst (pc := 74) (z := 1) dX2_leastBelow_74 ?_
      refine mr_iadd (pc := 75) (x := z29) (y := 1) dX2_leastBelow_75 ?_
      refine mr_wrapF fun z32 h33 h34 => ?_
      refine pf_X2_7 (pc := 76) dX2_leastBelow_76 wF_X2_98 (A_87 hw) T20 h33 fun μ35 u36 T37 => ?_
      refine mr_iload (pc := 79) (z := z12) dX2_leastBelow_79 rfl ?_
      refine mr_iload (pc := 81) (z := z23) dX2_leastBelow_81 rfl ?_
      refine mr_ior (pc := 83) (x := z12) (y := z23) dX2_leastBelow_83 ?_
      refine mr_gen (P := fun z => (-2147483648) ≤ z ∧ z ≤ 2147483647) (r32i _) fun z38 q39 h40 => ?_
      exact mr_iret dX2_leastBelow_84 rfl (le_t rfl) (le_t rfl) T37 (mF.up (mF.call (mF.call mF.refl F10 rfl) F21 rfl) (A_87 hw) u36 rfl) ⟨h40, ((((((((h22.2.1 T20 F21) h22.1) z24 q25).1 h27) z29 q30 h31) z32 h33 h34) μ35 u36 T37) z38 q39), trivial⟩
    refine mr_iload (pc := 63) (z := z12) dX2_leastBelow_63 rfl ?_
    refine mr_iload (pc := 65) (z := z23) dX2_leastBelow_65 rfl ?_
    refine mr_iand (pc := 67) (x := z12) (y := z23) dX2_leastBelow_67 ?_
    refine mr_gen (P := fun z => (-2147483648) ≤ z ∧ z ≤ 2147483647) (r32i _) fun z41 q42 h43 => ?_
    exact mr_iret dX2_leastBelow_68 rfl (le_t rfl) (le_t rfl) T20 (mF.call (mF.call mF.refl F10 rfl) F21 rfl) ⟨h43, (((((h22.2.1 T20 F21) h22.1) z24 q25).2 h27) z41 q42), trivial⟩
  have h44 : 0 ≤ z5 ∧ z5 ≤ 0 := (vc_X12_ring_22 h6 h4.1)
  refine sv_aload_n (pc := 16) dX2_leastBelow_16 rfl rfl ?_
  refine mr_iload_n (pc := 17) (z := p1) dX2_leastBelow_17 rfl rfl ?_
  refine mr_iload_n (pc := 18) (z := p2) dX2_leastBelow_18 rfl rfl ?_
  refine mr_cVP (pc := 19) (c_X2_tieFor_W hw hT hp1 hp2 (vc_X9_end_1 hq0 hp1) ((h4.2.1 h4.1).2 h6)) (gOk _ _ _ _ _) dX2_leastBelow_19 (tX2_tieFor _ _ _ _ _) ⟨wV_X2_tieFor, wL_X2_tieFor⟩ wM_X2_60 (gCX2 _ _ _ _ _) rfl (A_87 hw) rfl ⟨le_t rfl, le_t rfl⟩ ⟨le_t rfl, le_t rfl⟩ rfl (le_t rfl) fun z49 h48 => ?_
  refine mr_cSP (pc := 22) (c_X2_aimBit_W hw hT h48.1 (h48.2.2.2.1 h48.1)) (gOk _ _ _ _ _) dX2_leastBelow_22 (tX2_aimBit _ _ _ _ _) wS_X2_aimBit wM_X2_110 ⟨le_t rfl, le_t rfl⟩ ⟨le_t rfl, le_t rfl⟩ rfl (le_t rfl) fun z54 h53 => ?_
  exact mr_iret dX2_leastBelow_25 rfl (le_t rfl) (le_t rfl) hT mF.refl ⟨h53.1, (h53.2.1 h53.1), trivial⟩
def WP_X2_leastBelow_W12 (w : mW) (μ : mM) (p1 : Int) (p2 : Int) (p3 : Int) (Q : Int → mM → Prop) : Prop := WP_X2_isSplit_W w μ p1 p2 p3 (fun z5 _ => (0 ≤ z5 ∧ z5 ≤ 1) → ((¬ z5 = 0) → WP_X2_leastBelow_W13 w μ p1 p2 (p3 + 1) (fun z12 μ8 => mT w μ8 → mF [87007] w μ μ8 → ((-2147483648) ≤ z12 ∧ z12 ≤ 2147483647) → ∀ z13 : Int, bShl (1 : Int) (31 - p3) = z13 → ∀ z16 : Int, bOr p2 z13 = z16 → WP_X2_leastBelow_W13 w μ8 p1 z16 (p3 + 1) (fun z23 μ19 => mT w μ19 → mF [87007] w μ8 μ19 → ((-2147483648) ≤ z23 ∧ z23 ≤ 2147483647) → ∀ z24 : Int, bAnd z12 z23 = z24 → ((z24 = 0) → ∀ z29 : Int, μ19 87 7 = z29 → ((-2147483648) ≤ z29 ∧ z29 ≤ 2147483647) → ∀ z32 : Int, (-2147483648 ≤ z32 ∧ z32 ≤ 2147483647) → (z32 - (z29 + 1)) % 4294967296 = 0 → ∀ μ35 : mM, mU μ19 87 (7) z32 μ35 → mT w μ35 → ∀ z38 : Int, bOr z12 z23 = z38 → Q z38 μ35) ∧ ((¬ z24 = 0) → ∀ z41 : Int, bAnd z12 z23 = z41 → Q z41 μ19)))) ∧ ((z5 = 0) → WP_X2_tieFor_W w μ p1 p2 (fun z49 _ => ((-99999999) ≤ z49 ∧ z49 ≤ 19) → WP_X2_aimBit_W w μ z49 (fun z54 _ => ((-2147483648) ≤ z54 ∧ z54 ≤ 2147483647) → Q z54 μ))))
theorem vc_X2_leastBelow_W12_1 {p3 : Int} (h0 : 32 ≤ p3) (h1 : 12 ≤ p3 ∧ p3 ≤ 12) : False := by omega
set_option maxRecDepth 4000 in
set_option maxHeartbeats 4000000 in
theorem c_X2_leastBelow_W12 {l : Launch} {D : va_G} {c : Nat → ClassId} {H0 : Heap} {sa : Nat × Nat × (Nat → Int32)} {w : mW} {μ : mM} (hw : mWF w) (hT : mT w μ) {p1 : Int} (hp1 : 0 ≤ p1 ∧ p1 ≤ 9) {p2 : Int} (hp2 : (-2147483648) ≤ p2 ∧ p2 ≤ 2147483647) {p3 : Int} (hp3 : 12 ≤ p3 ∧ p3 ≤ 12) (hq0 : p1 < w.2.2.2 0) {Q : Int → mM → Prop} (hQ : WP_X2_leastBelow_W12 w μ p1 p2 p3 Q) : sC (gG l D c H0 sa) mX2_leastBelow 23 0 0 [.ref 87, iv p1, iv p2, iv p3] (mk w μ) (qI w [87007] μ (fun z μ1 => ((-2147483648) ≤ z ∧ z ≤ 2147483647) ∧ Q z μ1 ∧ True)) := by
  refine sC.of rfl (by decide) (le_t rfl) ?_
  refine mr_lvE (lv' := [(0, .ref 87), (1, iv p1), (2, iv p2), (3, iv p3)]) rfl ?_
  refine mr_iload_n (pc := 0) (z := p3) dX2_leastBelow_0 rfl rfl ?_
  refine mr_bipush (pc := 1) (z := 32) dX2_leastBelow_1 (by decide) ?_
  refine mr_icmp_ge (pc := 3) (tgt := 16) dX2_leastBelow_3 (by decide) (r32 hp3 rfl) (r32 (rR (x := 32)) rfl) (fun h => ((vc_X2_leastBelow_W12_1 h hp3)).elim) (fun _ => ?_)
  refine sv_aload_n (pc := 6) dX2_leastBelow_6 rfl rfl ?_
  refine mr_iload_n (pc := 7) (z := p1) dX2_leastBelow_7 rfl rfl ?_
  refine mr_iload_n (pc := 8) (z := p2) dX2_leastBelow_8 rfl rfl ?_
  refine mr_iload_n (pc := 9) (z := p3) dX2_leastBelow_9 rfl rfl ?_
  refine mr_cVP (pc := 10) (c_X2_isSplit_W hw hT hp1 hp2 (rW (c := (-2147483648)) (d := 2147483647) hp3 rfl) (vc_X9_end_1 hq0 hp1) hQ) (gOk _ _ _ _ _) dX2_leastBelow_10 (tX2_isSplit _ _ _ _ _) ⟨wV_X2_isSplit, wL_X2_isSplit⟩ wM_X2_106 (gCX2 _ _ _ _ _) rfl (A_87 hw) rfl ⟨le_t rfl, le_t rfl⟩ ⟨le_t rfl, le_t rfl⟩ rfl (le_t rfl) fun z5 h4 => ?_
  refine mr_if_ne (pc := 13) (tgt := 26) dX2_leastBelow_13 (by decide) (r32 h4.1 rfl) (fun h6 => ?_) (fun h6 => ?_)
  · have h7 : 1 ≤ z5 ∧ z5 ≤ 1 := (vc_X12_ring_24 h6 h4.1)
    refine sv_aload_n (pc := 26) dX2_leastBelow_26 rfl rfl ?_
    refine mr_iload_n (pc := 27) (z := p1) dX2_leastBelow_27 rfl rfl ?_
    refine mr_iload_n (pc := 28) (z := p2) dX2_leastBelow_28 rfl rfl ?_
    refine mr_iload_n (pc := 29) (z := p3) dX2_leastBelow_29 rfl rfl ?_
    refine mr_iconst (pc := 30) (z := 1) dX2_leastBelow_30 ?_
    refine mr_iadd (pc := 31) (x := p3) (y := 1) dX2_leastBelow_31 ?_
    refine mr_cVI (pc := 32) (c_X2_leastBelow_W13 hw hT hp1 hp2 (rAdd (e := 13) (f := 13) hp3 (rR (x := 1)) rfl) (vc_X9_end_1 hq0 hp1) ((h4.2.1 h4.1).1 h6)) (gOk _ _ _ _ _) dX2_leastBelow_32 (tX2_leastBelow _ _ _ _ _) ⟨wV_X2_leastBelow, wL_X2_leastBelow⟩ wM_X2_101 (gCX2 _ _ _ _ _) rfl (A_87 hw) rfl ⟨le_t rfl, le_t rfl⟩ ⟨le_t rfl, le_t rfl⟩ rfl (le_t rfl) fun z12 μ8 T9 F10 h11 => ?_
    refine mr_istore (pc := 35) (lv' := [(4, iv z12), (0, .ref 87), (1, iv p1), (2, iv p2), (3, iv p3)]) dX2_leastBelow_35 (by decide) rfl ?_
    refine sv_aload_n (pc := 37) dX2_leastBelow_37 rfl rfl ?_
    refine mr_iload_n (pc := 38) (z := p1) dX2_leastBelow_38 rfl rfl ?_
    refine mr_iload_n (pc := 39) (z := p2) dX2_leastBelow_39 rfl rfl ?_
    refine mr_iconst (pc := 40) (z := 1) dX2_leastBelow_40 ?_
    refine mr_bipush (pc := 41) (z := 31) dX2_leastBelow_41 (by decide) ?_
    refine mr_iload_n (pc := 43) (z := p3) dX2_leastBelow_43 rfl rfl ?_
    refine mr_isub (pc := 44) (x := 31) (y := p3) dX2_leastBelow_44 ?_
    refine mr_ishl (pc := 45) (x := 1) (y := (31 - p3)) dX2_leastBelow_45 ?_
    refine mr_gen (P := fun z => (-2147483648) ≤ z ∧ z ≤ 2147483647) (r32i _) fun z13 q14 h15 => ?_
    refine mr_ior (pc := 46) (x := p2) (y := z13) dX2_leastBelow_46 ?_
    refine mr_gen (P := fun z => (-2147483648) ≤ z ∧ z ≤ 2147483647) (r32i _) fun z16 q17 h18 => ?_
    refine mr_iload_n (pc := 47) (z := p3) dX2_leastBelow_47 rfl rfl ?_
    refine mr_iconst (pc := 48) (z := 1) dX2_leastBelow_48 ?_
    refine mr_iadd (pc := 49) (x := p3) (y := 1) dX2_leastBelow_49 ?_
    refine mr_cVI (pc := 50) (c_X2_leastBelow_W13 hw T9 hp1 h18 (rAdd (e := 13) (f := 13) hp3 (rR (x := 1)) rfl) (vc_X9_end_1 hq0 hp1) ((((h11.2.1 T9 F10) h11.1) z13 q14) z16 q17)) (gOk _ _ _ _ _) dX2_leastBelow_50 (tX2_leastBelow _ _ _ _ _) ⟨wV_X2_leastBelow, wL_X2_leastBelow⟩ wM_X2_101 (gCX2 _ _ _ _ _) rfl (A_87 hw) rfl ⟨le_t rfl, le_t rfl⟩ ⟨le_t rfl, le_t rfl⟩ rfl (le_t rfl) fun z23 μ19 T20 F21 h22 => ?_
    refine mr_istore (pc := 53) (lv' := [(5, iv z23), (4, iv z12), (0, .ref 87), (1, iv p1), (2, iv p2), (3, iv p3)]) dX2_leastBelow_53 (by decide) rfl ?_
    refine mr_iload (pc := 55) (z := z12) dX2_leastBelow_55 rfl ?_
    refine mr_iload (pc := 57) (z := z23) dX2_leastBelow_57 rfl ?_
    refine mr_iand (pc := 59) (x := z12) (y := z23) dX2_leastBelow_59 ?_
    refine mr_gen (P := fun z => (-2147483648) ≤ z ∧ z ≤ 2147483647) (r32i _) fun z24 q25 h26 => ?_
    refine mr_if_eq (pc := 60) (tgt := 69) dX2_leastBelow_60 (by decide) h26 (fun h27 => ?_) (fun h27 => ?_)
    · have h28 : 0 ≤ z24 ∧ z24 ≤ 0 := (vc_X12_mask_1 h27 h26)
      refine sv_aload_n (pc := 69) dX2_leastBelow_69 rfl rfl ?_
      refine sv_dup (pc := 70) dX2_leastBelow_70 rfl ?_
      refine gf_X2_7 (pc := 71) dX2_leastBelow_71 wF_X2_98 (A_87 hw) T20 fun z29 q30 h31 => ?_
      refine mr_iconst (pc := 74) (z := 1) dX2_leastBelow_74 ?_
      refine mr_iadd (pc := 75) (x := z29) (y := 1) dX2_leastBelow_75 ?_
      refine mr_wrapF fun z32 h33 h34 => ?_
      refine pf_X2_7 (pc := 76) dX2_leastBelow_76 wF_X2_98 (A_87 hw) T20 h33 fun μ35 u36 T37 => ?_
      refine mr_iload (pc := 79) (z := z12) dX2_leastBelow_79 rfl ?_
      refine mr_iload (pc := 81) (z := z23) dX2_leastBelow_81 rfl ?_
      refine mr_ior (pc := 83) (x := z12) (y := z23) dX2_leastBelow_83 ?_
      refine mr_gen (P := fun z => (-2147483648) ≤ z ∧ z ≤ 2147483647) (r32i _) fun z38 q39 h40 => ?_
      exact mr_iret dX2_leastBelow_84 rfl (le_t rfl) (le_t rfl) T37 (mF.up (mF.call (mF.call mF.refl F10 rfl) F21 rfl) (A_87 hw) u36 rfl) ⟨h40, ((((((((h22.2.1 T20 F21) h22.1) z24 q25).1 h27) z29 q30 h31) z32 h33 h34) μ35 u36 T37) z38 q39), trivial⟩
    refine mr_iload (pc := 63) (z := z12) dX2_leastBelow_63 rfl ?_
    refine mr_iload (pc := 65) (z := z23) dX2_leastBelow_65 rfl ?_
    refine mr_iand (pc := 67) (x := z12) (y := z23) dX2_leastBelow_67 ?_
    refine mr_gen (P := fun z => (-2147483648) ≤ z ∧ z ≤ 2147483647) (r32i _) fun z41 q42 h43 => ?_
    exact mr_iret dX2_leastBelow_68 rfl (le_t rfl) (le_t rfl) T20 (mF.call (mF.call mF.refl F10 rfl) F21 rfl) ⟨h43, (((((h22.2.1 T20 F21) h22.1) z24 q25).2 h27) z41 q42), trivial⟩
  have h44 : 0 ≤ z5 ∧ z5 ≤ 0 := (vc_X12_ring_22 h6 h4.1)
  refine sv_aload_n (pc := 16) dX2_leastBelow_16 rfl rfl ?_
  refine mr_iload_n (pc := 17) (z := p1) dX2_leastBelow_17 rfl rfl ?_
  refine mr_iload_n (pc := 18) (z := p2) dX2_leastBelow_18 rfl rfl ?_
  refine mr_cVP (pc := 19) (c_X2_tieFor_W hw hT hp1 hp2 (vc_X9_end_1 hq0 hp1) ((h4.2.1 h4.1).2 h6)) (gOk _ _ _ _ _) dX2_leastBelow_19 (tX2_tieFor _ _ _ _ _) ⟨wV_X2_tieFor, wL_X2_tieFor⟩ wM_X2_60 (gCX2 _ _ _ _ _) rfl (A_87 hw) rfl ⟨le_t rfl, le_t rfl⟩ ⟨le_t rfl, le_t rfl⟩ rfl (le_t rfl) fun z49 h48 => ?_
  refine mr_cSP (pc := 22) (c_X2_aimBit_W hw hT h48.1 (h48.2.2.2.1 h48.1)) (gOk _ _ _ _ _) dX2_leastBelow_22 (tX2_aimBit _ _ _ _ _) wS_X2_aimBit wM_X2_110 ⟨le_t rfl, le_t rfl⟩ ⟨le_t rfl, le_t rfl⟩ rfl (le_t rfl) fun z54 h53 => ?_
  exact mr_iret dX2_leastBelow_25 rfl (le_t rfl) (le_t rfl) hT mF.refl ⟨h53.1, (h53.2.1 h53.1), trivial⟩
def WP_X2_leastBelow_W11 (w : mW) (μ : mM) (p1 : Int) (p2 : Int) (p3 : Int) (Q : Int → mM → Prop) : Prop := WP_X2_isSplit_W w μ p1 p2 p3 (fun z5 _ => (0 ≤ z5 ∧ z5 ≤ 1) → ((¬ z5 = 0) → WP_X2_leastBelow_W12 w μ p1 p2 (p3 + 1) (fun z12 μ8 => mT w μ8 → mF [87007] w μ μ8 → ((-2147483648) ≤ z12 ∧ z12 ≤ 2147483647) → ∀ z13 : Int, bShl (1 : Int) (31 - p3) = z13 → ∀ z16 : Int, bOr p2 z13 = z16 → WP_X2_leastBelow_W12 w μ8 p1 z16 (p3 + 1) (fun z23 μ19 => mT w μ19 → mF [87007] w μ8 μ19 → ((-2147483648) ≤ z23 ∧ z23 ≤ 2147483647) → ∀ z24 : Int, bAnd z12 z23 = z24 → ((z24 = 0) → ∀ z29 : Int, μ19 87 7 = z29 → ((-2147483648) ≤ z29 ∧ z29 ≤ 2147483647) → ∀ z32 : Int, (-2147483648 ≤ z32 ∧ z32 ≤ 2147483647) → (z32 - (z29 + 1)) % 4294967296 = 0 → ∀ μ35 : mM, mU μ19 87 (7) z32 μ35 → mT w μ35 → ∀ z38 : Int, bOr z12 z23 = z38 → Q z38 μ35) ∧ ((¬ z24 = 0) → ∀ z41 : Int, bAnd z12 z23 = z41 → Q z41 μ19)))) ∧ ((z5 = 0) → WP_X2_tieFor_W w μ p1 p2 (fun z49 _ => ((-99999999) ≤ z49 ∧ z49 ≤ 19) → WP_X2_aimBit_W w μ z49 (fun z54 _ => ((-2147483648) ≤ z54 ∧ z54 ≤ 2147483647) → Q z54 μ))))
theorem vc_X2_leastBelow_W11_1 {p3 : Int} (h0 : 32 ≤ p3) (h1 : 11 ≤ p3 ∧ p3 ≤ 11) : False := by omega
set_option maxRecDepth 4000 in
set_option maxHeartbeats 4000000 in
theorem c_X2_leastBelow_W11 {l : Launch} {D : va_G} {c : Nat → ClassId} {H0 : Heap} {sa : Nat × Nat × (Nat → Int32)} {w : mW} {μ : mM} (hw : mWF w) (hT : mT w μ) {p1 : Int} (hp1 : 0 ≤ p1 ∧ p1 ≤ 9) {p2 : Int} (hp2 : (-2147483648) ≤ p2 ∧ p2 ≤ 2147483647) {p3 : Int} (hp3 : 11 ≤ p3 ∧ p3 ≤ 11) (hq0 : p1 < w.2.2.2 0) {Q : Int → mM → Prop} (hQ : WP_X2_leastBelow_W11 w μ p1 p2 p3 Q) : sC (gG l D c H0 sa) mX2_leastBelow 24 0 0 [.ref 87, iv p1, iv p2, iv p3] (mk w μ) (qI w [87007] μ (fun z μ1 => ((-2147483648) ≤ z ∧ z ≤ 2147483647) ∧ Q z μ1 ∧ True)) := by
  refine sC.of rfl (by decide) (le_t rfl) ?_
  refine mr_lvE (lv' := [(0, .ref 87), (1, iv p1), (2, iv p2), (3, iv p3)]) rfl ?_
  refine mr_iload_n (pc := 0) (z := p3) dX2_leastBelow_0 rfl rfl ?_
  refine mr_bipush (pc := 1) (z := 32) dX2_leastBelow_1 (by decide) ?_
  refine mr_icmp_ge (pc := 3) (tgt := 16) dX2_leastBelow_3 (by decide) (r32 hp3 rfl) (r32 (rR (x := 32)) rfl) (fun h => ((vc_X2_leastBelow_W11_1 h hp3)).elim) (fun _ => ?_)
  refine sv_aload_n (pc := 6) dX2_leastBelow_6 rfl rfl ?_
  refine mr_iload_n (pc := 7) (z := p1) dX2_leastBelow_7 rfl rfl ?_
  refine mr_iload_n (pc := 8) (z := p2) dX2_leastBelow_8 rfl rfl ?_
  refine mr_iload_n (pc := 9) (z := p3) dX2_leastBelow_9 rfl rfl ?_
  refine mr_cVP (pc := 10) (c_X2_isSplit_W hw hT hp1 hp2 (rW (c := (-2147483648)) (d := 2147483647) hp3 rfl) (vc_X9_end_1 hq0 hp1) hQ) (gOk _ _ _ _ _) dX2_leastBelow_10 (tX2_isSplit _ _ _ _ _) ⟨wV_X2_isSplit, wL_X2_isSplit⟩ wM_X2_106 (gCX2 _ _ _ _ _) rfl (A_87 hw) rfl ⟨le_t rfl, le_t rfl⟩ ⟨le_t rfl, le_t rfl⟩ rfl (le_t rfl) fun z5 h4 => ?_
  refine mr_if_ne (pc := 13) (tgt := 26) dX2_leastBelow_13 (by decide) (r32 h4.1 rfl) (fun h6 => ?_) (fun h6 => ?_)
  · have h7 : 1 ≤ z5 ∧ z5 ≤ 1 := (vc_X12_ring_24 h6 h4.1)
    refine sv_aload_n (pc := 26) dX2_leastBelow_26 rfl rfl ?_
    refine mr_iload_n (pc := 27) (z := p1) dX2_leastBelow_27 rfl rfl ?_
    refine mr_iload_n (pc := 28) (z := p2) dX2_leastBelow_28 rfl rfl ?_
    refine mr_iload_n (pc := 29) (z := p3) dX2_leastBelow_29 rfl rfl ?_
    refine mr_iconst (pc := 30) (z := 1) dX2_leastBelow_30 ?_
    refine mr_iadd (pc := 31) (x := p3) (y := 1) dX2_leastBelow_31 ?_
    refine mr_cVI (pc := 32) (c_X2_leastBelow_W12 hw hT hp1 hp2 (rAdd (e := 12) (f := 12) hp3 (rR (x := 1)) rfl) (vc_X9_end_1 hq0 hp1) ((h4.2.1 h4.1).1 h6)) (gOk _ _ _ _ _) dX2_leastBelow_32 (tX2_leastBelow _ _ _ _ _) ⟨wV_X2_leastBelow, wL_X2_leastBelow⟩ wM_X2_101 (gCX2 _ _ _ _ _) rfl (A_87 hw) rfl ⟨le_t rfl, le_t rfl⟩ ⟨le_t rfl, le_t rfl⟩ rfl (le_t rfl) fun z12 μ8 T9 F10 h11 => ?_
    refine mr_istore (pc := 35) (lv' := [(4, iv z12), (0, .ref 87), (1, iv p1), (2, iv p2), (3, iv p3)]) dX2_leastBelow_35 (by decide) rfl ?_
    refine sv_aload_n (pc := 37) dX2_leastBelow_37 rfl rfl ?_
    refine mr_iload_n (pc := 38) (z := p1) dX2_leastBelow_38 rfl rfl ?_
    refine mr_iload_n (pc := 39) (z := p2) dX2_leastBelow_39 rfl rfl ?_
    refine mr_iconst (pc := 40) (z := 1) dX2_leastBelow_40 ?_
    refine mr_bipush (pc := 41) (z := 31) dX2_leastBelow_41 (by decide) ?_
    refine mr_iload_n (pc := 43) (z := p3) dX2_leastBelow_43 rfl rfl ?_
    refine mr_isub (pc := 44) (x := 31) (y := p3) dX2_leastBelow_44 ?_
    refine mr_ishl (pc := 45) (x := 1) (y := (31 - p3)) dX2_leastBelow_45 ?_
    refine mr_gen (P := fun z => (-2147483648) ≤ z ∧ z ≤ 2147483647) (r32i _) fun z13 q14 h15 => ?_
    refine mr_ior (pc := 46) (x := p2) (y := z13) dX2_leastBelow_46 ?_
    refine mr_gen (P := fun z => (-2147483648) ≤ z ∧ z ≤ 2147483647) (r32i _) fun z16 q17 h18 => ?_
    refine mr_iload_n (pc := 47) (z := p3) dX2_leastBelow_47 rfl rfl ?_
    refine mr_iconst (pc := 48) (z := 1) dX2_leastBelow_48 ?_
    refine mr_iadd (pc := 49) (x := p3) (y := 1) dX2_leastBelow_49 ?_
    refine mr_cVI (pc := 50) (c_X2_leastBelow_W12 hw T9 hp1 h18 (rAdd (e := 12) (f := 12) hp3 (rR (x := 1)) rfl) (vc_X9_end_1 hq0 hp1) ((((h11.2.1 T9 F10) h11.1) z13 q14) z16 q17)) (gOk _ _ _ _ _) dX2_leastBelow_50 (tX2_leastBelow _ _ _ _ _) ⟨wV_X2_leastBelow, wL_X2_leastBelow⟩ wM_X2_101 (gCX2 _ _ _ _ _) rfl (A_87 hw) rfl ⟨le_t rfl, le_t rfl⟩ ⟨le_t rfl, le_t rfl⟩ rfl (le_t rfl) fun z23 μ19 T20 F21 h22 => ?_
    refine mr_istore (pc := 53) (lv' := [(5, iv z23), (4, iv z12), (0, .ref 87), (1, iv p1), (2, iv p2), (3, iv p3)]) dX2_leastBelow_53 (by decide) rfl ?_
    refine mr_iload (pc := 55) (z := z12) dX2_leastBelow_55 rfl ?_
    refine mr_iload (pc := 57) (z := z23) dX2_leastBelow_57 rfl ?_
    refine mr_iand (pc := 59) (x := z12) (y := z23) dX2_leastBelow_59 ?_
    refine mr_gen (P := fun z => (-2147483648) ≤ z ∧ z ≤ 2147483647) (r32i _) fun z24 q25 h26 => ?_
    refine mr_if_eq (pc := 60) (tgt := 69) dX2_leastBelow_60 (by decide) h26 (fun h27 => ?_) (fun h27 => ?_)
    · have h28 : 0 ≤ z24 ∧ z24 ≤ 0 := (vc_X12_mask_1 h27 h26)
      refine sv_aload_n (pc := 69) dX2_leastBelow_69 rfl rfl ?_
      refine sv_dup (pc := 70) dX2_leastBelow_70 rfl ?_
      refine gf_X2_7 (pc := 71) dX2_leastBelow_71 wF_X2_98 (A_87 hw) T20 fun z29 q30 h31 => ?_
      refine mr_iconst (pc := 74) (z := 1) dX2_leastBelow_74 ?_
      refine mr_iadd (pc := 75) (x := z29) (y := 1) dX2_leastBelow_75 ?_
      refine mr_wrapF fun z32 h33 h34 => ?_
      refine pf_X2_7 (pc := 76) dX2_leastBelow_76 wF_X2_98 (A_87 hw) T20 h33 fun μ35 u36 T37 => ?_
      refine mr_iload (pc := 79) (z := z12) dX2_leastBelow_79 rfl ?_
      refine mr_iload (pc := 81) (z := z23) dX2_leastBelow_81 rfl ?_
      refine mr_ior (pc := 83) (x := z12) (y := z23) dX2_leastBelow_83 ?_
      refine mr_gen (P := fun z => (-2147483648) ≤ z ∧ z ≤ 2147483647) (r32i _) fun z38 q39 h40 => ?_
      exact mr_iret dX2_leastBelow_84 rfl (le_t rfl) (le_t rfl) T37 (mF.up (mF.call (mF.call mF.refl F10 rfl) F21 rfl) (A_87 hw) u36 rfl) ⟨h40, ((((((((h22.2.1 T20 F21) h22.1) z24 q25).1 h27) z29 q30 h31) z32 h33 h34) μ35 u36 T37) z38 q39), trivial⟩
    refine mr_iload (pc := 63) (z := z12) dX2_leastBelow_63 rfl ?_
    refine mr_iload (pc := 65) (z := z23) dX2_leastBelow_65 rfl ?_
    refine mr_iand (pc := 67) (x := z12) (y := z23) dX2_leastBelow_67 ?_
    refine mr_gen (P := fun z => (-2147483648) ≤ z ∧ z ≤ 2147483647) (r32i _) fun z41 q42 h43 => ?_
    exact mr_iret dX2_leastBelow_68 rfl (le_t rfl) (le_t rfl) T20 (mF.call (mF.call mF.refl F10 rfl) F21 rfl) ⟨h43, (((((h22.2.1 T20 F21) h22.1) z24 q25).2 h27) z41 q42), trivial⟩
  have h44 : 0 ≤ z5 ∧ z5 ≤ 0 := (vc_X12_ring_22 h6 h4.1)
  refine sv_aload_n (pc := 16) dX2_leastBelow_16 rfl rfl ?_
  refine mr_iload_n (pc := 17) (z := p1) dX2_leastBelow_17 rfl rfl ?_
  refine mr_iload_n (pc := 18) (z := p2) dX2_leastBelow_18 rfl rfl ?_
  refine mr_cVP (pc := 19) (c_X2_tieFor_W hw hT hp1 hp2 (vc_X9_end_1 hq0 hp1) ((h4.2.1 h4.1).2 h6)) (gOk _ _ _ _ _) dX2_leastBelow_19 (tX2_tieFor _ _ _ _ _) ⟨wV_X2_tieFor, wL_X2_tieFor⟩ wM_X2_60 (gCX2 _ _ _ _ _) rfl (A_87 hw) rfl ⟨le_t rfl, le_t rfl⟩ ⟨le_t rfl, le_t rfl⟩ rfl (le_t rfl) fun z49 h48 => ?_
  refine mr_cSP (pc := 22) (c_X2_aimBit_W hw hT h48.1 (h48.2.2.2.1 h48.1)) (gOk _ _ _ _ _) dX2_leastBelow_22 (tX2_aimBit _ _ _ _ _) wS_X2_aimBit wM_X2_110 ⟨le_t rfl, le_t rfl⟩ ⟨le_t rfl, le_t rfl⟩ rfl (le_t rfl) fun z54 h53 => ?_
  exact mr_iret dX2_leastBelow_25 rfl (le_t rfl) (le_t rfl) hT mF.refl ⟨h53.1, (h53.2.1 h53.1), trivial⟩
def WP_X2_leastBelow_W10 (w : mW) (μ : mM) (p1 : Int) (p2 : Int) (p3 : Int) (Q : Int → mM → Prop) : Prop := WP_X2_isSplit_W w μ p1 p2 p3 (fun z5 _ => (0 ≤ z5 ∧ z5 ≤ 1) → ((¬ z5 = 0) → WP_X2_leastBelow_W11 w μ p1 p2 (p3 + 1) (fun z12 μ8 => mT w μ8 → mF [87007] w μ μ8 → ((-2147483648) ≤ z12 ∧ z12 ≤ 2147483647) → ∀ z13 : Int, bShl (1 : Int) (31 - p3) = z13 → ∀ z16 : Int, bOr p2 z13 = z16 → WP_X2_leastBelow_W11 w μ8 p1 z16 (p3 + 1) (fun z23 μ19 => mT w μ19 → mF [87007] w μ8 μ19 → ((-2147483648) ≤ z23 ∧ z23 ≤ 2147483647) → ∀ z24 : Int, bAnd z12 z23 = z24 → ((z24 = 0) → ∀ z29 : Int, μ19 87 7 = z29 → ((-2147483648) ≤ z29 ∧ z29 ≤ 2147483647) → ∀ z32 : Int, (-2147483648 ≤ z32 ∧ z32 ≤ 2147483647) → (z32 - (z29 + 1)) % 4294967296 = 0 → ∀ μ35 : mM, mU μ19 87 (7) z32 μ35 → mT w μ35 → ∀ z38 : Int, bOr z12 z23 = z38 → Q z38 μ35) ∧ ((¬ z24 = 0) → ∀ z41 : Int, bAnd z12 z23 = z41 → Q z41 μ19)))) ∧ ((z5 = 0) → WP_X2_tieFor_W w μ p1 p2 (fun z49 _ => ((-99999999) ≤ z49 ∧ z49 ≤ 19) → WP_X2_aimBit_W w μ z49 (fun z54 _ => ((-2147483648) ≤ z54 ∧ z54 ≤ 2147483647) → Q z54 μ))))
theorem vc_X2_leastBelow_W10_1 {p3 : Int} (h0 : 32 ≤ p3) (h1 : 10 ≤ p3 ∧ p3 ≤ 10) : False := by omega
set_option maxRecDepth 4000 in
set_option maxHeartbeats 4000000 in
theorem c_X2_leastBelow_W10 {l : Launch} {D : va_G} {c : Nat → ClassId} {H0 : Heap} {sa : Nat × Nat × (Nat → Int32)} {w : mW} {μ : mM} (hw : mWF w) (hT : mT w μ) {p1 : Int} (hp1 : 0 ≤ p1 ∧ p1 ≤ 9) {p2 : Int} (hp2 : (-2147483648) ≤ p2 ∧ p2 ≤ 2147483647) {p3 : Int} (hp3 : 10 ≤ p3 ∧ p3 ≤ 10) (hq0 : p1 < w.2.2.2 0) {Q : Int → mM → Prop} (hQ : WP_X2_leastBelow_W10 w μ p1 p2 p3 Q) : sC (gG l D c H0 sa) mX2_leastBelow 25 0 0 [.ref 87, iv p1, iv p2, iv p3] (mk w μ) (qI w [87007] μ (fun z μ1 => ((-2147483648) ≤ z ∧ z ≤ 2147483647) ∧ Q z μ1 ∧ True)) := by
  refine sC.of rfl (by decide) (le_t rfl) ?_
  refine mr_lvE (lv' := [(0, .ref 87), (1, iv p1), (2, iv p2), (3, iv p3)]) rfl ?_
  refine mr_iload_n (pc := 0) (z := p3) dX2_leastBelow_0 rfl rfl ?_
  refine mr_bipush (pc := 1) (z := 32) dX2_leastBelow_1 (by decide) ?_
  refine mr_icmp_ge (pc := 3) (tgt := 16) dX2_leastBelow_3 (by decide) (r32 hp3 rfl) (r32 (rR (x := 32)) rfl) (fun h => ((vc_X2_leastBelow_W10_1 h hp3)).elim) (fun _ => ?_)
  refine sv_aload_n (pc := 6) dX2_leastBelow_6 rfl rfl ?_
  refine mr_iload_n (pc := 7) (z := p1) dX2_leastBelow_7 rfl rfl ?_
  refine mr_iload_n (pc := 8) (z := p2) dX2_leastBelow_8 rfl rfl ?_
  refine mr_iload_n (pc := 9) (z := p3) dX2_leastBelow_9 rfl rfl ?_
  refine mr_cVP (pc := 10) (c_X2_isSplit_W hw hT hp1 hp2 (rW (c := (-2147483648)) (d := 2147483647) hp3 rfl) (vc_X9_end_1 hq0 hp1) hQ) (gOk _ _ _ _ _) dX2_leastBelow_10 (tX2_isSplit _ _ _ _ _) ⟨wV_X2_isSplit, wL_X2_isSplit⟩ wM_X2_106 (gCX2 _ _ _ _ _) rfl (A_87 hw) rfl ⟨le_t rfl, le_t rfl⟩ ⟨le_t rfl, le_t rfl⟩ rfl (le_t rfl) fun z5 h4 => ?_
  refine mr_if_ne (pc := 13) (tgt := 26) dX2_leastBelow_13 (by decide) (r32 h4.1 rfl) (fun h6 => ?_) (fun h6 => ?_)
  · have h7 : 1 ≤ z5 ∧ z5 ≤ 1 := (vc_X12_ring_24 h6 h4.1)
    refine sv_aload_n (pc := 26) dX2_leastBelow_26 rfl rfl ?_
    refine mr_iload_n (pc := 27) (z := p1) dX2_leastBelow_27 rfl rfl ?_
    refine mr_iload_n (pc := 28) (z := p2) dX2_leastBelow_28 rfl rfl ?_
    refine mr_iload_n (pc := 29) (z := p3) dX2_leastBelow_29 rfl rfl ?_
    refine mr_iconst (pc := 30) (z := 1) dX2_leastBelow_30 ?_
    refine mr_iadd (pc := 31) (x := p3) (y := 1) dX2_leastBelow_31 ?_
    refine mr_cVI (pc := 32) (c_X2_leastBelow_W11 hw hT hp1 hp2 (rAdd (e := 11) (f := 11) hp3 (rR (x := 1)) rfl) (vc_X9_end_1 hq0 hp1) ((h4.2.1 h4.1).1 h6)) (gOk _ _ _ _ _) dX2_leastBelow_32 (tX2_leastBelow _ _ _ _ _) ⟨wV_X2_leastBelow, wL_X2_leastBelow⟩ wM_X2_101 (gCX2 _ _ _ _ _) rfl (A_87 hw) rfl ⟨le_t rfl, le_t rfl⟩ ⟨le_t rfl, le_t rfl⟩ rfl (le_t rfl) fun z12 μ8 T9 F10 h11 => ?_
    refine mr_istore (pc := 35) (lv' := [(4, iv z12), (0, .ref 87), (1, iv p1), (2, iv p2), (3, iv p3)]) dX2_leastBelow_35 (by decide) rfl ?_
    refine sv_aload_n (pc := 37) dX2_leastBelow_37 rfl rfl ?_
    refine mr_iload_n (pc := 38) (z := p1) dX2_leastBelow_38 rfl rfl ?_
    refine mr_iload_n (pc := 39) (z := p2) dX2_leastBelow_39 rfl rfl ?_
    refine mr_iconst (pc := 40) (z := 1) dX2_leastBelow_40 ?_
    refine mr_bipush (pc := 41) (z := 31) dX2_leastBelow_41 (by decide) ?_
    refine mr_iload_n (pc := 43) (z := p3) dX2_leastBelow_43 rfl rfl ?_
    refine mr_isub (pc := 44) (x := 31) (y := p3) dX2_leastBelow_44 ?_
    refine mr_ishl (pc := 45) (x := 1) (y := (31 - p3)) dX2_leastBelow_45 ?_
    refine mr_gen (P := fun z => (-2147483648) ≤ z ∧ z ≤ 2147483647) (r32i _) fun z13 q14 h15 => ?_
    refine mr_ior (pc := 46) (x := p2) (y := z13) dX2_leastBelow_46 ?_
    refine mr_gen (P := fun z => (-2147483648) ≤ z ∧ z ≤ 2147483647) (r32i _) fun z16 q17 h18 => ?_
    refine mr_iload_n (pc := 47) (z := p3) dX2_leastBelow_47 rfl rfl ?_
    refine mr_iconst (pc := 48) (z := 1) dX2_leastBelow_48 ?_
    refine mr_iadd (pc := 49) (x := p3) (y := 1) dX2_leastBelow_49 ?_
    refine mr_cVI (pc := 50) (c_X2_leastBelow_W11 hw T9 hp1 h18 (rAdd (e := 11) (f := 11) hp3 (rR (x := 1)) rfl) (vc_X9_end_1 hq0 hp1) ((((h11.2.1 T9 F10) h11.1) z13 q14) z16 q17)) (gOk _ _ _ _ _) dX2_leastBelow_50 (tX2_leastBelow _ _ _ _ _) ⟨wV_X2_leastBelow, wL_X2_leastBelow⟩ wM_X2_101 (gCX2 _ _ _ _ _) rfl (A_87 hw) rfl ⟨le_t rfl, le_t rfl⟩ ⟨le_t rfl, le_t rfl⟩ rfl (le_t rfl) fun z23 μ19 T20 F21 h22 => ?_
    refine mr_istore (pc := 53) (lv' := [(5, iv z23), (4, iv z12), (0, .ref 87), (1, iv p1), (2, iv p2), (3, iv p3)]) dX2_leastBelow_53 (by decide) rfl ?_
    refine mr_iload (pc := 55) (z := z12) dX2_leastBelow_55 rfl ?_
    refine mr_iload (pc := 57) (z := z23) dX2_leastBelow_57 rfl ?_
    refine mr_iand (pc := 59) (x := z12) (y := z23) dX2_leastBelow_59 ?_
    refine mr_gen (P := fun z => (-2147483648) ≤ z ∧ z ≤ 2147483647) (r32i _) fun z24 q25 h26 => ?_
    refine mr_if_eq (pc := 60) (tgt := 69) dX2_leastBelow_60 (by decide) h26 (fun h27 => ?_) (fun h27 => ?_)
    · have h28 : 0 ≤ z24 ∧ z24 ≤ 0 := (vc_X12_mask_1 h27 h26)
      refine sv_aload_n (pc := 69) dX2_leastBelow_69 rfl rfl ?_
      refine sv_dup (pc := 70) dX2_leastBelow_70 rfl ?_
      refine gf_X2_7 (pc := 71) dX2_leastBelow_71 wF_X2_98 (A_87 hw) T20 fun z29 q30 h31 => ?_
      refine mr_iconst (pc := 74) (z := 1) dX2_leastBelow_74 ?_
      refine mr_iadd (pc := 75) (x := z29) (y := 1) dX2_leastBelow_75 ?_
      refine mr_wrapF fun z32 h33 h34 => ?_
      refine pf_X2_7 (pc := 76) dX2_leastBelow_76 wF_X2_98 (A_87 hw) T20 h33 fun μ35 u36 T37 => ?_
      refine mr_iload (pc := 79) (z := z12) dX2_leastBelow_79 rfl ?_
      refine mr_iload (pc := 81) (z := z23) dX2_leastBelow_81 rfl ?_
      refine mr_ior (pc := 83) (x := z12) (y := z23) dX2_leastBelow_83 ?_
      refine mr_gen (P := fun z => (-2147483648) ≤ z ∧ z ≤ 2147483647) (r32i _) fun z38 q39 h40 => ?_
      exact mr_iret dX2_leastBelow_84 rfl (le_t rfl) (le_t rfl) T37 (mF.up (mF.call (mF.call mF.refl F10 rfl) F21 rfl) (A_87 hw) u36 rfl) ⟨h40, ((((((((h22.2.1 T20 F21) h22.1) z24 q25).1 h27) z29 q30 h31) z32 h33 h34) μ35 u36 T37) z38 q39), trivial⟩
    refine mr_iload (pc := 63) (z := z12) dX2_leastBelow_63 rfl ?_
    refine mr_iload (pc := 65) (z := z23) dX2_leastBelow_65 rfl ?_
    refine mr_iand (pc := 67) (x := z12) (y := z23) dX2_leastBelow_67 ?_
    refine mr_gen (P := fun z => (-2147483648) ≤ z ∧ z ≤ 2147483647) (r32i _) fun z41 q42 h43 => ?_
    exact mr_iret dX2_leastBelow_68 rfl (le_t rfl) (le_t rfl) T20 (mF.call (mF.call mF.refl F10 rfl) F21 rfl) ⟨h43, (((((h22.2.1 T20 F21) h22.1) z24 q25).2 h27) z41 q42), trivial⟩
  have h44 : 0 ≤ z5 ∧ z5 ≤ 0 := (vc_X12_ring_22 h6 h4.1)
  refine sv_aload_n (pc := 16) dX2_leastBelow_16 rfl rfl ?_
  refine mr_iload_n (pc := 17) (z := p1) dX2_leastBelow_17 rfl rfl ?_
  refine mr_iload_n (pc := 18) (z := p2) dX2_leastBelow_18 rfl rfl ?_
  refine mr_cVP (pc := 19) (c_X2_tieFor_W hw hT hp1 hp2 (vc_X9_end_1 hq0 hp1) ((h4.2.1 h4.1).2 h6)) (gOk _ _ _ _ _) dX2_leastBelow_19 (tX2_tieFor _ _ _ _ _) ⟨wV_X2_tieFor, wL_X2_tieFor⟩ wM_X2_60 (gCX2 _ _ _ _ _) rfl (A_87 hw) rfl ⟨le_t rfl, le_t rfl⟩ ⟨le_t rfl, le_t rfl⟩ rfl (le_t rfl) fun z49 h48 => ?_
  refine mr_cSP (pc := 22) (c_X2_aimBit_W hw hT h48.1 (h48.2.2.2.1 h48.1)) (gOk _ _ _ _ _) dX2_leastBelow_22 (tX2_aimBit _ _ _ _ _) wS_X2_aimBit wM_X2_110 ⟨le_t rfl, le_t rfl⟩ ⟨le_t rfl, le_t rfl⟩ rfl (le_t rfl) fun z54 h53 => ?_
  exact mr_iret dX2_leastBelow_25 rfl (le_t rfl) (le_t rfl) hT mF.refl ⟨h53.1, (h53.2.1 h53.1), trivial⟩
def WP_X2_leastBelow_W9 (w : mW) (μ : mM) (p1 : Int) (p2 : Int) (p3 : Int) (Q : Int → mM → Prop) : Prop := WP_X2_isSplit_W w μ p1 p2 p3 (fun z5 _ => (0 ≤ z5 ∧ z5 ≤ 1) → ((¬ z5 = 0) → WP_X2_leastBelow_W10 w μ p1 p2 (p3 + 1) (fun z12 μ8 => mT w μ8 → mF [87007] w μ μ8 → ((-2147483648) ≤ z12 ∧ z12 ≤ 2147483647) → ∀ z13 : Int, bShl (1 : Int) (31 - p3) = z13 → ∀ z16 : Int, bOr p2 z13 = z16 → WP_X2_leastBelow_W10 w μ8 p1 z16 (p3 + 1) (fun z23 μ19 => mT w μ19 → mF [87007] w μ8 μ19 → ((-2147483648) ≤ z23 ∧ z23 ≤ 2147483647) → ∀ z24 : Int, bAnd z12 z23 = z24 → ((z24 = 0) → ∀ z29 : Int, μ19 87 7 = z29 → ((-2147483648) ≤ z29 ∧ z29 ≤ 2147483647) → ∀ z32 : Int, (-2147483648 ≤ z32 ∧ z32 ≤ 2147483647) → (z32 - (z29 + 1)) % 4294967296 = 0 → ∀ μ35 : mM, mU μ19 87 (7) z32 μ35 → mT w μ35 → ∀ z38 : Int, bOr z12 z23 = z38 → Q z38 μ35) ∧ ((¬ z24 = 0) → ∀ z41 : Int, bAnd z12 z23 = z41 → Q z41 μ19)))) ∧ ((z5 = 0) → WP_X2_tieFor_W w μ p1 p2 (fun z49 _ => ((-99999999) ≤ z49 ∧ z49 ≤ 19) → WP_X2_aimBit_W w μ z49 (fun z54 _ => ((-2147483648) ≤ z54 ∧ z54 ≤ 2147483647) → Q z54 μ))))
theorem vc_X2_leastBelow_W9_1 {p3 : Int} (h0 : 32 ≤ p3) (h1 : 9 ≤ p3 ∧ p3 ≤ 9) : False := by omega
set_option maxRecDepth 4000 in
set_option maxHeartbeats 4000000 in
theorem c_X2_leastBelow_W9 {l : Launch} {D : va_G} {c : Nat → ClassId} {H0 : Heap} {sa : Nat × Nat × (Nat → Int32)} {w : mW} {μ : mM} (hw : mWF w) (hT : mT w μ) {p1 : Int} (hp1 : 0 ≤ p1 ∧ p1 ≤ 9) {p2 : Int} (hp2 : (-2147483648) ≤ p2 ∧ p2 ≤ 2147483647) {p3 : Int} (hp3 : 9 ≤ p3 ∧ p3 ≤ 9) (hq0 : p1 < w.2.2.2 0) {Q : Int → mM → Prop} (hQ : WP_X2_leastBelow_W9 w μ p1 p2 p3 Q) : sC (gG l D c H0 sa) mX2_leastBelow 26 0 0 [.ref 87, iv p1, iv p2, iv p3] (mk w μ) (qI w [87007] μ (fun z μ1 => ((-2147483648) ≤ z ∧ z ≤ 2147483647) ∧ Q z μ1 ∧ True)) := by
  refine sC.of rfl (by decide) (le_t rfl) ?_
  refine mr_lvE (lv' := [(0, .ref 87), (1, iv p1), (2, iv p2), (3, iv p3)]) rfl ?_
  refine mr_iload_n (pc := 0) (z := p3) dX2_leastBelow_0 rfl rfl ?_
  refine mr_bipush (pc := 1) (z := 32) dX2_leastBelow_1 (by decide) ?_
  refine mr_icmp_ge (pc := 3) (tgt := 16) dX2_leastBelow_3 (by decide) (r32 hp3 rfl) (r32 (rR (x := 32)) rfl) (fun h => ((vc_X2_leastBelow_W9_1 h hp3)).elim) (fun _ => ?_)
  refine sv_aload_n (pc := 6) dX2_leastBelow_6 rfl rfl ?_
  refine mr_iload_n (pc := 7) (z := p1) dX2_leastBelow_7 rfl rfl ?_
  refine mr_iload_n (pc := 8) (z := p2) dX2_leastBelow_8 rfl rfl ?_
  refine mr_iload_n (pc := 9) (z := p3) dX2_leastBelow_9 rfl rfl ?_
  refine mr_cVP (pc := 10) (c_X2_isSplit_W hw hT hp1 hp2 (rW (c := (-2147483648)) (d := 2147483647) hp3 rfl) (vc_X9_end_1 hq0 hp1) hQ) (gOk _ _ _ _ _) dX2_leastBelow_10 (tX2_isSplit _ _ _ _ _) ⟨wV_X2_isSplit, wL_X2_isSplit⟩ wM_X2_106 (gCX2 _ _ _ _ _) rfl (A_87 hw) rfl ⟨le_t rfl, le_t rfl⟩ ⟨le_t rfl, le_t rfl⟩ rfl (le_t rfl) fun z5 h4 => ?_
  refine mr_if_ne (pc := 13) (tgt := 26) dX2_leastBelow_13 (by decide) (r32 h4.1 rfl) (fun h6 => ?_) (fun h6 => ?_)
  · have h7 : 1 ≤ z5 ∧ z5 ≤ 1 := (vc_X12_ring_24 h6 h4.1)
    refine sv_aload_n (pc := 26) dX2_leastBelow_26 rfl rfl ?_
    refine mr_iload_n (pc := 27) (z := p1) dX2_leastBelow_27 rfl rfl ?_
    refine mr_iload_n (pc := 28) (z := p2) dX2_leastBelow_28 rfl rfl ?_
    refine mr_iload_n (pc := 29) (z := p3) dX2_leastBelow_29 rfl rfl ?_
    refine mr_iconst (pc := 30) (z := 1) dX2_leastBelow_30 ?_
    refine mr_iadd (pc := 31) (x := p3) (y := 1) dX2_leastBelow_31 ?_
    refine mr_cVI (pc := 32) (c_X2_leastBelow_W10 hw hT hp1 hp2 (rAdd (e := 10) (f := 10) hp3 (rR (x := 1)) rfl) (vc_X9_end_1 hq0 hp1) ((h4.2.1 h4.1).1 h6)) (gOk _ _ _ _ _) dX2_leastBelow_32 (tX2_leastBelow _ _ _ _ _) ⟨wV_X2_leastBelow, wL_X2_leastBelow⟩ wM_X2_101 (gCX2 _ _ _ _ _) rfl (A_87 hw) rfl ⟨le_t rfl, le_t rfl⟩ ⟨le_t rfl, le_t rfl⟩ rfl (le_t rfl) fun z12 μ8 T9 F10 h11 => ?_
    refine mr_istore (pc := 35) (lv' := [(4, iv z12), (0, .ref 87), (1, iv p1), (2, iv p2), (3, iv p3)]) dX2_leastBelow_35 (by decide) rfl ?_
    refine sv_aload_n (pc := 37) dX2_leastBelow_37 rfl rfl ?_
    refine mr_iload_n (pc := 38) (z := p1) dX2_leastBelow_38 rfl rfl ?_
    refine mr_iload_n (pc := 39) (z := p2) dX2_leastBelow_39 rfl rfl ?_
    refine mr_iconst (pc := 40) (z := 1) dX2_leastBelow_40 ?_
    refine mr_bipush (pc := 41) (z := 31) dX2_leastBelow_41 (by decide) ?_
    refine mr_iload_n (pc := 43) (z := p3) dX2_leastBelow_43 rfl rfl ?_
    refine mr_isub (pc := 44) (x := 31) (y := p3) dX2_leastBelow_44 ?_
    refine mr_ishl (pc := 45) (x := 1) (y := (31 - p3)) dX2_leastBelow_45 ?_
    refine mr_gen (P := fun z => (-2147483648) ≤ z ∧ z ≤ 2147483647) (r32i _) fun z13 q14 h15 => ?_
    refine mr_ior (pc := 46) (x := p2) (y := z13) dX2_leastBelow_46 ?_
    refine mr_gen (P := fun z => (-2147483648) ≤ z ∧ z ≤ 2147483647) (r32i _) fun z16 q17 h18 => ?_
    refine mr_iload_n (pc := 47) (z := p3) dX2_leastBelow_47 rfl rfl ?_
    refine mr_iconst (pc := 48) (z := 1) dX2_leastBelow_48 ?_
    refine mr_iadd (pc := 49) (x := p3) (y := 1) dX2_leastBelow_49 ?_
    refine mr_cVI (pc := 50) (c_X2_leastBelow_W10 hw T9 hp1 h18 (rAdd (e := 10) (f := 10) hp3 (rR (x := 1)) rfl) (vc_X9_end_1 hq0 hp1) ((((h11.2.1 T9 F10) h11.1) z13 q14) z16 q17)) (gOk _ _ _ _ _) dX2_leastBelow_50 (tX2_leastBelow _ _ _ _ _) ⟨wV_X2_leastBelow, wL_X2_leastBelow⟩ wM_X2_101 (gCX2 _ _ _ _ _) rfl (A_87 hw) rfl ⟨le_t rfl, le_t rfl⟩ ⟨le_t rfl, le_t rfl⟩ rfl (le_t rfl) fun z23 μ19 T20 F21 h22 => ?_
    refine mr_istore (pc := 53) (lv' := [(5, iv z23), (4, iv z12), (0, .ref 87), (1, iv p1), (2, iv p2), (3, iv p3)]) dX2_leastBelow_53 (by decide) rfl ?_
    refine mr_iload (pc := 55) (z := z12) dX2_leastBelow_55 rfl ?_
    refine mr_iload (pc := 57) (z := z23) dX2_leastBelow_57 rfl ?_
    refine mr_iand (pc := 59) (x := z12) (y := z23) dX2_leastBelow_59 ?_
    refine mr_gen (P := fun z => (-2147483648) ≤ z ∧ z ≤ 2147483647) (r32i _) fun z24 q25 h26 => ?_
    refine mr_if_eq (pc := 60) (tgt := 69) dX2_leastBelow_60 (by decide) h26 (fun h27 => ?_) (fun h27 => ?_)
    · have h28 : 0 ≤ z24 ∧ z24 ≤ 0 := (vc_X12_mask_1 h27 h26)
      refine sv_aload_n (pc := 69) dX2_leastBelow_69 rfl rfl ?_
      refine sv_dup (pc := 70) dX2_leastBelow_70 rfl ?_
      refine gf_X2_7 (pc := 71) dX2_leastBelow_71 wF_X2_98 (A_87 hw) T20 fun z29 q30 h31 => ?_
      refine mr_iconst (pc := 74) (z := 1) dX2_leastBelow_74 ?_
      refine mr_iadd (pc := 75) (x := z29) (y := 1) dX2_leastBelow_75 ?_
      refine mr_wrapF fun z32 h33 h34 => ?_
      refine pf_X2_7 (pc := 76) dX2_leastBelow_76 wF_X2_98 (A_87 hw) T20 h33 fun μ35 u36 T37 => ?_
      refine mr_iload (pc := 79) (z := z12) dX2_leastBelow_79 rfl ?_
      refine mr_iload (pc := 81) (z := z23) dX2_leastBelow_81 rfl ?_
      refine mr_ior (pc := 83) (x := z12) (y := z23) dX2_leastBelow_83 ?_
      refine mr_gen (P := fun z => (-2147483648) ≤ z ∧ z ≤ 2147483647) (r32i _) fun z38 q39 h40 => ?_
      exact mr_iret dX2_leastBelow_84 rfl (le_t rfl) (le_t rfl) T37 (mF.up (mF.call (mF.call mF.refl F10 rfl) F21 rfl) (A_87 hw) u36 rfl) ⟨h40, ((((((((h22.2.1 T20 F21) h22.1) z24 q25).1 h27) z29 q30 h31) z32 h33 h34) μ35 u36 T37) z38 q39), trivial⟩
    refine mr_iload (pc := 63) (z := z12) dX2_leastBelow_63 rfl ?_
    refine mr_iload (pc := 65) (z := z23) dX2_leastBelow_65 rfl ?_
    refine mr_iand (pc := 67) (x := z12) (y := z23) dX2_leastBelow_67 ?_
    refine mr_gen (P := fun z => (-2147483648) ≤ z ∧ z ≤ 2147483647) (r32i _) fun z41 q42 h43 => ?_
    exact mr_iret dX2_leastBelow_68 rfl (le_t rfl) (le_t rfl) T20 (mF.call (mF.call mF.refl F10 rfl) F21 rfl) ⟨h43, (((((h22.2.1 T20 F21) h22.1) z24 q25).2 h27) z41 q42), trivial⟩
  have h44 : 0 ≤ z5 ∧ z5 ≤ 0 := (vc_X12_ring_22 h6 h4.1)
  refine sv_aload_n (pc := 16) dX2_leastBelow_16 rfl rfl ?_
  refine mr_iload_n (pc := 17) (z := p1) dX2_leastBelow_17 rfl rfl ?_
  refine mr_iload_n (pc := 18) (z := p2) dX2_leastBelow_18 rfl rfl ?_
  refine mr_cVP (pc := 19) (c_X2_tieFor_W hw hT hp1 hp2 (vc_X9_end_1 hq0 hp1) ((h4.2.1 h4.1).2 h6)) (gOk _ _ _ _ _) dX2_leastBelow_19 (tX2_tieFor _ _ _ _ _) ⟨wV_X2_tieFor, wL_X2_tieFor⟩ wM_X2_60 (gCX2 _ _ _ _ _) rfl (A_87 hw) rfl ⟨le_t rfl, le_t rfl⟩ ⟨le_t rfl, le_t rfl⟩ rfl (le_t rfl) fun z49 h48 => ?_
  refine mr_cSP (pc := 22) (c_X2_aimBit_W hw hT h48.1 (h48.2.2.2.1 h48.1)) (gOk _ _ _ _ _) dX2_leastBelow_22 (tX2_aimBit _ _ _ _ _) wS_X2_aimBit wM_X2_110 ⟨le_t rfl, le_t rfl⟩ ⟨le_t rfl, le_t rfl⟩ rfl (le_t rfl) fun z54 h53 => ?_
  exact mr_iret dX2_leastBelow_25 rfl (le_t rfl) (le_t rfl) hT mF.refl ⟨h53.1, (h53.2.1 h53.1), trivial⟩
def WP_X2_leastBelow_W8 (w : mW) (μ : mM) (p1 : Int) (p2 : Int) (p3 : Int) (Q : Int → mM → Prop) : Prop := WP_X2_isSplit_W w μ p1 p2 p3 (fun z5 _ => (0 ≤ z5 ∧ z5 ≤ 1) → ((¬ z5 = 0) → WP_X2_leastBelow_W9 w μ p1 p2 (p3 + 1) (fun z12 μ8 => mT w μ8 → mF [87007] w μ μ8 → ((-2147483648) ≤ z12 ∧ z12 ≤ 2147483647) → ∀ z13 : Int, bShl (1 : Int) (31 - p3) = z13 → ∀ z16 : Int, bOr p2 z13 = z16 → WP_X2_leastBelow_W9 w μ8 p1 z16 (p3 + 1) (fun z23 μ19 => mT w μ19 → mF [87007] w μ8 μ19 → ((-2147483648) ≤ z23 ∧ z23 ≤ 2147483647) → ∀ z24 : Int, bAnd z12 z23 = z24 → ((z24 = 0) → ∀ z29 : Int, μ19 87 7 = z29 → ((-2147483648) ≤ z29 ∧ z29 ≤ 2147483647) → ∀ z32 : Int, (-2147483648 ≤ z32 ∧ z32 ≤ 2147483647) → (z32 - (z29 + 1)) % 4294967296 = 0 → ∀ μ35 : mM, mU μ19 87 (7) z32 μ35 → mT w μ35 → ∀ z38 : Int, bOr z12 z23 = z38 → Q z38 μ35) ∧ ((¬ z24 = 0) → ∀ z41 : Int, bAnd z12 z23 = z41 → Q z41 μ19)))) ∧ ((z5 = 0) → WP_X2_tieFor_W w μ p1 p2 (fun z49 _ => ((-99999999) ≤ z49 ∧ z49 ≤ 19) → WP_X2_aimBit_W w μ z49 (fun z54 _ => ((-2147483648) ≤ z54 ∧ z54 ≤ 2147483647) → Q z54 μ))))
theorem vc_X2_leastBelow_W8_1 {p3 : Int} (h0 : 32 ≤ p3) (h1 : 8 ≤ p3 ∧ p3 ≤ 8) : False := by omega
set_option maxRecDepth 4000 in
set_option maxHeartbeats 4000000 in
theorem c_X2_leastBelow_W8 {l : Launch} {D : va_G} {c : Nat → ClassId} {H0 : Heap} {sa : Nat × Nat × (Nat → Int32)} {w : mW} {μ : mM} (hw : mWF w) (hT : mT w μ) {p1 : Int} (hp1 : 0 ≤ p1 ∧ p1 ≤ 9) {p2 : Int} (hp2 : (-2147483648) ≤ p2 ∧ p2 ≤ 2147483647) {p3 : Int} (hp3 : 8 ≤ p3 ∧ p3 ≤ 8) (hq0 : p1 < w.2.2.2 0) {Q : Int → mM → Prop} (hQ : WP_X2_leastBelow_W8 w μ p1 p2 p3 Q) : sC (gG l D c H0 sa) mX2_leastBelow 27 0 0 [.ref 87, iv p1, iv p2, iv p3] (mk w μ) (qI w [87007] μ (fun z μ1 => ((-2147483648) ≤ z ∧ z ≤ 2147483647) ∧ Q z μ1 ∧ True)) := by
  refine sC.of rfl (by decide) (le_t rfl) ?_
  refine mr_lvE (lv' := [(0, .ref 87), (1, iv p1), (2, iv p2), (3, iv p3)]) rfl ?_
  refine mr_iload_n (pc := 0) (z := p3) dX2_leastBelow_0 rfl rfl ?_
  refine mr_bipush (pc := 1) (z := 32) dX2_leastBelow_1 (by decide) ?_
  refine mr_icmp_ge (pc := 3) (tgt := 16) dX2_leastBelow_3 (by decide) (r32 hp3 rfl) (r32 (rR (x := 32)) rfl) (fun h => ((vc_X2_leastBelow_W8_1 h hp3)).elim) (fun _ => ?_)
  refine sv_aload_n (pc := 6) dX2_leastBelow_6 rfl rfl ?_
  refine mr_iload_n (pc := 7) (z := p1) dX2_leastBelow_7 rfl rfl ?_
  refine mr_iload_n (pc := 8) (z := p2) dX2_leastBelow_8 rfl rfl ?_
  refine mr_iload_n (pc := 9) (z := p3) dX2_leastBelow_9 rfl rfl ?_
  refine mr_cVP (pc := 10) (c_X2_isSplit_W hw hT hp1 hp2 (rW (c := (-2147483648)) (d := 2147483647) hp3 rfl) (vc_X9_end_1 hq0 hp1) hQ) (gOk _ _ _ _ _) dX2_leastBelow_10 (tX2_isSplit _ _ _ _ _) ⟨wV_X2_isSplit, wL_X2_isSplit⟩ wM_X2_106 (gCX2 _ _ _ _ _) rfl (A_87 hw) rfl ⟨le_t rfl, le_t rfl⟩ ⟨le_t rfl, le_t rfl⟩ rfl (le_t rfl) fun z5 h4 => ?_
  refine mr_if_ne (pc := 13) (tgt := 26) dX2_leastBelow_13 (by decide) (r32 h4.1 rfl) (fun h6 => ?_) (fun h6 => ?_)
  · have h7 : 1 ≤ z5 ∧ z5 ≤ 1 := (vc_X12_ring_24 h6 h4.1)
    refine sv_aload_n (pc := 26) dX2_leastBelow_26 rfl rfl ?_
    refine mr_iload_n (pc := 27) (z := p1) dX2_leastBelow_27 rfl rfl ?_
    refine mr_iload_n (pc := 28) (z := p2) dX2_leastBelow_28 rfl rfl ?_
    refine mr_iload_n (pc := 29) (z := p3) dX2_leastBelow_29 rfl rfl ?_
    refine mr_iconst (pc := 30) (z := 1) dX2_leastBelow_30 ?_
    refine mr_iadd (pc := 31) (x := p3) (y := 1) dX2_leastBelow_31 ?_
    refine mr_cVI (pc := 32) (c_X2_leastBelow_W9 hw hT hp1 hp2 (rAdd (e := 9) (f := 9) hp3 (rR (x := 1)) rfl) (vc_X9_end_1 hq0 hp1) ((h4.2.1 h4.1).1 h6)) (gOk _ _ _ _ _) dX2_leastBelow_32 (tX2_leastBelow _ _ _ _ _) ⟨wV_X2_leastBelow, wL_X2_leastBelow⟩ wM_X2_101 (gCX2 _ _ _ _ _) rfl (A_87 hw) rfl ⟨le_t rfl, le_t rfl⟩ ⟨le_t rfl, le_t rfl⟩ rfl (le_t rfl) fun z12 μ8 T9 F10 h11 => ?_
    refine mr_istore (pc := 35) (lv' := [(4, iv z12), (0, .ref 87), (1, iv p1), (2, iv p2), (3, iv p3)]) dX2_leastBelow_35 (by decide) rfl ?_
    refine sv_aload_n (pc := 37) dX2_leastBelow_37 rfl rfl ?_
    refine mr_iload_n (pc := 38) (z := p1) dX2_leastBelow_38 rfl rfl ?_
    refine mr_iload_n (pc := 39) (z := p2) dX2_leastBelow_39 rfl rfl ?_
    refine mr_iconst (pc := 40) (z := 1) dX2_leastBelow_40 ?_
    refine mr_bipush (pc := 41) (z := 31) dX2_leastBelow_41 (by decide) ?_
    refine mr_iload_n (pc := 43) (z := p3) dX2_leastBelow_43 rfl rfl ?_
    refine mr_isub (pc := 44) (x := 31) (y := p3) dX2_leastBelow_44 ?_
    refine mr_ishl (pc := 45) (x := 1) (y := (31 - p3)) dX2_leastBelow_45 ?_
    refine mr_gen (P := fun z => (-2147483648) ≤ z ∧ z ≤ 2147483647) (r32i _) fun z13 q14 h15 => ?_
    refine mr_ior (pc := 46) (x := p2) (y := z13) dX2_leastBelow_46 ?_
    refine mr_gen (P := fun z => (-2147483648) ≤ z ∧ z ≤ 2147483647) (r32i _) fun z16 q17 h18 => ?_
    refine mr_iload_n (pc := 47) (z := p3) dX2_leastBelow_47 rfl rfl ?_
    refine mr_iconst (pc := 48) (z := 1) dX2_leastBelow_48 ?_
    refine mr_iadd (pc := 49) (x := p3) (y := 1) dX2_leastBelow_49 ?_
    refine mr_cVI (pc := 50) (c_X2_leastBelow_W9 hw T9 hp1 h18 (rAdd (e := 9) (f := 9) hp3 (rR (x := 1)) rfl) (vc_X9_end_1 hq0 hp1) ((((h11.2.1 T9 F10) h11.1) z13 q14) z16 q17)) (gOk _ _ _ _ _) dX2_leastBelow_50 (tX2_leastBelow _ _ _ _ _) ⟨wV_X2_leastBelow, wL_X2_leastBelow⟩ wM_X2_101 (gCX2 _ _ _ _ _) rfl (A_87 hw) rfl ⟨le_t rfl, le_t rfl⟩ ⟨le_t rfl, le_t rfl⟩ rfl (le_t rfl) fun z23 μ19 T20 F21 h22 => ?_
    refine mr_istore (pc := 53) (lv' := [(5, iv z23), (4, iv z12), (0, .ref 87), (1, iv p1), (2, iv p2), (3, iv p3)]) dX2_leastBelow_53 (by decide) rfl ?_
    refine mr_iload (pc := 55) (z := z12) dX2_leastBelow_55 rfl ?_
    refine mr_iload (pc := 57) (z := z23) dX2_leastBelow_57 rfl ?_
    refine mr_iand (pc := 59) (x := z12) (y := z23) dX2_leastBelow_59 ?_
    refine mr_gen (P := fun z => (-2147483648) ≤ z ∧ z ≤ 2147483647) (r32i _) fun z24 q25 h26 => ?_
    refine mr_if_eq (pc := 60) (tgt := 69) dX2_leastBelow_60 (by decide) h26 (fun h27 => ?_) (fun h27 => ?_)
    · have h28 : 0 ≤ z24 ∧ z24 ≤ 0 := (vc_X12_mask_1 h27 h26)
      refine sv_aload_n (pc := 69) dX2_leastBelow_69 rfl rfl ?_
      refine sv_dup (pc := 70) dX2_leastBelow_70 rfl ?_
      refine gf_X2_7 (pc := 71) dX2_leastBelow_71 wF_X2_98 (A_87 hw) T20 fun z29 q30 h31 => ?_
      refine mr_iconst (pc := 74) (z := 1) dX2_leastBelow_74 ?_
      refine mr_iadd (pc := 75) (x := z29) (y := 1) dX2_leastBelow_75 ?_
      refine mr_wrapF fun z32 h33 h34 => ?_
      refine pf_X2_7 (pc := 76) dX2_leastBelow_76 wF_X2_98 (A_87 hw) T20 h33 fun μ35 u36 T37 => ?_
      refine mr_iload (pc := 79) (z := z12) dX2_leastBelow_79 rfl ?_
      refine mr_iload (pc := 81) (z := z23) dX2_leastBelow_81 rfl ?_
      refine mr_ior (pc := 83) (x := z12) (y := z23) dX2_leastBelow_83 ?_
      refine mr_gen (P := fun z => (-2147483648) ≤ z ∧ z ≤ 2147483647) (r32i _) fun z38 q39 h40 => ?_
      exact mr_iret dX2_leastBelow_84 rfl (le_t rfl) (le_t rfl) T37 (mF.up (mF.call (mF.call mF.refl F10 rfl) F21 rfl) (A_87 hw) u36 rfl) ⟨h40, ((((((((h22.2.1 T20 F21) h22.1) z24 q25).1 h27) z29 q30 h31) z32 h33 h34) μ35 u36 T37) z38 q39), trivial⟩
    refine mr_iload (pc := 63) (z := z12) dX2_leastBelow_63 rfl ?_
    refine mr_iload (pc := 65) (z := z23) dX2_leastBelow_65 rfl ?_
    refine mr_iand (pc := 67) (x := z12) (y := z23) dX2_leastBelow_67 ?_
    refine mr_gen (P := fun z => (-2147483648) ≤ z ∧ z ≤ 2147483647) (r32i _) fun z41 q42 h43 => ?_
    exact mr_iret dX2_leastBelow_68 rfl (le_t rfl) (le_t rfl) T20 (mF.call (mF.call mF.refl F10 rfl) F21 rfl) ⟨h43, (((((h22.2.1 T20 F21) h22.1) z24 q25).2 h27) z41 q42), trivial⟩
  have h44 : 0 ≤ z5 ∧ z5 ≤ 0 := (vc_X12_ring_22 h6 h4.1)
  refine sv_aload_n (pc := 16) dX2_leastBelow_16 rfl rfl ?_
  refine mr_iload_n (pc := 17) (z := p1) dX2_leastBelow_17 rfl rfl ?_
  refine mr_iload_n (pc := 18) (z := p2) dX2_leastBelow_18 rfl rfl ?_
  refine mr_cVP (pc := 19) (c_X2_tieFor_W hw hT hp1 hp2 (vc_X9_end_1 hq0 hp1) ((h4.2.1 h4.1).2 h6)) (gOk _ _ _ _ _) dX2_leastBelow_19 (tX2_tieFor _ _ _ _ _) ⟨wV_X2_tieFor, wL_X2_tieFor⟩ wM_X2_60 (gCX2 _ _ _ _ _) rfl (A_87 hw) rfl ⟨le_t rfl, le_t rfl⟩ ⟨le_t rfl, le_t rfl⟩ rfl (le_t rfl) fun z49 h48 => ?_
  refine mr_cSP (pc := 22) (c_X2_aimBit_W hw hT h48.1 (h48.2.2.2.1 h48.1)) (gOk _ _ _ _ _) dX2_leastBelow_22 (tX2_aimBit _ _ _ _ _) wS_X2_aimBit wM_X2_110 ⟨le_t rfl, le_t rfl⟩ ⟨le_t rfl, le_t rfl⟩ rfl (le_t rfl) fun z54 h53 => ?_
  exact mr_iret dX2_leastBelow_25 rfl (le_t rfl) (le_t rfl) hT mF.refl ⟨h53.1, (h53.2.1 h53.1), trivial⟩
def WP_X2_leastBelow_W7 (w : mW) (μ : mM) (p1 : Int) (p2 : Int) (p3 : Int) (Q : Int → mM → Prop) : Prop := WP_X2_isSplit_W w μ p1 p2 p3 (fun z5 _ => (0 ≤ z5 ∧ z5 ≤ 1) → ((¬ z5 = 0) → WP_X2_leastBelow_W8 w μ p1 p2 (p3 + 1) (fun z12 μ8 => mT w μ8 → mF [87007] w μ μ8 → ((-2147483648) ≤ z12 ∧ z12 ≤ 2147483647) → ∀ z13 : Int, bShl (1 : Int) (31 - p3) = z13 → ∀ z16 : Int, bOr p2 z13 = z16 → WP_X2_leastBelow_W8 w μ8 p1 z16 (p3 + 1) (fun z23 μ19 => mT w μ19 → mF [87007] w μ8 μ19 → ((-2147483648) ≤ z23 ∧ z23 ≤ 2147483647) → ∀ z24 : Int, bAnd z12 z23 = z24 → ((z24 = 0) → ∀ z29 : Int, μ19 87 7 = z29 → ((-2147483648) ≤ z29 ∧ z29 ≤ 2147483647) → ∀ z32 : Int, (-2147483648 ≤ z32 ∧ z32 ≤ 2147483647) → (z32 - (z29 + 1)) % 4294967296 = 0 → ∀ μ35 : mM, mU μ19 87 (7) z32 μ35 → mT w μ35 → ∀ z38 : Int, bOr z12 z23 = z38 → Q z38 μ35) ∧ ((¬ z24 = 0) → ∀ z41 : Int, bAnd z12 z23 = z41 → Q z41 μ19)))) ∧ ((z5 = 0) → WP_X2_tieFor_W w μ p1 p2 (fun z49 _ => ((-99999999) ≤ z49 ∧ z49 ≤ 19) → WP_X2_aimBit_W w μ z49 (fun z54 _ => ((-2147483648) ≤ z54 ∧ z54 ≤ 2147483647) → Q z54 μ))))
theorem vc_X2_leastBelow_W7_1 {p3 : Int} (h0 : 32 ≤ p3) (h1 : 7 ≤ p3 ∧ p3 ≤ 7) : False := by omega
set_option maxRecDepth 4000 in
set_option maxHeartbeats 4000000 in
theorem c_X2_leastBelow_W7 {l : Launch} {D : va_G} {c : Nat → ClassId} {H0 : Heap} {sa : Nat × Nat × (Nat → Int32)} {w : mW} {μ : mM} (hw : mWF w) (hT : mT w μ) {p1 : Int} (hp1 : 0 ≤ p1 ∧ p1 ≤ 9) {p2 : Int} (hp2 : (-2147483648) ≤ p2 ∧ p2 ≤ 2147483647) {p3 : Int} (hp3 : 7 ≤ p3 ∧ p3 ≤ 7) (hq0 : p1 < w.2.2.2 0) {Q : Int → mM → Prop} (hQ : WP_X2_leastBelow_W7 w μ p1 p2 p3 Q) : sC (gG l D c H0 sa) mX2_leastBelow 28 0 0 [.ref 87, iv p1, iv p2, iv p3] (mk w μ) (qI w [87007] μ (fun z μ1 => ((-2147483648) ≤ z ∧ z ≤ 2147483647) ∧ Q z μ1 ∧ True)) := by
  refine sC.of rfl (by decide) (le_t rfl) ?_
  refine mr_lvE (lv' := [(0, .ref 87), (1, iv p1), (2, iv p2), (3, iv p3)]) rfl ?_
  refine mr_iload_n (pc := 0) (z := p3) dX2_leastBelow_0 rfl rfl ?_
  refine mr_bipush (pc := 1) (z := 32) dX2_leastBelow_1 (by decide) ?_
  refine mr_icmp_ge (pc := 3) (tgt := 16) dX2_leastBelow_3 (by decide) (r32 hp3 rfl) (r32 (rR (x := 32)) rfl) (fun h => ((vc_X2_leastBelow_W7_1 h hp3)).elim) (fun _ => ?_)
  refine sv_aload_n (pc := 6) dX2_leastBelow_6 rfl rfl ?_
  refine mr_iload_n (pc := 7) (z := p1) dX2_leastBelow_7 rfl rfl ?_
  refine mr_iload_n (pc := 8) (z := p2) dX2_leastBelow_8 rfl rfl ?_
  refine mr_iload_n (pc := 9) (z := p3) dX2_leastBelow_9 rfl rfl ?_
  refine mr_cVP (pc := 10) (c_X2_isSplit_W hw hT hp1 hp2 (rW (c := (-2147483648)) (d := 2147483647) hp3 rfl) (vc_X9_end_1 hq0 hp1) hQ) (gOk _ _ _ _ _) dX2_leastBelow_10 (tX2_isSplit _ _ _ _ _) ⟨wV_X2_isSplit, wL_X2_isSplit⟩ wM_X2_106 (gCX2 _ _ _ _ _) rfl (A_87 hw) rfl ⟨le_t rfl, le_t rfl⟩ ⟨le_t rfl, le_t rfl⟩ rfl (le_t rfl) fun z5 h4 => ?_
  refine mr_if_ne (pc := 13) (tgt := 26) dX2_leastBelow_13 (by decide) (r32 h4.1 rfl) (fun h6 => ?_) (fun h6 => ?_)
  · have h7 : 1 ≤ z5 ∧ z5 ≤ 1 := (vc_X12_ring_24 h6 h4.1)
    refine sv_aload_n (pc := 26) dX2_leastBelow_26 rfl rfl ?_
    refine mr_iload_n (pc := 27) (z := p1) dX2_leastBelow_27 rfl rfl ?_
    refine mr_iload_n (pc := 28) (z := p2) dX2_leastBelow_28 rfl rfl ?_
    refine mr_iload_n (pc := 29) (z := p3) dX2_leastBelow_29 rfl rfl ?_
    refine mr_iconst (pc := 30) (z := 1) dX2_leastBelow_30 ?_
    refine mr_iadd (pc := 31) (x := p3) (y := 1) dX2_leastBelow_31 ?_
    refine mr_cVI (pc := 32) (c_X2_leastBelow_W8 hw hT hp1 hp2 (rAdd (e := 8) (f := 8) hp3 (rR (x := 1)) rfl) (vc_X9_end_1 hq0 hp1) ((h4.2.1 h4.1).1 h6)) (gOk _ _ _ _ _) dX2_leastBelow_32 (tX2_leastBelow _ _ _ _ _) ⟨wV_X2_leastBelow, wL_X2_leastBelow⟩ wM_X2_101 (gCX2 _ _ _ _ _) rfl (A_87 hw) rfl ⟨le_t rfl, le_t rfl⟩ ⟨le_t rfl, le_t rfl⟩ rfl (le_t rfl) fun z12 μ8 T9 F10 h11 => ?_
    refine mr_istore (pc := 35) (lv' := [(4, iv z12), (0, .ref 87), (1, iv p1), (2, iv p2), (3, iv p3)]) dX2_leastBelow_35 (by decide) rfl ?_
    refine sv_aload_n (pc := 37) dX2_leastBelow_37 rfl rfl ?_
    refine mr_iload_n (pc := 38) (z := p1) dX2_leastBelow_38 rfl rfl ?_
    refine mr_iload_n (pc := 39) (z := p2) dX2_leastBelow_39 rfl rfl ?_
    refine mr_iconst (pc := 40) (z := 1) dX2_leastBelow_40 ?_
    refine mr_bipush (pc := 41) (z := 31) dX2_leastBelow_41 (by decide) ?_
    refine mr_iload_n (pc := 43) (z := p3) dX2_leastBelow_43 rfl rfl ?_
    refine mr_isub (pc := 44) (x := 31) (y := p3) dX2_leastBelow_44 ?_
    refine mr_ishl (pc := 45) (x := 1) (y := (31 - p3)) dX2_leastBelow_45 ?_
    refine mr_gen (P := fun z => (-2147483648) ≤ z ∧ z ≤ 2147483647) (r32i _) fun z13 q14 h15 => ?_
    refine mr_ior (pc := 46) (x := p2) (y := z13) dX2_leastBelow_46 ?_
    refine mr_gen (P := fun z => (-2147483648) ≤ z ∧ z ≤ 2147483647) (r32i _) fun z16 q17 h18 => ?_
    refine mr_iload_n (pc := 47) (z := p3) dX2_leastBelow_47 rfl rfl ?_
    refine mr_iconst (pc := 48) (z := 1) dX2_leastBelow_48 ?_
    refine mr_iadd (pc := 49) (x := p3) (y := 1) dX2_leastBelow_49 ?_
    refine mr_cVI (pc := 50) (c_X2_leastBelow_W8 hw T9 hp1 h18 (rAdd (e := 8) (f := 8) hp3 (rR (x := 1)) rfl) (vc_X9_end_1 hq0 hp1) ((((h11.2.1 T9 F10) h11.1) z13 q14) z16 q17)) (gOk _ _ _ _ _) dX2_leastBelow_50 (tX2_leastBelow _ _ _ _ _) ⟨wV_X2_leastBelow, wL_X2_leastBelow⟩ wM_X2_101 (gCX2 _ _ _ _ _) rfl (A_87 hw) rfl ⟨le_t rfl, le_t rfl⟩ ⟨le_t rfl, le_t rfl⟩ rfl (le_t rfl) fun z23 μ19 T20 F21 h22 => ?_
    refine mr_istore (pc := 53) (lv' := [(5, iv z23), (4, iv z12), (0, .ref 87), (1, iv p1), (2, iv p2), (3, iv p3)]) dX2_leastBelow_53 (by decide) rfl ?_
    refine mr_iload (pc := 55) (z := z12) dX2_leastBelow_55 rfl ?_
    refine mr_iload (pc := 57) (z := z23) dX2_leastBelow_57 rfl ?_
    refine mr_iand (pc := 59) (x := z12) (y := z23) dX2_leastBelow_59 ?_
    refine mr_gen (P := fun z => (-2147483648) ≤ z ∧ z ≤ 2147483647) (r32i _) fun z24 q25 h26 => ?_
    refine mr_if_eq (pc := 60) (tgt := 69) dX2_leastBelow_60 (by decide) h26 (fun h27 => ?_) (fun h27 => ?_)
    · have h28 : 0 ≤ z24 ∧ z24 ≤ 0 := (vc_X12_mask_1 h27 h26)
      refine sv_aload_n (pc := 69) dX2_leastBelow_69 rfl rfl ?_
      refine sv_dup (pc := 70) dX2_leastBelow_70 rfl ?_
      refine gf_X2_7 (pc := 71) dX2_leastBelow_71 wF_X2_98 (A_87 hw) T20 fun z29 q30 h31 => ?_
      refine mr_iconst (pc := 74) (z := 1) dX2_leastBelow_74 ?_
      refine mr_iadd (pc := 75) (x := z29) (y := 1) dX2_leastBelow_75 ?_
      refine mr_wrapF fun z32 h33 h34 => ?_
      refine pf_X2_7 (pc := 76) dX2_leastBelow_76 wF_X2_98 (A_87 hw) T20 h33 fun μ35 u36 T37 => ?_
      refine mr_iload (pc := 79) (z := z12) dX2_leastBelow_79 rfl ?_
      refine mr_iload (pc := 81) (z := z23) dX2_leastBelow_81 rfl ?_
      refine mr_ior (pc := 83) (x := z12) (y := z23) dX2_leastBelow_83 ?_
      refine mr_gen (P := fun z => (-2147483648) ≤ z ∧ z ≤ 2147483647) (r32i _) fun z38 q39 h40 => ?_
      exact mr_iret dX2_leastBelow_84 rfl (le_t rfl) (le_t rfl) T37 (mF.up (mF.call (mF.call mF.refl F10 rfl) F21 rfl) (A_87 hw) u36 rfl) ⟨h40, ((((((((h22.2.1 T20 F21) h22.1) z24 q25).1 h27) z29 q30 h31) z32 h33 h34) μ35 u36 T37) z38 q39), trivial⟩
    refine mr_iload (pc := 63) (z := z12) dX2_leastBelow_63 rfl ?_
    refine mr_iload (pc := 65) (z := z23) dX2_leastBelow_65 rfl ?_
    refine mr_iand (pc := 67) (x := z12) (y := z23) dX2_leastBelow_67 ?_
    refine mr_gen (P := fun z => (-2147483648) ≤ z ∧ z ≤ 2147483647) (r32i _) fun z41 q42 h43 => ?_
    exact mr_iret dX2_leastBelow_68 rfl (le_t rfl) (le_t rfl) T20 (mF.call (mF.call mF.refl F10 rfl) F21 rfl) ⟨h43, (((((h22.2.1 T20 F21) h22.1) z24 q25).2 h27) z41 q42), trivial⟩
  have h44 : 0 ≤ z5 ∧ z5 ≤ 0 := (vc_X12_ring_22 h6 h4.1)
  refine sv_aload_n (pc := 16) dX2_leastBelow_16 rfl rfl ?_
  refine mr_iload_n (pc := 17) (z := p1) dX2_leastBelow_17 rfl rfl ?_
  refine mr_iload_n (pc := 18) (z := p2) dX2_leastBelow_18 rfl rfl ?_
  refine mr_cVP (pc := 19) (c_X2_tieFor_W hw hT hp1 hp2 (vc_X9_end_1 hq0 hp1) ((h4.2.1 h4.1).2 h6)) (gOk _ _ _ _ _) dX2_leastBelow_19 (tX2_tieFor _ _ _ _ _) ⟨wV_X2_tieFor, wL_X2_tieFor⟩ wM_X2_60 (gCX2 _ _ _ _ _) rfl (A_87 hw) rfl ⟨le_t rfl, le_t rfl⟩ ⟨le_t rfl, le_t rfl⟩ rfl (le_t rfl) fun z49 h48 => ?_
  refine mr_cSP (pc := 22) (c_X2_aimBit_W hw hT h48.1 (h48.2.2.2.1 h48.1)) (gOk _ _ _ _ _) dX2_leastBelow_22 (tX2_aimBit _ _ _ _ _) wS_X2_aimBit wM_X2_110 ⟨le_t rfl, le_t rfl⟩ ⟨le_t rfl, le_t rfl⟩ rfl (le_t rfl) fun z54 h53 => ?_
  exact mr_iret dX2_leastBelow_25 rfl (le_t rfl) (le_t rfl) hT mF.refl ⟨h53.1, (h53.2.1 h53.1), trivial⟩
def WP_X2_leastBelow_W6 (w : mW) (μ : mM) (p1 : Int) (p2 : Int) (p3 : Int) (Q : Int → mM → Prop) : Prop := WP_X2_isSplit_W w μ p1 p2 p3 (fun z5 _ => (0 ≤ z5 ∧ z5 ≤ 1) → ((¬ z5 = 0) → WP_X2_leastBelow_W7 w μ p1 p2 (p3 + 1) (fun z12 μ8 => mT w μ8 → mF [87007] w μ μ8 → ((-2147483648) ≤ z12 ∧ z12 ≤ 2147483647) → ∀ z13 : Int, bShl (1 : Int) (31 - p3) = z13 → ∀ z16 : Int, bOr p2 z13 = z16 → WP_X2_leastBelow_W7 w μ8 p1 z16 (p3 + 1) (fun z23 μ19 => mT w μ19 → mF [87007] w μ8 μ19 → ((-2147483648) ≤ z23 ∧ z23 ≤ 2147483647) → ∀ z24 : Int, bAnd z12 z23 = z24 → ((z24 = 0) → ∀ z29 : Int, μ19 87 7 = z29 → ((-2147483648) ≤ z29 ∧ z29 ≤ 2147483647) → ∀ z32 : Int, (-2147483648 ≤ z32 ∧ z32 ≤ 2147483647) → (z32 - (z29 + 1)) % 4294967296 = 0 → ∀ μ35 : mM, mU μ19 87 (7) z32 μ35 → mT w μ35 → ∀ z38 : Int, bOr z12 z23 = z38 → Q z38 μ35) ∧ ((¬ z24 = 0) → ∀ z41 : Int, bAnd z12 z23 = z41 → Q z41 μ19)))) ∧ ((z5 = 0) → WP_X2_tieFor_W w μ p1 p2 (fun z49 _ => ((-99999999) ≤ z49 ∧ z49 ≤ 19) → WP_X2_aimBit_W w μ z49 (fun z54 _ => ((-2147483648) ≤ z54 ∧ z54 ≤ 2147483647) → Q z54 μ))))
theorem vc_X2_leastBelow_W6_1 {p3 : Int} (h0 : 32 ≤ p3) (h1 : 6 ≤ p3 ∧ p3 ≤ 6) : False := by omega
set_option maxRecDepth 4000 in
set_option maxHeartbeats 4000000 in
theorem c_X2_leastBelow_W6 {l : Launch} {D : va_G} {c : Nat → ClassId} {H0 : Heap} {sa : Nat × Nat × (Nat → Int32)} {w : mW} {μ : mM} (hw : mWF w) (hT : mT w μ) {p1 : Int} (hp1 : 0 ≤ p1 ∧ p1 ≤ 9) {p2 : Int} (hp2 : (-2147483648) ≤ p2 ∧ p2 ≤ 2147483647) {p3 : Int} (hp3 : 6 ≤ p3 ∧ p3 ≤ 6) (hq0 : p1 < w.2.2.2 0) {Q : Int → mM → Prop} (hQ : WP_X2_leastBelow_W6 w μ p1 p2 p3 Q) : sC (gG l D c H0 sa) mX2_leastBelow 29 0 0 [.ref 87, iv p1, iv p2, iv p3] (mk w μ) (qI w [87007] μ (fun z μ1 => ((-2147483648) ≤ z ∧ z ≤ 2147483647) ∧ Q z μ1 ∧ True)) := by
  refine sC.of rfl (by decide) (le_t rfl) ?_
  refine mr_lvE (lv' := [(0, .ref 87), (1, iv p1), (2, iv p2), (3, iv p3)]) rfl ?_
  refine mr_iload_n (pc := 0) (z := p3) dX2_leastBelow_0 rfl rfl ?_
  refine mr_bipush (pc := 1) (z := 32) dX2_leastBelow_1 (by decide) ?_
  refine mr_icmp_ge (pc := 3) (tgt := 16) dX2_leastBelow_3 (by decide) (r32 hp3 rfl) (r32 (rR (x := 32)) rfl) (fun h => ((vc_X2_leastBelow_W6_1 h hp3)).elim) (fun _ => ?_)
  refine sv_aload_n (pc := 6) dX2_leastBelow_6 rfl rfl ?_
  refine mr_iload_n (pc := 7) (z := p1) dX2_leastBelow_7 rfl rfl ?_
  refine mr_iload_n (pc := 8) (z := p2) dX2_leastBelow_8 rfl rfl ?_
  refine mr_iload_n (pc := 9) (z := p3) dX2_leastBelow_9 rfl rfl ?_
  refine mr_cVP (pc := 10) (c_X2_isSplit_W hw hT hp1 hp2 (rW (c := (-2147483648)) (d := 2147483647) hp3 rfl) (vc_X9_end_1 hq0 hp1) hQ) (gOk _ _ _ _ _) dX2_leastBelow_10 (tX2_isSplit _ _ _ _ _) ⟨wV_X2_isSplit, wL_X2_isSplit⟩ wM_X2_106 (gCX2 _ _ _ _ _) rfl (A_87 hw) rfl ⟨le_t rfl, le_t rfl⟩ ⟨le_t rfl, le_t rfl⟩ rfl (le_t rfl) fun z5 h4 => ?_
  refine mr_if_ne (pc := 13) (tgt := 26) dX2_leastBelow_13 (by decide) (r32 h4.1 rfl) (fun h6 => ?_) (fun h6 => ?_)
  · have h7 : 1 ≤ z5 ∧ z5 ≤ 1 := (vc_X12_ring_24 h6 h4.1)
    refine sv_aload_n (pc := 26) dX2_leastBelow_26 rfl rfl ?_
    refine mr_iload_n (pc := 27) (z := p1) dX2_leastBelow_27 rfl rfl ?_
    refine mr_iload_n (pc := 28) (z := p2) dX2_leastBelow_28 rfl rfl ?_
    refine mr_iload_n (pc := 29) (z := p3) dX2_leastBelow_29 rfl rfl ?_
    refine mr_iconst (pc := 30) (z := 1) dX2_leastBelow_30 ?_
    refine mr_iadd (pc := 31) (x := p3) (y := 1) dX2_leastBelow_31 ?_
    refine mr_cVI (pc := 32) (c_X2_leastBelow_W7 hw hT hp1 hp2 (rAdd (e := 7) (f := 7) hp3 (rR (x := 1)) rfl) (vc_X9_end_1 hq0 hp1) ((h4.2.1 h4.1).1 h6)) (gOk _ _ _ _ _) dX2_leastBelow_32 (tX2_leastBelow _ _ _ _ _) ⟨wV_X2_leastBelow, wL_X2_leastBelow⟩ wM_X2_101 (gCX2 _ _ _ _ _) rfl (A_87 hw) rfl ⟨le_t rfl, le_t rfl⟩ ⟨le_t rfl, le_t rfl⟩ rfl (le_t rfl) fun z12 μ8 T9 F10 h11 => ?_
    refine mr_istore (pc := 35) (lv' := [(4, iv z12), (0, .ref 87), (1, iv p1), (2, iv p2), (3, iv p3)]) dX2_leastBelow_35 (by decide) rfl ?_
    refine sv_aload_n (pc := 37) dX2_leastBelow_37 rfl rfl ?_
    refine mr_iload_n (pc := 38) (z := p1) dX2_leastBelow_38 rfl rfl ?_
    refine mr_iload_n (pc := 39) (z := p2) dX2_leastBelow_39 rfl rfl ?_
    refine mr_iconst (pc := 40) (z := 1) dX2_leastBelow_40 ?_
    refine mr_bipush (pc := 41) (z := 31) dX2_leastBelow_41 (by decide) ?_
    refine mr_iload_n (pc := 43) (z := p3) dX2_leastBelow_43 rfl rfl ?_
    refine mr_isub (pc := 44) (x := 31) (y := p3) dX2_leastBelow_44 ?_
    refine mr_ishl (pc := 45) (x := 1) (y := (31 - p3)) dX2_leastBelow_45 ?_
    refine mr_gen (P := fun z => (-2147483648) ≤ z ∧ z ≤ 2147483647) (r32i _) fun z13 q14 h15 => ?_
    refine mr_ior (pc := 46) (x := p2) (y := z13) dX2_leastBelow_46 ?_
    refine mr_gen (P := fun z => (-2147483648) ≤ z ∧ z ≤ 2147483647) (r32i _) fun z16 q17 h18 => ?_
    refine mr_iload_n (pc := 47) (z := p3) dX2_leastBelow_47 rfl rfl ?_
    refine mr_iconst (pc := 48) (z := 1) dX2_leastBelow_48 ?_
    refine mr_iadd (pc := 49) (x := p3) (y := 1) dX2_leastBelow_49 ?_
    refine mr_cVI (pc := 50) (c_X2_leastBelow_W7 hw T9 hp1 h18 (rAdd (e := 7) (f := 7) hp3 (rR (x := 1)) rfl) (vc_X9_end_1 hq0 hp1) ((((h11.2.1 T9 F10) h11.1) z13 q14) z16 q17)) (gOk _ _ _ _ _) dX2_leastBelow_50 (tX2_leastBelow _ _ _ _ _) ⟨wV_X2_leastBelow, wL_X2_leastBelow⟩ wM_X2_101 (gCX2 _ _ _ _ _) rfl (A_87 hw) rfl ⟨le_t rfl, le_t rfl⟩ ⟨le_t rfl, le_t rfl⟩ rfl (le_t rfl) fun z23 μ19 T20 F21 h22 => ?_
    refine mr_istore (pc := 53) (lv' := [(5, iv z23), (4, iv z12), (0, .ref 87), (1, iv p1), (2, iv p2), (3, iv p3)]) dX2_leastBelow_53 (by decide) rfl ?_
    refine mr_iload (pc := 55) (z := z12) dX2_leastBelow_55 rfl ?_
    refine mr_iload (pc := 57) (z := z23) dX2_leastBelow_57 rfl ?_
    refine mr_iand (pc := 59) (x := z12) (y := z23) dX2_leastBelow_59 ?_
    refine mr_gen (P := fun z => (-2147483648) ≤ z ∧ z ≤ 2147483647) (r32i _) fun z24 q25 h26 => ?_
    refine mr_if_eq (pc := 60) (tgt := 69) dX2_leastBelow_60 (by decide) h26 (fun h27 => ?_) (fun h27 => ?_)
    · have h28 : 0 ≤ z24 ∧ z24 ≤ 0 := (vc_X12_mask_1 h27 h26)
      refine sv_aload_n (pc := 69) dX2_leastBelow_69 rfl rfl ?_
      refine sv_dup (pc := 70) dX2_leastBelow_70 rfl ?_
      refine gf_X2_7 (pc := 71) dX2_leastBelow_71 wF_X2_98 (A_87 hw) T20 fun z29 q30 h31 => ?_
      refine mr_iconst (pc := 74) (z := 1) dX2_leastBelow_74 ?_
      refine mr_iadd (pc := 75) (x := z29) (y := 1) dX2_leastBelow_75 ?_
      refine mr_wrapF fun z32 h33 h34 => ?_
      refine pf_X2_7 (pc := 76) dX2_leastBelow_76 wF_X2_98 (A_87 hw) T20 h33 fun μ35 u36 T37 => ?_
      refine mr_iload (pc := 79) (z := z12) dX2_leastBelow_79 rfl ?_
      refine mr_iload (pc := 81) (z := z23) dX2_leastBelow_81 rfl ?_
      refine mr_ior (pc := 83) (x := z12) (y := z23) dX2_leastBelow_83 ?_
      refine mr_gen (P := fun z => (-2147483648) ≤ z ∧ z ≤ 2147483647) (r32i _) fun z38 q39 h40 => ?_
      exact mr_iret dX2_leastBelow_84 rfl (le_t rfl) (le_t rfl) T37 (mF.up (mF.call (mF.call mF.refl F10 rfl) F21 rfl) (A_87 hw) u36 rfl) ⟨h40, ((((((((h22.2.1 T20 F21) h22.1) z24 q25).1 h27) z29 q30 h31) z32 h33 h34) μ35 u36 T37) z38 q39), trivial⟩
    refine mr_iload (pc := 63) (z := z12) dX2_leastBelow_63 rfl ?_
    refine mr_iload (pc := 65) (z := z23) dX2_leastBelow_65 rfl ?_
    refine mr_iand (pc := 67) (x := z12) (y := z23) dX2_leastBelow_67 ?_
    refine mr_gen (P := fun z => (-2147483648) ≤ z ∧ z ≤ 2147483647) (r32i _) fun z41 q42 h43 => ?_
    exact mr_iret dX2_leastBelow_68 rfl (le_t rfl) (le_t rfl) T20 (mF.call (mF.call mF.refl F10 rfl) F21 rfl) ⟨h43, (((((h22.2.1 T20 F21) h22.1) z24 q25).2 h27) z41 q42), trivial⟩
  have h44 : 0 ≤ z5 ∧ z5 ≤ 0 := (vc_X12_ring_22 h6 h4.1)
  refine sv_aload_n (pc := 16) dX2_leastBelow_16 rfl rfl ?_
  refine mr_iload_n (pc := 17) (z := p1) dX2_leastBelow_17 rfl rfl ?_
  refine mr_iload_n (pc := 18) (z := p2) dX2_leastBelow_18 rfl rfl ?_
  refine mr_cVP (pc := 19) (c_X2_tieFor_W hw hT hp1 hp2 (vc_X9_end_1 hq0 hp1) ((h4.2.1 h4.1).2 h6)) (gOk _ _ _ _ _) dX2_leastBelow_19 (tX2_tieFor _ _ _ _ _) ⟨wV_X2_tieFor, wL_X2_tieFor⟩ wM_X2_60 (gCX2 _ _ _ _ _) rfl (A_87 hw) rfl ⟨le_t rfl, le_t rfl⟩ ⟨le_t rfl, le_t rfl⟩ rfl (le_t rfl) fun z49 h48 => ?_
  refine mr_cSP (pc := 22) (c_X2_aimBit_W hw hT h48.1 (h48.2.2.2.1 h48.1)) (gOk _ _ _ _ _) dX2_leastBelow_22 (tX2_aimBit _ _ _ _ _) wS_X2_aimBit wM_X2_110 ⟨le_t rfl, le_t rfl⟩ ⟨le_t rfl, le_t rfl⟩ rfl (le_t rfl) fun z54 h53 => ?_
  exact mr_iret dX2_leastBelow_25 rfl (le_t rfl) (le_t rfl) hT mF.refl ⟨h53.1, (h53.2.1 h53.1), trivial⟩
def WP_X2_leastBelow_W5 (w : mW) (μ : mM) (p1 : Int) (p2 : Int) (p3 : Int) (Q : Int → mM → Prop) : Prop := WP_X2_isSplit_W w μ p1 p2 p3 (fun z5 _ => (0 ≤ z5 ∧ z5 ≤ 1) → ((¬ z5 = 0) → WP_X2_leastBelow_W6 w μ p1 p2 (p3 + 1) (fun z12 μ8 => mT w μ8 → mF [87007] w μ μ8 → ((-2147483648) ≤ z12 ∧ z12 ≤ 2147483647) → ∀ z13 : Int, bShl (1 : Int) (31 - p3) = z13 → ∀ z16 : Int, bOr p2 z13 = z16 → WP_X2_leastBelow_W6 w μ8 p1 z16 (p3 + 1) (fun z23 μ19 => mT w μ19 → mF [87007] w μ8 μ19 → ((-2147483648) ≤ z23 ∧ z23 ≤ 2147483647) → ∀ z24 : Int, bAnd z12 z23 = z24 → ((z24 = 0) → ∀ z29 : Int, μ19 87 7 = z29 → ((-2147483648) ≤ z29 ∧ z29 ≤ 2147483647) → ∀ z32 : Int, (-2147483648 ≤ z32 ∧ z32 ≤ 2147483647) → (z32 - (z29 + 1)) % 4294967296 = 0 → ∀ μ35 : mM, mU μ19 87 (7) z32 μ35 → mT w μ35 → ∀ z38 : Int, bOr z12 z23 = z38 → Q z38 μ35) ∧ ((¬ z24 = 0) → ∀ z41 : Int, bAnd z12 z23 = z41 → Q z41 μ19)))) ∧ ((z5 = 0) → WP_X2_tieFor_W w μ p1 p2 (fun z49 _ => ((-99999999) ≤ z49 ∧ z49 ≤ 19) → WP_X2_aimBit_W w μ z49 (fun z54 _ => ((-2147483648) ≤ z54 ∧ z54 ≤ 2147483647) → Q z54 μ))))
theorem vc_X2_leastBelow_W5_1 {p3 : Int} (h0 : 32 ≤ p3) (h1 : 5 ≤ p3 ∧ p3 ≤ 5) : False := by omega
set_option maxRecDepth 4000 in
set_option maxHeartbeats 4000000 in
theorem c_X2_leastBelow_W5 {l : Launch} {D : va_G} {c : Nat → ClassId} {H0 : Heap} {sa : Nat × Nat × (Nat → Int32)} {w : mW} {μ : mM} (hw : mWF w) (hT : mT w μ) {p1 : Int} (hp1 : 0 ≤ p1 ∧ p1 ≤ 9) {p2 : Int} (hp2 : (-2147483648) ≤ p2 ∧ p2 ≤ 2147483647) {p3 : Int} (hp3 : 5 ≤ p3 ∧ p3 ≤ 5) (hq0 : p1 < w.2.2.2 0) {Q : Int → mM → Prop} (hQ : WP_X2_leastBelow_W5 w μ p1 p2 p3 Q) : sC (gG l D c H0 sa) mX2_leastBelow 30 0 0 [.ref 87, iv p1, iv p2, iv p3] (mk w μ) (qI w [87007] μ (fun z μ1 => ((-2147483648) ≤ z ∧ z ≤ 2147483647) ∧ Q z μ1 ∧ True)) := by
  refine sC.of rfl (by decide) (le_t rfl) ?_
  refine mr_lvE (lv' := [(0, .ref 87), (1, iv p1), (2, iv p2), (3, iv p3)]) rfl ?_
  refine mr_iload_n (pc := 0) (z := p3) dX2_leastBelow_0 rfl rfl ?_
  refine mr_bipush (pc := 1) (z := 32) dX2_leastBelow_1 (by decide) ?_
  refine mr_icmp_ge (pc := 3) (tgt := 16) dX2_leastBelow_3 (by decide) (r32 hp3 rfl) (r32 (rR (x := 32)) rfl) (fun h => ((vc_X2_leastBelow_W5_1 h hp3)).elim) (fun _ => ?_)
  refine sv_aload_n (pc := 6) dX2_leastBelow_6 rfl rfl ?_
  refine mr_iload_n (pc := 7) (z := p1) dX2_leastBelow_7 rfl rfl ?_
  refine mr_iload_n (pc := 8) (z := p2) dX2_leastBelow_8 rfl rfl ?_
  refine mr_iload_n (pc := 9) (z := p3) dX2_leastBelow_9 rfl rfl ?_
  refine mr_cVP (pc := 10) (c_X2_isSplit_W hw hT hp1 hp2 (rW (c := (-2147483648)) (d := 2147483647) hp3 rfl) (vc_X9_end_1 hq0 hp1) hQ) (gOk _ _ _ _ _) dX2_leastBelow_10 (tX2_isSplit _ _ _ _ _) ⟨wV_X2_isSplit, wL_X2_isSplit⟩ wM_X2_106 (gCX2 _ _ _ _ _) rfl (A_87 hw) rfl ⟨le_t rfl, le_t rfl⟩ ⟨le_t rfl, le_t rfl⟩ rfl (le_t rfl) fun z5 h4 => ?_
  refine mr_if_ne (pc := 13) (tgt := 26) dX2_leastBelow_13 (by decide) (r32 h4.1 rfl) (fun h6 => ?_) (fun h6 => ?_)
  · have h7 : 1 ≤ z5 ∧ z5 ≤ 1 := (vc_X12_ring_24 h6 h4.1)
    refine sv_aload_n (pc := 26) dX2_leastBelow_26 rfl rfl ?_
    refine mr_iload_n (pc := 27) (z := p1) dX2_leastBelow_27 rfl rfl ?_
    refine mr_iload_n (pc := 28) (z := p2) dX2_leastBelow_28 rfl rfl ?_
    refine mr_iload_n (pc := 29) (z := p3) dX2_leastBelow_29 rfl rfl ?_
    refine mr_iconst (pc := 30) (z := 1) dX2_leastBelow_30 ?_
    refine mr_iadd (pc := 31) (x := p3) (y := 1) dX2_leastBelow_31 ?_
    refine mr_cVI (pc := 32) (c_X2_leastBelow_W6 hw hT hp1 hp2 (rAdd (e := 6) (f := 6) hp3 (rR (x := 1)) rfl) (vc_X9_end_1 hq0 hp1) ((h4.2.1 h4.1).1 h6)) (gOk _ _ _ _ _) dX2_leastBelow_32 (tX2_leastBelow _ _ _ _ _) ⟨wV_X2_leastBelow, wL_X2_leastBelow⟩ wM_X2_101 (gCX2 _ _ _ _ _) rfl (A_87 hw) rfl ⟨le_t rfl, le_t rfl⟩ ⟨le_t rfl, le_t rfl⟩ rfl (le_t rfl) fun z12 μ8 T9 F10 h11 => ?_
    refine mr_istore (pc := 35) (lv' := [(4, iv z12), (0, .ref 87), (1, iv p1), (2, iv p2), (3, iv p3)]) dX2_leastBelow_35 (by decide) rfl ?_
    refine sv_aload_n (pc := 37) dX2_leastBelow_37 rfl rfl ?_
    refine mr_iload_n (pc := 38) (z := p1) dX2_leastBelow_38 rfl rfl ?_
    refine mr_iload_n (pc := 39) (z := p2) dX2_leastBelow_39 rfl rfl ?_
    refine mr_iconst (pc := 40) (z := 1) dX2_leastBelow_40 ?_
    refine mr_bipush (pc := 41) (z := 31) dX2_leastBelow_41 (by decide) ?_
    refine mr_iload_n (pc := 43) (z := p3) dX2_leastBelow_43 rfl rfl ?_
    refine mr_isub (pc := 44) (x := 31) (y := p3) dX2_leastBelow_44 ?_
    refine mr_ishl (pc := 45) (x := 1) (y := (31 - p3)) dX2_leastBelow_45 ?_
    refine mr_gen (P := fun z => (-2147483648) ≤ z ∧ z ≤ 2147483647) (r32i _) fun z13 q14 h15 => ?_
    refine mr_ior (pc := 46) (x := p2) (y := z13) dX2_leastBelow_46 ?_
    refine mr_gen (P := fun z => (-2147483648) ≤ z ∧ z ≤ 2147483647) (r32i _) fun z16 q17 h18 => ?_
    refine mr_iload_n (pc := 47) (z := p3) dX2_leastBelow_47 rfl rfl ?_
    refine mr_iconst (pc := 48) (z := 1) dX2_leastBelow_48 ?_
    refine mr_iadd (pc := 49) (x := p3) (y := 1) dX2_leastBelow_49 ?_
    refine mr_cVI (pc := 50) (c_X2_leastBelow_W6 hw T9 hp1 h18 (rAdd (e := 6) (f := 6) hp3 (rR (x := 1)) rfl) (vc_X9_end_1 hq0 hp1) ((((h11.2.1 T9 F10) h11.1) z13 q14) z16 q17)) (gOk _ _ _ _ _) dX2_leastBelow_50 (tX2_leastBelow _ _ _ _ _) ⟨wV_X2_leastBelow, wL_X2_leastBelow⟩ wM_X2_101 (gCX2 _ _ _ _ _) rfl (A_87 hw) rfl ⟨le_t rfl, le_t rfl⟩ ⟨le_t rfl, le_t rfl⟩ rfl (le_t rfl) fun z23 μ19 T20 F21 h22 => ?_
    refine mr_istore (pc := 53) (lv' := [(5, iv z23), (4, iv z12), (0, .ref 87), (1, iv p1), (2, iv p2), (3, iv p3)]) dX2_leastBelow_53 (by decide) rfl ?_
    refine mr_iload (pc := 55) (z := z12) dX2_leastBelow_55 rfl ?_
    refine mr_iload (pc := 57) (z := z23) dX2_leastBelow_57 rfl ?_
    refine mr_iand (pc := 59) (x := z12) (y := z23) dX2_leastBelow_59 ?_
    refine mr_gen (P := fun z => (-2147483648) ≤ z ∧ z ≤ 2147483647) (r32i _) fun z24 q25 h26 => ?_
    refine mr_if_eq (pc := 60) (tgt := 69) dX2_leastBelow_60 (by decide) h26 (fun h27 => ?_) (fun h27 => ?_)
    · have h28 : 0 ≤ z24 ∧ z24 ≤ 0 := (vc_X12_mask_1 h27 h26)
      refine sv_aload_n (pc := 69) dX2_leastBelow_69 rfl rfl ?_
      refine sv_dup (pc := 70) dX2_leastBelow_70 rfl ?_
      refine gf_X2_7 (pc := 71) dX2_leastBelow_71 wF_X2_98 (A_87 hw) T20 fun z29 q30 h31 => ?_
      refine mr_iconst (pc := 74) (z := 1) dX2_leastBelow_74 ?_
      refine mr_iadd (pc := 75) (x := z29) (y := 1) dX2_leastBelow_75 ?_
      refine mr_wrapF fun z32 h33 h34 => ?_
      refine pf_X2_7 (pc := 76) dX2_leastBelow_76 wF_X2_98 (A_87 hw) T20 h33 fun μ35 u36 T37 => ?_
      refine mr_iload (pc := 79) (z := z12) dX2_leastBelow_79 rfl ?_
      refine mr_iload (pc := 81) (z := z23) dX2_leastBelow_81 rfl ?_
      refine mr_ior (pc := 83) (x := z12) (y := z23) dX2_leastBelow_83 ?_
      refine mr_gen (P := fun z => (-2147483648) ≤ z ∧ z ≤ 2147483647) (r32i _) fun z38 q39 h40 => ?_
      exact mr_iret dX2_leastBelow_84 rfl (le_t rfl) (le_t rfl) T37 (mF.up (mF.call (mF.call mF.refl F10 rfl) F21 rfl) (A_87 hw) u36 rfl) ⟨h40, ((((((((h22.2.1 T20 F21) h22.1) z24 q25).1 h27) z29 q30 h31) z32 h33 h34) μ35 u36 T37) z38 q39), trivial⟩
    refine mr_iload (pc := 63) (z := z12) dX2_leastBelow_63 rfl ?_
    refine mr_iload (pc := 65) (z := z23) dX2_leastBelow_65 rfl ?_
    refine mr_iand (pc := 67) (x := z12) (y := z23) dX2_leastBelow_67 ?_
    refine mr_gen (P := fun z => (-2147483648) ≤ z ∧ z ≤ 2147483647) (r32i _) fun z41 q42 h43 => ?_
    exact mr_iret dX2_leastBelow_68 rfl (le_t rfl) (le_t rfl) T20 (mF.call (mF.call mF.refl F10 rfl) F21 rfl) ⟨h43, (((((h22.2.1 T20 F21) h22.1) z24 q25).2 h27) z41 q42), trivial⟩
  have h44 : 0 ≤ z5 ∧ z5 ≤ 0 := (vc_X12_ring_22 h6 h4.1)
  refine sv_aload_n (pc := 16) dX2_leastBelow_16 rfl rfl ?_
  refine mr_iload_n (pc := 17) (z := p1) dX2_leastBelow_17 rfl rfl ?_
  refine mr_iload_n (pc := 18) (z := p2) dX2_leastBelow_18 rfl rfl ?_
  refine mr_cVP (pc := 19) (c_X2_tieFor_W hw hT hp1 hp2 (vc_X9_end_1 hq0 hp1) ((h4.2.1 h4.1).2 h6)) (gOk _ _ _ _ _) dX2_leastBelow_19 (tX2_tieFor _ _ _ _ _) ⟨wV_X2_tieFor, wL_X2_tieFor⟩ wM_X2_60 (gCX2 _ _ _ _ _) rfl (A_87 hw) rfl ⟨le_t rfl, le_t rfl⟩ ⟨le_t rfl, le_t rfl⟩ rfl (le_t rfl) fun z49 h48 => ?_
  refine mr_cSP (pc := 22) (c_X2_aimBit_W hw hT h48.1 (h48.2.2.2.1 h48.1)) (gOk _ _ _ _ _) dX2_leastBelow_22 (tX2_aimBit _ _ _ _ _) wS_X2_aimBit wM_X2_110 ⟨le_t rfl, le_t rfl⟩ ⟨le_t rfl, le_t rfl⟩ rfl (le_t rfl) fun z54 h53 => ?_
  exact mr_iret dX2_leastBelow_25 rfl (le_t rfl) (le_t rfl) hT mF.refl ⟨h53.1, (h53.2.1 h53.1), trivial⟩
def WP_X2_leastBelow_W4 (w : mW) (μ : mM) (p1 : Int) (p2 : Int) (p3 : Int) (Q : Int → mM → Prop) : Prop := WP_X2_isSplit_W w μ p1 p2 p3 (fun z5 _ => (0 ≤ z5 ∧ z5 ≤ 1) → ((¬ z5 = 0) → WP_X2_leastBelow_W5 w μ p1 p2 (p3 + 1) (fun z12 μ8 => mT w μ8 → mF [87007] w μ μ8 → ((-2147483648) ≤ z12 ∧ z12 ≤ 2147483647) → ∀ z13 : Int, bShl (1 : Int) (31 - p3) = z13 → ∀ z16 : Int, bOr p2 z13 = z16 → WP_X2_leastBelow_W5 w μ8 p1 z16 (p3 + 1) (fun z23 μ19 => mT w μ19 → mF [87007] w μ8 μ19 → ((-2147483648) ≤ z23 ∧ z23 ≤ 2147483647) → ∀ z24 : Int, bAnd z12 z23 = z24 → ((z24 = 0) → ∀ z29 : Int, μ19 87 7 = z29 → ((-2147483648) ≤ z29 ∧ z29 ≤ 2147483647) → ∀ z32 : Int, (-2147483648 ≤ z32 ∧ z32 ≤ 2147483647) → (z32 - (z29 + 1)) % 4294967296 = 0 → ∀ μ35 : mM, mU μ19 87 (7) z32 μ35 → mT w μ35 → ∀ z38 : Int, bOr z12 z23 = z38 → Q z38 μ35) ∧ ((¬ z24 = 0) → ∀ z41 : Int, bAnd z12 z23 = z41 → Q z41 μ19)))) ∧ ((z5 = 0) → WP_X2_tieFor_W w μ p1 p2 (fun z49 _ => ((-99999999) ≤ z49 ∧ z49 ≤ 19) → WP_X2_aimBit_W w μ z49 (fun z54 _ => ((-2147483648) ≤ z54 ∧ z54 ≤ 2147483647) → Q z54 μ))))
theorem vc_X2_leastBelow_W4_1 {p3 : Int} (h0 : 32 ≤ p3) (h1 : 4 ≤ p3 ∧ p3 ≤ 4) : False := by omega
set_option maxRecDepth 4000 in
set_option maxHeartbeats 4000000 in
theorem c_X2_leastBelow_W4 {l : Launch} {D : va_G} {c : Nat → ClassId} {H0 : Heap} {sa : Nat × Nat × (Nat → Int32)} {w : mW} {μ : mM} (hw : mWF w) (hT : mT w μ) {p1 : Int} (hp1 : 0 ≤ p1 ∧ p1 ≤ 9) {p2 : Int} (hp2 : (-2147483648) ≤ p2 ∧ p2 ≤ 2147483647) {p3 : Int} (hp3 : 4 ≤ p3 ∧ p3 ≤ 4) (hq0 : p1 < w.2.2.2 0) {Q : Int → mM → Prop} (hQ : WP_X2_leastBelow_W4 w μ p1 p2 p3 Q) : sC (gG l D c H0 sa) mX2_leastBelow 31 0 0 [.ref 87, iv p1, iv p2, iv p3] (mk w μ) (qI w [87007] μ (fun z μ1 => ((-2147483648) ≤ z ∧ z ≤ 2147483647) ∧ Q z μ1 ∧ True)) := by
  refine sC.of rfl (by decide) (le_t rfl) ?_
  refine mr_lvE (lv' := [(0, .ref 87), (1, iv p1), (2, iv p2), (3, iv p3)]) rfl ?_
  refine mr_iload_n (pc := 0) (z := p3) dX2_leastBelow_0 rfl rfl ?_
  refine mr_bipush (pc := 1) (z := 32) dX2_leastBelow_1 (by decide) ?_
  refine mr_icmp_ge (pc := 3) (tgt := 16) dX2_leastBelow_3 (by decide) (r32 hp3 rfl) (r32 (rR (x := 32)) rfl) (fun h => ((vc_X2_leastBelow_W4_1 h hp3)).elim) (fun _ => ?_)
  refine sv_aload_n (pc := 6) dX2_leastBelow_6 rfl rfl ?_
  refine mr_iload_n (pc := 7) (z := p1) dX2_leastBelow_7 rfl rfl ?_
  refine mr_iload_n (pc := 8) (z := p2) dX2_leastBelow_8 rfl rfl ?_
  refine mr_iload_n (pc := 9) (z := p3) dX2_leastBelow_9 rfl rfl ?_
  refine mr_cVP (pc := 10) (c_X2_isSplit_W hw hT hp1 hp2 (rW (c := (-2147483648)) (d := 2147483647) hp3 rfl) (vc_X9_end_1 hq0 hp1) hQ) (gOk _ _ _ _ _) dX2_leastBelow_10 (tX2_isSplit _ _ _ _ _) ⟨wV_X2_isSplit, wL_X2_isSplit⟩ wM_X2_106 (gCX2 _ _ _ _ _) rfl (A_87 hw) rfl ⟨le_t rfl, le_t rfl⟩ ⟨le_t rfl, le_t rfl⟩ rfl (le_t rfl) fun z5 h4 => ?_
  refine mr_if_ne (pc := 13) (tgt := 26) dX2_leastBelow_13 (by decide) (r32 h4.1 rfl) (fun h6 => ?_) (fun h6 => ?_)
  · have h7 : 1 ≤ z5 ∧ z5 ≤ 1 := (vc_X12_ring_24 h6 h4.1)
    refine sv_aload_n (pc := 26) dX2_leastBelow_26 rfl rfl ?_
    refine mr_iload_n (pc := 27) (z := p1) dX2_leastBelow_27 rfl rfl ?_
    refine mr_iload_n (pc := 28) (z := p2) dX2_leastBelow_28 rfl rfl ?_
    refine mr_iload_n (pc := 29) (z := p3) dX2_leastBelow_29 rfl rfl ?_
    refine mr_iconst (pc := 30) (z := 1) dX2_leastBelow_30 ?_
    refine mr_iadd (pc := 31) (x := p3) (y := 1) dX2_leastBelow_31 ?_
    refine mr_cVI (pc := 32) (c_X2_leastBelow_W5 hw hT hp1 hp2 (rAdd (e := 5) (f := 5) hp3 (rR (x := 1)) rfl) (vc_X9_end_1 hq0 hp1) ((h4.2.1 h4.1).1 h6)) (gOk _ _ _ _ _) dX2_leastBelow_32 (tX2_leastBelow _ _ _ _ _) ⟨wV_X2_leastBelow, wL_X2_leastBelow⟩ wM_X2_101 (gCX2 _ _ _ _ _) rfl (A_87 hw) rfl ⟨le_t rfl, le_t rfl⟩ ⟨le_t rfl, le_t rfl⟩ rfl (le_t rfl) fun z12 μ8 T9 F10 h11 => ?_
    refine mr_istore (pc := 35) (lv' := [(4, iv z12), (0, .ref 87), (1, iv p1), (2, iv p2), (3, iv p3)]) dX2_leastBelow_35 (by decide) rfl ?_
    refine sv_aload_n (pc := 37) dX2_leastBelow_37 rfl rfl ?_
    refine mr_iload_n (pc := 38) (z := p1) dX2_leastBelow_38 rfl rfl ?_
    refine mr_iload_n (pc := 39) (z := p2) dX2_leastBelow_39 rfl rfl ?_
    refine mr_iconst (pc := 40) (z := 1) dX2_leastBelow_40 ?_
    refine mr_bipush (pc := 41) (z := 31) dX2_leastBelow_41 (by decide) ?_
    refine mr_iload_n (pc := 43) (z := p3) dX2_leastBelow_43 rfl rfl ?_
    refine mr_isub (pc := 44) (x := 31) (y := p3) dX2_leastBelow_44 ?_
    refine mr_ishl (pc := 45) (x := 1) (y := (31 - p3)) dX2_leastBelow_45 ?_
    refine mr_gen (P := fun z => (-2147483648) ≤ z ∧ z ≤ 2147483647) (r32i _) fun z13 q14 h15 => ?_
    refine mr_ior (pc := 46) (x := p2) (y := z13) dX2_leastBelow_46 ?_
    refine mr_gen (P := fun z => (-2147483648) ≤ z ∧ z ≤ 2147483647) (r32i _) fun z16 q17 h18 => ?_
    refine mr_iload_n (pc := 47) (z := p3) dX2_leastBelow_47 rfl rfl ?_
    refine mr_iconst (pc := 48) (z := 1) dX2_leastBelow_48 ?_
    refine mr_iadd (pc := 49) (x := p3) (y := 1) dX2_leastBelow_49 ?_
    refine mr_cVI (pc := 50) (c_X2_leastBelow_W5 hw T9 hp1 h18 (rAdd (e := 5) (f := 5) hp3 (rR (x := 1)) rfl) (vc_X9_end_1 hq0 hp1) ((((h11.2.1 T9 F10) h11.1) z13 q14) z16 q17)) (gOk _ _ _ _ _) dX2_leastBelow_50 (tX2_leastBelow _ _ _ _ _) ⟨wV_X2_leastBelow, wL_X2_leastBelow⟩ wM_X2_101 (gCX2 _ _ _ _ _) rfl (A_87 hw) rfl ⟨le_t rfl, le_t rfl⟩ ⟨le_t rfl, le_t rfl⟩ rfl (le_t rfl) fun z23 μ19 T20 F21 h22 => ?_
    refine mr_istore (pc := 53) (lv' := [(5, iv z23), (4, iv z12), (0, .ref 87), (1, iv p1), (2, iv p2), (3, iv p3)]) dX2_leastBelow_53 (by decide) rfl ?_
    refine mr_iload (pc := 55) (z := z12) dX2_leastBelow_55 rfl ?_
    refine mr_iload (pc := 57) (z := z23) dX2_leastBelow_57 rfl ?_
    refine mr_iand (pc := 59) (x := z12) (y := z23) dX2_leastBelow_59 ?_
    refine mr_gen (P := fun z => (-2147483648) ≤ z ∧ z ≤ 2147483647) (r32i _) fun z24 q25 h26 => ?_
    refine mr_if_eq (pc := 60) (tgt := 69) dX2_leastBelow_60 (by decide) h26 (fun h27 => ?_) (fun h27 => ?_)
    · have h28 : 0 ≤ z24 ∧ z24 ≤ 0 := (vc_X12_mask_1 h27 h26)
      refine sv_aload_n (pc := 69) dX2_leastBelow_69 rfl rfl ?_
      refine sv_dup (pc := 70) dX2_leastBelow_70 rfl ?_
      refine gf_X2_7 (pc := 71) dX2_leastBelow_71 wF_X2_98 (A_87 hw) T20 fun z29 q30 h31 => ?_
      refine mr_iconst (pc := 74) (z := 1) dX2_leastBelow_74 ?_
      refine mr_iadd (pc := 75) (x := z29) (y := 1) dX2_leastBelow_75 ?_
      refine mr_wrapF fun z32 h33 h34 => ?_
      refine pf_X2_7 (pc := 76) dX2_leastBelow_76 wF_X2_98 (A_87 hw) T20 h33 fun μ35 u36 T37 => ?_
      refine mr_iload (pc := 79) (z := z12) dX2_leastBelow_79 rfl ?_
      refine mr_iload (pc := 81) (z := z23) dX2_leastBelow_81 rfl ?_
      refine mr_ior (pc := 83) (x := z12) (y := z23) dX2_leastBelow_83 ?_
      refine mr_gen (P := fun z => (-2147483648) ≤ z ∧ z ≤ 2147483647) (r32i _) fun z38 q39 h40 => ?_
      exact mr_iret dX2_leastBelow_84 rfl (le_t rfl) (le_t rfl) T37 (mF.up (mF.call (mF.call mF.refl F10 rfl) F21 rfl) (A_87 hw) u36 rfl) ⟨h40, ((((((((h22.2.1 T20 F21) h22.1) z24 q25).1 h27) z29 q30 h31) z32 h33 h34) μ35 u36 T37) z38 q39), trivial⟩
    refine mr_iload (pc := 63) (z := z12) dX2_leastBelow_63 rfl ?_
    refine mr_iload (pc := 65) (z := z23) dX2_leastBelow_65 rfl ?_
    refine mr_iand (pc := 67) (x := z12) (y := z23) dX2_leastBelow_67 ?_
    refine mr_gen (P := fun z => (-2147483648) ≤ z ∧ z ≤ 2147483647) (r32i _) fun z41 q42 h43 => ?_
    exact mr_iret dX2_leastBelow_68 rfl (le_t rfl) (le_t rfl) T20 (mF.call (mF.call mF.refl F10 rfl) F21 rfl) ⟨h43, (((((h22.2.1 T20 F21) h22.1) z24 q25).2 h27) z41 q42), trivial⟩
  have h44 : 0 ≤ z5 ∧ z5 ≤ 0 := (vc_X12_ring_22 h6 h4.1)
  refine sv_aload_n (pc := 16) dX2_leastBelow_16 rfl rfl ?_
  refine mr_iload_n (pc := 17) (z := p1) dX2_leastBelow_17 rfl rfl ?_
  refine mr_iload_n (pc := 18) (z := p2) dX2_leastBelow_18 rfl rfl ?_
  refine mr_cVP (pc := 19) (c_X2_tieFor_W hw hT hp1 hp2 (vc_X9_end_1 hq0 hp1) ((h4.2.1 h4.1).2 h6)) (gOk _ _ _ _ _) dX2_leastBelow_19 (tX2_tieFor _ _ _ _ _) ⟨wV_X2_tieFor, wL_X2_tieFor⟩ wM_X2_60 (gCX2 _ _ _ _ _) rfl (A_87 hw) rfl ⟨le_t rfl, le_t rfl⟩ ⟨le_t rfl, le_t rfl⟩ rfl (le_t rfl) fun z49 h48 => ?_
  refine mr_cSP (pc := 22) (c_X2_aimBit_W hw hT h48.1 (h48.2.2.2.1 h48.1)) (gOk _ _ _ _ _) dX2_leastBelow_22 (tX2_aimBit _ _ _ _ _) wS_X2_aimBit wM_X2_110 ⟨le_t rfl, le_t rfl⟩ ⟨le_t rfl, le_t rfl⟩ rfl (le_t rfl) fun z54 h53 => ?_
  exact mr_iret dX2_leastBelow_25 rfl (le_t rfl) (le_t rfl) hT mF.refl ⟨h53.1, (h53.2.1 h53.1), trivial⟩
def WP_X2_leastBelow_W3 (w : mW) (μ : mM) (p1 : Int) (p2 : Int) (p3 : Int) (Q : Int → mM → Prop) : Prop := WP_X2_isSplit_W w μ p1 p2 p3 (fun z5 _ => (0 ≤ z5 ∧ z5 ≤ 1) → ((¬ z5 = 0) → WP_X2_leastBelow_W4 w μ p1 p2 (p3 + 1) (fun z12 μ8 => mT w μ8 → mF [87007] w μ μ8 → ((-2147483648) ≤ z12 ∧ z12 ≤ 2147483647) → ∀ z13 : Int, bShl (1 : Int) (31 - p3) = z13 → ∀ z16 : Int, bOr p2 z13 = z16 → WP_X2_leastBelow_W4 w μ8 p1 z16 (p3 + 1) (fun z23 μ19 => mT w μ19 → mF [87007] w μ8 μ19 → ((-2147483648) ≤ z23 ∧ z23 ≤ 2147483647) → ∀ z24 : Int, bAnd z12 z23 = z24 → ((z24 = 0) → ∀ z29 : Int, μ19 87 7 = z29 → ((-2147483648) ≤ z29 ∧ z29 ≤ 2147483647) → ∀ z32 : Int, (-2147483648 ≤ z32 ∧ z32 ≤ 2147483647) → (z32 - (z29 + 1)) % 4294967296 = 0 → ∀ μ35 : mM, mU μ19 87 (7) z32 μ35 → mT w μ35 → ∀ z38 : Int, bOr z12 z23 = z38 → Q z38 μ35) ∧ ((¬ z24 = 0) → ∀ z41 : Int, bAnd z12 z23 = z41 → Q z41 μ19)))) ∧ ((z5 = 0) → WP_X2_tieFor_W w μ p1 p2 (fun z49 _ => ((-99999999) ≤ z49 ∧ z49 ≤ 19) → WP_X2_aimBit_W w μ z49 (fun z54 _ => ((-2147483648) ≤ z54 ∧ z54 ≤ 2147483647) → Q z54 μ))))
theorem vc_X2_leastBelow_W3_1 {p3 : Int} (h0 : 32 ≤ p3) (h1 : 3 ≤ p3 ∧ p3 ≤ 3) : False := by omega
set_option maxRecDepth 4000 in
set_option maxHeartbeats 4000000 in
theorem c_X2_leastBelow_W3 {l : Launch} {D : va_G} {c : Nat → ClassId} {H0 : Heap} {sa : Nat × Nat × (Nat → Int32)} {w : mW} {μ : mM} (hw : mWF w) (hT : mT w μ) {p1 : Int} (hp1 : 0 ≤ p1 ∧ p1 ≤ 9) {p2 : Int} (hp2 : (-2147483648) ≤ p2 ∧ p2 ≤ 2147483647) {p3 : Int} (hp3 : 3 ≤ p3 ∧ p3 ≤ 3) (hq0 : p1 < w.2.2.2 0) {Q : Int → mM → Prop} (hQ : WP_X2_leastBelow_W3 w μ p1 p2 p3 Q) : sC (gG l D c H0 sa) mX2_leastBelow 32 0 0 [.ref 87, iv p1, iv p2, iv p3] (mk w μ) (qI w [87007] μ (fun z μ1 => ((-2147483648) ≤ z ∧ z ≤ 2147483647) ∧ Q z μ1 ∧ True)) := by
  refine sC.of rfl (by decide) (le_t rfl) ?_
  refine mr_lvE (lv' := [(0, .ref 87), (1, iv p1), (2, iv p2), (3, iv p3)]) rfl ?_
  refine mr_iload_n (pc := 0) (z := p3) dX2_leastBelow_0 rfl rfl ?_
  refine mr_bipush (pc := 1) (z := 32) dX2_leastBelow_1 (by decide) ?_
  refine mr_icmp_ge (pc := 3) (tgt := 16) dX2_leastBelow_3 (by decide) (r32 hp3 rfl) (r32 (rR (x := 32)) rfl) (fun h => ((vc_X2_leastBelow_W3_1 h hp3)).elim) (fun _ => ?_)
  refine sv_aload_n (pc := 6) dX2_leastBelow_6 rfl rfl ?_
  refine mr_iload_n (pc := 7) (z := p1) dX2_leastBelow_7 rfl rfl ?_
  refine mr_iload_n (pc := 8) (z := p2) dX2_leastBelow_8 rfl rfl ?_
  refine mr_iload_n (pc := 9) (z := p3) dX2_leastBelow_9 rfl rfl ?_
  refine mr_cVP (pc := 10) (c_X2_isSplit_W hw hT hp1 hp2 (rW (c := (-2147483648)) (d := 2147483647) hp3 rfl) (vc_X9_end_1 hq0 hp1) hQ) (gOk _ _ _ _ _) dX2_leastBelow_10 (tX2_isSplit _ _ _ _ _) ⟨wV_X2_isSplit, wL_X2_isSplit⟩ wM_X2_106 (gCX2 _ _ _ _ _) rfl (A_87 hw) rfl ⟨le_t rfl, le_t rfl⟩ ⟨le_t rfl, le_t rfl⟩ rfl (le_t rfl) fun z5 h4 => ?_
  refine mr_if_ne (pc := 13) (tgt := 26) dX2_leastBelow_13 (by decide) (r32 h4.1 rfl) (fun h6 => ?_) (fun h6 => ?_)
  · have h7 : 1 ≤ z5 ∧ z5 ≤ 1 := (vc_X12_ring_24 h6 h4.1)
    refine sv_aload_n (pc := 26) dX2_leastBelow_26 rfl rfl ?_
    refine mr_iload_n (pc := 27) (z := p1) dX2_leastBelow_27 rfl rfl ?_
    refine mr_iload_n (pc := 28) (z := p2) dX2_leastBelow_28 rfl rfl ?_
    refine mr_iload_n (pc := 29) (z := p3) dX2_leastBelow_29 rfl rfl ?_
    refine mr_iconst (pc := 30) (z := 1) dX2_leastBelow_30 ?_
    refine mr_iadd (pc := 31) (x := p3) (y := 1) dX2_leastBelow_31 ?_
    refine mr_cVI (pc := 32) (c_X2_leastBelow_W4 hw hT hp1 hp2 (rAdd (e := 4) (f := 4) hp3 (rR (x := 1)) rfl) (vc_X9_end_1 hq0 hp1) ((h4.2.1 h4.1).1 h6)) (gOk _ _ _ _ _) dX2_leastBelow_32 (tX2_leastBelow _ _ _ _ _) ⟨wV_X2_leastBelow, wL_X2_leastBelow⟩ wM_X2_101 (gCX2 _ _ _ _ _) rfl (A_87 hw) rfl ⟨le_t rfl, le_t rfl⟩ ⟨le_t rfl, le_t rfl⟩ rfl (le_t rfl) fun z12 μ8 T9 F10 h11 => ?_
    refine mr_istore (pc := 35) (lv' := [(4, iv z12), (0, .ref 87), (1, iv p1), (2, iv p2), (3, iv p3)]) dX2_leastBelow_35 (by decide) rfl ?_
    refine sv_aload_n (pc := 37) dX2_leastBelow_37 rfl rfl ?_
    refine mr_iload_n (pc := 38) (z := p1) dX2_leastBelow_38 rfl rfl ?_
    refine mr_iload_n (pc := 39) (z := p2) dX2_leastBelow_39 rfl rfl ?_
    refine mr_iconst (pc := 40) (z := 1) dX2_leastBelow_40 ?_
    refine mr_bipush (pc := 41) (z := 31) dX2_leastBelow_41 (by decide) ?_
    refine mr_iload_n (pc := 43) (z := p3) dX2_leastBelow_43 rfl rfl ?_
    refine mr_isub (pc := 44) (x := 31) (y := p3) dX2_leastBelow_44 ?_
    refine mr_ishl (pc := 45) (x := 1) (y := (31 - p3)) dX2_leastBelow_45 ?_
    refine mr_gen (P := fun z => (-2147483648) ≤ z ∧ z ≤ 2147483647) (r32i _) fun z13 q14 h15 => ?_
    refine mr_ior (pc := 46) (x := p2) (y := z13) dX2_leastBelow_46 ?_
    refine mr_gen (P := fun z => (-2147483648) ≤ z ∧ z ≤ 2147483647) (r32i _) fun z16 q17 h18 => ?_
    refine mr_iload_n (pc := 47) (z := p3) dX2_leastBelow_47 rfl rfl ?_
    refine mr_iconst (pc := 48) (z := 1) dX2_leastBelow_48 ?_
    refine mr_iadd (pc := 49) (x := p3) (y := 1) dX2_leastBelow_49 ?_
    refine mr_cVI (pc := 50) (c_X2_leastBelow_W4 hw T9 hp1 h18 (rAdd (e := 4) (f := 4) hp3 (rR (x := 1)) rfl) (vc_X9_end_1 hq0 hp1) ((((h11.2.1 T9 F10) h11.1) z13 q14) z16 q17)) (gOk _ _ _ _ _) dX2_leastBelow_50 (tX2_leastBelow _ _ _ _ _) ⟨wV_X2_leastBelow, wL_X2_leastBelow⟩ wM_X2_101 (gCX2 _ _ _ _ _) rfl (A_87 hw) rfl ⟨le_t rfl, le_t rfl⟩ ⟨le_t rfl, le_t rfl⟩ rfl (le_t rfl) fun z23 μ19 T20 F21 h22 => ?_
    refine mr_istore (pc := 53) (lv' := [(5, iv z23), (4, iv z12), (0, .ref 87), (1, iv p1), (2, iv p2), (3, iv p3)]) dX2_leastBelow_53 (by decide) rfl ?_
    refine mr_iload (pc := 55) (z := z12) dX2_leastBelow_55 rfl ?_
    refine mr_iload (pc := 57) (z := z23) dX2_leastBelow_57 rfl ?_
    refine mr_iand (pc := 59) (x := z12) (y := z23) dX2_leastBelow_59 ?_
    refine mr_gen (P := fun z => (-2147483648) ≤ z ∧ z ≤ 2147483647) (r32i _) fun z24 q25 h26 => ?_
    refine mr_if_eq (pc := 60) (tgt := 69) dX2_leastBelow_60 (by decide) h26 (fun h27 => ?_) (fun h27 => ?_)
    · have h28 : 0 ≤ z24 ∧ z24 ≤ 0 := (vc_X12_mask_1 h27 h26)
      refine sv_aload_n (pc := 69) dX2_leastBelow_69 rfl rfl ?_
      refine sv_dup (pc := 70) dX2_leastBelow_70 rfl ?_
      refine gf_X2_7 (pc := 71) dX2_leastBelow_71 wF_X2_98 (A_87 hw) T20 fun z29 q30 h31 => ?_
      refine mr_iconst (pc := 74) (z := 1) dX2_leastBelow_74 ?_
      refine mr_iadd (pc := 75) (x := z29) (y := 1) dX2_leastBelow_75 ?_
      refine mr_wrapF fun z32 h33 h34 => ?_
      refine pf_X2_7 (pc := 76) dX2_leastBelow_76 wF_X2_98 (A_87 hw) T20 h33 fun μ35 u36 T37 => ?_
      refine mr_iload (pc := 79) (z := z12) dX2_leastBelow_79 rfl ?_
      refine mr_iload (pc := 81) (z := z23) dX2_leastBelow_81 rfl ?_
      refine mr_ior (pc := 83) (x := z12) (y := z23) dX2_leastBelow_83 ?_
      refine mr_gen (P := fun z => (-2147483648) ≤ z ∧ z ≤ 2147483647) (r32i _) fun z38 q39 h40 => ?_
      exact mr_iret dX2_leastBelow_84 rfl (le_t rfl) (le_t rfl) T37 (mF.up (mF.call (mF.call mF.refl F10 rfl) F21 rfl) (A_87 hw) u36 rfl) ⟨h40, ((((((((h22.2.1 T20 F21) h22.1) z24 q25).1 h27) z29 q30 h31) z32 h33 h34) μ35 u36 T37) z38 q39), trivial⟩
    refine mr_iload (pc := 63) (z := z12) dX2_leastBelow_63 rfl ?_
    refine mr_iload (pc := 65) (z := z23) dX2_leastBelow_65 rfl ?_
    refine mr_iand (pc := 67) (x := z12) (y := z23) dX2_leastBelow_67 ?_
    refine mr_gen (P := fun z => (-2147483648) ≤ z ∧ z ≤ 2147483647) (r32i _) fun z41 q42 h43 => ?_
    exact mr_iret dX2_leastBelow_68 rfl (le_t rfl) (le_t rfl) T20 (mF.call (mF.call mF.refl F10 rfl) F21 rfl) ⟨h43, (((((h22.2.1 T20 F21) h22.1) z24 q25).2 h27) z41 q42), trivial⟩
  have h44 : 0 ≤ z5 ∧ z5 ≤ 0 := (vc_X12_ring_22 h6 h4.1)
  refine sv_aload_n (pc := 16) dX2_leastBelow_16 rfl rfl ?_
  refine mr_iload_n (pc := 17) (z := p1) dX2_leastBelow_17 rfl rfl ?_
  refine mr_iload_n (pc := 18) (z := p2) dX2_leastBelow_18 rfl rfl ?_
  refine mr_cVP (pc := 19) (c_X2_tieFor_W hw hT hp1 hp2 (vc_X9_end_1 hq0 hp1) ((h4.2.1 h4.1).2 h6)) (gOk _ _ _ _ _) dX2_leastBelow_19 (tX2_tieFor _ _ _ _ _) ⟨wV_X2_tieFor, wL_X2_tieFor⟩ wM_X2_60 (gCX2 _ _ _ _ _) rfl (A_87 hw) rfl ⟨le_t rfl, le_t rfl⟩ ⟨le_t rfl, le_t rfl⟩ rfl (le_t rfl) fun z49 h48 => ?_
  refine mr_cSP (pc := 22) (c_X2_aimBit_W hw hT h48.1 (h48.2.2.2.1 h48.1)) (gOk _ _ _ _ _) dX2_leastBelow_22 (tX2_aimBit _ _ _ _ _) wS_X2_aimBit wM_X2_110 ⟨le_t rfl, le_t rfl⟩ ⟨le_t rfl, le_t rfl⟩ rfl (le_t rfl) fun z54 h53 => ?_
  exact mr_iret dX2_leastBelow_25 rfl (le_t rfl) (le_t rfl) hT mF.refl ⟨h53.1, (h53.2.1 h53.1), trivial⟩
def WP_X2_leastBelow_W2 (w : mW) (μ : mM) (p1 : Int) (p2 : Int) (p3 : Int) (Q : Int → mM → Prop) : Prop := WP_X2_isSplit_W w μ p1 p2 p3 (fun z5 _ => (0 ≤ z5 ∧ z5 ≤ 1) → ((¬ z5 = 0) → WP_X2_leastBelow_W3 w μ p1 p2 (p3 + 1) (fun z12 μ8 => mT w μ8 → mF [87007] w μ μ8 → ((-2147483648) ≤ z12 ∧ z12 ≤ 2147483647) → ∀ z13 : Int, bShl (1 : Int) (31 - p3) = z13 → ∀ z16 : Int, bOr p2 z13 = z16 → WP_X2_leastBelow_W3 w μ8 p1 z16 (p3 + 1) (fun z23 μ19 => mT w μ19 → mF [87007] w μ8 μ19 → ((-2147483648) ≤ z23 ∧ z23 ≤ 2147483647) → ∀ z24 : Int, bAnd z12 z23 = z24 → ((z24 = 0) → ∀ z29 : Int, μ19 87 7 = z29 → ((-2147483648) ≤ z29 ∧ z29 ≤ 2147483647) → ∀ z32 : Int, (-2147483648 ≤ z32 ∧ z32 ≤ 2147483647) → (z32 - (z29 + 1)) % 4294967296 = 0 → ∀ μ35 : mM, mU μ19 87 (7) z32 μ35 → mT w μ35 → ∀ z38 : Int, bOr z12 z23 = z38 → Q z38 μ35) ∧ ((¬ z24 = 0) → ∀ z41 : Int, bAnd z12 z23 = z41 → Q z41 μ19)))) ∧ ((z5 = 0) → WP_X2_tieFor_W w μ p1 p2 (fun z49 _ => ((-99999999) ≤ z49 ∧ z49 ≤ 19) → WP_X2_aimBit_W w μ z49 (fun z54 _ => ((-2147483648) ≤ z54 ∧ z54 ≤ 2147483647) → Q z54 μ))))
theorem vc_X2_leastBelow_W2_1 {p3 : Int} (h0 : 32 ≤ p3) (h1 : 2 ≤ p3 ∧ p3 ≤ 2) : False := by omega
set_option maxRecDepth 4000 in
set_option maxHeartbeats 4000000 in
theorem c_X2_leastBelow_W2 {l : Launch} {D : va_G} {c : Nat → ClassId} {H0 : Heap} {sa : Nat × Nat × (Nat → Int32)} {w : mW} {μ : mM} (hw : mWF w) (hT : mT w μ) {p1 : Int} (hp1 : 0 ≤ p1 ∧ p1 ≤ 9) {p2 : Int} (hp2 : (-2147483648) ≤ p2 ∧ p2 ≤ 2147483647) {p3 : Int} (hp3 : 2 ≤ p3 ∧ p3 ≤ 2) (hq0 : p1 < w.2.2.2 0) {Q : Int → mM → Prop} (hQ : WP_X2_leastBelow_W2 w μ p1 p2 p3 Q) : sC (gG l D c H0 sa) mX2_leastBelow 33 0 0 [.ref 87, iv p1, iv p2, iv p3] (mk w μ) (qI w [87007] μ (fun z μ1 => ((-2147483648) ≤ z ∧ z ≤ 2147483647) ∧ Q z μ1 ∧ True)) := by
  refine sC.of rfl (by decide) (le_t rfl) ?_
  refine mr_lvE (lv' := [(0, .ref 87), (1, iv p1), (2, iv p2), (3, iv p3)]) rfl ?_
  refine mr_iload_n (pc := 0) (z := p3) dX2_leastBelow_0 rfl rfl ?_
  refine mr_bipush (pc := 1) (z := 32) dX2_leastBelow_1 (by decide) ?_
  refine mr_icmp_ge (pc := 3) (tgt := 16) dX2_leastBelow_3 (by decide) (r32 hp3 rfl) (r32 (rR (x := 32)) rfl) (fun h => ((vc_X2_leastBelow_W2_1 h hp3)).elim) (fun _ => ?_)
  refine sv_aload_n (pc := 6) dX2_leastBelow_6 rfl rfl ?_
  refine mr_iload_n (pc := 7) (z := p1) dX2_leastBelow_7 rfl rfl ?_
  refine mr_iload_n (pc := 8) (z := p2) dX2_leastBelow_8 rfl rfl ?_
  refine mr_iload_n (pc := 9) (z := p3) dX2_leastBelow_9 rfl rfl ?_
  refine mr_cVP (pc := 10) (c_X2_isSplit_W hw hT hp1 hp2 (rW (c := (-2147483648)) (d := 2147483647) hp3 rfl) (vc_X9_end_1 hq0 hp1) hQ) (gOk _ _ _ _ _) dX2_leastBelow_10 (tX2_isSplit _ _ _ _ _) ⟨wV_X2_isSplit, wL_X2_isSplit⟩ wM_X2_106 (gCX2 _ _ _ _ _) rfl (A_87 hw) rfl ⟨le_t rfl, le_t rfl⟩ ⟨le_t rfl, le_t rfl⟩ rfl (le_t rfl) fun z5 h4 => ?_
  refine mr_if_ne (pc := 13) (tgt := 26) dX2_leastBelow_13 (by decide) (r32 h4.1 rfl) (fun h6 => ?_) (fun h6 => ?_)
  · have h7 : 1 ≤ z5 ∧ z5 ≤ 1 := (vc_X12_ring_24 h6 h4.1)
    refine sv_aload_n (pc := 26) dX2_leastBelow_26 rfl rfl ?_
    refine mr_iload_n (pc := 27) (z := p1) dX2_leastBelow_27 rfl rfl ?_
    refine mr_iload_n (pc := 28) (z := p2) dX2_leastBelow_28 rfl rfl ?_
    refine mr_iload_n (pc := 29) (z := p3) dX2_leastBelow_29 rfl rfl ?_
    refine mr_iconst (pc := 30) (z := 1) dX2_leastBelow_30 ?_
    refine mr_iadd (pc := 31) (x := p3) (y := 1) dX2_leastBelow_31 ?_
    refine mr_cVI (pc := 32) (c_X2_leastBelow_W3 hw hT hp1 hp2 (rAdd (e := 3) (f := 3) hp3 (rR (x := 1)) rfl) (vc_X9_end_1 hq0 hp1) ((h4.2.1 h4.1).1 h6)) (gOk _ _ _ _ _) dX2_leastBelow_32 (tX2_leastBelow _ _ _ _ _) ⟨wV_X2_leastBelow, wL_X2_leastBelow⟩ wM_X2_101 (gCX2 _ _ _ _ _) rfl (A_87 hw) rfl ⟨le_t rfl, le_t rfl⟩ ⟨le_t rfl, le_t rfl⟩ rfl (le_t rfl) fun z12 μ8 T9 F10 h11 => ?_
    refine mr_istore (pc := 35) (lv' := [(4, iv z12), (0, .ref 87), (1, iv p1), (2, iv p2), (3, iv p3)]) dX2_leastBelow_35 (by decide) rfl ?_
    refine sv_aload_n (pc := 37) dX2_leastBelow_37 rfl rfl ?_
    refine mr_iload_n (pc := 38) (z := p1) dX2_leastBelow_38 rfl rfl ?_
    refine mr_iload_n (pc := 39) (z := p2) dX2_leastBelow_39 rfl rfl ?_
    refine mr_iconst (pc := 40) (z := 1) dX2_leastBelow_40 ?_
    refine mr_bipush (pc := 41) (z := 31) dX2_leastBelow_41 (by decide) ?_
    refine mr_iload_n (pc := 43) (z := p3) dX2_leastBelow_43 rfl rfl ?_
    refine mr_isub (pc := 44) (x := 31) (y := p3) dX2_leastBelow_44 ?_
    refine mr_ishl (pc := 45) (x := 1) (y := (31 - p3)) dX2_leastBelow_45 ?_
    refine mr_gen (P := fun z => (-2147483648) ≤ z ∧ z ≤ 2147483647) (r32i _) fun z13 q14 h15 => ?_
    refine mr_ior (pc := 46) (x := p2) (y := z13) dX2_leastBelow_46 ?_
    refine mr_gen (P := fun z => (-2147483648) ≤ z ∧ z ≤ 2147483647) (r32i _) fun z16 q17 h18 => ?_
    refine mr_iload_n (pc := 47) (z := p3) dX2_leastBelow_47 rfl rfl ?_
    refine mr_iconst (pc := 48) (z := 1) dX2_leastBelow_48 ?_
    refine mr_iadd (pc := 49) (x := p3) (y := 1) dX2_leastBelow_49 ?_
    refine mr_cVI (pc := 50) (c_X2_leastBelow_W3 hw T9 hp1 h18 (rAdd (e := 3) (f := 3) hp3 (rR (x := 1)) rfl) (vc_X9_end_1 hq0 hp1) ((((h11.2.1 T9 F10) h11.1) z13 q14) z16 q17)) (gOk _ _ _ _ _) dX2_leastBelow_50 (tX2_leastBelow _ _ _ _ _) ⟨wV_X2_leastBelow, wL_X2_leastBelow⟩ wM_X2_101 (gCX2 _ _ _ _ _) rfl (A_87 hw) rfl ⟨le_t rfl, le_t rfl⟩ ⟨le_t rfl, le_t rfl⟩ rfl (le_t rfl) fun z23 μ19 T20 F21 h22 => ?_
    refine mr_istore (pc := 53) (lv' := [(5, iv z23), (4, iv z12), (0, .ref 87), (1, iv p1), (2, iv p2), (3, iv p3)]) dX2_leastBelow_53 (by decide) rfl ?_
    refine mr_iload (pc := 55) (z := z12) dX2_leastBelow_55 rfl ?_
    refine mr_iload (pc := 57) (z := z23) dX2_leastBelow_57 rfl ?_
    refine mr_iand (pc := 59) (x := z12) (y := z23) dX2_leastBelow_59 ?_
    refine mr_gen (P := fun z => (-2147483648) ≤ z ∧ z ≤ 2147483647) (r32i _) fun z24 q25 h26 => ?_
    refine mr_if_eq (pc := 60) (tgt := 69) dX2_leastBelow_60 (by decide) h26 (fun h27 => ?_) (fun h27 => ?_)
    · have h28 : 0 ≤ z24 ∧ z24 ≤ 0 := (vc_X12_mask_1 h27 h26)
      refine sv_aload_n (pc := 69) dX2_leastBelow_69 rfl rfl ?_
      refine sv_dup (pc := 70) dX2_leastBelow_70 rfl ?_
      refine gf_X2_7 (pc := 71) dX2_leastBelow_71 wF_X2_98 (A_87 hw) T20 fun z29 q30 h31 => ?_
      refine mr_iconst (pc := 74) (z := 1) dX2_leastBelow_74 ?_
      refine mr_iadd (pc := 75) (x := z29) (y := 1) dX2_leastBelow_75 ?_
      refine mr_wrapF fun z32 h33 h34 => ?_
      refine pf_X2_7 (pc := 76) dX2_leastBelow_76 wF_X2_98 (A_87 hw) T20 h33 fun μ35 u36 T37 => ?_
      refine mr_iload (pc := 79) (z := z12) dX2_leastBelow_79 rfl ?_
      refine mr_iload (pc := 81) (z := z23) dX2_leastBelow_81 rfl ?_
      refine mr_ior (pc := 83) (x := z12) (y := z23) dX2_leastBelow_83 ?_
      refine mr_gen (P := fun z => (-2147483648) ≤ z ∧ z ≤ 2147483647) (r32i _) fun z38 q39 h40 => ?_
      exact mr_iret dX2_leastBelow_84 rfl (le_t rfl) (le_t rfl) T37 (mF.up (mF.call (mF.call mF.refl F10 rfl) F21 rfl) (A_87 hw) u36 rfl) ⟨h40, ((((((((h22.2.1 T20 F21) h22.1) z24 q25).1 h27) z29 q30 h31) z32 h33 h34) μ35 u36 T37) z38 q39), trivial⟩
    refine mr_iload (pc := 63) (z := z12) dX2_leastBelow_63 rfl ?_
    refine mr_iload (pc := 65) (z := z23) dX2_leastBelow_65 rfl ?_
    refine mr_iand (pc := 67) (x := z12) (y := z23) dX2_leastBelow_67 ?_
    refine mr_gen (P := fun z => (-2147483648) ≤ z ∧ z ≤ 2147483647) (r32i _) fun z41 q42 h43 => ?_
    exact mr_iret dX2_leastBelow_68 rfl (le_t rfl) (le_t rfl) T20 (mF.call (mF.call mF.refl F10 rfl) F21 rfl) ⟨h43, (((((h22.2.1 T20 F21) h22.1) z24 q25).2 h27) z41 q42), trivial⟩
  have h44 : 0 ≤ z5 ∧ z5 ≤ 0 := (vc_X12_ring_22 h6 h4.1)
  refine sv_aload_n (pc := 16) dX2_leastBelow_16 rfl rfl ?_
  refine mr_iload_n (pc := 17) (z := p1) dX2_leastBelow_17 rfl rfl ?_
  refine mr_iload_n (pc := 18) (z := p2) dX2_leastBelow_18 rfl rfl ?_
  refine mr_cVP (pc := 19) (c_X2_tieFor_W hw hT hp1 hp2 (vc_X9_end_1 hq0 hp1) ((h4.2.1 h4.1).2 h6)) (gOk _ _ _ _ _) dX2_leastBelow_19 (tX2_tieFor _ _ _ _ _) ⟨wV_X2_tieFor, wL_X2_tieFor⟩ wM_X2_60 (gCX2 _ _ _ _ _) rfl (A_87 hw) rfl ⟨le_t rfl, le_t rfl⟩ ⟨le_t rfl, le_t rfl⟩ rfl (le_t rfl) fun z49 h48 => ?_
  refine mr_cSP (pc := 22) (c_X2_aimBit_W hw hT h48.1 (h48.2.2.2.1 h48.1)) (gOk _ _ _ _ _) dX2_leastBelow_22 (tX2_aimBit _ _ _ _ _) wS_X2_aimBit wM_X2_110 ⟨le_t rfl, le_t rfl⟩ ⟨le_t rfl, le_t rfl⟩ rfl (le_t rfl) fun z54 h53 => ?_
  exact mr_iret dX2_leastBelow_25 rfl (le_t rfl) (le_t rfl) hT mF.refl ⟨h53.1, (h53.2.1 h53.1), trivial⟩
def WP_X2_leastBelow_W1 (w : mW) (μ : mM) (p1 : Int) (p2 : Int) (p3 : Int) (Q : Int → mM → Prop) : Prop := WP_X2_isSplit_W w μ p1 p2 p3 (fun z5 _ => (0 ≤ z5 ∧ z5 ≤ 1) → ((¬ z5 = 0) → WP_X2_leastBelow_W2 w μ p1 p2 (p3 + 1) (fun z12 μ8 => mT w μ8 → mF [87007] w μ μ8 → ((-2147483648) ≤ z12 ∧ z12 ≤ 2147483647) → ∀ z13 : Int, bShl (1 : Int) (31 - p3) = z13 → ∀ z16 : Int, bOr p2 z13 = z16 → WP_X2_leastBelow_W2 w μ8 p1 z16 (p3 + 1) (fun z23 μ19 => mT w μ19 → mF [87007] w μ8 μ19 → ((-2147483648) ≤ z23 ∧ z23 ≤ 2147483647) → ∀ z24 : Int, bAnd z12 z23 = z24 → ((z24 = 0) → ∀ z29 : Int, μ19 87 7 = z29 → ((-2147483648) ≤ z29 ∧ z29 ≤ 2147483647) → ∀ z32 : Int, (-2147483648 ≤ z32 ∧ z32 ≤ 2147483647) → (z32 - (z29 + 1)) % 4294967296 = 0 → ∀ μ35 : mM, mU μ19 87 (7) z32 μ35 → mT w μ35 → ∀ z38 : Int, bOr z12 z23 = z38 → Q z38 μ35) ∧ ((¬ z24 = 0) → ∀ z41 : Int, bAnd z12 z23 = z41 → Q z41 μ19)))) ∧ ((z5 = 0) → WP_X2_tieFor_W w μ p1 p2 (fun z49 _ => ((-99999999) ≤ z49 ∧ z49 ≤ 19) → WP_X2_aimBit_W w μ z49 (fun z54 _ => ((-2147483648) ≤ z54 ∧ z54 ≤ 2147483647) → Q z54 μ))))
theorem vc_X2_leastBelow_W1_1 {p3 : Int} (h0 : 32 ≤ p3) (h1 : 1 ≤ p3 ∧ p3 ≤ 1) : False := by omega
set_option maxRecDepth 4000 in
set_option maxHeartbeats 4000000 in
theorem c_X2_leastBelow_W1 {l : Launch} {D : va_G} {c : Nat → ClassId} {H0 : Heap} {sa : Nat × Nat × (Nat → Int32)} {w : mW} {μ : mM} (hw : mWF w) (hT : mT w μ) {p1 : Int} (hp1 : 0 ≤ p1 ∧ p1 ≤ 9) {p2 : Int} (hp2 : (-2147483648) ≤ p2 ∧ p2 ≤ 2147483647) {p3 : Int} (hp3 : 1 ≤ p3 ∧ p3 ≤ 1) (hq0 : p1 < w.2.2.2 0) {Q : Int → mM → Prop} (hQ : WP_X2_leastBelow_W1 w μ p1 p2 p3 Q) : sC (gG l D c H0 sa) mX2_leastBelow 34 0 0 [.ref 87, iv p1, iv p2, iv p3] (mk w μ) (qI w [87007] μ (fun z μ1 => ((-2147483648) ≤ z ∧ z ≤ 2147483647) ∧ Q z μ1 ∧ True)) := by
  refine sC.of rfl (by decide) (le_t rfl) ?_
  refine mr_lvE (lv' := [(0, .ref 87), (1, iv p1), (2, iv p2), (3, iv p3)]) rfl ?_
  refine mr_iload_n (pc := 0) (z := p3) dX2_leastBelow_0 rfl rfl ?_
  refine mr_bipush (pc := 1) (z := 32) dX2_leastBelow_1 (by decide) ?_
  refine mr_icmp_ge (pc := 3) (tgt := 16) dX2_leastBelow_3 (by decide) (r32 hp3 rfl) (r32 (rR (x := 32)) rfl) (fun h => ((vc_X2_leastBelow_W1_1 h hp3)).elim) (fun _ => ?_)
  refine sv_aload_n (pc := 6) dX2_leastBelow_6 rfl rfl ?_
  refine mr_iload_n (pc := 7) (z := p1) dX2_leastBelow_7 rfl rfl ?_
  refine mr_iload_n (pc := 8) (z := p2) dX2_leastBelow_8 rfl rfl ?_
  refine mr_iload_n (pc := 9) (z := p3) dX2_leastBelow_9 rfl rfl ?_
  refine mr_cVP (pc := 10) (c_X2_isSplit_W hw hT hp1 hp2 (rW (c := (-2147483648)) (d := 2147483647) hp3 rfl) (vc_X9_end_1 hq0 hp1) hQ) (gOk _ _ _ _ _) dX2_leastBelow_10 (tX2_isSplit _ _ _ _ _) ⟨wV_X2_isSplit, wL_X2_isSplit⟩ wM_X2_106 (gCX2 _ _ _ _ _) rfl (A_87 hw) rfl ⟨le_t rfl, le_t rfl⟩ ⟨le_t rfl, le_t rfl⟩ rfl (le_t rfl) fun z5 h4 => ?_
  refine mr_if_ne (pc := 13) (tgt := 26) dX2_leastBelow_13 (by decide) (r32 h4.1 rfl) (fun h6 => ?_) (fun h6 => ?_)
  · have h7 : 1 ≤ z5 ∧ z5 ≤ 1 := (vc_X12_ring_24 h6 h4.1)
    refine sv_aload_n (pc := 26) dX2_leastBelow_26 rfl rfl ?_
    refine mr_iload_n (pc := 27) (z := p1) dX2_leastBelow_27 rfl rfl ?_
    refine mr_iload_n (pc := 28) (z := p2) dX2_leastBelow_28 rfl rfl ?_
    refine mr_iload_n (pc := 29) (z := p3) dX2_leastBelow_29 rfl rfl ?_
    refine mr_iconst (pc := 30) (z := 1) dX2_leastBelow_30 ?_
    refine mr_iadd (pc := 31) (x := p3) (y := 1) dX2_leastBelow_31 ?_
    refine mr_cVI (pc := 32) (c_X2_leastBelow_W2 hw hT hp1 hp2 (rAdd (e := 2) (f := 2) hp3 (rR (x := 1)) rfl) (vc_X9_end_1 hq0 hp1) ((h4.2.1 h4.1).1 h6)) (gOk _ _ _ _ _) dX2_leastBelow_32 (tX2_leastBelow _ _ _ _ _) ⟨wV_X2_leastBelow, wL_X2_leastBelow⟩ wM_X2_101 (gCX2 _ _ _ _ _) rfl (A_87 hw) rfl ⟨le_t rfl, le_t rfl⟩ ⟨le_t rfl, le_t rfl⟩ rfl (le_t rfl) fun z12 μ8 T9 F10 h11 => ?_
    refine mr_istore (pc := 35) (lv' := [(4, iv z12), (0, .ref 87), (1, iv p1), (2, iv p2), (3, iv p3)]) dX2_leastBelow_35 (by decide) rfl ?_
    refine sv_aload_n (pc := 37) dX2_leastBelow_37 rfl rfl ?_
    refine mr_iload_n (pc := 38) (z := p1) dX2_leastBelow_38 rfl rfl ?_
    refine mr_iload_n (pc := 39) (z := p2) dX2_leastBelow_39 rfl rfl ?_
    refine mr_iconst (pc := 40) (z := 1) dX2_leastBelow_40 ?_
    refine mr_bipush (pc := 41) (z := 31) dX2_leastBelow_41 (by decide) ?_
    refine mr_iload_n (pc := 43) (z := p3) dX2_leastBelow_43 rfl rfl ?_
    refine mr_isub (pc := 44) (x := 31) (y := p3) dX2_leastBelow_44 ?_
    refine mr_ishl (pc := 45) (x := 1) (y := (31 - p3)) dX2_leastBelow_45 ?_
    refine mr_gen (P := fun z => (-2147483648) ≤ z ∧ z ≤ 2147483647) (r32i _) fun z13 q14 h15 => ?_
    refine mr_ior (pc := 46) (x := p2) (y := z13) dX2_leastBelow_46 ?_
    refine mr_gen (P := fun z => (-2147483648) ≤ z ∧ z ≤ 2147483647) (r32i _) fun z16 q17 h18 => ?_
    refine mr_iload_n (pc := 47) (z := p3) dX2_leastBelow_47 rfl rfl ?_
    refine mr_iconst (pc := 48) (z := 1) dX2_leastBelow_48 ?_
    refine mr_iadd (pc := 49) (x := p3) (y := 1) dX2_leastBelow_49 ?_
    refine mr_cVI (pc := 50) (c_X2_leastBelow_W2 hw T9 hp1 h18 (rAdd (e := 2) (f := 2) hp3 (rR (x := 1)) rfl) (vc_X9_end_1 hq0 hp1) ((((h11.2.1 T9 F10) h11.1) z13 q14) z16 q17)) (gOk _ _ _ _ _) dX2_leastBelow_50 (tX2_leastBelow _ _ _ _ _) ⟨wV_X2_leastBelow, wL_X2_leastBelow⟩ wM_X2_101 (gCX2 _ _ _ _ _) rfl (A_87 hw) rfl ⟨le_t rfl, le_t rfl⟩ ⟨le_t rfl, le_t rfl⟩ rfl (le_t rfl) fun z23 μ19 T20 F21 h22 => ?_
    refine mr_istore (pc := 53) (lv' := [(5, iv z23), (4, iv z12), (0, .ref 87), (1, iv p1), (2, iv p2), (3, iv p3)]) dX2_leastBelow_53 (by decide) rfl ?_
    refine mr_iload (pc := 55) (z := z12) dX2_leastBelow_55 rfl ?_
    refine mr_iload (pc := 57) (z := z23) dX2_leastBelow_57 rfl ?_
    refine mr_iand (pc := 59) (x := z12) (y := z23) dX2_leastBelow_59 ?_
    refine mr_gen (P := fun z => (-2147483648) ≤ z ∧ z ≤ 2147483647) (r32i _) fun z24 q25 h26 => ?_
    refine mr_if_eq (pc := 60) (tgt := 69) dX2_leastBelow_60 (by decide) h26 (fun h27 => ?_) (fun h27 => ?_)
    · have h28 : 0 ≤ z24 ∧ z24 ≤ 0 := (vc_X12_mask_1 h27 h26)
      refine sv_aload_n (pc := 69) dX2_leastBelow_69 rfl rfl ?_
      refine sv_dup (pc := 70) dX2_leastBelow_70 rfl ?_
      refine gf_X2_7 (pc := 71) dX2_leastBelow_71 wF_X2_98 (A_87 hw) T20 fun z29 q30 h31 => ?_
      refine mr_iconst (pc := 74) (z := 1) dX2_leastBelow_74 ?_
      refine mr_iadd (pc := 75) (x := z29) (y := 1) dX2_leastBelow_75 ?_
      refine mr_wrapF fun z32 h33 h34 => ?_
      refine pf_X2_7 (pc := 76) dX2_leastBelow_76 wF_X2_98 (A_87 hw) T20 h33 fun μ35 u36 T37 => ?_
      refine mr_iload (pc := 79) (z := z12) dX2_leastBelow_79 rfl ?_
      refine mr_iload (pc := 81) (z := z23) dX2_leastBelow_81 rfl ?_
      refine mr_ior (pc := 83) (x := z12) (y := z23) dX2_leastBelow_83 ?_
      refine mr_gen (P := fun z => (-2147483648) ≤ z ∧ z ≤ 2147483647) (r32i _) fun z38 q39 h40 => ?_
      exact mr_iret dX2_leastBelow_84 rfl (le_t rfl) (le_t rfl) T37 (mF.up (mF.call (mF.call mF.refl F10 rfl) F21 rfl) (A_87 hw) u36 rfl) ⟨h40, ((((((((h22.2.1 T20 F21) h22.1) z24 q25).1 h27) z29 q30 h31) z32 h33 h34) μ35 u36 T37) z38 q39), trivial⟩
    refine mr_iload (pc := 63) (z := z12) dX2_leastBelow_63 rfl ?_
    refine mr_iload (pc := 65) (z := z23) dX2_leastBelow_65 rfl ?_
    refine mr_iand (pc := 67) (x := z12) (y := z23) dX2_leastBelow_67 ?_
    refine mr_gen (P := fun z => (-2147483648) ≤ z ∧ z ≤ 2147483647) (r32i _) fun z41 q42 h43 => ?_
    exact mr_iret dX2_leastBelow_68 rfl (le_t rfl) (le_t rfl) T20 (mF.call (mF.call mF.refl F10 rfl) F21 rfl) ⟨h43, (((((h22.2.1 T20 F21) h22.1) z24 q25).2 h27) z41 q42), trivial⟩
  have h44 : 0 ≤ z5 ∧ z5 ≤ 0 := (vc_X12_ring_22 h6 h4.1)
  refine sv_aload_n (pc := 16) dX2_leastBelow_16 rfl rfl ?_
  refine mr_iload_n (pc := 17) (z := p1) dX2_leastBelow_17 rfl rfl ?_
  refine mr_iload_n (pc := 18) (z := p2) dX2_leastBelow_18 rfl rfl ?_
  refine mr_cVP (pc := 19) (c_X2_tieFor_W hw hT hp1 hp2 (vc_X9_end_1 hq0 hp1) ((h4.2.1 h4.1).2 h6)) (gOk _ _ _ _ _) dX2_leastBelow_19 (tX2_tieFor _ _ _ _ _) ⟨wV_X2_tieFor, wL_X2_tieFor⟩ wM_X2_60 (gCX2 _ _ _ _ _) rfl (A_87 hw) rfl ⟨le_t rfl, le_t rfl⟩ ⟨le_t rfl, le_t rfl⟩ rfl (le_t rfl) fun z49 h48 => ?_
  refine mr_cSP (pc := 22) (c_X2_aimBit_W hw hT h48.1 (h48.2.2.2.1 h48.1)) (gOk _ _ _ _ _) dX2_leastBelow_22 (tX2_aimBit _ _ _ _ _) wS_X2_aimBit wM_X2_110 ⟨le_t rfl, le_t rfl⟩ ⟨le_t rfl, le_t rfl⟩ rfl (le_t rfl) fun z54 h53 => ?_
  exact mr_iret dX2_leastBelow_25 rfl (le_t rfl) (le_t rfl) hT mF.refl ⟨h53.1, (h53.2.1 h53.1), trivial⟩
def WP_X2_leastBelow_W0 (w : mW) (μ : mM) (p1 : Int) (p2 : Int) (p3 : Int) (Q : Int → mM → Prop) : Prop := WP_X2_isSplit_W w μ p1 p2 p3 (fun z5 _ => (0 ≤ z5 ∧ z5 ≤ 1) → ((¬ z5 = 0) → WP_X2_leastBelow_W1 w μ p1 p2 (p3 + 1) (fun z12 μ8 => mT w μ8 → mF [87007] w μ μ8 → ((-2147483648) ≤ z12 ∧ z12 ≤ 2147483647) → ∀ z13 : Int, bShl (1 : Int) (31 - p3) = z13 → ∀ z16 : Int, bOr p2 z13 = z16 → WP_X2_leastBelow_W1 w μ8 p1 z16 (p3 + 1) (fun z23 μ19 => mT w μ19 → mF [87007] w μ8 μ19 → ((-2147483648) ≤ z23 ∧ z23 ≤ 2147483647) → ∀ z24 : Int, bAnd z12 z23 = z24 → ((z24 = 0) → ∀ z29 : Int, μ19 87 7 = z29 → ((-2147483648) ≤ z29 ∧ z29 ≤ 2147483647) → ∀ z32 : Int, (-2147483648 ≤ z32 ∧ z32 ≤ 2147483647) → (z32 - (z29 + 1)) % 4294967296 = 0 → ∀ μ35 : mM, mU μ19 87 (7) z32 μ35 → mT w μ35 → ∀ z38 : Int, bOr z12 z23 = z38 → Q z38 μ35) ∧ ((¬ z24 = 0) → ∀ z41 : Int, bAnd z12 z23 = z41 → Q z41 μ19)))) ∧ ((z5 = 0) → WP_X2_tieFor_W w μ p1 p2 (fun z49 _ => ((-99999999) ≤ z49 ∧ z49 ≤ 19) → WP_X2_aimBit_W w μ z49 (fun z54 _ => ((-2147483648) ≤ z54 ∧ z54 ≤ 2147483647) → Q z54 μ))))
theorem vc_X2_leastBelow_W0_1 {p3 : Int} (h0 : 32 ≤ p3) (h1 : 0 ≤ p3 ∧ p3 ≤ 0) : False := by omega
set_option maxRecDepth 4000 in
set_option maxHeartbeats 4000000 in
theorem c_X2_leastBelow_W0 {l : Launch} {D : va_G} {c : Nat → ClassId} {H0 : Heap} {sa : Nat × Nat × (Nat → Int32)} {w : mW} {μ : mM} (hw : mWF w) (hT : mT w μ) {p1 : Int} (hp1 : 0 ≤ p1 ∧ p1 ≤ 9) {p2 : Int} (hp2 : (-2147483648) ≤ p2 ∧ p2 ≤ 2147483647) {p3 : Int} (hp3 : 0 ≤ p3 ∧ p3 ≤ 0) (hq0 : p1 < w.2.2.2 0) {Q : Int → mM → Prop} (hQ : WP_X2_leastBelow_W0 w μ p1 p2 p3 Q) : sC (gG l D c H0 sa) mX2_leastBelow 35 0 0 [.ref 87, iv p1, iv p2, iv p3] (mk w μ) (qI w [87007] μ (fun z μ1 => ((-2147483648) ≤ z ∧ z ≤ 2147483647) ∧ Q z μ1 ∧ True)) := by
  refine sC.of rfl (by decide) (le_t rfl) ?_
  refine mr_lvE (lv' := [(0, .ref 87), (1, iv p1), (2, iv p2), (3, iv p3)]) rfl ?_
  refine mr_iload_n (pc := 0) (z := p3) dX2_leastBelow_0 rfl rfl ?_
  refine mr_bipush (pc := 1) (z := 32) dX2_leastBelow_1 (by decide) ?_
  refine mr_icmp_ge (pc := 3) (tgt := 16) dX2_leastBelow_3 (by decide) (r32 hp3 rfl) (r32 (rR (x := 32)) rfl) (fun h => ((vc_X2_leastBelow_W0_1 h hp3)).elim) (fun _ => ?_)
  refine sv_aload_n (pc := 6) dX2_leastBelow_6 rfl rfl ?_
  refine mr_iload_n (pc := 7) (z := p1) dX2_leastBelow_7 rfl rfl ?_
  refine mr_iload_n (pc := 8) (z := p2) dX2_leastBelow_8 rfl rfl ?_
  refine mr_iload_n (pc := 9) (z := p3) dX2_leastBelow_9 rfl rfl ?_
  refine mr_cVP (pc := 10) (c_X2_isSplit_W hw hT hp1 hp2 (rW (c := (-2147483648)) (d := 2147483647) hp3 rfl) (vc_X9_end_1 hq0 hp1) hQ) (gOk _ _ _ _ _) dX2_leastBelow_10 (tX2_isSplit _ _ _ _ _) ⟨wV_X2_isSplit, wL_X2_isSplit⟩ wM_X2_106 (gCX2 _ _ _ _ _) rfl (A_87 hw) rfl ⟨le_t rfl, le_t rfl⟩ ⟨le_t rfl, le_t rfl⟩ rfl (le_t rfl) fun z5 h4 => ?_
  refine mr_if_ne (pc := 13) (tgt := 26) dX2_leastBelow_13 (by decide) (r32 h4.1 rfl) (fun h6 => ?_) (fun h6 => ?_)
  · have h7 : 1 ≤ z5 ∧ z5 ≤ 1 := (vc_X12_ring_24 h6 h4.1)
    refine sv_aload_n (pc := 26) dX2_leastBelow_26 rfl rfl ?_
    refine mr_iload_n (pc := 27) (z := p1) dX2_leastBelow_27 rfl rfl ?_
    refine mr_iload_n (pc := 28) (z := p2) dX2_leastBelow_28 rfl rfl ?_
    refine mr_iload_n (pc := 29) (z := p3) dX2_leastBelow_29 rfl rfl ?_
    refine mr_iconst (pc := 30) (z := 1) dX2_leastBelow_30 ?_
    refine mr_iadd (pc := 31) (x := p3) (y := 1) dX2_leastBelow_31 ?_
    refine mr_cVI (pc := 32) (c_X2_leastBelow_W1 hw hT hp1 hp2 (rAdd (e := 1) (f := 1) hp3 (rR (x := 1)) rfl) (vc_X9_end_1 hq0 hp1) ((h4.2.1 h4.1).1 h6)) (gOk _ _ _ _ _) dX2_leastBelow_32 (tX2_leastBelow _ _ _ _ _) ⟨wV_X2_leastBelow, wL_X2_leastBelow⟩ wM_X2_101 (gCX2 _ _ _ _ _) rfl (A_87 hw) rfl ⟨le_t rfl, le_t rfl⟩ ⟨le_t rfl, le_t rfl⟩ rfl (le_t rfl) fun z12 μ8 T9 F10 h11 => ?_
    refine mr_istore (pc := 35) (lv' := [(4, iv z12), (0, .ref 87), (1, iv p1), (2, iv p2), (3, iv p3)]) dX2_leastBelow_35 (by decide) rfl ?_
    refine sv_aload_n (pc := 37) dX2_leastBelow_37 rfl rfl ?_
    refine mr_iload_n (pc := 38) (z := p1) dX2_leastBelow_38 rfl rfl ?_
    refine mr_iload_n (pc := 39) (z := p2) dX2_leastBelow_39 rfl rfl ?_
    refine mr_iconst (pc := 40) (z := 1) dX2_leastBelow_40 ?_
    refine mr_bipush (pc := 41) (z := 31) dX2_leastBelow_41 (by decide) ?_
    refine mr_iload_n (pc := 43) (z := p3) dX2_leastBelow_43 rfl rfl ?_
    refine mr_isub (pc := 44) (x := 31) (y := p3) dX2_leastBelow_44 ?_
    refine mr_ishl (pc := 45) (x := 1) (y := (31 - p3)) dX2_leastBelow_45 ?_
    refine mr_gen (P := fun z => (-2147483648) ≤ z ∧ z ≤ 2147483647) (r32i _) fun z13 q14 h15 => ?_
    refine mr_ior (pc := 46) (x := p2) (y := z13) dX2_leastBelow_46 ?_
    refine mr_gen (P := fun z => (-2147483648) ≤ z ∧ z ≤ 2147483647) (r32i _) fun z16 q17 h18 => ?_
    refine mr_iload_n (pc := 47) (z := p3) dX2_leastBelow_47 rfl rfl ?_
    refine mr_iconst (pc := 48) (z := 1) dX2_leastBelow_48 ?_
    refine mr_iadd (pc := 49) (x := p3) (y := 1) dX2_leastBelow_49 ?_
    refine mr_cVI (pc := 50) (c_X2_leastBelow_W1 hw T9 hp1 h18 (rAdd (e := 1) (f := 1) hp3 (rR (x := 1)) rfl) (vc_X9_end_1 hq0 hp1) ((((h11.2.1 T9 F10) h11.1) z13 q14) z16 q17)) (gOk _ _ _ _ _) dX2_leastBelow_50 (tX2_leastBelow _ _ _ _ _) ⟨wV_X2_leastBelow, wL_X2_leastBelow⟩ wM_X2_101 (gCX2 _ _ _ _ _) rfl (A_87 hw) rfl ⟨le_t rfl, le_t rfl⟩ ⟨le_t rfl, le_t rfl⟩ rfl (le_t rfl) fun z23 μ19 T20 F21 h22 => ?_
    refine mr_istore (pc := 53) (lv' := [(5, iv z23), (4, iv z12), (0, .ref 87), (1, iv p1), (2, iv p2), (3, iv p3)]) dX2_leastBelow_53 (by decide) rfl ?_
    refine mr_iload (pc := 55) (z := z12) dX2_leastBelow_55 rfl ?_
    refine mr_iload (pc := 57) (z := z23) dX2_leastBelow_57 rfl ?_
    refine mr_iand (pc := 59) (x := z12) (y := z23) dX2_leastBelow_59 ?_
    refine mr_gen (P := fun z => (-2147483648) ≤ z ∧ z ≤ 2147483647) (r32i _) fun z24 q25 h26 => ?_
    refine mr_if_eq (pc := 60) (tgt := 69) dX2_leastBelow_60 (by decide) h26 (fun h27 => ?_) (fun h27 => ?_)
    · have h28 : 0 ≤ z24 ∧ z24 ≤ 0 := (vc_X12_mask_1 h27 h26)
      refine sv_aload_n (pc := 69) dX2_leastBelow_69 rfl rfl ?_
      refine sv_dup (pc := 70) dX2_leastBelow_70 rfl ?_
      refine gf_X2_7 (pc := 71) dX2_leastBelow_71 wF_X2_98 (A_87 hw) T20 fun z29 q30 h31 => ?_
      refine mr_iconst (pc := 74) (z := 1) dX2_leastBelow_74 ?_
      refine mr_iadd (pc := 75) (x := z29) (y := 1) dX2_leastBelow_75 ?_
      refine mr_wrapF fun z32 h33 h34 => ?_
      refine pf_X2_7 (pc := 76) dX2_leastBelow_76 wF_X2_98 (A_87 hw) T20 h33 fun μ35 u36 T37 => ?_
      refine mr_iload (pc := 79) (z := z12) dX2_leastBelow_79 rfl ?_
      refine mr_iload (pc := 81) (z := z23) dX2_leastBelow_81 rfl ?_
      refine mr_ior (pc := 83) (x := z12) (y := z23) dX2_leastBelow_83 ?_
      refine mr_gen (P := fun z => (-2147483648) ≤ z ∧ z ≤ 2147483647) (r32i _) fun z38 q39 h40 => ?_
      exact mr_iret dX2_leastBelow_84 rfl (le_t rfl) (le_t rfl) T37 (mF.up (mF.call (mF.call mF.refl F10 rfl) F21 rfl) (A_87 hw) u36 rfl) ⟨h40, ((((((((h22.2.1 T20 F21) h22.1) z24 q25).1 h27) z29 q30 h31) z32 h33 h34) μ35 u36 T37) z38 q39), trivial⟩
    refine mr_iload (pc := 63) (z := z12) dX2_leastBelow_63 rfl ?_
    refine mr_iload (pc := 65) (z := z23) dX2_leastBelow_65 rfl ?_
    refine mr_iand (pc := 67) (x := z12) (y := z23) dX2_leastBelow_67 ?_
    refine mr_gen (P := fun z => (-2147483648) ≤ z ∧ z ≤ 2147483647) (r32i _) fun z41 q42 h43 => ?_
    exact mr_iret dX2_leastBelow_68 rfl (le_t rfl) (le_t rfl) T20 (mF.call (mF.call mF.refl F10 rfl) F21 rfl) ⟨h43, (((((h22.2.1 T20 F21) h22.1) z24 q25).2 h27) z41 q42), trivial⟩
  have h44 : 0 ≤ z5 ∧ z5 ≤ 0 := (vc_X12_ring_22 h6 h4.1)
  refine sv_aload_n (pc := 16) dX2_leastBelow_16 rfl rfl ?_
  refine mr_iload_n (pc := 17) (z := p1) dX2_leastBelow_17 rfl rfl ?_
  refine mr_iload_n (pc := 18) (z := p2) dX2_leastBelow_18 rfl rfl ?_
  refine mr_cVP (pc := 19) (c_X2_tieFor_W hw hT hp1 hp2 (vc_X9_end_1 hq0 hp1) ((h4.2.1 h4.1).2 h6)) (gOk _ _ _ _ _) dX2_leastBelow_19 (tX2_tieFor _ _ _ _ _) ⟨wV_X2_tieFor, wL_X2_tieFor⟩ wM_X2_60 (gCX2 _ _ _ _ _) rfl (A_87 hw) rfl ⟨le_t rfl, le_t rfl⟩ ⟨le_t rfl, le_t rfl⟩ rfl (le_t rfl) fun z49 h48 => ?_
  refine mr_cSP (pc := 22) (c_X2_aimBit_W hw hT h48.1 (h48.2.2.2.1 h48.1)) (gOk _ _ _ _ _) dX2_leastBelow_22 (tX2_aimBit _ _ _ _ _) wS_X2_aimBit wM_X2_110 ⟨le_t rfl, le_t rfl⟩ ⟨le_t rfl, le_t rfl⟩ rfl (le_t rfl) fun z54 h53 => ?_
  exact mr_iret dX2_leastBelow_25 rfl (le_t rfl) (le_t rfl) hT mF.refl ⟨h53.1, (h53.2.1 h53.1), trivial⟩
def WP_X2_leastTable_W (w : mW) (μ : mM) (p1 : Int) (Q : Int → mM → Prop) : Prop := ∀ μ1 : mM, mU μ 87 (7) (0 : Int) μ1 → mT w μ1 → WP_X2_leastBelow_W0 w μ1 p1 (0) (0) (fun z8 μ4 => mT w μ4 → mF [87007] w μ1 μ4 → ((-2147483648) ≤ z8 ∧ z8 ≤ 2147483647) → ∀ z9 : Int, bAnd z8 (2097152 : Int) = z9 → ((z9 = 0) → ∀ z25 : Int, μ4 87 7 = z25 → ((-2147483648) ≤ z25 ∧ z25 ≤ 2147483647) → ∀ z28 : Int, (-2147483648 ≤ z28 ∧ z28 ≤ 2147483647) → (z28 - (z25 + 1)) % 4294967296 = 0 → Q z28 μ4) ∧ ((¬ z9 = 0) → ∀ z32 : Int, μ4 87 7 = z32 → ((-2147483648) ≤ z32 ∧ z32 ≤ 2147483647) → Q z32 μ4))
theorem vc_X2_leastTable_W_2 {z9 : Int} (h0 : z9 = 0) (h1 : 0 ≤ z9 ∧ z9 ≤ 2097152) : 0 ≤ z9 ∧ z9 ≤ 0 := by omega
theorem vc_X2_leastTable_W_3 {z9 : Int} (h0 : ¬ z9 = 0) (h1 : 0 ≤ z9 ∧ z9 ≤ 2097152) : 1 ≤ z9 ∧ z9 ≤ 2097152 := by omega
set_option maxRecDepth 4000 in
set_option maxHeartbeats 4000000 in
theorem c_X2_leastTable_W {l : Launch} {D : va_G} {c : Nat → ClassId} {H0 : Heap} {sa : Nat × Nat × (Nat → Int32)} {w : mW} {μ : mM} (hw : mWF w) (hT : mT w μ) {p1 : Int} (hp1 : 0 ≤ p1 ∧ p1 ≤ 9) (hq0 : p1 < w.2.2.2 0) {Q : Int → mM → Prop} (hQ : WP_X2_leastTable_W w μ p1 Q) : sC (gG l D c H0 sa) mX2_leastTable 36 0 0 [.ref 87, iv p1] (mk w μ) (qI w [87007] μ (fun z μ1 => ((-2147483648) ≤ z ∧ z ≤ 2147483647) ∧ Q z μ1 ∧ True)) := by
  refine sC.of rfl (by decide) (le_t rfl) ?_
  refine mr_lvE (lv' := [(0, .ref 87), (1, iv p1)]) rfl ?_
  refine sv_aload_n (pc := 0) dX2_leastTable_0 rfl rfl ?_
  refine mr_iconst (pc := 1) (z := 0) dX2_leastTable_1 ?_
  refine pf_X2_7 (pc := 2) dX2_leastTable_2 wF_X2_98 (A_87 hw) hT (rW (c := (-2147483648)) (d := 2147483647) (rR (x := 0)) rfl) fun μ1 u2 T3 => ?_
  refine sv_aload_n (pc := 5) dX2_leastTable_5 rfl rfl ?_
  refine mr_iload_n (pc := 6) (z := p1) dX2_leastTable_6 rfl rfl ?_
  refine mr_iconst (pc := 7) (z := 0) dX2_leastTable_7 ?_
  refine mr_iconst (pc := 8) (z := 0) dX2_leastTable_8 ?_
  refine mr_cVI (pc := 9) (c_X2_leastBelow_W0 hw T3 hp1 (rW (c := (-2147483648)) (d := 2147483647) (rR (x := 0)) rfl) (rR (x := 0)) (vc_X9_end_1 hq0 hp1) (hQ μ1 u2 T3)) (gOk _ _ _ _ _) dX2_leastTable_9 (tX2_leastBelow _ _ _ _ _) ⟨wV_X2_leastBelow, wL_X2_leastBelow⟩ wM_X2_101 (gCX2 _ _ _ _ _) rfl (A_87 hw) rfl ⟨le_t rfl, le_t rfl⟩ ⟨le_t rfl, le_t rfl⟩ rfl (le_t rfl) fun z8 μ4 T5 F6 h7 => ?_
  refine mr_istore_n (pc := 12) (lv' := [(2, iv z8), (0, .ref 87), (1, iv p1)]) dX2_leastTable_12 rfl (by decide) rfl ?_
  refine mr_iload_n (pc := 13) (z := z8) dX2_leastTable_13 rfl rfl ?_
  refine mr_ldc (pc := 14) (z := 2097152) dX2_leastTable_14 wG_X2_105 (by decide) ?_
  refine mr_iand (pc := 16) (x := z8) (y := 2097152) dX2_leastTable_16 ?_
  refine mr_gen (P := fun z => 0 ≤ z ∧ z ≤ 2097152) (rAndR (rR (x := 2097152)) rfl) fun z9 q10 h11 => ?_
  refine mr_if_eq (pc := 17) (tgt := 27) dX2_leastTable_17 (by decide) (r32 h11 rfl) (fun h23 => ?_) (fun h23 => ?_)
  · have h24 : 0 ≤ z9 ∧ z9 ≤ 0 := (vc_X2_leastTable_W_2 h23 h11)
    refine sv_aload_n (pc := 27) dX2_leastTable_27 rfl rfl ?_
    refine gf_X2_7 (pc := 28) dX2_leastTable_28 wF_X2_98 (A_87 hw) T5 fun z25 q26 h27 => ?_
    refine mr_iconst (pc := 31) (z := 1) dX2_leastTable_31 ?_
    refine mr_iadd (pc := 32) (x := z25) (y := 1) dX2_leastTable_32 ?_
    refine mr_wrapF fun z28 h29 h30 => ?_
    exact mr_iret dX2_leastTable_33 rfl (le_t rfl) (le_t rfl) T5 (mF.call (mF.up mF.refl (A_87 hw) u2 rfl) F6 rfl) ⟨h29, ((((((h7.2.1 T5 F6) h7.1) z9 q10).1 h23) z25 q26 h27) z28 h29 h30), trivial⟩
  have h31 : 1 ≤ z9 ∧ z9 ≤ 2097152 := (vc_X2_leastTable_W_3 h23 h11)
  refine sv_aload_n (pc := 20) dX2_leastTable_20 rfl rfl ?_
  refine gf_X2_7 (pc := 21) dX2_leastTable_21 wF_X2_98 (A_87 hw) T5 fun z32 q33 h34 => ?_
  refine sv_goto (pc := 24) (tgt := 33) dX2_leastTable_24 (by decide) ?_
  exact mr_iret dX2_leastTable_33 rfl (le_t rfl) (le_t rfl) T5 (mF.call (mF.up mF.refl (A_87 hw) u2 rfl) F6 rfl) ⟨h34, (((((h7.2.1 T5 F6) h7.1) z9 q10).2 h23) z32 q33 h34), trivial⟩
def WP_X11_least_W (w : mW) (μ : mM) (p1 : Int) (Q : Int → mM → Prop) : Prop := ∀ z1 : Int, μ 6 15 = z1 → (z1 = w.2.2.2 0 ∧ 0 ≤ z1 ∧ z1 ≤ 10) → WP_X11_isDomain_W w μ p1 (fun z8 _ => (0 ≤ z8 ∧ z8 ≤ 1) → ((z8 = 0) → Q ((-1) : Int) μ) ∧ ((¬ z8 = 0) → WP_X2_leastTable_W w μ p1 (fun z31 μ27 => mT w μ27 → mF [87007] w μ μ27 → ((-2147483648) ≤ z31 ∧ z31 ≤ 2147483647) → Q z31 μ27)))
set_option maxRecDepth 4000 in
set_option maxHeartbeats 4000000 in
theorem c_X11_least_W {l : Launch} {D : va_G} {c : Nat → ClassId} {H0 : Heap} {sa : Nat × Nat × (Nat → Int32)} {w : mW} {μ : mM} (hw : mWF w) (hT : mT w μ) {p1 : Int} (hp1 : (-2147483648) ≤ p1 ∧ p1 ≤ 2147483647) {Q : Int → mM → Prop} (hQ : WP_X11_least_W w μ p1 Q) : sC (gG l D c H0 sa) mX11_least 37 0 0 [.ref 0, iv p1] (mk w μ) (qI w [87007] μ (fun z μ1 => ((-2147483648) ≤ z ∧ z ≤ 2147483647) ∧ Q z μ1 ∧ True)) := by
  refine sC.of rfl (by decide) (le_t rfl) ?_
  refine mr_lvE (lv' := [(0, .ref 0), (1, iv p1)]) rfl ?_
  refine sv_aload_n (pc := 0) dX11_least_0 rfl rfl ?_
  refine mr_iload_n (pc := 1) (z := p1) dX11_least_1 rfl rfl ?_
  obtain ⟨z1, q2⟩ : ∃ z, μ 6 15 = z := ⟨_, rfl⟩
  have h3 : (z1 = w.2.2.2 0 ∧ 0 ≤ z1 ∧ z1 ≤ 10) := by rw [← q2]; exact hT 6 6 (A_6 hw) 15
  refine mr_cVP (pc := 2) (c_X11_isDomain_W hw hT hp1 q2 (hQ z1 q2 h3)) (gOk _ _ _ _ _) dX11_least_2 (tX11_isDomain _ _ _ _ _) ⟨wV_X11_isDomain, wL_X11_isDomain⟩ wM_X11_105 (gCX11 _ _ _ _ _) rfl (A_0 hw) rfl ⟨le_t rfl, le_t rfl⟩ ⟨le_t rfl, le_t rfl⟩ rfl (le_t rfl) fun z8 h7 => ?_
  refine mr_if_eq (pc := 5) (tgt := 19) dX11_least_5 (by decide) (r32 h7.1 rfl) (fun h20 => ?_) (fun h20 => ?_)
  · have h21 : 0 ≤ z8 ∧ z8 ≤ 0 := (vc_X12_write_78 h20 h7.2.1 h7.2.2.1 hp1 h3.2 h7.1)
    have h22 : p1 < 0 ∨ z1 ≤ p1 := (h7.2.2.1 (vc_X11_letter_2 h7.2.1 h7.2.2.1 h20 h3.1 hp1 h3.2 h21))
    refine mr_iconst (pc := 19) (z := (-1)) dX11_least_19 ?_
    exact mr_iret dX11_least_20 rfl (le_t rfl) (le_t rfl) hT mF.refl ⟨(rW (c := (-2147483648)) (d := 2147483647) (rR (x := (-1))) rfl), ((h7.2.2.2.1 h7.1).1 h20), trivial⟩
  have h23 : 1 ≤ z8 ∧ z8 ≤ 1 := (vc_X12_write_12 h20 h7.2.1 h7.2.2.1 hp1 h3.2 h7.1)
  have h24 : 0 ≤ p1 ∧ p1 < z1 := (h7.2.1 (vc_X11_letter_4 h7.2.1 h7.2.2.1 h20 h3.1 hp1 h3.2 h23))
  have h25 : 0 ≤ p1 ∧ p1 ≤ 9 := (vc_X11_letter_5 h24 h3.1 h7.2.1 h7.2.2.1 hp1 h3.2 h23)
  have h26 : 1 ≤ z1 ∧ z1 ≤ 10 := (vc_X11_letter_6 h24 h3.1 h7.2.1 h7.2.2.1 h25 h3.2 h23)
  refine sv_aload_n (pc := 8) dX11_least_8 rfl rfl ?_
  refine gf_X11_8 (pc := 9) dX11_least_9 wF_X11_65 (A_0 hw) hT ?_
  refine mr_iload_n (pc := 12) (z := p1) dX11_least_12 rfl rfl ?_
  refine mr_cVI (pc := 13) (c_X2_leastTable_W hw hT h25 (vc_X11_letter_7 h3.1 h7.2.1 h7.2.2.1 h24 h20 h25 h26 h23) ((h7.2.2.2.1 h7.1).2 h20)) (gOk _ _ _ _ _) dX11_least_13 (tX2_leastTable _ _ _ _ _) ⟨wV_X2_leastTable, wL_X2_leastTable⟩ wM_X11_385 (gCX2 _ _ _ _ _) rfl (A_87 hw) rfl ⟨le_t rfl, le_t rfl⟩ ⟨le_t rfl, le_t rfl⟩ rfl (le_t rfl) fun z31 μ27 T28 F29 h30 => ?_
  refine sv_goto (pc := 16) (tgt := 20) dX11_least_16 (by decide) ?_
  exact mr_iret dX11_least_20 rfl (le_t rfl) (le_t rfl) T28 (mF.call mF.refl F29 rfl) ⟨h30.1, ((h30.2.1 T28 F29) h30.1), trivial⟩
def WL_X12_nodeOf_W_1 (μ : mM) (p1 : Int) (p2 : Int) (Q : Int → mM → Prop) (rec1 : (Int) → Prop) (s : (Int)) : Prop := ∀ z121 : Int, s = (z121) → (0 ≤ z121 ∧ z121 ≤ 400) → ∀ z130 : Int, μ 106 116 = z130 → (0 ≤ z130 ∧ z130 ≤ 400) → ((z130 ≤ z121) → Q ((-99999999) : Int) μ) ∧ ((z121 < z130) → ∀ z136 : Int, μ 180 (z121.toNat) = z136 → ((-2147483648) ≤ z136 ∧ z136 ≤ 2147483647) → ((¬ z136 = p1) → rec1 ((z121 + 1))) ∧ ((z136 = p1) → ∀ z140 : Int, μ 181 (z121.toNat) = z140 → ((-2147483648) ≤ z140 ∧ z140 ≤ 2147483647) → ((¬ z140 = p2) → rec1 ((z121 + 1))) ∧ ((z140 = p2) → Q z121 μ)))
def WP_X12_nodeOf_W (w : mW) (μ : mM) (p1 : Int) (p2 : Int) (Q : Int → mM → Prop) : Prop := loopF (WL_X12_nodeOf_W_1 μ p1 p2 Q) False 402 ((0 : Int))
theorem vc_X12_nodeOf_W_2  : (-(99999999 : Int) : Int) = -(99999999 : Int) ∨ ((0 : Int) ≤ (-(99999999 : Int) : Int) ∧ (-(99999999 : Int) : Int) ≤ (399 : Int)) := by omega
theorem vc_X12_nodeOf_W_3 {z121 z130 : Int} (h0 : z121 < z130) (h1 : 0 ≤ z121 ∧ z121 ≤ 400) (h2 : 0 ≤ z130 ∧ z130 ≤ 400) : 0 ≤ z121 ∧ z121 ≤ 399 := by omega
theorem vc_X12_nodeOf_W_4 {z121 z130 : Int} (h0 : z121 < z130) (h1 : 0 ≤ z121 ∧ z121 ≤ 399) (h2 : 0 ≤ z130 ∧ z130 ≤ 400) : 1 ≤ z130 ∧ z130 ≤ 400 := by omega
theorem vc_X12_nodeOf_W_5 {N z121 z130 : Int} (h0 : (401 - z121) < N + 1) (h1 : z121 < z130) (h2 : 0 ≤ z121 ∧ z121 ≤ 399) (h3 : 1 ≤ z130 ∧ z130 ≤ 400) : (401 - (z121 + 1)) < N := by omega
theorem vc_X12_nodeOf_W_6 {z121 z130 : Int} (h0 : z121 < z130) (h1 : 0 ≤ z121 ∧ z121 ≤ 399) (h2 : 1 ≤ z130 ∧ z130 ≤ 400) : z121 = -99999999 ∨ (0 ≤ z121 ∧ z121 ≤ 399) := by omega
set_option maxRecDepth 4000 in
set_option maxHeartbeats 4000000 in
theorem c_X12_nodeOf_W {l : Launch} {D : va_G} {c : Nat → ClassId} {H0 : Heap} {sa : Nat × Nat × (Nat → Int32)} {w : mW} {μ : mM} (hw : mWF w) (hT : mT w μ) {p1 : Int} (hp1 : (-2147483648) ≤ p1 ∧ p1 ≤ 2147483647) {p2 : Int} (hp2 : (-2147483648) ≤ p2 ∧ p2 ≤ 2147483647) {Q : Int → mM → Prop} (hQ : WP_X12_nodeOf_W w μ p1 p2 Q) : sC (gG l D c H0 sa) mX12_nodeOf 1 0 0 [.ref 106, iv p1, iv p2] (mk w μ) (qP w μ (fun z => ((-99999999) ≤ z ∧ z ≤ 399) ∧ (z = -99999999 ∨ (0 ≤ z ∧ z ≤ 399)) ∧ Q z μ ∧ True)) := by
  refine sC.of rfl (by decide) (le_t rfl) ?_
  refine mr_lvE (lv' := [(0, .ref 106), (1, iv p1), (2, iv p2)]) rfl ?_
  refine mr_iconst (pc := 0) (z := 0) dX12_nodeOf_0 ?_
  refine mr_istore_n (pc := 1) (lv' := [(3, iv 0), (0, .ref 106), (1, iv p1), (2, iv p2)]) dX12_nodeOf_1 rfl (by decide) rfl ?_
  have L122 : ∀ (nL122 : Nat) (z121 : Int), True → (0 ≤ z121 ∧ z121 ≤ 400) → (401 - z121) < (nL122 : Int) → loopF (WL_X12_nodeOf_W_1 μ p1 p2 Q) False nL122 (z121) → sV (gG l D c H0 sa) mX12_nodeOf (sRm 1 0 0) (sZ (gG l D c H0 sa) 0 0 (qP w μ (fun z => ((-99999999) ≤ z ∧ z ≤ 399) ∧ (z = -99999999 ∨ (0 ≤ z ∧ z ≤ 399)) ∧ Q z μ ∧ True))) 2 [(0, .ref 106), (1, iv p1), (2, iv p2), (3, iv z121)] [] (mk w μ) 0 0 := by
    intro nL122
    induction nL122 with
    | zero => intro z121 _ h123 h127 W128; exact ((vc_X12_count_1 h127 h123)).elim
    | succ nL122 ih129 =>
      intro z121 _ h123 h127 W128
      refine mr_iload_n (pc := 2) (z := z121) dX12_nodeOf_2 rfl rfl ?_
      refine sv_aload_n (pc := 3) dX12_nodeOf_3 rfl rfl ?_
      refine gf_X12_116 (pc := 4) dX12_nodeOf_4 wF_X12_698 (A_106 hw) hT fun z130 q131 h132 => ?_
      refine mr_icmp_ge (pc := 7) (tgt := 38) dX12_nodeOf_7 (by decide) (r32 h123 rfl) (r32 h132 rfl) (fun h133 => ?_) (fun h133 => ?_)
      · refine mr_ldc (pc := 38) (z := (-99999999)) dX12_nodeOf_38 wG_X12_29 (by decide) ?_
        exact mr_iretP dX12_nodeOf_40 rfl (le_t rfl) (le_t rfl) ⟨(rW (c := (-99999999)) (d := 399) (rR (x := (-99999999))) rfl), vc_X12_nodeOf_W_2, (((W128 z121 rfl h123) z130 q131 h132).1 h133), trivial⟩
      have h134 : 0 ≤ z121 ∧ z121 ≤ 399 := (vc_X12_nodeOf_W_3 h133 h123 h132)
      have h135 : 1 ≤ z130 ∧ z130 ≤ 400 := (vc_X12_nodeOf_W_4 h133 h134 h132)
      refine sv_aload_n (pc := 10) dX12_nodeOf_10 rfl rfl ?_
      refine gf_X12_113 (pc := 11) dX12_nodeOf_11 wF_X12_502 (A_106 hw) hT ?_
      refine mr_iload_n (pc := 14) (z := z121) dX12_nodeOf_14 rfl rfl ?_
      refine la_180 (pc := 15) dX12_nodeOf_15 (A_180 hw) hT (rIx (n := 400) h134 rfl) fun z136 q137 h138 => ?_
      refine mr_iload_n (pc := 16) (z := p1) dX12_nodeOf_16 rfl rfl ?_
      refine mr_icmp_ne (pc := 17) (tgt := 32) dX12_nodeOf_17 (by decide) h138 hp1 (fun h139 => ?_) (fun h139 => ?_)
      · refine mr_iinc (pc := 32) (lv' := [(3, iv (z121 + 1)), (0, .ref 106), (1, iv p1), (2, iv p2)]) dX12_nodeOf_32 rfl (by decide) rfl ?_
        refine sv_goto (pc := 35) (tgt := 2) dX12_nodeOf_35 (by decide) ?_
        refine mr_lvS (lv' := [(0, .ref 106), (1, iv p1), (2, iv p2), (3, iv (z121 + 1))]) (List.forall_mem_cons.mpr ⟨rfl, List.forall_mem_cons.mpr ⟨rfl, List.forall_mem_cons.mpr ⟨rfl, List.forall_mem_cons.mpr ⟨rfl, fun _ h => absurd h List.not_mem_nil⟩⟩⟩⟩) ?_
        exact ih129 (z121 + 1) trivial (rW (c := 0) (d := 400) (rAdd (e := 1) (f := 400) h134 (rR (x := 1)) rfl) rfl) (vc_X12_nodeOf_W_5 (nS h127) h133 h134 h135) (((((W128 z121 rfl h123) z130 q131 h132).2 h133) z136 q137 h138).1 h139)
      refine sv_aload_n (pc := 20) dX12_nodeOf_20 rfl rfl ?_
      refine gf_X12_114 (pc := 21) dX12_nodeOf_21 wF_X12_505 (A_106 hw) hT ?_
      refine mr_iload_n (pc := 24) (z := z121) dX12_nodeOf_24 rfl rfl ?_
      refine la_181 (pc := 25) dX12_nodeOf_25 (A_181 hw) hT (rIx (n := 400) h134 rfl) fun z140 q141 h142 => ?_
      refine mr_iload_n (pc := 26) (z := p2) dX12_nodeOf_26 rfl rfl ?_
      refine mr_icmp_ne (pc := 27) (tgt := 32) dX12_nodeOf_27 (by decide) h142 hp2 (fun h143 => ?_) (fun h143 => ?_)
      · refine mr_iinc (pc := 32) (lv' := [(3, iv (z121 + 1)), (0, .ref 106), (1, iv p1), (2, iv p2)]) dX12_nodeOf_32 rfl (by decide) rfl ?_
        refine sv_goto (pc := 35) (tgt := 2) dX12_nodeOf_35 (by decide) ?_
        refine mr_lvS (lv' := [(0, .ref 106), (1, iv p1), (2, iv p2), (3, iv (z121 + 1))]) (List.forall_mem_cons.mpr ⟨rfl, List.forall_mem_cons.mpr ⟨rfl, List.forall_mem_cons.mpr ⟨rfl, List.forall_mem_cons.mpr ⟨rfl, fun _ h => absurd h List.not_mem_nil⟩⟩⟩⟩) ?_
        exact ih129 (z121 + 1) trivial (rW (c := 0) (d := 400) (rAdd (e := 1) (f := 400) h134 (rR (x := 1)) rfl) rfl) (vc_X12_nodeOf_W_5 (nS h127) h133 h134 h135) (((((((W128 z121 rfl h123) z130 q131 h132).2 h133) z136 q137 h138).2 h139) z140 q141 h142).1 h143)
      refine mr_iload_n (pc := 30) (z := z121) dX12_nodeOf_30 rfl rfl ?_
      exact mr_iretP dX12_nodeOf_31 rfl (le_t rfl) (le_t rfl) ⟨(rW (c := (-99999999)) (d := 399) h134 rfl), (vc_X12_nodeOf_W_6 h133 h134 h135), (((((((W128 z121 rfl h123) z130 q131 h132).2 h133) z136 q137 h138).2 h139) z140 q141 h142).2 h143), trivial⟩
  refine mr_lvS (lv' := [(0, .ref 106), (1, iv p1), (2, iv p2), (3, iv 0)]) (List.forall_mem_cons.mpr ⟨rfl, List.forall_mem_cons.mpr ⟨rfl, List.forall_mem_cons.mpr ⟨rfl, List.forall_mem_cons.mpr ⟨rfl, fun _ h => absurd h List.not_mem_nil⟩⟩⟩⟩) ?_
  exact L122 402 0 trivial (rW (c := 0) (d := 400) (rR (x := 0)) rfl) vc_X12_count_22 hQ
def WP_X12_aim_W (w : mW) (μ : mM) (p1 : Int) (Q : Int → mM → Prop) : Prop := ((¬ p1 = (-4)) → ((¬ p1 = (-99999999)) → Q p1 μ) ∧ ((p1 = (-99999999)) → Q (21 : Int) μ)) ∧ ((p1 = (-4)) → Q (20 : Int) μ)
theorem vc_X12_aim_W_1 {p1 : Int} (h0 : p1 = (-99999999)) (h1 : ¬ p1 = (-4)) (h2 : (-2147483648) ≤ p1 ∧ p1 ≤ 2147483647) : (-99999999) ≤ p1 ∧ p1 ≤ (-99999999) := by omega
theorem vc_X12_aim_W_2 {p1 : Int} (h0 : p1 = (-4)) (h1 : (-2147483648) ≤ p1 ∧ p1 ≤ 2147483647) : (-4) ≤ p1 ∧ p1 ≤ (-4) := by omega
set_option maxRecDepth 4000 in
set_option maxHeartbeats 4000000 in
theorem c_X12_aim_W {l : Launch} {D : va_G} {c : Nat → ClassId} {H0 : Heap} {sa : Nat × Nat × (Nat → Int32)} {w : mW} {μ : mM} (hw : mWF w) (hT : mT w μ) {p1 : Int} (hp1 : (-2147483648) ≤ p1 ∧ p1 ≤ 2147483647) {Q : Int → mM → Prop} (hQ : WP_X12_aim_W w μ p1 Q) : sC (gG l D c H0 sa) mX12_aim 1 0 0 [iv p1] (mk w μ) (qP w μ (fun z => ((-2147483648) ≤ z ∧ z ≤ 2147483647) ∧ Q z μ ∧ True)) := by
  refine sC.of rfl (by decide) (le_t rfl) ?_
  refine mr_lvE (lv' := [(0, iv p1)]) rfl ?_
  refine mr_iload_n (pc := 0) (z := p1) dX12_aim_0 rfl rfl ?_
  refine mr_bipush (pc := 1) (z := (-4)) dX12_aim_1 (by decide) ?_
  refine mr_icmp_ne (pc := 3) (tgt := 11) dX12_aim_3 (by decide) hp1 (r32 (rR (x := (-4))) rfl) (fun h3 => ?_) (fun h3 => ?_)
  · refine mr_iload_n (pc := 11) (z := p1) dX12_aim_11 rfl rfl ?_
    refine mr_ldc (pc := 12) (z := (-99999999)) dX12_aim_12 wG_X12_29 (by decide) ?_
    refine mr_icmp_ne (pc := 14) (tgt := 22) dX12_aim_14 (by decide) hp1 (r32 (rR (x := (-99999999))) rfl) (fun h5 => ?_) (fun h5 => ?_)
    · refine mr_iload_n (pc := 22) (z := p1) dX12_aim_22 rfl rfl ?_
      exact mr_iretP dX12_aim_23 rfl (le_t rfl) (le_t rfl) ⟨hp1, ((hQ.1 h3).1 h5), trivial⟩
    have h6 : (-99999999) ≤ p1 ∧ p1 ≤ (-99999999) := (vc_X12_aim_W_1 h5 h3 hp1)
    refine mr_bipush (pc := 17) (z := 21) dX12_aim_17 (by decide) ?_
    refine sv_goto (pc := 19) (tgt := 23) dX12_aim_19 (by decide) ?_
    exact mr_iretP dX12_aim_23 rfl (le_t rfl) (le_t rfl) ⟨(rW (c := (-2147483648)) (d := 2147483647) (rR (x := 21)) rfl), ((hQ.1 h3).2 h5), trivial⟩
  have h7 : (-4) ≤ p1 ∧ p1 ≤ (-4) := (vc_X12_aim_W_2 h3 hp1)
  refine mr_bipush (pc := 6) (z := 20) dX12_aim_6 (by decide) ?_
  refine sv_goto (pc := 8) (tgt := 23) dX12_aim_8 (by decide) ?_
  exact mr_iretP dX12_aim_23 rfl (le_t rfl) (le_t rfl) ⟨(rW (c := (-2147483648)) (d := 2147483647) (rR (x := 20)) rfl), (hQ.2 h3), trivial⟩
def WP_X12_costOf_W (w : mW) (μ : mM) (p1 : Int) (p2 : Int) (p3 : Int) (p4 : Int) (Q : Int → mM → Prop) : Prop := WP_X12_nodeOf_W w μ p2 p3 (fun z5 _ => ((-99999999) ≤ z5 ∧ z5 ≤ 399) → ((z5 = (-99999999)) → WP_X12_sends_W w μ p1 p2 (fun z12 _ => ((-99999999) ≤ z12 ∧ z12 ≤ 19) → WP_X12_aim_W w μ z12 (fun z17 _ => ((-2147483648) ≤ z17 ∧ z17 ≤ 2147483647) → ((¬ z17 = p4) → Q (1 : Int) μ) ∧ ((z17 = p4) → Q (0 : Int) μ)))) ∧ ((¬ z5 = (-99999999)) → ∀ z22 : Int, μ 182 (((22 * z5) + p4).toNat) = z22 → ((-2147483648) ≤ z22 ∧ z22 ≤ 2147483647) → Q z22 μ))
theorem vc_X12_costOf_W_1 {z5 : Int} (h0 : z5 = (-99999999)) (h1 : z5 = -99999999 ∨ (0 ≤ z5 ∧ z5 ≤ 399)) (h2 : (-99999999) ≤ z5 ∧ z5 ≤ 399) : (-99999999) ≤ z5 ∧ z5 ≤ (-99999999) := by omega
theorem vc_X12_costOf_W_2 {p4 z17 : Int} (h0 : z17 = p4) (h1 : 0 ≤ p4 ∧ p4 ≤ 21) (h2 : (-2147483648) ≤ z17 ∧ z17 ≤ 2147483647) : 0 ≤ z17 ∧ z17 ≤ 21 := by omega
theorem vc_X12_costOf_W_3 {z5 : Int} (h0 : ¬ z5 = (-99999999)) (h1 : z5 = -99999999 ∨ (0 ≤ z5 ∧ z5 ≤ 399)) (h2 : (-99999999) ≤ z5 ∧ z5 ≤ 399) : 0 ≤ z5 ∧ z5 ≤ 399 := by omega
set_option maxRecDepth 4000 in
set_option maxHeartbeats 4000000 in
theorem c_X12_costOf_W {l : Launch} {D : va_G} {c : Nat → ClassId} {H0 : Heap} {sa : Nat × Nat × (Nat → Int32)} {w : mW} {μ : mM} (hw : mWF w) (hT : mT w μ) {p1 : Int} (hp1 : 0 ≤ p1 ∧ p1 ≤ 9) {p2 : Int} (hp2 : (-2147483648) ≤ p2 ∧ p2 ≤ 2147483647) {p3 : Int} (hp3 : (-2147483648) ≤ p3 ∧ p3 ≤ 2147483647) {p4 : Int} (hp4 : 0 ≤ p4 ∧ p4 ≤ 21) {Q : Int → mM → Prop} (hQ : WP_X12_costOf_W w μ p1 p2 p3 p4 Q) : sC (gG l D c H0 sa) mX12_costOf 4 0 0 [.ref 106, iv p1, iv p2, iv p3, iv p4] (mk w μ) (qP w μ (fun z => ((-2147483648) ≤ z ∧ z ≤ 2147483647) ∧ Q z μ ∧ True)) := by
  refine sC.of rfl (by decide) (le_t rfl) ?_
  refine mr_lvE (lv' := [(0, .ref 106), (1, iv p1), (2, iv p2), (3, iv p3), (4, iv p4)]) rfl ?_
  refine sv_aload_n (pc := 0) dX12_costOf_0 rfl rfl ?_
  refine mr_iload_n (pc := 1) (z := p2) dX12_costOf_1 rfl rfl ?_
  refine mr_iload_n (pc := 2) (z := p3) dX12_costOf_2 rfl rfl ?_
  refine mr_cVP (pc := 3) (c_X12_nodeOf_W hw hT hp2 hp3 hQ) (gOk _ _ _ _ _) dX12_costOf_3 (tX12_nodeOf _ _ _ _ _) ⟨wV_X12_nodeOf, wL_X12_nodeOf⟩ wM_X12_701 (gCX12 _ _ _ _ _) rfl (A_106 hw) rfl ⟨le_t rfl, le_t rfl⟩ ⟨le_t rfl, le_t rfl⟩ rfl (le_t rfl) fun z5 h4 => ?_
  refine mr_istore (pc := 6) (lv' := [(5, iv z5), (0, .ref 106), (1, iv p1), (2, iv p2), (3, iv p3), (4, iv p4)]) dX12_costOf_6 (by decide) rfl ?_
  refine mr_iload (pc := 8) (z := z5) dX12_costOf_8 rfl ?_
  refine mr_ldc (pc := 10) (z := (-99999999)) dX12_costOf_10 wG_X12_29 (by decide) ?_
  refine mr_icmp_eq (pc := 12) (tgt := 29) dX12_costOf_12 (by decide) (r32 h4.1 rfl) (r32 (rR (x := (-99999999))) rfl) (fun h6 => ?_) (fun h6 => ?_)
  · have h7 : (-99999999) ≤ z5 ∧ z5 ≤ (-99999999) := (vc_X12_costOf_W_1 h6 h4.2.1 h4.1)
    refine sv_aload_n (pc := 29) dX12_costOf_29 rfl rfl ?_
    refine mr_iload_n (pc := 30) (z := p1) dX12_costOf_30 rfl rfl ?_
    refine mr_iload_n (pc := 31) (z := p2) dX12_costOf_31 rfl rfl ?_
    refine mr_cVP (pc := 32) (c_X12_sends_W hw hT hp1 hp2 ((h4.2.2.1 h4.1).1 h6)) (gOk _ _ _ _ _) dX12_costOf_32 (tX12_sends _ _ _ _ _) ⟨wV_X12_sends, wL_X12_sends⟩ wM_X12_686 (gCX12 _ _ _ _ _) rfl (A_106 hw) rfl ⟨le_t rfl, le_t rfl⟩ ⟨le_t rfl, le_t rfl⟩ rfl (le_t rfl) fun z12 h11 => ?_
    refine mr_cSP (pc := 35) (c_X12_aim_W hw hT (rW (c := (-2147483648)) (d := 2147483647) h11.1 rfl) (h11.2.2.1 h11.1)) (gOk _ _ _ _ _) dX12_costOf_35 (tX12_aim _ _ _ _ _) wS_X12_aim wM_X12_704 ⟨le_t rfl, le_t rfl⟩ ⟨le_t rfl, le_t rfl⟩ rfl (le_t rfl) fun z17 h16 => ?_
    refine mr_iload (pc := 38) (z := p4) dX12_costOf_38 rfl ?_
    refine mr_icmp_ne (pc := 40) (tgt := 47) dX12_costOf_40 (by decide) h16.1 (r32 hp4 rfl) (fun h19 => ?_) (fun h19 => ?_)
    · refine mr_iconst (pc := 47) (z := 1) dX12_costOf_47 ?_
      exact mr_iretP dX12_costOf_48 rfl (le_t rfl) (le_t rfl) ⟨(rW (c := (-2147483648)) (d := 2147483647) (rR (x := 1)) rfl), ((h16.2.1 h16.1).1 h19), trivial⟩
    have h20 : 0 ≤ z17 ∧ z17 ≤ 21 := (vc_X12_costOf_W_2 h19 hp4 h16.1)
    refine mr_iconst (pc := 43) (z := 0) dX12_costOf_43 ?_
    refine sv_goto (pc := 44) (tgt := 48) dX12_costOf_44 (by decide) ?_
    exact mr_iretP dX12_costOf_48 rfl (le_t rfl) (le_t rfl) ⟨(rW (c := (-2147483648)) (d := 2147483647) (rR (x := 0)) rfl), ((h16.2.1 h16.1).2 h19), trivial⟩
  have h21 : 0 ≤ z5 ∧ z5 ≤ 399 := (vc_X12_costOf_W_3 h6 h4.2.1 h4.1)
  refine sv_aload_n (pc := 15) dX12_costOf_15 rfl rfl ?_
  refine gf_X12_115 (pc := 16) dX12_costOf_16 wF_X12_508 (A_106 hw) hT ?_
  refine mr_bipush (pc := 19) (z := 22) dX12_costOf_19 (by decide) ?_
  refine mr_iload (pc := 21) (z := z5) dX12_costOf_21 rfl ?_
  refine mr_imul (pc := 23) (x := 22) (y := z5) dX12_costOf_23 ?_
  refine mr_iload (pc := 24) (z := p4) dX12_costOf_24 rfl ?_
  refine mr_iadd (pc := 26) (x := (22 * z5)) (y := p4) dX12_costOf_26 ?_
  refine la_182 (pc := 27) dX12_costOf_27 (A_182 hw) hT (rIx (n := 8800) (rAdd (e := 0) (f := 8799) (rMulL (n := 22) (e := 0) (f := 8778) h21 rfl) hp4 rfl) rfl) fun z22 q23 h24 => ?_
  exact mr_iretP dX12_costOf_28 rfl (le_t rfl) (le_t rfl) ⟨h24, (((h4.2.2.1 h4.1).2 h6) z22 q23 h24), trivial⟩
def WL_X12_least_W_4 (w : mW) (z6495 : Int) (rec2 : (Int × mM) → Prop) (z8318 : Int) (f_ne : Int) (z8920 : Int) (z9474 : Int) (μ9475 : mM) (rec4 : (Int × mM) → Prop) (s : (Int × mM)) : Prop := ∀ z9722 : Int, ∀ μ9723 : mM, s = (z9722, μ9723) → (0 ≤ z9722 ∧ z9722 ≤ 22) → mT w μ9723 → mF [182999] w μ9475 μ9723 → ((22 ≤ z9722) → ∀ μ9750 : mM, mU μ9723 180 (f_ne.toNat) z8920 μ9750 → mT w μ9750 → ∀ μ9753 : mM, mU μ9750 181 (f_ne.toNat) z6495 μ9753 → mT w μ9753 → ∀ μ9756 : mM, mU μ9753 106 (116) (f_ne + 1) μ9756 → mT w μ9756 → rec2 ((z8318 + 1), μ9756)) ∧ ((z9722 < 22) → ∀ z9760 : Int, μ9723 182 (((22 * f_ne) + z9722).toNat) = z9760 → ((-2147483648) ≤ z9760 ∧ z9760 ≤ 2147483647) → ∀ z9763 : Int, (-2147483648 ≤ z9763 ∧ z9763 ≤ 2147483647) → (z9763 - (z9474 + 1)) % 4294967296 = 0 → ((z9760 ≤ z9763) → rec4 ((z9722 + 1), μ9723)) ∧ ((z9763 < z9760) → ∀ z9777 : Int, (-2147483648 ≤ z9777 ∧ z9777 ≤ 2147483647) → (z9777 - (z9474 + 1)) % 4294967296 = 0 → ∀ μ9780 : mM, mU μ9723 182 (((22 * f_ne) + z9722).toNat) z9777 μ9780 → mT w μ9780 → rec4 ((z9722 + 1), μ9780)))
def WL_X12_least_W_3 (w : mW) (p1 : Int) (z6495 : Int) (rec2 : (Int × mM) → Prop) (z8318 : Int) (μ8319 : mM) (f_ne : Int) (z8920 : Int) (z9097 : Int) (rec3 : (Int × Int × mM) → Prop) (s : (Int × Int × mM)) : Prop := ∀ z9474 : Int, ∀ z9473 : Int, ∀ μ9475 : mM, s = (z9474, z9473, μ9475) → ((-2147483648) ≤ z9474 ∧ z9474 ≤ 2147483647) → (0 ≤ z9473 ∧ z9473 ≤ 22) → mT w μ9475 → mF [182999] w μ8319 μ9475 → ((22 ≤ z9473) → loopF (WL_X12_least_W_4 w z6495 rec2 z8318 f_ne z8920 z9474 μ9475) False 24 ((0 : Int), μ9475)) ∧ ((z9473 < 22) → WP_X12_costOf_W w μ9475 p1 z8920 (z6495 + 1) z9473 (fun z9788 _ => ((-2147483648) ≤ z9788 ∧ z9788 ≤ 2147483647) → WP_X12_costOf_W w μ9475 p1 z9097 (z6495 + 1) z9473 (fun z9793 _ => ((-2147483648) ≤ z9793 ∧ z9793 ≤ 2147483647) → ∀ z9794 : Int, (-2147483648 ≤ z9794 ∧ z9794 ≤ 2147483647) → (z9794 - (z9788 + z9793)) % 4294967296 = 0 → ∀ μ9797 : mM, mU μ9475 182 (((22 * f_ne) + z9473).toNat) z9794 μ9797 → mT w μ9797 → ((z9474 = (-99999999)) → rec3 (z9794, (z9473 + 1), μ9797)) ∧ ((¬ z9474 = (-99999999)) → ((z9474 ≤ z9794) → rec3 (z9474, (z9473 + 1), μ9797)) ∧ ((z9794 < z9474) → rec3 (z9794, (z9473 + 1), μ9797))))))
def WL_X12_least_W_2 (w : mW) (p1 : Int) (rec1 : (Int × mM) → Prop) (z6495 : Int) (μ6496 : mM) (rec2 : (Int × mM) → Prop) (s : (Int × mM)) : Prop := ∀ z8318 : Int, ∀ μ8319 : mM, s = (z8318, μ8319) → (0 ≤ z8318 ∧ z8318 ≤ 10) → mT w μ8319 → mF [106116, 180999, 181999, 182999] w μ6496 μ8319 → ∀ f_ne : Int, μ8319 106 (116) = f_ne → (0 ≤ f_ne ∧ f_ne ≤ 400) → ∀ z8331 : Int, μ8319 106 2 = z8331 → (0 ≤ z8331 ∧ z8331 ≤ 10) → ((z8331 ≤ z8318) → rec1 ((z6495 + (-1)), μ8319)) ∧ ((z8318 < z8331) → ∀ z8530 : Int, μ8319 161 (((10 * p1) + z8318).toNat) = z8530 → (z8530 = -99999999 ∨ z8530 = -4 ∨ (0 ≤ z8530 ∧ z8530 ≤ 19)) → ((z8530 = (-99999999)) → rec2 ((z8318 + 1), μ8319)) ∧ ((¬ z8530 = (-99999999)) → ∀ z8724 : Int, μ8319 109 (z8318.toNat) = z8724 → (0 ≤ z8724 ∧ z8724 ≤ 32) → ((z6495 < z8724) → ∀ z8911 : Int, μ8319 108 (z8318.toNat) = z8911 → ((-2147483648) ≤ z8911 ∧ z8911 ≤ 2147483647) → WP_X12_mask_W w μ8319 z6495 (fun z8918 _ => ((-2147483648) ≤ z8918 ∧ z8918 ≤ 2147483647) → ∀ z8920 : Int, bAnd z8911 z8918 = z8920 → WP_X12_nodeOf_W w μ8319 z8920 z6495 (fun z8927 _ => ((-99999999) ≤ z8927 ∧ z8927 ≤ 399) → ((z8927 = (-99999999)) → ∀ z9094 : Int, bShl (1 : Int) (31 - z6495) = z9094 → ∀ z9097 : Int, bOr z8920 z9094 = z9097 → loopF (WL_X12_least_W_3 w p1 z6495 rec2 z8318 μ8319 f_ne z8920 z9097) False 24 (((-99999999) : Int), (0 : Int), μ8319)) ∧ ((¬ z8927 = (-99999999)) → rec2 ((z8318 + 1), μ8319))))) ∧ ((z8724 ≤ z6495) → rec2 ((z8318 + 1), μ8319))))
def WL_X12_least_W_1 (w : mW) (p1 : Int) (Q : Int → mM → Prop) (μ14 : mM) (rec1 : (Int × mM) → Prop) (s : (Int × mM)) : Prop := ∀ z6495 : Int, ∀ μ6496 : mM, s = (z6495, μ6496) → ((-1) ≤ z6495 ∧ z6495 ≤ 31) → mT w μ6496 → mF [106116, 180999, 181999, 182999] w μ14 μ6496 → ∀ f_nd : Int, μ6496 106 (116) = f_nd → (0 ≤ f_nd ∧ f_nd ≤ 400) → ((z6495 < 0) → WP_X12_costOf_W w μ6496 p1 (0) (0) (21) (fun z6916 _ => ((-2147483648) ≤ z6916 ∧ z6916 ≤ 2147483647) → Q z6916 μ6496)) ∧ ((0 ≤ z6495) → loopF (WL_X12_least_W_2 w p1 rec1 z6495 μ6496) False 12 ((0 : Int), μ6496))
def WP_X12_least_W (w : mW) (μ : mM) (p1 : Int) (Q : Int → mM → Prop) : Prop := ∀ z1 : Int, μ 106 5 = z1 → (0 ≤ z1 ∧ z1 ≤ 10) → WP_X12_isDomain_W w μ p1 (fun z8 _ => (0 ≤ z8 ∧ z8 ≤ 1) → ((¬ z8 = 0) → ∀ μ14 : mM, mU μ 106 (116) (0 : Int) μ14 → mT w μ14 → loopF (WL_X12_least_W_1 w p1 Q μ14) False 34 ((31 : Int), μ14)) ∧ ((z8 = 0) → Q ((-1) : Int) μ))
theorem vc_X12_least_W_5 {f_nd z6495 : Int} (h0 : (z6495 - (-2)) < ((0 : Nat) : Int)) (h1 : f_nd + 10 * z6495 ≤ 310) (h2 : (-1) ≤ z6495 ∧ z6495 ≤ 31) : False := by omega
theorem vc_X12_least_W_6 {f_nd z6495 : Int} (h0 : z6495 < 0) (h1 : f_nd + 10 * z6495 ≤ 310) (h2 : 0 ≤ f_nd ∧ f_nd ≤ 400) (h3 : (-1) ≤ z6495 ∧ z6495 ≤ 31) : (-1) ≤ z6495 ∧ z6495 ≤ (-1) := by omega
theorem vc_X12_least_W_7 {f_nd z6495 : Int} (h0 : 0 ≤ z6495) (h1 : f_nd + 10 * z6495 ≤ 310) (h2 : 0 ≤ f_nd ∧ f_nd ≤ 400) (h3 : (-1) ≤ z6495 ∧ z6495 ≤ 31) : 0 ≤ z6495 ∧ z6495 ≤ 31 := by omega
theorem vc_X12_least_W_8 {f_nd f_ne z6495 z8318 : Int} (h0 : (11 - z8318) < ((0 : Nat) : Int)) (h1 : f_ne + 10 * z6495 ≤ 310 + z8318) (h2 : f_nd + 10 * z6495 ≤ 310) (h3 : 0 ≤ z6495) (h4 : 0 ≤ f_nd ∧ f_nd ≤ 400) (h5 : 0 ≤ z6495 ∧ z6495 ≤ 31) (h6 : 0 ≤ z8318 ∧ z8318 ≤ 10) : False := by omega
theorem vc_X12_least_W_9 {f_nd f_ne z6495 z8318 z8331 : Int} (h0 : f_nd + 10 * z6495 ≤ 310) (h1 : 0 ≤ z6495) (h2 : f_ne + 10 * z6495 ≤ 310 + z8318) (h3 : z8331 ≤ z8318) (h4 : 0 ≤ f_nd ∧ f_nd ≤ 400) (h5 : 0 ≤ f_ne ∧ f_ne ≤ 400) (h6 : 0 ≤ z6495 ∧ z6495 ≤ 31) (h7 : 0 ≤ z8318 ∧ z8318 ≤ 10) (h8 : 0 ≤ z8331 ∧ z8331 ≤ 10) : f_ne + 10 * (z6495 + (-1)) ≤ 310 := by omega
theorem vc_X12_least_W_10 {N f_nd f_ne z6495 z8318 z8331 : Int} (h0 : (z6495 - (-2)) < N + 1) (h1 : f_nd + 10 * z6495 ≤ 310) (h2 : 0 ≤ z6495) (h3 : f_ne + 10 * z6495 ≤ 310 + z8318) (h4 : z8331 ≤ z8318) (h5 : 0 ≤ f_nd ∧ f_nd ≤ 400) (h6 : 0 ≤ f_ne ∧ f_ne ≤ 400) (h7 : 0 ≤ z6495 ∧ z6495 ≤ 31) (h8 : 0 ≤ z8318 ∧ z8318 ≤ 10) (h9 : 0 ≤ z8331 ∧ z8331 ≤ 10) : ((z6495 + (-1)) - (-2)) < N := by omega
theorem vc_X12_least_W_11 {f_ne z6495 z8318 z8331 : Int} (h0 : z8318 < z8331) (h1 : f_ne + 10 * z6495 ≤ 310 + z8318) (h2 : 0 ≤ f_ne ∧ f_ne ≤ 400) (h3 : 0 ≤ z6495 ∧ z6495 ≤ 31) (h4 : 0 ≤ z8318 ∧ z8318 ≤ 10) (h5 : 0 ≤ z8331 ∧ z8331 ≤ 10) : 0 ≤ z8318 ∧ z8318 ≤ 9 := by omega
theorem vc_X12_least_W_12 {f_ne z6495 z8318 z8331 : Int} (h0 : z8318 < z8331) (h1 : f_ne + 10 * z6495 ≤ 310 + z8318) (h2 : 0 ≤ f_ne ∧ f_ne ≤ 400) (h3 : 0 ≤ z6495 ∧ z6495 ≤ 31) (h4 : 0 ≤ z8318 ∧ z8318 ≤ 9) (h5 : 0 ≤ z8331 ∧ z8331 ≤ 10) : 1 ≤ z8331 ∧ z8331 ≤ 10 := by omega
theorem vc_X12_least_W_15 {f_nd f_ne z6495 z8318 z8331 : Int} (h0 : f_nd + 10 * z6495 ≤ 310) (h1 : 0 ≤ z6495) (h2 : f_ne + 10 * z6495 ≤ 310 + z8318) (h3 : z8318 < z8331) (h4 : 0 ≤ f_nd ∧ f_nd ≤ 400) (h5 : 0 ≤ f_ne ∧ f_ne ≤ 400) (h6 : 0 ≤ z6495 ∧ z6495 ≤ 31) (h7 : 0 ≤ z8318 ∧ z8318 ≤ 9) (h8 : 1 ≤ z8331 ∧ z8331 ≤ 10) : f_ne + 10 * z6495 ≤ 310 + (z8318 + 1) := by omega
theorem vc_X12_least_W_16 {N f_nd f_ne z6495 z8318 z8331 : Int} (h0 : (11 - z8318) < N + 1) (h1 : f_ne + 10 * z6495 ≤ 310 + z8318) (h2 : z8318 < z8331) (h3 : f_nd + 10 * z6495 ≤ 310) (h4 : 0 ≤ z6495) (h5 : 0 ≤ f_nd ∧ f_nd ≤ 400) (h6 : 0 ≤ f_ne ∧ f_ne ≤ 400) (h7 : 0 ≤ z6495 ∧ z6495 ≤ 31) (h8 : 0 ≤ z8318 ∧ z8318 ≤ 9) (h9 : 1 ≤ z8331 ∧ z8331 ≤ 10) : (11 - (z8318 + 1)) < N := by omega
theorem vc_X12_least_W_18 {f_nd f_ne z6495 z8318 z8724 : Int} (h0 : z6495 < z8724) (h1 : f_nd + 10 * z6495 ≤ 310) (h2 : 0 ≤ z6495) (h3 : f_ne + 10 * z6495 ≤ 310 + z8318) (h4 : 0 ≤ f_nd ∧ f_nd ≤ 400) (h5 : 0 ≤ f_ne ∧ f_ne ≤ 400) (h6 : 0 ≤ z6495 ∧ z6495 ≤ 31) (h7 : 0 ≤ z8318 ∧ z8318 ≤ 9) (h8 : 0 ≤ z8724 ∧ z8724 ≤ 32) : 1 ≤ z8724 ∧ z8724 ≤ 32 := by omega
theorem vc_X12_least_W_20 {z9473 : Int} (h0 : (23 - z9473) < ((0 : Nat) : Int)) (h1 : 0 ≤ z9473 ∧ z9473 ≤ 22) : False := by omega
theorem vc_X12_least_W_21 {z9473 : Int} (h0 : 22 ≤ z9473) (h1 : 0 ≤ z9473 ∧ z9473 ≤ 22) : 22 ≤ z9473 ∧ z9473 ≤ 22 := by omega
theorem vc_X12_least_W_24 {f_nd f_ne z6495 z8318 z8331 z8724 : Int} (h0 : f_ne + 10 * z6495 ≤ 310 + z8318) (h1 : f_nd + 10 * z6495 ≤ 310) (h2 : 0 ≤ z6495) (h3 : z8318 < z8331) (h4 : z6495 < z8724) (h5 : 0 ≤ f_nd ∧ f_nd ≤ 400) (h6 : 0 ≤ f_ne ∧ f_ne ≤ 400) (h7 : 0 ≤ z6495 ∧ z6495 ≤ 31) (h8 : 0 ≤ z8318 ∧ z8318 ≤ 9) (h9 : 1 ≤ z8331 ∧ z8331 ≤ 10) (h10 : 1 ≤ z8724 ∧ z8724 ≤ 32) : 0 ≤ f_ne ∧ f_ne < 400 := by omega
theorem vc_X12_least_W_25 {f_nd f_ne z6495 z8318 z8331 z8724 : Int} (h0 : f_ne + 10 * z6495 ≤ 310 + z8318) (h1 : f_nd + 10 * z6495 ≤ 310) (h2 : 0 ≤ z6495) (h3 : z8318 < z8331) (h4 : z6495 < z8724) (h5 : 0 ≤ f_nd ∧ f_nd ≤ 400) (h6 : 0 ≤ f_ne ∧ f_ne ≤ 400) (h7 : 0 ≤ z6495 ∧ z6495 ≤ 31) (h8 : 0 ≤ z8318 ∧ z8318 ≤ 9) (h9 : 1 ≤ z8331 ∧ z8331 ≤ 10) (h10 : 1 ≤ z8724 ∧ z8724 ≤ 32) : 0 ≤ (f_ne + 1) ∧ (f_ne + 1) ≤ 400 := by omega
theorem vc_X12_least_W_26 {f_nd f_ne z6495 z8318 z8331 z8724 : Int} (h0 : f_nd + 10 * z6495 ≤ 310) (h1 : 0 ≤ z6495) (h2 : f_ne + 10 * z6495 ≤ 310 + z8318) (h3 : z8318 < z8331) (h4 : z6495 < z8724) (h5 : 0 ≤ f_nd ∧ f_nd ≤ 400) (h6 : 0 ≤ f_ne ∧ f_ne ≤ 400) (h7 : 0 ≤ z6495 ∧ z6495 ≤ 31) (h8 : 0 ≤ z8318 ∧ z8318 ≤ 9) (h9 : 1 ≤ z8331 ∧ z8331 ≤ 10) (h10 : 1 ≤ z8724 ∧ z8724 ≤ 32) : (f_ne + 1) + 10 * z6495 ≤ 310 + (z8318 + 1) := by omega
theorem vc_X12_least_W_27 {N f_nd f_ne z6495 z8318 z8331 z8724 : Int} (h0 : (11 - z8318) < N + 1) (h1 : f_ne + 10 * z6495 ≤ 310 + z8318) (h2 : z8318 < z8331) (h3 : f_nd + 10 * z6495 ≤ 310) (h4 : 0 ≤ z6495) (h5 : z6495 < z8724) (h6 : 0 ≤ f_nd ∧ f_nd ≤ 400) (h7 : 0 ≤ f_ne ∧ f_ne ≤ 400) (h8 : 0 ≤ z6495 ∧ z6495 ≤ 31) (h9 : 0 ≤ z8318 ∧ z8318 ≤ 9) (h10 : 1 ≤ z8331 ∧ z8331 ≤ 10) (h11 : 1 ≤ z8724 ∧ z8724 ≤ 32) : (11 - (z8318 + 1)) < N := by omega
theorem vc_X12_least_W_28 {z9722 : Int} (h0 : z9722 < 22) (h1 : 0 ≤ z9722 ∧ z9722 ≤ 22) : 0 ≤ z9722 ∧ z9722 ≤ 21 := by omega
theorem vc_X12_least_W_29 {f_nd f_ne z6495 z8318 z8331 z8724 z9722 : Int} (h0 : f_ne + 10 * z6495 ≤ 310 + z8318) (h1 : z9722 < 22) (h2 : f_nd + 10 * z6495 ≤ 310) (h3 : 0 ≤ z6495) (h4 : z8318 < z8331) (h5 : z6495 < z8724) (h6 : 0 ≤ f_nd ∧ f_nd ≤ 400) (h7 : 0 ≤ f_ne ∧ f_ne ≤ 400) (h8 : 0 ≤ z6495 ∧ z6495 ≤ 31) (h9 : 0 ≤ z8318 ∧ z8318 ≤ 9) (h10 : 1 ≤ z8331 ∧ z8331 ≤ 10) (h11 : 1 ≤ z8724 ∧ z8724 ≤ 32) (h12 : 0 ≤ z9722 ∧ z9722 ≤ 21) : 0 ≤ ((22 * f_ne) + z9722) ∧ ((22 * f_ne) + z9722) < 8800 := by omega
theorem vc_X12_least_W_30 {N z9722 : Int} (h0 : (23 - z9722) < N + 1) (h1 : z9722 < 22) (h2 : 0 ≤ z9722 ∧ z9722 ≤ 21) : (23 - (z9722 + 1)) < N := by omega
theorem vc_X12_least_W_31 {z9474 z9760 z9763 : Int} (h0 : z9763 < z9760) (h1 : (z9763 - (z9474 + 1)) % 4294967296 = 0) (h2 : (-2147483648) ≤ z9474 ∧ z9474 ≤ 2147483647) (h3 : (-2147483648) ≤ z9760 ∧ z9760 ≤ 2147483647) (h4 : (-2147483648) ≤ z9763 ∧ z9763 ≤ 2147483647) : (-2147483647) ≤ z9760 ∧ z9760 ≤ 2147483647 := by omega
theorem vc_X12_least_W_32 {z9474 z9760 z9763 : Int} (h0 : z9763 < z9760) (h1 : (z9763 - (z9474 + 1)) % 4294967296 = 0) (h2 : (-2147483648) ≤ z9474 ∧ z9474 ≤ 2147483647) (h3 : (-2147483647) ≤ z9760 ∧ z9760 ≤ 2147483647) (h4 : (-2147483648) ≤ z9763 ∧ z9763 ≤ 2147483647) : (-2147483648) ≤ z9763 ∧ z9763 ≤ 2147483646 := by omega
theorem vc_X12_least_W_33  : (23 - 0) < ((24 : Nat) : Int) := by omega
theorem vc_X12_least_W_38 {z9474 z9788 z9793 z9794 : Int} (h0 : z9794 < z9474) (h1 : (z9794 - (z9788 + z9793)) % 4294967296 = 0) (h2 : ¬ z9474 = (-99999999)) (h3 : (-2147483648) ≤ z9474 ∧ z9474 ≤ 2147483647) (h4 : (-2147483648) ≤ z9788 ∧ z9788 ≤ 2147483647) (h5 : (-2147483648) ≤ z9793 ∧ z9793 ≤ 2147483647) (h6 : (-2147483648) ≤ z9794 ∧ z9794 ≤ 2147483647) : (-2147483648) ≤ z9794 ∧ z9794 ≤ 2147483646 := by omega
theorem vc_X12_least_W_39 {z9474 z9788 z9793 z9794 : Int} (h0 : z9794 < z9474) (h1 : (z9794 - (z9788 + z9793)) % 4294967296 = 0) (h2 : ¬ z9474 = (-99999999)) (h3 : (-2147483648) ≤ z9474 ∧ z9474 ≤ 2147483647) (h4 : (-2147483648) ≤ z9788 ∧ z9788 ≤ 2147483647) (h5 : (-2147483648) ≤ z9793 ∧ z9793 ≤ 2147483647) (h6 : (-2147483648) ≤ z9794 ∧ z9794 ≤ 2147483646) : (-2147483647) ≤ z9474 ∧ z9474 ≤ 2147483647 := by omega
theorem vc_X12_least_W_41 {f_nd f_ne z6495 z8318 z8331 z8724 : Int} (h0 : f_nd + 10 * z6495 ≤ 310) (h1 : 0 ≤ z6495) (h2 : f_ne + 10 * z6495 ≤ 310 + z8318) (h3 : z8318 < z8331) (h4 : z6495 < z8724) (h5 : 0 ≤ f_nd ∧ f_nd ≤ 400) (h6 : 0 ≤ f_ne ∧ f_ne ≤ 400) (h7 : 0 ≤ z6495 ∧ z6495 ≤ 31) (h8 : 0 ≤ z8318 ∧ z8318 ≤ 9) (h9 : 1 ≤ z8331 ∧ z8331 ≤ 10) (h10 : 1 ≤ z8724 ∧ z8724 ≤ 32) : f_ne + 10 * z6495 ≤ 310 + (z8318 + 1) := by omega
theorem vc_X12_least_W_42 {f_nd f_ne z6495 z8318 z8724 : Int} (h0 : z8724 ≤ z6495) (h1 : f_nd + 10 * z6495 ≤ 310) (h2 : 0 ≤ z6495) (h3 : f_ne + 10 * z6495 ≤ 310 + z8318) (h4 : 0 ≤ f_nd ∧ f_nd ≤ 400) (h5 : 0 ≤ f_ne ∧ f_ne ≤ 400) (h6 : 0 ≤ z6495 ∧ z6495 ≤ 31) (h7 : 0 ≤ z8318 ∧ z8318 ≤ 9) (h8 : 0 ≤ z8724 ∧ z8724 ≤ 32) : 0 ≤ z8724 ∧ z8724 ≤ 31 := by omega
theorem vc_X12_least_W_43 {f_nd f_ne z6495 z8318 z8331 z8724 : Int} (h0 : f_nd + 10 * z6495 ≤ 310) (h1 : 0 ≤ z6495) (h2 : f_ne + 10 * z6495 ≤ 310 + z8318) (h3 : z8318 < z8331) (h4 : z8724 ≤ z6495) (h5 : 0 ≤ f_nd ∧ f_nd ≤ 400) (h6 : 0 ≤ f_ne ∧ f_ne ≤ 400) (h7 : 0 ≤ z6495 ∧ z6495 ≤ 31) (h8 : 0 ≤ z8318 ∧ z8318 ≤ 9) (h9 : 1 ≤ z8331 ∧ z8331 ≤ 10) (h10 : 0 ≤ z8724 ∧ z8724 ≤ 31) : f_ne + 10 * z6495 ≤ 310 + (z8318 + 1) := by omega
theorem vc_X12_least_W_44 {N f_nd f_ne z6495 z8318 z8331 z8724 : Int} (h0 : (11 - z8318) < N + 1) (h1 : f_ne + 10 * z6495 ≤ 310 + z8318) (h2 : z8318 < z8331) (h3 : f_nd + 10 * z6495 ≤ 310) (h4 : 0 ≤ z6495) (h5 : z8724 ≤ z6495) (h6 : 0 ≤ f_nd ∧ f_nd ≤ 400) (h7 : 0 ≤ f_ne ∧ f_ne ≤ 400) (h8 : 0 ≤ z6495 ∧ z6495 ≤ 31) (h9 : 0 ≤ z8318 ∧ z8318 ≤ 9) (h10 : 1 ≤ z8331 ∧ z8331 ≤ 10) (h11 : 0 ≤ z8724 ∧ z8724 ≤ 31) : (11 - (z8318 + 1)) < N := by omega
theorem vc_X12_least_W_45 {f_nd z6495 : Int} (h0 : f_nd + 10 * z6495 ≤ 310) (h1 : 0 ≤ z6495) (h2 : 0 ≤ f_nd ∧ f_nd ≤ 400) (h3 : 0 ≤ z6495 ∧ z6495 ≤ 31) : f_nd + 10 * z6495 ≤ 310 + (0 : Int) := by omega
theorem vc_X12_least_W_47  : ((0 : Int) : Int) + (10 : Int) * ((31 : Int) : Int) ≤ (310 : Int) := by omega
theorem vc_X12_least_W_48  : (31 - (-2)) < ((34 : Nat) : Int) := by omega
set_option maxRecDepth 4000 in
set_option maxHeartbeats 4000000 in
theorem c_X12_least_W {l : Launch} {D : va_G} {c : Nat → ClassId} {H0 : Heap} {sa : Nat × Nat × (Nat → Int32)} {w : mW} {μ : mM} (hw : mWF w) (hT : mT w μ) {p1 : Int} (hp1 : (-2147483648) ≤ p1 ∧ p1 ≤ 2147483647) {Q : Int → mM → Prop} (hQ : WP_X12_least_W w μ p1 Q) : sC (gG l D c H0 sa) mX12_least 5 0 0 [.ref 106, iv p1] (mk w μ) (qI w [106116, 180999, 181999, 182999] μ (fun z μ1 => ((-2147483648) ≤ z ∧ z ≤ 2147483647) ∧ Q z μ1 ∧ True)) := by
  refine sC.of rfl (by decide) (le_t rfl) ?_
  refine mr_lvE (lv' := [(0, .ref 106), (1, iv p1)]) rfl ?_
  refine sv_aload_n (pc := 0) dX12_least_0 rfl rfl ?_
  refine mr_iload_n (pc := 1) (z := p1) dX12_least_1 rfl rfl ?_
  obtain ⟨z1, q2⟩ : ∃ z, μ 106 5 = z := ⟨_, rfl⟩
  have h3 : (0 ≤ z1 ∧ z1 ≤ 10) := by rw [← q2]; exact hT 106 106 (A_106 hw) 5
  refine mr_cVP (pc := 2) (c_X12_isDomain_W hw hT hp1 q2 (hQ z1 q2 h3)) (gOk _ _ _ _ _) dX12_least_2 (tX12_isDomain _ _ _ _ _) ⟨wV_X12_isDomain, wL_X12_isDomain⟩ wM_X12_49 (gCX12 _ _ _ _ _) rfl (A_106 hw) rfl ⟨le_t rfl, le_t rfl⟩ ⟨le_t rfl, le_t rfl⟩ rfl (le_t rfl) fun z8 h7 => ?_
  refine mr_if_ne (pc := 5) (tgt := 10) dX12_least_5 (by decide) (r32 h7.1 rfl) (fun h9 => ?_) (fun h9 => ?_)
  · have h10 : 1 ≤ z8 ∧ z8 ≤ 1 := (vc_X12_write_12 h9 h7.2.1 h7.2.2.1 hp1 h3 h7.1)
    have h11 : 0 ≤ p1 ∧ p1 < z1 := (h7.2.1 (vc_X12_write_13 h7.2.1 h7.2.2.1 h9 hp1 h3 h10))
    have h12 : 0 ≤ p1 ∧ p1 ≤ 9 := (vc_X12_write_14 h11 h7.2.1 h7.2.2.1 hp1 h3 h10)
    have h13 : 1 ≤ z1 ∧ z1 ≤ 10 := (vc_X12_write_15 h11 h7.2.1 h7.2.2.1 h12 h3 h10)
    refine sv_aload_n (pc := 10) dX12_least_10 rfl rfl ?_
    refine mr_iconst (pc := 11) (z := 0) dX12_least_11 ?_
    refine pf_X12_116 (pc := 12) dX12_least_12 wF_X12_698 (A_106 hw) hT (rW (c := 0) (d := 400) (rR (x := 0)) rfl) fun μ14 u15 T16 => ?_
    refine mr_bipush (pc := 15) (z := 31) dX12_least_15 (by decide) ?_
    refine mr_istore_n (pc := 17) (lv' := [(2, iv 31), (0, .ref 106), (1, iv p1)]) dX12_least_17 rfl (by decide) rfl ?_
    have L6497 : ∀ (nL6497 : Nat) (z6495 : Int) (μ6496 : mM) (f_nd : Int), mT w μ6496 → mF [106116, 180999, 181999, 182999] w μ14 μ6496 → μ6496 106 (116) = f_nd → ((-1) ≤ z6495 ∧ z6495 ≤ 31) → (f_nd + 10 * z6495 ≤ 310) → (z6495 - (-2)) < (nL6497 : Int) → loopF (WL_X12_least_W_1 w p1 Q μ14) False nL6497 (z6495, μ6496) → sV (gG l D c H0 sa) mX12_least (sRm 5 0 0) (sZ (gG l D c H0 sa) 0 0 (qI w [106116, 180999, 181999, 182999] μ (fun z μ1 => ((-2147483648) ≤ z ∧ z ≤ 2147483647) ∧ Q z μ1 ∧ True))) 18 [(0, .ref 106), (1, iv p1), (2, iv z6495)] [] (mk w μ6496) 0 0 := by
      intro nL6497
      induction nL6497 with
      | zero => intro z6495 μ6496 f_nd T6499 F6500 q6505 h6498 h6502 h6503 W6504; exact ((vc_X12_least_W_5 h6503 h6502 h6498)).elim
      | succ nL6497 ih6506 =>
        intro z6495 μ6496 f_nd T6499 F6500 q6505 h6498 h6502 h6503 W6504
        have h6507 : (0 ≤ f_nd ∧ f_nd ≤ 400) := by rw [← q6505]; exact T6499 106 106 (A_106 hw) (116)
        refine mr_iload_n (pc := 18) (z := z6495) dX12_least_18 rfl rfl ?_
        refine mr_if_lt (pc := 19) (tgt := 287) dX12_least_19 (by decide) (r32 h6498 rfl) (fun h6910 => ?_) (fun h6910 => ?_)
        · have h6911 : (-1) ≤ z6495 ∧ z6495 ≤ (-1) := (vc_X12_least_W_6 h6910 h6502 h6507 h6498)
          refine sv_aload_n (pc := 287) dX12_least_287 rfl rfl ?_
          refine mr_iload_n (pc := 288) (z := p1) dX12_least_288 rfl rfl ?_
          refine mr_iconst (pc := 289) (z := 0) dX12_least_289 ?_
          refine mr_iconst (pc := 290) (z := 0) dX12_least_290 ?_
          refine mr_bipush (pc := 291) (z := 21) dX12_least_291 (by decide) ?_
          refine mr_cVP (pc := 293) (c_X12_costOf_W hw T6499 h12 (rW (c := (-2147483648)) (d := 2147483647) (rR (x := 0)) rfl) (rW (c := (-2147483648)) (d := 2147483647) (rR (x := 0)) rfl) (rW (c := 0) (d := 21) (rR (x := 21)) rfl) (((W6504 z6495 μ6496 rfl h6498 T6499 F6500) f_nd q6505 h6507).1 h6910)) (gOk _ _ _ _ _) dX12_least_293 (tX12_costOf _ _ _ _ _) ⟨wV_X12_costOf, wL_X12_costOf⟩ wM_X12_707 (gCX12 _ _ _ _ _) rfl (A_106 hw) rfl ⟨le_t rfl, le_t rfl⟩ ⟨le_t rfl, le_t rfl⟩ rfl (le_t rfl) fun z6916 h6915 => ?_
          exact mr_iret dX12_least_296 rfl (le_t rfl) (le_t rfl) T6499 (mF.call (mF.up mF.refl (A_106 hw) u15 rfl) F6500 rfl) ⟨h6915.1, (h6915.2.1 h6915.1), trivial⟩
        have h6917 : 0 ≤ z6495 ∧ z6495 ≤ 31 := (vc_X12_least_W_7 h6910 h6502 h6507 h6498)
        refine mr_iconst (pc := 22) (z := 0) dX12_least_22 ?_
        refine mr_istore_n (pc := 23) (lv' := [(3, iv 0), (0, .ref 106), (1, iv p1), (2, iv z6495)]) dX12_least_23 rfl (by decide) rfl ?_
        have L8320 : ∀ (nL8320 : Nat) (z8318 : Int) (μ8319 : mM) (f_ne : Int), mT w μ8319 → mF [106116, 180999, 181999, 182999] w μ6496 μ8319 → μ8319 106 (116) = f_ne → (0 ≤ z8318 ∧ z8318 ≤ 10) → (f_ne + 10 * z6495 ≤ 310 + z8318) → (11 - z8318) < (nL8320 : Int) → loopF (WL_X12_least_W_2 w p1 (loopF (WL_X12_least_W_1 w p1 Q μ14) False nL6497) z6495 μ6496) False nL8320 (z8318, μ8319) → sV (gG l D c H0 sa) mX12_least (sRm 5 0 0) (sZ (gG l D c H0 sa) 0 0 (qI w [106116, 180999, 181999, 182999] μ (fun z μ1 => ((-2147483648) ≤ z ∧ z ≤ 2147483647) ∧ Q z μ1 ∧ True))) 24 [(0, .ref 106), (1, iv p1), (2, iv z6495), (3, iv z8318)] [] (mk w μ8319) 0 0 := by
          intro nL8320
          induction nL8320 with
          | zero => intro z8318 μ8319 f_ne T8322 F8323 q8328 h8321 h8325 h8326 W8327; exact ((vc_X12_least_W_8 h8326 h8325 h6502 h6910 h6507 h6917 h8321)).elim
          | succ nL8320 ih8329 =>
            intro z8318 μ8319 f_ne T8322 F8323 q8328 h8321 h8325 h8326 W8327
            have h8330 : (0 ≤ f_ne ∧ f_ne ≤ 400) := by rw [← q8328]; exact T8322 106 106 (A_106 hw) (116)
            refine mr_iload_n (pc := 24) (z := z8318) dX12_least_24 rfl rfl ?_
            refine sv_aload_n (pc := 25) dX12_least_25 rfl rfl ?_
            refine gf_X12_2 (pc := 26) dX12_least_26 wF_X12_15 (A_106 hw) T8322 fun z8331 q8332 h8333 => ?_
            refine mr_icmp_ge (pc := 29) (tgt := 281) dX12_least_29 (by decide) (r32 h8321 rfl) (r32 h8333 rfl) (fun h8527 => ?_) (fun h8527 => ?_)
            · refine mr_iinc (pc := 281) (lv' := [(2, iv (z6495 + (-1))), (0, .ref 106), (1, iv p1), (3, iv z8318)]) dX12_least_281 rfl (by decide) rfl ?_
              refine sv_goto (pc := 284) (tgt := 18) dX12_least_284 (by decide) ?_
              refine mr_lvS (lv' := [(0, .ref 106), (1, iv p1), (2, iv (z6495 + (-1)))]) (List.forall_mem_cons.mpr ⟨rfl, List.forall_mem_cons.mpr ⟨rfl, List.forall_mem_cons.mpr ⟨rfl, fun _ h => absurd h List.not_mem_nil⟩⟩⟩) ?_
              exact ih6506 (z6495 + (-1)) μ8319 f_ne T8322 (mF.call (mF.call mF.refl F6500 rfl) F8323 rfl) q8328 (rW (c := (-1)) (d := 31) (rAdd (e := (-1)) (f := 30) h6917 (rR (x := (-1))) rfl) rfl) (vc_X12_least_W_9 h6502 h6910 h8325 h8527 h6507 h8330 h6917 h8321 h8333) (vc_X12_least_W_10 (nS h6503) h6502 h6910 h8325 h8527 h6507 h8330 h6917 h8321 h8333) ((((W8327 z8318 μ8319 rfl h8321 T8322 F8323) f_ne q8328 h8330) z8331 q8332 h8333).1 h8527)
            have h8528 : 0 ≤ z8318 ∧ z8318 ≤ 9 := (vc_X12_least_W_11 h8527 h8325 h8330 h6917 h8321 h8333)
            have h8529 : 1 ≤ z8331 ∧ z8331 ≤ 10 := (vc_X12_least_W_12 h8527 h8325 h8330 h6917 h8528 h8333)
            refine sv_aload_n (pc := 32) dX12_least_32 rfl rfl ?_
            refine gf_X12_81 (pc := 33) dX12_least_33 wF_X12_445 (A_106 hw) T8322 ?_
            refine mr_bipush (pc := 36) (z := 10) dX12_least_36 (by decide) ?_
            refine mr_iload_n (pc := 38) (z := p1) dX12_least_38 rfl rfl ?_
            refine mr_imul (pc := 39) (x := 10) (y := p1) dX12_least_39 ?_
            refine mr_iload_n (pc := 40) (z := z8318) dX12_least_40 rfl rfl ?_
            refine mr_iadd (pc := 41) (x := (10 * p1)) (y := z8318) dX12_least_41 ?_
            refine la_161 (pc := 42) dX12_least_42 (A_161 hw) T8322 (rIx (n := 100) (rAdd (e := 0) (f := 99) (rMulL (n := 10) (e := 0) (f := 90) h12 rfl) h8528 rfl) rfl) fun z8530 q8531 h8532 => ?_
            have h8533 : (-99999999) ≤ z8530 ∧ z8530 ≤ 19 := (vc_X12_sends_3 h8532)
            refine mr_ldc (pc := 43) (z := (-99999999)) dX12_least_43 wG_X12_29 (by decide) ?_
            refine mr_icmp_eq (pc := 45) (tgt := 275) dX12_least_45 (by decide) (r32 h8533 rfl) (r32 (rR (x := (-99999999))) rfl) (fun h8721 => ?_) (fun h8721 => ?_)
            · have h8722 : (-99999999) ≤ z8530 ∧ z8530 ≤ (-99999999) := (vc_X12_sends_10 h8721 h8533 h8532)
              refine mr_iinc (pc := 275) (lv' := [(3, iv (z8318 + 1)), (0, .ref 106), (1, iv p1), (2, iv z6495)]) dX12_least_275 rfl (by decide) rfl ?_
              refine sv_goto (pc := 278) (tgt := 24) dX12_least_278 (by decide) ?_
              refine mr_lvS (lv' := [(0, .ref 106), (1, iv p1), (2, iv z6495), (3, iv (z8318 + 1))]) (List.forall_mem_cons.mpr ⟨rfl, List.forall_mem_cons.mpr ⟨rfl, List.forall_mem_cons.mpr ⟨rfl, List.forall_mem_cons.mpr ⟨rfl, fun _ h => absurd h List.not_mem_nil⟩⟩⟩⟩) ?_
              exact ih8329 (z8318 + 1) μ8319 f_ne T8322 (mF.call mF.refl F8323 rfl) q8328 (rW (c := 0) (d := 10) (rAdd (e := 1) (f := 10) h8528 (rR (x := 1)) rfl) rfl) (vc_X12_least_W_15 h6502 h6910 h8325 h8527 h6507 h8330 h6917 h8528 h8529) (vc_X12_least_W_16 (nS h8326) h8325 h8527 h6502 h6910 h6507 h8330 h6917 h8528 h8529) ((((((W8327 z8318 μ8319 rfl h8321 T8322 F8323) f_ne q8328 h8330) z8331 q8332 h8333).2 h8527) z8530 q8531 h8532).1 h8721)
            have h8723 : (-4) ≤ z8530 ∧ z8530 ≤ 19 := (vc_X12_sends_13 h8721 h8533 h8532)
            refine sv_aload_n (pc := 48) dX12_least_48 rfl rfl ?_
            refine gf_X12_4 (pc := 49) dX12_least_49 wF_X12_26 (A_106 hw) T8322 ?_
            refine mr_iload_n (pc := 52) (z := z8318) dX12_least_52 rfl rfl ?_
            refine la_109 (pc := 53) dX12_least_53 (A_109 hw) T8322 (rIx (n := 10) h8528 rfl) fun z8724 q8725 h8726 => ?_
            refine mr_iload_n (pc := 54) (z := z6495) dX12_least_54 rfl rfl ?_
            refine mr_icmp_gt (pc := 55) (tgt := 61) dX12_least_55 (by decide) (r32 h8726 rfl) (r32 h6917 rfl) (fun h8909 => ?_) (fun h8909 => ?_)
            · have h8910 : 1 ≤ z8724 ∧ z8724 ≤ 32 := (vc_X12_least_W_18 h8909 h6502 h6910 h8325 h6507 h8330 h6917 h8528 h8726)
              refine sv_aload_n (pc := 61) dX12_least_61 rfl rfl ?_
              refine gf_X12_3 (pc := 62) dX12_least_62 wF_X12_22 (A_106 hw) T8322 ?_
              refine mr_iload_n (pc := 65) (z := z8318) dX12_least_65 rfl rfl ?_
              refine la_108 (pc := 66) dX12_least_66 (A_108 hw) T8322 (rIx (n := 10) h8528 rfl) fun z8911 q8912 h8913 => ?_
              refine mr_iload_n (pc := 67) (z := z6495) dX12_least_67 rfl rfl ?_
              have W8919 := (((((((((W8327 z8318 μ8319 rfl h8321 T8322 F8323) f_ne q8328 h8330) z8331 q8332 h8333).2 h8527) z8530 q8531 h8532).2 h8721) z8724 q8725 h8726).1 h8909) z8911 q8912 h8913)
              refine mr_cSP (pc := 68) (c_X12_mask_W hw T8322 (rW (c := (-2147483648)) (d := 2147483647) h6917 rfl) W8919) (gOk _ _ _ _ _) dX12_least_68 (tX12_mask _ _ _ _ _) wS_X12_mask wM_X12_11 ⟨le_t rfl, le_t rfl⟩ ⟨le_t rfl, le_t rfl⟩ rfl (le_t rfl) fun z8918 h8917 => ?_
              refine mr_iand (pc := 71) (x := z8911) (y := z8918) dX12_least_71 ?_
              refine mr_gen (P := fun z => (-2147483648) ≤ z ∧ z ≤ 2147483647) (r32i _) fun z8920 q8921 h8922 => ?_
              refine mr_istore (pc := 72) (lv' := [(4, iv z8920), (0, .ref 106), (1, iv p1), (2, iv z6495), (3, iv z8318)]) dX12_least_72 (by decide) rfl ?_
              refine sv_aload_n (pc := 74) dX12_least_74 rfl rfl ?_
              refine mr_iload (pc := 75) (z := z8920) dX12_least_75 rfl ?_
              refine mr_iload_n (pc := 77) (z := z6495) dX12_least_77 rfl rfl ?_
              refine mr_cVP (pc := 78) (c_X12_nodeOf_W hw T8322 h8922 (rW (c := (-2147483648)) (d := 2147483647) h6917 rfl) ((h8917.2.1 h8917.1) z8920 q8921)) (gOk _ _ _ _ _) dX12_least_78 (tX12_nodeOf _ _ _ _ _) ⟨wV_X12_nodeOf, wL_X12_nodeOf⟩ wM_X12_701 (gCX12 _ _ _ _ _) rfl (A_106 hw) rfl ⟨le_t rfl, le_t rfl⟩ ⟨le_t rfl, le_t rfl⟩ rfl (le_t rfl) fun z8927 h8926 => ?_
              refine mr_ldc (pc := 81) (z := (-99999999)) dX12_least_81 wG_X12_29 (by decide) ?_
              refine mr_icmp_eq (pc := 83) (tgt := 89) dX12_least_83 (by decide) (r32 h8926.1 rfl) (r32 (rR (x := (-99999999))) rfl) (fun h9092 => ?_) (fun h9092 => ?_)
              · have h9093 : (-99999999) ≤ z8927 ∧ z8927 ≤ (-99999999) := (vc_X12_costOf_W_1 h9092 h8926.2.1 h8926.1)
                refine mr_iload (pc := 89) (z := z8920) dX12_least_89 rfl ?_
                refine mr_iconst (pc := 91) (z := 1) dX12_least_91 ?_
                refine mr_bipush (pc := 92) (z := 31) dX12_least_92 (by decide) ?_
                refine mr_iload_n (pc := 94) (z := z6495) dX12_least_94 rfl rfl ?_
                refine mr_isub (pc := 95) (x := 31) (y := z6495) dX12_least_95 ?_
                refine mr_ishl (pc := 96) (x := 1) (y := (31 - z6495)) dX12_least_96 ?_
                refine mr_gen (P := fun z => (-2147483648) ≤ z ∧ z ≤ 2147483647) (r32i _) fun z9094 q9095 h9096 => ?_
                refine mr_ior (pc := 97) (x := z8920) (y := z9094) dX12_least_97 ?_
                refine mr_gen (P := fun z => (-2147483648) ≤ z ∧ z ≤ 2147483647) (r32i _) fun z9097 q9098 h9099 => ?_
                refine mr_istore (pc := 98) (lv' := [(5, iv z9097), (4, iv z8920), (0, .ref 106), (1, iv p1), (2, iv z6495), (3, iv z8318)]) dX12_least_98 (by decide) rfl ?_
                refine mr_ldc (pc := 100) (z := (-99999999)) dX12_least_100 wG_X12_29 (by decide) ?_
                refine mr_istore (pc := 102) (lv' := [(6, iv (-99999999)), (5, iv z9097), (4, iv z8920), (0, .ref 106), (1, iv p1), (2, iv z6495), (3, iv z8318)]) dX12_least_102 (by decide) rfl ?_
                refine mr_iconst (pc := 104) (z := 0) dX12_least_104 ?_
                refine mr_istore (pc := 105) (lv' := [(7, iv 0), (6, iv (-99999999)), (5, iv z9097), (4, iv z8920), (0, .ref 106), (1, iv p1), (2, iv z6495), (3, iv z8318)]) dX12_least_105 (by decide) rfl ?_
                have L9476 : ∀ (nL9476 : Nat) (z9474 z9473 : Int) (μ9475 : mM), mT w μ9475 → mF [182999] w μ8319 μ9475 → ((-2147483648) ≤ z9474 ∧ z9474 ≤ 2147483647) → (0 ≤ z9473 ∧ z9473 ≤ 22) → (23 - z9473) < (nL9476 : Int) → loopF (WL_X12_least_W_3 w p1 z6495 (loopF (WL_X12_least_W_2 w p1 (loopF (WL_X12_least_W_1 w p1 Q μ14) False nL6497) z6495 μ6496) False nL8320) z8318 μ8319 f_ne z8920 z9097) False nL9476 (z9474, z9473, μ9475) → sV (gG l D c H0 sa) mX12_least (sRm 5 0 0) (sZ (gG l D c H0 sa) 0 0 (qI w [106116, 180999, 181999, 182999] μ (fun z μ1 => ((-2147483648) ≤ z ∧ z ≤ 2147483647) ∧ Q z μ1 ∧ True))) 107 [(0, .ref 106), (1, iv p1), (2, iv z6495), (3, iv z8318), (4, iv z8920), (5, iv z9097), (6, iv z9474), (7, iv z9473)] [] (mk w μ9475) 0 0 := by
                  intro nL9476
                  induction nL9476 with
                  | zero => intro z9474 z9473 μ9475 T9479 F9480 h9477 h9478 h9482 W9483; exact ((vc_X12_least_W_20 h9482 h9478)).elim
                  | succ nL9476 ih9484 =>
                    intro z9474 z9473 μ9475 T9479 F9480 h9477 h9478 h9482 W9483
                    refine mr_iload (pc := 107) (z := z9473) dX12_least_107 rfl ?_
                    refine mr_bipush (pc := 109) (z := 22) dX12_least_109 (by decide) ?_
                    refine mr_icmp_ge (pc := 111) (tgt := 187) dX12_least_111 (by decide) (r32 h9478 rfl) (r32 (rR (x := 22)) rfl) (fun h9506 => ?_) (fun h9506 => ?_)
                    · have h9507 : 22 ≤ z9473 ∧ z9473 ≤ 22 := (vc_X12_least_W_21 h9506 h9478)
                      refine mr_iconst (pc := 187) (z := 0) dX12_least_187 ?_
                      refine mr_istore (pc := 188) (lv' := [(7, iv 0), (0, .ref 106), (1, iv p1), (2, iv z6495), (3, iv z8318), (4, iv z8920), (5, iv z9097), (6, iv z9474)]) dX12_least_188 (by decide) rfl ?_
                      have L9724 : ∀ (nL9724 : Nat) (z9722 : Int) (μ9723 : mM), mT w μ9723 → mF [182999] w μ9475 μ9723 → (0 ≤ z9722 ∧ z9722 ≤ 22) → (23 - z9722) < (nL9724 : Int) → loopF (WL_X12_least_W_4 w z6495 (loopF (WL_X12_least_W_2 w p1 (loopF (WL_X12_least_W_1 w p1 Q μ14) False nL6497) z6495 μ6496) False nL8320) z8318 f_ne z8920 z9474 μ9475) False nL9724 (z9722, μ9723) → sV (gG l D c H0 sa) mX12_least (sRm 5 0 0) (sZ (gG l D c H0 sa) 0 0 (qI w [106116, 180999, 181999, 182999] μ (fun z μ1 => ((-2147483648) ≤ z ∧ z ≤ 2147483647) ∧ Q z μ1 ∧ True))) 190 [(0, .ref 106), (1, iv p1), (2, iv z6495), (3, iv z8318), (4, iv z8920), (6, iv z9474), (7, iv z9722)] [] (mk w μ9723) 0 0 := by
                        intro nL9724
                        induction nL9724 with
                        | zero => intro z9722 μ9723 T9726 F9727 h9725 h9729 W9730; exact ((vc_X12_least_W_20 h9729 h9725)).elim
                        | succ nL9724 ih9731 =>
                          intro z9722 μ9723 T9726 F9727 h9725 h9729 W9730
                          refine mr_iload (pc := 190) (z := z9722) dX12_least_190 rfl ?_
                          refine mr_bipush (pc := 192) (z := 22) dX12_least_192 (by decide) ?_
                          refine mr_icmp_ge (pc := 194) (tgt := 244) dX12_least_194 (by decide) (r32 h9725 rfl) (r32 (rR (x := 22)) rfl) (fun h9748 => ?_) (fun h9748 => ?_)
                          · have h9749 : 22 ≤ z9722 ∧ z9722 ≤ 22 := (vc_X12_least_W_21 h9748 h9725)
                            refine sv_aload_n (pc := 244) dX12_least_244 rfl rfl ?_
                            refine gf_X12_113 (pc := 245) dX12_least_245 wF_X12_502 (A_106 hw) T9726 ?_
                            refine sv_aload_n (pc := 248) dX12_least_248 rfl rfl ?_
                            refine gk_X12_116 (pc := 249) dX12_least_249 wF_X12_698 (A_106 hw) (F9727.f (A_106 hw) rfl (F9480.f (A_106 hw) rfl q8328)) ?_
                            refine mr_iload (pc := 252) (z := z8920) dX12_least_252 rfl ?_
                            refine ss_180 (pc := 254) dX12_least_254 (A_180 hw) T9726 (vc_X12_least_W_24 h8325 h6502 h6910 h8527 h8909 h6507 h8330 h6917 h8528 h8529 h8910) h8922 fun μ9750 u9751 T9752 => ?_
                            refine sv_aload_n (pc := 255) dX12_least_255 rfl rfl ?_
                            refine gf_X12_114 (pc := 256) dX12_least_256 wF_X12_505 (A_106 hw) T9752 ?_
                            refine sv_aload_n (pc := 259) dX12_least_259 rfl rfl ?_
                            refine gk_X12_116 (pc := 260) dX12_least_260 wF_X12_698 (A_106 hw) (u9751.f (Or.inl (mAt.ne (A_180 hw) (A_106 hw) rfl)) (F9727.f (A_106 hw) rfl (F9480.f (A_106 hw) rfl q8328))) ?_
                            refine mr_iload_n (pc := 263) (z := z6495) dX12_least_263 rfl rfl ?_
                            refine ss_181 (pc := 264) dX12_least_264 (A_181 hw) T9752 (vc_X12_least_W_24 h8325 h6502 h6910 h8527 h8909 h6507 h8330 h6917 h8528 h8529 h8910) (rW (c := (-2147483648)) (d := 2147483647) h6917 rfl) fun μ9753 u9754 T9755 => ?_
                            refine sv_aload_n (pc := 265) dX12_least_265 rfl rfl ?_
                            refine sv_dup (pc := 266) dX12_least_266 rfl ?_
                            refine gk_X12_116 (pc := 267) dX12_least_267 wF_X12_698 (A_106 hw) (u9754.f (Or.inl (mAt.ne (A_181 hw) (A_106 hw) rfl)) (u9751.f (Or.inl (mAt.ne (A_180 hw) (A_106 hw) rfl)) (F9727.f (A_106 hw) rfl (F9480.f (A_106 hw) rfl q8328)))) ?_
                            refine mr_iconst (pc := 270) (z := 1) dX12_least_270 ?_
                            refine mr_iadd (pc := 271) (x := f_ne) (y := 1) dX12_least_271 ?_
                            refine pf_X12_116 (pc := 272) dX12_least_272 wF_X12_698 (A_106 hw) T9755 (vc_X12_least_W_25 h8325 h6502 h6910 h8527 h8909 h6507 h8330 h6917 h8528 h8529 h8910) fun μ9756 u9757 T9758 => ?_
                            refine mr_iinc (pc := 275) (lv' := [(3, iv (z8318 + 1)), (0, .ref 106), (1, iv p1), (2, iv z6495), (4, iv z8920), (6, iv z9474), (7, iv z9722)]) dX12_least_275 rfl (by decide) rfl ?_
                            refine sv_goto (pc := 278) (tgt := 24) dX12_least_278 (by decide) ?_
                            refine mr_lvS (lv' := [(0, .ref 106), (1, iv p1), (2, iv z6495), (3, iv (z8318 + 1))]) (List.forall_mem_cons.mpr ⟨rfl, List.forall_mem_cons.mpr ⟨rfl, List.forall_mem_cons.mpr ⟨rfl, List.forall_mem_cons.mpr ⟨rfl, fun _ h => absurd h List.not_mem_nil⟩⟩⟩⟩) ?_
                            exact ih8329 (z8318 + 1) μ9756 (f_ne + 1) T9758 (mF.up (mF.up (mF.up (mF.call (mF.call (mF.call mF.refl F8323 rfl) F9480 rfl) F9727 rfl) (A_180 hw) u9751 rfl) (A_181 hw) u9754 rfl) (A_106 hw) u9757 rfl) u9757.1 (rW (c := 0) (d := 10) (rAdd (e := 1) (f := 10) h8528 (rR (x := 1)) rfl) rfl) (vc_X12_least_W_26 h6502 h6910 h8325 h8527 h8909 h6507 h8330 h6917 h8528 h8529 h8910) (vc_X12_least_W_27 (nS h8326) h8325 h8527 h6502 h6910 h8909 h6507 h8330 h6917 h8528 h8529 h8910) (((((W9730 z9722 μ9723 rfl h9725 T9726 F9727).1 h9748) μ9750 u9751 T9752) μ9753 u9754 T9755) μ9756 u9757 T9758)
                          have h9759 : 0 ≤ z9722 ∧ z9722 ≤ 21 := (vc_X12_least_W_28 h9748 h9725)
                          refine sv_aload_n (pc := 197) dX12_least_197 rfl rfl ?_
                          refine gf_X12_115 (pc := 198) dX12_least_198 wF_X12_508 (A_106 hw) T9726 ?_
                          refine mr_bipush (pc := 201) (z := 22) dX12_least_201 (by decide) ?_
                          refine sv_aload_n (pc := 203) dX12_least_203 rfl rfl ?_
                          refine gk_X12_116 (pc := 204) dX12_least_204 wF_X12_698 (A_106 hw) (F9727.f (A_106 hw) rfl (F9480.f (A_106 hw) rfl q8328)) ?_
                          refine mr_imul (pc := 207) (x := 22) (y := f_ne) dX12_least_207 ?_
                          refine mr_iload (pc := 208) (z := z9722) dX12_least_208 rfl ?_
                          refine mr_iadd (pc := 210) (x := (22 * f_ne)) (y := z9722) dX12_least_210 ?_
                          refine la_182 (pc := 211) dX12_least_211 (A_182 hw) T9726 (vc_X12_least_W_29 h8325 h9748 h6502 h6910 h8527 h8909 h6507 h8330 h6917 h8528 h8529 h8910 h9759) fun z9760 q9761 h9762 => ?_
                          refine mr_iload (pc := 212) (z := z9474) dX12_least_212 rfl ?_
                          refine mr_iconst (pc := 214) (z := 1) dX12_least_214 ?_
                          refine mr_iadd (pc := 215) (x := z9474) (y := 1) dX12_least_215 ?_
                          refine mr_wrapF fun z9763 h9764 h9765 => ?_
                          refine mr_icmp_le (pc := 216) (tgt := 238) dX12_least_216 (by decide) h9762 h9764 (fun h9774 => ?_) (fun h9774 => ?_)
                          · refine mr_iinc (pc := 238) (lv' := [(7, iv (z9722 + 1)), (0, .ref 106), (1, iv p1), (2, iv z6495), (3, iv z8318), (4, iv z8920), (6, iv z9474)]) dX12_least_238 rfl (by decide) rfl ?_
                            refine sv_goto (pc := 241) (tgt := 190) dX12_least_241 (by decide) ?_
                            refine mr_lvS (lv' := [(0, .ref 106), (1, iv p1), (2, iv z6495), (3, iv z8318), (4, iv z8920), (6, iv z9474), (7, iv (z9722 + 1))]) (List.forall_mem_cons.mpr ⟨rfl, List.forall_mem_cons.mpr ⟨rfl, List.forall_mem_cons.mpr ⟨rfl, List.forall_mem_cons.mpr ⟨rfl, List.forall_mem_cons.mpr ⟨rfl, List.forall_mem_cons.mpr ⟨rfl, List.forall_mem_cons.mpr ⟨rfl, fun _ h => absurd h List.not_mem_nil⟩⟩⟩⟩⟩⟩⟩) ?_
                            exact ih9731 (z9722 + 1) μ9723 T9726 (mF.call mF.refl F9727 rfl) (rW (c := 0) (d := 22) (rAdd (e := 1) (f := 22) h9759 (rR (x := 1)) rfl) rfl) (vc_X12_least_W_30 (nS h9729) h9748 h9759) (((((W9730 z9722 μ9723 rfl h9725 T9726 F9727).2 h9748) z9760 q9761 h9762) z9763 h9764 h9765).1 h9774)
                          have h9775 : (-2147483647) ≤ z9760 ∧ z9760 ≤ 2147483647 := (vc_X12_least_W_31 h9774 h9765 h9477 h9762 h9764)
                          have h9776 : (-2147483648) ≤ z9763 ∧ z9763 ≤ 2147483646 := (vc_X12_least_W_32 h9774 h9765 h9477 h9775 h9764)
                          refine sv_aload_n (pc := 219) dX12_least_219 rfl rfl ?_
                          refine gf_X12_115 (pc := 220) dX12_least_220 wF_X12_508 (A_106 hw) T9726 ?_
                          refine mr_bipush (pc := 223) (z := 22) dX12_least_223 (by decide) ?_
                          refine sv_aload_n (pc := 225) dX12_least_225 rfl rfl ?_
                          refine gk_X12_116 (pc := 226) dX12_least_226 wF_X12_698 (A_106 hw) (F9727.f (A_106 hw) rfl (F9480.f (A_106 hw) rfl q8328)) ?_
                          refine mr_imul (pc := 229) (x := 22) (y := f_ne) dX12_least_229 ?_
                          refine mr_iload (pc := 230) (z := z9722) dX12_least_230 rfl ?_
                          refine mr_iadd (pc := 232) (x := (22 * f_ne)) (y := z9722) dX12_least_232 ?_
                          refine mr_iload (pc := 233) (z := z9474) dX12_least_233 rfl ?_
                          refine mr_iconst (pc := 235) (z := 1) dX12_least_235 ?_
                          refine mr_iadd (pc := 236) (x := z9474) (y := 1) dX12_least_236 ?_
                          refine mr_wrapF fun z9777 h9778 h9779 => ?_
                          refine ss_182 (pc := 237) dX12_least_237 (A_182 hw) T9726 (vc_X12_least_W_29 h8325 h9748 h6502 h6910 h8527 h8909 h6507 h8330 h6917 h8528 h8529 h8910 h9759) h9778 fun μ9780 u9781 T9782 => ?_
                          refine mr_iinc (pc := 238) (lv' := [(7, iv (z9722 + 1)), (0, .ref 106), (1, iv p1), (2, iv z6495), (3, iv z8318), (4, iv z8920), (6, iv z9474)]) dX12_least_238 rfl (by decide) rfl ?_
                          refine sv_goto (pc := 241) (tgt := 190) dX12_least_241 (by decide) ?_
                          refine mr_lvS (lv' := [(0, .ref 106), (1, iv p1), (2, iv z6495), (3, iv z8318), (4, iv z8920), (6, iv z9474), (7, iv (z9722 + 1))]) (List.forall_mem_cons.mpr ⟨rfl, List.forall_mem_cons.mpr ⟨rfl, List.forall_mem_cons.mpr ⟨rfl, List.forall_mem_cons.mpr ⟨rfl, List.forall_mem_cons.mpr ⟨rfl, List.forall_mem_cons.mpr ⟨rfl, List.forall_mem_cons.mpr ⟨rfl, fun _ h => absurd h List.not_mem_nil⟩⟩⟩⟩⟩⟩⟩) ?_
                          exact ih9731 (z9722 + 1) μ9780 T9782 (mF.up (mF.call mF.refl F9727 rfl) (A_182 hw) u9781 rfl) (rW (c := 0) (d := 22) (rAdd (e := 1) (f := 22) h9759 (rR (x := 1)) rfl) rfl) (vc_X12_least_W_30 (nS h9729) h9748 h9759) (((((((W9730 z9722 μ9723 rfl h9725 T9726 F9727).2 h9748) z9760 q9761 h9762) z9763 h9764 h9765).2 h9774) z9777 h9778 h9779) μ9780 u9781 T9782)
                      refine mr_lvS (lv' := [(0, .ref 106), (1, iv p1), (2, iv z6495), (3, iv z8318), (4, iv z8920), (6, iv z9474), (7, iv 0)]) (List.forall_mem_cons.mpr ⟨rfl, List.forall_mem_cons.mpr ⟨rfl, List.forall_mem_cons.mpr ⟨rfl, List.forall_mem_cons.mpr ⟨rfl, List.forall_mem_cons.mpr ⟨rfl, List.forall_mem_cons.mpr ⟨rfl, List.forall_mem_cons.mpr ⟨rfl, fun _ h => absurd h List.not_mem_nil⟩⟩⟩⟩⟩⟩⟩) ?_
                      exact L9724 24 0 μ9475 T9479 mF.refl (rW (c := 0) (d := 22) (rR (x := 0)) rfl) vc_X12_least_W_33 ((W9483 z9474 z9473 μ9475 rfl h9477 h9478 T9479 F9480).1 h9506)
                    have h9783 : 0 ≤ z9473 ∧ z9473 ≤ 21 := (vc_X12_least_W_28 h9506 h9478)
                    refine sv_aload_n (pc := 114) dX12_least_114 rfl rfl ?_
                    refine mr_iload_n (pc := 115) (z := p1) dX12_least_115 rfl rfl ?_
                    refine mr_iload (pc := 116) (z := z8920) dX12_least_116 rfl ?_
                    refine mr_iload_n (pc := 118) (z := z6495) dX12_least_118 rfl rfl ?_
                    refine mr_iconst (pc := 119) (z := 1) dX12_least_119 ?_
                    refine mr_iadd (pc := 120) (x := z6495) (y := 1) dX12_least_120 ?_
                    refine mr_iload (pc := 121) (z := z9473) dX12_least_121 rfl ?_
                    refine mr_cVP (pc := 123) (c_X12_costOf_W hw T9479 h12 h8922 (rW (c := (-2147483648)) (d := 2147483647) (rAdd (e := 1) (f := 32) h6917 (rR (x := 1)) rfl) rfl) h9783 ((W9483 z9474 z9473 μ9475 rfl h9477 h9478 T9479 F9480).2 h9506)) (gOk _ _ _ _ _) dX12_least_123 (tX12_costOf _ _ _ _ _) ⟨wV_X12_costOf, wL_X12_costOf⟩ wM_X12_707 (gCX12 _ _ _ _ _) rfl (A_106 hw) rfl ⟨le_t rfl, le_t rfl⟩ ⟨le_t rfl, le_t rfl⟩ rfl (le_t rfl) fun z9788 h9787 => ?_
                    refine sv_aload_n (pc := 126) dX12_least_126 rfl rfl ?_
                    refine mr_iload_n (pc := 127) (z := p1) dX12_least_127 rfl rfl ?_
                    refine mr_iload (pc := 128) (z := z9097) dX12_least_128 rfl ?_
                    refine mr_iload_n (pc := 130) (z := z6495) dX12_least_130 rfl rfl ?_
                    refine mr_iconst (pc := 131) (z := 1) dX12_least_131 ?_
                    refine mr_iadd (pc := 132) (x := z6495) (y := 1) dX12_least_132 ?_
                    refine mr_iload (pc := 133) (z := z9473) dX12_least_133 rfl ?_
                    refine mr_cVP (pc := 135) (c_X12_costOf_W hw T9479 h12 h9099 (rW (c := (-2147483648)) (d := 2147483647) (rAdd (e := 1) (f := 32) h6917 (rR (x := 1)) rfl) rfl) h9783 (h9787.2.1 h9787.1)) (gOk _ _ _ _ _) dX12_least_135 (tX12_costOf _ _ _ _ _) ⟨wV_X12_costOf, wL_X12_costOf⟩ wM_X12_707 (gCX12 _ _ _ _ _) rfl (A_106 hw) rfl ⟨le_t rfl, le_t rfl⟩ ⟨le_t rfl, le_t rfl⟩ rfl (le_t rfl) fun z9793 h9792 => ?_
                    refine mr_iadd (pc := 138) (x := z9788) (y := z9793) dX12_least_138 ?_
                    refine mr_wrapF fun z9794 h9795 h9796 => ?_
                    refine mr_istore (pc := 139) (lv' := [(8, iv z9794), (0, .ref 106), (1, iv p1), (2, iv z6495), (3, iv z8318), (4, iv z8920), (5, iv z9097), (6, iv z9474), (7, iv z9473)]) dX12_least_139 (by decide) rfl ?_
                    refine sv_aload_n (pc := 141) dX12_least_141 rfl rfl ?_
                    refine gf_X12_115 (pc := 142) dX12_least_142 wF_X12_508 (A_106 hw) T9479 ?_
                    refine mr_bipush (pc := 145) (z := 22) dX12_least_145 (by decide) ?_
                    refine sv_aload_n (pc := 147) dX12_least_147 rfl rfl ?_
                    refine gk_X12_116 (pc := 148) dX12_least_148 wF_X12_698 (A_106 hw) (F9480.f (A_106 hw) rfl q8328) ?_
                    refine mr_imul (pc := 151) (x := 22) (y := f_ne) dX12_least_151 ?_
                    refine mr_iload (pc := 152) (z := z9473) dX12_least_152 rfl ?_
                    refine mr_iadd (pc := 154) (x := (22 * f_ne)) (y := z9473) dX12_least_154 ?_
                    refine mr_iload (pc := 155) (z := z9794) dX12_least_155 rfl ?_
                    refine ss_182 (pc := 157) dX12_least_157 (A_182 hw) T9479 (vc_X12_least_W_29 h8325 h9506 h6502 h6910 h8527 h8909 h6507 h8330 h6917 h8528 h8529 h8910 h9783) h9795 fun μ9797 u9798 T9799 => ?_
                    refine mr_iload (pc := 158) (z := z9474) dX12_least_158 rfl ?_
                    refine mr_ldc (pc := 160) (z := (-99999999)) dX12_least_160 wG_X12_29 (by decide) ?_
                    refine mr_icmp_eq (pc := 162) (tgt := 172) dX12_least_162 (by decide) h9477 (r32 (rR (x := (-99999999))) rfl) (fun h9803 => ?_) (fun h9803 => ?_)
                    · have h9804 : (-99999999) ≤ z9474 ∧ z9474 ≤ (-99999999) := (vc_X12_judgedAnew_21 h9803 h9477)
                      refine mr_iload (pc := 172) (z := z9794) dX12_least_172 rfl ?_
                      refine sv_goto (pc := 174) (tgt := 179) dX12_least_174 (by decide) ?_
                      refine mr_istore (pc := 179) (lv' := [(6, iv z9794), (8, iv z9794), (0, .ref 106), (1, iv p1), (2, iv z6495), (3, iv z8318), (4, iv z8920), (5, iv z9097), (7, iv z9473)]) dX12_least_179 (by decide) rfl ?_
                      refine mr_iinc (pc := 181) (lv' := [(7, iv (z9473 + 1)), (6, iv z9794), (8, iv z9794), (0, .ref 106), (1, iv p1), (2, iv z6495), (3, iv z8318), (4, iv z8920), (5, iv z9097)]) dX12_least_181 rfl (by decide) rfl ?_
                      refine sv_goto (pc := 184) (tgt := 107) dX12_least_184 (by decide) ?_
                      refine mr_lvS (lv' := [(0, .ref 106), (1, iv p1), (2, iv z6495), (3, iv z8318), (4, iv z8920), (5, iv z9097), (6, iv z9794), (7, iv (z9473 + 1))]) (List.forall_mem_cons.mpr ⟨rfl, List.forall_mem_cons.mpr ⟨rfl, List.forall_mem_cons.mpr ⟨rfl, List.forall_mem_cons.mpr ⟨rfl, List.forall_mem_cons.mpr ⟨rfl, List.forall_mem_cons.mpr ⟨rfl, List.forall_mem_cons.mpr ⟨rfl, List.forall_mem_cons.mpr ⟨rfl, fun _ h => absurd h List.not_mem_nil⟩⟩⟩⟩⟩⟩⟩⟩) ?_
                      exact ih9484 z9794 (z9473 + 1) μ9797 T9799 (mF.up (mF.call mF.refl F9480 rfl) (A_182 hw) u9798 rfl) h9795 (rW (c := 0) (d := 22) (rAdd (e := 1) (f := 22) h9783 (rR (x := 1)) rfl) rfl) (vc_X12_least_W_30 (nS h9482) h9506 h9783) ((((h9792.2.1 h9792.1) z9794 h9795 h9796) μ9797 u9798 T9799).1 h9803)
                    refine mr_iload (pc := 165) (z := z9794) dX12_least_165 rfl ?_
                    refine mr_iload (pc := 167) (z := z9474) dX12_least_167 rfl ?_
                    refine mr_icmp_ge (pc := 169) (tgt := 177) dX12_least_169 (by decide) h9795 h9477 (fun h9807 => ?_) (fun h9807 => ?_)
                    · refine mr_iload (pc := 177) (z := z9474) dX12_least_177 rfl ?_
                      refine mr_istore (pc := 179) (lv' := [(6, iv z9474), (8, iv z9794), (0, .ref 106), (1, iv p1), (2, iv z6495), (3, iv z8318), (4, iv z8920), (5, iv z9097), (7, iv z9473)]) dX12_least_179 (by decide) rfl ?_
                      refine mr_iinc (pc := 181) (lv' := [(7, iv (z9473 + 1)), (6, iv z9474), (8, iv z9794), (0, .ref 106), (1, iv p1), (2, iv z6495), (3, iv z8318), (4, iv z8920), (5, iv z9097)]) dX12_least_181 rfl (by decide) rfl ?_
                      refine sv_goto (pc := 184) (tgt := 107) dX12_least_184 (by decide) ?_
                      refine mr_lvS (lv' := [(0, .ref 106), (1, iv p1), (2, iv z6495), (3, iv z8318), (4, iv z8920), (5, iv z9097), (6, iv z9474), (7, iv (z9473 + 1))]) (List.forall_mem_cons.mpr ⟨rfl, List.forall_mem_cons.mpr ⟨rfl, List.forall_mem_cons.mpr ⟨rfl, List.forall_mem_cons.mpr ⟨rfl, List.forall_mem_cons.mpr ⟨rfl, List.forall_mem_cons.mpr ⟨rfl, List.forall_mem_cons.mpr ⟨rfl, List.forall_mem_cons.mpr ⟨rfl, fun _ h => absurd h List.not_mem_nil⟩⟩⟩⟩⟩⟩⟩⟩) ?_
                      exact ih9484 z9474 (z9473 + 1) μ9797 T9799 (mF.up (mF.call mF.refl F9480 rfl) (A_182 hw) u9798 rfl) h9477 (rW (c := 0) (d := 22) (rAdd (e := 1) (f := 22) h9783 (rR (x := 1)) rfl) rfl) (vc_X12_least_W_30 (nS h9482) h9506 h9783) (((((h9792.2.1 h9792.1) z9794 h9795 h9796) μ9797 u9798 T9799).2 h9803).1 h9807)
                    have h9808 : (-2147483648) ≤ z9794 ∧ z9794 ≤ 2147483646 := (vc_X12_least_W_38 h9807 h9796 h9803 h9477 h9787.1 h9792.1 h9795)
                    have h9809 : (-2147483647) ≤ z9474 ∧ z9474 ≤ 2147483647 := (vc_X12_least_W_39 h9807 h9796 h9803 h9477 h9787.1 h9792.1 h9808)
                    refine mr_iload (pc := 172) (z := z9794) dX12_least_172 rfl ?_
                    refine sv_goto (pc := 174) (tgt := 179) dX12_least_174 (by decide) ?_
                    refine mr_istore (pc := 179) (lv' := [(6, iv z9794), (8, iv z9794), (0, .ref 106), (1, iv p1), (2, iv z6495), (3, iv z8318), (4, iv z8920), (5, iv z9097), (7, iv z9473)]) dX12_least_179 (by decide) rfl ?_
                    refine mr_iinc (pc := 181) (lv' := [(7, iv (z9473 + 1)), (6, iv z9794), (8, iv z9794), (0, .ref 106), (1, iv p1), (2, iv z6495), (3, iv z8318), (4, iv z8920), (5, iv z9097)]) dX12_least_181 rfl (by decide) rfl ?_
                    refine sv_goto (pc := 184) (tgt := 107) dX12_least_184 (by decide) ?_
                    refine mr_lvS (lv' := [(0, .ref 106), (1, iv p1), (2, iv z6495), (3, iv z8318), (4, iv z8920), (5, iv z9097), (6, iv z9794), (7, iv (z9473 + 1))]) (List.forall_mem_cons.mpr ⟨rfl, List.forall_mem_cons.mpr ⟨rfl, List.forall_mem_cons.mpr ⟨rfl, List.forall_mem_cons.mpr ⟨rfl, List.forall_mem_cons.mpr ⟨rfl, List.forall_mem_cons.mpr ⟨rfl, List.forall_mem_cons.mpr ⟨rfl, List.forall_mem_cons.mpr ⟨rfl, fun _ h => absurd h List.not_mem_nil⟩⟩⟩⟩⟩⟩⟩⟩) ?_
                    exact ih9484 z9794 (z9473 + 1) μ9797 T9799 (mF.up (mF.call mF.refl F9480 rfl) (A_182 hw) u9798 rfl) (rW (c := (-2147483648)) (d := 2147483647) h9808 rfl) (rW (c := 0) (d := 22) (rAdd (e := 1) (f := 22) h9783 (rR (x := 1)) rfl) rfl) (vc_X12_least_W_30 (nS h9482) h9506 h9783) (((((h9792.2.1 h9792.1) z9794 h9795 h9796) μ9797 u9798 T9799).2 h9803).2 h9807)
                refine mr_lvS (lv' := [(0, .ref 106), (1, iv p1), (2, iv z6495), (3, iv z8318), (4, iv z8920), (5, iv z9097), (6, iv (-99999999)), (7, iv 0)]) (List.forall_mem_cons.mpr ⟨rfl, List.forall_mem_cons.mpr ⟨rfl, List.forall_mem_cons.mpr ⟨rfl, List.forall_mem_cons.mpr ⟨rfl, List.forall_mem_cons.mpr ⟨rfl, List.forall_mem_cons.mpr ⟨rfl, List.forall_mem_cons.mpr ⟨rfl, List.forall_mem_cons.mpr ⟨rfl, fun _ h => absurd h List.not_mem_nil⟩⟩⟩⟩⟩⟩⟩⟩) ?_
                exact L9476 24 (-99999999) 0 μ8319 T8322 mF.refl (rW (c := (-2147483648)) (d := 2147483647) (rR (x := (-99999999))) rfl) (rW (c := 0) (d := 22) (rR (x := 0)) rfl) vc_X12_least_W_33 ((((h8926.2.2.1 h8926.1).1 h9092) z9094 q9095) z9097 q9098)
              have h9810 : 0 ≤ z8927 ∧ z8927 ≤ 399 := (vc_X12_costOf_W_3 h9092 h8926.2.1 h8926.1)
              refine sv_goto (pc := 86) (tgt := 275) dX12_least_86 (by decide) ?_
              refine mr_iinc (pc := 275) (lv' := [(3, iv (z8318 + 1)), (4, iv z8920), (0, .ref 106), (1, iv p1), (2, iv z6495)]) dX12_least_275 rfl (by decide) rfl ?_
              refine sv_goto (pc := 278) (tgt := 24) dX12_least_278 (by decide) ?_
              refine mr_lvS (lv' := [(0, .ref 106), (1, iv p1), (2, iv z6495), (3, iv (z8318 + 1))]) (List.forall_mem_cons.mpr ⟨rfl, List.forall_mem_cons.mpr ⟨rfl, List.forall_mem_cons.mpr ⟨rfl, List.forall_mem_cons.mpr ⟨rfl, fun _ h => absurd h List.not_mem_nil⟩⟩⟩⟩) ?_
              exact ih8329 (z8318 + 1) μ8319 f_ne T8322 (mF.call mF.refl F8323 rfl) q8328 (rW (c := 0) (d := 10) (rAdd (e := 1) (f := 10) h8528 (rR (x := 1)) rfl) rfl) (vc_X12_least_W_41 h6502 h6910 h8325 h8527 h8909 h6507 h8330 h6917 h8528 h8529 h8910) (vc_X12_least_W_27 (nS h8326) h8325 h8527 h6502 h6910 h8909 h6507 h8330 h6917 h8528 h8529 h8910) ((h8926.2.2.1 h8926.1).2 h9092)
            have h9811 : 0 ≤ z8724 ∧ z8724 ≤ 31 := (vc_X12_least_W_42 h8909 h6502 h6910 h8325 h6507 h8330 h6917 h8528 h8726)
            refine sv_goto (pc := 58) (tgt := 275) dX12_least_58 (by decide) ?_
            refine mr_iinc (pc := 275) (lv' := [(3, iv (z8318 + 1)), (0, .ref 106), (1, iv p1), (2, iv z6495)]) dX12_least_275 rfl (by decide) rfl ?_
            refine sv_goto (pc := 278) (tgt := 24) dX12_least_278 (by decide) ?_
            refine mr_lvS (lv' := [(0, .ref 106), (1, iv p1), (2, iv z6495), (3, iv (z8318 + 1))]) (List.forall_mem_cons.mpr ⟨rfl, List.forall_mem_cons.mpr ⟨rfl, List.forall_mem_cons.mpr ⟨rfl, List.forall_mem_cons.mpr ⟨rfl, fun _ h => absurd h List.not_mem_nil⟩⟩⟩⟩) ?_
            exact ih8329 (z8318 + 1) μ8319 f_ne T8322 (mF.call mF.refl F8323 rfl) q8328 (rW (c := 0) (d := 10) (rAdd (e := 1) (f := 10) h8528 (rR (x := 1)) rfl) rfl) (vc_X12_least_W_43 h6502 h6910 h8325 h8527 h8909 h6507 h8330 h6917 h8528 h8529 h9811) (vc_X12_least_W_44 (nS h8326) h8325 h8527 h6502 h6910 h8909 h6507 h8330 h6917 h8528 h8529 h9811) ((((((((W8327 z8318 μ8319 rfl h8321 T8322 F8323) f_ne q8328 h8330) z8331 q8332 h8333).2 h8527) z8530 q8531 h8532).2 h8721) z8724 q8725 h8726).2 h8909)
        refine mr_lvS (lv' := [(0, .ref 106), (1, iv p1), (2, iv z6495), (3, iv 0)]) (List.forall_mem_cons.mpr ⟨rfl, List.forall_mem_cons.mpr ⟨rfl, List.forall_mem_cons.mpr ⟨rfl, List.forall_mem_cons.mpr ⟨rfl, fun _ h => absurd h List.not_mem_nil⟩⟩⟩⟩) ?_
        exact L8320 12 0 μ6496 f_nd T6499 mF.refl q6505 (rW (c := 0) (d := 10) (rR (x := 0)) rfl) (vc_X12_least_W_45 h6502 h6910 h6507 h6917) vc_X12_ring_27 (((W6504 z6495 μ6496 rfl h6498 T6499 F6500) f_nd q6505 h6507).2 h6910)
    refine mr_lvS (lv' := [(0, .ref 106), (1, iv p1), (2, iv 31)]) (List.forall_mem_cons.mpr ⟨rfl, List.forall_mem_cons.mpr ⟨rfl, List.forall_mem_cons.mpr ⟨rfl, fun _ h => absurd h List.not_mem_nil⟩⟩⟩) ?_
    exact L6497 34 31 μ14 0 T16 mF.refl u15.1 (rW (c := (-1)) (d := 31) (rR (x := 31)) rfl) vc_X12_least_W_47 vc_X12_least_W_48 (((h7.2.2.2.1 h7.1).1 h9) μ14 u15 T16)
  have h9812 : 0 ≤ z8 ∧ z8 ≤ 0 := (vc_X12_write_78 h9 h7.2.1 h7.2.2.1 hp1 h3 h7.1)
  have h9813 : p1 < 0 ∨ z1 ≤ p1 := (h7.2.2.1 (vc_X12_write_79 h7.2.1 h7.2.2.1 h9 hp1 h3 h9812))
  refine mr_iconst (pc := 8) (z := (-1)) dX12_least_8 ?_
  exact mr_iret dX12_least_9 rfl (le_t rfl) (le_t rfl) hT mF.refl ⟨(rW (c := (-2147483648)) (d := 2147483647) (rR (x := (-1))) rfl), ((h7.2.2.2.1 h7.1).2 h9), trivial⟩
