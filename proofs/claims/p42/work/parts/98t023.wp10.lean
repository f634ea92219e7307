def WP_X6_beginsPiece_Wx (w : mW) (μ : mM) (p1 : Int) (Q : Int → mM → Prop) : Prop := ((p1 = (-2)) → Q (1 : Int) μ) ∧ ((¬ p1 = (-2)) → ((p1 = 7) → Q (1 : Int) μ) ∧ ((¬ p1 = 7) → ((¬ p1 = 1040) → Q (0 : Int) μ) ∧ ((p1 = 1040) → Q (1 : Int) μ)))
theorem vc_X6_beginsPiece_Wx_2 {p1 : Int} (h0 : p1 = 7) (h1 : ¬ p1 = (-2)) (h2 : (-2147483648) ≤ p1 ∧ p1 ≤ 2147483647) : 7 ≤ p1 ∧ p1 ≤ 7 := by omega
theorem vc_X6_beginsPiece_Wx_3 {p1 : Int} (h0 : p1 = 1040) (h1 : ¬ p1 = (-2)) (h2 : ¬ p1 = 7) (h3 : (-2147483648) ≤ p1 ∧ p1 ≤ 2147483647) : 1040 ≤ p1 ∧ p1 ≤ 1040 := by omega
set_option maxRecDepth 4000 in
set_option maxHeartbeats 4000000 in
theorem c_X6_beginsPiece_Wx {l : Launch} {D : va_G} {c : Nat → ClassId} {H0 : Heap} {sa : Nat × Nat × (Nat → Int32)} {w : mW} {μ : mM} (hw : mWF w) (hT : mT w μ) {p1 : Int} (hp1 : (-2147483648) ≤ p1 ∧ p1 ≤ 2147483647) {Q : Int → mM → Prop} (hQ : WP_X6_beginsPiece_Wx w μ p1 Q) : sC (gG l D c H0 sa) mX6_beginsPiece 1 0 0 [iv p1] (mk w μ) (qP w μ (fun z => (0 ≤ z ∧ z ≤ 1) ∧ Q z μ ∧ True)) := by
  refine sC.of rfl (by decide) (le_t rfl) ?_
  refine mr_lvE (lv' := [(0, iv p1)]) rfl ?_
  refine mr_iload_n (pc := 0) (z := p1) dX6_beginsPiece_0 rfl rfl ?_
  refine mr_bipush (pc := 1) (z := (-2)) dX6_beginsPiece_1 (by decide) ?_
  refine mr_icmp_eq (pc := 3) (tgt := 19) dX6_beginsPiece_3 (by decide) hp1 (r32 (rR (x := (-2))) rfl) (fun h4 => ?_) (fun h4 => ?_)
  · have h5 : (-2) ≤ p1 ∧ p1 ≤ (-2) := (vc_X6_number_Wx_1 h4 hp1)
    refine mr_iconst (pc := 19) (z := 1) dX6_beginsPiece_19 ?_
    refine sv_goto (pc := 20) (tgt := 24) dX6_beginsPiece_20 (by decide) ?_
    exact mr_zretP dX6_beginsPiece_24 rfl (rW (c := 0) (d := 1) (rR (x := 1)) rfl) (le_t rfl) (le_t rfl) ⟨(rW (c := 0) (d := 1) (rR (x := 1)) rfl), (hQ.1 h4), trivial⟩
  refine mr_iload_n (pc := 6) (z := p1) dX6_beginsPiece_6 rfl rfl ?_
  refine mr_bipush (pc := 7) (z := 7) dX6_beginsPiece_7 (by decide) ?_
  refine mr_icmp_eq (pc := 9) (tgt := 19) dX6_beginsPiece_9 (by decide) hp1 (r32 (rR (x := 7)) rfl) (fun h8 => ?_) (fun h8 => ?_)
  · have h9 : 7 ≤ p1 ∧ p1 ≤ 7 := (vc_X6_beginsPiece_Wx_2 h8 h4 hp1)
    refine mr_iconst (pc := 19) (z := 1) dX6_beginsPiece_19 ?_
    refine sv_goto (pc := 20) (tgt := 24) dX6_beginsPiece_20 (by decide) ?_
    exact mr_zretP dX6_beginsPiece_24 rfl (rW (c := 0) (d := 1) (rR (x := 1)) rfl) (le_t rfl) (le_t rfl) ⟨(rW (c := 0) (d := 1) (rR (x := 1)) rfl), ((hQ.2 h4).1 h8), trivial⟩
  refine mr_iload_n (pc := 12) (z := p1) dX6_beginsPiece_12 rfl rfl ?_
  refine mr_sipush (pc := 13) (z := 1040) dX6_beginsPiece_13 (by decide) ?_
  refine mr_icmp_ne (pc := 16) (tgt := 23) dX6_beginsPiece_16 (by decide) hp1 (r32 (rR (x := 1040)) rfl) (fun h11 => ?_) (fun h11 => ?_)
  · refine mr_iconst (pc := 23) (z := 0) dX6_beginsPiece_23 ?_
    exact mr_zretP dX6_beginsPiece_24 rfl (rW (c := 0) (d := 1) (rR (x := 0)) rfl) (le_t rfl) (le_t rfl) ⟨(rW (c := 0) (d := 1) (rR (x := 0)) rfl), (((hQ.2 h4).2 h8).1 h11), trivial⟩
  have h12 : 1040 ≤ p1 ∧ p1 ≤ 1040 := (vc_X6_beginsPiece_Wx_3 h11 h4 h8 hp1)
  refine mr_iconst (pc := 19) (z := 1) dX6_beginsPiece_19 ?_
  refine sv_goto (pc := 20) (tgt := 24) dX6_beginsPiece_20 (by decide) ?_
  exact mr_zretP dX6_beginsPiece_24 rfl (rW (c := 0) (d := 1) (rR (x := 1)) rfl) (le_t rfl) (le_t rfl) ⟨(rW (c := 0) (d := 1) (rR (x := 1)) rfl), (((hQ.2 h4).2 h8).2 h11), trivial⟩
def WP_X6_readGroup_Wx6 (w : mW) (μ : mM) (p1 : Int) (Q : mM → Prop) : Prop := WP_X6_fail_Wx w μ (4) (fun μ1 => mT w μ1 → mF [23009, 23018, 23019] w μ μ1 → Q μ1)
theorem vc_X6_readGroup_Wx6_1 {p1 : Int} (h0 : p1 < 6) (h1 : 6 ≤ p1 ∧ p1 ≤ 6) : False := by omega
set_option maxRecDepth 4000 in
set_option maxHeartbeats 4000000 in
theorem c_X6_readGroup_Wx6 {l : Launch} {D : va_G} {c : Nat → ClassId} {H0 : Heap} {sa : Nat × Nat × (Nat → Int32)} {w : mW} {μ : mM} (hw : mWF w) (hT : mT w μ) {p1 : Int} (hp1 : 6 ≤ p1 ∧ p1 ≤ 6) {Q : mM → Prop} (hQ : WP_X6_readGroup_Wx6 w μ p1 Q) : sC (gG l D c H0 sa) mX6_readGroup 2 0 0 [.ref 23, iv p1] (mk w μ) (qV w [23009, 23018, 23019] μ (fun μ1 => Q μ1 ∧ True)) := by
  refine sC.of rfl (by decide) (le_t rfl) ?_
  refine mr_lvE (lv' := [(0, .ref 23), (1, iv p1)]) rfl ?_
  refine mr_iload_n (pc := 0) (z := p1) dX6_readGroup_0 rfl rfl ?_
  refine mr_bipush (pc := 1) (z := 6) dX6_readGroup_1 (by decide) ?_
  refine mr_icmp_lt (pc := 3) (tgt := 12) dX6_readGroup_3 (by decide) (r32 hp1 rfl) (r32 (rR (x := 6)) rfl) (fun h => ((vc_X6_readGroup_Wx6_1 h hp1)).elim) (fun _ => ?_)
  refine sv_aload_n (pc := 6) dX6_readGroup_6 rfl rfl ?_
  refine mr_iconst (pc := 7) (z := 4) dX6_readGroup_7 ?_
  refine mr_cVV (pc := 8) (c_X6_fail_Wx hw hT (rW (c := 1) (d := 4) (rR (x := 4)) rfl) hQ) (gOk _ _ _ _ _) dX6_readGroup_8 (tX6_fail _ _ _ _ _) ⟨wV_X6_fail, wL_X6_fail⟩ wM_X6_123 (gCX6 _ _ _ _ _) rfl (A_23 hw) rfl ⟨le_t rfl, le_t rfl⟩ ⟨le_t rfl, le_t rfl⟩ rfl (le_t rfl) fun μ1 T2 F3 h4 => ?_
  exact mr_vret dX6_readGroup_11 rfl (le_t rfl) (le_t rfl) T2 (mF.call mF.refl F3 rfl) ⟨(h4.1 T2 F3), trivial⟩
def WJ_X6_readPlace_Wx_1 (w : mW) (μ : mM) (Q : mM → Prop) (z1 : Int) (z8 : Int) : Prop := (0 ≤ z8 ∧ z8 ≤ 1) → ((z8 = 0) → ∀ z14 : Int, μ 23 12 = z14 → (0 ≤ z14 ∧ z14 ≤ 40) → ((z14 < 40) → ∀ μ19 : mM, mU μ 28 (z14.toNat) ((-1) : Int) μ19 → mT w μ19 → ∀ μ22 : mM, mU μ19 29 (z14.toNat) (0 : Int) μ22 → mT w μ22 → ∀ μ25 : mM, mU μ22 23 (15) (0 : Int) μ25 → mT w μ25 → ∀ z28 : Int, lShl (1 : Int) z14 = z28 → ∀ μ31 : mM, mU μ25 23 (16) z28 μ31 → mT w μ31 → ∀ μ34 : mM, mU μ31 23 (17) z28 μ34 → mT w μ34 → ∀ μ37 : mM, mU μ34 23 (12) (z14 + 1) μ37 → mT w μ37 → WP_X6_step_Wx w μ37  (fun μ40 => mT w μ40 → mF [23009] w μ37 μ40 → Q μ40)) ∧ ((40 ≤ z14) → WP_X6_fail_Wx w μ (4) (fun μ46 => mT w μ46 → mF [23009, 23018, 23019] w μ μ46 → Q μ46))) ∧ ((¬ z8 = 0) → ∀ z51 : Int, μ 25 (z1.toNat) = z51 → ((-2147483648) ≤ z51 ∧ z51 ≤ 2147483647) → ((z51 ≤ 1000000) → ∀ z56 : Int, μ 23 12 = z56 → (0 ≤ z56 ∧ z56 ≤ 40) → ((z56 < 40) → ∀ μ61 : mM, mU μ 28 (z56.toNat) z51 μ61 → mT w μ61 → ∀ μ64 : mM, mU μ61 29 (z56.toNat) (0 : Int) μ64 → mT w μ64 → ∀ μ67 : mM, mU μ64 23 (15) (0 : Int) μ67 → mT w μ67 → ∀ z70 : Int, lShl (1 : Int) z56 = z70 → ∀ μ73 : mM, mU μ67 23 (16) z70 μ73 → mT w μ73 → ∀ μ76 : mM, mU μ73 23 (17) z70 μ76 → mT w μ76 → ∀ μ79 : mM, mU μ76 23 (12) (z56 + 1) μ79 → mT w μ79 → WP_X6_step_Wx w μ79  (fun μ82 => mT w μ82 → mF [23009] w μ79 μ82 → Q μ82)) ∧ ((40 ≤ z56) → WP_X6_fail_Wx w μ (4) (fun μ88 => mT w μ88 → mF [23009, 23018, 23019] w μ μ88 → Q μ88))) ∧ ((1000000 < z51) → WP_X6_fail_Wx w μ (3) (fun μ93 => mT w μ93 → mF [23009, 23018, 23019] w μ μ93 → Q μ93)))
def WP_X6_readPlace_Wx (w : mW) (μ : mM) (Q : mM → Prop) : Prop := ∀ z1 : Int, μ 23 9 = z1 → (0 ≤ z1 ∧ z1 ≤ 1000) → ∀ z4 : Int, μ 24 (z1.toNat) = z4 → ((-2147483648) ≤ z4 ∧ z4 ≤ 2147483647) → ((¬ z4 = (-2)) → (WJ_X6_readPlace_Wx_1 w μ Q z1) (0 : Int)) ∧ ((z4 = (-2)) → (WJ_X6_readPlace_Wx_1 w μ Q z1) (1 : Int))
theorem vc_X6_readPlace_Wx_2 {z14 : Int} (h0 : z14 < 40) (h1 : 0 ≤ z14 ∧ z14 ≤ 40) : 0 ≤ z14 ∧ z14 ≤ 39 := by omega
theorem vc_X6_readPlace_Wx_4 {z14 : Int} (h0 : 40 ≤ z14) (h1 : 0 ≤ z14 ∧ z14 ≤ 40) : 40 ≤ z14 ∧ z14 ≤ 40 := by omega
theorem vc_X6_readPlace_Wx_6 {z51 : Int} (h0 : z51 ≤ 1000000) (h1 : (-2147483648) ≤ z51 ∧ z51 ≤ 2147483647) : (-2147483648) ≤ z51 ∧ z51 ≤ 1000000 := by omega
theorem vc_X6_readPlace_Wx_10 {z51 : Int} (h0 : 1000000 < z51) (h1 : (-2147483648) ≤ z51 ∧ z51 ≤ 2147483647) : 1000001 ≤ z51 ∧ z51 ≤ 2147483647 := by omega
set_option maxRecDepth 4000 in
set_option maxHeartbeats 4000000 in
theorem c_X6_readPlace_Wx {l : Launch} {D : va_G} {c : Nat → ClassId} {H0 : Heap} {sa : Nat × Nat × (Nat → Int32)} {w : mW} {μ : mM} (hw : mWF w) (hT : mT w μ) {Q : mM → Prop} (hQ : WP_X6_readPlace_Wx w μ  Q) : sC (gG l D c H0 sa) mX6_readPlace 2 0 0 [.ref 23] (mk w μ) (qV w [23009, 23012, 23015, 23016, 23017, 23018, 23019, 28999, 29999] μ (fun μ1 => Q μ1 ∧ True)) := by
  refine sC.of rfl (by decide) (le_t rfl) ?_
  refine mr_lvE (lv' := [(0, .ref 23)]) rfl ?_
  refine sv_aload_n (pc := 0) dX6_readPlace_0 rfl rfl ?_
  refine gf_X6_0 (pc := 1) dX6_readPlace_1 wF_X6_9 (A_23 hw) hT ?_
  refine sv_aload_n (pc := 4) dX6_readPlace_4 rfl rfl ?_
  refine gf_X6_9 (pc := 5) dX6_readPlace_5 wF_X6_63 (A_23 hw) hT fun z1 q2 h3 => ?_
  refine la_24 (pc := 8) dX6_readPlace_8 (A_24 hw) hT (rIx (n := 1001) h3 rfl) fun z4 q5 h6 => ?_
  refine mr_bipush (pc := 9) (z := (-2)) dX6_readPlace_9 (by decide) ?_
  have J10 : ∀ (z8 : Int), ((0 ≤ z8 ∧ z8 ≤ 1)) → ((WJ_X6_readPlace_Wx_1 w μ Q z1) z8) → sV (gG l D c H0 sa) mX6_readPlace (sRm 2 0 0) (sZ (gG l D c H0 sa) 0 0 (qV w [23009, 23012, 23015, 23016, 23017, 23018, 23019, 28999, 29999] μ (fun μ1 => Q μ1 ∧ True))) 19 [(0, .ref 23)] [iv z8] (mk w μ) 0 0 := by
    intro z8 h9 W11
    refine mr_istore_n (pc := 19) (lv' := [(1, iv z8), (0, .ref 23)]) dX6_readPlace_19 rfl (by decide) rfl ?_
    refine mr_iload_n (pc := 20) (z := z8) dX6_readPlace_20 rfl rfl ?_
    refine mr_if_eq (pc := 21) (tgt := 44) dX6_readPlace_21 (by decide) (r32 h9 rfl) (fun h12 => ?_) (fun h12 => ?_)
    · have h13 : 0 ≤ z8 ∧ z8 ≤ 0 := (vc_X12_ring_22 h12 h9)
      refine sv_aload_n (pc := 44) dX6_readPlace_44 rfl rfl ?_
      refine gf_X6_12 (pc := 45) dX6_readPlace_45 wF_X6_50 (A_23 hw) hT fun z14 q15 h16 => ?_
      refine mr_bipush (pc := 48) (z := 40) dX6_readPlace_48 (by decide) ?_
      refine mr_icmp_lt (pc := 50) (tgt := 59) dX6_readPlace_50 (by decide) (r32 h16 rfl) (r32 (rR (x := 40)) rfl) (fun h17 => ?_) (fun h17 => ?_)
      · have h18 : 0 ≤ z14 ∧ z14 ≤ 39 := (vc_X6_readPlace_Wx_2 h17 h16)
        refine sv_aload_n (pc := 59) dX6_readPlace_59 rfl rfl ?_
        refine gf_X6_4 (pc := 60) dX6_readPlace_60 wF_X6_24 (A_23 hw) hT ?_
        refine sv_aload_n (pc := 63) dX6_readPlace_63 rfl rfl ?_
        refine gk_X6_12 (pc := 64) dX6_readPlace_64 wF_X6_50 (A_23 hw) q15 ?_
        refine mr_iload_n (pc := 67) (z := z8) dX6_readPlace_67 rfl rfl ?_
        refine mr_if_eq (pc := 68) (tgt := 83) dX6_readPlace_68 (by decide) (r32 h13 rfl) (fun _ => ?_) (fun h => ((vc_X10_firstWrongStep_7 h h13)).elim)
        refine mr_iconst (pc := 83) (z := (-1)) dX6_readPlace_83 ?_
        refine ss_28 (pc := 84) dX6_readPlace_84 (A_28 hw) hT (rIx (n := 40) h18 rfl) (rW (c := (-2147483648)) (d := 2147483647) (rR (x := (-1))) rfl) fun μ19 u20 T21 => ?_
        refine sv_aload_n (pc := 85) dX6_readPlace_85 rfl rfl ?_
        refine gf_X6_5 (pc := 86) dX6_readPlace_86 wF_X6_27 (A_23 hw) T21 ?_
        refine sv_aload_n (pc := 89) dX6_readPlace_89 rfl rfl ?_
        refine gk_X6_12 (pc := 90) dX6_readPlace_90 wF_X6_50 (A_23 hw) (u20.f (Or.inl (mAt.ne (A_28 hw) (A_23 hw) rfl)) q15) ?_
        refine mr_lconst (pc := 93) (z := 0) dX6_readPlace_93 (by decide) ?_
        refine ss_29 (pc := 94) dX6_readPlace_94 (A_29 hw) T21 (rIx (n := 40) h18 rfl) (rW (c := -9223372036854775808) (d := 9223372036854775807) (rR (x := 0)) rfl) fun μ22 u23 T24 => ?_
        refine sv_aload_n (pc := 95) dX6_readPlace_95 rfl rfl ?_
        refine mr_iconst (pc := 96) (z := 0) dX6_readPlace_96 ?_
        refine pf_X6_15 (pc := 97) dX6_readPlace_97 wF_X6_186 (A_23 hw) T24 (rW (c := 0) (d := 1) (rR (x := 0)) rfl) fun μ25 u26 T27 => ?_
        refine sv_aload_n (pc := 100) dX6_readPlace_100 rfl rfl ?_
        refine mr_lconst (pc := 101) (z := 1) dX6_readPlace_101 (by decide) ?_
        refine sv_aload_n (pc := 102) dX6_readPlace_102 rfl rfl ?_
        refine gk_X6_12 (pc := 103) dX6_readPlace_103 wF_X6_50 (A_23 hw) (u26.f (Or.inr (by decide)) (u23.f (Or.inl (mAt.ne (A_29 hw) (A_23 hw) rfl)) (u20.f (Or.inl (mAt.ne (A_28 hw) (A_23 hw) rfl)) q15))) ?_
        refine mr_lshl (pc := 106) dX6_readPlace_106 ?_
        refine mr_genL (r64i _) fun z28 q29 h30 => ?_
        refine pf_X6_16 (pc := 107) dX6_readPlace_107 wF_X6_179 (A_23 hw) T27 h30 fun μ31 u32 T33 => ?_
        refine sv_aload_n (pc := 110) dX6_readPlace_110 rfl rfl ?_
        refine sv_aload_n (pc := 111) dX6_readPlace_111 rfl rfl ?_
        refine gk_X6_16 (pc := 112) dX6_readPlace_112 wF_X6_179 (A_23 hw) u32.1 ?_
        refine pf_X6_17 (pc := 115) dX6_readPlace_115 wF_X6_183 (A_23 hw) T33 h30 fun μ34 u35 T36 => ?_
        refine sv_aload_n (pc := 118) dX6_readPlace_118 rfl rfl ?_
        refine sv_dup (pc := 119) dX6_readPlace_119 rfl ?_
        refine gk_X6_12 (pc := 120) dX6_readPlace_120 wF_X6_50 (A_23 hw) (u35.f (Or.inr (by decide)) (u32.f (Or.inr (by decide)) (u26.f (Or.inr (by decide)) (u23.f (Or.inl (mAt.ne (A_29 hw) (A_23 hw) rfl)) (u20.f (Or.inl (mAt.ne (A_28 hw) (A_23 hw) rfl)) q15))))) ?_
        refine mr_iconst (pc := 123) (z := 1) dX6_readPlace_123 ?_
        refine mr_iadd (pc := 124) (x := z14) (y := 1) dX6_readPlace_124 ?_
        refine pf_X6_12 (pc := 125) dX6_readPlace_125 wF_X6_50 (A_23 hw) T36 (rW (c := 0) (d := 40) (rAdd (e := 1) (f := 40) h18 (rR (x := 1)) rfl) rfl) fun μ37 u38 T39 => ?_
        refine sv_aload_n (pc := 128) dX6_readPlace_128 rfl rfl ?_
        have W44 := (((((((((((W11 h9).1 h12) z14 q15 h16).1 h17) μ19 u20 T21) μ22 u23 T24) μ25 u26 T27) z28 q29) μ31 u32 T33) μ34 u35 T36) μ37 u38 T39)
        refine mr_cVV (pc := 129) (c_X6_step_Wx hw T39 W44) (gOk _ _ _ _ _) dX6_readPlace_129 (tX6_step _ _ _ _ _) ⟨wV_X6_step, wL_X6_step⟩ wM_X6_117 (gCX6 _ _ _ _ _) rfl (A_23 hw) rfl ⟨le_t rfl, le_t rfl⟩ ⟨le_t rfl, le_t rfl⟩ rfl (le_t rfl) fun μ40 T41 F42 h43 => ?_
        exact mr_vret dX6_readPlace_132 rfl (le_t rfl) (le_t rfl) T41 (mF.call (mF.up (mF.up (mF.up (mF.up (mF.up (mF.up mF.refl (A_28 hw) u20 rfl) (A_29 hw) u23 rfl) (A_23 hw) u26 rfl) (A_23 hw) u32 rfl) (A_23 hw) u35 rfl) (A_23 hw) u38 rfl) F42 rfl) ⟨(h43.1 T41 F42), trivial⟩
      have h45 : 40 ≤ z14 ∧ z14 ≤ 40 := (vc_X6_readPlace_Wx_4 h17 h16)
      refine sv_aload_n (pc := 53) dX6_readPlace_53 rfl rfl ?_
      refine mr_iconst (pc := 54) (z := 4) dX6_readPlace_54 ?_
      refine mr_cVV (pc := 55) (c_X6_fail_Wx hw hT (rW (c := 1) (d := 4) (rR (x := 4)) rfl) ((((W11 h9).1 h12) z14 q15 h16).2 h17)) (gOk _ _ _ _ _) dX6_readPlace_55 (tX6_fail _ _ _ _ _) ⟨wV_X6_fail, wL_X6_fail⟩ wM_X6_123 (gCX6 _ _ _ _ _) rfl (A_23 hw) rfl ⟨le_t rfl, le_t rfl⟩ ⟨le_t rfl, le_t rfl⟩ rfl (le_t rfl) fun μ46 T47 F48 h49 => ?_
      exact mr_vret dX6_readPlace_58 rfl (le_t rfl) (le_t rfl) T47 (mF.call mF.refl F48 rfl) ⟨(h49.1 T47 F48), trivial⟩
    have h50 : 1 ≤ z8 ∧ z8 ≤ 1 := (vc_X12_ring_24 h12 h9)
    refine sv_aload_n (pc := 24) dX6_readPlace_24 rfl rfl ?_
    refine gf_X6_1 (pc := 25) dX6_readPlace_25 wF_X6_15 (A_23 hw) hT ?_
    refine sv_aload_n (pc := 28) dX6_readPlace_28 rfl rfl ?_
    refine gk_X6_9 (pc := 29) dX6_readPlace_29 wF_X6_63 (A_23 hw) q2 ?_
    refine la_25 (pc := 32) dX6_readPlace_32 (A_25 hw) hT (rIx (n := 1001) h3 rfl) fun z51 q52 h53 => ?_
    refine mr_ldc (pc := 33) (z := 1000000) dX6_readPlace_33 wG_X6_147 (by decide) ?_
    refine mr_icmp_le (pc := 35) (tgt := 44) dX6_readPlace_35 (by decide) h53 (r32 (rR (x := 1000000)) rfl) (fun h54 => ?_) (fun h54 => ?_)
    · have h55 : (-2147483648) ≤ z51 ∧ z51 ≤ 1000000 := (vc_X6_readPlace_Wx_6 h54 h53)
      refine sv_aload_n (pc := 44) dX6_readPlace_44 rfl rfl ?_
      refine gf_X6_12 (pc := 45) dX6_readPlace_45 wF_X6_50 (A_23 hw) hT fun z56 q57 h58 => ?_
      refine mr_bipush (pc := 48) (z := 40) dX6_readPlace_48 (by decide) ?_
      refine mr_icmp_lt (pc := 50) (tgt := 59) dX6_readPlace_50 (by decide) (r32 h58 rfl) (r32 (rR (x := 40)) rfl) (fun h59 => ?_) (fun h59 => ?_)
      · have h60 : 0 ≤ z56 ∧ z56 ≤ 39 := (vc_X6_readPlace_Wx_2 h59 h58)
        refine sv_aload_n (pc := 59) dX6_readPlace_59 rfl rfl ?_
        refine gf_X6_4 (pc := 60) dX6_readPlace_60 wF_X6_24 (A_23 hw) hT ?_
        refine sv_aload_n (pc := 63) dX6_readPlace_63 rfl rfl ?_
        refine gk_X6_12 (pc := 64) dX6_readPlace_64 wF_X6_50 (A_23 hw) q57 ?_
        refine mr_iload_n (pc := 67) (z := z8) dX6_readPlace_67 rfl rfl ?_
        refine mr_if_eq (pc := 68) (tgt := 83) dX6_readPlace_68 (by decide) (r32 h50 rfl) (fun h => ((vc_X12_letWay_13 h h50)).elim) (fun _ => ?_)
        refine sv_aload_n (pc := 71) dX6_readPlace_71 rfl rfl ?_
        refine gf_X6_1 (pc := 72) dX6_readPlace_72 wF_X6_15 (A_23 hw) hT ?_
        refine sv_aload_n (pc := 75) dX6_readPlace_75 rfl rfl ?_
        refine gk_X6_9 (pc := 76) dX6_readPlace_76 wF_X6_63 (A_23 hw) q2 ?_
        refine lk_25 (pc := 79) dX6_readPlace_79 (A_25 hw) (rIx (n := 1001) h3 rfl) q52 ?_
        refine sv_goto (pc := 80) (tgt := 84) dX6_readPlace_80 (by decide) ?_
        refine ss_28 (pc := 84) dX6_readPlace_84 (A_28 hw) hT (rIx (n := 40) h60 rfl) (rW (c := (-2147483648)) (d := 2147483647) h55 rfl) fun μ61 u62 T63 => ?_
        refine sv_aload_n (pc := 85) dX6_readPlace_85 rfl rfl ?_
        refine gf_X6_5 (pc := 86) dX6_readPlace_86 wF_X6_27 (A_23 hw) T63 ?_
        refine sv_aload_n (pc := 89) dX6_readPlace_89 rfl rfl ?_
        refine gk_X6_12 (pc := 90) dX6_readPlace_90 wF_X6_50 (A_23 hw) (u62.f (Or.inl (mAt.ne (A_28 hw) (A_23 hw) rfl)) q57) ?_
        refine mr_lconst (pc := 93) (z := 0) dX6_readPlace_93 (by decide) ?_
        refine ss_29 (pc := 94) dX6_readPlace_94 (A_29 hw) T63 (rIx (n := 40) h60 rfl) (rW (c := -9223372036854775808) (d := 9223372036854775807) (rR (x := 0)) rfl) fun μ64 u65 T66 => ?_
        refine sv_aload_n (pc := 95) dX6_readPlace_95 rfl rfl ?_
        refine mr_iconst (pc := 96) (z := 0) dX6_readPlace_96 ?_
        refine pf_X6_15 (pc := 97) dX6_readPlace_97 wF_X6_186 (A_23 hw) T66 (rW (c := 0) (d := 1) (rR (x := 0)) rfl) fun μ67 u68 T69 => ?_
        refine sv_aload_n (pc := 100) dX6_readPlace_100 rfl rfl ?_
        refine mr_lconst (pc := 101) (z := 1) dX6_readPlace_101 (by decide) ?_
        refine sv_aload_n (pc := 102) dX6_readPlace_102 rfl rfl ?_
        refine gk_X6_12 (pc := 103) dX6_readPlace_103 wF_X6_50 (A_23 hw) (u68.f (Or.inr (by decide)) (u65.f (Or.inl (mAt.ne (A_29 hw) (A_23 hw) rfl)) (u62.f (Or.inl (mAt.ne (A_28 hw) (A_23 hw) rfl)) q57))) ?_
        refine mr_lshl (pc := 106) dX6_readPlace_106 ?_
        refine mr_genL (r64i _) fun z70 q71 h72 => ?_
        refine pf_X6_16 (pc := 107) dX6_readPlace_107 wF_X6_179 (A_23 hw) T69 h72 fun μ73 u74 T75 => ?_
        refine sv_aload_n (pc := 110) dX6_readPlace_110 rfl rfl ?_
        refine sv_aload_n (pc := 111) dX6_readPlace_111 rfl rfl ?_
        refine gk_X6_16 (pc := 112) dX6_readPlace_112 wF_X6_179 (A_23 hw) u74.1 ?_
        refine pf_X6_17 (pc := 115) dX6_readPlace_115 wF_X6_183 (A_23 hw) T75 h72 fun μ76 u77 T78 => ?_
        refine sv_aload_n (pc := 118) dX6_readPlace_118 rfl rfl ?_
        refine sv_dup (pc := 119) dX6_readPlace_119 rfl ?_
        refine gk_X6_12 (pc := 120) dX6_readPlace_120 wF_X6_50 (A_23 hw) (u77.f (Or.inr (by decide)) (u74.f (Or.inr (by decide)) (u68.f (Or.inr (by decide)) (u65.f (Or.inl (mAt.ne (A_29 hw) (A_23 hw) rfl)) (u62.f (Or.inl (mAt.ne (A_28 hw) (A_23 hw) rfl)) q57))))) ?_
        refine mr_iconst (pc := 123) (z := 1) dX6_readPlace_123 ?_
        refine mr_iadd (pc := 124) (x := z56) (y := 1) dX6_readPlace_124 ?_
        refine pf_X6_12 (pc := 125) dX6_readPlace_125 wF_X6_50 (A_23 hw) T78 (rW (c := 0) (d := 40) (rAdd (e := 1) (f := 40) h60 (rR (x := 1)) rfl) rfl) fun μ79 u80 T81 => ?_
        refine sv_aload_n (pc := 128) dX6_readPlace_128 rfl rfl ?_
        have W86 := (((((((((((((W11 h9).2 h12) z51 q52 h53).1 h54) z56 q57 h58).1 h59) μ61 u62 T63) μ64 u65 T66) μ67 u68 T69) z70 q71) μ73 u74 T75) μ76 u77 T78) μ79 u80 T81)
        refine mr_cVV (pc := 129) (c_X6_step_Wx hw T81 W86) (gOk _ _ _ _ _) dX6_readPlace_129 (tX6_step _ _ _ _ _) ⟨wV_X6_step, wL_X6_step⟩ wM_X6_117 (gCX6 _ _ _ _ _) rfl (A_23 hw) rfl ⟨le_t rfl, le_t rfl⟩ ⟨le_t rfl, le_t rfl⟩ rfl (le_t rfl) fun μ82 T83 F84 h85 => ?_
        exact mr_vret dX6_readPlace_132 rfl (le_t rfl) (le_t rfl) T83 (mF.call (mF.up (mF.up (mF.up (mF.up (mF.up (mF.up mF.refl (A_28 hw) u62 rfl) (A_29 hw) u65 rfl) (A_23 hw) u68 rfl) (A_23 hw) u74 rfl) (A_23 hw) u77 rfl) (A_23 hw) u80 rfl) F84 rfl) ⟨(h85.1 T83 F84), trivial⟩
      have h87 : 40 ≤ z56 ∧ z56 ≤ 40 := (vc_X6_readPlace_Wx_4 h59 h58)
      refine sv_aload_n (pc := 53) dX6_readPlace_53 rfl rfl ?_
      refine mr_iconst (pc := 54) (z := 4) dX6_readPlace_54 ?_
      refine mr_cVV (pc := 55) (c_X6_fail_Wx hw hT (rW (c := 1) (d := 4) (rR (x := 4)) rfl) ((((((W11 h9).2 h12) z51 q52 h53).1 h54) z56 q57 h58).2 h59)) (gOk _ _ _ _ _) dX6_readPlace_55 (tX6_fail _ _ _ _ _) ⟨wV_X6_fail, wL_X6_fail⟩ wM_X6_123 (gCX6 _ _ _ _ _) rfl (A_23 hw) rfl ⟨le_t rfl, le_t rfl⟩ ⟨le_t rfl, le_t rfl⟩ rfl (le_t rfl) fun μ88 T89 F90 h91 => ?_
      exact mr_vret dX6_readPlace_58 rfl (le_t rfl) (le_t rfl) T89 (mF.call mF.refl F90 rfl) ⟨(h91.1 T89 F90), trivial⟩
    have h92 : 1000001 ≤ z51 ∧ z51 ≤ 2147483647 := (vc_X6_readPlace_Wx_10 h54 h53)
    refine sv_aload_n (pc := 38) dX6_readPlace_38 rfl rfl ?_
    refine mr_iconst (pc := 39) (z := 3) dX6_readPlace_39 ?_
    refine mr_cVV (pc := 40) (c_X6_fail_Wx hw hT (rW (c := 1) (d := 4) (rR (x := 3)) rfl) ((((W11 h9).2 h12) z51 q52 h53).2 h54)) (gOk _ _ _ _ _) dX6_readPlace_40 (tX6_fail _ _ _ _ _) ⟨wV_X6_fail, wL_X6_fail⟩ wM_X6_123 (gCX6 _ _ _ _ _) rfl (A_23 hw) rfl ⟨le_t rfl, le_t rfl⟩ ⟨le_t rfl, le_t rfl⟩ rfl (le_t rfl) fun μ93 T94 F95 h96 => ?_
    exact mr_vret dX6_readPlace_43 rfl (le_t rfl) (le_t rfl) T94 (mF.call mF.refl F95 rfl) ⟨(h96.1 T94 F95), trivial⟩
  refine mr_icmp_ne (pc := 11) (tgt := 18) dX6_readPlace_11 (by decide) h6 (r32 (rR (x := (-2))) rfl) (fun h97 => ?_) (fun h97 => ?_)
  · refine mr_iconst (pc := 18) (z := 0) dX6_readPlace_18 ?_
    exact J10 0 (rW (c := 0) (d := 1) (rR (x := 0)) rfl) (((hQ z1 q2 h3) z4 q5 h6).1 h97)
  have h98 : (-2) ≤ z4 ∧ z4 ≤ (-2) := (vc_X6_number_Wx_1 h97 h6)
  refine mr_iconst (pc := 14) (z := 1) dX6_readPlace_14 ?_
  refine sv_goto (pc := 15) (tgt := 19) dX6_readPlace_15 (by decide) ?_
  exact J10 1 (rW (c := 0) (d := 1) (rR (x := 1)) rfl) (((hQ z1 q2 h3) z4 q5 h6).2 h97)
def WL_X6_join_Wx_1 (w : mW) (μ : mM) (p1 : Int) (p2 : Int) (Q : mM → Prop) (rec1 : (Int × mM) → Prop) (s : (Int × mM)) : Prop := ∀ z235 : Int, ∀ μ236 : mM, s = (z235, μ236) → (0 ≤ z235 ∧ z235 ≤ 40) → mT w μ236 → mF [29999] w μ μ236 → ∀ z245 : Int, μ236 23 12 = z245 → (0 ≤ z245 ∧ z245 ≤ 40) → ((z245 ≤ z235) → Q μ236) ∧ ((z235 < z245) → ∀ z272 : Int, lUsh p1 z235 = z272 → ∀ z275 : Int, lAnd z272 (1 : Int) = z275 → ∀ z278 : Int, lCmp z275 (0 : Int) = z278 → ((z278 = 0) → rec1 ((z235 + 1), μ236)) ∧ ((¬ z278 = 0) → ∀ z293 : Int, μ236 29 (z235.toNat) = z293 → ((-9223372036854775808) ≤ z293 ∧ z293 ≤ 9223372036854775807) → ∀ z296 : Int, lOr z293 p2 = z296 → ∀ μ299 : mM, mU μ236 29 (z235.toNat) z296 μ299 → mT w μ299 → rec1 ((z235 + 1), μ299)))
def WP_X6_join_Wx (w : mW) (μ : mM) (p1 : Int) (p2 : Int) (Q : mM → Prop) : Prop := loopF (WL_X6_join_Wx_1 w μ p1 p2 Q) False 42 ((0 : Int), μ)
set_option maxRecDepth 4000 in
set_option maxHeartbeats 4000000 in
theorem c_X6_join_Wx {l : Launch} {D : va_G} {c : Nat → ClassId} {H0 : Heap} {sa : Nat × Nat × (Nat → Int32)} {w : mW} {μ : mM} (hw : mWF w) (hT : mT w μ) {p1 : Int} (hp1 : (-9223372036854775808) ≤ p1 ∧ p1 ≤ 9223372036854775807) {p2 : Int} (hp2 : (-9223372036854775808) ≤ p2 ∧ p2 ≤ 9223372036854775807) {Q : mM → Prop} (hQ : WP_X6_join_Wx w μ p1 p2 Q) : sC (gG l D c H0 sa) mX6_join 1 0 0 [.ref 23, jv p1, jv p2] (mk w μ) (qV w [29999] μ (fun μ1 => Q μ1 ∧ True)) := by
  refine sC.of rfl (by decide) (le_t rfl) ?_
  refine mr_lvE (lv' := [(0, .ref 23), (1, jv p1), (3, jv p2)]) rfl ?_
  refine mr_iconst (pc := 0) (z := 0) dX6_join_0 ?_
  refine mr_istore (pc := 1) (lv' := [(5, iv 0), (0, .ref 23), (1, jv p1), (3, jv p2)]) dX6_join_1 (by decide) rfl ?_
  have L237 : ∀ (nL237 : Nat) (z235 : Int) (μ236 : mM), mT w μ236 → mF [29999] w μ μ236 → (0 ≤ z235 ∧ z235 ≤ 40) → (41 - z235) < (nL237 : Int) → loopF (WL_X6_join_Wx_1 w μ p1 p2 Q) False nL237 (z235, μ236) → sV (gG l D c H0 sa) mX6_join (sRm 1 0 0) (sZ (gG l D c H0 sa) 0 0 (qV w [29999] μ (fun μ1 => Q μ1 ∧ True))) 3 [(0, .ref 23), (1, jv p1), (3, jv p2), (5, iv z235)] [] (mk w μ236) 0 0 := by
    intro nL237
    induction nL237 with
    | zero => intro z235 μ236 T239 F240 h238 h242 W243; exact ((vc_X12_waysMatch_7 h242 h238)).elim
    | succ nL237 ih244 =>
      intro z235 μ236 T239 F240 h238 h242 W243
      refine mr_iload (pc := 3) (z := z235) dX6_join_3 rfl ?_
      refine sv_aload_n (pc := 5) dX6_join_5 rfl rfl ?_
      refine gf_X6_12 (pc := 6) dX6_join_6 wF_X6_50 (A_23 hw) T239 fun z245 q246 h247 => ?_
      refine mr_icmp_ge (pc := 9) (tgt := 40) dX6_join_9 (by decide) (r32 h238 rfl) (r32 h247 rfl) (fun h269 => ?_) (fun h269 => ?_)
      · exact mr_vret dX6_join_40 rfl (le_t rfl) (le_t rfl) T239 (mF.call mF.refl F240 rfl) ⟨(((W243 z235 μ236 rfl h238 T239 F240) z245 q246 h247).1 h269), trivial⟩
      have h270 : 0 ≤ z235 ∧ z235 ≤ 39 := (vc_X12_waysMatch_15 h269 h238 h247)
      have h271 : 1 ≤ z245 ∧ z245 ≤ 40 := (vc_X12_waysMatch_16 h269 h270 h247)
      refine mr_lload_n (pc := 12) (z := p1) dX6_join_12 rfl rfl ?_
      refine mr_iload (pc := 13) (z := z235) dX6_join_13 rfl ?_
      refine mr_lushr (pc := 15) dX6_join_15 ?_
      refine mr_genL (r64i _) fun z272 q273 h274 => ?_
      refine mr_lconst (pc := 16) (z := 1) dX6_join_16 (by decide) ?_
      refine mr_land (pc := 17) dX6_join_17 ?_
      refine mr_genL (r64i _) fun z275 q276 h277 => ?_
      refine mr_lconst (pc := 18) (z := 0) dX6_join_18 (by decide) ?_
      refine mr_lcmp (pc := 19) dX6_join_19 ?_
      refine mr_gen (P := fun z => (-1) ≤ z ∧ z ≤ 1) (lg_cmp_r _ _) fun z278 q279 h280 => ?_
      refine mr_if_eq (pc := 20) (tgt := 34) dX6_join_20 (by decide) (r32 h280 rfl) (fun h291 => ?_) (fun h291 => ?_)
      · have h292 : 0 ≤ z278 ∧ z278 ≤ 0 := (vc_X12_waysMatch_5 h291 h280)
        refine mr_iinc (pc := 34) (lv' := [(5, iv (z235 + 1)), (0, .ref 23), (1, jv p1), (3, jv p2)]) dX6_join_34 rfl (by decide) rfl ?_
        refine sv_goto (pc := 37) (tgt := 3) dX6_join_37 (by decide) ?_
        refine mr_lvS (lv' := [(0, .ref 23), (1, jv p1), (3, jv p2), (5, iv (z235 + 1))]) (List.forall_mem_cons.mpr ⟨rfl, List.forall_mem_cons.mpr ⟨rfl, List.forall_mem_cons.mpr ⟨rfl, List.forall_mem_cons.mpr ⟨rfl, fun _ h => absurd h List.not_mem_nil⟩⟩⟩⟩) ?_
        exact ih244 (z235 + 1) μ236 T239 (mF.call mF.refl F240 rfl) (rW (c := 0) (d := 40) (rAdd (e := 1) (f := 40) h270 (rR (x := 1)) rfl) rfl) (vc_X12_waysMatch_17 (nS h242) h269 h270 h271) (((((((W243 z235 μ236 rfl h238 T239 F240) z245 q246 h247).2 h269) z272 q273) z275 q276) z278 q279).1 h291)
      refine sv_aload_n (pc := 23) dX6_join_23 rfl rfl ?_
      refine gf_X6_5 (pc := 24) dX6_join_24 wF_X6_27 (A_23 hw) T239 ?_
      refine mr_iload (pc := 27) (z := z235) dX6_join_27 rfl ?_
      refine sv_dup2 (pc := 29) dX6_join_29 rfl rfl ?_
      refine la_29 (pc := 30) dX6_join_30 (A_29 hw) T239 (rIx (n := 40) h270 rfl) fun z293 q294 h295 => ?_
      refine mr_lload_n (pc := 31) (z := p2) dX6_join_31 rfl rfl ?_
      refine mr_lor (pc := 32) dX6_join_32 ?_
      refine mr_genL (r64i _) fun z296 q297 h298 => ?_
      refine ss_29 (pc := 33) dX6_join_33 (A_29 hw) T239 (rIx (n := 40) h270 rfl) h298 fun μ299 u300 T301 => ?_
      refine mr_iinc (pc := 34) (lv' := [(5, iv (z235 + 1)), (0, .ref 23), (1, jv p1), (3, jv p2)]) dX6_join_34 rfl (by decide) rfl ?_
      refine sv_goto (pc := 37) (tgt := 3) dX6_join_37 (by decide) ?_
      refine mr_lvS (lv' := [(0, .ref 23), (1, jv p1), (3, jv p2), (5, iv (z235 + 1))]) (List.forall_mem_cons.mpr ⟨rfl, List.forall_mem_cons.mpr ⟨rfl, List.forall_mem_cons.mpr ⟨rfl, List.forall_mem_cons.mpr ⟨rfl, fun _ h => absurd h List.not_mem_nil⟩⟩⟩⟩) ?_
      exact ih244 (z235 + 1) μ299 T301 (mF.up (mF.call mF.refl F240 rfl) (A_29 hw) u300 rfl) (rW (c := 0) (d := 40) (rAdd (e := 1) (f := 40) h270 (rR (x := 1)) rfl) rfl) (vc_X12_waysMatch_17 (nS h242) h269 h270 h271) ((((((((((W243 z235 μ236 rfl h238 T239 F240) z245 q246 h247).2 h269) z272 q273) z275 q276) z278 q279).2 h291) z293 q294 h295) z296 q297) μ299 u300 T301)
  refine mr_lvS (lv' := [(0, .ref 23), (1, jv p1), (3, jv p2), (5, iv 0)]) (List.forall_mem_cons.mpr ⟨rfl, List.forall_mem_cons.mpr ⟨rfl, List.forall_mem_cons.mpr ⟨rfl, List.forall_mem_cons.mpr ⟨rfl, fun _ h => absurd h List.not_mem_nil⟩⟩⟩⟩) ?_
  exact L237 42 0 μ hT mF.refl (rW (c := 0) (d := 40) (rR (x := 0)) rfl) vc_X12_waysMatch_14 hQ
def WJ_X6_readRepeat_Wx_5 (w : mW) (Q : mM → Prop) (z8 : Int) (z18 : Int) (μ46 : mM) (μ70 : mM) : Prop := mT w μ70 → mF [23009] w μ46 μ70 → ∀ z76 : Int, μ70 23 15 = z76 → (0 ≤ z76 ∧ z76 ≤ 1) → ((¬ z76 = 0) → ∀ μ87 : mM, mU μ70 23 (15) (1 : Int) μ87 → mT w μ87 → Q μ87) ∧ ((z76 = 0) → ((¬ z8 = 0) → ∀ μ97 : mM, mU μ70 23 (15) (1 : Int) μ97 → mT w μ97 → Q μ97) ∧ ((z8 = 0) → ((z18 = 0) → ∀ μ105 : mM, mU μ70 23 (15) (0 : Int) μ105 → mT w μ105 → Q μ105) ∧ ((¬ z18 = 0) → ∀ μ109 : mM, mU μ70 23 (15) (1 : Int) μ109 → mT w μ109 → Q μ109)))
def WJ_X6_readRepeat_Wx_4 (w : mW) (μ : mM) (Q : mM → Prop) (z8 : Int) (z13 : Int) (z18 : Int) (μ46 : mM) : Prop := mT w μ46 → mF [29999] w μ μ46 → ((¬ z8 = 0) → WP_X6_step_Wx w μ46  (fun μ114 => mT w μ114 → mF [23009] w μ46 μ114 → (WJ_X6_readRepeat_Wx_5 w Q z8 z18 μ46) μ114)) ∧ ((z8 = 0) → ((¬ z13 = 0) → WP_X6_step_Wx w μ46  (fun μ121 => mT w μ121 → mF [23009] w μ46 μ121 → (WJ_X6_readRepeat_Wx_5 w Q z8 z18 μ46) μ121)) ∧ ((z13 = 0) → ((z18 = 0) → (WJ_X6_readRepeat_Wx_5 w Q z8 z18 μ46) μ46) ∧ ((¬ z18 = 0) → WP_X6_step_Wx w μ46  (fun μ129 => mT w μ129 → mF [23009] w μ46 μ129 → (WJ_X6_readRepeat_Wx_5 w Q z8 z18 μ46) μ129))))
def WJ_X6_readRepeat_Wx_3 (w : mW) (μ : mM) (Q : mM → Prop) (z8 : Int) (z13 : Int) (z18 : Int) : Prop := (0 ≤ z18 ∧ z18 ≤ 1) → ((¬ z8 = 0) → ∀ z135 : Int, μ 23 17 = z135 → ((-9223372036854775808) ≤ z135 ∧ z135 ≤ 9223372036854775807) → ∀ z138 : Int, μ 23 16 = z138 → ((-9223372036854775808) ≤ z138 ∧ z138 ≤ 9223372036854775807) → WP_X6_join_Wx w μ z135 z138 (fun μ141 => mT w μ141 → mF [29999] w μ μ141 → (WJ_X6_readRepeat_Wx_4 w μ Q z8 z13 z18) μ141)) ∧ ((z8 = 0) → ((z13 = 0) → (WJ_X6_readRepeat_Wx_4 w μ Q z8 z13 z18) μ) ∧ ((¬ z13 = 0) → ∀ z149 : Int, μ 23 17 = z149 → ((-9223372036854775808) ≤ z149 ∧ z149 ≤ 9223372036854775807) → ∀ z152 : Int, μ 23 16 = z152 → ((-9223372036854775808) ≤ z152 ∧ z152 ≤ 9223372036854775807) → WP_X6_join_Wx w μ z149 z152 (fun μ155 => mT w μ155 → mF [29999] w μ μ155 → (WJ_X6_readRepeat_Wx_4 w μ Q z8 z13 z18) μ155)))
def WJ_X6_readRepeat_Wx_2 (w : mW) (μ : mM) (Q : mM → Prop) (z4 : Int) (z8 : Int) (z13 : Int) : Prop := (0 ≤ z13 ∧ z13 ≤ 1) → ((¬ z4 = 1063) → (WJ_X6_readRepeat_Wx_3 w μ Q z8 z13) (0 : Int)) ∧ ((z4 = 1063) → (WJ_X6_readRepeat_Wx_3 w μ Q z8 z13) (1 : Int))
def WJ_X6_readRepeat_Wx_1 (w : mW) (μ : mM) (Q : mM → Prop) (z4 : Int) (z8 : Int) : Prop := (0 ≤ z8 ∧ z8 ≤ 1) → ((¬ z4 = 1043) → (WJ_X6_readRepeat_Wx_2 w μ Q z4 z8) (0 : Int)) ∧ ((z4 = 1043) → (WJ_X6_readRepeat_Wx_2 w μ Q z4 z8) (1 : Int))
def WP_X6_readRepeat_Wx (w : mW) (μ : mM) (Q : mM → Prop) : Prop := ∀ z1 : Int, μ 23 9 = z1 → (0 ≤ z1 ∧ z1 ≤ 1000) → ∀ z4 : Int, μ 24 (z1.toNat) = z4 → ((-2147483648) ≤ z4 ∧ z4 ≤ 2147483647) → ((¬ z4 = 1042) → (WJ_X6_readRepeat_Wx_1 w μ Q z4) (0 : Int)) ∧ ((z4 = 1042) → (WJ_X6_readRepeat_Wx_1 w μ Q z4) (1 : Int))
theorem vc_X6_readRepeat_Wx_9 {z4 : Int} (h0 : z4 = 1063) (h1 : (-2147483648) ≤ z4 ∧ z4 ≤ 2147483647) : 1063 ≤ z4 ∧ z4 ≤ 1063 := by omega
theorem vc_X6_readRepeat_Wx_10 {z4 : Int} (h0 : z4 = 1043) (h1 : (-2147483648) ≤ z4 ∧ z4 ≤ 2147483647) : 1043 ≤ z4 ∧ z4 ≤ 1043 := by omega
theorem vc_X6_readRepeat_Wx_11 {z4 : Int} (h0 : z4 = 1042) (h1 : (-2147483648) ≤ z4 ∧ z4 ≤ 2147483647) : 1042 ≤ z4 ∧ z4 ≤ 1042 := by omega
set_option maxRecDepth 4000 in
set_option maxHeartbeats 4000000 in
theorem c_X6_readRepeat_Wx {l : Launch} {D : va_G} {c : Nat → ClassId} {H0 : Heap} {sa : Nat × Nat × (Nat → Int32)} {w : mW} {μ : mM} (hw : mWF w) (hT : mT w μ) {Q : mM → Prop} (hQ : WP_X6_readRepeat_Wx w μ  Q) : sC (gG l D c H0 sa) mX6_readRepeat 2 0 0 [.ref 23] (mk w μ) (qV w [23009, 23015, 29999] μ (fun μ1 => Q μ1 ∧ True)) := by
  refine sC.of rfl (by decide) (le_t rfl) ?_
  refine mr_lvE (lv' := [(0, .ref 23)]) rfl ?_
  refine sv_aload_n (pc := 0) dX6_readRepeat_0 rfl rfl ?_
  refine gf_X6_0 (pc := 1) dX6_readRepeat_1 wF_X6_9 (A_23 hw) hT ?_
  refine sv_aload_n (pc := 4) dX6_readRepeat_4 rfl rfl ?_
  refine gf_X6_9 (pc := 5) dX6_readRepeat_5 wF_X6_63 (A_23 hw) hT fun z1 q2 h3 => ?_
  refine la_24 (pc := 8) dX6_readRepeat_8 (A_24 hw) hT (rIx (n := 1001) h3 rfl) fun z4 q5 h6 => ?_
  refine mr_sipush (pc := 9) (z := 1042) dX6_readRepeat_9 (by decide) ?_
  have J10 : ∀ (z8 : Int), ((0 ≤ z8 ∧ z8 ≤ 1)) → ((WJ_X6_readRepeat_Wx_1 w μ Q z4) z8) → sV (gG l D c H0 sa) mX6_readRepeat (sRm 2 0 0) (sZ (gG l D c H0 sa) 0 0 (qV w [23009, 23015, 29999] μ (fun μ1 => Q μ1 ∧ True))) 20 [(0, .ref 23)] [iv z8] (mk w μ) 0 0 := by
    intro z8 h9 W11
    refine mr_istore_n (pc := 20) (lv' := [(1, iv z8), (0, .ref 23)]) dX6_readRepeat_20 rfl (by decide) rfl ?_
    refine sv_aload_n (pc := 21) dX6_readRepeat_21 rfl rfl ?_
    refine gf_X6_0 (pc := 22) dX6_readRepeat_22 wF_X6_9 (A_23 hw) hT ?_
    refine sv_aload_n (pc := 25) dX6_readRepeat_25 rfl rfl ?_
    refine gk_X6_9 (pc := 26) dX6_readRepeat_26 wF_X6_63 (A_23 hw) q2 ?_
    refine lk_24 (pc := 29) dX6_readRepeat_29 (A_24 hw) (rIx (n := 1001) h3 rfl) q5 ?_
    refine mr_sipush (pc := 30) (z := 1043) dX6_readRepeat_30 (by decide) ?_
    have J15 : ∀ (z13 : Int), ((0 ≤ z13 ∧ z13 ≤ 1)) → ((WJ_X6_readRepeat_Wx_2 w μ Q z4 z8) z13) → sV (gG l D c H0 sa) mX6_readRepeat (sRm 2 0 0) (sZ (gG l D c H0 sa) 0 0 (qV w [23009, 23015, 29999] μ (fun μ1 => Q μ1 ∧ True))) 41 [(0, .ref 23), (1, iv z8)] [iv z13] (mk w μ) 0 0 := by
      intro z13 h14 W16
      refine mr_istore_n (pc := 41) (lv' := [(2, iv z13), (0, .ref 23), (1, iv z8)]) dX6_readRepeat_41 rfl (by decide) rfl ?_
      refine sv_aload_n (pc := 42) dX6_readRepeat_42 rfl rfl ?_
      refine gf_X6_0 (pc := 43) dX6_readRepeat_43 wF_X6_9 (A_23 hw) hT ?_
      refine sv_aload_n (pc := 46) dX6_readRepeat_46 rfl rfl ?_
      refine gk_X6_9 (pc := 47) dX6_readRepeat_47 wF_X6_63 (A_23 hw) q2 ?_
      refine lk_24 (pc := 50) dX6_readRepeat_50 (A_24 hw) (rIx (n := 1001) h3 rfl) q5 ?_
      refine mr_sipush (pc := 51) (z := 1063) dX6_readRepeat_51 (by decide) ?_
      have J20 : ∀ (z18 : Int), ((0 ≤ z18 ∧ z18 ≤ 1)) → ((WJ_X6_readRepeat_Wx_3 w μ Q z8 z13) z18) → sV (gG l D c H0 sa) mX6_readRepeat (sRm 2 0 0) (sZ (gG l D c H0 sa) 0 0 (qV w [23009, 23015, 29999] μ (fun μ1 => Q μ1 ∧ True))) 62 [(0, .ref 23), (1, iv z8), (2, iv z13)] [iv z18] (mk w μ) 0 0 := by
        intro z18 h19 W21
        refine mr_istore_n (pc := 62) (lv' := [(3, iv z18), (0, .ref 23), (1, iv z8), (2, iv z13)]) dX6_readRepeat_62 rfl (by decide) rfl ?_
        refine mr_iload_n (pc := 63) (z := z8) dX6_readRepeat_63 rfl rfl ?_
        have J50 : ∀ (μ46 : mM), (mT w μ46) → (mF [29999] w μ μ46) → ((WJ_X6_readRepeat_Wx_4 w μ Q z8 z13 z18) μ46) → sV (gG l D c H0 sa) mX6_readRepeat (sRm 2 0 0) (sZ (gG l D c H0 sa) 0 0 (qV w [23009, 23015, 29999] μ (fun μ1 => Q μ1 ∧ True))) 83 [(0, .ref 23), (1, iv z8), (2, iv z13), (3, iv z18)] [] (mk w μ46) 0 0 := by
          intro μ46 T47 F48 W51
          refine mr_iload_n (pc := 83) (z := z8) dX6_readRepeat_83 rfl rfl ?_
          have J74 : ∀ (μ70 : mM), (mT w μ70) → (mF [23009] w μ46 μ70) → ((WJ_X6_readRepeat_Wx_5 w Q z8 z18 μ46) μ70) → sV (gG l D c H0 sa) mX6_readRepeat (sRm 2 0 0) (sZ (gG l D c H0 sa) 0 0 (qV w [23009, 23015, 29999] μ (fun μ1 => Q μ1 ∧ True))) 99 [(0, .ref 23), (1, iv z8), (3, iv z18)] [] (mk w μ70) 0 0 := by
            intro μ70 T71 F72 W75
            refine sv_aload_n (pc := 99) dX6_readRepeat_99 rfl rfl ?_
            refine sv_aload_n (pc := 100) dX6_readRepeat_100 rfl rfl ?_
            refine gf_X6_15 (pc := 101) dX6_readRepeat_101 wF_X6_186 (A_23 hw) T71 fun z76 q77 h78 => ?_
            refine mr_if_ne (pc := 104) (tgt := 115) dX6_readRepeat_104 (by decide) (r32 h78 rfl) (fun h85 => ?_) (fun h85 => ?_)
            · have h86 : 1 ≤ z76 ∧ z76 ≤ 1 := (vc_X12_ring_24 h85 h78)
              refine mr_iconst (pc := 115) (z := 1) dX6_readRepeat_115 ?_
              refine sv_goto (pc := 116) (tgt := 120) dX6_readRepeat_116 (by decide) ?_
              refine pf_X6_15 (pc := 120) dX6_readRepeat_120 wF_X6_186 (A_23 hw) T71 (rW (c := 0) (d := 1) (rR (x := 1)) rfl) fun μ87 u88 T89 => ?_
              exact mr_vret dX6_readRepeat_123 rfl (le_t rfl) (le_t rfl) T89 (mF.up (mF.call (mF.call mF.refl F48 rfl) F72 rfl) (A_23 hw) u88 rfl) ⟨((((W75 T71 F72) z76 q77 h78).1 h85) μ87 u88 T89), trivial⟩
            have h90 : 0 ≤ z76 ∧ z76 ≤ 0 := (vc_X12_ring_22 h85 h78)
            refine mr_iload_n (pc := 107) (z := z8) dX6_readRepeat_107 rfl rfl ?_
            refine mr_if_ne (pc := 108) (tgt := 115) dX6_readRepeat_108 (by decide) (r32 h9 rfl) (fun h95 => ?_) (fun h95 => ?_)
            · have h96 : 1 ≤ z8 ∧ z8 ≤ 1 := (vc_X12_ring_24 h95 h9)
              refine mr_iconst (pc := 115) (z := 1) dX6_readRepeat_115 ?_
              refine sv_goto (pc := 116) (tgt := 120) dX6_readRepeat_116 (by decide) ?_
              refine pf_X6_15 (pc := 120) dX6_readRepeat_120 wF_X6_186 (A_23 hw) T71 (rW (c := 0) (d := 1) (rR (x := 1)) rfl) fun μ97 u98 T99 => ?_
              exact mr_vret dX6_readRepeat_123 rfl (le_t rfl) (le_t rfl) T99 (mF.up (mF.call (mF.call mF.refl F48 rfl) F72 rfl) (A_23 hw) u98 rfl) ⟨(((((W75 T71 F72) z76 q77 h78).2 h85).1 h95) μ97 u98 T99), trivial⟩
            have h100 : 0 ≤ z8 ∧ z8 ≤ 0 := (vc_X12_ring_22 h95 h9)
            refine mr_iload_n (pc := 111) (z := z18) dX6_readRepeat_111 rfl rfl ?_
            refine mr_if_eq (pc := 112) (tgt := 119) dX6_readRepeat_112 (by decide) (r32 h19 rfl) (fun h103 => ?_) (fun h103 => ?_)
            · have h104 : 0 ≤ z18 ∧ z18 ≤ 0 := (vc_X12_ring_22 h103 h19)
              refine mr_iconst (pc := 119) (z := 0) dX6_readRepeat_119 ?_
              refine pf_X6_15 (pc := 120) dX6_readRepeat_120 wF_X6_186 (A_23 hw) T71 (rW (c := 0) (d := 1) (rR (x := 0)) rfl) fun μ105 u106 T107 => ?_
              exact mr_vret dX6_readRepeat_123 rfl (le_t rfl) (le_t rfl) T107 (mF.up (mF.call (mF.call mF.refl F48 rfl) F72 rfl) (A_23 hw) u106 rfl) ⟨((((((W75 T71 F72) z76 q77 h78).2 h85).2 h95).1 h103) μ105 u106 T107), trivial⟩
            have h108 : 1 ≤ z18 ∧ z18 ≤ 1 := (vc_X12_ring_24 h103 h19)
            refine mr_iconst (pc := 115) (z := 1) dX6_readRepeat_115 ?_
            refine sv_goto (pc := 116) (tgt := 120) dX6_readRepeat_116 (by decide) ?_
            refine pf_X6_15 (pc := 120) dX6_readRepeat_120 wF_X6_186 (A_23 hw) T71 (rW (c := 0) (d := 1) (rR (x := 1)) rfl) fun μ109 u110 T111 => ?_
            exact mr_vret dX6_readRepeat_123 rfl (le_t rfl) (le_t rfl) T111 (mF.up (mF.call (mF.call mF.refl F48 rfl) F72 rfl) (A_23 hw) u110 rfl) ⟨((((((W75 T71 F72) z76 q77 h78).2 h85).2 h95).2 h103) μ109 u110 T111), trivial⟩
          refine mr_if_ne (pc := 84) (tgt := 95) dX6_readRepeat_84 (by decide) (r32 h9 rfl) (fun h112 => ?_) (fun h112 => ?_)
          · have h113 : 1 ≤ z8 ∧ z8 ≤ 1 := (vc_X12_ring_24 h112 h9)
            refine sv_aload_n (pc := 95) dX6_readRepeat_95 rfl rfl ?_
            refine mr_cVV (pc := 96) (c_X6_step_Wx hw T47 ((W51 T47 F48).1 h112)) (gOk _ _ _ _ _) dX6_readRepeat_96 (tX6_step _ _ _ _ _) ⟨wV_X6_step, wL_X6_step⟩ wM_X6_117 (gCX6 _ _ _ _ _) rfl (A_23 hw) rfl ⟨le_t rfl, le_t rfl⟩ ⟨le_t rfl, le_t rfl⟩ rfl (le_t rfl) fun μ114 T115 F116 h117 => ?_
            refine mr_lvS (lv' := [(0, .ref 23), (1, iv z8), (3, iv z18)]) (List.forall_mem_cons.mpr ⟨rfl, List.forall_mem_cons.mpr ⟨rfl, List.forall_mem_cons.mpr ⟨rfl, fun _ h => absurd h List.not_mem_nil⟩⟩⟩) ?_
            exact J74 μ114 T115 (mF.call mF.refl F116 rfl) (h117.1 T115 F116)
          have h118 : 0 ≤ z8 ∧ z8 ≤ 0 := (vc_X12_ring_22 h112 h9)
          refine mr_iload_n (pc := 87) (z := z13) dX6_readRepeat_87 rfl rfl ?_
          refine mr_if_ne (pc := 88) (tgt := 95) dX6_readRepeat_88 (by decide) (r32 h14 rfl) (fun h119 => ?_) (fun h119 => ?_)
          · have h120 : 1 ≤ z13 ∧ z13 ≤ 1 := (vc_X12_ring_24 h119 h14)
            refine sv_aload_n (pc := 95) dX6_readRepeat_95 rfl rfl ?_
            refine mr_cVV (pc := 96) (c_X6_step_Wx hw T47 (((W51 T47 F48).2 h112).1 h119)) (gOk _ _ _ _ _) dX6_readRepeat_96 (tX6_step _ _ _ _ _) ⟨wV_X6_step, wL_X6_step⟩ wM_X6_117 (gCX6 _ _ _ _ _) rfl (A_23 hw) rfl ⟨le_t rfl, le_t rfl⟩ ⟨le_t rfl, le_t rfl⟩ rfl (le_t rfl) fun μ121 T122 F123 h124 => ?_
            refine mr_lvS (lv' := [(0, .ref 23), (1, iv z8), (3, iv z18)]) (List.forall_mem_cons.mpr ⟨rfl, List.forall_mem_cons.mpr ⟨rfl, List.forall_mem_cons.mpr ⟨rfl, fun _ h => absurd h List.not_mem_nil⟩⟩⟩) ?_
            exact J74 μ121 T122 (mF.call mF.refl F123 rfl) (h124.1 T122 F123)
          have h125 : 0 ≤ z13 ∧ z13 ≤ 0 := (vc_X12_ring_22 h119 h14)
          refine mr_iload_n (pc := 91) (z := z18) dX6_readRepeat_91 rfl rfl ?_
          refine mr_if_eq (pc := 92) (tgt := 99) dX6_readRepeat_92 (by decide) (r32 h19 rfl) (fun h126 => ?_) (fun h126 => ?_)
          · have h127 : 0 ≤ z18 ∧ z18 ≤ 0 := (vc_X12_ring_22 h126 h19)
            refine mr_lvS (lv' := [(0, .ref 23), (1, iv z8), (3, iv z18)]) (List.forall_mem_cons.mpr ⟨rfl, List.forall_mem_cons.mpr ⟨rfl, List.forall_mem_cons.mpr ⟨rfl, fun _ h => absurd h List.not_mem_nil⟩⟩⟩) ?_
            exact J74 μ46 T47 mF.refl ((((W51 T47 F48).2 h112).2 h119).1 h126)
          have h128 : 1 ≤ z18 ∧ z18 ≤ 1 := (vc_X12_ring_24 h126 h19)
          refine sv_aload_n (pc := 95) dX6_readRepeat_95 rfl rfl ?_
          refine mr_cVV (pc := 96) (c_X6_step_Wx hw T47 ((((W51 T47 F48).2 h112).2 h119).2 h126)) (gOk _ _ _ _ _) dX6_readRepeat_96 (tX6_step _ _ _ _ _) ⟨wV_X6_step, wL_X6_step⟩ wM_X6_117 (gCX6 _ _ _ _ _) rfl (A_23 hw) rfl ⟨le_t rfl, le_t rfl⟩ ⟨le_t rfl, le_t rfl⟩ rfl (le_t rfl) fun μ129 T130 F131 h132 => ?_
          refine mr_lvS (lv' := [(0, .ref 23), (1, iv z8), (3, iv z18)]) (List.forall_mem_cons.mpr ⟨rfl, List.forall_mem_cons.mpr ⟨rfl, List.forall_mem_cons.mpr ⟨rfl, fun _ h => absurd h List.not_mem_nil⟩⟩⟩) ?_
          exact J74 μ129 T130 (mF.call mF.refl F131 rfl) (h132.1 T130 F131)
        refine mr_if_ne (pc := 64) (tgt := 71) dX6_readRepeat_64 (by decide) (r32 h9 rfl) (fun h133 => ?_) (fun h133 => ?_)
        · have h134 : 1 ≤ z8 ∧ z8 ≤ 1 := (vc_X12_ring_24 h133 h9)
          refine sv_aload_n (pc := 71) dX6_readRepeat_71 rfl rfl ?_
          refine sv_aload_n (pc := 72) dX6_readRepeat_72 rfl rfl ?_
          refine gf_X6_17 (pc := 73) dX6_readRepeat_73 wF_X6_183 (A_23 hw) hT fun z135 q136 h137 => ?_
          refine sv_aload_n (pc := 76) dX6_readRepeat_76 rfl rfl ?_
          refine gf_X6_16 (pc := 77) dX6_readRepeat_77 wF_X6_179 (A_23 hw) hT fun z138 q139 h140 => ?_
          refine mr_cVV (pc := 80) (c_X6_join_Wx hw hT h137 h140 ((((W21 h19).1 h133) z135 q136 h137) z138 q139 h140)) (gOk _ _ _ _ _) dX6_readRepeat_80 (tX6_join _ _ _ _ _) ⟨wV_X6_join, wL_X6_join⟩ wM_X6_202 (gCX6 _ _ _ _ _) rfl (A_23 hw) rfl ⟨le_t rfl, le_t rfl⟩ ⟨le_t rfl, le_t rfl⟩ rfl (le_t rfl) fun μ141 T142 F143 h144 => ?_
          refine mr_lvS (lv' := [(0, .ref 23), (1, iv z8), (2, iv z13), (3, iv z18)]) (List.forall_mem_cons.mpr ⟨rfl, List.forall_mem_cons.mpr ⟨rfl, List.forall_mem_cons.mpr ⟨rfl, List.forall_mem_cons.mpr ⟨rfl, fun _ h => absurd h List.not_mem_nil⟩⟩⟩⟩) ?_
          exact J50 μ141 T142 (mF.call mF.refl F143 rfl) (h144.1 T142 F143)
        have h145 : 0 ≤ z8 ∧ z8 ≤ 0 := (vc_X12_ring_22 h133 h9)
        refine mr_iload_n (pc := 67) (z := z13) dX6_readRepeat_67 rfl rfl ?_
        refine mr_if_eq (pc := 68) (tgt := 83) dX6_readRepeat_68 (by decide) (r32 h14 rfl) (fun h146 => ?_) (fun h146 => ?_)
        · have h147 : 0 ≤ z13 ∧ z13 ≤ 0 := (vc_X12_ring_22 h146 h14)
          refine mr_lvS (lv' := [(0, .ref 23), (1, iv z8), (2, iv z13), (3, iv z18)]) (List.forall_mem_cons.mpr ⟨rfl, List.forall_mem_cons.mpr ⟨rfl, List.forall_mem_cons.mpr ⟨rfl, List.forall_mem_cons.mpr ⟨rfl, fun _ h => absurd h List.not_mem_nil⟩⟩⟩⟩) ?_
          exact J50 μ hT mF.refl (((W21 h19).2 h133).1 h146)
        have h148 : 1 ≤ z13 ∧ z13 ≤ 1 := (vc_X12_ring_24 h146 h14)
        refine sv_aload_n (pc := 71) dX6_readRepeat_71 rfl rfl ?_
        refine sv_aload_n (pc := 72) dX6_readRepeat_72 rfl rfl ?_
        refine gf_X6_17 (pc := 73) dX6_readRepeat_73 wF_X6_183 (A_23 hw) hT fun z149 q150 h151 => ?_
        refine sv_aload_n (pc := 76) dX6_readRepeat_76 rfl rfl ?_
        refine gf_X6_16 (pc := 77) dX6_readRepeat_77 wF_X6_179 (A_23 hw) hT fun z152 q153 h154 => ?_
        refine mr_cVV (pc := 80) (c_X6_join_Wx hw hT h151 h154 (((((W21 h19).2 h133).2 h146) z149 q150 h151) z152 q153 h154)) (gOk _ _ _ _ _) dX6_readRepeat_80 (tX6_join _ _ _ _ _) ⟨wV_X6_join, wL_X6_join⟩ wM_X6_202 (gCX6 _ _ _ _ _) rfl (A_23 hw) rfl ⟨le_t rfl, le_t rfl⟩ ⟨le_t rfl, le_t rfl⟩ rfl (le_t rfl) fun μ155 T156 F157 h158 => ?_
        refine mr_lvS (lv' := [(0, .ref 23), (1, iv z8), (2, iv z13), (3, iv z18)]) (List.forall_mem_cons.mpr ⟨rfl, List.forall_mem_cons.mpr ⟨rfl, List.forall_mem_cons.mpr ⟨rfl, List.forall_mem_cons.mpr ⟨rfl, fun _ h => absurd h List.not_mem_nil⟩⟩⟩⟩) ?_
        exact J50 μ155 T156 (mF.call mF.refl F157 rfl) (h158.1 T156 F157)
      refine mr_icmp_ne (pc := 54) (tgt := 61) dX6_readRepeat_54 (by decide) h6 (r32 (rR (x := 1063)) rfl) (fun h159 => ?_) (fun h159 => ?_)
      · refine mr_iconst (pc := 61) (z := 0) dX6_readRepeat_61 ?_
        refine mr_lvS (lv' := [(0, .ref 23), (1, iv z8), (2, iv z13)]) (List.forall_mem_cons.mpr ⟨rfl, List.forall_mem_cons.mpr ⟨rfl, List.forall_mem_cons.mpr ⟨rfl, fun _ h => absurd h List.not_mem_nil⟩⟩⟩) ?_
        exact J20 0 (rW (c := 0) (d := 1) (rR (x := 0)) rfl) ((W16 h14).1 h159)
      have h160 : 1063 ≤ z4 ∧ z4 ≤ 1063 := (vc_X6_readRepeat_Wx_9 h159 h6)
      refine mr_iconst (pc := 57) (z := 1) dX6_readRepeat_57 ?_
      refine sv_goto (pc := 58) (tgt := 62) dX6_readRepeat_58 (by decide) ?_
      refine mr_lvS (lv' := [(0, .ref 23), (1, iv z8), (2, iv z13)]) (List.forall_mem_cons.mpr ⟨rfl, List.forall_mem_cons.mpr ⟨rfl, List.forall_mem_cons.mpr ⟨rfl, fun _ h => absurd h List.not_mem_nil⟩⟩⟩) ?_
      exact J20 1 (rW (c := 0) (d := 1) (rR (x := 1)) rfl) ((W16 h14).2 h159)
    refine mr_icmp_ne (pc := 33) (tgt := 40) dX6_readRepeat_33 (by decide) h6 (r32 (rR (x := 1043)) rfl) (fun h161 => ?_) (fun h161 => ?_)
    · refine mr_iconst (pc := 40) (z := 0) dX6_readRepeat_40 ?_
      refine mr_lvS (lv' := [(0, .ref 23), (1, iv z8)]) (List.forall_mem_cons.mpr ⟨rfl, List.forall_mem_cons.mpr ⟨rfl, fun _ h => absurd h List.not_mem_nil⟩⟩) ?_
      exact J15 0 (rW (c := 0) (d := 1) (rR (x := 0)) rfl) ((W11 h9).1 h161)
    have h162 : 1043 ≤ z4 ∧ z4 ≤ 1043 := (vc_X6_readRepeat_Wx_10 h161 h6)
    refine mr_iconst (pc := 36) (z := 1) dX6_readRepeat_36 ?_
    refine sv_goto (pc := 37) (tgt := 41) dX6_readRepeat_37 (by decide) ?_
    refine mr_lvS (lv' := [(0, .ref 23), (1, iv z8)]) (List.forall_mem_cons.mpr ⟨rfl, List.forall_mem_cons.mpr ⟨rfl, fun _ h => absurd h List.not_mem_nil⟩⟩) ?_
    exact J15 1 (rW (c := 0) (d := 1) (rR (x := 1)) rfl) ((W11 h9).2 h161)
  refine mr_icmp_ne (pc := 12) (tgt := 19) dX6_readRepeat_12 (by decide) h6 (r32 (rR (x := 1042)) rfl) (fun h163 => ?_) (fun h163 => ?_)
  · refine mr_iconst (pc := 19) (z := 0) dX6_readRepeat_19 ?_
    exact J10 0 (rW (c := 0) (d := 1) (rR (x := 0)) rfl) (((hQ z1 q2 h3) z4 q5 h6).1 h163)
  have h164 : 1042 ≤ z4 ∧ z4 ≤ 1042 := (vc_X6_readRepeat_Wx_11 h163 h6)
  refine mr_iconst (pc := 15) (z := 1) dX6_readRepeat_15 ?_
  refine sv_goto (pc := 16) (tgt := 20) dX6_readRepeat_16 (by decide) ?_
  exact J10 1 (rW (c := 0) (d := 1) (rR (x := 1)) rfl) (((hQ z1 q2 h3) z4 q5 h6).2 h163)
def WJ_X6_readBranches_Wx6_4 (w : mW) (rec1 : (Int × Int × Int × Int × Int × mM) → Prop) (z2520 : Int) (z2519 : Int) (z2517 : Int) (z4031 : Int) (z4030 : Int) (μ4033 : mM) (z4117 : Int) : Prop := (0 ≤ z4117 ∧ z4117 ≤ 1) → ∀ z4121 : Int, lOr z2520 z4031 = z4121 → ∀ z4124 : Int, lOr z2519 z4030 = z4124 → WP_X6_take_Wx w μ4033 (1124) (fun z4131 μ4127 => mT w μ4127 → mF [23009] w μ4033 μ4127 → (0 ≤ z4131 ∧ z4131 ≤ 1) → rec1 (z4117, z4121, z4124, z4131, (z2517 + 1), μ4127))
def WJ_X6_readBranches_Wx6_3 (w : mW) (rec1 : (Int × Int × Int × Int × Int × mM) → Prop) (z2521 : Int) (z2520 : Int) (z2519 : Int) (z2517 : Int) (z4032 : Int) (z4031 : Int) (z4030 : Int) (μ4033 : mM) : Prop := ((¬ z2521 = 0) → (WJ_X6_readBranches_Wx6_4 w rec1 z2520 z2519 z2517 z4031 z4030 μ4033) (1 : Int)) ∧ ((z2521 = 0) → ((z4032 = 0) → (WJ_X6_readBranches_Wx6_4 w rec1 z2520 z2519 z2517 z4031 z4030 μ4033) (0 : Int)) ∧ ((¬ z4032 = 0) → (WJ_X6_readBranches_Wx6_4 w rec1 z2520 z2519 z2517 z4031 z4030 μ4033) (1 : Int)))
def WJ_X6_readBranches_Wx6_7 (rec2 : (Int × Int × Int × Int × mM) → Prop) (z4032 : Int) (z4029 : Int) (μ4178 : mM) (z4187 : Int) (z4191 : Int) (z4205 : Int) : Prop := ((-9223372036854775808) ≤ z4205 ∧ z4205 ≤ 9223372036854775807) → ((z4032 = 0) → rec2 ((0 : Int), z4187, z4205, (z4029 + 1), μ4178)) ∧ ((¬ z4032 = 0) → ((z4191 = 0) → rec2 ((0 : Int), z4187, z4205, (z4029 + 1), μ4178)) ∧ ((¬ z4191 = 0) → rec2 ((1 : Int), z4187, z4205, (z4029 + 1), μ4178)))
def WJ_X6_readBranches_Wx6_6 (rec2 : (Int × Int × Int × Int × mM) → Prop) (z4032 : Int) (z4030 : Int) (z4029 : Int) (μ4178 : mM) (z4187 : Int) : Prop := ((-9223372036854775808) ≤ z4187 ∧ z4187 ≤ 9223372036854775807) → ∀ z4191 : Int, μ4178 23 15 = z4191 → (0 ≤ z4191 ∧ z4191 ≤ 1) → ((z4191 = 0) → ∀ z4223 : Int, μ4178 23 17 = z4223 → ((-9223372036854775808) ≤ z4223 ∧ z4223 ≤ 9223372036854775807) → (WJ_X6_readBranches_Wx6_7 rec2 z4032 z4029 μ4178 z4187 z4191) z4223) ∧ ((¬ z4191 = 0) → ∀ z4227 : Int, μ4178 23 17 = z4227 → ((-9223372036854775808) ≤ z4227 ∧ z4227 ≤ 9223372036854775807) → ∀ z4230 : Int, lOr z4030 z4227 = z4230 → (WJ_X6_readBranches_Wx6_7 rec2 z4032 z4029 μ4178 z4187 z4191) z4230)
def WJ_X6_readBranches_Wx6_5 (w : mW) (rec2 : (Int × Int × Int × Int × mM) → Prop) (z4032 : Int) (z4031 : Int) (z4030 : Int) (z4029 : Int) (μ4033 : mM) (μ4165 : mM) : Prop := mT w μ4165 → mF [23009, 23012, 23015, 23016, 23017, 23018, 23019, 28999, 29999] w μ4033 μ4165 → WP_X6_readRepeat_Wx w μ4165  (fun μ4171 => mT w μ4171 → mF [23009, 23015, 29999] w μ4165 μ4171 → ∀ z4175 : Int, μ4171 23 16 = z4175 → ((-9223372036854775808) ≤ z4175 ∧ z4175 ≤ 9223372036854775807) → WP_X6_join_Wx w μ4171 z4030 z4175 (fun μ4178 => mT w μ4178 → mF [29999] w μ4171 μ4178 → ((z4032 = 0) → (WJ_X6_readBranches_Wx6_6 rec2 z4032 z4030 z4029 μ4178) z4031) ∧ ((¬ z4032 = 0) → ∀ z4236 : Int, lOr z4031 z4175 = z4236 → (WJ_X6_readBranches_Wx6_6 rec2 z4032 z4030 z4029 μ4178) z4236)))
def WL_X6_readBranches_Wx6_2 (w : mW) (p1 : Int) (rec1 : (Int × Int × Int × Int × Int × mM) → Prop) (z2521 : Int) (z2520 : Int) (z2519 : Int) (z2517 : Int) (μ2522 : mM) (rec2 : (Int × Int × Int × Int × mM) → Prop) (s : (Int × Int × Int × Int × mM)) : Prop := ∀ z4032 : Int, ∀ z4031 : Int, ∀ z4030 : Int, ∀ z4029 : Int, ∀ μ4033 : mM, s = (z4032, z4031, z4030, z4029, μ4033) → (0 ≤ z4032 ∧ z4032 ≤ 1) → ((-9223372036854775808) ≤ z4031 ∧ z4031 ≤ 9223372036854775807) → ((-9223372036854775808) ≤ z4030 ∧ z4030 ≤ 9223372036854775807) → (0 ≤ z4029 ∧ z4029 ≤ 1001) → mT w μ4033 → mF [23009, 23012, 23015, 23016, 23017, 23018, 23019, 28999, 29999] w μ2522 μ4033 → ((1000 < z4029) → (WJ_X6_readBranches_Wx6_3 w rec1 z2521 z2520 z2519 z2517 z4032 z4031 z4030 μ4033) ) ∧ ((z4029 ≤ 1000) → ∀ z4141 : Int, μ4033 23 9 = z4141 → (0 ≤ z4141 ∧ z4141 ≤ 1000) → ∀ z4144 : Int, μ4033 24 (z4141.toNat) = z4144 → ((-2147483648) ≤ z4144 ∧ z4144 ≤ 2147483647) → WP_X6_beginsPiece_Wx w μ4033 z4144 (fun z4151 _ => (0 ≤ z4151 ∧ z4151 ≤ 1) → ((z4151 = 0) → (WJ_X6_readBranches_Wx6_3 w rec1 z2521 z2520 z2519 z2517 z4032 z4031 z4030 μ4033) ) ∧ ((¬ z4151 = 0) → ((¬ z4144 = 1040) → WP_X6_readPlace_Wx w μ4033  (fun μ4240 => mT w μ4240 → mF [23009, 23012, 23015, 23016, 23017, 23018, 23019, 28999, 29999] w μ4033 μ4240 → (WJ_X6_readBranches_Wx6_5 w rec2 z4032 z4031 z4030 z4029 μ4033) μ4240)) ∧ ((z4144 = 1040) → WP_X6_readGroup_Wx6 w μ4033 p1 (fun μ4245 => mT w μ4245 → mF [23009, 23018, 23019] w μ4033 μ4245 → (WJ_X6_readBranches_Wx6_5 w rec2 z4032 z4031 z4030 z4029 μ4033) μ4245)))))
def WL_X6_readBranches_Wx6_1 (w : mW) (μ : mM) (p1 : Int) (Q : mM → Prop) (rec1 : (Int × Int × Int × Int × Int × mM) → Prop) (s : (Int × Int × Int × Int × Int × mM)) : Prop := ∀ z2521 : Int, ∀ z2520 : Int, ∀ z2519 : Int, ∀ z2518 : Int, ∀ z2517 : Int, ∀ μ2522 : mM, s = (z2521, z2520, z2519, z2518, z2517, μ2522) → (0 ≤ z2521 ∧ z2521 ≤ 1) → ((-9223372036854775808) ≤ z2520 ∧ z2520 ≤ 9223372036854775807) → ((-9223372036854775808) ≤ z2519 ∧ z2519 ≤ 9223372036854775807) → (0 ≤ z2518 ∧ z2518 ≤ 1) → (0 ≤ z2517 ∧ z2517 ≤ 1001) → mT w μ2522 → mF [23009, 23012, 23015, 23016, 23017, 23018, 23019, 28999, 29999] w μ μ2522 → ((1000 < z2517) → ∀ μ2717 : mM, mU μ2522 23 (15) z2521 μ2717 → mT w μ2717 → ∀ μ2720 : mM, mU μ2717 23 (16) z2520 μ2720 → mT w μ2720 → ∀ μ2723 : mM, mU μ2720 23 (17) z2519 μ2723 → mT w μ2723 → Q μ2723) ∧ ((z2517 ≤ 1000) → ((z2518 = 0) → ∀ μ2907 : mM, mU μ2522 23 (15) z2521 μ2907 → mT w μ2907 → ∀ μ2910 : mM, mU μ2907 23 (16) z2520 μ2910 → mT w μ2910 → ∀ μ2913 : mM, mU μ2910 23 (17) z2519 μ2913 → mT w μ2913 → Q μ2913) ∧ ((¬ z2518 = 0) → loopF (WL_X6_readBranches_Wx6_2 w p1 rec1 z2521 z2520 z2519 z2517 μ2522) False 1003 ((1 : Int), (0 : Int), (0 : Int), (0 : Int), μ2522)))
def WP_X6_readBranches_Wx6 (w : mW) (μ : mM) (p1 : Int) (Q : mM → Prop) : Prop := loopF (WL_X6_readBranches_Wx6_1 w μ p1 Q) False 1003 ((0 : Int), (0 : Int), (0 : Int), (1 : Int), (0 : Int), μ)
theorem vc_X6_readBranches_Wx6_1 {z2517 : Int} (h0 : (1002 - z2517) < ((0 : Nat) : Int)) (h1 : 0 ≤ z2517 ∧ z2517 ≤ 1001) : False := by omega
theorem vc_X6_readBranches_Wx6_2 {z2517 : Int} (h0 : 1000 < z2517) (h1 : 0 ≤ z2517 ∧ z2517 ≤ 1001) : 1001 ≤ z2517 ∧ z2517 ≤ 1001 := by omega
theorem vc_X6_readBranches_Wx6_3 {z2517 : Int} (h0 : z2517 ≤ 1000) (h1 : 0 ≤ z2517 ∧ z2517 ≤ 1001) : 0 ≤ z2517 ∧ z2517 ≤ 1000 := by omega
theorem vc_X6_readBranches_Wx6_7 {N z2517 : Int} (h0 : (1002 - z2517) < N + 1) (h1 : z2517 ≤ 1000) (h2 : 0 ≤ z2517 ∧ z2517 ≤ 1000) : (1002 - (z2517 + 1)) < N := by omega
theorem vc_X6_readBranches_Wx6_19 {z4144 : Int} (h0 : z4144 = 1040) (h1 : (-2147483648) ≤ z4144 ∧ z4144 ≤ 2147483647) : 1040 ≤ z4144 ∧ z4144 ≤ 1040 := by omega
theorem vc_X6_readBranches_Wx6_20  : (1002 - 0) < ((1003 : Nat) : Int) := by omega
set_option maxRecDepth 4000 in
set_option maxHeartbeats 4000000 in
theorem c_X6_readBranches_Wx6 {l : Launch} {D : va_G} {c : Nat → ClassId} {H0 : Heap} {sa : Nat × Nat × (Nat → Int32)} {w : mW} {μ : mM} (hw : mWF w) (hT : mT w μ) {p1 : Int} (hp1 : 6 ≤ p1 ∧ p1 ≤ 6) {Q : mM → Prop} (hQ : WP_X6_readBranches_Wx6 w μ p1 Q) : sC (gG l D c H0 sa) mX6_readBranches 3 0 0 [.ref 23, iv p1] (mk w μ) (qV w [23009, 23012, 23015, 23016, 23017, 23018, 23019, 28999, 29999] μ (fun μ1 => Q μ1 ∧ True)) := by
  refine sC.of rfl (by decide) (le_t rfl) ?_
  refine mr_lvE (lv' := [(0, .ref 23), (1, iv p1)]) rfl ?_
  refine mr_iconst (pc := 0) (z := 0) dX6_readBranches_0 ?_
  refine mr_istore_n (pc := 1) (lv' := [(2, iv 0), (0, .ref 23), (1, iv p1)]) dX6_readBranches_1 rfl (by decide) rfl ?_
  refine mr_lconst (pc := 2) (z := 0) dX6_readBranches_2 (by decide) ?_
  refine mr_lstore_n (pc := 3) (lv' := [(3, jv 0), (2, iv 0), (0, .ref 23), (1, iv p1)]) dX6_readBranches_3 rfl (by decide) rfl ?_
  refine mr_lconst (pc := 4) (z := 0) dX6_readBranches_4 (by decide) ?_
  refine mr_lstore (pc := 5) (lv' := [(5, jv 0), (3, jv 0), (2, iv 0), (0, .ref 23), (1, iv p1)]) dX6_readBranches_5 (by decide) rfl ?_
  refine mr_iconst (pc := 7) (z := 1) dX6_readBranches_7 ?_
  refine mr_istore (pc := 8) (lv' := [(7, iv 1), (5, jv 0), (3, jv 0), (2, iv 0), (0, .ref 23), (1, iv p1)]) dX6_readBranches_8 (by decide) rfl ?_
  refine mr_iconst (pc := 10) (z := 0) dX6_readBranches_10 ?_
  refine mr_istore (pc := 11) (lv' := [(8, iv 0), (7, iv 1), (5, jv 0), (3, jv 0), (2, iv 0), (0, .ref 23), (1, iv p1)]) dX6_readBranches_11 (by decide) rfl ?_
  have L2523 : ∀ (nL2523 : Nat) (z2521 z2520 z2519 z2518 z2517 : Int) (μ2522 : mM), mT w μ2522 → mF [23009, 23012, 23015, 23016, 23017, 23018, 23019, 28999, 29999] w μ μ2522 → (0 ≤ z2521 ∧ z2521 ≤ 1) → ((-9223372036854775808) ≤ z2520 ∧ z2520 ≤ 9223372036854775807) → ((-9223372036854775808) ≤ z2519 ∧ z2519 ≤ 9223372036854775807) → (0 ≤ z2518 ∧ z2518 ≤ 1) → (0 ≤ z2517 ∧ z2517 ≤ 1001) → (1002 - z2517) < (nL2523 : Int) → loopF (WL_X6_readBranches_Wx6_1 w μ p1 Q) False nL2523 (z2521, z2520, z2519, z2518, z2517, μ2522) → sV (gG l D c H0 sa) mX6_readBranches (sRm 3 0 0) (sZ (gG l D c H0 sa) 0 0 (qV w [23009, 23012, 23015, 23016, 23017, 23018, 23019, 28999, 29999] μ (fun μ1 => Q μ1 ∧ True))) 13 [(0, .ref 23), (1, iv p1), (2, iv z2521), (3, jv z2520), (5, jv z2519), (7, iv z2518), (8, iv z2517)] [] (mk w μ2522) 0 0 := by
    intro nL2523
    induction nL2523 with
    | zero => intro z2521 z2520 z2519 z2518 z2517 μ2522 T2529 F2530 h2524 h2525 h2526 h2527 h2528 h2532 W2533; exact ((vc_X6_readBranches_Wx6_1 h2532 h2528)).elim
    | succ nL2523 ih2534 =>
      intro z2521 z2520 z2519 z2518 z2517 μ2522 T2529 F2530 h2524 h2525 h2526 h2527 h2528 h2532 W2533
      refine mr_iload (pc := 13) (z := z2517) dX6_readBranches_13 rfl ?_
      refine mr_sipush (pc := 15) (z := 1000) dX6_readBranches_15 (by decide) ?_
      refine mr_icmp_gt (pc := 18) (tgt := 211) dX6_readBranches_18 (by decide) (r32 h2528 rfl) (r32 (rR (x := 1000)) rfl) (fun h2715 => ?_) (fun h2715 => ?_)
      · have h2716 : 1001 ≤ z2517 ∧ z2517 ≤ 1001 := (vc_X6_readBranches_Wx6_2 h2715 h2528)
        refine sv_aload_n (pc := 211) dX6_readBranches_211 rfl rfl ?_
        refine mr_iload_n (pc := 212) (z := z2521) dX6_readBranches_212 rfl rfl ?_
        refine pf_X6_15 (pc := 213) dX6_readBranches_213 wF_X6_186 (A_23 hw) T2529 h2524 fun μ2717 u2718 T2719 => ?_
        refine sv_aload_n (pc := 216) dX6_readBranches_216 rfl rfl ?_
        refine mr_lload_n (pc := 217) (z := z2520) dX6_readBranches_217 rfl rfl ?_
        refine pf_X6_16 (pc := 218) dX6_readBranches_218 wF_X6_179 (A_23 hw) T2719 h2525 fun μ2720 u2721 T2722 => ?_
        refine sv_aload_n (pc := 221) dX6_readBranches_221 rfl rfl ?_
        refine mr_lload (pc := 222) (z := z2519) dX6_readBranches_222 rfl ?_
        refine pf_X6_17 (pc := 224) dX6_readBranches_224 wF_X6_183 (A_23 hw) T2722 h2526 fun μ2723 u2724 T2725 => ?_
        exact mr_vret dX6_readBranches_227 rfl (le_t rfl) (le_t rfl) T2725 (mF.up (mF.up (mF.up (mF.call mF.refl F2530 rfl) (A_23 hw) u2718 rfl) (A_23 hw) u2721 rfl) (A_23 hw) u2724 rfl) ⟨(((((W2533 z2521 z2520 z2519 z2518 z2517 μ2522 rfl h2524 h2525 h2526 h2527 h2528 T2529 F2530).1 h2715) μ2717 u2718 T2719) μ2720 u2721 T2722) μ2723 u2724 T2725), trivial⟩
      have h2726 : 0 ≤ z2517 ∧ z2517 ≤ 1000 := (vc_X6_readBranches_Wx6_3 h2715 h2528)
      refine mr_iload (pc := 21) (z := z2518) dX6_readBranches_21 rfl ?_
      refine mr_if_eq (pc := 23) (tgt := 211) dX6_readBranches_23 (by decide) (r32 h2527 rfl) (fun h2905 => ?_) (fun h2905 => ?_)
      · have h2906 : 0 ≤ z2518 ∧ z2518 ≤ 0 := (vc_X12_ring_22 h2905 h2527)
        refine sv_aload_n (pc := 211) dX6_readBranches_211 rfl rfl ?_
        refine mr_iload_n (pc := 212) (z := z2521) dX6_readBranches_212 rfl rfl ?_
        refine pf_X6_15 (pc := 213) dX6_readBranches_213 wF_X6_186 (A_23 hw) T2529 h2524 fun μ2907 u2908 T2909 => ?_
        refine sv_aload_n (pc := 216) dX6_readBranches_216 rfl rfl ?_
        refine mr_lload_n (pc := 217) (z := z2520) dX6_readBranches_217 rfl rfl ?_
        refine pf_X6_16 (pc := 218) dX6_readBranches_218 wF_X6_179 (A_23 hw) T2909 h2525 fun μ2910 u2911 T2912 => ?_
        refine sv_aload_n (pc := 221) dX6_readBranches_221 rfl rfl ?_
        refine mr_lload (pc := 222) (z := z2519) dX6_readBranches_222 rfl ?_
        refine pf_X6_17 (pc := 224) dX6_readBranches_224 wF_X6_183 (A_23 hw) T2912 h2526 fun μ2913 u2914 T2915 => ?_
        exact mr_vret dX6_readBranches_227 rfl (le_t rfl) (le_t rfl) T2915 (mF.up (mF.up (mF.up (mF.call mF.refl F2530 rfl) (A_23 hw) u2908 rfl) (A_23 hw) u2911 rfl) (A_23 hw) u2914 rfl) ⟨((((((W2533 z2521 z2520 z2519 z2518 z2517 μ2522 rfl h2524 h2525 h2526 h2527 h2528 T2529 F2530).2 h2715).1 h2905) μ2907 u2908 T2909) μ2910 u2911 T2912) μ2913 u2914 T2915), trivial⟩
      have h2916 : 1 ≤ z2518 ∧ z2518 ≤ 1 := (vc_X12_ring_24 h2905 h2527)
      refine mr_iconst (pc := 26) (z := 1) dX6_readBranches_26 ?_
      refine mr_istore (pc := 27) (lv' := [(9, iv 1), (0, .ref 23), (1, iv p1), (2, iv z2521), (3, jv z2520), (5, jv z2519), (7, iv z2518), (8, iv z2517)]) dX6_readBranches_27 (by decide) rfl ?_
      refine mr_lconst (pc := 29) (z := 0) dX6_readBranches_29 (by decide) ?_
      refine mr_lstore (pc := 30) (lv' := [(10, jv 0), (9, iv 1), (0, .ref 23), (1, iv p1), (2, iv z2521), (3, jv z2520), (5, jv z2519), (7, iv z2518), (8, iv z2517)]) dX6_readBranches_30 (by decide) rfl ?_
      refine mr_lconst (pc := 32) (z := 0) dX6_readBranches_32 (by decide) ?_
      refine mr_lstore (pc := 33) (lv' := [(12, jv 0), (10, jv 0), (9, iv 1), (0, .ref 23), (1, iv p1), (2, iv z2521), (3, jv z2520), (5, jv z2519), (7, iv z2518), (8, iv z2517)]) dX6_readBranches_33 (by decide) rfl ?_
      refine mr_iconst (pc := 35) (z := 0) dX6_readBranches_35 ?_
      refine mr_istore (pc := 36) (lv' := [(14, iv 0), (12, jv 0), (10, jv 0), (9, iv 1), (0, .ref 23), (1, iv p1), (2, iv z2521), (3, jv z2520), (5, jv z2519), (7, iv z2518), (8, iv z2517)]) dX6_readBranches_36 (by decide) rfl ?_
      have L4034 : ∀ (nL4034 : Nat) (z4032 z4031 z4030 z4029 : Int) (μ4033 : mM), mT w μ4033 → mF [23009, 23012, 23015, 23016, 23017, 23018, 23019, 28999, 29999] w μ2522 μ4033 → (0 ≤ z4032 ∧ z4032 ≤ 1) → ((-9223372036854775808) ≤ z4031 ∧ z4031 ≤ 9223372036854775807) → ((-9223372036854775808) ≤ z4030 ∧ z4030 ≤ 9223372036854775807) → (0 ≤ z4029 ∧ z4029 ≤ 1001) → (1002 - z4029) < (nL4034 : Int) → loopF (WL_X6_readBranches_Wx6_2 w p1 (loopF (WL_X6_readBranches_Wx6_1 w μ p1 Q) False nL2523) z2521 z2520 z2519 z2517 μ2522) False nL4034 (z4032, z4031, z4030, z4029, μ4033) → sV (gG l D c H0 sa) mX6_readBranches (sRm 3 0 0) (sZ (gG l D c H0 sa) 0 0 (qV w [23009, 23012, 23015, 23016, 23017, 23018, 23019, 28999, 29999] μ (fun μ1 => Q μ1 ∧ True))) 38 [(0, .ref 23), (1, iv p1), (2, iv z2521), (3, jv z2520), (5, jv z2519), (8, iv z2517), (9, iv z4032), (10, jv z4031), (12, jv z4030), (14, iv z4029)] [] (mk w μ4033) 0 0 := by
        intro nL4034
        induction nL4034 with
        | zero => intro z4032 z4031 z4030 z4029 μ4033 T4039 F4040 h4035 h4036 h4037 h4038 h4042 W4043; exact ((vc_X6_readBranches_Wx6_1 h4042 h4038)).elim
        | succ nL4034 ih4044 =>
          intro z4032 z4031 z4030 z4029 μ4033 T4039 F4040 h4035 h4036 h4037 h4038 h4042 W4043
          refine mr_iload (pc := 38) (z := z4029) dX6_readBranches_38 rfl ?_
          refine mr_sipush (pc := 40) (z := 1000) dX6_readBranches_40 (by decide) ?_
          have J4111 : ((WJ_X6_readBranches_Wx6_3 w (loopF (WL_X6_readBranches_Wx6_1 w μ p1 Q) False nL2523) z2521 z2520 z2519 z2517 z4032 z4031 z4030 μ4033) ) → sV (gG l D c H0 sa) mX6_readBranches (sRm 3 0 0) (sZ (gG l D c H0 sa) 0 0 (qV w [23009, 23012, 23015, 23016, 23017, 23018, 23019, 28999, 29999] μ (fun μ1 => Q μ1 ∧ True))) 169 [(0, .ref 23), (1, iv p1), (2, iv z2521), (3, jv z2520), (5, jv z2519), (8, iv z2517), (9, iv z4032), (10, jv z4031), (12, jv z4030)] [] (mk w μ4033) 0 0 := by
            intro W4112
            refine mr_iload_n (pc := 169) (z := z2521) dX6_readBranches_169 rfl rfl ?_
            have J4119 : ∀ (z4117 : Int), ((0 ≤ z4117 ∧ z4117 ≤ 1)) → ((WJ_X6_readBranches_Wx6_4 w (loopF (WL_X6_readBranches_Wx6_1 w μ p1 Q) False nL2523) z2520 z2519 z2517 z4031 z4030 μ4033) z4117) → sV (gG l D c H0 sa) mX6_readBranches (sRm 3 0 0) (sZ (gG l D c H0 sa) 0 0 (qV w [23009, 23012, 23015, 23016, 23017, 23018, 23019, 28999, 29999] μ (fun μ1 => Q μ1 ∧ True))) 183 [(0, .ref 23), (1, iv p1), (3, jv z2520), (5, jv z2519), (8, iv z2517), (10, jv z4031), (12, jv z4030)] [iv z4117] (mk w μ4033) 0 0 := by
              intro z4117 h4118 W4120
              refine mr_istore_n (pc := 183) (lv' := [(2, iv z4117), (0, .ref 23), (1, iv p1), (3, jv z2520), (5, jv z2519), (8, iv z2517), (10, jv z4031), (12, jv z4030)]) dX6_readBranches_183 rfl (by decide) rfl ?_
              refine mr_lload_n (pc := 184) (z := z2520) dX6_readBranches_184 rfl rfl ?_
              refine mr_lload (pc := 185) (z := z4031) dX6_readBranches_185 rfl ?_
              refine mr_lor (pc := 187) dX6_readBranches_187 ?_
              refine mr_genL (r64i _) fun z4121 q4122 h4123 => ?_
              refine mr_lstore_n (pc := 188) (lv' := [(3, jv z4121), (2, iv z4117), (0, .ref 23), (1, iv p1), (5, jv z2519), (8, iv z2517), (10, jv z4031), (12, jv z4030)]) dX6_readBranches_188 rfl (by decide) rfl ?_
              refine mr_lload (pc := 189) (z := z2519) dX6_readBranches_189 rfl ?_
              refine mr_lload (pc := 191) (z := z4030) dX6_readBranches_191 rfl ?_
              refine mr_lor (pc := 193) dX6_readBranches_193 ?_
              refine mr_genL (r64i _) fun z4124 q4125 h4126 => ?_
              refine mr_lstore (pc := 194) (lv' := [(5, jv z4124), (3, jv z4121), (2, iv z4117), (0, .ref 23), (1, iv p1), (8, iv z2517), (10, jv z4031), (12, jv z4030)]) dX6_readBranches_194 (by decide) rfl ?_
              refine sv_aload_n (pc := 196) dX6_readBranches_196 rfl rfl ?_
              refine mr_sipush (pc := 197) (z := 1124) dX6_readBranches_197 (by decide) ?_
              refine mr_cVI (pc := 200) (c_X6_take_Wx hw T4039 (rW (c := (-2147483648)) (d := 2147483647) (rR (x := 1124)) rfl) (((W4120 h4118) z4121 q4122) z4124 q4125)) (gOk _ _ _ _ _) dX6_readBranches_200 (tX6_take _ _ _ _ _) ⟨wV_X6_take, wL_X6_take⟩ wM_X6_120 (gCX6 _ _ _ _ _) rfl (A_23 hw) rfl ⟨le_t rfl, le_t rfl⟩ ⟨le_t rfl, le_t rfl⟩ rfl (le_t rfl) fun z4131 μ4127 T4128 F4129 h4130 => ?_
              refine mr_istore (pc := 203) (lv' := [(7, iv z4131), (5, jv z4124), (3, jv z4121), (2, iv z4117), (0, .ref 23), (1, iv p1), (8, iv z2517), (10, jv z4031), (12, jv z4030)]) dX6_readBranches_203 (by decide) rfl ?_
              refine mr_iinc (pc := 205) (lv' := [(8, iv (z2517 + 1)), (7, iv z4131), (5, jv z4124), (3, jv z4121), (2, iv z4117), (0, .ref 23), (1, iv p1), (10, jv z4031), (12, jv z4030)]) dX6_readBranches_205 rfl (by decide) rfl ?_
              refine sv_goto (pc := 208) (tgt := 13) dX6_readBranches_208 (by decide) ?_
              refine mr_lvS (lv' := [(0, .ref 23), (1, iv p1), (2, iv z4117), (3, jv z4121), (5, jv z4124), (7, iv z4131), (8, iv (z2517 + 1))]) (List.forall_mem_cons.mpr ⟨rfl, List.forall_mem_cons.mpr ⟨rfl, List.forall_mem_cons.mpr ⟨rfl, List.forall_mem_cons.mpr ⟨rfl, List.forall_mem_cons.mpr ⟨rfl, List.forall_mem_cons.mpr ⟨rfl, List.forall_mem_cons.mpr ⟨rfl, fun _ h => absurd h List.not_mem_nil⟩⟩⟩⟩⟩⟩⟩) ?_
              exact ih2534 z4117 z4121 z4124 z4131 (z2517 + 1) μ4127 T4128 (mF.call (mF.call (mF.call mF.refl F2530 rfl) F4040 rfl) F4129 rfl) h4118 h4123 h4126 h4130.1 (rW (c := 0) (d := 1001) (rAdd (e := 1) (f := 1001) h2726 (rR (x := 1)) rfl) rfl) (vc_X6_readBranches_Wx6_7 (nS h2532) h2715 h2726) ((h4130.2.1 T4128 F4129) h4130.1)
            refine mr_if_ne (pc := 170) (tgt := 178) dX6_readBranches_170 (by decide) (r32 h2524 rfl) (fun h4132 => ?_) (fun h4132 => ?_)
            · have h4133 : 1 ≤ z2521 ∧ z2521 ≤ 1 := (vc_X12_ring_24 h4132 h2524)
              refine mr_iconst (pc := 178) (z := 1) dX6_readBranches_178 ?_
              refine sv_goto (pc := 179) (tgt := 183) dX6_readBranches_179 (by decide) ?_
              refine mr_lvS (lv' := [(0, .ref 23), (1, iv p1), (3, jv z2520), (5, jv z2519), (8, iv z2517), (10, jv z4031), (12, jv z4030)]) (List.forall_mem_cons.mpr ⟨rfl, List.forall_mem_cons.mpr ⟨rfl, List.forall_mem_cons.mpr ⟨rfl, List.forall_mem_cons.mpr ⟨rfl, List.forall_mem_cons.mpr ⟨rfl, List.forall_mem_cons.mpr ⟨rfl, List.forall_mem_cons.mpr ⟨rfl, fun _ h => absurd h List.not_mem_nil⟩⟩⟩⟩⟩⟩⟩) ?_
              exact J4119 1 (rW (c := 0) (d := 1) (rR (x := 1)) rfl) ((W4112).1 h4132)
            have h4134 : 0 ≤ z2521 ∧ z2521 ≤ 0 := (vc_X12_ring_22 h4132 h2524)
            refine mr_iload (pc := 173) (z := z4032) dX6_readBranches_173 rfl ?_
            refine mr_if_eq (pc := 175) (tgt := 182) dX6_readBranches_175 (by decide) (r32 h4035 rfl) (fun h4135 => ?_) (fun h4135 => ?_)
            · have h4136 : 0 ≤ z4032 ∧ z4032 ≤ 0 := (vc_X12_ring_22 h4135 h4035)
              refine mr_iconst (pc := 182) (z := 0) dX6_readBranches_182 ?_
              refine mr_lvS (lv' := [(0, .ref 23), (1, iv p1), (3, jv z2520), (5, jv z2519), (8, iv z2517), (10, jv z4031), (12, jv z4030)]) (List.forall_mem_cons.mpr ⟨rfl, List.forall_mem_cons.mpr ⟨rfl, List.forall_mem_cons.mpr ⟨rfl, List.forall_mem_cons.mpr ⟨rfl, List.forall_mem_cons.mpr ⟨rfl, List.forall_mem_cons.mpr ⟨rfl, List.forall_mem_cons.mpr ⟨rfl, fun _ h => absurd h List.not_mem_nil⟩⟩⟩⟩⟩⟩⟩) ?_
              exact J4119 0 (rW (c := 0) (d := 1) (rR (x := 0)) rfl) (((W4112).2 h4132).1 h4135)
            have h4137 : 1 ≤ z4032 ∧ z4032 ≤ 1 := (vc_X12_ring_24 h4135 h4035)
            refine mr_iconst (pc := 178) (z := 1) dX6_readBranches_178 ?_
            refine sv_goto (pc := 179) (tgt := 183) dX6_readBranches_179 (by decide) ?_
            refine mr_lvS (lv' := [(0, .ref 23), (1, iv p1), (3, jv z2520), (5, jv z2519), (8, iv z2517), (10, jv z4031), (12, jv z4030)]) (List.forall_mem_cons.mpr ⟨rfl, List.forall_mem_cons.mpr ⟨rfl, List.forall_mem_cons.mpr ⟨rfl, List.forall_mem_cons.mpr ⟨rfl, List.forall_mem_cons.mpr ⟨rfl, List.forall_mem_cons.mpr ⟨rfl, List.forall_mem_cons.mpr ⟨rfl, fun _ h => absurd h List.not_mem_nil⟩⟩⟩⟩⟩⟩⟩) ?_
            exact J4119 1 (rW (c := 0) (d := 1) (rR (x := 1)) rfl) (((W4112).2 h4132).2 h4135)
          refine mr_icmp_gt (pc := 43) (tgt := 169) dX6_readBranches_43 (by decide) (r32 h4038 rfl) (r32 (rR (x := 1000)) rfl) (fun h4138 => ?_) (fun h4138 => ?_)
          · have h4139 : 1001 ≤ z4029 ∧ z4029 ≤ 1001 := (vc_X6_readBranches_Wx6_2 h4138 h4038)
            refine mr_lvS (lv' := [(0, .ref 23), (1, iv p1), (2, iv z2521), (3, jv z2520), (5, jv z2519), (8, iv z2517), (9, iv z4032), (10, jv z4031), (12, jv z4030)]) (List.forall_mem_cons.mpr ⟨rfl, List.forall_mem_cons.mpr ⟨rfl, List.forall_mem_cons.mpr ⟨rfl, List.forall_mem_cons.mpr ⟨rfl, List.forall_mem_cons.mpr ⟨rfl, List.forall_mem_cons.mpr ⟨rfl, List.forall_mem_cons.mpr ⟨rfl, List.forall_mem_cons.mpr ⟨rfl, List.forall_mem_cons.mpr ⟨rfl, fun _ h => absurd h List.not_mem_nil⟩⟩⟩⟩⟩⟩⟩⟩⟩) ?_
            exact J4111 ((W4043 z4032 z4031 z4030 z4029 μ4033 rfl h4035 h4036 h4037 h4038 T4039 F4040).1 h4138)
          have h4140 : 0 ≤ z4029 ∧ z4029 ≤ 1000 := (vc_X6_readBranches_Wx6_3 h4138 h4038)
          refine sv_aload_n (pc := 46) dX6_readBranches_46 rfl rfl ?_
          refine gf_X6_0 (pc := 47) dX6_readBranches_47 wF_X6_9 (A_23 hw) T4039 ?_
          refine sv_aload_n (pc := 50) dX6_readBranches_50 rfl rfl ?_
          refine gf_X6_9 (pc := 51) dX6_readBranches_51 wF_X6_63 (A_23 hw) T4039 fun z4141 q4142 h4143 => ?_
          refine la_24 (pc := 54) dX6_readBranches_54 (A_24 hw) T4039 (rIx (n := 1001) h4143 rfl) fun z4144 q4145 h4146 => ?_
          have W4152 := ((((W4043 z4032 z4031 z4030 z4029 μ4033 rfl h4035 h4036 h4037 h4038 T4039 F4040).2 h4138) z4141 q4142 h4143) z4144 q4145 h4146)
          refine mr_cSP (pc := 55) (c_X6_beginsPiece_Wx hw T4039 h4146 W4152) (gOk _ _ _ _ _) dX6_readBranches_55 (tX6_beginsPiece _ _ _ _ _) wS_X6_beginsPiece wM_X6_190 ⟨le_t rfl, le_t rfl⟩ ⟨le_t rfl, le_t rfl⟩ rfl (le_t rfl) fun z4151 h4150 => ?_
          refine mr_if_eq (pc := 58) (tgt := 169) dX6_readBranches_58 (by decide) (r32 h4150.1 rfl) (fun h4153 => ?_) (fun h4153 => ?_)
          · have h4154 : 0 ≤ z4151 ∧ z4151 ≤ 0 := (vc_X12_ring_22 h4153 h4150.1)
            refine mr_lvS (lv' := [(0, .ref 23), (1, iv p1), (2, iv z2521), (3, jv z2520), (5, jv z2519), (8, iv z2517), (9, iv z4032), (10, jv z4031), (12, jv z4030)]) (List.forall_mem_cons.mpr ⟨rfl, List.forall_mem_cons.mpr ⟨rfl, List.forall_mem_cons.mpr ⟨rfl, List.forall_mem_cons.mpr ⟨rfl, List.forall_mem_cons.mpr ⟨rfl, List.forall_mem_cons.mpr ⟨rfl, List.forall_mem_cons.mpr ⟨rfl, List.forall_mem_cons.mpr ⟨rfl, List.forall_mem_cons.mpr ⟨rfl, fun _ h => absurd h List.not_mem_nil⟩⟩⟩⟩⟩⟩⟩⟩⟩) ?_
            exact J4111 ((h4150.2.1 h4150.1).1 h4153)
          have h4155 : 1 ≤ z4151 ∧ z4151 ≤ 1 := (vc_X12_ring_24 h4153 h4150.1)
          refine sv_aload_n (pc := 61) dX6_readBranches_61 rfl rfl ?_
          refine gf_X6_0 (pc := 62) dX6_readBranches_62 wF_X6_9 (A_23 hw) T4039 ?_
          refine sv_aload_n (pc := 65) dX6_readBranches_65 rfl rfl ?_
          refine gk_X6_9 (pc := 66) dX6_readBranches_66 wF_X6_63 (A_23 hw) q4142 ?_
          refine lk_24 (pc := 69) dX6_readBranches_69 (A_24 hw) (rIx (n := 1001) h4143 rfl) q4145 ?_
          refine mr_sipush (pc := 70) (z := 1040) dX6_readBranches_70 (by decide) ?_
          have J4169 : ∀ (μ4165 : mM), (mT w μ4165) → (mF [23009, 23012, 23015, 23016, 23017, 23018, 23019, 28999, 29999] w μ4033 μ4165) → ((WJ_X6_readBranches_Wx6_5 w (loopF (WL_X6_readBranches_Wx6_2 w p1 (loopF (WL_X6_readBranches_Wx6_1 w μ p1 Q) False nL2523) z2521 z2520 z2519 z2517 μ2522) False nL4034) z4032 z4031 z4030 z4029 μ4033) μ4165) → sV (gG l D c H0 sa) mX6_readBranches (sRm 3 0 0) (sZ (gG l D c H0 sa) 0 0 (qV w [23009, 23012, 23015, 23016, 23017, 23018, 23019, 28999, 29999] μ (fun μ1 => Q μ1 ∧ True))) 88 [(0, .ref 23), (1, iv p1), (2, iv z2521), (3, jv z2520), (5, jv z2519), (8, iv z2517), (9, iv z4032), (10, jv z4031), (12, jv z4030), (14, iv z4029)] [] (mk w μ4165) 0 0 := by
            intro μ4165 T4166 F4167 W4170
            refine sv_aload_n (pc := 88) dX6_readBranches_88 rfl rfl ?_
            refine mr_cVV (pc := 89) (c_X6_readRepeat_Wx hw T4166 (W4170 T4166 F4167)) (gOk _ _ _ _ _) dX6_readBranches_89 (tX6_readRepeat _ _ _ _ _) ⟨wV_X6_readRepeat, wL_X6_readRepeat⟩ wM_X6_199 (gCX6 _ _ _ _ _) rfl (A_23 hw) rfl ⟨le_t rfl, le_t rfl⟩ ⟨le_t rfl, le_t rfl⟩ rfl (le_t rfl) fun μ4171 T4172 F4173 h4174 => ?_
            refine sv_aload_n (pc := 92) dX6_readBranches_92 rfl rfl ?_
            refine mr_lload (pc := 93) (z := z4030) dX6_readBranches_93 rfl ?_
            refine sv_aload_n (pc := 95) dX6_readBranches_95 rfl rfl ?_
            refine gf_X6_16 (pc := 96) dX6_readBranches_96 wF_X6_179 (A_23 hw) T4172 fun z4175 q4176 h4177 => ?_
            refine mr_cVV (pc := 99) (c_X6_join_Wx hw T4172 h4037 h4177 ((h4174.1 T4172 F4173) z4175 q4176 h4177)) (gOk _ _ _ _ _) dX6_readBranches_99 (tX6_join _ _ _ _ _) ⟨wV_X6_join, wL_X6_join⟩ wM_X6_202 (gCX6 _ _ _ _ _) rfl (A_23 hw) rfl ⟨le_t rfl, le_t rfl⟩ ⟨le_t rfl, le_t rfl⟩ rfl (le_t rfl) fun μ4178 T4179 F4180 h4181 => ?_
            refine mr_iload (pc := 102) (z := z4032) dX6_readBranches_102 rfl ?_
            have J4189 : ∀ (z4187 : Int), (((-9223372036854775808) ≤ z4187 ∧ z4187 ≤ 9223372036854775807)) → ((WJ_X6_readBranches_Wx6_6 (loopF (WL_X6_readBranches_Wx6_2 w p1 (loopF (WL_X6_readBranches_Wx6_1 w μ p1 Q) False nL2523) z2521 z2520 z2519 z2517 μ2522) False nL4034) z4032 z4030 z4029 μ4178) z4187) → sV (gG l D c H0 sa) mX6_readBranches (sRm 3 0 0) (sZ (gG l D c H0 sa) 0 0 (qV w [23009, 23012, 23015, 23016, 23017, 23018, 23019, 28999, 29999] μ (fun μ1 => Q μ1 ∧ True))) 119 [(0, .ref 23), (1, iv p1), (2, iv z2521), (3, jv z2520), (5, jv z2519), (8, iv z2517), (9, iv z4032), (12, jv z4030), (14, iv z4029)] [jv z4187] (mk w μ4178) 0 0 := by
              intro z4187 h4188 W4190
              refine mr_lstore (pc := 119) (lv' := [(10, jv z4187), (0, .ref 23), (1, iv p1), (2, iv z2521), (3, jv z2520), (5, jv z2519), (8, iv z2517), (9, iv z4032), (12, jv z4030), (14, iv z4029)]) dX6_readBranches_119 (by decide) rfl ?_
              refine sv_aload_n (pc := 121) dX6_readBranches_121 rfl rfl ?_
              refine gf_X6_15 (pc := 122) dX6_readBranches_122 wF_X6_186 (A_23 hw) T4179 fun z4191 q4192 h4193 => ?_
              have J4207 : ∀ (z4205 : Int), (((-9223372036854775808) ≤ z4205 ∧ z4205 ≤ 9223372036854775807)) → ((WJ_X6_readBranches_Wx6_7 (loopF (WL_X6_readBranches_Wx6_2 w p1 (loopF (WL_X6_readBranches_Wx6_1 w μ p1 Q) False nL2523) z2521 z2520 z2519 z2517 μ2522) False nL4034) z4032 z4029 μ4178 z4187 z4191) z4205) → sV (gG l D c H0 sa) mX6_readBranches (sRm 3 0 0) (sZ (gG l D c H0 sa) 0 0 (qV w [23009, 23012, 23015, 23016, 23017, 23018, 23019, 28999, 29999] μ (fun μ1 => Q μ1 ∧ True))) 142 [(0, .ref 23), (1, iv p1), (2, iv z2521), (3, jv z2520), (5, jv z2519), (8, iv z2517), (9, iv z4032), (10, jv z4187), (14, iv z4029)] [jv z4205] (mk w μ4178) 0 0 := by
                intro z4205 h4206 W4208
                refine mr_lstore (pc := 142) (lv' := [(12, jv z4205), (0, .ref 23), (1, iv p1), (2, iv z2521), (3, jv z2520), (5, jv z2519), (8, iv z2517), (9, iv z4032), (10, jv z4187), (14, iv z4029)]) dX6_readBranches_142 (by decide) rfl ?_
                refine mr_iload (pc := 144) (z := z4032) dX6_readBranches_144 rfl ?_
                refine mr_if_eq (pc := 146) (tgt := 160) dX6_readBranches_146 (by decide) (r32 h4035 rfl) (fun h4213 => ?_) (fun h4213 => ?_)
                · have h4214 : 0 ≤ z4032 ∧ z4032 ≤ 0 := (vc_X12_ring_22 h4213 h4035)
                  refine mr_iconst (pc := 160) (z := 0) dX6_readBranches_160 ?_
                  refine mr_istore (pc := 161) (lv' := [(9, iv 0), (12, jv z4205), (0, .ref 23), (1, iv p1), (2, iv z2521), (3, jv z2520), (5, jv z2519), (8, iv z2517), (10, jv z4187), (14, iv z4029)]) dX6_readBranches_161 (by decide) rfl ?_
                  refine mr_iinc (pc := 163) (lv' := [(14, iv (z4029 + 1)), (9, iv 0), (12, jv z4205), (0, .ref 23), (1, iv p1), (2, iv z2521), (3, jv z2520), (5, jv z2519), (8, iv z2517), (10, jv z4187)]) dX6_readBranches_163 rfl (by decide) rfl ?_
                  refine sv_goto (pc := 166) (tgt := 38) dX6_readBranches_166 (by decide) ?_
                  refine mr_lvS (lv' := [(0, .ref 23), (1, iv p1), (2, iv z2521), (3, jv z2520), (5, jv z2519), (8, iv z2517), (9, iv 0), (10, jv z4187), (12, jv z4205), (14, iv (z4029 + 1))]) (List.forall_mem_cons.mpr ⟨rfl, List.forall_mem_cons.mpr ⟨rfl, List.forall_mem_cons.mpr ⟨rfl, List.forall_mem_cons.mpr ⟨rfl, List.forall_mem_cons.mpr ⟨rfl, List.forall_mem_cons.mpr ⟨rfl, List.forall_mem_cons.mpr ⟨rfl, List.forall_mem_cons.mpr ⟨rfl, List.forall_mem_cons.mpr ⟨rfl, List.forall_mem_cons.mpr ⟨rfl, fun _ h => absurd h List.not_mem_nil⟩⟩⟩⟩⟩⟩⟩⟩⟩⟩) ?_
                  exact ih4044 0 z4187 z4205 (z4029 + 1) μ4178 T4179 (mF.call (mF.call (mF.call (mF.call mF.refl F4040 rfl) F4167 rfl) F4173 rfl) F4180 rfl) (rW (c := 0) (d := 1) (rR (x := 0)) rfl) h4188 h4206 (rW (c := 0) (d := 1001) (rAdd (e := 1) (f := 1001) h4140 (rR (x := 1)) rfl) rfl) (vc_X6_readBranches_Wx6_7 (nS h4042) h4138 h4140) ((W4208 h4206).1 h4213)
                have h4215 : 1 ≤ z4032 ∧ z4032 ≤ 1 := (vc_X12_ring_24 h4213 h4035)
                refine sv_aload_n (pc := 149) dX6_readBranches_149 rfl rfl ?_
                refine gk_X6_15 (pc := 150) dX6_readBranches_150 wF_X6_186 (A_23 hw) q4192 ?_
                refine mr_if_eq (pc := 153) (tgt := 160) dX6_readBranches_153 (by decide) (r32 h4193 rfl) (fun h4218 => ?_) (fun h4218 => ?_)
                · have h4219 : 0 ≤ z4191 ∧ z4191 ≤ 0 := (vc_X12_ring_22 h4218 h4193)
                  refine mr_iconst (pc := 160) (z := 0) dX6_readBranches_160 ?_
                  refine mr_istore (pc := 161) (lv' := [(9, iv 0), (12, jv z4205), (0, .ref 23), (1, iv p1), (2, iv z2521), (3, jv z2520), (5, jv z2519), (8, iv z2517), (10, jv z4187), (14, iv z4029)]) dX6_readBranches_161 (by decide) rfl ?_
                  refine mr_iinc (pc := 163) (lv' := [(14, iv (z4029 + 1)), (9, iv 0), (12, jv z4205), (0, .ref 23), (1, iv p1), (2, iv z2521), (3, jv z2520), (5, jv z2519), (8, iv z2517), (10, jv z4187)]) dX6_readBranches_163 rfl (by decide) rfl ?_
                  refine sv_goto (pc := 166) (tgt := 38) dX6_readBranches_166 (by decide) ?_
                  refine mr_lvS (lv' := [(0, .ref 23), (1, iv p1), (2, iv z2521), (3, jv z2520), (5, jv z2519), (8, iv z2517), (9, iv 0), (10, jv z4187), (12, jv z4205), (14, iv (z4029 + 1))]) (List.forall_mem_cons.mpr ⟨rfl, List.forall_mem_cons.mpr ⟨rfl, List.forall_mem_cons.mpr ⟨rfl, List.forall_mem_cons.mpr ⟨rfl, List.forall_mem_cons.mpr ⟨rfl, List.forall_mem_cons.mpr ⟨rfl, List.forall_mem_cons.mpr ⟨rfl, List.forall_mem_cons.mpr ⟨rfl, List.forall_mem_cons.mpr ⟨rfl, List.forall_mem_cons.mpr ⟨rfl, fun _ h => absurd h List.not_mem_nil⟩⟩⟩⟩⟩⟩⟩⟩⟩⟩) ?_
                  exact ih4044 0 z4187 z4205 (z4029 + 1) μ4178 T4179 (mF.call (mF.call (mF.call (mF.call mF.refl F4040 rfl) F4167 rfl) F4173 rfl) F4180 rfl) (rW (c := 0) (d := 1) (rR (x := 0)) rfl) h4188 h4206 (rW (c := 0) (d := 1001) (rAdd (e := 1) (f := 1001) h4140 (rR (x := 1)) rfl) rfl) (vc_X6_readBranches_Wx6_7 (nS h4042) h4138 h4140) (((W4208 h4206).2 h4213).1 h4218)
                have h4220 : 1 ≤ z4191 ∧ z4191 ≤ 1 := (vc_X12_ring_24 h4218 h4193)
                refine mr_iconst (pc := 156) (z := 1) dX6_readBranches_156 ?_
                refine sv_goto (pc := 157) (tgt := 161) dX6_readBranches_157 (by decide) ?_
                refine mr_istore (pc := 161) (lv' := [(9, iv 1), (12, jv z4205), (0, .ref 23), (1, iv p1), (2, iv z2521), (3, jv z2520), (5, jv z2519), (8, iv z2517), (10, jv z4187), (14, iv z4029)]) dX6_readBranches_161 (by decide) rfl ?_
                refine mr_iinc (pc := 163) (lv' := [(14, iv (z4029 + 1)), (9, iv 1), (12, jv z4205), (0, .ref 23), (1, iv p1), (2, iv z2521), (3, jv z2520), (5, jv z2519), (8, iv z2517), (10, jv z4187)]) dX6_readBranches_163 rfl (by decide) rfl ?_
                refine sv_goto (pc := 166) (tgt := 38) dX6_readBranches_166 (by decide) ?_
                refine mr_lvS (lv' := [(0, .ref 23), (1, iv p1), (2, iv z2521), (3, jv z2520), (5, jv z2519), (8, iv z2517), (9, iv 1), (10, jv z4187), (12, jv z4205), (14, iv (z4029 + 1))]) (List.forall_mem_cons.mpr ⟨rfl, List.forall_mem_cons.mpr ⟨rfl, List.forall_mem_cons.mpr ⟨rfl, List.forall_mem_cons.mpr ⟨rfl, List.forall_mem_cons.mpr ⟨rfl, List.forall_mem_cons.mpr ⟨rfl, List.forall_mem_cons.mpr ⟨rfl, List.forall_mem_cons.mpr ⟨rfl, List.forall_mem_cons.mpr ⟨rfl, List.forall_mem_cons.mpr ⟨rfl, fun _ h => absurd h List.not_mem_nil⟩⟩⟩⟩⟩⟩⟩⟩⟩⟩) ?_
                exact ih4044 1 z4187 z4205 (z4029 + 1) μ4178 T4179 (mF.call (mF.call (mF.call (mF.call mF.refl F4040 rfl) F4167 rfl) F4173 rfl) F4180 rfl) (rW (c := 0) (d := 1) (rR (x := 1)) rfl) h4188 h4206 (rW (c := 0) (d := 1001) (rAdd (e := 1) (f := 1001) h4140 (rR (x := 1)) rfl) rfl) (vc_X6_readBranches_Wx6_7 (nS h4042) h4138 h4140) (((W4208 h4206).2 h4213).2 h4218)
              refine mr_if_eq (pc := 125) (tgt := 138) dX6_readBranches_125 (by decide) (r32 h4193 rfl) (fun h4221 => ?_) (fun h4221 => ?_)
              · have h4222 : 0 ≤ z4191 ∧ z4191 ≤ 0 := (vc_X12_ring_22 h4221 h4193)
                refine sv_aload_n (pc := 138) dX6_readBranches_138 rfl rfl ?_
                refine gf_X6_17 (pc := 139) dX6_readBranches_139 wF_X6_183 (A_23 hw) T4179 fun z4223 q4224 h4225 => ?_
                refine mr_lvS (lv' := [(0, .ref 23), (1, iv p1), (2, iv z2521), (3, jv z2520), (5, jv z2519), (8, iv z2517), (9, iv z4032), (10, jv z4187), (14, iv z4029)]) (List.forall_mem_cons.mpr ⟨rfl, List.forall_mem_cons.mpr ⟨rfl, List.forall_mem_cons.mpr ⟨rfl, List.forall_mem_cons.mpr ⟨rfl, List.forall_mem_cons.mpr ⟨rfl, List.forall_mem_cons.mpr ⟨rfl, List.forall_mem_cons.mpr ⟨rfl, List.forall_mem_cons.mpr ⟨rfl, List.forall_mem_cons.mpr ⟨rfl, fun _ h => absurd h List.not_mem_nil⟩⟩⟩⟩⟩⟩⟩⟩⟩) ?_
                exact J4207 z4223 h4225 ((((W4190 h4188) z4191 q4192 h4193).1 h4221) z4223 q4224 h4225)
              have h4226 : 1 ≤ z4191 ∧ z4191 ≤ 1 := (vc_X12_ring_24 h4221 h4193)
              refine mr_lload (pc := 128) (z := z4030) dX6_readBranches_128 rfl ?_
              refine sv_aload_n (pc := 130) dX6_readBranches_130 rfl rfl ?_
              refine gf_X6_17 (pc := 131) dX6_readBranches_131 wF_X6_183 (A_23 hw) T4179 fun z4227 q4228 h4229 => ?_
              refine mr_lor (pc := 134) dX6_readBranches_134 ?_
              refine mr_genL (r64i _) fun z4230 q4231 h4232 => ?_
              refine sv_goto (pc := 135) (tgt := 142) dX6_readBranches_135 (by decide) ?_
              refine mr_lvS (lv' := [(0, .ref 23), (1, iv p1), (2, iv z2521), (3, jv z2520), (5, jv z2519), (8, iv z2517), (9, iv z4032), (10, jv z4187), (14, iv z4029)]) (List.forall_mem_cons.mpr ⟨rfl, List.forall_mem_cons.mpr ⟨rfl, List.forall_mem_cons.mpr ⟨rfl, List.forall_mem_cons.mpr ⟨rfl, List.forall_mem_cons.mpr ⟨rfl, List.forall_mem_cons.mpr ⟨rfl, List.forall_mem_cons.mpr ⟨rfl, List.forall_mem_cons.mpr ⟨rfl, List.forall_mem_cons.mpr ⟨rfl, fun _ h => absurd h List.not_mem_nil⟩⟩⟩⟩⟩⟩⟩⟩⟩) ?_
              exact J4207 z4230 h4232 (((((W4190 h4188) z4191 q4192 h4193).2 h4221) z4227 q4228 h4229) z4230 q4231)
            refine mr_if_eq (pc := 104) (tgt := 117) dX6_readBranches_104 (by decide) (r32 h4035 rfl) (fun h4233 => ?_) (fun h4233 => ?_)
            · have h4234 : 0 ≤ z4032 ∧ z4032 ≤ 0 := (vc_X12_ring_22 h4233 h4035)
              refine mr_lload (pc := 117) (z := z4031) dX6_readBranches_117 rfl ?_
              refine mr_lvS (lv' := [(0, .ref 23), (1, iv p1), (2, iv z2521), (3, jv z2520), (5, jv z2519), (8, iv z2517), (9, iv z4032), (12, jv z4030), (14, iv z4029)]) (List.forall_mem_cons.mpr ⟨rfl, List.forall_mem_cons.mpr ⟨rfl, List.forall_mem_cons.mpr ⟨rfl, List.forall_mem_cons.mpr ⟨rfl, List.forall_mem_cons.mpr ⟨rfl, List.forall_mem_cons.mpr ⟨rfl, List.forall_mem_cons.mpr ⟨rfl, List.forall_mem_cons.mpr ⟨rfl, List.forall_mem_cons.mpr ⟨rfl, fun _ h => absurd h List.not_mem_nil⟩⟩⟩⟩⟩⟩⟩⟩⟩) ?_
              exact J4189 z4031 h4036 ((h4181.1 T4179 F4180).1 h4233)
            have h4235 : 1 ≤ z4032 ∧ z4032 ≤ 1 := (vc_X12_ring_24 h4233 h4035)
            refine mr_lload (pc := 107) (z := z4031) dX6_readBranches_107 rfl ?_
            refine sv_aload_n (pc := 109) dX6_readBranches_109 rfl rfl ?_
            refine gk_X6_16 (pc := 110) dX6_readBranches_110 wF_X6_179 (A_23 hw) (F4180.f (A_23 hw) rfl q4176) ?_
            refine mr_lor (pc := 113) dX6_readBranches_113 ?_
            refine mr_genL (r64i _) fun z4236 q4237 h4238 => ?_
            refine sv_goto (pc := 114) (tgt := 119) dX6_readBranches_114 (by decide) ?_
            refine mr_lvS (lv' := [(0, .ref 23), (1, iv p1), (2, iv z2521), (3, jv z2520), (5, jv z2519), (8, iv z2517), (9, iv z4032), (12, jv z4030), (14, iv z4029)]) (List.forall_mem_cons.mpr ⟨rfl, List.forall_mem_cons.mpr ⟨rfl, List.forall_mem_cons.mpr ⟨rfl, List.forall_mem_cons.mpr ⟨rfl, List.forall_mem_cons.mpr ⟨rfl, List.forall_mem_cons.mpr ⟨rfl, List.forall_mem_cons.mpr ⟨rfl, List.forall_mem_cons.mpr ⟨rfl, List.forall_mem_cons.mpr ⟨rfl, fun _ h => absurd h List.not_mem_nil⟩⟩⟩⟩⟩⟩⟩⟩⟩) ?_
            exact J4189 z4236 h4238 (((h4181.1 T4179 F4180).2 h4233) z4236 q4237)
          refine mr_icmp_ne (pc := 73) (tgt := 84) dX6_readBranches_73 (by decide) h4146 (r32 (rR (x := 1040)) rfl) (fun h4239 => ?_) (fun h4239 => ?_)
          · refine sv_aload_n (pc := 84) dX6_readBranches_84 rfl rfl ?_
            refine mr_cVV (pc := 85) (c_X6_readPlace_Wx hw T4039 (((h4150.2.1 h4150.1).2 h4153).1 h4239)) (gOk _ _ _ _ _) dX6_readBranches_85 (tX6_readPlace _ _ _ _ _) ⟨wV_X6_readPlace, wL_X6_readPlace⟩ wM_X6_196 (gCX6 _ _ _ _ _) rfl (A_23 hw) rfl ⟨le_t rfl, le_t rfl⟩ ⟨le_t rfl, le_t rfl⟩ rfl (le_t rfl) fun μ4240 T4241 F4242 h4243 => ?_
            exact J4169 μ4240 T4241 (mF.call mF.refl F4242 rfl) (h4243.1 T4241 F4242)
          have h4244 : 1040 ≤ z4144 ∧ z4144 ≤ 1040 := (vc_X6_readBranches_Wx6_19 h4239 h4146)
          refine sv_aload_n (pc := 76) dX6_readBranches_76 rfl rfl ?_
          refine mr_iload_n (pc := 77) (z := p1) dX6_readBranches_77 rfl rfl ?_
          refine mr_cVV (pc := 78) (c_X6_readGroup_Wx6 hw T4039 hp1 (((h4150.2.1 h4150.1).2 h4153).2 h4239)) (gOk _ _ _ _ _) dX6_readBranches_78 (tX6_readGroup _ _ _ _ _) ⟨wV_X6_readGroup, wL_X6_readGroup⟩ wM_X6_193 (gCX6 _ _ _ _ _) rfl (A_23 hw) rfl ⟨le_t rfl, le_t rfl⟩ ⟨le_t rfl, le_t rfl⟩ rfl (le_t rfl) fun μ4245 T4246 F4247 h4248 => ?_
          refine sv_goto (pc := 81) (tgt := 88) dX6_readBranches_81 (by decide) ?_
          exact J4169 μ4245 T4246 (mF.call mF.refl F4247 rfl) (h4248.1 T4246 F4247)
      refine mr_lvS (lv' := [(0, .ref 23), (1, iv p1), (2, iv z2521), (3, jv z2520), (5, jv z2519), (8, iv z2517), (9, iv 1), (10, jv 0), (12, jv 0), (14, iv 0)]) (List.forall_mem_cons.mpr ⟨rfl, List.forall_mem_cons.mpr ⟨rfl, List.forall_mem_cons.mpr ⟨rfl, List.forall_mem_cons.mpr ⟨rfl, List.forall_mem_cons.mpr ⟨rfl, List.forall_mem_cons.mpr ⟨rfl, List.forall_mem_cons.mpr ⟨rfl, List.forall_mem_cons.mpr ⟨rfl, List.forall_mem_cons.mpr ⟨rfl, List.forall_mem_cons.mpr ⟨rfl, fun _ h => absurd h List.not_mem_nil⟩⟩⟩⟩⟩⟩⟩⟩⟩⟩) ?_
      exact L4034 1003 1 0 0 0 μ2522 T2529 mF.refl (rW (c := 0) (d := 1) (rR (x := 1)) rfl) (rW (c := -9223372036854775808) (d := 9223372036854775807) (rR (x := 0)) rfl) (rW (c := -9223372036854775808) (d := 9223372036854775807) (rR (x := 0)) rfl) (rW (c := 0) (d := 1001) (rR (x := 0)) rfl) vc_X6_readBranches_Wx6_20 (((W2533 z2521 z2520 z2519 z2518 z2517 μ2522 rfl h2524 h2525 h2526 h2527 h2528 T2529 F2530).2 h2715).2 h2905)
  refine mr_lvS (lv' := [(0, .ref 23), (1, iv p1), (2, iv 0), (3, jv 0), (5, jv 0), (7, iv 1), (8, iv 0)]) (List.forall_mem_cons.mpr ⟨rfl, List.forall_mem_cons.mpr ⟨rfl, List.forall_mem_cons.mpr ⟨rfl, List.forall_mem_cons.mpr ⟨rfl, List.forall_mem_cons.mpr ⟨rfl, List.forall_mem_cons.mpr ⟨rfl, List.forall_mem_cons.mpr ⟨rfl, fun _ h => absurd h List.not_mem_nil⟩⟩⟩⟩⟩⟩⟩) ?_
  exact L2523 1003 0 0 0 1 0 μ hT mF.refl (rW (c := 0) (d := 1) (rR (x := 0)) rfl) (rW (c := -9223372036854775808) (d := 9223372036854775807) (rR (x := 0)) rfl) (rW (c := -9223372036854775808) (d := 9223372036854775807) (rR (x := 0)) rfl) (rW (c := 0) (d := 1) (rR (x := 1)) rfl) (rW (c := 0) (d := 1001) (rR (x := 0)) rfl) vc_X6_readBranches_Wx6_20 hQ
def WP_X6_readGroup_Wx5 (w : mW) (μ : mM) (p1 : Int) (Q : mM → Prop) : Prop := WP_X6_step_Wx w μ  (fun μ1 => mT w μ1 → mF [23009] w μ μ1 → WP_X6_readBranches_Wx6 w μ1 (p1 + 1) (fun μ5 => mT w μ5 → mF [23009, 23012, 23015, 23016, 23017, 23018, 23019, 28999, 29999] w μ1 μ5 → ∀ z9 : Int, μ5 23 9 = z9 → (0 ≤ z9 ∧ z9 ≤ 1000) → ∀ z12 : Int, μ5 24 (z9.toNat) = z12 → ((-2147483648) ≤ z12 ∧ z12 ≤ 2147483647) → ((z12 = 1041) → WP_X6_step_Wx w μ5  (fun μ17 => mT w μ17 → mF [23009] w μ5 μ17 → Q μ17)) ∧ ((¬ z12 = 1041) → WP_X6_fail_Wx w μ5 (2) (fun μ21 => mT w μ21 → mF [23009, 23018, 23019] w μ5 μ21 → Q μ21))))
theorem vc_X6_readGroup_Wx5_1 {p1 : Int} (h0 : 6 ≤ p1) (h1 : 5 ≤ p1 ∧ p1 ≤ 5) : False := by omega
theorem vc_X6_readGroup_Wx5_2 {z12 : Int} (h0 : z12 = 1041) (h1 : (-2147483648) ≤ z12 ∧ z12 ≤ 2147483647) : 1041 ≤ z12 ∧ z12 ≤ 1041 := by omega
set_option maxRecDepth 4000 in
set_option maxHeartbeats 4000000 in
theorem c_X6_readGroup_Wx5 {l : Launch} {D : va_G} {c : Nat → ClassId} {H0 : Heap} {sa : Nat × Nat × (Nat → Int32)} {w : mW} {μ : mM} (hw : mWF w) (hT : mT w μ) {p1 : Int} (hp1 : 5 ≤ p1 ∧ p1 ≤ 5) {Q : mM → Prop} (hQ : WP_X6_readGroup_Wx5 w μ p1 Q) : sC (gG l D c H0 sa) mX6_readGroup 4 0 0 [.ref 23, iv p1] (mk w μ) (qV w [23009, 23012, 23015, 23016, 23017, 23018, 23019, 28999, 29999] μ (fun μ1 => Q μ1 ∧ True)) := by
  refine sC.of rfl (by decide) (le_t rfl) ?_
  refine mr_lvE (lv' := [(0, .ref 23), (1, iv p1)]) rfl ?_
  refine mr_iload_n (pc := 0) (z := p1) dX6_readGroup_0 rfl rfl ?_
  refine mr_bipush (pc := 1) (z := 6) dX6_readGroup_1 (by decide) ?_
  refine mr_icmp_lt (pc := 3) (tgt := 12) dX6_readGroup_3 (by decide) (r32 hp1 rfl) (r32 (rR (x := 6)) rfl) (fun _ => ?_) (fun h => ((vc_X6_readGroup_Wx5_1 h hp1)).elim)
  refine sv_aload_n (pc := 12) dX6_readGroup_12 rfl rfl ?_
  refine mr_cVV (pc := 13) (c_X6_step_Wx hw hT hQ) (gOk _ _ _ _ _) dX6_readGroup_13 (tX6_step _ _ _ _ _) ⟨wV_X6_step, wL_X6_step⟩ wM_X6_117 (gCX6 _ _ _ _ _) rfl (A_23 hw) rfl ⟨le_t rfl, le_t rfl⟩ ⟨le_t rfl, le_t rfl⟩ rfl (le_t rfl) fun μ1 T2 F3 h4 => ?_
  refine sv_aload_n (pc := 16) dX6_readGroup_16 rfl rfl ?_
  refine mr_iload_n (pc := 17) (z := p1) dX6_readGroup_17 rfl rfl ?_
  refine mr_iconst (pc := 18) (z := 1) dX6_readGroup_18 ?_
  refine mr_iadd (pc := 19) (x := p1) (y := 1) dX6_readGroup_19 ?_
  refine mr_cVV (pc := 20) (c_X6_readBranches_Wx6 hw T2 (rAdd (e := 6) (f := 6) hp1 (rR (x := 1)) rfl) (h4.1 T2 F3)) (gOk _ _ _ _ _) dX6_readGroup_20 (tX6_readBranches _ _ _ _ _) ⟨wV_X6_readBranches, wL_X6_readBranches⟩ wM_X6_176 (gCX6 _ _ _ _ _) rfl (A_23 hw) rfl ⟨le_t rfl, le_t rfl⟩ ⟨le_t rfl, le_t rfl⟩ rfl (le_t rfl) fun μ5 T6 F7 h8 => ?_
  refine sv_aload_n (pc := 23) dX6_readGroup_23 rfl rfl ?_
  refine gf_X6_0 (pc := 24) dX6_readGroup_24 wF_X6_9 (A_23 hw) T6 ?_
  refine sv_aload_n (pc := 27) dX6_readGroup_27 rfl rfl ?_
  refine gf_X6_9 (pc := 28) dX6_readGroup_28 wF_X6_63 (A_23 hw) T6 fun z9 q10 h11 => ?_
  refine la_24 (pc := 31) dX6_readGroup_31 (A_24 hw) T6 (rIx (n := 1001) h11 rfl) fun z12 q13 h14 => ?_
  refine mr_sipush (pc := 32) (z := 1041) dX6_readGroup_32 (by decide) ?_
  refine mr_icmp_eq (pc := 35) (tgt := 44) dX6_readGroup_35 (by decide) h14 (r32 (rR (x := 1041)) rfl) (fun h15 => ?_) (fun h15 => ?_)
  · have h16 : 1041 ≤ z12 ∧ z12 ≤ 1041 := (vc_X6_readGroup_Wx5_2 h15 h14)
    refine sv_aload_n (pc := 44) dX6_readGroup_44 rfl rfl ?_
    refine mr_cVV (pc := 45) (c_X6_step_Wx hw T6 ((((h8.1 T6 F7) z9 q10 h11) z12 q13 h14).1 h15)) (gOk _ _ _ _ _) dX6_readGroup_45 (tX6_step _ _ _ _ _) ⟨wV_X6_step, wL_X6_step⟩ wM_X6_117 (gCX6 _ _ _ _ _) rfl (A_23 hw) rfl ⟨le_t rfl, le_t rfl⟩ ⟨le_t rfl, le_t rfl⟩ rfl (le_t rfl) fun μ17 T18 F19 h20 => ?_
    exact mr_vret dX6_readGroup_48 rfl (le_t rfl) (le_t rfl) T18 (mF.call (mF.call (mF.call mF.refl F3 rfl) F7 rfl) F19 rfl) ⟨(h20.1 T18 F19), trivial⟩
  refine sv_aload_n (pc := 38) dX6_readGroup_38 rfl rfl ?_
  refine mr_iconst (pc := 39) (z := 2) dX6_readGroup_39 ?_
  refine mr_cVV (pc := 40) (c_X6_fail_Wx hw T6 (rW (c := 1) (d := 4) (rR (x := 2)) rfl) ((((h8.1 T6 F7) z9 q10 h11) z12 q13 h14).2 h15)) (gOk _ _ _ _ _) dX6_readGroup_40 (tX6_fail _ _ _ _ _) ⟨wV_X6_fail, wL_X6_fail⟩ wM_X6_123 (gCX6 _ _ _ _ _) rfl (A_23 hw) rfl ⟨le_t rfl, le_t rfl⟩ ⟨le_t rfl, le_t rfl⟩ rfl (le_t rfl) fun μ21 T22 F23 h24 => ?_
  exact mr_vret dX6_readGroup_43 rfl (le_t rfl) (le_t rfl) T22 (mF.call (mF.call (mF.call mF.refl F3 rfl) F7 rfl) F23 rfl) ⟨(h24.1 T22 F23), trivial⟩
def WJ_X6_readBranches_Wx5_4 (w : mW) (rec1 : (Int × Int × Int × Int × Int × mM) → Prop) (z2520 : Int) (z2519 : Int) (z2517 : Int) (z4031 : Int) (z4030 : Int) (μ4033 : mM) (z4117 : Int) : Prop := (0 ≤ z4117 ∧ z4117 ≤ 1) → ∀ z4121 : Int, lOr z2520 z4031 = z4121 → ∀ z4124 : Int, lOr z2519 z4030 = z4124 → WP_X6_take_Wx w μ4033 (1124) (fun z4131 μ4127 => mT w μ4127 → mF [23009] w μ4033 μ4127 → (0 ≤ z4131 ∧ z4131 ≤ 1) → rec1 (z4117, z4121, z4124, z4131, (z2517 + 1), μ4127))
def WJ_X6_readBranches_Wx5_3 (w : mW) (rec1 : (Int × Int × Int × Int × Int × mM) → Prop) (z2521 : Int) (z2520 : Int) (z2519 : Int) (z2517 : Int) (z4032 : Int) (z4031 : Int) (z4030 : Int) (μ4033 : mM) : Prop := ((¬ z2521 = 0) → (WJ_X6_readBranches_Wx5_4 w rec1 z2520 z2519 z2517 z4031 z4030 μ4033) (1 : Int)) ∧ ((z2521 = 0) → ((z4032 = 0) → (WJ_X6_readBranches_Wx5_4 w rec1 z2520 z2519 z2517 z4031 z4030 μ4033) (0 : Int)) ∧ ((¬ z4032 = 0) → (WJ_X6_readBranches_Wx5_4 w rec1 z2520 z2519 z2517 z4031 z4030 μ4033) (1 : Int)))
def WJ_X6_readBranches_Wx5_7 (rec2 : (Int × Int × Int × Int × mM) → Prop) (z4032 : Int) (z4029 : Int) (μ4178 : mM) (z4187 : Int) (z4191 : Int) (z4205 : Int) : Prop := ((-9223372036854775808) ≤ z4205 ∧ z4205 ≤ 9223372036854775807) → ((z4032 = 0) → rec2 ((0 : Int), z4187, z4205, (z4029 + 1), μ4178)) ∧ ((¬ z4032 = 0) → ((z4191 = 0) → rec2 ((0 : Int), z4187, z4205, (z4029 + 1), μ4178)) ∧ ((¬ z4191 = 0) → rec2 ((1 : Int), z4187, z4205, (z4029 + 1), μ4178)))
def WJ_X6_readBranches_Wx5_6 (rec2 : (Int × Int × Int × Int × mM) → Prop) (z4032 : Int) (z4030 : Int) (z4029 : Int) (μ4178 : mM) (z4187 : Int) : Prop := ((-9223372036854775808) ≤ z4187 ∧ z4187 ≤ 9223372036854775807) → ∀ z4191 : Int, μ4178 23 15 = z4191 → (0 ≤ z4191 ∧ z4191 ≤ 1) → ((z4191 = 0) → ∀ z4223 : Int, μ4178 23 17 = z4223 → ((-9223372036854775808) ≤ z4223 ∧ z4223 ≤ 9223372036854775807) → (WJ_X6_readBranches_Wx5_7 rec2 z4032 z4029 μ4178 z4187 z4191) z4223) ∧ ((¬ z4191 = 0) → ∀ z4227 : Int, μ4178 23 17 = z4227 → ((-9223372036854775808) ≤ z4227 ∧ z4227 ≤ 9223372036854775807) → ∀ z4230 : Int, lOr z4030 z4227 = z4230 → (WJ_X6_readBranches_Wx5_7 rec2 z4032 z4029 μ4178 z4187 z4191) z4230)
def WJ_X6_readBranches_Wx5_5 (w : mW) (rec2 : (Int × Int × Int × Int × mM) → Prop) (z4032 : Int) (z4031 : Int) (z4030 : Int) (z4029 : Int) (μ4033 : mM) (μ4165 : mM) : Prop := mT w μ4165 → mF [23009, 23012, 23015, 23016, 23017, 23018, 23019, 28999, 29999] w μ4033 μ4165 → WP_X6_readRepeat_Wx w μ4165  (fun μ4171 => mT w μ4171 → mF [23009, 23015, 29999] w μ4165 μ4171 → ∀ z4175 : Int, μ4171 23 16 = z4175 → ((-9223372036854775808) ≤ z4175 ∧ z4175 ≤ 9223372036854775807) → WP_X6_join_Wx w μ4171 z4030 z4175 (fun μ4178 => mT w μ4178 → mF [29999] w μ4171 μ4178 → ((z4032 = 0) → (WJ_X6_readBranches_Wx5_6 rec2 z4032 z4030 z4029 μ4178) z4031) ∧ ((¬ z4032 = 0) → ∀ z4236 : Int, lOr z4031 z4175 = z4236 → (WJ_X6_readBranches_Wx5_6 rec2 z4032 z4030 z4029 μ4178) z4236)))
def WL_X6_readBranches_Wx5_2 (w : mW) (p1 : Int) (rec1 : (Int × Int × Int × Int × Int × mM) → Prop) (z2521 : Int) (z2520 : Int) (z2519 : Int) (z2517 : Int) (μ2522 : mM) (rec2 : (Int × Int × Int × Int × mM) → Prop) (s : (Int × Int × Int × Int × mM)) : Prop := ∀ z4032 : Int, ∀ z4031 : Int, ∀ z4030 : Int, ∀ z4029 : Int, ∀ μ4033 : mM, s = (z4032, z4031, z4030, z4029, μ4033) → (0 ≤ z4032 ∧ z4032 ≤ 1) → ((-9223372036854775808) ≤ z4031 ∧ z4031 ≤ 9223372036854775807) → ((-9223372036854775808) ≤ z4030 ∧ z4030 ≤ 9223372036854775807) → (0 ≤ z4029 ∧ z4029 ≤ 1001) → mT w μ4033 → mF [23009, 23012, 23015, 23016, 23017, 23018, 23019, 28999, 29999] w μ2522 μ4033 → ((1000 < z4029) → (WJ_X6_readBranches_Wx5_3 w rec1 z2521 z2520 z2519 z2517 z4032 z4031 z4030 μ4033) ) ∧ ((z4029 ≤ 1000) → ∀ z4141 : Int, μ4033 23 9 = z4141 → (0 ≤ z4141 ∧ z4141 ≤ 1000) → ∀ z4144 : Int, μ4033 24 (z4141.toNat) = z4144 → ((-2147483648) ≤ z4144 ∧ z4144 ≤ 2147483647) → WP_X6_beginsPiece_Wx w μ4033 z4144 (fun z4151 _ => (0 ≤ z4151 ∧ z4151 ≤ 1) → ((z4151 = 0) → (WJ_X6_readBranches_Wx5_3 w rec1 z2521 z2520 z2519 z2517 z4032 z4031 z4030 μ4033) ) ∧ ((¬ z4151 = 0) → ((¬ z4144 = 1040) → WP_X6_readPlace_Wx w μ4033  (fun μ4240 => mT w μ4240 → mF [23009, 23012, 23015, 23016, 23017, 23018, 23019, 28999, 29999] w μ4033 μ4240 → (WJ_X6_readBranches_Wx5_5 w rec2 z4032 z4031 z4030 z4029 μ4033) μ4240)) ∧ ((z4144 = 1040) → WP_X6_readGroup_Wx5 w μ4033 p1 (fun μ4245 => mT w μ4245 → mF [23009, 23012, 23015, 23016, 23017, 23018, 23019, 28999, 29999] w μ4033 μ4245 → (WJ_X6_readBranches_Wx5_5 w rec2 z4032 z4031 z4030 z4029 μ4033) μ4245)))))
def WL_X6_readBranches_Wx5_1 (w : mW) (μ : mM) (p1 : Int) (Q : mM → Prop) (rec1 : (Int × Int × Int × Int × Int × mM) → Prop) (s : (Int × Int × Int × Int × Int × mM)) : Prop := ∀ z2521 : Int, ∀ z2520 : Int, ∀ z2519 : Int, ∀ z2518 : Int, ∀ z2517 : Int, ∀ μ2522 : mM, s = (z2521, z2520, z2519, z2518, z2517, μ2522) → (0 ≤ z2521 ∧ z2521 ≤ 1) → ((-9223372036854775808) ≤ z2520 ∧ z2520 ≤ 9223372036854775807) → ((-9223372036854775808) ≤ z2519 ∧ z2519 ≤ 9223372036854775807) → (0 ≤ z2518 ∧ z2518 ≤ 1) → (0 ≤ z2517 ∧ z2517 ≤ 1001) → mT w μ2522 → mF [23009, 23012, 23015, 23016, 23017, 23018, 23019, 28999, 29999] w μ μ2522 → ((1000 < z2517) → ∀ μ2717 : mM, mU μ2522 23 (15) z2521 μ2717 → mT w μ2717 → ∀ μ2720 : mM, mU μ2717 23 (16) z2520 μ2720 → mT w μ2720 → ∀ μ2723 : mM, mU μ2720 23 (17) z2519 μ2723 → mT w μ2723 → Q μ2723) ∧ ((z2517 ≤ 1000) → ((z2518 = 0) → ∀ μ2907 : mM, mU μ2522 23 (15) z2521 μ2907 → mT w μ2907 → ∀ μ2910 : mM, mU μ2907 23 (16) z2520 μ2910 → mT w μ2910 → ∀ μ2913 : mM, mU μ2910 23 (17) z2519 μ2913 → mT w μ2913 → Q μ2913) ∧ ((¬ z2518 = 0) → loopF (WL_X6_readBranches_Wx5_2 w p1 rec1 z2521 z2520 z2519 z2517 μ2522) False 1003 ((1 : Int), (0 : Int), (0 : Int), (0 : Int), μ2522)))
def WP_X6_readBranches_Wx5 (w : mW) (μ : mM) (p1 : Int) (Q : mM → Prop) : Prop := loopF (WL_X6_readBranches_Wx5_1 w μ p1 Q) False 1003 ((0 : Int), (0 : Int), (0 : Int), (1 : Int), (0 : Int), μ)
set_option maxRecDepth 4000 in
set_option maxHeartbeats 4000000 in
theorem c_X6_readBranches_Wx5 {l : Launch} {D : va_G} {c : Nat → ClassId} {H0 : Heap} {sa : Nat × Nat × (Nat → Int32)} {w : mW} {μ : mM} (hw : mWF w) (hT : mT w μ) {p1 : Int} (hp1 : 5 ≤ p1 ∧ p1 ≤ 5) {Q : mM → Prop} (hQ : WP_X6_readBranches_Wx5 w μ p1 Q) : sC (gG l D c H0 sa) mX6_readBranches 5 0 0 [.ref 23, iv p1] (mk w μ) (qV w [23009, 23012, 23015, 23016, 23017, 23018, 23019, 28999, 29999] μ (fun μ1 => Q μ1 ∧ True)) := by
  refine sC.of rfl (by decide) (le_t rfl) ?_
  refine mr_lvE (lv' := [(0, .ref 23), (1, iv p1)]) rfl ?_
  refine mr_iconst (pc := 0) (z := 0) dX6_readBranches_0 ?_
  refine mr_istore_n (pc := 1) (lv' := [(2, iv 0), (0, .ref 23), (1, iv p1)]) dX6_readBranches_1 rfl (by decide) rfl ?_
  refine mr_lconst (pc := 2) (z := 0) dX6_readBranches_2 (by decide) ?_
  refine mr_lstore_n (pc := 3) (lv' := [(3, jv 0), (2, iv 0), (0, .ref 23), (1, iv p1)]) dX6_readBranches_3 rfl (by decide) rfl ?_
  refine mr_lconst (pc := 4) (z := 0) dX6_readBranches_4 (by decide) ?_
  refine mr_lstore (pc := 5) (lv' := [(5, jv 0), (3, jv 0), (2, iv 0), (0, .ref 23), (1, iv p1)]) dX6_readBranches_5 (by decide) rfl ?_
  refine mr_iconst (pc := 7) (z := 1) dX6_readBranches_7 ?_
  refine mr_istore (pc := 8) (lv' := [(7, iv 1), (5, jv 0), (3, jv 0), (2, iv 0), (0, .ref 23), (1, iv p1)]) dX6_readBranches_8 (by decide) rfl ?_
  refine mr_iconst (pc := 10) (z := 0) dX6_readBranches_10 ?_
  refine mr_istore (pc := 11) (lv' := [(8, iv 0), (7, iv 1), (5, jv 0), (3, jv 0), (2, iv 0), (0, .ref 23), (1, iv p1)]) dX6_readBranches_11 (by decide) rfl ?_
  have L2523 : ∀ (nL2523 : Nat) (z2521 z2520 z2519 z2518 z2517 : Int) (μ2522 : mM), mT w μ2522 → mF [23009, 23012, 23015, 23016, 23017, 23018, 23019, 28999, 29999] w μ μ2522 → (0 ≤ z2521 ∧ z2521 ≤ 1) → ((-9223372036854775808) ≤ z2520 ∧ z2520 ≤ 9223372036854775807) → ((-9223372036854775808) ≤ z2519 ∧ z2519 ≤ 9223372036854775807) → (0 ≤ z2518 ∧ z2518 ≤ 1) → (0 ≤ z2517 ∧ z2517 ≤ 1001) → (1002 - z2517) < (nL2523 : Int) → loopF (WL_X6_readBranches_Wx5_1 w μ p1 Q) False nL2523 (z2521, z2520, z2519, z2518, z2517, μ2522) → sV (gG l D c H0 sa) mX6_readBranches (sRm 5 0 0) (sZ (gG l D c H0 sa) 0 0 (qV w [23009, 23012, 23015, 23016, 23017, 23018, 23019, 28999, 29999] μ (fun μ1 => Q μ1 ∧ True))) 13 [(0, .ref 23), (1, iv p1), (2, iv z2521), (3, jv z2520), (5, jv z2519), (7, iv z2518), (8, iv z2517)] [] (mk w μ2522) 0 0 := by
    intro nL2523
    induction nL2523 with
    | zero => intro z2521 z2520 z2519 z2518 z2517 μ2522 T2529 F2530 h2524 h2525 h2526 h2527 h2528 h2532 W2533; exact ((vc_X6_readBranches_Wx6_1 h2532 h2528)).elim
    | succ nL2523 ih2534 =>
      intro z2521 z2520 z2519 z2518 z2517 μ2522 T2529 F2530 h2524 h2525 h2526 h2527 h2528 h2532 W2533
      refine mr_iload (pc := 13) (z := z2517) dX6_readBranches_13 rfl ?_
      refine mr_sipush (pc := 15) (z := 1000) dX6_readBranches_15 (by decide) ?_
      refine mr_icmp_gt (pc := 18) (tgt := 211) dX6_readBranches_18 (by decide) (r32 h2528 rfl) (r32 (rR (x := 1000)) rfl) (fun h2715 => ?_) (fun h2715 => ?_)
      · have h2716 : 1001 ≤ z2517 ∧ z2517 ≤ 1001 := (vc_X6_readBranches_Wx6_2 h2715 h2528)
        refine sv_aload_n (pc := 211) dX6_readBranches_211 rfl rfl ?_
        refine mr_iload_n (pc := 212) (z := z2521) dX6_readBranches_212 rfl rfl ?_
        refine pf_X6_15 (pc := 213) dX6_readBranches_213 wF_X6_186 (A_23 hw) T2529 h2524 fun μ2717 u2718 T2719 => ?_
        refine sv_aload_n (pc := 216) dX6_readBranches_216 rfl rfl ?_
        refine mr_lload_n (pc := 217) (z := z2520) dX6_readBranches_217 rfl rfl ?_
        refine pf_X6_16 (pc := 218) dX6_readBranches_218 wF_X6_179 (A_23 hw) T2719 h2525 fun μ2720 u2721 T2722 => ?_
        refine sv_aload_n (pc := 221) dX6_readBranches_221 rfl rfl ?_
        refine mr_lload (pc := 222) (z := z2519) dX6_readBranches_222 rfl ?_
        refine pf_X6_17 (pc := 224) dX6_readBranches_224 wF_X6_183 (A_23 hw) T2722 h2526 fun μ2723 u2724 T2725 => ?_
        exact mr_vret dX6_readBranches_227 rfl (le_t rfl) (le_t rfl) T2725 (mF.up (mF.up (mF.up (mF.call mF.refl F2530 rfl) (A_23 hw) u2718 rfl) (A_23 hw) u2721 rfl) (A_23 hw) u2724 rfl) ⟨(((((W2533 z2521 z2520 z2519 z2518 z2517 μ2522 rfl h2524 h2525 h2526 h2527 h2528 T2529 F2530).1 h2715) μ2717 u2718 T2719) μ2720 u2721 T2722) μ2723 u2724 T2725), trivial⟩
      have h2726 : 0 ≤ z2517 ∧ z2517 ≤ 1000 := (vc_X6_readBranches_Wx6_3 h2715 h2528)
      refine mr_iload (pc := 21) (z := z2518) dX6_readBranches_21 rfl ?_
      refine mr_if_eq (pc := 23) (tgt := 211) dX6_readBranches_23 (by decide) (r32 h2527 rfl) (fun h2905 => ?_) (fun h2905 => ?_)
      · have h2906 : 0 ≤ z2518 ∧ z2518 ≤ 0 := (vc_X12_ring_22 h2905 h2527)
        refine sv_aload_n (pc := 211) dX6_readBranches_211 rfl rfl ?_
        refine mr_iload_n (pc := 212) (z := z2521) dX6_readBranches_212 rfl rfl ?_
        refine pf_X6_15 (pc := 213) dX6_readBranches_213 wF_X6_186 (A_23 hw) T2529 h2524 fun μ2907 u2908 T2909 => ?_
        refine sv_aload_n (pc := 216) dX6_readBranches_216 rfl rfl ?_
        refine mr_lload_n (pc := 217) (z := z2520) dX6_readBranches_217 rfl rfl ?_
        refine pf_X6_16 (pc := 218) dX6_readBranches_218 wF_X6_179 (A_23 hw) T2909 h2525 fun μ2910 u2911 T2912 => ?_
        refine sv_aload_n (pc := 221) dX6_readBranches_221 rfl rfl ?_
        refine mr_lload (pc := 222) (z := z2519) dX6_readBranches_222 rfl ?_
        refine pf_X6_17 (pc := 224) dX6_readBranches_224 wF_X6_183 (A_23 hw) T2912 h2526 fun μ2913 u2914 T2915 => ?_
        exact mr_vret dX6_readBranches_227 rfl (le_t rfl) (le_t rfl) T2915 (mF.up (mF.up (mF.up (mF.call mF.refl F2530 rfl) (A_23 hw) u2908 rfl) (A_23 hw) u2911 rfl) (A_23 hw) u2914 rfl) ⟨((((((W2533 z2521 z2520 z2519 z2518 z2517 μ2522 rfl h2524 h2525 h2526 h2527 h2528 T2529 F2530).2 h2715).1 h2905) μ2907 u2908 T2909) μ2910 u2911 T2912) μ2913 u2914 T2915), trivial⟩
      have h2916 : 1 ≤ z2518 ∧ z2518 ≤ 1 := (vc_X12_ring_24 h2905 h2527)
      refine mr_iconst (pc := 26) (z := 1) dX6_readBranches_26 ?_
      refine mr_istore (pc := 27) (lv' := [(9, iv 1), (0, .ref 23), (1, iv p1), (2, iv z2521), (3, jv z2520), (5, jv z2519), (7, iv z2518), (8, iv z2517)]) dX6_readBranches_27 (by decide) rfl ?_
      refine mr_lconst (pc := 29) (z := 0) dX6_readBranches_29 (by decide) ?_
      refine mr_lstore (pc := 30) (lv' := [(10, jv 0), (9, iv 1), (0, .ref 23), (1, iv p1), (2, iv z2521), (3, jv z2520), (5, jv z2519), (7, iv z2518), (8, iv z2517)]) dX6_readBranches_30 (by decide) rfl ?_
      refine mr_lconst (pc := 32) (z := 0) dX6_readBranches_32 (by decide) ?_
      refine mr_lstore (pc := 33) (lv' := [(12, jv 0), (10, jv 0), (9, iv 1), (0, .ref 23), (1, iv p1), (2, iv z2521), (3, jv z2520), (5, jv z2519), (7, iv z2518), (8, iv z2517)]) dX6_readBranches_33 (by decide) rfl ?_
      refine mr_iconst (pc := 35) (z := 0) dX6_readBranches_35 ?_
      refine mr_istore (pc := 36) (lv' := [(14, iv 0), (12, jv 0), (10, jv 0), (9, iv 1), (0, .ref 23), (1, iv p1), (2, iv z2521), (3, jv z2520), (5, jv z2519), (7, iv z2518), (8, iv z2517)]) dX6_readBranches_36 (by decide) rfl ?_
      have L4034 : ∀ (nL4034 : Nat) (z4032 z4031 z4030 z4029 : Int) (μ4033 : mM), mT w μ4033 → mF [23009, 23012, 23015, 23016, 23017, 23018, 23019, 28999, 29999] w μ2522 μ4033 → (0 ≤ z4032 ∧ z4032 ≤ 1) → ((-9223372036854775808) ≤ z4031 ∧ z4031 ≤ 9223372036854775807) → ((-9223372036854775808) ≤ z4030 ∧ z4030 ≤ 9223372036854775807) → (0 ≤ z4029 ∧ z4029 ≤ 1001) → (1002 - z4029) < (nL4034 : Int) → loopF (WL_X6_readBranches_Wx5_2 w p1 (loopF (WL_X6_readBranches_Wx5_1 w μ p1 Q) False nL2523) z2521 z2520 z2519 z2517 μ2522) False nL4034 (z4032, z4031, z4030, z4029, μ4033) → sV (gG l D c H0 sa) mX6_readBranches (sRm 5 0 0) (sZ (gG l D c H0 sa) 0 0 (qV w [23009, 23012, 23015, 23016, 23017, 23018, 23019, 28999, 29999] μ (fun μ1 => Q μ1 ∧ True))) 38 [(0, .ref 23), (1, iv p1), (2, iv z2521), (3, jv z2520), (5, jv z2519), (8, iv z2517), (9, iv z4032), (10, jv z4031), (12, jv z4030), (14, iv z4029)] [] (mk w μ4033) 0 0 := by
        intro nL4034
        induction nL4034 with
        | zero => intro z4032 z4031 z4030 z4029 μ4033 T4039 F4040 h4035 h4036 h4037 h4038 h4042 W4043; exact ((vc_X6_readBranches_Wx6_1 h4042 h4038)).elim
        | succ nL4034 ih4044 =>
          intro z4032 z4031 z4030 z4029 μ4033 T4039 F4040 h4035 h4036 h4037 h4038 h4042 W4043
          refine mr_iload (pc := 38) (z := z4029) dX6_readBranches_38 rfl ?_
          refine mr_sipush (pc := 40) (z := 1000) dX6_readBranches_40 (by decide) ?_
          have J4111 : ((WJ_X6_readBranches_Wx5_3 w (loopF (WL_X6_readBranches_Wx5_1 w μ p1 Q) False nL2523) z2521 z2520 z2519 z2517 z4032 z4031 z4030 μ4033) ) → sV (gG l D c H0 sa) mX6_readBranches (sRm 5 0 0) (sZ (gG l D c H0 sa) 0 0 (qV w [23009, 23012, 23015, 23016, 23017, 23018, 23019, 28999, 29999] μ (fun μ1 => Q μ1 ∧ True))) 169 [(0, .ref 23), (1, iv p1), (2, iv z2521), (3, jv z2520), (5, jv z2519), (8, iv z2517), (9, iv z4032), (10, jv z4031), (12, jv z4030)] [] (mk w μ4033) 0 0 := by
            intro W4112
            refine mr_iload_n (pc := 169) (z := z2521) dX6_readBranches_169 rfl rfl ?_
            have J4119 : ∀ (z4117 : Int), ((0 ≤ z4117 ∧ z4117 ≤ 1)) → ((WJ_X6_readBranches_Wx5_4 w (loopF (WL_X6_readBranches_Wx5_1 w μ p1 Q) False nL2523) z2520 z2519 z2517 z4031 z4030 μ4033) z4117) → sV (gG l D c H0 sa) mX6_readBranches (sRm 5 0 0) (sZ (gG l D c H0 sa) 0 0 (qV w [23009, 23012, 23015, 23016, 23017, 23018, 23019, 28999, 29999] μ (fun μ1 => Q μ1 ∧ True))) 183 [(0, .ref 23), (1, iv p1), (3, jv z2520), (5, jv z2519), (8, iv z2517), (10, jv z4031), (12, jv z4030)] [iv z4117] (mk w μ4033) 0 0 := by
              intro z4117 h4118 W4120
              refine mr_istore_n (pc := 183) (lv' := [(2, iv z4117), (0, .ref 23), (1, iv p1), (3, jv z2520), (5, jv z2519), (8, iv z2517), (10, jv z4031), (12, jv z4030)]) dX6_readBranches_183 rfl (by decide) rfl ?_
              refine mr_lload_n (pc := 184) (z := z2520) dX6_readBranches_184 rfl rfl ?_
              refine mr_lload (pc := 185) (z := z4031) dX6_readBranches_185 rfl ?_
              refine mr_lor (pc := 187) dX6_readBranches_187 ?_
              refine mr_genL (r64i _) fun z4121 q4122 h4123 => ?_
              refine mr_lstore_n (pc := 188) (lv' := [(3, jv z4121), (2, iv z4117), (0, .ref 23), (1, iv p1), (5, jv z2519), (8, iv z2517), (10, jv z4031), (12, jv z4030)]) dX6_readBranches_188 rfl (by decide) rfl ?_
              refine mr_lload (pc := 189) (z := z2519) dX6_readBranches_189 rfl ?_
              refine mr_lload (pc := 191) (z := z4030) dX6_readBranches_191 rfl ?_
              refine mr_lor (pc := 193) dX6_readBranches_193 ?_
              refine mr_genL (r64i _) fun z4124 q4125 h4126 => ?_
              refine mr_lstore (pc := 194) (lv' := [(5, jv z4124), (3, jv z4121), (2, iv z4117), (0, .ref 23), (1, iv p1), (8, iv z2517), (10, jv z4031), (12, jv z4030)]) dX6_readBranches_194 (by decide) rfl ?_
              refine sv_aload_n (pc := 196) dX6_readBranches_196 rfl rfl ?_
              refine mr_sipush (pc := 197) (z := 1124) dX6_readBranches_197 (by decide) ?_
              refine mr_cVI (pc := 200) (c_X6_take_Wx hw T4039 (rW (c := (-2147483648)) (d := 2147483647) (rR (x := 1124)) rfl) (((W4120 h4118) z4121 q4122) z4124 q4125)) (gOk _ _ _ _ _) dX6_readBranches_200 (tX6_take _ _ _ _ _) ⟨wV_X6_take, wL_X6_take⟩ wM_X6_120 (gCX6 _ _ _ _ _) rfl (A_23 hw) rfl ⟨le_t rfl, le_t rfl⟩ ⟨le_t rfl, le_t rfl⟩ rfl (le_t rfl) fun z4131 μ4127 T4128 F4129 h4130 => ?_
              refine mr_istore (pc := 203) (lv' := [(7, iv z4131), (5, jv z4124), (3, jv z4121), (2, iv z4117), (0, .ref 23), (1, iv p1), (8, iv z2517), (10, jv z4031), (12, jv z4030)]) dX6_readBranches_203 (by decide) rfl ?_
              refine mr_iinc (pc := 205) (lv' := [(8, iv (z2517 + 1)), (7, iv z4131), (5, jv z4124), (3, jv z4121), (2, iv z4117), (0, .ref 23), (1, iv p1), (10, jv z4031), (12, jv z4030)]) dX6_readBranches_205 rfl (by decide) rfl ?_
              refine sv_goto (pc := 208) (tgt := 13) dX6_readBranches_208 (by decide) ?_
              refine mr_lvS (lv' := [(0, .ref 23), (1, iv p1), (2, iv z4117), (3, jv z4121), (5, jv z4124), (7, iv z4131), (8, iv (z2517 + 1))]) (List.forall_mem_cons.mpr ⟨rfl, List.forall_mem_cons.mpr ⟨rfl, List.forall_mem_cons.mpr ⟨rfl, List.forall_mem_cons.mpr ⟨rfl, List.forall_mem_cons.mpr ⟨rfl, List.forall_mem_cons.mpr ⟨rfl, List.forall_mem_cons.mpr ⟨rfl, fun _ h => absurd h List.not_mem_nil⟩⟩⟩⟩⟩⟩⟩) ?_
              exact ih2534 z4117 z4121 z4124 z4131 (z2517 + 1) μ4127 T4128 (mF.call (mF.call (mF.call mF.refl F2530 rfl) F4040 rfl) F4129 rfl) h4118 h4123 h4126 h4130.1 (rW (c := 0) (d := 1001) (rAdd (e := 1) (f := 1001) h2726 (rR (x := 1)) rfl) rfl) (vc_X6_readBranches_Wx6_7 (nS h2532) h2715 h2726) ((h4130.2.1 T4128 F4129) h4130.1)
            refine mr_if_ne (pc := 170) (tgt := 178) dX6_readBranches_170 (by decide) (r32 h2524 rfl) (fun h4132 => ?_) (fun h4132 => ?_)
            · have h4133 : 1 ≤ z2521 ∧ z2521 ≤ 1 := (vc_X12_ring_24 h4132 h2524)
              refine mr_iconst (pc := 178) (z := 1) dX6_readBranches_178 ?_
              refine sv_goto (pc := 179) (tgt := 183) dX6_readBranches_179 (by decide) ?_
              refine mr_lvS (lv' := [(0, .ref 23), (1, iv p1), (3, jv z2520), (5, jv z2519), (8, iv z2517), (10, jv z4031), (12, jv z4030)]) (List.forall_mem_cons.mpr ⟨rfl, List.forall_mem_cons.mpr ⟨rfl, List.forall_mem_cons.mpr ⟨rfl, List.forall_mem_cons.mpr ⟨rfl, List.forall_mem_cons.mpr ⟨rfl, List.forall_mem_cons.mpr ⟨rfl, List.forall_mem_cons.mpr ⟨rfl, fun _ h => absurd h List.not_mem_nil⟩⟩⟩⟩⟩⟩⟩) ?_
              exact J4119 1 (rW (c := 0) (d := 1) (rR (x := 1)) rfl) ((W4112).1 h4132)
            have h4134 : 0 ≤ z2521 ∧ z2521 ≤ 0 := (vc_X12_ring_22 h4132 h2524)
            refine mr_iload (pc := 173) (z := z4032) dX6_readBranches_173 rfl ?_
            refine mr_if_eq (pc := 175) (tgt := 182) dX6_readBranches_175 (by decide) (r32 h4035 rfl) (fun h4135 => ?_) (fun h4135 => ?_)
            · have h4136 : 0 ≤ z4032 ∧ z4032 ≤ 0 := (vc_X12_ring_22 h4135 h4035)
              refine mr_iconst (pc := 182) (z := 0) dX6_readBranches_182 ?_
              refine mr_lvS (lv' := [(0, .ref 23), (1, iv p1), (3, jv z2520), (5, jv z2519), (8, iv z2517), (10, jv z4031), (12, jv z4030)]) (List.forall_mem_cons.mpr ⟨rfl, List.forall_mem_cons.mpr ⟨rfl, List.forall_mem_cons.mpr ⟨rfl, List.forall_mem_cons.mpr ⟨rfl, List.forall_mem_cons.mpr ⟨rfl, List.forall_mem_cons.mpr ⟨rfl, List.forall_mem_cons.mpr ⟨rfl, fun _ h => absurd h List.not_mem_nil⟩⟩⟩⟩⟩⟩⟩) ?_
              exact J4119 0 (rW (c := 0) (d := 1) (rR (x := 0)) rfl) (((W4112).2 h4132).1 h4135)
            have h4137 : 1 ≤ z4032 ∧ z4032 ≤ 1 := (vc_X12_ring_24 h4135 h4035)
            refine mr_iconst (pc := 178) (z := 1) dX6_readBranches_178 ?_
            refine sv_goto (pc := 179) (tgt := 183) dX6_readBranches_179 (by decide) ?_
            refine mr_lvS (lv' := [(0, .ref 23), (1, iv p1), (3, jv z2520), (5, jv z2519), (8, iv z2517), (10, jv z4031), (12, jv z4030)]) (List.forall_mem_cons.mpr ⟨rfl, List.forall_mem_cons.mpr ⟨rfl, List.forall_mem_cons.mpr ⟨rfl, List.forall_mem_cons.mpr ⟨rfl, List.forall_mem_cons.mpr ⟨rfl, List.forall_mem_cons.mpr ⟨rfl, List.forall_mem_cons.mpr ⟨rfl, fun _ h => absurd h List.not_mem_nil⟩⟩⟩⟩⟩⟩⟩) ?_
            exact J4119 1 (rW (c := 0) (d := 1) (rR (x := 1)) rfl) (((W4112).2 h4132).2 h4135)
          refine mr_icmp_gt (pc := 43) (tgt := 169) dX6_readBranches_43 (by decide) (r32 h4038 rfl) (r32 (rR (x := 1000)) rfl) (fun h4138 => ?_) (fun h4138 => ?_)
          · have h4139 : 1001 ≤ z4029 ∧ z4029 ≤ 1001 := (vc_X6_readBranches_Wx6_2 h4138 h4038)
            refine mr_lvS (lv' := [(0, .ref 23), (1, iv p1), (2, iv z2521), (3, jv z2520), (5, jv z2519), (8, iv z2517), (9, iv z4032), (10, jv z4031), (12, jv z4030)]) (List.forall_mem_cons.mpr ⟨rfl, List.forall_mem_cons.mpr ⟨rfl, List.forall_mem_cons.mpr ⟨rfl, List.forall_mem_cons.mpr ⟨rfl, List.forall_mem_cons.mpr ⟨rfl, List.forall_mem_cons.mpr ⟨rfl, List.forall_mem_cons.mpr ⟨rfl, List.forall_mem_cons.mpr ⟨rfl, List.forall_mem_cons.mpr ⟨rfl, fun _ h => absurd h List.not_mem_nil⟩⟩⟩⟩⟩⟩⟩⟩⟩) ?_
            exact J4111 ((W4043 z4032 z4031 z4030 z4029 μ4033 rfl h4035 h4036 h4037 h4038 T4039 F4040).1 h4138)
          have h4140 : 0 ≤ z4029 ∧ z4029 ≤ 1000 := (vc_X6_readBranches_Wx6_3 h4138 h4038)
          refine sv_aload_n (pc := 46) dX6_readBranches_46 rfl rfl ?_
          refine gf_X6_0 (pc := 47) dX6_readBranches_47 wF_X6_9 (A_23 hw) T4039 ?_
          refine sv_aload_n (pc := 50) dX6_readBranches_50 rfl rfl ?_
          refine gf_X6_9 (pc := 51) dX6_readBranches_51 wF_X6_63 (A_23 hw) T4039 fun z4141 q4142 h4143 => ?_
          refine la_24 (pc := 54) dX6_readBranches_54 (A_24 hw) T4039 (rIx (n := 1001) h4143 rfl) fun z4144 q4145 h4146 => ?_
          have W4152 := ((((W4043 z4032 z4031 z4030 z4029 μ4033 rfl h4035 h4036 h4037 h4038 T4039 F4040).2 h4138) z4141 q4142 h4143) z4144 q4145 h4146)
          refine mr_cSP (pc := 55) (c_X6_beginsPiece_Wx hw T4039 h4146 W4152) (gOk _ _ _ _ _) dX6_readBranches_55 (tX6_beginsPiece _ _ _ _ _) wS_X6_beginsPiece wM_X6_190 ⟨le_t rfl, le_t rfl⟩ ⟨le_t rfl, le_t rfl⟩ rfl (le_t rfl) fun z4151 h4150 => ?_
          refine mr_if_eq (pc := 58) (tgt := 169) dX6_readBranches_58 (by decide) (r32 h4150.1 rfl) (fun h4153 => ?_) (fun h4153 => ?_)
          · have h4154 : 0 ≤ z4151 ∧ z4151 ≤ 0 := (vc_X12_ring_22 h4153 h4150.1)
            refine mr_lvS (lv' := [(0, .ref 23), (1, iv p1), (2, iv z2521), (3, jv z2520), (5, jv z2519), (8, iv z2517), (9, iv z4032), (10, jv z4031), (12, jv z4030)]) (List.forall_mem_cons.mpr ⟨rfl, List.forall_mem_cons.mpr ⟨rfl, List.forall_mem_cons.mpr ⟨rfl, List.forall_mem_cons.mpr ⟨rfl, List.forall_mem_cons.mpr ⟨rfl, List.forall_mem_cons.mpr ⟨rfl, List.forall_mem_cons.mpr ⟨rfl, List.forall_mem_cons.mpr ⟨rfl, List.forall_mem_cons.mpr ⟨rfl, fun _ h => absurd h List.not_mem_nil⟩⟩⟩⟩⟩⟩⟩⟩⟩) ?_
            exact J4111 ((h4150.2.1 h4150.1).1 h4153)
          have h4155 : 1 ≤ z4151 ∧ z4151 ≤ 1 := (vc_X12_ring_24 h4153 h4150.1)
          refine sv_aload_n (pc := 61) dX6_readBranches_61 rfl rfl ?_
          refine gf_X6_0 (pc := 62) dX6_readBranches_62 wF_X6_9 (A_23 hw) T4039 ?_
          refine sv_aload_n (pc := 65) dX6_readBranches_65 rfl rfl ?_
          refine gk_X6_9 (pc := 66) dX6_readBranches_66 wF_X6_63 (A_23 hw) q4142 ?_
          refine lk_24 (pc := 69) dX6_readBranches_69 (A_24 hw) (rIx (n := 1001) h4143 rfl) q4145 ?_
          refine mr_sipush (pc := 70) (z := 1040) dX6_readBranches_70 (by decide) ?_
          have J4169 : ∀ (μ4165 : mM), (mT w μ4165) → (mF [23009, 23012, 23015, 23016, 23017, 23018, 23019, 28999, 29999] w μ4033 μ4165) → ((WJ_X6_readBranches_Wx5_5 w (loopF (WL_X6_readBranches_Wx5_2 w p1 (loopF (WL_X6_readBranches_Wx5_1 w μ p1 Q) False nL2523) z2521 z2520 z2519 z2517 μ2522) False nL4034) z4032 z4031 z4030 z4029 μ4033) μ4165) → sV (gG l D c H0 sa) mX6_readBranches (sRm 5 0 0) (sZ (gG l D c H0 sa) 0 0 (qV w [23009, 23012, 23015, 23016, 23017, 23018, 23019, 28999, 29999] μ (fun μ1 => Q μ1 ∧ True))) 88 [(0, .ref 23), (1, iv p1), (2, iv z2521), (3, jv z2520), (5, jv z2519), (8, iv z2517), (9, iv z4032), (10, jv z4031), (12, jv z4030), (14, iv z4029)] [] (mk w μ4165) 0 0 := by
            intro μ4165 T4166 F4167 W4170
            refine sv_aload_n (pc := 88) dX6_readBranches_88 rfl rfl ?_
            refine mr_cVV (pc := 89) (c_X6_readRepeat_Wx hw T4166 (W4170 T4166 F4167)) (gOk _ _ _ _ _) dX6_readBranches_89 (tX6_readRepeat _ _ _ _ _) ⟨wV_X6_readRepeat, wL_X6_readRepeat⟩ wM_X6_199 (gCX6 _ _ _ _ _) rfl (A_23 hw) rfl ⟨le_t rfl, le_t rfl⟩ ⟨le_t rfl, le_t rfl⟩ rfl (le_t rfl) fun μ4171 T4172 F4173 h4174 => ?_
            refine sv_aload_n (pc := 92) dX6_readBranches_92 rfl rfl ?_
            refine mr_lload (pc := 93) (z := z4030) dX6_readBranches_93 rfl ?_
            refine sv_aload_n (pc := 95) dX6_readBranches_95 rfl rfl ?_
            refine gf_X6_16 (pc := 96) dX6_readBranches_96 wF_X6_179 (A_23 hw) T4172 fun z4175 q4176 h4177 => ?_
            refine mr_cVV (pc := 99) (c_X6_join_Wx hw T4172 h4037 h4177 ((h4174.1 T4172 F4173) z4175 q4176 h4177)) (gOk _ _ _ _ _) dX6_readBranches_99 (tX6_join _ _ _ _ _) ⟨wV_X6_join, wL_X6_join⟩ wM_X6_202 (gCX6 _ _ _ _ _) rfl (A_23 hw) rfl ⟨le_t rfl, le_t rfl⟩ ⟨le_t rfl, le_t rfl⟩ rfl (le_t rfl) fun μ4178 T4179 F4180 h4181 => ?_
            refine mr_iload (pc := 102) (z := z4032) dX6_readBranches_102 rfl ?_
            have J4189 : ∀ (z4187 : Int), (((-9223372036854775808) ≤ z4187 ∧ z4187 ≤ 9223372036854775807)) → ((WJ_X6_readBranches_Wx5_6 (loopF (WL_X6_readBranches_Wx5_2 w p1 (loopF (WL_X6_readBranches_Wx5_1 w μ p1 Q) False nL2523) z2521 z2520 z2519 z2517 μ2522) False nL4034) z4032 z4030 z4029 μ4178) z4187) → sV (gG l D c H0 sa) mX6_readBranches (sRm 5 0 0) (sZ (gG l D c H0 sa) 0 0 (qV w [23009, 23012, 23015, 23016, 23017, 23018, 23019, 28999, 29999] μ (fun μ1 => Q μ1 ∧ True))) 119 [(0, .ref 23), (1, iv p1), (2, iv z2521), (3, jv z2520), (5, jv z2519), (8, iv z2517), (9, iv z4032), (12, jv z4030), (14, iv z4029)] [jv z4187] (mk w μ4178) 0 0 := by
              intro z4187 h4188 W4190
              refine mr_lstore (pc := 119) (lv' := [(10, jv z4187), (0, .ref 23), (1, iv p1), (2, iv z2521), (3, jv z2520), (5, jv z2519), (8, iv z2517), (9, iv z4032), (12, jv z4030), (14, iv z4029)]) dX6_readBranches_119 (by decide) rfl ?_
              refine sv_aload_n (pc := 121) dX6_readBranches_121 rfl rfl ?_
              refine gf_X6_15 (pc := 122) dX6_readBranches_122 wF_X6_186 (A_23 hw) T4179 fun z4191 q4192 h4193 => ?_
              have J4207 : ∀ (z4205 : Int), (((-9223372036854775808) ≤ z4205 ∧ z4205 ≤ 9223372036854775807)) → ((WJ_X6_readBranches_Wx5_7 (loopF (WL_X6_readBranches_Wx5_2 w p1 (loopF (WL_X6_readBranches_Wx5_1 w μ p1 Q) False nL2523) z2521 z2520 z2519 z2517 μ2522) False nL4034) z4032 z4029 μ4178 z4187 z4191) z4205) → sV (gG l D c H0 sa) mX6_readBranches (sRm 5 0 0) (sZ (gG l D c H0 sa) 0 0 (qV w [23009, 23012, 23015, 23016, 23017, 23018, 23019, 28999, 29999] μ (fun μ1 => Q μ1 ∧ True))) 142 [(0, .ref 23), (1, iv p1), (2, iv z2521), (3, jv z2520), (5, jv z2519), (8, iv z2517), (9, iv z4032), (10, jv z4187), (14, iv z4029)] [jv z4205] (mk w μ4178) 0 0 := by
                intro z4205 h4206 W4208
                refine mr_lstore (pc := 142) (lv' := [(12, jv z4205), (0, .ref 23), (1, iv p1), (2, iv z2521), (3, jv z2520), (5, jv z2519), (8, iv z2517), (9, iv z4032), (10, jv z4187), (14, iv z4029)]) dX6_readBranches_142 (by decide) rfl ?_
                refine mr_iload (pc := 144) (z := z4032) dX6_readBranches_144 rfl ?_
                refine mr_if_eq (pc := 146) (tgt := 160) dX6_readBranches_146 (by decide) (r32 h4035 rfl) (fun h4213 => ?_) (fun h4213 => ?_)
                · have h4214 : 0 ≤ z4032 ∧ z4032 ≤ 0 := (vc_X12_ring_22 h4213 h4035)
                  refine mr_iconst (pc := 160) (z := 0) dX6_readBranches_160 ?_
                  refine mr_istore (pc := 161) (lv' := [(9, iv 0), (12, jv z4205), (0, .ref 23), (1, iv p1), (2, iv z2521), (3, jv z2520), (5, jv z2519), (8, iv z2517), (10, jv z4187), (14, iv z4029)]) dX6_readBranches_161 (by decide) rfl ?_
                  refine mr_iinc (pc := 163) (lv' := [(14, iv (z4029 + 1)), (9, iv 0), (12, jv z4205), (0, .ref 23), (1, iv p1), (2, iv z2521), (3, jv z2520), (5, jv z2519), (8, iv z2517), (10, jv z4187)]) dX6_readBranches_163 rfl (by decide) rfl ?_
                  refine sv_goto (pc := 166) (tgt := 38) dX6_readBranches_166 (by decide) ?_
                  refine mr_lvS (lv' := [(0, .ref 23), (1, iv p1), (2, iv z2521), (3, jv z2520), (5, jv z2519), (8, iv z2517), (9, iv 0), (10, jv z4187), (12, jv z4205), (14, iv (z4029 + 1))]) (List.forall_mem_cons.mpr ⟨rfl, List.forall_mem_cons.mpr ⟨rfl, List.forall_mem_cons.mpr ⟨rfl, List.forall_mem_cons.mpr ⟨rfl, List.forall_mem_cons.mpr ⟨rfl, List.forall_mem_cons.mpr ⟨rfl, List.forall_mem_cons.mpr ⟨rfl, List.forall_mem_cons.mpr ⟨rfl, List.forall_mem_cons.mpr ⟨rfl, List.forall_mem_cons.mpr ⟨rfl, fun _ h => absurd h List.not_mem_nil⟩⟩⟩⟩⟩⟩⟩⟩⟩⟩) ?_
                  exact ih4044 0 z4187 z4205 (z4029 + 1) μ4178 T4179 (mF.call (mF.call (mF.call (mF.call mF.refl F4040 rfl) F4167 rfl) F4173 rfl) F4180 rfl) (rW (c := 0) (d := 1) (rR (x := 0)) rfl) h4188 h4206 (rW (c := 0) (d := 1001) (rAdd (e := 1) (f := 1001) h4140 (rR (x := 1)) rfl) rfl) (vc_X6_readBranches_Wx6_7 (nS h4042) h4138 h4140) ((W4208 h4206).1 h4213)
                have h4215 : 1 ≤ z4032 ∧ z4032 ≤ 1 := (vc_X12_ring_24 h4213 h4035)
                refine sv_aload_n (pc := 149) dX6_readBranches_149 rfl rfl ?_
                refine gk_X6_15 (pc := 150) dX6_readBranches_150 wF_X6_186 (A_23 hw) q4192 ?_
                refine mr_if_eq (pc := 153) (tgt := 160) dX6_readBranches_153 (by decide) (r32 h4193 rfl) (fun h4218 => ?_) (fun h4218 => ?_)
                · have h4219 : 0 ≤ z4191 ∧ z4191 ≤ 0 := (vc_X12_ring_22 h4218 h4193)
                  refine mr_iconst (pc := 160) (z := 0) dX6_readBranches_160 ?_
                  refine mr_istore (pc := 161) (lv' := [(9, iv 0), (12, jv z4205), (0, .ref 23), (1, iv p1), (2, iv z2521), (3, jv z2520), (5, jv z2519), (8, iv z2517), (10, jv z4187), (14, iv z4029)]) dX6_readBranches_161 (by decide) rfl ?_
                  refine mr_iinc (pc := 163) (lv' := [(14, iv (z4029 + 1)), (9, iv 0), (12, jv z4205), (0, .ref 23), (1, iv p1), (2, iv z2521), (3, jv z2520), (5, jv z2519), (8, iv z2517), (10, jv z4187)]) dX6_readBranches_163 rfl (by decide) rfl ?_
                  refine sv_goto (pc := 166) (tgt := 38) dX6_readBranches_166 (by decide) ?_
                  refine mr_lvS (lv' := [(0, .ref 23), (1, iv p1), (2, iv z2521), (3, jv z2520), (5, jv z2519), (8, iv z2517), (9, iv 0), (10, jv z4187), (12, jv z4205), (14, iv (z4029 + 1))]) (List.forall_mem_cons.mpr ⟨rfl, List.forall_mem_cons.mpr ⟨rfl, List.forall_mem_cons.mpr ⟨rfl, List.forall_mem_cons.mpr ⟨rfl, List.forall_mem_cons.mpr ⟨rfl, List.forall_mem_cons.mpr ⟨rfl, List.forall_mem_cons.mpr ⟨rfl, List.forall_mem_cons.mpr ⟨rfl, List.forall_mem_cons.mpr ⟨rfl, List.forall_mem_cons.mpr ⟨rfl, fun _ h => absurd h List.not_mem_nil⟩⟩⟩⟩⟩⟩⟩⟩⟩⟩) ?_
                  exact ih4044 0 z4187 z4205 (z4029 + 1) μ4178 T4179 (mF.call (mF.call (mF.call (mF.call mF.refl F4040 rfl) F4167 rfl) F4173 rfl) F4180 rfl) (rW (c := 0) (d := 1) (rR (x := 0)) rfl) h4188 h4206 (rW (c := 0) (d := 1001) (rAdd (e := 1) (f := 1001) h4140 (rR (x := 1)) rfl) rfl) (vc_X6_readBranches_Wx6_7 (nS h4042) h4138 h4140) (((W4208 h4206).2 h4213).1 h4218)
                have h4220 : 1 ≤ z4191 ∧ z4191 ≤ 1 := (vc_X12_ring_24 h4218 h4193)
                refine mr_iconst (pc := 156) (z := 1) dX6_readBranches_156 ?_
                refine sv_goto (pc := 157) (tgt := 161) dX6_readBranches_157 (by decide) ?_
                refine mr_istore (pc := 161) (lv' := [(9, iv 1), (12, jv z4205), (0, .ref 23), (1, iv p1), (2, iv z2521), (3, jv z2520), (5, jv z2519), (8, iv z2517), (10, jv z4187), (14, iv z4029)]) dX6_readBranches_161 (by decide) rfl ?_
                refine mr_iinc (pc := 163) (lv' := [(14, iv (z4029 + 1)), (9, iv 1), (12, jv z4205), (0, .ref 23), (1, iv p1), (2, iv z2521), (3, jv z2520), (5, jv z2519), (8, iv z2517), (10, jv z4187)]) dX6_readBranches_163 rfl (by decide) rfl ?_
                refine sv_goto (pc := 166) (tgt := 38) dX6_readBranches_166 (by decide) ?_
                refine mr_lvS (lv' := [(0, .ref 23), (1, iv p1), (2, iv z2521), (3, jv z2520), (5, jv z2519), (8, iv z2517), (9, iv 1), (10, jv z4187), (12, jv z4205), (14, iv (z4029 + 1))]) (List.forall_mem_cons.mpr ⟨rfl, List.forall_mem_cons.mpr ⟨rfl, List.forall_mem_cons.mpr ⟨rfl, List.forall_mem_cons.mpr ⟨rfl, List.forall_mem_cons.mpr ⟨rfl, List.forall_mem_cons.mpr ⟨rfl, List.forall_mem_cons.mpr ⟨rfl, List.forall_mem_cons.mpr ⟨rfl, List.forall_mem_cons.mpr ⟨rfl, List.forall_mem_cons.mpr ⟨rfl, fun _ h => absurd h List.not_mem_nil⟩⟩⟩⟩⟩⟩⟩⟩⟩⟩) ?_
                exact ih4044 1 z4187 z4205 (z4029 + 1) μ4178 T4179 (mF.call (mF.call (mF.call (mF.call mF.refl F4040 rfl) F4167 rfl) F4173 rfl) F4180 rfl) (rW (c := 0) (d := 1) (rR (x := 1)) rfl) h4188 h4206 (rW (c := 0) (d := 1001) (rAdd (e := 1) (f := 1001) h4140 (rR (x := 1)) rfl) rfl) (vc_X6_readBranches_Wx6_7 (nS h4042) h4138 h4140) (((W4208 h4206).2 h4213).2 h4218)
              refine mr_if_eq (pc := 125) (tgt := 138) dX6_readBranches_125 (by decide) (r32 h4193 rfl) (fun h4221 => ?_) (fun h4221 => ?_)
              · have h4222 : 0 ≤ z4191 ∧ z4191 ≤ 0 := (vc_X12_ring_22 h4221 h4193)
                refine sv_aload_n (pc := 138) dX6_readBranches_138 rfl rfl ?_
                refine gf_X6_17 (pc := 139) dX6_readBranches_139 wF_X6_183 (A_23 hw) T4179 fun z4223 q4224 h4225 => ?_
                refine mr_lvS (lv' := [(0, .ref 23), (1, iv p1), (2, iv z2521), (3, jv z2520), (5, jv z2519), (8, iv z2517), (9, iv z4032), (10, jv z4187), (14, iv z4029)]) (List.forall_mem_cons.mpr ⟨rfl, List.forall_mem_cons.mpr ⟨rfl, List.forall_mem_cons.mpr ⟨rfl, List.forall_mem_cons.mpr ⟨rfl, List.forall_mem_cons.mpr ⟨rfl, List.forall_mem_cons.mpr ⟨rfl, List.forall_mem_cons.mpr ⟨rfl, List.forall_mem_cons.mpr ⟨rfl, List.forall_mem_cons.mpr ⟨rfl, fun _ h => absurd h List.not_mem_nil⟩⟩⟩⟩⟩⟩⟩⟩⟩) ?_
                exact J4207 z4223 h4225 ((((W4190 h4188) z4191 q4192 h4193).1 h4221) z4223 q4224 h4225)
              have h4226 : 1 ≤ z4191 ∧ z4191 ≤ 1 := (vc_X12_ring_24 h4221 h4193)
              refine mr_lload (pc := 128) (z := z4030) dX6_readBranches_128 rfl ?_
              refine sv_aload_n (pc := 130) dX6_readBranches_130 rfl rfl ?_
              refine gf_X6_17 (pc := 131) dX6_readBranches_131 wF_X6_183 (A_23 hw) T4179 fun z4227 q4228 h4229 => ?_
              refine mr_lor (pc := 134) dX6_readBranches_134 ?_
              refine mr_genL (r64i _) fun z4230 q4231 h4232 => ?_
              refine sv_goto (pc := 135) (tgt := 142) dX6_readBranches_135 (by decide) ?_
              refine mr_lvS (lv' := [(0, .ref 23), (1, iv p1), (2, iv z2521), (3, jv z2520), (5, jv z2519), (8, iv z2517), (9, iv z4032), (10, jv z4187), (14, iv z4029)]) (List.forall_mem_cons.mpr ⟨rfl, List.forall_mem_cons.mpr ⟨rfl, List.forall_mem_cons.mpr ⟨rfl, List.forall_mem_cons.mpr ⟨rfl, List.forall_mem_cons.mpr ⟨rfl, List.forall_mem_cons.mpr ⟨rfl, List.forall_mem_cons.mpr ⟨rfl, List.forall_mem_cons.mpr ⟨rfl, List.forall_mem_cons.mpr ⟨rfl, fun _ h => absurd h List.not_mem_nil⟩⟩⟩⟩⟩⟩⟩⟩⟩) ?_
              exact J4207 z4230 h4232 (((((W4190 h4188) z4191 q4192 h4193).2 h4221) z4227 q4228 h4229) z4230 q4231)
            refine mr_if_eq (pc := 104) (tgt := 117) dX6_readBranches_104 (by decide) (r32 h4035 rfl) (fun h4233 => ?_) (fun h4233 => ?_)
            · have h4234 : 0 ≤ z4032 ∧ z4032 ≤ 0 := (vc_X12_ring_22 h4233 h4035)
              refine mr_lload (pc := 117) (z := z4031) dX6_readBranches_117 rfl ?_
              refine mr_lvS (lv' := [(0, .ref 23), (1, iv p1), (2, iv z2521), (3, jv z2520), (5, jv z2519), (8, iv z2517), (9, iv z4032), (12, jv z4030), (14, iv z4029)]) (List.forall_mem_cons.mpr ⟨rfl, List.forall_mem_cons.mpr ⟨rfl, List.forall_mem_cons.mpr ⟨rfl, List.forall_mem_cons.mpr ⟨rfl, List.forall_mem_cons.mpr ⟨rfl, List.forall_mem_cons.mpr ⟨rfl, List.forall_mem_cons.mpr ⟨rfl, List.forall_mem_cons.mpr ⟨rfl, List.forall_mem_cons.mpr ⟨rfl, fun _ h => absurd h List.not_mem_nil⟩⟩⟩⟩⟩⟩⟩⟩⟩) ?_
              exact J4189 z4031 h4036 ((h4181.1 T4179 F4180).1 h4233)
            have h4235 : 1 ≤ z4032 ∧ z4032 ≤ 1 := (vc_X12_ring_24 h4233 h4035)
            refine mr_lload (pc := 107) (z := z4031) dX6_readBranches_107 rfl ?_
            refine sv_aload_n (pc := 109) dX6_readBranches_109 rfl rfl ?_
            refine gk_X6_16 (pc := 110) dX6_readBranches_110 wF_X6_179 (A_23 hw) (F4180.f (A_23 hw) rfl q4176) ?_
            refine mr_lor (pc := 113) dX6_readBranches_113 ?_
            refine mr_genL (r64i _) fun z4236 q4237 h4238 => ?_
            refine sv_goto (pc := 114) (tgt := 119) dX6_readBranches_114 (by decide) ?_
            refine mr_lvS (lv' := [(0, .ref 23), (1, iv p1), (2, iv z2521), (3, jv z2520), (5, jv z2519), (8, iv z2517), (9, iv z4032), (12, jv z4030), (14, iv z4029)]) (List.forall_mem_cons.mpr ⟨rfl, List.forall_mem_cons.mpr ⟨rfl, List.forall_mem_cons.mpr ⟨rfl, List.forall_mem_cons.mpr ⟨rfl, List.forall_mem_cons.mpr ⟨rfl, List.forall_mem_cons.mpr ⟨rfl, List.forall_mem_cons.mpr ⟨rfl, List.forall_mem_cons.mpr ⟨rfl, List.forall_mem_cons.mpr ⟨rfl, fun _ h => absurd h List.not_mem_nil⟩⟩⟩⟩⟩⟩⟩⟩⟩) ?_
            exact J4189 z4236 h4238 (((h4181.1 T4179 F4180).2 h4233) z4236 q4237)
          refine mr_icmp_ne (pc := 73) (tgt := 84) dX6_readBranches_73 (by decide) h4146 (r32 (rR (x := 1040)) rfl) (fun h4239 => ?_) (fun h4239 => ?_)
          · refine sv_aload_n (pc := 84) dX6_readBranches_84 rfl rfl ?_
            refine mr_cVV (pc := 85) (c_X6_readPlace_Wx hw T4039 (((h4150.2.1 h4150.1).2 h4153).1 h4239)) (gOk _ _ _ _ _) dX6_readBranches_85 (tX6_readPlace _ _ _ _ _) ⟨wV_X6_readPlace, wL_X6_readPlace⟩ wM_X6_196 (gCX6 _ _ _ _ _) rfl (A_23 hw) rfl ⟨le_t rfl, le_t rfl⟩ ⟨le_t rfl, le_t rfl⟩ rfl (le_t rfl) fun μ4240 T4241 F4242 h4243 => ?_
            exact J4169 μ4240 T4241 (mF.call mF.refl F4242 rfl) (h4243.1 T4241 F4242)
          have h4244 : 1040 ≤ z4144 ∧ z4144 ≤ 1040 := (vc_X6_readBranches_Wx6_19 h4239 h4146)
          refine sv_aload_n (pc := 76) dX6_readBranches_76 rfl rfl ?_
          refine mr_iload_n (pc := 77) (z := p1) dX6_readBranches_77 rfl rfl ?_
          refine mr_cVV (pc := 78) (c_X6_readGroup_Wx5 hw T4039 hp1 (((h4150.2.1 h4150.1).2 h4153).2 h4239)) (gOk _ _ _ _ _) dX6_readBranches_78 (tX6_readGroup _ _ _ _ _) ⟨wV_X6_readGroup, wL_X6_readGroup⟩ wM_X6_193 (gCX6 _ _ _ _ _) rfl (A_23 hw) rfl ⟨le_t rfl, le_t rfl⟩ ⟨le_t rfl, le_t rfl⟩ rfl (le_t rfl) fun μ4245 T4246 F4247 h4248 => ?_
          refine sv_goto (pc := 81) (tgt := 88) dX6_readBranches_81 (by decide) ?_
          exact J4169 μ4245 T4246 (mF.call mF.refl F4247 rfl) (h4248.1 T4246 F4247)
      refine mr_lvS (lv' := [(0, .ref 23), (1, iv p1), (2, iv z2521), (3, jv z2520), (5, jv z2519), (8, iv z2517), (9, iv 1), (10, jv 0), (12, jv 0), (14, iv 0)]) (List.forall_mem_cons.mpr ⟨rfl, List.forall_mem_cons.mpr ⟨rfl, List.forall_mem_cons.mpr ⟨rfl, List.forall_mem_cons.mpr ⟨rfl, List.forall_mem_cons.mpr ⟨rfl, List.forall_mem_cons.mpr ⟨rfl, List.forall_mem_cons.mpr ⟨rfl, List.forall_mem_cons.mpr ⟨rfl, List.forall_mem_cons.mpr ⟨rfl, List.forall_mem_cons.mpr ⟨rfl, fun _ h => absurd h List.not_mem_nil⟩⟩⟩⟩⟩⟩⟩⟩⟩⟩) ?_
      exact L4034 1003 1 0 0 0 μ2522 T2529 mF.refl (rW (c := 0) (d := 1) (rR (x := 1)) rfl) (rW (c := -9223372036854775808) (d := 9223372036854775807) (rR (x := 0)) rfl) (rW (c := -9223372036854775808) (d := 9223372036854775807) (rR (x := 0)) rfl) (rW (c := 0) (d := 1001) (rR (x := 0)) rfl) vc_X6_readBranches_Wx6_20 (((W2533 z2521 z2520 z2519 z2518 z2517 μ2522 rfl h2524 h2525 h2526 h2527 h2528 T2529 F2530).2 h2715).2 h2905)
  refine mr_lvS (lv' := [(0, .ref 23), (1, iv p1), (2, iv 0), (3, jv 0), (5, jv 0), (7, iv 1), (8, iv 0)]) (List.forall_mem_cons.mpr ⟨rfl, List.forall_mem_cons.mpr ⟨rfl, List.forall_mem_cons.mpr ⟨rfl, List.forall_mem_cons.mpr ⟨rfl, List.forall_mem_cons.mpr ⟨rfl, List.forall_mem_cons.mpr ⟨rfl, List.forall_mem_cons.mpr ⟨rfl, fun _ h => absurd h List.not_mem_nil⟩⟩⟩⟩⟩⟩⟩) ?_
  exact L2523 1003 0 0 0 1 0 μ hT mF.refl (rW (c := 0) (d := 1) (rR (x := 0)) rfl) (rW (c := -9223372036854775808) (d := 9223372036854775807) (rR (x := 0)) rfl) (rW (c := -9223372036854775808) (d := 9223372036854775807) (rR (x := 0)) rfl) (rW (c := 0) (d := 1) (rR (x := 1)) rfl) (rW (c := 0) (d := 1001) (rR (x := 0)) rfl) vc_X6_readBranches_Wx6_20 hQ
def WP_X6_readGroup_Wx4 (w : mW) (μ : mM) (p1 : Int) (Q : mM → Prop) : Prop := WP_X6_step_Wx w μ  (fun μ1 => mT w μ1 → mF [23009] w μ μ1 → WP_X6_readBranches_Wx5 w μ1 (p1 + 1) (fun μ5 => mT w μ5 → mF [23009, 23012, 23015, 23016, 23017, 23018, 23019, 28999, 29999] w μ1 μ5 → ∀ z9 : Int, μ5 23 9 = z9 → (0 ≤ z9 ∧ z9 ≤ 1000) → ∀ z12 : Int, μ5 24 (z9.toNat) = z12 → ((-2147483648) ≤ z12 ∧ z12 ≤ 2147483647) → ((z12 = 1041) → WP_X6_step_Wx w μ5  (fun μ17 => mT w μ17 → mF [23009] w μ5 μ17 → Q μ17)) ∧ ((¬ z12 = 1041) → WP_X6_fail_Wx w μ5 (2) (fun μ21 => mT w μ21 → mF [23009, 23018, 23019] w μ5 μ21 → Q μ21))))
theorem vc_X6_readGroup_Wx4_1 {p1 : Int} (h0 : 6 ≤ p1) (h1 : 4 ≤ p1 ∧ p1 ≤ 4) : False := by omega
set_option maxRecDepth 4000 in
set_option maxHeartbeats 4000000 in
theorem c_X6_readGroup_Wx4 {l : Launch} {D : va_G} {c : Nat → ClassId} {H0 : Heap} {sa : Nat × Nat × (Nat → Int32)} {w : mW} {μ : mM} (hw : mWF w) (hT : mT w μ) {p1 : Int} (hp1 : 4 ≤ p1 ∧ p1 ≤ 4) {Q : mM → Prop} (hQ : WP_X6_readGroup_Wx4 w μ p1 Q) : sC (gG l D c H0 sa) mX6_readGroup 6 0 0 [.ref 23, iv p1] (mk w μ) (qV w [23009, 23012, 23015, 23016, 23017, 23018, 23019, 28999, 29999] μ (fun μ1 => Q μ1 ∧ True)) := by
  refine sC.of rfl (by decide) (le_t rfl) ?_
  refine mr_lvE (lv' := [(0, .ref 23), (1, iv p1)]) rfl ?_
  refine mr_iload_n (pc := 0) (z := p1) dX6_readGroup_0 rfl rfl ?_
  refine mr_bipush (pc := 1) (z := 6) dX6_readGroup_1 (by decide) ?_
  refine mr_icmp_lt (pc := 3) (tgt := 12) dX6_readGroup_3 (by decide) (r32 hp1 rfl) (r32 (rR (x := 6)) rfl) (fun _ => ?_) (fun h => ((vc_X6_readGroup_Wx4_1 h hp1)).elim)
  refine sv_aload_n (pc := 12) dX6_readGroup_12 rfl rfl ?_
  refine mr_cVV (pc := 13) (c_X6_step_Wx hw hT hQ) (gOk _ _ _ _ _) dX6_readGroup_13 (tX6_step _ _ _ _ _) ⟨wV_X6_step, wL_X6_step⟩ wM_X6_117 (gCX6 _ _ _ _ _) rfl (A_23 hw) rfl ⟨le_t rfl, le_t rfl⟩ ⟨le_t rfl, le_t rfl⟩ rfl (le_t rfl) fun μ1 T2 F3 h4 => ?_
  refine sv_aload_n (pc := 16) dX6_readGroup_16 rfl rfl ?_
  refine mr_iload_n (pc := 17) (z := p1) dX6_readGroup_17 rfl rfl ?_
  refine mr_iconst (pc := 18) (z := 1) dX6_readGroup_18 ?_
  refine mr_iadd (pc := 19) (x := p1) (y := 1) dX6_readGroup_19 ?_
  refine mr_cVV (pc := 20) (c_X6_readBranches_Wx5 hw T2 (rAdd (e := 5) (f := 5) hp1 (rR (x := 1)) rfl) (h4.1 T2 F3)) (gOk _ _ _ _ _) dX6_readGroup_20 (tX6_readBranches _ _ _ _ _) ⟨wV_X6_readBranches, wL_X6_readBranches⟩ wM_X6_176 (gCX6 _ _ _ _ _) rfl (A_23 hw) rfl ⟨le_t rfl, le_t rfl⟩ ⟨le_t rfl, le_t rfl⟩ rfl (le_t rfl) fun μ5 T6 F7 h8 => ?_
  refine sv_aload_n (pc := 23) dX6_readGroup_23 rfl rfl ?_
  refine gf_X6_0 (pc := 24) dX6_readGroup_24 wF_X6_9 (A_23 hw) T6 ?_
  refine sv_aload_n (pc := 27) dX6_readGroup_27 rfl rfl ?_
  refine gf_X6_9 (pc := 28) dX6_readGroup_28 wF_X6_63 (A_23 hw) T6 fun z9 q10 h11 => ?_
  refine la_24 (pc := 31) dX6_readGroup_31 (A_24 hw) T6 (rIx (n := 1001) h11 rfl) fun z12 q13 h14 => ?_
  refine mr_sipush (pc := 32) (z := 1041) dX6_readGroup_32 (by decide) ?_
  refine mr_icmp_eq (pc := 35) (tgt := 44) dX6_readGroup_35 (by decide) h14 (r32 (rR (x := 1041)) rfl) (fun h15 => ?_) (fun h15 => ?_)
  · have h16 : 1041 ≤ z12 ∧ z12 ≤ 1041 := (vc_X6_readGroup_Wx5_2 h15 h14)
    refine sv_aload_n (pc := 44) dX6_readGroup_44 rfl rfl ?_
    refine mr_cVV (pc := 45) (c_X6_step_Wx hw T6 ((((h8.1 T6 F7) z9 q10 h11) z12 q13 h14).1 h15)) (gOk _ _ _ _ _) dX6_readGroup_45 (tX6_step _ _ _ _ _) ⟨wV_X6_step, wL_X6_step⟩ wM_X6_117 (gCX6 _ _ _ _ _) rfl (A_23 hw) rfl ⟨le_t rfl, le_t rfl⟩ ⟨le_t rfl, le_t rfl⟩ rfl (le_t rfl) fun μ17 T18 F19 h20 => ?_
    exact mr_vret dX6_readGroup_48 rfl (le_t rfl) (le_t rfl) T18 (mF.call (mF.call (mF.call mF.refl F3 rfl) F7 rfl) F19 rfl) ⟨(h20.1 T18 F19), trivial⟩
  refine sv_aload_n (pc := 38) dX6_readGroup_38 rfl rfl ?_
  refine mr_iconst (pc := 39) (z := 2) dX6_readGroup_39 ?_
  refine mr_cVV (pc := 40) (c_X6_fail_Wx hw T6 (rW (c := 1) (d := 4) (rR (x := 2)) rfl) ((((h8.1 T6 F7) z9 q10 h11) z12 q13 h14).2 h15)) (gOk _ _ _ _ _) dX6_readGroup_40 (tX6_fail _ _ _ _ _) ⟨wV_X6_fail, wL_X6_fail⟩ wM_X6_123 (gCX6 _ _ _ _ _) rfl (A_23 hw) rfl ⟨le_t rfl, le_t rfl⟩ ⟨le_t rfl, le_t rfl⟩ rfl (le_t rfl) fun μ21 T22 F23 h24 => ?_
  exact mr_vret dX6_readGroup_43 rfl (le_t rfl) (le_t rfl) T22 (mF.call (mF.call (mF.call mF.refl F3 rfl) F7 rfl) F23 rfl) ⟨(h24.1 T22 F23), trivial⟩
def WJ_X6_readBranches_Wx4_4 (w : mW) (rec1 : (Int × Int × Int × Int × Int × mM) → Prop) (z2520 : Int) (z2519 : Int) (z2517 : Int) (z4031 : Int) (z4030 : Int) (μ4033 : mM) (z4117 : Int) : Prop := (0 ≤ z4117 ∧ z4117 ≤ 1) → ∀ z4121 : Int, lOr z2520 z4031 = z4121 → ∀ z4124 : Int, lOr z2519 z4030 = z4124 → WP_X6_take_Wx w μ4033 (1124) (fun z4131 μ4127 => mT w μ4127 → mF [23009] w μ4033 μ4127 → (0 ≤ z4131 ∧ z4131 ≤ 1) → rec1 (z4117, z4121, z4124, z4131, (z2517 + 1), μ4127))
def WJ_X6_readBranches_Wx4_3 (w : mW) (rec1 : (Int × Int × Int × Int × Int × mM) → Prop) (z2521 : Int) (z2520 : Int) (z2519 : Int) (z2517 : Int) (z4032 : Int) (z4031 : Int) (z4030 : Int) (μ4033 : mM) : Prop := ((¬ z2521 = 0) → (WJ_X6_readBranches_Wx4_4 w rec1 z2520 z2519 z2517 z4031 z4030 μ4033) (1 : Int)) ∧ ((z2521 = 0) → ((z4032 = 0) → (WJ_X6_readBranches_Wx4_4 w rec1 z2520 z2519 z2517 z4031 z4030 μ4033) (0 : Int)) ∧ ((¬ z4032 = 0) → (WJ_X6_readBranches_Wx4_4 w rec1 z2520 z2519 z2517 z4031 z4030 μ4033) (1 : Int)))
def WJ_X6_readBranches_Wx4_7 (rec2 : (Int × Int × Int × Int × mM) → Prop) (z4032 : Int) (z4029 : Int) (μ4178 : mM) (z4187 : Int) (z4191 : Int) (z4205 : Int) : Prop := ((-9223372036854775808) ≤ z4205 ∧ z4205 ≤ 9223372036854775807) → ((z4032 = 0) → rec2 ((0 : Int), z4187, z4205, (z4029 + 1), μ4178)) ∧ ((¬ z4032 = 0) → ((z4191 = 0) → rec2 ((0 : Int), z4187, z4205, (z4029 + 1), μ4178)) ∧ ((¬ z4191 = 0) → rec2 ((1 : Int), z4187, z4205, (z4029 + 1), μ4178)))
def WJ_X6_readBranches_Wx4_6 (rec2 : (Int × Int × Int × Int × mM) → Prop) (z4032 : Int) (z4030 : Int) (z4029 : Int) (μ4178 : mM) (z4187 : Int) : Prop := ((-9223372036854775808) ≤ z4187 ∧ z4187 ≤ 9223372036854775807) → ∀ z4191 : Int, μ4178 23 15 = z4191 → (0 ≤ z4191 ∧ z4191 ≤ 1) → ((z4191 = 0) → ∀ z4223 : Int, μ4178 23 17 = z4223 → ((-9223372036854775808) ≤ z4223 ∧ z4223 ≤ 9223372036854775807) → (WJ_X6_readBranches_Wx4_7 rec2 z4032 z4029 μ4178 z4187 z4191) z4223) ∧ ((¬ z4191 = 0) → ∀ z4227 : Int, μ4178 23 17 = z4227 → ((-9223372036854775808) ≤ z4227 ∧ z4227 ≤ 9223372036854775807) → ∀ z4230 : Int, lOr z4030 z4227 = z4230 → (WJ_X6_readBranches_Wx4_7 rec2 z4032 z4029 μ4178 z4187 z4191) z4230)
def WJ_X6_readBranches_Wx4_5 (w : mW) (rec2 : (Int × Int × Int × Int × mM) → Prop) (z4032 : Int) (z4031 : Int) (z4030 : Int) (z4029 : Int) (μ4033 : mM) (μ4165 : mM) : Prop := mT w μ4165 → mF [23009, 23012, 23015, 23016, 23017, 23018, 23019, 28999, 29999] w μ4033 μ4165 → WP_X6_readRepeat_Wx w μ4165  (fun μ4171 => mT w μ4171 → mF [23009, 23015, 29999] w μ4165 μ4171 → ∀ z4175 : Int, μ4171 23 16 = z4175 → ((-9223372036854775808) ≤ z4175 ∧ z4175 ≤ 9223372036854775807) → WP_X6_join_Wx w μ4171 z4030 z4175 (fun μ4178 => mT w μ4178 → mF [29999] w μ4171 μ4178 → ((z4032 = 0) → (WJ_X6_readBranches_Wx4_6 rec2 z4032 z4030 z4029 μ4178) z4031) ∧ ((¬ z4032 = 0) → ∀ z4236 : Int, lOr z4031 z4175 = z4236 → (WJ_X6_readBranches_Wx4_6 rec2 z4032 z4030 z4029 μ4178) z4236)))
def WL_X6_readBranches_Wx4_2 (w : mW) (p1 : Int) (rec1 : (Int × Int × Int × Int × Int × mM) → Prop) (z2521 : Int) (z2520 : Int) (z2519 : Int) (z2517 : Int) (μ2522 : mM) (rec2 : (Int × Int × Int × Int × mM) → Prop) (s : (Int × Int × Int × Int × mM)) : Prop := ∀ z4032 : Int, ∀ z4031 : Int, ∀ z4030 : Int, ∀ z4029 : Int, ∀ μ4033 : mM, s = (z4032, z4031, z4030, z4029, μ4033) → (0 ≤ z4032 ∧ z4032 ≤ 1) → ((-9223372036854775808) ≤ z4031 ∧ z4031 ≤ 9223372036854775807) → ((-9223372036854775808) ≤ z4030 ∧ z4030 ≤ 9223372036854775807) → (0 ≤ z4029 ∧ z4029 ≤ 1001) → mT w μ4033 → mF [23009, 23012, 23015, 23016, 23017, 23018, 23019, 28999, 29999] w μ2522 μ4033 → ((1000 < z4029) → (WJ_X6_readBranches_Wx4_3 w rec1 z2521 z2520 z2519 z2517 z4032 z4031 z4030 μ4033) ) ∧ ((z4029 ≤ 1000) → ∀ z4141 : Int, μ4033 23 9 = z4141 → (0 ≤ z4141 ∧ z4141 ≤ 1000) → ∀ z4144 : Int, μ4033 24 (z4141.toNat) = z4144 → ((-2147483648) ≤ z4144 ∧ z4144 ≤ 2147483647) → WP_X6_beginsPiece_Wx w μ4033 z4144 (fun z4151 _ => (0 ≤ z4151 ∧ z4151 ≤ 1) → ((z4151 = 0) → (WJ_X6_readBranches_Wx4_3 w rec1 z2521 z2520 z2519 z2517 z4032 z4031 z4030 μ4033) ) ∧ ((¬ z4151 = 0) → ((¬ z4144 = 1040) → WP_X6_readPlace_Wx w μ4033  (fun μ4240 => mT w μ4240 → mF [23009, 23012, 23015, 23016, 23017, 23018, 23019, 28999, 29999] w μ4033 μ4240 → (WJ_X6_readBranches_Wx4_5 w rec2 z4032 z4031 z4030 z4029 μ4033) μ4240)) ∧ ((z4144 = 1040) → WP_X6_readGroup_Wx4 w μ4033 p1 (fun μ4245 => mT w μ4245 → mF [23009, 23012, 23015, 23016, 23017, 23018, 23019, 28999, 29999] w μ4033 μ4245 → (WJ_X6_readBranches_Wx4_5 w rec2 z4032 z4031 z4030 z4029 μ4033) μ4245)))))
def WL_X6_readBranches_Wx4_1 (w : mW) (μ : mM) (p1 : Int) (Q : mM → Prop) (rec1 : (Int × Int × Int × Int × Int × mM) → Prop) (s : (Int × Int × Int × Int × Int × mM)) : Prop := ∀ z2521 : Int, ∀ z2520 : Int, ∀ z2519 : Int, ∀ z2518 : Int, ∀ z2517 : Int, ∀ μ2522 : mM, s = (z2521, z2520, z2519, z2518, z2517, μ2522) → (0 ≤ z2521 ∧ z2521 ≤ 1) → ((-9223372036854775808) ≤ z2520 ∧ z2520 ≤ 9223372036854775807) → ((-9223372036854775808) ≤ z2519 ∧ z2519 ≤ 9223372036854775807) → (0 ≤ z2518 ∧ z2518 ≤ 1) → (0 ≤ z2517 ∧ z2517 ≤ 1001) → mT w μ2522 → mF [23009, 23012, 23015, 23016, 23017, 23018, 23019, 28999, 29999] w μ μ2522 → ((1000 < z2517) → ∀ μ2717 : mM, mU μ2522 23 (15) z2521 μ2717 → mT w μ2717 → ∀ μ2720 : mM, mU μ2717 23 (16) z2520 μ2720 → mT w μ2720 → ∀ μ2723 : mM, mU μ2720 23 (17) z2519 μ2723 → mT w μ2723 → Q μ2723) ∧ ((z2517 ≤ 1000) → ((z2518 = 0) → ∀ μ2907 : mM, mU μ2522 23 (15) z2521 μ2907 → mT w μ2907 → ∀ μ2910 : mM, mU μ2907 23 (16) z2520 μ2910 → mT w μ2910 → ∀ μ2913 : mM, mU μ2910 23 (17) z2519 μ2913 → mT w μ2913 → Q μ2913) ∧ ((¬ z2518 = 0) → loopF (WL_X6_readBranches_Wx4_2 w p1 rec1 z2521 z2520 z2519 z2517 μ2522) False 1003 ((1 : Int), (0 : Int), (0 : Int), (0 : Int), μ2522)))
def WP_X6_readBranches_Wx4 (w : mW) (μ : mM) (p1 : Int) (Q : mM → Prop) : Prop := loopF (WL_X6_readBranches_Wx4_1 w μ p1 Q) False 1003 ((0 : Int), (0 : Int), (0 : Int), (1 : Int), (0 : Int), μ)
set_option maxRecDepth 4000 in
set_option maxHeartbeats 4000000 in
theorem c_X6_readBranches_Wx4 {l : Launch} {D : va_G} {c : Nat → ClassId} {H0 : Heap} {sa : Nat × Nat × (Nat → Int32)} {w : mW} {μ : mM} (hw : mWF w) (hT : mT w μ) {p1 : Int} (hp1 : 4 ≤ p1 ∧ p1 ≤ 4) {Q : mM → Prop} (hQ : WP_X6_readBranches_Wx4 w μ p1 Q) : sC (gG l D c H0 sa) mX6_readBranches 7 0 0 [.ref 23, iv p1] (mk w μ) (qV w [23009, 23012, 23015, 23016, 23017, 23018, 23019, 28999, 29999] μ (fun μ1 => Q μ1 ∧ True)) := by
  refine sC.of rfl (by decide) (le_t rfl) ?_
  refine mr_lvE (lv' := [(0, .ref 23), (1, iv p1)]) rfl ?_
  refine mr_iconst (pc := 0) (z := 0) dX6_readBranches_0 ?_
  refine mr_istore_n (pc := 1) (lv' := [(2, iv 0), (0, .ref 23), (1, iv p1)]) dX6_readBranches_1 rfl (by decide) rfl ?_
  refine mr_lconst (pc := 2) (z := 0) dX6_readBranches_2 (by decide) ?_
  refine mr_lstore_n (pc := 3) (lv' := [(3, jv 0), (2, iv 0), (0, .ref 23), (1, iv p1)]) dX6_readBranches_3 rfl (by decide) rfl ?_
  refine mr_lconst (pc := 4) (z := 0) dX6_readBranches_4 (by decide) ?_
  refine mr_lstore (pc := 5) (lv' := [(5, jv 0), (3, jv 0), (2, iv 0), (0, .ref 23), (1, iv p1)]) dX6_readBranches_5 (by decide) rfl ?_
  refine mr_iconst (pc := 7) (z := 1) dX6_readBranches_7 ?_
  refine mr_istore (pc := 8) (lv' := [(7, iv 1), (5, jv 0), (3, jv 0), (2, iv 0), (0, .ref 23), (1, iv p1)]) dX6_readBranches_8 (by decide) rfl ?_
  refine mr_iconst (pc := 10) (z := 0) dX6_readBranches_10 ?_
  refine mr_istore (pc := 11) (lv' := [(8, iv 0), (7, iv 1), (5, jv 0), (3, jv 0), (2, iv 0), (0, .ref 23), (1, iv p1)]) dX6_readBranches_11 (by decide) rfl ?_
  have L2523 : ∀ (nL2523 : Nat) (z2521 z2520 z2519 z2518 z2517 : Int) (μ2522 : mM), mT w μ2522 → mF [23009, 23012, 23015, 23016, 23017, 23018, 23019, 28999, 29999] w μ μ2522 → (0 ≤ z2521 ∧ z2521 ≤ 1) → ((-9223372036854775808) ≤ z2520 ∧ z2520 ≤ 9223372036854775807) → ((-9223372036854775808) ≤ z2519 ∧ z2519 ≤ 9223372036854775807) → (0 ≤ z2518 ∧ z2518 ≤ 1) → (0 ≤ z2517 ∧ z2517 ≤ 1001) → (1002 - z2517) < (nL2523 : Int) → loopF (WL_X6_readBranches_Wx4_1 w μ p1 Q) False nL2523 (z2521, z2520, z2519, z2518, z2517, μ2522) → sV (gG l D c H0 sa) mX6_readBranches (sRm 7 0 0) (sZ (gG l D c H0 sa) 0 0 (qV w [23009, 23012, 23015, 23016, 23017, 23018, 23019, 28999, 29999] μ (fun μ1 => Q μ1 ∧ True))) 13 [(0, .ref 23), (1, iv p1), (2, iv z2521), (3, jv z2520), (5, jv z2519), (7, iv z2518), (8, iv z2517)] [] (mk w μ2522) 0 0 := by
    intro nL2523
    induction nL2523 with
    | zero => intro z2521 z2520 z2519 z2518 z2517 μ2522 T2529 F2530 h2524 h2525 h2526 h2527 h2528 h2532 W2533; exact ((vc_X6_readBranches_Wx6_1 h2532 h2528)).elim
    | succ nL2523 ih2534 =>
      intro z2521 z2520 z2519 z2518 z2517 μ2522 T2529 F2530 h2524 h2525 h2526 h2527 h2528 h2532 W2533
      refine mr_iload (pc := 13) (z := z2517) dX6_readBranches_13 rfl ?_
      refine mr_sipush (pc := 15) (z := 1000) dX6_readBranches_15 (by decide) ?_
      refine mr_icmp_gt (pc := 18) (tgt := 211) dX6_readBranches_18 (by decide) (r32 h2528 rfl) (r32 (rR (x := 1000)) rfl) (fun h2715 => ?_) (fun h2715 => ?_)
      · have h2716 : 1001 ≤ z2517 ∧ z2517 ≤ 1001 := (vc_X6_readBranches_Wx6_2 h2715 h2528)
        refine sv_aload_n (pc := 211) dX6_readBranches_211 rfl rfl ?_
        refine mr_iload_n (pc := 212) (z := z2521) dX6_readBranches_212 rfl rfl ?_
        refine pf_X6_15 (pc := 213) dX6_readBranches_213 wF_X6_186 (A_23 hw) T2529 h2524 fun μ2717 u2718 T2719 => ?_
        refine sv_aload_n (pc := 216) dX6_readBranches_216 rfl rfl ?_
        refine mr_lload_n (pc := 217) (z := z2520) dX6_readBranches_217 rfl rfl ?_
        refine pf_X6_16 (pc := 218) dX6_readBranches_218 wF_X6_179 (A_23 hw) T2719 h2525 fun μ2720 u2721 T2722 => ?_
        refine sv_aload_n (pc := 221) dX6_readBranches_221 rfl rfl ?_
        refine mr_lload (pc := 222) (z := z2519) dX6_readBranches_222 rfl ?_
        refine pf_X6_17 (pc := 224) dX6_readBranches_224 wF_X6_183 (A_23 hw) T2722 h2526 fun μ2723 u2724 T2725 => ?_
        exact mr_vret dX6_readBranches_227 rfl (le_t rfl) (le_t rfl) T2725 (mF.up (mF.up (mF.up (mF.call mF.refl F2530 rfl) (A_23 hw) u2718 rfl) (A_23 hw) u2721 rfl) (A_23 hw) u2724 rfl) ⟨(((((W2533 z2521 z2520 z2519 z2518 z2517 μ2522 rfl h2524 h2525 h2526 h2527 h2528 T2529 F2530).1 h2715) μ2717 u2718 T2719) μ2720 u2721 T2722) μ2723 u2724 T2725), trivial⟩
      have h2726 : 0 ≤ z2517 ∧ z2517 ≤ 1000 := (vc_X6_readBranches_Wx6_3 h2715 h2528)
      refine mr_iload (pc := 21) (z := z2518) dX6_readBranches_21 rfl ?_
      refine mr_if_eq (pc := 23) (tgt := 211) dX6_readBranches_23 (by decide) (r32 h2527 rfl) (fun h2905 => ?_) (fun h2905 => ?_)
      · have h2906 : 0 ≤ z2518 ∧ z2518 ≤ 0 := (vc_X12_ring_22 h2905 h2527)
        refine sv_aload_n (pc := 211) dX6_readBranches_211 rfl rfl ?_
        refine mr_iload_n (pc := 212) (z := z2521) dX6_readBranches_212 rfl rfl ?_
        refine pf_X6_15 (pc := 213) dX6_readBranches_213 wF_X6_186 (A_23 hw) T2529 h2524 fun μ2907 u2908 T2909 => ?_
        refine sv_aload_n (pc := 216) dX6_readBranches_216 rfl rfl ?_
        refine mr_lload_n (pc := 217) (z := z2520) dX6_readBranches_217 rfl rfl ?_
        refine pf_X6_16 (pc := 218) dX6_readBranches_218 wF_X6_179 (A_23 hw) T2909 h2525 fun μ2910 u2911 T2912 => ?_
        refine sv_aload_n (pc := 221) dX6_readBranches_221 rfl rfl ?_
        refine mr_lload (pc := 222) (z := z2519) dX6_readBranches_222 rfl ?_
        refine pf_X6_17 (pc := 224) dX6_readBranches_224 wF_X6_183 (A_23 hw) T2912 h2526 fun μ2913 u2914 T2915 => ?_
        exact mr_vret dX6_readBranches_227 rfl (le_t rfl) (le_t rfl) T2915 (mF.up (mF.up (mF.up (mF.call mF.refl F2530 rfl) (A_23 hw) u2908 rfl) (A_23 hw) u2911 rfl) (A_23 hw) u2914 rfl) ⟨((((((W2533 z2521 z2520 z2519 z2518 z2517 μ2522 rfl h2524 h2525 h2526 h2527 h2528 T2529 F2530).2 h2715).1 h2905) μ2907 u2908 T2909) μ2910 u2911 T2912) μ2913 u2914 T2915), trivial⟩
      have h2916 : 1 ≤ z2518 ∧ z2518 ≤ 1 := (vc_X12_ring_24 h2905 h2527)
      refine mr_iconst (pc := 26) (z := 1) dX6_readBranches_26 ?_
      refine mr_istore (pc := 27) (lv' := [(9, iv 1), (0, .ref 23), (1, iv p1), (2, iv z2521), (3, jv z2520), (5, jv z2519), (7, iv z2518), (8, iv z2517)]) dX6_readBranches_27 (by decide) rfl ?_
      refine mr_lconst (pc := 29) (z := 0) dX6_readBranches_29 (by decide) ?_
      refine mr_lstore (pc := 30) (lv' := [(10, jv 0), (9, iv 1), (0, .ref 23), (1, iv p1), (2, iv z2521), (3, jv z2520), (5, jv z2519), (7, iv z2518), (8, iv z2517)]) dX6_readBranches_30 (by decide) rfl ?_
      refine mr_lconst (pc := 32) (z := 0) dX6_readBranches_32 (by decide) ?_
      refine mr_lstore (pc := 33) (lv' := [(12, jv 0), (10, jv 0), (9, iv 1), (0, .ref 23), (1, iv p1), (2, iv z2521), (3, jv z2520), (5, jv z2519), (7, iv z2518), (8, iv z2517)]) dX6_readBranches_33 (by decide) rfl ?_
      refine mr_iconst (pc := 35) (z := 0) dX6_readBranches_35 ?_
      refine mr_istore (pc := 36) (lv' := [(14, iv 0), (12, jv 0), (10, jv 0), (9, iv 1), (0, .ref 23), (1, iv p1), (2, iv z2521), (3, jv z2520), (5, jv z2519), (7, iv z2518), (8, iv z2517)]) dX6_readBranches_36 (by decide) rfl ?_
      have L4034 : ∀ (nL4034 : Nat) (z4032 z4031 z4030 z4029 : Int) (μ4033 : mM), mT w μ4033 → mF [23009, 23012, 23015, 23016, 23017, 23018, 23019, 28999, 29999] w μ2522 μ4033 → (0 ≤ z4032 ∧ z4032 ≤ 1) → ((-9223372036854775808) ≤ z4031 ∧ z4031 ≤ 9223372036854775807) → ((-9223372036854775808) ≤ z4030 ∧ z4030 ≤ 9223372036854775807) → (0 ≤ z4029 ∧ z4029 ≤ 1001) → (1002 - z4029) < (nL4034 : Int) → loopF (WL_X6_readBranches_Wx4_2 w p1 (loopF (WL_X6_readBranches_Wx4_1 w μ p1 Q) False nL2523) z2521 z2520 z2519 z2517 μ2522) False nL4034 (z4032, z4031, z4030, z4029, μ4033) → sV (gG l D c H0 sa) mX6_readBranches (sRm 7 0 0) (sZ (gG l D c H0 sa) 0 0 (qV w [23009, 23012, 23015, 23016, 23017, 23018, 23019, 28999, 29999] μ (fun μ1 => Q μ1 ∧ True))) 38 [(0, .ref 23), (1, iv p1), (2, iv z2521), (3, jv z2520), (5, jv z2519), (8, iv z2517), (9, iv z4032), (10, jv z4031), (12, jv z4030), (14, iv z4029)] [] (mk w μ4033) 0 0 := by
        intro nL4034
        induction nL4034 with
        | zero => intro z4032 z4031 z4030 z4029 μ4033 T4039 F4040 h4035 h4036 h4037 h4038 h4042 W4043; exact ((vc_X6_readBranches_Wx6_1 h4042 h4038)).elim
        | succ nL4034 ih4044 =>
          intro z4032 z4031 z4030 z4029 μ4033 T4039 F4040 h4035 h4036 h4037 h4038 h4042 W4043
          refine mr_iload (pc := 38) (z := z4029) dX6_readBranches_38 rfl ?_
          refine mr_sipush (pc := 40) (z := 1000) dX6_readBranches_40 (by decide) ?_
          have J4111 : ((WJ_X6_readBranches_Wx4_3 w (loopF (WL_X6_readBranches_Wx4_1 w μ p1 Q) False nL2523) z2521 z2520 z2519 z2517 z4032 z4031 z4030 μ4033) ) → sV (gG l D c H0 sa) mX6_readBranches (sRm 7 0 0) (sZ (gG l D c H0 sa) 0 0 (qV w [23009, 23012, 23015, 23016, 23017, 23018, 23019, 28999, 29999] μ (fun μ1 => Q μ1 ∧ True))) 169 [(0, .ref 23), (1, iv p1), (2, iv z2521), (3, jv z2520), (5, jv z2519), (8, iv z2517), (9, iv z4032), (10, jv z4031), (12, jv z4030)] [] (mk w μ4033) 0 0 := by
            intro W4112
            refine mr_iload_n (pc := 169) (z := z2521) dX6_readBranches_169 rfl rfl ?_
            have J4119 : ∀ (z4117 : Int), ((0 ≤ z4117 ∧ z4117 ≤ 1)) → ((WJ_X6_readBranches_Wx4_4 w (loopF (WL_X6_readBranches_Wx4_1 w μ p1 Q) False nL2523) z2520 z2519 z2517 z4031 z4030 μ4033) z4117) → sV (gG l D c H0 sa) mX6_readBranches (sRm 7 0 0) (sZ (gG l D c H0 sa) 0 0 (qV w [23009, 23012, 23015, 23016, 23017, 23018, 23019, 28999, 29999] μ (fun μ1 => Q μ1 ∧ True))) 183 [(0, .ref 23), (1, iv p1), (3, jv z2520), (5, jv z2519), (8, iv z2517), (10, jv z4031), (12, jv z4030)] [iv z4117] (mk w μ4033) 0 0 := by
              intro z4117 h4118 W4120
              refine mr_istore_n (pc := 183) (lv' := [(2, iv z4117), (0, .ref 23), (1, iv p1), (3, jv z2520), (5, jv z2519), (8, iv z2517), (10, jv z4031), (12, jv z4030)]) dX6_readBranches_183 rfl (by decide) rfl ?_
              refine mr_lload_n (pc := 184) (z := z2520) dX6_readBranches_184 rfl rfl ?_
              refine mr_lload (pc := 185) (z := z4031) dX6_readBranches_185 rfl ?_
              refine mr_lor (pc := 187) dX6_readBranches_187 ?_
              refine mr_genL (r64i _) fun z4121 q4122 h4123 => ?_
              refine mr_lstore_n (pc := 188) (lv' := [(3, jv z4121), (2, iv z4117), (0, .ref 23), (1, iv p1), (5, jv z2519), (8, iv z2517), (10, jv z4031), (12, jv z4030)]) dX6_readBranches_188 rfl (by decide) rfl ?_
              refine mr_lload (pc := 189) (z := z2519) dX6_readBranches_189 rfl ?_
              refine mr_lload (pc := 191) (z := z4030) dX6_readBranches_191 rfl ?_
              refine mr_lor (pc := 193) dX6_readBranches_193 ?_
              refine mr_genL (r64i _) fun z4124 q4125 h4126 => ?_
              refine mr_lstore (pc := 194) (lv' := [(5, jv z4124), (3, jv z4121), (2, iv z4117), (0, .ref 23), (1, iv p1), (8, iv z2517), (10, jv z4031), (12, jv z4030)]) dX6_readBranches_194 (by decide) rfl ?_
              refine sv_aload_n (pc := 196) dX6_readBranches_196 rfl rfl ?_
              refine mr_sipush (pc := 197) (z := 1124) dX6_readBranches_197 (by decide) ?_
              refine mr_cVI (pc := 200) (c_X6_take_Wx hw T4039 (rW (c := (-2147483648)) (d := 2147483647) (rR (x := 1124)) rfl) (((W4120 h4118) z4121 q4122) z4124 q4125)) (gOk _ _ _ _ _) dX6_readBranches_200 (tX6_take _ _ _ _ _) ⟨wV_X6_take, wL_X6_take⟩ wM_X6_120 (gCX6 _ _ _ _ _) rfl (A_23 hw) rfl ⟨le_t rfl, le_t rfl⟩ ⟨le_t rfl, le_t rfl⟩ rfl (le_t rfl) fun z4131 μ4127 T4128 F4129 h4130 => ?_
              refine mr_istore (pc := 203) (lv' := [(7, iv z4131), (5, jv z4124), (3, jv z4121), (2, iv z4117), (0, .ref 23), (1, iv p1), (8, iv z2517), (10, jv z4031), (12, jv z4030)]) dX6_readBranches_203 (by decide) rfl ?_
              refine mr_iinc (pc := 205) (lv' := [(8, iv (z2517 + 1)), (7, iv z4131), (5, jv z4124), (3, jv z4121), (2, iv z4117), (0, .ref 23), (1, iv p1), (10, jv z4031), (12, jv z4030)]) dX6_readBranches_205 rfl (by decide) rfl ?_
              refine sv_goto (pc := 208) (tgt := 13) dX6_readBranches_208 (by decide) ?_
              refine mr_lvS (lv' := [(0, .ref 23), (1, iv p1), (2, iv z4117), (3, jv z4121), (5, jv z4124), (7, iv z4131), (8, iv (z2517 + 1))]) (List.forall_mem_cons.mpr ⟨rfl, List.forall_mem_cons.mpr ⟨rfl, List.forall_mem_cons.mpr ⟨rfl, List.forall_mem_cons.mpr ⟨rfl, List.forall_mem_cons.mpr ⟨rfl, List.forall_mem_cons.mpr ⟨rfl, List.forall_mem_cons.mpr ⟨rfl, fun _ h => absurd h List.not_mem_nil⟩⟩⟩⟩⟩⟩⟩) ?_
              exact ih2534 z4117 z4121 z4124 z4131 (z2517 + 1) μ4127 T4128 (mF.call (mF.call (mF.call mF.refl F2530 rfl) F4040 rfl) F4129 rfl) h4118 h4123 h4126 h4130.1 (rW (c := 0) (d := 1001) (rAdd (e := 1) (f := 1001) h2726 (rR (x := 1)) rfl) rfl) (vc_X6_readBranches_Wx6_7 (nS h2532) h2715 h2726) ((h4130.2.1 T4128 F4129) h4130.1)
            refine mr_if_ne (pc := 170) (tgt := 178) dX6_readBranches_170 (by decide) (r32 h2524 rfl) (fun h4132 => ?_) (fun h4132 => ?_)
            · have h4133 : 1 ≤ z2521 ∧ z2521 ≤ 1 := (vc_X12_ring_24 h4132 h2524)
              refine mr_iconst (pc := 178) (z := 1) dX6_readBranches_178 ?_
              refine sv_goto (pc := 179) (tgt := 183) dX6_readBranches_179 (by decide) ?_
              refine mr_lvS (lv' := [(0, .ref 23), (1, iv p1), (3, jv z2520), (5, jv z2519), (8, iv z2517), (10, jv z4031), (12, jv z4030)]) (List.forall_mem_cons.mpr ⟨rfl, List.forall_mem_cons.mpr ⟨rfl, List.forall_mem_cons.mpr ⟨rfl, List.forall_mem_cons.mpr ⟨rfl, List.forall_mem_cons.mpr ⟨rfl, List.forall_mem_cons.mpr ⟨rfl, List.forall_mem_cons.mpr ⟨rfl, fun _ h => absurd h List.not_mem_nil⟩⟩⟩⟩⟩⟩⟩) ?_
              exact J4119 1 (rW (c := 0) (d := 1) (rR (x := 1)) rfl) ((W4112).1 h4132)
            have h4134 : 0 ≤ z2521 ∧ z2521 ≤ 0 := (vc_X12_ring_22 h4132 h2524)
            refine mr_iload (pc := 173) (z := z4032) dX6_readBranches_173 rfl ?_
            refine mr_if_eq (pc := 175) (tgt := 182) dX6_readBranches_175 (by decide) (r32 h4035 rfl) (fun h4135 => ?_) (fun h4135 => ?_)
            · have h4136 : 0 ≤ z4032 ∧ z4032 ≤ 0 := (vc_X12_ring_22 h4135 h4035)
              refine mr_iconst (pc := 182) (z := 0) dX6_readBranches_182 ?_
              refine mr_lvS (lv' := [(0, .ref 23), (1, iv p1), (3, jv z2520), (5, jv z2519), (8, iv z2517), (10, jv z4031), (12, jv z4030)]) (List.forall_mem_cons.mpr ⟨rfl, List.forall_mem_cons.mpr ⟨rfl, List.forall_mem_cons.mpr ⟨rfl, List.forall_mem_cons.mpr ⟨rfl, List.forall_mem_cons.mpr ⟨rfl, List.forall_mem_cons.mpr ⟨rfl, List.forall_mem_cons.mpr ⟨rfl, fun _ h => absurd h List.not_mem_nil⟩⟩⟩⟩⟩⟩⟩) ?_
              exact J4119 0 (rW (c := 0) (d := 1) (rR (x := 0)) rfl) (((W4112).2 h4132).1 h4135)
            have h4137 : 1 ≤ z4032 ∧ z4032 ≤ 1 := (vc_X12_ring_24 h4135 h4035)
            refine mr_iconst (pc := 178) (z := 1) dX6_readBranches_178 ?_
            refine sv_goto (pc := 179) (tgt := 183) dX6_readBranches_179 (by decide) ?_
            refine mr_lvS (lv' := [(0, .ref 23), (1, iv p1), (3, jv z2520), (5, jv z2519), (8, iv z2517), (10, jv z4031), (12, jv z4030)]) (List.forall_mem_cons.mpr ⟨rfl, List.forall_mem_cons.mpr ⟨rfl, List.forall_mem_cons.mpr ⟨rfl, List.forall_mem_cons.mpr ⟨rfl, List.forall_mem_cons.mpr ⟨rfl, List.forall_mem_cons.mpr ⟨rfl, List.forall_mem_cons.mpr ⟨rfl, fun _ h => absurd h List.not_mem_nil⟩⟩⟩⟩⟩⟩⟩) ?_
            exact J4119 1 (rW (c := 0) (d := 1) (rR (x := 1)) rfl) (((W4112).2 h4132).2 h4135)
          refine mr_icmp_gt (pc := 43) (tgt := 169) dX6_readBranches_43 (by decide) (r32 h4038 rfl) (r32 (rR (x := 1000)) rfl) (fun h4138 => ?_) (fun h4138 => ?_)
          · have h4139 : 1001 ≤ z4029 ∧ z4029 ≤ 1001 := (vc_X6_readBranches_Wx6_2 h4138 h4038)
            refine mr_lvS (lv' := [(0, .ref 23), (1, iv p1), (2, iv z2521), (3, jv z2520), (5, jv z2519), (8, iv z2517), (9, iv z4032), (10, jv z4031), (12, jv z4030)]) (List.forall_mem_cons.mpr ⟨rfl, List.forall_mem_cons.mpr ⟨rfl, List.forall_mem_cons.mpr ⟨rfl, List.forall_mem_cons.mpr ⟨rfl, List.forall_mem_cons.mpr ⟨rfl, List.forall_mem_cons.mpr ⟨rfl, List.forall_mem_cons.mpr ⟨rfl, List.forall_mem_cons.mpr ⟨rfl, List.forall_mem_cons.mpr ⟨rfl, fun _ h => absurd h List.not_mem_nil⟩⟩⟩⟩⟩⟩⟩⟩⟩) ?_
            exact J4111 ((W4043 z4032 z4031 z4030 z4029 μ4033 rfl h4035 h4036 h4037 h4038 T4039 F4040).1 h4138)
          have h4140 : 0 ≤ z4029 ∧ z4029 ≤ 1000 := (vc_X6_readBranches_Wx6_3 h4138 h4038)
          refine sv_aload_n (pc := 46) dX6_readBranches_46 rfl rfl ?_
          refine gf_X6_0 (pc := 47) dX6_readBranches_47 wF_X6_9 (A_23 hw) T4039 ?_
          refine sv_aload_n (pc := 50) dX6_readBranches_50 rfl rfl ?_
          refine gf_X6_9 (pc := 51) dX6_readBranches_51 wF_X6_63 (A_23 hw) T4039 fun z4141 q4142 h4143 => ?_
          refine la_24 (pc := 54) dX6_readBranches_54 (A_24 hw) T4039 (rIx (n := 1001) h4143 rfl) fun z4144 q4145 h4146 => ?_
          have W4152 := ((((W4043 z4032 z4031 z4030 z4029 μ4033 rfl h4035 h4036 h4037 h4038 T4039 F4040).2 h4138) z4141 q4142 h4143) z4144 q4145 h4146)
          refine mr_cSP (pc := 55) (c_X6_beginsPiece_Wx hw T4039 h4146 W4152) (gOk _ _ _ _ _) dX6_readBranches_55 (tX6_beginsPiece _ _ _ _ _) wS_X6_beginsPiece wM_X6_190 ⟨le_t rfl, le_t rfl⟩ ⟨le_t rfl, le_t rfl⟩ rfl (le_t rfl) fun z4151 h4150 => ?_
          refine mr_if_eq (pc := 58) (tgt := 169) dX6_readBranches_58 (by decide) (r32 h4150.1 rfl) (fun h4153 => ?_) (fun h4153 => ?_)
          · have h4154 : 0 ≤ z4151 ∧ z4151 ≤ 0 := (vc_X12_ring_22 h4153 h4150.1)
            refine mr_lvS (lv' := [(0, .ref 23), (1, iv p1), (2, iv z2521), (3, jv z2520), (5, jv z2519), (8, iv z2517), (9, iv z4032), (10, jv z4031), (12, jv z4030)]) (List.forall_mem_cons.mpr ⟨rfl, List.forall_mem_cons.mpr ⟨rfl, List.forall_mem_cons.mpr ⟨rfl, List.forall_mem_cons.mpr ⟨rfl, List.forall_mem_cons.mpr ⟨rfl, List.forall_mem_cons.mpr ⟨rfl, List.forall_mem_cons.mpr ⟨rfl, List.forall_mem_cons.mpr ⟨rfl, List.forall_mem_cons.mpr ⟨rfl, fun _ h => absurd h List.not_mem_nil⟩⟩⟩⟩⟩⟩⟩⟩⟩) ?_
            exact J4111 ((h4150.2.1 h4150.1).1 h4153)
          have h4155 : 1 ≤ z4151 ∧ z4151 ≤ 1 := (vc_X12_ring_24 h4153 h4150.1)
          refine sv_aload_n (pc := 61) dX6_readBranches_61 rfl rfl ?_
          refine gf_X6_0 (pc := 62) dX6_readBranches_62 wF_X6_9 (A_23 hw) T4039 ?_
          refine sv_aload_n (pc := 65) dX6_readBranches_65 rfl rfl ?_
          refine gk_X6_9 (pc := 66) dX6_readBranches_66 wF_X6_63 (A_23 hw) q4142 ?_
          refine lk_24 (pc := 69) dX6_readBranches_69 (A_24 hw) (rIx (n := 1001) h4143 rfl) q4145 ?_
          refine mr_sipush (pc := 70) (z := 1040) dX6_readBranches_70 (by decide) ?_
          have J4169 : ∀ (μ4165 : mM), (mT w μ4165) → (mF [23009, 23012, 23015, 23016, 23017, 23018, 23019, 28999, 29999] w μ4033 μ4165) → ((WJ_X6_readBranches_Wx4_5 w (loopF (WL_X6_readBranches_Wx4_2 w p1 (loopF (WL_X6_readBranches_Wx4_1 w μ p1 Q) False nL2523) z2521 z2520 z2519 z2517 μ2522) False nL4034) z4032 z4031 z4030 z4029 μ4033) μ4165) → sV (gG l D c H0 sa) mX6_readBranches (sRm 7 0 0) (sZ (gG l D c H0 sa) 0 0 (qV w [23009, 23012, 23015, 23016, 23017, 23018, 23019, 28999, 29999] μ (fun μ1 => Q μ1 ∧ True))) 88 [(0, .ref 23), (1, iv p1), (2, iv z2521), (3, jv z2520), (5, jv z2519), (8, iv z2517), (9, iv z4032), (10, jv z4031), (12, jv z4030), (14, iv z4029)] [] (mk w μ4165) 0 0 := by
            intro μ4165 T4166 F4167 W4170
            refine sv_aload_n (pc := 88) dX6_readBranches_88 rfl rfl ?_
            refine mr_cVV (pc := 89) (c_X6_readRepeat_Wx hw T4166 (W4170 T4166 F4167)) (gOk _ _ _ _ _) dX6_readBranches_89 (tX6_readRepeat _ _ _ _ _) ⟨wV_X6_readRepeat, wL_X6_readRepeat⟩ wM_X6_199 (gCX6 _ _ _ _ _) rfl (A_23 hw) rfl ⟨le_t rfl, le_t rfl⟩ ⟨le_t rfl, le_t rfl⟩ rfl (le_t rfl) fun μ4171 T4172 F4173 h4174 => ?_
            refine sv_aload_n (pc := 92) dX6_readBranches_92 rfl rfl ?_
            refine mr_lload (pc := 93) (z := z4030) dX6_readBranches_93 rfl ?_
            refine sv_aload_n (pc := 95) dX6_readBranches_95 rfl rfl ?_
            refine gf_X6_16 (pc := 96) dX6_readBranches_96 wF_X6_179 (A_23 hw) T4172 fun z4175 q4176 h4177 => ?_
            refine mr_cVV (pc := 99) (c_X6_join_Wx hw T4172 h4037 h4177 ((h4174.1 T4172 F4173) z4175 q4176 h4177)) (gOk _ _ _ _ _) dX6_readBranches_99 (tX6_join _ _ _ _ _) ⟨wV_X6_join, wL_X6_join⟩ wM_X6_202 (gCX6 _ _ _ _ _) rfl (A_23 hw) rfl ⟨le_t rfl, le_t rfl⟩ ⟨le_t rfl, le_t rfl⟩ rfl (le_t rfl) fun μ4178 T4179 F4180 h4181 => ?_
            refine mr_iload (pc := 102) (z := z4032) dX6_readBranches_102 rfl ?_
            have J4189 : ∀ (z4187 : Int), (((-9223372036854775808) ≤ z4187 ∧ z4187 ≤ 9223372036854775807)) → ((WJ_X6_readBranches_Wx4_6 (loopF (WL_X6_readBranches_Wx4_2 w p1 (loopF (WL_X6_readBranches_Wx4_1 w μ p1 Q) False nL2523) z2521 z2520 z2519 z2517 μ2522) False nL4034) z4032 z4030 z4029 μ4178) z4187) → sV (gG l D c H0 sa) mX6_readBranches (sRm 7 0 0) (sZ (gG l D c H0 sa) 0 0 (qV w [23009, 23012, 23015, 23016, 23017, 23018, 23019, 28999, 29999] μ (fun μ1 => Q μ1 ∧ True))) 119 [(0, .ref 23), (1, iv p1), (2, iv z2521), (3, jv z2520), (5, jv z2519), (8, iv z2517), (9, iv z4032), (12, jv z4030), (14, iv z4029)] [jv z4187] (mk w μ4178) 0 0 := by
              intro z4187 h4188 W4190
              refine mr_lstore (pc := 119) (lv' := [(10, jv z4187), (0, .ref 23), (1, iv p1), (2, iv z2521), (3, jv z2520), (5, jv z2519), (8, iv z2517), (9, iv z4032), (12, jv z4030), (14, iv z4029)]) dX6_readBranches_119 (by decide) rfl ?_
              refine sv_aload_n (pc := 121) dX6_readBranches_121 rfl rfl ?_
              refine gf_X6_15 (pc := 122) dX6_readBranches_122 wF_X6_186 (A_23 hw) T4179 fun z4191 q4192 h4193 => ?_
              have J4207 : ∀ (z4205 : Int), (((-9223372036854775808) ≤ z4205 ∧ z4205 ≤ 9223372036854775807)) → ((WJ_X6_readBranches_Wx4_7 (loopF (WL_X6_readBranches_Wx4_2 w p1 (loopF (WL_X6_readBranches_Wx4_1 w μ p1 Q) False nL2523) z2521 z2520 z2519 z2517 μ2522) False nL4034) z4032 z4029 μ4178 z4187 z4191) z4205) → sV (gG l D c H0 sa) mX6_readBranches (sRm 7 0 0) (sZ (gG l D c H0 sa) 0 0 (qV w [23009, 23012, 23015, 23016, 23017, 23018, 23019, 28999, 29999] μ (fun μ1 => Q μ1 ∧ True))) 142 [(0, .ref 23), (1, iv p1), (2, iv z2521), (3, jv z2520), (5, jv z2519), (8, iv z2517), (9, iv z4032), (10, jv z4187), (14, iv z4029)] [jv z4205] (mk w μ4178) 0 0 := by
                intro z4205 h4206 W4208
                refine mr_lstore (pc := 142) (lv' := [(12, jv z4205), (0, .ref 23), (1, iv p1), (2, iv z2521), (3, jv z2520), (5, jv z2519), (8, iv z2517), (9, iv z4032), (10, jv z4187), (14, iv z4029)]) dX6_readBranches_142 (by decide) rfl ?_
                refine mr_iload (pc := 144) (z := z4032) dX6_readBranches_144 rfl ?_
                refine mr_if_eq (pc := 146) (tgt := 160) dX6_readBranches_146 (by decide) (r32 h4035 rfl) (fun h4213 => ?_) (fun h4213 => ?_)
                · have h4214 : 0 ≤ z4032 ∧ z4032 ≤ 0 := (vc_X12_ring_22 h4213 h4035)
                  refine mr_iconst (pc := 160) (z := 0) dX6_readBranches_160 ?_
                  refine mr_istore (pc := 161) (lv' := [(9, iv 0), (12, jv z4205), (0, .ref 23), (1, iv p1), (2, iv z2521), (3, jv z2520), (5, jv z2519), (8, iv z2517), (10, jv z4187), (14, iv z4029)]) dX6_readBranches_161 (by decide) rfl ?_
                  refine mr_iinc (pc := 163) (lv' := [(14, iv (z4029 + 1)), (9, iv 0), (12, jv z4205), (0, .ref 23), (1, iv p1), (2, iv z2521), (3, jv z2520), (5, jv z2519), (8, iv z2517), (10, jv z4187)]) dX6_readBranches_163 rfl (by decide) rfl ?_
                  refine sv_goto (pc := 166) (tgt := 38) dX6_readBranches_166 (by decide) ?_
                  refine mr_lvS (lv' := [(0, .ref 23), (1, iv p1), (2, iv z2521), (3, jv z2520), (5, jv z2519), (8, iv z2517), (9, iv 0), (10, jv z4187), (12, jv z4205), (14, iv (z4029 + 1))]) (List.forall_mem_cons.mpr ⟨rfl, List.forall_mem_cons.mpr ⟨rfl, List.forall_mem_cons.mpr ⟨rfl, List.forall_mem_cons.mpr ⟨rfl, List.forall_mem_cons.mpr ⟨rfl, List.forall_mem_cons.mpr ⟨rfl, List.forall_mem_cons.mpr ⟨rfl, List.forall_mem_cons.mpr ⟨rfl, List.forall_mem_cons.mpr ⟨rfl, List.forall_mem_cons.mpr ⟨rfl, fun _ h => absurd h List.not_mem_nil⟩⟩⟩⟩⟩⟩⟩⟩⟩⟩) ?_
                  exact ih4044 0 z4187 z4205 (z4029 + 1) μ4178 T4179 (mF.call (mF.call (mF.call (mF.call mF.refl F4040 rfl) F4167 rfl) F4173 rfl) F4180 rfl) (rW (c := 0) (d := 1) (rR (x := 0)) rfl) h4188 h4206 (rW (c := 0) (d := 1001) (rAdd (e := 1) (f := 1001) h4140 (rR (x := 1)) rfl) rfl) (vc_X6_readBranches_Wx6_7 (nS h4042) h4138 h4140) ((W4208 h4206).1 h4213)
                have h4215 : 1 ≤ z4032 ∧ z4032 ≤ 1 := (vc_X12_ring_24 h4213 h4035)
                refine sv_aload_n (pc := 149) dX6_readBranches_149 rfl rfl ?_
                refine gk_X6_15 (pc := 150) dX6_readBranches_150 wF_X6_186 (A_23 hw) q4192 ?_
                refine mr_if_eq (pc := 153) (tgt := 160) dX6_readBranches_153 (by decide) (r32 h4193 rfl) (fun h4218 => ?_) (fun h4218 => ?_)
                · have h4219 : 0 ≤ z4191 ∧ z4191 ≤ 0 := (vc_X12_ring_22 h4218 h4193)
                  refine mr_iconst (pc := 160) (z := 0) dX6_readBranches_160 ?_
                  refine mr_istore (pc := 161) (lv' := [(9, iv 0), (12, jv z4205), (0, .ref 23), (1, iv p1), (2, iv z2521), (3, jv z2520), (5, jv z2519), (8, iv z2517), (10, jv z4187), (14, iv z4029)]) dX6_readBranches_161 (by decide) rfl ?_
                  refine mr_iinc (pc := 163) (lv' := [(14, iv (z4029 + 1)), (9, iv 0), (12, jv z4205), (0, .ref 23), (1, iv p1), (2, iv z2521), (3, jv z2520), (5, jv z2519), (8, iv z2517), (10, jv z4187)]) dX6_readBranches_163 rfl (by decide) rfl ?_
                  refine sv_goto (pc := 166) (tgt := 38) dX6_readBranches_166 (by decide) ?_
                  refine mr_lvS (lv' := [(0, .ref 23), (1, iv p1), (2, iv z2521), (3, jv z2520), (5, jv z2519), (8, iv z2517), (9, iv 0), (10, jv z4187), (12, jv z4205), (14, iv (z4029 + 1))]) (List.forall_mem_cons.mpr ⟨rfl, List.forall_mem_cons.mpr ⟨rfl, List.forall_mem_cons.mpr ⟨rfl, List.forall_mem_cons.mpr ⟨rfl, List.forall_mem_cons.mpr ⟨rfl, List.forall_mem_cons.mpr ⟨rfl, List.forall_mem_cons.mpr ⟨rfl, List.forall_mem_cons.mpr ⟨rfl, List.forall_mem_cons.mpr ⟨rfl, List.forall_mem_cons.mpr ⟨rfl, fun _ h => absurd h List.not_mem_nil⟩⟩⟩⟩⟩⟩⟩⟩⟩⟩) ?_
                  exact ih4044 0 z4187 z4205 (z4029 + 1) μ4178 T4179 (mF.call (mF.call (mF.call (mF.call mF.refl F4040 rfl) F4167 rfl) F4173 rfl) F4180 rfl) (rW (c := 0) (d := 1) (rR (x := 0)) rfl) h4188 h4206 (rW (c := 0) (d := 1001) (rAdd (e := 1) (f := 1001) h4140 (rR (x := 1)) rfl) rfl) (vc_X6_readBranches_Wx6_7 (nS h4042) h4138 h4140) (((W4208 h4206).2 h4213).1 h4218)
                have h4220 : 1 ≤ z4191 ∧ z4191 ≤ 1 := (vc_X12_ring_24 h4218 h4193)
                refine mr_iconst (pc := 156) (z := 1) dX6_readBranches_156 ?_
                refine sv_goto (pc := 157) (tgt := 161) dX6_readBranches_157 (by decide) ?_
                refine mr_istore (pc := 161) (lv' := [(9, iv 1), (12, jv z4205), (0, .ref 23), (1, iv p1), (2, iv z2521), (3, jv z2520), (5, jv z2519), (8, iv z2517), (10, jv z4187), (14, iv z4029)]) dX6_readBranches_161 (by decide) rfl ?_
                refine mr_iinc (pc := 163) (lv' := [(14, iv (z4029 + 1)), (9, iv 1), (12, jv z4205), (0, .ref 23), (1, iv p1), (2, iv z2521), (3, jv z2520), (5, jv z2519), (8, iv z2517), (10, jv z4187)]) dX6_readBranches_163 rfl (by decide) rfl ?_
                refine sv_goto (pc := 166) (tgt := 38) dX6_readBranches_166 (by decide) ?_
                refine mr_lvS (lv' := [(0, .ref 23), (1, iv p1), (2, iv z2521), (3, jv z2520), (5, jv z2519), (8, iv z2517), (9, iv 1), (10, jv z4187), (12, jv z4205), (14, iv (z4029 + 1))]) (List.forall_mem_cons.mpr ⟨rfl, List.forall_mem_cons.mpr ⟨rfl, List.forall_mem_cons.mpr ⟨rfl, List.forall_mem_cons.mpr ⟨rfl, List.forall_mem_cons.mpr ⟨rfl, List.forall_mem_cons.mpr ⟨rfl, List.forall_mem_cons.mpr ⟨rfl, List.forall_mem_cons.mpr ⟨rfl, List.forall_mem_cons.mpr ⟨rfl, List.forall_mem_cons.mpr ⟨rfl, fun _ h => absurd h List.not_mem_nil⟩⟩⟩⟩⟩⟩⟩⟩⟩⟩) ?_
                exact ih4044 1 z4187 z4205 (z4029 + 1) μ4178 T4179 (mF.call (mF.call (mF.call (mF.call mF.refl F4040 rfl) F4167 rfl) F4173 rfl) F4180 rfl) (rW (c := 0) (d := 1) (rR (x := 1)) rfl) h4188 h4206 (rW (c := 0) (d := 1001) (rAdd (e := 1) (f := 1001) h4140 (rR (x := 1)) rfl) rfl) (vc_X6_readBranches_Wx6_7 (nS h4042) h4138 h4140) (((W4208 h4206).2 h4213).2 h4218)
              refine mr_if_eq (pc := 125) (tgt := 138) dX6_readBranches_125 (by decide) (r32 h4193 rfl) (fun h4221 => ?_) (fun h4221 => ?_)
              · have h4222 : 0 ≤ z4191 ∧ z4191 ≤ 0 := (vc_X12_ring_22 h4221 h4193)
                refine sv_aload_n (pc := 138) dX6_readBranches_138 rfl rfl ?_
                refine gf_X6_17 (pc := 139) dX6_readBranches_139 wF_X6_183 (A_23 hw) T4179 fun z4223 q4224 h4225 => ?_
                refine mr_lvS (lv' := [(0, .ref 23), (1, iv p1), (2, iv z2521), (3, jv z2520), (5, jv z2519), (8, iv z2517), (9, iv z4032), (10, jv z4187), (14, iv z4029)]) (List.forall_mem_cons.mpr ⟨rfl, List.forall_mem_cons.mpr ⟨rfl, List.forall_mem_cons.mpr ⟨rfl, List.forall_mem_cons.mpr ⟨rfl, List.forall_mem_cons.mpr ⟨rfl, List.forall_mem_cons.mpr ⟨rfl, List.forall_mem_cons.mpr ⟨rfl, List.forall_mem_cons.mpr ⟨rfl, List.forall_mem_cons.mpr ⟨rfl, fun _ h => absurd h List.not_mem_nil⟩⟩⟩⟩⟩⟩⟩⟩⟩) ?_
                exact J4207 z4223 h4225 ((((W4190 h4188) z4191 q4192 h4193).1 h4221) z4223 q4224 h4225)
              have h4226 : 1 ≤ z4191 ∧ z4191 ≤ 1 := (vc_X12_ring_24 h4221 h4193)
              refine mr_lload (pc := 128) (z := z4030) dX6_readBranches_128 rfl ?_
              refine sv_aload_n (pc := 130) dX6_readBranches_130 rfl rfl ?_
              refine gf_X6_17 (pc := 131) dX6_readBranches_131 wF_X6_183 (A_23 hw) T4179 fun z4227 q4228 h4229 => ?_
              refine mr_lor (pc := 134) dX6_readBranches_134 ?_
              refine mr_genL (r64i _) fun z4230 q4231 h4232 => ?_
              refine sv_goto (pc := 135) (tgt := 142) dX6_readBranches_135 (by decide) ?_
              refine mr_lvS (lv' := [(0, .ref 23), (1, iv p1), (2, iv z2521), (3, jv z2520), (5, jv z2519), (8, iv z2517), (9, iv z4032), (10, jv z4187), (14, iv z4029)]) (List.forall_mem_cons.mpr ⟨rfl, List.forall_mem_cons.mpr ⟨rfl, List.forall_mem_cons.mpr ⟨rfl, List.forall_mem_cons.mpr ⟨rfl, List.forall_mem_cons.mpr ⟨rfl, List.forall_mem_cons.mpr ⟨rfl, List.forall_mem_cons.mpr ⟨rfl, List.forall_mem_cons.mpr ⟨rfl, List.forall_mem_cons.mpr ⟨rfl, fun _ h => absurd h List.not_mem_nil⟩⟩⟩⟩⟩⟩⟩⟩⟩) ?_
              exact J4207 z4230 h4232 (((((W4190 h4188) z4191 q4192 h4193).2 h4221) z4227 q4228 h4229) z4230 q4231)
            refine mr_if_eq (pc := 104) (tgt := 117) dX6_readBranches_104 (by decide) (r32 h4035 rfl) (fun h4233 => ?_) (fun h4233 => ?_)
            · have h4234 : 0 ≤ z4032 ∧ z4032 ≤ 0 := (vc_X12_ring_22 h4233 h4035)
              refine mr_lload (pc := 117) (z := z4031) dX6_readBranches_117 rfl ?_
              refine mr_lvS (lv' := [(0, .ref 23), (1, iv p1), (2, iv z2521), (3, jv z2520), (5, jv z2519), (8, iv z2517), (9, iv z4032), (12, jv z4030), (14, iv z4029)]) (List.forall_mem_cons.mpr ⟨rfl, List.forall_mem_cons.mpr ⟨rfl, List.forall_mem_cons.mpr ⟨rfl, List.forall_mem_cons.mpr ⟨rfl, List.forall_mem_cons.mpr ⟨rfl, List.forall_mem_cons.mpr ⟨rfl, List.forall_mem_cons.mpr ⟨rfl, List.forall_mem_cons.mpr ⟨rfl, List.forall_mem_cons.mpr ⟨rfl, fun _ h => absurd h List.not_mem_nil⟩⟩⟩⟩⟩⟩⟩⟩⟩) ?_
              exact J4189 z4031 h4036 ((h4181.1 T4179 F4180).1 h4233)
            have h4235 : 1 ≤ z4032 ∧ z4032 ≤ 1 := (vc_X12_ring_24 h4233 h4035)
            refine mr_lload (pc := 107) (z := z4031) dX6_readBranches_107 rfl ?_
            refine sv_aload_n (pc := 109) dX6_readBranches_109 rfl rfl ?_
            refine gk_X6_16 (pc := 110) dX6_readBranches_110 wF_X6_179 (A_23 hw) (F4180.f (A_23 hw) rfl q4176) ?_
            refine mr_lor (pc := 113) dX6_readBranches_113 ?_
            refine mr_genL (r64i _) fun z4236 q4237 h4238 => ?_
            refine sv_goto (pc := 114) (tgt := 119) dX6_readBranches_114 (by decide) ?_
            refine mr_lvS (lv' := [(0, .ref 23), (1, iv p1), (2, iv z2521), (3, jv z2520), (5, jv z2519), (8, iv z2517), (9, iv z4032), (12, jv z4030), (14, iv z4029)]) (List.forall_mem_cons.mpr ⟨rfl, List.forall_mem_cons.mpr ⟨rfl, List.forall_mem_cons.mpr ⟨rfl, List.forall_mem_cons.mpr ⟨rfl, List.forall_mem_cons.mpr ⟨rfl, List.forall_mem_cons.mpr ⟨rfl, List.forall_mem_cons.mpr ⟨rfl, List.forall_mem_cons.mpr ⟨rfl, List.forall_mem_cons.mpr ⟨rfl, fun _ h => absurd h List.not_mem_nil⟩⟩⟩⟩⟩⟩⟩⟩⟩) ?_
            exact J4189 z4236 h4238 (((h4181.1 T4179 F4180).2 h4233) z4236 q4237)
          refine mr_icmp_ne (pc := 73) (tgt := 84) dX6_readBranches_73 (by decide) h4146 (r32 (rR (x := 1040)) rfl) (fun h4239 => ?_) (fun h4239 => ?_)
          · refine sv_aload_n (pc := 84) dX6_readBranches_84 rfl rfl ?_
            refine mr_cVV (pc := 85) (c_X6_readPlace_Wx hw T4039 (((h4150.2.1 h4150.1).2 h4153).1 h4239)) (gOk _ _ _ _ _) dX6_readBranches_85 (tX6_readPlace _ _ _ _ _) ⟨wV_X6_readPlace, wL_X6_readPlace⟩ wM_X6_196 (gCX6 _ _ _ _ _) rfl (A_23 hw) rfl ⟨le_t rfl, le_t rfl⟩ ⟨le_t rfl, le_t rfl⟩ rfl (le_t rfl) fun μ4240 T4241 F4242 h4243 => ?_
            exact J4169 μ4240 T4241 (mF.call mF.refl F4242 rfl) (h4243.1 T4241 F4242)
          have h4244 : 1040 ≤ z4144 ∧ z4144 ≤ 1040 := (vc_X6_readBranches_Wx6_19 h4239 h4146)
          refine sv_aload_n (pc := 76) dX6_readBranches_76 rfl rfl ?_
          refine mr_iload_n (pc := 77) (z := p1) dX6_readBranches_77 rfl rfl ?_
          refine mr_cVV (pc := 78) (c_X6_readGroup_Wx4 hw T4039 hp1 (((h4150.2.1 h4150.1).2 h4153).2 h4239)) (gOk _ _ _ _ _) dX6_readBranches_78 (tX6_readGroup _ _ _ _ _) ⟨wV_X6_readGroup, wL_X6_readGroup⟩ wM_X6_193 (gCX6 _ _ _ _ _) rfl (A_23 hw) rfl ⟨le_t rfl, le_t rfl⟩ ⟨le_t rfl, le_t rfl⟩ rfl (le_t rfl) fun μ4245 T4246 F4247 h4248 => ?_
          refine sv_goto (pc := 81) (tgt := 88) dX6_readBranches_81 (by decide) ?_
          exact J4169 μ4245 T4246 (mF.call mF.refl F4247 rfl) (h4248.1 T4246 F4247)
      refine mr_lvS (lv' := [(0, .ref 23), (1, iv p1), (2, iv z2521), (3, jv z2520), (5, jv z2519), (8, iv z2517), (9, iv 1), (10, jv 0), (12, jv 0), (14, iv 0)]) (List.forall_mem_cons.mpr ⟨rfl, List.forall_mem_cons.mpr ⟨rfl, List.forall_mem_cons.mpr ⟨rfl, List.forall_mem_cons.mpr ⟨rfl, List.forall_mem_cons.mpr ⟨rfl, List.forall_mem_cons.mpr ⟨rfl, List.forall_mem_cons.mpr ⟨rfl, List.forall_mem_cons.mpr ⟨rfl, List.forall_mem_cons.mpr ⟨rfl, List.forall_mem_cons.mpr ⟨rfl, fun _ h => absurd h List.not_mem_nil⟩⟩⟩⟩⟩⟩⟩⟩⟩⟩) ?_
      exact L4034 1003 1 0 0 0 μ2522 T2529 mF.refl (rW (c := 0) (d := 1) (rR (x := 1)) rfl) (rW (c := -9223372036854775808) (d := 9223372036854775807) (rR (x := 0)) rfl) (rW (c := -9223372036854775808) (d := 9223372036854775807) (rR (x := 0)) rfl) (rW (c := 0) (d := 1001) (rR (x := 0)) rfl) vc_X6_readBranches_Wx6_20 (((W2533 z2521 z2520 z2519 z2518 z2517 μ2522 rfl h2524 h2525 h2526 h2527 h2528 T2529 F2530).2 h2715).2 h2905)
  refine mr_lvS (lv' := [(0, .ref 23), (1, iv p1), (2, iv 0), (3, jv 0), (5, jv 0), (7, iv 1), (8, iv 0)]) (List.forall_mem_cons.mpr ⟨rfl, List.forall_mem_cons.mpr ⟨rfl, List.forall_mem_cons.mpr ⟨rfl, List.forall_mem_cons.mpr ⟨rfl, List.forall_mem_cons.mpr ⟨rfl, List.forall_mem_cons.mpr ⟨rfl, List.forall_mem_cons.mpr ⟨rfl, fun _ h => absurd h List.not_mem_nil⟩⟩⟩⟩⟩⟩⟩) ?_
  exact L2523 1003 0 0 0 1 0 μ hT mF.refl (rW (c := 0) (d := 1) (rR (x := 0)) rfl) (rW (c := -9223372036854775808) (d := 9223372036854775807) (rR (x := 0)) rfl) (rW (c := -9223372036854775808) (d := 9223372036854775807) (rR (x := 0)) rfl) (rW (c := 0) (d := 1) (rR (x := 1)) rfl) (rW (c := 0) (d := 1001) (rR (x := 0)) rfl) vc_X6_readBranches_Wx6_20 hQ
def WP_X6_readGroup_Wx3 (w : mW) (μ : mM) (p1 : Int) (Q : mM → Prop) : Prop := WP_X6_step_Wx w μ  (fun μ1 => mT w μ1 → mF [23009] w μ μ1 → WP_X6_readBranches_Wx4 w μ1 (p1 + 1) (fun μ5 => mT w μ5 → mF [23009, 23012, 23015, 23016, 23017, 23018, 23019, 28999, 29999] w μ1 μ5 → ∀ z9 : Int, μ5 23 9 = z9 → (0 ≤ z9 ∧ z9 ≤ 1000) → ∀ z12 : Int, μ5 24 (z9.toNat) = z12 → ((-2147483648) ≤ z12 ∧ z12 ≤ 2147483647) → ((z12 = 1041) → WP_X6_step_Wx w μ5  (fun μ17 => mT w μ17 → mF [23009] w μ5 μ17 → Q μ17)) ∧ ((¬ z12 = 1041) → WP_X6_fail_Wx w μ5 (2) (fun μ21 => mT w μ21 → mF [23009, 23018, 23019] w μ5 μ21 → Q μ21))))
theorem vc_X6_readGroup_Wx3_1 {p1 : Int} (h0 : 6 ≤ p1) (h1 : 3 ≤ p1 ∧ p1 ≤ 3) : False := by omega
set_option maxRecDepth 4000 in
set_option maxHeartbeats 4000000 in
theorem c_X6_readGroup_Wx3 {l : Launch} {D : va_G} {c : Nat → ClassId} {H0 : Heap} {sa : Nat × Nat × (Nat → Int32)} {w : mW} {μ : mM} (hw : mWF w) (hT : mT w μ) {p1 : Int} (hp1 : 3 ≤ p1 ∧ p1 ≤ 3) {Q : mM → Prop} (hQ : WP_X6_readGroup_Wx3 w μ p1 Q) : sC (gG l D c H0 sa) mX6_readGroup 8 0 0 [.ref 23, iv p1] (mk w μ) (qV w [23009, 23012, 23015, 23016, 23017, 23018, 23019, 28999, 29999] μ (fun μ1 => Q μ1 ∧ True)) := by
  refine sC.of rfl (by decide) (le_t rfl) ?_
  refine mr_lvE (lv' := [(0, .ref 23), (1, iv p1)]) rfl ?_
  refine mr_iload_n (pc := 0) (z := p1) dX6_readGroup_0 rfl rfl ?_
  refine mr_bipush (pc := 1) (z := 6) dX6_readGroup_1 (by decide) ?_
  refine mr_icmp_lt (pc := 3) (tgt := 12) dX6_readGroup_3 (by decide) (r32 hp1 rfl) (r32 (rR (x := 6)) rfl) (fun _ => ?_) (fun h => ((vc_X6_readGroup_Wx3_1 h hp1)).elim)
  refine sv_aload_n (pc := 12) dX6_readGroup_12 rfl rfl ?_
  refine mr_cVV (pc := 13) (c_X6_step_Wx hw hT hQ) (gOk _ _ _ _ _) dX6_readGroup_13 (tX6_step _ _ _ _ _) ⟨wV_X6_step, wL_X6_step⟩ wM_X6_117 (gCX6 _ _ _ _ _) rfl (A_23 hw) rfl ⟨le_t rfl, le_t rfl⟩ ⟨le_t rfl, le_t rfl⟩ rfl (le_t rfl) fun μ1 T2 F3 h4 => ?_
  refine sv_aload_n (pc := 16) dX6_readGroup_16 rfl rfl ?_
  refine mr_iload_n (pc := 17) (z := p1) dX6_readGroup_17 rfl rfl ?_
  refine mr_iconst (pc := 18) (z := 1) dX6_readGroup_18 ?_
  refine mr_iadd (pc := 19) (x := p1) (y := 1) dX6_readGroup_19 ?_
  refine mr_cVV (pc := 20) (c_X6_readBranches_Wx4 hw T2 (rAdd (e := 4) (f := 4) hp1 (rR (x := 1)) rfl) (h4.1 T2 F3)) (gOk _ _ _ _ _) dX6_readGroup_20 (tX6_readBranches _ _ _ _ _) ⟨wV_X6_readBranches, wL_X6_readBranches⟩ wM_X6_176 (gCX6 _ _ _ _ _) rfl (A_23 hw) rfl ⟨le_t rfl, le_t rfl⟩ ⟨le_t rfl, le_t rfl⟩ rfl (le_t rfl) fun μ5 T6 F7 h8 => ?_
  refine sv_aload_n (pc := 23) dX6_readGroup_23 rfl rfl ?_
  refine gf_X6_0 (pc := 24) dX6_readGroup_24 wF_X6_9 (A_23 hw) T6 ?_
  refine sv_aload_n (pc := 27) dX6_readGroup_27 rfl rfl ?_
  refine gf_X6_9 (pc := 28) dX6_readGroup_28 wF_X6_63 (A_23 hw) T6 fun z9 q10 h11 => ?_
  refine la_24 (pc := 31) dX6_readGroup_31 (A_24 hw) T6 (rIx (n := 1001) h11 rfl) fun z12 q13 h14 => ?_
  refine mr_sipush (pc := 32) (z := 1041) dX6_readGroup_32 (by decide) ?_
  refine mr_icmp_eq (pc := 35) (tgt := 44) dX6_readGroup_35 (by decide) h14 (r32 (rR (x := 1041)) rfl) (fun h15 => ?_) (fun h15 => ?_)
  · have h16 : 1041 ≤ z12 ∧ z12 ≤ 1041 := (vc_X6_readGroup_Wx5_2 h15 h14)
    refine sv_aload_n (pc := 44) dX6_readGroup_44 rfl rfl ?_
    refine mr_cVV (pc := 45) (c_X6_step_Wx hw T6 ((((h8.1 T6 F7) z9 q10 h11) z12 q13 h14).1 h15)) (gOk _ _ _ _ _) dX6_readGroup_45 (tX6_step _ _ _ _ _) ⟨wV_X6_step, wL_X6_step⟩ wM_X6_117 (gCX6 _ _ _ _ _) rfl (A_23 hw) rfl ⟨le_t rfl, le_t rfl⟩ ⟨le_t rfl, le_t rfl⟩ rfl (le_t rfl) fun μ17 T18 F19 h20 => ?_
    exact mr_vret dX6_readGroup_48 rfl (le_t rfl) (le_t rfl) T18 (mF.call (mF.call (mF.call mF.refl F3 rfl) F7 rfl) F19 rfl) ⟨(h20.1 T18 F19), trivial⟩
  refine sv_aload_n (pc := 38) dX6_readGroup_38 rfl rfl ?_
  refine mr_iconst (pc := 39) (z := 2) dX6_readGroup_39 ?_
  refine mr_cVV (pc := 40) (c_X6_fail_Wx hw T6 (rW (c := 1) (d := 4) (rR (x := 2)) rfl) ((((h8.1 T6 F7) z9 q10 h11) z12 q13 h14).2 h15)) (gOk _ _ _ _ _) dX6_readGroup_40 (tX6_fail _ _ _ _ _) ⟨wV_X6_fail, wL_X6_fail⟩ wM_X6_123 (gCX6 _ _ _ _ _) rfl (A_23 hw) rfl ⟨le_t rfl, le_t rfl⟩ ⟨le_t rfl, le_t rfl⟩ rfl (le_t rfl) fun μ21 T22 F23 h24 => ?_
  exact mr_vret dX6_readGroup_43 rfl (le_t rfl) (le_t rfl) T22 (mF.call (mF.call (mF.call mF.refl F3 rfl) F7 rfl) F23 rfl) ⟨(h24.1 T22 F23), trivial⟩
def WJ_X6_readBranches_Wx3_4 (w : mW) (rec1 : (Int × Int × Int × Int × Int × mM) → Prop) (z2520 : Int) (z2519 : Int) (z2517 : Int) (z4031 : Int) (z4030 : Int) (μ4033 : mM) (z4117 : Int) : Prop := (0 ≤ z4117 ∧ z4117 ≤ 1) → ∀ z4121 : Int, lOr z2520 z4031 = z4121 → ∀ z4124 : Int, lOr z2519 z4030 = z4124 → WP_X6_take_Wx w μ4033 (1124) (fun z4131 μ4127 => mT w μ4127 → mF [23009] w μ4033 μ4127 → (0 ≤ z4131 ∧ z4131 ≤ 1) → rec1 (z4117, z4121, z4124, z4131, (z2517 + 1), μ4127))
def WJ_X6_readBranches_Wx3_3 (w : mW) (rec1 : (Int × Int × Int × Int × Int × mM) → Prop) (z2521 : Int) (z2520 : Int) (z2519 : Int) (z2517 : Int) (z4032 : Int) (z4031 : Int) (z4030 : Int) (μ4033 : mM) : Prop := ((¬ z2521 = 0) → (WJ_X6_readBranches_Wx3_4 w rec1 z2520 z2519 z2517 z4031 z4030 μ4033) (1 : Int)) ∧ ((z2521 = 0) → ((z4032 = 0) → (WJ_X6_readBranches_Wx3_4 w rec1 z2520 z2519 z2517 z4031 z4030 μ4033) (0 : Int)) ∧ ((¬ z4032 = 0) → (WJ_X6_readBranches_Wx3_4 w rec1 z2520 z2519 z2517 z4031 z4030 μ4033) (1 : Int)))
def WJ_X6_readBranches_Wx3_7 (rec2 : (Int × Int × Int × Int × mM) → Prop) (z4032 : Int) (z4029 : Int) (μ4178 : mM) (z4187 : Int) (z4191 : Int) (z4205 : Int) : Prop := ((-9223372036854775808) ≤ z4205 ∧ z4205 ≤ 9223372036854775807) → ((z4032 = 0) → rec2 ((0 : Int), z4187, z4205, (z4029 + 1), μ4178)) ∧ ((¬ z4032 = 0) → ((z4191 = 0) → rec2 ((0 : Int), z4187, z4205, (z4029 + 1), μ4178)) ∧ ((¬ z4191 = 0) → rec2 ((1 : Int), z4187, z4205, (z4029 + 1), μ4178)))
def WJ_X6_readBranches_Wx3_6 (rec2 : (Int × Int × Int × Int × mM) → Prop) (z4032 : Int) (z4030 : Int) (z4029 : Int) (μ4178 : mM) (z4187 : Int) : Prop := ((-9223372036854775808) ≤ z4187 ∧ z4187 ≤ 9223372036854775807) → ∀ z4191 : Int, μ4178 23 15 = z4191 → (0 ≤ z4191 ∧ z4191 ≤ 1) → ((z4191 = 0) → ∀ z4223 : Int, μ4178 23 17 = z4223 → ((-9223372036854775808) ≤ z4223 ∧ z4223 ≤ 9223372036854775807) → (WJ_X6_readBranches_Wx3_7 rec2 z4032 z4029 μ4178 z4187 z4191) z4223) ∧ ((¬ z4191 = 0) → ∀ z4227 : Int, μ4178 23 17 = z4227 → ((-9223372036854775808) ≤ z4227 ∧ z4227 ≤ 9223372036854775807) → ∀ z4230 : Int, lOr z4030 z4227 = z4230 → (WJ_X6_readBranches_Wx3_7 rec2 z4032 z4029 μ4178 z4187 z4191) z4230)
def WJ_X6_readBranches_Wx3_5 (w : mW) (rec2 : (Int × Int × Int × Int × mM) → Prop) (z4032 : Int) (z4031 : Int) (z4030 : Int) (z4029 : Int) (μ4033 : mM) (μ4165 : mM) : Prop := mT w μ4165 → mF [23009, 23012, 23015, 23016, 23017, 23018, 23019, 28999, 29999] w μ4033 μ4165 → WP_X6_readRepeat_Wx w μ4165  (fun μ4171 => mT w μ4171 → mF [23009, 23015, 29999] w μ4165 μ4171 → ∀ z4175 : Int, μ4171 23 16 = z4175 → ((-9223372036854775808) ≤ z4175 ∧ z4175 ≤ 9223372036854775807) → WP_X6_join_Wx w μ4171 z4030 z4175 (fun μ4178 => mT w μ4178 → mF [29999] w μ4171 μ4178 → ((z4032 = 0) → (WJ_X6_readBranches_Wx3_6 rec2 z4032 z4030 z4029 μ4178) z4031) ∧ ((¬ z4032 = 0) → ∀ z4236 : Int, lOr z4031 z4175 = z4236 → (WJ_X6_readBranches_Wx3_6 rec2 z4032 z4030 z4029 μ4178) z4236)))
def WL_X6_readBranches_Wx3_2 (w : mW) (p1 : Int) (rec1 : (Int × Int × Int × Int × Int × mM) → Prop) (z2521 : Int) (z2520 : Int) (z2519 : Int) (z2517 : Int) (μ2522 : mM) (rec2 : (Int × Int × Int × Int × mM) → Prop) (s : (Int × Int × Int × Int × mM)) : Prop := ∀ z4032 : Int, ∀ z4031 : Int, ∀ z4030 : Int, ∀ z4029 : Int, ∀ μ4033 : mM, s = (z4032, z4031, z4030, z4029, μ4033) → (0 ≤ z4032 ∧ z4032 ≤ 1) → ((-9223372036854775808) ≤ z4031 ∧ z4031 ≤ 9223372036854775807) → ((-9223372036854775808) ≤ z4030 ∧ z4030 ≤ 9223372036854775807) → (0 ≤ z4029 ∧ z4029 ≤ 1001) → mT w μ4033 → mF [23009, 23012, 23015, 23016, 23017, 23018, 23019, 28999, 29999] w μ2522 μ4033 → ((1000 < z4029) → (WJ_X6_readBranches_Wx3_3 w rec1 z2521 z2520 z2519 z2517 z4032 z4031 z4030 μ4033) ) ∧ ((z4029 ≤ 1000) → ∀ z4141 : Int, μ4033 23 9 = z4141 → (0 ≤ z4141 ∧ z4141 ≤ 1000) → ∀ z4144 : Int, μ4033 24 (z4141.toNat) = z4144 → ((-2147483648) ≤ z4144 ∧ z4144 ≤ 2147483647) → WP_X6_beginsPiece_Wx w μ4033 z4144 (fun z4151 _ => (0 ≤ z4151 ∧ z4151 ≤ 1) → ((z4151 = 0) → (WJ_X6_readBranches_Wx3_3 w rec1 z2521 z2520 z2519 z2517 z4032 z4031 z4030 μ4033) ) ∧ ((¬ z4151 = 0) → ((¬ z4144 = 1040) → WP_X6_readPlace_Wx w μ4033  (fun μ4240 => mT w μ4240 → mF [23009, 23012, 23015, 23016, 23017, 23018, 23019, 28999, 29999] w μ4033 μ4240 → (WJ_X6_readBranches_Wx3_5 w rec2 z4032 z4031 z4030 z4029 μ4033) μ4240)) ∧ ((z4144 = 1040) → WP_X6_readGroup_Wx3 w μ4033 p1 (fun μ4245 => mT w μ4245 → mF [23009, 23012, 23015, 23016, 23017, 23018, 23019, 28999, 29999] w μ4033 μ4245 → (WJ_X6_readBranches_Wx3_5 w rec2 z4032 z4031 z4030 z4029 μ4033) μ4245)))))
def WL_X6_readBranches_Wx3_1 (w : mW) (μ : mM) (p1 : Int) (Q : mM → Prop) (rec1 : (Int × Int × Int × Int × Int × mM) → Prop) (s : (Int × Int × Int × Int × Int × mM)) : Prop := ∀ z2521 : Int, ∀ z2520 : Int, ∀ z2519 : Int, ∀ z2518 : Int, ∀ z2517 : Int, ∀ μ2522 : mM, s = (z2521, z2520, z2519, z2518, z2517, μ2522) → (0 ≤ z2521 ∧ z2521 ≤ 1) → ((-9223372036854775808) ≤ z2520 ∧ z2520 ≤ 9223372036854775807) → ((-9223372036854775808) ≤ z2519 ∧ z2519 ≤ 9223372036854775807) → (0 ≤ z2518 ∧ z2518 ≤ 1) → (0 ≤ z2517 ∧ z2517 ≤ 1001) → mT w μ2522 → mF [23009, 23012, 23015, 23016, 23017, 23018, 23019, 28999, 29999] w μ μ2522 → ((1000 < z2517) → ∀ μ2717 : mM, mU μ2522 23 (15) z2521 μ2717 → mT w μ2717 → ∀ μ2720 : mM, mU μ2717 23 (16) z2520 μ2720 → mT w μ2720 → ∀ μ2723 : mM, mU μ2720 23 (17) z2519 μ2723 → mT w μ2723 → Q μ2723) ∧ ((z2517 ≤ 1000) → ((z2518 = 0) → ∀ μ2907 : mM, mU μ2522 23 (15) z2521 μ2907 → mT w μ2907 → ∀ μ2910 : mM, mU μ2907 23 (16) z2520 μ2910 → mT w μ2910 → ∀ μ2913 : mM, mU μ2910 23 (17) z2519 μ2913 → mT w μ2913 → Q μ2913) ∧ ((¬ z2518 = 0) → loopF (WL_X6_readBranches_Wx3_2 w p1 rec1 z2521 z2520 z2519 z2517 μ2522) False 1003 ((1 : Int), (0 : Int), (0 : Int), (0 : Int), μ2522)))
def WP_X6_readBranches_Wx3 (w : mW) (μ : mM) (p1 : Int) (Q : mM → Prop) : Prop := loopF (WL_X6_readBranches_Wx3_1 w μ p1 Q) False 1003 ((0 : Int), (0 : Int), (0 : Int), (1 : Int), (0 : Int), μ)
set_option maxRecDepth 4000 in
set_option maxHeartbeats 4000000 in
theorem c_X6_readBranches_Wx3 {l : Launch} {D : va_G} {c : Nat → ClassId} {H0 : Heap} {sa : Nat × Nat × (Nat → Int32)} {w : mW} {μ : mM} (hw : mWF w) (hT : mT w μ) {p1 : Int} (hp1 : 3 ≤ p1 ∧ p1 ≤ 3) {Q : mM → Prop} (hQ : WP_X6_readBranches_Wx3 w μ p1 Q) : sC (gG l D c H0 sa) mX6_readBranches 9 0 0 [.ref 23, iv p1] (mk w μ) (qV w [23009, 23012, 23015, 23016, 23017, 23018, 23019, 28999, 29999] μ (fun μ1 => Q μ1 ∧ True)) := by
  refine sC.of rfl (by decide) (le_t rfl) ?_
  refine mr_lvE (lv' := [(0, .ref 23), (1, iv p1)]) rfl ?_
  refine mr_iconst (pc := 0) (z := 0) dX6_readBranches_0 ?_
  refine mr_istore_n (pc := 1) (lv' := [(2, iv 0), (0, .ref 23), (1, iv p1)]) dX6_readBranches_1 rfl (by decide) rfl ?_
  refine mr_lconst (pc := 2) (z := 0) dX6_readBranches_2 (by decide) ?_
  refine mr_lstore_n (pc := 3) (lv' := [(3, jv 0), (2, iv 0), (0, .ref 23), (1, iv p1)]) dX6_readBranches_3 rfl (by decide) rfl ?_
  refine mr_lconst (pc := 4) (z := 0) dX6_readBranches_4 (by decide) ?_
  refine mr_lstore (pc := 5) (lv' := [(5, jv 0), (3, jv 0), (2, iv 0), (0, .ref 23), (1, iv p1)]) dX6_readBranches_5 (by decide) rfl ?_
  refine mr_iconst (pc := 7) (z := 1) dX6_readBranches_7 ?_
  refine mr_istore (pc := 8) (lv' := [(7, iv 1), (5, jv 0), (3, jv 0), (2, iv 0), (0, .ref 23), (1, iv p1)]) dX6_readBranches_8 (by decide) rfl ?_
  refine mr_iconst (pc := 10) (z := 0) dX6_readBranches_10 ?_
  refine mr_istore (pc := 11) (lv' := [(8, iv 0), (7, iv 1), (5, jv 0), (3, jv 0), (2, iv 0), (0, .ref 23), (1, iv p1)]) dX6_readBranches_11 (by decide) rfl ?_
  have L2523 : ∀ (nL2523 : Nat) (z2521 z2520 z2519 z2518 z2517 : Int) (μ2522 : mM), mT w μ2522 → mF [23009, 23012, 23015, 23016, 23017, 23018, 23019, 28999, 29999] w μ μ2522 → (0 ≤ z2521 ∧ z2521 ≤ 1) → ((-9223372036854775808) ≤ z2520 ∧ z2520 ≤ 9223372036854775807) → ((-9223372036854775808) ≤ z2519 ∧ z2519 ≤ 9223372036854775807) → (0 ≤ z2518 ∧ z2518 ≤ 1) → (0 ≤ z2517 ∧ z2517 ≤ 1001) → (1002 - z2517) < (nL2523 : Int) → loopF (WL_X6_readBranches_Wx3_1 w μ p1 Q) False nL2523 (z2521, z2520, z2519, z2518, z2517, μ2522) → sV (gG l D c H0 sa) mX6_readBranches (sRm 9 0 0) (sZ (gG l D c H0 sa) 0 0 (qV w [23009, 23012, 23015, 23016, 23017, 23018, 23019, 28999, 29999] μ (fun μ1 => Q μ1 ∧ True))) 13 [(0, .ref 23), (1, iv p1), (2, iv z2521), (3, jv z2520), (5, jv z2519), (7, iv z2518), (8, iv z2517)] [] (mk w μ2522) 0 0 := by
    intro nL2523
    induction nL2523 with
    | zero => intro z2521 z2520 z2519 z2518 z2517 μ2522 T2529 F2530 h2524 h2525 h2526 h2527 h2528 h2532 W2533; exact ((vc_X6_readBranches_Wx6_1 h2532 h2528)).elim
    | succ nL2523 ih2534 =>
      intro z2521 z2520 z2519 z2518 z2517 μ2522 T2529 F2530 h2524 h2525 h2526 h2527 h2528 h2532 W2533
      refine mr_iload (pc := 13) (z := z2517) dX6_readBranches_13 rfl ?_
      refine mr_sipush (pc := 15) (z := 1000) dX6_readBranches_15 (by decide) ?_
      refine mr_icmp_gt (pc := 18) (tgt := 211) dX6_readBranches_18 (by decide) (r32 h2528 rfl) (r32 (rR (x := 1000)) rfl) (fun h2715 => ?_) (fun h2715 => ?_)
      · have h2716 : 1001 ≤ z2517 ∧ z2517 ≤ 1001 := (vc_X6_readBranches_Wx6_2 h2715 h2528)
        refine sv_aload_n (pc := 211) dX6_readBranches_211 rfl rfl ?_
        refine mr_iload_n (pc := 212) (z := z2521) dX6_readBranches_212 rfl rfl ?_
        refine pf_X6_15 (pc := 213) dX6_readBranches_213 wF_X6_186 (A_23 hw) T2529 h2524 fun μ2717 u2718 T2719 => ?_
        refine sv_aload_n (pc := 216) dX6_readBranches_216 rfl rfl ?_
        refine mr_lload_n (pc := 217) (z := z2520) dX6_readBranches_217 rfl rfl ?_
        refine pf_X6_16 (pc := 218) dX6_readBranches_218 wF_X6_179 (A_23 hw) T2719 h2525 fun μ2720 u2721 T2722 => ?_
        refine sv_aload_n (pc := 221) dX6_readBranches_221 rfl rfl ?_
        refine mr_lload (pc := 222) (z := z2519) dX6_readBranches_222 rfl ?_
        refine pf_X6_17 (pc := 224) dX6_readBranches_224 wF_X6_183 (A_23 hw) T2722 h2526 fun μ2723 u2724 T2725 => ?_
        exact mr_vret dX6_readBranches_227 rfl (le_t rfl) (le_t rfl) T2725 (mF.up (mF.up (mF.up (mF.call mF.refl F2530 rfl) (A_23 hw) u2718 rfl) (A_23 hw) u2721 rfl) (A_23 hw) u2724 rfl) ⟨(((((W2533 z2521 z2520 z2519 z2518 z2517 μ2522 rfl h2524 h2525 h2526 h2527 h2528 T2529 F2530).1 h2715) μ2717 u2718 T2719) μ2720 u2721 T2722) μ2723 u2724 T2725), trivial⟩
      have h2726 : 0 ≤ z2517 ∧ z2517 ≤ 1000 := (vc_X6_readBranches_Wx6_3 h2715 h2528)
      refine mr_iload (pc := 21) (z := z2518) dX6_readBranches_21 rfl ?_
      refine mr_if_eq (pc := 23) (tgt := 211) dX6_readBranches_23 (by decide) (r32 h2527 rfl) (fun h2905 => ?_) (fun h2905 => ?_)
      · have h2906 : 0 ≤ z2518 ∧ z2518 ≤ 0 := (vc_X12_ring_22 h2905 h2527)
        refine sv_aload_n (pc := 211) dX6_readBranches_211 rfl rfl ?_
        refine mr_iload_n (pc := 212) (z := z2521) dX6_readBranches_212 rfl rfl ?_
        refine pf_X6_15 (pc := 213) dX6_readBranches_213 wF_X6_186 (A_23 hw) T2529 h2524 fun μ2907 u2908 T2909 => ?_
        refine sv_aload_n (pc := 216) dX6_readBranches_216 rfl rfl ?_
        refine mr_lload_n (pc := 217) (z := z2520) dX6_readBranches_217 rfl rfl ?_
        refine pf_X6_16 (pc := 218) dX6_readBranches_218 wF_X6_179 (A_23 hw) T2909 h2525 fun μ2910 u2911 T2912 => ?_
        refine sv_aload_n (pc := 221) dX6_readBranches_221 rfl rfl ?_
        refine mr_lload (pc := 222) (z := z2519) dX6_readBranches_222 rfl ?_
        refine pf_X6_17 (pc := 224) dX6_readBranches_224 wF_X6_183 (A_23 hw) T2912 h2526 fun μ2913 u2914 T2915 => ?_
        exact mr_vret dX6_readBranches_227 rfl (le_t rfl) (le_t rfl) T2915 (mF.up (mF.up (mF.up (mF.call mF.refl F2530 rfl) (A_23 hw) u2908 rfl) (A_23 hw) u2911 rfl) (A_23 hw) u2914 rfl) ⟨((((((W2533 z2521 z2520 z2519 z2518 z2517 μ2522 rfl h2524 h2525 h2526 h2527 h2528 T2529 F2530).2 h2715).1 h2905) μ2907 u2908 T2909) μ2910 u2911 T2912) μ2913 u2914 T2915), trivial⟩
      have h2916 : 1 ≤ z2518 ∧ z2518 ≤ 1 := (vc_X12_ring_24 h2905 h2527)
      refine mr_iconst (pc := 26) (z := 1) dX6_readBranches_26 ?_
      refine mr_istore (pc := 27) (lv' := [(9, iv 1), (0, .ref 23), (1, iv p1), (2, iv z2521), (3, jv z2520), (5, jv z2519), (7, iv z2518), (8, iv z2517)]) dX6_readBranches_27 (by decide) rfl ?_
      refine mr_lconst (pc := 29) (z := 0) dX6_readBranches_29 (by decide) ?_
      refine mr_lstore (pc := 30) (lv' := [(10, jv 0), (9, iv 1), (0, .ref 23), (1, iv p1), (2, iv z2521), (3, jv z2520), (5, jv z2519), (7, iv z2518), (8, iv z2517)]) dX6_readBranches_30 (by decide) rfl ?_
      refine mr_lconst (pc := 32) (z := 0) dX6_readBranches_32 (by decide) ?_
      refine mr_lstore (pc := 33) (lv' := [(12, jv 0), (10, jv 0), (9, iv 1), (0, .ref 23), (1, iv p1), (2, iv z2521), (3, jv z2520), (5, jv z2519), (7, iv z2518), (8, iv z2517)]) dX6_readBranches_33 (by decide) rfl ?_
      refine mr_iconst (pc := 35) (z := 0) dX6_readBranches_35 ?_
      refine mr_istore (pc := 36) (lv' := [(14, iv 0), (12, jv 0), (10, jv 0), (9, iv 1), (0, .ref 23), (1, iv p1), (2, iv z2521), (3, jv z2520), (5, jv z2519), (7, iv z2518), (8, iv z2517)]) dX6_readBranches_36 (by decide) rfl ?_
      have L4034 : ∀ (nL4034 : Nat) (z4032 z4031 z4030 z4029 : Int) (μ4033 : mM), mT w μ4033 → mF [23009, 23012, 23015, 23016, 23017, 23018, 23019, 28999, 29999] w μ2522 μ4033 → (0 ≤ z4032 ∧ z4032 ≤ 1) → ((-9223372036854775808) ≤ z4031 ∧ z4031 ≤ 9223372036854775807) → ((-9223372036854775808) ≤ z4030 ∧ z4030 ≤ 9223372036854775807) → (0 ≤ z4029 ∧ z4029 ≤ 1001) → (1002 - z4029) < (nL4034 : Int) → loopF (WL_X6_readBranches_Wx3_2 w p1 (loopF (WL_X6_readBranches_Wx3_1 w μ p1 Q) False nL2523) z2521 z2520 z2519 z2517 μ2522) False nL4034 (z4032, z4031, z4030, z4029, μ4033) → sV (gG l D c H0 sa) mX6_readBranches (sRm 9 0 0) (sZ (gG l D c H0 sa) 0 0 (qV w [23009, 23012, 23015, 23016, 23017, 23018, 23019, 28999, 29999] μ (fun μ1 => Q μ1 ∧ True))) 38 [(0, .ref 23), (1, iv p1), (2, iv z2521), (3, jv z2520), (5, jv z2519), (8, iv z2517), (9, iv z4032), (10, jv z4031), (12, jv z4030), (14, iv z4029)] [] (mk w μ4033) 0 0 := by
        intro nL4034
        induction nL4034 with
        | zero => intro z4032 z4031 z4030 z4029 μ4033 T4039 F4040 h4035 h4036 h4037 h4038 h4042 W4043; exact ((vc_X6_readBranches_Wx6_1 h4042 h4038)).elim
        | succ nL4034 ih4044 =>
          intro z4032 z4031 z4030 z4029 μ4033 T4039 F4040 h4035 h4036 h4037 h4038 h4042 W4043
          refine mr_iload (pc := 38) (z := z4029) dX6_readBranches_38 rfl ?_
          refine mr_sipush (pc := 40) (z := 1000) dX6_readBranches_40 (by decide) ?_
          have J4111 : ((WJ_X6_readBranches_Wx3_3 w (loopF (WL_X6_readBranches_Wx3_1 w μ p1 Q) False nL2523) z2521 z2520 z2519 z2517 z4032 z4031 z4030 μ4033) ) → sV (gG l D c H0 sa) mX6_readBranches (sRm 9 0 0) (sZ (gG l D c H0 sa) 0 0 (qV w [23009, 23012, 23015, 23016, 23017, 23018, 23019, 28999, 29999] μ (fun μ1 => Q μ1 ∧ True))) 169 [(0, .ref 23), (1, iv p1), (2, iv z2521), (3, jv z2520), (5, jv z2519), (8, iv z2517), (9, iv z4032), (10, jv z4031), (12, jv z4030)] [] (mk w μ4033) 0 0 := by
            intro W4112
            refine mr_iload_n (pc := 169) (z := z2521) dX6_readBranches_169 rfl rfl ?_
            have J4119 : ∀ (z4117 : Int), ((0 ≤ z4117 ∧ z4117 ≤ 1)) → ((WJ_X6_readBranches_Wx3_4 w (loopF (WL_X6_readBranches_Wx3_1 w μ p1 Q) False nL2523) z2520 z2519 z2517 z4031 z4030 μ4033) z4117) → sV (gG l D c H0 sa) mX6_readBranches (sRm 9 0 0) (sZ (gG l D c H0 sa) 0 0 (qV w [23009, 23012, 23015, 23016, 23017, 23018, 23019, 28999, 29999] μ (fun μ1 => Q μ1 ∧ True))) 183 [(0, .ref 23), (1, iv p1), (3, jv z2520), (5, jv z2519), (8, iv z2517), (10, jv z4031), (12, jv z4030)] [iv z4117] (mk w μ4033) 0 0 := by
              intro z4117 h4118 W4120
              refine mr_istore_n (pc := 183) (lv' := [(2, iv z4117), (0, .ref 23), (1, iv p1), (3, jv z2520), (5, jv z2519), (8, iv z2517), (10, jv z4031), (12, jv z4030)]) dX6_readBranches_183 rfl (by decide) rfl ?_
              refine mr_lload_n (pc := 184) (z := z2520) dX6_readBranches_184 rfl rfl ?_
              refine mr_lload (pc := 185) (z := z4031) dX6_readBranches_185 rfl ?_
              refine mr_lor (pc := 187) dX6_readBranches_187 ?_
              refine mr_genL (r64i _) fun z4121 q4122 h4123 => ?_
              refine mr_lstore_n (pc := 188) (lv' := [(3, jv z4121), (2, iv z4117), (0, .ref 23), (1, iv p1), (5, jv z2519), (8, iv z2517), (10, jv z4031), (12, jv z4030)]) dX6_readBranches_188 rfl (by decide) rfl ?_
              refine mr_lload (pc := 189) (z := z2519) dX6_readBranches_189 rfl ?_
              refine mr_lload (pc := 191) (z := z4030) dX6_readBranches_191 rfl ?_
              refine mr_lor (pc := 193) dX6_readBranches_193 ?_
              refine mr_genL (r64i _) fun z4124 q4125 h4126 => ?_
              refine mr_lstore (pc := 194) (lv' := [(5, jv z4124), (3, jv z4121), (2, iv z4117), (0, .ref 23), (1, iv p1), (8, iv z2517), (10, jv z4031), (12, jv z4030)]) dX6_readBranches_194 (by decide) rfl ?_
              refine sv_aload_n (pc := 196) dX6_readBranches_196 rfl rfl ?_
              refine mr_sipush (pc := 197) (z := 1124) dX6_readBranches_197 (by decide) ?_
              refine mr_cVI (pc := 200) (c_X6_take_Wx hw T4039 (rW (c := (-2147483648)) (d := 2147483647) (rR (x := 1124)) rfl) (((W4120 h4118) z4121 q4122) z4124 q4125)) (gOk _ _ _ _ _) dX6_readBranches_200 (tX6_take _ _ _ _ _) ⟨wV_X6_take, wL_X6_take⟩ wM_X6_120 (gCX6 _ _ _ _ _) rfl (A_23 hw) rfl ⟨le_t rfl, le_t rfl⟩ ⟨le_t rfl, le_t rfl⟩ rfl (le_t rfl) fun z4131 μ4127 T4128 F4129 h4130 => ?_
              refine mr_istore (pc := 203) (lv' := [(7, iv z4131), (5, jv z4124), (3, jv z4121), (2, iv z4117), (0, .ref 23), (1, iv p1), (8, iv z2517), (10, jv z4031), (12, jv z4030)]) dX6_readBranches_203 (by decide) rfl ?_
              refine mr_iinc (pc := 205) (lv' := [(8, iv (z2517 + 1)), (7, iv z4131), (5, jv z4124), (3, jv z4121), (2, iv z4117), (0, .ref 23), (1, iv p1), (10, jv z4031), (12, jv z4030)]) dX6_readBranches_205 rfl (by decide) rfl ?_
              refine sv_goto (pc := 208) (tgt := 13) dX6_readBranches_208 (by decide) ?_
              refine mr_lvS (lv' := [(0, .ref 23), (1, iv p1), (2, iv z4117), (3, jv z4121), (5, jv z4124), (7, iv z4131), (8, iv (z2517 + 1))]) (List.forall_mem_cons.mpr ⟨rfl, List.forall_mem_cons.mpr ⟨rfl, List.forall_mem_cons.mpr ⟨rfl, List.forall_mem_cons.mpr ⟨rfl, List.forall_mem_cons.mpr ⟨rfl, List.forall_mem_cons.mpr ⟨rfl, List.forall_mem_cons.mpr ⟨rfl, fun _ h => absurd h List.not_mem_nil⟩⟩⟩⟩⟩⟩⟩) ?_
              exact ih2534 z4117 z4121 z4124 z4131 (z2517 + 1) μ4127 T4128 (mF.call (mF.call (mF.call mF.refl F2530 rfl) F4040 rfl) F4129 rfl) h4118 h4123 h4126 h4130.1 (rW (c := 0) (d := 1001) (rAdd (e := 1) (f := 1001) h2726 (rR (x := 1)) rfl) rfl) (vc_X6_readBranches_Wx6_7 (nS h2532) h2715 h2726) ((h4130.2.1 T4128 F4129) h4130.1)
            refine mr_if_ne (pc := 170) (tgt := 178) dX6_readBranches_170 (by decide) (r32 h2524 rfl) (fun h4132 => ?_) (fun h4132 => ?_)
            · have h4133 : 1 ≤ z2521 ∧ z2521 ≤ 1 := (vc_X12_ring_24 h4132 h2524)
              refine mr_iconst (pc := 178) (z := 1) dX6_readBranches_178 ?_
              refine sv_goto (pc := 179) (tgt := 183) dX6_readBranches_179 (by decide) ?_
              refine mr_lvS (lv' := [(0, .ref 23), (1, iv p1), (3, jv z2520), (5, jv z2519), (8, iv z2517), (10, jv z4031), (12, jv z4030)]) (List.forall_mem_cons.mpr ⟨rfl, List.forall_mem_cons.mpr ⟨rfl, List.forall_mem_cons.mpr ⟨rfl, List.forall_mem_cons.mpr ⟨rfl, List.forall_mem_cons.mpr ⟨rfl, List.forall_mem_cons.mpr ⟨rfl, List.forall_mem_cons.mpr ⟨rfl, fun _ h => absurd h List.not_mem_nil⟩⟩⟩⟩⟩⟩⟩) ?_
              exact J4119 1 (rW (c := 0) (d := 1) (rR (x := 1)) rfl) ((W4112).1 h4132)
            have h4134 : 0 ≤ z2521 ∧ z2521 ≤ 0 := (vc_X12_ring_22 h4132 h2524)
            refine mr_iload (pc := 173) (z := z4032) dX6_readBranches_173 rfl ?_
            refine mr_if_eq (pc := 175) (tgt := 182) dX6_readBranches_175 (by decide) (r32 h4035 rfl) (fun h4135 => ?_) (fun h4135 => ?_)
            · have h4136 : 0 ≤ z4032 ∧ z4032 ≤ 0 := (vc_X12_ring_22 h4135 h4035)
              refine mr_iconst (pc := 182) (z := 0) dX6_readBranches_182 ?_
              refine mr_lvS (lv' := [(0, .ref 23), (1, iv p1), (3, jv z2520), (5, jv z2519), (8, iv z2517), (10, jv z4031), (12, jv z4030)]) (List.forall_mem_cons.mpr ⟨rfl, List.forall_mem_cons.mpr ⟨rfl, List.forall_mem_cons.mpr ⟨rfl, List.forall_mem_cons.mpr ⟨rfl, List.forall_mem_cons.mpr ⟨rfl, List.forall_mem_cons.mpr ⟨rfl, List.forall_mem_cons.mpr ⟨rfl, fun _ h => absurd h List.not_mem_nil⟩⟩⟩⟩⟩⟩⟩) ?_
              exact J4119 0 (rW (c := 0) (d := 1) (rR (x := 0)) rfl) (((W4112).2 h4132).1 h4135)
            have h4137 : 1 ≤ z4032 ∧ z4032 ≤ 1 := (vc_X12_ring_24 h4135 h4035)
            refine mr_iconst (pc := 178) (z := 1) dX6_readBranches_178 ?_
            refine sv_goto (pc := 179) (tgt := 183) dX6_readBranches_179 (by decide) ?_
            refine mr_lvS (lv' := [(0, .ref 23), (1, iv p1), (3, jv z2520), (5, jv z2519), (8, iv z2517), (10, jv z4031), (12, jv z4030)]) (List.forall_mem_cons.mpr ⟨rfl, List.forall_mem_cons.mpr ⟨rfl, List.forall_mem_cons.mpr ⟨rfl, List.forall_mem_cons.mpr ⟨rfl, List.forall_mem_cons.mpr ⟨rfl, List.forall_mem_cons.mpr ⟨rfl, List.forall_mem_cons.mpr ⟨rfl, fun _ h => absurd h List.not_mem_nil⟩⟩⟩⟩⟩⟩⟩) ?_
            exact J4119 1 (rW (c := 0) (d := 1) (rR (x := 1)) rfl) (((W4112).2 h4132).2 h4135)
          refine mr_icmp_gt (pc := 43) (tgt := 169) dX6_readBranches_43 (by decide) (r32 h4038 rfl) (r32 (rR (x := 1000)) rfl) (fun h4138 => ?_) (fun h4138 => ?_)
          · have h4139 : 1001 ≤ z4029 ∧ z4029 ≤ 1001 := (vc_X6_readBranches_Wx6_2 h4138 h4038)
            refine mr_lvS (lv' := [(0, .ref 23), (1, iv p1), (2, iv z2521), (3, jv z2520), (5, jv z2519), (8, iv z2517), (9, iv z4032), (10, jv z4031), (12, jv z4030)]) (List.forall_mem_cons.mpr ⟨rfl, List.forall_mem_cons.mpr ⟨rfl, List.forall_mem_cons.mpr ⟨rfl, List.forall_mem_cons.mpr ⟨rfl, List.forall_mem_cons.mpr ⟨rfl, List.forall_mem_cons.mpr ⟨rfl, List.forall_mem_cons.mpr ⟨rfl, List.forall_mem_cons.mpr ⟨rfl, List.forall_mem_cons.mpr ⟨rfl, fun _ h => absurd h List.not_mem_nil⟩⟩⟩⟩⟩⟩⟩⟩⟩) ?_
            exact J4111 ((W4043 z4032 z4031 z4030 z4029 μ4033 rfl h4035 h4036 h4037 h4038 T4039 F4040).1 h4138)
          have h4140 : 0 ≤ z4029 ∧ z4029 ≤ 1000 := (vc_X6_readBranches_Wx6_3 h4138 h4038)
          refine sv_aload_n (pc := 46) dX6_readBranches_46 rfl rfl ?_
          refine gf_X6_0 (pc := 47) dX6_readBranches_47 wF_X6_9 (A_23 hw) T4039 ?_
          refine sv_aload_n (pc := 50) dX6_readBranches_50 rfl rfl ?_
          refine gf_X6_9 (pc := 51) dX6_readBranches_51 wF_X6_63 (A_23 hw) T4039 fun z4141 q4142 h4143 => ?_
          refine la_24 (pc := 54) dX6_readBranches_54 (A_24 hw) T4039 (rIx (n := 1001) h4143 rfl) fun z4144 q4145 h4146 => ?_
          have W4152 := ((((W4043 z4032 z4031 z4030 z4029 μ4033 rfl h4035 h4036 h4037 h4038 T4039 F4040).2 h4138) z4141 q4142 h4143) z4144 q4145 h4146)
          refine mr_cSP (pc := 55) (c_X6_beginsPiece_Wx hw T4039 h4146 W4152) (gOk _ _ _ _ _) dX6_readBranches_55 (tX6_beginsPiece _ _ _ _ _) wS_X6_beginsPiece wM_X6_190 ⟨le_t rfl, le_t rfl⟩ ⟨le_t rfl, le_t rfl⟩ rfl (le_t rfl) fun z4151 h4150 => ?_
          refine mr_if_eq (pc := 58) (tgt := 169) dX6_readBranches_58 (by decide) (r32 h4150.1 rfl) (fun h4153 => ?_) (fun h4153 => ?_)
          · have h4154 : 0 ≤ z4151 ∧ z4151 ≤ 0 := (vc_X12_ring_22 h4153 h4150.1)
            refine mr_lvS (lv' := [(0, .ref 23), (1, iv p1), (2, iv z2521), (3, jv z2520), (5, jv z2519), (8, iv z2517), (9, iv z4032), (10, jv z4031), (12, jv z4030)]) (List.forall_mem_cons.mpr ⟨rfl, List.forall_mem_cons.mpr ⟨rfl, List.forall_mem_cons.mpr ⟨rfl, List.forall_mem_cons.mpr ⟨rfl, List.forall_mem_cons.mpr ⟨rfl, List.forall_mem_cons.mpr ⟨rfl, List.forall_mem_cons.mpr ⟨rfl, List.forall_mem_cons.mpr ⟨rfl, List.forall_mem_cons.mpr ⟨rfl, fun _ h => absurd h List.not_mem_nil⟩⟩⟩⟩⟩⟩⟩⟩⟩) ?_
            exact J4111 ((h4150.2.1 h4150.1).1 h4153)
          have h4155 : 1 ≤ z4151 ∧ z4151 ≤ 1 := (vc_X12_ring_24 h4153 h4150.1)
          refine sv_aload_n (pc := 61) dX6_readBranches_61 rfl rfl ?_
          refine gf_X6_0 (pc := 62) dX6_readBranches_62 wF_X6_9 (A_23 hw) T4039 ?_
          refine sv_aload_n (pc := 65) dX6_readBranches_65 rfl rfl ?_
          refine gk_X6_9 (pc := 66) dX6_readBranches_66 wF_X6_63 (A_23 hw) q4142 ?_
          refine lk_24 (pc := 69) dX6_readBranches_69 (A_24 hw) (rIx (n := 1001) h4143 rfl) q4145 ?_
          refine mr_sipush (pc := 70) (z := 1040) dX6_readBranches_70 (by decide) ?_
          have J4169 : ∀ (μ4165 : mM), (mT w μ4165) → (mF [23009, 23012, 23015, 23016, 23017, 23018, 23019, 28999, 29999] w μ4033 μ4165) → ((WJ_X6_readBranches_Wx3_5 w (loopF (WL_X6_readBranches_Wx3_2 w p1 (loopF (WL_X6_readBranches_Wx3_1 w μ p1 Q) False nL2523) z2521 z2520 z2519 z2517 μ2522) False nL4034) z4032 z4031 z4030 z4029 μ4033) μ4165) → sV (gG l D c H0 sa) mX6_readBranches (sRm 9 0 0) (sZ (gG l D c H0 sa) 0 0 (qV w [23009, 23012, 23015, 23016, 23017, 23018, 23019, 28999, 29999] μ (fun μ1 => Q μ1 ∧ True))) 88 [(0, .ref 23), (1, iv p1), (2, iv z2521), (3, jv z2520), (5, jv z2519), (8, iv z2517), (9, iv z4032), (10, jv z4031), (12, jv z4030), (14, iv z4029)] [] (mk w μ4165) 0 0 := by
            intro μ4165 T4166 F4167 W4170
            refine sv_aload_n (pc := 88) dX6_readBranches_88 rfl rfl ?_
            refine mr_cVV (pc := 89) (c_X6_readRepeat_Wx hw T4166 (W4170 T4166 F4167)) (gOk _ _ _ _ _) dX6_readBranches_89 (tX6_readRepeat _ _ _ _ _) ⟨wV_X6_readRepeat, wL_X6_readRepeat⟩ wM_X6_199 (gCX6 _ _ _ _ _) rfl (A_23 hw) rfl ⟨le_t rfl, le_t rfl⟩ ⟨le_t rfl, le_t rfl⟩ rfl (le_t rfl) fun μ4171 T4172 F4173 h4174 => ?_
            refine sv_aload_n (pc := 92) dX6_readBranches_92 rfl rfl ?_
            refine mr_lload (pc := 93) (z := z4030) dX6_readBranches_93 rfl ?_
            refine sv_aload_n (pc := 95) dX6_readBranches_95 rfl rfl ?_
            refine gf_X6_16 (pc := 96) dX6_readBranches_96 wF_X6_179 (A_23 hw) T4172 fun z4175 q4176 h4177 => ?_
            refine mr_cVV (pc := 99) (c_X6_join_Wx hw T4172 h4037 h4177 ((h4174.1 T4172 F4173) z4175 q4176 h4177)) (gOk _ _ _ _ _) dX6_readBranches_99 (tX6_join _ _ _ _ _) ⟨wV_X6_join, wL_X6_join⟩ wM_X6_202 (gCX6 _ _ _ _ _) rfl (A_23 hw) rfl ⟨le_t rfl, le_t rfl⟩ ⟨le_t rfl, le_t rfl⟩ rfl (le_t rfl) fun μ4178 T4179 F4180 h4181 => ?_
            refine mr_iload (pc := 102) (z := z4032) dX6_readBranches_102 rfl ?_
            have J4189 : ∀ (z4187 : Int), (((-9223372036854775808) ≤ z4187 ∧ z4187 ≤ 9223372036854775807)) → ((WJ_X6_readBranches_Wx3_6 (loopF (WL_X6_readBranches_Wx3_2 w p1 (loopF (WL_X6_readBranches_Wx3_1 w μ p1 Q) False nL2523) z2521 z2520 z2519 z2517 μ2522) False nL4034) z4032 z4030 z4029 μ4178) z4187) → sV (gG l D c H0 sa) mX6_readBranches (sRm 9 0 0) (sZ (gG l D c H0 sa) 0 0 (qV w [23009, 23012, 23015, 23016, 23017, 23018, 23019, 28999, 29999] μ (fun μ1 => Q μ1 ∧ True))) 119 [(0, .ref 23), (1, iv p1), (2, iv z2521), (3, jv z2520), (5, jv z2519), (8, iv z2517), (9, iv z4032), (12, jv z4030), (14, iv z4029)] [jv z4187] (mk w μ4178) 0 0 := by
              intro z4187 h4188 W4190
              refine mr_lstore (pc := 119) (lv' := [(10, jv z4187), (0, .ref 23), (1, iv p1), (2, iv z2521), (3, jv z2520), (5, jv z2519), (8, iv z2517), (9, iv z4032), (12, jv z4030), (14, iv z4029)]) dX6_readBranches_119 (by decide) rfl ?_
              refine sv_aload_n (pc := 121) dX6_readBranches_121 rfl rfl ?_
              refine gf_X6_15 (pc := 122) dX6_readBranches_122 wF_X6_186 (A_23 hw) T4179 fun z4191 q4192 h4193 => ?_
              have J4207 : ∀ (z4205 : Int), (((-9223372036854775808) ≤ z4205 ∧ z4205 ≤ 9223372036854775807)) → ((WJ_X6_readBranches_Wx3_7 (loopF (WL_X6_readBranches_Wx3_2 w p1 (loopF (WL_X6_readBranches_Wx3_1 w μ p1 Q) False nL2523) z2521 z2520 z2519 z2517 μ2522) False nL4034) z4032 z4029 μ4178 z4187 z4191) z4205) → sV (gG l D c H0 sa) mX6_readBranches (sRm 9 0 0) (sZ (gG l D c H0 sa) 0 0 (qV w [23009, 23012, 23015, 23016, 23017, 23018, 23019, 28999, 29999] μ (fun μ1 => Q μ1 ∧ True))) 142 [(0, .ref 23), (1, iv p1), (2, iv z2521), (3, jv z2520), (5, jv z2519), (8, iv z2517), (9, iv z4032), (10, jv z4187), (14, iv z4029)] [jv z4205] (mk w μ4178) 0 0 := by
                intro z4205 h4206 W4208
                refine mr_lstore (pc := 142) (lv' := [(12, jv z4205), (0, .ref 23), (1, iv p1), (2, iv z2521), (3, jv z2520), (5, jv z2519), (8, iv z2517), (9, iv z4032), (10, jv z4187), (14, iv z4029)]) dX6_readBranches_142 (by decide) rfl ?_
                refine mr_iload (pc := 144) (z := z4032) dX6_readBranches_144 rfl ?_
                refine mr_if_eq (pc := 146) (tgt := 160) dX6_readBranches_146 (by decide) (r32 h4035 rfl) (fun h4213 => ?_) (fun h4213 => ?_)
                · have h4214 : 0 ≤ z4032 ∧ z4032 ≤ 0 := (vc_X12_ring_22 h4213 h4035)
                  refine mr_iconst (pc := 160) (z := 0) dX6_readBranches_160 ?_
                  refine mr_istore (pc := 161) (lv' := [(9, iv 0), (12, jv z4205), (0, .ref 23), (1, iv p1), (2, iv z2521), (3, jv z2520), (5, jv z2519), (8, iv z2517), (10, jv z4187), (14, iv z4029)]) dX6_readBranches_161 (by decide) rfl ?_
                  refine mr_iinc (pc := 163) (lv' := [(14, iv (z4029 + 1)), (9, iv 0), (12, jv z4205), (0, .ref 23), (1, iv p1), (2, iv z2521), (3, jv z2520), (5, jv z2519), (8, iv z2517), (10, jv z4187)]) dX6_readBranches_163 rfl (by decide) rfl ?_
                  refine sv_goto (pc := 166) (tgt := 38) dX6_readBranches_166 (by decide) ?_
                  refine mr_lvS (lv' := [(0, .ref 23), (1, iv p1), (2, iv z2521), (3, jv z2520), (5, jv z2519), (8, iv z2517), (9, iv 0), (10, jv z4187), (12, jv z4205), (14, iv (z4029 + 1))]) (List.forall_mem_cons.mpr ⟨rfl, List.forall_mem_cons.mpr ⟨rfl, List.forall_mem_cons.mpr ⟨rfl, List.forall_mem_cons.mpr ⟨rfl, List.forall_mem_cons.mpr ⟨rfl, List.forall_mem_cons.mpr ⟨rfl, List.forall_mem_cons.mpr ⟨rfl, List.forall_mem_cons.mpr ⟨rfl, List.forall_mem_cons.mpr ⟨rfl, List.forall_mem_cons.mpr ⟨rfl, fun _ h => absurd h List.not_mem_nil⟩⟩⟩⟩⟩⟩⟩⟩⟩⟩) ?_
                  exact ih4044 0 z4187 z4205 (z4029 + 1) μ4178 T4179 (mF.call (mF.call (mF.call (mF.call mF.refl F4040 rfl) F4167 rfl) F4173 rfl) F4180 rfl) (rW (c := 0) (d := 1) (rR (x := 0)) rfl) h4188 h4206 (rW (c := 0) (d := 1001) (rAdd (e := 1) (f := 1001) h4140 (rR (x := 1)) rfl) rfl) (vc_X6_readBranches_Wx6_7 (nS h4042) h4138 h4140) ((W4208 h4206).1 h4213)
                have h4215 : 1 ≤ z4032 ∧ z4032 ≤ 1 := (vc_X12_ring_24 h4213 h4035)
                refine sv_aload_n (pc := 149) dX6_readBranches_149 rfl rfl ?_
                refine gk_X6_15 (pc := 150) dX6_readBranches_150 wF_X6_186 (A_23 hw) q4192 ?_
                refine mr_if_eq (pc := 153) (tgt := 160) dX6_readBranches_153 (by decide) (r32 h4193 rfl) (fun h4218 => ?_) (fun h4218 => ?_)
                · have h4219 : 0 ≤ z4191 ∧ z4191 ≤ 0 := (vc_X12_ring_22 h4218 h4193)
                  refine mr_iconst (pc := 160) (z := 0) dX6_readBranches_160 ?_
                  refine mr_istore (pc := 161) (lv' := [(9, iv 0), (12, jv z4205), (0, .ref 23), (1, iv p1), (2, iv z2521), (3, jv z2520), (5, jv z2519), (8, iv z2517), (10, jv z4187), (14, iv z4029)]) dX6_readBranches_161 (by decide) rfl ?_
                  refine mr_iinc (pc := 163) (lv' := [(14, iv (z4029 + 1)), (9, iv 0), (12, jv z4205), (0, .ref 23), (1, iv p1), (2, iv z2521), (3, jv z2520), (5, jv z2519), (8, iv z2517), (10, jv z4187)]) dX6_readBranches_163 rfl (by decide) rfl ?_
                  refine sv_goto (pc := 166) (tgt := 38) dX6_readBranches_166 (by decide) ?_
                  refine mr_lvS (lv' := [(0, .ref 23), (1, iv p1), (2, iv z2521), (3, jv z2520), (5, jv z2519), (8, iv z2517), (9, iv 0), (10, jv z4187), (12, jv z4205), (14, iv (z4029 + 1))]) (List.forall_mem_cons.mpr ⟨rfl, List.forall_mem_cons.mpr ⟨rfl, List.forall_mem_cons.mpr ⟨rfl, List.forall_mem_cons.mpr ⟨rfl, List.forall_mem_cons.mpr ⟨rfl, List.forall_mem_cons.mpr ⟨rfl, List.forall_mem_cons.mpr ⟨rfl, List.forall_mem_cons.mpr ⟨rfl, List.forall_mem_cons.mpr ⟨rfl, List.forall_mem_cons.mpr ⟨rfl, fun _ h => absurd h List.not_mem_nil⟩⟩⟩⟩⟩⟩⟩⟩⟩⟩) ?_
                  exact ih4044 0 z4187 z4205 (z4029 + 1) μ4178 T4179 (mF.call (mF.call (mF.call (mF.call mF.refl F4040 rfl) F4167 rfl) F4173 rfl) F4180 rfl) (rW (c := 0) (d := 1) (rR (x := 0)) rfl) h4188 h4206 (rW (c := 0) (d := 1001) (rAdd (e := 1) (f := 1001) h4140 (rR (x := 1)) rfl) rfl) (vc_X6_readBranches_Wx6_7 (nS h4042) h4138 h4140) (((W4208 h4206).2 h4213).1 h4218)
                have h4220 : 1 ≤ z4191 ∧ z4191 ≤ 1 := (vc_X12_ring_24 h4218 h4193)
                refine mr_iconst (pc := 156) (z := 1) dX6_readBranches_156 ?_
                refine sv_goto (pc := 157) (tgt := 161) dX6_readBranches_157 (by decide) ?_
                refine mr_istore (pc := 161) (lv' := [(9, iv 1), (12, jv z4205), (0, .ref 23), (1, iv p1), (2, iv z2521), (3, jv z2520), (5, jv z2519), (8, iv z2517), (10, jv z4187), (14, iv z4029)]) dX6_readBranches_161 (by decide) rfl ?_
                refine mr_iinc (pc := 163) (lv' := [(14, iv (z4029 + 1)), (9, iv 1), (12, jv z4205), (0, .ref 23), (1, iv p1), (2, iv z2521), (3, jv z2520), (5, jv z2519), (8, iv z2517), (10, jv z4187)]) dX6_readBranches_163 rfl (by decide) rfl ?_
                refine sv_goto (pc := 166) (tgt := 38) dX6_readBranches_166 (by decide) ?_
                refine mr_lvS (lv' := [(0, .ref 23), (1, iv p1), (2, iv z2521), (3, jv z2520), (5, jv z2519), (8, iv z2517), (9, iv 1), (10, jv z4187), (12, jv z4205), (14, iv (z4029 + 1))]) (List.forall_mem_cons.mpr ⟨rfl, List.forall_mem_cons.mpr ⟨rfl, List.forall_mem_cons.mpr ⟨rfl, List.forall_mem_cons.mpr ⟨rfl, List.forall_mem_cons.mpr ⟨rfl, List.forall_mem_cons.mpr ⟨rfl, List.forall_mem_cons.mpr ⟨rfl, List.forall_mem_cons.mpr ⟨rfl, List.forall_mem_cons.mpr ⟨rfl, List.forall_mem_cons.mpr ⟨rfl, fun _ h => absurd h List.not_mem_nil⟩⟩⟩⟩⟩⟩⟩⟩⟩⟩) ?_
                exact ih4044 1 z4187 z4205 (z4029 + 1) μ4178 T4179 (mF.call (mF.call (mF.call (mF.call mF.refl F4040 rfl) F4167 rfl) F4173 rfl) F4180 rfl) (rW (c := 0) (d := 1) (rR (x := 1)) rfl) h4188 h4206 (rW (c := 0) (d := 1001) (rAdd (e := 1) (f := 1001) h4140 (rR (x := 1)) rfl) rfl) (vc_X6_readBranches_Wx6_7 (nS h4042) h4138 h4140) (((W4208 h4206).2 h4213).2 h4218)
              refine mr_if_eq (pc := 125) (tgt := 138) dX6_readBranches_125 (by decide) (r32 h4193 rfl) (fun h4221 => ?_) (fun h4221 => ?_)
              · have h4222 : 0 ≤ z4191 ∧ z4191 ≤ 0 := (vc_X12_ring_22 h4221 h4193)
                refine sv_aload_n (pc := 138) dX6_readBranches_138 rfl rfl ?_
                refine gf_X6_17 (pc := 139) dX6_readBranches_139 wF_X6_183 (A_23 hw) T4179 fun z4223 q4224 h4225 => ?_
                refine mr_lvS (lv' := [(0, .ref 23), (1, iv p1), (2, iv z2521), (3, jv z2520), (5, jv z2519), (8, iv z2517), (9, iv z4032), (10, jv z4187), (14, iv z4029)]) (List.forall_mem_cons.mpr ⟨rfl, List.forall_mem_cons.mpr ⟨rfl, List.forall_mem_cons.mpr ⟨rfl, List.forall_mem_cons.mpr ⟨rfl, List.forall_mem_cons.mpr ⟨rfl, List.forall_mem_cons.mpr ⟨rfl, List.forall_mem_cons.mpr ⟨rfl, List.forall_mem_cons.mpr ⟨rfl, List.forall_mem_cons.mpr ⟨rfl, fun _ h => absurd h List.not_mem_nil⟩⟩⟩⟩⟩⟩⟩⟩⟩) ?_
                exact J4207 z4223 h4225 ((((W4190 h4188) z4191 q4192 h4193).1 h4221) z4223 q4224 h4225)
              have h4226 : 1 ≤ z4191 ∧ z4191 ≤ 1 := (vc_X12_ring_24 h4221 h4193)
              refine mr_lload (pc := 128) (z := z4030) dX6_readBranches_128 rfl ?_
              refine sv_aload_n (pc := 130) dX6_readBranches_130 rfl rfl ?_
              refine gf_X6_17 (pc := 131) dX6_readBranches_131 wF_X6_183 (A_23 hw) T4179 fun z4227 q4228 h4229 => ?_
              refine mr_lor (pc := 134) dX6_readBranches_134 ?_
              refine mr_genL (r64i _) fun z4230 q4231 h4232 => ?_
              refine sv_goto (pc := 135) (tgt := 142) dX6_readBranches_135 (by decide) ?_
              refine mr_lvS (lv' := [(0, .ref 23), (1, iv p1), (2, iv z2521), (3, jv z2520), (5, jv z2519), (8, iv z2517), (9, iv z4032), (10, jv z4187), (14, iv z4029)]) (List.forall_mem_cons.mpr ⟨rfl, List.forall_mem_cons.mpr ⟨rfl, List.forall_mem_cons.mpr ⟨rfl, List.forall_mem_cons.mpr ⟨rfl, List.forall_mem_cons.mpr ⟨rfl, List.forall_mem_cons.mpr ⟨rfl, List.forall_mem_cons.mpr ⟨rfl, List.forall_mem_cons.mpr ⟨rfl, List.forall_mem_cons.mpr ⟨rfl, fun _ h => absurd h List.not_mem_nil⟩⟩⟩⟩⟩⟩⟩⟩⟩) ?_
              exact J4207 z4230 h4232 (((((W4190 h4188) z4191 q4192 h4193).2 h4221) z4227 q4228 h4229) z4230 q4231)
            refine mr_if_eq (pc := 104) (tgt := 117) dX6_readBranches_104 (by decide) (r32 h4035 rfl) (fun h4233 => ?_) (fun h4233 => ?_)
            · have h4234 : 0 ≤ z4032 ∧ z4032 ≤ 0 := (vc_X12_ring_22 h4233 h4035)
              refine mr_lload (pc := 117) (z := z4031) dX6_readBranches_117 rfl ?_
              refine mr_lvS (lv' := [(0, .ref 23), (1, iv p1), (2, iv z2521), (3, jv z2520), (5, jv z2519), (8, iv z2517), (9, iv z4032), (12, jv z4030), (14, iv z4029)]) (List.forall_mem_cons.mpr ⟨rfl, List.forall_mem_cons.mpr ⟨rfl, List.forall_mem_cons.mpr ⟨rfl, List.forall_mem_cons.mpr ⟨rfl, List.forall_mem_cons.mpr ⟨rfl, List.forall_mem_cons.mpr ⟨rfl, List.forall_mem_cons.mpr ⟨rfl, List.forall_mem_cons.mpr ⟨rfl, List.forall_mem_cons.mpr ⟨rfl, fun _ h => absurd h List.not_mem_nil⟩⟩⟩⟩⟩⟩⟩⟩⟩) ?_
              exact J4189 z4031 h4036 ((h4181.1 T4179 F4180).1 h4233)
            have h4235 : 1 ≤ z4032 ∧ z4032 ≤ 1 := (vc_X12_ring_24 h4233 h4035)
            refine mr_lload (pc := 107) (z := z4031) dX6_readBranches_107 rfl ?_
            refine sv_aload_n (pc := 109) dX6_readBranches_109 rfl rfl ?_
            refine gk_X6_16 (pc := 110) dX6_readBranches_110 wF_X6_179 (A_23 hw) (F4180.f (A_23 hw) rfl q4176) ?_
            refine mr_lor (pc := 113) dX6_readBranches_113 ?_
            refine mr_genL (r64i _) fun z4236 q4237 h4238 => ?_
            refine sv_goto (pc := 114) (tgt := 119) dX6_readBranches_114 (by decide) ?_
            refine mr_lvS (lv' := [(0, .ref 23), (1, iv p1), (2, iv z2521), (3, jv z2520), (5, jv z2519), (8, iv z2517), (9, iv z4032), (12, jv z4030), (14, iv z4029)]) (List.forall_mem_cons.mpr ⟨rfl, List.forall_mem_cons.mpr ⟨rfl, List.forall_mem_cons.mpr ⟨rfl, List.forall_mem_cons.mpr ⟨rfl, List.forall_mem_cons.mpr ⟨rfl, List.forall_mem_cons.mpr ⟨rfl, List.forall_mem_cons.mpr ⟨rfl, List.forall_mem_cons.mpr ⟨rfl, List.forall_mem_cons.mpr ⟨rfl, fun _ h => absurd h List.not_mem_nil⟩⟩⟩⟩⟩⟩⟩⟩⟩) ?_
            exact J4189 z4236 h4238 (((h4181.1 T4179 F4180).2 h4233) z4236 q4237)
          refine mr_icmp_ne (pc := 73) (tgt := 84) dX6_readBranches_73 (by decide) h4146 (r32 (rR (x := 1040)) rfl) (fun h4239 => ?_) (fun h4239 => ?_)
          · refine sv_aload_n (pc := 84) dX6_readBranches_84 rfl rfl ?_
            refine mr_cVV (pc := 85) (c_X6_readPlace_Wx hw T4039 (((h4150.2.1 h4150.1).2 h4153).1 h4239)) (gOk _ _ _ _ _) dX6_readBranches_85 (tX6_readPlace _ _ _ _ _) ⟨wV_X6_readPlace, wL_X6_readPlace⟩ wM_X6_196 (gCX6 _ _ _ _ _) rfl (A_23 hw) rfl ⟨le_t rfl, le_t rfl⟩ ⟨le_t rfl, le_t rfl⟩ rfl (le_t rfl) fun μ4240 T4241 F4242 h4243 => ?_
            exact J4169 μ4240 T4241 (mF.call mF.refl F4242 rfl) (h4243.1 T4241 F4242)
          have h4244 : 1040 ≤ z4144 ∧ z4144 ≤ 1040 := (vc_X6_readBranches_Wx6_19 h4239 h4146)
          refine sv_aload_n (pc := 76) dX6_readBranches_76 rfl rfl ?_
          refine mr_iload_n (pc := 77) (z := p1) dX6_readBranches_77 rfl rfl ?_
          refine mr_cVV (pc := 78) (c_X6_readGroup_Wx3 hw T4039 hp1 (((h4150.2.1 h4150.1).2 h4153).2 h4239)) (gOk _ _ _ _ _) dX6_readBranches_78 (tX6_readGroup _ _ _ _ _) ⟨wV_X6_readGroup, wL_X6_readGroup⟩ wM_X6_193 (gCX6 _ _ _ _ _) rfl (A_23 hw) rfl ⟨le_t rfl, le_t rfl⟩ ⟨le_t rfl, le_t rfl⟩ rfl (le_t rfl) fun μ4245 T4246 F4247 h4248 => ?_
          refine sv_goto (pc := 81) (tgt := 88) dX6_readBranches_81 (by decide) ?_
          exact J4169 μ4245 T4246 (mF.call mF.refl F4247 rfl) (h4248.1 T4246 F4247)
      refine mr_lvS (lv' := [(0, .ref 23), (1, iv p1), (2, iv z2521), (3, jv z2520), (5, jv z2519), (8, iv z2517), (9, iv 1), (10, jv 0), (12, jv 0), (14, iv 0)]) (List.forall_mem_cons.mpr ⟨rfl, List.forall_mem_cons.mpr ⟨rfl, List.forall_mem_cons.mpr ⟨rfl, List.forall_mem_cons.mpr ⟨rfl, List.forall_mem_cons.mpr ⟨rfl, List.forall_mem_cons.mpr ⟨rfl, List.forall_mem_cons.mpr ⟨rfl, List.forall_mem_cons.mpr ⟨rfl, List.forall_mem_cons.mpr ⟨rfl, List.forall_mem_cons.mpr ⟨rfl, fun _ h => absurd h List.not_mem_nil⟩⟩⟩⟩⟩⟩⟩⟩⟩⟩) ?_
      exact L4034 1003 1 0 0 0 μ2522 T2529 mF.refl (rW (c := 0) (d := 1) (rR (x := 1)) rfl) (rW (c := -9223372036854775808) (d := 9223372036854775807) (rR (x := 0)) rfl) (rW (c := -9223372036854775808) (d := 9223372036854775807) (rR (x := 0)) rfl) (rW (c := 0) (d := 1001) (rR (x := 0)) rfl) vc_X6_readBranches_Wx6_20 (((W2533 z2521 z2520 z2519 z2518 z2517 μ2522 rfl h2524 h2525 h2526 h2527 h2528 T2529 F2530).2 h2715).2 h2905)
  refine mr_lvS (lv' := [(0, .ref 23), (1, iv p1), (2, iv 0), (3, jv 0), (5, jv 0), (7, iv 1), (8, iv 0)]) (List.forall_mem_cons.mpr ⟨rfl, List.forall_mem_cons.mpr ⟨rfl, List.forall_mem_cons.mpr ⟨rfl, List.forall_mem_cons.mpr ⟨rfl, List.forall_mem_cons.mpr ⟨rfl, List.forall_mem_cons.mpr ⟨rfl, List.forall_mem_cons.mpr ⟨rfl, fun _ h => absurd h List.not_mem_nil⟩⟩⟩⟩⟩⟩⟩) ?_
  exact L2523 1003 0 0 0 1 0 μ hT mF.refl (rW (c := 0) (d := 1) (rR (x := 0)) rfl) (rW (c := -9223372036854775808) (d := 9223372036854775807) (rR (x := 0)) rfl) (rW (c := -9223372036854775808) (d := 9223372036854775807) (rR (x := 0)) rfl) (rW (c := 0) (d := 1) (rR (x := 1)) rfl) (rW (c := 0) (d := 1001) (rR (x := 0)) rfl) vc_X6_readBranches_Wx6_20 hQ
def WP_X6_readGroup_Wx2 (w : mW) (μ : mM) (p1 : Int) (Q : mM → Prop) : Prop := WP_X6_step_Wx w μ  (fun μ1 => mT w μ1 → mF [23009] w μ μ1 → WP_X6_readBranches_Wx3 w μ1 (p1 + 1) (fun μ5 => mT w μ5 → mF [23009, 23012, 23015, 23016, 23017, 23018, 23019, 28999, 29999] w μ1 μ5 → ∀ z9 : Int, μ5 23 9 = z9 → (0 ≤ z9 ∧ z9 ≤ 1000) → ∀ z12 : Int, μ5 24 (z9.toNat) = z12 → ((-2147483648) ≤ z12 ∧ z12 ≤ 2147483647) → ((z12 = 1041) → WP_X6_step_Wx w μ5  (fun μ17 => mT w μ17 → mF [23009] w μ5 μ17 → Q μ17)) ∧ ((¬ z12 = 1041) → WP_X6_fail_Wx w μ5 (2) (fun μ21 => mT w μ21 → mF [23009, 23018, 23019] w μ5 μ21 → Q μ21))))
theorem vc_X6_readGroup_Wx2_1 {p1 : Int} (h0 : 6 ≤ p1) (h1 : 2 ≤ p1 ∧ p1 ≤ 2) : False := by omega
set_option maxRecDepth 4000 in
set_option maxHeartbeats 4000000 in
theorem c_X6_readGroup_Wx2 {l : Launch} {D : va_G} {c : Nat → ClassId} {H0 : Heap} {sa : Nat × Nat × (Nat → Int32)} {w : mW} {μ : mM} (hw : mWF w) (hT : mT w μ) {p1 : Int} (hp1 : 2 ≤ p1 ∧ p1 ≤ 2) {Q : mM → Prop} (hQ : WP_X6_readGroup_Wx2 w μ p1 Q) : sC (gG l D c H0 sa) mX6_readGroup 10 0 0 [.ref 23, iv p1] (mk w μ) (qV w [23009, 23012, 23015, 23016, 23017, 23018, 23019, 28999, 29999] μ (fun μ1 => Q μ1 ∧ True)) := by
  refine sC.of rfl (by decide) (le_t rfl) ?_
  refine mr_lvE (lv' := [(0, .ref 23), (1, iv p1)]) rfl ?_
  refine mr_iload_n (pc := 0) (z := p1) dX6_readGroup_0 rfl rfl ?_
  refine mr_bipush (pc := 1) (z := 6) dX6_readGroup_1 (by decide) ?_
  refine mr_icmp_lt (pc := 3) (tgt := 12) dX6_readGroup_3 (by decide) (r32 hp1 rfl) (r32 (rR (x := 6)) rfl) (fun _ => ?_) (fun h => ((vc_X6_readGroup_Wx2_1 h hp1)).elim)
  refine sv_aload_n (pc := 12) dX6_readGroup_12 rfl rfl ?_
  refine mr_cVV (pc := 13) (c_X6_step_Wx hw hT hQ) (gOk _ _ _ _ _) dX6_readGroup_13 (tX6_step _ _ _ _ _) ⟨wV_X6_step, wL_X6_step⟩ wM_X6_117 (gCX6 _ _ _ _ _) rfl (A_23 hw) rfl ⟨le_t rfl, le_t rfl⟩ ⟨le_t rfl, le_t rfl⟩ rfl (le_t rfl) fun μ1 T2 F3 h4 => ?_
  refine sv_aload_n (pc := 16) dX6_readGroup_16 rfl rfl ?_
  refine mr_iload_n (pc := 17) (z := p1) dX6_readGroup_17 rfl rfl ?_
  refine mr_iconst (pc := 18) (z := 1) dX6_readGroup_18 ?_
  refine mr_iadd (pc := 19) (x := p1) (y := 1) dX6_readGroup_19 ?_
  refine mr_cVV (pc := 20) (c_X6_readBranches_Wx3 hw T2 (rAdd (e := 3) (f := 3) hp1 (rR (x := 1)) rfl) (h4.1 T2 F3)) (gOk _ _ _ _ _) dX6_readGroup_20 (tX6_readBranches _ _ _ _ _) ⟨wV_X6_readBranches, wL_X6_readBranches⟩ wM_X6_176 (gCX6 _ _ _ _ _) rfl (A_23 hw) rfl ⟨le_t rfl, le_t rfl⟩ ⟨le_t rfl, le_t rfl⟩ rfl (le_t rfl) fun μ5 T6 F7 h8 => ?_
  refine sv_aload_n (pc := 23) dX6_readGroup_23 rfl rfl ?_
  refine gf_X6_0 (pc := 24) dX6_readGroup_24 wF_X6_9 (A_23 hw) T6 ?_
  refine sv_aload_n (pc := 27) dX6_readGroup_27 rfl rfl ?_
  refine gf_X6_9 (pc := 28) dX6_readGroup_28 wF_X6_63 (A_23 hw) T6 fun z9 q10 h11 => ?_
  refine la_24 (pc := 31) dX6_readGroup_31 (A_24 hw) T6 (rIx (n := 1001) h11 rfl) fun z12 q13 h14 => ?_
  refine mr_sipush (pc := 32) (z := 1041) dX6_readGroup_32 (by decide) ?_
  refine mr_icmp_eq (pc := 35) (tgt := 44) dX6_readGroup_35 (by decide) h14 (r32 (rR (x := 1041)) rfl) (fun h15 => ?_) (fun h15 => ?_)
  · have h16 : 1041 ≤ z12 ∧ z12 ≤ 1041 := (vc_X6_readGroup_Wx5_2 h15 h14)
    refine sv_aload_n (pc := 44) dX6_readGroup_44 rfl rfl ?_
    refine mr_cVV (pc := 45) (c_X6_step_Wx hw T6 ((((h8.1 T6 F7) z9 q10 h11) z12 q13 h14).1 h15)) (gOk _ _ _ _ _) dX6_readGroup_45 (tX6_step _ _ _ _ _) ⟨wV_X6_step, wL_X6_step⟩ wM_X6_117 (gCX6 _ _ _ _ _) rfl (A_23 hw) rfl ⟨le_t rfl, le_t rfl⟩ ⟨le_t rfl, le_t rfl⟩ rfl (le_t rfl) fun μ17 T18 F19 h20 => ?_
    exact mr_vret dX6_readGroup_48 rfl (le_t rfl) (le_t rfl) T18 (mF.call (mF.call (mF.call mF.refl F3 rfl) F7 rfl) F19 rfl) ⟨(h20.1 T18 F19), trivial⟩
  refine sv_aload_n (pc := 38) dX6_readGroup_38 rfl rfl ?_
  refine mr_iconst (pc := 39) (z := 2) dX6_readGroup_39 ?_
  refine mr_cVV (pc := 40) (c_X6_fail_Wx hw T6 (rW (c := 1) (d := 4) (rR (x := 2)) rfl) ((((h8.1 T6 F7) z9 q10 h11) z12 q13 h14).2 h15)) (gOk _ _ _ _ _) dX6_readGroup_40 (tX6_fail _ _ _ _ _) ⟨wV_X6_fail, wL_X6_fail⟩ wM_X6_123 (gCX6 _ _ _ _ _) rfl (A_23 hw) rfl ⟨le_t rfl, le_t rfl⟩ ⟨le_t rfl, le_t rfl⟩ rfl (le_t rfl) fun μ21 T22 F23 h24 => ?_
  exact mr_vret dX6_readGroup_43 rfl (le_t rfl) (le_t rfl) T22 (mF.call (mF.call (mF.call mF.refl F3 rfl) F7 rfl) F23 rfl) ⟨(h24.1 T22 F23), trivial⟩
def WJ_X6_readBranches_Wx2_4 (w : mW) (rec1 : (Int × Int × Int × Int × Int × mM) → Prop) (z2520 : Int) (z2519 : Int) (z2517 : Int) (z4031 : Int) (z4030 : Int) (μ4033 : mM) (z4117 : Int) : Prop := (0 ≤ z4117 ∧ z4117 ≤ 1) → ∀ z4121 : Int, lOr z2520 z4031 = z4121 → ∀ z4124 : Int, lOr z2519 z4030 = z4124 → WP_X6_take_Wx w μ4033 (1124) (fun z4131 μ4127 => mT w μ4127 → mF [23009] w μ4033 μ4127 → (0 ≤ z4131 ∧ z4131 ≤ 1) → rec1 (z4117, z4121, z4124, z4131, (z2517 + 1), μ4127))
def WJ_X6_readBranches_Wx2_3 (w : mW) (rec1 : (Int × Int × Int × Int × Int × mM) → Prop) (z2521 : Int) (z2520 : Int) (z2519 : Int) (z2517 : Int) (z4032 : Int) (z4031 : Int) (z4030 : Int) (μ4033 : mM) : Prop := ((¬ z2521 = 0) → (WJ_X6_readBranches_Wx2_4 w rec1 z2520 z2519 z2517 z4031 z4030 μ4033) (1 : Int)) ∧ ((z2521 = 0) → ((z4032 = 0) → (WJ_X6_readBranches_Wx2_4 w rec1 z2520 z2519 z2517 z4031 z4030 μ4033) (0 : Int)) ∧ ((¬ z4032 = 0) → (WJ_X6_readBranches_Wx2_4 w rec1 z2520 z2519 z2517 z4031 z4030 μ4033) (1 : Int)))
def WJ_X6_readBranches_Wx2_7 (rec2 : (Int × Int × Int × Int × mM) → Prop) (z4032 : Int) (z4029 : Int) (μ4178 : mM) (z4187 : Int) (z4191 : Int) (z4205 : Int) : Prop := ((-9223372036854775808) ≤ z4205 ∧ z4205 ≤ 9223372036854775807) → ((z4032 = 0) → rec2 ((0 : Int), z4187, z4205, (z4029 + 1), μ4178)) ∧ ((¬ z4032 = 0) → ((z4191 = 0) → rec2 ((0 : Int), z4187, z4205, (z4029 + 1), μ4178)) ∧ ((¬ z4191 = 0) → rec2 ((1 : Int), z4187, z4205, (z4029 + 1), μ4178)))
def WJ_X6_readBranches_Wx2_6 (rec2 : (Int × Int × Int × Int × mM) → Prop) (z4032 : Int) (z4030 : Int) (z4029 : Int) (μ4178 : mM) (z4187 : Int) : Prop := ((-9223372036854775808) ≤ z4187 ∧ z4187 ≤ 9223372036854775807) → ∀ z4191 : Int, μ4178 23 15 = z4191 → (0 ≤ z4191 ∧ z4191 ≤ 1) → ((z4191 = 0) → ∀ z4223 : Int, μ4178 23 17 = z4223 → ((-9223372036854775808) ≤ z4223 ∧ z4223 ≤ 9223372036854775807) → (WJ_X6_readBranches_Wx2_7 rec2 z4032 z4029 μ4178 z4187 z4191) z4223) ∧ ((¬ z4191 = 0) → ∀ z4227 : Int, μ4178 23 17 = z4227 → ((-9223372036854775808) ≤ z4227 ∧ z4227 ≤ 9223372036854775807) → ∀ z4230 : Int, lOr z4030 z4227 = z4230 → (WJ_X6_readBranches_Wx2_7 rec2 z4032 z4029 μ4178 z4187 z4191) z4230)
def WJ_X6_readBranches_Wx2_5 (w : mW) (rec2 : (Int × Int × Int × Int × mM) → Prop) (z4032 : Int) (z4031 : Int) (z4030 : Int) (z4029 : Int) (μ4033 : mM) (μ4165 : mM) : Prop := mT w μ4165 → mF [23009, 23012, 23015, 23016, 23017, 23018, 23019, 28999, 29999] w μ4033 μ4165 → WP_X6_readRepeat_Wx w μ4165  (fun μ4171 => mT w μ4171 → mF [23009, 23015, 29999] w μ4165 μ4171 → ∀ z4175 : Int, μ4171 23 16 = z4175 → ((-9223372036854775808) ≤ z4175 ∧ z4175 ≤ 9223372036854775807) → WP_X6_join_Wx w μ4171 z4030 z4175 (fun μ4178 => mT w μ4178 → mF [29999] w μ4171 μ4178 → ((z4032 = 0) → (WJ_X6_readBranches_Wx2_6 rec2 z4032 z4030 z4029 μ4178) z4031) ∧ ((¬ z4032 = 0) → ∀ z4236 : Int, lOr z4031 z4175 = z4236 → (WJ_X6_readBranches_Wx2_6 rec2 z4032 z4030 z4029 μ4178) z4236)))
def WL_X6_readBranches_Wx2_2 (w : mW) (p1 : Int) (rec1 : (Int × Int × Int × Int × Int × mM) → Prop) (z2521 : Int) (z2520 : Int) (z2519 : Int) (z2517 : Int) (μ2522 : mM) (rec2 : (Int × Int × Int × Int × mM) → Prop) (s : (Int × Int × Int × Int × mM)) : Prop := ∀ z4032 : Int, ∀ z4031 : Int, ∀ z4030 : Int, ∀ z4029 : Int, ∀ μ4033 : mM, s = (z4032, z4031, z4030, z4029, μ4033) → (0 ≤ z4032 ∧ z4032 ≤ 1) → ((-9223372036854775808) ≤ z4031 ∧ z4031 ≤ 9223372036854775807) → ((-9223372036854775808) ≤ z4030 ∧ z4030 ≤ 9223372036854775807) → (0 ≤ z4029 ∧ z4029 ≤ 1001) → mT w μ4033 → mF [23009, 23012, 23015, 23016, 23017, 23018, 23019, 28999, 29999] w μ2522 μ4033 → ((1000 < z4029) → (WJ_X6_readBranches_Wx2_3 w rec1 z2521 z2520 z2519 z2517 z4032 z4031 z4030 μ4033) ) ∧ ((z4029 ≤ 1000) → ∀ z4141 : Int, μ4033 23 9 = z4141 → (0 ≤ z4141 ∧ z4141 ≤ 1000) → ∀ z4144 : Int, μ4033 24 (z4141.toNat) = z4144 → ((-2147483648) ≤ z4144 ∧ z4144 ≤ 2147483647) → WP_X6_beginsPiece_Wx w μ4033 z4144 (fun z4151 _ => (0 ≤ z4151 ∧ z4151 ≤ 1) → ((z4151 = 0) → (WJ_X6_readBranches_Wx2_3 w rec1 z2521 z2520 z2519 z2517 z4032 z4031 z4030 μ4033) ) ∧ ((¬ z4151 = 0) → ((¬ z4144 = 1040) → WP_X6_readPlace_Wx w μ4033  (fun μ4240 => mT w μ4240 → mF [23009, 23012, 23015, 23016, 23017, 23018, 23019, 28999, 29999] w μ4033 μ4240 → (WJ_X6_readBranches_Wx2_5 w rec2 z4032 z4031 z4030 z4029 μ4033) μ4240)) ∧ ((z4144 = 1040) → WP_X6_readGroup_Wx2 w μ4033 p1 (fun μ4245 => mT w μ4245 → mF [23009, 23012, 23015, 23016, 23017, 23018, 23019, 28999, 29999] w μ4033 μ4245 → (WJ_X6_readBranches_Wx2_5 w rec2 z4032 z4031 z4030 z4029 μ4033) μ4245)))))
def WL_X6_readBranches_Wx2_1 (w : mW) (μ : mM) (p1 : Int) (Q : mM → Prop) (rec1 : (Int × Int × Int × Int × Int × mM) → Prop) (s : (Int × Int × Int × Int × Int × mM)) : Prop := ∀ z2521 : Int, ∀ z2520 : Int, ∀ z2519 : Int, ∀ z2518 : Int, ∀ z2517 : Int, ∀ μ2522 : mM, s = (z2521, z2520, z2519, z2518, z2517, μ2522) → (0 ≤ z2521 ∧ z2521 ≤ 1) → ((-9223372036854775808) ≤ z2520 ∧ z2520 ≤ 9223372036854775807) → ((-9223372036854775808) ≤ z2519 ∧ z2519 ≤ 9223372036854775807) → (0 ≤ z2518 ∧ z2518 ≤ 1) → (0 ≤ z2517 ∧ z2517 ≤ 1001) → mT w μ2522 → mF [23009, 23012, 23015, 23016, 23017, 23018, 23019, 28999, 29999] w μ μ2522 → ((1000 < z2517) → ∀ μ2717 : mM, mU μ2522 23 (15) z2521 μ2717 → mT w μ2717 → ∀ μ2720 : mM, mU μ2717 23 (16) z2520 μ2720 → mT w μ2720 → ∀ μ2723 : mM, mU μ2720 23 (17) z2519 μ2723 → mT w μ2723 → Q μ2723) ∧ ((z2517 ≤ 1000) → ((z2518 = 0) → ∀ μ2907 : mM, mU μ2522 23 (15) z2521 μ2907 → mT w μ2907 → ∀ μ2910 : mM, mU μ2907 23 (16) z2520 μ2910 → mT w μ2910 → ∀ μ2913 : mM, mU μ2910 23 (17) z2519 μ2913 → mT w μ2913 → Q μ2913) ∧ ((¬ z2518 = 0) → loopF (WL_X6_readBranches_Wx2_2 w p1 rec1 z2521 z2520 z2519 z2517 μ2522) False 1003 ((1 : Int), (0 : Int), (0 : Int), (0 : Int), μ2522)))
def WP_X6_readBranches_Wx2 (w : mW) (μ : mM) (p1 : Int) (Q : mM → Prop) : Prop := loopF (WL_X6_readBranches_Wx2_1 w μ p1 Q) False 1003 ((0 : Int), (0 : Int), (0 : Int), (1 : Int), (0 : Int), μ)
set_option maxRecDepth 4000 in
set_option maxHeartbeats 4000000 in
theorem c_X6_readBranches_Wx2 {l : Launch} {D : va_G} {c : Nat → ClassId} {H0 : Heap} {sa : Nat × Nat × (Nat → Int32)} {w : mW} {μ : mM} (hw : mWF w) (hT : mT w μ) {p1 : Int} (hp1 : 2 ≤ p1 ∧ p1 ≤ 2) {Q : mM → Prop} (hQ : WP_X6_readBranches_Wx2 w μ p1 Q) : sC (gG l D c H0 sa) mX6_readBranches 11 0 0 [.ref 23, iv p1] (mk w μ) (qV w [23009, 23012, 23015, 23016, 23017, 23018, 23019, 28999, 29999] μ (fun μ1 => Q μ1 ∧ True)) := by
  refine sC.of rfl (by decide) (le_t rfl) ?_
  refine mr_lvE (lv' := [(0, .ref 23), (1, iv p1)]) rfl ?_
  refine mr_iconst (pc := 0) (z := 0) dX6_readBranches_0 ?_
  refine mr_istore_n (pc := 1) (lv' := [(2, iv 0), (0, .ref 23), (1, iv p1)]) dX6_readBranches_1 rfl (by decide) rfl ?_
  refine mr_lconst (pc := 2) (z := 0) dX6_readBranches_2 (by decide) ?_
  refine mr_lstore_n (pc := 3) (lv' := [(3, jv 0), (2, iv 0), (0, .ref 23), (1, iv p1)]) dX6_readBranches_3 rfl (by decide) rfl ?_
  refine mr_lconst (pc := 4) (z := 0) dX6_readBranches_4 (by decide) ?_
  refine mr_lstore (pc := 5) (lv' := [(5, jv 0), (3, jv 0), (2, iv 0), (0, .ref 23), (1, iv p1)]) dX6_readBranches_5 (by decide) rfl ?_
  refine mr_iconst (pc := 7) (z := 1) dX6_readBranches_7 ?_
  refine mr_istore (pc := 8) (lv' := [(7, iv 1), (5, jv 0), (3, jv 0), (2, iv 0), (0, .ref 23), (1, iv p1)]) dX6_readBranches_8 (by decide) rfl ?_
  refine mr_iconst (pc := 10) (z := 0) dX6_readBranches_10 ?_
  refine mr_istore (pc := 11) (lv' := [(8, iv 0), (7, iv 1), (5, jv 0), (3, jv 0), (2, iv 0), (0, .ref 23), (1, iv p1)]) dX6_readBranches_11 (by decide) rfl ?_
  have L2523 : ∀ (nL2523 : Nat) (z2521 z2520 z2519 z2518 z2517 : Int) (μ2522 : mM), mT w μ2522 → mF [23009, 23012, 23015, 23016, 23017, 23018, 23019, 28999, 29999] w μ μ2522 → (0 ≤ z2521 ∧ z2521 ≤ 1) → ((-9223372036854775808) ≤ z2520 ∧ z2520 ≤ 9223372036854775807) → ((-9223372036854775808) ≤ z2519 ∧ z2519 ≤ 9223372036854775807) → (0 ≤ z2518 ∧ z2518 ≤ 1) → (0 ≤ z2517 ∧ z2517 ≤ 1001) → (1002 - z2517) < (nL2523 : Int) → loopF (WL_X6_readBranches_Wx2_1 w μ p1 Q) False nL2523 (z2521, z2520, z2519, z2518, z2517, μ2522) → sV (gG l D c H0 sa) mX6_readBranches (sRm 11 0 0) (sZ (gG l D c H0 sa) 0 0 (qV w [23009, 23012, 23015, 23016, 23017, 23018, 23019, 28999, 29999] μ (fun μ1 => Q μ1 ∧ True))) 13 [(0, .ref 23), (1, iv p1), (2, iv z2521), (3, jv z2520), (5, jv z2519), (7, iv z2518), (8, iv z2517)] [] (mk w μ2522) 0 0 := by
    intro nL2523
    induction nL2523 with
    | zero => intro z2521 z2520 z2519 z2518 z2517 μ2522 T2529 F2530 h2524 h2525 h2526 h2527 h2528 h2532 W2533; exact ((vc_X6_readBranches_Wx6_1 h2532 h2528)).elim
    | succ nL2523 ih2534 =>
      intro z2521 z2520 z2519 z2518 z2517 μ2522 T2529 F2530 h2524 h2525 h2526 h2527 h2528 h2532 W2533
      refine mr_iload (pc := 13) (z := z2517) dX6_readBranches_13 rfl ?_
      refine mr_sipush (pc := 15) (z := 1000) dX6_readBranches_15 (by decide) ?_
      refine mr_icmp_gt (pc := 18) (tgt := 211) dX6_readBranches_18 (by decide) (r32 h2528 rfl) (r32 (rR (x := 1000)) rfl) (fun h2715 => ?_) (fun h2715 => ?_)
      · have h2716 : 1001 ≤ z2517 ∧ z2517 ≤ 1001 := (vc_X6_readBranches_Wx6_2 h2715 h2528)
        refine sv_aload_n (pc := 211) dX6_readBranches_211 rfl rfl ?_
        refine mr_iload_n (pc := 212) (z := z2521) dX6_readBranches_212 rfl rfl ?_
        refine pf_X6_15 (pc := 213) dX6_readBranches_213 wF_X6_186 (A_23 hw) T2529 h2524 fun μ2717 u2718 T2719 => ?_
        refine sv_aload_n (pc := 216) dX6_readBranches_216 rfl rfl ?_
        refine mr_lload_n (pc := 217) (z := z2520) dX6_readBranches_217 rfl rfl ?_
        refine pf_X6_16 (pc := 218) dX6_readBranches_218 wF_X6_179 (A_23 hw) T2719 h2525 fun μ2720 u2721 T2722 => ?_
        refine sv_aload_n (pc := 221) dX6_readBranches_221 rfl rfl ?_
        refine mr_lload (pc := 222) (z := z2519) dX6_readBranches_222 rfl ?_
        refine pf_X6_17 (pc := 224) dX6_readBranches_224 wF_X6_183 (A_23 hw) T2722 h2526 fun μ2723 u2724 T2725 => ?_
        exact mr_vret dX6_readBranches_227 rfl (le_t rfl) (le_t rfl) T2725 (mF.up (mF.up (mF.up (mF.call mF.refl F2530 rfl) (A_23 hw) u2718 rfl) (A_23 hw) u2721 rfl) (A_23 hw) u2724 rfl) ⟨(((((W2533 z2521 z2520 z2519 z2518 z2517 μ2522 rfl h2524 h2525 h2526 h2527 h2528 T2529 F2530).1 h2715) μ2717 u2718 T2719) μ2720 u2721 T2722) μ2723 u2724 T2725), trivial⟩
      have h2726 : 0 ≤ z2517 ∧ z2517 ≤ 1000 := (vc_X6_readBranches_Wx6_3 h2715 h2528)
      refine mr_iload (pc := 21) (z := z2518) dX6_readBranches_21 rfl ?_
      refine mr_if_eq (pc := 23) (tgt := 211) dX6_readBranches_23 (by decide) (r32 h2527 rfl) (fun h2905 => ?_) (fun h2905 => ?_)
      · have h2906 : 0 ≤ z2518 ∧ z2518 ≤ 0 := (vc_X12_ring_22 h2905 h2527)
        refine sv_aload_n (pc := 211) dX6_readBranches_211 rfl rfl ?_
        refine mr_iload_n (pc := 212) (z := z2521) dX6_readBranches_212 rfl rfl ?_
        refine pf_X6_15 (pc := 213) dX6_readBranches_213 wF_X6_186 (A_23 hw) T2529 h2524 fun μ2907 u2908 T2909 => ?_
        refine sv_aload_n (pc := 216) dX6_readBranches_216 rfl rfl ?_
        refine mr_lload_n (pc := 217) (z := z2520) dX6_readBranches_217 rfl rfl ?_
        refine pf_X6_16 (pc := 218) dX6_readBranches_218 wF_X6_179 (A_23 hw) T2909 h2525 fun μ2910 u2911 T2912 => ?_
        refine sv_aload_n (pc := 221) dX6_readBranches_221 rfl rfl ?_
        refine mr_lload (pc := 222) (z := z2519) dX6_readBranches_222 rfl ?_
        refine pf_X6_17 (pc := 224) dX6_readBranches_224 wF_X6_183 (A_23 hw) T2912 h2526 fun μ2913 u2914 T2915 => ?_
        exact mr_vret dX6_readBranches_227 rfl (le_t rfl) (le_t rfl) T2915 (mF.up (mF.up (mF.up (mF.call mF.refl F2530 rfl) (A_23 hw) u2908 rfl) (A_23 hw) u2911 rfl) (A_23 hw) u2914 rfl) ⟨((((((W2533 z2521 z2520 z2519 z2518 z2517 μ2522 rfl h2524 h2525 h2526 h2527 h2528 T2529 F2530).2 h2715).1 h2905) μ2907 u2908 T2909) μ2910 u2911 T2912) μ2913 u2914 T2915), trivial⟩
      have h2916 : 1 ≤ z2518 ∧ z2518 ≤ 1 := (vc_X12_ring_24 h2905 h2527)
      refine mr_iconst (pc := 26) (z := 1) dX6_readBranches_26 ?_
      refine mr_istore (pc := 27) (lv' := [(9, iv 1), (0, .ref 23), (1, iv p1), (2, iv z2521), (3, jv z2520), (5, jv z2519), (7, iv z2518), (8, iv z2517)]) dX6_readBranches_27 (by decide) rfl ?_
      refine mr_lconst (pc := 29) (z := 0) dX6_readBranches_29 (by decide) ?_
      refine mr_lstore (pc := 30) (lv' := [(10, jv 0), (9, iv 1), (0, .ref 23), (1, iv p1), (2, iv z2521), (3, jv z2520), (5, jv z2519), (7, iv z2518), (8, iv z2517)]) dX6_readBranches_30 (by decide) rfl ?_
      refine mr_lconst (pc := 32) (z := 0) dX6_readBranches_32 (by decide) ?_
      refine mr_lstore (pc := 33) (lv' := [(12, jv 0), (10, jv 0), (9, iv 1), (0, .ref 23), (1, iv p1), (2, iv z2521), (3, jv z2520), (5, jv z2519), (7, iv z2518), (8, iv z2517)]) dX6_readBranches_33 (by decide) rfl ?_
      refine mr_iconst (pc := 35) (z := 0) dX6_readBranches_35 ?_
      refine mr_istore (pc := 36) (lv' := [(14, iv 0), (12, jv 0), (10, jv 0), (9, iv 1), (0, .ref 23), (1, iv p1), (2, iv z2521), (3, jv z2520), (5, jv z2519), (7, iv z2518), (8, iv z2517)]) dX6_readBranches_36 (by decide) rfl ?_
      have L4034 : ∀ (nL4034 : Nat) (z4032 z4031 z4030 z4029 : Int) (μ4033 : mM), mT w μ4033 → mF [23009, 23012, 23015, 23016, 23017, 23018, 23019, 28999, 29999] w μ2522 μ4033 → (0 ≤ z4032 ∧ z4032 ≤ 1) → ((-9223372036854775808) ≤ z4031 ∧ z4031 ≤ 9223372036854775807) → ((-9223372036854775808) ≤ z4030 ∧ z4030 ≤ 9223372036854775807) → (0 ≤ z4029 ∧ z4029 ≤ 1001) → (1002 - z4029) < (nL4034 : Int) → loopF (WL_X6_readBranches_Wx2_2 w p1 (loopF (WL_X6_readBranches_Wx2_1 w μ p1 Q) False nL2523) z2521 z2520 z2519 z2517 μ2522) False nL4034 (z4032, z4031, z4030, z4029, μ4033) → sV (gG l D c H0 sa) mX6_readBranches (sRm 11 0 0) (sZ (gG l D c H0 sa) 0 0 (qV w [23009, 23012, 23015, 23016, 23017, 23018, 23019, 28999, 29999] μ (fun μ1 => Q μ1 ∧ True))) 38 [(0, .ref 23), (1, iv p1), (2, iv z2521), (3, jv z2520), (5, jv z2519), (8, iv z2517), (9, iv z4032), (10, jv z4031), (12, jv z4030), (14, iv z4029)] [] (mk w μ4033) 0 0 := by
        intro nL4034
        induction nL4034 with
        | zero => intro z4032 z4031 z4030 z4029 μ4033 T4039 F4040 h4035 h4036 h4037 h4038 h4042 W4043; exact ((vc_X6_readBranches_Wx6_1 h4042 h4038)).elim
        | succ nL4034 ih4044 =>
          intro z4032 z4031 z4030 z4029 μ4033 T4039 F4040 h4035 h4036 h4037 h4038 h4042 W4043
          refine mr_iload (pc := 38) (z := z4029) dX6_readBranches_38 rfl ?_
          refine mr_sipush (pc := 40) (z := 1000) dX6_readBranches_40 (by decide) ?_
          have J4111 : ((WJ_X6_readBranches_Wx2_3 w (loopF (WL_X6_readBranches_Wx2_1 w μ p1 Q) False nL2523) z2521 z2520 z2519 z2517 z4032 z4031 z4030 μ4033) ) → sV (gG l D c H0 sa) mX6_readBranches (sRm 11 0 0) (sZ (gG l D c H0 sa) 0 0 (qV w [23009, 23012, 23015, 23016, 23017, 23018, 23019, 28999, 29999] μ (fun μ1 => Q μ1 ∧ True))) 169 [(0, .ref 23), (1, iv p1), (2, iv z2521), (3, jv z2520), (5, jv z2519), (8, iv z2517), (9, iv z4032), (10, jv z4031), (12, jv z4030)] [] (mk w μ4033) 0 0 := by
            intro W4112
            refine mr_iload_n (pc := 169) (z := z2521) dX6_readBranches_169 rfl rfl ?_
            have J4119 : ∀ (z4117 : Int), ((0 ≤ z4117 ∧ z4117 ≤ 1)) → ((WJ_X6_readBranches_Wx2_4 w (loopF (WL_X6_readBranches_Wx2_1 w μ p1 Q) False nL2523) z2520 z2519 z2517 z4031 z4030 μ4033) z4117) → sV (gG l D c H0 sa) mX6_readBranches (sRm 11 0 0) (sZ (gG l D c H0 sa) 0 0 (qV w [23009, 23012, 23015, 23016, 23017, 23018, 23019, 28999, 29999] μ (fun μ1 => Q μ1 ∧ True))) 183 [(0, .ref 23), (1, iv p1), (3, jv z2520), (5, jv z2519), (8, iv z2517), (10, jv z4031), (12, jv z4030)] [iv z4117] (mk w μ4033) 0 0 := by
              intro z4117 h4118 W4120
              refine mr_istore_n (pc := 183) (lv' := [(2, iv z4117), (0, .ref 23), (1, iv p1), (3, jv z2520), (5, jv z2519), (8, iv z2517), (10, jv z4031), (12, jv z4030)]) dX6_readBranches_183 rfl (by decide) rfl ?_
              refine mr_lload_n (pc := 184) (z := z2520) dX6_readBranches_184 rfl rfl ?_
              refine mr_lload (pc := 185) (z := z4031) dX6_readBranches_185 rfl ?_
              refine mr_lor (pc := 187) dX6_readBranches_187 ?_
              refine mr_genL (r64i _) fun z4121 q4122 h4123 => ?_
              refine mr_lstore_n (pc := 188) (lv' := [(3, jv z4121), (2, iv z4117), (0, .ref 23), (1, iv p1), (5, jv z2519), (8, iv z2517), (10, jv z4031), (12, jv z4030)]) dX6_readBranches_188 rfl (by decide) rfl ?_
              refine mr_lload (pc := 189) (z := z2519) dX6_readBranches_189 rfl ?_
              refine mr_lload (pc := 191) (z := z4030) dX6_readBranches_191 rfl ?_
              refine mr_lor (pc := 193) dX6_readBranches_193 ?_
              refine mr_genL (r64i _) fun z4124 q4125 h4126 => ?_
              refine mr_lstore (pc := 194) (lv' := [(5, jv z4124), (3, jv z4121), (2, iv z4117), (0, .ref 23), (1, iv p1), (8, iv z2517), (10, jv z4031), (12, jv z4030)]) dX6_readBranches_194 (by decide) rfl ?_
              refine sv_aload_n (pc := 196) dX6_readBranches_196 rfl rfl ?_
              refine mr_sipush (pc := 197) (z := 1124) dX6_readBranches_197 (by decide) ?_
              refine mr_cVI (pc := 200) (c_X6_take_Wx hw T4039 (rW (c := (-2147483648)) (d := 2147483647) (rR (x := 1124)) rfl) (((W4120 h4118) z4121 q4122) z4124 q4125)) (gOk _ _ _ _ _) dX6_readBranches_200 (tX6_take _ _ _ _ _) ⟨wV_X6_take, wL_X6_take⟩ wM_X6_120 (gCX6 _ _ _ _ _) rfl (A_23 hw) rfl ⟨le_t rfl, le_t rfl⟩ ⟨le_t rfl, le_t rfl⟩ rfl (le_t rfl) fun z4131 μ4127 T4128 F4129 h4130 => ?_
              refine mr_istore (pc := 203) (lv' := [(7, iv z4131), (5, jv z4124), (3, jv z4121), (2, iv z4117), (0, .ref 23), (1, iv p1), (8, iv z2517), (10, jv z4031), (12, jv z4030)]) dX6_readBranches_203 (by decide) rfl ?_
              refine mr_iinc (pc := 205) (lv' := [(8, iv (z2517 + 1)), (7, iv z4131), (5, jv z4124), (3, jv z4121), (2, iv z4117), (0, .ref 23), (1, iv p1), (10, jv z4031), (12, jv z4030)]) dX6_readBranches_205 rfl (by decide) rfl ?_
              refine sv_goto (pc := 208) (tgt := 13) dX6_readBranches_208 (by decide) ?_
              refine mr_lvS (lv' := [(0, .ref 23), (1, iv p1), (2, iv z4117), (3, jv z4121), (5, jv z4124), (7, iv z4131), (8, iv (z2517 + 1))]) (List.forall_mem_cons.mpr ⟨rfl, List.forall_mem_cons.mpr ⟨rfl, List.forall_mem_cons.mpr ⟨rfl, List.forall_mem_cons.mpr ⟨rfl, List.forall_mem_cons.mpr ⟨rfl, List.forall_mem_cons.mpr ⟨rfl, List.forall_mem_cons.mpr ⟨rfl, fun _ h => absurd h List.not_mem_nil⟩⟩⟩⟩⟩⟩⟩) ?_
              exact ih2534 z4117 z4121 z4124 z4131 (z2517 + 1) μ4127 T4128 (mF.call (mF.call (mF.call mF.refl F2530 rfl) F4040 rfl) F4129 rfl) h4118 h4123 h4126 h4130.1 (rW (c := 0) (d := 1001) (rAdd (e := 1) (f := 1001) h2726 (rR (x := 1)) rfl) rfl) (vc_X6_readBranches_Wx6_7 (nS h2532) h2715 h2726) ((h4130.2.1 T4128 F4129) h4130.1)
            refine mr_if_ne (pc := 170) (tgt := 178) dX6_readBranches_170 (by decide) (r32 h2524 rfl) (fun h4132 => ?_) (fun h4132 => ?_)
            · have h4133 : 1 ≤ z2521 ∧ z2521 ≤ 1 := (vc_X12_ring_24 h4132 h2524)
              refine mr_iconst (pc := 178) (z := 1) dX6_readBranches_178 ?_
              refine sv_goto (pc := 179) (tgt := 183) dX6_readBranches_179 (by decide) ?_
              refine mr_lvS (lv' := [(0, .ref 23), (1, iv p1), (3, jv z2520), (5, jv z2519), (8, iv z2517), (10, jv z4031), (12, jv z4030)]) (List.forall_mem_cons.mpr ⟨rfl, List.forall_mem_cons.mpr ⟨rfl, List.forall_mem_cons.mpr ⟨rfl, List.forall_mem_cons.mpr ⟨rfl, List.forall_mem_cons.mpr ⟨rfl, List.forall_mem_cons.mpr ⟨rfl, List.forall_mem_cons.mpr ⟨rfl, fun _ h => absurd h List.not_mem_nil⟩⟩⟩⟩⟩⟩⟩) ?_
              exact J4119 1 (rW (c := 0) (d := 1) (rR (x := 1)) rfl) ((W4112).1 h4132)
            have h4134 : 0 ≤ z2521 ∧ z2521 ≤ 0 := (vc_X12_ring_22 h4132 h2524)
            refine mr_iload (pc := 173) (z := z4032) dX6_readBranches_173 rfl ?_
            refine mr_if_eq (pc := 175) (tgt := 182) dX6_readBranches_175 (by decide) (r32 h4035 rfl) (fun h4135 => ?_) (fun h4135 => ?_)
            · have h4136 : 0 ≤ z4032 ∧ z4032 ≤ 0 := (vc_X12_ring_22 h4135 h4035)
              refine mr_iconst (pc := 182) (z := 0) dX6_readBranches_182 ?_
              refine mr_lvS (lv' := [(0, .ref 23), (1, iv p1), (3, jv z2520), (5, jv z2519), (8, iv z2517), (10, jv z4031), (12, jv z4030)]) (List.forall_mem_cons.mpr ⟨rfl, List.forall_mem_cons.mpr ⟨rfl, List.forall_mem_cons.mpr ⟨rfl, List.forall_mem_cons.mpr ⟨rfl, List.forall_mem_cons.mpr ⟨rfl, List.forall_mem_cons.mpr ⟨rfl, List.forall_mem_cons.mpr ⟨rfl, fun _ h => absurd h List.not_mem_nil⟩⟩⟩⟩⟩⟩⟩) ?_
              exact J4119 0 (rW (c := 0) (d := 1) (rR (x := 0)) rfl) (((W4112).2 h4132).1 h4135)
            have h4137 : 1 ≤ z4032 ∧ z4032 ≤ 1 := (vc_X12_ring_24 h4135 h4035)
            refine mr_iconst (pc := 178) (z := 1) dX6_readBranches_178 ?_
            refine sv_goto (pc := 179) (tgt := 183) dX6_readBranches_179 (by decide) ?_
            refine mr_lvS (lv' := [(0, .ref 23), (1, iv p1), (3, jv z2520), (5, jv z2519), (8, iv z2517), (10, jv z4031), (12, jv z4030)]) (List.forall_mem_cons.mpr ⟨rfl, List.forall_mem_cons.mpr ⟨rfl, List.forall_mem_cons.mpr ⟨rfl, List.forall_mem_cons.mpr ⟨rfl, List.forall_mem_cons.mpr ⟨rfl, List.forall_mem_cons.mpr ⟨rfl, List.forall_mem_cons.mpr ⟨rfl, fun _ h => absurd h List.not_mem_nil⟩⟩⟩⟩⟩⟩⟩) ?_
            exact J4119 1 (rW (c := 0) (d := 1) (rR (x := 1)) rfl) (((W4112).2 h4132).2 h4135)
          refine mr_icmp_gt (pc := 43) (tgt := 169) dX6_readBranches_43 (by decide) (r32 h4038 rfl) (r32 (rR (x := 1000)) rfl) (fun h4138 => ?_) (fun h4138 => ?_)
          · have h4139 : 1001 ≤ z4029 ∧ z4029 ≤ 1001 := (vc_X6_readBranches_Wx6_2 h4138 h4038)
            refine mr_lvS (lv' := [(0, .ref 23), (1, iv p1), (2, iv z2521), (3, jv z2520), (5, jv z2519), (8, iv z2517), (9, iv z4032), (10, jv z4031), (12, jv z4030)]) (List.forall_mem_cons.mpr ⟨rfl, List.forall_mem_cons.mpr ⟨rfl, List.forall_mem_cons.mpr ⟨rfl, List.forall_mem_cons.mpr ⟨rfl, List.forall_mem_cons.mpr ⟨rfl, List.forall_mem_cons.mpr ⟨rfl, List.forall_mem_cons.mpr ⟨rfl, List.forall_mem_cons.mpr ⟨rfl, List.forall_mem_cons.mpr ⟨rfl, fun _ h => absurd h List.not_mem_nil⟩⟩⟩⟩⟩⟩⟩⟩⟩) ?_
            exact J4111 ((W4043 z4032 z4031 z4030 z4029 μ4033 rfl h4035 h4036 h4037 h4038 T4039 F4040).1 h4138)
          have h4140 : 0 ≤ z4029 ∧ z4029 ≤ 1000 := (vc_X6_readBranches_Wx6_3 h4138 h4038)
          refine sv_aload_n (pc := 46) dX6_readBranches_46 rfl rfl ?_
          refine gf_X6_0 (pc := 47) dX6_readBranches_47 wF_X6_9 (A_23 hw) T4039 ?_
          refine sv_aload_n (pc := 50) dX6_readBranches_50 rfl rfl ?_
          refine gf_X6_9 (pc := 51) dX6_readBranches_51 wF_X6_63 (A_23 hw) T4039 fun z4141 q4142 h4143 => ?_
          refine la_24 (pc := 54) dX6_readBranches_54 (A_24 hw) T4039 (rIx (n := 1001) h4143 rfl) fun z4144 q4145 h4146 => ?_
          have W4152 := ((((W4043 z4032 z4031 z4030 z4029 μ4033 rfl h4035 h4036 h4037 h4038 T4039 F4040).2 h4138) z4141 q4142 h4143) z4144 q4145 h4146)
          refine mr_cSP (pc := 55) (c_X6_beginsPiece_Wx hw T4039 h4146 W4152) (gOk _ _ _ _ _) dX6_readBranches_55 (tX6_beginsPiece _ _ _ _ _) wS_X6_beginsPiece wM_X6_190 ⟨le_t rfl, le_t rfl⟩ ⟨le_t rfl, le_t rfl⟩ rfl (le_t rfl) fun z4151 h4150 => ?_
          refine mr_if_eq (pc := 58) (tgt := 169) dX6_readBranches_58 (by decide) (r32 h4150.1 rfl) (fun h4153 => ?_) (fun h4153 => ?_)
          · have h4154 : 0 ≤ z4151 ∧ z4151 ≤ 0 := (vc_X12_ring_22 h4153 h4150.1)
            refine mr_lvS (lv' := [(0, .ref 23), (1, iv p1), (2, iv z2521), (3, jv z2520), (5, jv z2519), (8, iv z2517), (9, iv z4032), (10, jv z4031), (12, jv z4030)]) (List.forall_mem_cons.mpr ⟨rfl, List.forall_mem_cons.mpr ⟨rfl, List.forall_mem_cons.mpr ⟨rfl, List.forall_mem_cons.mpr ⟨rfl, List.forall_mem_cons.mpr ⟨rfl, List.forall_mem_cons.mpr ⟨rfl, List.forall_mem_cons.mpr ⟨rfl, List.forall_mem_cons.mpr ⟨rfl, List.forall_mem_cons.mpr ⟨rfl, fun _ h => absurd h List.not_mem_nil⟩⟩⟩⟩⟩⟩⟩⟩⟩) ?_
            exact J4111 ((h4150.2.1 h4150.1).1 h4153)
          have h4155 : 1 ≤ z4151 ∧ z4151 ≤ 1 := (vc_X12_ring_24 h4153 h4150.1)
          refine sv_aload_n (pc := 61) dX6_readBranches_61 rfl rfl ?_
          refine gf_X6_0 (pc := 62) dX6_readBranches_62 wF_X6_9 (A_23 hw) T4039 ?_
          refine sv_aload_n (pc := 65) dX6_readBranches_65 rfl rfl ?_
          refine gk_X6_9 (pc := 66) dX6_readBranches_66 wF_X6_63 (A_23 hw) q4142 ?_
          refine lk_24 (pc := 69) dX6_readBranches_69 (A_24 hw) (rIx (n := 1001) h4143 rfl) q4145 ?_
          refine mr_sipush (pc := 70) (z := 1040) dX6_readBranches_70 (by decide) ?_
          have J4169 : ∀ (μ4165 : mM), (mT w μ4165) → (mF [23009, 23012, 23015, 23016, 23017, 23018, 23019, 28999, 29999] w μ4033 μ4165) → ((WJ_X6_readBranches_Wx2_5 w (loopF (WL_X6_readBranches_Wx2_2 w p1 (loopF (WL_X6_readBranches_Wx2_1 w μ p1 Q) False nL2523) z2521 z2520 z2519 z2517 μ2522) False nL4034) z4032 z4031 z4030 z4029 μ4033) μ4165) → sV (gG l D c H0 sa) mX6_readBranches (sRm 11 0 0) (sZ (gG l D c H0 sa) 0 0 (qV w [23009, 23012, 23015, 23016, 23017, 23018, 23019, 28999, 29999] μ (fun μ1 => Q μ1 ∧ True))) 88 [(0, .ref 23), (1, iv p1), (2, iv z2521), (3, jv z2520), (5, jv z2519), (8, iv z2517), (9, iv z4032), (10, jv z4031), (12, jv z4030), (14, iv z4029)] [] (mk w μ4165) 0 0 := by
            intro μ4165 T4166 F4167 W4170
            refine sv_aload_n (pc := 88) dX6_readBranches_88 rfl rfl ?_
            refine mr_cVV (pc := 89) (c_X6_readRepeat_Wx hw T4166 (W4170 T4166 F4167)) (gOk _ _ _ _ _) dX6_readBranches_89 (tX6_readRepeat _ _ _ _ _) ⟨wV_X6_readRepeat, wL_X6_readRepeat⟩ wM_X6_199 (gCX6 _ _ _ _ _) rfl (A_23 hw) rfl ⟨le_t rfl, le_t rfl⟩ ⟨le_t rfl, le_t rfl⟩ rfl (le_t rfl) fun μ4171 T4172 F4173 h4174 => ?_
            refine sv_aload_n (pc := 92) dX6_readBranches_92 rfl rfl ?_
            refine mr_lload (pc := 93) (z := z4030) dX6_readBranches_93 rfl ?_
            refine sv_aload_n (pc := 95) dX6_readBranches_95 rfl rfl ?_
            refine gf_X6_16 (pc := 96) dX6_readBranches_96 wF_X6_179 (A_23 hw) T4172 fun z4175 q4176 h4177 => ?_
            refine mr_cVV (pc := 99) (c_X6_join_Wx hw T4172 h4037 h4177 ((h4174.1 T4172 F4173) z4175 q4176 h4177)) (gOk _ _ _ _ _) dX6_readBranches_99 (tX6_join _ _ _ _ _) ⟨wV_X6_join, wL_X6_join⟩ wM_X6_202 (gCX6 _ _ _ _ _) rfl (A_23 hw) rfl ⟨le_t rfl, le_t rfl⟩ ⟨le_t rfl, le_t rfl⟩ rfl (le_t rfl) fun μ4178 T4179 F4180 h4181 => ?_
            refine mr_iload (pc := 102) (z := z4032) dX6_readBranches_102 rfl ?_
            have J4189 : ∀ (z4187 : Int), (((-9223372036854775808) ≤ z4187 ∧ z4187 ≤ 9223372036854775807)) → ((WJ_X6_readBranches_Wx2_6 (loopF (WL_X6_readBranches_Wx2_2 w p1 (loopF (WL_X6_readBranches_Wx2_1 w μ p1 Q) False nL2523) z2521 z2520 z2519 z2517 μ2522) False nL4034) z4032 z4030 z4029 μ4178) z4187) → sV (gG l D c H0 sa) mX6_readBranches (sRm 11 0 0) (sZ (gG l D c H0 sa) 0 0 (qV w [23009, 23012, 23015, 23016, 23017, 23018, 23019, 28999, 29999] μ (fun μ1 => Q μ1 ∧ True))) 119 [(0, .ref 23), (1, iv p1), (2, iv z2521), (3, jv z2520), (5, jv z2519), (8, iv z2517), (9, iv z4032), (12, jv z4030), (14, iv z4029)] [jv z4187] (mk w μ4178) 0 0 := by
              intro z4187 h4188 W4190
              refine mr_lstore (pc := 119) (lv' := [(10, jv z4187), (0, .ref 23), (1, iv p1), (2, iv z2521), (3, jv z2520), (5, jv z2519), (8, iv z2517), (9, iv z4032), (12, jv z4030), (14, iv z4029)]) dX6_readBranches_119 (by decide) rfl ?_
              refine sv_aload_n (pc := 121) dX6_readBranches_121 rfl rfl ?_
              refine gf_X6_15 (pc := 122) dX6_readBranches_122 wF_X6_186 (A_23 hw) T4179 fun z4191 q4192 h4193 => ?_
              have J4207 : ∀ (z4205 : Int), (((-9223372036854775808) ≤ z4205 ∧ z4205 ≤ 9223372036854775807)) → ((WJ_X6_readBranches_Wx2_7 (loopF (WL_X6_readBranches_Wx2_2 w p1 (loopF (WL_X6_readBranches_Wx2_1 w μ p1 Q) False nL2523) z2521 z2520 z2519 z2517 μ2522) False nL4034) z4032 z4029 μ4178 z4187 z4191) z4205) → sV (gG l D c H0 sa) mX6_readBranches (sRm 11 0 0) (sZ (gG l D c H0 sa) 0 0 (qV w [23009, 23012, 23015, 23016, 23017, 23018, 23019, 28999, 29999] μ (fun μ1 => Q μ1 ∧ True))) 142 [(0, .ref 23), (1, iv p1), (2, iv z2521), (3, jv z2520), (5, jv z2519), (8, iv z2517), (9, iv z4032), (10, jv z4187), (14, iv z4029)] [jv z4205] (mk w μ4178) 0 0 := by
                intro z4205 h4206 W4208
                refine mr_lstore (pc := 142) (lv' := [(12, jv z4205), (0, .ref 23), (1, iv p1), (2, iv z2521), (3, jv z2520), (5, jv z2519), (8, iv z2517), (9, iv z4032), (10, jv z4187), (14, iv z4029)]) dX6_readBranches_142 (by decide) rfl ?_
                refine mr_iload (pc := 144) (z := z4032) dX6_readBranches_144 rfl ?_
                refine mr_if_eq (pc := 146) (tgt := 160) dX6_readBranches_146 (by decide) (r32 h4035 rfl) (fun h4213 => ?_) (fun h4213 => ?_)
                · have h4214 : 0 ≤ z4032 ∧ z4032 ≤ 0 := (vc_X12_ring_22 h4213 h4035)
                  refine mr_iconst (pc := 160) (z := 0) dX6_readBranches_160 ?_
                  refine mr_istore (pc := 161) (lv' := [(9, iv 0), (12, jv z4205), (0, .ref 23), (1, iv p1), (2, iv z2521), (3, jv z2520), (5, jv z2519), (8, iv z2517), (10, jv z4187), (14, iv z4029)]) dX6_readBranches_161 (by decide) rfl ?_
                  refine mr_iinc (pc := 163) (lv' := [(14, iv (z4029 + 1)), (9, iv 0), (12, jv z4205), (0, .ref 23), (1, iv p1), (2, iv z2521), (3, jv z2520), (5, jv z2519), (8, iv z2517), (10, jv z4187)]) dX6_readBranches_163 rfl (by decide) rfl ?_
                  refine sv_goto (pc := 166) (tgt := 38) dX6_readBranches_166 (by decide) ?_
                  refine mr_lvS (lv' := [(0, .ref 23), (1, iv p1), (2, iv z2521), (3, jv z2520), (5, jv z2519), (8, iv z2517), (9, iv 0), (10, jv z4187), (12, jv z4205), (14, iv (z4029 + 1))]) (List.forall_mem_cons.mpr ⟨rfl, List.forall_mem_cons.mpr ⟨rfl, List.forall_mem_cons.mpr ⟨rfl, List.forall_mem_cons.mpr ⟨rfl, List.forall_mem_cons.mpr ⟨rfl, List.forall_mem_cons.mpr ⟨rfl, List.forall_mem_cons.mpr ⟨rfl, List.forall_mem_cons.mpr ⟨rfl, List.forall_mem_cons.mpr ⟨rfl, List.forall_mem_cons.mpr ⟨rfl, fun _ h => absurd h List.not_mem_nil⟩⟩⟩⟩⟩⟩⟩⟩⟩⟩) ?_
                  exact ih4044 0 z4187 z4205 (z4029 + 1) μ4178 T4179 (mF.call (mF.call (mF.call (mF.call mF.refl F4040 rfl) F4167 rfl) F4173 rfl) F4180 rfl) (rW (c := 0) (d := 1) (rR (x := 0)) rfl) h4188 h4206 (rW (c := 0) (d := 1001) (rAdd (e := 1) (f := 1001) h4140 (rR (x := 1)) rfl) rfl) (vc_X6_readBranches_Wx6_7 (nS h4042) h4138 h4140) ((W4208 h4206).1 h4213)
                have h4215 : 1 ≤ z4032 ∧ z4032 ≤ 1 := (vc_X12_ring_24 h4213 h4035)
                refine sv_aload_n (pc := 149) dX6_readBranches_149 rfl rfl ?_
                refine gk_X6_15 (pc := 150) dX6_readBranches_150 wF_X6_186 (A_23 hw) q4192 ?_
                refine mr_if_eq (pc := 153) (tgt := 160) dX6_readBranches_153 (by decide) (r32 h4193 rfl) (fun h4218 => ?_) (fun h4218 => ?_)
                · have h4219 : 0 ≤ z4191 ∧ z4191 ≤ 0 := (vc_X12_ring_22 h4218 h4193)
                  refine mr_iconst (pc := 160) (z := 0) dX6_readBranches_160 ?_
                  refine mr_istore (pc := 161) (lv' := [(9, iv 0), (12, jv z4205), (0, .ref 23), (1, iv p1), (2, iv z2521), (3, jv z2520), (5, jv z2519), (8, iv z2517), (10, jv z4187), (14, iv z4029)]) dX6_readBranches_161 (by decide) rfl ?_
                  refine mr_iinc (pc := 163) (lv' := [(14, iv (z4029 + 1)), (9, iv 0), (12, jv z4205), (0, .ref 23), (1, iv p1), (2, iv z2521), (3, jv z2520), (5, jv z2519), (8, iv z2517), (10, jv z4187)]) dX6_readBranches_163 rfl (by decide) rfl ?_
                  refine sv_goto (pc := 166) (tgt := 38) dX6_readBranches_166 (by decide) ?_
                  refine mr_lvS (lv' := [(0, .ref 23), (1, iv p1), (2, iv z2521), (3, jv z2520), (5, jv z2519), (8, iv z2517), (9, iv 0), (10, jv z4187), (12, jv z4205), (14, iv (z4029 + 1))]) (List.forall_mem_cons.mpr ⟨rfl, List.forall_mem_cons.mpr ⟨rfl, List.forall_mem_cons.mpr ⟨rfl, List.forall_mem_cons.mpr ⟨rfl, List.forall_mem_cons.mpr ⟨rfl, List.forall_mem_cons.mpr ⟨rfl, List.forall_mem_cons.mpr ⟨rfl, List.forall_mem_cons.mpr ⟨rfl, List.forall_mem_cons.mpr ⟨rfl, List.forall_mem_cons.mpr ⟨rfl, fun _ h => absurd h List.not_mem_nil⟩⟩⟩⟩⟩⟩⟩⟩⟩⟩) ?_
                  exact ih4044 0 z4187 z4205 (z4029 + 1) μ4178 T4179 (mF.call (mF.call (mF.call (mF.call mF.refl F4040 rfl) F4167 rfl) F4173 rfl) F4180 rfl) (rW (c := 0) (d := 1) (rR (x := 0)) rfl) h4188 h4206 (rW (c := 0) (d := 1001) (rAdd (e := 1) (f := 1001) h4140 (rR (x := 1)) rfl) rfl) (vc_X6_readBranches_Wx6_7 (nS h4042) h4138 h4140) (((W4208 h4206).2 h4213).1 h4218)
                have h4220 : 1 ≤ z4191 ∧ z4191 ≤ 1 := (vc_X12_ring_24 h4218 h4193)
                refine mr_iconst (pc := 156) (z := 1) dX6_readBranches_156 ?_
                refine sv_goto (pc := 157) (tgt := 161) dX6_readBranches_157 (by decide) ?_
                refine mr_istore (pc := 161) (lv' := [(9, iv 1), (12, jv z4205), (0, .ref 23), (1, iv p1), (2, iv z2521), (3, jv z2520), (5, jv z2519), (8, iv z2517), (10, jv z4187), (14, iv z4029)]) dX6_readBranches_161 (by decide) rfl ?_
                refine mr_iinc (pc := 163) (lv' := [(14, iv (z4029 + 1)), (9, iv 1), (12, jv z4205), (0, .ref 23), (1, iv p1), (2, iv z2521), (3, jv z2520), (5, jv z2519), (8, iv z2517), (10, jv z4187)]) dX6_readBranches_163 rfl (by decide) rfl ?_
                refine sv_goto (pc := 166) (tgt := 38) dX6_readBranches_166 (by decide) ?_
                refine mr_lvS (lv' := [(0, .ref 23), (1, iv p1), (2, iv z2521), (3, jv z2520), (5, jv z2519), (8, iv z2517), (9, iv 1), (10, jv z4187), (12, jv z4205), (14, iv (z4029 + 1))]) (List.forall_mem_cons.mpr ⟨rfl, List.forall_mem_cons.mpr ⟨rfl, List.forall_mem_cons.mpr ⟨rfl, List.forall_mem_cons.mpr ⟨rfl, List.forall_mem_cons.mpr ⟨rfl, List.forall_mem_cons.mpr ⟨rfl, List.forall_mem_cons.mpr ⟨rfl, List.forall_mem_cons.mpr ⟨rfl, List.forall_mem_cons.mpr ⟨rfl, List.forall_mem_cons.mpr ⟨rfl, fun _ h => absurd h List.not_mem_nil⟩⟩⟩⟩⟩⟩⟩⟩⟩⟩) ?_
                exact ih4044 1 z4187 z4205 (z4029 + 1) μ4178 T4179 (mF.call (mF.call (mF.call (mF.call mF.refl F4040 rfl) F4167 rfl) F4173 rfl) F4180 rfl) (rW (c := 0) (d := 1) (rR (x := 1)) rfl) h4188 h4206 (rW (c := 0) (d := 1001) (rAdd (e := 1) (f := 1001) h4140 (rR (x := 1)) rfl) rfl) (vc_X6_readBranches_Wx6_7 (nS h4042) h4138 h4140) (((W4208 h4206).2 h4213).2 h4218)
              refine mr_if_eq (pc := 125) (tgt := 138) dX6_readBranches_125 (by decide) (r32 h4193 rfl) (fun h4221 => ?_) (fun h4221 => ?_)
              · have h4222 : 0 ≤ z4191 ∧ z4191 ≤ 0 := (vc_X12_ring_22 h4221 h4193)
                refine sv_aload_n (pc := 138) dX6_readBranches_138 rfl rfl ?_
                refine gf_X6_17 (pc := 139) dX6_readBranches_139 wF_X6_183 (A_23 hw) T4179 fun z4223 q4224 h4225 => ?_
                refine mr_lvS (lv' := [(0, .ref 23), (1, iv p1), (2, iv z2521), (3, jv z2520), (5, jv z2519), (8, iv z2517), (9, iv z4032), (10, jv z4187), (14, iv z4029)]) (List.forall_mem_cons.mpr ⟨rfl, List.forall_mem_cons.mpr ⟨rfl, List.forall_mem_cons.mpr ⟨rfl, List.forall_mem_cons.mpr ⟨rfl, List.forall_mem_cons.mpr ⟨rfl, List.forall_mem_cons.mpr ⟨rfl, List.forall_mem_cons.mpr ⟨rfl, List.forall_mem_cons.mpr ⟨rfl, List.forall_mem_cons.mpr ⟨rfl, fun _ h => absurd h List.not_mem_nil⟩⟩⟩⟩⟩⟩⟩⟩⟩) ?_
                exact J4207 z4223 h4225 ((((W4190 h4188) z4191 q4192 h4193).1 h4221) z4223 q4224 h4225)
              have h4226 : 1 ≤ z4191 ∧ z4191 ≤ 1 := (vc_X12_ring_24 h4221 h4193)
              refine mr_lload (pc := 128) (z := z4030) dX6_readBranches_128 rfl ?_
              refine sv_aload_n (pc := 130) dX6_readBranches_130 rfl rfl ?_
              refine gf_X6_17 (pc := 131) dX6_readBranches_131 wF_X6_183 (A_23 hw) T4179 fun z4227 q4228 h4229 => ?_
              refine mr_lor (pc := 134) dX6_readBranches_134 ?_
              refine mr_genL (r64i _) fun z4230 q4231 h4232 => ?_
              refine sv_goto (pc := 135) (tgt := 142) dX6_readBranches_135 (by decide) ?_
              refine mr_lvS (lv' := [(0, .ref 23), (1, iv p1), (2, iv z2521), (3, jv z2520), (5, jv z2519), (8, iv z2517), (9, iv z4032), (10, jv z4187), (14, iv z4029)]) (List.forall_mem_cons.mpr ⟨rfl, List.forall_mem_cons.mpr ⟨rfl, List.forall_mem_cons.mpr ⟨rfl, List.forall_mem_cons.mpr ⟨rfl, List.forall_mem_cons.mpr ⟨rfl, List.forall_mem_cons.mpr ⟨rfl, List.forall_mem_cons.mpr ⟨rfl, List.forall_mem_cons.mpr ⟨rfl, List.forall_mem_cons.mpr ⟨rfl, fun _ h => absurd h List.not_mem_nil⟩⟩⟩⟩⟩⟩⟩⟩⟩) ?_
              exact J4207 z4230 h4232 (((((W4190 h4188) z4191 q4192 h4193).2 h4221) z4227 q4228 h4229) z4230 q4231)
            refine mr_if_eq (pc := 104) (tgt := 117) dX6_readBranches_104 (by decide) (r32 h4035 rfl) (fun h4233 => ?_) (fun h4233 => ?_)
            · have h4234 : 0 ≤ z4032 ∧ z4032 ≤ 0 := (vc_X12_ring_22 h4233 h4035)
              refine mr_lload (pc := 117) (z := z4031) dX6_readBranches_117 rfl ?_
              refine mr_lvS (lv' := [(0, .ref 23), (1, iv p1), (2, iv z2521), (3, jv z2520), (5, jv z2519), (8, iv z2517), (9, iv z4032), (12, jv z4030), (14, iv z4029)]) (List.forall_mem_cons.mpr ⟨rfl, List.forall_mem_cons.mpr ⟨rfl, List.forall_mem_cons.mpr ⟨rfl, List.forall_mem_cons.mpr ⟨rfl, List.forall_mem_cons.mpr ⟨rfl, List.forall_mem_cons.mpr ⟨rfl, List.forall_mem_cons.mpr ⟨rfl, List.forall_mem_cons.mpr ⟨rfl, List.forall_mem_cons.mpr ⟨rfl, fun _ h => absurd h List.not_mem_nil⟩⟩⟩⟩⟩⟩⟩⟩⟩) ?_
              exact J4189 z4031 h4036 ((h4181.1 T4179 F4180).1 h4233)
            have h4235 : 1 ≤ z4032 ∧ z4032 ≤ 1 := (vc_X12_ring_24 h4233 h4035)
            refine mr_lload (pc := 107) (z := z4031) dX6_readBranches_107 rfl ?_
            refine sv_aload_n (pc := 109) dX6_readBranches_109 rfl rfl ?_
            refine gk_X6_16 (pc := 110) dX6_readBranches_110 wF_X6_179 (A_23 hw) (F4180.f (A_23 hw) rfl q4176) ?_
            refine mr_lor (pc := 113) dX6_readBranches_113 ?_
            refine mr_genL (r64i _) fun z4236 q4237 h4238 => ?_
            refine sv_goto (pc := 114) (tgt := 119) dX6_readBranches_114 (by decide) ?_
            refine mr_lvS (lv' := [(0, .ref 23), (1, iv p1), (2, iv z2521), (3, jv z2520), (5, jv z2519), (8, iv z2517), (9, iv z4032), (12, jv z4030), (14, iv z4029)]) (List.forall_mem_cons.mpr ⟨rfl, List.forall_mem_cons.mpr ⟨rfl, List.forall_mem_cons.mpr ⟨rfl, List.forall_mem_cons.mpr ⟨rfl, List.forall_mem_cons.mpr ⟨rfl, List.forall_mem_cons.mpr ⟨rfl, List.forall_mem_cons.mpr ⟨rfl, List.forall_mem_cons.mpr ⟨rfl, List.forall_mem_cons.mpr ⟨rfl, fun _ h => absurd h List.not_mem_nil⟩⟩⟩⟩⟩⟩⟩⟩⟩) ?_
            exact J4189 z4236 h4238 (((h4181.1 T4179 F4180).2 h4233) z4236 q4237)
          refine mr_icmp_ne (pc := 73) (tgt := 84) dX6_readBranches_73 (by decide) h4146 (r32 (rR (x := 1040)) rfl) (fun h4239 => ?_) (fun h4239 => ?_)
          · refine sv_aload_n (pc := 84) dX6_readBranches_84 rfl rfl ?_
            refine mr_cVV (pc := 85) (c_X6_readPlace_Wx hw T4039 (((h4150.2.1 h4150.1).2 h4153).1 h4239)) (gOk _ _ _ _ _) dX6_readBranches_85 (tX6_readPlace _ _ _ _ _) ⟨wV_X6_readPlace, wL_X6_readPlace⟩ wM_X6_196 (gCX6 _ _ _ _ _) rfl (A_23 hw) rfl ⟨le_t rfl, le_t rfl⟩ ⟨le_t rfl, le_t rfl⟩ rfl (le_t rfl) fun μ4240 T4241 F4242 h4243 => ?_
            exact J4169 μ4240 T4241 (mF.call mF.refl F4242 rfl) (h4243.1 T4241 F4242)
          have h4244 : 1040 ≤ z4144 ∧ z4144 ≤ 1040 := (vc_X6_readBranches_Wx6_19 h4239 h4146)
          refine sv_aload_n (pc := 76) dX6_readBranches_76 rfl rfl ?_
          refine mr_iload_n (pc := 77) (z := p1) dX6_readBranches_77 rfl rfl ?_
          refine mr_cVV (pc := 78) (c_X6_readGroup_Wx2 hw T4039 hp1 (((h4150.2.1 h4150.1).2 h4153).2 h4239)) (gOk _ _ _ _ _) dX6_readBranches_78 (tX6_readGroup _ _ _ _ _) ⟨wV_X6_readGroup, wL_X6_readGroup⟩ wM_X6_193 (gCX6 _ _ _ _ _) rfl (A_23 hw) rfl ⟨le_t rfl, le_t rfl⟩ ⟨le_t rfl, le_t rfl⟩ rfl (le_t rfl) fun μ4245 T4246 F4247 h4248 => ?_
          refine sv_goto (pc := 81) (tgt := 88) dX6_readBranches_81 (by decide) ?_
          exact J4169 μ4245 T4246 (mF.call mF.refl F4247 rfl) (h4248.1 T4246 F4247)
      refine mr_lvS (lv' := [(0, .ref 23), (1, iv p1), (2, iv z2521), (3, jv z2520), (5, jv z2519), (8, iv z2517), (9, iv 1), (10, jv 0), (12, jv 0), (14, iv 0)]) (List.forall_mem_cons.mpr ⟨rfl, List.forall_mem_cons.mpr ⟨rfl, List.forall_mem_cons.mpr ⟨rfl, List.forall_mem_cons.mpr ⟨rfl, List.forall_mem_cons.mpr ⟨rfl, List.forall_mem_cons.mpr ⟨rfl, List.forall_mem_cons.mpr ⟨rfl, List.forall_mem_cons.mpr ⟨rfl, List.forall_mem_cons.mpr ⟨rfl, List.forall_mem_cons.mpr ⟨rfl, fun _ h => absurd h List.not_mem_nil⟩⟩⟩⟩⟩⟩⟩⟩⟩⟩) ?_
      exact L4034 1003 1 0 0 0 μ2522 T2529 mF.refl (rW (c := 0) (d := 1) (rR (x := 1)) rfl) (rW (c := -9223372036854775808) (d := 9223372036854775807) (rR (x := 0)) rfl) (rW (c := -9223372036854775808) (d := 9223372036854775807) (rR (x := 0)) rfl) (rW (c := 0) (d := 1001) (rR (x := 0)) rfl) vc_X6_readBranches_Wx6_20 (((W2533 z2521 z2520 z2519 z2518 z2517 μ2522 rfl h2524 h2525 h2526 h2527 h2528 T2529 F2530).2 h2715).2 h2905)
  refine mr_lvS (lv' := [(0, .ref 23), (1, iv p1), (2, iv 0), (3, jv 0), (5, jv 0), (7, iv 1), (8, iv 0)]) (List.forall_mem_cons.mpr ⟨rfl, List.forall_mem_cons.mpr ⟨rfl, List.forall_mem_cons.mpr ⟨rfl, List.forall_mem_cons.mpr ⟨rfl, List.forall_mem_cons.mpr ⟨rfl, List.forall_mem_cons.mpr ⟨rfl, List.forall_mem_cons.mpr ⟨rfl, fun _ h => absurd h List.not_mem_nil⟩⟩⟩⟩⟩⟩⟩) ?_
  exact L2523 1003 0 0 0 1 0 μ hT mF.refl (rW (c := 0) (d := 1) (rR (x := 0)) rfl) (rW (c := -9223372036854775808) (d := 9223372036854775807) (rR (x := 0)) rfl) (rW (c := -9223372036854775808) (d := 9223372036854775807) (rR (x := 0)) rfl) (rW (c := 0) (d := 1) (rR (x := 1)) rfl) (rW (c := 0) (d := 1001) (rR (x := 0)) rfl) vc_X6_readBranches_Wx6_20 hQ
def WP_X6_readGroup_Wx1 (w : mW) (μ : mM) (p1 : Int) (Q : mM → Prop) : Prop := WP_X6_step_Wx w μ  (fun μ1 => mT w μ1 → mF [23009] w μ μ1 → WP_X6_readBranches_Wx2 w μ1 (p1 + 1) (fun μ5 => mT w μ5 → mF [23009, 23012, 23015, 23016, 23017, 23018, 23019, 28999, 29999] w μ1 μ5 → ∀ z9 : Int, μ5 23 9 = z9 → (0 ≤ z9 ∧ z9 ≤ 1000) → ∀ z12 : Int, μ5 24 (z9.toNat) = z12 → ((-2147483648) ≤ z12 ∧ z12 ≤ 2147483647) → ((z12 = 1041) → WP_X6_step_Wx w μ5  (fun μ17 => mT w μ17 → mF [23009] w μ5 μ17 → Q μ17)) ∧ ((¬ z12 = 1041) → WP_X6_fail_Wx w μ5 (2) (fun μ21 => mT w μ21 → mF [23009, 23018, 23019] w μ5 μ21 → Q μ21))))
theorem vc_X6_readGroup_Wx1_1 {p1 : Int} (h0 : 6 ≤ p1) (h1 : 1 ≤ p1 ∧ p1 ≤ 1) : False := by omega
set_option maxRecDepth 4000 in
set_option maxHeartbeats 4000000 in
theorem c_X6_readGroup_Wx1 {l : Launch} {D : va_G} {c : Nat → ClassId} {H0 : Heap} {sa : Nat × Nat × (Nat → Int32)} {w : mW} {μ : mM} (hw : mWF w) (hT : mT w μ) {p1 : Int} (hp1 : 1 ≤ p1 ∧ p1 ≤ 1) {Q : mM → Prop} (hQ : WP_X6_readGroup_Wx1 w μ p1 Q) : sC (gG l D c H0 sa) mX6_readGroup 12 0 0 [.ref 23, iv p1] (mk w μ) (qV w [23009, 23012, 23015, 23016, 23017, 23018, 23019, 28999, 29999] μ (fun μ1 => Q μ1 ∧ True)) := by
  refine sC.of rfl (by decide) (le_t rfl) ?_
  refine mr_lvE (lv' := [(0, .ref 23), (1, iv p1)]) rfl ?_
  refine mr_iload_n (pc := 0) (z := p1) dX6_readGroup_0 rfl rfl ?_
  refine mr_bipush (pc := 1) (z := 6) dX6_readGroup_1 (by decide) ?_
  refine mr_icmp_lt (pc := 3) (tgt := 12) dX6_readGroup_3 (by decide) (r32 hp1 rfl) (r32 (rR (x := 6)) rfl) (fun _ => ?_) (fun h => ((vc_X6_readGroup_Wx1_1 h hp1)).elim)
  refine sv_aload_n (pc := 12) dX6_readGroup_12 rfl rfl ?_
  refine mr_cVV (pc := 13) (c_X6_step_Wx hw hT hQ) (gOk _ _ _ _ _) dX6_readGroup_13 (tX6_step _ _ _ _ _) ⟨wV_X6_step, wL_X6_step⟩ wM_X6_117 (gCX6 _ _ _ _ _) rfl (A_23 hw) rfl ⟨le_t rfl, le_t rfl⟩ ⟨le_t rfl, le_t rfl⟩ rfl (le_t rfl) fun μ1 T2 F3 h4 => ?_
  refine sv_aload_n (pc := 16) dX6_readGroup_16 rfl rfl ?_
  refine mr_iload_n (pc := 17) (z := p1) dX6_readGroup_17 rfl rfl ?_
  refine mr_iconst (pc := 18) (z := 1) dX6_readGroup_18 ?_
  refine mr_iadd (pc := 19) (x := p1) (y := 1) dX6_readGroup_19 ?_
  refine mr_cVV (pc := 20) (c_X6_readBranches_Wx2 hw T2 (rAdd (e := 2) (f := 2) hp1 (rR (x := 1)) rfl) (h4.1 T2 F3)) (gOk _ _ _ _ _) dX6_readGroup_20 (tX6_readBranches _ _ _ _ _) ⟨wV_X6_readBranches, wL_X6_readBranches⟩ wM_X6_176 (gCX6 _ _ _ _ _) rfl (A_23 hw) rfl ⟨le_t rfl, le_t rfl⟩ ⟨le_t rfl, le_t rfl⟩ rfl (le_t rfl) fun μ5 T6 F7 h8 => ?_
  refine sv_aload_n (pc := 23) dX6_readGroup_23 rfl rfl ?_
  refine gf_X6_0 (pc := 24) dX6_readGroup_24 wF_X6_9 (A_23 hw) T6 ?_
  refine sv_aload_n (pc := 27) dX6_readGroup_27 rfl rfl ?_
  refine gf_X6_9 (pc := 28) dX6_readGroup_28 wF_X6_63 (A_23 hw) T6 fun z9 q10 h11 => ?_
  refine la_24 (pc := 31) dX6_readGroup_31 (A_24 hw) T6 (rIx (n := 1001) h11 rfl) fun z12 q13 h14 => ?_
  refine mr_sipush (pc := 32) (z := 1041) dX6_readGroup_32 (by decide) ?_
  refine mr_icmp_eq (pc := 35) (tgt := 44) dX6_readGroup_35 (by decide) h14 (r32 (rR (x := 1041)) rfl) (fun h15 => ?_) (fun h15 => ?_)
  · have h16 : 1041 ≤ z12 ∧ z12 ≤ 1041 := (vc_X6_readGroup_Wx5_2 h15 h14)
    refine sv_aload_n (pc := 44) dX6_readGroup_44 rfl rfl ?_
    refine mr_cVV (pc := 45) (c_X6_step_Wx hw T6 ((((h8.1 T6 F7) z9 q10 h11) z12 q13 h14).1 h15)) (gOk _ _ _ _ _) dX6_readGroup_45 (tX6_step _ _ _ _ _) ⟨wV_X6_step, wL_X6_step⟩ wM_X6_117 (gCX6 _ _ _ _ _) rfl (A_23 hw) rfl ⟨le_t rfl, le_t rfl⟩ ⟨le_t rfl, le_t rfl⟩ rfl (le_t rfl) fun μ17 T18 F19 h20 => ?_
    exact mr_vret dX6_readGroup_48 rfl (le_t rfl) (le_t rfl) T18 (mF.call (mF.call (mF.call mF.refl F3 rfl) F7 rfl) F19 rfl) ⟨(h20.1 T18 F19), trivial⟩
  refine sv_aload_n (pc := 38) dX6_readGroup_38 rfl rfl ?_
  refine mr_iconst (pc := 39) (z := 2) dX6_readGroup_39 ?_
  refine mr_cVV (pc := 40) (c_X6_fail_Wx hw T6 (rW (c := 1) (d := 4) (rR (x := 2)) rfl) ((((h8.1 T6 F7) z9 q10 h11) z12 q13 h14).2 h15)) (gOk _ _ _ _ _) dX6_readGroup_40 (tX6_fail _ _ _ _ _) ⟨wV_X6_fail, wL_X6_fail⟩ wM_X6_123 (gCX6 _ _ _ _ _) rfl (A_23 hw) rfl ⟨le_t rfl, le_t rfl⟩ ⟨le_t rfl, le_t rfl⟩ rfl (le_t rfl) fun μ21 T22 F23 h24 => ?_
  exact mr_vret dX6_readGroup_43 rfl (le_t rfl) (le_t rfl) T22 (mF.call (mF.call (mF.call mF.refl F3 rfl) F7 rfl) F23 rfl) ⟨(h24.1 T22 F23), trivial⟩
def WJ_X6_readBranches_Wx1_4 (w : mW) (rec1 : (Int × Int × Int × Int × Int × mM) → Prop) (z2520 : Int) (z2519 : Int) (z2517 : Int) (z4031 : Int) (z4030 : Int) (μ4033 : mM) (z4117 : Int) : Prop := (0 ≤ z4117 ∧ z4117 ≤ 1) → ∀ z4121 : Int, lOr z2520 z4031 = z4121 → ∀ z4124 : Int, lOr z2519 z4030 = z4124 → WP_X6_take_Wx w μ4033 (1124) (fun z4131 μ4127 => mT w μ4127 → mF [23009] w μ4033 μ4127 → (0 ≤ z4131 ∧ z4131 ≤ 1) → rec1 (z4117, z4121, z4124, z4131, (z2517 + 1), μ4127))
def WJ_X6_readBranches_Wx1_3 (w : mW) (rec1 : (Int × Int × Int × Int × Int × mM) → Prop) (z2521 : Int) (z2520 : Int) (z2519 : Int) (z2517 : Int) (z4032 : Int) (z4031 : Int) (z4030 : Int) (μ4033 : mM) : Prop := ((¬ z2521 = 0) → (WJ_X6_readBranches_Wx1_4 w rec1 z2520 z2519 z2517 z4031 z4030 μ4033) (1 : Int)) ∧ ((z2521 = 0) → ((z4032 = 0) → (WJ_X6_readBranches_Wx1_4 w rec1 z2520 z2519 z2517 z4031 z4030 μ4033) (0 : Int)) ∧ ((¬ z4032 = 0) → (WJ_X6_readBranches_Wx1_4 w rec1 z2520 z2519 z2517 z4031 z4030 μ4033) (1 : Int)))
def WJ_X6_readBranches_Wx1_7 (rec2 : (Int × Int × Int × Int × mM) → Prop) (z4032 : Int) (z4029 : Int) (μ4178 : mM) (z4187 : Int) (z4191 : Int) (z4205 : Int) : Prop := ((-9223372036854775808) ≤ z4205 ∧ z4205 ≤ 9223372036854775807) → ((z4032 = 0) → rec2 ((0 : Int), z4187, z4205, (z4029 + 1), μ4178)) ∧ ((¬ z4032 = 0) → ((z4191 = 0) → rec2 ((0 : Int), z4187, z4205, (z4029 + 1), μ4178)) ∧ ((¬ z4191 = 0) → rec2 ((1 : Int), z4187, z4205, (z4029 + 1), μ4178)))
def WJ_X6_readBranches_Wx1_6 (rec2 : (Int × Int × Int × Int × mM) → Prop) (z4032 : Int) (z4030 : Int) (z4029 : Int) (μ4178 : mM) (z4187 : Int) : Prop := ((-9223372036854775808) ≤ z4187 ∧ z4187 ≤ 9223372036854775807) → ∀ z4191 : Int, μ4178 23 15 = z4191 → (0 ≤ z4191 ∧ z4191 ≤ 1) → ((z4191 = 0) → ∀ z4223 : Int, μ4178 23 17 = z4223 → ((-9223372036854775808) ≤ z4223 ∧ z4223 ≤ 9223372036854775807) → (WJ_X6_readBranches_Wx1_7 rec2 z4032 z4029 μ4178 z4187 z4191) z4223) ∧ ((¬ z4191 = 0) → ∀ z4227 : Int, μ4178 23 17 = z4227 → ((-9223372036854775808) ≤ z4227 ∧ z4227 ≤ 9223372036854775807) → ∀ z4230 : Int, lOr z4030 z4227 = z4230 → (WJ_X6_readBranches_Wx1_7 rec2 z4032 z4029 μ4178 z4187 z4191) z4230)
def WJ_X6_readBranches_Wx1_5 (w : mW) (rec2 : (Int × Int × Int × Int × mM) → Prop) (z4032 : Int) (z4031 : Int) (z4030 : Int) (z4029 : Int) (μ4033 : mM) (μ4165 : mM) : Prop := mT w μ4165 → mF [23009, 23012, 23015, 23016, 23017, 23018, 23019, 28999, 29999] w μ4033 μ4165 → WP_X6_readRepeat_Wx w μ4165  (fun μ4171 => mT w μ4171 → mF [23009, 23015, 29999] w μ4165 μ4171 → ∀ z4175 : Int, μ4171 23 16 = z4175 → ((-9223372036854775808) ≤ z4175 ∧ z4175 ≤ 9223372036854775807) → WP_X6_join_Wx w μ4171 z4030 z4175 (fun μ4178 => mT w μ4178 → mF [29999] w μ4171 μ4178 → ((z4032 = 0) → (WJ_X6_readBranches_Wx1_6 rec2 z4032 z4030 z4029 μ4178) z4031) ∧ ((¬ z4032 = 0) → ∀ z4236 : Int, lOr z4031 z4175 = z4236 → (WJ_X6_readBranches_Wx1_6 rec2 z4032 z4030 z4029 μ4178) z4236)))
def WL_X6_readBranches_Wx1_2 (w : mW) (p1 : Int) (rec1 : (Int × Int × Int × Int × Int × mM) → Prop) (z2521 : Int) (z2520 : Int) (z2519 : Int) (z2517 : Int) (μ2522 : mM) (rec2 : (Int × Int × Int × Int × mM) → Prop) (s : (Int × Int × Int × Int × mM)) : Prop := ∀ z4032 : Int, ∀ z4031 : Int, ∀ z4030 : Int, ∀ z4029 : Int, ∀ μ4033 : mM, s = (z4032, z4031, z4030, z4029, μ4033) → (0 ≤ z4032 ∧ z4032 ≤ 1) → ((-9223372036854775808) ≤ z4031 ∧ z4031 ≤ 9223372036854775807) → ((-9223372036854775808) ≤ z4030 ∧ z4030 ≤ 9223372036854775807) → (0 ≤ z4029 ∧ z4029 ≤ 1001) → mT w μ4033 → mF [23009, 23012, 23015, 23016, 23017, 23018, 23019, 28999, 29999] w μ2522 μ4033 → ((1000 < z4029) → (WJ_X6_readBranches_Wx1_3 w rec1 z2521 z2520 z2519 z2517 z4032 z4031 z4030 μ4033) ) ∧ ((z4029 ≤ 1000) → ∀ z4141 : Int, μ4033 23 9 = z4141 → (0 ≤ z4141 ∧ z4141 ≤ 1000) → ∀ z4144 : Int, μ4033 24 (z4141.toNat) = z4144 → ((-2147483648) ≤ z4144 ∧ z4144 ≤ 2147483647) → WP_X6_beginsPiece_Wx w μ4033 z4144 (fun z4151 _ => (0 ≤ z4151 ∧ z4151 ≤ 1) → ((z4151 = 0) → (WJ_X6_readBranches_Wx1_3 w rec1 z2521 z2520 z2519 z2517 z4032 z4031 z4030 μ4033) ) ∧ ((¬ z4151 = 0) → ((¬ z4144 = 1040) → WP_X6_readPlace_Wx w μ4033  (fun μ4240 => mT w μ4240 → mF [23009, 23012, 23015, 23016, 23017, 23018, 23019, 28999, 29999] w μ4033 μ4240 → (WJ_X6_readBranches_Wx1_5 w rec2 z4032 z4031 z4030 z4029 μ4033) μ4240)) ∧ ((z4144 = 1040) → WP_X6_readGroup_Wx1 w μ4033 p1 (fun μ4245 => mT w μ4245 → mF [23009, 23012, 23015, 23016, 23017, 23018, 23019, 28999, 29999] w μ4033 μ4245 → (WJ_X6_readBranches_Wx1_5 w rec2 z4032 z4031 z4030 z4029 μ4033) μ4245)))))
def WL_X6_readBranches_Wx1_1 (w : mW) (μ : mM) (p1 : Int) (Q : mM → Prop) (rec1 : (Int × Int × Int × Int × Int × mM) → Prop) (s : (Int × Int × Int × Int × Int × mM)) : Prop := ∀ z2521 : Int, ∀ z2520 : Int, ∀ z2519 : Int, ∀ z2518 : Int, ∀ z2517 : Int, ∀ μ2522 : mM, s = (z2521, z2520, z2519, z2518, z2517, μ2522) → (0 ≤ z2521 ∧ z2521 ≤ 1) → ((-9223372036854775808) ≤ z2520 ∧ z2520 ≤ 9223372036854775807) → ((-9223372036854775808) ≤ z2519 ∧ z2519 ≤ 9223372036854775807) → (0 ≤ z2518 ∧ z2518 ≤ 1) → (0 ≤ z2517 ∧ z2517 ≤ 1001) → mT w μ2522 → mF [23009, 23012, 23015, 23016, 23017, 23018, 23019, 28999, 29999] w μ μ2522 → ((1000 < z2517) → ∀ μ2717 : mM, mU μ2522 23 (15) z2521 μ2717 → mT w μ2717 → ∀ μ2720 : mM, mU μ2717 23 (16) z2520 μ2720 → mT w μ2720 → ∀ μ2723 : mM, mU μ2720 23 (17) z2519 μ2723 → mT w μ2723 → Q μ2723) ∧ ((z2517 ≤ 1000) → ((z2518 = 0) → ∀ μ2907 : mM, mU μ2522 23 (15) z2521 μ2907 → mT w μ2907 → ∀ μ2910 : mM, mU μ2907 23 (16) z2520 μ2910 → mT w μ2910 → ∀ μ2913 : mM, mU μ2910 23 (17) z2519 μ2913 → mT w μ2913 → Q μ2913) ∧ ((¬ z2518 = 0) → loopF (WL_X6_readBranches_Wx1_2 w p1 rec1 z2521 z2520 z2519 z2517 μ2522) False 1003 ((1 : Int), (0 : Int), (0 : Int), (0 : Int), μ2522)))
def WP_X6_readBranches_Wx1 (w : mW) (μ : mM) (p1 : Int) (Q : mM → Prop) : Prop := loopF (WL_X6_readBranches_Wx1_1 w μ p1 Q) False 1003 ((0 : Int), (0 : Int), (0 : Int), (1 : Int), (0 : Int), μ)
set_option maxRecDepth 4000 in
set_option maxHeartbeats 4000000 in
theorem c_X6_readBranches_Wx1 {l : Launch} {D : va_G} {c : Nat → ClassId} {H0 : Heap} {sa : Nat × Nat × (Nat → Int32)} {w : mW} {μ : mM} (hw : mWF w) (hT : mT w μ) {p1 : Int} (hp1 : 1 ≤ p1 ∧ p1 ≤ 1) {Q : mM → Prop} (hQ : WP_X6_readBranches_Wx1 w μ p1 Q) : sC (gG l D c H0 sa) mX6_readBranches 13 0 0 [.ref 23, iv p1] (mk w μ) (qV w [23009, 23012, 23015, 23016, 23017, 23018, 23019, 28999, 29999] μ (fun μ1 => Q μ1 ∧ True)) := by
  refine sC.of rfl (by decide) (le_t rfl) ?_
  refine mr_lvE (lv' := [(0, .ref 23), (1, iv p1)]) rfl ?_
  refine mr_iconst (pc := 0) (z := 0) dX6_readBranches_0 ?_
  refine mr_istore_n (pc := 1) (lv' := [(2, iv 0), (0, .ref 23), (1, iv p1)]) dX6_readBranches_1 rfl (by decide) rfl ?_
  refine mr_lconst (pc := 2) (z := 0) dX6_readBranches_2 (by decide) ?_
  refine mr_lstore_n (pc := 3) (lv' := [(3, jv 0), (2, iv 0), (0, .ref 23), (1, iv p1)]) dX6_readBranches_3 rfl (by decide) rfl ?_
  refine mr_lconst (pc := 4) (z := 0) dX6_readBranches_4 (by decide) ?_
  refine mr_lstore (pc := 5) (lv' := [(5, jv 0), (3, jv 0), (2, iv 0), (0, .ref 23), (1, iv p1)]) dX6_readBranches_5 (by decide) rfl ?_
  refine mr_iconst (pc := 7) (z := 1) dX6_readBranches_7 ?_
  refine mr_istore (pc := 8) (lv' := [(7, iv 1), (5, jv 0), (3, jv 0), (2, iv 0), (0, .ref 23), (1, iv p1)]) dX6_readBranches_8 (by decide) rfl ?_
  refine mr_iconst (pc := 10) (z := 0) dX6_readBranches_10 ?_
  refine mr_istore (pc := 11) (lv' := [(8, iv 0), (7, iv 1), (5, jv 0), (3, jv 0), (2, iv 0), (0, .ref 23), (1, iv p1)]) dX6_readBranches_11 (by decide) rfl ?_
  have L2523 : ∀ (nL2523 : Nat) (z2521 z2520 z2519 z2518 z2517 : Int) (μ2522 : mM), mT w μ2522 → mF [23009, 23012, 23015, 23016, 23017, 23018, 23019, 28999, 29999] w μ μ2522 → (0 ≤ z2521 ∧ z2521 ≤ 1) → ((-9223372036854775808) ≤ z2520 ∧ z2520 ≤ 9223372036854775807) → ((-9223372036854775808) ≤ z2519 ∧ z2519 ≤ 9223372036854775807) → (0 ≤ z2518 ∧ z2518 ≤ 1) → (0 ≤ z2517 ∧ z2517 ≤ 1001) → (1002 - z2517) < (nL2523 : Int) → loopF (WL_X6_readBranches_Wx1_1 w μ p1 Q) False nL2523 (z2521, z2520, z2519, z2518, z2517, μ2522) → sV (gG l D c H0 sa) mX6_readBranches (sRm 13 0 0) (sZ (gG l D c H0 sa) 0 0 (qV w [23009, 23012, 23015, 23016, 23017, 23018, 23019, 28999, 29999] μ (fun μ1 => Q μ1 ∧ True))) 13 [(0, .ref 23), (1, iv p1), (2, iv z2521), (3, jv z2520), (5, jv z2519), (7, iv z2518), (8, iv z2517)] [] (mk w μ2522) 0 0 := by
    intro nL2523
    induction nL2523 with
    | zero => intro z2521 z2520 z2519 z2518 z2517 μ2522 T2529 F2530 h2524 h2525 h2526 h2527 h2528 h2532 W2533; exact ((vc_X6_readBranches_Wx6_1 h2532 h2528)).elim
    | succ nL2523 ih2534 =>
      intro z2521 z2520 z2519 z2518 z2517 μ2522 T2529 F2530 h2524 h2525 h2526 h2527 h2528 h2532 W2533
      refine mr_iload (pc := 13) (z := z2517) dX6_readBranches_13 rfl ?_
      refine mr_sipush (pc := 15) (z := 1000) dX6_readBranches_15 (by decide) ?_
      refine mr_icmp_gt (pc := 18) (tgt := 211) dX6_readBranches_18 (by decide) (r32 h2528 rfl) (r32 (rR (x := 1000)) rfl) (fun h2715 => ?_) (fun h2715 => ?_)
      · have h2716 : 1001 ≤ z2517 ∧ z2517 ≤ 1001 := (vc_X6_readBranches_Wx6_2 h2715 h2528)
        refine sv_aload_n (pc := 211) dX6_readBranches_211 rfl rfl ?_
        refine mr_iload_n (pc := 212) (z := z2521) dX6_readBranches_212 rfl rfl ?_
        refine pf_X6_15 (pc := 213) dX6_readBranches_213 wF_X6_186 (A_23 hw) T2529 h2524 fun μ2717 u2718 T2719 => ?_
        refine sv_aload_n (pc := 216) dX6_readBranches_216 rfl rfl ?_
        refine mr_lload_n (pc := 217) (z := z2520) dX6_readBranches_217 rfl rfl ?_
        refine pf_X6_16 (pc := 218) dX6_readBranches_218 wF_X6_179 (A_23 hw) T2719 h2525 fun μ2720 u2721 T2722 => ?_
        refine sv_aload_n (pc := 221) dX6_readBranches_221 rfl rfl ?_
        refine mr_lload (pc := 222) (z := z2519) dX6_readBranches_222 rfl ?_
        refine pf_X6_17 (pc := 224) dX6_readBranches_224 wF_X6_183 (A_23 hw) T2722 h2526 fun μ2723 u2724 T2725 => ?_
        exact mr_vret dX6_readBranches_227 rfl (le_t rfl) (le_t rfl) T2725 (mF.up (mF.up (mF.up (mF.call mF.refl F2530 rfl) (A_23 hw) u2718 rfl) (A_23 hw) u2721 rfl) (A_23 hw) u2724 rfl) ⟨(((((W2533 z2521 z2520 z2519 z2518 z2517 μ2522 rfl h2524 h2525 h2526 h2527 h2528 T2529 F2530).1 h2715) μ2717 u2718 T2719) μ2720 u2721 T2722) μ2723 u2724 T2725), trivial⟩
      have h2726 : 0 ≤ z2517 ∧ z2517 ≤ 1000 := (vc_X6_readBranches_Wx6_3 h2715 h2528)
      refine mr_iload (pc := 21) (z := z2518) dX6_readBranches_21 rfl ?_
      refine mr_if_eq (pc := 23) (tgt := 211) dX6_readBranches_23 (by decide) (r32 h2527 rfl) (fun h2905 => ?_) (fun h2905 => ?_)
      · have h2906 : 0 ≤ z2518 ∧ z2518 ≤ 0 := (vc_X12_ring_22 h2905 h2527)
        refine sv_aload_n (pc := 211) dX6_readBranches_211 rfl rfl ?_
        refine mr_iload_n (pc := 212) (z := z2521) dX6_readBranches_212 rfl rfl ?_
        refine pf_X6_15 (pc := 213) dX6_readBranches_213 wF_X6_186 (A_23 hw) T2529 h2524 fun μ2907 u2908 T2909 => ?_
        refine sv_aload_n (pc := 216) dX6_readBranches_216 rfl rfl ?_
        refine mr_lload_n (pc := 217) (z := z2520) dX6_readBranches_217 rfl rfl ?_
        refine pf_X6_16 (pc := 218) dX6_readBranches_218 wF_X6_179 (A_23 hw) T2909 h2525 fun μ2910 u2911 T2912 => ?_
        refine sv_aload_n (pc := 221) dX6_readBranches_221 rfl rfl ?_
        refine mr_lload (pc := 222) (z := z2519) dX6_readBranches_222 rfl ?_
        refine pf_X6_17 (pc := 224) dX6_readBranches_224 wF_X6_183 (A_23 hw) T2912 h2526 fun μ2913 u2914 T2915 => ?_
        exact mr_vret dX6_readBranches_227 rfl (le_t rfl) (le_t rfl) T2915 (mF.up (mF.up (mF.up (mF.call mF.refl F2530 rfl) (A_23 hw) u2908 rfl) (A_23 hw) u2911 rfl) (A_23 hw) u2914 rfl) ⟨((((((W2533 z2521 z2520 z2519 z2518 z2517 μ2522 rfl h2524 h2525 h2526 h2527 h2528 T2529 F2530).2 h2715).1 h2905) μ2907 u2908 T2909) μ2910 u2911 T2912) μ2913 u2914 T2915), trivial⟩
      have h2916 : 1 ≤ z2518 ∧ z2518 ≤ 1 := (vc_X12_ring_24 h2905 h2527)
      refine mr_iconst (pc := 26) (z := 1) dX6_readBranches_26 ?_
      refine mr_istore (pc := 27) (lv' := [(9, iv 1), (0, .ref 23), (1, iv p1), (2, iv z2521), (3, jv z2520), (5, jv z2519), (7, iv z2518), (8, iv z2517)]) dX6_readBranches_27 (by decide) rfl ?_
      refine mr_lconst (pc := 29) (z := 0) dX6_readBranches_29 (by decide) ?_
      refine mr_lstore (pc := 30) (lv' := [(10, jv 0), (9, iv 1), (0, .ref 23), (1, iv p1), (2, iv z2521), (3, jv z2520), (5, jv z2519), (7, iv z2518), (8, iv z2517)]) dX6_readBranches_30 (by decide) rfl ?_
      refine mr_lconst (pc := 32) (z := 0) dX6_readBranches_32 (by decide) ?_
      refine mr_lstore (pc := 33) (lv' := [(12, jv 0), (10, jv 0), (9, iv 1), (0, .ref 23), (1, iv p1), (2, iv z2521), (3, jv z2520), (5, jv z2519), (7, iv z2518), (8, iv z2517)]) dX6_readBranches_33 (by decide) rfl ?_
      refine mr_iconst (pc := 35) (z := 0) dX6_readBranches_35 ?_
      refine mr_istore (pc := 36) (lv' := [(14, iv 0), (12, jv 0), (10, jv 0), (9, iv 1), (0, .ref 23), (1, iv p1), (2, iv z2521), (3, jv z2520), (5, jv z2519), (7, iv z2518), (8, iv z2517)]) dX6_readBranches_36 (by decide) rfl ?_
      have L4034 : ∀ (nL4034 : Nat) (z4032 z4031 z4030 z4029 : Int) (μ4033 : mM), mT w μ4033 → mF [23009, 23012, 23015, 23016, 23017, 23018, 23019, 28999, 29999] w μ2522 μ4033 → (0 ≤ z4032 ∧ z4032 ≤ 1) → ((-9223372036854775808) ≤ z4031 ∧ z4031 ≤ 9223372036854775807) → ((-9223372036854775808) ≤ z4030 ∧ z4030 ≤ 9223372036854775807) → (0 ≤ z4029 ∧ z4029 ≤ 1001) → (1002 - z4029) < (nL4034 : Int) → loopF (WL_X6_readBranches_Wx1_2 w p1 (loopF (WL_X6_readBranches_Wx1_1 w μ p1 Q) False nL2523) z2521 z2520 z2519 z2517 μ2522) False nL4034 (z4032, z4031, z4030, z4029, μ4033) → sV (gG l D c H0 sa) mX6_readBranches (sRm 13 0 0) (sZ (gG l D c H0 sa) 0 0 (qV w [23009, 23012, 23015, 23016, 23017, 23018, 23019, 28999, 29999] μ (fun μ1 => Q μ1 ∧ True))) 38 [(0, .ref 23), (1, iv p1), (2, iv z2521), (3, jv z2520), (5, jv z2519), (8, iv z2517), (9, iv z4032), (10, jv z4031), (12, jv z4030), (14, iv z4029)] [] (mk w μ4033) 0 0 := by
        intro nL4034
        induction nL4034 with
        | zero => intro z4032 z4031 z4030 z4029 μ4033 T4039 F4040 h4035 h4036 h4037 h4038 h4042 W4043; exact ((vc_X6_readBranches_Wx6_1 h4042 h4038)).elim
        | succ nL4034 ih4044 =>
          intro z4032 z4031 z4030 z4029 μ4033 T4039 F4040 h4035 h4036 h4037 h4038 h4042 W4043
          refine mr_iload (pc := 38) (z := z4029) dX6_readBranches_38 rfl ?_
          refine mr_sipush (pc := 40) (z := 1000) dX6_readBranches_40 (by decide) ?_
          have J4111 : ((WJ_X6_readBranches_Wx1_3 w (loopF (WL_X6_readBranches_Wx1_1 w μ p1 Q) False nL2523) z2521 z2520 z2519 z2517 z4032 z4031 z4030 μ4033) ) → sV (gG l D c H0 sa) mX6_readBranches (sRm 13 0 0) (sZ (gG l D c H0 sa) 0 0 (qV w [23009, 23012, 23015, 23016, 23017, 23018, 23019, 28999, 29999] μ (fun μ1 => Q μ1 ∧ True))) 169 [(0, .ref 23), (1, iv p1), (2, iv z2521), (3, jv z2520), (5, jv z2519), (8, iv z2517), (9, iv z4032), (10, jv z4031), (12, jv z4030)] [] (mk w μ4033) 0 0 := by
            intro W4112
            refine mr_iload_n (pc := 169) (z := z2521) dX6_readBranches_169 rfl rfl ?_
            have J4119 : ∀ (z4117 : Int), ((0 ≤ z4117 ∧ z4117 ≤ 1)) → ((WJ_X6_readBranches_Wx1_4 w (loopF (WL_X6_readBranches_Wx1_1 w μ p1 Q) False nL2523) z2520 z2519 z2517 z4031 z4030 μ4033) z4117) → sV (gG l D c H0 sa) mX6_readBranches (sRm 13 0 0) (sZ (gG l D c H0 sa) 0 0 (qV w [23009, 23012, 23015, 23016, 23017, 23018, 23019, 28999, 29999] μ (fun μ1 => Q μ1 ∧ True))) 183 [(0, .ref 23), (1, iv p1), (3, jv z2520), (5, jv z2519), (8, iv z2517), (10, jv z4031), (12, jv z4030)] [iv z4117] (mk w μ4033) 0 0 := by
              intro z4117 h4118 W4120
              refine mr_istore_n (pc := 183) (lv' := [(2, iv z4117), (0, .ref 23), (1, iv p1), (3, jv z2520), (5, jv z2519), (8, iv z2517), (10, jv z4031), (12, jv z4030)]) dX6_readBranches_183 rfl (by decide) rfl ?_
              refine mr_lload_n (pc := 184) (z := z2520) dX6_readBranches_184 rfl rfl ?_
              refine mr_lload (pc := 185) (z := z4031) dX6_readBranches_185 rfl ?_
              refine mr_lor (pc := 187) dX6_readBranches_187 ?_
              refine mr_genL (r64i _) fun z4121 q4122 h4123 => ?_
              refine mr_lstore_n (pc := 188) (lv' := [(3, jv z4121), (2, iv z4117), (0, .ref 23), (1, iv p1), (5, jv z2519), (8, iv z2517), (10, jv z4031), (12, jv z4030)]) dX6_readBranches_188 rfl (by decide) rfl ?_
              refine mr_lload (pc := 189) (z := z2519) dX6_readBranches_189 rfl ?_
              refine mr_lload (pc := 191) (z := z4030) dX6_readBranches_191 rfl ?_
              refine mr_lor (pc := 193) dX6_readBranches_193 ?_
              refine mr_genL (r64i _) fun z4124 q4125 h4126 => ?_
              refine mr_lstore (pc := 194) (lv' := [(5, jv z4124), (3, jv z4121), (2, iv z4117), (0, .ref 23), (1, iv p1), (8, iv z2517), (10, jv z4031), (12, jv z4030)]) dX6_readBranches_194 (by decide) rfl ?_
              refine sv_aload_n (pc := 196) dX6_readBranches_196 rfl rfl ?_
              refine mr_sipush (pc := 197) (z := 1124) dX6_readBranches_197 (by decide) ?_
              refine mr_cVI (pc := 200) (c_X6_take_Wx hw T4039 (rW (c := (-2147483648)) (d := 2147483647) (rR (x := 1124)) rfl) (((W4120 h4118) z4121 q4122) z4124 q4125)) (gOk _ _ _ _ _) dX6_readBranches_200 (tX6_take _ _ _ _ _) ⟨wV_X6_take, wL_X6_take⟩ wM_X6_120 (gCX6 _ _ _ _ _) rfl (A_23 hw) rfl ⟨le_t rfl, le_t rfl⟩ ⟨le_t rfl, le_t rfl⟩ rfl (le_t rfl) fun z4131 μ4127 T4128 F4129 h4130 => ?_
              refine mr_istore (pc := 203) (lv' := [(7, iv z4131), (5, jv z4124), (3, jv z4121), (2, iv z4117), (0, .ref 23), (1, iv p1), (8, iv z2517), (10, jv z4031), (12, jv z4030)]) dX6_readBranches_203 (by decide) rfl ?_
              refine mr_iinc (pc := 205) (lv' := [(8, iv (z2517 + 1)), (7, iv z4131), (5, jv z4124), (3, jv z4121), (2, iv z4117), (0, .ref 23), (1, iv p1), (10, jv z4031), (12, jv z4030)]) dX6_readBranches_205 rfl (by decide) rfl ?_
              refine sv_goto (pc := 208) (tgt := 13) dX6_readBranches_208 (by decide) ?_
              refine mr_lvS (lv' := [(0, .ref 23), (1, iv p1), (2, iv z4117), (3, jv z4121), (5, jv z4124), (7, iv z4131), (8, iv (z2517 + 1))]) (List.forall_mem_cons.mpr ⟨rfl, List.forall_mem_cons.mpr ⟨rfl, List.forall_mem_cons.mpr ⟨rfl, List.forall_mem_cons.mpr ⟨rfl, List.forall_mem_cons.mpr ⟨rfl, List.forall_mem_cons.mpr ⟨rfl, List.forall_mem_cons.mpr ⟨rfl, fun _ h => absurd h List.not_mem_nil⟩⟩⟩⟩⟩⟩⟩) ?_
              exact ih2534 z4117 z4121 z4124 z4131 (z2517 + 1) μ4127 T4128 (mF.call (mF.call (mF.call mF.refl F2530 rfl) F4040 rfl) F4129 rfl) h4118 h4123 h4126 h4130.1 (rW (c := 0) (d := 1001) (rAdd (e := 1) (f := 1001) h2726 (rR (x := 1)) rfl) rfl) (vc_X6_readBranches_Wx6_7 (nS h2532) h2715 h2726) ((h4130.2.1 T4128 F4129) h4130.1)
            refine mr_if_ne (pc := 170) (tgt := 178) dX6_readBranches_170 (by decide) (r32 h2524 rfl) (fun h4132 => ?_) (fun h4132 => ?_)
            · have h4133 : 1 ≤ z2521 ∧ z2521 ≤ 1 := (vc_X12_ring_24 h4132 h2524)
              refine mr_iconst (pc := 178) (z := 1) dX6_readBranches_178 ?_
              refine sv_goto (pc := 179) (tgt := 183) dX6_readBranches_179 (by decide) ?_
              refine mr_lvS (lv' := [(0, .ref 23), (1, iv p1), (3, jv z2520), (5, jv z2519), (8, iv z2517), (10, jv z4031), (12, jv z4030)]) (List.forall_mem_cons.mpr ⟨rfl, List.forall_mem_cons.mpr ⟨rfl, List.forall_mem_cons.mpr ⟨rfl, List.forall_mem_cons.mpr ⟨rfl, List.forall_mem_cons.mpr ⟨rfl, List.forall_mem_cons.mpr ⟨rfl, List.forall_mem_cons.mpr ⟨rfl, fun _ h => absurd h List.not_mem_nil⟩⟩⟩⟩⟩⟩⟩) ?_
              exact J4119 1 (rW (c := 0) (d := 1) (rR (x := 1)) rfl) ((W4112).1 h4132)
            have h4134 : 0 ≤ z2521 ∧ z2521 ≤ 0 := (vc_X12_ring_22 h4132 h2524)
            refine mr_iload (pc := 173) (z := z4032) dX6_readBranches_173 rfl ?_
            refine mr_if_eq (pc := 175) (tgt := 182) dX6_readBranches_175 (by decide) (r32 h4035 rfl) (fun h4135 => ?_) (fun h4135 => ?_)
            · have h4136 : 0 ≤ z4032 ∧ z4032 ≤ 0 := (vc_X12_ring_22 h4135 h4035)
              refine mr_iconst (pc := 182) (z := 0) dX6_readBranches_182 ?_
              refine mr_lvS (lv' := [(0, .ref 23), (1, iv p1), (3, jv z2520), (5, jv z2519), (8, iv z2517), (10, jv z4031), (12, jv z4030)]) (List.forall_mem_cons.mpr ⟨rfl, List.forall_mem_cons.mpr ⟨rfl, List.forall_mem_cons.mpr ⟨rfl, List.forall_mem_cons.mpr ⟨rfl, List.forall_mem_cons.mpr ⟨rfl, List.forall_mem_cons.mpr ⟨rfl, List.forall_mem_cons.mpr ⟨rfl, fun _ h => absurd h List.not_mem_nil⟩⟩⟩⟩⟩⟩⟩) ?_
              exact J4119 0 (rW (c := 0) (d := 1) (rR (x := 0)) rfl) (((W4112).2 h4132).1 h4135)
            have h4137 : 1 ≤ z4032 ∧ z4032 ≤ 1 := (vc_X12_ring_24 h4135 h4035)
            refine mr_iconst (pc := 178) (z := 1) dX6_readBranches_178 ?_
            refine sv_goto (pc := 179) (tgt := 183) dX6_readBranches_179 (by decide) ?_
            refine mr_lvS (lv' := [(0, .ref 23), (1, iv p1), (3, jv z2520), (5, jv z2519), (8, iv z2517), (10, jv z4031), (12, jv z4030)]) (List.forall_mem_cons.mpr ⟨rfl, List.forall_mem_cons.mpr ⟨rfl, List.forall_mem_cons.mpr ⟨rfl, List.forall_mem_cons.mpr ⟨rfl, List.forall_mem_cons.mpr ⟨rfl, List.forall_mem_cons.mpr ⟨rfl, List.forall_mem_cons.mpr ⟨rfl, fun _ h => absurd h List.not_mem_nil⟩⟩⟩⟩⟩⟩⟩) ?_
            exact J4119 1 (rW (c := 0) (d := 1) (rR (x := 1)) rfl) (((W4112).2 h4132).2 h4135)
          refine mr_icmp_gt (pc := 43) (tgt := 169) dX6_readBranches_43 (by decide) (r32 h4038 rfl) (r32 (rR (x := 1000)) rfl) (fun h4138 => ?_) (fun h4138 => ?_)
          · have h4139 : 1001 ≤ z4029 ∧ z4029 ≤ 1001 := (vc_X6_readBranches_Wx6_2 h4138 h4038)
            refine mr_lvS (lv' := [(0, .ref 23), (1, iv p1), (2, iv z2521), (3, jv z2520), (5, jv z2519), (8, iv z2517), (9, iv z4032), (10, jv z4031), (12, jv z4030)]) (List.forall_mem_cons.mpr ⟨rfl, List.forall_mem_cons.mpr ⟨rfl, List.forall_mem_cons.mpr ⟨rfl, List.forall_mem_cons.mpr ⟨rfl, List.forall_mem_cons.mpr ⟨rfl, List.forall_mem_cons.mpr ⟨rfl, List.forall_mem_cons.mpr ⟨rfl, List.forall_mem_cons.mpr ⟨rfl, List.forall_mem_cons.mpr ⟨rfl, fun _ h => absurd h List.not_mem_nil⟩⟩⟩⟩⟩⟩⟩⟩⟩) ?_
            exact J4111 ((W4043 z4032 z4031 z4030 z4029 μ4033 rfl h4035 h4036 h4037 h4038 T4039 F4040).1 h4138)
          have h4140 : 0 ≤ z4029 ∧ z4029 ≤ 1000 := (vc_X6_readBranches_Wx6_3 h4138 h4038)
          refine sv_aload_n (pc := 46) dX6_readBranches_46 rfl rfl ?_
          refine gf_X6_0 (pc := 47) dX6_readBranches_47 wF_X6_9 (A_23 hw) T4039 ?_
          refine sv_aload_n (pc := 50) dX6_readBranches_50 rfl rfl ?_
          refine gf_X6_9 (pc := 51) dX6_readBranches_51 wF_X6_63 (A_23 hw) T4039 fun z4141 q4142 h4143 => ?_
          refine la_24 (pc := 54) dX6_readBranches_54 (A_24 hw) T4039 (rIx (n := 1001) h4143 rfl) fun z4144 q4145 h4146 => ?_
          have W4152 := ((((W4043 z4032 z4031 z4030 z4029 μ4033 rfl h4035 h4036 h4037 h4038 T4039 F4040).2 h4138) z4141 q4142 h4143) z4144 q4145 h4146)
          refine mr_cSP (pc := 55) (c_X6_beginsPiece_Wx hw T4039 h4146 W4152) (gOk _ _ _ _ _) dX6_readBranches_55 (tX6_beginsPiece _ _ _ _ _) wS_X6_beginsPiece wM_X6_190 ⟨le_t rfl, le_t rfl⟩ ⟨le_t rfl, le_t rfl⟩ rfl (le_t rfl) fun z4151 h4150 => ?_
          refine mr_if_eq (pc := 58) (tgt := 169) dX6_readBranches_58 (by decide) (r32 h4150.1 rfl) (fun h4153 => ?_) (fun h4153 => ?_)
          · have h4154 : 0 ≤ z4151 ∧ z4151 ≤ 0 := (vc_X12_ring_22 h4153 h4150.1)
            refine mr_lvS (lv' := [(0, .ref 23), (1, iv p1), (2, iv z2521), (3, jv z2520), (5, jv z2519), (8, iv z2517), (9, iv z4032), (10, jv z4031), (12, jv z4030)]) (List.forall_mem_cons.mpr ⟨rfl, List.forall_mem_cons.mpr ⟨rfl, List.forall_mem_cons.mpr ⟨rfl, List.forall_mem_cons.mpr ⟨rfl, List.forall_mem_cons.mpr ⟨rfl, List.forall_mem_cons.mpr ⟨rfl, List.forall_mem_cons.mpr ⟨rfl, List.forall_mem_cons.mpr ⟨rfl, List.forall_mem_cons.mpr ⟨rfl, fun _ h => absurd h List.not_mem_nil⟩⟩⟩⟩⟩⟩⟩⟩⟩) ?_
            exact J4111 ((h4150.2.1 h4150.1).1 h4153)
          have h4155 : 1 ≤ z4151 ∧ z4151 ≤ 1 := (vc_X12_ring_24 h4153 h4150.1)
          refine sv_aload_n (pc := 61) dX6_readBranches_61 rfl rfl ?_
          refine gf_X6_0 (pc := 62) dX6_readBranches_62 wF_X6_9 (A_23 hw) T4039 ?_
          refine sv_aload_n (pc := 65) dX6_readBranches_65 rfl rfl ?_
          refine gk_X6_9 (pc := 66) dX6_readBranches_66 wF_X6_63 (A_23 hw) q4142 ?_
          refine lk_24 (pc := 69) dX6_readBranches_69 (A_24 hw) (rIx (n := 1001) h4143 rfl) q4145 ?_
          refine mr_sipush (pc := 70) (z := 1040) dX6_readBranches_70 (by decide) ?_
          have J4169 : ∀ (μ4165 : mM), (mT w μ4165) → (mF [23009, 23012, 23015, 23016, 23017, 23018, 23019, 28999, 29999] w μ4033 μ4165) → ((WJ_X6_readBranches_Wx1_5 w (loopF (WL_X6_readBranches_Wx1_2 w p1 (loopF (WL_X6_readBranches_Wx1_1 w μ p1 Q) False nL2523) z2521 z2520 z2519 z2517 μ2522) False nL4034) z4032 z4031 z4030 z4029 μ4033) μ4165) → sV (gG l D c H0 sa) mX6_readBranches (sRm 13 0 0) (sZ (gG l D c H0 sa) 0 0 (qV w [23009, 23012, 23015, 23016, 23017, 23018, 23019, 28999, 29999] μ (fun μ1 => Q μ1 ∧ True))) 88 [(0, .ref 23), (1, iv p1), (2, iv z2521), (3, jv z2520), (5, jv z2519), (8, iv z2517), (9, iv z4032), (10, jv z4031), (12, jv z4030), (14, iv z4029)] [] (mk w μ4165) 0 0 := by
            intro μ4165 T4166 F4167 W4170
            refine sv_aload_n (pc := 88) dX6_readBranches_88 rfl rfl ?_
            refine mr_cVV (pc := 89) (c_X6_readRepeat_Wx hw T4166 (W4170 T4166 F4167)) (gOk _ _ _ _ _) dX6_readBranches_89 (tX6_readRepeat _ _ _ _ _) ⟨wV_X6_readRepeat, wL_X6_readRepeat⟩ wM_X6_199 (gCX6 _ _ _ _ _) rfl (A_23 hw) rfl ⟨le_t rfl, le_t rfl⟩ ⟨le_t rfl, le_t rfl⟩ rfl (le_t rfl) fun μ4171 T4172 F4173 h4174 => ?_
            refine sv_aload_n (pc := 92) dX6_readBranches_92 rfl rfl ?_
            refine mr_lload (pc := 93) (z := z4030) dX6_readBranches_93 rfl ?_
            refine sv_aload_n (pc := 95) dX6_readBranches_95 rfl rfl ?_
            refine gf_X6_16 (pc := 96) dX6_readBranches_96 wF_X6_179 (A_23 hw) T4172 fun z4175 q4176 h4177 => ?_
            refine mr_cVV (pc := 99) (c_X6_join_Wx hw T4172 h4037 h4177 ((h4174.1 T4172 F4173) z4175 q4176 h4177)) (gOk _ _ _ _ _) dX6_readBranches_99 (tX6_join _ _ _ _ _) ⟨wV_X6_join, wL_X6_join⟩ wM_X6_202 (gCX6 _ _ _ _ _) rfl (A_23 hw) rfl ⟨le_t rfl, le_t rfl⟩ ⟨le_t rfl, le_t rfl⟩ rfl (le_t rfl) fun μ4178 T4179 F4180 h4181 => ?_
            refine mr_iload (pc := 102) (z := z4032) dX6_readBranches_102 rfl ?_
            have J4189 : ∀ (z4187 : Int), (((-9223372036854775808) ≤ z4187 ∧ z4187 ≤ 9223372036854775807)) → ((WJ_X6_readBranches_Wx1_6 (loopF (WL_X6_readBranches_Wx1_2 w p1 (loopF (WL_X6_readBranches_Wx1_1 w μ p1 Q) False nL2523) z2521 z2520 z2519 z2517 μ2522) False nL4034) z4032 z4030 z4029 μ4178) z4187) → sV (gG l D c H0 sa) mX6_readBranches (sRm 13 0 0) (sZ (gG l D c H0 sa) 0 0 (qV w [23009, 23012, 23015, 23016, 23017, 23018, 23019, 28999, 29999] μ (fun μ1 => Q μ1 ∧ True))) 119 [(0, .ref 23), (1, iv p1), (2, iv z2521), (3, jv z2520), (5, jv z2519), (8, iv z2517), (9, iv z4032), (12, jv z4030), (14, iv z4029)] [jv z4187] (mk w μ4178) 0 0 := by
              intro z4187 h4188 W4190
              refine mr_lstore (pc := 119) (lv' := [(10, jv z4187), (0, .ref 23), (1, iv p1), (2, iv z2521), (3, jv z2520), (5, jv z2519), (8, iv z2517), (9, iv z4032), (12, jv z4030), (14, iv z4029)]) dX6_readBranches_119 (by decide) rfl ?_
              refine sv_aload_n (pc := 121) dX6_readBranches_121 rfl rfl ?_
              refine gf_X6_15 (pc := 122) dX6_readBranches_122 wF_X6_186 (A_23 hw) T4179 fun z4191 q4192 h4193 => ?_
              have J4207 : ∀ (z4205 : Int), (((-9223372036854775808) ≤ z4205 ∧ z4205 ≤ 9223372036854775807)) → ((WJ_X6_readBranches_Wx1_7 (loopF (WL_X6_readBranches_Wx1_2 w p1 (loopF (WL_X6_readBranches_Wx1_1 w μ p1 Q) False nL2523) z2521 z2520 z2519 z2517 μ2522) False nL4034) z4032 z4029 μ4178 z4187 z4191) z4205) → sV (gG l D c H0 sa) mX6_readBranches (sRm 13 0 0) (sZ (gG l D c H0 sa) 0 0 (qV w [23009, 23012, 23015, 23016, 23017, 23018, 23019, 28999, 29999] μ (fun μ1 => Q μ1 ∧ True))) 142 [(0, .ref 23), (1, iv p1), (2, iv z2521), (3, jv z2520), (5, jv z2519), (8, iv z2517), (9, iv z4032), (10, jv z4187), (14, iv z4029)] [jv z4205] (mk w μ4178) 0 0 := by
                intro z4205 h4206 W4208
                refine mr_lstore (pc := 142) (lv' := [(12, jv z4205), (0, .ref 23), (1, iv p1), (2, iv z2521), (3, jv z2520), (5, jv z2519), (8, iv z2517), (9, iv z4032), (10, jv z4187), (14, iv z4029)]) dX6_readBranches_142 (by decide) rfl ?_
                refine mr_iload (pc := 144) (z := z4032) dX6_readBranches_144 rfl ?_
                refine mr_if_eq (pc := 146) (tgt := 160) dX6_readBranches_146 (by decide) (r32 h4035 rfl) (fun h4213 => ?_) (fun h4213 => ?_)
                · have h4214 : 0 ≤ z4032 ∧ z4032 ≤ 0 := (vc_X12_ring_22 h4213 h4035)
                  refine mr_iconst (pc := 160) (z := 0) dX6_readBranches_160 ?_
                  refine mr_istore (pc := 161) (lv' := [(9, iv 0), (12, jv z4205), (0, .ref 23), (1, iv p1), (2, iv z2521), (3, jv z2520), (5, jv z2519), (8, iv z2517), (10, jv z4187), (14, iv z4029)]) dX6_readBranches_161 (by decide) rfl ?_
                  refine mr_iinc (pc := 163) (lv' := [(14, iv (z4029 + 1)), (9, iv 0), (12, jv z4205), (0, .ref 23), (1, iv p1), (2, iv z2521), (3, jv z2520), (5, jv z2519), (8, iv z2517), (10, jv z4187)]) dX6_readBranches_163 rfl (by decide) rfl ?_
                  refine sv_goto (pc := 166) (tgt := 38) dX6_readBranches_166 (by decide) ?_
                  refine mr_lvS (lv' := [(0, .ref 23), (1, iv p1), (2, iv z2521), (3, jv z2520), (5, jv z2519), (8, iv z2517), (9, iv 0), (10, jv z4187), (12, jv z4205), (14, iv (z4029 + 1))]) (List.forall_mem_cons.mpr ⟨rfl, List.forall_mem_cons.mpr ⟨rfl, List.forall_mem_cons.mpr ⟨rfl, List.forall_mem_cons.mpr ⟨rfl, List.forall_mem_cons.mpr ⟨rfl, List.forall_mem_cons.mpr ⟨rfl, List.forall_mem_cons.mpr ⟨rfl, List.forall_mem_cons.mpr ⟨rfl, List.forall_mem_cons.mpr ⟨rfl, List.forall_mem_cons.mpr ⟨rfl, fun _ h => absurd h List.not_mem_nil⟩⟩⟩⟩⟩⟩⟩⟩⟩⟩) ?_
                  exact ih4044 0 z4187 z4205 (z4029 + 1) μ4178 T4179 (mF.call (mF.call (mF.call (mF.call mF.refl F4040 rfl) F4167 rfl) F4173 rfl) F4180 rfl) (rW (c := 0) (d := 1) (rR (x := 0)) rfl) h4188 h4206 (rW (c := 0) (d := 1001) (rAdd (e := 1) (f := 1001) h4140 (rR (x := 1)) rfl) rfl) (vc_X6_readBranches_Wx6_7 (nS h4042) h4138 h4140) ((W4208 h4206).1 h4213)
                have h4215 : 1 ≤ z4032 ∧ z4032 ≤ 1 := (vc_X12_ring_24 h4213 h4035)
                refine sv_aload_n (pc := 149) dX6_readBranches_149 rfl rfl ?_
                refine gk_X6_15 (pc := 150) dX6_readBranches_150 wF_X6_186 (A_23 hw) q4192 ?_
                refine mr_if_eq (pc := 153) (tgt := 160) dX6_readBranches_153 (by decide) (r32 h4193 rfl) (fun h4218 => ?_) (fun h4218 => ?_)
                · have h4219 : 0 ≤ z4191 ∧ z4191 ≤ 0 := (vc_X12_ring_22 h4218 h4193)
                  refine mr_iconst (pc := 160) (z := 0) dX6_readBranches_160 ?_
                  refine mr_istore (pc := 161) (lv' := [(9, iv 0), (12, jv z4205), (0, .ref 23), (1, iv p1), (2, iv z2521), (3, jv z2520), (5, jv z2519), (8, iv z2517), (10, jv z4187), (14, iv z4029)]) dX6_readBranches_161 (by decide) rfl ?_
                  refine mr_iinc (pc := 163) (lv' := [(14, iv (z4029 + 1)), (9, iv 0), (12, jv z4205), (0, .ref 23), (1, iv p1), (2, iv z2521), (3, jv z2520), (5, jv z2519), (8, iv z2517), (10, jv z4187)]) dX6_readBranches_163 rfl (by decide) rfl ?_
                  refine sv_goto (pc := 166) (tgt := 38) dX6_readBranches_166 (by decide) ?_
                  refine mr_lvS (lv' := [(0, .ref 23), (1, iv p1), (2, iv z2521), (3, jv z2520), (5, jv z2519), (8, iv z2517), (9, iv 0), (10, jv z4187), (12, jv z4205), (14, iv (z4029 + 1))]) (List.forall_mem_cons.mpr ⟨rfl, List.forall_mem_cons.mpr ⟨rfl, List.forall_mem_cons.mpr ⟨rfl, List.forall_mem_cons.mpr ⟨rfl, List.forall_mem_cons.mpr ⟨rfl, List.forall_mem_cons.mpr ⟨rfl, List.forall_mem_cons.mpr ⟨rfl, List.forall_mem_cons.mpr ⟨rfl, List.forall_mem_cons.mpr ⟨rfl, List.forall_mem_cons.mpr ⟨rfl, fun _ h => absurd h List.not_mem_nil⟩⟩⟩⟩⟩⟩⟩⟩⟩⟩) ?_
                  exact ih4044 0 z4187 z4205 (z4029 + 1) μ4178 T4179 (mF.call (mF.call (mF.call (mF.call mF.refl F4040 rfl) F4167 rfl) F4173 rfl) F4180 rfl) (rW (c := 0) (d := 1) (rR (x := 0)) rfl) h4188 h4206 (rW (c := 0) (d := 1001) (rAdd (e := 1) (f := 1001) h4140 (rR (x := 1)) rfl) rfl) (vc_X6_readBranches_Wx6_7 (nS h4042) h4138 h4140) (((W4208 h4206).2 h4213).1 h4218)
                have h4220 : 1 ≤ z4191 ∧ z4191 ≤ 1 := (vc_X12_ring_24 h4218 h4193)
                refine mr_iconst (pc := 156) (z := 1) dX6_readBranches_156 ?_
                refine sv_goto (pc := 157) (tgt := 161) dX6_readBranches_157 (by decide) ?_
                refine mr_istore (pc := 161) (lv' := [(9, iv 1), (12, jv z4205), (0, .ref 23), (1, iv p1), (2, iv z2521), (3, jv z2520), (5, jv z2519), (8, iv z2517), (10, jv z4187), (14, iv z4029)]) dX6_readBranches_161 (by decide) rfl ?_
                refine mr_iinc (pc := 163) (lv' := [(14, iv (z4029 + 1)), (9, iv 1), (12, jv z4205), (0, .ref 23), (1, iv p1), (2, iv z2521), (3, jv z2520), (5, jv z2519), (8, iv z2517), (10, jv z4187)]) dX6_readBranches_163 rfl (by decide) rfl ?_
                refine sv_goto (pc := 166) (tgt := 38) dX6_readBranches_166 (by decide) ?_
                refine mr_lvS (lv' := [(0, .ref 23), (1, iv p1), (2, iv z2521), (3, jv z2520), (5, jv z2519), (8, iv z2517), (9, iv 1), (10, jv z4187), (12, jv z4205), (14, iv (z4029 + 1))]) (List.forall_mem_cons.mpr ⟨rfl, List.forall_mem_cons.mpr ⟨rfl, List.forall_mem_cons.mpr ⟨rfl, List.forall_mem_cons.mpr ⟨rfl, List.forall_mem_cons.mpr ⟨rfl, List.forall_mem_cons.mpr ⟨rfl, List.forall_mem_cons.mpr ⟨rfl, List.forall_mem_cons.mpr ⟨rfl, List.forall_mem_cons.mpr ⟨rfl, List.forall_mem_cons.mpr ⟨rfl, fun _ h => absurd h List.not_mem_nil⟩⟩⟩⟩⟩⟩⟩⟩⟩⟩) ?_
                exact ih4044 1 z4187 z4205 (z4029 + 1) μ4178 T4179 (mF.call (mF.call (mF.call (mF.call mF.refl F4040 rfl) F4167 rfl) F4173 rfl) F4180 rfl) (rW (c := 0) (d := 1) (rR (x := 1)) rfl) h4188 h4206 (rW (c := 0) (d := 1001) (rAdd (e := 1) (f := 1001) h4140 (rR (x := 1)) rfl) rfl) (vc_X6_readBranches_Wx6_7 (nS h4042) h4138 h4140) (((W4208 h4206).2 h4213).2 h4218)
              refine mr_if_eq (pc := 125) (tgt := 138) dX6_readBranches_125 (by decide) (r32 h4193 rfl) (fun h4221 => ?_) (fun h4221 => ?_)
              · have h4222 : 0 ≤ z4191 ∧ z4191 ≤ 0 := (vc_X12_ring_22 h4221 h4193)
                refine sv_aload_n (pc := 138) dX6_readBranches_138 rfl rfl ?_
                refine gf_X6_17 (pc := 139) dX6_readBranches_139 wF_X6_183 (A_23 hw) T4179 fun z4223 q4224 h4225 => ?_
                refine mr_lvS (lv' := [(0, .ref 23), (1, iv p1), (2, iv z2521), (3, jv z2520), (5, jv z2519), (8, iv z2517), (9, iv z4032), (10, jv z4187), (14, iv z4029)]) (List.forall_mem_cons.mpr ⟨rfl, List.forall_mem_cons.mpr ⟨rfl, List.forall_mem_cons.mpr ⟨rfl, List.forall_mem_cons.mpr ⟨rfl, List.forall_mem_cons.mpr ⟨rfl, List.forall_mem_cons.mpr ⟨rfl, List.forall_mem_cons.mpr ⟨rfl, List.forall_mem_cons.mpr ⟨rfl, List.forall_mem_cons.mpr ⟨rfl, fun _ h => absurd h List.not_mem_nil⟩⟩⟩⟩⟩⟩⟩⟩⟩) ?_
                exact J4207 z4223 h4225 ((((W4190 h4188) z4191 q4192 h4193).1 h4221) z4223 q4224 h4225)
              have h4226 : 1 ≤ z4191 ∧ z4191 ≤ 1 := (vc_X12_ring_24 h4221 h4193)
              refine mr_lload (pc := 128) (z := z4030) dX6_readBranches_128 rfl ?_
              refine sv_aload_n (pc := 130) dX6_readBranches_130 rfl rfl ?_
              refine gf_X6_17 (pc := 131) dX6_readBranches_131 wF_X6_183 (A_23 hw) T4179 fun z4227 q4228 h4229 => ?_
              refine mr_lor (pc := 134) dX6_readBranches_134 ?_
              refine mr_genL (r64i _) fun z4230 q4231 h4232 => ?_
              refine sv_goto (pc := 135) (tgt := 142) dX6_readBranches_135 (by decide) ?_
              refine mr_lvS (lv' := [(0, .ref 23), (1, iv p1), (2, iv z2521), (3, jv z2520), (5, jv z2519), (8, iv z2517), (9, iv z4032), (10, jv z4187), (14, iv z4029)]) (List.forall_mem_cons.mpr ⟨rfl, List.forall_mem_cons.mpr ⟨rfl, List.forall_mem_cons.mpr ⟨rfl, List.forall_mem_cons.mpr ⟨rfl, List.forall_mem_cons.mpr ⟨rfl, List.forall_mem_cons.mpr ⟨rfl, List.forall_mem_cons.mpr ⟨rfl, List.forall_mem_cons.mpr ⟨rfl, List.forall_mem_cons.mpr ⟨rfl, fun _ h => absurd h List.not_mem_nil⟩⟩⟩⟩⟩⟩⟩⟩⟩) ?_
              exact J4207 z4230 h4232 (((((W4190 h4188) z4191 q4192 h4193).2 h4221) z4227 q4228 h4229) z4230 q4231)
            refine mr_if_eq (pc := 104) (tgt := 117) dX6_readBranches_104 (by decide) (r32 h4035 rfl) (fun h4233 => ?_) (fun h4233 => ?_)
            · have h4234 : 0 ≤ z4032 ∧ z4032 ≤ 0 := (vc_X12_ring_22 h4233 h4035)
              refine mr_lload (pc := 117) (z := z4031) dX6_readBranches_117 rfl ?_
              refine mr_lvS (lv' := [(0, .ref 23), (1, iv p1), (2, iv z2521), (3, jv z2520), (5, jv z2519), (8, iv z2517), (9, iv z4032), (12, jv z4030), (14, iv z4029)]) (List.forall_mem_cons.mpr ⟨rfl, List.forall_mem_cons.mpr ⟨rfl, List.forall_mem_cons.mpr ⟨rfl, List.forall_mem_cons.mpr ⟨rfl, List.forall_mem_cons.mpr ⟨rfl, List.forall_mem_cons.mpr ⟨rfl, List.forall_mem_cons.mpr ⟨rfl, List.forall_mem_cons.mpr ⟨rfl, List.forall_mem_cons.mpr ⟨rfl, fun _ h => absurd h List.not_mem_nil⟩⟩⟩⟩⟩⟩⟩⟩⟩) ?_
              exact J4189 z4031 h4036 ((h4181.1 T4179 F4180).1 h4233)
            have h4235 : 1 ≤ z4032 ∧ z4032 ≤ 1 := (vc_X12_ring_24 h4233 h4035)
            refine mr_lload (pc := 107) (z := z4031) dX6_readBranches_107 rfl ?_
            refine sv_aload_n (pc := 109) dX6_readBranches_109 rfl rfl ?_
            refine gk_X6_16 (pc := 110) dX6_readBranches_110 wF_X6_179 (A_23 hw) (F4180.f (A_23 hw) rfl q4176) ?_
            refine mr_lor (pc := 113) dX6_readBranches_113 ?_
            refine mr_genL (r64i _) fun z4236 q4237 h4238 => ?_
            refine sv_goto (pc := 114) (tgt := 119) dX6_readBranches_114 (by decide) ?_
            refine mr_lvS (lv' := [(0, .ref 23), (1, iv p1), (2, iv z2521), (3, jv z2520), (5, jv z2519), (8, iv z2517), (9, iv z4032), (12, jv z4030), (14, iv z4029)]) (List.forall_mem_cons.mpr ⟨rfl, List.forall_mem_cons.mpr ⟨rfl, List.forall_mem_cons.mpr ⟨rfl, List.forall_mem_cons.mpr ⟨rfl, List.forall_mem_cons.mpr ⟨rfl, List.forall_mem_cons.mpr ⟨rfl, List.forall_mem_cons.mpr ⟨rfl, List.forall_mem_cons.mpr ⟨rfl, List.forall_mem_cons.mpr ⟨rfl, fun _ h => absurd h List.not_mem_nil⟩⟩⟩⟩⟩⟩⟩⟩⟩) ?_
            exact J4189 z4236 h4238 (((h4181.1 T4179 F4180).2 h4233) z4236 q4237)
          refine mr_icmp_ne (pc := 73) (tgt := 84) dX6_readBranches_73 (by decide) h4146 (r32 (rR (x := 1040)) rfl) (fun h4239 => ?_) (fun h4239 => ?_)
          · refine sv_aload_n (pc := 84) dX6_readBranches_84 rfl rfl ?_
            refine mr_cVV (pc := 85) (c_X6_readPlace_Wx hw T4039 (((h4150.2.1 h4150.1).2 h4153).1 h4239)) (gOk _ _ _ _ _) dX6_readBranches_85 (tX6_readPlace _ _ _ _ _) ⟨wV_X6_readPlace, wL_X6_readPlace⟩ wM_X6_196 (gCX6 _ _ _ _ _) rfl (A_23 hw) rfl ⟨le_t rfl, le_t rfl⟩ ⟨le_t rfl, le_t rfl⟩ rfl (le_t rfl) fun μ4240 T4241 F4242 h4243 => ?_
            exact J4169 μ4240 T4241 (mF.call mF.refl F4242 rfl) (h4243.1 T4241 F4242)
          have h4244 : 1040 ≤ z4144 ∧ z4144 ≤ 1040 := (vc_X6_readBranches_Wx6_19 h4239 h4146)
          refine sv_aload_n (pc := 76) dX6_readBranches_76 rfl rfl ?_
          refine mr_iload_n (pc := 77) (z := p1) dX6_readBranches_77 rfl rfl ?_
          refine mr_cVV (pc := 78) (c_X6_readGroup_Wx1 hw T4039 hp1 (((h4150.2.1 h4150.1).2 h4153).2 h4239)) (gOk _ _ _ _ _) dX6_readBranches_78 (tX6_readGroup _ _ _ _ _) ⟨wV_X6_readGroup, wL_X6_readGroup⟩ wM_X6_193 (gCX6 _ _ _ _ _) rfl (A_23 hw) rfl ⟨le_t rfl, le_t rfl⟩ ⟨le_t rfl, le_t rfl⟩ rfl (le_t rfl) fun μ4245 T4246 F4247 h4248 => ?_
          refine sv_goto (pc := 81) (tgt := 88) dX6_readBranches_81 (by decide) ?_
          exact J4169 μ4245 T4246 (mF.call mF.refl F4247 rfl) (h4248.1 T4246 F4247)
      refine mr_lvS (lv' := [(0, .ref 23), (1, iv p1), (2, iv z2521), (3, jv z2520), (5, jv z2519), (8, iv z2517), (9, iv 1), (10, jv 0), (12, jv 0), (14, iv 0)]) (List.forall_mem_cons.mpr ⟨rfl, List.forall_mem_cons.mpr ⟨rfl, List.forall_mem_cons.mpr ⟨rfl, List.forall_mem_cons.mpr ⟨rfl, List.forall_mem_cons.mpr ⟨rfl, List.forall_mem_cons.mpr ⟨rfl, List.forall_mem_cons.mpr ⟨rfl, List.forall_mem_cons.mpr ⟨rfl, List.forall_mem_cons.mpr ⟨rfl, List.forall_mem_cons.mpr ⟨rfl, fun _ h => absurd h List.not_mem_nil⟩⟩⟩⟩⟩⟩⟩⟩⟩⟩) ?_
      exact L4034 1003 1 0 0 0 μ2522 T2529 mF.refl (rW (c := 0) (d := 1) (rR (x := 1)) rfl) (rW (c := -9223372036854775808) (d := 9223372036854775807) (rR (x := 0)) rfl) (rW (c := -9223372036854775808) (d := 9223372036854775807) (rR (x := 0)) rfl) (rW (c := 0) (d := 1001) (rR (x := 0)) rfl) vc_X6_readBranches_Wx6_20 (((W2533 z2521 z2520 z2519 z2518 z2517 μ2522 rfl h2524 h2525 h2526 h2527 h2528 T2529 F2530).2 h2715).2 h2905)
  refine mr_lvS (lv' := [(0, .ref 23), (1, iv p1), (2, iv 0), (3, jv 0), (5, jv 0), (7, iv 1), (8, iv 0)]) (List.forall_mem_cons.mpr ⟨rfl, List.forall_mem_cons.mpr ⟨rfl, List.forall_mem_cons.mpr ⟨rfl, List.forall_mem_cons.mpr ⟨rfl, List.forall_mem_cons.mpr ⟨rfl, List.forall_mem_cons.mpr ⟨rfl, List.forall_mem_cons.mpr ⟨rfl, fun _ h => absurd h List.not_mem_nil⟩⟩⟩⟩⟩⟩⟩) ?_
  exact L2523 1003 0 0 0 1 0 μ hT mF.refl (rW (c := 0) (d := 1) (rR (x := 0)) rfl) (rW (c := -9223372036854775808) (d := 9223372036854775807) (rR (x := 0)) rfl) (rW (c := -9223372036854775808) (d := 9223372036854775807) (rR (x := 0)) rfl) (rW (c := 0) (d := 1) (rR (x := 1)) rfl) (rW (c := 0) (d := 1001) (rR (x := 0)) rfl) vc_X6_readBranches_Wx6_20 hQ
def WP_X6_readWay_Wx (w : mW) (μ : mM) (p1 : Int) (Q : mM → Prop) : Prop := WP_X6_expect_Wx w μ (1040) (fun μ1 => mT w μ1 → mF [23009, 23018, 23019] w μ μ1 → WP_X6_readBranches_Wx1 w μ1 (1) (fun μ5 => mT w μ5 → mF [23009, 23012, 23015, 23016, 23017, 23018, 23019, 28999, 29999] w μ1 μ5 → WP_X6_expect_Wx w μ5 (1041) (fun μ9 => mT w μ9 → mF [23009, 23018, 23019] w μ5 μ9 → ∀ z13 : Int, μ9 23 13 = z13 → (0 ≤ z13 ∧ z13 ≤ 250) → ((250 ≤ z13) → Q μ9) ∧ ((z13 < 250) → ∀ z52 : Int, μ9 23 16 = z52 → ((-9223372036854775808) ≤ z52 ∧ z52 ≤ 9223372036854775807) → ∀ μ55 : mM, mU μ9 30 (z13.toNat) z52 μ55 → mT w μ55 → ∀ z58 : Int, μ55 23 17 = z58 → ((-9223372036854775808) ≤ z58 ∧ z58 ≤ 9223372036854775807) → ∀ μ61 : mM, mU μ55 31 (z13.toNat) z58 μ61 → mT w μ61 → ∀ z64 : Int, μ61 23 15 = z64 → (0 ≤ z64 ∧ z64 ≤ 1) → ((z64 = 0) → WP_X6_putTest_Wx w μ61 (6) p1 z13 (0) (0) (fun μ71 => mT w μ71 → mF [23011, 27999] w μ61 μ71 → ∀ μ76 : mM, mU μ71 23 (13) (z13 + 1) μ76 → mT w μ76 → Q μ76)) ∧ ((¬ z64 = 0) → WP_X6_putTest_Wx w μ61 (6) p1 z13 (1) (0) (fun μ80 => mT w μ80 → mF [23011, 27999] w μ61 μ80 → ∀ μ85 : mM, mU μ80 23 (13) (z13 + 1) μ85 → mT w μ85 → Q μ85))))))
theorem vc_X6_readWay_Wx_1 {z13 : Int} (h0 : 250 ≤ z13) (h1 : 0 ≤ z13 ∧ z13 ≤ 250) : 250 ≤ z13 ∧ z13 ≤ 250 := by omega
theorem vc_X6_readWay_Wx_2 {z13 : Int} (h0 : z13 < 250) (h1 : 0 ≤ z13 ∧ z13 ≤ 250) : 0 ≤ z13 ∧ z13 ≤ 249 := by omega
set_option maxRecDepth 4000 in
set_option maxHeartbeats 4000000 in
theorem c_X6_readWay_Wx {l : Launch} {D : va_G} {c : Nat → ClassId} {H0 : Heap} {sa : Nat × Nat × (Nat → Int32)} {w : mW} {μ : mM} (hw : mWF w) (hT : mT w μ) {p1 : Int} (hp1 : (-2147483648) ≤ p1 ∧ p1 ≤ 2147483647) {Q : mM → Prop} (hQ : WP_X6_readWay_Wx w μ p1 Q) : sC (gG l D c H0 sa) mX6_readWay 14 0 0 [.ref 23, iv p1] (mk w μ) (qV w [23009, 23011, 23012, 23013, 23015, 23016, 23017, 23018, 23019, 27999, 28999, 29999, 30999, 31999] μ (fun μ1 => Q μ1 ∧ True)) := by
  refine sC.of rfl (by decide) (le_t rfl) ?_
  refine mr_lvE (lv' := [(0, .ref 23), (1, iv p1)]) rfl ?_
  refine sv_aload_n (pc := 0) dX6_readWay_0 rfl rfl ?_
  refine mr_sipush (pc := 1) (z := 1040) dX6_readWay_1 (by decide) ?_
  refine mr_cVV (pc := 4) (c_X6_expect_Wx hw hT (rW (c := (-2147483648)) (d := 2147483647) (rR (x := 1040)) rfl) hQ) (gOk _ _ _ _ _) dX6_readWay_4 (tX6_expect _ _ _ _ _) ⟨wV_X6_expect, wL_X6_expect⟩ wM_X6_136 (gCX6 _ _ _ _ _) rfl (A_23 hw) rfl ⟨le_t rfl, le_t rfl⟩ ⟨le_t rfl, le_t rfl⟩ rfl (le_t rfl) fun μ1 T2 F3 h4 => ?_
  refine sv_aload_n (pc := 7) dX6_readWay_7 rfl rfl ?_
  refine mr_iconst (pc := 8) (z := 1) dX6_readWay_8 ?_
  refine mr_cVV (pc := 9) (c_X6_readBranches_Wx1 hw T2 (rR (x := 1)) (h4.1 T2 F3)) (gOk _ _ _ _ _) dX6_readWay_9 (tX6_readBranches _ _ _ _ _) ⟨wV_X6_readBranches, wL_X6_readBranches⟩ wM_X6_176 (gCX6 _ _ _ _ _) rfl (A_23 hw) rfl ⟨le_t rfl, le_t rfl⟩ ⟨le_t rfl, le_t rfl⟩ rfl (le_t rfl) fun μ5 T6 F7 h8 => ?_
  refine sv_aload_n (pc := 12) dX6_readWay_12 rfl rfl ?_
  refine mr_sipush (pc := 13) (z := 1041) dX6_readWay_13 (by decide) ?_
  refine mr_cVV (pc := 16) (c_X6_expect_Wx hw T6 (rW (c := (-2147483648)) (d := 2147483647) (rR (x := 1041)) rfl) (h8.1 T6 F7)) (gOk _ _ _ _ _) dX6_readWay_16 (tX6_expect _ _ _ _ _) ⟨wV_X6_expect, wL_X6_expect⟩ wM_X6_136 (gCX6 _ _ _ _ _) rfl (A_23 hw) rfl ⟨le_t rfl, le_t rfl⟩ ⟨le_t rfl, le_t rfl⟩ rfl (le_t rfl) fun μ9 T10 F11 h12 => ?_
  refine sv_aload_n (pc := 19) dX6_readWay_19 rfl rfl ?_
  refine gf_X6_13 (pc := 20) dX6_readWay_20 wF_X6_53 (A_23 hw) T10 fun z13 q14 h15 => ?_
  refine mr_sipush (pc := 23) (z := 250) dX6_readWay_23 (by decide) ?_
  refine mr_icmp_ge (pc := 26) (tgt := 89) dX6_readWay_26 (by decide) (r32 h15 rfl) (r32 (rR (x := 250)) rfl) (fun h49 => ?_) (fun h49 => ?_)
  · have h50 : 250 ≤ z13 ∧ z13 ≤ 250 := (vc_X6_readWay_Wx_1 h49 h15)
    exact mr_vret dX6_readWay_89 rfl (le_t rfl) (le_t rfl) T10 (mF.call (mF.call (mF.call mF.refl F3 rfl) F7 rfl) F11 rfl) ⟨(((h12.1 T10 F11) z13 q14 h15).1 h49), trivial⟩
  have h51 : 0 ≤ z13 ∧ z13 ≤ 249 := (vc_X6_readWay_Wx_2 h49 h15)
  refine sv_aload_n (pc := 29) dX6_readWay_29 rfl rfl ?_
  refine gf_X6_6 (pc := 30) dX6_readWay_30 wF_X6_31 (A_23 hw) T10 ?_
  refine sv_aload_n (pc := 33) dX6_readWay_33 rfl rfl ?_
  refine gk_X6_13 (pc := 34) dX6_readWay_34 wF_X6_53 (A_23 hw) q14 ?_
  refine sv_aload_n (pc := 37) dX6_readWay_37 rfl rfl ?_
  refine gf_X6_16 (pc := 38) dX6_readWay_38 wF_X6_179 (A_23 hw) T10 fun z52 q53 h54 => ?_
  refine ss_30 (pc := 41) dX6_readWay_41 (A_30 hw) T10 (rIx (n := 250) h51 rfl) h54 fun μ55 u56 T57 => ?_
  refine sv_aload_n (pc := 42) dX6_readWay_42 rfl rfl ?_
  refine gf_X6_7 (pc := 43) dX6_readWay_43 wF_X6_34 (A_23 hw) T57 ?_
  refine sv_aload_n (pc := 46) dX6_readWay_46 rfl rfl ?_
  refine gk_X6_13 (pc := 47) dX6_readWay_47 wF_X6_53 (A_23 hw) (u56.f (Or.inl (mAt.ne (A_30 hw) (A_23 hw) rfl)) q14) ?_
  refine sv_aload_n (pc := 50) dX6_readWay_50 rfl rfl ?_
  refine gf_X6_17 (pc := 51) dX6_readWay_51 wF_X6_183 (A_23 hw) T57 fun z58 q59 h60 => ?_
  refine ss_31 (pc := 54) dX6_readWay_54 (A_31 hw) T57 (rIx (n := 250) h51 rfl) h60 fun μ61 u62 T63 => ?_
  refine sv_aload_n (pc := 55) dX6_readWay_55 rfl rfl ?_
  refine mr_bipush (pc := 56) (z := 6) dX6_readWay_56 (by decide) ?_
  refine mr_iload_n (pc := 58) (z := p1) dX6_readWay_58 rfl rfl ?_
  refine sv_aload_n (pc := 59) dX6_readWay_59 rfl rfl ?_
  refine gk_X6_13 (pc := 60) dX6_readWay_60 wF_X6_53 (A_23 hw) (u62.f (Or.inl (mAt.ne (A_31 hw) (A_23 hw) rfl)) (u56.f (Or.inl (mAt.ne (A_30 hw) (A_23 hw) rfl)) q14)) ?_
  refine sv_aload_n (pc := 63) dX6_readWay_63 rfl rfl ?_
  refine gf_X6_15 (pc := 64) dX6_readWay_64 wF_X6_186 (A_23 hw) T63 fun z64 q65 h66 => ?_
  refine mr_if_eq (pc := 67) (tgt := 74) dX6_readWay_67 (by decide) (r32 h66 rfl) (fun h69 => ?_) (fun h69 => ?_)
  · have h70 : 0 ≤ z64 ∧ z64 ≤ 0 := (vc_X12_ring_22 h69 h66)
    refine mr_iconst (pc := 74) (z := 0) dX6_readWay_74 ?_
    refine mr_iconst (pc := 75) (z := 0) dX6_readWay_75 ?_
    have W75 := (((((((((h12.1 T10 F11) z13 q14 h15).2 h49) z52 q53 h54) μ55 u56 T57) z58 q59 h60) μ61 u62 T63) z64 q65 h66).1 h69)
    refine mr_cVV (pc := 76) (c_X6_putTest_Wx hw T63 (rW (c := (-2147483648)) (d := 2147483647) (rR (x := 6)) rfl) hp1 (rW (c := (-2147483648)) (d := 2147483647) h51 rfl) (rW (c := (-2147483648)) (d := 2147483647) (rR (x := 0)) rfl) (rW (c := (-2147483648)) (d := 2147483647) (rR (x := 0)) rfl) W75) (gOk _ _ _ _ _) dX6_readWay_76 (tX6_putTest _ _ _ _ _) ⟨wV_X6_putTest, wL_X6_putTest⟩ wM_X6_157 (gCX6 _ _ _ _ _) rfl (A_23 hw) rfl ⟨le_t rfl, le_t rfl⟩ ⟨le_t rfl, le_t rfl⟩ rfl (le_t rfl) fun μ71 T72 F73 h74 => ?_
    refine sv_aload_n (pc := 79) dX6_readWay_79 rfl rfl ?_
    refine sv_dup (pc := 80) dX6_readWay_80 rfl ?_
    refine gk_X6_13 (pc := 81) dX6_readWay_81 wF_X6_53 (A_23 hw) (F73.f (A_23 hw) rfl (u62.f (Or.inl (mAt.ne (A_31 hw) (A_23 hw) rfl)) (u56.f (Or.inl (mAt.ne (A_30 hw) (A_23 hw) rfl)) q14))) ?_
    refine mr_iconst (pc := 84) (z := 1) dX6_readWay_84 ?_
    refine mr_iadd (pc := 85) (x := z13) (y := 1) dX6_readWay_85 ?_
    refine pf_X6_13 (pc := 86) dX6_readWay_86 wF_X6_53 (A_23 hw) T72 (rW (c := 0) (d := 250) (rAdd (e := 1) (f := 250) h51 (rR (x := 1)) rfl) rfl) fun μ76 u77 T78 => ?_
    exact mr_vret dX6_readWay_89 rfl (le_t rfl) (le_t rfl) T78 (mF.up (mF.call (mF.up (mF.up (mF.call (mF.call (mF.call mF.refl F3 rfl) F7 rfl) F11 rfl) (A_30 hw) u56 rfl) (A_31 hw) u62 rfl) F73 rfl) (A_23 hw) u77 rfl) ⟨((h74.1 T72 F73) μ76 u77 T78), trivial⟩
  have h79 : 1 ≤ z64 ∧ z64 ≤ 1 := (vc_X12_ring_24 h69 h66)
  refine mr_iconst (pc := 70) (z := 1) dX6_readWay_70 ?_
  refine sv_goto (pc := 71) (tgt := 75) dX6_readWay_71 (by decide) ?_
  refine mr_iconst (pc := 75) (z := 0) dX6_readWay_75 ?_
  have W84 := (((((((((h12.1 T10 F11) z13 q14 h15).2 h49) z52 q53 h54) μ55 u56 T57) z58 q59 h60) μ61 u62 T63) z64 q65 h66).2 h69)
  refine mr_cVV (pc := 76) (c_X6_putTest_Wx hw T63 (rW (c := (-2147483648)) (d := 2147483647) (rR (x := 6)) rfl) hp1 (rW (c := (-2147483648)) (d := 2147483647) h51 rfl) (rW (c := (-2147483648)) (d := 2147483647) (rR (x := 1)) rfl) (rW (c := (-2147483648)) (d := 2147483647) (rR (x := 0)) rfl) W84) (gOk _ _ _ _ _) dX6_readWay_76 (tX6_putTest _ _ _ _ _) ⟨wV_X6_putTest, wL_X6_putTest⟩ wM_X6_157 (gCX6 _ _ _ _ _) rfl (A_23 hw) rfl ⟨le_t rfl, le_t rfl⟩ ⟨le_t rfl, le_t rfl⟩ rfl (le_t rfl) fun μ80 T81 F82 h83 => ?_
  refine sv_aload_n (pc := 79) dX6_readWay_79 rfl rfl ?_
  refine sv_dup (pc := 80) dX6_readWay_80 rfl ?_
  refine gk_X6_13 (pc := 81) dX6_readWay_81 wF_X6_53 (A_23 hw) (F82.f (A_23 hw) rfl (u62.f (Or.inl (mAt.ne (A_31 hw) (A_23 hw) rfl)) (u56.f (Or.inl (mAt.ne (A_30 hw) (A_23 hw) rfl)) q14))) ?_
  refine mr_iconst (pc := 84) (z := 1) dX6_readWay_84 ?_
  refine mr_iadd (pc := 85) (x := z13) (y := 1) dX6_readWay_85 ?_
  refine pf_X6_13 (pc := 86) dX6_readWay_86 wF_X6_53 (A_23 hw) T81 (rW (c := 0) (d := 250) (rAdd (e := 1) (f := 250) h51 (rR (x := 1)) rfl) rfl) fun μ85 u86 T87 => ?_
  exact mr_vret dX6_readWay_89 rfl (le_t rfl) (le_t rfl) T87 (mF.up (mF.call (mF.up (mF.up (mF.call (mF.call (mF.call mF.refl F3 rfl) F7 rfl) F11 rfl) (A_30 hw) u56 rfl) (A_31 hw) u62 rfl) F82 rfl) (A_23 hw) u86 rfl) ⟨((h83.1 T81 F82) μ85 u86 T87), trivial⟩
def WP_X6_oneOf_Wx (w : mW) (μ : mM) (p1 : Int) (p2 : Int) (Q : Int → mM → Prop) : Prop := ∀ z1 : Int, μ 23 9 = z1 → (0 ≤ z1 ∧ z1 ≤ 1000) → ∀ z4 : Int, μ 24 (z1.toNat) = z4 → ((-2147483648) ≤ z4 ∧ z4 ≤ 2147483647) → ((z4 < p1) → WP_X6_fail_Wx w μ (2) (fun μ10 => mT w μ10 → mF [23009, 23018, 23019] w μ μ10 → Q p1 μ10)) ∧ ((p1 ≤ z4) → ((z4 ≤ p2) → WP_X6_step_Wx w μ  (fun μ15 => mT w μ15 → mF [23009] w μ μ15 → Q z4 μ15)) ∧ ((p2 < z4) → WP_X6_fail_Wx w μ (2) (fun μ21 => mT w μ21 → mF [23009, 23018, 23019] w μ μ21 → Q p1 μ21)))
set_option maxRecDepth 4000 in
set_option maxHeartbeats 4000000 in
theorem c_X6_oneOf_Wx {l : Launch} {D : va_G} {c : Nat → ClassId} {H0 : Heap} {sa : Nat × Nat × (Nat → Int32)} {w : mW} {μ : mM} (hw : mWF w) (hT : mT w μ) {p1 : Int} (hp1 : (-2147483648) ≤ p1 ∧ p1 ≤ 2147483647) {p2 : Int} (hp2 : (-2147483648) ≤ p2 ∧ p2 ≤ 2147483647) {Q : Int → mM → Prop} (hQ : WP_X6_oneOf_Wx w μ p1 p2 Q) : sC (gG l D c H0 sa) mX6_oneOf 2 0 0 [.ref 23, iv p1, iv p2] (mk w μ) (qI w [23009, 23018, 23019] μ (fun z μ1 => ((-2147483648) ≤ z ∧ z ≤ 2147483647) ∧ Q z μ1 ∧ True)) := by
  refine sC.of rfl (by decide) (le_t rfl) ?_
  refine mr_lvE (lv' := [(0, .ref 23), (1, iv p1), (2, iv p2)]) rfl ?_
  refine sv_aload_n (pc := 0) dX6_oneOf_0 rfl rfl ?_
  refine gf_X6_0 (pc := 1) dX6_oneOf_1 wF_X6_9 (A_23 hw) hT ?_
  refine sv_aload_n (pc := 4) dX6_oneOf_4 rfl rfl ?_
  refine gf_X6_9 (pc := 5) dX6_oneOf_5 wF_X6_63 (A_23 hw) hT fun z1 q2 h3 => ?_
  refine la_24 (pc := 8) dX6_oneOf_8 (A_24 hw) hT (rIx (n := 1001) h3 rfl) fun z4 q5 h6 => ?_
  refine mr_istore_n (pc := 9) (lv' := [(3, iv z4), (0, .ref 23), (1, iv p1), (2, iv p2)]) dX6_oneOf_9 rfl (by decide) rfl ?_
  refine mr_iload_n (pc := 10) (z := z4) dX6_oneOf_10 rfl rfl ?_
  refine mr_iload_n (pc := 11) (z := p1) dX6_oneOf_11 rfl rfl ?_
  refine mr_icmp_lt (pc := 12) (tgt := 20) dX6_oneOf_12 (by decide) h6 hp1 (fun h7 => ?_) (fun h7 => ?_)
  · have h8 : (-2147483648) ≤ z4 ∧ z4 ≤ 2147483646 := (vc_X7_addMark_W_16 h7 hp1 h6)
    have h9 : (-2147483647) ≤ p1 ∧ p1 ≤ 2147483647 := (vc_X7_addMark_W_17 h7 hp1 h8)
    refine sv_aload_n (pc := 20) dX6_oneOf_20 rfl rfl ?_
    refine mr_iconst (pc := 21) (z := 2) dX6_oneOf_21 ?_
    refine mr_cVV (pc := 22) (c_X6_fail_Wx hw hT (rW (c := 1) (d := 4) (rR (x := 2)) rfl) (((hQ z1 q2 h3) z4 q5 h6).1 h7)) (gOk _ _ _ _ _) dX6_oneOf_22 (tX6_fail _ _ _ _ _) ⟨wV_X6_fail, wL_X6_fail⟩ wM_X6_123 (gCX6 _ _ _ _ _) rfl (A_23 hw) rfl ⟨le_t rfl, le_t rfl⟩ ⟨le_t rfl, le_t rfl⟩ rfl (le_t rfl) fun μ10 T11 F12 h13 => ?_
    refine mr_iload_n (pc := 25) (z := p1) dX6_oneOf_25 rfl rfl ?_
    exact mr_iret dX6_oneOf_26 rfl (le_t rfl) (le_t rfl) T11 (mF.call mF.refl F12 rfl) ⟨(rW (c := (-2147483648)) (d := 2147483647) h9 rfl), (h13.1 T11 F12), trivial⟩
  refine mr_iload_n (pc := 15) (z := z4) dX6_oneOf_15 rfl rfl ?_
  refine mr_iload_n (pc := 16) (z := p2) dX6_oneOf_16 rfl rfl ?_
  refine mr_icmp_le (pc := 17) (tgt := 27) dX6_oneOf_17 (by decide) h6 hp2 (fun h14 => ?_) (fun h14 => ?_)
  · refine sv_aload_n (pc := 27) dX6_oneOf_27 rfl rfl ?_
    refine mr_cVV (pc := 28) (c_X6_step_Wx hw hT ((((hQ z1 q2 h3) z4 q5 h6).2 h7).1 h14)) (gOk _ _ _ _ _) dX6_oneOf_28 (tX6_step _ _ _ _ _) ⟨wV_X6_step, wL_X6_step⟩ wM_X6_117 (gCX6 _ _ _ _ _) rfl (A_23 hw) rfl ⟨le_t rfl, le_t rfl⟩ ⟨le_t rfl, le_t rfl⟩ rfl (le_t rfl) fun μ15 T16 F17 h18 => ?_
    refine mr_iload_n (pc := 31) (z := z4) dX6_oneOf_31 rfl rfl ?_
    exact mr_iret dX6_oneOf_32 rfl (le_t rfl) (le_t rfl) T16 (mF.call mF.refl F17 rfl) ⟨h6, (h18.1 T16 F17), trivial⟩
  have h19 : (-2147483647) ≤ z4 ∧ z4 ≤ 2147483647 := (vc_X6_number_Wx_4 h14 h7 hp1 hp2 h6)
  have h20 : (-2147483648) ≤ p2 ∧ p2 ≤ 2147483646 := (vc_X6_number_Wx_5 h14 h7 hp1 hp2 h19)
  refine sv_aload_n (pc := 20) dX6_oneOf_20 rfl rfl ?_
  refine mr_iconst (pc := 21) (z := 2) dX6_oneOf_21 ?_
  refine mr_cVV (pc := 22) (c_X6_fail_Wx hw hT (rW (c := 1) (d := 4) (rR (x := 2)) rfl) ((((hQ z1 q2 h3) z4 q5 h6).2 h7).2 h14)) (gOk _ _ _ _ _) dX6_oneOf_22 (tX6_fail _ _ _ _ _) ⟨wV_X6_fail, wL_X6_fail⟩ wM_X6_123 (gCX6 _ _ _ _ _) rfl (A_23 hw) rfl ⟨le_t rfl, le_t rfl⟩ ⟨le_t rfl, le_t rfl⟩ rfl (le_t rfl) fun μ21 T22 F23 h24 => ?_
  refine mr_iload_n (pc := 25) (z := p1) dX6_oneOf_25 rfl rfl ?_
  exact mr_iret dX6_oneOf_26 rfl (le_t rfl) (le_t rfl) T22 (mF.call mF.refl F23 rfl) ⟨hp1, (h24.1 T22 F23), trivial⟩
def WP_X6_verdictOf_Wx (w : mW) (μ : mM) (p1 : Int) (Q : Int → mM → Prop) : Prop := ((¬ p1 = 20) → ((¬ p1 = 21) → Q (0 : Int) μ) ∧ ((p1 = 21) → Q (2 : Int) μ)) ∧ ((p1 = 20) → Q (1 : Int) μ)
theorem vc_X6_verdictOf_Wx_1 {p1 : Int} (h0 : p1 = 21) (h1 : ¬ p1 = 20) (h2 : (-2147483648) ≤ p1 ∧ p1 ≤ 2147483647) : 21 ≤ p1 ∧ p1 ≤ 21 := by omega
set_option maxRecDepth 4000 in
set_option maxHeartbeats 4000000 in
theorem c_X6_verdictOf_Wx {l : Launch} {D : va_G} {c : Nat → ClassId} {H0 : Heap} {sa : Nat × Nat × (Nat → Int32)} {w : mW} {μ : mM} (hw : mWF w) (hT : mT w μ) {p1 : Int} (hp1 : (-2147483648) ≤ p1 ∧ p1 ≤ 2147483647) {Q : Int → mM → Prop} (hQ : WP_X6_verdictOf_Wx w μ p1 Q) : sC (gG l D c H0 sa) mX6_verdictOf 1 0 0 [iv p1] (mk w μ) (qP w μ (fun z => ((-2147483648) ≤ z ∧ z ≤ 2147483647) ∧ Q z μ ∧ True)) := by
  refine sC.of rfl (by decide) (le_t rfl) ?_
  refine mr_lvE (lv' := [(0, iv p1)]) rfl ?_
  refine mr_iload_n (pc := 0) (z := p1) dX6_verdictOf_0 rfl rfl ?_
  refine mr_bipush (pc := 1) (z := 20) dX6_verdictOf_1 (by decide) ?_
  refine mr_icmp_ne (pc := 3) (tgt := 8) dX6_verdictOf_3 (by decide) hp1 (r32 (rR (x := 20)) rfl) (fun h1 => ?_) (fun h1 => ?_)
  · refine mr_iload_n (pc := 8) (z := p1) dX6_verdictOf_8 rfl rfl ?_
    refine mr_bipush (pc := 9) (z := 21) dX6_verdictOf_9 (by decide) ?_
    refine mr_icmp_ne (pc := 11) (tgt := 18) dX6_verdictOf_11 (by decide) hp1 (r32 (rR (x := 21)) rfl) (fun h3 => ?_) (fun h3 => ?_)
    · refine mr_iconst (pc := 18) (z := 0) dX6_verdictOf_18 ?_
      exact mr_iretP dX6_verdictOf_19 rfl (le_t rfl) (le_t rfl) ⟨(rW (c := (-2147483648)) (d := 2147483647) (rR (x := 0)) rfl), ((hQ.1 h1).1 h3), trivial⟩
    have h4 : 21 ≤ p1 ∧ p1 ≤ 21 := (vc_X6_verdictOf_Wx_1 h3 h1 hp1)
    refine mr_iconst (pc := 14) (z := 2) dX6_verdictOf_14 ?_
    refine sv_goto (pc := 15) (tgt := 19) dX6_verdictOf_15 (by decide) ?_
    exact mr_iretP dX6_verdictOf_19 rfl (le_t rfl) (le_t rfl) ⟨(rW (c := (-2147483648)) (d := 2147483647) (rR (x := 2)) rfl), ((hQ.1 h1).2 h3), trivial⟩
  have h5 : 20 ≤ p1 ∧ p1 ≤ 20 := (vc_X12_isSo_11 h1 hp1)
  refine mr_iconst (pc := 6) (z := 1) dX6_verdictOf_6 ?_
  exact mr_iretP dX6_verdictOf_7 rfl (le_t rfl) (le_t rfl) ⟨(rW (c := (-2147483648)) (d := 2147483647) (rR (x := 1)) rfl), (hQ.2 h1), trivial⟩
def WP_X6_relation_Wx (w : mW) (μ : mM) (Q : Int → mM → Prop) : Prop := ∀ z1 : Int, μ 23 9 = z1 → (0 ≤ z1 ∧ z1 ≤ 1000) → ∀ z4 : Int, μ 24 (z1.toNat) = z4 → ((-2147483648) ≤ z4 ∧ z4 ≤ 2147483647) → ((z4 = 1060) → WP_X6_step_Wx w μ  (fun μ9 => mT w μ9 → mF [23009] w μ μ9 → Q ((z4 - 1000) - 60) μ9)) ∧ ((¬ z4 = 1060) → ((z4 = 1061) → WP_X6_step_Wx w μ  (fun μ15 => mT w μ15 → mF [23009] w μ μ15 → Q ((z4 - 1000) - 60) μ15)) ∧ ((¬ z4 = 1061) → ((z4 = 1062) → WP_X6_step_Wx w μ  (fun μ21 => mT w μ21 → mF [23009] w μ μ21 → Q ((z4 - 1000) - 60) μ21)) ∧ ((¬ z4 = 1062) → WP_X6_fail_Wx w μ (2) (fun μ25 => mT w μ25 → mF [23009, 23018, 23019] w μ μ25 → Q (0 : Int) μ25))))
theorem vc_X6_relation_Wx_1 {z4 : Int} (h0 : z4 = 1060) (h1 : (-2147483648) ≤ z4 ∧ z4 ≤ 2147483647) : 1060 ≤ z4 ∧ z4 ≤ 1060 := by omega
theorem vc_X6_relation_Wx_2 {z4 : Int} (h0 : z4 = 1061) (h1 : ¬ z4 = 1060) (h2 : (-2147483648) ≤ z4 ∧ z4 ≤ 2147483647) : 1061 ≤ z4 ∧ z4 ≤ 1061 := by omega
theorem vc_X6_relation_Wx_3 {z4 : Int} (h0 : z4 = 1062) (h1 : ¬ z4 = 1060) (h2 : ¬ z4 = 1061) (h3 : (-2147483648) ≤ z4 ∧ z4 ≤ 2147483647) : 1062 ≤ z4 ∧ z4 ≤ 1062 := by omega
set_option maxRecDepth 4000 in
set_option maxHeartbeats 4000000 in
theorem c_X6_relation_Wx {l : Launch} {D : va_G} {c : Nat → ClassId} {H0 : Heap} {sa : Nat × Nat × (Nat → Int32)} {w : mW} {μ : mM} (hw : mWF w) (hT : mT w μ) {Q : Int → mM → Prop} (hQ : WP_X6_relation_Wx w μ  Q) : sC (gG l D c H0 sa) mX6_relation 2 0 0 [.ref 23] (mk w μ) (qI w [23009, 23018, 23019] μ (fun z μ1 => ((-2147483648) ≤ z ∧ z ≤ 2147483647) ∧ Q z μ1 ∧ True)) := by
  refine sC.of rfl (by decide) (le_t rfl) ?_
  refine mr_lvE (lv' := [(0, .ref 23)]) rfl ?_
  refine sv_aload_n (pc := 0) dX6_relation_0 rfl rfl ?_
  refine gf_X6_0 (pc := 1) dX6_relation_1 wF_X6_9 (A_23 hw) hT ?_
  refine sv_aload_n (pc := 4) dX6_relation_4 rfl rfl ?_
  refine gf_X6_9 (pc := 5) dX6_relation_5 wF_X6_63 (A_23 hw) hT fun z1 q2 h3 => ?_
  refine la_24 (pc := 8) dX6_relation_8 (A_24 hw) hT (rIx (n := 1001) h3 rfl) fun z4 q5 h6 => ?_
  refine mr_istore_n (pc := 9) (lv' := [(1, iv z4), (0, .ref 23)]) dX6_relation_9 rfl (by decide) rfl ?_
  refine mr_iload_n (pc := 10) (z := z4) dX6_relation_10 rfl rfl ?_
  refine mr_sipush (pc := 11) (z := 1060) dX6_relation_11 (by decide) ?_
  refine mr_icmp_eq (pc := 14) (tgt := 38) dX6_relation_14 (by decide) h6 (r32 (rR (x := 1060)) rfl) (fun h7 => ?_) (fun h7 => ?_)
  · have h8 : 1060 ≤ z4 ∧ z4 ≤ 1060 := (vc_X6_relation_Wx_1 h7 h6)
    refine sv_aload_n (pc := 38) dX6_relation_38 rfl rfl ?_
    refine mr_cVV (pc := 39) (c_X6_step_Wx hw hT (((hQ z1 q2 h3) z4 q5 h6).1 h7)) (gOk _ _ _ _ _) dX6_relation_39 (tX6_step _ _ _ _ _) ⟨wV_X6_step, wL_X6_step⟩ wM_X6_117 (gCX6 _ _ _ _ _) rfl (A_23 hw) rfl ⟨le_t rfl, le_t rfl⟩ ⟨le_t rfl, le_t rfl⟩ rfl (le_t rfl) fun μ9 T10 F11 h12 => ?_
    refine mr_iload_n (pc := 42) (z := z4) dX6_relation_42 rfl rfl ?_
    refine mr_sipush (pc := 43) (z := 1000) dX6_relation_43 (by decide) ?_
    refine mr_isub (pc := 46) (x := z4) (y := 1000) dX6_relation_46 ?_
    refine mr_bipush (pc := 47) (z := 60) dX6_relation_47 (by decide) ?_
    refine mr_isub (pc := 49) (x := (z4 - 1000)) (y := 60) dX6_relation_49 ?_
    exact mr_iret dX6_relation_50 rfl (le_t rfl) (le_t rfl) T10 (mF.call mF.refl F11 rfl) ⟨(rW (c := (-2147483648)) (d := 2147483647) (rSub (e := 0) (f := 0) (rSub (e := 60) (f := 60) h8 (rR (x := 1000)) rfl) (rR (x := 60)) rfl) rfl), (h12.1 T10 F11), trivial⟩
  refine mr_iload_n (pc := 17) (z := z4) dX6_relation_17 rfl rfl ?_
  refine mr_sipush (pc := 18) (z := 1061) dX6_relation_18 (by decide) ?_
  refine mr_icmp_eq (pc := 21) (tgt := 38) dX6_relation_21 (by decide) h6 (r32 (rR (x := 1061)) rfl) (fun h13 => ?_) (fun h13 => ?_)
  · have h14 : 1061 ≤ z4 ∧ z4 ≤ 1061 := (vc_X6_relation_Wx_2 h13 h7 h6)
    refine sv_aload_n (pc := 38) dX6_relation_38 rfl rfl ?_
    refine mr_cVV (pc := 39) (c_X6_step_Wx hw hT ((((hQ z1 q2 h3) z4 q5 h6).2 h7).1 h13)) (gOk _ _ _ _ _) dX6_relation_39 (tX6_step _ _ _ _ _) ⟨wV_X6_step, wL_X6_step⟩ wM_X6_117 (gCX6 _ _ _ _ _) rfl (A_23 hw) rfl ⟨le_t rfl, le_t rfl⟩ ⟨le_t rfl, le_t rfl⟩ rfl (le_t rfl) fun μ15 T16 F17 h18 => ?_
    refine mr_iload_n (pc := 42) (z := z4) dX6_relation_42 rfl rfl ?_
    refine mr_sipush (pc := 43) (z := 1000) dX6_relation_43 (by decide) ?_
    refine mr_isub (pc := 46) (x := z4) (y := 1000) dX6_relation_46 ?_
    refine mr_bipush (pc := 47) (z := 60) dX6_relation_47 (by decide) ?_
    refine mr_isub (pc := 49) (x := (z4 - 1000)) (y := 60) dX6_relation_49 ?_
    exact mr_iret dX6_relation_50 rfl (le_t rfl) (le_t rfl) T16 (mF.call mF.refl F17 rfl) ⟨(rW (c := (-2147483648)) (d := 2147483647) (rSub (e := 1) (f := 1) (rSub (e := 61) (f := 61) h14 (rR (x := 1000)) rfl) (rR (x := 60)) rfl) rfl), (h18.1 T16 F17), trivial⟩
  refine mr_iload_n (pc := 24) (z := z4) dX6_relation_24 rfl rfl ?_
  refine mr_sipush (pc := 25) (z := 1062) dX6_relation_25 (by decide) ?_
  refine mr_icmp_eq (pc := 28) (tgt := 38) dX6_relation_28 (by decide) h6 (r32 (rR (x := 1062)) rfl) (fun h19 => ?_) (fun h19 => ?_)
  · have h20 : 1062 ≤ z4 ∧ z4 ≤ 1062 := (vc_X6_relation_Wx_3 h19 h7 h13 h6)
    refine sv_aload_n (pc := 38) dX6_relation_38 rfl rfl ?_
    refine mr_cVV (pc := 39) (c_X6_step_Wx hw hT (((((hQ z1 q2 h3) z4 q5 h6).2 h7).2 h13).1 h19)) (gOk _ _ _ _ _) dX6_relation_39 (tX6_step _ _ _ _ _) ⟨wV_X6_step, wL_X6_step⟩ wM_X6_117 (gCX6 _ _ _ _ _) rfl (A_23 hw) rfl ⟨le_t rfl, le_t rfl⟩ ⟨le_t rfl, le_t rfl⟩ rfl (le_t rfl) fun μ21 T22 F23 h24 => ?_
    refine mr_iload_n (pc := 42) (z := z4) dX6_relation_42 rfl rfl ?_
    refine mr_sipush (pc := 43) (z := 1000) dX6_relation_43 (by decide) ?_
    refine mr_isub (pc := 46) (x := z4) (y := 1000) dX6_relation_46 ?_
    refine mr_bipush (pc := 47) (z := 60) dX6_relation_47 (by decide) ?_
    refine mr_isub (pc := 49) (x := (z4 - 1000)) (y := 60) dX6_relation_49 ?_
    exact mr_iret dX6_relation_50 rfl (le_t rfl) (le_t rfl) T22 (mF.call mF.refl F23 rfl) ⟨(rW (c := (-2147483648)) (d := 2147483647) (rSub (e := 2) (f := 2) (rSub (e := 62) (f := 62) h20 (rR (x := 1000)) rfl) (rR (x := 60)) rfl) rfl), (h24.1 T22 F23), trivial⟩
  refine sv_aload_n (pc := 31) dX6_relation_31 rfl rfl ?_
  refine mr_iconst (pc := 32) (z := 2) dX6_relation_32 ?_
  refine mr_cVV (pc := 33) (c_X6_fail_Wx hw hT (rW (c := 1) (d := 4) (rR (x := 2)) rfl) (((((hQ z1 q2 h3) z4 q5 h6).2 h7).2 h13).2 h19)) (gOk _ _ _ _ _) dX6_relation_33 (tX6_fail _ _ _ _ _) ⟨wV_X6_fail, wL_X6_fail⟩ wM_X6_123 (gCX6 _ _ _ _ _) rfl (A_23 hw) rfl ⟨le_t rfl, le_t rfl⟩ ⟨le_t rfl, le_t rfl⟩ rfl (le_t rfl) fun μ25 T26 F27 h28 => ?_
  refine mr_iconst (pc := 36) (z := 0) dX6_relation_36 ?_
  exact mr_iret dX6_relation_37 rfl (le_t rfl) (le_t rfl) T26 (mF.call mF.refl F27 rfl) ⟨(rW (c := (-2147483648)) (d := 2147483647) (rR (x := 0)) rfl), (h28.1 T26 F27), trivial⟩
def WJ_X6_readTest_Wx_2 (w : mW) (Q : mM → Prop) (z4214 : Int) (μ4215 : mM) (μ4234 : mM) : Prop := mT w μ4234 → mF [23009] w μ4215 μ4234 → ∀ z4240 : Int, μ4234 23 9 = z4240 → (0 ≤ z4240 ∧ z4240 ≤ 1000) → ∀ z4243 : Int, μ4234 24 (z4240.toNat) = z4243 → ((-2147483648) ≤ z4243 ∧ z4243 ≤ 2147483647) → WP_X6_isTest_Wx w μ4234 z4243 (fun z4250 _ => (0 ≤ z4250 ∧ z4250 ≤ 1) → ((¬ z4250 = 0) → WP_X6_step_Wx w μ4234  (fun μ4253 => mT w μ4253 → mF [23009] w μ4234 μ4253 → (z4243 = 4 → WP_X6_readHeldIn_Wx w μ4253 z4214 (fun μ4259 => mT w μ4259 → mF [23009, 23011, 23018, 23019, 27999] w μ4253 μ4259 → Q μ4259)) ∧ (¬ z4243 = 4 → (z4243 = 5 → WP_X6_relation_Wx w μ4253  (fun z4269 μ4265 => mT w μ4265 → mF [23009, 23018, 23019] w μ4253 μ4265 → ((-2147483648) ≤ z4269 ∧ z4269 ≤ 2147483647) → WP_X6_number_Wx w μ4265 (0) (1000000) (fun z4274 μ4270 => mT w μ4270 → mF [23009, 23018, 23019] w μ4265 μ4270 → ((-2147483648) ≤ z4274 ∧ z4274 ≤ 2147483647) → WP_X6_putTest_Wx w μ4270 z4243 z4214 z4269 z4274 (0) (fun μ4275 => mT w μ4275 → mF [23011, 27999] w μ4270 μ4275 → Q μ4275)))) ∧ (¬ z4243 = 5 → (z4243 = 6 → WP_X6_readWay_Wx w μ4253 z4214 (fun μ4281 => mT w μ4281 → mF [23009, 23011, 23012, 23013, 23015, 23016, 23017, 23018, 23019, 27999, 28999, 29999, 30999, 31999] w μ4253 μ4281 → Q μ4281)) ∧ (¬ z4243 = 6 → (z4243 = 7 → WP_X6_relation_Wx w μ4253  (fun z4291 μ4287 => mT w μ4287 → mF [23009, 23018, 23019] w μ4253 μ4287 → ((-2147483648) ≤ z4291 ∧ z4291 ≤ 2147483647) → WP_X6_number_Wx w μ4287 (0) (1000000) (fun z4296 μ4292 => mT w μ4292 → mF [23009, 23018, 23019] w μ4287 μ4292 → ((-2147483648) ≤ z4296 ∧ z4296 ≤ 2147483647) → WP_X6_putTest_Wx w μ4292 z4243 z4214 z4291 z4296 (0) (fun μ4297 => mT w μ4297 → mF [23011, 27999] w μ4292 μ4297 → Q μ4297)))) ∧ (¬ z4243 = 7 → (z4243 = 8 → WP_X6_number_Wx w μ4253 (0) (65535) (fun z4308 μ4304 => mT w μ4304 → mF [23009, 23018, 23019] w μ4253 μ4304 → ((-2147483648) ≤ z4308 ∧ z4308 ≤ 2147483647) → WP_X6_putTest_Wx w μ4304 z4243 z4214 z4308 (0) (0) (fun μ4309 => mT w μ4309 → mF [23011, 27999] w μ4304 μ4309 → Q μ4309))) ∧ (¬ z4243 = 8 → (z4243 = 9 → WP_X6_number_Wx w μ4253 (0) (9) (fun z4319 μ4315 => mT w μ4315 → mF [23009, 23018, 23019] w μ4253 μ4315 → ((-2147483648) ≤ z4319 ∧ z4319 ≤ 2147483647) → WP_X6_putTest_Wx w μ4315 z4243 z4214 z4319 (0) (0) (fun μ4320 => mT w μ4320 → mF [23011, 27999] w μ4315 μ4320 → Q μ4320))) ∧ (¬ z4243 = 9 → (z4243 = 10 → WP_X6_oneOf_Wx w μ4253 (16) (19) (fun z4330 μ4326 => mT w μ4326 → mF [23009, 23018, 23019] w μ4253 μ4326 → ((-2147483648) ≤ z4330 ∧ z4330 ≤ 2147483647) → ∀ z4331 : Int, (-2147483648 ≤ z4331 ∧ z4331 ≤ 2147483647) → (z4331 - (z4330 - 16)) % 4294967296 = 0 → WP_X6_putTest_Wx w μ4326 z4243 z4214 z4331 (0) (0) (fun μ4334 => mT w μ4334 → mF [23011, 27999] w μ4326 μ4334 → Q μ4334))) ∧ (¬ z4243 = 10 → (z4243 = 11 → WP_X6_relation_Wx w μ4253  (fun z4344 μ4340 => mT w μ4340 → mF [23009, 23018, 23019] w μ4253 μ4340 → ((-2147483648) ≤ z4344 ∧ z4344 ≤ 2147483647) → WP_X6_number_Wx w μ4340 (0) (1000000) (fun z4349 μ4345 => mT w μ4345 → mF [23009, 23018, 23019] w μ4340 μ4345 → ((-2147483648) ≤ z4349 ∧ z4349 ≤ 2147483647) → WP_X6_putTest_Wx w μ4345 z4243 z4214 z4344 z4349 (0) (fun μ4350 => mT w μ4350 → mF [23011, 27999] w μ4345 μ4350 → Q μ4350)))) ∧ (¬ z4243 = 11 → (z4243 = 12 → WP_X6_relation_Wx w μ4253  (fun z4360 μ4356 => mT w μ4356 → mF [23009, 23018, 23019] w μ4253 μ4356 → ((-2147483648) ≤ z4360 ∧ z4360 ≤ 2147483647) → WP_X6_number_Wx w μ4356 (0) (1000) (fun z4365 μ4361 => mT w μ4361 → mF [23009, 23018, 23019] w μ4356 μ4361 → ((-2147483648) ≤ z4365 ∧ z4365 ≤ 2147483647) → WP_X6_putTest_Wx w μ4361 z4243 z4214 z4360 z4365 (0) (fun μ4366 => mT w μ4366 → mF [23011, 27999] w μ4361 μ4366 → Q μ4366)))) ∧ (¬ z4243 = 12 → (z4243 = 13 → WP_X6_relation_Wx w μ4253  (fun z4376 μ4372 => mT w μ4372 → mF [23009, 23018, 23019] w μ4253 μ4372 → ((-2147483648) ≤ z4376 ∧ z4376 ≤ 2147483647) → WP_X6_number_Wx w μ4372 (0) (1000000) (fun z4381 μ4377 => mT w μ4377 → mF [23009, 23018, 23019] w μ4372 μ4377 → ((-2147483648) ≤ z4381 ∧ z4381 ≤ 2147483647) → WP_X6_putTest_Wx w μ4377 z4243 z4214 z4376 z4381 (0) (fun μ4382 => mT w μ4382 → mF [23011, 27999] w μ4377 μ4382 → Q μ4382)))) ∧ (¬ z4243 = 13 → (z4243 = 14 → WP_X6_number_Wx w μ4253 (0) (2) (fun z4393 μ4389 => mT w μ4389 → mF [23009, 23018, 23019] w μ4253 μ4389 → ((-2147483648) ≤ z4393 ∧ z4393 ≤ 2147483647) → WP_X6_putTest_Wx w μ4389 z4243 z4214 z4393 (0) (0) (fun μ4394 => mT w μ4394 → mF [23011, 27999] w μ4389 μ4394 → Q μ4394))) ∧ (¬ z4243 = 14 → (z4243 = 15 → WP_X6_oneOf_Wx w μ4253 (20) (22) (fun z4404 μ4400 => mT w μ4400 → mF [23009, 23018, 23019] w μ4253 μ4400 → ((-2147483648) ≤ z4404 ∧ z4404 ≤ 2147483647) → WP_X6_verdictOf_Wx w μ4400 z4404 (fun z4409 _ => ((-2147483648) ≤ z4409 ∧ z4409 ≤ 2147483647) → WP_X6_putTest_Wx w μ4400 z4243 z4214 z4409 (0) (0) (fun μ4410 => mT w μ4410 → mF [23011, 27999] w μ4400 μ4410 → Q μ4410)))) ∧ (¬ z4243 = 15 → WP_X6_relation_Wx w μ4253  (fun z4418 μ4414 => mT w μ4414 → mF [23009, 23018, 23019] w μ4253 μ4414 → ((-2147483648) ≤ z4418 ∧ z4418 ≤ 2147483647) → WP_X6_number_Wx w μ4414 (0) (1000000) (fun z4423 μ4419 => mT w μ4419 → mF [23009, 23018, 23019] w μ4414 μ4419 → ((-2147483648) ≤ z4423 ∧ z4423 ≤ 2147483647) → WP_X6_putTest_Wx w μ4419 z4243 z4214 z4418 z4423 (0) (fun μ4424 => mT w μ4424 → mF [23011, 27999] w μ4419 μ4424 → Q μ4424))))))))))))))))) ∧ ((z4250 = 0) → WP_X6_fail_Wx w μ4234 (2) (fun μ4429 => mT w μ4429 → mF [23009, 23018, 23019] w μ4234 μ4429 → Q μ4429)))
def WL_X6_readTest_Wx_1 (w : mW) (μ : mM) (Q : mM → Prop) (rec1 : (Int × Int × mM) → Prop) (s : (Int × Int × mM)) : Prop := ∀ z4214 : Int, ∀ z4213 : Int, ∀ μ4215 : mM, s = (z4214, z4213, μ4215) → (0 ≤ z4214 ∧ z4214 ≤ 1) → (0 ≤ z4213 ∧ z4213 ≤ 1000) → mT w μ4215 → mF [23009] w μ μ4215 → ((1000 ≤ z4213) → (WJ_X6_readTest_Wx_2 w Q z4214 μ4215) μ4215) ∧ ((z4213 < 1000) → WP_X6_take_Wx w μ4215 (3) (fun z4440 μ4436 => mT w μ4436 → mF [23009] w μ4215 μ4436 → (0 ≤ z4440 ∧ z4440 ≤ 1) → ((z4440 = 0) → (WJ_X6_readTest_Wx_2 w Q z4214 μ4215) μ4436) ∧ ((¬ z4440 = 0) → rec1 ((1 - z4214), (z4213 + 1), μ4436))))
def WP_X6_readTest_Wx (w : mW) (μ : mM) (Q : mM → Prop) : Prop := loopF (WL_X6_readTest_Wx_1 w μ Q) False 1002 ((0 : Int), (0 : Int), μ)
theorem vc_X6_readTest_Wx_21 {N z4213 : Int} (h0 : (1001 - z4213) < N + 1) (h1 : z4213 < 1000) (h2 : 0 ≤ z4213 ∧ z4213 ≤ 999) : (1001 - (z4213 + 1)) < N := by omega
set_option maxRecDepth 4000 in
set_option maxHeartbeats 4000000 in
theorem c_X6_readTest_Wx {l : Launch} {D : va_G} {c : Nat → ClassId} {H0 : Heap} {sa : Nat × Nat × (Nat → Int32)} {w : mW} {μ : mM} (hw : mWF w) (hT : mT w μ) {Q : mM → Prop} (hQ : WP_X6_readTest_Wx w μ  Q) : sC (gG l D c H0 sa) mX6_readTest 15 0 0 [.ref 23] (mk w μ) (qV w [23009, 23011, 23012, 23013, 23015, 23016, 23017, 23018, 23019, 27999, 28999, 29999, 30999, 31999] μ (fun μ1 => Q μ1 ∧ True)) := by
  refine sC.of rfl (by decide) (le_t rfl) ?_
  refine mr_lvE (lv' := [(0, .ref 23)]) rfl ?_
  refine mr_iconst (pc := 0) (z := 0) dX6_readTest_0 ?_
  refine mr_istore_n (pc := 1) (lv' := [(1, iv 0), (0, .ref 23)]) dX6_readTest_1 rfl (by decide) rfl ?_
  refine mr_iconst (pc := 2) (z := 0) dX6_readTest_2 ?_
  refine mr_istore_n (pc := 3) (lv' := [(2, iv 0), (1, iv 0), (0, .ref 23)]) dX6_readTest_3 rfl (by decide) rfl ?_
  have L4216 : ∀ (nL4216 : Nat) (z4214 z4213 : Int) (μ4215 : mM), mT w μ4215 → mF [23009] w μ μ4215 → (0 ≤ z4214 ∧ z4214 ≤ 1) → (0 ≤ z4213 ∧ z4213 ≤ 1000) → (1001 - z4213) < (nL4216 : Int) → loopF (WL_X6_readTest_Wx_1 w μ Q) False nL4216 (z4214, z4213, μ4215) → sV (gG l D c H0 sa) mX6_readTest (sRm 15 0 0) (sZ (gG l D c H0 sa) 0 0 (qV w [23009, 23011, 23012, 23013, 23015, 23016, 23017, 23018, 23019, 27999, 28999, 29999, 30999, 31999] μ (fun μ1 => Q μ1 ∧ True))) 4 [(0, .ref 23), (1, iv z4214), (2, iv z4213)] [] (mk w μ4215) 0 0 := by
    intro nL4216
    induction nL4216 with
    | zero => intro z4214 z4213 μ4215 T4219 F4220 h4217 h4218 h4222 W4223; exact ((vc_X1_doActs_W12_1 h4222 h4218)).elim
    | succ nL4216 ih4224 =>
      intro z4214 z4213 μ4215 T4219 F4220 h4217 h4218 h4222 W4223
      refine mr_iload_n (pc := 4) (z := z4213) dX6_readTest_4 rfl rfl ?_
      refine mr_sipush (pc := 5) (z := 1000) dX6_readTest_5 (by decide) ?_
      have J4238 : ∀ (μ4234 : mM), (mT w μ4234) → (mF [23009] w μ4215 μ4234) → ((WJ_X6_readTest_Wx_2 w Q z4214 μ4215) μ4234) → sV (gG l D c H0 sa) mX6_readTest (sRm 15 0 0) (sZ (gG l D c H0 sa) 0 0 (qV w [23009, 23011, 23012, 23013, 23015, 23016, 23017, 23018, 23019, 27999, 28999, 29999, 30999, 31999] μ (fun μ1 => Q μ1 ∧ True))) 29 [(0, .ref 23), (1, iv z4214)] [] (mk w μ4234) 0 0 := by
        intro μ4234 T4235 F4236 W4239
        refine sv_aload_n (pc := 29) dX6_readTest_29 rfl rfl ?_
        refine gf_X6_0 (pc := 30) dX6_readTest_30 wF_X6_9 (A_23 hw) T4235 ?_
        refine sv_aload_n (pc := 33) dX6_readTest_33 rfl rfl ?_
        refine gf_X6_9 (pc := 34) dX6_readTest_34 wF_X6_63 (A_23 hw) T4235 fun z4240 q4241 h4242 => ?_
        refine la_24 (pc := 37) dX6_readTest_37 (A_24 hw) T4235 (rIx (n := 1001) h4242 rfl) fun z4243 q4244 h4245 => ?_
        refine mr_istore_n (pc := 38) (lv' := [(2, iv z4243), (0, .ref 23), (1, iv z4214)]) dX6_readTest_38 rfl (by decide) rfl ?_
        refine mr_iload_n (pc := 39) (z := z4243) dX6_readTest_39 rfl rfl ?_
        refine mr_cSP (pc := 40) (c_X6_isTest_Wx hw T4235 h4245 (((W4239 T4235 F4236) z4240 q4241 h4242) z4243 q4244 h4245)) (gOk _ _ _ _ _) dX6_readTest_40 (tX6_isTest _ _ _ _ _) wS_X6_isTest wM_X6_148 ⟨le_t rfl, le_t rfl⟩ ⟨le_t rfl, le_t rfl⟩ rfl (le_t rfl) fun z4250 h4249 => ?_
        refine mr_if_ne (pc := 43) (tgt := 52) dX6_readTest_43 (by decide) (r32 h4249.1 rfl) (fun h4251 => ?_) (fun h4251 => ?_)
        · have h4252 : 1 ≤ z4250 ∧ z4250 ≤ 1 := (vc_X12_ring_24 h4251 h4249.1)
          refine sv_aload_n (pc := 52) dX6_readTest_52 rfl rfl ?_
          refine mr_cVV (pc := 53) (c_X6_step_Wx hw T4235 ((h4249.2.1 h4249.1).1 h4251)) (gOk _ _ _ _ _) dX6_readTest_53 (tX6_step _ _ _ _ _) ⟨wV_X6_step, wL_X6_step⟩ wM_X6_117 (gCX6 _ _ _ _ _) rfl (A_23 hw) rfl ⟨le_t rfl, le_t rfl⟩ ⟨le_t rfl, le_t rfl⟩ rfl (le_t rfl) fun μ4253 T4254 F4255 h4256 => ?_
          refine mr_iload_n (pc := 56) (z := z4243) dX6_readTest_56 rfl rfl ?_
          by_cases h4257 : z4243 = 4
          · refine mr_tableIn (pc := 57) (v := 4) (tgt := 120) dX6_readTest_57 h4257 rfl rfl (by decide) ?_
            have h4258 : 4 ≤ z4243 ∧ z4243 ≤ 4 := (vc_X12_isSo_25 h4257 h4245)
            refine sv_aload_n (pc := 120) dX6_readTest_120 rfl rfl ?_
            refine mr_iload_n (pc := 121) (z := z4214) dX6_readTest_121 rfl rfl ?_
            refine mr_cVV (pc := 122) (c_X6_readHeldIn_Wx hw T4254 (rW (c := (-2147483648)) (d := 2147483647) h4217 rfl) ((h4256.1 T4254 F4255).1 h4257)) (gOk _ _ _ _ _) dX6_readTest_122 (tX6_readHeldIn _ _ _ _ _) ⟨wV_X6_readHeldIn, wL_X6_readHeldIn⟩ wM_X6_151 (gCX6 _ _ _ _ _) rfl (A_23 hw) rfl ⟨le_t rfl, le_t rfl⟩ ⟨le_t rfl, le_t rfl⟩ rfl (le_t rfl) fun μ4259 T4260 F4261 h4262 => ?_
            refine sv_goto (pc := 125) (tgt := 273) dX6_readTest_125 (by decide) ?_
            exact mr_vret dX6_readTest_273 rfl (le_t rfl) (le_t rfl) T4260 (mF.call (mF.call (mF.call (mF.call mF.refl F4220 rfl) F4236 rfl) F4255 rfl) F4261 rfl) ⟨(h4262.1 T4260 F4261), trivial⟩
          by_cases h4263 : z4243 = 5
          · refine mr_tableIn (pc := 57) (v := 5) (tgt := 255) dX6_readTest_57 h4263 rfl rfl (by decide) ?_
            have h4264 : 5 ≤ z4243 ∧ z4243 ≤ 5 := (vc_X1_isSo_W_10 h4263 h4257 h4245)
            refine sv_aload_n (pc := 255) dX6_readTest_255 rfl rfl ?_
            refine mr_iload_n (pc := 256) (z := z4243) dX6_readTest_256 rfl rfl ?_
            refine mr_iload_n (pc := 257) (z := z4214) dX6_readTest_257 rfl rfl ?_
            refine sv_aload_n (pc := 258) dX6_readTest_258 rfl rfl ?_
            refine mr_cVI (pc := 259) (c_X6_relation_Wx hw T4254 (((h4256.1 T4254 F4255).2 h4257).1 h4263)) (gOk _ _ _ _ _) dX6_readTest_259 (tX6_relation _ _ _ _ _) ⟨wV_X6_relation, wL_X6_relation⟩ wM_X6_168 (gCX6 _ _ _ _ _) rfl (A_23 hw) rfl ⟨le_t rfl, le_t rfl⟩ ⟨le_t rfl, le_t rfl⟩ rfl (le_t rfl) fun z4269 μ4265 T4266 F4267 h4268 => ?_
            refine sv_aload_n (pc := 262) dX6_readTest_262 rfl rfl ?_
            refine mr_iconst (pc := 263) (z := 0) dX6_readTest_263 ?_
            refine mr_ldc (pc := 264) (z := 1000000) dX6_readTest_264 wG_X6_147 (by decide) ?_
            refine mr_cVI (pc := 266) (c_X6_number_Wx hw T4266 (rW (c := (-2147483648)) (d := 2147483647) (rR (x := 0)) rfl) (rW (c := (-2147483648)) (d := 2147483647) (rR (x := 1000000)) rfl) ((h4268.2.1 T4266 F4267) h4268.1)) (gOk _ _ _ _ _) dX6_readTest_266 (tX6_number _ _ _ _ _) ⟨wV_X6_number, wL_X6_number⟩ wM_X6_143 (gCX6 _ _ _ _ _) rfl (A_23 hw) rfl ⟨le_t rfl, le_t rfl⟩ ⟨le_t rfl, le_t rfl⟩ rfl (le_t rfl) fun z4274 μ4270 T4271 F4272 h4273 => ?_
            refine mr_iconst (pc := 269) (z := 0) dX6_readTest_269 ?_
            refine mr_cVV (pc := 270) (c_X6_putTest_Wx hw T4271 (rW (c := (-2147483648)) (d := 2147483647) h4264 rfl) (rW (c := (-2147483648)) (d := 2147483647) h4217 rfl) h4268.1 h4273.1 (rW (c := (-2147483648)) (d := 2147483647) (rR (x := 0)) rfl) ((h4273.2.1 T4271 F4272) h4273.1)) (gOk _ _ _ _ _) dX6_readTest_270 (tX6_putTest _ _ _ _ _) ⟨wV_X6_putTest, wL_X6_putTest⟩ wM_X6_157 (gCX6 _ _ _ _ _) rfl (A_23 hw) rfl ⟨le_t rfl, le_t rfl⟩ ⟨le_t rfl, le_t rfl⟩ rfl (le_t rfl) fun μ4275 T4276 F4277 h4278 => ?_
            exact mr_vret dX6_readTest_273 rfl (le_t rfl) (le_t rfl) T4276 (mF.call (mF.call (mF.call (mF.call (mF.call (mF.call mF.refl F4220 rfl) F4236 rfl) F4255 rfl) F4267 rfl) F4272 rfl) F4277 rfl) ⟨(h4278.1 T4276 F4277), trivial⟩
          by_cases h4279 : z4243 = 6
          · refine mr_tableIn (pc := 57) (v := 6) (tgt := 128) dX6_readTest_57 h4279 rfl rfl (by decide) ?_
            have h4280 : 6 ≤ z4243 ∧ z4243 ≤ 6 := (vc_X1_isSo_W_11 h4279 h4257 h4263 h4245)
            refine sv_aload_n (pc := 128) dX6_readTest_128 rfl rfl ?_
            refine mr_iload_n (pc := 129) (z := z4214) dX6_readTest_129 rfl rfl ?_
            refine mr_cVV (pc := 130) (c_X6_readWay_Wx hw T4254 (rW (c := (-2147483648)) (d := 2147483647) h4217 rfl) ((((h4256.1 T4254 F4255).2 h4257).2 h4263).1 h4279)) (gOk _ _ _ _ _) dX6_readTest_130 (tX6_readWay _ _ _ _ _) ⟨wV_X6_readWay, wL_X6_readWay⟩ wM_X6_154 (gCX6 _ _ _ _ _) rfl (A_23 hw) rfl ⟨le_t rfl, le_t rfl⟩ ⟨le_t rfl, le_t rfl⟩ rfl (le_t rfl) fun μ4281 T4282 F4283 h4284 => ?_
            refine sv_goto (pc := 133) (tgt := 273) dX6_readTest_133 (by decide) ?_
            exact mr_vret dX6_readTest_273 rfl (le_t rfl) (le_t rfl) T4282 (mF.call (mF.call (mF.call (mF.call mF.refl F4220 rfl) F4236 rfl) F4255 rfl) F4283 rfl) ⟨(h4284.1 T4282 F4283), trivial⟩
          by_cases h4285 : z4243 = 7
          · refine mr_tableIn (pc := 57) (v := 7) (tgt := 255) dX6_readTest_57 h4285 rfl rfl (by decide) ?_
            have h4286 : 7 ≤ z4243 ∧ z4243 ≤ 7 := (vc_X1_isSo_W_13 h4285 h4257 h4263 h4279 h4245)
            refine sv_aload_n (pc := 255) dX6_readTest_255 rfl rfl ?_
            refine mr_iload_n (pc := 256) (z := z4243) dX6_readTest_256 rfl rfl ?_
            refine mr_iload_n (pc := 257) (z := z4214) dX6_readTest_257 rfl rfl ?_
            refine sv_aload_n (pc := 258) dX6_readTest_258 rfl rfl ?_
            refine mr_cVI (pc := 259) (c_X6_relation_Wx hw T4254 (((((h4256.1 T4254 F4255).2 h4257).2 h4263).2 h4279).1 h4285)) (gOk _ _ _ _ _) dX6_readTest_259 (tX6_relation _ _ _ _ _) ⟨wV_X6_relation, wL_X6_relation⟩ wM_X6_168 (gCX6 _ _ _ _ _) rfl (A_23 hw) rfl ⟨le_t rfl, le_t rfl⟩ ⟨le_t rfl, le_t rfl⟩ rfl (le_t rfl) fun z4291 μ4287 T4288 F4289 h4290 => ?_
            refine sv_aload_n (pc := 262) dX6_readTest_262 rfl rfl ?_
            refine mr_iconst (pc := 263) (z := 0) dX6_readTest_263 ?_
            refine mr_ldc (pc := 264) (z := 1000000) dX6_readTest_264 wG_X6_147 (by decide) ?_
            refine mr_cVI (pc := 266) (c_X6_number_Wx hw T4288 (rW (c := (-2147483648)) (d := 2147483647) (rR (x := 0)) rfl) (rW (c := (-2147483648)) (d := 2147483647) (rR (x := 1000000)) rfl) ((h4290.2.1 T4288 F4289) h4290.1)) (gOk _ _ _ _ _) dX6_readTest_266 (tX6_number _ _ _ _ _) ⟨wV_X6_number, wL_X6_number⟩ wM_X6_143 (gCX6 _ _ _ _ _) rfl (A_23 hw) rfl ⟨le_t rfl, le_t rfl⟩ ⟨le_t rfl, le_t rfl⟩ rfl (le_t rfl) fun z4296 μ4292 T4293 F4294 h4295 => ?_
            refine mr_iconst (pc := 269) (z := 0) dX6_readTest_269 ?_
            refine mr_cVV (pc := 270) (c_X6_putTest_Wx hw T4293 (rW (c := (-2147483648)) (d := 2147483647) h4286 rfl) (rW (c := (-2147483648)) (d := 2147483647) h4217 rfl) h4290.1 h4295.1 (rW (c := (-2147483648)) (d := 2147483647) (rR (x := 0)) rfl) ((h4295.2.1 T4293 F4294) h4295.1)) (gOk _ _ _ _ _) dX6_readTest_270 (tX6_putTest _ _ _ _ _) ⟨wV_X6_putTest, wL_X6_putTest⟩ wM_X6_157 (gCX6 _ _ _ _ _) rfl (A_23 hw) rfl ⟨le_t rfl, le_t rfl⟩ ⟨le_t rfl, le_t rfl⟩ rfl (le_t rfl) fun μ4297 T4298 F4299 h4300 => ?_
            exact mr_vret dX6_readTest_273 rfl (le_t rfl) (le_t rfl) T4298 (mF.call (mF.call (mF.call (mF.call (mF.call (mF.call mF.refl F4220 rfl) F4236 rfl) F4255 rfl) F4289 rfl) F4294 rfl) F4299 rfl) ⟨(h4300.1 T4298 F4299), trivial⟩
          have W4302 := (((((h4256.1 T4254 F4255).2 h4257).2 h4263).2 h4279).2 h4285)
          by_cases h4301 : z4243 = 8
          · refine mr_tableIn (pc := 57) (v := 8) (tgt := 136) dX6_readTest_57 h4301 rfl rfl (by decide) ?_
            have h4303 : 8 ≤ z4243 ∧ z4243 ≤ 8 := (vc_X1_isSo_W_14 h4301 h4257 h4263 h4279 h4285 h4245)
            refine sv_aload_n (pc := 136) dX6_readTest_136 rfl rfl ?_
            refine mr_iload_n (pc := 137) (z := z4243) dX6_readTest_137 rfl rfl ?_
            refine mr_iload_n (pc := 138) (z := z4214) dX6_readTest_138 rfl rfl ?_
            refine sv_aload_n (pc := 139) dX6_readTest_139 rfl rfl ?_
            refine mr_iconst (pc := 140) (z := 0) dX6_readTest_140 ?_
            refine mr_ldc (pc := 141) (z := 65535) dX6_readTest_141 wG_X6_142 (by decide) ?_
            refine mr_cVI (pc := 143) (c_X6_number_Wx hw T4254 (rW (c := (-2147483648)) (d := 2147483647) (rR (x := 0)) rfl) (rW (c := (-2147483648)) (d := 2147483647) (rR (x := 65535)) rfl) (W4302.1 h4301)) (gOk _ _ _ _ _) dX6_readTest_143 (tX6_number _ _ _ _ _) ⟨wV_X6_number, wL_X6_number⟩ wM_X6_143 (gCX6 _ _ _ _ _) rfl (A_23 hw) rfl ⟨le_t rfl, le_t rfl⟩ ⟨le_t rfl, le_t rfl⟩ rfl (le_t rfl) fun z4308 μ4304 T4305 F4306 h4307 => ?_
            refine mr_iconst (pc := 146) (z := 0) dX6_readTest_146 ?_
            refine mr_iconst (pc := 147) (z := 0) dX6_readTest_147 ?_
            refine mr_cVV (pc := 148) (c_X6_putTest_Wx hw T4305 (rW (c := (-2147483648)) (d := 2147483647) h4303 rfl) (rW (c := (-2147483648)) (d := 2147483647) h4217 rfl) h4307.1 (rW (c := (-2147483648)) (d := 2147483647) (rR (x := 0)) rfl) (rW (c := (-2147483648)) (d := 2147483647) (rR (x := 0)) rfl) ((h4307.2.1 T4305 F4306) h4307.1)) (gOk _ _ _ _ _) dX6_readTest_148 (tX6_putTest _ _ _ _ _) ⟨wV_X6_putTest, wL_X6_putTest⟩ wM_X6_157 (gCX6 _ _ _ _ _) rfl (A_23 hw) rfl ⟨le_t rfl, le_t rfl⟩ ⟨le_t rfl, le_t rfl⟩ rfl (le_t rfl) fun μ4309 T4310 F4311 h4312 => ?_
            refine sv_goto (pc := 151) (tgt := 273) dX6_readTest_151 (by decide) ?_
            exact mr_vret dX6_readTest_273 rfl (le_t rfl) (le_t rfl) T4310 (mF.call (mF.call (mF.call (mF.call (mF.call mF.refl F4220 rfl) F4236 rfl) F4255 rfl) F4306 rfl) F4311 rfl) ⟨(h4312.1 T4310 F4311), trivial⟩
          by_cases h4313 : z4243 = 9
          · refine mr_tableIn (pc := 57) (v := 9) (tgt := 154) dX6_readTest_57 h4313 rfl rfl (by decide) ?_
            have h4314 : 9 ≤ z4243 ∧ z4243 ≤ 9 := (vc_X1_isSo_W_15 h4313 h4257 h4263 h4279 h4285 h4301 h4245)
            refine sv_aload_n (pc := 154) dX6_readTest_154 rfl rfl ?_
            refine mr_iload_n (pc := 155) (z := z4243) dX6_readTest_155 rfl rfl ?_
            refine mr_iload_n (pc := 156) (z := z4214) dX6_readTest_156 rfl rfl ?_
            refine sv_aload_n (pc := 157) dX6_readTest_157 rfl rfl ?_
            refine mr_iconst (pc := 158) (z := 0) dX6_readTest_158 ?_
            refine mr_bipush (pc := 159) (z := 9) dX6_readTest_159 (by decide) ?_
            refine mr_cVI (pc := 161) (c_X6_number_Wx hw T4254 (rW (c := (-2147483648)) (d := 2147483647) (rR (x := 0)) rfl) (rW (c := (-2147483648)) (d := 2147483647) (rR (x := 9)) rfl) ((W4302.2 h4301).1 h4313)) (gOk _ _ _ _ _) dX6_readTest_161 (tX6_number _ _ _ _ _) ⟨wV_X6_number, wL_X6_number⟩ wM_X6_143 (gCX6 _ _ _ _ _) rfl (A_23 hw) rfl ⟨le_t rfl, le_t rfl⟩ ⟨le_t rfl, le_t rfl⟩ rfl (le_t rfl) fun z4319 μ4315 T4316 F4317 h4318 => ?_
            refine mr_iconst (pc := 164) (z := 0) dX6_readTest_164 ?_
            refine mr_iconst (pc := 165) (z := 0) dX6_readTest_165 ?_
            refine mr_cVV (pc := 166) (c_X6_putTest_Wx hw T4316 (rW (c := (-2147483648)) (d := 2147483647) h4314 rfl) (rW (c := (-2147483648)) (d := 2147483647) h4217 rfl) h4318.1 (rW (c := (-2147483648)) (d := 2147483647) (rR (x := 0)) rfl) (rW (c := (-2147483648)) (d := 2147483647) (rR (x := 0)) rfl) ((h4318.2.1 T4316 F4317) h4318.1)) (gOk _ _ _ _ _) dX6_readTest_166 (tX6_putTest _ _ _ _ _) ⟨wV_X6_putTest, wL_X6_putTest⟩ wM_X6_157 (gCX6 _ _ _ _ _) rfl (A_23 hw) rfl ⟨le_t rfl, le_t rfl⟩ ⟨le_t rfl, le_t rfl⟩ rfl (le_t rfl) fun μ4320 T4321 F4322 h4323 => ?_
            refine sv_goto (pc := 169) (tgt := 273) dX6_readTest_169 (by decide) ?_
            exact mr_vret dX6_readTest_273 rfl (le_t rfl) (le_t rfl) T4321 (mF.call (mF.call (mF.call (mF.call (mF.call mF.refl F4220 rfl) F4236 rfl) F4255 rfl) F4317 rfl) F4322 rfl) ⟨(h4323.1 T4321 F4322), trivial⟩
          by_cases h4324 : z4243 = 10
          · refine mr_tableIn (pc := 57) (v := 10) (tgt := 189) dX6_readTest_57 h4324 rfl rfl (by decide) ?_
            have h4325 : 10 ≤ z4243 ∧ z4243 ≤ 10 := (vc_X1_isSo_W_16 h4324 h4257 h4263 h4279 h4285 h4301 h4313 h4245)
            refine sv_aload_n (pc := 189) dX6_readTest_189 rfl rfl ?_
            refine mr_iload_n (pc := 190) (z := z4243) dX6_readTest_190 rfl rfl ?_
            refine mr_iload_n (pc := 191) (z := z4214) dX6_readTest_191 rfl rfl ?_
            refine sv_aload_n (pc := 192) dX6_readTest_192 rfl rfl ?_
            refine mr_bipush (pc := 193) (z := 16) dX6_readTest_193 (by decide) ?_
            refine mr_bipush (pc := 195) (z := 19) dX6_readTest_195 (by decide) ?_
            refine mr_cVI (pc := 197) (c_X6_oneOf_Wx hw T4254 (rW (c := (-2147483648)) (d := 2147483647) (rR (x := 16)) rfl) (rW (c := (-2147483648)) (d := 2147483647) (rR (x := 19)) rfl) (((W4302.2 h4301).2 h4313).1 h4324)) (gOk _ _ _ _ _) dX6_readTest_197 (tX6_oneOf _ _ _ _ _) ⟨wV_X6_oneOf, wL_X6_oneOf⟩ wM_X6_161 (gCX6 _ _ _ _ _) rfl (A_23 hw) rfl ⟨le_t rfl, le_t rfl⟩ ⟨le_t rfl, le_t rfl⟩ rfl (le_t rfl) fun z4330 μ4326 T4327 F4328 h4329 => ?_
            refine mr_bipush (pc := 200) (z := 16) dX6_readTest_200 (by decide) ?_
            refine mr_isub (pc := 202) (x := z4330) (y := 16) dX6_readTest_202 ?_
            refine mr_wrapF fun z4331 h4332 h4333 => ?_
            refine mr_iconst (pc := 203) (z := 0) dX6_readTest_203 ?_
            refine mr_iconst (pc := 204) (z := 0) dX6_readTest_204 ?_
            refine mr_cVV (pc := 205) (c_X6_putTest_Wx hw T4327 (rW (c := (-2147483648)) (d := 2147483647) h4325 rfl) (rW (c := (-2147483648)) (d := 2147483647) h4217 rfl) h4332 (rW (c := (-2147483648)) (d := 2147483647) (rR (x := 0)) rfl) (rW (c := (-2147483648)) (d := 2147483647) (rR (x := 0)) rfl) (((h4329.2.1 T4327 F4328) h4329.1) z4331 h4332 h4333)) (gOk _ _ _ _ _) dX6_readTest_205 (tX6_putTest _ _ _ _ _) ⟨wV_X6_putTest, wL_X6_putTest⟩ wM_X6_157 (gCX6 _ _ _ _ _) rfl (A_23 hw) rfl ⟨le_t rfl, le_t rfl⟩ ⟨le_t rfl, le_t rfl⟩ rfl (le_t rfl) fun μ4334 T4335 F4336 h4337 => ?_
            refine sv_goto (pc := 208) (tgt := 273) dX6_readTest_208 (by decide) ?_
            exact mr_vret dX6_readTest_273 rfl (le_t rfl) (le_t rfl) T4335 (mF.call (mF.call (mF.call (mF.call (mF.call mF.refl F4220 rfl) F4236 rfl) F4255 rfl) F4328 rfl) F4336 rfl) ⟨(h4337.1 T4335 F4336), trivial⟩
          by_cases h4338 : z4243 = 11
          · refine mr_tableIn (pc := 57) (v := 11) (tgt := 255) dX6_readTest_57 h4338 rfl rfl (by decide) ?_
            have h4339 : 11 ≤ z4243 ∧ z4243 ≤ 11 := (vc_X12_count_14 h4338 h4257 h4263 h4279 h4285 h4301 h4313 h4324 h4245)
            refine sv_aload_n (pc := 255) dX6_readTest_255 rfl rfl ?_
            refine mr_iload_n (pc := 256) (z := z4243) dX6_readTest_256 rfl rfl ?_
            refine mr_iload_n (pc := 257) (z := z4214) dX6_readTest_257 rfl rfl ?_
            refine sv_aload_n (pc := 258) dX6_readTest_258 rfl rfl ?_
            refine mr_cVI (pc := 259) (c_X6_relation_Wx hw T4254 ((((W4302.2 h4301).2 h4313).2 h4324).1 h4338)) (gOk _ _ _ _ _) dX6_readTest_259 (tX6_relation _ _ _ _ _) ⟨wV_X6_relation, wL_X6_relation⟩ wM_X6_168 (gCX6 _ _ _ _ _) rfl (A_23 hw) rfl ⟨le_t rfl, le_t rfl⟩ ⟨le_t rfl, le_t rfl⟩ rfl (le_t rfl) fun z4344 μ4340 T4341 F4342 h4343 => ?_
            refine sv_aload_n (pc := 262) dX6_readTest_262 rfl rfl ?_
            refine mr_iconst (pc := 263) (z := 0) dX6_readTest_263 ?_
            refine mr_ldc (pc := 264) (z := 1000000) dX6_readTest_264 wG_X6_147 (by decide) ?_
            refine mr_cVI (pc := 266) (c_X6_number_Wx hw T4341 (rW (c := (-2147483648)) (d := 2147483647) (rR (x := 0)) rfl) (rW (c := (-2147483648)) (d := 2147483647) (rR (x := 1000000)) rfl) ((h4343.2.1 T4341 F4342) h4343.1)) (gOk _ _ _ _ _) dX6_readTest_266 (tX6_number _ _ _ _ _) ⟨wV_X6_number, wL_X6_number⟩ wM_X6_143 (gCX6 _ _ _ _ _) rfl (A_23 hw) rfl ⟨le_t rfl, le_t rfl⟩ ⟨le_t rfl, le_t rfl⟩ rfl (le_t rfl) fun z4349 μ4345 T4346 F4347 h4348 => ?_
            refine mr_iconst (pc := 269) (z := 0) dX6_readTest_269 ?_
            refine mr_cVV (pc := 270) (c_X6_putTest_Wx hw T4346 (rW (c := (-2147483648)) (d := 2147483647) h4339 rfl) (rW (c := (-2147483648)) (d := 2147483647) h4217 rfl) h4343.1 h4348.1 (rW (c := (-2147483648)) (d := 2147483647) (rR (x := 0)) rfl) ((h4348.2.1 T4346 F4347) h4348.1)) (gOk _ _ _ _ _) dX6_readTest_270 (tX6_putTest _ _ _ _ _) ⟨wV_X6_putTest, wL_X6_putTest⟩ wM_X6_157 (gCX6 _ _ _ _ _) rfl (A_23 hw) rfl ⟨le_t rfl, le_t rfl⟩ ⟨le_t rfl, le_t rfl⟩ rfl (le_t rfl) fun μ4350 T4351 F4352 h4353 => ?_
            exact mr_vret dX6_readTest_273 rfl (le_t rfl) (le_t rfl) T4351 (mF.call (mF.call (mF.call (mF.call (mF.call (mF.call mF.refl F4220 rfl) F4236 rfl) F4255 rfl) F4342 rfl) F4347 rfl) F4352 rfl) ⟨(h4353.1 T4351 F4352), trivial⟩
          by_cases h4354 : z4243 = 12
          · refine mr_tableIn (pc := 57) (v := 12) (tgt := 233) dX6_readTest_57 h4354 rfl rfl (by decide) ?_
            have h4355 : 12 ≤ z4243 ∧ z4243 ≤ 12 := (vc_X1_isSo_W_19 h4354 h4263 h4279 h4285 h4301 h4313 h4324 h4338 h4245)
            refine sv_aload_n (pc := 233) dX6_readTest_233 rfl rfl ?_
            refine mr_iload_n (pc := 234) (z := z4243) dX6_readTest_234 rfl rfl ?_
            refine mr_iload_n (pc := 235) (z := z4214) dX6_readTest_235 rfl rfl ?_
            refine sv_aload_n (pc := 236) dX6_readTest_236 rfl rfl ?_
            refine mr_cVI (pc := 237) (c_X6_relation_Wx hw T4254 (((((W4302.2 h4301).2 h4313).2 h4324).2 h4338).1 h4354)) (gOk _ _ _ _ _) dX6_readTest_237 (tX6_relation _ _ _ _ _) ⟨wV_X6_relation, wL_X6_relation⟩ wM_X6_168 (gCX6 _ _ _ _ _) rfl (A_23 hw) rfl ⟨le_t rfl, le_t rfl⟩ ⟨le_t rfl, le_t rfl⟩ rfl (le_t rfl) fun z4360 μ4356 T4357 F4358 h4359 => ?_
            refine sv_aload_n (pc := 240) dX6_readTest_240 rfl rfl ?_
            refine mr_iconst (pc := 241) (z := 0) dX6_readTest_241 ?_
            refine mr_sipush (pc := 242) (z := 1000) dX6_readTest_242 (by decide) ?_
            refine mr_cVI (pc := 245) (c_X6_number_Wx hw T4357 (rW (c := (-2147483648)) (d := 2147483647) (rR (x := 0)) rfl) (rW (c := (-2147483648)) (d := 2147483647) (rR (x := 1000)) rfl) ((h4359.2.1 T4357 F4358) h4359.1)) (gOk _ _ _ _ _) dX6_readTest_245 (tX6_number _ _ _ _ _) ⟨wV_X6_number, wL_X6_number⟩ wM_X6_143 (gCX6 _ _ _ _ _) rfl (A_23 hw) rfl ⟨le_t rfl, le_t rfl⟩ ⟨le_t rfl, le_t rfl⟩ rfl (le_t rfl) fun z4365 μ4361 T4362 F4363 h4364 => ?_
            refine mr_iconst (pc := 248) (z := 0) dX6_readTest_248 ?_
            refine mr_cVV (pc := 249) (c_X6_putTest_Wx hw T4362 (rW (c := (-2147483648)) (d := 2147483647) h4355 rfl) (rW (c := (-2147483648)) (d := 2147483647) h4217 rfl) h4359.1 h4364.1 (rW (c := (-2147483648)) (d := 2147483647) (rR (x := 0)) rfl) ((h4364.2.1 T4362 F4363) h4364.1)) (gOk _ _ _ _ _) dX6_readTest_249 (tX6_putTest _ _ _ _ _) ⟨wV_X6_putTest, wL_X6_putTest⟩ wM_X6_157 (gCX6 _ _ _ _ _) rfl (A_23 hw) rfl ⟨le_t rfl, le_t rfl⟩ ⟨le_t rfl, le_t rfl⟩ rfl (le_t rfl) fun μ4366 T4367 F4368 h4369 => ?_
            refine sv_goto (pc := 252) (tgt := 273) dX6_readTest_252 (by decide) ?_
            exact mr_vret dX6_readTest_273 rfl (le_t rfl) (le_t rfl) T4367 (mF.call (mF.call (mF.call (mF.call (mF.call (mF.call mF.refl F4220 rfl) F4236 rfl) F4255 rfl) F4358 rfl) F4363 rfl) F4368 rfl) ⟨(h4369.1 T4367 F4368), trivial⟩
          by_cases h4370 : z4243 = 13
          · refine mr_tableIn (pc := 57) (v := 13) (tgt := 255) dX6_readTest_57 h4370 rfl rfl (by decide) ?_
            have h4371 : 13 ≤ z4243 ∧ z4243 ≤ 13 := (vc_X1_isSo_W_21 h4370 h4279 h4285 h4301 h4313 h4324 h4338 h4354 h4245)
            refine sv_aload_n (pc := 255) dX6_readTest_255 rfl rfl ?_
            refine mr_iload_n (pc := 256) (z := z4243) dX6_readTest_256 rfl rfl ?_
            refine mr_iload_n (pc := 257) (z := z4214) dX6_readTest_257 rfl rfl ?_
            refine sv_aload_n (pc := 258) dX6_readTest_258 rfl rfl ?_
            refine mr_cVI (pc := 259) (c_X6_relation_Wx hw T4254 ((((((W4302.2 h4301).2 h4313).2 h4324).2 h4338).2 h4354).1 h4370)) (gOk _ _ _ _ _) dX6_readTest_259 (tX6_relation _ _ _ _ _) ⟨wV_X6_relation, wL_X6_relation⟩ wM_X6_168 (gCX6 _ _ _ _ _) rfl (A_23 hw) rfl ⟨le_t rfl, le_t rfl⟩ ⟨le_t rfl, le_t rfl⟩ rfl (le_t rfl) fun z4376 μ4372 T4373 F4374 h4375 => ?_
            refine sv_aload_n (pc := 262) dX6_readTest_262 rfl rfl ?_
            refine mr_iconst (pc := 263) (z := 0) dX6_readTest_263 ?_
            refine mr_ldc (pc := 264) (z := 1000000) dX6_readTest_264 wG_X6_147 (by decide) ?_
            refine mr_cVI (pc := 266) (c_X6_number_Wx hw T4373 (rW (c := (-2147483648)) (d := 2147483647) (rR (x := 0)) rfl) (rW (c := (-2147483648)) (d := 2147483647) (rR (x := 1000000)) rfl) ((h4375.2.1 T4373 F4374) h4375.1)) (gOk _ _ _ _ _) dX6_readTest_266 (tX6_number _ _ _ _ _) ⟨wV_X6_number, wL_X6_number⟩ wM_X6_143 (gCX6 _ _ _ _ _) rfl (A_23 hw) rfl ⟨le_t rfl, le_t rfl⟩ ⟨le_t rfl, le_t rfl⟩ rfl (le_t rfl) fun z4381 μ4377 T4378 F4379 h4380 => ?_
            refine mr_iconst (pc := 269) (z := 0) dX6_readTest_269 ?_
            refine mr_cVV (pc := 270) (c_X6_putTest_Wx hw T4378 (rW (c := (-2147483648)) (d := 2147483647) h4371 rfl) (rW (c := (-2147483648)) (d := 2147483647) h4217 rfl) h4375.1 h4380.1 (rW (c := (-2147483648)) (d := 2147483647) (rR (x := 0)) rfl) ((h4380.2.1 T4378 F4379) h4380.1)) (gOk _ _ _ _ _) dX6_readTest_270 (tX6_putTest _ _ _ _ _) ⟨wV_X6_putTest, wL_X6_putTest⟩ wM_X6_157 (gCX6 _ _ _ _ _) rfl (A_23 hw) rfl ⟨le_t rfl, le_t rfl⟩ ⟨le_t rfl, le_t rfl⟩ rfl (le_t rfl) fun μ4382 T4383 F4384 h4385 => ?_
            exact mr_vret dX6_readTest_273 rfl (le_t rfl) (le_t rfl) T4383 (mF.call (mF.call (mF.call (mF.call (mF.call (mF.call mF.refl F4220 rfl) F4236 rfl) F4255 rfl) F4374 rfl) F4379 rfl) F4384 rfl) ⟨(h4385.1 T4383 F4384), trivial⟩
          have W4387 := ((((((W4302.2 h4301).2 h4313).2 h4324).2 h4338).2 h4354).2 h4370)
          by_cases h4386 : z4243 = 14
          · refine mr_tableIn (pc := 57) (v := 14) (tgt := 172) dX6_readTest_57 h4386 rfl rfl (by decide) ?_
            have h4388 : 14 ≤ z4243 ∧ z4243 ≤ 14 := (vc_X1_isSo_W_23 h4386 h4285 h4301 h4313 h4324 h4338 h4354 h4370 h4245)
            refine sv_aload_n (pc := 172) dX6_readTest_172 rfl rfl ?_
            refine mr_iload_n (pc := 173) (z := z4243) dX6_readTest_173 rfl rfl ?_
            refine mr_iload_n (pc := 174) (z := z4214) dX6_readTest_174 rfl rfl ?_
            refine sv_aload_n (pc := 175) dX6_readTest_175 rfl rfl ?_
            refine mr_iconst (pc := 176) (z := 0) dX6_readTest_176 ?_
            refine mr_iconst (pc := 177) (z := 2) dX6_readTest_177 ?_
            refine mr_cVI (pc := 178) (c_X6_number_Wx hw T4254 (rW (c := (-2147483648)) (d := 2147483647) (rR (x := 0)) rfl) (rW (c := (-2147483648)) (d := 2147483647) (rR (x := 2)) rfl) (W4387.1 h4386)) (gOk _ _ _ _ _) dX6_readTest_178 (tX6_number _ _ _ _ _) ⟨wV_X6_number, wL_X6_number⟩ wM_X6_143 (gCX6 _ _ _ _ _) rfl (A_23 hw) rfl ⟨le_t rfl, le_t rfl⟩ ⟨le_t rfl, le_t rfl⟩ rfl (le_t rfl) fun z4393 μ4389 T4390 F4391 h4392 => ?_
            refine mr_iconst (pc := 181) (z := 0) dX6_readTest_181 ?_
            refine mr_iconst (pc := 182) (z := 0) dX6_readTest_182 ?_
            refine mr_cVV (pc := 183) (c_X6_putTest_Wx hw T4390 (rW (c := (-2147483648)) (d := 2147483647) h4388 rfl) (rW (c := (-2147483648)) (d := 2147483647) h4217 rfl) h4392.1 (rW (c := (-2147483648)) (d := 2147483647) (rR (x := 0)) rfl) (rW (c := (-2147483648)) (d := 2147483647) (rR (x := 0)) rfl) ((h4392.2.1 T4390 F4391) h4392.1)) (gOk _ _ _ _ _) dX6_readTest_183 (tX6_putTest _ _ _ _ _) ⟨wV_X6_putTest, wL_X6_putTest⟩ wM_X6_157 (gCX6 _ _ _ _ _) rfl (A_23 hw) rfl ⟨le_t rfl, le_t rfl⟩ ⟨le_t rfl, le_t rfl⟩ rfl (le_t rfl) fun μ4394 T4395 F4396 h4397 => ?_
            refine sv_goto (pc := 186) (tgt := 273) dX6_readTest_186 (by decide) ?_
            exact mr_vret dX6_readTest_273 rfl (le_t rfl) (le_t rfl) T4395 (mF.call (mF.call (mF.call (mF.call (mF.call mF.refl F4220 rfl) F4236 rfl) F4255 rfl) F4391 rfl) F4396 rfl) ⟨(h4397.1 T4395 F4396), trivial⟩
          by_cases h4398 : z4243 = 15
          · refine mr_tableIn (pc := 57) (v := 15) (tgt := 211) dX6_readTest_57 h4398 rfl rfl (by decide) ?_
            have h4399 : 15 ≤ z4243 ∧ z4243 ≤ 15 := (vc_X1_isSo_W_24 h4398 h4301 h4313 h4324 h4338 h4354 h4370 h4386 h4245)
            refine sv_aload_n (pc := 211) dX6_readTest_211 rfl rfl ?_
            refine mr_iload_n (pc := 212) (z := z4243) dX6_readTest_212 rfl rfl ?_
            refine mr_iload_n (pc := 213) (z := z4214) dX6_readTest_213 rfl rfl ?_
            refine sv_aload_n (pc := 214) dX6_readTest_214 rfl rfl ?_
            refine mr_bipush (pc := 215) (z := 20) dX6_readTest_215 (by decide) ?_
            refine mr_bipush (pc := 217) (z := 22) dX6_readTest_217 (by decide) ?_
            refine mr_cVI (pc := 219) (c_X6_oneOf_Wx hw T4254 (rW (c := (-2147483648)) (d := 2147483647) (rR (x := 20)) rfl) (rW (c := (-2147483648)) (d := 2147483647) (rR (x := 22)) rfl) ((W4387.2 h4386).1 h4398)) (gOk _ _ _ _ _) dX6_readTest_219 (tX6_oneOf _ _ _ _ _) ⟨wV_X6_oneOf, wL_X6_oneOf⟩ wM_X6_161 (gCX6 _ _ _ _ _) rfl (A_23 hw) rfl ⟨le_t rfl, le_t rfl⟩ ⟨le_t rfl, le_t rfl⟩ rfl (le_t rfl) fun z4404 μ4400 T4401 F4402 h4403 => ?_
            refine mr_cSP (pc := 222) (c_X6_verdictOf_Wx hw T4401 h4403.1 ((h4403.2.1 T4401 F4402) h4403.1)) (gOk _ _ _ _ _) dX6_readTest_222 (tX6_verdictOf _ _ _ _ _) wS_X6_verdictOf wM_X6_164 ⟨le_t rfl, le_t rfl⟩ ⟨le_t rfl, le_t rfl⟩ rfl (le_t rfl) fun z4409 h4408 => ?_
            refine mr_iconst (pc := 225) (z := 0) dX6_readTest_225 ?_
            refine mr_iconst (pc := 226) (z := 0) dX6_readTest_226 ?_
            refine mr_cVV (pc := 227) (c_X6_putTest_Wx hw T4401 (rW (c := (-2147483648)) (d := 2147483647) h4399 rfl) (rW (c := (-2147483648)) (d := 2147483647) h4217 rfl) h4408.1 (rW (c := (-2147483648)) (d := 2147483647) (rR (x := 0)) rfl) (rW (c := (-2147483648)) (d := 2147483647) (rR (x := 0)) rfl) (h4408.2.1 h4408.1)) (gOk _ _ _ _ _) dX6_readTest_227 (tX6_putTest _ _ _ _ _) ⟨wV_X6_putTest, wL_X6_putTest⟩ wM_X6_157 (gCX6 _ _ _ _ _) rfl (A_23 hw) rfl ⟨le_t rfl, le_t rfl⟩ ⟨le_t rfl, le_t rfl⟩ rfl (le_t rfl) fun μ4410 T4411 F4412 h4413 => ?_
            refine sv_goto (pc := 230) (tgt := 273) dX6_readTest_230 (by decide) ?_
            exact mr_vret dX6_readTest_273 rfl (le_t rfl) (le_t rfl) T4411 (mF.call (mF.call (mF.call (mF.call (mF.call mF.refl F4220 rfl) F4236 rfl) F4255 rfl) F4402 rfl) F4412 rfl) ⟨(h4413.1 T4411 F4412), trivial⟩
          refine mr_tableOut (pc := 57) (tgt := 255) dX6_readTest_57 h4245 (vc_X1_isSo_W_28 h4257 h4263 h4279 h4285 h4301 h4313 h4324 h4338 h4354 h4370 h4386 h4398 h4245) (by decide) ?_
          refine sv_aload_n (pc := 255) dX6_readTest_255 rfl rfl ?_
          refine mr_iload_n (pc := 256) (z := z4243) dX6_readTest_256 rfl rfl ?_
          refine mr_iload_n (pc := 257) (z := z4214) dX6_readTest_257 rfl rfl ?_
          refine sv_aload_n (pc := 258) dX6_readTest_258 rfl rfl ?_
          refine mr_cVI (pc := 259) (c_X6_relation_Wx hw T4254 ((W4387.2 h4386).2 h4398)) (gOk _ _ _ _ _) dX6_readTest_259 (tX6_relation _ _ _ _ _) ⟨wV_X6_relation, wL_X6_relation⟩ wM_X6_168 (gCX6 _ _ _ _ _) rfl (A_23 hw) rfl ⟨le_t rfl, le_t rfl⟩ ⟨le_t rfl, le_t rfl⟩ rfl (le_t rfl) fun z4418 μ4414 T4415 F4416 h4417 => ?_
          refine sv_aload_n (pc := 262) dX6_readTest_262 rfl rfl ?_
          refine mr_iconst (pc := 263) (z := 0) dX6_readTest_263 ?_
          refine mr_ldc (pc := 264) (z := 1000000) dX6_readTest_264 wG_X6_147 (by decide) ?_
          refine mr_cVI (pc := 266) (c_X6_number_Wx hw T4415 (rW (c := (-2147483648)) (d := 2147483647) (rR (x := 0)) rfl) (rW (c := (-2147483648)) (d := 2147483647) (rR (x := 1000000)) rfl) ((h4417.2.1 T4415 F4416) h4417.1)) (gOk _ _ _ _ _) dX6_readTest_266 (tX6_number _ _ _ _ _) ⟨wV_X6_number, wL_X6_number⟩ wM_X6_143 (gCX6 _ _ _ _ _) rfl (A_23 hw) rfl ⟨le_t rfl, le_t rfl⟩ ⟨le_t rfl, le_t rfl⟩ rfl (le_t rfl) fun z4423 μ4419 T4420 F4421 h4422 => ?_
          refine mr_iconst (pc := 269) (z := 0) dX6_readTest_269 ?_
          refine mr_cVV (pc := 270) (c_X6_putTest_Wx hw T4420 h4245 (rW (c := (-2147483648)) (d := 2147483647) h4217 rfl) h4417.1 h4422.1 (rW (c := (-2147483648)) (d := 2147483647) (rR (x := 0)) rfl) ((h4422.2.1 T4420 F4421) h4422.1)) (gOk _ _ _ _ _) dX6_readTest_270 (tX6_putTest _ _ _ _ _) ⟨wV_X6_putTest, wL_X6_putTest⟩ wM_X6_157 (gCX6 _ _ _ _ _) rfl (A_23 hw) rfl ⟨le_t rfl, le_t rfl⟩ ⟨le_t rfl, le_t rfl⟩ rfl (le_t rfl) fun μ4424 T4425 F4426 h4427 => ?_
          exact mr_vret dX6_readTest_273 rfl (le_t rfl) (le_t rfl) T4425 (mF.call (mF.call (mF.call (mF.call (mF.call (mF.call mF.refl F4220 rfl) F4236 rfl) F4255 rfl) F4416 rfl) F4421 rfl) F4426 rfl) ⟨(h4427.1 T4425 F4426), trivial⟩
        have h4428 : 0 ≤ z4250 ∧ z4250 ≤ 0 := (vc_X12_ring_22 h4251 h4249.1)
        refine sv_aload_n (pc := 46) dX6_readTest_46 rfl rfl ?_
        refine mr_iconst (pc := 47) (z := 2) dX6_readTest_47 ?_
        refine mr_cVV (pc := 48) (c_X6_fail_Wx hw T4235 (rW (c := 1) (d := 4) (rR (x := 2)) rfl) ((h4249.2.1 h4249.1).2 h4251)) (gOk _ _ _ _ _) dX6_readTest_48 (tX6_fail _ _ _ _ _) ⟨wV_X6_fail, wL_X6_fail⟩ wM_X6_123 (gCX6 _ _ _ _ _) rfl (A_23 hw) rfl ⟨le_t rfl, le_t rfl⟩ ⟨le_t rfl, le_t rfl⟩ rfl (le_t rfl) fun μ4429 T4430 F4431 h4432 => ?_
        exact mr_vret dX6_readTest_51 rfl (le_t rfl) (le_t rfl) T4430 (mF.call (mF.call (mF.call mF.refl F4220 rfl) F4236 rfl) F4431 rfl) ⟨(h4432.1 T4430 F4431), trivial⟩
      refine mr_icmp_ge (pc := 8) (tgt := 29) dX6_readTest_8 (by decide) (r32 h4218 rfl) (r32 (rR (x := 1000)) rfl) (fun h4433 => ?_) (fun h4433 => ?_)
      · have h4434 : 1000 ≤ z4213 ∧ z4213 ≤ 1000 := (vc_X6_putToken_v_1 h4433 h4218)
        refine mr_lvS (lv' := [(0, .ref 23), (1, iv z4214)]) (List.forall_mem_cons.mpr ⟨rfl, List.forall_mem_cons.mpr ⟨rfl, fun _ h => absurd h List.not_mem_nil⟩⟩) ?_
        exact J4238 μ4215 T4219 mF.refl ((W4223 z4214 z4213 μ4215 rfl h4217 h4218 T4219 F4220).1 h4433)
      have h4435 : 0 ≤ z4213 ∧ z4213 ≤ 999 := (vc_X6_putToken_v_4 h4433 h4218)
      refine sv_aload_n (pc := 11) dX6_readTest_11 rfl rfl ?_
      refine mr_iconst (pc := 12) (z := 3) dX6_readTest_12 ?_
      refine mr_cVI (pc := 13) (c_X6_take_Wx hw T4219 (rW (c := (-2147483648)) (d := 2147483647) (rR (x := 3)) rfl) ((W4223 z4214 z4213 μ4215 rfl h4217 h4218 T4219 F4220).2 h4433)) (gOk _ _ _ _ _) dX6_readTest_13 (tX6_take _ _ _ _ _) ⟨wV_X6_take, wL_X6_take⟩ wM_X6_120 (gCX6 _ _ _ _ _) rfl (A_23 hw) rfl ⟨le_t rfl, le_t rfl⟩ ⟨le_t rfl, le_t rfl⟩ rfl (le_t rfl) fun z4440 μ4436 T4437 F4438 h4439 => ?_
      refine mr_if_eq (pc := 16) (tgt := 29) dX6_readTest_16 (by decide) (r32 h4439.1 rfl) (fun h4441 => ?_) (fun h4441 => ?_)
      · have h4442 : 0 ≤ z4440 ∧ z4440 ≤ 0 := (vc_X12_ring_22 h4441 h4439.1)
        refine mr_lvS (lv' := [(0, .ref 23), (1, iv z4214)]) (List.forall_mem_cons.mpr ⟨rfl, List.forall_mem_cons.mpr ⟨rfl, fun _ h => absurd h List.not_mem_nil⟩⟩) ?_
        exact J4238 μ4436 T4437 (mF.call mF.refl F4438 rfl) (((h4439.2.1 T4437 F4438) h4439.1).1 h4441)
      have h4443 : 1 ≤ z4440 ∧ z4440 ≤ 1 := (vc_X12_ring_24 h4441 h4439.1)
      refine mr_iconst (pc := 19) (z := 1) dX6_readTest_19 ?_
      refine mr_iload_n (pc := 20) (z := z4214) dX6_readTest_20 rfl rfl ?_
      refine mr_isub (pc := 21) (x := 1) (y := z4214) dX6_readTest_21 ?_
      refine mr_istore_n (pc := 22) (lv' := [(1, iv (1 - z4214)), (0, .ref 23), (2, iv z4213)]) dX6_readTest_22 rfl (by decide) rfl ?_
      refine mr_iinc (pc := 23) (lv' := [(2, iv (z4213 + 1)), (1, iv (1 - z4214)), (0, .ref 23)]) dX6_readTest_23 rfl (by decide) rfl ?_
      refine sv_goto (pc := 26) (tgt := 4) dX6_readTest_26 (by decide) ?_
      refine mr_lvS (lv' := [(0, .ref 23), (1, iv (1 - z4214)), (2, iv (z4213 + 1))]) (List.forall_mem_cons.mpr ⟨rfl, List.forall_mem_cons.mpr ⟨rfl, List.forall_mem_cons.mpr ⟨rfl, fun _ h => absurd h List.not_mem_nil⟩⟩⟩) ?_
      exact ih4224 (1 - z4214) (z4213 + 1) μ4436 T4437 (mF.call (mF.call mF.refl F4220 rfl) F4438 rfl) (rSub (e := 0) (f := 1) (rR (x := 1)) h4217 rfl) (rW (c := 0) (d := 1000) (rAdd (e := 1) (f := 1000) h4435 (rR (x := 1)) rfl) rfl) (vc_X6_readTest_Wx_21 (nS h4222) h4433 h4435) (((h4439.2.1 T4437 F4438) h4439.1).2 h4441)
  refine mr_lvS (lv' := [(0, .ref 23), (1, iv 0), (2, iv 0)]) (List.forall_mem_cons.mpr ⟨rfl, List.forall_mem_cons.mpr ⟨rfl, List.forall_mem_cons.mpr ⟨rfl, fun _ h => absurd h List.not_mem_nil⟩⟩⟩) ?_
  exact L4216 1002 0 0 μ hT mF.refl (rW (c := 0) (d := 1) (rR (x := 0)) rfl) (rW (c := 0) (d := 1000) (rR (x := 0)) rfl) vc_X6_split_v_102 hQ
