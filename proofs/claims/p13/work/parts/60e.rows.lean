theorem vc_X4_actOf_1 {z96 : Int} (h0 : (6 - z96) < ((0 : Nat) : Int)) (h1 : 0 ≤ z96 ∧ z96 ≤ 5) : False := by omega
theorem vc_X4_actOf_2 {z104 z96 : Int} (h0 : z96 < z104) (h1 : 0 ≤ z104 ∧ z104 ≤ 5) (h2 : 0 ≤ z96 ∧ z96 ≤ 5) : 0 ≤ z96 ∧ z96 ≤ 4 := by omega
theorem vc_X4_actOf_3 {z104 z96 : Int} (h0 : z96 < z104) (h1 : 0 ≤ z104 ∧ z104 ≤ 5) (h2 : 0 ≤ z96 ∧ z96 ≤ 4) : 1 ≤ z104 ∧ z104 ≤ 5 := by omega
theorem vc_X4_actOf_4 {z110 : Int} (h0 : z110 = 0) (h1 : 0 ≤ z110 ∧ z110 ≤ 6) : 0 ≤ z110 ∧ z110 ≤ 0 := by omega
theorem vc_X4_actOf_5 {z110 : Int} (h0 : ¬ z110 = 0) (h1 : 0 ≤ z110 ∧ z110 ≤ 6) : 1 ≤ z110 ∧ z110 ≤ 6 := by omega
theorem vc_X4_actOf_6 {N z104 z96 : Int} (h0 : (6 - z96) < N + 1) (h1 : z96 < z104) (h2 : 1 ≤ z104 ∧ z104 ≤ 5) (h3 : 0 ≤ z96 ∧ z96 ≤ 4) : (6 - (z96 + 1)) < N := by omega
theorem vc_X4_actOf_7 {z116 z119 : Int} (h0 : z116 = z119) (h1 : 0 ≤ z116 ∧ z116 ≤ 46656) (h2 : (-1) ≤ z119 ∧ z119 ≤ 5) : 0 ≤ z116 ∧ z116 ≤ 5 := by omega
theorem vc_X4_actOf_8 {z116 z119 : Int} (h0 : z116 = z119) (h1 : 0 ≤ z116 ∧ z116 ≤ 5) (h2 : (-1) ≤ z119 ∧ z119 ≤ 5) : 0 ≤ z119 ∧ z119 ≤ 5 := by omega
theorem vc_X4_actOf_9  : (6 - 0) < ((7 : Nat) : Int) := by omega
set_option maxRecDepth 4000 in
set_option maxHeartbeats 4000000 in
theorem c_X4_actOf {l : Launch} {D : va_G} {c : Nat → ClassId} {H0 : Heap} {sa : Nat × Nat × (Nat → Int32)} {w : mW} {μ : mM} (hw : mWF w) (hT : mT w μ) {p1 : Int} (hp1 : 0 ≤ p1 ∧ p1 ≤ 6) : sC (gG l D c H0 sa) mX4_actOf 1 0 0 [.ref 94, iv p1] (mk w μ) (qP w μ (fun z => (0 ≤ z ∧ z ≤ 5) ∧ True)) := by
  refine sC.of rfl (by decide) (le_t rfl) ?_
  refine mr_lvE (lv' := [(0, .ref 94), (1, iv p1)]) rfl ?_
  refine mr_iconst (pc := 0) (z := 0) dX4_actOf_0 ?_
  refine mr_istore_n (pc := 1) (lv' := [(2, iv 0), (0, .ref 94), (1, iv p1)]) dX4_actOf_1 rfl (by decide) rfl ?_
  have L97 : ∀ (nL97 : Nat) (z96 : Int), True → (0 ≤ z96 ∧ z96 ≤ 5) → (6 - z96) < (nL97 : Int) → sV (gG l D c H0 sa) mX4_actOf (sRm 1 0 0) (sZ (gG l D c H0 sa) 0 0 (qP w μ (fun z => (0 ≤ z ∧ z ≤ 5) ∧ True))) 2 [(0, .ref 94), (1, iv p1), (2, iv z96)] [] (mk w μ) 0 0 := by
    intro nL97
    induction nL97 with
    | zero => intro z96 _ h98 h102; exact ((vc_X4_actOf_1 h102 h98)).elim
    | succ nL97 ih103 =>
      intro z96 _ h98 h102
      refine mr_iload_n (pc := 2) (z := z96) dX4_actOf_2 rfl rfl ?_
      refine sv_aload_n (pc := 3) dX4_actOf_3 rfl rfl ?_
      refine gf_X4_12 (pc := 4) dX4_actOf_4 wF_X4_11 (A_94 hw) hT ?_
      refine mr_iload_n (pc := 7) (z := p1) dX4_actOf_7 rfl rfl ?_
      refine la_95 (pc := 8) dX4_actOf_8 (A_95 hw) hT (rIx (n := 7) hp1 rfl) fun z104 q105 h106 => ?_
      refine mr_icmp_ge (pc := 9) (tgt := 55) dX4_actOf_9 (by decide) (r32 h98 rfl) (r32 h106 rfl) (fun h107 => ?_) (fun h107 => ?_)
      · refine sv_aload_n (pc := 55) dX4_actOf_55 rfl rfl ?_
        refine gf_X4_12 (pc := 56) dX4_actOf_56 wF_X4_11 (A_94 hw) hT ?_
        refine mr_iload_n (pc := 59) (z := p1) dX4_actOf_59 rfl rfl ?_
        refine lk_95 (pc := 60) dX4_actOf_60 (A_95 hw) (rIx (n := 7) hp1 rfl) q105 ?_
        exact mr_iretP dX4_actOf_61 rfl (le_t rfl) (le_t rfl) ⟨h106, trivial⟩
      have h108 : 0 ≤ z96 ∧ z96 ≤ 4 := (vc_X4_actOf_2 h107 h106 h98)
      have h109 : 1 ≤ z104 ∧ z104 ≤ 5 := (vc_X4_actOf_3 h107 h106 h108)
      refine mr_iload_n (pc := 12) (z := p1) dX4_actOf_12 rfl rfl ?_
      refine mr_iconst (pc := 13) (z := 5) dX4_actOf_13 ?_
      refine mr_imul (pc := 14) (x := p1) (y := 5) dX4_actOf_14 ?_
      refine mr_iload_n (pc := 15) (z := z96) dX4_actOf_15 rfl rfl ?_
      refine mr_iadd (pc := 16) (x := (p1 * 5)) (y := z96) dX4_actOf_16 ?_
      refine mr_istore_n (pc := 17) (lv' := [(3, iv ((p1 * 5) + z96)), (0, .ref 94), (1, iv p1), (2, iv z96)]) dX4_actOf_17 rfl (by decide) rfl ?_
      refine sv_aload_n (pc := 18) dX4_actOf_18 rfl rfl ?_
      refine gf_X4_2 (pc := 19) dX4_actOf_19 wF_X4_21 (A_94 hw) hT ?_
      refine mr_iload_n (pc := 22) (z := ((p1 * 5) + z96)) dX4_actOf_22 rfl rfl ?_
      refine la_98 (pc := 23) dX4_actOf_23 (A_98 hw) hT (rIx (n := 35) (rAdd (e := 0) (f := 34) (rMulR (n := 5) (e := 0) (f := 30) hp1 rfl) h108 rfl) rfl) fun z110 q111 h112 => ?_
      refine mr_istore (pc := 24) (lv' := [(4, iv z110), (3, iv ((p1 * 5) + z96)), (0, .ref 94), (1, iv p1), (2, iv z96)]) dX4_actOf_24 (by decide) rfl ?_
      refine mr_iload (pc := 26) (z := z110) dX4_actOf_26 rfl ?_
      refine mr_if_eq (pc := 28) (tgt := 47) dX4_actOf_28 (by decide) (r32 h112 rfl) (fun h113 => ?_) (fun h113 => ?_)
      · have h114 : 0 ≤ z110 ∧ z110 ≤ 0 := (vc_X4_actOf_4 h113 h112)
        refine mr_iload_n (pc := 47) (z := z96) dX4_actOf_47 rfl rfl ?_
        exact mr_iretP dX4_actOf_48 rfl (le_t rfl) (le_t rfl) ⟨(rW (c := 0) (d := 5) h108 rfl), trivial⟩
      have h115 : 1 ≤ z110 ∧ z110 ≤ 6 := (vc_X4_actOf_5 h113 h112)
      refine sv_aload_n (pc := 31) dX4_actOf_31 rfl rfl ?_
      refine gf_X4_5 (pc := 32) dX4_actOf_32 wF_X4_30 (A_94 hw) hT ?_
      refine mr_iload (pc := 35) (z := z110) dX4_actOf_35 rfl ?_
      refine la_101 (pc := 37) dX4_actOf_37 (A_101 hw) hT (rIx (n := 7) h115 rfl) fun z116 q117 h118 => ?_
      refine sv_aload_n (pc := 38) dX4_actOf_38 rfl rfl ?_
      refine gf_X4_3 (pc := 39) dX4_actOf_39 wF_X4_24 (A_94 hw) hT ?_
      refine mr_iload_n (pc := 42) (z := ((p1 * 5) + z96)) dX4_actOf_42 rfl rfl ?_
      refine la_99 (pc := 43) dX4_actOf_43 (A_99 hw) hT (rIx (n := 35) (rAdd (e := 0) (f := 34) (rMulR (n := 5) (e := 0) (f := 30) hp1 rfl) h108 rfl) rfl) fun z119 q120 h121 => ?_
      refine mr_icmp_ne (pc := 44) (tgt := 49) dX4_actOf_44 (by decide) (r32 h118 rfl) (r32 h121 rfl) (fun h122 => ?_) (fun h122 => ?_)
      · refine mr_iinc (pc := 49) (lv' := [(2, iv (z96 + 1)), (4, iv z110), (3, iv ((p1 * 5) + z96)), (0, .ref 94), (1, iv p1)]) dX4_actOf_49 rfl (by decide) rfl ?_
        refine sv_goto (pc := 52) (tgt := 2) dX4_actOf_52 (by decide) ?_
        refine mr_lvS (lv' := [(0, .ref 94), (1, iv p1), (2, iv (z96 + 1))]) (List.forall_mem_cons.mpr ⟨rfl, List.forall_mem_cons.mpr ⟨rfl, List.forall_mem_cons.mpr ⟨rfl, fun _ h => absurd h List.not_mem_nil⟩⟩⟩) ?_
        exact ih103 (z96 + 1) trivial (rW (c := 0) (d := 5) (rAdd (e := 1) (f := 5) h108 (rR (x := 1)) rfl) rfl) (vc_X4_actOf_6 (nS h102) h107 h109 h108)
      have h123 : 0 ≤ z116 ∧ z116 ≤ 5 := (vc_X4_actOf_7 h122 h118 h121)
      have h124 : 0 ≤ z119 ∧ z119 ≤ 5 := (vc_X4_actOf_8 h122 h123 h121)
      refine mr_iload_n (pc := 47) (z := z96) dX4_actOf_47 rfl rfl ?_
      exact mr_iretP dX4_actOf_48 rfl (le_t rfl) (le_t rfl) ⟨(rW (c := 0) (d := 5) h108 rfl), trivial⟩
  refine mr_lvS (lv' := [(0, .ref 94), (1, iv p1), (2, iv 0)]) (List.forall_mem_cons.mpr ⟨rfl, List.forall_mem_cons.mpr ⟨rfl, List.forall_mem_cons.mpr ⟨rfl, fun _ h => absurd h List.not_mem_nil⟩⟩⟩) ?_
  exact L97 7 0 trivial (rW (c := 0) (d := 5) (rR (x := 0)) rfl) vc_X4_actOf_9
theorem vc_X4_isRest_1 {z55 : Int} (h0 : (8 - z55) < ((0 : Nat) : Int)) (h1 : 1 ≤ z55 ∧ z55 ≤ 7) : False := by omega
theorem vc_X4_isRest_2 {z55 : Int} (h0 : 7 ≤ z55) (h1 : 1 ≤ z55 ∧ z55 ≤ 7) : 7 ≤ z55 ∧ z55 ≤ 7 := by omega
theorem vc_X4_isRest_3 {z55 : Int} (h0 : z55 < 7) (h1 : 1 ≤ z55 ∧ z55 ≤ 7) : 1 ≤ z55 ∧ z55 ≤ 6 := by omega
theorem vc_X4_isRest_4 {z66 z73 : Int} (h0 : z66 = z73) (h1 : 0 ≤ z66 ∧ z66 ≤ 46656) (h2 : 0 ≤ z73 ∧ z73 ≤ 5) : 0 ≤ z66 ∧ z66 ≤ 5 := by omega
theorem vc_X4_isRest_5 {N z55 : Int} (h0 : (8 - z55) < N + 1) (h1 : z55 < 7) (h2 : 1 ≤ z55 ∧ z55 ≤ 6) : (8 - (z55 + 1)) < N := by omega
theorem vc_X4_isRest_6  : (8 - 1) < ((8 : Nat) : Int) := by omega
set_option maxRecDepth 4000 in
set_option maxHeartbeats 4000000 in
theorem c_X4_isRest {l : Launch} {D : va_G} {c : Nat → ClassId} {H0 : Heap} {sa : Nat × Nat × (Nat → Int32)} {w : mW} {μ : mM} (hw : mWF w) (hT : mT w μ) : sC (gG l D c H0 sa) mX4_isRest 2 0 0 [.ref 94] (mk w μ) (qP w μ (fun z => (0 ≤ z ∧ z ≤ 1) ∧ True)) := by
  refine sC.of rfl (by decide) (le_t rfl) ?_
  refine mr_lvE (lv' := [(0, .ref 94)]) rfl ?_
  refine mr_iconst (pc := 0) (z := 1) dX4_isRest_0 ?_
  refine mr_istore_n (pc := 1) (lv' := [(1, iv 1), (0, .ref 94)]) dX4_isRest_1 rfl (by decide) rfl ?_
  have L56 : ∀ (nL56 : Nat) (z55 : Int), True → (1 ≤ z55 ∧ z55 ≤ 7) → (8 - z55) < (nL56 : Int) → sV (gG l D c H0 sa) mX4_isRest (sRm 2 0 0) (sZ (gG l D c H0 sa) 0 0 (qP w μ (fun z => (0 ≤ z ∧ z ≤ 1) ∧ True))) 2 [(0, .ref 94), (1, iv z55)] [] (mk w μ) 0 0 := by
    intro nL56
    induction nL56 with
    | zero => intro z55 _ h57 h61; exact ((vc_X4_isRest_1 h61 h57)).elim
    | succ nL56 ih62 =>
      intro z55 _ h57 h61
      refine mr_iload_n (pc := 2) (z := z55) dX4_isRest_2 rfl rfl ?_
      refine mr_bipush (pc := 3) (z := 7) dX4_isRest_3 (by decide) ?_
      refine mr_icmp_ge (pc := 5) (tgt := 30) dX4_isRest_5 (by decide) (r32 h57 rfl) (r32 (rR (x := 7)) rfl) (fun h63 => ?_) (fun h63 => ?_)
      · have h64 : 7 ≤ z55 ∧ z55 ≤ 7 := (vc_X4_isRest_2 h63 h57)
        refine mr_iconst (pc := 30) (z := 1) dX4_isRest_30 ?_
        exact mr_zretP dX4_isRest_31 rfl (rW (c := 0) (d := 1) (rR (x := 1)) rfl) (le_t rfl) (le_t rfl) ⟨(rW (c := 0) (d := 1) (rR (x := 1)) rfl), trivial⟩
      have h65 : 1 ≤ z55 ∧ z55 ≤ 6 := (vc_X4_isRest_3 h63 h57)
      refine sv_aload_n (pc := 8) dX4_isRest_8 rfl rfl ?_
      refine gf_X4_5 (pc := 9) dX4_isRest_9 wF_X4_30 (A_94 hw) hT ?_
      refine mr_iload_n (pc := 12) (z := z55) dX4_isRest_12 rfl rfl ?_
      refine la_101 (pc := 13) dX4_isRest_13 (A_101 hw) hT (rIx (n := 7) h65 rfl) fun z66 q67 h68 => ?_
      refine sv_aload_n (pc := 14) dX4_isRest_14 rfl rfl ?_
      refine mr_iload_n (pc := 15) (z := z55) dX4_isRest_15 rfl rfl ?_
      refine mr_cVP (pc := 16) (c_X4_actOf hw hT (rW (c := 0) (d := 6) h65 rfl)) (gOk _ _ _ _ _) dX4_isRest_16 (tX4_actOf _ _ _ _ _) ⟨wV_X4_actOf, wL_X4_actOf⟩ wM_X4_71 (gCX4 _ _ _ _ _) rfl (A_94 hw) rfl ⟨le_t rfl, le_t rfl⟩ ⟨le_t rfl, le_t rfl⟩ rfl (le_t rfl) fun z73 h72 => ?_
      refine mr_icmp_eq (pc := 19) (tgt := 24) dX4_isRest_19 (by decide) (r32 h68 rfl) (r32 h72.1 rfl) (fun h74 => ?_) (fun h74 => ?_)
      · have h75 : 0 ≤ z66 ∧ z66 ≤ 5 := (vc_X4_isRest_4 h74 h68 h72.1)
        refine mr_iinc (pc := 24) (lv' := [(1, iv (z55 + 1)), (0, .ref 94)]) dX4_isRest_24 rfl (by decide) rfl ?_
        refine sv_goto (pc := 27) (tgt := 2) dX4_isRest_27 (by decide) ?_
        refine mr_lvS (lv' := [(0, .ref 94), (1, iv (z55 + 1))]) (List.forall_mem_cons.mpr ⟨rfl, List.forall_mem_cons.mpr ⟨rfl, fun _ h => absurd h List.not_mem_nil⟩⟩) ?_
        exact ih62 (z55 + 1) trivial (rW (c := 1) (d := 7) (rAdd (e := 2) (f := 7) h65 (rR (x := 1)) rfl) rfl) (vc_X4_isRest_5 (nS h61) h63 h65)
      refine mr_iconst (pc := 22) (z := 0) dX4_isRest_22 ?_
      exact mr_zretP dX4_isRest_23 rfl (rW (c := 0) (d := 1) (rR (x := 0)) rfl) (le_t rfl) (le_t rfl) ⟨(rW (c := 0) (d := 1) (rR (x := 0)) rfl), trivial⟩
  refine mr_lvS (lv' := [(0, .ref 94), (1, iv 1)]) (List.forall_mem_cons.mpr ⟨rfl, List.forall_mem_cons.mpr ⟨rfl, fun _ h => absurd h List.not_mem_nil⟩⟩) ?_
  exact L56 8 1 trivial (rW (c := 1) (d := 7) (rR (x := 1)) rfl) vc_X4_isRest_6
theorem vc_X4_figure_1 {z1 : Int} (h0 : z1 ≤ 0) (h1 : 0 ≤ z1 ∧ z1 ≤ 46656) : 0 ≤ z1 ∧ z1 ≤ 0 := by omega
theorem vc_X4_figure_2 {z1 : Int} (h0 : 0 < z1) (h1 : 0 ≤ z1 ∧ z1 ≤ 46656) : 1 ≤ z1 ∧ z1 ≤ 46656 := by omega
theorem vc_X4_figure_3 {z1 : Int} (h0 : 0 < z1) (h1 : 1 ≤ z1 ∧ z1 ≤ 46656) : 0 < z1 ∧ z1 ≤ 2147483647 := by omega
theorem vc_X4_figure_4 {z21 : Int} (h0 : 0 ≤ z21 ∧ z21 ≤ 5) : 0 < (z21 + 1) ∧ (z21 + 1) ≤ 2147483647 := by omega
set_option maxRecDepth 4000 in
set_option maxHeartbeats 4000000 in
theorem c_X4_figure {l : Launch} {D : va_G} {c : Nat → ClassId} {H0 : Heap} {sa : Nat × Nat × (Nat → Int32)} {w : mW} {μ : mM} (hw : mWF w) (hT : mT w μ) {p1 : Int} (hp1 : 0 ≤ p1 ∧ p1 ≤ 46655) {p2 : Int} (hp2 : 1 ≤ p2 ∧ p2 ≤ 6) : sC (gG l D c H0 sa) mX4_figure 1 0 0 [.ref 94, iv p1, iv p2] (mk w μ) (qP w μ (fun z => (0 ≤ z ∧ z ≤ 5) ∧ True)) := by
  refine sC.of rfl (by decide) (le_t rfl) ?_
  refine mr_lvE (lv' := [(0, .ref 94), (1, iv p1), (2, iv p2)]) rfl ?_
  refine sv_aload_n (pc := 0) dX4_figure_0 rfl rfl ?_
  refine gf_X4_4 (pc := 1) dX4_figure_1 wF_X4_27 (A_94 hw) hT ?_
  refine mr_iload_n (pc := 4) (z := p2) dX4_figure_4 rfl rfl ?_
  refine la_100 (pc := 5) dX4_figure_5 (A_100 hw) hT (rIx (n := 7) hp2 rfl) fun z1 q2 h3 => ?_
  refine mr_istore_n (pc := 6) (lv' := [(3, iv z1), (0, .ref 94), (1, iv p1), (2, iv p2)]) dX4_figure_6 rfl (by decide) rfl ?_
  refine mr_iload_n (pc := 7) (z := z1) dX4_figure_7 rfl rfl ?_
  refine mr_if_le (pc := 8) (tgt := 26) dX4_figure_8 (by decide) (r32 h3 rfl) (fun h15 => ?_) (fun h15 => ?_)
  · have h16 : 0 ≤ z1 ∧ z1 ≤ 0 := (vc_X4_figure_1 h15 h3)
    refine mr_iconst (pc := 26) (z := 0) dX4_figure_26 ?_
    exact mr_iretP dX4_figure_27 rfl (le_t rfl) (le_t rfl) ⟨(rW (c := 0) (d := 5) (rR (x := 0)) rfl), trivial⟩
  have h17 : 1 ≤ z1 ∧ z1 ≤ 46656 := (vc_X4_figure_2 h15 h3)
  refine mr_iload_n (pc := 11) (z := p1) dX4_figure_11 rfl rfl ?_
  refine mr_iload_n (pc := 12) (z := z1) dX4_figure_12 rfl rfl ?_
  refine mr_idiv (pc := 13) (x := p1) (y := z1) dX4_figure_13 (rW (c := 0) (d := 2147483647) hp1 rfl) (vc_X4_figure_3 h15 h17) ?_
  refine mr_gen (P := fun z => 0 ≤ z ∧ z ≤ 46655) (rDivV hp1 (vc_X4_figure_3 h15 h17) rfl) fun z18 q19 h20 => ?_
  refine sv_aload_n (pc := 14) dX4_figure_14 rfl rfl ?_
  refine gf_X4_12 (pc := 15) dX4_figure_15 wF_X4_11 (A_94 hw) hT ?_
  refine mr_iload_n (pc := 18) (z := p2) dX4_figure_18 rfl rfl ?_
  refine la_95 (pc := 19) dX4_figure_19 (A_95 hw) hT (rIx (n := 7) hp2 rfl) fun z21 q22 h23 => ?_
  refine mr_iconst (pc := 20) (z := 1) dX4_figure_20 ?_
  refine mr_iadd (pc := 21) (x := z21) (y := 1) dX4_figure_21 ?_
  refine mr_irem (pc := 22) (x := z18) (y := (z21 + 1)) dX4_figure_22 (rW (c := 0) (d := 2147483647) h20 rfl) (vc_X4_figure_4 h23) ?_
  refine mr_gen (P := fun z => 0 ≤ z ∧ z ≤ 5) (rModV (rAdd (e := 1) (f := 6) h23 (rR (x := 1)) rfl) (vc_X4_figure_4 h23) rfl) fun z24 q25 h26 => ?_
  refine sv_goto (pc := 23) (tgt := 27) dX4_figure_23 (by decide) ?_
  exact mr_iretP dX4_figure_27 rfl (le_t rfl) (le_t rfl) ⟨h26, trivial⟩
set_option maxRecDepth 4000 in
set_option maxHeartbeats 4000000 in
theorem c_X11_clear {l : Launch} {D : va_G} {c : Nat → ClassId} {H0 : Heap} {sa : Nat × Nat × (Nat → Int32)} {w : mW} {μ : mM} (hw : mWF w) (hT : mT w μ) : sC (gG l D c H0 sa) mX11_clear 2 0 0 [.ref 0] (mk w μ) (qI w [94010, 94011, 95999] μ (fun z μ1 => ((-2147483648) ≤ z ∧ z ≤ 2147483647) ∧ True)) := by
  refine sC.of rfl (by decide) (le_t rfl) ?_
  refine mr_lvE (lv' := [(0, .ref 0)]) rfl ?_
  refine sv_aload_n (pc := 0) dX11_clear_0 rfl rfl ?_
  refine gf_X11_9 (pc := 1) dX11_clear_1 wF_X11_72 (A_0 hw) hT ?_
  refine mr_cVI (pc := 4) (c_X4_forget hw hT) (gOk _ _ _ _ _) dX11_clear_4 (tX4_forget _ _ _ _ _) ⟨wV_X4_forget, wL_X4_forget⟩ wM_X11_394 (gCX4 _ _ _ _ _) rfl (A_94 hw) rfl ⟨le_t rfl, le_t rfl⟩ ⟨le_t rfl, le_t rfl⟩ rfl (le_t rfl) fun z5 μ1 T2 F3 h4 => ?_
  exact mr_iret dX11_clear_7 rfl (le_t rfl) (le_t rfl) T2 (mF.call mF.refl F3 rfl) ⟨h4.1, trivial⟩
theorem vc_X11_count_1 {p1 : Int} (h0 : p1 = 0) (h1 : (-2147483648) ≤ p1 ∧ p1 ≤ 2147483647) : 0 ≤ p1 ∧ p1 ≤ 0 := by omega
theorem vc_X11_count_2 {p1 : Int} (h0 : p1 = 1) (h1 : ¬ p1 = 0) (h2 : (-2147483648) ≤ p1 ∧ p1 ≤ 2147483647) : 1 ≤ p1 ∧ p1 ≤ 1 := by omega
theorem vc_X11_count_3 {p1 : Int} (h0 : p1 = 2) (h1 : ¬ p1 = 0) (h2 : ¬ p1 = 1) (h3 : (-2147483648) ≤ p1 ∧ p1 ≤ 2147483647) : 2 ≤ p1 ∧ p1 ≤ 2 := by omega
theorem vc_X11_count_4 {p1 : Int} (h0 : p1 = 3) (h1 : ¬ p1 = 0) (h2 : ¬ p1 = 1) (h3 : ¬ p1 = 2) (h4 : (-2147483648) ≤ p1 ∧ p1 ≤ 2147483647) : 3 ≤ p1 ∧ p1 ≤ 3 := by omega
theorem vc_X11_count_5 {p1 : Int} (h0 : p1 = 4) (h1 : ¬ p1 = 0) (h2 : ¬ p1 = 1) (h3 : ¬ p1 = 2) (h4 : ¬ p1 = 3) (h5 : (-2147483648) ≤ p1 ∧ p1 ≤ 2147483647) : 4 ≤ p1 ∧ p1 ≤ 4 := by omega
theorem vc_X11_count_6 {p1 : Int} (h0 : p1 = 5) (h1 : ¬ p1 = 0) (h2 : ¬ p1 = 1) (h3 : ¬ p1 = 2) (h4 : ¬ p1 = 3) (h5 : ¬ p1 = 4) (h6 : (-2147483648) ≤ p1 ∧ p1 ≤ 2147483647) : 5 ≤ p1 ∧ p1 ≤ 5 := by omega
theorem vc_X11_count_7 {p1 : Int} (h0 : p1 = 6) (h1 : ¬ p1 = 0) (h2 : ¬ p1 = 1) (h3 : ¬ p1 = 2) (h4 : ¬ p1 = 3) (h5 : ¬ p1 = 4) (h6 : ¬ p1 = 5) (h7 : (-2147483648) ≤ p1 ∧ p1 ≤ 2147483647) : 6 ≤ p1 ∧ p1 ≤ 6 := by omega
theorem vc_X11_count_8 {p1 : Int} (h0 : p1 = 7) (h1 : ¬ p1 = 0) (h2 : ¬ p1 = 1) (h3 : ¬ p1 = 2) (h4 : ¬ p1 = 3) (h5 : ¬ p1 = 4) (h6 : ¬ p1 = 5) (h7 : ¬ p1 = 6) (h8 : (-2147483648) ≤ p1 ∧ p1 ≤ 2147483647) : 7 ≤ p1 ∧ p1 ≤ 7 := by omega
theorem vc_X11_count_9 {p1 : Int} (h0 : p1 = 8) (h1 : ¬ p1 = 1) (h2 : ¬ p1 = 2) (h3 : ¬ p1 = 3) (h4 : ¬ p1 = 4) (h5 : ¬ p1 = 5) (h6 : ¬ p1 = 6) (h7 : ¬ p1 = 7) (h8 : (-2147483648) ≤ p1 ∧ p1 ≤ 2147483647) : 8 ≤ p1 ∧ p1 ≤ 8 := by omega
theorem vc_X11_count_10 {p1 : Int} (h0 : p1 = 9) (h1 : ¬ p1 = 2) (h2 : ¬ p1 = 3) (h3 : ¬ p1 = 4) (h4 : ¬ p1 = 5) (h5 : ¬ p1 = 6) (h6 : ¬ p1 = 7) (h7 : ¬ p1 = 8) (h8 : (-2147483648) ≤ p1 ∧ p1 ≤ 2147483647) : 9 ≤ p1 ∧ p1 ≤ 9 := by omega
theorem vc_X11_count_11 {p1 : Int} (h0 : p1 = 10) (h1 : ¬ p1 = 3) (h2 : ¬ p1 = 4) (h3 : ¬ p1 = 5) (h4 : ¬ p1 = 6) (h5 : ¬ p1 = 7) (h6 : ¬ p1 = 8) (h7 : ¬ p1 = 9) (h8 : (-2147483648) ≤ p1 ∧ p1 ≤ 2147483647) : 10 ≤ p1 ∧ p1 ≤ 10 := by omega
theorem vc_X11_count_12 {p1 : Int} (h0 : p1 = 11) (h1 : ¬ p1 = 4) (h2 : ¬ p1 = 5) (h3 : ¬ p1 = 6) (h4 : ¬ p1 = 7) (h5 : ¬ p1 = 8) (h6 : ¬ p1 = 9) (h7 : ¬ p1 = 10) (h8 : (-2147483648) ≤ p1 ∧ p1 ≤ 2147483647) : 11 ≤ p1 ∧ p1 ≤ 11 := by omega
theorem vc_X11_count_13 {p1 : Int} (h0 : ¬ p1 = 0) (h1 : ¬ p1 = 1) (h2 : ¬ p1 = 2) (h3 : ¬ p1 = 3) (h4 : ¬ p1 = 4) (h5 : ¬ p1 = 5) (h6 : ¬ p1 = 6) (h7 : ¬ p1 = 7) (h8 : ¬ p1 = 8) (h9 : ¬ p1 = 9) (h10 : ¬ p1 = 10) (h11 : ¬ p1 = 11) (h12 : (-2147483648) ≤ p1 ∧ p1 ≤ 2147483647) : p1 < 0 ∨ 11 < p1 := by omega
set_option maxRecDepth 4000 in
set_option maxHeartbeats 4000000 in
theorem c_X11_count {l : Launch} {D : va_G} {c : Nat → ClassId} {H0 : Heap} {sa : Nat × Nat × (Nat → Int32)} {w : mW} {μ : mM} (hw : mWF w) (hT : mT w μ) {p1 : Int} (hp1 : (-2147483648) ≤ p1 ∧ p1 ≤ 2147483647) : sC (gG l D c H0 sa) mX11_count 1 0 0 [.ref 0, iv p1] (mk w μ) (qP w μ (fun z => ((-2147483648) ≤ z ∧ z ≤ 2147483647) ∧ True)) := by
  refine sC.of rfl (by decide) (le_t rfl) ?_
  refine mr_lvE (lv' := [(0, .ref 0), (1, iv p1)]) rfl ?_
  refine mr_iload_n (pc := 0) (z := p1) dX11_count_0 rfl rfl ?_
  by_cases h1 : p1 = 0
  · refine mr_tableIn (pc := 1) (v := 0) (tgt := 64) dX11_count_1 h1 rfl rfl (by decide) ?_
    have h2 : 0 ≤ p1 ∧ p1 ≤ 0 := (vc_X11_count_1 h1 hp1)
    refine sv_aload_n (pc := 64) dX11_count_64 rfl rfl ?_
    refine gf_X11_3 (pc := 65) dX11_count_65 wF_X11_26 (A_0 hw) hT ?_
    refine gf_X10_14 (pc := 68) dX11_count_68 wF_X11_92 (A_6 hw) hT fun z3 q4 h5 => ?_
    exact mr_iretP dX11_count_71 rfl (le_t rfl) (le_t rfl) ⟨(rW (c := (-2147483648)) (d := 2147483647) h5 rfl), trivial⟩
  by_cases h6 : p1 = 1
  · refine mr_tableIn (pc := 1) (v := 1) (tgt := 72) dX11_count_1 h6 rfl rfl (by decide) ?_
    have h7 : 1 ≤ p1 ∧ p1 ≤ 1 := (vc_X11_count_2 h6 h1 hp1)
    refine sv_aload_n (pc := 72) dX11_count_72 rfl rfl ?_
    refine gf_X11_3 (pc := 73) dX11_count_73 wF_X11_26 (A_0 hw) hT ?_
    refine gf_X10_15 (pc := 76) dX11_count_76 wF_X11_98 (A_6 hw) hT fun z8 q9 h10 => ?_
    exact mr_iretP dX11_count_79 rfl (le_t rfl) (le_t rfl) ⟨(rW (c := (-2147483648)) (d := 2147483647) h10.2 rfl), trivial⟩
  by_cases h11 : p1 = 2
  · refine mr_tableIn (pc := 1) (v := 2) (tgt := 80) dX11_count_1 h11 rfl rfl (by decide) ?_
    have h12 : 2 ≤ p1 ∧ p1 ≤ 2 := (vc_X11_count_3 h11 h1 h6 hp1)
    refine sv_aload_n (pc := 80) dX11_count_80 rfl rfl ?_
    refine gf_X11_3 (pc := 81) dX11_count_81 wF_X11_26 (A_0 hw) hT ?_
    refine gf_X10_16 (pc := 84) dX11_count_84 wF_X11_112 (A_6 hw) hT fun z13 q14 h15 => ?_
    exact mr_iretP dX11_count_87 rfl (le_t rfl) (le_t rfl) ⟨(rW (c := (-2147483648)) (d := 2147483647) h15.2 rfl), trivial⟩
  by_cases h16 : p1 = 3
  · refine mr_tableIn (pc := 1) (v := 3) (tgt := 88) dX11_count_1 h16 rfl rfl (by decide) ?_
    have h17 : 3 ≤ p1 ∧ p1 ≤ 3 := (vc_X11_count_4 h16 h1 h6 h11 hp1)
    refine sv_aload_n (pc := 88) dX11_count_88 rfl rfl ?_
    refine gf_X11_3 (pc := 89) dX11_count_89 wF_X11_26 (A_0 hw) hT ?_
    refine gf_X10_17 (pc := 92) dX11_count_92 wF_X11_188 (A_6 hw) hT fun z18 q19 h20 => ?_
    exact mr_iretP dX11_count_95 rfl (le_t rfl) (le_t rfl) ⟨(rW (c := (-2147483648)) (d := 2147483647) h20 rfl), trivial⟩
  by_cases h21 : p1 = 4
  · refine mr_tableIn (pc := 1) (v := 4) (tgt := 96) dX11_count_1 h21 rfl rfl (by decide) ?_
    have h22 : 4 ≤ p1 ∧ p1 ≤ 4 := (vc_X11_count_5 h21 h1 h6 h11 h16 hp1)
    refine sv_aload_n (pc := 96) dX11_count_96 rfl rfl ?_
    refine gf_X11_4 (pc := 97) dX11_count_97 wF_X11_35 (A_0 hw) hT ?_
    refine gf_X1_8 (pc := 100) dX11_count_100 wF_X11_205 (A_21 hw) hT fun z23 q24 h25 => ?_
    exact mr_iretP dX11_count_103 rfl (le_t rfl) (le_t rfl) ⟨(rW (c := (-2147483648)) (d := 2147483647) h25.2 rfl), trivial⟩
  by_cases h26 : p1 = 5
  · refine mr_tableIn (pc := 1) (v := 5) (tgt := 104) dX11_count_1 h26 rfl rfl (by decide) ?_
    have h27 : 5 ≤ p1 ∧ p1 ≤ 5 := (vc_X11_count_6 h26 h1 h6 h11 h16 h21 hp1)
    refine sv_aload_n (pc := 104) dX11_count_104 rfl rfl ?_
    refine gf_X11_8 (pc := 105) dX11_count_105 wF_X11_65 (A_0 hw) hT ?_
    refine gf_X2_10 (pc := 108) dX11_count_108 wF_X11_373 (A_87 hw) hT fun z28 q29 h30 => ?_
    have h31 : 0 ≤ z28 ∧ z28 ≤ 16 := ⟨h30.1, h30.2.1⟩
    exact mr_iretP dX11_count_111 rfl (le_t rfl) (le_t rfl) ⟨(rW (c := (-2147483648)) (d := 2147483647) h31 rfl), trivial⟩
  by_cases h32 : p1 = 6
  · refine mr_tableIn (pc := 1) (v := 6) (tgt := 112) dX11_count_1 h32 rfl rfl (by decide) ?_
    have h33 : 6 ≤ p1 ∧ p1 ≤ 6 := (vc_X11_count_7 h32 h1 h6 h11 h16 h21 h26 hp1)
    refine sv_aload_n (pc := 112) dX11_count_112 rfl rfl ?_
    refine gf_X11_10 (pc := 113) dX11_count_113 wF_X11_76 (A_0 hw) hT fun z34 q35 h36 => ?_
    exact mr_iretP dX11_count_116 rfl (le_t rfl) (le_t rfl) ⟨(rW (c := (-2147483648)) (d := 2147483647) h36 rfl), trivial⟩
  by_cases h37 : p1 = 7
  · refine mr_tableIn (pc := 1) (v := 7) (tgt := 117) dX11_count_1 h37 rfl rfl (by decide) ?_
    have h38 : 7 ≤ p1 ∧ p1 ≤ 7 := (vc_X11_count_8 h37 h1 h6 h11 h16 h21 h26 h32 hp1)
    refine sv_aload_n (pc := 117) dX11_count_117 rfl rfl ?_
    refine gf_X11_6 (pc := 118) dX11_count_118 wF_X11_51 (A_0 hw) hT ?_
    refine gf_X8_11 (pc := 121) dX11_count_121 wF_X11_303 (A_32 hw) hT fun z39 q40 h41 => ?_
    exact mr_iretP dX11_count_124 rfl (le_t rfl) (le_t rfl) ⟨(rW (c := (-2147483648)) (d := 2147483647) h41 rfl), trivial⟩
  by_cases h42 : p1 = 8
  · refine mr_tableIn (pc := 1) (v := 8) (tgt := 125) dX11_count_1 h42 rfl rfl (by decide) ?_
    have h43 : 8 ≤ p1 ∧ p1 ≤ 8 := (vc_X11_count_9 h42 h6 h11 h16 h21 h26 h32 h37 hp1)
    refine sv_aload_n (pc := 125) dX11_count_125 rfl rfl ?_
    refine gf_X11_6 (pc := 126) dX11_count_126 wF_X11_51 (A_0 hw) hT ?_
    refine gf_X8_10 (pc := 129) dX11_count_129 wF_X11_426 (A_32 hw) hT fun z44 q45 h46 => ?_
    have h47 : 0 ≤ z44 ∧ z44 ≤ 800 := ⟨h46.1, h46.2.1⟩
    exact mr_iretP dX11_count_132 rfl (le_t rfl) (le_t rfl) ⟨(rW (c := (-2147483648)) (d := 2147483647) h47 rfl), trivial⟩
  by_cases h48 : p1 = 9
  · refine mr_tableIn (pc := 1) (v := 9) (tgt := 133) dX11_count_1 h48 rfl rfl (by decide) ?_
    have h49 : 9 ≤ p1 ∧ p1 ≤ 9 := (vc_X11_count_10 h48 h11 h16 h21 h26 h32 h37 h42 hp1)
    refine sv_aload_n (pc := 133) dX11_count_133 rfl rfl ?_
    refine gf_X11_6 (pc := 134) dX11_count_134 wF_X11_51 (A_0 hw) hT ?_
    refine gf_X8_12 (pc := 137) dX11_count_137 wF_X11_429 (A_32 hw) hT fun z50 q51 h52 => ?_
    exact mr_iretP dX11_count_140 rfl (le_t rfl) (le_t rfl) ⟨h52, trivial⟩
  by_cases h53 : p1 = 10
  · refine mr_tableIn (pc := 1) (v := 10) (tgt := 141) dX11_count_1 h53 rfl rfl (by decide) ?_
    have h54 : 10 ≤ p1 ∧ p1 ≤ 10 := (vc_X11_count_11 h53 h16 h21 h26 h32 h37 h42 h48 hp1)
    refine sv_aload_n (pc := 141) dX11_count_141 rfl rfl ?_
    refine gf_X11_11 (pc := 142) dX11_count_142 wF_X11_169 (A_0 hw) hT fun z55 q56 h57 => ?_
    exact mr_iretP dX11_count_145 rfl (le_t rfl) (le_t rfl) ⟨(rW (c := (-2147483648)) (d := 2147483647) h57 rfl), trivial⟩
  by_cases h58 : p1 = 11
  · refine mr_tableIn (pc := 1) (v := 11) (tgt := 146) dX11_count_1 h58 rfl rfl (by decide) ?_
    have h59 : 11 ≤ p1 ∧ p1 ≤ 11 := (vc_X11_count_12 h58 h21 h26 h32 h37 h42 h48 h53 hp1)
    refine sv_aload_n (pc := 146) dX11_count_146 rfl rfl ?_
    refine gf_X11_3 (pc := 147) dX11_count_147 wF_X11_26 (A_0 hw) hT ?_
    refine gf_X10_18 (pc := 150) dX11_count_150 wF_X11_176 (A_6 hw) hT fun z60 q61 h62 => ?_
    exact mr_iretP dX11_count_153 rfl (le_t rfl) (le_t rfl) ⟨(rW (c := (-2147483648)) (d := 2147483647) h62 rfl), trivial⟩
  refine mr_tableOut (pc := 1) (tgt := 154) dX11_count_1 hp1 (vc_X11_count_13 h1 h6 h11 h16 h21 h26 h32 h37 h42 h48 h53 h58 hp1) (by decide) ?_
  refine mr_iconst (pc := 154) (z := (-1)) dX11_count_154 ?_
  exact mr_iretP dX11_count_155 rfl (le_t rfl) (le_t rfl) ⟨(rW (c := (-2147483648)) (d := 2147483647) (rR (x := (-1))) rfl), trivial⟩
