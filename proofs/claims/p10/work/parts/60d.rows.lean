section
theorem vc_X6_putToken_1 {z1 : Int} (h0 : 1000 ≤ z1) (h1 : 0 ≤ z1 ∧ z1 ≤ 1000) : 1000 ≤ z1 ∧ z1 ≤ 1000 := by omega
theorem vc_X6_putToken_2 {z1 : Int} (h0 : z1 < 1000) (h1 : 0 ≤ z1 ∧ z1 ≤ 1000) : 0 ≤ z1 ∧ z1 ≤ 999 := by omega
set_option maxRecDepth 4000 in
set_option maxHeartbeats 4000000 in
theorem c_X6_putToken {l : Launch} {D : va_G} {c : Nat → ClassId} {H0 : Heap} {sa : Nat × Nat × (Nat → Int32)} {w : mW} {μ : mM} (hw : mWF w) (hT : mT w μ) {p1 : Int} (hp1 : (-2147483648) ≤ p1 ∧ p1 ≤ 2147483647) {p2 : Int} (hp2 : (-2147483648) ≤ p2 ∧ p2 ≤ 2147483647) {p3 : Int} (hp3 : 0 ≤ p3 ∧ p3 ≤ 1000) : sC (gG l D c H0 sa) mX6_putToken 1 0 0 [.ref 23, iv p1, iv p2, iv p3] (mk w μ) (qV w [23008, 24999, 25999, 26999] μ (fun μ1 => True)) := by
  refine sC.of rfl (by decide) (le_t rfl) ?_
  refine mr_lvE (lv' := [(0, .ref 23), (1, iv p1), (2, iv p2), (3, iv p3)]) rfl ?_
  refine sv_aload_n (pc := 0) dX6_putToken_0 rfl rfl ?_
  refine gf_X6_8 (pc := 1) dX6_putToken_1 wF_X6_83 (A_23 hw) hT fun z1 q2 h3 => ?_
  refine mr_sipush (pc := 4) (z := 1000) dX6_putToken_4 (by decide) ?_
  refine mr_icmp_ge (pc := 7) (tgt := 50) dX6_putToken_7 (by decide) (r32 h3 rfl) (r32 (rR (x := 1000)) rfl) (fun h18 => ?_) (fun h18 => ?_)
  · have h19 : 1000 ≤ z1 ∧ z1 ≤ 1000 := (vc_X6_putToken_1 h18 h3)
    exact mr_vret dX6_putToken_50 rfl (le_t rfl) (le_t rfl) hT mF.refl trivial
  have h20 : 0 ≤ z1 ∧ z1 ≤ 999 := (vc_X6_putToken_2 h18 h3)
  refine sv_aload_n (pc := 10) dX6_putToken_10 rfl rfl ?_
  refine gf_X6_0 (pc := 11) dX6_putToken_11 wF_X6_9 (A_23 hw) hT ?_
  refine sv_aload_n (pc := 14) dX6_putToken_14 rfl rfl ?_
  refine gk_X6_8 (pc := 15) dX6_putToken_15 wF_X6_83 (A_23 hw) q2 ?_
  refine mr_iload_n (pc := 18) (z := p1) dX6_putToken_18 rfl rfl ?_
  refine ss_24 (pc := 19) dX6_putToken_19 (A_24 hw) hT (rIx (n := 1001) h20 rfl) hp1 fun μ21 u22 T23 => ?_
  refine sv_aload_n (pc := 20) dX6_putToken_20 rfl rfl ?_
  refine gf_X6_1 (pc := 21) dX6_putToken_21 wF_X6_15 (A_23 hw) T23 ?_
  refine sv_aload_n (pc := 24) dX6_putToken_24 rfl rfl ?_
  refine gk_X6_8 (pc := 25) dX6_putToken_25 wF_X6_83 (A_23 hw) (u22.f (Or.inl (mAt.ne (A_24 hw) (A_23 hw) rfl)) q2) ?_
  refine mr_iload_n (pc := 28) (z := p2) dX6_putToken_28 rfl rfl ?_
  refine ss_25 (pc := 29) dX6_putToken_29 (A_25 hw) T23 (rIx (n := 1001) h20 rfl) hp2 fun μ24 u25 T26 => ?_
  refine sv_aload_n (pc := 30) dX6_putToken_30 rfl rfl ?_
  refine gf_X6_2 (pc := 31) dX6_putToken_31 wF_X6_18 (A_23 hw) T26 ?_
  refine sv_aload_n (pc := 34) dX6_putToken_34 rfl rfl ?_
  refine gk_X6_8 (pc := 35) dX6_putToken_35 wF_X6_83 (A_23 hw) (u25.f (Or.inl (mAt.ne (A_25 hw) (A_23 hw) rfl)) (u22.f (Or.inl (mAt.ne (A_24 hw) (A_23 hw) rfl)) q2)) ?_
  refine mr_iload_n (pc := 38) (z := p3) dX6_putToken_38 rfl rfl ?_
  refine ss_26 (pc := 39) dX6_putToken_39 (A_26 hw) T26 (rIx (n := 1001) h20 rfl) hp3 fun μ27 u28 T29 => ?_
  refine sv_aload_n (pc := 40) dX6_putToken_40 rfl rfl ?_
  refine sv_dup (pc := 41) dX6_putToken_41 rfl ?_
  refine gk_X6_8 (pc := 42) dX6_putToken_42 wF_X6_83 (A_23 hw) (u28.f (Or.inl (mAt.ne (A_26 hw) (A_23 hw) rfl)) (u25.f (Or.inl (mAt.ne (A_25 hw) (A_23 hw) rfl)) (u22.f (Or.inl (mAt.ne (A_24 hw) (A_23 hw) rfl)) q2))) ?_
  refine mr_iconst (pc := 45) (z := 1) dX6_putToken_45 ?_
  refine mr_iadd (pc := 46) (x := z1) (y := 1) dX6_putToken_46 ?_
  refine pf_X6_8 (pc := 47) dX6_putToken_47 wF_X6_83 (A_23 hw) T29 (rW (c := 0) (d := 1000) (rAdd (e := 1) (f := 1000) h20 (rR (x := 1)) rfl) rfl) fun μ30 u31 T32 => ?_
  exact mr_vret dX6_putToken_50 rfl (le_t rfl) (le_t rfl) T32 (mF.up (mF.up (mF.up (mF.up mF.refl (A_24 hw) u22 rfl) (A_25 hw) u25 rfl) (A_26 hw) u28 rfl) (A_23 hw) u31 rfl) trivial
set_option maxRecDepth 4000 in
set_option maxHeartbeats 4000000 in
theorem c_X6_join {l : Launch} {D : va_G} {c : Nat → ClassId} {H0 : Heap} {sa : Nat × Nat × (Nat → Int32)} {w : mW} {μ : mM} (hw : mWF w) (hT : mT w μ) {p1 : Int} (hp1 : (-9223372036854775808) ≤ p1 ∧ p1 ≤ 9223372036854775807) {p2 : Int} (hp2 : (-9223372036854775808) ≤ p2 ∧ p2 ≤ 9223372036854775807) : sC (gG l D c H0 sa) mX6_join 1 0 0 [.ref 23, jv p1, jv p2] (mk w μ) (qV w [29999] μ (fun μ1 => True)) := by
  refine sC.of rfl (by decide) (le_t rfl) ?_
  refine mr_lvE (lv' := [(0, .ref 23), (1, jv p1), (3, jv p2)]) rfl ?_
  refine mr_iconst (pc := 0) (z := 0) dX6_join_0 ?_
  refine mr_istore (pc := 1) (lv' := [(5, iv 0), (0, .ref 23), (1, jv p1), (3, jv p2)]) dX6_join_1 (by decide) rfl ?_
  have L237 : ∀ (nL237 : Nat) (z235 : Int) (μ236 : mM), mT w μ236 → mF [29999] w μ μ236 → (0 ≤ z235 ∧ z235 ≤ 40) → (41 - z235) < (nL237 : Int) → sV (gG l D c H0 sa) mX6_join (sRm 1 0 0) (sZ (gG l D c H0 sa) 0 0 (qV w [29999] μ (fun μ1 => True))) 3 [(0, .ref 23), (1, jv p1), (3, jv p2), (5, iv z235)] [] (mk w μ236) 0 0 := by
    intro nL237
    induction nL237 with
    | zero => intro z235 μ236 T239 F240 h238 h242; exact ((vc_X12_waysMatch_7 h242 h238)).elim
    | succ nL237 ih243 =>
      intro z235 μ236 T239 F240 h238 h242
      refine mr_iload (pc := 3) (z := z235) dX6_join_3 rfl ?_
      refine sv_aload_n (pc := 5) dX6_join_5 rfl rfl ?_
      refine gf_X6_12 (pc := 6) dX6_join_6 wF_X6_50 (A_23 hw) T239 fun z244 q245 h246 => ?_
      refine mr_icmp_ge (pc := 9) (tgt := 40) dX6_join_9 (by decide) (r32 h238 rfl) (r32 h246 rfl) (fun h268 => ?_) (fun h268 => ?_)
      · exact mr_vret dX6_join_40 rfl (le_t rfl) (le_t rfl) T239 (mF.call mF.refl F240 rfl) trivial
      have h269 : 0 ≤ z235 ∧ z235 ≤ 39 := (vc_X12_waysMatch_15 h268 h238 h246)
      have h270 : 1 ≤ z244 ∧ z244 ≤ 40 := (vc_X12_waysMatch_16 h268 h269 h246)
      refine mr_lload_n (pc := 12) (z := p1) dX6_join_12 rfl rfl ?_
      refine mr_iload (pc := 13) (z := z235) dX6_join_13 rfl ?_
      refine mr_lushr (pc := 15) dX6_join_15 ?_
      refine mr_genL (r64i _) fun z271 q272 h273 => ?_
      refine mr_lconst (pc := 16) (z := 1) dX6_join_16 (by decide) ?_
      refine mr_land (pc := 17) dX6_join_17 ?_
      refine mr_genL (r64i _) fun z274 q275 h276 => ?_
      refine mr_lconst (pc := 18) (z := 0) dX6_join_18 (by decide) ?_
      refine mr_lcmp (pc := 19) dX6_join_19 ?_
      refine mr_gen (P := fun z => (-1) ≤ z ∧ z ≤ 1) (lg_cmp_r _ _) fun z277 q278 h279 => ?_
      refine mr_if_eq (pc := 20) (tgt := 34) dX6_join_20 (by decide) (r32 h279 rfl) (fun h290 => ?_) (fun h290 => ?_)
      · have h291 : 0 ≤ z277 ∧ z277 ≤ 0 := (vc_X12_waysMatch_5 h290 h279)
        refine mr_iinc (pc := 34) (lv' := [(5, iv (z235 + 1)), (0, .ref 23), (1, jv p1), (3, jv p2)]) dX6_join_34 rfl (by decide) rfl ?_
        refine sv_goto (pc := 37) (tgt := 3) dX6_join_37 (by decide) ?_
        refine mr_lvS (lv' := [(0, .ref 23), (1, jv p1), (3, jv p2), (5, iv (z235 + 1))]) (List.forall_mem_cons.mpr ⟨rfl, List.forall_mem_cons.mpr ⟨rfl, List.forall_mem_cons.mpr ⟨rfl, List.forall_mem_cons.mpr ⟨rfl, fun _ h => absurd h List.not_mem_nil⟩⟩⟩⟩) ?_
        exact ih243 (z235 + 1) μ236 T239 (mF.call mF.refl F240 rfl) (rW (c := 0) (d := 40) (rAdd (e := 1) (f := 40) h269 (rR (x := 1)) rfl) rfl) (vc_X12_waysMatch_17 (nS h242) h268 h269 h270)
      refine sv_aload_n (pc := 23) dX6_join_23 rfl rfl ?_
      refine gf_X6_5 (pc := 24) dX6_join_24 wF_X6_27 (A_23 hw) T239 ?_
      refine mr_iload (pc := 27) (z := z235) dX6_join_27 rfl ?_
      refine sv_dup2 (pc := 29) dX6_join_29 rfl rfl ?_
      refine la_29 (pc := 30) dX6_join_30 (A_29 hw) T239 (rIx (n := 40) h269 rfl) fun z292 q293 h294 => ?_
      refine mr_lload_n (pc := 31) (z := p2) dX6_join_31 rfl rfl ?_
      refine mr_lor (pc := 32) dX6_join_32 ?_
      refine mr_genL (r64i _) fun z295 q296 h297 => ?_
      refine ss_29 (pc := 33) dX6_join_33 (A_29 hw) T239 (rIx (n := 40) h269 rfl) h297 fun μ298 u299 T300 => ?_
      refine mr_iinc (pc := 34) (lv' := [(5, iv (z235 + 1)), (0, .ref 23), (1, jv p1), (3, jv p2)]) dX6_join_34 rfl (by decide) rfl ?_
      refine sv_goto (pc := 37) (tgt := 3) dX6_join_37 (by decide) ?_
      refine mr_lvS (lv' := [(0, .ref 23), (1, jv p1), (3, jv p2), (5, iv (z235 + 1))]) (List.forall_mem_cons.mpr ⟨rfl, List.forall_mem_cons.mpr ⟨rfl, List.forall_mem_cons.mpr ⟨rfl, List.forall_mem_cons.mpr ⟨rfl, fun _ h => absurd h List.not_mem_nil⟩⟩⟩⟩) ?_
      exact ih243 (z235 + 1) μ298 T300 (mF.up (mF.call mF.refl F240 rfl) (A_29 hw) u299 rfl) (rW (c := 0) (d := 40) (rAdd (e := 1) (f := 40) h269 (rR (x := 1)) rfl) rfl) (vc_X12_waysMatch_17 (nS h242) h268 h269 h270)
  refine mr_lvS (lv' := [(0, .ref 23), (1, jv p1), (3, jv p2), (5, iv 0)]) (List.forall_mem_cons.mpr ⟨rfl, List.forall_mem_cons.mpr ⟨rfl, List.forall_mem_cons.mpr ⟨rfl, List.forall_mem_cons.mpr ⟨rfl, fun _ h => absurd h List.not_mem_nil⟩⟩⟩⟩) ?_
  exact L237 42 0 μ hT mF.refl (rW (c := 0) (d := 40) (rR (x := 0)) rfl) vc_X12_waysMatch_14
theorem vc_X8_slotOf_1 {p1 p2 p3 p4 : Int} (h0 : 0 ≤ p1 ∧ p1 ≤ 20) (h1 : 0 ≤ p2 ∧ p2 ≤ 1) (h2 : 0 ≤ p3 ∧ p3 ≤ 9) (h3 : 0 ≤ p4 ∧ p4 ≤ 1) : ((((((p1 * 2) + p2) * 10) + p3) * 2) + p4) = 40 * p1 + 20 * p2 + 2 * p3 + p4 := by omega
set_option maxRecDepth 4000 in
set_option maxHeartbeats 4000000 in
theorem c_X8_slotOf {l : Launch} {D : va_G} {c : Nat → ClassId} {H0 : Heap} {sa : Nat × Nat × (Nat → Int32)} {w : mW} {μ : mM} (hw : mWF w) (hT : mT w μ) {p1 : Int} (hp1 : 0 ≤ p1 ∧ p1 ≤ 20) {p2 : Int} (hp2 : 0 ≤ p2 ∧ p2 ≤ 1) {p3 : Int} (hp3 : 0 ≤ p3 ∧ p3 ≤ 9) {p4 : Int} (hp4 : 0 ≤ p4 ∧ p4 ≤ 1) : sC (gG l D c H0 sa) mX8_slotOf 1 0 0 [iv p1, iv p2, iv p3, iv p4] (mk w μ) (qP w μ (fun z => (0 ≤ z ∧ z ≤ 839) ∧ (z = 40 * p1 + 20 * p2 + 2 * p3 + p4) ∧ True)) := by
  refine sC.of rfl (by decide) (le_t rfl) ?_
  refine mr_lvE (lv' := [(0, iv p1), (1, iv p2), (2, iv p3), (3, iv p4)]) rfl ?_
  refine mr_iload_n (pc := 0) (z := p1) dX8_slotOf_0 rfl rfl ?_
  refine mr_iconst (pc := 1) (z := 2) dX8_slotOf_1 ?_
  refine mr_imul (pc := 2) (x := p1) (y := 2) dX8_slotOf_2 ?_
  refine mr_iload_n (pc := 3) (z := p2) dX8_slotOf_3 rfl rfl ?_
  refine mr_iadd (pc := 4) (x := (p1 * 2)) (y := p2) dX8_slotOf_4 ?_
  refine mr_bipush (pc := 5) (z := 10) dX8_slotOf_5 (by decide) ?_
  refine mr_imul (pc := 7) (x := ((p1 * 2) + p2)) (y := 10) dX8_slotOf_7 ?_
  refine mr_iload_n (pc := 8) (z := p3) dX8_slotOf_8 rfl rfl ?_
  refine mr_iadd (pc := 9) (x := (((p1 * 2) + p2) * 10)) (y := p3) dX8_slotOf_9 ?_
  refine mr_iconst (pc := 10) (z := 2) dX8_slotOf_10 ?_
  refine mr_imul (pc := 11) (x := ((((p1 * 2) + p2) * 10) + p3)) (y := 2) dX8_slotOf_11 ?_
  refine mr_iload_n (pc := 12) (z := p4) dX8_slotOf_12 rfl rfl ?_
  refine mr_iadd (pc := 13) (x := (((((p1 * 2) + p2) * 10) + p3) * 2)) (y := p4) dX8_slotOf_13 ?_
  exact mr_iretP dX8_slotOf_14 rfl (le_t rfl) (le_t rfl) ⟨(rAdd (e := 0) (f := 839) (rMulR (n := 2) (e := 0) (f := 838) (rAdd (e := 0) (f := 419) (rMulR (n := 10) (e := 0) (f := 410) (rAdd (e := 0) (f := 41) (rMulR (n := 2) (e := 0) (f := 40) hp1 rfl) hp2 rfl) rfl) hp3 rfl) rfl) hp4 rfl), (vc_X8_slotOf_1 hp1 hp2 hp3 hp4), trivial⟩
theorem vc_X8_schedule_1 {n1 z1 : Int} (h0 : z1 < 800) (h1 : (z1 = 0 ∨ 0 < n1)) (h2 : 0 ≤ z1 ∧ z1 ≤ 800) : 0 ≤ z1 ∧ z1 ≤ 799 := by omega
theorem vc_X8_schedule_2 {n1 z1 z221 : Int} (h0 : (z221 - (-1)) < ((0 : Nat) : Int)) (h1 : z221 ≤ z1) (h2 : (z1 = 0 ∨ 0 < n1)) (h3 : z1 < 800) (h4 : 0 ≤ z1 ∧ z1 ≤ 799) (h5 : 0 ≤ z221 ∧ z221 ≤ 799) : False := by omega
theorem vc_X8_schedule_3 {n1 z1 z221 : Int} (h0 : z221 ≤ z1) (h1 : (z1 = 0 ∨ 0 < n1)) (h2 : z1 < 800) (h3 : 0 ≤ z1 ∧ z1 ≤ 799) (h4 : 0 ≤ z221 ∧ z221 ≤ 799) : 0 ≤ z221 := by omega
theorem vc_X8_schedule_4 {n1 z1 z221 : Int} (h0 : z221 ≤ z1) (h1 : (z1 = 0 ∨ 0 < n1)) (h2 : z1 < 800) (h3 : 0 ≤ z1 ∧ z1 ≤ 799) (h4 : 0 ≤ z221 ∧ z221 ≤ 799) : 0 ≤ (z221 + 1) := by omega
theorem vc_X8_schedule_5 {n1 p1 z1 z221 : Int} (h0 : (z1 = 0 ∨ 0 < n1)) (h1 : z1 < 800) (h2 : z221 ≤ z1) (h3 : p1 < 40 * n1) (h4 : 0 ≤ p1 ∧ p1 ≤ 799) (h5 : 0 ≤ z1 ∧ z1 ≤ 799) (h6 : 0 ≤ z221 ∧ z221 ≤ 799) : 0 ≤ (z1 - z221) := by omega
theorem vc_X8_schedule_6 {n1 p1 z1 z221 : Int} (h0 : (z1 = 0 ∨ 0 < n1)) (h1 : z1 < 800) (h2 : z221 ≤ z1) (h3 : p1 < 40 * n1) (h4 : 0 ≤ p1 ∧ p1 ≤ 799) (h5 : 0 ≤ z1 ∧ z1 ≤ 799) (h6 : 0 ≤ z221 ∧ z221 ≤ 799) : z221 + (z1 - z221) ≤ ((800 : Nat) : Int) := by omega
theorem vc_X8_schedule_7 {n1 p1 z1 z221 : Int} (h0 : (z1 = 0 ∨ 0 < n1)) (h1 : z1 < 800) (h2 : z221 ≤ z1) (h3 : p1 < 40 * n1) (h4 : 0 ≤ p1 ∧ p1 ≤ 799) (h5 : 0 ≤ z1 ∧ z1 ≤ 799) (h6 : 0 ≤ z221 ∧ z221 ≤ 799) : (z221 + 1) + (z1 - z221) ≤ ((800 : Nat) : Int) := by omega
theorem vc_X8_schedule_8 {n1 p1 z1 z221 : Int} (h0 : (z1 = 0 ∨ 0 < n1)) (h1 : p1 < 40 * n1) (h2 : z1 < 800) (h3 : z221 ≤ z1) (h4 : 0 ≤ p1 ∧ p1 ≤ 799) (h5 : 0 ≤ z1 ∧ z1 ≤ 799) (h6 : 0 ≤ z221 ∧ z221 ≤ 799) : 0 ≤ p1 ∧ p1 ≤ 799 ∧ (p1 = 0 ∨ p1 < 40 * n1) := by omega
theorem vc_X8_schedule_9 {n1 p1 z1 z221 : Int} (h0 : (z1 = 0 ∨ 0 < n1)) (h1 : p1 < 40 * n1) (h2 : z1 < 800) (h3 : z221 ≤ z1) (h4 : 0 ≤ p1 ∧ p1 ≤ 799) (h5 : 0 ≤ z1 ∧ z1 ≤ 799) (h6 : 0 ≤ z221 ∧ z221 ≤ 799) : 0 ≤ (z1 + 1) ∧ (z1 + 1) ≤ 800 ∧ ((z1 + 1) = 0 ∨ 0 < n1) := by omega
theorem vc_X8_schedule_10 {z1 z221 : Int} (h0 : z221 ≤ 0) (h1 : z221 ≤ z1) (h2 : 0 ≤ z1 ∧ z1 ≤ 799) (h3 : 0 ≤ z221 ∧ z221 ≤ 799) : 0 ≤ z221 ∧ z221 ≤ 0 := by omega
theorem vc_X8_schedule_11 {z1 z221 : Int} (h0 : 0 < z221) (h1 : z221 ≤ z1) (h2 : 0 ≤ z1 ∧ z1 ≤ 799) (h3 : 0 ≤ z221 ∧ z221 ≤ 799) : 1 ≤ z221 ∧ z221 ≤ 799 := by omega
theorem vc_X8_schedule_12 {p2 z262 : Int} (h0 : p2 < z262) (h1 : (-1) ≤ p2 ∧ p2 ≤ 2000001000) (h2 : (-1) ≤ z262 ∧ z262 ≤ 2000001000) : 0 ≤ z262 ∧ z262 ≤ 2000001000 := by omega
theorem vc_X8_schedule_13 {p2 z262 : Int} (h0 : p2 < z262) (h1 : (-1) ≤ p2 ∧ p2 ≤ 2000001000) (h2 : 0 ≤ z262 ∧ z262 ≤ 2000001000) : (-1) ≤ p2 ∧ p2 ≤ 2000000999 := by omega
theorem vc_X8_schedule_14 {n1 p1 z1 z221 z258 : Int} (h0 : (z1 = 0 ∨ 0 < n1)) (h1 : z1 < 800) (h2 : z221 ≤ z1) (h3 : 0 < z221) (h4 : p1 < 40 * n1) (h5 : (z258 = 0 ∨ z258 < 40 * n1)) (h6 : 0 ≤ p1 ∧ p1 ≤ 799) (h7 : 0 ≤ z1 ∧ z1 ≤ 799) (h8 : 1 ≤ z221 ∧ z221 ≤ 799) (h9 : 0 ≤ z258 ∧ z258 ≤ 799) : (z221 + (-1)) ≤ z1 := by omega
theorem vc_X8_schedule_15 {N n1 z1 z221 : Int} (h0 : (z221 - (-1)) < N + 1) (h1 : z221 ≤ z1) (h2 : 0 < z221) (h3 : (z1 = 0 ∨ 0 < n1)) (h4 : z1 < 800) (h5 : 0 ≤ z1 ∧ z1 ≤ 799) (h6 : 1 ≤ z221 ∧ z221 ≤ 799) : ((z221 + (-1)) - (-1)) < N := by omega
theorem vc_X8_schedule_16 {n1 p1 z1 : Int} (h0 : (z1 = 0 ∨ 0 < n1)) (h1 : z1 < 800) (h2 : p1 < 40 * n1) (h3 : 0 ≤ p1 ∧ p1 ≤ 799) (h4 : 0 ≤ z1 ∧ z1 ≤ 799) : z1 ≤ z1 := by omega
theorem vc_X8_schedule_17 {n1 p1 z1 : Int} (h0 : (z1 = 0 ∨ 0 < n1)) (h1 : z1 < 800) (h2 : p1 < 40 * n1) (h3 : 0 ≤ p1 ∧ p1 ≤ 799) (h4 : 0 ≤ z1 ∧ z1 ≤ 799) : (z1 - (-1)) < ((801 : Nat) : Int) := by omega
theorem vc_X8_schedule_18 {n1 z1 : Int} (h0 : 800 ≤ z1) (h1 : (z1 = 0 ∨ 0 < n1)) (h2 : 0 ≤ z1 ∧ z1 ≤ 800) : 800 ≤ z1 ∧ z1 ≤ 800 := by omega
set_option maxRecDepth 4000 in
set_option maxHeartbeats 4000000 in
theorem c_X8_schedule {l : Launch} {D : va_G} {c : Nat → ClassId} {H0 : Heap} {sa : Nat × Nat × (Nat → Int32)} {w : mW} {μ : mM} (hw : mWF w) (hT : mT w μ) {p1 : Int} (hp1 : 0 ≤ p1 ∧ p1 ≤ 799) {p2 : Int} (hp2 : (-1) ≤ p2 ∧ p2 ≤ 2000001000) (hq0 : p1 < 40 * w.2.2.2 1) : sC (gG l D c H0 sa) mX8_schedule 3 0 0 [.ref 32, iv p1, iv p2] (mk w μ) (qV w [32010, 33999, 34999] μ (fun μ1 => True)) := by
  refine sC.of rfl (by decide) (le_t rfl) ?_
  obtain ⟨z1, q2⟩ : ∃ z, μ 32 10 = z := ⟨_, rfl⟩
  have h3 : (0 ≤ z1 ∧ z1 ≤ 800 ∧ (z1 = 0 ∨ 0 < w.2.2.2 1)) := by rw [← q2]; exact hT 32 32 (A_32 hw) 10
  have h4 : 0 ≤ z1 ∧ z1 ≤ 800 := ⟨h3.1, h3.2.1⟩
  refine mr_lvE (lv' := [(0, .ref 32), (1, iv p1), (2, iv p2)]) rfl ?_
  refine sv_aload_n (pc := 0) dX8_schedule_0 rfl rfl ?_
  refine gk_X8_10 (pc := 1) dX8_schedule_1 wF_X8_52 (A_32 hw) q2 ?_
  refine mr_sipush (pc := 4) (z := 800) dX8_schedule_4 (by decide) ?_
  refine mr_icmp_lt (pc := 7) (tgt := 11) dX8_schedule_7 (by decide) (r32 h4 rfl) (r32 (rR (x := 800)) rfl) (fun h167 => ?_) (fun h167 => ?_)
  · have h168 : 0 ≤ z1 ∧ z1 ≤ 799 := (vc_X8_schedule_1 h167 h3.2.2 h4)
    refine sv_aload_n (pc := 11) dX8_schedule_11 rfl rfl ?_
    refine gk_X8_10 (pc := 12) dX8_schedule_12 wF_X8_52 (A_32 hw) q2 ?_
    refine mr_istore_n (pc := 15) (lv' := [(3, iv z1), (0, .ref 32), (1, iv p1), (2, iv p2)]) dX8_schedule_15 rfl (by decide) rfl ?_
    have L222 : ∀ (nL222 : Nat) (z221 : Int), True → (0 ≤ z221 ∧ z221 ≤ 799) → (z221 ≤ z1) → (z221 - (-1)) < (nL222 : Int) → sV (gG l D c H0 sa) mX8_schedule (sRm 3 0 0) (sZ (gG l D c H0 sa) 0 0 (qV w [32010, 33999, 34999] μ (fun μ1 => True))) 16 [(0, .ref 32), (1, iv p1), (2, iv p2), (3, iv z221)] [] (mk w μ) 0 0 := by
      intro nL222
      induction nL222 with
      | zero => intro z221 _ h223 h227 h228; exact ((vc_X8_schedule_2 h228 h227 h3.2.2 h167 h168 h223)).elim
      | succ nL222 ih229 =>
        intro z221 _ h223 h227 h228
        refine mr_iload_n (pc := 16) (z := z221) dX8_schedule_16 rfl rfl ?_
        have J241 : sV (gG l D c H0 sa) mX8_schedule (sRm 3 0 0) (sZ (gG l D c H0 sa) 0 0 (qV w [32010, 33999, 34999] μ (fun μ1 => True))) 43 [(0, .ref 32), (1, iv p1), (2, iv p2), (3, iv z221)] [] (mk w μ) 0 0 := by
          refine sv_aload_n (pc := 43) dX8_schedule_43 rfl rfl ?_
          refine gf_X8_2 (pc := 44) dX8_schedule_44 wF_X8_19 (A_32 hw) hT ?_
          refine mr_iload_n (pc := 47) (z := z221) dX8_schedule_47 rfl rfl ?_
          refine sv_aload_n (pc := 48) dX8_schedule_48 rfl rfl ?_
          refine gf_X8_2 (pc := 49) dX8_schedule_49 wF_X8_19 (A_32 hw) hT ?_
          refine mr_iload_n (pc := 52) (z := z221) dX8_schedule_52 rfl rfl ?_
          refine mr_iconst (pc := 53) (z := 1) dX8_schedule_53 ?_
          refine mr_iadd (pc := 54) (x := z221) (y := 1) dX8_schedule_54 ?_
          refine sv_aload_n (pc := 55) dX8_schedule_55 rfl rfl ?_
          refine gk_X8_10 (pc := 56) dX8_schedule_56 wF_X8_52 (A_32 hw) q2 ?_
          refine mr_iload_n (pc := 59) (z := z221) dX8_schedule_59 rfl rfl ?_
          refine mr_isub (pc := 60) (x := z1) (y := z221) dX8_schedule_60 ?_
          refine mr_ac (pc := 61) (sp := z221) (dp := (z221 + 1)) (n := (z1 - z221)) dX8_schedule_61 wM_X8_56 wN_J_ac wS_J_ac wI_J_sys rfl (A_33 hw) rfl (A_33 hw) rfl (vc_X8_schedule_3 h227 h3.2.2 h167 h168 h223) (vc_X8_schedule_4 h227 h3.2.2 h167 h168 h223) (vc_X8_schedule_5 h3.2.2 h167 h227 hq0 hp1 h168 h223) (by have h := (A_33 hw).2.2.2 rfl; rw [h]; exact (vc_X8_schedule_6 h3.2.2 h167 h227 hq0 hp1 h168 h223)) (by have h := (A_33 hw).2.2.2 rfl; rw [h]; exact (vc_X8_schedule_7 h3.2.2 h167 h227 hq0 hp1 h168 h223)) (Nat.le_trans (A_33 hw).2.2.1 (le_t rfl)) (Nat.le_trans (A_33 hw).2.2.1 (le_t rfl)) (le_t rfl) (le_t rfl) (le_t rfl) hT (fun i j _ _ => (show (0 ≤ (μ 33 i) ∧ (μ 33 i) ≤ 799 ∧ ((μ 33 i) = 0 ∨ (μ 33 i) < 40 * w.2.2.2 1)) from hT _ _ (A_33 hw) i)) fun μ242 q243 T244 => ?_
          have F245 : mF [33999] w μ μ242 := mF.cell q243.1 (A_33 hw) rfl
          refine sv_aload_n (pc := 64) dX8_schedule_64 rfl rfl ?_
          refine gf_X8_2 (pc := 65) dX8_schedule_65 wF_X8_19 (A_32 hw) T244 ?_
          refine mr_iload_n (pc := 68) (z := z221) dX8_schedule_68 rfl rfl ?_
          refine mr_iload_n (pc := 69) (z := p1) dX8_schedule_69 rfl rfl ?_
          refine ss_33 (pc := 70) dX8_schedule_70 (A_33 hw) T244 (rIx (n := 800) h223 rfl) (vc_X8_schedule_8 h3.2.2 hq0 h167 h227 hp1 h168 h223) fun μ246 u247 T248 => ?_
          refine sv_aload_n (pc := 71) dX8_schedule_71 rfl rfl ?_
          refine gf_X8_3 (pc := 72) dX8_schedule_72 wF_X8_23 (A_32 hw) T248 ?_
          refine mr_iload_n (pc := 75) (z := p1) dX8_schedule_75 rfl rfl ?_
          refine mr_iload_n (pc := 76) (z := p2) dX8_schedule_76 rfl rfl ?_
          refine ss_34 (pc := 77) dX8_schedule_77 (A_34 hw) T248 (rIx (n := 800) hp1 rfl) hp2 fun μ249 u250 T251 => ?_
          refine sv_aload_n (pc := 78) dX8_schedule_78 rfl rfl ?_
          refine sv_dup (pc := 79) dX8_schedule_79 rfl ?_
          refine gk_X8_10 (pc := 80) dX8_schedule_80 wF_X8_52 (A_32 hw) (u250.f (Or.inl (mAt.ne (A_34 hw) (A_32 hw) rfl)) (u247.f (Or.inl (mAt.ne (A_33 hw) (A_32 hw) rfl)) (F245.f (A_32 hw) rfl q2))) ?_
          refine mr_iconst (pc := 83) (z := 1) dX8_schedule_83 ?_
          refine mr_iadd (pc := 84) (x := z1) (y := 1) dX8_schedule_84 ?_
          refine pf_X8_10 (pc := 85) dX8_schedule_85 wF_X8_52 (A_32 hw) T251 (vc_X8_schedule_9 h3.2.2 hq0 h167 h227 hp1 h168 h223) fun μ252 u253 T254 => ?_
          exact mr_vret dX8_schedule_88 rfl (le_t rfl) (le_t rfl) T254 (mF.up (mF.up (mF.up (mF.call mF.refl F245 rfl) (A_33 hw) u247 rfl) (A_34 hw) u250 rfl) (A_32 hw) u253 rfl) trivial
        refine mr_if_le (pc := 17) (tgt := 43) dX8_schedule_17 (by decide) (r32 h223 rfl) (fun h255 => ?_) (fun h255 => ?_)
        · have h256 : 0 ≤ z221 ∧ z221 ≤ 0 := (vc_X8_schedule_10 h255 h227 h168 h223)
          exact J241 
        have h257 : 1 ≤ z221 ∧ z221 ≤ 799 := (vc_X8_schedule_11 h255 h227 h168 h223)
        refine sv_aload_n (pc := 20) dX8_schedule_20 rfl rfl ?_
        refine gf_X8_3 (pc := 21) dX8_schedule_21 wF_X8_23 (A_32 hw) hT ?_
        refine sv_aload_n (pc := 24) dX8_schedule_24 rfl rfl ?_
        refine gf_X8_2 (pc := 25) dX8_schedule_25 wF_X8_19 (A_32 hw) hT ?_
        refine mr_iload_n (pc := 28) (z := z221) dX8_schedule_28 rfl rfl ?_
        refine mr_iconst (pc := 29) (z := 1) dX8_schedule_29 ?_
        refine mr_isub (pc := 30) (x := z221) (y := 1) dX8_schedule_30 ?_
        refine la_33 (pc := 31) dX8_schedule_31 (A_33 hw) hT (rIx (n := 800) (rSub (e := 0) (f := 798) h257 (rR (x := 1)) rfl) rfl) fun z258 q259 h260 => ?_
        have h261 : 0 ≤ z258 ∧ z258 ≤ 799 := ⟨h260.1, h260.2.1⟩
        refine la_34 (pc := 32) dX8_schedule_32 (A_34 hw) hT (rIx (n := 800) h261 rfl) fun z262 q263 h264 => ?_
        refine mr_iload_n (pc := 33) (z := p2) dX8_schedule_33 rfl rfl ?_
        refine mr_icmp_le (pc := 34) (tgt := 43) dX8_schedule_34 (by decide) (r32 h264 rfl) (r32 hp2 rfl) (fun h265 => ?_) (fun h265 => ?_)
        · exact J241 
        have h266 : 0 ≤ z262 ∧ z262 ≤ 2000001000 := (vc_X8_schedule_12 h265 hp2 h264)
        have h267 : (-1) ≤ p2 ∧ p2 ≤ 2000000999 := (vc_X8_schedule_13 h265 hp2 h266)
        refine mr_iinc (pc := 37) (lv' := [(3, iv (z221 + (-1))), (0, .ref 32), (1, iv p1), (2, iv p2)]) dX8_schedule_37 rfl (by decide) rfl ?_
        refine sv_goto (pc := 40) (tgt := 16) dX8_schedule_40 (by decide) ?_
        refine mr_lvS (lv' := [(0, .ref 32), (1, iv p1), (2, iv p2), (3, iv (z221 + (-1)))]) (List.forall_mem_cons.mpr ⟨rfl, List.forall_mem_cons.mpr ⟨rfl, List.forall_mem_cons.mpr ⟨rfl, List.forall_mem_cons.mpr ⟨rfl, fun _ h => absurd h List.not_mem_nil⟩⟩⟩⟩) ?_
        exact ih229 (z221 + (-1)) trivial (rW (c := 0) (d := 799) (rAdd (e := 0) (f := 798) h257 (rR (x := (-1))) rfl) rfl) (vc_X8_schedule_14 h3.2.2 h167 h227 h255 hq0 h260.2.2 hp1 h168 h257 h261) (vc_X8_schedule_15 (nS h228) h227 h255 h3.2.2 h167 h168 h257)
    refine mr_lvS (lv' := [(0, .ref 32), (1, iv p1), (2, iv p2), (3, iv z1)]) (List.forall_mem_cons.mpr ⟨rfl, List.forall_mem_cons.mpr ⟨rfl, List.forall_mem_cons.mpr ⟨rfl, List.forall_mem_cons.mpr ⟨rfl, fun _ h => absurd h List.not_mem_nil⟩⟩⟩⟩) ?_
    exact L222 801 z1 trivial h168 (vc_X8_schedule_16 h3.2.2 h167 hq0 hp1 h168) (vc_X8_schedule_17 h3.2.2 h167 hq0 hp1 h168)
  have h268 : 800 ≤ z1 ∧ z1 ≤ 800 := (vc_X8_schedule_18 h167 h3.2.2 h4)
  exact mr_vret dX8_schedule_10 rfl (le_t rfl) (le_t rfl) hT mF.refl trivial
theorem vc_X8_cancel_1 {z1 : Int} (h0 : ¬ z1 = (-1)) (h1 : (-1) ≤ z1 ∧ z1 ≤ 2000001000) : 0 ≤ z1 ∧ z1 ≤ 2000001000 := by omega
theorem vc_X8_cancel_2 {z249 : Int} (h0 : (801 - z249) < ((0 : Nat) : Int)) (h1 : 0 ≤ z249 ∧ z249 ≤ 800) : False := by omega
theorem vc_X8_cancel_3 {n1 z249 z257 : Int} (h0 : z249 < z257) (h1 : (z257 = 0 ∨ 0 < n1)) (h2 : 0 ≤ z249 ∧ z249 ≤ 800) (h3 : 0 ≤ z257 ∧ z257 ≤ 800) : 0 ≤ z249 ∧ z249 ≤ 799 := by omega
theorem vc_X8_cancel_4 {n1 z249 z257 : Int} (h0 : z249 < z257) (h1 : (z257 = 0 ∨ 0 < n1)) (h2 : 0 ≤ z249 ∧ z249 ≤ 799) (h3 : 0 ≤ z257 ∧ z257 ≤ 800) : 1 ≤ z257 ∧ z257 ≤ 800 := by omega
theorem vc_X8_cancel_5 {n1 z249 z257 : Int} (h0 : (z257 = 0 ∨ 0 < n1)) (h1 : z249 < z257) (h2 : 0 ≤ z249 ∧ z249 ≤ 799) (h3 : 1 ≤ z257 ∧ z257 ≤ 800) : 0 ≤ (z257 - 1) ∧ (z257 - 1) ≤ 800 ∧ ((z257 - 1) = 0 ∨ 0 < n1) := by omega
theorem vc_X8_cancel_6 {n1 z249 z257 : Int} (h0 : z249 < z257) (h1 : (z257 = 0 ∨ 0 < n1)) (h2 : 0 ≤ z249 ∧ z249 ≤ 799) (h3 : 1 ≤ z257 ∧ z257 ≤ 800) : 0 ≤ (z249 + 1) := by omega
theorem vc_X8_cancel_7 {n1 z249 z257 : Int} (h0 : z249 < z257) (h1 : (z257 = 0 ∨ 0 < n1)) (h2 : 0 ≤ z249 ∧ z249 ≤ 799) (h3 : 1 ≤ z257 ∧ z257 ≤ 800) : 0 ≤ z249 := by omega
theorem vc_X8_cancel_8 {n1 z249 z257 : Int} (h0 : (z257 = 0 ∨ 0 < n1)) (h1 : z249 < z257) (h2 : 0 ≤ z249 ∧ z249 ≤ 799) (h3 : 1 ≤ z257 ∧ z257 ≤ 800) : 0 ≤ ((z257 - 1) - z249) := by omega
theorem vc_X8_cancel_9 {n1 z249 z257 : Int} (h0 : (z257 = 0 ∨ 0 < n1)) (h1 : z249 < z257) (h2 : 0 ≤ z249 ∧ z249 ≤ 799) (h3 : 1 ≤ z257 ∧ z257 ≤ 800) : (z249 + 1) + ((z257 - 1) - z249) ≤ ((800 : Nat) : Int) := by omega
theorem vc_X8_cancel_10 {n1 z249 z257 : Int} (h0 : (z257 = 0 ∨ 0 < n1)) (h1 : z249 < z257) (h2 : 0 ≤ z249 ∧ z249 ≤ 799) (h3 : 1 ≤ z257 ∧ z257 ≤ 800) : z249 + ((z257 - 1) - z249) ≤ ((800 : Nat) : Int) := by omega
theorem vc_X8_cancel_11 {N n1 z249 z257 : Int} (h0 : (801 - z249) < N + 1) (h1 : z249 < z257) (h2 : (z257 = 0 ∨ 0 < n1)) (h3 : 0 ≤ z249 ∧ z249 ≤ 799) (h4 : 1 ≤ z257 ∧ z257 ≤ 800) : (801 - (z249 + 1)) < N := by omega
theorem vc_X8_cancel_12  : (801 - 0) < ((802 : Nat) : Int) := by omega
theorem vc_X8_cancel_13 {z1 : Int} (h0 : z1 = (-1)) (h1 : (-1) ≤ z1 ∧ z1 ≤ 2000001000) : (-1) ≤ z1 ∧ z1 ≤ (-1) := by omega
set_option maxRecDepth 4000 in
set_option maxHeartbeats 4000000 in
theorem c_X8_cancel {l : Launch} {D : va_G} {c : Nat → ClassId} {H0 : Heap} {sa : Nat × Nat × (Nat → Int32)} {w : mW} {μ : mM} (hw : mWF w) (hT : mT w μ) {p1 : Int} (hp1 : 0 ≤ p1 ∧ p1 ≤ 799) : sC (gG l D c H0 sa) mX8_cancel 3 0 0 [.ref 32, iv p1] (mk w μ) (qV w [32010, 33999, 34999] μ (fun μ1 => True)) := by
  refine sC.of rfl (by decide) (le_t rfl) ?_
  refine mr_lvE (lv' := [(0, .ref 32), (1, iv p1)]) rfl ?_
  refine sv_aload_n (pc := 0) dX8_cancel_0 rfl rfl ?_
  refine gf_X8_3 (pc := 1) dX8_cancel_1 wF_X8_23 (A_32 hw) hT ?_
  refine mr_iload_n (pc := 4) (z := p1) dX8_cancel_4 rfl rfl ?_
  refine la_34 (pc := 5) dX8_cancel_5 (A_34 hw) hT (rIx (n := 800) hp1 rfl) fun z1 q2 h3 => ?_
  refine mr_iconst (pc := 6) (z := (-1)) dX8_cancel_6 ?_
  refine mr_icmp_ne (pc := 7) (tgt := 11) dX8_cancel_7 (by decide) (r32 h3 rfl) (r32 (rR (x := (-1))) rfl) (fun h4 => ?_) (fun h4 => ?_)
  · have h5 : 0 ≤ z1 ∧ z1 ≤ 2000001000 := (vc_X8_cancel_1 h4 h3)
    refine sv_aload_n (pc := 11) dX8_cancel_11 rfl rfl ?_
    refine gf_X8_3 (pc := 12) dX8_cancel_12 wF_X8_23 (A_32 hw) hT ?_
    refine mr_iload_n (pc := 15) (z := p1) dX8_cancel_15 rfl rfl ?_
    refine mr_iconst (pc := 16) (z := (-1)) dX8_cancel_16 ?_
    refine ss_34 (pc := 17) dX8_cancel_17 (A_34 hw) hT (rIx (n := 800) hp1 rfl) (rW (c := (-1)) (d := 2000001000) (rR (x := (-1))) rfl) fun μ6 u7 T8 => ?_
    refine mr_iconst (pc := 18) (z := 0) dX8_cancel_18 ?_
    refine mr_istore_n (pc := 19) (lv' := [(2, iv 0), (0, .ref 32), (1, iv p1)]) dX8_cancel_19 rfl (by decide) rfl ?_
    have L250 : ∀ (nL250 : Nat) (z249 : Int), True → (0 ≤ z249 ∧ z249 ≤ 800) → (801 - z249) < (nL250 : Int) → sV (gG l D c H0 sa) mX8_cancel (sRm 3 0 0) (sZ (gG l D c H0 sa) 0 0 (qV w [32010, 33999, 34999] μ (fun μ1 => True))) 20 [(0, .ref 32), (1, iv p1), (2, iv z249)] [] (mk w μ6) 0 0 := by
      intro nL250
      induction nL250 with
      | zero => intro z249 _ h251 h255; exact ((vc_X8_cancel_2 h255 h251)).elim
      | succ nL250 ih256 =>
        intro z249 _ h251 h255
        refine mr_iload_n (pc := 20) (z := z249) dX8_cancel_20 rfl rfl ?_
        refine sv_aload_n (pc := 21) dX8_cancel_21 rfl rfl ?_
        refine gf_X8_10 (pc := 22) dX8_cancel_22 wF_X8_52 (A_32 hw) T8 fun z257 q258 h259 => ?_
        have h260 : 0 ≤ z257 ∧ z257 ≤ 800 := ⟨h259.1, h259.2.1⟩
        have J267 : sV (gG l D c H0 sa) mX8_cancel (sRm 3 0 0) (sZ (gG l D c H0 sa) 0 0 (qV w [32010, 33999, 34999] μ (fun μ1 => True))) 44 [(0, .ref 32), (2, iv z249)] [] (mk w μ6) 0 0 := by
          refine mr_iload_n (pc := 44) (z := z249) dX8_cancel_44 rfl rfl ?_
          refine sv_aload_n (pc := 45) dX8_cancel_45 rfl rfl ?_
          refine gk_X8_10 (pc := 46) dX8_cancel_46 wF_X8_52 (A_32 hw) q258 ?_
          refine mr_icmp_ge (pc := 49) (tgt := 83) dX8_cancel_49 (by decide) (r32 h251 rfl) (r32 h260 rfl) (fun h277 => ?_) (fun h277 => ?_)
          · exact mr_vret dX8_cancel_83 rfl (le_t rfl) (le_t rfl) T8 (mF.up mF.refl (A_34 hw) u7 rfl) trivial
          have h278 : 0 ≤ z249 ∧ z249 ≤ 799 := (vc_X8_cancel_3 h277 h259.2.2 h251 h260)
          have h279 : 1 ≤ z257 ∧ z257 ≤ 800 := (vc_X8_cancel_4 h277 h259.2.2 h278 h260)
          refine sv_aload_n (pc := 52) dX8_cancel_52 rfl rfl ?_
          refine sv_dup (pc := 53) dX8_cancel_53 rfl ?_
          refine gk_X8_10 (pc := 54) dX8_cancel_54 wF_X8_52 (A_32 hw) q258 ?_
          refine mr_iconst (pc := 57) (z := 1) dX8_cancel_57 ?_
          refine mr_isub (pc := 58) (x := z257) (y := 1) dX8_cancel_58 ?_
          refine pf_X8_10 (pc := 59) dX8_cancel_59 wF_X8_52 (A_32 hw) T8 (vc_X8_cancel_5 h259.2.2 h277 h278 h279) fun μ280 u281 T282 => ?_
          refine sv_aload_n (pc := 62) dX8_cancel_62 rfl rfl ?_
          refine gf_X8_2 (pc := 63) dX8_cancel_63 wF_X8_19 (A_32 hw) T282 ?_
          refine mr_iload_n (pc := 66) (z := z249) dX8_cancel_66 rfl rfl ?_
          refine mr_iconst (pc := 67) (z := 1) dX8_cancel_67 ?_
          refine mr_iadd (pc := 68) (x := z249) (y := 1) dX8_cancel_68 ?_
          refine sv_aload_n (pc := 69) dX8_cancel_69 rfl rfl ?_
          refine gf_X8_2 (pc := 70) dX8_cancel_70 wF_X8_19 (A_32 hw) T282 ?_
          refine mr_iload_n (pc := 73) (z := z249) dX8_cancel_73 rfl rfl ?_
          refine sv_aload_n (pc := 74) dX8_cancel_74 rfl rfl ?_
          refine gk_X8_10 (pc := 75) dX8_cancel_75 wF_X8_52 (A_32 hw) u281.1 ?_
          refine mr_iload_n (pc := 78) (z := z249) dX8_cancel_78 rfl rfl ?_
          refine mr_isub (pc := 79) (x := (z257 - 1)) (y := z249) dX8_cancel_79 ?_
          refine mr_ac (pc := 80) (sp := (z249 + 1)) (dp := z249) (n := ((z257 - 1) - z249)) dX8_cancel_80 wM_X8_56 wN_J_ac wS_J_ac wI_J_sys rfl (A_33 hw) rfl (A_33 hw) rfl (vc_X8_cancel_6 h277 h259.2.2 h278 h279) (vc_X8_cancel_7 h277 h259.2.2 h278 h279) (vc_X8_cancel_8 h259.2.2 h277 h278 h279) (by have h := (A_33 hw).2.2.2 rfl; rw [h]; exact (vc_X8_cancel_9 h259.2.2 h277 h278 h279)) (by have h := (A_33 hw).2.2.2 rfl; rw [h]; exact (vc_X8_cancel_10 h259.2.2 h277 h278 h279)) (Nat.le_trans (A_33 hw).2.2.1 (le_t rfl)) (Nat.le_trans (A_33 hw).2.2.1 (le_t rfl)) (le_t rfl) (le_t rfl) (le_t rfl) T282 (fun i j _ _ => (show (0 ≤ (μ280 33 i) ∧ (μ280 33 i) ≤ 799 ∧ ((μ280 33 i) = 0 ∨ (μ280 33 i) < 40 * w.2.2.2 1)) from T282 _ _ (A_33 hw) i)) fun μ283 q284 T285 => ?_
          have F286 : mF [33999] w μ280 μ283 := mF.cell q284.1 (A_33 hw) rfl
          exact mr_vret dX8_cancel_83 rfl (le_t rfl) (le_t rfl) T285 (mF.call (mF.up (mF.up mF.refl (A_34 hw) u7 rfl) (A_32 hw) u281 rfl) F286 rfl) trivial
        refine mr_icmp_ge (pc := 25) (tgt := 44) dX8_cancel_25 (by decide) (r32 h251 rfl) (r32 h260 rfl) (fun h287 => ?_) (fun h287 => ?_)
        · refine mr_lvS (lv' := [(0, .ref 32), (2, iv z249)]) (List.forall_mem_cons.mpr ⟨rfl, List.forall_mem_cons.mpr ⟨rfl, fun _ h => absurd h List.not_mem_nil⟩⟩) ?_
          exact J267 
        have h288 : 0 ≤ z249 ∧ z249 ≤ 799 := (vc_X8_cancel_3 h287 h259.2.2 h251 h260)
        have h289 : 1 ≤ z257 ∧ z257 ≤ 800 := (vc_X8_cancel_4 h287 h259.2.2 h288 h260)
        refine sv_aload_n (pc := 28) dX8_cancel_28 rfl rfl ?_
        refine gf_X8_2 (pc := 29) dX8_cancel_29 wF_X8_19 (A_32 hw) T8 ?_
        refine mr_iload_n (pc := 32) (z := z249) dX8_cancel_32 rfl rfl ?_
        refine la_33 (pc := 33) dX8_cancel_33 (A_33 hw) T8 (rIx (n := 800) h288 rfl) fun z290 q291 h292 => ?_
        have h293 : 0 ≤ z290 ∧ z290 ≤ 799 := ⟨h292.1, h292.2.1⟩
        refine mr_iload_n (pc := 34) (z := p1) dX8_cancel_34 rfl rfl ?_
        refine mr_icmp_eq (pc := 35) (tgt := 44) dX8_cancel_35 (by decide) (r32 h293 rfl) (r32 hp1 rfl) (fun h294 => ?_) (fun h294 => ?_)
        · refine mr_lvS (lv' := [(0, .ref 32), (2, iv z249)]) (List.forall_mem_cons.mpr ⟨rfl, List.forall_mem_cons.mpr ⟨rfl, fun _ h => absurd h List.not_mem_nil⟩⟩) ?_
          exact J267 
        refine mr_iinc (pc := 38) (lv' := [(2, iv (z249 + 1)), (0, .ref 32), (1, iv p1)]) dX8_cancel_38 rfl (by decide) rfl ?_
        refine sv_goto (pc := 41) (tgt := 20) dX8_cancel_41 (by decide) ?_
        refine mr_lvS (lv' := [(0, .ref 32), (1, iv p1), (2, iv (z249 + 1))]) (List.forall_mem_cons.mpr ⟨rfl, List.forall_mem_cons.mpr ⟨rfl, List.forall_mem_cons.mpr ⟨rfl, fun _ h => absurd h List.not_mem_nil⟩⟩⟩) ?_
        exact ih256 (z249 + 1) trivial (rW (c := 0) (d := 800) (rAdd (e := 1) (f := 800) h288 (rR (x := 1)) rfl) rfl) (vc_X8_cancel_11 (nS h255) h287 h259.2.2 h288 h289)
    refine mr_lvS (lv' := [(0, .ref 32), (1, iv p1), (2, iv 0)]) (List.forall_mem_cons.mpr ⟨rfl, List.forall_mem_cons.mpr ⟨rfl, List.forall_mem_cons.mpr ⟨rfl, fun _ h => absurd h List.not_mem_nil⟩⟩⟩) ?_
    exact L250 802 0 trivial (rW (c := 0) (d := 800) (rR (x := 0)) rfl) vc_X8_cancel_12
  have h295 : (-1) ≤ z1 ∧ z1 ≤ (-1) := (vc_X8_cancel_13 h4 h3)
  exact mr_vret dX8_cancel_10 rfl (le_t rfl) (le_t rfl) hT mF.refl trivial
theorem vc_X8_passTo_1 {n1 z1 : Int} (h0 : z1 = 0) (h1 : (z1 = 0 ∨ 0 < n1)) (h2 : 0 ≤ z1 ∧ z1 ≤ 800) : 0 ≤ z1 ∧ z1 ≤ 0 := by omega
theorem vc_X8_passTo_2 {n1 z1 : Int} (h0 : ¬ z1 = 0) (h1 : (z1 = 0 ∨ 0 < n1)) (h2 : 0 ≤ z1 ∧ z1 ≤ 800) : 1 ≤ z1 ∧ z1 ≤ 800 := by omega
theorem vc_X8_passTo_3 {p1 z32 : Int} (h0 : z32 ≤ p1) (h1 : (-1) ≤ p1 ∧ p1 ≤ 2000000000) (h2 : (-1) ≤ z32 ∧ z32 ≤ 2000001000) : (-1) ≤ z32 ∧ z32 ≤ 2000000000 := by omega
theorem vc_X8_passTo_4 {p1 z32 : Int} (h0 : p1 < z32) (h1 : (-1) ≤ p1 ∧ p1 ≤ 2000000000) (h2 : (-1) ≤ z32 ∧ z32 ≤ 2000001000) : 0 ≤ z32 ∧ z32 ≤ 2000001000 := by omega
set_option maxRecDepth 4000 in
set_option maxHeartbeats 4000000 in
theorem c_X8_passTo {l : Launch} {D : va_G} {c : Nat → ClassId} {H0 : Heap} {sa : Nat × Nat × (Nat → Int32)} {w : mW} {μ : mM} (hw : mWF w) (hT : mT w μ) {p1 : Int} (hp1 : (-1) ≤ p1 ∧ p1 ≤ 2000000000) : sC (gG l D c H0 sa) mX8_passTo 1 0 0 [.ref 32, iv p1] (mk w μ) (qV w [32011] μ (fun μ1 => True)) := by
  refine sC.of rfl (by decide) (le_t rfl) ?_
  refine mr_lvE (lv' := [(0, .ref 32), (1, iv p1)]) rfl ?_
  refine sv_aload_n (pc := 0) dX8_passTo_0 rfl rfl ?_
  refine gf_X8_10 (pc := 1) dX8_passTo_1 wF_X8_52 (A_32 hw) hT fun z1 q2 h3 => ?_
  have h4 : 0 ≤ z1 ∧ z1 ≤ 800 := ⟨h3.1, h3.2.1⟩
  refine mr_if_eq (pc := 4) (tgt := 22) dX8_passTo_4 (by decide) (r32 h4 rfl) (fun h22 => ?_) (fun h22 => ?_)
  · have h23 : 0 ≤ z1 ∧ z1 ≤ 0 := (vc_X8_passTo_1 h22 h3.2.2 h4)
    refine sv_aload_n (pc := 22) dX8_passTo_22 rfl rfl ?_
    refine mr_iload_n (pc := 23) (z := p1) dX8_passTo_23 rfl rfl ?_
    refine pf_X8_11 (pc := 24) dX8_passTo_24 wF_X8_62 (A_32 hw) hT hp1 fun μ24 u25 T26 => ?_
    exact mr_vret dX8_passTo_27 rfl (le_t rfl) (le_t rfl) T26 (mF.up mF.refl (A_32 hw) u25 rfl) trivial
  have h27 : 1 ≤ z1 ∧ z1 ≤ 800 := (vc_X8_passTo_2 h22 h3.2.2 h4)
  refine sv_aload_n (pc := 7) dX8_passTo_7 rfl rfl ?_
  refine gf_X8_3 (pc := 8) dX8_passTo_8 wF_X8_23 (A_32 hw) hT ?_
  refine sv_aload_n (pc := 11) dX8_passTo_11 rfl rfl ?_
  refine gf_X8_2 (pc := 12) dX8_passTo_12 wF_X8_19 (A_32 hw) hT ?_
  refine mr_iconst (pc := 15) (z := 0) dX8_passTo_15 ?_
  refine la_33 (pc := 16) dX8_passTo_16 (A_33 hw) hT (rIx (n := 800) (rR (x := 0)) rfl) fun z28 q29 h30 => ?_
  have h31 : 0 ≤ z28 ∧ z28 ≤ 799 := ⟨h30.1, h30.2.1⟩
  refine la_34 (pc := 17) dX8_passTo_17 (A_34 hw) hT (rIx (n := 800) h31 rfl) fun z32 q33 h34 => ?_
  refine mr_iload_n (pc := 18) (z := p1) dX8_passTo_18 rfl rfl ?_
  refine mr_icmp_le (pc := 19) (tgt := 27) dX8_passTo_19 (by decide) (r32 h34 rfl) (r32 hp1 rfl) (fun h40 => ?_) (fun h40 => ?_)
  · have h41 : (-1) ≤ z32 ∧ z32 ≤ 2000000000 := (vc_X8_passTo_3 h40 hp1 h34)
    exact mr_vret dX8_passTo_27 rfl (le_t rfl) (le_t rfl) hT mF.refl trivial
  have h42 : 0 ≤ z32 ∧ z32 ≤ 2000001000 := (vc_X8_passTo_4 h40 hp1 h34)
  refine sv_aload_n (pc := 22) dX8_passTo_22 rfl rfl ?_
  refine mr_iload_n (pc := 23) (z := p1) dX8_passTo_23 rfl rfl ?_
  refine pf_X8_11 (pc := 24) dX8_passTo_24 wF_X8_62 (A_32 hw) hT hp1 fun μ43 u44 T45 => ?_
  exact mr_vret dX8_passTo_27 rfl (le_t rfl) (le_t rfl) T45 (mF.up mF.refl (A_32 hw) u44 rfl) trivial
set_option maxRecDepth 4000 in
set_option maxHeartbeats 4000000 in
theorem c_X8_groupOrder {l : Launch} {D : va_G} {c : Nat → ClassId} {H0 : Heap} {sa : Nat × Nat × (Nat → Int32)} {w : mW} {μ : mM} (hw : mWF w) (hT : mT w μ) {p1 : Int} (hp1 : 0 ≤ p1 ∧ p1 ≤ 9) : sC (gG l D c H0 sa) mX8_groupOrder 1 0 0 [.ref 32, iv p1] (mk w μ) (qJ w [] μ (fun z μ1 => ((-9223372036854775808) ≤ z ∧ z ≤ 9223372036854775807) ∧ True)) := by
  refine sC.of rfl (by decide) (le_t rfl) ?_
  refine mr_lvE (lv' := [(0, .ref 32), (1, iv p1)]) rfl ?_
  refine sv_aload_n (pc := 0) dX8_groupOrder_0 rfl rfl ?_
  refine gf_X8_4 (pc := 1) dX8_groupOrder_1 wF_X8_34 (A_32 hw) hT ?_
  refine mr_iload_n (pc := 4) (z := p1) dX8_groupOrder_4 rfl rfl ?_
  refine la_35 (pc := 5) dX8_groupOrder_5 (A_35 hw) hT (rIx (n := 10) hp1 rfl) fun b1 q2 A3 => ?_
  refine gf_X7_7 (pc := 6) dX8_groupOrder_6 wF_X8_246 A3 hT fun z4 q5 h6 => ?_
  refine mr_if_ne (pc := 9) (tgt := 18) dX8_groupOrder_9 (by decide) (r32 h6 rfl) (fun h19 => ?_) (fun h19 => ?_)
  · have h20 : 1 ≤ z4 ∧ z4 ≤ 20 := (vc_X12_waysMatch_2 h19 h6)
    refine sv_aload_n (pc := 18) dX8_groupOrder_18 rfl rfl ?_
    refine gf_X8_4 (pc := 19) dX8_groupOrder_19 wF_X8_34 (A_32 hw) hT ?_
    refine mr_iload_n (pc := 22) (z := p1) dX8_groupOrder_22 rfl rfl ?_
    refine lk_35 (pc := 23) dX8_groupOrder_23 (A_35 hw) (rIx (n := 10) hp1 rfl) q2 ?_
    refine gf_X7_0 (pc := 24) dX8_groupOrder_24 wF_X8_251 A3 hT fun A21 => ?_
    refine mr_iconst (pc := 27) (z := 0) dX8_groupOrder_27 ?_
    refine la_201 (pc := 28) dX8_groupOrder_28 A21 hT (rIx (n := 20) (rR (x := 0)) rfl) fun z22 q23 h24 => ?_
    refine mr_i2l (pc := 29) dX8_groupOrder_29 h24 ?_
    refine mr_genL (r3264 h24) fun z25 q26 h27 => ?_
    refine mr_ldc2 (pc := 30) (z := 4294967295) dX8_groupOrder_30 wH_X8_254 (by decide) ?_
    refine mr_land (pc := 33) dX8_groupOrder_33 ?_
    refine mr_genL (r64i _) fun z28 q29 h30 => ?_
    exact mr_lret dX8_groupOrder_34 rfl (le_t rfl) (le_t rfl) hT mF.refl ⟨h30, trivial⟩
  have h31 : 0 ≤ z4 ∧ z4 ≤ 0 := (vc_X12_waysMatch_23 h19 h6)
  refine mr_ldc2 (pc := 12) (z := (-1)) dX8_groupOrder_12 wH_X8_249 (by decide) ?_
  refine sv_goto (pc := 15) (tgt := 34) dX8_groupOrder_15 (by decide) ?_
  exact mr_lret dX8_groupOrder_34 rfl (le_t rfl) (le_t rfl) hT mF.refl ⟨(rW (c := -9223372036854775808) (d := 9223372036854775807) (rR (x := (-1))) rfl), trivial⟩
theorem vc_X8_candidateOver_2 {n1 z91 z99 : Int} (h0 : z91 < z99) (h1 : (z99 = 0 ∨ 0 < n1)) (h2 : 0 ≤ z91 ∧ z91 ≤ 10) (h3 : 0 ≤ z99 ∧ z99 ≤ 10) : 0 ≤ z91 ∧ z91 ≤ 9 := by omega
theorem vc_X8_candidateOver_3 {n1 z91 z99 : Int} (h0 : z91 < z99) (h1 : (z99 = 0 ∨ 0 < n1)) (h2 : 0 ≤ z91 ∧ z91 ≤ 9) (h3 : 0 ≤ z99 ∧ z99 ≤ 10) : 1 ≤ z99 ∧ z99 ≤ 10 := by omega
theorem vc_X8_candidateOver_4 {N n1 z91 z99 : Int} (h0 : (11 - z91) < N + 1) (h1 : z91 < z99) (h2 : (z99 = 0 ∨ 0 < n1)) (h3 : 0 ≤ z91 ∧ z91 ≤ 9) (h4 : 1 ≤ z99 ∧ z99 ≤ 10) : (11 - (z91 + 1)) < N := by omega
theorem vc_X8_candidateOver_5 {n1 p1 z109 : Int} (h0 : z109 = p1) (h1 : (z109 = 0 ∨ z109 < n1)) (h2 : (-2147483648) ≤ p1 ∧ p1 ≤ 2147483647) (h3 : 0 ≤ z109 ∧ z109 ≤ 19) : 0 ≤ p1 ∧ p1 ≤ 19 := by omega
set_option maxRecDepth 4000 in
set_option maxHeartbeats 4000000 in
theorem c_X8_candidateOver {l : Launch} {D : va_G} {c : Nat → ClassId} {H0 : Heap} {sa : Nat × Nat × (Nat → Int32)} {w : mW} {μ : mM} (hw : mWF w) (hT : mT w μ) {p1 : Int} (hp1 : (-2147483648) ≤ p1 ∧ p1 ≤ 2147483647) : sC (gG l D c H0 sa) mX8_candidateOver 1 0 0 [.ref 32, iv p1] (mk w μ) (qP w μ (fun z => ((-1) ≤ z ∧ z ≤ 9) ∧ True)) := by
  refine sC.of rfl (by decide) (le_t rfl) ?_
  refine mr_lvE (lv' := [(0, .ref 32), (1, iv p1)]) rfl ?_
  refine mr_iconst (pc := 0) (z := 0) dX8_candidateOver_0 ?_
  refine mr_istore_n (pc := 1) (lv' := [(2, iv 0), (0, .ref 32), (1, iv p1)]) dX8_candidateOver_1 rfl (by decide) rfl ?_
  have L92 : ∀ (nL92 : Nat) (z91 : Int), True → (0 ≤ z91 ∧ z91 ≤ 10) → (11 - z91) < (nL92 : Int) → sV (gG l D c H0 sa) mX8_candidateOver (sRm 1 0 0) (sZ (gG l D c H0 sa) 0 0 (qP w μ (fun z => ((-1) ≤ z ∧ z ≤ 9) ∧ True))) 2 [(0, .ref 32), (1, iv p1), (2, iv z91)] [] (mk w μ) 0 0 := by
    intro nL92
    induction nL92 with
    | zero => intro z91 _ h93 h97; exact ((vc_X12_sends_1 h97 h93)).elim
    | succ nL92 ih98 =>
      intro z91 _ h93 h97
      refine mr_iload_n (pc := 2) (z := z91) dX8_candidateOver_2 rfl rfl ?_
      refine sv_aload_n (pc := 3) dX8_candidateOver_3 rfl rfl ?_
      refine gf_X8_9 (pc := 4) dX8_candidateOver_4 wF_X8_200 (A_32 hw) hT fun z99 q100 h101 => ?_
      have h102 : 0 ≤ z99 ∧ z99 ≤ 10 := ⟨h101.1, h101.2.1⟩
      refine mr_icmp_ge (pc := 7) (tgt := 31) dX8_candidateOver_7 (by decide) (r32 h93 rfl) (r32 h102 rfl) (fun h103 => ?_) (fun h103 => ?_)
      · refine mr_iconst (pc := 31) (z := (-1)) dX8_candidateOver_31 ?_
        exact mr_iretP dX8_candidateOver_32 rfl (le_t rfl) (le_t rfl) ⟨(rW (c := (-1)) (d := 9) (rR (x := (-1))) rfl), trivial⟩
      have h104 : 0 ≤ z91 ∧ z91 ≤ 9 := (vc_X8_candidateOver_2 h103 h101.2.2 h93 h102)
      have h105 : 1 ≤ z99 ∧ z99 ≤ 10 := (vc_X8_candidateOver_3 h103 h101.2.2 h104 h102)
      refine sv_aload_n (pc := 10) dX8_candidateOver_10 rfl rfl ?_
      refine gf_X8_4 (pc := 11) dX8_candidateOver_11 wF_X8_34 (A_32 hw) hT ?_
      refine mr_iload_n (pc := 14) (z := z91) dX8_candidateOver_14 rfl rfl ?_
      refine la_35 (pc := 15) dX8_candidateOver_15 (A_35 hw) hT (rIx (n := 10) h104 rfl) fun b106 q107 A108 => ?_
      refine gf_X7_10 (pc := 16) dX8_candidateOver_16 wF_X8_188 A108 hT fun z109 q110 h111 => ?_
      have h112 : 0 ≤ z109 ∧ z109 ≤ 19 := ⟨h111.1, h111.2.1⟩
      refine mr_iload_n (pc := 19) (z := p1) dX8_candidateOver_19 rfl rfl ?_
      refine mr_icmp_ne (pc := 20) (tgt := 25) dX8_candidateOver_20 (by decide) (r32 h112 rfl) hp1 (fun h113 => ?_) (fun h113 => ?_)
      · refine mr_iinc (pc := 25) (lv' := [(2, iv (z91 + 1)), (0, .ref 32), (1, iv p1)]) dX8_candidateOver_25 rfl (by decide) rfl ?_
        refine sv_goto (pc := 28) (tgt := 2) dX8_candidateOver_28 (by decide) ?_
        refine mr_lvS (lv' := [(0, .ref 32), (1, iv p1), (2, iv (z91 + 1))]) (List.forall_mem_cons.mpr ⟨rfl, List.forall_mem_cons.mpr ⟨rfl, List.forall_mem_cons.mpr ⟨rfl, fun _ h => absurd h List.not_mem_nil⟩⟩⟩) ?_
        exact ih98 (z91 + 1) trivial (rW (c := 0) (d := 10) (rAdd (e := 1) (f := 10) h104 (rR (x := 1)) rfl) rfl) (vc_X8_candidateOver_4 (nS h97) h103 h101.2.2 h104 h105)
      have h114 : 0 ≤ p1 ∧ p1 ≤ 19 := (vc_X8_candidateOver_5 h113 h111.2.2 hp1 h112)
      refine mr_iload_n (pc := 23) (z := z91) dX8_candidateOver_23 rfl rfl ?_
      exact mr_iretP dX8_candidateOver_24 rfl (le_t rfl) (le_t rfl) ⟨(rW (c := (-1)) (d := 9) h104 rfl), trivial⟩
  refine mr_lvS (lv' := [(0, .ref 32), (1, iv p1), (2, iv 0)]) (List.forall_mem_cons.mpr ⟨rfl, List.forall_mem_cons.mpr ⟨rfl, List.forall_mem_cons.mpr ⟨rfl, fun _ h => absurd h List.not_mem_nil⟩⟩⟩) ?_
  exact L92 12 0 trivial (rW (c := 0) (d := 10) (rR (x := 0)) rfl) vc_X12_sends_20
theorem vc_X8_insertWinner_1 {z63 : Int} (h0 : (z63 - (-1)) < ((0 : Nat) : Int)) (h1 : 0 ≤ z63 ∧ z63 ≤ 9) : False := by omega
theorem vc_X8_insertWinner_2 {z63 : Int} (h0 : z63 ≤ 0) (h1 : 0 ≤ z63 ∧ z63 ≤ 9) : 0 ≤ z63 ∧ z63 ≤ 0 := by omega
theorem vc_X8_insertWinner_3 {z63 : Int} (h0 : 0 < z63) (h1 : 0 ≤ z63 ∧ z63 ≤ 9) : 1 ≤ z63 ∧ z63 ≤ 9 := by omega
theorem vc_X8_insertWinner_6 {N z63 : Int} (h0 : (z63 - (-1)) < N + 1) (h1 : 0 < z63) (h2 : 1 ≤ z63 ∧ z63 ≤ 9) : ((z63 + (-1)) - (-1)) < N := by omega
theorem vc_X8_insertWinner_7 {p1 : Int} (h0 : 0 ≤ p1 ∧ p1 ≤ 9) : (p1 - (-1)) < ((11 : Nat) : Int) := by omega
set_option maxRecDepth 4000 in
set_option maxHeartbeats 4000000 in
theorem c_X8_insertWinner {l : Launch} {D : va_G} {c : Nat → ClassId} {H0 : Heap} {sa : Nat × Nat × (Nat → Int32)} {w : mW} {μ : mM} (hw : mWF w) (hT : mT w μ) {p1 : Int} (hp1 : 0 ≤ p1 ∧ p1 ≤ 9) {p2 : Int} (hp2 : 0 ≤ p2 ∧ p2 ≤ 9) : sC (gG l D c H0 sa) mX8_insertWinner 2 0 0 [.ref 32, iv p1, iv p2] (mk w μ) (qV w [66999] μ (fun μ1 => True)) := by
  refine sC.of rfl (by decide) (le_t rfl) ?_
  refine mr_lvE (lv' := [(0, .ref 32), (1, iv p1), (2, iv p2)]) rfl ?_
  refine mr_iload_n (pc := 0) (z := p1) dX8_insertWinner_0 rfl rfl ?_
  refine mr_istore_n (pc := 1) (lv' := [(3, iv p1), (0, .ref 32), (1, iv p1), (2, iv p2)]) dX8_insertWinner_1 rfl (by decide) rfl ?_
  have L65 : ∀ (nL65 : Nat) (z63 : Int) (μ64 : mM), mT w μ64 → mF [66999] w μ μ64 → (0 ≤ z63 ∧ z63 ≤ 9) → (z63 - (-1)) < (nL65 : Int) → sV (gG l D c H0 sa) mX8_insertWinner (sRm 2 0 0) (sZ (gG l D c H0 sa) 0 0 (qV w [66999] μ (fun μ1 => True))) 2 [(0, .ref 32), (2, iv p2), (3, iv z63)] [] (mk w μ64) 0 0 := by
    intro nL65
    induction nL65 with
    | zero => intro z63 μ64 T67 F68 h66 h70; exact ((vc_X8_insertWinner_1 h70 h66)).elim
    | succ nL65 ih71 =>
      intro z63 μ64 T67 F68 h66 h70
      refine mr_iload_n (pc := 2) (z := z63) dX8_insertWinner_2 rfl rfl ?_
      refine mr_if_le (pc := 3) (tgt := 47) dX8_insertWinner_3 (by decide) (r32 h66 rfl) (fun h95 => ?_) (fun h95 => ?_)
      · have h96 : 0 ≤ z63 ∧ z63 ≤ 0 := (vc_X8_insertWinner_2 h95 h66)
        refine sv_aload_n (pc := 47) dX8_insertWinner_47 rfl rfl ?_
        refine gf_X8_5 (pc := 48) dX8_insertWinner_48 wF_X8_39 (A_32 hw) T67 ?_
        refine mr_iload_n (pc := 51) (z := z63) dX8_insertWinner_51 rfl rfl ?_
        refine mr_iload_n (pc := 52) (z := p2) dX8_insertWinner_52 rfl rfl ?_
        refine ss_66 (pc := 53) dX8_insertWinner_53 (A_66 hw) T67 (rIx (n := 10) h96 rfl) hp2 fun μ97 u98 T99 => ?_
        exact mr_vret dX8_insertWinner_54 rfl (le_t rfl) (le_t rfl) T99 (mF.up (mF.call mF.refl F68 rfl) (A_66 hw) u98 rfl) trivial
      have h100 : 1 ≤ z63 ∧ z63 ≤ 9 := (vc_X8_insertWinner_3 h95 h66)
      refine sv_aload_n (pc := 6) dX8_insertWinner_6 rfl rfl ?_
      refine sv_aload_n (pc := 7) dX8_insertWinner_7 rfl rfl ?_
      refine gf_X8_5 (pc := 8) dX8_insertWinner_8 wF_X8_39 (A_32 hw) T67 ?_
      refine mr_iload_n (pc := 11) (z := z63) dX8_insertWinner_11 rfl rfl ?_
      refine mr_iconst (pc := 12) (z := 1) dX8_insertWinner_12 ?_
      refine mr_isub (pc := 13) (x := z63) (y := 1) dX8_insertWinner_13 ?_
      refine la_66 (pc := 14) dX8_insertWinner_14 (A_66 hw) T67 (rIx (n := 10) (rSub (e := 0) (f := 8) h100 (rR (x := 1)) rfl) rfl) fun z101 q102 h103 => ?_
      refine mr_cVJ (pc := 15) (c_X8_groupOrder hw T67 h103) (gOk _ _ _ _ _) dX8_insertWinner_15 (tX8_groupOrder _ _ _ _ _) ⟨wV_X8_groupOrder, wL_X8_groupOrder⟩ wM_X8_242 (gCX8 _ _ _ _ _) rfl (A_32 hw) rfl ⟨le_t rfl, le_t rfl⟩ ⟨le_t rfl, le_t rfl⟩ rfl (le_t rfl) fun z108 μ104 T105 F106 h107 => ?_
      refine sv_aload_n (pc := 18) dX8_insertWinner_18 rfl rfl ?_
      refine mr_iload_n (pc := 19) (z := p2) dX8_insertWinner_19 rfl rfl ?_
      refine mr_cVJ (pc := 20) (c_X8_groupOrder hw T105 hp2) (gOk _ _ _ _ _) dX8_insertWinner_20 (tX8_groupOrder _ _ _ _ _) ⟨wV_X8_groupOrder, wL_X8_groupOrder⟩ wM_X8_242 (gCX8 _ _ _ _ _) rfl (A_32 hw) rfl ⟨le_t rfl, le_t rfl⟩ ⟨le_t rfl, le_t rfl⟩ rfl (le_t rfl) fun z113 μ109 T110 F111 h112 => ?_
      refine mr_lcmp (pc := 23) dX8_insertWinner_23 ?_
      refine mr_gen (P := fun z => (-1) ≤ z ∧ z ≤ 1) (lg_cmp_r _ _) fun z114 q115 h116 => ?_
      refine mr_if_le (pc := 24) (tgt := 47) dX8_insertWinner_24 (by decide) (r32 h116 rfl) (fun h122 => ?_) (fun h122 => ?_)
      · have h123 : (-1) ≤ z114 ∧ z114 ≤ 0 := (vc_X2_insertBorder_4 h122 h116)
        refine sv_aload_n (pc := 47) dX8_insertWinner_47 rfl rfl ?_
        refine gf_X8_5 (pc := 48) dX8_insertWinner_48 wF_X8_39 (A_32 hw) T110 ?_
        refine mr_iload_n (pc := 51) (z := z63) dX8_insertWinner_51 rfl rfl ?_
        refine mr_iload_n (pc := 52) (z := p2) dX8_insertWinner_52 rfl rfl ?_
        refine ss_66 (pc := 53) dX8_insertWinner_53 (A_66 hw) T110 (rIx (n := 10) h100 rfl) hp2 fun μ124 u125 T126 => ?_
        exact mr_vret dX8_insertWinner_54 rfl (le_t rfl) (le_t rfl) T126 (mF.up (mF.call (mF.call (mF.call mF.refl F68 rfl) F106 rfl) F111 rfl) (A_66 hw) u125 rfl) trivial
      have h127 : 1 ≤ z114 ∧ z114 ≤ 1 := (vc_X2_insertBorder_5 h122 h116)
      refine sv_aload_n (pc := 27) dX8_insertWinner_27 rfl rfl ?_
      refine gf_X8_5 (pc := 28) dX8_insertWinner_28 wF_X8_39 (A_32 hw) T110 ?_
      refine mr_iload_n (pc := 31) (z := z63) dX8_insertWinner_31 rfl rfl ?_
      refine sv_aload_n (pc := 32) dX8_insertWinner_32 rfl rfl ?_
      refine gf_X8_5 (pc := 33) dX8_insertWinner_33 wF_X8_39 (A_32 hw) T110 ?_
      refine mr_iload_n (pc := 36) (z := z63) dX8_insertWinner_36 rfl rfl ?_
      refine mr_iconst (pc := 37) (z := 1) dX8_insertWinner_37 ?_
      refine mr_isub (pc := 38) (x := z63) (y := 1) dX8_insertWinner_38 ?_
      refine lk_66 (pc := 39) dX8_insertWinner_39 (A_66 hw) (rIx (n := 10) (rSub (e := 0) (f := 8) h100 (rR (x := 1)) rfl) rfl) (F111.f (A_66 hw) rfl (F106.f (A_66 hw) rfl q102)) ?_
      refine ss_66 (pc := 40) dX8_insertWinner_40 (A_66 hw) T110 (rIx (n := 10) h100 rfl) h103 fun μ128 u129 T130 => ?_
      refine mr_iinc (pc := 41) (lv' := [(3, iv (z63 + (-1))), (0, .ref 32), (2, iv p2)]) dX8_insertWinner_41 rfl (by decide) rfl ?_
      refine sv_goto (pc := 44) (tgt := 2) dX8_insertWinner_44 (by decide) ?_
      refine mr_lvS (lv' := [(0, .ref 32), (2, iv p2), (3, iv (z63 + (-1)))]) (List.forall_mem_cons.mpr ⟨rfl, List.forall_mem_cons.mpr ⟨rfl, List.forall_mem_cons.mpr ⟨rfl, fun _ h => absurd h List.not_mem_nil⟩⟩⟩) ?_
      exact ih71 (z63 + (-1)) μ128 T130 (mF.up (mF.call (mF.call (mF.call mF.refl F68 rfl) F106 rfl) F111 rfl) (A_66 hw) u129 rfl) (rW (c := 0) (d := 9) (rAdd (e := 0) (f := 8) h100 (rR (x := (-1))) rfl) rfl) (vc_X8_insertWinner_6 (nS h70) h95 h100)
  refine mr_lvS (lv' := [(0, .ref 32), (2, iv p2), (3, iv p1)]) (List.forall_mem_cons.mpr ⟨rfl, List.forall_mem_cons.mpr ⟨rfl, List.forall_mem_cons.mpr ⟨rfl, fun _ h => absurd h List.not_mem_nil⟩⟩⟩) ?_
  exact L65 11 p1 μ hT mF.refl hp1 (vc_X8_insertWinner_7 hp1)
theorem vc_X8_isFirstOfGroup_1 {z97 : Int} (h0 : (10 - z97) < ((0 : Nat) : Int)) (h1 : 0 ≤ z97 ∧ z97 ≤ 9) : False := by omega
theorem vc_X8_isFirstOfGroup_2 {p1 z97 : Int} (h0 : z97 < p1) (h1 : 0 ≤ p1 ∧ p1 ≤ 9) (h2 : 0 ≤ z97 ∧ z97 ≤ 9) : 0 ≤ z97 ∧ z97 ≤ 8 := by omega
theorem vc_X8_isFirstOfGroup_3 {p1 z97 : Int} (h0 : z97 < p1) (h1 : 0 ≤ p1 ∧ p1 ≤ 9) (h2 : 0 ≤ z97 ∧ z97 ≤ 8) : 1 ≤ p1 ∧ p1 ≤ 9 := by omega
theorem vc_X8_isFirstOfGroup_5 {N p1 z97 : Int} (h0 : (10 - z97) < N + 1) (h1 : z97 < p1) (h2 : 1 ≤ p1 ∧ p1 ≤ 9) (h3 : 0 ≤ z97 ∧ z97 ≤ 8) : (10 - (z97 + 1)) < N := by omega
theorem vc_X8_isFirstOfGroup_7  : (10 - 0) < ((11 : Nat) : Int) := by omega
set_option maxRecDepth 4000 in
set_option maxHeartbeats 4000000 in
theorem c_X8_isFirstOfGroup {l : Launch} {D : va_G} {c : Nat → ClassId} {H0 : Heap} {sa : Nat × Nat × (Nat → Int32)} {w : mW} {μ : mM} (hw : mWF w) (hT : mT w μ) {p1 : Int} (hp1 : 0 ≤ p1 ∧ p1 ≤ 9) : sC (gG l D c H0 sa) mX8_isFirstOfGroup 2 0 0 [.ref 32, iv p1] (mk w μ) (qP w μ (fun z => (0 ≤ z ∧ z ≤ 1) ∧ True)) := by
  refine sC.of rfl (by decide) (le_t rfl) ?_
  refine mr_lvE (lv' := [(0, .ref 32), (1, iv p1)]) rfl ?_
  refine mr_iconst (pc := 0) (z := 0) dX8_isFirstOfGroup_0 ?_
  refine mr_istore_n (pc := 1) (lv' := [(2, iv 0), (0, .ref 32), (1, iv p1)]) dX8_isFirstOfGroup_1 rfl (by decide) rfl ?_
  have L98 : ∀ (nL98 : Nat) (z97 : Int), True → (0 ≤ z97 ∧ z97 ≤ 9) → (10 - z97) < (nL98 : Int) → sV (gG l D c H0 sa) mX8_isFirstOfGroup (sRm 2 0 0) (sZ (gG l D c H0 sa) 0 0 (qP w μ (fun z => (0 ≤ z ∧ z ≤ 1) ∧ True))) 2 [(0, .ref 32), (1, iv p1), (2, iv z97)] [] (mk w μ) 0 0 := by
    intro nL98
    induction nL98 with
    | zero => intro z97 _ h99 h103; exact ((vc_X8_isFirstOfGroup_1 h103 h99)).elim
    | succ nL98 ih104 =>
      intro z97 _ h99 h103
      refine mr_iload_n (pc := 2) (z := z97) dX8_isFirstOfGroup_2 rfl rfl ?_
      refine mr_iload_n (pc := 3) (z := p1) dX8_isFirstOfGroup_3 rfl rfl ?_
      refine mr_icmp_ge (pc := 4) (tgt := 33) dX8_isFirstOfGroup_4 (by decide) (r32 h99 rfl) (r32 hp1 rfl) (fun h105 => ?_) (fun h105 => ?_)
      · refine mr_iconst (pc := 33) (z := 1) dX8_isFirstOfGroup_33 ?_
        exact mr_zretP dX8_isFirstOfGroup_34 rfl (rW (c := 0) (d := 1) (rR (x := 1)) rfl) (le_t rfl) (le_t rfl) ⟨(rW (c := 0) (d := 1) (rR (x := 1)) rfl), trivial⟩
      have h106 : 0 ≤ z97 ∧ z97 ≤ 8 := (vc_X8_isFirstOfGroup_2 h105 hp1 h99)
      have h107 : 1 ≤ p1 ∧ p1 ≤ 9 := (vc_X8_isFirstOfGroup_3 h105 hp1 h106)
      refine sv_aload_n (pc := 7) dX8_isFirstOfGroup_7 rfl rfl ?_
      refine gf_X8_4 (pc := 8) dX8_isFirstOfGroup_8 wF_X8_34 (A_32 hw) hT ?_
      refine mr_iload_n (pc := 11) (z := z97) dX8_isFirstOfGroup_11 rfl rfl ?_
      refine la_35 (pc := 12) dX8_isFirstOfGroup_12 (A_35 hw) hT (rIx (n := 10) h106 rfl) fun b108 q109 A110 => ?_
      refine sv_aload_n (pc := 13) dX8_isFirstOfGroup_13 rfl rfl ?_
      refine gf_X8_4 (pc := 14) dX8_isFirstOfGroup_14 wF_X8_34 (A_32 hw) hT ?_
      refine mr_iload_n (pc := 17) (z := p1) dX8_isFirstOfGroup_17 rfl rfl ?_
      refine la_35 (pc := 18) dX8_isFirstOfGroup_18 (A_35 hw) hT (rIx (n := 10) h107 rfl) fun b111 q112 A113 => ?_
      refine mr_cVP (pc := 19) (c_X7_sharesFirst hw hT A110 A113) (gOk _ _ _ _ _) dX8_isFirstOfGroup_19 (tX7_sharesFirst _ _ _ _ _) ⟨wV_X7_sharesFirst, wL_X7_sharesFirst⟩ wM_X8_239 (gCX7 _ _ _ _ _) rfl A110 rfl ⟨le_t rfl, le_t rfl⟩ ⟨le_t rfl, le_t rfl⟩ rfl (le_t rfl) fun z118 h117 => ?_
      refine mr_if_eq (pc := 22) (tgt := 27) dX8_isFirstOfGroup_22 (by decide) (r32 h117.1 rfl) (fun h119 => ?_) (fun h119 => ?_)
      · have h120 : 0 ≤ z118 ∧ z118 ≤ 0 := (vc_X12_letWay_6 h119 h117.1)
        refine mr_iinc (pc := 27) (lv' := [(2, iv (z97 + 1)), (0, .ref 32), (1, iv p1)]) dX8_isFirstOfGroup_27 rfl (by decide) rfl ?_
        refine sv_goto (pc := 30) (tgt := 2) dX8_isFirstOfGroup_30 (by decide) ?_
        refine mr_lvS (lv' := [(0, .ref 32), (1, iv p1), (2, iv (z97 + 1))]) (List.forall_mem_cons.mpr ⟨rfl, List.forall_mem_cons.mpr ⟨rfl, List.forall_mem_cons.mpr ⟨rfl, fun _ h => absurd h List.not_mem_nil⟩⟩⟩) ?_
        exact ih104 (z97 + 1) trivial (rW (c := 0) (d := 9) (rAdd (e := 1) (f := 9) h106 (rR (x := 1)) rfl) rfl) (vc_X8_isFirstOfGroup_5 (nS h103) h105 h107 h106)
      have h121 : 1 ≤ z118 ∧ z118 ≤ 1 := (vc_X12_letWay_11 h119 h117.1)
      refine mr_iconst (pc := 25) (z := 0) dX8_isFirstOfGroup_25 ?_
      exact mr_zretP dX8_isFirstOfGroup_26 rfl (rW (c := 0) (d := 1) (rR (x := 0)) rfl) (le_t rfl) (le_t rfl) ⟨(rW (c := 0) (d := 1) (rR (x := 0)) rfl), trivial⟩
  refine mr_lvS (lv' := [(0, .ref 32), (1, iv p1), (2, iv 0)]) (List.forall_mem_cons.mpr ⟨rfl, List.forall_mem_cons.mpr ⟨rfl, List.forall_mem_cons.mpr ⟨rfl, fun _ h => absurd h List.not_mem_nil⟩⟩⟩) ?_
  exact L98 11 0 trivial (rW (c := 0) (d := 9) (rR (x := 0)) rfl) vc_X8_isFirstOfGroup_7
theorem vc_X8_lastStanding_1 {p2 : Int} (h0 : p2 ≤ 0) (h1 : 0 ≤ p2 ∧ p2 ≤ 10) : 0 ≤ p2 ∧ p2 ≤ 0 := by omega
theorem vc_X8_lastStanding_2 (h0 : 1 < ((0 : Nat) : Int)) : False := by omega
theorem vc_X8_lastStanding_3 {p2 z16 : Int} (h0 : z16 < p2) (h1 : 0 ≤ p2 ∧ p2 ≤ 0) (h2 : 1 ≤ z16 ∧ z16 ≤ 1) : False := by omega
theorem vc_X8_lastStanding_4 {p2 z17 : Int} (h0 : p2 ≤ 0) (h1 : 0 ≤ z17 ∨ p2 ≤ 0) (h2 : z17 < 0 ∨ 0 < p2) (h3 : 0 ≤ p2 ∧ p2 ≤ 0) (h4 : (-1) ≤ z17 ∧ z17 ≤ (-1)) : z17 < 0 ∨ 0 < p2 := by omega
theorem vc_X8_lastStanding_5 {p2 : Int} (h0 : p2 ≤ 0) (h1 : 0 ≤ p2 ∧ p2 ≤ 0) : 0 ≤ ((-1) : Int) ∨ p2 ≤ 0 := by omega
theorem vc_X8_lastStanding_6 {p2 : Int} (h0 : p2 ≤ 0) (h1 : 0 ≤ p2 ∧ p2 ≤ 0) : ((-1) : Int) < 0 ∨ 0 < p2 := by omega
theorem vc_X8_lastStanding_7  : 1 < ((2 : Nat) : Int) := by omega
theorem vc_X8_lastStanding_8 {p2 : Int} (h0 : 0 < p2) (h1 : 0 ≤ p2 ∧ p2 ≤ 10) : 1 ≤ p2 ∧ p2 ≤ 10 := by omega
theorem vc_X8_lastStanding_9 {z164 : Int} (h0 : (11 - z164) < ((0 : Nat) : Int)) (h1 : 1 ≤ z164 ∧ z164 ≤ 10) : False := by omega
theorem vc_X8_lastStanding_10 {p2 z164 z165 : Int} (h0 : 0 < p2) (h1 : 0 ≤ z165 ∨ p2 ≤ 0) (h2 : z165 < 0 ∨ 0 < p2) (h3 : p2 ≤ z164) (h4 : 1 ≤ p2 ∧ p2 ≤ 10) (h5 : 1 ≤ z164 ∧ z164 ≤ 10) (h6 : 0 ≤ z165 ∧ z165 ≤ 9) : z165 < 0 ∨ 0 < p2 := by omega
theorem vc_X8_lastStanding_11 {p2 z164 z165 : Int} (h0 : z164 < p2) (h1 : 0 < p2) (h2 : 0 ≤ z165 ∨ p2 ≤ 0) (h3 : z165 < 0 ∨ 0 < p2) (h4 : 1 ≤ p2 ∧ p2 ≤ 10) (h5 : 1 ≤ z164 ∧ z164 ≤ 10) (h6 : 0 ≤ z165 ∧ z165 ≤ 9) : 1 ≤ z164 ∧ z164 ≤ 9 := by omega
theorem vc_X8_lastStanding_12 {p2 z164 z165 : Int} (h0 : z164 < p2) (h1 : 0 < p2) (h2 : 0 ≤ z165 ∨ p2 ≤ 0) (h3 : z165 < 0 ∨ 0 < p2) (h4 : 1 ≤ p2 ∧ p2 ≤ 10) (h5 : 1 ≤ z164 ∧ z164 ≤ 9) (h6 : 0 ≤ z165 ∧ z165 ≤ 9) : 2 ≤ p2 ∧ p2 ≤ 10 := by omega
theorem vc_X8_lastStanding_14 {p2 z164 z165 : Int} (h0 : 0 < p2) (h1 : 0 ≤ z165 ∨ p2 ≤ 0) (h2 : z165 < 0 ∨ 0 < p2) (h3 : z164 < p2) (h4 : 2 ≤ p2 ∧ p2 ≤ 10) (h5 : 1 ≤ z164 ∧ z164 ≤ 9) (h6 : 0 ≤ z165 ∧ z165 ≤ 9) : 0 ≤ z165 ∨ p2 ≤ 0 := by omega
theorem vc_X8_lastStanding_15 {p2 z164 z165 : Int} (h0 : 0 < p2) (h1 : 0 ≤ z165 ∨ p2 ≤ 0) (h2 : z165 < 0 ∨ 0 < p2) (h3 : z164 < p2) (h4 : 2 ≤ p2 ∧ p2 ≤ 10) (h5 : 1 ≤ z164 ∧ z164 ≤ 9) (h6 : 0 ≤ z165 ∧ z165 ≤ 9) : z165 < 0 ∨ 0 < p2 := by omega
theorem vc_X8_lastStanding_16 {N p2 z164 z165 : Int} (h0 : (11 - z164) < N + 1) (h1 : z164 < p2) (h2 : 0 < p2) (h3 : 0 ≤ z165 ∨ p2 ≤ 0) (h4 : z165 < 0 ∨ 0 < p2) (h5 : 2 ≤ p2 ∧ p2 ≤ 10) (h6 : 1 ≤ z164 ∧ z164 ≤ 9) (h7 : 0 ≤ z165 ∧ z165 ≤ 9) : (11 - (z164 + 1)) < N := by omega
theorem vc_X8_lastStanding_18 {p2 z164 z165 z197 : Int} (h0 : 0 < p2) (h1 : 0 ≤ z165 ∨ p2 ≤ 0) (h2 : z165 < 0 ∨ 0 < p2) (h3 : z164 < p2) (h4 : 2 ≤ p2 ∧ p2 ≤ 10) (h5 : 1 ≤ z164 ∧ z164 ≤ 9) (h6 : 0 ≤ z165 ∧ z165 ≤ 9) (h7 : 0 ≤ z197 ∧ z197 ≤ 9) : 0 ≤ z197 ∨ p2 ≤ 0 := by omega
theorem vc_X8_lastStanding_19 {p2 z164 z165 z197 : Int} (h0 : 0 < p2) (h1 : 0 ≤ z165 ∨ p2 ≤ 0) (h2 : z165 < 0 ∨ 0 < p2) (h3 : z164 < p2) (h4 : 2 ≤ p2 ∧ p2 ≤ 10) (h5 : 1 ≤ z164 ∧ z164 ≤ 9) (h6 : 0 ≤ z165 ∧ z165 ≤ 9) (h7 : 0 ≤ z197 ∧ z197 ≤ 9) : z197 < 0 ∨ 0 < p2 := by omega
theorem vc_X8_lastStanding_20 {p2 z29 : Int} (h0 : 0 < p2) (h1 : 1 ≤ p2 ∧ p2 ≤ 10) (h2 : 0 ≤ z29 ∧ z29 ≤ 9) : 0 ≤ z29 ∨ p2 ≤ 0 := by omega
theorem vc_X8_lastStanding_21 {p2 z29 : Int} (h0 : 0 < p2) (h1 : 1 ≤ p2 ∧ p2 ≤ 10) (h2 : 0 ≤ z29 ∧ z29 ≤ 9) : z29 < 0 ∨ 0 < p2 := by omega
theorem vc_X8_lastStanding_22  : (11 - 1) < ((11 : Nat) : Int) := by omega
set_option maxRecDepth 4000 in
set_option maxHeartbeats 4000000 in
theorem c_X8_lastStanding {l : Launch} {D : va_G} {c : Nat → ClassId} {H0 : Heap} {sa : Nat × Nat × (Nat → Int32)} {w : mW} {μ : mM} (hw : mWF w) (hT : mT w μ) {a1 : Nat} (hA1 : mAt w a1 210) {p2 : Int} (hp2 : 0 ≤ p2 ∧ p2 ≤ 10) : sC (gG l D c H0 sa) mX8_lastStanding 4 0 0 [.ref 32, .ref a1, iv p2] (mk w μ) (qP w μ (fun z => ((-1) ≤ z ∧ z ≤ 9) ∧ (z < 0 ∨ 0 < p2) ∧ True)) := by
  refine sC.of rfl (by decide) (le_t rfl) ?_
  refine mr_lvE (lv' := [(0, .ref 32), (1, .ref a1), (2, iv p2)]) rfl ?_
  refine mr_iload_n (pc := 0) (z := p2) dX8_lastStanding_0 rfl rfl ?_
  refine mr_if_le (pc := 1) (tgt := 13) dX8_lastStanding_1 (by decide) (r32 hp2 rfl) (fun h6 => ?_) (fun h6 => ?_)
  · have h7 : 0 ≤ p2 ∧ p2 ≤ 0 := (vc_X8_lastStanding_1 h6 hp2)
    refine mr_iconst (pc := 13) (z := (-1)) dX8_lastStanding_13 ?_
    refine mr_istore_n (pc := 14) (lv' := [(3, iv (-1)), (0, .ref 32), (1, .ref a1), (2, iv p2)]) dX8_lastStanding_14 rfl (by decide) rfl ?_
    refine mr_iconst (pc := 15) (z := 1) dX8_lastStanding_15 ?_
    refine mr_istore (pc := 16) (lv' := [(4, iv 1), (3, iv (-1)), (0, .ref 32), (1, .ref a1), (2, iv p2)]) dX8_lastStanding_16 (by decide) rfl ?_
    have L18 : ∀ (nL18 : Nat) (z17 z16 : Int), True → ((-1) ≤ z17 ∧ z17 ≤ (-1)) → (1 ≤ z16 ∧ z16 ≤ 1) → (0 ≤ z17 ∨ p2 ≤ 0) → (z17 < 0 ∨ 0 < p2) → 1 < (nL18 : Int) → sV (gG l D c H0 sa) mX8_lastStanding (sRm 4 0 0) (sZ (gG l D c H0 sa) 0 0 (qP w μ (fun z => ((-1) ≤ z ∧ z ≤ 9) ∧ (z < 0 ∨ 0 < p2) ∧ True))) 18 [(0, .ref 32), (1, .ref a1), (2, iv p2), (3, iv z17), (4, iv z16)] [] (mk w μ) 0 0 := by
      intro nL18
      induction nL18 with
      | zero => intro z17 z16 _ h19 h20 h24 h25 h26; exact ((vc_X8_lastStanding_2 h26)).elim
      | succ nL18 ih27 =>
        intro z17 z16 _ h19 h20 h24 h25 h26
        refine mr_iload (pc := 18) (z := z16) dX8_lastStanding_18 rfl ?_
        refine mr_iload_n (pc := 20) (z := p2) dX8_lastStanding_20 rfl rfl ?_
        refine mr_icmp_ge (pc := 21) (tgt := 63) dX8_lastStanding_21 (by decide) (r32 h20 rfl) (r32 h7 rfl) (fun _ => ?_) (fun h => ((vc_X8_lastStanding_3 h h7 h20)).elim)
        refine mr_iload_n (pc := 63) (z := z17) dX8_lastStanding_63 rfl rfl ?_
        exact mr_iretP dX8_lastStanding_64 rfl (le_t rfl) (le_t rfl) ⟨(rW (c := (-1)) (d := 9) h19 rfl), (vc_X8_lastStanding_4 h6 h24 h25 h7 h19), trivial⟩
    refine mr_lvS (lv' := [(0, .ref 32), (1, .ref a1), (2, iv p2), (3, iv (-1)), (4, iv 1)]) (List.forall_mem_cons.mpr ⟨rfl, List.forall_mem_cons.mpr ⟨rfl, List.forall_mem_cons.mpr ⟨rfl, List.forall_mem_cons.mpr ⟨rfl, List.forall_mem_cons.mpr ⟨rfl, fun _ h => absurd h List.not_mem_nil⟩⟩⟩⟩⟩) ?_
    exact L18 2 (-1) 1 trivial (rR (x := (-1))) (rR (x := 1)) (vc_X8_lastStanding_5 h6 h7) (vc_X8_lastStanding_6 h6 h7) vc_X8_lastStanding_7
  have h28 : 1 ≤ p2 ∧ p2 ≤ 10 := (vc_X8_lastStanding_8 h6 hp2)
  refine sv_aload_n (pc := 4) dX8_lastStanding_4 rfl rfl ?_
  refine gf_X8_5 (pc := 5) dX8_lastStanding_5 wF_X8_39 (A_32 hw) hT ?_
  refine mr_iconst (pc := 8) (z := 0) dX8_lastStanding_8 ?_
  refine la_66 (pc := 9) dX8_lastStanding_9 (A_66 hw) hT (rIx (n := 10) (rR (x := 0)) rfl) fun z29 q30 h31 => ?_
  refine sv_goto (pc := 10) (tgt := 14) dX8_lastStanding_10 (by decide) ?_
  refine mr_istore_n (pc := 14) (lv' := [(3, iv z29), (0, .ref 32), (1, .ref a1), (2, iv p2)]) dX8_lastStanding_14 rfl (by decide) rfl ?_
  refine mr_iconst (pc := 15) (z := 1) dX8_lastStanding_15 ?_
  refine mr_istore (pc := 16) (lv' := [(4, iv 1), (3, iv z29), (0, .ref 32), (1, .ref a1), (2, iv p2)]) dX8_lastStanding_16 (by decide) rfl ?_
  have L166 : ∀ (nL166 : Nat) (z165 z164 : Int), True → (0 ≤ z165 ∧ z165 ≤ 9) → (1 ≤ z164 ∧ z164 ≤ 10) → (0 ≤ z165 ∨ p2 ≤ 0) → (z165 < 0 ∨ 0 < p2) → (11 - z164) < (nL166 : Int) → sV (gG l D c H0 sa) mX8_lastStanding (sRm 4 0 0) (sZ (gG l D c H0 sa) 0 0 (qP w μ (fun z => ((-1) ≤ z ∧ z ≤ 9) ∧ (z < 0 ∨ 0 < p2) ∧ True))) 18 [(0, .ref 32), (1, .ref a1), (2, iv p2), (3, iv z165), (4, iv z164)] [] (mk w μ) 0 0 := by
    intro nL166
    induction nL166 with
    | zero => intro z165 z164 _ h167 h168 h172 h173 h174; exact ((vc_X8_lastStanding_9 h174 h168)).elim
    | succ nL166 ih175 =>
      intro z165 z164 _ h167 h168 h172 h173 h174
      refine mr_iload (pc := 18) (z := z164) dX8_lastStanding_18 rfl ?_
      refine mr_iload_n (pc := 20) (z := p2) dX8_lastStanding_20 rfl rfl ?_
      refine mr_icmp_ge (pc := 21) (tgt := 63) dX8_lastStanding_21 (by decide) (r32 h168 rfl) (r32 h28 rfl) (fun h194 => ?_) (fun h194 => ?_)
      · refine mr_iload_n (pc := 63) (z := z165) dX8_lastStanding_63 rfl rfl ?_
        exact mr_iretP dX8_lastStanding_64 rfl (le_t rfl) (le_t rfl) ⟨(rW (c := (-1)) (d := 9) h167 rfl), (vc_X8_lastStanding_10 h6 h172 h173 h194 h28 h168 h167), trivial⟩
      have h195 : 1 ≤ z164 ∧ z164 ≤ 9 := (vc_X8_lastStanding_11 h194 h6 h172 h173 h28 h168 h167)
      have h196 : 2 ≤ p2 ∧ p2 ≤ 10 := (vc_X8_lastStanding_12 h194 h6 h172 h173 h28 h195 h167)
      refine sv_aload_n (pc := 24) dX8_lastStanding_24 rfl rfl ?_
      refine sv_aload_n (pc := 25) dX8_lastStanding_25 rfl rfl ?_
      refine gf_X8_4 (pc := 26) dX8_lastStanding_26 wF_X8_34 (A_32 hw) hT ?_
      refine sv_aload_n (pc := 29) dX8_lastStanding_29 rfl rfl ?_
      refine gf_X8_5 (pc := 30) dX8_lastStanding_30 wF_X8_39 (A_32 hw) hT ?_
      refine mr_iload (pc := 33) (z := z164) dX8_lastStanding_33 rfl ?_
      refine la_66 (pc := 35) dX8_lastStanding_35 (A_66 hw) hT (rIx (n := 10) h195 rfl) fun z197 q198 h199 => ?_
      refine la_35 (pc := 36) dX8_lastStanding_36 (A_35 hw) hT (rIx (n := 10) h199 rfl) fun b200 q201 A202 => ?_
      refine sv_aload_n (pc := 37) dX8_lastStanding_37 rfl rfl ?_
      refine gf_X8_4 (pc := 38) dX8_lastStanding_38 wF_X8_34 (A_32 hw) hT ?_
      refine mr_iload_n (pc := 41) (z := z165) dX8_lastStanding_41 rfl rfl ?_
      refine la_35 (pc := 42) dX8_lastStanding_42 (A_35 hw) hT (rIx (n := 10) h167 rfl) fun b203 q204 A205 => ?_
      refine mr_cVP (pc := 43) (c_X0_prefers hw hT hA1 A202 A205) (gOk _ _ _ _ _) dX8_lastStanding_43 (tX0_prefers _ _ _ _ _) ⟨wV_X0_prefers, wL_X0_prefers⟩ wM_X8_235 (gCX0 _ _ _ _ _) rfl hA1 rfl ⟨le_t rfl, le_t rfl⟩ ⟨le_t rfl, le_t rfl⟩ rfl (le_t rfl) fun z210 h209 => ?_
      refine mr_if_eq (pc := 46) (tgt := 57) dX8_lastStanding_46 (by decide) (r32 h209.1 rfl) (fun h213 => ?_) (fun h213 => ?_)
      · have h214 : 0 ≤ z210 ∧ z210 ≤ 0 := (vc_X12_letWay_6 h213 h209.1)
        refine mr_iinc (pc := 57) (lv' := [(4, iv (z164 + 1)), (0, .ref 32), (1, .ref a1), (2, iv p2), (3, iv z165)]) dX8_lastStanding_57 rfl (by decide) rfl ?_
        refine sv_goto (pc := 60) (tgt := 18) dX8_lastStanding_60 (by decide) ?_
        refine mr_lvS (lv' := [(0, .ref 32), (1, .ref a1), (2, iv p2), (3, iv z165), (4, iv (z164 + 1))]) (List.forall_mem_cons.mpr ⟨rfl, List.forall_mem_cons.mpr ⟨rfl, List.forall_mem_cons.mpr ⟨rfl, List.forall_mem_cons.mpr ⟨rfl, List.forall_mem_cons.mpr ⟨rfl, fun _ h => absurd h List.not_mem_nil⟩⟩⟩⟩⟩) ?_
        exact ih175 z165 (z164 + 1) trivial h167 (rW (c := 1) (d := 10) (rAdd (e := 2) (f := 10) h195 (rR (x := 1)) rfl) rfl) (vc_X8_lastStanding_14 h6 h172 h173 h194 h196 h195 h167) (vc_X8_lastStanding_15 h6 h172 h173 h194 h196 h195 h167) (vc_X8_lastStanding_16 (nS h174) h194 h6 h172 h173 h196 h195 h167)
      have h215 : 1 ≤ z210 ∧ z210 ≤ 1 := (vc_X12_letWay_11 h213 h209.1)
      refine sv_aload_n (pc := 49) dX8_lastStanding_49 rfl rfl ?_
      refine gf_X8_5 (pc := 50) dX8_lastStanding_50 wF_X8_39 (A_32 hw) hT ?_
      refine mr_iload (pc := 53) (z := z164) dX8_lastStanding_53 rfl ?_
      refine lk_66 (pc := 55) dX8_lastStanding_55 (A_66 hw) (rIx (n := 10) h195 rfl) q198 ?_
      refine mr_istore_n (pc := 56) (lv' := [(3, iv z197), (0, .ref 32), (1, .ref a1), (2, iv p2), (4, iv z164)]) dX8_lastStanding_56 rfl (by decide) rfl ?_
      refine mr_iinc (pc := 57) (lv' := [(4, iv (z164 + 1)), (3, iv z197), (0, .ref 32), (1, .ref a1), (2, iv p2)]) dX8_lastStanding_57 rfl (by decide) rfl ?_
      refine sv_goto (pc := 60) (tgt := 18) dX8_lastStanding_60 (by decide) ?_
      refine mr_lvS (lv' := [(0, .ref 32), (1, .ref a1), (2, iv p2), (3, iv z197), (4, iv (z164 + 1))]) (List.forall_mem_cons.mpr ⟨rfl, List.forall_mem_cons.mpr ⟨rfl, List.forall_mem_cons.mpr ⟨rfl, List.forall_mem_cons.mpr ⟨rfl, List.forall_mem_cons.mpr ⟨rfl, fun _ h => absurd h List.not_mem_nil⟩⟩⟩⟩⟩) ?_
      exact ih175 z197 (z164 + 1) trivial h199 (rW (c := 1) (d := 10) (rAdd (e := 2) (f := 10) h195 (rR (x := 1)) rfl) rfl) (vc_X8_lastStanding_18 h6 h172 h173 h194 h196 h195 h167 h199) (vc_X8_lastStanding_19 h6 h172 h173 h194 h196 h195 h167 h199) (vc_X8_lastStanding_16 (nS h174) h194 h6 h172 h173 h196 h195 h167)
  refine mr_lvS (lv' := [(0, .ref 32), (1, .ref a1), (2, iv p2), (3, iv z29), (4, iv 1)]) (List.forall_mem_cons.mpr ⟨rfl, List.forall_mem_cons.mpr ⟨rfl, List.forall_mem_cons.mpr ⟨rfl, List.forall_mem_cons.mpr ⟨rfl, List.forall_mem_cons.mpr ⟨rfl, fun _ h => absurd h List.not_mem_nil⟩⟩⟩⟩⟩) ?_
  exact L166 11 z29 1 trivial h31 (rW (c := 1) (d := 10) (rR (x := 1)) rfl) (vc_X8_lastStanding_20 h6 h28 h31) (vc_X8_lastStanding_21 h6 h28 h31) vc_X8_lastStanding_22
theorem vc_X8_bestOfGroup_2 {n1 z63 z73 : Int} (h0 : z63 < z73) (h1 : (z73 = 0 ∨ 0 < n1)) (h2 : 1 ≤ z63 ∧ z63 ≤ 10) (h3 : 0 ≤ z73 ∧ z73 ≤ 10) : 1 ≤ z63 ∧ z63 ≤ 9 := by omega
theorem vc_X8_bestOfGroup_3 {n1 z63 z73 : Int} (h0 : z63 < z73) (h1 : (z73 = 0 ∨ 0 < n1)) (h2 : 1 ≤ z63 ∧ z63 ≤ 9) (h3 : 0 ≤ z73 ∧ z73 ≤ 10) : 2 ≤ z73 ∧ z73 ≤ 10 := by omega
theorem vc_X8_bestOfGroup_5 {N n1 z63 z73 : Int} (h0 : (11 - z63) < N + 1) (h1 : z63 < z73) (h2 : (z73 = 0 ∨ 0 < n1)) (h3 : 1 ≤ z63 ∧ z63 ≤ 9) (h4 : 2 ≤ z73 ∧ z73 ≤ 10) : (11 - (z63 + 1)) < N := by omega
theorem vc_X8_bestOfGroup_9 {p2 : Int} (h0 : 0 ≤ p2 ∧ p2 ≤ 9) : (11 - (p2 + 1)) < ((11 : Nat) : Int) := by omega
set_option maxRecDepth 4000 in
set_option maxHeartbeats 4000000 in
theorem c_X8_bestOfGroup {l : Launch} {D : va_G} {c : Nat → ClassId} {H0 : Heap} {sa : Nat × Nat × (Nat → Int32)} {w : mW} {μ : mM} (hw : mWF w) (hT : mT w μ) {a1 : Nat} (hA1 : mAt w a1 210) {p2 : Int} (hp2 : 0 ≤ p2 ∧ p2 ≤ 9) : sC (gG l D c H0 sa) mX8_bestOfGroup 4 0 0 [.ref 32, .ref a1, iv p2] (mk w μ) (qP w μ (fun z => (0 ≤ z ∧ z ≤ 9) ∧ True)) := by
  refine sC.of rfl (by decide) (le_t rfl) ?_
  refine mr_lvE (lv' := [(0, .ref 32), (1, .ref a1), (2, iv p2)]) rfl ?_
  refine mr_iload_n (pc := 0) (z := p2) dX8_bestOfGroup_0 rfl rfl ?_
  refine mr_istore_n (pc := 1) (lv' := [(3, iv p2), (0, .ref 32), (1, .ref a1), (2, iv p2)]) dX8_bestOfGroup_1 rfl (by decide) rfl ?_
  refine mr_iload_n (pc := 2) (z := p2) dX8_bestOfGroup_2 rfl rfl ?_
  refine mr_iconst (pc := 3) (z := 1) dX8_bestOfGroup_3 ?_
  refine mr_iadd (pc := 4) (x := p2) (y := 1) dX8_bestOfGroup_4 ?_
  refine mr_istore (pc := 5) (lv' := [(4, iv (p2 + 1)), (3, iv p2), (0, .ref 32), (1, .ref a1), (2, iv p2)]) dX8_bestOfGroup_5 (by decide) rfl ?_
  have L65 : ∀ (nL65 : Nat) (z64 z63 : Int), True → (0 ≤ z64 ∧ z64 ≤ 9) → (1 ≤ z63 ∧ z63 ≤ 10) → (11 - z63) < (nL65 : Int) → sV (gG l D c H0 sa) mX8_bestOfGroup (sRm 4 0 0) (sZ (gG l D c H0 sa) 0 0 (qP w μ (fun z => (0 ≤ z ∧ z ≤ 9) ∧ True))) 7 [(0, .ref 32), (1, .ref a1), (2, iv p2), (3, iv z64), (4, iv z63)] [] (mk w μ) 0 0 := by
    intro nL65
    induction nL65 with
    | zero => intro z64 z63 _ h66 h67 h71; exact ((vc_X8_lastStanding_9 h71 h67)).elim
    | succ nL65 ih72 =>
      intro z64 z63 _ h66 h67 h71
      refine mr_iload (pc := 7) (z := z63) dX8_bestOfGroup_7 rfl ?_
      refine sv_aload_n (pc := 9) dX8_bestOfGroup_9 rfl rfl ?_
      refine gf_X8_9 (pc := 10) dX8_bestOfGroup_10 wF_X8_200 (A_32 hw) hT fun z73 q74 h75 => ?_
      have h76 : 0 ≤ z73 ∧ z73 ≤ 10 := ⟨h75.1, h75.2.1⟩
      refine mr_icmp_ge (pc := 13) (tgt := 64) dX8_bestOfGroup_13 (by decide) (r32 h67 rfl) (r32 h76 rfl) (fun h102 => ?_) (fun h102 => ?_)
      · refine mr_iload_n (pc := 64) (z := z64) dX8_bestOfGroup_64 rfl rfl ?_
        exact mr_iretP dX8_bestOfGroup_65 rfl (le_t rfl) (le_t rfl) ⟨h66, trivial⟩
      have h103 : 1 ≤ z63 ∧ z63 ≤ 9 := (vc_X8_bestOfGroup_2 h102 h75.2.2 h67 h76)
      have h104 : 2 ≤ z73 ∧ z73 ≤ 10 := (vc_X8_bestOfGroup_3 h102 h75.2.2 h103 h76)
      refine sv_aload_n (pc := 16) dX8_bestOfGroup_16 rfl rfl ?_
      refine gf_X8_4 (pc := 17) dX8_bestOfGroup_17 wF_X8_34 (A_32 hw) hT ?_
      refine mr_iload (pc := 20) (z := z63) dX8_bestOfGroup_20 rfl ?_
      refine la_35 (pc := 22) dX8_bestOfGroup_22 (A_35 hw) hT (rIx (n := 10) h103 rfl) fun b105 q106 A107 => ?_
      refine sv_aload_n (pc := 23) dX8_bestOfGroup_23 rfl rfl ?_
      refine gf_X8_4 (pc := 24) dX8_bestOfGroup_24 wF_X8_34 (A_32 hw) hT ?_
      refine mr_iload_n (pc := 27) (z := p2) dX8_bestOfGroup_27 rfl rfl ?_
      refine la_35 (pc := 28) dX8_bestOfGroup_28 (A_35 hw) hT (rIx (n := 10) hp2 rfl) fun b108 q109 A110 => ?_
      refine mr_cVP (pc := 29) (c_X7_sharesFirst hw hT A107 A110) (gOk _ _ _ _ _) dX8_bestOfGroup_29 (tX7_sharesFirst _ _ _ _ _) ⟨wV_X7_sharesFirst, wL_X7_sharesFirst⟩ wM_X8_239 (gCX7 _ _ _ _ _) rfl A107 rfl ⟨le_t rfl, le_t rfl⟩ ⟨le_t rfl, le_t rfl⟩ rfl (le_t rfl) fun z115 h114 => ?_
      refine mr_if_eq (pc := 32) (tgt := 58) dX8_bestOfGroup_32 (by decide) (r32 h114.1 rfl) (fun h128 => ?_) (fun h128 => ?_)
      · have h129 : 0 ≤ z115 ∧ z115 ≤ 0 := (vc_X12_letWay_6 h128 h114.1)
        refine mr_iinc (pc := 58) (lv' := [(4, iv (z63 + 1)), (0, .ref 32), (1, .ref a1), (2, iv p2), (3, iv z64)]) dX8_bestOfGroup_58 rfl (by decide) rfl ?_
        refine sv_goto (pc := 61) (tgt := 7) dX8_bestOfGroup_61 (by decide) ?_
        refine mr_lvS (lv' := [(0, .ref 32), (1, .ref a1), (2, iv p2), (3, iv z64), (4, iv (z63 + 1))]) (List.forall_mem_cons.mpr ⟨rfl, List.forall_mem_cons.mpr ⟨rfl, List.forall_mem_cons.mpr ⟨rfl, List.forall_mem_cons.mpr ⟨rfl, List.forall_mem_cons.mpr ⟨rfl, fun _ h => absurd h List.not_mem_nil⟩⟩⟩⟩⟩) ?_
        exact ih72 z64 (z63 + 1) trivial h66 (rW (c := 1) (d := 10) (rAdd (e := 2) (f := 10) h103 (rR (x := 1)) rfl) rfl) (vc_X8_bestOfGroup_5 (nS h71) h102 h75.2.2 h103 h104)
      have h130 : 1 ≤ z115 ∧ z115 ≤ 1 := (vc_X12_letWay_11 h128 h114.1)
      refine sv_aload_n (pc := 35) dX8_bestOfGroup_35 rfl rfl ?_
      refine sv_aload_n (pc := 36) dX8_bestOfGroup_36 rfl rfl ?_
      refine gf_X8_4 (pc := 37) dX8_bestOfGroup_37 wF_X8_34 (A_32 hw) hT ?_
      refine mr_iload (pc := 40) (z := z63) dX8_bestOfGroup_40 rfl ?_
      refine lk_35 (pc := 42) dX8_bestOfGroup_42 (A_35 hw) (rIx (n := 10) h103 rfl) q106 ?_
      refine sv_aload_n (pc := 43) dX8_bestOfGroup_43 rfl rfl ?_
      refine gf_X8_4 (pc := 44) dX8_bestOfGroup_44 wF_X8_34 (A_32 hw) hT ?_
      refine mr_iload_n (pc := 47) (z := z64) dX8_bestOfGroup_47 rfl rfl ?_
      refine la_35 (pc := 48) dX8_bestOfGroup_48 (A_35 hw) hT (rIx (n := 10) h66 rfl) fun b131 q132 A133 => ?_
      refine mr_cVP (pc := 49) (c_X0_prefers hw hT hA1 A107 A133) (gOk _ _ _ _ _) dX8_bestOfGroup_49 (tX0_prefers _ _ _ _ _) ⟨wV_X0_prefers, wL_X0_prefers⟩ wM_X8_235 (gCX0 _ _ _ _ _) rfl hA1 rfl ⟨le_t rfl, le_t rfl⟩ ⟨le_t rfl, le_t rfl⟩ rfl (le_t rfl) fun z138 h137 => ?_
      refine mr_if_eq (pc := 52) (tgt := 58) dX8_bestOfGroup_52 (by decide) (r32 h137.1 rfl) (fun h141 => ?_) (fun h141 => ?_)
      · have h142 : 0 ≤ z138 ∧ z138 ≤ 0 := (vc_X12_letWay_6 h141 h137.1)
        refine mr_iinc (pc := 58) (lv' := [(4, iv (z63 + 1)), (0, .ref 32), (1, .ref a1), (2, iv p2), (3, iv z64)]) dX8_bestOfGroup_58 rfl (by decide) rfl ?_
        refine sv_goto (pc := 61) (tgt := 7) dX8_bestOfGroup_61 (by decide) ?_
        refine mr_lvS (lv' := [(0, .ref 32), (1, .ref a1), (2, iv p2), (3, iv z64), (4, iv (z63 + 1))]) (List.forall_mem_cons.mpr ⟨rfl, List.forall_mem_cons.mpr ⟨rfl, List.forall_mem_cons.mpr ⟨rfl, List.forall_mem_cons.mpr ⟨rfl, List.forall_mem_cons.mpr ⟨rfl, fun _ h => absurd h List.not_mem_nil⟩⟩⟩⟩⟩) ?_
        exact ih72 z64 (z63 + 1) trivial h66 (rW (c := 1) (d := 10) (rAdd (e := 2) (f := 10) h103 (rR (x := 1)) rfl) rfl) (vc_X8_bestOfGroup_5 (nS h71) h102 h75.2.2 h103 h104)
      have h143 : 1 ≤ z138 ∧ z138 ≤ 1 := (vc_X12_letWay_11 h141 h137.1)
      refine mr_iload (pc := 55) (z := z63) dX8_bestOfGroup_55 rfl ?_
      refine mr_istore_n (pc := 57) (lv' := [(3, iv z63), (0, .ref 32), (1, .ref a1), (2, iv p2), (4, iv z63)]) dX8_bestOfGroup_57 rfl (by decide) rfl ?_
      refine mr_iinc (pc := 58) (lv' := [(4, iv (z63 + 1)), (3, iv z63), (0, .ref 32), (1, .ref a1), (2, iv p2)]) dX8_bestOfGroup_58 rfl (by decide) rfl ?_
      refine sv_goto (pc := 61) (tgt := 7) dX8_bestOfGroup_61 (by decide) ?_
      refine mr_lvS (lv' := [(0, .ref 32), (1, .ref a1), (2, iv p2), (3, iv z63), (4, iv (z63 + 1))]) (List.forall_mem_cons.mpr ⟨rfl, List.forall_mem_cons.mpr ⟨rfl, List.forall_mem_cons.mpr ⟨rfl, List.forall_mem_cons.mpr ⟨rfl, List.forall_mem_cons.mpr ⟨rfl, fun _ h => absurd h List.not_mem_nil⟩⟩⟩⟩⟩) ?_
      exact ih72 z63 (z63 + 1) trivial (rW (c := 0) (d := 9) h103 rfl) (rW (c := 1) (d := 10) (rAdd (e := 2) (f := 10) h103 (rR (x := 1)) rfl) rfl) (vc_X8_bestOfGroup_5 (nS h71) h102 h75.2.2 h103 h104)
  refine mr_lvS (lv' := [(0, .ref 32), (1, .ref a1), (2, iv p2), (3, iv p2), (4, iv (p2 + 1))]) (List.forall_mem_cons.mpr ⟨rfl, List.forall_mem_cons.mpr ⟨rfl, List.forall_mem_cons.mpr ⟨rfl, List.forall_mem_cons.mpr ⟨rfl, List.forall_mem_cons.mpr ⟨rfl, fun _ h => absurd h List.not_mem_nil⟩⟩⟩⟩⟩) ?_
  exact L65 11 p2 (p2 + 1) trivial hp2 (rAdd (e := 1) (f := 10) hp2 (rR (x := 1)) rfl) (vc_X8_bestOfGroup_9 hp2)
theorem vc_X8_pickPlain_2 {n1 z106 z120 z97 : Int} (h0 : (z106 = 0 ∨ 0 < n1)) (h1 : z120 < 0 ∨ 0 < z106) (h2 : z106 ≤ z97) (h3 : 0 ≤ z106 ∧ z106 ≤ 10) (h4 : (-1) ≤ z120 ∧ z120 ≤ 9) (h5 : 0 ≤ z97 ∧ z97 ≤ 10) : z120 < 0 ∨ 0 < n1 := by omega
theorem vc_X8_pickPlain_3 {n1 z106 z97 : Int} (h0 : z97 < z106) (h1 : (z106 = 0 ∨ 0 < n1)) (h2 : 0 ≤ z106 ∧ z106 ≤ 10) (h3 : 0 ≤ z97 ∧ z97 ≤ 10) : 0 ≤ z97 ∧ z97 ≤ 9 := by omega
theorem vc_X8_pickPlain_4 {n1 z106 z97 : Int} (h0 : z97 < z106) (h1 : (z106 = 0 ∨ 0 < n1)) (h2 : 0 ≤ z106 ∧ z106 ≤ 10) (h3 : 0 ≤ z97 ∧ z97 ≤ 9) : 1 ≤ z106 ∧ z106 ≤ 10 := by omega
theorem vc_X8_pickPlain_5 {N n1 z106 z97 : Int} (h0 : (11 - z97) < N + 1) (h1 : z97 < z106) (h2 : (z106 = 0 ∨ 0 < n1)) (h3 : 1 ≤ z106 ∧ z106 ≤ 10) (h4 : 0 ≤ z97 ∧ z97 ≤ 9) : (11 - (z97 + 1)) < N := by omega
set_option maxRecDepth 4000 in
set_option maxHeartbeats 4000000 in
theorem c_X8_pickPlain {l : Launch} {D : va_G} {c : Nat → ClassId} {H0 : Heap} {sa : Nat × Nat × (Nat → Int32)} {w : mW} {μ : mM} (hw : mWF w) (hT : mT w μ) {a1 : Nat} (hA1 : mAt w a1 210) : sC (gG l D c H0 sa) mX8_pickPlain 5 0 0 [.ref 32, .ref a1] (mk w μ) (qI w [66999] μ (fun z μ1 => ((-1) ≤ z ∧ z ≤ 9) ∧ (z < 0 ∨ 0 < w.2.2.2 1) ∧ True)) := by
  refine sC.of rfl (by decide) (le_t rfl) ?_
  refine mr_lvE (lv' := [(0, .ref 32), (1, .ref a1)]) rfl ?_
  refine mr_iconst (pc := 0) (z := 0) dX8_pickPlain_0 ?_
  refine mr_istore_n (pc := 1) (lv' := [(2, iv 0), (0, .ref 32), (1, .ref a1)]) dX8_pickPlain_1 rfl (by decide) rfl ?_
  have L99 : ∀ (nL99 : Nat) (z97 : Int) (μ98 : mM), mT w μ98 → mF [66999] w μ μ98 → (0 ≤ z97 ∧ z97 ≤ 10) → (11 - z97) < (nL99 : Int) → sV (gG l D c H0 sa) mX8_pickPlain (sRm 5 0 0) (sZ (gG l D c H0 sa) 0 0 (qI w [66999] μ (fun z μ1 => ((-1) ≤ z ∧ z ≤ 9) ∧ (z < 0 ∨ 0 < w.2.2.2 1) ∧ True))) 2 [(0, .ref 32), (1, .ref a1), (2, iv z97)] [] (mk w μ98) 0 0 := by
    intro nL99
    induction nL99 with
    | zero => intro z97 μ98 T101 F102 h100 h104; exact ((vc_X12_sends_1 h104 h100)).elim
    | succ nL99 ih105 =>
      intro z97 μ98 T101 F102 h100 h104
      refine mr_iload_n (pc := 2) (z := z97) dX8_pickPlain_2 rfl rfl ?_
      refine sv_aload_n (pc := 3) dX8_pickPlain_3 rfl rfl ?_
      refine gf_X8_9 (pc := 4) dX8_pickPlain_4 wF_X8_200 (A_32 hw) T101 fun z106 q107 h108 => ?_
      have h109 : 0 ≤ z106 ∧ z106 ≤ 10 := ⟨h108.1, h108.2.1⟩
      refine mr_icmp_ge (pc := 7) (tgt := 23) dX8_pickPlain_7 (by decide) (r32 h100 rfl) (r32 h109 rfl) (fun h115 => ?_) (fun h115 => ?_)
      · refine sv_aload_n (pc := 23) dX8_pickPlain_23 rfl rfl ?_
        refine sv_aload_n (pc := 24) dX8_pickPlain_24 rfl rfl ?_
        refine sv_aload_n (pc := 25) dX8_pickPlain_25 rfl rfl ?_
        refine gk_X8_9 (pc := 26) dX8_pickPlain_26 wF_X8_200 (A_32 hw) q107 ?_
        refine mr_cVP (pc := 29) (c_X8_lastStanding hw T101 hA1 h109) (gOk _ _ _ _ _) dX8_pickPlain_29 (tX8_lastStanding _ _ _ _ _) ⟨wV_X8_lastStanding, wL_X8_lastStanding⟩ wM_X8_222 (gCX8 _ _ _ _ _) rfl (A_32 hw) rfl ⟨le_t rfl, le_t rfl⟩ ⟨le_t rfl, le_t rfl⟩ rfl (le_t rfl) fun z120 h119 => ?_
        exact mr_iret dX8_pickPlain_32 rfl (le_t rfl) (le_t rfl) T101 (mF.call mF.refl F102 rfl) ⟨h119.1, (vc_X8_pickPlain_2 h108.2.2 h119.2.1 h115 h109 h119.1 h100), trivial⟩
      have h121 : 0 ≤ z97 ∧ z97 ≤ 9 := (vc_X8_pickPlain_3 h115 h108.2.2 h109 h100)
      have h122 : 1 ≤ z106 ∧ z106 ≤ 10 := (vc_X8_pickPlain_4 h115 h108.2.2 h109 h121)
      refine sv_aload_n (pc := 10) dX8_pickPlain_10 rfl rfl ?_
      refine gf_X8_5 (pc := 11) dX8_pickPlain_11 wF_X8_39 (A_32 hw) T101 ?_
      refine mr_iload_n (pc := 14) (z := z97) dX8_pickPlain_14 rfl rfl ?_
      refine mr_iload_n (pc := 15) (z := z97) dX8_pickPlain_15 rfl rfl ?_
      refine ss_66 (pc := 16) dX8_pickPlain_16 (A_66 hw) T101 (rIx (n := 10) h121 rfl) h121 fun μ123 u124 T125 => ?_
      refine mr_iinc (pc := 17) (lv' := [(2, iv (z97 + 1)), (0, .ref 32), (1, .ref a1)]) dX8_pickPlain_17 rfl (by decide) rfl ?_
      refine sv_goto (pc := 20) (tgt := 2) dX8_pickPlain_20 (by decide) ?_
      refine mr_lvS (lv' := [(0, .ref 32), (1, .ref a1), (2, iv (z97 + 1))]) (List.forall_mem_cons.mpr ⟨rfl, List.forall_mem_cons.mpr ⟨rfl, List.forall_mem_cons.mpr ⟨rfl, fun _ h => absurd h List.not_mem_nil⟩⟩⟩) ?_
      exact ih105 (z97 + 1) μ123 T125 (mF.up (mF.call mF.refl F102 rfl) (A_66 hw) u124 rfl) (rW (c := 0) (d := 10) (rAdd (e := 1) (f := 10) h121 (rR (x := 1)) rfl) rfl) (vc_X8_pickPlain_5 (nS h104) h115 h108.2.2 h122 h121)
  refine mr_lvS (lv' := [(0, .ref 32), (1, .ref a1), (2, iv 0)]) (List.forall_mem_cons.mpr ⟨rfl, List.forall_mem_cons.mpr ⟨rfl, List.forall_mem_cons.mpr ⟨rfl, fun _ h => absurd h List.not_mem_nil⟩⟩⟩) ?_
  exact L99 12 0 μ hT mF.refl (rW (c := 0) (d := 10) (rR (x := 0)) rfl) vc_X12_sends_20
theorem vc_X8_pickGrouped_1 {n1 z193 z194 : Int} (h0 : (11 - z193) < ((0 : Nat) : Int)) (h1 : z194 ≤ z193) (h2 : z194 ≤ 0 ∨ 0 < n1) (h3 : 0 ≤ z193 ∧ z193 ≤ 10) (h4 : 0 ≤ z194 ∧ z194 ≤ 10) : False := by omega
theorem vc_X8_pickGrouped_2 {n1 z193 z194 z206 z233 : Int} (h0 : z194 ≤ 0 ∨ 0 < n1) (h1 : (z206 = 0 ∨ 0 < n1)) (h2 : z233 < 0 ∨ 0 < z194) (h3 : z194 ≤ z193) (h4 : z206 ≤ z193) (h5 : 0 ≤ z193 ∧ z193 ≤ 10) (h6 : 0 ≤ z194 ∧ z194 ≤ 10) (h7 : 0 ≤ z206 ∧ z206 ≤ 10) (h8 : (-1) ≤ z233 ∧ z233 ≤ 9) : z233 < 0 ∨ 0 < n1 := by omega
theorem vc_X8_pickGrouped_3 {n1 z193 z194 z206 : Int} (h0 : z193 < z206) (h1 : z194 ≤ z193) (h2 : (z206 = 0 ∨ 0 < n1)) (h3 : 0 ≤ z193 ∧ z193 ≤ 10) (h4 : 0 ≤ z194 ∧ z194 ≤ 10) (h5 : 0 ≤ z206 ∧ z206 ≤ 10) : 0 ≤ z193 ∧ z193 ≤ 9 := by omega
theorem vc_X8_pickGrouped_4 {n1 z193 z194 z206 : Int} (h0 : z193 < z206) (h1 : z194 ≤ z193) (h2 : (z206 = 0 ∨ 0 < n1)) (h3 : 0 ≤ z193 ∧ z193 ≤ 9) (h4 : 0 ≤ z194 ∧ z194 ≤ 10) (h5 : 0 ≤ z206 ∧ z206 ≤ 10) : 1 ≤ z206 ∧ z206 ≤ 10 := by omega
theorem vc_X8_pickGrouped_6 {n1 z193 z194 z206 : Int} (h0 : z194 ≤ z193) (h1 : z194 ≤ 0 ∨ 0 < n1) (h2 : z193 < z206) (h3 : (z206 = 0 ∨ 0 < n1)) (h4 : 0 ≤ z193 ∧ z193 ≤ 9) (h5 : 0 ≤ z194 ∧ z194 ≤ 10) (h6 : 1 ≤ z206 ∧ z206 ≤ 10) : z194 ≤ (z193 + 1) := by omega
theorem vc_X8_pickGrouped_7 {n1 z193 z194 z206 : Int} (h0 : z194 ≤ z193) (h1 : z194 ≤ 0 ∨ 0 < n1) (h2 : (z206 = 0 ∨ 0 < n1)) (h3 : z193 < z206) (h4 : 0 ≤ z193 ∧ z193 ≤ 9) (h5 : 0 ≤ z194 ∧ z194 ≤ 10) (h6 : 1 ≤ z206 ∧ z206 ≤ 10) : z194 ≤ 0 ∨ 0 < n1 := by omega
theorem vc_X8_pickGrouped_8 {N n1 z193 z194 z206 : Int} (h0 : (11 - z193) < N + 1) (h1 : z194 ≤ z193) (h2 : z193 < z206) (h3 : z194 ≤ 0 ∨ 0 < n1) (h4 : (z206 = 0 ∨ 0 < n1)) (h5 : 0 ≤ z193 ∧ z193 ≤ 9) (h6 : 0 ≤ z194 ∧ z194 ≤ 10) (h7 : 1 ≤ z206 ∧ z206 ≤ 10) : (11 - (z193 + 1)) < N := by omega
theorem vc_X8_pickGrouped_10 {n1 z193 z194 z206 : Int} (h0 : z194 ≤ z193) (h1 : z194 ≤ 0 ∨ 0 < n1) (h2 : (z206 = 0 ∨ 0 < n1)) (h3 : z193 < z206) (h4 : 0 ≤ z193 ∧ z193 ≤ 9) (h5 : 0 ≤ z194 ∧ z194 ≤ 10) (h6 : 1 ≤ z206 ∧ z206 ≤ 10) : 0 ≤ z194 ∧ z194 ≤ 9 := by omega
theorem vc_X8_pickGrouped_11 {n1 z193 z194 z206 : Int} (h0 : z194 ≤ z193) (h1 : z194 ≤ 0 ∨ 0 < n1) (h2 : (z206 = 0 ∨ 0 < n1)) (h3 : z193 < z206) (h4 : 0 ≤ z193 ∧ z193 ≤ 9) (h5 : 0 ≤ z194 ∧ z194 ≤ 10) (h6 : 1 ≤ z206 ∧ z206 ≤ 10) : 0 ≤ (z194 + 1) ∧ (z194 + 1) ≤ 10 := by omega
theorem vc_X8_pickGrouped_12 {n1 z193 z194 z206 : Int} (h0 : z194 ≤ z193) (h1 : z194 ≤ 0 ∨ 0 < n1) (h2 : z193 < z206) (h3 : (z206 = 0 ∨ 0 < n1)) (h4 : 0 ≤ z193 ∧ z193 ≤ 9) (h5 : 0 ≤ z194 ∧ z194 ≤ 10) (h6 : 1 ≤ z206 ∧ z206 ≤ 10) : (z194 + 1) ≤ (z193 + 1) := by omega
theorem vc_X8_pickGrouped_13 {n1 z193 z194 z206 : Int} (h0 : z194 ≤ z193) (h1 : z194 ≤ 0 ∨ 0 < n1) (h2 : (z206 = 0 ∨ 0 < n1)) (h3 : z193 < z206) (h4 : 0 ≤ z193 ∧ z193 ≤ 9) (h5 : 0 ≤ z194 ∧ z194 ≤ 10) (h6 : 1 ≤ z206 ∧ z206 ≤ 10) : (z194 + 1) ≤ 0 ∨ 0 < n1 := by omega
theorem vc_X8_pickGrouped_15 {n1 : Int}  : (0 : Int) ≤ 0 ∨ 0 < n1 := by omega
set_option maxRecDepth 4000 in
set_option maxHeartbeats 4000000 in
theorem c_X8_pickGrouped {l : Launch} {D : va_G} {c : Nat → ClassId} {H0 : Heap} {sa : Nat × Nat × (Nat → Int32)} {w : mW} {μ : mM} (hw : mWF w) (hT : mT w μ) {a1 : Nat} (hA1 : mAt w a1 210) : sC (gG l D c H0 sa) mX8_pickGrouped 5 0 0 [.ref 32, .ref a1] (mk w μ) (qI w [66999] μ (fun z μ1 => ((-1) ≤ z ∧ z ≤ 9) ∧ (z < 0 ∨ 0 < w.2.2.2 1) ∧ True)) := by
  refine sC.of rfl (by decide) (le_t rfl) ?_
  refine mr_lvE (lv' := [(0, .ref 32), (1, .ref a1)]) rfl ?_
  refine mr_iconst (pc := 0) (z := 0) dX8_pickGrouped_0 ?_
  refine mr_istore_n (pc := 1) (lv' := [(2, iv 0), (0, .ref 32), (1, .ref a1)]) dX8_pickGrouped_1 rfl (by decide) rfl ?_
  refine mr_iconst (pc := 2) (z := 0) dX8_pickGrouped_2 ?_
  refine mr_istore_n (pc := 3) (lv' := [(3, iv 0), (2, iv 0), (0, .ref 32), (1, .ref a1)]) dX8_pickGrouped_3 rfl (by decide) rfl ?_
  have L196 : ∀ (nL196 : Nat) (z194 z193 : Int) (μ195 : mM), mT w μ195 → mF [66999] w μ μ195 → (0 ≤ z194 ∧ z194 ≤ 10) → (0 ≤ z193 ∧ z193 ≤ 10) → (z194 ≤ z193) → (z194 ≤ 0 ∨ 0 < w.2.2.2 1) → (11 - z193) < (nL196 : Int) → sV (gG l D c H0 sa) mX8_pickGrouped (sRm 5 0 0) (sZ (gG l D c H0 sa) 0 0 (qI w [66999] μ (fun z μ1 => ((-1) ≤ z ∧ z ≤ 9) ∧ (z < 0 ∨ 0 < w.2.2.2 1) ∧ True))) 4 [(0, .ref 32), (1, .ref a1), (2, iv z194), (3, iv z193)] [] (mk w μ195) 0 0 := by
    intro nL196
    induction nL196 with
    | zero => intro z194 z193 μ195 T199 F200 h197 h198 h202 h203 h204; exact ((vc_X8_pickGrouped_1 h204 h202 h203 h198 h197)).elim
    | succ nL196 ih205 =>
      intro z194 z193 μ195 T199 F200 h197 h198 h202 h203 h204
      refine mr_iload_n (pc := 4) (z := z193) dX8_pickGrouped_4 rfl rfl ?_
      refine sv_aload_n (pc := 5) dX8_pickGrouped_5 rfl rfl ?_
      refine gf_X8_9 (pc := 6) dX8_pickGrouped_6 wF_X8_200 (A_32 hw) T199 fun z206 q207 h208 => ?_
      have h209 : 0 ≤ z206 ∧ z206 ≤ 10 := ⟨h208.1, h208.2.1⟩
      refine mr_icmp_ge (pc := 9) (tgt := 40) dX8_pickGrouped_9 (by decide) (r32 h198 rfl) (r32 h209 rfl) (fun h228 => ?_) (fun h228 => ?_)
      · refine sv_aload_n (pc := 40) dX8_pickGrouped_40 rfl rfl ?_
        refine sv_aload_n (pc := 41) dX8_pickGrouped_41 rfl rfl ?_
        refine mr_iload_n (pc := 42) (z := z194) dX8_pickGrouped_42 rfl rfl ?_
        refine mr_cVP (pc := 43) (c_X8_lastStanding hw T199 hA1 h197) (gOk _ _ _ _ _) dX8_pickGrouped_43 (tX8_lastStanding _ _ _ _ _) ⟨wV_X8_lastStanding, wL_X8_lastStanding⟩ wM_X8_222 (gCX8 _ _ _ _ _) rfl (A_32 hw) rfl ⟨le_t rfl, le_t rfl⟩ ⟨le_t rfl, le_t rfl⟩ rfl (le_t rfl) fun z233 h232 => ?_
        exact mr_iret dX8_pickGrouped_46 rfl (le_t rfl) (le_t rfl) T199 (mF.call mF.refl F200 rfl) ⟨h232.1, (vc_X8_pickGrouped_2 h203 h208.2.2 h232.2.1 h202 h228 h198 h197 h209 h232.1), trivial⟩
      have h234 : 0 ≤ z193 ∧ z193 ≤ 9 := (vc_X8_pickGrouped_3 h228 h202 h208.2.2 h198 h197 h209)
      have h235 : 1 ≤ z206 ∧ z206 ≤ 10 := (vc_X8_pickGrouped_4 h228 h202 h208.2.2 h234 h197 h209)
      refine sv_aload_n (pc := 12) dX8_pickGrouped_12 rfl rfl ?_
      refine mr_iload_n (pc := 13) (z := z193) dX8_pickGrouped_13 rfl rfl ?_
      refine mr_cVP (pc := 14) (c_X8_isFirstOfGroup hw T199 h234) (gOk _ _ _ _ _) dX8_pickGrouped_14 (tX8_isFirstOfGroup _ _ _ _ _) ⟨wV_X8_isFirstOfGroup, wL_X8_isFirstOfGroup⟩ wM_X8_226 (gCX8 _ _ _ _ _) rfl (A_32 hw) rfl ⟨le_t rfl, le_t rfl⟩ ⟨le_t rfl, le_t rfl⟩ rfl (le_t rfl) fun z240 h239 => ?_
      refine mr_if_eq (pc := 17) (tgt := 34) dX8_pickGrouped_17 (by decide) (r32 h239.1 rfl) (fun h252 => ?_) (fun h252 => ?_)
      · have h253 : 0 ≤ z240 ∧ z240 ≤ 0 := (vc_X12_letWay_6 h252 h239.1)
        refine mr_iinc (pc := 34) (lv' := [(3, iv (z193 + 1)), (0, .ref 32), (1, .ref a1), (2, iv z194)]) dX8_pickGrouped_34 rfl (by decide) rfl ?_
        refine sv_goto (pc := 37) (tgt := 4) dX8_pickGrouped_37 (by decide) ?_
        refine mr_lvS (lv' := [(0, .ref 32), (1, .ref a1), (2, iv z194), (3, iv (z193 + 1))]) (List.forall_mem_cons.mpr ⟨rfl, List.forall_mem_cons.mpr ⟨rfl, List.forall_mem_cons.mpr ⟨rfl, List.forall_mem_cons.mpr ⟨rfl, fun _ h => absurd h List.not_mem_nil⟩⟩⟩⟩) ?_
        exact ih205 z194 (z193 + 1) μ195 T199 (mF.call mF.refl F200 rfl) h197 (rW (c := 0) (d := 10) (rAdd (e := 1) (f := 10) h234 (rR (x := 1)) rfl) rfl) (vc_X8_pickGrouped_6 h202 h203 h228 h208.2.2 h234 h197 h235) (vc_X8_pickGrouped_7 h202 h203 h208.2.2 h228 h234 h197 h235) (vc_X8_pickGrouped_8 (nS h204) h202 h228 h203 h208.2.2 h234 h197 h235)
      have h254 : 1 ≤ z240 ∧ z240 ≤ 1 := (vc_X12_letWay_11 h252 h239.1)
      refine sv_aload_n (pc := 20) dX8_pickGrouped_20 rfl rfl ?_
      refine mr_iload_n (pc := 21) (z := z194) dX8_pickGrouped_21 rfl rfl ?_
      refine sv_aload_n (pc := 22) dX8_pickGrouped_22 rfl rfl ?_
      refine sv_aload_n (pc := 23) dX8_pickGrouped_23 rfl rfl ?_
      refine mr_iload_n (pc := 24) (z := z193) dX8_pickGrouped_24 rfl rfl ?_
      refine mr_cVP (pc := 25) (c_X8_bestOfGroup hw T199 hA1 h234) (gOk _ _ _ _ _) dX8_pickGrouped_25 (tX8_bestOfGroup _ _ _ _ _) ⟨wV_X8_bestOfGroup, wL_X8_bestOfGroup⟩ wM_X8_229 (gCX8 _ _ _ _ _) rfl (A_32 hw) rfl ⟨le_t rfl, le_t rfl⟩ ⟨le_t rfl, le_t rfl⟩ rfl (le_t rfl) fun z259 h258 => ?_
      refine mr_cVV (pc := 28) (c_X8_insertWinner hw T199 (vc_X8_pickGrouped_10 h202 h203 h208.2.2 h228 h234 h197 h235) h258.1) (gOk _ _ _ _ _) dX8_pickGrouped_28 (tX8_insertWinner _ _ _ _ _) ⟨wV_X8_insertWinner, wL_X8_insertWinner⟩ wM_X8_232 (gCX8 _ _ _ _ _) rfl (A_32 hw) rfl ⟨le_t rfl, le_t rfl⟩ ⟨le_t rfl, le_t rfl⟩ rfl (le_t rfl) fun μ260 T261 F262 h263 => ?_
      refine mr_iinc (pc := 31) (lv' := [(2, iv (z194 + 1)), (0, .ref 32), (1, .ref a1), (3, iv z193)]) dX8_pickGrouped_31 rfl (by decide) rfl ?_
      refine mr_iinc (pc := 34) (lv' := [(3, iv (z193 + 1)), (2, iv (z194 + 1)), (0, .ref 32), (1, .ref a1)]) dX8_pickGrouped_34 rfl (by decide) rfl ?_
      refine sv_goto (pc := 37) (tgt := 4) dX8_pickGrouped_37 (by decide) ?_
      refine mr_lvS (lv' := [(0, .ref 32), (1, .ref a1), (2, iv (z194 + 1)), (3, iv (z193 + 1))]) (List.forall_mem_cons.mpr ⟨rfl, List.forall_mem_cons.mpr ⟨rfl, List.forall_mem_cons.mpr ⟨rfl, List.forall_mem_cons.mpr ⟨rfl, fun _ h => absurd h List.not_mem_nil⟩⟩⟩⟩) ?_
      exact ih205 (z194 + 1) (z193 + 1) μ260 T261 (mF.call (mF.call mF.refl F200 rfl) F262 rfl) (vc_X8_pickGrouped_11 h202 h203 h208.2.2 h228 h234 h197 h235) (rW (c := 0) (d := 10) (rAdd (e := 1) (f := 10) h234 (rR (x := 1)) rfl) rfl) (vc_X8_pickGrouped_12 h202 h203 h228 h208.2.2 h234 h197 h235) (vc_X8_pickGrouped_13 h202 h203 h208.2.2 h228 h234 h197 h235) (vc_X8_pickGrouped_8 (nS h204) h202 h228 h203 h208.2.2 h234 h197 h235)
  refine mr_lvS (lv' := [(0, .ref 32), (1, .ref a1), (2, iv 0), (3, iv 0)]) (List.forall_mem_cons.mpr ⟨rfl, List.forall_mem_cons.mpr ⟨rfl, List.forall_mem_cons.mpr ⟨rfl, List.forall_mem_cons.mpr ⟨rfl, fun _ h => absurd h List.not_mem_nil⟩⟩⟩⟩) ?_
  exact L196 12 0 0 μ hT mF.refl (rW (c := 0) (d := 10) (rR (x := 0)) rfl) (rW (c := 0) (d := 10) (rR (x := 0)) rfl) vc_X12_dropMark_20 vc_X8_pickGrouped_15 vc_X12_sends_20
theorem vc_X4_forget_2 {z119 : Int} (h0 : 7 ≤ z119) (h1 : 1 ≤ z119 ∧ z119 ≤ 7) : 7 ≤ z119 ∧ z119 ≤ 7 := by omega
theorem vc_X4_forget_3 {z119 : Int} (h0 : z119 < 7) (h1 : 1 ≤ z119 ∧ z119 ≤ 7) : 1 ≤ z119 ∧ z119 ≤ 6 := by omega
theorem vc_X4_forget_4 {N z119 : Int} (h0 : (8 - z119) < N + 1) (h1 : z119 < 7) (h2 : 1 ≤ z119 ∧ z119 ≤ 6) : (8 - (z119 + 1)) < N := by omega
set_option maxRecDepth 4000 in
set_option maxHeartbeats 4000000 in
theorem c_X4_forget {l : Launch} {D : va_G} {c : Nat → ClassId} {H0 : Heap} {sa : Nat × Nat × (Nat → Int32)} {w : mW} {μ : mM} (hw : mWF w) (hT : mT w μ) : sC (gG l D c H0 sa) mX4_forget 1 0 0 [.ref 94] (mk w μ) (qI w [94010, 94011, 95999] μ (fun z μ1 => ((-2147483648) ≤ z ∧ z ≤ 2147483647) ∧ True)) := by
  refine sC.of rfl (by decide) (le_t rfl) ?_
  refine mr_lvE (lv' := [(0, .ref 94)]) rfl ?_
  refine mr_iconst (pc := 0) (z := 0) dX4_forget_0 ?_
  refine mr_istore_n (pc := 1) (lv' := [(1, iv 0), (0, .ref 94)]) dX4_forget_1 rfl (by decide) rfl ?_
  refine mr_iconst (pc := 2) (z := 1) dX4_forget_2 ?_
  refine mr_istore_n (pc := 3) (lv' := [(2, iv 1), (1, iv 0), (0, .ref 94)]) dX4_forget_3 rfl (by decide) rfl ?_
  have L122 : ∀ (nL122 : Nat) (z120 z119 : Int) (μ121 : mM), mT w μ121 → mF [95999] w μ μ121 → ((-2147483648) ≤ z120 ∧ z120 ≤ 2147483647) → (1 ≤ z119 ∧ z119 ≤ 7) → (8 - z119) < (nL122 : Int) → sV (gG l D c H0 sa) mX4_forget (sRm 1 0 0) (sZ (gG l D c H0 sa) 0 0 (qI w [94010, 94011, 95999] μ (fun z μ1 => ((-2147483648) ≤ z ∧ z ≤ 2147483647) ∧ True))) 4 [(0, .ref 94), (1, iv z120), (2, iv z119)] [] (mk w μ121) 0 0 := by
    intro nL122
    induction nL122 with
    | zero => intro z120 z119 μ121 T125 F126 h123 h124 h128; exact ((vc_X12_clear_1 h128 h124)).elim
    | succ nL122 ih129 =>
      intro z120 z119 μ121 T125 F126 h123 h124 h128
      refine mr_iload_n (pc := 4) (z := z119) dX4_forget_4 rfl rfl ?_
      refine mr_bipush (pc := 5) (z := 7) dX4_forget_5 (by decide) ?_
      refine mr_icmp_ge (pc := 7) (tgt := 32) dX4_forget_7 (by decide) (r32 h124 rfl) (r32 (rR (x := 7)) rfl) (fun h140 => ?_) (fun h140 => ?_)
      · have h141 : 7 ≤ z119 ∧ z119 ≤ 7 := (vc_X4_forget_2 h140 h124)
        refine sv_aload_n (pc := 32) dX4_forget_32 rfl rfl ?_
        refine mr_iconst (pc := 33) (z := 0) dX4_forget_33 ?_
        refine pf_X4_10 (pc := 34) dX4_forget_34 wF_X4_52 (A_94 hw) T125 (rW (c := 0) (d := 1) (rR (x := 0)) rfl) fun μ142 u143 T144 => ?_
        refine sv_aload_n (pc := 37) dX4_forget_37 rfl rfl ?_
        refine mr_iconst (pc := 38) (z := 0) dX4_forget_38 ?_
        refine pf_X4_11 (pc := 39) dX4_forget_39 wF_X4_56 (A_94 hw) T144 (rW (c := 0) (d := 1) (rR (x := 0)) rfl) fun μ145 u146 T147 => ?_
        refine mr_iload_n (pc := 42) (z := z120) dX4_forget_42 rfl rfl ?_
        exact mr_iret dX4_forget_43 rfl (le_t rfl) (le_t rfl) T147 (mF.up (mF.up (mF.call mF.refl F126 rfl) (A_94 hw) u143 rfl) (A_94 hw) u146 rfl) ⟨h123, trivial⟩
      have h148 : 1 ≤ z119 ∧ z119 ≤ 6 := (vc_X4_forget_3 h140 h124)
      refine mr_iload_n (pc := 10) (z := z120) dX4_forget_10 rfl rfl ?_
      refine sv_aload_n (pc := 11) dX4_forget_11 rfl rfl ?_
      refine gf_X4_12 (pc := 12) dX4_forget_12 wF_X4_11 (A_94 hw) T125 ?_
      refine mr_iload_n (pc := 15) (z := z119) dX4_forget_15 rfl rfl ?_
      refine la_95 (pc := 16) dX4_forget_16 (A_95 hw) T125 (rIx (n := 7) h148 rfl) fun z149 q150 h151 => ?_
      refine mr_iadd (pc := 17) (x := z120) (y := z149) dX4_forget_17 ?_
      refine mr_wrap fun z152 h153 => ?_
      refine mr_istore_n (pc := 18) (lv' := [(1, iv z152), (0, .ref 94), (2, iv z119)]) dX4_forget_18 rfl (by decide) rfl ?_
      refine sv_aload_n (pc := 19) dX4_forget_19 rfl rfl ?_
      refine gf_X4_12 (pc := 20) dX4_forget_20 wF_X4_11 (A_94 hw) T125 ?_
      refine mr_iload_n (pc := 23) (z := z119) dX4_forget_23 rfl rfl ?_
      refine mr_iconst (pc := 24) (z := 0) dX4_forget_24 ?_
      refine ss_95 (pc := 25) dX4_forget_25 (A_95 hw) T125 (rIx (n := 7) h148 rfl) (rW (c := 0) (d := 5) (rR (x := 0)) rfl) fun μ154 u155 T156 => ?_
      refine mr_iinc (pc := 26) (lv' := [(2, iv (z119 + 1)), (1, iv z152), (0, .ref 94)]) dX4_forget_26 rfl (by decide) rfl ?_
      refine sv_goto (pc := 29) (tgt := 4) dX4_forget_29 (by decide) ?_
      refine mr_lvS (lv' := [(0, .ref 94), (1, iv z152), (2, iv (z119 + 1))]) (List.forall_mem_cons.mpr ⟨rfl, List.forall_mem_cons.mpr ⟨rfl, List.forall_mem_cons.mpr ⟨rfl, fun _ h => absurd h List.not_mem_nil⟩⟩⟩) ?_
      exact ih129 z152 (z119 + 1) μ154 T156 (mF.up (mF.call mF.refl F126 rfl) (A_95 hw) u155 rfl) h153 (rW (c := 1) (d := 7) (rAdd (e := 2) (f := 7) h148 (rR (x := 1)) rfl) rfl) (vc_X4_forget_4 (nS h128) h140 h148)
  refine mr_lvS (lv' := [(0, .ref 94), (1, iv 0), (2, iv 1)]) (List.forall_mem_cons.mpr ⟨rfl, List.forall_mem_cons.mpr ⟨rfl, List.forall_mem_cons.mpr ⟨rfl, fun _ h => absurd h List.not_mem_nil⟩⟩⟩) ?_
  exact L122 8 0 1 μ hT mF.refl (rW (c := (-2147483648)) (d := 2147483647) (rR (x := 0)) rfl) (rW (c := 1) (d := 7) (rR (x := 1)) rfl) vc_X12_clear_5
end
section
theorem vc_X4_actOf_2 {z104 z96 : Int} (h0 : z96 < z104) (h1 : 0 ≤ z104 ∧ z104 ≤ 5) (h2 : 0 ≤ z96 ∧ z96 ≤ 5) : 0 ≤ z96 ∧ z96 ≤ 4 := by omega
theorem vc_X4_actOf_3 {z104 z96 : Int} (h0 : z96 < z104) (h1 : 0 ≤ z104 ∧ z104 ≤ 5) (h2 : 0 ≤ z96 ∧ z96 ≤ 4) : 1 ≤ z104 ∧ z104 ≤ 5 := by omega
theorem vc_X4_actOf_6 {N z104 z96 : Int} (h0 : (6 - z96) < N + 1) (h1 : z96 < z104) (h2 : 1 ≤ z104 ∧ z104 ≤ 5) (h3 : 0 ≤ z96 ∧ z96 ≤ 4) : (6 - (z96 + 1)) < N := by omega
theorem vc_X4_actOf_7 {z116 z119 : Int} (h0 : z116 = z119) (h1 : 0 ≤ z116 ∧ z116 ≤ 46656) (h2 : (-1) ≤ z119 ∧ z119 ≤ 5) : 0 ≤ z116 ∧ z116 ≤ 5 := by omega
theorem vc_X4_actOf_8 {z116 z119 : Int} (h0 : z116 = z119) (h1 : 0 ≤ z116 ∧ z116 ≤ 5) (h2 : (-1) ≤ z119 ∧ z119 ≤ 5) : 0 ≤ z119 ∧ z119 ≤ 5 := by omega
set_option maxRecDepth 4000 in
set_option maxHeartbeats 4000000 in
theorem c_X4_actOf {l : Launch} {D : va_G} {c : Nat → ClassId} {H0 : Heap} {sa : Nat × Nat × (Nat → Int32)} {w : mW} {μ : mM} (hw : mWF w) (hT : mT w μ) {p1 : Int} (hp1 : 0 ≤ p1 ∧ p1 ≤ 6) : sC (gG l D c H0 sa) mX4_actOf 1 0 0 [.ref 94, iv p1] (mk w μ) (qP w μ (fun z => (0 ≤ z ∧ z ≤ 5) ∧ True)) := by
  refine sC.of rfl (by decide) (le_t rfl) ?_
  refine mr_lvE (lv' := [(0, .ref 94), (1, iv p1)]) rfl ?_
  refine mr_iconst (pc := 0) (z := 0) dX4_actOf_0 ?_
  refine mr_istore_n (pc := 1) (lv' := [(2, iv 0), (0, .ref 94), (1, iv p1)]) dX4_actOf_1 rfl (by decide) rfl ?_
  have L97 : ∀ (nL97 : Nat) (z96 : Int), True → (0 ≤ z96 ∧ z96 ≤ 5) → (6 - z96) < (nL97 : Int) → sV (gG l D c H0 sa) mX4_actOf (sRm 1 0 0) (sZ (gG l D c H0 sa) 0 0 (qP w μ (fun z => (0 ≤ z ∧ z ≤ 5) ∧ True))) 2 [(0, .ref 94), (1, iv p1), (2, iv z96)] [] (mk w μ) 0 0 := by
    intro nL97
    induction nL97 with
    | zero => intro z96 _ h98 h102; exact ((vc_X12_acted_1 h102 h98)).elim
    | succ nL97 ih103 =>
      intro z96 _ h98 h102
      refine mr_iload_n (pc := 2) (z := z96) dX4_actOf_2 rfl rfl ?_
      refine sv_aload_n (pc := 3) dX4_actOf_3 rfl rfl ?_
      refine gf_X4_12 (pc := 4) dX4_actOf_4 wF_X4_11 (A_94 hw) hT ?_
      refine mr_iload_n (pc := 7) (z := p1) dX4_actOf_7 rfl rfl ?_
      refine la_95 (pc := 8) dX4_actOf_8 (A_95 hw) hT (rIx (n := 7) hp1 rfl) fun z104 q105 h106 => ?_
      refine mr_icmp_ge (pc := 9) (tgt := 55) dX4_actOf_9 (by decide) (r32 h98 rfl) (r32 h106 rfl) (fun h107 => ?_) (fun h107 => ?_)
      · refine sv_aload_n (pc := 55) dX4_actOf_55 rfl rfl ?_
        refine gf_X4_12 (pc := 56) dX4_actOf_56 wF_X4_11 (A_94 hw) hT ?_
        refine mr_iload_n (pc := 59) (z := p1) dX4_actOf_59 rfl rfl ?_
        refine lk_95 (pc := 60) dX4_actOf_60 (A_95 hw) (rIx (n := 7) hp1 rfl) q105 ?_
        exact mr_iretP dX4_actOf_61 rfl (le_t rfl) (le_t rfl) ⟨h106, trivial⟩
      have h108 : 0 ≤ z96 ∧ z96 ≤ 4 := (vc_X4_actOf_2 h107 h106 h98)
      have h109 : 1 ≤ z104 ∧ z104 ≤ 5 := (vc_X4_actOf_3 h107 h106 h108)
      refine mr_iload_n (pc := 12) (z := p1) dX4_actOf_12 rfl rfl ?_
      refine mr_iconst (pc := 13) (z := 5) dX4_actOf_13 ?_
      refine mr_imul (pc := 14) (x := p1) (y := 5) dX4_actOf_14 ?_
      refine mr_iload_n (pc := 15) (z := z96) dX4_actOf_15 rfl rfl ?_
      refine mr_iadd (pc := 16) (x := (p1 * 5)) (y := z96) dX4_actOf_16 ?_
      refine mr_istore_n (pc := 17) (lv' := [(3, iv ((p1 * 5) + z96)), (0, .ref 94), (1, iv p1), (2, iv z96)]) dX4_actOf_17 rfl (by decide) rfl ?_
      refine sv_aload_n (pc := 18) dX4_actOf_18 rfl rfl ?_
      refine gf_X4_2 (pc := 19) dX4_actOf_19 wF_X4_21 (A_94 hw) hT ?_
      refine mr_iload_n (pc := 22) (z := ((p1 * 5) + z96)) dX4_actOf_22 rfl rfl ?_
      refine la_98 (pc := 23) dX4_actOf_23 (A_98 hw) hT (rIx (n := 35) (rAdd (e := 0) (f := 34) (rMulR (n := 5) (e := 0) (f := 30) hp1 rfl) h108 rfl) rfl) fun z110 q111 h112 => ?_
      refine mr_istore (pc := 24) (lv' := [(4, iv z110), (3, iv ((p1 * 5) + z96)), (0, .ref 94), (1, iv p1), (2, iv z96)]) dX4_actOf_24 (by decide) rfl ?_
      refine mr_iload (pc := 26) (z := z110) dX4_actOf_26 rfl ?_
      refine mr_if_eq (pc := 28) (tgt := 47) dX4_actOf_28 (by decide) (r32 h112 rfl) (fun h113 => ?_) (fun h113 => ?_)
      · have h114 : 0 ≤ z110 ∧ z110 ≤ 0 := (vc_X12_isOffered_13 h113 h112)
        refine mr_iload_n (pc := 47) (z := z96) dX4_actOf_47 rfl rfl ?_
        exact mr_iretP dX4_actOf_48 rfl (le_t rfl) (le_t rfl) ⟨(rW (c := 0) (d := 5) h108 rfl), trivial⟩
      have h115 : 1 ≤ z110 ∧ z110 ≤ 6 := (vc_X12_isOffered_1 h113 h112)
      refine sv_aload_n (pc := 31) dX4_actOf_31 rfl rfl ?_
      refine gf_X4_5 (pc := 32) dX4_actOf_32 wF_X4_30 (A_94 hw) hT ?_
      refine mr_iload (pc := 35) (z := z110) dX4_actOf_35 rfl ?_
      refine la_101 (pc := 37) dX4_actOf_37 (A_101 hw) hT (rIx (n := 7) h115 rfl) fun z116 q117 h118 => ?_
      refine sv_aload_n (pc := 38) dX4_actOf_38 rfl rfl ?_
      refine gf_X4_3 (pc := 39) dX4_actOf_39 wF_X4_24 (A_94 hw) hT ?_
      refine mr_iload_n (pc := 42) (z := ((p1 * 5) + z96)) dX4_actOf_42 rfl rfl ?_
      refine la_99 (pc := 43) dX4_actOf_43 (A_99 hw) hT (rIx (n := 35) (rAdd (e := 0) (f := 34) (rMulR (n := 5) (e := 0) (f := 30) hp1 rfl) h108 rfl) rfl) fun z119 q120 h121 => ?_
      refine mr_icmp_ne (pc := 44) (tgt := 49) dX4_actOf_44 (by decide) (r32 h118 rfl) (r32 h121 rfl) (fun h122 => ?_) (fun h122 => ?_)
      · refine mr_iinc (pc := 49) (lv' := [(2, iv (z96 + 1)), (4, iv z110), (3, iv ((p1 * 5) + z96)), (0, .ref 94), (1, iv p1)]) dX4_actOf_49 rfl (by decide) rfl ?_
        refine sv_goto (pc := 52) (tgt := 2) dX4_actOf_52 (by decide) ?_
        refine mr_lvS (lv' := [(0, .ref 94), (1, iv p1), (2, iv (z96 + 1))]) (List.forall_mem_cons.mpr ⟨rfl, List.forall_mem_cons.mpr ⟨rfl, List.forall_mem_cons.mpr ⟨rfl, fun _ h => absurd h List.not_mem_nil⟩⟩⟩) ?_
        exact ih103 (z96 + 1) trivial (rW (c := 0) (d := 5) (rAdd (e := 1) (f := 5) h108 (rR (x := 1)) rfl) rfl) (vc_X4_actOf_6 (nS h102) h107 h109 h108)
      have h123 : 0 ≤ z116 ∧ z116 ≤ 5 := (vc_X4_actOf_7 h122 h118 h121)
      have h124 : 0 ≤ z119 ∧ z119 ≤ 5 := (vc_X4_actOf_8 h122 h123 h121)
      refine mr_iload_n (pc := 47) (z := z96) dX4_actOf_47 rfl rfl ?_
      exact mr_iretP dX4_actOf_48 rfl (le_t rfl) (le_t rfl) ⟨(rW (c := 0) (d := 5) h108 rfl), trivial⟩
  refine mr_lvS (lv' := [(0, .ref 94), (1, iv p1), (2, iv 0)]) (List.forall_mem_cons.mpr ⟨rfl, List.forall_mem_cons.mpr ⟨rfl, List.forall_mem_cons.mpr ⟨rfl, fun _ h => absurd h List.not_mem_nil⟩⟩⟩) ?_
  exact L97 7 0 trivial (rW (c := 0) (d := 5) (rR (x := 0)) rfl) vc_X12_acted_13
theorem vc_X4_isRest_4 {z66 z73 : Int} (h0 : z66 = z73) (h1 : 0 ≤ z66 ∧ z66 ≤ 46656) (h2 : 0 ≤ z73 ∧ z73 ≤ 5) : 0 ≤ z66 ∧ z66 ≤ 5 := by omega
set_option maxRecDepth 4000 in
set_option maxHeartbeats 4000000 in
theorem c_X4_isRest {l : Launch} {D : va_G} {c : Nat → ClassId} {H0 : Heap} {sa : Nat × Nat × (Nat → Int32)} {w : mW} {μ : mM} (hw : mWF w) (hT : mT w μ) : sC (gG l D c H0 sa) mX4_isRest 2 0 0 [.ref 94] (mk w μ) (qP w μ (fun z => (0 ≤ z ∧ z ≤ 1) ∧ True)) := by
  refine sC.of rfl (by decide) (le_t rfl) ?_
  refine mr_lvE (lv' := [(0, .ref 94)]) rfl ?_
  refine mr_iconst (pc := 0) (z := 1) dX4_isRest_0 ?_
  refine mr_istore_n (pc := 1) (lv' := [(1, iv 1), (0, .ref 94)]) dX4_isRest_1 rfl (by decide) rfl ?_
  have L56 : ∀ (nL56 : Nat) (z55 : Int), True → (1 ≤ z55 ∧ z55 ≤ 7) → (8 - z55) < (nL56 : Int) → sV (gG l D c H0 sa) mX4_isRest (sRm 2 0 0) (sZ (gG l D c H0 sa) 0 0 (qP w μ (fun z => (0 ≤ z ∧ z ≤ 1) ∧ True))) 2 [(0, .ref 94), (1, iv z55)] [] (mk w μ) 0 0 := by
    intro nL56
    induction nL56 with
    | zero => intro z55 _ h57 h61; exact ((vc_X12_clear_1 h61 h57)).elim
    | succ nL56 ih62 =>
      intro z55 _ h57 h61
      refine mr_iload_n (pc := 2) (z := z55) dX4_isRest_2 rfl rfl ?_
      refine mr_bipush (pc := 3) (z := 7) dX4_isRest_3 (by decide) ?_
      refine mr_icmp_ge (pc := 5) (tgt := 30) dX4_isRest_5 (by decide) (r32 h57 rfl) (r32 (rR (x := 7)) rfl) (fun h63 => ?_) (fun h63 => ?_)
      · have h64 : 7 ≤ z55 ∧ z55 ≤ 7 := (vc_X4_forget_2 h63 h57)
        refine mr_iconst (pc := 30) (z := 1) dX4_isRest_30 ?_
        exact mr_zretP dX4_isRest_31 rfl (rW (c := 0) (d := 1) (rR (x := 1)) rfl) (le_t rfl) (le_t rfl) ⟨(rW (c := 0) (d := 1) (rR (x := 1)) rfl), trivial⟩
      have h65 : 1 ≤ z55 ∧ z55 ≤ 6 := (vc_X4_forget_3 h63 h57)
      refine sv_aload_n (pc := 8) dX4_isRest_8 rfl rfl ?_
      refine gf_X4_5 (pc := 9) dX4_isRest_9 wF_X4_30 (A_94 hw) hT ?_
      refine mr_iload_n (pc := 12) (z := z55) dX4_isRest_12 rfl rfl ?_
      refine la_101 (pc := 13) dX4_isRest_13 (A_101 hw) hT (rIx (n := 7) h65 rfl) fun z66 q67 h68 => ?_
      refine sv_aload_n (pc := 14) dX4_isRest_14 rfl rfl ?_
      refine mr_iload_n (pc := 15) (z := z55) dX4_isRest_15 rfl rfl ?_
      refine mr_cVP (pc := 16) (c_X4_actOf hw hT (rW (c := 0) (d := 6) h65 rfl)) (gOk _ _ _ _ _) dX4_isRest_16 (tX4_actOf _ _ _ _ _) ⟨wV_X4_actOf, wL_X4_actOf⟩ wM_X4_71 (gCX4 _ _ _ _ _) rfl (A_94 hw) rfl ⟨le_t rfl, le_t rfl⟩ ⟨le_t rfl, le_t rfl⟩ rfl (le_t rfl) fun z73 h72 => ?_
      refine mr_icmp_eq (pc := 19) (tgt := 24) dX4_isRest_19 (by decide) (r32 h68 rfl) (r32 h72.1 rfl) (fun h74 => ?_) (fun h74 => ?_)
      · have h75 : 0 ≤ z66 ∧ z66 ≤ 5 := (vc_X4_isRest_4 h74 h68 h72.1)
        refine mr_iinc (pc := 24) (lv' := [(1, iv (z55 + 1)), (0, .ref 94)]) dX4_isRest_24 rfl (by decide) rfl ?_
        refine sv_goto (pc := 27) (tgt := 2) dX4_isRest_27 (by decide) ?_
        refine mr_lvS (lv' := [(0, .ref 94), (1, iv (z55 + 1))]) (List.forall_mem_cons.mpr ⟨rfl, List.forall_mem_cons.mpr ⟨rfl, fun _ h => absurd h List.not_mem_nil⟩⟩) ?_
        exact ih62 (z55 + 1) trivial (rW (c := 1) (d := 7) (rAdd (e := 2) (f := 7) h65 (rR (x := 1)) rfl) rfl) (vc_X4_forget_4 (nS h61) h63 h65)
      refine mr_iconst (pc := 22) (z := 0) dX4_isRest_22 ?_
      exact mr_zretP dX4_isRest_23 rfl (rW (c := 0) (d := 1) (rR (x := 0)) rfl) (le_t rfl) (le_t rfl) ⟨(rW (c := 0) (d := 1) (rR (x := 0)) rfl), trivial⟩
  refine mr_lvS (lv' := [(0, .ref 94), (1, iv 1)]) (List.forall_mem_cons.mpr ⟨rfl, List.forall_mem_cons.mpr ⟨rfl, fun _ h => absurd h List.not_mem_nil⟩⟩) ?_
  exact L56 8 1 trivial (rW (c := 1) (d := 7) (rR (x := 1)) rfl) vc_X12_clear_5
theorem vc_X4_figure_1 {z1 : Int} (h0 : z1 ≤ 0) (h1 : 0 ≤ z1 ∧ z1 ≤ 46656) : 0 ≤ z1 ∧ z1 ≤ 0 := by omega
theorem vc_X4_figure_2 {z1 : Int} (h0 : 0 < z1) (h1 : 0 ≤ z1 ∧ z1 ≤ 46656) : 1 ≤ z1 ∧ z1 ≤ 46656 := by omega
theorem vc_X4_figure_3 {z1 : Int} (h0 : 0 < z1) (h1 : 1 ≤ z1 ∧ z1 ≤ 46656) : 0 < z1 ∧ z1 ≤ 2147483647 := by omega
set_option maxRecDepth 4000 in
set_option maxHeartbeats 4000000 in
theorem c_X4_figure {l : Launch} {D : va_G} {c : Nat → ClassId} {H0 : Heap} {sa : Nat × Nat × (Nat → Int32)} {w : mW} {μ : mM} (hw : mWF w) (hT : mT w μ) {p1 : Int} (hp1 : 0 ≤ p1 ∧ p1 ≤ 46655) {p2 : Int} (hp2 : 1 ≤ p2 ∧ p2 ≤ 6) : sC (gG l D c H0 sa) mX4_figure 1 0 0 [.ref 94, iv p1, iv p2] (mk w μ) (qP w μ (fun z => (0 ≤ z ∧ z ≤ 5) ∧ True)) := by
  refine sC.of rfl (by decide) (le_t rfl) ?_
  refine mr_lvE (lv' := [(0, .ref 94), (1, iv p1), (2, iv p2)]) rfl ?_
  refine sv_aload_n (pc := 0) dX4_figure_0 rfl rfl ?_
  refine gf_X4_4 (pc := 1) dX4_figure_1 wF_X4_27 (A_94 hw) hT ?_
  refine mr_iload_n (pc := 4) (z := p2) dX4_figure_4 rfl rfl ?_
  refine la_100 (pc := 5) dX4_figure_5 (A_100 hw) hT (rIx (n := 7) hp2 rfl) fun z1 q2 h3 => ?_
  refine mr_istore_n (pc := 6) (lv' := [(3, iv z1), (0, .ref 94), (1, iv p1), (2, iv p2)]) dX4_figure_6 rfl (by decide) rfl ?_
  refine mr_iload_n (pc := 7) (z := z1) dX4_figure_7 rfl rfl ?_
  refine mr_if_le (pc := 8) (tgt := 26) dX4_figure_8 (by decide) (r32 h3 rfl) (fun h15 => ?_) (fun h15 => ?_)
  · have h16 : 0 ≤ z1 ∧ z1 ≤ 0 := (vc_X4_figure_1 h15 h3)
    refine mr_iconst (pc := 26) (z := 0) dX4_figure_26 ?_
    exact mr_iretP dX4_figure_27 rfl (le_t rfl) (le_t rfl) ⟨(rW (c := 0) (d := 5) (rR (x := 0)) rfl), trivial⟩
  have h17 : 1 ≤ z1 ∧ z1 ≤ 46656 := (vc_X4_figure_2 h15 h3)
  refine mr_iload_n (pc := 11) (z := p1) dX4_figure_11 rfl rfl ?_
  refine mr_iload_n (pc := 12) (z := z1) dX4_figure_12 rfl rfl ?_
  refine mr_idiv (pc := 13) (x := p1) (y := z1) dX4_figure_13 (rW (c := 0) (d := 2147483647) hp1 rfl) (vc_X4_figure_3 h15 h17) ?_
  refine mr_gen (P := fun z => 0 ≤ z ∧ z ≤ 46655) (rDivV hp1 (vc_X4_figure_3 h15 h17) rfl) fun z18 q19 h20 => ?_
  refine sv_aload_n (pc := 14) dX4_figure_14 rfl rfl ?_
  refine gf_X4_12 (pc := 15) dX4_figure_15 wF_X4_11 (A_94 hw) hT ?_
  refine mr_iload_n (pc := 18) (z := p2) dX4_figure_18 rfl rfl ?_
  refine la_95 (pc := 19) dX4_figure_19 (A_95 hw) hT (rIx (n := 7) hp2 rfl) fun z21 q22 h23 => ?_
  refine mr_iconst (pc := 20) (z := 1) dX4_figure_20 ?_
  refine mr_iadd (pc := 21) (x := z21) (y := 1) dX4_figure_21 ?_
  refine mr_irem (pc := 22) (x := z18) (y := (z21 + 1)) dX4_figure_22 (rW (c := 0) (d := 2147483647) h20 rfl) (vc_X12_open_9 h23) ?_
  refine mr_gen (P := fun z => 0 ≤ z ∧ z ≤ 5) (rModV (rAdd (e := 1) (f := 6) h23 (rR (x := 1)) rfl) (vc_X12_open_9 h23) rfl) fun z24 q25 h26 => ?_
  refine sv_goto (pc := 23) (tgt := 27) dX4_figure_23 (by decide) ?_
  exact mr_iretP dX4_figure_27 rfl (le_t rfl) (le_t rfl) ⟨h26, trivial⟩
set_option maxRecDepth 4000 in
set_option maxHeartbeats 4000000 in
theorem c_X11_clear {l : Launch} {D : va_G} {c : Nat → ClassId} {H0 : Heap} {sa : Nat × Nat × (Nat → Int32)} {w : mW} {μ : mM} (hw : mWF w) (hT : mT w μ) : sC (gG l D c H0 sa) mX11_clear 2 0 0 [.ref 0] (mk w μ) (qI w [94010, 94011, 95999] μ (fun z μ1 => ((-2147483648) ≤ z ∧ z ≤ 2147483647) ∧ True)) := by
  refine sC.of rfl (by decide) (le_t rfl) ?_
  refine mr_lvE (lv' := [(0, .ref 0)]) rfl ?_
  refine sv_aload_n (pc := 0) dX11_clear_0 rfl rfl ?_
  refine gf_X11_9 (pc := 1) dX11_clear_1 wF_X11_72 (A_0 hw) hT ?_
  refine mr_cVI (pc := 4) (c_X4_forget hw hT) (gOk _ _ _ _ _) dX11_clear_4 (tX4_forget _ _ _ _ _) ⟨wV_X4_forget, wL_X4_forget⟩ wM_X11_394 (gCX4 _ _ _ _ _) rfl (A_94 hw) rfl ⟨le_t rfl, le_t rfl⟩ ⟨le_t rfl, le_t rfl⟩ rfl (le_t rfl) fun z5 μ1 T2 F3 h4 => ?_
  exact mr_iret dX11_clear_7 rfl (le_t rfl) (le_t rfl) T2 (mF.call mF.refl F3 rfl) ⟨h4.1, trivial⟩
set_option maxRecDepth 4000 in
set_option maxHeartbeats 4000000 in
theorem c_X11_count {l : Launch} {D : va_G} {c : Nat → ClassId} {H0 : Heap} {sa : Nat × Nat × (Nat → Int32)} {w : mW} {μ : mM} (hw : mWF w) (hT : mT w μ) {p1 : Int} (hp1 : (-2147483648) ≤ p1 ∧ p1 ≤ 2147483647) : sC (gG l D c H0 sa) mX11_count 1 0 0 [.ref 0, iv p1] (mk w μ) (qP w μ (fun z => ((-2147483648) ≤ z ∧ z ≤ 2147483647) ∧ True)) := by
  refine sC.of rfl (by decide) (le_t rfl) ?_
  refine mr_lvE (lv' := [(0, .ref 0), (1, iv p1)]) rfl ?_
  refine mr_iload_n (pc := 0) (z := p1) dX11_count_0 rfl rfl ?_
  by_cases h1 : p1 = 0
  · refine mr_tableIn (pc := 1) (v := 0) (tgt := 64) dX11_count_1 h1 rfl rfl (by decide) ?_
    have h2 : 0 ≤ p1 ∧ p1 ≤ 0 := (vc_X12_mask_1 h1 hp1)
    refine sv_aload_n (pc := 64) dX11_count_64 rfl rfl ?_
    refine gf_X11_3 (pc := 65) dX11_count_65 wF_X11_26 (A_0 hw) hT ?_
    refine gf_X10_14 (pc := 68) dX11_count_68 wF_X11_92 (A_6 hw) hT fun z3 q4 h5 => ?_
    exact mr_iretP dX11_count_71 rfl (le_t rfl) (le_t rfl) ⟨(rW (c := (-2147483648)) (d := 2147483647) h5 rfl), trivial⟩
  by_cases h6 : p1 = 1
  · refine mr_tableIn (pc := 1) (v := 1) (tgt := 72) dX11_count_1 h6 rfl rfl (by decide) ?_
    have h7 : 1 ≤ p1 ∧ p1 ≤ 1 := (vc_X12_count_4 h6 h1 hp1)
    refine sv_aload_n (pc := 72) dX11_count_72 rfl rfl ?_
    refine gf_X11_3 (pc := 73) dX11_count_73 wF_X11_26 (A_0 hw) hT ?_
    refine gf_X10_15 (pc := 76) dX11_count_76 wF_X11_98 (A_6 hw) hT fun z8 q9 h10 => ?_
    exact mr_iretP dX11_count_79 rfl (le_t rfl) (le_t rfl) ⟨(rW (c := (-2147483648)) (d := 2147483647) h10.2 rfl), trivial⟩
  by_cases h11 : p1 = 2
  · refine mr_tableIn (pc := 1) (v := 2) (tgt := 80) dX11_count_1 h11 rfl rfl (by decide) ?_
    have h12 : 2 ≤ p1 ∧ p1 ≤ 2 := (vc_X12_count_5 h11 h1 h6 hp1)
    refine sv_aload_n (pc := 80) dX11_count_80 rfl rfl ?_
    refine gf_X11_3 (pc := 81) dX11_count_81 wF_X11_26 (A_0 hw) hT ?_
    refine gf_X10_16 (pc := 84) dX11_count_84 wF_X11_112 (A_6 hw) hT fun z13 q14 h15 => ?_
    exact mr_iretP dX11_count_87 rfl (le_t rfl) (le_t rfl) ⟨(rW (c := (-2147483648)) (d := 2147483647) h15.2 rfl), trivial⟩
  by_cases h16 : p1 = 3
  · refine mr_tableIn (pc := 1) (v := 3) (tgt := 88) dX11_count_1 h16 rfl rfl (by decide) ?_
    have h17 : 3 ≤ p1 ∧ p1 ≤ 3 := (vc_X12_count_6 h16 h1 h6 h11 hp1)
    refine sv_aload_n (pc := 88) dX11_count_88 rfl rfl ?_
    refine gf_X11_3 (pc := 89) dX11_count_89 wF_X11_26 (A_0 hw) hT ?_
    refine gf_X10_17 (pc := 92) dX11_count_92 wF_X11_188 (A_6 hw) hT fun z18 q19 h20 => ?_
    exact mr_iretP dX11_count_95 rfl (le_t rfl) (le_t rfl) ⟨(rW (c := (-2147483648)) (d := 2147483647) h20 rfl), trivial⟩
  by_cases h21 : p1 = 4
  · refine mr_tableIn (pc := 1) (v := 4) (tgt := 96) dX11_count_1 h21 rfl rfl (by decide) ?_
    have h22 : 4 ≤ p1 ∧ p1 ≤ 4 := (vc_X12_count_7 h21 h1 h6 h11 h16 hp1)
    refine sv_aload_n (pc := 96) dX11_count_96 rfl rfl ?_
    refine gf_X11_4 (pc := 97) dX11_count_97 wF_X11_35 (A_0 hw) hT ?_
    refine gf_X1_8 (pc := 100) dX11_count_100 wF_X11_205 (A_21 hw) hT fun z23 q24 h25 => ?_
    exact mr_iretP dX11_count_103 rfl (le_t rfl) (le_t rfl) ⟨(rW (c := (-2147483648)) (d := 2147483647) h25.2 rfl), trivial⟩
  by_cases h26 : p1 = 5
  · refine mr_tableIn (pc := 1) (v := 5) (tgt := 104) dX11_count_1 h26 rfl rfl (by decide) ?_
    have h27 : 5 ≤ p1 ∧ p1 ≤ 5 := (vc_X12_count_8 h26 h1 h6 h11 h16 h21 hp1)
    refine sv_aload_n (pc := 104) dX11_count_104 rfl rfl ?_
    refine gf_X11_8 (pc := 105) dX11_count_105 wF_X11_65 (A_0 hw) hT ?_
    refine gf_X2_10 (pc := 108) dX11_count_108 wF_X11_373 (A_87 hw) hT fun z28 q29 h30 => ?_
    have h31 : 0 ≤ z28 ∧ z28 ≤ 16 := ⟨h30.1, h30.2.1⟩
    exact mr_iretP dX11_count_111 rfl (le_t rfl) (le_t rfl) ⟨(rW (c := (-2147483648)) (d := 2147483647) h31 rfl), trivial⟩
  by_cases h32 : p1 = 6
  · refine mr_tableIn (pc := 1) (v := 6) (tgt := 112) dX11_count_1 h32 rfl rfl (by decide) ?_
    have h33 : 6 ≤ p1 ∧ p1 ≤ 6 := (vc_X12_count_9 h32 h1 h6 h11 h16 h21 h26 hp1)
    refine sv_aload_n (pc := 112) dX11_count_112 rfl rfl ?_
    refine gf_X11_10 (pc := 113) dX11_count_113 wF_X11_76 (A_0 hw) hT fun z34 q35 h36 => ?_
    exact mr_iretP dX11_count_116 rfl (le_t rfl) (le_t rfl) ⟨(rW (c := (-2147483648)) (d := 2147483647) h36 rfl), trivial⟩
  by_cases h37 : p1 = 7
  · refine mr_tableIn (pc := 1) (v := 7) (tgt := 117) dX11_count_1 h37 rfl rfl (by decide) ?_
    have h38 : 7 ≤ p1 ∧ p1 ≤ 7 := (vc_X12_count_10 h37 h1 h6 h11 h16 h21 h26 h32 hp1)
    refine sv_aload_n (pc := 117) dX11_count_117 rfl rfl ?_
    refine gf_X11_6 (pc := 118) dX11_count_118 wF_X11_51 (A_0 hw) hT ?_
    refine gf_X8_11 (pc := 121) dX11_count_121 wF_X11_303 (A_32 hw) hT fun z39 q40 h41 => ?_
    exact mr_iretP dX11_count_124 rfl (le_t rfl) (le_t rfl) ⟨(rW (c := (-2147483648)) (d := 2147483647) h41 rfl), trivial⟩
  by_cases h42 : p1 = 8
  · refine mr_tableIn (pc := 1) (v := 8) (tgt := 125) dX11_count_1 h42 rfl rfl (by decide) ?_
    have h43 : 8 ≤ p1 ∧ p1 ≤ 8 := (vc_X12_count_11 h42 h6 h11 h16 h21 h26 h32 h37 hp1)
    refine sv_aload_n (pc := 125) dX11_count_125 rfl rfl ?_
    refine gf_X11_6 (pc := 126) dX11_count_126 wF_X11_51 (A_0 hw) hT ?_
    refine gf_X8_10 (pc := 129) dX11_count_129 wF_X11_426 (A_32 hw) hT fun z44 q45 h46 => ?_
    have h47 : 0 ≤ z44 ∧ z44 ≤ 800 := ⟨h46.1, h46.2.1⟩
    exact mr_iretP dX11_count_132 rfl (le_t rfl) (le_t rfl) ⟨(rW (c := (-2147483648)) (d := 2147483647) h47 rfl), trivial⟩
  by_cases h48 : p1 = 9
  · refine mr_tableIn (pc := 1) (v := 9) (tgt := 133) dX11_count_1 h48 rfl rfl (by decide) ?_
    have h49 : 9 ≤ p1 ∧ p1 ≤ 9 := (vc_X12_count_12 h48 h11 h16 h21 h26 h32 h37 h42 hp1)
    refine sv_aload_n (pc := 133) dX11_count_133 rfl rfl ?_
    refine gf_X11_6 (pc := 134) dX11_count_134 wF_X11_51 (A_0 hw) hT ?_
    refine gf_X8_12 (pc := 137) dX11_count_137 wF_X11_429 (A_32 hw) hT fun z50 q51 h52 => ?_
    exact mr_iretP dX11_count_140 rfl (le_t rfl) (le_t rfl) ⟨h52, trivial⟩
  by_cases h53 : p1 = 10
  · refine mr_tableIn (pc := 1) (v := 10) (tgt := 141) dX11_count_1 h53 rfl rfl (by decide) ?_
    have h54 : 10 ≤ p1 ∧ p1 ≤ 10 := (vc_X12_count_13 h53 h16 h21 h26 h32 h37 h42 h48 hp1)
    refine sv_aload_n (pc := 141) dX11_count_141 rfl rfl ?_
    refine gf_X11_11 (pc := 142) dX11_count_142 wF_X11_169 (A_0 hw) hT fun z55 q56 h57 => ?_
    exact mr_iretP dX11_count_145 rfl (le_t rfl) (le_t rfl) ⟨(rW (c := (-2147483648)) (d := 2147483647) h57 rfl), trivial⟩
  by_cases h58 : p1 = 11
  · refine mr_tableIn (pc := 1) (v := 11) (tgt := 146) dX11_count_1 h58 rfl rfl (by decide) ?_
    have h59 : 11 ≤ p1 ∧ p1 ≤ 11 := (vc_X12_count_14 h58 h21 h26 h32 h37 h42 h48 h53 hp1)
    refine sv_aload_n (pc := 146) dX11_count_146 rfl rfl ?_
    refine gf_X11_3 (pc := 147) dX11_count_147 wF_X11_26 (A_0 hw) hT ?_
    refine gf_X10_18 (pc := 150) dX11_count_150 wF_X11_176 (A_6 hw) hT fun z60 q61 h62 => ?_
    exact mr_iretP dX11_count_153 rfl (le_t rfl) (le_t rfl) ⟨(rW (c := (-2147483648)) (d := 2147483647) h62 rfl), trivial⟩
  refine mr_tableOut (pc := 1) (tgt := 154) dX11_count_1 hp1 (vc_X12_count_15 h1 h6 h11 h16 h21 h26 h32 h37 h42 h48 h53 h58 hp1) (by decide) ?_
  refine mr_iconst (pc := 154) (z := (-1)) dX11_count_154 ?_
  exact mr_iretP dX11_count_155 rfl (le_t rfl) (le_t rfl) ⟨(rW (c := (-2147483648)) (d := 2147483647) (rR (x := (-1))) rfl), trivial⟩
end
section
theorem dX1_doActs_0 : decode cX1_doActs 0 = .ok (.iconst 0, 1) := dc0 dO_3 (by decide +kernel)
theorem dX1_doActs_1 : decode cX1_doActs 1 = .ok (.istore 5, 2) := dcU1 dO_54 (by decide +kernel)
theorem dX1_doActs_3 : decode cX1_doActs 3 = .ok (.iload 5, 2) := dcU1 dO_21 (by decide +kernel)
theorem dX1_doActs_5 : decode cX1_doActs 5 = .ok (.iload_n 3, 1) := dc0 dO_29 (by decide +kernel)
theorem dX1_doActs_6 : decode cX1_doActs 6 = .ok (.if_icmp .ge 260, 3) := dcS2 dO_162 (by decide +kernel)
theorem dX1_doActs_9 : decode cX1_doActs 9 = .ok (.aload_n 0, 1) := dc0 dO_42 (by decide +kernel)
theorem dX1_doActs_10 : decode cX1_doActs 10 = .ok (.getfield 50, 3) := dcU2 dO_180 (by decide +kernel)
theorem dX1_doActs_13 : decode cX1_doActs 13 = .ok (.ifCond .ne 253, 3) := dcS2 dO_154 (by decide +kernel)
theorem dX1_doActs_16 : decode cX1_doActs 16 = .ok (.aload_n 1, 1) := dc0 dO_43 (by decide +kernel)
theorem dX1_doActs_17 : decode cX1_doActs 17 = .ok (.iload_n 2, 1) := dc0 dO_28 (by decide +kernel)
theorem dX1_doActs_18 : decode cX1_doActs 18 = .ok (.iload 5, 2) := dcU1 dO_21 (by decide +kernel)
theorem dX1_doActs_20 : decode cX1_doActs 20 = .ok (.iconst 2, 1) := dc0 dO_5 (by decide +kernel)
theorem dX1_doActs_21 : decode cX1_doActs 21 = .ok (.imul, 1) := dc0 dO_104 (by decide +kernel)
theorem dX1_doActs_22 : decode cX1_doActs 22 = .ok (.iadd, 1) := dc0 dO_96 (by decide +kernel)
theorem dX1_doActs_23 : decode cX1_doActs 23 = .ok (.iconst 1, 1) := dc0 dO_4 (by decide +kernel)
theorem dX1_doActs_24 : decode cX1_doActs 24 = .ok (.iadd, 1) := dc0 dO_96 (by decide +kernel)
theorem dX1_doActs_25 : decode cX1_doActs 25 = .ok (.iaload, 1) := dc0 dO_46 (by decide +kernel)
theorem dX1_doActs_26 : decode cX1_doActs 26 = .ok (.istore 6, 2) := dcU1 dO_54 (by decide +kernel)
theorem dX1_doActs_28 : decode cX1_doActs 28 = .ok (.aload_n 0, 1) := dc0 dO_42 (by decide +kernel)
theorem dX1_doActs_29 : decode cX1_doActs 29 = .ok (.getfield 47, 3) := dcU2 dO_180 (by decide +kernel)
theorem dX1_doActs_32 : decode cX1_doActs 32 = .ok (.sipush 500, 3) := dcS2 dO_17 (by decide +kernel)
theorem dX1_doActs_35 : decode cX1_doActs 35 = .ok (.if_icmp .lt 9, 3) := dcS2 dO_161 (by decide +kernel)
theorem dX1_doActs_38 : decode cX1_doActs 38 = .ok (.aload_n 0, 1) := dc0 dO_42 (by decide +kernel)
theorem dX1_doActs_39 : decode cX1_doActs 39 = .ok (.iconst 2, 1) := dc0 dO_5 (by decide +kernel)
theorem dX1_doActs_40 : decode cX1_doActs 40 = .ok (.putfield 50, 3) := dcU2 dO_181 (by decide +kernel)
theorem dX1_doActs_43 : decode cX1_doActs 43 = .ok (.return_, 1) := dc0 dO_177 (by decide +kernel)
theorem dX1_doActs_44 : decode cX1_doActs 44 = .ok (.aload_n 0, 1) := dc0 dO_42 (by decide +kernel)
theorem dX1_doActs_45 : decode cX1_doActs 45 = .ok (.dup, 1) := dc0 dO_89 (by decide +kernel)
theorem dX1_doActs_46 : decode cX1_doActs 46 = .ok (.getfield 47, 3) := dcU2 dO_180 (by decide +kernel)
theorem dX1_doActs_49 : decode cX1_doActs 49 = .ok (.iconst 1, 1) := dc0 dO_4 (by decide +kernel)
theorem dX1_doActs_50 : decode cX1_doActs 50 = .ok (.iadd, 1) := dc0 dO_96 (by decide +kernel)
theorem dX1_doActs_51 : decode cX1_doActs 51 = .ok (.putfield 47, 3) := dcU2 dO_181 (by decide +kernel)
theorem dX1_doActs_54 : decode cX1_doActs 54 = .ok (.aload_n 1, 1) := dc0 dO_43 (by decide +kernel)
theorem dX1_doActs_55 : decode cX1_doActs 55 = .ok (.iload_n 2, 1) := dc0 dO_28 (by decide +kernel)
theorem dX1_doActs_56 : decode cX1_doActs 56 = .ok (.iload 5, 2) := dcU1 dO_21 (by decide +kernel)
theorem dX1_doActs_58 : decode cX1_doActs 58 = .ok (.iconst 2, 1) := dc0 dO_5 (by decide +kernel)
theorem dX1_doActs_59 : decode cX1_doActs 59 = .ok (.imul, 1) := dc0 dO_104 (by decide +kernel)
theorem dX1_doActs_60 : decode cX1_doActs 60 = .ok (.iadd, 1) := dc0 dO_96 (by decide +kernel)
theorem dX1_doActs_61 : decode cX1_doActs 61 = .ok (.iaload, 1) := dc0 dO_46 (by decide +kernel)
theorem dX1_doActs_62 : decode cX1_doActs 62 = .ok (.tableswitch 198 12 28 #[122, 134, 198, 198, 198, 198, 198, 198, 198, 198, 198, 82, 90, 98, 110, 146, 185], 82) := by decide +kernel
theorem sfx_cX1_doActs_128 : (cX1_doActs.data.toList.drop 128).take 67 = [0, 0, 0, 98, 0, 0, 0, 110, 0, 0, 0, 146, 0, 0, 0, 185, 42, 4, 181, 0, 50, 167, 0, 111, 42, 5, 181, 0, 50, 167, 0, 103, 42, 180, 0, 25, 21, 6, 182, 0, 124, 167, 0, 91, 42, 180, 0, 25, 21, 6, 182, 0, 128, 167, 0, 79, 42, 180, 0, 25, 21, 6, 181, 0, 105, 167, 0] := by decide +kernel
theorem dX1_doActs_144 : decode cX1_doActs 144 = .ok (.aload_n 0, 1) := dc0 dO_42 (rdB.ch sfx_cX1_doActs_128 16 rfl (by decide +kernel))
theorem dX1_doActs_145 : decode cX1_doActs 145 = .ok (.iconst 1, 1) := dc0 dO_4 (rdB.ch sfx_cX1_doActs_128 17 rfl (by decide +kernel))
theorem dX1_doActs_146 : decode cX1_doActs 146 = .ok (.putfield 50, 3) := dcU2 dO_181 (rdU2.ch sfx_cX1_doActs_128 18 rfl (by decide +kernel))
theorem dX1_doActs_149 : decode cX1_doActs 149 = .ok (.goto 111, 3) := dcS2 dO_167 (rdS2.ch sfx_cX1_doActs_128 21 rfl (by decide +kernel))
theorem dX1_doActs_152 : decode cX1_doActs 152 = .ok (.aload_n 0, 1) := dc0 dO_42 (rdB.ch sfx_cX1_doActs_128 24 rfl (by decide +kernel))
theorem dX1_doActs_153 : decode cX1_doActs 153 = .ok (.iconst 2, 1) := dc0 dO_5 (rdB.ch sfx_cX1_doActs_128 25 rfl (by decide +kernel))
theorem dX1_doActs_154 : decode cX1_doActs 154 = .ok (.putfield 50, 3) := dcU2 dO_181 (rdU2.ch sfx_cX1_doActs_128 26 rfl (by decide +kernel))
theorem dX1_doActs_157 : decode cX1_doActs 157 = .ok (.goto 103, 3) := dcS2 dO_167 (rdS2.ch sfx_cX1_doActs_128 29 rfl (by decide +kernel))
theorem dX1_doActs_160 : decode cX1_doActs 160 = .ok (.aload_n 0, 1) := dc0 dO_42 (rdB.ch sfx_cX1_doActs_128 32 rfl (by decide +kernel))
theorem dX1_doActs_161 : decode cX1_doActs 161 = .ok (.getfield 25, 3) := dcU2 dO_180 (rdU2.ch sfx_cX1_doActs_128 33 rfl (by decide +kernel))
theorem dX1_doActs_164 : decode cX1_doActs 164 = .ok (.iload 6, 2) := dcU1 dO_21 (rdU1.ch sfx_cX1_doActs_128 36 rfl (by decide +kernel))
theorem dX1_doActs_166 : decode cX1_doActs 166 = .ok (.invokevirtual 124, 3) := dcU2 dO_182 (rdU2.ch sfx_cX1_doActs_128 38 rfl (by decide +kernel))
theorem dX1_doActs_169 : decode cX1_doActs 169 = .ok (.goto 91, 3) := dcS2 dO_167 (rdS2.ch sfx_cX1_doActs_128 41 rfl (by decide +kernel))
theorem dX1_doActs_172 : decode cX1_doActs 172 = .ok (.aload_n 0, 1) := dc0 dO_42 (rdB.ch sfx_cX1_doActs_128 44 rfl (by decide +kernel))
theorem dX1_doActs_173 : decode cX1_doActs 173 = .ok (.getfield 25, 3) := dcU2 dO_180 (rdU2.ch sfx_cX1_doActs_128 45 rfl (by decide +kernel))
theorem dX1_doActs_176 : decode cX1_doActs 176 = .ok (.iload 6, 2) := dcU1 dO_21 (rdU1.ch sfx_cX1_doActs_128 48 rfl (by decide +kernel))
theorem dX1_doActs_178 : decode cX1_doActs 178 = .ok (.invokevirtual 128, 3) := dcU2 dO_182 (rdU2.ch sfx_cX1_doActs_128 50 rfl (by decide +kernel))
theorem dX1_doActs_181 : decode cX1_doActs 181 = .ok (.goto 79, 3) := dcS2 dO_167 (rdS2.ch sfx_cX1_doActs_128 53 rfl (by decide +kernel))
theorem dX1_doActs_184 : decode cX1_doActs 184 = .ok (.aload_n 0, 1) := dc0 dO_42 (rdB.ch sfx_cX1_doActs_128 56 rfl (by decide +kernel))
theorem dX1_doActs_185 : decode cX1_doActs 185 = .ok (.getfield 25, 3) := dcU2 dO_180 (rdU2.ch sfx_cX1_doActs_128 57 rfl (by decide +kernel))
theorem dX1_doActs_188 : decode cX1_doActs 188 = .ok (.iload 6, 2) := dcU1 dO_21 (rdU1.ch sfx_cX1_doActs_128 60 rfl (by decide +kernel))
theorem dX1_doActs_190 : decode cX1_doActs 190 = .ok (.putfield 105, 3) := dcU2 dO_181 (rdU2.ch sfx_cX1_doActs_128 62 rfl (by decide +kernel))
theorem sfx_cX1_doActs_192 : (cX1_doActs.data.toList.drop 192).take 67 = [105, 167, 0, 67, 42, 180, 0, 25, 21, 6, 181, 0, 108, 167, 0, 55, 42, 180, 0, 25, 180, 0, 96, 158, 0, 45, 42, 180, 0, 25, 42, 180, 0, 25, 180, 0, 114, 3, 46, 21, 6, 182, 0, 131, 154, 0, 24, 42, 5, 181, 0, 50, 167, 0, 16, 42, 21, 6, 21, 4, 4, 96, 182, 0, 53, 167, 0] := by decide +kernel
theorem dX1_doActs_193 : decode cX1_doActs 193 = .ok (.goto 67, 3) := dcS2 dO_167 (rdS2.ch sfx_cX1_doActs_192 1 rfl (by decide +kernel))
theorem dX1_doActs_196 : decode cX1_doActs 196 = .ok (.aload_n 0, 1) := dc0 dO_42 (rdB.ch sfx_cX1_doActs_192 4 rfl (by decide +kernel))
theorem dX1_doActs_197 : decode cX1_doActs 197 = .ok (.getfield 25, 3) := dcU2 dO_180 (rdU2.ch sfx_cX1_doActs_192 5 rfl (by decide +kernel))
theorem dX1_doActs_200 : decode cX1_doActs 200 = .ok (.iload 6, 2) := dcU1 dO_21 (rdU1.ch sfx_cX1_doActs_192 8 rfl (by decide +kernel))
theorem dX1_doActs_202 : decode cX1_doActs 202 = .ok (.putfield 108, 3) := dcU2 dO_181 (rdU2.ch sfx_cX1_doActs_192 10 rfl (by decide +kernel))
theorem dX1_doActs_205 : decode cX1_doActs 205 = .ok (.goto 55, 3) := dcS2 dO_167 (rdS2.ch sfx_cX1_doActs_192 13 rfl (by decide +kernel))
theorem dX1_doActs_208 : decode cX1_doActs 208 = .ok (.aload_n 0, 1) := dc0 dO_42 (rdB.ch sfx_cX1_doActs_192 16 rfl (by decide +kernel))
theorem dX1_doActs_209 : decode cX1_doActs 209 = .ok (.getfield 25, 3) := dcU2 dO_180 (rdU2.ch sfx_cX1_doActs_192 17 rfl (by decide +kernel))
theorem dX1_doActs_212 : decode cX1_doActs 212 = .ok (.getfield 96, 3) := dcU2 dO_180 (rdU2.ch sfx_cX1_doActs_192 20 rfl (by decide +kernel))
theorem dX1_doActs_215 : decode cX1_doActs 215 = .ok (.ifCond .le 45, 3) := dcS2 dO_158 (rdS2.ch sfx_cX1_doActs_192 23 rfl (by decide +kernel))
theorem dX1_doActs_218 : decode cX1_doActs 218 = .ok (.aload_n 0, 1) := dc0 dO_42 (rdB.ch sfx_cX1_doActs_192 26 rfl (by decide +kernel))
theorem dX1_doActs_219 : decode cX1_doActs 219 = .ok (.getfield 25, 3) := dcU2 dO_180 (rdU2.ch sfx_cX1_doActs_192 27 rfl (by decide +kernel))
theorem dX1_doActs_222 : decode cX1_doActs 222 = .ok (.aload_n 0, 1) := dc0 dO_42 (rdB.ch sfx_cX1_doActs_192 30 rfl (by decide +kernel))
theorem dX1_doActs_223 : decode cX1_doActs 223 = .ok (.getfield 25, 3) := dcU2 dO_180 (rdU2.ch sfx_cX1_doActs_192 31 rfl (by decide +kernel))
theorem dX1_doActs_226 : decode cX1_doActs 226 = .ok (.getfield 114, 3) := dcU2 dO_180 (rdU2.ch sfx_cX1_doActs_192 34 rfl (by decide +kernel))
theorem dX1_doActs_229 : decode cX1_doActs 229 = .ok (.iconst 0, 1) := dc0 dO_3 (rdB.ch sfx_cX1_doActs_192 37 rfl (by decide +kernel))
theorem dX1_doActs_230 : decode cX1_doActs 230 = .ok (.iaload, 1) := dc0 dO_46 (rdB.ch sfx_cX1_doActs_192 38 rfl (by decide +kernel))
theorem dX1_doActs_231 : decode cX1_doActs 231 = .ok (.iload 6, 2) := dcU1 dO_21 (rdU1.ch sfx_cX1_doActs_192 39 rfl (by decide +kernel))
theorem dX1_doActs_233 : decode cX1_doActs 233 = .ok (.invokevirtual 131, 3) := dcU2 dO_182 (rdU2.ch sfx_cX1_doActs_192 41 rfl (by decide +kernel))
theorem dX1_doActs_236 : decode cX1_doActs 236 = .ok (.ifCond .ne 24, 3) := dcS2 dO_154 (rdS2.ch sfx_cX1_doActs_192 44 rfl (by decide +kernel))
theorem dX1_doActs_239 : decode cX1_doActs 239 = .ok (.aload_n 0, 1) := dc0 dO_42 (rdB.ch sfx_cX1_doActs_192 47 rfl (by decide +kernel))
theorem dX1_doActs_240 : decode cX1_doActs 240 = .ok (.iconst 2, 1) := dc0 dO_5 (rdB.ch sfx_cX1_doActs_192 48 rfl (by decide +kernel))
theorem dX1_doActs_241 : decode cX1_doActs 241 = .ok (.putfield 50, 3) := dcU2 dO_181 (rdU2.ch sfx_cX1_doActs_192 49 rfl (by decide +kernel))
theorem dX1_doActs_244 : decode cX1_doActs 244 = .ok (.goto 16, 3) := dcS2 dO_167 (rdS2.ch sfx_cX1_doActs_192 52 rfl (by decide +kernel))
theorem dX1_doActs_247 : decode cX1_doActs 247 = .ok (.aload_n 0, 1) := dc0 dO_42 (rdB.ch sfx_cX1_doActs_192 55 rfl (by decide +kernel))
theorem dX1_doActs_248 : decode cX1_doActs 248 = .ok (.iload 6, 2) := dcU1 dO_21 (rdU1.ch sfx_cX1_doActs_192 56 rfl (by decide +kernel))
theorem dX1_doActs_250 : decode cX1_doActs 250 = .ok (.iload 4, 2) := dcU1 dO_21 (rdU1.ch sfx_cX1_doActs_192 58 rfl (by decide +kernel))
theorem dX1_doActs_252 : decode cX1_doActs 252 = .ok (.iconst 1, 1) := dc0 dO_4 (rdB.ch sfx_cX1_doActs_192 60 rfl (by decide +kernel))
theorem dX1_doActs_253 : decode cX1_doActs 253 = .ok (.iadd, 1) := dc0 dO_96 (rdB.ch sfx_cX1_doActs_192 61 rfl (by decide +kernel))
theorem dX1_doActs_254 : decode cX1_doActs 254 = .ok (.invokevirtual 53, 3) := dcU2 dO_182 (rdU2.ch sfx_cX1_doActs_192 62 rfl (by decide +kernel))
theorem sfx_cX1_doActs_256 : (cX1_doActs.data.toList.drop 256).take 67 = [53, 167, 0, 3, 132, 5, 1, 167, 254, 252, 177] := by decide +kernel
theorem dX1_doActs_257 : decode cX1_doActs 257 = .ok (.goto 3, 3) := dcS2 dO_167 (rdS2.ch sfx_cX1_doActs_256 1 rfl (by decide +kernel))
theorem dX1_doActs_260 : decode cX1_doActs 260 = .ok (.iinc 5 1, 3) := dcI dO_132 (rdI.ch sfx_cX1_doActs_256 4 rfl (by decide +kernel))
theorem dX1_doActs_263 : decode cX1_doActs 263 = .ok (.goto (-260), 3) := dcS2 dO_167 (rdS2.ch sfx_cX1_doActs_256 7 rfl (by decide +kernel))
theorem dX1_doActs_266 : decode cX1_doActs 266 = .ok (.return_, 1) := dc0 dO_177 (rdB.ch sfx_cX1_doActs_256 10 rfl (by decide +kernel))
theorem dX1_goThrough_0 : decode cX1_goThrough 0 = .ok (.iload_n 1, 1) := dc0 dO_27 (by decide +kernel)
theorem dX1_goThrough_1 : decode cX1_goThrough 1 = .ok (.ifCond .lt 17, 3) := dcS2 dO_155 (by decide +kernel)
theorem dX1_goThrough_4 : decode cX1_goThrough 4 = .ok (.iload_n 1, 1) := dc0 dO_27 (by decide +kernel)
theorem dX1_goThrough_5 : decode cX1_goThrough 5 = .ok (.aload_n 0, 1) := dc0 dO_42 (by decide +kernel)
theorem dX1_goThrough_6 : decode cX1_goThrough 6 = .ok (.getfield 21, 3) := dcU2 dO_180 (by decide +kernel)
theorem dX1_goThrough_9 : decode cX1_goThrough 9 = .ok (.if_icmp .ge 9, 3) := dcS2 dO_162 (by decide +kernel)
theorem dX1_goThrough_12 : decode cX1_goThrough 12 = .ok (.iload_n 2, 1) := dc0 dO_28 (by decide +kernel)
theorem dX1_goThrough_13 : decode cX1_goThrough 13 = .ok (.bipush 12, 2) := dcS1 dO_16 (by decide +kernel)
theorem dX1_goThrough_15 : decode cX1_goThrough 15 = .ok (.if_icmp .le 4, 3) := dcS2 dO_164 (by decide +kernel)
theorem dX1_goThrough_18 : decode cX1_goThrough 18 = .ok (.return_, 1) := dc0 dO_177 (by decide +kernel)
theorem dX1_goThrough_19 : decode cX1_goThrough 19 = .ok (.aload_n 0, 1) := dc0 dO_42 (by decide +kernel)
theorem dX1_goThrough_20 : decode cX1_goThrough 20 = .ok (.getfield 17, 3) := dcU2 dO_180 (by decide +kernel)
theorem dX1_goThrough_23 : decode cX1_goThrough 23 = .ok (.iload_n 1, 1) := dc0 dO_27 (by decide +kernel)
theorem dX1_goThrough_24 : decode cX1_goThrough 24 = .ok (.aaload, 1) := dc0 dO_50 (by decide +kernel)
theorem dX1_goThrough_25 : decode cX1_goThrough 25 = .ok (.astore_n 3, 1) := dc0 dO_78 (by decide +kernel)
theorem dX1_goThrough_26 : decode cX1_goThrough 26 = .ok (.iconst 0, 1) := dc0 dO_3 (by decide +kernel)
theorem dX1_goThrough_27 : decode cX1_goThrough 27 = .ok (.istore 4, 2) := dcU1 dO_54 (by decide +kernel)
theorem dX1_goThrough_29 : decode cX1_goThrough 29 = .ok (.iconst 0, 1) := dc0 dO_3 (by decide +kernel)
theorem dX1_goThrough_30 : decode cX1_goThrough 30 = .ok (.istore 5, 2) := dcU1 dO_54 (by decide +kernel)
theorem dX1_goThrough_32 : decode cX1_goThrough 32 = .ok (.iload 5, 2) := dcU1 dO_21 (by decide +kernel)
theorem dX1_goThrough_34 : decode cX1_goThrough 34 = .ok (.aload_n 3, 1) := dc0 dO_45 (by decide +kernel)
theorem dX1_goThrough_35 : decode cX1_goThrough 35 = .ok (.getfield 57, 3) := dcU2 dO_180 (by decide +kernel)
theorem dX1_goThrough_38 : decode cX1_goThrough 38 = .ok (.if_icmp .ge 136, 3) := dcS2 dO_162 (by decide +kernel)
theorem dX1_goThrough_41 : decode cX1_goThrough 41 = .ok (.aload_n 0, 1) := dc0 dO_42 (by decide +kernel)
theorem dX1_goThrough_42 : decode cX1_goThrough 42 = .ok (.getfield 50, 3) := dcU2 dO_180 (by decide +kernel)
theorem dX1_goThrough_45 : decode cX1_goThrough 45 = .ok (.ifCond .ne 129, 3) := dcS2 dO_154 (by decide +kernel)
theorem dX1_goThrough_48 : decode cX1_goThrough 48 = .ok (.aload_n 3, 1) := dc0 dO_45 (by decide +kernel)
theorem dX1_goThrough_49 : decode cX1_goThrough 49 = .ok (.getfield 60, 3) := dcU2 dO_180 (by decide +kernel)
theorem dX1_goThrough_52 : decode cX1_goThrough 52 = .ok (.iload 4, 2) := dcU1 dO_21 (by decide +kernel)
theorem dX1_goThrough_54 : decode cX1_goThrough 54 = .ok (.iaload, 1) := dc0 dO_46 (by decide +kernel)
theorem dX1_goThrough_55 : decode cX1_goThrough 55 = .ok (.istore 6, 2) := dcU1 dO_54 (by decide +kernel)
theorem dX1_goThrough_57 : decode cX1_goThrough 57 = .ok (.aload_n 3, 1) := dc0 dO_45 (by decide +kernel)
theorem dX1_goThrough_58 : decode cX1_goThrough 58 = .ok (.getfield 60, 3) := dcU2 dO_180 (by decide +kernel)
theorem dX1_goThrough_61 : decode cX1_goThrough 61 = .ok (.iload 4, 2) := dcU1 dO_21 (by decide +kernel)
theorem dX1_goThrough_63 : decode cX1_goThrough 63 = .ok (.iconst 1, 1) := dc0 dO_4 (by decide +kernel)
theorem dX1_goThrough_64 : decode cX1_goThrough 64 = .ok (.iadd, 1) := dc0 dO_96 (by decide +kernel)
theorem dX1_goThrough_65 : decode cX1_goThrough 65 = .ok (.iaload, 1) := dc0 dO_46 (by decide +kernel)
theorem dX1_goThrough_66 : decode cX1_goThrough 66 = .ok (.istore 7, 2) := dcU1 dO_54 (by decide +kernel)
theorem dX1_goThrough_68 : decode cX1_goThrough 68 = .ok (.iload 4, 2) := dcU1 dO_21 (by decide +kernel)
theorem dX1_goThrough_70 : decode cX1_goThrough 70 = .ok (.iconst 2, 1) := dc0 dO_5 (by decide +kernel)
theorem dX1_goThrough_71 : decode cX1_goThrough 71 = .ok (.iadd, 1) := dc0 dO_96 (by decide +kernel)
theorem dX1_goThrough_72 : decode cX1_goThrough 72 = .ok (.iload 6, 2) := dcU1 dO_21 (by decide +kernel)
theorem dX1_goThrough_74 : decode cX1_goThrough 74 = .ok (.iconst 5, 1) := dc0 dO_8 (by decide +kernel)
theorem dX1_goThrough_75 : decode cX1_goThrough 75 = .ok (.imul, 1) := dc0 dO_104 (by decide +kernel)
theorem dX1_goThrough_76 : decode cX1_goThrough 76 = .ok (.iadd, 1) := dc0 dO_96 (by decide +kernel)
theorem dX1_goThrough_77 : decode cX1_goThrough 77 = .ok (.istore 8, 2) := dcU1 dO_54 (by decide +kernel)
theorem dX1_goThrough_79 : decode cX1_goThrough 79 = .ok (.iconst 1, 1) := dc0 dO_4 (by decide +kernel)
theorem dX1_goThrough_80 : decode cX1_goThrough 80 = .ok (.istore 9, 2) := dcU1 dO_54 (by decide +kernel)
theorem dX1_goThrough_82 : decode cX1_goThrough 82 = .ok (.iload 4, 2) := dcU1 dO_21 (by decide +kernel)
theorem dX1_goThrough_84 : decode cX1_goThrough 84 = .ok (.iconst 2, 1) := dc0 dO_5 (by decide +kernel)
theorem dX1_goThrough_85 : decode cX1_goThrough 85 = .ok (.iadd, 1) := dc0 dO_96 (by decide +kernel)
theorem dX1_goThrough_86 : decode cX1_goThrough 86 = .ok (.istore 10, 2) := dcU1 dO_54 (by decide +kernel)
theorem dX1_goThrough_88 : decode cX1_goThrough 88 = .ok (.iload 10, 2) := dcU1 dO_21 (by decide +kernel)
theorem dX1_goThrough_90 : decode cX1_goThrough 90 = .ok (.iload 8, 2) := dcU1 dO_21 (by decide +kernel)
theorem dX1_goThrough_92 : decode cX1_goThrough 92 = .ok (.if_icmp .ge 49, 3) := dcS2 dO_162 (by decide +kernel)
theorem dX1_goThrough_95 : decode cX1_goThrough 95 = .ok (.iload 9, 2) := dcU1 dO_21 (by decide +kernel)
theorem dX1_goThrough_97 : decode cX1_goThrough 97 = .ok (.ifCond .eq 44, 3) := dcS2 dO_153 (by decide +kernel)
theorem dX1_goThrough_100 : decode cX1_goThrough 100 = .ok (.aload_n 0, 1) := dc0 dO_42 (by decide +kernel)
theorem dX1_goThrough_101 : decode cX1_goThrough 101 = .ok (.aload_n 3, 1) := dc0 dO_45 (by decide +kernel)
theorem dX1_goThrough_102 : decode cX1_goThrough 102 = .ok (.iload 10, 2) := dcU1 dO_21 (by decide +kernel)
theorem dX1_goThrough_104 : decode cX1_goThrough 104 = .ok (.invokevirtual 64, 3) := dcU2 dO_182 (by decide +kernel)
theorem dX1_goThrough_107 : decode cX1_goThrough 107 = .ok (.aload_n 3, 1) := dc0 dO_45 (by decide +kernel)
theorem dX1_goThrough_108 : decode cX1_goThrough 108 = .ok (.getfield 60, 3) := dcU2 dO_180 (by decide +kernel)
theorem dX1_goThrough_111 : decode cX1_goThrough 111 = .ok (.iload 10, 2) := dcU1 dO_21 (by decide +kernel)
theorem dX1_goThrough_113 : decode cX1_goThrough 113 = .ok (.iconst 1, 1) := dc0 dO_4 (by decide +kernel)
theorem dX1_goThrough_114 : decode cX1_goThrough 114 = .ok (.iadd, 1) := dc0 dO_96 (by decide +kernel)
theorem dX1_goThrough_115 : decode cX1_goThrough 115 = .ok (.iaload, 1) := dc0 dO_46 (by decide +kernel)
theorem dX1_goThrough_116 : decode cX1_goThrough 116 = .ok (.iconst 1, 1) := dc0 dO_4 (by decide +kernel)
theorem dX1_goThrough_117 : decode cX1_goThrough 117 = .ok (.if_icmp .ne 7, 3) := dcS2 dO_160 (by decide +kernel)
theorem dX1_goThrough_120 : decode cX1_goThrough 120 = .ok (.iconst 1, 1) := dc0 dO_4 (by decide +kernel)
theorem dX1_goThrough_121 : decode cX1_goThrough 121 = .ok (.goto 4, 3) := dcS2 dO_167 (by decide +kernel)
theorem dX1_goThrough_124 : decode cX1_goThrough 124 = .ok (.iconst 0, 1) := dc0 dO_3 (by decide +kernel)
theorem dX1_goThrough_125 : decode cX1_goThrough 125 = .ok (.if_icmp .eq 7, 3) := dcS2 dO_159 (by decide +kernel)
theorem sfx_cX1_goThrough_128 : (cX1_goThrough.data.toList.drop 128).take 67 = [4, 167, 0, 4, 3, 54, 9, 132, 10, 5, 167, 255, 206, 21, 9, 153, 0, 16, 42, 45, 180, 0, 60, 21, 8, 21, 7, 28, 182, 0, 68, 21, 8, 21, 7, 5, 104, 96, 54, 4, 132, 5, 1, 167, 255, 117, 177] := by decide +kernel
theorem dX1_goThrough_128 : decode cX1_goThrough 128 = .ok (.iconst 1, 1) := dc0 dO_4 (rdB.ch sfx_cX1_goThrough_128 0 rfl (by decide +kernel))
theorem dX1_goThrough_129 : decode cX1_goThrough 129 = .ok (.goto 4, 3) := dcS2 dO_167 (rdS2.ch sfx_cX1_goThrough_128 1 rfl (by decide +kernel))
theorem dX1_goThrough_132 : decode cX1_goThrough 132 = .ok (.iconst 0, 1) := dc0 dO_3 (rdB.ch sfx_cX1_goThrough_128 4 rfl (by decide +kernel))
theorem dX1_goThrough_133 : decode cX1_goThrough 133 = .ok (.istore 9, 2) := dcU1 dO_54 (rdU1.ch sfx_cX1_goThrough_128 5 rfl (by decide +kernel))
theorem dX1_goThrough_135 : decode cX1_goThrough 135 = .ok (.iinc 10 5, 3) := dcI dO_132 (rdI.ch sfx_cX1_goThrough_128 7 rfl (by decide +kernel))
theorem dX1_goThrough_138 : decode cX1_goThrough 138 = .ok (.goto (-50), 3) := dcS2 dO_167 (rdS2.ch sfx_cX1_goThrough_128 10 rfl (by decide +kernel))
theorem dX1_goThrough_141 : decode cX1_goThrough 141 = .ok (.iload 9, 2) := dcU1 dO_21 (rdU1.ch sfx_cX1_goThrough_128 13 rfl (by decide +kernel))
theorem dX1_goThrough_143 : decode cX1_goThrough 143 = .ok (.ifCond .eq 16, 3) := dcS2 dO_153 (rdS2.ch sfx_cX1_goThrough_128 15 rfl (by decide +kernel))
theorem dX1_goThrough_146 : decode cX1_goThrough 146 = .ok (.aload_n 0, 1) := dc0 dO_42 (rdB.ch sfx_cX1_goThrough_128 18 rfl (by decide +kernel))
theorem dX1_goThrough_147 : decode cX1_goThrough 147 = .ok (.aload_n 3, 1) := dc0 dO_45 (rdB.ch sfx_cX1_goThrough_128 19 rfl (by decide +kernel))
theorem dX1_goThrough_148 : decode cX1_goThrough 148 = .ok (.getfield 60, 3) := dcU2 dO_180 (rdU2.ch sfx_cX1_goThrough_128 20 rfl (by decide +kernel))
theorem dX1_goThrough_151 : decode cX1_goThrough 151 = .ok (.iload 8, 2) := dcU1 dO_21 (rdU1.ch sfx_cX1_goThrough_128 23 rfl (by decide +kernel))
theorem dX1_goThrough_153 : decode cX1_goThrough 153 = .ok (.iload 7, 2) := dcU1 dO_21 (rdU1.ch sfx_cX1_goThrough_128 25 rfl (by decide +kernel))
theorem dX1_goThrough_155 : decode cX1_goThrough 155 = .ok (.iload_n 2, 1) := dc0 dO_28 (rdB.ch sfx_cX1_goThrough_128 27 rfl (by decide +kernel))
theorem dX1_goThrough_156 : decode cX1_goThrough 156 = .ok (.invokevirtual 68, 3) := dcU2 dO_182 (rdU2.ch sfx_cX1_goThrough_128 28 rfl (by decide +kernel))
theorem dX1_goThrough_159 : decode cX1_goThrough 159 = .ok (.iload 8, 2) := dcU1 dO_21 (rdU1.ch sfx_cX1_goThrough_128 31 rfl (by decide +kernel))
theorem dX1_goThrough_161 : decode cX1_goThrough 161 = .ok (.iload 7, 2) := dcU1 dO_21 (rdU1.ch sfx_cX1_goThrough_128 33 rfl (by decide +kernel))
theorem dX1_goThrough_163 : decode cX1_goThrough 163 = .ok (.iconst 2, 1) := dc0 dO_5 (rdB.ch sfx_cX1_goThrough_128 35 rfl (by decide +kernel))
theorem dX1_goThrough_164 : decode cX1_goThrough 164 = .ok (.imul, 1) := dc0 dO_104 (rdB.ch sfx_cX1_goThrough_128 36 rfl (by decide +kernel))
theorem dX1_goThrough_165 : decode cX1_goThrough 165 = .ok (.iadd, 1) := dc0 dO_96 (rdB.ch sfx_cX1_goThrough_128 37 rfl (by decide +kernel))
theorem dX1_goThrough_166 : decode cX1_goThrough 166 = .ok (.istore 4, 2) := dcU1 dO_54 (rdU1.ch sfx_cX1_goThrough_128 38 rfl (by decide +kernel))
theorem dX1_goThrough_168 : decode cX1_goThrough 168 = .ok (.iinc 5 1, 3) := dcI dO_132 (rdI.ch sfx_cX1_goThrough_128 40 rfl (by decide +kernel))
theorem dX1_goThrough_171 : decode cX1_goThrough 171 = .ok (.goto (-139), 3) := dcS2 dO_167 (rdS2.ch sfx_cX1_goThrough_128 43 rfl (by decide +kernel))
theorem dX1_goThrough_174 : decode cX1_goThrough 174 = .ok (.return_, 1) := dc0 dO_177 (rdB.ch sfx_cX1_goThrough_128 46 rfl (by decide +kernel))
theorem dX1_isSo_0 : decode cX1_isSo 0 = .ok (.aload_n 1, 1) := dc0 dO_43 (by decide +kernel)
theorem dX1_isSo_1 : decode cX1_isSo 1 = .ok (.getfield 60, 3) := dcU2 dO_180 (by decide +kernel)
theorem dX1_isSo_4 : decode cX1_isSo 4 = .ok (.iload_n 2, 1) := dc0 dO_28 (by decide +kernel)
theorem dX1_isSo_5 : decode cX1_isSo 5 = .ok (.iconst 2, 1) := dc0 dO_5 (by decide +kernel)
theorem dX1_isSo_6 : decode cX1_isSo 6 = .ok (.iadd, 1) := dc0 dO_96 (by decide +kernel)
theorem dX1_isSo_7 : decode cX1_isSo 7 = .ok (.iaload, 1) := dc0 dO_46 (by decide +kernel)
theorem dX1_isSo_8 : decode cX1_isSo 8 = .ok (.istore_n 3, 1) := dc0 dO_62 (by decide +kernel)
theorem dX1_isSo_9 : decode cX1_isSo 9 = .ok (.aload_n 1, 1) := dc0 dO_43 (by decide +kernel)
theorem dX1_isSo_10 : decode cX1_isSo 10 = .ok (.getfield 60, 3) := dcU2 dO_180 (by decide +kernel)
theorem dX1_isSo_13 : decode cX1_isSo 13 = .ok (.iload_n 2, 1) := dc0 dO_28 (by decide +kernel)
theorem dX1_isSo_14 : decode cX1_isSo 14 = .ok (.iconst 3, 1) := dc0 dO_6 (by decide +kernel)
theorem dX1_isSo_15 : decode cX1_isSo 15 = .ok (.iadd, 1) := dc0 dO_96 (by decide +kernel)
theorem dX1_isSo_16 : decode cX1_isSo 16 = .ok (.iaload, 1) := dc0 dO_46 (by decide +kernel)
theorem dX1_isSo_17 : decode cX1_isSo 17 = .ok (.istore 4, 2) := dcU1 dO_54 (by decide +kernel)
theorem dX1_isSo_19 : decode cX1_isSo 19 = .ok (.aload_n 1, 1) := dc0 dO_43 (by decide +kernel)
theorem dX1_isSo_20 : decode cX1_isSo 20 = .ok (.getfield 60, 3) := dcU2 dO_180 (by decide +kernel)
theorem dX1_isSo_23 : decode cX1_isSo 23 = .ok (.iload_n 2, 1) := dc0 dO_28 (by decide +kernel)
theorem dX1_isSo_24 : decode cX1_isSo 24 = .ok (.iconst 4, 1) := dc0 dO_7 (by decide +kernel)
theorem dX1_isSo_25 : decode cX1_isSo 25 = .ok (.iadd, 1) := dc0 dO_96 (by decide +kernel)
theorem dX1_isSo_26 : decode cX1_isSo 26 = .ok (.iaload, 1) := dc0 dO_46 (by decide +kernel)
theorem dX1_isSo_27 : decode cX1_isSo 27 = .ok (.istore 5, 2) := dcU1 dO_54 (by decide +kernel)
theorem dX1_isSo_29 : decode cX1_isSo 29 = .ok (.aload_n 1, 1) := dc0 dO_43 (by decide +kernel)
theorem dX1_isSo_30 : decode cX1_isSo 30 = .ok (.getfield 60, 3) := dcU2 dO_180 (by decide +kernel)
theorem dX1_isSo_33 : decode cX1_isSo 33 = .ok (.iload_n 2, 1) := dc0 dO_28 (by decide +kernel)
theorem dX1_isSo_34 : decode cX1_isSo 34 = .ok (.iaload, 1) := dc0 dO_46 (by decide +kernel)
theorem dX1_isSo_35 : decode cX1_isSo 35 = .ok (.tableswitch 346 4 15 #[61, 346, 123, 346, 144, 153, 167, 181, 205, 229, 253, 270], 61) := by decide +kernel
theorem dX1_isSo_96 : decode cX1_isSo 96 = .ok (.aload_n 0, 1) := dc0 dO_42 (by decide +kernel)
theorem dX1_isSo_97 : decode cX1_isSo 97 = .ok (.getfield 9, 3) := dcU2 dO_180 (by decide +kernel)
theorem dX1_isSo_100 : decode cX1_isSo 100 = .ok (.getfield 72, 3) := dcU2 dO_180 (by decide +kernel)
theorem dX1_isSo_103 : decode cX1_isSo 103 = .ok (.aload_n 0, 1) := dc0 dO_42 (by decide +kernel)
theorem dX1_isSo_104 : decode cX1_isSo 104 = .ok (.getfield 25, 3) := dcU2 dO_180 (by decide +kernel)
theorem dX1_isSo_107 : decode cX1_isSo 107 = .ok (.getfield 77, 3) := dcU2 dO_180 (by decide +kernel)
theorem dX1_isSo_110 : decode cX1_isSo 110 = .ok (.iaload, 1) := dc0 dO_46 (by decide +kernel)
theorem dX1_isSo_111 : decode cX1_isSo 111 = .ok (.istore 6, 2) := dcU1 dO_54 (by decide +kernel)
theorem dX1_isSo_113 : decode cX1_isSo 113 = .ok (.iload 6, 2) := dcU1 dO_21 (by decide +kernel)
theorem dX1_isSo_115 : decode cX1_isSo 115 = .ok (.iload 4, 2) := dcU1 dO_21 (by decide +kernel)
theorem dX1_isSo_117 : decode cX1_isSo 117 = .ok (.if_icmp .lt 39, 3) := dcS2 dO_161 (by decide +kernel)
theorem dX1_isSo_120 : decode cX1_isSo 120 = .ok (.iload 6, 2) := dcU1 dO_21 (by decide +kernel)
theorem dX1_isSo_122 : decode cX1_isSo 122 = .ok (.iload 5, 2) := dcU1 dO_21 (by decide +kernel)
theorem dX1_isSo_124 : decode cX1_isSo 124 = .ok (.if_icmp .gt 32, 3) := dcS2 dO_163 (by decide +kernel)
theorem dX1_isSo_127 : decode cX1_isSo 127 = .ok (.aload_n 0, 1) := dc0 dO_42 (by decide +kernel)
theorem sfx_cX1_isSo_128 : (cX1_isSo.data.toList.drop 128).take 67 = [180, 0, 9, 180, 0, 82, 42, 180, 0, 25, 180, 0, 77, 46, 21, 4, 184, 0, 85, 126, 29, 160, 0, 7, 4, 167, 0, 4, 3, 172, 43, 29, 21, 4, 4, 160, 0, 7, 4, 167, 0, 4, 3, 42, 180, 0, 25, 182, 0, 88, 172, 42, 180, 0, 25, 29, 182, 0, 92, 172, 42, 180, 0, 38, 29, 160, 0] := by decide +kernel
theorem dX1_isSo_128 : decode cX1_isSo 128 = .ok (.getfield 9, 3) := dcU2 dO_180 (rdU2.ch sfx_cX1_isSo_128 0 rfl (by decide +kernel))
theorem dX1_isSo_131 : decode cX1_isSo 131 = .ok (.getfield 82, 3) := dcU2 dO_180 (rdU2.ch sfx_cX1_isSo_128 3 rfl (by decide +kernel))
theorem dX1_isSo_134 : decode cX1_isSo 134 = .ok (.aload_n 0, 1) := dc0 dO_42 (rdB.ch sfx_cX1_isSo_128 6 rfl (by decide +kernel))
theorem dX1_isSo_135 : decode cX1_isSo 135 = .ok (.getfield 25, 3) := dcU2 dO_180 (rdU2.ch sfx_cX1_isSo_128 7 rfl (by decide +kernel))
theorem dX1_isSo_138 : decode cX1_isSo 138 = .ok (.getfield 77, 3) := dcU2 dO_180 (rdU2.ch sfx_cX1_isSo_128 10 rfl (by decide +kernel))
theorem dX1_isSo_141 : decode cX1_isSo 141 = .ok (.iaload, 1) := dc0 dO_46 (rdB.ch sfx_cX1_isSo_128 13 rfl (by decide +kernel))
theorem dX1_isSo_142 : decode cX1_isSo 142 = .ok (.iload 4, 2) := dcU1 dO_21 (rdU1.ch sfx_cX1_isSo_128 14 rfl (by decide +kernel))
theorem dX1_isSo_144 : decode cX1_isSo 144 = .ok (.invokestatic 85, 3) := dcU2 dO_184 (rdU2.ch sfx_cX1_isSo_128 16 rfl (by decide +kernel))
theorem dX1_isSo_147 : decode cX1_isSo 147 = .ok (.iand, 1) := dc0 dO_126 (rdB.ch sfx_cX1_isSo_128 19 rfl (by decide +kernel))
theorem dX1_isSo_148 : decode cX1_isSo 148 = .ok (.iload_n 3, 1) := dc0 dO_29 (rdB.ch sfx_cX1_isSo_128 20 rfl (by decide +kernel))
theorem dX1_isSo_149 : decode cX1_isSo 149 = .ok (.if_icmp .ne 7, 3) := dcS2 dO_160 (rdS2.ch sfx_cX1_isSo_128 21 rfl (by decide +kernel))
theorem dX1_isSo_152 : decode cX1_isSo 152 = .ok (.iconst 1, 1) := dc0 dO_4 (rdB.ch sfx_cX1_isSo_128 24 rfl (by decide +kernel))
theorem dX1_isSo_153 : decode cX1_isSo 153 = .ok (.goto 4, 3) := dcS2 dO_167 (rdS2.ch sfx_cX1_isSo_128 25 rfl (by decide +kernel))
theorem dX1_isSo_156 : decode cX1_isSo 156 = .ok (.iconst 0, 1) := dc0 dO_3 (rdB.ch sfx_cX1_isSo_128 28 rfl (by decide +kernel))
theorem dX1_isSo_157 : decode cX1_isSo 157 = .ok (.ireturn, 1) := dc0 dO_172 (rdB.ch sfx_cX1_isSo_128 29 rfl (by decide +kernel))
theorem dX1_isSo_158 : decode cX1_isSo 158 = .ok (.aload_n 1, 1) := dc0 dO_43 (rdB.ch sfx_cX1_isSo_128 30 rfl (by decide +kernel))
theorem dX1_isSo_159 : decode cX1_isSo 159 = .ok (.iload_n 3, 1) := dc0 dO_29 (rdB.ch sfx_cX1_isSo_128 31 rfl (by decide +kernel))
theorem dX1_isSo_160 : decode cX1_isSo 160 = .ok (.iload 4, 2) := dcU1 dO_21 (rdU1.ch sfx_cX1_isSo_128 32 rfl (by decide +kernel))
theorem dX1_isSo_162 : decode cX1_isSo 162 = .ok (.iconst 1, 1) := dc0 dO_4 (rdB.ch sfx_cX1_isSo_128 34 rfl (by decide +kernel))
theorem dX1_isSo_163 : decode cX1_isSo 163 = .ok (.if_icmp .ne 7, 3) := dcS2 dO_160 (rdS2.ch sfx_cX1_isSo_128 35 rfl (by decide +kernel))
theorem dX1_isSo_166 : decode cX1_isSo 166 = .ok (.iconst 1, 1) := dc0 dO_4 (rdB.ch sfx_cX1_isSo_128 38 rfl (by decide +kernel))
theorem dX1_isSo_167 : decode cX1_isSo 167 = .ok (.goto 4, 3) := dcS2 dO_167 (rdS2.ch sfx_cX1_isSo_128 39 rfl (by decide +kernel))
theorem dX1_isSo_170 : decode cX1_isSo 170 = .ok (.iconst 0, 1) := dc0 dO_3 (rdB.ch sfx_cX1_isSo_128 42 rfl (by decide +kernel))
theorem dX1_isSo_171 : decode cX1_isSo 171 = .ok (.aload_n 0, 1) := dc0 dO_42 (rdB.ch sfx_cX1_isSo_128 43 rfl (by decide +kernel))
theorem dX1_isSo_172 : decode cX1_isSo 172 = .ok (.getfield 25, 3) := dcU2 dO_180 (rdU2.ch sfx_cX1_isSo_128 44 rfl (by decide +kernel))
theorem dX1_isSo_175 : decode cX1_isSo 175 = .ok (.invokevirtual 88, 3) := dcU2 dO_182 (rdU2.ch sfx_cX1_isSo_128 47 rfl (by decide +kernel))
theorem dX1_isSo_178 : decode cX1_isSo 178 = .ok (.ireturn, 1) := dc0 dO_172 (rdB.ch sfx_cX1_isSo_128 50 rfl (by decide +kernel))
theorem dX1_isSo_179 : decode cX1_isSo 179 = .ok (.aload_n 0, 1) := dc0 dO_42 (rdB.ch sfx_cX1_isSo_128 51 rfl (by decide +kernel))
theorem dX1_isSo_180 : decode cX1_isSo 180 = .ok (.getfield 25, 3) := dcU2 dO_180 (rdU2.ch sfx_cX1_isSo_128 52 rfl (by decide +kernel))
theorem dX1_isSo_183 : decode cX1_isSo 183 = .ok (.iload_n 3, 1) := dc0 dO_29 (rdB.ch sfx_cX1_isSo_128 55 rfl (by decide +kernel))
theorem dX1_isSo_184 : decode cX1_isSo 184 = .ok (.invokevirtual 92, 3) := dcU2 dO_182 (rdU2.ch sfx_cX1_isSo_128 56 rfl (by decide +kernel))
theorem dX1_isSo_187 : decode cX1_isSo 187 = .ok (.ireturn, 1) := dc0 dO_172 (rdB.ch sfx_cX1_isSo_128 59 rfl (by decide +kernel))
theorem dX1_isSo_188 : decode cX1_isSo 188 = .ok (.aload_n 0, 1) := dc0 dO_42 (rdB.ch sfx_cX1_isSo_128 60 rfl (by decide +kernel))
theorem dX1_isSo_189 : decode cX1_isSo 189 = .ok (.getfield 38, 3) := dcU2 dO_180 (rdU2.ch sfx_cX1_isSo_128 61 rfl (by decide +kernel))
theorem sfx_cX1_isSo_192 : (cX1_isSo.data.toList.drop 192).take 67 = [29, 160, 0, 7, 4, 167, 0, 4, 3, 172, 42, 180, 0, 44, 29, 160, 0, 7, 4, 167, 0, 4, 3, 172, 42, 180, 0, 25, 180, 0, 96, 21, 4, 184, 0, 99, 4, 96, 29, 160, 0, 7, 4, 167, 0, 4, 3, 172, 42, 180, 0, 25, 180, 0, 105, 21, 4, 184, 0, 99, 4, 96, 29, 160, 0, 7, 4] := by decide +kernel
theorem dX1_isSo_192 : decode cX1_isSo 192 = .ok (.iload_n 3, 1) := dc0 dO_29 (rdB.ch sfx_cX1_isSo_192 0 rfl (by decide +kernel))
theorem dX1_isSo_193 : decode cX1_isSo 193 = .ok (.if_icmp .ne 7, 3) := dcS2 dO_160 (rdS2.ch sfx_cX1_isSo_192 1 rfl (by decide +kernel))
theorem dX1_isSo_196 : decode cX1_isSo 196 = .ok (.iconst 1, 1) := dc0 dO_4 (rdB.ch sfx_cX1_isSo_192 4 rfl (by decide +kernel))
theorem dX1_isSo_197 : decode cX1_isSo 197 = .ok (.goto 4, 3) := dcS2 dO_167 (rdS2.ch sfx_cX1_isSo_192 5 rfl (by decide +kernel))
theorem dX1_isSo_200 : decode cX1_isSo 200 = .ok (.iconst 0, 1) := dc0 dO_3 (rdB.ch sfx_cX1_isSo_192 8 rfl (by decide +kernel))
theorem dX1_isSo_201 : decode cX1_isSo 201 = .ok (.ireturn, 1) := dc0 dO_172 (rdB.ch sfx_cX1_isSo_192 9 rfl (by decide +kernel))
theorem dX1_isSo_202 : decode cX1_isSo 202 = .ok (.aload_n 0, 1) := dc0 dO_42 (rdB.ch sfx_cX1_isSo_192 10 rfl (by decide +kernel))
theorem dX1_isSo_203 : decode cX1_isSo 203 = .ok (.getfield 44, 3) := dcU2 dO_180 (rdU2.ch sfx_cX1_isSo_192 11 rfl (by decide +kernel))
theorem dX1_isSo_206 : decode cX1_isSo 206 = .ok (.iload_n 3, 1) := dc0 dO_29 (rdB.ch sfx_cX1_isSo_192 14 rfl (by decide +kernel))
theorem dX1_isSo_207 : decode cX1_isSo 207 = .ok (.if_icmp .ne 7, 3) := dcS2 dO_160 (rdS2.ch sfx_cX1_isSo_192 15 rfl (by decide +kernel))
theorem dX1_isSo_210 : decode cX1_isSo 210 = .ok (.iconst 1, 1) := dc0 dO_4 (rdB.ch sfx_cX1_isSo_192 18 rfl (by decide +kernel))
theorem dX1_isSo_211 : decode cX1_isSo 211 = .ok (.goto 4, 3) := dcS2 dO_167 (rdS2.ch sfx_cX1_isSo_192 19 rfl (by decide +kernel))
theorem dX1_isSo_214 : decode cX1_isSo 214 = .ok (.iconst 0, 1) := dc0 dO_3 (rdB.ch sfx_cX1_isSo_192 22 rfl (by decide +kernel))
theorem dX1_isSo_215 : decode cX1_isSo 215 = .ok (.ireturn, 1) := dc0 dO_172 (rdB.ch sfx_cX1_isSo_192 23 rfl (by decide +kernel))
theorem dX1_isSo_216 : decode cX1_isSo 216 = .ok (.aload_n 0, 1) := dc0 dO_42 (rdB.ch sfx_cX1_isSo_192 24 rfl (by decide +kernel))
theorem dX1_isSo_217 : decode cX1_isSo 217 = .ok (.getfield 25, 3) := dcU2 dO_180 (rdU2.ch sfx_cX1_isSo_192 25 rfl (by decide +kernel))
theorem dX1_isSo_220 : decode cX1_isSo 220 = .ok (.getfield 96, 3) := dcU2 dO_180 (rdU2.ch sfx_cX1_isSo_192 28 rfl (by decide +kernel))
theorem dX1_isSo_223 : decode cX1_isSo 223 = .ok (.iload 4, 2) := dcU1 dO_21 (rdU1.ch sfx_cX1_isSo_192 31 rfl (by decide +kernel))
theorem dX1_isSo_225 : decode cX1_isSo 225 = .ok (.invokestatic 99, 3) := dcU2 dO_184 (rdU2.ch sfx_cX1_isSo_192 33 rfl (by decide +kernel))
theorem dX1_isSo_228 : decode cX1_isSo 228 = .ok (.iconst 1, 1) := dc0 dO_4 (rdB.ch sfx_cX1_isSo_192 36 rfl (by decide +kernel))
theorem dX1_isSo_229 : decode cX1_isSo 229 = .ok (.iadd, 1) := dc0 dO_96 (rdB.ch sfx_cX1_isSo_192 37 rfl (by decide +kernel))
theorem dX1_isSo_230 : decode cX1_isSo 230 = .ok (.iload_n 3, 1) := dc0 dO_29 (rdB.ch sfx_cX1_isSo_192 38 rfl (by decide +kernel))
theorem dX1_isSo_231 : decode cX1_isSo 231 = .ok (.if_icmp .ne 7, 3) := dcS2 dO_160 (rdS2.ch sfx_cX1_isSo_192 39 rfl (by decide +kernel))
theorem dX1_isSo_234 : decode cX1_isSo 234 = .ok (.iconst 1, 1) := dc0 dO_4 (rdB.ch sfx_cX1_isSo_192 42 rfl (by decide +kernel))
theorem dX1_isSo_235 : decode cX1_isSo 235 = .ok (.goto 4, 3) := dcS2 dO_167 (rdS2.ch sfx_cX1_isSo_192 43 rfl (by decide +kernel))
theorem dX1_isSo_238 : decode cX1_isSo 238 = .ok (.iconst 0, 1) := dc0 dO_3 (rdB.ch sfx_cX1_isSo_192 46 rfl (by decide +kernel))
theorem dX1_isSo_239 : decode cX1_isSo 239 = .ok (.ireturn, 1) := dc0 dO_172 (rdB.ch sfx_cX1_isSo_192 47 rfl (by decide +kernel))
theorem dX1_isSo_240 : decode cX1_isSo 240 = .ok (.aload_n 0, 1) := dc0 dO_42 (rdB.ch sfx_cX1_isSo_192 48 rfl (by decide +kernel))
theorem dX1_isSo_241 : decode cX1_isSo 241 = .ok (.getfield 25, 3) := dcU2 dO_180 (rdU2.ch sfx_cX1_isSo_192 49 rfl (by decide +kernel))
theorem dX1_isSo_244 : decode cX1_isSo 244 = .ok (.getfield 105, 3) := dcU2 dO_180 (rdU2.ch sfx_cX1_isSo_192 52 rfl (by decide +kernel))
theorem dX1_isSo_247 : decode cX1_isSo 247 = .ok (.iload 4, 2) := dcU1 dO_21 (rdU1.ch sfx_cX1_isSo_192 55 rfl (by decide +kernel))
theorem dX1_isSo_249 : decode cX1_isSo 249 = .ok (.invokestatic 99, 3) := dcU2 dO_184 (rdU2.ch sfx_cX1_isSo_192 57 rfl (by decide +kernel))
theorem dX1_isSo_252 : decode cX1_isSo 252 = .ok (.iconst 1, 1) := dc0 dO_4 (rdB.ch sfx_cX1_isSo_192 60 rfl (by decide +kernel))
theorem dX1_isSo_253 : decode cX1_isSo 253 = .ok (.iadd, 1) := dc0 dO_96 (rdB.ch sfx_cX1_isSo_192 61 rfl (by decide +kernel))
theorem dX1_isSo_254 : decode cX1_isSo 254 = .ok (.iload_n 3, 1) := dc0 dO_29 (rdB.ch sfx_cX1_isSo_192 62 rfl (by decide +kernel))
theorem dX1_isSo_255 : decode cX1_isSo 255 = .ok (.if_icmp .ne 7, 3) := dcS2 dO_160 (rdS2.ch sfx_cX1_isSo_192 63 rfl (by decide +kernel))
theorem sfx_cX1_isSo_256 : (cX1_isSo.data.toList.drop 256).take 67 = [0, 7, 4, 167, 0, 4, 3, 172, 42, 180, 0, 25, 180, 0, 108, 21, 4, 184, 0, 99, 4, 96, 29, 160, 0, 7, 4, 167, 0, 4, 3, 172, 42, 180, 0, 25, 180, 0, 111, 29, 160, 0, 7, 4, 167, 0, 4, 3, 172, 42, 180, 0, 25, 180, 0, 96, 158, 0, 23, 42, 180, 0, 25, 180, 0, 114, 42] := by decide +kernel
theorem dX1_isSo_258 : decode cX1_isSo 258 = .ok (.iconst 1, 1) := dc0 dO_4 (rdB.ch sfx_cX1_isSo_256 2 rfl (by decide +kernel))
theorem dX1_isSo_259 : decode cX1_isSo 259 = .ok (.goto 4, 3) := dcS2 dO_167 (rdS2.ch sfx_cX1_isSo_256 3 rfl (by decide +kernel))
theorem dX1_isSo_262 : decode cX1_isSo 262 = .ok (.iconst 0, 1) := dc0 dO_3 (rdB.ch sfx_cX1_isSo_256 6 rfl (by decide +kernel))
theorem dX1_isSo_263 : decode cX1_isSo 263 = .ok (.ireturn, 1) := dc0 dO_172 (rdB.ch sfx_cX1_isSo_256 7 rfl (by decide +kernel))
theorem dX1_isSo_264 : decode cX1_isSo 264 = .ok (.aload_n 0, 1) := dc0 dO_42 (rdB.ch sfx_cX1_isSo_256 8 rfl (by decide +kernel))
theorem dX1_isSo_265 : decode cX1_isSo 265 = .ok (.getfield 25, 3) := dcU2 dO_180 (rdU2.ch sfx_cX1_isSo_256 9 rfl (by decide +kernel))
theorem dX1_isSo_268 : decode cX1_isSo 268 = .ok (.getfield 108, 3) := dcU2 dO_180 (rdU2.ch sfx_cX1_isSo_256 12 rfl (by decide +kernel))
theorem dX1_isSo_271 : decode cX1_isSo 271 = .ok (.iload 4, 2) := dcU1 dO_21 (rdU1.ch sfx_cX1_isSo_256 15 rfl (by decide +kernel))
theorem dX1_isSo_273 : decode cX1_isSo 273 = .ok (.invokestatic 99, 3) := dcU2 dO_184 (rdU2.ch sfx_cX1_isSo_256 17 rfl (by decide +kernel))
theorem dX1_isSo_276 : decode cX1_isSo 276 = .ok (.iconst 1, 1) := dc0 dO_4 (rdB.ch sfx_cX1_isSo_256 20 rfl (by decide +kernel))
theorem dX1_isSo_277 : decode cX1_isSo 277 = .ok (.iadd, 1) := dc0 dO_96 (rdB.ch sfx_cX1_isSo_256 21 rfl (by decide +kernel))
theorem dX1_isSo_278 : decode cX1_isSo 278 = .ok (.iload_n 3, 1) := dc0 dO_29 (rdB.ch sfx_cX1_isSo_256 22 rfl (by decide +kernel))
theorem dX1_isSo_279 : decode cX1_isSo 279 = .ok (.if_icmp .ne 7, 3) := dcS2 dO_160 (rdS2.ch sfx_cX1_isSo_256 23 rfl (by decide +kernel))
theorem dX1_isSo_282 : decode cX1_isSo 282 = .ok (.iconst 1, 1) := dc0 dO_4 (rdB.ch sfx_cX1_isSo_256 26 rfl (by decide +kernel))
theorem dX1_isSo_283 : decode cX1_isSo 283 = .ok (.goto 4, 3) := dcS2 dO_167 (rdS2.ch sfx_cX1_isSo_256 27 rfl (by decide +kernel))
theorem dX1_isSo_286 : decode cX1_isSo 286 = .ok (.iconst 0, 1) := dc0 dO_3 (rdB.ch sfx_cX1_isSo_256 30 rfl (by decide +kernel))
theorem dX1_isSo_287 : decode cX1_isSo 287 = .ok (.ireturn, 1) := dc0 dO_172 (rdB.ch sfx_cX1_isSo_256 31 rfl (by decide +kernel))
theorem dX1_isSo_288 : decode cX1_isSo 288 = .ok (.aload_n 0, 1) := dc0 dO_42 (rdB.ch sfx_cX1_isSo_256 32 rfl (by decide +kernel))
theorem dX1_isSo_289 : decode cX1_isSo 289 = .ok (.getfield 25, 3) := dcU2 dO_180 (rdU2.ch sfx_cX1_isSo_256 33 rfl (by decide +kernel))
theorem dX1_isSo_292 : decode cX1_isSo 292 = .ok (.getfield 111, 3) := dcU2 dO_180 (rdU2.ch sfx_cX1_isSo_256 36 rfl (by decide +kernel))
theorem dX1_isSo_295 : decode cX1_isSo 295 = .ok (.iload_n 3, 1) := dc0 dO_29 (rdB.ch sfx_cX1_isSo_256 39 rfl (by decide +kernel))
theorem dX1_isSo_296 : decode cX1_isSo 296 = .ok (.if_icmp .ne 7, 3) := dcS2 dO_160 (rdS2.ch sfx_cX1_isSo_256 40 rfl (by decide +kernel))
theorem dX1_isSo_299 : decode cX1_isSo 299 = .ok (.iconst 1, 1) := dc0 dO_4 (rdB.ch sfx_cX1_isSo_256 43 rfl (by decide +kernel))
theorem dX1_isSo_300 : decode cX1_isSo 300 = .ok (.goto 4, 3) := dcS2 dO_167 (rdS2.ch sfx_cX1_isSo_256 44 rfl (by decide +kernel))
theorem dX1_isSo_303 : decode cX1_isSo 303 = .ok (.iconst 0, 1) := dc0 dO_3 (rdB.ch sfx_cX1_isSo_256 47 rfl (by decide +kernel))
theorem dX1_isSo_304 : decode cX1_isSo 304 = .ok (.ireturn, 1) := dc0 dO_172 (rdB.ch sfx_cX1_isSo_256 48 rfl (by decide +kernel))
theorem dX1_isSo_305 : decode cX1_isSo 305 = .ok (.aload_n 0, 1) := dc0 dO_42 (rdB.ch sfx_cX1_isSo_256 49 rfl (by decide +kernel))
theorem dX1_isSo_306 : decode cX1_isSo 306 = .ok (.getfield 25, 3) := dcU2 dO_180 (rdU2.ch sfx_cX1_isSo_256 50 rfl (by decide +kernel))
theorem dX1_isSo_309 : decode cX1_isSo 309 = .ok (.getfield 96, 3) := dcU2 dO_180 (rdU2.ch sfx_cX1_isSo_256 53 rfl (by decide +kernel))
theorem dX1_isSo_312 : decode cX1_isSo 312 = .ok (.ifCond .le 23, 3) := dcS2 dO_158 (rdS2.ch sfx_cX1_isSo_256 56 rfl (by decide +kernel))
theorem dX1_isSo_315 : decode cX1_isSo 315 = .ok (.aload_n 0, 1) := dc0 dO_42 (rdB.ch sfx_cX1_isSo_256 59 rfl (by decide +kernel))
theorem dX1_isSo_316 : decode cX1_isSo 316 = .ok (.getfield 25, 3) := dcU2 dO_180 (rdU2.ch sfx_cX1_isSo_256 60 rfl (by decide +kernel))
theorem dX1_isSo_319 : decode cX1_isSo 319 = .ok (.getfield 114, 3) := dcU2 dO_180 (rdU2.ch sfx_cX1_isSo_256 63 rfl (by decide +kernel))
theorem sfx_cX1_isSo_320 : (cX1_isSo.data.toList.drop 320).take 67 = [0, 114, 42, 180, 0, 25, 180, 0, 96, 4, 100, 46, 167, 0, 7, 42, 180, 0, 35, 54, 7, 42, 180, 0, 9, 42, 180, 0, 25, 180, 0, 77, 21, 7, 42, 180, 0, 9, 180, 0, 117, 42, 180, 0, 9, 180, 0, 117, 182, 0, 120, 29, 160, 0, 7, 4, 167, 0, 4, 3, 172, 3, 172] := by decide +kernel
theorem dX1_isSo_322 : decode cX1_isSo 322 = .ok (.aload_n 0, 1) := dc0 dO_42 (rdB.ch sfx_cX1_isSo_320 2 rfl (by decide +kernel))
theorem dX1_isSo_323 : decode cX1_isSo 323 = .ok (.getfield 25, 3) := dcU2 dO_180 (rdU2.ch sfx_cX1_isSo_320 3 rfl (by decide +kernel))
theorem dX1_isSo_326 : decode cX1_isSo 326 = .ok (.getfield 96, 3) := dcU2 dO_180 (rdU2.ch sfx_cX1_isSo_320 6 rfl (by decide +kernel))
theorem dX1_isSo_329 : decode cX1_isSo 329 = .ok (.iconst 1, 1) := dc0 dO_4 (rdB.ch sfx_cX1_isSo_320 9 rfl (by decide +kernel))
theorem dX1_isSo_330 : decode cX1_isSo 330 = .ok (.isub, 1) := dc0 dO_100 (rdB.ch sfx_cX1_isSo_320 10 rfl (by decide +kernel))
theorem dX1_isSo_331 : decode cX1_isSo 331 = .ok (.iaload, 1) := dc0 dO_46 (rdB.ch sfx_cX1_isSo_320 11 rfl (by decide +kernel))
theorem dX1_isSo_332 : decode cX1_isSo 332 = .ok (.goto 7, 3) := dcS2 dO_167 (rdS2.ch sfx_cX1_isSo_320 12 rfl (by decide +kernel))
theorem dX1_isSo_335 : decode cX1_isSo 335 = .ok (.aload_n 0, 1) := dc0 dO_42 (rdB.ch sfx_cX1_isSo_320 15 rfl (by decide +kernel))
theorem dX1_isSo_336 : decode cX1_isSo 336 = .ok (.getfield 35, 3) := dcU2 dO_180 (rdU2.ch sfx_cX1_isSo_320 16 rfl (by decide +kernel))
theorem dX1_isSo_339 : decode cX1_isSo 339 = .ok (.istore 7, 2) := dcU1 dO_54 (rdU1.ch sfx_cX1_isSo_320 19 rfl (by decide +kernel))
theorem dX1_isSo_341 : decode cX1_isSo 341 = .ok (.aload_n 0, 1) := dc0 dO_42 (rdB.ch sfx_cX1_isSo_320 21 rfl (by decide +kernel))
theorem dX1_isSo_342 : decode cX1_isSo 342 = .ok (.getfield 9, 3) := dcU2 dO_180 (rdU2.ch sfx_cX1_isSo_320 22 rfl (by decide +kernel))
theorem dX1_isSo_345 : decode cX1_isSo 345 = .ok (.aload_n 0, 1) := dc0 dO_42 (rdB.ch sfx_cX1_isSo_320 25 rfl (by decide +kernel))
theorem dX1_isSo_346 : decode cX1_isSo 346 = .ok (.getfield 25, 3) := dcU2 dO_180 (rdU2.ch sfx_cX1_isSo_320 26 rfl (by decide +kernel))
theorem dX1_isSo_349 : decode cX1_isSo 349 = .ok (.getfield 77, 3) := dcU2 dO_180 (rdU2.ch sfx_cX1_isSo_320 29 rfl (by decide +kernel))
theorem dX1_isSo_352 : decode cX1_isSo 352 = .ok (.iload 7, 2) := dcU1 dO_21 (rdU1.ch sfx_cX1_isSo_320 32 rfl (by decide +kernel))
theorem dX1_isSo_354 : decode cX1_isSo 354 = .ok (.aload_n 0, 1) := dc0 dO_42 (rdB.ch sfx_cX1_isSo_320 34 rfl (by decide +kernel))
theorem dX1_isSo_355 : decode cX1_isSo 355 = .ok (.getfield 9, 3) := dcU2 dO_180 (rdU2.ch sfx_cX1_isSo_320 35 rfl (by decide +kernel))
theorem dX1_isSo_358 : decode cX1_isSo 358 = .ok (.getfield 117, 3) := dcU2 dO_180 (rdU2.ch sfx_cX1_isSo_320 38 rfl (by decide +kernel))
theorem dX1_isSo_361 : decode cX1_isSo 361 = .ok (.aload_n 0, 1) := dc0 dO_42 (rdB.ch sfx_cX1_isSo_320 41 rfl (by decide +kernel))
theorem dX1_isSo_362 : decode cX1_isSo 362 = .ok (.getfield 9, 3) := dcU2 dO_180 (rdU2.ch sfx_cX1_isSo_320 42 rfl (by decide +kernel))
theorem dX1_isSo_365 : decode cX1_isSo 365 = .ok (.getfield 117, 3) := dcU2 dO_180 (rdU2.ch sfx_cX1_isSo_320 45 rfl (by decide +kernel))
theorem dX1_isSo_368 : decode cX1_isSo 368 = .ok (.invokevirtual 120, 3) := dcU2 dO_182 (rdU2.ch sfx_cX1_isSo_320 48 rfl (by decide +kernel))
theorem dX1_isSo_371 : decode cX1_isSo 371 = .ok (.iload_n 3, 1) := dc0 dO_29 (rdB.ch sfx_cX1_isSo_320 51 rfl (by decide +kernel))
theorem dX1_isSo_372 : decode cX1_isSo 372 = .ok (.if_icmp .ne 7, 3) := dcS2 dO_160 (rdS2.ch sfx_cX1_isSo_320 52 rfl (by decide +kernel))
theorem dX1_isSo_375 : decode cX1_isSo 375 = .ok (.iconst 1, 1) := dc0 dO_4 (rdB.ch sfx_cX1_isSo_320 55 rfl (by decide +kernel))
theorem dX1_isSo_376 : decode cX1_isSo 376 = .ok (.goto 4, 3) := dcS2 dO_167 (rdS2.ch sfx_cX1_isSo_320 56 rfl (by decide +kernel))
theorem dX1_isSo_379 : decode cX1_isSo 379 = .ok (.iconst 0, 1) := dc0 dO_3 (rdB.ch sfx_cX1_isSo_320 59 rfl (by decide +kernel))
theorem dX1_isSo_380 : decode cX1_isSo 380 = .ok (.ireturn, 1) := dc0 dO_172 (rdB.ch sfx_cX1_isSo_320 60 rfl (by decide +kernel))
theorem dX1_isSo_381 : decode cX1_isSo 381 = .ok (.iconst 0, 1) := dc0 dO_3 (rdB.ch sfx_cX1_isSo_320 61 rfl (by decide +kernel))
theorem dX1_isSo_382 : decode cX1_isSo 382 = .ok (.ireturn, 1) := dc0 dO_172 (rdB.ch sfx_cX1_isSo_320 62 rfl (by decide +kernel))
theorem dX1_lets_0 : decode cX1_lets 0 = .ok (.iload_n 1, 1) := dc0 dO_27 (by decide +kernel)
theorem dX1_lets_1 : decode cX1_lets 1 = .ok (.ifCond .lt 11, 3) := dcS2 dO_155 (by decide +kernel)
theorem dX1_lets_4 : decode cX1_lets 4 = .ok (.iload_n 1, 1) := dc0 dO_27 (by decide +kernel)
theorem dX1_lets_5 : decode cX1_lets 5 = .ok (.aload_n 0, 1) := dc0 dO_42 (by decide +kernel)
theorem dX1_lets_6 : decode cX1_lets 6 = .ok (.getfield 21, 3) := dcU2 dO_180 (by decide +kernel)
theorem dX1_lets_9 : decode cX1_lets 9 = .ok (.if_icmp .lt 5, 3) := dcS2 dO_161 (by decide +kernel)
theorem dX1_lets_12 : decode cX1_lets 12 = .ok (.iconst 1, 1) := dc0 dO_4 (by decide +kernel)
theorem dX1_lets_13 : decode cX1_lets 13 = .ok (.ireturn, 1) := dc0 dO_172 (by decide +kernel)
theorem dX1_lets_14 : decode cX1_lets 14 = .ok (.aload_n 0, 1) := dc0 dO_42 (by decide +kernel)
theorem dX1_lets_15 : decode cX1_lets 15 = .ok (.aload_n 2, 1) := dc0 dO_44 (by decide +kernel)
theorem dX1_lets_16 : decode cX1_lets 16 = .ok (.putfield 25, 3) := dcU2 dO_181 (by decide +kernel)
theorem dX1_lets_19 : decode cX1_lets 19 = .ok (.aload_n 0, 1) := dc0 dO_42 (by decide +kernel)
theorem dX1_lets_20 : decode cX1_lets 20 = .ok (.aload_n 3, 1) := dc0 dO_45 (by decide +kernel)
theorem dX1_lets_21 : decode cX1_lets 21 = .ok (.iload 4, 2) := dcU1 dO_21 (by decide +kernel)
theorem dX1_lets_23 : decode cX1_lets 23 = .ok (.invokevirtual 29, 3) := dcU2 dO_182 (by decide +kernel)
theorem dX1_lets_26 : decode cX1_lets 26 = .ok (.putfield 35, 3) := dcU2 dO_181 (by decide +kernel)
theorem dX1_lets_29 : decode cX1_lets 29 = .ok (.aload_n 0, 1) := dc0 dO_42 (by decide +kernel)
theorem dX1_lets_30 : decode cX1_lets 30 = .ok (.aload_n 3, 1) := dc0 dO_45 (by decide +kernel)
theorem dX1_lets_31 : decode cX1_lets 31 = .ok (.iconst 1, 1) := dc0 dO_4 (by decide +kernel)
theorem dX1_lets_32 : decode cX1_lets 32 = .ok (.iload 4, 2) := dcU1 dO_21 (by decide +kernel)
theorem dX1_lets_34 : decode cX1_lets 34 = .ok (.isub, 1) := dc0 dO_100 (by decide +kernel)
theorem dX1_lets_35 : decode cX1_lets 35 = .ok (.invokevirtual 29, 3) := dcU2 dO_182 (by decide +kernel)
theorem dX1_lets_38 : decode cX1_lets 38 = .ok (.putfield 38, 3) := dcU2 dO_181 (by decide +kernel)
theorem dX1_lets_41 : decode cX1_lets 41 = .ok (.aload_n 0, 1) := dc0 dO_42 (by decide +kernel)
theorem dX1_lets_42 : decode cX1_lets 42 = .ok (.aload_n 3, 1) := dc0 dO_45 (by decide +kernel)
theorem dX1_lets_43 : decode cX1_lets 43 = .ok (.iload 4, 2) := dcU1 dO_21 (by decide +kernel)
theorem dX1_lets_45 : decode cX1_lets 45 = .ok (.invokevirtual 41, 3) := dcU2 dO_182 (by decide +kernel)
theorem dX1_lets_48 : decode cX1_lets 48 = .ok (.putfield 44, 3) := dcU2 dO_181 (by decide +kernel)
theorem dX1_lets_51 : decode cX1_lets 51 = .ok (.aload_n 0, 1) := dc0 dO_42 (by decide +kernel)
theorem dX1_lets_52 : decode cX1_lets 52 = .ok (.iconst 0, 1) := dc0 dO_3 (by decide +kernel)
theorem dX1_lets_53 : decode cX1_lets 53 = .ok (.putfield 47, 3) := dcU2 dO_181 (by decide +kernel)
theorem dX1_lets_56 : decode cX1_lets 56 = .ok (.aload_n 0, 1) := dc0 dO_42 (by decide +kernel)
theorem dX1_lets_57 : decode cX1_lets 57 = .ok (.iconst 0, 1) := dc0 dO_3 (by decide +kernel)
theorem dX1_lets_58 : decode cX1_lets 58 = .ok (.putfield 50, 3) := dcU2 dO_181 (by decide +kernel)
theorem dX1_lets_61 : decode cX1_lets 61 = .ok (.aload_n 0, 1) := dc0 dO_42 (by decide +kernel)
theorem dX1_lets_62 : decode cX1_lets 62 = .ok (.iload_n 1, 1) := dc0 dO_27 (by decide +kernel)
theorem dX1_lets_63 : decode cX1_lets 63 = .ok (.iconst 0, 1) := dc0 dO_3 (by decide +kernel)
theorem dX1_lets_64 : decode cX1_lets 64 = .ok (.invokevirtual 53, 3) := dcU2 dO_182 (by decide +kernel)
theorem dX1_lets_67 : decode cX1_lets 67 = .ok (.aload_n 0, 1) := dc0 dO_42 (by decide +kernel)
theorem dX1_lets_68 : decode cX1_lets 68 = .ok (.getfield 50, 3) := dcU2 dO_180 (by decide +kernel)
theorem dX1_lets_71 : decode cX1_lets 71 = .ok (.iconst 2, 1) := dc0 dO_5 (by decide +kernel)
theorem dX1_lets_72 : decode cX1_lets 72 = .ok (.if_icmp .eq 7, 3) := dcS2 dO_159 (by decide +kernel)
theorem dX1_lets_75 : decode cX1_lets 75 = .ok (.iconst 1, 1) := dc0 dO_4 (by decide +kernel)
theorem dX1_lets_76 : decode cX1_lets 76 = .ok (.goto 4, 3) := dcS2 dO_167 (by decide +kernel)
theorem dX1_lets_79 : decode cX1_lets 79 = .ok (.iconst 0, 1) := dc0 dO_3 (by decide +kernel)
theorem dX1_lets_80 : decode cX1_lets 80 = .ok (.ireturn, 1) := dc0 dO_172 (by decide +kernel)
theorem dX5_tells_0 : decode cX5_tells 0 = .ok (.aload_n 3, 1) := dc0 dO_45 (by decide +kernel)
theorem dX5_tells_1 : decode cX5_tells 1 = .ok (.getfield 30, 3) := dcU2 dO_180 (by decide +kernel)
theorem dX5_tells_4 : decode cX5_tells 4 = .ok (.ifCond .ne 5, 3) := dcS2 dO_154 (by decide +kernel)
theorem dX5_tells_7 : decode cX5_tells 7 = .ok (.iload_n 2, 1) := dc0 dO_28 (by decide +kernel)
theorem dX5_tells_8 : decode cX5_tells 8 = .ok (.ireturn, 1) := dc0 dO_172 (by decide +kernel)
theorem dX5_tells_9 : decode cX5_tells 9 = .ok (.iload_n 1, 1) := dc0 dO_27 (by decide +kernel)
theorem dX5_tells_10 : decode cX5_tells 10 = .ok (.ifCond .lt 12, 3) := dcS2 dO_155 (by decide +kernel)
theorem dX5_tells_13 : decode cX5_tells 13 = .ok (.iload_n 1, 1) := dc0 dO_27 (by decide +kernel)
theorem dX5_tells_14 : decode cX5_tells 14 = .ok (.aload_n 0, 1) := dc0 dO_42 (by decide +kernel)
theorem dX5_tells_15 : decode cX5_tells 15 = .ok (.getfield 24, 3) := dcU2 dO_180 (by decide +kernel)
theorem dX5_tells_18 : decode cX5_tells 18 = .ok (.arraylength, 1) := dc0 dO_190 (by decide +kernel)
theorem dX5_tells_19 : decode cX5_tells 19 = .ok (.if_icmp .lt 5, 3) := dcS2 dO_161 (by decide +kernel)
theorem dX5_tells_22 : decode cX5_tells 22 = .ok (.iconst 0, 1) := dc0 dO_3 (by decide +kernel)
theorem dX5_tells_23 : decode cX5_tells 23 = .ok (.ireturn, 1) := dc0 dO_172 (by decide +kernel)
theorem dX5_tells_24 : decode cX5_tells 24 = .ok (.aload_n 0, 1) := dc0 dO_42 (by decide +kernel)
theorem dX5_tells_25 : decode cX5_tells 25 = .ok (.getfield 24, 3) := dcU2 dO_180 (by decide +kernel)
theorem dX5_tells_28 : decode cX5_tells 28 = .ok (.iload_n 1, 1) := dc0 dO_27 (by decide +kernel)
theorem dX5_tells_29 : decode cX5_tells 29 = .ok (.laload, 1) := dc0 dO_47 (by decide +kernel)
theorem dX5_tells_30 : decode cX5_tells 30 = .ok (.lstore 4, 2) := dcU1 dO_55 (by decide +kernel)
theorem dX5_tells_32 : decode cX5_tells 32 = .ok (.lconst 0, 1) := dc0 dO_9 (by decide +kernel)
theorem dX5_tells_33 : decode cX5_tells 33 = .ok (.lstore 6, 2) := dcU1 dO_55 (by decide +kernel)
theorem dX5_tells_35 : decode cX5_tells 35 = .ok (.iconst 0, 1) := dc0 dO_3 (by decide +kernel)
theorem dX5_tells_36 : decode cX5_tells 36 = .ok (.istore 8, 2) := dcU1 dO_54 (by decide +kernel)
theorem dX5_tells_38 : decode cX5_tells 38 = .ok (.iload 8, 2) := dcU1 dO_21 (by decide +kernel)
theorem dX5_tells_40 : decode cX5_tells 40 = .ok (.aload_n 3, 1) := dc0 dO_45 (by decide +kernel)
theorem dX5_tells_41 : decode cX5_tells 41 = .ok (.getfield 30, 3) := dcU2 dO_180 (by decide +kernel)
theorem dX5_tells_44 : decode cX5_tells 44 = .ok (.if_icmp .ge 111, 3) := dcS2 dO_162 (by decide +kernel)
theorem dX5_tells_47 : decode cX5_tells 47 = .ok (.lconst 0, 1) := dc0 dO_9 (by decide +kernel)
theorem dX5_tells_48 : decode cX5_tells 48 = .ok (.lstore 6, 2) := dcU1 dO_55 (by decide +kernel)
theorem dX5_tells_50 : decode cX5_tells 50 = .ok (.lconst 0, 1) := dc0 dO_9 (by decide +kernel)
theorem dX5_tells_51 : decode cX5_tells 51 = .ok (.lstore 9, 2) := dcU1 dO_55 (by decide +kernel)
theorem dX5_tells_53 : decode cX5_tells 53 = .ok (.iconst 0, 1) := dc0 dO_3 (by decide +kernel)
theorem dX5_tells_54 : decode cX5_tells 54 = .ok (.istore 11, 2) := dcU1 dO_54 (by decide +kernel)
theorem dX5_tells_56 : decode cX5_tells 56 = .ok (.iload 11, 2) := dcU1 dO_21 (by decide +kernel)
theorem dX5_tells_58 : decode cX5_tells 58 = .ok (.aload_n 0, 1) := dc0 dO_42 (by decide +kernel)
theorem dX5_tells_59 : decode cX5_tells 59 = .ok (.getfield 17, 3) := dcU2 dO_180 (by decide +kernel)
theorem dX5_tells_62 : decode cX5_tells 62 = .ok (.arraylength, 1) := dc0 dO_190 (by decide +kernel)
theorem dX5_tells_63 : decode cX5_tells 63 = .ok (.if_icmp .ge 82, 3) := dcS2 dO_162 (by decide +kernel)
theorem dX5_tells_66 : decode cX5_tells 66 = .ok (.aload_n 0, 1) := dc0 dO_42 (by decide +kernel)
theorem dX5_tells_67 : decode cX5_tells 67 = .ok (.getfield 17, 3) := dcU2 dO_180 (by decide +kernel)
theorem dX5_tells_70 : decode cX5_tells 70 = .ok (.iload 11, 2) := dcU1 dO_21 (by decide +kernel)
theorem dX5_tells_72 : decode cX5_tells 72 = .ok (.iaload, 1) := dc0 dO_46 (by decide +kernel)
theorem dX5_tells_73 : decode cX5_tells 73 = .ok (.iconst (-1), 1) := dc0 dO_2 (by decide +kernel)
theorem dX5_tells_74 : decode cX5_tells 74 = .ok (.if_icmp .eq 20, 3) := dcS2 dO_159 (by decide +kernel)
theorem dX5_tells_77 : decode cX5_tells 77 = .ok (.aload_n 0, 1) := dc0 dO_42 (by decide +kernel)
theorem dX5_tells_78 : decode cX5_tells 78 = .ok (.getfield 17, 3) := dcU2 dO_180 (by decide +kernel)
theorem dX5_tells_81 : decode cX5_tells 81 = .ok (.iload 11, 2) := dcU1 dO_21 (by decide +kernel)
theorem dX5_tells_83 : decode cX5_tells 83 = .ok (.iaload, 1) := dc0 dO_46 (by decide +kernel)
theorem dX5_tells_84 : decode cX5_tells 84 = .ok (.aload_n 3, 1) := dc0 dO_45 (by decide +kernel)
theorem dX5_tells_85 : decode cX5_tells 85 = .ok (.getfield 35, 3) := dcU2 dO_180 (by decide +kernel)
theorem dX5_tells_88 : decode cX5_tells 88 = .ok (.iload 8, 2) := dcU1 dO_21 (by decide +kernel)
theorem dX5_tells_90 : decode cX5_tells 90 = .ok (.iaload, 1) := dc0 dO_46 (by decide +kernel)
theorem dX5_tells_91 : decode cX5_tells 91 = .ok (.if_icmp .ne 7, 3) := dcS2 dO_160 (by decide +kernel)
theorem dX5_tells_94 : decode cX5_tells 94 = .ok (.iconst 1, 1) := dc0 dO_4 (by decide +kernel)
theorem dX5_tells_95 : decode cX5_tells 95 = .ok (.goto 4, 3) := dcS2 dO_167 (by decide +kernel)
theorem dX5_tells_98 : decode cX5_tells 98 = .ok (.iconst 0, 1) := dc0 dO_3 (by decide +kernel)
theorem dX5_tells_99 : decode cX5_tells 99 = .ok (.istore 12, 2) := dcU1 dO_54 (by decide +kernel)
theorem dX5_tells_101 : decode cX5_tells 101 = .ok (.iload 12, 2) := dcU1 dO_21 (by decide +kernel)
theorem dX5_tells_103 : decode cX5_tells 103 = .ok (.ifCond .eq 36, 3) := dcS2 dO_153 (by decide +kernel)
theorem dX5_tells_106 : decode cX5_tells 106 = .ok (.lload 4, 2) := dcU1 dO_22 (by decide +kernel)
theorem dX5_tells_108 : decode cX5_tells 108 = .ok (.iload 11, 2) := dcU1 dO_21 (by decide +kernel)
theorem dX5_tells_110 : decode cX5_tells 110 = .ok (.lushr, 1) := dc0 dO_125 (by decide +kernel)
theorem dX5_tells_111 : decode cX5_tells 111 = .ok (.lconst 1, 1) := dc0 dO_10 (by decide +kernel)
theorem dX5_tells_112 : decode cX5_tells 112 = .ok (.land, 1) := dc0 dO_127 (by decide +kernel)
theorem dX5_tells_113 : decode cX5_tells 113 = .ok (.lconst 0, 1) := dc0 dO_9 (by decide +kernel)
theorem dX5_tells_114 : decode cX5_tells 114 = .ok (.lcmp, 1) := dc0 dO_148 (by decide +kernel)
theorem dX5_tells_115 : decode cX5_tells 115 = .ok (.ifCond .eq 24, 3) := dcS2 dO_153 (by decide +kernel)
theorem dX5_tells_118 : decode cX5_tells 118 = .ok (.lload 6, 2) := dcU1 dO_22 (by decide +kernel)
theorem dX5_tells_120 : decode cX5_tells 120 = .ok (.lconst 1, 1) := dc0 dO_10 (by decide +kernel)
theorem dX5_tells_121 : decode cX5_tells 121 = .ok (.iload 11, 2) := dcU1 dO_21 (by decide +kernel)
theorem dX5_tells_123 : decode cX5_tells 123 = .ok (.lshl, 1) := dc0 dO_121 (by decide +kernel)
theorem dX5_tells_124 : decode cX5_tells 124 = .ok (.lor, 1) := dc0 dO_129 (by decide +kernel)
theorem dX5_tells_125 : decode cX5_tells 125 = .ok (.lstore 6, 2) := dcU1 dO_55 (by decide +kernel)
theorem dX5_tells_127 : decode cX5_tells 127 = .ok (.lload 9, 2) := dcU1 dO_22 (by decide +kernel)
theorem sfx_cX5_tells_128 : (cX5_tells.data.toList.drop 128).take 67 = [9, 42, 180, 0, 20, 21, 11, 47, 129, 55, 9, 132, 11, 1, 167, 255, 170, 22, 9, 55, 4, 132, 8, 1, 167, 255, 142, 22, 6, 42, 180, 0, 27, 27, 47, 127, 9, 148, 153, 0, 7, 4, 167, 0, 4, 3, 172] := by decide +kernel
theorem dX5_tells_129 : decode cX5_tells 129 = .ok (.aload_n 0, 1) := dc0 dO_42 (rdB.ch sfx_cX5_tells_128 1 rfl (by decide +kernel))
theorem dX5_tells_130 : decode cX5_tells 130 = .ok (.getfield 20, 3) := dcU2 dO_180 (rdU2.ch sfx_cX5_tells_128 2 rfl (by decide +kernel))
theorem dX5_tells_133 : decode cX5_tells 133 = .ok (.iload 11, 2) := dcU1 dO_21 (rdU1.ch sfx_cX5_tells_128 5 rfl (by decide +kernel))
theorem dX5_tells_135 : decode cX5_tells 135 = .ok (.laload, 1) := dc0 dO_47 (rdB.ch sfx_cX5_tells_128 7 rfl (by decide +kernel))
theorem dX5_tells_136 : decode cX5_tells 136 = .ok (.lor, 1) := dc0 dO_129 (rdB.ch sfx_cX5_tells_128 8 rfl (by decide +kernel))
theorem dX5_tells_137 : decode cX5_tells 137 = .ok (.lstore 9, 2) := dcU1 dO_55 (rdU1.ch sfx_cX5_tells_128 9 rfl (by decide +kernel))
theorem dX5_tells_139 : decode cX5_tells 139 = .ok (.iinc 11 1, 3) := dcI dO_132 (rdI.ch sfx_cX5_tells_128 11 rfl (by decide +kernel))
theorem dX5_tells_142 : decode cX5_tells 142 = .ok (.goto (-86), 3) := dcS2 dO_167 (rdS2.ch sfx_cX5_tells_128 14 rfl (by decide +kernel))
theorem dX5_tells_145 : decode cX5_tells 145 = .ok (.lload 9, 2) := dcU1 dO_22 (rdU1.ch sfx_cX5_tells_128 17 rfl (by decide +kernel))
theorem dX5_tells_147 : decode cX5_tells 147 = .ok (.lstore 4, 2) := dcU1 dO_55 (rdU1.ch sfx_cX5_tells_128 19 rfl (by decide +kernel))
theorem dX5_tells_149 : decode cX5_tells 149 = .ok (.iinc 8 1, 3) := dcI dO_132 (rdI.ch sfx_cX5_tells_128 21 rfl (by decide +kernel))
theorem dX5_tells_152 : decode cX5_tells 152 = .ok (.goto (-114), 3) := dcS2 dO_167 (rdS2.ch sfx_cX5_tells_128 24 rfl (by decide +kernel))
theorem dX5_tells_155 : decode cX5_tells 155 = .ok (.lload 6, 2) := dcU1 dO_22 (rdU1.ch sfx_cX5_tells_128 27 rfl (by decide +kernel))
theorem dX5_tells_157 : decode cX5_tells 157 = .ok (.aload_n 0, 1) := dc0 dO_42 (rdB.ch sfx_cX5_tells_128 29 rfl (by decide +kernel))
theorem dX5_tells_158 : decode cX5_tells 158 = .ok (.getfield 27, 3) := dcU2 dO_180 (rdU2.ch sfx_cX5_tells_128 30 rfl (by decide +kernel))
theorem dX5_tells_161 : decode cX5_tells 161 = .ok (.iload_n 1, 1) := dc0 dO_27 (rdB.ch sfx_cX5_tells_128 33 rfl (by decide +kernel))
theorem dX5_tells_162 : decode cX5_tells 162 = .ok (.laload, 1) := dc0 dO_47 (rdB.ch sfx_cX5_tells_128 34 rfl (by decide +kernel))
theorem dX5_tells_163 : decode cX5_tells 163 = .ok (.land, 1) := dc0 dO_127 (rdB.ch sfx_cX5_tells_128 35 rfl (by decide +kernel))
theorem dX5_tells_164 : decode cX5_tells 164 = .ok (.lconst 0, 1) := dc0 dO_9 (rdB.ch sfx_cX5_tells_128 36 rfl (by decide +kernel))
theorem dX5_tells_165 : decode cX5_tells 165 = .ok (.lcmp, 1) := dc0 dO_148 (rdB.ch sfx_cX5_tells_128 37 rfl (by decide +kernel))
theorem dX5_tells_166 : decode cX5_tells 166 = .ok (.ifCond .eq 7, 3) := dcS2 dO_153 (rdS2.ch sfx_cX5_tells_128 38 rfl (by decide +kernel))
theorem dX5_tells_169 : decode cX5_tells 169 = .ok (.iconst 1, 1) := dc0 dO_4 (rdB.ch sfx_cX5_tells_128 41 rfl (by decide +kernel))
theorem dX5_tells_170 : decode cX5_tells 170 = .ok (.goto 4, 3) := dcS2 dO_167 (rdS2.ch sfx_cX5_tells_128 42 rfl (by decide +kernel))
theorem dX5_tells_173 : decode cX5_tells 173 = .ok (.iconst 0, 1) := dc0 dO_3 (rdB.ch sfx_cX5_tells_128 45 rfl (by decide +kernel))
theorem dX5_tells_174 : decode cX5_tells 174 = .ok (.ireturn, 1) := dc0 dO_172 (rdB.ch sfx_cX5_tells_128 46 rfl (by decide +kernel))
end
section
theorem vc_X5_tells_4 {n_12 p1 : Int} (h0 : p1 < n_12) (h1 : 0 ≤ p1) (h2 : 0 ≤ n_12 ∧ n_12 ≤ 250) (h3 : 0 ≤ p1 ∧ p1 ≤ 2147483647) : 0 ≤ p1 ∧ p1 ≤ 249 := by omega
theorem vc_X5_tells_5 {n_12 p1 : Int} (h0 : p1 < n_12) (h1 : 0 ≤ p1) (h2 : 0 ≤ n_12 ∧ n_12 ≤ 250) (h3 : 0 ≤ p1 ∧ p1 ≤ 249) : 1 ≤ n_12 ∧ n_12 ≤ 250 := by omega
theorem vc_X5_tells_6 {n_12 p1 : Int} (h0 : 0 ≤ p1) (h1 : p1 < n_12) (h2 : 1 ≤ n_12 ∧ n_12 ≤ 250) (h3 : 0 ≤ p1 ∧ p1 ≤ 249) : 0 ≤ p1 ∧ p1 < n_12 := by omega
theorem vc_X5_tells_8 {z1 z1110 : Int} (h0 : z1 ≤ z1110) (h1 : ¬ z1 = 0) (h2 : 1 ≤ z1 ∧ z1 ≤ 20) (h3 : 0 ≤ z1110 ∧ z1110 ≤ 20) : 1 ≤ z1110 ∧ z1110 ≤ 20 := by omega
theorem vc_X5_tells_9 {n_12 n_1231 p1 : Int} (h0 : 0 ≤ p1) (h1 : p1 < n_12) (h2 : n_1231 = n_12) (h3 : 1 ≤ n_12 ∧ n_12 ≤ 250) (h4 : 0 ≤ n_1231 ∧ n_1231 ≤ 250) (h5 : 0 ≤ p1 ∧ p1 ≤ 249) : 0 ≤ p1 ∧ p1 < n_1231 := by omega
theorem vc_X5_tells_11 {z1 z1110 : Int} (h0 : z1110 < z1) (h1 : ¬ z1 = 0) (h2 : 1 ≤ z1 ∧ z1 ≤ 20) (h3 : 0 ≤ z1110 ∧ z1110 ≤ 20) : 0 ≤ z1110 ∧ z1110 ≤ 19 := by omega
theorem vc_X5_tells_13 {N z1 z1110 : Int} (h0 : (21 - z1110) < N + 1) (h1 : z1110 < z1) (h2 : ¬ z1 = 0) (h3 : 1 ≤ z1 ∧ z1 ≤ 20) (h4 : 0 ≤ z1110 ∧ z1110 ≤ 19) : (21 - (z1110 + 1)) < N := by omega
theorem vc_X5_tells_14 {n_1773 z1758 : Int} (h0 : z1758 < n_1773) (h1 : 0 ≤ n_1773 ∧ n_1773 ≤ 40) (h2 : 0 ≤ z1758 ∧ z1758 ≤ 40) : 0 ≤ z1758 ∧ z1758 ≤ 39 := by omega
theorem vc_X5_tells_15 {n_1773 z1758 : Int} (h0 : z1758 < n_1773) (h1 : 0 ≤ n_1773 ∧ n_1773 ≤ 40) (h2 : 0 ≤ z1758 ∧ z1758 ≤ 39) : 1 ≤ n_1773 ∧ n_1773 ≤ 40 := by omega
theorem vc_X5_tells_16 {n_1773 z1758 : Int} (h0 : z1758 < n_1773) (h1 : 1 ≤ n_1773 ∧ n_1773 ≤ 40) (h2 : 0 ≤ z1758 ∧ z1758 ≤ 39) : 0 ≤ z1758 ∧ z1758 < n_1773 := by omega
theorem vc_X5_tells_18 {N n_1773 z1758 : Int} (h0 : (41 - z1758) < N + 1) (h1 : z1758 < n_1773) (h2 : 1 ≤ n_1773 ∧ n_1773 ≤ 40) (h3 : 0 ≤ z1758 ∧ z1758 ≤ 39) : (41 - (z1758 + 1)) < N := by omega
theorem vc_X5_tells_21 {n_1773 n_1904 z1758 : Int} (h0 : z1758 < n_1773) (h1 : n_1904 = n_1773) (h2 : 1 ≤ n_1773 ∧ n_1773 ≤ 40) (h3 : 0 ≤ n_1904 ∧ n_1904 ≤ 40) (h4 : 0 ≤ z1758 ∧ z1758 ≤ 39) : 0 ≤ z1758 ∧ z1758 < n_1904 := by omega
theorem vc_X5_tells_22 {N n_1773 n_1904 z1758 : Int} (h0 : (41 - z1758) < N + 1) (h1 : z1758 < n_1773) (h2 : n_1904 = n_1773) (h3 : 1 ≤ n_1773 ∧ n_1773 ≤ 40) (h4 : 0 ≤ n_1904 ∧ n_1904 ≤ 40) (h5 : 0 ≤ z1758 ∧ z1758 ≤ 39) : (41 - (z1758 + 1)) < N := by omega
set_option maxRecDepth 4000 in
set_option maxHeartbeats 4000000 in
theorem c_X5_tells {l : Launch} {D : va_G} {c : Nat → ClassId} {H0 : Heap} {sa : Nat × Nat × (Nat → Int32)} {w : mW} {μ : mM} (hw : mWF w) (hT : mT w μ) {a0 : Nat} (hA0 : mAt w a0 230) {p1 : Int} (hp1 : (-2147483648) ≤ p1 ∧ p1 ≤ 2147483647) {p2 : Int} (hp2 : 0 ≤ p2 ∧ p2 ≤ 1) {a3 : Nat} (hA3 : mAt w a3 200) (he1 : w.2.2.1 (μ a0 2).toNat = w.2.2.1 (μ a0 3).toNat) (he2 : w.2.2.1 (μ a0 4).toNat = w.2.2.1 (μ a0 5).toNat) : sC (gG l D c H0 sa) mX5_tells 1 0 0 [.ref a0, iv p1, iv p2, .ref a3] (mk w μ) (qP w μ (fun z => (0 ≤ z ∧ z ≤ 1) ∧ True)) := by
  refine sC.of rfl (by decide) (le_t rfl) ?_
  refine mr_lvE (lv' := [(0, .ref a0), (1, iv p1), (2, iv p2), (3, .ref a3)]) rfl ?_
  refine sv_aload_n (pc := 0) dX5_tells_0 rfl rfl ?_
  refine gf_X7_7 (pc := 1) dX5_tells_1 wF_X5_30 hA3 hT fun z1 q2 h3 => ?_
  refine mr_if_ne (pc := 4) (tgt := 9) dX5_tells_4 (by decide) (r32 h3 rfl) (fun h4 => ?_) (fun h4 => ?_)
  · have h5 : 1 ≤ z1 ∧ z1 ≤ 20 := (vc_X12_waysMatch_2 h4 h3)
    refine mr_iload_n (pc := 9) (z := p1) dX5_tells_9 rfl rfl ?_
    refine mr_if_lt (pc := 10) (tgt := 22) dX5_tells_10 (by decide) hp1 (fun h6 => ?_) (fun h6 => ?_)
    · have h7 : (-2147483648) ≤ p1 ∧ p1 ≤ (-1) := (vc_X12_cut_1 h6 hp1)
      refine mr_iconst (pc := 22) (z := 0) dX5_tells_22 ?_
      exact mr_zretP dX5_tells_23 rfl (rW (c := 0) (d := 1) (rR (x := 0)) rfl) (le_t rfl) (le_t rfl) ⟨(rW (c := 0) (d := 1) (rR (x := 0)) rfl), trivial⟩
    have h8 : 0 ≤ p1 ∧ p1 ≤ 2147483647 := (vc_X12_cut_2 h6 hp1)
    refine mr_iload_n (pc := 13) (z := p1) dX5_tells_13 rfl rfl ?_
    refine sv_aload_n (pc := 14) dX5_tells_14 rfl rfl ?_
    refine gf_X5_4 (pc := 15) dX5_tells_15 wF_X5_24 hA0 hT fun b9 q10 A11 => ?_
    obtain ⟨n_12, q13⟩ : ∃ n : Int, (w.2.2.1 b9 : Int) = n := ⟨_, rfl⟩
    have h14 : 0 ≤ n_12 ∧ n_12 ≤ 250 := lnR (m := 250) q13 A11 rfl
    refine mr_alen (pc := 18) (kd := 1) dX5_tells_18 rfl A11 rfl q13 ?_
    refine mr_icmp_lt (pc := 19) (tgt := 24) dX5_tells_19 (by decide) (r32 h8 rfl) (r32 h14 rfl) (fun h15 => ?_) (fun h15 => ?_)
    · have h16 : 0 ≤ p1 ∧ p1 ≤ 249 := (vc_X5_tells_4 h15 h6 h14 h8)
      have h17 : 1 ≤ n_12 ∧ n_12 ≤ 250 := (vc_X5_tells_5 h15 h6 h14 h16)
      refine sv_aload_n (pc := 24) dX5_tells_24 rfl rfl ?_
      refine gk_X5_4 (pc := 25) dX5_tells_25 wF_X5_24 hA0 q10 ?_
      refine mr_iload_n (pc := 28) (z := p1) dX5_tells_28 rfl rfl ?_
      refine la_234 (pc := 29) dX5_tells_29 A11 hT (lnC q13 (vc_X5_tells_6 h6 h15 h17 h16)) fun z18 q19 h20 => ?_
      refine mr_lstore (pc := 30) (lv' := [(4, jv z18), (0, .ref a0), (1, iv p1), (2, iv p2), (3, .ref a3)]) dX5_tells_30 (by decide) rfl ?_
      refine mr_lconst (pc := 32) (z := 0) dX5_tells_32 (by decide) ?_
      refine mr_lstore (pc := 33) (lv' := [(6, jv 0), (4, jv z18), (0, .ref a0), (1, iv p1), (2, iv p2), (3, .ref a3)]) dX5_tells_33 (by decide) rfl ?_
      refine mr_iconst (pc := 35) (z := 0) dX5_tells_35 ?_
      refine mr_istore (pc := 36) (lv' := [(8, iv 0), (6, jv 0), (4, jv z18), (0, .ref a0), (1, iv p1), (2, iv p2), (3, .ref a3)]) dX5_tells_36 (by decide) rfl ?_
      have L1113 : ∀ (nL1113 : Nat) (z1112 z1111 z1110 : Int), True → ((-9223372036854775808) ≤ z1112 ∧ z1112 ≤ 9223372036854775807) → ((-9223372036854775808) ≤ z1111 ∧ z1111 ≤ 9223372036854775807) → (0 ≤ z1110 ∧ z1110 ≤ 20) → (21 - z1110) < (nL1113 : Int) → sV (gG l D c H0 sa) mX5_tells (sRm 1 0 0) (sZ (gG l D c H0 sa) 0 0 (qP w μ (fun z => (0 ≤ z ∧ z ≤ 1) ∧ True))) 38 [(0, .ref a0), (1, iv p1), (3, .ref a3), (4, jv z1112), (6, jv z1111), (8, iv z1110)] [] (mk w μ) 0 0 := by
        intro nL1113
        induction nL1113 with
        | zero => intro z1112 z1111 z1110 _ h1114 h1115 h1116 h1120; exact ((vc_X12_feed_2 h1120 h1116)).elim
        | succ nL1113 ih1121 =>
          intro z1112 z1111 z1110 _ h1114 h1115 h1116 h1120
          refine mr_iload (pc := 38) (z := z1110) dX5_tells_38 rfl ?_
          refine sv_aload_n (pc := 40) dX5_tells_40 rfl rfl ?_
          refine gk_X7_7 (pc := 41) dX5_tells_41 wF_X5_30 hA3 q2 ?_
          refine mr_icmp_ge (pc := 44) (tgt := 155) dX5_tells_44 (by decide) (r32 h1116 rfl) (r32 h5 rfl) (fun h1226 => ?_) (fun h1226 => ?_)
          · have h1227 : 1 ≤ z1110 ∧ z1110 ≤ 20 := (vc_X5_tells_8 h1226 h4 h5 h1116)
            refine mr_lload (pc := 155) (z := z1111) dX5_tells_155 rfl ?_
            refine sv_aload_n (pc := 157) dX5_tells_157 rfl rfl ?_
            refine gf_X5_5 (pc := 158) dX5_tells_158 wF_X5_27 hA0 hT fun b1228 q1229 A1230 => ?_
            obtain ⟨n_1231, q1232⟩ : ∃ n : Int, (w.2.2.1 b1228 : Int) = n := ⟨_, rfl⟩
            have h1233 : 0 ≤ n_1231 ∧ n_1231 ≤ 250 := lnR (m := 250) q1232 A1230 rfl
            have h1234 : n_1231 = n_12 := lnQ q10 q1229 he2 q13 q1232
            refine mr_iload_n (pc := 161) (z := p1) dX5_tells_161 rfl rfl ?_
            refine la_235 (pc := 162) dX5_tells_162 A1230 hT (lnC q1232 (vc_X5_tells_9 h6 h15 h1234 h17 h1233 h16)) fun z1235 q1236 h1237 => ?_
            refine mr_land (pc := 163) dX5_tells_163 ?_
            refine mr_genL (r64i _) fun z1238 q1239 h1240 => ?_
            refine mr_lconst (pc := 164) (z := 0) dX5_tells_164 (by decide) ?_
            refine mr_lcmp (pc := 165) dX5_tells_165 ?_
            refine mr_gen (P := fun z => (-1) ≤ z ∧ z ≤ 1) (lg_cmp_r _ _) fun z1241 q1242 h1243 => ?_
            refine mr_if_eq (pc := 166) (tgt := 173) dX5_tells_166 (by decide) (r32 h1243 rfl) (fun h1245 => ?_) (fun h1245 => ?_)
            · have h1246 : 0 ≤ z1241 ∧ z1241 ≤ 0 := (vc_X12_waysMatch_5 h1245 h1243)
              refine mr_iconst (pc := 173) (z := 0) dX5_tells_173 ?_
              exact mr_zretP dX5_tells_174 rfl (rW (c := 0) (d := 1) (rR (x := 0)) rfl) (le_t rfl) (le_t rfl) ⟨(rW (c := 0) (d := 1) (rR (x := 0)) rfl), trivial⟩
            refine mr_iconst (pc := 169) (z := 1) dX5_tells_169 ?_
            refine sv_goto (pc := 170) (tgt := 174) dX5_tells_170 (by decide) ?_
            exact mr_zretP dX5_tells_174 rfl (rW (c := 0) (d := 1) (rR (x := 1)) rfl) (le_t rfl) (le_t rfl) ⟨(rW (c := 0) (d := 1) (rR (x := 1)) rfl), trivial⟩
          have h1247 : 0 ≤ z1110 ∧ z1110 ≤ 19 := (vc_X5_tells_11 h1226 h4 h5 h1116)
          refine mr_lconst (pc := 47) (z := 0) dX5_tells_47 (by decide) ?_
          refine mr_lstore (pc := 48) (lv' := [(6, jv 0), (0, .ref a0), (1, iv p1), (3, .ref a3), (4, jv z1112), (8, iv z1110)]) dX5_tells_48 (by decide) rfl ?_
          refine mr_lconst (pc := 50) (z := 0) dX5_tells_50 (by decide) ?_
          refine mr_lstore (pc := 51) (lv' := [(9, jv 0), (6, jv 0), (0, .ref a0), (1, iv p1), (3, .ref a3), (4, jv z1112), (8, iv z1110)]) dX5_tells_51 (by decide) rfl ?_
          refine mr_iconst (pc := 53) (z := 0) dX5_tells_53 ?_
          refine mr_istore (pc := 54) (lv' := [(11, iv 0), (9, jv 0), (6, jv 0), (0, .ref a0), (1, iv p1), (3, .ref a3), (4, jv z1112), (8, iv z1110)]) dX5_tells_54 (by decide) rfl ?_
          have L1761 : ∀ (nL1761 : Nat) (z1760 z1759 z1758 : Int), True → ((-9223372036854775808) ≤ z1760 ∧ z1760 ≤ 9223372036854775807) → ((-9223372036854775808) ≤ z1759 ∧ z1759 ≤ 9223372036854775807) → (0 ≤ z1758 ∧ z1758 ≤ 40) → (41 - z1758) < (nL1761 : Int) → sV (gG l D c H0 sa) mX5_tells (sRm 1 0 0) (sZ (gG l D c H0 sa) 0 0 (qP w μ (fun z => (0 ≤ z ∧ z ≤ 1) ∧ True))) 56 [(0, .ref a0), (1, iv p1), (3, .ref a3), (4, jv z1112), (6, jv z1760), (8, iv z1110), (9, jv z1759), (11, iv z1758)] [] (mk w μ) 0 0 := by
            intro nL1761
            induction nL1761 with
            | zero => intro z1760 z1759 z1758 _ h1762 h1763 h1764 h1768; exact ((vc_X12_waysMatch_7 h1768 h1764)).elim
            | succ nL1761 ih1769 =>
              intro z1760 z1759 z1758 _ h1762 h1763 h1764 h1768
              refine mr_iload (pc := 56) (z := z1758) dX5_tells_56 rfl ?_
              refine sv_aload_n (pc := 58) dX5_tells_58 rfl rfl ?_
              refine gf_X5_2 (pc := 59) dX5_tells_59 wF_X5_17 hA0 hT fun b1770 q1771 A1772 => ?_
              obtain ⟨n_1773, q1774⟩ : ∃ n : Int, (w.2.2.1 b1770 : Int) = n := ⟨_, rfl⟩
              have h1775 : 0 ≤ n_1773 ∧ n_1773 ≤ 40 := lnR (m := 40) q1774 A1772 rfl
              refine mr_alen (pc := 62) (kd := 0) dX5_tells_62 rfl A1772 rfl q1774 ?_
              refine mr_icmp_ge (pc := 63) (tgt := 145) dX5_tells_63 (by decide) (r32 h1764 rfl) (r32 h1775 rfl) (fun h1818 => ?_) (fun h1818 => ?_)
              · refine mr_lload (pc := 145) (z := z1759) dX5_tells_145 rfl ?_
                refine mr_lstore (pc := 147) (lv' := [(4, jv z1759), (0, .ref a0), (1, iv p1), (3, .ref a3), (6, jv z1760), (8, iv z1110), (9, jv z1759), (11, iv z1758)]) dX5_tells_147 (by decide) rfl ?_
                refine mr_iinc (pc := 149) (lv' := [(8, iv (z1110 + 1)), (4, jv z1759), (0, .ref a0), (1, iv p1), (3, .ref a3), (6, jv z1760), (9, jv z1759), (11, iv z1758)]) dX5_tells_149 rfl (by decide) rfl ?_
                refine sv_goto (pc := 152) (tgt := 38) dX5_tells_152 (by decide) ?_
                refine mr_lvS (lv' := [(0, .ref a0), (1, iv p1), (3, .ref a3), (4, jv z1759), (6, jv z1760), (8, iv (z1110 + 1))]) (List.forall_mem_cons.mpr ⟨rfl, List.forall_mem_cons.mpr ⟨rfl, List.forall_mem_cons.mpr ⟨rfl, List.forall_mem_cons.mpr ⟨rfl, List.forall_mem_cons.mpr ⟨rfl, List.forall_mem_cons.mpr ⟨rfl, fun _ h => absurd h List.not_mem_nil⟩⟩⟩⟩⟩⟩) ?_
                exact ih1121 z1759 z1760 (z1110 + 1) trivial h1763 h1762 (rW (c := 0) (d := 20) (rAdd (e := 1) (f := 20) h1247 (rR (x := 1)) rfl) rfl) (vc_X5_tells_13 (nS h1120) h1226 h4 h5 h1247)
              have h1819 : 0 ≤ z1758 ∧ z1758 ≤ 39 := (vc_X5_tells_14 h1818 h1775 h1764)
              have h1820 : 1 ≤ n_1773 ∧ n_1773 ≤ 40 := (vc_X5_tells_15 h1818 h1775 h1819)
              refine sv_aload_n (pc := 66) dX5_tells_66 rfl rfl ?_
              refine gk_X5_2 (pc := 67) dX5_tells_67 wF_X5_17 hA0 q1771 ?_
              refine mr_iload (pc := 70) (z := z1758) dX5_tells_70 rfl ?_
              refine la_232 (pc := 72) dX5_tells_72 A1772 hT (lnC q1774 (vc_X5_tells_16 h1818 h1820 h1819)) fun z1821 q1822 h1823 => ?_
              refine mr_iconst (pc := 73) (z := (-1)) dX5_tells_73 ?_
              have J1831 : ∀ (z1829 : Int), ((0 ≤ z1829 ∧ z1829 ≤ 1)) → sV (gG l D c H0 sa) mX5_tells (sRm 1 0 0) (sZ (gG l D c H0 sa) 0 0 (qP w μ (fun z => (0 ≤ z ∧ z ≤ 1) ∧ True))) 99 [(0, .ref a0), (1, iv p1), (3, .ref a3), (4, jv z1112), (6, jv z1760), (8, iv z1110), (9, jv z1759), (11, iv z1758)] [iv z1829] (mk w μ) 0 0 := by
                intro z1829 h1830
                refine mr_istore (pc := 99) (lv' := [(12, iv z1829), (0, .ref a0), (1, iv p1), (3, .ref a3), (4, jv z1112), (6, jv z1760), (8, iv z1110), (9, jv z1759), (11, iv z1758)]) dX5_tells_99 (by decide) rfl ?_
                refine mr_iload (pc := 101) (z := z1829) dX5_tells_101 rfl ?_
                refine mr_if_eq (pc := 103) (tgt := 139) dX5_tells_103 (by decide) (r32 h1830 rfl) (fun h1862 => ?_) (fun h1862 => ?_)
                · have h1863 : 0 ≤ z1829 ∧ z1829 ≤ 0 := (vc_X12_letWay_6 h1862 h1830)
                  refine mr_iinc (pc := 139) (lv' := [(11, iv (z1758 + 1)), (12, iv z1829), (0, .ref a0), (1, iv p1), (3, .ref a3), (4, jv z1112), (6, jv z1760), (8, iv z1110), (9, jv z1759)]) dX5_tells_139 rfl (by decide) rfl ?_
                  refine sv_goto (pc := 142) (tgt := 56) dX5_tells_142 (by decide) ?_
                  refine mr_lvS (lv' := [(0, .ref a0), (1, iv p1), (3, .ref a3), (4, jv z1112), (6, jv z1760), (8, iv z1110), (9, jv z1759), (11, iv (z1758 + 1))]) (List.forall_mem_cons.mpr ⟨rfl, List.forall_mem_cons.mpr ⟨rfl, List.forall_mem_cons.mpr ⟨rfl, List.forall_mem_cons.mpr ⟨rfl, List.forall_mem_cons.mpr ⟨rfl, List.forall_mem_cons.mpr ⟨rfl, List.forall_mem_cons.mpr ⟨rfl, List.forall_mem_cons.mpr ⟨rfl, fun _ h => absurd h List.not_mem_nil⟩⟩⟩⟩⟩⟩⟩⟩) ?_
                  exact ih1769 z1760 z1759 (z1758 + 1) trivial h1762 h1763 (rW (c := 0) (d := 40) (rAdd (e := 1) (f := 40) h1819 (rR (x := 1)) rfl) rfl) (vc_X5_tells_18 (nS h1768) h1818 h1820 h1819)
                have h1864 : 1 ≤ z1829 ∧ z1829 ≤ 1 := (vc_X12_letWay_11 h1862 h1830)
                refine mr_lload (pc := 106) (z := z1112) dX5_tells_106 rfl ?_
                refine mr_iload (pc := 108) (z := z1758) dX5_tells_108 rfl ?_
                refine mr_lushr (pc := 110) dX5_tells_110 ?_
                refine mr_genL (r64i _) fun z1865 q1866 h1867 => ?_
                refine mr_lconst (pc := 111) (z := 1) dX5_tells_111 (by decide) ?_
                refine mr_land (pc := 112) dX5_tells_112 ?_
                refine mr_genL (r64i _) fun z1868 q1869 h1870 => ?_
                refine mr_lconst (pc := 113) (z := 0) dX5_tells_113 (by decide) ?_
                refine mr_lcmp (pc := 114) dX5_tells_114 ?_
                refine mr_gen (P := fun z => (-1) ≤ z ∧ z ≤ 1) (lg_cmp_r _ _) fun z1871 q1872 h1873 => ?_
                refine mr_if_eq (pc := 115) (tgt := 139) dX5_tells_115 (by decide) (r32 h1873 rfl) (fun h1893 => ?_) (fun h1893 => ?_)
                · have h1894 : 0 ≤ z1871 ∧ z1871 ≤ 0 := (vc_X12_waysMatch_5 h1893 h1873)
                  refine mr_iinc (pc := 139) (lv' := [(11, iv (z1758 + 1)), (12, iv z1829), (0, .ref a0), (1, iv p1), (3, .ref a3), (4, jv z1112), (6, jv z1760), (8, iv z1110), (9, jv z1759)]) dX5_tells_139 rfl (by decide) rfl ?_
                  refine sv_goto (pc := 142) (tgt := 56) dX5_tells_142 (by decide) ?_
                  refine mr_lvS (lv' := [(0, .ref a0), (1, iv p1), (3, .ref a3), (4, jv z1112), (6, jv z1760), (8, iv z1110), (9, jv z1759), (11, iv (z1758 + 1))]) (List.forall_mem_cons.mpr ⟨rfl, List.forall_mem_cons.mpr ⟨rfl, List.forall_mem_cons.mpr ⟨rfl, List.forall_mem_cons.mpr ⟨rfl, List.forall_mem_cons.mpr ⟨rfl, List.forall_mem_cons.mpr ⟨rfl, List.forall_mem_cons.mpr ⟨rfl, List.forall_mem_cons.mpr ⟨rfl, fun _ h => absurd h List.not_mem_nil⟩⟩⟩⟩⟩⟩⟩⟩) ?_
                  exact ih1769 z1760 z1759 (z1758 + 1) trivial h1762 h1763 (rW (c := 0) (d := 40) (rAdd (e := 1) (f := 40) h1819 (rR (x := 1)) rfl) rfl) (vc_X5_tells_18 (nS h1768) h1818 h1820 h1819)
                refine mr_lload (pc := 118) (z := z1760) dX5_tells_118 rfl ?_
                refine mr_lconst (pc := 120) (z := 1) dX5_tells_120 (by decide) ?_
                refine mr_iload (pc := 121) (z := z1758) dX5_tells_121 rfl ?_
                refine mr_lshl (pc := 123) dX5_tells_123 ?_
                refine mr_genL (r64i _) fun z1895 q1896 h1897 => ?_
                refine mr_lor (pc := 124) dX5_tells_124 ?_
                refine mr_genL (r64i _) fun z1898 q1899 h1900 => ?_
                refine mr_lstore (pc := 125) (lv' := [(6, jv z1898), (12, iv z1829), (0, .ref a0), (1, iv p1), (3, .ref a3), (4, jv z1112), (8, iv z1110), (9, jv z1759), (11, iv z1758)]) dX5_tells_125 (by decide) rfl ?_
                refine mr_lload (pc := 127) (z := z1759) dX5_tells_127 rfl ?_
                refine sv_aload_n (pc := 129) dX5_tells_129 rfl rfl ?_
                refine gf_X5_3 (pc := 130) dX5_tells_130 wF_X5_20 hA0 hT fun b1901 q1902 A1903 => ?_
                obtain ⟨n_1904, q1905⟩ : ∃ n : Int, (w.2.2.1 b1901 : Int) = n := ⟨_, rfl⟩
                have h1906 : 0 ≤ n_1904 ∧ n_1904 ≤ 40 := lnR (m := 40) q1905 A1903 rfl
                have h1907 : n_1904 = n_1773 := lnQ q1771 q1902 he1 q1774 q1905
                refine mr_iload (pc := 133) (z := z1758) dX5_tells_133 rfl ?_
                refine la_233 (pc := 135) dX5_tells_135 A1903 hT (lnC q1905 (vc_X5_tells_21 h1818 h1907 h1820 h1906 h1819)) fun z1908 q1909 h1910 => ?_
                refine mr_lor (pc := 136) dX5_tells_136 ?_
                refine mr_genL (r64i _) fun z1911 q1912 h1913 => ?_
                refine mr_lstore (pc := 137) (lv' := [(9, jv z1911), (6, jv z1898), (12, iv z1829), (0, .ref a0), (1, iv p1), (3, .ref a3), (4, jv z1112), (8, iv z1110), (11, iv z1758)]) dX5_tells_137 (by decide) rfl ?_
                refine mr_iinc (pc := 139) (lv' := [(11, iv (z1758 + 1)), (9, jv z1911), (6, jv z1898), (12, iv z1829), (0, .ref a0), (1, iv p1), (3, .ref a3), (4, jv z1112), (8, iv z1110)]) dX5_tells_139 rfl (by decide) rfl ?_
                refine sv_goto (pc := 142) (tgt := 56) dX5_tells_142 (by decide) ?_
                refine mr_lvS (lv' := [(0, .ref a0), (1, iv p1), (3, .ref a3), (4, jv z1112), (6, jv z1898), (8, iv z1110), (9, jv z1911), (11, iv (z1758 + 1))]) (List.forall_mem_cons.mpr ⟨rfl, List.forall_mem_cons.mpr ⟨rfl, List.forall_mem_cons.mpr ⟨rfl, List.forall_mem_cons.mpr ⟨rfl, List.forall_mem_cons.mpr ⟨rfl, List.forall_mem_cons.mpr ⟨rfl, List.forall_mem_cons.mpr ⟨rfl, List.forall_mem_cons.mpr ⟨rfl, fun _ h => absurd h List.not_mem_nil⟩⟩⟩⟩⟩⟩⟩⟩) ?_
                exact ih1769 z1898 z1911 (z1758 + 1) trivial h1900 h1913 (rW (c := 0) (d := 40) (rAdd (e := 1) (f := 40) h1819 (rR (x := 1)) rfl) rfl) (vc_X5_tells_22 (nS h1768) h1818 h1907 h1820 h1906 h1819)
              refine mr_icmp_eq (pc := 74) (tgt := 94) dX5_tells_74 (by decide) h1823 (r32 (rR (x := (-1))) rfl) (fun h1914 => ?_) (fun h1914 => ?_)
              · have h1915 : (-1) ≤ z1821 ∧ z1821 ≤ (-1) := (vc_X10_verdictOn_17 h1914 h1823)
                refine mr_iconst (pc := 94) (z := 1) dX5_tells_94 ?_
                refine sv_goto (pc := 95) (tgt := 99) dX5_tells_95 (by decide) ?_
                exact J1831 1 (rW (c := 0) (d := 1) (rR (x := 1)) rfl)
              refine sv_aload_n (pc := 77) dX5_tells_77 rfl rfl ?_
              refine gk_X5_2 (pc := 78) dX5_tells_78 wF_X5_17 hA0 q1771 ?_
              refine mr_iload (pc := 81) (z := z1758) dX5_tells_81 rfl ?_
              refine lk_232 (pc := 83) dX5_tells_83 A1772 (lnC q1774 (vc_X5_tells_16 h1818 h1820 h1819)) q1822 ?_
              refine sv_aload_n (pc := 84) dX5_tells_84 rfl rfl ?_
              refine gf_X7_0 (pc := 85) dX5_tells_85 wF_X5_35 hA3 hT fun A1916 => ?_
              refine mr_iload (pc := 88) (z := z1110) dX5_tells_88 rfl ?_
              refine la_201 (pc := 90) dX5_tells_90 A1916 hT (rIx (n := 20) h1247 rfl) fun z1917 q1918 h1919 => ?_
              refine mr_icmp_ne (pc := 91) (tgt := 98) dX5_tells_91 (by decide) h1823 h1919 (fun h1920 => ?_) (fun h1920 => ?_)
              · refine mr_iconst (pc := 98) (z := 0) dX5_tells_98 ?_
                exact J1831 0 (rW (c := 0) (d := 1) (rR (x := 0)) rfl)
              refine mr_iconst (pc := 94) (z := 1) dX5_tells_94 ?_
              refine sv_goto (pc := 95) (tgt := 99) dX5_tells_95 (by decide) ?_
              exact J1831 1 (rW (c := 0) (d := 1) (rR (x := 1)) rfl)
          refine mr_lvS (lv' := [(0, .ref a0), (1, iv p1), (3, .ref a3), (4, jv z1112), (6, jv 0), (8, iv z1110), (9, jv 0), (11, iv 0)]) (List.forall_mem_cons.mpr ⟨rfl, List.forall_mem_cons.mpr ⟨rfl, List.forall_mem_cons.mpr ⟨rfl, List.forall_mem_cons.mpr ⟨rfl, List.forall_mem_cons.mpr ⟨rfl, List.forall_mem_cons.mpr ⟨rfl, List.forall_mem_cons.mpr ⟨rfl, List.forall_mem_cons.mpr ⟨rfl, fun _ h => absurd h List.not_mem_nil⟩⟩⟩⟩⟩⟩⟩⟩) ?_
          exact L1761 42 0 0 0 trivial (rW (c := -9223372036854775808) (d := 9223372036854775807) (rR (x := 0)) rfl) (rW (c := -9223372036854775808) (d := 9223372036854775807) (rR (x := 0)) rfl) (rW (c := 0) (d := 40) (rR (x := 0)) rfl) vc_X12_waysMatch_14
      refine mr_lvS (lv' := [(0, .ref a0), (1, iv p1), (3, .ref a3), (4, jv z18), (6, jv 0), (8, iv 0)]) (List.forall_mem_cons.mpr ⟨rfl, List.forall_mem_cons.mpr ⟨rfl, List.forall_mem_cons.mpr ⟨rfl, List.forall_mem_cons.mpr ⟨rfl, List.forall_mem_cons.mpr ⟨rfl, List.forall_mem_cons.mpr ⟨rfl, fun _ h => absurd h List.not_mem_nil⟩⟩⟩⟩⟩⟩) ?_
      exact L1113 22 z18 0 0 trivial h20 (rW (c := -9223372036854775808) (d := 9223372036854775807) (rR (x := 0)) rfl) (rW (c := 0) (d := 20) (rR (x := 0)) rfl) vc_X12_feed_15
    refine mr_iconst (pc := 22) (z := 0) dX5_tells_22 ?_
    exact mr_zretP dX5_tells_23 rfl (rW (c := 0) (d := 1) (rR (x := 0)) rfl) (le_t rfl) (le_t rfl) ⟨(rW (c := 0) (d := 1) (rR (x := 0)) rfl), trivial⟩
  have h1921 : 0 ≤ z1 ∧ z1 ≤ 0 := (vc_X12_waysMatch_23 h4 h3)
  refine mr_iload_n (pc := 7) (z := p2) dX5_tells_7 rfl rfl ?_
  exact mr_zretP dX5_tells_8 rfl hp2 (le_t rfl) (le_t rfl) ⟨hp2, trivial⟩
theorem vc_X1_isSo_1 {n_4 p2 : Int} (h0 : p2 + 4 < n_4) (h1 : 0 ≤ n_4 ∧ n_4 ≤ 2000) (h2 : 0 ≤ p2 ∧ p2 ≤ 2000) : 0 ≤ (p2 + 2) ∧ (p2 + 2) < n_4 := by omega
theorem vc_X1_isSo_2 {n_4 p2 : Int} (h0 : p2 + 4 < n_4) (h1 : 0 ≤ n_4 ∧ n_4 ≤ 2000) (h2 : 0 ≤ p2 ∧ p2 ≤ 2000) : 0 ≤ (p2 + 3) ∧ (p2 + 3) < n_4 := by omega
theorem vc_X1_isSo_3 {n_4 p2 : Int} (h0 : p2 + 4 < n_4) (h1 : 0 ≤ n_4 ∧ n_4 ≤ 2000) (h2 : 0 ≤ p2 ∧ p2 ≤ 2000) : 0 ≤ (p2 + 4) ∧ (p2 + 4) < n_4 := by omega
theorem vc_X1_isSo_4 {n_4 p2 : Int} (h0 : p2 + 4 < n_4) (h1 : 0 ≤ n_4 ∧ n_4 ≤ 2000) (h2 : 0 ≤ p2 ∧ p2 ≤ 2000) : 0 ≤ p2 ∧ p2 < n_4 := by omega
theorem vc_X1_isSo_5 {z17 : Int} (h0 : z17 = 4) (h1 : (-2147483648) ≤ z17 ∧ z17 ≤ 2147483647) : 4 ≤ z17 ∧ z17 ≤ 4 := by omega
theorem vc_X1_isSo_6 {z11 z28 : Int} (h0 : z28 < z11) (h1 : (-2147483648) ≤ z11 ∧ z11 ≤ 2147483647) (h2 : 0 ≤ z28 ∧ z28 ≤ 32) : 1 ≤ z11 ∧ z11 ≤ 2147483647 := by omega
theorem vc_X1_isSo_7 {z11 z28 : Int} (h0 : z11 ≤ z28) (h1 : (-2147483648) ≤ z11 ∧ z11 ≤ 2147483647) (h2 : 0 ≤ z28 ∧ z28 ≤ 32) : (-2147483648) ≤ z11 ∧ z11 ≤ 32 := by omega
theorem vc_X1_isSo_8 {z11 z14 z28 : Int} (h0 : z14 < z28) (h1 : z11 ≤ z28) (h2 : (-2147483648) ≤ z11 ∧ z11 ≤ 32) (h3 : (-2147483648) ≤ z14 ∧ z14 ≤ 2147483647) (h4 : 0 ≤ z28 ∧ z28 ≤ 32) : (-2147483648) ≤ z14 ∧ z14 ≤ 31 := by omega
theorem vc_X1_isSo_9 {z11 z14 z28 : Int} (h0 : z28 ≤ z14) (h1 : z11 ≤ z28) (h2 : (-2147483648) ≤ z11 ∧ z11 ≤ 32) (h3 : (-2147483648) ≤ z14 ∧ z14 ≤ 2147483647) (h4 : 0 ≤ z28 ∧ z28 ≤ 32) : 0 ≤ z14 ∧ z14 ≤ 2147483647 := by omega
theorem vc_X1_isSo_10 {z17 : Int} (h0 : z17 = 5) (h1 : ¬ z17 = 4) (h2 : (-2147483648) ≤ z17 ∧ z17 ≤ 2147483647) : 5 ≤ z17 ∧ z17 ≤ 5 := by omega
theorem vc_X1_isSo_11 {z17 : Int} (h0 : z17 = 6) (h1 : ¬ z17 = 4) (h2 : ¬ z17 = 5) (h3 : (-2147483648) ≤ z17 ∧ z17 ≤ 2147483647) : 6 ≤ z17 ∧ z17 ≤ 6 := by omega
theorem vc_X1_isSo_13 {z17 : Int} (h0 : z17 = 7) (h1 : ¬ z17 = 4) (h2 : ¬ z17 = 5) (h3 : ¬ z17 = 6) (h4 : (-2147483648) ≤ z17 ∧ z17 ≤ 2147483647) : 7 ≤ z17 ∧ z17 ≤ 7 := by omega
theorem vc_X1_isSo_14 {z17 : Int} (h0 : z17 = 8) (h1 : ¬ z17 = 4) (h2 : ¬ z17 = 5) (h3 : ¬ z17 = 6) (h4 : ¬ z17 = 7) (h5 : (-2147483648) ≤ z17 ∧ z17 ≤ 2147483647) : 8 ≤ z17 ∧ z17 ≤ 8 := by omega
theorem vc_X1_isSo_15 {z17 : Int} (h0 : z17 = 9) (h1 : ¬ z17 = 4) (h2 : ¬ z17 = 5) (h3 : ¬ z17 = 6) (h4 : ¬ z17 = 7) (h5 : ¬ z17 = 8) (h6 : (-2147483648) ≤ z17 ∧ z17 ≤ 2147483647) : 9 ≤ z17 ∧ z17 ≤ 9 := by omega
theorem vc_X1_isSo_16 {z17 : Int} (h0 : z17 = 10) (h1 : ¬ z17 = 4) (h2 : ¬ z17 = 5) (h3 : ¬ z17 = 6) (h4 : ¬ z17 = 7) (h5 : ¬ z17 = 8) (h6 : ¬ z17 = 9) (h7 : (-2147483648) ≤ z17 ∧ z17 ≤ 2147483647) : 10 ≤ z17 ∧ z17 ≤ 10 := by omega
theorem vc_X1_isSo_18 {z11 z129 z132 z8 : Int} (h0 : (z132 + 1) = z8) (h1 : (z129 < z11 → z132 = -1)) (h2 : (z129 = z11 → z132 = 0)) (h3 : (z11 < z129 → z132 = 1)) (h4 : (-2147483648) ≤ z11 ∧ z11 ≤ 2147483647) (h5 : 0 ≤ z129 ∧ z129 ≤ 20) (h6 : (-1) ≤ z132 ∧ z132 ≤ 1) (h7 : (-2147483648) ≤ z8 ∧ z8 ≤ 2147483647) : 0 ≤ z8 ∧ z8 ≤ 2 := by omega
theorem vc_X1_isSo_19 {z17 : Int} (h0 : z17 = 12) (h1 : ¬ z17 = 5) (h2 : ¬ z17 = 6) (h3 : ¬ z17 = 7) (h4 : ¬ z17 = 8) (h5 : ¬ z17 = 9) (h6 : ¬ z17 = 10) (h7 : ¬ z17 = 11) (h8 : (-2147483648) ≤ z17 ∧ z17 ≤ 2147483647) : 12 ≤ z17 ∧ z17 ≤ 12 := by omega
theorem vc_X1_isSo_20 {z11 z142 z145 z8 : Int} (h0 : (z145 + 1) = z8) (h1 : (z142 < z11 → z145 = -1)) (h2 : (z142 = z11 → z145 = 0)) (h3 : (z11 < z142 → z145 = 1)) (h4 : (-2147483648) ≤ z11 ∧ z11 ≤ 2147483647) (h5 : (-2147483648) ≤ z142 ∧ z142 ≤ 2147483647) (h6 : (-1) ≤ z145 ∧ z145 ≤ 1) (h7 : (-2147483648) ≤ z8 ∧ z8 ≤ 2147483647) : 0 ≤ z8 ∧ z8 ≤ 2 := by omega
theorem vc_X1_isSo_21 {z17 : Int} (h0 : z17 = 13) (h1 : ¬ z17 = 6) (h2 : ¬ z17 = 7) (h3 : ¬ z17 = 8) (h4 : ¬ z17 = 9) (h5 : ¬ z17 = 10) (h6 : ¬ z17 = 11) (h7 : ¬ z17 = 12) (h8 : (-2147483648) ≤ z17 ∧ z17 ≤ 2147483647) : 13 ≤ z17 ∧ z17 ≤ 13 := by omega
theorem vc_X1_isSo_23 {z17 : Int} (h0 : z17 = 14) (h1 : ¬ z17 = 7) (h2 : ¬ z17 = 8) (h3 : ¬ z17 = 9) (h4 : ¬ z17 = 10) (h5 : ¬ z17 = 11) (h6 : ¬ z17 = 12) (h7 : ¬ z17 = 13) (h8 : (-2147483648) ≤ z17 ∧ z17 ≤ 2147483647) : 14 ≤ z17 ∧ z17 ≤ 14 := by omega
theorem vc_X1_isSo_24 {z17 : Int} (h0 : z17 = 15) (h1 : ¬ z17 = 8) (h2 : ¬ z17 = 9) (h3 : ¬ z17 = 10) (h4 : ¬ z17 = 11) (h5 : ¬ z17 = 12) (h6 : ¬ z17 = 13) (h7 : ¬ z17 = 14) (h8 : (-2147483648) ≤ z17 ∧ z17 ≤ 2147483647) : 15 ≤ z17 ∧ z17 ≤ 15 := by omega
theorem vc_X1_isSo_25 {z202 z8 : Int} (h0 : z202 = z8) (h1 : 0 ≤ z202 ∧ z202 ≤ 2) (h2 : (-2147483648) ≤ z8 ∧ z8 ≤ 2147483647) : 0 ≤ z8 ∧ z8 ≤ 2 := by omega
theorem vc_X1_isSo_28 {z17 : Int} (h0 : ¬ z17 = 4) (h1 : ¬ z17 = 5) (h2 : ¬ z17 = 6) (h3 : ¬ z17 = 7) (h4 : ¬ z17 = 8) (h5 : ¬ z17 = 9) (h6 : ¬ z17 = 10) (h7 : ¬ z17 = 11) (h8 : ¬ z17 = 12) (h9 : ¬ z17 = 13) (h10 : ¬ z17 = 14) (h11 : ¬ z17 = 15) (h12 : (-2147483648) ≤ z17 ∧ z17 ≤ 2147483647) : z17 < 4 ∨ 15 < z17 := by omega
set_option maxRecDepth 4000 in
set_option maxHeartbeats 4000000 in
theorem c_X1_isSo {l : Launch} {D : va_G} {c : Nat → ClassId} {H0 : Heap} {sa : Nat × Nat × (Nat → Int32)} {w : mW} {μ : mM} (hw : mWF w) (hT : mT w μ) {a1 : Nat} (hA1 : mAt w a1 230) {p2 : Int} (hp2 : 0 ≤ p2 ∧ p2 ≤ 2000) (hIRT : RT μ) (hln : p2 + 4 < (w.2.2.1 (μ a1 1).toNat : Int)) (he1 : w.2.2.1 (μ a1 2).toNat = w.2.2.1 (μ a1 3).toNat) (he2 : w.2.2.1 (μ a1 4).toNat = w.2.2.1 (μ a1 5).toNat) : sC (gG l D c H0 sa) mX1_isSo 2 0 0 [.ref 21, .ref a1, iv p2] (mk w μ) (qP w μ (fun z => (0 ≤ z ∧ z ≤ 1) ∧ True)) := by
  refine sC.of rfl (by decide) (le_t rfl) ?_
  refine mr_lvE (lv' := [(0, .ref 21), (1, .ref a1), (2, iv p2)]) rfl ?_
  refine sv_aload_n (pc := 0) dX1_isSo_0 rfl rfl ?_
  refine gf_X5_1 (pc := 1) dX1_isSo_1 wF_X1_60 hA1 hT fun b1 q2 A3 => ?_
  obtain ⟨n_4, q5⟩ : ∃ n : Int, (w.2.2.1 b1 : Int) = n := ⟨_, rfl⟩
  have h6 : 0 ≤ n_4 ∧ n_4 ≤ 2000 := lnR (m := 2000) q5 A3 rfl
  have h7 : p2 + 4 < n_4 := lnLt q5 (lnE q2 hln)
  refine mr_iload_n (pc := 4) (z := p2) dX1_isSo_4 rfl rfl ?_
  refine mr_iconst (pc := 5) (z := 2) dX1_isSo_5 ?_
  refine mr_iadd (pc := 6) (x := p2) (y := 2) dX1_isSo_6 ?_
  refine la_231 (pc := 7) dX1_isSo_7 A3 hT (lnC q5 (vc_X1_isSo_1 h7 h6 hp2)) fun z8 q9 h10 => ?_
  refine mr_istore_n (pc := 8) (lv' := [(3, iv z8), (0, .ref 21), (1, .ref a1), (2, iv p2)]) dX1_isSo_8 rfl (by decide) rfl ?_
  refine sv_aload_n (pc := 9) dX1_isSo_9 rfl rfl ?_
  refine gk_X5_1 (pc := 10) dX1_isSo_10 wF_X1_60 hA1 q2 ?_
  refine mr_iload_n (pc := 13) (z := p2) dX1_isSo_13 rfl rfl ?_
  refine mr_iconst (pc := 14) (z := 3) dX1_isSo_14 ?_
  refine mr_iadd (pc := 15) (x := p2) (y := 3) dX1_isSo_15 ?_
  refine la_231 (pc := 16) dX1_isSo_16 A3 hT (lnC q5 (vc_X1_isSo_2 h7 h6 hp2)) fun z11 q12 h13 => ?_
  refine mr_istore (pc := 17) (lv' := [(4, iv z11), (3, iv z8), (0, .ref 21), (1, .ref a1), (2, iv p2)]) dX1_isSo_17 (by decide) rfl ?_
  refine sv_aload_n (pc := 19) dX1_isSo_19 rfl rfl ?_
  refine gk_X5_1 (pc := 20) dX1_isSo_20 wF_X1_60 hA1 q2 ?_
  refine mr_iload_n (pc := 23) (z := p2) dX1_isSo_23 rfl rfl ?_
  refine mr_iconst (pc := 24) (z := 4) dX1_isSo_24 ?_
  refine mr_iadd (pc := 25) (x := p2) (y := 4) dX1_isSo_25 ?_
  refine la_231 (pc := 26) dX1_isSo_26 A3 hT (lnC q5 (vc_X1_isSo_3 h7 h6 hp2)) fun z14 q15 h16 => ?_
  refine mr_istore (pc := 27) (lv' := [(5, iv z14), (4, iv z11), (3, iv z8), (0, .ref 21), (1, .ref a1), (2, iv p2)]) dX1_isSo_27 (by decide) rfl ?_
  refine sv_aload_n (pc := 29) dX1_isSo_29 rfl rfl ?_
  refine gk_X5_1 (pc := 30) dX1_isSo_30 wF_X1_60 hA1 q2 ?_
  refine mr_iload_n (pc := 33) (z := p2) dX1_isSo_33 rfl rfl ?_
  refine la_231 (pc := 34) dX1_isSo_34 A3 hT (lnC q5 (vc_X1_isSo_4 h7 h6 hp2)) fun z17 q18 h19 => ?_
  by_cases h20 : z17 = 4
  · refine mr_tableIn (pc := 35) (v := 4) (tgt := 96) dX1_isSo_35 h20 rfl rfl (by decide) ?_
    have h21 : 4 ≤ z17 ∧ z17 ≤ 4 := (vc_X1_isSo_5 h20 h19)
    refine sv_aload_n (pc := 96) dX1_isSo_96 rfl rfl ?_
    refine gf_X1_0 (pc := 97) dX1_isSo_97 wF_X1_9 (A_21 hw) hT ?_
    refine gf_X10_1 (pc := 100) dX1_isSo_100 wF_X1_72 (A_6 hw) hT ?_
    refine sv_aload_n (pc := 103) dX1_isSo_103 rfl rfl ?_
    refine gf_X1_2 (pc := 104) dX1_isSo_104 wF_X1_25 (A_21 hw) hT hIRT fun b22 q23 A24 => ?_
    refine gf_X7_3 (pc := 107) dX1_isSo_107 wF_X1_77 A24 hT fun z25 q26 h27 => ?_
    refine la_8 (pc := 110) dX1_isSo_110 (A_8 hw) hT (rIx (n := 10) h27 rfl) fun z28 q29 h30 => ?_
    refine mr_istore (pc := 111) (lv' := [(6, iv z28), (5, iv z14), (4, iv z11), (3, iv z8), (0, .ref 21), (1, .ref a1), (2, iv p2)]) dX1_isSo_111 (by decide) rfl ?_
    refine mr_iload (pc := 113) (z := z28) dX1_isSo_113 rfl ?_
    refine mr_iload (pc := 115) (z := z11) dX1_isSo_115 rfl ?_
    refine mr_icmp_lt (pc := 117) (tgt := 156) dX1_isSo_117 (by decide) (r32 h30 rfl) h13 (fun h46 => ?_) (fun h46 => ?_)
    · have h47 : 1 ≤ z11 ∧ z11 ≤ 2147483647 := (vc_X1_isSo_6 h46 h13 h30)
      refine mr_iconst (pc := 156) (z := 0) dX1_isSo_156 ?_
      exact mr_zretP dX1_isSo_157 rfl (rW (c := 0) (d := 1) (rR (x := 0)) rfl) (le_t rfl) (le_t rfl) ⟨(rW (c := 0) (d := 1) (rR (x := 0)) rfl), trivial⟩
    have h48 : (-2147483648) ≤ z11 ∧ z11 ≤ 32 := (vc_X1_isSo_7 h46 h13 h30)
    refine mr_iload (pc := 120) (z := z28) dX1_isSo_120 rfl ?_
    refine mr_iload (pc := 122) (z := z14) dX1_isSo_122 rfl ?_
    refine mr_icmp_gt (pc := 124) (tgt := 156) dX1_isSo_124 (by decide) (r32 h30 rfl) h16 (fun h62 => ?_) (fun h62 => ?_)
    · have h63 : (-2147483648) ≤ z14 ∧ z14 ≤ 31 := (vc_X1_isSo_8 h62 h46 h48 h16 h30)
      refine mr_iconst (pc := 156) (z := 0) dX1_isSo_156 ?_
      exact mr_zretP dX1_isSo_157 rfl (rW (c := 0) (d := 1) (rR (x := 0)) rfl) (le_t rfl) (le_t rfl) ⟨(rW (c := 0) (d := 1) (rR (x := 0)) rfl), trivial⟩
    have h64 : 0 ≤ z14 ∧ z14 ≤ 2147483647 := (vc_X1_isSo_9 h62 h46 h48 h16 h30)
    refine sv_aload_n (pc := 127) dX1_isSo_127 rfl rfl ?_
    refine gf_X1_0 (pc := 128) dX1_isSo_128 wF_X1_9 (A_21 hw) hT ?_
    refine gf_X10_0 (pc := 131) dX1_isSo_131 wF_X1_82 (A_6 hw) hT ?_
    refine sv_aload_n (pc := 134) dX1_isSo_134 rfl rfl ?_
    refine gk_X1_2 (pc := 135) dX1_isSo_135 wF_X1_25 (A_21 hw) q23 ?_
    refine gk_X7_3 (pc := 138) dX1_isSo_138 wF_X1_77 A24 q26 ?_
    refine la_7 (pc := 141) dX1_isSo_141 (A_7 hw) hT (rIx (n := 10) h27 rfl) fun z65 q66 h67 => ?_
    refine mr_iload (pc := 142) (z := z11) dX1_isSo_142 rfl ?_
    refine mr_cSP (pc := 144) (c_X10_maskOf hw hT (rW (c := (-2147483648)) (d := 2147483647) h48 rfl)) (gOk _ _ _ _ _) dX1_isSo_144 (tX10_maskOf _ _ _ _ _) wS_X10_maskOf wM_X1_85 ⟨le_t rfl, le_t rfl⟩ ⟨le_t rfl, le_t rfl⟩ rfl (le_t rfl) fun z72 h71 => ?_
    refine mr_iand (pc := 147) (x := z65) (y := z72) dX1_isSo_147 ?_
    refine mr_gen (P := fun z => (-2147483648) ≤ z ∧ z ≤ 2147483647) (r32i _) fun z73 q74 h75 => ?_
    refine mr_iload_n (pc := 148) (z := z8) dX1_isSo_148 rfl rfl ?_
    refine mr_icmp_ne (pc := 149) (tgt := 156) dX1_isSo_149 (by decide) h75 h10 (fun h76 => ?_) (fun h76 => ?_)
    · refine mr_iconst (pc := 156) (z := 0) dX1_isSo_156 ?_
      exact mr_zretP dX1_isSo_157 rfl (rW (c := 0) (d := 1) (rR (x := 0)) rfl) (le_t rfl) (le_t rfl) ⟨(rW (c := 0) (d := 1) (rR (x := 0)) rfl), trivial⟩
    refine mr_iconst (pc := 152) (z := 1) dX1_isSo_152 ?_
    refine sv_goto (pc := 153) (tgt := 157) dX1_isSo_153 (by decide) ?_
    exact mr_zretP dX1_isSo_157 rfl (rW (c := 0) (d := 1) (rR (x := 1)) rfl) (le_t rfl) (le_t rfl) ⟨(rW (c := 0) (d := 1) (rR (x := 1)) rfl), trivial⟩
  by_cases h77 : z17 = 5
  · refine mr_tableIn (pc := 35) (v := 5) (tgt := 381) dX1_isSo_35 h77 rfl rfl (by decide) ?_
    have h78 : 5 ≤ z17 ∧ z17 ≤ 5 := (vc_X1_isSo_10 h77 h20 h19)
    refine mr_iconst (pc := 381) (z := 0) dX1_isSo_381 ?_
    exact mr_zretP dX1_isSo_382 rfl (rW (c := 0) (d := 1) (rR (x := 0)) rfl) (le_t rfl) (le_t rfl) ⟨(rW (c := 0) (d := 1) (rR (x := 0)) rfl), trivial⟩
  by_cases h79 : z17 = 6
  · refine mr_tableIn (pc := 35) (v := 6) (tgt := 158) dX1_isSo_35 h79 rfl rfl (by decide) ?_
    have h80 : 6 ≤ z17 ∧ z17 ≤ 6 := (vc_X1_isSo_11 h79 h20 h77 h19)
    refine sv_aload_n (pc := 158) dX1_isSo_158 rfl rfl ?_
    refine mr_iload_n (pc := 159) (z := z8) dX1_isSo_159 rfl rfl ?_
    refine mr_iload (pc := 160) (z := z11) dX1_isSo_160 rfl ?_
    refine mr_iconst (pc := 162) (z := 1) dX1_isSo_162 ?_
    refine mr_icmp_ne (pc := 163) (tgt := 170) dX1_isSo_163 (by decide) h13 (r32 (rR (x := 1)) rfl) (fun h82 => ?_) (fun h82 => ?_)
    · refine mr_iconst (pc := 170) (z := 0) dX1_isSo_170 ?_
      refine sv_aload_n (pc := 171) dX1_isSo_171 rfl rfl ?_
      refine gf_X1_2 (pc := 172) dX1_isSo_172 wF_X1_25 (A_21 hw) hT hIRT fun b83 q84 A85 => ?_
      refine mr_cVP (pc := 175) (c_X5_tells hw hT hA1 h10 (rW (c := 0) (d := 1) (rR (x := 0)) rfl) A85 he1 he2) (gOk _ _ _ _ _) dX1_isSo_175 (tX5_tells _ _ _ _ _) ⟨wV_X5_tells, wL_X5_tells⟩ wM_X1_88 (gCX5 _ _ _ _ _) rfl hA1 rfl ⟨le_t rfl, le_t rfl⟩ ⟨le_t rfl, le_t rfl⟩ rfl (le_t rfl) fun z90 h89 => ?_
      exact mr_zretP dX1_isSo_178 rfl h89.1 (le_t rfl) (le_t rfl) ⟨h89.1, trivial⟩
    have h91 : 1 ≤ z11 ∧ z11 ≤ 1 := (vc_X0_compareAt_1 h82 h13)
    refine mr_iconst (pc := 166) (z := 1) dX1_isSo_166 ?_
    refine sv_goto (pc := 167) (tgt := 171) dX1_isSo_167 (by decide) ?_
    refine sv_aload_n (pc := 171) dX1_isSo_171 rfl rfl ?_
    refine gf_X1_2 (pc := 172) dX1_isSo_172 wF_X1_25 (A_21 hw) hT hIRT fun b92 q93 A94 => ?_
    refine mr_cVP (pc := 175) (c_X5_tells hw hT hA1 h10 (rW (c := 0) (d := 1) (rR (x := 1)) rfl) A94 he1 he2) (gOk _ _ _ _ _) dX1_isSo_175 (tX5_tells _ _ _ _ _) ⟨wV_X5_tells, wL_X5_tells⟩ wM_X1_88 (gCX5 _ _ _ _ _) rfl hA1 rfl ⟨le_t rfl, le_t rfl⟩ ⟨le_t rfl, le_t rfl⟩ rfl (le_t rfl) fun z99 h98 => ?_
    exact mr_zretP dX1_isSo_178 rfl h98.1 (le_t rfl) (le_t rfl) ⟨h98.1, trivial⟩
  by_cases h100 : z17 = 7
  · refine mr_tableIn (pc := 35) (v := 7) (tgt := 381) dX1_isSo_35 h100 rfl rfl (by decide) ?_
    have h101 : 7 ≤ z17 ∧ z17 ≤ 7 := (vc_X1_isSo_13 h100 h20 h77 h79 h19)
    refine mr_iconst (pc := 381) (z := 0) dX1_isSo_381 ?_
    exact mr_zretP dX1_isSo_382 rfl (rW (c := 0) (d := 1) (rR (x := 0)) rfl) (le_t rfl) (le_t rfl) ⟨(rW (c := 0) (d := 1) (rR (x := 0)) rfl), trivial⟩
  by_cases h102 : z17 = 8
  · refine mr_tableIn (pc := 35) (v := 8) (tgt := 179) dX1_isSo_35 h102 rfl rfl (by decide) ?_
    have h103 : 8 ≤ z17 ∧ z17 ≤ 8 := (vc_X1_isSo_14 h102 h20 h77 h79 h100 h19)
    refine sv_aload_n (pc := 179) dX1_isSo_179 rfl rfl ?_
    refine gf_X1_2 (pc := 180) dX1_isSo_180 wF_X1_25 (A_21 hw) hT hIRT fun b104 q105 A106 => ?_
    refine mr_iload_n (pc := 183) (z := z8) dX1_isSo_183 rfl rfl ?_
    refine mr_cVP (pc := 184) (c_X7_hasMark hw hT A106 h10) (gOk _ _ _ _ _) dX1_isSo_184 (tX7_hasMark _ _ _ _ _) ⟨wV_X7_hasMark, wL_X7_hasMark⟩ wM_X1_92 (gCX7 _ _ _ _ _) rfl A106 rfl ⟨le_t rfl, le_t rfl⟩ ⟨le_t rfl, le_t rfl⟩ rfl (le_t rfl) fun z111 h110 => ?_
    exact mr_zretP dX1_isSo_187 rfl h110.1 (le_t rfl) (le_t rfl) ⟨h110.1, trivial⟩
  by_cases h112 : z17 = 9
  · refine mr_tableIn (pc := 35) (v := 9) (tgt := 188) dX1_isSo_35 h112 rfl rfl (by decide) ?_
    have h113 : 9 ≤ z17 ∧ z17 ≤ 9 := (vc_X1_isSo_15 h112 h20 h77 h79 h100 h102 h19)
    refine sv_aload_n (pc := 188) dX1_isSo_188 rfl rfl ?_
    refine gf_X1_4 (pc := 189) dX1_isSo_189 wF_X1_38 (A_21 hw) hT fun z114 q115 h116 => ?_
    refine mr_iload_n (pc := 192) (z := z8) dX1_isSo_192 rfl rfl ?_
    refine mr_icmp_ne (pc := 193) (tgt := 200) dX1_isSo_193 (by decide) h116 h10 (fun h117 => ?_) (fun h117 => ?_)
    · refine mr_iconst (pc := 200) (z := 0) dX1_isSo_200 ?_
      exact mr_zretP dX1_isSo_201 rfl (rW (c := 0) (d := 1) (rR (x := 0)) rfl) (le_t rfl) (le_t rfl) ⟨(rW (c := 0) (d := 1) (rR (x := 0)) rfl), trivial⟩
    refine mr_iconst (pc := 196) (z := 1) dX1_isSo_196 ?_
    refine sv_goto (pc := 197) (tgt := 201) dX1_isSo_197 (by decide) ?_
    exact mr_zretP dX1_isSo_201 rfl (rW (c := 0) (d := 1) (rR (x := 1)) rfl) (le_t rfl) (le_t rfl) ⟨(rW (c := 0) (d := 1) (rR (x := 1)) rfl), trivial⟩
  by_cases h118 : z17 = 10
  · refine mr_tableIn (pc := 35) (v := 10) (tgt := 202) dX1_isSo_35 h118 rfl rfl (by decide) ?_
    have h119 : 10 ≤ z17 ∧ z17 ≤ 10 := (vc_X1_isSo_16 h118 h20 h77 h79 h100 h102 h112 h19)
    refine sv_aload_n (pc := 202) dX1_isSo_202 rfl rfl ?_
    refine gf_X1_5 (pc := 203) dX1_isSo_203 wF_X1_44 (A_21 hw) hT fun z120 q121 h122 => ?_
    refine mr_iload_n (pc := 206) (z := z8) dX1_isSo_206 rfl rfl ?_
    refine mr_icmp_ne (pc := 207) (tgt := 214) dX1_isSo_207 (by decide) h122 h10 (fun h123 => ?_) (fun h123 => ?_)
    · refine mr_iconst (pc := 214) (z := 0) dX1_isSo_214 ?_
      exact mr_zretP dX1_isSo_215 rfl (rW (c := 0) (d := 1) (rR (x := 0)) rfl) (le_t rfl) (le_t rfl) ⟨(rW (c := 0) (d := 1) (rR (x := 0)) rfl), trivial⟩
    refine mr_iconst (pc := 210) (z := 1) dX1_isSo_210 ?_
    refine sv_goto (pc := 211) (tgt := 215) dX1_isSo_211 (by decide) ?_
    exact mr_zretP dX1_isSo_215 rfl (rW (c := 0) (d := 1) (rR (x := 1)) rfl) (le_t rfl) (le_t rfl) ⟨(rW (c := 0) (d := 1) (rR (x := 1)) rfl), trivial⟩
  by_cases h124 : z17 = 11
  · refine mr_tableIn (pc := 35) (v := 11) (tgt := 216) dX1_isSo_35 h124 rfl rfl (by decide) ?_
    have h125 : 11 ≤ z17 ∧ z17 ≤ 11 := (vc_X12_count_14 h124 h20 h77 h79 h100 h102 h112 h118 h19)
    refine sv_aload_n (pc := 216) dX1_isSo_216 rfl rfl ?_
    refine gf_X1_2 (pc := 217) dX1_isSo_217 wF_X1_25 (A_21 hw) hT hIRT fun b126 q127 A128 => ?_
    refine gf_X7_7 (pc := 220) dX1_isSo_220 wF_X1_96 A128 hT fun z129 q130 h131 => ?_
    refine mr_iload (pc := 223) (z := z11) dX1_isSo_223 rfl ?_
    refine mr_cSP (pc := 225) (c_J_cmp (r32 h131 rfl) h13) (gOk _ _ _ _ _) dX1_isSo_225 (tJ_cmp _ _ _ _ _) wS_J_cmp wM_X1_99 ⟨le_t rfl, le_t rfl⟩ ⟨le_t rfl, le_t rfl⟩ rfl (le_t rfl) fun z132 h133 => ?_
    refine mr_iconst (pc := 228) (z := 1) dX1_isSo_228 ?_
    refine mr_iadd (pc := 229) (x := z132) (y := 1) dX1_isSo_229 ?_
    refine mr_iload_n (pc := 230) (z := z8) dX1_isSo_230 rfl rfl ?_
    refine mr_icmp_ne (pc := 231) (tgt := 238) dX1_isSo_231 (by decide) (r32 (rAdd (e := 0) (f := 2) h133.1 (rR (x := 1)) rfl) rfl) h10 (fun h135 => ?_) (fun h135 => ?_)
    · refine mr_iconst (pc := 238) (z := 0) dX1_isSo_238 ?_
      exact mr_zretP dX1_isSo_239 rfl (rW (c := 0) (d := 1) (rR (x := 0)) rfl) (le_t rfl) (le_t rfl) ⟨(rW (c := 0) (d := 1) (rR (x := 0)) rfl), trivial⟩
    have h136 : 0 ≤ z8 ∧ z8 ≤ 2 := (vc_X1_isSo_18 h135 h133.2.1 h133.2.2.1 h133.2.2.2 h13 h131 h133.1 h10)
    refine mr_iconst (pc := 234) (z := 1) dX1_isSo_234 ?_
    refine sv_goto (pc := 235) (tgt := 239) dX1_isSo_235 (by decide) ?_
    exact mr_zretP dX1_isSo_239 rfl (rW (c := 0) (d := 1) (rR (x := 1)) rfl) (le_t rfl) (le_t rfl) ⟨(rW (c := 0) (d := 1) (rR (x := 1)) rfl), trivial⟩
  by_cases h137 : z17 = 12
  · refine mr_tableIn (pc := 35) (v := 12) (tgt := 240) dX1_isSo_35 h137 rfl rfl (by decide) ?_
    have h138 : 12 ≤ z17 ∧ z17 ≤ 12 := (vc_X1_isSo_19 h137 h77 h79 h100 h102 h112 h118 h124 h19)
    refine sv_aload_n (pc := 240) dX1_isSo_240 rfl rfl ?_
    refine gf_X1_2 (pc := 241) dX1_isSo_241 wF_X1_25 (A_21 hw) hT hIRT fun b139 q140 A141 => ?_
    refine gf_X7_4 (pc := 244) dX1_isSo_244 wF_X1_105 A141 hT fun z142 q143 h144 => ?_
    refine mr_iload (pc := 247) (z := z11) dX1_isSo_247 rfl ?_
    refine mr_cSP (pc := 249) (c_J_cmp h144 h13) (gOk _ _ _ _ _) dX1_isSo_249 (tJ_cmp _ _ _ _ _) wS_J_cmp wM_X1_99 ⟨le_t rfl, le_t rfl⟩ ⟨le_t rfl, le_t rfl⟩ rfl (le_t rfl) fun z145 h146 => ?_
    refine mr_iconst (pc := 252) (z := 1) dX1_isSo_252 ?_
    refine mr_iadd (pc := 253) (x := z145) (y := 1) dX1_isSo_253 ?_
    refine mr_iload_n (pc := 254) (z := z8) dX1_isSo_254 rfl rfl ?_
    refine mr_icmp_ne (pc := 255) (tgt := 262) dX1_isSo_255 (by decide) (r32 (rAdd (e := 0) (f := 2) h146.1 (rR (x := 1)) rfl) rfl) h10 (fun h148 => ?_) (fun h148 => ?_)
    · refine mr_iconst (pc := 262) (z := 0) dX1_isSo_262 ?_
      exact mr_zretP dX1_isSo_263 rfl (rW (c := 0) (d := 1) (rR (x := 0)) rfl) (le_t rfl) (le_t rfl) ⟨(rW (c := 0) (d := 1) (rR (x := 0)) rfl), trivial⟩
    have h149 : 0 ≤ z8 ∧ z8 ≤ 2 := (vc_X1_isSo_20 h148 h146.2.1 h146.2.2.1 h146.2.2.2 h13 h144 h146.1 h10)
    refine mr_iconst (pc := 258) (z := 1) dX1_isSo_258 ?_
    refine sv_goto (pc := 259) (tgt := 263) dX1_isSo_259 (by decide) ?_
    exact mr_zretP dX1_isSo_263 rfl (rW (c := 0) (d := 1) (rR (x := 1)) rfl) (le_t rfl) (le_t rfl) ⟨(rW (c := 0) (d := 1) (rR (x := 1)) rfl), trivial⟩
  by_cases h150 : z17 = 13
  · refine mr_tableIn (pc := 35) (v := 13) (tgt := 264) dX1_isSo_35 h150 rfl rfl (by decide) ?_
    have h151 : 13 ≤ z17 ∧ z17 ≤ 13 := (vc_X1_isSo_21 h150 h79 h100 h102 h112 h118 h124 h137 h19)
    refine sv_aload_n (pc := 264) dX1_isSo_264 rfl rfl ?_
    refine gf_X1_2 (pc := 265) dX1_isSo_265 wF_X1_25 (A_21 hw) hT hIRT fun b152 q153 A154 => ?_
    refine gf_X7_6 (pc := 268) dX1_isSo_268 wF_X1_108 A154 hT fun z155 q156 h157 => ?_
    refine mr_iload (pc := 271) (z := z11) dX1_isSo_271 rfl ?_
    refine mr_cSP (pc := 273) (c_J_cmp h157 h13) (gOk _ _ _ _ _) dX1_isSo_273 (tJ_cmp _ _ _ _ _) wS_J_cmp wM_X1_99 ⟨le_t rfl, le_t rfl⟩ ⟨le_t rfl, le_t rfl⟩ rfl (le_t rfl) fun z158 h159 => ?_
    refine mr_iconst (pc := 276) (z := 1) dX1_isSo_276 ?_
    refine mr_iadd (pc := 277) (x := z158) (y := 1) dX1_isSo_277 ?_
    refine mr_iload_n (pc := 278) (z := z8) dX1_isSo_278 rfl rfl ?_
    refine mr_icmp_ne (pc := 279) (tgt := 286) dX1_isSo_279 (by decide) (r32 (rAdd (e := 0) (f := 2) h159.1 (rR (x := 1)) rfl) rfl) h10 (fun h161 => ?_) (fun h161 => ?_)
    · refine mr_iconst (pc := 286) (z := 0) dX1_isSo_286 ?_
      exact mr_zretP dX1_isSo_287 rfl (rW (c := 0) (d := 1) (rR (x := 0)) rfl) (le_t rfl) (le_t rfl) ⟨(rW (c := 0) (d := 1) (rR (x := 0)) rfl), trivial⟩
    have h162 : 0 ≤ z8 ∧ z8 ≤ 2 := (vc_X1_isSo_20 h161 h159.2.1 h159.2.2.1 h159.2.2.2 h13 h157 h159.1 h10)
    refine mr_iconst (pc := 282) (z := 1) dX1_isSo_282 ?_
    refine sv_goto (pc := 283) (tgt := 287) dX1_isSo_283 (by decide) ?_
    exact mr_zretP dX1_isSo_287 rfl (rW (c := 0) (d := 1) (rR (x := 1)) rfl) (le_t rfl) (le_t rfl) ⟨(rW (c := 0) (d := 1) (rR (x := 1)) rfl), trivial⟩
  by_cases h163 : z17 = 14
  · refine mr_tableIn (pc := 35) (v := 14) (tgt := 288) dX1_isSo_35 h163 rfl rfl (by decide) ?_
    have h164 : 14 ≤ z17 ∧ z17 ≤ 14 := (vc_X1_isSo_23 h163 h100 h102 h112 h118 h124 h137 h150 h19)
    refine sv_aload_n (pc := 288) dX1_isSo_288 rfl rfl ?_
    refine gf_X1_2 (pc := 289) dX1_isSo_289 wF_X1_25 (A_21 hw) hT hIRT fun b165 q166 A167 => ?_
    refine gf_X7_5 (pc := 292) dX1_isSo_292 wF_X1_111 A167 hT fun z168 q169 h170 => ?_
    refine mr_iload_n (pc := 295) (z := z8) dX1_isSo_295 rfl rfl ?_
    refine mr_icmp_ne (pc := 296) (tgt := 303) dX1_isSo_296 (by decide) h170 h10 (fun h171 => ?_) (fun h171 => ?_)
    · refine mr_iconst (pc := 303) (z := 0) dX1_isSo_303 ?_
      exact mr_zretP dX1_isSo_304 rfl (rW (c := 0) (d := 1) (rR (x := 0)) rfl) (le_t rfl) (le_t rfl) ⟨(rW (c := 0) (d := 1) (rR (x := 0)) rfl), trivial⟩
    refine mr_iconst (pc := 299) (z := 1) dX1_isSo_299 ?_
    refine sv_goto (pc := 300) (tgt := 304) dX1_isSo_300 (by decide) ?_
    exact mr_zretP dX1_isSo_304 rfl (rW (c := 0) (d := 1) (rR (x := 1)) rfl) (le_t rfl) (le_t rfl) ⟨(rW (c := 0) (d := 1) (rR (x := 1)) rfl), trivial⟩
  by_cases h172 : z17 = 15
  · refine mr_tableIn (pc := 35) (v := 15) (tgt := 305) dX1_isSo_35 h172 rfl rfl (by decide) ?_
    have h173 : 15 ≤ z17 ∧ z17 ≤ 15 := (vc_X1_isSo_24 h172 h102 h112 h118 h124 h137 h150 h163 h19)
    refine sv_aload_n (pc := 305) dX1_isSo_305 rfl rfl ?_
    refine gf_X1_2 (pc := 306) dX1_isSo_306 wF_X1_25 (A_21 hw) hT hIRT fun b174 q175 A176 => ?_
    refine gf_X7_7 (pc := 309) dX1_isSo_309 wF_X1_96 A176 hT fun z177 q178 h179 => ?_
    have J191 : ∀ (z189 : Int), (((-2147483648) ≤ z189 ∧ z189 ≤ 2147483647)) → sV (gG l D c H0 sa) mX1_isSo (sRm 2 0 0) (sZ (gG l D c H0 sa) 0 0 (qP w μ (fun z => (0 ≤ z ∧ z ≤ 1) ∧ True))) 339 [(0, .ref 21), (3, iv z8)] [iv z189] (mk w μ) 0 0 := by
      intro z189 h190
      refine mr_istore (pc := 339) (lv' := [(7, iv z189), (0, .ref 21), (3, iv z8)]) dX1_isSo_339 (by decide) rfl ?_
      refine sv_aload_n (pc := 341) dX1_isSo_341 rfl rfl ?_
      refine gf_X1_0 (pc := 342) dX1_isSo_342 wF_X1_9 (A_21 hw) hT ?_
      refine sv_aload_n (pc := 345) dX1_isSo_345 rfl rfl ?_
      refine gk_X1_2 (pc := 346) dX1_isSo_346 wF_X1_25 (A_21 hw) q175 ?_
      refine gf_X7_3 (pc := 349) dX1_isSo_349 wF_X1_77 A176 hT fun z192 q193 h194 => ?_
      refine mr_iload (pc := 352) (z := z189) dX1_isSo_352 rfl ?_
      refine sv_aload_n (pc := 354) dX1_isSo_354 rfl rfl ?_
      refine gf_X1_0 (pc := 355) dX1_isSo_355 wF_X1_9 (A_21 hw) hT ?_
      refine gf_X10_18 (pc := 358) dX1_isSo_358 wF_X1_117 (A_6 hw) hT fun z195 q196 h197 => ?_
      refine sv_aload_n (pc := 361) dX1_isSo_361 rfl rfl ?_
      refine gf_X1_0 (pc := 362) dX1_isSo_362 wF_X1_9 (A_21 hw) hT ?_
      refine gk_X10_18 (pc := 365) dX1_isSo_365 wF_X1_117 (A_6 hw) q196 ?_
      refine mr_cVP (pc := 368) (c_X10_verdictOn hw hT h194 h190 (rW (c := (-2147483648)) (d := 2147483647) h197 rfl) (rW (c := (-2147483648)) (d := 2147483647) h197 rfl)) (gOk _ _ _ _ _) dX1_isSo_368 (tX10_verdictOn _ _ _ _ _) ⟨wV_X10_verdictOn, wL_X10_verdictOn⟩ wM_X1_120 (gCX10 _ _ _ _ _) rfl (A_6 hw) rfl ⟨le_t rfl, le_t rfl⟩ ⟨le_t rfl, le_t rfl⟩ rfl (le_t rfl) fun z202 h201 => ?_
      refine mr_iload_n (pc := 371) (z := z8) dX1_isSo_371 rfl rfl ?_
      refine mr_icmp_ne (pc := 372) (tgt := 379) dX1_isSo_372 (by decide) (r32 h201.1 rfl) h10 (fun h204 => ?_) (fun h204 => ?_)
      · refine mr_iconst (pc := 379) (z := 0) dX1_isSo_379 ?_
        exact mr_zretP dX1_isSo_380 rfl (rW (c := 0) (d := 1) (rR (x := 0)) rfl) (le_t rfl) (le_t rfl) ⟨(rW (c := 0) (d := 1) (rR (x := 0)) rfl), trivial⟩
      have h205 : 0 ≤ z8 ∧ z8 ≤ 2 := (vc_X1_isSo_25 h204 h201.1 h10)
      refine mr_iconst (pc := 375) (z := 1) dX1_isSo_375 ?_
      refine sv_goto (pc := 376) (tgt := 380) dX1_isSo_376 (by decide) ?_
      exact mr_zretP dX1_isSo_380 rfl (rW (c := 0) (d := 1) (rR (x := 1)) rfl) (le_t rfl) (le_t rfl) ⟨(rW (c := 0) (d := 1) (rR (x := 1)) rfl), trivial⟩
    refine mr_if_le (pc := 312) (tgt := 335) dX1_isSo_312 (by decide) (r32 h179 rfl) (fun h206 => ?_) (fun h206 => ?_)
    · have h207 : 0 ≤ z177 ∧ z177 ≤ 0 := (vc_X12_unlike_21 h206 h179)
      refine sv_aload_n (pc := 335) dX1_isSo_335 rfl rfl ?_
      refine gf_X1_3 (pc := 336) dX1_isSo_336 wF_X1_35 (A_21 hw) hT fun z208 q209 h210 => ?_
      refine mr_lvS (lv' := [(0, .ref 21), (3, iv z8)]) (List.forall_mem_cons.mpr ⟨rfl, List.forall_mem_cons.mpr ⟨rfl, fun _ h => absurd h List.not_mem_nil⟩⟩) ?_
      exact J191 z208 h210
    have h211 : 1 ≤ z177 ∧ z177 ≤ 20 := (vc_X12_unlike_22 h206 h179)
    refine sv_aload_n (pc := 315) dX1_isSo_315 rfl rfl ?_
    refine gk_X1_2 (pc := 316) dX1_isSo_316 wF_X1_25 (A_21 hw) q175 ?_
    refine gf_X7_0 (pc := 319) dX1_isSo_319 wF_X1_114 A176 hT fun A212 => ?_
    refine sv_aload_n (pc := 322) dX1_isSo_322 rfl rfl ?_
    refine gk_X1_2 (pc := 323) dX1_isSo_323 wF_X1_25 (A_21 hw) q175 ?_
    refine gk_X7_7 (pc := 326) dX1_isSo_326 wF_X1_96 A176 q178 ?_
    refine mr_iconst (pc := 329) (z := 1) dX1_isSo_329 ?_
    refine mr_isub (pc := 330) (x := z177) (y := 1) dX1_isSo_330 ?_
    refine la_201 (pc := 331) dX1_isSo_331 A212 hT (rIx (n := 20) (rSub (e := 0) (f := 19) h211 (rR (x := 1)) rfl) rfl) fun z213 q214 h215 => ?_
    refine sv_goto (pc := 332) (tgt := 339) dX1_isSo_332 (by decide) ?_
    refine mr_lvS (lv' := [(0, .ref 21), (3, iv z8)]) (List.forall_mem_cons.mpr ⟨rfl, List.forall_mem_cons.mpr ⟨rfl, fun _ h => absurd h List.not_mem_nil⟩⟩) ?_
    exact J191 z213 h215
  refine mr_tableOut (pc := 35) (tgt := 381) dX1_isSo_35 h19 (vc_X1_isSo_28 h20 h77 h79 h100 h102 h112 h118 h124 h137 h150 h163 h172 h19) (by decide) ?_
  refine mr_iconst (pc := 381) (z := 0) dX1_isSo_381 ?_
  exact mr_zretP dX1_isSo_382 rfl (rW (c := 0) (d := 1) (rR (x := 0)) rfl) (le_t rfl) (le_t rfl) ⟨(rW (c := 0) (d := 1) (rR (x := 0)) rfl), trivial⟩
theorem vc_X1_goThrough_13_3 {n2 p1 z4 : Int} (h0 : p1 < z4) (h1 : 0 ≤ p1) (h2 : z4 = n2) (h3 : 0 ≤ p1 ∧ p1 ≤ 2147483647) (h4 : 0 ≤ z4 ∧ z4 ≤ 12) : 0 ≤ p1 ∧ p1 ≤ 11 := by omega
theorem vc_X1_goThrough_13_4 {n2 p1 z4 : Int} (h0 : p1 < z4) (h1 : 0 ≤ p1) (h2 : z4 = n2) (h3 : 0 ≤ p1 ∧ p1 ≤ 11) (h4 : 0 ≤ z4 ∧ z4 ≤ 12) : 1 ≤ z4 ∧ z4 ≤ 12 := by omega
theorem vc_X1_goThrough_13_5 {p2 : Int} (h0 : p2 ≤ 12) (h1 : 13 ≤ p2 ∧ p2 ≤ 13) : False := by omega
set_option maxRecDepth 4000 in
set_option maxHeartbeats 4000000 in
theorem c_X1_goThrough_13 {l : Launch} {D : va_G} {c : Nat → ClassId} {H0 : Heap} {sa : Nat × Nat × (Nat → Int32)} {w : mW} {μ : mM} (hw : mWF w) (hT : mT w μ) {p1 : Int} (hp1 : (-2147483648) ≤ p1 ∧ p1 ≤ 2147483647) {p2 : Int} (hp2 : 13 ≤ p2 ∧ p2 ≤ 13) (hIPC : PC w μ) (hIRT : RT μ) : sC (gG l D c H0 sa) mX1_goThrough 3 0 0 [.ref 21, iv p1, iv p2] (mk w μ) (qV w [] μ (fun μ1 => True)) := by
  refine sC.of rfl (by decide) (le_t rfl) ?_
  refine mr_lvE (lv' := [(0, .ref 21), (1, iv p1), (2, iv p2)]) rfl ?_
  refine mr_iload_n (pc := 0) (z := p1) dX1_goThrough_0 rfl rfl ?_
  refine mr_if_lt (pc := 1) (tgt := 18) dX1_goThrough_1 (by decide) hp1 (fun h1 => ?_) (fun h1 => ?_)
  · have h2 : (-2147483648) ≤ p1 ∧ p1 ≤ (-1) := (vc_X12_cut_1 h1 hp1)
    exact mr_vret dX1_goThrough_18 rfl (le_t rfl) (le_t rfl) hT mF.refl trivial
  have h3 : 0 ≤ p1 ∧ p1 ≤ 2147483647 := (vc_X12_cut_2 h1 hp1)
  refine mr_iload_n (pc := 4) (z := p1) dX1_goThrough_4 rfl rfl ?_
  refine sv_aload_n (pc := 5) dX1_goThrough_5 rfl rfl ?_
  refine gf_X1_8 (pc := 6) dX1_goThrough_6 wF_X1_21 (A_21 hw) hT fun z4 q5 h6 => ?_
  refine mr_icmp_ge (pc := 9) (tgt := 18) dX1_goThrough_9 (by decide) (r32 h3 rfl) (r32 h6.2 rfl) (fun h7 => ?_) (fun h7 => ?_)
  · exact mr_vret dX1_goThrough_18 rfl (le_t rfl) (le_t rfl) hT mF.refl trivial
  have h8 : 0 ≤ p1 ∧ p1 ≤ 11 := (vc_X1_goThrough_13_3 h7 h1 h6.1 h3 h6.2)
  have h9 : 1 ≤ z4 ∧ z4 ≤ 12 := (vc_X1_goThrough_13_4 h7 h1 h6.1 h8 h6.2)
  refine mr_iload_n (pc := 12) (z := p2) dX1_goThrough_12 rfl rfl ?_
  refine mr_bipush (pc := 13) (z := 12) dX1_goThrough_13 (by decide) ?_
  refine mr_icmp_le (pc := 15) (tgt := 19) dX1_goThrough_15 (by decide) (r32 hp2 rfl) (r32 (rR (x := 12)) rfl) (fun h => ((vc_X1_goThrough_13_5 h hp2)).elim) (fun _ => ?_)
  exact mr_vret dX1_goThrough_18 rfl (le_t rfl) (le_t rfl) hT mF.refl trivial
theorem vc_X1_doActs_12_1 {z1989 : Int} (h0 : (1001 - z1989) < ((0 : Nat) : Int)) (h1 : 0 ≤ z1989 ∧ z1989 ≤ 1000) : False := by omega
theorem vc_X1_doActs_12_2 {n_1 p2 p3 z1989 : Int} (h0 : z1989 < p3) (h1 : p2 + 2 * p3 ≤ n_1) (h2 : 0 ≤ n_1 ∧ n_1 ≤ 2000) (h3 : 0 ≤ p2 ∧ p2 ≤ 2000) (h4 : 0 ≤ p3 ∧ p3 ≤ 1000) (h5 : 0 ≤ z1989 ∧ z1989 ≤ 1000) : 0 ≤ z1989 ∧ z1989 ≤ 999 := by omega
theorem vc_X1_doActs_12_3 {n_1 p2 p3 z1989 : Int} (h0 : z1989 < p3) (h1 : p2 + 2 * p3 ≤ n_1) (h2 : 0 ≤ n_1 ∧ n_1 ≤ 2000) (h3 : 0 ≤ p2 ∧ p2 ≤ 2000) (h4 : 0 ≤ p3 ∧ p3 ≤ 1000) (h5 : 0 ≤ z1989 ∧ z1989 ≤ 999) : 1 ≤ p3 ∧ p3 ≤ 1000 := by omega
theorem vc_X1_doActs_12_6 {n_1 p2 p3 z1989 : Int} (h0 : p2 + 2 * p3 ≤ n_1) (h1 : z1989 < p3) (h2 : 0 ≤ n_1 ∧ n_1 ≤ 2000) (h3 : 0 ≤ p2 ∧ p2 ≤ 2000) (h4 : 1 ≤ p3 ∧ p3 ≤ 1000) (h5 : 0 ≤ z1989 ∧ z1989 ≤ 999) : 0 ≤ ((p2 + (z1989 * 2)) + 1) ∧ ((p2 + (z1989 * 2)) + 1) < n_1 := by omega
theorem vc_X1_doActs_12_7 {n_1 p2 p3 z1989 : Int} (h0 : z1989 < p3) (h1 : p2 + 2 * p3 ≤ n_1) (h2 : 0 ≤ n_1 ∧ n_1 ≤ 2000) (h3 : 0 ≤ p2 ∧ p2 ≤ 2000) (h4 : 1 ≤ p3 ∧ p3 ≤ 1000) (h5 : 0 ≤ z1989 ∧ z1989 ≤ 999) : 0 ≤ z1989 := by omega
theorem vc_X1_doActs_12_8 {n_1 p2 p3 z1989 : Int} (h0 : p2 + 2 * p3 ≤ n_1) (h1 : z1989 < p3) (h2 : 0 ≤ n_1 ∧ n_1 ≤ 2000) (h3 : 0 ≤ p2 ∧ p2 ≤ 2000) (h4 : 1 ≤ p3 ∧ p3 ≤ 1000) (h5 : 0 ≤ z1989 ∧ z1989 ≤ 999) : z1989 < p3 := by omega
theorem vc_X1_doActs_12_9 {n_1 p2 p3 z1989 : Int} (h0 : p2 + 2 * p3 ≤ n_1) (h1 : z1989 < p3) (h2 : 0 ≤ n_1 ∧ n_1 ≤ 2000) (h3 : 0 ≤ p2 ∧ p2 ≤ 2000) (h4 : 1 ≤ p3 ∧ p3 ≤ 1000) (h5 : 0 ≤ z1989 ∧ z1989 ≤ 999) : ((p2 + (z1989 * 2)) + 1) = p2 + 2 * z1989 + 1 := by omega
theorem vc_X1_doActs_12_10 {z2013 : Int} (h0 : z2013 < 500) (h1 : 0 ≤ z2013 ∧ z2013 ≤ 500) : 0 ≤ z2013 ∧ z2013 ≤ 499 := by omega
theorem vc_X1_doActs_12_11 {n_1 p2 p3 z1989 : Int} (h0 : p2 + 2 * p3 ≤ n_1) (h1 : z1989 < p3) (h2 : 0 ≤ n_1 ∧ n_1 ≤ 2000) (h3 : 0 ≤ p2 ∧ p2 ≤ 2000) (h4 : 1 ≤ p3 ∧ p3 ≤ 1000) (h5 : 0 ≤ z1989 ∧ z1989 ≤ 999) : 0 ≤ (p2 + (z1989 * 2)) ∧ (p2 + (z1989 * 2)) < n_1 := by omega
theorem vc_X1_doActs_12_12 {z2021 : Int} (h0 : z2021 = 12) (h1 : (-2147483648) ≤ z2021 ∧ z2021 ≤ 2147483647) : 12 ≤ z2021 ∧ z2021 ≤ 12 := by omega
theorem vc_X1_doActs_12_13 {N n_1 p2 p3 z1989 : Int} (h0 : (1001 - z1989) < N + 1) (h1 : z1989 < p3) (h2 : p2 + 2 * p3 ≤ n_1) (h3 : 0 ≤ n_1 ∧ n_1 ≤ 2000) (h4 : 0 ≤ p2 ∧ p2 ≤ 2000) (h5 : 1 ≤ p3 ∧ p3 ≤ 1000) (h6 : 0 ≤ z1989 ∧ z1989 ≤ 999) : (1001 - (z1989 + 1)) < N := by omega
theorem vc_X1_doActs_12_14 {z2021 : Int} (h0 : z2021 = 13) (h1 : ¬ z2021 = 12) (h2 : (-2147483648) ≤ z2021 ∧ z2021 ≤ 2147483647) : 13 ≤ z2021 ∧ z2021 ≤ 13 := by omega
theorem vc_X1_doActs_12_15 {z2021 : Int} (h0 : z2021 = 14) (h1 : ¬ z2021 = 12) (h2 : ¬ z2021 = 13) (h3 : (-2147483648) ≤ z2021 ∧ z2021 ≤ 2147483647) : 14 ≤ z2021 ∧ z2021 ≤ 14 := by omega
theorem vc_X1_doActs_12_16 {z2021 : Int} (h0 : z2021 = 15) (h1 : ¬ z2021 = 12) (h2 : ¬ z2021 = 13) (h3 : ¬ z2021 = 14) (h4 : (-2147483648) ≤ z2021 ∧ z2021 ≤ 2147483647) : 15 ≤ z2021 ∧ z2021 ≤ 15 := by omega
theorem vc_X1_doActs_12_17 {z2021 : Int} (h0 : z2021 = 16) (h1 : ¬ z2021 = 12) (h2 : ¬ z2021 = 13) (h3 : ¬ z2021 = 14) (h4 : ¬ z2021 = 15) (h5 : (-2147483648) ≤ z2021 ∧ z2021 ≤ 2147483647) : 16 ≤ z2021 ∧ z2021 ≤ 16 := by omega
theorem vc_X1_doActs_12_18 {z2021 : Int} (h0 : z2021 = 17) (h1 : ¬ z2021 = 12) (h2 : ¬ z2021 = 13) (h3 : ¬ z2021 = 14) (h4 : ¬ z2021 = 15) (h5 : ¬ z2021 = 16) (h6 : (-2147483648) ≤ z2021 ∧ z2021 ≤ 2147483647) : 17 ≤ z2021 ∧ z2021 ≤ 17 := by omega
theorem vc_X1_doActs_12_19 {z2021 : Int} (h0 : z2021 = 18) (h1 : ¬ z2021 = 12) (h2 : ¬ z2021 = 13) (h3 : ¬ z2021 = 14) (h4 : ¬ z2021 = 15) (h5 : ¬ z2021 = 16) (h6 : ¬ z2021 = 17) (h7 : (-2147483648) ≤ z2021 ∧ z2021 ≤ 2147483647) : 18 ≤ z2021 ∧ z2021 ≤ 18 := by omega
theorem vc_X1_doActs_12_20 {z2021 : Int} (h0 : z2021 = 19) (h1 : ¬ z2021 = 12) (h2 : ¬ z2021 = 13) (h3 : ¬ z2021 = 14) (h4 : ¬ z2021 = 15) (h5 : ¬ z2021 = 16) (h6 : ¬ z2021 = 17) (h7 : ¬ z2021 = 18) (h8 : (-2147483648) ≤ z2021 ∧ z2021 ≤ 2147483647) : 19 ≤ z2021 ∧ z2021 ≤ 19 := by omega
theorem vc_X1_doActs_12_21 {z2021 : Int} (h0 : z2021 = 20) (h1 : ¬ z2021 = 13) (h2 : ¬ z2021 = 14) (h3 : ¬ z2021 = 15) (h4 : ¬ z2021 = 16) (h5 : ¬ z2021 = 17) (h6 : ¬ z2021 = 18) (h7 : ¬ z2021 = 19) (h8 : (-2147483648) ≤ z2021 ∧ z2021 ≤ 2147483647) : 20 ≤ z2021 ∧ z2021 ≤ 20 := by omega
theorem vc_X1_doActs_12_22 {z2021 : Int} (h0 : z2021 = 21) (h1 : ¬ z2021 = 14) (h2 : ¬ z2021 = 15) (h3 : ¬ z2021 = 16) (h4 : ¬ z2021 = 17) (h5 : ¬ z2021 = 18) (h6 : ¬ z2021 = 19) (h7 : ¬ z2021 = 20) (h8 : (-2147483648) ≤ z2021 ∧ z2021 ≤ 2147483647) : 21 ≤ z2021 ∧ z2021 ≤ 21 := by omega
theorem vc_X1_doActs_12_23 {z2021 : Int} (h0 : z2021 = 22) (h1 : ¬ z2021 = 15) (h2 : ¬ z2021 = 16) (h3 : ¬ z2021 = 17) (h4 : ¬ z2021 = 18) (h5 : ¬ z2021 = 19) (h6 : ¬ z2021 = 20) (h7 : ¬ z2021 = 21) (h8 : (-2147483648) ≤ z2021 ∧ z2021 ≤ 2147483647) : 22 ≤ z2021 ∧ z2021 ≤ 22 := by omega
theorem vc_X1_doActs_12_24 {z2021 : Int} (h0 : z2021 = 23) (h1 : ¬ z2021 = 16) (h2 : ¬ z2021 = 17) (h3 : ¬ z2021 = 18) (h4 : ¬ z2021 = 19) (h5 : ¬ z2021 = 20) (h6 : ¬ z2021 = 21) (h7 : ¬ z2021 = 22) (h8 : (-2147483648) ≤ z2021 ∧ z2021 ≤ 2147483647) : 23 ≤ z2021 ∧ z2021 ≤ 23 := by omega
theorem vc_X1_doActs_12_25 {z2021 : Int} (h0 : z2021 = 24) (h1 : ¬ z2021 = 17) (h2 : ¬ z2021 = 18) (h3 : ¬ z2021 = 19) (h4 : ¬ z2021 = 20) (h5 : ¬ z2021 = 21) (h6 : ¬ z2021 = 22) (h7 : ¬ z2021 = 23) (h8 : (-2147483648) ≤ z2021 ∧ z2021 ≤ 2147483647) : 24 ≤ z2021 ∧ z2021 ≤ 24 := by omega
theorem vc_X1_doActs_12_26 {z2021 : Int} (h0 : z2021 = 25) (h1 : ¬ z2021 = 18) (h2 : ¬ z2021 = 19) (h3 : ¬ z2021 = 20) (h4 : ¬ z2021 = 21) (h5 : ¬ z2021 = 22) (h6 : ¬ z2021 = 23) (h7 : ¬ z2021 = 24) (h8 : (-2147483648) ≤ z2021 ∧ z2021 ≤ 2147483647) : 25 ≤ z2021 ∧ z2021 ≤ 25 := by omega
theorem vc_X1_doActs_12_27 {z2021 : Int} (h0 : z2021 = 26) (h1 : ¬ z2021 = 19) (h2 : ¬ z2021 = 20) (h3 : ¬ z2021 = 21) (h4 : ¬ z2021 = 22) (h5 : ¬ z2021 = 23) (h6 : ¬ z2021 = 24) (h7 : ¬ z2021 = 25) (h8 : (-2147483648) ≤ z2021 ∧ z2021 ≤ 2147483647) : 26 ≤ z2021 ∧ z2021 ≤ 26 := by omega
theorem vc_X1_doActs_12_28 {z2021 : Int} (h0 : z2021 = 27) (h1 : ¬ z2021 = 20) (h2 : ¬ z2021 = 21) (h3 : ¬ z2021 = 22) (h4 : ¬ z2021 = 23) (h5 : ¬ z2021 = 24) (h6 : ¬ z2021 = 25) (h7 : ¬ z2021 = 26) (h8 : (-2147483648) ≤ z2021 ∧ z2021 ≤ 2147483647) : 27 ≤ z2021 ∧ z2021 ≤ 27 := by omega
theorem vc_X1_doActs_12_33 {z2021 : Int} (h0 : z2021 = 28) (h1 : ¬ z2021 = 21) (h2 : ¬ z2021 = 22) (h3 : ¬ z2021 = 23) (h4 : ¬ z2021 = 24) (h5 : ¬ z2021 = 25) (h6 : ¬ z2021 = 26) (h7 : ¬ z2021 = 27) (h8 : (-2147483648) ≤ z2021 ∧ z2021 ≤ 2147483647) : 28 ≤ z2021 ∧ z2021 ≤ 28 := by omega
theorem vc_X1_doActs_12_34 {z2021 : Int} (h0 : ¬ z2021 = 12) (h1 : ¬ z2021 = 13) (h2 : ¬ z2021 = 14) (h3 : ¬ z2021 = 15) (h4 : ¬ z2021 = 16) (h5 : ¬ z2021 = 17) (h6 : ¬ z2021 = 18) (h7 : ¬ z2021 = 19) (h8 : ¬ z2021 = 20) (h9 : ¬ z2021 = 21) (h10 : ¬ z2021 = 22) (h11 : ¬ z2021 = 23) (h12 : ¬ z2021 = 24) (h13 : ¬ z2021 = 25) (h14 : ¬ z2021 = 26) (h15 : ¬ z2021 = 27) (h16 : ¬ z2021 = 28) (h17 : (-2147483648) ≤ z2021 ∧ z2021 ≤ 2147483647) : z2021 < 12 ∨ 28 < z2021 := by omega
theorem vc_X1_doActs_12_35 {z2013 : Int} (h0 : 500 ≤ z2013) (h1 : 0 ≤ z2013 ∧ z2013 ≤ 500) : 500 ≤ z2013 ∧ z2013 ≤ 500 := by omega
theorem vc_X1_doActs_12_36  : (1001 - 0) < ((1002 : Nat) : Int) := by omega
set_option maxRecDepth 4000 in
set_option maxHeartbeats 4000000 in
theorem c_X1_doActs_12 {l : Launch} {D : va_G} {c : Nat → ClassId} {H0 : Heap} {sa : Nat × Nat × (Nat → Int32)} {w : mW} {μ : mM} (hw : mWF w) (hT : mT w μ) {a1 : Nat} (hA1 : mAt w a1 231) {p2 : Int} (hp2 : 0 ≤ p2 ∧ p2 ≤ 2000) {p3 : Int} (hp3 : 0 ≤ p3 ∧ p3 ≤ 1000) {p4 : Int} (hp4 : 12 ≤ p4 ∧ p4 ≤ 12) (hIPC : PC w μ) (hIRT : RT μ) (hlen : p2 + 2 * p3 ≤ (w.2.2.1 a1 : Int)) (harg : ∀ i : Int, 0 ≤ i → i < p3 → 0 ≤ μ a1 (p2 + 2 * i + 1).toNat ∧ μ a1 (p2 + 2 * i + 1).toNat ≤ 1000000) : sC (gG l D c H0 sa) mX1_doActs 4 0 0 [.ref 21, .ref a1, iv p2, iv p3, iv p4] (mk w μ) (qV w [21006, 21007, 200004, 200006, 200007, 200008, 201999, 202999] μ (fun μ1 => True)) := by
  refine sC.of rfl (by decide) (le_t rfl) ?_
  refine mr_lvE (lv' := [(0, .ref 21), (1, .ref a1), (2, iv p2), (3, iv p3), (4, iv p4)]) rfl ?_
  obtain ⟨n_1, q2⟩ : ∃ n : Int, (w.2.2.1 a1 : Int) = n := ⟨_, rfl⟩
  have h3 : 0 ≤ n_1 ∧ n_1 ≤ 2000 := lnR (m := 2000) q2 hA1 rfl
  have h4 : p2 + 2 * p3 ≤ n_1 := lnLe q2 hlen
  refine mr_iconst (pc := 0) (z := 0) dX1_doActs_0 ?_
  refine mr_istore (pc := 1) (lv' := [(5, iv 0), (0, .ref 21), (1, .ref a1), (2, iv p2), (3, iv p3), (4, iv p4)]) dX1_doActs_1 (by decide) rfl ?_
  have L1991 : ∀ (nL1991 : Nat) (z1989 : Int) (μ1990 : mM), mT w μ1990 → mF [21006, 21007, 200004, 200006, 200007, 200008, 201999, 202999] w μ μ1990 → (0 ≤ z1989 ∧ z1989 ≤ 1000) → PC w μ1990 → RT μ1990 → (1001 - z1989) < (nL1991 : Int) → sV (gG l D c H0 sa) mX1_doActs (sRm 4 0 0) (sZ (gG l D c H0 sa) 0 0 (qV w [21006, 21007, 200004, 200006, 200007, 200008, 201999, 202999] μ (fun μ1 => True))) 3 [(0, .ref 21), (1, .ref a1), (2, iv p2), (3, iv p3), (4, iv p4), (5, iv z1989)] [] (mk w μ1990) 0 0 := by
    intro nL1991
    induction nL1991 with
    | zero => intro z1989 μ1990 T1993 F1994 h1992 I1996 I1997 h1998; exact ((vc_X1_doActs_12_1 h1998 h1992)).elim
    | succ nL1991 ih1999 =>
      intro z1989 μ1990 T1993 F1994 h1992 I1996 I1997 h1998
      refine mr_iload (pc := 3) (z := z1989) dX1_doActs_3 rfl ?_
      refine mr_iload_n (pc := 5) (z := p3) dX1_doActs_5 rfl rfl ?_
      refine mr_icmp_ge (pc := 6) (tgt := 266) dX1_doActs_6 (by decide) (r32 h1992 rfl) (r32 hp3 rfl) (fun h2000 => ?_) (fun h2000 => ?_)
      · exact mr_vret dX1_doActs_266 rfl (le_t rfl) (le_t rfl) T1993 (mF.call mF.refl F1994 rfl) trivial
      have h2001 : 0 ≤ z1989 ∧ z1989 ≤ 999 := (vc_X1_doActs_12_2 h2000 h4 h3 hp2 hp3 h1992)
      have h2002 : 1 ≤ p3 ∧ p3 ≤ 1000 := (vc_X1_doActs_12_3 h2000 h4 h3 hp2 hp3 h2001)
      refine sv_aload_n (pc := 9) dX1_doActs_9 rfl rfl ?_
      refine gf_X1_7 (pc := 10) dX1_doActs_10 wF_X1_50 (A_21 hw) T1993 fun z2003 q2004 h2005 => ?_
      refine mr_if_ne (pc := 13) (tgt := 266) dX1_doActs_13 (by decide) (r32 h2005 rfl) (fun h2006 => ?_) (fun h2006 => ?_)
      · have h2007 : 1 ≤ z2003 ∧ z2003 ≤ 2 := (vc_X10_coneOf_12 h2006 h2005)
        exact mr_vret dX1_doActs_266 rfl (le_t rfl) (le_t rfl) T1993 (mF.call mF.refl F1994 rfl) trivial
      have h2008 : 0 ≤ z2003 ∧ z2003 ≤ 0 := (vc_X10_coneOf_13 h2006 h2005)
      refine sv_aload_n (pc := 16) dX1_doActs_16 rfl rfl ?_
      refine mr_iload_n (pc := 17) (z := p2) dX1_doActs_17 rfl rfl ?_
      refine mr_iload (pc := 18) (z := z1989) dX1_doActs_18 rfl ?_
      refine mr_iconst (pc := 20) (z := 2) dX1_doActs_20 ?_
      refine mr_imul (pc := 21) (x := z1989) (y := 2) dX1_doActs_21 ?_
      refine mr_iadd (pc := 22) (x := p2) (y := (z1989 * 2)) dX1_doActs_22 ?_
      refine mr_iconst (pc := 23) (z := 1) dX1_doActs_23 ?_
      refine mr_iadd (pc := 24) (x := (p2 + (z1989 * 2))) (y := 1) dX1_doActs_24 ?_
      refine la_231 (pc := 25) dX1_doActs_25 hA1 T1993 (lnC q2 (vc_X1_doActs_12_6 h4 h2000 h3 hp2 h2002 h2001)) fun z2009 q2010 h2011 => ?_
      have h2012 : 0 ≤ z2009 ∧ z2009 ≤ 1000000 := argB harg (vc_X1_doActs_12_7 h2000 h4 h3 hp2 h2002 h2001) (vc_X1_doActs_12_8 h4 h2000 h3 hp2 h2002 h2001) (vc_X1_doActs_12_9 h4 h2000 h3 hp2 h2002 h2001) (((mF.call mF.refl F1994 rfl) : mF [21006, 21007, 200004, 200006, 200007, 200008, 201999, 202999] w μ μ1990).f hA1 rfl rfl) q2010
      refine mr_istore (pc := 26) (lv' := [(6, iv z2009), (0, .ref 21), (1, .ref a1), (2, iv p2), (3, iv p3), (4, iv p4), (5, iv z1989)]) dX1_doActs_26 (by decide) rfl ?_
      refine sv_aload_n (pc := 28) dX1_doActs_28 rfl rfl ?_
      refine gf_X1_6 (pc := 29) dX1_doActs_29 wF_X1_47 (A_21 hw) T1993 fun z2013 q2014 h2015 => ?_
      refine mr_sipush (pc := 32) (z := 500) dX1_doActs_32 (by decide) ?_
      refine mr_icmp_lt (pc := 35) (tgt := 44) dX1_doActs_35 (by decide) (r32 h2015 rfl) (r32 (rR (x := 500)) rfl) (fun h2016 => ?_) (fun h2016 => ?_)
      · have h2017 : 0 ≤ z2013 ∧ z2013 ≤ 499 := (vc_X1_doActs_12_10 h2016 h2015)
        refine sv_aload_n (pc := 44) dX1_doActs_44 rfl rfl ?_
        refine sv_dup (pc := 45) dX1_doActs_45 rfl ?_
        refine gk_X1_6 (pc := 46) dX1_doActs_46 wF_X1_47 (A_21 hw) q2014 ?_
        refine mr_iconst (pc := 49) (z := 1) dX1_doActs_49 ?_
        refine mr_iadd (pc := 50) (x := z2013) (y := 1) dX1_doActs_50 ?_
        refine pf_X1_6 (pc := 51) dX1_doActs_51 wF_X1_47 (A_21 hw) T1993 (rW (c := 0) (d := 500) (rAdd (e := 1) (f := 500) h2017 (rR (x := 1)) rfl) rfl) fun μ2018 u2019 T2020 => ?_
        refine sv_aload_n (pc := 54) dX1_doActs_54 rfl rfl ?_
        refine mr_iload_n (pc := 55) (z := p2) dX1_doActs_55 rfl rfl ?_
        refine mr_iload (pc := 56) (z := z1989) dX1_doActs_56 rfl ?_
        refine mr_iconst (pc := 58) (z := 2) dX1_doActs_58 ?_
        refine mr_imul (pc := 59) (x := z1989) (y := 2) dX1_doActs_59 ?_
        refine mr_iadd (pc := 60) (x := p2) (y := (z1989 * 2)) dX1_doActs_60 ?_
        refine la_231 (pc := 61) dX1_doActs_61 hA1 T2020 (lnC q2 (vc_X1_doActs_12_11 h4 h2000 h3 hp2 h2002 h2001)) fun z2021 q2022 h2023 => ?_
        by_cases h2024 : z2021 = 12
        · refine mr_tableIn (pc := 62) (v := 12) (tgt := 184) dX1_doActs_62 h2024 rfl rfl (by decide) ?_
          have h2025 : 12 ≤ z2021 ∧ z2021 ≤ 12 := (vc_X1_doActs_12_12 h2024 h2023)
          refine sv_aload_n (pc := 184) dX1_doActs_184 rfl rfl ?_
          refine gf_X1_2 (pc := 185) dX1_doActs_185 wF_X1_25 (A_21 hw) T2020 (RT.keep I1997 hw ((mF.up mF.refl (A_21 hw) u2019 rfl) : mF [21006] w μ1990 μ2018) rfl) fun b2026 q2027 A2028 => ?_
          refine mr_iload (pc := 188) (z := z2009) dX1_doActs_188 rfl ?_
          refine pf_X7_4 (pc := 190) dX1_doActs_190 wF_X1_105 A2028 T2020 (rW (c := (-2147483648)) (d := 2147483647) h2012 rfl) fun μ2029 u2030 T2031 => ?_
          refine sv_goto (pc := 193) (tgt := 260) dX1_doActs_193 (by decide) ?_
          refine mr_iinc (pc := 260) (lv' := [(5, iv (z1989 + 1)), (6, iv z2009), (0, .ref 21), (1, .ref a1), (2, iv p2), (3, iv p3), (4, iv p4)]) dX1_doActs_260 rfl (by decide) rfl ?_
          refine sv_goto (pc := 263) (tgt := 3) dX1_doActs_263 (by decide) ?_
          refine mr_lvS (lv' := [(0, .ref 21), (1, .ref a1), (2, iv p2), (3, iv p3), (4, iv p4), (5, iv (z1989 + 1))]) (List.forall_mem_cons.mpr ⟨rfl, List.forall_mem_cons.mpr ⟨rfl, List.forall_mem_cons.mpr ⟨rfl, List.forall_mem_cons.mpr ⟨rfl, List.forall_mem_cons.mpr ⟨rfl, List.forall_mem_cons.mpr ⟨rfl, fun _ h => absurd h List.not_mem_nil⟩⟩⟩⟩⟩⟩) ?_
          exact ih1999 (z1989 + 1) μ2029 T2031 (mF.up (mF.up (mF.call mF.refl F1994 rfl) (A_21 hw) u2019 rfl) A2028 u2030 rfl) (rW (c := 0) (d := 1000) (rAdd (e := 1) (f := 1000) h2001 (rR (x := 1)) rfl) rfl) (PC.keep I1996 hw ((mF.up (mF.up mF.refl (A_21 hw) u2019 rfl) A2028 u2030 rfl) : mF [21006, 200004] w μ1990 μ2029) rfl) (RT.keep I1997 hw ((mF.up (mF.up mF.refl (A_21 hw) u2019 rfl) A2028 u2030 rfl) : mF [21006, 200004] w μ1990 μ2029) rfl) (vc_X1_doActs_12_13 (nS h1998) h2000 h4 h3 hp2 h2002 h2001)
        by_cases h2032 : z2021 = 13
        · refine mr_tableIn (pc := 62) (v := 13) (tgt := 196) dX1_doActs_62 h2032 rfl rfl (by decide) ?_
          have h2033 : 13 ≤ z2021 ∧ z2021 ≤ 13 := (vc_X1_doActs_12_14 h2032 h2024 h2023)
          refine sv_aload_n (pc := 196) dX1_doActs_196 rfl rfl ?_
          refine gf_X1_2 (pc := 197) dX1_doActs_197 wF_X1_25 (A_21 hw) T2020 (RT.keep I1997 hw ((mF.up mF.refl (A_21 hw) u2019 rfl) : mF [21006] w μ1990 μ2018) rfl) fun b2034 q2035 A2036 => ?_
          refine mr_iload (pc := 200) (z := z2009) dX1_doActs_200 rfl ?_
          refine pf_X7_6 (pc := 202) dX1_doActs_202 wF_X1_108 A2036 T2020 (rW (c := (-2147483648)) (d := 2147483647) h2012 rfl) fun μ2037 u2038 T2039 => ?_
          refine sv_goto (pc := 205) (tgt := 260) dX1_doActs_205 (by decide) ?_
          refine mr_iinc (pc := 260) (lv' := [(5, iv (z1989 + 1)), (6, iv z2009), (0, .ref 21), (1, .ref a1), (2, iv p2), (3, iv p3), (4, iv p4)]) dX1_doActs_260 rfl (by decide) rfl ?_
          refine sv_goto (pc := 263) (tgt := 3) dX1_doActs_263 (by decide) ?_
          refine mr_lvS (lv' := [(0, .ref 21), (1, .ref a1), (2, iv p2), (3, iv p3), (4, iv p4), (5, iv (z1989 + 1))]) (List.forall_mem_cons.mpr ⟨rfl, List.forall_mem_cons.mpr ⟨rfl, List.forall_mem_cons.mpr ⟨rfl, List.forall_mem_cons.mpr ⟨rfl, List.forall_mem_cons.mpr ⟨rfl, List.forall_mem_cons.mpr ⟨rfl, fun _ h => absurd h List.not_mem_nil⟩⟩⟩⟩⟩⟩) ?_
          exact ih1999 (z1989 + 1) μ2037 T2039 (mF.up (mF.up (mF.call mF.refl F1994 rfl) (A_21 hw) u2019 rfl) A2036 u2038 rfl) (rW (c := 0) (d := 1000) (rAdd (e := 1) (f := 1000) h2001 (rR (x := 1)) rfl) rfl) (PC.keep I1996 hw ((mF.up (mF.up mF.refl (A_21 hw) u2019 rfl) A2036 u2038 rfl) : mF [21006, 200006] w μ1990 μ2037) rfl) (RT.keep I1997 hw ((mF.up (mF.up mF.refl (A_21 hw) u2019 rfl) A2036 u2038 rfl) : mF [21006, 200006] w μ1990 μ2037) rfl) (vc_X1_doActs_12_13 (nS h1998) h2000 h4 h3 hp2 h2002 h2001)
        by_cases h2040 : z2021 = 14
        · refine mr_tableIn (pc := 62) (v := 14) (tgt := 260) dX1_doActs_62 h2040 rfl rfl (by decide) ?_
          have h2041 : 14 ≤ z2021 ∧ z2021 ≤ 14 := (vc_X1_doActs_12_15 h2040 h2024 h2032 h2023)
          refine mr_iinc (pc := 260) (lv' := [(5, iv (z1989 + 1)), (6, iv z2009), (0, .ref 21), (1, .ref a1), (2, iv p2), (3, iv p3), (4, iv p4)]) dX1_doActs_260 rfl (by decide) rfl ?_
          refine sv_goto (pc := 263) (tgt := 3) dX1_doActs_263 (by decide) ?_
          refine mr_lvS (lv' := [(0, .ref 21), (1, .ref a1), (2, iv p2), (3, iv p3), (4, iv p4), (5, iv (z1989 + 1))]) (List.forall_mem_cons.mpr ⟨rfl, List.forall_mem_cons.mpr ⟨rfl, List.forall_mem_cons.mpr ⟨rfl, List.forall_mem_cons.mpr ⟨rfl, List.forall_mem_cons.mpr ⟨rfl, List.forall_mem_cons.mpr ⟨rfl, fun _ h => absurd h List.not_mem_nil⟩⟩⟩⟩⟩⟩) ?_
          exact ih1999 (z1989 + 1) μ2018 T2020 (mF.up (mF.call mF.refl F1994 rfl) (A_21 hw) u2019 rfl) (rW (c := 0) (d := 1000) (rAdd (e := 1) (f := 1000) h2001 (rR (x := 1)) rfl) rfl) (PC.keep I1996 hw ((mF.up mF.refl (A_21 hw) u2019 rfl) : mF [21006] w μ1990 μ2018) rfl) (RT.keep I1997 hw ((mF.up mF.refl (A_21 hw) u2019 rfl) : mF [21006] w μ1990 μ2018) rfl) (vc_X1_doActs_12_13 (nS h1998) h2000 h4 h3 hp2 h2002 h2001)
        by_cases h2042 : z2021 = 15
        · refine mr_tableIn (pc := 62) (v := 15) (tgt := 260) dX1_doActs_62 h2042 rfl rfl (by decide) ?_
          have h2043 : 15 ≤ z2021 ∧ z2021 ≤ 15 := (vc_X1_doActs_12_16 h2042 h2024 h2032 h2040 h2023)
          refine mr_iinc (pc := 260) (lv' := [(5, iv (z1989 + 1)), (6, iv z2009), (0, .ref 21), (1, .ref a1), (2, iv p2), (3, iv p3), (4, iv p4)]) dX1_doActs_260 rfl (by decide) rfl ?_
          refine sv_goto (pc := 263) (tgt := 3) dX1_doActs_263 (by decide) ?_
          refine mr_lvS (lv' := [(0, .ref 21), (1, .ref a1), (2, iv p2), (3, iv p3), (4, iv p4), (5, iv (z1989 + 1))]) (List.forall_mem_cons.mpr ⟨rfl, List.forall_mem_cons.mpr ⟨rfl, List.forall_mem_cons.mpr ⟨rfl, List.forall_mem_cons.mpr ⟨rfl, List.forall_mem_cons.mpr ⟨rfl, List.forall_mem_cons.mpr ⟨rfl, fun _ h => absurd h List.not_mem_nil⟩⟩⟩⟩⟩⟩) ?_
          exact ih1999 (z1989 + 1) μ2018 T2020 (mF.up (mF.call mF.refl F1994 rfl) (A_21 hw) u2019 rfl) (rW (c := 0) (d := 1000) (rAdd (e := 1) (f := 1000) h2001 (rR (x := 1)) rfl) rfl) (PC.keep I1996 hw ((mF.up mF.refl (A_21 hw) u2019 rfl) : mF [21006] w μ1990 μ2018) rfl) (RT.keep I1997 hw ((mF.up mF.refl (A_21 hw) u2019 rfl) : mF [21006] w μ1990 μ2018) rfl) (vc_X1_doActs_12_13 (nS h1998) h2000 h4 h3 hp2 h2002 h2001)
        by_cases h2044 : z2021 = 16
        · refine mr_tableIn (pc := 62) (v := 16) (tgt := 260) dX1_doActs_62 h2044 rfl rfl (by decide) ?_
          have h2045 : 16 ≤ z2021 ∧ z2021 ≤ 16 := (vc_X1_doActs_12_17 h2044 h2024 h2032 h2040 h2042 h2023)
          refine mr_iinc (pc := 260) (lv' := [(5, iv (z1989 + 1)), (6, iv z2009), (0, .ref 21), (1, .ref a1), (2, iv p2), (3, iv p3), (4, iv p4)]) dX1_doActs_260 rfl (by decide) rfl ?_
          refine sv_goto (pc := 263) (tgt := 3) dX1_doActs_263 (by decide) ?_
          refine mr_lvS (lv' := [(0, .ref 21), (1, .ref a1), (2, iv p2), (3, iv p3), (4, iv p4), (5, iv (z1989 + 1))]) (List.forall_mem_cons.mpr ⟨rfl, List.forall_mem_cons.mpr ⟨rfl, List.forall_mem_cons.mpr ⟨rfl, List.forall_mem_cons.mpr ⟨rfl, List.forall_mem_cons.mpr ⟨rfl, List.forall_mem_cons.mpr ⟨rfl, fun _ h => absurd h List.not_mem_nil⟩⟩⟩⟩⟩⟩) ?_
          exact ih1999 (z1989 + 1) μ2018 T2020 (mF.up (mF.call mF.refl F1994 rfl) (A_21 hw) u2019 rfl) (rW (c := 0) (d := 1000) (rAdd (e := 1) (f := 1000) h2001 (rR (x := 1)) rfl) rfl) (PC.keep I1996 hw ((mF.up mF.refl (A_21 hw) u2019 rfl) : mF [21006] w μ1990 μ2018) rfl) (RT.keep I1997 hw ((mF.up mF.refl (A_21 hw) u2019 rfl) : mF [21006] w μ1990 μ2018) rfl) (vc_X1_doActs_12_13 (nS h1998) h2000 h4 h3 hp2 h2002 h2001)
        by_cases h2046 : z2021 = 17
        · refine mr_tableIn (pc := 62) (v := 17) (tgt := 260) dX1_doActs_62 h2046 rfl rfl (by decide) ?_
          have h2047 : 17 ≤ z2021 ∧ z2021 ≤ 17 := (vc_X1_doActs_12_18 h2046 h2024 h2032 h2040 h2042 h2044 h2023)
          refine mr_iinc (pc := 260) (lv' := [(5, iv (z1989 + 1)), (6, iv z2009), (0, .ref 21), (1, .ref a1), (2, iv p2), (3, iv p3), (4, iv p4)]) dX1_doActs_260 rfl (by decide) rfl ?_
          refine sv_goto (pc := 263) (tgt := 3) dX1_doActs_263 (by decide) ?_
          refine mr_lvS (lv' := [(0, .ref 21), (1, .ref a1), (2, iv p2), (3, iv p3), (4, iv p4), (5, iv (z1989 + 1))]) (List.forall_mem_cons.mpr ⟨rfl, List.forall_mem_cons.mpr ⟨rfl, List.forall_mem_cons.mpr ⟨rfl, List.forall_mem_cons.mpr ⟨rfl, List.forall_mem_cons.mpr ⟨rfl, List.forall_mem_cons.mpr ⟨rfl, fun _ h => absurd h List.not_mem_nil⟩⟩⟩⟩⟩⟩) ?_
          exact ih1999 (z1989 + 1) μ2018 T2020 (mF.up (mF.call mF.refl F1994 rfl) (A_21 hw) u2019 rfl) (rW (c := 0) (d := 1000) (rAdd (e := 1) (f := 1000) h2001 (rR (x := 1)) rfl) rfl) (PC.keep I1996 hw ((mF.up mF.refl (A_21 hw) u2019 rfl) : mF [21006] w μ1990 μ2018) rfl) (RT.keep I1997 hw ((mF.up mF.refl (A_21 hw) u2019 rfl) : mF [21006] w μ1990 μ2018) rfl) (vc_X1_doActs_12_13 (nS h1998) h2000 h4 h3 hp2 h2002 h2001)
        by_cases h2048 : z2021 = 18
        · refine mr_tableIn (pc := 62) (v := 18) (tgt := 260) dX1_doActs_62 h2048 rfl rfl (by decide) ?_
          have h2049 : 18 ≤ z2021 ∧ z2021 ≤ 18 := (vc_X1_doActs_12_19 h2048 h2024 h2032 h2040 h2042 h2044 h2046 h2023)
          refine mr_iinc (pc := 260) (lv' := [(5, iv (z1989 + 1)), (6, iv z2009), (0, .ref 21), (1, .ref a1), (2, iv p2), (3, iv p3), (4, iv p4)]) dX1_doActs_260 rfl (by decide) rfl ?_
          refine sv_goto (pc := 263) (tgt := 3) dX1_doActs_263 (by decide) ?_
          refine mr_lvS (lv' := [(0, .ref 21), (1, .ref a1), (2, iv p2), (3, iv p3), (4, iv p4), (5, iv (z1989 + 1))]) (List.forall_mem_cons.mpr ⟨rfl, List.forall_mem_cons.mpr ⟨rfl, List.forall_mem_cons.mpr ⟨rfl, List.forall_mem_cons.mpr ⟨rfl, List.forall_mem_cons.mpr ⟨rfl, List.forall_mem_cons.mpr ⟨rfl, fun _ h => absurd h List.not_mem_nil⟩⟩⟩⟩⟩⟩) ?_
          exact ih1999 (z1989 + 1) μ2018 T2020 (mF.up (mF.call mF.refl F1994 rfl) (A_21 hw) u2019 rfl) (rW (c := 0) (d := 1000) (rAdd (e := 1) (f := 1000) h2001 (rR (x := 1)) rfl) rfl) (PC.keep I1996 hw ((mF.up mF.refl (A_21 hw) u2019 rfl) : mF [21006] w μ1990 μ2018) rfl) (RT.keep I1997 hw ((mF.up mF.refl (A_21 hw) u2019 rfl) : mF [21006] w μ1990 μ2018) rfl) (vc_X1_doActs_12_13 (nS h1998) h2000 h4 h3 hp2 h2002 h2001)
        by_cases h2050 : z2021 = 19
        · refine mr_tableIn (pc := 62) (v := 19) (tgt := 260) dX1_doActs_62 h2050 rfl rfl (by decide) ?_
          have h2051 : 19 ≤ z2021 ∧ z2021 ≤ 19 := (vc_X1_doActs_12_20 h2050 h2024 h2032 h2040 h2042 h2044 h2046 h2048 h2023)
          refine mr_iinc (pc := 260) (lv' := [(5, iv (z1989 + 1)), (6, iv z2009), (0, .ref 21), (1, .ref a1), (2, iv p2), (3, iv p3), (4, iv p4)]) dX1_doActs_260 rfl (by decide) rfl ?_
          refine sv_goto (pc := 263) (tgt := 3) dX1_doActs_263 (by decide) ?_
          refine mr_lvS (lv' := [(0, .ref 21), (1, .ref a1), (2, iv p2), (3, iv p3), (4, iv p4), (5, iv (z1989 + 1))]) (List.forall_mem_cons.mpr ⟨rfl, List.forall_mem_cons.mpr ⟨rfl, List.forall_mem_cons.mpr ⟨rfl, List.forall_mem_cons.mpr ⟨rfl, List.forall_mem_cons.mpr ⟨rfl, List.forall_mem_cons.mpr ⟨rfl, fun _ h => absurd h List.not_mem_nil⟩⟩⟩⟩⟩⟩) ?_
          exact ih1999 (z1989 + 1) μ2018 T2020 (mF.up (mF.call mF.refl F1994 rfl) (A_21 hw) u2019 rfl) (rW (c := 0) (d := 1000) (rAdd (e := 1) (f := 1000) h2001 (rR (x := 1)) rfl) rfl) (PC.keep I1996 hw ((mF.up mF.refl (A_21 hw) u2019 rfl) : mF [21006] w μ1990 μ2018) rfl) (RT.keep I1997 hw ((mF.up mF.refl (A_21 hw) u2019 rfl) : mF [21006] w μ1990 μ2018) rfl) (vc_X1_doActs_12_13 (nS h1998) h2000 h4 h3 hp2 h2002 h2001)
        by_cases h2052 : z2021 = 20
        · refine mr_tableIn (pc := 62) (v := 20) (tgt := 260) dX1_doActs_62 h2052 rfl rfl (by decide) ?_
          have h2053 : 20 ≤ z2021 ∧ z2021 ≤ 20 := (vc_X1_doActs_12_21 h2052 h2032 h2040 h2042 h2044 h2046 h2048 h2050 h2023)
          refine mr_iinc (pc := 260) (lv' := [(5, iv (z1989 + 1)), (6, iv z2009), (0, .ref 21), (1, .ref a1), (2, iv p2), (3, iv p3), (4, iv p4)]) dX1_doActs_260 rfl (by decide) rfl ?_
          refine sv_goto (pc := 263) (tgt := 3) dX1_doActs_263 (by decide) ?_
          refine mr_lvS (lv' := [(0, .ref 21), (1, .ref a1), (2, iv p2), (3, iv p3), (4, iv p4), (5, iv (z1989 + 1))]) (List.forall_mem_cons.mpr ⟨rfl, List.forall_mem_cons.mpr ⟨rfl, List.forall_mem_cons.mpr ⟨rfl, List.forall_mem_cons.mpr ⟨rfl, List.forall_mem_cons.mpr ⟨rfl, List.forall_mem_cons.mpr ⟨rfl, fun _ h => absurd h List.not_mem_nil⟩⟩⟩⟩⟩⟩) ?_
          exact ih1999 (z1989 + 1) μ2018 T2020 (mF.up (mF.call mF.refl F1994 rfl) (A_21 hw) u2019 rfl) (rW (c := 0) (d := 1000) (rAdd (e := 1) (f := 1000) h2001 (rR (x := 1)) rfl) rfl) (PC.keep I1996 hw ((mF.up mF.refl (A_21 hw) u2019 rfl) : mF [21006] w μ1990 μ2018) rfl) (RT.keep I1997 hw ((mF.up mF.refl (A_21 hw) u2019 rfl) : mF [21006] w μ1990 μ2018) rfl) (vc_X1_doActs_12_13 (nS h1998) h2000 h4 h3 hp2 h2002 h2001)
        by_cases h2054 : z2021 = 21
        · refine mr_tableIn (pc := 62) (v := 21) (tgt := 260) dX1_doActs_62 h2054 rfl rfl (by decide) ?_
          have h2055 : 21 ≤ z2021 ∧ z2021 ≤ 21 := (vc_X1_doActs_12_22 h2054 h2040 h2042 h2044 h2046 h2048 h2050 h2052 h2023)
          refine mr_iinc (pc := 260) (lv' := [(5, iv (z1989 + 1)), (6, iv z2009), (0, .ref 21), (1, .ref a1), (2, iv p2), (3, iv p3), (4, iv p4)]) dX1_doActs_260 rfl (by decide) rfl ?_
          refine sv_goto (pc := 263) (tgt := 3) dX1_doActs_263 (by decide) ?_
          refine mr_lvS (lv' := [(0, .ref 21), (1, .ref a1), (2, iv p2), (3, iv p3), (4, iv p4), (5, iv (z1989 + 1))]) (List.forall_mem_cons.mpr ⟨rfl, List.forall_mem_cons.mpr ⟨rfl, List.forall_mem_cons.mpr ⟨rfl, List.forall_mem_cons.mpr ⟨rfl, List.forall_mem_cons.mpr ⟨rfl, List.forall_mem_cons.mpr ⟨rfl, fun _ h => absurd h List.not_mem_nil⟩⟩⟩⟩⟩⟩) ?_
          exact ih1999 (z1989 + 1) μ2018 T2020 (mF.up (mF.call mF.refl F1994 rfl) (A_21 hw) u2019 rfl) (rW (c := 0) (d := 1000) (rAdd (e := 1) (f := 1000) h2001 (rR (x := 1)) rfl) rfl) (PC.keep I1996 hw ((mF.up mF.refl (A_21 hw) u2019 rfl) : mF [21006] w μ1990 μ2018) rfl) (RT.keep I1997 hw ((mF.up mF.refl (A_21 hw) u2019 rfl) : mF [21006] w μ1990 μ2018) rfl) (vc_X1_doActs_12_13 (nS h1998) h2000 h4 h3 hp2 h2002 h2001)
        by_cases h2056 : z2021 = 22
        · refine mr_tableIn (pc := 62) (v := 22) (tgt := 260) dX1_doActs_62 h2056 rfl rfl (by decide) ?_
          have h2057 : 22 ≤ z2021 ∧ z2021 ≤ 22 := (vc_X1_doActs_12_23 h2056 h2042 h2044 h2046 h2048 h2050 h2052 h2054 h2023)
          refine mr_iinc (pc := 260) (lv' := [(5, iv (z1989 + 1)), (6, iv z2009), (0, .ref 21), (1, .ref a1), (2, iv p2), (3, iv p3), (4, iv p4)]) dX1_doActs_260 rfl (by decide) rfl ?_
          refine sv_goto (pc := 263) (tgt := 3) dX1_doActs_263 (by decide) ?_
          refine mr_lvS (lv' := [(0, .ref 21), (1, .ref a1), (2, iv p2), (3, iv p3), (4, iv p4), (5, iv (z1989 + 1))]) (List.forall_mem_cons.mpr ⟨rfl, List.forall_mem_cons.mpr ⟨rfl, List.forall_mem_cons.mpr ⟨rfl, List.forall_mem_cons.mpr ⟨rfl, List.forall_mem_cons.mpr ⟨rfl, List.forall_mem_cons.mpr ⟨rfl, fun _ h => absurd h List.not_mem_nil⟩⟩⟩⟩⟩⟩) ?_
          exact ih1999 (z1989 + 1) μ2018 T2020 (mF.up (mF.call mF.refl F1994 rfl) (A_21 hw) u2019 rfl) (rW (c := 0) (d := 1000) (rAdd (e := 1) (f := 1000) h2001 (rR (x := 1)) rfl) rfl) (PC.keep I1996 hw ((mF.up mF.refl (A_21 hw) u2019 rfl) : mF [21006] w μ1990 μ2018) rfl) (RT.keep I1997 hw ((mF.up mF.refl (A_21 hw) u2019 rfl) : mF [21006] w μ1990 μ2018) rfl) (vc_X1_doActs_12_13 (nS h1998) h2000 h4 h3 hp2 h2002 h2001)
        by_cases h2058 : z2021 = 23
        · refine mr_tableIn (pc := 62) (v := 23) (tgt := 144) dX1_doActs_62 h2058 rfl rfl (by decide) ?_
          have h2059 : 23 ≤ z2021 ∧ z2021 ≤ 23 := (vc_X1_doActs_12_24 h2058 h2044 h2046 h2048 h2050 h2052 h2054 h2056 h2023)
          refine sv_aload_n (pc := 144) dX1_doActs_144 rfl rfl ?_
          refine mr_iconst (pc := 145) (z := 1) dX1_doActs_145 ?_
          refine pf_X1_7 (pc := 146) dX1_doActs_146 wF_X1_50 (A_21 hw) T2020 (rW (c := 0) (d := 2) (rR (x := 1)) rfl) fun μ2060 u2061 T2062 => ?_
          refine sv_goto (pc := 149) (tgt := 260) dX1_doActs_149 (by decide) ?_
          refine mr_iinc (pc := 260) (lv' := [(5, iv (z1989 + 1)), (6, iv z2009), (0, .ref 21), (1, .ref a1), (2, iv p2), (3, iv p3), (4, iv p4)]) dX1_doActs_260 rfl (by decide) rfl ?_
          refine sv_goto (pc := 263) (tgt := 3) dX1_doActs_263 (by decide) ?_
          refine mr_lvS (lv' := [(0, .ref 21), (1, .ref a1), (2, iv p2), (3, iv p3), (4, iv p4), (5, iv (z1989 + 1))]) (List.forall_mem_cons.mpr ⟨rfl, List.forall_mem_cons.mpr ⟨rfl, List.forall_mem_cons.mpr ⟨rfl, List.forall_mem_cons.mpr ⟨rfl, List.forall_mem_cons.mpr ⟨rfl, List.forall_mem_cons.mpr ⟨rfl, fun _ h => absurd h List.not_mem_nil⟩⟩⟩⟩⟩⟩) ?_
          exact ih1999 (z1989 + 1) μ2060 T2062 (mF.up (mF.up (mF.call mF.refl F1994 rfl) (A_21 hw) u2019 rfl) (A_21 hw) u2061 rfl) (rW (c := 0) (d := 1000) (rAdd (e := 1) (f := 1000) h2001 (rR (x := 1)) rfl) rfl) (PC.keep I1996 hw ((mF.up (mF.up mF.refl (A_21 hw) u2019 rfl) (A_21 hw) u2061 rfl) : mF [21006, 21007] w μ1990 μ2060) rfl) (RT.keep I1997 hw ((mF.up (mF.up mF.refl (A_21 hw) u2019 rfl) (A_21 hw) u2061 rfl) : mF [21006, 21007] w μ1990 μ2060) rfl) (vc_X1_doActs_12_13 (nS h1998) h2000 h4 h3 hp2 h2002 h2001)
        by_cases h2063 : z2021 = 24
        · refine mr_tableIn (pc := 62) (v := 24) (tgt := 152) dX1_doActs_62 h2063 rfl rfl (by decide) ?_
          have h2064 : 24 ≤ z2021 ∧ z2021 ≤ 24 := (vc_X1_doActs_12_25 h2063 h2046 h2048 h2050 h2052 h2054 h2056 h2058 h2023)
          refine sv_aload_n (pc := 152) dX1_doActs_152 rfl rfl ?_
          refine mr_iconst (pc := 153) (z := 2) dX1_doActs_153 ?_
          refine pf_X1_7 (pc := 154) dX1_doActs_154 wF_X1_50 (A_21 hw) T2020 (rW (c := 0) (d := 2) (rR (x := 2)) rfl) fun μ2065 u2066 T2067 => ?_
          refine sv_goto (pc := 157) (tgt := 260) dX1_doActs_157 (by decide) ?_
          refine mr_iinc (pc := 260) (lv' := [(5, iv (z1989 + 1)), (6, iv z2009), (0, .ref 21), (1, .ref a1), (2, iv p2), (3, iv p3), (4, iv p4)]) dX1_doActs_260 rfl (by decide) rfl ?_
          refine sv_goto (pc := 263) (tgt := 3) dX1_doActs_263 (by decide) ?_
          refine mr_lvS (lv' := [(0, .ref 21), (1, .ref a1), (2, iv p2), (3, iv p3), (4, iv p4), (5, iv (z1989 + 1))]) (List.forall_mem_cons.mpr ⟨rfl, List.forall_mem_cons.mpr ⟨rfl, List.forall_mem_cons.mpr ⟨rfl, List.forall_mem_cons.mpr ⟨rfl, List.forall_mem_cons.mpr ⟨rfl, List.forall_mem_cons.mpr ⟨rfl, fun _ h => absurd h List.not_mem_nil⟩⟩⟩⟩⟩⟩) ?_
          exact ih1999 (z1989 + 1) μ2065 T2067 (mF.up (mF.up (mF.call mF.refl F1994 rfl) (A_21 hw) u2019 rfl) (A_21 hw) u2066 rfl) (rW (c := 0) (d := 1000) (rAdd (e := 1) (f := 1000) h2001 (rR (x := 1)) rfl) rfl) (PC.keep I1996 hw ((mF.up (mF.up mF.refl (A_21 hw) u2019 rfl) (A_21 hw) u2066 rfl) : mF [21006, 21007] w μ1990 μ2065) rfl) (RT.keep I1997 hw ((mF.up (mF.up mF.refl (A_21 hw) u2019 rfl) (A_21 hw) u2066 rfl) : mF [21006, 21007] w μ1990 μ2065) rfl) (vc_X1_doActs_12_13 (nS h1998) h2000 h4 h3 hp2 h2002 h2001)
        by_cases h2068 : z2021 = 25
        · refine mr_tableIn (pc := 62) (v := 25) (tgt := 160) dX1_doActs_62 h2068 rfl rfl (by decide) ?_
          have h2069 : 25 ≤ z2021 ∧ z2021 ≤ 25 := (vc_X1_doActs_12_26 h2068 h2048 h2050 h2052 h2054 h2056 h2058 h2063 h2023)
          refine sv_aload_n (pc := 160) dX1_doActs_160 rfl rfl ?_
          refine gf_X1_2 (pc := 161) dX1_doActs_161 wF_X1_25 (A_21 hw) T2020 (RT.keep I1997 hw ((mF.up mF.refl (A_21 hw) u2019 rfl) : mF [21006] w μ1990 μ2018) rfl) fun b2070 q2071 A2072 => ?_
          refine mr_iload (pc := 164) (z := z2009) dX1_doActs_164 rfl ?_
          refine mr_cVV (pc := 166) (c_X7_addMark hw T2020 A2072 (rW (c := (-2147483648)) (d := 2147483647) h2012 rfl)) (gOk _ _ _ _ _) dX1_doActs_166 (tX7_addMark _ _ _ _ _) ⟨wV_X7_addMark, wL_X7_addMark⟩ wM_X1_124 (gCX7 _ _ _ _ _) rfl A2072 rfl ⟨le_t rfl, le_t rfl⟩ ⟨le_t rfl, le_t rfl⟩ rfl (le_t rfl) fun μ2073 T2074 F2075 h2076 => ?_
          refine sv_goto (pc := 169) (tgt := 260) dX1_doActs_169 (by decide) ?_
          refine mr_iinc (pc := 260) (lv' := [(5, iv (z1989 + 1)), (6, iv z2009), (0, .ref 21), (1, .ref a1), (2, iv p2), (3, iv p3), (4, iv p4)]) dX1_doActs_260 rfl (by decide) rfl ?_
          refine sv_goto (pc := 263) (tgt := 3) dX1_doActs_263 (by decide) ?_
          refine mr_lvS (lv' := [(0, .ref 21), (1, .ref a1), (2, iv p2), (3, iv p3), (4, iv p4), (5, iv (z1989 + 1))]) (List.forall_mem_cons.mpr ⟨rfl, List.forall_mem_cons.mpr ⟨rfl, List.forall_mem_cons.mpr ⟨rfl, List.forall_mem_cons.mpr ⟨rfl, List.forall_mem_cons.mpr ⟨rfl, List.forall_mem_cons.mpr ⟨rfl, fun _ h => absurd h List.not_mem_nil⟩⟩⟩⟩⟩⟩) ?_
          exact ih1999 (z1989 + 1) μ2073 T2074 (mF.call (mF.up (mF.call mF.refl F1994 rfl) (A_21 hw) u2019 rfl) F2075 rfl) (rW (c := 0) (d := 1000) (rAdd (e := 1) (f := 1000) h2001 (rR (x := 1)) rfl) rfl) (PC.keep I1996 hw ((mF.call (mF.up mF.refl (A_21 hw) u2019 rfl) F2075 rfl) : mF [21006, 200008, 202999] w μ1990 μ2073) rfl) (RT.keep I1997 hw ((mF.call (mF.up mF.refl (A_21 hw) u2019 rfl) F2075 rfl) : mF [21006, 200008, 202999] w μ1990 μ2073) rfl) (vc_X1_doActs_12_13 (nS h1998) h2000 h4 h3 hp2 h2002 h2001)
        by_cases h2077 : z2021 = 26
        · refine mr_tableIn (pc := 62) (v := 26) (tgt := 172) dX1_doActs_62 h2077 rfl rfl (by decide) ?_
          have h2078 : 26 ≤ z2021 ∧ z2021 ≤ 26 := (vc_X1_doActs_12_27 h2077 h2050 h2052 h2054 h2056 h2058 h2063 h2068 h2023)
          refine sv_aload_n (pc := 172) dX1_doActs_172 rfl rfl ?_
          refine gf_X1_2 (pc := 173) dX1_doActs_173 wF_X1_25 (A_21 hw) T2020 (RT.keep I1997 hw ((mF.up mF.refl (A_21 hw) u2019 rfl) : mF [21006] w μ1990 μ2018) rfl) fun b2079 q2080 A2081 => ?_
          refine mr_iload (pc := 176) (z := z2009) dX1_doActs_176 rfl ?_
          refine mr_cVV (pc := 178) (c_X7_dropMark hw T2020 A2081 (rW (c := (-2147483648)) (d := 2147483647) h2012 rfl)) (gOk _ _ _ _ _) dX1_doActs_178 (tX7_dropMark _ _ _ _ _) ⟨wV_X7_dropMark, wL_X7_dropMark⟩ wM_X1_128 (gCX7 _ _ _ _ _) rfl A2081 rfl ⟨le_t rfl, le_t rfl⟩ ⟨le_t rfl, le_t rfl⟩ rfl (le_t rfl) fun μ2082 T2083 F2084 h2085 => ?_
          refine sv_goto (pc := 181) (tgt := 260) dX1_doActs_181 (by decide) ?_
          refine mr_iinc (pc := 260) (lv' := [(5, iv (z1989 + 1)), (6, iv z2009), (0, .ref 21), (1, .ref a1), (2, iv p2), (3, iv p3), (4, iv p4)]) dX1_doActs_260 rfl (by decide) rfl ?_
          refine sv_goto (pc := 263) (tgt := 3) dX1_doActs_263 (by decide) ?_
          refine mr_lvS (lv' := [(0, .ref 21), (1, .ref a1), (2, iv p2), (3, iv p3), (4, iv p4), (5, iv (z1989 + 1))]) (List.forall_mem_cons.mpr ⟨rfl, List.forall_mem_cons.mpr ⟨rfl, List.forall_mem_cons.mpr ⟨rfl, List.forall_mem_cons.mpr ⟨rfl, List.forall_mem_cons.mpr ⟨rfl, List.forall_mem_cons.mpr ⟨rfl, fun _ h => absurd h List.not_mem_nil⟩⟩⟩⟩⟩⟩) ?_
          exact ih1999 (z1989 + 1) μ2082 T2083 (mF.call (mF.up (mF.call mF.refl F1994 rfl) (A_21 hw) u2019 rfl) F2084 rfl) (rW (c := 0) (d := 1000) (rAdd (e := 1) (f := 1000) h2001 (rR (x := 1)) rfl) rfl) (PC.keep I1996 hw ((mF.call (mF.up mF.refl (A_21 hw) u2019 rfl) F2084 rfl) : mF [21006, 200008, 202999] w μ1990 μ2082) rfl) (RT.keep I1997 hw ((mF.call (mF.up mF.refl (A_21 hw) u2019 rfl) F2084 rfl) : mF [21006, 200008, 202999] w μ1990 μ2082) rfl) (vc_X1_doActs_12_13 (nS h1998) h2000 h4 h3 hp2 h2002 h2001)
        by_cases h2086 : z2021 = 27
        · refine mr_tableIn (pc := 62) (v := 27) (tgt := 208) dX1_doActs_62 h2086 rfl rfl (by decide) ?_
          have h2087 : 27 ≤ z2021 ∧ z2021 ≤ 27 := (vc_X1_doActs_12_28 h2086 h2052 h2054 h2056 h2058 h2063 h2068 h2077 h2023)
          refine sv_aload_n (pc := 208) dX1_doActs_208 rfl rfl ?_
          refine gf_X1_2 (pc := 209) dX1_doActs_209 wF_X1_25 (A_21 hw) T2020 (RT.keep I1997 hw ((mF.up mF.refl (A_21 hw) u2019 rfl) : mF [21006] w μ1990 μ2018) rfl) fun b2088 q2089 A2090 => ?_
          refine gf_X7_7 (pc := 212) dX1_doActs_212 wF_X1_96 A2090 T2020 fun z2091 q2092 h2093 => ?_
          have J2116 : ∀ (μ2110 : mM), (mT w μ2110) → (mF [21007, 200007, 201999] w μ2018 μ2110) → (PC w μ2110) → (RT μ2110) → sV (gG l D c H0 sa) mX1_doActs (sRm 4 0 0) (sZ (gG l D c H0 sa) 0 0 (qV w [21006, 21007, 200004, 200006, 200007, 200008, 201999, 202999] μ (fun μ1 => True))) 260 [(0, .ref 21), (1, .ref a1), (2, iv p2), (3, iv p3), (4, iv p4), (5, iv z1989)] [] (mk w μ2110) 0 0 := by
            intro μ2110 T2111 F2112 I2114 I2115
            refine mr_iinc (pc := 260) (lv' := [(5, iv (z1989 + 1)), (0, .ref 21), (1, .ref a1), (2, iv p2), (3, iv p3), (4, iv p4)]) dX1_doActs_260 rfl (by decide) rfl ?_
            refine sv_goto (pc := 263) (tgt := 3) dX1_doActs_263 (by decide) ?_
            refine mr_lvS (lv' := [(0, .ref 21), (1, .ref a1), (2, iv p2), (3, iv p3), (4, iv p4), (5, iv (z1989 + 1))]) (List.forall_mem_cons.mpr ⟨rfl, List.forall_mem_cons.mpr ⟨rfl, List.forall_mem_cons.mpr ⟨rfl, List.forall_mem_cons.mpr ⟨rfl, List.forall_mem_cons.mpr ⟨rfl, List.forall_mem_cons.mpr ⟨rfl, fun _ h => absurd h List.not_mem_nil⟩⟩⟩⟩⟩⟩) ?_
            exact ih1999 (z1989 + 1) μ2110 T2111 (mF.call (mF.up (mF.call mF.refl F1994 rfl) (A_21 hw) u2019 rfl) F2112 rfl) (rW (c := 0) (d := 1000) (rAdd (e := 1) (f := 1000) h2001 (rR (x := 1)) rfl) rfl) I2114 I2115 (vc_X1_doActs_12_13 (nS h1998) h2000 h4 h3 hp2 h2002 h2001)
          refine mr_if_le (pc := 215) (tgt := 260) dX1_doActs_215 (by decide) (r32 h2093 rfl) (fun h2117 => ?_) (fun h2117 => ?_)
          · have h2118 : 0 ≤ z2091 ∧ z2091 ≤ 0 := (vc_X12_unlike_21 h2117 h2093)
            refine mr_lvS (lv' := [(0, .ref 21), (1, .ref a1), (2, iv p2), (3, iv p3), (4, iv p4), (5, iv z1989)]) (List.forall_mem_cons.mpr ⟨rfl, List.forall_mem_cons.mpr ⟨rfl, List.forall_mem_cons.mpr ⟨rfl, List.forall_mem_cons.mpr ⟨rfl, List.forall_mem_cons.mpr ⟨rfl, List.forall_mem_cons.mpr ⟨rfl, fun _ h => absurd h List.not_mem_nil⟩⟩⟩⟩⟩⟩) ?_
            exact J2116 μ2018 T2020 mF.refl (PC.keep I1996 hw ((mF.up mF.refl (A_21 hw) u2019 rfl) : mF [21006] w μ1990 μ2018) rfl) (RT.keep I1997 hw ((mF.up mF.refl (A_21 hw) u2019 rfl) : mF [21006] w μ1990 μ2018) rfl)
          have h2119 : 1 ≤ z2091 ∧ z2091 ≤ 20 := (vc_X12_unlike_22 h2117 h2093)
          refine sv_aload_n (pc := 218) dX1_doActs_218 rfl rfl ?_
          refine gk_X1_2 (pc := 219) dX1_doActs_219 wF_X1_25 (A_21 hw) q2089 ?_
          refine sv_aload_n (pc := 222) dX1_doActs_222 rfl rfl ?_
          refine gk_X1_2 (pc := 223) dX1_doActs_223 wF_X1_25 (A_21 hw) q2089 ?_
          refine gf_X7_0 (pc := 226) dX1_doActs_226 wF_X1_114 A2090 T2020 fun A2120 => ?_
          refine mr_iconst (pc := 229) (z := 0) dX1_doActs_229 ?_
          refine la_201 (pc := 230) dX1_doActs_230 A2120 T2020 (rIx (n := 20) (rR (x := 0)) rfl) fun z2121 q2122 h2123 => ?_
          refine mr_iload (pc := 231) (z := z2009) dX1_doActs_231 rfl ?_
          refine mr_cVI (pc := 233) (c_X7_putInFront hw T2020 A2090 h2123 (rW (c := (-2147483648)) (d := 1000000) h2012 rfl)) (gOk _ _ _ _ _) dX1_doActs_233 (tX7_putInFront _ _ _ _ _) ⟨wV_X7_putInFront, wL_X7_putInFront⟩ wM_X1_131 (gCX7 _ _ _ _ _) rfl A2090 rfl ⟨le_t rfl, le_t rfl⟩ ⟨le_t rfl, le_t rfl⟩ rfl (le_t rfl) fun z2128 μ2124 T2125 F2126 h2127 => ?_
          refine mr_if_ne (pc := 236) (tgt := 260) dX1_doActs_236 (by decide) (r32 h2127.1 rfl) (fun h2129 => ?_) (fun h2129 => ?_)
          · have h2130 : 1 ≤ z2128 ∧ z2128 ≤ 1 := (vc_X12_letWay_11 h2129 h2127.1)
            refine mr_lvS (lv' := [(0, .ref 21), (1, .ref a1), (2, iv p2), (3, iv p3), (4, iv p4), (5, iv z1989)]) (List.forall_mem_cons.mpr ⟨rfl, List.forall_mem_cons.mpr ⟨rfl, List.forall_mem_cons.mpr ⟨rfl, List.forall_mem_cons.mpr ⟨rfl, List.forall_mem_cons.mpr ⟨rfl, List.forall_mem_cons.mpr ⟨rfl, fun _ h => absurd h List.not_mem_nil⟩⟩⟩⟩⟩⟩) ?_
            exact J2116 μ2124 T2125 (mF.call mF.refl F2126 rfl) (PC.keep I1996 hw ((mF.call (mF.up mF.refl (A_21 hw) u2019 rfl) F2126 rfl) : mF [21006, 200007, 201999] w μ1990 μ2124) rfl) (RT.keep I1997 hw ((mF.call (mF.up mF.refl (A_21 hw) u2019 rfl) F2126 rfl) : mF [21006, 200007, 201999] w μ1990 μ2124) rfl)
          have h2131 : 0 ≤ z2128 ∧ z2128 ≤ 0 := (vc_X12_letWay_6 h2129 h2127.1)
          refine sv_aload_n (pc := 239) dX1_doActs_239 rfl rfl ?_
          refine mr_iconst (pc := 240) (z := 2) dX1_doActs_240 ?_
          refine pf_X1_7 (pc := 241) dX1_doActs_241 wF_X1_50 (A_21 hw) T2125 (rW (c := 0) (d := 2) (rR (x := 2)) rfl) fun μ2132 u2133 T2134 => ?_
          refine sv_goto (pc := 244) (tgt := 260) dX1_doActs_244 (by decide) ?_
          refine mr_lvS (lv' := [(0, .ref 21), (1, .ref a1), (2, iv p2), (3, iv p3), (4, iv p4), (5, iv z1989)]) (List.forall_mem_cons.mpr ⟨rfl, List.forall_mem_cons.mpr ⟨rfl, List.forall_mem_cons.mpr ⟨rfl, List.forall_mem_cons.mpr ⟨rfl, List.forall_mem_cons.mpr ⟨rfl, List.forall_mem_cons.mpr ⟨rfl, fun _ h => absurd h List.not_mem_nil⟩⟩⟩⟩⟩⟩) ?_
          exact J2116 μ2132 T2134 (mF.up (mF.call mF.refl F2126 rfl) (A_21 hw) u2133 rfl) (PC.keep I1996 hw ((mF.up (mF.call (mF.up mF.refl (A_21 hw) u2019 rfl) F2126 rfl) (A_21 hw) u2133 rfl) : mF [21006, 21007, 200007, 201999] w μ1990 μ2132) rfl) (RT.keep I1997 hw ((mF.up (mF.call (mF.up mF.refl (A_21 hw) u2019 rfl) F2126 rfl) (A_21 hw) u2133 rfl) : mF [21006, 21007, 200007, 201999] w μ1990 μ2132) rfl)
        by_cases h2135 : z2021 = 28
        · refine mr_tableIn (pc := 62) (v := 28) (tgt := 247) dX1_doActs_62 h2135 rfl rfl (by decide) ?_
          have h2136 : 28 ≤ z2021 ∧ z2021 ≤ 28 := (vc_X1_doActs_12_33 h2135 h2054 h2056 h2058 h2063 h2068 h2077 h2086 h2023)
          refine sv_aload_n (pc := 247) dX1_doActs_247 rfl rfl ?_
          refine mr_iload (pc := 248) (z := z2009) dX1_doActs_248 rfl ?_
          refine mr_iload (pc := 250) (z := p4) dX1_doActs_250 rfl ?_
          refine mr_iconst (pc := 252) (z := 1) dX1_doActs_252 ?_
          refine mr_iadd (pc := 253) (x := p4) (y := 1) dX1_doActs_253 ?_
          refine mr_cVV (pc := 254) (c_X1_goThrough_13 hw T2020 (rW (c := (-2147483648)) (d := 2147483647) h2012 rfl) (rAdd (e := 13) (f := 13) hp4 (rR (x := 1)) rfl) (PC.keep I1996 hw ((mF.up mF.refl (A_21 hw) u2019 rfl) : mF [21006] w μ1990 μ2018) rfl) (RT.keep I1997 hw ((mF.up mF.refl (A_21 hw) u2019 rfl) : mF [21006] w μ1990 μ2018) rfl)) (gOk _ _ _ _ _) dX1_doActs_254 (tX1_goThrough _ _ _ _ _) ⟨wV_X1_goThrough, wL_X1_goThrough⟩ wM_X1_53 (gCX1 _ _ _ _ _) rfl (A_21 hw) rfl ⟨le_t rfl, le_t rfl⟩ ⟨le_t rfl, le_t rfl⟩ rfl (le_t rfl) fun μ2137 T2138 F2139 h2140 => ?_
          refine sv_goto (pc := 257) (tgt := 260) dX1_doActs_257 (by decide) ?_
          refine mr_iinc (pc := 260) (lv' := [(5, iv (z1989 + 1)), (6, iv z2009), (0, .ref 21), (1, .ref a1), (2, iv p2), (3, iv p3), (4, iv p4)]) dX1_doActs_260 rfl (by decide) rfl ?_
          refine sv_goto (pc := 263) (tgt := 3) dX1_doActs_263 (by decide) ?_
          refine mr_lvS (lv' := [(0, .ref 21), (1, .ref a1), (2, iv p2), (3, iv p3), (4, iv p4), (5, iv (z1989 + 1))]) (List.forall_mem_cons.mpr ⟨rfl, List.forall_mem_cons.mpr ⟨rfl, List.forall_mem_cons.mpr ⟨rfl, List.forall_mem_cons.mpr ⟨rfl, List.forall_mem_cons.mpr ⟨rfl, List.forall_mem_cons.mpr ⟨rfl, fun _ h => absurd h List.not_mem_nil⟩⟩⟩⟩⟩⟩) ?_
          exact ih1999 (z1989 + 1) μ2137 T2138 (mF.call (mF.up (mF.call mF.refl F1994 rfl) (A_21 hw) u2019 rfl) F2139 rfl) (rW (c := 0) (d := 1000) (rAdd (e := 1) (f := 1000) h2001 (rR (x := 1)) rfl) rfl) (PC.keep I1996 hw ((mF.call (mF.up mF.refl (A_21 hw) u2019 rfl) F2139 rfl) : mF [21006] w μ1990 μ2137) rfl) (RT.keep I1997 hw ((mF.call (mF.up mF.refl (A_21 hw) u2019 rfl) F2139 rfl) : mF [21006] w μ1990 μ2137) rfl) (vc_X1_doActs_12_13 (nS h1998) h2000 h4 h3 hp2 h2002 h2001)
        refine mr_tableOut (pc := 62) (tgt := 260) dX1_doActs_62 h2023 (vc_X1_doActs_12_34 h2024 h2032 h2040 h2042 h2044 h2046 h2048 h2050 h2052 h2054 h2056 h2058 h2063 h2068 h2077 h2086 h2135 h2023) (by decide) ?_
        refine mr_iinc (pc := 260) (lv' := [(5, iv (z1989 + 1)), (6, iv z2009), (0, .ref 21), (1, .ref a1), (2, iv p2), (3, iv p3), (4, iv p4)]) dX1_doActs_260 rfl (by decide) rfl ?_
        refine sv_goto (pc := 263) (tgt := 3) dX1_doActs_263 (by decide) ?_
        refine mr_lvS (lv' := [(0, .ref 21), (1, .ref a1), (2, iv p2), (3, iv p3), (4, iv p4), (5, iv (z1989 + 1))]) (List.forall_mem_cons.mpr ⟨rfl, List.forall_mem_cons.mpr ⟨rfl, List.forall_mem_cons.mpr ⟨rfl, List.forall_mem_cons.mpr ⟨rfl, List.forall_mem_cons.mpr ⟨rfl, List.forall_mem_cons.mpr ⟨rfl, fun _ h => absurd h List.not_mem_nil⟩⟩⟩⟩⟩⟩) ?_
        exact ih1999 (z1989 + 1) μ2018 T2020 (mF.up (mF.call mF.refl F1994 rfl) (A_21 hw) u2019 rfl) (rW (c := 0) (d := 1000) (rAdd (e := 1) (f := 1000) h2001 (rR (x := 1)) rfl) rfl) (PC.keep I1996 hw ((mF.up mF.refl (A_21 hw) u2019 rfl) : mF [21006] w μ1990 μ2018) rfl) (RT.keep I1997 hw ((mF.up mF.refl (A_21 hw) u2019 rfl) : mF [21006] w μ1990 μ2018) rfl) (vc_X1_doActs_12_13 (nS h1998) h2000 h4 h3 hp2 h2002 h2001)
      have h2141 : 500 ≤ z2013 ∧ z2013 ≤ 500 := (vc_X1_doActs_12_35 h2016 h2015)
      refine sv_aload_n (pc := 38) dX1_doActs_38 rfl rfl ?_
      refine mr_iconst (pc := 39) (z := 2) dX1_doActs_39 ?_
      refine pf_X1_7 (pc := 40) dX1_doActs_40 wF_X1_50 (A_21 hw) T1993 (rW (c := 0) (d := 2) (rR (x := 2)) rfl) fun μ2142 u2143 T2144 => ?_
      exact mr_vret dX1_doActs_43 rfl (le_t rfl) (le_t rfl) T2144 (mF.up (mF.call mF.refl F1994 rfl) (A_21 hw) u2143 rfl) trivial
  refine mr_lvS (lv' := [(0, .ref 21), (1, .ref a1), (2, iv p2), (3, iv p3), (4, iv p4), (5, iv 0)]) (List.forall_mem_cons.mpr ⟨rfl, List.forall_mem_cons.mpr ⟨rfl, List.forall_mem_cons.mpr ⟨rfl, List.forall_mem_cons.mpr ⟨rfl, List.forall_mem_cons.mpr ⟨rfl, List.forall_mem_cons.mpr ⟨rfl, fun _ h => absurd h List.not_mem_nil⟩⟩⟩⟩⟩⟩) ?_
  exact L1991 1002 0 μ hT mF.refl (rW (c := 0) (d := 1000) (rR (x := 0)) rfl) hIPC hIRT vc_X1_doActs_12_36
theorem vc_X1_goThrough_12_5 {p2 : Int} (h0 : 12 < p2) (h1 : 12 ≤ p2 ∧ p2 ≤ 12) : False := by omega
theorem vc_X1_goThrough_12_6 {n2 p1 z4 : Int} (h0 : 0 ≤ p1) (h1 : z4 = n2) (h2 : p1 < z4) (h3 : 0 ≤ p1 ∧ p1 ≤ 11) (h4 : 1 ≤ z4 ∧ z4 ≤ 12) : p1 < n2 := by omega
theorem vc_X1_goThrough_12_7 {n2 p1 z4 : Int} (h0 : 0 ≤ p1) (h1 : p1 < z4) (h2 : z4 = n2) (h3 : 0 ≤ p1 ∧ p1 ≤ 11) (h4 : 1 ≤ z4 ∧ z4 ≤ 12) : 0 ≤ p1 := by omega
theorem vc_X1_goThrough_12_8 {z1190 : Int} (h0 : (2001 - z1190) < ((0 : Nat) : Int)) (h1 : 0 ≤ z1190 ∧ z1190 ≤ 2000) : False := by omega
theorem vc_X1_goThrough_12_13 {z1190 : Int} (h0 : 0 ≤ z1190 ∧ z1190 ≤ 2000) : 0 ≤ z1190 := by omega
theorem vc_X1_goThrough_12_14 {z1189 z14 : Int} (h0 : z1189 < z14) (h1 : 0 ≤ z1189 ∧ z1189 ≤ 29) (h2 : 1 ≤ z14 ∧ z14 ≤ 30) : z1189 < z14 := by omega
theorem vc_X1_goThrough_12_15 {n_1335 z1190 : Int} (h0 : z1190 + 1 < n_1335) (h1 : 0 ≤ n_1335 ∧ n_1335 ≤ 2000) (h2 : 0 ≤ z1190 ∧ z1190 ≤ 2000) : 0 ≤ z1190 ∧ z1190 < n_1335 := by omega
theorem vc_X1_goThrough_12_16 {n_1335 z1190 : Int} (h0 : z1190 + 1 < n_1335) (h1 : 0 ≤ n_1335 ∧ n_1335 ≤ 2000) (h2 : 0 ≤ z1190 ∧ z1190 ≤ 2000) : 0 ≤ (z1190 + 1) ∧ (z1190 + 1) < n_1335 := by omega
theorem vc_X1_goThrough_12_17 {n_1335 z1190 z1339 z1342 : Int} (h0 : 0 ≤ z1339 ∧ 0 ≤ z1342 ∧ z1190 + 2 + 5 * z1339 + 2 * z1342 ≤ n_1335) (h1 : z1190 + 1 < n_1335) (h2 : 0 ≤ n_1335 ∧ n_1335 ≤ 2000) (h3 : 0 ≤ z1190 ∧ z1190 ≤ 2000) (h4 : (-2147483648) ≤ z1339 ∧ z1339 ≤ 2147483647) (h5 : (-2147483648) ≤ z1342 ∧ z1342 ≤ 2147483647) : 0 ≤ z1339 ∧ z1339 ≤ 400 := by omega
theorem vc_X1_goThrough_12_18 {n_1335 z1190 z1339 z1342 : Int} (h0 : 0 ≤ z1339 ∧ 0 ≤ z1342 ∧ z1190 + 2 + 5 * z1339 + 2 * z1342 ≤ n_1335) (h1 : z1190 + 1 < n_1335) (h2 : 0 ≤ n_1335 ∧ n_1335 ≤ 2000) (h3 : 0 ≤ z1190 ∧ z1190 ≤ 2000) (h4 : 0 ≤ z1339 ∧ z1339 ≤ 400) (h5 : (-2147483648) ≤ z1342 ∧ z1342 ≤ 2147483647) : 0 ≤ z1342 ∧ z1342 ≤ 1000 := by omega
theorem vc_X1_goThrough_12_19 {n_1335 z1190 z1339 z1342 z1466 : Int} (h0 : (2011 - z1466) < ((0 : Nat) : Int)) (h1 : (((z1190 + 2) + (z1339 * 5)) - z1466) % 5 = 0) (h2 : z1190 + 1 < n_1335) (h3 : 0 ≤ z1339 ∧ 0 ≤ z1342 ∧ z1190 + 2 + 5 * z1339 + 2 * z1342 ≤ n_1335) (h4 : 0 ≤ n_1335 ∧ n_1335 ≤ 2000) (h5 : 0 ≤ z1190 ∧ z1190 ≤ 2000) (h6 : 0 ≤ z1339 ∧ z1339 ≤ 400) (h7 : 0 ≤ z1342 ∧ z1342 ≤ 1000) (h8 : 2 ≤ z1466 ∧ z1466 ≤ 2010) : False := by omega
theorem vc_X1_goThrough_12_21 {n_1335 z1190 z1339 z1342 z1466 : Int} (h0 : z1190 + 1 < n_1335) (h1 : 0 ≤ z1339 ∧ 0 ≤ z1342 ∧ z1190 + 2 + 5 * z1339 + 2 * z1342 ≤ n_1335) (h2 : (((z1190 + 2) + (z1339 * 5)) - z1466) % 5 = 0) (h3 : 0 ≤ n_1335 ∧ n_1335 ≤ 2000) (h4 : 0 ≤ z1190 ∧ z1190 ≤ 2000) (h5 : 0 ≤ z1339 ∧ z1339 ≤ 400) (h6 : 0 ≤ z1342 ∧ z1342 ≤ 1000) (h7 : 2 ≤ z1466 ∧ z1466 ≤ 2010) : 0 ≤ (((z1190 + 2) + (z1339 * 5)) + (z1342 * 2)) ∧ (((z1190 + 2) + (z1339 * 5)) + (z1342 * 2)) ≤ 2000 := by omega
theorem vc_X1_goThrough_12_22 {N n_1335 z1190 z1339 z1342 z1466 : Int} (h0 : (2001 - z1190) < N + 1) (h1 : z1190 + 1 < n_1335) (h2 : 0 ≤ z1339 ∧ 0 ≤ z1342 ∧ z1190 + 2 + 5 * z1339 + 2 * z1342 ≤ n_1335) (h3 : (((z1190 + 2) + (z1339 * 5)) - z1466) % 5 = 0) (h4 : 0 ≤ n_1335 ∧ n_1335 ≤ 2000) (h5 : 0 ≤ z1190 ∧ z1190 ≤ 2000) (h6 : 0 ≤ z1339 ∧ z1339 ≤ 400) (h7 : 0 ≤ z1342 ∧ z1342 ≤ 1000) (h8 : 2 ≤ z1466 ∧ z1466 ≤ 2010) : (2001 - (((z1190 + 2) + (z1339 * 5)) + (z1342 * 2))) < N := by omega
theorem vc_X1_goThrough_12_23 {n_1335 z1190 z1339 z1342 z1466 : Int} (h0 : z1190 + 1 < n_1335) (h1 : 0 ≤ z1339 ∧ 0 ≤ z1342 ∧ z1190 + 2 + 5 * z1339 + 2 * z1342 ≤ n_1335) (h2 : (((z1190 + 2) + (z1339 * 5)) - z1466) % 5 = 0) (h3 : 0 ≤ n_1335 ∧ n_1335 ≤ 2000) (h4 : 0 ≤ z1190 ∧ z1190 ≤ 2000) (h5 : 0 ≤ z1339 ∧ z1339 ≤ 400) (h6 : 0 ≤ z1342 ∧ z1342 ≤ 1000) (h7 : 2 ≤ z1466 ∧ z1466 ≤ 2010) : (((z1190 + 2) + (z1339 * 5)) + (z1342 * 2)) = z1190 + 2 + 5 * z1339 + 2 * z1342 := by omega
theorem vc_X1_goThrough_12_25 {n_1335 z1190 z1339 z1342 z1466 : Int} (h0 : z1190 + 1 < n_1335) (h1 : 0 ≤ z1339 ∧ 0 ≤ z1342 ∧ z1190 + 2 + 5 * z1339 + 2 * z1342 ≤ n_1335) (h2 : (((z1190 + 2) + (z1339 * 5)) - z1466) % 5 = 0) (h3 : 0 ≤ n_1335 ∧ n_1335 ≤ 2000) (h4 : 0 ≤ z1190 ∧ z1190 ≤ 2000) (h5 : 0 ≤ z1339 ∧ z1339 ≤ 400) (h6 : 0 ≤ z1342 ∧ z1342 ≤ 1000) (h7 : 2 ≤ z1466 ∧ z1466 ≤ 2010) : 0 ≤ ((z1190 + 2) + (z1339 * 5)) ∧ ((z1190 + 2) + (z1339 * 5)) ≤ 2000 := by omega
theorem vc_X1_goThrough_12_26 {n_1335 z1190 z1339 z1342 z1466 : Int} (h0 : z1190 + 1 < n_1335) (h1 : 0 ≤ z1339 ∧ 0 ≤ z1342 ∧ z1190 + 2 + 5 * z1339 + 2 * z1342 ≤ n_1335) (h2 : (((z1190 + 2) + (z1339 * 5)) - z1466) % 5 = 0) (h3 : 0 ≤ n_1335 ∧ n_1335 ≤ 2000) (h4 : 0 ≤ z1190 ∧ z1190 ≤ 2000) (h5 : 0 ≤ z1339 ∧ z1339 ≤ 400) (h6 : 0 ≤ z1342 ∧ z1342 ≤ 1000) (h7 : 2 ≤ z1466 ∧ z1466 ≤ 2010) : ((z1190 + 2) + (z1339 * 5)) + 2 * z1342 ≤ n_1335 := by omega
theorem vc_X1_goThrough_12_27 {n_1335 z1190 z1339 z1342 z1466 : Int} (h0 : z1190 + 1 < n_1335) (h1 : 0 ≤ z1339 ∧ 0 ≤ z1342 ∧ z1190 + 2 + 5 * z1339 + 2 * z1342 ≤ n_1335) (h2 : (((z1190 + 2) + (z1339 * 5)) - z1466) % 5 = 0) (h3 : 0 ≤ n_1335 ∧ n_1335 ≤ 2000) (h4 : 0 ≤ z1190 ∧ z1190 ≤ 2000) (h5 : 0 ≤ z1339 ∧ z1339 ≤ 400) (h6 : 0 ≤ z1342 ∧ z1342 ≤ 1000) (h7 : 2 ≤ z1466 ∧ z1466 ≤ 2010) : ((z1190 + 2) + (z1339 * 5)) = z1190 + 2 + 5 * z1339 := by omega
theorem vc_X1_goThrough_12_28 {n_1335 z1190 z1339 z1342 z1466 : Int} (h0 : (((z1190 + 2) + (z1339 * 5)) - z1466) % 5 = 0) (h1 : z1466 < ((z1190 + 2) + (z1339 * 5))) (h2 : z1190 + 1 < n_1335) (h3 : 0 ≤ z1339 ∧ 0 ≤ z1342 ∧ z1190 + 2 + 5 * z1339 + 2 * z1342 ≤ n_1335) (h4 : 0 ≤ n_1335 ∧ n_1335 ≤ 2000) (h5 : 0 ≤ z1190 ∧ z1190 ≤ 2000) (h6 : 0 ≤ z1339 ∧ z1339 ≤ 400) (h7 : 0 ≤ z1342 ∧ z1342 ≤ 1000) (h8 : 2 ≤ z1466 ∧ z1466 ≤ 2010) : 0 ≤ z1466 ∧ z1466 ≤ 2000 := by omega
theorem vc_X1_goThrough_12_29 {n_1335 z1190 z1339 z1342 z1466 : Int} (h0 : z1190 + 1 < n_1335) (h1 : 0 ≤ z1339 ∧ 0 ≤ z1342 ∧ z1190 + 2 + 5 * z1339 + 2 * z1342 ≤ n_1335) (h2 : (((z1190 + 2) + (z1339 * 5)) - z1466) % 5 = 0) (h3 : z1466 < ((z1190 + 2) + (z1339 * 5))) (h4 : 0 ≤ n_1335 ∧ n_1335 ≤ 2000) (h5 : 0 ≤ z1190 ∧ z1190 ≤ 2000) (h6 : 0 ≤ z1339 ∧ z1339 ≤ 400) (h7 : 0 ≤ z1342 ∧ z1342 ≤ 1000) (h8 : 2 ≤ z1466 ∧ z1466 ≤ 2010) : z1466 + 4 < n_1335 := by omega
theorem vc_X1_goThrough_12_30 {n_1335 z1190 z1339 z1342 z1466 : Int} (h0 : z1190 + 1 < n_1335) (h1 : 0 ≤ z1339 ∧ 0 ≤ z1342 ∧ z1190 + 2 + 5 * z1339 + 2 * z1342 ≤ n_1335) (h2 : (((z1190 + 2) + (z1339 * 5)) - z1466) % 5 = 0) (h3 : z1466 < ((z1190 + 2) + (z1339 * 5))) (h4 : 0 ≤ n_1335 ∧ n_1335 ≤ 2000) (h5 : 0 ≤ z1190 ∧ z1190 ≤ 2000) (h6 : 0 ≤ z1339 ∧ z1339 ≤ 400) (h7 : 0 ≤ z1342 ∧ z1342 ≤ 1000) (h8 : 2 ≤ z1466 ∧ z1466 ≤ 2010) : 0 ≤ (z1466 + 1) ∧ (z1466 + 1) < n_1335 := by omega
theorem vc_X1_goThrough_12_32 {n_1335 z1190 z1339 z1342 z1466 : Int} (h0 : (((z1190 + 2) + (z1339 * 5)) - z1466) % 5 = 0) (h1 : z1466 < ((z1190 + 2) + (z1339 * 5))) (h2 : z1190 + 1 < n_1335) (h3 : 0 ≤ z1339 ∧ 0 ≤ z1342 ∧ z1190 + 2 + 5 * z1339 + 2 * z1342 ≤ n_1335) (h4 : 0 ≤ n_1335 ∧ n_1335 ≤ 2000) (h5 : 0 ≤ z1190 ∧ z1190 ≤ 2000) (h6 : 0 ≤ z1339 ∧ z1339 ≤ 400) (h7 : 0 ≤ z1342 ∧ z1342 ≤ 1000) (h8 : 2 ≤ z1466 ∧ z1466 ≤ 2010) : 2 ≤ (z1466 + 5) ∧ (z1466 + 5) ≤ 2010 := by omega
theorem vc_X1_goThrough_12_33 {n_1335 z1190 z1339 z1342 z1466 : Int} (h0 : z1190 + 1 < n_1335) (h1 : 0 ≤ z1339 ∧ 0 ≤ z1342 ∧ z1190 + 2 + 5 * z1339 + 2 * z1342 ≤ n_1335) (h2 : (((z1190 + 2) + (z1339 * 5)) - z1466) % 5 = 0) (h3 : z1466 < ((z1190 + 2) + (z1339 * 5))) (h4 : 0 ≤ n_1335 ∧ n_1335 ≤ 2000) (h5 : 0 ≤ z1190 ∧ z1190 ≤ 2000) (h6 : 0 ≤ z1339 ∧ z1339 ≤ 400) (h7 : 0 ≤ z1342 ∧ z1342 ≤ 1000) (h8 : 2 ≤ z1466 ∧ z1466 ≤ 2010) : (((z1190 + 2) + (z1339 * 5)) - (z1466 + 5)) % 5 = 0 := by omega
theorem vc_X1_goThrough_12_34 {N n_1335 z1190 z1339 z1342 z1466 : Int} (h0 : (2011 - z1466) < N + 1) (h1 : (((z1190 + 2) + (z1339 * 5)) - z1466) % 5 = 0) (h2 : z1466 < ((z1190 + 2) + (z1339 * 5))) (h3 : z1190 + 1 < n_1335) (h4 : 0 ≤ z1339 ∧ 0 ≤ z1342 ∧ z1190 + 2 + 5 * z1339 + 2 * z1342 ≤ n_1335) (h5 : 0 ≤ n_1335 ∧ n_1335 ≤ 2000) (h6 : 0 ≤ z1190 ∧ z1190 ≤ 2000) (h7 : 0 ≤ z1339 ∧ z1339 ≤ 400) (h8 : 0 ≤ z1342 ∧ z1342 ≤ 1000) (h9 : 2 ≤ z1466 ∧ z1466 ≤ 2010) : (2011 - (z1466 + 5)) < N := by omega
theorem vc_X1_goThrough_12_37 {z1514 : Int} (h0 : z1514 = 1) (h1 : 0 ≤ z1514 ∧ z1514 ≤ 1) : 1 ≤ z1514 ∧ z1514 ≤ 1 := by omega
theorem vc_X1_goThrough_12_38 {z1514 : Int} (h0 : ¬ z1514 = 1) (h1 : 0 ≤ z1514 ∧ z1514 ≤ 1) : 0 ≤ z1514 ∧ z1514 ≤ 0 := by omega
theorem vc_X1_goThrough_12_39 {n_1335 z1190 z1339 z1342 : Int} (h0 : z1190 + 1 < n_1335) (h1 : 0 ≤ z1339 ∧ 0 ≤ z1342 ∧ z1190 + 2 + 5 * z1339 + 2 * z1342 ≤ n_1335) (h2 : 0 ≤ n_1335 ∧ n_1335 ≤ 2000) (h3 : 0 ≤ z1190 ∧ z1190 ≤ 2000) (h4 : 0 ≤ z1339 ∧ z1339 ≤ 400) (h5 : 0 ≤ z1342 ∧ z1342 ≤ 1000) : (((z1190 + 2) + (z1339 * 5)) - (z1190 + 2)) % 5 = 0 := by omega
theorem vc_X1_goThrough_12_40 {n_1335 z1190 z1339 z1342 : Int} (h0 : z1190 + 1 < n_1335) (h1 : 0 ≤ z1339 ∧ 0 ≤ z1342 ∧ z1190 + 2 + 5 * z1339 + 2 * z1342 ≤ n_1335) (h2 : 0 ≤ n_1335 ∧ n_1335 ≤ 2000) (h3 : 0 ≤ z1190 ∧ z1190 ≤ 2000) (h4 : 0 ≤ z1339 ∧ z1339 ≤ 400) (h5 : 0 ≤ z1342 ∧ z1342 ≤ 1000) : (2011 - (z1190 + 2)) < ((2010 : Nat) : Int) := by omega
theorem vc_X1_goThrough_12_41  : (2001 - 0) < ((2002 : Nat) : Int) := by omega
set_option maxRecDepth 4000 in
set_option maxHeartbeats 4000000 in
theorem c_X1_goThrough_12 {l : Launch} {D : va_G} {c : Nat → ClassId} {H0 : Heap} {sa : Nat × Nat × (Nat → Int32)} {w : mW} {μ : mM} (hw : mWF w) (hT : mT w μ) {p1 : Int} (hp1 : (-2147483648) ≤ p1 ∧ p1 ≤ 2147483647) {p2 : Int} (hp2 : 12 ≤ p2 ∧ p2 ≤ 12) (hIPC : PC w μ) (hIRT : RT μ) : sC (gG l D c H0 sa) mX1_goThrough 5 0 0 [.ref 21, iv p1, iv p2] (mk w μ) (qV w [21006, 21007, 200004, 200006, 200007, 200008, 201999, 202999] μ (fun μ1 => True)) := by
  refine sC.of rfl (by decide) (le_t rfl) ?_
  refine mr_lvE (lv' := [(0, .ref 21), (1, iv p1), (2, iv p2)]) rfl ?_
  refine mr_iload_n (pc := 0) (z := p1) dX1_goThrough_0 rfl rfl ?_
  refine mr_if_lt (pc := 1) (tgt := 18) dX1_goThrough_1 (by decide) hp1 (fun h1 => ?_) (fun h1 => ?_)
  · have h2 : (-2147483648) ≤ p1 ∧ p1 ≤ (-1) := (vc_X12_cut_1 h1 hp1)
    exact mr_vret dX1_goThrough_18 rfl (le_t rfl) (le_t rfl) hT mF.refl trivial
  have h3 : 0 ≤ p1 ∧ p1 ≤ 2147483647 := (vc_X12_cut_2 h1 hp1)
  refine mr_iload_n (pc := 4) (z := p1) dX1_goThrough_4 rfl rfl ?_
  refine sv_aload_n (pc := 5) dX1_goThrough_5 rfl rfl ?_
  refine gf_X1_8 (pc := 6) dX1_goThrough_6 wF_X1_21 (A_21 hw) hT fun z4 q5 h6 => ?_
  refine mr_icmp_ge (pc := 9) (tgt := 18) dX1_goThrough_9 (by decide) (r32 h3 rfl) (r32 h6.2 rfl) (fun h7 => ?_) (fun h7 => ?_)
  · exact mr_vret dX1_goThrough_18 rfl (le_t rfl) (le_t rfl) hT mF.refl trivial
  have h8 : 0 ≤ p1 ∧ p1 ≤ 11 := (vc_X1_goThrough_13_3 h7 h1 h6.1 h3 h6.2)
  have h9 : 1 ≤ z4 ∧ z4 ≤ 12 := (vc_X1_goThrough_13_4 h7 h1 h6.1 h8 h6.2)
  refine mr_iload_n (pc := 12) (z := p2) dX1_goThrough_12 rfl rfl ?_
  refine mr_bipush (pc := 13) (z := 12) dX1_goThrough_13 (by decide) ?_
  refine mr_icmp_le (pc := 15) (tgt := 19) dX1_goThrough_15 (by decide) (r32 hp2 rfl) (r32 (rR (x := 12)) rfl) (fun _ => ?_) (fun h => ((vc_X1_goThrough_12_5 h hp2)).elim)
  refine sv_aload_n (pc := 19) dX1_goThrough_19 rfl rfl ?_
  refine gf_X1_1 (pc := 20) dX1_goThrough_20 wF_X1_17 (A_21 hw) hT ?_
  refine mr_iload_n (pc := 23) (z := p1) dX1_goThrough_23 rfl rfl ?_
  refine la_22 (pc := 24) dX1_goThrough_24 (A_22 hw) hT (rIx (n := 12) h8 rfl) (vc_X1_goThrough_12_6 h1 h6.1 h7 h8 h9) fun b10 q11 A12 => ?_
  refine mr_astore_n (pc := 25) (lv' := [(3, .ref b10), (0, .ref 21), (1, iv p1), (2, iv p2)]) dX1_goThrough_25 rfl (by decide) rfl ?_
  obtain ⟨c13, z14, q15, A16, q17, R18, e19, e20⟩ := PC.read hIPC hT A12 (vc_X1_goThrough_12_7 h1 h7 h6.1 h8 h9) (vc_X1_goThrough_12_6 h1 h6.1 h7 h8 h9) q11
  have h21 : 0 ≤ z14 ∧ z14 ≤ 30 := by rw [← q17]; exact hT _ _ A12 0
  refine mr_iconst (pc := 26) (z := 0) dX1_goThrough_26 ?_
  refine mr_istore (pc := 27) (lv' := [(4, iv 0), (3, .ref b10), (0, .ref 21), (1, iv p1), (2, iv p2)]) dX1_goThrough_27 (by decide) rfl ?_
  refine mr_iconst (pc := 29) (z := 0) dX1_goThrough_29 ?_
  refine mr_istore (pc := 30) (lv' := [(5, iv 0), (4, iv 0), (3, .ref b10), (0, .ref 21), (1, iv p1), (2, iv p2)]) dX1_goThrough_30 (by decide) rfl ?_
  have L1192 : ∀ (nL1192 : Nat) (z1190 z1189 : Int) (μ1191 : mM), mT w μ1191 → mF [21006, 21007, 200004, 200006, 200007, 200008, 201999, 202999] w μ μ1191 → (0 ≤ z1190 ∧ z1190 ≤ 2000) → (0 ≤ z1189 ∧ z1189 ≤ 30) → PC w μ1191 → RT μ1191 → wfR (μ c13) (w.2.2.1 c13) (z1190).toNat (z14 - z1189).toNat → (2001 - z1190) < (nL1192 : Int) → sV (gG l D c H0 sa) mX1_goThrough (sRm 5 0 0) (sZ (gG l D c H0 sa) 0 0 (qV w [21006, 21007, 200004, 200006, 200007, 200008, 201999, 202999] μ (fun μ1 => True))) 32 [(0, .ref 21), (2, iv p2), (3, .ref b10), (4, iv z1190), (5, iv z1189)] [] (mk w μ1191) 0 0 := by
    intro nL1192
    induction nL1192 with
    | zero => intro z1190 z1189 μ1191 T1195 F1196 h1193 h1194 I1198 I1199 R1200 h1201; exact ((vc_X1_goThrough_12_8 h1201 h1193)).elim
    | succ nL1192 ih1202 =>
      intro z1190 z1189 μ1191 T1195 F1196 h1193 h1194 I1198 I1199 R1200 h1201
      refine mr_iload (pc := 32) (z := z1189) dX1_goThrough_32 rfl ?_
      refine sv_aload_n (pc := 34) dX1_goThrough_34 rfl rfl ?_
      refine gk_X5_0 (pc := 35) dX1_goThrough_35 wF_X1_57 A12 (F1196.f A12 rfl q17) ?_
      refine mr_icmp_ge (pc := 38) (tgt := 174) dX1_goThrough_38 (by decide) (r32 h1194 rfl) (r32 h21 rfl) (fun h1267 => ?_) (fun h1267 => ?_)
      · exact mr_vret dX1_goThrough_174 rfl (le_t rfl) (le_t rfl) T1195 (mF.call mF.refl F1196 rfl) trivial
      have h1268 : 0 ≤ z1189 ∧ z1189 ≤ 29 := (vc_X12_judgedAnew_2 h1267 h1194 h21)
      have h1269 : 1 ≤ z14 ∧ z14 ≤ 30 := (vc_X12_judgedAnew_3 h1267 h1268 h21)
      refine sv_aload_n (pc := 41) dX1_goThrough_41 rfl rfl ?_
      refine gf_X1_7 (pc := 42) dX1_goThrough_42 wF_X1_50 (A_21 hw) T1195 fun z1270 q1271 h1272 => ?_
      refine mr_if_ne (pc := 45) (tgt := 174) dX1_goThrough_45 (by decide) (r32 h1272 rfl) (fun h1332 => ?_) (fun h1332 => ?_)
      · have h1333 : 1 ≤ z1270 ∧ z1270 ≤ 2 := (vc_X10_coneOf_12 h1332 h1272)
        exact mr_vret dX1_goThrough_174 rfl (le_t rfl) (le_t rfl) T1195 (mF.call mF.refl F1196 rfl) trivial
      have h1334 : 0 ≤ z1270 ∧ z1270 ≤ 0 := (vc_X10_coneOf_13 h1332 h1272)
      obtain ⟨n_1335, q1336⟩ : ∃ n : Int, (w.2.2.1 c13 : Int) = n := ⟨_, rfl⟩
      have h1337 : 0 ≤ n_1335 ∧ n_1335 ≤ 2000 := lnR (m := 2000) q1336 A16 rfl
      have h1338 : z1190 + 1 < n_1335 := lnLt q1336 (wfR.hd R1200 (vc_X1_goThrough_12_13 h1193) (vc_X1_goThrough_12_14 h1267 h1268 h1269))
      refine sv_aload_n (pc := 48) dX1_goThrough_48 rfl rfl ?_
      refine gk_X5_1 (pc := 49) dX1_goThrough_49 wF_X1_60 A12 (F1196.f A12 rfl q15) ?_
      refine mr_iload (pc := 52) (z := z1190) dX1_goThrough_52 rfl ?_
      refine la_231 (pc := 54) dX1_goThrough_54 A16 T1195 (lnC q1336 (vc_X1_goThrough_12_15 h1338 h1337 h1193)) fun z1339 q1340 h1341 => ?_
      refine mr_istore (pc := 55) (lv' := [(6, iv z1339), (0, .ref 21), (2, iv p2), (3, .ref b10), (4, iv z1190), (5, iv z1189)]) dX1_goThrough_55 (by decide) rfl ?_
      refine sv_aload_n (pc := 57) dX1_goThrough_57 rfl rfl ?_
      refine gk_X5_1 (pc := 58) dX1_goThrough_58 wF_X1_60 A12 (F1196.f A12 rfl q15) ?_
      refine mr_iload (pc := 61) (z := z1190) dX1_goThrough_61 rfl ?_
      refine mr_iconst (pc := 63) (z := 1) dX1_goThrough_63 ?_
      refine mr_iadd (pc := 64) (x := z1190) (y := 1) dX1_goThrough_64 ?_
      refine la_231 (pc := 65) dX1_goThrough_65 A16 T1195 (lnC q1336 (vc_X1_goThrough_12_16 h1338 h1337 h1193)) fun z1342 q1343 h1344 => ?_
      have B1345 := wfR.bd R1200 (vc_X1_goThrough_12_13 h1193) (vc_X1_goThrough_12_14 h1267 h1268 h1269) ((((mF.call mF.refl F1196 rfl) : mF [21006, 21007, 200004, 200006, 200007, 200008, 201999, 202999] w μ μ1191).f A16 rfl rfl).symm.trans q1340) ((((mF.call mF.refl F1196 rfl) : mF [21006, 21007, 200004, 200006, 200007, 200008, 201999, 202999] w μ μ1191).f A16 rfl rfl).symm.trans q1343)
      have h1346 : 0 ≤ z1339 ∧ 0 ≤ z1342 ∧ z1190 + 2 + 5 * z1339 + 2 * z1342 ≤ n_1335 := ⟨B1345.1.1, B1345.1.2.1, lnLe q1336 B1345.1.2.2⟩
      have h1347 : 0 ≤ z1339 ∧ z1339 ≤ 400 := (vc_X1_goThrough_12_17 h1346 h1338 h1337 h1193 h1341 h1344)
      have h1348 : 0 ≤ z1342 ∧ z1342 ≤ 1000 := (vc_X1_goThrough_12_18 h1346 h1338 h1337 h1193 h1347 h1344)
      refine mr_istore (pc := 66) (lv' := [(7, iv z1342), (6, iv z1339), (0, .ref 21), (2, iv p2), (3, .ref b10), (4, iv z1190), (5, iv z1189)]) dX1_goThrough_66 (by decide) rfl ?_
      refine mr_iload (pc := 68) (z := z1190) dX1_goThrough_68 rfl ?_
      refine mr_iconst (pc := 70) (z := 2) dX1_goThrough_70 ?_
      refine mr_iadd (pc := 71) (x := z1190) (y := 2) dX1_goThrough_71 ?_
      refine mr_iload (pc := 72) (z := z1339) dX1_goThrough_72 rfl ?_
      refine mr_iconst (pc := 74) (z := 5) dX1_goThrough_74 ?_
      refine mr_imul (pc := 75) (x := z1339) (y := 5) dX1_goThrough_75 ?_
      refine mr_iadd (pc := 76) (x := (z1190 + 2)) (y := (z1339 * 5)) dX1_goThrough_76 ?_
      refine mr_istore (pc := 77) (lv' := [(8, iv ((z1190 + 2) + (z1339 * 5))), (7, iv z1342), (6, iv z1339), (0, .ref 21), (2, iv p2), (3, .ref b10), (4, iv z1190), (5, iv z1189)]) dX1_goThrough_77 (by decide) rfl ?_
      refine mr_iconst (pc := 79) (z := 1) dX1_goThrough_79 ?_
      refine mr_istore (pc := 80) (lv' := [(9, iv 1), (8, iv ((z1190 + 2) + (z1339 * 5))), (7, iv z1342), (6, iv z1339), (0, .ref 21), (2, iv p2), (3, .ref b10), (4, iv z1190), (5, iv z1189)]) dX1_goThrough_80 (by decide) rfl ?_
      refine mr_iload (pc := 82) (z := z1190) dX1_goThrough_82 rfl ?_
      refine mr_iconst (pc := 84) (z := 2) dX1_goThrough_84 ?_
      refine mr_iadd (pc := 85) (x := z1190) (y := 2) dX1_goThrough_85 ?_
      refine mr_istore (pc := 86) (lv' := [(10, iv (z1190 + 2)), (9, iv 1), (8, iv ((z1190 + 2) + (z1339 * 5))), (7, iv z1342), (6, iv z1339), (0, .ref 21), (2, iv p2), (3, .ref b10), (4, iv z1190), (5, iv z1189)]) dX1_goThrough_86 (by decide) rfl ?_
      have L1468 : ∀ (nL1468 : Nat) (z1467 z1466 : Int), True → (0 ≤ z1467 ∧ z1467 ≤ 1) → (2 ≤ z1466 ∧ z1466 ≤ 2010) → ((((z1190 + 2) + (z1339 * 5)) - z1466) % 5 = 0) → (2011 - z1466) < (nL1468 : Int) → sV (gG l D c H0 sa) mX1_goThrough (sRm 5 0 0) (sZ (gG l D c H0 sa) 0 0 (qV w [21006, 21007, 200004, 200006, 200007, 200008, 201999, 202999] μ (fun μ1 => True))) 88 [(0, .ref 21), (2, iv p2), (3, .ref b10), (5, iv z1189), (7, iv z1342), (8, iv ((z1190 + 2) + (z1339 * 5))), (9, iv z1467), (10, iv z1466)] [] (mk w μ1191) 0 0 := by
        intro nL1468
        induction nL1468 with
        | zero => intro z1467 z1466 _ h1469 h1470 h1474 h1475; exact ((vc_X1_goThrough_12_19 h1475 h1474 h1338 h1346 h1337 h1193 h1347 h1348 h1470)).elim
        | succ nL1468 ih1476 =>
          intro z1467 z1466 _ h1469 h1470 h1474 h1475
          refine mr_iload (pc := 88) (z := z1466) dX1_goThrough_88 rfl ?_
          refine mr_iload (pc := 90) (z := ((z1190 + 2) + (z1339 * 5))) dX1_goThrough_90 rfl ?_
          have J1492 : sV (gG l D c H0 sa) mX1_goThrough (sRm 5 0 0) (sZ (gG l D c H0 sa) 0 0 (qV w [21006, 21007, 200004, 200006, 200007, 200008, 201999, 202999] μ (fun μ1 => True))) 141 [(0, .ref 21), (2, iv p2), (3, .ref b10), (5, iv z1189), (7, iv z1342), (8, iv ((z1190 + 2) + (z1339 * 5))), (9, iv z1467)] [] (mk w μ1191) 0 0 := by
            refine mr_iload (pc := 141) (z := z1467) dX1_goThrough_141 rfl ?_
            refine mr_if_eq (pc := 143) (tgt := 159) dX1_goThrough_143 (by decide) (r32 h1469 rfl) (fun h1499 => ?_) (fun h1499 => ?_)
            · have h1500 : 0 ≤ z1467 ∧ z1467 ≤ 0 := (vc_X12_letWay_6 h1499 h1469)
              refine mr_iload (pc := 159) (z := ((z1190 + 2) + (z1339 * 5))) dX1_goThrough_159 rfl ?_
              refine mr_iload (pc := 161) (z := z1342) dX1_goThrough_161 rfl ?_
              refine mr_iconst (pc := 163) (z := 2) dX1_goThrough_163 ?_
              refine mr_imul (pc := 164) (x := z1342) (y := 2) dX1_goThrough_164 ?_
              refine mr_iadd (pc := 165) (x := ((z1190 + 2) + (z1339 * 5))) (y := (z1342 * 2)) dX1_goThrough_165 ?_
              refine mr_istore (pc := 166) (lv' := [(4, iv (((z1190 + 2) + (z1339 * 5)) + (z1342 * 2))), (0, .ref 21), (2, iv p2), (3, .ref b10), (5, iv z1189), (7, iv z1342), (8, iv ((z1190 + 2) + (z1339 * 5))), (9, iv z1467)]) dX1_goThrough_166 (by decide) rfl ?_
              refine mr_iinc (pc := 168) (lv' := [(5, iv (z1189 + 1)), (4, iv (((z1190 + 2) + (z1339 * 5)) + (z1342 * 2))), (0, .ref 21), (2, iv p2), (3, .ref b10), (7, iv z1342), (8, iv ((z1190 + 2) + (z1339 * 5))), (9, iv z1467)]) dX1_goThrough_168 rfl (by decide) rfl ?_
              refine sv_goto (pc := 171) (tgt := 32) dX1_goThrough_171 (by decide) ?_
              refine mr_lvS (lv' := [(0, .ref 21), (2, iv p2), (3, .ref b10), (4, iv (((z1190 + 2) + (z1339 * 5)) + (z1342 * 2))), (5, iv (z1189 + 1))]) (List.forall_mem_cons.mpr ⟨rfl, List.forall_mem_cons.mpr ⟨rfl, List.forall_mem_cons.mpr ⟨rfl, List.forall_mem_cons.mpr ⟨rfl, List.forall_mem_cons.mpr ⟨rfl, fun _ h => absurd h List.not_mem_nil⟩⟩⟩⟩⟩) ?_
              exact ih1202 (((z1190 + 2) + (z1339 * 5)) + (z1342 * 2)) (z1189 + 1) μ1191 T1195 (mF.call mF.refl F1196 rfl) (vc_X1_goThrough_12_21 h1338 h1346 h1474 h1337 h1193 h1347 h1348 h1470) (rW (c := 0) (d := 30) (rAdd (e := 1) (f := 30) h1268 (rR (x := 1)) rfl) rfl) I1198 I1199 (wfR.cg B1345.2.2 (vc_X1_goThrough_12_23 h1338 h1346 h1474 h1337 h1193 h1347 h1348 h1470)) (vc_X1_goThrough_12_22 (nS h1201) h1338 h1346 h1474 h1337 h1193 h1347 h1348 h1470)
            have h1501 : 1 ≤ z1467 ∧ z1467 ≤ 1 := (vc_X12_letWay_11 h1499 h1469)
            refine sv_aload_n (pc := 146) dX1_goThrough_146 rfl rfl ?_
            refine sv_aload_n (pc := 147) dX1_goThrough_147 rfl rfl ?_
            refine gk_X5_1 (pc := 148) dX1_goThrough_148 wF_X1_60 A12 (F1196.f A12 rfl q15) ?_
            refine mr_iload (pc := 151) (z := ((z1190 + 2) + (z1339 * 5))) dX1_goThrough_151 rfl ?_
            refine mr_iload (pc := 153) (z := z1342) dX1_goThrough_153 rfl ?_
            refine mr_iload_n (pc := 155) (z := p2) dX1_goThrough_155 rfl rfl ?_
            refine mr_cVV (pc := 156) (c_X1_doActs_12 hw T1195 A16 (vc_X1_goThrough_12_25 h1338 h1346 h1474 h1337 h1193 h1347 h1348 h1470) h1348 hp2 I1198 I1199 (lnL q1336 (vc_X1_goThrough_12_26 h1338 h1346 h1474 h1337 h1193 h1347 h1348 h1470)) (argC B1345.2.1 (vc_X1_goThrough_12_27 h1338 h1346 h1474 h1337 h1193 h1347 h1348 h1470) (funext fun i => ((mF.call mF.refl F1196 rfl) : mF [21006, 21007, 200004, 200006, 200007, 200008, 201999, 202999] w μ μ1191).f A16 rfl rfl))) (gOk _ _ _ _ _) dX1_goThrough_156 (tX1_doActs _ _ _ _ _) ⟨wV_X1_doActs, wL_X1_doActs⟩ wM_X1_68 (gCX1 _ _ _ _ _) rfl (A_21 hw) rfl ⟨le_t rfl, le_t rfl⟩ ⟨le_t rfl, le_t rfl⟩ rfl (le_t rfl) fun μ1502 T1503 F1504 h1505 => ?_
            refine mr_iload (pc := 159) (z := ((z1190 + 2) + (z1339 * 5))) dX1_goThrough_159 rfl ?_
            refine mr_iload (pc := 161) (z := z1342) dX1_goThrough_161 rfl ?_
            refine mr_iconst (pc := 163) (z := 2) dX1_goThrough_163 ?_
            refine mr_imul (pc := 164) (x := z1342) (y := 2) dX1_goThrough_164 ?_
            refine mr_iadd (pc := 165) (x := ((z1190 + 2) + (z1339 * 5))) (y := (z1342 * 2)) dX1_goThrough_165 ?_
            refine mr_istore (pc := 166) (lv' := [(4, iv (((z1190 + 2) + (z1339 * 5)) + (z1342 * 2))), (0, .ref 21), (2, iv p2), (3, .ref b10), (5, iv z1189), (7, iv z1342), (8, iv ((z1190 + 2) + (z1339 * 5))), (9, iv z1467)]) dX1_goThrough_166 (by decide) rfl ?_
            refine mr_iinc (pc := 168) (lv' := [(5, iv (z1189 + 1)), (4, iv (((z1190 + 2) + (z1339 * 5)) + (z1342 * 2))), (0, .ref 21), (2, iv p2), (3, .ref b10), (7, iv z1342), (8, iv ((z1190 + 2) + (z1339 * 5))), (9, iv z1467)]) dX1_goThrough_168 rfl (by decide) rfl ?_
            refine sv_goto (pc := 171) (tgt := 32) dX1_goThrough_171 (by decide) ?_
            refine mr_lvS (lv' := [(0, .ref 21), (2, iv p2), (3, .ref b10), (4, iv (((z1190 + 2) + (z1339 * 5)) + (z1342 * 2))), (5, iv (z1189 + 1))]) (List.forall_mem_cons.mpr ⟨rfl, List.forall_mem_cons.mpr ⟨rfl, List.forall_mem_cons.mpr ⟨rfl, List.forall_mem_cons.mpr ⟨rfl, List.forall_mem_cons.mpr ⟨rfl, fun _ h => absurd h List.not_mem_nil⟩⟩⟩⟩⟩) ?_
            exact ih1202 (((z1190 + 2) + (z1339 * 5)) + (z1342 * 2)) (z1189 + 1) μ1502 T1503 (mF.call (mF.call mF.refl F1196 rfl) F1504 rfl) (vc_X1_goThrough_12_21 h1338 h1346 h1474 h1337 h1193 h1347 h1348 h1470) (rW (c := 0) (d := 30) (rAdd (e := 1) (f := 30) h1268 (rR (x := 1)) rfl) rfl) (PC.keep I1198 hw ((mF.call mF.refl F1504 rfl) : mF [21006, 21007, 200004, 200006, 200007, 200008, 201999, 202999] w μ1191 μ1502) rfl) (RT.keep I1199 hw ((mF.call mF.refl F1504 rfl) : mF [21006, 21007, 200004, 200006, 200007, 200008, 201999, 202999] w μ1191 μ1502) rfl) (wfR.cg B1345.2.2 (vc_X1_goThrough_12_23 h1338 h1346 h1474 h1337 h1193 h1347 h1348 h1470)) (vc_X1_goThrough_12_22 (nS h1201) h1338 h1346 h1474 h1337 h1193 h1347 h1348 h1470)
          refine mr_icmp_ge (pc := 92) (tgt := 141) dX1_goThrough_92 (by decide) (r32 h1470 rfl) (r32 (rAdd (e := 2) (f := 4002) (rAdd (e := 2) (f := 2002) h1193 (rR (x := 2)) rfl) (rMulR (n := 5) (e := 0) (f := 2000) h1347 rfl) rfl) rfl) (fun h1506 => ?_) (fun h1506 => ?_)
          · refine mr_lvS (lv' := [(0, .ref 21), (2, iv p2), (3, .ref b10), (5, iv z1189), (7, iv z1342), (8, iv ((z1190 + 2) + (z1339 * 5))), (9, iv z1467)]) (List.forall_mem_cons.mpr ⟨rfl, List.forall_mem_cons.mpr ⟨rfl, List.forall_mem_cons.mpr ⟨rfl, List.forall_mem_cons.mpr ⟨rfl, List.forall_mem_cons.mpr ⟨rfl, List.forall_mem_cons.mpr ⟨rfl, List.forall_mem_cons.mpr ⟨rfl, fun _ h => absurd h List.not_mem_nil⟩⟩⟩⟩⟩⟩⟩) ?_
            exact J1492 
          refine mr_iload (pc := 95) (z := z1467) dX1_goThrough_95 rfl ?_
          refine mr_if_eq (pc := 97) (tgt := 141) dX1_goThrough_97 (by decide) (r32 h1469 rfl) (fun h1507 => ?_) (fun h1507 => ?_)
          · have h1508 : 0 ≤ z1467 ∧ z1467 ≤ 0 := (vc_X12_letWay_6 h1507 h1469)
            refine mr_lvS (lv' := [(0, .ref 21), (2, iv p2), (3, .ref b10), (5, iv z1189), (7, iv z1342), (8, iv ((z1190 + 2) + (z1339 * 5))), (9, iv z1467)]) (List.forall_mem_cons.mpr ⟨rfl, List.forall_mem_cons.mpr ⟨rfl, List.forall_mem_cons.mpr ⟨rfl, List.forall_mem_cons.mpr ⟨rfl, List.forall_mem_cons.mpr ⟨rfl, List.forall_mem_cons.mpr ⟨rfl, List.forall_mem_cons.mpr ⟨rfl, fun _ h => absurd h List.not_mem_nil⟩⟩⟩⟩⟩⟩⟩) ?_
            exact J1492 
          have h1509 : 1 ≤ z1467 ∧ z1467 ≤ 1 := (vc_X12_letWay_11 h1507 h1469)
          refine sv_aload_n (pc := 100) dX1_goThrough_100 rfl rfl ?_
          refine sv_aload_n (pc := 101) dX1_goThrough_101 rfl rfl ?_
          refine mr_iload (pc := 102) (z := z1466) dX1_goThrough_102 rfl ?_
          refine mr_cVP (pc := 104) (c_X1_isSo hw T1195 A12 (vc_X1_goThrough_12_28 h1474 h1506 h1338 h1346 h1337 h1193 h1347 h1348 h1470) I1199 (lnF (F1196.f A12 rfl q15) q1336 (vc_X1_goThrough_12_29 h1338 h1346 h1474 h1506 h1337 h1193 h1347 h1348 h1470)) (by rw [((mF.call mF.refl F1196 rfl) : mF [21006, 21007, 200004, 200006, 200007, 200008, 201999, 202999] w μ μ1191).f (k := 2) A12 rfl rfl, ((mF.call mF.refl F1196 rfl) : mF [21006, 21007, 200004, 200006, 200007, 200008, 201999, 202999] w μ μ1191).f (k := 3) A12 rfl rfl]; exact e19) (by rw [((mF.call mF.refl F1196 rfl) : mF [21006, 21007, 200004, 200006, 200007, 200008, 201999, 202999] w μ μ1191).f (k := 4) A12 rfl rfl, ((mF.call mF.refl F1196 rfl) : mF [21006, 21007, 200004, 200006, 200007, 200008, 201999, 202999] w μ μ1191).f (k := 5) A12 rfl rfl]; exact e20)) (gOk _ _ _ _ _) dX1_goThrough_104 (tX1_isSo _ _ _ _ _) ⟨wV_X1_isSo, wL_X1_isSo⟩ wM_X1_64 (gCX1 _ _ _ _ _) rfl (A_21 hw) rfl ⟨le_t rfl, le_t rfl⟩ ⟨le_t rfl, le_t rfl⟩ rfl (le_t rfl) fun z1514 h1513 => ?_
          refine sv_aload_n (pc := 107) dX1_goThrough_107 rfl rfl ?_
          refine gk_X5_1 (pc := 108) dX1_goThrough_108 wF_X1_60 A12 (F1196.f A12 rfl q15) ?_
          refine mr_iload (pc := 111) (z := z1466) dX1_goThrough_111 rfl ?_
          refine mr_iconst (pc := 113) (z := 1) dX1_goThrough_113 ?_
          refine mr_iadd (pc := 114) (x := z1466) (y := 1) dX1_goThrough_114 ?_
          refine la_231 (pc := 115) dX1_goThrough_115 A16 T1195 (lnC q1336 (vc_X1_goThrough_12_30 h1338 h1346 h1474 h1506 h1337 h1193 h1347 h1348 h1470)) fun z1515 q1516 h1517 => ?_
          refine mr_iconst (pc := 116) (z := 1) dX1_goThrough_116 ?_
          refine mr_icmp_ne (pc := 117) (tgt := 124) dX1_goThrough_117 (by decide) h1517 (r32 (rR (x := 1)) rfl) (fun h1519 => ?_) (fun h1519 => ?_)
          · refine mr_iconst (pc := 124) (z := 0) dX1_goThrough_124 ?_
            refine mr_icmp_eq (pc := 125) (tgt := 132) dX1_goThrough_125 (by decide) (r32 h1513.1 rfl) (r32 (rR (x := 0)) rfl) (fun h1522 => ?_) (fun h1522 => ?_)
            · have h1523 : 0 ≤ z1514 ∧ z1514 ≤ 0 := (vc_X12_letWay_6 h1522 h1513.1)
              refine mr_iconst (pc := 132) (z := 0) dX1_goThrough_132 ?_
              refine mr_istore (pc := 133) (lv' := [(9, iv 0), (0, .ref 21), (2, iv p2), (3, .ref b10), (5, iv z1189), (7, iv z1342), (8, iv ((z1190 + 2) + (z1339 * 5))), (10, iv z1466)]) dX1_goThrough_133 (by decide) rfl ?_
              refine mr_iinc (pc := 135) (lv' := [(10, iv (z1466 + 5)), (9, iv 0), (0, .ref 21), (2, iv p2), (3, .ref b10), (5, iv z1189), (7, iv z1342), (8, iv ((z1190 + 2) + (z1339 * 5)))]) dX1_goThrough_135 rfl (by decide) rfl ?_
              refine sv_goto (pc := 138) (tgt := 88) dX1_goThrough_138 (by decide) ?_
              refine mr_lvS (lv' := [(0, .ref 21), (2, iv p2), (3, .ref b10), (5, iv z1189), (7, iv z1342), (8, iv ((z1190 + 2) + (z1339 * 5))), (9, iv 0), (10, iv (z1466 + 5))]) (List.forall_mem_cons.mpr ⟨rfl, List.forall_mem_cons.mpr ⟨rfl, List.forall_mem_cons.mpr ⟨rfl, List.forall_mem_cons.mpr ⟨rfl, List.forall_mem_cons.mpr ⟨rfl, List.forall_mem_cons.mpr ⟨rfl, List.forall_mem_cons.mpr ⟨rfl, List.forall_mem_cons.mpr ⟨rfl, fun _ h => absurd h List.not_mem_nil⟩⟩⟩⟩⟩⟩⟩⟩) ?_
              exact ih1476 0 (z1466 + 5) trivial (rW (c := 0) (d := 1) (rR (x := 0)) rfl) (vc_X1_goThrough_12_32 h1474 h1506 h1338 h1346 h1337 h1193 h1347 h1348 h1470) (vc_X1_goThrough_12_33 h1338 h1346 h1474 h1506 h1337 h1193 h1347 h1348 h1470) (vc_X1_goThrough_12_34 (nS h1475) h1474 h1506 h1338 h1346 h1337 h1193 h1347 h1348 h1470)
            have h1524 : 1 ≤ z1514 ∧ z1514 ≤ 1 := (vc_X12_letWay_11 h1522 h1513.1)
            refine mr_iconst (pc := 128) (z := 1) dX1_goThrough_128 ?_
            refine sv_goto (pc := 129) (tgt := 133) dX1_goThrough_129 (by decide) ?_
            refine mr_istore (pc := 133) (lv' := [(9, iv 1), (0, .ref 21), (2, iv p2), (3, .ref b10), (5, iv z1189), (7, iv z1342), (8, iv ((z1190 + 2) + (z1339 * 5))), (10, iv z1466)]) dX1_goThrough_133 (by decide) rfl ?_
            refine mr_iinc (pc := 135) (lv' := [(10, iv (z1466 + 5)), (9, iv 1), (0, .ref 21), (2, iv p2), (3, .ref b10), (5, iv z1189), (7, iv z1342), (8, iv ((z1190 + 2) + (z1339 * 5)))]) dX1_goThrough_135 rfl (by decide) rfl ?_
            refine sv_goto (pc := 138) (tgt := 88) dX1_goThrough_138 (by decide) ?_
            refine mr_lvS (lv' := [(0, .ref 21), (2, iv p2), (3, .ref b10), (5, iv z1189), (7, iv z1342), (8, iv ((z1190 + 2) + (z1339 * 5))), (9, iv 1), (10, iv (z1466 + 5))]) (List.forall_mem_cons.mpr ⟨rfl, List.forall_mem_cons.mpr ⟨rfl, List.forall_mem_cons.mpr ⟨rfl, List.forall_mem_cons.mpr ⟨rfl, List.forall_mem_cons.mpr ⟨rfl, List.forall_mem_cons.mpr ⟨rfl, List.forall_mem_cons.mpr ⟨rfl, List.forall_mem_cons.mpr ⟨rfl, fun _ h => absurd h List.not_mem_nil⟩⟩⟩⟩⟩⟩⟩⟩) ?_
            exact ih1476 1 (z1466 + 5) trivial (rW (c := 0) (d := 1) (rR (x := 1)) rfl) (vc_X1_goThrough_12_32 h1474 h1506 h1338 h1346 h1337 h1193 h1347 h1348 h1470) (vc_X1_goThrough_12_33 h1338 h1346 h1474 h1506 h1337 h1193 h1347 h1348 h1470) (vc_X1_goThrough_12_34 (nS h1475) h1474 h1506 h1338 h1346 h1337 h1193 h1347 h1348 h1470)
          have h1525 : 1 ≤ z1515 ∧ z1515 ≤ 1 := (vc_X0_compareAt_1 h1519 h1517)
          refine mr_iconst (pc := 120) (z := 1) dX1_goThrough_120 ?_
          refine sv_goto (pc := 121) (tgt := 125) dX1_goThrough_121 (by decide) ?_
          refine mr_icmp_eq (pc := 125) (tgt := 132) dX1_goThrough_125 (by decide) (r32 h1513.1 rfl) (r32 (rR (x := 1)) rfl) (fun h1528 => ?_) (fun h1528 => ?_)
          · have h1529 : 1 ≤ z1514 ∧ z1514 ≤ 1 := (vc_X1_goThrough_12_37 h1528 h1513.1)
            refine mr_iconst (pc := 132) (z := 0) dX1_goThrough_132 ?_
            refine mr_istore (pc := 133) (lv' := [(9, iv 0), (0, .ref 21), (2, iv p2), (3, .ref b10), (5, iv z1189), (7, iv z1342), (8, iv ((z1190 + 2) + (z1339 * 5))), (10, iv z1466)]) dX1_goThrough_133 (by decide) rfl ?_
            refine mr_iinc (pc := 135) (lv' := [(10, iv (z1466 + 5)), (9, iv 0), (0, .ref 21), (2, iv p2), (3, .ref b10), (5, iv z1189), (7, iv z1342), (8, iv ((z1190 + 2) + (z1339 * 5)))]) dX1_goThrough_135 rfl (by decide) rfl ?_
            refine sv_goto (pc := 138) (tgt := 88) dX1_goThrough_138 (by decide) ?_
            refine mr_lvS (lv' := [(0, .ref 21), (2, iv p2), (3, .ref b10), (5, iv z1189), (7, iv z1342), (8, iv ((z1190 + 2) + (z1339 * 5))), (9, iv 0), (10, iv (z1466 + 5))]) (List.forall_mem_cons.mpr ⟨rfl, List.forall_mem_cons.mpr ⟨rfl, List.forall_mem_cons.mpr ⟨rfl, List.forall_mem_cons.mpr ⟨rfl, List.forall_mem_cons.mpr ⟨rfl, List.forall_mem_cons.mpr ⟨rfl, List.forall_mem_cons.mpr ⟨rfl, List.forall_mem_cons.mpr ⟨rfl, fun _ h => absurd h List.not_mem_nil⟩⟩⟩⟩⟩⟩⟩⟩) ?_
            exact ih1476 0 (z1466 + 5) trivial (rW (c := 0) (d := 1) (rR (x := 0)) rfl) (vc_X1_goThrough_12_32 h1474 h1506 h1338 h1346 h1337 h1193 h1347 h1348 h1470) (vc_X1_goThrough_12_33 h1338 h1346 h1474 h1506 h1337 h1193 h1347 h1348 h1470) (vc_X1_goThrough_12_34 (nS h1475) h1474 h1506 h1338 h1346 h1337 h1193 h1347 h1348 h1470)
          have h1530 : 0 ≤ z1514 ∧ z1514 ≤ 0 := (vc_X1_goThrough_12_38 h1528 h1513.1)
          refine mr_iconst (pc := 128) (z := 1) dX1_goThrough_128 ?_
          refine sv_goto (pc := 129) (tgt := 133) dX1_goThrough_129 (by decide) ?_
          refine mr_istore (pc := 133) (lv' := [(9, iv 1), (0, .ref 21), (2, iv p2), (3, .ref b10), (5, iv z1189), (7, iv z1342), (8, iv ((z1190 + 2) + (z1339 * 5))), (10, iv z1466)]) dX1_goThrough_133 (by decide) rfl ?_
          refine mr_iinc (pc := 135) (lv' := [(10, iv (z1466 + 5)), (9, iv 1), (0, .ref 21), (2, iv p2), (3, .ref b10), (5, iv z1189), (7, iv z1342), (8, iv ((z1190 + 2) + (z1339 * 5)))]) dX1_goThrough_135 rfl (by decide) rfl ?_
          refine sv_goto (pc := 138) (tgt := 88) dX1_goThrough_138 (by decide) ?_
          refine mr_lvS (lv' := [(0, .ref 21), (2, iv p2), (3, .ref b10), (5, iv z1189), (7, iv z1342), (8, iv ((z1190 + 2) + (z1339 * 5))), (9, iv 1), (10, iv (z1466 + 5))]) (List.forall_mem_cons.mpr ⟨rfl, List.forall_mem_cons.mpr ⟨rfl, List.forall_mem_cons.mpr ⟨rfl, List.forall_mem_cons.mpr ⟨rfl, List.forall_mem_cons.mpr ⟨rfl, List.forall_mem_cons.mpr ⟨rfl, List.forall_mem_cons.mpr ⟨rfl, List.forall_mem_cons.mpr ⟨rfl, fun _ h => absurd h List.not_mem_nil⟩⟩⟩⟩⟩⟩⟩⟩) ?_
          exact ih1476 1 (z1466 + 5) trivial (rW (c := 0) (d := 1) (rR (x := 1)) rfl) (vc_X1_goThrough_12_32 h1474 h1506 h1338 h1346 h1337 h1193 h1347 h1348 h1470) (vc_X1_goThrough_12_33 h1338 h1346 h1474 h1506 h1337 h1193 h1347 h1348 h1470) (vc_X1_goThrough_12_34 (nS h1475) h1474 h1506 h1338 h1346 h1337 h1193 h1347 h1348 h1470)
      refine mr_lvS (lv' := [(0, .ref 21), (2, iv p2), (3, .ref b10), (5, iv z1189), (7, iv z1342), (8, iv ((z1190 + 2) + (z1339 * 5))), (9, iv 1), (10, iv (z1190 + 2))]) (List.forall_mem_cons.mpr ⟨rfl, List.forall_mem_cons.mpr ⟨rfl, List.forall_mem_cons.mpr ⟨rfl, List.forall_mem_cons.mpr ⟨rfl, List.forall_mem_cons.mpr ⟨rfl, List.forall_mem_cons.mpr ⟨rfl, List.forall_mem_cons.mpr ⟨rfl, List.forall_mem_cons.mpr ⟨rfl, fun _ h => absurd h List.not_mem_nil⟩⟩⟩⟩⟩⟩⟩⟩) ?_
      exact L1468 2010 1 (z1190 + 2) trivial (rW (c := 0) (d := 1) (rR (x := 1)) rfl) (rW (c := 2) (d := 2010) (rAdd (e := 2) (f := 2002) h1193 (rR (x := 2)) rfl) rfl) (vc_X1_goThrough_12_39 h1338 h1346 h1337 h1193 h1347 h1348) (vc_X1_goThrough_12_40 h1338 h1346 h1337 h1193 h1347 h1348)
  refine mr_lvS (lv' := [(0, .ref 21), (2, iv p2), (3, .ref b10), (4, iv 0), (5, iv 0)]) (List.forall_mem_cons.mpr ⟨rfl, List.forall_mem_cons.mpr ⟨rfl, List.forall_mem_cons.mpr ⟨rfl, List.forall_mem_cons.mpr ⟨rfl, List.forall_mem_cons.mpr ⟨rfl, fun _ h => absurd h List.not_mem_nil⟩⟩⟩⟩⟩) ?_
  exact L1192 2002 0 0 μ hT mF.refl (rW (c := 0) (d := 2000) (rR (x := 0)) rfl) (rW (c := 0) (d := 30) (rR (x := 0)) rfl) hIPC hIRT R18 vc_X1_goThrough_12_41
set_option maxRecDepth 4000 in
set_option maxHeartbeats 4000000 in
theorem c_X1_doActs_11 {l : Launch} {D : va_G} {c : Nat → ClassId} {H0 : Heap} {sa : Nat × Nat × (Nat → Int32)} {w : mW} {μ : mM} (hw : mWF w) (hT : mT w μ) {a1 : Nat} (hA1 : mAt w a1 231) {p2 : Int} (hp2 : 0 ≤ p2 ∧ p2 ≤ 2000) {p3 : Int} (hp3 : 0 ≤ p3 ∧ p3 ≤ 1000) {p4 : Int} (hp4 : 11 ≤ p4 ∧ p4 ≤ 11) (hIPC : PC w μ) (hIRT : RT μ) (hlen : p2 + 2 * p3 ≤ (w.2.2.1 a1 : Int)) (harg : ∀ i : Int, 0 ≤ i → i < p3 → 0 ≤ μ a1 (p2 + 2 * i + 1).toNat ∧ μ a1 (p2 + 2 * i + 1).toNat ≤ 1000000) : sC (gG l D c H0 sa) mX1_doActs 6 0 0 [.ref 21, .ref a1, iv p2, iv p3, iv p4] (mk w μ) (qV w [21006, 21007, 200004, 200006, 200007, 200008, 201999, 202999] μ (fun μ1 => True)) := by
  refine sC.of rfl (by decide) (le_t rfl) ?_
  refine mr_lvE (lv' := [(0, .ref 21), (1, .ref a1), (2, iv p2), (3, iv p3), (4, iv p4)]) rfl ?_
  obtain ⟨n_1, q2⟩ : ∃ n : Int, (w.2.2.1 a1 : Int) = n := ⟨_, rfl⟩
  have h3 : 0 ≤ n_1 ∧ n_1 ≤ 2000 := lnR (m := 2000) q2 hA1 rfl
  have h4 : p2 + 2 * p3 ≤ n_1 := lnLe q2 hlen
  refine mr_iconst (pc := 0) (z := 0) dX1_doActs_0 ?_
  refine mr_istore (pc := 1) (lv' := [(5, iv 0), (0, .ref 21), (1, .ref a1), (2, iv p2), (3, iv p3), (4, iv p4)]) dX1_doActs_1 (by decide) rfl ?_
  have L1991 : ∀ (nL1991 : Nat) (z1989 : Int) (μ1990 : mM), mT w μ1990 → mF [21006, 21007, 200004, 200006, 200007, 200008, 201999, 202999] w μ μ1990 → (0 ≤ z1989 ∧ z1989 ≤ 1000) → PC w μ1990 → RT μ1990 → (1001 - z1989) < (nL1991 : Int) → sV (gG l D c H0 sa) mX1_doActs (sRm 6 0 0) (sZ (gG l D c H0 sa) 0 0 (qV w [21006, 21007, 200004, 200006, 200007, 200008, 201999, 202999] μ (fun μ1 => True))) 3 [(0, .ref 21), (1, .ref a1), (2, iv p2), (3, iv p3), (4, iv p4), (5, iv z1989)] [] (mk w μ1990) 0 0 := by
    intro nL1991
    induction nL1991 with
    | zero => intro z1989 μ1990 T1993 F1994 h1992 I1996 I1997 h1998; exact ((vc_X1_doActs_12_1 h1998 h1992)).elim
    | succ nL1991 ih1999 =>
      intro z1989 μ1990 T1993 F1994 h1992 I1996 I1997 h1998
      refine mr_iload (pc := 3) (z := z1989) dX1_doActs_3 rfl ?_
      refine mr_iload_n (pc := 5) (z := p3) dX1_doActs_5 rfl rfl ?_
      refine mr_icmp_ge (pc := 6) (tgt := 266) dX1_doActs_6 (by decide) (r32 h1992 rfl) (r32 hp3 rfl) (fun h2000 => ?_) (fun h2000 => ?_)
      · exact mr_vret dX1_doActs_266 rfl (le_t rfl) (le_t rfl) T1993 (mF.call mF.refl F1994 rfl) trivial
      have h2001 : 0 ≤ z1989 ∧ z1989 ≤ 999 := (vc_X1_doActs_12_2 h2000 h4 h3 hp2 hp3 h1992)
      have h2002 : 1 ≤ p3 ∧ p3 ≤ 1000 := (vc_X1_doActs_12_3 h2000 h4 h3 hp2 hp3 h2001)
      refine sv_aload_n (pc := 9) dX1_doActs_9 rfl rfl ?_
      refine gf_X1_7 (pc := 10) dX1_doActs_10 wF_X1_50 (A_21 hw) T1993 fun z2003 q2004 h2005 => ?_
      refine mr_if_ne (pc := 13) (tgt := 266) dX1_doActs_13 (by decide) (r32 h2005 rfl) (fun h2006 => ?_) (fun h2006 => ?_)
      · have h2007 : 1 ≤ z2003 ∧ z2003 ≤ 2 := (vc_X10_coneOf_12 h2006 h2005)
        exact mr_vret dX1_doActs_266 rfl (le_t rfl) (le_t rfl) T1993 (mF.call mF.refl F1994 rfl) trivial
      have h2008 : 0 ≤ z2003 ∧ z2003 ≤ 0 := (vc_X10_coneOf_13 h2006 h2005)
      refine sv_aload_n (pc := 16) dX1_doActs_16 rfl rfl ?_
      refine mr_iload_n (pc := 17) (z := p2) dX1_doActs_17 rfl rfl ?_
      refine mr_iload (pc := 18) (z := z1989) dX1_doActs_18 rfl ?_
      refine mr_iconst (pc := 20) (z := 2) dX1_doActs_20 ?_
      refine mr_imul (pc := 21) (x := z1989) (y := 2) dX1_doActs_21 ?_
      refine mr_iadd (pc := 22) (x := p2) (y := (z1989 * 2)) dX1_doActs_22 ?_
      refine mr_iconst (pc := 23) (z := 1) dX1_doActs_23 ?_
      refine mr_iadd (pc := 24) (x := (p2 + (z1989 * 2))) (y := 1) dX1_doActs_24 ?_
      refine la_231 (pc := 25) dX1_doActs_25 hA1 T1993 (lnC q2 (vc_X1_doActs_12_6 h4 h2000 h3 hp2 h2002 h2001)) fun z2009 q2010 h2011 => ?_
      have h2012 : 0 ≤ z2009 ∧ z2009 ≤ 1000000 := argB harg (vc_X1_doActs_12_7 h2000 h4 h3 hp2 h2002 h2001) (vc_X1_doActs_12_8 h4 h2000 h3 hp2 h2002 h2001) (vc_X1_doActs_12_9 h4 h2000 h3 hp2 h2002 h2001) (((mF.call mF.refl F1994 rfl) : mF [21006, 21007, 200004, 200006, 200007, 200008, 201999, 202999] w μ μ1990).f hA1 rfl rfl) q2010
      refine mr_istore (pc := 26) (lv' := [(6, iv z2009), (0, .ref 21), (1, .ref a1), (2, iv p2), (3, iv p3), (4, iv p4), (5, iv z1989)]) dX1_doActs_26 (by decide) rfl ?_
      refine sv_aload_n (pc := 28) dX1_doActs_28 rfl rfl ?_
      refine gf_X1_6 (pc := 29) dX1_doActs_29 wF_X1_47 (A_21 hw) T1993 fun z2013 q2014 h2015 => ?_
      refine mr_sipush (pc := 32) (z := 500) dX1_doActs_32 (by decide) ?_
      refine mr_icmp_lt (pc := 35) (tgt := 44) dX1_doActs_35 (by decide) (r32 h2015 rfl) (r32 (rR (x := 500)) rfl) (fun h2016 => ?_) (fun h2016 => ?_)
      · have h2017 : 0 ≤ z2013 ∧ z2013 ≤ 499 := (vc_X1_doActs_12_10 h2016 h2015)
        refine sv_aload_n (pc := 44) dX1_doActs_44 rfl rfl ?_
        refine sv_dup (pc := 45) dX1_doActs_45 rfl ?_
        refine gk_X1_6 (pc := 46) dX1_doActs_46 wF_X1_47 (A_21 hw) q2014 ?_
        refine mr_iconst (pc := 49) (z := 1) dX1_doActs_49 ?_
        refine mr_iadd (pc := 50) (x := z2013) (y := 1) dX1_doActs_50 ?_
        refine pf_X1_6 (pc := 51) dX1_doActs_51 wF_X1_47 (A_21 hw) T1993 (rW (c := 0) (d := 500) (rAdd (e := 1) (f := 500) h2017 (rR (x := 1)) rfl) rfl) fun μ2018 u2019 T2020 => ?_
        refine sv_aload_n (pc := 54) dX1_doActs_54 rfl rfl ?_
        refine mr_iload_n (pc := 55) (z := p2) dX1_doActs_55 rfl rfl ?_
        refine mr_iload (pc := 56) (z := z1989) dX1_doActs_56 rfl ?_
        refine mr_iconst (pc := 58) (z := 2) dX1_doActs_58 ?_
        refine mr_imul (pc := 59) (x := z1989) (y := 2) dX1_doActs_59 ?_
        refine mr_iadd (pc := 60) (x := p2) (y := (z1989 * 2)) dX1_doActs_60 ?_
        refine la_231 (pc := 61) dX1_doActs_61 hA1 T2020 (lnC q2 (vc_X1_doActs_12_11 h4 h2000 h3 hp2 h2002 h2001)) fun z2021 q2022 h2023 => ?_
        by_cases h2024 : z2021 = 12
        · refine mr_tableIn (pc := 62) (v := 12) (tgt := 184) dX1_doActs_62 h2024 rfl rfl (by decide) ?_
          have h2025 : 12 ≤ z2021 ∧ z2021 ≤ 12 := (vc_X1_doActs_12_12 h2024 h2023)
          refine sv_aload_n (pc := 184) dX1_doActs_184 rfl rfl ?_
          refine gf_X1_2 (pc := 185) dX1_doActs_185 wF_X1_25 (A_21 hw) T2020 (RT.keep I1997 hw ((mF.up mF.refl (A_21 hw) u2019 rfl) : mF [21006] w μ1990 μ2018) rfl) fun b2026 q2027 A2028 => ?_
          refine mr_iload (pc := 188) (z := z2009) dX1_doActs_188 rfl ?_
          refine pf_X7_4 (pc := 190) dX1_doActs_190 wF_X1_105 A2028 T2020 (rW (c := (-2147483648)) (d := 2147483647) h2012 rfl) fun μ2029 u2030 T2031 => ?_
          refine sv_goto (pc := 193) (tgt := 260) dX1_doActs_193 (by decide) ?_
          refine mr_iinc (pc := 260) (lv' := [(5, iv (z1989 + 1)), (6, iv z2009), (0, .ref 21), (1, .ref a1), (2, iv p2), (3, iv p3), (4, iv p4)]) dX1_doActs_260 rfl (by decide) rfl ?_
          refine sv_goto (pc := 263) (tgt := 3) dX1_doActs_263 (by decide) ?_
          refine mr_lvS (lv' := [(0, .ref 21), (1, .ref a1), (2, iv p2), (3, iv p3), (4, iv p4), (5, iv (z1989 + 1))]) (List.forall_mem_cons.mpr ⟨rfl, List.forall_mem_cons.mpr ⟨rfl, List.forall_mem_cons.mpr ⟨rfl, List.forall_mem_cons.mpr ⟨rfl, List.forall_mem_cons.mpr ⟨rfl, List.forall_mem_cons.mpr ⟨rfl, fun _ h => absurd h List.not_mem_nil⟩⟩⟩⟩⟩⟩) ?_
          exact ih1999 (z1989 + 1) μ2029 T2031 (mF.up (mF.up (mF.call mF.refl F1994 rfl) (A_21 hw) u2019 rfl) A2028 u2030 rfl) (rW (c := 0) (d := 1000) (rAdd (e := 1) (f := 1000) h2001 (rR (x := 1)) rfl) rfl) (PC.keep I1996 hw ((mF.up (mF.up mF.refl (A_21 hw) u2019 rfl) A2028 u2030 rfl) : mF [21006, 200004] w μ1990 μ2029) rfl) (RT.keep I1997 hw ((mF.up (mF.up mF.refl (A_21 hw) u2019 rfl) A2028 u2030 rfl) : mF [21006, 200004] w μ1990 μ2029) rfl) (vc_X1_doActs_12_13 (nS h1998) h2000 h4 h3 hp2 h2002 h2001)
        by_cases h2032 : z2021 = 13
        · refine mr_tableIn (pc := 62) (v := 13) (tgt := 196) dX1_doActs_62 h2032 rfl rfl (by decide) ?_
          have h2033 : 13 ≤ z2021 ∧ z2021 ≤ 13 := (vc_X1_doActs_12_14 h2032 h2024 h2023)
          refine sv_aload_n (pc := 196) dX1_doActs_196 rfl rfl ?_
          refine gf_X1_2 (pc := 197) dX1_doActs_197 wF_X1_25 (A_21 hw) T2020 (RT.keep I1997 hw ((mF.up mF.refl (A_21 hw) u2019 rfl) : mF [21006] w μ1990 μ2018) rfl) fun b2034 q2035 A2036 => ?_
          refine mr_iload (pc := 200) (z := z2009) dX1_doActs_200 rfl ?_
          refine pf_X7_6 (pc := 202) dX1_doActs_202 wF_X1_108 A2036 T2020 (rW (c := (-2147483648)) (d := 2147483647) h2012 rfl) fun μ2037 u2038 T2039 => ?_
          refine sv_goto (pc := 205) (tgt := 260) dX1_doActs_205 (by decide) ?_
          refine mr_iinc (pc := 260) (lv' := [(5, iv (z1989 + 1)), (6, iv z2009), (0, .ref 21), (1, .ref a1), (2, iv p2), (3, iv p3), (4, iv p4)]) dX1_doActs_260 rfl (by decide) rfl ?_
          refine sv_goto (pc := 263) (tgt := 3) dX1_doActs_263 (by decide) ?_
          refine mr_lvS (lv' := [(0, .ref 21), (1, .ref a1), (2, iv p2), (3, iv p3), (4, iv p4), (5, iv (z1989 + 1))]) (List.forall_mem_cons.mpr ⟨rfl, List.forall_mem_cons.mpr ⟨rfl, List.forall_mem_cons.mpr ⟨rfl, List.forall_mem_cons.mpr ⟨rfl, List.forall_mem_cons.mpr ⟨rfl, List.forall_mem_cons.mpr ⟨rfl, fun _ h => absurd h List.not_mem_nil⟩⟩⟩⟩⟩⟩) ?_
          exact ih1999 (z1989 + 1) μ2037 T2039 (mF.up (mF.up (mF.call mF.refl F1994 rfl) (A_21 hw) u2019 rfl) A2036 u2038 rfl) (rW (c := 0) (d := 1000) (rAdd (e := 1) (f := 1000) h2001 (rR (x := 1)) rfl) rfl) (PC.keep I1996 hw ((mF.up (mF.up mF.refl (A_21 hw) u2019 rfl) A2036 u2038 rfl) : mF [21006, 200006] w μ1990 μ2037) rfl) (RT.keep I1997 hw ((mF.up (mF.up mF.refl (A_21 hw) u2019 rfl) A2036 u2038 rfl) : mF [21006, 200006] w μ1990 μ2037) rfl) (vc_X1_doActs_12_13 (nS h1998) h2000 h4 h3 hp2 h2002 h2001)
        by_cases h2040 : z2021 = 14
        · refine mr_tableIn (pc := 62) (v := 14) (tgt := 260) dX1_doActs_62 h2040 rfl rfl (by decide) ?_
          have h2041 : 14 ≤ z2021 ∧ z2021 ≤ 14 := (vc_X1_doActs_12_15 h2040 h2024 h2032 h2023)
          refine mr_iinc (pc := 260) (lv' := [(5, iv (z1989 + 1)), (6, iv z2009), (0, .ref 21), (1, .ref a1), (2, iv p2), (3, iv p3), (4, iv p4)]) dX1_doActs_260 rfl (by decide) rfl ?_
          refine sv_goto (pc := 263) (tgt := 3) dX1_doActs_263 (by decide) ?_
          refine mr_lvS (lv' := [(0, .ref 21), (1, .ref a1), (2, iv p2), (3, iv p3), (4, iv p4), (5, iv (z1989 + 1))]) (List.forall_mem_cons.mpr ⟨rfl, List.forall_mem_cons.mpr ⟨rfl, List.forall_mem_cons.mpr ⟨rfl, List.forall_mem_cons.mpr ⟨rfl, List.forall_mem_cons.mpr ⟨rfl, List.forall_mem_cons.mpr ⟨rfl, fun _ h => absurd h List.not_mem_nil⟩⟩⟩⟩⟩⟩) ?_
          exact ih1999 (z1989 + 1) μ2018 T2020 (mF.up (mF.call mF.refl F1994 rfl) (A_21 hw) u2019 rfl) (rW (c := 0) (d := 1000) (rAdd (e := 1) (f := 1000) h2001 (rR (x := 1)) rfl) rfl) (PC.keep I1996 hw ((mF.up mF.refl (A_21 hw) u2019 rfl) : mF [21006] w μ1990 μ2018) rfl) (RT.keep I1997 hw ((mF.up mF.refl (A_21 hw) u2019 rfl) : mF [21006] w μ1990 μ2018) rfl) (vc_X1_doActs_12_13 (nS h1998) h2000 h4 h3 hp2 h2002 h2001)
        by_cases h2042 : z2021 = 15
        · refine mr_tableIn (pc := 62) (v := 15) (tgt := 260) dX1_doActs_62 h2042 rfl rfl (by decide) ?_
          have h2043 : 15 ≤ z2021 ∧ z2021 ≤ 15 := (vc_X1_doActs_12_16 h2042 h2024 h2032 h2040 h2023)
          refine mr_iinc (pc := 260) (lv' := [(5, iv (z1989 + 1)), (6, iv z2009), (0, .ref 21), (1, .ref a1), (2, iv p2), (3, iv p3), (4, iv p4)]) dX1_doActs_260 rfl (by decide) rfl ?_
          refine sv_goto (pc := 263) (tgt := 3) dX1_doActs_263 (by decide) ?_
          refine mr_lvS (lv' := [(0, .ref 21), (1, .ref a1), (2, iv p2), (3, iv p3), (4, iv p4), (5, iv (z1989 + 1))]) (List.forall_mem_cons.mpr ⟨rfl, List.forall_mem_cons.mpr ⟨rfl, List.forall_mem_cons.mpr ⟨rfl, List.forall_mem_cons.mpr ⟨rfl, List.forall_mem_cons.mpr ⟨rfl, List.forall_mem_cons.mpr ⟨rfl, fun _ h => absurd h List.not_mem_nil⟩⟩⟩⟩⟩⟩) ?_
          exact ih1999 (z1989 + 1) μ2018 T2020 (mF.up (mF.call mF.refl F1994 rfl) (A_21 hw) u2019 rfl) (rW (c := 0) (d := 1000) (rAdd (e := 1) (f := 1000) h2001 (rR (x := 1)) rfl) rfl) (PC.keep I1996 hw ((mF.up mF.refl (A_21 hw) u2019 rfl) : mF [21006] w μ1990 μ2018) rfl) (RT.keep I1997 hw ((mF.up mF.refl (A_21 hw) u2019 rfl) : mF [21006] w μ1990 μ2018) rfl) (vc_X1_doActs_12_13 (nS h1998) h2000 h4 h3 hp2 h2002 h2001)
        by_cases h2044 : z2021 = 16
        · refine mr_tableIn (pc := 62) (v := 16) (tgt := 260) dX1_doActs_62 h2044 rfl rfl (by decide) ?_
          have h2045 : 16 ≤ z2021 ∧ z2021 ≤ 16 := (vc_X1_doActs_12_17 h2044 h2024 h2032 h2040 h2042 h2023)
          refine mr_iinc (pc := 260) (lv' := [(5, iv (z1989 + 1)), (6, iv z2009), (0, .ref 21), (1, .ref a1), (2, iv p2), (3, iv p3), (4, iv p4)]) dX1_doActs_260 rfl (by decide) rfl ?_
          refine sv_goto (pc := 263) (tgt := 3) dX1_doActs_263 (by decide) ?_
          refine mr_lvS (lv' := [(0, .ref 21), (1, .ref a1), (2, iv p2), (3, iv p3), (4, iv p4), (5, iv (z1989 + 1))]) (List.forall_mem_cons.mpr ⟨rfl, List.forall_mem_cons.mpr ⟨rfl, List.forall_mem_cons.mpr ⟨rfl, List.forall_mem_cons.mpr ⟨rfl, List.forall_mem_cons.mpr ⟨rfl, List.forall_mem_cons.mpr ⟨rfl, fun _ h => absurd h List.not_mem_nil⟩⟩⟩⟩⟩⟩) ?_
          exact ih1999 (z1989 + 1) μ2018 T2020 (mF.up (mF.call mF.refl F1994 rfl) (A_21 hw) u2019 rfl) (rW (c := 0) (d := 1000) (rAdd (e := 1) (f := 1000) h2001 (rR (x := 1)) rfl) rfl) (PC.keep I1996 hw ((mF.up mF.refl (A_21 hw) u2019 rfl) : mF [21006] w μ1990 μ2018) rfl) (RT.keep I1997 hw ((mF.up mF.refl (A_21 hw) u2019 rfl) : mF [21006] w μ1990 μ2018) rfl) (vc_X1_doActs_12_13 (nS h1998) h2000 h4 h3 hp2 h2002 h2001)
        by_cases h2046 : z2021 = 17
        · refine mr_tableIn (pc := 62) (v := 17) (tgt := 260) dX1_doActs_62 h2046 rfl rfl (by decide) ?_
          have h2047 : 17 ≤ z2021 ∧ z2021 ≤ 17 := (vc_X1_doActs_12_18 h2046 h2024 h2032 h2040 h2042 h2044 h2023)
          refine mr_iinc (pc := 260) (lv' := [(5, iv (z1989 + 1)), (6, iv z2009), (0, .ref 21), (1, .ref a1), (2, iv p2), (3, iv p3), (4, iv p4)]) dX1_doActs_260 rfl (by decide) rfl ?_
          refine sv_goto (pc := 263) (tgt := 3) dX1_doActs_263 (by decide) ?_
          refine mr_lvS (lv' := [(0, .ref 21), (1, .ref a1), (2, iv p2), (3, iv p3), (4, iv p4), (5, iv (z1989 + 1))]) (List.forall_mem_cons.mpr ⟨rfl, List.forall_mem_cons.mpr ⟨rfl, List.forall_mem_cons.mpr ⟨rfl, List.forall_mem_cons.mpr ⟨rfl, List.forall_mem_cons.mpr ⟨rfl, List.forall_mem_cons.mpr ⟨rfl, fun _ h => absurd h List.not_mem_nil⟩⟩⟩⟩⟩⟩) ?_
          exact ih1999 (z1989 + 1) μ2018 T2020 (mF.up (mF.call mF.refl F1994 rfl) (A_21 hw) u2019 rfl) (rW (c := 0) (d := 1000) (rAdd (e := 1) (f := 1000) h2001 (rR (x := 1)) rfl) rfl) (PC.keep I1996 hw ((mF.up mF.refl (A_21 hw) u2019 rfl) : mF [21006] w μ1990 μ2018) rfl) (RT.keep I1997 hw ((mF.up mF.refl (A_21 hw) u2019 rfl) : mF [21006] w μ1990 μ2018) rfl) (vc_X1_doActs_12_13 (nS h1998) h2000 h4 h3 hp2 h2002 h2001)
        by_cases h2048 : z2021 = 18
        · refine mr_tableIn (pc := 62) (v := 18) (tgt := 260) dX1_doActs_62 h2048 rfl rfl (by decide) ?_
          have h2049 : 18 ≤ z2021 ∧ z2021 ≤ 18 := (vc_X1_doActs_12_19 h2048 h2024 h2032 h2040 h2042 h2044 h2046 h2023)
          refine mr_iinc (pc := 260) (lv' := [(5, iv (z1989 + 1)), (6, iv z2009), (0, .ref 21), (1, .ref a1), (2, iv p2), (3, iv p3), (4, iv p4)]) dX1_doActs_260 rfl (by decide) rfl ?_
          refine sv_goto (pc := 263) (tgt := 3) dX1_doActs_263 (by decide) ?_
          refine mr_lvS (lv' := [(0, .ref 21), (1, .ref a1), (2, iv p2), (3, iv p3), (4, iv p4), (5, iv (z1989 + 1))]) (List.forall_mem_cons.mpr ⟨rfl, List.forall_mem_cons.mpr ⟨rfl, List.forall_mem_cons.mpr ⟨rfl, List.forall_mem_cons.mpr ⟨rfl, List.forall_mem_cons.mpr ⟨rfl, List.forall_mem_cons.mpr ⟨rfl, fun _ h => absurd h List.not_mem_nil⟩⟩⟩⟩⟩⟩) ?_
          exact ih1999 (z1989 + 1) μ2018 T2020 (mF.up (mF.call mF.refl F1994 rfl) (A_21 hw) u2019 rfl) (rW (c := 0) (d := 1000) (rAdd (e := 1) (f := 1000) h2001 (rR (x := 1)) rfl) rfl) (PC.keep I1996 hw ((mF.up mF.refl (A_21 hw) u2019 rfl) : mF [21006] w μ1990 μ2018) rfl) (RT.keep I1997 hw ((mF.up mF.refl (A_21 hw) u2019 rfl) : mF [21006] w μ1990 μ2018) rfl) (vc_X1_doActs_12_13 (nS h1998) h2000 h4 h3 hp2 h2002 h2001)
        by_cases h2050 : z2021 = 19
        · refine mr_tableIn (pc := 62) (v := 19) (tgt := 260) dX1_doActs_62 h2050 rfl rfl (by decide) ?_
          have h2051 : 19 ≤ z2021 ∧ z2021 ≤ 19 := (vc_X1_doActs_12_20 h2050 h2024 h2032 h2040 h2042 h2044 h2046 h2048 h2023)
          refine mr_iinc (pc := 260) (lv' := [(5, iv (z1989 + 1)), (6, iv z2009), (0, .ref 21), (1, .ref a1), (2, iv p2), (3, iv p3), (4, iv p4)]) dX1_doActs_260 rfl (by decide) rfl ?_
          refine sv_goto (pc := 263) (tgt := 3) dX1_doActs_263 (by decide) ?_
          refine mr_lvS (lv' := [(0, .ref 21), (1, .ref a1), (2, iv p2), (3, iv p3), (4, iv p4), (5, iv (z1989 + 1))]) (List.forall_mem_cons.mpr ⟨rfl, List.forall_mem_cons.mpr ⟨rfl, List.forall_mem_cons.mpr ⟨rfl, List.forall_mem_cons.mpr ⟨rfl, List.forall_mem_cons.mpr ⟨rfl, List.forall_mem_cons.mpr ⟨rfl, fun _ h => absurd h List.not_mem_nil⟩⟩⟩⟩⟩⟩) ?_
          exact ih1999 (z1989 + 1) μ2018 T2020 (mF.up (mF.call mF.refl F1994 rfl) (A_21 hw) u2019 rfl) (rW (c := 0) (d := 1000) (rAdd (e := 1) (f := 1000) h2001 (rR (x := 1)) rfl) rfl) (PC.keep I1996 hw ((mF.up mF.refl (A_21 hw) u2019 rfl) : mF [21006] w μ1990 μ2018) rfl) (RT.keep I1997 hw ((mF.up mF.refl (A_21 hw) u2019 rfl) : mF [21006] w μ1990 μ2018) rfl) (vc_X1_doActs_12_13 (nS h1998) h2000 h4 h3 hp2 h2002 h2001)
        by_cases h2052 : z2021 = 20
        · refine mr_tableIn (pc := 62) (v := 20) (tgt := 260) dX1_doActs_62 h2052 rfl rfl (by decide) ?_
          have h2053 : 20 ≤ z2021 ∧ z2021 ≤ 20 := (vc_X1_doActs_12_21 h2052 h2032 h2040 h2042 h2044 h2046 h2048 h2050 h2023)
          refine mr_iinc (pc := 260) (lv' := [(5, iv (z1989 + 1)), (6, iv z2009), (0, .ref 21), (1, .ref a1), (2, iv p2), (3, iv p3), (4, iv p4)]) dX1_doActs_260 rfl (by decide) rfl ?_
          refine sv_goto (pc := 263) (tgt := 3) dX1_doActs_263 (by decide) ?_
          refine mr_lvS (lv' := [(0, .ref 21), (1, .ref a1), (2, iv p2), (3, iv p3), (4, iv p4), (5, iv (z1989 + 1))]) (List.forall_mem_cons.mpr ⟨rfl, List.forall_mem_cons.mpr ⟨rfl, List.forall_mem_cons.mpr ⟨rfl, List.forall_mem_cons.mpr ⟨rfl, List.forall_mem_cons.mpr ⟨rfl, List.forall_mem_cons.mpr ⟨rfl, fun _ h => absurd h List.not_mem_nil⟩⟩⟩⟩⟩⟩) ?_
          exact ih1999 (z1989 + 1) μ2018 T2020 (mF.up (mF.call mF.refl F1994 rfl) (A_21 hw) u2019 rfl) (rW (c := 0) (d := 1000) (rAdd (e := 1) (f := 1000) h2001 (rR (x := 1)) rfl) rfl) (PC.keep I1996 hw ((mF.up mF.refl (A_21 hw) u2019 rfl) : mF [21006] w μ1990 μ2018) rfl) (RT.keep I1997 hw ((mF.up mF.refl (A_21 hw) u2019 rfl) : mF [21006] w μ1990 μ2018) rfl) (vc_X1_doActs_12_13 (nS h1998) h2000 h4 h3 hp2 h2002 h2001)
        by_cases h2054 : z2021 = 21
        · refine mr_tableIn (pc := 62) (v := 21) (tgt := 260) dX1_doActs_62 h2054 rfl rfl (by decide) ?_
          have h2055 : 21 ≤ z2021 ∧ z2021 ≤ 21 := (vc_X1_doActs_12_22 h2054 h2040 h2042 h2044 h2046 h2048 h2050 h2052 h2023)
          refine mr_iinc (pc := 260) (lv' := [(5, iv (z1989 + 1)), (6, iv z2009), (0, .ref 21), (1, .ref a1), (2, iv p2), (3, iv p3), (4, iv p4)]) dX1_doActs_260 rfl (by decide) rfl ?_
          refine sv_goto (pc := 263) (tgt := 3) dX1_doActs_263 (by decide) ?_
          refine mr_lvS (lv' := [(0, .ref 21), (1, .ref a1), (2, iv p2), (3, iv p3), (4, iv p4), (5, iv (z1989 + 1))]) (List.forall_mem_cons.mpr ⟨rfl, List.forall_mem_cons.mpr ⟨rfl, List.forall_mem_cons.mpr ⟨rfl, List.forall_mem_cons.mpr ⟨rfl, List.forall_mem_cons.mpr ⟨rfl, List.forall_mem_cons.mpr ⟨rfl, fun _ h => absurd h List.not_mem_nil⟩⟩⟩⟩⟩⟩) ?_
          exact ih1999 (z1989 + 1) μ2018 T2020 (mF.up (mF.call mF.refl F1994 rfl) (A_21 hw) u2019 rfl) (rW (c := 0) (d := 1000) (rAdd (e := 1) (f := 1000) h2001 (rR (x := 1)) rfl) rfl) (PC.keep I1996 hw ((mF.up mF.refl (A_21 hw) u2019 rfl) : mF [21006] w μ1990 μ2018) rfl) (RT.keep I1997 hw ((mF.up mF.refl (A_21 hw) u2019 rfl) : mF [21006] w μ1990 μ2018) rfl) (vc_X1_doActs_12_13 (nS h1998) h2000 h4 h3 hp2 h2002 h2001)
        by_cases h2056 : z2021 = 22
        · refine mr_tableIn (pc := 62) (v := 22) (tgt := 260) dX1_doActs_62 h2056 rfl rfl (by decide) ?_
          have h2057 : 22 ≤ z2021 ∧ z2021 ≤ 22 := (vc_X1_doActs_12_23 h2056 h2042 h2044 h2046 h2048 h2050 h2052 h2054 h2023)
          refine mr_iinc (pc := 260) (lv' := [(5, iv (z1989 + 1)), (6, iv z2009), (0, .ref 21), (1, .ref a1), (2, iv p2), (3, iv p3), (4, iv p4)]) dX1_doActs_260 rfl (by decide) rfl ?_
          refine sv_goto (pc := 263) (tgt := 3) dX1_doActs_263 (by decide) ?_
          refine mr_lvS (lv' := [(0, .ref 21), (1, .ref a1), (2, iv p2), (3, iv p3), (4, iv p4), (5, iv (z1989 + 1))]) (List.forall_mem_cons.mpr ⟨rfl, List.forall_mem_cons.mpr ⟨rfl, List.forall_mem_cons.mpr ⟨rfl, List.forall_mem_cons.mpr ⟨rfl, List.forall_mem_cons.mpr ⟨rfl, List.forall_mem_cons.mpr ⟨rfl, fun _ h => absurd h List.not_mem_nil⟩⟩⟩⟩⟩⟩) ?_
          exact ih1999 (z1989 + 1) μ2018 T2020 (mF.up (mF.call mF.refl F1994 rfl) (A_21 hw) u2019 rfl) (rW (c := 0) (d := 1000) (rAdd (e := 1) (f := 1000) h2001 (rR (x := 1)) rfl) rfl) (PC.keep I1996 hw ((mF.up mF.refl (A_21 hw) u2019 rfl) : mF [21006] w μ1990 μ2018) rfl) (RT.keep I1997 hw ((mF.up mF.refl (A_21 hw) u2019 rfl) : mF [21006] w μ1990 μ2018) rfl) (vc_X1_doActs_12_13 (nS h1998) h2000 h4 h3 hp2 h2002 h2001)
        by_cases h2058 : z2021 = 23
        · refine mr_tableIn (pc := 62) (v := 23) (tgt := 144) dX1_doActs_62 h2058 rfl rfl (by decide) ?_
          have h2059 : 23 ≤ z2021 ∧ z2021 ≤ 23 := (vc_X1_doActs_12_24 h2058 h2044 h2046 h2048 h2050 h2052 h2054 h2056 h2023)
          refine sv_aload_n (pc := 144) dX1_doActs_144 rfl rfl ?_
          refine mr_iconst (pc := 145) (z := 1) dX1_doActs_145 ?_
          refine pf_X1_7 (pc := 146) dX1_doActs_146 wF_X1_50 (A_21 hw) T2020 (rW (c := 0) (d := 2) (rR (x := 1)) rfl) fun μ2060 u2061 T2062 => ?_
          refine sv_goto (pc := 149) (tgt := 260) dX1_doActs_149 (by decide) ?_
          refine mr_iinc (pc := 260) (lv' := [(5, iv (z1989 + 1)), (6, iv z2009), (0, .ref 21), (1, .ref a1), (2, iv p2), (3, iv p3), (4, iv p4)]) dX1_doActs_260 rfl (by decide) rfl ?_
          refine sv_goto (pc := 263) (tgt := 3) dX1_doActs_263 (by decide) ?_
          refine mr_lvS (lv' := [(0, .ref 21), (1, .ref a1), (2, iv p2), (3, iv p3), (4, iv p4), (5, iv (z1989 + 1))]) (List.forall_mem_cons.mpr ⟨rfl, List.forall_mem_cons.mpr ⟨rfl, List.forall_mem_cons.mpr ⟨rfl, List.forall_mem_cons.mpr ⟨rfl, List.forall_mem_cons.mpr ⟨rfl, List.forall_mem_cons.mpr ⟨rfl, fun _ h => absurd h List.not_mem_nil⟩⟩⟩⟩⟩⟩) ?_
          exact ih1999 (z1989 + 1) μ2060 T2062 (mF.up (mF.up (mF.call mF.refl F1994 rfl) (A_21 hw) u2019 rfl) (A_21 hw) u2061 rfl) (rW (c := 0) (d := 1000) (rAdd (e := 1) (f := 1000) h2001 (rR (x := 1)) rfl) rfl) (PC.keep I1996 hw ((mF.up (mF.up mF.refl (A_21 hw) u2019 rfl) (A_21 hw) u2061 rfl) : mF [21006, 21007] w μ1990 μ2060) rfl) (RT.keep I1997 hw ((mF.up (mF.up mF.refl (A_21 hw) u2019 rfl) (A_21 hw) u2061 rfl) : mF [21006, 21007] w μ1990 μ2060) rfl) (vc_X1_doActs_12_13 (nS h1998) h2000 h4 h3 hp2 h2002 h2001)
        by_cases h2063 : z2021 = 24
        · refine mr_tableIn (pc := 62) (v := 24) (tgt := 152) dX1_doActs_62 h2063 rfl rfl (by decide) ?_
          have h2064 : 24 ≤ z2021 ∧ z2021 ≤ 24 := (vc_X1_doActs_12_25 h2063 h2046 h2048 h2050 h2052 h2054 h2056 h2058 h2023)
          refine sv_aload_n (pc := 152) dX1_doActs_152 rfl rfl ?_
          refine mr_iconst (pc := 153) (z := 2) dX1_doActs_153 ?_
          refine pf_X1_7 (pc := 154) dX1_doActs_154 wF_X1_50 (A_21 hw) T2020 (rW (c := 0) (d := 2) (rR (x := 2)) rfl) fun μ2065 u2066 T2067 => ?_
          refine sv_goto (pc := 157) (tgt := 260) dX1_doActs_157 (by decide) ?_
          refine mr_iinc (pc := 260) (lv' := [(5, iv (z1989 + 1)), (6, iv z2009), (0, .ref 21), (1, .ref a1), (2, iv p2), (3, iv p3), (4, iv p4)]) dX1_doActs_260 rfl (by decide) rfl ?_
          refine sv_goto (pc := 263) (tgt := 3) dX1_doActs_263 (by decide) ?_
          refine mr_lvS (lv' := [(0, .ref 21), (1, .ref a1), (2, iv p2), (3, iv p3), (4, iv p4), (5, iv (z1989 + 1))]) (List.forall_mem_cons.mpr ⟨rfl, List.forall_mem_cons.mpr ⟨rfl, List.forall_mem_cons.mpr ⟨rfl, List.forall_mem_cons.mpr ⟨rfl, List.forall_mem_cons.mpr ⟨rfl, List.forall_mem_cons.mpr ⟨rfl, fun _ h => absurd h List.not_mem_nil⟩⟩⟩⟩⟩⟩) ?_
          exact ih1999 (z1989 + 1) μ2065 T2067 (mF.up (mF.up (mF.call mF.refl F1994 rfl) (A_21 hw) u2019 rfl) (A_21 hw) u2066 rfl) (rW (c := 0) (d := 1000) (rAdd (e := 1) (f := 1000) h2001 (rR (x := 1)) rfl) rfl) (PC.keep I1996 hw ((mF.up (mF.up mF.refl (A_21 hw) u2019 rfl) (A_21 hw) u2066 rfl) : mF [21006, 21007] w μ1990 μ2065) rfl) (RT.keep I1997 hw ((mF.up (mF.up mF.refl (A_21 hw) u2019 rfl) (A_21 hw) u2066 rfl) : mF [21006, 21007] w μ1990 μ2065) rfl) (vc_X1_doActs_12_13 (nS h1998) h2000 h4 h3 hp2 h2002 h2001)
        by_cases h2068 : z2021 = 25
        · refine mr_tableIn (pc := 62) (v := 25) (tgt := 160) dX1_doActs_62 h2068 rfl rfl (by decide) ?_
          have h2069 : 25 ≤ z2021 ∧ z2021 ≤ 25 := (vc_X1_doActs_12_26 h2068 h2048 h2050 h2052 h2054 h2056 h2058 h2063 h2023)
          refine sv_aload_n (pc := 160) dX1_doActs_160 rfl rfl ?_
          refine gf_X1_2 (pc := 161) dX1_doActs_161 wF_X1_25 (A_21 hw) T2020 (RT.keep I1997 hw ((mF.up mF.refl (A_21 hw) u2019 rfl) : mF [21006] w μ1990 μ2018) rfl) fun b2070 q2071 A2072 => ?_
          refine mr_iload (pc := 164) (z := z2009) dX1_doActs_164 rfl ?_
          refine mr_cVV (pc := 166) (c_X7_addMark hw T2020 A2072 (rW (c := (-2147483648)) (d := 2147483647) h2012 rfl)) (gOk _ _ _ _ _) dX1_doActs_166 (tX7_addMark _ _ _ _ _) ⟨wV_X7_addMark, wL_X7_addMark⟩ wM_X1_124 (gCX7 _ _ _ _ _) rfl A2072 rfl ⟨le_t rfl, le_t rfl⟩ ⟨le_t rfl, le_t rfl⟩ rfl (le_t rfl) fun μ2073 T2074 F2075 h2076 => ?_
          refine sv_goto (pc := 169) (tgt := 260) dX1_doActs_169 (by decide) ?_
          refine mr_iinc (pc := 260) (lv' := [(5, iv (z1989 + 1)), (6, iv z2009), (0, .ref 21), (1, .ref a1), (2, iv p2), (3, iv p3), (4, iv p4)]) dX1_doActs_260 rfl (by decide) rfl ?_
          refine sv_goto (pc := 263) (tgt := 3) dX1_doActs_263 (by decide) ?_
          refine mr_lvS (lv' := [(0, .ref 21), (1, .ref a1), (2, iv p2), (3, iv p3), (4, iv p4), (5, iv (z1989 + 1))]) (List.forall_mem_cons.mpr ⟨rfl, List.forall_mem_cons.mpr ⟨rfl, List.forall_mem_cons.mpr ⟨rfl, List.forall_mem_cons.mpr ⟨rfl, List.forall_mem_cons.mpr ⟨rfl, List.forall_mem_cons.mpr ⟨rfl, fun _ h => absurd h List.not_mem_nil⟩⟩⟩⟩⟩⟩) ?_
          exact ih1999 (z1989 + 1) μ2073 T2074 (mF.call (mF.up (mF.call mF.refl F1994 rfl) (A_21 hw) u2019 rfl) F2075 rfl) (rW (c := 0) (d := 1000) (rAdd (e := 1) (f := 1000) h2001 (rR (x := 1)) rfl) rfl) (PC.keep I1996 hw ((mF.call (mF.up mF.refl (A_21 hw) u2019 rfl) F2075 rfl) : mF [21006, 200008, 202999] w μ1990 μ2073) rfl) (RT.keep I1997 hw ((mF.call (mF.up mF.refl (A_21 hw) u2019 rfl) F2075 rfl) : mF [21006, 200008, 202999] w μ1990 μ2073) rfl) (vc_X1_doActs_12_13 (nS h1998) h2000 h4 h3 hp2 h2002 h2001)
        by_cases h2077 : z2021 = 26
        · refine mr_tableIn (pc := 62) (v := 26) (tgt := 172) dX1_doActs_62 h2077 rfl rfl (by decide) ?_
          have h2078 : 26 ≤ z2021 ∧ z2021 ≤ 26 := (vc_X1_doActs_12_27 h2077 h2050 h2052 h2054 h2056 h2058 h2063 h2068 h2023)
          refine sv_aload_n (pc := 172) dX1_doActs_172 rfl rfl ?_
          refine gf_X1_2 (pc := 173) dX1_doActs_173 wF_X1_25 (A_21 hw) T2020 (RT.keep I1997 hw ((mF.up mF.refl (A_21 hw) u2019 rfl) : mF [21006] w μ1990 μ2018) rfl) fun b2079 q2080 A2081 => ?_
          refine mr_iload (pc := 176) (z := z2009) dX1_doActs_176 rfl ?_
          refine mr_cVV (pc := 178) (c_X7_dropMark hw T2020 A2081 (rW (c := (-2147483648)) (d := 2147483647) h2012 rfl)) (gOk _ _ _ _ _) dX1_doActs_178 (tX7_dropMark _ _ _ _ _) ⟨wV_X7_dropMark, wL_X7_dropMark⟩ wM_X1_128 (gCX7 _ _ _ _ _) rfl A2081 rfl ⟨le_t rfl, le_t rfl⟩ ⟨le_t rfl, le_t rfl⟩ rfl (le_t rfl) fun μ2082 T2083 F2084 h2085 => ?_
          refine sv_goto (pc := 181) (tgt := 260) dX1_doActs_181 (by decide) ?_
          refine mr_iinc (pc := 260) (lv' := [(5, iv (z1989 + 1)), (6, iv z2009), (0, .ref 21), (1, .ref a1), (2, iv p2), (3, iv p3), (4, iv p4)]) dX1_doActs_260 rfl (by decide) rfl ?_
          refine sv_goto (pc := 263) (tgt := 3) dX1_doActs_263 (by decide) ?_
          refine mr_lvS (lv' := [(0, .ref 21), (1, .ref a1), (2, iv p2), (3, iv p3), (4, iv p4), (5, iv (z1989 + 1))]) (List.forall_mem_cons.mpr ⟨rfl, List.forall_mem_cons.mpr ⟨rfl, List.forall_mem_cons.mpr ⟨rfl, List.forall_mem_cons.mpr ⟨rfl, List.forall_mem_cons.mpr ⟨rfl, List.forall_mem_cons.mpr ⟨rfl, fun _ h => absurd h List.not_mem_nil⟩⟩⟩⟩⟩⟩) ?_
          exact ih1999 (z1989 + 1) μ2082 T2083 (mF.call (mF.up (mF.call mF.refl F1994 rfl) (A_21 hw) u2019 rfl) F2084 rfl) (rW (c := 0) (d := 1000) (rAdd (e := 1) (f := 1000) h2001 (rR (x := 1)) rfl) rfl) (PC.keep I1996 hw ((mF.call (mF.up mF.refl (A_21 hw) u2019 rfl) F2084 rfl) : mF [21006, 200008, 202999] w μ1990 μ2082) rfl) (RT.keep I1997 hw ((mF.call (mF.up mF.refl (A_21 hw) u2019 rfl) F2084 rfl) : mF [21006, 200008, 202999] w μ1990 μ2082) rfl) (vc_X1_doActs_12_13 (nS h1998) h2000 h4 h3 hp2 h2002 h2001)
        by_cases h2086 : z2021 = 27
        · refine mr_tableIn (pc := 62) (v := 27) (tgt := 208) dX1_doActs_62 h2086 rfl rfl (by decide) ?_
          have h2087 : 27 ≤ z2021 ∧ z2021 ≤ 27 := (vc_X1_doActs_12_28 h2086 h2052 h2054 h2056 h2058 h2063 h2068 h2077 h2023)
          refine sv_aload_n (pc := 208) dX1_doActs_208 rfl rfl ?_
          refine gf_X1_2 (pc := 209) dX1_doActs_209 wF_X1_25 (A_21 hw) T2020 (RT.keep I1997 hw ((mF.up mF.refl (A_21 hw) u2019 rfl) : mF [21006] w μ1990 μ2018) rfl) fun b2088 q2089 A2090 => ?_
          refine gf_X7_7 (pc := 212) dX1_doActs_212 wF_X1_96 A2090 T2020 fun z2091 q2092 h2093 => ?_
          have J2116 : ∀ (μ2110 : mM), (mT w μ2110) → (mF [21007, 200007, 201999] w μ2018 μ2110) → (PC w μ2110) → (RT μ2110) → sV (gG l D c H0 sa) mX1_doActs (sRm 6 0 0) (sZ (gG l D c H0 sa) 0 0 (qV w [21006, 21007, 200004, 200006, 200007, 200008, 201999, 202999] μ (fun μ1 => True))) 260 [(0, .ref 21), (1, .ref a1), (2, iv p2), (3, iv p3), (4, iv p4), (5, iv z1989)] [] (mk w μ2110) 0 0 := by
            intro μ2110 T2111 F2112 I2114 I2115
            refine mr_iinc (pc := 260) (lv' := [(5, iv (z1989 + 1)), (0, .ref 21), (1, .ref a1), (2, iv p2), (3, iv p3), (4, iv p4)]) dX1_doActs_260 rfl (by decide) rfl ?_
            refine sv_goto (pc := 263) (tgt := 3) dX1_doActs_263 (by decide) ?_
            refine mr_lvS (lv' := [(0, .ref 21), (1, .ref a1), (2, iv p2), (3, iv p3), (4, iv p4), (5, iv (z1989 + 1))]) (List.forall_mem_cons.mpr ⟨rfl, List.forall_mem_cons.mpr ⟨rfl, List.forall_mem_cons.mpr ⟨rfl, List.forall_mem_cons.mpr ⟨rfl, List.forall_mem_cons.mpr ⟨rfl, List.forall_mem_cons.mpr ⟨rfl, fun _ h => absurd h List.not_mem_nil⟩⟩⟩⟩⟩⟩) ?_
            exact ih1999 (z1989 + 1) μ2110 T2111 (mF.call (mF.up (mF.call mF.refl F1994 rfl) (A_21 hw) u2019 rfl) F2112 rfl) (rW (c := 0) (d := 1000) (rAdd (e := 1) (f := 1000) h2001 (rR (x := 1)) rfl) rfl) I2114 I2115 (vc_X1_doActs_12_13 (nS h1998) h2000 h4 h3 hp2 h2002 h2001)
          refine mr_if_le (pc := 215) (tgt := 260) dX1_doActs_215 (by decide) (r32 h2093 rfl) (fun h2117 => ?_) (fun h2117 => ?_)
          · have h2118 : 0 ≤ z2091 ∧ z2091 ≤ 0 := (vc_X12_unlike_21 h2117 h2093)
            refine mr_lvS (lv' := [(0, .ref 21), (1, .ref a1), (2, iv p2), (3, iv p3), (4, iv p4), (5, iv z1989)]) (List.forall_mem_cons.mpr ⟨rfl, List.forall_mem_cons.mpr ⟨rfl, List.forall_mem_cons.mpr ⟨rfl, List.forall_mem_cons.mpr ⟨rfl, List.forall_mem_cons.mpr ⟨rfl, List.forall_mem_cons.mpr ⟨rfl, fun _ h => absurd h List.not_mem_nil⟩⟩⟩⟩⟩⟩) ?_
            exact J2116 μ2018 T2020 mF.refl (PC.keep I1996 hw ((mF.up mF.refl (A_21 hw) u2019 rfl) : mF [21006] w μ1990 μ2018) rfl) (RT.keep I1997 hw ((mF.up mF.refl (A_21 hw) u2019 rfl) : mF [21006] w μ1990 μ2018) rfl)
          have h2119 : 1 ≤ z2091 ∧ z2091 ≤ 20 := (vc_X12_unlike_22 h2117 h2093)
          refine sv_aload_n (pc := 218) dX1_doActs_218 rfl rfl ?_
          refine gk_X1_2 (pc := 219) dX1_doActs_219 wF_X1_25 (A_21 hw) q2089 ?_
          refine sv_aload_n (pc := 222) dX1_doActs_222 rfl rfl ?_
          refine gk_X1_2 (pc := 223) dX1_doActs_223 wF_X1_25 (A_21 hw) q2089 ?_
          refine gf_X7_0 (pc := 226) dX1_doActs_226 wF_X1_114 A2090 T2020 fun A2120 => ?_
          refine mr_iconst (pc := 229) (z := 0) dX1_doActs_229 ?_
          refine la_201 (pc := 230) dX1_doActs_230 A2120 T2020 (rIx (n := 20) (rR (x := 0)) rfl) fun z2121 q2122 h2123 => ?_
          refine mr_iload (pc := 231) (z := z2009) dX1_doActs_231 rfl ?_
          refine mr_cVI (pc := 233) (c_X7_putInFront hw T2020 A2090 h2123 (rW (c := (-2147483648)) (d := 1000000) h2012 rfl)) (gOk _ _ _ _ _) dX1_doActs_233 (tX7_putInFront _ _ _ _ _) ⟨wV_X7_putInFront, wL_X7_putInFront⟩ wM_X1_131 (gCX7 _ _ _ _ _) rfl A2090 rfl ⟨le_t rfl, le_t rfl⟩ ⟨le_t rfl, le_t rfl⟩ rfl (le_t rfl) fun z2128 μ2124 T2125 F2126 h2127 => ?_
          refine mr_if_ne (pc := 236) (tgt := 260) dX1_doActs_236 (by decide) (r32 h2127.1 rfl) (fun h2129 => ?_) (fun h2129 => ?_)
          · have h2130 : 1 ≤ z2128 ∧ z2128 ≤ 1 := (vc_X12_letWay_11 h2129 h2127.1)
            refine mr_lvS (lv' := [(0, .ref 21), (1, .ref a1), (2, iv p2), (3, iv p3), (4, iv p4), (5, iv z1989)]) (List.forall_mem_cons.mpr ⟨rfl, List.forall_mem_cons.mpr ⟨rfl, List.forall_mem_cons.mpr ⟨rfl, List.forall_mem_cons.mpr ⟨rfl, List.forall_mem_cons.mpr ⟨rfl, List.forall_mem_cons.mpr ⟨rfl, fun _ h => absurd h List.not_mem_nil⟩⟩⟩⟩⟩⟩) ?_
            exact J2116 μ2124 T2125 (mF.call mF.refl F2126 rfl) (PC.keep I1996 hw ((mF.call (mF.up mF.refl (A_21 hw) u2019 rfl) F2126 rfl) : mF [21006, 200007, 201999] w μ1990 μ2124) rfl) (RT.keep I1997 hw ((mF.call (mF.up mF.refl (A_21 hw) u2019 rfl) F2126 rfl) : mF [21006, 200007, 201999] w μ1990 μ2124) rfl)
          have h2131 : 0 ≤ z2128 ∧ z2128 ≤ 0 := (vc_X12_letWay_6 h2129 h2127.1)
          refine sv_aload_n (pc := 239) dX1_doActs_239 rfl rfl ?_
          refine mr_iconst (pc := 240) (z := 2) dX1_doActs_240 ?_
          refine pf_X1_7 (pc := 241) dX1_doActs_241 wF_X1_50 (A_21 hw) T2125 (rW (c := 0) (d := 2) (rR (x := 2)) rfl) fun μ2132 u2133 T2134 => ?_
          refine sv_goto (pc := 244) (tgt := 260) dX1_doActs_244 (by decide) ?_
          refine mr_lvS (lv' := [(0, .ref 21), (1, .ref a1), (2, iv p2), (3, iv p3), (4, iv p4), (5, iv z1989)]) (List.forall_mem_cons.mpr ⟨rfl, List.forall_mem_cons.mpr ⟨rfl, List.forall_mem_cons.mpr ⟨rfl, List.forall_mem_cons.mpr ⟨rfl, List.forall_mem_cons.mpr ⟨rfl, List.forall_mem_cons.mpr ⟨rfl, fun _ h => absurd h List.not_mem_nil⟩⟩⟩⟩⟩⟩) ?_
          exact J2116 μ2132 T2134 (mF.up (mF.call mF.refl F2126 rfl) (A_21 hw) u2133 rfl) (PC.keep I1996 hw ((mF.up (mF.call (mF.up mF.refl (A_21 hw) u2019 rfl) F2126 rfl) (A_21 hw) u2133 rfl) : mF [21006, 21007, 200007, 201999] w μ1990 μ2132) rfl) (RT.keep I1997 hw ((mF.up (mF.call (mF.up mF.refl (A_21 hw) u2019 rfl) F2126 rfl) (A_21 hw) u2133 rfl) : mF [21006, 21007, 200007, 201999] w μ1990 μ2132) rfl)
        by_cases h2135 : z2021 = 28
        · refine mr_tableIn (pc := 62) (v := 28) (tgt := 247) dX1_doActs_62 h2135 rfl rfl (by decide) ?_
          have h2136 : 28 ≤ z2021 ∧ z2021 ≤ 28 := (vc_X1_doActs_12_33 h2135 h2054 h2056 h2058 h2063 h2068 h2077 h2086 h2023)
          refine sv_aload_n (pc := 247) dX1_doActs_247 rfl rfl ?_
          refine mr_iload (pc := 248) (z := z2009) dX1_doActs_248 rfl ?_
          refine mr_iload (pc := 250) (z := p4) dX1_doActs_250 rfl ?_
          refine mr_iconst (pc := 252) (z := 1) dX1_doActs_252 ?_
          refine mr_iadd (pc := 253) (x := p4) (y := 1) dX1_doActs_253 ?_
          refine mr_cVV (pc := 254) (c_X1_goThrough_12 hw T2020 (rW (c := (-2147483648)) (d := 2147483647) h2012 rfl) (rAdd (e := 12) (f := 12) hp4 (rR (x := 1)) rfl) (PC.keep I1996 hw ((mF.up mF.refl (A_21 hw) u2019 rfl) : mF [21006] w μ1990 μ2018) rfl) (RT.keep I1997 hw ((mF.up mF.refl (A_21 hw) u2019 rfl) : mF [21006] w μ1990 μ2018) rfl)) (gOk _ _ _ _ _) dX1_doActs_254 (tX1_goThrough _ _ _ _ _) ⟨wV_X1_goThrough, wL_X1_goThrough⟩ wM_X1_53 (gCX1 _ _ _ _ _) rfl (A_21 hw) rfl ⟨le_t rfl, le_t rfl⟩ ⟨le_t rfl, le_t rfl⟩ rfl (le_t rfl) fun μ2137 T2138 F2139 h2140 => ?_
          refine sv_goto (pc := 257) (tgt := 260) dX1_doActs_257 (by decide) ?_
          refine mr_iinc (pc := 260) (lv' := [(5, iv (z1989 + 1)), (6, iv z2009), (0, .ref 21), (1, .ref a1), (2, iv p2), (3, iv p3), (4, iv p4)]) dX1_doActs_260 rfl (by decide) rfl ?_
          refine sv_goto (pc := 263) (tgt := 3) dX1_doActs_263 (by decide) ?_
          refine mr_lvS (lv' := [(0, .ref 21), (1, .ref a1), (2, iv p2), (3, iv p3), (4, iv p4), (5, iv (z1989 + 1))]) (List.forall_mem_cons.mpr ⟨rfl, List.forall_mem_cons.mpr ⟨rfl, List.forall_mem_cons.mpr ⟨rfl, List.forall_mem_cons.mpr ⟨rfl, List.forall_mem_cons.mpr ⟨rfl, List.forall_mem_cons.mpr ⟨rfl, fun _ h => absurd h List.not_mem_nil⟩⟩⟩⟩⟩⟩) ?_
          exact ih1999 (z1989 + 1) μ2137 T2138 (mF.call (mF.up (mF.call mF.refl F1994 rfl) (A_21 hw) u2019 rfl) F2139 rfl) (rW (c := 0) (d := 1000) (rAdd (e := 1) (f := 1000) h2001 (rR (x := 1)) rfl) rfl) (PC.keep I1996 hw ((mF.call (mF.up mF.refl (A_21 hw) u2019 rfl) F2139 rfl) : mF [21006, 21007, 200004, 200006, 200007, 200008, 201999, 202999] w μ1990 μ2137) rfl) (RT.keep I1997 hw ((mF.call (mF.up mF.refl (A_21 hw) u2019 rfl) F2139 rfl) : mF [21006, 21007, 200004, 200006, 200007, 200008, 201999, 202999] w μ1990 μ2137) rfl) (vc_X1_doActs_12_13 (nS h1998) h2000 h4 h3 hp2 h2002 h2001)
        refine mr_tableOut (pc := 62) (tgt := 260) dX1_doActs_62 h2023 (vc_X1_doActs_12_34 h2024 h2032 h2040 h2042 h2044 h2046 h2048 h2050 h2052 h2054 h2056 h2058 h2063 h2068 h2077 h2086 h2135 h2023) (by decide) ?_
        refine mr_iinc (pc := 260) (lv' := [(5, iv (z1989 + 1)), (6, iv z2009), (0, .ref 21), (1, .ref a1), (2, iv p2), (3, iv p3), (4, iv p4)]) dX1_doActs_260 rfl (by decide) rfl ?_
        refine sv_goto (pc := 263) (tgt := 3) dX1_doActs_263 (by decide) ?_
        refine mr_lvS (lv' := [(0, .ref 21), (1, .ref a1), (2, iv p2), (3, iv p3), (4, iv p4), (5, iv (z1989 + 1))]) (List.forall_mem_cons.mpr ⟨rfl, List.forall_mem_cons.mpr ⟨rfl, List.forall_mem_cons.mpr ⟨rfl, List.forall_mem_cons.mpr ⟨rfl, List.forall_mem_cons.mpr ⟨rfl, List.forall_mem_cons.mpr ⟨rfl, fun _ h => absurd h List.not_mem_nil⟩⟩⟩⟩⟩⟩) ?_
        exact ih1999 (z1989 + 1) μ2018 T2020 (mF.up (mF.call mF.refl F1994 rfl) (A_21 hw) u2019 rfl) (rW (c := 0) (d := 1000) (rAdd (e := 1) (f := 1000) h2001 (rR (x := 1)) rfl) rfl) (PC.keep I1996 hw ((mF.up mF.refl (A_21 hw) u2019 rfl) : mF [21006] w μ1990 μ2018) rfl) (RT.keep I1997 hw ((mF.up mF.refl (A_21 hw) u2019 rfl) : mF [21006] w μ1990 μ2018) rfl) (vc_X1_doActs_12_13 (nS h1998) h2000 h4 h3 hp2 h2002 h2001)
      have h2141 : 500 ≤ z2013 ∧ z2013 ≤ 500 := (vc_X1_doActs_12_35 h2016 h2015)
      refine sv_aload_n (pc := 38) dX1_doActs_38 rfl rfl ?_
      refine mr_iconst (pc := 39) (z := 2) dX1_doActs_39 ?_
      refine pf_X1_7 (pc := 40) dX1_doActs_40 wF_X1_50 (A_21 hw) T1993 (rW (c := 0) (d := 2) (rR (x := 2)) rfl) fun μ2142 u2143 T2144 => ?_
      exact mr_vret dX1_doActs_43 rfl (le_t rfl) (le_t rfl) T2144 (mF.up (mF.call mF.refl F1994 rfl) (A_21 hw) u2143 rfl) trivial
  refine mr_lvS (lv' := [(0, .ref 21), (1, .ref a1), (2, iv p2), (3, iv p3), (4, iv p4), (5, iv 0)]) (List.forall_mem_cons.mpr ⟨rfl, List.forall_mem_cons.mpr ⟨rfl, List.forall_mem_cons.mpr ⟨rfl, List.forall_mem_cons.mpr ⟨rfl, List.forall_mem_cons.mpr ⟨rfl, List.forall_mem_cons.mpr ⟨rfl, fun _ h => absurd h List.not_mem_nil⟩⟩⟩⟩⟩⟩) ?_
  exact L1991 1002 0 μ hT mF.refl (rW (c := 0) (d := 1000) (rR (x := 0)) rfl) hIPC hIRT vc_X1_doActs_12_36
theorem vc_X1_goThrough_11_5 {p2 : Int} (h0 : 12 < p2) (h1 : 11 ≤ p2 ∧ p2 ≤ 11) : False := by omega
set_option maxRecDepth 4000 in
set_option maxHeartbeats 4000000 in
theorem c_X1_goThrough_11 {l : Launch} {D : va_G} {c : Nat → ClassId} {H0 : Heap} {sa : Nat × Nat × (Nat → Int32)} {w : mW} {μ : mM} (hw : mWF w) (hT : mT w μ) {p1 : Int} (hp1 : (-2147483648) ≤ p1 ∧ p1 ≤ 2147483647) {p2 : Int} (hp2 : 11 ≤ p2 ∧ p2 ≤ 11) (hIPC : PC w μ) (hIRT : RT μ) : sC (gG l D c H0 sa) mX1_goThrough 7 0 0 [.ref 21, iv p1, iv p2] (mk w μ) (qV w [21006, 21007, 200004, 200006, 200007, 200008, 201999, 202999] μ (fun μ1 => True)) := by
  refine sC.of rfl (by decide) (le_t rfl) ?_
  refine mr_lvE (lv' := [(0, .ref 21), (1, iv p1), (2, iv p2)]) rfl ?_
  refine mr_iload_n (pc := 0) (z := p1) dX1_goThrough_0 rfl rfl ?_
  refine mr_if_lt (pc := 1) (tgt := 18) dX1_goThrough_1 (by decide) hp1 (fun h1 => ?_) (fun h1 => ?_)
  · have h2 : (-2147483648) ≤ p1 ∧ p1 ≤ (-1) := (vc_X12_cut_1 h1 hp1)
    exact mr_vret dX1_goThrough_18 rfl (le_t rfl) (le_t rfl) hT mF.refl trivial
  have h3 : 0 ≤ p1 ∧ p1 ≤ 2147483647 := (vc_X12_cut_2 h1 hp1)
  refine mr_iload_n (pc := 4) (z := p1) dX1_goThrough_4 rfl rfl ?_
  refine sv_aload_n (pc := 5) dX1_goThrough_5 rfl rfl ?_
  refine gf_X1_8 (pc := 6) dX1_goThrough_6 wF_X1_21 (A_21 hw) hT fun z4 q5 h6 => ?_
  refine mr_icmp_ge (pc := 9) (tgt := 18) dX1_goThrough_9 (by decide) (r32 h3 rfl) (r32 h6.2 rfl) (fun h7 => ?_) (fun h7 => ?_)
  · exact mr_vret dX1_goThrough_18 rfl (le_t rfl) (le_t rfl) hT mF.refl trivial
  have h8 : 0 ≤ p1 ∧ p1 ≤ 11 := (vc_X1_goThrough_13_3 h7 h1 h6.1 h3 h6.2)
  have h9 : 1 ≤ z4 ∧ z4 ≤ 12 := (vc_X1_goThrough_13_4 h7 h1 h6.1 h8 h6.2)
  refine mr_iload_n (pc := 12) (z := p2) dX1_goThrough_12 rfl rfl ?_
  refine mr_bipush (pc := 13) (z := 12) dX1_goThrough_13 (by decide) ?_
  refine mr_icmp_le (pc := 15) (tgt := 19) dX1_goThrough_15 (by decide) (r32 hp2 rfl) (r32 (rR (x := 12)) rfl) (fun _ => ?_) (fun h => ((vc_X1_goThrough_11_5 h hp2)).elim)
  refine sv_aload_n (pc := 19) dX1_goThrough_19 rfl rfl ?_
  refine gf_X1_1 (pc := 20) dX1_goThrough_20 wF_X1_17 (A_21 hw) hT ?_
  refine mr_iload_n (pc := 23) (z := p1) dX1_goThrough_23 rfl rfl ?_
  refine la_22 (pc := 24) dX1_goThrough_24 (A_22 hw) hT (rIx (n := 12) h8 rfl) (vc_X1_goThrough_12_6 h1 h6.1 h7 h8 h9) fun b10 q11 A12 => ?_
  refine mr_astore_n (pc := 25) (lv' := [(3, .ref b10), (0, .ref 21), (1, iv p1), (2, iv p2)]) dX1_goThrough_25 rfl (by decide) rfl ?_
  obtain ⟨c13, z14, q15, A16, q17, R18, e19, e20⟩ := PC.read hIPC hT A12 (vc_X1_goThrough_12_7 h1 h7 h6.1 h8 h9) (vc_X1_goThrough_12_6 h1 h6.1 h7 h8 h9) q11
  have h21 : 0 ≤ z14 ∧ z14 ≤ 30 := by rw [← q17]; exact hT _ _ A12 0
  refine mr_iconst (pc := 26) (z := 0) dX1_goThrough_26 ?_
  refine mr_istore (pc := 27) (lv' := [(4, iv 0), (3, .ref b10), (0, .ref 21), (1, iv p1), (2, iv p2)]) dX1_goThrough_27 (by decide) rfl ?_
  refine mr_iconst (pc := 29) (z := 0) dX1_goThrough_29 ?_
  refine mr_istore (pc := 30) (lv' := [(5, iv 0), (4, iv 0), (3, .ref b10), (0, .ref 21), (1, iv p1), (2, iv p2)]) dX1_goThrough_30 (by decide) rfl ?_
  have L1192 : ∀ (nL1192 : Nat) (z1190 z1189 : Int) (μ1191 : mM), mT w μ1191 → mF [21006, 21007, 200004, 200006, 200007, 200008, 201999, 202999] w μ μ1191 → (0 ≤ z1190 ∧ z1190 ≤ 2000) → (0 ≤ z1189 ∧ z1189 ≤ 30) → PC w μ1191 → RT μ1191 → wfR (μ c13) (w.2.2.1 c13) (z1190).toNat (z14 - z1189).toNat → (2001 - z1190) < (nL1192 : Int) → sV (gG l D c H0 sa) mX1_goThrough (sRm 7 0 0) (sZ (gG l D c H0 sa) 0 0 (qV w [21006, 21007, 200004, 200006, 200007, 200008, 201999, 202999] μ (fun μ1 => True))) 32 [(0, .ref 21), (2, iv p2), (3, .ref b10), (4, iv z1190), (5, iv z1189)] [] (mk w μ1191) 0 0 := by
    intro nL1192
    induction nL1192 with
    | zero => intro z1190 z1189 μ1191 T1195 F1196 h1193 h1194 I1198 I1199 R1200 h1201; exact ((vc_X1_goThrough_12_8 h1201 h1193)).elim
    | succ nL1192 ih1202 =>
      intro z1190 z1189 μ1191 T1195 F1196 h1193 h1194 I1198 I1199 R1200 h1201
      refine mr_iload (pc := 32) (z := z1189) dX1_goThrough_32 rfl ?_
      refine sv_aload_n (pc := 34) dX1_goThrough_34 rfl rfl ?_
      refine gk_X5_0 (pc := 35) dX1_goThrough_35 wF_X1_57 A12 (F1196.f A12 rfl q17) ?_
      refine mr_icmp_ge (pc := 38) (tgt := 174) dX1_goThrough_38 (by decide) (r32 h1194 rfl) (r32 h21 rfl) (fun h1267 => ?_) (fun h1267 => ?_)
      · exact mr_vret dX1_goThrough_174 rfl (le_t rfl) (le_t rfl) T1195 (mF.call mF.refl F1196 rfl) trivial
      have h1268 : 0 ≤ z1189 ∧ z1189 ≤ 29 := (vc_X12_judgedAnew_2 h1267 h1194 h21)
      have h1269 : 1 ≤ z14 ∧ z14 ≤ 30 := (vc_X12_judgedAnew_3 h1267 h1268 h21)
      refine sv_aload_n (pc := 41) dX1_goThrough_41 rfl rfl ?_
      refine gf_X1_7 (pc := 42) dX1_goThrough_42 wF_X1_50 (A_21 hw) T1195 fun z1270 q1271 h1272 => ?_
      refine mr_if_ne (pc := 45) (tgt := 174) dX1_goThrough_45 (by decide) (r32 h1272 rfl) (fun h1332 => ?_) (fun h1332 => ?_)
      · have h1333 : 1 ≤ z1270 ∧ z1270 ≤ 2 := (vc_X10_coneOf_12 h1332 h1272)
        exact mr_vret dX1_goThrough_174 rfl (le_t rfl) (le_t rfl) T1195 (mF.call mF.refl F1196 rfl) trivial
      have h1334 : 0 ≤ z1270 ∧ z1270 ≤ 0 := (vc_X10_coneOf_13 h1332 h1272)
      obtain ⟨n_1335, q1336⟩ : ∃ n : Int, (w.2.2.1 c13 : Int) = n := ⟨_, rfl⟩
      have h1337 : 0 ≤ n_1335 ∧ n_1335 ≤ 2000 := lnR (m := 2000) q1336 A16 rfl
      have h1338 : z1190 + 1 < n_1335 := lnLt q1336 (wfR.hd R1200 (vc_X1_goThrough_12_13 h1193) (vc_X1_goThrough_12_14 h1267 h1268 h1269))
      refine sv_aload_n (pc := 48) dX1_goThrough_48 rfl rfl ?_
      refine gk_X5_1 (pc := 49) dX1_goThrough_49 wF_X1_60 A12 (F1196.f A12 rfl q15) ?_
      refine mr_iload (pc := 52) (z := z1190) dX1_goThrough_52 rfl ?_
      refine la_231 (pc := 54) dX1_goThrough_54 A16 T1195 (lnC q1336 (vc_X1_goThrough_12_15 h1338 h1337 h1193)) fun z1339 q1340 h1341 => ?_
      refine mr_istore (pc := 55) (lv' := [(6, iv z1339), (0, .ref 21), (2, iv p2), (3, .ref b10), (4, iv z1190), (5, iv z1189)]) dX1_goThrough_55 (by decide) rfl ?_
      refine sv_aload_n (pc := 57) dX1_goThrough_57 rfl rfl ?_
      refine gk_X5_1 (pc := 58) dX1_goThrough_58 wF_X1_60 A12 (F1196.f A12 rfl q15) ?_
      refine mr_iload (pc := 61) (z := z1190) dX1_goThrough_61 rfl ?_
      refine mr_iconst (pc := 63) (z := 1) dX1_goThrough_63 ?_
      refine mr_iadd (pc := 64) (x := z1190) (y := 1) dX1_goThrough_64 ?_
      refine la_231 (pc := 65) dX1_goThrough_65 A16 T1195 (lnC q1336 (vc_X1_goThrough_12_16 h1338 h1337 h1193)) fun z1342 q1343 h1344 => ?_
      have B1345 := wfR.bd R1200 (vc_X1_goThrough_12_13 h1193) (vc_X1_goThrough_12_14 h1267 h1268 h1269) ((((mF.call mF.refl F1196 rfl) : mF [21006, 21007, 200004, 200006, 200007, 200008, 201999, 202999] w μ μ1191).f A16 rfl rfl).symm.trans q1340) ((((mF.call mF.refl F1196 rfl) : mF [21006, 21007, 200004, 200006, 200007, 200008, 201999, 202999] w μ μ1191).f A16 rfl rfl).symm.trans q1343)
      have h1346 : 0 ≤ z1339 ∧ 0 ≤ z1342 ∧ z1190 + 2 + 5 * z1339 + 2 * z1342 ≤ n_1335 := ⟨B1345.1.1, B1345.1.2.1, lnLe q1336 B1345.1.2.2⟩
      have h1347 : 0 ≤ z1339 ∧ z1339 ≤ 400 := (vc_X1_goThrough_12_17 h1346 h1338 h1337 h1193 h1341 h1344)
      have h1348 : 0 ≤ z1342 ∧ z1342 ≤ 1000 := (vc_X1_goThrough_12_18 h1346 h1338 h1337 h1193 h1347 h1344)
      refine mr_istore (pc := 66) (lv' := [(7, iv z1342), (6, iv z1339), (0, .ref 21), (2, iv p2), (3, .ref b10), (4, iv z1190), (5, iv z1189)]) dX1_goThrough_66 (by decide) rfl ?_
      refine mr_iload (pc := 68) (z := z1190) dX1_goThrough_68 rfl ?_
      refine mr_iconst (pc := 70) (z := 2) dX1_goThrough_70 ?_
      refine mr_iadd (pc := 71) (x := z1190) (y := 2) dX1_goThrough_71 ?_
      refine mr_iload (pc := 72) (z := z1339) dX1_goThrough_72 rfl ?_
      refine mr_iconst (pc := 74) (z := 5) dX1_goThrough_74 ?_
      refine mr_imul (pc := 75) (x := z1339) (y := 5) dX1_goThrough_75 ?_
      refine mr_iadd (pc := 76) (x := (z1190 + 2)) (y := (z1339 * 5)) dX1_goThrough_76 ?_
      refine mr_istore (pc := 77) (lv' := [(8, iv ((z1190 + 2) + (z1339 * 5))), (7, iv z1342), (6, iv z1339), (0, .ref 21), (2, iv p2), (3, .ref b10), (4, iv z1190), (5, iv z1189)]) dX1_goThrough_77 (by decide) rfl ?_
      refine mr_iconst (pc := 79) (z := 1) dX1_goThrough_79 ?_
      refine mr_istore (pc := 80) (lv' := [(9, iv 1), (8, iv ((z1190 + 2) + (z1339 * 5))), (7, iv z1342), (6, iv z1339), (0, .ref 21), (2, iv p2), (3, .ref b10), (4, iv z1190), (5, iv z1189)]) dX1_goThrough_80 (by decide) rfl ?_
      refine mr_iload (pc := 82) (z := z1190) dX1_goThrough_82 rfl ?_
      refine mr_iconst (pc := 84) (z := 2) dX1_goThrough_84 ?_
      refine mr_iadd (pc := 85) (x := z1190) (y := 2) dX1_goThrough_85 ?_
      refine mr_istore (pc := 86) (lv' := [(10, iv (z1190 + 2)), (9, iv 1), (8, iv ((z1190 + 2) + (z1339 * 5))), (7, iv z1342), (6, iv z1339), (0, .ref 21), (2, iv p2), (3, .ref b10), (4, iv z1190), (5, iv z1189)]) dX1_goThrough_86 (by decide) rfl ?_
      have L1468 : ∀ (nL1468 : Nat) (z1467 z1466 : Int), True → (0 ≤ z1467 ∧ z1467 ≤ 1) → (2 ≤ z1466 ∧ z1466 ≤ 2010) → ((((z1190 + 2) + (z1339 * 5)) - z1466) % 5 = 0) → (2011 - z1466) < (nL1468 : Int) → sV (gG l D c H0 sa) mX1_goThrough (sRm 7 0 0) (sZ (gG l D c H0 sa) 0 0 (qV w [21006, 21007, 200004, 200006, 200007, 200008, 201999, 202999] μ (fun μ1 => True))) 88 [(0, .ref 21), (2, iv p2), (3, .ref b10), (5, iv z1189), (7, iv z1342), (8, iv ((z1190 + 2) + (z1339 * 5))), (9, iv z1467), (10, iv z1466)] [] (mk w μ1191) 0 0 := by
        intro nL1468
        induction nL1468 with
        | zero => intro z1467 z1466 _ h1469 h1470 h1474 h1475; exact ((vc_X1_goThrough_12_19 h1475 h1474 h1338 h1346 h1337 h1193 h1347 h1348 h1470)).elim
        | succ nL1468 ih1476 =>
          intro z1467 z1466 _ h1469 h1470 h1474 h1475
          refine mr_iload (pc := 88) (z := z1466) dX1_goThrough_88 rfl ?_
          refine mr_iload (pc := 90) (z := ((z1190 + 2) + (z1339 * 5))) dX1_goThrough_90 rfl ?_
          have J1492 : sV (gG l D c H0 sa) mX1_goThrough (sRm 7 0 0) (sZ (gG l D c H0 sa) 0 0 (qV w [21006, 21007, 200004, 200006, 200007, 200008, 201999, 202999] μ (fun μ1 => True))) 141 [(0, .ref 21), (2, iv p2), (3, .ref b10), (5, iv z1189), (7, iv z1342), (8, iv ((z1190 + 2) + (z1339 * 5))), (9, iv z1467)] [] (mk w μ1191) 0 0 := by
            refine mr_iload (pc := 141) (z := z1467) dX1_goThrough_141 rfl ?_
            refine mr_if_eq (pc := 143) (tgt := 159) dX1_goThrough_143 (by decide) (r32 h1469 rfl) (fun h1499 => ?_) (fun h1499 => ?_)
            · have h1500 : 0 ≤ z1467 ∧ z1467 ≤ 0 := (vc_X12_letWay_6 h1499 h1469)
              refine mr_iload (pc := 159) (z := ((z1190 + 2) + (z1339 * 5))) dX1_goThrough_159 rfl ?_
              refine mr_iload (pc := 161) (z := z1342) dX1_goThrough_161 rfl ?_
              refine mr_iconst (pc := 163) (z := 2) dX1_goThrough_163 ?_
              refine mr_imul (pc := 164) (x := z1342) (y := 2) dX1_goThrough_164 ?_
              refine mr_iadd (pc := 165) (x := ((z1190 + 2) + (z1339 * 5))) (y := (z1342 * 2)) dX1_goThrough_165 ?_
              refine mr_istore (pc := 166) (lv' := [(4, iv (((z1190 + 2) + (z1339 * 5)) + (z1342 * 2))), (0, .ref 21), (2, iv p2), (3, .ref b10), (5, iv z1189), (7, iv z1342), (8, iv ((z1190 + 2) + (z1339 * 5))), (9, iv z1467)]) dX1_goThrough_166 (by decide) rfl ?_
              refine mr_iinc (pc := 168) (lv' := [(5, iv (z1189 + 1)), (4, iv (((z1190 + 2) + (z1339 * 5)) + (z1342 * 2))), (0, .ref 21), (2, iv p2), (3, .ref b10), (7, iv z1342), (8, iv ((z1190 + 2) + (z1339 * 5))), (9, iv z1467)]) dX1_goThrough_168 rfl (by decide) rfl ?_
              refine sv_goto (pc := 171) (tgt := 32) dX1_goThrough_171 (by decide) ?_
              refine mr_lvS (lv' := [(0, .ref 21), (2, iv p2), (3, .ref b10), (4, iv (((z1190 + 2) + (z1339 * 5)) + (z1342 * 2))), (5, iv (z1189 + 1))]) (List.forall_mem_cons.mpr ⟨rfl, List.forall_mem_cons.mpr ⟨rfl, List.forall_mem_cons.mpr ⟨rfl, List.forall_mem_cons.mpr ⟨rfl, List.forall_mem_cons.mpr ⟨rfl, fun _ h => absurd h List.not_mem_nil⟩⟩⟩⟩⟩) ?_
              exact ih1202 (((z1190 + 2) + (z1339 * 5)) + (z1342 * 2)) (z1189 + 1) μ1191 T1195 (mF.call mF.refl F1196 rfl) (vc_X1_goThrough_12_21 h1338 h1346 h1474 h1337 h1193 h1347 h1348 h1470) (rW (c := 0) (d := 30) (rAdd (e := 1) (f := 30) h1268 (rR (x := 1)) rfl) rfl) I1198 I1199 (wfR.cg B1345.2.2 (vc_X1_goThrough_12_23 h1338 h1346 h1474 h1337 h1193 h1347 h1348 h1470)) (vc_X1_goThrough_12_22 (nS h1201) h1338 h1346 h1474 h1337 h1193 h1347 h1348 h1470)
            have h1501 : 1 ≤ z1467 ∧ z1467 ≤ 1 := (vc_X12_letWay_11 h1499 h1469)
            refine sv_aload_n (pc := 146) dX1_goThrough_146 rfl rfl ?_
            refine sv_aload_n (pc := 147) dX1_goThrough_147 rfl rfl ?_
            refine gk_X5_1 (pc := 148) dX1_goThrough_148 wF_X1_60 A12 (F1196.f A12 rfl q15) ?_
            refine mr_iload (pc := 151) (z := ((z1190 + 2) + (z1339 * 5))) dX1_goThrough_151 rfl ?_
            refine mr_iload (pc := 153) (z := z1342) dX1_goThrough_153 rfl ?_
            refine mr_iload_n (pc := 155) (z := p2) dX1_goThrough_155 rfl rfl ?_
            refine mr_cVV (pc := 156) (c_X1_doActs_11 hw T1195 A16 (vc_X1_goThrough_12_25 h1338 h1346 h1474 h1337 h1193 h1347 h1348 h1470) h1348 hp2 I1198 I1199 (lnL q1336 (vc_X1_goThrough_12_26 h1338 h1346 h1474 h1337 h1193 h1347 h1348 h1470)) (argC B1345.2.1 (vc_X1_goThrough_12_27 h1338 h1346 h1474 h1337 h1193 h1347 h1348 h1470) (funext fun i => ((mF.call mF.refl F1196 rfl) : mF [21006, 21007, 200004, 200006, 200007, 200008, 201999, 202999] w μ μ1191).f A16 rfl rfl))) (gOk _ _ _ _ _) dX1_goThrough_156 (tX1_doActs _ _ _ _ _) ⟨wV_X1_doActs, wL_X1_doActs⟩ wM_X1_68 (gCX1 _ _ _ _ _) rfl (A_21 hw) rfl ⟨le_t rfl, le_t rfl⟩ ⟨le_t rfl, le_t rfl⟩ rfl (le_t rfl) fun μ1502 T1503 F1504 h1505 => ?_
            refine mr_iload (pc := 159) (z := ((z1190 + 2) + (z1339 * 5))) dX1_goThrough_159 rfl ?_
            refine mr_iload (pc := 161) (z := z1342) dX1_goThrough_161 rfl ?_
            refine mr_iconst (pc := 163) (z := 2) dX1_goThrough_163 ?_
            refine mr_imul (pc := 164) (x := z1342) (y := 2) dX1_goThrough_164 ?_
            refine mr_iadd (pc := 165) (x := ((z1190 + 2) + (z1339 * 5))) (y := (z1342 * 2)) dX1_goThrough_165 ?_
            refine mr_istore (pc := 166) (lv' := [(4, iv (((z1190 + 2) + (z1339 * 5)) + (z1342 * 2))), (0, .ref 21), (2, iv p2), (3, .ref b10), (5, iv z1189), (7, iv z1342), (8, iv ((z1190 + 2) + (z1339 * 5))), (9, iv z1467)]) dX1_goThrough_166 (by decide) rfl ?_
            refine mr_iinc (pc := 168) (lv' := [(5, iv (z1189 + 1)), (4, iv (((z1190 + 2) + (z1339 * 5)) + (z1342 * 2))), (0, .ref 21), (2, iv p2), (3, .ref b10), (7, iv z1342), (8, iv ((z1190 + 2) + (z1339 * 5))), (9, iv z1467)]) dX1_goThrough_168 rfl (by decide) rfl ?_
            refine sv_goto (pc := 171) (tgt := 32) dX1_goThrough_171 (by decide) ?_
            refine mr_lvS (lv' := [(0, .ref 21), (2, iv p2), (3, .ref b10), (4, iv (((z1190 + 2) + (z1339 * 5)) + (z1342 * 2))), (5, iv (z1189 + 1))]) (List.forall_mem_cons.mpr ⟨rfl, List.forall_mem_cons.mpr ⟨rfl, List.forall_mem_cons.mpr ⟨rfl, List.forall_mem_cons.mpr ⟨rfl, List.forall_mem_cons.mpr ⟨rfl, fun _ h => absurd h List.not_mem_nil⟩⟩⟩⟩⟩) ?_
            exact ih1202 (((z1190 + 2) + (z1339 * 5)) + (z1342 * 2)) (z1189 + 1) μ1502 T1503 (mF.call (mF.call mF.refl F1196 rfl) F1504 rfl) (vc_X1_goThrough_12_21 h1338 h1346 h1474 h1337 h1193 h1347 h1348 h1470) (rW (c := 0) (d := 30) (rAdd (e := 1) (f := 30) h1268 (rR (x := 1)) rfl) rfl) (PC.keep I1198 hw ((mF.call mF.refl F1504 rfl) : mF [21006, 21007, 200004, 200006, 200007, 200008, 201999, 202999] w μ1191 μ1502) rfl) (RT.keep I1199 hw ((mF.call mF.refl F1504 rfl) : mF [21006, 21007, 200004, 200006, 200007, 200008, 201999, 202999] w μ1191 μ1502) rfl) (wfR.cg B1345.2.2 (vc_X1_goThrough_12_23 h1338 h1346 h1474 h1337 h1193 h1347 h1348 h1470)) (vc_X1_goThrough_12_22 (nS h1201) h1338 h1346 h1474 h1337 h1193 h1347 h1348 h1470)
          refine mr_icmp_ge (pc := 92) (tgt := 141) dX1_goThrough_92 (by decide) (r32 h1470 rfl) (r32 (rAdd (e := 2) (f := 4002) (rAdd (e := 2) (f := 2002) h1193 (rR (x := 2)) rfl) (rMulR (n := 5) (e := 0) (f := 2000) h1347 rfl) rfl) rfl) (fun h1506 => ?_) (fun h1506 => ?_)
          · refine mr_lvS (lv' := [(0, .ref 21), (2, iv p2), (3, .ref b10), (5, iv z1189), (7, iv z1342), (8, iv ((z1190 + 2) + (z1339 * 5))), (9, iv z1467)]) (List.forall_mem_cons.mpr ⟨rfl, List.forall_mem_cons.mpr ⟨rfl, List.forall_mem_cons.mpr ⟨rfl, List.forall_mem_cons.mpr ⟨rfl, List.forall_mem_cons.mpr ⟨rfl, List.forall_mem_cons.mpr ⟨rfl, List.forall_mem_cons.mpr ⟨rfl, fun _ h => absurd h List.not_mem_nil⟩⟩⟩⟩⟩⟩⟩) ?_
            exact J1492 
          refine mr_iload (pc := 95) (z := z1467) dX1_goThrough_95 rfl ?_
          refine mr_if_eq (pc := 97) (tgt := 141) dX1_goThrough_97 (by decide) (r32 h1469 rfl) (fun h1507 => ?_) (fun h1507 => ?_)
          · have h1508 : 0 ≤ z1467 ∧ z1467 ≤ 0 := (vc_X12_letWay_6 h1507 h1469)
            refine mr_lvS (lv' := [(0, .ref 21), (2, iv p2), (3, .ref b10), (5, iv z1189), (7, iv z1342), (8, iv ((z1190 + 2) + (z1339 * 5))), (9, iv z1467)]) (List.forall_mem_cons.mpr ⟨rfl, List.forall_mem_cons.mpr ⟨rfl, List.forall_mem_cons.mpr ⟨rfl, List.forall_mem_cons.mpr ⟨rfl, List.forall_mem_cons.mpr ⟨rfl, List.forall_mem_cons.mpr ⟨rfl, List.forall_mem_cons.mpr ⟨rfl, fun _ h => absurd h List.not_mem_nil⟩⟩⟩⟩⟩⟩⟩) ?_
            exact J1492 
          have h1509 : 1 ≤ z1467 ∧ z1467 ≤ 1 := (vc_X12_letWay_11 h1507 h1469)
          refine sv_aload_n (pc := 100) dX1_goThrough_100 rfl rfl ?_
          refine sv_aload_n (pc := 101) dX1_goThrough_101 rfl rfl ?_
          refine mr_iload (pc := 102) (z := z1466) dX1_goThrough_102 rfl ?_
          refine mr_cVP (pc := 104) (c_X1_isSo hw T1195 A12 (vc_X1_goThrough_12_28 h1474 h1506 h1338 h1346 h1337 h1193 h1347 h1348 h1470) I1199 (lnF (F1196.f A12 rfl q15) q1336 (vc_X1_goThrough_12_29 h1338 h1346 h1474 h1506 h1337 h1193 h1347 h1348 h1470)) (by rw [((mF.call mF.refl F1196 rfl) : mF [21006, 21007, 200004, 200006, 200007, 200008, 201999, 202999] w μ μ1191).f (k := 2) A12 rfl rfl, ((mF.call mF.refl F1196 rfl) : mF [21006, 21007, 200004, 200006, 200007, 200008, 201999, 202999] w μ μ1191).f (k := 3) A12 rfl rfl]; exact e19) (by rw [((mF.call mF.refl F1196 rfl) : mF [21006, 21007, 200004, 200006, 200007, 200008, 201999, 202999] w μ μ1191).f (k := 4) A12 rfl rfl, ((mF.call mF.refl F1196 rfl) : mF [21006, 21007, 200004, 200006, 200007, 200008, 201999, 202999] w μ μ1191).f (k := 5) A12 rfl rfl]; exact e20)) (gOk _ _ _ _ _) dX1_goThrough_104 (tX1_isSo _ _ _ _ _) ⟨wV_X1_isSo, wL_X1_isSo⟩ wM_X1_64 (gCX1 _ _ _ _ _) rfl (A_21 hw) rfl ⟨le_t rfl, le_t rfl⟩ ⟨le_t rfl, le_t rfl⟩ rfl (le_t rfl) fun z1514 h1513 => ?_
          refine sv_aload_n (pc := 107) dX1_goThrough_107 rfl rfl ?_
          refine gk_X5_1 (pc := 108) dX1_goThrough_108 wF_X1_60 A12 (F1196.f A12 rfl q15) ?_
          refine mr_iload (pc := 111) (z := z1466) dX1_goThrough_111 rfl ?_
          refine mr_iconst (pc := 113) (z := 1) dX1_goThrough_113 ?_
          refine mr_iadd (pc := 114) (x := z1466) (y := 1) dX1_goThrough_114 ?_
          refine la_231 (pc := 115) dX1_goThrough_115 A16 T1195 (lnC q1336 (vc_X1_goThrough_12_30 h1338 h1346 h1474 h1506 h1337 h1193 h1347 h1348 h1470)) fun z1515 q1516 h1517 => ?_
          refine mr_iconst (pc := 116) (z := 1) dX1_goThrough_116 ?_
          refine mr_icmp_ne (pc := 117) (tgt := 124) dX1_goThrough_117 (by decide) h1517 (r32 (rR (x := 1)) rfl) (fun h1519 => ?_) (fun h1519 => ?_)
          · refine mr_iconst (pc := 124) (z := 0) dX1_goThrough_124 ?_
            refine mr_icmp_eq (pc := 125) (tgt := 132) dX1_goThrough_125 (by decide) (r32 h1513.1 rfl) (r32 (rR (x := 0)) rfl) (fun h1522 => ?_) (fun h1522 => ?_)
            · have h1523 : 0 ≤ z1514 ∧ z1514 ≤ 0 := (vc_X12_letWay_6 h1522 h1513.1)
              refine mr_iconst (pc := 132) (z := 0) dX1_goThrough_132 ?_
              refine mr_istore (pc := 133) (lv' := [(9, iv 0), (0, .ref 21), (2, iv p2), (3, .ref b10), (5, iv z1189), (7, iv z1342), (8, iv ((z1190 + 2) + (z1339 * 5))), (10, iv z1466)]) dX1_goThrough_133 (by decide) rfl ?_
              refine mr_iinc (pc := 135) (lv' := [(10, iv (z1466 + 5)), (9, iv 0), (0, .ref 21), (2, iv p2), (3, .ref b10), (5, iv z1189), (7, iv z1342), (8, iv ((z1190 + 2) + (z1339 * 5)))]) dX1_goThrough_135 rfl (by decide) rfl ?_
              refine sv_goto (pc := 138) (tgt := 88) dX1_goThrough_138 (by decide) ?_
              refine mr_lvS (lv' := [(0, .ref 21), (2, iv p2), (3, .ref b10), (5, iv z1189), (7, iv z1342), (8, iv ((z1190 + 2) + (z1339 * 5))), (9, iv 0), (10, iv (z1466 + 5))]) (List.forall_mem_cons.mpr ⟨rfl, List.forall_mem_cons.mpr ⟨rfl, List.forall_mem_cons.mpr ⟨rfl, List.forall_mem_cons.mpr ⟨rfl, List.forall_mem_cons.mpr ⟨rfl, List.forall_mem_cons.mpr ⟨rfl, List.forall_mem_cons.mpr ⟨rfl, List.forall_mem_cons.mpr ⟨rfl, fun _ h => absurd h List.not_mem_nil⟩⟩⟩⟩⟩⟩⟩⟩) ?_
              exact ih1476 0 (z1466 + 5) trivial (rW (c := 0) (d := 1) (rR (x := 0)) rfl) (vc_X1_goThrough_12_32 h1474 h1506 h1338 h1346 h1337 h1193 h1347 h1348 h1470) (vc_X1_goThrough_12_33 h1338 h1346 h1474 h1506 h1337 h1193 h1347 h1348 h1470) (vc_X1_goThrough_12_34 (nS h1475) h1474 h1506 h1338 h1346 h1337 h1193 h1347 h1348 h1470)
            have h1524 : 1 ≤ z1514 ∧ z1514 ≤ 1 := (vc_X12_letWay_11 h1522 h1513.1)
            refine mr_iconst (pc := 128) (z := 1) dX1_goThrough_128 ?_
            refine sv_goto (pc := 129) (tgt := 133) dX1_goThrough_129 (by decide) ?_
            refine mr_istore (pc := 133) (lv' := [(9, iv 1), (0, .ref 21), (2, iv p2), (3, .ref b10), (5, iv z1189), (7, iv z1342), (8, iv ((z1190 + 2) + (z1339 * 5))), (10, iv z1466)]) dX1_goThrough_133 (by decide) rfl ?_
            refine mr_iinc (pc := 135) (lv' := [(10, iv (z1466 + 5)), (9, iv 1), (0, .ref 21), (2, iv p2), (3, .ref b10), (5, iv z1189), (7, iv z1342), (8, iv ((z1190 + 2) + (z1339 * 5)))]) dX1_goThrough_135 rfl (by decide) rfl ?_
            refine sv_goto (pc := 138) (tgt := 88) dX1_goThrough_138 (by decide) ?_
            refine mr_lvS (lv' := [(0, .ref 21), (2, iv p2), (3, .ref b10), (5, iv z1189), (7, iv z1342), (8, iv ((z1190 + 2) + (z1339 * 5))), (9, iv 1), (10, iv (z1466 + 5))]) (List.forall_mem_cons.mpr ⟨rfl, List.forall_mem_cons.mpr ⟨rfl, List.forall_mem_cons.mpr ⟨rfl, List.forall_mem_cons.mpr ⟨rfl, List.forall_mem_cons.mpr ⟨rfl, List.forall_mem_cons.mpr ⟨rfl, List.forall_mem_cons.mpr ⟨rfl, List.forall_mem_cons.mpr ⟨rfl, fun _ h => absurd h List.not_mem_nil⟩⟩⟩⟩⟩⟩⟩⟩) ?_
            exact ih1476 1 (z1466 + 5) trivial (rW (c := 0) (d := 1) (rR (x := 1)) rfl) (vc_X1_goThrough_12_32 h1474 h1506 h1338 h1346 h1337 h1193 h1347 h1348 h1470) (vc_X1_goThrough_12_33 h1338 h1346 h1474 h1506 h1337 h1193 h1347 h1348 h1470) (vc_X1_goThrough_12_34 (nS h1475) h1474 h1506 h1338 h1346 h1337 h1193 h1347 h1348 h1470)
          have h1525 : 1 ≤ z1515 ∧ z1515 ≤ 1 := (vc_X0_compareAt_1 h1519 h1517)
          refine mr_iconst (pc := 120) (z := 1) dX1_goThrough_120 ?_
          refine sv_goto (pc := 121) (tgt := 125) dX1_goThrough_121 (by decide) ?_
          refine mr_icmp_eq (pc := 125) (tgt := 132) dX1_goThrough_125 (by decide) (r32 h1513.1 rfl) (r32 (rR (x := 1)) rfl) (fun h1528 => ?_) (fun h1528 => ?_)
          · have h1529 : 1 ≤ z1514 ∧ z1514 ≤ 1 := (vc_X1_goThrough_12_37 h1528 h1513.1)
            refine mr_iconst (pc := 132) (z := 0) dX1_goThrough_132 ?_
            refine mr_istore (pc := 133) (lv' := [(9, iv 0), (0, .ref 21), (2, iv p2), (3, .ref b10), (5, iv z1189), (7, iv z1342), (8, iv ((z1190 + 2) + (z1339 * 5))), (10, iv z1466)]) dX1_goThrough_133 (by decide) rfl ?_
            refine mr_iinc (pc := 135) (lv' := [(10, iv (z1466 + 5)), (9, iv 0), (0, .ref 21), (2, iv p2), (3, .ref b10), (5, iv z1189), (7, iv z1342), (8, iv ((z1190 + 2) + (z1339 * 5)))]) dX1_goThrough_135 rfl (by decide) rfl ?_
            refine sv_goto (pc := 138) (tgt := 88) dX1_goThrough_138 (by decide) ?_
            refine mr_lvS (lv' := [(0, .ref 21), (2, iv p2), (3, .ref b10), (5, iv z1189), (7, iv z1342), (8, iv ((z1190 + 2) + (z1339 * 5))), (9, iv 0), (10, iv (z1466 + 5))]) (List.forall_mem_cons.mpr ⟨rfl, List.forall_mem_cons.mpr ⟨rfl, List.forall_mem_cons.mpr ⟨rfl, List.forall_mem_cons.mpr ⟨rfl, List.forall_mem_cons.mpr ⟨rfl, List.forall_mem_cons.mpr ⟨rfl, List.forall_mem_cons.mpr ⟨rfl, List.forall_mem_cons.mpr ⟨rfl, fun _ h => absurd h List.not_mem_nil⟩⟩⟩⟩⟩⟩⟩⟩) ?_
            exact ih1476 0 (z1466 + 5) trivial (rW (c := 0) (d := 1) (rR (x := 0)) rfl) (vc_X1_goThrough_12_32 h1474 h1506 h1338 h1346 h1337 h1193 h1347 h1348 h1470) (vc_X1_goThrough_12_33 h1338 h1346 h1474 h1506 h1337 h1193 h1347 h1348 h1470) (vc_X1_goThrough_12_34 (nS h1475) h1474 h1506 h1338 h1346 h1337 h1193 h1347 h1348 h1470)
          have h1530 : 0 ≤ z1514 ∧ z1514 ≤ 0 := (vc_X1_goThrough_12_38 h1528 h1513.1)
          refine mr_iconst (pc := 128) (z := 1) dX1_goThrough_128 ?_
          refine sv_goto (pc := 129) (tgt := 133) dX1_goThrough_129 (by decide) ?_
          refine mr_istore (pc := 133) (lv' := [(9, iv 1), (0, .ref 21), (2, iv p2), (3, .ref b10), (5, iv z1189), (7, iv z1342), (8, iv ((z1190 + 2) + (z1339 * 5))), (10, iv z1466)]) dX1_goThrough_133 (by decide) rfl ?_
          refine mr_iinc (pc := 135) (lv' := [(10, iv (z1466 + 5)), (9, iv 1), (0, .ref 21), (2, iv p2), (3, .ref b10), (5, iv z1189), (7, iv z1342), (8, iv ((z1190 + 2) + (z1339 * 5)))]) dX1_goThrough_135 rfl (by decide) rfl ?_
          refine sv_goto (pc := 138) (tgt := 88) dX1_goThrough_138 (by decide) ?_
          refine mr_lvS (lv' := [(0, .ref 21), (2, iv p2), (3, .ref b10), (5, iv z1189), (7, iv z1342), (8, iv ((z1190 + 2) + (z1339 * 5))), (9, iv 1), (10, iv (z1466 + 5))]) (List.forall_mem_cons.mpr ⟨rfl, List.forall_mem_cons.mpr ⟨rfl, List.forall_mem_cons.mpr ⟨rfl, List.forall_mem_cons.mpr ⟨rfl, List.forall_mem_cons.mpr ⟨rfl, List.forall_mem_cons.mpr ⟨rfl, List.forall_mem_cons.mpr ⟨rfl, List.forall_mem_cons.mpr ⟨rfl, fun _ h => absurd h List.not_mem_nil⟩⟩⟩⟩⟩⟩⟩⟩) ?_
          exact ih1476 1 (z1466 + 5) trivial (rW (c := 0) (d := 1) (rR (x := 1)) rfl) (vc_X1_goThrough_12_32 h1474 h1506 h1338 h1346 h1337 h1193 h1347 h1348 h1470) (vc_X1_goThrough_12_33 h1338 h1346 h1474 h1506 h1337 h1193 h1347 h1348 h1470) (vc_X1_goThrough_12_34 (nS h1475) h1474 h1506 h1338 h1346 h1337 h1193 h1347 h1348 h1470)
      refine mr_lvS (lv' := [(0, .ref 21), (2, iv p2), (3, .ref b10), (5, iv z1189), (7, iv z1342), (8, iv ((z1190 + 2) + (z1339 * 5))), (9, iv 1), (10, iv (z1190 + 2))]) (List.forall_mem_cons.mpr ⟨rfl, List.forall_mem_cons.mpr ⟨rfl, List.forall_mem_cons.mpr ⟨rfl, List.forall_mem_cons.mpr ⟨rfl, List.forall_mem_cons.mpr ⟨rfl, List.forall_mem_cons.mpr ⟨rfl, List.forall_mem_cons.mpr ⟨rfl, List.forall_mem_cons.mpr ⟨rfl, fun _ h => absurd h List.not_mem_nil⟩⟩⟩⟩⟩⟩⟩⟩) ?_
      exact L1468 2010 1 (z1190 + 2) trivial (rW (c := 0) (d := 1) (rR (x := 1)) rfl) (rW (c := 2) (d := 2010) (rAdd (e := 2) (f := 2002) h1193 (rR (x := 2)) rfl) rfl) (vc_X1_goThrough_12_39 h1338 h1346 h1337 h1193 h1347 h1348) (vc_X1_goThrough_12_40 h1338 h1346 h1337 h1193 h1347 h1348)
  refine mr_lvS (lv' := [(0, .ref 21), (2, iv p2), (3, .ref b10), (4, iv 0), (5, iv 0)]) (List.forall_mem_cons.mpr ⟨rfl, List.forall_mem_cons.mpr ⟨rfl, List.forall_mem_cons.mpr ⟨rfl, List.forall_mem_cons.mpr ⟨rfl, List.forall_mem_cons.mpr ⟨rfl, fun _ h => absurd h List.not_mem_nil⟩⟩⟩⟩⟩) ?_
  exact L1192 2002 0 0 μ hT mF.refl (rW (c := 0) (d := 2000) (rR (x := 0)) rfl) (rW (c := 0) (d := 30) (rR (x := 0)) rfl) hIPC hIRT R18 vc_X1_goThrough_12_41
end
