theorem vc_X6_putToken_1 {z1 : Int} (h0 : 1000 ≤ z1) (h1 : 0 ≤ z1 ∧ z1 ≤ 1000) : 1000 ≤ z1 ∧ z1 ≤ 1000 := by omega
theorem vc_X6_putToken_2 {z1 : Int} (h0 : z1 < 1000) (h1 : 0 ≤ z1 ∧ z1 ≤ 1000) : 0 ≤ z1 ∧ z1 ≤ 999 := by omega
set_option maxRecDepth 4000 in
set_option maxHeartbeats 4000000 in
theorem c_X6_putToken {l : Launch} {D : va_G} {c : Nat → ClassId} {H0 : Heap} {sa : Nat × Nat × (Nat → Int32)} {w : mW} {μ : mM} (hw : mWF w) (hT : mT w μ) {p1 : Int} (hp1 : (-2147483648) ≤ p1 ∧ p1 ≤ 2147483647) {p2 : Int} (hp2 : (-2147483648) ≤ p2 ∧ p2 ≤ 2147483647) {p3 : Int} (hp3 : 0 ≤ p3 ∧ p3 ≤ 1000) : sC (gG l D c H0 sa) mX6_putToken 1 0 0 [.ref 23, iv p1, iv p2, iv p3] (mk w μ) (qV w [23008, 24999, 25999, 26999] μ (fun μ1 => True)) := by
  refine sC.of rfl (by decide) (le_t rfl) ?_
  refine mr_lvE (lv' := [(0, .ref 23), (1, iv p1), (2, iv p2), (3, iv p3)]) rfl ?_
  refine sv_aload_n (pc := 0) dX6_putToken_0 rfl rfl ?_
  refine gf_X6_8 (pc := 1) dX6_putToken_1 wF_X6_83 (A_23 hw) hT fun z1 q2 h3 => ?_
  refine mr_sipush (pc := 4) (z := 1000) dX6_putToken_4 (by decide) ?_
  refine mr_icmp_ge (pc := 7) (tgt := 50) dX6_putToken_7 (by decide) (r32 h3 rfl) (r32 (rR (x := 1000)) rfl) (fun h18 => ?_) (fun h18 => ?_)
  · have h19 : 1000 ≤ z1 ∧ z1 ≤ 1000 := (vc_X6_putToken_1 h18 h3)
    exact mr_vret dX6_putToken_50 rfl (le_t rfl) (le_t rfl) hT mF.refl trivial
  have h20 : 0 ≤ z1 ∧ z1 ≤ 999 := (vc_X6_putToken_2 h18 h3)
  refine sv_aload_n (pc := 10) dX6_putToken_10 rfl rfl ?_
  refine gf_X6_0 (pc := 11) dX6_putToken_11 wF_X6_9 (A_23 hw) hT ?_
  refine sv_aload_n (pc := 14) dX6_putToken_14 rfl rfl ?_
  refine gk_X6_8 (pc := 15) dX6_putToken_15 wF_X6_83 (A_23 hw) q2 ?_
  refine mr_iload_n (pc := 18) (z := p1) dX6_putToken_18 rfl rfl ?_
  refine ss_24 (pc := 19) dX6_putToken_19 (A_24 hw) hT (rIx (n := 1001) h20 rfl) hp1 fun μ21 u22 T23 => ?_
  refine sv_aload_n (pc := 20) dX6_putToken_20 rfl rfl ?_
  refine gf_X6_1 (pc := 21) dX6_putToken_21 wF_X6_15 (A_23 hw) T23 ?_
  refine sv_aload_n (pc := 24) dX6_putToken_24 rfl rfl ?_
  refine gk_X6_8 (pc := 25) dX6_putToken_25 wF_X6_83 (A_23 hw) (u22.f (Or.inl (mAt.ne (A_24 hw) (A_23 hw) rfl)) q2) ?_
  refine mr_iload_n (pc := 28) (z := p2) dX6_putToken_28 rfl rfl ?_
  refine ss_25 (pc := 29) dX6_putToken_29 (A_25 hw) T23 (rIx (n := 1001) h20 rfl) hp2 fun μ24 u25 T26 => ?_
  refine sv_aload_n (pc := 30) dX6_putToken_30 rfl rfl ?_
  refine gf_X6_2 (pc := 31) dX6_putToken_31 wF_X6_18 (A_23 hw) T26 ?_
  refine sv_aload_n (pc := 34) dX6_putToken_34 rfl rfl ?_
  refine gk_X6_8 (pc := 35) dX6_putToken_35 wF_X6_83 (A_23 hw) (u25.f (Or.inl (mAt.ne (A_25 hw) (A_23 hw) rfl)) (u22.f (Or.inl (mAt.ne (A_24 hw) (A_23 hw) rfl)) q2)) ?_
  refine mr_iload_n (pc := 38) (z := p3) dX6_putToken_38 rfl rfl ?_
  refine ss_26 (pc := 39) dX6_putToken_39 (A_26 hw) T26 (rIx (n := 1001) h20 rfl) hp3 fun μ27 u28 T29 => ?_
  refine sv_aload_n (pc := 40) dX6_putToken_40 rfl rfl ?_
  refine sv_dup (pc := 41) dX6_putToken_41 rfl ?_
  refine gk_X6_8 (pc := 42) dX6_putToken_42 wF_X6_83 (A_23 hw) (u28.f (Or.inl (mAt.ne (A_26 hw) (A_23 hw) rfl)) (u25.f (Or.inl (mAt.ne (A_25 hw) (A_23 hw) rfl)) (u22.f (Or.inl (mAt.ne (A_24 hw) (A_23 hw) rfl)) q2))) ?_
  refine mr_iconst (pc := 45) (z := 1) dX6_putToken_45 ?_
  refine mr_iadd (pc := 46) (x := z1) (y := 1) dX6_putToken_46 ?_
  refine pf_X6_8 (pc := 47) dX6_putToken_47 wF_X6_83 (A_23 hw) T29 (rW (c := 0) (d := 1000) (rAdd (e := 1) (f := 1000) h20 (rR (x := 1)) rfl) rfl) fun μ30 u31 T32 => ?_
  exact mr_vret dX6_putToken_50 rfl (le_t rfl) (le_t rfl) T32 (mF.up (mF.up (mF.up (mF.up mF.refl (A_24 hw) u22 rfl) (A_25 hw) u25 rfl) (A_26 hw) u28 rfl) (A_23 hw) u31 rfl) trivial
theorem vc_X6_join_1 {z235 : Int} (h0 : (41 - z235) < ((0 : Nat) : Int)) (h1 : 0 ≤ z235 ∧ z235 ≤ 40) : False := by omega
theorem vc_X6_join_2 {z235 z244 : Int} (h0 : z235 < z244) (h1 : 0 ≤ z235 ∧ z235 ≤ 40) (h2 : 0 ≤ z244 ∧ z244 ≤ 40) : 0 ≤ z235 ∧ z235 ≤ 39 := by omega
theorem vc_X6_join_3 {z235 z244 : Int} (h0 : z235 < z244) (h1 : 0 ≤ z235 ∧ z235 ≤ 39) (h2 : 0 ≤ z244 ∧ z244 ≤ 40) : 1 ≤ z244 ∧ z244 ≤ 40 := by omega
theorem vc_X6_join_4 {z277 : Int} (h0 : z277 = 0) (h1 : (-1) ≤ z277 ∧ z277 ≤ 1) : 0 ≤ z277 ∧ z277 ≤ 0 := by omega
theorem vc_X6_join_5 {N z235 z244 : Int} (h0 : (41 - z235) < N + 1) (h1 : z235 < z244) (h2 : 0 ≤ z235 ∧ z235 ≤ 39) (h3 : 1 ≤ z244 ∧ z244 ≤ 40) : (41 - (z235 + 1)) < N := by omega
theorem vc_X6_join_6  : (41 - 0) < ((42 : Nat) : Int) := by omega
set_option maxRecDepth 4000 in
set_option maxHeartbeats 4000000 in
theorem c_X6_join {l : Launch} {D : va_G} {c : Nat → ClassId} {H0 : Heap} {sa : Nat × Nat × (Nat → Int32)} {w : mW} {μ : mM} (hw : mWF w) (hT : mT w μ) {p1 : Int} (hp1 : (-9223372036854775808) ≤ p1 ∧ p1 ≤ 9223372036854775807) {p2 : Int} (hp2 : (-9223372036854775808) ≤ p2 ∧ p2 ≤ 9223372036854775807) : sC (gG l D c H0 sa) mX6_join 1 0 0 [.ref 23, jv p1, jv p2] (mk w μ) (qV w [29999] μ (fun μ1 => True)) := by
  refine sC.of rfl (by decide) (le_t rfl) ?_
  refine mr_lvE (lv' := [(0, .ref 23), (1, jv p1), (3, jv p2)]) rfl ?_
  refine mr_iconst (pc := 0) (z := 0) dX6_join_0 ?_
  refine mr_istore (pc := 1) (lv' := [(5, iv 0), (0, .ref 23), (1, jv p1), (3, jv p2)]) dX6_join_1 (by decide) rfl ?_
  have L237 : ∀ (nL237 : Nat) (z235 : Int) (μ236 : mM), mT w μ236 → mF [29999] w μ μ236 → (0 ≤ z235 ∧ z235 ≤ 40) → (41 - z235) < (nL237 : Int) → sV (gG l D c H0 sa) mX6_join (sRm 1 0 0) (sZ (gG l D c H0 sa) 0 0 (qV w [29999] μ (fun μ1 => True))) 3 [(0, .ref 23), (1, jv p1), (3, jv p2), (5, iv z235)] [] (mk w μ236) 0 0 := by
    intro nL237
    induction nL237 with
    | zero => intro z235 μ236 T239 F240 h238 h242; exact ((vc_X6_join_1 h242 h238)).elim
    | succ nL237 ih243 =>
      intro z235 μ236 T239 F240 h238 h242
      refine mr_iload (pc := 3) (z := z235) dX6_join_3 rfl ?_
      refine sv_aload_n (pc := 5) dX6_join_5 rfl rfl ?_
      refine gf_X6_12 (pc := 6) dX6_join_6 wF_X6_50 (A_23 hw) T239 fun z244 q245 h246 => ?_
      refine mr_icmp_ge (pc := 9) (tgt := 40) dX6_join_9 (by decide) (r32 h238 rfl) (r32 h246 rfl) (fun h268 => ?_) (fun h268 => ?_)
      · exact mr_vret dX6_join_40 rfl (le_t rfl) (le_t rfl) T239 (mF.call mF.refl F240 rfl) trivial
      have h269 : 0 ≤ z235 ∧ z235 ≤ 39 := (vc_X6_join_2 h268 h238 h246)
      have h270 : 1 ≤ z244 ∧ z244 ≤ 40 := (vc_X6_join_3 h268 h269 h246)
      refine mr_lload_n (pc := 12) (z := p1) dX6_join_12 rfl rfl ?_
      refine mr_iload (pc := 13) (z := z235) dX6_join_13 rfl ?_
      refine mr_lushr (pc := 15) dX6_join_15 ?_
      refine mr_genL (r64i _) fun z271 q272 h273 => ?_
      refine mr_lconst (pc := 16) (z := 1) dX6_join_16 (by decide) ?_
      refine mr_land (pc := 17) dX6_join_17 ?_
      refine mr_genL (r64i _) fun z274 q275 h276 => ?_
      refine mr_lconst (pc := 18) (z := 0) dX6_join_18 (by decide) ?_
      refine mr_lcmp (pc := 19) dX6_join_19 ?_
      refine mr_gen (P := fun z => (-1) ≤ z ∧ z ≤ 1) (lg_cmp_r _ _) fun z277 q278 h279 => ?_
      refine mr_if_eq (pc := 20) (tgt := 34) dX6_join_20 (by decide) (r32 h279 rfl) (fun h290 => ?_) (fun h290 => ?_)
      · have h291 : 0 ≤ z277 ∧ z277 ≤ 0 := (vc_X6_join_4 h290 h279)
        refine mr_iinc (pc := 34) (lv' := [(5, iv (z235 + 1)), (0, .ref 23), (1, jv p1), (3, jv p2)]) dX6_join_34 rfl (by decide) rfl ?_
        refine sv_goto (pc := 37) (tgt := 3) dX6_join_37 (by decide) ?_
        refine mr_lvS (lv' := [(0, .ref 23), (1, jv p1), (3, jv p2), (5, iv (z235 + 1))]) (List.forall_mem_cons.mpr ⟨rfl, List.forall_mem_cons.mpr ⟨rfl, List.forall_mem_cons.mpr ⟨rfl, List.forall_mem_cons.mpr ⟨rfl, fun _ h => absurd h List.not_mem_nil⟩⟩⟩⟩) ?_
        exact ih243 (z235 + 1) μ236 T239 (mF.call mF.refl F240 rfl) (rW (c := 0) (d := 40) (rAdd (e := 1) (f := 40) h269 (rR (x := 1)) rfl) rfl) (vc_X6_join_5 (nS h242) h268 h269 h270)
      refine sv_aload_n (pc := 23) dX6_join_23 rfl rfl ?_
      refine gf_X6_5 (pc := 24) dX6_join_24 wF_X6_27 (A_23 hw) T239 ?_
      refine mr_iload (pc := 27) (z := z235) dX6_join_27 rfl ?_
      refine sv_dup2 (pc := 29) dX6_join_29 rfl rfl ?_
      refine la_29 (pc := 30) dX6_join_30 (A_29 hw) T239 (rIx (n := 40) h269 rfl) fun z292 q293 h294 => ?_
      refine mr_lload_n (pc := 31) (z := p2) dX6_join_31 rfl rfl ?_
      refine mr_lor (pc := 32) dX6_join_32 ?_
      refine mr_genL (r64i _) fun z295 q296 h297 => ?_
      refine ss_29 (pc := 33) dX6_join_33 (A_29 hw) T239 (rIx (n := 40) h269 rfl) h297 fun μ298 u299 T300 => ?_
      refine mr_iinc (pc := 34) (lv' := [(5, iv (z235 + 1)), (0, .ref 23), (1, jv p1), (3, jv p2)]) dX6_join_34 rfl (by decide) rfl ?_
      refine sv_goto (pc := 37) (tgt := 3) dX6_join_37 (by decide) ?_
      refine mr_lvS (lv' := [(0, .ref 23), (1, jv p1), (3, jv p2), (5, iv (z235 + 1))]) (List.forall_mem_cons.mpr ⟨rfl, List.forall_mem_cons.mpr ⟨rfl, List.forall_mem_cons.mpr ⟨rfl, List.forall_mem_cons.mpr ⟨rfl, fun _ h => absurd h List.not_mem_nil⟩⟩⟩⟩) ?_
      exact ih243 (z235 + 1) μ298 T300 (mF.up (mF.call mF.refl F240 rfl) (A_29 hw) u299 rfl) (rW (c := 0) (d := 40) (rAdd (e := 1) (f := 40) h269 (rR (x := 1)) rfl) rfl) (vc_X6_join_5 (nS h242) h268 h269 h270)
  refine mr_lvS (lv' := [(0, .ref 23), (1, jv p1), (3, jv p2), (5, iv 0)]) (List.forall_mem_cons.mpr ⟨rfl, List.forall_mem_cons.mpr ⟨rfl, List.forall_mem_cons.mpr ⟨rfl, List.forall_mem_cons.mpr ⟨rfl, fun _ h => absurd h List.not_mem_nil⟩⟩⟩⟩) ?_
  exact L237 42 0 μ hT mF.refl (rW (c := 0) (d := 40) (rR (x := 0)) rfl) vc_X6_join_6
theorem vc_X8_slotOf_1 {p1 p2 p3 p4 : Int} (h0 : 0 ≤ p1 ∧ p1 ≤ 20) (h1 : 0 ≤ p2 ∧ p2 ≤ 1) (h2 : 0 ≤ p3 ∧ p3 ≤ 9) (h3 : 0 ≤ p4 ∧ p4 ≤ 1) : ((((((p1 * 2) + p2) * 10) + p3) * 2) + p4) = 40 * p1 + 20 * p2 + 2 * p3 + p4 := by omega
set_option maxRecDepth 4000 in
set_option maxHeartbeats 4000000 in
theorem c_X8_slotOf {l : Launch} {D : va_G} {c : Nat → ClassId} {H0 : Heap} {sa : Nat × Nat × (Nat → Int32)} {w : mW} {μ : mM} (hw : mWF w) (hT : mT w μ) {p1 : Int} (hp1 : 0 ≤ p1 ∧ p1 ≤ 20) {p2 : Int} (hp2 : 0 ≤ p2 ∧ p2 ≤ 1) {p3 : Int} (hp3 : 0 ≤ p3 ∧ p3 ≤ 9) {p4 : Int} (hp4 : 0 ≤ p4 ∧ p4 ≤ 1) : sC (gG l D c H0 sa) mX8_slotOf 1 0 0 [iv p1, iv p2, iv p3, iv p4] (mk w μ) (qP w μ (fun z => (0 ≤ z ∧ z ≤ 839) ∧ (z = 40 * p1 + 20 * p2 + 2 * p3 + p4) ∧ True)) := by
  refine sC.of rfl (by decide) (le_t rfl) ?_
  refine mr_lvE (lv' := [(0, iv p1), (1, iv p2), (2, iv p3), (3, iv p4)]) rfl ?_
  refine mr_iload_n (pc := 0) (z := p1) dX8_slotOf_0 rfl rfl ?_
  refine mr_iconst (pc := 1) (z := 2) dX8_slotOf_1 ?_
  refine mr_imul (pc := 2) (x := p1) (y := 2) dX8_slotOf_2 ?_
  refine mr_iload_n (pc := 3) (z := p2) dX8_slotOf_3 rfl rfl ?_
  refine mr_iadd (pc := 4) (x := (p1 * 2)) (y := p2) dX8_slotOf_4 ?_
  refine mr_bipush (pc := 5) (z := 10) dX8_slotOf_5 (by decide) ?_
  refine mr_imul (pc := 7) (x := ((p1 * 2) + p2)) (y := 10) dX8_slotOf_7 ?_
  refine mr_iload_n (pc := 8) (z := p3) dX8_slotOf_8 rfl rfl ?_
  refine mr_iadd (pc := 9) (x := (((p1 * 2) + p2) * 10)) (y := p3) dX8_slotOf_9 ?_
  refine mr_iconst (pc := 10) (z := 2) dX8_slotOf_10 ?_
  refine mr_imul (pc := 11) (x := ((((p1 * 2) + p2) * 10) + p3)) (y := 2) dX8_slotOf_11 ?_
  refine mr_iload_n (pc := 12) (z := p4) dX8_slotOf_12 rfl rfl ?_
  refine mr_iadd (pc := 13) (x := (((((p1 * 2) + p2) * 10) + p3) * 2)) (y := p4) dX8_slotOf_13 ?_
  exact mr_iretP dX8_slotOf_14 rfl (le_t rfl) (le_t rfl) ⟨(rAdd (e := 0) (f := 839) (rMulR (n := 2) (e := 0) (f := 838) (rAdd (e := 0) (f := 419) (rMulR (n := 10) (e := 0) (f := 410) (rAdd (e := 0) (f := 41) (rMulR (n := 2) (e := 0) (f := 40) hp1 rfl) hp2 rfl) rfl) hp3 rfl) rfl) hp4 rfl), (vc_X8_slotOf_1 hp1 hp2 hp3 hp4), trivial⟩
theorem vc_X8_schedule_1 {n1 z1 : Int} (h0 : z1 < 800) (h1 : (z1 = 0 ∨ 0 < n1)) (h2 : 0 ≤ z1 ∧ z1 ≤ 800) : 0 ≤ z1 ∧ z1 ≤ 799 := by omega
theorem vc_X8_schedule_2 {n1 z1 z221 : Int} (h0 : (z221 - (-1)) < ((0 : Nat) : Int)) (h1 : z221 ≤ z1) (h2 : (z1 = 0 ∨ 0 < n1)) (h3 : z1 < 800) (h4 : 0 ≤ z1 ∧ z1 ≤ 799) (h5 : 0 ≤ z221 ∧ z221 ≤ 799) : False := by omega
theorem vc_X8_schedule_3 {n1 z1 z221 : Int} (h0 : z221 ≤ z1) (h1 : (z1 = 0 ∨ 0 < n1)) (h2 : z1 < 800) (h3 : 0 ≤ z1 ∧ z1 ≤ 799) (h4 : 0 ≤ z221 ∧ z221 ≤ 799) : 0 ≤ z221 := by omega
theorem vc_X8_schedule_4 {n1 z1 z221 : Int} (h0 : z221 ≤ z1) (h1 : (z1 = 0 ∨ 0 < n1)) (h2 : z1 < 800) (h3 : 0 ≤ z1 ∧ z1 ≤ 799) (h4 : 0 ≤ z221 ∧ z221 ≤ 799) : 0 ≤ (z221 + 1) := by omega
theorem vc_X8_schedule_5 {n1 p1 z1 z221 : Int} (h0 : (z1 = 0 ∨ 0 < n1)) (h1 : z1 < 800) (h2 : z221 ≤ z1) (h3 : p1 < 40 * n1) (h4 : 0 ≤ p1 ∧ p1 ≤ 799) (h5 : 0 ≤ z1 ∧ z1 ≤ 799) (h6 : 0 ≤ z221 ∧ z221 ≤ 799) : 0 ≤ (z1 - z221) := by omega
theorem vc_X8_schedule_6 {n1 p1 z1 z221 : Int} (h0 : (z1 = 0 ∨ 0 < n1)) (h1 : z1 < 800) (h2 : z221 ≤ z1) (h3 : p1 < 40 * n1) (h4 : 0 ≤ p1 ∧ p1 ≤ 799) (h5 : 0 ≤ z1 ∧ z1 ≤ 799) (h6 : 0 ≤ z221 ∧ z221 ≤ 799) : z221 + (z1 - z221) ≤ ((800 : Nat) : Int) := by omega
theorem vc_X8_schedule_7 {n1 p1 z1 z221 : Int} (h0 : (z1 = 0 ∨ 0 < n1)) (h1 : z1 < 800) (h2 : z221 ≤ z1) (h3 : p1 < 40 * n1) (h4 : 0 ≤ p1 ∧ p1 ≤ 799) (h5 : 0 ≤ z1 ∧ z1 ≤ 799) (h6 : 0 ≤ z221 ∧ z221 ≤ 799) : (z221 + 1) + (z1 - z221) ≤ ((800 : Nat) : Int) := by omega
theorem vc_X8_schedule_8 {n1 p1 z1 z221 : Int} (h0 : (z1 = 0 ∨ 0 < n1)) (h1 : p1 < 40 * n1) (h2 : z1 < 800) (h3 : z221 ≤ z1) (h4 : 0 ≤ p1 ∧ p1 ≤ 799) (h5 : 0 ≤ z1 ∧ z1 ≤ 799) (h6 : 0 ≤ z221 ∧ z221 ≤ 799) : 0 ≤ p1 ∧ p1 ≤ 799 ∧ (p1 = 0 ∨ p1 < 40 * n1) := by omega
theorem vc_X8_schedule_9 {n1 p1 z1 z221 : Int} (h0 : (z1 = 0 ∨ 0 < n1)) (h1 : p1 < 40 * n1) (h2 : z1 < 800) (h3 : z221 ≤ z1) (h4 : 0 ≤ p1 ∧ p1 ≤ 799) (h5 : 0 ≤ z1 ∧ z1 ≤ 799) (h6 : 0 ≤ z221 ∧ z221 ≤ 799) : 0 ≤ (z1 + 1) ∧ (z1 + 1) ≤ 800 ∧ ((z1 + 1) = 0 ∨ 0 < n1) := by omega
theorem vc_X8_schedule_10 {z1 z221 : Int} (h0 : z221 ≤ 0) (h1 : z221 ≤ z1) (h2 : 0 ≤ z1 ∧ z1 ≤ 799) (h3 : 0 ≤ z221 ∧ z221 ≤ 799) : 0 ≤ z221 ∧ z221 ≤ 0 := by omega
theorem vc_X8_schedule_11 {z1 z221 : Int} (h0 : 0 < z221) (h1 : z221 ≤ z1) (h2 : 0 ≤ z1 ∧ z1 ≤ 799) (h3 : 0 ≤ z221 ∧ z221 ≤ 799) : 1 ≤ z221 ∧ z221 ≤ 799 := by omega
theorem vc_X8_schedule_12 {p2 z262 : Int} (h0 : p2 < z262) (h1 : (-1) ≤ p2 ∧ p2 ≤ 2000001000) (h2 : (-1) ≤ z262 ∧ z262 ≤ 2000001000) : 0 ≤ z262 ∧ z262 ≤ 2000001000 := by omega
theorem vc_X8_schedule_13 {p2 z262 : Int} (h0 : p2 < z262) (h1 : (-1) ≤ p2 ∧ p2 ≤ 2000001000) (h2 : 0 ≤ z262 ∧ z262 ≤ 2000001000) : (-1) ≤ p2 ∧ p2 ≤ 2000000999 := by omega
theorem vc_X8_schedule_14 {n1 p1 z1 z221 z258 : Int} (h0 : (z1 = 0 ∨ 0 < n1)) (h1 : z1 < 800) (h2 : z221 ≤ z1) (h3 : 0 < z221) (h4 : p1 < 40 * n1) (h5 : (z258 = 0 ∨ z258 < 40 * n1)) (h6 : 0 ≤ p1 ∧ p1 ≤ 799) (h7 : 0 ≤ z1 ∧ z1 ≤ 799) (h8 : 1 ≤ z221 ∧ z221 ≤ 799) (h9 : 0 ≤ z258 ∧ z258 ≤ 799) : (z221 + (-1)) ≤ z1 := by omega
theorem vc_X8_schedule_15 {N n1 z1 z221 : Int} (h0 : (z221 - (-1)) < N + 1) (h1 : z221 ≤ z1) (h2 : 0 < z221) (h3 : (z1 = 0 ∨ 0 < n1)) (h4 : z1 < 800) (h5 : 0 ≤ z1 ∧ z1 ≤ 799) (h6 : 1 ≤ z221 ∧ z221 ≤ 799) : ((z221 + (-1)) - (-1)) < N := by omega
theorem vc_X8_schedule_16 {n1 p1 z1 : Int} (h0 : (z1 = 0 ∨ 0 < n1)) (h1 : z1 < 800) (h2 : p1 < 40 * n1) (h3 : 0 ≤ p1 ∧ p1 ≤ 799) (h4 : 0 ≤ z1 ∧ z1 ≤ 799) : z1 ≤ z1 := by omega
theorem vc_X8_schedule_17 {n1 p1 z1 : Int} (h0 : (z1 = 0 ∨ 0 < n1)) (h1 : z1 < 800) (h2 : p1 < 40 * n1) (h3 : 0 ≤ p1 ∧ p1 ≤ 799) (h4 : 0 ≤ z1 ∧ z1 ≤ 799) : (z1 - (-1)) < ((801 : Nat) : Int) := by omega
theorem vc_X8_schedule_18 {n1 z1 : Int} (h0 : 800 ≤ z1) (h1 : (z1 = 0 ∨ 0 < n1)) (h2 : 0 ≤ z1 ∧ z1 ≤ 800) : 800 ≤ z1 ∧ z1 ≤ 800 := by omega
set_option maxRecDepth 4000 in
set_option maxHeartbeats 4000000 in
theorem c_X8_schedule {l : Launch} {D : va_G} {c : Nat → ClassId} {H0 : Heap} {sa : Nat × Nat × (Nat → Int32)} {w : mW} {μ : mM} (hw : mWF w) (hT : mT w μ) {p1 : Int} (hp1 : 0 ≤ p1 ∧ p1 ≤ 799) {p2 : Int} (hp2 : (-1) ≤ p2 ∧ p2 ≤ 2000001000) (hq0 : p1 < 40 * w.2.2.2 1) : sC (gG l D c H0 sa) mX8_schedule 3 0 0 [.ref 32, iv p1, iv p2] (mk w μ) (qV w [32010, 33999, 34999] μ (fun μ1 => True)) := by
  refine sC.of rfl (by decide) (le_t rfl) ?_
  obtain ⟨z1, q2⟩ : ∃ z, μ 32 10 = z := ⟨_, rfl⟩
  have h3 : (0 ≤ z1 ∧ z1 ≤ 800 ∧ (z1 = 0 ∨ 0 < w.2.2.2 1)) := by rw [← q2]; exact hT 32 32 (A_32 hw) 10
  have h4 : 0 ≤ z1 ∧ z1 ≤ 800 := ⟨h3.1, h3.2.1⟩
  refine mr_lvE (lv' := [(0, .ref 32), (1, iv p1), (2, iv p2)]) rfl ?_
  refine sv_aload_n (pc := 0) dX8_schedule_0 rfl rfl ?_
  refine gk_X8_10 (pc := 1) dX8_schedule_1 wF_X8_52 (A_32 hw) q2 ?_
  refine mr_sipush (pc := 4) (z := 800) dX8_schedule_4 (by decide) ?_
  refine mr_icmp_lt (pc := 7) (tgt := 11) dX8_schedule_7 (by decide) (r32 h4 rfl) (r32 (rR (x := 800)) rfl) (fun h167 => ?_) (fun h167 => ?_)
  · have h168 : 0 ≤ z1 ∧ z1 ≤ 799 := (vc_X8_schedule_1 h167 h3.2.2 h4)
    refine sv_aload_n (pc := 11) dX8_schedule_11 rfl rfl ?_
    refine gk_X8_10 (pc := 12) dX8_schedule_12 wF_X8_52 (A_32 hw) q2 ?_
    refine mr_istore_n (pc := 15) (lv' := [(3, iv z1), (0, .ref 32), (1, iv p1), (2, iv p2)]) dX8_schedule_15 rfl (by decide) rfl ?_
    have L222 : ∀ (nL222 : Nat) (z221 : Int), True → (0 ≤ z221 ∧ z221 ≤ 799) → (z221 ≤ z1) → (z221 - (-1)) < (nL222 : Int) → sV (gG l D c H0 sa) mX8_schedule (sRm 3 0 0) (sZ (gG l D c H0 sa) 0 0 (qV w [32010, 33999, 34999] μ (fun μ1 => True))) 16 [(0, .ref 32), (1, iv p1), (2, iv p2), (3, iv z221)] [] (mk w μ) 0 0 := by
      intro nL222
      induction nL222 with
      | zero => intro z221 _ h223 h227 h228; exact ((vc_X8_schedule_2 h228 h227 h3.2.2 h167 h168 h223)).elim
      | succ nL222 ih229 =>
        intro z221 _ h223 h227 h228
        refine mr_iload_n (pc := 16) (z := z221) dX8_schedule_16 rfl rfl ?_
        have J241 : sV (gG l D c H0 sa) mX8_schedule (sRm 3 0 0) (sZ (gG l D c H0 sa) 0 0 (qV w [32010, 33999, 34999] μ (fun μ1 => True))) 43 [(0, .ref 32), (1, iv p1), (2, iv p2), (3, iv z221)] [] (mk w μ) 0 0 := by
          refine sv_aload_n (pc := 43) dX8_schedule_43 rfl rfl ?_
          refine gf_X8_2 (pc := 44) dX8_schedule_44 wF_X8_19 (A_32 hw) hT ?_
          refine mr_iload_n (pc := 47) (z := z221) dX8_schedule_47 rfl rfl ?_
          refine sv_aload_n (pc := 48) dX8_schedule_48 rfl rfl ?_
          refine gf_X8_2 (pc := 49) dX8_schedule_49 wF_X8_19 (A_32 hw) hT ?_
          refine mr_iload_n (pc := 52) (z := z221) dX8_schedule_52 rfl rfl ?_
          refine mr_iconst (pc := 53) (z := 1) dX8_schedule_53 ?_
          refine mr_iadd (pc := 54) (x := z221) (y := 1) dX8_schedule_54 ?_
          refine sv_aload_n (pc := 55) dX8_schedule_55 rfl rfl ?_
          refine gk_X8_10 (pc := 56) dX8_schedule_56 wF_X8_52 (A_32 hw) q2 ?_
          refine mr_iload_n (pc := 59) (z := z221) dX8_schedule_59 rfl rfl ?_
          refine mr_isub (pc := 60) (x := z1) (y := z221) dX8_schedule_60 ?_
          refine mr_ac (pc := 61) (sp := z221) (dp := (z221 + 1)) (n := (z1 - z221)) dX8_schedule_61 wM_X8_56 wN_J_ac wS_J_ac wI_J_sys rfl (A_33 hw) rfl (A_33 hw) rfl (vc_X8_schedule_3 h227 h3.2.2 h167 h168 h223) (vc_X8_schedule_4 h227 h3.2.2 h167 h168 h223) (vc_X8_schedule_5 h3.2.2 h167 h227 hq0 hp1 h168 h223) (by have h := (A_33 hw).2.2.2 rfl; rw [h]; exact (vc_X8_schedule_6 h3.2.2 h167 h227 hq0 hp1 h168 h223)) (by have h := (A_33 hw).2.2.2 rfl; rw [h]; exact (vc_X8_schedule_7 h3.2.2 h167 h227 hq0 hp1 h168 h223)) (Nat.le_trans (A_33 hw).2.2.1 (le_t rfl)) (Nat.le_trans (A_33 hw).2.2.1 (le_t rfl)) (le_t rfl) (le_t rfl) (le_t rfl) hT (fun i j _ _ => (show (0 ≤ (μ 33 i) ∧ (μ 33 i) ≤ 799 ∧ ((μ 33 i) = 0 ∨ (μ 33 i) < 40 * w.2.2.2 1)) from hT _ _ (A_33 hw) i)) fun μ242 q243 T244 => ?_
          have F245 : mF [33999] w μ μ242 := mF.cell q243.1 (A_33 hw) rfl
          refine sv_aload_n (pc := 64) dX8_schedule_64 rfl rfl ?_
          refine gf_X8_2 (pc := 65) dX8_schedule_65 wF_X8_19 (A_32 hw) T244 ?_
          refine mr_iload_n (pc := 68) (z := z221) dX8_schedule_68 rfl rfl ?_
          refine mr_iload_n (pc := 69) (z := p1) dX8_schedule_69 rfl rfl ?_
          refine ss_33 (pc := 70) dX8_schedule_70 (A_33 hw) T244 (rIx (n := 800) h223 rfl) (vc_X8_schedule_8 h3.2.2 hq0 h167 h227 hp1 h168 h223) fun μ246 u247 T248 => ?_
          refine sv_aload_n (pc := 71) dX8_schedule_71 rfl rfl ?_
          refine gf_X8_3 (pc := 72) dX8_schedule_72 wF_X8_23 (A_32 hw) T248 ?_
          refine mr_iload_n (pc := 75) (z := p1) dX8_schedule_75 rfl rfl ?_
          refine mr_iload_n (pc := 76) (z := p2) dX8_schedule_76 rfl rfl ?_
          refine ss_34 (pc := 77) dX8_schedule_77 (A_34 hw) T248 (rIx (n := 800) hp1 rfl) hp2 fun μ249 u250 T251 => ?_
          refine sv_aload_n (pc := 78) dX8_schedule_78 rfl rfl ?_
          refine sv_dup (pc := 79) dX8_schedule_79 rfl ?_
          refine gk_X8_10 (pc := 80) dX8_schedule_80 wF_X8_52 (A_32 hw) (u250.f (Or.inl (mAt.ne (A_34 hw) (A_32 hw) rfl)) (u247.f (Or.inl (mAt.ne (A_33 hw) (A_32 hw) rfl)) (F245.f (A_32 hw) rfl q2))) ?_
          refine mr_iconst (pc := 83) (z := 1) dX8_schedule_83 ?_
          refine mr_iadd (pc := 84) (x := z1) (y := 1) dX8_schedule_84 ?_
          refine pf_X8_10 (pc := 85) dX8_schedule_85 wF_X8_52 (A_32 hw) T251 (vc_X8_schedule_9 h3.2.2 hq0 h167 h227 hp1 h168 h223) fun μ252 u253 T254 => ?_
          exact mr_vret dX8_schedule_88 rfl (le_t rfl) (le_t rfl) T254 (mF.up (mF.up (mF.up (mF.call mF.refl F245 rfl) (A_33 hw) u247 rfl) (A_34 hw) u250 rfl) (A_32 hw) u253 rfl) trivial
        refine mr_if_le (pc := 17) (tgt := 43) dX8_schedule_17 (by decide) (r32 h223 rfl) (fun h255 => ?_) (fun h255 => ?_)
        · have h256 : 0 ≤ z221 ∧ z221 ≤ 0 := (vc_X8_schedule_10 h255 h227 h168 h223)
          exact J241 
        have h257 : 1 ≤ z221 ∧ z221 ≤ 799 := (vc_X8_schedule_11 h255 h227 h168 h223)
        refine sv_aload_n (pc := 20) dX8_schedule_20 rfl rfl ?_
        refine gf_X8_3 (pc := 21) dX8_schedule_21 wF_X8_23 (A_32 hw) hT ?_
        refine sv_aload_n (pc := 24) dX8_schedule_24 rfl rfl ?_
        refine gf_X8_2 (pc := 25) dX8_schedule_25 wF_X8_19 (A_32 hw) hT ?_
        refine mr_iload_n (pc := 28) (z := z221) dX8_schedule_28 rfl rfl ?_
        refine mr_iconst (pc := 29) (z := 1) dX8_schedule_29 ?_
        refine mr_isub (pc := 30) (x := z221) (y := 1) dX8_schedule_30 ?_
        refine la_33 (pc := 31) dX8_schedule_31 (A_33 hw) hT (rIx (n := 800) (rSub (e := 0) (f := 798) h257 (rR (x := 1)) rfl) rfl) fun z258 q259 h260 => ?_
        have h261 : 0 ≤ z258 ∧ z258 ≤ 799 := ⟨h260.1, h260.2.1⟩
        refine la_34 (pc := 32) dX8_schedule_32 (A_34 hw) hT (rIx (n := 800) h261 rfl) fun z262 q263 h264 => ?_
        refine mr_iload_n (pc := 33) (z := p2) dX8_schedule_33 rfl rfl ?_
        refine mr_icmp_le (pc := 34) (tgt := 43) dX8_schedule_34 (by decide) (r32 h264 rfl) (r32 hp2 rfl) (fun h265 => ?_) (fun h265 => ?_)
        · exact J241 
        have h266 : 0 ≤ z262 ∧ z262 ≤ 2000001000 := (vc_X8_schedule_12 h265 hp2 h264)
        have h267 : (-1) ≤ p2 ∧ p2 ≤ 2000000999 := (vc_X8_schedule_13 h265 hp2 h266)
        refine mr_iinc (pc := 37) (lv' := [(3, iv (z221 + (-1))), (0, .ref 32), (1, iv p1), (2, iv p2)]) dX8_schedule_37 rfl (by decide) rfl ?_
        refine sv_goto (pc := 40) (tgt := 16) dX8_schedule_40 (by decide) ?_
        refine mr_lvS (lv' := [(0, .ref 32), (1, iv p1), (2, iv p2), (3, iv (z221 + (-1)))]) (List.forall_mem_cons.mpr ⟨rfl, List.forall_mem_cons.mpr ⟨rfl, List.forall_mem_cons.mpr ⟨rfl, List.forall_mem_cons.mpr ⟨rfl, fun _ h => absurd h List.not_mem_nil⟩⟩⟩⟩) ?_
        exact ih229 (z221 + (-1)) trivial (rW (c := 0) (d := 799) (rAdd (e := 0) (f := 798) h257 (rR (x := (-1))) rfl) rfl) (vc_X8_schedule_14 h3.2.2 h167 h227 h255 hq0 h260.2.2 hp1 h168 h257 h261) (vc_X8_schedule_15 (nS h228) h227 h255 h3.2.2 h167 h168 h257)
    refine mr_lvS (lv' := [(0, .ref 32), (1, iv p1), (2, iv p2), (3, iv z1)]) (List.forall_mem_cons.mpr ⟨rfl, List.forall_mem_cons.mpr ⟨rfl, List.forall_mem_cons.mpr ⟨rfl, List.forall_mem_cons.mpr ⟨rfl, fun _ h => absurd h List.not_mem_nil⟩⟩⟩⟩) ?_
    exact L222 801 z1 trivial h168 (vc_X8_schedule_16 h3.2.2 h167 hq0 hp1 h168) (vc_X8_schedule_17 h3.2.2 h167 hq0 hp1 h168)
  have h268 : 800 ≤ z1 ∧ z1 ≤ 800 := (vc_X8_schedule_18 h167 h3.2.2 h4)
  exact mr_vret dX8_schedule_10 rfl (le_t rfl) (le_t rfl) hT mF.refl trivial
theorem vc_X8_cancel_1 {z1 : Int} (h0 : ¬ z1 = (-1)) (h1 : (-1) ≤ z1 ∧ z1 ≤ 2000001000) : 0 ≤ z1 ∧ z1 ≤ 2000001000 := by omega
theorem vc_X8_cancel_2 {z249 : Int} (h0 : (801 - z249) < ((0 : Nat) : Int)) (h1 : 0 ≤ z249 ∧ z249 ≤ 800) : False := by omega
theorem vc_X8_cancel_3 {n1 z249 z257 : Int} (h0 : z249 < z257) (h1 : (z257 = 0 ∨ 0 < n1)) (h2 : 0 ≤ z249 ∧ z249 ≤ 800) (h3 : 0 ≤ z257 ∧ z257 ≤ 800) : 0 ≤ z249 ∧ z249 ≤ 799 := by omega
theorem vc_X8_cancel_4 {n1 z249 z257 : Int} (h0 : z249 < z257) (h1 : (z257 = 0 ∨ 0 < n1)) (h2 : 0 ≤ z249 ∧ z249 ≤ 799) (h3 : 0 ≤ z257 ∧ z257 ≤ 800) : 1 ≤ z257 ∧ z257 ≤ 800 := by omega
theorem vc_X8_cancel_5 {n1 z249 z257 : Int} (h0 : (z257 = 0 ∨ 0 < n1)) (h1 : z249 < z257) (h2 : 0 ≤ z249 ∧ z249 ≤ 799) (h3 : 1 ≤ z257 ∧ z257 ≤ 800) : 0 ≤ (z257 - 1) ∧ (z257 - 1) ≤ 800 ∧ ((z257 - 1) = 0 ∨ 0 < n1) := by omega
theorem vc_X8_cancel_6 {n1 z249 z257 : Int} (h0 : z249 < z257) (h1 : (z257 = 0 ∨ 0 < n1)) (h2 : 0 ≤ z249 ∧ z249 ≤ 799) (h3 : 1 ≤ z257 ∧ z257 ≤ 800) : 0 ≤ (z249 + 1) := by omega
theorem vc_X8_cancel_7 {n1 z249 z257 : Int} (h0 : z249 < z257) (h1 : (z257 = 0 ∨ 0 < n1)) (h2 : 0 ≤ z249 ∧ z249 ≤ 799) (h3 : 1 ≤ z257 ∧ z257 ≤ 800) : 0 ≤ z249 := by omega
theorem vc_X8_cancel_8 {n1 z249 z257 : Int} (h0 : (z257 = 0 ∨ 0 < n1)) (h1 : z249 < z257) (h2 : 0 ≤ z249 ∧ z249 ≤ 799) (h3 : 1 ≤ z257 ∧ z257 ≤ 800) : 0 ≤ ((z257 - 1) - z249) := by omega
theorem vc_X8_cancel_9 {n1 z249 z257 : Int} (h0 : (z257 = 0 ∨ 0 < n1)) (h1 : z249 < z257) (h2 : 0 ≤ z249 ∧ z249 ≤ 799) (h3 : 1 ≤ z257 ∧ z257 ≤ 800) : (z249 + 1) + ((z257 - 1) - z249) ≤ ((800 : Nat) : Int) := by omega
theorem vc_X8_cancel_10 {n1 z249 z257 : Int} (h0 : (z257 = 0 ∨ 0 < n1)) (h1 : z249 < z257) (h2 : 0 ≤ z249 ∧ z249 ≤ 799) (h3 : 1 ≤ z257 ∧ z257 ≤ 800) : z249 + ((z257 - 1) - z249) ≤ ((800 : Nat) : Int) := by omega
theorem vc_X8_cancel_11 {N n1 z249 z257 : Int} (h0 : (801 - z249) < N + 1) (h1 : z249 < z257) (h2 : (z257 = 0 ∨ 0 < n1)) (h3 : 0 ≤ z249 ∧ z249 ≤ 799) (h4 : 1 ≤ z257 ∧ z257 ≤ 800) : (801 - (z249 + 1)) < N := by omega
theorem vc_X8_cancel_12  : (801 - 0) < ((802 : Nat) : Int) := by omega
theorem vc_X8_cancel_13 {z1 : Int} (h0 : z1 = (-1)) (h1 : (-1) ≤ z1 ∧ z1 ≤ 2000001000) : (-1) ≤ z1 ∧ z1 ≤ (-1) := by omega
set_option maxRecDepth 4000 in
set_option maxHeartbeats 4000000 in
theorem c_X8_cancel {l : Launch} {D : va_G} {c : Nat → ClassId} {H0 : Heap} {sa : Nat × Nat × (Nat → Int32)} {w : mW} {μ : mM} (hw : mWF w) (hT : mT w μ) {p1 : Int} (hp1 : 0 ≤ p1 ∧ p1 ≤ 799) : sC (gG l D c H0 sa) mX8_cancel 3 0 0 [.ref 32, iv p1] (mk w μ) (qV w [32010, 33999, 34999] μ (fun μ1 => True)) := by
  refine sC.of rfl (by decide) (le_t rfl) ?_
  refine mr_lvE (lv' := [(0, .ref 32), (1, iv p1)]) rfl ?_
  refine sv_aload_n (pc := 0) dX8_cancel_0 rfl rfl ?_
  refine gf_X8_3 (pc := 1) dX8_cancel_1 wF_X8_23 (A_32 hw) hT ?_
  refine mr_iload_n (pc := 4) (z := p1) dX8_cancel_4 rfl rfl ?_
  refine la_34 (pc := 5) dX8_cancel_5 (A_34 hw) hT (rIx (n := 800) hp1 rfl) fun z1 q2 h3 => ?_
  refine mr_iconst (pc := 6) (z := (-1)) dX8_cancel_6 ?_
  refine mr_icmp_ne (pc := 7) (tgt := 11) dX8_cancel_7 (by decide) (r32 h3 rfl) (r32 (rR (x := (-1))) rfl) (fun h4 => ?_) (fun h4 => ?_)
  · have h5 : 0 ≤ z1 ∧ z1 ≤ 2000001000 := (vc_X8_cancel_1 h4 h3)
    refine sv_aload_n (pc := 11) dX8_cancel_11 rfl rfl ?_
    refine gf_X8_3 (pc := 12) dX8_cancel_12 wF_X8_23 (A_32 hw) hT ?_
    refine mr_iload_n (pc := 15) (z := p1) dX8_cancel_15 rfl rfl ?_
    refine mr_iconst (pc := 16) (z := (-1)) dX8_cancel_16 ?_
    refine ss_34 (pc := 17) dX8_cancel_17 (A_34 hw) hT (rIx (n := 800) hp1 rfl) (rW (c := (-1)) (d := 2000001000) (rR (x := (-1))) rfl) fun μ6 u7 T8 => ?_
    refine mr_iconst (pc := 18) (z := 0) dX8_cancel_18 ?_
    refine mr_istore_n (pc := 19) (lv' := [(2, iv 0), (0, .ref 32), (1, iv p1)]) dX8_cancel_19 rfl (by decide) rfl ?_
    have L250 : ∀ (nL250 : Nat) (z249 : Int), True → (0 ≤ z249 ∧ z249 ≤ 800) → (801 - z249) < (nL250 : Int) → sV (gG l D c H0 sa) mX8_cancel (sRm 3 0 0) (sZ (gG l D c H0 sa) 0 0 (qV w [32010, 33999, 34999] μ (fun μ1 => True))) 20 [(0, .ref 32), (1, iv p1), (2, iv z249)] [] (mk w μ6) 0 0 := by
      intro nL250
      induction nL250 with
      | zero => intro z249 _ h251 h255; exact ((vc_X8_cancel_2 h255 h251)).elim
      | succ nL250 ih256 =>
        intro z249 _ h251 h255
        refine mr_iload_n (pc := 20) (z := z249) dX8_cancel_20 rfl rfl ?_
        refine sv_aload_n (pc := 21) dX8_cancel_21 rfl rfl ?_
        refine gf_X8_10 (pc := 22) dX8_cancel_22 wF_X8_52 (A_32 hw) T8 fun z257 q258 h259 => ?_
        have h260 : 0 ≤ z257 ∧ z257 ≤ 800 := ⟨h259.1, h259.2.1⟩
        have J267 : sV (gG l D c H0 sa) mX8_cancel (sRm 3 0 0) (sZ (gG l D c H0 sa) 0 0 (qV w [32010, 33999, 34999] μ (fun μ1 => True))) 44 [(0, .ref 32), (2, iv z249)] [] (mk w μ6) 0 0 := by
          refine mr_iload_n (pc := 44) (z := z249) dX8_cancel_44 rfl rfl ?_
          refine sv_aload_n (pc := 45) dX8_cancel_45 rfl rfl ?_
          refine gk_X8_10 (pc := 46) dX8_cancel_46 wF_X8_52 (A_32 hw) q258 ?_
          refine mr_icmp_ge (pc := 49) (tgt := 83) dX8_cancel_49 (by decide) (r32 h251 rfl) (r32 h260 rfl) (fun h277 => ?_) (fun h277 => ?_)
          · exact mr_vret dX8_cancel_83 rfl (le_t rfl) (le_t rfl) T8 (mF.up mF.refl (A_34 hw) u7 rfl) trivial
          have h278 : 0 ≤ z249 ∧ z249 ≤ 799 := (vc_X8_cancel_3 h277 h259.2.2 h251 h260)
          have h279 : 1 ≤ z257 ∧ z257 ≤ 800 := (vc_X8_cancel_4 h277 h259.2.2 h278 h260)
          refine sv_aload_n (pc := 52) dX8_cancel_52 rfl rfl ?_
          refine sv_dup (pc := 53) dX8_cancel_53 rfl ?_
          refine gk_X8_10 (pc := 54) dX8_cancel_54 wF_X8_52 (A_32 hw) q258 ?_
          refine mr_iconst (pc := 57) (z := 1) dX8_cancel_57 ?_
          refine mr_isub (pc := 58) (x := z257) (y := 1) dX8_cancel_58 ?_
          refine pf_X8_10 (pc := 59) dX8_cancel_59 wF_X8_52 (A_32 hw) T8 (vc_X8_cancel_5 h259.2.2 h277 h278 h279) fun μ280 u281 T282 => ?_
          refine sv_aload_n (pc := 62) dX8_cancel_62 rfl rfl ?_
          refine gf_X8_2 (pc := 63) dX8_cancel_63 wF_X8_19 (A_32 hw) T282 ?_
          refine mr_iload_n (pc := 66) (z := z249) dX8_cancel_66 rfl rfl ?_
          refine mr_iconst (pc := 67) (z := 1) dX8_cancel_67 ?_
          refine mr_iadd (pc := 68) (x := z249) (y := 1) dX8_cancel_68 ?_
          refine sv_aload_n (pc := 69) dX8_cancel_69 rfl rfl ?_
          refine gf_X8_2 (pc := 70) dX8_cancel_70 wF_X8_19 (A_32 hw) T282 ?_
          refine mr_iload_n (pc := 73) (z := z249) dX8_cancel_73 rfl rfl ?_
          refine sv_aload_n (pc := 74) dX8_cancel_74 rfl rfl ?_
          refine gk_X8_10 (pc := 75) dX8_cancel_75 wF_X8_52 (A_32 hw) u281.1 ?_
          refine mr_iload_n (pc := 78) (z := z249) dX8_cancel_78 rfl rfl ?_
          refine mr_isub (pc := 79) (x := (z257 - 1)) (y := z249) dX8_cancel_79 ?_
          refine mr_ac (pc := 80) (sp := (z249 + 1)) (dp := z249) (n := ((z257 - 1) - z249)) dX8_cancel_80 wM_X8_56 wN_J_ac wS_J_ac wI_J_sys rfl (A_33 hw) rfl (A_33 hw) rfl (vc_X8_cancel_6 h277 h259.2.2 h278 h279) (vc_X8_cancel_7 h277 h259.2.2 h278 h279) (vc_X8_cancel_8 h259.2.2 h277 h278 h279) (by have h := (A_33 hw).2.2.2 rfl; rw [h]; exact (vc_X8_cancel_9 h259.2.2 h277 h278 h279)) (by have h := (A_33 hw).2.2.2 rfl; rw [h]; exact (vc_X8_cancel_10 h259.2.2 h277 h278 h279)) (Nat.le_trans (A_33 hw).2.2.1 (le_t rfl)) (Nat.le_trans (A_33 hw).2.2.1 (le_t rfl)) (le_t rfl) (le_t rfl) (le_t rfl) T282 (fun i j _ _ => (show (0 ≤ (μ280 33 i) ∧ (μ280 33 i) ≤ 799 ∧ ((μ280 33 i) = 0 ∨ (μ280 33 i) < 40 * w.2.2.2 1)) from T282 _ _ (A_33 hw) i)) fun μ283 q284 T285 => ?_
          have F286 : mF [33999] w μ280 μ283 := mF.cell q284.1 (A_33 hw) rfl
          exact mr_vret dX8_cancel_83 rfl (le_t rfl) (le_t rfl) T285 (mF.call (mF.up (mF.up mF.refl (A_34 hw) u7 rfl) (A_32 hw) u281 rfl) F286 rfl) trivial
        refine mr_icmp_ge (pc := 25) (tgt := 44) dX8_cancel_25 (by decide) (r32 h251 rfl) (r32 h260 rfl) (fun h287 => ?_) (fun h287 => ?_)
        · refine mr_lvS (lv' := [(0, .ref 32), (2, iv z249)]) (List.forall_mem_cons.mpr ⟨rfl, List.forall_mem_cons.mpr ⟨rfl, fun _ h => absurd h List.not_mem_nil⟩⟩) ?_
          exact J267 
        have h288 : 0 ≤ z249 ∧ z249 ≤ 799 := (vc_X8_cancel_3 h287 h259.2.2 h251 h260)
        have h289 : 1 ≤ z257 ∧ z257 ≤ 800 := (vc_X8_cancel_4 h287 h259.2.2 h288 h260)
        refine sv_aload_n (pc := 28) dX8_cancel_28 rfl rfl ?_
        refine gf_X8_2 (pc := 29) dX8_cancel_29 wF_X8_19 (A_32 hw) T8 ?_
        refine mr_iload_n (pc := 32) (z := z249) dX8_cancel_32 rfl rfl ?_
        refine la_33 (pc := 33) dX8_cancel_33 (A_33 hw) T8 (rIx (n := 800) h288 rfl) fun z290 q291 h292 => ?_
        have h293 : 0 ≤ z290 ∧ z290 ≤ 799 := ⟨h292.1, h292.2.1⟩
        refine mr_iload_n (pc := 34) (z := p1) dX8_cancel_34 rfl rfl ?_
        refine mr_icmp_eq (pc := 35) (tgt := 44) dX8_cancel_35 (by decide) (r32 h293 rfl) (r32 hp1 rfl) (fun h294 => ?_) (fun h294 => ?_)
        · refine mr_lvS (lv' := [(0, .ref 32), (2, iv z249)]) (List.forall_mem_cons.mpr ⟨rfl, List.forall_mem_cons.mpr ⟨rfl, fun _ h => absurd h List.not_mem_nil⟩⟩) ?_
          exact J267 
        refine mr_iinc (pc := 38) (lv' := [(2, iv (z249 + 1)), (0, .ref 32), (1, iv p1)]) dX8_cancel_38 rfl (by decide) rfl ?_
        refine sv_goto (pc := 41) (tgt := 20) dX8_cancel_41 (by decide) ?_
        refine mr_lvS (lv' := [(0, .ref 32), (1, iv p1), (2, iv (z249 + 1))]) (List.forall_mem_cons.mpr ⟨rfl, List.forall_mem_cons.mpr ⟨rfl, List.forall_mem_cons.mpr ⟨rfl, fun _ h => absurd h List.not_mem_nil⟩⟩⟩) ?_
        exact ih256 (z249 + 1) trivial (rW (c := 0) (d := 800) (rAdd (e := 1) (f := 800) h288 (rR (x := 1)) rfl) rfl) (vc_X8_cancel_11 (nS h255) h287 h259.2.2 h288 h289)
    refine mr_lvS (lv' := [(0, .ref 32), (1, iv p1), (2, iv 0)]) (List.forall_mem_cons.mpr ⟨rfl, List.forall_mem_cons.mpr ⟨rfl, List.forall_mem_cons.mpr ⟨rfl, fun _ h => absurd h List.not_mem_nil⟩⟩⟩) ?_
    exact L250 802 0 trivial (rW (c := 0) (d := 800) (rR (x := 0)) rfl) vc_X8_cancel_12
  have h295 : (-1) ≤ z1 ∧ z1 ≤ (-1) := (vc_X8_cancel_13 h4 h3)
  exact mr_vret dX8_cancel_10 rfl (le_t rfl) (le_t rfl) hT mF.refl trivial
theorem vc_X8_passTo_1 {n1 z1 : Int} (h0 : z1 = 0) (h1 : (z1 = 0 ∨ 0 < n1)) (h2 : 0 ≤ z1 ∧ z1 ≤ 800) : 0 ≤ z1 ∧ z1 ≤ 0 := by omega
theorem vc_X8_passTo_2 {n1 z1 : Int} (h0 : ¬ z1 = 0) (h1 : (z1 = 0 ∨ 0 < n1)) (h2 : 0 ≤ z1 ∧ z1 ≤ 800) : 1 ≤ z1 ∧ z1 ≤ 800 := by omega
theorem vc_X8_passTo_3 {p1 z32 : Int} (h0 : z32 ≤ p1) (h1 : (-1) ≤ p1 ∧ p1 ≤ 2000000000) (h2 : (-1) ≤ z32 ∧ z32 ≤ 2000001000) : (-1) ≤ z32 ∧ z32 ≤ 2000000000 := by omega
theorem vc_X8_passTo_4 {p1 z32 : Int} (h0 : p1 < z32) (h1 : (-1) ≤ p1 ∧ p1 ≤ 2000000000) (h2 : (-1) ≤ z32 ∧ z32 ≤ 2000001000) : 0 ≤ z32 ∧ z32 ≤ 2000001000 := by omega
set_option maxRecDepth 4000 in
set_option maxHeartbeats 4000000 in
theorem c_X8_passTo {l : Launch} {D : va_G} {c : Nat → ClassId} {H0 : Heap} {sa : Nat × Nat × (Nat → Int32)} {w : mW} {μ : mM} (hw : mWF w) (hT : mT w μ) {p1 : Int} (hp1 : (-1) ≤ p1 ∧ p1 ≤ 2000000000) : sC (gG l D c H0 sa) mX8_passTo 1 0 0 [.ref 32, iv p1] (mk w μ) (qV w [32011] μ (fun μ1 => True)) := by
  refine sC.of rfl (by decide) (le_t rfl) ?_
  refine mr_lvE (lv' := [(0, .ref 32), (1, iv p1)]) rfl ?_
  refine sv_aload_n (pc := 0) dX8_passTo_0 rfl rfl ?_
  refine gf_X8_10 (pc := 1) dX8_passTo_1 wF_X8_52 (A_32 hw) hT fun z1 q2 h3 => ?_
  have h4 : 0 ≤ z1 ∧ z1 ≤ 800 := ⟨h3.1, h3.2.1⟩
  refine mr_if_eq (pc := 4) (tgt := 22) dX8_passTo_4 (by decide) (r32 h4 rfl) (fun h22 => ?_) (fun h22 => ?_)
  · have h23 : 0 ≤ z1 ∧ z1 ≤ 0 := (vc_X8_passTo_1 h22 h3.2.2 h4)
    refine sv_aload_n (pc := 22) dX8_passTo_22 rfl rfl ?_
    refine mr_iload_n (pc := 23) (z := p1) dX8_passTo_23 rfl rfl ?_
    refine pf_X8_11 (pc := 24) dX8_passTo_24 wF_X8_62 (A_32 hw) hT hp1 fun μ24 u25 T26 => ?_
    exact mr_vret dX8_passTo_27 rfl (le_t rfl) (le_t rfl) T26 (mF.up mF.refl (A_32 hw) u25 rfl) trivial
  have h27 : 1 ≤ z1 ∧ z1 ≤ 800 := (vc_X8_passTo_2 h22 h3.2.2 h4)
  refine sv_aload_n (pc := 7) dX8_passTo_7 rfl rfl ?_
  refine gf_X8_3 (pc := 8) dX8_passTo_8 wF_X8_23 (A_32 hw) hT ?_
  refine sv_aload_n (pc := 11) dX8_passTo_11 rfl rfl ?_
  refine gf_X8_2 (pc := 12) dX8_passTo_12 wF_X8_19 (A_32 hw) hT ?_
  refine mr_iconst (pc := 15) (z := 0) dX8_passTo_15 ?_
  refine la_33 (pc := 16) dX8_passTo_16 (A_33 hw) hT (rIx (n := 800) (rR (x := 0)) rfl) fun z28 q29 h30 => ?_
  have h31 : 0 ≤ z28 ∧ z28 ≤ 799 := ⟨h30.1, h30.2.1⟩
  refine la_34 (pc := 17) dX8_passTo_17 (A_34 hw) hT (rIx (n := 800) h31 rfl) fun z32 q33 h34 => ?_
  refine mr_iload_n (pc := 18) (z := p1) dX8_passTo_18 rfl rfl ?_
  refine mr_icmp_le (pc := 19) (tgt := 27) dX8_passTo_19 (by decide) (r32 h34 rfl) (r32 hp1 rfl) (fun h40 => ?_) (fun h40 => ?_)
  · have h41 : (-1) ≤ z32 ∧ z32 ≤ 2000000000 := (vc_X8_passTo_3 h40 hp1 h34)
    exact mr_vret dX8_passTo_27 rfl (le_t rfl) (le_t rfl) hT mF.refl trivial
  have h42 : 0 ≤ z32 ∧ z32 ≤ 2000001000 := (vc_X8_passTo_4 h40 hp1 h34)
  refine sv_aload_n (pc := 22) dX8_passTo_22 rfl rfl ?_
  refine mr_iload_n (pc := 23) (z := p1) dX8_passTo_23 rfl rfl ?_
  refine pf_X8_11 (pc := 24) dX8_passTo_24 wF_X8_62 (A_32 hw) hT hp1 fun μ43 u44 T45 => ?_
  exact mr_vret dX8_passTo_27 rfl (le_t rfl) (le_t rfl) T45 (mF.up mF.refl (A_32 hw) u44 rfl) trivial
theorem vc_X8_groupOrder_1 {z4 : Int} (h0 : ¬ z4 = 0) (h1 : 0 ≤ z4 ∧ z4 ≤ 20) : 1 ≤ z4 ∧ z4 ≤ 20 := by omega
theorem vc_X8_groupOrder_2 {z4 : Int} (h0 : z4 = 0) (h1 : 0 ≤ z4 ∧ z4 ≤ 20) : 0 ≤ z4 ∧ z4 ≤ 0 := by omega
set_option maxRecDepth 4000 in
set_option maxHeartbeats 4000000 in
theorem c_X8_groupOrder {l : Launch} {D : va_G} {c : Nat → ClassId} {H0 : Heap} {sa : Nat × Nat × (Nat → Int32)} {w : mW} {μ : mM} (hw : mWF w) (hT : mT w μ) {p1 : Int} (hp1 : 0 ≤ p1 ∧ p1 ≤ 9) : sC (gG l D c H0 sa) mX8_groupOrder 1 0 0 [.ref 32, iv p1] (mk w μ) (qJ w [] μ (fun z μ1 => ((-9223372036854775808) ≤ z ∧ z ≤ 9223372036854775807) ∧ True)) := by
  refine sC.of rfl (by decide) (le_t rfl) ?_
  refine mr_lvE (lv' := [(0, .ref 32), (1, iv p1)]) rfl ?_
  refine sv_aload_n (pc := 0) dX8_groupOrder_0 rfl rfl ?_
  refine gf_X8_4 (pc := 1) dX8_groupOrder_1 wF_X8_34 (A_32 hw) hT ?_
  refine mr_iload_n (pc := 4) (z := p1) dX8_groupOrder_4 rfl rfl ?_
  refine la_35 (pc := 5) dX8_groupOrder_5 (A_35 hw) hT (rIx (n := 10) hp1 rfl) fun b1 q2 A3 => ?_
  refine gf_X7_7 (pc := 6) dX8_groupOrder_6 wF_X8_246 A3 hT fun z4 q5 h6 => ?_
  refine mr_if_ne (pc := 9) (tgt := 18) dX8_groupOrder_9 (by decide) (r32 h6 rfl) (fun h19 => ?_) (fun h19 => ?_)
  · have h20 : 1 ≤ z4 ∧ z4 ≤ 20 := (vc_X8_groupOrder_1 h19 h6)
    refine sv_aload_n (pc := 18) dX8_groupOrder_18 rfl rfl ?_
    refine gf_X8_4 (pc := 19) dX8_groupOrder_19 wF_X8_34 (A_32 hw) hT ?_
    refine mr_iload_n (pc := 22) (z := p1) dX8_groupOrder_22 rfl rfl ?_
    refine lk_35 (pc := 23) dX8_groupOrder_23 (A_35 hw) (rIx (n := 10) hp1 rfl) q2 ?_
    refine gf_X7_0 (pc := 24) dX8_groupOrder_24 wF_X8_251 A3 hT fun A21 => ?_
    refine mr_iconst (pc := 27) (z := 0) dX8_groupOrder_27 ?_
    refine la_201 (pc := 28) dX8_groupOrder_28 A21 hT (rIx (n := 20) (rR (x := 0)) rfl) fun z22 q23 h24 => ?_
    refine mr_i2l (pc := 29) dX8_groupOrder_29 h24 ?_
    refine mr_genL (r3264 h24) fun z25 q26 h27 => ?_
    refine mr_ldc2 (pc := 30) (z := 4294967295) dX8_groupOrder_30 wH_X8_254 (by decide) ?_
    refine mr_land (pc := 33) dX8_groupOrder_33 ?_
    refine mr_genL (r64i _) fun z28 q29 h30 => ?_
    exact mr_lret dX8_groupOrder_34 rfl (le_t rfl) (le_t rfl) hT mF.refl ⟨h30, trivial⟩
  have h31 : 0 ≤ z4 ∧ z4 ≤ 0 := (vc_X8_groupOrder_2 h19 h6)
  refine mr_ldc2 (pc := 12) (z := (-1)) dX8_groupOrder_12 wH_X8_249 (by decide) ?_
  refine sv_goto (pc := 15) (tgt := 34) dX8_groupOrder_15 (by decide) ?_
  exact mr_lret dX8_groupOrder_34 rfl (le_t rfl) (le_t rfl) hT mF.refl ⟨(rW (c := -9223372036854775808) (d := 9223372036854775807) (rR (x := (-1))) rfl), trivial⟩
theorem vc_X8_candidateOver_1 {z91 : Int} (h0 : (11 - z91) < ((0 : Nat) : Int)) (h1 : 0 ≤ z91 ∧ z91 ≤ 10) : False := by omega
theorem vc_X8_candidateOver_2 {n1 z91 z99 : Int} (h0 : z91 < z99) (h1 : (z99 = 0 ∨ 0 < n1)) (h2 : 0 ≤ z91 ∧ z91 ≤ 10) (h3 : 0 ≤ z99 ∧ z99 ≤ 10) : 0 ≤ z91 ∧ z91 ≤ 9 := by omega
theorem vc_X8_candidateOver_3 {n1 z91 z99 : Int} (h0 : z91 < z99) (h1 : (z99 = 0 ∨ 0 < n1)) (h2 : 0 ≤ z91 ∧ z91 ≤ 9) (h3 : 0 ≤ z99 ∧ z99 ≤ 10) : 1 ≤ z99 ∧ z99 ≤ 10 := by omega
theorem vc_X8_candidateOver_4 {N n1 z91 z99 : Int} (h0 : (11 - z91) < N + 1) (h1 : z91 < z99) (h2 : (z99 = 0 ∨ 0 < n1)) (h3 : 0 ≤ z91 ∧ z91 ≤ 9) (h4 : 1 ≤ z99 ∧ z99 ≤ 10) : (11 - (z91 + 1)) < N := by omega
theorem vc_X8_candidateOver_5 {n1 p1 z109 : Int} (h0 : z109 = p1) (h1 : (z109 = 0 ∨ z109 < n1)) (h2 : (-2147483648) ≤ p1 ∧ p1 ≤ 2147483647) (h3 : 0 ≤ z109 ∧ z109 ≤ 19) : 0 ≤ p1 ∧ p1 ≤ 19 := by omega
theorem vc_X8_candidateOver_6  : (11 - 0) < ((12 : Nat) : Int) := by omega
set_option maxRecDepth 4000 in
set_option maxHeartbeats 4000000 in
theorem c_X8_candidateOver {l : Launch} {D : va_G} {c : Nat → ClassId} {H0 : Heap} {sa : Nat × Nat × (Nat → Int32)} {w : mW} {μ : mM} (hw : mWF w) (hT : mT w μ) {p1 : Int} (hp1 : (-2147483648) ≤ p1 ∧ p1 ≤ 2147483647) : sC (gG l D c H0 sa) mX8_candidateOver 1 0 0 [.ref 32, iv p1] (mk w μ) (qP w μ (fun z => ((-1) ≤ z ∧ z ≤ 9) ∧ True)) := by
  refine sC.of rfl (by decide) (le_t rfl) ?_
  refine mr_lvE (lv' := [(0, .ref 32), (1, iv p1)]) rfl ?_
  refine mr_iconst (pc := 0) (z := 0) dX8_candidateOver_0 ?_
  refine mr_istore_n (pc := 1) (lv' := [(2, iv 0), (0, .ref 32), (1, iv p1)]) dX8_candidateOver_1 rfl (by decide) rfl ?_
  have L92 : ∀ (nL92 : Nat) (z91 : Int), True → (0 ≤ z91 ∧ z91 ≤ 10) → (11 - z91) < (nL92 : Int) → sV (gG l D c H0 sa) mX8_candidateOver (sRm 1 0 0) (sZ (gG l D c H0 sa) 0 0 (qP w μ (fun z => ((-1) ≤ z ∧ z ≤ 9) ∧ True))) 2 [(0, .ref 32), (1, iv p1), (2, iv z91)] [] (mk w μ) 0 0 := by
    intro nL92
    induction nL92 with
    | zero => intro z91 _ h93 h97; exact ((vc_X8_candidateOver_1 h97 h93)).elim
    | succ nL92 ih98 =>
      intro z91 _ h93 h97
      refine mr_iload_n (pc := 2) (z := z91) dX8_candidateOver_2 rfl rfl ?_
      refine sv_aload_n (pc := 3) dX8_candidateOver_3 rfl rfl ?_
      refine gf_X8_9 (pc := 4) dX8_candidateOver_4 wF_X8_200 (A_32 hw) hT fun z99 q100 h101 => ?_
      have h102 : 0 ≤ z99 ∧ z99 ≤ 10 := ⟨h101.1, h101.2.1⟩
      refine mr_icmp_ge (pc := 7) (tgt := 31) dX8_candidateOver_7 (by decide) (r32 h93 rfl) (r32 h102 rfl) (fun h103 => ?_) (fun h103 => ?_)
      · refine mr_iconst (pc := 31) (z := (-1)) dX8_candidateOver_31 ?_
        exact mr_iretP dX8_candidateOver_32 rfl (le_t rfl) (le_t rfl) ⟨(rW (c := (-1)) (d := 9) (rR (x := (-1))) rfl), trivial⟩
      have h104 : 0 ≤ z91 ∧ z91 ≤ 9 := (vc_X8_candidateOver_2 h103 h101.2.2 h93 h102)
      have h105 : 1 ≤ z99 ∧ z99 ≤ 10 := (vc_X8_candidateOver_3 h103 h101.2.2 h104 h102)
      refine sv_aload_n (pc := 10) dX8_candidateOver_10 rfl rfl ?_
      refine gf_X8_4 (pc := 11) dX8_candidateOver_11 wF_X8_34 (A_32 hw) hT ?_
      refine mr_iload_n (pc := 14) (z := z91) dX8_candidateOver_14 rfl rfl ?_
      refine la_35 (pc := 15) dX8_candidateOver_15 (A_35 hw) hT (rIx (n := 10) h104 rfl) fun b106 q107 A108 => ?_
      refine gf_X7_10 (pc := 16) dX8_candidateOver_16 wF_X8_188 A108 hT fun z109 q110 h111 => ?_
      have h112 : 0 ≤ z109 ∧ z109 ≤ 19 := ⟨h111.1, h111.2.1⟩
      refine mr_iload_n (pc := 19) (z := p1) dX8_candidateOver_19 rfl rfl ?_
      refine mr_icmp_ne (pc := 20) (tgt := 25) dX8_candidateOver_20 (by decide) (r32 h112 rfl) hp1 (fun h113 => ?_) (fun h113 => ?_)
      · refine mr_iinc (pc := 25) (lv' := [(2, iv (z91 + 1)), (0, .ref 32), (1, iv p1)]) dX8_candidateOver_25 rfl (by decide) rfl ?_
        refine sv_goto (pc := 28) (tgt := 2) dX8_candidateOver_28 (by decide) ?_
        refine mr_lvS (lv' := [(0, .ref 32), (1, iv p1), (2, iv (z91 + 1))]) (List.forall_mem_cons.mpr ⟨rfl, List.forall_mem_cons.mpr ⟨rfl, List.forall_mem_cons.mpr ⟨rfl, fun _ h => absurd h List.not_mem_nil⟩⟩⟩) ?_
        exact ih98 (z91 + 1) trivial (rW (c := 0) (d := 10) (rAdd (e := 1) (f := 10) h104 (rR (x := 1)) rfl) rfl) (vc_X8_candidateOver_4 (nS h97) h103 h101.2.2 h104 h105)
      have h114 : 0 ≤ p1 ∧ p1 ≤ 19 := (vc_X8_candidateOver_5 h113 h111.2.2 hp1 h112)
      refine mr_iload_n (pc := 23) (z := z91) dX8_candidateOver_23 rfl rfl ?_
      exact mr_iretP dX8_candidateOver_24 rfl (le_t rfl) (le_t rfl) ⟨(rW (c := (-1)) (d := 9) h104 rfl), trivial⟩
  refine mr_lvS (lv' := [(0, .ref 32), (1, iv p1), (2, iv 0)]) (List.forall_mem_cons.mpr ⟨rfl, List.forall_mem_cons.mpr ⟨rfl, List.forall_mem_cons.mpr ⟨rfl, fun _ h => absurd h List.not_mem_nil⟩⟩⟩) ?_
  exact L92 12 0 trivial (rW (c := 0) (d := 10) (rR (x := 0)) rfl) vc_X8_candidateOver_6
theorem vc_X8_insertWinner_1 {z63 : Int} (h0 : (z63 - (-1)) < ((0 : Nat) : Int)) (h1 : 0 ≤ z63 ∧ z63 ≤ 9) : False := by omega
theorem vc_X8_insertWinner_2 {z63 : Int} (h0 : z63 ≤ 0) (h1 : 0 ≤ z63 ∧ z63 ≤ 9) : 0 ≤ z63 ∧ z63 ≤ 0 := by omega
theorem vc_X8_insertWinner_3 {z63 : Int} (h0 : 0 < z63) (h1 : 0 ≤ z63 ∧ z63 ≤ 9) : 1 ≤ z63 ∧ z63 ≤ 9 := by omega
theorem vc_X8_insertWinner_4 {z114 : Int} (h0 : z114 ≤ 0) (h1 : (-1) ≤ z114 ∧ z114 ≤ 1) : (-1) ≤ z114 ∧ z114 ≤ 0 := by omega
theorem vc_X8_insertWinner_5 {z114 : Int} (h0 : 0 < z114) (h1 : (-1) ≤ z114 ∧ z114 ≤ 1) : 1 ≤ z114 ∧ z114 ≤ 1 := by omega
theorem vc_X8_insertWinner_6 {N z63 : Int} (h0 : (z63 - (-1)) < N + 1) (h1 : 0 < z63) (h2 : 1 ≤ z63 ∧ z63 ≤ 9) : ((z63 + (-1)) - (-1)) < N := by omega
theorem vc_X8_insertWinner_7 {p1 : Int} (h0 : 0 ≤ p1 ∧ p1 ≤ 9) : (p1 - (-1)) < ((11 : Nat) : Int) := by omega
set_option maxRecDepth 4000 in
set_option maxHeartbeats 4000000 in
theorem c_X8_insertWinner {l : Launch} {D : va_G} {c : Nat → ClassId} {H0 : Heap} {sa : Nat × Nat × (Nat → Int32)} {w : mW} {μ : mM} (hw : mWF w) (hT : mT w μ) {p1 : Int} (hp1 : 0 ≤ p1 ∧ p1 ≤ 9) {p2 : Int} (hp2 : 0 ≤ p2 ∧ p2 ≤ 9) : sC (gG l D c H0 sa) mX8_insertWinner 2 0 0 [.ref 32, iv p1, iv p2] (mk w μ) (qV w [66999] μ (fun μ1 => True)) := by
  refine sC.of rfl (by decide) (le_t rfl) ?_
  refine mr_lvE (lv' := [(0, .ref 32), (1, iv p1), (2, iv p2)]) rfl ?_
  refine mr_iload_n (pc := 0) (z := p1) dX8_insertWinner_0 rfl rfl ?_
  refine mr_istore_n (pc := 1) (lv' := [(3, iv p1), (0, .ref 32), (1, iv p1), (2, iv p2)]) dX8_insertWinner_1 rfl (by decide) rfl ?_
  have L65 : ∀ (nL65 : Nat) (z63 : Int) (μ64 : mM), mT w μ64 → mF [66999] w μ μ64 → (0 ≤ z63 ∧ z63 ≤ 9) → (z63 - (-1)) < (nL65 : Int) → sV (gG l D c H0 sa) mX8_insertWinner (sRm 2 0 0) (sZ (gG l D c H0 sa) 0 0 (qV w [66999] μ (fun μ1 => True))) 2 [(0, .ref 32), (2, iv p2), (3, iv z63)] [] (mk w μ64) 0 0 := by
    intro nL65
    induction nL65 with
    | zero => intro z63 μ64 T67 F68 h66 h70; exact ((vc_X8_insertWinner_1 h70 h66)).elim
    | succ nL65 ih71 =>
      intro z63 μ64 T67 F68 h66 h70
      refine mr_iload_n (pc := 2) (z := z63) dX8_insertWinner_2 rfl rfl ?_
      refine mr_if_le (pc := 3) (tgt := 47) dX8_insertWinner_3 (by decide) (r32 h66 rfl) (fun h95 => ?_) (fun h95 => ?_)
      · have h96 : 0 ≤ z63 ∧ z63 ≤ 0 := (vc_X8_insertWinner_2 h95 h66)
        refine sv_aload_n (pc := 47) dX8_insertWinner_47 rfl rfl ?_
        refine gf_X8_5 (pc := 48) dX8_insertWinner_48 wF_X8_39 (A_32 hw) T67 ?_
        refine mr_iload_n (pc := 51) (z := z63) dX8_insertWinner_51 rfl rfl ?_
        refine mr_iload_n (pc := 52) (z := p2) dX8_insertWinner_52 rfl rfl ?_
        refine ss_66 (pc := 53) dX8_insertWinner_53 (A_66 hw) T67 (rIx (n := 10) h96 rfl) hp2 fun μ97 u98 T99 => ?_
        exact mr_vret dX8_insertWinner_54 rfl (le_t rfl) (le_t rfl) T99 (mF.up (mF.call mF.refl F68 rfl) (A_66 hw) u98 rfl) trivial
      have h100 : 1 ≤ z63 ∧ z63 ≤ 9 := (vc_X8_insertWinner_3 h95 h66)
      refine sv_aload_n (pc := 6) dX8_insertWinner_6 rfl rfl ?_
      refine sv_aload_n (pc := 7) dX8_insertWinner_7 rfl rfl ?_
      refine gf_X8_5 (pc := 8) dX8_insertWinner_8 wF_X8_39 (A_32 hw) T67 ?_
      refine mr_iload_n (pc := 11) (z := z63) dX8_insertWinner_11 rfl rfl ?_
      refine mr_iconst (pc := 12) (z := 1) dX8_insertWinner_12 ?_
      refine mr_isub (pc := 13) (x := z63) (y := 1) dX8_insertWinner_13 ?_
      refine la_66 (pc := 14) dX8_insertWinner_14 (A_66 hw) T67 (rIx (n := 10) (rSub (e := 0) (f := 8) h100 (rR (x := 1)) rfl) rfl) fun z101 q102 h103 => ?_
      refine mr_cVJ (pc := 15) (c_X8_groupOrder hw T67 h103) (gOk _ _ _ _ _) dX8_insertWinner_15 (tX8_groupOrder _ _ _ _ _) ⟨wV_X8_groupOrder, wL_X8_groupOrder⟩ wM_X8_242 (gCX8 _ _ _ _ _) rfl (A_32 hw) rfl ⟨le_t rfl, le_t rfl⟩ ⟨le_t rfl, le_t rfl⟩ rfl (le_t rfl) fun z108 μ104 T105 F106 h107 => ?_
      refine sv_aload_n (pc := 18) dX8_insertWinner_18 rfl rfl ?_
      refine mr_iload_n (pc := 19) (z := p2) dX8_insertWinner_19 rfl rfl ?_
      refine mr_cVJ (pc := 20) (c_X8_groupOrder hw T105 hp2) (gOk _ _ _ _ _) dX8_insertWinner_20 (tX8_groupOrder _ _ _ _ _) ⟨wV_X8_groupOrder, wL_X8_groupOrder⟩ wM_X8_242 (gCX8 _ _ _ _ _) rfl (A_32 hw) rfl ⟨le_t rfl, le_t rfl⟩ ⟨le_t rfl, le_t rfl⟩ rfl (le_t rfl) fun z113 μ109 T110 F111 h112 => ?_
      refine mr_lcmp (pc := 23) dX8_insertWinner_23 ?_
      refine mr_gen (P := fun z => (-1) ≤ z ∧ z ≤ 1) (lg_cmp_r _ _) fun z114 q115 h116 => ?_
      refine mr_if_le (pc := 24) (tgt := 47) dX8_insertWinner_24 (by decide) (r32 h116 rfl) (fun h122 => ?_) (fun h122 => ?_)
      · have h123 : (-1) ≤ z114 ∧ z114 ≤ 0 := (vc_X8_insertWinner_4 h122 h116)
        refine sv_aload_n (pc := 47) dX8_insertWinner_47 rfl rfl ?_
        refine gf_X8_5 (pc := 48) dX8_insertWinner_48 wF_X8_39 (A_32 hw) T110 ?_
        refine mr_iload_n (pc := 51) (z := z63) dX8_insertWinner_51 rfl rfl ?_
        refine mr_iload_n (pc := 52) (z := p2) dX8_insertWinner_52 rfl rfl ?_
        refine ss_66 (pc := 53) dX8_insertWinner_53 (A_66 hw) T110 (rIx (n := 10) h100 rfl) hp2 fun μ124 u125 T126 => ?_
        exact mr_vret dX8_insertWinner_54 rfl (le_t rfl) (le_t rfl) T126 (mF.up (mF.call (mF.call (mF.call mF.refl F68 rfl) F106 rfl) F111 rfl) (A_66 hw) u125 rfl) trivial
      have h127 : 1 ≤ z114 ∧ z114 ≤ 1 := (vc_X8_insertWinner_5 h122 h116)
      refine sv_aload_n (pc := 27) dX8_insertWinner_27 rfl rfl ?_
      refine gf_X8_5 (pc := 28) dX8_insertWinner_28 wF_X8_39 (A_32 hw) T110 ?_
      refine mr_iload_n (pc := 31) (z := z63) dX8_insertWinner_31 rfl rfl ?_
      refine sv_aload_n (pc := 32) dX8_insertWinner_32 rfl rfl ?_
      refine gf_X8_5 (pc := 33) dX8_insertWinner_33 wF_X8_39 (A_32 hw) T110 ?_
      refine mr_iload_n (pc := 36) (z := z63) dX8_insertWinner_36 rfl rfl ?_
      refine mr_iconst (pc := 37) (z := 1) dX8_insertWinner_37 ?_
      refine mr_isub (pc := 38) (x := z63) (y := 1) dX8_insertWinner_38 ?_
      refine lk_66 (pc := 39) dX8_insertWinner_39 (A_66 hw) (rIx (n := 10) (rSub (e := 0) (f := 8) h100 (rR (x := 1)) rfl) rfl) (F111.f (A_66 hw) rfl (F106.f (A_66 hw) rfl q102)) ?_
      refine ss_66 (pc := 40) dX8_insertWinner_40 (A_66 hw) T110 (rIx (n := 10) h100 rfl) h103 fun μ128 u129 T130 => ?_
      refine mr_iinc (pc := 41) (lv' := [(3, iv (z63 + (-1))), (0, .ref 32), (2, iv p2)]) dX8_insertWinner_41 rfl (by decide) rfl ?_
      refine sv_goto (pc := 44) (tgt := 2) dX8_insertWinner_44 (by decide) ?_
      refine mr_lvS (lv' := [(0, .ref 32), (2, iv p2), (3, iv (z63 + (-1)))]) (List.forall_mem_cons.mpr ⟨rfl, List.forall_mem_cons.mpr ⟨rfl, List.forall_mem_cons.mpr ⟨rfl, fun _ h => absurd h List.not_mem_nil⟩⟩⟩) ?_
      exact ih71 (z63 + (-1)) μ128 T130 (mF.up (mF.call (mF.call (mF.call mF.refl F68 rfl) F106 rfl) F111 rfl) (A_66 hw) u129 rfl) (rW (c := 0) (d := 9) (rAdd (e := 0) (f := 8) h100 (rR (x := (-1))) rfl) rfl) (vc_X8_insertWinner_6 (nS h70) h95 h100)
  refine mr_lvS (lv' := [(0, .ref 32), (2, iv p2), (3, iv p1)]) (List.forall_mem_cons.mpr ⟨rfl, List.forall_mem_cons.mpr ⟨rfl, List.forall_mem_cons.mpr ⟨rfl, fun _ h => absurd h List.not_mem_nil⟩⟩⟩) ?_
  exact L65 11 p1 μ hT mF.refl hp1 (vc_X8_insertWinner_7 hp1)
theorem vc_X8_isFirstOfGroup_1 {z97 : Int} (h0 : (10 - z97) < ((0 : Nat) : Int)) (h1 : 0 ≤ z97 ∧ z97 ≤ 9) : False := by omega
theorem vc_X8_isFirstOfGroup_2 {p1 z97 : Int} (h0 : z97 < p1) (h1 : 0 ≤ p1 ∧ p1 ≤ 9) (h2 : 0 ≤ z97 ∧ z97 ≤ 9) : 0 ≤ z97 ∧ z97 ≤ 8 := by omega
theorem vc_X8_isFirstOfGroup_3 {p1 z97 : Int} (h0 : z97 < p1) (h1 : 0 ≤ p1 ∧ p1 ≤ 9) (h2 : 0 ≤ z97 ∧ z97 ≤ 8) : 1 ≤ p1 ∧ p1 ≤ 9 := by omega
theorem vc_X8_isFirstOfGroup_4 {z118 : Int} (h0 : z118 = 0) (h1 : 0 ≤ z118 ∧ z118 ≤ 1) : 0 ≤ z118 ∧ z118 ≤ 0 := by omega
theorem vc_X8_isFirstOfGroup_5 {N p1 z97 : Int} (h0 : (10 - z97) < N + 1) (h1 : z97 < p1) (h2 : 1 ≤ p1 ∧ p1 ≤ 9) (h3 : 0 ≤ z97 ∧ z97 ≤ 8) : (10 - (z97 + 1)) < N := by omega
theorem vc_X8_isFirstOfGroup_6 {z118 : Int} (h0 : ¬ z118 = 0) (h1 : 0 ≤ z118 ∧ z118 ≤ 1) : 1 ≤ z118 ∧ z118 ≤ 1 := by omega
theorem vc_X8_isFirstOfGroup_7  : (10 - 0) < ((11 : Nat) : Int) := by omega
set_option maxRecDepth 4000 in
set_option maxHeartbeats 4000000 in
theorem c_X8_isFirstOfGroup {l : Launch} {D : va_G} {c : Nat → ClassId} {H0 : Heap} {sa : Nat × Nat × (Nat → Int32)} {w : mW} {μ : mM} (hw : mWF w) (hT : mT w μ) {p1 : Int} (hp1 : 0 ≤ p1 ∧ p1 ≤ 9) : sC (gG l D c H0 sa) mX8_isFirstOfGroup 2 0 0 [.ref 32, iv p1] (mk w μ) (qP w μ (fun z => (0 ≤ z ∧ z ≤ 1) ∧ True)) := by
  refine sC.of rfl (by decide) (le_t rfl) ?_
  refine mr_lvE (lv' := [(0, .ref 32), (1, iv p1)]) rfl ?_
  refine mr_iconst (pc := 0) (z := 0) dX8_isFirstOfGroup_0 ?_
  refine mr_istore_n (pc := 1) (lv' := [(2, iv 0), (0, .ref 32), (1, iv p1)]) dX8_isFirstOfGroup_1 rfl (by decide) rfl ?_
  have L98 : ∀ (nL98 : Nat) (z97 : Int), True → (0 ≤ z97 ∧ z97 ≤ 9) → (10 - z97) < (nL98 : Int) → sV (gG l D c H0 sa) mX8_isFirstOfGroup (sRm 2 0 0) (sZ (gG l D c H0 sa) 0 0 (qP w μ (fun z => (0 ≤ z ∧ z ≤ 1) ∧ True))) 2 [(0, .ref 32), (1, iv p1), (2, iv z97)] [] (mk w μ) 0 0 := by
    intro nL98
    induction nL98 with
    | zero => intro z97 _ h99 h103; exact ((vc_X8_isFirstOfGroup_1 h103 h99)).elim
    | succ nL98 ih104 =>
      intro z97 _ h99 h103
      refine mr_iload_n (pc := 2) (z := z97) dX8_isFirstOfGroup_2 rfl rfl ?_
      refine mr_iload_n (pc := 3) (z := p1) dX8_isFirstOfGroup_3 rfl rfl ?_
      refine mr_icmp_ge (pc := 4) (tgt := 33) dX8_isFirstOfGroup_4 (by decide) (r32 h99 rfl) (r32 hp1 rfl) (fun h105 => ?_) (fun h105 => ?_)
      · refine mr_iconst (pc := 33) (z := 1) dX8_isFirstOfGroup_33 ?_
        exact mr_zretP dX8_isFirstOfGroup_34 rfl (rW (c := 0) (d := 1) (rR (x := 1)) rfl) (le_t rfl) (le_t rfl) ⟨(rW (c := 0) (d := 1) (rR (x := 1)) rfl), trivial⟩
      have h106 : 0 ≤ z97 ∧ z97 ≤ 8 := (vc_X8_isFirstOfGroup_2 h105 hp1 h99)
      have h107 : 1 ≤ p1 ∧ p1 ≤ 9 := (vc_X8_isFirstOfGroup_3 h105 hp1 h106)
      refine sv_aload_n (pc := 7) dX8_isFirstOfGroup_7 rfl rfl ?_
      refine gf_X8_4 (pc := 8) dX8_isFirstOfGroup_8 wF_X8_34 (A_32 hw) hT ?_
      refine mr_iload_n (pc := 11) (z := z97) dX8_isFirstOfGroup_11 rfl rfl ?_
      refine la_35 (pc := 12) dX8_isFirstOfGroup_12 (A_35 hw) hT (rIx (n := 10) h106 rfl) fun b108 q109 A110 => ?_
      refine sv_aload_n (pc := 13) dX8_isFirstOfGroup_13 rfl rfl ?_
      refine gf_X8_4 (pc := 14) dX8_isFirstOfGroup_14 wF_X8_34 (A_32 hw) hT ?_
      refine mr_iload_n (pc := 17) (z := p1) dX8_isFirstOfGroup_17 rfl rfl ?_
      refine la_35 (pc := 18) dX8_isFirstOfGroup_18 (A_35 hw) hT (rIx (n := 10) h107 rfl) fun b111 q112 A113 => ?_
      refine mr_cVP (pc := 19) (c_X7_sharesFirst hw hT A110 A113) (gOk _ _ _ _ _) dX8_isFirstOfGroup_19 (tX7_sharesFirst _ _ _ _ _) ⟨wV_X7_sharesFirst, wL_X7_sharesFirst⟩ wM_X8_239 (gCX7 _ _ _ _ _) rfl A110 rfl ⟨le_t rfl, le_t rfl⟩ ⟨le_t rfl, le_t rfl⟩ rfl (le_t rfl) fun z118 h117 => ?_
      refine mr_if_eq (pc := 22) (tgt := 27) dX8_isFirstOfGroup_22 (by decide) (r32 h117.1 rfl) (fun h119 => ?_) (fun h119 => ?_)
      · have h120 : 0 ≤ z118 ∧ z118 ≤ 0 := (vc_X8_isFirstOfGroup_4 h119 h117.1)
        refine mr_iinc (pc := 27) (lv' := [(2, iv (z97 + 1)), (0, .ref 32), (1, iv p1)]) dX8_isFirstOfGroup_27 rfl (by decide) rfl ?_
        refine sv_goto (pc := 30) (tgt := 2) dX8_isFirstOfGroup_30 (by decide) ?_
        refine mr_lvS (lv' := [(0, .ref 32), (1, iv p1), (2, iv (z97 + 1))]) (List.forall_mem_cons.mpr ⟨rfl, List.forall_mem_cons.mpr ⟨rfl, List.forall_mem_cons.mpr ⟨rfl, fun _ h => absurd h List.not_mem_nil⟩⟩⟩) ?_
        exact ih104 (z97 + 1) trivial (rW (c := 0) (d := 9) (rAdd (e := 1) (f := 9) h106 (rR (x := 1)) rfl) rfl) (vc_X8_isFirstOfGroup_5 (nS h103) h105 h107 h106)
      have h121 : 1 ≤ z118 ∧ z118 ≤ 1 := (vc_X8_isFirstOfGroup_6 h119 h117.1)
      refine mr_iconst (pc := 25) (z := 0) dX8_isFirstOfGroup_25 ?_
      exact mr_zretP dX8_isFirstOfGroup_26 rfl (rW (c := 0) (d := 1) (rR (x := 0)) rfl) (le_t rfl) (le_t rfl) ⟨(rW (c := 0) (d := 1) (rR (x := 0)) rfl), trivial⟩
  refine mr_lvS (lv' := [(0, .ref 32), (1, iv p1), (2, iv 0)]) (List.forall_mem_cons.mpr ⟨rfl, List.forall_mem_cons.mpr ⟨rfl, List.forall_mem_cons.mpr ⟨rfl, fun _ h => absurd h List.not_mem_nil⟩⟩⟩) ?_
  exact L98 11 0 trivial (rW (c := 0) (d := 9) (rR (x := 0)) rfl) vc_X8_isFirstOfGroup_7
theorem vc_X8_lastStanding_1 {p2 : Int} (h0 : p2 ≤ 0) (h1 : 0 ≤ p2 ∧ p2 ≤ 10) : 0 ≤ p2 ∧ p2 ≤ 0 := by omega
theorem vc_X8_lastStanding_2 (h0 : 1 < ((0 : Nat) : Int)) : False := by omega
theorem vc_X8_lastStanding_3 {p2 z16 : Int} (h0 : z16 < p2) (h1 : 0 ≤ p2 ∧ p2 ≤ 0) (h2 : 1 ≤ z16 ∧ z16 ≤ 1) : False := by omega
theorem vc_X8_lastStanding_4 {p2 z17 : Int} (h0 : p2 ≤ 0) (h1 : 0 ≤ z17 ∨ p2 ≤ 0) (h2 : z17 < 0 ∨ 0 < p2) (h3 : 0 ≤ p2 ∧ p2 ≤ 0) (h4 : (-1) ≤ z17 ∧ z17 ≤ (-1)) : z17 < 0 ∨ 0 < p2 := by omega
theorem vc_X8_lastStanding_5 {p2 : Int} (h0 : p2 ≤ 0) (h1 : 0 ≤ p2 ∧ p2 ≤ 0) : 0 ≤ ((-1) : Int) ∨ p2 ≤ 0 := by omega
theorem vc_X8_lastStanding_6 {p2 : Int} (h0 : p2 ≤ 0) (h1 : 0 ≤ p2 ∧ p2 ≤ 0) : ((-1) : Int) < 0 ∨ 0 < p2 := by omega
theorem vc_X8_lastStanding_7  : 1 < ((2 : Nat) : Int) := by omega
theorem vc_X8_lastStanding_8 {p2 : Int} (h0 : 0 < p2) (h1 : 0 ≤ p2 ∧ p2 ≤ 10) : 1 ≤ p2 ∧ p2 ≤ 10 := by omega
theorem vc_X8_lastStanding_9 {z164 : Int} (h0 : (11 - z164) < ((0 : Nat) : Int)) (h1 : 1 ≤ z164 ∧ z164 ≤ 10) : False := by omega
theorem vc_X8_lastStanding_10 {p2 z164 z165 : Int} (h0 : 0 < p2) (h1 : 0 ≤ z165 ∨ p2 ≤ 0) (h2 : z165 < 0 ∨ 0 < p2) (h3 : p2 ≤ z164) (h4 : 1 ≤ p2 ∧ p2 ≤ 10) (h5 : 1 ≤ z164 ∧ z164 ≤ 10) (h6 : 0 ≤ z165 ∧ z165 ≤ 9) : z165 < 0 ∨ 0 < p2 := by omega
theorem vc_X8_lastStanding_11 {p2 z164 z165 : Int} (h0 : z164 < p2) (h1 : 0 < p2) (h2 : 0 ≤ z165 ∨ p2 ≤ 0) (h3 : z165 < 0 ∨ 0 < p2) (h4 : 1 ≤ p2 ∧ p2 ≤ 10) (h5 : 1 ≤ z164 ∧ z164 ≤ 10) (h6 : 0 ≤ z165 ∧ z165 ≤ 9) : 1 ≤ z164 ∧ z164 ≤ 9 := by omega
theorem vc_X8_lastStanding_12 {p2 z164 z165 : Int} (h0 : z164 < p2) (h1 : 0 < p2) (h2 : 0 ≤ z165 ∨ p2 ≤ 0) (h3 : z165 < 0 ∨ 0 < p2) (h4 : 1 ≤ p2 ∧ p2 ≤ 10) (h5 : 1 ≤ z164 ∧ z164 ≤ 9) (h6 : 0 ≤ z165 ∧ z165 ≤ 9) : 2 ≤ p2 ∧ p2 ≤ 10 := by omega
theorem vc_X8_lastStanding_13 {z210 : Int} (h0 : z210 = 0) (h1 : 0 ≤ z210 ∧ z210 ≤ 1) : 0 ≤ z210 ∧ z210 ≤ 0 := by omega
theorem vc_X8_lastStanding_14 {p2 z164 z165 : Int} (h0 : 0 < p2) (h1 : 0 ≤ z165 ∨ p2 ≤ 0) (h2 : z165 < 0 ∨ 0 < p2) (h3 : z164 < p2) (h4 : 2 ≤ p2 ∧ p2 ≤ 10) (h5 : 1 ≤ z164 ∧ z164 ≤ 9) (h6 : 0 ≤ z165 ∧ z165 ≤ 9) : 0 ≤ z165 ∨ p2 ≤ 0 := by omega
theorem vc_X8_lastStanding_15 {p2 z164 z165 : Int} (h0 : 0 < p2) (h1 : 0 ≤ z165 ∨ p2 ≤ 0) (h2 : z165 < 0 ∨ 0 < p2) (h3 : z164 < p2) (h4 : 2 ≤ p2 ∧ p2 ≤ 10) (h5 : 1 ≤ z164 ∧ z164 ≤ 9) (h6 : 0 ≤ z165 ∧ z165 ≤ 9) : z165 < 0 ∨ 0 < p2 := by omega
theorem vc_X8_lastStanding_16 {N p2 z164 z165 : Int} (h0 : (11 - z164) < N + 1) (h1 : z164 < p2) (h2 : 0 < p2) (h3 : 0 ≤ z165 ∨ p2 ≤ 0) (h4 : z165 < 0 ∨ 0 < p2) (h5 : 2 ≤ p2 ∧ p2 ≤ 10) (h6 : 1 ≤ z164 ∧ z164 ≤ 9) (h7 : 0 ≤ z165 ∧ z165 ≤ 9) : (11 - (z164 + 1)) < N := by omega
theorem vc_X8_lastStanding_17 {z210 : Int} (h0 : ¬ z210 = 0) (h1 : 0 ≤ z210 ∧ z210 ≤ 1) : 1 ≤ z210 ∧ z210 ≤ 1 := by omega
theorem vc_X8_lastStanding_18 {p2 z164 z165 z197 : Int} (h0 : 0 < p2) (h1 : 0 ≤ z165 ∨ p2 ≤ 0) (h2 : z165 < 0 ∨ 0 < p2) (h3 : z164 < p2) (h4 : 2 ≤ p2 ∧ p2 ≤ 10) (h5 : 1 ≤ z164 ∧ z164 ≤ 9) (h6 : 0 ≤ z165 ∧ z165 ≤ 9) (h7 : 0 ≤ z197 ∧ z197 ≤ 9) : 0 ≤ z197 ∨ p2 ≤ 0 := by omega
theorem vc_X8_lastStanding_19 {p2 z164 z165 z197 : Int} (h0 : 0 < p2) (h1 : 0 ≤ z165 ∨ p2 ≤ 0) (h2 : z165 < 0 ∨ 0 < p2) (h3 : z164 < p2) (h4 : 2 ≤ p2 ∧ p2 ≤ 10) (h5 : 1 ≤ z164 ∧ z164 ≤ 9) (h6 : 0 ≤ z165 ∧ z165 ≤ 9) (h7 : 0 ≤ z197 ∧ z197 ≤ 9) : z197 < 0 ∨ 0 < p2 := by omega
theorem vc_X8_lastStanding_20 {p2 z29 : Int} (h0 : 0 < p2) (h1 : 1 ≤ p2 ∧ p2 ≤ 10) (h2 : 0 ≤ z29 ∧ z29 ≤ 9) : 0 ≤ z29 ∨ p2 ≤ 0 := by omega
theorem vc_X8_lastStanding_21 {p2 z29 : Int} (h0 : 0 < p2) (h1 : 1 ≤ p2 ∧ p2 ≤ 10) (h2 : 0 ≤ z29 ∧ z29 ≤ 9) : z29 < 0 ∨ 0 < p2 := by omega
theorem vc_X8_lastStanding_22  : (11 - 1) < ((11 : Nat) : Int) := by omega
set_option maxRecDepth 4000 in
set_option maxHeartbeats 4000000 in
theorem c_X8_lastStanding {l : Launch} {D : va_G} {c : Nat → ClassId} {H0 : Heap} {sa : Nat × Nat × (Nat → Int32)} {w : mW} {μ : mM} (hw : mWF w) (hT : mT w μ) {a1 : Nat} (hA1 : mAt w a1 210) {p2 : Int} (hp2 : 0 ≤ p2 ∧ p2 ≤ 10) : sC (gG l D c H0 sa) mX8_lastStanding 4 0 0 [.ref 32, .ref a1, iv p2] (mk w μ) (qP w μ (fun z => ((-1) ≤ z ∧ z ≤ 9) ∧ (z < 0 ∨ 0 < p2) ∧ True)) := by
  refine sC.of rfl (by decide) (le_t rfl) ?_
  refine mr_lvE (lv' := [(0, .ref 32), (1, .ref a1), (2, iv p2)]) rfl ?_
  refine mr_iload_n (pc := 0) (z := p2) dX8_lastStanding_0 rfl rfl ?_
  refine mr_if_le (pc := 1) (tgt := 13) dX8_lastStanding_1 (by decide) (r32 hp2 rfl) (fun h6 => ?_) (fun h6 => ?_)
  · have h7 : 0 ≤ p2 ∧ p2 ≤ 0 := (vc_X8_lastStanding_1 h6 hp2)
    refine mr_iconst (pc := 13) (z := (-1)) dX8_lastStanding_13 ?_
    refine mr_istore_n (pc := 14) (lv' := [(3, iv (-1)), (0, .ref 32), (1, .ref a1), (2, iv p2)]) dX8_lastStanding_14 rfl (by decide) rfl ?_
    refine mr_iconst (pc := 15) (z := 1) dX8_lastStanding_15 ?_
    refine mr_istore (pc := 16) (lv' := [(4, iv 1), (3, iv (-1)), (0, .ref 32), (1, .ref a1), (2, iv p2)]) dX8_lastStanding_16 (by decide) rfl ?_
    have L18 : ∀ (nL18 : Nat) (z17 z16 : Int), True → ((-1) ≤ z17 ∧ z17 ≤ (-1)) → (1 ≤ z16 ∧ z16 ≤ 1) → (0 ≤ z17 ∨ p2 ≤ 0) → (z17 < 0 ∨ 0 < p2) → 1 < (nL18 : Int) → sV (gG l D c H0 sa) mX8_lastStanding (sRm 4 0 0) (sZ (gG l D c H0 sa) 0 0 (qP w μ (fun z => ((-1) ≤ z ∧ z ≤ 9) ∧ (z < 0 ∨ 0 < p2) ∧ True))) 18 [(0, .ref 32), (1, .ref a1), (2, iv p2), (3, iv z17), (4, iv z16)] [] (mk w μ) 0 0 := by
      intro nL18
      induction nL18 with
      | zero => intro z17 z16 _ h19 h20 h24 h25 h26; exact ((vc_X8_lastStanding_2 h26)).elim
      | succ nL18 ih27 =>
        intro z17 z16 _ h19 h20 h24 h25 h26
        refine mr_iload (pc := 18) (z := z16) dX8_lastStanding_18 rfl ?_
        refine mr_iload_n (pc := 20) (z := p2) dX8_lastStanding_20 rfl rfl ?_
        refine mr_icmp_ge (pc := 21) (tgt := 63) dX8_lastStanding_21 (by decide) (r32 h20 rfl) (r32 h7 rfl) (fun _ => ?_) (fun h => ((vc_X8_lastStanding_3 h h7 h20)).elim)
        refine mr_iload_n (pc := 63) (z := z17) dX8_lastStanding_63 rfl rfl ?_
        exact mr_iretP dX8_lastStanding_64 rfl (le_t rfl) (le_t rfl) ⟨(rW (c := (-1)) (d := 9) h19 rfl), (vc_X8_lastStanding_4 h6 h24 h25 h7 h19), trivial⟩
    refine mr_lvS (lv' := [(0, .ref 32), (1, .ref a1), (2, iv p2), (3, iv (-1)), (4, iv 1)]) (List.forall_mem_cons.mpr ⟨rfl, List.forall_mem_cons.mpr ⟨rfl, List.forall_mem_cons.mpr ⟨rfl, List.forall_mem_cons.mpr ⟨rfl, List.forall_mem_cons.mpr ⟨rfl, fun _ h => absurd h List.not_mem_nil⟩⟩⟩⟩⟩) ?_
    exact L18 2 (-1) 1 trivial (rR (x := (-1))) (rR (x := 1)) (vc_X8_lastStanding_5 h6 h7) (vc_X8_lastStanding_6 h6 h7) vc_X8_lastStanding_7
  have h28 : 1 ≤ p2 ∧ p2 ≤ 10 := (vc_X8_lastStanding_8 h6 hp2)
  refine sv_aload_n (pc := 4) dX8_lastStanding_4 rfl rfl ?_
  refine gf_X8_5 (pc := 5) dX8_lastStanding_5 wF_X8_39 (A_32 hw) hT ?_
  refine mr_iconst (pc := 8) (z := 0) dX8_lastStanding_8 ?_
  refine la_66 (pc := 9) dX8_lastStanding_9 (A_66 hw) hT (rIx (n := 10) (rR (x := 0)) rfl) fun z29 q30 h31 => ?_
  refine sv_goto (pc := 10) (tgt := 14) dX8_lastStanding_10 (by decide) ?_
  refine mr_istore_n (pc := 14) (lv' := [(3, iv z29), (0, .ref 32), (1, .ref a1), (2, iv p2)]) dX8_lastStanding_14 rfl (by decide) rfl ?_
  refine mr_iconst (pc := 15) (z := 1) dX8_lastStanding_15 ?_
  refine mr_istore (pc := 16) (lv' := [(4, iv 1), (3, iv z29), (0, .ref 32), (1, .ref a1), (2, iv p2)]) dX8_lastStanding_16 (by decide) rfl ?_
  have L166 : ∀ (nL166 : Nat) (z165 z164 : Int), True → (0 ≤ z165 ∧ z165 ≤ 9) → (1 ≤ z164 ∧ z164 ≤ 10) → (0 ≤ z165 ∨ p2 ≤ 0) → (z165 < 0 ∨ 0 < p2) → (11 - z164) < (nL166 : Int) → sV (gG l D c H0 sa) mX8_lastStanding (sRm 4 0 0) (sZ (gG l D c H0 sa) 0 0 (qP w μ (fun z => ((-1) ≤ z ∧ z ≤ 9) ∧ (z < 0 ∨ 0 < p2) ∧ True))) 18 [(0, .ref 32), (1, .ref a1), (2, iv p2), (3, iv z165), (4, iv z164)] [] (mk w μ) 0 0 := by
    intro nL166
    induction nL166 with
    | zero => intro z165 z164 _ h167 h168 h172 h173 h174; exact ((vc_X8_lastStanding_9 h174 h168)).elim
    | succ nL166 ih175 =>
      intro z165 z164 _ h167 h168 h172 h173 h174
      refine mr_iload (pc := 18) (z := z164) dX8_lastStanding_18 rfl ?_
      refine mr_iload_n (pc := 20) (z := p2) dX8_lastStanding_20 rfl rfl ?_
      refine mr_icmp_ge (pc := 21) (tgt := 63) dX8_lastStanding_21 (by decide) (r32 h168 rfl) (r32 h28 rfl) (fun h194 => ?_) (fun h194 => ?_)
      · refine mr_iload_n (pc := 63) (z := z165) dX8_lastStanding_63 rfl rfl ?_
        exact mr_iretP dX8_lastStanding_64 rfl (le_t rfl) (le_t rfl) ⟨(rW (c := (-1)) (d := 9) h167 rfl), (vc_X8_lastStanding_10 h6 h172 h173 h194 h28 h168 h167), trivial⟩
      have h195 : 1 ≤ z164 ∧ z164 ≤ 9 := (vc_X8_lastStanding_11 h194 h6 h172 h173 h28 h168 h167)
      have h196 : 2 ≤ p2 ∧ p2 ≤ 10 := (vc_X8_lastStanding_12 h194 h6 h172 h173 h28 h195 h167)
      refine sv_aload_n (pc := 24) dX8_lastStanding_24 rfl rfl ?_
      refine sv_aload_n (pc := 25) dX8_lastStanding_25 rfl rfl ?_
      refine gf_X8_4 (pc := 26) dX8_lastStanding_26 wF_X8_34 (A_32 hw) hT ?_
      refine sv_aload_n (pc := 29) dX8_lastStanding_29 rfl rfl ?_
      refine gf_X8_5 (pc := 30) dX8_lastStanding_30 wF_X8_39 (A_32 hw) hT ?_
      refine mr_iload (pc := 33) (z := z164) dX8_lastStanding_33 rfl ?_
      refine la_66 (pc := 35) dX8_lastStanding_35 (A_66 hw) hT (rIx (n := 10) h195 rfl) fun z197 q198 h199 => ?_
      refine la_35 (pc := 36) dX8_lastStanding_36 (A_35 hw) hT (rIx (n := 10) h199 rfl) fun b200 q201 A202 => ?_
      refine sv_aload_n (pc := 37) dX8_lastStanding_37 rfl rfl ?_
      refine gf_X8_4 (pc := 38) dX8_lastStanding_38 wF_X8_34 (A_32 hw) hT ?_
      refine mr_iload_n (pc := 41) (z := z165) dX8_lastStanding_41 rfl rfl ?_
      refine la_35 (pc := 42) dX8_lastStanding_42 (A_35 hw) hT (rIx (n := 10) h167 rfl) fun b203 q204 A205 => ?_
      refine mr_cVP (pc := 43) (c_X0_prefers hw hT hA1 A202 A205) (gOk _ _ _ _ _) dX8_lastStanding_43 (tX0_prefers _ _ _ _ _) ⟨wV_X0_prefers, wL_X0_prefers⟩ wM_X8_235 (gCX0 _ _ _ _ _) rfl hA1 rfl ⟨le_t rfl, le_t rfl⟩ ⟨le_t rfl, le_t rfl⟩ rfl (le_t rfl) fun z210 h209 => ?_
      refine mr_if_eq (pc := 46) (tgt := 57) dX8_lastStanding_46 (by decide) (r32 h209.1 rfl) (fun h213 => ?_) (fun h213 => ?_)
      · have h214 : 0 ≤ z210 ∧ z210 ≤ 0 := (vc_X8_lastStanding_13 h213 h209.1)
        refine mr_iinc (pc := 57) (lv' := [(4, iv (z164 + 1)), (0, .ref 32), (1, .ref a1), (2, iv p2), (3, iv z165)]) dX8_lastStanding_57 rfl (by decide) rfl ?_
        refine sv_goto (pc := 60) (tgt := 18) dX8_lastStanding_60 (by decide) ?_
        refine mr_lvS (lv' := [(0, .ref 32), (1, .ref a1), (2, iv p2), (3, iv z165), (4, iv (z164 + 1))]) (List.forall_mem_cons.mpr ⟨rfl, List.forall_mem_cons.mpr ⟨rfl, List.forall_mem_cons.mpr ⟨rfl, List.forall_mem_cons.mpr ⟨rfl, List.forall_mem_cons.mpr ⟨rfl, fun _ h => absurd h List.not_mem_nil⟩⟩⟩⟩⟩) ?_
        exact ih175 z165 (z164 + 1) trivial h167 (rW (c := 1) (d := 10) (rAdd (e := 2) (f := 10) h195 (rR (x := 1)) rfl) rfl) (vc_X8_lastStanding_14 h6 h172 h173 h194 h196 h195 h167) (vc_X8_lastStanding_15 h6 h172 h173 h194 h196 h195 h167) (vc_X8_lastStanding_16 (nS h174) h194 h6 h172 h173 h196 h195 h167)
      have h215 : 1 ≤ z210 ∧ z210 ≤ 1 := (vc_X8_lastStanding_17 h213 h209.1)
      refine sv_aload_n (pc := 49) dX8_lastStanding_49 rfl rfl ?_
      refine gf_X8_5 (pc := 50) dX8_lastStanding_50 wF_X8_39 (A_32 hw) hT ?_
      refine mr_iload (pc := 53) (z := z164) dX8_lastStanding_53 rfl ?_
      refine lk_66 (pc := 55) dX8_lastStanding_55 (A_66 hw) (rIx (n := 10) h195 rfl) q198 ?_
      refine mr_istore_n (pc := 56) (lv' := [(3, iv z197), (0, .ref 32), (1, .ref a1), (2, iv p2), (4, iv z164)]) dX8_lastStanding_56 rfl (by decide) rfl ?_
      refine mr_iinc (pc := 57) (lv' := [(4, iv (z164 + 1)), (3, iv z197), (0, .ref 32), (1, .ref a1), (2, iv p2)]) dX8_lastStanding_57 rfl (by decide) rfl ?_
      refine sv_goto (pc := 60) (tgt := 18) dX8_lastStanding_60 (by decide) ?_
      refine mr_lvS (lv' := [(0, .ref 32), (1, .ref a1), (2, iv p2), (3, iv z197), (4, iv (z164 + 1))]) (List.forall_mem_cons.mpr ⟨rfl, List.forall_mem_cons.mpr ⟨rfl, List.forall_mem_cons.mpr ⟨rfl, List.forall_mem_cons.mpr ⟨rfl, List.forall_mem_cons.mpr ⟨rfl, fun _ h => absurd h List.not_mem_nil⟩⟩⟩⟩⟩) ?_
      exact ih175 z197 (z164 + 1) trivial h199 (rW (c := 1) (d := 10) (rAdd (e := 2) (f := 10) h195 (rR (x := 1)) rfl) rfl) (vc_X8_lastStanding_18 h6 h172 h173 h194 h196 h195 h167 h199) (vc_X8_lastStanding_19 h6 h172 h173 h194 h196 h195 h167 h199) (vc_X8_lastStanding_16 (nS h174) h194 h6 h172 h173 h196 h195 h167)
  refine mr_lvS (lv' := [(0, .ref 32), (1, .ref a1), (2, iv p2), (3, iv z29), (4, iv 1)]) (List.forall_mem_cons.mpr ⟨rfl, List.forall_mem_cons.mpr ⟨rfl, List.forall_mem_cons.mpr ⟨rfl, List.forall_mem_cons.mpr ⟨rfl, List.forall_mem_cons.mpr ⟨rfl, fun _ h => absurd h List.not_mem_nil⟩⟩⟩⟩⟩) ?_
  exact L166 11 z29 1 trivial h31 (rW (c := 1) (d := 10) (rR (x := 1)) rfl) (vc_X8_lastStanding_20 h6 h28 h31) (vc_X8_lastStanding_21 h6 h28 h31) vc_X8_lastStanding_22
theorem vc_X8_bestOfGroup_1 {z63 : Int} (h0 : (11 - z63) < ((0 : Nat) : Int)) (h1 : 1 ≤ z63 ∧ z63 ≤ 10) : False := by omega
theorem vc_X8_bestOfGroup_2 {n1 z63 z73 : Int} (h0 : z63 < z73) (h1 : (z73 = 0 ∨ 0 < n1)) (h2 : 1 ≤ z63 ∧ z63 ≤ 10) (h3 : 0 ≤ z73 ∧ z73 ≤ 10) : 1 ≤ z63 ∧ z63 ≤ 9 := by omega
theorem vc_X8_bestOfGroup_3 {n1 z63 z73 : Int} (h0 : z63 < z73) (h1 : (z73 = 0 ∨ 0 < n1)) (h2 : 1 ≤ z63 ∧ z63 ≤ 9) (h3 : 0 ≤ z73 ∧ z73 ≤ 10) : 2 ≤ z73 ∧ z73 ≤ 10 := by omega
theorem vc_X8_bestOfGroup_4 {z115 : Int} (h0 : z115 = 0) (h1 : 0 ≤ z115 ∧ z115 ≤ 1) : 0 ≤ z115 ∧ z115 ≤ 0 := by omega
theorem vc_X8_bestOfGroup_5 {N n1 z63 z73 : Int} (h0 : (11 - z63) < N + 1) (h1 : z63 < z73) (h2 : (z73 = 0 ∨ 0 < n1)) (h3 : 1 ≤ z63 ∧ z63 ≤ 9) (h4 : 2 ≤ z73 ∧ z73 ≤ 10) : (11 - (z63 + 1)) < N := by omega
theorem vc_X8_bestOfGroup_6 {z115 : Int} (h0 : ¬ z115 = 0) (h1 : 0 ≤ z115 ∧ z115 ≤ 1) : 1 ≤ z115 ∧ z115 ≤ 1 := by omega
theorem vc_X8_bestOfGroup_7 {z138 : Int} (h0 : z138 = 0) (h1 : 0 ≤ z138 ∧ z138 ≤ 1) : 0 ≤ z138 ∧ z138 ≤ 0 := by omega
theorem vc_X8_bestOfGroup_8 {z138 : Int} (h0 : ¬ z138 = 0) (h1 : 0 ≤ z138 ∧ z138 ≤ 1) : 1 ≤ z138 ∧ z138 ≤ 1 := by omega
theorem vc_X8_bestOfGroup_9 {p2 : Int} (h0 : 0 ≤ p2 ∧ p2 ≤ 9) : (11 - (p2 + 1)) < ((11 : Nat) : Int) := by omega
set_option maxRecDepth 4000 in
set_option maxHeartbeats 4000000 in
theorem c_X8_bestOfGroup {l : Launch} {D : va_G} {c : Nat → ClassId} {H0 : Heap} {sa : Nat × Nat × (Nat → Int32)} {w : mW} {μ : mM} (hw : mWF w) (hT : mT w μ) {a1 : Nat} (hA1 : mAt w a1 210) {p2 : Int} (hp2 : 0 ≤ p2 ∧ p2 ≤ 9) : sC (gG l D c H0 sa) mX8_bestOfGroup 4 0 0 [.ref 32, .ref a1, iv p2] (mk w μ) (qP w μ (fun z => (0 ≤ z ∧ z ≤ 9) ∧ True)) := by
  refine sC.of rfl (by decide) (le_t rfl) ?_
  refine mr_lvE (lv' := [(0, .ref 32), (1, .ref a1), (2, iv p2)]) rfl ?_
  refine mr_iload_n (pc := 0) (z := p2) dX8_bestOfGroup_0 rfl rfl ?_
  refine mr_istore_n (pc := 1) (lv' := [(3, iv p2), (0, .ref 32), (1, .ref a1), (2, iv p2)]) dX8_bestOfGroup_1 rfl (by decide) rfl ?_
  refine mr_iload_n (pc := 2) (z := p2) dX8_bestOfGroup_2 rfl rfl ?_
  refine mr_iconst (pc := 3) (z := 1) dX8_bestOfGroup_3 ?_
  refine mr_iadd (pc := 4) (x := p2) (y := 1) dX8_bestOfGroup_4 ?_
  refine mr_istore (pc := 5) (lv' := [(4, iv (p2 + 1)), (3, iv p2), (0, .ref 32), (1, .ref a1), (2, iv p2)]) dX8_bestOfGroup_5 (by decide) rfl ?_
  have L65 : ∀ (nL65 : Nat) (z64 z63 : Int), True → (0 ≤ z64 ∧ z64 ≤ 9) → (1 ≤ z63 ∧ z63 ≤ 10) → (11 - z63) < (nL65 : Int) → sV (gG l D c H0 sa) mX8_bestOfGroup (sRm 4 0 0) (sZ (gG l D c H0 sa) 0 0 (qP w μ (fun z => (0 ≤ z ∧ z ≤ 9) ∧ True))) 7 [(0, .ref 32), (1, .ref a1), (2, iv p2), (3, iv z64), (4, iv z63)] [] (mk w μ) 0 0 := by
    intro nL65
    induction nL65 with
    | zero => intro z64 z63 _ h66 h67 h71; exact ((vc_X8_bestOfGroup_1 h71 h67)).elim
    | succ nL65 ih72 =>
      intro z64 z63 _ h66 h67 h71
      refine mr_iload (pc := 7) (z := z63) dX8_bestOfGroup_7 rfl ?_
      refine sv_aload_n (pc := 9) dX8_bestOfGroup_9 rfl rfl ?_
      refine gf_X8_9 (pc := 10) dX8_bestOfGroup_10 wF_X8_200 (A_32 hw) hT fun z73 q74 h75 => ?_
      have h76 : 0 ≤ z73 ∧ z73 ≤ 10 := ⟨h75.1, h75.2.1⟩
      refine mr_icmp_ge (pc := 13) (tgt := 64) dX8_bestOfGroup_13 (by decide) (r32 h67 rfl) (r32 h76 rfl) (fun h102 => ?_) (fun h102 => ?_)
      · refine mr_iload_n (pc := 64) (z := z64) dX8_bestOfGroup_64 rfl rfl ?_
        exact mr_iretP dX8_bestOfGroup_65 rfl (le_t rfl) (le_t rfl) ⟨h66, trivial⟩
      have h103 : 1 ≤ z63 ∧ z63 ≤ 9 := (vc_X8_bestOfGroup_2 h102 h75.2.2 h67 h76)
      have h104 : 2 ≤ z73 ∧ z73 ≤ 10 := (vc_X8_bestOfGroup_3 h102 h75.2.2 h103 h76)
      refine sv_aload_n (pc := 16) dX8_bestOfGroup_16 rfl rfl ?_
      refine gf_X8_4 (pc := 17) dX8_bestOfGroup_17 wF_X8_34 (A_32 hw) hT ?_
      refine mr_iload (pc := 20) (z := z63) dX8_bestOfGroup_20 rfl ?_
      refine la_35 (pc := 22) dX8_bestOfGroup_22 (A_35 hw) hT (rIx (n := 10) h103 rfl) fun b105 q106 A107 => ?_
      refine sv_aload_n (pc := 23) dX8_bestOfGroup_23 rfl rfl ?_
      refine gf_X8_4 (pc := 24) dX8_bestOfGroup_24 wF_X8_34 (A_32 hw) hT ?_
      refine mr_iload_n (pc := 27) (z := p2) dX8_bestOfGroup_27 rfl rfl ?_
      refine la_35 (pc := 28) dX8_bestOfGroup_28 (A_35 hw) hT (rIx (n := 10) hp2 rfl) fun b108 q109 A110 => ?_
      refine mr_cVP (pc := 29) (c_X7_sharesFirst hw hT A107 A110) (gOk _ _ _ _ _) dX8_bestOfGroup_29 (tX7_sharesFirst _ _ _ _ _) ⟨wV_X7_sharesFirst, wL_X7_sharesFirst⟩ wM_X8_239 (gCX7 _ _ _ _ _) rfl A107 rfl ⟨le_t rfl, le_t rfl⟩ ⟨le_t rfl, le_t rfl⟩ rfl (le_t rfl) fun z115 h114 => ?_
      refine mr_if_eq (pc := 32) (tgt := 58) dX8_bestOfGroup_32 (by decide) (r32 h114.1 rfl) (fun h128 => ?_) (fun h128 => ?_)
      · have h129 : 0 ≤ z115 ∧ z115 ≤ 0 := (vc_X8_bestOfGroup_4 h128 h114.1)
        refine mr_iinc (pc := 58) (lv' := [(4, iv (z63 + 1)), (0, .ref 32), (1, .ref a1), (2, iv p2), (3, iv z64)]) dX8_bestOfGroup_58 rfl (by decide) rfl ?_
        refine sv_goto (pc := 61) (tgt := 7) dX8_bestOfGroup_61 (by decide) ?_
        refine mr_lvS (lv' := [(0, .ref 32), (1, .ref a1), (2, iv p2), (3, iv z64), (4, iv (z63 + 1))]) (List.forall_mem_cons.mpr ⟨rfl, List.forall_mem_cons.mpr ⟨rfl, List.forall_mem_cons.mpr ⟨rfl, List.forall_mem_cons.mpr ⟨rfl, List.forall_mem_cons.mpr ⟨rfl, fun _ h => absurd h List.not_mem_nil⟩⟩⟩⟩⟩) ?_
        exact ih72 z64 (z63 + 1) trivial h66 (rW (c := 1) (d := 10) (rAdd (e := 2) (f := 10) h103 (rR (x := 1)) rfl) rfl) (vc_X8_bestOfGroup_5 (nS h71) h102 h75.2.2 h103 h104)
      have h130 : 1 ≤ z115 ∧ z115 ≤ 1 := (vc_X8_bestOfGroup_6 h128 h114.1)
      refine sv_aload_n (pc := 35) dX8_bestOfGroup_35 rfl rfl ?_
      refine sv_aload_n (pc := 36) dX8_bestOfGroup_36 rfl rfl ?_
      refine gf_X8_4 (pc := 37) dX8_bestOfGroup_37 wF_X8_34 (A_32 hw) hT ?_
      refine mr_iload (pc := 40) (z := z63) dX8_bestOfGroup_40 rfl ?_
      refine lk_35 (pc := 42) dX8_bestOfGroup_42 (A_35 hw) (rIx (n := 10) h103 rfl) q106 ?_
      refine sv_aload_n (pc := 43) dX8_bestOfGroup_43 rfl rfl ?_
      refine gf_X8_4 (pc := 44) dX8_bestOfGroup_44 wF_X8_34 (A_32 hw) hT ?_
      refine mr_iload_n (pc := 47) (z := z64) dX8_bestOfGroup_47 rfl rfl ?_
      refine la_35 (pc := 48) dX8_bestOfGroup_48 (A_35 hw) hT (rIx (n := 10) h66 rfl) fun b131 q132 A133 => ?_
      refine mr_cVP (pc := 49) (c_X0_prefers hw hT hA1 A107 A133) (gOk _ _ _ _ _) dX8_bestOfGroup_49 (tX0_prefers _ _ _ _ _) ⟨wV_X0_prefers, wL_X0_prefers⟩ wM_X8_235 (gCX0 _ _ _ _ _) rfl hA1 rfl ⟨le_t rfl, le_t rfl⟩ ⟨le_t rfl, le_t rfl⟩ rfl (le_t rfl) fun z138 h137 => ?_
      refine mr_if_eq (pc := 52) (tgt := 58) dX8_bestOfGroup_52 (by decide) (r32 h137.1 rfl) (fun h141 => ?_) (fun h141 => ?_)
      · have h142 : 0 ≤ z138 ∧ z138 ≤ 0 := (vc_X8_bestOfGroup_7 h141 h137.1)
        refine mr_iinc (pc := 58) (lv' := [(4, iv (z63 + 1)), (0, .ref 32), (1, .ref a1), (2, iv p2), (3, iv z64)]) dX8_bestOfGroup_58 rfl (by decide) rfl ?_
        refine sv_goto (pc := 61) (tgt := 7) dX8_bestOfGroup_61 (by decide) ?_
        refine mr_lvS (lv' := [(0, .ref 32), (1, .ref a1), (2, iv p2), (3, iv z64), (4, iv (z63 + 1))]) (List.forall_mem_cons.mpr ⟨rfl, List.forall_mem_cons.mpr ⟨rfl, List.forall_mem_cons.mpr ⟨rfl, List.forall_mem_cons.mpr ⟨rfl, List.forall_mem_cons.mpr ⟨rfl, fun _ h => absurd h List.not_mem_nil⟩⟩⟩⟩⟩) ?_
        exact ih72 z64 (z63 + 1) trivial h66 (rW (c := 1) (d := 10) (rAdd (e := 2) (f := 10) h103 (rR (x := 1)) rfl) rfl) (vc_X8_bestOfGroup_5 (nS h71) h102 h75.2.2 h103 h104)
      have h143 : 1 ≤ z138 ∧ z138 ≤ 1 := (vc_X8_bestOfGroup_8 h141 h137.1)
      refine mr_iload (pc := 55) (z := z63) dX8_bestOfGroup_55 rfl ?_
      refine mr_istore_n (pc := 57) (lv' := [(3, iv z63), (0, .ref 32), (1, .ref a1), (2, iv p2), (4, iv z63)]) dX8_bestOfGroup_57 rfl (by decide) rfl ?_
      refine mr_iinc (pc := 58) (lv' := [(4, iv (z63 + 1)), (3, iv z63), (0, .ref 32), (1, .ref a1), (2, iv p2)]) dX8_bestOfGroup_58 rfl (by decide) rfl ?_
      refine sv_goto (pc := 61) (tgt := 7) dX8_bestOfGroup_61 (by decide) ?_
      refine mr_lvS (lv' := [(0, .ref 32), (1, .ref a1), (2, iv p2), (3, iv z63), (4, iv (z63 + 1))]) (List.forall_mem_cons.mpr ⟨rfl, List.forall_mem_cons.mpr ⟨rfl, List.forall_mem_cons.mpr ⟨rfl, List.forall_mem_cons.mpr ⟨rfl, List.forall_mem_cons.mpr ⟨rfl, fun _ h => absurd h List.not_mem_nil⟩⟩⟩⟩⟩) ?_
      exact ih72 z63 (z63 + 1) trivial (rW (c := 0) (d := 9) h103 rfl) (rW (c := 1) (d := 10) (rAdd (e := 2) (f := 10) h103 (rR (x := 1)) rfl) rfl) (vc_X8_bestOfGroup_5 (nS h71) h102 h75.2.2 h103 h104)
  refine mr_lvS (lv' := [(0, .ref 32), (1, .ref a1), (2, iv p2), (3, iv p2), (4, iv (p2 + 1))]) (List.forall_mem_cons.mpr ⟨rfl, List.forall_mem_cons.mpr ⟨rfl, List.forall_mem_cons.mpr ⟨rfl, List.forall_mem_cons.mpr ⟨rfl, List.forall_mem_cons.mpr ⟨rfl, fun _ h => absurd h List.not_mem_nil⟩⟩⟩⟩⟩) ?_
  exact L65 11 p2 (p2 + 1) trivial hp2 (rAdd (e := 1) (f := 10) hp2 (rR (x := 1)) rfl) (vc_X8_bestOfGroup_9 hp2)
theorem vc_X8_pickPlain_1 {z97 : Int} (h0 : (11 - z97) < ((0 : Nat) : Int)) (h1 : 0 ≤ z97 ∧ z97 ≤ 10) : False := by omega
theorem vc_X8_pickPlain_2 {n1 z106 z120 z97 : Int} (h0 : (z106 = 0 ∨ 0 < n1)) (h1 : z120 < 0 ∨ 0 < z106) (h2 : z106 ≤ z97) (h3 : 0 ≤ z106 ∧ z106 ≤ 10) (h4 : (-1) ≤ z120 ∧ z120 ≤ 9) (h5 : 0 ≤ z97 ∧ z97 ≤ 10) : z120 < 0 ∨ 0 < n1 := by omega
theorem vc_X8_pickPlain_3 {n1 z106 z97 : Int} (h0 : z97 < z106) (h1 : (z106 = 0 ∨ 0 < n1)) (h2 : 0 ≤ z106 ∧ z106 ≤ 10) (h3 : 0 ≤ z97 ∧ z97 ≤ 10) : 0 ≤ z97 ∧ z97 ≤ 9 := by omega
theorem vc_X8_pickPlain_4 {n1 z106 z97 : Int} (h0 : z97 < z106) (h1 : (z106 = 0 ∨ 0 < n1)) (h2 : 0 ≤ z106 ∧ z106 ≤ 10) (h3 : 0 ≤ z97 ∧ z97 ≤ 9) : 1 ≤ z106 ∧ z106 ≤ 10 := by omega
theorem vc_X8_pickPlain_5 {N n1 z106 z97 : Int} (h0 : (11 - z97) < N + 1) (h1 : z97 < z106) (h2 : (z106 = 0 ∨ 0 < n1)) (h3 : 1 ≤ z106 ∧ z106 ≤ 10) (h4 : 0 ≤ z97 ∧ z97 ≤ 9) : (11 - (z97 + 1)) < N := by omega
theorem vc_X8_pickPlain_6  : (11 - 0) < ((12 : Nat) : Int) := by omega
set_option maxRecDepth 4000 in
set_option maxHeartbeats 4000000 in
theorem c_X8_pickPlain {l : Launch} {D : va_G} {c : Nat → ClassId} {H0 : Heap} {sa : Nat × Nat × (Nat → Int32)} {w : mW} {μ : mM} (hw : mWF w) (hT : mT w μ) {a1 : Nat} (hA1 : mAt w a1 210) : sC (gG l D c H0 sa) mX8_pickPlain 5 0 0 [.ref 32, .ref a1] (mk w μ) (qI w [66999] μ (fun z μ1 => ((-1) ≤ z ∧ z ≤ 9) ∧ (z < 0 ∨ 0 < w.2.2.2 1) ∧ True)) := by
  refine sC.of rfl (by decide) (le_t rfl) ?_
  refine mr_lvE (lv' := [(0, .ref 32), (1, .ref a1)]) rfl ?_
  refine mr_iconst (pc := 0) (z := 0) dX8_pickPlain_0 ?_
  refine mr_istore_n (pc := 1) (lv' := [(2, iv 0), (0, .ref 32), (1, .ref a1)]) dX8_pickPlain_1 rfl (by decide) rfl ?_
  have L99 : ∀ (nL99 : Nat) (z97 : Int) (μ98 : mM), mT w μ98 → mF [66999] w μ μ98 → (0 ≤ z97 ∧ z97 ≤ 10) → (11 - z97) < (nL99 : Int) → sV (gG l D c H0 sa) mX8_pickPlain (sRm 5 0 0) (sZ (gG l D c H0 sa) 0 0 (qI w [66999] μ (fun z μ1 => ((-1) ≤ z ∧ z ≤ 9) ∧ (z < 0 ∨ 0 < w.2.2.2 1) ∧ True))) 2 [(0, .ref 32), (1, .ref a1), (2, iv z97)] [] (mk w μ98) 0 0 := by
    intro nL99
    induction nL99 with
    | zero => intro z97 μ98 T101 F102 h100 h104; exact ((vc_X8_pickPlain_1 h104 h100)).elim
    | succ nL99 ih105 =>
      intro z97 μ98 T101 F102 h100 h104
      refine mr_iload_n (pc := 2) (z := z97) dX8_pickPlain_2 rfl rfl ?_
      refine sv_aload_n (pc := 3) dX8_pickPlain_3 rfl rfl ?_
      refine gf_X8_9 (pc := 4) dX8_pickPlain_4 wF_X8_200 (A_32 hw) T101 fun z106 q107 h108 => ?_
      have h109 : 0 ≤ z106 ∧ z106 ≤ 10 := ⟨h108.1, h108.2.1⟩
      refine mr_icmp_ge (pc := 7) (tgt := 23) dX8_pickPlain_7 (by decide) (r32 h100 rfl) (r32 h109 rfl) (fun h115 => ?_) (fun h115 => ?_)
      · refine sv_aload_n (pc := 23) dX8_pickPlain_23 rfl rfl ?_
        refine sv_aload_n (pc := 24) dX8_pickPlain_24 rfl rfl ?_
        refine sv_aload_n (pc := 25) dX8_pickPlain_25 rfl rfl ?_
        refine gk_X8_9 (pc := 26) dX8_pickPlain_26 wF_X8_200 (A_32 hw) q107 ?_
        refine mr_cVP (pc := 29) (c_X8_lastStanding hw T101 hA1 h109) (gOk _ _ _ _ _) dX8_pickPlain_29 (tX8_lastStanding _ _ _ _ _) ⟨wV_X8_lastStanding, wL_X8_lastStanding⟩ wM_X8_222 (gCX8 _ _ _ _ _) rfl (A_32 hw) rfl ⟨le_t rfl, le_t rfl⟩ ⟨le_t rfl, le_t rfl⟩ rfl (le_t rfl) fun z120 h119 => ?_
        exact mr_iret dX8_pickPlain_32 rfl (le_t rfl) (le_t rfl) T101 (mF.call mF.refl F102 rfl) ⟨h119.1, (vc_X8_pickPlain_2 h108.2.2 h119.2.1 h115 h109 h119.1 h100), trivial⟩
      have h121 : 0 ≤ z97 ∧ z97 ≤ 9 := (vc_X8_pickPlain_3 h115 h108.2.2 h109 h100)
      have h122 : 1 ≤ z106 ∧ z106 ≤ 10 := (vc_X8_pickPlain_4 h115 h108.2.2 h109 h121)
      refine sv_aload_n (pc := 10) dX8_pickPlain_10 rfl rfl ?_
      refine gf_X8_5 (pc := 11) dX8_pickPlain_11 wF_X8_39 (A_32 hw) T101 ?_
      refine mr_iload_n (pc := 14) (z := z97) dX8_pickPlain_14 rfl rfl ?_
      refine mr_iload_n (pc := 15) (z := z97) dX8_pickPlain_15 rfl rfl ?_
      refine ss_66 (pc := 16) dX8_pickPlain_16 (A_66 hw) T101 (rIx (n := 10) h121 rfl) h121 fun μ123 u124 T125 => ?_
      refine mr_iinc (pc := 17) (lv' := [(2, iv (z97 + 1)), (0, .ref 32), (1, .ref a1)]) dX8_pickPlain_17 rfl (by decide) rfl ?_
      refine sv_goto (pc := 20) (tgt := 2) dX8_pickPlain_20 (by decide) ?_
      refine mr_lvS (lv' := [(0, .ref 32), (1, .ref a1), (2, iv (z97 + 1))]) (List.forall_mem_cons.mpr ⟨rfl, List.forall_mem_cons.mpr ⟨rfl, List.forall_mem_cons.mpr ⟨rfl, fun _ h => absurd h List.not_mem_nil⟩⟩⟩) ?_
      exact ih105 (z97 + 1) μ123 T125 (mF.up (mF.call mF.refl F102 rfl) (A_66 hw) u124 rfl) (rW (c := 0) (d := 10) (rAdd (e := 1) (f := 10) h121 (rR (x := 1)) rfl) rfl) (vc_X8_pickPlain_5 (nS h104) h115 h108.2.2 h122 h121)
  refine mr_lvS (lv' := [(0, .ref 32), (1, .ref a1), (2, iv 0)]) (List.forall_mem_cons.mpr ⟨rfl, List.forall_mem_cons.mpr ⟨rfl, List.forall_mem_cons.mpr ⟨rfl, fun _ h => absurd h List.not_mem_nil⟩⟩⟩) ?_
  exact L99 12 0 μ hT mF.refl (rW (c := 0) (d := 10) (rR (x := 0)) rfl) vc_X8_pickPlain_6
theorem vc_X8_pickGrouped_1 {n1 z193 z194 : Int} (h0 : (11 - z193) < ((0 : Nat) : Int)) (h1 : z194 ≤ z193) (h2 : z194 ≤ 0 ∨ 0 < n1) (h3 : 0 ≤ z193 ∧ z193 ≤ 10) (h4 : 0 ≤ z194 ∧ z194 ≤ 10) : False := by omega
theorem vc_X8_pickGrouped_2 {n1 z193 z194 z206 z233 : Int} (h0 : z194 ≤ 0 ∨ 0 < n1) (h1 : (z206 = 0 ∨ 0 < n1)) (h2 : z233 < 0 ∨ 0 < z194) (h3 : z194 ≤ z193) (h4 : z206 ≤ z193) (h5 : 0 ≤ z193 ∧ z193 ≤ 10) (h6 : 0 ≤ z194 ∧ z194 ≤ 10) (h7 : 0 ≤ z206 ∧ z206 ≤ 10) (h8 : (-1) ≤ z233 ∧ z233 ≤ 9) : z233 < 0 ∨ 0 < n1 := by omega
theorem vc_X8_pickGrouped_3 {n1 z193 z194 z206 : Int} (h0 : z193 < z206) (h1 : z194 ≤ z193) (h2 : (z206 = 0 ∨ 0 < n1)) (h3 : 0 ≤ z193 ∧ z193 ≤ 10) (h4 : 0 ≤ z194 ∧ z194 ≤ 10) (h5 : 0 ≤ z206 ∧ z206 ≤ 10) : 0 ≤ z193 ∧ z193 ≤ 9 := by omega
theorem vc_X8_pickGrouped_4 {n1 z193 z194 z206 : Int} (h0 : z193 < z206) (h1 : z194 ≤ z193) (h2 : (z206 = 0 ∨ 0 < n1)) (h3 : 0 ≤ z193 ∧ z193 ≤ 9) (h4 : 0 ≤ z194 ∧ z194 ≤ 10) (h5 : 0 ≤ z206 ∧ z206 ≤ 10) : 1 ≤ z206 ∧ z206 ≤ 10 := by omega
theorem vc_X8_pickGrouped_5 {z240 : Int} (h0 : z240 = 0) (h1 : 0 ≤ z240 ∧ z240 ≤ 1) : 0 ≤ z240 ∧ z240 ≤ 0 := by omega
theorem vc_X8_pickGrouped_6 {n1 z193 z194 z206 : Int} (h0 : z194 ≤ z193) (h1 : z194 ≤ 0 ∨ 0 < n1) (h2 : z193 < z206) (h3 : (z206 = 0 ∨ 0 < n1)) (h4 : 0 ≤ z193 ∧ z193 ≤ 9) (h5 : 0 ≤ z194 ∧ z194 ≤ 10) (h6 : 1 ≤ z206 ∧ z206 ≤ 10) : z194 ≤ (z193 + 1) := by omega
theorem vc_X8_pickGrouped_7 {n1 z193 z194 z206 : Int} (h0 : z194 ≤ z193) (h1 : z194 ≤ 0 ∨ 0 < n1) (h2 : (z206 = 0 ∨ 0 < n1)) (h3 : z193 < z206) (h4 : 0 ≤ z193 ∧ z193 ≤ 9) (h5 : 0 ≤ z194 ∧ z194 ≤ 10) (h6 : 1 ≤ z206 ∧ z206 ≤ 10) : z194 ≤ 0 ∨ 0 < n1 := by omega
theorem vc_X8_pickGrouped_8 {N n1 z193 z194 z206 : Int} (h0 : (11 - z193) < N + 1) (h1 : z194 ≤ z193) (h2 : z193 < z206) (h3 : z194 ≤ 0 ∨ 0 < n1) (h4 : (z206 = 0 ∨ 0 < n1)) (h5 : 0 ≤ z193 ∧ z193 ≤ 9) (h6 : 0 ≤ z194 ∧ z194 ≤ 10) (h7 : 1 ≤ z206 ∧ z206 ≤ 10) : (11 - (z193 + 1)) < N := by omega
theorem vc_X8_pickGrouped_9 {z240 : Int} (h0 : ¬ z240 = 0) (h1 : 0 ≤ z240 ∧ z240 ≤ 1) : 1 ≤ z240 ∧ z240 ≤ 1 := by omega
theorem vc_X8_pickGrouped_10 {n1 z193 z194 z206 : Int} (h0 : z194 ≤ z193) (h1 : z194 ≤ 0 ∨ 0 < n1) (h2 : (z206 = 0 ∨ 0 < n1)) (h3 : z193 < z206) (h4 : 0 ≤ z193 ∧ z193 ≤ 9) (h5 : 0 ≤ z194 ∧ z194 ≤ 10) (h6 : 1 ≤ z206 ∧ z206 ≤ 10) : 0 ≤ z194 ∧ z194 ≤ 9 := by omega
theorem vc_X8_pickGrouped_11 {n1 z193 z194 z206 : Int} (h0 : z194 ≤ z193) (h1 : z194 ≤ 0 ∨ 0 < n1) (h2 : (z206 = 0 ∨ 0 < n1)) (h3 : z193 < z206) (h4 : 0 ≤ z193 ∧ z193 ≤ 9) (h5 : 0 ≤ z194 ∧ z194 ≤ 10) (h6 : 1 ≤ z206 ∧ z206 ≤ 10) : 0 ≤ (z194 + 1) ∧ (z194 + 1) ≤ 10 := by omega
theorem vc_X8_pickGrouped_12 {n1 z193 z194 z206 : Int} (h0 : z194 ≤ z193) (h1 : z194 ≤ 0 ∨ 0 < n1) (h2 : z193 < z206) (h3 : (z206 = 0 ∨ 0 < n1)) (h4 : 0 ≤ z193 ∧ z193 ≤ 9) (h5 : 0 ≤ z194 ∧ z194 ≤ 10) (h6 : 1 ≤ z206 ∧ z206 ≤ 10) : (z194 + 1) ≤ (z193 + 1) := by omega
theorem vc_X8_pickGrouped_13 {n1 z193 z194 z206 : Int} (h0 : z194 ≤ z193) (h1 : z194 ≤ 0 ∨ 0 < n1) (h2 : (z206 = 0 ∨ 0 < n1)) (h3 : z193 < z206) (h4 : 0 ≤ z193 ∧ z193 ≤ 9) (h5 : 0 ≤ z194 ∧ z194 ≤ 10) (h6 : 1 ≤ z206 ∧ z206 ≤ 10) : (z194 + 1) ≤ 0 ∨ 0 < n1 := by omega
theorem vc_X8_pickGrouped_14  : ((0 : Int) : Int) ≤ ((0 : Int) : Int) := by omega
theorem vc_X8_pickGrouped_15 {n1 : Int}  : (0 : Int) ≤ 0 ∨ 0 < n1 := by omega
theorem vc_X8_pickGrouped_16  : (11 - 0) < ((12 : Nat) : Int) := by omega
set_option maxRecDepth 4000 in
set_option maxHeartbeats 4000000 in
theorem c_X8_pickGrouped {l : Launch} {D : va_G} {c : Nat → ClassId} {H0 : Heap} {sa : Nat × Nat × (Nat → Int32)} {w : mW} {μ : mM} (hw : mWF w) (hT : mT w μ) {a1 : Nat} (hA1 : mAt w a1 210) : sC (gG l D c H0 sa) mX8_pickGrouped 5 0 0 [.ref 32, .ref a1] (mk w μ) (qI w [66999] μ (fun z μ1 => ((-1) ≤ z ∧ z ≤ 9) ∧ (z < 0 ∨ 0 < w.2.2.2 1) ∧ True)) := by
  refine sC.of rfl (by decide) (le_t rfl) ?_
  refine mr_lvE (lv' := [(0, .ref 32), (1, .ref a1)]) rfl ?_
  refine mr_iconst (pc := 0) (z := 0) dX8_pickGrouped_0 ?_
  refine mr_istore_n (pc := 1) (lv' := [(2, iv 0), (0, .ref 32), (1, .ref a1)]) dX8_pickGrouped_1 rfl (by decide) rfl ?_
  refine mr_iconst (pc := 2) (z := 0) dX8_pickGrouped_2 ?_
  refine mr_istore_n (pc := 3) (lv' := [(3, iv 0), (2, iv 0), (0, .ref 32), (1, .ref a1)]) dX8_pickGrouped_3 rfl (by decide) rfl ?_
  have L196 : ∀ (nL196 : Nat) (z194 z193 : Int) (μ195 : mM), mT w μ195 → mF [66999] w μ μ195 → (0 ≤ z194 ∧ z194 ≤ 10) → (0 ≤ z193 ∧ z193 ≤ 10) → (z194 ≤ z193) → (z194 ≤ 0 ∨ 0 < w.2.2.2 1) → (11 - z193) < (nL196 : Int) → sV (gG l D c H0 sa) mX8_pickGrouped (sRm 5 0 0) (sZ (gG l D c H0 sa) 0 0 (qI w [66999] μ (fun z μ1 => ((-1) ≤ z ∧ z ≤ 9) ∧ (z < 0 ∨ 0 < w.2.2.2 1) ∧ True))) 4 [(0, .ref 32), (1, .ref a1), (2, iv z194), (3, iv z193)] [] (mk w μ195) 0 0 := by
    intro nL196
    induction nL196 with
    | zero => intro z194 z193 μ195 T199 F200 h197 h198 h202 h203 h204; exact ((vc_X8_pickGrouped_1 h204 h202 h203 h198 h197)).elim
    | succ nL196 ih205 =>
      intro z194 z193 μ195 T199 F200 h197 h198 h202 h203 h204
      refine mr_iload_n (pc := 4) (z := z193) dX8_pickGrouped_4 rfl rfl ?_
      refine sv_aload_n (pc := 5) dX8_pickGrouped_5 rfl rfl ?_
      refine gf_X8_9 (pc := 6) dX8_pickGrouped_6 wF_X8_200 (A_32 hw) T199 fun z206 q207 h208 => ?_
      have h209 : 0 ≤ z206 ∧ z206 ≤ 10 := ⟨h208.1, h208.2.1⟩
      refine mr_icmp_ge (pc := 9) (tgt := 40) dX8_pickGrouped_9 (by decide) (r32 h198 rfl) (r32 h209 rfl) (fun h228 => ?_) (fun h228 => ?_)
      · refine sv_aload_n (pc := 40) dX8_pickGrouped_40 rfl rfl ?_
        refine sv_aload_n (pc := 41) dX8_pickGrouped_41 rfl rfl ?_
        refine mr_iload_n (pc := 42) (z := z194) dX8_pickGrouped_42 rfl rfl ?_
        refine mr_cVP (pc := 43) (c_X8_lastStanding hw T199 hA1 h197) (gOk _ _ _ _ _) dX8_pickGrouped_43 (tX8_lastStanding _ _ _ _ _) ⟨wV_X8_lastStanding, wL_X8_lastStanding⟩ wM_X8_222 (gCX8 _ _ _ _ _) rfl (A_32 hw) rfl ⟨le_t rfl, le_t rfl⟩ ⟨le_t rfl, le_t rfl⟩ rfl (le_t rfl) fun z233 h232 => ?_
        exact mr_iret dX8_pickGrouped_46 rfl (le_t rfl) (le_t rfl) T199 (mF.call mF.refl F200 rfl) ⟨h232.1, (vc_X8_pickGrouped_2 h203 h208.2.2 h232.2.1 h202 h228 h198 h197 h209 h232.1), trivial⟩
      have h234 : 0 ≤ z193 ∧ z193 ≤ 9 := (vc_X8_pickGrouped_3 h228 h202 h208.2.2 h198 h197 h209)
      have h235 : 1 ≤ z206 ∧ z206 ≤ 10 := (vc_X8_pickGrouped_4 h228 h202 h208.2.2 h234 h197 h209)
      refine sv_aload_n (pc := 12) dX8_pickGrouped_12 rfl rfl ?_
      refine mr_iload_n (pc := 13) (z := z193) dX8_pickGrouped_13 rfl rfl ?_
      refine mr_cVP (pc := 14) (c_X8_isFirstOfGroup hw T199 h234) (gOk _ _ _ _ _) dX8_pickGrouped_14 (tX8_isFirstOfGroup _ _ _ _ _) ⟨wV_X8_isFirstOfGroup, wL_X8_isFirstOfGroup⟩ wM_X8_226 (gCX8 _ _ _ _ _) rfl (A_32 hw) rfl ⟨le_t rfl, le_t rfl⟩ ⟨le_t rfl, le_t rfl⟩ rfl (le_t rfl) fun z240 h239 => ?_
      refine mr_if_eq (pc := 17) (tgt := 34) dX8_pickGrouped_17 (by decide) (r32 h239.1 rfl) (fun h252 => ?_) (fun h252 => ?_)
      · have h253 : 0 ≤ z240 ∧ z240 ≤ 0 := (vc_X8_pickGrouped_5 h252 h239.1)
        refine mr_iinc (pc := 34) (lv' := [(3, iv (z193 + 1)), (0, .ref 32), (1, .ref a1), (2, iv z194)]) dX8_pickGrouped_34 rfl (by decide) rfl ?_
        refine sv_goto (pc := 37) (tgt := 4) dX8_pickGrouped_37 (by decide) ?_
        refine mr_lvS (lv' := [(0, .ref 32), (1, .ref a1), (2, iv z194), (3, iv (z193 + 1))]) (List.forall_mem_cons.mpr ⟨rfl, List.forall_mem_cons.mpr ⟨rfl, List.forall_mem_cons.mpr ⟨rfl, List.forall_mem_cons.mpr ⟨rfl, fun _ h => absurd h List.not_mem_nil⟩⟩⟩⟩) ?_
        exact ih205 z194 (z193 + 1) μ195 T199 (mF.call mF.refl F200 rfl) h197 (rW (c := 0) (d := 10) (rAdd (e := 1) (f := 10) h234 (rR (x := 1)) rfl) rfl) (vc_X8_pickGrouped_6 h202 h203 h228 h208.2.2 h234 h197 h235) (vc_X8_pickGrouped_7 h202 h203 h208.2.2 h228 h234 h197 h235) (vc_X8_pickGrouped_8 (nS h204) h202 h228 h203 h208.2.2 h234 h197 h235)
      have h254 : 1 ≤ z240 ∧ z240 ≤ 1 := (vc_X8_pickGrouped_9 h252 h239.1)
      refine sv_aload_n (pc := 20) dX8_pickGrouped_20 rfl rfl ?_
      refine mr_iload_n (pc := 21) (z := z194) dX8_pickGrouped_21 rfl rfl ?_
      refine sv_aload_n (pc := 22) dX8_pickGrouped_22 rfl rfl ?_
      refine sv_aload_n (pc := 23) dX8_pickGrouped_23 rfl rfl ?_
      refine mr_iload_n (pc := 24) (z := z193) dX8_pickGrouped_24 rfl rfl ?_
      refine mr_cVP (pc := 25) (c_X8_bestOfGroup hw T199 hA1 h234) (gOk _ _ _ _ _) dX8_pickGrouped_25 (tX8_bestOfGroup _ _ _ _ _) ⟨wV_X8_bestOfGroup, wL_X8_bestOfGroup⟩ wM_X8_229 (gCX8 _ _ _ _ _) rfl (A_32 hw) rfl ⟨le_t rfl, le_t rfl⟩ ⟨le_t rfl, le_t rfl⟩ rfl (le_t rfl) fun z259 h258 => ?_
      refine mr_cVV (pc := 28) (c_X8_insertWinner hw T199 (vc_X8_pickGrouped_10 h202 h203 h208.2.2 h228 h234 h197 h235) h258.1) (gOk _ _ _ _ _) dX8_pickGrouped_28 (tX8_insertWinner _ _ _ _ _) ⟨wV_X8_insertWinner, wL_X8_insertWinner⟩ wM_X8_232 (gCX8 _ _ _ _ _) rfl (A_32 hw) rfl ⟨le_t rfl, le_t rfl⟩ ⟨le_t rfl, le_t rfl⟩ rfl (le_t rfl) fun μ260 T261 F262 h263 => ?_
      refine mr_iinc (pc := 31) (lv' := [(2, iv (z194 + 1)), (0, .ref 32), (1, .ref a1), (3, iv z193)]) dX8_pickGrouped_31 rfl (by decide) rfl ?_
      refine mr_iinc (pc := 34) (lv' := [(3, iv (z193 + 1)), (2, iv (z194 + 1)), (0, .ref 32), (1, .ref a1)]) dX8_pickGrouped_34 rfl (by decide) rfl ?_
      refine sv_goto (pc := 37) (tgt := 4) dX8_pickGrouped_37 (by decide) ?_
      refine mr_lvS (lv' := [(0, .ref 32), (1, .ref a1), (2, iv (z194 + 1)), (3, iv (z193 + 1))]) (List.forall_mem_cons.mpr ⟨rfl, List.forall_mem_cons.mpr ⟨rfl, List.forall_mem_cons.mpr ⟨rfl, List.forall_mem_cons.mpr ⟨rfl, fun _ h => absurd h List.not_mem_nil⟩⟩⟩⟩) ?_
      exact ih205 (z194 + 1) (z193 + 1) μ260 T261 (mF.call (mF.call mF.refl F200 rfl) F262 rfl) (vc_X8_pickGrouped_11 h202 h203 h208.2.2 h228 h234 h197 h235) (rW (c := 0) (d := 10) (rAdd (e := 1) (f := 10) h234 (rR (x := 1)) rfl) rfl) (vc_X8_pickGrouped_12 h202 h203 h228 h208.2.2 h234 h197 h235) (vc_X8_pickGrouped_13 h202 h203 h208.2.2 h228 h234 h197 h235) (vc_X8_pickGrouped_8 (nS h204) h202 h228 h203 h208.2.2 h234 h197 h235)
  refine mr_lvS (lv' := [(0, .ref 32), (1, .ref a1), (2, iv 0), (3, iv 0)]) (List.forall_mem_cons.mpr ⟨rfl, List.forall_mem_cons.mpr ⟨rfl, List.forall_mem_cons.mpr ⟨rfl, List.forall_mem_cons.mpr ⟨rfl, fun _ h => absurd h List.not_mem_nil⟩⟩⟩⟩) ?_
  exact L196 12 0 0 μ hT mF.refl (rW (c := 0) (d := 10) (rR (x := 0)) rfl) (rW (c := 0) (d := 10) (rR (x := 0)) rfl) vc_X8_pickGrouped_14 vc_X8_pickGrouped_15 vc_X8_pickGrouped_16
theorem vc_X4_forget_1 {z119 : Int} (h0 : (8 - z119) < ((0 : Nat) : Int)) (h1 : 1 ≤ z119 ∧ z119 ≤ 7) : False := by omega
theorem vc_X4_forget_2 {z119 : Int} (h0 : 7 ≤ z119) (h1 : 1 ≤ z119 ∧ z119 ≤ 7) : 7 ≤ z119 ∧ z119 ≤ 7 := by omega
theorem vc_X4_forget_3 {z119 : Int} (h0 : z119 < 7) (h1 : 1 ≤ z119 ∧ z119 ≤ 7) : 1 ≤ z119 ∧ z119 ≤ 6 := by omega
theorem vc_X4_forget_4 {N z119 : Int} (h0 : (8 - z119) < N + 1) (h1 : z119 < 7) (h2 : 1 ≤ z119 ∧ z119 ≤ 6) : (8 - (z119 + 1)) < N := by omega
theorem vc_X4_forget_5  : (8 - 1) < ((8 : Nat) : Int) := by omega
set_option maxRecDepth 4000 in
set_option maxHeartbeats 4000000 in
theorem c_X4_forget {l : Launch} {D : va_G} {c : Nat → ClassId} {H0 : Heap} {sa : Nat × Nat × (Nat → Int32)} {w : mW} {μ : mM} (hw : mWF w) (hT : mT w μ) : sC (gG l D c H0 sa) mX4_forget 1 0 0 [.ref 94] (mk w μ) (qI w [94010, 94011, 95999] μ (fun z μ1 => ((-2147483648) ≤ z ∧ z ≤ 2147483647) ∧ True)) := by
  refine sC.of rfl (by decide) (le_t rfl) ?_
  refine mr_lvE (lv' := [(0, .ref 94)]) rfl ?_
  refine mr_iconst (pc := 0) (z := 0) dX4_forget_0 ?_
  refine mr_istore_n (pc := 1) (lv' := [(1, iv 0), (0, .ref 94)]) dX4_forget_1 rfl (by decide) rfl ?_
  refine mr_iconst (pc := 2) (z := 1) dX4_forget_2 ?_
  refine mr_istore_n (pc := 3) (lv' := [(2, iv 1), (1, iv 0), (0, .ref 94)]) dX4_forget_3 rfl (by decide) rfl ?_
  have L122 : ∀ (nL122 : Nat) (z120 z119 : Int) (μ121 : mM), mT w μ121 → mF [95999] w μ μ121 → ((-2147483648) ≤ z120 ∧ z120 ≤ 2147483647) → (1 ≤ z119 ∧ z119 ≤ 7) → (8 - z119) < (nL122 : Int) → sV (gG l D c H0 sa) mX4_forget (sRm 1 0 0) (sZ (gG l D c H0 sa) 0 0 (qI w [94010, 94011, 95999] μ (fun z μ1 => ((-2147483648) ≤ z ∧ z ≤ 2147483647) ∧ True))) 4 [(0, .ref 94), (1, iv z120), (2, iv z119)] [] (mk w μ121) 0 0 := by
    intro nL122
    induction nL122 with
    | zero => intro z120 z119 μ121 T125 F126 h123 h124 h128; exact ((vc_X4_forget_1 h128 h124)).elim
    | succ nL122 ih129 =>
      intro z120 z119 μ121 T125 F126 h123 h124 h128
      refine mr_iload_n (pc := 4) (z := z119) dX4_forget_4 rfl rfl ?_
      refine mr_bipush (pc := 5) (z := 7) dX4_forget_5 (by decide) ?_
      refine mr_icmp_ge (pc := 7) (tgt := 32) dX4_forget_7 (by decide) (r32 h124 rfl) (r32 (rR (x := 7)) rfl) (fun h140 => ?_) (fun h140 => ?_)
      · have h141 : 7 ≤ z119 ∧ z119 ≤ 7 := (vc_X4_forget_2 h140 h124)
        refine sv_aload_n (pc := 32) dX4_forget_32 rfl rfl ?_
        refine mr_iconst (pc := 33) (z := 0) dX4_forget_33 ?_
        refine pf_X4_10 (pc := 34) dX4_forget_34 wF_X4_52 (A_94 hw) T125 (rW (c := 0) (d := 1) (rR (x := 0)) rfl) fun μ142 u143 T144 => ?_
        refine sv_aload_n (pc := 37) dX4_forget_37 rfl rfl ?_
        refine mr_iconst (pc := 38) (z := 0) dX4_forget_38 ?_
        refine pf_X4_11 (pc := 39) dX4_forget_39 wF_X4_56 (A_94 hw) T144 (rW (c := 0) (d := 1) (rR (x := 0)) rfl) fun μ145 u146 T147 => ?_
        refine mr_iload_n (pc := 42) (z := z120) dX4_forget_42 rfl rfl ?_
        exact mr_iret dX4_forget_43 rfl (le_t rfl) (le_t rfl) T147 (mF.up (mF.up (mF.call mF.refl F126 rfl) (A_94 hw) u143 rfl) (A_94 hw) u146 rfl) ⟨h123, trivial⟩
      have h148 : 1 ≤ z119 ∧ z119 ≤ 6 := (vc_X4_forget_3 h140 h124)
      refine mr_iload_n (pc := 10) (z := z120) dX4_forget_10 rfl rfl ?_
      refine sv_aload_n (pc := 11) dX4_forget_11 rfl rfl ?_
      refine gf_X4_12 (pc := 12) dX4_forget_12 wF_X4_11 (A_94 hw) T125 ?_
      refine mr_iload_n (pc := 15) (z := z119) dX4_forget_15 rfl rfl ?_
      refine la_95 (pc := 16) dX4_forget_16 (A_95 hw) T125 (rIx (n := 7) h148 rfl) fun z149 q150 h151 => ?_
      refine mr_iadd (pc := 17) (x := z120) (y := z149) dX4_forget_17 ?_
      refine mr_wrap fun z152 h153 => ?_
      refine mr_istore_n (pc := 18) (lv' := [(1, iv z152), (0, .ref 94), (2, iv z119)]) dX4_forget_18 rfl (by decide) rfl ?_
      refine sv_aload_n (pc := 19) dX4_forget_19 rfl rfl ?_
      refine gf_X4_12 (pc := 20) dX4_forget_20 wF_X4_11 (A_94 hw) T125 ?_
      refine mr_iload_n (pc := 23) (z := z119) dX4_forget_23 rfl rfl ?_
      refine mr_iconst (pc := 24) (z := 0) dX4_forget_24 ?_
      refine ss_95 (pc := 25) dX4_forget_25 (A_95 hw) T125 (rIx (n := 7) h148 rfl) (rW (c := 0) (d := 5) (rR (x := 0)) rfl) fun μ154 u155 T156 => ?_
      refine mr_iinc (pc := 26) (lv' := [(2, iv (z119 + 1)), (1, iv z152), (0, .ref 94)]) dX4_forget_26 rfl (by decide) rfl ?_
      refine sv_goto (pc := 29) (tgt := 4) dX4_forget_29 (by decide) ?_
      refine mr_lvS (lv' := [(0, .ref 94), (1, iv z152), (2, iv (z119 + 1))]) (List.forall_mem_cons.mpr ⟨rfl, List.forall_mem_cons.mpr ⟨rfl, List.forall_mem_cons.mpr ⟨rfl, fun _ h => absurd h List.not_mem_nil⟩⟩⟩) ?_
      exact ih129 z152 (z119 + 1) μ154 T156 (mF.up (mF.call mF.refl F126 rfl) (A_95 hw) u155 rfl) h153 (rW (c := 1) (d := 7) (rAdd (e := 2) (f := 7) h148 (rR (x := 1)) rfl) rfl) (vc_X4_forget_4 (nS h128) h140 h148)
  refine mr_lvS (lv' := [(0, .ref 94), (1, iv 0), (2, iv 1)]) (List.forall_mem_cons.mpr ⟨rfl, List.forall_mem_cons.mpr ⟨rfl, List.forall_mem_cons.mpr ⟨rfl, fun _ h => absurd h List.not_mem_nil⟩⟩⟩) ?_
  exact L122 8 0 1 μ hT mF.refl (rW (c := (-2147483648)) (d := 2147483647) (rR (x := 0)) rfl) (rW (c := 1) (d := 7) (rR (x := 1)) rfl) vc_X4_forget_5
