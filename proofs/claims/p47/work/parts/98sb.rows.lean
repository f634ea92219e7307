theorem vc_X4_actOf_w_9 {p1 : Int} (h0 : 1 ≤ p1 ∧ p1 ≤ 6) : 1 ≤ p1 ∧ p1 ≤ 6 := by omega
theorem vc_X4_actOf_w_11 {f_vp p1 z225 : Int} (h0 : z225 < f_vp) (h1 : 1 ≤ f_vp ∧ f_vp ≤ 5) (h2 : 1 ≤ p1 ∧ p1 ≤ 6) (h3 : 0 ≤ z225 ∧ z225 ≤ 4) : ((p1 * 5) + z225) = 5 * p1 + z225 := by omega
theorem vc_X4_actOf_w_16 {z237 : Int} (h0 : ¬ z237 = 0) (h1 : 1 ≤ z237 ∧ z237 ≤ 6) : ¬ z237 = 0 := by omega
theorem vc_X4_actOf_w_17 {z246 z249 : Int} (h0 : ¬ z246 = z249) (h1 : 0 ≤ z246 ∧ z246 ≤ 46656) (h2 : (-1) ≤ z249 ∧ z249 ≤ 5) : ¬ z246 = z249 := by omega
theorem vc_X4_actOf_w_20 {z246 z249 : Int} (h0 : z246 = z249) (h1 : 0 ≤ z246 ∧ z246 ≤ 5) (h2 : 0 ≤ z249 ∧ z249 ≤ 5) : z246 = z249 := by omega
set_option maxRecDepth 4000 in
set_option maxHeartbeats 4000000 in
theorem c_X4_actOf_w {l : Launch} {D : va_G} {c : Nat → ClassId} {H0 : Heap} {sa : Nat × Nat × (Nat → Int32)} {w : mW} {μ : mM} (hw : mWF w) (hT : mT w μ) {p1 : Int} (hp1 : 1 ≤ p1 ∧ p1 ≤ 6) {f_vp : Int} (q_f_vp : μ 95 (p1.toNat) = f_vp) (hna : ndA μ) (hnd : NDQ μ) (hhs : hasB μ) : sC (gG l D c H0 sa) mX4_actOf 1 0 0 [.ref 94, iv p1] (mk w μ) (qP w μ (fun z => (0 ≤ z ∧ z ≤ 5) ∧ (z ≤ f_vp) ∧ (actR μ 95 97 96 7 (μ 101) p1 z) ∧ True)) := by
  refine sC.of rfl (by decide) (le_t rfl) ?_
  have ht_f_vp : (0 ≤ f_vp ∧ f_vp ≤ 5) := by rw [← q_f_vp]; exact hT 95 95 (A_95 hw) (p1.toNat)
  refine mr_lvE (lv' := [(0, .ref 94), (1, iv p1)]) rfl ?_
  refine mr_iconst (pc := 0) (z := 0) dX4_actOf_0 ?_
  refine mr_istore_n (pc := 1) (lv' := [(2, iv 0), (0, .ref 94), (1, iv p1)]) dX4_actOf_1 rfl (by decide) rfl ?_
  have L226 : ∀ (nL226 : Nat) (z225 : Int), True → (0 ≤ z225 ∧ z225 ≤ 5) → acI μ 95 97 96 7 (μ 101) p1 z225 → (6 - z225) < (nL226 : Int) → sV (gG l D c H0 sa) mX4_actOf (sRm 1 0 0) (sZ (gG l D c H0 sa) 0 0 (qP w μ (fun z => (0 ≤ z ∧ z ≤ 5) ∧ (z ≤ f_vp) ∧ (actR μ 95 97 96 7 (μ 101) p1 z) ∧ True))) 2 [(0, .ref 94), (1, iv p1), (2, iv z225)] [] (mk w μ) 0 0 := by
    intro nL226
    induction nL226 with
    | zero => intro z225 _ h227 R231 h232; exact ((vc_X4_actOf_1 h232 h227)).elim
    | succ nL226 ih233 =>
      intro z225 _ h227 R231 h232
      refine mr_iload_n (pc := 2) (z := z225) dX4_actOf_2 rfl rfl ?_
      refine sv_aload_n (pc := 3) dX4_actOf_3 rfl rfl ?_
      refine gf_X4_12 (pc := 4) dX4_actOf_4 wF_X4_11 (A_94 hw) hT ?_
      refine mr_iload_n (pc := 7) (z := p1) dX4_actOf_7 rfl rfl ?_
      refine lk_95 (pc := 8) dX4_actOf_8 (A_95 hw) (rIx (n := 7) hp1 rfl) q_f_vp ?_
      refine mr_icmp_ge (pc := 9) (tgt := 55) dX4_actOf_9 (by decide) (r32 h227 rfl) (r32 ht_f_vp rfl) (fun h234 => ?_) (fun h234 => ?_)
      · refine sv_aload_n (pc := 55) dX4_actOf_55 rfl rfl ?_
        refine gf_X4_12 (pc := 56) dX4_actOf_56 wF_X4_11 (A_94 hw) hT ?_
        refine mr_iload_n (pc := 59) (z := p1) dX4_actOf_59 rfl rfl ?_
        refine lk_95 (pc := 60) dX4_actOf_60 (A_95 hw) (rIx (n := 7) hp1 rfl) q_f_vp ?_
        exact mr_iretP dX4_actOf_61 rfl (le_t rfl) (le_t rfl) ⟨ht_f_vp, (vc_X12_acted_v_2 h234 ht_f_vp h227), (actR.miss R231 q_f_vp (vc_X12_acted_w_3 h234 ht_f_vp h227) (vc_X12_acted_w_4 h234 ht_f_vp h227)), trivial⟩
      have h235 : 0 ≤ z225 ∧ z225 ≤ 4 := (vc_X4_actOf_2 h234 ht_f_vp h227)
      have h236 : 1 ≤ f_vp ∧ f_vp ≤ 5 := (vc_X4_actOf_3 h234 ht_f_vp h235)
      refine mr_iload_n (pc := 12) (z := p1) dX4_actOf_12 rfl rfl ?_
      refine mr_iconst (pc := 13) (z := 5) dX4_actOf_13 ?_
      refine mr_imul (pc := 14) (x := p1) (y := 5) dX4_actOf_14 ?_
      refine mr_iload_n (pc := 15) (z := z225) dX4_actOf_15 rfl rfl ?_
      refine mr_iadd (pc := 16) (x := (p1 * 5)) (y := z225) dX4_actOf_16 ?_
      refine mr_istore_n (pc := 17) (lv' := [(3, iv ((p1 * 5) + z225)), (0, .ref 94), (1, iv p1), (2, iv z225)]) dX4_actOf_17 rfl (by decide) rfl ?_
      refine sv_aload_n (pc := 18) dX4_actOf_18 rfl rfl ?_
      refine gf_X4_2 (pc := 19) dX4_actOf_19 wF_X4_21 (A_94 hw) hT ?_
      refine mr_iload_n (pc := 22) (z := ((p1 * 5) + z225)) dX4_actOf_22 rfl rfl ?_
      refine la_98 (pc := 23) dX4_actOf_23 (A_98 hw) hT (rIx (n := 35) (rAdd (e := 5) (f := 34) (rMulR (n := 5) (e := 5) (f := 30) hp1 rfl) h235 rfl) rfl) fun z237 q238 h239 => ?_
      refine mr_istore (pc := 24) (lv' := [(4, iv z237), (3, iv ((p1 * 5) + z225)), (0, .ref 94), (1, iv p1), (2, iv z225)]) dX4_actOf_24 (by decide) rfl ?_
      refine mr_iload (pc := 26) (z := z237) dX4_actOf_26 rfl ?_
      refine mr_if_eq (pc := 28) (tgt := 47) dX4_actOf_28 (by decide) (r32 h239 rfl) (fun h240 => ?_) (fun h240 => ?_)
      · have h241 : 0 ≤ z237 ∧ z237 ≤ 0 := (vc_X12_isOffered_13 h240 h239)
        refine mr_iload_n (pc := 47) (z := z225) dX4_actOf_47 rfl rfl ?_
        obtain ⟨z242, q243⟩ : ∃ z, μ 99 (((p1 * 5) + z225).toNat) = z := ⟨_, rfl⟩
        have h244 : ((-1) ≤ z242 ∧ z242 ≤ 5) := by rw [← q243]; exact hT 99 99 (A_99 hw) (((p1 * 5) + z225).toNat)
        exact mr_iretP dX4_actOf_48 rfl (le_t rfl) (le_t rfl) ⟨(rW (c := 0) (d := 5) h235 rfl), (vc_X12_acted_v_14 h234 h236 h235), (actR.hit R231 q_f_vp (vc_X12_acted_w_20 h234 h236 h235) (vc_X4_actOf_w_11 h234 h236 hp1 h235) (((ndA.off hna hnd hhs (vc_X4_actOf_w_9 hp1) (vc_X12_acted_w_20 h234 h236 h235) q_f_vp (vc_X4_actOf_w_11 h234 h236 hp1 h235) q238 q243)).mp (Or.inl (vc_X12_goes_7 h240 h241)))), trivial⟩
      have h245 : 1 ≤ z237 ∧ z237 ≤ 6 := (vc_X12_isOffered_1 h240 h239)
      refine sv_aload_n (pc := 31) dX4_actOf_31 rfl rfl ?_
      refine gf_X4_5 (pc := 32) dX4_actOf_32 wF_X4_30 (A_94 hw) hT ?_
      refine mr_iload (pc := 35) (z := z237) dX4_actOf_35 rfl ?_
      refine la_101 (pc := 37) dX4_actOf_37 (A_101 hw) hT (rIx (n := 7) h245 rfl) fun z246 q247 h248 => ?_
      refine sv_aload_n (pc := 38) dX4_actOf_38 rfl rfl ?_
      refine gf_X4_3 (pc := 39) dX4_actOf_39 wF_X4_24 (A_94 hw) hT ?_
      refine mr_iload_n (pc := 42) (z := ((p1 * 5) + z225)) dX4_actOf_42 rfl rfl ?_
      refine la_99 (pc := 43) dX4_actOf_43 (A_99 hw) hT (rIx (n := 35) (rAdd (e := 5) (f := 34) (rMulR (n := 5) (e := 5) (f := 30) hp1 rfl) h235 rfl) rfl) fun z249 q250 h251 => ?_
      refine mr_icmp_ne (pc := 44) (tgt := 49) dX4_actOf_44 (by decide) (r32 h248 rfl) (r32 h251 rfl) (fun h252 => ?_) (fun h252 => ?_)
      · refine mr_iinc (pc := 49) (lv' := [(2, iv (z225 + 1)), (4, iv z237), (3, iv ((p1 * 5) + z225)), (0, .ref 94), (1, iv p1)]) dX4_actOf_49 rfl (by decide) rfl ?_
        refine sv_goto (pc := 52) (tgt := 2) dX4_actOf_52 (by decide) ?_
        refine mr_lvS (lv' := [(0, .ref 94), (1, iv p1), (2, iv (z225 + 1))]) (List.forall_mem_cons.mpr ⟨rfl, List.forall_mem_cons.mpr ⟨rfl, List.forall_mem_cons.mpr ⟨rfl, fun _ h => absurd h List.not_mem_nil⟩⟩⟩) ?_
        exact ih233 (z225 + 1) trivial (rW (c := 0) (d := 5) (rAdd (e := 1) (f := 5) h235 (rR (x := 1)) rfl) rfl) (acI.next R231 (vc_X12_acted_w_15 h234 h236 h235) (vc_X4_actOf_w_11 h234 h236 hp1 h235) (fun g => (((ndA.off hna hnd hhs (vc_X4_actOf_w_9 hp1) (vc_X12_acted_w_20 h234 h236 h235) q_f_vp (vc_X4_actOf_w_11 h234 h236 hp1 h235) q238 q250)).mpr g).elim (vc_X4_actOf_w_16 h240 h245) (fun g2 => (vc_X4_actOf_w_17 h252 h248 h251) ((q247).symm.trans g2)))) (vc_X4_actOf_6 (nS h232) h234 h236 h235)
      have h253 : 0 ≤ z246 ∧ z246 ≤ 5 := (vc_X4_actOf_7 h252 h248 h251)
      have h254 : 0 ≤ z249 ∧ z249 ≤ 5 := (vc_X4_actOf_8 h252 h253 h251)
      refine mr_iload_n (pc := 47) (z := z225) dX4_actOf_47 rfl rfl ?_
      exact mr_iretP dX4_actOf_48 rfl (le_t rfl) (le_t rfl) ⟨(rW (c := 0) (d := 5) h235 rfl), (vc_X12_acted_v_14 h234 h236 h235), (actR.hit R231 q_f_vp (vc_X12_acted_w_20 h234 h236 h235) (vc_X4_actOf_w_11 h234 h236 hp1 h235) (((ndA.off hna hnd hhs (vc_X4_actOf_w_9 hp1) (vc_X12_acted_w_20 h234 h236 h235) q_f_vp (vc_X4_actOf_w_11 h234 h236 hp1 h235) q238 q250)).mp (Or.inr ((q247).trans (vc_X4_actOf_w_20 h252 h253 h254))))), trivial⟩
  refine mr_lvS (lv' := [(0, .ref 94), (1, iv p1), (2, iv 0)]) (List.forall_mem_cons.mpr ⟨rfl, List.forall_mem_cons.mpr ⟨rfl, List.forall_mem_cons.mpr ⟨rfl, fun _ h => absurd h List.not_mem_nil⟩⟩⟩) ?_
  exact L226 7 0 trivial (rW (c := 0) (d := 5) (rR (x := 0)) rfl) (acI.zero vc_X12_isOffered_v_15) vc_X4_actOf_9
theorem vc_X4_isRest_v_3 {z70 : Int} (h0 : 7 ≤ z70) (h1 : 7 ≤ z70 ∧ z70 ≤ 7) : 7 ≤ z70 := by omega
theorem vc_X4_isRest_v_5 {z82 z85 z92 : Int} (h0 : z82 = z92) (h1 : z92 ≤ z85) (h2 : 0 ≤ z82 ∧ z82 ≤ 46656) (h3 : 0 ≤ z85 ∧ z85 ≤ 5) (h4 : 0 ≤ z92 ∧ z92 ≤ 5) : 0 ≤ z82 ∧ z82 ≤ 5 := by omega
theorem vc_X4_isRest_v_8 {z82 z85 z92 : Int} (h0 : z92 ≤ z85) (h1 : z82 = z92) (h2 : 0 ≤ z82 ∧ z82 ≤ 5) (h3 : 0 ≤ z85 ∧ z85 ≤ 5) (h4 : 0 ≤ z92 ∧ z92 ≤ 5) : (z92 = z82 ∧ (1 : Int) = 1) ∨ (¬ z92 = z82 ∧ ¬ (1 : Int) = 1) := by omega
theorem vc_X4_isRest_v_9 {z82 z85 z92 : Int} (h0 : z92 ≤ z85) (h1 : ¬ z82 = z92) (h2 : 0 ≤ z82 ∧ z82 ≤ 46656) (h3 : 0 ≤ z85 ∧ z85 ≤ 5) (h4 : 0 ≤ z92 ∧ z92 ≤ 5) : (z92 = z82 ∧ (0 : Int) = 1) ∨ (¬ z92 = z82 ∧ ¬ (0 : Int) = 1) := by omega
set_option maxRecDepth 4000 in
set_option maxHeartbeats 4000000 in
theorem c_X4_isRest_v {l : Launch} {D : va_G} {c : Nat → ClassId} {H0 : Heap} {sa : Nat × Nat × (Nat → Int32)} {w : mW} {μ : mM} (hw : mWF w) (hT : mT w μ) (hna : ndA μ) (hnd : NDQ μ) (hhs : hasB μ) : sC (gG l D c H0 sa) mX4_isRest 2 0 0 [.ref 94] (mk w μ) (qP w μ (fun z => (0 ≤ z ∧ z ≤ 1) ∧ ((z = 1 ↔ rstP μ 95 97 96 7 (μ 101))) ∧ True)) := by
  refine sC.of rfl (by decide) (le_t rfl) ?_
  refine mr_lvE (lv' := [(0, .ref 94)]) rfl ?_
  refine mr_iconst (pc := 0) (z := 1) dX4_isRest_0 ?_
  refine mr_istore_n (pc := 1) (lv' := [(1, iv 1), (0, .ref 94)]) dX4_isRest_1 rfl (by decide) rfl ?_
  have L71 : ∀ (nL71 : Nat) (z70 : Int), True → (1 ≤ z70 ∧ z70 ≤ 7) → rsI μ 95 97 96 7 (μ 101) z70 1 → (8 - z70) < (nL71 : Int) → sV (gG l D c H0 sa) mX4_isRest (sRm 2 0 0) (sZ (gG l D c H0 sa) 0 0 (qP w μ (fun z => (0 ≤ z ∧ z ≤ 1) ∧ ((z = 1 ↔ rstP μ 95 97 96 7 (μ 101))) ∧ True))) 2 [(0, .ref 94), (1, iv z70)] [] (mk w μ) 0 0 := by
    intro nL71
    induction nL71 with
    | zero => intro z70 _ h72 R76 h77; exact ((vc_X4_isRest_1 h77 h72)).elim
    | succ nL71 ih78 =>
      intro z70 _ h72 R76 h77
      refine mr_iload_n (pc := 2) (z := z70) dX4_isRest_2 rfl rfl ?_
      refine mr_bipush (pc := 3) (z := 7) dX4_isRest_3 (by decide) ?_
      refine mr_icmp_ge (pc := 5) (tgt := 30) dX4_isRest_5 (by decide) (r32 h72 rfl) (r32 (rR (x := 7)) rfl) (fun h79 => ?_) (fun h79 => ?_)
      · have h80 : 7 ≤ z70 ∧ z70 ≤ 7 := (vc_X4_isRest_2 h79 h72)
        refine mr_iconst (pc := 30) (z := 1) dX4_isRest_30 ?_
        exact mr_zretP dX4_isRest_31 rfl (rW (c := 0) (d := 1) (rR (x := 1)) rfl) (le_t rfl) (le_t rfl) ⟨(rW (c := 0) (d := 1) (rR (x := 1)) rfl), ⟨fun _ => rsI.yes R76 rfl (vc_X4_isRest_v_3 h79 h80), fun _ => rfl⟩, trivial⟩
      have h81 : 1 ≤ z70 ∧ z70 ≤ 6 := (vc_X4_isRest_3 h79 h72)
      refine sv_aload_n (pc := 8) dX4_isRest_8 rfl rfl ?_
      refine gf_X4_5 (pc := 9) dX4_isRest_9 wF_X4_30 (A_94 hw) hT ?_
      refine mr_iload_n (pc := 12) (z := z70) dX4_isRest_12 rfl rfl ?_
      refine la_101 (pc := 13) dX4_isRest_13 (A_101 hw) hT (rIx (n := 7) h81 rfl) fun z82 q83 h84 => ?_
      refine sv_aload_n (pc := 14) dX4_isRest_14 rfl rfl ?_
      refine mr_iload_n (pc := 15) (z := z70) dX4_isRest_15 rfl rfl ?_
      obtain ⟨z85, q86⟩ : ∃ z, μ 95 (z70.toNat) = z := ⟨_, rfl⟩
      have h87 : (0 ≤ z85 ∧ z85 ≤ 5) := by rw [← q86]; exact hT 95 95 (A_95 hw) (z70.toNat)
      refine mr_cVP (pc := 16) (c_X4_actOf_w hw hT h81 q86 hna hnd hhs) (gOk _ _ _ _ _) dX4_isRest_16 (tX4_actOf _ _ _ _ _) ⟨wV_X4_actOf, wL_X4_actOf⟩ wM_X4_71 (gCX4 _ _ _ _ _) rfl (A_94 hw) rfl ⟨le_t rfl, le_t rfl⟩ ⟨le_t rfl, le_t rfl⟩ rfl (le_t rfl) fun z92 h91 => ?_
      refine mr_icmp_eq (pc := 19) (tgt := 24) dX4_isRest_19 (by decide) (r32 h84 rfl) (r32 h91.1 rfl) (fun h93 => ?_) (fun h93 => ?_)
      · have h94 : 0 ≤ z82 ∧ z82 ≤ 5 := (vc_X4_isRest_v_5 h93 h91.2.1 h84 h87 h91.1)
        refine mr_iinc (pc := 24) (lv' := [(1, iv (z70 + 1)), (0, .ref 94)]) dX4_isRest_24 rfl (by decide) rfl ?_
        refine sv_goto (pc := 27) (tgt := 2) dX4_isRest_27 (by decide) ?_
        refine mr_lvS (lv' := [(0, .ref 94), (1, iv (z70 + 1))]) (List.forall_mem_cons.mpr ⟨rfl, List.forall_mem_cons.mpr ⟨rfl, fun _ h => absurd h List.not_mem_nil⟩⟩) ?_
        exact ih78 (z70 + 1) trivial (rW (c := 1) (d := 7) (rAdd (e := 2) (f := 7) h81 (rR (x := 1)) rfl) rfl) (rsI.next (g := 1) R76 rfl (vc_X4_addNeighbours_6 h79 h81) h91.2.2.1 q83 (vc_X4_isRest_v_8 h91.2.1 h93 h94 h87 h91.1)) (vc_X4_isRest_5 (nS h77) h79 h81)
      refine mr_iconst (pc := 22) (z := 0) dX4_isRest_22 ?_
      exact mr_zretP dX4_isRest_23 rfl (rW (c := 0) (d := 1) (rR (x := 0)) rfl) (le_t rfl) (le_t rfl) ⟨(rW (c := 0) (d := 1) (rR (x := 0)) rfl), ⟨fun h => absurd h (by decide), fun h => absurd h (((rsI.next (g := 0) R76 rfl (vc_X4_addNeighbours_6 h79 h81) h91.2.2.1 q83 (vc_X4_isRest_v_9 h91.2.1 h93 h84 h87 h91.1))).2 (by decide))⟩, trivial⟩
  refine mr_lvS (lv' := [(0, .ref 94), (1, iv 1)]) (List.forall_mem_cons.mpr ⟨rfl, List.forall_mem_cons.mpr ⟨rfl, fun _ h => absurd h List.not_mem_nil⟩⟩) ?_
  exact L71 8 1 trivial (rW (c := 1) (d := 7) (rR (x := 1)) rfl) (rsI.start vc_X12_isRest_v_35 rfl) vc_X4_isRest_6
theorem vc_X4_countUp_v_6 {z99 : Int} (h0 : z99 ≤ 1) (h1 : 1 ≤ z99 ∧ z99 ≤ 1) : z99 = 1 := by omega
theorem vc_X4_countUp_v_7 {g1 z112 : Int} (h0 : z112 ≤ g1) (h1 : 0 ≤ g1 ∧ g1 ≤ 46655) (h2 : 0 ≤ z112 ∧ z112 ≤ 46655) : (z112 + 1) = z112 + 1 := by omega
theorem vc_X4_countUp_v_12 {g1 z121 z124 : Int} (h0 : ¬ z121 = z124) (h1 : z121 ≤ g1) (h2 : 0 ≤ g1 ∧ g1 ≤ 46655) (h3 : 0 ≤ z121 ∧ z121 ≤ 46655) (h4 : 0 ≤ z124 ∧ z124 ≤ 5) : ¬ z121 = z124 := by omega
theorem vc_X4_countUp_v_13 {g1 z121 z124 : Int} (h0 : ¬ z121 = z124) (h1 : z121 ≤ g1) (h2 : 0 ≤ g1 ∧ g1 ≤ 46655) (h3 : 0 ≤ z121 ∧ z121 ≤ 46655) (h4 : 0 ≤ z124 ∧ z124 ≤ 5) : (z121 + 1) = z121 + 1 := by omega
theorem vc_X4_countUp_v_16 {z99 : Int} (h0 : 1 < z99) (h1 : 2 ≤ z99 ∧ z99 ≤ 6) : 1 < z99 := by omega
theorem vc_X4_countUp_v_19  : ((6 : Int) : Int) = (6 : Int) := by omega
set_option maxRecDepth 4000 in
set_option maxHeartbeats 4000000 in
theorem c_X4_countUp_v {l : Launch} {D : va_G} {c : Nat → ClassId} {H0 : Heap} {sa : Nat × Nat × (Nat → Int32)} {w : mW} {μ : mM} (hw : mWF w) (hT : mT w μ) {g1 : Int} (hg1 : 0 ≤ g1 ∧ g1 ≤ 46655) (hle : hasLe μ g1) (hn0 : (0 : Int) ≤ g1) (hD : hasD μ 101 95 g1) : sC (gG l D c H0 sa) mX4_countUp 1 0 0 [.ref 94] (mk w μ) (qV w [101999] μ (fun μ1 => (hasLe μ1 (g1 + 1)) ∧ ((g1 + 1 < wgk (μ 95) 6 → hasD μ1 101 95 (g1 + 1))) ∧ True)) := by
  refine sC.of rfl (by decide) (le_t rfl) ?_
  refine mr_lvE (lv' := [(0, .ref 94)]) rfl ?_
  refine mr_bipush (pc := 0) (z := 6) dX4_countUp_0 (by decide) ?_
  refine mr_istore_n (pc := 2) (lv' := [(1, iv 6), (0, .ref 94)]) dX4_countUp_2 rfl (by decide) rfl ?_
  have L101 : ∀ (nL101 : Nat) (z99 : Int) (μ100 : mM), mT w μ100 → mF [101999] w μ μ100 → (1 ≤ z99 ∧ z99 ≤ 6) → hasLe μ100 g1 → cuI (μ 95) (μ100 101) g1 z99 → (z99 - 0) < (nL101 : Int) → sV (gG l D c H0 sa) mX4_countUp (sRm 1 0 0) (sZ (gG l D c H0 sa) 0 0 (qV w [101999] μ (fun μ1 => (hasLe μ1 (g1 + 1)) ∧ ((g1 + 1 < wgk (μ 95) 6 → hasD μ1 101 95 (g1 + 1))) ∧ True))) 3 [(0, .ref 94), (1, iv z99)] [] (mk w μ100) 0 0 := by
    intro nL101
    induction nL101 with
    | zero => intro z99 μ100 T103 F104 h102 R106 R107 h108; exact ((vc_X4_countUp_1 h108 h102)).elim
    | succ nL101 ih109 =>
      intro z99 μ100 T103 F104 h102 R106 R107 h108
      refine mr_iload_n (pc := 3) (z := z99) dX4_countUp_3 rfl rfl ?_
      refine mr_iconst (pc := 4) (z := 1) dX4_countUp_4 ?_
      refine mr_icmp_le (pc := 5) (tgt := 36) dX4_countUp_5 (by decide) (r32 h102 rfl) (r32 (rR (x := 1)) rfl) (fun h110 => ?_) (fun h110 => ?_)
      · have h111 : 1 ≤ z99 ∧ z99 ≤ 1 := (vc_X4_countUp_2 h110 h102)
        refine sv_aload_n (pc := 36) dX4_countUp_36 rfl rfl ?_
        refine gf_X4_5 (pc := 37) dX4_countUp_37 wF_X4_30 (A_94 hw) T103 ?_
        refine mr_iload_n (pc := 40) (z := z99) dX4_countUp_40 rfl rfl ?_
        refine sv_dup2 (pc := 41) dX4_countUp_41 rfl rfl ?_
        refine la_101 (pc := 42) dX4_countUp_42 (A_101 hw) T103 (rIx (n := 7) h111 rfl) fun z112 q113 h114 => ?_
        have h115 : z112 ≤ g1 := hasLe.at R106 (vc_X4_countUp_3 h110 h111) q113
        have h116 : 0 ≤ z112 ∧ z112 ≤ 46655 := (vc_X4_countUp_4 h115 hg1 h114)
        refine mr_iconst (pc := 43) (z := 1) dX4_countUp_43 ?_
        refine mr_iadd (pc := 44) (x := z112) (y := 1) dX4_countUp_44 ?_
        refine ss_101 (pc := 45) dX4_countUp_45 (A_101 hw) T103 (rIx (n := 7) h111 rfl) (rW (c := 0) (d := 46656) (rAdd (e := 1) (f := 46656) h116 (rR (x := 1)) rfl) rfl) fun μ117 u118 T119 => ?_
        exact mr_vret dX4_countUp_46 rfl (le_t rfl) (le_t rfl) T119 (mF.up (mF.call mF.refl F104 rfl) (A_101 hw) u118 rfl) ⟨(hasLe.up (hasLe.le R106 (show g1 ≤ g1 + 1 by omega)) u118 (vc_X4_countUp_5 h115 hg1 h116)), (fun hlt p h1 h2 => by rw [show μ117 95 = μ 95 from (rowB (A_95 hw) ((mF.up (mF.call mF.refl F104 rfl) (A_101 hw) u118 rfl) : mF [101999] w μ μ117) rfl rfl)]; exact cuI.fin (fun p _ _ => (hT 95 95 (A_95 hw) p).1) R107 ⟨hn0, hlt⟩ q113 (Or.inl (vc_X4_countUp_v_6 h110 h111)) u118.1 (vc_X4_countUp_v_7 h115 hg1 h116) (fun i hi => u118.2 101 i (Or.inr hi)) p h1 h2), trivial⟩
      have h120 : 2 ≤ z99 ∧ z99 ≤ 6 := (vc_X4_countUp_6 h110 h102)
      refine sv_aload_n (pc := 8) dX4_countUp_8 rfl rfl ?_
      refine gf_X4_5 (pc := 9) dX4_countUp_9 wF_X4_30 (A_94 hw) T103 ?_
      refine mr_iload_n (pc := 12) (z := z99) dX4_countUp_12 rfl rfl ?_
      refine la_101 (pc := 13) dX4_countUp_13 (A_101 hw) T103 (rIx (n := 7) h120 rfl) fun z121 q122 h123 => ?_
      refine sv_aload_n (pc := 14) dX4_countUp_14 rfl rfl ?_
      refine gf_X4_12 (pc := 15) dX4_countUp_15 wF_X4_11 (A_94 hw) T103 ?_
      refine mr_iload_n (pc := 18) (z := z99) dX4_countUp_18 rfl rfl ?_
      refine la_95 (pc := 19) dX4_countUp_19 (A_95 hw) T103 (rIx (n := 7) h120 rfl) fun z124 q125 h126 => ?_
      refine mr_icmp_ne (pc := 20) (tgt := 36) dX4_countUp_20 (by decide) (r32 h123 rfl) (r32 h126 rfl) (fun h127 => ?_) (fun h127 => ?_)
      · refine sv_aload_n (pc := 36) dX4_countUp_36 rfl rfl ?_
        refine gf_X4_5 (pc := 37) dX4_countUp_37 wF_X4_30 (A_94 hw) T103 ?_
        refine mr_iload_n (pc := 40) (z := z99) dX4_countUp_40 rfl rfl ?_
        refine sv_dup2 (pc := 41) dX4_countUp_41 rfl rfl ?_
        refine lk_101 (pc := 42) dX4_countUp_42 (A_101 hw) (rIx (n := 7) h120 rfl) q122 ?_
        have h128 : z121 ≤ g1 := hasLe.at R106 (vc_X4_countUp_7 h110 h120) q122
        have h129 : 0 ≤ z121 ∧ z121 ≤ 46655 := (vc_X4_countUp_8 h128 h127 hg1 h123 h126)
        refine mr_iconst (pc := 43) (z := 1) dX4_countUp_43 ?_
        refine mr_iadd (pc := 44) (x := z121) (y := 1) dX4_countUp_44 ?_
        refine ss_101 (pc := 45) dX4_countUp_45 (A_101 hw) T103 (rIx (n := 7) h120 rfl) (rW (c := 0) (d := 46656) (rAdd (e := 1) (f := 46656) h129 (rR (x := 1)) rfl) rfl) fun μ130 u131 T132 => ?_
        exact mr_vret dX4_countUp_46 rfl (le_t rfl) (le_t rfl) T132 (mF.up (mF.call mF.refl F104 rfl) (A_101 hw) u131 rfl) ⟨(hasLe.up (hasLe.le R106 (show g1 ≤ g1 + 1 by omega)) u131 (vc_X4_countUp_9 h127 h128 hg1 h129 h126)), (fun hlt p h1 h2 => by rw [show μ130 95 = μ 95 from (rowB (A_95 hw) ((mF.up (mF.call mF.refl F104 rfl) (A_101 hw) u131 rfl) : mF [101999] w μ μ130) rfl rfl)]; exact cuI.fin (fun p _ _ => (hT 95 95 (A_95 hw) p).1) R107 ⟨hn0, hlt⟩ q122 (Or.inr (by rw [((congrFun (rowB (A_95 hw) ((mF.call mF.refl F104 rfl) : mF [101999] w μ μ100) rfl rfl) _).symm.trans q125)]; exact (vc_X4_countUp_v_12 h127 h128 hg1 h129 h126))) u131.1 (vc_X4_countUp_v_13 h127 h128 hg1 h129 h126) (fun i hi => u131.2 101 i (Or.inr hi)) p h1 h2), trivial⟩
      have h133 : 0 ≤ z121 ∧ z121 ≤ 5 := (vc_X4_isRest_4 h127 h123 h126)
      refine sv_aload_n (pc := 23) dX4_countUp_23 rfl rfl ?_
      refine gf_X4_5 (pc := 24) dX4_countUp_24 wF_X4_30 (A_94 hw) T103 ?_
      refine mr_iload_n (pc := 27) (z := z99) dX4_countUp_27 rfl rfl ?_
      refine mr_iconst (pc := 28) (z := 0) dX4_countUp_28 ?_
      refine ss_101 (pc := 29) dX4_countUp_29 (A_101 hw) T103 (rIx (n := 7) h120 rfl) (rW (c := 0) (d := 46656) (rR (x := 0)) rfl) fun μ134 u135 T136 => ?_
      refine mr_iinc (pc := 30) (lv' := [(1, iv (z99 + (-1))), (0, .ref 94)]) dX4_countUp_30 rfl (by decide) rfl ?_
      refine sv_goto (pc := 33) (tgt := 3) dX4_countUp_33 (by decide) ?_
      refine mr_lvS (lv' := [(0, .ref 94), (1, iv (z99 + (-1)))]) (List.forall_mem_cons.mpr ⟨rfl, List.forall_mem_cons.mpr ⟨rfl, fun _ h => absurd h List.not_mem_nil⟩⟩) ?_
      exact ih109 (z99 + (-1)) μ134 T136 (mF.up (mF.call mF.refl F104 rfl) (A_101 hw) u135 rfl) (rW (c := 1) (d := 6) (rAdd (e := 1) (f := 5) h120 (rR (x := (-1))) rfl) rfl) (hasLe.up R106 u135 hn0) (cuI.next (fun p _ _ => (hT 95 95 (A_95 hw) p).1) R107 (vc_X4_countUp_v_16 h110 h120) q122 (by rw [((congrFun (rowB (A_95 hw) ((mF.call mF.refl F104 rfl) : mF [101999] w μ μ100) rfl rfl) _).symm.trans q125)]; exact (vc_X4_actOf_w_20 h127 h133 h126)) u135.1 rfl (fun i hi => u135.2 101 i (Or.inr hi))) (vc_X4_countUp_11 (nS h108) h110 h120)
  refine mr_lvS (lv' := [(0, .ref 94), (1, iv 6)]) (List.forall_mem_cons.mpr ⟨rfl, List.forall_mem_cons.mpr ⟨rfl, fun _ h => absurd h List.not_mem_nil⟩⟩) ?_
  exact L101 7 6 μ hT mF.refl (rW (c := 1) (d := 6) (rR (x := 6)) rfl) hle (cuI.start hD vc_X4_countUp_v_19) vc_X4_actOf_9
theorem vc_X4_keepRest_c_6 {f_rc n_35 : Int} (h0 : f_rc ≤ 46655) (h1 : f_rc < n_35) (h2 : 0 ≤ f_rc ∧ f_rc ≤ 46655) (h3 : 1 ≤ n_35 ∧ n_35 ≤ 93312) : 0 ≤ f_rc := by omega
set_option maxRecDepth 4000 in
set_option maxHeartbeats 4000000 in
theorem c_X4_keepRest_c {l : Launch} {D : va_G} {c : Nat → ClassId} {H0 : Heap} {sa : Nat × Nat × (Nat → Int32)} {w : mW} {μ : mM} (hw : mWF w) (hT : mT w μ) {p1 : Int} (hp1 : 0 ≤ p1 ∧ p1 ≤ 46655) {f_rc : Int} (q_f_rc : μ 94 14 = f_rc) {br : Nat} (q_br : μ 94 7 = (br : Int)) (hA_br : mAt w br 103) (hq0 : f_rc ≤ 46655) (hix : f_rc < (w.2.2.1 br : Int)) : sC (gG l D c H0 sa) mX4_keepRest 1 0 0 [.ref 94, iv p1] (mk w μ) (qV w [94014, 103999] μ (fun μ1 => ∃ o_rc : Int, μ1 94 14 = o_rc ∧ (o_rc = f_rc + 1) ∧ ((one μ μ1 br f_rc ∧ μ1 br f_rc.toNat = p1 ∧ μ1 94 7 = (br : Int))) ∧ True)) := by
  refine sC.of rfl (by decide) (le_t rfl) ?_
  have ht_f_rc : (0 ≤ f_rc ∧ f_rc ≤ 46656) := by rw [← q_f_rc]; exact hT 94 94 (A_94 hw) 14
  have h1 : 0 ≤ f_rc ∧ f_rc ≤ 46655 := (vc_X4_keepRest_a_1 hq0 ht_f_rc)
  refine mr_lvE (lv' := [(0, .ref 94), (1, iv p1)]) rfl ?_
  obtain ⟨n_35, q36⟩ : ∃ n : Int, (w.2.2.1 br : Int) = n := ⟨_, rfl⟩
  have h37 : 0 ≤ n_35 ∧ n_35 ≤ 93312 := lnR (m := 93312) q36 hA_br rfl
  have h38 : f_rc < n_35 := by rw [← q36]; exact hix
  refine sv_aload_n (pc := 0) dX4_keepRest_0 rfl rfl ?_
  refine gk_X4_14 (pc := 1) dX4_keepRest_1 wF_X4_82 (A_94 hw) q_f_rc ?_
  refine sv_aload_n (pc := 4) dX4_keepRest_4 rfl rfl ?_
  refine gk_X4_7 (pc := 5) dX4_keepRest_5 wF_X4_36 (A_94 hw) q_br ?_
  refine mr_alen (pc := 8) (kd := 0) dX4_keepRest_8 rfl hA_br rfl q36 ?_
  refine mr_icmp_lt (pc := 9) (tgt := 29) dX4_keepRest_9 (by decide) (r32 h1 rfl) (r32 h37 rfl) (fun h39 => ?_) (fun h => ((vc_X4_keepRest_a_2 h hq0 h38 h1 h37)).elim)
  have h40 : 1 ≤ n_35 ∧ n_35 ≤ 93312 := (vc_X4_keepRest_a_3 h39 hq0 h1 h37)
  refine sv_aload_n (pc := 29) dX4_keepRest_29 rfl rfl ?_
  refine gk_X4_7 (pc := 30) dX4_keepRest_30 wF_X4_36 (A_94 hw) q_br ?_
  refine sv_aload_n (pc := 33) dX4_keepRest_33 rfl rfl ?_
  refine gk_X4_14 (pc := 34) dX4_keepRest_34 wF_X4_82 (A_94 hw) q_f_rc ?_
  refine mr_iload_n (pc := 37) (z := p1) dX4_keepRest_37 rfl rfl ?_
  refine ss_103 (pc := 38) dX4_keepRest_38 hA_br hT (lnC q36 (vc_X4_keepRest_a_4 hq0 h38 h1 h40)) hp1 fun μ41 u42 T43 => ?_
  refine sv_aload_n (pc := 39) dX4_keepRest_39 rfl rfl ?_
  refine sv_dup (pc := 40) dX4_keepRest_40 rfl ?_
  refine gk_X4_14 (pc := 41) dX4_keepRest_41 wF_X4_82 (A_94 hw) (u42.f (Or.inl (mAt.ne hA_br (A_94 hw) rfl)) q_f_rc) ?_
  refine mr_iconst (pc := 44) (z := 1) dX4_keepRest_44 ?_
  refine mr_iadd (pc := 45) (x := f_rc) (y := 1) dX4_keepRest_45 ?_
  refine pf_X4_14 (pc := 46) dX4_keepRest_46 wF_X4_82 (A_94 hw) T43 (rW (c := 0) (d := 46656) (rAdd (e := 1) (f := 46656) h1 (rR (x := 1)) rfl) rfl) fun μ44 u45 T46 => ?_
  exact mr_vret dX4_keepRest_49 rfl (le_t rfl) (le_t rfl) T46 (mF.up (mF.up mF.refl hA_br u42 rfl) (A_94 hw) u45 rfl) ⟨(f_rc + 1), u45.1, (vc_X4_keepRest_a_5 hq0 h38 h1 h40), ⟨(one.ne (one.up one.refl (vc_X4_keepRest_c_6 hq0 h38 h1 h40) u42) u45 (mAt.ne (A_94 hw) hA_br rfl)), (u45.f (Or.inl (mAt.ne (A_94 hw) hA_br rfl)) u42.1), (u45.f (Or.inr (by decide)) (u42.f (Or.inl (mAt.ne hA_br (A_94 hw) rfl)) q_br))⟩, trivial⟩
set_option maxRecDepth 4000 in
set_option maxHeartbeats 4000000 in
theorem c_X4_keepRest_d {l : Launch} {D : va_G} {c : Nat → ClassId} {H0 : Heap} {sa : Nat × Nat × (Nat → Int32)} {w_0 : mW} {μ : mM} (hw_0 : mWF w_0) (hT : mT w_0 μ) {p1 : Int} (hp1 : 0 ≤ p1 ∧ p1 ≤ 46655) {f_rc : Int} (q_f_rc : μ 94 14 = f_rc) {br : Nat} (q_br : μ 94 7 = (br : Int)) (hA_br : mAt w_0 br 103) (hq0 : 1 ≤ f_rc) (hq1 : f_rc ≤ 46655) (hix : (w_0.2.2.1 br : Int) ≤ f_rc) : sC (gG l D c H0 sa) mX4_keepRest 4 1 (2 * f_rc).toNat [.ref 94, iv p1] (mk w_0 μ) (qVx w_0 [94007, 94014, 103999] μ (fun w1 μ1 => ∃ o_rc : Int, μ1 94 14 = o_rc ∧ (o_rc = f_rc + 1) ∧ ((w1.2.2.1 (μ1 94 7).toNat : Int) = 2 * f_rc) ∧ (((szW w1 : Int) = szW w_0 + 2 * f_rc ∧ w1.1 = w_0.1 + 1)) ∧ (((∀ j : Nat, (j : Int) < (w_0.2.2.1 br : Int) → (j : Int) < f_rc → μ1 w_0.1 j = μ br j) ∧ μ1 w_0.1 f_rc.toNat = p1 ∧ μ1 94 7 = (w_0.1 : Int))) ∧ True)) := by
  refine sC.of rfl (by decide) (le_t rfl) ?_
  have ht_f_rc : (0 ≤ f_rc ∧ f_rc ≤ 46656) := by rw [← q_f_rc]; exact hT 94 94 (A_94 hw_0) 14
  have h1 : 1 ≤ f_rc ∧ f_rc ≤ 46656 := (vc_X12_open_r_1 hq0 ht_f_rc)
  have h2 : 1 ≤ f_rc ∧ f_rc ≤ 46655 := (vc_X4_keepRest_b_2 hq1 hq0 h1)
  refine mr_lvE (lv' := [(0, .ref 94), (1, iv p1)]) rfl ?_
  obtain ⟨n_90, q91⟩ : ∃ n : Int, (w_0.2.2.1 br : Int) = n := ⟨_, rfl⟩
  have h92 : 0 ≤ n_90 ∧ n_90 ≤ 93312 := lnR (m := 93312) q91 hA_br rfl
  have h93 : n_90 ≤ f_rc := by rw [← q91]; exact hix
  refine sv_aload_n (pc := 0) dX4_keepRest_0 rfl rfl ?_
  refine gk_X4_14 (pc := 1) dX4_keepRest_1 wF_X4_82 (A_94 hw_0) q_f_rc ?_
  refine sv_aload_n (pc := 4) dX4_keepRest_4 rfl rfl ?_
  refine gk_X4_7 (pc := 5) dX4_keepRest_5 wF_X4_36 (A_94 hw_0) q_br ?_
  refine mr_alen (pc := 8) (kd := 0) dX4_keepRest_8 rfl hA_br rfl q91 ?_
  refine mr_icmp_lt (pc := 9) (tgt := 29) dX4_keepRest_9 (by decide) (r32 h2 rfl) (r32 h92 rfl) (fun h => ((vc_X4_keepRest_b_3 h hq0 hq1 h93 h2 h92)).elim) (fun h94 => ?_)
  have h95 : 0 ≤ n_90 ∧ n_90 ≤ 46655 := (vc_X4_keepRest_b_4 h94 hq0 hq1 h2 h92)
  refine sv_aload_n (pc := 12) dX4_keepRest_12 rfl rfl ?_
  refine sv_aload_n (pc := 13) dX4_keepRest_13 rfl rfl ?_
  refine gk_X4_7 (pc := 14) dX4_keepRest_14 wF_X4_36 (A_94 hw_0) q_br ?_
  refine mr_iconst (pc := 17) (z := 2) dX4_keepRest_17 ?_
  refine sv_aload_n (pc := 18) dX4_keepRest_18 rfl rfl ?_
  refine gk_X4_14 (pc := 19) dX4_keepRest_19 wF_X4_82 (A_94 hw_0) q_f_rc ?_
  refine mr_imul (pc := 22) (x := 2) (y := f_rc) dX4_keepRest_22 ?_
  refine mr_copyG (pc := 23) (s := 103) (x := (2 * f_rc)) (gOk _ _ _ _ _) dX4_keepRest_23 wM_X4_98 hA_br rfl (show (w_0.2.2.1 br : Int) < (2 * f_rc) ∧ (2 * f_rc) ≤ ((mLen 103 : Nat) : Int) from (by rw [q91]; exact (vc_X4_keepRest_b_5 hq0 hq1 h93 h2 h95))) (le_t rfl) rfl hT (fun _ => (show (0 : Int) ≤ 0 ∧ (0 : Int) ≤ 46655 from by decide)) (fun _ h => h) ⟨le_t rfl, le_t rfl⟩ (le_t rfl) (show 0 + (2 * f_rc).toNat ≤ (2 * f_rc).toNat by omega) (le_t rfl) fun w_96 μ98 X99 T100 A101 e102 q103 c104 v105 => ?_
  have hw_97 : mWF w_96 := mWF.ext X99.1 hw_0
  have A106 : mAt w_96 br 103 := (hA_br).ext X99.1
  have q107 := X99.len hA_br q91
  obtain ⟨n_108, q109⟩ : ∃ n : Int, (w_96.2.2.1 w_0.1 : Int) = n := ⟨_, rfl⟩
  have h110 : 0 ≤ n_108 ∧ n_108 ≤ 93312 := lnR (m := 93312) q109 A101 rfl
  have h111 : n_108 = (2 * f_rc) := q109.symm.trans q103
  refine pf_X4_7 (pc := 26) dX4_keepRest_26 wF_X4_36 (A_94 hw_97) T100 A101 fun μ112 u113 T114 => ?_
  refine sv_aload_n (pc := 29) dX4_keepRest_29 rfl rfl ?_
  refine gk_X4_7 (pc := 30) dX4_keepRest_30 wF_X4_36 (A_94 hw_97) u113.1 ?_
  refine sv_aload_n (pc := 33) dX4_keepRest_33 rfl rfl ?_
  refine gk_X4_14 (pc := 34) dX4_keepRest_34 wF_X4_82 (A_94 hw_97) (u113.f (Or.inr (by decide)) (X99.f (A_94 hw_0) rfl q_f_rc)) ?_
  refine mr_iload_n (pc := 37) (z := p1) dX4_keepRest_37 rfl rfl ?_
  refine ss_103 (pc := 38) dX4_keepRest_38 A101 T114 (lnC q109 (vc_X4_keepRest_b_7 hq0 hq1 h93 h111 h2 h110 h95)) hp1 fun μ115 u116 T117 => ?_
  refine sv_aload_n (pc := 39) dX4_keepRest_39 rfl rfl ?_
  refine sv_dup (pc := 40) dX4_keepRest_40 rfl ?_
  refine gk_X4_14 (pc := 41) dX4_keepRest_41 wF_X4_82 (A_94 hw_97) (u116.f (Or.inl (mAt.ne A101 (A_94 hw_97) rfl)) (u113.f (Or.inr (by decide)) (X99.f (A_94 hw_0) rfl q_f_rc))) ?_
  refine mr_iconst (pc := 44) (z := 1) dX4_keepRest_44 ?_
  refine mr_iadd (pc := 45) (x := f_rc) (y := 1) dX4_keepRest_45 ?_
  refine pf_X4_14 (pc := 46) dX4_keepRest_46 wF_X4_82 (A_94 hw_97) T117 (rW (c := 0) (d := 46656) (rAdd (e := 2) (f := 46656) h2 (rR (x := 1)) rfl) rfl) fun μ118 u119 T120 => ?_
  exact mr_vretX dX4_keepRest_49 rfl (le_t rfl) (show 0 + (2 * f_rc).toNat ≤ (2 * f_rc).toNat by omega) hw_97 T120 (mX.fr (mX.fr (mX.fr (mX.trans mX.refl X99 rfl) (mF.up mF.refl (A_94 hw_97) u113 rfl : mF [94007] _ _ _) rfl) (mF.up mF.refl A101 u116 rfl : mF [103999] _ _ _) rfl) (mF.up mF.refl (A_94 hw_97) u119 rfl : mF [94014] _ _ _) rfl) ⟨(f_rc + 1), u119.1, (vc_X4_keepRest_b_8 hq0 hq1 h93 h111 h2 h110 h95), (lenX (u119.f (Or.inr (by decide)) (u116.f (Or.inl (mAt.ne A101 (A_94 hw_97) rfl)) u113.1)) q109 (vc_X4_keepRest_b_9 hq0 hq1 h93 h111 h2 h110 h95)), ⟨szW.new X99.1 e102 A101 rfl q103, e102⟩, ⟨(fun j hj hj2 => ((u119.2 w_0.1 j (Or.inl (mAt.ne (A_94 hw_97) A101 rfl))).trans ((u116.2 w_0.1 j (Or.inr (by omega))).trans ((u113.2 w_0.1 j (Or.inl (mAt.ne (A_94 hw_97) A101 rfl))).trans (v105 j hj))))), (u119.f (Or.inl (mAt.ne (A_94 hw_97) A101 rfl)) u116.1), (u119.f (Or.inr (by decide)) (u116.f (Or.inl (mAt.ne A101 (A_94 hw_97) rfl)) u113.1))⟩, trivial⟩
theorem vc_X4_wayInRest_v_3 {n_1 p1 : Int} (h0 : p1 < n_1) (h1 : 0 ≤ n_1 ∧ n_1 ≤ 93312) (h2 : 0 ≤ p1 ∧ p1 ≤ 46655) : 0 ≤ p1 ∧ p1 < n_1 := by omega
theorem vc_X4_wayInRest_v_5 {z13 z20 : Int} (h0 : z20 ≤ z13) (h1 : ¬ z20 = z13) (h2 : 0 ≤ z13 ∧ z13 ≤ 5) (h3 : 0 ≤ z20 ∧ z20 ≤ 5) : (z20 = z13 ∧ z20 = -4) ∨ (¬ z20 = z13 ∧ z20 = z20) := by omega
theorem vc_X4_wayInRest_v_6 {z13 z20 : Int} (h0 : z20 ≤ z13) (h1 : z20 = z13) (h2 : 0 ≤ z13 ∧ z13 ≤ 5) (h3 : 0 ≤ z20 ∧ z20 ≤ 5) : (z20 = z13 ∧ ((-4) : Int) = -4) ∨ (¬ z20 = z13 ∧ ((-4) : Int) = z20) := by omega
set_option maxRecDepth 4000 in
set_option maxHeartbeats 4000000 in
theorem c_X4_wayInRest_v {l : Launch} {D : va_G} {c : Nat → ClassId} {H0 : Heap} {sa : Nat × Nat × (Nat → Int32)} {w : mW} {μ : mM} (hw : mWF w) (hT : mT w μ) {p1 : Int} (hp1 : 0 ≤ p1 ∧ p1 ≤ 46655) {p2 : Int} (hp2 : 1 ≤ p2 ∧ p2 ≤ 6) {br : Nat} (q_br : μ 94 7 = (br : Int)) (hA_br : mAt w br 103) (hix : p1 < (w.2.2.1 br : Int)) (hwg : wgT μ 100 95) : sC (gG l D c H0 sa) mX4_wayInRest 2 0 0 [.ref 94, iv p1, iv p2] (mk w μ) (qP w μ (fun z => ((-2147483648) ≤ z ∧ z ≤ 2147483647) ∧ (wiZ_ μ (μ br p1.toNat) p2 z) ∧ True)) := by
  refine sC.of rfl (by decide) (le_t rfl) ?_
  refine mr_lvE (lv' := [(0, .ref 94), (1, iv p1), (2, iv p2)]) rfl ?_
  obtain ⟨n_1, q2⟩ : ∃ n : Int, (w.2.2.1 br : Int) = n := ⟨_, rfl⟩
  have h3 : 0 ≤ n_1 ∧ n_1 ≤ 93312 := lnR (m := 93312) q2 hA_br rfl
  have h4 : p1 < n_1 := by rw [← q2]; exact hix
  obtain ⟨z5, q6⟩ : ∃ z, μ 100 (p2.toNat) = z := ⟨_, rfl⟩
  have h7 : (0 ≤ z5 ∧ z5 ≤ 46656) := by rw [← q6]; exact hT 100 100 (A_100 hw) (p2.toNat)
  have h8 : 1 ≤ z5 := by have h := wgT.pos hwg (fun p _ _ => (hT 95 95 (A_95 hw) p).1) (vc_X4_actOf_w_9 hp2); rw [q6] at h; exact h
  have h9 : 1 ≤ z5 ∧ z5 ≤ 46656 := (vc_X12_open_r_1 h8 h7)
  refine sv_aload_n (pc := 0) dX4_wayInRest_0 rfl rfl ?_
  refine sv_aload_n (pc := 1) dX4_wayInRest_1 rfl rfl ?_
  refine gk_X4_7 (pc := 2) dX4_wayInRest_2 wF_X4_36 (A_94 hw) q_br ?_
  refine mr_iload_n (pc := 5) (z := p1) dX4_wayInRest_5 rfl rfl ?_
  refine la_103 (pc := 6) dX4_wayInRest_6 hA_br hT (lnC q2 (vc_X4_wayInRest_v_3 h4 h3 hp1)) fun z10 q11 h12 => ?_
  refine mr_iload_n (pc := 7) (z := p2) dX4_wayInRest_7 rfl rfl ?_
  obtain ⟨z13, q14⟩ : ∃ z, μ 95 (p2.toNat) = z := ⟨_, rfl⟩
  have h15 : (0 ≤ z13 ∧ z13 ≤ 5) := by rw [← q14]; exact hT 95 95 (A_95 hw) (p2.toNat)
  refine mr_cVP (pc := 8) (c_X4_figure_r hw hT h12 hp2 q6 q14 (vc_X12_tries_36 h8 h9)) (gOk _ _ _ _ _) dX4_wayInRest_8 (tX4_figure _ _ _ _ _) ⟨wV_X4_figure, wL_X4_figure⟩ wM_X4_75 (gCX4 _ _ _ _ _) rfl (A_94 hw) rfl ⟨le_t rfl, le_t rfl⟩ ⟨le_t rfl, le_t rfl⟩ rfl (le_t rfl) fun z20 h19 => ?_
  refine mr_istore_n (pc := 11) (lv' := [(3, iv z20), (0, .ref 94), (1, iv p1), (2, iv p2)]) dX4_wayInRest_11 rfl (by decide) rfl ?_
  refine mr_iload_n (pc := 12) (z := z20) dX4_wayInRest_12 rfl rfl ?_
  refine sv_aload_n (pc := 13) dX4_wayInRest_13 rfl rfl ?_
  refine gf_X4_12 (pc := 14) dX4_wayInRest_14 wF_X4_11 (A_94 hw) hT ?_
  refine mr_iload_n (pc := 17) (z := p2) dX4_wayInRest_17 rfl rfl ?_
  refine lk_95 (pc := 18) dX4_wayInRest_18 (A_95 hw) (rIx (n := 7) hp2 rfl) q14 ?_
  refine mr_icmp_ne (pc := 19) (tgt := 27) dX4_wayInRest_19 (by decide) (r32 h19.1 rfl) (r32 h15 rfl) (fun h21 => ?_) (fun h21 => ?_)
  · refine mr_iload_n (pc := 27) (z := z20) dX4_wayInRest_27 rfl rfl ?_
    exact mr_iretP dX4_wayInRest_28 rfl (le_t rfl) (le_t rfl) ⟨(rW (c := (-2147483648)) (d := 2147483647) h19.1 rfl), (wiZ hwg q11 h19.2.2.1 (vc_X4_actOf_w_9 hp2) q14 (vc_X4_wayInRest_v_5 h19.2.1 h21 h15 h19.1)), trivial⟩
  refine mr_bipush (pc := 22) (z := (-4)) dX4_wayInRest_22 (by decide) ?_
  refine sv_goto (pc := 24) (tgt := 28) dX4_wayInRest_24 (by decide) ?_
  exact mr_iretP dX4_wayInRest_28 rfl (le_t rfl) (le_t rfl) ⟨(rW (c := (-2147483648)) (d := 2147483647) (rR (x := (-4))) rfl), (wiZ hwg q11 h19.2.2.1 (vc_X4_actOf_w_9 hp2) q14 (vc_X4_wayInRest_v_6 h19.2.1 h21 h15 h19.1)), trivial⟩
theorem vc_X11_walk_w_1 {p1 : Int} (h0 : p1 < (-1)) (h1 : (-2147483648) ≤ p1 ∧ p1 ≤ 2147483647) : (-2147483648) ≤ p1 ∧ p1 ≤ (-2) := by omega
theorem vc_X11_walk_w_2 {f_q p1 : Int} (h0 : p1 < (-1)) (h1 : 0 ≤ f_q ∧ f_q ≤ 20) (h2 : (-2147483648) ≤ p1 ∧ p1 ≤ (-2)) : p1 < -1 ∨ 9 < p1 → (-1 : Int) = -1 ∧ f_q = f_q := by omega
theorem vc_X11_walk_w_3 {f_q p1 : Int} (h0 : p1 < (-1)) (h1 : 0 ≤ f_q ∧ f_q ≤ 20) (h2 : (-2147483648) ≤ p1 ∧ p1 ≤ (-2)) : p1 = -1 → (-1 : Int) = 0 ∧ f_q = 0 := by omega
theorem vc_X11_walk_w_4 {f_q p1 : Int} (h0 : p1 < (-1)) (h1 : 0 ≤ f_q ∧ f_q ≤ 20) (h2 : (-2147483648) ≤ p1 ∧ p1 ≤ (-2)) : 0 ≤ p1 → p1 ≤ 9 → f_q = 20 → (-1 : Int) = -3 ∧ f_q = f_q := by omega
theorem vc_X11_walk_w_5 {f_q p1 : Int} (h0 : p1 < (-1)) (h1 : 0 ≤ f_q ∧ f_q ≤ 20) (h2 : (-2147483648) ≤ p1 ∧ p1 ≤ (-2)) : 0 ≤ p1 → p1 ≤ 9 → f_q < 20 → (-1 : Int) = f_q + 1 ∧ f_q = f_q + 1 := by omega
theorem vc_X11_walk_w_6 {f_q : Int} (h0 : 0 ≤ f_q ∧ f_q ≤ 20) : ¬ f_q = f_q + 1 := by omega
theorem vc_X11_walk_w_7 {p1 : Int} (h0 : (-1) ≤ p1) (h1 : (-2147483648) ≤ p1 ∧ p1 ≤ 2147483647) : (-1) ≤ p1 ∧ p1 ≤ 2147483647 := by omega
theorem vc_X11_walk_w_8 {p1 : Int} (h0 : p1 < 10) (h1 : (-1) ≤ p1) (h2 : (-1) ≤ p1 ∧ p1 ≤ 2147483647) : (-1) ≤ p1 ∧ p1 ≤ 9 := by omega
theorem vc_X11_walk_w_9 {p1 : Int} (h0 : ¬ p1 = (-1)) (h1 : (-1) ≤ p1) (h2 : p1 < 10) (h3 : (-1) ≤ p1 ∧ p1 ≤ 9) : 0 ≤ p1 ∧ p1 ≤ 9 := by omega
theorem vc_X11_walk_w_11 {f_q p1 : Int} (h0 : (-1) ≤ p1) (h1 : p1 < 10) (h2 : ¬ p1 = (-1)) (h3 : f_q < 20) (h4 : 0 ≤ f_q ∧ f_q ≤ 19) (h5 : 0 ≤ p1 ∧ p1 ≤ 9) : p1 < -1 ∨ 9 < p1 → (f_q + 1) = -1 ∧ (f_q + 1) = f_q := by omega
theorem vc_X11_walk_w_12 {f_q p1 : Int} (h0 : (-1) ≤ p1) (h1 : p1 < 10) (h2 : ¬ p1 = (-1)) (h3 : f_q < 20) (h4 : 0 ≤ f_q ∧ f_q ≤ 19) (h5 : 0 ≤ p1 ∧ p1 ≤ 9) : p1 = -1 → (f_q + 1) = 0 ∧ (f_q + 1) = 0 := by omega
theorem vc_X11_walk_w_13 {f_q p1 : Int} (h0 : (-1) ≤ p1) (h1 : p1 < 10) (h2 : ¬ p1 = (-1)) (h3 : f_q < 20) (h4 : 0 ≤ f_q ∧ f_q ≤ 19) (h5 : 0 ≤ p1 ∧ p1 ≤ 9) : 0 ≤ p1 → p1 ≤ 9 → f_q = 20 → (f_q + 1) = -3 ∧ (f_q + 1) = f_q := by omega
theorem vc_X11_walk_w_14 {f_q p1 : Int} (h0 : (-1) ≤ p1) (h1 : p1 < 10) (h2 : ¬ p1 = (-1)) (h3 : f_q < 20) (h4 : 0 ≤ f_q ∧ f_q ≤ 19) (h5 : 0 ≤ p1 ∧ p1 ≤ 9) : 0 ≤ p1 → p1 ≤ 9 → f_q < 20 → (f_q + 1) = f_q + 1 ∧ (f_q + 1) = f_q + 1 := by omega
theorem vc_X11_walk_w_15 {f_q : Int} (h0 : f_q < 20) (h1 : 0 ≤ f_q ∧ f_q ≤ 19) : f_q ≤ f_q := by omega
theorem vc_X11_walk_w_16 {p1 : Int} (h0 : (-1) ≤ p1) (h1 : p1 < 10) (h2 : ¬ p1 = (-1)) (h3 : 0 ≤ p1 ∧ p1 ≤ 9) : p1 = p1 := by omega
theorem vc_X11_walk_w_18 {f_q p1 : Int} (h0 : (-1) ≤ p1) (h1 : p1 < 10) (h2 : ¬ p1 = (-1)) (h3 : 20 ≤ f_q) (h4 : 20 ≤ f_q ∧ f_q ≤ 20) (h5 : 0 ≤ p1 ∧ p1 ≤ 9) : p1 < -1 ∨ 9 < p1 → (-3 : Int) = -1 ∧ f_q = f_q := by omega
theorem vc_X11_walk_w_19 {f_q p1 : Int} (h0 : (-1) ≤ p1) (h1 : p1 < 10) (h2 : ¬ p1 = (-1)) (h3 : 20 ≤ f_q) (h4 : 20 ≤ f_q ∧ f_q ≤ 20) (h5 : 0 ≤ p1 ∧ p1 ≤ 9) : p1 = -1 → (-3 : Int) = 0 ∧ f_q = 0 := by omega
theorem vc_X11_walk_w_20 {f_q p1 : Int} (h0 : (-1) ≤ p1) (h1 : p1 < 10) (h2 : ¬ p1 = (-1)) (h3 : 20 ≤ f_q) (h4 : 20 ≤ f_q ∧ f_q ≤ 20) (h5 : 0 ≤ p1 ∧ p1 ≤ 9) : 0 ≤ p1 → p1 ≤ 9 → f_q = 20 → (-3 : Int) = -3 ∧ f_q = f_q := by omega
theorem vc_X11_walk_w_21 {f_q p1 : Int} (h0 : (-1) ≤ p1) (h1 : p1 < 10) (h2 : ¬ p1 = (-1)) (h3 : 20 ≤ f_q) (h4 : 20 ≤ f_q ∧ f_q ≤ 20) (h5 : 0 ≤ p1 ∧ p1 ≤ 9) : 0 ≤ p1 → p1 ≤ 9 → f_q < 20 → (-3 : Int) = f_q + 1 ∧ f_q = f_q + 1 := by omega
theorem vc_X11_walk_w_22 {f_q : Int} (h0 : 20 ≤ f_q) (h1 : 20 ≤ f_q ∧ f_q ≤ 20) : ¬ f_q = f_q + 1 := by omega
theorem vc_X11_walk_w_23 {p1 : Int} (h0 : p1 = (-1)) (h1 : (-1) ≤ p1) (h2 : p1 < 10) (h3 : (-1) ≤ p1 ∧ p1 ≤ 9) : (-1) ≤ p1 ∧ p1 ≤ (-1) := by omega
theorem vc_X11_walk_w_24 {f_q p1 : Int} (h0 : (-1) ≤ p1) (h1 : p1 < 10) (h2 : p1 = (-1)) (h3 : 0 ≤ f_q ∧ f_q ≤ 20) (h4 : (-1) ≤ p1 ∧ p1 ≤ (-1)) : p1 < -1 ∨ 9 < p1 → (0 : Int) = -1 ∧ (0 : Int) = f_q := by omega
theorem vc_X11_walk_w_25 {p1 : Int} (h0 : (-1) ≤ p1) (h1 : p1 < 10) (h2 : p1 = (-1)) (h3 : (-1) ≤ p1 ∧ p1 ≤ (-1)) : p1 = -1 → (0 : Int) = 0 ∧ (0 : Int) = 0 := by omega
theorem vc_X11_walk_w_26 {f_q p1 : Int} (h0 : (-1) ≤ p1) (h1 : p1 < 10) (h2 : p1 = (-1)) (h3 : 0 ≤ f_q ∧ f_q ≤ 20) (h4 : (-1) ≤ p1 ∧ p1 ≤ (-1)) : 0 ≤ p1 → p1 ≤ 9 → f_q = 20 → (0 : Int) = -3 ∧ (0 : Int) = f_q := by omega
theorem vc_X11_walk_w_27 {f_q p1 : Int} (h0 : (-1) ≤ p1) (h1 : p1 < 10) (h2 : p1 = (-1)) (h3 : 0 ≤ f_q ∧ f_q ≤ 20) (h4 : (-1) ≤ p1 ∧ p1 ≤ (-1)) : 0 ≤ p1 → p1 ≤ 9 → f_q < 20 → (0 : Int) = f_q + 1 ∧ (0 : Int) = f_q + 1 := by omega
theorem vc_X11_walk_w_28 {f_q : Int} (h0 : 0 ≤ f_q ∧ f_q ≤ 20) : ¬ (0 : Int) = f_q + 1 := by omega
theorem vc_X11_walk_w_29 {p1 : Int} (h0 : 10 ≤ p1) (h1 : (-1) ≤ p1) (h2 : (-1) ≤ p1 ∧ p1 ≤ 2147483647) : 10 ≤ p1 ∧ p1 ≤ 2147483647 := by omega
theorem vc_X11_walk_w_30 {f_q p1 : Int} (h0 : (-1) ≤ p1) (h1 : 10 ≤ p1) (h2 : 0 ≤ f_q ∧ f_q ≤ 20) (h3 : 10 ≤ p1 ∧ p1 ≤ 2147483647) : p1 < -1 ∨ 9 < p1 → (-1 : Int) = -1 ∧ f_q = f_q := by omega
theorem vc_X11_walk_w_31 {f_q p1 : Int} (h0 : (-1) ≤ p1) (h1 : 10 ≤ p1) (h2 : 0 ≤ f_q ∧ f_q ≤ 20) (h3 : 10 ≤ p1 ∧ p1 ≤ 2147483647) : p1 = -1 → (-1 : Int) = 0 ∧ f_q = 0 := by omega
theorem vc_X11_walk_w_32 {f_q p1 : Int} (h0 : (-1) ≤ p1) (h1 : 10 ≤ p1) (h2 : 0 ≤ f_q ∧ f_q ≤ 20) (h3 : 10 ≤ p1 ∧ p1 ≤ 2147483647) : 0 ≤ p1 → p1 ≤ 9 → f_q = 20 → (-1 : Int) = -3 ∧ f_q = f_q := by omega
theorem vc_X11_walk_w_33 {f_q p1 : Int} (h0 : (-1) ≤ p1) (h1 : 10 ≤ p1) (h2 : 0 ≤ f_q ∧ f_q ≤ 20) (h3 : 10 ≤ p1 ∧ p1 ≤ 2147483647) : 0 ≤ p1 → p1 ≤ 9 → f_q < 20 → (-1 : Int) = f_q + 1 ∧ f_q = f_q + 1 := by omega
set_option maxRecDepth 4000 in
set_option maxHeartbeats 4000000 in
theorem c_X11_walk_w {l : Launch} {D : va_G} {c : Nat → ClassId} {H0 : Heap} {sa : Nat × Nat × (Nat → Int32)} {w : mW} {μ : mM} (hw : mWF w) (hT : mT w μ) {p1 : Int} (hp1 : (-2147483648) ≤ p1 ∧ p1 ≤ 2147483647) {f_q : Int} (q_f_q : μ 0 11 = f_q) : sC (gG l D c H0 sa) mX11_walk 1 0 0 [.ref 0, iv p1] (mk w μ) (qI w [11, 2999] μ (fun z μ1 => ∃ o_q : Int, μ1 0 11 = o_q ∧ ((-2147483648) ≤ z ∧ z ≤ 2147483647) ∧ (p1 < -1 ∨ 9 < p1 → z = -1 ∧ o_q = f_q) ∧ (p1 = -1 → z = 0 ∧ o_q = 0) ∧ (0 ≤ p1 → p1 ≤ 9 → f_q = 20 → z = -3 ∧ o_q = f_q) ∧ (0 ≤ p1 → p1 ≤ 9 → f_q < 20 → z = f_q + 1 ∧ o_q = f_q + 1) ∧ (wkT μ μ1 2 f_q o_q p1) ∧ True)) := by
  refine sC.of rfl (by decide) (le_t rfl) ?_
  have ht_f_q : (0 ≤ f_q ∧ f_q ≤ 20) := by rw [← q_f_q]; exact hT 0 0 (A_0 hw) 11
  refine mr_lvE (lv' := [(0, .ref 0), (1, iv p1)]) rfl ?_
  refine mr_iload_n (pc := 0) (z := p1) dX11_walk_0 rfl rfl ?_
  refine mr_iconst (pc := 1) (z := (-1)) dX11_walk_1 ?_
  refine mr_icmp_lt (pc := 2) (tgt := 11) dX11_walk_2 (by decide) hp1 (r32 (rR (x := (-1))) rfl) (fun h52 => ?_) (fun h52 => ?_)
  · have h53 : (-2147483648) ≤ p1 ∧ p1 ≤ (-2) := (vc_X11_walk_w_1 h52 hp1)
    refine mr_iconst (pc := 11) (z := (-1)) dX11_walk_11 ?_
    exact mr_iret dX11_walk_12 rfl (le_t rfl) (le_t rfl) hT mF.refl ⟨f_q, q_f_q, (rW (c := (-2147483648)) (d := 2147483647) (rR (x := (-1))) rfl), (vc_X11_walk_w_2 h52 ht_f_q h53), (vc_X11_walk_w_3 h52 ht_f_q h53), (vc_X11_walk_w_4 h52 ht_f_q h53), (vc_X11_walk_w_5 h52 ht_f_q h53), ⟨tabS.refl, fun h => absurd h (vc_X11_walk_w_6 ht_f_q)⟩, trivial⟩
  have h54 : (-1) ≤ p1 ∧ p1 ≤ 2147483647 := (vc_X11_walk_w_7 h52 hp1)
  refine mr_iload_n (pc := 5) (z := p1) dX11_walk_5 rfl rfl ?_
  refine mr_bipush (pc := 6) (z := 10) dX11_walk_6 (by decide) ?_
  refine mr_icmp_lt (pc := 8) (tgt := 13) dX11_walk_8 (by decide) (r32 h54 rfl) (r32 (rR (x := 10)) rfl) (fun h55 => ?_) (fun h55 => ?_)
  · have h56 : (-1) ≤ p1 ∧ p1 ≤ 9 := (vc_X11_walk_w_8 h55 h52 h54)
    refine mr_iload_n (pc := 13) (z := p1) dX11_walk_13 rfl rfl ?_
    refine mr_iconst (pc := 14) (z := (-1)) dX11_walk_14 ?_
    refine mr_icmp_ne (pc := 15) (tgt := 25) dX11_walk_15 (by decide) (r32 h56 rfl) (r32 (rR (x := (-1))) rfl) (fun h57 => ?_) (fun h57 => ?_)
    · have h58 : 0 ≤ p1 ∧ p1 ≤ 9 := (vc_X11_walk_w_9 h57 h52 h55 h56)
      refine sv_aload_n (pc := 25) dX11_walk_25 rfl rfl ?_
      refine gk_X11_11 (pc := 26) dX11_walk_26 wF_X11_169 (A_0 hw) q_f_q ?_
      refine mr_bipush (pc := 29) (z := 20) dX11_walk_29 (by decide) ?_
      refine mr_icmp_lt (pc := 31) (tgt := 37) dX11_walk_31 (by decide) (r32 ht_f_q rfl) (r32 (rR (x := 20)) rfl) (fun h59 => ?_) (fun h59 => ?_)
      · have h60 : 0 ≤ f_q ∧ f_q ≤ 19 := (vc_X12_feed_4 h59 ht_f_q)
        refine sv_aload_n (pc := 37) dX11_walk_37 rfl rfl ?_
        refine gf_X11_1 (pc := 38) dX11_walk_38 wF_X11_13 (A_0 hw) hT ?_
        refine sv_aload_n (pc := 41) dX11_walk_41 rfl rfl ?_
        refine gk_X11_11 (pc := 42) dX11_walk_42 wF_X11_169 (A_0 hw) q_f_q ?_
        refine mr_iload_n (pc := 45) (z := p1) dX11_walk_45 rfl rfl ?_
        refine ss_2 (pc := 46) dX11_walk_46 (A_2 hw) hT (rIx (n := 20) h60 rfl) h58 fun μ61 u62 T63 => ?_
        refine sv_aload_n (pc := 47) dX11_walk_47 rfl rfl ?_
        refine sv_dup (pc := 48) dX11_walk_48 rfl ?_
        refine gk_X11_11 (pc := 49) dX11_walk_49 wF_X11_169 (A_0 hw) (u62.f (Or.inl (mAt.ne (A_2 hw) (A_0 hw) rfl)) q_f_q) ?_
        refine mr_iconst (pc := 52) (z := 1) dX11_walk_52 ?_
        refine mr_iadd (pc := 53) (x := f_q) (y := 1) dX11_walk_53 ?_
        refine pf_X11_11 (pc := 54) dX11_walk_54 wF_X11_169 (A_0 hw) T63 (rW (c := 0) (d := 20) (rAdd (e := 1) (f := 20) h60 (rR (x := 1)) rfl) rfl) fun μ64 u65 T66 => ?_
        refine sv_aload_n (pc := 57) dX11_walk_57 rfl rfl ?_
        refine gk_X11_11 (pc := 58) dX11_walk_58 wF_X11_169 (A_0 hw) u65.1 ?_
        exact mr_iret dX11_walk_61 rfl (le_t rfl) (le_t rfl) T66 (mF.up (mF.up mF.refl (A_2 hw) u62 rfl) (A_0 hw) u65 rfl) ⟨(f_q + 1), u65.1, (rW (c := (-2147483648)) (d := 2147483647) (rAdd (e := 1) (f := 20) h60 (rR (x := 1)) rfl) rfl), (vc_X11_walk_w_11 h52 h55 h57 h59 h60 h58), (vc_X11_walk_w_12 h52 h55 h57 h59 h60 h58), (vc_X11_walk_w_13 h52 h55 h57 h59 h60 h58), (vc_X11_walk_w_14 h52 h55 h57 h59 h60 h58), ⟨(tabS.oth (tabS.up tabS.refl u62 (vc_X11_walk_w_15 h59 h60)) u65 rfl), fun _ => (u65.f (Or.inl (mAt.ne (A_0 hw) (A_2 hw) rfl)) u62.1).trans (vc_X11_walk_w_16 h52 h55 h57 h58)⟩, trivial⟩
      have h67 : 20 ≤ f_q ∧ f_q ≤ 20 := (vc_X12_feed_3 h59 ht_f_q)
      refine mr_bipush (pc := 34) (z := (-3)) dX11_walk_34 (by decide) ?_
      exact mr_iret dX11_walk_36 rfl (le_t rfl) (le_t rfl) hT mF.refl ⟨f_q, q_f_q, (rW (c := (-2147483648)) (d := 2147483647) (rR (x := (-3))) rfl), (vc_X11_walk_w_18 h52 h55 h57 h59 h67 h58), (vc_X11_walk_w_19 h52 h55 h57 h59 h67 h58), (vc_X11_walk_w_20 h52 h55 h57 h59 h67 h58), (vc_X11_walk_w_21 h52 h55 h57 h59 h67 h58), ⟨tabS.refl, fun h => absurd h (vc_X11_walk_w_22 h59 h67)⟩, trivial⟩
    have h68 : (-1) ≤ p1 ∧ p1 ≤ (-1) := (vc_X11_walk_w_23 h57 h52 h55 h56)
    refine sv_aload_n (pc := 18) dX11_walk_18 rfl rfl ?_
    refine mr_iconst (pc := 19) (z := 0) dX11_walk_19 ?_
    refine pf_X11_11 (pc := 20) dX11_walk_20 wF_X11_169 (A_0 hw) hT (rW (c := 0) (d := 20) (rR (x := 0)) rfl) fun μ69 u70 T71 => ?_
    refine mr_iconst (pc := 23) (z := 0) dX11_walk_23 ?_
    exact mr_iret dX11_walk_24 rfl (le_t rfl) (le_t rfl) T71 (mF.up mF.refl (A_0 hw) u70 rfl) ⟨0, u70.1, (rW (c := (-2147483648)) (d := 2147483647) (rR (x := 0)) rfl), (vc_X11_walk_w_24 h52 h55 h57 ht_f_q h68), (vc_X11_walk_w_25 h52 h55 h57 h68), (vc_X11_walk_w_26 h52 h55 h57 ht_f_q h68), (vc_X11_walk_w_27 h52 h55 h57 ht_f_q h68), ⟨(tabS.oth tabS.refl u70 rfl), fun h => absurd h (vc_X11_walk_w_28 ht_f_q)⟩, trivial⟩
  have h72 : 10 ≤ p1 ∧ p1 ≤ 2147483647 := (vc_X11_walk_w_29 h55 h52 h54)
  refine mr_iconst (pc := 11) (z := (-1)) dX11_walk_11 ?_
  exact mr_iret dX11_walk_12 rfl (le_t rfl) (le_t rfl) hT mF.refl ⟨f_q, q_f_q, (rW (c := (-2147483648)) (d := 2147483647) (rR (x := (-1))) rfl), (vc_X11_walk_w_30 h52 h55 ht_f_q h72), (vc_X11_walk_w_31 h52 h55 ht_f_q h72), (vc_X11_walk_w_32 h52 h55 ht_f_q h72), (vc_X11_walk_w_33 h52 h55 ht_f_q h72), ⟨tabS.refl, fun h => absurd h (vc_X11_walk_w_6 ht_f_q)⟩, trivial⟩
theorem vc_X12_walk_w_1 {p1 z74 : Int} (h0 : ¬ z74 = 0) (h1 : (z74 = 1 → ((-1) : Int) ≤ p1 ∧ p1 ≤ (9 : Int))) (h2 : (z74 = 0 → p1 < ((-1) : Int) ∨ (9 : Int) < p1)) (h3 : (-2147483648) ≤ p1 ∧ p1 ≤ 2147483647) (h4 : 0 ≤ z74 ∧ z74 ≤ 1) : 1 ≤ z74 ∧ z74 ≤ 1 := by omega
theorem vc_X12_walk_w_2 {p1 z74 : Int} (h0 : (z74 = 1 → ((-1) : Int) ≤ p1 ∧ p1 ≤ (9 : Int))) (h1 : (z74 = 0 → p1 < ((-1) : Int) ∨ (9 : Int) < p1)) (h2 : ¬ z74 = 0) (h3 : (-2147483648) ≤ p1 ∧ p1 ≤ 2147483647) (h4 : 1 ≤ z74 ∧ z74 ≤ 1) : z74 = 1 := by omega
theorem vc_X12_walk_w_3 {p1 z74 : Int} (h0 : ((-1) : Int) ≤ p1 ∧ p1 ≤ (9 : Int)) (h1 : (z74 = 1 → ((-1) : Int) ≤ p1 ∧ p1 ≤ (9 : Int))) (h2 : (z74 = 0 → p1 < ((-1) : Int) ∨ (9 : Int) < p1)) (h3 : (-2147483648) ≤ p1 ∧ p1 ≤ 2147483647) (h4 : 1 ≤ z74 ∧ z74 ≤ 1) : (-1) ≤ p1 ∧ p1 ≤ 9 := by omega
theorem vc_X12_walk_w_4 {p1 z74 : Int} (h0 : ¬ p1 = (-1)) (h1 : (z74 = 1 → ((-1) : Int) ≤ p1 ∧ p1 ≤ (9 : Int))) (h2 : (z74 = 0 → p1 < ((-1) : Int) ∨ (9 : Int) < p1)) (h3 : ((-1) : Int) ≤ p1 ∧ p1 ≤ (9 : Int)) (h4 : (-1) ≤ p1 ∧ p1 ≤ 9) (h5 : 1 ≤ z74 ∧ z74 ≤ 1) : 0 ≤ p1 ∧ p1 ≤ 9 := by omega
theorem vc_X12_walk_w_6 {f_q p1 z74 : Int} (h0 : (z74 = 1 → ((-1) : Int) ≤ p1 ∧ p1 ≤ (9 : Int))) (h1 : (z74 = 0 → p1 < ((-1) : Int) ∨ (9 : Int) < p1)) (h2 : ((-1) : Int) ≤ p1 ∧ p1 ≤ (9 : Int)) (h3 : ¬ p1 = (-1)) (h4 : ¬ f_q = 20) (h5 : ¬ z74 = 0) (h6 : 0 ≤ f_q ∧ f_q ≤ 19) (h7 : 0 ≤ p1 ∧ p1 ≤ 9) (h8 : 1 ≤ z74 ∧ z74 ≤ 1) : p1 < -1 ∨ 9 < p1 → (f_q + 1) = -1 ∧ (f_q + 1) = f_q := by omega
theorem vc_X12_walk_w_7 {f_q p1 z74 : Int} (h0 : (z74 = 1 → ((-1) : Int) ≤ p1 ∧ p1 ≤ (9 : Int))) (h1 : (z74 = 0 → p1 < ((-1) : Int) ∨ (9 : Int) < p1)) (h2 : ((-1) : Int) ≤ p1 ∧ p1 ≤ (9 : Int)) (h3 : ¬ p1 = (-1)) (h4 : ¬ f_q = 20) (h5 : ¬ z74 = 0) (h6 : 0 ≤ f_q ∧ f_q ≤ 19) (h7 : 0 ≤ p1 ∧ p1 ≤ 9) (h8 : 1 ≤ z74 ∧ z74 ≤ 1) : p1 = -1 → (f_q + 1) = 0 ∧ (f_q + 1) = 0 := by omega
theorem vc_X12_walk_w_8 {f_q p1 z74 : Int} (h0 : (z74 = 1 → ((-1) : Int) ≤ p1 ∧ p1 ≤ (9 : Int))) (h1 : (z74 = 0 → p1 < ((-1) : Int) ∨ (9 : Int) < p1)) (h2 : ((-1) : Int) ≤ p1 ∧ p1 ≤ (9 : Int)) (h3 : ¬ p1 = (-1)) (h4 : ¬ f_q = 20) (h5 : ¬ z74 = 0) (h6 : 0 ≤ f_q ∧ f_q ≤ 19) (h7 : 0 ≤ p1 ∧ p1 ≤ 9) (h8 : 1 ≤ z74 ∧ z74 ≤ 1) : 0 ≤ p1 → p1 ≤ 9 → f_q = 20 → (f_q + 1) = -3 ∧ (f_q + 1) = f_q := by omega
theorem vc_X12_walk_w_9 {f_q p1 z74 : Int} (h0 : (z74 = 1 → ((-1) : Int) ≤ p1 ∧ p1 ≤ (9 : Int))) (h1 : (z74 = 0 → p1 < ((-1) : Int) ∨ (9 : Int) < p1)) (h2 : ((-1) : Int) ≤ p1 ∧ p1 ≤ (9 : Int)) (h3 : ¬ p1 = (-1)) (h4 : ¬ f_q = 20) (h5 : ¬ z74 = 0) (h6 : 0 ≤ f_q ∧ f_q ≤ 19) (h7 : 0 ≤ p1 ∧ p1 ≤ 9) (h8 : 1 ≤ z74 ∧ z74 ≤ 1) : 0 ≤ p1 → p1 ≤ 9 → f_q < 20 → (f_q + 1) = f_q + 1 ∧ (f_q + 1) = f_q + 1 := by omega
theorem vc_X12_walk_w_10 {f_q : Int} (h0 : ¬ f_q = 20) (h1 : 0 ≤ f_q ∧ f_q ≤ 19) : f_q ≤ f_q := by omega
theorem vc_X12_walk_w_11 {p1 z74 : Int} (h0 : (z74 = 1 → ((-1) : Int) ≤ p1 ∧ p1 ≤ (9 : Int))) (h1 : (z74 = 0 → p1 < ((-1) : Int) ∨ (9 : Int) < p1)) (h2 : ((-1) : Int) ≤ p1 ∧ p1 ≤ (9 : Int)) (h3 : ¬ p1 = (-1)) (h4 : ¬ z74 = 0) (h5 : 0 ≤ p1 ∧ p1 ≤ 9) (h6 : 1 ≤ z74 ∧ z74 ≤ 1) : p1 = p1 := by omega
theorem vc_X12_walk_w_13 {f_q p1 z74 : Int} (h0 : (z74 = 1 → ((-1) : Int) ≤ p1 ∧ p1 ≤ (9 : Int))) (h1 : (z74 = 0 → p1 < ((-1) : Int) ∨ (9 : Int) < p1)) (h2 : ((-1) : Int) ≤ p1 ∧ p1 ≤ (9 : Int)) (h3 : ¬ p1 = (-1)) (h4 : f_q = 20) (h5 : ¬ z74 = 0) (h6 : 20 ≤ f_q ∧ f_q ≤ 20) (h7 : 0 ≤ p1 ∧ p1 ≤ 9) (h8 : 1 ≤ z74 ∧ z74 ≤ 1) : p1 < -1 ∨ 9 < p1 → (-3 : Int) = -1 ∧ f_q = f_q := by omega
theorem vc_X12_walk_w_14 {f_q p1 z74 : Int} (h0 : (z74 = 1 → ((-1) : Int) ≤ p1 ∧ p1 ≤ (9 : Int))) (h1 : (z74 = 0 → p1 < ((-1) : Int) ∨ (9 : Int) < p1)) (h2 : ((-1) : Int) ≤ p1 ∧ p1 ≤ (9 : Int)) (h3 : ¬ p1 = (-1)) (h4 : f_q = 20) (h5 : ¬ z74 = 0) (h6 : 20 ≤ f_q ∧ f_q ≤ 20) (h7 : 0 ≤ p1 ∧ p1 ≤ 9) (h8 : 1 ≤ z74 ∧ z74 ≤ 1) : p1 = -1 → (-3 : Int) = 0 ∧ f_q = 0 := by omega
theorem vc_X12_walk_w_15 {f_q p1 z74 : Int} (h0 : (z74 = 1 → ((-1) : Int) ≤ p1 ∧ p1 ≤ (9 : Int))) (h1 : (z74 = 0 → p1 < ((-1) : Int) ∨ (9 : Int) < p1)) (h2 : ((-1) : Int) ≤ p1 ∧ p1 ≤ (9 : Int)) (h3 : ¬ p1 = (-1)) (h4 : f_q = 20) (h5 : ¬ z74 = 0) (h6 : 20 ≤ f_q ∧ f_q ≤ 20) (h7 : 0 ≤ p1 ∧ p1 ≤ 9) (h8 : 1 ≤ z74 ∧ z74 ≤ 1) : 0 ≤ p1 → p1 ≤ 9 → f_q = 20 → (-3 : Int) = -3 ∧ f_q = f_q := by omega
theorem vc_X12_walk_w_16 {f_q p1 z74 : Int} (h0 : (z74 = 1 → ((-1) : Int) ≤ p1 ∧ p1 ≤ (9 : Int))) (h1 : (z74 = 0 → p1 < ((-1) : Int) ∨ (9 : Int) < p1)) (h2 : ((-1) : Int) ≤ p1 ∧ p1 ≤ (9 : Int)) (h3 : ¬ p1 = (-1)) (h4 : f_q = 20) (h5 : ¬ z74 = 0) (h6 : 20 ≤ f_q ∧ f_q ≤ 20) (h7 : 0 ≤ p1 ∧ p1 ≤ 9) (h8 : 1 ≤ z74 ∧ z74 ≤ 1) : 0 ≤ p1 → p1 ≤ 9 → f_q < 20 → (-3 : Int) = f_q + 1 ∧ f_q = f_q + 1 := by omega
theorem vc_X12_walk_w_17 {f_q : Int} (h0 : f_q = 20) (h1 : 20 ≤ f_q ∧ f_q ≤ 20) : ¬ f_q = f_q + 1 := by omega
theorem vc_X12_walk_w_18 {p1 z74 : Int} (h0 : p1 = (-1)) (h1 : (z74 = 1 → ((-1) : Int) ≤ p1 ∧ p1 ≤ (9 : Int))) (h2 : (z74 = 0 → p1 < ((-1) : Int) ∨ (9 : Int) < p1)) (h3 : ((-1) : Int) ≤ p1 ∧ p1 ≤ (9 : Int)) (h4 : (-1) ≤ p1 ∧ p1 ≤ 9) (h5 : 1 ≤ z74 ∧ z74 ≤ 1) : (-1) ≤ p1 ∧ p1 ≤ (-1) := by omega
theorem vc_X12_walk_w_19 {f_q p1 z74 : Int} (h0 : (z74 = 1 → ((-1) : Int) ≤ p1 ∧ p1 ≤ (9 : Int))) (h1 : (z74 = 0 → p1 < ((-1) : Int) ∨ (9 : Int) < p1)) (h2 : ((-1) : Int) ≤ p1 ∧ p1 ≤ (9 : Int)) (h3 : p1 = (-1)) (h4 : ¬ z74 = 0) (h5 : 0 ≤ f_q ∧ f_q ≤ 20) (h6 : (-1) ≤ p1 ∧ p1 ≤ (-1)) (h7 : 1 ≤ z74 ∧ z74 ≤ 1) : p1 < -1 ∨ 9 < p1 → (0 : Int) = -1 ∧ (0 : Int) = f_q := by omega
theorem vc_X12_walk_w_20 {p1 z74 : Int} (h0 : (z74 = 1 → ((-1) : Int) ≤ p1 ∧ p1 ≤ (9 : Int))) (h1 : (z74 = 0 → p1 < ((-1) : Int) ∨ (9 : Int) < p1)) (h2 : ((-1) : Int) ≤ p1 ∧ p1 ≤ (9 : Int)) (h3 : p1 = (-1)) (h4 : ¬ z74 = 0) (h5 : (-1) ≤ p1 ∧ p1 ≤ (-1)) (h6 : 1 ≤ z74 ∧ z74 ≤ 1) : p1 = -1 → (0 : Int) = 0 ∧ (0 : Int) = 0 := by omega
theorem vc_X12_walk_w_21 {f_q p1 z74 : Int} (h0 : (z74 = 1 → ((-1) : Int) ≤ p1 ∧ p1 ≤ (9 : Int))) (h1 : (z74 = 0 → p1 < ((-1) : Int) ∨ (9 : Int) < p1)) (h2 : ((-1) : Int) ≤ p1 ∧ p1 ≤ (9 : Int)) (h3 : p1 = (-1)) (h4 : ¬ z74 = 0) (h5 : 0 ≤ f_q ∧ f_q ≤ 20) (h6 : (-1) ≤ p1 ∧ p1 ≤ (-1)) (h7 : 1 ≤ z74 ∧ z74 ≤ 1) : 0 ≤ p1 → p1 ≤ 9 → f_q = 20 → (0 : Int) = -3 ∧ (0 : Int) = f_q := by omega
theorem vc_X12_walk_w_22 {f_q p1 z74 : Int} (h0 : (z74 = 1 → ((-1) : Int) ≤ p1 ∧ p1 ≤ (9 : Int))) (h1 : (z74 = 0 → p1 < ((-1) : Int) ∨ (9 : Int) < p1)) (h2 : ((-1) : Int) ≤ p1 ∧ p1 ≤ (9 : Int)) (h3 : p1 = (-1)) (h4 : ¬ z74 = 0) (h5 : 0 ≤ f_q ∧ f_q ≤ 20) (h6 : (-1) ≤ p1 ∧ p1 ≤ (-1)) (h7 : 1 ≤ z74 ∧ z74 ≤ 1) : 0 ≤ p1 → p1 ≤ 9 → f_q < 20 → (0 : Int) = f_q + 1 ∧ (0 : Int) = f_q + 1 := by omega
theorem vc_X12_walk_w_24 {p1 z74 : Int} (h0 : z74 = 0) (h1 : (z74 = 1 → ((-1) : Int) ≤ p1 ∧ p1 ≤ (9 : Int))) (h2 : (z74 = 0 → p1 < ((-1) : Int) ∨ (9 : Int) < p1)) (h3 : (-2147483648) ≤ p1 ∧ p1 ≤ 2147483647) (h4 : 0 ≤ z74 ∧ z74 ≤ 1) : 0 ≤ z74 ∧ z74 ≤ 0 := by omega
theorem vc_X12_walk_w_25 {p1 z74 : Int} (h0 : (z74 = 1 → ((-1) : Int) ≤ p1 ∧ p1 ≤ (9 : Int))) (h1 : (z74 = 0 → p1 < ((-1) : Int) ∨ (9 : Int) < p1)) (h2 : z74 = 0) (h3 : (-2147483648) ≤ p1 ∧ p1 ≤ 2147483647) (h4 : 0 ≤ z74 ∧ z74 ≤ 0) : z74 = 0 := by omega
theorem vc_X12_walk_w_26 {f_q p1 z74 : Int} (h0 : (z74 = 1 → ((-1) : Int) ≤ p1 ∧ p1 ≤ (9 : Int))) (h1 : (z74 = 0 → p1 < ((-1) : Int) ∨ (9 : Int) < p1)) (h2 : p1 < ((-1) : Int) ∨ (9 : Int) < p1) (h3 : z74 = 0) (h4 : 0 ≤ f_q ∧ f_q ≤ 20) (h5 : (-2147483648) ≤ p1 ∧ p1 ≤ 2147483647) (h6 : 0 ≤ z74 ∧ z74 ≤ 0) : p1 < -1 ∨ 9 < p1 → (-1 : Int) = -1 ∧ f_q = f_q := by omega
theorem vc_X12_walk_w_27 {f_q p1 z74 : Int} (h0 : (z74 = 1 → ((-1) : Int) ≤ p1 ∧ p1 ≤ (9 : Int))) (h1 : (z74 = 0 → p1 < ((-1) : Int) ∨ (9 : Int) < p1)) (h2 : p1 < ((-1) : Int) ∨ (9 : Int) < p1) (h3 : z74 = 0) (h4 : 0 ≤ f_q ∧ f_q ≤ 20) (h5 : (-2147483648) ≤ p1 ∧ p1 ≤ 2147483647) (h6 : 0 ≤ z74 ∧ z74 ≤ 0) : p1 = -1 → (-1 : Int) = 0 ∧ f_q = 0 := by omega
theorem vc_X12_walk_w_28 {f_q p1 z74 : Int} (h0 : (z74 = 1 → ((-1) : Int) ≤ p1 ∧ p1 ≤ (9 : Int))) (h1 : (z74 = 0 → p1 < ((-1) : Int) ∨ (9 : Int) < p1)) (h2 : p1 < ((-1) : Int) ∨ (9 : Int) < p1) (h3 : z74 = 0) (h4 : 0 ≤ f_q ∧ f_q ≤ 20) (h5 : (-2147483648) ≤ p1 ∧ p1 ≤ 2147483647) (h6 : 0 ≤ z74 ∧ z74 ≤ 0) : 0 ≤ p1 → p1 ≤ 9 → f_q = 20 → (-1 : Int) = -3 ∧ f_q = f_q := by omega
theorem vc_X12_walk_w_29 {f_q p1 z74 : Int} (h0 : (z74 = 1 → ((-1) : Int) ≤ p1 ∧ p1 ≤ (9 : Int))) (h1 : (z74 = 0 → p1 < ((-1) : Int) ∨ (9 : Int) < p1)) (h2 : p1 < ((-1) : Int) ∨ (9 : Int) < p1) (h3 : z74 = 0) (h4 : 0 ≤ f_q ∧ f_q ≤ 20) (h5 : (-2147483648) ≤ p1 ∧ p1 ≤ 2147483647) (h6 : 0 ≤ z74 ∧ z74 ≤ 0) : 0 ≤ p1 → p1 ≤ 9 → f_q < 20 → (-1 : Int) = f_q + 1 ∧ f_q = f_q + 1 := by omega
set_option maxRecDepth 4000 in
set_option maxHeartbeats 4000000 in
theorem c_X12_walk_w {l : Launch} {D : va_G} {c : Nat → ClassId} {H0 : Heap} {sa : Nat × Nat × (Nat → Int32)} {w : mW} {μ : mM} (hw : mWF w) (hT : mT w μ) {p1 : Int} (hp1 : (-2147483648) ≤ p1 ∧ p1 ≤ 2147483647) {f_q : Int} (q_f_q : μ 106 15 = f_q) : sC (gG l D c H0 sa) mX12_walk 2 0 0 [.ref 106, iv p1] (mk w μ) (qI w [106015, 118999] μ (fun z μ1 => ∃ o_q : Int, μ1 106 15 = o_q ∧ ((-2147483648) ≤ z ∧ z ≤ 2147483647) ∧ (p1 < -1 ∨ 9 < p1 → z = -1 ∧ o_q = f_q) ∧ (p1 = -1 → z = 0 ∧ o_q = 0) ∧ (0 ≤ p1 → p1 ≤ 9 → f_q = 20 → z = -3 ∧ o_q = f_q) ∧ (0 ≤ p1 → p1 ≤ 9 → f_q < 20 → z = f_q + 1 ∧ o_q = f_q + 1) ∧ (wkT μ μ1 118 f_q o_q p1) ∧ True)) := by
  refine sC.of rfl (by decide) (le_t rfl) ?_
  have ht_f_q : (0 ≤ f_q ∧ f_q ≤ 20) := by rw [← q_f_q]; exact hT 106 106 (A_106 hw) 15
  refine mr_lvE (lv' := [(0, .ref 106), (1, iv p1)]) rfl ?_
  refine mr_iload_n (pc := 0) (z := p1) dX12_walk_0 rfl rfl ?_
  refine mr_iconst (pc := 1) (z := (-1)) dX12_walk_1 ?_
  refine mr_bipush (pc := 2) (z := 9) dX12_walk_2 (by decide) ?_
  refine mr_cSP (pc := 4) (c_X12_in hw hT hp1 (rW (c := (-2147483648)) (d := 2147483647) (rR (x := (-1))) rfl) (rW (c := (-2147483648)) (d := 2147483647) (rR (x := 9)) rfl)) (gOk _ _ _ _ _) dX12_walk_4 (tX12_in _ _ _ _ _) wS_X12_in wM_X12_18 ⟨le_t rfl, le_t rfl⟩ ⟨le_t rfl, le_t rfl⟩ rfl (le_t rfl) fun z74 h73 => ?_
  refine mr_if_ne (pc := 7) (tgt := 12) dX12_walk_7 (by decide) (r32 h73.1 rfl) (fun h75 => ?_) (fun h75 => ?_)
  · have h76 : 1 ≤ z74 ∧ z74 ≤ 1 := (vc_X12_walk_w_1 h75 h73.2.1 h73.2.2.1 hp1 h73.1)
    have h77 : ((-1) : Int) ≤ p1 ∧ p1 ≤ (9 : Int) := (h73.2.1 (vc_X12_walk_w_2 h73.2.1 h73.2.2.1 h75 hp1 h76))
    have h78 : (-1) ≤ p1 ∧ p1 ≤ 9 := (vc_X12_walk_w_3 h77 h73.2.1 h73.2.2.1 hp1 h76)
    refine mr_iload_n (pc := 12) (z := p1) dX12_walk_12 rfl rfl ?_
    refine mr_iconst (pc := 13) (z := (-1)) dX12_walk_13 ?_
    refine mr_icmp_ne (pc := 14) (tgt := 24) dX12_walk_14 (by decide) (r32 h78 rfl) (r32 (rR (x := (-1))) rfl) (fun h79 => ?_) (fun h79 => ?_)
    · have h80 : 0 ≤ p1 ∧ p1 ≤ 9 := (vc_X12_walk_w_4 h79 h73.2.1 h73.2.2.1 h77 h78 h76)
      refine sv_aload_n (pc := 24) dX12_walk_24 rfl rfl ?_
      refine gk_X12_15 (pc := 25) dX12_walk_25 wF_X12_79 (A_106 hw) q_f_q ?_
      refine mr_bipush (pc := 28) (z := 20) dX12_walk_28 (by decide) ?_
      refine mr_icmp_ne (pc := 30) (tgt := 36) dX12_walk_30 (by decide) (r32 ht_f_q rfl) (r32 (rR (x := 20)) rfl) (fun h81 => ?_) (fun h81 => ?_)
      · have h82 : 0 ≤ f_q ∧ f_q ≤ 19 := (vc_X12_front_2 h81 ht_f_q)
        refine sv_aload_n (pc := 36) dX12_walk_36 rfl rfl ?_
        refine gf_X12_16 (pc := 37) dX12_walk_37 wF_X12_82 (A_106 hw) hT ?_
        refine sv_aload_n (pc := 40) dX12_walk_40 rfl rfl ?_
        refine gk_X12_15 (pc := 41) dX12_walk_41 wF_X12_79 (A_106 hw) q_f_q ?_
        refine mr_iload_n (pc := 44) (z := p1) dX12_walk_44 rfl rfl ?_
        refine ss_118 (pc := 45) dX12_walk_45 (A_118 hw) hT (rIx (n := 20) h82 rfl) h80 fun μ83 u84 T85 => ?_
        refine sv_aload_n (pc := 46) dX12_walk_46 rfl rfl ?_
        refine sv_dup (pc := 47) dX12_walk_47 rfl ?_
        refine gk_X12_15 (pc := 48) dX12_walk_48 wF_X12_79 (A_106 hw) (u84.f (Or.inl (mAt.ne (A_118 hw) (A_106 hw) rfl)) q_f_q) ?_
        refine mr_iconst (pc := 51) (z := 1) dX12_walk_51 ?_
        refine mr_iadd (pc := 52) (x := f_q) (y := 1) dX12_walk_52 ?_
        refine pf_X12_15 (pc := 53) dX12_walk_53 wF_X12_79 (A_106 hw) T85 (rW (c := 0) (d := 20) (rAdd (e := 1) (f := 20) h82 (rR (x := 1)) rfl) rfl) fun μ86 u87 T88 => ?_
        refine sv_aload_n (pc := 56) dX12_walk_56 rfl rfl ?_
        refine gk_X12_15 (pc := 57) dX12_walk_57 wF_X12_79 (A_106 hw) u87.1 ?_
        exact mr_iret dX12_walk_60 rfl (le_t rfl) (le_t rfl) T88 (mF.up (mF.up mF.refl (A_118 hw) u84 rfl) (A_106 hw) u87 rfl) ⟨(f_q + 1), u87.1, (rW (c := (-2147483648)) (d := 2147483647) (rAdd (e := 1) (f := 20) h82 (rR (x := 1)) rfl) rfl), (vc_X12_walk_w_6 h73.2.1 h73.2.2.1 h77 h79 h81 h75 h82 h80 h76), (vc_X12_walk_w_7 h73.2.1 h73.2.2.1 h77 h79 h81 h75 h82 h80 h76), (vc_X12_walk_w_8 h73.2.1 h73.2.2.1 h77 h79 h81 h75 h82 h80 h76), (vc_X12_walk_w_9 h73.2.1 h73.2.2.1 h77 h79 h81 h75 h82 h80 h76), ⟨(tabS.oth (tabS.up tabS.refl u84 (vc_X12_walk_w_10 h81 h82)) u87 rfl), fun _ => (u87.f (Or.inl (mAt.ne (A_106 hw) (A_118 hw) rfl)) u84.1).trans (vc_X12_walk_w_11 h73.2.1 h73.2.2.1 h77 h79 h75 h80 h76)⟩, trivial⟩
      have h89 : 20 ≤ f_q ∧ f_q ≤ 20 := (vc_X12_front_21 h81 ht_f_q)
      refine mr_bipush (pc := 33) (z := (-3)) dX12_walk_33 (by decide) ?_
      exact mr_iret dX12_walk_35 rfl (le_t rfl) (le_t rfl) hT mF.refl ⟨f_q, q_f_q, (rW (c := (-2147483648)) (d := 2147483647) (rR (x := (-3))) rfl), (vc_X12_walk_w_13 h73.2.1 h73.2.2.1 h77 h79 h81 h75 h89 h80 h76), (vc_X12_walk_w_14 h73.2.1 h73.2.2.1 h77 h79 h81 h75 h89 h80 h76), (vc_X12_walk_w_15 h73.2.1 h73.2.2.1 h77 h79 h81 h75 h89 h80 h76), (vc_X12_walk_w_16 h73.2.1 h73.2.2.1 h77 h79 h81 h75 h89 h80 h76), ⟨tabS.refl, fun h => absurd h (vc_X12_walk_w_17 h81 h89)⟩, trivial⟩
    have h90 : (-1) ≤ p1 ∧ p1 ≤ (-1) := (vc_X12_walk_w_18 h79 h73.2.1 h73.2.2.1 h77 h78 h76)
    refine sv_aload_n (pc := 17) dX12_walk_17 rfl rfl ?_
    refine mr_iconst (pc := 18) (z := 0) dX12_walk_18 ?_
    refine pf_X12_15 (pc := 19) dX12_walk_19 wF_X12_79 (A_106 hw) hT (rW (c := 0) (d := 20) (rR (x := 0)) rfl) fun μ91 u92 T93 => ?_
    refine mr_iconst (pc := 22) (z := 0) dX12_walk_22 ?_
    exact mr_iret dX12_walk_23 rfl (le_t rfl) (le_t rfl) T93 (mF.up mF.refl (A_106 hw) u92 rfl) ⟨0, u92.1, (rW (c := (-2147483648)) (d := 2147483647) (rR (x := 0)) rfl), (vc_X12_walk_w_19 h73.2.1 h73.2.2.1 h77 h79 h75 ht_f_q h90 h76), (vc_X12_walk_w_20 h73.2.1 h73.2.2.1 h77 h79 h75 h90 h76), (vc_X12_walk_w_21 h73.2.1 h73.2.2.1 h77 h79 h75 ht_f_q h90 h76), (vc_X12_walk_w_22 h73.2.1 h73.2.2.1 h77 h79 h75 ht_f_q h90 h76), ⟨(tabS.oth tabS.refl u92 rfl), fun h => absurd h (vc_X11_walk_w_28 ht_f_q)⟩, trivial⟩
  have h94 : 0 ≤ z74 ∧ z74 ≤ 0 := (vc_X12_walk_w_24 h75 h73.2.1 h73.2.2.1 hp1 h73.1)
  have h95 : p1 < ((-1) : Int) ∨ (9 : Int) < p1 := (h73.2.2.1 (vc_X12_walk_w_25 h73.2.1 h73.2.2.1 h75 hp1 h94))
  refine mr_iconst (pc := 10) (z := (-1)) dX12_walk_10 ?_
  exact mr_iret dX12_walk_11 rfl (le_t rfl) (le_t rfl) hT mF.refl ⟨f_q, q_f_q, (rW (c := (-2147483648)) (d := 2147483647) (rR (x := (-1))) rfl), (vc_X12_walk_w_26 h73.2.1 h73.2.2.1 h95 h75 ht_f_q hp1 h94), (vc_X12_walk_w_27 h73.2.1 h73.2.2.1 h95 h75 ht_f_q hp1 h94), (vc_X12_walk_w_28 h73.2.1 h73.2.2.1 h95 h75 ht_f_q hp1 h94), (vc_X12_walk_w_29 h73.2.1 h73.2.2.1 h95 h75 ht_f_q hp1 h94), ⟨tabS.refl, fun h => absurd h (vc_X11_walk_w_6 ht_f_q)⟩, trivial⟩
theorem vc_X4_isWish_v_1 {p2 : Int} (h0 : p2 < 2) (h1 : 0 ≤ p2 ∧ p2 ≤ 20) : 0 ≤ p2 ∧ p2 ≤ 1 := by omega
theorem vc_X4_isWish_v_2 {p2 : Int} (h0 : p2 < 2) (h1 : 0 ≤ p2 ∧ p2 ≤ 1) : (0 : Int) = 1 → 2 ≤ p2 ∧ p2 ≤ 7 := by omega
theorem vc_X4_isWish_v_3 {p2 : Int} (h0 : p2 < 2) (h1 : 0 ≤ p2 ∧ p2 ≤ 1) : p2 < 2 ∨ 7 < p2 := by omega
theorem vc_X4_isWish_v_4 {p2 : Int} (h0 : 2 ≤ p2) (h1 : 0 ≤ p2 ∧ p2 ≤ 20) : 2 ≤ p2 ∧ p2 ≤ 20 := by omega
theorem vc_X4_isWish_v_5 {p2 : Int} (h0 : 7 < p2) (h1 : 2 ≤ p2) (h2 : 2 ≤ p2 ∧ p2 ≤ 20) : 8 ≤ p2 ∧ p2 ≤ 20 := by omega
theorem vc_X4_isWish_v_6 {p2 : Int} (h0 : 2 ≤ p2) (h1 : 7 < p2) (h2 : 8 ≤ p2 ∧ p2 ≤ 20) : (0 : Int) = 1 → 2 ≤ p2 ∧ p2 ≤ 7 := by omega
theorem vc_X4_isWish_v_7 {p2 : Int} (h0 : 2 ≤ p2) (h1 : 7 < p2) (h2 : 8 ≤ p2 ∧ p2 ≤ 20) : p2 < 2 ∨ 7 < p2 := by omega
theorem vc_X4_isWish_v_8 {p2 : Int} (h0 : p2 ≤ 7) (h1 : 2 ≤ p2) (h2 : 2 ≤ p2 ∧ p2 ≤ 20) : 2 ≤ p2 ∧ p2 ≤ 7 := by omega
theorem vc_X4_isWish_v_9 {z7 : Int} (h0 : z7 = 0) (h1 : 0 ≤ z7 ∧ z7 ≤ 9) : 0 ≤ z7 ∧ z7 ≤ 0 := by omega
theorem vc_X4_isWish_v_10 {p2 z176 : Int} (h0 : (8 - z176) < ((0 : Nat) : Int)) (h1 : z176 ≤ p2) (h2 : 2 ≤ p2) (h3 : p2 ≤ 7) (h4 : 2 ≤ p2 ∧ p2 ≤ 7) (h5 : 0 ≤ z176 ∧ z176 ≤ 7) : False := by omega
theorem vc_X4_isWish_v_11 {p2 z176 : Int} (h0 : p2 ≤ z176) (h1 : 2 ≤ p2) (h2 : p2 ≤ 7) (h3 : z176 ≤ p2) (h4 : 2 ≤ p2 ∧ p2 ≤ 7) (h5 : 0 ≤ z176 ∧ z176 ≤ 7) : 2 ≤ z176 ∧ z176 ≤ 7 := by omega
theorem vc_X4_isWish_v_12 {p2 z176 : Int} (h0 : 2 ≤ p2) (h1 : p2 ≤ 7) (h2 : z176 ≤ p2) (h3 : p2 ≤ z176) (h4 : 2 ≤ p2 ∧ p2 ≤ 7) (h5 : 2 ≤ z176 ∧ z176 ≤ 7) : (1 : Int) = 1 → 2 ≤ p2 ∧ p2 ≤ 7 := by omega
theorem vc_X4_isWish_v_13 {p2 z176 : Int} (h0 : 2 ≤ p2) (h1 : p2 ≤ 7) (h2 : z176 ≤ p2) (h3 : p2 ≤ z176) (h4 : 2 ≤ p2 ∧ p2 ≤ 7) (h5 : 2 ≤ z176 ∧ z176 ≤ 7) : z176 = p2 := by omega
theorem vc_X4_isWish_v_14 {p2 z176 : Int} (h0 : 2 ≤ p2) (h1 : p2 ≤ 7) (h2 : z176 ≤ p2) (h3 : p2 ≤ z176) (h4 : 2 ≤ p2 ∧ p2 ≤ 7) (h5 : 2 ≤ z176 ∧ z176 ≤ 7) : p2 ≤ z176 := by omega
theorem vc_X4_isWish_v_15 {p2 z176 : Int} (h0 : 2 ≤ p2) (h1 : p2 ≤ 7) (h2 : z176 ≤ p2) (h3 : p2 ≤ z176) (h4 : 2 ≤ p2 ∧ p2 ≤ 7) (h5 : 2 ≤ z176 ∧ z176 ≤ 7) : 2 ≤ p2 ∧ p2 ≤ 7 := by omega
theorem vc_X4_isWish_v_17 {p2 z176 : Int} (h0 : z176 < p2) (h1 : 2 ≤ p2) (h2 : p2 ≤ 7) (h3 : z176 ≤ p2) (h4 : 2 ≤ p2 ∧ p2 ≤ 7) (h5 : 0 ≤ z176 ∧ z176 ≤ 7) : 0 ≤ z176 ∧ z176 ≤ 6 := by omega
theorem vc_X4_isWish_v_18 {z192 : Int} (h0 : 7 ≤ z192) (h1 : 0 ≤ z192 ∧ z192 ≤ 9) : 7 ≤ z192 ∧ z192 ≤ 9 := by omega
theorem vc_X4_isWish_v_19 {p2 z176 : Int} (h0 : 2 ≤ p2) (h1 : p2 ≤ 7) (h2 : z176 ≤ p2) (h3 : z176 < p2) (h4 : 2 ≤ p2 ∧ p2 ≤ 7) (h5 : 0 ≤ z176 ∧ z176 ≤ 6) : (0 : Int) = 1 → 2 ≤ p2 ∧ p2 ≤ 7 := by omega
theorem vc_X4_isWish_v_20 {p2 z176 : Int} (h0 : 2 ≤ p2) (h1 : p2 ≤ 7) (h2 : z176 ≤ p2) (h3 : z176 < p2) (h4 : 2 ≤ p2 ∧ p2 ≤ 7) (h5 : 0 ≤ z176 ∧ z176 ≤ 6) : 0 ≤ z176 ∧ z176 < p2 := by omega
theorem vc_X4_isWish_v_21 {z192 : Int} (h0 : 7 ≤ z192) (h1 : 7 ≤ z192 ∧ z192 ≤ 9) : 7 ≤ z192 := by omega
theorem vc_X4_isWish_v_22 {z192 : Int} (h0 : z192 < 7) (h1 : 0 ≤ z192 ∧ z192 ≤ 9) : 0 ≤ z192 ∧ z192 ≤ 6 := by omega
theorem vc_X4_isWish_v_24 {p2 z176 : Int} (h0 : 2 ≤ p2) (h1 : p2 ≤ 7) (h2 : z176 ≤ p2) (h3 : z176 < p2) (h4 : 2 ≤ p2 ∧ p2 ≤ 7) (h5 : 0 ≤ z176 ∧ z176 ≤ 6) : (z176 + 1) ≤ p2 := by omega
theorem vc_X4_isWish_v_25 {N p2 z176 : Int} (h0 : (8 - z176) < N + 1) (h1 : z176 ≤ p2) (h2 : z176 < p2) (h3 : 2 ≤ p2) (h4 : p2 ≤ 7) (h5 : 2 ≤ p2 ∧ p2 ≤ 7) (h6 : 0 ≤ z176 ∧ z176 ≤ 6) : (8 - (z176 + 1)) < N := by omega
theorem vc_X4_isWish_v_26 {z192 : Int} (h0 : z192 < 7) (h1 : 0 ≤ z192 ∧ z192 ≤ 6) : z192 ≤ 6 := by omega
theorem vc_X4_isWish_v_27 {p2 z176 : Int} (h0 : z176 ≤ p2) (h1 : z176 < p2) (h2 : 2 ≤ p2) (h3 : p2 ≤ 7) (h4 : 2 ≤ p2 ∧ p2 ≤ 7) (h5 : 0 ≤ z176 ∧ z176 ≤ 6) : 0 ≤ z176 := by omega
theorem vc_X4_isWish_v_28 {z192 : Int} (h0 : z192 < 7) (h1 : 0 ≤ z192 ∧ z192 ≤ 6) : 0 ≤ z192 ∧ z192 ≤ 6 := by omega
theorem vc_X4_isWish_v_32 {p2 : Int} (h0 : 2 ≤ p2) (h1 : p2 ≤ 7) (h2 : 2 ≤ p2 ∧ p2 ≤ 7) : (0 : Int) ≤ p2 := by omega
theorem vc_X4_isWish_v_34 {z7 : Int} (h0 : ¬ z7 = 0) (h1 : 0 ≤ z7 ∧ z7 ≤ 9) : 1 ≤ z7 ∧ z7 ≤ 9 := by omega
theorem vc_X4_isWish_v_35 {p2 : Int} (h0 : 2 ≤ p2) (h1 : p2 ≤ 7) (h2 : 2 ≤ p2 ∧ p2 ≤ 7) : (0 : Int) = 1 → 2 ≤ p2 ∧ p2 ≤ 7 := by omega
theorem vc_X4_isWish_v_36 {z7 : Int} (h0 : ¬ z7 = 0) (h1 : 1 ≤ z7 ∧ z7 ≤ 9) : ¬ z7 = 0 := by omega
set_option maxRecDepth 4000 in
set_option maxHeartbeats 4000000 in
theorem c_X4_isWish_v {l : Launch} {D : va_G} {c : Nat → ClassId} {H0 : Heap} {sa : Nat × Nat × (Nat → Int32)} {w : mW} {μ : mM} (hw : mWF w) (hT : mT w μ) (hA1 : mAt w 2 2) {p2 : Int} (hp2 : 0 ≤ p2 ∧ p2 ≤ 20) : sC (gG l D c H0 sa) mX4_isWish 1 0 0 [.ref 2, iv p2] (mk w μ) (qP w μ (fun z => (0 ≤ z ∧ z ≤ 1) ∧ (z = 1 → 2 ≤ p2 ∧ p2 ≤ 7) ∧ (z = 1 → allLe μ 2 p2 6) ∧ (z = 1 → wiP μ 2 p2) ∧ (z = 0 → ¬ wiP μ 2 p2) ∧ True)) := by
  refine sC.of rfl (by decide) (le_t rfl) ?_
  refine mr_lvE (lv' := [(0, .ref 2), (1, iv p2)]) rfl ?_
  refine mr_iload_n (pc := 0) (z := p2) dX4_isWish_0 rfl rfl ?_
  refine mr_iconst (pc := 1) (z := 2) dX4_isWish_1 ?_
  refine mr_icmp_lt (pc := 2) (tgt := 19) dX4_isWish_2 (by decide) (r32 hp2 rfl) (r32 (rR (x := 2)) rfl) (fun h1 => ?_) (fun h1 => ?_)
  · have h2 : 0 ≤ p2 ∧ p2 ≤ 1 := (vc_X4_isWish_v_1 h1 hp2)
    refine mr_iconst (pc := 19) (z := 0) dX4_isWish_19 ?_
    exact mr_zretP dX4_isWish_20 rfl (rW (c := 0) (d := 1) (rR (x := 0)) rfl) (le_t rfl) (le_t rfl) ⟨(rW (c := 0) (d := 1) (rR (x := 0)) rfl), (vc_X4_isWish_v_2 h1 h2), (fun h => absurd h (by decide)), (fun h => absurd h (by decide)), (fun _ => wiP.len (vc_X4_isWish_v_3 h1 h2)), trivial⟩
  have h3 : 2 ≤ p2 ∧ p2 ≤ 20 := (vc_X4_isWish_v_4 h1 hp2)
  refine mr_iload_n (pc := 5) (z := p2) dX4_isWish_5 rfl rfl ?_
  refine mr_bipush (pc := 6) (z := 7) dX4_isWish_6 (by decide) ?_
  refine mr_icmp_gt (pc := 8) (tgt := 19) dX4_isWish_8 (by decide) (r32 h3 rfl) (r32 (rR (x := 7)) rfl) (fun h4 => ?_) (fun h4 => ?_)
  · have h5 : 8 ≤ p2 ∧ p2 ≤ 20 := (vc_X4_isWish_v_5 h4 h1 h3)
    refine mr_iconst (pc := 19) (z := 0) dX4_isWish_19 ?_
    exact mr_zretP dX4_isWish_20 rfl (rW (c := 0) (d := 1) (rR (x := 0)) rfl) (le_t rfl) (le_t rfl) ⟨(rW (c := 0) (d := 1) (rR (x := 0)) rfl), (vc_X4_isWish_v_6 h1 h4 h5), (fun h => absurd h (by decide)), (fun h => absurd h (by decide)), (fun _ => wiP.len (vc_X4_isWish_v_7 h1 h4 h5)), trivial⟩
  have h6 : 2 ≤ p2 ∧ p2 ≤ 7 := (vc_X4_isWish_v_8 h4 h1 h3)
  refine sv_aload_n (pc := 11) dX4_isWish_11 rfl rfl ?_
  refine mr_iload_n (pc := 12) (z := p2) dX4_isWish_12 rfl rfl ?_
  refine mr_iconst (pc := 13) (z := 1) dX4_isWish_13 ?_
  refine mr_isub (pc := 14) (x := p2) (y := 1) dX4_isWish_14 ?_
  refine la_2 (pc := 15) dX4_isWish_15 (A_2 hw) hT (rIx (n := 20) (rSub (e := 1) (f := 6) h6 (rR (x := 1)) rfl) rfl) fun z7 q8 h9 => ?_
  refine mr_if_eq (pc := 16) (tgt := 21) dX4_isWish_16 (by decide) (r32 h9 rfl) (fun h10 => ?_) (fun h10 => ?_)
  · have h11 : 0 ≤ z7 ∧ z7 ≤ 0 := (vc_X4_isWish_v_9 h10 h9)
    refine mr_iconst (pc := 21) (z := 0) dX4_isWish_21 ?_
    refine mr_istore_n (pc := 22) (lv' := [(2, iv 0), (0, .ref 2), (1, iv p2)]) dX4_isWish_22 rfl (by decide) rfl ?_
    refine mr_iconst (pc := 23) (z := 0) dX4_isWish_23 ?_
    refine mr_istore_n (pc := 24) (lv' := [(3, iv 0), (2, iv 0), (0, .ref 2), (1, iv p2)]) dX4_isWish_24 rfl (by decide) rfl ?_
    have L178 : ∀ (nL178 : Nat) (z177 z176 : Int), True → ((-2147483648) ≤ z177 ∧ z177 ≤ 2147483647) → (0 ≤ z176 ∧ z176 ≤ 7) → (z176 ≤ p2) → allLe μ 2 z176 6 → imI μ z176 z177 → (8 - z176) < (nL178 : Int) → sV (gG l D c H0 sa) mX4_isWish (sRm 1 0 0) (sZ (gG l D c H0 sa) 0 0 (qP w μ (fun z => (0 ≤ z ∧ z ≤ 1) ∧ (z = 1 → 2 ≤ p2 ∧ p2 ≤ 7) ∧ (z = 1 → allLe μ 2 p2 6) ∧ (z = 1 → wiP μ 2 p2) ∧ (z = 0 → ¬ wiP μ 2 p2) ∧ True))) 25 [(0, .ref 2), (1, iv p2), (2, iv z177), (3, iv z176)] [] (mk w μ) 0 0 := by
      intro nL178
      induction nL178 with
      | zero => intro z177 z176 _ h179 h180 h184 R185 R186 h187; exact ((vc_X4_isWish_v_10 h187 h184 h1 h4 h6 h180)).elim
      | succ nL178 ih188 =>
        intro z177 z176 _ h179 h180 h184 R185 R186 h187
        refine mr_iload_n (pc := 25) (z := z176) dX4_isWish_25 rfl rfl ?_
        refine mr_iload_n (pc := 26) (z := p2) dX4_isWish_26 rfl rfl ?_
        refine mr_icmp_ge (pc := 27) (tgt := 64) dX4_isWish_27 (by decide) (r32 h180 rfl) (r32 h6 rfl) (fun h189 => ?_) (fun h189 => ?_)
        · have h190 : 2 ≤ z176 ∧ z176 ≤ 7 := (vc_X4_isWish_v_11 h189 h1 h4 h184 h6 h180)
          refine mr_iconst (pc := 64) (z := 1) dX4_isWish_64 ?_
          exact mr_zretP dX4_isWish_65 rfl (rW (c := 0) (d := 1) (rR (x := 1)) rfl) (le_t rfl) (le_t rfl) ⟨(rW (c := 0) (d := 1) (rR (x := 1)) rfl), (vc_X4_isWish_v_12 h1 h4 h184 h189 h6 h190), (fun _ => by have h := R185; rw [show z176 = p2 from (vc_X4_isWish_v_13 h1 h4 h184 h189 h6 h190)] at h; exact h), (fun _ => imI.yes R186 (vc_X4_isWish_v_14 h1 h4 h184 h189 h6 h190) (vc_X4_isWish_v_15 h1 h4 h184 h189 h6 h190) (p2 - 1) (q8.trans (vc_X12_goes_7 h10 h11)) rfl), (fun h => absurd h (by decide)), trivial⟩
        have h191 : 0 ≤ z176 ∧ z176 ≤ 6 := (vc_X4_isWish_v_17 h189 h1 h4 h184 h6 h180)
        refine sv_aload_n (pc := 30) dX4_isWish_30 rfl rfl ?_
        refine mr_iload_n (pc := 31) (z := z176) dX4_isWish_31 rfl rfl ?_
        refine la_2 (pc := 32) dX4_isWish_32 (A_2 hw) hT (rIx (n := 20) h191 rfl) fun z192 q193 h194 => ?_
        refine mr_bipush (pc := 33) (z := 7) dX4_isWish_33 (by decide) ?_
        refine mr_icmp_ge (pc := 35) (tgt := 48) dX4_isWish_35 (by decide) (r32 h194 rfl) (r32 (rR (x := 7)) rfl) (fun h195 => ?_) (fun h195 => ?_)
        · have h196 : 7 ≤ z192 ∧ z192 ≤ 9 := (vc_X4_isWish_v_18 h195 h194)
          refine mr_iconst (pc := 48) (z := 0) dX4_isWish_48 ?_
          exact mr_zretP dX4_isWish_49 rfl (rW (c := 0) (d := 1) (rR (x := 0)) rfl) (le_t rfl) (le_t rfl) ⟨(rW (c := 0) (d := 1) (rR (x := 0)) rfl), (vc_X4_isWish_v_19 h1 h4 h184 h189 h6 h191), (fun h => absurd h (by decide)), (fun h => absurd h (by decide)), (fun _ => imI.big (vc_X4_isWish_v_20 h1 h4 h184 h189 h6 h191) q193 (vc_X4_isWish_v_21 h195 h196)), trivial⟩
        have h197 : 0 ≤ z192 ∧ z192 ≤ 6 := (vc_X4_isWish_v_22 h195 h194)
        refine mr_iload_n (pc := 38) (z := z177) dX4_isWish_38 rfl rfl ?_
        refine sv_aload_n (pc := 39) dX4_isWish_39 rfl rfl ?_
        refine mr_iload_n (pc := 40) (z := z176) dX4_isWish_40 rfl rfl ?_
        refine lk_2 (pc := 41) dX4_isWish_41 (A_2 hw) (rIx (n := 20) h191 rfl) q193 ?_
        refine mr_ishr (pc := 42) (x := z177) (y := z192) dX4_isWish_42 ?_
        refine mr_gen (P := fun z => (-2147483648) ≤ z ∧ z ≤ 2147483647) (r32i _) fun z198 q199 h200 => ?_
        refine mr_iconst (pc := 43) (z := 1) dX4_isWish_43 ?_
        refine mr_iand (pc := 44) (x := z198) (y := 1) dX4_isWish_44 ?_
        refine mr_gen (P := fun z => 0 ≤ z ∧ z ≤ 1) (rAndR (rR (x := 1)) rfl) fun z201 q202 h203 => ?_
        refine mr_if_eq (pc := 45) (tgt := 50) dX4_isWish_45 (by decide) (r32 h203 rfl) (fun h204 => ?_) (fun h204 => ?_)
        · have h205 : 0 ≤ z201 ∧ z201 ≤ 0 := (vc_X12_ring_22 h204 h203)
          refine mr_iload_n (pc := 50) (z := z177) dX4_isWish_50 rfl rfl ?_
          refine mr_iconst (pc := 51) (z := 1) dX4_isWish_51 ?_
          refine sv_aload_n (pc := 52) dX4_isWish_52 rfl rfl ?_
          refine mr_iload_n (pc := 53) (z := z176) dX4_isWish_53 rfl rfl ?_
          refine lk_2 (pc := 54) dX4_isWish_54 (A_2 hw) (rIx (n := 20) h191 rfl) q193 ?_
          refine mr_ishl (pc := 55) (x := 1) (y := z192) dX4_isWish_55 ?_
          refine mr_gen (P := fun z => (-2147483648) ≤ z ∧ z ≤ 2147483647) (r32i _) fun z206 q207 h208 => ?_
          refine mr_ior (pc := 56) (x := z177) (y := z206) dX4_isWish_56 ?_
          refine mr_gen (P := fun z => (-2147483648) ≤ z ∧ z ≤ 2147483647) (r32i _) fun z209 q210 h211 => ?_
          refine mr_istore_n (pc := 57) (lv' := [(2, iv z209), (0, .ref 2), (1, iv p2), (3, iv z176)]) dX4_isWish_57 rfl (by decide) rfl ?_
          refine mr_iinc (pc := 58) (lv' := [(3, iv (z176 + 1)), (2, iv z209), (0, .ref 2), (1, iv p2)]) dX4_isWish_58 rfl (by decide) rfl ?_
          refine sv_goto (pc := 61) (tgt := 25) dX4_isWish_61 (by decide) ?_
          refine mr_lvS (lv' := [(0, .ref 2), (1, iv p2), (2, iv z209), (3, iv (z176 + 1))]) (List.forall_mem_cons.mpr ⟨rfl, List.forall_mem_cons.mpr ⟨rfl, List.forall_mem_cons.mpr ⟨rfl, List.forall_mem_cons.mpr ⟨rfl, fun _ h => absurd h List.not_mem_nil⟩⟩⟩⟩) ?_
          exact ih188 z209 (z176 + 1) trivial h211 (rW (c := 0) (d := 7) (rAdd (e := 1) (f := 7) h191 (rR (x := 1)) rfl) rfl) (vc_X4_isWish_v_24 h1 h4 h184 h189 h6 h191) (allLe.succ R185 q193 (vc_X4_isWish_v_26 h195 h197)) (imI.next R186 (vc_X4_isWish_v_27 h184 h189 h1 h4 h6 h191) q193 (vc_X4_isWish_v_28 h195 h197) q199 q202 (vc_X12_goes_7 h204 h205) q207 q210) (vc_X4_isWish_v_25 (nS h187) h184 h189 h1 h4 h6 h191)
        have h212 : 1 ≤ z201 ∧ z201 ≤ 1 := (vc_X12_ring_24 h204 h203)
        refine mr_iconst (pc := 48) (z := 0) dX4_isWish_48 ?_
        exact mr_zretP dX4_isWish_49 rfl (rW (c := 0) (d := 1) (rR (x := 0)) rfl) (le_t rfl) (le_t rfl) ⟨(rW (c := 0) (d := 1) (rR (x := 0)) rfl), (vc_X4_isWish_v_19 h1 h4 h184 h189 h6 h191), (fun h => absurd h (by decide)), (fun h => absurd h (by decide)), (fun _ => imI.twice R186 (vc_X4_isWish_v_20 h1 h4 h184 h189 h6 h191) q193 (vc_X4_isWish_v_28 h195 h197) q199 q202 (vc_X12_raise_u_7 h204 h212)), trivial⟩
    refine mr_lvS (lv' := [(0, .ref 2), (1, iv p2), (2, iv 0), (3, iv 0)]) (List.forall_mem_cons.mpr ⟨rfl, List.forall_mem_cons.mpr ⟨rfl, List.forall_mem_cons.mpr ⟨rfl, List.forall_mem_cons.mpr ⟨rfl, fun _ h => absurd h List.not_mem_nil⟩⟩⟩⟩) ?_
    exact L178 9 0 0 trivial (rW (c := (-2147483648)) (d := 2147483647) (rR (x := 0)) rfl) (rW (c := 0) (d := 7) (rR (x := 0)) rfl) (vc_X4_isWish_v_32 h1 h4 h6) (allLe.zero (Int.le_refl 0)) imI.zero vc_X12_isOffered_10
  have h213 : 1 ≤ z7 ∧ z7 ≤ 9 := (vc_X4_isWish_v_34 h10 h9)
  refine mr_iconst (pc := 19) (z := 0) dX4_isWish_19 ?_
  exact mr_zretP dX4_isWish_20 rfl (rW (c := 0) (d := 1) (rR (x := 0)) rfl) (le_t rfl) (le_t rfl) ⟨(rW (c := 0) (d := 1) (rR (x := 0)) rfl), (vc_X4_isWish_v_35 h1 h4 h6), (fun h => absurd h (by decide)), (fun h => absurd h (by decide)), (fun _ => wiP.last q8 rfl (vc_X4_isWish_v_36 h10 h213)), trivial⟩
theorem vc_X4_find_v_1 {f_p : Int} (h0 : f_p ≤ 6) (h1 : 0 ≤ f_p ∧ f_p ≤ 9) : 0 ≤ f_p ∧ f_p ≤ 6 := by omega
theorem vc_X4_find_v_7 {p3 z1138 z1150 : Int} (h0 : p3 ≤ z1150) (h1 : ¬ z1138 = p3) (h2 : 0 ≤ p3 ∧ p3 ≤ 7) (h3 : 0 ≤ z1138 ∧ z1138 ≤ 7) (h4 : 0 ≤ z1150 ∧ z1150 ≤ 0) : 0 ≤ p3 ∧ p3 ≤ 0 := by omega
theorem vc_X4_find_v_11 {f_c f_p z1126 : Int} (h0 : f_p ≤ 6) (h1 : z1126 < f_c) (h2 : 1 ≤ f_c ∧ f_c ≤ 5) (h3 : 0 ≤ f_p ∧ f_p ≤ 6) (h4 : 0 ≤ z1126 ∧ z1126 ≤ 4) : ((f_p * 5) + z1126) = 5 * f_p + z1126 := by omega
theorem vc_X4_find_v_13 {p3 z1138 z1150 : Int} (h0 : z1150 < p3) (h1 : ¬ z1138 = p3) (h2 : 0 ≤ p3 ∧ p3 ≤ 7) (h3 : 0 ≤ z1138 ∧ z1138 ≤ 7) (h4 : 0 ≤ z1150 ∧ z1150 ≤ 0) : 1 ≤ p3 ∧ p3 ≤ 7 := by omega
theorem vc_X4_find_v_16 {p3 z1138 : Int} (h0 : ¬ z1138 = p3) (h1 : 0 ≤ p3 ∧ p3 ≤ 7) (h2 : 0 ≤ z1138 ∧ z1138 ≤ 7) : (z1138 = p3 ∧ (0 : Int) = 1) ∨ (¬ z1138 = p3 ∧ (0 : Int) = 0) := by omega
theorem vc_X4_find_v_21 {f_c z1126 : Int} (h0 : z1126 < f_c) (h1 : 1 ≤ f_c ∧ f_c ≤ 5) (h2 : 0 ≤ z1126 ∧ z1126 ≤ 4) : ¬ z1126 < 0 := by omega
theorem vc_X4_find_v_24 {p3 z1138 z1280 : Int} (h0 : z1138 = p3) (h1 : p3 ≤ z1280) (h2 : 0 ≤ p3 ∧ p3 ≤ 7) (h3 : 0 ≤ z1138 ∧ z1138 ≤ 7) (h4 : 0 ≤ z1280 ∧ z1280 ≤ 7) : p3 ≤ z1280 := by omega
theorem vc_X4_find_v_25 {p3 z1138 z1280 : Int} (h0 : z1280 < p3) (h1 : z1138 = p3) (h2 : 0 ≤ p3 ∧ p3 ≤ 7) (h3 : 0 ≤ z1138 ∧ z1138 ≤ 7) (h4 : 0 ≤ z1280 ∧ z1280 ≤ 7) : 0 ≤ z1280 ∧ z1280 ≤ 6 := by omega
theorem vc_X4_find_v_26 {p3 z1138 z1280 : Int} (h0 : z1280 < p3) (h1 : z1138 = p3) (h2 : 0 ≤ p3 ∧ p3 ≤ 7) (h3 : 0 ≤ z1138 ∧ z1138 ≤ 7) (h4 : 0 ≤ z1280 ∧ z1280 ≤ 6) : 1 ≤ p3 ∧ p3 ≤ 7 := by omega
theorem vc_X4_find_v_28 {N p3 z1138 z1280 : Int} (h0 : (8 - z1280) < N + 1) (h1 : z1280 < p3) (h2 : z1138 = p3) (h3 : 1 ≤ p3 ∧ p3 ≤ 7) (h4 : 0 ≤ z1138 ∧ z1138 ≤ 7) (h5 : 0 ≤ z1280 ∧ z1280 ≤ 6) : (8 - (z1280 + 1)) < N := by omega
theorem vc_X4_find_v_29 {p3 z1138 z1280 : Int} (h0 : z1138 = p3) (h1 : z1280 < p3) (h2 : 1 ≤ p3 ∧ p3 ≤ 7) (h3 : 0 ≤ z1138 ∧ z1138 ≤ 7) (h4 : 0 ≤ z1280 ∧ z1280 ≤ 6) : 0 ≤ z1280 ∧ z1280 < p3 := by omega
theorem vc_X4_find_v_30 {f_c f_p p3 z1126 z1138 z1280 : Int} (h0 : f_p ≤ 6) (h1 : z1126 < f_c) (h2 : z1280 < p3) (h3 : z1138 = p3) (h4 : 1 ≤ f_c ∧ f_c ≤ 5) (h5 : 0 ≤ f_p ∧ f_p ≤ 6) (h6 : 1 ≤ p3 ∧ p3 ≤ 7) (h7 : 0 ≤ z1126 ∧ z1126 ≤ 4) (h8 : 0 ≤ z1138 ∧ z1138 ≤ 7) (h9 : 0 ≤ z1280 ∧ z1280 ≤ 6) : 0 ≤ ((f_p * 5) + z1126) ∧ ((((f_p * 5) + z1126) * 7) + z1280) = ((7 : Nat) : Int) * (((f_p * 5) + z1126)) + z1280 := by omega
theorem vc_X4_find_v_31 {p2 p3 z1138 z1280 : Int} (h0 : z1280 < p3) (h1 : z1138 = p3) (h2 : 0 ≤ p2 ∧ p2 ≤ 0) (h3 : 1 ≤ p3 ∧ p3 ≤ 7) (h4 : 0 ≤ z1138 ∧ z1138 ≤ 7) (h5 : 0 ≤ z1280 ∧ z1280 ≤ 6) : (p2 + z1280) = z1280 := by omega
theorem vc_X4_find_v_32 {z1300 z1303 : Int} (h0 : ¬ z1300 = z1303) (h1 : 0 ≤ z1300 ∧ z1300 ≤ 6) (h2 : 0 ≤ z1303 ∧ z1303 ≤ 9) : (z1300 = z1303 ∧ (0 : Int) = 1) ∨ (¬ z1300 = z1303 ∧ (0 : Int) = 0) := by omega
theorem vc_X4_find_v_33 {z1300 z1303 : Int} (h0 : z1300 = z1303) (h1 : 0 ≤ z1300 ∧ z1300 ≤ 6) (h2 : 0 ≤ z1303 ∧ z1303 ≤ 9) : 0 ≤ z1303 ∧ z1303 ≤ 6 := by omega
theorem vc_X4_find_v_34 {z1300 z1303 : Int} (h0 : z1300 = z1303) (h1 : 0 ≤ z1300 ∧ z1300 ≤ 6) (h2 : 0 ≤ z1303 ∧ z1303 ≤ 6) : (z1300 = z1303 ∧ (1 : Int) = 1) ∨ (¬ z1300 = z1303 ∧ (1 : Int) = 0) := by omega
theorem vc_X4_find_v_36 {p3 z1138 : Int} (h0 : z1138 = p3) (h1 : 0 ≤ p3 ∧ p3 ≤ 7) (h2 : 0 ≤ z1138 ∧ z1138 ≤ 7) : (z1138 = p3 ∧ (1 : Int) = 1) ∨ (¬ z1138 = p3 ∧ (1 : Int) = 0) := by omega
set_option maxRecDepth 4000 in
set_option maxHeartbeats 4000000 in
theorem c_X4_find_v {l : Launch} {D : va_G} {c : Nat → ClassId} {H0 : Heap} {sa : Nat × Nat × (Nat → Int32)} {w : mW} {μ : mM} (hw : mWF w) (hT : mT w μ) (hA1 : mAt w 2 2) {p2 : Int} (hp2 : 0 ≤ p2 ∧ p2 ≤ 0) {p3 : Int} (hp3 : 0 ≤ p3 ∧ p3 ≤ 7) {f_p : Int} (q_f_p : μ 2 (p2.toNat) = f_p) {f_c : Int} (q_f_c : μ 95 (f_p.toNat) = f_c) (hq0 : f_p ≤ 6) : sC (gG l D c H0 sa) mX4_find 1 0 0 [.ref 94, .ref 2, iv p2, iv p3] (mk w μ) (qP w μ (fun z => ((-1) ≤ z ∧ z ≤ 4) ∧ (z < 0 → noW μ 97 96 7 2 f_p p3 f_c) ∧ (0 ≤ z → hasW μ 97 96 7 2 f_p p3 f_c) ∧ True)) := by
  refine sC.of rfl (by decide) (le_t rfl) ?_
  have ht_f_p : (0 ≤ f_p ∧ f_p ≤ 9) := by rw [← q_f_p]; exact hT 2 2 (A_2 hw) (p2.toNat)
  have ht_f_c : (0 ≤ f_c ∧ f_c ≤ 5) := by rw [← q_f_c]; exact hT 95 95 (A_95 hw) (f_p.toNat)
  have h1 : 0 ≤ f_p ∧ f_p ≤ 6 := (vc_X4_find_v_1 hq0 ht_f_p)
  refine mr_lvE (lv' := [(0, .ref 94), (1, .ref 2), (2, iv p2), (3, iv p3)]) rfl ?_
  refine sv_aload_n (pc := 0) dX4_find_0 rfl rfl ?_
  refine mr_iload_n (pc := 1) (z := p2) dX4_find_1 rfl rfl ?_
  refine lk_2 (pc := 2) dX4_find_2 (A_2 hw) (rIx (n := 20) hp2 rfl) q_f_p ?_
  refine mr_istore (pc := 3) (lv' := [(4, iv f_p), (0, .ref 94), (1, .ref 2), (2, iv p2), (3, iv p3)]) dX4_find_3 (by decide) rfl ?_
  refine mr_iconst (pc := 5) (z := 0) dX4_find_5 ?_
  refine mr_istore (pc := 6) (lv' := [(5, iv 0), (4, iv f_p), (0, .ref 94), (1, .ref 2), (2, iv p2), (3, iv p3)]) dX4_find_6 (by decide) rfl ?_
  have L1127 : ∀ (nL1127 : Nat) (z1126 : Int), True → (0 ≤ z1126 ∧ z1126 ≤ 5) → noW μ 97 96 7 2 f_p p3 z1126 → (6 - z1126) < (nL1127 : Int) → sV (gG l D c H0 sa) mX4_find (sRm 1 0 0) (sZ (gG l D c H0 sa) 0 0 (qP w μ (fun z => ((-1) ≤ z ∧ z ≤ 4) ∧ (z < 0 → noW μ 97 96 7 2 f_p p3 f_c) ∧ (0 ≤ z → hasW μ 97 96 7 2 f_p p3 f_c) ∧ True))) 8 [(0, .ref 94), (1, .ref 2), (2, iv p2), (3, iv p3), (4, iv f_p), (5, iv z1126)] [] (mk w μ) 0 0 := by
    intro nL1127
    induction nL1127 with
    | zero => intro z1126 _ h1128 R1132 h1133; exact ((vc_X4_actOf_1 h1133 h1128)).elim
    | succ nL1127 ih1134 =>
      intro z1126 _ h1128 R1132 h1133
      refine mr_iload (pc := 8) (z := z1126) dX4_find_8 rfl ?_
      refine sv_aload_n (pc := 10) dX4_find_10 rfl rfl ?_
      refine gf_X4_12 (pc := 11) dX4_find_11 wF_X4_11 (A_94 hw) hT ?_
      refine mr_iload (pc := 14) (z := f_p) dX4_find_14 rfl ?_
      refine lk_95 (pc := 16) dX4_find_16 (A_95 hw) (rIx (n := 7) h1 rfl) q_f_c ?_
      refine mr_icmp_ge (pc := 17) (tgt := 110) dX4_find_17 (by decide) (r32 h1128 rfl) (r32 ht_f_c rfl) (fun h1135 => ?_) (fun h1135 => ?_)
      · refine mr_iconst (pc := 110) (z := (-1)) dX4_find_110 ?_
        exact mr_iretP dX4_find_111 rfl (le_t rfl) (le_t rfl) ⟨(rW (c := (-1)) (d := 4) (rR (x := (-1))) rfl), (fun _ => (R1132).le (vc_X12_acted_v_5 h1135 ht_f_c h1128)), (fun h => absurd h (by decide)), trivial⟩
      have h1136 : 0 ≤ z1126 ∧ z1126 ≤ 4 := (vc_X4_actOf_2 h1135 ht_f_c h1128)
      have h1137 : 1 ≤ f_c ∧ f_c ≤ 5 := (vc_X4_actOf_3 h1135 ht_f_c h1136)
      refine mr_iload (pc := 20) (z := f_p) dX4_find_20 rfl ?_
      refine mr_iconst (pc := 22) (z := 5) dX4_find_22 ?_
      refine mr_imul (pc := 23) (x := f_p) (y := 5) dX4_find_23 ?_
      refine mr_iload (pc := 24) (z := z1126) dX4_find_24 rfl ?_
      refine mr_iadd (pc := 26) (x := (f_p * 5)) (y := z1126) dX4_find_26 ?_
      refine mr_istore (pc := 27) (lv' := [(6, iv ((f_p * 5) + z1126)), (0, .ref 94), (1, .ref 2), (2, iv p2), (3, iv p3), (4, iv f_p), (5, iv z1126)]) dX4_find_27 (by decide) rfl ?_
      refine sv_aload_n (pc := 29) dX4_find_29 rfl rfl ?_
      refine gf_X4_1 (pc := 30) dX4_find_30 wF_X4_18 (A_94 hw) hT ?_
      refine mr_iload (pc := 33) (z := ((f_p * 5) + z1126)) dX4_find_33 rfl ?_
      refine la_97 (pc := 35) dX4_find_35 (A_97 hw) hT (rIx (n := 35) (rAdd (e := 0) (f := 34) (rMulR (n := 5) (e := 0) (f := 30) h1 rfl) h1136 rfl) rfl) fun z1138 q1139 h1140 => ?_
      refine mr_iload_n (pc := 36) (z := p3) dX4_find_36 rfl rfl ?_
      refine mr_icmp_ne (pc := 37) (tgt := 44) dX4_find_37 (by decide) (r32 h1140 rfl) (r32 hp3 rfl) (fun h1141 => ?_) (fun h1141 => ?_)
      · refine mr_iconst (pc := 44) (z := 0) dX4_find_44 ?_
        refine mr_istore (pc := 45) (lv' := [(7, iv 0), (6, iv ((f_p * 5) + z1126)), (0, .ref 94), (1, .ref 2), (2, iv p2), (3, iv p3), (4, iv f_p), (5, iv z1126)]) dX4_find_45 (by decide) rfl ?_
        refine mr_iconst (pc := 47) (z := 0) dX4_find_47 ?_
        refine mr_istore (pc := 48) (lv' := [(8, iv 0), (7, iv 0), (6, iv ((f_p * 5) + z1126)), (0, .ref 94), (1, .ref 2), (2, iv p2), (3, iv p3), (4, iv f_p), (5, iv z1126)]) dX4_find_48 (by decide) rfl ?_
        have L1152 : ∀ (nL1152 : Nat) (z1151 z1150 : Int), True → (0 ≤ z1151 ∧ z1151 ≤ 0) → (0 ≤ z1150 ∧ z1150 ≤ 0) → mtI μ 97 96 7 2 (((f_p * 5) + z1126)).toNat p3 z1150 z1151 → 1 < (nL1152 : Int) → sV (gG l D c H0 sa) mX4_find (sRm 1 0 0) (sZ (gG l D c H0 sa) 0 0 (qP w μ (fun z => ((-1) ≤ z ∧ z ≤ 4) ∧ (z < 0 → noW μ 97 96 7 2 f_p p3 f_c) ∧ (0 ≤ z → hasW μ 97 96 7 2 f_p p3 f_c) ∧ True))) 50 [(0, .ref 94), (1, .ref 2), (2, iv p2), (3, iv p3), (4, iv f_p), (5, iv z1126), (6, iv ((f_p * 5) + z1126)), (7, iv z1151), (8, iv z1150)] [] (mk w μ) 0 0 := by
          intro nL1152
          induction nL1152 with
          | zero => intro z1151 z1150 _ h1153 h1154 R1158 h1159; exact ((vc_X8_lastStanding_2 h1159)).elim
          | succ nL1152 ih1160 =>
            intro z1151 z1150 _ h1153 h1154 R1158 h1159
            refine mr_iload (pc := 50) (z := z1150) dX4_find_50 rfl ?_
            refine mr_iload_n (pc := 52) (z := p3) dX4_find_52 rfl rfl ?_
            refine mr_icmp_ge (pc := 53) (tgt := 96) dX4_find_53 (by decide) (r32 h1154 rfl) (r32 hp3 rfl) (fun h1161 => ?_) (fun h1161 => ?_)
            · have h1162 : 0 ≤ p3 ∧ p3 ≤ 0 := (vc_X4_find_v_7 h1161 h1141 hp3 h1140 h1154)
              refine mr_iload (pc := 96) (z := z1151) dX4_find_96 rfl ?_
              refine mr_if_eq (pc := 98) (tgt := 104) dX4_find_98 (by decide) (r32 h1153 rfl) (fun _ => ?_) (fun h => ((vc_X10_firstWrongStep_7 h h1153)).elim)
              refine mr_iinc (pc := 104) (lv' := [(5, iv (z1126 + 1)), (0, .ref 94), (1, .ref 2), (2, iv p2), (3, iv p3), (4, iv f_p), (6, iv ((f_p * 5) + z1126)), (7, iv z1151), (8, iv z1150)]) dX4_find_104 rfl (by decide) rfl ?_
              refine sv_goto (pc := 107) (tgt := 8) dX4_find_107 (by decide) ?_
              refine mr_lvS (lv' := [(0, .ref 94), (1, .ref 2), (2, iv p2), (3, iv p3), (4, iv f_p), (5, iv (z1126 + 1))]) (List.forall_mem_cons.mpr ⟨rfl, List.forall_mem_cons.mpr ⟨rfl, List.forall_mem_cons.mpr ⟨rfl, List.forall_mem_cons.mpr ⟨rfl, List.forall_mem_cons.mpr ⟨rfl, List.forall_mem_cons.mpr ⟨rfl, fun _ h => absurd h List.not_mem_nil⟩⟩⟩⟩⟩⟩) ?_
              exact ih1134 (z1126 + 1) trivial (rW (c := 0) (d := 5) (rAdd (e := 1) (f := 5) h1136 (rR (x := 1)) rfl) rfl) (noW.next R1132 (vc_X12_acted_w_15 h1135 h1137 h1136) (vc_X4_find_v_11 hq0 h1135 h1137 h1 h1136) ((R1158).2 (vc_X4_find_n_11 h1153))) (vc_X4_actOf_6 (nS h1133) h1135 h1137 h1136)
            have h1163 : 1 ≤ p3 ∧ p3 ≤ 7 := (vc_X4_find_v_13 h1161 h1141 hp3 h1140 h1154)
            refine mr_iload (pc := 56) (z := z1151) dX4_find_56 rfl ?_
            refine mr_if_eq (pc := 58) (tgt := 96) dX4_find_58 (by decide) (r32 h1153 rfl) (fun _ => ?_) (fun h => ((vc_X10_firstWrongStep_7 h h1153)).elim)
            refine mr_iload (pc := 96) (z := z1151) dX4_find_96 rfl ?_
            refine mr_if_eq (pc := 98) (tgt := 104) dX4_find_98 (by decide) (r32 h1153 rfl) (fun _ => ?_) (fun h => ((vc_X10_firstWrongStep_7 h h1153)).elim)
            refine mr_iinc (pc := 104) (lv' := [(5, iv (z1126 + 1)), (0, .ref 94), (1, .ref 2), (2, iv p2), (3, iv p3), (4, iv f_p), (6, iv ((f_p * 5) + z1126)), (7, iv z1151), (8, iv z1150)]) dX4_find_104 rfl (by decide) rfl ?_
            refine sv_goto (pc := 107) (tgt := 8) dX4_find_107 (by decide) ?_
            refine mr_lvS (lv' := [(0, .ref 94), (1, .ref 2), (2, iv p2), (3, iv p3), (4, iv f_p), (5, iv (z1126 + 1))]) (List.forall_mem_cons.mpr ⟨rfl, List.forall_mem_cons.mpr ⟨rfl, List.forall_mem_cons.mpr ⟨rfl, List.forall_mem_cons.mpr ⟨rfl, List.forall_mem_cons.mpr ⟨rfl, List.forall_mem_cons.mpr ⟨rfl, fun _ h => absurd h List.not_mem_nil⟩⟩⟩⟩⟩⟩) ?_
            exact ih1134 (z1126 + 1) trivial (rW (c := 0) (d := 5) (rAdd (e := 1) (f := 5) h1136 (rR (x := 1)) rfl) rfl) (noW.next R1132 (vc_X12_acted_w_15 h1135 h1137 h1136) (vc_X4_find_v_11 hq0 h1135 h1137 h1 h1136) ((R1158).2 (vc_X4_find_n_11 h1153))) (vc_X4_actOf_6 (nS h1133) h1135 h1137 h1136)
        refine mr_lvS (lv' := [(0, .ref 94), (1, .ref 2), (2, iv p2), (3, iv p3), (4, iv f_p), (5, iv z1126), (6, iv ((f_p * 5) + z1126)), (7, iv 0), (8, iv 0)]) (List.forall_mem_cons.mpr ⟨rfl, List.forall_mem_cons.mpr ⟨rfl, List.forall_mem_cons.mpr ⟨rfl, List.forall_mem_cons.mpr ⟨rfl, List.forall_mem_cons.mpr ⟨rfl, List.forall_mem_cons.mpr ⟨rfl, List.forall_mem_cons.mpr ⟨rfl, List.forall_mem_cons.mpr ⟨rfl, List.forall_mem_cons.mpr ⟨rfl, fun _ h => absurd h List.not_mem_nil⟩⟩⟩⟩⟩⟩⟩⟩⟩) ?_
        exact L1152 2 0 0 trivial (rR (x := 0)) (rR (x := 0)) (mtI.start q1139 vc_X12_isOffered_v_15 (vc_X4_find_v_16 h1141 hp3 h1140)) vc_X8_lastStanding_7
      refine mr_iconst (pc := 40) (z := 1) dX4_find_40 ?_
      refine sv_goto (pc := 41) (tgt := 45) dX4_find_41 (by decide) ?_
      refine mr_istore (pc := 45) (lv' := [(7, iv 1), (6, iv ((f_p * 5) + z1126)), (0, .ref 94), (1, .ref 2), (2, iv p2), (3, iv p3), (4, iv f_p), (5, iv z1126)]) dX4_find_45 (by decide) rfl ?_
      refine mr_iconst (pc := 47) (z := 0) dX4_find_47 ?_
      refine mr_istore (pc := 48) (lv' := [(8, iv 0), (7, iv 1), (6, iv ((f_p * 5) + z1126)), (0, .ref 94), (1, .ref 2), (2, iv p2), (3, iv p3), (4, iv f_p), (5, iv z1126)]) dX4_find_48 (by decide) rfl ?_
      have L1282 : ∀ (nL1282 : Nat) (z1281 z1280 : Int), True → (0 ≤ z1281 ∧ z1281 ≤ 1) → (0 ≤ z1280 ∧ z1280 ≤ 7) → mtI μ 97 96 7 2 (((f_p * 5) + z1126)).toNat p3 z1280 z1281 → (8 - z1280) < (nL1282 : Int) → sV (gG l D c H0 sa) mX4_find (sRm 1 0 0) (sZ (gG l D c H0 sa) 0 0 (qP w μ (fun z => ((-1) ≤ z ∧ z ≤ 4) ∧ (z < 0 → noW μ 97 96 7 2 f_p p3 f_c) ∧ (0 ≤ z → hasW μ 97 96 7 2 f_p p3 f_c) ∧ True))) 50 [(0, .ref 94), (1, .ref 2), (2, iv p2), (3, iv p3), (4, iv f_p), (5, iv z1126), (6, iv ((f_p * 5) + z1126)), (7, iv z1281), (8, iv z1280)] [] (mk w μ) 0 0 := by
        intro nL1282
        induction nL1282 with
        | zero => intro z1281 z1280 _ h1283 h1284 R1288 h1289; exact ((vc_X12_isOffered_3 h1289 h1284)).elim
        | succ nL1282 ih1290 =>
          intro z1281 z1280 _ h1283 h1284 R1288 h1289
          refine mr_iload (pc := 50) (z := z1280) dX4_find_50 rfl ?_
          refine mr_iload_n (pc := 52) (z := p3) dX4_find_52 rfl rfl ?_
          refine mr_icmp_ge (pc := 53) (tgt := 96) dX4_find_53 (by decide) (r32 h1284 rfl) (r32 hp3 rfl) (fun h1291 => ?_) (fun h1291 => ?_)
          · refine mr_iload (pc := 96) (z := z1281) dX4_find_96 rfl ?_
            refine mr_if_eq (pc := 98) (tgt := 104) dX4_find_98 (by decide) (r32 h1283 rfl) (fun h1292 => ?_) (fun h1292 => ?_)
            · have h1293 : 0 ≤ z1281 ∧ z1281 ≤ 0 := (vc_X12_ring_22 h1292 h1283)
              refine mr_iinc (pc := 104) (lv' := [(5, iv (z1126 + 1)), (0, .ref 94), (1, .ref 2), (2, iv p2), (3, iv p3), (4, iv f_p), (6, iv ((f_p * 5) + z1126)), (7, iv z1281), (8, iv z1280)]) dX4_find_104 rfl (by decide) rfl ?_
              refine sv_goto (pc := 107) (tgt := 8) dX4_find_107 (by decide) ?_
              refine mr_lvS (lv' := [(0, .ref 94), (1, .ref 2), (2, iv p2), (3, iv p3), (4, iv f_p), (5, iv (z1126 + 1))]) (List.forall_mem_cons.mpr ⟨rfl, List.forall_mem_cons.mpr ⟨rfl, List.forall_mem_cons.mpr ⟨rfl, List.forall_mem_cons.mpr ⟨rfl, List.forall_mem_cons.mpr ⟨rfl, List.forall_mem_cons.mpr ⟨rfl, fun _ h => absurd h List.not_mem_nil⟩⟩⟩⟩⟩⟩) ?_
              exact ih1134 (z1126 + 1) trivial (rW (c := 0) (d := 5) (rAdd (e := 1) (f := 5) h1136 (rR (x := 1)) rfl) rfl) (noW.next R1132 (vc_X12_acted_w_15 h1135 h1137 h1136) (vc_X4_find_v_11 hq0 h1135 h1137 h1 h1136) ((R1288).2 (vc_X12_acted_w_17 h1292 h1293))) (vc_X4_actOf_6 (nS h1133) h1135 h1137 h1136)
            have h1294 : 1 ≤ z1281 ∧ z1281 ≤ 1 := (vc_X12_ring_24 h1292 h1283)
            refine mr_iload (pc := 101) (z := z1126) dX4_find_101 rfl ?_
            exact mr_iretP dX4_find_103 rfl (le_t rfl) (le_t rfl) ⟨(rW (c := (-1)) (d := 4) h1136 rfl), (fun h => absurd h (vc_X4_find_v_21 h1135 h1137 h1136)), (fun _ => hasW.of (vc_X12_acted_w_20 h1135 h1137 h1136) (vc_X4_find_v_11 hq0 h1135 h1137 h1 h1136) ((R1288).yes (vc_X12_best_l_18 h1292 h1294) (vc_X4_find_v_24 h1141 h1291 hp3 h1140 h1284))), trivial⟩
          have h1295 : 0 ≤ z1280 ∧ z1280 ≤ 6 := (vc_X4_find_v_25 h1291 h1141 hp3 h1140 h1284)
          have h1296 : 1 ≤ p3 ∧ p3 ≤ 7 := (vc_X4_find_v_26 h1291 h1141 hp3 h1140 h1295)
          refine mr_iload (pc := 56) (z := z1281) dX4_find_56 rfl ?_
          refine mr_if_eq (pc := 58) (tgt := 96) dX4_find_58 (by decide) (r32 h1283 rfl) (fun h1297 => ?_) (fun h1297 => ?_)
          · have h1298 : 0 ≤ z1281 ∧ z1281 ≤ 0 := (vc_X12_ring_22 h1297 h1283)
            refine mr_iload (pc := 96) (z := z1281) dX4_find_96 rfl ?_
            refine mr_if_eq (pc := 98) (tgt := 104) dX4_find_98 (by decide) (r32 h1298 rfl) (fun _ => ?_) (fun h => ((vc_X10_firstWrongStep_7 h h1298)).elim)
            refine mr_iinc (pc := 104) (lv' := [(5, iv (z1126 + 1)), (0, .ref 94), (1, .ref 2), (2, iv p2), (3, iv p3), (4, iv f_p), (6, iv ((f_p * 5) + z1126)), (7, iv z1281), (8, iv z1280)]) dX4_find_104 rfl (by decide) rfl ?_
            refine sv_goto (pc := 107) (tgt := 8) dX4_find_107 (by decide) ?_
            refine mr_lvS (lv' := [(0, .ref 94), (1, .ref 2), (2, iv p2), (3, iv p3), (4, iv f_p), (5, iv (z1126 + 1))]) (List.forall_mem_cons.mpr ⟨rfl, List.forall_mem_cons.mpr ⟨rfl, List.forall_mem_cons.mpr ⟨rfl, List.forall_mem_cons.mpr ⟨rfl, List.forall_mem_cons.mpr ⟨rfl, List.forall_mem_cons.mpr ⟨rfl, fun _ h => absurd h List.not_mem_nil⟩⟩⟩⟩⟩⟩) ?_
            exact ih1134 (z1126 + 1) trivial (rW (c := 0) (d := 5) (rAdd (e := 1) (f := 5) h1136 (rR (x := 1)) rfl) rfl) (noW.next R1132 (vc_X12_acted_w_15 h1135 h1137 h1136) (vc_X4_find_v_11 hq0 h1135 h1137 h1 h1136) ((R1288).2 (vc_X12_acted_w_17 h1297 h1298))) (vc_X4_actOf_6 (nS h1133) h1135 h1137 h1136)
          have h1299 : 1 ≤ z1281 ∧ z1281 ≤ 1 := (vc_X12_ring_24 h1297 h1283)
          refine sv_aload_n (pc := 61) dX4_find_61 rfl rfl ?_
          refine gf_X4_0 (pc := 62) dX4_find_62 wF_X4_15 (A_94 hw) hT ?_
          refine mr_iload (pc := 65) (z := ((f_p * 5) + z1126)) dX4_find_65 rfl ?_
          refine mr_bipush (pc := 67) (z := 7) dX4_find_67 (by decide) ?_
          refine mr_imul (pc := 69) (x := ((f_p * 5) + z1126)) (y := 7) dX4_find_69 ?_
          refine mr_iload (pc := 70) (z := z1280) dX4_find_70 rfl ?_
          refine mr_iadd (pc := 72) (x := (((f_p * 5) + z1126) * 7)) (y := z1280) dX4_find_72 ?_
          refine la_96 (pc := 73) dX4_find_73 (A_96 hw) hT (rIx (n := 245) (rAdd (e := 0) (f := 244) (rMulR (n := 7) (e := 0) (f := 238) (rAdd (e := 0) (f := 34) (rMulR (n := 5) (e := 0) (f := 30) h1 rfl) h1136 rfl) rfl) h1295 rfl) rfl) fun z1300 q1301 h1302 => ?_
          refine sv_aload_n (pc := 74) dX4_find_74 rfl rfl ?_
          refine mr_iload_n (pc := 75) (z := p2) dX4_find_75 rfl rfl ?_
          refine mr_iload (pc := 76) (z := z1280) dX4_find_76 rfl ?_
          refine mr_iadd (pc := 78) (x := p2) (y := z1280) dX4_find_78 ?_
          refine la_2 (pc := 79) dX4_find_79 (A_2 hw) hT (rIx (n := 20) (rAdd (e := 0) (f := 6) hp2 h1295 rfl) rfl) fun z1303 q1304 h1305 => ?_
          refine mr_icmp_ne (pc := 80) (tgt := 87) dX4_find_80 (by decide) (r32 h1302 rfl) (r32 h1305 rfl) (fun h1306 => ?_) (fun h1306 => ?_)
          · refine mr_iconst (pc := 87) (z := 0) dX4_find_87 ?_
            refine mr_istore (pc := 88) (lv' := [(7, iv 0), (0, .ref 94), (1, .ref 2), (2, iv p2), (3, iv p3), (4, iv f_p), (5, iv z1126), (6, iv ((f_p * 5) + z1126)), (8, iv z1280)]) dX4_find_88 (by decide) rfl ?_
            refine mr_iinc (pc := 90) (lv' := [(8, iv (z1280 + 1)), (7, iv 0), (0, .ref 94), (1, .ref 2), (2, iv p2), (3, iv p3), (4, iv f_p), (5, iv z1126), (6, iv ((f_p * 5) + z1126))]) dX4_find_90 rfl (by decide) rfl ?_
            refine sv_goto (pc := 93) (tgt := 50) dX4_find_93 (by decide) ?_
            refine mr_lvS (lv' := [(0, .ref 94), (1, .ref 2), (2, iv p2), (3, iv p3), (4, iv f_p), (5, iv z1126), (6, iv ((f_p * 5) + z1126)), (7, iv 0), (8, iv (z1280 + 1))]) (List.forall_mem_cons.mpr ⟨rfl, List.forall_mem_cons.mpr ⟨rfl, List.forall_mem_cons.mpr ⟨rfl, List.forall_mem_cons.mpr ⟨rfl, List.forall_mem_cons.mpr ⟨rfl, List.forall_mem_cons.mpr ⟨rfl, List.forall_mem_cons.mpr ⟨rfl, List.forall_mem_cons.mpr ⟨rfl, List.forall_mem_cons.mpr ⟨rfl, fun _ h => absurd h List.not_mem_nil⟩⟩⟩⟩⟩⟩⟩⟩⟩) ?_
            exact ih1290 0 (z1280 + 1) trivial (rW (c := 0) (d := 1) (rR (x := 0)) rfl) (rW (c := 0) (d := 7) (rAdd (e := 1) (f := 7) h1295 (rR (x := 1)) rfl) rfl) (mtI.next R1288 (vc_X12_best_l_18 h1297 h1299) (vc_X4_find_v_29 h1141 h1291 h1296 h1140 h1295) q1301 (vc_X4_find_v_30 hq0 h1135 h1291 h1141 h1137 h1 h1296 h1136 h1140 h1295) q1304 (vc_X4_find_v_31 h1291 h1141 hp2 h1296 h1140 h1295) (vc_X4_find_v_32 h1306 h1302 h1305)) (vc_X4_find_v_28 (nS h1289) h1291 h1141 h1296 h1140 h1295)
          have h1307 : 0 ≤ z1303 ∧ z1303 ≤ 6 := (vc_X4_find_v_33 h1306 h1302 h1305)
          refine mr_iconst (pc := 83) (z := 1) dX4_find_83 ?_
          refine sv_goto (pc := 84) (tgt := 88) dX4_find_84 (by decide) ?_
          refine mr_istore (pc := 88) (lv' := [(7, iv 1), (0, .ref 94), (1, .ref 2), (2, iv p2), (3, iv p3), (4, iv f_p), (5, iv z1126), (6, iv ((f_p * 5) + z1126)), (8, iv z1280)]) dX4_find_88 (by decide) rfl ?_
          refine mr_iinc (pc := 90) (lv' := [(8, iv (z1280 + 1)), (7, iv 1), (0, .ref 94), (1, .ref 2), (2, iv p2), (3, iv p3), (4, iv f_p), (5, iv z1126), (6, iv ((f_p * 5) + z1126))]) dX4_find_90 rfl (by decide) rfl ?_
          refine sv_goto (pc := 93) (tgt := 50) dX4_find_93 (by decide) ?_
          refine mr_lvS (lv' := [(0, .ref 94), (1, .ref 2), (2, iv p2), (3, iv p3), (4, iv f_p), (5, iv z1126), (6, iv ((f_p * 5) + z1126)), (7, iv 1), (8, iv (z1280 + 1))]) (List.forall_mem_cons.mpr ⟨rfl, List.forall_mem_cons.mpr ⟨rfl, List.forall_mem_cons.mpr ⟨rfl, List.forall_mem_cons.mpr ⟨rfl, List.forall_mem_cons.mpr ⟨rfl, List.forall_mem_cons.mpr ⟨rfl, List.forall_mem_cons.mpr ⟨rfl, List.forall_mem_cons.mpr ⟨rfl, List.forall_mem_cons.mpr ⟨rfl, fun _ h => absurd h List.not_mem_nil⟩⟩⟩⟩⟩⟩⟩⟩⟩) ?_
          exact ih1290 1 (z1280 + 1) trivial (rW (c := 0) (d := 1) (rR (x := 1)) rfl) (rW (c := 0) (d := 7) (rAdd (e := 1) (f := 7) h1295 (rR (x := 1)) rfl) rfl) (mtI.next R1288 (vc_X12_best_l_18 h1297 h1299) (vc_X4_find_v_29 h1141 h1291 h1296 h1140 h1295) q1301 (vc_X4_find_v_30 hq0 h1135 h1291 h1141 h1137 h1 h1296 h1136 h1140 h1295) q1304 (vc_X4_find_v_31 h1291 h1141 hp2 h1296 h1140 h1295) (vc_X4_find_v_34 h1306 h1302 h1307)) (vc_X4_find_v_28 (nS h1289) h1291 h1141 h1296 h1140 h1295)
      refine mr_lvS (lv' := [(0, .ref 94), (1, .ref 2), (2, iv p2), (3, iv p3), (4, iv f_p), (5, iv z1126), (6, iv ((f_p * 5) + z1126)), (7, iv 1), (8, iv 0)]) (List.forall_mem_cons.mpr ⟨rfl, List.forall_mem_cons.mpr ⟨rfl, List.forall_mem_cons.mpr ⟨rfl, List.forall_mem_cons.mpr ⟨rfl, List.forall_mem_cons.mpr ⟨rfl, List.forall_mem_cons.mpr ⟨rfl, List.forall_mem_cons.mpr ⟨rfl, List.forall_mem_cons.mpr ⟨rfl, List.forall_mem_cons.mpr ⟨rfl, fun _ h => absurd h List.not_mem_nil⟩⟩⟩⟩⟩⟩⟩⟩⟩) ?_
      exact L1282 9 1 0 trivial (rW (c := 0) (d := 1) (rR (x := 1)) rfl) (rW (c := 0) (d := 7) (rR (x := 0)) rfl) (mtI.start q1139 vc_X12_isOffered_v_15 (vc_X4_find_v_36 h1141 hp3 h1140)) vc_X12_isOffered_10
  refine mr_lvS (lv' := [(0, .ref 94), (1, .ref 2), (2, iv p2), (3, iv p3), (4, iv f_p), (5, iv 0)]) (List.forall_mem_cons.mpr ⟨rfl, List.forall_mem_cons.mpr ⟨rfl, List.forall_mem_cons.mpr ⟨rfl, List.forall_mem_cons.mpr ⟨rfl, List.forall_mem_cons.mpr ⟨rfl, List.forall_mem_cons.mpr ⟨rfl, fun _ h => absurd h List.not_mem_nil⟩⟩⟩⟩⟩⟩) ?_
  exact L1127 7 0 trivial (rW (c := 0) (d := 5) (rR (x := 0)) rfl) (noW.zero vc_X12_isOffered_v_15) vc_X4_actOf_9
theorem vc_X12_isWished_v_1 {f_hands : Int} (h0 : f_hands ≤ 7) (h1 : 0 ≤ f_hands ∧ f_hands ≤ 20) : 0 ≤ f_hands ∧ f_hands ≤ 7 := by omega
theorem vc_X12_isWished_v_3 {f_hands z227 z239 : Int} (h0 : f_hands ≤ z239) (h1 : f_hands ≤ 7) (h2 : ¬ z227 = f_hands) (h3 : 0 ≤ f_hands ∧ f_hands ≤ 7) (h4 : 0 ≤ z227 ∧ z227 ≤ 7) (h5 : 0 ≤ z239 ∧ z239 ≤ 0) : 0 ≤ f_hands ∧ f_hands ≤ 0 := by omega
theorem vc_X12_isWished_v_5 {f_hands z227 z239 : Int} (h0 : z239 < f_hands) (h1 : f_hands ≤ 7) (h2 : ¬ z227 = f_hands) (h3 : 0 ≤ f_hands ∧ f_hands ≤ 7) (h4 : 0 ≤ z227 ∧ z227 ≤ 7) (h5 : 0 ≤ z239 ∧ z239 ≤ 0) : 1 ≤ f_hands ∧ f_hands ≤ 7 := by omega
theorem vc_X12_isWished_v_9 {f_hands z227 : Int} (h0 : f_hands ≤ 7) (h1 : ¬ z227 = f_hands) (h2 : 0 ≤ f_hands ∧ f_hands ≤ 7) (h3 : 0 ≤ z227 ∧ z227 ≤ 7) : (z227 = f_hands ∧ (0 : Int) = 1) ∨ (¬ z227 = f_hands ∧ (0 : Int) = 0) := by omega
theorem vc_X12_isWished_v_11 {f_hands z227 z355 : Int} (h0 : f_hands ≤ 7) (h1 : z227 = f_hands) (h2 : f_hands ≤ z355) (h3 : 0 ≤ f_hands ∧ f_hands ≤ 7) (h4 : 0 ≤ z227 ∧ z227 ≤ 7) (h5 : 0 ≤ z355 ∧ z355 ≤ 7) : f_hands ≤ z355 := by omega
theorem vc_X12_isWished_v_12 {f_hands z227 z355 : Int} (h0 : z355 < f_hands) (h1 : f_hands ≤ 7) (h2 : z227 = f_hands) (h3 : 0 ≤ f_hands ∧ f_hands ≤ 7) (h4 : 0 ≤ z227 ∧ z227 ≤ 7) (h5 : 0 ≤ z355 ∧ z355 ≤ 7) : 0 ≤ z355 ∧ z355 ≤ 6 := by omega
theorem vc_X12_isWished_v_13 {f_hands z227 z355 : Int} (h0 : z355 < f_hands) (h1 : f_hands ≤ 7) (h2 : z227 = f_hands) (h3 : 0 ≤ f_hands ∧ f_hands ≤ 7) (h4 : 0 ≤ z227 ∧ z227 ≤ 7) (h5 : 0 ≤ z355 ∧ z355 ≤ 6) : 1 ≤ f_hands ∧ f_hands ≤ 7 := by omega
theorem vc_X12_isWished_v_17 {N f_hands z227 z355 : Int} (h0 : (8 - z355) < N + 1) (h1 : z355 < f_hands) (h2 : f_hands ≤ 7) (h3 : z227 = f_hands) (h4 : 1 ≤ f_hands ∧ f_hands ≤ 7) (h5 : 0 ≤ z227 ∧ z227 ≤ 7) (h6 : 0 ≤ z355 ∧ z355 ≤ 6) : (8 - (z355 + 1)) < N := by omega
theorem vc_X12_isWished_v_19 {f_hands z227 z355 : Int} (h0 : f_hands ≤ 7) (h1 : z227 = f_hands) (h2 : z355 < f_hands) (h3 : 1 ≤ f_hands ∧ f_hands ≤ 7) (h4 : 0 ≤ z227 ∧ z227 ≤ 7) (h5 : 0 ≤ z355 ∧ z355 ≤ 6) : 0 ≤ z355 ∧ z355 < f_hands := by omega
theorem vc_X12_isWished_v_20 {f_hands p1 p2 z227 z355 : Int} (h0 : z355 < f_hands) (h1 : f_hands ≤ 7) (h2 : z227 = f_hands) (h3 : 1 ≤ f_hands ∧ f_hands ≤ 7) (h4 : 0 ≤ p1 ∧ p1 ≤ 6) (h5 : 0 ≤ p2 ∧ p2 ≤ 4) (h6 : 0 ≤ z227 ∧ z227 ≤ 7) (h7 : 0 ≤ z355 ∧ z355 ≤ 6) : 0 ≤ ((5 * p1) + p2) ∧ ((8 * ((5 * p1) + p2)) + z355) = ((8 : Nat) : Int) * (((5 * p1) + p2)) + z355 := by omega
theorem vc_X12_isWished_v_25 {f_hands z227 : Int} (h0 : f_hands ≤ 7) (h1 : z227 = f_hands) (h2 : 0 ≤ f_hands ∧ f_hands ≤ 7) (h3 : 0 ≤ z227 ∧ z227 ≤ 7) : (z227 = f_hands ∧ (1 : Int) = 1) ∨ (¬ z227 = f_hands ∧ (1 : Int) = 0) := by omega
set_option maxRecDepth 4000 in
set_option maxHeartbeats 4000000 in
theorem c_X12_isWished_v {l : Launch} {D : va_G} {c : Nat → ClassId} {H0 : Heap} {sa : Nat × Nat × (Nat → Int32)} {w : mW} {μ : mM} (hw : mWF w) (hT : mT w μ) {p1 : Int} (hp1 : 0 ≤ p1 ∧ p1 ≤ 6) {p2 : Int} (hp2 : 0 ≤ p2 ∧ p2 ≤ 4) {f_hands : Int} (q_f_hands : μ 106 15 = f_hands) (hq0 : f_hands ≤ 7) : sC (gG l D c H0 sa) mX12_isWished 1 0 0 [.ref 106, iv p1, iv p2] (mk w μ) (qP w μ (fun z => (0 ≤ z ∧ z ≤ 1) ∧ (z = 1 → mtW μ 185 186 8 118 ((5 * p1) + p2).toNat f_hands) ∧ (¬ z = 1 → ¬ mtW μ 185 186 8 118 ((5 * p1) + p2).toNat f_hands) ∧ True)) := by
  refine sC.of rfl (by decide) (le_t rfl) ?_
  have ht_f_hands : (0 ≤ f_hands ∧ f_hands ≤ 20) := by rw [← q_f_hands]; exact hT 106 106 (A_106 hw) 15
  have h1 : 0 ≤ f_hands ∧ f_hands ≤ 7 := (vc_X12_isWished_v_1 hq0 ht_f_hands)
  refine mr_lvE (lv' := [(0, .ref 106), (1, iv p1), (2, iv p2)]) rfl ?_
  refine sv_aload_n (pc := 0) dX12_isWished_0 rfl rfl ?_
  refine gf_X12_119 (pc := 1) dX12_isWished_1 wF_X12_517 (A_106 hw) hT ?_
  refine mr_iconst (pc := 4) (z := 5) dX12_isWished_4 ?_
  refine mr_iload_n (pc := 5) (z := p1) dX12_isWished_5 rfl rfl ?_
  refine mr_imul (pc := 6) (x := 5) (y := p1) dX12_isWished_6 ?_
  refine mr_iload_n (pc := 7) (z := p2) dX12_isWished_7 rfl rfl ?_
  refine mr_iadd (pc := 8) (x := (5 * p1)) (y := p2) dX12_isWished_8 ?_
  refine la_185 (pc := 9) dX12_isWished_9 (A_185 hw) hT (rIx (n := 35) (rAdd (e := 0) (f := 34) (rMulL (n := 5) (e := 0) (f := 30) hp1 rfl) hp2 rfl) rfl) fun z227 q228 h229 => ?_
  refine sv_aload_n (pc := 10) dX12_isWished_10 rfl rfl ?_
  refine gk_X12_15 (pc := 11) dX12_isWished_11 wF_X12_79 (A_106 hw) q_f_hands ?_
  refine mr_icmp_ne (pc := 14) (tgt := 21) dX12_isWished_14 (by decide) (r32 h229 rfl) (r32 h1 rfl) (fun h230 => ?_) (fun h230 => ?_)
  · refine mr_iconst (pc := 21) (z := 0) dX12_isWished_21 ?_
    refine mr_istore_n (pc := 22) (lv' := [(3, iv 0), (0, .ref 106), (1, iv p1), (2, iv p2)]) dX12_isWished_22 rfl (by decide) rfl ?_
    refine mr_iconst (pc := 23) (z := 0) dX12_isWished_23 ?_
    refine mr_istore (pc := 24) (lv' := [(4, iv 0), (3, iv 0), (0, .ref 106), (1, iv p1), (2, iv p2)]) dX12_isWished_24 (by decide) rfl ?_
    have L241 : ∀ (nL241 : Nat) (z240 z239 : Int), True → (0 ≤ z240 ∧ z240 ≤ 0) → (0 ≤ z239 ∧ z239 ≤ 0) → mtI μ 185 186 8 118 ((5 * p1) + p2).toNat f_hands z239 z240 → 1 < (nL241 : Int) → sV (gG l D c H0 sa) mX12_isWished (sRm 1 0 0) (sZ (gG l D c H0 sa) 0 0 (qP w μ (fun z => (0 ≤ z ∧ z ≤ 1) ∧ (z = 1 → mtW μ 185 186 8 118 ((5 * p1) + p2).toNat f_hands) ∧ (¬ z = 1 → ¬ mtW μ 185 186 8 118 ((5 * p1) + p2).toNat f_hands) ∧ True))) 26 [(0, .ref 106), (1, iv p1), (2, iv p2), (3, iv z240), (4, iv z239)] [] (mk w μ) 0 0 := by
      intro nL241
      induction nL241 with
      | zero => intro z240 z239 _ h242 h243 R247 h248; exact ((vc_X8_lastStanding_2 h248)).elim
      | succ nL241 ih249 =>
        intro z240 z239 _ h242 h243 R247 h248
        refine mr_iload (pc := 26) (z := z239) dX12_isWished_26 rfl ?_
        refine sv_aload_n (pc := 28) dX12_isWished_28 rfl rfl ?_
        refine gk_X12_15 (pc := 29) dX12_isWished_29 wF_X12_79 (A_106 hw) q_f_hands ?_
        refine mr_icmp_ge (pc := 32) (tgt := 77) dX12_isWished_32 (by decide) (r32 h243 rfl) (r32 h1 rfl) (fun h250 => ?_) (fun h250 => ?_)
        · have h251 : 0 ≤ f_hands ∧ f_hands ≤ 0 := (vc_X12_isWished_v_3 h250 hq0 h230 h1 h229 h243)
          refine mr_iload_n (pc := 77) (z := z240) dX12_isWished_77 rfl rfl ?_
          exact mr_zretP dX12_isWished_78 rfl (rW (c := 0) (d := 1) h242 rfl) (le_t rfl) (le_t rfl) ⟨(rW (c := 0) (d := 1) h242 rfl), (fun h => absurd h (vc_X4_find_n_11 h242)), (fun h => (R247).2 h), trivial⟩
        have h252 : 1 ≤ f_hands ∧ f_hands ≤ 7 := (vc_X12_isWished_v_5 h250 hq0 h230 h1 h229 h243)
        refine mr_iload_n (pc := 35) (z := z240) dX12_isWished_35 rfl rfl ?_
        refine mr_if_eq (pc := 36) (tgt := 77) dX12_isWished_36 (by decide) (r32 h242 rfl) (fun _ => ?_) (fun h => ((vc_X10_firstWrongStep_7 h h242)).elim)
        refine mr_iload_n (pc := 77) (z := z240) dX12_isWished_77 rfl rfl ?_
        exact mr_zretP dX12_isWished_78 rfl (rW (c := 0) (d := 1) h242 rfl) (le_t rfl) (le_t rfl) ⟨(rW (c := 0) (d := 1) h242 rfl), (fun h => absurd h (vc_X4_find_n_11 h242)), (fun h => (R247).2 h), trivial⟩
    refine mr_lvS (lv' := [(0, .ref 106), (1, iv p1), (2, iv p2), (3, iv 0), (4, iv 0)]) (List.forall_mem_cons.mpr ⟨rfl, List.forall_mem_cons.mpr ⟨rfl, List.forall_mem_cons.mpr ⟨rfl, List.forall_mem_cons.mpr ⟨rfl, List.forall_mem_cons.mpr ⟨rfl, fun _ h => absurd h List.not_mem_nil⟩⟩⟩⟩⟩) ?_
    exact L241 2 0 0 trivial (rR (x := 0)) (rR (x := 0)) (mtI.start q228 vc_X12_isOffered_v_15 (vc_X12_isWished_v_9 hq0 h230 h1 h229)) vc_X8_lastStanding_7
  refine mr_iconst (pc := 17) (z := 1) dX12_isWished_17 ?_
  refine sv_goto (pc := 18) (tgt := 22) dX12_isWished_18 (by decide) ?_
  refine mr_istore_n (pc := 22) (lv' := [(3, iv 1), (0, .ref 106), (1, iv p1), (2, iv p2)]) dX12_isWished_22 rfl (by decide) rfl ?_
  refine mr_iconst (pc := 23) (z := 0) dX12_isWished_23 ?_
  refine mr_istore (pc := 24) (lv' := [(4, iv 0), (3, iv 1), (0, .ref 106), (1, iv p1), (2, iv p2)]) dX12_isWished_24 (by decide) rfl ?_
  have L357 : ∀ (nL357 : Nat) (z356 z355 : Int), True → (0 ≤ z356 ∧ z356 ≤ 1) → (0 ≤ z355 ∧ z355 ≤ 7) → mtI μ 185 186 8 118 ((5 * p1) + p2).toNat f_hands z355 z356 → (8 - z355) < (nL357 : Int) → sV (gG l D c H0 sa) mX12_isWished (sRm 1 0 0) (sZ (gG l D c H0 sa) 0 0 (qP w μ (fun z => (0 ≤ z ∧ z ≤ 1) ∧ (z = 1 → mtW μ 185 186 8 118 ((5 * p1) + p2).toNat f_hands) ∧ (¬ z = 1 → ¬ mtW μ 185 186 8 118 ((5 * p1) + p2).toNat f_hands) ∧ True))) 26 [(0, .ref 106), (1, iv p1), (2, iv p2), (3, iv z356), (4, iv z355)] [] (mk w μ) 0 0 := by
    intro nL357
    induction nL357 with
    | zero => intro z356 z355 _ h358 h359 R363 h364; exact ((vc_X12_isOffered_3 h364 h359)).elim
    | succ nL357 ih365 =>
      intro z356 z355 _ h358 h359 R363 h364
      refine mr_iload (pc := 26) (z := z355) dX12_isWished_26 rfl ?_
      refine sv_aload_n (pc := 28) dX12_isWished_28 rfl rfl ?_
      refine gk_X12_15 (pc := 29) dX12_isWished_29 wF_X12_79 (A_106 hw) q_f_hands ?_
      refine mr_icmp_ge (pc := 32) (tgt := 77) dX12_isWished_32 (by decide) (r32 h359 rfl) (r32 h1 rfl) (fun h366 => ?_) (fun h366 => ?_)
      · refine mr_iload_n (pc := 77) (z := z356) dX12_isWished_77 rfl rfl ?_
        exact mr_zretP dX12_isWished_78 rfl h358 (le_t rfl) (le_t rfl) ⟨h358, (fun h => (R363).yes h (vc_X12_isWished_v_11 hq0 h230 h366 h1 h229 h359)), (fun h => (R363).2 h), trivial⟩
      have h367 : 0 ≤ z355 ∧ z355 ≤ 6 := (vc_X12_isWished_v_12 h366 hq0 h230 h1 h229 h359)
      have h368 : 1 ≤ f_hands ∧ f_hands ≤ 7 := (vc_X12_isWished_v_13 h366 hq0 h230 h1 h229 h367)
      refine mr_iload_n (pc := 35) (z := z356) dX12_isWished_35 rfl rfl ?_
      refine mr_if_eq (pc := 36) (tgt := 77) dX12_isWished_36 (by decide) (r32 h358 rfl) (fun h369 => ?_) (fun h369 => ?_)
      · have h370 : 0 ≤ z356 ∧ z356 ≤ 0 := (vc_X12_ring_22 h369 h358)
        refine mr_iload_n (pc := 77) (z := z356) dX12_isWished_77 rfl rfl ?_
        exact mr_zretP dX12_isWished_78 rfl (rW (c := 0) (d := 1) h370 rfl) (le_t rfl) (le_t rfl) ⟨(rW (c := 0) (d := 1) h370 rfl), (fun h => absurd h (vc_X12_acted_w_17 h369 h370)), (fun h => (R363).2 h), trivial⟩
      have h371 : 1 ≤ z356 ∧ z356 ≤ 1 := (vc_X12_ring_24 h369 h358)
      refine sv_aload_n (pc := 39) dX12_isWished_39 rfl rfl ?_
      refine gf_X12_120 (pc := 40) dX12_isWished_40 wF_X12_520 (A_106 hw) hT ?_
      refine mr_bipush (pc := 43) (z := 8) dX12_isWished_43 (by decide) ?_
      refine mr_iconst (pc := 45) (z := 5) dX12_isWished_45 ?_
      refine mr_iload_n (pc := 46) (z := p1) dX12_isWished_46 rfl rfl ?_
      refine mr_imul (pc := 47) (x := 5) (y := p1) dX12_isWished_47 ?_
      refine mr_iload_n (pc := 48) (z := p2) dX12_isWished_48 rfl rfl ?_
      refine mr_iadd (pc := 49) (x := (5 * p1)) (y := p2) dX12_isWished_49 ?_
      refine mr_imul (pc := 50) (x := 8) (y := ((5 * p1) + p2)) dX12_isWished_50 ?_
      refine mr_iload (pc := 51) (z := z355) dX12_isWished_51 rfl ?_
      refine mr_iadd (pc := 53) (x := (8 * ((5 * p1) + p2))) (y := z355) dX12_isWished_53 ?_
      refine la_186 (pc := 54) dX12_isWished_54 (A_186 hw) hT (rIx (n := 280) (rAdd (e := 0) (f := 278) (rMulL (n := 8) (e := 0) (f := 272) (rAdd (e := 0) (f := 34) (rMulL (n := 5) (e := 0) (f := 30) hp1 rfl) hp2 rfl) rfl) h367 rfl) rfl) fun z372 q373 h374 => ?_
      refine sv_aload_n (pc := 55) dX12_isWished_55 rfl rfl ?_
      refine gf_X12_16 (pc := 56) dX12_isWished_56 wF_X12_82 (A_106 hw) hT ?_
      refine mr_iload (pc := 59) (z := z355) dX12_isWished_59 rfl ?_
      refine la_118 (pc := 61) dX12_isWished_61 (A_118 hw) hT (rIx (n := 20) h367 rfl) fun z375 q376 h377 => ?_
      refine mr_icmp_ne (pc := 62) (tgt := 69) dX12_isWished_62 (by decide) (r32 h374 rfl) (r32 h377 rfl) (fun h378 => ?_) (fun h378 => ?_)
      · refine mr_iconst (pc := 69) (z := 0) dX12_isWished_69 ?_
        refine mr_istore_n (pc := 70) (lv' := [(3, iv 0), (0, .ref 106), (1, iv p1), (2, iv p2), (4, iv z355)]) dX12_isWished_70 rfl (by decide) rfl ?_
        refine mr_iinc (pc := 71) (lv' := [(4, iv (z355 + 1)), (3, iv 0), (0, .ref 106), (1, iv p1), (2, iv p2)]) dX12_isWished_71 rfl (by decide) rfl ?_
        refine sv_goto (pc := 74) (tgt := 26) dX12_isWished_74 (by decide) ?_
        refine mr_lvS (lv' := [(0, .ref 106), (1, iv p1), (2, iv p2), (3, iv 0), (4, iv (z355 + 1))]) (List.forall_mem_cons.mpr ⟨rfl, List.forall_mem_cons.mpr ⟨rfl, List.forall_mem_cons.mpr ⟨rfl, List.forall_mem_cons.mpr ⟨rfl, List.forall_mem_cons.mpr ⟨rfl, fun _ h => absurd h List.not_mem_nil⟩⟩⟩⟩⟩) ?_
        exact ih365 0 (z355 + 1) trivial (rW (c := 0) (d := 1) (rR (x := 0)) rfl) (rW (c := 0) (d := 7) (rAdd (e := 1) (f := 7) h367 (rR (x := 1)) rfl) rfl) (mtI.next R363 (vc_X12_best_l_18 h369 h371) (vc_X12_isWished_v_19 hq0 h230 h366 h368 h229 h367) q373 (vc_X12_isWished_v_20 h366 hq0 h230 h368 hp1 hp2 h229 h367) q376 rfl (vc_X4_find_v_32 h378 h374 h377)) (vc_X12_isWished_v_17 (nS h364) h366 hq0 h230 h368 h229 h367)
      have h379 : 0 ≤ z375 ∧ z375 ≤ 6 := (vc_X4_find_v_33 h378 h374 h377)
      refine mr_iconst (pc := 65) (z := 1) dX12_isWished_65 ?_
      refine sv_goto (pc := 66) (tgt := 70) dX12_isWished_66 (by decide) ?_
      refine mr_istore_n (pc := 70) (lv' := [(3, iv 1), (0, .ref 106), (1, iv p1), (2, iv p2), (4, iv z355)]) dX12_isWished_70 rfl (by decide) rfl ?_
      refine mr_iinc (pc := 71) (lv' := [(4, iv (z355 + 1)), (3, iv 1), (0, .ref 106), (1, iv p1), (2, iv p2)]) dX12_isWished_71 rfl (by decide) rfl ?_
      refine sv_goto (pc := 74) (tgt := 26) dX12_isWished_74 (by decide) ?_
      refine mr_lvS (lv' := [(0, .ref 106), (1, iv p1), (2, iv p2), (3, iv 1), (4, iv (z355 + 1))]) (List.forall_mem_cons.mpr ⟨rfl, List.forall_mem_cons.mpr ⟨rfl, List.forall_mem_cons.mpr ⟨rfl, List.forall_mem_cons.mpr ⟨rfl, List.forall_mem_cons.mpr ⟨rfl, fun _ h => absurd h List.not_mem_nil⟩⟩⟩⟩⟩) ?_
      exact ih365 1 (z355 + 1) trivial (rW (c := 0) (d := 1) (rR (x := 1)) rfl) (rW (c := 0) (d := 7) (rAdd (e := 1) (f := 7) h367 (rR (x := 1)) rfl) rfl) (mtI.next R363 (vc_X12_best_l_18 h369 h371) (vc_X12_isWished_v_19 hq0 h230 h366 h368 h229 h367) q373 (vc_X12_isWished_v_20 h366 hq0 h230 h368 hp1 hp2 h229 h367) q376 rfl (vc_X4_find_v_34 h378 h374 h379)) (vc_X12_isWished_v_17 (nS h364) h366 hq0 h230 h368 h229 h367)
  refine mr_lvS (lv' := [(0, .ref 106), (1, iv p1), (2, iv p2), (3, iv 1), (4, iv 0)]) (List.forall_mem_cons.mpr ⟨rfl, List.forall_mem_cons.mpr ⟨rfl, List.forall_mem_cons.mpr ⟨rfl, List.forall_mem_cons.mpr ⟨rfl, List.forall_mem_cons.mpr ⟨rfl, fun _ h => absurd h List.not_mem_nil⟩⟩⟩⟩⟩) ?_
  exact L357 9 1 0 trivial (rW (c := 0) (d := 1) (rR (x := 1)) rfl) (rW (c := 0) (d := 7) (rR (x := 0)) rfl) (mtI.start q228 vc_X12_isOffered_v_15 (vc_X12_isWished_v_25 hq0 h230 h1 h229)) vc_X12_isOffered_10
theorem vc_X12_clear_v_1 {z77 z78 : Int} (h0 : (8 - z77) < ((0 : Nat) : Int)) (h1 : z78 ≤ 5 * z77 - 5) (h2 : 1 ≤ z77 ∧ z77 ≤ 7) (h3 : 0 ≤ z78 ∧ z78 ≤ 30) : False := by omega
theorem vc_X12_clear_v_2 {z77 z78 : Int} (h0 : 6 < z77) (h1 : z78 ≤ 5 * z77 - 5) (h2 : 1 ≤ z77 ∧ z77 ≤ 7) (h3 : 0 ≤ z78 ∧ z78 ≤ 30) : 7 ≤ z77 ∧ z77 ≤ 7 := by omega
theorem vc_X12_clear_v_3 {z77 z78 : Int} (h0 : z78 ≤ 5 * z77 - 5) (h1 : 6 < z77) (h2 : 7 ≤ z77 ∧ z77 ≤ 7) (h3 : 0 ≤ z78 ∧ z78 ≤ 30) : z77 = 7 := by omega
theorem vc_X12_clear_v_4 {z77 z78 : Int} (h0 : z77 ≤ 6) (h1 : z78 ≤ 5 * z77 - 5) (h2 : 1 ≤ z77 ∧ z77 ≤ 7) (h3 : 0 ≤ z78 ∧ z78 ≤ 30) : 1 ≤ z77 ∧ z77 ≤ 6 := by omega
theorem vc_X12_clear_v_5 {z101 z77 z78 : Int} (h0 : z78 ≤ 5 * z77 - 5) (h1 : z77 ≤ 6) (h2 : 0 ≤ z101 ∧ z101 ≤ 5) (h3 : 1 ≤ z77 ∧ z77 ≤ 6) (h4 : 0 ≤ z78 ∧ z78 ≤ 30) : 0 ≤ (z78 + z101) ∧ (z78 + z101) ≤ 30 := by omega
theorem vc_X12_clear_v_6 {z101 z77 z78 : Int} (h0 : z78 ≤ 5 * z77 - 5) (h1 : z77 ≤ 6) (h2 : 0 ≤ z101 ∧ z101 ≤ 5) (h3 : 1 ≤ z77 ∧ z77 ≤ 6) (h4 : 0 ≤ z78 ∧ z78 ≤ 30) : (z78 + z101) ≤ 5 * (z77 + 1) - 5 := by omega
theorem vc_X12_clear_v_7 {N z77 z78 : Int} (h0 : (8 - z77) < N + 1) (h1 : z78 ≤ 5 * z77 - 5) (h2 : z77 ≤ 6) (h3 : 1 ≤ z77 ∧ z77 ≤ 6) (h4 : 0 ≤ z78 ∧ z78 ≤ 30) : (8 - (z77 + 1)) < N := by omega
theorem vc_X12_clear_v_8 {z77 z78 : Int} (h0 : z78 ≤ 5 * z77 - 5) (h1 : z77 ≤ 6) (h2 : 1 ≤ z77 ∧ z77 ≤ 6) (h3 : 0 ≤ z78 ∧ z78 ≤ 30) : 1 ≤ z77 := by omega
theorem vc_X12_clear_v_9 {z101 z77 z78 : Int} (h0 : z78 ≤ 5 * z77 - 5) (h1 : z77 ≤ 6) (h2 : 0 ≤ z101 ∧ z101 ≤ 5) (h3 : 1 ≤ z77 ∧ z77 ≤ 6) (h4 : 0 ≤ z78 ∧ z78 ≤ 30) : (z78 + z101) = z78 + z101 := by omega
theorem vc_X12_clear_v_10  : ((0 : Int) : Int) ≤ (5 : Int) * ((1 : Int) : Int) - (5 : Int) := by omega
set_option maxRecDepth 4000 in
set_option maxHeartbeats 4000000 in
theorem c_X12_clear_v {l : Launch} {D : va_G} {c : Nat → ClassId} {H0 : Heap} {sa : Nat × Nat × (Nat → Int32)} {w : mW} {μ : mM} (hw : mWF w) (hT : mT w μ) : sC (gG l D c H0 sa) mX12_clear 1 0 0 [.ref 106] (mk w μ) (qI w [184999] μ (fun z μ1 => ((-2147483648) ≤ z ∧ z ≤ 2147483647) ∧ (foI μ μ1 184 7 z) ∧ True)) := by
  refine sC.of rfl (by decide) (le_t rfl) ?_
  refine mr_lvE (lv' := [(0, .ref 106)]) rfl ?_
  refine mr_iconst (pc := 0) (z := 0) dX12_clear_0 ?_
  refine mr_istore_n (pc := 1) (lv' := [(1, iv 0), (0, .ref 106)]) dX12_clear_1 rfl (by decide) rfl ?_
  refine mr_iconst (pc := 2) (z := 1) dX12_clear_2 ?_
  refine mr_istore_n (pc := 3) (lv' := [(2, iv 1), (1, iv 0), (0, .ref 106)]) dX12_clear_3 rfl (by decide) rfl ?_
  have L80 : ∀ (nL80 : Nat) (z78 z77 : Int) (μ79 : mM), mT w μ79 → mF [184999] w μ μ79 → (0 ≤ z78 ∧ z78 ≤ 30) → (1 ≤ z77 ∧ z77 ≤ 7) → (z78 ≤ 5 * z77 - 5) → foI μ μ79 184 z77 z78 → (8 - z77) < (nL80 : Int) → sV (gG l D c H0 sa) mX12_clear (sRm 1 0 0) (sZ (gG l D c H0 sa) 0 0 (qI w [184999] μ (fun z μ1 => ((-2147483648) ≤ z ∧ z ≤ 2147483647) ∧ (foI μ μ1 184 7 z) ∧ True))) 4 [(0, .ref 106), (1, iv z78), (2, iv z77)] [] (mk w μ79) 0 0 := by
    intro nL80
    induction nL80 with
    | zero => intro z78 z77 μ79 T83 F84 h81 h82 h86 R87 h88; exact ((vc_X12_clear_v_1 h88 h86 h82 h81)).elim
    | succ nL80 ih89 =>
      intro z78 z77 μ79 T83 F84 h81 h82 h86 R87 h88
      refine mr_iload_n (pc := 4) (z := z77) dX12_clear_4 rfl rfl ?_
      refine mr_bipush (pc := 5) (z := 6) dX12_clear_5 (by decide) ?_
      refine mr_icmp_gt (pc := 7) (tgt := 32) dX12_clear_7 (by decide) (r32 h82 rfl) (r32 (rR (x := 6)) rfl) (fun h98 => ?_) (fun h98 => ?_)
      · have h99 : 7 ≤ z77 ∧ z77 ≤ 7 := (vc_X12_clear_v_2 h98 h86 h82 h81)
        refine mr_iload_n (pc := 32) (z := z78) dX12_clear_32 rfl rfl ?_
        exact mr_iret dX12_clear_33 rfl (le_t rfl) (le_t rfl) T83 (mF.call mF.refl F84 rfl) ⟨(rW (c := (-2147483648)) (d := 2147483647) h81 rfl), (foI.k7 R87 (vc_X12_clear_v_3 h86 h98 h99 h81)), trivial⟩
      have h100 : 1 ≤ z77 ∧ z77 ≤ 6 := (vc_X12_clear_v_4 h98 h86 h82 h81)
      refine mr_iload_n (pc := 10) (z := z78) dX12_clear_10 rfl rfl ?_
      refine sv_aload_n (pc := 11) dX12_clear_11 rfl rfl ?_
      refine gf_X12_118 (pc := 12) dX12_clear_12 wF_X12_514 (A_106 hw) T83 ?_
      refine mr_iload_n (pc := 15) (z := z77) dX12_clear_15 rfl rfl ?_
      refine la_184 (pc := 16) dX12_clear_16 (A_184 hw) T83 (rIx (n := 7) h100 rfl) fun z101 q102 h103 => ?_
      refine mr_iadd (pc := 17) (x := z78) (y := z101) dX12_clear_17 ?_
      refine mr_istore_n (pc := 18) (lv' := [(1, iv (z78 + z101)), (0, .ref 106), (2, iv z77)]) dX12_clear_18 rfl (by decide) rfl ?_
      refine sv_aload_n (pc := 19) dX12_clear_19 rfl rfl ?_
      refine gf_X12_118 (pc := 20) dX12_clear_20 wF_X12_514 (A_106 hw) T83 ?_
      refine mr_iload_n (pc := 23) (z := z77) dX12_clear_23 rfl rfl ?_
      refine mr_iconst (pc := 24) (z := 0) dX12_clear_24 ?_
      refine ss_184 (pc := 25) dX12_clear_25 (A_184 hw) T83 (rIx (n := 7) h100 rfl) (rW (c := 0) (d := 5) (rR (x := 0)) rfl) fun μ104 u105 T106 => ?_
      refine mr_iinc (pc := 26) (lv' := [(2, iv (z77 + 1)), (1, iv (z78 + z101)), (0, .ref 106)]) dX12_clear_26 rfl (by decide) rfl ?_
      refine sv_goto (pc := 29) (tgt := 4) dX12_clear_29 (by decide) ?_
      refine mr_lvS (lv' := [(0, .ref 106), (1, iv (z78 + z101)), (2, iv (z77 + 1))]) (List.forall_mem_cons.mpr ⟨rfl, List.forall_mem_cons.mpr ⟨rfl, List.forall_mem_cons.mpr ⟨rfl, fun _ h => absurd h List.not_mem_nil⟩⟩⟩) ?_
      exact ih89 (z78 + z101) (z77 + 1) μ104 T106 (mF.up (mF.call mF.refl F84 rfl) (A_184 hw) u105 rfl) (vc_X12_clear_v_5 h86 h98 h103 h100 h81) (rW (c := 1) (d := 7) (rAdd (e := 2) (f := 7) h100 (rR (x := 1)) rfl) rfl) (vc_X12_clear_v_6 h86 h98 h103 h100 h81) (foI.next R87 (vc_X12_clear_v_8 h86 h98 h100 h81) q102 (vc_X12_clear_v_9 h86 h98 h103 h100 h81) u105) (vc_X12_clear_v_7 (nS h88) h86 h98 h100 h81)
  refine mr_lvS (lv' := [(0, .ref 106), (1, iv 0), (2, iv 1)]) (List.forall_mem_cons.mpr ⟨rfl, List.forall_mem_cons.mpr ⟨rfl, List.forall_mem_cons.mpr ⟨rfl, fun _ h => absurd h List.not_mem_nil⟩⟩⟩) ?_
  exact L80 8 0 1 μ hT mF.refl (rW (c := 0) (d := 30) (rR (x := 0)) rfl) (rW (c := 1) (d := 7) (rR (x := 1)) rfl) vc_X12_clear_v_10 foI.start vc_X4_isRest_6
theorem vc_X12_wish_v_3 {f_hands z6292 : Int} (h0 : f_hands ≤ z6292) (h1 : f_hands < 2) (h2 : 0 ≤ f_hands ∧ f_hands ≤ 1) (h3 : 0 ≤ z6292 ∧ z6292 ≤ 0) : 0 ≤ f_hands ∧ f_hands ≤ 0 := by omega
theorem vc_X12_wish_v_6 {f_hands z6292 : Int} (h0 : z6292 < f_hands) (h1 : f_hands < 2) (h2 : 0 ≤ f_hands ∧ f_hands ≤ 1) (h3 : 0 ≤ z6292 ∧ z6292 ≤ 0) : 1 ≤ f_hands ∧ f_hands ≤ 1 := by omega
theorem vc_X12_wish_v_11 {f_hands z6314 : Int} (h0 : f_hands ≤ z6314) (h1 : 8 ≤ f_hands ∧ f_hands ≤ 20) (h2 : 0 ≤ z6314 ∧ z6314 ≤ 0) : False := by omega
theorem vc_X12_wish_v_17 {f_hands z6336 : Int} (h0 : f_hands ≤ z6336) (h1 : 2 ≤ f_hands ∧ f_hands ≤ 7) (h2 : 0 ≤ z6336 ∧ z6336 ≤ 0) : False := by omega
theorem vc_X12_wish_v_29 {f_hands z7580 : Int} (h0 : f_hands ≤ z7580) (h1 : 2 ≤ f_hands) (h2 : f_hands ≤ 7) (h3 : 2 ≤ f_hands ∧ f_hands ≤ 7) (h4 : 0 ≤ z7580 ∧ z7580 ≤ 7) : 2 ≤ z7580 ∧ z7580 ≤ 7 := by omega
theorem vc_X12_wish_v_33 {f_hands z7580 : Int} (h0 : 2 ≤ f_hands) (h1 : f_hands ≤ 7) (h2 : f_hands ≤ z7580) (h3 : 2 ≤ f_hands ∧ f_hands ≤ 7) (h4 : 2 ≤ z7580 ∧ z7580 ≤ 7) : (0 : Int) < z7580 := by omega
theorem vc_X12_wish_v_34 {z6327 : Int} (h0 : z6327 ≤ 6) (h1 : ¬ z6327 = 0) (h2 : 1 ≤ z6327 ∧ z6327 ≤ 9) : 1 ≤ z6327 ∧ z6327 ≤ 6 := by omega
theorem vc_X12_wish_v_36 {z7910 z7919 : Int} (h0 : ¬ z7919 = 5) (h1 : z7919 ≤ z7910) (h2 : 0 ≤ z7910 ∧ z7910 ≤ 5) (h3 : 0 ≤ z7919 ∧ z7919 ≤ 5) : 0 ≤ z7919 ∧ z7919 ≤ 4 := by omega
theorem vc_X12_wish_v_37 {f_hands z7580 z8044 : Int} (h0 : (8 - z8044) < ((0 : Nat) : Int)) (h1 : z8044 ≤ f_hands) (h2 : 2 ≤ f_hands) (h3 : f_hands ≤ 7) (h4 : f_hands ≤ z7580) (h5 : 2 ≤ f_hands ∧ f_hands ≤ 7) (h6 : 2 ≤ z7580 ∧ z7580 ≤ 7) (h7 : 0 ≤ z8044 ∧ z8044 ≤ 7) : False := by omega
theorem vc_X12_wish_v_38 {f_hands z7580 z8044 : Int} (h0 : f_hands ≤ z8044) (h1 : 2 ≤ f_hands) (h2 : f_hands ≤ 7) (h3 : f_hands ≤ z7580) (h4 : z8044 ≤ f_hands) (h5 : 2 ≤ f_hands ∧ f_hands ≤ 7) (h6 : 2 ≤ z7580 ∧ z7580 ≤ 7) (h7 : 0 ≤ z8044 ∧ z8044 ≤ 7) : 2 ≤ z8044 ∧ z8044 ≤ 7 := by omega
theorem vc_X12_wish_v_39 {f_hands z7580 z8044 : Int} (h0 : 2 ≤ f_hands) (h1 : f_hands ≤ 7) (h2 : f_hands ≤ z7580) (h3 : z8044 ≤ f_hands) (h4 : f_hands ≤ z8044) (h5 : 2 ≤ f_hands ∧ f_hands ≤ 7) (h6 : 2 ≤ z7580 ∧ z7580 ≤ 7) (h7 : 2 ≤ z8044 ∧ z8044 ≤ 7) : f_hands ≤ z7580 := by omega
theorem vc_X12_wish_v_40 {z7910 z7919 : Int} (h0 : z7919 ≤ z7910) (h1 : ¬ z7919 = 5) (h2 : 0 ≤ z7910 ∧ z7910 ≤ 5) (h3 : 0 ≤ z7919 ∧ z7919 ≤ 4) : z7919 ≤ z7910 := by omega
theorem vc_X12_wish_v_41 {z6327 : Int} (h0 : ¬ z6327 = 0) (h1 : z6327 ≤ 6) (h2 : 1 ≤ z6327 ∧ z6327 ≤ 6) : 0 ≤ z6327 := by omega
theorem vc_X12_wish_v_42 {z6327 z7910 z7919 : Int} (h0 : ¬ z6327 = 0) (h1 : z6327 ≤ 6) (h2 : z7919 ≤ z7910) (h3 : ¬ z7919 = 5) (h4 : 1 ≤ z6327 ∧ z6327 ≤ 6) (h5 : 0 ≤ z7910 ∧ z7910 ≤ 5) (h6 : 0 ≤ z7919 ∧ z7919 ≤ 4) : 0 ≤ ((5 * z6327) + z7919) := by omega
theorem vc_X12_wish_v_43 {f_hands z6327 z7580 z7910 z7919 z8044 : Int} (h0 : 2 ≤ f_hands) (h1 : f_hands ≤ 7) (h2 : ¬ z6327 = 0) (h3 : f_hands ≤ z7580) (h4 : z6327 ≤ 6) (h5 : z7919 ≤ z7910) (h6 : ¬ z7919 = 5) (h7 : z8044 ≤ f_hands) (h8 : f_hands ≤ z8044) (h9 : 2 ≤ f_hands ∧ f_hands ≤ 7) (h10 : 1 ≤ z6327 ∧ z6327 ≤ 6) (h11 : 2 ≤ z7580 ∧ z7580 ≤ 7) (h12 : 0 ≤ z7910 ∧ z7910 ≤ 5) (h13 : 0 ≤ z7919 ∧ z7919 ≤ 4) (h14 : 2 ≤ z8044 ∧ z8044 ≤ 7) : (z7919 + 1) = z7919 + 1 ∧ ((5 * z6327) + z7919) = 5 * (z6327) + z7919 ∧ f_hands = f_hands ∧ z8044 = f_hands := by omega
theorem vc_X12_wish_v_44 {z6327 z7910 z7919 : Int} (h0 : ¬ z6327 = 0) (h1 : z6327 ≤ 6) (h2 : z7919 ≤ z7910) (h3 : ¬ z7919 = 5) (h4 : 1 ≤ z6327 ∧ z6327 ≤ 6) (h5 : 0 ≤ z7910 ∧ z7910 ≤ 5) (h6 : 0 ≤ z7919 ∧ z7919 ≤ 4) : (8 * ((5 * z6327) + z7919)) = ((8 : Nat) : Int) * (((5 * z6327) + z7919)) := by omega
theorem vc_X12_wish_v_45 {z7910 z7919 : Int} (h0 : z7919 ≤ z7910) (h1 : ¬ z7919 = 5) (h2 : 0 ≤ z7910 ∧ z7910 ≤ 5) (h3 : 0 ≤ z7919 ∧ z7919 ≤ 4) : z7919 < 5 := by omega
theorem vc_X12_wish_v_46 {z7910 z7919 : Int} (h0 : z7919 ≤ z7910) (h1 : ¬ z7919 = 5) (h2 : 0 ≤ z7910 ∧ z7910 ≤ 5) (h3 : 0 ≤ z7919 ∧ z7919 ≤ 4) : (z7919 + 1) = z7919 + 1 := by omega
theorem vc_X12_wish_v_47 {f_hands z7580 z8044 : Int} (h0 : z8044 < f_hands) (h1 : 2 ≤ f_hands) (h2 : f_hands ≤ 7) (h3 : f_hands ≤ z7580) (h4 : z8044 ≤ f_hands) (h5 : 2 ≤ f_hands ∧ f_hands ≤ 7) (h6 : 2 ≤ z7580 ∧ z7580 ≤ 7) (h7 : 0 ≤ z8044 ∧ z8044 ≤ 7) : 0 ≤ z8044 ∧ z8044 ≤ 6 := by omega
theorem vc_X12_wish_v_48 {f_hands z7580 z8044 : Int} (h0 : z8044 ≤ f_hands) (h1 : z8044 < f_hands) (h2 : 2 ≤ f_hands) (h3 : f_hands ≤ 7) (h4 : f_hands ≤ z7580) (h5 : 2 ≤ f_hands ∧ f_hands ≤ 7) (h6 : 2 ≤ z7580 ∧ z7580 ≤ 7) (h7 : 0 ≤ z8044 ∧ z8044 ≤ 6) : 0 ≤ z8044 := by omega
theorem vc_X12_wish_v_49 {f_hands z7580 z8044 : Int} (h0 : 2 ≤ f_hands) (h1 : f_hands ≤ 7) (h2 : f_hands ≤ z7580) (h3 : z8044 ≤ f_hands) (h4 : z8044 < f_hands) (h5 : 2 ≤ f_hands ∧ f_hands ≤ 7) (h6 : 2 ≤ z7580 ∧ z7580 ≤ 7) (h7 : 0 ≤ z8044 ∧ z8044 ≤ 6) : z8044 < z7580 := by omega
theorem vc_X12_wish_v_51 {f_hands z7580 z8044 : Int} (h0 : 2 ≤ f_hands) (h1 : f_hands ≤ 7) (h2 : f_hands ≤ z7580) (h3 : z8044 ≤ f_hands) (h4 : z8044 < f_hands) (h5 : 2 ≤ f_hands ∧ f_hands ≤ 7) (h6 : 2 ≤ z7580 ∧ z7580 ≤ 7) (h7 : 0 ≤ z8044 ∧ z8044 ≤ 6) : (z8044 + 1) ≤ f_hands := by omega
theorem vc_X12_wish_v_52 {N f_hands z7580 z8044 : Int} (h0 : (8 - z8044) < N + 1) (h1 : z8044 ≤ f_hands) (h2 : z8044 < f_hands) (h3 : 2 ≤ f_hands) (h4 : f_hands ≤ 7) (h5 : f_hands ≤ z7580) (h6 : 2 ≤ f_hands ∧ f_hands ≤ 7) (h7 : 2 ≤ z7580 ∧ z7580 ≤ 7) (h8 : 0 ≤ z8044 ∧ z8044 ≤ 6) : (8 - (z8044 + 1)) < N := by omega
theorem vc_X12_wish_v_53 {f_hands z6327 z7580 z7910 z7919 z8044 : Int} (h0 : ¬ z6327 = 0) (h1 : z6327 ≤ 6) (h2 : z7919 ≤ z7910) (h3 : ¬ z7919 = 5) (h4 : z8044 ≤ f_hands) (h5 : z8044 < f_hands) (h6 : 2 ≤ f_hands) (h7 : f_hands ≤ 7) (h8 : f_hands ≤ z7580) (h9 : 2 ≤ f_hands ∧ f_hands ≤ 7) (h10 : 1 ≤ z6327 ∧ z6327 ≤ 6) (h11 : 2 ≤ z7580 ∧ z7580 ≤ 7) (h12 : 0 ≤ z7910 ∧ z7910 ≤ 5) (h13 : 0 ≤ z7919 ∧ z7919 ≤ 4) (h14 : 0 ≤ z8044 ∧ z8044 ≤ 6) : 0 ≤ z8044 ∧ 0 ≤ (8 * ((5 * z6327) + z7919)) := by omega
theorem vc_X12_wish_v_54 {f_hands z6327 z7580 z7910 z7919 z8044 : Int} (h0 : ¬ z6327 = 0) (h1 : z6327 ≤ 6) (h2 : z7919 ≤ z7910) (h3 : ¬ z7919 = 5) (h4 : z8044 ≤ f_hands) (h5 : z8044 < f_hands) (h6 : 2 ≤ f_hands) (h7 : f_hands ≤ 7) (h8 : f_hands ≤ z7580) (h9 : 2 ≤ f_hands ∧ f_hands ≤ 7) (h10 : 1 ≤ z6327 ∧ z6327 ≤ 6) (h11 : 2 ≤ z7580 ∧ z7580 ≤ 7) (h12 : 0 ≤ z7910 ∧ z7910 ≤ 5) (h13 : 0 ≤ z7919 ∧ z7919 ≤ 4) (h14 : 0 ≤ z8044 ∧ z8044 ≤ 6) : ((8 * ((5 * z6327) + z7919)) + z8044) = (8 * ((5 * z6327) + z7919)) + z8044 := by omega
theorem vc_X12_wish_v_55 {f_hands z7580 : Int} (h0 : 2 ≤ f_hands) (h1 : f_hands ≤ 7) (h2 : f_hands ≤ z7580) (h3 : 2 ≤ f_hands ∧ f_hands ≤ 7) (h4 : 2 ≤ z7580 ∧ z7580 ≤ 7) : (0 : Int) ≤ f_hands := by omega
theorem vc_X12_wish_v_58 {z7910 z7919 : Int} (h0 : z7919 = 5) (h1 : z7919 ≤ z7910) (h2 : 0 ≤ z7910 ∧ z7910 ≤ 5) (h3 : 0 ≤ z7919 ∧ z7919 ≤ 5) : 5 ≤ z7919 ∧ z7919 ≤ 5 := by omega
theorem vc_X12_wish_v_59 {f_hands z7580 : Int} (h0 : 2 ≤ f_hands) (h1 : f_hands ≤ 7) (h2 : f_hands ≤ z7580) (h3 : 2 ≤ f_hands ∧ f_hands ≤ 7) (h4 : 2 ≤ z7580 ∧ z7580 ≤ 7) : f_hands ≤ z7580 := by omega
theorem vc_X12_wish_v_60 {z7910 z7919 : Int} (h0 : z7919 ≤ z7910) (h1 : z7919 = 5) (h2 : 0 ≤ z7910 ∧ z7910 ≤ 5) (h3 : 5 ≤ z7919 ∧ z7919 ≤ 5) : z7919 ≤ z7910 := by omega
theorem vc_X12_wish_v_61 {z7910 z7919 : Int} (h0 : z7919 ≤ z7910) (h1 : z7919 = 5) (h2 : 0 ≤ z7910 ∧ z7910 ≤ 5) (h3 : 5 ≤ z7919 ∧ z7919 ≤ 5) : 5 ≤ z7919 := by omega
theorem vc_X12_wish_v_64 {f_hands z7580 : Int} (h0 : 2 ≤ f_hands) (h1 : f_hands ≤ 7) (h2 : f_hands ≤ z7580) (h3 : 2 ≤ f_hands ∧ f_hands ≤ 7) (h4 : 2 ≤ z7580 ∧ z7580 ≤ 7) : f_hands ≤ 7 := by omega
theorem vc_X12_wish_v_67 {z7910 z7919 : Int} (h0 : z7910 < z7919) (h1 : 0 ≤ z7910 ∧ z7910 ≤ 4) (h2 : 1 ≤ z7919 ∧ z7919 ≤ 5) : 0 ≤ z7910 := by omega
theorem vc_X12_wish_v_68 {z6327 z7910 z7919 : Int} (h0 : ¬ z6327 = 0) (h1 : z6327 ≤ 6) (h2 : z7910 < z7919) (h3 : 1 ≤ z6327 ∧ z6327 ≤ 6) (h4 : 0 ≤ z7910 ∧ z7910 ≤ 4) (h5 : 1 ≤ z7919 ∧ z7919 ≤ 5) : ((5 * z6327) + z7910) = 5 * (z6327) + z7910 := by omega
theorem vc_X12_wish_v_71 {z7910 z7919 : Int} (h0 : z7910 < z7919) (h1 : 0 ≤ z7910 ∧ z7910 ≤ 4) (h2 : 1 ≤ z7919 ∧ z7919 ≤ 5) : 0 ≤ z7910 ∧ z7910 < z7919 := by omega
theorem vc_X12_wish_v_76 {f_hands z7580 : Int} (h0 : z7580 < f_hands) (h1 : 2 ≤ f_hands) (h2 : f_hands ≤ 7) (h3 : 2 ≤ f_hands ∧ f_hands ≤ 7) (h4 : 0 ≤ z7580 ∧ z7580 ≤ 7) : 0 ≤ z7580 ∧ z7580 ≤ 6 := by omega
theorem vc_X12_wish_v_78 {z8093 : Int} (h0 : 6 < z8093) (h1 : 0 ≤ z8093 ∧ z8093 ≤ 9) : 7 ≤ z8093 ∧ z8093 ≤ 9 := by omega
theorem vc_X12_wish_v_80 {N f_hands z7580 z8130 : Int} (h0 : (8 - z7580) < N + 1) (h1 : z7580 < f_hands) (h2 : z7580 ≤ z8130) (h3 : 2 ≤ f_hands) (h4 : f_hands ≤ 7) (h5 : 2 ≤ f_hands ∧ f_hands ≤ 7) (h6 : 0 ≤ z7580 ∧ z7580 ≤ 6) (h7 : 0 ≤ z8130 ∧ z8130 ≤ 6) : (8 - (z7580 + 1)) < N := by omega
theorem vc_X12_wish_v_82 {f_hands z7580 z8130 : Int} (h0 : z7580 < f_hands) (h1 : z7580 ≤ z8130) (h2 : 2 ≤ f_hands) (h3 : f_hands ≤ 7) (h4 : 2 ≤ f_hands ∧ f_hands ≤ 7) (h5 : 0 ≤ z7580 ∧ z7580 ≤ 6) (h6 : 0 ≤ z8130 ∧ z8130 ≤ 6) : z7580 ≤ z8130 := by omega
theorem vc_X12_wish_v_83 {f_hands z7580 z8130 : Int} (h0 : z7580 < f_hands) (h1 : z7580 ≤ z8130) (h2 : 2 ≤ f_hands) (h3 : f_hands ≤ 7) (h4 : 2 ≤ f_hands ∧ f_hands ≤ 7) (h5 : 0 ≤ z7580 ∧ z7580 ≤ 6) (h6 : 0 ≤ z8130 ∧ z8130 ≤ 6) : 0 ≤ z7580 := by omega
theorem vc_X12_wish_v_84 {f_hands z7580 z8130 : Int} (h0 : z8130 < z7580) (h1 : z7580 < f_hands) (h2 : 2 ≤ f_hands ∧ f_hands ≤ 7) (h3 : 0 ≤ z7580 ∧ z7580 ≤ 6) (h4 : 0 ≤ z8130 ∧ z8130 ≤ 6) : 0 ≤ z8130 ∧ z8130 ≤ 5 := by omega
theorem vc_X12_wish_v_85 {f_hands z7580 z8130 : Int} (h0 : z8130 < z7580) (h1 : z7580 < f_hands) (h2 : 2 ≤ f_hands ∧ f_hands ≤ 7) (h3 : 0 ≤ z7580 ∧ z7580 ≤ 6) (h4 : 0 ≤ z8130 ∧ z8130 ≤ 5) : 1 ≤ z7580 ∧ z7580 ≤ 6 := by omega
theorem vc_X12_wish_v_87 {N f_hands z7580 z8130 : Int} (h0 : (7 - z8130) < N + 1) (h1 : z8130 < z7580) (h2 : z7580 < f_hands) (h3 : 2 ≤ f_hands ∧ f_hands ≤ 7) (h4 : 1 ≤ z7580 ∧ z7580 ≤ 6) (h5 : 0 ≤ z8130 ∧ z8130 ≤ 5) : (7 - (z8130 + 1)) < N := by omega
theorem vc_X12_wish_v_91 {f_hands z7580 : Int} (h0 : 2 ≤ f_hands) (h1 : f_hands ≤ 7) (h2 : z7580 < f_hands) (h3 : 2 ≤ f_hands ∧ f_hands ≤ 7) (h4 : 0 ≤ z7580 ∧ z7580 ≤ 6) : 0 ≤ z7580 ∧ z7580 < f_hands := by omega
theorem vc_X12_wish_v_92 {z8093 : Int} (h0 : 6 < z8093) (h1 : 7 ≤ z8093 ∧ z8093 ≤ 9) : (z8093 ≤ 6 ∧ (0 : Int) = 1) ∨ (6 < z8093 ∧ (0 : Int) = 0) := by omega
theorem vc_X12_wish_v_96 {z8093 : Int} (h0 : z8093 ≤ 6) (h1 : 0 ≤ z8093 ∧ z8093 ≤ 6) : z8093 ≤ 6 := by omega
theorem vc_X12_wish_v_106 {z8093 z8250 : Int} (h0 : z8093 = z8250) (h1 : z8093 ≤ 6) (h2 : 0 ≤ z8093 ∧ z8093 ≤ 6) (h3 : 0 ≤ z8250 ∧ z8250 ≤ 9) : 0 ≤ z8250 ∧ z8250 ≤ 6 := by omega
theorem vc_X12_wish_v_107 {f_hands z7580 z8225 : Int} (h0 : z7580 < f_hands) (h1 : z8225 < z7580) (h2 : 2 ≤ f_hands) (h3 : f_hands ≤ 7) (h4 : 2 ≤ f_hands ∧ f_hands ≤ 7) (h5 : 1 ≤ z7580 ∧ z7580 ≤ 6) (h6 : 0 ≤ z8225 ∧ z8225 ≤ 5) : 0 ≤ z8225 ∧ z8225 < z7580 := by omega
theorem vc_X12_wish_v_108 {f_hands z7580 z8225 : Int} (h0 : 2 ≤ f_hands) (h1 : f_hands ≤ 7) (h2 : z7580 < f_hands) (h3 : z8225 < z7580) (h4 : 2 ≤ f_hands ∧ f_hands ≤ 7) (h5 : 1 ≤ z7580 ∧ z7580 ≤ 6) (h6 : 0 ≤ z8225 ∧ z8225 ≤ 5) : z7580 < f_hands := by omega
theorem vc_X12_wish_v_109 {z8093 z8226 z8250 : Int} (h0 : z8093 ≤ 6) (h1 : ¬ z8226 = 0) (h2 : z8093 = z8250) (h3 : 0 ≤ z8093 ∧ z8093 ≤ 6) (h4 : 1 ≤ z8226 ∧ z8226 ≤ 1) (h5 : 0 ≤ z8250 ∧ z8250 ≤ 6) : (z8226 = 1 ∧ ¬ z8093 = z8250 ∧ (0 : Int) = 1) ∨ (z8226 = 1 ∧ z8093 = z8250 ∧ (0 : Int) = 0) := by omega
theorem vc_X12_wish_v_110 {z8093 z8226 z8250 : Int} (h0 : z8093 ≤ 6) (h1 : ¬ z8226 = 0) (h2 : ¬ z8093 = z8250) (h3 : 0 ≤ z8093 ∧ z8093 ≤ 6) (h4 : 1 ≤ z8226 ∧ z8226 ≤ 1) (h5 : 0 ≤ z8250 ∧ z8250 ≤ 9) : (z8226 = 1 ∧ ¬ z8093 = z8250 ∧ (1 : Int) = 1) ∨ (z8226 = 1 ∧ z8093 = z8250 ∧ (1 : Int) = 0) := by omega
theorem vc_X12_wish_v_111 {z8093 : Int} (h0 : z8093 ≤ 6) (h1 : 0 ≤ z8093 ∧ z8093 ≤ 6) : (z8093 ≤ 6 ∧ (1 : Int) = 1) ∨ (6 < z8093 ∧ (1 : Int) = 0) := by omega
theorem vc_X12_wish_v_112 {f_hands : Int} (h0 : 2 ≤ f_hands) (h1 : f_hands ≤ 7) (h2 : 2 ≤ f_hands ∧ f_hands ≤ 7) : 2 ≤ f_hands ∧ f_hands ≤ 7 := by omega
set_option maxRecDepth 4000 in
set_option maxHeartbeats 4000000 in
theorem c_X12_wish_v {l : Launch} {D : va_G} {c : Nat → ClassId} {H0 : Heap} {sa : Nat × Nat × (Nat → Int32)} {w : mW} {μ : mM} (hw : mWF w) (hT : mT w μ) {f_hands : Int} (q_f_hands : μ 106 15 = f_hands) : sC (gG l D c H0 sa) mX12_wish 2 0 0 [.ref 106] (mk w μ) (qI w [184999, 185999, 186999] μ (fun z μ1 => ((-2147483648) ≤ z ∧ z ≤ 2147483647) ∧ (wiA μ μ1 184 185 186 8 118 f_hands z) ∧ True)) := by
  refine sC.of rfl (by decide) (le_t rfl) ?_
  have ht_f_hands : (0 ≤ f_hands ∧ f_hands ≤ 20) := by rw [← q_f_hands]; exact hT 106 106 (A_106 hw) 15
  refine mr_lvE (lv' := [(0, .ref 106)]) rfl ?_
  refine sv_aload_n (pc := 0) dX12_wish_0 rfl rfl ?_
  refine gk_X12_15 (pc := 1) dX12_wish_1 wF_X12_79 (A_106 hw) q_f_hands ?_
  refine mr_iconst (pc := 4) (z := 2) dX12_wish_4 ?_
  refine mr_icmp_lt (pc := 5) (tgt := 44) dX12_wish_5 (by decide) (r32 ht_f_hands rfl) (r32 (rR (x := 2)) rfl) (fun h6282 => ?_) (fun h6282 => ?_)
  · have h6283 : 0 ≤ f_hands ∧ f_hands ≤ 1 := (vc_X4_isWish_v_1 h6282 ht_f_hands)
    refine mr_iconst (pc := 44) (z := 0) dX12_wish_44 ?_
    refine mr_istore_n (pc := 45) (lv' := [(1, iv 0), (0, .ref 106)]) dX12_wish_45 rfl (by decide) rfl ?_
    refine mr_iconst (pc := 46) (z := 0) dX12_wish_46 ?_
    refine mr_istore_n (pc := 47) (lv' := [(2, iv 0), (1, iv 0), (0, .ref 106)]) dX12_wish_47 rfl (by decide) rfl ?_
    have L6294 : ∀ (nL6294 : Nat) (z6293 z6292 : Int), True → (0 ≤ z6293 ∧ z6293 ≤ 0) → (0 ≤ z6292 ∧ z6292 ≤ 0) → (z6293 = 1 → allLe μ 118 z6292 6) → rtI μ f_hands z6292 z6293 → 1 < (nL6294 : Int) → sV (gG l D c H0 sa) mX12_wish (sRm 2 0 0) (sZ (gG l D c H0 sa) 0 0 (qI w [184999, 185999, 186999] μ (fun z μ1 => ((-2147483648) ≤ z ∧ z ≤ 2147483647) ∧ (wiA μ μ1 184 185 186 8 118 f_hands z) ∧ True))) 48 [(0, .ref 106), (1, iv z6293), (2, iv z6292)] [] (mk w μ) 0 0 := by
      intro nL6294
      induction nL6294 with
      | zero => intro z6293 z6292 _ h6295 h6296 R6300 R6301 h6302; exact ((vc_X8_lastStanding_2 h6302)).elim
      | succ nL6294 ih6303 =>
        intro z6293 z6292 _ h6295 h6296 R6300 R6301 h6302
        refine mr_iload_n (pc := 48) (z := z6292) dX12_wish_48 rfl rfl ?_
        refine sv_aload_n (pc := 49) dX12_wish_49 rfl rfl ?_
        refine gk_X12_15 (pc := 50) dX12_wish_50 wF_X12_79 (A_106 hw) q_f_hands ?_
        refine mr_icmp_ge (pc := 53) (tgt := 121) dX12_wish_53 (by decide) (r32 h6296 rfl) (r32 h6283 rfl) (fun h6304 => ?_) (fun h6304 => ?_)
        · have h6305 : 0 ≤ f_hands ∧ f_hands ≤ 0 := (vc_X12_wish_v_3 h6304 h6282 h6283 h6296)
          refine mr_iload_n (pc := 121) (z := z6293) dX12_wish_121 rfl rfl ?_
          refine mr_if_ne (pc := 122) (tgt := 127) dX12_wish_122 (by decide) (r32 h6295 rfl) (fun h => ((vc_X10_firstWrongStep_7 h h6295)).elim) (fun _ => ?_)
          refine mr_iconst (pc := 125) (z := (-1)) dX12_wish_125 ?_
          exact mr_iret dX12_wish_126 rfl (le_t rfl) (le_t rfl) hT mF.refl ⟨(rW (c := (-2147483648)) (d := 2147483647) (rR (x := (-1))) rfl), (wiA.bad ((R6301).2 (vc_X4_find_n_11 h6295))), trivial⟩
        have h6306 : 1 ≤ f_hands ∧ f_hands ≤ 1 := (vc_X12_wish_v_6 h6304 h6282 h6283 h6296)
        refine mr_iload_n (pc := 56) (z := z6293) dX12_wish_56 rfl rfl ?_
        refine mr_if_eq (pc := 57) (tgt := 121) dX12_wish_57 (by decide) (r32 h6295 rfl) (fun _ => ?_) (fun h => ((vc_X10_firstWrongStep_7 h h6295)).elim)
        refine mr_iload_n (pc := 121) (z := z6293) dX12_wish_121 rfl rfl ?_
        refine mr_if_ne (pc := 122) (tgt := 127) dX12_wish_122 (by decide) (r32 h6295 rfl) (fun h => ((vc_X10_firstWrongStep_7 h h6295)).elim) (fun _ => ?_)
        refine mr_iconst (pc := 125) (z := (-1)) dX12_wish_125 ?_
        exact mr_iret dX12_wish_126 rfl (le_t rfl) (le_t rfl) hT mF.refl ⟨(rW (c := (-2147483648)) (d := 2147483647) (rR (x := (-1))) rfl), (wiA.bad ((R6301).2 (vc_X4_find_n_11 h6295))), trivial⟩
    refine mr_lvS (lv' := [(0, .ref 106), (1, iv 0), (2, iv 0)]) (List.forall_mem_cons.mpr ⟨rfl, List.forall_mem_cons.mpr ⟨rfl, List.forall_mem_cons.mpr ⟨rfl, fun _ h => absurd h List.not_mem_nil⟩⟩⟩) ?_
    exact L6294 2 0 0 trivial (rR (x := 0)) (rR (x := 0)) (fun _ => allLe.zero (Int.le_refl 0)) (rtI.none (wiP.len (vc_X4_isWish_v_3 h6282 h6283))) vc_X8_lastStanding_7
  have h6307 : 2 ≤ f_hands ∧ f_hands ≤ 20 := (vc_X4_isWish_v_4 h6282 ht_f_hands)
  refine sv_aload_n (pc := 8) dX12_wish_8 rfl rfl ?_
  refine gk_X12_15 (pc := 9) dX12_wish_9 wF_X12_79 (A_106 hw) q_f_hands ?_
  refine mr_bipush (pc := 12) (z := 7) dX12_wish_12 (by decide) ?_
  refine mr_icmp_gt (pc := 14) (tgt := 44) dX12_wish_14 (by decide) (r32 h6307 rfl) (r32 (rR (x := 7)) rfl) (fun h6308 => ?_) (fun h6308 => ?_)
  · have h6309 : 8 ≤ f_hands ∧ f_hands ≤ 20 := (vc_X4_isWish_v_5 h6308 h6282 h6307)
    refine mr_iconst (pc := 44) (z := 0) dX12_wish_44 ?_
    refine mr_istore_n (pc := 45) (lv' := [(1, iv 0), (0, .ref 106)]) dX12_wish_45 rfl (by decide) rfl ?_
    refine mr_iconst (pc := 46) (z := 0) dX12_wish_46 ?_
    refine mr_istore_n (pc := 47) (lv' := [(2, iv 0), (1, iv 0), (0, .ref 106)]) dX12_wish_47 rfl (by decide) rfl ?_
    have L6316 : ∀ (nL6316 : Nat) (z6315 z6314 : Int), True → (0 ≤ z6315 ∧ z6315 ≤ 0) → (0 ≤ z6314 ∧ z6314 ≤ 0) → (z6315 = 1 → allLe μ 118 z6314 6) → rtI μ f_hands z6314 z6315 → 1 < (nL6316 : Int) → sV (gG l D c H0 sa) mX12_wish (sRm 2 0 0) (sZ (gG l D c H0 sa) 0 0 (qI w [184999, 185999, 186999] μ (fun z μ1 => ((-2147483648) ≤ z ∧ z ≤ 2147483647) ∧ (wiA μ μ1 184 185 186 8 118 f_hands z) ∧ True))) 48 [(0, .ref 106), (1, iv z6315), (2, iv z6314)] [] (mk w μ) 0 0 := by
      intro nL6316
      induction nL6316 with
      | zero => intro z6315 z6314 _ h6317 h6318 R6322 R6323 h6324; exact ((vc_X8_lastStanding_2 h6324)).elim
      | succ nL6316 ih6325 =>
        intro z6315 z6314 _ h6317 h6318 R6322 R6323 h6324
        refine mr_iload_n (pc := 48) (z := z6314) dX12_wish_48 rfl rfl ?_
        refine sv_aload_n (pc := 49) dX12_wish_49 rfl rfl ?_
        refine gk_X12_15 (pc := 50) dX12_wish_50 wF_X12_79 (A_106 hw) q_f_hands ?_
        refine mr_icmp_ge (pc := 53) (tgt := 121) dX12_wish_53 (by decide) (r32 h6318 rfl) (r32 h6309 rfl) (fun h => ((vc_X12_wish_v_11 h h6309 h6318)).elim) (fun _ => ?_)
        refine mr_iload_n (pc := 56) (z := z6315) dX12_wish_56 rfl rfl ?_
        refine mr_if_eq (pc := 57) (tgt := 121) dX12_wish_57 (by decide) (r32 h6317 rfl) (fun _ => ?_) (fun h => ((vc_X10_firstWrongStep_7 h h6317)).elim)
        refine mr_iload_n (pc := 121) (z := z6315) dX12_wish_121 rfl rfl ?_
        refine mr_if_ne (pc := 122) (tgt := 127) dX12_wish_122 (by decide) (r32 h6317 rfl) (fun h => ((vc_X10_firstWrongStep_7 h h6317)).elim) (fun _ => ?_)
        refine mr_iconst (pc := 125) (z := (-1)) dX12_wish_125 ?_
        exact mr_iret dX12_wish_126 rfl (le_t rfl) (le_t rfl) hT mF.refl ⟨(rW (c := (-2147483648)) (d := 2147483647) (rR (x := (-1))) rfl), (wiA.bad ((R6323).2 (vc_X4_find_n_11 h6317))), trivial⟩
    refine mr_lvS (lv' := [(0, .ref 106), (1, iv 0), (2, iv 0)]) (List.forall_mem_cons.mpr ⟨rfl, List.forall_mem_cons.mpr ⟨rfl, List.forall_mem_cons.mpr ⟨rfl, fun _ h => absurd h List.not_mem_nil⟩⟩⟩) ?_
    exact L6316 2 0 0 trivial (rR (x := 0)) (rR (x := 0)) (fun _ => allLe.zero (Int.le_refl 0)) (rtI.none (wiP.len (vc_X4_isWish_v_7 h6282 h6308 h6309))) vc_X8_lastStanding_7
  have h6326 : 2 ≤ f_hands ∧ f_hands ≤ 7 := (vc_X4_isWish_v_8 h6308 h6282 h6307)
  refine sv_aload_n (pc := 17) dX12_wish_17 rfl rfl ?_
  refine gf_X12_16 (pc := 18) dX12_wish_18 wF_X12_82 (A_106 hw) hT ?_
  refine mr_iconst (pc := 21) (z := 0) dX12_wish_21 ?_
  refine la_118 (pc := 22) dX12_wish_22 (A_118 hw) hT (rIx (n := 20) (rR (x := 0)) rfl) fun z6327 q6328 h6329 => ?_
  refine mr_if_eq (pc := 23) (tgt := 44) dX12_wish_23 (by decide) (r32 h6329 rfl) (fun h6330 => ?_) (fun h6330 => ?_)
  · have h6331 : 0 ≤ z6327 ∧ z6327 ≤ 0 := (vc_X4_isWish_v_9 h6330 h6329)
    refine mr_iconst (pc := 44) (z := 0) dX12_wish_44 ?_
    refine mr_istore_n (pc := 45) (lv' := [(1, iv 0), (0, .ref 106)]) dX12_wish_45 rfl (by decide) rfl ?_
    refine mr_iconst (pc := 46) (z := 0) dX12_wish_46 ?_
    refine mr_istore_n (pc := 47) (lv' := [(2, iv 0), (1, iv 0), (0, .ref 106)]) dX12_wish_47 rfl (by decide) rfl ?_
    have L6338 : ∀ (nL6338 : Nat) (z6337 z6336 : Int), True → (0 ≤ z6337 ∧ z6337 ≤ 0) → (0 ≤ z6336 ∧ z6336 ≤ 0) → (z6337 = 1 → allLe μ 118 z6336 6) → rtI μ f_hands z6336 z6337 → 1 < (nL6338 : Int) → sV (gG l D c H0 sa) mX12_wish (sRm 2 0 0) (sZ (gG l D c H0 sa) 0 0 (qI w [184999, 185999, 186999] μ (fun z μ1 => ((-2147483648) ≤ z ∧ z ≤ 2147483647) ∧ (wiA μ μ1 184 185 186 8 118 f_hands z) ∧ True))) 48 [(0, .ref 106), (1, iv z6337), (2, iv z6336)] [] (mk w μ) 0 0 := by
      intro nL6338
      induction nL6338 with
      | zero => intro z6337 z6336 _ h6339 h6340 R6344 R6345 h6346; exact ((vc_X8_lastStanding_2 h6346)).elim
      | succ nL6338 ih6347 =>
        intro z6337 z6336 _ h6339 h6340 R6344 R6345 h6346
        refine mr_iload_n (pc := 48) (z := z6336) dX12_wish_48 rfl rfl ?_
        refine sv_aload_n (pc := 49) dX12_wish_49 rfl rfl ?_
        refine gk_X12_15 (pc := 50) dX12_wish_50 wF_X12_79 (A_106 hw) q_f_hands ?_
        refine mr_icmp_ge (pc := 53) (tgt := 121) dX12_wish_53 (by decide) (r32 h6340 rfl) (r32 h6326 rfl) (fun h => ((vc_X12_wish_v_17 h h6326 h6340)).elim) (fun _ => ?_)
        refine mr_iload_n (pc := 56) (z := z6337) dX12_wish_56 rfl rfl ?_
        refine mr_if_eq (pc := 57) (tgt := 121) dX12_wish_57 (by decide) (r32 h6339 rfl) (fun _ => ?_) (fun h => ((vc_X10_firstWrongStep_7 h h6339)).elim)
        refine mr_iload_n (pc := 121) (z := z6337) dX12_wish_121 rfl rfl ?_
        refine mr_if_ne (pc := 122) (tgt := 127) dX12_wish_122 (by decide) (r32 h6339 rfl) (fun h => ((vc_X10_firstWrongStep_7 h h6339)).elim) (fun _ => ?_)
        refine mr_iconst (pc := 125) (z := (-1)) dX12_wish_125 ?_
        exact mr_iret dX12_wish_126 rfl (le_t rfl) (le_t rfl) hT mF.refl ⟨(rW (c := (-2147483648)) (d := 2147483647) (rR (x := (-1))) rfl), (wiA.bad ((R6345).2 (vc_X4_find_n_11 h6339))), trivial⟩
    refine mr_lvS (lv' := [(0, .ref 106), (1, iv 0), (2, iv 0)]) (List.forall_mem_cons.mpr ⟨rfl, List.forall_mem_cons.mpr ⟨rfl, List.forall_mem_cons.mpr ⟨rfl, fun _ h => absurd h List.not_mem_nil⟩⟩⟩) ?_
    exact L6338 2 0 0 trivial (rR (x := 0)) (rR (x := 0)) (fun _ => allLe.zero (Int.le_refl 0)) (rtI.none (wiP.first (q6328.trans (vc_X12_goes_7 h6330 h6331)))) vc_X8_lastStanding_7
  have h6348 : 1 ≤ z6327 ∧ z6327 ≤ 9 := (vc_X4_isWish_v_34 h6330 h6329)
  refine sv_aload_n (pc := 26) dX12_wish_26 rfl rfl ?_
  refine gf_X12_16 (pc := 27) dX12_wish_27 wF_X12_82 (A_106 hw) hT ?_
  refine sv_aload_n (pc := 30) dX12_wish_30 rfl rfl ?_
  refine gk_X12_15 (pc := 31) dX12_wish_31 wF_X12_79 (A_106 hw) q_f_hands ?_
  refine mr_iconst (pc := 34) (z := 1) dX12_wish_34 ?_
  refine mr_isub (pc := 35) (x := f_hands) (y := 1) dX12_wish_35 ?_
  refine la_118 (pc := 36) dX12_wish_36 (A_118 hw) hT (rIx (n := 20) (rSub (e := 1) (f := 6) h6326 (rR (x := 1)) rfl) rfl) fun z6349 q6350 h6351 => ?_
  refine mr_if_ne (pc := 37) (tgt := 44) dX12_wish_37 (by decide) (r32 h6351 rfl) (fun h6352 => ?_) (fun h6352 => ?_)
  · have h6353 : 1 ≤ z6349 ∧ z6349 ≤ 9 := (vc_X4_isWish_v_34 h6352 h6351)
    refine mr_iconst (pc := 44) (z := 0) dX12_wish_44 ?_
    refine mr_istore_n (pc := 45) (lv' := [(1, iv 0), (0, .ref 106)]) dX12_wish_45 rfl (by decide) rfl ?_
    refine mr_iconst (pc := 46) (z := 0) dX12_wish_46 ?_
    refine mr_istore_n (pc := 47) (lv' := [(2, iv 0), (1, iv 0), (0, .ref 106)]) dX12_wish_47 rfl (by decide) rfl ?_
    have L6360 : ∀ (nL6360 : Nat) (z6359 z6358 : Int), True → (0 ≤ z6359 ∧ z6359 ≤ 0) → (0 ≤ z6358 ∧ z6358 ≤ 0) → (z6359 = 1 → allLe μ 118 z6358 6) → rtI μ f_hands z6358 z6359 → 1 < (nL6360 : Int) → sV (gG l D c H0 sa) mX12_wish (sRm 2 0 0) (sZ (gG l D c H0 sa) 0 0 (qI w [184999, 185999, 186999] μ (fun z μ1 => ((-2147483648) ≤ z ∧ z ≤ 2147483647) ∧ (wiA μ μ1 184 185 186 8 118 f_hands z) ∧ True))) 48 [(0, .ref 106), (1, iv z6359), (2, iv z6358)] [] (mk w μ) 0 0 := by
      intro nL6360
      induction nL6360 with
      | zero => intro z6359 z6358 _ h6361 h6362 R6366 R6367 h6368; exact ((vc_X8_lastStanding_2 h6368)).elim
      | succ nL6360 ih6369 =>
        intro z6359 z6358 _ h6361 h6362 R6366 R6367 h6368
        refine mr_iload_n (pc := 48) (z := z6358) dX12_wish_48 rfl rfl ?_
        refine sv_aload_n (pc := 49) dX12_wish_49 rfl rfl ?_
        refine gk_X12_15 (pc := 50) dX12_wish_50 wF_X12_79 (A_106 hw) q_f_hands ?_
        refine mr_icmp_ge (pc := 53) (tgt := 121) dX12_wish_53 (by decide) (r32 h6362 rfl) (r32 h6326 rfl) (fun h => ((vc_X12_wish_v_17 h h6326 h6362)).elim) (fun _ => ?_)
        refine mr_iload_n (pc := 56) (z := z6359) dX12_wish_56 rfl rfl ?_
        refine mr_if_eq (pc := 57) (tgt := 121) dX12_wish_57 (by decide) (r32 h6361 rfl) (fun _ => ?_) (fun h => ((vc_X10_firstWrongStep_7 h h6361)).elim)
        refine mr_iload_n (pc := 121) (z := z6359) dX12_wish_121 rfl rfl ?_
        refine mr_if_ne (pc := 122) (tgt := 127) dX12_wish_122 (by decide) (r32 h6361 rfl) (fun h => ((vc_X10_firstWrongStep_7 h h6361)).elim) (fun _ => ?_)
        refine mr_iconst (pc := 125) (z := (-1)) dX12_wish_125 ?_
        exact mr_iret dX12_wish_126 rfl (le_t rfl) (le_t rfl) hT mF.refl ⟨(rW (c := (-2147483648)) (d := 2147483647) (rR (x := (-1))) rfl), (wiA.bad ((R6367).2 (vc_X4_find_n_11 h6361))), trivial⟩
    refine mr_lvS (lv' := [(0, .ref 106), (1, iv 0), (2, iv 0)]) (List.forall_mem_cons.mpr ⟨rfl, List.forall_mem_cons.mpr ⟨rfl, List.forall_mem_cons.mpr ⟨rfl, fun _ h => absurd h List.not_mem_nil⟩⟩⟩) ?_
    exact L6360 2 0 0 trivial (rR (x := 0)) (rR (x := 0)) (fun _ => allLe.zero (Int.le_refl 0)) (rtI.none (wiP.last q6350 rfl (vc_X4_isWish_v_36 h6352 h6353))) vc_X8_lastStanding_7
  have h6370 : 0 ≤ z6349 ∧ z6349 ≤ 0 := (vc_X4_isWish_v_9 h6352 h6351)
  refine mr_iconst (pc := 40) (z := 1) dX12_wish_40 ?_
  refine sv_goto (pc := 41) (tgt := 45) dX12_wish_41 (by decide) ?_
  refine mr_istore_n (pc := 45) (lv' := [(1, iv 1), (0, .ref 106)]) dX12_wish_45 rfl (by decide) rfl ?_
  refine mr_iconst (pc := 46) (z := 0) dX12_wish_46 ?_
  refine mr_istore_n (pc := 47) (lv' := [(2, iv 0), (1, iv 1), (0, .ref 106)]) dX12_wish_47 rfl (by decide) rfl ?_
  have L7582 : ∀ (nL7582 : Nat) (z7581 z7580 : Int), True → (0 ≤ z7581 ∧ z7581 ≤ 1) → (0 ≤ z7580 ∧ z7580 ≤ 7) → (z7581 = 1 → allLe μ 118 z7580 6) → rtI μ f_hands z7580 z7581 → (8 - z7580) < (nL7582 : Int) → sV (gG l D c H0 sa) mX12_wish (sRm 2 0 0) (sZ (gG l D c H0 sa) 0 0 (qI w [184999, 185999, 186999] μ (fun z μ1 => ((-2147483648) ≤ z ∧ z ≤ 2147483647) ∧ (wiA μ μ1 184 185 186 8 118 f_hands z) ∧ True))) 48 [(0, .ref 106), (1, iv z7581), (2, iv z7580)] [] (mk w μ) 0 0 := by
    intro nL7582
    induction nL7582 with
    | zero => intro z7581 z7580 _ h7583 h7584 R7588 R7589 h7590; exact ((vc_X12_isOffered_3 h7590 h7584)).elim
    | succ nL7582 ih7591 =>
      intro z7581 z7580 _ h7583 h7584 R7588 R7589 h7590
      refine mr_iload_n (pc := 48) (z := z7580) dX12_wish_48 rfl rfl ?_
      refine sv_aload_n (pc := 49) dX12_wish_49 rfl rfl ?_
      refine gk_X12_15 (pc := 50) dX12_wish_50 wF_X12_79 (A_106 hw) q_f_hands ?_
      refine mr_icmp_ge (pc := 53) (tgt := 121) dX12_wish_53 (by decide) (r32 h7584 rfl) (r32 h6326 rfl) (fun h7592 => ?_) (fun h7592 => ?_)
      · have h7593 : 2 ≤ z7580 ∧ z7580 ≤ 7 := (vc_X12_wish_v_29 h7592 h6282 h6308 h6326 h7584)
        refine mr_iload_n (pc := 121) (z := z7581) dX12_wish_121 rfl rfl ?_
        refine mr_if_ne (pc := 122) (tgt := 127) dX12_wish_122 (by decide) (r32 h7583 rfl) (fun h7594 => ?_) (fun h7594 => ?_)
        · have h7595 : 1 ≤ z7581 ∧ z7581 ≤ 1 := (vc_X12_ring_24 h7594 h7583)
          refine sv_aload_n (pc := 127) dX12_wish_127 rfl rfl ?_
          refine gf_X12_16 (pc := 128) dX12_wish_128 wF_X12_82 (A_106 hw) hT ?_
          refine mr_iconst (pc := 131) (z := 0) dX12_wish_131 ?_
          refine lk_118 (pc := 132) dX12_wish_132 (A_118 hw) (rIx (n := 20) (rR (x := 0)) rfl) q6328 ?_
          have h7596 : z6327 ≤ 6 := allLe.at (R7588 (vc_X12_best_l_18 h7594 h7595)) vc_X12_through_6 (vc_X12_wish_v_33 h6282 h6308 h7592 h6326 h7593) q6328
          have h7597 : 1 ≤ z6327 ∧ z6327 ≤ 6 := (vc_X12_wish_v_34 h7596 h6330 h6348)
          refine mr_istore_n (pc := 133) (lv' := [(2, iv z6327), (0, .ref 106), (1, iv z7581)]) dX12_wish_133 rfl (by decide) rfl ?_
          refine mr_iconst (pc := 134) (z := 0) dX12_wish_134 ?_
          refine mr_istore_n (pc := 135) (lv' := [(3, iv 0), (2, iv z6327), (0, .ref 106), (1, iv z7581)]) dX12_wish_135 rfl (by decide) rfl ?_
          have L7911 : ∀ (nL7911 : Nat) (z7910 : Int), True → (0 ≤ z7910 ∧ z7910 ≤ 5) → noW μ 185 186 8 118 (z6327) f_hands z7910 → (6 - z7910) < (nL7911 : Int) → sV (gG l D c H0 sa) mX12_wish (sRm 2 0 0) (sZ (gG l D c H0 sa) 0 0 (qI w [184999, 185999, 186999] μ (fun z μ1 => ((-2147483648) ≤ z ∧ z ≤ 2147483647) ∧ (wiA μ μ1 184 185 186 8 118 f_hands z) ∧ True))) 136 [(0, .ref 106), (2, iv z6327), (3, iv z7910)] [] (mk w μ) 0 0 := by
            intro nL7911
            induction nL7911 with
            | zero => intro z7910 _ h7912 R7916 h7917; exact ((vc_X4_actOf_1 h7917 h7912)).elim
            | succ nL7911 ih7918 =>
              intro z7910 _ h7912 R7916 h7917
              refine mr_iload_n (pc := 136) (z := z7910) dX12_wish_136 rfl rfl ?_
              refine sv_aload_n (pc := 137) dX12_wish_137 rfl rfl ?_
              refine gf_X12_118 (pc := 138) dX12_wish_138 wF_X12_514 (A_106 hw) hT ?_
              refine mr_iload_n (pc := 141) (z := z6327) dX12_wish_141 rfl rfl ?_
              refine la_184 (pc := 142) dX12_wish_142 (A_184 hw) hT (rIx (n := 7) h7597 rfl) fun z7919 q7920 h7921 => ?_
              refine mr_icmp_ge (pc := 143) (tgt := 164) dX12_wish_143 (by decide) (r32 h7912 rfl) (r32 h7921 rfl) (fun h7922 => ?_) (fun h7922 => ?_)
              · refine sv_aload_n (pc := 164) dX12_wish_164 rfl rfl ?_
                refine gf_X12_118 (pc := 165) dX12_wish_165 wF_X12_514 (A_106 hw) hT ?_
                refine mr_iload_n (pc := 168) (z := z6327) dX12_wish_168 rfl rfl ?_
                refine lk_184 (pc := 169) dX12_wish_169 (A_184 hw) (rIx (n := 7) h7597 rfl) q7920 ?_
                refine mr_iconst (pc := 170) (z := 5) dX12_wish_170 ?_
                refine mr_icmp_ne (pc := 171) (tgt := 177) dX12_wish_171 (by decide) (r32 h7921 rfl) (r32 (rR (x := 5)) rfl) (fun h7923 => ?_) (fun h7923 => ?_)
                · have h7924 : 0 ≤ z7919 ∧ z7919 ≤ 4 := (vc_X12_wish_v_36 h7923 h7922 h7912 h7921)
                  refine mr_iconst (pc := 177) (z := 5) dX12_wish_177 ?_
                  refine mr_iload_n (pc := 178) (z := z6327) dX12_wish_178 rfl rfl ?_
                  refine mr_imul (pc := 179) (x := 5) (y := z6327) dX12_wish_179 ?_
                  refine sv_aload_n (pc := 180) dX12_wish_180 rfl rfl ?_
                  refine gf_X12_118 (pc := 181) dX12_wish_181 wF_X12_514 (A_106 hw) hT ?_
                  refine mr_iload_n (pc := 184) (z := z6327) dX12_wish_184 rfl rfl ?_
                  refine lk_184 (pc := 185) dX12_wish_185 (A_184 hw) (rIx (n := 7) h7597 rfl) q7920 ?_
                  refine mr_iadd (pc := 186) (x := (5 * z6327)) (y := z7919) dX12_wish_186 ?_
                  refine mr_istore_n (pc := 187) (lv' := [(3, iv ((5 * z6327) + z7919)), (0, .ref 106), (2, iv z6327)]) dX12_wish_187 rfl (by decide) rfl ?_
                  refine sv_aload_n (pc := 188) dX12_wish_188 rfl rfl ?_
                  refine gf_X12_119 (pc := 189) dX12_wish_189 wF_X12_517 (A_106 hw) hT ?_
                  refine mr_iload_n (pc := 192) (z := ((5 * z6327) + z7919)) dX12_wish_192 rfl rfl ?_
                  refine sv_aload_n (pc := 193) dX12_wish_193 rfl rfl ?_
                  refine gk_X12_15 (pc := 194) dX12_wish_194 wF_X12_79 (A_106 hw) q_f_hands ?_
                  refine ss_185 (pc := 197) dX12_wish_197 (A_185 hw) hT (rIx (n := 35) (rAdd (e := 5) (f := 34) (rMulL (n := 5) (e := 5) (f := 30) h7597 rfl) h7924 rfl) rfl) (rW (c := 0) (d := 7) h6326 rfl) fun μ7925 u7926 T7927 => ?_
                  refine mr_iconst (pc := 198) (z := 0) dX12_wish_198 ?_
                  refine mr_istore (pc := 199) (lv' := [(4, iv 0), (3, iv ((5 * z6327) + z7919)), (0, .ref 106), (2, iv z6327)]) dX12_wish_199 (by decide) rfl ?_
                  have L8046 : ∀ (nL8046 : Nat) (z8044 : Int) (μ8045 : mM), mT w μ8045 → mF [186999] w μ7925 μ8045 → (0 ≤ z8044 ∧ z8044 ≤ 7) → (z8044 ≤ f_hands) → cpT μ μ8045 186 118 (8 * ((5 * z6327) + z7919)) z8044 → (8 - z8044) < (nL8046 : Int) → sV (gG l D c H0 sa) mX12_wish (sRm 2 0 0) (sZ (gG l D c H0 sa) 0 0 (qI w [184999, 185999, 186999] μ (fun z μ1 => ((-2147483648) ≤ z ∧ z ≤ 2147483647) ∧ (wiA μ μ1 184 185 186 8 118 f_hands z) ∧ True))) 201 [(0, .ref 106), (2, iv z6327), (3, iv ((5 * z6327) + z7919)), (4, iv z8044)] [] (mk w μ8045) 0 0 := by
                    intro nL8046
                    induction nL8046 with
                    | zero => intro z8044 μ8045 T8048 F8049 h8047 h8051 R8052 h8053; exact ((vc_X12_wish_v_37 h8053 h8051 h6282 h6308 h7592 h6326 h7593 h8047)).elim
                    | succ nL8046 ih8054 =>
                      intro z8044 μ8045 T8048 F8049 h8047 h8051 R8052 h8053
                      refine mr_iload (pc := 201) (z := z8044) dX12_wish_201 rfl ?_
                      refine sv_aload_n (pc := 203) dX12_wish_203 rfl rfl ?_
                      refine gk_X12_15 (pc := 204) dX12_wish_204 wF_X12_79 (A_106 hw) (F8049.f (A_106 hw) rfl (u7926.f (Or.inl (mAt.ne (A_185 hw) (A_106 hw) rfl)) q_f_hands)) ?_
                      refine mr_icmp_ge (pc := 207) (tgt := 235) dX12_wish_207 (by decide) (r32 h8047 rfl) (r32 h6326 rfl) (fun h8063 => ?_) (fun h8063 => ?_)
                      · have h8064 : 2 ≤ z8044 ∧ z8044 ≤ 7 := (vc_X12_wish_v_38 h8063 h6282 h6308 h7592 h8051 h6326 h7593 h8047)
                        refine sv_aload_n (pc := 235) dX12_wish_235 rfl rfl ?_
                        refine gf_X12_118 (pc := 236) dX12_wish_236 wF_X12_514 (A_106 hw) T8048 ?_
                        refine mr_iload_n (pc := 239) (z := z6327) dX12_wish_239 rfl rfl ?_
                        refine sv_dup2 (pc := 240) dX12_wish_240 rfl rfl ?_
                        refine lk_184 (pc := 241) dX12_wish_241 (A_184 hw) (rIx (n := 7) h7597 rfl) (F8049.f (A_184 hw) rfl (u7926.f (Or.inl (mAt.ne (A_185 hw) (A_184 hw) rfl)) q7920)) ?_
                        refine mr_iconst (pc := 242) (z := 1) dX12_wish_242 ?_
                        refine mr_iadd (pc := 243) (x := z7919) (y := 1) dX12_wish_243 ?_
                        refine ss_184 (pc := 244) dX12_wish_244 (A_184 hw) T8048 (rIx (n := 7) h7597 rfl) (rW (c := 0) (d := 5) (rAdd (e := 1) (f := 5) h7924 (rR (x := 1)) rfl) rfl) fun μ8065 u8066 T8067 => ?_
                        refine sv_aload_n (pc := 245) dX12_wish_245 rfl rfl ?_
                        refine gf_X12_118 (pc := 246) dX12_wish_246 wF_X12_514 (A_106 hw) T8067 ?_
                        refine mr_iload_n (pc := 249) (z := z6327) dX12_wish_249 rfl rfl ?_
                        refine lk_184 (pc := 250) dX12_wish_250 (A_184 hw) (rIx (n := 7) h7597 rfl) u8066.1 ?_
                        exact mr_iret dX12_wish_251 rfl (le_t rfl) (le_t rfl) T8067 (mF.up (mF.call (mF.up mF.refl (A_185 hw) u7926 rfl) F8049 rfl) (A_184 hw) u8066 rfl) ⟨(rW (c := (-2147483648)) (d := 2147483647) (rAdd (e := 1) (f := 5) h7924 (rR (x := 1)) rfl) rfl), (wiA.add ((R7589).yes (vc_X12_best_l_18 h7594 h7595) (vc_X12_wish_v_39 h6282 h6308 h7592 h8051 h8063 h6326 h7593 h8064)) q6328 q7920 ((R7916).le (vc_X12_wish_v_40 h7922 h7923 h7912 h7924)) (vc_X12_wish_v_45 h7922 h7923 h7912 h7924) (awT.of (one.up (one.fr (one.oth one.refl u7926 rfl) F8049 (A_184 hw) rfl rfl) (vc_X12_wish_v_41 h6330 h7596 h7597) u8066) u8066.1 (one.oth (one.fr (one.up one.refl (vc_X12_wish_v_42 h6330 h7596 h7922 h7923 h7597 h7912 h7924) u7926) F8049 (A_185 hw) rfl rfl) u8066 rfl) (u8066.f (Or.inl (mAt.ne (A_184 hw) (A_185 hw) rfl)) (F8049.f (A_185 hw) rfl u7926.1)) (cpT.oth R8052 u8066 rfl) (vc_X12_wish_v_43 h6282 h6308 h6330 h7592 h7596 h7922 h7923 h8051 h8063 h6326 h7597 h7593 h7912 h7924 h8064) (vc_X12_wish_v_44 h6330 h7596 h7922 h7923 h7597 h7912 h7924)) (vc_X12_wish_v_46 h7922 h7923 h7912 h7924)), trivial⟩
                      have h8068 : 0 ≤ z8044 ∧ z8044 ≤ 6 := (vc_X12_wish_v_47 h8063 h6282 h6308 h7592 h8051 h6326 h7593 h8047)
                      refine sv_aload_n (pc := 210) dX12_wish_210 rfl rfl ?_
                      refine gf_X12_120 (pc := 211) dX12_wish_211 wF_X12_520 (A_106 hw) T8048 ?_
                      refine mr_bipush (pc := 214) (z := 8) dX12_wish_214 (by decide) ?_
                      refine mr_iload_n (pc := 216) (z := ((5 * z6327) + z7919)) dX12_wish_216 rfl rfl ?_
                      refine mr_imul (pc := 217) (x := 8) (y := ((5 * z6327) + z7919)) dX12_wish_217 ?_
                      refine mr_iload (pc := 218) (z := z8044) dX12_wish_218 rfl ?_
                      refine mr_iadd (pc := 220) (x := (8 * ((5 * z6327) + z7919))) (y := z8044) dX12_wish_220 ?_
                      refine sv_aload_n (pc := 221) dX12_wish_221 rfl rfl ?_
                      refine gf_X12_16 (pc := 222) dX12_wish_222 wF_X12_82 (A_106 hw) T8048 ?_
                      refine mr_iload (pc := 225) (z := z8044) dX12_wish_225 rfl ?_
                      refine la_118 (pc := 227) dX12_wish_227 (A_118 hw) T8048 (rIx (n := 20) h8068 rfl) fun z8069 q8070 h8071 => ?_
                      have h8072 : z8069 ≤ 6 := allLe.at (R7588 (vc_X12_best_l_18 h7594 h7595)) (vc_X12_wish_v_48 h8051 h8063 h6282 h6308 h7592 h6326 h7593 h8068) (vc_X12_wish_v_49 h6282 h6308 h7592 h8051 h8063 h6326 h7593 h8068) ((((mF.call (mF.up mF.refl (A_185 hw) u7926 rfl) F8049 rfl) : mF [185999, 186999] w μ μ8045).f (A_118 hw) rfl rfl).symm.trans q8070)
                      have h8073 : 0 ≤ z8069 ∧ z8069 ≤ 6 := (vc_X4_find_v_1 h8072 h8071)
                      refine ss_186 (pc := 228) dX12_wish_228 (A_186 hw) T8048 (rIx (n := 280) (rAdd (e := 40) (f := 278) (rMulL (n := 8) (e := 40) (f := 272) (rAdd (e := 5) (f := 34) (rMulL (n := 5) (e := 5) (f := 30) h7597 rfl) h7924 rfl) rfl) h8068 rfl) rfl) h8073 fun μ8074 u8075 T8076 => ?_
                      refine mr_iinc (pc := 229) (lv' := [(4, iv (z8044 + 1)), (0, .ref 106), (2, iv z6327), (3, iv ((5 * z6327) + z7919))]) dX12_wish_229 rfl (by decide) rfl ?_
                      refine sv_goto (pc := 232) (tgt := 201) dX12_wish_232 (by decide) ?_
                      refine mr_lvS (lv' := [(0, .ref 106), (2, iv z6327), (3, iv ((5 * z6327) + z7919)), (4, iv (z8044 + 1))]) (List.forall_mem_cons.mpr ⟨rfl, List.forall_mem_cons.mpr ⟨rfl, List.forall_mem_cons.mpr ⟨rfl, List.forall_mem_cons.mpr ⟨rfl, fun _ h => absurd h List.not_mem_nil⟩⟩⟩⟩) ?_
                      exact ih8054 (z8044 + 1) μ8074 T8076 (mF.up (mF.call mF.refl F8049 rfl) (A_186 hw) u8075 rfl) (rW (c := 0) (d := 7) (rAdd (e := 1) (f := 7) h8068 (rR (x := 1)) rfl) rfl) (vc_X12_wish_v_51 h6282 h6308 h7592 h8051 h8063 h6326 h7593 h8068) (cpT.next R8052 (vc_X12_wish_v_53 h6330 h7596 h7922 h7923 h8051 h8063 h6282 h6308 h7592 h6326 h7597 h7593 h7912 h7924 h8068) ((((mF.call (mF.up mF.refl (A_185 hw) u7926 rfl) F8049 rfl) : mF [185999, 186999] w μ μ8045).f (A_118 hw) rfl rfl).symm.trans q8070) u8075 (vc_X12_wish_v_54 h6330 h7596 h7922 h7923 h8051 h8063 h6282 h6308 h7592 h6326 h7597 h7593 h7912 h7924 h8068)) (vc_X12_wish_v_52 (nS h8053) h8051 h8063 h6282 h6308 h7592 h6326 h7593 h8068)
                  refine mr_lvS (lv' := [(0, .ref 106), (2, iv z6327), (3, iv ((5 * z6327) + z7919)), (4, iv 0)]) (List.forall_mem_cons.mpr ⟨rfl, List.forall_mem_cons.mpr ⟨rfl, List.forall_mem_cons.mpr ⟨rfl, List.forall_mem_cons.mpr ⟨rfl, fun _ h => absurd h List.not_mem_nil⟩⟩⟩⟩) ?_
                  exact L8046 9 0 μ7925 T7927 mF.refl (rW (c := 0) (d := 7) (rR (x := 0)) rfl) (vc_X12_wish_v_55 h6282 h6308 h7592 h6326 h7593) ((cpT.zero vc_X12_isOffered_v_15).b0 (fun i => u7926.2 118 i (Or.inl (by decide))) (fun i => u7926.2 186 i (Or.inl (by decide)))) vc_X12_isOffered_10
                have h8077 : 5 ≤ z7919 ∧ z7919 ≤ 5 := (vc_X12_wish_v_58 h7923 h7922 h7912 h7921)
                refine mr_bipush (pc := 174) (z := (-3)) dX12_wish_174 (by decide) ?_
                exact mr_iret dX12_wish_176 rfl (le_t rfl) (le_t rfl) hT mF.refl ⟨(rW (c := (-2147483648)) (d := 2147483647) (rR (x := (-3))) rfl), (wiA.full ((R7589).yes (vc_X12_best_l_18 h7594 h7595) (vc_X12_wish_v_59 h6282 h6308 h7592 h6326 h7593)) q6328 q7920 ((R7916).le (vc_X12_wish_v_60 h7922 h7923 h7912 h8077)) (vc_X12_wish_v_61 h7922 h7923 h7912 h8077)), trivial⟩
              have h8078 : 0 ≤ z7910 ∧ z7910 ≤ 4 := (vc_X4_prepare_v_72 h7922 h7912 h7921)
              have h8079 : 1 ≤ z7919 ∧ z7919 ≤ 5 := (vc_X4_prepare_v_73 h7922 h8078 h7921)
              refine sv_aload_n (pc := 146) dX12_wish_146 rfl rfl ?_
              refine mr_iload_n (pc := 147) (z := z6327) dX12_wish_147 rfl rfl ?_
              refine mr_iload_n (pc := 148) (z := z7910) dX12_wish_148 rfl rfl ?_
              refine mr_cVP (pc := 149) (c_X12_isWished_v hw hT (rW (c := 0) (d := 6) h7597 rfl) h8078 q_f_hands (vc_X12_wish_v_64 h6282 h6308 h7592 h6326 h7593)) (gOk _ _ _ _ _) dX12_wish_149 (tX12_isWished _ _ _ _ _) ⟨wV_X12_isWished, wL_X12_isWished⟩ wM_X12_716 (gCX12 _ _ _ _ _) rfl (A_106 hw) rfl ⟨le_t rfl, le_t rfl⟩ ⟨le_t rfl, le_t rfl⟩ rfl (le_t rfl) fun z8084 h8083 => ?_
              refine mr_if_eq (pc := 152) (tgt := 158) dX12_wish_152 (by decide) (r32 h8083.1 rfl) (fun h8085 => ?_) (fun h8085 => ?_)
              · have h8086 : 0 ≤ z8084 ∧ z8084 ≤ 0 := (vc_X12_ring_22 h8085 h8083.1)
                refine mr_iinc (pc := 158) (lv' := [(3, iv (z7910 + 1)), (0, .ref 106), (2, iv z6327)]) dX12_wish_158 rfl (by decide) rfl ?_
                refine sv_goto (pc := 161) (tgt := 136) dX12_wish_161 (by decide) ?_
                refine mr_lvS (lv' := [(0, .ref 106), (2, iv z6327), (3, iv (z7910 + 1))]) (List.forall_mem_cons.mpr ⟨rfl, List.forall_mem_cons.mpr ⟨rfl, List.forall_mem_cons.mpr ⟨rfl, fun _ h => absurd h List.not_mem_nil⟩⟩⟩) ?_
                exact ih7918 (z7910 + 1) trivial (rW (c := 0) (d := 5) (rAdd (e := 1) (f := 5) h8078 (rR (x := 1)) rfl) rfl) (noW.next (s := ((5 * z6327) + z7910)) R7916 (vc_X12_wish_v_67 h7922 h8078 h8079) (vc_X12_wish_v_68 h6330 h7596 h7922 h7597 h8078 h8079) (h8083.2.2.1 (vc_X12_acted_w_17 h8085 h8086))) (vc_X4_prepare_v_74 (nS h7917) h7922 h8078 h8079)
              have h8087 : 1 ≤ z8084 ∧ z8084 ≤ 1 := (vc_X12_ring_24 h8085 h8083.1)
              refine mr_bipush (pc := 155) (z := (-2)) dX12_wish_155 (by decide) ?_
              exact mr_iret dX12_wish_157 rfl (le_t rfl) (le_t rfl) hT mF.refl ⟨(rW (c := (-2147483648)) (d := 2147483647) (rR (x := (-2))) rfl), (wiA.has ((R7589).yes (vc_X12_best_l_18 h7594 h7595) (vc_X12_wish_v_59 h6282 h6308 h7592 h6326 h7593)) q6328 q7920 (hasW.of (s := ((5 * z6327) + z7910)) (vc_X12_wish_v_71 h7922 h8078 h8079) (vc_X12_wish_v_68 h6330 h7596 h7922 h7597 h8078 h8079) (h8083.2.1 (vc_X12_best_l_18 h8085 h8087)))), trivial⟩
          refine mr_lvS (lv' := [(0, .ref 106), (2, iv z6327), (3, iv 0)]) (List.forall_mem_cons.mpr ⟨rfl, List.forall_mem_cons.mpr ⟨rfl, List.forall_mem_cons.mpr ⟨rfl, fun _ h => absurd h List.not_mem_nil⟩⟩⟩) ?_
          exact L7911 7 0 trivial (rW (c := 0) (d := 5) (rR (x := 0)) rfl) (noW.zero vc_X12_isOffered_v_15) vc_X4_actOf_9
        have h8088 : 0 ≤ z7581 ∧ z7581 ≤ 0 := (vc_X12_ring_22 h7594 h7583)
        refine mr_iconst (pc := 125) (z := (-1)) dX12_wish_125 ?_
        exact mr_iret dX12_wish_126 rfl (le_t rfl) (le_t rfl) hT mF.refl ⟨(rW (c := (-2147483648)) (d := 2147483647) (rR (x := (-1))) rfl), (wiA.bad ((R7589).2 (vc_X12_acted_w_17 h7594 h8088))), trivial⟩
      have h8089 : 0 ≤ z7580 ∧ z7580 ≤ 6 := (vc_X12_wish_v_76 h7592 h6282 h6308 h6326 h7584)
      refine mr_iload_n (pc := 56) (z := z7581) dX12_wish_56 rfl rfl ?_
      refine mr_if_eq (pc := 57) (tgt := 121) dX12_wish_57 (by decide) (r32 h7583 rfl) (fun h8090 => ?_) (fun h8090 => ?_)
      · have h8091 : 0 ≤ z7581 ∧ z7581 ≤ 0 := (vc_X12_ring_22 h8090 h7583)
        refine mr_iload_n (pc := 121) (z := z7581) dX12_wish_121 rfl rfl ?_
        refine mr_if_ne (pc := 122) (tgt := 127) dX12_wish_122 (by decide) (r32 h8091 rfl) (fun h => ((vc_X10_firstWrongStep_7 h h8091)).elim) (fun _ => ?_)
        refine mr_iconst (pc := 125) (z := (-1)) dX12_wish_125 ?_
        exact mr_iret dX12_wish_126 rfl (le_t rfl) (le_t rfl) hT mF.refl ⟨(rW (c := (-2147483648)) (d := 2147483647) (rR (x := (-1))) rfl), (wiA.bad ((R7589).2 (vc_X12_acted_w_17 h8090 h8091))), trivial⟩
      have h8092 : 1 ≤ z7581 ∧ z7581 ≤ 1 := (vc_X12_ring_24 h8090 h7583)
      refine sv_aload_n (pc := 60) dX12_wish_60 rfl rfl ?_
      refine gf_X12_16 (pc := 61) dX12_wish_61 wF_X12_82 (A_106 hw) hT ?_
      refine mr_iload_n (pc := 64) (z := z7580) dX12_wish_64 rfl rfl ?_
      refine la_118 (pc := 65) dX12_wish_65 (A_118 hw) hT (rIx (n := 20) h8089 rfl) fun z8093 q8094 h8095 => ?_
      refine mr_bipush (pc := 66) (z := 6) dX12_wish_66 (by decide) ?_
      refine mr_icmp_gt (pc := 68) (tgt := 75) dX12_wish_68 (by decide) (r32 h8095 rfl) (r32 (rR (x := 6)) rfl) (fun h8096 => ?_) (fun h8096 => ?_)
      · have h8097 : 7 ≤ z8093 ∧ z8093 ≤ 9 := (vc_X12_wish_v_78 h8096 h8095)
        refine mr_iconst (pc := 75) (z := 0) dX12_wish_75 ?_
        refine mr_istore_n (pc := 76) (lv' := [(1, iv 0), (0, .ref 106), (2, iv z7580)]) dX12_wish_76 rfl (by decide) rfl ?_
        refine mr_iconst (pc := 77) (z := 0) dX12_wish_77 ?_
        refine mr_istore_n (pc := 78) (lv' := [(3, iv 0), (1, iv 0), (0, .ref 106), (2, iv z7580)]) dX12_wish_78 rfl (by decide) rfl ?_
        have L8132 : ∀ (nL8132 : Nat) (z8131 z8130 : Int), True → (0 ≤ z8131 ∧ z8131 ≤ 0) → (0 ≤ z8130 ∧ z8130 ≤ 6) → rjI μ f_hands z7580 z8130 z8131 → (7 - z8130) < (nL8132 : Int) → sV (gG l D c H0 sa) mX12_wish (sRm 2 0 0) (sZ (gG l D c H0 sa) 0 0 (qI w [184999, 185999, 186999] μ (fun z μ1 => ((-2147483648) ≤ z ∧ z ≤ 2147483647) ∧ (wiA μ μ1 184 185 186 8 118 f_hands z) ∧ True))) 79 [(0, .ref 106), (1, iv z8131), (2, iv z7580), (3, iv z8130)] [] (mk w μ) 0 0 := by
          intro nL8132
          induction nL8132 with
          | zero => intro z8131 z8130 _ h8133 h8134 R8138 h8139; exact ((vc_X12_same_14 h8139 h8134)).elim
          | succ nL8132 ih8140 =>
            intro z8131 z8130 _ h8133 h8134 R8138 h8139
            refine mr_iload_n (pc := 79) (z := z8130) dX12_wish_79 rfl rfl ?_
            refine mr_iload_n (pc := 80) (z := z7580) dX12_wish_80 rfl rfl ?_
            refine mr_icmp_ge (pc := 81) (tgt := 115) dX12_wish_81 (by decide) (r32 h8134 rfl) (r32 h8089 rfl) (fun h8143 => ?_) (fun h8143 => ?_)
            · refine mr_iinc (pc := 115) (lv' := [(2, iv (z7580 + 1)), (0, .ref 106), (1, iv z8131), (3, iv z8130)]) dX12_wish_115 rfl (by decide) rfl ?_
              refine sv_goto (pc := 118) (tgt := 48) dX12_wish_118 (by decide) ?_
              refine mr_lvS (lv' := [(0, .ref 106), (1, iv z8131), (2, iv (z7580 + 1))]) (List.forall_mem_cons.mpr ⟨rfl, List.forall_mem_cons.mpr ⟨rfl, List.forall_mem_cons.mpr ⟨rfl, fun _ h => absurd h List.not_mem_nil⟩⟩⟩) ?_
              exact ih7591 z8131 (z7580 + 1) trivial (rW (c := 0) (d := 1) h8133 rfl) (rW (c := 0) (d := 7) (rAdd (e := 1) (f := 7) h8089 (rR (x := 1)) rfl) rfl) (fun h => absurd h (vc_X4_find_n_11 h8133)) (rtI.next R8138 (vc_X12_wish_v_82 h7592 h8143 h6282 h6308 h6326 h8089 h8134) (vc_X12_wish_v_83 h7592 h8143 h6282 h6308 h6326 h8089 h8134)) (vc_X12_wish_v_80 (nS h7590) h7592 h8143 h6282 h6308 h6326 h8089 h8134)
            have h8144 : 0 ≤ z8130 ∧ z8130 ≤ 5 := (vc_X12_wish_v_84 h8143 h7592 h6326 h8089 h8134)
            have h8145 : 1 ≤ z7580 ∧ z7580 ≤ 6 := (vc_X12_wish_v_85 h8143 h7592 h6326 h8089 h8144)
            refine mr_iload_n (pc := 84) (z := z8131) dX12_wish_84 rfl rfl ?_
            refine mr_if_eq (pc := 85) (tgt := 107) dX12_wish_85 (by decide) (r32 h8133 rfl) (fun _ => ?_) (fun h => ((vc_X10_firstWrongStep_7 h h8133)).elim)
            refine mr_iconst (pc := 107) (z := 0) dX12_wish_107 ?_
            refine mr_istore_n (pc := 108) (lv' := [(1, iv 0), (0, .ref 106), (2, iv z7580), (3, iv z8130)]) dX12_wish_108 rfl (by decide) rfl ?_
            refine mr_iinc (pc := 109) (lv' := [(3, iv (z8130 + 1)), (1, iv 0), (0, .ref 106), (2, iv z7580)]) dX12_wish_109 rfl (by decide) rfl ?_
            refine sv_goto (pc := 112) (tgt := 79) dX12_wish_112 (by decide) ?_
            refine mr_lvS (lv' := [(0, .ref 106), (1, iv 0), (2, iv z7580), (3, iv (z8130 + 1))]) (List.forall_mem_cons.mpr ⟨rfl, List.forall_mem_cons.mpr ⟨rfl, List.forall_mem_cons.mpr ⟨rfl, List.forall_mem_cons.mpr ⟨rfl, fun _ h => absurd h List.not_mem_nil⟩⟩⟩⟩) ?_
            exact ih8140 0 (z8130 + 1) trivial (rR (x := 0)) (rW (c := 0) (d := 6) (rAdd (e := 1) (f := 6) h8144 (rR (x := 1)) rfl) rfl) (rjI.skip R8138 (vc_X4_find_n_11 h8133) vc_X12_isOffered_v_40) (vc_X12_wish_v_87 (nS h8139) h8143 h7592 h6326 h8145 h8144)
        refine mr_lvS (lv' := [(0, .ref 106), (1, iv 0), (2, iv z7580), (3, iv 0)]) (List.forall_mem_cons.mpr ⟨rfl, List.forall_mem_cons.mpr ⟨rfl, List.forall_mem_cons.mpr ⟨rfl, List.forall_mem_cons.mpr ⟨rfl, fun _ h => absurd h List.not_mem_nil⟩⟩⟩⟩) ?_
        exact L8132 8 0 0 trivial (rR (x := 0)) (rW (c := 0) (d := 6) (rR (x := 0)) rfl) (rjI.start R7589 (vc_X12_best_l_18 h8090 h8092) (vc_X12_wish_v_91 h6282 h6308 h7592 h6326 h8089) q8094 vc_X12_isOffered_v_15 (vc_X12_wish_v_92 h8096 h8097)) vc_X12_same_46
      have h8146 : 0 ≤ z8093 ∧ z8093 ≤ 6 := (vc_X4_find_v_1 h8096 h8095)
      refine mr_iconst (pc := 71) (z := 1) dX12_wish_71 ?_
      refine sv_goto (pc := 72) (tgt := 76) dX12_wish_72 (by decide) ?_
      refine mr_istore_n (pc := 76) (lv' := [(1, iv 1), (0, .ref 106), (2, iv z7580)]) dX12_wish_76 rfl (by decide) rfl ?_
      refine mr_iconst (pc := 77) (z := 0) dX12_wish_77 ?_
      refine mr_istore_n (pc := 78) (lv' := [(3, iv 0), (1, iv 1), (0, .ref 106), (2, iv z7580)]) dX12_wish_78 rfl (by decide) rfl ?_
      have L8227 : ∀ (nL8227 : Nat) (z8226 z8225 : Int), True → (0 ≤ z8226 ∧ z8226 ≤ 1) → (0 ≤ z8225 ∧ z8225 ≤ 6) → rjI μ f_hands z7580 z8225 z8226 → (7 - z8225) < (nL8227 : Int) → sV (gG l D c H0 sa) mX12_wish (sRm 2 0 0) (sZ (gG l D c H0 sa) 0 0 (qI w [184999, 185999, 186999] μ (fun z μ1 => ((-2147483648) ≤ z ∧ z ≤ 2147483647) ∧ (wiA μ μ1 184 185 186 8 118 f_hands z) ∧ True))) 79 [(0, .ref 106), (1, iv z8226), (2, iv z7580), (3, iv z8225)] [] (mk w μ) 0 0 := by
        intro nL8227
        induction nL8227 with
        | zero => intro z8226 z8225 _ h8228 h8229 R8233 h8234; exact ((vc_X12_same_14 h8234 h8229)).elim
        | succ nL8227 ih8235 =>
          intro z8226 z8225 _ h8228 h8229 R8233 h8234
          refine mr_iload_n (pc := 79) (z := z8225) dX12_wish_79 rfl rfl ?_
          refine mr_iload_n (pc := 80) (z := z7580) dX12_wish_80 rfl rfl ?_
          refine mr_icmp_ge (pc := 81) (tgt := 115) dX12_wish_81 (by decide) (r32 h8229 rfl) (r32 h8089 rfl) (fun h8244 => ?_) (fun h8244 => ?_)
          · refine mr_iinc (pc := 115) (lv' := [(2, iv (z7580 + 1)), (0, .ref 106), (1, iv z8226), (3, iv z8225)]) dX12_wish_115 rfl (by decide) rfl ?_
            refine sv_goto (pc := 118) (tgt := 48) dX12_wish_118 (by decide) ?_
            refine mr_lvS (lv' := [(0, .ref 106), (1, iv z8226), (2, iv (z7580 + 1))]) (List.forall_mem_cons.mpr ⟨rfl, List.forall_mem_cons.mpr ⟨rfl, List.forall_mem_cons.mpr ⟨rfl, fun _ h => absurd h List.not_mem_nil⟩⟩⟩) ?_
            exact ih7591 z8226 (z7580 + 1) trivial h8228 (rW (c := 0) (d := 7) (rAdd (e := 1) (f := 7) h8089 (rR (x := 1)) rfl) rfl) (fun _ => allLe.succ (R7588 (vc_X12_best_l_18 h8090 h8092)) q8094 (vc_X12_wish_v_96 h8096 h8146)) (rtI.next R8233 (vc_X12_wish_v_82 h7592 h8244 h6282 h6308 h6326 h8089 h8229) (vc_X12_wish_v_83 h7592 h8244 h6282 h6308 h6326 h8089 h8229)) (vc_X12_wish_v_80 (nS h7590) h7592 h8244 h6282 h6308 h6326 h8089 h8229)
          have h8245 : 0 ≤ z8225 ∧ z8225 ≤ 5 := (vc_X12_wish_v_84 h8244 h7592 h6326 h8089 h8229)
          have h8246 : 1 ≤ z7580 ∧ z7580 ≤ 6 := (vc_X12_wish_v_85 h8244 h7592 h6326 h8089 h8245)
          refine mr_iload_n (pc := 84) (z := z8226) dX12_wish_84 rfl rfl ?_
          refine mr_if_eq (pc := 85) (tgt := 107) dX12_wish_85 (by decide) (r32 h8228 rfl) (fun h8247 => ?_) (fun h8247 => ?_)
          · have h8248 : 0 ≤ z8226 ∧ z8226 ≤ 0 := (vc_X12_ring_22 h8247 h8228)
            refine mr_iconst (pc := 107) (z := 0) dX12_wish_107 ?_
            refine mr_istore_n (pc := 108) (lv' := [(1, iv 0), (0, .ref 106), (2, iv z7580), (3, iv z8225)]) dX12_wish_108 rfl (by decide) rfl ?_
            refine mr_iinc (pc := 109) (lv' := [(3, iv (z8225 + 1)), (1, iv 0), (0, .ref 106), (2, iv z7580)]) dX12_wish_109 rfl (by decide) rfl ?_
            refine sv_goto (pc := 112) (tgt := 79) dX12_wish_112 (by decide) ?_
            refine mr_lvS (lv' := [(0, .ref 106), (1, iv 0), (2, iv z7580), (3, iv (z8225 + 1))]) (List.forall_mem_cons.mpr ⟨rfl, List.forall_mem_cons.mpr ⟨rfl, List.forall_mem_cons.mpr ⟨rfl, List.forall_mem_cons.mpr ⟨rfl, fun _ h => absurd h List.not_mem_nil⟩⟩⟩⟩) ?_
            exact ih8235 0 (z8225 + 1) trivial (rW (c := 0) (d := 1) (rR (x := 0)) rfl) (rW (c := 0) (d := 6) (rAdd (e := 1) (f := 6) h8245 (rR (x := 1)) rfl) rfl) (rjI.skip R8233 (vc_X12_acted_w_17 h8247 h8248) vc_X12_isOffered_v_40) (vc_X12_wish_v_87 (nS h8234) h8244 h7592 h6326 h8246 h8245)
          have h8249 : 1 ≤ z8226 ∧ z8226 ≤ 1 := (vc_X12_ring_24 h8247 h8228)
          refine sv_aload_n (pc := 88) dX12_wish_88 rfl rfl ?_
          refine gf_X12_16 (pc := 89) dX12_wish_89 wF_X12_82 (A_106 hw) hT ?_
          refine mr_iload_n (pc := 92) (z := z7580) dX12_wish_92 rfl rfl ?_
          refine lk_118 (pc := 93) dX12_wish_93 (A_118 hw) (rIx (n := 20) h8246 rfl) q8094 ?_
          refine sv_aload_n (pc := 94) dX12_wish_94 rfl rfl ?_
          refine gf_X12_16 (pc := 95) dX12_wish_95 wF_X12_82 (A_106 hw) hT ?_
          refine mr_iload_n (pc := 98) (z := z8225) dX12_wish_98 rfl rfl ?_
          refine la_118 (pc := 99) dX12_wish_99 (A_118 hw) hT (rIx (n := 20) h8245 rfl) fun z8250 q8251 h8252 => ?_
          refine mr_icmp_eq (pc := 100) (tgt := 107) dX12_wish_100 (by decide) (r32 h8146 rfl) (r32 h8252 rfl) (fun h8253 => ?_) (fun h8253 => ?_)
          · have h8254 : 0 ≤ z8250 ∧ z8250 ≤ 6 := (vc_X12_wish_v_106 h8253 h8096 h8146 h8252)
            refine mr_iconst (pc := 107) (z := 0) dX12_wish_107 ?_
            refine mr_istore_n (pc := 108) (lv' := [(1, iv 0), (0, .ref 106), (2, iv z7580), (3, iv z8225)]) dX12_wish_108 rfl (by decide) rfl ?_
            refine mr_iinc (pc := 109) (lv' := [(3, iv (z8225 + 1)), (1, iv 0), (0, .ref 106), (2, iv z7580)]) dX12_wish_109 rfl (by decide) rfl ?_
            refine sv_goto (pc := 112) (tgt := 79) dX12_wish_112 (by decide) ?_
            refine mr_lvS (lv' := [(0, .ref 106), (1, iv 0), (2, iv z7580), (3, iv (z8225 + 1))]) (List.forall_mem_cons.mpr ⟨rfl, List.forall_mem_cons.mpr ⟨rfl, List.forall_mem_cons.mpr ⟨rfl, List.forall_mem_cons.mpr ⟨rfl, fun _ h => absurd h List.not_mem_nil⟩⟩⟩⟩) ?_
            exact ih8235 0 (z8225 + 1) trivial (rW (c := 0) (d := 1) (rR (x := 0)) rfl) (rW (c := 0) (d := 6) (rAdd (e := 1) (f := 6) h8245 (rR (x := 1)) rfl) rfl) (rjI.next R8233 (vc_X12_wish_v_107 h7592 h8244 h6282 h6308 h6326 h8246 h8245) (vc_X12_wish_v_108 h6282 h6308 h7592 h8244 h6326 h8246 h8245) q8094 q8251 (vc_X12_wish_v_109 h8096 h8247 h8253 h8146 h8249 h8254)) (vc_X12_wish_v_87 (nS h8234) h8244 h7592 h6326 h8246 h8245)
          refine mr_iconst (pc := 103) (z := 1) dX12_wish_103 ?_
          refine sv_goto (pc := 104) (tgt := 108) dX12_wish_104 (by decide) ?_
          refine mr_istore_n (pc := 108) (lv' := [(1, iv 1), (0, .ref 106), (2, iv z7580), (3, iv z8225)]) dX12_wish_108 rfl (by decide) rfl ?_
          refine mr_iinc (pc := 109) (lv' := [(3, iv (z8225 + 1)), (1, iv 1), (0, .ref 106), (2, iv z7580)]) dX12_wish_109 rfl (by decide) rfl ?_
          refine sv_goto (pc := 112) (tgt := 79) dX12_wish_112 (by decide) ?_
          refine mr_lvS (lv' := [(0, .ref 106), (1, iv 1), (2, iv z7580), (3, iv (z8225 + 1))]) (List.forall_mem_cons.mpr ⟨rfl, List.forall_mem_cons.mpr ⟨rfl, List.forall_mem_cons.mpr ⟨rfl, List.forall_mem_cons.mpr ⟨rfl, fun _ h => absurd h List.not_mem_nil⟩⟩⟩⟩) ?_
          exact ih8235 1 (z8225 + 1) trivial (rW (c := 0) (d := 1) (rR (x := 1)) rfl) (rW (c := 0) (d := 6) (rAdd (e := 1) (f := 6) h8245 (rR (x := 1)) rfl) rfl) (rjI.next R8233 (vc_X12_wish_v_107 h7592 h8244 h6282 h6308 h6326 h8246 h8245) (vc_X12_wish_v_108 h6282 h6308 h7592 h8244 h6326 h8246 h8245) q8094 q8251 (vc_X12_wish_v_110 h8096 h8247 h8253 h8146 h8249 h8252)) (vc_X12_wish_v_87 (nS h8234) h8244 h7592 h6326 h8246 h8245)
      refine mr_lvS (lv' := [(0, .ref 106), (1, iv 1), (2, iv z7580), (3, iv 0)]) (List.forall_mem_cons.mpr ⟨rfl, List.forall_mem_cons.mpr ⟨rfl, List.forall_mem_cons.mpr ⟨rfl, List.forall_mem_cons.mpr ⟨rfl, fun _ h => absurd h List.not_mem_nil⟩⟩⟩⟩) ?_
      exact L8227 8 1 0 trivial (rW (c := 0) (d := 1) (rR (x := 1)) rfl) (rW (c := 0) (d := 6) (rR (x := 0)) rfl) (rjI.start R7589 (vc_X12_best_l_18 h8090 h8092) (vc_X12_wish_v_91 h6282 h6308 h7592 h6326 h8089) q8094 vc_X12_isOffered_v_15 (vc_X12_wish_v_111 h8096 h8146)) vc_X12_same_46
  refine mr_lvS (lv' := [(0, .ref 106), (1, iv 1), (2, iv 0)]) (List.forall_mem_cons.mpr ⟨rfl, List.forall_mem_cons.mpr ⟨rfl, List.forall_mem_cons.mpr ⟨rfl, fun _ h => absurd h List.not_mem_nil⟩⟩⟩) ?_
  exact L7582 9 1 0 trivial (rW (c := 0) (d := 1) (rR (x := 1)) rfl) (rW (c := 0) (d := 7) (rR (x := 0)) rfl) (fun _ => allLe.zero (Int.le_refl 0)) (rtI.one (vc_X12_wish_v_112 h6282 h6308 h6326) (q6350.trans (vc_X12_goes_7 h6352 h6370)) rfl vc_X12_isOffered_v_15) vc_X12_isOffered_10
theorem vc_X4_forget_w_2 {z103 z104 : Int} (h0 : 7 ≤ z103) (h1 : z104 ≤ 5 * z103 - 5) (h2 : 1 ≤ z103 ∧ z103 ≤ 7) (h3 : 0 ≤ z104 ∧ z104 ≤ 30) : 7 ≤ z103 ∧ z103 ≤ 7 := by omega
theorem vc_X4_forget_w_3 {z103 z104 : Int} (h0 : z104 ≤ 5 * z103 - 5) (h1 : 7 ≤ z103) (h2 : 7 ≤ z103 ∧ z103 ≤ 7) (h3 : 0 ≤ z104 ∧ z104 ≤ 30) : z103 = 7 := by omega
theorem vc_X4_forget_w_5 {z103 z104 : Int} (h0 : z103 < 7) (h1 : z104 ≤ 5 * z103 - 5) (h2 : 1 ≤ z103 ∧ z103 ≤ 7) (h3 : 0 ≤ z104 ∧ z104 ≤ 30) : 1 ≤ z103 ∧ z103 ≤ 6 := by omega
theorem vc_X4_forget_w_6 {z103 z104 z133 : Int} (h0 : z104 ≤ 5 * z103 - 5) (h1 : z103 < 7) (h2 : 1 ≤ z103 ∧ z103 ≤ 6) (h3 : 0 ≤ z104 ∧ z104 ≤ 30) (h4 : 0 ≤ z133 ∧ z133 ≤ 5) : 0 ≤ (z104 + z133) ∧ (z104 + z133) ≤ 30 := by omega
theorem vc_X4_forget_w_7 {z103 z104 z133 : Int} (h0 : z104 ≤ 5 * z103 - 5) (h1 : z103 < 7) (h2 : 1 ≤ z103 ∧ z103 ≤ 6) (h3 : 0 ≤ z104 ∧ z104 ≤ 30) (h4 : 0 ≤ z133 ∧ z133 ≤ 5) : (z104 + z133) ≤ 5 * (z103 + 1) - 5 := by omega
theorem vc_X4_forget_w_8 {N z103 z104 : Int} (h0 : (8 - z103) < N + 1) (h1 : z104 ≤ 5 * z103 - 5) (h2 : z103 < 7) (h3 : 1 ≤ z103 ∧ z103 ≤ 6) (h4 : 0 ≤ z104 ∧ z104 ≤ 30) : (8 - (z103 + 1)) < N := by omega
theorem vc_X4_forget_w_9 {z103 z104 : Int} (h0 : z104 ≤ 5 * z103 - 5) (h1 : z103 < 7) (h2 : 1 ≤ z103 ∧ z103 ≤ 6) (h3 : 0 ≤ z104 ∧ z104 ≤ 30) : 1 ≤ z103 := by omega
theorem vc_X4_forget_w_10 {z103 z104 z133 : Int} (h0 : z104 ≤ 5 * z103 - 5) (h1 : z103 < 7) (h2 : 1 ≤ z103 ∧ z103 ≤ 6) (h3 : 0 ≤ z104 ∧ z104 ≤ 30) (h4 : 0 ≤ z133 ∧ z133 ≤ 5) : (z104 + z133) = z104 + z133 := by omega
set_option maxRecDepth 4000 in
set_option maxHeartbeats 4000000 in
theorem c_X4_forget_w {l : Launch} {D : va_G} {c : Nat → ClassId} {H0 : Heap} {sa : Nat × Nat × (Nat → Int32)} {w : mW} {μ : mM} (hw : mWF w) (hT : mT w μ) : sC (gG l D c H0 sa) mX4_forget 1 0 0 [.ref 94] (mk w μ) (qI w [94010, 94011, 95999] μ (fun z μ1 => ∃ o_k : Int, μ1 94 10 = o_k ∧ ((-2147483648) ≤ z ∧ z ≤ 2147483647) ∧ (foI μ μ1 95 7 z) ∧ (o_k = 0) ∧ True)) := by
  refine sC.of rfl (by decide) (le_t rfl) ?_
  refine mr_lvE (lv' := [(0, .ref 94)]) rfl ?_
  refine mr_iconst (pc := 0) (z := 0) dX4_forget_0 ?_
  refine mr_istore_n (pc := 1) (lv' := [(1, iv 0), (0, .ref 94)]) dX4_forget_1 rfl (by decide) rfl ?_
  refine mr_iconst (pc := 2) (z := 1) dX4_forget_2 ?_
  refine mr_istore_n (pc := 3) (lv' := [(2, iv 1), (1, iv 0), (0, .ref 94)]) dX4_forget_3 rfl (by decide) rfl ?_
  have L106 : ∀ (nL106 : Nat) (z104 z103 : Int) (μ105 : mM), mT w μ105 → mF [95999] w μ μ105 → (0 ≤ z104 ∧ z104 ≤ 30) → (1 ≤ z103 ∧ z103 ≤ 7) → (z104 ≤ 5 * z103 - 5) → foI μ μ105 95 z103 z104 → (8 - z103) < (nL106 : Int) → sV (gG l D c H0 sa) mX4_forget (sRm 1 0 0) (sZ (gG l D c H0 sa) 0 0 (qI w [94010, 94011, 95999] μ (fun z μ1 => ∃ o_k : Int, μ1 94 10 = o_k ∧ ((-2147483648) ≤ z ∧ z ≤ 2147483647) ∧ (foI μ μ1 95 7 z) ∧ (o_k = 0) ∧ True))) 4 [(0, .ref 94), (1, iv z104), (2, iv z103)] [] (mk w μ105) 0 0 := by
    intro nL106
    induction nL106 with
    | zero => intro z104 z103 μ105 T109 F110 h107 h108 h112 R113 h114; exact ((vc_X12_clear_v_1 h114 h112 h108 h107)).elim
    | succ nL106 ih115 =>
      intro z104 z103 μ105 T109 F110 h107 h108 h112 R113 h114
      refine mr_iload_n (pc := 4) (z := z103) dX4_forget_4 rfl rfl ?_
      refine mr_bipush (pc := 5) (z := 7) dX4_forget_5 (by decide) ?_
      refine mr_icmp_ge (pc := 7) (tgt := 32) dX4_forget_7 (by decide) (r32 h108 rfl) (r32 (rR (x := 7)) rfl) (fun h124 => ?_) (fun h124 => ?_)
      · have h125 : 7 ≤ z103 ∧ z103 ≤ 7 := (vc_X4_forget_w_2 h124 h112 h108 h107)
        refine sv_aload_n (pc := 32) dX4_forget_32 rfl rfl ?_
        refine mr_iconst (pc := 33) (z := 0) dX4_forget_33 ?_
        refine pf_X4_10 (pc := 34) dX4_forget_34 wF_X4_52 (A_94 hw) T109 (rW (c := 0) (d := 1) (rR (x := 0)) rfl) fun μ126 u127 T128 => ?_
        refine sv_aload_n (pc := 37) dX4_forget_37 rfl rfl ?_
        refine mr_iconst (pc := 38) (z := 0) dX4_forget_38 ?_
        refine pf_X4_11 (pc := 39) dX4_forget_39 wF_X4_56 (A_94 hw) T128 (rW (c := 0) (d := 1) (rR (x := 0)) rfl) fun μ129 u130 T131 => ?_
        refine mr_iload_n (pc := 42) (z := z104) dX4_forget_42 rfl rfl ?_
        exact mr_iret dX4_forget_43 rfl (le_t rfl) (le_t rfl) T131 (mF.up (mF.up (mF.call mF.refl F110 rfl) (A_94 hw) u127 rfl) (A_94 hw) u130 rfl) ⟨0, (u130.f (Or.inr (by decide)) u127.1), (rW (c := (-2147483648)) (d := 2147483647) h107 rfl), (foI.k7 (foI.oth (foI.oth R113 u127 rfl) u130 rfl) (vc_X4_forget_w_3 h112 h124 h125 h107)), vc_X3_forget_z_1, trivial⟩
      have h132 : 1 ≤ z103 ∧ z103 ≤ 6 := (vc_X4_forget_w_5 h124 h112 h108 h107)
      refine mr_iload_n (pc := 10) (z := z104) dX4_forget_10 rfl rfl ?_
      refine sv_aload_n (pc := 11) dX4_forget_11 rfl rfl ?_
      refine gf_X4_12 (pc := 12) dX4_forget_12 wF_X4_11 (A_94 hw) T109 ?_
      refine mr_iload_n (pc := 15) (z := z103) dX4_forget_15 rfl rfl ?_
      refine la_95 (pc := 16) dX4_forget_16 (A_95 hw) T109 (rIx (n := 7) h132 rfl) fun z133 q134 h135 => ?_
      refine mr_iadd (pc := 17) (x := z104) (y := z133) dX4_forget_17 ?_
      refine mr_istore_n (pc := 18) (lv' := [(1, iv (z104 + z133)), (0, .ref 94), (2, iv z103)]) dX4_forget_18 rfl (by decide) rfl ?_
      refine sv_aload_n (pc := 19) dX4_forget_19 rfl rfl ?_
      refine gf_X4_12 (pc := 20) dX4_forget_20 wF_X4_11 (A_94 hw) T109 ?_
      refine mr_iload_n (pc := 23) (z := z103) dX4_forget_23 rfl rfl ?_
      refine mr_iconst (pc := 24) (z := 0) dX4_forget_24 ?_
      refine ss_95 (pc := 25) dX4_forget_25 (A_95 hw) T109 (rIx (n := 7) h132 rfl) (rW (c := 0) (d := 5) (rR (x := 0)) rfl) fun μ136 u137 T138 => ?_
      refine mr_iinc (pc := 26) (lv' := [(2, iv (z103 + 1)), (1, iv (z104 + z133)), (0, .ref 94)]) dX4_forget_26 rfl (by decide) rfl ?_
      refine sv_goto (pc := 29) (tgt := 4) dX4_forget_29 (by decide) ?_
      refine mr_lvS (lv' := [(0, .ref 94), (1, iv (z104 + z133)), (2, iv (z103 + 1))]) (List.forall_mem_cons.mpr ⟨rfl, List.forall_mem_cons.mpr ⟨rfl, List.forall_mem_cons.mpr ⟨rfl, fun _ h => absurd h List.not_mem_nil⟩⟩⟩) ?_
      exact ih115 (z104 + z133) (z103 + 1) μ136 T138 (mF.up (mF.call mF.refl F110 rfl) (A_95 hw) u137 rfl) (vc_X4_forget_w_6 h112 h124 h132 h107 h135) (rW (c := 1) (d := 7) (rAdd (e := 2) (f := 7) h132 (rR (x := 1)) rfl) rfl) (vc_X4_forget_w_7 h112 h124 h132 h107 h135) (foI.next R113 (vc_X4_forget_w_9 h112 h124 h132 h107) q134 (vc_X4_forget_w_10 h112 h124 h132 h107 h135) u137) (vc_X4_forget_w_8 (nS h114) h112 h124 h132 h107)
  refine mr_lvS (lv' := [(0, .ref 94), (1, iv 0), (2, iv 1)]) (List.forall_mem_cons.mpr ⟨rfl, List.forall_mem_cons.mpr ⟨rfl, List.forall_mem_cons.mpr ⟨rfl, fun _ h => absurd h List.not_mem_nil⟩⟩⟩) ?_
  exact L106 8 0 1 μ hT mF.refl (rW (c := 0) (d := 30) (rR (x := 0)) rfl) (rW (c := 1) (d := 7) (rR (x := 1)) rfl) vc_X12_clear_v_10 foI.start vc_X4_isRest_6
